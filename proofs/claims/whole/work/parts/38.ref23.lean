/-! THE REFERENCE: needs -/
/-! what a feature needs, by others, too -/
def rchB (G : Nat → Int32) : Nat → Nat → Nat → Bool
  | 0, _, _ => false
  | n + 1, f, x => anyB (fun i => decide (ndF G f i = x) || rchB G n (ndF G f i) x) (nNof G f)
theorem anyB_iff {P : Nat → Bool} : ∀ {n : Nat}, anyB P n = true ↔ ∃ i, i < n ∧ P i = true
  | 0 => ⟨fun h => (by cases h), fun h => by obtain ⟨i, h1, -⟩ := h; omega⟩
  | n + 1 => by
    rw [anyB_s, Bool.or_eq_true, anyB_iff]
    constructor
    · rintro (⟨i, h1, h2⟩ | h)
      · exact ⟨i, by omega, h2⟩
      · exact ⟨n, by omega, h⟩
    · rintro ⟨i, h1, h2⟩
      by_cases e : i = n
      · subst e; exact Or.inr h2
      · exact Or.inl ⟨i, by omega, h2⟩
theorem rch_s {G : Nat → Int32} {n f x : Nat} : rchB G (n + 1) f x = true ↔ ∃ i, i < nNof G f ∧ (ndF G f i = x ∨ rchB G n (ndF G f i) x = true) := by
  show anyB (fun i => decide (ndF G f i = x) || rchB G n (ndF G f i) x) (nNof G f) = true ↔ _
  rw [anyB_iff]
  simp only [Bool.or_eq_true, decide_eq_true_eq]
theorem rch_mono {G : Nat → Int32} : ∀ {n f x : Nat}, rchB G n f x = true → rchB G (n + 1) f x = true
  | 0, _, _, h => by cases h
  | n + 1, f, x, h => by
    obtain ⟨i, h1, h2⟩ := rch_s.mp h
    exact rch_s.mpr ⟨i, h1, h2.imp id (fun q => rch_mono q)⟩
/-- by its last step -/
theorem rch_last {G : Nat → Int32} : ∀ {n f x : Nat}, rchB G (n + 1) f x = true → ∃ o, (o = f ∨ rchB G n f o = true) ∧ ∃ i, i < nNof G o ∧ ndF G o i = x
  | 0, f, x, h => by
    obtain ⟨i, h1, h2⟩ := rch_s.mp h
    rcases h2 with q | q
    · exact ⟨f, Or.inl rfl, i, h1, q⟩
    · cases q
  | n + 1, f, x, h => by
    obtain ⟨i, h1, h2⟩ := rch_s.mp h
    rcases h2 with q | q
    · exact ⟨f, Or.inl rfl, i, h1, q⟩
    · obtain ⟨o, h3, j, h4, h5⟩ := rch_last q
      refine ⟨o, Or.inr (rch_s.mpr ⟨i, h1, ?_⟩), j, h4, h5⟩
      rcases h3 with e | e
      · exact Or.inl e.symm
      · exact Or.inr e
theorem rch_fuel {G : Nat → Int32} {nF : Nat} {rk : Nat → Nat} (hr : RK G nF rk) : ∀ (k f : Nat), rk f = k → f < nF → ∀ a b x, k < a → k < b → rchB G a f x = true → rchB G b f x = true := by
  intro k
  induction k using Nat.strongRecOn with | ind k ih => ?_
  intro f hk hf a b x ha hb h
  obtain ⟨a, rfl⟩ : ∃ a', a = a' + 1 := ⟨a - 1, by omega⟩
  obtain ⟨b, rfl⟩ : ∃ b', b = b' + 1 := ⟨b - 1, by omega⟩
  obtain ⟨i, h1, h2⟩ := rch_s.mp h
  obtain ⟨q1, q2⟩ := (hr f hf).2 i h1
  exact rch_s.mpr ⟨i, h1, h2.imp id (fun q => ih _ (by omega) (ndF G f i) rfl q1 a b x (by omega) (by omega) q)⟩
theorem rch_next {G : Nat → Int32} : ∀ {n f o i : Nat}, (o = f ∨ rchB G n f o = true) → i < nNof G o → rchB G (n + 1) f (ndF G o i) = true
  | n, f, o, i, Or.inl h, hi => by subst h; exact rch_s.mpr ⟨i, hi, Or.inl rfl⟩
  | 0, f, o, i, Or.inr h, hi => by cases h
  | n + 1, f, o, i, Or.inr h, hi => by
    obtain ⟨j, h1, h2⟩ := rch_s.mp h
    rcases h2 with q | q
    · exact rch_s.mpr ⟨j, h1, Or.inr (rch_next (Or.inl q.symm) hi)⟩
    · exact rch_s.mpr ⟨j, h1, Or.inr (rch_next (Or.inr q) hi)⟩
/-- needed, by others, too -/
def RC (G : Nat → Int32) (f x : Nat) : Prop := rchB G 12 f x = true
theorem RC.next {G : Nat → Int32} {nF : Nat} {rk : Nat → Nat} (hr : RK G nF rk) {f o i : Nat} (hf : f < nF) (h : o = f ∨ RC G f o) (hi : i < nNof G o) : RC G f (ndF G o i) :=
  rch_fuel hr _ f rfl hf 13 12 _ (by have := (hr f hf).1; omega) (hr f hf).1 (rch_next h hi)
theorem RC.lt {G : Nat → Int32} {nF : Nat} {rk : Nat → Nat} (hr : RK G nF rk) : ∀ {n f x : Nat}, f < nF → rchB G n f x = true → x < nF ∧ rk x < rk f
  | 0, _, _, _, h => by cases h
  | n + 1, f, x, hf, h => by
    obtain ⟨i, h1, h2⟩ := rch_s.mp h
    obtain ⟨q1, q2⟩ := (hr f hf).2 i h1
    rcases h2 with q | q
    · subst q; exact ⟨q1, q2⟩
    · have := RC.lt hr q1 q
      exact ⟨this.1, by omega⟩
/-- a set that is closed holds all -/
theorem rch_closed {G : Nat → Int32} {S : Nat → Prop} {f : Nat} (h : ∀ o, (o = f ∨ S o) → ∀ i, i < nNof G o → S (ndF G o i)) : ∀ {n x : Nat}, rchB G n f x = true → S x
  | 0, _, h => by cases h
  | n + 1, x, hx => by
    obtain ⟨o, h1, i, h2, h3⟩ := rch_last hx
    subst h3
    exact h o (h1.imp id (fun q => rch_closed h q)) i h2
def nds (G : Nat → Int32) (nF f : Nat) : Int32 := bits (rchB G 12 f) nF
theorem bt_bits {P : Nat → Bool} : ∀ {n i : Nat}, n ≤ 32 → i < 32 → bt (bits P n) i = (decide (i < n) && P i)
  | 0, i, _, _ => by
    show bt (nI 0) i = _
    rw [show nI 0 = 0 from rfl, b_0]; simp
  | n + 1, i, hn, hi => by
    show bt (if P n = true then bits P n ||| (nI 1 <<< (nI n &&& 31)) else bits P n) i = _
    by_cases hp : P n = true
    · rw [if_pos hp, b_set (by omega) hi, bt_bits (by omega) hi]
      by_cases e : i = n
      · subst e; simp [hp]
      · by_cases e2 : i < n
        · simp [e, e2, show i < n + 1 by omega]
        · simp [e, e2, show ¬ i < n + 1 by omega]
    · rw [if_neg hp, bt_bits (by omega) hi]
      by_cases e : i = n
      · subst e; simp [hp]
      · by_cases e2 : i < n
        · simp [e2, show i < n + 1 by omega]
        · simp [e2, show ¬ i < n + 1 by omega]
theorem nds_of {G : Nat → Int32} {nF f : Nat} {S : Int32} (hF : nF ≤ 12) (h1 : ∀ x, x < 32 → bt S x = true → x < nF ∧ RC G f x) (h2 : ∀ x, RC G f x → x < 32 → bt S x = true) : S = nds G nF f := by
  refine b_ext (fun i hi => ?_)
  unfold nds
  rw [bt_bits (by omega) hi]
  by_cases hb : bt S i = true
  · obtain ⟨q1, q2⟩ := h1 i hi hb
    rw [hb, show rchB G 12 f i = true from q2]; simp [q1]
  · have : rchB G 12 f i = false := by
      cases e : rchB G 12 f i with
      | false => rfl
      | true => exact absurd (h2 i e hi) hb
    rw [this]; simp at hb ⊢; exact hb
theorem bt_nds {G : Nat → Int32} {nF f x : Nat} (hF : nF ≤ 12) (hx : x < nF) : bt (nds G nF f) x = true ↔ RC G f x := by
  unfold nds RC
  rw [bt_bits (by omega) (by omega)]; simp [hx]
/-- the round's invariants -/
def NRi (G : Nat → Int32) (nF f k : Nat) (S : Int32) : Prop := (∀ x, x < 32 → bt S x = true → x < nF ∧ RC G f x) ∧ ∀ x, x < 32 → rchB G k f x = true → bt S x = true
theorem NRi.fin {G : Nat → Int32} {nF f : Nat} {S : Int32} {rk : Nat → Nat} (hr : RK G nF rk) (hF : nF ≤ 12) (hf : f < nF) (h : NRi G nF f 13 S) : S = nds G nF f := nds_of hF h.1 (fun x hx h32 => h.2 x h32 (rch_mono hx))
/-- what holds in a round, o features through -/
def NRo (G : Nat → Int32) (nF f o : Nat) (had S : Int32) : Prop := (∀ x, x < 32 → bt S x = true → x < nF ∧ RC G f x) ∧ (∀ x, x < 32 → bt had x = true → bt S x = true) ∧ ∀ o', o' < o → (o' = f ∨ bt had o' = true) → ∀ i, i < nNof G o' → bt S (ndF G o' i) = true
theorem NRo.start {G : Nat → Int32} {nF f k : Nat} {S : Int32} (h : NRi G nF f k S) : NRo G nF f 0 S S := ⟨h.1, fun _ _ h => h, fun o' h => absurd h (by omega)⟩
theorem NRo.more {G : Nat → Int32} {nF f k : Nat} {had S : Int32} {rk : Nat → Nat} (hr : RK G nF rk) (hF : nF ≤ 12) (hf : f < nF) (h0 : NRi G nF f k had) (h : NRo G nF f nF had S) : NRi G nF f (k + 1) S := by
  refine ⟨h.1, fun x hx hx2 => ?_⟩
  obtain ⟨o, h1, i, h2, h3⟩ := rch_last hx2
  subst h3
  rcases h1 with e | e
  · exact h.2.2 o (by omega) (Or.inl e) i h2
  · have := RC.lt hr hf e
    exact h.2.2 o (by omega) (Or.inr (h0.2 o (by omega) e)) i h2
theorem NRo.same {G : Nat → Int32} {nF f : Nat} {had : Int32} {rk : Nat → Nat} (hr : RK G nF rk) (hF : nF ≤ 12) (hf : f < nF) (h : NRo G nF f nF had had) : had = nds G nF f := by
  refine nds_of hF h.1 (fun x hx h32 => ?_)
  have hc := rch_closed (G := G) (f := f) (S := fun x => x < nF ∧ bt had x = true) (fun o ho i hi => ?_) hx
  · exact hc.2
  · have ho2 : o < nF := by
      rcases ho with e | e
      · omega
      · exact e.1
    exact ⟨((hr o ho2).2 i hi).1, h.2.2 o ho2 (ho.imp id (fun q => q.2)) i hi⟩
/-- one more bit -/
theorem NR_bit {G : Nat → Int32} {nF f o i : Nat} {S : Int32} {rk : Nat → Nat} (hr : RK G nF rk) (hF : nF ≤ 12) (hf : f < nF) (ho : o < nF) (h : ∀ x, x < 32 → bt S x = true → x < nF ∧ RC G f x) (h2 : o = f ∨ bt S o = true) (hi : i < nNof G o) : (∀ x, x < 32 → bt (S ||| (nI 1 <<< (nI (ndF G o i) &&& 31))) x = true → x < nF ∧ RC G f x) ∧ (∀ x, x < 32 → bt S x = true → bt (S ||| (nI 1 <<< (nI (ndF G o i) &&& 31))) x = true) ∧ bt (S ||| (nI 1 <<< (nI (ndF G o i) &&& 31))) (ndF G o i) = true := by
  have hn := ((hr o ho).2 i hi).1
  refine ⟨fun x hx hb => ?_, fun x hx hb => ?_, ?_⟩
  · rw [b_set (by omega) hx, Bool.or_eq_true] at hb
    rcases hb with q | q
    · exact h x hx q
    · have := of_decide_eq_true q
      subst this
      exact ⟨hn, RC.next hr hf (h2.imp id (fun q => (h o (by omega) q).2)) hi⟩
  · rw [b_set (by omega) hx, hb]; rfl
  · rw [b_set (by omega) (by omega)]; simp
/-! ranks from ranks -/
theorem cnt_lt {P Q : Nat → Bool} : ∀ {n : Nat}, (∀ j, j < n → P j = true → Q j = true) → (∃ y, y < n ∧ Q y = true ∧ P y = false) → cnt P n < cnt Q n
  | 0, _, ⟨y, h, _⟩ => absurd h (by omega)
  | n + 1, h, ⟨y, h1, h2, h3⟩ => by
    have hle : ∀ {m : Nat}, (∀ j, j < m → P j = true → Q j = true) → cnt P m ≤ cnt Q m := by
      intro m
      induction m with
      | zero => intro _; exact Nat.le_refl _
      | succ m ih =>
        intro hm
        have := ih (fun j hj => hm j (by omega))
        rw [cnt_s, cnt_s]
        by_cases e : P m = true
        · rw [if_pos e, if_pos (hm m (by omega) e)]; omega
        · rw [if_neg e]; split <;> omega
    rw [cnt_s, cnt_s]
    by_cases e : y = n
    · subst e
      have := hle (m := y) (fun j hj => h j (by omega))
      rw [if_neg (by rw [h3]; decide), if_pos h2]; omega
    · have := cnt_lt (n := n) (fun j hj => h j (by omega)) ⟨y, by omega, h2, h3⟩
      by_cases e2 : P n = true
      · rw [if_pos e2, if_pos (h n (by omega) e2)]; omega
      · rw [if_neg e2]; split <;> omega
theorem RK_of {G : Nat → Int32} {nF : Nat} (hF : nF ≤ 12) {r : Nat → Nat} (h : ∀ F, F < nF → ∀ n, n < nNof G F → ndF G F n < nF ∧ r (ndF G F n) < r F) : ∃ rk, RK G nF rk := by
  refine ⟨fun x => cnt (fun y => decide (r y < r x)) nF, fun F hF2 => ⟨?_, fun n hn => ?_⟩⟩
  · have h1 := cnt_lt (P := fun y => decide (r y < r F)) (Q := fun _ => true) (n := nF) (fun _ _ _ => rfl) ⟨F, hF2, rfl, decide_eq_false (by omega)⟩
    have h2 := cnt_le (fun _ => true) nF
    show cnt (fun y => decide (r y < r F)) nF < 12
    omega
  · obtain ⟨q1, q2⟩ := h F hF2 n hn
    exact ⟨q1, cnt_lt (fun j _ hj => decide_eq_true (by have := of_decide_eq_true hj; omega)) ⟨ndF G F n, q1, decide_eq_true q2, decide_eq_false (by omega)⟩⟩
def g_needs1 (G : Nat → Int32) (F : Nat) (x v : Int32) : Nat → Int32 := u1 (u1 (u1 G (174 + 84 * F + (14 + 2 * (G (174 + 84 * F + 5)).toInt.toNat)) x) (174 + 84 * F + (14 + 2 * (G (174 + 84 * F + 5)).toInt.toNat + 1)) v) (174 + 84 * F + 5) (nI ((G (174 + 84 * F + 5)).toInt.toNat + 1))
abbrev okNeed (G : Nat → Int32) (nF : Nat) (f x v : Int32) : Prop := (0 ≤ f.toInt ∧ f.toInt < (nF : Int)) ∧ (0 ≤ x.toInt ∧ x.toInt < (nF : Int)) ∧ 0 ≤ v.toInt ∧ v.toInt ≤ (G (174 + 84 * x.toInt.toNat + 0)).toInt
def o_needs (G : Nat → Int32) (nF : Nat) (f x v : Int32) : Out := if (0 ≤ f.toInt ∧ f.toInt < (nF : Int)) ∧ (0 ≤ x.toInt ∧ x.toInt < (nF : Int)) ∧ 0 ≤ v.toInt ∧ v.toInt ≤ (G (174 + 84 * x.toInt.toNat + 0)).toInt then
  (if f.toInt = x.toInt ∨ bt (nds G nF x.toInt.toNat) f.toInt.toNat = true then .inr 3 else if (G (174 + 84 * f.toInt.toNat + 5)).toInt = 3 then .inr 4 else .inl (nI ((G (174 + 84 * f.toInt.toNat + 5)).toInt.toNat + 1))) else .inr 0
def g_needs (G : Nat → Int32) (nF : Nat) (f x v : Int32) : Nat → Int32 := if (0 ≤ f.toInt ∧ f.toInt < (nF : Int)) ∧ (0 ≤ x.toInt ∧ x.toInt < (nF : Int)) ∧ 0 ≤ v.toInt ∧ v.toInt ≤ (G (174 + 84 * x.toInt.toNat + 0)).toInt then
  (if f.toInt = x.toInt ∨ bt (nds G nF x.toInt.toNat) f.toInt.toNat = true then G else if (G (174 + 84 * f.toInt.toNat + 5)).toInt = 3 then G else g_needs1 G f.toInt.toNat x v) else G
def o_needed (G : Nat → Int32) (nF : Nat) (f : Int32) : Out := if 0 ≤ f.toInt ∧ f.toInt < (nF : Int) then .inl (nds G nF f.toInt.toNat) else .inr 0
theorem l_M_needsOf_38 {d : Nat} {I : Nat → Nat → Int32} {R : Nat → Nat → Option Nat} {L : Nat → Nat → Int64} {sh : Nat → Nat × Nat} {N : Nat} (hS : ShOK sh) (hR : RfOK R) {kA fA cA gA nk nt : Nat} (hT : TRf R sh kA fA cA gA nk) (hTn : TNe kA fA cA gA) (hV : TV (I kA) (I fA) (I cA) nt) (hnt : nt ≤ nk) (hnk : nk ≤ 1000000) {nP nF : Nat} (hW : WFA (I 762) nP nF nt) {rk : Nat → Nat} (hrk : RK (I 762) nF rk) {f : Nat} (hf : f < nF) {o2 k : Nat} (ho2 : o2 < nF) {had S0 : Int32} {Q : Option Value → HS → Prop} (hd : 3 ≤ d) (hk : ∀ S, (∀ x, x < 32 → bt S x = true → x < nF ∧ RC (I 762) f x) → (∀ x, x < 32 → bt had x = true → bt S x = true) → (∀ x, x < 32 → bt S0 x = true → bt S x = true) → ((o2 = f ∨ bt had o2 = true) → ∀ i, i < nNof (I 762) o2 → bt S (ndF (I 762) o2 i) = true) → Run mi_M_needsOf d 0 0 90 [(0, .ref 761), (1, .int (nI f)), (2, .int S), (4, .int (nI k)), (5, .int had), (6, .int (nI o2))] [] (I, R, L, sh, N) Q) : ∀ (n_ : Nat) (n : Nat) (S : Int32), 4 - n = n_ → (∀ x, x < 32 → bt S x = true → x < nF ∧ RC (I 762) f x) → (∀ x, x < 32 → bt had x = true → bt S x = true) → (∀ i, i < n → bt S (ndF (I 762) o2 i) = true) → (n ≤ nNof (I 762) o2) → (∀ x, x < 32 → bt S0 x = true → bt S x = true) → Run mi_M_needsOf d 0 0 38 [(0, .ref 761), (1, .int (nI f)), (2, .int S), (4, .int (nI k)), (5, .int had), (6, .int (nI o2)), (7, .int (nI n))] [] (I, R, L, sh, N) Q := by
  intro n_
  induction n_ using Nat.strongRecOn with | ind n_ ih_ => ?_
  intro n S hn_ v0_ v1_ v2_ v3_ v4_
  obtain ⟨hPc, hP24, hFc, hF12, hWF, hWP⟩ := id hW
  obtain ⟨tpo2, klo2, sko2, fbo2, nRo2, nNo2, nOo2, fro2, too2, -, -, -, -, -, ⟨a5o2, b5o2, cc5o2, -⟩, -⟩ := wfn (hWF o2 ho2)
  obtain ⟨-, -, -, -, -, -, -, -, -, -, wNo2, -⟩ := hWF o2 ho2
  have hnb : n ≤ nNo2 := by have := v3_; unfold nNof at this; rw [b5o2, Int.toNat_natCast] at this; exact this
  refine r_iload (pc2 := 40) d_M_needsOf_38 rfl rfl ?_
  refine r_iload_n (pc2 := 41) d_M_needsOf_40 rfl rfl ?_
  refine q_icmp_eq (tgt := 54) (A := ((o2 : Nat) : Int)) (B := ((f : Nat) : Int)) (pc2 := 44) d_M_needsOf_41 rfl rfl (nI_toInt (by omega)) (nI_toInt (by omega)) (fun c1 => ?_) (fun c1 => ?_)
  · refine r_iload (pc2 := 56) d_M_needsOf_54 rfl rfl ?_
    refine r_aload_n (x := some 761) (pc2 := 57) d_M_needsOf_56 rfl rfl ?_
    refine r_iload (pc2 := 59) d_M_needsOf_57 rfl rfl ?_
    refine r_iconst (v := nI 5) (pc2 := 60) d_M_needsOf_59 rfl (by decide) ?_
    refine q_callv (M2 := mi_M_of) (pc2 := 63) d_M_needsOf_60 rfl k_M_76 cm_M_of cv_M_of (sh_761 hS) (by decide) rfl rfl rfl (Nat.le_of_ble_eq_true rfl) (c_M_of (I := I) (F := o2) (W := 5) hS hR (by omega)) (d2 := d - 1) (by omega) (Nat.le_of_eq (Nat.zero_add _)) (Nat.le_of_eq (Nat.zero_add _)) ?_
    refine q_top (y := nI nNo2) (a5o2) ?_
    refine q_icmp_ge (tgt := 90) (A := ((n : Nat) : Int)) (B := ((nNo2 : Nat) : Int)) (pc2 := 66) d_M_needsOf_63 rfl rfl (nI_toInt (by omega)) (nI_toInt (by omega)) (fun c2 => ?_) (fun c2 => ?_)
    · refine Run.sub (l2 := [(0, .ref 761), (1, .int (nI f)), (2, .int S), (4, .int (nI k)), (5, .int had), (6, .int (nI o2))]) ⟨rfl, rfl, rfl, rfl, rfl, rfl, trivial⟩ ?_
      exact hk S v0_ v1_ v4_ (fun _ i hi => v2_ i (by unfold nNof at hi; rw [b5o2, Int.toNat_natCast] at hi; omega))
    · have hnn : n < nNof (I 762) o2 := by unfold nNof; rw [b5o2, Int.toNat_natCast]; omega
      obtain ⟨q1, q2⟩ := (hrk o2 ho2).2 n (by rw [b5o2, Int.toNat_natCast]; omega)
      have hnd : I 762 (174 + 84 * o2 + (14 + 2 * n)) = nI (ndF (I 762) o2 n) := by unfold ndF; exact eq_nI (Int.toNat_of_nonneg (wNo2 n (by omega)).1.1).symm
      refine r_iload_n (pc2 := 67) d_M_needsOf_66 rfl rfl ?_
      refine r_iconst (v := nI 1) (pc2 := 68) d_M_needsOf_67 rfl (by decide) ?_
      refine r_aload_n (x := some 761) (pc2 := 69) d_M_needsOf_68 rfl rfl ?_
      refine r_iload (pc2 := 71) d_M_needsOf_69 rfl rfl ?_
      refine r_bipush (v := nI 14) (pc2 := 73) d_M_needsOf_71 rfl (by decide) ?_
      refine r_iconst (v := nI 2) (pc2 := 74) d_M_needsOf_73 rfl (by decide) ?_
      refine r_iload (pc2 := 76) d_M_needsOf_74 rfl rfl ?_
      refine q_imulN (pc2 := 77) d_M_needsOf_76 rfl ?_
      refine q_iaddN (pc2 := 78) d_M_needsOf_77 rfl ?_
      refine q_callv (M2 := mi_M_of) (pc2 := 81) d_M_needsOf_78 rfl k_M_76 cm_M_of cv_M_of (sh_761 hS) (by decide) rfl rfl rfl (Nat.le_of_ble_eq_true rfl) (c_M_of (I := I) (F := o2) (W := 14 + 2 * n) hS hR (by omega)) (d2 := d - 1) (by omega) (Nat.le_of_eq (Nat.zero_add _)) (Nat.le_of_eq (Nat.zero_add _)) ?_
      refine q_top (y := nI (ndF (I 762) o2 n)) (hnd) ?_
      refine r_ishl (pc2 := 82) d_M_needsOf_81 rfl ?_
      refine r_ior (pc2 := 83) d_M_needsOf_82 rfl ?_
      refine r_istore_n (pc2 := 84) d_M_needsOf_83 rfl rfl (Nat.le_of_ble_eq_true rfl) ?_
      refine q_iinc (b := 1) (pc2 := 87) d_M_needsOf_84 rfl rfl (by decide) (Nat.le_of_ble_eq_true rfl) ?_
      refine r_goto (tgt := 38) d_M_needsOf_87 rfl ?_
      obtain ⟨y1, y2, y3⟩ := NR_bit (G := I 762) (f := f) (o := o2) (i := n) hrk hF12 hf ho2 v0_ (Or.inl (by omega)) hnn
      refine Run.sub (l2 := [(0, .ref 761), (1, .int (nI f)), (2, .int (S ||| ((nI 1) <<< ((nI (ndF (I 762) o2 n)) &&& 31)))), (4, .int (nI k)), (5, .int had), (6, .int (nI o2)), (7, .int (nI (n + 1)))]) ⟨rfl, rfl, rfl, rfl, rfl, rfl, rfl, trivial⟩ ?_
      exact ih_ (4 - (n + 1)) (by omega) (n + 1) (S ||| (nI 1 <<< (nI (ndF (I 762) o2 n) &&& 31))) rfl (y1) (fun x hx hb => y2 x hx (v1_ x hx hb)) (fun i hi => by
        rcases Nat.lt_or_ge i n with q | q
        · have hlt : ndF (I 762) o2 i < nF := ((hrk o2 ho2).2 i (by rw [b5o2, Int.toNat_natCast]; omega)).1
          exact y2 _ (by omega) (v2_ i q)
        · rw [show i = n by omega]; exact y3) (by unfold nNof; rw [b5o2, Int.toNat_natCast]; omega) (fun x hx hb => y2 x hx (v4_ x hx hb))
  · refine r_iload_n (pc2 := 45) d_M_needsOf_44 rfl rfl ?_
    refine r_iload (pc2 := 47) d_M_needsOf_45 rfl rfl ?_
    refine r_ishr (pc2 := 48) d_M_needsOf_47 rfl ?_
    refine r_iconst (v := nI 1) (pc2 := 49) d_M_needsOf_48 rfl (by decide) ?_
    refine r_iand (pc2 := 50) d_M_needsOf_49 rfl ?_
    rw [b_test (x := S) (i := o2) (by omega)]
    by_cases hb : bt S o2 = true
    · rw [if_pos hb]
      refine r_iconst (v := nI 1) (pc2 := 51) d_M_needsOf_50 rfl (by decide) ?_
      refine q_icmp_ne (tgt := 90) (A := (1 : Int)) (B := (1 : Int)) (pc2 := 54) d_M_needsOf_51 rfl rfl (nI_toInt (by omega)) (nI_toInt (by omega)) (fun c3 => ?_) (fun c3 => ?_)
      · exfalso; omega
      refine r_iload (pc2 := 56) d_M_needsOf_54 rfl rfl ?_
      refine r_aload_n (x := some 761) (pc2 := 57) d_M_needsOf_56 rfl rfl ?_
      refine r_iload (pc2 := 59) d_M_needsOf_57 rfl rfl ?_
      refine r_iconst (v := nI 5) (pc2 := 60) d_M_needsOf_59 rfl (by decide) ?_
      refine q_callv (M2 := mi_M_of) (pc2 := 63) d_M_needsOf_60 rfl k_M_76 cm_M_of cv_M_of (sh_761 hS) (by decide) rfl rfl rfl (Nat.le_of_ble_eq_true rfl) (c_M_of (I := I) (F := o2) (W := 5) hS hR (by omega)) (d2 := d - 1) (by omega) (Nat.le_of_eq (Nat.zero_add _)) (Nat.le_of_eq (Nat.zero_add _)) ?_
      refine q_top (y := nI nNo2) (a5o2) ?_
      refine q_icmp_ge (tgt := 90) (A := ((n : Nat) : Int)) (B := ((nNo2 : Nat) : Int)) (pc2 := 66) d_M_needsOf_63 rfl rfl (nI_toInt (by omega)) (nI_toInt (by omega)) (fun c4 => ?_) (fun c4 => ?_)
      · refine Run.sub (l2 := [(0, .ref 761), (1, .int (nI f)), (2, .int S), (4, .int (nI k)), (5, .int had), (6, .int (nI o2))]) ⟨rfl, rfl, rfl, rfl, rfl, rfl, trivial⟩ ?_
        exact hk S v0_ v1_ v4_ (fun _ i hi => v2_ i (by unfold nNof at hi; rw [b5o2, Int.toNat_natCast] at hi; omega))
      · have hnn : n < nNof (I 762) o2 := by unfold nNof; rw [b5o2, Int.toNat_natCast]; omega
        obtain ⟨q1, q2⟩ := (hrk o2 ho2).2 n (by rw [b5o2, Int.toNat_natCast]; omega)
        have hnd : I 762 (174 + 84 * o2 + (14 + 2 * n)) = nI (ndF (I 762) o2 n) := by unfold ndF; exact eq_nI (Int.toNat_of_nonneg (wNo2 n (by omega)).1.1).symm
        refine r_iload_n (pc2 := 67) d_M_needsOf_66 rfl rfl ?_
        refine r_iconst (v := nI 1) (pc2 := 68) d_M_needsOf_67 rfl (by decide) ?_
        refine r_aload_n (x := some 761) (pc2 := 69) d_M_needsOf_68 rfl rfl ?_
        refine r_iload (pc2 := 71) d_M_needsOf_69 rfl rfl ?_
        refine r_bipush (v := nI 14) (pc2 := 73) d_M_needsOf_71 rfl (by decide) ?_
        refine r_iconst (v := nI 2) (pc2 := 74) d_M_needsOf_73 rfl (by decide) ?_
        refine r_iload (pc2 := 76) d_M_needsOf_74 rfl rfl ?_
        refine q_imulN (pc2 := 77) d_M_needsOf_76 rfl ?_
        refine q_iaddN (pc2 := 78) d_M_needsOf_77 rfl ?_
        refine q_callv (M2 := mi_M_of) (pc2 := 81) d_M_needsOf_78 rfl k_M_76 cm_M_of cv_M_of (sh_761 hS) (by decide) rfl rfl rfl (Nat.le_of_ble_eq_true rfl) (c_M_of (I := I) (F := o2) (W := 14 + 2 * n) hS hR (by omega)) (d2 := d - 1) (by omega) (Nat.le_of_eq (Nat.zero_add _)) (Nat.le_of_eq (Nat.zero_add _)) ?_
        refine q_top (y := nI (ndF (I 762) o2 n)) (hnd) ?_
        refine r_ishl (pc2 := 82) d_M_needsOf_81 rfl ?_
        refine r_ior (pc2 := 83) d_M_needsOf_82 rfl ?_
        refine r_istore_n (pc2 := 84) d_M_needsOf_83 rfl rfl (Nat.le_of_ble_eq_true rfl) ?_
        refine q_iinc (b := 1) (pc2 := 87) d_M_needsOf_84 rfl rfl (by decide) (Nat.le_of_ble_eq_true rfl) ?_
        refine r_goto (tgt := 38) d_M_needsOf_87 rfl ?_
        obtain ⟨y1, y2, y3⟩ := NR_bit (G := I 762) (f := f) (o := o2) (i := n) hrk hF12 hf ho2 v0_ (Or.inr hb) hnn
        refine Run.sub (l2 := [(0, .ref 761), (1, .int (nI f)), (2, .int (S ||| ((nI 1) <<< ((nI (ndF (I 762) o2 n)) &&& 31)))), (4, .int (nI k)), (5, .int had), (6, .int (nI o2)), (7, .int (nI (n + 1)))]) ⟨rfl, rfl, rfl, rfl, rfl, rfl, rfl, trivial⟩ ?_
        exact ih_ (4 - (n + 1)) (by omega) (n + 1) (S ||| (nI 1 <<< (nI (ndF (I 762) o2 n) &&& 31))) rfl (y1) (fun x hx hb => y2 x hx (v1_ x hx hb)) (fun i hi => by
          rcases Nat.lt_or_ge i n with q | q
          · have hlt : ndF (I 762) o2 i < nF := ((hrk o2 ho2).2 i (by rw [b5o2, Int.toNat_natCast]; omega)).1
            exact y2 _ (by omega) (v2_ i q)
          · rw [show i = n by omega]; exact y3) (by unfold nNof; rw [b5o2, Int.toNat_natCast]; omega) (fun x hx hb => y2 x hx (v4_ x hx hb))
    · rw [if_neg hb]
      refine r_iconst (v := nI 1) (pc2 := 51) d_M_needsOf_50 rfl (by decide) ?_
      refine q_icmp_ne (tgt := 90) (A := (0 : Int)) (B := (1 : Int)) (pc2 := 54) d_M_needsOf_51 rfl rfl (nI_toInt (by omega)) (nI_toInt (by omega)) (fun c5 => ?_) (fun c5 => ?_)
      rotate_left
      · exfalso; omega
      refine Run.sub (l2 := [(0, .ref 761), (1, .int (nI f)), (2, .int S), (4, .int (nI k)), (5, .int had), (6, .int (nI o2))]) ⟨rfl, rfl, rfl, rfl, rfl, rfl, trivial⟩ ?_
      exact hk S v0_ v1_ v4_ (fun h => absurd h (by
        rintro (q | q)
        · omega
        · exact hb (v1_ o2 (by omega) q)))
theorem l_M_needsOf_24 {d : Nat} {I : Nat → Nat → Int32} {R : Nat → Nat → Option Nat} {L : Nat → Nat → Int64} {sh : Nat → Nat × Nat} {N : Nat} (hS : ShOK sh) (hR : RfOK R) {kA fA cA gA nk nt : Nat} (hT : TRf R sh kA fA cA gA nk) (hTn : TNe kA fA cA gA) (hV : TV (I kA) (I fA) (I cA) nt) (hnt : nt ≤ nk) (hnk : nk ≤ 1000000) {nP nF : Nat} (hW : WFA (I 762) nP nF nt) {rk : Nat → Nat} (hrk : RK (I 762) nF rk) {f : Nat} (hf : f < nF) {k : Nat} {had : Int32} {Q : Option Value → HS → Prop} (hd : 3 ≤ d) (hk : ∀ S, NRo (I 762) nF f nF had S → Run mi_M_needsOf d 0 0 96 [(0, .ref 761), (1, .int (nI f)), (2, .int S), (4, .int (nI k)), (5, .int had)] [] (I, R, L, sh, N) Q) : ∀ (n_ : Nat) (o2 : Nat) (S : Int32), nF - o2 = n_ → (NRo (I 762) nF f o2 had S) → (o2 ≤ nF) → Run mi_M_needsOf d 0 0 24 [(0, .ref 761), (1, .int (nI f)), (2, .int S), (4, .int (nI k)), (5, .int had), (6, .int (nI o2))] [] (I, R, L, sh, N) Q := by
  intro n_
  induction n_ using Nat.strongRecOn with | ind n_ ih_ => ?_
  intro o2 S hn_ v0_ v1_
  obtain ⟨hPc, hP24, hFc, hF12, hWF, hWP⟩ := id hW
  refine r_iload (pc2 := 26) d_M_needsOf_24 rfl rfl ?_
  refine r_aload_n (x := some 761) (pc2 := 27) d_M_needsOf_26 rfl rfl ?_
  refine q_getR (x := some 762) (pc2 := 30) d_M_needsOf_27 rfl k_M_9 rfl (sh_761 hS) (rf_761_0 hR) ?_
  refine r_iconst (v := nI 1) (pc2 := 31) d_M_needsOf_30 rfl (by decide) ?_
  refine q_iaload (q := 1) (x := nI nF) (pc2 := 32) d_M_needsOf_31 rfl (sh_762 hS) (nI_toInt (by omega)) (by omega) hFc ?_
  refine q_icmp_ge (tgt := 96) (A := ((o2 : Nat) : Int)) (B := ((nF : Nat) : Int)) (pc2 := 35) d_M_needsOf_32 rfl rfl (nI_toInt (by omega)) (nI_toInt (by omega)) (fun c1 => ?_) (fun c1 => ?_)
  · refine Run.sub (l2 := [(0, .ref 761), (1, .int (nI f)), (2, .int S), (4, .int (nI k)), (5, .int had)]) ⟨rfl, rfl, rfl, rfl, rfl, trivial⟩ ?_
    exact hk S (by rw [show o2 = nF by omega] at v0_; exact v0_)
  · refine r_iconst (v := nI 0) (pc2 := 36) d_M_needsOf_35 rfl (by decide) ?_
    refine r_istore (pc2 := 38) d_M_needsOf_36 rfl (Nat.le_of_ble_eq_true rfl) ?_
    refine Run.sub (l2 := [(0, .ref 761), (1, .int (nI f)), (2, .int S), (4, .int (nI k)), (5, .int had), (6, .int (nI o2)), (7, .int (nI 0))]) ⟨rfl, rfl, rfl, rfl, rfl, rfl, rfl, trivial⟩ ?_
    refine l_M_needsOf_38 hS hR hT hTn hV hnt hnk hW hrk hf (o2 := o2) (k := k) (by omega) (had := had) (S0 := S) (by omega) (hk := fun S2 g1 g2 gm g3 => ?_) _ 0 S rfl v0_.1 v0_.2.1 (fun i hi => absurd hi (by omega)) (Nat.zero_le _) (fun x _ h => h)
    refine q_iinc (b := 1) (pc2 := 93) d_M_needsOf_90 rfl rfl (by decide) (Nat.le_of_ble_eq_true rfl) ?_
    refine r_goto (tgt := 24) d_M_needsOf_93 rfl ?_
    refine Run.sub (l2 := [(0, .ref 761), (1, .int (nI f)), (2, .int S2), (4, .int (nI k)), (5, .int had), (6, .int (nI (o2 + 1)))]) ⟨rfl, rfl, rfl, rfl, rfl, rfl, trivial⟩ ?_
    exact ih_ (nF - (o2 + 1)) (by omega) (o2 + 1) S2 rfl (⟨g1, g2, fun o3 ho3 hh i hi => by
      rcases Nat.lt_or_ge o3 o2 with q | q
      · have hlt : ndF (I 762) o3 i < nF := ((hrk o3 (by omega)).2 i hi).1
        exact gm _ (by omega) (v0_.2.2 o3 q hh i hi)
      · have e : o3 = o2 := by omega
        subst e; exact g3 hh i hi⟩) (by omega)
theorem l_M_needsOf_7 {d : Nat} {I : Nat → Nat → Int32} {R : Nat → Nat → Option Nat} {L : Nat → Nat → Int64} {sh : Nat → Nat × Nat} {N : Nat} (hS : ShOK sh) (hR : RfOK R) {kA fA cA gA nk nt : Nat} (hT : TRf R sh kA fA cA gA nk) (hTn : TNe kA fA cA gA) (hV : TV (I kA) (I fA) (I cA) nt) (hnt : nt ≤ nk) (hnk : nk ≤ 1000000) {nP nF : Nat} (hW : WFA (I 762) nP nF nt) {rk : Nat → Nat} (hrk : RK (I 762) nF rk) {f : Nat} (hf : f < nF) {Q : Option Value → HS → Prop} (hd : 3 ≤ d) (hq : Q (some (.int (nds (I 762) nF f))) (I, R, L, sh, N)) : ∀ (n_ : Nat) (k : Nat) (S : Int32), 13 - k = n_ → (NRi (I 762) nF f k S) → (k ≤ 13) → Run mi_M_needsOf d 0 0 7 [(0, .ref 761), (1, .int (nI f)), (2, .int S), (3, .int (nI 1)), (4, .int (nI k))] [] (I, R, L, sh, N) Q := by
  intro n_
  induction n_ using Nat.strongRecOn with | ind n_ ih_ => ?_
  intro k S hn_ v0_ v1_
  obtain ⟨hPc, hP24, hFc, hF12, hWF, hWP⟩ := id hW
  refine r_iload (pc2 := 9) d_M_needsOf_7 rfl rfl ?_
  refine r_bipush (v := nI 13) (pc2 := 11) d_M_needsOf_9 rfl (by decide) ?_
  refine q_icmp_ge (tgt := 114) (A := ((k : Nat) : Int)) (B := (13 : Int)) (pc2 := 14) d_M_needsOf_11 rfl rfl (nI_toInt (by omega)) (nI_toInt (by omega)) (fun c1 => ?_) (fun c1 => ?_)
  · refine r_iload_n (pc2 := 115) d_M_needsOf_114 rfl rfl ?_
    refine Run.ret (some (.int S)) d_M_needsOf_115 ⟨_, rfl⟩ ?_
    rw [show k = 13 by omega] at v0_; rw [NRi.fin hrk hF12 hf v0_]; exact hq
  · refine r_iload_n (pc2 := 15) d_M_needsOf_14 rfl rfl ?_
    refine q_if_eq (tgt := 114) (A := (1 : Int)) (pc2 := 18) d_M_needsOf_15 rfl rfl (nI_toInt (by omega)) (fun c2 => ?_) (fun c2 => ?_)
    · exfalso; omega
    refine r_iload_n (pc2 := 19) d_M_needsOf_18 rfl rfl ?_
    refine r_istore (pc2 := 21) d_M_needsOf_19 rfl (Nat.le_of_ble_eq_true rfl) ?_
    refine r_iconst (v := nI 0) (pc2 := 22) d_M_needsOf_21 rfl (by decide) ?_
    refine r_istore (pc2 := 24) d_M_needsOf_22 rfl (Nat.le_of_ble_eq_true rfl) ?_
    refine Run.sub (l2 := [(0, .ref 761), (1, .int (nI f)), (2, .int S), (4, .int (nI k)), (5, .int S), (6, .int (nI 0))]) ⟨rfl, rfl, rfl, rfl, rfl, rfl, trivial⟩ ?_
    refine l_M_needsOf_24 hS hR hT hTn hV hnt hnk hW hrk hf (k := k) (had := S) (by omega) (hk := fun S2 hS2 => ?_) _ 0 S rfl (NRo.start v0_) (Nat.zero_le _)
    refine r_iload_n (pc2 := 97) d_M_needsOf_96 rfl rfl ?_
    refine r_iload (pc2 := 99) d_M_needsOf_97 rfl rfl ?_
    refine q_icmp_eq (tgt := 106) (A := S2.toInt) (B := S.toInt) (pc2 := 102) d_M_needsOf_99 rfl rfl (rfl) (rfl) (fun c3 => ?_) (fun c3 => ?_)
    · refine r_iconst (v := nI 0) (pc2 := 107) d_M_needsOf_106 rfl (by decide) ?_
      refine r_istore_n (pc2 := 108) d_M_needsOf_107 rfl rfl (Nat.le_of_ble_eq_true rfl) ?_
      refine q_iinc (b := 1) (pc2 := 111) d_M_needsOf_108 rfl rfl (by decide) (Nat.le_of_ble_eq_true rfl) ?_
      refine r_goto (tgt := 7) d_M_needsOf_111 rfl ?_
      have hse : S2 = S := Int32.toInt_inj.mp c3
      rw [hse] at hS2
      have hfin : S = nds (I 762) nF f := NRo.same hrk hF12 hf hS2
      rw [hse, hfin]
      refine r_iload (pc2 := 9) d_M_needsOf_7 rfl rfl ?_
      refine r_bipush (v := nI 13) (pc2 := 11) d_M_needsOf_9 rfl (by decide) ?_
      refine q_icmp_ge (tgt := 114) (A := ((k + 1 : Nat) : Int)) (B := (13 : Int)) (pc2 := 14) d_M_needsOf_11 rfl rfl (nI_toInt (by omega)) (nI_toInt (by omega)) (fun c4 => ?_) (fun c4 => ?_)
      · refine r_iload_n (pc2 := 115) d_M_needsOf_114 rfl rfl ?_
        refine Run.ret (some (.int (nds (I 762) nF f))) d_M_needsOf_115 ⟨_, rfl⟩ ?_
        exact hq
      · refine r_iload_n (pc2 := 15) d_M_needsOf_14 rfl rfl ?_
        refine q_if_eq (tgt := 114) (A := (0 : Int)) (pc2 := 18) d_M_needsOf_15 rfl rfl (nI_toInt (by omega)) (fun c5 => ?_) (fun c5 => ?_)
        rotate_left
        · exfalso; omega
        refine r_iload_n (pc2 := 115) d_M_needsOf_114 rfl rfl ?_
        refine Run.ret (some (.int (nds (I 762) nF f))) d_M_needsOf_115 ⟨_, rfl⟩ ?_
        exact hq
    · refine r_iconst (v := nI 1) (pc2 := 103) d_M_needsOf_102 rfl (by decide) ?_
      refine r_goto (tgt := 107) d_M_needsOf_103 rfl ?_
      refine r_istore_n (pc2 := 108) d_M_needsOf_107 rfl rfl (Nat.le_of_ble_eq_true rfl) ?_
      refine q_iinc (b := 1) (pc2 := 111) d_M_needsOf_108 rfl rfl (by decide) (Nat.le_of_ble_eq_true rfl) ?_
      refine r_goto (tgt := 7) d_M_needsOf_111 rfl ?_
      refine Run.sub (l2 := [(0, .ref 761), (1, .int (nI f)), (2, .int S2), (3, .int (nI 1)), (4, .int (nI (k + 1)))]) ⟨rfl, rfl, rfl, rfl, rfl, trivial⟩ ?_
      exact ih_ (13 - (k + 1)) (by omega) (k + 1) S2 rfl (NRo.more hrk hF12 hf v0_ hS2) (by omega)
theorem c_M_needsOf {d : Nat} {I : Nat → Nat → Int32} {R : Nat → Nat → Option Nat} {L : Nat → Nat → Int64} {sh : Nat → Nat × Nat} {N : Nat} (hS : ShOK sh) (hR : RfOK R) {kA fA cA gA nk nt : Nat} (hT : TRf R sh kA fA cA gA nk) (hTn : TNe kA fA cA gA) (hV : TV (I kA) (I fA) (I cA) nt) (hnt : nt ≤ nk) (hnk : nk ≤ 1000000) {nP nF : Nat} (hW : WFA (I 762) nP nF nt) {rk : Nat → Nat} (hrk : RK (I 762) nF rk) {f : Nat} (hf : f < nF) (hd : 3 ≤ d) : Me mi_M_needsOf d 0 0 [.ref 761, .int (nI f)] (I, R, L, sh, N) (some (.int (nds (I 762) nF f))) (I, R, L, sh, N) := by
  refine Mt.of pn_M (Nat.le_of_ble_eq_true rfl) ?_
  show Run mi_M_needsOf d 0 0 0 [(0, .ref 761), (1, .int (nI f))] [] (I, R, L, sh, N) _
  refine r_iconst (v := nI 0) (pc2 := 1) d_M_needsOf_0 rfl (by decide) ?_
  refine r_istore_n (pc2 := 2) d_M_needsOf_1 rfl rfl (Nat.le_of_ble_eq_true rfl) ?_
  refine r_iconst (v := nI 1) (pc2 := 3) d_M_needsOf_2 rfl (by decide) ?_
  refine r_istore_n (pc2 := 4) d_M_needsOf_3 rfl rfl (Nat.le_of_ble_eq_true rfl) ?_
  refine r_iconst (v := nI 0) (pc2 := 5) d_M_needsOf_4 rfl (by decide) ?_
  refine r_istore (pc2 := 7) d_M_needsOf_5 rfl (Nat.le_of_ble_eq_true rfl) ?_
  refine Run.sub (l2 := [(0, .ref 761), (1, .int (nI f)), (2, .int (nI 0)), (3, .int (nI 1)), (4, .int (nI 0))]) ⟨rfl, rfl, rfl, rfl, rfl, trivial⟩ ?_
  exact l_M_needsOf_7 hS hR hT hTn hV hnt hnk hW hrk hf hd ⟨rfl, rfl⟩ _ 0 (nI 0) rfl ⟨fun x hx h => (by rw [show nI 0 = 0 from rfl, b_0] at h; cases h), fun x hx h => (by cases h)⟩ (Nat.zero_le _)
theorem c_M_needed {d : Nat} {I : Nat → Nat → Int32} {R : Nat → Nat → Option Nat} {L : Nat → Nat → Int64} {sh : Nat → Nat × Nat} {N : Nat} (hS : ShOK sh) (hR : RfOK R) {kA fA cA gA nk nt : Nat} (hT : TRf R sh kA fA cA gA nk) (hTn : TNe kA fA cA gA) (hV : TV (I kA) (I fA) (I cA) nt) (hnt : nt ≤ nk) (hnk : nk ≤ 1000000) {nP nF : Nat} (hW : WFA (I 762) nP nF nt) {rk : Nat → Nat} (hrk : RK (I 762) nF rk) {f : Int32} (hd : nt + 60 ≤ d) : Mt mi_M_needed d 0 0 [.ref 761, .int f] (I, R, L, sh, N) (RQ I R L sh N (o_needed (I 762) nF f)) := by
  obtain ⟨hPc, hP24, hFc, hF12, hWF, hWP⟩ := id hW
  obtain ⟨hn1, hn2, hn3, hn4⟩ := id hTn
  refine Mt.of pn_M (Nat.le_of_ble_eq_true rfl) ?_
  show Run mi_M_needed d 0 0 0 [(0, .ref 761), (1, .int f)] [] (I, R, L, sh, N) _
  refine r_aload_n (x := some 761) (pc2 := 1) d_M_needed_0 rfl rfl ?_
  refine r_iload_n (pc2 := 2) d_M_needed_1 rfl rfl ?_
  refine q_callv (M2 := mi_M_isFeature) (pc2 := 5) d_M_needed_2 rfl k_M_72 cm_M_isFeature cv_M_isFeature (sh_761 hS) (by decide) rfl rfl rfl (Nat.le_of_ble_eq_true rfl) (c_M_isFeature (I := I) (nF := nF) (f := f) hS hR (hFc) hF12 (by omega)) (d2 := d - 1) (by omega) (Nat.le_of_eq (Nat.zero_add _)) (Nat.le_of_eq (Nat.zero_add _)) ?_
  refine q_bif_eq (tgt := 16) (pc2 := 8) d_M_needed_5 rfl rfl (fun c1 => ?_) (fun c1 => ?_)
  · refine r_aload_n (x := some 761) (pc2 := 17) d_M_needed_16 rfl rfl ?_
    refine r_bipush (v := (-32 : Int32)) (pc2 := 19) d_M_needed_17 rfl (by decide) ?_
    refine q_callv (M2 := mi_M_refused) (pc2 := 22) d_M_needed_19 rfl k_M_106 cm_M_refused cv_M_refused (sh_761 hS) (by decide) rfl rfl rfl (Nat.le_of_ble_eq_true rfl) (c_M_refused_0 (I := I) hS hR) (d2 := d - 1) (by omega) (Nat.le_of_eq (Nat.zero_add _)) (Nat.le_of_eq (Nat.zero_add _)) ?_
    obtain ⟨I2, hI2⟩ : ∃ x, x = u2 I 765 0 (I 765 0 + nI 1) := ⟨_, rfl⟩
    rw [← hI2]
    refine Run.ret (some (.int ((-32 : Int32)))) d_M_needed_22 ⟨_, rfl⟩ ?_
    exact RQ.bad 0 (by (unfold o_needed); (try dsimp only); (try simp only [Int.toNat_natCast]); (repeat (first | rw [if_pos (by omega)] | rw [if_neg (by omega)])); (try rfl); (all_goals first | rfl | (congr 2; omega) | ((repeat' split) <;> first | rfl | (exfalso; omega) | (congr 2; omega) | skip)); (try rfl)) (by decide) FrS.rf hI2
  · obtain ⟨fN, hfN, rfl, efN⟩ := nat_of c1
    obtain ⟨tpfN, klfN, skfN, fbfN, nRfN, nNfN, nOfN, frfN, tofN, ⟨a0fN, b0fN, cc0fN, dd0fN⟩, ⟨a1fN, b1fN, cc1fN, dd1fN⟩, ⟨a2fN, b2fN, cc2fN, dd2fN⟩, ⟨a3fN, b3fN, cc3fN, dd3fN⟩, ⟨a4fN, b4fN, cc4fN, dd4fN⟩, ⟨a5fN, b5fN, cc5fN, dd5fN⟩, ⟨a6fN, b6fN, cc6fN, dd6fN⟩, ⟨a8fN, b8fN, cc8fN, dd8fN⟩, ⟨a9fN, b9fN, cc9fN, dd9fN⟩⟩ := wfn (hWF fN hfN)
    obtain ⟨-, -, -, -, -, -, -, w7fN, -, -, wNfN, wRfN, wKfN, wOfN⟩ := hWF fN hfN
    refine r_aload_n (x := some 761) (pc2 := 9) d_M_needed_8 rfl rfl ?_
    refine r_iload_n (pc2 := 10) d_M_needed_9 rfl rfl ?_
    refine q_callv (M2 := mi_M_needsOf) (pc2 := 13) d_M_needed_10 rfl k_M_235 cm_M_needsOf cv_M_needsOf (sh_761 hS) (by decide) rfl rfl rfl (Nat.le_of_ble_eq_true rfl) (c_M_needsOf (f := fN) hS hR hT hTn hV hnt hnk hW hrk (by omega) (by omega)) (d2 := d - 1) (by omega) (Nat.le_of_eq (Nat.zero_add _)) (Nat.le_of_eq (Nat.zero_add _)) ?_
    refine r_goto (tgt := 22) d_M_needed_13 rfl ?_
    refine Run.ret (some (.int (nds (I 762) nF fN))) d_M_needed_22 ⟨_, rfl⟩ ?_
    exact RQ.val (by (try simp only [efN, b0fN, b1fN, b2fN, b3fN, b4fN, b5fN, b6fN, b8fN, b9fN, Int.toNat_natCast] at c1); (unfold o_needed); (try dsimp only); (try simp only [efN, b0fN, b1fN, b2fN, b3fN, b4fN, b5fN, b6fN, b8fN, b9fN, Int.toNat_natCast]); (repeat (first | rw [if_pos (by omega)] | rw [if_neg (by omega)])); (try rfl); (all_goals first | rfl | (simp only [a0fN, a1fN, a2fN, a3fN, a4fN, a5fN, a6fN, a8fN, a9fN]; done) | (congr 2; omega) | ((repeat' split) <;> first | rfl | (simp only [a0fN, a1fN, a2fN, a3fN, a4fN, a5fN, a6fN, a8fN, a9fN]; done) | (exfalso; omega) | (congr 2; omega) | skip)); (try rfl)) FrS.rf
theorem c_M_needs {d : Nat} {I : Nat → Nat → Int32} {R : Nat → Nat → Option Nat} {L : Nat → Nat → Int64} {sh : Nat → Nat × Nat} {N : Nat} (hS : ShOK sh) (hR : RfOK R) {kA fA cA gA nk nt : Nat} (hT : TRf R sh kA fA cA gA nk) (hTn : TNe kA fA cA gA) (hV : TV (I kA) (I fA) (I cA) nt) (hnt : nt ≤ nk) (hnk : nk ≤ 1000000) {nP nF : Nat} (hW : WFA (I 762) nP nF nt) {rk : Nat → Nat} (hrk : RK (I 762) nF rk) {f : Int32} {x : Int32} {v : Int32} (hd : nt + 60 ≤ d) : Mt mi_M_needs d 0 0 [.ref 761, .int f, .int x, .int v] (I, R, L, sh, N) (RQW I R L sh N (o_needs (I 762) nF f x v) (g_needs (I 762) nF f x v)) := by
  obtain ⟨hPc, hP24, hFc, hF12, hWF, hWP⟩ := id hW
  obtain ⟨hn1, hn2, hn3, hn4⟩ := id hTn
  refine Mt.of pn_M (Nat.le_of_ble_eq_true rfl) ?_
  show Run mi_M_needs d 0 0 0 [(0, .ref 761), (1, .int f), (2, .int x), (3, .int v)] [] (I, R, L, sh, N) _
  refine r_aload_n (x := some 761) (pc2 := 1) d_M_needs_0 rfl rfl ?_
  refine r_iload_n (pc2 := 2) d_M_needs_1 rfl rfl ?_
  refine q_callv (M2 := mi_M_isFeature) (pc2 := 5) d_M_needs_2 rfl k_M_72 cm_M_isFeature cv_M_isFeature (sh_761 hS) (by decide) rfl rfl rfl (Nat.le_of_ble_eq_true rfl) (c_M_isFeature (I := I) (nF := nF) (f := f) hS hR (hFc) hF12 (by omega)) (d2 := d - 1) (by omega) (Nat.le_of_eq (Nat.zero_add _)) (Nat.le_of_eq (Nat.zero_add _)) ?_
  refine q_bif_eq (tgt := 17) (pc2 := 8) d_M_needs_5 rfl rfl (fun c1 => ?_) (fun c1 => ?_)
  · refine r_aload_n (x := some 761) (pc2 := 18) d_M_needs_17 rfl rfl ?_
    refine r_bipush (v := (-32 : Int32)) (pc2 := 20) d_M_needs_18 rfl (by decide) ?_
    refine q_callv (M2 := mi_M_refused) (pc2 := 23) d_M_needs_20 rfl k_M_106 cm_M_refused cv_M_refused (sh_761 hS) (by decide) rfl rfl rfl (Nat.le_of_ble_eq_true rfl) (c_M_refused_0 (I := I) hS hR) (d2 := d - 1) (by omega) (Nat.le_of_eq (Nat.zero_add _)) (Nat.le_of_eq (Nat.zero_add _)) ?_
    obtain ⟨I2, hI2⟩ : ∃ x, x = u2 I 765 0 (I 765 0 + nI 1) := ⟨_, rfl⟩
    rw [← hI2]
    refine Run.ret (some (.int ((-32 : Int32)))) d_M_needs_23 ⟨_, rfl⟩ ?_
    exact RQW.bad 0 (by (try simp only [g_needs1, Int.toNat_natCast] at c1); (unfold o_needs); (try dsimp only); (try simp only [g_needs1, Int.toNat_natCast]); (repeat (first | rw [if_pos (by omega)] | rw [if_neg (by omega)])); (try rfl); (all_goals first | rfl | (congr 2; omega) | ((repeat' split) <;> first | rfl | (exfalso; omega) | (congr 2; omega) | skip)); (try rfl)) (by (try simp only [g_needs1, Int.toNat_natCast] at c1); (unfold g_needs); (try dsimp only); (try simp only [g_needs1, Int.toNat_natCast]); (repeat (first | rw [if_pos (by omega)] | rw [if_neg (by omega)])); (try rfl); (all_goals first | rfl | (congr 2; omega) | ((repeat' split) <;> first | rfl | (exfalso; omega) | (congr 2; omega) | skip)); (try rfl)) (by decide) FrS.rf hI2
  · obtain ⟨fN, hfN, rfl, efN⟩ := nat_of c1
    obtain ⟨tpfN, klfN, skfN, fbfN, nRfN, nNfN, nOfN, frfN, tofN, ⟨a0fN, b0fN, cc0fN, dd0fN⟩, ⟨a1fN, b1fN, cc1fN, dd1fN⟩, ⟨a2fN, b2fN, cc2fN, dd2fN⟩, ⟨a3fN, b3fN, cc3fN, dd3fN⟩, ⟨a4fN, b4fN, cc4fN, dd4fN⟩, ⟨a5fN, b5fN, cc5fN, dd5fN⟩, ⟨a6fN, b6fN, cc6fN, dd6fN⟩, ⟨a8fN, b8fN, cc8fN, dd8fN⟩, ⟨a9fN, b9fN, cc9fN, dd9fN⟩⟩ := wfn (hWF fN hfN)
    obtain ⟨-, -, -, -, -, -, -, w7fN, -, -, wNfN, wRfN, wKfN, wOfN⟩ := hWF fN hfN
    refine r_aload_n (x := some 761) (pc2 := 9) d_M_needs_8 rfl rfl ?_
    refine r_iload_n (pc2 := 10) d_M_needs_9 rfl rfl ?_
    refine r_iload_n (pc2 := 11) d_M_needs_10 rfl rfl ?_
    refine q_callv (M2 := mi_M_isVariant) (pc2 := 14) d_M_needs_11 rfl k_M_232 cm_M_isVariant cv_M_isVariant (sh_761 hS) (by decide) rfl rfl rfl (Nat.le_of_ble_eq_true rfl) (c_M_isVariant (I := I) (nF := nF) (f := x) (v := v) hS hR (hFc) hF12 (by omega)) (d2 := d - 1) (by omega) (Nat.le_of_eq (Nat.zero_add _)) (Nat.le_of_eq (Nat.zero_add _)) ?_
    refine q_bif_ne (tgt := 24) (pc2 := 17) d_M_needs_14 rfl rfl (fun c3 => ?_) (fun c3 => ?_)
    · obtain ⟨xN, hxN, rfl, exN⟩ := nat_of c3.1
      obtain ⟨tpxN, klxN, skxN, fbxN, nRxN, nNxN, nOxN, frxN, toxN, ⟨a0xN, b0xN, cc0xN, dd0xN⟩, ⟨a1xN, b1xN, cc1xN, dd1xN⟩, ⟨a2xN, b2xN, cc2xN, dd2xN⟩, ⟨a3xN, b3xN, cc3xN, dd3xN⟩, ⟨a4xN, b4xN, cc4xN, dd4xN⟩, ⟨a5xN, b5xN, cc5xN, dd5xN⟩, ⟨a6xN, b6xN, cc6xN, dd6xN⟩, ⟨a8xN, b8xN, cc8xN, dd8xN⟩, ⟨a9xN, b9xN, cc9xN, dd9xN⟩⟩ := wfn (hWF xN hxN)
      obtain ⟨-, -, -, -, -, -, -, w7xN, -, -, wNxN, wRxN, wKxN, wOxN⟩ := hWF xN hxN
      simp only [exN, Int.toNat_natCast, b0xN] at c3
      obtain ⟨vN, hvN, gvN, rfl, evN⟩ := nat_of' (Int.le_refl 0) c3.2
      refine r_iload_n (pc2 := 25) d_M_needs_24 rfl rfl ?_
      refine r_iload_n (pc2 := 26) d_M_needs_25 rfl rfl ?_
      refine q_icmp_eq (tgt := 42) (A := ((fN : Nat) : Int)) (B := ((xN : Nat) : Int)) (pc2 := 29) d_M_needs_26 rfl rfl (nI_toInt (by omega)) (nI_toInt (by omega)) (fun c4 => ?_) (fun c4 => ?_)
      · refine r_aload_n (x := some 761) (pc2 := 43) d_M_needs_42 rfl rfl ?_
        refine r_bipush (v := (-35 : Int32)) (pc2 := 45) d_M_needs_43 rfl (by decide) ?_
        refine q_callv (M2 := mi_M_refused) (pc2 := 48) d_M_needs_45 rfl k_M_106 cm_M_refused cv_M_refused (sh_761 hS) (by decide) rfl rfl rfl (Nat.le_of_ble_eq_true rfl) (c_M_refused_3 (I := I) hS hR) (d2 := d - 1) (by omega) (Nat.le_of_eq (Nat.zero_add _)) (Nat.le_of_eq (Nat.zero_add _)) ?_
        obtain ⟨I5, hI5⟩ : ∃ x, x = u2 I 765 3 (I 765 3 + nI 1) := ⟨_, rfl⟩
        rw [← hI5]
        refine Run.ret (some (.int ((-35 : Int32)))) d_M_needs_48 ⟨_, rfl⟩ ?_
        exact RQW.bad 3 (by (try simp only [g_needs1, efN, b0fN, b1fN, b2fN, b3fN, b4fN, b5fN, b6fN, b8fN, b9fN, exN, b0xN, b1xN, b2xN, b3xN, b4xN, b5xN, b6xN, b8xN, b9xN, evN, Int.toNat_natCast] at c1 c3 c4); (unfold o_needs); (try dsimp only); (try simp only [g_needs1, efN, b0fN, b1fN, b2fN, b3fN, b4fN, b5fN, b6fN, b8fN, b9fN, exN, b0xN, b1xN, b2xN, b3xN, b4xN, b5xN, b6xN, b8xN, b9xN, evN, Int.toNat_natCast]); (repeat (first | rw [if_pos (by omega)] | rw [if_neg (by omega)])); (try rfl); (all_goals first | rfl | (simp only [a0fN, a1fN, a2fN, a3fN, a4fN, a5fN, a6fN, a8fN, a9fN, a0xN, a1xN, a2xN, a3xN, a4xN, a5xN, a6xN, a8xN, a9xN]; done) | (congr 2; omega) | ((repeat' split) <;> first | rfl | (simp only [a0fN, a1fN, a2fN, a3fN, a4fN, a5fN, a6fN, a8fN, a9fN, a0xN, a1xN, a2xN, a3xN, a4xN, a5xN, a6xN, a8xN, a9xN]; done) | (exfalso; omega) | (congr 2; omega) | skip)); (try rfl)) (by (try simp only [g_needs1, efN, b0fN, b1fN, b2fN, b3fN, b4fN, b5fN, b6fN, b8fN, b9fN, exN, b0xN, b1xN, b2xN, b3xN, b4xN, b5xN, b6xN, b8xN, b9xN, evN, Int.toNat_natCast] at c1 c3 c4); (unfold g_needs); (try dsimp only); (try simp only [g_needs1, efN, b0fN, b1fN, b2fN, b3fN, b4fN, b5fN, b6fN, b8fN, b9fN, exN, b0xN, b1xN, b2xN, b3xN, b4xN, b5xN, b6xN, b8xN, b9xN, evN, Int.toNat_natCast]); (repeat (first | rw [if_pos (by omega)] | rw [if_neg (by omega)])); (try rfl); (all_goals first | rfl | (simp only [a0fN, a1fN, a2fN, a3fN, a4fN, a5fN, a6fN, a8fN, a9fN, a0xN, a1xN, a2xN, a3xN, a4xN, a5xN, a6xN, a8xN, a9xN]; done) | (congr 2; omega) | ((repeat' split) <;> first | rfl | (simp only [a0fN, a1fN, a2fN, a3fN, a4fN, a5fN, a6fN, a8fN, a9fN, a0xN, a1xN, a2xN, a3xN, a4xN, a5xN, a6xN, a8xN, a9xN]; done) | (exfalso; omega) | (congr 2; omega) | skip)); (try rfl)) (by decide) FrS.rf hI5
      · refine r_aload_n (x := some 761) (pc2 := 30) d_M_needs_29 rfl rfl ?_
        refine r_iload_n (pc2 := 31) d_M_needs_30 rfl rfl ?_
        refine q_callv (M2 := mi_M_needsOf) (pc2 := 34) d_M_needs_31 rfl k_M_235 cm_M_needsOf cv_M_needsOf (sh_761 hS) (by decide) rfl rfl rfl (Nat.le_of_ble_eq_true rfl) (c_M_needsOf (f := xN) hS hR hT hTn hV hnt hnk hW hrk (by omega) (by omega)) (d2 := d - 1) (by omega) (Nat.le_of_eq (Nat.zero_add _)) (Nat.le_of_eq (Nat.zero_add _)) ?_
        refine r_iload_n (pc2 := 35) d_M_needs_34 rfl rfl ?_
        refine r_ishr (pc2 := 36) d_M_needs_35 rfl ?_
        refine r_iconst (v := nI 1) (pc2 := 37) d_M_needs_36 rfl (by decide) ?_
        refine r_iand (pc2 := 38) d_M_needs_37 rfl ?_
        rw [b_test (x := nds (I 762) nF xN) (i := fN) (by omega)]
        by_cases hb : bt (nds (I 762) nF xN) fN = true
        · rw [if_pos hb]
          refine r_iconst (v := nI 1) (pc2 := 39) d_M_needs_38 rfl (by decide) ?_
          refine q_icmp_ne (tgt := 49) (A := (1 : Int)) (B := (1 : Int)) (pc2 := 42) d_M_needs_39 rfl rfl (nI_toInt (by omega)) (nI_toInt (by omega)) (fun c6 => ?_) (fun c6 => ?_)
          · exfalso; omega
          refine r_aload_n (x := some 761) (pc2 := 43) d_M_needs_42 rfl rfl ?_
          refine r_bipush (v := (-35 : Int32)) (pc2 := 45) d_M_needs_43 rfl (by decide) ?_
          refine q_callv (M2 := mi_M_refused) (pc2 := 48) d_M_needs_45 rfl k_M_106 cm_M_refused cv_M_refused (sh_761 hS) (by decide) rfl rfl rfl (Nat.le_of_ble_eq_true rfl) (c_M_refused_3 (I := I) hS hR) (d2 := d - 1) (by omega) (Nat.le_of_eq (Nat.zero_add _)) (Nat.le_of_eq (Nat.zero_add _)) ?_
          obtain ⟨I7, hI7⟩ : ∃ x, x = u2 I 765 3 (I 765 3 + nI 1) := ⟨_, rfl⟩
          rw [← hI7]
          refine Run.ret (some (.int ((-35 : Int32)))) d_M_needs_48 ⟨_, rfl⟩ ?_
          exact RQW.bad 3 (by (try simp only [g_needs1, efN, b0fN, b1fN, b2fN, b3fN, b4fN, b5fN, b6fN, b8fN, b9fN, exN, b0xN, b1xN, b2xN, b3xN, b4xN, b5xN, b6xN, b8xN, b9xN, evN, hb, or_true, or_false, Bool.false_eq_true, Int.toNat_natCast] at c1 c3 c4); (unfold o_needs); (try dsimp only); (try simp only [g_needs1, efN, b0fN, b1fN, b2fN, b3fN, b4fN, b5fN, b6fN, b8fN, b9fN, exN, b0xN, b1xN, b2xN, b3xN, b4xN, b5xN, b6xN, b8xN, b9xN, evN, hb, or_true, or_false, Bool.false_eq_true, Int.toNat_natCast]); (repeat (first | rw [if_pos (by omega)] | rw [if_neg (by omega)])); (try rfl); (all_goals first | rfl | (simp only [a0fN, a1fN, a2fN, a3fN, a4fN, a5fN, a6fN, a8fN, a9fN, a0xN, a1xN, a2xN, a3xN, a4xN, a5xN, a6xN, a8xN, a9xN]; done) | (congr 2; omega) | ((repeat' split) <;> first | rfl | (simp only [a0fN, a1fN, a2fN, a3fN, a4fN, a5fN, a6fN, a8fN, a9fN, a0xN, a1xN, a2xN, a3xN, a4xN, a5xN, a6xN, a8xN, a9xN]; done) | (exfalso; omega) | (congr 2; omega) | skip)); (try rfl)) (by (try simp only [g_needs1, efN, b0fN, b1fN, b2fN, b3fN, b4fN, b5fN, b6fN, b8fN, b9fN, exN, b0xN, b1xN, b2xN, b3xN, b4xN, b5xN, b6xN, b8xN, b9xN, evN, hb, or_true, or_false, Bool.false_eq_true, Int.toNat_natCast] at c1 c3 c4); (unfold g_needs); (try dsimp only); (try simp only [g_needs1, efN, b0fN, b1fN, b2fN, b3fN, b4fN, b5fN, b6fN, b8fN, b9fN, exN, b0xN, b1xN, b2xN, b3xN, b4xN, b5xN, b6xN, b8xN, b9xN, evN, hb, or_true, or_false, Bool.false_eq_true, Int.toNat_natCast]); (repeat (first | rw [if_pos (by omega)] | rw [if_neg (by omega)])); (try rfl); (all_goals first | rfl | (simp only [a0fN, a1fN, a2fN, a3fN, a4fN, a5fN, a6fN, a8fN, a9fN, a0xN, a1xN, a2xN, a3xN, a4xN, a5xN, a6xN, a8xN, a9xN]; done) | (congr 2; omega) | ((repeat' split) <;> first | rfl | (simp only [a0fN, a1fN, a2fN, a3fN, a4fN, a5fN, a6fN, a8fN, a9fN, a0xN, a1xN, a2xN, a3xN, a4xN, a5xN, a6xN, a8xN, a9xN]; done) | (exfalso; omega) | (congr 2; omega) | skip)); (try rfl)) (by decide) FrS.rf hI7
        · rw [if_neg hb]
          refine r_iconst (v := nI 1) (pc2 := 39) d_M_needs_38 rfl (by decide) ?_
          refine q_icmp_ne (tgt := 49) (A := (0 : Int)) (B := (1 : Int)) (pc2 := 42) d_M_needs_39 rfl rfl (nI_toInt (by omega)) (nI_toInt (by omega)) (fun c8 => ?_) (fun c8 => ?_)
          rotate_left
          · exfalso; omega
          refine r_aload_n (x := some 761) (pc2 := 50) d_M_needs_49 rfl rfl ?_
          refine r_iload_n (pc2 := 51) d_M_needs_50 rfl rfl ?_
          refine r_iconst (v := nI 5) (pc2 := 52) d_M_needs_51 rfl (by decide) ?_
          refine q_callv (M2 := mi_M_of) (pc2 := 55) d_M_needs_52 rfl k_M_76 cm_M_of cv_M_of (sh_761 hS) (by decide) rfl rfl rfl (Nat.le_of_ble_eq_true rfl) (c_M_of (I := I) (F := fN) (W := 5) hS hR (by omega)) (d2 := d - 1) (by omega) (Nat.le_of_eq (Nat.zero_add _)) (Nat.le_of_eq (Nat.zero_add _)) ?_
          refine q_top (y := nI nNfN) (a5fN) ?_
          refine r_istore (pc2 := 57) d_M_needs_55 rfl (Nat.le_of_ble_eq_true rfl) ?_
          refine r_iload (pc2 := 59) d_M_needs_57 rfl rfl ?_
          refine r_iconst (v := nI 3) (pc2 := 60) d_M_needs_59 rfl (by decide) ?_
          refine q_icmp_ne (tgt := 70) (A := ((nNfN : Nat) : Int)) (B := (3 : Int)) (pc2 := 63) d_M_needs_60 rfl rfl (nI_toInt (by omega)) (nI_toInt (by omega)) (fun c9 => ?_) (fun c9 => ?_)
          · refine r_aload_n (x := some 761) (pc2 := 71) d_M_needs_70 rfl rfl ?_
            refine r_iload_n (pc2 := 72) d_M_needs_71 rfl rfl ?_
            refine r_bipush (v := nI 14) (pc2 := 74) d_M_needs_72 rfl (by decide) ?_
            refine r_iconst (v := nI 2) (pc2 := 75) d_M_needs_74 rfl (by decide) ?_
            refine r_iload (pc2 := 77) d_M_needs_75 rfl rfl ?_
            refine q_imulN (pc2 := 78) d_M_needs_77 rfl ?_
            refine q_iaddN (pc2 := 79) d_M_needs_78 rfl ?_
            refine r_iload_n (pc2 := 80) d_M_needs_79 rfl rfl ?_
            refine q_callvV (M2 := mi_M_is) (pc2 := 83) d_M_needs_80 rfl k_M_157 cm_M_is cv_M_is (sh_761 hS) (by decide) rfl rfl rfl (Nat.le_of_ble_eq_true rfl) (c_M_is (I := I) (F := fN) (W := 14 + 2 * nNfN) (v := nI xN) hS hR (by omega)) (d2 := d - 1) (by omega) (Nat.le_of_eq (Nat.zero_add _)) (Nat.le_of_eq (Nat.zero_add _)) ?_
            obtain ⟨I10, hI10⟩ : ∃ x, x = u2 I 762 (174 + 84 * fN + (14 + 2 * nNfN)) (nI xN) := ⟨_, rfl⟩
            rw [← hI10]
            refine r_aload_n (x := some 761) (pc2 := 84) d_M_needs_83 rfl rfl ?_
            refine r_iload_n (pc2 := 85) d_M_needs_84 rfl rfl ?_
            refine r_bipush (v := nI 14) (pc2 := 87) d_M_needs_85 rfl (by decide) ?_
            refine r_iconst (v := nI 2) (pc2 := 88) d_M_needs_87 rfl (by decide) ?_
            refine r_iload (pc2 := 90) d_M_needs_88 rfl rfl ?_
            refine q_imulN (pc2 := 91) d_M_needs_90 rfl ?_
            refine q_iaddN (pc2 := 92) d_M_needs_91 rfl ?_
            refine r_iconst (v := nI 1) (pc2 := 93) d_M_needs_92 rfl (by decide) ?_
            refine q_iaddN (pc2 := 94) d_M_needs_93 rfl ?_
            refine r_iload_n (pc2 := 95) d_M_needs_94 rfl rfl ?_
            refine q_callvV (M2 := mi_M_is) (pc2 := 98) d_M_needs_95 rfl k_M_157 cm_M_is cv_M_is (sh_761 hS) (by decide) rfl rfl rfl (Nat.le_of_ble_eq_true rfl) (c_M_is (I := I10) (F := fN) (W := 14 + 2 * nNfN + 1) (v := nI vN) hS hR (by omega)) (d2 := d - 1) (by omega) (Nat.le_of_eq (Nat.zero_add _)) (Nat.le_of_eq (Nat.zero_add _)) ?_
            obtain ⟨I11, hI11⟩ : ∃ x, x = u2 I10 762 (174 + 84 * fN + (14 + 2 * nNfN + 1)) (nI vN) := ⟨_, rfl⟩
            rw [← hI11]
            refine r_aload_n (x := some 761) (pc2 := 99) d_M_needs_98 rfl rfl ?_
            refine r_iload_n (pc2 := 100) d_M_needs_99 rfl rfl ?_
            refine r_iconst (v := nI 5) (pc2 := 101) d_M_needs_100 rfl (by decide) ?_
            refine r_iload (pc2 := 103) d_M_needs_101 rfl rfl ?_
            refine r_iconst (v := nI 1) (pc2 := 104) d_M_needs_103 rfl (by decide) ?_
            refine q_iaddN (pc2 := 105) d_M_needs_104 rfl ?_
            refine q_callvV (M2 := mi_M_is) (pc2 := 108) d_M_needs_105 rfl k_M_157 cm_M_is cv_M_is (sh_761 hS) (by decide) rfl rfl rfl (Nat.le_of_ble_eq_true rfl) (c_M_is (I := I11) (F := fN) (W := 5) (v := nI (nNfN + 1)) hS hR (by omega)) (d2 := d - 1) (by omega) (Nat.le_of_eq (Nat.zero_add _)) (Nat.le_of_eq (Nat.zero_add _)) ?_
            obtain ⟨I12, hI12⟩ : ∃ x, x = u2 I11 762 (174 + 84 * fN + 5) (nI (nNfN + 1)) := ⟨_, rfl⟩
            rw [← hI12]
            refine r_iload (pc2 := 110) d_M_needs_108 rfl rfl ?_
            refine r_iconst (v := nI 1) (pc2 := 111) d_M_needs_110 rfl (by decide) ?_
            refine q_iaddN (pc2 := 112) d_M_needs_111 rfl ?_
            refine Run.ret (some (.int (nI (nNfN + 1)))) d_M_needs_112 ⟨_, rfl⟩ ?_
            exact RQW.val (by (try simp only [g_needs1, efN, b0fN, b1fN, b2fN, b3fN, b4fN, b5fN, b6fN, b8fN, b9fN, exN, b0xN, b1xN, b2xN, b3xN, b4xN, b5xN, b6xN, b8xN, b9xN, evN, hb, or_true, or_false, Bool.false_eq_true, Int.toNat_natCast] at c1 c3 c4 c9); (unfold o_needs); (try dsimp only); (try simp only [g_needs1, efN, b0fN, b1fN, b2fN, b3fN, b4fN, b5fN, b6fN, b8fN, b9fN, exN, b0xN, b1xN, b2xN, b3xN, b4xN, b5xN, b6xN, b8xN, b9xN, evN, hb, or_true, or_false, Bool.false_eq_true, Int.toNat_natCast]); (repeat (first | rw [if_pos (by omega)] | rw [if_neg (by omega)])); (try rfl); (all_goals first | rfl | (simp only [a0fN, a1fN, a2fN, a3fN, a4fN, a5fN, a6fN, a8fN, a9fN, a0xN, a1xN, a2xN, a3xN, a4xN, a5xN, a6xN, a8xN, a9xN]; done) | (congr 2; omega) | ((repeat' split) <;> first | rfl | (simp only [a0fN, a1fN, a2fN, a3fN, a4fN, a5fN, a6fN, a8fN, a9fN, a0xN, a1xN, a2xN, a3xN, a4xN, a5xN, a6xN, a8xN, a9xN]; done) | (exfalso; omega) | (congr 2; omega) | skip))) (by (try simp only [g_needs1, efN, b0fN, b1fN, b2fN, b3fN, b4fN, b5fN, b6fN, b8fN, b9fN, exN, b0xN, b1xN, b2xN, b3xN, b4xN, b5xN, b6xN, b8xN, b9xN, evN, hb, or_true, or_false, Bool.false_eq_true, Int.toNat_natCast] at c1 c3 c4 c9); (unfold g_needs); (try dsimp only); (try simp only [g_needs1, efN, b0fN, b1fN, b2fN, b3fN, b4fN, b5fN, b6fN, b8fN, b9fN, exN, b0xN, b1xN, b2xN, b3xN, b4xN, b5xN, b6xN, b8xN, b9xN, evN, hb, or_true, or_false, Bool.false_eq_true, Int.toNat_natCast]); (repeat (first | rw [if_pos (by omega)] | rw [if_neg (by omega)])); exact (setR_put (setR_put (setR_put FrS.rf.set hI10) hI11) hI12))
          · refine r_aload_n (x := some 761) (pc2 := 64) d_M_needs_63 rfl rfl ?_
            refine r_bipush (v := (-36 : Int32)) (pc2 := 66) d_M_needs_64 rfl (by decide) ?_
            refine q_callv (M2 := mi_M_refused) (pc2 := 69) d_M_needs_66 rfl k_M_106 cm_M_refused cv_M_refused (sh_761 hS) (by decide) rfl rfl rfl (Nat.le_of_ble_eq_true rfl) (c_M_refused_4 (I := I) hS hR) (d2 := d - 1) (by omega) (Nat.le_of_eq (Nat.zero_add _)) (Nat.le_of_eq (Nat.zero_add _)) ?_
            obtain ⟨I13, hI13⟩ : ∃ x, x = u2 I 765 4 (I 765 4 + nI 1) := ⟨_, rfl⟩
            rw [← hI13]
            refine Run.ret (some (.int ((-36 : Int32)))) d_M_needs_69 ⟨_, rfl⟩ ?_
            exact RQW.bad 4 (by (try simp only [g_needs1, efN, b0fN, b1fN, b2fN, b3fN, b4fN, b5fN, b6fN, b8fN, b9fN, exN, b0xN, b1xN, b2xN, b3xN, b4xN, b5xN, b6xN, b8xN, b9xN, evN, hb, or_true, or_false, Bool.false_eq_true, Int.toNat_natCast] at c1 c3 c4 c9); (unfold o_needs); (try dsimp only); (try simp only [g_needs1, efN, b0fN, b1fN, b2fN, b3fN, b4fN, b5fN, b6fN, b8fN, b9fN, exN, b0xN, b1xN, b2xN, b3xN, b4xN, b5xN, b6xN, b8xN, b9xN, evN, hb, or_true, or_false, Bool.false_eq_true, Int.toNat_natCast]); (repeat (first | rw [if_pos (by omega)] | rw [if_neg (by omega)])); (try rfl); (all_goals first | rfl | (simp only [a0fN, a1fN, a2fN, a3fN, a4fN, a5fN, a6fN, a8fN, a9fN, a0xN, a1xN, a2xN, a3xN, a4xN, a5xN, a6xN, a8xN, a9xN]; done) | (congr 2; omega) | ((repeat' split) <;> first | rfl | (simp only [a0fN, a1fN, a2fN, a3fN, a4fN, a5fN, a6fN, a8fN, a9fN, a0xN, a1xN, a2xN, a3xN, a4xN, a5xN, a6xN, a8xN, a9xN]; done) | (exfalso; omega) | (congr 2; omega) | skip)); (try rfl)) (by (try simp only [g_needs1, efN, b0fN, b1fN, b2fN, b3fN, b4fN, b5fN, b6fN, b8fN, b9fN, exN, b0xN, b1xN, b2xN, b3xN, b4xN, b5xN, b6xN, b8xN, b9xN, evN, hb, or_true, or_false, Bool.false_eq_true, Int.toNat_natCast] at c1 c3 c4 c9); (unfold g_needs); (try dsimp only); (try simp only [g_needs1, efN, b0fN, b1fN, b2fN, b3fN, b4fN, b5fN, b6fN, b8fN, b9fN, exN, b0xN, b1xN, b2xN, b3xN, b4xN, b5xN, b6xN, b8xN, b9xN, evN, hb, or_true, or_false, Bool.false_eq_true, Int.toNat_natCast]); (repeat (first | rw [if_pos (by omega)] | rw [if_neg (by omega)])); (try rfl); (all_goals first | rfl | (simp only [a0fN, a1fN, a2fN, a3fN, a4fN, a5fN, a6fN, a8fN, a9fN, a0xN, a1xN, a2xN, a3xN, a4xN, a5xN, a6xN, a8xN, a9xN]; done) | (congr 2; omega) | ((repeat' split) <;> first | rfl | (simp only [a0fN, a1fN, a2fN, a3fN, a4fN, a5fN, a6fN, a8fN, a9fN, a0xN, a1xN, a2xN, a3xN, a4xN, a5xN, a6xN, a8xN, a9xN]; done) | (exfalso; omega) | (congr 2; omega) | skip)); (try rfl)) (by decide) FrS.rf hI13
    · refine r_aload_n (x := some 761) (pc2 := 18) d_M_needs_17 rfl rfl ?_
      refine r_bipush (v := (-32 : Int32)) (pc2 := 20) d_M_needs_18 rfl (by decide) ?_
      refine q_callv (M2 := mi_M_refused) (pc2 := 23) d_M_needs_20 rfl k_M_106 cm_M_refused cv_M_refused (sh_761 hS) (by decide) rfl rfl rfl (Nat.le_of_ble_eq_true rfl) (c_M_refused_0 (I := I) hS hR) (d2 := d - 1) (by omega) (Nat.le_of_eq (Nat.zero_add _)) (Nat.le_of_eq (Nat.zero_add _)) ?_
      obtain ⟨I14, hI14⟩ : ∃ x, x = u2 I 765 0 (I 765 0 + nI 1) := ⟨_, rfl⟩
      rw [← hI14]
      refine Run.ret (some (.int ((-32 : Int32)))) d_M_needs_23 ⟨_, rfl⟩ ?_
      exact RQW.bad 0 (by (try simp only [g_needs1, efN, b0fN, b1fN, b2fN, b3fN, b4fN, b5fN, b6fN, b8fN, b9fN, Int.toNat_natCast] at c1 c3); (unfold o_needs); (try dsimp only); (try simp only [g_needs1, efN, b0fN, b1fN, b2fN, b3fN, b4fN, b5fN, b6fN, b8fN, b9fN, Int.toNat_natCast]); (repeat (first | rw [if_pos (by omega)] | rw [if_neg (by omega)])); (try rfl); (all_goals first | rfl | (simp only [a0fN, a1fN, a2fN, a3fN, a4fN, a5fN, a6fN, a8fN, a9fN]; done) | (congr 2; omega) | ((repeat' split) <;> first | rfl | (simp only [a0fN, a1fN, a2fN, a3fN, a4fN, a5fN, a6fN, a8fN, a9fN]; done) | (exfalso; omega) | (congr 2; omega) | skip)); (try rfl)) (by (try simp only [g_needs1, efN, b0fN, b1fN, b2fN, b3fN, b4fN, b5fN, b6fN, b8fN, b9fN, Int.toNat_natCast] at c1 c3); (unfold g_needs); (try dsimp only); (try simp only [g_needs1, efN, b0fN, b1fN, b2fN, b3fN, b4fN, b5fN, b6fN, b8fN, b9fN, Int.toNat_natCast]); (repeat (first | rw [if_pos (by omega)] | rw [if_neg (by omega)])); (try rfl); (all_goals first | rfl | (simp only [a0fN, a1fN, a2fN, a3fN, a4fN, a5fN, a6fN, a8fN, a9fN]; done) | (congr 2; omega) | ((repeat' split) <;> first | rfl | (simp only [a0fN, a1fN, a2fN, a3fN, a4fN, a5fN, a6fN, a8fN, a9fN]; done) | (exfalso; omega) | (congr 2; omega) | skip)); (try rfl)) (by decide) FrS.rf hI14
