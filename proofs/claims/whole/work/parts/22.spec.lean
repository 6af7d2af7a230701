/-! WHAT THE CALLS ANSWER: a value, or a refusal (0 BAD, 1 OTHER, 2 NOTHING, 3 STUCK, 4 FULL) -/
abbrev Out : Type := Int32 ⊕ Nat
def ansOf : Out → Int32
  | .inl v => v
  | .inr j => Int32.ofInt (-32 - (j : Int))
/-- the heap with the refusal counted in row a -/
def fin1 (a : Nat) (I : Nat → Nat → Int32) : Out → Nat → Nat → Int32
  | .inl _ => I
  | .inr j => u2 I a j (I a j + nI 1)
def cnt (P : Nat → Bool) : Nat → Nat
  | 0 => 0
  | n + 1 => cnt P n + (if P n = true then 1 else 0)
def bits (P : Nat → Bool) : Nat → Int32
  | 0 => nI 0
  | n + 1 => if P n = true then bits P n ||| (nI 1 <<< (nI n &&& 31)) else bits P n
theorem cnt_le (P : Nat → Bool) : ∀ n, cnt P n ≤ n
  | 0 => Nat.le_refl _
  | n + 1 => by
    unfold cnt
    have := cnt_le P n
    split <;> omega
theorem cnt_congr {P Q : Nat → Bool} : ∀ {n : Nat}, (∀ j, j < n → P j = Q j) → cnt P n = cnt Q n
  | 0, _ => rfl
  | n + 1, h => by
    unfold cnt
    rw [cnt_congr (fun j hj => h j (by omega)), h n (by omega)]
theorem bits_congr {P Q : Nat → Bool} : ∀ {n : Nat}, (∀ j, j < n → P j = Q j) → bits P n = bits Q n
  | 0, _ => rfl
  | n + 1, h => by
    unfold bits
    rw [bits_congr (fun j hj => h j (by omega)), h n (by omega)]
theorem or_0 (x : Int32) : x ||| nI 0 = x := b_ext fun i hi => by rw [b_or, show nI 0 = 0 from rfl, b_0, Bool.or_false]
/-- the reference's scratch: fields and rows that no call leaves anything in -/
def scr (a j : Nat) : Prop := (763 ≤ a ∧ a ≤ 763) ∨ (771 ≤ a ∧ a ≤ 776) ∨ (a = 761 ∧ (j = 12 ∨ j = 13 ∨ j = 15 ∨ j = 16 ∨ j = 20 ∨ j = 22 ∨ j = 24 ∨ j = 25 ∨ j = 26))
def FrS (I J : Nat → Nat → Int32) : Prop := ∀ a j, ¬ scr a j → J a j = I a j
theorem FrS.rf {I : Nat → Nat → Int32} : FrS I I := fun _ _ _ => rfl
theorem FrS.tr {I J K : Nat → Nat → Int32} (h : FrS I J) (h2 : FrS J K) : FrS I K := fun a j q => (h2 a j q).trans (h a j q)
theorem FrA.s {I J : Nat → Nat → Int32} (h : FrA I J) : FrS I J := by
  intro a j q
  unfold scr at q
  refine h a j (fun e => q (by omega)) (fun e => q (by omega)) (fun e => q (by omega)) (fun e => ⟨fun e2 => q (by omega), fun e2 => q (by omega), fun e2 => q (by omega)⟩)
theorem FrS.put {I J K : Nat → Nat → Int32} {a j : Nat} {v : Int32} (h : FrS I J) (e : K = u2 J a j v) (hc : scr a j) : FrS I K := by
  intro b i q
  subst e
  rw [← h b i q]
  unfold u2
  rw [if_neg (fun z => q (by rw [z.1, z.2]; exact hc))]
/-- what a call of the reference that only asks leaves -/
def RQ (I : Nat → Nat → Int32) (R : Nat → Nat → Option Nat) (L : Nat → Nat → Int64) (sh : Nat → Nat × Nat) (N : Nat) (x : Out) : Option Value → HS → Prop :=
  fun r h' => ∃ K, h' = (K, R, L, sh, N) ∧ r = some (.int (ansOf x)) ∧ FrS (fin1 765 I x) K
theorem RQ.val {I K : Nat → Nat → Int32} {R : Nat → Nat → Option Nat} {L : Nat → Nat → Int64} {sh : Nat → Nat × Nat} {N : Nat} {x : Out} {v : Int32} (e : x = .inl v) (hK : FrS I K) : RQ I R L sh N x (some (.int v)) (K, R, L, sh, N) := by
  subst e; exact ⟨K, rfl, rfl, hK⟩
theorem RQ.bad {I J K : Nat → Nat → Int32} {R : Nat → Nat → Option Nat} {L : Nat → Nat → Int64} {sh : Nat → Nat × Nat} {N : Nat} {x : Out} {v : Int32} (j : Nat) (e : x = .inr j) (hv : v = Int32.ofInt (-32 - (j : Int))) (hJ : FrS I J) (hK : K = u2 J 765 j (J 765 j + nI 1)) : RQ I R L sh N x (some (.int v)) (K, R, L, sh, N) := by
  subst e; subst hv; subst hK
  refine ⟨_, rfl, rfl, ?_⟩
  intro a i q
  show u2 J 765 j (J 765 j + nI 1) a i = u2 I 765 j (I 765 j + nI 1) a i
  have e1 : J 765 j = I 765 j := hJ 765 j (by unfold scr; omega)
  unfold u2
  rw [e1, hJ a i q]
/-! the askings that are a look -/
def okF (nF : Nat) (f : Int32) : Prop := 0 ≤ f.toInt ∧ f.toInt < (nF : Int)
def okR (G : Nat → Int32) (nF : Nat) (f r : Int32) : Prop := okF nF f ∧ 0 ≤ r.toInt ∧ r.toInt < (G (174 + 84 * f.toInt.toNat + 4)).toInt
def okV (G : Nat → Int32) (nF : Nat) (f v : Int32) : Prop := okF nF f ∧ 0 ≤ v.toInt ∧ v.toInt ≤ (G (174 + 84 * f.toInt.toNat + 0)).toInt
def o_personOf (G : Nat → Int32) (nP : Nat) (i : Int32) : Out := if 0 ≤ i.toInt ∧ i.toInt < (nP : Int) then .inl (G (6 + 2 * i.toInt.toNat)) else .inr 0
def o_attributes (G : Nat → Int32) (nP : Nat) (key : Int32) : Out := match pB G nP key with
  | some p => .inl (G (6 + 2 * p + 1))
  | none => .inr 0
def o_bucket (s k : Int32) : Out := if (0 ≤ s.toInt ∧ s.toInt ≤ 200) ∧ 0 ≤ k.toInt ∧ k.toInt ≤ 999999 then .inl (bkt s k) else .inr 0
def o_counted (G : Nat → Int32) (nF : Nat) (f v : Int32) : Out := if (0 ≤ f.toInt ∧ f.toInt < (nF : Int)) ∧ 0 ≤ v.toInt ∧ v.toInt ≤ (G (174 + 84 * f.toInt.toNat + 0)).toInt then .inl (G (174 + 84 * f.toInt.toNat + (10 + v.toInt.toNat))) else .inr 0
def o_reach (A : Nat → Nat → Int32 × Int32 × Int32) (G : Nat → Int32) (nP nF : Nat) (f v : Int32) : Out := if (0 ≤ f.toInt ∧ f.toInt < (nF : Int)) ∧ 0 ≤ v.toInt ∧ v.toInt ≤ (G (174 + 84 * f.toInt.toNat + 0)).toInt then .inl (nI (cnt (fun p => decide ((A p f.toInt.toNat).1 = v)) nP)) else .inr 0
def o_by (A : Nat → Nat → Int32 × Int32 × Int32) (nP nF : Nat) (f k : Int32) : Out := if (0 ≤ f.toInt ∧ f.toInt < (nF : Int)) ∧ 1 ≤ k.toInt ∧ k.toInt ≤ 7 then .inl (bits (fun p => decide ((A p f.toInt.toNat).2.1 = k)) nP) else .inr 0
def o_overlap (A : Nat → Nat → Int32 × Int32 × Int32) (nP nF : Nat) (f k : Int32) : Out := if (0 ≤ f.toInt ∧ f.toInt < (nF : Int)) ∧ 0 ≤ k.toInt ∧ k.toInt < (nF : Int) then .inl (bits (fun p => decide ((A p f.toInt.toNat).1 ≠ 0) && decide ((A p k.toInt.toNat).1 ≠ 0)) nP) else .inr 0
def o_so (tr : Nat → Nat → Bool) (G : Nat → Int32) (nP nF : Nat) (f r : Int32) : Out := if (0 ≤ f.toInt ∧ f.toInt < (nF : Int)) ∧ 0 ≤ r.toInt ∧ r.toInt < (G (174 + 84 * f.toInt.toNat + 4)).toInt then .inl (bits (fun p => tr p (G (174 + 84 * f.toInt.toNat + 60 + 4 * r.toInt.toNat + 0)).toInt.toNat) nP) else .inr 0
def o_kept (G : Nat → Int32) (nP nF : Nat) (f key : Int32) : Out := match pB G nP key with
  | none => .inr 0
  | some p => if 0 ≤ f.toInt ∧ f.toInt < (nF : Int) then (if 0 < (G (174 + 84 * f.toInt.toNat + (36 + p))).toInt then .inl (G (174 + 84 * f.toInt.toNat + (36 + p))) else .inl (-1)) else .inr 0
