/-! WHAT A FEATURE IS FOR A PERSON, over the reference's row g -/
def inP (b : Int) (v : Nat) (q : Int32) : Prop := ((333 * (v - 1) : Nat) : Int) ≤ b ∧ b < ((333 * (v - 1) : Nat) : Int) + q.toInt
def shV (b : Int) (q1 q2 q3 : Int32) : Int32 := if 0 ≤ b ∧ b < 0 + q1.toInt then 1 else if 333 ≤ b ∧ b < 333 + q2.toInt then 2 else if 666 ≤ b ∧ b < 666 + q3.toInt then 3 else 0
/-- what is told behind the needs -/
def wo2 (G : Nat → Int32) (tb : Nat → Bool) (key : Int32) (p F : Nat) : Int32 × Int32 × Int32 :=
  if 0 ≤ (G (174 + 84 * F + 7)).toInt ∧ ¬ ((G (174 + 84 * F + 8)).toInt ≤ (bkt (G (174 + 84 * F + 7) + nI 100) key).toInt ∧ (bkt (G (174 + 84 * F + 7) + nI 100) key).toInt ≤ (G (174 + 84 * F + 9)).toInt) then (0, 4, G (174 + 84 * F + 7))
  else if 0 < (G (174 + 84 * F + (36 + p))).toInt then (G (174 + 84 * F + (36 + p)), 5, -1)
  else match fst1 (fun r => tb (G (174 + 84 * F + 60 + 4 * r + 0)).toInt.toNat) (G (174 + 84 * F + 4)).toInt.toNat with
    | some r => (if 1000 ≤ (G (174 + 84 * F + 60 + 4 * r + 1)).toInt then G (174 + 84 * F + 60 + 4 * r + 1) - nI 1000 else shV (bkt (nI (F + 1)) key).toInt (G (174 + 84 * F + 60 + 4 * r + 1)) (G (174 + 84 * F + 60 + 4 * r + 2)) (G (174 + 84 * F + 60 + 4 * r + 3)), 6, nI r)
    | none => (G (174 + 84 * F + 3), 7, -1)
/-- the n-th need -/
def ndF (G : Nat → Int32) (F n : Nat) : Nat := (G (174 + 84 * F + (14 + 2 * n))).toInt.toNat
def wo1 (G : Nat → Int32) (tb : Nat → Bool) (key : Int32) (p : Nat) (A : Nat → Int32) (F : Nat) : Int32 × Int32 × Int32 :=
  match oB G F (G (174 + 84 * F + 6)).toInt.toNat key with
  | some k => (G (174 + 84 * F + (20 + 2 * k + 1)), 1, -1)
  | none => if (G (174 + 84 * F + 1)).toInt = 1 then (0, 2, -1)
    else match fst1 (fun n => decide (A (ndF G F n) ≠ G (174 + 84 * F + (14 + 2 * n + 1)))) (G (174 + 84 * F + 5)).toInt.toNat with
      | some n => (0, 3, nI (ndF G F n))
      | none => wo2 G tb key p F
def aw (G : Nat → Int32) (tb : Nat → Bool) (key : Int32) (p : Nat) : Nat → Nat → Int32 × Int32 × Int32
  | 0, _ => (0, 0, 0)
  | n + 1, F => wo1 G tb key p (fun o => (aw G tb key p n o).1) F
/-- ranks of features: what is needed has a lesser one -/
def RK (G : Nat → Int32) (nF : Nat) (rk : Nat → Nat) : Prop := ∀ F, F < nF → rk F < 12 ∧ ∀ n, n < (G (174 + 84 * F + 5)).toInt.toNat → ndF G F n < nF ∧ rk (ndF G F n) < rk F
theorem fst1_congr {p q : Nat → Bool} : ∀ {n : Nat}, (∀ j, j < n → p j = q j) → fst1 p n = fst1 q n
  | 0, _ => rfl
  | n + 1, h => by
    unfold fst1
    rw [fst1_congr (fun j hj => h j (by omega)), h n (by omega)]
theorem wo1_congr {G : Nat → Int32} {tb : Nat → Bool} {key : Int32} {p F : Nat} {A B : Nat → Int32} (h : ∀ n, n < (G (174 + 84 * F + 5)).toInt.toNat → A (ndF G F n) = B (ndF G F n)) : wo1 G tb key p A F = wo1 G tb key p B F := by
  unfold wo1
  rw [fst1_congr (p := fun n => decide (A (ndF G F n) ≠ G (174 + 84 * F + (14 + 2 * n + 1)))) (q := fun n => decide (B (ndF G F n) ≠ G (174 + 84 * F + (14 + 2 * n + 1)))) (fun j hj => by rw [h j hj])]
theorem aw_fuel {G : Nat → Int32} {tb : Nat → Bool} {key : Int32} {p nF : Nat} {rk : Nat → Nat} (hr : RK G nF rk) : ∀ (k F : Nat), rk F = k → F < nF → ∀ a b, k < a → k < b → aw G tb key p a F = aw G tb key p b F := by
  intro k
  induction k using Nat.strongRecOn with | ind k ih => ?_
  intro F hk hF a b ha hb
  obtain ⟨a, rfl⟩ : ∃ a', a = a' + 1 := ⟨a - 1, by omega⟩
  obtain ⟨b, rfl⟩ : ∃ b', b = b' + 1 := ⟨b - 1, by omega⟩
  show wo1 G tb key p (fun o => (aw G tb key p a o).1) F = wo1 G tb key p (fun o => (aw G tb key p b o).1) F
  refine wo1_congr (fun n hn => ?_)
  obtain ⟨h1, h2⟩ := (hr F hF).2 n hn
  show (aw G tb key p a (ndF G F n)).1 = (aw G tb key p b (ndF G F n)).1
  rw [ih (rk (ndF G F n)) (by omega) (ndF G F n) rfl h1 a b (by omega) (by omega)]
/-- the ANSWER, REASON, NUMBER -/
def ans (G : Nat → Int32) (tb : Nat → Bool) (key : Int32) (p F : Nat) : Int32 × Int32 × Int32 := aw G tb key p 12 F
theorem ans_eq {G : Nat → Int32} {tb : Nat → Bool} {key : Int32} {p nF : Nat} {rk : Nat → Nat} (hr : RK G nF rk) {F : Nat} (hF : F < nF) : ans G tb key p F = wo1 G tb key p (fun o => (ans G tb key p o).1) F := by
  unfold ans
  rw [show aw G tb key p 12 F = wo1 G tb key p (fun o => (aw G tb key p 11 o).1) F from rfl]
  refine wo1_congr (fun n hn => ?_)
  obtain ⟨h1, h2⟩ := (hr F hF).2 n hn
  have h3 := (hr F hF).1
  show (aw G tb key p 11 (ndF G F n)).1 = (aw G tb key p 12 (ndF G F n)).1
  rw [aw_fuel hr (rk (ndF G F n)) (ndF G F n) rfl h1 11 12 (by omega) (by omega)]
