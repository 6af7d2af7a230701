/-! THE PATH OF AN ANSWER -/
theorem nodup_len : ∀ (n : Nat) (l : List Nat), l.Nodup → (∀ x ∈ l, x < n) → l.length ≤ n
  | 0, l, _, h => by
    cases l with
    | nil => simp
    | cons a t => exact absurd (h a List.mem_cons_self) (Nat.not_lt_zero a)
  | n + 1, l, hn, h => by
    by_cases hm : n ∈ l
    · have h1 := List.length_erase_of_mem hm
      have h2 := nodup_len n (l.erase n) (hn.erase n) (fun x hx => by
        have h3 := (List.Nodup.mem_erase_iff hn).mp hx
        have h4 := h x h3.2
        have h5 := h3.1
        omega)
      omega
    · have := nodup_len n l hn (fun x hx => by
        have h4 := h x hx
        have h5 : x ≠ n := fun e => hm (e ▸ hx)
        omega)
      omega
/-- over the needs in order, as far as they are met -/
def pthN (f : Nat → List Nat → List Nat) (stop : Nat → Bool) (nd : Nat → Nat) : Nat → Nat → List Nat → List Nat
  | 0, _, acc => acc
  | r + 1, i, acc => if stop i = true then f (nd i) acc else pthN f stop nd r (i + 1) (f (nd i) acc)
def nStop (G : Nat → Int32) (A : Nat → Int32 × Int32 × Int32) (F i : Nat) : Bool := decide ((A (ndF G F i)).1 ≠ G (174 + 84 * F + (14 + 2 * i + 1)))
def pth (G : Nat → Int32) (A : Nat → Int32 × Int32 × Int32) : Nat → Nat → List Nat → List Nat
  | 0, _, acc => acc
  | n + 1, F, acc => if F ∈ acc then acc else (if 2 < (A F).2.1.toInt then pthN (pth G A n) (nStop G A F) (ndF G F) (G (174 + 84 * F + 5)).toInt.toNat 0 acc else acc) ++ [F]
theorem pthN_congr {f g : Nat → List Nat → List Nat} {stop : Nat → Bool} {nd : Nat → Nat} {m : Nat} (h : ∀ i, i < m → ∀ acc, f (nd i) acc = g (nd i) acc) : ∀ (r i : Nat) (acc : List Nat), r + i = m → pthN f stop nd r i acc = pthN g stop nd r i acc
  | 0, _, _, _ => rfl
  | r + 1, i, acc, e => by
    unfold pthN
    rw [h i (by omega), pthN_congr h r (i + 1) _ (by omega)]
theorem pth_fuel {G : Nat → Int32} {A : Nat → Int32 × Int32 × Int32} {nF : Nat} {rk : Nat → Nat} (hr : RK G nF rk) : ∀ (k F : Nat), rk F = k → F < nF → ∀ a b, k < a → k < b → ∀ acc, pth G A a F acc = pth G A b F acc := by
  intro k
  induction k using Nat.strongRecOn with | ind k ih => ?_
  intro F hk hF a b ha hb acc
  obtain ⟨a, rfl⟩ : ∃ a', a = a' + 1 := ⟨a - 1, by omega⟩
  obtain ⟨b, rfl⟩ : ∃ b', b = b' + 1 := ⟨b - 1, by omega⟩
  unfold pth
  rw [pthN_congr (f := pth G A a) (g := pth G A b) (m := (G (174 + 84 * F + 5)).toInt.toNat) (fun i hi acc => ?_) _ 0 acc (by omega)]
  obtain ⟨h1, h2⟩ := (hr F hF).2 i hi
  exact ih (rk (ndF G F i)) (by omega) (ndF G F i) rfl h1 a b (by omega) (by omega) acc
/-- what a path is, given what stood there -/
def PI (rk : Nat → Nat) (nF k : Nat) (acc l : List Nat) : Prop := l.Nodup ∧ (∀ x ∈ l, x < nF) ∧ (∀ x ∈ acc, x ∈ l) ∧ ∀ x ∈ l, x ∈ acc ∨ rk x < k
theorem pthN_inv {f : Nat → List Nat → List Nat} {stop : Nat → Bool} {nd : Nat → Nat} {m nF k : Nat} {rk : Nat → Nat} (h : ∀ i, i < m → ∀ acc : List Nat, acc.Nodup → (∀ x ∈ acc, x < nF) → PI rk nF k acc (f (nd i) acc)) : ∀ (r i : Nat) (acc : List Nat), r + i = m → acc.Nodup → (∀ x ∈ acc, x < nF) → PI rk nF k acc (pthN f stop nd r i acc)
  | 0, _, acc, _, h1, h2 => ⟨h1, h2, fun x hx => hx, fun x hx => Or.inl hx⟩
  | r + 1, i, acc, e, h1, h2 => by
    have h3 := h i (by omega) acc h1 h2
    unfold pthN
    by_cases hs : stop i = true
    · rw [if_pos hs]; exact h3
    · rw [if_neg hs]
      have h4 := pthN_inv (stop := stop) h r (i + 1) (f (nd i) acc) (by omega) h3.1 h3.2.1
      refine ⟨h4.1, h4.2.1, fun x hx => h4.2.2.1 x (h3.2.2.1 x hx), fun x hx => ?_⟩
      rcases h4.2.2.2 x hx with q | q
      · exact h3.2.2.2 x q
      · exact Or.inr q
theorem pth_inv {G : Nat → Int32} {A : Nat → Int32 × Int32 × Int32} {nF : Nat} {rk : Nat → Nat} (hr : RK G nF rk) : ∀ (k F : Nat), rk F = k → F < nF → ∀ n, k < n → ∀ acc : List Nat, acc.Nodup → (∀ x ∈ acc, x < nF) → PI rk nF (k + 1) acc (pth G A n F acc) ∧ F ∈ pth G A n F acc := by
  intro k
  induction k using Nat.strongRecOn with | ind k ih => ?_
  intro F hk hF n hn acc h1 h2
  obtain ⟨n, rfl⟩ : ∃ n', n = n' + 1 := ⟨n - 1, by omega⟩
  unfold pth
  by_cases hm : F ∈ acc
  · rw [if_pos hm]; exact ⟨⟨h1, h2, fun x hx => hx, fun x hx => Or.inl hx⟩, hm⟩
  · rw [if_neg hm]
    have hin : PI rk nF k acc (if 2 < (A F).2.1.toInt then pthN (pth G A n) (nStop G A F) (ndF G F) (G (174 + 84 * F + 5)).toInt.toNat 0 acc else acc) := by
      by_cases h2r : 2 < (A F).2.1.toInt
      · rw [if_pos h2r]
        refine pthN_inv (m := (G (174 + 84 * F + 5)).toInt.toNat) (fun i hi acc h1 h2 => ?_) _ 0 acc (by omega) h1 h2
        obtain ⟨q1, q2⟩ := (hr F hF).2 i hi
        have q3 := (ih (rk (ndF G F i)) (by omega) (ndF G F i) rfl q1 n (by omega) acc h1 h2).1
        refine ⟨q3.1, q3.2.1, q3.2.2.1, fun x hx => ?_⟩
        rcases q3.2.2.2 x hx with q | q
        · exact Or.inl q
        · exact Or.inr (by omega)
      · rw [if_neg h2r]
        exact ⟨h1, h2, fun x hx => hx, fun x hx => Or.inl hx⟩
    generalize (if 2 < (A F).2.1.toInt then pthN (pth G A n) (nStop G A F) (ndF G F) (G (174 + 84 * F + 5)).toInt.toNat 0 acc else acc) = l at hin ⊢
    have hnot : F ∉ l := fun hx => by
      rcases hin.2.2.2 F hx with q | q
      · exact hm q
      · omega
    refine ⟨⟨?_, ?_, ?_, ?_⟩, ?_⟩
    · rw [List.nodup_append]
      refine ⟨hin.1, by simp, fun a ha b hb => ?_⟩
      rw [List.mem_singleton] at hb
      subst hb
      exact fun e => hnot (e ▸ ha)
    · intro x hx
      rcases List.mem_append.mp hx with q | q
      · exact hin.2.1 x q
      · rw [List.mem_singleton.mp q]; exact hF
    · exact fun x hx => List.mem_append_left _ (hin.2.2.1 x hx)
    · intro x hx
      rcases List.mem_append.mp hx with q | q
      · rcases hin.2.2.2 x q with z | z
        · exact Or.inl z
        · exact Or.inr (by omega)
      · rw [List.mem_singleton.mp q]; exact Or.inr (by omega)
    · exact List.mem_append_right _ (List.mem_singleton.mpr rfl)
