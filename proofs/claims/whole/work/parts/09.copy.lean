/-! ROWS: System.arraycopy -/
section COPY
variable {M : MI} {d ac az pc : Nat} {ll : List (Nat × Value)} {st : List Value} {I : Nat → Nat → Int32} {R : Nat → Nat → Option Nat} {L : Nat → Nat → Int64} {sh : Nat → Nat × Nat} {N : Nat} {Q : Option Value → HS → Prop}
def cpyI (I : Nat → Nat → Int32) (a0 SP a DP K : Nat) : Nat → Nat → Int32 := fun x j => if x = a ∧ DP ≤ j ∧ j < DP + K then I a0 (SP + (j - DP)) else I x j
theorem r_copyI {a0 a n0 n1 SP DP K ix pc2 : Nat} {sp dp n : Int32} (hdg : decode M.2.1 pc = .ok (.invokestatic ix, 3)) (hp : pc + 3 = pc2) (hw : Jvm.Cond.methodLink M.1.cls ix arraycopyName ∈ bBig) (hw2 : Jvm.Cond.native arraycopyName ∈ bBig) (hw3 : Jvm.Cond.static arraycopyName ∈ bBig) (hw4 : Jvm.Cond.initialized "java/lang/System" ∈ bBig) (hs0 : sh a0 = (12, n0)) (hs1 : sh a = (12, n1))
    (h1 : sp.toInt = (SP : Int)) (h2 : dp.toInt = (DP : Int)) (h3 : n.toInt = (K : Int)) (h4 : SP + K ≤ n0) (h5 : DP + K ≤ n1) (hd : 1 ≤ d) (hcat : (st.map fun v => v.category).sum ≤ 8)
    (kk : Run M d ac az pc2 ll st (cpyI I a0 SP a DP K, R, L, sh, N) Q) : Run M d ac az pc ll (.int n :: .int dp :: .ref a :: .int sp :: .ref a0 :: st) (I, R, L, sh, N) Q := by
  subst hp
  intro w p l e RR s m args below meth c H locs cells slots Qf ls hC hR hL hl hr
  have hfr := hC.2.2.2.2.2.2.2.1
  have hlo := hC.2.2.2.2.2.2.2.2.1
  have hA := (hC.2.2.2.2.2.2.1.2.1 12 (by omega) (by omega)).1
  have ef : ∀ x, (fun j => bav w.1 I R L 12 x j) = fun j => Value.int (I x j) := fun x => by funext j; simp [bav]
  have hc0 : H[w.1 + a0]? = some (vp_cell (w.2.2.2 12) (n0, .inl (I a0))) := by rw [hR.arr hs0 (by omega) (by omega), ef]; rfl
  have hc1 : H[w.1 + a]? = some (vp_cell (w.2.2.2 12) (n1, .inl (I a))) := by rw [hR.arr hs1 (by omega) (by omega), ef]; rfl
  have hKa : va_K (w.2.1, w.2.2.1) [] [(w.2.2.2 12, aT 12)] s := ⟨fun c q h => by simp at h, fun k q h => by
    cases k with
    | zero => cases h; exact hC.2.2.2.2.2.2.1.2.1 12 (by omega) (by omega)
    | succ k => simp at h⟩
  have n1' : ¬ sp < 0 := by rw [Int32.lt_iff_toInt_lt, Int32.toInt_zero]; omega
  have n2' : ¬ dp < 0 := by rw [Int32.lt_iff_toInt_lt, Int32.toInt_zero]; omega
  have n3' : ¬ n < 0 := by rw [Int32.lt_iff_toInt_lt, Int32.toInt_zero]; omega
  have c1' : sp.toNatClampNeg = SP := by show sp.toInt.toNat = SP; omega
  have c2' : dp.toNatClampNeg = DP := by show dp.toInt.toNat = DP; omega
  have c3' : n.toNatClampNeg = K := by show n.toInt.toNat = K; omega
  intro T hT X
  obtain ⟨-, k0, hk0, cm0, hkk0⟩ := (hKa.2 0 _ rfl).1 n0 (fun j => Value.int (I a0 j))
  obtain ⟨-, k1, hk1, cm1, hkk1⟩ := (hKa.2 0 _ rfl).1 n1 (fun j => Value.int (I a j))
  have hlen2 : (F0 m pc ls ((.int n :: .int dp :: .ref a :: .int sp :: .ref a0 :: st : List Value).map (trV w.1))).locals.size = c.maxLocals := by rw [hC.2.2.1]; exact hL.size
  obtain ⟨vm', X', step⟩ := X.arraycopy hC.1 hC.2.2.2.1 (hC.2.2.2.2.1 _ hw) (hC.2.2.2.2.1 _ hw2) (hC.2.2.2.2.1 _ hw3) (hC.2.2.2.2.1 _ hw4) (src := w.1 + a0) (dst := w.1 + a) (cs := vp_cell (w.2.2.2 12) (n0, .inl (I a0))) (cd := vp_cell (w.2.2.2 12) (n1, .inl (I a))) (srcPos := sp) (destPos := dp) (n := n) (by rw [hT]; exact hc0) (by rw [hT]; exact hc1)
    (fun _ h => by cases h) (fun _ h => by cases h) (fun h => by cases h) (fun h => by cases h) hk0 hk1 hkk0 hkk1 (by simp [refKind, aT]) n1' n2' n3'
    (by rw [h1, h3]; show ¬ _ > ((arrV _ n0 (fun j => Value.int (I a0 j))).slots.size : Int); rw [arrV_size]; omega)
    (by rw [h2, h3]; show ¬ _ > ((arrV _ n1 (fun j => Value.int (I a j))).slots.size : Int); rw [arrV_size]; omega)
    (fun vm₁ _ i hi => by
      rw [c3'] at hi
      have e : (vp_cell (w.2.2.2 12) (n0, .inl (I a0))).slots.getD (sp.toNatClampNeg + i) .null = Value.int (I a0 (sp.toNatClampNeg + i)) := by
        show (arrV (w.2.2.2 12) n0 (fun j => Value.int (I a0 j))).slots.getD _ _ = _
        rw [Array.getD_eq_getD_getElem?, arrV_read _ _ (by omega)]
        rfl
      refine ⟨?_, ?_⟩
      · rw [e]
        rfl
      · rw [e]
        exact trivial)
    (g := F0 m pc ls ((.int n :: .int dp :: .ref a :: .int sp :: .ref a0 :: st : List Value).map (trV w.1))) rfl hlen2 (rest := st.map (trV w.1)) rfl (by rw [hC.2.1]; exact hdg) (by omega) (by
      have h8 := b_cat w.1 hcat
      have h9 : nativeFrameWords "java/lang/System" "arraycopy" 5 ≤ 16 := by decide
      show 2 * 0 + _ + _ ≤ _
      omega)
  have e1 : copied (vp_cell (w.2.2.2 12) (n0, .inl (I a0))) (vp_cell (w.2.2.2 12) (n1, .inl (I a))) sp dp n = vp_cell (w.2.2.2 12) (n1, .inl (va_cpy (I a0) (I a) sp.toNatClampNeg dp.toNatClampNeg n.toNatClampNeg)) := va_copied (fun z => Value.int z) (w.2.2.2 12) (w.2.2.2 12) (I a0) (I a) (by rw [c1', c3']; exact h4)
  rw [e1, c1', c2', c3'] at X' step
  have hlt : w.1 + a < H.size := (Array.getElem?_eq_some_iff.mp hc1).1
  have hheap : ((T.setVm vm').setCell (w.1 + a) (vp_cell (w.2.2.2 12) (n1, .inl (va_cpy (I a0) (I a) SP DP K)))).heap = H.setIfInBounds (w.1 + a) (vp_cell (w.2.2.2 12) (n1, .inl (va_cpy (I a0) (I a) SP DP K))) := by rw [← hT]; rfl
  have oq : ∀ q : Nat, q ≠ w.1 + a → (H.setIfInBounds (w.1 + a) (vp_cell (w.2.2.2 12) (n1, .inl (va_cpy (I a0) (I a) SP DP K))))[q]? = H[q]? := fun q hq => by simp [Array.getElem?_setIfInBounds, Ne.symm hq]
  have hrep : bRep w (cpyI I a0 SP a DP K, R, L, sh, N) (H.setIfInBounds (w.1 + a) (vp_cell (w.2.2.2 12) (n1, .inl (va_cpy (I a0) (I a) SP DP K)))) := by
    refine b_ast_rep hR hs1 (by omega) (by omega) (fun x j hx => ?_) (fun x j hx => ?_) (fun x j hx => ?_) (f := fun j => Value.int (va_cpy (I a0) (I a) SP DP K j)) (fun j => ?_) (show (H.setIfInBounds (w.1 + a) _)[w.1 + a]? = some _ by simp [Array.getElem?_setIfInBounds, hlt]; rfl) (by simp) oq
    · first | rfl | (unfold cpyI; rw [if_neg (fun q => hx q.1)])
    · first | rfl | (unfold cpyI; rw [if_neg (fun q => hx q.1)])
    · first | rfl | (unfold cpyI; rw [if_neg (fun q => hx q.1)])
    · simp [bav, cpyI, va_cpy]
  obtain ⟨t, a1, b1⟩ := kk w p l e RR s m args below meth c _ _ cells slots Qf ls hC hrep hL (fun q hq => by
      rcases List.mem_append.mp hq with h | h
      · exact hl q h
      · obtain ⟨z, -, hz⟩ := List.mem_map.mp h
        rw [← hz]
        exact Nat.le_add_right _ _) hr _ hheap X'
  exact ⟨t, step t a1, b1⟩
def cpyL (I : Nat → Nat → Int64) (a0 SP a DP K : Nat) : Nat → Nat → Int64 := fun x j => if x = a ∧ DP ≤ j ∧ j < DP + K then I a0 (SP + (j - DP)) else I x j
theorem r_copyL {a0 a n0 n1 SP DP K ix pc2 : Nat} {sp dp n : Int32} (hdg : decode M.2.1 pc = .ok (.invokestatic ix, 3)) (hp : pc + 3 = pc2) (hw : Jvm.Cond.methodLink M.1.cls ix arraycopyName ∈ bBig) (hw2 : Jvm.Cond.native arraycopyName ∈ bBig) (hw3 : Jvm.Cond.static arraycopyName ∈ bBig) (hw4 : Jvm.Cond.initialized "java/lang/System" ∈ bBig) (hs0 : sh a0 = (13, n0)) (hs1 : sh a = (13, n1))
    (h1 : sp.toInt = (SP : Int)) (h2 : dp.toInt = (DP : Int)) (h3 : n.toInt = (K : Int)) (h4 : SP + K ≤ n0) (h5 : DP + K ≤ n1) (hd : 1 ≤ d) (hcat : (st.map fun v => v.category).sum ≤ 8)
    (kk : Run M d ac az pc2 ll st (I, R, cpyL L a0 SP a DP K, sh, N) Q) : Run M d ac az pc ll (.int n :: .int dp :: .ref a :: .int sp :: .ref a0 :: st) (I, R, L, sh, N) Q := by
  subst hp
  intro w p l e RR s m args below meth c H locs cells slots Qf ls hC hR hL hl hr
  have hfr := hC.2.2.2.2.2.2.2.1
  have hlo := hC.2.2.2.2.2.2.2.2.1
  have hA := (hC.2.2.2.2.2.2.1.2.1 13 (by omega) (by omega)).1
  have ef : ∀ x, (fun j => bav w.1 I R L 13 x j) = fun j => Value.long (L x j) := fun x => by funext j; simp [bav]
  have hc0 : H[w.1 + a0]? = some (vp_cell (w.2.2.2 13) (n0, .inr (.inl (L a0)))) := by rw [hR.arr hs0 (by omega) (by omega), ef]; rfl
  have hc1 : H[w.1 + a]? = some (vp_cell (w.2.2.2 13) (n1, .inr (.inl (L a)))) := by rw [hR.arr hs1 (by omega) (by omega), ef]; rfl
  have hKa : va_K (w.2.1, w.2.2.1) [] [(w.2.2.2 13, aT 13)] s := ⟨fun c q h => by simp at h, fun k q h => by
    cases k with
    | zero => cases h; exact hC.2.2.2.2.2.2.1.2.1 13 (by omega) (by omega)
    | succ k => simp at h⟩
  have n1' : ¬ sp < 0 := by rw [Int32.lt_iff_toInt_lt, Int32.toInt_zero]; omega
  have n2' : ¬ dp < 0 := by rw [Int32.lt_iff_toInt_lt, Int32.toInt_zero]; omega
  have n3' : ¬ n < 0 := by rw [Int32.lt_iff_toInt_lt, Int32.toInt_zero]; omega
  have c1' : sp.toNatClampNeg = SP := by show sp.toInt.toNat = SP; omega
  have c2' : dp.toNatClampNeg = DP := by show dp.toInt.toNat = DP; omega
  have c3' : n.toNatClampNeg = K := by show n.toInt.toNat = K; omega
  intro T hT X
  obtain ⟨-, k0, hk0, cm0, hkk0⟩ := (hKa.2 0 _ rfl).1 n0 (fun j => Value.long (L a0 j))
  obtain ⟨-, k1, hk1, cm1, hkk1⟩ := (hKa.2 0 _ rfl).1 n1 (fun j => Value.long (L a j))
  have hlen2 : (F0 m pc ls ((.int n :: .int dp :: .ref a :: .int sp :: .ref a0 :: st : List Value).map (trV w.1))).locals.size = c.maxLocals := by rw [hC.2.2.1]; exact hL.size
  obtain ⟨vm', X', step⟩ := X.arraycopy hC.1 hC.2.2.2.1 (hC.2.2.2.2.1 _ hw) (hC.2.2.2.2.1 _ hw2) (hC.2.2.2.2.1 _ hw3) (hC.2.2.2.2.1 _ hw4) (src := w.1 + a0) (dst := w.1 + a) (cs := vp_cell (w.2.2.2 13) (n0, .inr (.inl (L a0)))) (cd := vp_cell (w.2.2.2 13) (n1, .inr (.inl (L a)))) (srcPos := sp) (destPos := dp) (n := n) (by rw [hT]; exact hc0) (by rw [hT]; exact hc1)
    (fun _ h => by cases h) (fun _ h => by cases h) (fun h => by cases h) (fun h => by cases h) hk0 hk1 hkk0 hkk1 (by simp [refKind, aT]) n1' n2' n3'
    (by rw [h1, h3]; show ¬ _ > ((arrV _ n0 (fun j => Value.long (L a0 j))).slots.size : Int); rw [arrV_size]; omega)
    (by rw [h2, h3]; show ¬ _ > ((arrV _ n1 (fun j => Value.long (L a j))).slots.size : Int); rw [arrV_size]; omega)
    (fun vm₁ _ i hi => by
      rw [c3'] at hi
      have e : (vp_cell (w.2.2.2 13) (n0, .inr (.inl (L a0)))).slots.getD (sp.toNatClampNeg + i) .null = Value.long (L a0 (sp.toNatClampNeg + i)) := by
        show (arrV (w.2.2.2 13) n0 (fun j => Value.long (L a0 j))).slots.getD _ _ = _
        rw [Array.getD_eq_getD_getElem?, arrV_read _ _ (by omega)]
        rfl
      refine ⟨?_, ?_⟩
      · rw [e]
        rfl
      · rw [e]
        exact trivial)
    (g := F0 m pc ls ((.int n :: .int dp :: .ref a :: .int sp :: .ref a0 :: st : List Value).map (trV w.1))) rfl hlen2 (rest := st.map (trV w.1)) rfl (by rw [hC.2.1]; exact hdg) (by omega) (by
      have h8 := b_cat w.1 hcat
      have h9 : nativeFrameWords "java/lang/System" "arraycopy" 5 ≤ 16 := by decide
      show 2 * 0 + _ + _ ≤ _
      omega)
  have e1 : copied (vp_cell (w.2.2.2 13) (n0, .inr (.inl (L a0)))) (vp_cell (w.2.2.2 13) (n1, .inr (.inl (L a)))) sp dp n = vp_cell (w.2.2.2 13) (n1, .inr (.inl (va_cpy (L a0) (L a) sp.toNatClampNeg dp.toNatClampNeg n.toNatClampNeg))) := va_copied (fun z => Value.long z) (w.2.2.2 13) (w.2.2.2 13) (L a0) (L a) (by rw [c1', c3']; exact h4)
  rw [e1, c1', c2', c3'] at X' step
  have hlt : w.1 + a < H.size := (Array.getElem?_eq_some_iff.mp hc1).1
  have hheap : ((T.setVm vm').setCell (w.1 + a) (vp_cell (w.2.2.2 13) (n1, .inr (.inl (va_cpy (L a0) (L a) SP DP K))))).heap = H.setIfInBounds (w.1 + a) (vp_cell (w.2.2.2 13) (n1, .inr (.inl (va_cpy (L a0) (L a) SP DP K)))) := by rw [← hT]; rfl
  have oq : ∀ q : Nat, q ≠ w.1 + a → (H.setIfInBounds (w.1 + a) (vp_cell (w.2.2.2 13) (n1, .inr (.inl (va_cpy (L a0) (L a) SP DP K)))))[q]? = H[q]? := fun q hq => by simp [Array.getElem?_setIfInBounds, Ne.symm hq]
  have hrep : bRep w (I, R, cpyL L a0 SP a DP K, sh, N) (H.setIfInBounds (w.1 + a) (vp_cell (w.2.2.2 13) (n1, .inr (.inl (va_cpy (L a0) (L a) SP DP K))))) := by
    refine b_ast_rep hR hs1 (by omega) (by omega) (fun x j hx => ?_) (fun x j hx => ?_) (fun x j hx => ?_) (f := fun j => Value.long (va_cpy (L a0) (L a) SP DP K j)) (fun j => ?_) (show (H.setIfInBounds (w.1 + a) _)[w.1 + a]? = some _ by simp [Array.getElem?_setIfInBounds, hlt]; rfl) (by simp) oq
    · first | rfl | (unfold cpyL; rw [if_neg (fun q => hx q.1)])
    · first | rfl | (unfold cpyL; rw [if_neg (fun q => hx q.1)])
    · first | rfl | (unfold cpyL; rw [if_neg (fun q => hx q.1)])
    · simp [bav, cpyL, va_cpy]
  obtain ⟨t, a1, b1⟩ := kk w p l e RR s m args below meth c _ _ cells slots Qf ls hC hrep hL (fun q hq => by
      rcases List.mem_append.mp hq with h | h
      · exact hl q h
      · obtain ⟨z, -, hz⟩ := List.mem_map.mp h
        rw [← hz]
        exact Nat.le_add_right _ _) hr _ hheap X'
  exact ⟨t, step t a1, b1⟩
end COPY
