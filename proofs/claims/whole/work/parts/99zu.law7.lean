/-! THE LAW'S CASES: what they have in common -/
section LAW
variable {w : WD} {p : Program} {l : Launch} {e : Env} {s : State} {m : MethodId} {below : List Frame} {meth : Method} {c : Code} {b L : Nat} {xs : Nat → Int32} {pc cells slots : Nat} {h : HS}
/-- the law's locals: the script, class, reference, the place -/
def LV (w : WD) (b i : Nat) : List (Nat × Value) := [(3, .int (nI i)), (2, .ref (w.1 + 761)), (1, .ref (w.1 + 0)), (0, .ref b)]
theorem lv0 {w : WD} {b i : Nat} : (0, Value.ref b) ∈ LV w b i := by unfold LV; simp
theorem lv1 {w : WD} {b i : Nat} : (1, Value.ref (w.1 + 0)) ∈ LV w b i := by unfold LV; simp
theorem lv2 {w : WD} {b i : Nat} : (2, Value.ref (w.1 + 761)) ∈ LV w b i := by unfold LV; simp
theorem lv3 {w : WD} {b i : Nat} : (3, Value.int (nI i)) ∈ LV w b i := by unfold LV; simp
/-- an argument: the script's number behind the place -/
theorem lr_arg {kI : Int} {k i pc1 pc2 pc3 pc4 pc5 : Nat} {st : List Value} (X : LX w p s m meth c b L xs) (h0 : decode code pc = .ok (.aload_n 0, 1)) (p1 : pc + 1 = pc1) (h1 : decode code pc1 = .ok (.iload_n 3, 1)) (p2 : pc1 + 1 = pc2) (h2 : decode code pc2 = .ok (.iconst kI, 1)) (p3 : pc2 + 1 = pc3) (h3 : decode code pc3 = .ok (.iadd, 1)) (p4 : pc3 + 1 = pc4) (h4 : decode code pc4 = .ok (.iaload, 1)) (p5 : pc4 + 1 = pc5) (hk : Int32.ofInt kI = nI k) (hi : i + k < L) (kk : LR w p l e s m below meth c b pc5 (LV w b i) (.int (xs (i + k)) :: st) h cells slots) : LR w p l e s m below meth c b pc (LV w b i) st h cells slots := by
  refine lr_aload (i := 0) X h0 p1 rfl lv0 ?_
  refine lr_iload (i := 3) X h1 p2 rfl lv3 ?_
  refine lr_iconst X h2 p3 hk ?_
  refine lr_iadd X h3 p4 ?_
  rw [nI_add]
  exact lr_sld X h4 p5 hi kk
theorem cmp_self {v : Int64} : lg_cmp v v = 0 := by
  unfold lg_cmp
  rw [if_neg (Int64.lt_irrefl)]
  first | rfl | rw [if_neg (Int64.lt_irrefl)] | simp
theorem lr_sameL {v : Int64} {off : Int} {tgt pc2 : Nat} {st : List Value} {lv : List (Nat × Value)} (X : LX w p s m meth c b L xs) (h0 : decode code pc = .ok (.lcmp, 1)) (p1 : pc + 1 = pc2) (h1 : decode code pc2 = .ok (.ifCond .eq off, 3)) (ht : (pc2 : Int) + off = (tgt : Int)) (kk : LR w p l e s m below meth c b tgt lv st h cells slots) : LR w p l e s m below meth c b pc lv (.long v :: .long v :: st) h cells slots := by
  subst p1
  intro H locs ls hR hl hv2
  refine W.lcmp X.x X.cd h0 ?_
  rw [cmp_self]
  exact lv_if_eq X.x X.cd h1 ht (fun q => kk H locs ls hR hl hv2) (fun q => absurd rfl q)
/-- what a case is to show -/
def LCase (w : WD) (p : Program) (l : Launch) (e : Env) (s : State) (m : MethodId) (below : List Frame) (meth : Method) (c : Code) (b L : Nat) (xs : Nat → Int32) (pc : Nat) : Prop :=
  LX w p s m meth c b L xs → ∀ (n : Nat) (h : HS) (cells slots : Nat), 6 * n + 6 ≤ L → n ≤ 511 → INV n h → cells ≤ 1000 + 10 * n → slots ≤ 100000 + 5450 * n → (∀ h2 c2 s2, INV (n + 1) h2 → c2 ≤ 1000 + 10 * (n + 1) → s2 ≤ 100000 + 5450 * (n + 1) → LR w p l e s m below meth c b 1915 (LV w b (6 * n)) [] h2 c2 s2) → LR w p l e s m below meth c b pc (LV w b (6 * n)) [] h cells slots
end LAW
