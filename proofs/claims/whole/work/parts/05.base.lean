/-! THE ABSTRACT HEAP: cells by their numbers from lo on; ints, references, longs, shapes (kind, length), how many -/
abbrev WD : Type := Nat × (Nat → ClassId) × (Nat → Nat → Nat) × (Nat → ClassId)
abbrev HS : Type := (Nat → Nat → Int32) × (Nat → Nat → Option Nat) × (Nat → Nat → Int64) × (Nat → Nat × Nat) × Nat
def rv : Option Nat → Value
  | none => .null
  | some a => .ref a
def trV (lo : Nat) : Value → Value
  | .ref a => .ref (lo + a)
  | v => v
theorem trV_rv (lo : Nat) (x : Option Nat) : trV lo (rv x) = va_rf (x.map (lo + ·)) := by cases x <;> rfl
theorem trV_cat (lo : Nat) (v : Value) : (trV lo v).category = v.category := by cases v <;> rfl
/-- types of the elements of arrays of kind 12 to 17 -/
def aT : Nat → FieldType
  | 12 => .int
  | 13 => .long
  | 14 => .boolean
  | 15 => .object "FeatureDesk$Feature"
  | 16 => .object "FeatureDesk$Rule"
  | _ => .object "FeatureDesk$Shelf"
def bfv (lo : Nat) (I : Nat → Nat → Int32) (R : Nat → Nat → Option Nat) (ci id k : Nat) : Value := if cKk ci k = 2 then va_rf ((R id k).map (lo + ·)) else .int (I id k)
def bav (lo : Nat) (I : Nat → Nat → Int32) (R : Nat → Nat → Option Nat) (L : Nat → Nat → Int64) (kind id j : Nat) : Value := if kind = 13 then .long (L id j) else if kind < 15 then .int (I id j) else va_rf ((R id j).map (lo + ·))
def bCell (w : WD) (I : Nat → Nat → Int32) (R : Nat → Nat → Option Nat) (L : Nat → Nat → Int64) (k : Nat × Nat) (id : Nat) (H : Heap) : Prop :=
  if k.1 < 12 then t_OB (w.1 + id) (w.2.1 k.1) (cn k.1) (w.2.2.1 k.1) H (fun j => bfv w.1 I R k.1 id j)
  else if k.1 < 18 then H[w.1 + id]? = some (arrV (w.2.2.2 k.1) k.2 (fun j => bav w.1 I R L k.1 id j)) else True
def bRep (w : WD) (h : HS) (H : Heap) : Prop := H.size = w.1 + h.2.2.2.2 ∧ ∀ id, bCell w h.1 h.2.1 h.2.2.1 (h.2.2.2.1 id) id H
def bAO (U : State) : Prop := va_AO "FeatureDesk$Feature" U ∧ va_AO "FeatureDesk$Rule" U ∧ va_AO "FeatureDesk$Shelf" U
theorem bAO.moved {s U : State} (hvm : s.vm.Alike U.vm) (h : bAO s) : bAO U := ⟨h.1.moved hvm, h.2.1.moved hvm, h.2.2.moved hvm⟩
theorem bAO.of {U : State} (h : bAO U) {kd : Nat} {C : String} (h1 : 15 ≤ kd) (h2 : kd < 18) (ht : aT kd = .object C) : va_AO C U := by
  rcases (show kd = 15 ∨ kd = 16 ∨ kd = 17 by omega) with rfl | rfl | rfl
  · cases ht; exact h.1
  · cases ht; exact h.2.1
  · cases ht; exact h.2.2
def bKn (w : WD) (U : State) : Prop := (∀ ci, ci < 12 → u_Kn U (cN ci) (cT ci) (cn ci) (w.2.1 ci) (w.2.2.1 ci)) ∧ (∀ k, 12 ≤ k → k < 18 → ArrOfT U (w.2.2.2 k) (aT k) ∧ va_RA U (w.2.2.2 k) (aT k)) ∧ (∀ x ∈ bNest, va_Nw x U) ∧ bAO U
theorem bNest_moved {s U : State} (hW : s.WarmedH U.vm) (h : ∀ x ∈ bNest, va_Nw x s) : ∀ x ∈ bNest, va_Nw x U := by
  intro x hx
  have h1 := h x hx
  have h2 := (List.mem_filter.mp hx).2
  cases x <;> first | exact va_Nw.warmF hW h1 | exact va_Nw.warmM hW h1 | exact absurd h2 (by simp [bNestW])
theorem bKn.moved {w : WD} {s U : State} (hW : s.WarmedH U.vm) (h : bKn w s) : bKn w U :=
  ⟨fun ci hc => u_Kn_moved hW.alike (h.1 ci hc), fun k h1 h2 => ⟨arrOfT_moved hW.alike (h.2.1 k h1 h2).1, (h.2.1 k h1 h2).2.moved hW.alike⟩, bNest_moved hW h.2.2.1, h.2.2.2.moved hW.alike⟩
theorem bNest_same {s U : State} (hv : s.vm = U.vm) (h : ∀ x ∈ bNest, va_Nw x s) : ∀ x ∈ bNest, va_Nw x U := by
  intro x hx
  have h1 := h x hx
  have h2 := (List.mem_filter.mp hx).2
  cases x <;> first | exact va_Nw.same rfl hv h1 | exact absurd h2 (by simp [bNestW])
theorem bKn.same {w : WD} {s U : State} (hv : s.vm = U.vm) (h : bKn w s) : bKn w U := by
  have ha : s.vm.Alike U.vm := by rw [hv]; exact Vm.Alike.refl _
  exact ⟨fun ci hc => u_Kn_moved ha (h.1 ci hc), fun k h1 h2 => ⟨arrOfT_moved ha (h.2.1 k h1 h2).1, (h.2.1 k h1 h2).2.moved ha⟩, bNest_same hv h.2.2.1, h.2.2.2.moved ha⟩
/-! locals: the last that was stored counts -/
def lget : List (Nat × Value) → Nat → Option Value
  | [], _ => none
  | (i, v) :: t, j => match Nat.beq i j with
    | true => some v
    | false => match Nat.beq v.category 2 with
      | true => match Nat.beq (i + 1) j with
        | true => none
        | false => match lget t j with
          | some u => match Nat.beq u.category 2 with
            | true => match Nat.beq (j + 1) i with
              | true => none
              | false => some u
            | false => some u
          | none => none
      | false => match lget t j with
        | some u => match Nat.beq u.category 2 with
          | true => match Nat.beq (j + 1) i with
            | true => none
            | false => some u
          | false => some u
        | none => none
/-- the machine's locals hold what the list tells -/
def lHas (lo : Nat) (ls : Array Slot) (n : Nat) (ll : List (Nat × Value)) : Prop := ∃ lv, lv_has ls n lv ∧ ∀ j v, lget ll j = some v → (j, trV lo v) ∈ lv
theorem lHas.get {lo : Nat} {ls : Array Slot} {n : Nat} {ll : List (Nat × Value)} (h : lHas lo ls n ll) {j : Nat} {v : Value} (hj : lget ll j = some v) : ls[j]? = some (.val (trV lo v)) := by
  obtain ⟨lv, h1, h2⟩ := h
  exact h1.2.2 _ (h2 j v hj)
theorem lHas.size {lo : Nat} {ls : Array Slot} {n : Nat} {ll : List (Nat × Value)} (h : lHas lo ls n ll) : ls.size = n := h.choose_spec.1.1
theorem lget_1 {i : Nat} {v : Value} {t : List (Nat × Value)} (hv : v.category = 1) {j : Nat} {u : Value} (h : lget ((i, v) :: t) j = some u) : (j = i ∧ u = v) ∨ (j ≠ i ∧ lget t j = some u ∧ ¬ (u.category = 2 ∧ j + 1 = i)) := by
  unfold lget at h
  by_cases e : i = j
  · subst e
    rw [show Nat.beq i i = true from Nat.beq_refl i] at h
    exact Or.inl ⟨rfl, (Option.some.inj h).symm⟩
  · rw [show Nat.beq i j = false from Bool.eq_false_iff.mpr (fun q => e (Nat.eq_of_beq_eq_true q)), hv] at h
    right
    refine ⟨fun q => e q.symm, ?_⟩
    dsimp only [Nat.beq] at h
    cases hl : lget t j with
    | none => rw [hl] at h; cases h
    | some z =>
      rw [hl] at h
      dsimp only at h
      cases hc : Nat.beq z.category 2 with
      | false =>
        rw [hc] at h
        cases h
        exact ⟨rfl, fun q => by rw [q.1] at hc; cases hc⟩
      | true =>
        rw [hc] at h
        dsimp only at h
        cases hq : Nat.beq (j + 1) i with
        | true => rw [hq] at h; cases h
        | false =>
          rw [hq] at h
          cases h
          exact ⟨rfl, fun q => by rw [q.2] at hq; rw [Nat.beq_refl] at hq; cases hq⟩
theorem lget_2 {i : Nat} {v : Value} {t : List (Nat × Value)} (hv : v.category = 2) {j : Nat} {u : Value} (h : lget ((i, v) :: t) j = some u) : (j = i ∧ u = v) ∨ (j ≠ i ∧ j ≠ i + 1 ∧ lget t j = some u ∧ ¬ (u.category = 2 ∧ j + 1 = i)) := by
  unfold lget at h
  by_cases e : i = j
  · subst e
    rw [show Nat.beq i i = true from Nat.beq_refl i] at h
    exact Or.inl ⟨rfl, (Option.some.inj h).symm⟩
  · rw [show Nat.beq i j = false from Bool.eq_false_iff.mpr (fun q => e (Nat.eq_of_beq_eq_true q)), hv] at h
    right
    refine ⟨fun q => e q.symm, ?_⟩
    rw [show Nat.beq 2 2 = true from rfl] at h
    dsimp only at h
    by_cases e2 : i + 1 = j
    · rw [e2, Nat.beq_refl] at h
      cases h
    · rw [show Nat.beq (i + 1) j = false from Bool.eq_false_iff.mpr (fun q => e2 (Nat.eq_of_beq_eq_true q))] at h
      refine ⟨fun q => e2 q.symm, ?_⟩
      dsimp only at h
      cases hl : lget t j with
      | none => rw [hl] at h; cases h
      | some z =>
        rw [hl] at h
        dsimp only at h
        cases hc : Nat.beq z.category 2 with
        | false =>
          rw [hc] at h
          cases h
          exact ⟨rfl, fun q => by rw [q.1] at hc; cases hc⟩
        | true =>
          rw [hc] at h
          dsimp only at h
          cases hq : Nat.beq (j + 1) i with
          | true => rw [hq] at h; cases h
          | false =>
            rw [hq] at h
            cases h
            exact ⟨rfl, fun q => by rw [q.2] at hq; rw [Nat.beq_refl] at hq; cases hq⟩
theorem lHas.set1 {lo : Nat} {ls ls' : Array Slot} {n i : Nat} {ll : List (Nat × Value)} {lv : List (Nat × Value)} {v : Value} (hv : v.category = 1) (h2 : ∀ j u, lget ll j = some u → (j, trV lo u) ∈ lv)
    (h : lv_has ls' n ((i, trV lo v) :: lv.filter (fun q => !(q.1 == i) && !(q.1 + 1 == i && q.2.category == 2)))) : lHas lo ls' n ((i, v) :: ll) := by
  refine ⟨_, h, fun j u hj => ?_⟩
  rcases lget_1 hv hj with ⟨rfl, rfl⟩ | ⟨h3, h4, h5⟩
  · exact List.mem_cons_self
  · refine List.mem_cons_of_mem _ (List.mem_filter.mpr ⟨h2 j u h4, ?_⟩)
    simp only [trV_cat]
    simp [h3]
    by_cases e : j + 1 = i
    · exact Or.inr (fun q => h5 ⟨q, e⟩)
    · exact Or.inl e
theorem lHas.set2 {lo : Nat} {ls ls' : Array Slot} {n i : Nat} {ll : List (Nat × Value)} {lv : List (Nat × Value)} {v : Value} (hv : v.category = 2) (h2 : ∀ j u, lget ll j = some u → (j, trV lo u) ∈ lv)
    (h : lv_has ls' n ((i, trV lo v) :: lv.filter (fun q => !(q.1 == i) && (!(q.1 == i + 1) && !(q.1 + 1 == i && q.2.category == 2))))) : lHas lo ls' n ((i, v) :: ll) := by
  refine ⟨_, h, fun j u hj => ?_⟩
  rcases lget_2 hv hj with ⟨rfl, rfl⟩ | ⟨h3, h4, h5, h6⟩
  · exact List.mem_cons_self
  · refine List.mem_cons_of_mem _ (List.mem_filter.mpr ⟨h2 j u h5, ?_⟩)
    simp only [trV_cat]
    simp [h3, h4]
    by_cases e : j + 1 = i
    · exact Or.inr (fun q => h6 ⟨q, e⟩)
    · exact Or.inl e
/-- the locals of a shorter list -/
def lSub (ll : List (Nat × Value)) : List (Nat × Value) → Prop
  | [] => True
  | (i, v) :: t => lget ll i = some v ∧ lSub ll t
theorem lget_mem {ll : List (Nat × Value)} {j : Nat} {v : Value} (h : lget ll j = some v) : (j, v) ∈ ll := by
  induction ll with
  | nil => cases h
  | cons q t ih =>
    obtain ⟨i, x⟩ := q
    rcases (show x.category = 1 ∨ x.category = 2 by cases x <;> simp [Value.category]) with hx | hx
    · rcases lget_1 hx h with ⟨rfl, rfl⟩ | ⟨h3, h4, h5⟩
      · exact List.mem_cons_self
      · exact List.mem_cons_of_mem _ (ih h4)
    · rcases lget_2 hx h with ⟨rfl, rfl⟩ | ⟨h3, h4, h5, h6⟩
      · exact List.mem_cons_self
      · exact List.mem_cons_of_mem _ (ih h5)
theorem lSub.mem {ll : List (Nat × Value)} : ∀ {l2 : List (Nat × Value)}, lSub ll l2 → ∀ {j : Nat} {v : Value}, (j, v) ∈ l2 → lget ll j = some v
  | [], _, _, _, h => absurd h List.not_mem_nil
  | (i, x) :: t, h, j, v, hm => by
    rcases List.mem_cons.mp hm with e | e
    · cases e; exact h.1
    · exact lSub.mem h.2 e
theorem lHas.sub {lo : Nat} {ls : Array Slot} {n : Nat} {ll l2 : List (Nat × Value)} (h : lHas lo ls n ll) (hs : lSub ll l2) : lHas lo ls n l2 := by
  obtain ⟨lv, h1, h2⟩ := h
  exact ⟨lv, h1, fun j v hj => h2 j v (hs.mem (lget_mem hj))⟩
/-! THE JUDGEMENT -/
def bRi : Option FieldType → Instr
  | none => .return_
  | some .long => .lreturn
  | some .int => .ireturn
  | some .boolean => .ireturn
  | some (.object _) => .areturn
  | some (.array _) => .areturn
  | _ => .nop
def bRk : Option FieldType → Option Value → Prop
  | none, r => r = none
  | some .long, r => ∃ x, r = some (.long x)
  | some .int, r => ∃ x, r = some (.int x)
  | some .boolean, r => ∃ x : Int32, r = some (.int x) ∧ (x = 0 ∨ x = 1)
  | some (.object _), r => ∃ x, r = some (rv x)
  | some (.array _), r => ∃ x, r = some (rv x)
  | _, _ => False
def bCx (M : MI) (d ac az : Nat) (w : WD) (p : Program) (RR : Room) (s : State) (m : MethodId) (args : Array Value) (meth : Method) (c : Code) (cells slots : Nat) : Prop :=
  p.tables.exec = Jvm.exec ∧ c.code = M.2.1 ∧ c.maxLocals = M.2.2.1 ∧ s.vm.findClass M.1.cls = some m.cls ∧ (∀ x ∈ bBig, x.before args s = true) ∧ meth.name = M.1.name ∧ bKn w s ∧ d ≤ RR.frames ∧ 40 * d ≤ RR.locals ∧ cells + ac ≤ RR.cells ∧ slots + az ≤ RR.slots ∧ w.1 ≥ 0
def bRet (M : MI) (w : WD) (p : Program) (l : Launch) (e : Env) (RR : Room) (s : State) (m : MethodId) (args : Array Value) (below : List Frame) (meth : Method) (c : Code) (Qf : State → Prop) (Q : Option Value → HS → Prop) : Prop :=
  ∀ (pc : Nat) (ls : Array Slot) (r : Option Value) (h' : HS) (H' : Heap) (locs' : List Loc), decode M.2.1 pc = .ok (bRi M.2.2.2, 1) → bRk M.2.2.2 r → Q r h' → bRep w h' H' → (∀ q ∈ locs', w.1 ≤ q.base) →
    W p l e RR s m args below meth c H' locs' RR.cells RR.slots Qf (F0 m pc ls (r.toList.map (trV w.1)))
def Run (M : MI) (d ac az : Nat) (pc : Nat) (ll : List (Nat × Value)) (st : List Value) (h : HS) (Q : Option Value → HS → Prop) : Prop :=
  ∀ (w : WD) (p : Program) (l : Launch) (e : Env) (RR : Room) (s : State) (m : MethodId) (args : Array Value) (below : List Frame) (meth : Method) (c : Code) (H : Heap) (locs : List Loc) (cells slots : Nat) (Qf : State → Prop) (ls : Array Slot),
    bCx M d ac az w p RR s m args meth c cells slots → bRep w h H → lHas w.1 ls M.2.2.1 ll → (∀ q ∈ locs, w.1 ≤ q.base) → bRet M w p l e RR s m args below meth c Qf Q →
    W p l e RR s m args below meth c H locs cells slots Qf (F0 m pc ls (st.map (trV w.1)))
def bWs (M : MI) : List Jvm.Cond := Jvm.Cond.code M.1 M.2.1 M.2.2.1 M.2.2.2 :: bBig
def Mt (M : MI) (d ac az : Nat) (args : List Value) (h : HS) (Q : Option Value → HS → Prop) : Prop :=
  ∀ (l : Launch) (w : WD), Met l M.1 (bWs M) { frames := d, cells := ac, slots := az, locals := 40 * d } (fun a U => a = (args.map (trV w.1)).toArray ∧ bRep w h U.heap ∧ bKn w U)
    (fun _ _ o t => ∃ r h', o = .returned (r.map (trV w.1)) ∧ Q r h' ∧ bRep w h' t.heap) ac az (fun q => w.1 ≤ q)
/-- weaken the end -/
theorem Run.imp {M : MI} {d ac az pc : Nat} {ll : List (Nat × Value)} {st : List Value} {h : HS} {Q Q' : Option Value → HS → Prop} (hq : ∀ r h', Q r h' → Q' r h') (k : Run M d ac az pc ll st h Q) : Run M d ac az pc ll st h Q' :=
  fun w p l e RR s m args below meth c H locs cells slots Qf ls hC hR hL hl hr => k w p l e RR s m args below meth c H locs cells slots Qf ls hC hR hL hl (fun pc ls r h' H' locs' a1 a2 a3 => hr pc ls r h' H' locs' a1 a2 (hq r h' a3))
theorem Run.sub {M : MI} {d ac az pc : Nat} {ll l2 : List (Nat × Value)} {st : List Value} {h : HS} {Q : Option Value → HS → Prop} (hs : lSub ll l2) (k : Run M d ac az pc l2 st h Q) : Run M d ac az pc ll st h Q :=
  fun w p l e RR s m args below meth c H locs cells slots Qf ls hC hR hL hl hr => k w p l e RR s m args below meth c H locs cells slots Qf ls hC hR (hL.sub hs) hl hr
theorem Run.room {M : MI} {d d' ac ac' az az' pc : Nat} {ll : List (Nat × Value)} {st : List Value} {h : HS} {Q : Option Value → HS → Prop} (hd : d' ≤ d) (hc : ac' ≤ ac) (hz : az' ≤ az) (k : Run M d' ac' az' pc ll st h Q) : Run M d ac az pc ll st h Q :=
  fun w p l e RR s m args below meth c H locs cells slots Qf ls hC hR hL hl hr => by
    obtain ⟨a1, a2, a3, a4, a5, a6, a7, a8, a9, a10, a11, a12⟩ := hC
    exact k w p l e RR s m args below meth c H locs cells slots Qf ls ⟨a1, a2, a3, a4, a5, a6, a7, Nat.le_trans hd a8, Nat.le_trans (Nat.mul_le_mul_left 40 hd) a9, Nat.le_trans (Nat.add_le_add_left hc _) a10, Nat.le_trans (Nat.add_le_add_left hz _) a11, a12⟩ hR hL hl hr
/-- a return -/
theorem Run.ret {M : MI} {d ac az pc : Nat} {ll : List (Nat × Value)} {h : HS} {Q : Option Value → HS → Prop} (r : Option Value) (hd : decode M.2.1 pc = .ok (bRi M.2.2.2, 1)) (hk : bRk M.2.2.2 r) (hq : Q r h) : Run M d ac az pc ll r.toList h Q :=
  fun w p l e RR s m args below meth c H locs cells slots Qf ls hC hR hL hl hr => by
    obtain ⟨a1, a2, a3, a4, a5, a6, a7, a8, a9, a10, a11, a12⟩ := hC
    exact W.widen (Nat.le_trans (Nat.le_add_right _ _) a10) (Nat.le_trans (Nat.le_add_right _ _) a11) (hr pc ls r h H locs hd hk hq hR hl)
/-- a method, out of its body -/
theorem lv_args_map (lo : Nat) : ∀ (vs : List Value) (i : Nat), lv_args i (vs.map (trV lo)) = (lv_args i vs).map (fun q => (q.1, trV lo q.2))
  | [], _ => rfl
  | v :: vs, i => by
    simp only [List.map_cons, lv_args, trV_cat]
    rw [lv_args_map lo vs]
theorem lg_sl_map (lo : Nat) (vs : List Value) : (lg_sl (vs.map (trV lo))).length = (lg_sl vs).length := by
  induction vs with
  | nil => rfl
  | cons v t ih =>
    simp only [lg_sl, List.map_cons, List.flatMap_cons, List.length_append] at ih ⊢
    rw [ih, trV_cat]
    split <;> rfl
theorem bRet_of {y : MethodName} {cc : ByteArray} {mL : Nat} {ret : Option FieldType} {w : WD} {p : Program} {l : Launch} {e : Env} {RR : Room} {s : State} {m : MethodId} {args : Array Value} {below : List Frame} {meth : Method} {c : Code} {Q : Option Value → HS → Prop} {free : Addr → Prop}
    (hx : p.tables.exec = Jvm.exec) (hb : c.code = cc) (hr : meth.sig.returnType = ret) (hlocks : meth.locks = false) (hfree : ∀ q, w.1 ≤ q → free q) :
    bRet (y, cc, mL, ret) w p l e RR s m args below meth c (MQ below (fun _ _ o t => ∃ r h', o = .returned (r.map (trV w.1)) ∧ Q r h' ∧ bRep w h' t.heap) args s RR.cells RR.slots free) Q := by
  intro pc ls r h' H' locs' hdg hk hq hR hl
  dsimp only at hdg hk
  have hl' : ∀ q ∈ locs', free q.base := fun q h => hfree _ (hl q h)
  cases ret with
  | none =>
    cases (show r = none from hk)
    exact W.vret hx hb hr (fun t ht _ => ⟨none, h', rfl, hq, by rw [ht]; exact hR⟩) hl' hdg
  | some ty =>
    cases ty with
    | int =>
      obtain ⟨x, rfl⟩ := hk
      exact W.iret hx hb hr (fun t ht _ => ⟨some (.int x), h', rfl, hq, by rw [ht]; exact hR⟩) hl' hdg
    | boolean =>
      obtain ⟨x, rfl, hx01⟩ := hk
      have hn : narrow .boolean (.int x) = .int x := by rcases hx01 with rfl | rfl <;> rfl
      exact W.zret hx hb hr hn (fun t ht _ => ⟨some (.int x), h', rfl, hq, by rw [ht]; exact hR⟩) hl' hdg
    | long =>
      obtain ⟨x, rfl⟩ := hk
      exact W.lret hx hb hr (fun t ht _ => ⟨some (.long x), h', rfl, hq, by rw [ht]; exact hR⟩) hl' hdg
    | object C =>
      obtain ⟨x, rfl⟩ := hk
      exact W.aret (v := trV w.1 (rv x)) hx hb hr (Or.inl ⟨_, rfl⟩) (by cases x with | none => exact Or.inl rfl | some a => exact Or.inr ⟨_, rfl⟩) (fun t ht _ => ⟨some (rv x), h', rfl, hq, by rw [ht]; exact hR⟩) hl' hdg
    | array C =>
      obtain ⟨x, rfl⟩ := hk
      exact W.aret (v := trV w.1 (rv x)) hx hb hr (Or.inr ⟨_, rfl⟩) (by cases x with | none => exact Or.inl rfl | some a => exact Or.inr ⟨_, rfl⟩) (fun t ht _ => ⟨some (rv x), h', rfl, hq, by rw [ht]; exact hR⟩) hl' hdg
    | _ => exact absurd hk (fun z => z)
theorem Mt.of {M : MI} {d ac az : Nat} {args : List Value} {h : HS} {Q : Option Value → HS → Prop} (hy : plainName M.1.cls = true) (hL : (lg_sl args).length ≤ M.2.2.1) (k : Run M d ac az 0 (lv_args 0 args) [] h Q) : Mt M d ac az args h Q := by
  intro l w
  obtain ⟨y, cc, mL, ret⟩ := M
  refine Met.ofW (cc := cc) (maxL := mL) (ret := ret) hy rfl ?_
  intro p e s m args' below meth c s₁ B hml hv
  obtain ⟨rfl, hR, hK⟩ := hv
  rw [lg_entry_eq]
  have hl := lv_entry (args.map (trV w.1)) (n := mL) (by rw [lg_sl_map]; exact hL)
  refine k w p l e _ s m _ below meth c s.heap [] 0 0 _ _ ⟨B.exec, B.bytes, hml, findClass_of_methodNamed B.named, fun x hx => atoms_spec (ws := bWs (y, cc, mL, ret)) B.pre x (List.mem_cons_of_mem _ hx), (name_of_methodNamed B.named B.method).1, hK, Nat.le_refl _, Nat.le_refl _, ?_, ?_, Nat.zero_le _⟩ hR ⟨_, hl, fun j v hj => ?_⟩ (fun q h => by cases h) (bRet_of B.exec B.bytes B.returns B.notSynchronized (fun q h => h))
  · show 0 + ac ≤ ac
    omega
  · show 0 + az ≤ az
    omega
  · rw [lv_args_map]
    exact List.mem_map.mpr ⟨(j, v), lget_mem hj, rfl⟩
