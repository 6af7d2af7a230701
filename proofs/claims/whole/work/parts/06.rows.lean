/-! ROWS: an instruction each, over the abstract heap -/
section ROWS
variable {M : MI} {d ac az pc : Nat} {ll : List (Nat × Value)} {st : List Value} {h : HS} {Q : Option Value → HS → Prop}
theorem r_iconst {n : Int} {v : Int32} {pc2 : Nat} (hdg : decode M.2.1 pc = .ok (.iconst n, 1)) (hp : pc + 1 = pc2) (hv : Int32.ofInt n = v) (k : Run M d ac az pc2 ll (.int v :: st) h Q) : Run M d ac az pc ll (st) h Q := by
  subst hp
  intro w p l e RR s m args below meth c H locs cells slots Qf ls hC hR hL hl hr
  exact lv_iconst hC.1 hC.2.1 hdg hv (k w p l e RR s m args below meth c H locs cells slots Qf ls hC hR hL hl hr)
theorem r_bipush {n : Int} {v : Int32} {pc2 : Nat} (hdg : decode M.2.1 pc = .ok (.bipush n, 2)) (hp : pc + 2 = pc2) (hv : (Int8.ofInt n).toInt32 = v) (k : Run M d ac az pc2 ll (.int v :: st) h Q) : Run M d ac az pc ll (st) h Q := by
  subst hp
  intro w p l e RR s m args below meth c H locs cells slots Qf ls hC hR hL hl hr
  exact lv_bipush hC.1 hC.2.1 hdg hv (k w p l e RR s m args below meth c H locs cells slots Qf ls hC hR hL hl hr)
theorem r_sipush {n : Int} {v : Int32} {pc2 : Nat} (hdg : decode M.2.1 pc = .ok (.sipush n, 3)) (hp : pc + 3 = pc2) (hv : (Int16.ofInt n).toInt32 = v) (k : Run M d ac az pc2 ll (.int v :: st) h Q) : Run M d ac az pc ll (st) h Q := by
  subst hp
  intro w p l e RR s m args below meth c H locs cells slots Qf ls hC hR hL hl hr
  exact lv_sipush hC.1 hC.2.1 hdg hv (k w p l e RR s m args below meth c H locs cells slots Qf ls hC hR hL hl hr)
theorem r_iadd {x y : Int32} {pc2 : Nat} (hdg : decode M.2.1 pc = .ok (.iadd, 1)) (hp : pc + 1 = pc2) (k : Run M d ac az pc2 ll (.int (x + y) :: st) h Q) : Run M d ac az pc ll (.int y :: .int x :: st) h Q := by
  subst hp
  intro w p l e RR s m args below meth c H locs cells slots Qf ls hC hR hL hl hr
  exact lv_iadd hC.1 hC.2.1 hdg (k w p l e RR s m args below meth c H locs cells slots Qf ls hC hR hL hl hr)
theorem r_isub {x y : Int32} {pc2 : Nat} (hdg : decode M.2.1 pc = .ok (.isub, 1)) (hp : pc + 1 = pc2) (k : Run M d ac az pc2 ll (.int (x - y) :: st) h Q) : Run M d ac az pc ll (.int y :: .int x :: st) h Q := by
  subst hp
  intro w p l e RR s m args below meth c H locs cells slots Qf ls hC hR hL hl hr
  exact lv_isub hC.1 hC.2.1 hdg (k w p l e RR s m args below meth c H locs cells slots Qf ls hC hR hL hl hr)
theorem r_imul {x y : Int32} {pc2 : Nat} (hdg : decode M.2.1 pc = .ok (.imul, 1)) (hp : pc + 1 = pc2) (k : Run M d ac az pc2 ll (.int (x * y) :: st) h Q) : Run M d ac az pc ll (.int y :: .int x :: st) h Q := by
  subst hp
  intro w p l e RR s m args below meth c H locs cells slots Qf ls hC hR hL hl hr
  exact lv_imul hC.1 hC.2.1 hdg (k w p l e RR s m args below meth c H locs cells slots Qf ls hC hR hL hl hr)
theorem r_iand {x y : Int32} {pc2 : Nat} (hdg : decode M.2.1 pc = .ok (.iand, 1)) (hp : pc + 1 = pc2) (k : Run M d ac az pc2 ll (.int (x &&& y) :: st) h Q) : Run M d ac az pc ll (.int y :: .int x :: st) h Q := by
  subst hp
  intro w p l e RR s m args below meth c H locs cells slots Qf ls hC hR hL hl hr
  exact lv_iand hC.1 hC.2.1 hdg (k w p l e RR s m args below meth c H locs cells slots Qf ls hC hR hL hl hr)
theorem r_ior {x y : Int32} {pc2 : Nat} (hdg : decode M.2.1 pc = .ok (.ior, 1)) (hp : pc + 1 = pc2) (k : Run M d ac az pc2 ll (.int (x ||| y) :: st) h Q) : Run M d ac az pc ll (.int y :: .int x :: st) h Q := by
  subst hp
  intro w p l e RR s m args below meth c H locs cells slots Qf ls hC hR hL hl hr
  exact lv_ior hC.1 hC.2.1 hdg (k w p l e RR s m args below meth c H locs cells slots Qf ls hC hR hL hl hr)
theorem r_ixor {x y : Int32} {pc2 : Nat} (hdg : decode M.2.1 pc = .ok (.ixor, 1)) (hp : pc + 1 = pc2) (k : Run M d ac az pc2 ll (.int (x ^^^ y) :: st) h Q) : Run M d ac az pc ll (.int y :: .int x :: st) h Q := by
  subst hp
  intro w p l e RR s m args below meth c H locs cells slots Qf ls hC hR hL hl hr
  exact lv_ixor hC.1 hC.2.1 hdg (k w p l e RR s m args below meth c H locs cells slots Qf ls hC hR hL hl hr)
theorem r_ladd {x y : Int64} {pc2 : Nat} (hdg : decode M.2.1 pc = .ok (.ladd, 1)) (hp : pc + 1 = pc2) (k : Run M d ac az pc2 ll (.long (x + y) :: st) h Q) : Run M d ac az pc ll (.long y :: .long x :: st) h Q := by
  subst hp
  intro w p l e RR s m args below meth c H locs cells slots Qf ls hC hR hL hl hr
  exact lv_ladd hC.1 hC.2.1 hdg (k w p l e RR s m args below meth c H locs cells slots Qf ls hC hR hL hl hr)
theorem r_land {x y : Int64} {pc2 : Nat} (hdg : decode M.2.1 pc = .ok (.land, 1)) (hp : pc + 1 = pc2) (k : Run M d ac az pc2 ll (.long (x &&& y) :: st) h Q) : Run M d ac az pc ll (.long y :: .long x :: st) h Q := by
  subst hp
  intro w p l e RR s m args below meth c H locs cells slots Qf ls hC hR hL hl hr
  exact lv_land hC.1 hC.2.1 hdg (k w p l e RR s m args below meth c H locs cells slots Qf ls hC hR hL hl hr)
theorem r_lor {x y : Int64} {pc2 : Nat} (hdg : decode M.2.1 pc = .ok (.lor, 1)) (hp : pc + 1 = pc2) (k : Run M d ac az pc2 ll (.long (x ||| y) :: st) h Q) : Run M d ac az pc ll (.long y :: .long x :: st) h Q := by
  subst hp
  intro w p l e RR s m args below meth c H locs cells slots Qf ls hC hR hL hl hr
  exact lv_lor hC.1 hC.2.1 hdg (k w p l e RR s m args below meth c H locs cells slots Qf ls hC hR hL hl hr)
theorem r_ishl {x y : Int32} {pc2 : Nat} (hdg : decode M.2.1 pc = .ok (.ishl, 1)) (hp : pc + 1 = pc2) (k : Run M d ac az pc2 ll (.int (x <<< (y &&& 31)) :: st) h Q) : Run M d ac az pc ll (.int y :: .int x :: st) h Q := by
  subst hp
  intro w p l e RR s m args below meth c H locs cells slots Qf ls hC hR hL hl hr
  exact lv_ishl hC.1 hC.2.1 hdg (k w p l e RR s m args below meth c H locs cells slots Qf ls hC hR hL hl hr)
theorem r_ishr {x y : Int32} {pc2 : Nat} (hdg : decode M.2.1 pc = .ok (.ishr, 1)) (hp : pc + 1 = pc2) (k : Run M d ac az pc2 ll (.int (x >>> (y &&& 31)) :: st) h Q) : Run M d ac az pc ll (.int y :: .int x :: st) h Q := by
  subst hp
  intro w p l e RR s m args below meth c H locs cells slots Qf ls hC hR hL hl hr
  exact lv_ishr hC.1 hC.2.1 hdg (k w p l e RR s m args below meth c H locs cells slots Qf ls hC hR hL hl hr)
theorem r_iushr {x y : Int32} {pc2 : Nat} (hdg : decode M.2.1 pc = .ok (.iushr, 1)) (hp : pc + 1 = pc2) (k : Run M d ac az pc2 ll (.int (x.toUInt32 >>> (y.toUInt32 &&& Int32.toUInt32 31)).toInt32 :: st) h Q) : Run M d ac az pc ll (.int y :: .int x :: st) h Q := by
  subst hp
  intro w p l e RR s m args below meth c H locs cells slots Qf ls hC hR hL hl hr
  exact lv_iushr hC.1 hC.2.1 hdg rfl (k w p l e RR s m args below meth c H locs cells slots Qf ls hC hR hL hl hr)
theorem r_lshl {x : Int64} {y : Int32} {pc2 : Nat} (hdg : decode M.2.1 pc = .ok (.lshl, 1)) (hp : pc + 1 = pc2) (k : Run M d ac az pc2 ll (.long (x <<< (y.toInt64 &&& 63)) :: st) h Q) : Run M d ac az pc ll (.int y :: .long x :: st) h Q := by
  subst hp
  intro w p l e RR s m args below meth c H locs cells slots Qf ls hC hR hL hl hr
  exact lv_lshl hC.1 hC.2.1 hdg rfl (k w p l e RR s m args below meth c H locs cells slots Qf ls hC hR hL hl hr)
theorem r_ineg {x : Int32} {pc2 : Nat} (hdg : decode M.2.1 pc = .ok (.ineg, 1)) (hp : pc + 1 = pc2) (k : Run M d ac az pc2 ll (.int (-x) :: st) h Q) : Run M d ac az pc ll (.int x :: st) h Q := by
  subst hp
  intro w p l e RR s m args below meth c H locs cells slots Qf ls hC hR hL hl hr
  exact lv_ineg hC.1 hC.2.1 hdg (k w p l e RR s m args below meth c H locs cells slots Qf ls hC hR hL hl hr)
theorem r_idiv {x y : Int32} {pc2 : Nat} (hdg : decode M.2.1 pc = .ok (.idiv, 1)) (hp : pc + 1 = pc2) (hne : ¬ y = 0) (k : Run M d ac az pc2 ll (.int (x / y) :: st) h Q) : Run M d ac az pc ll (.int y :: .int x :: st) h Q := by
  subst hp
  intro w p l e RR s m args below meth c H locs cells slots Qf ls hC hR hL hl hr
  exact lv_idiv hC.1 hC.2.1 hdg hne (k w p l e RR s m args below meth c H locs cells slots Qf ls hC hR hL hl hr)
theorem r_irem {x y : Int32} {pc2 : Nat} (hdg : decode M.2.1 pc = .ok (.irem, 1)) (hp : pc + 1 = pc2) (hne : ¬ y = 0) (k : Run M d ac az pc2 ll (.int (x - x / y * y) :: st) h Q) : Run M d ac az pc ll (.int y :: .int x :: st) h Q := by
  subst hp
  intro w p l e RR s m args below meth c H locs cells slots Qf ls hC hR hL hl hr
  exact lv_irem hC.1 hC.2.1 hdg hne (k w p l e RR s m args below meth c H locs cells slots Qf ls hC hR hL hl hr)
theorem r_i2l {x : Int32} {pc2 : Nat} (hdg : decode M.2.1 pc = .ok (.i2l, 1)) (hp : pc + 1 = pc2) (k : Run M d ac az pc2 ll (.long x.toInt64 :: st) h Q) : Run M d ac az pc ll (.int x :: st) h Q := by
  subst hp
  intro w p l e RR s m args below meth c H locs cells slots Qf ls hC hR hL hl hr
  exact lv_i2l hC.1 hC.2.1 hdg rfl (k w p l e RR s m args below meth c H locs cells slots Qf ls hC hR hL hl hr)
theorem r_l2i {x : Int64} {pc2 : Nat} (hdg : decode M.2.1 pc = .ok (.l2i, 1)) (hp : pc + 1 = pc2) (k : Run M d ac az pc2 ll (.int x.toInt32 :: st) h Q) : Run M d ac az pc ll (.long x :: st) h Q := by
  subst hp
  intro w p l e RR s m args below meth c H locs cells slots Qf ls hC hR hL hl hr
  exact lv_l2i hC.1 hC.2.1 hdg rfl (k w p l e RR s m args below meth c H locs cells slots Qf ls hC hR hL hl hr)
theorem r_i2b {x : Int32} {pc2 : Nat} (hdg : decode M.2.1 pc = .ok (.i2b, 1)) (hp : pc + 1 = pc2) (k : Run M d ac az pc2 ll (.int x.toInt8.toInt32 :: st) h Q) : Run M d ac az pc ll (.int x :: st) h Q := by
  subst hp
  intro w p l e RR s m args below meth c H locs cells slots Qf ls hC hR hL hl hr
  exact lv_i2b hC.1 hC.2.1 hdg rfl (k w p l e RR s m args below meth c H locs cells slots Qf ls hC hR hL hl hr)
theorem r_i2s {x : Int32} {pc2 : Nat} (hdg : decode M.2.1 pc = .ok (.i2s, 1)) (hp : pc + 1 = pc2) (k : Run M d ac az pc2 ll (.int x.toInt16.toInt32 :: st) h Q) : Run M d ac az pc ll (.int x :: st) h Q := by
  subst hp
  intro w p l e RR s m args below meth c H locs cells slots Qf ls hC hR hL hl hr
  exact lv_i2s hC.1 hC.2.1 hdg rfl (k w p l e RR s m args below meth c H locs cells slots Qf ls hC hR hL hl hr)
theorem r_lcmp {x y : Int64} {pc2 : Nat} (hdg : decode M.2.1 pc = .ok (.lcmp, 1)) (hp : pc + 1 = pc2) (k : Run M d ac az pc2 ll (.int (lg_cmp x y) :: st) h Q) : Run M d ac az pc ll (.long y :: .long x :: st) h Q := by
  subst hp
  intro w p l e RR s m args below meth c H locs cells slots Qf ls hC hR hL hl hr
  exact W.lcmp hC.1 hC.2.1 hdg (k w p l e RR s m args below meth c H locs cells slots Qf ls hC hR hL hl hr)
theorem r_lconst {n : Fin 2} {v : Int64} {pc2 : Nat} (hdg : decode M.2.1 pc = .ok (.lconst n, 1)) (hp : pc + 1 = pc2) (hv : (Int64.ofNat n.val) = v) (k : Run M d ac az pc2 ll (.long v :: st) h Q) : Run M d ac az pc ll (st) h Q := by
  subst hp
  intro w p l e RR s m args below meth c H locs cells slots Qf ls hC hR hL hl hr
  exact lv_lconst hC.1 hC.2.1 hdg hv (k w p l e RR s m args below meth c H locs cells slots Qf ls hC hR hL hl hr)
theorem r_null {pc2 : Nat} (hdg : decode M.2.1 pc = .ok (.aconst_null, 1)) (hp : pc + 1 = pc2) (k : Run M d ac az pc2 ll (.null :: st) h Q) : Run M d ac az pc ll (st) h Q := by
  subst hp
  intro w p l e RR s m args below meth c H locs cells slots Qf ls hC hR hL hl hr
  exact lv_null hC.1 hC.2.1 hdg (k w p l e RR s m args below meth c H locs cells slots Qf ls hC hR hL hl hr)
theorem r_ldc {ix : Nat} {v : Int32} {pc2 : Nat} (hdg : decode M.2.1 pc = .ok (.ldc ix, 2)) (hp : pc + 2 = pc2) (hw : Jvm.Cond.constant M.1.cls ix v ∈ bBig) (k : Run M d ac az pc2 ll (.int v :: st) h Q) : Run M d ac az pc ll (st) h Q := by
  subst hp
  intro w p l e RR s m args below meth c H locs cells slots Qf ls hC hR hL hl hr
  exact lv_ldc hC.1 hC.2.1 hC.2.2.2.1 (hC.2.2.2.2.1 _ hw) hdg (k w p l e RR s m args below meth c H locs cells slots Qf ls hC hR hL hl hr)
theorem r_ldcw {ix : Nat} {v : Int32} {pc2 : Nat} (hdg : decode M.2.1 pc = .ok (.ldc_w ix, 3)) (hp : pc + 3 = pc2) (hw : Jvm.Cond.constant M.1.cls ix v ∈ bBig) (k : Run M d ac az pc2 ll (.int v :: st) h Q) : Run M d ac az pc ll (st) h Q := by
  subst hp
  intro w p l e RR s m args below meth c H locs cells slots Qf ls hC hR hL hl hr
  exact lv_ldcw hC.1 hC.2.1 hC.2.2.2.1 (hC.2.2.2.2.1 _ hw) hdg (k w p l e RR s m args below meth c H locs cells slots Qf ls hC hR hL hl hr)
theorem r_ldc2 {ix : Nat} {v : Int64} {pc2 : Nat} (hdg : decode M.2.1 pc = .ok (.ldc2_w ix, 3)) (hp : pc + 3 = pc2) (hw : Jvm.Cond.constantLong M.1.cls ix v ∈ bBig) (k : Run M d ac az pc2 ll (.long v :: st) h Q) : Run M d ac az pc ll (st) h Q := by
  subst hp
  intro w p l e RR s m args below meth c H locs cells slots Qf ls hC hR hL hl hr
  exact lv_ldc2 hC.1 hC.2.1 hC.2.2.2.1 (hC.2.2.2.2.1 _ hw) hdg (k w p l e RR s m args below meth c H locs cells slots Qf ls hC hR hL hl hr)
theorem r_iload_n {q : Fin 4} {x : Int32} {pc2 : Nat} (hdg : decode M.2.1 pc = .ok (.iload_n q, 1)) (hp : pc + 1 = pc2) (hi : lget ll q.val = some (.int x)) (k : Run M d ac az pc2 ll (.int x :: st) h Q) : Run M d ac az pc ll (st) h Q := by
  subst hp
  intro w p l e RR s m args below meth c H locs cells slots Qf ls hC hR hL hl hr
  exact lv_iload_n hC.1 hC.2.1 hdg rfl (hL.get hi) (k w p l e RR s m args below meth c H locs cells slots Qf ls hC hR hL hl hr)
theorem r_iload {i : Nat} {x : Int32} {pc2 : Nat} (hdg : decode M.2.1 pc = .ok (.iload i, 2)) (hp : pc + 2 = pc2) (hi : lget ll i = some (.int x)) (k : Run M d ac az pc2 ll (.int x :: st) h Q) : Run M d ac az pc ll (st) h Q := by
  subst hp
  intro w p l e RR s m args below meth c H locs cells slots Qf ls hC hR hL hl hr
  exact lv_iload hC.1 hC.2.1 hdg (hL.get hi) (k w p l e RR s m args below meth c H locs cells slots Qf ls hC hR hL hl hr)
theorem r_lload_n {q : Fin 4} {x : Int64} {pc2 : Nat} (hdg : decode M.2.1 pc = .ok (.lload_n q, 1)) (hp : pc + 1 = pc2) (hi : lget ll q.val = some (.long x)) (k : Run M d ac az pc2 ll (.long x :: st) h Q) : Run M d ac az pc ll (st) h Q := by
  subst hp
  intro w p l e RR s m args below meth c H locs cells slots Qf ls hC hR hL hl hr
  exact lv_lload_n hC.1 hC.2.1 hdg rfl (hL.get hi) (k w p l e RR s m args below meth c H locs cells slots Qf ls hC hR hL hl hr)
theorem r_lload {i : Nat} {x : Int64} {pc2 : Nat} (hdg : decode M.2.1 pc = .ok (.lload i, 2)) (hp : pc + 2 = pc2) (hi : lget ll i = some (.long x)) (k : Run M d ac az pc2 ll (.long x :: st) h Q) : Run M d ac az pc ll (st) h Q := by
  subst hp
  intro w p l e RR s m args below meth c H locs cells slots Qf ls hC hR hL hl hr
  exact lv_lload hC.1 hC.2.1 hdg (hL.get hi) (k w p l e RR s m args below meth c H locs cells slots Qf ls hC hR hL hl hr)
theorem r_aload_n {q : Fin 4} {x : Option Nat} {pc2 : Nat} (hdg : decode M.2.1 pc = .ok (.aload_n q, 1)) (hp : pc + 1 = pc2) (hi : lget ll q.val = some (rv x)) (k : Run M d ac az pc2 ll (rv x :: st) h Q) : Run M d ac az pc ll st h Q := by
  subst hp
  intro w p l e RR s m args below meth c H locs cells slots Qf ls hC hR hL hl hr
  cases x with
  | none => exact lv_aload_nN hC.1 hC.2.1 hdg rfl (hL.get hi) (k w p l e RR s m args below meth c H locs cells slots Qf ls hC hR hL hl hr)
  | some a => exact lv_aload_n hC.1 hC.2.1 hdg rfl (hL.get hi) (k w p l e RR s m args below meth c H locs cells slots Qf ls hC hR hL hl hr)
theorem r_aload {i : Nat} {x : Option Nat} {pc2 : Nat} (hdg : decode M.2.1 pc = .ok (.aload i, 2)) (hp : pc + 2 = pc2) (hi : lget ll i = some (rv x)) (k : Run M d ac az pc2 ll (rv x :: st) h Q) : Run M d ac az pc ll st h Q := by
  subst hp
  intro w p l e RR s m args below meth c H locs cells slots Qf ls hC hR hL hl hr
  cases x with
  | none => exact lv_aloadN hC.1 hC.2.1 hdg (hL.get hi) (k w p l e RR s m args below meth c H locs cells slots Qf ls hC hR hL hl hr)
  | some a => exact lv_aload hC.1 hC.2.1 hdg (hL.get hi) (k w p l e RR s m args below meth c H locs cells slots Qf ls hC hR hL hl hr)
theorem r_istore_n {q : Fin 4} {x : Int32} {pc2 i : Nat} (hdg : decode M.2.1 pc = .ok (.istore_n q, 1)) (hp : pc + 1 = pc2) (hi : q.val = i) (hn : i < M.2.2.1) (k : Run M d ac az pc2 ((i, .int x) :: ll) st h Q) : Run M d ac az pc ll (.int x :: st) h Q := by
  subst hp
  intro w p l e RR s m args below meth c H locs cells slots Qf ls hC hR hL hl hr
  obtain ⟨lv, h1, h2⟩ := hL
  exact lv_istore_n hC.1 hC.2.1 hdg hi h1 hn rfl (fun ls2 hl2 => k w p l e RR s m args below meth c H locs cells slots Qf ls2 hC hR (lHas.set1 (v := .int x) (ls := ls) rfl h2 hl2) hl hr)
theorem r_istore {x : Int32} {pc2 i : Nat} (hdg : decode M.2.1 pc = .ok (.istore i, 2)) (hp : pc + 2 = pc2) (hn : i < M.2.2.1) (k : Run M d ac az pc2 ((i, .int x) :: ll) st h Q) : Run M d ac az pc ll (.int x :: st) h Q := by
  subst hp
  intro w p l e RR s m args below meth c H locs cells slots Qf ls hC hR hL hl hr
  obtain ⟨lv, h1, h2⟩ := hL
  exact lv_istore hC.1 hC.2.1 hdg h1 hn rfl (fun ls2 hl2 => k w p l e RR s m args below meth c H locs cells slots Qf ls2 hC hR (lHas.set1 (v := .int x) (ls := ls) rfl h2 hl2) hl hr)
theorem r_lstore_n {q : Fin 4} {x : Int64} {pc2 i : Nat} (hdg : decode M.2.1 pc = .ok (.lstore_n q, 1)) (hp : pc + 1 = pc2) (hi : q.val = i) (hn : i + 1 < M.2.2.1) (k : Run M d ac az pc2 ((i, .long x) :: ll) st h Q) : Run M d ac az pc ll (.long x :: st) h Q := by
  subst hp
  intro w p l e RR s m args below meth c H locs cells slots Qf ls hC hR hL hl hr
  obtain ⟨lv, h1, h2⟩ := hL
  exact lv_lstore_n hC.1 hC.2.1 hdg hi h1 hn rfl (fun ls2 hl2 => k w p l e RR s m args below meth c H locs cells slots Qf ls2 hC hR (lHas.set2 (v := .long x) (ls := ls) rfl h2 hl2) hl hr)
theorem r_lstore {x : Int64} {pc2 i : Nat} (hdg : decode M.2.1 pc = .ok (.lstore i, 2)) (hp : pc + 2 = pc2) (hn : i + 1 < M.2.2.1) (k : Run M d ac az pc2 ((i, .long x) :: ll) st h Q) : Run M d ac az pc ll (.long x :: st) h Q := by
  subst hp
  intro w p l e RR s m args below meth c H locs cells slots Qf ls hC hR hL hl hr
  obtain ⟨lv, h1, h2⟩ := hL
  exact lv_lstore hC.1 hC.2.1 hdg h1 hn rfl (fun ls2 hl2 => k w p l e RR s m args below meth c H locs cells slots Qf ls2 hC hR (lHas.set2 (v := .long x) (ls := ls) rfl h2 hl2) hl hr)
theorem r_astore_n {q : Fin 4} {x : Option Nat} {pc2 i : Nat} (hdg : decode M.2.1 pc = .ok (.astore_n q, 1)) (hp : pc + 1 = pc2) (hi : q.val = i) (hn : i < M.2.2.1) (k : Run M d ac az pc2 ((i, rv x) :: ll) st h Q) : Run M d ac az pc ll (rv x :: st) h Q := by
  subst hp
  intro w p l e RR s m args below meth c H locs cells slots Qf ls hC hR hL hl hr
  obtain ⟨lv, h1, h2⟩ := hL
  cases x with
  | none => exact lv_astore_nN hC.1 hC.2.1 hdg hi h1 hn rfl (fun ls2 hl2 => k w p l e RR s m args below meth c H locs cells slots Qf ls2 hC hR (lHas.set1 (v := rv (none)) (ls := ls) rfl h2 hl2) hl hr)
  | some a => exact lv_astore_n hC.1 hC.2.1 hdg hi h1 hn rfl (fun ls2 hl2 => k w p l e RR s m args below meth c H locs cells slots Qf ls2 hC hR (lHas.set1 (v := rv (some a)) (ls := ls) rfl h2 hl2) hl hr)
theorem r_astore {x : Option Nat} {pc2 i : Nat} (hdg : decode M.2.1 pc = .ok (.astore i, 2)) (hp : pc + 2 = pc2) (hn : i < M.2.2.1) (k : Run M d ac az pc2 ((i, rv x) :: ll) st h Q) : Run M d ac az pc ll (rv x :: st) h Q := by
  subst hp
  intro w p l e RR s m args below meth c H locs cells slots Qf ls hC hR hL hl hr
  obtain ⟨lv, h1, h2⟩ := hL
  cases x with
  | none => exact lv_astoreN hC.1 hC.2.1 hdg h1 hn rfl (fun ls2 hl2 => k w p l e RR s m args below meth c H locs cells slots Qf ls2 hC hR (lHas.set1 (v := rv (none)) (ls := ls) rfl h2 hl2) hl hr)
  | some a => exact lv_astore hC.1 hC.2.1 hdg h1 hn rfl (fun ls2 hl2 => k w p l e RR s m args below meth c H locs cells slots Qf ls2 hC hR (lHas.set1 (v := rv (some a)) (ls := ls) rfl h2 hl2) hl hr)
theorem r_iinc {i : Nat} {n : Int} {x v : Int32} {pc2 : Nat} (hdg : decode M.2.1 pc = .ok (.iinc i n, 3)) (hp : pc + 3 = pc2) (hi : lget ll i = some (.int x)) (hv : x + Int32.ofInt n = v) (hn : i < M.2.2.1) (k : Run M d ac az pc2 ((i, .int v) :: ll) st h Q) : Run M d ac az pc ll st h Q := by
  subst hp
  intro w p l e RR s m args below meth c H locs cells slots Qf ls hC hR hL hl hr
  obtain ⟨lv, h1, h2⟩ := hL
  obtain ⟨q, hq⟩ := List.getElem?_of_mem (h2 _ _ hi)
  exact lv_iinc hC.1 hC.2.1 hdg h1 (k := q) hq hv hn rfl (fun ls2 hl2 => k w p l e RR s m args below meth c H locs cells slots Qf ls2 hC hR (lHas.set1 (v := .int v) (ls := ls) rfl h2 hl2) hl hr)
theorem r_dup {v : Value} {pc2 : Nat} (hdg : decode M.2.1 pc = .ok (.dup, 1)) (hp : pc + 1 = pc2) (hv : v.category = 1) (k : Run M d ac az pc2 ll (v :: v :: st) h Q) : Run M d ac az pc ll (v :: st) h Q := by
  subst hp
  intro w p l e RR s m args below meth c H locs cells slots Qf ls hC hR hL hl hr
  exact lv_dup hC.1 hC.2.1 hdg (by rw [trV_cat]; exact hv) (k w p l e RR s m args below meth c H locs cells slots Qf ls hC hR hL hl hr)
theorem r_pop {v : Value} {pc2 : Nat} (hdg : decode M.2.1 pc = .ok (.pop, 1)) (hp : pc + 1 = pc2) (hv : v.category = 1) (k : Run M d ac az pc2 ll st h Q) : Run M d ac az pc ll (v :: st) h Q := by
  subst hp
  intro w p l e RR s m args below meth c H locs cells slots Qf ls hC hR hL hl hr
  exact lv_pop hC.1 hC.2.1 hdg (by rw [trV_cat]; exact hv) (k w p l e RR s m args below meth c H locs cells slots Qf ls hC hR hL hl hr)
theorem r_dup2 {v u : Value} {pc2 : Nat} (hdg : decode M.2.1 pc = .ok (.dup2, 1)) (hp : pc + 1 = pc2) (hv : v.category = 1) (hu : u.category = 1) (k : Run M d ac az pc2 ll (v :: u :: v :: u :: st) h Q) : Run M d ac az pc ll (v :: u :: st) h Q := by
  subst hp
  intro w p l e RR s m args below meth c H locs cells slots Qf ls hC hR hL hl hr
  exact lv_dup2_11 hC.1 hC.2.1 hdg (by rw [trV_cat]; exact hv) (by rw [trV_cat]; exact hu) (k w p l e RR s m args below meth c H locs cells slots Qf ls hC hR hL hl hr)
theorem r_goto {off : Int} {tgt : Nat} (hdg : decode M.2.1 pc = .ok (.goto off, 3)) (ht : (pc : Int) + off = (tgt : Int)) (k : Run M d ac az tgt ll st h Q) : Run M d ac az pc ll st h Q := by
  intro w p l e RR s m args below meth c H locs cells slots Qf ls hC hR hL hl hr
  exact lv_goto hC.1 hC.2.1 hdg ht (k w p l e RR s m args below meth c H locs cells slots Qf ls hC hR hL hl hr)
theorem r_icmp_eq {x y : Int32} {off : Int} {tgt pc2 : Nat} (hdg : decode M.2.1 pc = .ok (.if_icmp .eq off, 3)) (ht : (pc : Int) + off = (tgt : Int)) (hp : pc + 3 = pc2) (kt : x.toInt = y.toInt → Run M d ac az tgt ll st h Q) (kf : x.toInt ≠ y.toInt → Run M d ac az pc2 ll st h Q) : Run M d ac az pc ll (.int y :: .int x :: st) h Q := by
  subst hp
  intro w p l e RR s m args below meth c H locs cells slots Qf ls hC hR hL hl hr
  exact lv_icmp_eq hC.1 hC.2.1 hdg ht (fun z => kt (congrArg Int32.toInt z) w p l e RR s m args below meth c H locs cells slots Qf ls hC hR hL hl hr) (fun z => kf (fun q => z (Int32.toInt_inj.mp q)) w p l e RR s m args below meth c H locs cells slots Qf ls hC hR hL hl hr)
theorem r_if_eq {x : Int32} {off : Int} {tgt pc2 : Nat} (hdg : decode M.2.1 pc = .ok (.ifCond .eq off, 3)) (ht : (pc : Int) + off = (tgt : Int)) (hp : pc + 3 = pc2) (kt : x.toInt = 0 → Run M d ac az tgt ll st h Q) (kf : x.toInt ≠ 0 → Run M d ac az pc2 ll st h Q) : Run M d ac az pc ll (.int x :: st) h Q := by
  subst hp
  intro w p l e RR s m args below meth c H locs cells slots Qf ls hC hR hL hl hr
  exact lv_if_eq hC.1 hC.2.1 hdg ht (fun z => kt (congrArg Int32.toInt z) w p l e RR s m args below meth c H locs cells slots Qf ls hC hR hL hl hr) (fun z => kf (fun q => z (Int32.toInt_inj.mp q)) w p l e RR s m args below meth c H locs cells slots Qf ls hC hR hL hl hr)
theorem r_icmp_ne {x y : Int32} {off : Int} {tgt pc2 : Nat} (hdg : decode M.2.1 pc = .ok (.if_icmp .ne off, 3)) (ht : (pc : Int) + off = (tgt : Int)) (hp : pc + 3 = pc2) (kt : x.toInt ≠ y.toInt → Run M d ac az tgt ll st h Q) (kf : x.toInt = y.toInt → Run M d ac az pc2 ll st h Q) : Run M d ac az pc ll (.int y :: .int x :: st) h Q := by
  subst hp
  intro w p l e RR s m args below meth c H locs cells slots Qf ls hC hR hL hl hr
  exact lv_icmp_ne hC.1 hC.2.1 hdg ht (fun z => kt (fun q => z (Int32.toInt_inj.mp q)) w p l e RR s m args below meth c H locs cells slots Qf ls hC hR hL hl hr) (fun z => kf (congrArg Int32.toInt z) w p l e RR s m args below meth c H locs cells slots Qf ls hC hR hL hl hr)
theorem r_if_ne {x : Int32} {off : Int} {tgt pc2 : Nat} (hdg : decode M.2.1 pc = .ok (.ifCond .ne off, 3)) (ht : (pc : Int) + off = (tgt : Int)) (hp : pc + 3 = pc2) (kt : x.toInt ≠ 0 → Run M d ac az tgt ll st h Q) (kf : x.toInt = 0 → Run M d ac az pc2 ll st h Q) : Run M d ac az pc ll (.int x :: st) h Q := by
  subst hp
  intro w p l e RR s m args below meth c H locs cells slots Qf ls hC hR hL hl hr
  exact lv_if_ne hC.1 hC.2.1 hdg ht (fun z => kt (fun q => z (Int32.toInt_inj.mp q)) w p l e RR s m args below meth c H locs cells slots Qf ls hC hR hL hl hr) (fun z => kf (congrArg Int32.toInt z) w p l e RR s m args below meth c H locs cells slots Qf ls hC hR hL hl hr)
theorem r_icmp_lt {x y : Int32} {off : Int} {tgt pc2 : Nat} (hdg : decode M.2.1 pc = .ok (.if_icmp .lt off, 3)) (ht : (pc : Int) + off = (tgt : Int)) (hp : pc + 3 = pc2) (kt : x.toInt < y.toInt → Run M d ac az tgt ll st h Q) (kf : y.toInt ≤ x.toInt → Run M d ac az pc2 ll st h Q) : Run M d ac az pc ll (.int y :: .int x :: st) h Q := by
  subst hp
  intro w p l e RR s m args below meth c H locs cells slots Qf ls hC hR hL hl hr
  exact lv_icmp_lt hC.1 hC.2.1 hdg ht (fun z => kt (by simp only [Int32.lt_iff_toInt_lt, Int32.le_iff_toInt_le] at z; omega) w p l e RR s m args below meth c H locs cells slots Qf ls hC hR hL hl hr) (fun z => kf (by simp only [Int32.lt_iff_toInt_lt, Int32.le_iff_toInt_le] at z; omega) w p l e RR s m args below meth c H locs cells slots Qf ls hC hR hL hl hr)
theorem r_if_lt {x : Int32} {off : Int} {tgt pc2 : Nat} (hdg : decode M.2.1 pc = .ok (.ifCond .lt off, 3)) (ht : (pc : Int) + off = (tgt : Int)) (hp : pc + 3 = pc2) (kt : x.toInt < 0 → Run M d ac az tgt ll st h Q) (kf : 0 ≤ x.toInt → Run M d ac az pc2 ll st h Q) : Run M d ac az pc ll (.int x :: st) h Q := by
  subst hp
  intro w p l e RR s m args below meth c H locs cells slots Qf ls hC hR hL hl hr
  exact lv_if_lt hC.1 hC.2.1 hdg ht (fun z => kt (by simp only [Int32.lt_iff_toInt_lt, Int32.le_iff_toInt_le, Int32.toInt_zero] at z; omega) w p l e RR s m args below meth c H locs cells slots Qf ls hC hR hL hl hr) (fun z => kf (by simp only [Int32.lt_iff_toInt_lt, Int32.le_iff_toInt_le, Int32.toInt_zero] at z; omega) w p l e RR s m args below meth c H locs cells slots Qf ls hC hR hL hl hr)
theorem r_icmp_ge {x y : Int32} {off : Int} {tgt pc2 : Nat} (hdg : decode M.2.1 pc = .ok (.if_icmp .ge off, 3)) (ht : (pc : Int) + off = (tgt : Int)) (hp : pc + 3 = pc2) (kt : y.toInt ≤ x.toInt → Run M d ac az tgt ll st h Q) (kf : x.toInt < y.toInt → Run M d ac az pc2 ll st h Q) : Run M d ac az pc ll (.int y :: .int x :: st) h Q := by
  subst hp
  intro w p l e RR s m args below meth c H locs cells slots Qf ls hC hR hL hl hr
  exact lv_icmp_ge hC.1 hC.2.1 hdg ht (fun z => kt (by simp only [Int32.lt_iff_toInt_lt, Int32.le_iff_toInt_le] at z; omega) w p l e RR s m args below meth c H locs cells slots Qf ls hC hR hL hl hr) (fun z => kf (by simp only [Int32.lt_iff_toInt_lt, Int32.le_iff_toInt_le] at z; omega) w p l e RR s m args below meth c H locs cells slots Qf ls hC hR hL hl hr)
theorem r_if_ge {x : Int32} {off : Int} {tgt pc2 : Nat} (hdg : decode M.2.1 pc = .ok (.ifCond .ge off, 3)) (ht : (pc : Int) + off = (tgt : Int)) (hp : pc + 3 = pc2) (kt : 0 ≤ x.toInt → Run M d ac az tgt ll st h Q) (kf : x.toInt < 0 → Run M d ac az pc2 ll st h Q) : Run M d ac az pc ll (.int x :: st) h Q := by
  subst hp
  intro w p l e RR s m args below meth c H locs cells slots Qf ls hC hR hL hl hr
  exact lv_if_ge hC.1 hC.2.1 hdg ht (fun z => kt (by simp only [Int32.lt_iff_toInt_lt, Int32.le_iff_toInt_le, Int32.toInt_zero] at z; omega) w p l e RR s m args below meth c H locs cells slots Qf ls hC hR hL hl hr) (fun z => kf (by simp only [Int32.lt_iff_toInt_lt, Int32.le_iff_toInt_le, Int32.toInt_zero] at z; omega) w p l e RR s m args below meth c H locs cells slots Qf ls hC hR hL hl hr)
theorem r_icmp_gt {x y : Int32} {off : Int} {tgt pc2 : Nat} (hdg : decode M.2.1 pc = .ok (.if_icmp .gt off, 3)) (ht : (pc : Int) + off = (tgt : Int)) (hp : pc + 3 = pc2) (kt : y.toInt < x.toInt → Run M d ac az tgt ll st h Q) (kf : x.toInt ≤ y.toInt → Run M d ac az pc2 ll st h Q) : Run M d ac az pc ll (.int y :: .int x :: st) h Q := by
  subst hp
  intro w p l e RR s m args below meth c H locs cells slots Qf ls hC hR hL hl hr
  exact lv_icmp_gt hC.1 hC.2.1 hdg ht (fun z => kt (by simp only [Int32.lt_iff_toInt_lt, Int32.le_iff_toInt_le] at z; omega) w p l e RR s m args below meth c H locs cells slots Qf ls hC hR hL hl hr) (fun z => kf (by simp only [Int32.lt_iff_toInt_lt, Int32.le_iff_toInt_le] at z; omega) w p l e RR s m args below meth c H locs cells slots Qf ls hC hR hL hl hr)
theorem r_if_gt {x : Int32} {off : Int} {tgt pc2 : Nat} (hdg : decode M.2.1 pc = .ok (.ifCond .gt off, 3)) (ht : (pc : Int) + off = (tgt : Int)) (hp : pc + 3 = pc2) (kt : 0 < x.toInt → Run M d ac az tgt ll st h Q) (kf : x.toInt ≤ 0 → Run M d ac az pc2 ll st h Q) : Run M d ac az pc ll (.int x :: st) h Q := by
  subst hp
  intro w p l e RR s m args below meth c H locs cells slots Qf ls hC hR hL hl hr
  exact lv_if_gt hC.1 hC.2.1 hdg ht (fun z => kt (by simp only [Int32.lt_iff_toInt_lt, Int32.le_iff_toInt_le, Int32.toInt_zero] at z; omega) w p l e RR s m args below meth c H locs cells slots Qf ls hC hR hL hl hr) (fun z => kf (by simp only [Int32.lt_iff_toInt_lt, Int32.le_iff_toInt_le, Int32.toInt_zero] at z; omega) w p l e RR s m args below meth c H locs cells slots Qf ls hC hR hL hl hr)
theorem r_icmp_le {x y : Int32} {off : Int} {tgt pc2 : Nat} (hdg : decode M.2.1 pc = .ok (.if_icmp .le off, 3)) (ht : (pc : Int) + off = (tgt : Int)) (hp : pc + 3 = pc2) (kt : x.toInt ≤ y.toInt → Run M d ac az tgt ll st h Q) (kf : y.toInt < x.toInt → Run M d ac az pc2 ll st h Q) : Run M d ac az pc ll (.int y :: .int x :: st) h Q := by
  subst hp
  intro w p l e RR s m args below meth c H locs cells slots Qf ls hC hR hL hl hr
  exact lv_icmp_le hC.1 hC.2.1 hdg ht (fun z => kt (by simp only [Int32.lt_iff_toInt_lt, Int32.le_iff_toInt_le] at z; omega) w p l e RR s m args below meth c H locs cells slots Qf ls hC hR hL hl hr) (fun z => kf (by simp only [Int32.lt_iff_toInt_lt, Int32.le_iff_toInt_le] at z; omega) w p l e RR s m args below meth c H locs cells slots Qf ls hC hR hL hl hr)
theorem r_if_le {x : Int32} {off : Int} {tgt pc2 : Nat} (hdg : decode M.2.1 pc = .ok (.ifCond .le off, 3)) (ht : (pc : Int) + off = (tgt : Int)) (hp : pc + 3 = pc2) (kt : x.toInt ≤ 0 → Run M d ac az tgt ll st h Q) (kf : 0 < x.toInt → Run M d ac az pc2 ll st h Q) : Run M d ac az pc ll (.int x :: st) h Q := by
  subst hp
  intro w p l e RR s m args below meth c H locs cells slots Qf ls hC hR hL hl hr
  exact lv_if_le hC.1 hC.2.1 hdg ht (fun z => kt (by simp only [Int32.lt_iff_toInt_lt, Int32.le_iff_toInt_le, Int32.toInt_zero] at z; omega) w p l e RR s m args below meth c H locs cells slots Qf ls hC hR hL hl hr) (fun z => kf (by simp only [Int32.lt_iff_toInt_lt, Int32.le_iff_toInt_le, Int32.toInt_zero] at z; omega) w p l e RR s m args below meth c H locs cells slots Qf ls hC hR hL hl hr)
theorem r_ifnull {x : Option Nat} {off : Int} {tgt pc2 : Nat} (hdg : decode M.2.1 pc = .ok (.ifnull off, 3)) (ht : (pc : Int) + off = (tgt : Int)) (hp : pc + 3 = pc2) (kt : x = none → Run M d ac az tgt ll st h Q) (kf : ∀ a, x = some a → Run M d ac az pc2 ll st h Q) : Run M d ac az pc ll (rv x :: st) h Q := by
  subst hp
  intro w p l e RR s m args below meth c H locs cells slots Qf ls hC hR hL hl hr
  cases x with
  | none => exact lv_ifnullN hC.1 hC.2.1 hdg ht (kt rfl w p l e RR s m args below meth c H locs cells slots Qf ls hC hR hL hl hr)
  | some a => exact lv_ifnull hC.1 hC.2.1 hdg (kf a rfl w p l e RR s m args below meth c H locs cells slots Qf ls hC hR hL hl hr)
theorem r_ifnonnull {x : Option Nat} {off : Int} {tgt pc2 : Nat} (hdg : decode M.2.1 pc = .ok (.ifnonnull off, 3)) (ht : (pc : Int) + off = (tgt : Int)) (hp : pc + 3 = pc2) (kt : ∀ a, x = some a → Run M d ac az tgt ll st h Q) (kf : x = none → Run M d ac az pc2 ll st h Q) : Run M d ac az pc ll (rv x :: st) h Q := by
  subst hp
  intro w p l e RR s m args below meth c H locs cells slots Qf ls hC hR hL hl hr
  cases x with
  | none => exact lv_ifnonnullN hC.1 hC.2.1 hdg (kf rfl w p l e RR s m args below meth c H locs cells slots Qf ls hC hR hL hl hr)
  | some a => exact lv_ifnonnull hC.1 hC.2.1 hdg ht (kt a rfl w p l e RR s m args below meth c H locs cells slots Qf ls hC hR hL hl hr)
/-- a switch: each case, and all else -/
theorem r_switch {x : Int32} {dflt lo hi : Int} {offs : Array Int} {len tgt : Nat} (hdg : decode M.2.1 pc = .ok (.tableswitch dflt lo hi offs, len)) (ht : (pc : Int) + dflt = (tgt : Int))
    (ki : ∀ (off : Int) (t2 : Nat), lo ≤ x.toInt → x.toInt ≤ hi → offs[(x.toInt - lo).toNat]? = some off → (pc : Int) + off = (t2 : Int) → Run M d ac az t2 ll st h Q) (hsz : (hi - lo).toNat < offs.size) (hnn : ∀ off ∈ offs, 0 ≤ (pc : Int) + off)
    (ko : (x.toInt < lo ∨ hi < x.toInt) → Run M d ac az tgt ll st h Q) : Run M d ac az pc ll (.int x :: st) h Q := by
  intro w p l e RR s m args below meth c H locs cells slots Qf ls hC hR hL hl hr
  by_cases h1 : x.toInt < lo ∨ hi < x.toInt
  · exact lv_tableOut hC.1 hC.2.1 hdg h1 ht (ko h1 w p l e RR s m args below meth c H locs cells slots Qf ls hC hR hL hl hr)
  · have h2 : ¬ x.toInt < lo := fun q => h1 (Or.inl q)
    have h3 : ¬ hi < x.toInt := fun q => h1 (Or.inr q)
    have h4 : (x.toInt - lo).toNat < offs.size := by omega
    have h5 := Array.getElem?_eq_getElem h4
    have h6 := hnn _ (Array.getElem_mem h4)
    have h7 : (pc : Int) + offs[(x.toInt - lo).toNat] = ((((pc : Int) + offs[(x.toInt - lo).toNat]).toNat : Nat) : Int) := by omega
    exact lv_tableIn hC.1 hC.2.1 hdg h2 h3 h5 h7 (ki _ _ (by omega) (by omega) h5 h7 w p l e RR s m args below meth c H locs cells slots Qf ls hC hR hL hl hr)
end ROWS
