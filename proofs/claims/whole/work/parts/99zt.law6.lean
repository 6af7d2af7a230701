/-! THE LAW'S OWN WALK: what its tables tell, its rows -/
theorem hts_b {p : Program} {s : State} {m : MethodId} {meth : Method} {c : Code} {b L : Nat} {xs : Nat → Int32} (C0 : lw_At p s m meth c b L xs) : ∀ x ∈ bBig, x.before #[Value.ref b] s = true := fun x hx => C0.2.2.2.2.2.1 x (List.mem_filter.mp hx).1
theorem tb_lw {w : Jvm.Cond} (i : Nat) (h : tables_1[i]? = some w) : w ∈ lw_tbl := List.mem_append.mpr (Or.inr (List.mem_of_getElem? h))
theorem c_nw : ∀ ci, ci < 12 → Jvm.Cond.instantiable (cN ci) (cn ci) ∈ bBig := by
  intro ci h
  rcases (show ci = 0 ∨ ci = 1 ∨ ci = 2 ∨ ci = 3 ∨ ci = 4 ∨ ci = 5 ∨ ci = 6 ∨ ci = 7 ∨ ci = 8 ∨ ci = 9 ∨ ci = 10 ∨ ci = 11 by omega) with rfl | rfl | rfl | rfl | rfl | rfl | rfl | rfl | rfl | rfl | rfl | rfl
  · exact nw_An
  · exact nw_Co
  · exact nw_De
  · exact nw_Fe
  · exact nw_Pe
  · exact nw_Re
  · exact nw_Ru
  · exact nw_Sh
  · exact nw_Sp
  · exact nw_St
  · exact nw_X
  · exact nw_M
/-- what the abstract heap needs to know of the tables -/
theorem lx_known {p : Program} {s : State} {m : MethodId} {meth : Method} {c : Code} {b L : Nat} {xs : Nat → Int32} (C0 : lw_At p s m meth c b L xs) : ∃ w : WD, bKn w s ∧ w.1 = s.heap.size := by
  have hb := hts_b C0
  have hts := C0.2.2.2.2.2.1
  have h1 : ∀ ci, ∃ q : ClassId × (Nat → Nat), ci < 12 → u_Kn s (cN ci) (cT ci) (cn ci) q.1 q.2 := fun ci => by
    by_cases h : ci < 12
    · obtain ⟨cC, iS, hq⟩ := u_known (C := cN ci) (T := cT ci) (N := cn ci) (n := cn ci) hb (c_in h) (hb _ (c_nw ci h))
      exact ⟨(cC, iS), fun _ => hq⟩
    · exact ⟨(0, fun _ => 0), fun z => absurd z h⟩
  obtain ⟨f, hf⟩ := Classical.axiomOfChoice h1
  have ao : ∀ (C : String), Jvm.Cond.arrayOver (.object C) ∈ lw_tbl → va_AO C s ∧ ∃ cA : ClassId, ArrOfT s cA (.object C) ∧ va_RA s cA (.object C) := fun C hC => by
    have hc := hts _ hC
    obtain ⟨comp, cA, k, g1, g2, g3, g4, g5⟩ := Cond.arrayOver_spec hc
    exact ⟨va_AO.of hc, cA, fun n z => ⟨fun k h => (by cases h), k, g3, comp, g4⟩, k, comp, g3, g4, g1, g5⟩
  obtain ⟨o15, a15⟩ := ao "FeatureDesk$Feature" (tb_lw 52 (by decide +kernel))
  obtain ⟨o16, a16⟩ := ao "FeatureDesk$Rule" (tb_lw 89 (by decide +kernel))
  obtain ⟨o17, a17⟩ := ao "FeatureDesk$Shelf" (tb_lw 246 (by decide +kernel))
  have h2 : ∀ k, ∃ cA : ClassId, 12 ≤ k → k < 18 → ArrOfT s cA (aT k) ∧ va_RA s cA (aT k) := fun k => by
    by_cases h : 12 ≤ k ∧ k < 18
    · rcases (show k = 12 ∨ k = 13 ∨ k = 14 ∨ k = 15 ∨ k = 16 ∨ k = 17 by omega) with rfl | rfl | rfl | rfl | rfl | rfl
      · obtain ⟨cA, kA, comp, g1, g2, g3⟩ := Cond.arrayClass_spec (hb _ aw_int)
        exact ⟨cA, fun _ _ => ⟨fun n z => ⟨fun k h => (by cases h), kA, g2, comp, g3⟩, g1⟩⟩
      · obtain ⟨cA, kA, comp, g1, g2, g3⟩ := Cond.arrayClass_spec (hb _ aw_long)
        exact ⟨cA, fun _ _ => ⟨fun n z => ⟨fun k h => (by cases h), kA, g2, comp, g3⟩, g1⟩⟩
      · obtain ⟨cA, kA, comp, g1, g2, g3⟩ := Cond.arrayClass_spec (hb _ aw_boolean)
        exact ⟨cA, fun _ _ => ⟨fun n z => ⟨fun k h => (by cases h), kA, g2, comp, g3⟩, g1⟩⟩
      · obtain ⟨cA, g⟩ := a15; exact ⟨cA, fun _ _ => g⟩
      · obtain ⟨cA, g⟩ := a16; exact ⟨cA, fun _ _ => g⟩
      · obtain ⟨cA, g⟩ := a17; exact ⟨cA, fun _ _ => g⟩
    · exact ⟨0, fun z1 z2 => absurd ⟨z1, z2⟩ h⟩
  obtain ⟨g, hg⟩ := Classical.axiomOfChoice h2
  refine ⟨(s.heap.size, fun ci => (f ci).1, fun ci => (f ci).2, g), ⟨fun ci hc => hf ci hc, fun k q1 q2 => hg k q1 q2, fun x hx => ?_, o15, o16, o17⟩, rfl⟩
  obtain ⟨hx1, hx2⟩ := List.mem_filter.mp hx
  have hw := hts x (List.mem_append.mpr (Or.inr hx1))
  cases x <;> first | exact va_Nw.of rfl hw | exact absurd hx2 (by simp [bNestW])
section LAW
variable {w : WD} {p : Program} {l : Launch} {e : Env} {s : State} {m : MethodId} {below : List Frame} {meth : Method} {c : Code} {b L : Nat} {xs : Nat → Int32} {pc cells slots : Nat} {lv : List (Nat × Value)} {st : List Value} {h : HS}
/-- the law at an instruction: it comes to its end -/
def LR (w : WD) (p : Program) (l : Launch) (e : Env) (s : State) (m : MethodId) (below : List Frame) (meth : Method) (c : Code) (b : Nat) (pc : Nat) (lv : List (Nat × Value)) (st : List Value) (h : HS) (cells slots : Nat) : Prop :=
  ∀ (H : Heap) (locs : List Loc) (ls : Array Slot), bRep w h H → (∀ q ∈ locs, w.1 ≤ q.base) → lv_has ls 4 lv → W p l e room_1 s m #[Value.ref b] below meth c H locs cells slots (lw_Z below #[Value.ref b] s) (F0 m pc ls st)
/-- what is given at the law -/
def LX (w : WD) (p : Program) (s : State) (m : MethodId) (meth : Method) (c : Code) (b L : Nat) (xs : Nat → Int32) : Prop := lw_At p s m meth c b L xs ∧ bKn w s ∧ w.1 = s.heap.size ∧ L ≤ 3072
theorem LX.x (X : LX w p s m meth c b L xs) : p.tables.exec = Jvm.exec := X.1.1
theorem LX.cd (X : LX w p s m meth c b L xs) : c.code = code := X.1.2.1
theorem LX.own (X : LX w p s m meth c b L xs) : s.vm.findClass "FeatureDeskLaw" = some m.cls := X.1.2.2.2.2.1
/-- no old cell has changed -/
theorem W.old {R : Room} {args : Array Value} {H : Heap} {locs : List Loc} {Q : State → Prop} {g : JFrame} (hl : ∀ q ∈ locs, s.heap.size ≤ q.base) (k : va_S (fun q : Nat => s.heap.size ≤ q) s.heap H locs → W p l e R s m args below meth c H locs cells slots Q g) : W p l e R s m args below meth c H locs cells slots Q g := by
  intro T hT X
  have hs := X.same
  have h1 : s.heap.size ≤ H.size := by rw [← hT]; exact hs.2.1
  refine k ⟨h1, fun q hq hA => ?_, hl⟩ T hT X
  have hc : s.heap[q]? = some s.heap[q] := Array.getElem?_eq_getElem hq
  have := hs.kept_off (a := q) (c := s.heap[q]) (fun i hi => absurd (hl _ hi) hA) hc
  rw [← hT, hc]; exact this
theorem lr_aload {k : Fin 4} {i x pc2 : Nat} (X : LX w p s m meth c b L xs) (hdg : decode code pc = .ok (.aload_n k, 1)) (hp : pc + 1 = pc2) (hi : (k : Nat) = i) (hv : (i, Value.ref x) ∈ lv) (kk : LR w p l e s m below meth c b pc2 lv (.ref x :: st) h cells slots) : LR w p l e s m below meth c b pc lv st h cells slots := by
  subst hp
  exact fun H locs ls hR hl hv2 => lv_aload_n X.x X.cd hdg hi (hv2.2.2 _ hv) (kk H locs ls hR hl hv2)
theorem lr_iload {k : Fin 4} {i pc2 : Nat} {x : Int32} (X : LX w p s m meth c b L xs) (hdg : decode code pc = .ok (.iload_n k, 1)) (hp : pc + 1 = pc2) (hi : (k : Nat) = i) (hv : (i, Value.int x) ∈ lv) (kk : LR w p l e s m below meth c b pc2 lv (.int x :: st) h cells slots) : LR w p l e s m below meth c b pc lv st h cells slots := by
  subst hp
  exact fun H locs ls hR hl hv2 => lv_iload_n X.x X.cd hdg hi (hv2.2.2 _ hv) (kk H locs ls hR hl hv2)
theorem lr_iconst {n : Int} {v : Int32} {pc2 : Nat} (X : LX w p s m meth c b L xs) (hdg : decode code pc = .ok (.iconst n, 1)) (hp : pc + 1 = pc2) (hv : Int32.ofInt n = v) (kk : LR w p l e s m below meth c b pc2 lv (.int v :: st) h cells slots) : LR w p l e s m below meth c b pc lv st h cells slots := by
  subst hp
  exact fun H locs ls hR hl hv2 => lv_iconst X.x X.cd hdg hv (kk H locs ls hR hl hv2)
theorem lr_bipush {n : Int} {v : Int32} {pc2 : Nat} (X : LX w p s m meth c b L xs) (hdg : decode code pc = .ok (.bipush n, 2)) (hp : pc + 2 = pc2) (hv : (Int8.ofInt n).toInt32 = v) (kk : LR w p l e s m below meth c b pc2 lv (.int v :: st) h cells slots) : LR w p l e s m below meth c b pc lv st h cells slots := by
  subst hp
  exact fun H locs ls hR hl hv2 => lv_bipush X.x X.cd hdg hv (kk H locs ls hR hl hv2)
theorem lr_iadd {x y : Int32} {pc2 : Nat} (X : LX w p s m meth c b L xs) (hdg : decode code pc = .ok (.iadd, 1)) (hp : pc + 1 = pc2) (kk : LR w p l e s m below meth c b pc2 lv (.int (x + y) :: st) h cells slots) : LR w p l e s m below meth c b pc lv (.int y :: .int x :: st) h cells slots := by
  subst hp
  exact fun H locs ls hR hl hv2 => lv_iadd X.x X.cd hdg (kk H locs ls hR hl hv2)
theorem lr_isub {x y : Int32} {pc2 : Nat} (X : LX w p s m meth c b L xs) (hdg : decode code pc = .ok (.isub, 1)) (hp : pc + 1 = pc2) (kk : LR w p l e s m below meth c b pc2 lv (.int (x - y) :: st) h cells slots) : LR w p l e s m below meth c b pc lv (.int y :: .int x :: st) h cells slots := by
  subst hp
  exact fun H locs ls hR hl hv2 => lv_isub X.x X.cd hdg (kk H locs ls hR hl hv2)
theorem lr_iand {x y : Int32} {pc2 : Nat} (X : LX w p s m meth c b L xs) (hdg : decode code pc = .ok (.iand, 1)) (hp : pc + 1 = pc2) (kk : LR w p l e s m below meth c b pc2 lv (.int (x &&& y) :: st) h cells slots) : LR w p l e s m below meth c b pc lv (.int y :: .int x :: st) h cells slots := by
  subst hp
  exact fun H locs ls hR hl hv2 => lv_iand X.x X.cd hdg (kk H locs ls hR hl hv2)
/-- the script's number at i -/
theorem lr_sld {i pc2 : Nat} (X : LX w p s m meth c b L xs) (hdg : decode code pc = .ok (.iaload, 1)) (hp : pc + 1 = pc2) (hi : i < L) (kk : LR w p l e s m below meth c b pc2 lv (.int (xs i) :: st) h cells slots) : LR w p l e s m below meth c b pc lv (.int (nI i) :: .ref b :: st) h cells slots := by
  subst hp
  intro H locs ls hR hl hv2
  have hL := X.2.2.2
  have hbl := X.1.2.2.2.2.2.2.2.1
  refine W.old (fun q hq => by rw [← X.2.2.1]; exact hl q hq) (fun hS => ?_)
  refine va_sld X.x X.cd X.1.2.2.2.2.2.2.1 hbl (Nat.not_le.mpr hbl) hS (nI_in hi (by omega)) hdg ?_
  rw [nI_clamp (by omega)]
  exact kk H locs ls hR hl hv2
theorem lr_slen {pc2 : Nat} (X : LX w p s m meth c b L xs) (hdg : decode code pc = .ok (.arraylength, 1)) (hp : pc + 1 = pc2) (kk : LR w p l e s m below meth c b pc2 lv (.int (nI L) :: st) h cells slots) : LR w p l e s m below meth c b pc lv (.ref b :: st) h cells slots := by
  subst hp
  intro H locs ls hR hl hv2
  have hbl := X.1.2.2.2.2.2.2.2.1
  exact W.old (fun q hq => by rw [← X.2.2.1]; exact hl q hq) (fun hS => va_slen X.x X.cd X.1.2.2.2.2.2.2.1 hbl (Nat.not_le.mpr hbl) hS hdg (kk H locs ls hR hl hv2))
theorem lr_goto {off : Int} {tgt : Nat} (X : LX w p s m meth c b L xs) (hdg : decode code pc = .ok (.goto off, 3)) (ht : (pc : Int) + off = (tgt : Int)) (kk : LR w p l e s m below meth c b tgt lv st h cells slots) : LR w p l e s m below meth c b pc lv st h cells slots :=
  fun H locs ls hR hl hv2 => lv_goto X.x X.cd hdg ht (kk H locs ls hR hl hv2)
theorem lr_icmp_gt {x y : Int32} {off : Int} {tgt pc2 : Nat} (X : LX w p s m meth c b L xs) (hdg : decode code pc = .ok (.if_icmp .gt off, 3)) (hp : pc + 3 = pc2) (ht : (pc : Int) + off = (tgt : Int)) (k1 : y < x → LR w p l e s m below meth c b tgt lv st h cells slots) (k2 : ¬ y < x → LR w p l e s m below meth c b pc2 lv st h cells slots) : LR w p l e s m below meth c b pc lv (.int y :: .int x :: st) h cells slots := by
  subst hp
  exact fun H locs ls hR hl hv2 => lv_icmp_gt X.x X.cd hdg ht (fun q => k1 q H locs ls hR hl hv2) (fun q => k2 q H locs ls hR hl hv2)
/-- the answers are the same -/
theorem lr_same {x : Int32} {off : Int} {tgt : Nat} (X : LX w p s m meth c b L xs) (hdg : decode code pc = .ok (.if_icmp .eq off, 3)) (ht : (pc : Int) + off = (tgt : Int)) (k1 : LR w p l e s m below meth c b tgt lv st h cells slots) : LR w p l e s m below meth c b pc lv (.int x :: .int x :: st) h cells slots :=
  fun H locs ls hR hl hv2 => lv_icmp_eq X.x X.cd hdg ht (fun q => k1 H locs ls hR hl hv2) (fun q => absurd rfl q)
theorem lr_i2l {x : Int32} {pc2 : Nat} (X : LX w p s m meth c b L xs) (hdg : decode code pc = .ok (.i2l, 1)) (hp : pc + 1 = pc2) (kk : LR w p l e s m below meth c b pc2 lv (.long x.toInt64 :: st) h cells slots) : LR w p l e s m below meth c b pc lv (.int x :: st) h cells slots := by
  subst hp
  exact fun H locs ls hR hl hv2 => lv_i2l X.x X.cd hdg rfl (kk H locs ls hR hl hv2)
theorem lr_lshl {x : Int64} {y : Int32} {pc2 : Nat} (X : LX w p s m meth c b L xs) (hdg : decode code pc = .ok (.lshl, 1)) (hp : pc + 1 = pc2) (kk : LR w p l e s m below meth c b pc2 lv (.long (x <<< (y.toInt64 &&& 63)) :: st) h cells slots) : LR w p l e s m below meth c b pc lv (.int y :: .long x :: st) h cells slots := by
  subst hp
  exact fun H locs ls hR hl hv2 => lv_lshl X.x X.cd hdg rfl (kk H locs ls hR hl hv2)
theorem lr_land {x y : Int64} {pc2 : Nat} (X : LX w p s m meth c b L xs) (hdg : decode code pc = .ok (.land, 1)) (hp : pc + 1 = pc2) (kk : LR w p l e s m below meth c b pc2 lv (.long (x &&& y) :: st) h cells slots) : LR w p l e s m below meth c b pc lv (.long y :: .long x :: st) h cells slots := by
  subst hp
  exact fun H locs ls hR hl hv2 => lv_land X.x X.cd hdg (kk H locs ls hR hl hv2)
theorem lr_lor {x y : Int64} {pc2 : Nat} (X : LX w p s m meth c b L xs) (hdg : decode code pc = .ok (.lor, 1)) (hp : pc + 1 = pc2) (kk : LR w p l e s m below meth c b pc2 lv (.long (x ||| y) :: st) h cells slots) : LR w p l e s m below meth c b pc lv (.long y :: .long x :: st) h cells slots := by
  subst hp
  exact fun H locs ls hR hl hv2 => lv_lor X.x X.cd hdg (kk H locs ls hR hl hv2)
theorem lr_ldc2 {ix pc2 : Nat} {v : Int64} (X : LX w p s m meth c b L xs) (hdg : decode code pc = .ok (.ldc2_w ix, 3)) (hp : pc + 3 = pc2) (hk : Jvm.Cond.constantLong "FeatureDeskLaw" ix v ∈ bBig) (kk : LR w p l e s m below meth c b pc2 lv (.long v :: st) h cells slots) : LR w p l e s m below meth c b pc lv st h cells slots := by
  subst hp
  exact fun H locs ls hR hl hv2 => lv_ldc2 X.x X.cd X.own (hts_b X.1 _ hk) hdg (kk H locs ls hR hl hv2)
theorem lr_tableIn {dflt lo hi : Int} {offs : Array Int} {len : Nat} {x : Int32} {off : Int} {tgt : Nat} (X : LX w p s m meth c b L xs) (hdg : decode code pc = .ok (.tableswitch dflt lo hi offs, len)) (h1 : ¬ x.toInt < lo) (h2 : ¬ hi < x.toInt) (ho : offs[(x.toInt - lo).toNat]? = some off) (ht : (pc : Int) + off = (tgt : Int)) (kk : LR w p l e s m below meth c b tgt lv st h cells slots) : LR w p l e s m below meth c b pc lv (.int x :: st) h cells slots :=
  fun H locs ls hR hl hv2 => lv_tableIn X.x X.cd hdg h1 h2 ho ht (kk H locs ls hR hl hv2)
theorem lr_tableOut {dflt lo hi : Int} {offs : Array Int} {len : Nat} {x : Int32} {tgt : Nat} (X : LX w p s m meth c b L xs) (hdg : decode code pc = .ok (.tableswitch dflt lo hi offs, len)) (hx : x.toInt < lo ∨ hi < x.toInt) (ht : (pc : Int) + dflt = (tgt : Int)) (kk : LR w p l e s m below meth c b tgt lv st h cells slots) : LR w p l e s m below meth c b pc lv (.int x :: st) h cells slots :=
  fun H locs ls hR hl hv2 => lv_tableOut X.x X.cd hdg hx ht (kk H locs ls hR hl hv2)
theorem lr_widen {c1 s1 : Nat} (h1 : cells ≤ c1) (h2 : slots ≤ s1) (kk : LR w p l e s m below meth c b pc lv st h c1 s1) : LR w p l e s m below meth c b pc lv st h cells slots :=
  fun H locs ls hR hl hv2 => W.widen h1 h2 (kk H locs ls hR hl hv2)
/-- the end -/
theorem lr_ret (X : LX w p s m meth c b L xs) (h1 : cells ≤ 600000) (h2 : slots ≤ 7302250) (hdg : decode code pc = .ok (.ireturn, 1)) : LR w p l e s m below meth c b pc lv [.int 1] h cells slots :=
  fun H locs ls hR hl hv2 => W.widen h1 h2 (va_forget (fun q hq => by rw [← X.2.2.1]; exact hl q hq) (lw_ret X.x X.cd X.1.2.2.1 X.1.2.2.2.2.2.2.2.2.1 hdg))
/-- a virtual call -/
theorem lr_callv {M2 : MI} {d2 ac2 az2 ix n ci id nn pc2 : Nat} {as : List Value} {rest : List Value} {Q2 : Option Value → HS → Prop} (X : LX w p s m meth c b L xs) (hdg : decode code pc = .ok (.invokevirtual ix, 3)) (hp : pc + 3 = pc2) (hlk : bLk "FeatureDeskLaw" ix M2.1) (hm : bCm M2 n) (hv : bCv M2) (hs : h.2.2.2.1 id = (ci, nn)) (hci : ci < 12) (hcn : cN ci = M2.1.cls) (hn : as.length = n) (hcat : (rest.map fun v => v.category).sum ≤ 8)
    (hM : Mt M2 d2 ac2 az2 (.ref id :: as) h Q2) (hd : d2 + 1 ≤ 2000) (hac : cells + ac2 ≤ 600000) (haz : slots + az2 ≤ 7302250) (hst : st = (as.map (trV w.1)).reverse ++ .ref (w.1 + id) :: rest) (kk : ∀ r h', Q2 r h' → LR w p l e s m below meth c b pc2 lv ((r.map (trV w.1)).toList ++ rest) h' (cells + ac2) (slots + az2)) : LR w p l e s m below meth c b pc lv st h cells slots := by
  subst hp
  intro H locs ls hR hl hv2
  obtain ⟨hcode, hini, hdn, hmL⟩ := hm
  have hts := hts_b X.1
  have hrm := b_room (R2 := room_1) (d := 2000) (Nat.le_of_ble_eq_true rfl) (Nat.le_of_ble_eq_true rfl) hd hmL ac2 az2
  have hcap : cells + ac2 ≤ room_1.cells ∧ slots + az2 ≤ room_1.slots := ⟨hac, haz⟩
  obtain ⟨cell, q1, q2, q3, -⟩ := bRep.obj (I := h.1) (R := h.2.1) (L := h.2.2.1) (sh := h.2.2.2.1) (N := h.2.2.2.2) hR hs hci
  have hcls := (X.2.1.1 ci hci).2.1
  have hpre : PreV s H M2.1.cls (w.1 + id) (fun a U => a = ((Value.ref id :: as).map (trV w.1)).toArray ∧ bRep w h U.heap ∧ bKn w U) (as.map (trV w.1)) :=
    ⟨b_blind, ⟨cell, q1, by rw [q3]; rfl, by rw [q2, ← hcn]; exact hcls⟩, fun U hU hW => ⟨rfl, by rw [hU]; exact hR, X.2.1.moved hW⟩⟩
  have hsz : (F0 m pc ls st).locals.size = 4 := hv2.1
  have hmon := lv_room (m := m) (pc := pc) (ls := ls) (rest := st) hcat
  have hfix : CallFix p m c code 4 s #[Value.ref b] bBig "FeatureDeskLaw" := ⟨X.x, X.cd, X.1.2.2.2.1, X.own, hts⟩
  have fin : va_Run p l e room_1 s m #[Value.ref b] below meth c H locs cells slots ac2 az2 (F0 m pc ls st) rest (fun _ o t => ∃ r h', o = .returned (r.map (trV w.1)) ∧ Q2 r h' ∧ bRep w h' t.heap) (fun q => w.1 ≤ q) → W p l e room_1 s m #[Value.ref b] below meth c H locs cells slots (lw_Z below #[Value.ref b] s) (F0 m pc ls st) := by
    intro hr T hT Y
    obtain ⟨v, st₀, t, T', L2, h0, X', hL2, e1, e2, ⟨r, h', hv, hq, hrep⟩, stp⟩ := hr T hT Y
    have hv' : v = r.map (trV w.1) := Outcome.returned.inj hv
    subst hv'
    have hk := kk r h' hq T'.heap (locs ++ L2) ls (by rw [e1]; exact hrep) (fun q hq => by
      rcases List.mem_append.mp hq with h | h
      · exact hl q h
      · exact hL2 q h) hv2
    obtain ⟨t2, a1, b1⟩ := hk T' rfl X'
    exact ⟨t2, stp t2 a1, b1⟩
  rcases hlk with hlk | ⟨host, hlk⟩
  · have hcw : CallW room_1 s #[Value.ref b] "FeatureDeskLaw" M2.1.cls ix M2.1 M2.2.1 M2.2.2.1 M2.2.2.2 (bWs M2) { frames := d2, cells := ac2, slots := az2, locals := 40 * d2 } ac2 az2 n :=
      ⟨callB_of n hts (bGood hcode) rfl rfl rfl (hts _ hini) (hts _ hlk) hdn hrm, hts _ hv.1, hts _ hv.2⟩
    exact fin (va_runV hfix (hM l w) hcw hpre rfl (by rw [List.length_map]; exact hn) hsz hst hmon hdg hcap)
  · have hcw := va_cnB (R := room_1) (args := #[Value.ref b]) (mc := ac2) (ms := az2) n hts (bGood hcode) rfl (rm := { frames := d2, cells := ac2, slots := az2, locals := 40 * d2 }) rfl rfl (X.2.1.2.2.1 _ hlk) (hts _ hini) hdn hrm
    exact fin (va_runVN hfix (hM l w) ⟨hcw, hts _ hv.1, hts _ hv.2⟩ hpre rfl (by rw [List.length_map]; exact hn) hsz hst hmon hdg hcap)
end LAW
