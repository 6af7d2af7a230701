/-! ROWS: what makes cells, and calls -/
section ALLOC
variable {M : MI} {d ac az pc : Nat} {ll : List (Nat × Value)} {st : List Value} {I : Nat → Nat → Int32} {R : Nat → Nat → Option Nat} {L : Nat → Nat → Int64} {sh : Nat → Nat × Nat} {N : Nat} {Q : Option Value → HS → Prop}
variable {w : WD} {p : Program} {l : Launch} {e : Env} {RR : Room} {s : State} {m : MethodId} {args : Array Value} {below : List Frame} {meth : Method} {c : Code} {H : Heap} {locs : List Loc} {cells slots : Nat} {Qf : State → Prop} {ls : Array Slot} {rest : List Value}
theorem bCx.less (hC : bCx M d ac az w p RR s m args meth c cells slots) {c1 z1 ac1 az1 : Nat} (h1 : c1 + ac1 ≤ ac) (h2 : z1 + az1 ≤ az) : bCx M d ac1 az1 w p RR s m args meth c (cells + c1) (slots + z1) := by
  obtain ⟨a1, a2, a3, a4, a5, a6, a7, a8, a9, a10, a11, a12⟩ := hC
  exact ⟨a1, a2, a3, a4, a5, a6, a7, a8, a9, by omega, by omega, a12⟩
theorem z1_ne {α : Type} {f : Nat → Nat → α} {a : Nat} {v : α} {a' j : Nat} (h : a' ≠ a) : z1 f a v a' j = f a' j := by
  unfold z1
  rw [if_neg h]
theorem z1_eq {α : Type} {f : Nat → Nat → α} {a : Nat} {v : α} {j : Nat} : z1 f a v a j = v := by
  unfold z1
  rw [if_pos rfl]
/-- a new cell at the end -/
theorem b_new_rep (hR : bRep w (I, R, L, sh, N) H) {kn : Nat × Nat} {H' : Heap} (h1 : bCell w (z1 I N 0) (z1 R N none) (z1 L N 0) kn N H') (h2 : H'.size = H.size + 1) (h3 : ∀ q, q < H.size → H'[q]? = H[q]?) : bRep w (z1 I N 0, z1 R N none, z1 L N 0, s1 sh N kn, N + 1) H' := by
  have hz := hR.1
  dsimp only at hz
  refine ⟨by dsimp only; omega, fun a => ?_⟩
  by_cases ha : a = N
  · subst ha
    dsimp only
    rw [show s1 sh a kn a = kn by unfold s1; rw [if_pos rfl]]
    exact h1
  · dsimp only
    rw [show s1 sh N kn a = sh a by unfold s1; rw [if_neg ha]]
    exact bCell.congr (hR.2 a) (fun j => z1_ne ha) (fun j => z1_ne ha) (fun j => z1_ne ha) (fun h => h3 _ h)
def atk : ArrayType → Nat
  | .int => 12
  | .long => 13
  | .boolean => 14
  | _ => 18
theorem r_newarray {at_ : ArrayType} {x : Int32} {len pc2 ac1 az1 : Nat} (hdg : decode M.2.1 pc = .ok (.newarray at_, 2)) (hp : pc + 2 = pc2) (hat : atk at_ < 18) (hw : Jvm.Cond.arrayClass (newarray.typeOf at_) ∈ bBig) (hx : x.toInt = (len : Int)) (hlen : len ≤ 10000000) (hac : 1 + ac1 ≤ ac) (haz : len + az1 ≤ az)
    (kk : Run M d ac1 az1 pc2 ll (.ref N :: st) (z1 I N 0, z1 R N none, z1 L N 0, s1 sh N (atk at_, len), N + 1) Q) : Run M d ac az pc ll (.int x :: st) (I, R, L, sh, N) Q := by
  subst hp
  intro w p l e RR s m args below meth c H locs cells slots Qf ls hC hR hL hl hr
  have hn : ¬ x < 0 := by rw [Int32.lt_iff_toInt_lt, Int32.toInt_zero]; omega
  have hN : x.toNatClampNeg = len := by show x.toInt.toNat = len; omega
  have hz := hR.1
  dsimp only at hz
  have hac2 := hC.2.2.2.2.2.2.2.2.2.1
  have haz2 := hC.2.2.2.2.2.2.2.2.2.2.1
  refine va_newaK (N := len) hC.1 hC.2.1 (hC.2.2.2.2.1 _ hw) rfl hdg rfl hn hN ?_ (by omega) (by omega) rfl (fun H' cA e1 e2 e3 hAr hNm => ?_)
  · have : componentBytes (newarray.typeOf at_) ≤ 8 := by cases at_ <;> exact Nat.le_of_ble_eq_true rfl
    calc len * componentBytes (newarray.typeOf at_) ≤ len * 8 := Nat.mul_le_mul_left _ this
      _ ≤ 536870912 := by omega
  · have hAA : ∀ kd, 12 ≤ kd → kd < 18 → atk at_ = kd → cA = w.2.2.2 kd := by
      intro kd h1 h2 h3
      have hK := (hC.2.2.2.2.2.2.1.2.1 kd h1 h2).2
      cases at_ <;> first | (exact absurd hat (Nat.lt_irrefl 18)) | (subst h3; exact Option.some.inj (hNm.symm.trans hK))
    have hcell : bCell w (z1 I N 0) (z1 R N none) (z1 L N 0) (atk at_, len) N H' := by
      have h12 : 12 ≤ atk at_ := by cases at_ <;> exact Nat.le_of_ble_eq_true rfl
      unfold bCell
      rw [if_neg (by dsimp only; omega), if_pos hat, ← hAA _ h12 hat rfl, ← hz, e1]
      congr 2
      funext j
      cases at_ <;> first | (exact absurd hat (Nat.lt_irrefl 18)) | (simp [atk, bav, z1_eq, newarray.typeOf, defaultValue])
    rw [hz]
    exact kk w p l e RR s m args below meth c H' locs (cells + 1) (slots + len) Qf ls (hC.less hac haz) (b_new_rep hR hcell e2 e3) hL hl hr
theorem r_anewarray {x : Int32} {len pc2 ac1 az1 kd ix ci : Nat} (hdg : decode M.2.1 pc = .ok (.anewarray ix, 3)) (hp : pc + 3 = pc2) (hk : 15 ≤ kd) (hk2 : kd < 18) (ht : aT kd = .object (cN ci)) (hw : Jvm.Cond.classLink M.1.cls ix (cN ci) ∈ bBig) (hx : x.toInt = (len : Int)) (hlen : len ≤ 10000000) (hac : 1 + ac1 ≤ ac) (haz : len + az1 ≤ az)
    (kk : Run M d ac1 az1 pc2 ll (.ref N :: st) (z1 I N 0, z1 R N none, z1 L N 0, s1 sh N (kd, len), N + 1) Q) : Run M d ac az pc ll (.int x :: st) (I, R, L, sh, N) Q := by
  subst hp
  intro w p l e RR s m args below meth c H locs cells slots Qf ls hC hR hL hl hr
  have hn : ¬ x < 0 := by rw [Int32.lt_iff_toInt_lt, Int32.toInt_zero]; omega
  have hN : x.toNatClampNeg = len := by show x.toInt.toNat = len; omega
  have hz := hR.1
  dsimp only at hz
  have hac2 := hC.2.2.2.2.2.2.2.2.2.1
  have haz2 := hC.2.2.2.2.2.2.2.2.2.2.1
  refine W.anew hC.1 hC.2.1 hC.2.2.2.1 (hC.2.2.2.2.1 _ hw) (va_AO.use (hC.2.2.2.2.2.2.1.2.2.2.of hk hk2 ht)) rfl hdg rfl hn (by rw [hN]; omega) (by omega) (by rw [hN]; omega) (fun cA kA comp f1 f2 f3 f4 => ?_)
  generalize hH1 : H.push ({ cls := cA, slots := Array.replicate x.toNatClampNeg .null, vm := .none } : Cell) = H1
  have z1' : H1.size = H.size + 1 := by rw [← hH1, Array.size_push]
  have e1 : H1[H.size]? = some (arrV cA len (fun _ => .null)) := by rw [← hH1, Array.getElem?_push_size, ← arrV_new, hN]
  have o1 : ∀ q : Nat, q < H.size → H1[q]? = H[q]? := fun q hq => by rw [← hH1, Array.getElem?_push, if_neg (Nat.ne_of_lt hq)]
  have hK := (hC.2.2.2.2.2.2.1.2.1 kd (by omega) hk2).2
  rw [ht] at hK
  obtain ⟨kA', comp', k1, k2, k3, k4⟩ := hK
  have hcA : cA = w.2.2.2 kd := Option.some.inj (f1.symm.trans k4)
  have hcell : bCell w (z1 I N 0) (z1 R N none) (z1 L N 0) (kd, len) N H1 := by
    unfold bCell
    rw [if_neg (by dsimp only; omega), if_pos hk2, ← hcA, ← hz, e1]
    congr 2
    funext j
    simp only [bav, z1_eq]
    rw [if_neg (by omega), if_neg (by omega)]
    rfl
  rw [hN, hz]
  exact kk w p l e RR s m args below meth c H1 locs (cells + 1) (slots + len) Qf ls (hC.less hac haz) (b_new_rep hR hcell z1' o1) hL hl hr
theorem c_def : ∀ ci, ci < 12 → ∀ k, k < cn ci → defaultValue (cY ci k) = if cKk ci k = 2 then .null else .int 0 := c_all (by decide +kernel)
theorem r_new {ix ci pc2 ac1 az1 : Nat} (hdg : decode M.2.1 pc = .ok (.new ix, 3)) (hp : pc + 3 = pc2) (hci : ci < 12) (hw : Jvm.Cond.classLink M.1.cls ix (cN ci) ∈ bBig) (hw2 : Jvm.Cond.instantiable (cN ci) (cn ci) ∈ bBig) (hw3 : Jvm.Cond.initialized (cN ci) ∈ bBig) (hac : 1 + ac1 ≤ ac) (haz : cn ci + az1 ≤ az)
    (kk : Run M d ac1 az1 pc2 ll (.ref N :: st) (z1 I N 0, z1 R N none, z1 L N 0, s1 sh N (ci, 0), N + 1) Q) : Run M d ac az pc ll st (I, R, L, sh, N) Q := by
  subst hp
  intro w p l e RR s m args below meth c H locs cells slots Qf ls hC hR hL hl hr
  have hz := hR.1
  dsimp only at hz
  have hac2 := hC.2.2.2.2.2.2.2.2.2.1
  have haz2 := hC.2.2.2.2.2.2.2.2.2.2.1
  have hKn := hC.2.2.2.2.2.2.1.1 ci hci
  refine W.newcK hC.1 hC.2.1 hC.2.2.2.1 (hC.2.2.2.2.1 _ hw) (hC.2.2.2.2.1 _ hw2) (hC.2.2.2.2.1 _ hw3) rfl hdg (by omega) (by omega) hKn.2.1 rfl (fun H1 kC hkC e1 z1' o1 => ?_)
  have hb := u_born (cY ci) hC.2.2.2.2.1 (c_in hci) hKn hkC e1 (fun k hk => c_ok ci hci k hk)
  have hcell : bCell w (z1 I N 0) (z1 R N none) (z1 L N 0) (ci, 0) N H1 := by
    unfold bCell
    rw [if_pos hci, ← hz]
    refine hb.to (fun k hk => ?_)
    rw [c_def ci hci k hk]
    simp only [bfv, z1_eq]
    rfl
  rw [hz]
  exact kk w p l e RR s m args below meth c H1 locs (cells + 1) (slots + cn ci) Qf ls (hC.less hac haz) (b_new_rep hR hcell z1' o1) hL hl hr
/-- Object() -/
theorem r_objInit {ix id pc2 : Nat} {h : HS} (hdg : decode M.2.1 pc = .ok (.invokespecial ix, 3)) (hp : pc + 3 = pc2) (hw : Jvm.Cond.methodLink M.1.cls ix objectInit ∈ bBig) (hw2 : Jvm.Cond.instanceMethod objectInit ∈ bBig) (hw3 : Jvm.Cond.code objectInit ⟨#[0xb1]⟩ 1 none ∈ bBig) (hd : 1 ≤ d) (hst : (st.map fun v => v.category).sum ≤ 8) (kk : Run M d ac az pc2 ll st h Q) : Run M d ac az pc ll (.ref id :: st) h Q := by
  subst hp
  intro w p l e RR s m args below meth c H locs cells slots Qf ls hC hR hL hl hr
  have hfr := hC.2.2.2.2.2.2.2.1
  have hlo := hC.2.2.2.2.2.2.2.2.1
  refine W.objInit hC.1 hC.2.1 hC.2.2.2.1 (hC.2.2.2.2.1 _ hw) (hC.2.2.2.2.1 _ hw2) (hC.2.2.2.2.1 _ hw3) rfl ?_ rfl hdg (by omega) ?_ ?_
  · rw [hC.2.2.1]
    exact hL.size
  · have : ((st.map (trV w.1)).map fun v => v.category).sum = (st.map fun v => v.category).sum := by
      rw [List.map_map]
      congr 1
      exact List.map_congr_left (fun v _ => trV_cat w.1 v)
    show 2 * 0 + ((st.map (trV w.1)).map fun v => v.category).sum + 12 ≤ RR.locals
    rw [this]
    omega
  · exact kk w p l e RR s m args below meth c H locs cells slots Qf ls hC hR hL hl hr
/-! calls -/
theorem bGood {M2 : MI} (h : Jvm.Cond.code M2.1 M2.2.1 M2.2.2.1 M2.2.2.2 ∈ bBig) : GoodIn bBig (bWs M2) := by
  intro x hx
  rcases List.mem_cons.mp hx with rfl | hx
  · exact ⟨h, good_of_word (List.mem_filter.mp h).2⟩
  · exact ⟨hx, good_of_word (List.mem_filter.mp hx).2⟩
theorem b_cat {rest : List Value} (lo : Nat) (h : (rest.map fun v => v.category).sum ≤ 8) : ((rest.map (trV lo)).map fun v => v.category).sum ≤ 8 := by
  have e : ((rest.map (trV lo)).map fun v => v.category) = rest.map fun v => v.category := by
    rw [List.map_map]
    exact List.map_congr_left (fun v _ => trV_cat lo v)
  rw [e]
  exact h
theorem b_room {R2 : Room} {d d2 mL : Nat} (h1 : d ≤ R2.frames) (h2 : 40 * d ≤ R2.locals) (hd : d2 + 1 ≤ d) (hm : mL ≤ 21) (ac az : Nat) : ({ frames := d2, cells := ac, slots := az, locals := 40 * d2 } : Room).frames + 1 ≤ R2.frames ∧ 8 + (mL + 11) + ({ frames := d2, cells := ac, slots := az, locals := 40 * d2 } : Room).locals ≤ R2.locals := by
  constructor
  · show d2 + 1 ≤ _
    omega
  · show 8 + (mL + 11) + 40 * d2 ≤ _
    omega
theorem b_blind {w : WD} {h : HS} {as : List Value} : FrameBlind (fun a U => a = (as.map (trV w.1)).toArray ∧ bRep w h U.heap ∧ bKn w U) := fun a U g mk q => ⟨q.1, q.2.1, q.2.2.same (s := U) (U := U.calling g mk a) rfl⟩
/-- behind a call -/
theorem b_behind {M2 : MI} {h : HS} {Q2 : Option Value → HS → Prop} {as : List Value} {ac2 az2 ac1 az1 : Nat} {st rest : List Value} (hr : va_Run p l e RR s m args below meth c H locs cells slots ac2 az2 (F0 m pc ls (st.map (trV w.1))) (rest.map (trV w.1)) (fun _ o t => ∃ r h', o = .returned (r.map (trV w.1)) ∧ Q2 r h' ∧ bRep w h' t.heap) (fun q => w.1 ≤ q))
    (hC : bCx M d ac az w p RR s m args meth c cells slots) (hac : ac2 + ac1 ≤ ac) (haz : az2 + az1 ≤ az) (hL : lHas w.1 ls M.2.2.1 ll) (hl : ∀ q ∈ locs, w.1 ≤ q.base) (hrt : bRet M w p l e RR s m args below meth c Qf Q)
    (kk : ∀ r h', Q2 r h' → Run M d ac1 az1 (pc + 3) ll (r.toList ++ rest) h' Q) : W p l e RR s m args below meth c H locs cells slots Qf (F0 m pc ls (st.map (trV w.1))) := by
  intro T hT X
  obtain ⟨v, st₀, t, T', L2, h0, X', hL2, e1, e2, ⟨r, h', hv, hq, hrep⟩, stp⟩ := hr T hT X
  have hv' : v = r.map (trV w.1) := Outcome.returned.inj hv
  subst hv'
  have hk := kk r h' hq w p l e RR s m args below meth c T'.heap (locs ++ L2) (cells + ac2) (slots + az2) Qf ls (hC.less hac haz) (by rw [e1]; exact hrep) hL (fun q hq => by
    rcases List.mem_append.mp hq with h | h
    · exact hl q h
    · exact hL2 q h) hrt
  obtain ⟨t2, a1, b1⟩ := hk T' rfl X'
  refine ⟨t2, stp t2 ?_, b1⟩
  cases r with
  | none => exact a1
  | some r => exact a1
theorem r_callv {M2 : MI} {d2 ac2 az2 ac1 az1 ix n ci id nn pc2 : Nat} {as rest : List Value} {h : HS} {Q2 : Option Value → HS → Prop} (hdg : decode M.2.1 pc = .ok (.invokevirtual ix, 3)) (hp : pc + 3 = pc2) (hlk : bLk M.1.cls ix M2.1) (hm : bCm M2 n) (hv : bCv M2) (hs : h.2.2.2.1 id = (ci, nn)) (hci : ci < 12) (hcn : cN ci = M2.1.cls) (hn : as.length = n) (hst : st = as.reverse ++ .ref id :: rest) (hcat : (rest.map fun v => v.category).sum ≤ 8)
    (hM : Mt M2 d2 ac2 az2 (.ref id :: as) h Q2) (hd : d2 + 1 ≤ d) (hac : ac2 + ac1 ≤ ac) (haz : az2 + az1 ≤ az) (kk : ∀ r h', Q2 r h' → Run M d ac1 az1 pc2 ll (r.toList ++ rest) h' Q) : Run M d ac az pc ll st h Q := by
  subst hp
  intro w p l e RR s m args below meth c H locs cells slots Qf ls hC hR hL hl hr
  obtain ⟨hcode, hini, hdn, hmL⟩ := hm
  have hts := hC.2.2.2.2.1
  have hrm := b_room hC.2.2.2.2.2.2.2.1 hC.2.2.2.2.2.2.2.2.1 hd hmL ac2 az2
  have hcap : cells + ac2 ≤ RR.cells ∧ slots + az2 ≤ RR.slots := ⟨by have := hC.2.2.2.2.2.2.2.2.2.1; omega, by have := hC.2.2.2.2.2.2.2.2.2.2.1; omega⟩
  obtain ⟨cell, q1, q2, q3, -⟩ := bRep.obj (I := h.1) (R := h.2.1) (L := h.2.2.1) (sh := h.2.2.2.1) (N := h.2.2.2.2) hR hs hci
  have hcls := (hC.2.2.2.2.2.2.1.1 ci hci).2.1
  have hpre : PreV s H M2.1.cls (w.1 + id) (fun a U => a = ((Value.ref id :: as).map (trV w.1)).toArray ∧ bRep w h U.heap ∧ bKn w U) (as.map (trV w.1)) :=
    ⟨b_blind, ⟨cell, q1, by rw [q3]; rfl, by rw [q2, ← hcn]; exact hcls⟩, fun U hU hW => ⟨rfl, by rw [hU]; exact hR, hC.2.2.2.2.2.2.1.moved hW⟩⟩
  have hstk : (F0 m pc ls (st.map (trV w.1))).stack = (as.map (trV w.1)).reverse ++ .ref (w.1 + id) :: rest.map (trV w.1) := by
    show st.map (trV w.1) = _
    rw [hst, List.map_append, List.map_reverse]
    rfl
  have hsz : (F0 m pc ls (st.map (trV w.1))).locals.size = M.2.2.1 := hL.size
  have hmon := lv_room (m := m) (pc := pc) (ls := ls) (rest := st.map (trV w.1)) (b_cat w.1 hcat)
  rcases hlk with hlk | ⟨host, hlk⟩
  · have hcw : CallW RR s args M.1.cls M2.1.cls ix M2.1 M2.2.1 M2.2.2.1 M2.2.2.2 (bWs M2) { frames := d2, cells := ac2, slots := az2, locals := 40 * d2 } ac2 az2 n :=
      ⟨callB_of n hts (bGood hcode) rfl rfl rfl (hts _ hini) (hts _ hlk) hdn hrm, hts _ hv.1, hts _ hv.2⟩
    exact b_behind (M2 := M2) (h := h) (as := as) (va_runV ⟨hC.1, hC.2.1, hC.2.2.1, hC.2.2.2.1, hts⟩ (hM l w) hcw hpre rfl (by rw [List.length_map]; exact hn) hsz hstk hmon hdg hcap) hC hac haz hL hl hr kk
  · have hcw := va_cnB (R := RR) (args := args) (mc := ac2) (ms := az2) n hts (bGood hcode) rfl (rm := { frames := d2, cells := ac2, slots := az2, locals := 40 * d2 }) rfl rfl (hC.2.2.2.2.2.2.1.2.2.1 _ hlk) (hts _ hini) hdn hrm
    exact b_behind (M2 := M2) (h := h) (as := as) (va_runVN ⟨hC.1, hC.2.1, hC.2.2.1, hC.2.2.2.1, hts⟩ (hM l w) ⟨hcw, hts _ hv.1, hts _ hv.2⟩ hpre rfl (by rw [List.length_map]; exact hn) hsz hstk hmon hdg hcap) hC hac haz hL hl hr kk
theorem r_calls {M2 : MI} {d2 ac2 az2 ac1 az1 ix n pc2 : Nat} {as rest : List Value} {h : HS} {Q2 : Option Value → HS → Prop} (hdg : decode M.2.1 pc = .ok (.invokestatic ix, 3)) (hp : pc + 3 = pc2) (hlk : bLk M.1.cls ix M2.1) (hm : bCm M2 n) (hv : Jvm.Cond.static M2.1 ∈ bBig) (hn : as.length = n) (hst : st = as.reverse ++ rest) (hcat : (rest.map fun v => v.category).sum ≤ 8)
    (hM : Mt M2 d2 ac2 az2 as h Q2) (hd : d2 + 1 ≤ d) (hac : ac2 + ac1 ≤ ac) (haz : az2 + az1 ≤ az) (kk : ∀ r h', Q2 r h' → Run M d ac1 az1 pc2 ll (r.toList ++ rest) h' Q) : Run M d ac az pc ll st h Q := by
  subst hp
  intro w p l e RR s m args below meth c H locs cells slots Qf ls hC hR hL hl hr
  obtain ⟨hcode, hini, hdn, hmL⟩ := hm
  have hts := hC.2.2.2.2.1
  have hrm := b_room hC.2.2.2.2.2.2.2.1 hC.2.2.2.2.2.2.2.2.1 hd hmL ac2 az2
  have hcap : cells + ac2 ≤ RR.cells ∧ slots + az2 ≤ RR.slots := ⟨by have := hC.2.2.2.2.2.2.2.2.2.1; omega, by have := hC.2.2.2.2.2.2.2.2.2.2.1; omega⟩
  have hpre : PreS s H (fun a U => a = (as.map (trV w.1)).toArray ∧ bRep w h U.heap ∧ bKn w U) (as.map (trV w.1)) :=
    ⟨b_blind, fun U hU hW => ⟨rfl, by rw [hU]; exact hR, hC.2.2.2.2.2.2.1.moved hW⟩⟩
  have hstk : (F0 m pc ls (st.map (trV w.1))).stack = (as.map (trV w.1)).reverse ++ rest.map (trV w.1) := by
    show st.map (trV w.1) = _
    rw [hst, List.map_append, List.map_reverse]
  have hsz : (F0 m pc ls (st.map (trV w.1))).locals.size = M.2.2.1 := hL.size
  have hmon := lv_room (m := m) (pc := pc) (ls := ls) (rest := st.map (trV w.1)) (b_cat w.1 hcat)
  rcases hlk with hlk | ⟨host, hlk⟩
  · have hcw : CallB RR s args M.1.cls ix M2.1 M2.2.1 M2.2.2.1 M2.2.2.2 (bWs M2) { frames := d2, cells := ac2, slots := az2, locals := 40 * d2 } ac2 az2 n :=
      callB_of n hts (bGood hcode) rfl rfl rfl (hts _ hini) (hts _ hlk) hdn hrm
    exact b_behind (M2 := M2) (h := h) (as := as) (va_runS ⟨hC.1, hC.2.1, hC.2.2.1, hC.2.2.2.1, hts⟩ (hM l w) ⟨hcw, hts _ hv⟩ hpre rfl (by rw [List.length_map]; exact hn) hsz hstk hmon hdg hcap) hC hac haz hL hl hr kk
  · have hcw := va_cnB (R := RR) (args := args) (mc := ac2) (ms := az2) n hts (bGood hcode) rfl (rm := { frames := d2, cells := ac2, slots := az2, locals := 40 * d2 }) rfl rfl (hC.2.2.2.2.2.2.1.2.2.1 _ hlk) (hts _ hini) hdn hrm
    exact b_behind (M2 := M2) (h := h) (as := as) (va_runSN ⟨hC.1, hC.2.1, hC.2.2.1, hC.2.2.2.1, hts⟩ (hM l w) ⟨hcw, hts _ hv, trivial⟩ hpre rfl (by rw [List.length_map]; exact hn) hsz hstk hmon hdg hcap) hC hac haz hL hl hr kk
theorem r_calli {M2 : MI} {d2 ac2 az2 ac1 az1 ix n id pc2 : Nat} {as rest : List Value} {h : HS} {Q2 : Option Value → HS → Prop} (hdg : decode M.2.1 pc = .ok (.invokespecial ix, 3)) (hp : pc + 3 = pc2) (hlk : bLk M.1.cls ix M2.1) (hm : bCm M2 n) (hv : Jvm.Cond.instanceMethod M2.1 ∈ bBig) (hy : M2.1.name = "<init>") (hrt : M2.2.2.2 = none) (hn : as.length = n) (hst : st = as.reverse ++ .ref id :: rest) (hcat : (rest.map fun v => v.category).sum ≤ 8)
    (hM : Mt M2 d2 ac2 az2 (.ref id :: as) h Q2) (hd : d2 + 1 ≤ d) (hac : ac2 + ac1 ≤ ac) (haz : az2 + az1 ≤ az) (kk : ∀ r h', Q2 r h' → Run M d ac1 az1 pc2 ll (r.toList ++ rest) h' Q) : Run M d ac az pc ll st h Q := by
  subst hp
  intro w p l e RR s m args below meth c H locs cells slots Qf ls hC hR hL hl hr
  obtain ⟨hcode, hini, hdn, hmL⟩ := hm
  rw [hrt] at hcode
  have hts := hC.2.2.2.2.1
  have hrm := b_room hC.2.2.2.2.2.2.2.1 hC.2.2.2.2.2.2.2.2.1 hd hmL ac2 az2
  have hcap : cells + ac2 ≤ RR.cells ∧ slots + az2 ≤ RR.slots := ⟨by have := hC.2.2.2.2.2.2.2.2.2.1; omega, by have := hC.2.2.2.2.2.2.2.2.2.2.1; omega⟩
  have hgd : GoodIn bBig (bWs M2) := bGood (by rw [hrt]; exact hcode)
  have hwe : bWs M2 = Jvm.Cond.code M2.1 M2.2.1 M2.2.2.1 none :: bBig := by unfold bWs; rw [hrt]
  have hpre : PreS s H (fun a U => a = ((Value.ref id :: as).map (trV w.1)).toArray ∧ bRep w h U.heap ∧ bKn w U) (.ref (w.1 + id) :: as.map (trV w.1)) :=
    ⟨b_blind, fun U hU hW => ⟨rfl, by rw [hU]; exact hR, hC.2.2.2.2.2.2.1.moved hW⟩⟩
  have hstk : (F0 m pc ls (st.map (trV w.1))).stack = (as.map (trV w.1)).reverse ++ .ref (w.1 + id) :: rest.map (trV w.1) := by
    show st.map (trV w.1) = _
    rw [hst, List.map_append, List.map_reverse]
    rfl
  have hsz : (F0 m pc ls (st.map (trV w.1))).locals.size = M.2.2.1 := hL.size
  have hmon := lv_room (m := m) (pc := pc) (ls := ls) (rest := st.map (trV w.1)) (b_cat w.1 hcat)
  rcases hlk with hlk | ⟨host, hlk⟩
  · have hcw := cwI (R := RR) (args := args) (mc := ac2) (ms := az2) n hts hgd hwe (rm := { frames := d2, cells := ac2, slots := az2, locals := 40 * d2 }) rfl rfl (hts _ hini) (hts _ hlk) (hts _ hv) hy hdn hrm
    exact b_behind (M2 := M2) (h := h) (as := as) (va_runI ⟨hC.1, hC.2.1, hC.2.2.1, hC.2.2.2.1, hts⟩ (hM l w) hcw hpre rfl (by rw [List.length_map]; exact hn) hsz hstk hmon hdg hcap) hC hac haz hL hl hr kk
  · have hcw := va_cnB (R := RR) (args := args) (mc := ac2) (ms := az2) n hts hgd hwe (rm := { frames := d2, cells := ac2, slots := az2, locals := 40 * d2 }) rfl rfl (hC.2.2.2.2.2.2.1.2.2.1 _ hlk) (hts _ hini) hdn hrm
    exact b_behind (M2 := M2) (h := h) (as := as) (va_runIN ⟨hC.1, hC.2.1, hC.2.2.1, hC.2.2.2.1, hts⟩ (hM l w) ⟨hcw, hy, hts _ hv⟩ hpre rfl (by rw [List.length_map]; exact hn) hsz hstk hmon hdg hcap) hC hac haz hL hl hr kk
end ALLOC
