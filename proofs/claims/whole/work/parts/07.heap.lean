/-! ROWS OVER THE HEAP -/
def u2 {α : Type} (f : Nat → Nat → α) (a k : Nat) (v : α) : Nat → Nat → α := fun a' k' => if a' = a ∧ k' = k then v else f a' k'
def z1 {α : Type} (f : Nat → Nat → α) (a : Nat) (v : α) : Nat → Nat → α := fun a' k' => if a' = a then v else f a' k'
def s1 (f : Nat → Nat × Nat) (a : Nat) (v : Nat × Nat) : Nat → Nat × Nat := fun a' => if a' = a then v else f a'
theorem bCell.lt {w : WD} {I : Nat → Nat → Int32} {R : Nat → Nat → Option Nat} {L : Nat → Nat → Int64} {k : Nat × Nat} {id : Nat} {H : Heap} (h : bCell w I R L k id H) (hk : k.1 < 18) : w.1 + id < H.size := by
  unfold bCell at h
  by_cases h1 : k.1 < 12
  · rw [if_pos h1] at h
    obtain ⟨cell, h2, -⟩ := h
    exact (Array.getElem?_eq_some_iff.mp h2).1
  · rw [if_neg h1, if_pos hk] at h
    exact (Array.getElem?_eq_some_iff.mp h).1
theorem bCell.congr {w : WD} {I I' : Nat → Nat → Int32} {R R' : Nat → Nat → Option Nat} {L L' : Nat → Nat → Int64} {k : Nat × Nat} {id : Nat} {H H' : Heap} (h : bCell w I R L k id H) (hI : ∀ j, I' id j = I id j) (hR : ∀ j, R' id j = R id j) (hL : ∀ j, L' id j = L id j) (hH : w.1 + id < H.size → H'[w.1 + id]? = H[w.1 + id]?) : bCell w I' R' L' k id H' := by
  by_cases h18 : k.1 < 18
  · have hH := hH (h.lt h18)
    unfold bCell at h ⊢
    by_cases h1 : k.1 < 12
    · rw [if_pos h1] at h ⊢
      refine (t_OB.kept h hH).to (fun j _ => ?_)
      simp only [bfv, hI, hR]
    · rw [if_neg h1, if_pos h18] at h ⊢
      rw [hH, h]
      simp only [bav, hI, hR, hL]
  · unfold bCell
    rw [if_neg (by omega), if_neg h18]
    trivial
theorem bRep.obj {w : WD} {I : Nat → Nat → Int32} {R : Nat → Nat → Option Nat} {L : Nat → Nat → Int64} {sh : Nat → Nat × Nat} {N : Nat} {H : Heap} (h : bRep w (I, R, L, sh, N) H) {id ci n : Nat} (hs : sh id = (ci, n)) (hci : ci < 12) : t_OB (w.1 + id) (w.2.1 ci) (cn ci) (w.2.2.1 ci) H (fun j => bfv w.1 I R ci id j) := by
  have h1 := h.2 id
  dsimp only at h1
  rw [hs] at h1
  unfold bCell at h1
  rwa [if_pos hci] at h1
theorem bRep.arr {w : WD} {I : Nat → Nat → Int32} {R : Nat → Nat → Option Nat} {L : Nat → Nat → Int64} {sh : Nat → Nat × Nat} {N : Nat} {H : Heap} (h : bRep w (I, R, L, sh, N) H) {id kd n : Nat} (hs : sh id = (kd, n)) (h1 : 12 ≤ kd) (h2 : kd < 18) : H[w.1 + id]? = some (arrV (w.2.2.2 kd) n (fun j => bav w.1 I R L kd id j)) := by
  have h3 := h.2 id
  dsimp only at h3
  rw [hs] at h3
  unfold bCell at h3
  rwa [if_neg (by dsimp only; omega), if_pos h2] at h3
section HEAPR
variable {M : MI} {d ac az pc : Nat} {ll : List (Nat × Value)} {st : List Value} {I : Nat → Nat → Int32} {R : Nat → Nat → Option Nat} {L : Nat → Nat → Int64} {sh : Nat → Nat × Nat} {N : Nat} {Q : Option Value → HS → Prop}
variable {w : WD} {p : Program} {l : Launch} {e : Env} {RR : Room} {s : State} {m : MethodId} {args : Array Value} {below : List Frame} {meth : Method} {c : Code} {H : Heap} {locs : List Loc} {cells slots : Nat} {Qf : State → Prop} {ls : Array Slot} {rest : List Value}
theorem b_get (hC : bCx M d ac az w p RR s m args meth c cells slots) (hR : bRep w (I, R, L, sh, N) H) {ix ci k id n : Nat} (hf : bFl M.1.cls ix ci k) (hs : sh id = (ci, n)) (hdg : decode M.2.1 pc = .ok (.getfield ix, 3))
    (kk : W p l e RR s m args below meth c H locs cells slots Qf (F0 m (pc + 3) ls (bfv w.1 I R ci id k :: rest))) : W p l e RR s m args below meth c H locs cells slots Qf (F0 m pc ls (.ref (w.1 + id) :: rest)) := by
  obtain ⟨hci, hk, hl⟩ := hf
  obtain ⟨hx, hb, hml, hown, hts, hmn, hK, -⟩ := hC
  obtain ⟨cell, q1, q2, q3, q4⟩ := hR.obj hs hci
  obtain ⟨hS, hfc, kC, hkC, hkind⟩ := hK.1 ci hci
  obtain ⟨cf, kf, fi, f, hi, hsl⟩ := hS k hk
  have hst := (u_facts hfc hkC (u_lays hts (c_in hci) hk) hi).1
  rcases hl with hl | ⟨host, hl⟩
  · exact W.getf hx hb hown (hts _ hl) hi hst q1 (by rw [q3]; exact fun h => by cases h) (by rw [hsl]; exact q4 k hk) rfl rfl hdg kk
  · exact va_Wgetf hx hb hown (va_Nw.use rfl (hK.2.2.1 _ hl)) hi hst q1 (by rw [q3]; exact fun h => by cases h) (by rw [hsl]; exact q4 k hk) rfl rfl hdg kk
theorem b_apart (hC : bCx M d ac az w p RR s m args meth c cells slots) {ci : Nat} (hci : ci < 12) : ∀ x y, x < cn ci → y < cn ci → x ≠ y → (w.2.2.1 ci) x ≠ (w.2.2.1 ci) y := by
  obtain ⟨hx, hb, hml, hown, hts, hmn, hK, -⟩ := hC
  have hKa : va_K (w.2.1, w.2.2.1) ((List.range 12).map fun ci => (cN ci, cT ci, cn ci)) [] s := by
    refine ⟨fun c q hq => ?_, fun k q h => by simp at h⟩
    rw [List.getElem?_map] at hq
    obtain ⟨i, hi, rfl⟩ := Option.map_eq_some_iff.mp hq
    have hlt : c < 12 := by
      have := (List.getElem?_eq_some_iff.mp hi).1
      simpa using this
    have : i = c := by
      rw [List.getElem?_range hlt] at hi
      exact (Option.some.inj hi).symm
    subst this
    exact hK.1 i hlt
  exact va_apart (own := "") hts (c_in hci) (cY ci) (fun k hk => c_ok ci hci k hk) (c_nm ci hci) hKa (ci := ci) (by rw [List.getElem?_map, List.getElem?_range hci]; rfl)
theorem b_put (hC : bCx M d ac az w p RR s m args meth c cells slots) (hR : bRep w (I, R, L, sh, N) H) (hl : ∀ q ∈ locs, w.1 ≤ q.base) {ix ci k id n : Nat} (hf : bFl M.1.cls ix ci k) (hs : sh id = (ci, n)) {v : Value} (hfin : (cT ci k).2.2.2 = false ∨ (M.1.name = "<init>" ∧ M.1.cls = cN ci)) (hv1 : narrow (cY ci k) v = v) (hv2 : fits (cY ci k) v = true) (hdg : decode M.2.1 pc = .ok (.putfield ix, 3))
    (kk : ∀ (H' : Heap) (locs' : List Loc), t_OB (w.1 + id) (w.2.1 ci) (cn ci) (w.2.2.1 ci) H' (updV (fun j => bfv w.1 I R ci id j) k v) → H'.size = H.size → (∀ q, q ≠ w.1 + id → H'[q]? = H[q]?) → (∀ q ∈ locs', w.1 ≤ q.base) → W p l e RR s m args below meth c H' locs' cells slots Qf (F0 m (pc + 3) ls rest)) : W p l e RR s m args below meth c H locs cells slots Qf (F0 m pc ls (v :: .ref (w.1 + id) :: rest)) := by
  have hap := b_apart hC hf.1
  obtain ⟨hci, hk, hlk⟩ := hf
  obtain ⟨hx, hb, hml, hown, hts, hmn, hK, -⟩ := hC
  obtain ⟨cell, q1, q2, q3, q4⟩ := hR.obj hs hci
  obtain ⟨hS, hfc, kC, hkC, hkind⟩ := hK.1 ci hci
  obtain ⟨cf, kf, fi, f, hi, hsl⟩ := hS k hk
  have hst := (u_facts hfc hkC (u_lays hts (c_in hci) hk) hi).1
  have hd := c_ok ci hci k hk
  have hlay := hts _ (c_in hci _ (u_in_lay hk))
  have fin : ∀ (H' : Heap), H'[w.1 + id]? = some (cell.setSlot f.slot v) → H'.size = H.size → (∀ q, q ≠ w.1 + id → H'[q]? = H[q]?) → W p l e RR s m args below meth c H' (locs ++ [⟨w.1 + id, f.slot⟩]) cells slots Qf (F0 m (pc + 3) ls rest) := by
    intro H' e1 e2 e3
    rw [hsl] at e1 ⊢
    refine kk H' _ ⟨_, e1, q2, q3, t_set q4 hap hk v⟩ e2 e3 (fun q hq => ?_)
    rcases List.mem_append.mp hq with h | h
    · exact hl q h
    · rw [List.mem_singleton.mp h]
      exact Nat.le_add_right _ _
  by_cases hfn : (cT ci k).2.2.2 = false
  · unfold u_lay at hlay
    rw [if_neg (by rw [hfn]; decide)] at hlay
    have h6 := u_store hfc hkC hkind hlay hi hd hv1 hv2
    rcases hlk with hlk | ⟨host, hlk⟩
    · exact W.putK hx hb (f := f) ⟨hown, hts _ hlk, ⟨_, _, _, hi⟩, hst⟩ (by rw [q2]; exact h6) q1 q3 (by rw [hsl]; exact k2_hasslot (q4 k hk)) rfl rfl hdg fin
    · exact va_WputK hx hb (f := f) hown (va_Nw.use rfl (hK.2.2.1 _ hlk)) hi hst (by rw [q2]; exact h6) q1 q3 (by rw [hsl]; exact k2_hasslot (q4 k hk)) rfl rfl hdg fin
  · obtain ⟨hin, hcls⟩ := hfin.resolve_left hfn
    have hlays := u_lays hts (c_in hci) hk
    have h6 := u_fits hfc hkC hkind hlays hi hd hv1 hv2
    have hcf : m.cls = cf := by
      rw [hcls] at hown
      have hfc2 : s.vm.findClass (cN ci) = some m.cls := hown
      unfold u_lay at hlay
      rw [if_pos (by simpa using hfn)] at hlay
      obtain ⟨_, _, c', _, _, _, -, -, hf', -, -, -, hown2, -⟩ := Cond.laysFinal_spec hlay
      have e1 : c' = cf := by have := hi.symm.trans hf'; simp at this; exact this.1.symm
      rw [← e1]
      exact Option.some.inj (hfc2.symm.trans hown2)
    rcases hlk with hlk | ⟨host, hlk⟩
    · exact W.putFinK hx hb hown (hts _ hlk) hi hst hcf (by rw [hmn]; exact hin) (by rw [q2]; exact h6) q1 q3 (by rw [hsl]; exact k2_hasslot (q4 k hk)) rfl rfl hdg fin
    · refine va_Wputf hx hb hown (va_Nw.use rfl (hK.2.2.1 _ hlk)) hi hst (Or.inr ⟨hcf, by rw [hmn]; exact hin⟩) q1 (by rw [q3]; exact fun h => by cases h) (by rw [hsl]; exact k2_hasslot (q4 k hk)) h6.1 (by rw [q2, q3]; exact h6.2) rfl rfl hdg ?_
      have ha := (Array.getElem?_eq_some_iff.mp q1).1
      refine fin _ (by simp [Array.getElem?_setIfInBounds, ha]) (by simp) (fun q hq => by simp [Array.getElem?_setIfInBounds, Ne.symm hq])
theorem b_put_rep (hR : bRep w (I, R, L, sh, N) H) {ci k id n : Nat} (hs : sh id = (ci, n)) (hci : ci < 12) {I' : Nat → Nat → Int32} {R' : Nat → Nat → Option Nat} {v : Value} {H' : Heap} (hI : ∀ a j, a ≠ id → I' a j = I a j) (hR' : ∀ a j, a ≠ id → R' a j = R a j) (hv : ∀ j, updV (fun j => bfv w.1 I R ci id j) k v j = bfv w.1 I' R' ci id j)
    (h1 : t_OB (w.1 + id) (w.2.1 ci) (cn ci) (w.2.2.1 ci) H' (updV (fun j => bfv w.1 I R ci id j) k v)) (h2 : H'.size = H.size) (h3 : ∀ q, q ≠ w.1 + id → H'[q]? = H[q]?) : bRep w (I', R', L, sh, N) H' := by
  refine ⟨by rw [h2]; exact hR.1, fun a => ?_⟩
  by_cases ha : a = id
  · subst ha
    dsimp only
    rw [hs]
    unfold bCell
    rw [if_pos hci]
    exact h1.to (fun j _ => hv j)
  · exact bCell.congr (hR.2 a) (fun j => hI a j ha) (fun j => hR' a j ha) (fun j => rfl) (fun _ => h3 _ (by omega))
theorem u2_ne {α : Type} {f : Nat → Nat → α} {a k : Nat} {v : α} {a' j : Nat} (h : a' ≠ a) : u2 f a k v a' j = f a' j := by
  unfold u2
  rw [if_neg (fun q => h q.1)]
theorem b_updI {ci id k : Nat} (hk : cKk ci k ≠ 2) (x : Int32) (lo : Nat) (j : Nat) : updV (fun j => bfv lo I R ci id j) k (.int x) j = bfv lo (u2 I id k x) R ci id j := by
  unfold updV bfv u2
  by_cases h : j = k
  · subst h
    simp [hk]
  · simp [h]
theorem b_updR {ci id k : Nat} (hk : cKk ci k = 2) (x : Option Nat) (lo : Nat) (j : Nat) : updV (fun j => bfv lo I R ci id j) k (va_rf (x.map (lo + ·))) j = bfv lo I (u2 R id k x) ci id j := by
  unfold updV bfv u2
  by_cases h : j = k
  · subst h
    simp [hk]
  · simp [h]
/-- getfield of an int, of a reference -/
theorem r_getI {ix ci k id n pc2 : Nat} (hdg : decode M.2.1 pc = .ok (.getfield ix, 3)) (hp : pc + 3 = pc2) (hf : bFl M.1.cls ix ci k) (hk : cKk ci k ≠ 2) (hs : sh id = (ci, n)) (kk : Run M d ac az pc2 ll (.int (I id k) :: st) (I, R, L, sh, N) Q) : Run M d ac az pc ll (.ref id :: st) (I, R, L, sh, N) Q := by
  subst hp
  intro w p l e RR s m args below meth c H locs cells slots Qf ls hC hR hL hl hr
  refine b_get hC hR hf hs hdg ?_
  unfold bfv
  rw [if_neg hk]
  exact kk w p l e RR s m args below meth c H locs cells slots Qf ls hC hR hL hl hr
theorem r_getR {ix ci k id n pc2 : Nat} (hdg : decode M.2.1 pc = .ok (.getfield ix, 3)) (hp : pc + 3 = pc2) (hf : bFl M.1.cls ix ci k) (hk : cKk ci k = 2) (hs : sh id = (ci, n)) (kk : Run M d ac az pc2 ll (rv (R id k) :: st) (I, R, L, sh, N) Q) : Run M d ac az pc ll (.ref id :: st) (I, R, L, sh, N) Q := by
  subst hp
  intro w p l e RR s m args below meth c H locs cells slots Qf ls hC hR hL hl hr
  refine b_get hC hR hf hs hdg ?_
  unfold bfv
  rw [if_pos hk, ← trV_rv]
  exact kk w p l e RR s m args below meth c H locs cells slots Qf ls hC hR hL hl hr
/-- a reference field of which one knows what it holds -/
theorem r_getA {ix ci k id n pc2 a : Nat} (hdg : decode M.2.1 pc = .ok (.getfield ix, 3)) (hp : pc + 3 = pc2) (hf : bFl M.1.cls ix ci k) (hk : cKk ci k = 2) (hs : sh id = (ci, n)) (ha : R id k = some a) (kk : Run M d ac az pc2 ll (.ref a :: st) (I, R, L, sh, N) Q) : Run M d ac az pc ll (.ref id :: st) (I, R, L, sh, N) Q :=
  r_getR hdg hp hf hk hs (by rw [ha]; exact kk)
theorem r_putI {ix ci k id n pc2 : Nat} {x : Int32} (hdg : decode M.2.1 pc = .ok (.putfield ix, 3)) (hp : pc + 3 = pc2) (hf : bFl M.1.cls ix ci k) (hk : cKk ci k = 0 ∨ (cKk ci k = 1 ∧ (x = 0 ∨ x = 1))) (hs : sh id = (ci, n)) (hfin : (cT ci k).2.2.2 = false ∨ (M.1.name = "<init>" ∧ M.1.cls = cN ci)) (kk : Run M d ac az pc2 ll st (u2 I id k x, R, L, sh, N) Q) : Run M d ac az pc ll (.int x :: .ref id :: st) (I, R, L, sh, N) Q := by
  subst hp
  intro w p l e RR s m args below meth c H locs cells slots Qf ls hC hR hL hl hr
  have hk2 : cKk ci k ≠ 2 := by rcases hk with h | h <;> omega
  have hv : narrow (cY ci k) (.int x) = .int x ∧ fits (cY ci k) (.int x) = true := by
    rcases c_kf ci hf.1 k hf.2.1 with h | h | h
    · rw [h.2]; exact ⟨rfl, rfl⟩
    · rw [h.2]
      rcases hk with h1 | h1
      · omega
      · rcases h1.2 with rfl | rfl <;> exact ⟨rfl, rfl⟩
    · omega
  refine b_put hC hR hl hf hs hfin hv.1 hv.2 hdg (fun H' locs' h1 h2 h3 h4 => ?_)
  exact kk w p l e RR s m args below meth c H' locs' cells slots Qf ls hC (b_put_rep hR hs hf.1 (fun a j ha => u2_ne ha) (fun a j _ => rfl) (b_updI hk2 x w.1) h1 h2 h3) hL h4 hr
theorem r_putR {ix ci k id n pc2 : Nat} {x : Option Nat} (hdg : decode M.2.1 pc = .ok (.putfield ix, 3)) (hp : pc + 3 = pc2) (hf : bFl M.1.cls ix ci k) (hk : cKk ci k = 2) (hs : sh id = (ci, n)) (hfin : (cT ci k).2.2.2 = false ∨ (M.1.name = "<init>" ∧ M.1.cls = cN ci)) (kk : Run M d ac az pc2 ll st (I, u2 R id k x, L, sh, N) Q) : Run M d ac az pc ll (rv x :: .ref id :: st) (I, R, L, sh, N) Q := by
  subst hp
  intro w p l e RR s m args below meth c H locs cells slots Qf ls hC hR hL hl hr
  have hv : narrow (cY ci k) (va_rf (x.map (w.1 + ·))) = va_rf (x.map (w.1 + ·)) ∧ fits (cY ci k) (va_rf (x.map (w.1 + ·))) = true := by
    rcases c_kf ci hf.1 k hf.2.1 with h | h | h
    · omega
    · omega
    · have h2 := h.2
      generalize cY ci k = ty at h2 ⊢
      cases x <;> cases ty <;> first | exact ⟨rfl, rfl⟩ | exact absurd h2 (by simp [FieldType.isReference])
  refine b_put (v := trV w.1 (rv x)) hC hR hl hf hs hfin (by rw [trV_rv]; exact hv.1) (by rw [trV_rv]; exact hv.2) hdg (fun H' locs' h1 h2 h3 h4 => ?_)
  rw [trV_rv] at h1
  exact kk w p l e RR s m args below meth c H' locs' cells slots Qf ls hC (b_put_rep hR hs hf.1 (fun a j _ => rfl) (fun a j ha => u2_ne ha) (b_updR hk x w.1) h1 h2 h3) hL h4 hr
/-- arrays -/
theorem b_in {j : Int32} {q n : Nat} (hq : j.toInt = (q : Int)) (hlt : q < n) : ¬ (j < 0 ∨ n ≤ j.toNatClampNeg) ∧ j.toNatClampNeg = q := by
  have e : j.toNatClampNeg = q := by show j.toInt.toNat = q; omega
  refine ⟨?_, e⟩
  rw [e, Int32.lt_iff_toInt_lt, Int32.toInt_zero]
  omega
theorem r_iaload {id n q pc2 : Nat} {j : Int32} (hdg : decode M.2.1 pc = .ok (.iaload, 1)) (hp : pc + 1 = pc2) (hs : sh id = (12, n)) (hq : j.toInt = (q : Int)) (hlt : q < n) (kk : Run M d ac az pc2 ll (.int (I id q) :: st) (I, R, L, sh, N) Q) : Run M d ac az pc ll (.int j :: .ref id :: st) (I, R, L, sh, N) Q := by
  subst hp
  intro w p l e RR s m args below meth c H locs cells slots Qf ls hC hR hL hl hr
  obtain ⟨h1, h2⟩ := b_in hq hlt
  have hA := (hC.2.2.2.2.2.2.1.2.1 12 (by omega) (by omega)).1
  refine W.iald (v := .int (I id q)) hC.1 hC.2.1 (hR.arr hs (by omega) (by omega)) (hA _ _) (fun q => by cases q) (by rw [arrV_size]; exact h1) (by rw [h2, arrV_read _ _ hlt]; rfl) rfl rfl hdg ?_
  exact kk w p l e RR s m args below meth c H locs cells slots Qf ls hC hR hL hl hr
theorem r_laload {id n q pc2 : Nat} {j : Int32} (hdg : decode M.2.1 pc = .ok (.laload, 1)) (hp : pc + 1 = pc2) (hs : sh id = (13, n)) (hq : j.toInt = (q : Int)) (hlt : q < n) (kk : Run M d ac az pc2 ll (.long (L id q) :: st) (I, R, L, sh, N) Q) : Run M d ac az pc ll (.int j :: .ref id :: st) (I, R, L, sh, N) Q := by
  subst hp
  intro w p l e RR s m args below meth c H locs cells slots Qf ls hC hR hL hl hr
  obtain ⟨h1, h2⟩ := b_in hq hlt
  have hA := (hC.2.2.2.2.2.2.1.2.1 13 (by omega) (by omega)).1
  refine W.lald (v := .long (L id q)) hC.1 hC.2.1 (hR.arr hs (by omega) (by omega)) (hA _ _) (fun q => by cases q) (by rw [arrV_size]; exact h1) (by rw [h2, arrV_read _ _ hlt]; rfl) rfl rfl hdg ?_
  exact kk w p l e RR s m args below meth c H locs cells slots Qf ls hC hR hL hl hr
theorem r_baload {id n q pc2 : Nat} {j : Int32} (hdg : decode M.2.1 pc = .ok (.baload, 1)) (hp : pc + 1 = pc2) (hs : sh id = (14, n)) (hq : j.toInt = (q : Int)) (hlt : q < n) (kk : Run M d ac az pc2 ll (.int (I id q) :: st) (I, R, L, sh, N) Q) : Run M d ac az pc ll (.int j :: .ref id :: st) (I, R, L, sh, N) Q := by
  subst hp
  intro w p l e RR s m args below meth c H locs cells slots Qf ls hC hR hL hl hr
  obtain ⟨h1, h2⟩ := b_in hq hlt
  have hA := (hC.2.2.2.2.2.2.1.2.1 14 (by omega) (by omega)).1
  refine W.zald (v := .int (I id q)) hC.1 hC.2.1 (hR.arr hs (by omega) (by omega)) (hA _ _) (fun q => by cases q) (by rw [arrV_size]; exact h1) (by rw [h2, arrV_read _ _ hlt]; rfl) rfl rfl hdg ?_
  exact kk w p l e RR s m args below meth c H locs cells slots Qf ls hC hR hL hl hr
theorem aT_ref {kd : Nat} (h : 15 ≤ kd) : (aT kd).isReference = true := by
  unfold aT
  split <;> first | omega | rfl
theorem r_aaload {id n q pc2 kd : Nat} {j : Int32} (hdg : decode M.2.1 pc = .ok (.aaload, 1)) (hp : pc + 1 = pc2) (hs : sh id = (kd, n)) (hk : 15 ≤ kd) (hk2 : kd < 18) (hq : j.toInt = (q : Int)) (hlt : q < n) (kk : Run M d ac az pc2 ll (rv (R id q) :: st) (I, R, L, sh, N) Q) : Run M d ac az pc ll (.int j :: .ref id :: st) (I, R, L, sh, N) Q := by
  subst hp
  intro w p l e RR s m args below meth c H locs cells slots Qf ls hC hR hL hl hr
  obtain ⟨h1, h2⟩ := b_in hq hlt
  have hA := (hC.2.2.2.2.2.2.1.2.1 kd (by omega) (by omega)).1
  refine W.aald (ty := aT kd) (v := trV w.1 (rv (R id q))) hC.1 hC.2.1 (hR.arr hs (by omega) (by omega)) (hA _ _) (aT_ref hk) (fun q => by cases q) (by rw [arrV_size]; exact h1) (by rw [h2, arrV_read _ _ hlt, trV_rv]; unfold bav; rw [if_neg (by omega), if_neg (by omega)]) rfl rfl hdg ?_
  exact kk w p l e RR s m args below meth c H locs cells slots Qf ls hC hR hL hl hr
theorem r_alen {id n pc2 kd : Nat} (hdg : decode M.2.1 pc = .ok (.arraylength, 1)) (hp : pc + 1 = pc2) (hs : sh id = (kd, n)) (hk : 12 ≤ kd) (hk2 : kd < 18) (kk : Run M d ac az pc2 ll (.int (nI n) :: st) (I, R, L, sh, N) Q) : Run M d ac az pc ll (.ref id :: st) (I, R, L, sh, N) Q := by
  subst hp
  intro w p l e RR s m args below meth c H locs cells slots Qf ls hC hR hL hl hr
  have hA := (hC.2.2.2.2.2.2.1.2.1 kd hk hk2).1
  refine W.alen (ty := aT kd) (n := nI n) hC.1 hC.2.1 (hR.arr hs hk hk2) (hA _ _) (by rw [arrV_size]; rfl) rfl rfl hdg ?_
  exact kk w p l e RR s m args below meth c H locs cells slots Qf ls hC hR hL hl hr
theorem b_ast_rep (hR : bRep w (I, R, L, sh, N) H) {kd id n : Nat} (hs : sh id = (kd, n)) (hk : 12 ≤ kd) (hk2 : kd < 18) {I' : Nat → Nat → Int32} {R' : Nat → Nat → Option Nat} {L' : Nat → Nat → Int64} {H' : Heap} (hI : ∀ a j, a ≠ id → I' a j = I a j) (hR' : ∀ a j, a ≠ id → R' a j = R a j) (hL' : ∀ a j, a ≠ id → L' a j = L a j) {f : Nat → Value} (hv : ∀ j, f j = bav w.1 I' R' L' kd id j)
    (h1 : H'[w.1 + id]? = some (arrV (w.2.2.2 kd) n f)) (h2 : H'.size = H.size) (h3 : ∀ q, q ≠ w.1 + id → H'[q]? = H[q]?) : bRep w (I', R', L', sh, N) H' := by
  refine ⟨by rw [h2]; exact hR.1, fun a => ?_⟩
  by_cases ha : a = id
  · subst ha
    dsimp only
    rw [hs]
    unfold bCell
    rw [if_neg (by dsimp only; omega), if_pos hk2, h1]
    rw [show f = fun j => bav w.1 I' R' L' kd a j from funext hv]
  · exact bCell.congr (hR.2 a) (fun j => hI a j ha) (fun j => hR' a j ha) (fun j => hL' a j ha) (fun _ => h3 _ (by omega))
theorem b_loc {q : Nat} (hl : ∀ q ∈ locs, w.1 ≤ q.base) (id : Nat) : ∀ x ∈ locs ++ [(⟨w.1 + id, q⟩ : Loc)], w.1 ≤ x.base := by
  intro x hx
  rcases List.mem_append.mp hx with h | h
  · exact hl x h
  · rw [List.mem_singleton.mp h]
    exact Nat.le_add_right _ _
theorem r_iastore {id n q pc2 : Nat} {j x : Int32} (hdg : decode M.2.1 pc = .ok (.iastore, 1)) (hp : pc + 1 = pc2) (hs : sh id = (12, n)) (hq : j.toInt = (q : Int)) (hlt : q < n) (kk : Run M d ac az pc2 ll st (u2 I id q x, R, L, sh, N) Q) : Run M d ac az pc ll (.int x :: .int j :: .ref id :: st) (I, R, L, sh, N) Q := by
  subst hp
  intro w p l e RR s m args below meth c H locs cells slots Qf ls hC hR hL hl hr
  obtain ⟨h1, h2⟩ := b_in hq hlt
  have hA := (hC.2.2.2.2.2.2.1.2.1 12 (by omega) (by omega)).1
  refine W.iast hC.1 hC.2.1 (hR.arr hs (by omega) (by omega)) (hA _ _) (fun q => by cases q) (by rw [arrV_size]; exact h1) rfl rfl hdg (fun H' e1 e2 e3 => ?_)
  rw [h2, arrV_store] at e1
  refine kk w p l e RR s m args below meth c H' _ cells slots Qf ls hC (b_ast_rep hR hs (by omega) (by omega) (fun a j ha => u2_ne ha) (fun a j _ => rfl) (fun a j _ => rfl) (fun j => ?_) e1 e2 e3) hL (b_loc hl id) hr
  unfold updV bav u2
  by_cases h : j = q <;> simp [h]
theorem r_bastore {id n q pc2 : Nat} {j x : Int32} (hdg : decode M.2.1 pc = .ok (.bastore, 1)) (hp : pc + 1 = pc2) (hs : sh id = (14, n)) (hq : j.toInt = (q : Int)) (hlt : q < n) (hx01 : x = 0 ∨ x = 1) (kk : Run M d ac az pc2 ll st (u2 I id q x, R, L, sh, N) Q) : Run M d ac az pc ll (.int x :: .int j :: .ref id :: st) (I, R, L, sh, N) Q := by
  subst hp
  intro w p l e RR s m args below meth c H locs cells slots Qf ls hC hR hL hl hr
  obtain ⟨h1, h2⟩ := b_in hq hlt
  have hx : narrow .boolean (.int x) = .int x := by rcases hx01 with rfl | rfl <;> rfl
  have hA := (hC.2.2.2.2.2.2.1.2.1 14 (by omega) (by omega)).1
  refine W.zast hC.1 hC.2.1 (hR.arr hs (by omega) (by omega)) (hA _ _) (fun q => by cases q) (by rw [arrV_size]; exact h1) rfl rfl hdg (fun H' e1 e2 e3 => ?_)
  rw [h2, hx, arrV_store] at e1
  refine kk w p l e RR s m args below meth c H' _ cells slots Qf ls hC (b_ast_rep hR hs (by omega) (by omega) (fun a j ha => u2_ne ha) (fun a j _ => rfl) (fun a j _ => rfl) (fun j => ?_) e1 e2 e3) hL (b_loc hl id) hr
  unfold updV bav u2
  by_cases h : j = q <;> simp [h]
theorem r_lastore {id n q pc2 : Nat} {j : Int32} {x : Int64} (hdg : decode M.2.1 pc = .ok (.lastore, 1)) (hp : pc + 1 = pc2) (hs : sh id = (13, n)) (hq : j.toInt = (q : Int)) (hlt : q < n) (kk : Run M d ac az pc2 ll st (I, R, u2 L id q x, sh, N) Q) : Run M d ac az pc ll (.long x :: .int j :: .ref id :: st) (I, R, L, sh, N) Q := by
  subst hp
  intro w p l e RR s m args below meth c H locs cells slots Qf ls hC hR hL hl hr
  obtain ⟨h1, h2⟩ := b_in hq hlt
  have hA := (hC.2.2.2.2.2.2.1.2.1 13 (by omega) (by omega)).1
  refine W.last hC.1 hC.2.1 (hR.arr hs (by omega) (by omega)) (hA _ _) (fun q => by cases q) (by rw [arrV_size]; exact h1) rfl rfl hdg (fun H' e1 e2 e3 => ?_)
  rw [h2, arrV_store] at e1
  refine kk w p l e RR s m args below meth c H' _ cells slots Qf ls hC (b_ast_rep hR hs (by omega) (by omega) (fun a j _ => rfl) (fun a j _ => rfl) (fun a j ha => u2_ne ha) (fun j => ?_) e1 e2 e3) hL (b_loc hl id) hr
  unfold updV bav u2
  by_cases h : j = q <;> simp [h]
theorem r_aastore {id n q pc2 kd ci v nv : Nat} {j : Int32} (hdg : decode M.2.1 pc = .ok (.aastore, 1)) (hp : pc + 1 = pc2) (hs : sh id = (kd, n)) (hk : 15 ≤ kd) (hk2 : kd < 18) (hq : j.toInt = (q : Int)) (hlt : q < n) (hv : sh v = (ci, nv)) (hci : ci < 12) (ht : aT kd = .object (cN ci)) (kk : Run M d ac az pc2 ll st (I, u2 R id q (some v), L, sh, N) Q) : Run M d ac az pc ll (.ref v :: .int j :: .ref id :: st) (I, R, L, sh, N) Q := by
  subst hp
  intro w p l e RR s m args below meth c H locs cells slots Qf ls hC hR hL hl hr
  obtain ⟨h1, h2⟩ := b_in hq hlt
  have h0 : ¬ j < 0 := fun z => h1 (Or.inl z)
  have hKk := hC.2.2.2.2.2.2.1.2.1 kd (by omega) (by omega)
  rw [ht] at hKk
  obtain ⟨kA, comp, k1, k2, k3, -⟩ := hKk.2
  have hcls := (hC.2.2.2.2.2.2.1.1 ci hci).2
  have hcomp : comp = w.2.1 ci := Option.some.inj (k3.symm.trans hcls.1)
  subst hcomp
  obtain ⟨kC, hkC, -⟩ := hcls.2
  obtain ⟨cellV, g1, g2, g3, -⟩ := hR.obj hv hci
  refine W.aast hC.1 hC.2.1 (hR.arr hs (by omega) (by omega)) (fun q h => by cases h) (fun h => by cases h) k1 k2 rfl hkC ⟨h0, by rw [arrV_size, h2]; exact hlt⟩ g1 (fun q h => by rw [g3] at h; cases h) (by rw [g2]; exact hkC) (by rw [g2]; exact va_assign hcls) rfl rfl hdg (fun H' e1 e2 e3 => ?_)
  rw [h2, arrV_store] at e1
  refine kk w p l e RR s m args below meth c H' _ cells slots Qf ls hC (b_ast_rep hR hs (by omega) (by omega) (fun a j _ => rfl) (fun a j ha => u2_ne ha) (fun a j _ => rfl) (fun j => ?_) e1 e2 e3) hL (b_loc hl id) hr
  unfold updV bav u2
  by_cases h : j = q
  · simp [h, show ¬ kd = 13 by omega, show ¬ kd < 15 by omega, va_rf]
  · simp [h]
end HEAPR
