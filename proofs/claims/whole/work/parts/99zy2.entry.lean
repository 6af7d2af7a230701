/-! THE LAW'S ENTRY: both are made, and the loop begins -/
section LAW
variable {w : WD} {p : Program} {l : Launch} {e : Env} {s : State} {m : MethodId} {below : List Frame} {meth : Method} {c : Code} {b L : Nat} {xs : Nat → Int32} {pc cells slots : Nat} {lv : List (Nat × Value)} {st : List Value} {h : HS}
theorem lr_new {ix ci pc2 N : Nat} {I : Nat → Nat → Int32} {R : Nat → Nat → Option Nat} {Lg : Nat → Nat → Int64} {sh : Nat → Nat × Nat} (X : LX w p s m meth c b L xs) (hdg : decode code pc = .ok (.new ix, 3)) (hp : pc + 3 = pc2) (hci : ci < 12) (hw : Jvm.Cond.classLink "FeatureDeskLaw" ix (cN ci) ∈ bBig) (hw2 : Jvm.Cond.instantiable (cN ci) (cn ci) ∈ bBig) (hw3 : Jvm.Cond.initialized (cN ci) ∈ bBig) (hac : cells + 1 ≤ 600000) (haz : slots + cn ci ≤ 7302250)
    (kk : LR w p l e s m below meth c b pc2 lv (.ref (w.1 + N) :: st) (z1 I N 0, z1 R N none, z1 Lg N 0, s1 sh N (ci, 0), N + 1) (cells + 1) (slots + cn ci)) : LR w p l e s m below meth c b pc lv st (I, R, Lg, sh, N) cells slots := by
  subst hp
  intro H locs ls hR hl hv2
  have hz := hR.1
  dsimp only at hz
  have hts := hts_b X.1
  have hKn := X.2.1.1 ci hci
  refine W.newcK X.x X.cd X.own (hts _ hw) (hts _ hw2) (hts _ hw3) rfl hdg hac haz hKn.2.1 rfl (fun H1 kC hkC e1 z1' o1 => ?_)
  have hb := u_born (cY ci) hts (c_in hci) hKn hkC e1 (fun k hk => c_ok ci hci k hk)
  have hcell : bCell w (z1 I N 0) (z1 R N none) (z1 Lg N 0) (ci, 0) N H1 := by
    unfold bCell
    rw [if_pos hci, ← hz]
    refine hb.to (fun k hk => ?_)
    rw [c_def ci hci k hk]
    simp only [bfv, z1_eq]
    rfl
  rw [hz]
  exact kk H1 locs ls (b_new_rep hR hcell z1' o1) hl hv2
theorem lr_dup {a pc2 : Nat} (X : LX w p s m meth c b L xs) (hdg : decode code pc = .ok (.dup, 1)) (hp : pc + 1 = pc2) (kk : LR w p l e s m below meth c b pc2 lv (.ref a :: .ref a :: st) h cells slots) : LR w p l e s m below meth c b pc lv (.ref a :: st) h cells slots := by
  subst hp
  exact fun H locs ls hR hl hv2 => lv_dup X.x X.cd hdg rfl (kk H locs ls hR hl hv2)
theorem lr_astore {k : Fin 4} {i a pc2 : Nat} {lv' : List (Nat × Value)} (X : LX w p s m meth c b L xs) (hdg : decode code pc = .ok (.astore_n k, 1)) (hp : pc + 1 = pc2) (hi : (k : Nat) = i) (hn : i < 4) (hl : (i, Value.ref a) :: lv.filter (fun q => !(q.1 == i) && !(q.1 + 1 == i && q.2.category == 2)) = lv') (kk : LR w p l e s m below meth c b pc2 lv' st h cells slots) : LR w p l e s m below meth c b pc lv (.ref a :: st) h cells slots := by
  subst hp
  exact fun H locs ls hR hl1 hv2 => lv_astore_n X.x X.cd hdg hi hv2 hn hl (fun ls2 hv3 => kk H locs ls2 hR hl1 hv3)
theorem lr_istore {k : Fin 4} {i pc2 : Nat} {x : Int32} {lv' : List (Nat × Value)} (X : LX w p s m meth c b L xs) (hdg : decode code pc = .ok (.istore_n k, 1)) (hp : pc + 1 = pc2) (hi : (k : Nat) = i) (hn : i < 4) (hl : (i, Value.int x) :: lv.filter (fun q => !(q.1 == i) && !(q.1 + 1 == i && q.2.category == 2)) = lv') (kk : LR w p l e s m below meth c b pc2 lv' st h cells slots) : LR w p l e s m below meth c b pc lv (.int x :: st) h cells slots := by
  subst hp
  exact fun H locs ls hR hl1 hv2 => lv_istore_n X.x X.cd hdg hi hv2 hn hl (fun ls2 hv3 => kk H locs ls2 hR hl1 hv3)
/-- a constructor -/
theorem lr_calli {M2 : MI} {d2 ac2 az2 ix n id pc2 : Nat} {as : List Value} {rest : List Value} {Q2 : Option Value → HS → Prop} (X : LX w p s m meth c b L xs) (hdg : decode code pc = .ok (.invokespecial ix, 3)) (hp : pc + 3 = pc2) (hlk : bLk "FeatureDeskLaw" ix M2.1) (hm : bCm M2 n) (hv : Jvm.Cond.instanceMethod M2.1 ∈ bBig) (hy : M2.1.name = "<init>") (hrt : M2.2.2.2 = none) (hn : as.length = n) (hcat : (rest.map fun v => v.category).sum ≤ 8)
    (hM : Mt M2 d2 ac2 az2 (.ref id :: as) h Q2) (hd : d2 + 1 ≤ 2000) (hac : cells + ac2 ≤ 600000) (haz : slots + az2 ≤ 7302250) (hst : st = (as.map (trV w.1)).reverse ++ .ref (w.1 + id) :: rest) (kk : ∀ r h', Q2 r h' → LR w p l e s m below meth c b pc2 lv ((r.map (trV w.1)).toList ++ rest) h' (cells + ac2) (slots + az2)) : LR w p l e s m below meth c b pc lv st h cells slots := by
  subst hp
  intro H locs ls hR hl hv2
  obtain ⟨hcode, hini, hdn, hmL⟩ := hm
  rw [hrt] at hcode
  have hts := hts_b X.1
  have hrm := b_room (R2 := room_1) (d := 2000) (Nat.le_of_ble_eq_true rfl) (Nat.le_of_ble_eq_true rfl) hd hmL ac2 az2
  have hcap : cells + ac2 ≤ room_1.cells ∧ slots + az2 ≤ room_1.slots := ⟨hac, haz⟩
  have hgd : GoodIn bBig (bWs M2) := bGood (by rw [hrt]; exact hcode)
  have hwe : bWs M2 = Jvm.Cond.code M2.1 M2.2.1 M2.2.2.1 none :: bBig := by unfold bWs; rw [hrt]
  have hpre : PreS s H (fun a U => a = ((Value.ref id :: as).map (trV w.1)).toArray ∧ bRep w h U.heap ∧ bKn w U) (.ref (w.1 + id) :: as.map (trV w.1)) :=
    ⟨b_blind, fun U hU hW => ⟨rfl, by rw [hU]; exact hR, X.2.1.moved hW⟩⟩
  have hsz : (F0 m pc ls st).locals.size = 4 := hv2.1
  have hmon := lv_room (m := m) (pc := pc) (ls := ls) (rest := st) hcat
  have hfix : CallFix p m c code 4 s #[Value.ref b] bBig "FeatureDeskLaw" := ⟨X.x, X.cd, X.1.2.2.2.1, X.own, hts⟩
  have fin : va_Run p l e room_1 s m #[Value.ref b] below meth c H locs cells slots ac2 az2 (F0 m pc ls st) rest (fun _ o t => ∃ r h', o = .returned (r.map (trV w.1)) ∧ Q2 r h' ∧ bRep w h' t.heap) (fun q => w.1 ≤ q) → W p l e room_1 s m #[Value.ref b] below meth c H locs cells slots (lw_Z below #[Value.ref b] s) (F0 m pc ls st) := by
    intro hr T hT Y
    obtain ⟨v, st₀, t, T', L2, h0, X', hL2, e1, e2, ⟨r, h', hv, hq, hrep⟩, stp⟩ := hr T hT Y
    have hv' : v = r.map (trV w.1) := Outcome.returned.inj hv
    subst hv'
    have hk := kk r h' hq T'.heap (locs ++ L2) ls (by rw [e1]; exact hrep) (fun q hq => by
      rcases List.mem_append.mp hq with h | h
      · exact hl q h
      · exact hL2 q h) hv2
    obtain ⟨t2, a1, b1⟩ := hk T' rfl X'
    exact ⟨t2, stp t2 a1, b1⟩
  rcases hlk with hlk | ⟨host, hlk⟩
  · have hcw := cwI (R := room_1) (args := #[Value.ref b]) (mc := ac2) (ms := az2) n hts hgd hwe (rm := { frames := d2, cells := ac2, slots := az2, locals := 40 * d2 }) rfl rfl (hts _ hini) (hts _ hlk) (hts _ hv) hy hdn hrm
    exact fin (va_runI hfix (hM l w) hcw hpre rfl (by rw [List.length_map]; exact hn) hsz hst hmon hdg hcap)
  · have hcw := va_cnB (R := room_1) (args := #[Value.ref b]) (mc := ac2) (ms := az2) n hts hgd hwe (rm := { frames := d2, cells := ac2, slots := az2, locals := 40 * d2 }) rfl rfl (X.2.1.2.2.1 _ hlk) (hts _ hini) hdn hrm
    exact fin (va_runIN hfix (hM l w) ⟨hcw, hy, hts _ hv⟩ hpre rfl (by rw [List.length_map]; exact hn) hsz hst hmon hdg hcap)
/-- both are made, and the loop runs -/
theorem lw_go (X : LX w p s m meth c b L xs) {I : Nat → Nat → Int32} {R : Nat → Nat → Option Nat} {Lg : Nat → Nat → Int64} {sh : Nat → Nat × Nat} (hN : ShN sh 0) : LR w p l e s m below meth c b 0 [(0, .ref b)] [] (I, R, Lg, sh, 0) 0 0 := by
  refine lr_new (ci := 10) (pc2 := 3) X dL_0 rfl (by decide) k_L_7 nw_X iw_X (by decide) (by decide) ?_
  refine lr_dup X dL_3 rfl ?_
  have hN1 : ShN (s1 sh 0 (10, 0)) (0 + 1) := (al_z (I := I) (R := R) (L := Lg)).n hN
  have hs1 : s1 sh 0 (10, 0) 0 = (10, 0) := by unfold s1; rw [if_pos rfl]
  refine lr_calli (M2 := mi_X_init) (n := 0) (as := []) (id := 0) (pc2 := 7) X dL_4 rfl k_L_9 cm_X_init ci_X_init rfl rfl rfl (Nat.le_of_ble_eq_true rfl) (c_X_init (d := 1000) hs1 hN1 (by decide)) (by decide) (by show 0 + 1 + 760 ≤ 600000; decide) (by show 0 + 13 + 7776 ≤ 7302250; decide) rfl (fun r h' hq => ?_)
  obtain ⟨rfl, K, R1, L1, S1, rfl, hf, hN2, hX⟩ := hq
  refine lr_astore (i := 1) (pc2 := 8) X dL_7 rfl rfl (by decide) rfl ?_
  refine lr_new (ci := 11) (pc2 := 11) X dL_8 rfl (by decide) k_L_10 nw_M iw_M (by show 0 + 1 + 760 + 1 ≤ 600000; decide) (by show 0 + 13 + 7776 + 31 ≤ 7302250; decide) ?_
  refine lr_dup X dL_11 rfl ?_
  have hal : AL 11 0 761 K R1 L1 S1 (z1 K 761 0) (z1 R1 761 none) (z1 L1 761 0) (s1 S1 761 (11, 0)) := al_z
  have hX2 : XB 0 (z1 K 761 0) (z1 R1 761 none) (s1 S1 761 (11, 0)) := hX.fr (fun a j q => hal.1 a j (by omega)) (fun a j q => hal.2.1 a j (by omega)) (fun a q => hal.2.2.2.1 a (by omega))
  refine lr_calli (M2 := mi_M_init) (n := 0) (as := []) (id := 761) (pc2 := 15) X dL_12 rfl k_L_12 cm_M_init ci_M_init rfl rfl rfl (Nat.le_of_ble_eq_true rfl) (c_M_init (d := 1000) (c := 761) hal.2.2.2.2 (hal.n hN2) (fun j => z1_eq) (by decide)) (by decide) (by show 0 + 1 + 760 + 1 + 19 ≤ 600000; decide) (by show 0 + 13 + 7776 + 31 + 5244 ≤ 7302250; decide) rfl (fun r h' hq => ?_)
  obtain ⟨rfl, K2, R2, L2, S2, rfl, hf2, hN3, hM⟩ := hq
  have hX3 : XB 0 K2 R2 S2 := hX2.fr (fun a j q => hf2.1 a j (by omega)) (fun a j q => hf2.2.1 a j (by omega)) (fun a q => hf2.2.2.2 a (by omega))
  refine lr_astore (i := 2) (pc2 := 16) X dL_15 rfl rfl (by decide) rfl ?_
  refine lr_iconst (v := nI 0) X dL_16 rfl (by decide) ?_
  refine lr_istore (i := 3) (lv' := LV w b (6 * 0)) (pc2 := 18) X dL_17 rfl rfl (by decide) rfl ?_
  exact law_loop X 512 0 _ _ _ (by have := X.2.2.2; omega) (by omega) (st_inv hX3 hM hN3) (by show 0 + 1 + 760 + 1 + 19 ≤ 1000 + 10 * 0; decide) (by show 0 + 13 + 7776 + 31 + 5244 ≤ 100000 + 5450 * 0; decide)
end LAW
theorem whole_start {p : Program} {e : Env} {s : State} {m : MethodId} {below : List Frame} {meth : Method} {c : Code} (l : Launch) (hflags : l.flags = flags0) {b L : Nat} {xs : Nat → Int32} (hL : L ≤ 3072) (C0 : lw_At p s m meth c b L xs) : W p l e room_1 s m #[Value.ref b] below meth c s.heap [] 0 0 (lw_Z below #[Value.ref b] s) (entryFrame m ([Value.ref b] : List Value).toArray 4) := by
  obtain ⟨w, hk, hw⟩ := lx_known C0
  have X : LX w p s m meth c b L xs := ⟨C0, hk, hw, hL⟩
  rw [lg_entry_eq]
  have hl := lv_entry ([Value.ref b] : List Value) (n := 4) (Nat.le_of_ble_eq_true rfl)
  exact lw_go X (I := fun _ _ => 0) (R := fun _ _ => none) (Lg := fun _ _ => 0) (sh := fun _ => (18, 0)) (fun i hi => rfl) s.heap [] _ ⟨by rw [hw]; rfl, fun id => trivial⟩ (fun q hq => absurd hq List.not_mem_nil) hl
