/-! MAKING CELLS: newarray, copyOf -/
/-! making cells -/
/-- no cell stands from N on -/
def ShN (sh : Nat → Nat × Nat) (N : Nat) : Prop := ∀ i, N ≤ i → (sh i).1 = 18
theorem ShN.lt {sh : Nat → Nat × Nat} {N i k n : Nat} (h : ShN sh N) (e : sh i = (k, n)) (hk : k < 18) : i < N := by
  rcases Nat.lt_or_ge i N with q | q
  · exact q
  · have := h i q; rw [e] at this; dsimp only at this; omega
/-- one cell more, of which nothing is told but its shape -/
def AL (kd m N : Nat) (I : Nat → Nat → Int32) (R : Nat → Nat → Option Nat) (L : Nat → Nat → Int64) (sh : Nat → Nat × Nat) (K : Nat → Nat → Int32) (R1 : Nat → Nat → Option Nat) (L1 : Nat → Nat → Int64) (sh1 : Nat → Nat × Nat) : Prop :=
  (∀ a j, a ≠ N → K a j = I a j) ∧ (∀ a j, a ≠ N → R1 a j = R a j) ∧ (∀ a j, a ≠ N → L1 a j = L a j) ∧ (∀ a, a ≠ N → sh1 a = sh a) ∧ sh1 N = (kd, m)
theorem AL.sh {kd m N : Nat} {I K : Nat → Nat → Int32} {R R1 : Nat → Nat → Option Nat} {L L1 : Nat → Nat → Int64} {sh sh1 : Nat → Nat × Nat} (h : AL kd m N I R L sh K R1 L1 sh1) (hN : 781 ≤ N) (hS : ShOK sh) : ShOK sh1 := fun i hi => (h.2.2.2.1 i (by omega)).trans (hS i hi)
theorem AL.n {kd m N : Nat} {I K : Nat → Nat → Int32} {R R1 : Nat → Nat → Option Nat} {L L1 : Nat → Nat → Int64} {sh sh1 : Nat → Nat × Nat} (h : AL kd m N I R L sh K R1 L1 sh1) (hN : ShN sh N) : ShN sh1 (N + 1) := fun i hi => by rw [h.2.2.2.1 i (by omega)]; exact hN i (by omega)
theorem al_z {kd m N : Nat} {I : Nat → Nat → Int32} {R : Nat → Nat → Option Nat} {L : Nat → Nat → Int64} {sh : Nat → Nat × Nat} : AL kd m N I R L sh (z1 I N 0) (z1 R N none) (z1 L N 0) (s1 sh N (kd, m)) := by
  refine ⟨fun a j h => ?_, fun a j h => ?_, fun a j h => ?_, fun a h => ?_, ?_⟩
  · unfold z1; rw [if_neg h]
  · unfold z1; rw [if_neg h]
  · unfold z1; rw [if_neg h]
  · unfold s1; rw [if_neg h]
  · unfold s1; rw [if_pos rfl]
/-- what a fresh cell holds -/
def ZR (N : Nat) (K : Nat → Nat → Int32) (R1 : Nat → Nat → Option Nat) : Prop := (∀ j, K N j = 0) ∧ ∀ j, R1 N j = none
theorem zr_z {N : Nat} {I : Nat → Nat → Int32} {R : Nat → Nat → Option Nat} : ZR N (z1 I N 0) (z1 R N none) := ⟨fun j => by unfold z1; rw [if_pos rfl], fun j => by unfold z1; rw [if_pos rfl]⟩
theorem c_JA_copyOf {d : Nat} {I : Nat → Nat → Int32} {R : Nat → Nat → Option Nat} {L : Nat → Nat → Int64} {sh : Nat → Nat × Nat} {N : Nat} {A n0 m : Nat} (hA : sh A = (12, n0)) (hne : A ≠ N) (hm : m < n0) (hn : n0 ≤ 100000) (hd : 2 ≤ d) : Mt mi_JA_copyOf d 1 m [.ref A, .int (nI m)] (I, R, L, sh, N) (fun x h2 => x = some (.ref N) ∧ ∃ K R1 L1 sh1, h2 = (K, R1, L1, sh1, N + 1) ∧ AL 12 m N I R L sh K R1 L1 sh1 ∧ ∀ j, j < m → K N j = I A j) := by
  refine Mt.ofF (by decide +kernel) (Nat.le_of_ble_eq_true rfl) ?_
  show Run mi_JA_copyOf d 1 m 0 [(0, .ref A), (1, .int (nI m))] [] (I, R, L, sh, N) _
  refine r_iload_n (pc2 := 1) d_JA_copyOf_0 rfl rfl ?_
  refine r_aload_n (x := some A) (pc2 := 2) d_JA_copyOf_1 rfl rfl ?_
  refine r_alen (pc2 := 3) d_JA_copyOf_2 rfl hA (by decide) (by decide) ?_
  refine q_icmp_ne (tgt := 14) (A := ((m : Nat) : Int)) (B := ((n0 : Nat) : Int)) (pc2 := 6) d_JA_copyOf_3 rfl rfl (nI_toInt (by omega)) (nI_toInt (by omega)) (fun c1 => ?_) (fun c1 => ?_)
  · refine r_iload_n (pc2 := 15) d_JA_copyOf_14 rfl rfl ?_
    refine r_newarray (at_ := .int) (len := m) (pc2 := 17) (ac1 := 0) (az1 := 0) d_JA_copyOf_15 rfl (by decide) aw_int (nI_toInt (by omega)) (by omega) (by omega) (by omega) ?_
    obtain ⟨Kb, Rb, Lb, Sb, halb, hzrb, e1_, e2_, e3_, e4_⟩ : ∃ K R1 L1 S1, AL 12 (m) (N) I R L sh K R1 L1 S1 ∧ ZR (N) K R1 ∧ K = z1 I (N) 0 ∧ R1 = z1 R (N) none ∧ L1 = z1 L (N) 0 ∧ S1 = s1 sh (N) (12, m) := ⟨_, _, _, _, al_z, zr_z, rfl, rfl, rfl, rfl⟩
    show Run _ _ _ _ _ _ _ (z1 I (N) 0, z1 R (N) none, z1 L (N) 0, s1 sh (N) (12, m), N + 1) _
    rw [← e1_, ← e2_, ← e3_, ← e4_]
    clear e1_ e2_ e3_ e4_
    refine r_astore_n (x := some N) (pc2 := 18) d_JA_copyOf_17 rfl rfl (Nat.le_of_ble_eq_true rfl) ?_
    have hA2 : Sb A = (12, n0) := (halb.2.2.2.1 A hne).trans hA
    refine r_aload_n (x := some A) (pc2 := 19) d_JA_copyOf_18 rfl rfl ?_
    refine r_iconst (v := nI 0) (pc2 := 20) d_JA_copyOf_19 rfl (by decide) ?_
    refine r_aload_n (x := some N) (pc2 := 21) d_JA_copyOf_20 rfl rfl ?_
    refine r_iconst (v := nI 0) (pc2 := 22) d_JA_copyOf_21 rfl (by decide) ?_
    refine r_aload_n (x := some A) (pc2 := 23) d_JA_copyOf_22 rfl rfl ?_
    refine r_alen (pc2 := 24) d_JA_copyOf_23 rfl hA2 (by decide) (by decide) ?_
    refine r_iload_n (pc2 := 25) d_JA_copyOf_24 rfl rfl ?_
    refine q_calls (M2 := mi_JM_min) (pc2 := 28) d_JA_copyOf_25 rfl k_JA_304 cm_JM_min cs_JM_min rfl rfl (Nat.le_of_ble_eq_true rfl) (c_JM_min (A := n0) (B := m) (by omega) (by omega)) (d2 := d - 1) (by omega) (Nat.le_of_eq (Nat.zero_add _)) (Nat.le_of_eq (Nat.zero_add _)) ?_
    refine q_top (y := nI m) (by rw [show min (n0) (m) = m by omega]) ?_
    refine r_copyI (SP := 0) (DP := 0) (K := m) (pc2 := 31) d_JA_copyOf_28 rfl k_JA_150 ac_native ac_static iw_JS hA2 halb.2.2.2.2 (nI_toInt (by omega)) (nI_toInt (by omega)) (nI_toInt (by omega)) (by omega) (by omega) (by omega) (Nat.le_of_ble_eq_true rfl) ?_
    obtain ⟨K2, hK2⟩ : ∃ x, x = cpyI Kb A 0 N 0 m := ⟨_, rfl⟩
    rw [← hK2]
    refine r_aload_n (x := some N) (pc2 := 32) d_JA_copyOf_31 rfl rfl ?_
    refine Run.ret (some (rv (some N))) d_JA_copyOf_32 ⟨_, rfl⟩ ?_
    exact ⟨rfl, _, _, _, _, rfl, ⟨fun a j q => (cpy_o hK2 q).trans (halb.1 a j q), halb.2.1, halb.2.2.1, halb.2.2.2.1, halb.2.2.2.2⟩, fun j hj => (cpy_i hK2 hj).trans (halb.1 A j hne)⟩
  · exfalso; omega
