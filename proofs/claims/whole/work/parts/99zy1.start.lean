/-! THE START: what holds behind both constructors -/
theorem DeB.sh {c : Nat} {K : Nat → Nat → Int32} {R : Nat → Nat → Option Nat} {S : Nat → Nat × Nat} (h : DeB c K R S) : ∀ r, r < 239 → S (c + r) = dkS r := by
  intro r hr
  obtain ⟨⟨⟨p1, p2, p3⟩, -⟩, ⟨⟨q1, q2, q3, q4, q5, q6⟩, -⟩, ⟨s0, s4⟩, -, -, h6⟩ := h
  rcases (show r = 0 ∨ r = 1 ∨ r = 2 ∨ r = 3 ∨ r = 4 ∨ r = 5 ∨ r = 6 ∨ r = 7 ∨ r = 8 ∨ r = 9 ∨ r = 10 ∨ 11 ≤ r by omega) with rfl | rfl | rfl | rfl | rfl | rfl | rfl | rfl | rfl | rfl | rfl | z
  · exact s0
  · exact p1
  · exact p2
  · exact p3
  · exact s4
  · exact q1
  · exact q2
  · exact q3
  · exact q4
  · exact q5
  · exact q6
  · have e1 := (h6 ((r - 11) / 19) (by omega)).2.1 ((r - 11) % 19) (by omega)
    rw [show c + (11 + 19 * ((r - 11) / 19)) + (r - 11) % 19 = c + r by omega] at e1
    rw [e1]
    unfold dkS
    rw [if_neg (by omega), if_neg (by omega), if_neg (by omega), if_neg (by omega), if_neg (by omega), if_neg (by omega)]
theorem hi_sh {K : Nat → Nat → Int32} {R : Nat → Nat → Option Nat} {S : Nat → Nat × Nat} (hX : XB 0 K R S) (hM : MB 761 K R S) : ∀ k, k < 63 → S (718 + k) = hiS.getD k (99, 0) := by
  intro k hk
  match k, hk with
  | 0, _ => exact hX.2.2.2.1.1.1
  | 1, _ => exact hX.2.2.2.1.1.2.1
  | 2, _ => exact hX.2.2.2.1.1.2.2.1
  | 3, _ => exact hX.2.2.2.1.1.2.2.2.1
  | 4, _ => exact hX.2.2.2.1.1.2.2.2.2
  | 5, _ => exact hX.2.2.2.2.1.1.1
  | 6, _ => exact hX.2.2.2.2.1.1.2.1
  | 7, _ => exact hX.2.2.2.2.1.1.2.2.1
  | 8, _ => exact hX.2.2.2.2.1.1.2.2.2.1
  | 9, _ => exact hX.2.2.2.2.1.1.2.2.2.2
  | 10, _ => exact hX.2.2.2.2.2.2.2.1.2.1
  | 11, _ => exact hX.2.2.2.2.2.2.2.1.2.2.1
  | 12, _ => exact hX.2.2.2.2.2.2.2.1.2.2.2.1
  | 13, _ => exact hX.2.2.2.2.2.1.1.1
  | 14, _ => exact hX.2.2.2.2.2.1.1.2.1
  | 15, _ => exact hX.2.2.2.2.2.1.1.2.2.1
  | 16, _ => exact hX.2.2.2.2.2.1.1.2.2.2.1
  | 17, _ => exact hX.2.2.2.2.2.1.1.2.2.2.2.1
  | 18, _ => exact hX.2.2.2.2.2.1.1.2.2.2.2.2.1
  | 19, _ => exact hX.2.2.2.2.2.1.1.2.2.2.2.2.2.1
  | 20, _ => exact hX.2.2.2.2.2.1.1.2.2.2.2.2.2.2.1
  | 21, _ => exact hX.2.2.2.2.2.1.1.2.2.2.2.2.2.2.2
  | 22, _ => exact hX.2.2.2.2.2.2.1.1.1
  | 23, _ => exact hX.2.2.2.2.2.2.1.1.2.1
  | 24, _ => exact hX.2.2.2.2.2.2.1.1.2.2.1
  | 25, _ => exact hX.2.2.2.2.2.2.1.1.2.2.2
  | 26, _ => exact hX.2.2.2.2.2.2.2.1.2.2.2.2
  | 27, _ => exact (hX.2.2.2.2.2.2.2.2.2.2 0 (by decide)).2.1.1
  | 28, _ => exact (hX.2.2.2.2.2.2.2.2.2.2 0 (by decide)).2.1.2
  | 29, _ => exact (hX.2.2.2.2.2.2.2.2.2.2 1 (by decide)).2.1.1
  | 30, _ => exact (hX.2.2.2.2.2.2.2.2.2.2 1 (by decide)).2.1.2
  | 31, _ => exact (hX.2.2.2.2.2.2.2.2.2.2 2 (by decide)).2.1.1
  | 32, _ => exact (hX.2.2.2.2.2.2.2.2.2.2 2 (by decide)).2.1.2
  | 33, _ => exact (hX.2.2.2.2.2.2.2.2.2.2 3 (by decide)).2.1.1
  | 34, _ => exact (hX.2.2.2.2.2.2.2.2.2.2 3 (by decide)).2.1.2
  | 35, _ => exact (hX.2.2.2.2.2.2.2.2.2.2 4 (by decide)).2.1.1
  | 36, _ => exact (hX.2.2.2.2.2.2.2.2.2.2 4 (by decide)).2.1.2
  | 37, _ => exact (hX.2.2.2.2.2.2.2.2.2.2 5 (by decide)).2.1.1
  | 38, _ => exact (hX.2.2.2.2.2.2.2.2.2.2 5 (by decide)).2.1.2
  | 39, _ => exact (hX.2.2.2.2.2.2.2.2.2.2 6 (by decide)).2.1.1
  | 40, _ => exact (hX.2.2.2.2.2.2.2.2.2.2 6 (by decide)).2.1.2
  | 41, _ => exact (hX.2.2.2.2.2.2.2.2.2.2 7 (by decide)).2.1.1
  | 42, _ => exact (hX.2.2.2.2.2.2.2.2.2.2 7 (by decide)).2.1.2
  | 43, _ => exact hM.1.1
  | 44, _ => exact hM.1.2.1
  | 45, _ => exact hM.1.2.2.1
  | 46, _ => exact hM.1.2.2.2.1
  | 47, _ => exact hM.1.2.2.2.2.1
  | 48, _ => exact hM.1.2.2.2.2.2.1
  | 49, _ => exact hM.1.2.2.2.2.2.2.1
  | 50, _ => exact hM.1.2.2.2.2.2.2.2.1
  | 51, _ => exact hM.1.2.2.2.2.2.2.2.2.1
  | 52, _ => exact hM.1.2.2.2.2.2.2.2.2.2.1
  | 53, _ => exact hM.1.2.2.2.2.2.2.2.2.2.2.1
  | 54, _ => exact hM.1.2.2.2.2.2.2.2.2.2.2.2.1
  | 55, _ => exact hM.1.2.2.2.2.2.2.2.2.2.2.2.2.1
  | 56, _ => exact hM.1.2.2.2.2.2.2.2.2.2.2.2.2.2.1
  | 57, _ => exact hM.1.2.2.2.2.2.2.2.2.2.2.2.2.2.2.1
  | 58, _ => exact hM.1.2.2.2.2.2.2.2.2.2.2.2.2.2.2.2.1
  | 59, _ => exact hM.1.2.2.2.2.2.2.2.2.2.2.2.2.2.2.2.2.1
  | 60, _ => exact hM.1.2.2.2.2.2.2.2.2.2.2.2.2.2.2.2.2.2.1
  | 61, _ => exact hM.1.2.2.2.2.2.2.2.2.2.2.2.2.2.2.2.2.2.2.1
  | 62, _ => exact hM.1.2.2.2.2.2.2.2.2.2.2.2.2.2.2.2.2.2.2.2
  | n + 63, h => exact absurd h (by omega)
theorem st_sh {K : Nat → Nat → Int32} {R : Nat → Nat → Option Nat} {S : Nat → Nat × Nat} (hX : XB 0 K R S) (hM : MB 761 K R S) : ShOK S := by
  intro i hi
  unfold sh0
  by_cases z0 : i = 0
  · subst z0
    rw [if_pos rfl]; exact hX.2.2.2.2.2.2.2.1.1
  · rw [if_neg z0]
    by_cases z1 : i < 718
    · rw [if_pos z1]
      rcases (show i < 240 ∨ (240 ≤ i ∧ i < 479) ∨ 479 ≤ i by omega) with z | z | z
      · have e := hX.1.sh (i - 1) (by omega)
        rw [show 0 + 1 + (i - 1) = i by omega] at e
        rw [e, show (i - 1) % 239 = i - 1 by omega]
      · have e := hX.2.1.sh (i - 240) (by omega)
        rw [show 0 + 240 + (i - 240) = i by omega] at e
        rw [e, show (i - 1) % 239 = i - 240 by omega]
      · have e := hX.2.2.1.sh (i - 479) (by omega)
        rw [show 0 + 479 + (i - 479) = i by omega] at e
        rw [e, show (i - 1) % 239 = i - 479 by omega]
    · rw [if_neg z1]
      have e := hi_sh hX hM (i - 718) (by omega)
      rw [show 718 + (i - 718) = i by omega] at e
      exact e
theorem st_rl {K : Nat → Nat → Int32} {R : Nat → Nat → Option Nat} {S : Nat → Nat × Nat} (hX : XB 0 K R S) (hM : MB 761 K R S) : ∀ x ∈ rfL, R x.1 x.2.1 = some x.2.2 := List.forall_mem_cons.mpr ⟨(hX.2.2.2.2.2.2.2.2.1.1 : R 0 0 = some 1), List.forall_mem_cons.mpr ⟨(hX.2.2.2.2.2.2.2.2.1.2.1 : R 0 1 = some 240), List.forall_mem_cons.mpr ⟨(hX.2.2.2.2.2.2.2.2.1.2.2.1 : R 0 2 = some 479), List.forall_mem_cons.mpr ⟨(hX.2.2.2.2.2.2.2.2.1.2.2.2.1 : R 0 4 = some 718), List.forall_mem_cons.mpr ⟨(hX.2.2.2.2.2.2.2.2.1.2.2.2.2.1 : R 0 5 = some 723), List.forall_mem_cons.mpr ⟨(hX.2.2.2.2.2.2.2.2.1.2.2.2.2.2.1 : R 0 6 = some 728), List.forall_mem_cons.mpr ⟨(hX.2.2.2.2.2.2.2.2.1.2.2.2.2.2.2.1 : R 0 7 = some 729), List.forall_mem_cons.mpr ⟨(hX.2.2.2.2.2.2.2.2.1.2.2.2.2.2.2.2.1 : R 0 8 = some 730), List.forall_mem_cons.mpr ⟨(hX.2.2.2.2.2.2.2.2.1.2.2.2.2.2.2.2.2.1 : R 0 10 = some 731), List.forall_mem_cons.mpr ⟨(hX.2.2.2.2.2.2.2.2.1.2.2.2.2.2.2.2.2.2.1 : R 0 11 = some 740), List.forall_mem_cons.mpr ⟨(hX.2.2.2.2.2.2.2.2.1.2.2.2.2.2.2.2.2.2.2 : R 0 12 = some 744), List.forall_mem_cons.mpr ⟨(hX.1.2.2.2.1.1 : R 1 0 = some 2), List.forall_mem_cons.mpr ⟨(hX.1.2.2.2.1.2.1 : R 1 1 = some 5), List.forall_mem_cons.mpr ⟨(hX.1.2.2.2.1.2.2 : R 1 3 = some 6), List.forall_mem_cons.mpr ⟨(hX.1.1.2.1.1 : R 2 0 = some 3), List.forall_mem_cons.mpr ⟨(hX.1.1.2.1.2 : R 2 1 = some 4), List.forall_mem_cons.mpr ⟨(hX.1.2.1.2.1.1 : R 6 0 = some 7), List.forall_mem_cons.mpr ⟨(hX.1.2.1.2.1.2.1 : R 6 1 = some 8), List.forall_mem_cons.mpr ⟨(hX.1.2.1.2.1.2.2.1 : R 6 2 = some 9), List.forall_mem_cons.mpr ⟨(hX.1.2.1.2.1.2.2.2.1 : R 6 3 = some 10), List.forall_mem_cons.mpr ⟨(hX.1.2.1.2.1.2.2.2.2 : R 6 4 = some 11), List.forall_mem_cons.mpr ⟨(hX.2.1.2.2.2.1.1 : R 240 0 = some 241), List.forall_mem_cons.mpr ⟨(hX.2.1.2.2.2.1.2.1 : R 240 1 = some 244), List.forall_mem_cons.mpr ⟨(hX.2.1.2.2.2.1.2.2 : R 240 3 = some 245), List.forall_mem_cons.mpr ⟨(hX.2.1.1.2.1.1 : R 241 0 = some 242), List.forall_mem_cons.mpr ⟨(hX.2.1.1.2.1.2 : R 241 1 = some 243), List.forall_mem_cons.mpr ⟨(hX.2.1.2.1.2.1.1 : R 245 0 = some 246), List.forall_mem_cons.mpr ⟨(hX.2.1.2.1.2.1.2.1 : R 245 1 = some 247), List.forall_mem_cons.mpr ⟨(hX.2.1.2.1.2.1.2.2.1 : R 245 2 = some 248), List.forall_mem_cons.mpr ⟨(hX.2.1.2.1.2.1.2.2.2.1 : R 245 3 = some 249), List.forall_mem_cons.mpr ⟨(hX.2.1.2.1.2.1.2.2.2.2 : R 245 4 = some 250), List.forall_mem_cons.mpr ⟨(hX.2.2.1.2.2.2.1.1 : R 479 0 = some 480), List.forall_mem_cons.mpr ⟨(hX.2.2.1.2.2.2.1.2.1 : R 479 1 = some 483), List.forall_mem_cons.mpr ⟨(hX.2.2.1.2.2.2.1.2.2 : R 479 3 = some 484), List.forall_mem_cons.mpr ⟨(hX.2.2.1.1.2.1.1 : R 480 0 = some 481), List.forall_mem_cons.mpr ⟨(hX.2.2.1.1.2.1.2 : R 480 1 = some 482), List.forall_mem_cons.mpr ⟨(hX.2.2.1.2.1.2.1.1 : R 484 0 = some 485), List.forall_mem_cons.mpr ⟨(hX.2.2.1.2.1.2.1.2.1 : R 484 1 = some 486), List.forall_mem_cons.mpr ⟨(hX.2.2.1.2.1.2.1.2.2.1 : R 484 2 = some 487), List.forall_mem_cons.mpr ⟨(hX.2.2.1.2.1.2.1.2.2.2.1 : R 484 3 = some 488), List.forall_mem_cons.mpr ⟨(hX.2.2.1.2.1.2.1.2.2.2.2 : R 484 4 = some 489), List.forall_mem_cons.mpr ⟨(hX.2.2.2.1.2.1.1 : R 718 0 = some 719), List.forall_mem_cons.mpr ⟨(hX.2.2.2.1.2.1.2.1 : R 718 1 = some 720), List.forall_mem_cons.mpr ⟨(hX.2.2.2.1.2.1.2.2.1 : R 718 2 = some 721), List.forall_mem_cons.mpr ⟨(hX.2.2.2.1.2.1.2.2.2 : R 718 3 = some 722), List.forall_mem_cons.mpr ⟨(hX.2.2.2.2.1.2.1.1 : R 723 0 = some 724), List.forall_mem_cons.mpr ⟨(hX.2.2.2.2.1.2.1.2.1 : R 723 1 = some 725), List.forall_mem_cons.mpr ⟨(hX.2.2.2.2.1.2.1.2.2.1 : R 723 2 = some 726), List.forall_mem_cons.mpr ⟨(hX.2.2.2.2.1.2.1.2.2.2 : R 723 3 = some 727), List.forall_mem_cons.mpr ⟨((hX.2.2.2.2.2.2.2.2.2.2 0 (by decide)).1 : R 729 0 = some 745), List.forall_mem_cons.mpr ⟨((hX.2.2.2.2.2.2.2.2.2.2 1 (by decide)).1 : R 729 1 = some 747), List.forall_mem_cons.mpr ⟨((hX.2.2.2.2.2.2.2.2.2.2 2 (by decide)).1 : R 729 2 = some 749), List.forall_mem_cons.mpr ⟨((hX.2.2.2.2.2.2.2.2.2.2 3 (by decide)).1 : R 729 3 = some 751), List.forall_mem_cons.mpr ⟨((hX.2.2.2.2.2.2.2.2.2.2 4 (by decide)).1 : R 729 4 = some 753), List.forall_mem_cons.mpr ⟨((hX.2.2.2.2.2.2.2.2.2.2 5 (by decide)).1 : R 729 5 = some 755), List.forall_mem_cons.mpr ⟨((hX.2.2.2.2.2.2.2.2.2.2 6 (by decide)).1 : R 729 6 = some 757), List.forall_mem_cons.mpr ⟨((hX.2.2.2.2.2.2.2.2.2.2 7 (by decide)).1 : R 729 7 = some 759), List.forall_mem_cons.mpr ⟨(hX.2.2.2.2.2.1.2.1.1 : R 731 4 = some 733), List.forall_mem_cons.mpr ⟨(hX.2.2.2.2.2.1.2.1.2.1 : R 731 5 = some 734), List.forall_mem_cons.mpr ⟨(hX.2.2.2.2.2.1.2.1.2.2.1 : R 731 6 = some 735), List.forall_mem_cons.mpr ⟨(hX.2.2.2.2.2.1.2.1.2.2.2.1 : R 731 7 = some 736), List.forall_mem_cons.mpr ⟨(hX.2.2.2.2.2.1.2.1.2.2.2.2.1 : R 731 8 = some 737), List.forall_mem_cons.mpr ⟨(hX.2.2.2.2.2.1.2.1.2.2.2.2.2.1 : R 731 10 = some 738), List.forall_mem_cons.mpr ⟨(hX.2.2.2.2.2.1.2.1.2.2.2.2.2.2 : R 731 12 = some 739), List.forall_mem_cons.mpr ⟨(hX.2.2.2.2.2.2.1.2.1.1 : R 740 0 = some 741), List.forall_mem_cons.mpr ⟨(hX.2.2.2.2.2.2.1.2.1.2.1 : R 740 1 = some 742), List.forall_mem_cons.mpr ⟨(hX.2.2.2.2.2.2.1.2.1.2.2 : R 740 2 = some 743), List.forall_mem_cons.mpr ⟨((hX.2.2.2.2.2.2.2.2.2.2 0 (by decide)).2.2.1.1 : R 745 2 = some 746), List.forall_mem_cons.mpr ⟨((hX.2.2.2.2.2.2.2.2.2.2 1 (by decide)).2.2.1.1 : R 747 2 = some 748), List.forall_mem_cons.mpr ⟨((hX.2.2.2.2.2.2.2.2.2.2 2 (by decide)).2.2.1.1 : R 749 2 = some 750), List.forall_mem_cons.mpr ⟨((hX.2.2.2.2.2.2.2.2.2.2 3 (by decide)).2.2.1.1 : R 751 2 = some 752), List.forall_mem_cons.mpr ⟨((hX.2.2.2.2.2.2.2.2.2.2 4 (by decide)).2.2.1.1 : R 753 2 = some 754), List.forall_mem_cons.mpr ⟨((hX.2.2.2.2.2.2.2.2.2.2 5 (by decide)).2.2.1.1 : R 755 2 = some 756), List.forall_mem_cons.mpr ⟨((hX.2.2.2.2.2.2.2.2.2.2 6 (by decide)).2.2.1.1 : R 757 2 = some 758), List.forall_mem_cons.mpr ⟨((hX.2.2.2.2.2.2.2.2.2.2 7 (by decide)).2.2.1.1 : R 759 2 = some 760), List.forall_mem_cons.mpr ⟨(hM.2.1.1 : R 761 0 = some 762), List.forall_mem_cons.mpr ⟨(hM.2.1.2.1 : R 761 1 = some 763), List.forall_mem_cons.mpr ⟨(hM.2.1.2.2.1 : R 761 2 = some 764), List.forall_mem_cons.mpr ⟨(hM.2.1.2.2.2.1 : R 761 4 = some 765), List.forall_mem_cons.mpr ⟨(hM.2.1.2.2.2.2.2.2.2.2.1 : R 761 10 = some 770), List.forall_mem_cons.mpr ⟨(hM.2.1.2.2.2.2.2.2.2.2.2.1 : R 761 14 = some 771), List.forall_mem_cons.mpr ⟨(hM.2.1.2.2.2.2.2.2.2.2.2.2.1 : R 761 17 = some 772), List.forall_mem_cons.mpr ⟨(hM.2.1.2.2.2.2.2.2.2.2.2.2.2.1 : R 761 18 = some 773), List.forall_mem_cons.mpr ⟨(hM.2.1.2.2.2.2.2.2.2.2.2.2.2.2.1 : R 761 19 = some 774), List.forall_mem_cons.mpr ⟨(hM.2.1.2.2.2.2.2.2.2.2.2.2.2.2.2.1 : R 761 21 = some 775), List.forall_mem_cons.mpr ⟨(hM.2.1.2.2.2.2.2.2.2.2.2.2.2.2.2.2.1 : R 761 23 = some 776), List.forall_mem_cons.mpr ⟨(hM.2.1.2.2.2.2.2.2.2.2.2.2.2.2.2.2.2.1 : R 761 27 = some 777), List.forall_mem_cons.mpr ⟨(hM.2.1.2.2.2.2.2.2.2.2.2.2.2.2.2.2.2.2.1 : R 761 28 = some 778), List.forall_mem_cons.mpr ⟨(hM.2.1.2.2.2.2.2.2.2.2.2.2.2.2.2.2.2.2.2.1 : R 761 29 = some 779), List.forall_mem_cons.mpr ⟨(hM.2.1.2.2.2.2.2.2.2.2.2.2.2.2.2.2.2.2.2.2 : R 761 30 = some 780), fun _ h => absurd h List.not_mem_nil⟩⟩⟩⟩⟩⟩⟩⟩⟩⟩⟩⟩⟩⟩⟩⟩⟩⟩⟩⟩⟩⟩⟩⟩⟩⟩⟩⟩⟩⟩⟩⟩⟩⟩⟩⟩⟩⟩⟩⟩⟩⟩⟩⟩⟩⟩⟩⟩⟩⟩⟩⟩⟩⟩⟩⟩⟩⟩⟩⟩⟩⟩⟩⟩⟩⟩⟩⟩⟩⟩⟩⟩⟩⟩⟩⟩⟩⟩⟩⟩⟩⟩⟩⟩⟩⟩⟩⟩⟩⟩
theorem st_de {K : Nat → Nat → Int32} {R : Nat → Nat → Option Nat} {S : Nat → Nat × Nat} (hX : XB 0 K R S) (hM : MB 761 K R S) : ∀ d, d < 3 → DeB (dk d) K R S := by
  intro d hd
  rcases (show d = 0 ∨ d = 1 ∨ d = 2 by omega) with rfl | rfl | rfl
  · exact hX.1
  · exact hX.2.1
  · exact hX.2.2.1
theorem st_fe {K : Nat → Nat → Int32} {R : Nat → Nat → Option Nat} {S : Nat → Nat × Nat} (hX : XB 0 K R S) (hM : MB 761 K R S) {d F : Nat} (hd : d < 3) (hF : F < 12) : R (dk d + 4) F = some (fe d F) ∧ FeB (fe d F) K R S := by
  have h := (st_de hX hM d hd).2.2.2.2.2 F hF
  rw [show dk d + (11 + 19 * F) = fe d F by unfold dk fe; omega] at h
  exact h
theorem st_rf {K : Nat → Nat → Int32} {R : Nat → Nat → Option Nat} {S : Nat → Nat × Nat} (hX : XB 0 K R S) (hM : MB 761 K R S) : RfOK R := by
  refine ⟨st_rl hX hM, fun d hd F hF => (st_fe hX hM hd hF).1, fun d hd F hF => (st_fe hX hM hd hF).2.2.1.1, fun d hd F hF r hr => ?_⟩
  obtain ⟨b1, b2⟩ := (st_fe hX hM hd hF).2.2.1.2 r hr
  exact ⟨b1, b2.trans (congrArg some (by unfold ru; omega))⟩
/-- what holds before the first call -/
theorem st_inv {K : Nat → Nat → Int32} {R : Nat → Nat → Option Nat} {S : Nat → Nat × Nat} (hX : XB 0 K R S) (hM : MB 761 K R S) {L : Nat → Nat → Int64} (hN : ShN S 781) : INV 0 (K, R, L, S, 781) := by
  have hS := st_sh hX hM
  have hR := st_rf hX hM
  obtain ⟨m3, m9, m11⟩ := hM.2.2.1
  obtain ⟨g5, g0⟩ := hM.2.2.2.1
  have hr := hM.2.2.2.2.1
  have h7 := hM.2.2.2.2.2.1
  have h8 := hM.2.2.2.2.2.2.1
  have x := hX.2.2.2.2.2.2.2.2.2.1
  have g0 : ∀ j, j ≠ 5 → K 762 j = nI 0 := g0
  have g5 : K 762 5 = nI 1 := g5
  have z0 : (nI 0).toInt = 0 := rfl
  have D := st_de hX hM 0 (by decide)
  have no : ∀ (P : Nat → Prop) j, j < 0 → P j := fun P j h => absurd h (Nat.not_lt_zero j)
  have hW : WG (K 762) 0 0 0 0 := by
    refine ⟨⟨g0 0 (by decide), by decide, g0 1 (by decide), by decide, fun F hF => absurd hF (Nat.not_lt_zero _), fun p hp => absurd hp (Nat.not_lt_zero _)⟩, ⟨g0 2 (by decide), by decide, fun i hi => absurd hi (Nat.not_lt_zero _)⟩, ⟨fun p q hp => absurd hp (Nat.not_lt_zero _), fun E hE => absurd hE (Nat.not_lt_zero _), fun E hE => absurd hE (Nat.not_lt_zero _), by rw [g0 3 (by decide), z0]; omega⟩, fun _ => 0, fun F hF => absurd hF (Nat.not_lt_zero _)⟩
  have hD : DR (K 766) (K 767) (K 768) (K 769) K R S 0 0 (K 762) 0 0 0 := by
    refine ⟨⟨D.1.2.2, D.2.2.2.2.1.1, D.2.2.2.2.1.2.1.trans (g0 3 (by decide)).symm, D.2.2.2.2.1.2.2.1.trans g5.symm, D.2.2.2.2.1.2.2.2.trans (g0 4 (by decide)).symm, D.2.1.2.2⟩, fun p hp => absurd hp (Nat.not_lt_zero _), fun i hi => absurd hi (Nat.not_lt_zero _), fun E hE => absurd hE (Nat.not_lt_zero _), fun E _ hE => ?_⟩
    have f := (st_fe hX hM (d := 0) (by decide) hE).2
    exact ⟨f.2.2.1, f.2.2.2.1, f.2.2.2.2⟩
  refine ⟨K, R, L, S, 781, 0, 0, 256, 0, 0, 0, 766, 767, 768, 769, rfl, ⟨⟨hS, hR, hN, Nat.le_refl _⟩, ⟨⟨⟨hM.2.1.2.2.2.2.1, hM.2.1.2.2.2.2.2.1, hM.2.1.2.2.2.2.2.2.1, hM.2.1.2.2.2.2.2.2.2.1, hM.1.2.2.2.2.2.1, hM.1.2.2.2.2.2.2.1, hM.1.2.2.2.2.2.2.2.1, hM.1.2.2.2.2.2.2.2.2.1⟩, ⟨Or.inl rfl, Or.inl rfl, Or.inl rfl, Or.inl rfl⟩⟩, ⟨by decide, by decide, by decide, by decide, by decide, by decide⟩, ⟨fun j hj => absurd hj (Nat.not_lt_zero _), fun j hj => absurd hj (Nat.not_lt_zero _)⟩, ⟨by decide, by decide, by decide⟩, m9⟩, ⟨⟨by decide, m11, x.2.1, fun j hj => absurd hj (Nat.not_lt_zero _)⟩, by decide⟩, ⟨hW, hD, by rw [g0 3 (by decide), z0]; omega⟩, ⟨x.1.trans m3.symm, fun q => absurd (show (K 0 3).toInt = 0 by rw [show K 0 3 = nI 0 from x.1]; exact z0) q⟩, ⟨fun s hs => ?_, fun s hs => ?_⟩, fun c hc => ?_⟩, fun j _ => (x.2.2 j).trans (hr j).symm⟩
  · obtain ⟨b1, b2⟩ := hX.2.2.2.2.2.2.2.2.2.2 s hs
    rw [show 0 + (745 + 2 * s) = 745 + 2 * s by omega] at b2
    refine Or.inl ⟨?_, b2.2.2, b2.2.1.2⟩
    rw [show K 777 s = -1 from h7 s hs]; decide
  · refine ⟨Or.inl ?_, 0, h8 s, by decide⟩
    rw [show K 777 s = -1 from h7 s hs]; decide
  · have q := co781 hS hc
    have := hN c q
    rw [hc] at this; dsimp only at this; omega
