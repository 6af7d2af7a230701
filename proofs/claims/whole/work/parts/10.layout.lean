/-! THE LAYOUT: the cells that the two constructors make, by number -/
def dk (d : Nat) : Nat := 1 + 239 * d
def fe (d F : Nat) : Nat := 12 + 239 * d + 19 * F
def feS (j : Nat) : Nat × Nat := if j = 0 then (3, 0) else if j = 1 then (16, 6) else if j < 4 then (12, 3) else if j < 6 then (12, 24) else if j = 6 then (12, 4) else if j % 2 = 1 then (6, 0) else (12, 3)
def dkS (j : Nat) : Nat × Nat := if j = 0 then (2, 0) else if j = 1 then (4, 0) else if j < 4 then (12, 24) else if j = 4 then (15, 12) else if j = 5 then (9, 0) else if j < 11 then (12, 24) else feS ((j - 11) % 19)
def hiS : List (Nat × Nat) := [(0, 0), (12, 12), (12, 12), (12, 12), (12, 12), (0, 0), (12, 12), (12, 12), (12, 12), (12, 12), (12, 24), (17, 8), (12, 250), (5, 0), (12, 0), (12, 3), (12, 250), (12, 250), (12, 250), (12, 250), (12, 250), (12, 250), (8, 0), (12, 250), (12, 250), (12, 270), (12, 5), (7, 0), (13, 40), (7, 0), (13, 40), (7, 0), (13, 40), (7, 0), (13, 40), (7, 0), (13, 40), (7, 0), (13, 40), (7, 0), (13, 40), (7, 0), (13, 40), (11, 0), (12, 1182), (12, 1182), (12, 1182), (12, 5), (12, 256), (12, 256), (12, 256), (12, 256), (12, 250), (12, 3), (12, 12), (12, 12), (12, 12), (12, 12), (12, 24), (12, 8), (12, 8), (13, 320), (12, 8)]
def sh0 (i : Nat) : Nat × Nat := if i = 0 then (10, 0) else if i < 718 then dkS ((i - 1) % 239) else hiS.getD (i - 718) (99, 0)
def ShOK (sh : Nat → Nat × Nat) : Prop := ∀ i, i < 781 → sh i = sh0 i
theorem sh_0 {sh : Nat → Nat × Nat} (h : ShOK sh) : sh 0 = (10, 0) := h 0 (Nat.le_of_ble_eq_true rfl)
theorem sh_1 {sh : Nat → Nat × Nat} (h : ShOK sh) : sh 1 = (2, 0) := h 1 (Nat.le_of_ble_eq_true rfl)
theorem sh_2 {sh : Nat → Nat × Nat} (h : ShOK sh) : sh 2 = (4, 0) := h 2 (Nat.le_of_ble_eq_true rfl)
theorem sh_3 {sh : Nat → Nat × Nat} (h : ShOK sh) : sh 3 = (12, 24) := h 3 (Nat.le_of_ble_eq_true rfl)
theorem sh_4 {sh : Nat → Nat × Nat} (h : ShOK sh) : sh 4 = (12, 24) := h 4 (Nat.le_of_ble_eq_true rfl)
theorem sh_5 {sh : Nat → Nat × Nat} (h : ShOK sh) : sh 5 = (15, 12) := h 5 (Nat.le_of_ble_eq_true rfl)
theorem sh_6 {sh : Nat → Nat × Nat} (h : ShOK sh) : sh 6 = (9, 0) := h 6 (Nat.le_of_ble_eq_true rfl)
theorem sh_7 {sh : Nat → Nat × Nat} (h : ShOK sh) : sh 7 = (12, 24) := h 7 (Nat.le_of_ble_eq_true rfl)
theorem sh_8 {sh : Nat → Nat × Nat} (h : ShOK sh) : sh 8 = (12, 24) := h 8 (Nat.le_of_ble_eq_true rfl)
theorem sh_9 {sh : Nat → Nat × Nat} (h : ShOK sh) : sh 9 = (12, 24) := h 9 (Nat.le_of_ble_eq_true rfl)
theorem sh_10 {sh : Nat → Nat × Nat} (h : ShOK sh) : sh 10 = (12, 24) := h 10 (Nat.le_of_ble_eq_true rfl)
theorem sh_11 {sh : Nat → Nat × Nat} (h : ShOK sh) : sh 11 = (12, 24) := h 11 (Nat.le_of_ble_eq_true rfl)
theorem sh_240 {sh : Nat → Nat × Nat} (h : ShOK sh) : sh 240 = (2, 0) := h 240 (Nat.le_of_ble_eq_true rfl)
theorem sh_241 {sh : Nat → Nat × Nat} (h : ShOK sh) : sh 241 = (4, 0) := h 241 (Nat.le_of_ble_eq_true rfl)
theorem sh_242 {sh : Nat → Nat × Nat} (h : ShOK sh) : sh 242 = (12, 24) := h 242 (Nat.le_of_ble_eq_true rfl)
theorem sh_243 {sh : Nat → Nat × Nat} (h : ShOK sh) : sh 243 = (12, 24) := h 243 (Nat.le_of_ble_eq_true rfl)
theorem sh_244 {sh : Nat → Nat × Nat} (h : ShOK sh) : sh 244 = (15, 12) := h 244 (Nat.le_of_ble_eq_true rfl)
theorem sh_245 {sh : Nat → Nat × Nat} (h : ShOK sh) : sh 245 = (9, 0) := h 245 (Nat.le_of_ble_eq_true rfl)
theorem sh_246 {sh : Nat → Nat × Nat} (h : ShOK sh) : sh 246 = (12, 24) := h 246 (Nat.le_of_ble_eq_true rfl)
theorem sh_247 {sh : Nat → Nat × Nat} (h : ShOK sh) : sh 247 = (12, 24) := h 247 (Nat.le_of_ble_eq_true rfl)
theorem sh_248 {sh : Nat → Nat × Nat} (h : ShOK sh) : sh 248 = (12, 24) := h 248 (Nat.le_of_ble_eq_true rfl)
theorem sh_249 {sh : Nat → Nat × Nat} (h : ShOK sh) : sh 249 = (12, 24) := h 249 (Nat.le_of_ble_eq_true rfl)
theorem sh_250 {sh : Nat → Nat × Nat} (h : ShOK sh) : sh 250 = (12, 24) := h 250 (Nat.le_of_ble_eq_true rfl)
theorem sh_479 {sh : Nat → Nat × Nat} (h : ShOK sh) : sh 479 = (2, 0) := h 479 (Nat.le_of_ble_eq_true rfl)
theorem sh_480 {sh : Nat → Nat × Nat} (h : ShOK sh) : sh 480 = (4, 0) := h 480 (Nat.le_of_ble_eq_true rfl)
theorem sh_481 {sh : Nat → Nat × Nat} (h : ShOK sh) : sh 481 = (12, 24) := h 481 (Nat.le_of_ble_eq_true rfl)
theorem sh_482 {sh : Nat → Nat × Nat} (h : ShOK sh) : sh 482 = (12, 24) := h 482 (Nat.le_of_ble_eq_true rfl)
theorem sh_483 {sh : Nat → Nat × Nat} (h : ShOK sh) : sh 483 = (15, 12) := h 483 (Nat.le_of_ble_eq_true rfl)
theorem sh_484 {sh : Nat → Nat × Nat} (h : ShOK sh) : sh 484 = (9, 0) := h 484 (Nat.le_of_ble_eq_true rfl)
theorem sh_485 {sh : Nat → Nat × Nat} (h : ShOK sh) : sh 485 = (12, 24) := h 485 (Nat.le_of_ble_eq_true rfl)
theorem sh_486 {sh : Nat → Nat × Nat} (h : ShOK sh) : sh 486 = (12, 24) := h 486 (Nat.le_of_ble_eq_true rfl)
theorem sh_487 {sh : Nat → Nat × Nat} (h : ShOK sh) : sh 487 = (12, 24) := h 487 (Nat.le_of_ble_eq_true rfl)
theorem sh_488 {sh : Nat → Nat × Nat} (h : ShOK sh) : sh 488 = (12, 24) := h 488 (Nat.le_of_ble_eq_true rfl)
theorem sh_489 {sh : Nat → Nat × Nat} (h : ShOK sh) : sh 489 = (12, 24) := h 489 (Nat.le_of_ble_eq_true rfl)
theorem sh_718 {sh : Nat → Nat × Nat} (h : ShOK sh) : sh 718 = (0, 0) := h 718 (Nat.le_of_ble_eq_true rfl)
theorem sh_719 {sh : Nat → Nat × Nat} (h : ShOK sh) : sh 719 = (12, 12) := h 719 (Nat.le_of_ble_eq_true rfl)
theorem sh_720 {sh : Nat → Nat × Nat} (h : ShOK sh) : sh 720 = (12, 12) := h 720 (Nat.le_of_ble_eq_true rfl)
theorem sh_721 {sh : Nat → Nat × Nat} (h : ShOK sh) : sh 721 = (12, 12) := h 721 (Nat.le_of_ble_eq_true rfl)
theorem sh_722 {sh : Nat → Nat × Nat} (h : ShOK sh) : sh 722 = (12, 12) := h 722 (Nat.le_of_ble_eq_true rfl)
theorem sh_723 {sh : Nat → Nat × Nat} (h : ShOK sh) : sh 723 = (0, 0) := h 723 (Nat.le_of_ble_eq_true rfl)
theorem sh_724 {sh : Nat → Nat × Nat} (h : ShOK sh) : sh 724 = (12, 12) := h 724 (Nat.le_of_ble_eq_true rfl)
theorem sh_725 {sh : Nat → Nat × Nat} (h : ShOK sh) : sh 725 = (12, 12) := h 725 (Nat.le_of_ble_eq_true rfl)
theorem sh_726 {sh : Nat → Nat × Nat} (h : ShOK sh) : sh 726 = (12, 12) := h 726 (Nat.le_of_ble_eq_true rfl)
theorem sh_727 {sh : Nat → Nat × Nat} (h : ShOK sh) : sh 727 = (12, 12) := h 727 (Nat.le_of_ble_eq_true rfl)
theorem sh_728 {sh : Nat → Nat × Nat} (h : ShOK sh) : sh 728 = (12, 24) := h 728 (Nat.le_of_ble_eq_true rfl)
theorem sh_729 {sh : Nat → Nat × Nat} (h : ShOK sh) : sh 729 = (17, 8) := h 729 (Nat.le_of_ble_eq_true rfl)
theorem sh_730 {sh : Nat → Nat × Nat} (h : ShOK sh) : sh 730 = (12, 250) := h 730 (Nat.le_of_ble_eq_true rfl)
theorem sh_731 {sh : Nat → Nat × Nat} (h : ShOK sh) : sh 731 = (5, 0) := h 731 (Nat.le_of_ble_eq_true rfl)
theorem sh_732 {sh : Nat → Nat × Nat} (h : ShOK sh) : sh 732 = (12, 0) := h 732 (Nat.le_of_ble_eq_true rfl)
theorem sh_733 {sh : Nat → Nat × Nat} (h : ShOK sh) : sh 733 = (12, 3) := h 733 (Nat.le_of_ble_eq_true rfl)
theorem sh_734 {sh : Nat → Nat × Nat} (h : ShOK sh) : sh 734 = (12, 250) := h 734 (Nat.le_of_ble_eq_true rfl)
theorem sh_735 {sh : Nat → Nat × Nat} (h : ShOK sh) : sh 735 = (12, 250) := h 735 (Nat.le_of_ble_eq_true rfl)
theorem sh_736 {sh : Nat → Nat × Nat} (h : ShOK sh) : sh 736 = (12, 250) := h 736 (Nat.le_of_ble_eq_true rfl)
theorem sh_737 {sh : Nat → Nat × Nat} (h : ShOK sh) : sh 737 = (12, 250) := h 737 (Nat.le_of_ble_eq_true rfl)
theorem sh_738 {sh : Nat → Nat × Nat} (h : ShOK sh) : sh 738 = (12, 250) := h 738 (Nat.le_of_ble_eq_true rfl)
theorem sh_739 {sh : Nat → Nat × Nat} (h : ShOK sh) : sh 739 = (12, 250) := h 739 (Nat.le_of_ble_eq_true rfl)
theorem sh_740 {sh : Nat → Nat × Nat} (h : ShOK sh) : sh 740 = (8, 0) := h 740 (Nat.le_of_ble_eq_true rfl)
theorem sh_741 {sh : Nat → Nat × Nat} (h : ShOK sh) : sh 741 = (12, 250) := h 741 (Nat.le_of_ble_eq_true rfl)
theorem sh_742 {sh : Nat → Nat × Nat} (h : ShOK sh) : sh 742 = (12, 250) := h 742 (Nat.le_of_ble_eq_true rfl)
theorem sh_743 {sh : Nat → Nat × Nat} (h : ShOK sh) : sh 743 = (12, 270) := h 743 (Nat.le_of_ble_eq_true rfl)
theorem sh_744 {sh : Nat → Nat × Nat} (h : ShOK sh) : sh 744 = (12, 5) := h 744 (Nat.le_of_ble_eq_true rfl)
theorem sh_745 {sh : Nat → Nat × Nat} (h : ShOK sh) : sh 745 = (7, 0) := h 745 (Nat.le_of_ble_eq_true rfl)
theorem sh_746 {sh : Nat → Nat × Nat} (h : ShOK sh) : sh 746 = (13, 40) := h 746 (Nat.le_of_ble_eq_true rfl)
theorem sh_747 {sh : Nat → Nat × Nat} (h : ShOK sh) : sh 747 = (7, 0) := h 747 (Nat.le_of_ble_eq_true rfl)
theorem sh_748 {sh : Nat → Nat × Nat} (h : ShOK sh) : sh 748 = (13, 40) := h 748 (Nat.le_of_ble_eq_true rfl)
theorem sh_749 {sh : Nat → Nat × Nat} (h : ShOK sh) : sh 749 = (7, 0) := h 749 (Nat.le_of_ble_eq_true rfl)
theorem sh_750 {sh : Nat → Nat × Nat} (h : ShOK sh) : sh 750 = (13, 40) := h 750 (Nat.le_of_ble_eq_true rfl)
theorem sh_751 {sh : Nat → Nat × Nat} (h : ShOK sh) : sh 751 = (7, 0) := h 751 (Nat.le_of_ble_eq_true rfl)
theorem sh_752 {sh : Nat → Nat × Nat} (h : ShOK sh) : sh 752 = (13, 40) := h 752 (Nat.le_of_ble_eq_true rfl)
theorem sh_753 {sh : Nat → Nat × Nat} (h : ShOK sh) : sh 753 = (7, 0) := h 753 (Nat.le_of_ble_eq_true rfl)
theorem sh_754 {sh : Nat → Nat × Nat} (h : ShOK sh) : sh 754 = (13, 40) := h 754 (Nat.le_of_ble_eq_true rfl)
theorem sh_755 {sh : Nat → Nat × Nat} (h : ShOK sh) : sh 755 = (7, 0) := h 755 (Nat.le_of_ble_eq_true rfl)
theorem sh_756 {sh : Nat → Nat × Nat} (h : ShOK sh) : sh 756 = (13, 40) := h 756 (Nat.le_of_ble_eq_true rfl)
theorem sh_757 {sh : Nat → Nat × Nat} (h : ShOK sh) : sh 757 = (7, 0) := h 757 (Nat.le_of_ble_eq_true rfl)
theorem sh_758 {sh : Nat → Nat × Nat} (h : ShOK sh) : sh 758 = (13, 40) := h 758 (Nat.le_of_ble_eq_true rfl)
theorem sh_759 {sh : Nat → Nat × Nat} (h : ShOK sh) : sh 759 = (7, 0) := h 759 (Nat.le_of_ble_eq_true rfl)
theorem sh_760 {sh : Nat → Nat × Nat} (h : ShOK sh) : sh 760 = (13, 40) := h 760 (Nat.le_of_ble_eq_true rfl)
theorem sh_761 {sh : Nat → Nat × Nat} (h : ShOK sh) : sh 761 = (11, 0) := h 761 (Nat.le_of_ble_eq_true rfl)
theorem sh_762 {sh : Nat → Nat × Nat} (h : ShOK sh) : sh 762 = (12, 1182) := h 762 (Nat.le_of_ble_eq_true rfl)
theorem sh_763 {sh : Nat → Nat × Nat} (h : ShOK sh) : sh 763 = (12, 1182) := h 763 (Nat.le_of_ble_eq_true rfl)
theorem sh_764 {sh : Nat → Nat × Nat} (h : ShOK sh) : sh 764 = (12, 1182) := h 764 (Nat.le_of_ble_eq_true rfl)
theorem sh_765 {sh : Nat → Nat × Nat} (h : ShOK sh) : sh 765 = (12, 5) := h 765 (Nat.le_of_ble_eq_true rfl)
theorem sh_766 {sh : Nat → Nat × Nat} (h : ShOK sh) : sh 766 = (12, 256) := h 766 (Nat.le_of_ble_eq_true rfl)
theorem sh_767 {sh : Nat → Nat × Nat} (h : ShOK sh) : sh 767 = (12, 256) := h 767 (Nat.le_of_ble_eq_true rfl)
theorem sh_768 {sh : Nat → Nat × Nat} (h : ShOK sh) : sh 768 = (12, 256) := h 768 (Nat.le_of_ble_eq_true rfl)
theorem sh_769 {sh : Nat → Nat × Nat} (h : ShOK sh) : sh 769 = (12, 256) := h 769 (Nat.le_of_ble_eq_true rfl)
theorem sh_770 {sh : Nat → Nat × Nat} (h : ShOK sh) : sh 770 = (12, 250) := h 770 (Nat.le_of_ble_eq_true rfl)
theorem sh_771 {sh : Nat → Nat × Nat} (h : ShOK sh) : sh 771 = (12, 3) := h 771 (Nat.le_of_ble_eq_true rfl)
theorem sh_772 {sh : Nat → Nat × Nat} (h : ShOK sh) : sh 772 = (12, 12) := h 772 (Nat.le_of_ble_eq_true rfl)
theorem sh_773 {sh : Nat → Nat × Nat} (h : ShOK sh) : sh 773 = (12, 12) := h 773 (Nat.le_of_ble_eq_true rfl)
theorem sh_774 {sh : Nat → Nat × Nat} (h : ShOK sh) : sh 774 = (12, 12) := h 774 (Nat.le_of_ble_eq_true rfl)
theorem sh_775 {sh : Nat → Nat × Nat} (h : ShOK sh) : sh 775 = (12, 12) := h 775 (Nat.le_of_ble_eq_true rfl)
theorem sh_776 {sh : Nat → Nat × Nat} (h : ShOK sh) : sh 776 = (12, 24) := h 776 (Nat.le_of_ble_eq_true rfl)
theorem sh_777 {sh : Nat → Nat × Nat} (h : ShOK sh) : sh 777 = (12, 8) := h 777 (Nat.le_of_ble_eq_true rfl)
theorem sh_778 {sh : Nat → Nat × Nat} (h : ShOK sh) : sh 778 = (12, 8) := h 778 (Nat.le_of_ble_eq_true rfl)
theorem sh_779 {sh : Nat → Nat × Nat} (h : ShOK sh) : sh 779 = (13, 320) := h 779 (Nat.le_of_ble_eq_true rfl)
theorem sh_780 {sh : Nat → Nat × Nat} (h : ShOK sh) : sh 780 = (12, 8) := h 780 (Nat.le_of_ble_eq_true rfl)
theorem sh_fe {sh : Nat → Nat × Nat} (h : ShOK sh) {d F j : Nat} (hd : d < 3) (hF : F < 12) (hj : j < 19) : sh (fe d F + j) = feS j := by
  rw [h _ (by unfold fe; omega)]
  unfold sh0 fe dkS
  rw [if_neg (by omega), if_pos (by omega)]
  have e1 : (12 + 239 * d + 19 * F + j - 1) % 239 = 11 + 19 * F + j := by omega
  rw [e1]
  iterate 6 rw [if_neg (by omega)]
  congr 1
  omega
theorem sh_fe0 {sh : Nat → Nat × Nat} (h : ShOK sh) {d F : Nat} (hd : d < 3) (hF : F < 12) : sh (fe d F) = (3, 0) := sh_fe h hd hF (j := 0) (by omega)
theorem sh_fe1 {sh : Nat → Nat × Nat} (h : ShOK sh) {d F : Nat} (hd : d < 3) (hF : F < 12) : sh (fe d F + 1) = (16, 6) := sh_fe h hd hF (j := 1) (by omega)
theorem sh_fe2 {sh : Nat → Nat × Nat} (h : ShOK sh) {d F : Nat} (hd : d < 3) (hF : F < 12) : sh (fe d F + 2) = (12, 3) := sh_fe h hd hF (j := 2) (by omega)
theorem sh_fe3 {sh : Nat → Nat × Nat} (h : ShOK sh) {d F : Nat} (hd : d < 3) (hF : F < 12) : sh (fe d F + 3) = (12, 3) := sh_fe h hd hF (j := 3) (by omega)
theorem sh_fe4 {sh : Nat → Nat × Nat} (h : ShOK sh) {d F : Nat} (hd : d < 3) (hF : F < 12) : sh (fe d F + 4) = (12, 24) := sh_fe h hd hF (j := 4) (by omega)
theorem sh_fe5 {sh : Nat → Nat × Nat} (h : ShOK sh) {d F : Nat} (hd : d < 3) (hF : F < 12) : sh (fe d F + 5) = (12, 24) := sh_fe h hd hF (j := 5) (by omega)
theorem sh_fe6 {sh : Nat → Nat × Nat} (h : ShOK sh) {d F : Nat} (hd : d < 3) (hF : F < 12) : sh (fe d F + 6) = (12, 4) := sh_fe h hd hF (j := 6) (by omega)
theorem feS_odd {r : Nat} (hr : r < 6) : feS (7 + 2 * r) = (6, 0) ∧ feS (8 + 2 * r) = (12, 3) := by
  rcases (show r = 0 ∨ r = 1 ∨ r = 2 ∨ r = 3 ∨ r = 4 ∨ r = 5 by omega) with rfl | rfl | rfl | rfl | rfl | rfl <;> exact ⟨rfl, rfl⟩
def ru (d F r : Nat) : Nat := fe d F + (7 + 2 * r)
theorem sh_ru {sh : Nat → Nat × Nat} (h : ShOK sh) {d F r : Nat} (hd : d < 3) (hF : F < 12) (hr : r < 6) : sh (ru d F r) = (6, 0) := (sh_fe h hd hF (by omega)).trans (feS_odd hr).1
theorem sh_rp {sh : Nat → Nat × Nat} (h : ShOK sh) {d F r : Nat} (hd : d < 3) (hF : F < 12) (hr : r < 6) : sh (ru d F r + 1) = (12, 3) := by
  have e : ru d F r + 1 = fe d F + (8 + 2 * r) := by unfold ru; omega
  rw [e]
  exact (sh_fe h hd hF (by omega)).trans (feS_odd hr).2
theorem sh_dk {sh : Nat → Nat × Nat} (h : ShOK sh) {d : Nat} (hd : d < 3) {j : Nat} (hj : j < 11) : sh (dk d + j) = dkS j := by
  rw [h _ (by unfold dk; omega)]
  unfold sh0 dk
  rw [if_neg (by omega), if_pos (by omega)]
  congr 1
  omega
theorem sh_sf {sh : Nat → Nat × Nat} (h : ShOK sh) {s : Nat} (hs : s < 8) : sh (745 + 2 * s) = (7, 0) ∧ sh (746 + 2 * s) = (13, 40) := by
  rcases (show s = 0 ∨ s = 1 ∨ s = 2 ∨ s = 3 ∨ s = 4 ∨ s = 5 ∨ s = 6 ∨ s = 7 by omega) with rfl | rfl | rfl | rfl | rfl | rfl | rfl | rfl
  iterate 8 exact ⟨h _ (Nat.le_of_ble_eq_true rfl), h _ (Nat.le_of_ble_eq_true rfl)⟩
/-- the references that never change -/
def rfL : List (Nat × Nat × Nat) := [(0, 0, 1), (0, 1, 240), (0, 2, 479), (0, 4, 718), (0, 5, 723), (0, 6, 728), (0, 7, 729), (0, 8, 730), (0, 10, 731), (0, 11, 740), (0, 12, 744), (1, 0, 2), (1, 1, 5), (1, 3, 6), (2, 0, 3), (2, 1, 4), (6, 0, 7), (6, 1, 8), (6, 2, 9), (6, 3, 10), (6, 4, 11), (240, 0, 241), (240, 1, 244), (240, 3, 245), (241, 0, 242), (241, 1, 243), (245, 0, 246), (245, 1, 247), (245, 2, 248), (245, 3, 249), (245, 4, 250), (479, 0, 480), (479, 1, 483), (479, 3, 484), (480, 0, 481), (480, 1, 482), (484, 0, 485), (484, 1, 486), (484, 2, 487), (484, 3, 488), (484, 4, 489), (718, 0, 719), (718, 1, 720), (718, 2, 721), (718, 3, 722), (723, 0, 724), (723, 1, 725), (723, 2, 726), (723, 3, 727), (729, 0, 745), (729, 1, 747), (729, 2, 749), (729, 3, 751), (729, 4, 753), (729, 5, 755), (729, 6, 757), (729, 7, 759), (731, 4, 733), (731, 5, 734), (731, 6, 735), (731, 7, 736), (731, 8, 737), (731, 10, 738), (731, 12, 739), (740, 0, 741), (740, 1, 742), (740, 2, 743), (745, 2, 746), (747, 2, 748), (749, 2, 750), (751, 2, 752), (753, 2, 754), (755, 2, 756), (757, 2, 758), (759, 2, 760), (761, 0, 762), (761, 1, 763), (761, 2, 764), (761, 4, 765), (761, 10, 770), (761, 14, 771), (761, 17, 772), (761, 18, 773), (761, 19, 774), (761, 21, 775), (761, 23, 776), (761, 27, 777), (761, 28, 778), (761, 29, 779), (761, 30, 780)]
def RfOK (R : Nat → Nat → Option Nat) : Prop := (∀ x ∈ rfL, R x.1 x.2.1 = some x.2.2) ∧ (∀ d, d < 3 → ∀ F, F < 12 → R (dk d + 4) F = some (fe d F)) ∧
  (∀ d, d < 3 → ∀ F, F < 12 → R (fe d F) 4 = some (fe d F + 1) ∧ R (fe d F) 6 = some (fe d F + 2) ∧ R (fe d F) 7 = some (fe d F + 3) ∧ R (fe d F) 9 = some (fe d F + 4) ∧ R (fe d F) 10 = some (fe d F + 5) ∧ R (fe d F) 11 = some (fe d F + 6)) ∧
  (∀ d, d < 3 → ∀ F, F < 12 → ∀ r, r < 6 → R (fe d F + 1) r = some (ru d F r) ∧ R (ru d F r) 2 = some (ru d F r + 1))
theorem rf_0_0 {R : Nat → Nat → Option Nat} (h : RfOK R) : R 0 0 = some 1 := h.1 (0, 0, 1) (List.mem_of_getElem? (i := 0) rfl)
theorem rf_0_1 {R : Nat → Nat → Option Nat} (h : RfOK R) : R 0 1 = some 240 := h.1 (0, 1, 240) (List.mem_of_getElem? (i := 1) rfl)
theorem rf_0_2 {R : Nat → Nat → Option Nat} (h : RfOK R) : R 0 2 = some 479 := h.1 (0, 2, 479) (List.mem_of_getElem? (i := 2) rfl)
theorem rf_0_4 {R : Nat → Nat → Option Nat} (h : RfOK R) : R 0 4 = some 718 := h.1 (0, 4, 718) (List.mem_of_getElem? (i := 3) rfl)
theorem rf_0_5 {R : Nat → Nat → Option Nat} (h : RfOK R) : R 0 5 = some 723 := h.1 (0, 5, 723) (List.mem_of_getElem? (i := 4) rfl)
theorem rf_0_6 {R : Nat → Nat → Option Nat} (h : RfOK R) : R 0 6 = some 728 := h.1 (0, 6, 728) (List.mem_of_getElem? (i := 5) rfl)
theorem rf_0_7 {R : Nat → Nat → Option Nat} (h : RfOK R) : R 0 7 = some 729 := h.1 (0, 7, 729) (List.mem_of_getElem? (i := 6) rfl)
theorem rf_0_8 {R : Nat → Nat → Option Nat} (h : RfOK R) : R 0 8 = some 730 := h.1 (0, 8, 730) (List.mem_of_getElem? (i := 7) rfl)
theorem rf_0_10 {R : Nat → Nat → Option Nat} (h : RfOK R) : R 0 10 = some 731 := h.1 (0, 10, 731) (List.mem_of_getElem? (i := 8) rfl)
theorem rf_0_11 {R : Nat → Nat → Option Nat} (h : RfOK R) : R 0 11 = some 740 := h.1 (0, 11, 740) (List.mem_of_getElem? (i := 9) rfl)
theorem rf_0_12 {R : Nat → Nat → Option Nat} (h : RfOK R) : R 0 12 = some 744 := h.1 (0, 12, 744) (List.mem_of_getElem? (i := 10) rfl)
theorem rf_1_0 {R : Nat → Nat → Option Nat} (h : RfOK R) : R 1 0 = some 2 := h.1 (1, 0, 2) (List.mem_of_getElem? (i := 11) rfl)
theorem rf_1_1 {R : Nat → Nat → Option Nat} (h : RfOK R) : R 1 1 = some 5 := h.1 (1, 1, 5) (List.mem_of_getElem? (i := 12) rfl)
theorem rf_1_3 {R : Nat → Nat → Option Nat} (h : RfOK R) : R 1 3 = some 6 := h.1 (1, 3, 6) (List.mem_of_getElem? (i := 13) rfl)
theorem rf_2_0 {R : Nat → Nat → Option Nat} (h : RfOK R) : R 2 0 = some 3 := h.1 (2, 0, 3) (List.mem_of_getElem? (i := 14) rfl)
theorem rf_2_1 {R : Nat → Nat → Option Nat} (h : RfOK R) : R 2 1 = some 4 := h.1 (2, 1, 4) (List.mem_of_getElem? (i := 15) rfl)
theorem rf_6_0 {R : Nat → Nat → Option Nat} (h : RfOK R) : R 6 0 = some 7 := h.1 (6, 0, 7) (List.mem_of_getElem? (i := 16) rfl)
theorem rf_6_1 {R : Nat → Nat → Option Nat} (h : RfOK R) : R 6 1 = some 8 := h.1 (6, 1, 8) (List.mem_of_getElem? (i := 17) rfl)
theorem rf_6_2 {R : Nat → Nat → Option Nat} (h : RfOK R) : R 6 2 = some 9 := h.1 (6, 2, 9) (List.mem_of_getElem? (i := 18) rfl)
theorem rf_6_3 {R : Nat → Nat → Option Nat} (h : RfOK R) : R 6 3 = some 10 := h.1 (6, 3, 10) (List.mem_of_getElem? (i := 19) rfl)
theorem rf_6_4 {R : Nat → Nat → Option Nat} (h : RfOK R) : R 6 4 = some 11 := h.1 (6, 4, 11) (List.mem_of_getElem? (i := 20) rfl)
theorem rf_240_0 {R : Nat → Nat → Option Nat} (h : RfOK R) : R 240 0 = some 241 := h.1 (240, 0, 241) (List.mem_of_getElem? (i := 21) rfl)
theorem rf_240_1 {R : Nat → Nat → Option Nat} (h : RfOK R) : R 240 1 = some 244 := h.1 (240, 1, 244) (List.mem_of_getElem? (i := 22) rfl)
theorem rf_240_3 {R : Nat → Nat → Option Nat} (h : RfOK R) : R 240 3 = some 245 := h.1 (240, 3, 245) (List.mem_of_getElem? (i := 23) rfl)
theorem rf_241_0 {R : Nat → Nat → Option Nat} (h : RfOK R) : R 241 0 = some 242 := h.1 (241, 0, 242) (List.mem_of_getElem? (i := 24) rfl)
theorem rf_241_1 {R : Nat → Nat → Option Nat} (h : RfOK R) : R 241 1 = some 243 := h.1 (241, 1, 243) (List.mem_of_getElem? (i := 25) rfl)
theorem rf_245_0 {R : Nat → Nat → Option Nat} (h : RfOK R) : R 245 0 = some 246 := h.1 (245, 0, 246) (List.mem_of_getElem? (i := 26) rfl)
theorem rf_245_1 {R : Nat → Nat → Option Nat} (h : RfOK R) : R 245 1 = some 247 := h.1 (245, 1, 247) (List.mem_of_getElem? (i := 27) rfl)
theorem rf_245_2 {R : Nat → Nat → Option Nat} (h : RfOK R) : R 245 2 = some 248 := h.1 (245, 2, 248) (List.mem_of_getElem? (i := 28) rfl)
theorem rf_245_3 {R : Nat → Nat → Option Nat} (h : RfOK R) : R 245 3 = some 249 := h.1 (245, 3, 249) (List.mem_of_getElem? (i := 29) rfl)
theorem rf_245_4 {R : Nat → Nat → Option Nat} (h : RfOK R) : R 245 4 = some 250 := h.1 (245, 4, 250) (List.mem_of_getElem? (i := 30) rfl)
theorem rf_479_0 {R : Nat → Nat → Option Nat} (h : RfOK R) : R 479 0 = some 480 := h.1 (479, 0, 480) (List.mem_of_getElem? (i := 31) rfl)
theorem rf_479_1 {R : Nat → Nat → Option Nat} (h : RfOK R) : R 479 1 = some 483 := h.1 (479, 1, 483) (List.mem_of_getElem? (i := 32) rfl)
theorem rf_479_3 {R : Nat → Nat → Option Nat} (h : RfOK R) : R 479 3 = some 484 := h.1 (479, 3, 484) (List.mem_of_getElem? (i := 33) rfl)
theorem rf_480_0 {R : Nat → Nat → Option Nat} (h : RfOK R) : R 480 0 = some 481 := h.1 (480, 0, 481) (List.mem_of_getElem? (i := 34) rfl)
theorem rf_480_1 {R : Nat → Nat → Option Nat} (h : RfOK R) : R 480 1 = some 482 := h.1 (480, 1, 482) (List.mem_of_getElem? (i := 35) rfl)
theorem rf_484_0 {R : Nat → Nat → Option Nat} (h : RfOK R) : R 484 0 = some 485 := h.1 (484, 0, 485) (List.mem_of_getElem? (i := 36) rfl)
theorem rf_484_1 {R : Nat → Nat → Option Nat} (h : RfOK R) : R 484 1 = some 486 := h.1 (484, 1, 486) (List.mem_of_getElem? (i := 37) rfl)
theorem rf_484_2 {R : Nat → Nat → Option Nat} (h : RfOK R) : R 484 2 = some 487 := h.1 (484, 2, 487) (List.mem_of_getElem? (i := 38) rfl)
theorem rf_484_3 {R : Nat → Nat → Option Nat} (h : RfOK R) : R 484 3 = some 488 := h.1 (484, 3, 488) (List.mem_of_getElem? (i := 39) rfl)
theorem rf_484_4 {R : Nat → Nat → Option Nat} (h : RfOK R) : R 484 4 = some 489 := h.1 (484, 4, 489) (List.mem_of_getElem? (i := 40) rfl)
theorem rf_718_0 {R : Nat → Nat → Option Nat} (h : RfOK R) : R 718 0 = some 719 := h.1 (718, 0, 719) (List.mem_of_getElem? (i := 41) rfl)
theorem rf_718_1 {R : Nat → Nat → Option Nat} (h : RfOK R) : R 718 1 = some 720 := h.1 (718, 1, 720) (List.mem_of_getElem? (i := 42) rfl)
theorem rf_718_2 {R : Nat → Nat → Option Nat} (h : RfOK R) : R 718 2 = some 721 := h.1 (718, 2, 721) (List.mem_of_getElem? (i := 43) rfl)
theorem rf_718_3 {R : Nat → Nat → Option Nat} (h : RfOK R) : R 718 3 = some 722 := h.1 (718, 3, 722) (List.mem_of_getElem? (i := 44) rfl)
theorem rf_723_0 {R : Nat → Nat → Option Nat} (h : RfOK R) : R 723 0 = some 724 := h.1 (723, 0, 724) (List.mem_of_getElem? (i := 45) rfl)
theorem rf_723_1 {R : Nat → Nat → Option Nat} (h : RfOK R) : R 723 1 = some 725 := h.1 (723, 1, 725) (List.mem_of_getElem? (i := 46) rfl)
theorem rf_723_2 {R : Nat → Nat → Option Nat} (h : RfOK R) : R 723 2 = some 726 := h.1 (723, 2, 726) (List.mem_of_getElem? (i := 47) rfl)
theorem rf_723_3 {R : Nat → Nat → Option Nat} (h : RfOK R) : R 723 3 = some 727 := h.1 (723, 3, 727) (List.mem_of_getElem? (i := 48) rfl)
theorem rf_729_0 {R : Nat → Nat → Option Nat} (h : RfOK R) : R 729 0 = some 745 := h.1 (729, 0, 745) (List.mem_of_getElem? (i := 49) rfl)
theorem rf_729_1 {R : Nat → Nat → Option Nat} (h : RfOK R) : R 729 1 = some 747 := h.1 (729, 1, 747) (List.mem_of_getElem? (i := 50) rfl)
theorem rf_729_2 {R : Nat → Nat → Option Nat} (h : RfOK R) : R 729 2 = some 749 := h.1 (729, 2, 749) (List.mem_of_getElem? (i := 51) rfl)
theorem rf_729_3 {R : Nat → Nat → Option Nat} (h : RfOK R) : R 729 3 = some 751 := h.1 (729, 3, 751) (List.mem_of_getElem? (i := 52) rfl)
theorem rf_729_4 {R : Nat → Nat → Option Nat} (h : RfOK R) : R 729 4 = some 753 := h.1 (729, 4, 753) (List.mem_of_getElem? (i := 53) rfl)
theorem rf_729_5 {R : Nat → Nat → Option Nat} (h : RfOK R) : R 729 5 = some 755 := h.1 (729, 5, 755) (List.mem_of_getElem? (i := 54) rfl)
theorem rf_729_6 {R : Nat → Nat → Option Nat} (h : RfOK R) : R 729 6 = some 757 := h.1 (729, 6, 757) (List.mem_of_getElem? (i := 55) rfl)
theorem rf_729_7 {R : Nat → Nat → Option Nat} (h : RfOK R) : R 729 7 = some 759 := h.1 (729, 7, 759) (List.mem_of_getElem? (i := 56) rfl)
theorem rf_731_4 {R : Nat → Nat → Option Nat} (h : RfOK R) : R 731 4 = some 733 := h.1 (731, 4, 733) (List.mem_of_getElem? (i := 57) rfl)
theorem rf_731_5 {R : Nat → Nat → Option Nat} (h : RfOK R) : R 731 5 = some 734 := h.1 (731, 5, 734) (List.mem_of_getElem? (i := 58) rfl)
theorem rf_731_6 {R : Nat → Nat → Option Nat} (h : RfOK R) : R 731 6 = some 735 := h.1 (731, 6, 735) (List.mem_of_getElem? (i := 59) rfl)
theorem rf_731_7 {R : Nat → Nat → Option Nat} (h : RfOK R) : R 731 7 = some 736 := h.1 (731, 7, 736) (List.mem_of_getElem? (i := 60) rfl)
theorem rf_731_8 {R : Nat → Nat → Option Nat} (h : RfOK R) : R 731 8 = some 737 := h.1 (731, 8, 737) (List.mem_of_getElem? (i := 61) rfl)
theorem rf_731_10 {R : Nat → Nat → Option Nat} (h : RfOK R) : R 731 10 = some 738 := h.1 (731, 10, 738) (List.mem_of_getElem? (i := 62) rfl)
theorem rf_731_12 {R : Nat → Nat → Option Nat} (h : RfOK R) : R 731 12 = some 739 := h.1 (731, 12, 739) (List.mem_of_getElem? (i := 63) rfl)
theorem rf_740_0 {R : Nat → Nat → Option Nat} (h : RfOK R) : R 740 0 = some 741 := h.1 (740, 0, 741) (List.mem_of_getElem? (i := 64) rfl)
theorem rf_740_1 {R : Nat → Nat → Option Nat} (h : RfOK R) : R 740 1 = some 742 := h.1 (740, 1, 742) (List.mem_of_getElem? (i := 65) rfl)
theorem rf_740_2 {R : Nat → Nat → Option Nat} (h : RfOK R) : R 740 2 = some 743 := h.1 (740, 2, 743) (List.mem_of_getElem? (i := 66) rfl)
theorem rf_745_2 {R : Nat → Nat → Option Nat} (h : RfOK R) : R 745 2 = some 746 := h.1 (745, 2, 746) (List.mem_of_getElem? (i := 67) rfl)
theorem rf_747_2 {R : Nat → Nat → Option Nat} (h : RfOK R) : R 747 2 = some 748 := h.1 (747, 2, 748) (List.mem_of_getElem? (i := 68) rfl)
theorem rf_749_2 {R : Nat → Nat → Option Nat} (h : RfOK R) : R 749 2 = some 750 := h.1 (749, 2, 750) (List.mem_of_getElem? (i := 69) rfl)
theorem rf_751_2 {R : Nat → Nat → Option Nat} (h : RfOK R) : R 751 2 = some 752 := h.1 (751, 2, 752) (List.mem_of_getElem? (i := 70) rfl)
theorem rf_753_2 {R : Nat → Nat → Option Nat} (h : RfOK R) : R 753 2 = some 754 := h.1 (753, 2, 754) (List.mem_of_getElem? (i := 71) rfl)
theorem rf_755_2 {R : Nat → Nat → Option Nat} (h : RfOK R) : R 755 2 = some 756 := h.1 (755, 2, 756) (List.mem_of_getElem? (i := 72) rfl)
theorem rf_757_2 {R : Nat → Nat → Option Nat} (h : RfOK R) : R 757 2 = some 758 := h.1 (757, 2, 758) (List.mem_of_getElem? (i := 73) rfl)
theorem rf_759_2 {R : Nat → Nat → Option Nat} (h : RfOK R) : R 759 2 = some 760 := h.1 (759, 2, 760) (List.mem_of_getElem? (i := 74) rfl)
theorem rf_761_0 {R : Nat → Nat → Option Nat} (h : RfOK R) : R 761 0 = some 762 := h.1 (761, 0, 762) (List.mem_of_getElem? (i := 75) rfl)
theorem rf_761_1 {R : Nat → Nat → Option Nat} (h : RfOK R) : R 761 1 = some 763 := h.1 (761, 1, 763) (List.mem_of_getElem? (i := 76) rfl)
theorem rf_761_2 {R : Nat → Nat → Option Nat} (h : RfOK R) : R 761 2 = some 764 := h.1 (761, 2, 764) (List.mem_of_getElem? (i := 77) rfl)
theorem rf_761_4 {R : Nat → Nat → Option Nat} (h : RfOK R) : R 761 4 = some 765 := h.1 (761, 4, 765) (List.mem_of_getElem? (i := 78) rfl)
theorem rf_761_10 {R : Nat → Nat → Option Nat} (h : RfOK R) : R 761 10 = some 770 := h.1 (761, 10, 770) (List.mem_of_getElem? (i := 79) rfl)
theorem rf_761_14 {R : Nat → Nat → Option Nat} (h : RfOK R) : R 761 14 = some 771 := h.1 (761, 14, 771) (List.mem_of_getElem? (i := 80) rfl)
theorem rf_761_17 {R : Nat → Nat → Option Nat} (h : RfOK R) : R 761 17 = some 772 := h.1 (761, 17, 772) (List.mem_of_getElem? (i := 81) rfl)
theorem rf_761_18 {R : Nat → Nat → Option Nat} (h : RfOK R) : R 761 18 = some 773 := h.1 (761, 18, 773) (List.mem_of_getElem? (i := 82) rfl)
theorem rf_761_19 {R : Nat → Nat → Option Nat} (h : RfOK R) : R 761 19 = some 774 := h.1 (761, 19, 774) (List.mem_of_getElem? (i := 83) rfl)
theorem rf_761_21 {R : Nat → Nat → Option Nat} (h : RfOK R) : R 761 21 = some 775 := h.1 (761, 21, 775) (List.mem_of_getElem? (i := 84) rfl)
theorem rf_761_23 {R : Nat → Nat → Option Nat} (h : RfOK R) : R 761 23 = some 776 := h.1 (761, 23, 776) (List.mem_of_getElem? (i := 85) rfl)
theorem rf_761_27 {R : Nat → Nat → Option Nat} (h : RfOK R) : R 761 27 = some 777 := h.1 (761, 27, 777) (List.mem_of_getElem? (i := 86) rfl)
theorem rf_761_28 {R : Nat → Nat → Option Nat} (h : RfOK R) : R 761 28 = some 778 := h.1 (761, 28, 778) (List.mem_of_getElem? (i := 87) rfl)
theorem rf_761_29 {R : Nat → Nat → Option Nat} (h : RfOK R) : R 761 29 = some 779 := h.1 (761, 29, 779) (List.mem_of_getElem? (i := 88) rfl)
theorem rf_761_30 {R : Nat → Nat → Option Nat} (h : RfOK R) : R 761 30 = some 780 := h.1 (761, 30, 780) (List.mem_of_getElem? (i := 89) rfl)
theorem rf_fe {R : Nat → Nat → Option Nat} (h : RfOK R) {d F : Nat} (hd : d < 3) (hF : F < 12) : R (dk d + 4) F = some (fe d F) := h.2.1 d hd F hF
theorem rf_fe_4 {R : Nat → Nat → Option Nat} (h : RfOK R) {d F : Nat} (hd : d < 3) (hF : F < 12) : R (fe d F) 4 = some (fe d F + 1) := (h.2.2.1 d hd F hF).1
theorem rf_fe_6 {R : Nat → Nat → Option Nat} (h : RfOK R) {d F : Nat} (hd : d < 3) (hF : F < 12) : R (fe d F) 6 = some (fe d F + 2) := (h.2.2.1 d hd F hF).2.1
theorem rf_fe_7 {R : Nat → Nat → Option Nat} (h : RfOK R) {d F : Nat} (hd : d < 3) (hF : F < 12) : R (fe d F) 7 = some (fe d F + 3) := (h.2.2.1 d hd F hF).2.2.1
theorem rf_fe_9 {R : Nat → Nat → Option Nat} (h : RfOK R) {d F : Nat} (hd : d < 3) (hF : F < 12) : R (fe d F) 9 = some (fe d F + 4) := (h.2.2.1 d hd F hF).2.2.2.1
theorem rf_fe_10 {R : Nat → Nat → Option Nat} (h : RfOK R) {d F : Nat} (hd : d < 3) (hF : F < 12) : R (fe d F) 10 = some (fe d F + 5) := (h.2.2.1 d hd F hF).2.2.2.2.1
theorem rf_fe_11 {R : Nat → Nat → Option Nat} (h : RfOK R) {d F : Nat} (hd : d < 3) (hF : F < 12) : R (fe d F) 11 = some (fe d F + 6) := (h.2.2.1 d hd F hF).2.2.2.2.2
theorem rf_ru {R : Nat → Nat → Option Nat} (h : RfOK R) {d F r : Nat} (hd : d < 3) (hF : F < 12) (hr : r < 6) : R (fe d F + 1) r = some (ru d F r) := (h.2.2.2 d hd F hF r hr).1
theorem rf_rp {R : Nat → Nat → Option Nat} (h : RfOK R) {d F r : Nat} (hd : d < 3) (hF : F < 12) (hr : r < 6) : R (ru d F r) 2 = some (ru d F r + 1) := (h.2.2.2 d hd F hF r hr).2
theorem rf_sf {R : Nat → Nat → Option Nat} (h : RfOK R) {s : Nat} (hs : s < 8) : R 729 s = some (745 + 2 * s) ∧ R (745 + 2 * s) 2 = some (746 + 2 * s) := by
  rcases (show s = 0 ∨ s = 1 ∨ s = 2 ∨ s = 3 ∨ s = 4 ∨ s = 5 ∨ s = 6 ∨ s = 7 by omega) with rfl | rfl | rfl | rfl | rfl | rfl | rfl | rfl
  · exact ⟨rf_729_0 h, rf_745_2 h⟩
  · exact ⟨rf_729_1 h, rf_747_2 h⟩
  · exact ⟨rf_729_2 h, rf_749_2 h⟩
  · exact ⟨rf_729_3 h, rf_751_2 h⟩
  · exact ⟨rf_729_4 h, rf_753_2 h⟩
  · exact ⟨rf_729_5 h, rf_755_2 h⟩
  · exact ⟨rf_729_6 h, rf_757_2 h⟩
  · exact ⟨rf_729_7 h, rf_759_2 h⟩
