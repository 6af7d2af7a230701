/-! THE LAW'S CASES, 2 -/
theorem law_12 {w : WD} {p : Program} {l : Launch} {e : Env} {s : State} {m : MethodId} {below : List Frame} {meth : Method} {c : Code} {b L : Nat} {xs : Nat → Int32} : LCase w p l e s m below meth c b L xs 677 := by
  intro X n h cells slots hi hn hI hc hs kk
  obtain ⟨I, R, Lg, sh, N, tp, nt, nk, nP, nF, nS, kA, fA, cA, gA, rfl, hC, hr⟩ := hI
  obtain ⟨ac, az, hac, haz, hX⟩ := s_attributes hC hr (by omega) (x1 := xs (6 * n + 1))
  refine lr_aload (i := 1) X dL_677 rfl rfl lv1 ?_
  refine lr_arg (k := 1) X dL_678 rfl dL_679 rfl dL_680 rfl dL_681 rfl dL_682 rfl rfl (by omega) ?_
  refine lr_callv (M2 := mi_X_attributes) (id := 0) (as := [.int (xs (6 * n + 1))]) (rest := []) X dL_683 rfl k_L_71 cm_X_attributes cv_X_attributes (sh_0 hC.1.1) (Nat.le_of_ble_eq_true rfl) rfl rfl (Nat.le_of_ble_eq_true rfl) hX (by omega) (by omega) (by omega) rfl (fun r h1 hq => ?_)
  obtain ⟨ac2, az2, hac2, haz2, ⟨⟨v, rfl⟩, h761⟩, hM⟩ := hq
  change LR w p l e s m below meth c b 686 (LV w b (6 * n)) [.int v] h1 (cells + ac) (slots + az)
  refine lr_aload (i := 2) X dL_686 rfl rfl lv2 ?_
  refine lr_arg (k := 1) X dL_687 rfl dL_688 rfl dL_689 rfl dL_690 rfl dL_691 rfl rfl (by omega) ?_
  refine lr_callv (M2 := mi_M_attributes) (id := 761) (as := [.int (xs (6 * n + 1))]) (rest := [.int v]) X dL_692 rfl k_L_74 cm_M_attributes cv_M_attributes h761 (Nat.le_of_ble_eq_true rfl) rfl rfl (Nat.le_of_ble_eq_true rfl) hM (by omega) (by omega) (by omega) rfl (fun r2 h2 hq2 => ?_)
  obtain ⟨rfl, hI2⟩ := hq2
  change LR w p l e s m below meth c b 695 (LV w b (6 * n)) [.int v, .int v] h2 (cells + ac + ac2) (slots + az + az2)
  exact lr_same X dL_695 rfl (kk h2 _ _ hI2 (by omega) (by omega))
theorem law_13 {w : WD} {p : Program} {l : Launch} {e : Env} {s : State} {m : MethodId} {below : List Frame} {meth : Method} {c : Code} {b L : Nat} {xs : Nat → Int32} : LCase w p l e s m below meth c b L xs 700 := by
  intro X n h cells slots hi hn hI hc hs kk
  obtain ⟨I, R, Lg, sh, N, tp, nt, nk, nP, nF, nS, kA, fA, cA, gA, rfl, hC, hr⟩ := hI
  obtain ⟨ac, az, hac, haz, hX⟩ := s_bucket hC hr (by omega) (x1 := xs (6 * n + 1)) (x2 := xs (6 * n + 2))
  refine lr_aload (i := 1) X dL_700 rfl rfl lv1 ?_
  refine lr_arg (k := 1) X dL_701 rfl dL_702 rfl dL_703 rfl dL_704 rfl dL_705 rfl rfl (by omega) ?_
  refine lr_arg (k := 2) X dL_706 rfl dL_707 rfl dL_708 rfl dL_709 rfl dL_710 rfl rfl (by omega) ?_
  refine lr_callv (M2 := mi_X_bucket) (id := 0) (as := [.int (xs (6 * n + 1)), .int (xs (6 * n + 2))]) (rest := []) X dL_711 rfl k_L_75 cm_X_bucket cv_X_bucket (sh_0 hC.1.1) (Nat.le_of_ble_eq_true rfl) rfl rfl (Nat.le_of_ble_eq_true rfl) hX (by omega) (by omega) (by omega) rfl (fun r h1 hq => ?_)
  obtain ⟨ac2, az2, hac2, haz2, ⟨⟨v, rfl⟩, h761⟩, hM⟩ := hq
  change LR w p l e s m below meth c b 714 (LV w b (6 * n)) [.int v] h1 (cells + ac) (slots + az)
  refine lr_aload (i := 2) X dL_714 rfl rfl lv2 ?_
  refine lr_arg (k := 1) X dL_715 rfl dL_716 rfl dL_717 rfl dL_718 rfl dL_719 rfl rfl (by omega) ?_
  refine lr_arg (k := 2) X dL_720 rfl dL_721 rfl dL_722 rfl dL_723 rfl dL_724 rfl rfl (by omega) ?_
  refine lr_callv (M2 := mi_M_bucket) (id := 761) (as := [.int (xs (6 * n + 1)), .int (xs (6 * n + 2))]) (rest := [.int v]) X dL_725 rfl k_L_78 cm_M_bucket cv_M_bucket h761 (Nat.le_of_ble_eq_true rfl) rfl rfl (Nat.le_of_ble_eq_true rfl) hM (by omega) (by omega) (by omega) rfl (fun r2 h2 hq2 => ?_)
  obtain ⟨rfl, hI2⟩ := hq2
  change LR w p l e s m below meth c b 728 (LV w b (6 * n)) [.int v, .int v] h2 (cells + ac + ac2) (slots + az + az2)
  exact lr_same X dL_728 rfl (kk h2 _ _ hI2 (by omega) (by omega))
theorem law_14 {w : WD} {p : Program} {l : Launch} {e : Env} {s : State} {m : MethodId} {below : List Frame} {meth : Method} {c : Code} {b L : Nat} {xs : Nat → Int32} : LCase w p l e s m below meth c b L xs 733 := by
  intro X n h cells slots hi hn hI hc hs kk
  obtain ⟨I, R, Lg, sh, N, tp, nt, nk, nP, nF, nS, kA, fA, cA, gA, rfl, hC, hr⟩ := hI
  obtain ⟨ac, az, hac, haz, hX⟩ := s_feature hC hr (by omega) (x1 := xs (6 * n + 1))
  refine lr_aload (i := 1) X dL_733 rfl rfl lv1 ?_
  refine lr_arg (k := 1) X dL_734 rfl dL_735 rfl dL_736 rfl dL_737 rfl dL_738 rfl rfl (by omega) ?_
  refine lr_callv (M2 := mi_X_feature) (id := 0) (as := [.int (xs (6 * n + 1))]) (rest := []) X dL_739 rfl k_L_79 cm_X_feature cv_X_feature (sh_0 hC.1.1) (Nat.le_of_ble_eq_true rfl) rfl rfl (Nat.le_of_ble_eq_true rfl) hX (by omega) (by omega) (by omega) rfl (fun r h1 hq => ?_)
  obtain ⟨ac2, az2, hac2, haz2, ⟨⟨v, rfl⟩, h761⟩, hM⟩ := hq
  change LR w p l e s m below meth c b 742 (LV w b (6 * n)) [.int v] h1 (cells + ac) (slots + az)
  refine lr_aload (i := 2) X dL_742 rfl rfl lv2 ?_
  refine lr_arg (k := 1) X dL_743 rfl dL_744 rfl dL_745 rfl dL_746 rfl dL_747 rfl rfl (by omega) ?_
  refine lr_callv (M2 := mi_M_feature) (id := 761) (as := [.int (xs (6 * n + 1))]) (rest := [.int v]) X dL_748 rfl k_L_82 cm_M_feature cv_M_feature h761 (Nat.le_of_ble_eq_true rfl) rfl rfl (Nat.le_of_ble_eq_true rfl) hM (by omega) (by omega) (by omega) rfl (fun r2 h2 hq2 => ?_)
  obtain ⟨rfl, hI2⟩ := hq2
  change LR w p l e s m below meth c b 751 (LV w b (6 * n)) [.int v, .int v] h2 (cells + ac + ac2) (slots + az + az2)
  exact lr_same X dL_751 rfl (kk h2 _ _ hI2 (by omega) (by omega))
theorem law_15 {w : WD} {p : Program} {l : Launch} {e : Env} {s : State} {m : MethodId} {below : List Frame} {meth : Method} {c : Code} {b L : Nat} {xs : Nat → Int32} : LCase w p l e s m below meth c b L xs 756 := by
  intro X n h cells slots hi hn hI hc hs kk
  obtain ⟨I, R, Lg, sh, N, tp, nt, nk, nP, nF, nS, kA, fA, cA, gA, rfl, hC, hr⟩ := hI
  obtain ⟨ac, az, hac, haz, hX⟩ := s_tell hC hr (by omega) (x1 := xs (6 * n + 1)) (x2 := xs (6 * n + 2)) (x3 := xs (6 * n + 3))
  refine lr_aload (i := 1) X dL_756 rfl rfl lv1 ?_
  refine lr_arg (k := 1) X dL_757 rfl dL_758 rfl dL_759 rfl dL_760 rfl dL_761 rfl rfl (by omega) ?_
  refine lr_arg (k := 2) X dL_762 rfl dL_763 rfl dL_764 rfl dL_765 rfl dL_766 rfl rfl (by omega) ?_
  refine lr_arg (k := 3) X dL_767 rfl dL_768 rfl dL_769 rfl dL_770 rfl dL_771 rfl rfl (by omega) ?_
  refine lr_callv (M2 := mi_X_tell) (id := 0) (as := [.int (xs (6 * n + 1)), .int (xs (6 * n + 2)), .int (xs (6 * n + 3))]) (rest := []) X dL_772 rfl k_L_83 cm_X_tell cv_X_tell (sh_0 hC.1.1) (Nat.le_of_ble_eq_true rfl) rfl rfl (Nat.le_of_ble_eq_true rfl) hX (by omega) (by omega) (by omega) rfl (fun r h1 hq => ?_)
  obtain ⟨ac2, az2, hac2, haz2, ⟨⟨v, rfl⟩, h761⟩, hM⟩ := hq
  change LR w p l e s m below meth c b 775 (LV w b (6 * n)) [.int v] h1 (cells + ac) (slots + az)
  refine lr_aload (i := 2) X dL_775 rfl rfl lv2 ?_
  refine lr_arg (k := 1) X dL_776 rfl dL_777 rfl dL_778 rfl dL_779 rfl dL_780 rfl rfl (by omega) ?_
  refine lr_arg (k := 2) X dL_781 rfl dL_782 rfl dL_783 rfl dL_784 rfl dL_785 rfl rfl (by omega) ?_
  refine lr_arg (k := 3) X dL_786 rfl dL_787 rfl dL_788 rfl dL_789 rfl dL_790 rfl rfl (by omega) ?_
  refine lr_callv (M2 := mi_M_tell) (id := 761) (as := [.int (xs (6 * n + 1)), .int (xs (6 * n + 2)), .int (xs (6 * n + 3))]) (rest := [.int v]) X dL_791 rfl k_L_86 cm_M_tell cv_M_tell h761 (Nat.le_of_ble_eq_true rfl) rfl rfl (Nat.le_of_ble_eq_true rfl) hM (by omega) (by omega) (by omega) rfl (fun r2 h2 hq2 => ?_)
  obtain ⟨rfl, hI2⟩ := hq2
  change LR w p l e s m below meth c b 794 (LV w b (6 * n)) [.int v, .int v] h2 (cells + ac + ac2) (slots + az + az2)
  exact lr_same X dL_794 rfl (kk h2 _ _ hI2 (by omega) (by omega))
theorem law_16 {w : WD} {p : Program} {l : Launch} {e : Env} {s : State} {m : MethodId} {below : List Frame} {meth : Method} {c : Code} {b L : Nat} {xs : Nat → Int32} : LCase w p l e s m below meth c b L xs 799 := by
  intro X n h cells slots hi hn hI hc hs kk
  obtain ⟨I, R, Lg, sh, N, tp, nt, nk, nP, nF, nS, kA, fA, cA, gA, rfl, hC, hr⟩ := hI
  obtain ⟨ac, az, hac, haz, hX⟩ := s_rule hC hr (by omega) (x1 := xs (6 * n + 1))
  refine lr_aload (i := 1) X dL_799 rfl rfl lv1 ?_
  refine lr_arg (k := 1) X dL_800 rfl dL_801 rfl dL_802 rfl dL_803 rfl dL_804 rfl rfl (by omega) ?_
  refine lr_callv (M2 := mi_X_rule) (id := 0) (as := [.int (xs (6 * n + 1))]) (rest := []) X dL_805 rfl k_L_87 cm_X_rule cv_X_rule (sh_0 hC.1.1) (Nat.le_of_ble_eq_true rfl) rfl rfl (Nat.le_of_ble_eq_true rfl) hX (by omega) (by omega) (by omega) rfl (fun r h1 hq => ?_)
  obtain ⟨ac2, az2, hac2, haz2, ⟨⟨v, rfl⟩, h761⟩, hM⟩ := hq
  change LR w p l e s m below meth c b 808 (LV w b (6 * n)) [.int v] h1 (cells + ac) (slots + az)
  refine lr_aload (i := 2) X dL_808 rfl rfl lv2 ?_
  refine lr_arg (k := 1) X dL_809 rfl dL_810 rfl dL_811 rfl dL_812 rfl dL_813 rfl rfl (by omega) ?_
  refine lr_callv (M2 := mi_M_rule) (id := 761) (as := [.int (xs (6 * n + 1))]) (rest := [.int v]) X dL_814 rfl k_L_90 cm_M_rule cv_M_rule h761 (Nat.le_of_ble_eq_true rfl) rfl rfl (Nat.le_of_ble_eq_true rfl) hM (by omega) (by omega) (by omega) rfl (fun r2 h2 hq2 => ?_)
  obtain ⟨rfl, hI2⟩ := hq2
  change LR w p l e s m below meth c b 817 (LV w b (6 * n)) [.int v, .int v] h2 (cells + ac + ac2) (slots + az + az2)
  exact lr_same X dL_817 rfl (kk h2 _ _ hI2 (by omega) (by omega))
theorem law_17 {w : WD} {p : Program} {l : Launch} {e : Env} {s : State} {m : MethodId} {below : List Frame} {meth : Method} {c : Code} {b L : Nat} {xs : Nat → Int32} : LCase w p l e s m below meth c b L xs 822 := by
  intro X n h cells slots hi hn hI hc hs kk
  obtain ⟨I, R, Lg, sh, N, tp, nt, nk, nP, nF, nS, kA, fA, cA, gA, rfl, hC, hr⟩ := hI
  obtain ⟨ac, az, hac, haz, hX⟩ := s_drop hC hr (by omega) (x1 := xs (6 * n + 1)) (x2 := xs (6 * n + 2))
  refine lr_aload (i := 1) X dL_822 rfl rfl lv1 ?_
  refine lr_arg (k := 1) X dL_823 rfl dL_824 rfl dL_825 rfl dL_826 rfl dL_827 rfl rfl (by omega) ?_
  refine lr_arg (k := 2) X dL_828 rfl dL_829 rfl dL_830 rfl dL_831 rfl dL_832 rfl rfl (by omega) ?_
  refine lr_callv (M2 := mi_X_drop) (id := 0) (as := [.int (xs (6 * n + 1)), .int (xs (6 * n + 2))]) (rest := []) X dL_833 rfl k_L_91 cm_X_drop cv_X_drop (sh_0 hC.1.1) (Nat.le_of_ble_eq_true rfl) rfl rfl (Nat.le_of_ble_eq_true rfl) hX (by omega) (by omega) (by omega) rfl (fun r h1 hq => ?_)
  obtain ⟨ac2, az2, hac2, haz2, ⟨⟨v, rfl⟩, h761⟩, hM⟩ := hq
  change LR w p l e s m below meth c b 836 (LV w b (6 * n)) [.int v] h1 (cells + ac) (slots + az)
  refine lr_aload (i := 2) X dL_836 rfl rfl lv2 ?_
  refine lr_arg (k := 1) X dL_837 rfl dL_838 rfl dL_839 rfl dL_840 rfl dL_841 rfl rfl (by omega) ?_
  refine lr_arg (k := 2) X dL_842 rfl dL_843 rfl dL_844 rfl dL_845 rfl dL_846 rfl rfl (by omega) ?_
  refine lr_callv (M2 := mi_M_drop) (id := 761) (as := [.int (xs (6 * n + 1)), .int (xs (6 * n + 2))]) (rest := [.int v]) X dL_847 rfl k_L_94 cm_M_drop cv_M_drop h761 (Nat.le_of_ble_eq_true rfl) rfl rfl (Nat.le_of_ble_eq_true rfl) hM (by omega) (by omega) (by omega) rfl (fun r2 h2 hq2 => ?_)
  obtain ⟨rfl, hI2⟩ := hq2
  change LR w p l e s m below meth c b 850 (LV w b (6 * n)) [.int v, .int v] h2 (cells + ac + ac2) (slots + az + az2)
  exact lr_same X dL_850 rfl (kk h2 _ _ hI2 (by omega) (by omega))
theorem law_18 {w : WD} {p : Program} {l : Launch} {e : Env} {s : State} {m : MethodId} {below : List Frame} {meth : Method} {c : Code} {b L : Nat} {xs : Nat → Int32} : LCase w p l e s m below meth c b L xs 855 := by
  intro X n h cells slots hi hn hI hc hs kk
  obtain ⟨I, R, Lg, sh, N, tp, nt, nk, nP, nF, nS, kA, fA, cA, gA, rfl, hC, hr⟩ := hI
  obtain ⟨ac, az, hac, haz, hX⟩ := s_part hC hr (by omega) (x1 := xs (6 * n + 1)) (x2 := xs (6 * n + 2)) (x3 := xs (6 * n + 3)) (x4 := xs (6 * n + 4))
  refine lr_aload (i := 1) X dL_855 rfl rfl lv1 ?_
  refine lr_arg (k := 1) X dL_856 rfl dL_857 rfl dL_858 rfl dL_859 rfl dL_860 rfl rfl (by omega) ?_
  refine lr_arg (k := 2) X dL_861 rfl dL_862 rfl dL_863 rfl dL_864 rfl dL_865 rfl rfl (by omega) ?_
  refine lr_arg (k := 3) X dL_866 rfl dL_867 rfl dL_868 rfl dL_869 rfl dL_870 rfl rfl (by omega) ?_
  refine lr_arg (k := 4) X dL_871 rfl dL_872 rfl dL_873 rfl dL_874 rfl dL_875 rfl rfl (by omega) ?_
  refine lr_callv (M2 := mi_X_part) (id := 0) (as := [.int (xs (6 * n + 1)), .int (xs (6 * n + 2)), .int (xs (6 * n + 3)), .int (xs (6 * n + 4))]) (rest := []) X dL_876 rfl k_L_95 cm_X_part cv_X_part (sh_0 hC.1.1) (Nat.le_of_ble_eq_true rfl) rfl rfl (Nat.le_of_ble_eq_true rfl) hX (by omega) (by omega) (by omega) rfl (fun r h1 hq => ?_)
  obtain ⟨ac2, az2, hac2, haz2, ⟨⟨v, rfl⟩, h761⟩, hM⟩ := hq
  change LR w p l e s m below meth c b 879 (LV w b (6 * n)) [.int v] h1 (cells + ac) (slots + az)
  refine lr_aload (i := 2) X dL_879 rfl rfl lv2 ?_
  refine lr_arg (k := 1) X dL_880 rfl dL_881 rfl dL_882 rfl dL_883 rfl dL_884 rfl rfl (by omega) ?_
  refine lr_arg (k := 2) X dL_885 rfl dL_886 rfl dL_887 rfl dL_888 rfl dL_889 rfl rfl (by omega) ?_
  refine lr_arg (k := 3) X dL_890 rfl dL_891 rfl dL_892 rfl dL_893 rfl dL_894 rfl rfl (by omega) ?_
  refine lr_arg (k := 4) X dL_895 rfl dL_896 rfl dL_897 rfl dL_898 rfl dL_899 rfl rfl (by omega) ?_
  refine lr_callv (M2 := mi_M_part) (id := 761) (as := [.int (xs (6 * n + 1)), .int (xs (6 * n + 2)), .int (xs (6 * n + 3)), .int (xs (6 * n + 4))]) (rest := [.int v]) X dL_900 rfl k_L_98 cm_M_part cv_M_part h761 (Nat.le_of_ble_eq_true rfl) rfl rfl (Nat.le_of_ble_eq_true rfl) hM (by omega) (by omega) (by omega) rfl (fun r2 h2 hq2 => ?_)
  obtain ⟨rfl, hI2⟩ := hq2
  change LR w p l e s m below meth c b 903 (LV w b (6 * n)) [.int v, .int v] h2 (cells + ac + ac2) (slots + az + az2)
  exact lr_same X dL_903 rfl (kk h2 _ _ hI2 (by omega) (by omega))
theorem law_19 {w : WD} {p : Program} {l : Launch} {e : Env} {s : State} {m : MethodId} {below : List Frame} {meth : Method} {c : Code} {b L : Nat} {xs : Nat → Int32} : LCase w p l e s m below meth c b L xs 908 := by
  intro X n h cells slots hi hn hI hc hs kk
  obtain ⟨I, R, Lg, sh, N, tp, nt, nk, nP, nF, nS, kA, fA, cA, gA, rfl, hC, hr⟩ := hI
  obtain ⟨ac, az, hac, haz, hX⟩ := s_needs hC hr (by omega) (x1 := xs (6 * n + 1)) (x2 := xs (6 * n + 2)) (x3 := xs (6 * n + 3))
  refine lr_aload (i := 1) X dL_908 rfl rfl lv1 ?_
  refine lr_arg (k := 1) X dL_909 rfl dL_910 rfl dL_911 rfl dL_912 rfl dL_913 rfl rfl (by omega) ?_
  refine lr_arg (k := 2) X dL_914 rfl dL_915 rfl dL_916 rfl dL_917 rfl dL_918 rfl rfl (by omega) ?_
  refine lr_arg (k := 3) X dL_919 rfl dL_920 rfl dL_921 rfl dL_922 rfl dL_923 rfl rfl (by omega) ?_
  refine lr_callv (M2 := mi_X_needs) (id := 0) (as := [.int (xs (6 * n + 1)), .int (xs (6 * n + 2)), .int (xs (6 * n + 3))]) (rest := []) X dL_924 rfl k_L_99 cm_X_needs cv_X_needs (sh_0 hC.1.1) (Nat.le_of_ble_eq_true rfl) rfl rfl (Nat.le_of_ble_eq_true rfl) hX (by omega) (by omega) (by omega) rfl (fun r h1 hq => ?_)
  obtain ⟨ac2, az2, hac2, haz2, ⟨⟨v, rfl⟩, h761⟩, hM⟩ := hq
  change LR w p l e s m below meth c b 927 (LV w b (6 * n)) [.int v] h1 (cells + ac) (slots + az)
  refine lr_aload (i := 2) X dL_927 rfl rfl lv2 ?_
  refine lr_arg (k := 1) X dL_928 rfl dL_929 rfl dL_930 rfl dL_931 rfl dL_932 rfl rfl (by omega) ?_
  refine lr_arg (k := 2) X dL_933 rfl dL_934 rfl dL_935 rfl dL_936 rfl dL_937 rfl rfl (by omega) ?_
  refine lr_arg (k := 3) X dL_938 rfl dL_939 rfl dL_940 rfl dL_941 rfl dL_942 rfl rfl (by omega) ?_
  refine lr_callv (M2 := mi_M_needs) (id := 761) (as := [.int (xs (6 * n + 1)), .int (xs (6 * n + 2)), .int (xs (6 * n + 3))]) (rest := [.int v]) X dL_943 rfl k_L_102 cm_M_needs cv_M_needs h761 (Nat.le_of_ble_eq_true rfl) rfl rfl (Nat.le_of_ble_eq_true rfl) hM (by omega) (by omega) (by omega) rfl (fun r2 h2 hq2 => ?_)
  obtain ⟨rfl, hI2⟩ := hq2
  change LR w p l e s m below meth c b 946 (LV w b (6 * n)) [.int v, .int v] h2 (cells + ac + ac2) (slots + az + az2)
  exact lr_same X dL_946 rfl (kk h2 _ _ hI2 (by omega) (by omega))
theorem law_20 {w : WD} {p : Program} {l : Launch} {e : Env} {s : State} {m : MethodId} {below : List Frame} {meth : Method} {c : Code} {b L : Nat} {xs : Nat → Int32} : LCase w p l e s m below meth c b L xs 951 := by
  intro X n h cells slots hi hn hI hc hs kk
  obtain ⟨I, R, Lg, sh, N, tp, nt, nk, nP, nF, nS, kA, fA, cA, gA, rfl, hC, hr⟩ := hI
  obtain ⟨ac, az, hac, haz, hX⟩ := s_free hC hr (by omega) (x1 := xs (6 * n + 1))
  refine lr_aload (i := 1) X dL_951 rfl rfl lv1 ?_
  refine lr_arg (k := 1) X dL_952 rfl dL_953 rfl dL_954 rfl dL_955 rfl dL_956 rfl rfl (by omega) ?_
  refine lr_callv (M2 := mi_X_free) (id := 0) (as := [.int (xs (6 * n + 1))]) (rest := []) X dL_957 rfl k_L_103 cm_X_free cv_X_free (sh_0 hC.1.1) (Nat.le_of_ble_eq_true rfl) rfl rfl (Nat.le_of_ble_eq_true rfl) hX (by omega) (by omega) (by omega) rfl (fun r h1 hq => ?_)
  obtain ⟨ac2, az2, hac2, haz2, ⟨⟨v, rfl⟩, h761⟩, hM⟩ := hq
  change LR w p l e s m below meth c b 960 (LV w b (6 * n)) [.int v] h1 (cells + ac) (slots + az)
  refine lr_aload (i := 2) X dL_960 rfl rfl lv2 ?_
  refine lr_arg (k := 1) X dL_961 rfl dL_962 rfl dL_963 rfl dL_964 rfl dL_965 rfl rfl (by omega) ?_
  refine lr_callv (M2 := mi_M_free) (id := 761) (as := [.int (xs (6 * n + 1))]) (rest := [.int v]) X dL_966 rfl k_L_106 cm_M_free cv_M_free h761 (Nat.le_of_ble_eq_true rfl) rfl rfl (Nat.le_of_ble_eq_true rfl) hM (by omega) (by omega) (by omega) rfl (fun r2 h2 hq2 => ?_)
  obtain ⟨rfl, hI2⟩ := hq2
  change LR w p l e s m below meth c b 969 (LV w b (6 * n)) [.int v, .int v] h2 (cells + ac + ac2) (slots + az + az2)
  exact lr_same X dL_969 rfl (kk h2 _ _ hI2 (by omega) (by omega))
theorem law_21 {w : WD} {p : Program} {l : Launch} {e : Env} {s : State} {m : MethodId} {below : List Frame} {meth : Method} {c : Code} {b L : Nat} {xs : Nat → Int32} : LCase w p l e s m below meth c b L xs 974 := by
  intro X n h cells slots hi hn hI hc hs kk
  obtain ⟨I, R, Lg, sh, N, tp, nt, nk, nP, nF, nS, kA, fA, cA, gA, rfl, hC, hr⟩ := hI
  obtain ⟨ac, az, hac, haz, hX⟩ := s_override hC hr (by omega) (x1 := xs (6 * n + 1)) (x2 := xs (6 * n + 2)) (x3 := xs (6 * n + 3))
  refine lr_aload (i := 1) X dL_974 rfl rfl lv1 ?_
  refine lr_arg (k := 1) X dL_975 rfl dL_976 rfl dL_977 rfl dL_978 rfl dL_979 rfl rfl (by omega) ?_
  refine lr_arg (k := 2) X dL_980 rfl dL_981 rfl dL_982 rfl dL_983 rfl dL_984 rfl rfl (by omega) ?_
  refine lr_arg (k := 3) X dL_985 rfl dL_986 rfl dL_987 rfl dL_988 rfl dL_989 rfl rfl (by omega) ?_
  refine lr_callv (M2 := mi_X_override) (id := 0) (as := [.int (xs (6 * n + 1)), .int (xs (6 * n + 2)), .int (xs (6 * n + 3))]) (rest := []) X dL_990 rfl k_L_107 cm_X_override cv_X_override (sh_0 hC.1.1) (Nat.le_of_ble_eq_true rfl) rfl rfl (Nat.le_of_ble_eq_true rfl) hX (by omega) (by omega) (by omega) rfl (fun r h1 hq => ?_)
  obtain ⟨ac2, az2, hac2, haz2, ⟨⟨v, rfl⟩, h761⟩, hM⟩ := hq
  change LR w p l e s m below meth c b 993 (LV w b (6 * n)) [.int v] h1 (cells + ac) (slots + az)
  refine lr_aload (i := 2) X dL_993 rfl rfl lv2 ?_
  refine lr_arg (k := 1) X dL_994 rfl dL_995 rfl dL_996 rfl dL_997 rfl dL_998 rfl rfl (by omega) ?_
  refine lr_arg (k := 2) X dL_999 rfl dL_1000 rfl dL_1001 rfl dL_1002 rfl dL_1003 rfl rfl (by omega) ?_
  refine lr_arg (k := 3) X dL_1004 rfl dL_1005 rfl dL_1006 rfl dL_1007 rfl dL_1008 rfl rfl (by omega) ?_
  refine lr_callv (M2 := mi_M_override) (id := 761) (as := [.int (xs (6 * n + 1)), .int (xs (6 * n + 2)), .int (xs (6 * n + 3))]) (rest := [.int v]) X dL_1009 rfl k_L_110 cm_M_override cv_M_override h761 (Nat.le_of_ble_eq_true rfl) rfl rfl (Nat.le_of_ble_eq_true rfl) hM (by omega) (by omega) (by omega) rfl (fun r2 h2 hq2 => ?_)
  obtain ⟨rfl, hI2⟩ := hq2
  change LR w p l e s m below meth c b 1012 (LV w b (6 * n)) [.int v, .int v] h2 (cells + ac + ac2) (slots + az + az2)
  exact lr_same X dL_1012 rfl (kk h2 _ _ hI2 (by omega) (by omega))
theorem law_22 {w : WD} {p : Program} {l : Launch} {e : Env} {s : State} {m : MethodId} {below : List Frame} {meth : Method} {c : Code} {b L : Nat} {xs : Nat → Int32} : LCase w p l e s m below meth c b L xs 1017 := by
  intro X n h cells slots hi hn hI hc hs kk
  obtain ⟨I, R, Lg, sh, N, tp, nt, nk, nP, nF, nS, kA, fA, cA, gA, rfl, hC, hr⟩ := hI
  obtain ⟨ac, az, hac, haz, hX⟩ := s_layer hC hr (by omega) (x1 := xs (6 * n + 1)) (x2 := xs (6 * n + 2)) (x3 := xs (6 * n + 3)) (x4 := xs (6 * n + 4))
  refine lr_aload (i := 1) X dL_1017 rfl rfl lv1 ?_
  refine lr_arg (k := 1) X dL_1018 rfl dL_1019 rfl dL_1020 rfl dL_1021 rfl dL_1022 rfl rfl (by omega) ?_
  refine lr_arg (k := 2) X dL_1023 rfl dL_1024 rfl dL_1025 rfl dL_1026 rfl dL_1027 rfl rfl (by omega) ?_
  refine lr_arg (k := 3) X dL_1028 rfl dL_1029 rfl dL_1030 rfl dL_1031 rfl dL_1032 rfl rfl (by omega) ?_
  refine lr_arg (k := 4) X dL_1033 rfl dL_1034 rfl dL_1035 rfl dL_1036 rfl dL_1037 rfl rfl (by omega) ?_
  refine lr_callv (M2 := mi_X_layer) (id := 0) (as := [.int (xs (6 * n + 1)), .int (xs (6 * n + 2)), .int (xs (6 * n + 3)), .int (xs (6 * n + 4))]) (rest := []) X dL_1038 rfl k_L_111 cm_X_layer cv_X_layer (sh_0 hC.1.1) (Nat.le_of_ble_eq_true rfl) rfl rfl (Nat.le_of_ble_eq_true rfl) hX (by omega) (by omega) (by omega) rfl (fun r h1 hq => ?_)
  obtain ⟨ac2, az2, hac2, haz2, ⟨⟨v, rfl⟩, h761⟩, hM⟩ := hq
  change LR w p l e s m below meth c b 1041 (LV w b (6 * n)) [.int v] h1 (cells + ac) (slots + az)
  refine lr_aload (i := 2) X dL_1041 rfl rfl lv2 ?_
  refine lr_arg (k := 1) X dL_1042 rfl dL_1043 rfl dL_1044 rfl dL_1045 rfl dL_1046 rfl rfl (by omega) ?_
  refine lr_arg (k := 2) X dL_1047 rfl dL_1048 rfl dL_1049 rfl dL_1050 rfl dL_1051 rfl rfl (by omega) ?_
  refine lr_arg (k := 3) X dL_1052 rfl dL_1053 rfl dL_1054 rfl dL_1055 rfl dL_1056 rfl rfl (by omega) ?_
  refine lr_arg (k := 4) X dL_1057 rfl dL_1058 rfl dL_1059 rfl dL_1060 rfl dL_1061 rfl rfl (by omega) ?_
  refine lr_callv (M2 := mi_M_layer) (id := 761) (as := [.int (xs (6 * n + 1)), .int (xs (6 * n + 2)), .int (xs (6 * n + 3)), .int (xs (6 * n + 4))]) (rest := [.int v]) X dL_1062 rfl k_L_114 cm_M_layer cv_M_layer h761 (Nat.le_of_ble_eq_true rfl) rfl rfl (Nat.le_of_ble_eq_true rfl) hM (by omega) (by omega) (by omega) rfl (fun r2 h2 hq2 => ?_)
  obtain ⟨rfl, hI2⟩ := hq2
  change LR w p l e s m below meth c b 1065 (LV w b (6 * n)) [.int v, .int v] h2 (cells + ac + ac2) (slots + az + az2)
  exact lr_same X dL_1065 rfl (kk h2 _ _ hI2 (by omega) (by omega))
theorem law_23 {w : WD} {p : Program} {l : Launch} {e : Env} {s : State} {m : MethodId} {below : List Frame} {meth : Method} {c : Code} {b L : Nat} {xs : Nat → Int32} : LCase w p l e s m below meth c b L xs 1070 := by
  intro X n h cells slots hi hn hI hc hs kk
  obtain ⟨I, R, Lg, sh, N, tp, nt, nk, nP, nF, nS, kA, fA, cA, gA, rfl, hC, hr⟩ := hI
  obtain ⟨ac, az, hac, haz, hX⟩ := s_step hC hr (by omega) (x1 := xs (6 * n + 1)) (x2 := xs (6 * n + 2)) (x3 := xs (6 * n + 3)) (x4 := xs (6 * n + 4)) (x5 := xs (6 * n + 5))
  refine lr_aload (i := 1) X dL_1070 rfl rfl lv1 ?_
  refine lr_arg (k := 1) X dL_1071 rfl dL_1072 rfl dL_1073 rfl dL_1074 rfl dL_1075 rfl rfl (by omega) ?_
  refine lr_arg (k := 2) X dL_1076 rfl dL_1077 rfl dL_1078 rfl dL_1079 rfl dL_1080 rfl rfl (by omega) ?_
  refine lr_arg (k := 3) X dL_1081 rfl dL_1082 rfl dL_1083 rfl dL_1084 rfl dL_1085 rfl rfl (by omega) ?_
  refine lr_arg (k := 4) X dL_1086 rfl dL_1087 rfl dL_1088 rfl dL_1089 rfl dL_1090 rfl rfl (by omega) ?_
  refine lr_arg (k := 5) X dL_1091 rfl dL_1092 rfl dL_1093 rfl dL_1094 rfl dL_1095 rfl rfl (by omega) ?_
  refine lr_callv (M2 := mi_X_step) (id := 0) (as := [.int (xs (6 * n + 1)), .int (xs (6 * n + 2)), .int (xs (6 * n + 3)), .int (xs (6 * n + 4)), .int (xs (6 * n + 5))]) (rest := []) X dL_1096 rfl k_L_115 cm_X_step cv_X_step (sh_0 hC.1.1) (Nat.le_of_ble_eq_true rfl) rfl rfl (Nat.le_of_ble_eq_true rfl) hX (by omega) (by omega) (by omega) rfl (fun r h1 hq => ?_)
  obtain ⟨ac2, az2, hac2, haz2, ⟨⟨v, rfl⟩, h761⟩, hM⟩ := hq
  change LR w p l e s m below meth c b 1099 (LV w b (6 * n)) [.int v] h1 (cells + ac) (slots + az)
  refine lr_aload (i := 2) X dL_1099 rfl rfl lv2 ?_
  refine lr_arg (k := 1) X dL_1100 rfl dL_1101 rfl dL_1102 rfl dL_1103 rfl dL_1104 rfl rfl (by omega) ?_
  refine lr_arg (k := 2) X dL_1105 rfl dL_1106 rfl dL_1107 rfl dL_1108 rfl dL_1109 rfl rfl (by omega) ?_
  refine lr_arg (k := 3) X dL_1110 rfl dL_1111 rfl dL_1112 rfl dL_1113 rfl dL_1114 rfl rfl (by omega) ?_
  refine lr_arg (k := 4) X dL_1115 rfl dL_1116 rfl dL_1117 rfl dL_1118 rfl dL_1119 rfl rfl (by omega) ?_
  refine lr_arg (k := 5) X dL_1120 rfl dL_1121 rfl dL_1122 rfl dL_1123 rfl dL_1124 rfl rfl (by omega) ?_
  refine lr_callv (M2 := mi_M_step) (id := 761) (as := [.int (xs (6 * n + 1)), .int (xs (6 * n + 2)), .int (xs (6 * n + 3)), .int (xs (6 * n + 4)), .int (xs (6 * n + 5))]) (rest := [.int v]) X dL_1125 rfl k_L_118 cm_M_step cv_M_step h761 (Nat.le_of_ble_eq_true rfl) rfl rfl (Nat.le_of_ble_eq_true rfl) hM (by omega) (by omega) (by omega) rfl (fun r2 h2 hq2 => ?_)
  obtain ⟨rfl, hI2⟩ := hq2
  change LR w p l e s m below meth c b 1128 (LV w b (6 * n)) [.int v, .int v] h2 (cells + ac + ac2) (slots + az + az2)
  exact lr_same X dL_1128 rfl (kk h2 _ _ hI2 (by omega) (by omega))
