section LCS
variable {sc : SC} {kc ks i k : Nat} {h : Nat → Int → Int} {x5 x6 x7 : PV} {Q : Option PV → PH → Prop}
theorem LC_16 (hsc : sc.1 ≤ 2560) (hv : ∀ j, r32 (sc.2.1 j)) (hi : i + 5 ≤ sc.1) (hk : k ≤ 1000) (hs : SR k h) (next : ∀ h4, SR (k + 1) h4 → RG sc mL_law 762 kc ks 1446 [pR 1300, pR 0, pR 147, pR 178, pI i, x5, x6, x7] [] (shp0, rf0, h4) Q) : RG sc mL_law 762 kc ks 741 [pR 1300, pR 0, pR 147, pR 178, pI i, x5, x6, x7] [] (shp0, rf0, h) Q := by
  obtain ⟨sem, H, np, nc, len, hs⟩ := hs
  refine G_aload_n dL_law_741 rfl (?_ : RG _ _ _ _ _ 742 _ _ _ _)
  refine G_ag (n := 0) (As := []) (A_night hs hk) dL_law_742 dL_law_746 mvX11_night mvX12_night mlL_100 mlL_103 (Or.inl rfl) rfl (Nat.le_of_ble_eq_true rfl) (Nat.le_of_ble_eq_true rfl) (by decide) (by decide) rfl (fun z h3 kk => ?_) (fun z h4 hs4 => ?_)
  · refine G_aload_n dL_law_745 rfl (?_ : RG _ _ _ _ _ 746 _ _ _ _)
    exact kk
  · refine G_icmp_eq2 (t := 1446) dL_law_749 rfl (next h4 hs4)
theorem LC_17 (hsc : sc.1 ≤ 2560) (hv : ∀ j, r32 (sc.2.1 j)) (hi : i + 5 ≤ sc.1) (hk : k ≤ 1000) (hs : SR k h) (next : ∀ h4, SR (k + 1) h4 → RG sc mL_law 762 kc ks 1446 [pR 1300, pR 0, pR 147, pR 178, pI i, x5, x6, x7] [] (shp0, rf0, h4) Q) : RG sc mL_law 762 kc ks 754 [pR 1300, pR 0, pR 147, pR 178, pI i, x5, x6, x7] [] (shp0, rf0, h) Q := by
  obtain ⟨sem, H, np, nc, len, hs⟩ := hs
  refine G_aload_n dL_law_754 rfl (?_ : RG _ _ _ _ _ 755 _ _ _ _)
  refine G_ag (n := 0) (As := []) (A_undo hs) dL_law_755 dL_law_759 mvX11_undo mvX12_undo mlL_104 mlL_107 (Or.inl rfl) rfl (Nat.le_of_ble_eq_true rfl) (Nat.le_of_ble_eq_true rfl) (by decide) (by decide) rfl (fun z h3 kk => ?_) (fun z h4 hs4 => ?_)
  · refine G_aload_n dL_law_758 rfl (?_ : RG _ _ _ _ _ 759 _ _ _ _)
    exact kk
  · refine G_icmp_eq2 (t := 1446) dL_law_762 rfl (next h4 hs4)
theorem LC_18 (hsc : sc.1 ≤ 2560) (hv : ∀ j, r32 (sc.2.1 j)) (hi : i + 5 ≤ sc.1) (hk : k ≤ 1000) (hs : SR k h) (next : ∀ h4, SR (k + 1) h4 → RG sc mL_law 762 kc ks 1446 [pR 1300, pR 0, pR 147, pR 178, pI i, x5, x6, x7] [] (shp0, rf0, h4) Q) : RG sc mL_law 762 kc ks 767 [pR 1300, pR 0, pR 147, pR 178, pI i, x5, x6, x7] [] (shp0, rf0, h) Q := by
  obtain ⟨sem, H, np, nc, len, hs⟩ := hs
  refine G_aload_n dL_law_767 rfl (?_ : RG _ _ _ _ _ 768 _ _ _ _)
  refine G_aload_n dL_law_768 rfl (?_ : RG _ _ _ _ _ 769 _ _ _ _)
  refine G_iload dL_law_769 rfl (?_ : RG _ _ _ _ _ 771 _ _ _ _)
  refine G_iconst dL_law_771 (?_ : RG _ _ _ _ _ 772 _ _ _ _)
  refine G_iadd dL_law_772 (?_ : RG _ _ _ _ _ 773 _ _ _ _)
  refine G_sld (j := i + 1) dL_law_773 (by omega) hsc (by omega) (?_ : RG _ _ _ _ _ 774 _ _ _ _)
  refine G_aload_n dL_law_774 rfl (?_ : RG _ _ _ _ _ 775 _ _ _ _)
  refine G_iload dL_law_775 rfl (?_ : RG _ _ _ _ _ 777 _ _ _ _)
  refine G_iconst dL_law_777 (?_ : RG _ _ _ _ _ 778 _ _ _ _)
  refine G_iadd dL_law_778 (?_ : RG _ _ _ _ _ 779 _ _ _ _)
  refine G_sld (j := i + 2) dL_law_779 (by omega) hsc (by omega) (?_ : RG _ _ _ _ _ 780 _ _ _ _)
  refine G_ag (n := 2) (As := [pI (sc.2.1 (i + 1)), pI (sc.2.1 (i + 2))]) (A_way hs (hv (i + 1)) (hv (i + 2))) dL_law_780 dL_law_796 mvX11_way mvX12_way mlL_108 mlL_111 (Or.inl rfl) rfl (Nat.le_of_ble_eq_true rfl) (Nat.le_of_ble_eq_true rfl) (by decide) (by decide) rfl (fun z h3 kk => ?_) (fun z h4 hs4 => ?_)
  · refine G_aload_n dL_law_783 rfl (?_ : RG _ _ _ _ _ 784 _ _ _ _)
    refine G_aload_n dL_law_784 rfl (?_ : RG _ _ _ _ _ 785 _ _ _ _)
    refine G_iload dL_law_785 rfl (?_ : RG _ _ _ _ _ 787 _ _ _ _)
    refine G_iconst dL_law_787 (?_ : RG _ _ _ _ _ 788 _ _ _ _)
    refine G_iadd dL_law_788 (?_ : RG _ _ _ _ _ 789 _ _ _ _)
    refine G_sld (j := i + 1) dL_law_789 (by omega) hsc (by omega) (?_ : RG _ _ _ _ _ 790 _ _ _ _)
    refine G_aload_n dL_law_790 rfl (?_ : RG _ _ _ _ _ 791 _ _ _ _)
    refine G_iload dL_law_791 rfl (?_ : RG _ _ _ _ _ 793 _ _ _ _)
    refine G_iconst dL_law_793 (?_ : RG _ _ _ _ _ 794 _ _ _ _)
    refine G_iadd dL_law_794 (?_ : RG _ _ _ _ _ 795 _ _ _ _)
    refine G_sld (j := i + 2) dL_law_795 (by omega) hsc (by omega) (?_ : RG _ _ _ _ _ 796 _ _ _ _)
    exact kk
  · refine G_icmp_eq2 (t := 1446) dL_law_799 rfl (next h4 hs4)
theorem LC_19 (hsc : sc.1 ≤ 2560) (hv : ∀ j, r32 (sc.2.1 j)) (hi : i + 5 ≤ sc.1) (hk : k ≤ 1000) (hs : SR k h) (next : ∀ h4, SR (k + 1) h4 → RG sc mL_law 762 kc ks 1446 [pR 1300, pR 0, pR 147, pR 178, pI i, x5, x6, x7] [] (shp0, rf0, h4) Q) : RG sc mL_law 762 kc ks 804 [pR 1300, pR 0, pR 147, pR 178, pI i, x5, x6, x7] [] (shp0, rf0, h) Q := by
  obtain ⟨sem, H, np, nc, len, hs⟩ := hs
  refine G_aload_n dL_law_804 rfl (?_ : RG _ _ _ _ _ 805 _ _ _ _)
  refine G_ag (n := 0) (As := []) (A_course hs hk) dL_law_805 dL_law_809 mvX11_course mvX12_course mlL_112 mlL_115 (Or.inl rfl) rfl (Nat.le_of_ble_eq_true rfl) (Nat.le_of_ble_eq_true rfl) (by decide) (by decide) rfl (fun z h3 kk => ?_) (fun z h4 hs4 => ?_)
  · refine G_aload_n dL_law_808 rfl (?_ : RG _ _ _ _ _ 809 _ _ _ _)
    exact kk
  · refine G_icmp_eq2 (t := 1446) dL_law_812 rfl (next h4 hs4)
theorem LC_20 (hsc : sc.1 ≤ 2560) (hv : ∀ j, r32 (sc.2.1 j)) (hi : i + 5 ≤ sc.1) (hk : k ≤ 1000) (hs : SR k h) (next : ∀ h4, SR (k + 1) h4 → RG sc mL_law 762 kc ks 1446 [pR 1300, pR 0, pR 147, pR 178, pI i, x5, x6, x7] [] (shp0, rf0, h4) Q) : RG sc mL_law 762 kc ks 817 [pR 1300, pR 0, pR 147, pR 178, pI i, x5, x6, x7] [] (shp0, rf0, h) Q := by
  obtain ⟨sem, H, np, nc, len, hs⟩ := hs
  refine G_aload_n dL_law_817 rfl (?_ : RG _ _ _ _ _ 818 _ _ _ _)
  refine G_aload_n dL_law_818 rfl (?_ : RG _ _ _ _ _ 819 _ _ _ _)
  refine G_iload dL_law_819 rfl (?_ : RG _ _ _ _ _ 821 _ _ _ _)
  refine G_iconst dL_law_821 (?_ : RG _ _ _ _ _ 822 _ _ _ _)
  refine G_iadd dL_law_822 (?_ : RG _ _ _ _ _ 823 _ _ _ _)
  refine G_sld (j := i + 1) dL_law_823 (by omega) hsc (by omega) (?_ : RG _ _ _ _ _ 824 _ _ _ _)
  refine G_ag (n := 1) (As := [pI (sc.2.1 (i + 1))]) (A_ahead hs hk (hv (i + 1))) dL_law_824 dL_law_834 mvX11_ahead mvX12_ahead mlL_116 mlL_119 (Or.inl rfl) rfl (Nat.le_of_ble_eq_true rfl) (Nat.le_of_ble_eq_true rfl) (by decide) (by decide) rfl (fun z h3 kk => ?_) (fun z h4 hs4 => ?_)
  · refine G_aload_n dL_law_827 rfl (?_ : RG _ _ _ _ _ 828 _ _ _ _)
    refine G_aload_n dL_law_828 rfl (?_ : RG _ _ _ _ _ 829 _ _ _ _)
    refine G_iload dL_law_829 rfl (?_ : RG _ _ _ _ _ 831 _ _ _ _)
    refine G_iconst dL_law_831 (?_ : RG _ _ _ _ _ 832 _ _ _ _)
    refine G_iadd dL_law_832 (?_ : RG _ _ _ _ _ 833 _ _ _ _)
    refine G_sld (j := i + 1) dL_law_833 (by omega) hsc (by omega) (?_ : RG _ _ _ _ _ 834 _ _ _ _)
    exact kk
  · refine G_icmp_eq2 (t := 1446) dL_law_837 rfl (next h4 hs4)
theorem LC_21 (hsc : sc.1 ≤ 2560) (hv : ∀ j, r32 (sc.2.1 j)) (hi : i + 5 ≤ sc.1) (hk : k ≤ 1000) (hs : SR k h) (next : ∀ h4, SR (k + 1) h4 → RG sc mL_law 762 kc ks 1446 [pR 1300, pR 0, pR 147, pR 178, pI i, x5, x6, x7] [] (shp0, rf0, h4) Q) : RG sc mL_law 762 kc ks 842 [pR 1300, pR 0, pR 147, pR 178, pI i, x5, x6, x7] [] (shp0, rf0, h) Q := by
  obtain ⟨sem, H, np, nc, len, hs⟩ := hs
  refine G_aload_n dL_law_842 rfl (?_ : RG _ _ _ _ _ 843 _ _ _ _)
  refine G_aload_n dL_law_843 rfl (?_ : RG _ _ _ _ _ 844 _ _ _ _)
  refine G_iload dL_law_844 rfl (?_ : RG _ _ _ _ _ 846 _ _ _ _)
  refine G_iconst dL_law_846 (?_ : RG _ _ _ _ _ 847 _ _ _ _)
  refine G_iadd dL_law_847 (?_ : RG _ _ _ _ _ 848 _ _ _ _)
  refine G_sld (j := i + 1) dL_law_848 (by omega) hsc (by omega) (?_ : RG _ _ _ _ _ 849 _ _ _ _)
  refine G_ag (n := 1) (As := [pI (sc.2.1 (i + 1))]) (A_arrives hs hk (hv (i + 1))) dL_law_849 dL_law_859 mvX11_arrives mvX12_arrives mlL_120 mlL_123 (Or.inl rfl) rfl (Nat.le_of_ble_eq_true rfl) (Nat.le_of_ble_eq_true rfl) (by decide) (by decide) rfl (fun z h3 kk => ?_) (fun z h4 hs4 => ?_)
  · refine G_aload_n dL_law_852 rfl (?_ : RG _ _ _ _ _ 853 _ _ _ _)
    refine G_aload_n dL_law_853 rfl (?_ : RG _ _ _ _ _ 854 _ _ _ _)
    refine G_iload dL_law_854 rfl (?_ : RG _ _ _ _ _ 856 _ _ _ _)
    refine G_iconst dL_law_856 (?_ : RG _ _ _ _ _ 857 _ _ _ _)
    refine G_iadd dL_law_857 (?_ : RG _ _ _ _ _ 858 _ _ _ _)
    refine G_sld (j := i + 1) dL_law_858 (by omega) hsc (by omega) (?_ : RG _ _ _ _ _ 859 _ _ _ _)
    exact kk
  · refine G_icmp_eq2 (t := 1446) dL_law_862 rfl (next h4 hs4)
theorem LC_22 (hsc : sc.1 ≤ 2560) (hv : ∀ j, r32 (sc.2.1 j)) (hi : i + 5 ≤ sc.1) (hk : k ≤ 1000) (hs : SR k h) (next : ∀ h4, SR (k + 1) h4 → RG sc mL_law 762 kc ks 1446 [pR 1300, pR 0, pR 147, pR 178, pI i, x5, x6, x7] [] (shp0, rf0, h4) Q) : RG sc mL_law 762 kc ks 867 [pR 1300, pR 0, pR 147, pR 178, pI i, x5, x6, x7] [] (shp0, rf0, h) Q := by
  obtain ⟨sem, H, np, nc, len, hs⟩ := hs
  refine G_aload_n dL_law_867 rfl (?_ : RG _ _ _ _ _ 868 _ _ _ _)
  refine G_aload_n dL_law_868 rfl (?_ : RG _ _ _ _ _ 869 _ _ _ _)
  refine G_iload dL_law_869 rfl (?_ : RG _ _ _ _ _ 871 _ _ _ _)
  refine G_iconst dL_law_871 (?_ : RG _ _ _ _ _ 872 _ _ _ _)
  refine G_iadd dL_law_872 (?_ : RG _ _ _ _ _ 873 _ _ _ _)
  refine G_sld (j := i + 1) dL_law_873 (by omega) hsc (by omega) (?_ : RG _ _ _ _ _ 874 _ _ _ _)
  refine G_ag (n := 1) (As := [pI (sc.2.1 (i + 1))]) (A_tips hs (hv (i + 1))) dL_law_874 dL_law_884 mvX11_tips mvX12_tips mlL_124 mlL_127 (Or.inl rfl) rfl (Nat.le_of_ble_eq_true rfl) (Nat.le_of_ble_eq_true rfl) (by decide) (by decide) rfl (fun z h3 kk => ?_) (fun z h4 hs4 => ?_)
  · refine G_aload_n dL_law_877 rfl (?_ : RG _ _ _ _ _ 878 _ _ _ _)
    refine G_aload_n dL_law_878 rfl (?_ : RG _ _ _ _ _ 879 _ _ _ _)
    refine G_iload dL_law_879 rfl (?_ : RG _ _ _ _ _ 881 _ _ _ _)
    refine G_iconst dL_law_881 (?_ : RG _ _ _ _ _ 882 _ _ _ _)
    refine G_iadd dL_law_882 (?_ : RG _ _ _ _ _ 883 _ _ _ _)
    refine G_sld (j := i + 1) dL_law_883 (by omega) hsc (by omega) (?_ : RG _ _ _ _ _ 884 _ _ _ _)
    exact kk
  · refine G_icmp_eq2 (t := 1446) dL_law_887 rfl (next h4 hs4)
theorem LC_23 (hsc : sc.1 ≤ 2560) (hv : ∀ j, r32 (sc.2.1 j)) (hi : i + 5 ≤ sc.1) (hk : k ≤ 1000) (hs : SR k h) (next : ∀ h4, SR (k + 1) h4 → RG sc mL_law 762 kc ks 1446 [pR 1300, pR 0, pR 147, pR 178, pI i, x5, x6, x7] [] (shp0, rf0, h4) Q) : RG sc mL_law 762 kc ks 892 [pR 1300, pR 0, pR 147, pR 178, pI i, x5, x6, x7] [] (shp0, rf0, h) Q := by
  obtain ⟨sem, H, np, nc, len, hs⟩ := hs
  refine G_aload_n dL_law_892 rfl (?_ : RG _ _ _ _ _ 893 _ _ _ _)
  refine G_aload_n dL_law_893 rfl (?_ : RG _ _ _ _ _ 894 _ _ _ _)
  refine G_iload dL_law_894 rfl (?_ : RG _ _ _ _ _ 896 _ _ _ _)
  refine G_iconst dL_law_896 (?_ : RG _ _ _ _ _ 897 _ _ _ _)
  refine G_iadd dL_law_897 (?_ : RG _ _ _ _ _ 898 _ _ _ _)
  refine G_sld (j := i + 1) dL_law_898 (by omega) hsc (by omega) (?_ : RG _ _ _ _ _ 899 _ _ _ _)
  refine G_ag (n := 1) (As := [pI (sc.2.1 (i + 1))]) (A_power hs (hv (i + 1))) dL_law_899 dL_law_909 mvX11_power mvX12_power mlL_128 mlL_131 (Or.inl rfl) rfl (Nat.le_of_ble_eq_true rfl) (Nat.le_of_ble_eq_true rfl) (by decide) (by decide) rfl (fun z h3 kk => ?_) (fun z h4 hs4 => ?_)
  · refine G_aload_n dL_law_902 rfl (?_ : RG _ _ _ _ _ 903 _ _ _ _)
    refine G_aload_n dL_law_903 rfl (?_ : RG _ _ _ _ _ 904 _ _ _ _)
    refine G_iload dL_law_904 rfl (?_ : RG _ _ _ _ _ 906 _ _ _ _)
    refine G_iconst dL_law_906 (?_ : RG _ _ _ _ _ 907 _ _ _ _)
    refine G_iadd dL_law_907 (?_ : RG _ _ _ _ _ 908 _ _ _ _)
    refine G_sld (j := i + 1) dL_law_908 (by omega) hsc (by omega) (?_ : RG _ _ _ _ _ 909 _ _ _ _)
    exact kk
  · refine G_icmp_eq2 (t := 1446) dL_law_912 rfl (next h4 hs4)
theorem LC_24 (hsc : sc.1 ≤ 2560) (hv : ∀ j, r32 (sc.2.1 j)) (hi : i + 5 ≤ sc.1) (hk : k ≤ 1000) (hs : SR k h) (next : ∀ h4, SR (k + 1) h4 → RG sc mL_law 762 kc ks 1446 [pR 1300, pR 0, pR 147, pR 178, pI i, x5, x6, x7] [] (shp0, rf0, h4) Q) : RG sc mL_law 762 kc ks 917 [pR 1300, pR 0, pR 147, pR 178, pI i, x5, x6, x7] [] (shp0, rf0, h) Q := by
  obtain ⟨sem, H, np, nc, len, hs⟩ := hs
  refine G_aload_n dL_law_917 rfl (?_ : RG _ _ _ _ _ 918 _ _ _ _)
  refine G_aload_n dL_law_918 rfl (?_ : RG _ _ _ _ _ 919 _ _ _ _)
  refine G_iload dL_law_919 rfl (?_ : RG _ _ _ _ _ 921 _ _ _ _)
  refine G_iconst dL_law_921 (?_ : RG _ _ _ _ _ 922 _ _ _ _)
  refine G_iadd dL_law_922 (?_ : RG _ _ _ _ _ 923 _ _ _ _)
  refine G_sld (j := i + 1) dL_law_923 (by omega) hsc (by omega) (?_ : RG _ _ _ _ _ 924 _ _ _ _)
  refine G_aload_n dL_law_924 rfl (?_ : RG _ _ _ _ _ 925 _ _ _ _)
  refine G_iload dL_law_925 rfl (?_ : RG _ _ _ _ _ 927 _ _ _ _)
  refine G_iconst dL_law_927 (?_ : RG _ _ _ _ _ 928 _ _ _ _)
  refine G_iadd dL_law_928 (?_ : RG _ _ _ _ _ 929 _ _ _ _)
  refine G_sld (j := i + 2) dL_law_929 (by omega) hsc (by omega) (?_ : RG _ _ _ _ _ 930 _ _ _ _)
  refine G_ag (n := 2) (As := [pI (sc.2.1 (i + 1)), pI (sc.2.1 (i + 2))]) (A_lobby hs (hv (i + 1)) (hv (i + 2))) dL_law_930 dL_law_946 mvX11_lobby mvX12_lobby mlL_132 mlL_135 (Or.inl rfl) rfl (Nat.le_of_ble_eq_true rfl) (Nat.le_of_ble_eq_true rfl) (by decide) (by decide) rfl (fun z h3 kk => ?_) (fun z h4 hs4 => ?_)
  · refine G_aload_n dL_law_933 rfl (?_ : RG _ _ _ _ _ 934 _ _ _ _)
    refine G_aload_n dL_law_934 rfl (?_ : RG _ _ _ _ _ 935 _ _ _ _)
    refine G_iload dL_law_935 rfl (?_ : RG _ _ _ _ _ 937 _ _ _ _)
    refine G_iconst dL_law_937 (?_ : RG _ _ _ _ _ 938 _ _ _ _)
    refine G_iadd dL_law_938 (?_ : RG _ _ _ _ _ 939 _ _ _ _)
    refine G_sld (j := i + 1) dL_law_939 (by omega) hsc (by omega) (?_ : RG _ _ _ _ _ 940 _ _ _ _)
    refine G_aload_n dL_law_940 rfl (?_ : RG _ _ _ _ _ 941 _ _ _ _)
    refine G_iload dL_law_941 rfl (?_ : RG _ _ _ _ _ 943 _ _ _ _)
    refine G_iconst dL_law_943 (?_ : RG _ _ _ _ _ 944 _ _ _ _)
    refine G_iadd dL_law_944 (?_ : RG _ _ _ _ _ 945 _ _ _ _)
    refine G_sld (j := i + 2) dL_law_945 (by omega) hsc (by omega) (?_ : RG _ _ _ _ _ 946 _ _ _ _)
    exact kk
  · refine G_icmp_eq2 (t := 1446) dL_law_949 rfl (next h4 hs4)
theorem LC_25 (hsc : sc.1 ≤ 2560) (hv : ∀ j, r32 (sc.2.1 j)) (hi : i + 5 ≤ sc.1) (hk : k ≤ 1000) (hs : SR k h) (next : ∀ h4, SR (k + 1) h4 → RG sc mL_law 762 kc ks 1446 [pR 1300, pR 0, pR 147, pR 178, pI i, x5, x6, x7] [] (shp0, rf0, h4) Q) : RG sc mL_law 762 kc ks 954 [pR 1300, pR 0, pR 147, pR 178, pI i, x5, x6, x7] [] (shp0, rf0, h) Q := by
  obtain ⟨sem, H, np, nc, len, hs⟩ := hs
  refine G_aload_n dL_law_954 rfl (?_ : RG _ _ _ _ _ 955 _ _ _ _)
  refine G_aload_n dL_law_955 rfl (?_ : RG _ _ _ _ _ 956 _ _ _ _)
  refine G_iload dL_law_956 rfl (?_ : RG _ _ _ _ _ 958 _ _ _ _)
  refine G_iconst dL_law_958 (?_ : RG _ _ _ _ _ 959 _ _ _ _)
  refine G_iadd dL_law_959 (?_ : RG _ _ _ _ _ 960 _ _ _ _)
  refine G_sld (j := i + 1) dL_law_960 (by omega) hsc (by omega) (?_ : RG _ _ _ _ _ 961 _ _ _ _)
  refine G_ag (n := 1) (As := [pI (sc.2.1 (i + 1))]) (A_seat hs hk (hv (i + 1))) dL_law_961 dL_law_971 mvX11_seat mvX12_seat mlL_136 mlL_139 (Or.inl rfl) rfl (Nat.le_of_ble_eq_true rfl) (Nat.le_of_ble_eq_true rfl) (by decide) (by decide) rfl (fun z h3 kk => ?_) (fun z h4 hs4 => ?_)
  · refine G_aload_n dL_law_964 rfl (?_ : RG _ _ _ _ _ 965 _ _ _ _)
    refine G_aload_n dL_law_965 rfl (?_ : RG _ _ _ _ _ 966 _ _ _ _)
    refine G_iload dL_law_966 rfl (?_ : RG _ _ _ _ _ 968 _ _ _ _)
    refine G_iconst dL_law_968 (?_ : RG _ _ _ _ _ 969 _ _ _ _)
    refine G_iadd dL_law_969 (?_ : RG _ _ _ _ _ 970 _ _ _ _)
    refine G_sld (j := i + 1) dL_law_970 (by omega) hsc (by omega) (?_ : RG _ _ _ _ _ 971 _ _ _ _)
    exact kk
  · refine G_icmp_eq2 (t := 1446) dL_law_974 rfl (next h4 hs4)
theorem LC_26 (hsc : sc.1 ≤ 2560) (hv : ∀ j, r32 (sc.2.1 j)) (hi : i + 5 ≤ sc.1) (hk : k ≤ 1000) (hs : SR k h) (next : ∀ h4, SR (k + 1) h4 → RG sc mL_law 762 kc ks 1446 [pR 1300, pR 0, pR 147, pR 178, pI i, x5, x6, x7] [] (shp0, rf0, h4) Q) : RG sc mL_law 762 kc ks 979 [pR 1300, pR 0, pR 147, pR 178, pI i, x5, x6, x7] [] (shp0, rf0, h) Q := by
  obtain ⟨sem, H, np, nc, len, hs⟩ := hs
  refine G_aload_n dL_law_979 rfl (?_ : RG _ _ _ _ _ 980 _ _ _ _)
  refine G_aload_n dL_law_980 rfl (?_ : RG _ _ _ _ _ 981 _ _ _ _)
  refine G_iload dL_law_981 rfl (?_ : RG _ _ _ _ _ 983 _ _ _ _)
  refine G_iconst dL_law_983 (?_ : RG _ _ _ _ _ 984 _ _ _ _)
  refine G_iadd dL_law_984 (?_ : RG _ _ _ _ _ 985 _ _ _ _)
  refine G_sld (j := i + 1) dL_law_985 (by omega) hsc (by omega) (?_ : RG _ _ _ _ _ 986 _ _ _ _)
  refine G_ag (n := 1) (As := [pI (sc.2.1 (i + 1))]) (A_reseat hs hk (hv (i + 1))) dL_law_986 dL_law_996 mvX11_reseat mvX12_reseat mlL_140 mlL_143 (Or.inl rfl) rfl (Nat.le_of_ble_eq_true rfl) (Nat.le_of_ble_eq_true rfl) (by decide) (by decide) rfl (fun z h3 kk => ?_) (fun z h4 hs4 => ?_)
  · refine G_aload_n dL_law_989 rfl (?_ : RG _ _ _ _ _ 990 _ _ _ _)
    refine G_aload_n dL_law_990 rfl (?_ : RG _ _ _ _ _ 991 _ _ _ _)
    refine G_iload dL_law_991 rfl (?_ : RG _ _ _ _ _ 993 _ _ _ _)
    refine G_iconst dL_law_993 (?_ : RG _ _ _ _ _ 994 _ _ _ _)
    refine G_iadd dL_law_994 (?_ : RG _ _ _ _ _ 995 _ _ _ _)
    refine G_sld (j := i + 1) dL_law_995 (by omega) hsc (by omega) (?_ : RG _ _ _ _ _ 996 _ _ _ _)
    exact kk
  · refine G_icmp_eq2 (t := 1446) dL_law_999 rfl (next h4 hs4)
theorem LC_27 (hsc : sc.1 ≤ 2560) (hv : ∀ j, r32 (sc.2.1 j)) (hi : i + 5 ≤ sc.1) (hk : k ≤ 1000) (hs : SR k h) (next : ∀ h4, SR (k + 1) h4 → RG sc mL_law 762 kc ks 1446 [pR 1300, pR 0, pR 147, pR 178, pI i, x5, x6, x7] [] (shp0, rf0, h4) Q) : RG sc mL_law 762 kc ks 1004 [pR 1300, pR 0, pR 147, pR 178, pI i, x5, x6, x7] [] (shp0, rf0, h) Q := by
  obtain ⟨sem, H, np, nc, len, hs⟩ := hs
  refine G_aload_n dL_law_1004 rfl (?_ : RG _ _ _ _ _ 1005 _ _ _ _)
  refine G_aload_n dL_law_1005 rfl (?_ : RG _ _ _ _ _ 1006 _ _ _ _)
  refine G_iload dL_law_1006 rfl (?_ : RG _ _ _ _ _ 1008 _ _ _ _)
  refine G_iconst dL_law_1008 (?_ : RG _ _ _ _ _ 1009 _ _ _ _)
  refine G_iadd dL_law_1009 (?_ : RG _ _ _ _ _ 1010 _ _ _ _)
  refine G_sld (j := i + 1) dL_law_1010 (by omega) hsc (by omega) (?_ : RG _ _ _ _ _ 1011 _ _ _ _)
  refine G_ag (n := 1) (As := [pI (sc.2.1 (i + 1))]) (A_close hs hk (hv (i + 1))) dL_law_1011 dL_law_1021 mvX11_close mvX12_close mlL_144 mlL_147 (Or.inl rfl) rfl (Nat.le_of_ble_eq_true rfl) (Nat.le_of_ble_eq_true rfl) (by decide) (by decide) rfl (fun z h3 kk => ?_) (fun z h4 hs4 => ?_)
  · refine G_aload_n dL_law_1014 rfl (?_ : RG _ _ _ _ _ 1015 _ _ _ _)
    refine G_aload_n dL_law_1015 rfl (?_ : RG _ _ _ _ _ 1016 _ _ _ _)
    refine G_iload dL_law_1016 rfl (?_ : RG _ _ _ _ _ 1018 _ _ _ _)
    refine G_iconst dL_law_1018 (?_ : RG _ _ _ _ _ 1019 _ _ _ _)
    refine G_iadd dL_law_1019 (?_ : RG _ _ _ _ _ 1020 _ _ _ _)
    refine G_sld (j := i + 1) dL_law_1020 (by omega) hsc (by omega) (?_ : RG _ _ _ _ _ 1021 _ _ _ _)
    exact kk
  · refine G_icmp_eq2 (t := 1446) dL_law_1024 rfl (next h4 hs4)
theorem LC_28 (hsc : sc.1 ≤ 2560) (hv : ∀ j, r32 (sc.2.1 j)) (hi : i + 5 ≤ sc.1) (hk : k ≤ 1000) (hs : SR k h) (next : ∀ h4, SR (k + 1) h4 → RG sc mL_law 762 kc ks 1446 [pR 1300, pR 0, pR 147, pR 178, pI i, x5, x6, x7] [] (shp0, rf0, h4) Q) : RG sc mL_law 762 kc ks 1029 [pR 1300, pR 0, pR 147, pR 178, pI i, x5, x6, x7] [] (shp0, rf0, h) Q := by
  obtain ⟨sem, H, np, nc, len, hs⟩ := hs
  refine G_aload_n dL_law_1029 rfl (?_ : RG _ _ _ _ _ 1030 _ _ _ _)
  refine G_aload_n dL_law_1030 rfl (?_ : RG _ _ _ _ _ 1031 _ _ _ _)
  refine G_iload dL_law_1031 rfl (?_ : RG _ _ _ _ _ 1033 _ _ _ _)
  refine G_iconst dL_law_1033 (?_ : RG _ _ _ _ _ 1034 _ _ _ _)
  refine G_iadd dL_law_1034 (?_ : RG _ _ _ _ _ 1035 _ _ _ _)
  refine G_sld (j := i + 1) dL_law_1035 (by omega) hsc (by omega) (?_ : RG _ _ _ _ _ 1036 _ _ _ _)
  refine G_ag (n := 1) (As := [pI (sc.2.1 (i + 1))]) (A_fetch hs (hv (i + 1))) dL_law_1036 dL_law_1046 mvX11_fetch mvX12_fetch mlL_148 mlL_151 (Or.inl rfl) rfl (Nat.le_of_ble_eq_true rfl) (Nat.le_of_ble_eq_true rfl) (by decide) (by decide) rfl (fun z h3 kk => ?_) (fun z h4 hs4 => ?_)
  · refine G_aload_n dL_law_1039 rfl (?_ : RG _ _ _ _ _ 1040 _ _ _ _)
    refine G_aload_n dL_law_1040 rfl (?_ : RG _ _ _ _ _ 1041 _ _ _ _)
    refine G_iload dL_law_1041 rfl (?_ : RG _ _ _ _ _ 1043 _ _ _ _)
    refine G_iconst dL_law_1043 (?_ : RG _ _ _ _ _ 1044 _ _ _ _)
    refine G_iadd dL_law_1044 (?_ : RG _ _ _ _ _ 1045 _ _ _ _)
    refine G_sld (j := i + 1) dL_law_1045 (by omega) hsc (by omega) (?_ : RG _ _ _ _ _ 1046 _ _ _ _)
    exact kk
  · refine G_icmp_eq2 (t := 1446) dL_law_1049 rfl (next h4 hs4)
end LCS
