/-! the law's cases -/
set_option maxRecDepth 100000 in
set_option maxHeartbeats 4000000 in
theorem lc_image {X : zX} {l : Launch} {G : va_G} {ca : Nat → ClassId} {ad ae : Nat → Nat} {b L : Nat} {xs : Nat → Int32} {i : Int32} {xv : XV} {mv : MV} (h : zOk X l G ca cL_law RL wsL_law 4 room_1) (hX : zScr X b L xs) (h1 : vp_in (i + 1) L) (h2 : vp_in (i + 2) L) (h3 : vp_in (i + 3) L) (h4 : vp_in (i + 4) L) (h5 : vp_in (i + 5) L) (h6 : vp_in (i + 6) L) (hR : Rel xv mv) (k : ∀ xv' mv', Rel xv' mv' → V X G 4 137 3130 (wX ca ad xv' ++ wM ca ae mv') 1198 [(0, .ref b), (1, .ref (ad 0)), (2, .ref (ae 0)), (3, .int i)] []) : V X G 4 137 3130 (wX ca ad xv ++ wM ca ae mv) 832 [(0, .ref b), (1, .ref (ad 0)), (2, .ref (ae 0)), (3, .int i)] [] := by
  obtain ⟨a, xv', mv', hR', t6, t7⟩ := e_image hR
  refine v_aload_n h dL_law_832 1 rfl 833 rfl ?_
  refine v_swap ?_
  refine v_rcall (n := 0) (As := []) (rest := []) (ci := 6) h dL_law_833 (t6 l G ca ad) gL_law_X6_image rfl rfl ⟨rfl, rfl⟩ nX6_image ⟨(Nat.le_of_ble_eq_true rfl), (Nat.le_of_ble_eq_true rfl)⟩ rfl rfl rfl rfl (Nat.le_of_ble_eq_true rfl) ⟨(Nat.le_of_ble_eq_true rfl), (Nat.le_of_ble_eq_true rfl)⟩ (wX_adr ca ad xv xv') 836 rfl ?_
  refine v_aload_n h dL_law_836 2 rfl 837 rfl ?_
  refine v_swap ?_
  refine v_rcall (n := 0) (As := []) (rest := [.int a]) (ci := 7) h dL_law_837 (t7 l G ca ae) gL_law_X7_image rfl rfl ⟨rfl, rfl⟩ nX7_image ⟨(Nat.le_of_ble_eq_true rfl), (Nat.le_of_ble_eq_true rfl)⟩ rfl rfl rfl rfl (Nat.le_of_ble_eq_true rfl) ⟨(Nat.le_of_ble_eq_true rfl), (Nat.le_of_ble_eq_true rfl)⟩ (wM_adr ca ae mv mv') 840 rfl ?_
  exact v_icmp_eq h dL_law_840 1198 (by decide) 843 rfl (fun _ => k xv' mv' hR') (fun c => absurd rfl c)
set_option maxRecDepth 100000 in
set_option maxHeartbeats 4000000 in
theorem lc_restore {X : zX} {l : Launch} {G : va_G} {ca : Nat → ClassId} {ad ae : Nat → Nat} {b L : Nat} {xs : Nat → Int32} {i : Int32} {xv : XV} {mv : MV} (h : zOk X l G ca cL_law RL wsL_law 4 room_1) (hX : zScr X b L xs) (h1 : vp_in (i + 1) L) (h2 : vp_in (i + 2) L) (h3 : vp_in (i + 3) L) (h4 : vp_in (i + 4) L) (h5 : vp_in (i + 5) L) (h6 : vp_in (i + 6) L) (hR : Rel xv mv) (k : ∀ xv' mv', Rel xv' mv' → V X G 4 137 3130 (wX ca ad xv' ++ wM ca ae mv') 1198 [(0, .ref b), (1, .ref (ad 0)), (2, .ref (ae 0)), (3, .int i)] []) : V X G 4 137 3130 (wX ca ad xv ++ wM ca ae mv) 845 [(0, .ref b), (1, .ref (ad 0)), (2, .ref (ae 0)), (3, .int i)] [] := by
  obtain ⟨a, xv', mv', hR', t6, t7⟩ := e_restore hR
  refine v_aload_n h dL_law_845 1 rfl 846 rfl ?_
  refine v_swap ?_
  refine v_rcall (n := 0) (As := []) (rest := []) (ci := 6) h dL_law_846 (t6 l G ca ad) gL_law_X6_restore rfl rfl ⟨rfl, rfl⟩ nX6_restore ⟨(Nat.le_of_ble_eq_true rfl), (Nat.le_of_ble_eq_true rfl)⟩ rfl rfl rfl rfl (Nat.le_of_ble_eq_true rfl) ⟨(Nat.le_of_ble_eq_true rfl), (Nat.le_of_ble_eq_true rfl)⟩ (wX_adr ca ad xv xv') 849 rfl ?_
  refine v_aload_n h dL_law_849 2 rfl 850 rfl ?_
  refine v_swap ?_
  refine v_rcall (n := 0) (As := []) (rest := [.int a]) (ci := 7) h dL_law_850 (t7 l G ca ae) gL_law_X7_restore rfl rfl ⟨rfl, rfl⟩ nX7_restore ⟨(Nat.le_of_ble_eq_true rfl), (Nat.le_of_ble_eq_true rfl)⟩ rfl rfl rfl rfl (Nat.le_of_ble_eq_true rfl) ⟨(Nat.le_of_ble_eq_true rfl), (Nat.le_of_ble_eq_true rfl)⟩ (wM_adr ca ae mv mv') 853 rfl ?_
  exact v_icmp_eq h dL_law_853 1198 (by decide) 856 rfl (fun _ => k xv' mv' hR') (fun c => absurd rfl c)
set_option maxRecDepth 100000 in
set_option maxHeartbeats 4000000 in
theorem lc_stains {X : zX} {l : Launch} {G : va_G} {ca : Nat → ClassId} {ad ae : Nat → Nat} {b L : Nat} {xs : Nat → Int32} {i : Int32} {xv : XV} {mv : MV} (h : zOk X l G ca cL_law RL wsL_law 4 room_1) (hX : zScr X b L xs) (h1 : vp_in (i + 1) L) (h2 : vp_in (i + 2) L) (h3 : vp_in (i + 3) L) (h4 : vp_in (i + 4) L) (h5 : vp_in (i + 5) L) (h6 : vp_in (i + 6) L) (hR : Rel xv mv) (k : ∀ xv' mv', Rel xv' mv' → V X G 4 137 3130 (wX ca ad xv' ++ wM ca ae mv') 1198 [(0, .ref b), (1, .ref (ad 0)), (2, .ref (ae 0)), (3, .int i)] []) : V X G 4 137 3130 (wX ca ad xv ++ wM ca ae mv) 858 [(0, .ref b), (1, .ref (ad 0)), (2, .ref (ae 0)), (3, .int i)] [] := by
  obtain ⟨a, xv', mv', hR', t6, t7⟩ := e_stains hR (xs (i + 1).toNatClampNeg) (xs (i + 2).toNatClampNeg) (xs (i + 3).toNatClampNeg) (xs (i + 4).toNatClampNeg) (xs (i + 5).toNatClampNeg) (xs (i + 6).toNatClampNeg)
  refine v_aload_n h dL_law_858 1 rfl 859 rfl ?_
  refine v_aload_n h dL_law_859 0 rfl 860 rfl ?_
  refine v_iload_n h dL_law_860 3 rfl 861 rfl ?_
  refine v_iconst h dL_law_861 1 rfl 862 rfl ?_
  refine v_iadd h dL_law_862 863 rfl ?_
  refine v_sld h hX h1 dL_law_863 864 rfl ?_
  refine v_aload_n h dL_law_864 0 rfl 865 rfl ?_
  refine v_iload_n h dL_law_865 3 rfl 866 rfl ?_
  refine v_iconst h dL_law_866 2 rfl 867 rfl ?_
  refine v_iadd h dL_law_867 868 rfl ?_
  refine v_sld h hX h2 dL_law_868 869 rfl ?_
  refine v_aload_n h dL_law_869 0 rfl 870 rfl ?_
  refine v_iload_n h dL_law_870 3 rfl 871 rfl ?_
  refine v_iconst h dL_law_871 3 rfl 872 rfl ?_
  refine v_iadd h dL_law_872 873 rfl ?_
  refine v_sld h hX h3 dL_law_873 874 rfl ?_
  refine v_aload_n h dL_law_874 0 rfl 875 rfl ?_
  refine v_iload_n h dL_law_875 3 rfl 876 rfl ?_
  refine v_iconst h dL_law_876 4 rfl 877 rfl ?_
  refine v_iadd h dL_law_877 878 rfl ?_
  refine v_sld h hX h4 dL_law_878 879 rfl ?_
  refine v_aload_n h dL_law_879 0 rfl 880 rfl ?_
  refine v_iload_n h dL_law_880 3 rfl 881 rfl ?_
  refine v_iconst h dL_law_881 5 rfl 882 rfl ?_
  refine v_iadd h dL_law_882 883 rfl ?_
  refine v_sld h hX h5 dL_law_883 884 rfl ?_
  refine v_aload_n h dL_law_884 0 rfl 885 rfl ?_
  refine v_iload_n h dL_law_885 3 rfl 886 rfl ?_
  refine v_bipush h dL_law_886 6 rfl 888 rfl ?_
  refine v_iadd h dL_law_888 889 rfl ?_
  refine v_sld h hX h6 dL_law_889 890 rfl ?_
  refine v_swap ?_
  refine v_rcall (n := 6) (As := [.int (xs (i + 1).toNatClampNeg), .int (xs (i + 2).toNatClampNeg), .int (xs (i + 3).toNatClampNeg), .int (xs (i + 4).toNatClampNeg), .int (xs (i + 5).toNatClampNeg), .int (xs (i + 6).toNatClampNeg)]) (rest := []) (ci := 6) h dL_law_890 (t6 l G ca ad) gL_law_X6_stains rfl rfl ⟨rfl, rfl⟩ nX6_stains ⟨(Nat.le_of_ble_eq_true rfl), (Nat.le_of_ble_eq_true rfl)⟩ rfl rfl rfl rfl (Nat.le_of_ble_eq_true rfl) ⟨(Nat.le_of_ble_eq_true rfl), (Nat.le_of_ble_eq_true rfl)⟩ (wX_adr ca ad xv xv') 893 rfl ?_
  refine v_aload_n h dL_law_893 2 rfl 894 rfl ?_
  refine v_aload_n h dL_law_894 0 rfl 895 rfl ?_
  refine v_iload_n h dL_law_895 3 rfl 896 rfl ?_
  refine v_iconst h dL_law_896 1 rfl 897 rfl ?_
  refine v_iadd h dL_law_897 898 rfl ?_
  refine v_sld h hX h1 dL_law_898 899 rfl ?_
  refine v_aload_n h dL_law_899 0 rfl 900 rfl ?_
  refine v_iload_n h dL_law_900 3 rfl 901 rfl ?_
  refine v_iconst h dL_law_901 2 rfl 902 rfl ?_
  refine v_iadd h dL_law_902 903 rfl ?_
  refine v_sld h hX h2 dL_law_903 904 rfl ?_
  refine v_aload_n h dL_law_904 0 rfl 905 rfl ?_
  refine v_iload_n h dL_law_905 3 rfl 906 rfl ?_
  refine v_iconst h dL_law_906 3 rfl 907 rfl ?_
  refine v_iadd h dL_law_907 908 rfl ?_
  refine v_sld h hX h3 dL_law_908 909 rfl ?_
  refine v_aload_n h dL_law_909 0 rfl 910 rfl ?_
  refine v_iload_n h dL_law_910 3 rfl 911 rfl ?_
  refine v_iconst h dL_law_911 4 rfl 912 rfl ?_
  refine v_iadd h dL_law_912 913 rfl ?_
  refine v_sld h hX h4 dL_law_913 914 rfl ?_
  refine v_aload_n h dL_law_914 0 rfl 915 rfl ?_
  refine v_iload_n h dL_law_915 3 rfl 916 rfl ?_
  refine v_iconst h dL_law_916 5 rfl 917 rfl ?_
  refine v_iadd h dL_law_917 918 rfl ?_
  refine v_sld h hX h5 dL_law_918 919 rfl ?_
  refine v_aload_n h dL_law_919 0 rfl 920 rfl ?_
  refine v_iload_n h dL_law_920 3 rfl 921 rfl ?_
  refine v_bipush h dL_law_921 6 rfl 923 rfl ?_
  refine v_iadd h dL_law_923 924 rfl ?_
  refine v_sld h hX h6 dL_law_924 925 rfl ?_
  refine v_swap ?_
  refine v_rcall (n := 6) (As := [.int (xs (i + 1).toNatClampNeg), .int (xs (i + 2).toNatClampNeg), .int (xs (i + 3).toNatClampNeg), .int (xs (i + 4).toNatClampNeg), .int (xs (i + 5).toNatClampNeg), .int (xs (i + 6).toNatClampNeg)]) (rest := [.int a]) (ci := 7) h dL_law_925 (t7 l G ca ae) gL_law_X7_stains rfl rfl ⟨rfl, rfl⟩ nX7_stains ⟨(Nat.le_of_ble_eq_true rfl), (Nat.le_of_ble_eq_true rfl)⟩ rfl rfl rfl rfl (Nat.le_of_ble_eq_true rfl) ⟨(Nat.le_of_ble_eq_true rfl), (Nat.le_of_ble_eq_true rfl)⟩ (wM_adr ca ae mv mv') 928 rfl ?_
  exact v_icmp_eq h dL_law_928 1198 (by decide) 931 rfl (fun _ => k xv' mv' hR') (fun c => absurd rfl c)
set_option maxRecDepth 100000 in
set_option maxHeartbeats 4000000 in
theorem lc_film {X : zX} {l : Launch} {G : va_G} {ca : Nat → ClassId} {ad ae : Nat → Nat} {b L : Nat} {xs : Nat → Int32} {i : Int32} {xv : XV} {mv : MV} (h : zOk X l G ca cL_law RL wsL_law 4 room_1) (hX : zScr X b L xs) (h1 : vp_in (i + 1) L) (h2 : vp_in (i + 2) L) (h3 : vp_in (i + 3) L) (h4 : vp_in (i + 4) L) (h5 : vp_in (i + 5) L) (h6 : vp_in (i + 6) L) (hR : Rel xv mv) (k : ∀ xv' mv', Rel xv' mv' → V X G 4 137 3130 (wX ca ad xv' ++ wM ca ae mv') 1198 [(0, .ref b), (1, .ref (ad 0)), (2, .ref (ae 0)), (3, .int i)] []) : V X G 4 137 3130 (wX ca ad xv ++ wM ca ae mv) 933 [(0, .ref b), (1, .ref (ad 0)), (2, .ref (ae 0)), (3, .int i)] [] := by
  obtain ⟨a, xv', mv', hR', t6, t7⟩ := e_film hR (xs (i + 1).toNatClampNeg) (xs (i + 2).toNatClampNeg) (xs (i + 3).toNatClampNeg) (xs (i + 4).toNatClampNeg)
  refine v_aload_n h dL_law_933 1 rfl 934 rfl ?_
  refine v_aload_n h dL_law_934 0 rfl 935 rfl ?_
  refine v_iload_n h dL_law_935 3 rfl 936 rfl ?_
  refine v_iconst h dL_law_936 1 rfl 937 rfl ?_
  refine v_iadd h dL_law_937 938 rfl ?_
  refine v_sld h hX h1 dL_law_938 939 rfl ?_
  refine v_aload_n h dL_law_939 0 rfl 940 rfl ?_
  refine v_iload_n h dL_law_940 3 rfl 941 rfl ?_
  refine v_iconst h dL_law_941 2 rfl 942 rfl ?_
  refine v_iadd h dL_law_942 943 rfl ?_
  refine v_sld h hX h2 dL_law_943 944 rfl ?_
  refine v_aload_n h dL_law_944 0 rfl 945 rfl ?_
  refine v_iload_n h dL_law_945 3 rfl 946 rfl ?_
  refine v_iconst h dL_law_946 3 rfl 947 rfl ?_
  refine v_iadd h dL_law_947 948 rfl ?_
  refine v_sld h hX h3 dL_law_948 949 rfl ?_
  refine v_aload_n h dL_law_949 0 rfl 950 rfl ?_
  refine v_iload_n h dL_law_950 3 rfl 951 rfl ?_
  refine v_iconst h dL_law_951 4 rfl 952 rfl ?_
  refine v_iadd h dL_law_952 953 rfl ?_
  refine v_sld h hX h4 dL_law_953 954 rfl ?_
  refine v_swap ?_
  refine v_rcall (n := 4) (As := [.int (xs (i + 1).toNatClampNeg), .int (xs (i + 2).toNatClampNeg), .int (xs (i + 3).toNatClampNeg), .int (xs (i + 4).toNatClampNeg)]) (rest := []) (ci := 6) h dL_law_954 (t6 l G ca ad) gL_law_X6_film rfl rfl ⟨rfl, rfl⟩ nX6_film ⟨(Nat.le_of_ble_eq_true rfl), (Nat.le_of_ble_eq_true rfl)⟩ rfl rfl rfl rfl (Nat.le_of_ble_eq_true rfl) ⟨(Nat.le_of_ble_eq_true rfl), (Nat.le_of_ble_eq_true rfl)⟩ (wX_adr ca ad xv xv') 957 rfl ?_
  refine v_aload_n h dL_law_957 2 rfl 958 rfl ?_
  refine v_aload_n h dL_law_958 0 rfl 959 rfl ?_
  refine v_iload_n h dL_law_959 3 rfl 960 rfl ?_
  refine v_iconst h dL_law_960 1 rfl 961 rfl ?_
  refine v_iadd h dL_law_961 962 rfl ?_
  refine v_sld h hX h1 dL_law_962 963 rfl ?_
  refine v_aload_n h dL_law_963 0 rfl 964 rfl ?_
  refine v_iload_n h dL_law_964 3 rfl 965 rfl ?_
  refine v_iconst h dL_law_965 2 rfl 966 rfl ?_
  refine v_iadd h dL_law_966 967 rfl ?_
  refine v_sld h hX h2 dL_law_967 968 rfl ?_
  refine v_aload_n h dL_law_968 0 rfl 969 rfl ?_
  refine v_iload_n h dL_law_969 3 rfl 970 rfl ?_
  refine v_iconst h dL_law_970 3 rfl 971 rfl ?_
  refine v_iadd h dL_law_971 972 rfl ?_
  refine v_sld h hX h3 dL_law_972 973 rfl ?_
  refine v_aload_n h dL_law_973 0 rfl 974 rfl ?_
  refine v_iload_n h dL_law_974 3 rfl 975 rfl ?_
  refine v_iconst h dL_law_975 4 rfl 976 rfl ?_
  refine v_iadd h dL_law_976 977 rfl ?_
  refine v_sld h hX h4 dL_law_977 978 rfl ?_
  refine v_swap ?_
  refine v_rcall (n := 4) (As := [.int (xs (i + 1).toNatClampNeg), .int (xs (i + 2).toNatClampNeg), .int (xs (i + 3).toNatClampNeg), .int (xs (i + 4).toNatClampNeg)]) (rest := [.int a]) (ci := 7) h dL_law_978 (t7 l G ca ae) gL_law_X7_film rfl rfl ⟨rfl, rfl⟩ nX7_film ⟨(Nat.le_of_ble_eq_true rfl), (Nat.le_of_ble_eq_true rfl)⟩ rfl rfl rfl rfl (Nat.le_of_ble_eq_true rfl) ⟨(Nat.le_of_ble_eq_true rfl), (Nat.le_of_ble_eq_true rfl)⟩ (wM_adr ca ae mv mv') 981 rfl ?_
  exact v_icmp_eq h dL_law_981 1198 (by decide) 984 rfl (fun _ => k xv' mv' hR') (fun c => absurd rfl c)
set_option maxRecDepth 100000 in
set_option maxHeartbeats 4000000 in
theorem lc_sheet {X : zX} {l : Launch} {G : va_G} {ca : Nat → ClassId} {ad ae : Nat → Nat} {b L : Nat} {xs : Nat → Int32} {i : Int32} {xv : XV} {mv : MV} (h : zOk X l G ca cL_law RL wsL_law 4 room_1) (hX : zScr X b L xs) (h1 : vp_in (i + 1) L) (h2 : vp_in (i + 2) L) (h3 : vp_in (i + 3) L) (h4 : vp_in (i + 4) L) (h5 : vp_in (i + 5) L) (h6 : vp_in (i + 6) L) (hR : Rel xv mv) (k : ∀ xv' mv', Rel xv' mv' → V X G 4 137 3130 (wX ca ad xv' ++ wM ca ae mv') 1198 [(0, .ref b), (1, .ref (ad 0)), (2, .ref (ae 0)), (3, .int i)] []) : V X G 4 137 3130 (wX ca ad xv ++ wM ca ae mv) 986 [(0, .ref b), (1, .ref (ad 0)), (2, .ref (ae 0)), (3, .int i)] [] := by
  obtain ⟨a, xv', mv', hR', t6, t7⟩ := e_sheet hR (xs (i + 1).toNatClampNeg) (xs (i + 2).toNatClampNeg) (xs (i + 3).toNatClampNeg)
  refine v_aload_n h dL_law_986 1 rfl 987 rfl ?_
  refine v_aload_n h dL_law_987 0 rfl 988 rfl ?_
  refine v_iload_n h dL_law_988 3 rfl 989 rfl ?_
  refine v_iconst h dL_law_989 1 rfl 990 rfl ?_
  refine v_iadd h dL_law_990 991 rfl ?_
  refine v_sld h hX h1 dL_law_991 992 rfl ?_
  refine v_aload_n h dL_law_992 0 rfl 993 rfl ?_
  refine v_iload_n h dL_law_993 3 rfl 994 rfl ?_
  refine v_iconst h dL_law_994 2 rfl 995 rfl ?_
  refine v_iadd h dL_law_995 996 rfl ?_
  refine v_sld h hX h2 dL_law_996 997 rfl ?_
  refine v_aload_n h dL_law_997 0 rfl 998 rfl ?_
  refine v_iload_n h dL_law_998 3 rfl 999 rfl ?_
  refine v_iconst h dL_law_999 3 rfl 1000 rfl ?_
  refine v_iadd h dL_law_1000 1001 rfl ?_
  refine v_sld h hX h3 dL_law_1001 1002 rfl ?_
  refine v_swap ?_
  refine v_rcall (n := 3) (As := [.int (xs (i + 1).toNatClampNeg), .int (xs (i + 2).toNatClampNeg), .int (xs (i + 3).toNatClampNeg)]) (rest := []) (ci := 6) h dL_law_1002 (t6 l G ca ad) gL_law_X6_sheet rfl rfl ⟨rfl, rfl⟩ nX6_sheet ⟨(Nat.le_of_ble_eq_true rfl), (Nat.le_of_ble_eq_true rfl)⟩ rfl rfl rfl rfl (Nat.le_of_ble_eq_true rfl) ⟨(Nat.le_of_ble_eq_true rfl), (Nat.le_of_ble_eq_true rfl)⟩ (wX_adr ca ad xv xv') 1005 rfl ?_
  refine v_aload_n h dL_law_1005 2 rfl 1006 rfl ?_
  refine v_aload_n h dL_law_1006 0 rfl 1007 rfl ?_
  refine v_iload_n h dL_law_1007 3 rfl 1008 rfl ?_
  refine v_iconst h dL_law_1008 1 rfl 1009 rfl ?_
  refine v_iadd h dL_law_1009 1010 rfl ?_
  refine v_sld h hX h1 dL_law_1010 1011 rfl ?_
  refine v_aload_n h dL_law_1011 0 rfl 1012 rfl ?_
  refine v_iload_n h dL_law_1012 3 rfl 1013 rfl ?_
  refine v_iconst h dL_law_1013 2 rfl 1014 rfl ?_
  refine v_iadd h dL_law_1014 1015 rfl ?_
  refine v_sld h hX h2 dL_law_1015 1016 rfl ?_
  refine v_aload_n h dL_law_1016 0 rfl 1017 rfl ?_
  refine v_iload_n h dL_law_1017 3 rfl 1018 rfl ?_
  refine v_iconst h dL_law_1018 3 rfl 1019 rfl ?_
  refine v_iadd h dL_law_1019 1020 rfl ?_
  refine v_sld h hX h3 dL_law_1020 1021 rfl ?_
  refine v_swap ?_
  refine v_rcall (n := 3) (As := [.int (xs (i + 1).toNatClampNeg), .int (xs (i + 2).toNatClampNeg), .int (xs (i + 3).toNatClampNeg)]) (rest := [.int a]) (ci := 7) h dL_law_1021 (t7 l G ca ae) gL_law_X7_sheet rfl rfl ⟨rfl, rfl⟩ nX7_sheet ⟨(Nat.le_of_ble_eq_true rfl), (Nat.le_of_ble_eq_true rfl)⟩ rfl rfl rfl rfl (Nat.le_of_ble_eq_true rfl) ⟨(Nat.le_of_ble_eq_true rfl), (Nat.le_of_ble_eq_true rfl)⟩ (wM_adr ca ae mv mv') 1024 rfl ?_
  exact v_icmp_eq h dL_law_1024 1198 (by decide) 1027 rfl (fun _ => k xv' mv' hR') (fun c => absurd rfl c)
set_option maxRecDepth 100000 in
set_option maxHeartbeats 4000000 in
theorem lc_drop {X : zX} {l : Launch} {G : va_G} {ca : Nat → ClassId} {ad ae : Nat → Nat} {b L : Nat} {xs : Nat → Int32} {i : Int32} {xv : XV} {mv : MV} (h : zOk X l G ca cL_law RL wsL_law 4 room_1) (hX : zScr X b L xs) (h1 : vp_in (i + 1) L) (h2 : vp_in (i + 2) L) (h3 : vp_in (i + 3) L) (h4 : vp_in (i + 4) L) (h5 : vp_in (i + 5) L) (h6 : vp_in (i + 6) L) (hR : Rel xv mv) (k : ∀ xv' mv', Rel xv' mv' → V X G 4 137 3130 (wX ca ad xv' ++ wM ca ae mv') 1198 [(0, .ref b), (1, .ref (ad 0)), (2, .ref (ae 0)), (3, .int i)] []) : V X G 4 137 3130 (wX ca ad xv ++ wM ca ae mv) 1029 [(0, .ref b), (1, .ref (ad 0)), (2, .ref (ae 0)), (3, .int i)] [] := by
  obtain ⟨a, xv', mv', hR', t6, t7⟩ := e_drop hR (xs (i + 1).toNatClampNeg)
  refine v_aload_n h dL_law_1029 1 rfl 1030 rfl ?_
  refine v_aload_n h dL_law_1030 0 rfl 1031 rfl ?_
  refine v_iload_n h dL_law_1031 3 rfl 1032 rfl ?_
  refine v_iconst h dL_law_1032 1 rfl 1033 rfl ?_
  refine v_iadd h dL_law_1033 1034 rfl ?_
  refine v_sld h hX h1 dL_law_1034 1035 rfl ?_
  refine v_swap ?_
  refine v_rcall (n := 1) (As := [.int (xs (i + 1).toNatClampNeg)]) (rest := []) (ci := 6) h dL_law_1035 (t6 l G ca ad) gL_law_X6_drop rfl rfl ⟨rfl, rfl⟩ nX6_drop ⟨(Nat.le_of_ble_eq_true rfl), (Nat.le_of_ble_eq_true rfl)⟩ rfl rfl rfl rfl (Nat.le_of_ble_eq_true rfl) ⟨(Nat.le_of_ble_eq_true rfl), (Nat.le_of_ble_eq_true rfl)⟩ (wX_adr ca ad xv xv') 1038 rfl ?_
  refine v_aload_n h dL_law_1038 2 rfl 1039 rfl ?_
  refine v_aload_n h dL_law_1039 0 rfl 1040 rfl ?_
  refine v_iload_n h dL_law_1040 3 rfl 1041 rfl ?_
  refine v_iconst h dL_law_1041 1 rfl 1042 rfl ?_
  refine v_iadd h dL_law_1042 1043 rfl ?_
  refine v_sld h hX h1 dL_law_1043 1044 rfl ?_
  refine v_swap ?_
  refine v_rcall (n := 1) (As := [.int (xs (i + 1).toNatClampNeg)]) (rest := [.int a]) (ci := 7) h dL_law_1044 (t7 l G ca ae) gL_law_X7_drop rfl rfl ⟨rfl, rfl⟩ nX7_drop ⟨(Nat.le_of_ble_eq_true rfl), (Nat.le_of_ble_eq_true rfl)⟩ rfl rfl rfl rfl (Nat.le_of_ble_eq_true rfl) ⟨(Nat.le_of_ble_eq_true rfl), (Nat.le_of_ble_eq_true rfl)⟩ (wM_adr ca ae mv mv') 1047 rfl ?_
  exact v_icmp_eq h dL_law_1047 1198 (by decide) 1050 rfl (fun _ => k xv' mv' hR') (fun c => absurd rfl c)
set_option maxRecDepth 100000 in
set_option maxHeartbeats 4000000 in
theorem lc_item {X : zX} {l : Launch} {G : va_G} {ca : Nat → ClassId} {ad ae : Nat → Nat} {b L : Nat} {xs : Nat → Int32} {i : Int32} {xv : XV} {mv : MV} (h : zOk X l G ca cL_law RL wsL_law 4 room_1) (hX : zScr X b L xs) (h1 : vp_in (i + 1) L) (h2 : vp_in (i + 2) L) (h3 : vp_in (i + 3) L) (h4 : vp_in (i + 4) L) (h5 : vp_in (i + 5) L) (h6 : vp_in (i + 6) L) (hR : Rel xv mv) (k : ∀ xv' mv', Rel xv' mv' → V X G 4 137 3130 (wX ca ad xv' ++ wM ca ae mv') 1198 [(0, .ref b), (1, .ref (ad 0)), (2, .ref (ae 0)), (3, .int i)] []) : V X G 4 137 3130 (wX ca ad xv ++ wM ca ae mv) 1052 [(0, .ref b), (1, .ref (ad 0)), (2, .ref (ae 0)), (3, .int i)] [] := by
  obtain ⟨J, hJ⟩ : ∃ J : Int64, J = (((xs (i + 4).toNatClampNeg).toInt64 <<< ((32 : Int32).toInt64 &&& 63)) ||| ((xs (i + 5).toNatClampNeg).toInt64 &&& 4294967295)) := ⟨_, rfl⟩
  obtain ⟨a, xv', mv', hR', t6, t7⟩ := e_item hR (xs (i + 1).toNatClampNeg) (xs (i + 2).toNatClampNeg) (xs (i + 3).toNatClampNeg) J
  refine v_aload_n h dL_law_1052 1 rfl 1053 rfl ?_
  refine v_aload_n h dL_law_1053 0 rfl 1054 rfl ?_
  refine v_iload_n h dL_law_1054 3 rfl 1055 rfl ?_
  refine v_iconst h dL_law_1055 1 rfl 1056 rfl ?_
  refine v_iadd h dL_law_1056 1057 rfl ?_
  refine v_sld h hX h1 dL_law_1057 1058 rfl ?_
  refine v_aload_n h dL_law_1058 0 rfl 1059 rfl ?_
  refine v_iload_n h dL_law_1059 3 rfl 1060 rfl ?_
  refine v_iconst h dL_law_1060 2 rfl 1061 rfl ?_
  refine v_iadd h dL_law_1061 1062 rfl ?_
  refine v_sld h hX h2 dL_law_1062 1063 rfl ?_
  refine v_aload_n h dL_law_1063 0 rfl 1064 rfl ?_
  refine v_iload_n h dL_law_1064 3 rfl 1065 rfl ?_
  refine v_iconst h dL_law_1065 3 rfl 1066 rfl ?_
  refine v_iadd h dL_law_1066 1067 rfl ?_
  refine v_sld h hX h3 dL_law_1067 1068 rfl ?_
  refine v_aload_n h dL_law_1068 0 rfl 1069 rfl ?_
  refine v_iload_n h dL_law_1069 3 rfl 1070 rfl ?_
  refine v_iconst h dL_law_1070 4 rfl 1071 rfl ?_
  refine v_iadd h dL_law_1071 1072 rfl ?_
  refine v_sld h hX h4 dL_law_1072 1073 rfl ?_
  refine v_i2l h dL_law_1073 1074 rfl ?_
  refine v_bipush h dL_law_1074 32 rfl 1076 rfl ?_
  refine v_lshl h dL_law_1076 1077 rfl ?_
  refine v_aload_n h dL_law_1077 0 rfl 1078 rfl ?_
  refine v_iload_n h dL_law_1078 3 rfl 1079 rfl ?_
  refine v_iconst h dL_law_1079 5 rfl 1080 rfl ?_
  refine v_iadd h dL_law_1080 1081 rfl ?_
  refine v_sld h hX h5 dL_law_1081 1082 rfl ?_
  refine v_i2l h dL_law_1082 1083 rfl ?_
  refine v_ldc2 h dL_law_1083 4294967295 (zwi 6 rfl) 1086 rfl ?_
  refine v_land h dL_law_1086 1087 rfl ?_
  refine v_lor h dL_law_1087 1088 rfl ?_
  refine v_topl hJ ?_
  refine v_swap ?_
  refine v_rcall (n := 4) (As := [.int (xs (i + 1).toNatClampNeg), .int (xs (i + 2).toNatClampNeg), .int (xs (i + 3).toNatClampNeg), .long J]) (rest := []) (ci := 6) h dL_law_1088 (t6 l G ca ad) gL_law_X6_item rfl rfl ⟨rfl, rfl⟩ nX6_item ⟨(Nat.le_of_ble_eq_true rfl), (Nat.le_of_ble_eq_true rfl)⟩ rfl rfl rfl rfl (Nat.le_of_ble_eq_true rfl) ⟨(Nat.le_of_ble_eq_true rfl), (Nat.le_of_ble_eq_true rfl)⟩ (wX_adr ca ad xv xv') 1091 rfl ?_
  refine v_aload_n h dL_law_1091 2 rfl 1092 rfl ?_
  refine v_aload_n h dL_law_1092 0 rfl 1093 rfl ?_
  refine v_iload_n h dL_law_1093 3 rfl 1094 rfl ?_
  refine v_iconst h dL_law_1094 1 rfl 1095 rfl ?_
  refine v_iadd h dL_law_1095 1096 rfl ?_
  refine v_sld h hX h1 dL_law_1096 1097 rfl ?_
  refine v_aload_n h dL_law_1097 0 rfl 1098 rfl ?_
  refine v_iload_n h dL_law_1098 3 rfl 1099 rfl ?_
  refine v_iconst h dL_law_1099 2 rfl 1100 rfl ?_
  refine v_iadd h dL_law_1100 1101 rfl ?_
  refine v_sld h hX h2 dL_law_1101 1102 rfl ?_
  refine v_aload_n h dL_law_1102 0 rfl 1103 rfl ?_
  refine v_iload_n h dL_law_1103 3 rfl 1104 rfl ?_
  refine v_iconst h dL_law_1104 3 rfl 1105 rfl ?_
  refine v_iadd h dL_law_1105 1106 rfl ?_
  refine v_sld h hX h3 dL_law_1106 1107 rfl ?_
  refine v_aload_n h dL_law_1107 0 rfl 1108 rfl ?_
  refine v_iload_n h dL_law_1108 3 rfl 1109 rfl ?_
  refine v_iconst h dL_law_1109 4 rfl 1110 rfl ?_
  refine v_iadd h dL_law_1110 1111 rfl ?_
  refine v_sld h hX h4 dL_law_1111 1112 rfl ?_
  refine v_i2l h dL_law_1112 1113 rfl ?_
  refine v_bipush h dL_law_1113 32 rfl 1115 rfl ?_
  refine v_lshl h dL_law_1115 1116 rfl ?_
  refine v_aload_n h dL_law_1116 0 rfl 1117 rfl ?_
  refine v_iload_n h dL_law_1117 3 rfl 1118 rfl ?_
  refine v_iconst h dL_law_1118 5 rfl 1119 rfl ?_
  refine v_iadd h dL_law_1119 1120 rfl ?_
  refine v_sld h hX h5 dL_law_1120 1121 rfl ?_
  refine v_i2l h dL_law_1121 1122 rfl ?_
  refine v_ldc2 h dL_law_1122 4294967295 (zwi 6 rfl) 1125 rfl ?_
  refine v_land h dL_law_1125 1126 rfl ?_
  refine v_lor h dL_law_1126 1127 rfl ?_
  refine v_topl hJ ?_
  refine v_swap ?_
  refine v_rcall (n := 4) (As := [.int (xs (i + 1).toNatClampNeg), .int (xs (i + 2).toNatClampNeg), .int (xs (i + 3).toNatClampNeg), .long J]) (rest := [.int a]) (ci := 7) h dL_law_1127 (t7 l G ca ae) gL_law_X7_item rfl rfl ⟨rfl, rfl⟩ nX7_item ⟨(Nat.le_of_ble_eq_true rfl), (Nat.le_of_ble_eq_true rfl)⟩ rfl rfl rfl rfl (Nat.le_of_ble_eq_true rfl) ⟨(Nat.le_of_ble_eq_true rfl), (Nat.le_of_ble_eq_true rfl)⟩ (wM_adr ca ae mv mv') 1130 rfl ?_
  exact v_icmp_eq h dL_law_1130 1198 (by decide) 1133 rfl (fun _ => k xv' mv' hR') (fun c => absurd rfl c)
set_option maxRecDepth 100000 in
set_option maxHeartbeats 4000000 in
theorem lc_copy {X : zX} {l : Launch} {G : va_G} {ca : Nat → ClassId} {ad ae : Nat → Nat} {b L : Nat} {xs : Nat → Int32} {i : Int32} {xv : XV} {mv : MV} (h : zOk X l G ca cL_law RL wsL_law 4 room_1) (hX : zScr X b L xs) (h1 : vp_in (i + 1) L) (h2 : vp_in (i + 2) L) (h3 : vp_in (i + 3) L) (h4 : vp_in (i + 4) L) (h5 : vp_in (i + 5) L) (h6 : vp_in (i + 6) L) (hR : Rel xv mv) (k : ∀ xv' mv', Rel xv' mv' → V X G 4 137 3130 (wX ca ad xv' ++ wM ca ae mv') 1198 [(0, .ref b), (1, .ref (ad 0)), (2, .ref (ae 0)), (3, .int i)] []) : V X G 4 137 3130 (wX ca ad xv ++ wM ca ae mv) 1135 [(0, .ref b), (1, .ref (ad 0)), (2, .ref (ae 0)), (3, .int i)] [] := by
  obtain ⟨a, xv', mv', hR', t6, t7⟩ := e_copy hR (xs (i + 1).toNatClampNeg) (xs (i + 2).toNatClampNeg) (xs (i + 3).toNatClampNeg) (xs (i + 4).toNatClampNeg) (xs (i + 5).toNatClampNeg)
  refine v_aload_n h dL_law_1135 1 rfl 1136 rfl ?_
  refine v_aload_n h dL_law_1136 0 rfl 1137 rfl ?_
  refine v_iload_n h dL_law_1137 3 rfl 1138 rfl ?_
  refine v_iconst h dL_law_1138 1 rfl 1139 rfl ?_
  refine v_iadd h dL_law_1139 1140 rfl ?_
  refine v_sld h hX h1 dL_law_1140 1141 rfl ?_
  refine v_aload_n h dL_law_1141 0 rfl 1142 rfl ?_
  refine v_iload_n h dL_law_1142 3 rfl 1143 rfl ?_
  refine v_iconst h dL_law_1143 2 rfl 1144 rfl ?_
  refine v_iadd h dL_law_1144 1145 rfl ?_
  refine v_sld h hX h2 dL_law_1145 1146 rfl ?_
  refine v_aload_n h dL_law_1146 0 rfl 1147 rfl ?_
  refine v_iload_n h dL_law_1147 3 rfl 1148 rfl ?_
  refine v_iconst h dL_law_1148 3 rfl 1149 rfl ?_
  refine v_iadd h dL_law_1149 1150 rfl ?_
  refine v_sld h hX h3 dL_law_1150 1151 rfl ?_
  refine v_aload_n h dL_law_1151 0 rfl 1152 rfl ?_
  refine v_iload_n h dL_law_1152 3 rfl 1153 rfl ?_
  refine v_iconst h dL_law_1153 4 rfl 1154 rfl ?_
  refine v_iadd h dL_law_1154 1155 rfl ?_
  refine v_sld h hX h4 dL_law_1155 1156 rfl ?_
  refine v_aload_n h dL_law_1156 0 rfl 1157 rfl ?_
  refine v_iload_n h dL_law_1157 3 rfl 1158 rfl ?_
  refine v_iconst h dL_law_1158 5 rfl 1159 rfl ?_
  refine v_iadd h dL_law_1159 1160 rfl ?_
  refine v_sld h hX h5 dL_law_1160 1161 rfl ?_
  refine v_swap ?_
  refine v_rcall (n := 5) (As := [.int (xs (i + 1).toNatClampNeg), .int (xs (i + 2).toNatClampNeg), .int (xs (i + 3).toNatClampNeg), .int (xs (i + 4).toNatClampNeg), .int (xs (i + 5).toNatClampNeg)]) (rest := []) (ci := 6) h dL_law_1161 (t6 l G ca ad) gL_law_X6_copy rfl rfl ⟨rfl, rfl⟩ nX6_copy ⟨(Nat.le_of_ble_eq_true rfl), (Nat.le_of_ble_eq_true rfl)⟩ rfl rfl rfl rfl (Nat.le_of_ble_eq_true rfl) ⟨(Nat.le_of_ble_eq_true rfl), (Nat.le_of_ble_eq_true rfl)⟩ (wX_adr ca ad xv xv') 1164 rfl ?_
  refine v_aload_n h dL_law_1164 2 rfl 1165 rfl ?_
  refine v_aload_n h dL_law_1165 0 rfl 1166 rfl ?_
  refine v_iload_n h dL_law_1166 3 rfl 1167 rfl ?_
  refine v_iconst h dL_law_1167 1 rfl 1168 rfl ?_
  refine v_iadd h dL_law_1168 1169 rfl ?_
  refine v_sld h hX h1 dL_law_1169 1170 rfl ?_
  refine v_aload_n h dL_law_1170 0 rfl 1171 rfl ?_
  refine v_iload_n h dL_law_1171 3 rfl 1172 rfl ?_
  refine v_iconst h dL_law_1172 2 rfl 1173 rfl ?_
  refine v_iadd h dL_law_1173 1174 rfl ?_
  refine v_sld h hX h2 dL_law_1174 1175 rfl ?_
  refine v_aload_n h dL_law_1175 0 rfl 1176 rfl ?_
  refine v_iload_n h dL_law_1176 3 rfl 1177 rfl ?_
  refine v_iconst h dL_law_1177 3 rfl 1178 rfl ?_
  refine v_iadd h dL_law_1178 1179 rfl ?_
  refine v_sld h hX h3 dL_law_1179 1180 rfl ?_
  refine v_aload_n h dL_law_1180 0 rfl 1181 rfl ?_
  refine v_iload_n h dL_law_1181 3 rfl 1182 rfl ?_
  refine v_iconst h dL_law_1182 4 rfl 1183 rfl ?_
  refine v_iadd h dL_law_1183 1184 rfl ?_
  refine v_sld h hX h4 dL_law_1184 1185 rfl ?_
  refine v_aload_n h dL_law_1185 0 rfl 1186 rfl ?_
  refine v_iload_n h dL_law_1186 3 rfl 1187 rfl ?_
  refine v_iconst h dL_law_1187 5 rfl 1188 rfl ?_
  refine v_iadd h dL_law_1188 1189 rfl ?_
  refine v_sld h hX h5 dL_law_1189 1190 rfl ?_
  refine v_swap ?_
  refine v_rcall (n := 5) (As := [.int (xs (i + 1).toNatClampNeg), .int (xs (i + 2).toNatClampNeg), .int (xs (i + 3).toNatClampNeg), .int (xs (i + 4).toNatClampNeg), .int (xs (i + 5).toNatClampNeg)]) (rest := [.int a]) (ci := 7) h dL_law_1190 (t7 l G ca ae) gL_law_X7_copy rfl rfl ⟨rfl, rfl⟩ nX7_copy ⟨(Nat.le_of_ble_eq_true rfl), (Nat.le_of_ble_eq_true rfl)⟩ rfl rfl rfl rfl (Nat.le_of_ble_eq_true rfl) ⟨(Nat.le_of_ble_eq_true rfl), (Nat.le_of_ble_eq_true rfl)⟩ (wM_adr ca ae mv mv') 1193 rfl ?_
  exact v_icmp_eq h dL_law_1193 1198 (by decide) 1196 rfl (fun _ => k xv' mv' hR') (fun c => absurd rfl c)
