/-! The law: cases worst raise counted machine -/
section
variable {G : ac_G} {M : ac_M} {h : ac_H} {ad : Nat → Nat} {o : Nat} {md : Nat → Nat} {m : Nat} {b L u i : Nat} {xs : Nat → Int32} {k n : Nat}
theorem law_worst (Z : lz G M ad o md b L u xs) (I : li ad o md u m h) (hm : m < 1000) (hi : i + 7 ≤ L) (hk : k + 7 ≤ 4000) (hn : n + 932 ≤ 500000) (kk : lk G M ad o md b u i m k n) (l5 l6 l7 : Value) : aw G 8 M 863 [.ref b, .ref (ad 0), .ref o, .ref u, .int (nI i), l5, l6, l7] [] h k n := by
  obtain ⟨C, B, hst, hX, hbl, hbA, hL, ua, um⟩ := Z
  obtain ⟨s, w, J, hu⟩ := I
  obtain ⟨fs9, ho⟩ := gJ_om J
  have uo : o ≠ u := fun z => um (by rw [← z]; exact List.mem_cons_self)
  have x1 : vp_in (nI i + 1) L ∧ (nI i + 1).toNatClampNeg = i + 1 := lx (j := 1) (by omega) hL
  have x2 : vp_in (nI i + 2) L ∧ (nI i + 2).toNatClampNeg = i + 2 := lx (j := 2) (by omega) hL
  have x3 : vp_in (nI i + 3) L ∧ (nI i + 3).toNatClampNeg = i + 3 := lx (j := 3) (by omega) hL
  refine aw_aload_n C dL_law_863 rfl rfl (q := 864) rfl ?_
  refine aw_aload_n C dL_law_864 rfl rfl (q := 865) rfl ?_
  refine aw_iload C dL_law_865 rfl (q := 867) rfl ?_
  refine aw_iconst (v := 1) C dL_law_867 (by decide) (q := 868) rfl ?_
  refine aw_iadd C dL_law_868 (q := 869) rfl ?_
  refine aw_sld (j := i + 1) C dL_law_869 hX hbl hbA x1 (q := 870) rfl ?_
  refine aw_aload_n C dL_law_870 rfl rfl (q := 871) rfl ?_
  refine aw_iload C dL_law_871 rfl (q := 873) rfl ?_
  refine aw_iconst (v := 2) C dL_law_873 (by decide) (q := 874) rfl ?_
  refine aw_iadd C dL_law_874 (q := 875) rfl ?_
  refine aw_sld (j := i + 2) C dL_law_875 hX hbl hbA x2 (q := 876) rfl ?_
  refine aw_aload_n C dL_law_876 rfl rfl (q := 877) rfl ?_
  refine aw_iload C dL_law_877 rfl (q := 879) rfl ?_
  refine aw_iconst (v := 3) C dL_law_879 (by decide) (q := 880) rfl ?_
  refine aw_iadd C dL_law_880 (q := 881) rfl ?_
  refine aw_sld (j := i + 3) C dL_law_881 hX hbl hbA x3 (q := 882) rfl ?_
  refine aw_aload_n C dL_law_882 rfl rfl (q := 883) rfl ?_
  refine csL_worst (As := [.ref (ad 0), .int (xs (i + 1)), .int (xs (i + 2)), .int (xs (i + 3)), .ref u]) (rest := []) C B dL_law_883 (w_worst J ((xs (i + 1))) ((xs (i + 2))) ((xs (i + 3))) u hu ua G M.2.1 hst 0) rfl rfl (Nat.le_of_ble_eq_true rfl) (by omega) (by omega) (by omega) (q := 886) rfl (fun r h1 hr => ?_)
  obtain ⟨kc, rfl, kp1, v, w1, hu1, ⟨Q, hM, hQ⟩, hlo⟩ := hr
  show aw G 8 M 886 [.ref b, .ref (ad 0), .ref o, .ref u, .int (nI i), l5, l6, l7] [.int kc] h1 (k + 1) (n + 6)
  have ho1 := kp1 o _ ho (gJ_oa J) uo
  refine aw_istore (ls' := [.ref b, .ref (ad 0), .ref o, .ref u, .int (nI i), .int kc, l6, l7]) C dL_law_886 (by decide) rfl (q := 888) rfl ?_
  refine aw_aload_n C dL_law_888 rfl rfl (q := 889) rfl ?_
  refine aw_aload_n C dL_law_889 rfl rfl (q := 890) rfl ?_
  refine aw_iload C dL_law_890 rfl (q := 892) rfl ?_
  refine aw_iconst (v := 1) C dL_law_892 (by decide) (q := 893) rfl ?_
  refine aw_iadd C dL_law_893 (q := 894) rfl ?_
  refine aw_sld (j := i + 1) C dL_law_894 hX hbl hbA x1 (q := 895) rfl ?_
  refine aw_aload_n C dL_law_895 rfl rfl (q := 896) rfl ?_
  refine aw_iload C dL_law_896 rfl (q := 898) rfl ?_
  refine aw_iconst (v := 2) C dL_law_898 (by decide) (q := 899) rfl ?_
  refine aw_iadd C dL_law_899 (q := 900) rfl ?_
  refine aw_sld (j := i + 2) C dL_law_900 hX hbl hbA x2 (q := 901) rfl ?_
  refine aw_aload_n C dL_law_901 rfl rfl (q := 902) rfl ?_
  refine aw_iload C dL_law_902 rfl (q := 904) rfl ?_
  refine aw_iconst (v := 3) C dL_law_904 (by decide) (q := 905) rfl ?_
  refine aw_iadd C dL_law_905 (q := 906) rfl ?_
  refine aw_sld (j := i + 3) C dL_law_906 hX hbl hbA x3 (q := 907) rfl ?_
  refine cvL_121_9 (As := [.int (xs (i + 1)), .int (xs (i + 2)), .int (xs (i + 3))]) (rest := []) C B dL_law_907 ho1 (hM G M.2.1 0) rfl rfl (Nat.le_of_ble_eq_true rfl) (by omega) (by omega) (by omega) (q := 910) rfl (fun r2 h2 hr2 => ?_)
  obtain ⟨hv, ⟨bv, rfl⟩, s2, J2, hcode, kp2⟩ := hQ r2 h2 hr2
  show aw G 8 M 910 [.ref b, .ref (ad 0), .ref o, .ref u, .int (nI i), .int kc, l6, l7] [.long bv] h2 (k + 1 + 0) (n + 6 + 0)
  have hu2 := kp2 u _ hu1 um
  refine aw_lstore (ls' := [.ref b, .ref (ad 0), .ref o, .ref u, .int (nI i), .int kc, .long bv, .retAddr 0]) C dL_law_910 (by decide) rfl (q := 912) rfl ?_
  refine aw_aload_n C dL_law_912 rfl rfl (q := 913) rfl ?_
  refine cvL_81_9 (As := []) (rest := []) C B dL_law_913 J2.2.2.2.1.1 (m_thrown G M.2.1 o md J2.2.1 h2 0 s2 J2.2.2.2.1) rfl rfl (Nat.le_of_ble_eq_true rfl) (by omega) (by omega) (by omega) (q := 916) rfl (fun r3 h3 hr3 => ?_)
  obtain ⟨rfl, rfl⟩ := hr3
  show aw G 8 M 916 [.ref b, .ref (ad 0), .ref o, .ref u, .int (nI i), .int kc, .long bv, .retAddr 0] [.int (s2.1 0)] h3 (k + 1 + 0 + 0) (n + 6 + 0 + 0)
  refine aw_iload C dL_law_916 rfl (q := 918) rfl ?_
  refine aw_icmp_eq (t := 923) (q := 921) C dL_law_918 (by decide) rfl (fun c1 => ?_) (fun c1 => absurd hcode c1)
  refine aw_iload C dL_law_923 rfl (q := 925) rfl ?_
  have fin : aw G 8 M 939 [.ref b, .ref (ad 0), .ref o, .ref u, .int (nI i), .int kc, .long bv, .retAddr 0] [] h3 (k + 1 + 0 + 0) (n + 6 + 0 + 0) := by
    refine aw_goto (q := 1194) C dL_law_939 (by decide) ?_
    exact kk h3 _ _ _ _ _ ⟨s2, w1, J2, hu2⟩ (by omega) (by omega)
  refine aw_if_ne (t := 939) (q := 928) C dL_law_925 (by decide) rfl (fun _ => fin) (fun c2 => ?_)
  have hw : w1 0 = bv := by
    have e1 := hlo c2
    rw [← hv c2] at e1
    exact (Option.some.inj e1).symm
  refine aw_aload_n C dL_law_928 rfl rfl (q := 929) rfl ?_
  refine aw_iconst (v := 0) C dL_law_929 (by decide) (q := 930) rfl ?_
  refine ay_lald (N := 1) (j := 0) C dL_law_930 hu2 vin0 (by decide) (q := 931) rfl ?_
  refine aw_lload C dL_law_931 rfl (q := 933) rfl ?_
  refine aw_lcmp C dL_law_933 (q := 934) rfl ?_
  exact aw_if_eq (t := 939) (q := 937) C dL_law_934 (by decide) rfl (fun _ => fin) (fun c3 => absurd ((lg_cmp_eq _ _).mpr hw) c3)
theorem law_raise (Z : lz G M ad o md b L u xs) (I : li ad o md u m h) (hm : m < 1000) (hi : i + 7 ≤ L) (hk : k + 7 ≤ 4000) (hn : n + 932 ≤ 500000) (kk : lk G M ad o md b u i m k n) (l5 l6 l7 : Value) : aw G 8 M 942 [.ref b, .ref (ad 0), .ref o, .ref u, .int (nI i), l5, l6, l7] [] h k n := by
  obtain ⟨C, B, hst, hX, hbl, hbA, hL, ua, um⟩ := Z
  obtain ⟨s, w, J, hu⟩ := I
  obtain ⟨fs9, ho⟩ := gJ_om J
  have uo : o ≠ u := fun z => um (by rw [← z]; exact List.mem_cons_self)
  have x1 : vp_in (nI i + 1) L ∧ (nI i + 1).toNatClampNeg = i + 1 := lx (j := 1) (by omega) hL
  have x2 : vp_in (nI i + 2) L ∧ (nI i + 2).toNatClampNeg = i + 2 := lx (j := 2) (by omega) hL
  refine aw_aload_n C dL_law_942 rfl rfl (q := 943) rfl ?_
  refine aw_aload_n C dL_law_943 rfl rfl (q := 944) rfl ?_
  refine aw_iload C dL_law_944 rfl (q := 946) rfl ?_
  refine aw_iconst (v := 1) C dL_law_946 (by decide) (q := 947) rfl ?_
  refine aw_iadd C dL_law_947 (q := 948) rfl ?_
  refine aw_sld (j := i + 1) C dL_law_948 hX hbl hbA x1 (q := 949) rfl ?_
  refine aw_aload_n C dL_law_949 rfl rfl (q := 950) rfl ?_
  refine aw_iload C dL_law_950 rfl (q := 952) rfl ?_
  refine aw_iconst (v := 2) C dL_law_952 (by decide) (q := 953) rfl ?_
  refine aw_iadd C dL_law_953 (q := 954) rfl ?_
  refine aw_sld (j := i + 2) C dL_law_954 hX hbl hbA x2 (q := 955) rfl ?_
  refine aw_aload_n C dL_law_955 rfl rfl (q := 956) rfl ?_
  refine csL_raise (As := [.ref (ad 0), .int (xs (i + 1)), .int (xs (i + 2)), .ref u]) (rest := []) C B dL_law_956 (w_raise J ((xs (i + 1))) ((xs (i + 2))) u hu ua G M.2.1 hst 0) rfl rfl (Nat.le_of_ble_eq_true rfl) (by omega) (by omega) (by omega) (q := 959) rfl (fun r h1 hr => ?_)
  obtain ⟨kc, rfl, kp1, v, w1, hu1, ⟨Q, hM, hQ⟩, hlo⟩ := hr
  show aw G 8 M 959 [.ref b, .ref (ad 0), .ref o, .ref u, .int (nI i), l5, l6, l7] [.int kc] h1 (k + 1) (n + 6)
  have ho1 := kp1 o _ ho (gJ_oa J) uo
  refine aw_istore (ls' := [.ref b, .ref (ad 0), .ref o, .ref u, .int (nI i), .int kc, l6, l7]) C dL_law_959 (by decide) rfl (q := 961) rfl ?_
  refine aw_aload_n C dL_law_961 rfl rfl (q := 962) rfl ?_
  refine aw_aload_n C dL_law_962 rfl rfl (q := 963) rfl ?_
  refine aw_iload C dL_law_963 rfl (q := 965) rfl ?_
  refine aw_iconst (v := 1) C dL_law_965 (by decide) (q := 966) rfl ?_
  refine aw_iadd C dL_law_966 (q := 967) rfl ?_
  refine aw_sld (j := i + 1) C dL_law_967 hX hbl hbA x1 (q := 968) rfl ?_
  refine aw_aload_n C dL_law_968 rfl rfl (q := 969) rfl ?_
  refine aw_iload C dL_law_969 rfl (q := 971) rfl ?_
  refine aw_iconst (v := 2) C dL_law_971 (by decide) (q := 972) rfl ?_
  refine aw_iadd C dL_law_972 (q := 973) rfl ?_
  refine aw_sld (j := i + 2) C dL_law_973 hX hbl hbA x2 (q := 974) rfl ?_
  refine cvL_124_9 (As := [.int (xs (i + 1)), .int (xs (i + 2))]) (rest := []) C B dL_law_974 ho1 (hM G M.2.1 0) rfl rfl (Nat.le_of_ble_eq_true rfl) (by omega) (by omega) (by omega) (q := 977) rfl (fun r2 h2 hr2 => ?_)
  obtain ⟨hv, ⟨bv, rfl⟩, s2, J2, hcode, kp2⟩ := hQ r2 h2 hr2
  show aw G 8 M 977 [.ref b, .ref (ad 0), .ref o, .ref u, .int (nI i), .int kc, l6, l7] [.int bv] h2 (k + 1 + 0) (n + 6 + 0)
  have hu2 := kp2 u _ hu1 um
  refine aw_istore (ls' := [.ref b, .ref (ad 0), .ref o, .ref u, .int (nI i), .int kc, .int bv, l7]) C dL_law_977 (by decide) rfl (q := 979) rfl ?_
  refine aw_aload_n C dL_law_979 rfl rfl (q := 980) rfl ?_
  refine cvL_81_9 (As := []) (rest := []) C B dL_law_980 J2.2.2.2.1.1 (m_thrown G M.2.1 o md J2.2.1 h2 0 s2 J2.2.2.2.1) rfl rfl (Nat.le_of_ble_eq_true rfl) (by omega) (by omega) (by omega) (q := 983) rfl (fun r3 h3 hr3 => ?_)
  obtain ⟨rfl, rfl⟩ := hr3
  show aw G 8 M 983 [.ref b, .ref (ad 0), .ref o, .ref u, .int (nI i), .int kc, .int bv, l7] [.int (s2.1 0)] h3 (k + 1 + 0 + 0) (n + 6 + 0 + 0)
  refine aw_iload C dL_law_983 rfl (q := 985) rfl ?_
  refine aw_icmp_eq (t := 990) (q := 988) C dL_law_985 (by decide) rfl (fun c1 => ?_) (fun c1 => absurd hcode c1)
  refine aw_iload C dL_law_990 rfl (q := 992) rfl ?_
  have fin : aw G 8 M 1007 [.ref b, .ref (ad 0), .ref o, .ref u, .int (nI i), .int kc, .int bv, l7] [] h3 (k + 1 + 0 + 0) (n + 6 + 0 + 0) := by
    refine aw_goto (q := 1194) C dL_law_1007 (by decide) ?_
    exact kk h3 _ _ _ _ _ ⟨s2, w1, J2, hu2⟩ (by omega) (by omega)
  refine aw_if_ne (t := 1007) (q := 995) C dL_law_992 (by decide) rfl (fun _ => fin) (fun c2 => ?_)
  have hw : w1 0 = bv.toInt64 := by
    have e1 := hlo c2
    rw [← hv c2] at e1
    exact (Option.some.inj e1).symm
  refine aw_aload_n C dL_law_995 rfl rfl (q := 996) rfl ?_
  refine aw_iconst (v := 0) C dL_law_996 (by decide) (q := 997) rfl ?_
  refine ay_lald (N := 1) (j := 0) C dL_law_997 hu2 vin0 (by decide) (q := 998) rfl ?_
  refine aw_iload C dL_law_998 rfl (q := 1000) rfl ?_
  refine aw_i2l C dL_law_1000 (q := 1001) rfl ?_
  refine aw_lcmp C dL_law_1001 (q := 1002) rfl ?_
  exact aw_if_eq (t := 1007) (q := 1005) C dL_law_1002 (by decide) rfl (fun _ => fin) (fun c3 => absurd ((lg_cmp_eq _ _).mpr hw) c3)
theorem law_counted (Z : lz G M ad o md b L u xs) (I : li ad o md u m h) (hm : m < 1000) (hi : i + 7 ≤ L) (hk : k + 7 ≤ 4000) (hn : n + 932 ≤ 500000) (kk : lk G M ad o md b u i m k n) (l5 l6 l7 : Value) : aw G 8 M 1071 [.ref b, .ref (ad 0), .ref o, .ref u, .int (nI i), l5, l6, l7] [] h k n := by
  obtain ⟨C, B, hst, hX, hbl, hbA, hL, ua, um⟩ := Z
  obtain ⟨s, w, J, hu⟩ := I
  obtain ⟨fs9, ho⟩ := gJ_om J
  have uo : o ≠ u := fun z => um (by rw [← z]; exact List.mem_cons_self)
  have x1 : vp_in (nI i + 1) L ∧ (nI i + 1).toNatClampNeg = i + 1 := lx (j := 1) (by omega) hL
  refine aw_aload_n C dL_law_1071 rfl rfl (q := 1072) rfl ?_
  refine aw_aload_n C dL_law_1072 rfl rfl (q := 1073) rfl ?_
  refine aw_iload C dL_law_1073 rfl (q := 1075) rfl ?_
  refine aw_iconst (v := 1) C dL_law_1075 (by decide) (q := 1076) rfl ?_
  refine aw_iadd C dL_law_1076 (q := 1077) rfl ?_
  refine aw_sld (j := i + 1) C dL_law_1077 hX hbl hbA x1 (q := 1078) rfl ?_
  refine aw_aload_n C dL_law_1078 rfl rfl (q := 1079) rfl ?_
  refine csL_counted (As := [.ref (ad 0), .int (xs (i + 1)), .ref u]) (rest := []) C B dL_law_1079 (w_counted J ((xs (i + 1))) u hu ua G M.2.1 hst 0) rfl rfl (Nat.le_of_ble_eq_true rfl) (by omega) (by omega) (by omega) (q := 1082) rfl (fun r h1 hr => ?_)
  obtain ⟨kc, rfl, kp1, v, w1, hu1, ⟨Q, hM, hQ⟩, hlo⟩ := hr
  show aw G 8 M 1082 [.ref b, .ref (ad 0), .ref o, .ref u, .int (nI i), l5, l6, l7] [.int kc] h1 (k + 1) (n + 6)
  have ho1 := kp1 o _ ho (gJ_oa J) uo
  refine aw_istore (ls' := [.ref b, .ref (ad 0), .ref o, .ref u, .int (nI i), .int kc, l6, l7]) C dL_law_1082 (by decide) rfl (q := 1084) rfl ?_
  refine aw_aload_n C dL_law_1084 rfl rfl (q := 1085) rfl ?_
  refine aw_aload_n C dL_law_1085 rfl rfl (q := 1086) rfl ?_
  refine aw_iload C dL_law_1086 rfl (q := 1088) rfl ?_
  refine aw_iconst (v := 1) C dL_law_1088 (by decide) (q := 1089) rfl ?_
  refine aw_iadd C dL_law_1089 (q := 1090) rfl ?_
  refine aw_sld (j := i + 1) C dL_law_1090 hX hbl hbA x1 (q := 1091) rfl ?_
  refine cvL_132_9 (As := [.int (xs (i + 1))]) (rest := []) C B dL_law_1091 ho1 (hM G M.2.1 0) rfl rfl (Nat.le_of_ble_eq_true rfl) (by omega) (by omega) (by omega) (q := 1094) rfl (fun r2 h2 hr2 => ?_)
  obtain ⟨hv, ⟨bv, rfl⟩, s2, J2, hcode, kp2⟩ := hQ r2 h2 hr2
  show aw G 8 M 1094 [.ref b, .ref (ad 0), .ref o, .ref u, .int (nI i), .int kc, l6, l7] [.long bv] h2 (k + 1 + 0) (n + 6 + 0)
  have hu2 := kp2 u _ hu1 um
  refine aw_lstore (ls' := [.ref b, .ref (ad 0), .ref o, .ref u, .int (nI i), .int kc, .long bv, .retAddr 0]) C dL_law_1094 (by decide) rfl (q := 1096) rfl ?_
  refine aw_aload_n C dL_law_1096 rfl rfl (q := 1097) rfl ?_
  refine cvL_81_9 (As := []) (rest := []) C B dL_law_1097 J2.2.2.2.1.1 (m_thrown G M.2.1 o md J2.2.1 h2 0 s2 J2.2.2.2.1) rfl rfl (Nat.le_of_ble_eq_true rfl) (by omega) (by omega) (by omega) (q := 1100) rfl (fun r3 h3 hr3 => ?_)
  obtain ⟨rfl, rfl⟩ := hr3
  show aw G 8 M 1100 [.ref b, .ref (ad 0), .ref o, .ref u, .int (nI i), .int kc, .long bv, .retAddr 0] [.int (s2.1 0)] h3 (k + 1 + 0 + 0) (n + 6 + 0 + 0)
  refine aw_iload C dL_law_1100 rfl (q := 1102) rfl ?_
  refine aw_icmp_eq (t := 1107) (q := 1105) C dL_law_1102 (by decide) rfl (fun c1 => ?_) (fun c1 => absurd hcode c1)
  refine aw_iload C dL_law_1107 rfl (q := 1109) rfl ?_
  have fin : aw G 8 M 1123 [.ref b, .ref (ad 0), .ref o, .ref u, .int (nI i), .int kc, .long bv, .retAddr 0] [] h3 (k + 1 + 0 + 0) (n + 6 + 0 + 0) := by
    refine aw_goto (q := 1194) C dL_law_1123 (by decide) ?_
    exact kk h3 _ _ _ _ _ ⟨s2, w1, J2, hu2⟩ (by omega) (by omega)
  refine aw_if_ne (t := 1123) (q := 1112) C dL_law_1109 (by decide) rfl (fun _ => fin) (fun c2 => ?_)
  have hw : w1 0 = bv := by
    have e1 := hlo c2
    rw [← hv c2] at e1
    exact (Option.some.inj e1).symm
  refine aw_aload_n C dL_law_1112 rfl rfl (q := 1113) rfl ?_
  refine aw_iconst (v := 0) C dL_law_1113 (by decide) (q := 1114) rfl ?_
  refine ay_lald (N := 1) (j := 0) C dL_law_1114 hu2 vin0 (by decide) (q := 1115) rfl ?_
  refine aw_lload C dL_law_1115 rfl (q := 1117) rfl ?_
  refine aw_lcmp C dL_law_1117 (q := 1118) rfl ?_
  exact aw_if_eq (t := 1123) (q := 1121) C dL_law_1118 (by decide) rfl (fun _ => fin) (fun c3 => absurd ((lg_cmp_eq _ _).mpr hw) c3)
theorem law_machine (Z : lz G M ad o md b L u xs) (I : li ad o md u m h) (hm : m < 1000) (hi : i + 7 ≤ L) (hk : k + 7 ≤ 4000) (hn : n + 932 ≤ 500000) (kk : lk G M ad o md b u i m k n) (l5 l6 l7 : Value) : aw G 8 M 1126 [.ref b, .ref (ad 0), .ref o, .ref u, .int (nI i), l5, l6, l7] [] h k n := by
  obtain ⟨C, B, hst, hX, hbl, hbA, hL, ua, um⟩ := Z
  obtain ⟨s, w, J, hu⟩ := I
  obtain ⟨fs9, ho⟩ := gJ_om J
  have uo : o ≠ u := fun z => um (by rw [← z]; exact List.mem_cons_self)
  have x1 : vp_in (nI i + 1) L ∧ (nI i + 1).toNatClampNeg = i + 1 := lx (j := 1) (by omega) hL
  have x2 : vp_in (nI i + 2) L ∧ (nI i + 2).toNatClampNeg = i + 2 := lx (j := 2) (by omega) hL
  refine aw_aload_n C dL_law_1126 rfl rfl (q := 1127) rfl ?_
  refine aw_aload_n C dL_law_1127 rfl rfl (q := 1128) rfl ?_
  refine aw_iload C dL_law_1128 rfl (q := 1130) rfl ?_
  refine aw_iconst (v := 1) C dL_law_1130 (by decide) (q := 1131) rfl ?_
  refine aw_iadd C dL_law_1131 (q := 1132) rfl ?_
  refine aw_sld (j := i + 1) C dL_law_1132 hX hbl hbA x1 (q := 1133) rfl ?_
  refine aw_aload_n C dL_law_1133 rfl rfl (q := 1134) rfl ?_
  refine aw_iload C dL_law_1134 rfl (q := 1136) rfl ?_
  refine aw_iconst (v := 2) C dL_law_1136 (by decide) (q := 1137) rfl ?_
  refine aw_iadd C dL_law_1137 (q := 1138) rfl ?_
  refine aw_sld (j := i + 2) C dL_law_1138 hX hbl hbA x2 (q := 1139) rfl ?_
  refine aw_aload_n C dL_law_1139 rfl rfl (q := 1140) rfl ?_
  refine csL_machine (As := [.ref (ad 0), .int (xs (i + 1)), .int (xs (i + 2)), .ref u]) (rest := []) C B dL_law_1140 (w_machine J ((xs (i + 1))) ((xs (i + 2))) u hu ua G M.2.1 hst 0) rfl rfl (Nat.le_of_ble_eq_true rfl) (by omega) (by omega) (by omega) (q := 1143) rfl (fun r h1 hr => ?_)
  obtain ⟨kc, rfl, kp1, v, w1, hu1, ⟨Q, hM, hQ⟩, hlo⟩ := hr
  show aw G 8 M 1143 [.ref b, .ref (ad 0), .ref o, .ref u, .int (nI i), l5, l6, l7] [.int kc] h1 (k + 1) (n + 6)
  have ho1 := kp1 o _ ho (gJ_oa J) uo
  refine aw_istore (ls' := [.ref b, .ref (ad 0), .ref o, .ref u, .int (nI i), .int kc, l6, l7]) C dL_law_1143 (by decide) rfl (q := 1145) rfl ?_
  refine aw_aload_n C dL_law_1145 rfl rfl (q := 1146) rfl ?_
  refine aw_aload_n C dL_law_1146 rfl rfl (q := 1147) rfl ?_
  refine aw_iload C dL_law_1147 rfl (q := 1149) rfl ?_
  refine aw_iconst (v := 1) C dL_law_1149 (by decide) (q := 1150) rfl ?_
  refine aw_iadd C dL_law_1150 (q := 1151) rfl ?_
  refine aw_sld (j := i + 1) C dL_law_1151 hX hbl hbA x1 (q := 1152) rfl ?_
  refine aw_aload_n C dL_law_1152 rfl rfl (q := 1153) rfl ?_
  refine aw_iload C dL_law_1153 rfl (q := 1155) rfl ?_
  refine aw_iconst (v := 2) C dL_law_1155 (by decide) (q := 1156) rfl ?_
  refine aw_iadd C dL_law_1156 (q := 1157) rfl ?_
  refine aw_sld (j := i + 2) C dL_law_1157 hX hbl hbA x2 (q := 1158) rfl ?_
  refine cvL_135_9 (As := [.int (xs (i + 1)), .int (xs (i + 2))]) (rest := []) C B dL_law_1158 ho1 (hM G M.2.1 0) rfl rfl (Nat.le_of_ble_eq_true rfl) (by omega) (by omega) (by omega) (q := 1161) rfl (fun r2 h2 hr2 => ?_)
  obtain ⟨hv, ⟨bv, rfl⟩, s2, J2, hcode, kp2⟩ := hQ r2 h2 hr2
  show aw G 8 M 1161 [.ref b, .ref (ad 0), .ref o, .ref u, .int (nI i), .int kc, l6, l7] [.int bv] h2 (k + 1 + 0) (n + 6 + 0)
  have hu2 := kp2 u _ hu1 um
  refine aw_istore (ls' := [.ref b, .ref (ad 0), .ref o, .ref u, .int (nI i), .int kc, .int bv, l7]) C dL_law_1161 (by decide) rfl (q := 1163) rfl ?_
  refine aw_aload_n C dL_law_1163 rfl rfl (q := 1164) rfl ?_
  refine cvL_81_9 (As := []) (rest := []) C B dL_law_1164 J2.2.2.2.1.1 (m_thrown G M.2.1 o md J2.2.1 h2 0 s2 J2.2.2.2.1) rfl rfl (Nat.le_of_ble_eq_true rfl) (by omega) (by omega) (by omega) (q := 1167) rfl (fun r3 h3 hr3 => ?_)
  obtain ⟨rfl, rfl⟩ := hr3
  show aw G 8 M 1167 [.ref b, .ref (ad 0), .ref o, .ref u, .int (nI i), .int kc, .int bv, l7] [.int (s2.1 0)] h3 (k + 1 + 0 + 0) (n + 6 + 0 + 0)
  refine aw_iload C dL_law_1167 rfl (q := 1169) rfl ?_
  refine aw_icmp_eq (t := 1174) (q := 1172) C dL_law_1169 (by decide) rfl (fun c1 => ?_) (fun c1 => absurd hcode c1)
  refine aw_iload C dL_law_1174 rfl (q := 1176) rfl ?_
  have fin : aw G 8 M 1191 [.ref b, .ref (ad 0), .ref o, .ref u, .int (nI i), .int kc, .int bv, l7] [] h3 (k + 1 + 0 + 0) (n + 6 + 0 + 0) := by
    refine aw_goto (q := 1194) C dL_law_1191 (by decide) ?_
    exact kk h3 _ _ _ _ _ ⟨s2, w1, J2, hu2⟩ (by omega) (by omega)
  refine aw_if_ne (t := 1191) (q := 1179) C dL_law_1176 (by decide) rfl (fun _ => fin) (fun c2 => ?_)
  have hw : w1 0 = bv.toInt64 := by
    have e1 := hlo c2
    rw [← hv c2] at e1
    exact (Option.some.inj e1).symm
  refine aw_aload_n C dL_law_1179 rfl rfl (q := 1180) rfl ?_
  refine aw_iconst (v := 0) C dL_law_1180 (by decide) (q := 1181) rfl ?_
  refine ay_lald (N := 1) (j := 0) C dL_law_1181 hu2 vin0 (by decide) (q := 1182) rfl ?_
  refine aw_iload C dL_law_1182 rfl (q := 1184) rfl ?_
  refine aw_i2l C dL_law_1184 (q := 1185) rfl ?_
  refine aw_lcmp C dL_law_1185 (q := 1186) rfl ?_
  exact aw_if_eq (t := 1191) (q := 1189) C dL_law_1186 (by decide) rfl (fun _ => fin) (fun c3 => absurd ((lg_cmp_eq _ _).mpr hw) c3)
end
