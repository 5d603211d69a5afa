/-! The law: cases unit read clear appeal write -/
section
variable {G : ac_G} {M : ac_M} {h : ac_H} {ad : Nat → Nat} {o : Nat} {md : Nat → Nat} {m : Nat} {b L u i : Nat} {xs : Nat → Int32} {k n : Nat}
theorem law_unit (Z : lz G M ad o md b L u xs) (I : li ad o md u m h) (hm : m < 1000) (hi : i + 7 ≤ L) (hk : k + 7 ≤ 4000) (hn : n + 932 ≤ 500000) (kk : lk G M ad o md b u i m k n) (l5 l6 l7 : Value) : aw G 8 M 124 [.ref b, .ref (ad 0), .ref o, .ref u, .int (nI i), l5, l6, l7] [] h k n := by
  obtain ⟨C, B, hst, hX, hbl, hbA, hL, ua, um⟩ := Z
  obtain ⟨s, w, J, hu⟩ := I
  obtain ⟨fs9, ho⟩ := gJ_om J
  have x1 : vp_in (nI i + 1) L ∧ (nI i + 1).toNatClampNeg = i + 1 := lx (j := 1) (by omega) hL
  refine aw_aload_n C dL_law_124 rfl rfl (q := 125) rfl ?_
  refine aw_aload_n C dL_law_125 rfl rfl (q := 126) rfl ?_
  refine aw_iload C dL_law_126 rfl (q := 128) rfl ?_
  refine aw_iconst (v := 1) C dL_law_128 (by decide) (q := 129) rfl ?_
  refine aw_iadd C dL_law_129 (q := 130) rfl ?_
  refine aw_sld (j := i + 1) C dL_law_130 hX hbl hbA x1 (q := 131) rfl ?_
  obtain ⟨Q1, hM1, hQ1⟩ := j_unit J ((xs (i + 1)))
  obtain ⟨fs8, h80⟩ := gJ_ob J
  refine cvL_65_8 (As := [.int (xs (i + 1))]) (rest := []) C B dL_law_131 h80 (hM1 G M.2.1 0) rfl rfl (Nat.le_of_ble_eq_true rfl) (by omega) (by omega) (by omega) (q := 134) rfl (fun r h1 hr => ?_)
  obtain ⟨kp1, ⟨v, rfl⟩, Q, hM, hQ⟩ := hQ1 r h1 hr
  show aw G 8 M 134 [.ref b, .ref (ad 0), .ref o, .ref u, .int (nI i), l5, l6, l7] [.int v] h1 (k + 0) (n + 0)
  have hu1 := kp1 u _ hu ua
  have ho1 := kp1 o _ ho (gJ_oa J)
  refine aw_aload_n C dL_law_134 rfl rfl (q := 135) rfl ?_
  refine aw_aload_n C dL_law_135 rfl rfl (q := 136) rfl ?_
  refine aw_iload C dL_law_136 rfl (q := 138) rfl ?_
  refine aw_iconst (v := 1) C dL_law_138 (by decide) (q := 139) rfl ?_
  refine aw_iadd C dL_law_139 (q := 140) rfl ?_
  refine aw_sld (j := i + 1) C dL_law_140 hX hbl hbA x1 (q := 141) rfl ?_
  refine cvL_69_9 (As := [.int (xs (i + 1))]) (rest := [.int v]) C B dL_law_141 ho1 (hM G M.2.1 0) rfl rfl (Nat.le_of_ble_eq_true rfl) (by omega) (by omega) (by omega) (q := 144) rfl (fun r2 h2 hr2 => ?_)
  obtain ⟨hv, ht, s2, J2, hcode, kp2⟩ := hQ r2 h2 hr2
  have hu2 := kp2 u _ hu1 um
  have e9 := hv rfl
  subst e9
  show aw G 8 M 144 [.ref b, .ref (ad 0), .ref o, .ref u, .int (nI i), l5, l6, l7] [.int v, .int v] h2 (k + 0 + 0) (n + 0 + 0)
  refine aw_icmp_eq (t := 1194) (q := 147) C dL_law_144 (by decide) rfl (fun c1 => ?_) (fun c1 => absurd rfl c1)
  exact kk h2 _ _ _ _ _ ⟨s2, w, J2, hu2⟩ (by omega) (by omega)
theorem law_read (Z : lz G M ad o md b L u xs) (I : li ad o md u m h) (hm : m < 1000) (hi : i + 7 ≤ L) (hk : k + 7 ≤ 4000) (hn : n + 932 ≤ 500000) (kk : lk G M ad o md b u i m k n) (l5 l6 l7 : Value) : aw G 8 M 149 [.ref b, .ref (ad 0), .ref o, .ref u, .int (nI i), l5, l6, l7] [] h k n := by
  obtain ⟨C, B, hst, hX, hbl, hbA, hL, ua, um⟩ := Z
  obtain ⟨s, w, J, hu⟩ := I
  obtain ⟨fs9, ho⟩ := gJ_om J
  refine aw_aload_n C dL_law_149 rfl rfl (q := 150) rfl ?_
  obtain ⟨ms, Q1, hms, hM1, hQ1⟩ := j_read J
  obtain ⟨fs8, h80⟩ := gJ_ob J
  refine cvL_70_8 (As := []) (rest := []) C B dL_law_150 h80 (hM1 G M.2.1 0) rfl rfl (Nat.le_of_ble_eq_true rfl) (by omega) (by omega) (by omega) (q := 153) rfl (fun r h1 hr => ?_)
  obtain ⟨kp1, ⟨v, rfl⟩, Q, hM, hQ⟩ := hQ1 r h1 hr
  show aw G 8 M 153 [.ref b, .ref (ad 0), .ref o, .ref u, .int (nI i), l5, l6, l7] [.int v] h1 (k + 7) (n + ms)
  have hu1 := kp1 u _ hu ua
  have ho1 := kp1 o _ ho (gJ_oa J)
  refine aw_aload_n C dL_law_153 rfl rfl (q := 154) rfl ?_
  refine cvL_74_9 (As := []) (rest := [.int v]) C B dL_law_154 ho1 (hM G M.2.1 0) rfl rfl (Nat.le_of_ble_eq_true rfl) (by omega) (by omega) (by omega) (q := 157) rfl (fun r2 h2 hr2 => ?_)
  obtain ⟨hv, ht, s2, J2, hcode, kp2⟩ := hQ r2 h2 hr2
  have hu2 := kp2 u _ hu1 um
  have e9 := hv rfl
  subst e9
  show aw G 8 M 157 [.ref b, .ref (ad 0), .ref o, .ref u, .int (nI i), l5, l6, l7] [.int v, .int v] h2 (k + 7 + 0) (n + ms + 0)
  refine aw_icmp_eq (t := 1194) (q := 160) C dL_law_157 (by decide) rfl (fun c1 => ?_) (fun c1 => absurd rfl c1)
  exact kk h2 _ _ _ _ _ ⟨s2, w, J2, hu2⟩ (by omega) (by omega)
theorem law_clear (Z : lz G M ad o md b L u xs) (I : li ad o md u m h) (hm : m < 1000) (hi : i + 7 ≤ L) (hk : k + 7 ≤ 4000) (hn : n + 932 ≤ 500000) (kk : lk G M ad o md b u i m k n) (l5 l6 l7 : Value) : aw G 8 M 484 [.ref b, .ref (ad 0), .ref o, .ref u, .int (nI i), l5, l6, l7] [] h k n := by
  obtain ⟨C, B, hst, hX, hbl, hbA, hL, ua, um⟩ := Z
  obtain ⟨s, w, J, hu⟩ := I
  obtain ⟨fs9, ho⟩ := gJ_om J
  refine aw_aload_n C dL_law_484 rfl rfl (q := 485) rfl ?_
  obtain ⟨Q1, hM1, hQ1⟩ := j_clear J hm
  obtain ⟨fs8, h80⟩ := gJ_ob J
  refine cvL_98_8 (As := []) (rest := []) C B dL_law_485 h80 (hM1 G M.2.1 0) rfl rfl (Nat.le_of_ble_eq_true rfl) (by omega) (by omega) (by omega) (q := 488) rfl (fun r h1 hr => ?_)
  obtain ⟨kp1, hN, Q, hM, hQ⟩ := hQ1 r h1 hr
  cases hN
  show aw G 8 M 488 [.ref b, .ref (ad 0), .ref o, .ref u, .int (nI i), l5, l6, l7] [] h1 (k + 0) (n + 0)
  have hu1 := kp1 u _ hu ua
  have ho1 := kp1 o _ ho (gJ_oa J)
  refine aw_aload_n C dL_law_488 rfl rfl (q := 489) rfl ?_
  refine cvL_101_9 (As := []) (rest := []) C B dL_law_489 ho1 (hM G M.2.1 0) rfl rfl (Nat.le_of_ble_eq_true rfl) (by omega) (by omega) (by omega) (q := 492) rfl (fun r2 h2 hr2 => ?_)
  obtain ⟨hv, ht, s2, J2, hcode, kp2⟩ := hQ r2 h2 hr2
  have hu2 := kp2 u _ hu1 um
  cases ht
  show aw G 8 M 492 [.ref b, .ref (ad 0), .ref o, .ref u, .int (nI i), l5, l6, l7] [] h2 (k + 0 + 0) (n + 0 + 0)
  refine aw_goto (q := 1194) C dL_law_492 (by decide) ?_
  exact kk h2 _ _ _ _ _ ⟨s2, w, J2, hu2⟩ (by omega) (by omega)
theorem law_appeal (Z : lz G M ad o md b L u xs) (I : li ad o md u m h) (hm : m < 1000) (hi : i + 7 ≤ L) (hk : k + 7 ≤ 4000) (hn : n + 932 ≤ 500000) (kk : lk G M ad o md b u i m k n) (l5 l6 l7 : Value) : aw G 8 M 1010 [.ref b, .ref (ad 0), .ref o, .ref u, .int (nI i), l5, l6, l7] [] h k n := by
  obtain ⟨C, B, hst, hX, hbl, hbA, hL, ua, um⟩ := Z
  obtain ⟨s, w, J, hu⟩ := I
  obtain ⟨fs9, ho⟩ := gJ_om J
  have x1 : vp_in (nI i + 1) L ∧ (nI i + 1).toNatClampNeg = i + 1 := lx (j := 1) (by omega) hL
  have x2 : vp_in (nI i + 2) L ∧ (nI i + 2).toNatClampNeg = i + 2 := lx (j := 2) (by omega) hL
  have x3 : vp_in (nI i + 3) L ∧ (nI i + 3).toNatClampNeg = i + 3 := lx (j := 3) (by omega) hL
  have x4 : vp_in (nI i + 4) L ∧ (nI i + 4).toNatClampNeg = i + 4 := lx (j := 4) (by omega) hL
  refine aw_aload_n C dL_law_1010 rfl rfl (q := 1011) rfl ?_
  refine aw_aload_n C dL_law_1011 rfl rfl (q := 1012) rfl ?_
  refine aw_iload C dL_law_1012 rfl (q := 1014) rfl ?_
  refine aw_iconst (v := 1) C dL_law_1014 (by decide) (q := 1015) rfl ?_
  refine aw_iadd C dL_law_1015 (q := 1016) rfl ?_
  refine aw_sld (j := i + 1) C dL_law_1016 hX hbl hbA x1 (q := 1017) rfl ?_
  refine aw_aload_n C dL_law_1017 rfl rfl (q := 1018) rfl ?_
  refine aw_iload C dL_law_1018 rfl (q := 1020) rfl ?_
  refine aw_iconst (v := 2) C dL_law_1020 (by decide) (q := 1021) rfl ?_
  refine aw_iadd C dL_law_1021 (q := 1022) rfl ?_
  refine aw_sld (j := i + 2) C dL_law_1022 hX hbl hbA x2 (q := 1023) rfl ?_
  refine aw_aload_n C dL_law_1023 rfl rfl (q := 1024) rfl ?_
  refine aw_iload C dL_law_1024 rfl (q := 1026) rfl ?_
  refine aw_iconst (v := 3) C dL_law_1026 (by decide) (q := 1027) rfl ?_
  refine aw_iadd C dL_law_1027 (q := 1028) rfl ?_
  refine aw_sld (j := i + 3) C dL_law_1028 hX hbl hbA x3 (q := 1029) rfl ?_
  refine aw_aload_n C dL_law_1029 rfl rfl (q := 1030) rfl ?_
  refine aw_iload C dL_law_1030 rfl (q := 1032) rfl ?_
  refine aw_iconst (v := 4) C dL_law_1032 (by decide) (q := 1033) rfl ?_
  refine aw_iadd C dL_law_1033 (q := 1034) rfl ?_
  refine aw_sld (j := i + 4) C dL_law_1034 hX hbl hbA x4 (q := 1035) rfl ?_
  obtain ⟨Q1, hM1, hQ1⟩ := j_appeal J ((xs (i + 1))) ((xs (i + 2))) ((xs (i + 3))) ((xs (i + 4)))
  obtain ⟨fs8, h80⟩ := gJ_ob J
  refine cvL_125_8 (As := [.int (xs (i + 1)), .int (xs (i + 2)), .int (xs (i + 3)), .int (xs (i + 4))]) (rest := []) C B dL_law_1035 h80 (hM1 G M.2.1 0) rfl rfl (Nat.le_of_ble_eq_true rfl) (by omega) (by omega) (by omega) (q := 1038) rfl (fun r h1 hr => ?_)
  obtain ⟨kp1, v, rfl, Q, hM, hQ⟩ := hQ1 r h1 hr
  show aw G 8 M 1038 [.ref b, .ref (ad 0), .ref o, .ref u, .int (nI i), l5, l6, l7] [.int v] h1 (k + 0) (n + 0)
  have hu1 := kp1 u _ hu ua
  have ho1 := kp1 o _ ho (gJ_oa J)
  refine aw_aload_n C dL_law_1038 rfl rfl (q := 1039) rfl ?_
  refine aw_aload_n C dL_law_1039 rfl rfl (q := 1040) rfl ?_
  refine aw_iload C dL_law_1040 rfl (q := 1042) rfl ?_
  refine aw_iconst (v := 1) C dL_law_1042 (by decide) (q := 1043) rfl ?_
  refine aw_iadd C dL_law_1043 (q := 1044) rfl ?_
  refine aw_sld (j := i + 1) C dL_law_1044 hX hbl hbA x1 (q := 1045) rfl ?_
  refine aw_aload_n C dL_law_1045 rfl rfl (q := 1046) rfl ?_
  refine aw_iload C dL_law_1046 rfl (q := 1048) rfl ?_
  refine aw_iconst (v := 2) C dL_law_1048 (by decide) (q := 1049) rfl ?_
  refine aw_iadd C dL_law_1049 (q := 1050) rfl ?_
  refine aw_sld (j := i + 2) C dL_law_1050 hX hbl hbA x2 (q := 1051) rfl ?_
  refine aw_aload_n C dL_law_1051 rfl rfl (q := 1052) rfl ?_
  refine aw_iload C dL_law_1052 rfl (q := 1054) rfl ?_
  refine aw_iconst (v := 3) C dL_law_1054 (by decide) (q := 1055) rfl ?_
  refine aw_iadd C dL_law_1055 (q := 1056) rfl ?_
  refine aw_sld (j := i + 3) C dL_law_1056 hX hbl hbA x3 (q := 1057) rfl ?_
  refine aw_aload_n C dL_law_1057 rfl rfl (q := 1058) rfl ?_
  refine aw_iload C dL_law_1058 rfl (q := 1060) rfl ?_
  refine aw_iconst (v := 4) C dL_law_1060 (by decide) (q := 1061) rfl ?_
  refine aw_iadd C dL_law_1061 (q := 1062) rfl ?_
  refine aw_sld (j := i + 4) C dL_law_1062 hX hbl hbA x4 (q := 1063) rfl ?_
  refine cvL_129_9 (As := [.int (xs (i + 1)), .int (xs (i + 2)), .int (xs (i + 3)), .int (xs (i + 4))]) (rest := [.int v]) C B dL_law_1063 ho1 (hM G M.2.1 0) rfl rfl (Nat.le_of_ble_eq_true rfl) (by omega) (by omega) (by omega) (q := 1066) rfl (fun r2 h2 hr2 => ?_)
  obtain ⟨hv, ht, s2, J2, hcode, kp2⟩ := hQ r2 h2 hr2
  have hu2 := kp2 u _ hu1 um
  have e9 := hv rfl
  subst e9
  show aw G 8 M 1066 [.ref b, .ref (ad 0), .ref o, .ref u, .int (nI i), l5, l6, l7] [.int v, .int v] h2 (k + 0 + 0) (n + 0 + 0)
  refine aw_icmp_eq (t := 1194) (q := 1069) C dL_law_1066 (by decide) rfl (fun c1 => ?_) (fun c1 => absurd rfl c1)
  exact kk h2 _ _ _ _ _ ⟨s2, w, J2, hu2⟩ (by omega) (by omega)
theorem law_write (Z : lz G M ad o md b L u xs) (I : li ad o md u m h) (hm : m < 1000) (hi : i + 7 ≤ L) (hk : k + 7 ≤ 4000) (hn : n + 932 ≤ 500000) (kk : lk G M ad o md b u i m k n) (l5 l6 l7 : Value) : aw G 8 M 162 [.ref b, .ref (ad 0), .ref o, .ref u, .int (nI i), l5, l6, l7] [] h k n := by
  obtain ⟨C, B, hst, hX, hbl, hbA, hL, ua, um⟩ := Z
  obtain ⟨s, w, J, hu⟩ := I
  obtain ⟨fs9, ho⟩ := gJ_om J
  have uo : o ≠ u := fun z => um (by rw [← z]; exact List.mem_cons_self)
  have x1 : vp_in (nI i + 1) L ∧ (nI i + 1).toNatClampNeg = i + 1 := lx (j := 1) (by omega) hL
  refine aw_aload_n C dL_law_162 rfl rfl (q := 163) rfl ?_
  refine aw_aload_n C dL_law_163 rfl rfl (q := 164) rfl ?_
  refine aw_iload C dL_law_164 rfl (q := 166) rfl ?_
  refine aw_iconst (v := 1) C dL_law_166 (by decide) (q := 167) rfl ?_
  refine aw_iadd C dL_law_167 (q := 168) rfl ?_
  refine aw_sld (j := i + 1) C dL_law_168 hX hbl hbA x1 (q := 169) rfl ?_
  refine aw_aload_n C dL_law_169 rfl rfl (q := 170) rfl ?_
  refine csL_write (As := [.ref (ad 0), .int (xs (i + 1)), .ref u]) (rest := []) C B dL_law_170 (w_write J ((xs (i + 1))) u hu ua G M.2.1 hst 0) rfl rfl (Nat.le_of_ble_eq_true rfl) (by omega) (by omega) (by omega) (q := 173) rfl (fun r h1 hr => ?_)
  obtain ⟨kc, rfl, kp1, v, w1, hu1, ⟨Q, hM, hQ⟩, hlo⟩ := hr
  show aw G 8 M 173 [.ref b, .ref (ad 0), .ref o, .ref u, .int (nI i), l5, l6, l7] [.int kc] h1 (k + 1) (n + 6)
  have ho1 := kp1 o _ ho (gJ_oa J) uo
  refine aw_istore (ls' := [.ref b, .ref (ad 0), .ref o, .ref u, .int (nI i), .int kc, l6, l7]) C dL_law_173 (by decide) rfl (q := 175) rfl ?_
  refine aw_aload_n C dL_law_175 rfl rfl (q := 176) rfl ?_
  refine aw_aload_n C dL_law_176 rfl rfl (q := 177) rfl ?_
  refine aw_iload C dL_law_177 rfl (q := 179) rfl ?_
  refine aw_iconst (v := 1) C dL_law_179 (by decide) (q := 180) rfl ?_
  refine aw_iadd C dL_law_180 (q := 181) rfl ?_
  refine aw_sld (j := i + 1) C dL_law_181 hX hbl hbA x1 (q := 182) rfl ?_
  refine cvL_80_9 (As := [.int (xs (i + 1))]) (rest := []) C B dL_law_182 ho1 (hM G M.2.1 0) rfl rfl (Nat.le_of_ble_eq_true rfl) (by omega) (by omega) (by omega) (q := 185) rfl (fun r2 h2 hr2 => ?_)
  obtain ⟨hv, ⟨bv, rfl⟩, s2, J2, hcode, kp2⟩ := hQ r2 h2 hr2
  show aw G 8 M 185 [.ref b, .ref (ad 0), .ref o, .ref u, .int (nI i), .int kc, l6, l7] [.int bv] h2 (k + 1 + 0) (n + 6 + 0)
  have hu2 := kp2 u _ hu1 um
  refine aw_istore (ls' := [.ref b, .ref (ad 0), .ref o, .ref u, .int (nI i), .int kc, .int bv, l7]) C dL_law_185 (by decide) rfl (q := 187) rfl ?_
  refine aw_aload_n C dL_law_187 rfl rfl (q := 188) rfl ?_
  refine cvL_81_9 (As := []) (rest := []) C B dL_law_188 J2.2.2.2.1.1 (m_thrown G M.2.1 o md J2.2.1 h2 0 s2 J2.2.2.2.1) rfl rfl (Nat.le_of_ble_eq_true rfl) (by omega) (by omega) (by omega) (q := 191) rfl (fun r3 h3 hr3 => ?_)
  obtain ⟨rfl, rfl⟩ := hr3
  show aw G 8 M 191 [.ref b, .ref (ad 0), .ref o, .ref u, .int (nI i), .int kc, .int bv, l7] [.int (s2.1 0)] h3 (k + 1 + 0 + 0) (n + 6 + 0 + 0)
  refine aw_iload C dL_law_191 rfl (q := 193) rfl ?_
  refine aw_icmp_eq (t := 198) (q := 196) C dL_law_193 (by decide) rfl (fun c1 => ?_) (fun c1 => absurd hcode c1)
  refine aw_iload C dL_law_198 rfl (q := 200) rfl ?_
  have fin : aw G 8 M 215 [.ref b, .ref (ad 0), .ref o, .ref u, .int (nI i), .int kc, .int bv, l7] [] h3 (k + 1 + 0 + 0) (n + 6 + 0 + 0) := by
    refine aw_goto (q := 1194) C dL_law_215 (by decide) ?_
    exact kk h3 _ _ _ _ _ ⟨s2, w1, J2, hu2⟩ (by omega) (by omega)
  refine aw_if_ne (t := 215) (q := 203) C dL_law_200 (by decide) rfl (fun _ => fin) (fun c2 => ?_)
  have hw : w1 0 = bv.toInt64 := by
    have e1 := hlo c2
    rw [← hv c2] at e1
    exact (Option.some.inj e1).symm
  refine aw_aload_n C dL_law_203 rfl rfl (q := 204) rfl ?_
  refine aw_iconst (v := 0) C dL_law_204 (by decide) (q := 205) rfl ?_
  refine ay_lald (N := 1) (j := 0) C dL_law_205 hu2 vin0 (by decide) (q := 206) rfl ?_
  refine aw_iload C dL_law_206 rfl (q := 208) rfl ?_
  refine aw_i2l C dL_law_208 (q := 209) rfl ?_
  refine aw_lcmp C dL_law_209 (q := 210) rfl ?_
  exact aw_if_eq (t := 215) (q := 213) C dL_law_210 (by decide) rfl (fun _ => fin) (fun c3 => absurd ((lg_cmp_eq _ _).mpr hw) c3)
end
