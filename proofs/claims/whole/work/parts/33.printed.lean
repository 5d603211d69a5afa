/-! Reader: printedUnits, parse -/
/-- what is printed of the first places: how many, which -/
def rs_prt (f D : Nat → Int32) : Nat → Nat × (Nat → Int32)
  | 0 => (0, fun _ => 0)
  | i + 1 => if D i = 0 then ((rs_prt f D i).1 + 1, upd (rs_prt f D i).2 (rs_prt f D i).1 (f i)) else rs_prt f D i
theorem rs_prt_le (f D : Nat → Int32) : ∀ i, (rs_prt f D i).1 ≤ i
  | 0 => Nat.le_refl _
  | i + 1 => by
    have := rs_prt_le f D i
    unfold rs_prt
    split
    · show (rs_prt f D i).1 + 1 ≤ i + 1; omega
    · omega
theorem rs_prt_mono (f D : Nat → Int32) {i : Nat} : ∀ j, i ≤ j → (rs_prt f D i).1 ≤ (rs_prt f D j).1
  | 0, h => by rw [show i = 0 from by omega]; exact Nat.le_refl _
  | j + 1, h => by
    by_cases hij : i = j + 1
    · rw [hij]; exact Nat.le_refl _
    · have := rs_prt_mono f D (i := i) j (by omega)
      conv => rhs; unfold rs_prt
      split
      · show (rs_prt f D i).1 ≤ (rs_prt f D j).1 + 1; omega
      · exact this
theorem rs_prt_t {f D : Nat → Int32} {i : Nat} (h : D i = 0) : rs_prt f D (i + 1) = ((rs_prt f D i).1 + 1, upd (rs_prt f D i).2 (rs_prt f D i).1 (f i)) := by show (if D i = 0 then _ else _) = _; rw [if_pos h]
theorem rs_prt_f {f D : Nat → Int32} {i : Nat} (h : ¬ D i = 0) : rs_prt f D (i + 1) = rs_prt f D i := by show (if D i = 0 then _ else _) = _; rw [if_neg h]
theorem cu_nar {f : Nat → Int32} (hf : cu_ch f) (j : Nat) : vp_nar .char (f j) = f j := by unfold vp_nar; rw [hf j]
theorem kp_fr {h h9 : ac_H} {L L' : List Nat} (k : kp h h9 L) (hL : ∀ a ∈ L, a ∉ L' → h a = none) : kp h h9 L' := by
  intro a e h1 h2
  by_cases ha : a ∈ L
  · rw [hL a ha h2] at h1; cases h1
  · exact k a e h1 ha
theorem inj_sw {rd : Nat → Nat} {pa : Nat} (hr : inj rd 6) (hp : ∀ j, j < 6 → pa ≠ rd j) : inj (fun j => if j = 5 then pa else rd j) 6 := by
  intro i j hi hj hij
  show (if i = 5 then pa else rd i) ≠ (if j = 5 then pa else rd j)
  by_cases h1 : i = 5
  · rw [if_pos h1, if_neg (by omega)]; exact hp j hj
  · rw [if_neg h1]
    by_cases h2 : j = 5
    · rw [if_pos h2]; exact (hp i hi).symm
    · rw [if_neg h2]; exact hr i j hi hj hij
set_option maxHeartbeats 4000000 in
set_option maxRecDepth 100000 in
theorem lp_prt1 {G : ac_G} {M : ac_M} {h : ac_H} {u dr r len a : Nat} {f D : Nat → Int32} {v4 : Value} (k1 : h r = some (cu_ob 3 u len a (.ref dr) v4)) (k2 : h u = some (.inl (0, 300, .inl f))) (k3 : h dr = some (.inl (3, 300, .inl D))) (hlen : len ≤ 300) (hf : cu_ch f) (C : ac_MC G RX3 cX3_printedUnits 6 (some (.array .char)) M) (kk : aw G 6 M 51 [.ref r, .int (nI len), .int (nI (rs_prt f D len).1), .int (nI len), .retAddr 0, .retAddr 0] [] h 0 0) :
    ∀ (m i : Nat), i + m = len → aw G 6 M 23 [.ref r, .int (nI len), .int (nI (rs_prt f D i).1), .int (nI i), .retAddr 0, .retAddr 0] [] h 0 0 := by
  intro m
  induction m with
  | zero =>
    intro i hi
    have hi2 : i = len := by omega
    subst hi2
    refine aw_iload_n C dX3_printedUnits_23 rfl rfl (q := 24) rfl ?_
    refine aw_iload_n C dX3_printedUnits_24 rfl rfl (q := 25) rfl ?_
    refine aw_icmp_ge (t := 51) (q := 28) C dX3_printedUnits_25 (by decide) rfl (fun c_25 => ?_) (fun c_25 => absurd c_25 (fun z => z (nI_le (a := i) (by omega) (by omega))))
    exact kk
  | succ m ih =>
    intro i hi
    have hpl := rs_prt_le f D i
    refine aw_iload_n C dX3_printedUnits_23 rfl rfl (q := 24) rfl ?_
    refine aw_iload_n C dX3_printedUnits_24 rfl rfl (q := 25) rfl ?_
    refine aw_icmp_ge (t := 51) (q := 28) C dX3_printedUnits_25 (by decide) rfl (fun c_25 => absurd c_25 (ni_nge i len rfl rfl (by omega) (by omega) (by omega))) (fun c_25 => ?_)
    refine aw_iload_n C dX3_printedUnits_28 rfl rfl (q := 29) rfl ?_
    refine aw_aload_n C dX3_printedUnits_29 rfl rfl (q := 30) rfl ?_
    refine gfX3_9_3 (v := .ref dr) C dX3_printedUnits_30 k1 rfl (q := 33) rfl ?_
    refine aw_iload_n C dX3_printedUnits_33 rfl rfl (q := 34) rfl ?_
    refine ay_zald (j := i) C dX3_printedUnits_34 k3 (vp_in_nI (by omega) (by decide)) (nI_clamp (by omega)) (q := 35) rfl ?_
    refine aw_if_eq (t := 42) (q := 38) C dX3_printedUnits_35 (by decide) rfl (fun c_35 => ?_) (fun c_35 => ?_)
    ·
      refine aw_iconst (v := 1) C dX3_printedUnits_42 (by decide) (q := 43) rfl ?_
      refine aw_iadd C dX3_printedUnits_43 (q := 44) rfl ?_
      rw [show nI (rs_prt f D i).1 + 1 = nI ((rs_prt f D i).1 + 1) from nI_1 _]
      refine aw_istore_n (ls' := [.ref r, .int (nI len), .int (nI ((rs_prt f D i).1 + 1)), .int (nI i), .retAddr 0, .retAddr 0]) C dX3_printedUnits_44 rfl (by decide) rfl (q := 45) rfl ?_
      refine aw_iinc (v := nI (i + 1)) (ls' := [.ref r, .int (nI len), .int (nI ((rs_prt f D i).1 + 1)), .int (nI (i + 1)), .retAddr 0, .retAddr 0]) C dX3_printedUnits_45 rfl (nI_1 i) (by decide) rfl (q := 48) rfl ?_
      refine aw_goto (q := 23) C dX3_printedUnits_48 (by decide) ?_
      have z := ih (i + 1) (by omega)
      rw [rs_prt_t c_35] at z
      exact z
    ·
      refine aw_iconst (v := 0) C dX3_printedUnits_38 (by decide) (q := 39) rfl ?_
      refine aw_goto (q := 43) C dX3_printedUnits_39 (by decide) ?_
      refine aw_iadd C dX3_printedUnits_43 (q := 44) rfl ?_
      rw [show nI (rs_prt f D i).1 + 0 = nI (rs_prt f D i).1 from Int32.add_zero _]
      refine aw_istore_n (ls' := [.ref r, .int (nI len), .int (nI (rs_prt f D i).1), .int (nI i), .retAddr 0, .retAddr 0]) C dX3_printedUnits_44 rfl (by decide) rfl (q := 45) rfl ?_
      refine aw_iinc (v := nI (i + 1)) (ls' := [.ref r, .int (nI len), .int (nI (rs_prt f D i).1), .int (nI (i + 1)), .retAddr 0, .retAddr 0]) C dX3_printedUnits_45 rfl (nI_1 i) (by decide) rfl (q := 48) rfl ?_
      refine aw_goto (q := 23) C dX3_printedUnits_48 (by decide) ?_
      have z := ih (i + 1) (by omega)
      rw [rs_prt_f c_35] at z
      exact z
set_option maxHeartbeats 4000000 in
set_option maxRecDepth 100000 in
theorem lp_prt2 {G : ac_G} {M : ac_M} {h : ac_H} {u dr r len a : Nat} {f D : Nat → Int32} {v4 : Value} (k1 : h r = some (cu_ob 3 u len a (.ref dr) v4)) (k2 : h u = some (.inl (0, 300, .inl f))) (k3 : h dr = some (.inl (3, 300, .inl D))) (hlen : len ≤ 300) (hf : cu_ch f) (C : ac_MC G RX3 cX3_printedUnits 6 (some (.array .char)) M) {pa : Nat} (hpa : h pa = none) (E : ac_End G (fun r9 h9 => ∃ pa, r9 = some (.ref pa) ∧ h pa = none ∧ h9 pa = some (.inl (0, (rs_prt f D len).1, .inl (rs_prt f D len).2)) ∧ kp h h9 []) 1 300 M) :
    ∀ (m i : Nat) (h2 : ac_H), i + m = len → h2 pa = some (.inl (0, (rs_prt f D len).1, .inl (rs_prt f D i).2)) → kp h h2 [] → aw G 6 M 61 [.ref r, .int (nI len), .int (nI (rs_prt f D len).1), .ref pa, .int (nI (rs_prt f D i).1), .int (nI i)] [] h2 (0 + 1) (0 + (rs_prt f D len).1) := by
  intro m
  induction m with
  | zero =>
    intro i h2 hi f2 kq
    have hi2 : i = len := by omega
    subst hi2
    have hkl := rs_prt_le f D i
    refine aw_iload C dX3_printedUnits_61 rfl (q := 63) rfl ?_
    refine aw_iload_n C dX3_printedUnits_63 rfl rfl (q := 64) rfl ?_
    refine aw_icmp_ge (t := 103) (q := 67) C dX3_printedUnits_64 (by decide) rfl (fun c_64 => ?_) (fun c_64 => absurd c_64 (fun z => z (nI_le (a := i) (by omega) (by omega))))
    refine aw_aload_n C dX3_printedUnits_103 rfl rfl (q := 104) rfl ?_
    refine aw_aret (r := (some pa)) C E dX3_printedUnits_104 (Or.inr ⟨_, rfl⟩) (by omega) (by omega) ?_
    exact ⟨pa, rfl, hpa, f2, kq⟩
  | succ m ih =>
    intro i h2 hi f2 kq
    have hpl := rs_prt_le f D i
    have hkl := rs_prt_le f D len
    have q1 := kq _ _ k1 ni0
    have q2 := kq _ _ k2 ni0
    have q3 := kq _ _ k3 ni0
    refine aw_iload C dX3_printedUnits_61 rfl (q := 63) rfl ?_
    refine aw_iload_n C dX3_printedUnits_63 rfl rfl (q := 64) rfl ?_
    refine aw_icmp_ge (t := 103) (q := 67) C dX3_printedUnits_64 (by decide) rfl (fun c_64 => absurd c_64 (ni_nge i len rfl rfl (by omega) (by omega) (by omega))) (fun c_64 => ?_)
    refine aw_aload_n C dX3_printedUnits_67 rfl rfl (q := 68) rfl ?_
    refine gfX3_9_3 (v := .ref dr) C dX3_printedUnits_68 q1 rfl (q := 71) rfl ?_
    refine aw_iload C dX3_printedUnits_71 rfl (q := 73) rfl ?_
    refine ay_zald (j := i) C dX3_printedUnits_73 q3 (vp_in_nI (by omega) (by decide)) (nI_clamp (by omega)) (q := 74) rfl ?_
    refine aw_if_ne (t := 97) (q := 77) C dX3_printedUnits_74 (by decide) rfl (fun c_74 => ?_) (fun c_74 => ?_)
    ·
      refine aw_iinc (v := nI (i + 1)) (ls' := [.ref r, .int (nI len), .int (nI (rs_prt f D len).1), .ref pa, .int (nI (rs_prt f D i).1), .int (nI (i + 1))]) C dX3_printedUnits_97 rfl (nI_1 i) (by decide) rfl (q := 100) rfl ?_
      refine aw_goto (q := 61) C dX3_printedUnits_100 (by decide) ?_
      have z := ih (i + 1) h2 (by omega) (by rw [rs_prt_f c_74]; exact f2) kq
      rw [rs_prt_f c_74] at z
      exact z
    ·
      have c0 : D i = 0 := c_74
      have hlt : (rs_prt f D i).1 < (rs_prt f D len).1 := by
        have := rs_prt_mono f D (i := i + 1) len (by omega)
        rw [rs_prt_t c0] at this
        have t2 : (rs_prt f D i).1 + 1 ≤ (rs_prt f D len).1 := this
        omega
      refine aw_iload C dX3_printedUnits_77 rfl (q := 79) rfl ?_
      refine aw_iload_n C dX3_printedUnits_79 rfl rfl (q := 80) rfl ?_
      refine aw_icmp_ge (t := 97) (q := 83) C dX3_printedUnits_80 (by decide) rfl (fun c_80 => absurd c_80 (ni_nge (rs_prt f D i).1 (rs_prt f D len).1 rfl rfl (by omega) (by omega) hlt)) (fun c_80 => ?_)
      refine aw_aload_n C dX3_printedUnits_83 rfl rfl (q := 84) rfl ?_
      refine aw_iload C dX3_printedUnits_84 rfl (q := 86) rfl ?_
      refine aw_aload_n C dX3_printedUnits_86 rfl rfl (q := 87) rfl ?_
      refine gfX3_28_3 (v := .ref u) C dX3_printedUnits_87 q1 rfl (q := 90) rfl ?_
      refine aw_iload C dX3_printedUnits_90 rfl (q := 92) rfl ?_
      refine ay_cald (j := i) C dX3_printedUnits_92 q2 (vp_in_nI (by omega) (by decide)) (nI_clamp (by omega)) (q := 93) rfl ?_
      refine ay_cast (j := (rs_prt f D i).1) C dX3_printedUnits_93 f2 (vp_in_nI hlt (by omega)) (nI_clamp (by omega)) (q := 94) rfl ?_
      rw [cu_nar hf]
      refine aw_iinc (v := nI ((rs_prt f D i).1 + 1)) (ls' := [.ref r, .int (nI len), .int (nI (rs_prt f D len).1), .ref pa, .int (nI ((rs_prt f D i).1 + 1)), .int (nI i)]) C dX3_printedUnits_94 rfl (nI_1 _) (by decide) rfl (q := 97) rfl ?_
      refine aw_iinc (v := nI (i + 1)) (ls' := [.ref r, .int (nI len), .int (nI (rs_prt f D len).1), .ref pa, .int (nI ((rs_prt f D i).1 + 1)), .int (nI (i + 1))]) C dX3_printedUnits_97 rfl (nI_1 i) (by decide) rfl (q := 100) rfl ?_
      refine aw_goto (q := 61) C dX3_printedUnits_100 (by decide) ?_
      have z := ih (i + 1) (ac_up h2 pa (.inl (0, (rs_prt f D len).1, .inl (upd (rs_prt f D i).2 (rs_prt f D i).1 (f i))))) (by omega) (by rw [rs_prt_t c0]; exact ac_up_s _ _ _) (kp_new hpa kq)
      rw [rs_prt_t c0] at z
      exact z
set_option maxHeartbeats 4000000 in
set_option maxRecDepth 100000 in
theorem c_printed (G : ac_G) (l : Launch) (h : ac_H) (d : Nat) (u dr r len a : Nat) (f D : Nat → Int32) (v4 : Value) (k1 : h r = some (cu_ob 3 u len a (.ref dr) v4)) (k2 : h u = some (.inl (0, 300, .inl f))) (k3 : h dr = some (.inl (3, 300, .inl D))) (hlen : len ≤ 300) (hf : cu_ch f) : ac_Met G l yX3_printedUnits cX3_printedUnits 6 (some (.array .char)) (d + 1) 1 300 [.ref r] h (fun r9 h9 => ∃ pa, r9 = some (.ref pa) ∧ h pa = none ∧ h9 pa = some (.inl (0, (rs_prt f D len).1, .inl (rs_prt f D len).2)) ∧ kp h h9 []) := by
  refine ac_of (ls := [.ref r, .retAddr 0, .retAddr 0, .retAddr 0, .retAddr 0, .retAddr 0]) (by decide +kernel) rfl (Nat.le_of_ble_eq_true rfl) (fun M hl C B E hnm => ?_)
  refine aw_aload_n C dX3_printedUnits_0 rfl rfl (q := 1) rfl ?_
  refine gfX3_24_3 (v := .int (nI len)) C dX3_printedUnits_1 k1 rfl (q := 4) rfl ?_
  refine aw_aload_n C dX3_printedUnits_4 rfl rfl (q := 5) rfl ?_
  refine gfX3_28_3 (v := .ref u) C dX3_printedUnits_5 k1 rfl (q := 8) rfl ?_
  refine aw_alen (v := nI 300) C dX3_printedUnits_8 k2 rfl rfl (q := 9) rfl ?_
  refine aw_sipush (v := 300) C dX3_printedUnits_9 (by decide) (q := 12) rfl ?_
  refine csX3_111 (As := [.int (nI 300), .int 300]) (rest := [.int (nI len)]) C B dX3_printedUnits_12 (c_mini G M.2.1 h d (nI 300) 300) rfl rfl (Nat.le_of_ble_eq_true rfl) (by omega) (by omega) (by omega) (q := 15) rfl (fun r9 h9 hr9 => ?_)
  obtain ⟨e9, er9⟩ := hr9
  subst er9; rw [e9]
  show aw G 6 M 15 [.ref r, .retAddr 0, .retAddr 0, .retAddr 0, .retAddr 0, .retAddr 0] [.int (mn_i (nI 300) 300), .int (nI len)] h 0 0
  rw [show mn_i (nI 300) 300 = nI 300 from rfl]
  refine csX3_111 (As := [.int (nI len), .int (nI 300)]) (rest := []) C B dX3_printedUnits_15 (c_mini G M.2.1 h d (nI len) (nI 300)) rfl rfl (Nat.le_of_ble_eq_true rfl) (by omega) (by omega) (by omega) (q := 18) rfl (fun r9 h9 hr9 => ?_)
  obtain ⟨e9, er9⟩ := hr9
  subst er9; rw [e9]
  show aw G 6 M 18 [.ref r, .retAddr 0, .retAddr 0, .retAddr 0, .retAddr 0, .retAddr 0] [.int (mn_i (nI len) (nI 300))] h 0 0
  rw [show mn_i (nI len) (nI 300) = nI len from mn_nI hlen (by decide)]
  refine aw_istore_n (ls' := [.ref r, .int (nI len), .retAddr 0, .retAddr 0, .retAddr 0, .retAddr 0]) C dX3_printedUnits_18 rfl (by decide) rfl (q := 19) rfl ?_
  refine aw_iconst (v := 0) C dX3_printedUnits_19 (by decide) (q := 20) rfl ?_
  refine aw_istore_n (ls' := [.ref r, .int (nI len), .int 0, .retAddr 0, .retAddr 0, .retAddr 0]) C dX3_printedUnits_20 rfl (by decide) rfl (q := 21) rfl ?_
  refine aw_iconst (v := 0) C dX3_printedUnits_21 (by decide) (q := 22) rfl ?_
  refine aw_istore_n (ls' := [.ref r, .int (nI len), .int 0, .int 0, .retAddr 0, .retAddr 0]) C dX3_printedUnits_22 rfl (by decide) rfl (q := 23) rfl ?_
  refine lp_prt1 k1 k2 k3 hlen hf C ?_ len 0 (by omega)
  have hkl := rs_prt_le f D len
  refine aw_iload_n C dX3_printedUnits_51 rfl rfl (q := 52) rfl ?_
  refine ay_newC (N := (rs_prt f D len).1) C dX3_printedUnits_52 (nI_pos (by omega)) (nI_clamp (by omega)) (by omega) (Nat.le_trans (by omega) B.2.2.1) (Nat.le_trans (by omega) B.2.2.2) (q := 54) rfl (fun pa hn_1 _ => ?_)
  show aw G 6 M 54 [.ref r, .int (nI len), .int (nI (rs_prt f D len).1), .int (nI len), .retAddr 0, .retAddr 0] [.ref pa] (ac_up h pa (.inl (0, (rs_prt f D len).1, .inl (fun _ => 0)))) (0 + 1) (0 + ((rs_prt f D len).1))
  obtain ⟨h_2, eh_2⟩ : ∃ z9, z9 = ac_up h pa (.inl (0, (rs_prt f D len).1, .inl (fun _ => 0))) := ⟨_, rfl⟩
  rw [← eh_2]
  have n_3 : h pa = none := kp_none kp_rf hn_1 ni0
  have t_4 : r ≠ pa := nw_ne k1 hn_1
  have f_5 : h_2 r = some (.inr (3, [.ref u, .int (nI len), .int (nI a), .ref dr, v4])) := by rw [eh_2, ac_up_n _ _ t_4]; exact k1
  have t_6 : u ≠ pa := nw_ne k2 hn_1
  have f_7 : h_2 u = some (.inl (0, 300, .inl (f))) := by rw [eh_2, ac_up_n _ _ t_6]; exact k2
  have t_8 : dr ≠ pa := nw_ne k3 hn_1
  have f_9 : h_2 dr = some (.inl (3, 300, .inl (D))) := by rw [eh_2, ac_up_n _ _ t_8]; exact k3
  have f_10 : h_2 pa = some (.inl (0, (rs_prt f D len).1, .inl (fun _ => 0))) := by rw [eh_2]; exact ac_up_s _ _ _
  have kp_11 : kp h h_2 [] := by rw [eh_2]; exact kp_new n_3 kp_rf
  refine aw_astore_n (ls' := [.ref r, .int (nI len), .int (nI (rs_prt f D len).1), .ref pa, .retAddr 0, .retAddr 0]) C dX3_printedUnits_54 rfl (by decide) rfl (q := 55) rfl ?_
  refine aw_iconst (v := 0) C dX3_printedUnits_55 (by decide) (q := 56) rfl ?_
  refine aw_istore (ls' := [.ref r, .int (nI len), .int (nI (rs_prt f D len).1), .ref pa, .int 0, .retAddr 0]) C dX3_printedUnits_56 (by decide) rfl (q := 58) rfl ?_
  refine aw_iconst (v := 0) C dX3_printedUnits_58 (by decide) (q := 59) rfl ?_
  refine aw_istore (ls' := [.ref r, .int (nI len), .int (nI (rs_prt f D len).1), .ref pa, .int 0, .int 0]) C dX3_printedUnits_59 (by decide) rfl (q := 61) rfl ?_
  exact lp_prt2 k1 k2 k3 hlen hf C n_3 E len 0 h_2 (by omega) f_10 kp_11
  
