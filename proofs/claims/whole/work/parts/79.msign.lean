/-! The reference's printing: printSign -/
def pr_un (g a : Int32) (Z : List Int32) : List Int32 := if g = 9 then 99 :: (48 + a) :: Z else if g = 10 then 102 :: Z else 45 :: Z
def pr_SQ (o : Nat) (md : Nat → Nat) (h : ac_H) (s : md_S) (f42 f43 : Nat → Int32) (B : List Int32) (r : Nat) : Option Value → ac_H → Prop := fun r9 h9 => ∃ s' : md_S, r9 = some (.int (nI r)) ∧ md_ok h9 o md s' ∧ pb_rep s' B ∧ md_eq [41] [40, 42, 43] [] s s' ∧ s'.2.1 42 = f42 ∧ s'.2.1 43 = f43 ∧ kp h h9 (md_L o md)
set_option maxHeartbeats 4000000 in
set_option maxRecDepth 100000 in
theorem p_sign1 (G : ac_G) (l : Launch) (o : Nat) (md : Nat → Nat) (hm : md_inj md) (h : ac_H) (d : Nat) (s : md_S) (K : md_ok h o md s) (A : List Int32) (R : pb_rep s A) (hB : A.length ≤ 700) (t : Nat) (ht : t ≤ 310) (N : Nat) (hN : N < 1000000) : ac_Met G l yX9_printSign cX9_printSign 4 (some .int) (d + 3) 0 0 [.ref o, .int 1, .int (nI N), .int (nI t)] h (pr_SQ o md h s (upd (s.2.1 42) t (nI A.length)) (upd (s.2.1 43) t 3) (A ++ pr_num N) (t + 1)) := by
  refine ac_of (ls := [.ref o, .int 1, .int (nI N), .int (nI t)]) (by decide +kernel) rfl (Nat.le_of_ble_eq_true rfl) (fun M hl C B9 E hnm => ?_)
  refine aw_iload_n C dX9_printSign_0 rfl rfl (q := 1) rfl ?_
  refine aw_iconst (v := 1) C dX9_printSign_1 (by decide) (q := 2) rfl ?_
  refine aw_icmp_ne (t := 31) (q := 5) C dX9_printSign_2 (by decide) rfl (fun c_2 => absurd c_2 (by decide)) (fun c_2 => ?_)
  refine aw_aload_n C dX9_printSign_5 rfl rfl (q := 6) rfl ?_
  refine gfX9_83_9 (v := .ref (md 42)) C dX9_printSign_6 K.1 rfl (q := 9) rfl ?_
  refine aw_iload_n C dX9_printSign_9 rfl rfl (q := 10) rfl ?_
  refine aw_aload_n C dX9_printSign_10 rfl rfl (q := 11) rfl ?_
  refine gfX9_168_9 (v := .int (s.1 41)) C dX9_printSign_11 K.1 rfl (q := 14) rfl ?_
  rw [show s.1 41 = nI A.length from R.1]
  refine ay_iast (N := 320) (f := s.2.1 42) (j := t) C dX9_printSign_14 (K.2.1 42 (by decide)) (vp_in_nI (by omega) (by decide)) (nI_clamp (by omega)) (q := 15) rfl ?_
  show aw G 4 M 15 [.ref o, .int 1, .int (nI N), .int (nI t)] [] (ac_up h (md 42) (.inl (1, 320, .inl (upd (s.2.1 42) t (nI A.length))))) 0 0
  obtain ⟨h_1, eh_1⟩ : ∃ z9, z9 = ac_up h (md 42) (.inl (1, 320, .inl (upd (s.2.1 42) t (nI A.length)))) := ⟨_, rfl⟩
  rw [← eh_1]
  have kpx_4 : kp h h_1 [md 42] := by rw [eh_1]; exact kp_up (kp_cons _ kp_rf) _ _ (by simp)
  have K_2 : md_ok h_1 o md (s.1, va_up s.2.1 42 (upd (s.2.1 42) t (nI A.length)), s.2.2) := md_A (s := (s.1, s.2.1, s.2.2)) hm K (j := 42) (by decide) (by rw [eh_1]; exact ac_up_s _ _ _) kpx_4
  have kq_3 : kp h h_1 (md_L o md) := kp_mono kpx_4 (md_sj (by decide))
  refine aw_aload_n C dX9_printSign_15 rfl rfl (q := 16) rfl ?_
  refine gfX9_86_9 (v := .ref (md 43)) C dX9_printSign_16 K_2.1 rfl (q := 19) rfl ?_
  refine aw_iload_n C dX9_printSign_19 rfl rfl (q := 20) rfl ?_
  refine aw_iconst (v := 3) C dX9_printSign_20 (by decide) (q := 21) rfl ?_
  refine ay_iast (N := 320) (f := s.2.1 43) (j := t) C dX9_printSign_21 (K_2.2.1 43 (by decide)) (vp_in_nI (by omega) (by decide)) (nI_clamp (by omega)) (q := 22) rfl ?_
  show aw G 4 M 22 [.ref o, .int 1, .int (nI N), .int (nI t)] [] (ac_up h_1 (md 43) (.inl (1, 320, .inl (upd (s.2.1 43) t 3)))) 0 0
  obtain ⟨h_5, eh_5⟩ : ∃ z9, z9 = ac_up h_1 (md 43) (.inl (1, 320, .inl (upd (s.2.1 43) t 3))) := ⟨_, rfl⟩
  rw [← eh_5]
  have kpx_8 : kp h_1 h_5 [md 43] := by rw [eh_5]; exact kp_up (kp_cons _ kp_rf) _ _ (by simp)
  have K_6 : md_ok h_5 o md (s.1, va_up (va_up s.2.1 42 (upd (s.2.1 42) t (nI A.length))) 43 (upd (s.2.1 43) t 3), s.2.2) := md_A (s := (s.1, va_up s.2.1 42 (upd (s.2.1 42) t (nI A.length)), s.2.2)) hm K_2 (j := 43) (by decide) (by rw [eh_5]; exact ac_up_s _ _ _) kpx_8
  have kq_7 : kp h h_5 (md_L o md) := kp_in kq_3 kpx_8 (md_sj (by decide))
  have R1 : pb_rep (s.1, va_up (va_up s.2.1 42 (upd (s.2.1 42) t (nI A.length))) 43 (upd (s.2.1 43) t 3), s.2.2) A := R
  have F1 : md_eq [41] [40, 42, 43] [] s (s.1, va_up (va_up s.2.1 42 (upd (s.2.1 42) t (nI A.length))) 43 (upd (s.2.1 43) t 3), s.2.2) := md_eq_A (s1 := (s.1, va_up s.2.1 42 (upd (s.2.1 42) t (nI A.length)), s.2.2)) (md_eq_A md_eq_rf _ (by decide)) _ (by decide)
  have e42 : (s.1, va_up (va_up s.2.1 42 (upd (s.2.1 42) t (nI A.length))) 43 (upd (s.2.1 43) t 3), s.2.2).2.1 42 = upd (s.2.1 42) t (nI A.length) := rfl
  have e43 : (s.1, va_up (va_up s.2.1 42 (upd (s.2.1 42) t (nI A.length))) 43 (upd (s.2.1 43) t 3), s.2.2).2.1 43 = upd (s.2.1 43) t 3 := rfl
  obtain ⟨s1, es1⟩ : ∃ z, z = (s.1, va_up (va_up s.2.1 42 (upd (s.2.1 42) t (nI A.length))) 43 (upd (s.2.1 43) t 3), s.2.2) := ⟨_, rfl⟩
  rw [← es1] at K_6 R1 F1 e42 e43
  refine aw_aload_n C dX9_printSign_22 rfl rfl (q := 23) rfl ?_
  refine aw_iload_n C dX9_printSign_23 rfl rfl (q := 24) rfl ?_
  refine cvX9_177_9 (As := [.int (nI N)]) (rest := []) C B9 dX9_printSign_24 K_6.1 (m_addNumber G M.2.1 o md hm h_5 (d + 1) s1 K_6 A R1 (by omega) N hN) rfl rfl (Nat.le_of_ble_eq_true rfl) (by omega) (by omega) (by omega) (q := 27) rfl (fun r9 h_9 hr9 => ?_)
  obtain ⟨s_10, er9, K_11, R_12, F_13, kpx_15⟩ := hr9
  subst er9
  have F_14 : md_eq [41] [40, 42, 43] [] s s_10 := md_eq_tr F1 F_13 (by decide) (by decide) (by decide)
  have kq_16 : kp h h_9 (md_L o md) := kp_in kq_7 kpx_15 (fun _ z => z)
  show aw G 4 M 27 [.ref o, .int 1, .int (nI N), .int (nI t)] [] h_9 0 0
  refine aw_iload_n C dX9_printSign_27 rfl rfl (q := 28) rfl ?_
  refine aw_iconst (v := 1) C dX9_printSign_28 (by decide) (q := 29) rfl ?_
  refine aw_iadd C dX9_printSign_29 (q := 30) rfl ?_
  refine aw_iret C E dX9_printSign_30 (Nat.le_refl _) (Nat.le_refl _) ?_
  exact ⟨_, by rw [nI_1], K_11, R_12, F_14, (F_13.2.1 42 (by decide)).trans e42, (F_13.2.1 43 (by decide)).trans e43, kq_16⟩
set_option maxHeartbeats 4000000 in
set_option maxRecDepth 100000 in
theorem p_sign2 (G : ac_G) (l : Launch) (o : Nat) (md : Nat → Nat) (hm : md_inj md) (h : ac_H) (d : Nat) (s : md_S) (K : md_ok h o md s) (A : List Int32) (R : pb_rep s A) (hB : A.length ≤ 700) (t : Nat) (ht : t ≤ 310) (g a : Int32) (h1 : ¬ g = 1) (h8 : ¬ 8 < g) : ac_Met G l yX9_printSign cX9_printSign 4 (some .int) (d + 3) 0 0 [.ref o, .int g, .int a, .int (nI t)] h (pr_SQ o md h s (upd (s.2.1 42) t (nI A.length)) (upd (s.2.1 43) t 3) (A ++ pr_atom g a) (t + 1)) := by
  refine ac_of (ls := [.ref o, .int g, .int a, .int (nI t)]) (by decide +kernel) rfl (Nat.le_of_ble_eq_true rfl) (fun M hl C B9 E hnm => ?_)
  refine aw_iload_n C dX9_printSign_0 rfl rfl (q := 1) rfl ?_
  refine aw_iconst (v := 1) C dX9_printSign_1 (by decide) (q := 2) rfl ?_
  refine aw_icmp_ne (t := 31) (q := 5) C dX9_printSign_2 (by decide) rfl (fun c_2 => ?_) (fun c_2 => absurd c_2 (fun z => h1 z))
  refine aw_iload_n C dX9_printSign_31 rfl rfl (q := 32) rfl ?_
  refine aw_bipush (v := 8) C dX9_printSign_32 (by decide) (q := 34) rfl ?_
  refine aw_icmp_gt (t := 64) (q := 37) C dX9_printSign_34 (by decide) rfl (fun c_34 => absurd c_34 (h8)) (fun c_34 => ?_)
  refine aw_aload_n C dX9_printSign_37 rfl rfl (q := 38) rfl ?_
  refine gfX9_83_9 (v := .ref (md 42)) C dX9_printSign_38 K.1 rfl (q := 41) rfl ?_
  refine aw_iload_n C dX9_printSign_41 rfl rfl (q := 42) rfl ?_
  refine aw_aload_n C dX9_printSign_42 rfl rfl (q := 43) rfl ?_
  refine gfX9_168_9 (v := .int (s.1 41)) C dX9_printSign_43 K.1 rfl (q := 46) rfl ?_
  rw [show s.1 41 = nI A.length from R.1]
  refine ay_iast (N := 320) (f := s.2.1 42) (j := t) C dX9_printSign_46 (K.2.1 42 (by decide)) (vp_in_nI (by omega) (by decide)) (nI_clamp (by omega)) (q := 47) rfl ?_
  show aw G 4 M 47 [.ref o, .int g, .int a, .int (nI t)] [] (ac_up h (md 42) (.inl (1, 320, .inl (upd (s.2.1 42) t (nI A.length))))) 0 0
  obtain ⟨h_1, eh_1⟩ : ∃ z9, z9 = ac_up h (md 42) (.inl (1, 320, .inl (upd (s.2.1 42) t (nI A.length)))) := ⟨_, rfl⟩
  rw [← eh_1]
  have kpx_4 : kp h h_1 [md 42] := by rw [eh_1]; exact kp_up (kp_cons _ kp_rf) _ _ (by simp)
  have K_2 : md_ok h_1 o md (s.1, va_up s.2.1 42 (upd (s.2.1 42) t (nI A.length)), s.2.2) := md_A (s := (s.1, s.2.1, s.2.2)) hm K (j := 42) (by decide) (by rw [eh_1]; exact ac_up_s _ _ _) kpx_4
  have kq_3 : kp h h_1 (md_L o md) := kp_mono kpx_4 (md_sj (by decide))
  refine aw_aload_n C dX9_printSign_47 rfl rfl (q := 48) rfl ?_
  refine gfX9_86_9 (v := .ref (md 43)) C dX9_printSign_48 K_2.1 rfl (q := 51) rfl ?_
  refine aw_iload_n C dX9_printSign_51 rfl rfl (q := 52) rfl ?_
  refine aw_iconst (v := 3) C dX9_printSign_52 (by decide) (q := 53) rfl ?_
  refine ay_iast (N := 320) (f := s.2.1 43) (j := t) C dX9_printSign_53 (K_2.2.1 43 (by decide)) (vp_in_nI (by omega) (by decide)) (nI_clamp (by omega)) (q := 54) rfl ?_
  show aw G 4 M 54 [.ref o, .int g, .int a, .int (nI t)] [] (ac_up h_1 (md 43) (.inl (1, 320, .inl (upd (s.2.1 43) t 3)))) 0 0
  obtain ⟨h_5, eh_5⟩ : ∃ z9, z9 = ac_up h_1 (md 43) (.inl (1, 320, .inl (upd (s.2.1 43) t 3))) := ⟨_, rfl⟩
  rw [← eh_5]
  have kpx_8 : kp h_1 h_5 [md 43] := by rw [eh_5]; exact kp_up (kp_cons _ kp_rf) _ _ (by simp)
  have K_6 : md_ok h_5 o md (s.1, va_up (va_up s.2.1 42 (upd (s.2.1 42) t (nI A.length))) 43 (upd (s.2.1 43) t 3), s.2.2) := md_A (s := (s.1, va_up s.2.1 42 (upd (s.2.1 42) t (nI A.length)), s.2.2)) hm K_2 (j := 43) (by decide) (by rw [eh_5]; exact ac_up_s _ _ _) kpx_8
  have kq_7 : kp h h_5 (md_L o md) := kp_in kq_3 kpx_8 (md_sj (by decide))
  have R1 : pb_rep (s.1, va_up (va_up s.2.1 42 (upd (s.2.1 42) t (nI A.length))) 43 (upd (s.2.1 43) t 3), s.2.2) A := R
  have F1 : md_eq [41] [40, 42, 43] [] s (s.1, va_up (va_up s.2.1 42 (upd (s.2.1 42) t (nI A.length))) 43 (upd (s.2.1 43) t 3), s.2.2) := md_eq_A (s1 := (s.1, va_up s.2.1 42 (upd (s.2.1 42) t (nI A.length)), s.2.2)) (md_eq_A md_eq_rf _ (by decide)) _ (by decide)
  have e42 : (s.1, va_up (va_up s.2.1 42 (upd (s.2.1 42) t (nI A.length))) 43 (upd (s.2.1 43) t 3), s.2.2).2.1 42 = upd (s.2.1 42) t (nI A.length) := rfl
  have e43 : (s.1, va_up (va_up s.2.1 42 (upd (s.2.1 42) t (nI A.length))) 43 (upd (s.2.1 43) t 3), s.2.2).2.1 43 = upd (s.2.1 43) t 3 := rfl
  obtain ⟨s1, es1⟩ : ∃ z, z = (s.1, va_up (va_up s.2.1 42 (upd (s.2.1 42) t (nI A.length))) 43 (upd (s.2.1 43) t 3), s.2.2) := ⟨_, rfl⟩
  rw [← es1] at K_6 R1 F1 e42 e43
  refine aw_aload_n C dX9_printSign_54 rfl rfl (q := 55) rfl ?_
  refine aw_iload_n C dX9_printSign_55 rfl rfl (q := 56) rfl ?_
  refine aw_iload_n C dX9_printSign_56 rfl rfl (q := 57) rfl ?_
  refine cvX9_180_9 (As := [.int g, .int a]) (rest := []) C B9 dX9_printSign_57 K_6.1 (m_printAtom G M.2.1 o md hm h_5 (d + 1) s1 K_6 A R1 (by omega) g a) rfl rfl (Nat.le_of_ble_eq_true rfl) (by omega) (by omega) (by omega) (q := 60) rfl (fun r9 h_9 hr9 => ?_)
  obtain ⟨s_10, er9, K_11, R_12, F_13, kpx_15⟩ := hr9
  subst er9
  have F_14 : md_eq [41] [40, 42, 43] [] s s_10 := md_eq_tr F1 F_13 (by decide) (by decide) (by decide)
  have kq_16 : kp h h_9 (md_L o md) := kp_in kq_7 kpx_15 (fun _ z => z)
  show aw G 4 M 60 [.ref o, .int g, .int a, .int (nI t)] [] h_9 0 0
  refine aw_iload_n C dX9_printSign_60 rfl rfl (q := 61) rfl ?_
  refine aw_iconst (v := 1) C dX9_printSign_61 (by decide) (q := 62) rfl ?_
  refine aw_iadd C dX9_printSign_62 (q := 63) rfl ?_
  refine aw_iret C E dX9_printSign_63 (Nat.le_refl _) (Nat.le_refl _) ?_
  exact ⟨_, by rw [nI_1], K_11, R_12, F_14, (F_13.2.1 42 (by decide)).trans e42, (F_13.2.1 43 (by decide)).trans e43, kq_16⟩
set_option maxHeartbeats 4000000 in
set_option maxRecDepth 100000 in
theorem p_sign3 (G : ac_G) (l : Launch) (o : Nat) (md : Nat → Nat) (hm : md_inj md) (h : ac_H) (d : Nat) (s : md_S) (K : md_ok h o md s) (A X : List Int32) (R : pb_rep s (A ++ X)) (hB : A.length + X.length ≤ 700) (t : Nat) (ht : t ≤ 310) (sx : Int32) (ha2 : s.2.1 42 t = nI A.length) (ha3 : s.2.1 43 t = sx) (g a : Int32) (h8 : 8 < g) (h11 : ¬ 11 < g) : ac_Met G l yX9_printSign cX9_printSign 4 (some .int) (d + 3) 0 0 [.ref o, .int g, .int a, .int (nI (t + 1))] h (pr_SQ o md h s (s.2.1 42) (upd (s.2.1 43) t 3) (A ++ pr_un g a (pr_wr (sx < 3) X)) (t + 1)) := by
  refine ac_of (ls := [.ref o, .int g, .int a, .int (nI (t + 1))]) (by decide +kernel) rfl (Nat.le_of_ble_eq_true rfl) (fun M hl C B9 E hnm => ?_)
  have h1 : ¬ g = 1 := fun z => by rw [z] at h8; exact absurd h8 (by decide)
  refine aw_iload_n C dX9_printSign_0 rfl rfl (q := 1) rfl ?_
  refine aw_iconst (v := 1) C dX9_printSign_1 (by decide) (q := 2) rfl ?_
  refine aw_icmp_ne (t := 31) (q := 5) C dX9_printSign_2 (by decide) rfl (fun c_2 => ?_) (fun c_2 => absurd c_2 (fun z => h1 z))
  refine aw_iload_n C dX9_printSign_31 rfl rfl (q := 32) rfl ?_
  refine aw_bipush (v := 8) C dX9_printSign_32 (by decide) (q := 34) rfl ?_
  refine aw_icmp_gt (t := 64) (q := 37) C dX9_printSign_34 (by decide) rfl (fun c_34 => ?_) (fun c_34 => absurd c_34 (fun z => z h8))
  refine aw_iload_n C dX9_printSign_64 rfl rfl (q := 65) rfl ?_
  refine aw_bipush (v := 11) C dX9_printSign_65 (by decide) (q := 67) rfl ?_
  refine aw_icmp_gt (t := 163) (q := 70) C dX9_printSign_67 (by decide) rfl (fun c_67 => absurd c_67 (h11)) (fun c_67 => ?_)
  refine aw_aload_n C dX9_printSign_70 rfl rfl (q := 71) rfl ?_
  refine gfX9_86_9 (v := .ref (md 43)) C dX9_printSign_71 K.1 rfl (q := 74) rfl ?_
  refine aw_iload_n C dX9_printSign_74 rfl rfl (q := 75) rfl ?_
  refine aw_iconst (v := 1) C dX9_printSign_75 (by decide) (q := 76) rfl ?_
  refine aw_isub C dX9_printSign_76 (q := 77) rfl ?_
  refine ay_iald (N := 320) (f := s.2.1 43) (j := t) C dX9_printSign_77 (K.2.1 43 (by decide)) (by rw [nI_s1 (by omega)]; exact vp_in_nI (by omega) (by decide)) (by rw [nI_s1 (by omega)]; exact nI_clamp (by omega)) (q := 78) rfl ?_
  rw [show s.2.1 43 t = sx from by rw [show s.2.1 43 = s.2.1 43 from (md_eq_rf : md_eq [41] [40] [] s s).2.1 43 (by decide)]; exact ha3]
  refine aw_iconst (v := 3) C dX9_printSign_78 (by decide) (q := 79) rfl ?_
  refine aw_icmp_ge (t := 94) (q := 82) C dX9_printSign_79 (by decide) rfl (fun c_79 => ?_) (fun c_79 => ?_)
  ·
    refine aw_iload_n C dX9_printSign_94 rfl rfl (q := 95) rfl ?_
    refine aw_bipush (v := 9) C dX9_printSign_95 (by decide) (q := 97) rfl ?_
    refine aw_icmp_ne (t := 116) (q := 100) C dX9_printSign_97 (by decide) rfl (fun c_97 => ?_) (fun c_97 => ?_)
    ·
      refine aw_aload_n C dX9_printSign_116 rfl rfl (q := 117) rfl ?_
      refine aw_aload_n C dX9_printSign_117 rfl rfl (q := 118) rfl ?_
      refine gfX9_83_9 (v := .ref (md 42)) C dX9_printSign_118 K.1 rfl (q := 121) rfl ?_
      refine aw_iload_n C dX9_printSign_121 rfl rfl (q := 122) rfl ?_
      refine aw_iconst (v := 1) C dX9_printSign_122 (by decide) (q := 123) rfl ?_
      refine aw_isub C dX9_printSign_123 (q := 124) rfl ?_
      refine ay_iald (N := 320) (f := s.2.1 42) (j := t) C dX9_printSign_124 (K.2.1 42 (by decide)) (by rw [nI_s1 (by omega)]; exact vp_in_nI (by omega) (by decide)) (by rw [nI_s1 (by omega)]; exact nI_clamp (by omega)) (q := 125) rfl ?_
      rw [show s.2.1 42 t = nI A.length from by rw [show s.2.1 42 = s.2.1 42 from (md_eq_rf : md_eq [41] [40] [] s s).2.1 42 (by decide)]; exact ha2]
      refine aw_iload_n C dX9_printSign_125 rfl rfl (q := 126) rfl ?_
      refine aw_bipush (v := 9) C dX9_printSign_126 (by decide) (q := 128) rfl ?_
      refine aw_icmp_ne (t := 136) (q := 131) C dX9_printSign_128 (by decide) rfl (fun c_128 => ?_) (fun c_128 => absurd c_128 (c_97))
      refine aw_iload_n C dX9_printSign_136 rfl rfl (q := 137) rfl ?_
      refine aw_bipush (v := 10) C dX9_printSign_137 (by decide) (q := 139) rfl ?_
      refine aw_icmp_ne (t := 147) (q := 142) C dX9_printSign_139 (by decide) rfl (fun c_139 => ?_) (fun c_139 => ?_)
      ·
        refine aw_bipush (v := 45) C dX9_printSign_147 (by decide) (q := 149) rfl ?_
        refine cvX9_174_9 (As := [.int (nI A.length), .int 45]) (rest := []) C B9 dX9_printSign_149 K.1 (m_insert G M.2.1 o md hm h (d + 2) s K (A ++ X) R (by simp only [List.length_append, List.length_cons, List.length_nil]; omega) A.length (by simp only [List.length_append, List.length_cons, List.length_nil]; omega) 45) rfl rfl (Nat.le_of_ble_eq_true rfl) (by omega) (by omega) (by omega) (q := 152) rfl (fun r9 h_1 hr9 => ?_)
        obtain ⟨s_2, er9, K_3, R_4, F_5, kpx_7⟩ := hr9
        subst er9
        have F_6 : md_eq [41] [40] [] s s_2 := md_eq_tr md_eq_rf F_5 (by decide) (by decide) (by decide)
        have kq_8 : kp h h_1 (md_L o md) := kpx_7
        show aw G 4 M 152 [.ref o, .int g, .int a, .int (nI (t + 1))] [] h_1 0 0
        have R_9 : pb_rep s_2 (A ++ (45 :: X)) := by have z := R_4; rw [pb_ins_app] at z; exact z
        refine aw_aload_n C dX9_printSign_152 rfl rfl (q := 153) rfl ?_
        refine gfX9_86_9 (v := .ref (md 43)) C dX9_printSign_153 K_3.1 rfl (q := 156) rfl ?_
        refine aw_iload_n C dX9_printSign_156 rfl rfl (q := 157) rfl ?_
        refine aw_iconst (v := 1) C dX9_printSign_157 (by decide) (q := 158) rfl ?_
        refine aw_isub C dX9_printSign_158 (q := 159) rfl ?_
        refine aw_iconst (v := 3) C dX9_printSign_159 (by decide) (q := 160) rfl ?_
        refine ay_iast (N := 320) (f := s_2.2.1 43) (j := t) C dX9_printSign_160 (K_3.2.1 43 (by decide)) (by rw [nI_s1 (by omega)]; exact vp_in_nI (by omega) (by decide)) (by rw [nI_s1 (by omega)]; exact nI_clamp (by omega)) (q := 161) rfl ?_
        show aw G 4 M 161 [.ref o, .int g, .int a, .int (nI (t + 1))] [] (ac_up h_1 (md 43) (.inl (1, 320, .inl (upd (s_2.2.1 43) t 3)))) 0 0
        obtain ⟨h_10, eh_10⟩ : ∃ z9, z9 = ac_up h_1 (md 43) (.inl (1, 320, .inl (upd (s_2.2.1 43) t 3))) := ⟨_, rfl⟩
        rw [← eh_10]
        have kpx_13 : kp h_1 h_10 [md 43] := by rw [eh_10]; exact kp_up (kp_cons _ kp_rf) _ _ (by simp)
        have K_11 : md_ok h_10 o md (s_2.1, va_up s_2.2.1 43 (upd (s_2.2.1 43) t 3), s_2.2.2) := md_A (s := (s_2.1, s_2.2.1, s_2.2.2)) hm K_3 (j := 43) (by decide) (by rw [eh_10]; exact ac_up_s _ _ _) kpx_13
        have kq_12 : kp h h_10 (md_L o md) := kp_in kq_8 kpx_13 (md_sj (by decide))
        refine aw_iload_n C dX9_printSign_161 rfl rfl (q := 162) rfl ?_
        refine aw_iret C E dX9_printSign_162 (Nat.le_refl _) (Nat.le_refl _) ?_
        refine ⟨_, rfl, K_11, ?_, ?_, ?_, ?_, kq_12⟩
        · have e : A ++ pr_un g a (pr_wr (sx < 3) X) = A ++ (45 :: X) := by
            rw [show pr_wr (sx < 3) X = _ from if_neg (Int32.not_lt.mpr c_79)]
            unfold pr_un
            rw [if_neg c_97, if_neg c_139]
          rw [e]; exact R_9
        · exact md_eq_A (s1 := s_2) (md_eq_tr (md_eq_rf : md_eq [41] [40, 42, 43] [] s s) F_6 (by decide) (by decide) (by decide)) _ (by decide)
        · exact F_6.2.1 42 (by decide)
        · show upd (s_2.2.1 43) t 3 = _
          rw [show s_2.2.1 43 = s.2.1 43 from F_6.2.1 43 (by decide)]
      ·
        refine aw_bipush (v := 102) C dX9_printSign_142 (by decide) (q := 144) rfl ?_
        refine aw_goto (q := 149) C dX9_printSign_144 (by decide) ?_
        refine cvX9_174_9 (As := [.int (nI A.length), .int 102]) (rest := []) C B9 dX9_printSign_149 K.1 (m_insert G M.2.1 o md hm h (d + 2) s K (A ++ X) R (by simp only [List.length_append, List.length_cons, List.length_nil]; omega) A.length (by simp only [List.length_append, List.length_cons, List.length_nil]; omega) 102) rfl rfl (Nat.le_of_ble_eq_true rfl) (by omega) (by omega) (by omega) (q := 152) rfl (fun r9 h_14 hr9 => ?_)
        obtain ⟨s_15, er9, K_16, R_17, F_18, kpx_20⟩ := hr9
        subst er9
        have F_19 : md_eq [41] [40] [] s s_15 := md_eq_tr md_eq_rf F_18 (by decide) (by decide) (by decide)
        have kq_21 : kp h h_14 (md_L o md) := kpx_20
        show aw G 4 M 152 [.ref o, .int g, .int a, .int (nI (t + 1))] [] h_14 0 0
        have R_22 : pb_rep s_15 (A ++ (102 :: X)) := by have z := R_17; rw [pb_ins_app] at z; exact z
        refine aw_aload_n C dX9_printSign_152 rfl rfl (q := 153) rfl ?_
        refine gfX9_86_9 (v := .ref (md 43)) C dX9_printSign_153 K_16.1 rfl (q := 156) rfl ?_
        refine aw_iload_n C dX9_printSign_156 rfl rfl (q := 157) rfl ?_
        refine aw_iconst (v := 1) C dX9_printSign_157 (by decide) (q := 158) rfl ?_
        refine aw_isub C dX9_printSign_158 (q := 159) rfl ?_
        refine aw_iconst (v := 3) C dX9_printSign_159 (by decide) (q := 160) rfl ?_
        refine ay_iast (N := 320) (f := s_15.2.1 43) (j := t) C dX9_printSign_160 (K_16.2.1 43 (by decide)) (by rw [nI_s1 (by omega)]; exact vp_in_nI (by omega) (by decide)) (by rw [nI_s1 (by omega)]; exact nI_clamp (by omega)) (q := 161) rfl ?_
        show aw G 4 M 161 [.ref o, .int g, .int a, .int (nI (t + 1))] [] (ac_up h_14 (md 43) (.inl (1, 320, .inl (upd (s_15.2.1 43) t 3)))) 0 0
        obtain ⟨h_23, eh_23⟩ : ∃ z9, z9 = ac_up h_14 (md 43) (.inl (1, 320, .inl (upd (s_15.2.1 43) t 3))) := ⟨_, rfl⟩
        rw [← eh_23]
        have kpx_26 : kp h_14 h_23 [md 43] := by rw [eh_23]; exact kp_up (kp_cons _ kp_rf) _ _ (by simp)
        have K_24 : md_ok h_23 o md (s_15.1, va_up s_15.2.1 43 (upd (s_15.2.1 43) t 3), s_15.2.2) := md_A (s := (s_15.1, s_15.2.1, s_15.2.2)) hm K_16 (j := 43) (by decide) (by rw [eh_23]; exact ac_up_s _ _ _) kpx_26
        have kq_25 : kp h h_23 (md_L o md) := kp_in kq_21 kpx_26 (md_sj (by decide))
        refine aw_iload_n C dX9_printSign_161 rfl rfl (q := 162) rfl ?_
        refine aw_iret C E dX9_printSign_162 (Nat.le_refl _) (Nat.le_refl _) ?_
        refine ⟨_, rfl, K_24, ?_, ?_, ?_, ?_, kq_25⟩
        · have e : A ++ pr_un g a (pr_wr (sx < 3) X) = A ++ (102 :: X) := by
            rw [show pr_wr (sx < 3) X = _ from if_neg (Int32.not_lt.mpr c_79)]
            unfold pr_un
            rw [if_neg c_97, if_pos c_139]
          rw [e]; exact R_22
        · exact md_eq_A (s1 := s_15) (md_eq_tr (md_eq_rf : md_eq [41] [40, 42, 43] [] s s) F_19 (by decide) (by decide) (by decide)) _ (by decide)
        · exact F_19.2.1 42 (by decide)
        · show upd (s_15.2.1 43) t 3 = _
          rw [show s_15.2.1 43 = s.2.1 43 from F_19.2.1 43 (by decide)]
    ·
      refine aw_aload_n C dX9_printSign_100 rfl rfl (q := 101) rfl ?_
      refine aw_aload_n C dX9_printSign_101 rfl rfl (q := 102) rfl ?_
      refine gfX9_83_9 (v := .ref (md 42)) C dX9_printSign_102 K.1 rfl (q := 105) rfl ?_
      refine aw_iload_n C dX9_printSign_105 rfl rfl (q := 106) rfl ?_
      refine aw_iconst (v := 1) C dX9_printSign_106 (by decide) (q := 107) rfl ?_
      refine aw_isub C dX9_printSign_107 (q := 108) rfl ?_
      refine ay_iald (N := 320) (f := s.2.1 42) (j := t) C dX9_printSign_108 (K.2.1 42 (by decide)) (by rw [nI_s1 (by omega)]; exact vp_in_nI (by omega) (by decide)) (by rw [nI_s1 (by omega)]; exact nI_clamp (by omega)) (q := 109) rfl ?_
      rw [show s.2.1 42 t = nI A.length from by rw [show s.2.1 42 = s.2.1 42 from (md_eq_rf : md_eq [41] [40] [] s s).2.1 42 (by decide)]; exact ha2]
      refine aw_bipush (v := 48) C dX9_printSign_109 (by decide) (q := 111) rfl ?_
      refine aw_iload_n C dX9_printSign_111 rfl rfl (q := 112) rfl ?_
      refine aw_iadd C dX9_printSign_112 (q := 113) rfl ?_
      refine cvX9_174_9 (As := [.int (nI A.length), .int (48 + a)]) (rest := []) C B9 dX9_printSign_113 K.1 (m_insert G M.2.1 o md hm h (d + 2) s K (A ++ X) R (by simp only [List.length_append, List.length_cons, List.length_nil]; omega) A.length (by simp only [List.length_append, List.length_cons, List.length_nil]; omega) (48 + a)) rfl rfl (Nat.le_of_ble_eq_true rfl) (by omega) (by omega) (by omega) (q := 116) rfl (fun r9 h_27 hr9 => ?_)
      obtain ⟨s_28, er9, K_29, R_30, F_31, kpx_33⟩ := hr9
      subst er9
      have F_32 : md_eq [41] [40] [] s s_28 := md_eq_tr md_eq_rf F_31 (by decide) (by decide) (by decide)
      have kq_34 : kp h h_27 (md_L o md) := kpx_33
      show aw G 4 M 116 [.ref o, .int g, .int a, .int (nI (t + 1))] [] h_27 0 0
      have R_35 : pb_rep s_28 (A ++ ((48 + a) :: X)) := by have z := R_30; rw [pb_ins_app] at z; exact z
      refine aw_aload_n C dX9_printSign_116 rfl rfl (q := 117) rfl ?_
      refine aw_aload_n C dX9_printSign_117 rfl rfl (q := 118) rfl ?_
      refine gfX9_83_9 (v := .ref (md 42)) C dX9_printSign_118 K_29.1 rfl (q := 121) rfl ?_
      refine aw_iload_n C dX9_printSign_121 rfl rfl (q := 122) rfl ?_
      refine aw_iconst (v := 1) C dX9_printSign_122 (by decide) (q := 123) rfl ?_
      refine aw_isub C dX9_printSign_123 (q := 124) rfl ?_
      refine ay_iald (N := 320) (f := s_28.2.1 42) (j := t) C dX9_printSign_124 (K_29.2.1 42 (by decide)) (by rw [nI_s1 (by omega)]; exact vp_in_nI (by omega) (by decide)) (by rw [nI_s1 (by omega)]; exact nI_clamp (by omega)) (q := 125) rfl ?_
      rw [show s_28.2.1 42 t = nI A.length from by rw [show s_28.2.1 42 = s.2.1 42 from (F_32 : md_eq [41] [40] [] s s_28).2.1 42 (by decide)]; exact ha2]
      refine aw_iload_n C dX9_printSign_125 rfl rfl (q := 126) rfl ?_
      refine aw_bipush (v := 9) C dX9_printSign_126 (by decide) (q := 128) rfl ?_
      refine aw_icmp_ne (t := 136) (q := 131) C dX9_printSign_128 (by decide) rfl (fun c_128 => absurd c_128 (fun z => z c_97)) (fun c_128 => ?_)
      refine aw_bipush (v := 99) C dX9_printSign_131 (by decide) (q := 133) rfl ?_
      refine aw_goto (q := 149) C dX9_printSign_133 (by decide) ?_
      refine cvX9_174_9 (As := [.int (nI A.length), .int 99]) (rest := []) C B9 dX9_printSign_149 K_29.1 (m_insert G M.2.1 o md hm h_27 (d + 2) s_28 K_29 (A ++ ((48 + a) :: X)) R_35 (by simp only [List.length_append, List.length_cons, List.length_nil]; omega) A.length (by simp only [List.length_append, List.length_cons, List.length_nil]; omega) 99) rfl rfl (Nat.le_of_ble_eq_true rfl) (by omega) (by omega) (by omega) (q := 152) rfl (fun r9 h_36 hr9 => ?_)
      obtain ⟨s_37, er9, K_38, R_39, F_40, kpx_42⟩ := hr9
      subst er9
      have F_41 : md_eq [41] [40] [] s s_37 := md_eq_tr F_32 F_40 (by decide) (by decide) (by decide)
      have kq_43 : kp h h_36 (md_L o md) := kp_in kq_34 kpx_42 (fun _ z => z)
      show aw G 4 M 152 [.ref o, .int g, .int a, .int (nI (t + 1))] [] h_36 0 0
      have R_44 : pb_rep s_37 (A ++ (99 :: ((48 + a) :: X))) := by have z := R_39; rw [pb_ins_app] at z; exact z
      refine aw_aload_n C dX9_printSign_152 rfl rfl (q := 153) rfl ?_
      refine gfX9_86_9 (v := .ref (md 43)) C dX9_printSign_153 K_38.1 rfl (q := 156) rfl ?_
      refine aw_iload_n C dX9_printSign_156 rfl rfl (q := 157) rfl ?_
      refine aw_iconst (v := 1) C dX9_printSign_157 (by decide) (q := 158) rfl ?_
      refine aw_isub C dX9_printSign_158 (q := 159) rfl ?_
      refine aw_iconst (v := 3) C dX9_printSign_159 (by decide) (q := 160) rfl ?_
      refine ay_iast (N := 320) (f := s_37.2.1 43) (j := t) C dX9_printSign_160 (K_38.2.1 43 (by decide)) (by rw [nI_s1 (by omega)]; exact vp_in_nI (by omega) (by decide)) (by rw [nI_s1 (by omega)]; exact nI_clamp (by omega)) (q := 161) rfl ?_
      show aw G 4 M 161 [.ref o, .int g, .int a, .int (nI (t + 1))] [] (ac_up h_36 (md 43) (.inl (1, 320, .inl (upd (s_37.2.1 43) t 3)))) 0 0
      obtain ⟨h_45, eh_45⟩ : ∃ z9, z9 = ac_up h_36 (md 43) (.inl (1, 320, .inl (upd (s_37.2.1 43) t 3))) := ⟨_, rfl⟩
      rw [← eh_45]
      have kpx_48 : kp h_36 h_45 [md 43] := by rw [eh_45]; exact kp_up (kp_cons _ kp_rf) _ _ (by simp)
      have K_46 : md_ok h_45 o md (s_37.1, va_up s_37.2.1 43 (upd (s_37.2.1 43) t 3), s_37.2.2) := md_A (s := (s_37.1, s_37.2.1, s_37.2.2)) hm K_38 (j := 43) (by decide) (by rw [eh_45]; exact ac_up_s _ _ _) kpx_48
      have kq_47 : kp h h_45 (md_L o md) := kp_in kq_43 kpx_48 (md_sj (by decide))
      refine aw_iload_n C dX9_printSign_161 rfl rfl (q := 162) rfl ?_
      refine aw_iret C E dX9_printSign_162 (Nat.le_refl _) (Nat.le_refl _) ?_
      refine ⟨_, rfl, K_46, ?_, ?_, ?_, ?_, kq_47⟩
      · have e : A ++ pr_un g a (pr_wr (sx < 3) X) = A ++ (99 :: ((48 + a) :: X)) := by
          rw [show pr_wr (sx < 3) X = _ from if_neg (Int32.not_lt.mpr c_79)]
          unfold pr_un
          rw [if_pos c_97]
        rw [e]; exact R_44
      · exact md_eq_A (s1 := s_37) (md_eq_tr (md_eq_rf : md_eq [41] [40, 42, 43] [] s s) F_41 (by decide) (by decide) (by decide)) _ (by decide)
      · exact F_41.2.1 42 (by decide)
      · show upd (s_37.2.1 43) t 3 = _
        rw [show s_37.2.1 43 = s.2.1 43 from F_41.2.1 43 (by decide)]
  ·
    refine aw_aload_n C dX9_printSign_82 rfl rfl (q := 83) rfl ?_
    refine aw_aload_n C dX9_printSign_83 rfl rfl (q := 84) rfl ?_
    refine gfX9_83_9 (v := .ref (md 42)) C dX9_printSign_84 K.1 rfl (q := 87) rfl ?_
    refine aw_iload_n C dX9_printSign_87 rfl rfl (q := 88) rfl ?_
    refine aw_iconst (v := 1) C dX9_printSign_88 (by decide) (q := 89) rfl ?_
    refine aw_isub C dX9_printSign_89 (q := 90) rfl ?_
    refine ay_iald (N := 320) (f := s.2.1 42) (j := t) C dX9_printSign_90 (K.2.1 42 (by decide)) (by rw [nI_s1 (by omega)]; exact vp_in_nI (by omega) (by decide)) (by rw [nI_s1 (by omega)]; exact nI_clamp (by omega)) (q := 91) rfl ?_
    rw [show s.2.1 42 t = nI A.length from by rw [show s.2.1 42 = s.2.1 42 from (md_eq_rf : md_eq [41] [40] [] s s).2.1 42 (by decide)]; exact ha2]
    refine cvX9_183_9 (As := [.int (nI A.length)]) (rest := []) C B9 dX9_printSign_91 K.1 (m_enclose G M.2.1 o md hm h (d + 1) s K (A ++ X) R (by simp only [List.length_append, List.length_cons, List.length_nil]; omega) A.length (by simp only [List.length_append, List.length_cons, List.length_nil]; omega)) rfl rfl (Nat.le_of_ble_eq_true rfl) (by omega) (by omega) (by omega) (q := 94) rfl (fun r9 h_49 hr9 => ?_)
    obtain ⟨s_50, er9, K_51, R_52, F_53, kpx_55⟩ := hr9
    subst er9
    have F_54 : md_eq [41] [40] [] s s_50 := md_eq_tr md_eq_rf F_53 (by decide) (by decide) (by decide)
    have kq_56 : kp h h_49 (md_L o md) := kpx_55
    show aw G 4 M 94 [.ref o, .int g, .int a, .int (nI (t + 1))] [] h_49 0 0
    have R_57 : pb_rep s_50 (A ++ (40 :: (X ++ [41]))) := by have z := R_52; rw [pb_enc_app] at z; exact z
    refine aw_iload_n C dX9_printSign_94 rfl rfl (q := 95) rfl ?_
    refine aw_bipush (v := 9) C dX9_printSign_95 (by decide) (q := 97) rfl ?_
    refine aw_icmp_ne (t := 116) (q := 100) C dX9_printSign_97 (by decide) rfl (fun c_97 => ?_) (fun c_97 => ?_)
    ·
      refine aw_aload_n C dX9_printSign_116 rfl rfl (q := 117) rfl ?_
      refine aw_aload_n C dX9_printSign_117 rfl rfl (q := 118) rfl ?_
      refine gfX9_83_9 (v := .ref (md 42)) C dX9_printSign_118 K_51.1 rfl (q := 121) rfl ?_
      refine aw_iload_n C dX9_printSign_121 rfl rfl (q := 122) rfl ?_
      refine aw_iconst (v := 1) C dX9_printSign_122 (by decide) (q := 123) rfl ?_
      refine aw_isub C dX9_printSign_123 (q := 124) rfl ?_
      refine ay_iald (N := 320) (f := s_50.2.1 42) (j := t) C dX9_printSign_124 (K_51.2.1 42 (by decide)) (by rw [nI_s1 (by omega)]; exact vp_in_nI (by omega) (by decide)) (by rw [nI_s1 (by omega)]; exact nI_clamp (by omega)) (q := 125) rfl ?_
      rw [show s_50.2.1 42 t = nI A.length from by rw [show s_50.2.1 42 = s.2.1 42 from (F_54 : md_eq [41] [40] [] s s_50).2.1 42 (by decide)]; exact ha2]
      refine aw_iload_n C dX9_printSign_125 rfl rfl (q := 126) rfl ?_
      refine aw_bipush (v := 9) C dX9_printSign_126 (by decide) (q := 128) rfl ?_
      refine aw_icmp_ne (t := 136) (q := 131) C dX9_printSign_128 (by decide) rfl (fun c_128 => ?_) (fun c_128 => absurd c_128 (c_97))
      refine aw_iload_n C dX9_printSign_136 rfl rfl (q := 137) rfl ?_
      refine aw_bipush (v := 10) C dX9_printSign_137 (by decide) (q := 139) rfl ?_
      refine aw_icmp_ne (t := 147) (q := 142) C dX9_printSign_139 (by decide) rfl (fun c_139 => ?_) (fun c_139 => ?_)
      ·
        refine aw_bipush (v := 45) C dX9_printSign_147 (by decide) (q := 149) rfl ?_
        refine cvX9_174_9 (As := [.int (nI A.length), .int 45]) (rest := []) C B9 dX9_printSign_149 K_51.1 (m_insert G M.2.1 o md hm h_49 (d + 2) s_50 K_51 (A ++ (40 :: (X ++ [41]))) R_57 (by simp only [List.length_append, List.length_cons, List.length_nil]; omega) A.length (by simp only [List.length_append, List.length_cons, List.length_nil]; omega) 45) rfl rfl (Nat.le_of_ble_eq_true rfl) (by omega) (by omega) (by omega) (q := 152) rfl (fun r9 h_58 hr9 => ?_)
        obtain ⟨s_59, er9, K_60, R_61, F_62, kpx_64⟩ := hr9
        subst er9
        have F_63 : md_eq [41] [40] [] s s_59 := md_eq_tr F_54 F_62 (by decide) (by decide) (by decide)
        have kq_65 : kp h h_58 (md_L o md) := kp_in kq_56 kpx_64 (fun _ z => z)
        show aw G 4 M 152 [.ref o, .int g, .int a, .int (nI (t + 1))] [] h_58 0 0
        have R_66 : pb_rep s_59 (A ++ (45 :: (40 :: (X ++ [41])))) := by have z := R_61; rw [pb_ins_app] at z; exact z
        refine aw_aload_n C dX9_printSign_152 rfl rfl (q := 153) rfl ?_
        refine gfX9_86_9 (v := .ref (md 43)) C dX9_printSign_153 K_60.1 rfl (q := 156) rfl ?_
        refine aw_iload_n C dX9_printSign_156 rfl rfl (q := 157) rfl ?_
        refine aw_iconst (v := 1) C dX9_printSign_157 (by decide) (q := 158) rfl ?_
        refine aw_isub C dX9_printSign_158 (q := 159) rfl ?_
        refine aw_iconst (v := 3) C dX9_printSign_159 (by decide) (q := 160) rfl ?_
        refine ay_iast (N := 320) (f := s_59.2.1 43) (j := t) C dX9_printSign_160 (K_60.2.1 43 (by decide)) (by rw [nI_s1 (by omega)]; exact vp_in_nI (by omega) (by decide)) (by rw [nI_s1 (by omega)]; exact nI_clamp (by omega)) (q := 161) rfl ?_
        show aw G 4 M 161 [.ref o, .int g, .int a, .int (nI (t + 1))] [] (ac_up h_58 (md 43) (.inl (1, 320, .inl (upd (s_59.2.1 43) t 3)))) 0 0
        obtain ⟨h_67, eh_67⟩ : ∃ z9, z9 = ac_up h_58 (md 43) (.inl (1, 320, .inl (upd (s_59.2.1 43) t 3))) := ⟨_, rfl⟩
        rw [← eh_67]
        have kpx_70 : kp h_58 h_67 [md 43] := by rw [eh_67]; exact kp_up (kp_cons _ kp_rf) _ _ (by simp)
        have K_68 : md_ok h_67 o md (s_59.1, va_up s_59.2.1 43 (upd (s_59.2.1 43) t 3), s_59.2.2) := md_A (s := (s_59.1, s_59.2.1, s_59.2.2)) hm K_60 (j := 43) (by decide) (by rw [eh_67]; exact ac_up_s _ _ _) kpx_70
        have kq_69 : kp h h_67 (md_L o md) := kp_in kq_65 kpx_70 (md_sj (by decide))
        refine aw_iload_n C dX9_printSign_161 rfl rfl (q := 162) rfl ?_
        refine aw_iret C E dX9_printSign_162 (Nat.le_refl _) (Nat.le_refl _) ?_
        refine ⟨_, rfl, K_68, ?_, ?_, ?_, ?_, kq_69⟩
        · have e : A ++ pr_un g a (pr_wr (sx < 3) X) = A ++ (45 :: (40 :: (X ++ [41]))) := by
            rw [show pr_wr (sx < 3) X = _ from if_pos (Int32.not_le.mp c_79)]
            unfold pr_un
            rw [if_neg c_97, if_neg c_139]
          rw [e]; exact R_66
        · exact md_eq_A (s1 := s_59) (md_eq_tr (md_eq_rf : md_eq [41] [40, 42, 43] [] s s) F_63 (by decide) (by decide) (by decide)) _ (by decide)
        · exact F_63.2.1 42 (by decide)
        · show upd (s_59.2.1 43) t 3 = _
          rw [show s_59.2.1 43 = s.2.1 43 from F_63.2.1 43 (by decide)]
      ·
        refine aw_bipush (v := 102) C dX9_printSign_142 (by decide) (q := 144) rfl ?_
        refine aw_goto (q := 149) C dX9_printSign_144 (by decide) ?_
        refine cvX9_174_9 (As := [.int (nI A.length), .int 102]) (rest := []) C B9 dX9_printSign_149 K_51.1 (m_insert G M.2.1 o md hm h_49 (d + 2) s_50 K_51 (A ++ (40 :: (X ++ [41]))) R_57 (by simp only [List.length_append, List.length_cons, List.length_nil]; omega) A.length (by simp only [List.length_append, List.length_cons, List.length_nil]; omega) 102) rfl rfl (Nat.le_of_ble_eq_true rfl) (by omega) (by omega) (by omega) (q := 152) rfl (fun r9 h_71 hr9 => ?_)
        obtain ⟨s_72, er9, K_73, R_74, F_75, kpx_77⟩ := hr9
        subst er9
        have F_76 : md_eq [41] [40] [] s s_72 := md_eq_tr F_54 F_75 (by decide) (by decide) (by decide)
        have kq_78 : kp h h_71 (md_L o md) := kp_in kq_56 kpx_77 (fun _ z => z)
        show aw G 4 M 152 [.ref o, .int g, .int a, .int (nI (t + 1))] [] h_71 0 0
        have R_79 : pb_rep s_72 (A ++ (102 :: (40 :: (X ++ [41])))) := by have z := R_74; rw [pb_ins_app] at z; exact z
        refine aw_aload_n C dX9_printSign_152 rfl rfl (q := 153) rfl ?_
        refine gfX9_86_9 (v := .ref (md 43)) C dX9_printSign_153 K_73.1 rfl (q := 156) rfl ?_
        refine aw_iload_n C dX9_printSign_156 rfl rfl (q := 157) rfl ?_
        refine aw_iconst (v := 1) C dX9_printSign_157 (by decide) (q := 158) rfl ?_
        refine aw_isub C dX9_printSign_158 (q := 159) rfl ?_
        refine aw_iconst (v := 3) C dX9_printSign_159 (by decide) (q := 160) rfl ?_
        refine ay_iast (N := 320) (f := s_72.2.1 43) (j := t) C dX9_printSign_160 (K_73.2.1 43 (by decide)) (by rw [nI_s1 (by omega)]; exact vp_in_nI (by omega) (by decide)) (by rw [nI_s1 (by omega)]; exact nI_clamp (by omega)) (q := 161) rfl ?_
        show aw G 4 M 161 [.ref o, .int g, .int a, .int (nI (t + 1))] [] (ac_up h_71 (md 43) (.inl (1, 320, .inl (upd (s_72.2.1 43) t 3)))) 0 0
        obtain ⟨h_80, eh_80⟩ : ∃ z9, z9 = ac_up h_71 (md 43) (.inl (1, 320, .inl (upd (s_72.2.1 43) t 3))) := ⟨_, rfl⟩
        rw [← eh_80]
        have kpx_83 : kp h_71 h_80 [md 43] := by rw [eh_80]; exact kp_up (kp_cons _ kp_rf) _ _ (by simp)
        have K_81 : md_ok h_80 o md (s_72.1, va_up s_72.2.1 43 (upd (s_72.2.1 43) t 3), s_72.2.2) := md_A (s := (s_72.1, s_72.2.1, s_72.2.2)) hm K_73 (j := 43) (by decide) (by rw [eh_80]; exact ac_up_s _ _ _) kpx_83
        have kq_82 : kp h h_80 (md_L o md) := kp_in kq_78 kpx_83 (md_sj (by decide))
        refine aw_iload_n C dX9_printSign_161 rfl rfl (q := 162) rfl ?_
        refine aw_iret C E dX9_printSign_162 (Nat.le_refl _) (Nat.le_refl _) ?_
        refine ⟨_, rfl, K_81, ?_, ?_, ?_, ?_, kq_82⟩
        · have e : A ++ pr_un g a (pr_wr (sx < 3) X) = A ++ (102 :: (40 :: (X ++ [41]))) := by
            rw [show pr_wr (sx < 3) X = _ from if_pos (Int32.not_le.mp c_79)]
            unfold pr_un
            rw [if_neg c_97, if_pos c_139]
          rw [e]; exact R_79
        · exact md_eq_A (s1 := s_72) (md_eq_tr (md_eq_rf : md_eq [41] [40, 42, 43] [] s s) F_76 (by decide) (by decide) (by decide)) _ (by decide)
        · exact F_76.2.1 42 (by decide)
        · show upd (s_72.2.1 43) t 3 = _
          rw [show s_72.2.1 43 = s.2.1 43 from F_76.2.1 43 (by decide)]
    ·
      refine aw_aload_n C dX9_printSign_100 rfl rfl (q := 101) rfl ?_
      refine aw_aload_n C dX9_printSign_101 rfl rfl (q := 102) rfl ?_
      refine gfX9_83_9 (v := .ref (md 42)) C dX9_printSign_102 K_51.1 rfl (q := 105) rfl ?_
      refine aw_iload_n C dX9_printSign_105 rfl rfl (q := 106) rfl ?_
      refine aw_iconst (v := 1) C dX9_printSign_106 (by decide) (q := 107) rfl ?_
      refine aw_isub C dX9_printSign_107 (q := 108) rfl ?_
      refine ay_iald (N := 320) (f := s_50.2.1 42) (j := t) C dX9_printSign_108 (K_51.2.1 42 (by decide)) (by rw [nI_s1 (by omega)]; exact vp_in_nI (by omega) (by decide)) (by rw [nI_s1 (by omega)]; exact nI_clamp (by omega)) (q := 109) rfl ?_
      rw [show s_50.2.1 42 t = nI A.length from by rw [show s_50.2.1 42 = s.2.1 42 from (F_54 : md_eq [41] [40] [] s s_50).2.1 42 (by decide)]; exact ha2]
      refine aw_bipush (v := 48) C dX9_printSign_109 (by decide) (q := 111) rfl ?_
      refine aw_iload_n C dX9_printSign_111 rfl rfl (q := 112) rfl ?_
      refine aw_iadd C dX9_printSign_112 (q := 113) rfl ?_
      refine cvX9_174_9 (As := [.int (nI A.length), .int (48 + a)]) (rest := []) C B9 dX9_printSign_113 K_51.1 (m_insert G M.2.1 o md hm h_49 (d + 2) s_50 K_51 (A ++ (40 :: (X ++ [41]))) R_57 (by simp only [List.length_append, List.length_cons, List.length_nil]; omega) A.length (by simp only [List.length_append, List.length_cons, List.length_nil]; omega) (48 + a)) rfl rfl (Nat.le_of_ble_eq_true rfl) (by omega) (by omega) (by omega) (q := 116) rfl (fun r9 h_84 hr9 => ?_)
      obtain ⟨s_85, er9, K_86, R_87, F_88, kpx_90⟩ := hr9
      subst er9
      have F_89 : md_eq [41] [40] [] s s_85 := md_eq_tr F_54 F_88 (by decide) (by decide) (by decide)
      have kq_91 : kp h h_84 (md_L o md) := kp_in kq_56 kpx_90 (fun _ z => z)
      show aw G 4 M 116 [.ref o, .int g, .int a, .int (nI (t + 1))] [] h_84 0 0
      have R_92 : pb_rep s_85 (A ++ ((48 + a) :: (40 :: (X ++ [41])))) := by have z := R_87; rw [pb_ins_app] at z; exact z
      refine aw_aload_n C dX9_printSign_116 rfl rfl (q := 117) rfl ?_
      refine aw_aload_n C dX9_printSign_117 rfl rfl (q := 118) rfl ?_
      refine gfX9_83_9 (v := .ref (md 42)) C dX9_printSign_118 K_86.1 rfl (q := 121) rfl ?_
      refine aw_iload_n C dX9_printSign_121 rfl rfl (q := 122) rfl ?_
      refine aw_iconst (v := 1) C dX9_printSign_122 (by decide) (q := 123) rfl ?_
      refine aw_isub C dX9_printSign_123 (q := 124) rfl ?_
      refine ay_iald (N := 320) (f := s_85.2.1 42) (j := t) C dX9_printSign_124 (K_86.2.1 42 (by decide)) (by rw [nI_s1 (by omega)]; exact vp_in_nI (by omega) (by decide)) (by rw [nI_s1 (by omega)]; exact nI_clamp (by omega)) (q := 125) rfl ?_
      rw [show s_85.2.1 42 t = nI A.length from by rw [show s_85.2.1 42 = s.2.1 42 from (F_89 : md_eq [41] [40] [] s s_85).2.1 42 (by decide)]; exact ha2]
      refine aw_iload_n C dX9_printSign_125 rfl rfl (q := 126) rfl ?_
      refine aw_bipush (v := 9) C dX9_printSign_126 (by decide) (q := 128) rfl ?_
      refine aw_icmp_ne (t := 136) (q := 131) C dX9_printSign_128 (by decide) rfl (fun c_128 => absurd c_128 (fun z => z c_97)) (fun c_128 => ?_)
      refine aw_bipush (v := 99) C dX9_printSign_131 (by decide) (q := 133) rfl ?_
      refine aw_goto (q := 149) C dX9_printSign_133 (by decide) ?_
      refine cvX9_174_9 (As := [.int (nI A.length), .int 99]) (rest := []) C B9 dX9_printSign_149 K_86.1 (m_insert G M.2.1 o md hm h_84 (d + 2) s_85 K_86 (A ++ ((48 + a) :: (40 :: (X ++ [41])))) R_92 (by simp only [List.length_append, List.length_cons, List.length_nil]; omega) A.length (by simp only [List.length_append, List.length_cons, List.length_nil]; omega) 99) rfl rfl (Nat.le_of_ble_eq_true rfl) (by omega) (by omega) (by omega) (q := 152) rfl (fun r9 h_93 hr9 => ?_)
      obtain ⟨s_94, er9, K_95, R_96, F_97, kpx_99⟩ := hr9
      subst er9
      have F_98 : md_eq [41] [40] [] s s_94 := md_eq_tr F_89 F_97 (by decide) (by decide) (by decide)
      have kq_100 : kp h h_93 (md_L o md) := kp_in kq_91 kpx_99 (fun _ z => z)
      show aw G 4 M 152 [.ref o, .int g, .int a, .int (nI (t + 1))] [] h_93 0 0
      have R_101 : pb_rep s_94 (A ++ (99 :: ((48 + a) :: (40 :: (X ++ [41]))))) := by have z := R_96; rw [pb_ins_app] at z; exact z
      refine aw_aload_n C dX9_printSign_152 rfl rfl (q := 153) rfl ?_
      refine gfX9_86_9 (v := .ref (md 43)) C dX9_printSign_153 K_95.1 rfl (q := 156) rfl ?_
      refine aw_iload_n C dX9_printSign_156 rfl rfl (q := 157) rfl ?_
      refine aw_iconst (v := 1) C dX9_printSign_157 (by decide) (q := 158) rfl ?_
      refine aw_isub C dX9_printSign_158 (q := 159) rfl ?_
      refine aw_iconst (v := 3) C dX9_printSign_159 (by decide) (q := 160) rfl ?_
      refine ay_iast (N := 320) (f := s_94.2.1 43) (j := t) C dX9_printSign_160 (K_95.2.1 43 (by decide)) (by rw [nI_s1 (by omega)]; exact vp_in_nI (by omega) (by decide)) (by rw [nI_s1 (by omega)]; exact nI_clamp (by omega)) (q := 161) rfl ?_
      show aw G 4 M 161 [.ref o, .int g, .int a, .int (nI (t + 1))] [] (ac_up h_93 (md 43) (.inl (1, 320, .inl (upd (s_94.2.1 43) t 3)))) 0 0
      obtain ⟨h_102, eh_102⟩ : ∃ z9, z9 = ac_up h_93 (md 43) (.inl (1, 320, .inl (upd (s_94.2.1 43) t 3))) := ⟨_, rfl⟩
      rw [← eh_102]
      have kpx_105 : kp h_93 h_102 [md 43] := by rw [eh_102]; exact kp_up (kp_cons _ kp_rf) _ _ (by simp)
      have K_103 : md_ok h_102 o md (s_94.1, va_up s_94.2.1 43 (upd (s_94.2.1 43) t 3), s_94.2.2) := md_A (s := (s_94.1, s_94.2.1, s_94.2.2)) hm K_95 (j := 43) (by decide) (by rw [eh_102]; exact ac_up_s _ _ _) kpx_105
      have kq_104 : kp h h_102 (md_L o md) := kp_in kq_100 kpx_105 (md_sj (by decide))
      refine aw_iload_n C dX9_printSign_161 rfl rfl (q := 162) rfl ?_
      refine aw_iret C E dX9_printSign_162 (Nat.le_refl _) (Nat.le_refl _) ?_
      refine ⟨_, rfl, K_103, ?_, ?_, ?_, ?_, kq_104⟩
      · have e : A ++ pr_un g a (pr_wr (sx < 3) X) = A ++ (99 :: ((48 + a) :: (40 :: (X ++ [41])))) := by
          rw [show pr_wr (sx < 3) X = _ from if_pos (Int32.not_le.mp c_79)]
          unfold pr_un
          rw [if_pos c_97]
        rw [e]; exact R_101
      · exact md_eq_A (s1 := s_94) (md_eq_tr (md_eq_rf : md_eq [41] [40, 42, 43] [] s s) F_98 (by decide) (by decide) (by decide)) _ (by decide)
      · exact F_98.2.1 42 (by decide)
      · show upd (s_94.2.1 43) t 3 = _
        rw [show s_94.2.1 43 = s.2.1 43 from F_98.2.1 43 (by decide)]
set_option maxHeartbeats 4000000 in
set_option maxRecDepth 100000 in
theorem p_sign4 (G : ac_G) (l : Launch) (o : Nat) (md : Nat → Nat) (hm : md_inj md) (h : ac_H) (d : Nat) (s : md_S) (K : md_ok h o md s) (A X Y : List Int32) (R : pb_rep s (A ++ X ++ Y)) (hB : A.length + X.length + Y.length ≤ 700) (t : Nat) (ht : t ≤ 310) (sx sy : Int32) (ha2 : s.2.1 42 t = nI A.length) (hb2 : s.2.1 42 (t + 1) = nI (A ++ X).length) (ha3 : s.2.1 43 t = sx) (hb3 : s.2.1 43 (t + 1) = sy) (g a : Int32) (h11 : 11 < g) : ac_Met G l yX9_printSign cX9_printSign 4 (some .int) (d + 3) 0 0 [.ref o, .int g, .int a, .int (nI (t + 2))] h (pr_SQ o md h s (s.2.1 42) (upd (s.2.1 43) t (if g = 14 ∨ g = 15 then 2 else 1)) (A ++ pr_two g a sx sy X Y) (t + 1)) := by
  refine ac_of (ls := [.ref o, .int g, .int a, .int (nI (t + 2))]) (by decide +kernel) rfl (Nat.le_of_ble_eq_true rfl) (fun M hl C B9 E hnm => ?_)
  have h8 : 8 < g := Int32.lt_trans (by decide) h11
  have h1 : ¬ g = 1 := fun z => by rw [z] at h8; exact absurd h8 (by decide)
  refine aw_iload_n C dX9_printSign_0 rfl rfl (q := 1) rfl ?_
  refine aw_iconst (v := 1) C dX9_printSign_1 (by decide) (q := 2) rfl ?_
  refine aw_icmp_ne (t := 31) (q := 5) C dX9_printSign_2 (by decide) rfl (fun c_2 => ?_) (fun c_2 => absurd c_2 (fun z => h1 z))
  refine aw_iload_n C dX9_printSign_31 rfl rfl (q := 32) rfl ?_
  refine aw_bipush (v := 8) C dX9_printSign_32 (by decide) (q := 34) rfl ?_
  refine aw_icmp_gt (t := 64) (q := 37) C dX9_printSign_34 (by decide) rfl (fun c_34 => ?_) (fun c_34 => absurd c_34 (fun z => z h8))
  refine aw_iload_n C dX9_printSign_64 rfl rfl (q := 65) rfl ?_
  refine aw_bipush (v := 11) C dX9_printSign_65 (by decide) (q := 67) rfl ?_
  refine aw_icmp_gt (t := 163) (q := 70) C dX9_printSign_67 (by decide) rfl (fun c_67 => ?_) (fun c_67 => absurd c_67 (fun z => z h11))
  refine aw_aload_n C dX9_printSign_163 rfl rfl (q := 164) rfl ?_
  refine aw_iload_n C dX9_printSign_164 rfl rfl (q := 165) rfl ?_
  refine aw_iload_n C dX9_printSign_165 rfl rfl (q := 166) rfl ?_
  refine aw_iload_n C dX9_printSign_166 rfl rfl (q := 167) rfl ?_
  refine cvX9_186_9 (As := [.int g, .int a, .int (nI (t + 2))]) (rest := []) C B9 dX9_printSign_167 K.1 (m_printBetween G M.2.1 o md hm h d s K A X Y R hB t ht sx sy ha2 hb2 ha3 hb3 g a) rfl rfl (Nat.le_of_ble_eq_true rfl) (by omega) (by omega) (by omega) (q := 170) rfl (fun r9 h_1 hr9 => ?_)
  obtain ⟨s9, er9, K9, R9, F9, e42, e43, kp9⟩ := hr9
  subst er9
  show aw G 4 M 170 [.ref o, .int g, .int a, .int (nI (t + 2))] [] h_1 0 0
  refine aw_iload_n C dX9_printSign_170 rfl rfl (q := 171) rfl ?_
  refine aw_iconst (v := 1) C dX9_printSign_171 (by decide) (q := 172) rfl ?_
  refine aw_isub C dX9_printSign_172 (q := 173) rfl ?_
  refine aw_iret C E dX9_printSign_173 (Nat.le_refl _) (Nat.le_refl _) ?_
  exact ⟨s9, by rw [nI_s1 (by omega)]; rfl, K9, R9, F9, e42, e43, kp9⟩
