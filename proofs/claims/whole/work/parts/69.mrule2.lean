/-! The reference's reader: readRule -/
theorem mz_QR_of {o : Nat} {md : Nat → Nat} {h : ac_H} {s s1 s2 : md_S} {u : Nat → Int32} {n a' rc : Nat} {U U' W' : pz_P} {g : Int32} (FR : mz_fR s s1) (e8 : s1.2.1 8 = s.2.1 8) (e9 : s1.2.1 9 = upd (s.2.1 9) (78 + rc) (nI U.length)) (e10 : s1.2.1 10 = upd (s.2.1 10) (78 + rc) g) (F : mz_fr s1 s2) (R : mz_rep s2 u n (a', U', W', none)) (hW : W'.length ≤ 330) :
    ∀ h9, md_ok h9 o md (s2.1, va_up (va_up s2.2.1 8 (upd (s2.2.1 8) 6 (nI (rc + 1)))) 9 (upd (s2.2.1 9) (78 + rc + 1) (nI U'.length)), s2.2.2) → kp h h9 (md_L o md) → mz_QR o md h s u n a' U U' rc g none h9 := by
  intro h9 K9 q9
  refine ⟨_, W', rfl, K9, R, hW, ?_, ?_, ?_, ?_, q9⟩
  · show upd (s2.2.1 8) 6 _ = _
    rw [F.2.1 8 (by decide), e8]
  · show upd (s2.2.1 9) _ _ = _
    rw [F.2.1 9 (by decide), e9]
  · show s2.2.1 10 = _
    rw [F.2.1 10 (by decide), e10]
  · exact mz_fR_9 (s1 := (s2.1, va_up s2.2.1 8 (upd (s2.2.1 8) 6 (nI (rc + 1))), s2.2.2)) (mz_fR_8 (mz_fR_tr FR (mz_fr_R F)) _) (rc + 1) _
theorem mz_QRF_of {o : Nat} {md : Nat → Nat} {h : ac_H} {s s1 s2 : md_S} {u : Nat → Int32} {n p rc : Nat} {c : mz_C} (FR : mz_fR s s1) (F : mz_fr s1 s2) (R : mz_rep s2 u n c) (ef : c.2.2.2 = some p) (h1 : c.1 ≤ 330) (hW : c.2.2.1.length ≤ 330) :
    ∀ h9, md_ok h9 o md (s2.1, va_up (va_up s2.2.1 8 (upd (s2.2.1 8) 6 (nI (rc + 1)))) 9 (upd (s2.2.1 9) (78 + rc + 1) (nI c.2.1.length)), s2.2.2) → kp h h9 (md_L o md) → mz_QRF o md h s u n p none h9 := by
  intro h9 K9 q9
  exact ⟨_, c, rfl, K9, R, ef, h1, hW, mz_fR_9 (s1 := (s2.1, va_up s2.2.1 8 (upd (s2.2.1 8) 6 (nI (rc + 1))), s2.2.2)) (mz_fR_8 (mz_fR_tr FR (mz_fr_R F)) _) (rc + 1) _, q9⟩
theorem mz_d10 {u : Nat → Int32} {n a : Nat} (ht : mz_tx u n) : cu_isd (cu_c u n a) 10 ↔ (¬ mz_c u n a < 48 ∧ ¬ 57 < mz_c u n a) := by
  rw [mz_dg]
  have hb := cu_cb (a := a) ht
  have hs := cu_sub hb
  unfold cu_isd
  rw [Int32.lt_iff_toInt_lt, Int32.lt_iff_toInt_lt, Int32.lt_iff_toInt_lt, Int32.lt_iff_toInt_lt, hs, show Int32.toInt 0 = 0 from rfl, show Int32.toInt 10 = 10 from rfl, show Int32.toInt 48 = 48 from rfl, show Int32.toInt 57 = 57 from rfl]
  omega
theorem mz_nn {u : Nat → Int32} {n a : Nat} (ht : mz_tx u n) (h : a < n) : ¬ mz_c u n a = -1 := by
  intro z
  rw [show mz_c u n a = u a from if_pos h] at z
  have := (ht a h).1
  rw [z] at this
  exact absurd (by decide) this
set_option maxHeartbeats 4000000 in
set_option maxRecDepth 100000 in
theorem p_ruleA (G : ac_G) (l : Launch) (o : Nat) (md : Nat → Nat) (hm : md_inj md) (h : ac_H) (d : Nat) (s : md_S) (K : md_ok h o md s) (u : Nat → Int32) (n a : Nat) (U W : pz_P) (R : mz_rep s u n (a, U, W, none)) (hn : n ≤ 300) (ht : mz_tx u n) (han : a ≤ n) (hU : U.length ≤ a) (hW : W.length ≤ 330) (rc : Nat) (hrc : rc ≤ 11) (h8 : s.2.1 8 6 = nI rc) (hd : ¬ cu_isd (cu_c u n a) 10) : ac_Met G l yX9_readRule cX9_readRule 4 none (d + 7) 0 0 [.ref o] h (mz_QRF o md h s u n a) := by
  refine ac_of (ls := [.ref o, .retAddr 0, .retAddr 0, .retAddr 0]) (by decide +kernel) rfl (Nat.le_of_ble_eq_true rfl) (fun M hl C B E hnm => ?_)
  refine aw_bipush (v := 78) C dX9_readRule_0 (by decide) (q := 2) rfl ?_
  refine aw_aload_n C dX9_readRule_2 rfl rfl (q := 3) rfl ?_
  refine gfX9_22_9 (v := .ref (md 8)) C dX9_readRule_3 K.1 rfl (q := 6) rfl ?_
  refine aw_bipush (v := 6) C dX9_readRule_6 (by decide) (q := 8) rfl ?_
  refine ay_iald (N := 7) (f := s.2.1 8) (j := 6) C dX9_readRule_8 (K.2.1 8 (by decide)) (vp_in_nI (by decide) (by decide)) (rfl) (q := 9) rfl ?_
  rw [h8]
  refine aw_iadd C dX9_readRule_9 (q := 10) rfl ?_
  rw [show (78 : Int32) + nI rc = nI (78 + rc) from by rw [show (78 : Int32) = nI 78 from rfl, nI_add]]
  refine aw_istore_n (ls' := [.ref o, .int (nI (78 + rc)), .retAddr 0, .retAddr 0]) C dX9_readRule_10 rfl (by decide) rfl (q := 11) rfl ?_
  refine aw_aload_n C dX9_readRule_11 rfl rfl (q := 12) rfl ?_
  refine gfX9_28_9 (v := .ref (md 10)) C dX9_readRule_12 K.1 rfl (q := 15) rfl ?_
  refine aw_iload_n C dX9_readRule_15 rfl rfl (q := 16) rfl ?_
  refine aw_aload_n C dX9_readRule_16 rfl rfl (q := 17) rfl ?_
  refine cvX9_116_9 (As := []) (rest := [.int (nI (78 + rc)), .ref (md 10)]) C B dX9_readRule_17 K.1 (m_here G M.2.1 o md hm h (d + 6) s K a n R.2.2.1 R.1 (by omega) R.2.1) rfl rfl (Nat.le_of_ble_eq_true rfl) (by omega) (by omega) (by omega) (q := 20) rfl (fun r9 h9 hr9 => ?_)
  obtain ⟨e9, er9⟩ := hr9
  subst er9; rw [e9]
  show aw G 4 M 20 [.ref o, .int (nI (78 + rc)), .retAddr 0, .retAddr 0] [.int (mo_here s a n), .int (nI (78 + rc)), .ref (md 10)] h 0 0
  rw [mz_here R]
  refine aw_bipush (v := 48) C dX9_readRule_20 (by decide) (q := 22) rfl ?_
  refine aw_isub C dX9_readRule_22 (q := 23) rfl ?_
  refine ay_iast (N := 91) (f := s.2.1 10) (j := 78 + rc) C dX9_readRule_23 (K.2.1 10 (by decide)) (vp_in_nI (by omega) (by decide)) (nI_clamp (by omega)) (q := 24) rfl ?_
  show aw G 4 M 24 [.ref o, .int (nI (78 + rc)), .retAddr 0, .retAddr 0] [] (ac_up h (md 10) (.inl (1, 91, .inl (upd (s.2.1 10) (78 + rc) ((mz_c u n a) - 48))))) 0 0
  obtain ⟨h_1, eh_1⟩ : ∃ z9, z9 = ac_up h (md 10) (.inl (1, 91, .inl (upd (s.2.1 10) (78 + rc) ((mz_c u n a) - 48)))) := ⟨_, rfl⟩
  rw [← eh_1]
  have kpx_4 : kp h h_1 [md 10] := by rw [eh_1]; exact kp_up (kp_cons _ kp_rf) _ _ (by simp)
  have K_2 : md_ok h_1 o md (s.1, va_up s.2.1 10 (upd (s.2.1 10) (78 + rc) ((mz_c u n a) - 48)), s.2.2) := md_A (s := (s.1, s.2.1, s.2.2)) hm K (j := 10) (by decide) (by rw [eh_1]; exact ac_up_s _ _ _) kpx_4
  have kq_3 : kp h h_1 (md_L o md) := kp_mono kpx_4 (md_sj (by decide))
  refine aw_aload_n C dX9_readRule_24 rfl rfl (q := 25) rfl ?_
  refine gfX9_25_9 (v := .ref (md 9)) C dX9_readRule_25 K_2.1 rfl (q := 28) rfl ?_
  refine aw_iload_n C dX9_readRule_28 rfl rfl (q := 29) rfl ?_
  refine aw_aload_n C dX9_readRule_29 rfl rfl (q := 30) rfl ?_
  refine gfX9_19_9 (v := .ref (md 7)) C dX9_readRule_30 K_2.1 rfl (q := 33) rfl ?_
  refine aw_bipush (v := 6) C dX9_readRule_33 (by decide) (q := 35) rfl ?_
  refine ay_iald (N := 7) (f := s.2.1 7) (j := 6) C dX9_readRule_35 (K_2.2.1 7 (by decide)) (vp_in_nI (by decide) (by decide)) (rfl) (q := 36) rfl ?_
  rw [show (s.2.1 7) 6 = nI U.length from R.2.2.2.2.2.1]
  refine ay_iast (N := 91) (f := s.2.1 9) (j := 78 + rc) C dX9_readRule_36 (K_2.2.1 9 (by decide)) (vp_in_nI (by omega) (by decide)) (nI_clamp (by omega)) (q := 37) rfl ?_
  show aw G 4 M 37 [.ref o, .int (nI (78 + rc)), .retAddr 0, .retAddr 0] [] (ac_up h_1 (md 9) (.inl (1, 91, .inl (upd (s.2.1 9) (78 + rc) (nI U.length))))) 0 0
  obtain ⟨h_5, eh_5⟩ : ∃ z9, z9 = ac_up h_1 (md 9) (.inl (1, 91, .inl (upd (s.2.1 9) (78 + rc) (nI U.length)))) := ⟨_, rfl⟩
  rw [← eh_5]
  have kpx_8 : kp h_1 h_5 [md 9] := by rw [eh_5]; exact kp_up (kp_cons _ kp_rf) _ _ (by simp)
  have K_6 : md_ok h_5 o md (s.1, va_up (va_up s.2.1 10 (upd (s.2.1 10) (78 + rc) ((mz_c u n a) - 48))) 9 (upd (s.2.1 9) (78 + rc) (nI U.length)), s.2.2) := md_A (s := (s.1, va_up s.2.1 10 (upd (s.2.1 10) (78 + rc) ((mz_c u n a) - 48)), s.2.2)) hm K_2 (j := 9) (by decide) (by rw [eh_5]; exact ac_up_s _ _ _) kpx_8
  have kq_7 : kp h h_5 (md_L o md) := kp_in kq_3 kpx_8 (md_sj (by decide))
  have R1 : mz_rep (s.1, va_up (va_up s.2.1 10 (upd (s.2.1 10) (78 + rc) ((mz_c u n a) - 48))) 9 (upd (s.2.1 9) (78 + rc) (nI U.length)), s.2.2) u n (a, U, W, none) := R
  have FR : mz_fR s (s.1, va_up (va_up s.2.1 10 (upd (s.2.1 10) (78 + rc) ((mz_c u n a) - 48))) 9 (upd (s.2.1 9) (78 + rc) (nI U.length)), s.2.2) := mz_fR_9 (s1 := (s.1, va_up s.2.1 10 (upd (s.2.1 10) (78 + rc) (mz_c u n a - 48)), s.2.2)) (mz_fR_10 mz_fR_rf rc _) rc _
  have ea8 : (s.1, va_up (va_up s.2.1 10 (upd (s.2.1 10) (78 + rc) ((mz_c u n a) - 48))) 9 (upd (s.2.1 9) (78 + rc) (nI U.length)), s.2.2).2.1 8 = s.2.1 8 := rfl
  have ea9 : (s.1, va_up (va_up s.2.1 10 (upd (s.2.1 10) (78 + rc) ((mz_c u n a) - 48))) 9 (upd (s.2.1 9) (78 + rc) (nI U.length)), s.2.2).2.1 9 = upd (s.2.1 9) (78 + rc) (nI U.length) := rfl
  have ea10 : (s.1, va_up (va_up s.2.1 10 (upd (s.2.1 10) (78 + rc) ((mz_c u n a) - 48))) 9 (upd (s.2.1 9) (78 + rc) (nI U.length)), s.2.2).2.1 10 = upd (s.2.1 10) (78 + rc) (mz_c u n a - 48) := rfl
  obtain ⟨s1, es1⟩ : ∃ z, z = (s.1, va_up (va_up s.2.1 10 (upd (s.2.1 10) (78 + rc) ((mz_c u n a) - 48))) 9 (upd (s.2.1 9) (78 + rc) (nI U.length)), s.2.2) := ⟨_, rfl⟩
  rw [← es1] at K_6 R1 FR ea8 ea9 ea10
  refine aw_aload_n C dX9_readRule_37 rfl rfl (q := 38) rfl ?_
  refine cvX9_116_9 (As := []) (rest := []) C B dX9_readRule_38 K_6.1 (m_here G M.2.1 o md hm h_5 (d + 6) s1 K_6 a n R1.2.2.1 R1.1 (by omega) R1.2.1) rfl rfl (Nat.le_of_ble_eq_true rfl) (by omega) (by omega) (by omega) (q := 41) rfl (fun r9 h9 hr9 => ?_)
  obtain ⟨e9, er9⟩ := hr9
  subst er9; rw [e9]
  show aw G 4 M 41 [.ref o, .int (nI (78 + rc)), .retAddr 0, .retAddr 0] [.int (mo_here s1 a n)] h_5 0 0
  rw [mz_here R1]
  refine csX9_123 (As := [.int (mz_c u n a)]) (rest := []) C B dX9_readRule_41 (m_isDigit G M.2.1 h_5 (d + 6) (mz_c u n a)) rfl rfl (Nat.le_of_ble_eq_true rfl) (by omega) (by omega) (by omega) (q := 44) rfl (fun r9 h9 hr9 => ?_)
  obtain ⟨e9, er9⟩ := hr9
  subst er9; rw [e9]
  show aw G 4 M 44 [.ref o, .int (nI (78 + rc)), .retAddr 0, .retAddr 0] [.int (pb_b (¬ (mz_c u n a) < 48 ∧ ¬ 57 < (mz_c u n a)))] h_5 0 0
  refine aw_if_ne (t := 51) (q := 47) C dX9_readRule_44 (by decide) rfl (fun c_44 => absurd c_44 (fun z => z (pb_f (fun q => hd ((mz_d10 ht).mpr q))))) (fun c_44 => ?_)
  refine aw_aload_n C dX9_readRule_47 rfl rfl (q := 48) rfl ?_
  refine cvX9_120_9 (As := []) (rest := []) C B dX9_readRule_48 K_6.1 (p_fail G M.2.1 o md hm h_5 (d + 6) s1 K_6 u n a U W none R1 (by omega)) rfl rfl (Nat.le_of_ble_eq_true rfl) (by omega) (by omega) (by omega) (q := 51) rfl (fun r9 h_9 hr9 => ?_)
  obtain ⟨s_10, er9, K_11, R_12, F_13, kpx_15⟩ := hr9
  subst er9
  have F_14 : mz_fr s1 s_10 := mz_fr_tr mz_fr_rf F_13
  have kq_16 : kp h h_9 (md_L o md) := kp_in kq_7 kpx_15 (fun _ z => z)
  show aw G 4 M 51 [.ref o, .int (nI (78 + rc)), .retAddr 0, .retAddr 0] [] h_9 0 0
  refine aw_aload_n C dX9_readRule_51 rfl rfl (q := 52) rfl ?_
  refine aw_dup C dX9_readRule_52 rfl (q := 53) rfl ?_
  refine gfX9_96_9 (v := .int (s_10.1 3)) C dX9_readRule_53 K_11.1 rfl (q := 56) rfl ?_
  refine aw_iconst (v := 1) C dX9_readRule_56 (by decide) (q := 57) rfl ?_
  refine aw_iadd C dX9_readRule_57 (q := 58) rfl ?_
  rw [show (s_10.1 3) + 1 = nI (a + 1) from by rw [R_12.2.2.1]; exact nI_1 _]
  refine pfX9_96_9 C dX9_readRule_58 K_11.1 rfl rfl (Nat.le_of_ble_eq_true rfl) (q := 61) rfl ?_
  show aw G 4 M 61 [.ref o, .int (nI (78 + rc)), .retAddr 0, .retAddr 0] [] (ac_up h_9 o (.inr (9, md_fs md ((upd s_10.1 3 (nI (a + 1)), s_10.2.1, s_10.2.2).1)))) 0 0
  obtain ⟨h_17, eh_17⟩ : ∃ z9, z9 = ac_up h_9 o (.inr (9, md_fs md ((upd s_10.1 3 (nI (a + 1)), s_10.2.1, s_10.2.2).1))) := ⟨_, rfl⟩
  rw [← eh_17]
  have kpx_20 : kp h_9 h_17 [o] := by rw [eh_17]; exact kp_up (kp_cons o kp_rf) _ _ (by simp)
  have K_18 : md_ok h_17 o md (upd s_10.1 3 (nI (a + 1)), s_10.2.1, s_10.2.2) := md_J (s := (s_10.1, s_10.2.1, s_10.2.2)) K_11 (by rw [eh_17]; exact ac_up_s _ _ _) kpx_20
  have kq_19 : kp h h_17 (md_L o md) := kp_in kq_16 kpx_20 md_s0
  have R_22 : mz_rep (upd s_10.1 3 (nI (a + 1)), s_10.2.1, s_10.2.2) u n (a + 1, U, W, some a) := mz_at R_12 _
  have F_23 : mz_fr s1 (upd s_10.1 3 (nI (a + 1)), s_10.2.1, s_10.2.2) := mz_fr_at F_14
  obtain ⟨s_21, es_21⟩ : ∃ z, z = (upd s_10.1 3 (nI (a + 1)), s_10.2.1, s_10.2.2) := ⟨_, rfl⟩
  rw [← es_21] at K_18 R_22 F_23
  refine aw_aload_n C dX9_readRule_61 rfl rfl (q := 62) rfl ?_
  refine gfX9_99_9 (v := .int (s_21.1 4)) C dX9_readRule_62 K_18.1 rfl (q := 65) rfl ?_
  refine aw_if_ge (t := 81) (q := 68) C dX9_readRule_65 (by decide) rfl (fun c_65 => ?_) (fun c_65 => absurd c_65 (fun z => z (by rw [R_22.2.2.2.1]; exact nI_le (a := 0) (b := a) (Nat.zero_le _) (by have := R_22.2.2.2.2.2.2.2.2.2 a rfl; omega))))
  refine aw_aload_n C dX9_readRule_81 rfl rfl (q := 82) rfl ?_
  refine aw_dup C dX9_readRule_82 rfl (q := 83) rfl ?_
  refine gfX9_96_9 (v := .int (s_21.1 3)) C dX9_readRule_83 K_18.1 rfl (q := 86) rfl ?_
  refine aw_iconst (v := 1) C dX9_readRule_86 (by decide) (q := 87) rfl ?_
  refine aw_iadd C dX9_readRule_87 (q := 88) rfl ?_
  rw [show (s_21.1 3) + 1 = nI (a + 1 + 1) from by rw [R_22.2.2.1]; exact nI_1 _]
  refine pfX9_96_9 C dX9_readRule_88 K_18.1 rfl rfl (Nat.le_of_ble_eq_true rfl) (q := 91) rfl ?_
  show aw G 4 M 91 [.ref o, .int (nI (78 + rc)), .retAddr 0, .retAddr 0] [] (ac_up h_17 o (.inr (9, md_fs md ((upd s_21.1 3 (nI (a + 1 + 1)), s_21.2.1, s_21.2.2).1)))) 0 0
  obtain ⟨h_24, eh_24⟩ : ∃ z9, z9 = ac_up h_17 o (.inr (9, md_fs md ((upd s_21.1 3 (nI (a + 1 + 1)), s_21.2.1, s_21.2.2).1))) := ⟨_, rfl⟩
  rw [← eh_24]
  have kpx_27 : kp h_17 h_24 [o] := by rw [eh_24]; exact kp_up (kp_cons o kp_rf) _ _ (by simp)
  have K_25 : md_ok h_24 o md (upd s_21.1 3 (nI (a + 1 + 1)), s_21.2.1, s_21.2.2) := md_J (s := (s_21.1, s_21.2.1, s_21.2.2)) K_18 (by rw [eh_24]; exact ac_up_s _ _ _) kpx_27
  have kq_26 : kp h h_24 (md_L o md) := kp_in kq_19 kpx_27 md_s0
  have R_29 : mz_rep (upd s_21.1 3 (nI (a + 1 + 1)), s_21.2.1, s_21.2.2) u n (a + 1 + 1, U, W, some a) := mz_at R_22 _
  have F_30 : mz_fr s1 (upd s_21.1 3 (nI (a + 1 + 1)), s_21.2.1, s_21.2.2) := mz_fr_at F_23
  obtain ⟨s_28, es_28⟩ : ∃ z, z = (upd s_21.1 3 (nI (a + 1 + 1)), s_21.2.1, s_21.2.2) := ⟨_, rfl⟩
  rw [← es_28] at K_25 R_29 F_30
  refine aw_iconst (v := 0) C dX9_readRule_91 (by decide) (q := 92) rfl ?_
  refine aw_istore_n (ls' := [.ref o, .int (nI (78 + rc)), .int 0, .retAddr 0]) C dX9_readRule_92 rfl (by decide) rfl (q := 93) rfl ?_
  refine aw_aload_n C dX9_readRule_93 rfl rfl (q := 94) rfl ?_
  refine cvX9_116_9 (As := []) (rest := []) C B dX9_readRule_94 K_25.1 (m_here G M.2.1 o md hm h_24 (d + 6) s_28 K_25 (a + 1 + 1) n R_29.2.2.1 R_29.1 (by omega) R_29.2.1) rfl rfl (Nat.le_of_ble_eq_true rfl) (by omega) (by omega) (by omega) (q := 97) rfl (fun r9 h9 hr9 => ?_)
  obtain ⟨e9, er9⟩ := hr9
  subst er9; rw [e9]
  show aw G 4 M 97 [.ref o, .int (nI (78 + rc)), .int 0, .retAddr 0] [.int (mo_here s_28 (a + 1 + 1) n)] h_24 0 0
  rw [mz_here R_29]
  refine aw_bipush (v := 59) C dX9_readRule_97 (by decide) (q := 99) rfl ?_
  refine aw_icmp_eq (t := 114) (q := 102) C dX9_readRule_99 (by decide) rfl (fun c_99 => ?_) (fun c_99 => ?_)
  ·
    refine aw_iconst (v := 0) C dX9_readRule_114 (by decide) (q := 115) rfl ?_
    refine aw_istore_n (ls' := [.ref o, .int (nI (78 + rc)), .int 0, .int 0]) C dX9_readRule_115 rfl (by decide) rfl (q := 116) rfl ?_
    refine aw_iload_n C dX9_readRule_116 rfl rfl (q := 117) rfl ?_
    refine aw_if_eq (t := 186) (q := 120) C dX9_readRule_117 (by decide) rfl (fun c_117 => ?_) (fun c_117 => absurd c_117 (by decide))
    exact ml_rend hm hrc (by rw [F_30.2.1 8 (by decide), ea8]; exact h8) C E K_25 R_29 kq_26 (mz_QRF_of FR F_30 R_29 rfl (by omega : a + 1 + 1 ≤ 330) hW)
  ·
    refine aw_aload_n C dX9_readRule_102 rfl rfl (q := 103) rfl ?_
    refine cvX9_116_9 (As := []) (rest := []) C B dX9_readRule_103 K_25.1 (m_here G M.2.1 o md hm h_24 (d + 6) s_28 K_25 (a + 1 + 1) n R_29.2.2.1 R_29.1 (by omega) R_29.2.1) rfl rfl (Nat.le_of_ble_eq_true rfl) (by omega) (by omega) (by omega) (q := 106) rfl (fun r9 h9 hr9 => ?_)
    obtain ⟨e9, er9⟩ := hr9
    subst er9; rw [e9]
    show aw G 4 M 106 [.ref o, .int (nI (78 + rc)), .int 0, .retAddr 0] [.int (mo_here s_28 (a + 1 + 1) n)] h_24 0 0
    rw [mz_here R_29]
    refine aw_iconst (v := (-1)) C dX9_readRule_106 (by decide) (q := 107) rfl ?_
    refine aw_icmp_eq (t := 114) (q := 110) C dX9_readRule_107 (by decide) rfl (fun c_107 => ?_) (fun c_107 => ?_)
    ·
      refine aw_iconst (v := 0) C dX9_readRule_114 (by decide) (q := 115) rfl ?_
      refine aw_istore_n (ls' := [.ref o, .int (nI (78 + rc)), .int 0, .int 0]) C dX9_readRule_115 rfl (by decide) rfl (q := 116) rfl ?_
      refine aw_iload_n C dX9_readRule_116 rfl rfl (q := 117) rfl ?_
      refine aw_if_eq (t := 186) (q := 120) C dX9_readRule_117 (by decide) rfl (fun c_117 => ?_) (fun c_117 => absurd c_117 (by decide))
      exact ml_rend hm hrc (by rw [F_30.2.1 8 (by decide), ea8]; exact h8) C E K_25 R_29 kq_26 (mz_QRF_of FR F_30 R_29 rfl (by omega : a + 1 + 1 ≤ 330) hW)
    ·
      refine aw_iconst (v := 1) C dX9_readRule_110 (by decide) (q := 111) rfl ?_
      refine aw_goto (q := 115) C dX9_readRule_111 (by decide) ?_
      refine aw_istore_n (ls' := [.ref o, .int (nI (78 + rc)), .int 0, .int 1]) C dX9_readRule_115 rfl (by decide) rfl (q := 116) rfl ?_
      refine aw_iload_n C dX9_readRule_116 rfl rfl (q := 117) rfl ?_
      refine aw_if_eq (t := 186) (q := 120) C dX9_readRule_117 (by decide) rfl (fun c_117 => absurd c_117 (by decide)) (fun c_117 => ?_)
      refine aw_aload_n C dX9_readRule_120 rfl rfl (q := 121) rfl ?_
      refine gfX9_99_9 (v := .int (s_28.1 4)) C dX9_readRule_121 K_25.1 rfl (q := 124) rfl ?_
      refine aw_if_ge (t := 186) (q := 127) C dX9_readRule_124 (by decide) rfl (fun c_124 => ?_) (fun c_124 => absurd c_124 (fun z => z (by rw [R_29.2.2.2.1]; exact nI_le (a := 0) (b := a) (Nat.zero_le _) (by have := R_29.2.2.2.2.2.2.2.2.2 a rfl; omega))))
      exact ml_rend hm hrc (by rw [F_30.2.1 8 (by decide), ea8]; exact h8) C E K_25 R_29 kq_26 (mz_QRF_of FR F_30 R_29 rfl (by omega : a + 1 + 1 ≤ 330) hW)
set_option maxHeartbeats 4000000 in
set_option maxRecDepth 100000 in
theorem p_ruleB (G : ac_G) (l : Launch) (o : Nat) (md : Nat → Nat) (hm : md_inj md) (h : ac_H) (d : Nat) (s : md_S) (K : md_ok h o md s) (u : Nat → Int32) (n a : Nat) (U W : pz_P) (R : mz_rep s u n (a, U, W, none)) (hn : n ≤ 300) (ht : mz_tx u n) (han : a ≤ n) (hU : U.length ≤ a) (hW : W.length ≤ 330) (rc : Nat) (hrc : rc ≤ 11) (h8 : s.2.1 8 6 = nI rc) (hd : cu_isd (cu_c u n a) 10) (hl : a < n) (h58 : ¬ cu_c u n (a + 1) = 58) : ac_Met G l yX9_readRule cX9_readRule 4 none (d + 7) 0 0 [.ref o] h (mz_QRF o md h s u n (a + 1)) := by
  refine ac_of (ls := [.ref o, .retAddr 0, .retAddr 0, .retAddr 0]) (by decide +kernel) rfl (Nat.le_of_ble_eq_true rfl) (fun M hl C B E hnm => ?_)
  refine aw_bipush (v := 78) C dX9_readRule_0 (by decide) (q := 2) rfl ?_
  refine aw_aload_n C dX9_readRule_2 rfl rfl (q := 3) rfl ?_
  refine gfX9_22_9 (v := .ref (md 8)) C dX9_readRule_3 K.1 rfl (q := 6) rfl ?_
  refine aw_bipush (v := 6) C dX9_readRule_6 (by decide) (q := 8) rfl ?_
  refine ay_iald (N := 7) (f := s.2.1 8) (j := 6) C dX9_readRule_8 (K.2.1 8 (by decide)) (vp_in_nI (by decide) (by decide)) (rfl) (q := 9) rfl ?_
  rw [h8]
  refine aw_iadd C dX9_readRule_9 (q := 10) rfl ?_
  rw [show (78 : Int32) + nI rc = nI (78 + rc) from by rw [show (78 : Int32) = nI 78 from rfl, nI_add]]
  refine aw_istore_n (ls' := [.ref o, .int (nI (78 + rc)), .retAddr 0, .retAddr 0]) C dX9_readRule_10 rfl (by decide) rfl (q := 11) rfl ?_
  refine aw_aload_n C dX9_readRule_11 rfl rfl (q := 12) rfl ?_
  refine gfX9_28_9 (v := .ref (md 10)) C dX9_readRule_12 K.1 rfl (q := 15) rfl ?_
  refine aw_iload_n C dX9_readRule_15 rfl rfl (q := 16) rfl ?_
  refine aw_aload_n C dX9_readRule_16 rfl rfl (q := 17) rfl ?_
  refine cvX9_116_9 (As := []) (rest := [.int (nI (78 + rc)), .ref (md 10)]) C B dX9_readRule_17 K.1 (m_here G M.2.1 o md hm h (d + 6) s K a n R.2.2.1 R.1 (by omega) R.2.1) rfl rfl (Nat.le_of_ble_eq_true rfl) (by omega) (by omega) (by omega) (q := 20) rfl (fun r9 h9 hr9 => ?_)
  obtain ⟨e9, er9⟩ := hr9
  subst er9; rw [e9]
  show aw G 4 M 20 [.ref o, .int (nI (78 + rc)), .retAddr 0, .retAddr 0] [.int (mo_here s a n), .int (nI (78 + rc)), .ref (md 10)] h 0 0
  rw [mz_here R]
  refine aw_bipush (v := 48) C dX9_readRule_20 (by decide) (q := 22) rfl ?_
  refine aw_isub C dX9_readRule_22 (q := 23) rfl ?_
  refine ay_iast (N := 91) (f := s.2.1 10) (j := 78 + rc) C dX9_readRule_23 (K.2.1 10 (by decide)) (vp_in_nI (by omega) (by decide)) (nI_clamp (by omega)) (q := 24) rfl ?_
  show aw G 4 M 24 [.ref o, .int (nI (78 + rc)), .retAddr 0, .retAddr 0] [] (ac_up h (md 10) (.inl (1, 91, .inl (upd (s.2.1 10) (78 + rc) ((mz_c u n a) - 48))))) 0 0
  obtain ⟨h_1, eh_1⟩ : ∃ z9, z9 = ac_up h (md 10) (.inl (1, 91, .inl (upd (s.2.1 10) (78 + rc) ((mz_c u n a) - 48)))) := ⟨_, rfl⟩
  rw [← eh_1]
  have kpx_4 : kp h h_1 [md 10] := by rw [eh_1]; exact kp_up (kp_cons _ kp_rf) _ _ (by simp)
  have K_2 : md_ok h_1 o md (s.1, va_up s.2.1 10 (upd (s.2.1 10) (78 + rc) ((mz_c u n a) - 48)), s.2.2) := md_A (s := (s.1, s.2.1, s.2.2)) hm K (j := 10) (by decide) (by rw [eh_1]; exact ac_up_s _ _ _) kpx_4
  have kq_3 : kp h h_1 (md_L o md) := kp_mono kpx_4 (md_sj (by decide))
  refine aw_aload_n C dX9_readRule_24 rfl rfl (q := 25) rfl ?_
  refine gfX9_25_9 (v := .ref (md 9)) C dX9_readRule_25 K_2.1 rfl (q := 28) rfl ?_
  refine aw_iload_n C dX9_readRule_28 rfl rfl (q := 29) rfl ?_
  refine aw_aload_n C dX9_readRule_29 rfl rfl (q := 30) rfl ?_
  refine gfX9_19_9 (v := .ref (md 7)) C dX9_readRule_30 K_2.1 rfl (q := 33) rfl ?_
  refine aw_bipush (v := 6) C dX9_readRule_33 (by decide) (q := 35) rfl ?_
  refine ay_iald (N := 7) (f := s.2.1 7) (j := 6) C dX9_readRule_35 (K_2.2.1 7 (by decide)) (vp_in_nI (by decide) (by decide)) (rfl) (q := 36) rfl ?_
  rw [show (s.2.1 7) 6 = nI U.length from R.2.2.2.2.2.1]
  refine ay_iast (N := 91) (f := s.2.1 9) (j := 78 + rc) C dX9_readRule_36 (K_2.2.1 9 (by decide)) (vp_in_nI (by omega) (by decide)) (nI_clamp (by omega)) (q := 37) rfl ?_
  show aw G 4 M 37 [.ref o, .int (nI (78 + rc)), .retAddr 0, .retAddr 0] [] (ac_up h_1 (md 9) (.inl (1, 91, .inl (upd (s.2.1 9) (78 + rc) (nI U.length))))) 0 0
  obtain ⟨h_5, eh_5⟩ : ∃ z9, z9 = ac_up h_1 (md 9) (.inl (1, 91, .inl (upd (s.2.1 9) (78 + rc) (nI U.length)))) := ⟨_, rfl⟩
  rw [← eh_5]
  have kpx_8 : kp h_1 h_5 [md 9] := by rw [eh_5]; exact kp_up (kp_cons _ kp_rf) _ _ (by simp)
  have K_6 : md_ok h_5 o md (s.1, va_up (va_up s.2.1 10 (upd (s.2.1 10) (78 + rc) ((mz_c u n a) - 48))) 9 (upd (s.2.1 9) (78 + rc) (nI U.length)), s.2.2) := md_A (s := (s.1, va_up s.2.1 10 (upd (s.2.1 10) (78 + rc) ((mz_c u n a) - 48)), s.2.2)) hm K_2 (j := 9) (by decide) (by rw [eh_5]; exact ac_up_s _ _ _) kpx_8
  have kq_7 : kp h h_5 (md_L o md) := kp_in kq_3 kpx_8 (md_sj (by decide))
  have R1 : mz_rep (s.1, va_up (va_up s.2.1 10 (upd (s.2.1 10) (78 + rc) ((mz_c u n a) - 48))) 9 (upd (s.2.1 9) (78 + rc) (nI U.length)), s.2.2) u n (a, U, W, none) := R
  have FR : mz_fR s (s.1, va_up (va_up s.2.1 10 (upd (s.2.1 10) (78 + rc) ((mz_c u n a) - 48))) 9 (upd (s.2.1 9) (78 + rc) (nI U.length)), s.2.2) := mz_fR_9 (s1 := (s.1, va_up s.2.1 10 (upd (s.2.1 10) (78 + rc) (mz_c u n a - 48)), s.2.2)) (mz_fR_10 mz_fR_rf rc _) rc _
  have ea8 : (s.1, va_up (va_up s.2.1 10 (upd (s.2.1 10) (78 + rc) ((mz_c u n a) - 48))) 9 (upd (s.2.1 9) (78 + rc) (nI U.length)), s.2.2).2.1 8 = s.2.1 8 := rfl
  have ea9 : (s.1, va_up (va_up s.2.1 10 (upd (s.2.1 10) (78 + rc) ((mz_c u n a) - 48))) 9 (upd (s.2.1 9) (78 + rc) (nI U.length)), s.2.2).2.1 9 = upd (s.2.1 9) (78 + rc) (nI U.length) := rfl
  have ea10 : (s.1, va_up (va_up s.2.1 10 (upd (s.2.1 10) (78 + rc) ((mz_c u n a) - 48))) 9 (upd (s.2.1 9) (78 + rc) (nI U.length)), s.2.2).2.1 10 = upd (s.2.1 10) (78 + rc) (mz_c u n a - 48) := rfl
  obtain ⟨s1, es1⟩ : ∃ z, z = (s.1, va_up (va_up s.2.1 10 (upd (s.2.1 10) (78 + rc) ((mz_c u n a) - 48))) 9 (upd (s.2.1 9) (78 + rc) (nI U.length)), s.2.2) := ⟨_, rfl⟩
  rw [← es1] at K_6 R1 FR ea8 ea9 ea10
  refine aw_aload_n C dX9_readRule_37 rfl rfl (q := 38) rfl ?_
  refine cvX9_116_9 (As := []) (rest := []) C B dX9_readRule_38 K_6.1 (m_here G M.2.1 o md hm h_5 (d + 6) s1 K_6 a n R1.2.2.1 R1.1 (by omega) R1.2.1) rfl rfl (Nat.le_of_ble_eq_true rfl) (by omega) (by omega) (by omega) (q := 41) rfl (fun r9 h9 hr9 => ?_)
  obtain ⟨e9, er9⟩ := hr9
  subst er9; rw [e9]
  show aw G 4 M 41 [.ref o, .int (nI (78 + rc)), .retAddr 0, .retAddr 0] [.int (mo_here s1 a n)] h_5 0 0
  rw [mz_here R1]
  refine csX9_123 (As := [.int (mz_c u n a)]) (rest := []) C B dX9_readRule_41 (m_isDigit G M.2.1 h_5 (d + 6) (mz_c u n a)) rfl rfl (Nat.le_of_ble_eq_true rfl) (by omega) (by omega) (by omega) (q := 44) rfl (fun r9 h9 hr9 => ?_)
  obtain ⟨e9, er9⟩ := hr9
  subst er9; rw [e9]
  show aw G 4 M 44 [.ref o, .int (nI (78 + rc)), .retAddr 0, .retAddr 0] [.int (pb_b (¬ (mz_c u n a) < 48 ∧ ¬ 57 < (mz_c u n a)))] h_5 0 0
  refine aw_if_ne (t := 51) (q := 47) C dX9_readRule_44 (by decide) rfl (fun c_44 => ?_) (fun c_44 => absurd c_44 (by rw [pb_t ((mz_d10 ht).mp hd)]; decide))
  refine aw_aload_n C dX9_readRule_51 rfl rfl (q := 52) rfl ?_
  refine aw_dup C dX9_readRule_52 rfl (q := 53) rfl ?_
  refine gfX9_96_9 (v := .int (s1.1 3)) C dX9_readRule_53 K_6.1 rfl (q := 56) rfl ?_
  refine aw_iconst (v := 1) C dX9_readRule_56 (by decide) (q := 57) rfl ?_
  refine aw_iadd C dX9_readRule_57 (q := 58) rfl ?_
  rw [show (s1.1 3) + 1 = nI (a + 1) from by rw [R1.2.2.1]; exact nI_1 _]
  refine pfX9_96_9 C dX9_readRule_58 K_6.1 rfl rfl (Nat.le_of_ble_eq_true rfl) (q := 61) rfl ?_
  show aw G 4 M 61 [.ref o, .int (nI (78 + rc)), .retAddr 0, .retAddr 0] [] (ac_up h_5 o (.inr (9, md_fs md ((upd s1.1 3 (nI (a + 1)), s1.2.1, s1.2.2).1)))) 0 0
  obtain ⟨h_9, eh_9⟩ : ∃ z9, z9 = ac_up h_5 o (.inr (9, md_fs md ((upd s1.1 3 (nI (a + 1)), s1.2.1, s1.2.2).1))) := ⟨_, rfl⟩
  rw [← eh_9]
  have kpx_12 : kp h_5 h_9 [o] := by rw [eh_9]; exact kp_up (kp_cons o kp_rf) _ _ (by simp)
  have K_10 : md_ok h_9 o md (upd s1.1 3 (nI (a + 1)), s1.2.1, s1.2.2) := md_J (s := (s1.1, s1.2.1, s1.2.2)) K_6 (by rw [eh_9]; exact ac_up_s _ _ _) kpx_12
  have kq_11 : kp h h_9 (md_L o md) := kp_in kq_7 kpx_12 md_s0
  have R_14 : mz_rep (upd s1.1 3 (nI (a + 1)), s1.2.1, s1.2.2) u n (a + 1, U, W, none) := mz_at R1 _
  have F_15 : mz_fr s1 (upd s1.1 3 (nI (a + 1)), s1.2.1, s1.2.2) := mz_fr_at mz_fr_rf
  obtain ⟨s_13, es_13⟩ : ∃ z, z = (upd s1.1 3 (nI (a + 1)), s1.2.1, s1.2.2) := ⟨_, rfl⟩
  rw [← es_13] at K_10 R_14 F_15
  refine aw_aload_n C dX9_readRule_61 rfl rfl (q := 62) rfl ?_
  refine gfX9_99_9 (v := .int (s_13.1 4)) C dX9_readRule_62 K_10.1 rfl (q := 65) rfl ?_
  refine aw_if_ge (t := 81) (q := 68) C dX9_readRule_65 (by decide) rfl (fun c_65 => absurd c_65 (by rw [R_14.2.2.2.1]; show ¬ (0 : Int32) ≤ -1; decide)) (fun c_65 => ?_)
  refine aw_aload_n C dX9_readRule_68 rfl rfl (q := 69) rfl ?_
  refine cvX9_116_9 (As := []) (rest := []) C B dX9_readRule_69 K_10.1 (m_here G M.2.1 o md hm h_9 (d + 6) s_13 K_10 (a + 1) n R_14.2.2.1 R_14.1 (by omega) R_14.2.1) rfl rfl (Nat.le_of_ble_eq_true rfl) (by omega) (by omega) (by omega) (q := 72) rfl (fun r9 h9 hr9 => ?_)
  obtain ⟨e9, er9⟩ := hr9
  subst er9; rw [e9]
  show aw G 4 M 72 [.ref o, .int (nI (78 + rc)), .retAddr 0, .retAddr 0] [.int (mo_here s_13 (a + 1) n)] h_9 0 0
  rw [mz_here R_14]
  refine aw_bipush (v := 58) C dX9_readRule_72 (by decide) (q := 74) rfl ?_
  refine aw_icmp_eq (t := 81) (q := 77) C dX9_readRule_74 (by decide) rfl (fun c_74 => absurd c_74 (fun z => h58 ((mz_ec (by decide) (by decide)).mp z))) (fun c_74 => ?_)
  refine aw_aload_n C dX9_readRule_77 rfl rfl (q := 78) rfl ?_
  refine cvX9_120_9 (As := []) (rest := []) C B dX9_readRule_78 K_10.1 (p_fail G M.2.1 o md hm h_9 (d + 6) s_13 K_10 u n (a + 1) U W none R_14 (by omega)) rfl rfl (Nat.le_of_ble_eq_true rfl) (by omega) (by omega) (by omega) (q := 81) rfl (fun r9 h_16 hr9 => ?_)
  obtain ⟨s_17, er9, K_18, R_19, F_20, kpx_22⟩ := hr9
  subst er9
  have F_21 : mz_fr s1 s_17 := mz_fr_tr F_15 F_20
  have kq_23 : kp h h_16 (md_L o md) := kp_in kq_11 kpx_22 (fun _ z => z)
  show aw G 4 M 81 [.ref o, .int (nI (78 + rc)), .retAddr 0, .retAddr 0] [] h_16 0 0
  refine aw_aload_n C dX9_readRule_81 rfl rfl (q := 82) rfl ?_
  refine aw_dup C dX9_readRule_82 rfl (q := 83) rfl ?_
  refine gfX9_96_9 (v := .int (s_17.1 3)) C dX9_readRule_83 K_18.1 rfl (q := 86) rfl ?_
  refine aw_iconst (v := 1) C dX9_readRule_86 (by decide) (q := 87) rfl ?_
  refine aw_iadd C dX9_readRule_87 (q := 88) rfl ?_
  rw [show (s_17.1 3) + 1 = nI (a + 1 + 1) from by rw [R_19.2.2.1]; exact nI_1 _]
  refine pfX9_96_9 C dX9_readRule_88 K_18.1 rfl rfl (Nat.le_of_ble_eq_true rfl) (q := 91) rfl ?_
  show aw G 4 M 91 [.ref o, .int (nI (78 + rc)), .retAddr 0, .retAddr 0] [] (ac_up h_16 o (.inr (9, md_fs md ((upd s_17.1 3 (nI (a + 1 + 1)), s_17.2.1, s_17.2.2).1)))) 0 0
  obtain ⟨h_24, eh_24⟩ : ∃ z9, z9 = ac_up h_16 o (.inr (9, md_fs md ((upd s_17.1 3 (nI (a + 1 + 1)), s_17.2.1, s_17.2.2).1))) := ⟨_, rfl⟩
  rw [← eh_24]
  have kpx_27 : kp h_16 h_24 [o] := by rw [eh_24]; exact kp_up (kp_cons o kp_rf) _ _ (by simp)
  have K_25 : md_ok h_24 o md (upd s_17.1 3 (nI (a + 1 + 1)), s_17.2.1, s_17.2.2) := md_J (s := (s_17.1, s_17.2.1, s_17.2.2)) K_18 (by rw [eh_24]; exact ac_up_s _ _ _) kpx_27
  have kq_26 : kp h h_24 (md_L o md) := kp_in kq_23 kpx_27 md_s0
  have R_29 : mz_rep (upd s_17.1 3 (nI (a + 1 + 1)), s_17.2.1, s_17.2.2) u n (a + 1 + 1, U, W, some (a + 1)) := mz_at R_19 _
  have F_30 : mz_fr s1 (upd s_17.1 3 (nI (a + 1 + 1)), s_17.2.1, s_17.2.2) := mz_fr_at F_21
  obtain ⟨s_28, es_28⟩ : ∃ z, z = (upd s_17.1 3 (nI (a + 1 + 1)), s_17.2.1, s_17.2.2) := ⟨_, rfl⟩
  rw [← es_28] at K_25 R_29 F_30
  refine aw_iconst (v := 0) C dX9_readRule_91 (by decide) (q := 92) rfl ?_
  refine aw_istore_n (ls' := [.ref o, .int (nI (78 + rc)), .int 0, .retAddr 0]) C dX9_readRule_92 rfl (by decide) rfl (q := 93) rfl ?_
  refine aw_aload_n C dX9_readRule_93 rfl rfl (q := 94) rfl ?_
  refine cvX9_116_9 (As := []) (rest := []) C B dX9_readRule_94 K_25.1 (m_here G M.2.1 o md hm h_24 (d + 6) s_28 K_25 (a + 1 + 1) n R_29.2.2.1 R_29.1 (by omega) R_29.2.1) rfl rfl (Nat.le_of_ble_eq_true rfl) (by omega) (by omega) (by omega) (q := 97) rfl (fun r9 h9 hr9 => ?_)
  obtain ⟨e9, er9⟩ := hr9
  subst er9; rw [e9]
  show aw G 4 M 97 [.ref o, .int (nI (78 + rc)), .int 0, .retAddr 0] [.int (mo_here s_28 (a + 1 + 1) n)] h_24 0 0
  rw [mz_here R_29]
  refine aw_bipush (v := 59) C dX9_readRule_97 (by decide) (q := 99) rfl ?_
  refine aw_icmp_eq (t := 114) (q := 102) C dX9_readRule_99 (by decide) rfl (fun c_99 => ?_) (fun c_99 => ?_)
  ·
    refine aw_iconst (v := 0) C dX9_readRule_114 (by decide) (q := 115) rfl ?_
    refine aw_istore_n (ls' := [.ref o, .int (nI (78 + rc)), .int 0, .int 0]) C dX9_readRule_115 rfl (by decide) rfl (q := 116) rfl ?_
    refine aw_iload_n C dX9_readRule_116 rfl rfl (q := 117) rfl ?_
    refine aw_if_eq (t := 186) (q := 120) C dX9_readRule_117 (by decide) rfl (fun c_117 => ?_) (fun c_117 => absurd c_117 (by decide))
    exact ml_rend hm hrc (by rw [F_30.2.1 8 (by decide), ea8]; exact h8) C E K_25 R_29 kq_26 (mz_QRF_of FR F_30 R_29 rfl (by omega : a + 1 + 1 ≤ 330) hW)
  ·
    refine aw_aload_n C dX9_readRule_102 rfl rfl (q := 103) rfl ?_
    refine cvX9_116_9 (As := []) (rest := []) C B dX9_readRule_103 K_25.1 (m_here G M.2.1 o md hm h_24 (d + 6) s_28 K_25 (a + 1 + 1) n R_29.2.2.1 R_29.1 (by omega) R_29.2.1) rfl rfl (Nat.le_of_ble_eq_true rfl) (by omega) (by omega) (by omega) (q := 106) rfl (fun r9 h9 hr9 => ?_)
    obtain ⟨e9, er9⟩ := hr9
    subst er9; rw [e9]
    show aw G 4 M 106 [.ref o, .int (nI (78 + rc)), .int 0, .retAddr 0] [.int (mo_here s_28 (a + 1 + 1) n)] h_24 0 0
    rw [mz_here R_29]
    refine aw_iconst (v := (-1)) C dX9_readRule_106 (by decide) (q := 107) rfl ?_
    refine aw_icmp_eq (t := 114) (q := 110) C dX9_readRule_107 (by decide) rfl (fun c_107 => ?_) (fun c_107 => ?_)
    ·
      refine aw_iconst (v := 0) C dX9_readRule_114 (by decide) (q := 115) rfl ?_
      refine aw_istore_n (ls' := [.ref o, .int (nI (78 + rc)), .int 0, .int 0]) C dX9_readRule_115 rfl (by decide) rfl (q := 116) rfl ?_
      refine aw_iload_n C dX9_readRule_116 rfl rfl (q := 117) rfl ?_
      refine aw_if_eq (t := 186) (q := 120) C dX9_readRule_117 (by decide) rfl (fun c_117 => ?_) (fun c_117 => absurd c_117 (by decide))
      exact ml_rend hm hrc (by rw [F_30.2.1 8 (by decide), ea8]; exact h8) C E K_25 R_29 kq_26 (mz_QRF_of FR F_30 R_29 rfl (by omega : a + 1 + 1 ≤ 330) hW)
    ·
      refine aw_iconst (v := 1) C dX9_readRule_110 (by decide) (q := 111) rfl ?_
      refine aw_goto (q := 115) C dX9_readRule_111 (by decide) ?_
      refine aw_istore_n (ls' := [.ref o, .int (nI (78 + rc)), .int 0, .int 1]) C dX9_readRule_115 rfl (by decide) rfl (q := 116) rfl ?_
      refine aw_iload_n C dX9_readRule_116 rfl rfl (q := 117) rfl ?_
      refine aw_if_eq (t := 186) (q := 120) C dX9_readRule_117 (by decide) rfl (fun c_117 => absurd c_117 (by decide)) (fun c_117 => ?_)
      refine aw_aload_n C dX9_readRule_120 rfl rfl (q := 121) rfl ?_
      refine gfX9_99_9 (v := .int (s_28.1 4)) C dX9_readRule_121 K_25.1 rfl (q := 124) rfl ?_
      refine aw_if_ge (t := 186) (q := 127) C dX9_readRule_124 (by decide) rfl (fun c_124 => ?_) (fun c_124 => absurd c_124 (fun z => z (by rw [R_29.2.2.2.1]; exact nI_le (a := 0) (b := (a + 1)) (Nat.zero_le _) (by have := R_29.2.2.2.2.2.2.2.2.2 (a + 1) rfl; omega))))
      exact ml_rend hm hrc (by rw [F_30.2.1 8 (by decide), ea8]; exact h8) C E K_25 R_29 kq_26 (mz_QRF_of FR F_30 R_29 rfl (by omega : a + 1 + 1 ≤ 330) hW)
set_option maxHeartbeats 4000000 in
set_option maxRecDepth 100000 in
theorem p_ruleC (G : ac_G) (l : Launch) (o : Nat) (md : Nat → Nat) (hm : md_inj md) (h : ac_H) (d : Nat) (s : md_S) (K : md_ok h o md s) (u : Nat → Int32) (n a : Nat) (U W : pz_P) (R : mz_rep s u n (a, U, W, none)) (hn : n ≤ 300) (ht : mz_tx u n) (han : a ≤ n) (hU : U.length ≤ a) (hW : W.length ≤ 330) (rc : Nat) (hrc : rc ≤ 11) (h8 : s.2.1 8 6 = nI rc) (hd : cu_isd (cu_c u n a) 10) (hl : a + 1 < n) (h58 : cu_c u n (a + 1) = 58) (hE : a + 1 + 1 = n ∨ cu_c u n (a + 1 + 1) = 59) : ac_Met G l yX9_readRule cX9_readRule 4 none (d + 7) 0 0 [.ref o] h (mz_QR o md h s u n (a + 1 + 1) U U rc (mz_c u n a - 48)) := by
  refine ac_of (ls := [.ref o, .retAddr 0, .retAddr 0, .retAddr 0]) (by decide +kernel) rfl (Nat.le_of_ble_eq_true rfl) (fun M hl C B E hnm => ?_)
  refine aw_bipush (v := 78) C dX9_readRule_0 (by decide) (q := 2) rfl ?_
  refine aw_aload_n C dX9_readRule_2 rfl rfl (q := 3) rfl ?_
  refine gfX9_22_9 (v := .ref (md 8)) C dX9_readRule_3 K.1 rfl (q := 6) rfl ?_
  refine aw_bipush (v := 6) C dX9_readRule_6 (by decide) (q := 8) rfl ?_
  refine ay_iald (N := 7) (f := s.2.1 8) (j := 6) C dX9_readRule_8 (K.2.1 8 (by decide)) (vp_in_nI (by decide) (by decide)) (rfl) (q := 9) rfl ?_
  rw [h8]
  refine aw_iadd C dX9_readRule_9 (q := 10) rfl ?_
  rw [show (78 : Int32) + nI rc = nI (78 + rc) from by rw [show (78 : Int32) = nI 78 from rfl, nI_add]]
  refine aw_istore_n (ls' := [.ref o, .int (nI (78 + rc)), .retAddr 0, .retAddr 0]) C dX9_readRule_10 rfl (by decide) rfl (q := 11) rfl ?_
  refine aw_aload_n C dX9_readRule_11 rfl rfl (q := 12) rfl ?_
  refine gfX9_28_9 (v := .ref (md 10)) C dX9_readRule_12 K.1 rfl (q := 15) rfl ?_
  refine aw_iload_n C dX9_readRule_15 rfl rfl (q := 16) rfl ?_
  refine aw_aload_n C dX9_readRule_16 rfl rfl (q := 17) rfl ?_
  refine cvX9_116_9 (As := []) (rest := [.int (nI (78 + rc)), .ref (md 10)]) C B dX9_readRule_17 K.1 (m_here G M.2.1 o md hm h (d + 6) s K a n R.2.2.1 R.1 (by omega) R.2.1) rfl rfl (Nat.le_of_ble_eq_true rfl) (by omega) (by omega) (by omega) (q := 20) rfl (fun r9 h9 hr9 => ?_)
  obtain ⟨e9, er9⟩ := hr9
  subst er9; rw [e9]
  show aw G 4 M 20 [.ref o, .int (nI (78 + rc)), .retAddr 0, .retAddr 0] [.int (mo_here s a n), .int (nI (78 + rc)), .ref (md 10)] h 0 0
  rw [mz_here R]
  refine aw_bipush (v := 48) C dX9_readRule_20 (by decide) (q := 22) rfl ?_
  refine aw_isub C dX9_readRule_22 (q := 23) rfl ?_
  refine ay_iast (N := 91) (f := s.2.1 10) (j := 78 + rc) C dX9_readRule_23 (K.2.1 10 (by decide)) (vp_in_nI (by omega) (by decide)) (nI_clamp (by omega)) (q := 24) rfl ?_
  show aw G 4 M 24 [.ref o, .int (nI (78 + rc)), .retAddr 0, .retAddr 0] [] (ac_up h (md 10) (.inl (1, 91, .inl (upd (s.2.1 10) (78 + rc) ((mz_c u n a) - 48))))) 0 0
  obtain ⟨h_1, eh_1⟩ : ∃ z9, z9 = ac_up h (md 10) (.inl (1, 91, .inl (upd (s.2.1 10) (78 + rc) ((mz_c u n a) - 48)))) := ⟨_, rfl⟩
  rw [← eh_1]
  have kpx_4 : kp h h_1 [md 10] := by rw [eh_1]; exact kp_up (kp_cons _ kp_rf) _ _ (by simp)
  have K_2 : md_ok h_1 o md (s.1, va_up s.2.1 10 (upd (s.2.1 10) (78 + rc) ((mz_c u n a) - 48)), s.2.2) := md_A (s := (s.1, s.2.1, s.2.2)) hm K (j := 10) (by decide) (by rw [eh_1]; exact ac_up_s _ _ _) kpx_4
  have kq_3 : kp h h_1 (md_L o md) := kp_mono kpx_4 (md_sj (by decide))
  refine aw_aload_n C dX9_readRule_24 rfl rfl (q := 25) rfl ?_
  refine gfX9_25_9 (v := .ref (md 9)) C dX9_readRule_25 K_2.1 rfl (q := 28) rfl ?_
  refine aw_iload_n C dX9_readRule_28 rfl rfl (q := 29) rfl ?_
  refine aw_aload_n C dX9_readRule_29 rfl rfl (q := 30) rfl ?_
  refine gfX9_19_9 (v := .ref (md 7)) C dX9_readRule_30 K_2.1 rfl (q := 33) rfl ?_
  refine aw_bipush (v := 6) C dX9_readRule_33 (by decide) (q := 35) rfl ?_
  refine ay_iald (N := 7) (f := s.2.1 7) (j := 6) C dX9_readRule_35 (K_2.2.1 7 (by decide)) (vp_in_nI (by decide) (by decide)) (rfl) (q := 36) rfl ?_
  rw [show (s.2.1 7) 6 = nI U.length from R.2.2.2.2.2.1]
  refine ay_iast (N := 91) (f := s.2.1 9) (j := 78 + rc) C dX9_readRule_36 (K_2.2.1 9 (by decide)) (vp_in_nI (by omega) (by decide)) (nI_clamp (by omega)) (q := 37) rfl ?_
  show aw G 4 M 37 [.ref o, .int (nI (78 + rc)), .retAddr 0, .retAddr 0] [] (ac_up h_1 (md 9) (.inl (1, 91, .inl (upd (s.2.1 9) (78 + rc) (nI U.length))))) 0 0
  obtain ⟨h_5, eh_5⟩ : ∃ z9, z9 = ac_up h_1 (md 9) (.inl (1, 91, .inl (upd (s.2.1 9) (78 + rc) (nI U.length)))) := ⟨_, rfl⟩
  rw [← eh_5]
  have kpx_8 : kp h_1 h_5 [md 9] := by rw [eh_5]; exact kp_up (kp_cons _ kp_rf) _ _ (by simp)
  have K_6 : md_ok h_5 o md (s.1, va_up (va_up s.2.1 10 (upd (s.2.1 10) (78 + rc) ((mz_c u n a) - 48))) 9 (upd (s.2.1 9) (78 + rc) (nI U.length)), s.2.2) := md_A (s := (s.1, va_up s.2.1 10 (upd (s.2.1 10) (78 + rc) ((mz_c u n a) - 48)), s.2.2)) hm K_2 (j := 9) (by decide) (by rw [eh_5]; exact ac_up_s _ _ _) kpx_8
  have kq_7 : kp h h_5 (md_L o md) := kp_in kq_3 kpx_8 (md_sj (by decide))
  have R1 : mz_rep (s.1, va_up (va_up s.2.1 10 (upd (s.2.1 10) (78 + rc) ((mz_c u n a) - 48))) 9 (upd (s.2.1 9) (78 + rc) (nI U.length)), s.2.2) u n (a, U, W, none) := R
  have FR : mz_fR s (s.1, va_up (va_up s.2.1 10 (upd (s.2.1 10) (78 + rc) ((mz_c u n a) - 48))) 9 (upd (s.2.1 9) (78 + rc) (nI U.length)), s.2.2) := mz_fR_9 (s1 := (s.1, va_up s.2.1 10 (upd (s.2.1 10) (78 + rc) (mz_c u n a - 48)), s.2.2)) (mz_fR_10 mz_fR_rf rc _) rc _
  have ea8 : (s.1, va_up (va_up s.2.1 10 (upd (s.2.1 10) (78 + rc) ((mz_c u n a) - 48))) 9 (upd (s.2.1 9) (78 + rc) (nI U.length)), s.2.2).2.1 8 = s.2.1 8 := rfl
  have ea9 : (s.1, va_up (va_up s.2.1 10 (upd (s.2.1 10) (78 + rc) ((mz_c u n a) - 48))) 9 (upd (s.2.1 9) (78 + rc) (nI U.length)), s.2.2).2.1 9 = upd (s.2.1 9) (78 + rc) (nI U.length) := rfl
  have ea10 : (s.1, va_up (va_up s.2.1 10 (upd (s.2.1 10) (78 + rc) ((mz_c u n a) - 48))) 9 (upd (s.2.1 9) (78 + rc) (nI U.length)), s.2.2).2.1 10 = upd (s.2.1 10) (78 + rc) (mz_c u n a - 48) := rfl
  obtain ⟨s1, es1⟩ : ∃ z, z = (s.1, va_up (va_up s.2.1 10 (upd (s.2.1 10) (78 + rc) ((mz_c u n a) - 48))) 9 (upd (s.2.1 9) (78 + rc) (nI U.length)), s.2.2) := ⟨_, rfl⟩
  rw [← es1] at K_6 R1 FR ea8 ea9 ea10
  refine aw_aload_n C dX9_readRule_37 rfl rfl (q := 38) rfl ?_
  refine cvX9_116_9 (As := []) (rest := []) C B dX9_readRule_38 K_6.1 (m_here G M.2.1 o md hm h_5 (d + 6) s1 K_6 a n R1.2.2.1 R1.1 (by omega) R1.2.1) rfl rfl (Nat.le_of_ble_eq_true rfl) (by omega) (by omega) (by omega) (q := 41) rfl (fun r9 h9 hr9 => ?_)
  obtain ⟨e9, er9⟩ := hr9
  subst er9; rw [e9]
  show aw G 4 M 41 [.ref o, .int (nI (78 + rc)), .retAddr 0, .retAddr 0] [.int (mo_here s1 a n)] h_5 0 0
  rw [mz_here R1]
  refine csX9_123 (As := [.int (mz_c u n a)]) (rest := []) C B dX9_readRule_41 (m_isDigit G M.2.1 h_5 (d + 6) (mz_c u n a)) rfl rfl (Nat.le_of_ble_eq_true rfl) (by omega) (by omega) (by omega) (q := 44) rfl (fun r9 h9 hr9 => ?_)
  obtain ⟨e9, er9⟩ := hr9
  subst er9; rw [e9]
  show aw G 4 M 44 [.ref o, .int (nI (78 + rc)), .retAddr 0, .retAddr 0] [.int (pb_b (¬ (mz_c u n a) < 48 ∧ ¬ 57 < (mz_c u n a)))] h_5 0 0
  refine aw_if_ne (t := 51) (q := 47) C dX9_readRule_44 (by decide) rfl (fun c_44 => ?_) (fun c_44 => absurd c_44 (by rw [pb_t ((mz_d10 ht).mp hd)]; decide))
  refine aw_aload_n C dX9_readRule_51 rfl rfl (q := 52) rfl ?_
  refine aw_dup C dX9_readRule_52 rfl (q := 53) rfl ?_
  refine gfX9_96_9 (v := .int (s1.1 3)) C dX9_readRule_53 K_6.1 rfl (q := 56) rfl ?_
  refine aw_iconst (v := 1) C dX9_readRule_56 (by decide) (q := 57) rfl ?_
  refine aw_iadd C dX9_readRule_57 (q := 58) rfl ?_
  rw [show (s1.1 3) + 1 = nI (a + 1) from by rw [R1.2.2.1]; exact nI_1 _]
  refine pfX9_96_9 C dX9_readRule_58 K_6.1 rfl rfl (Nat.le_of_ble_eq_true rfl) (q := 61) rfl ?_
  show aw G 4 M 61 [.ref o, .int (nI (78 + rc)), .retAddr 0, .retAddr 0] [] (ac_up h_5 o (.inr (9, md_fs md ((upd s1.1 3 (nI (a + 1)), s1.2.1, s1.2.2).1)))) 0 0
  obtain ⟨h_9, eh_9⟩ : ∃ z9, z9 = ac_up h_5 o (.inr (9, md_fs md ((upd s1.1 3 (nI (a + 1)), s1.2.1, s1.2.2).1))) := ⟨_, rfl⟩
  rw [← eh_9]
  have kpx_12 : kp h_5 h_9 [o] := by rw [eh_9]; exact kp_up (kp_cons o kp_rf) _ _ (by simp)
  have K_10 : md_ok h_9 o md (upd s1.1 3 (nI (a + 1)), s1.2.1, s1.2.2) := md_J (s := (s1.1, s1.2.1, s1.2.2)) K_6 (by rw [eh_9]; exact ac_up_s _ _ _) kpx_12
  have kq_11 : kp h h_9 (md_L o md) := kp_in kq_7 kpx_12 md_s0
  have R_14 : mz_rep (upd s1.1 3 (nI (a + 1)), s1.2.1, s1.2.2) u n (a + 1, U, W, none) := mz_at R1 _
  have F_15 : mz_fr s1 (upd s1.1 3 (nI (a + 1)), s1.2.1, s1.2.2) := mz_fr_at mz_fr_rf
  obtain ⟨s_13, es_13⟩ : ∃ z, z = (upd s1.1 3 (nI (a + 1)), s1.2.1, s1.2.2) := ⟨_, rfl⟩
  rw [← es_13] at K_10 R_14 F_15
  refine aw_aload_n C dX9_readRule_61 rfl rfl (q := 62) rfl ?_
  refine gfX9_99_9 (v := .int (s_13.1 4)) C dX9_readRule_62 K_10.1 rfl (q := 65) rfl ?_
  refine aw_if_ge (t := 81) (q := 68) C dX9_readRule_65 (by decide) rfl (fun c_65 => absurd c_65 (by rw [R_14.2.2.2.1]; show ¬ (0 : Int32) ≤ -1; decide)) (fun c_65 => ?_)
  refine aw_aload_n C dX9_readRule_68 rfl rfl (q := 69) rfl ?_
  refine cvX9_116_9 (As := []) (rest := []) C B dX9_readRule_69 K_10.1 (m_here G M.2.1 o md hm h_9 (d + 6) s_13 K_10 (a + 1) n R_14.2.2.1 R_14.1 (by omega) R_14.2.1) rfl rfl (Nat.le_of_ble_eq_true rfl) (by omega) (by omega) (by omega) (q := 72) rfl (fun r9 h9 hr9 => ?_)
  obtain ⟨e9, er9⟩ := hr9
  subst er9; rw [e9]
  show aw G 4 M 72 [.ref o, .int (nI (78 + rc)), .retAddr 0, .retAddr 0] [.int (mo_here s_13 (a + 1) n)] h_9 0 0
  rw [mz_here R_14]
  refine aw_bipush (v := 58) C dX9_readRule_72 (by decide) (q := 74) rfl ?_
  refine aw_icmp_eq (t := 81) (q := 77) C dX9_readRule_74 (by decide) rfl (fun c_74 => ?_) (fun c_74 => absurd c_74 (fun z => z ((mz_ec (by decide) (by decide)).mpr h58)))
  refine aw_aload_n C dX9_readRule_81 rfl rfl (q := 82) rfl ?_
  refine aw_dup C dX9_readRule_82 rfl (q := 83) rfl ?_
  refine gfX9_96_9 (v := .int (s_13.1 3)) C dX9_readRule_83 K_10.1 rfl (q := 86) rfl ?_
  refine aw_iconst (v := 1) C dX9_readRule_86 (by decide) (q := 87) rfl ?_
  refine aw_iadd C dX9_readRule_87 (q := 88) rfl ?_
  rw [show (s_13.1 3) + 1 = nI (a + 1 + 1) from by rw [R_14.2.2.1]; exact nI_1 _]
  refine pfX9_96_9 C dX9_readRule_88 K_10.1 rfl rfl (Nat.le_of_ble_eq_true rfl) (q := 91) rfl ?_
  show aw G 4 M 91 [.ref o, .int (nI (78 + rc)), .retAddr 0, .retAddr 0] [] (ac_up h_9 o (.inr (9, md_fs md ((upd s_13.1 3 (nI (a + 1 + 1)), s_13.2.1, s_13.2.2).1)))) 0 0
  obtain ⟨h_16, eh_16⟩ : ∃ z9, z9 = ac_up h_9 o (.inr (9, md_fs md ((upd s_13.1 3 (nI (a + 1 + 1)), s_13.2.1, s_13.2.2).1))) := ⟨_, rfl⟩
  rw [← eh_16]
  have kpx_19 : kp h_9 h_16 [o] := by rw [eh_16]; exact kp_up (kp_cons o kp_rf) _ _ (by simp)
  have K_17 : md_ok h_16 o md (upd s_13.1 3 (nI (a + 1 + 1)), s_13.2.1, s_13.2.2) := md_J (s := (s_13.1, s_13.2.1, s_13.2.2)) K_10 (by rw [eh_16]; exact ac_up_s _ _ _) kpx_19
  have kq_18 : kp h h_16 (md_L o md) := kp_in kq_11 kpx_19 md_s0
  have R_21 : mz_rep (upd s_13.1 3 (nI (a + 1 + 1)), s_13.2.1, s_13.2.2) u n (a + 1 + 1, U, W, none) := mz_at R_14 _
  have F_22 : mz_fr s1 (upd s_13.1 3 (nI (a + 1 + 1)), s_13.2.1, s_13.2.2) := mz_fr_at F_15
  obtain ⟨s_20, es_20⟩ : ∃ z, z = (upd s_13.1 3 (nI (a + 1 + 1)), s_13.2.1, s_13.2.2) := ⟨_, rfl⟩
  rw [← es_20] at K_17 R_21 F_22
  refine aw_iconst (v := 0) C dX9_readRule_91 (by decide) (q := 92) rfl ?_
  refine aw_istore_n (ls' := [.ref o, .int (nI (78 + rc)), .int 0, .retAddr 0]) C dX9_readRule_92 rfl (by decide) rfl (q := 93) rfl ?_
  refine aw_aload_n C dX9_readRule_93 rfl rfl (q := 94) rfl ?_
  refine cvX9_116_9 (As := []) (rest := []) C B dX9_readRule_94 K_17.1 (m_here G M.2.1 o md hm h_16 (d + 6) s_20 K_17 (a + 1 + 1) n R_21.2.2.1 R_21.1 (by omega) R_21.2.1) rfl rfl (Nat.le_of_ble_eq_true rfl) (by omega) (by omega) (by omega) (q := 97) rfl (fun r9 h9 hr9 => ?_)
  obtain ⟨e9, er9⟩ := hr9
  subst er9; rw [e9]
  show aw G 4 M 97 [.ref o, .int (nI (78 + rc)), .int 0, .retAddr 0] [.int (mo_here s_20 (a + 1 + 1) n)] h_16 0 0
  rw [mz_here R_21]
  refine aw_bipush (v := 59) C dX9_readRule_97 (by decide) (q := 99) rfl ?_
  refine aw_icmp_eq (t := 114) (q := 102) C dX9_readRule_99 (by decide) rfl (fun c_99 => ?_) (fun c_99 => ?_)
  ·
    refine aw_iconst (v := 0) C dX9_readRule_114 (by decide) (q := 115) rfl ?_
    refine aw_istore_n (ls' := [.ref o, .int (nI (78 + rc)), .int 0, .int 0]) C dX9_readRule_115 rfl (by decide) rfl (q := 116) rfl ?_
    refine aw_iload_n C dX9_readRule_116 rfl rfl (q := 117) rfl ?_
    refine aw_if_eq (t := 186) (q := 120) C dX9_readRule_117 (by decide) rfl (fun c_117 => ?_) (fun c_117 => absurd c_117 (by decide))
    exact ml_rend hm hrc (by rw [F_22.2.1 8 (by decide), ea8]; exact h8) C E K_17 R_21 kq_18 (mz_QR_of FR ea8 ea9 ea10 F_22 R_21 hW)
  ·
    refine aw_aload_n C dX9_readRule_102 rfl rfl (q := 103) rfl ?_
    refine cvX9_116_9 (As := []) (rest := []) C B dX9_readRule_103 K_17.1 (m_here G M.2.1 o md hm h_16 (d + 6) s_20 K_17 (a + 1 + 1) n R_21.2.2.1 R_21.1 (by omega) R_21.2.1) rfl rfl (Nat.le_of_ble_eq_true rfl) (by omega) (by omega) (by omega) (q := 106) rfl (fun r9 h9 hr9 => ?_)
    obtain ⟨e9, er9⟩ := hr9
    subst er9; rw [e9]
    show aw G 4 M 106 [.ref o, .int (nI (78 + rc)), .int 0, .retAddr 0] [.int (mo_here s_20 (a + 1 + 1) n)] h_16 0 0
    rw [mz_here R_21]
    refine aw_iconst (v := (-1)) C dX9_readRule_106 (by decide) (q := 107) rfl ?_
    refine aw_icmp_eq (t := 114) (q := 110) C dX9_readRule_107 (by decide) rfl (fun c_107 => ?_) (fun c_107 => absurd c_107 (fun z => z (if_neg (by have := hE.resolve_right (fun q => c_99 ((mz_ec (by decide) (by decide)).mpr q)); omega))))
    refine aw_iconst (v := 0) C dX9_readRule_114 (by decide) (q := 115) rfl ?_
    refine aw_istore_n (ls' := [.ref o, .int (nI (78 + rc)), .int 0, .int 0]) C dX9_readRule_115 rfl (by decide) rfl (q := 116) rfl ?_
    refine aw_iload_n C dX9_readRule_116 rfl rfl (q := 117) rfl ?_
    refine aw_if_eq (t := 186) (q := 120) C dX9_readRule_117 (by decide) rfl (fun c_117 => ?_) (fun c_117 => absurd c_117 (by decide))
    exact ml_rend hm hrc (by rw [F_22.2.1 8 (by decide), ea8]; exact h8) C E K_17 R_21 kq_18 (mz_QR_of FR ea8 ea9 ea10 F_22 R_21 hW)
set_option maxHeartbeats 4000000 in
set_option maxRecDepth 100000 in
theorem p_ruleD1 (G : ac_G) (l : Launch) (o : Nat) (md : Nat → Nat) (hm : md_inj md) (h : ac_H) (d : Nat) (s : md_S) (K : md_ok h o md s) (u : Nat → Int32) (n a : Nat) (U W : pz_P) (R : mz_rep s u n (a, U, W, none)) (hn : n ≤ 300) (ht : mz_tx u n) (han : a ≤ n) (hU : U.length ≤ a) (hW : W.length ≤ 330) (rc : Nat) (hrc : rc ≤ 11) (h8 : s.2.1 8 6 = nI rc) (hd : cu_isd (cu_c u n a) 10) (hl : a + 1 < n) (h58 : cu_c u n (a + 1) = 58) (hE : ¬ (a + 1 + 1 = n ∨ cu_c u n (a + 1 + 1) = 59)) (hk : (pz_conds u n 6 (a + 1 + 1)).1 = true) : ac_Met G l yX9_readRule cX9_readRule 4 none (d + 7) 0 0 [.ref o] h (mz_QR o md h s u n (pz_conds u n 6 (a + 1 + 1)).2.1 U (List.reverseAux ((pz_conds u n 6 (a + 1 + 1)).2.2.map pz_m) U) rc (mz_c u n a - 48)) := by
  refine ac_of (ls := [.ref o, .retAddr 0, .retAddr 0, .retAddr 0]) (by decide +kernel) rfl (Nat.le_of_ble_eq_true rfl) (fun M hl C B E hnm => ?_)
  refine aw_bipush (v := 78) C dX9_readRule_0 (by decide) (q := 2) rfl ?_
  refine aw_aload_n C dX9_readRule_2 rfl rfl (q := 3) rfl ?_
  refine gfX9_22_9 (v := .ref (md 8)) C dX9_readRule_3 K.1 rfl (q := 6) rfl ?_
  refine aw_bipush (v := 6) C dX9_readRule_6 (by decide) (q := 8) rfl ?_
  refine ay_iald (N := 7) (f := s.2.1 8) (j := 6) C dX9_readRule_8 (K.2.1 8 (by decide)) (vp_in_nI (by decide) (by decide)) (rfl) (q := 9) rfl ?_
  rw [h8]
  refine aw_iadd C dX9_readRule_9 (q := 10) rfl ?_
  rw [show (78 : Int32) + nI rc = nI (78 + rc) from by rw [show (78 : Int32) = nI 78 from rfl, nI_add]]
  refine aw_istore_n (ls' := [.ref o, .int (nI (78 + rc)), .retAddr 0, .retAddr 0]) C dX9_readRule_10 rfl (by decide) rfl (q := 11) rfl ?_
  refine aw_aload_n C dX9_readRule_11 rfl rfl (q := 12) rfl ?_
  refine gfX9_28_9 (v := .ref (md 10)) C dX9_readRule_12 K.1 rfl (q := 15) rfl ?_
  refine aw_iload_n C dX9_readRule_15 rfl rfl (q := 16) rfl ?_
  refine aw_aload_n C dX9_readRule_16 rfl rfl (q := 17) rfl ?_
  refine cvX9_116_9 (As := []) (rest := [.int (nI (78 + rc)), .ref (md 10)]) C B dX9_readRule_17 K.1 (m_here G M.2.1 o md hm h (d + 6) s K a n R.2.2.1 R.1 (by omega) R.2.1) rfl rfl (Nat.le_of_ble_eq_true rfl) (by omega) (by omega) (by omega) (q := 20) rfl (fun r9 h9 hr9 => ?_)
  obtain ⟨e9, er9⟩ := hr9
  subst er9; rw [e9]
  show aw G 4 M 20 [.ref o, .int (nI (78 + rc)), .retAddr 0, .retAddr 0] [.int (mo_here s a n), .int (nI (78 + rc)), .ref (md 10)] h 0 0
  rw [mz_here R]
  refine aw_bipush (v := 48) C dX9_readRule_20 (by decide) (q := 22) rfl ?_
  refine aw_isub C dX9_readRule_22 (q := 23) rfl ?_
  refine ay_iast (N := 91) (f := s.2.1 10) (j := 78 + rc) C dX9_readRule_23 (K.2.1 10 (by decide)) (vp_in_nI (by omega) (by decide)) (nI_clamp (by omega)) (q := 24) rfl ?_
  show aw G 4 M 24 [.ref o, .int (nI (78 + rc)), .retAddr 0, .retAddr 0] [] (ac_up h (md 10) (.inl (1, 91, .inl (upd (s.2.1 10) (78 + rc) ((mz_c u n a) - 48))))) 0 0
  obtain ⟨h_1, eh_1⟩ : ∃ z9, z9 = ac_up h (md 10) (.inl (1, 91, .inl (upd (s.2.1 10) (78 + rc) ((mz_c u n a) - 48)))) := ⟨_, rfl⟩
  rw [← eh_1]
  have kpx_4 : kp h h_1 [md 10] := by rw [eh_1]; exact kp_up (kp_cons _ kp_rf) _ _ (by simp)
  have K_2 : md_ok h_1 o md (s.1, va_up s.2.1 10 (upd (s.2.1 10) (78 + rc) ((mz_c u n a) - 48)), s.2.2) := md_A (s := (s.1, s.2.1, s.2.2)) hm K (j := 10) (by decide) (by rw [eh_1]; exact ac_up_s _ _ _) kpx_4
  have kq_3 : kp h h_1 (md_L o md) := kp_mono kpx_4 (md_sj (by decide))
  refine aw_aload_n C dX9_readRule_24 rfl rfl (q := 25) rfl ?_
  refine gfX9_25_9 (v := .ref (md 9)) C dX9_readRule_25 K_2.1 rfl (q := 28) rfl ?_
  refine aw_iload_n C dX9_readRule_28 rfl rfl (q := 29) rfl ?_
  refine aw_aload_n C dX9_readRule_29 rfl rfl (q := 30) rfl ?_
  refine gfX9_19_9 (v := .ref (md 7)) C dX9_readRule_30 K_2.1 rfl (q := 33) rfl ?_
  refine aw_bipush (v := 6) C dX9_readRule_33 (by decide) (q := 35) rfl ?_
  refine ay_iald (N := 7) (f := s.2.1 7) (j := 6) C dX9_readRule_35 (K_2.2.1 7 (by decide)) (vp_in_nI (by decide) (by decide)) (rfl) (q := 36) rfl ?_
  rw [show (s.2.1 7) 6 = nI U.length from R.2.2.2.2.2.1]
  refine ay_iast (N := 91) (f := s.2.1 9) (j := 78 + rc) C dX9_readRule_36 (K_2.2.1 9 (by decide)) (vp_in_nI (by omega) (by decide)) (nI_clamp (by omega)) (q := 37) rfl ?_
  show aw G 4 M 37 [.ref o, .int (nI (78 + rc)), .retAddr 0, .retAddr 0] [] (ac_up h_1 (md 9) (.inl (1, 91, .inl (upd (s.2.1 9) (78 + rc) (nI U.length))))) 0 0
  obtain ⟨h_5, eh_5⟩ : ∃ z9, z9 = ac_up h_1 (md 9) (.inl (1, 91, .inl (upd (s.2.1 9) (78 + rc) (nI U.length)))) := ⟨_, rfl⟩
  rw [← eh_5]
  have kpx_8 : kp h_1 h_5 [md 9] := by rw [eh_5]; exact kp_up (kp_cons _ kp_rf) _ _ (by simp)
  have K_6 : md_ok h_5 o md (s.1, va_up (va_up s.2.1 10 (upd (s.2.1 10) (78 + rc) ((mz_c u n a) - 48))) 9 (upd (s.2.1 9) (78 + rc) (nI U.length)), s.2.2) := md_A (s := (s.1, va_up s.2.1 10 (upd (s.2.1 10) (78 + rc) ((mz_c u n a) - 48)), s.2.2)) hm K_2 (j := 9) (by decide) (by rw [eh_5]; exact ac_up_s _ _ _) kpx_8
  have kq_7 : kp h h_5 (md_L o md) := kp_in kq_3 kpx_8 (md_sj (by decide))
  have R1 : mz_rep (s.1, va_up (va_up s.2.1 10 (upd (s.2.1 10) (78 + rc) ((mz_c u n a) - 48))) 9 (upd (s.2.1 9) (78 + rc) (nI U.length)), s.2.2) u n (a, U, W, none) := R
  have FR : mz_fR s (s.1, va_up (va_up s.2.1 10 (upd (s.2.1 10) (78 + rc) ((mz_c u n a) - 48))) 9 (upd (s.2.1 9) (78 + rc) (nI U.length)), s.2.2) := mz_fR_9 (s1 := (s.1, va_up s.2.1 10 (upd (s.2.1 10) (78 + rc) (mz_c u n a - 48)), s.2.2)) (mz_fR_10 mz_fR_rf rc _) rc _
  have ea8 : (s.1, va_up (va_up s.2.1 10 (upd (s.2.1 10) (78 + rc) ((mz_c u n a) - 48))) 9 (upd (s.2.1 9) (78 + rc) (nI U.length)), s.2.2).2.1 8 = s.2.1 8 := rfl
  have ea9 : (s.1, va_up (va_up s.2.1 10 (upd (s.2.1 10) (78 + rc) ((mz_c u n a) - 48))) 9 (upd (s.2.1 9) (78 + rc) (nI U.length)), s.2.2).2.1 9 = upd (s.2.1 9) (78 + rc) (nI U.length) := rfl
  have ea10 : (s.1, va_up (va_up s.2.1 10 (upd (s.2.1 10) (78 + rc) ((mz_c u n a) - 48))) 9 (upd (s.2.1 9) (78 + rc) (nI U.length)), s.2.2).2.1 10 = upd (s.2.1 10) (78 + rc) (mz_c u n a - 48) := rfl
  obtain ⟨s1, es1⟩ : ∃ z, z = (s.1, va_up (va_up s.2.1 10 (upd (s.2.1 10) (78 + rc) ((mz_c u n a) - 48))) 9 (upd (s.2.1 9) (78 + rc) (nI U.length)), s.2.2) := ⟨_, rfl⟩
  rw [← es1] at K_6 R1 FR ea8 ea9 ea10
  refine aw_aload_n C dX9_readRule_37 rfl rfl (q := 38) rfl ?_
  refine cvX9_116_9 (As := []) (rest := []) C B dX9_readRule_38 K_6.1 (m_here G M.2.1 o md hm h_5 (d + 6) s1 K_6 a n R1.2.2.1 R1.1 (by omega) R1.2.1) rfl rfl (Nat.le_of_ble_eq_true rfl) (by omega) (by omega) (by omega) (q := 41) rfl (fun r9 h9 hr9 => ?_)
  obtain ⟨e9, er9⟩ := hr9
  subst er9; rw [e9]
  show aw G 4 M 41 [.ref o, .int (nI (78 + rc)), .retAddr 0, .retAddr 0] [.int (mo_here s1 a n)] h_5 0 0
  rw [mz_here R1]
  refine csX9_123 (As := [.int (mz_c u n a)]) (rest := []) C B dX9_readRule_41 (m_isDigit G M.2.1 h_5 (d + 6) (mz_c u n a)) rfl rfl (Nat.le_of_ble_eq_true rfl) (by omega) (by omega) (by omega) (q := 44) rfl (fun r9 h9 hr9 => ?_)
  obtain ⟨e9, er9⟩ := hr9
  subst er9; rw [e9]
  show aw G 4 M 44 [.ref o, .int (nI (78 + rc)), .retAddr 0, .retAddr 0] [.int (pb_b (¬ (mz_c u n a) < 48 ∧ ¬ 57 < (mz_c u n a)))] h_5 0 0
  refine aw_if_ne (t := 51) (q := 47) C dX9_readRule_44 (by decide) rfl (fun c_44 => ?_) (fun c_44 => absurd c_44 (by rw [pb_t ((mz_d10 ht).mp hd)]; decide))
  refine aw_aload_n C dX9_readRule_51 rfl rfl (q := 52) rfl ?_
  refine aw_dup C dX9_readRule_52 rfl (q := 53) rfl ?_
  refine gfX9_96_9 (v := .int (s1.1 3)) C dX9_readRule_53 K_6.1 rfl (q := 56) rfl ?_
  refine aw_iconst (v := 1) C dX9_readRule_56 (by decide) (q := 57) rfl ?_
  refine aw_iadd C dX9_readRule_57 (q := 58) rfl ?_
  rw [show (s1.1 3) + 1 = nI (a + 1) from by rw [R1.2.2.1]; exact nI_1 _]
  refine pfX9_96_9 C dX9_readRule_58 K_6.1 rfl rfl (Nat.le_of_ble_eq_true rfl) (q := 61) rfl ?_
  show aw G 4 M 61 [.ref o, .int (nI (78 + rc)), .retAddr 0, .retAddr 0] [] (ac_up h_5 o (.inr (9, md_fs md ((upd s1.1 3 (nI (a + 1)), s1.2.1, s1.2.2).1)))) 0 0
  obtain ⟨h_9, eh_9⟩ : ∃ z9, z9 = ac_up h_5 o (.inr (9, md_fs md ((upd s1.1 3 (nI (a + 1)), s1.2.1, s1.2.2).1))) := ⟨_, rfl⟩
  rw [← eh_9]
  have kpx_12 : kp h_5 h_9 [o] := by rw [eh_9]; exact kp_up (kp_cons o kp_rf) _ _ (by simp)
  have K_10 : md_ok h_9 o md (upd s1.1 3 (nI (a + 1)), s1.2.1, s1.2.2) := md_J (s := (s1.1, s1.2.1, s1.2.2)) K_6 (by rw [eh_9]; exact ac_up_s _ _ _) kpx_12
  have kq_11 : kp h h_9 (md_L o md) := kp_in kq_7 kpx_12 md_s0
  have R_14 : mz_rep (upd s1.1 3 (nI (a + 1)), s1.2.1, s1.2.2) u n (a + 1, U, W, none) := mz_at R1 _
  have F_15 : mz_fr s1 (upd s1.1 3 (nI (a + 1)), s1.2.1, s1.2.2) := mz_fr_at mz_fr_rf
  obtain ⟨s_13, es_13⟩ : ∃ z, z = (upd s1.1 3 (nI (a + 1)), s1.2.1, s1.2.2) := ⟨_, rfl⟩
  rw [← es_13] at K_10 R_14 F_15
  refine aw_aload_n C dX9_readRule_61 rfl rfl (q := 62) rfl ?_
  refine gfX9_99_9 (v := .int (s_13.1 4)) C dX9_readRule_62 K_10.1 rfl (q := 65) rfl ?_
  refine aw_if_ge (t := 81) (q := 68) C dX9_readRule_65 (by decide) rfl (fun c_65 => absurd c_65 (by rw [R_14.2.2.2.1]; show ¬ (0 : Int32) ≤ -1; decide)) (fun c_65 => ?_)
  refine aw_aload_n C dX9_readRule_68 rfl rfl (q := 69) rfl ?_
  refine cvX9_116_9 (As := []) (rest := []) C B dX9_readRule_69 K_10.1 (m_here G M.2.1 o md hm h_9 (d + 6) s_13 K_10 (a + 1) n R_14.2.2.1 R_14.1 (by omega) R_14.2.1) rfl rfl (Nat.le_of_ble_eq_true rfl) (by omega) (by omega) (by omega) (q := 72) rfl (fun r9 h9 hr9 => ?_)
  obtain ⟨e9, er9⟩ := hr9
  subst er9; rw [e9]
  show aw G 4 M 72 [.ref o, .int (nI (78 + rc)), .retAddr 0, .retAddr 0] [.int (mo_here s_13 (a + 1) n)] h_9 0 0
  rw [mz_here R_14]
  refine aw_bipush (v := 58) C dX9_readRule_72 (by decide) (q := 74) rfl ?_
  refine aw_icmp_eq (t := 81) (q := 77) C dX9_readRule_74 (by decide) rfl (fun c_74 => ?_) (fun c_74 => absurd c_74 (fun z => z ((mz_ec (by decide) (by decide)).mpr h58)))
  refine aw_aload_n C dX9_readRule_81 rfl rfl (q := 82) rfl ?_
  refine aw_dup C dX9_readRule_82 rfl (q := 83) rfl ?_
  refine gfX9_96_9 (v := .int (s_13.1 3)) C dX9_readRule_83 K_10.1 rfl (q := 86) rfl ?_
  refine aw_iconst (v := 1) C dX9_readRule_86 (by decide) (q := 87) rfl ?_
  refine aw_iadd C dX9_readRule_87 (q := 88) rfl ?_
  rw [show (s_13.1 3) + 1 = nI (a + 1 + 1) from by rw [R_14.2.2.1]; exact nI_1 _]
  refine pfX9_96_9 C dX9_readRule_88 K_10.1 rfl rfl (Nat.le_of_ble_eq_true rfl) (q := 91) rfl ?_
  show aw G 4 M 91 [.ref o, .int (nI (78 + rc)), .retAddr 0, .retAddr 0] [] (ac_up h_9 o (.inr (9, md_fs md ((upd s_13.1 3 (nI (a + 1 + 1)), s_13.2.1, s_13.2.2).1)))) 0 0
  obtain ⟨h_16, eh_16⟩ : ∃ z9, z9 = ac_up h_9 o (.inr (9, md_fs md ((upd s_13.1 3 (nI (a + 1 + 1)), s_13.2.1, s_13.2.2).1))) := ⟨_, rfl⟩
  rw [← eh_16]
  have kpx_19 : kp h_9 h_16 [o] := by rw [eh_16]; exact kp_up (kp_cons o kp_rf) _ _ (by simp)
  have K_17 : md_ok h_16 o md (upd s_13.1 3 (nI (a + 1 + 1)), s_13.2.1, s_13.2.2) := md_J (s := (s_13.1, s_13.2.1, s_13.2.2)) K_10 (by rw [eh_16]; exact ac_up_s _ _ _) kpx_19
  have kq_18 : kp h h_16 (md_L o md) := kp_in kq_11 kpx_19 md_s0
  have R_21 : mz_rep (upd s_13.1 3 (nI (a + 1 + 1)), s_13.2.1, s_13.2.2) u n (a + 1 + 1, U, W, none) := mz_at R_14 _
  have F_22 : mz_fr s1 (upd s_13.1 3 (nI (a + 1 + 1)), s_13.2.1, s_13.2.2) := mz_fr_at F_15
  obtain ⟨s_20, es_20⟩ : ∃ z, z = (upd s_13.1 3 (nI (a + 1 + 1)), s_13.2.1, s_13.2.2) := ⟨_, rfl⟩
  rw [← es_20] at K_17 R_21 F_22
  refine aw_iconst (v := 0) C dX9_readRule_91 (by decide) (q := 92) rfl ?_
  refine aw_istore_n (ls' := [.ref o, .int (nI (78 + rc)), .int 0, .retAddr 0]) C dX9_readRule_92 rfl (by decide) rfl (q := 93) rfl ?_
  refine aw_aload_n C dX9_readRule_93 rfl rfl (q := 94) rfl ?_
  refine cvX9_116_9 (As := []) (rest := []) C B dX9_readRule_94 K_17.1 (m_here G M.2.1 o md hm h_16 (d + 6) s_20 K_17 (a + 1 + 1) n R_21.2.2.1 R_21.1 (by omega) R_21.2.1) rfl rfl (Nat.le_of_ble_eq_true rfl) (by omega) (by omega) (by omega) (q := 97) rfl (fun r9 h9 hr9 => ?_)
  obtain ⟨e9, er9⟩ := hr9
  subst er9; rw [e9]
  show aw G 4 M 97 [.ref o, .int (nI (78 + rc)), .int 0, .retAddr 0] [.int (mo_here s_20 (a + 1 + 1) n)] h_16 0 0
  rw [mz_here R_21]
  refine aw_bipush (v := 59) C dX9_readRule_97 (by decide) (q := 99) rfl ?_
  refine aw_icmp_eq (t := 114) (q := 102) C dX9_readRule_99 (by decide) rfl (fun c_99 => absurd c_99 (fun z => hE (Or.inr ((mz_ec (by decide) (by decide)).mp z)))) (fun c_99 => ?_)
  refine aw_aload_n C dX9_readRule_102 rfl rfl (q := 103) rfl ?_
  refine cvX9_116_9 (As := []) (rest := []) C B dX9_readRule_103 K_17.1 (m_here G M.2.1 o md hm h_16 (d + 6) s_20 K_17 (a + 1 + 1) n R_21.2.2.1 R_21.1 (by omega) R_21.2.1) rfl rfl (Nat.le_of_ble_eq_true rfl) (by omega) (by omega) (by omega) (q := 106) rfl (fun r9 h9 hr9 => ?_)
  obtain ⟨e9, er9⟩ := hr9
  subst er9; rw [e9]
  show aw G 4 M 106 [.ref o, .int (nI (78 + rc)), .int 0, .retAddr 0] [.int (mo_here s_20 (a + 1 + 1) n)] h_16 0 0
  rw [mz_here R_21]
  refine aw_iconst (v := (-1)) C dX9_readRule_106 (by decide) (q := 107) rfl ?_
  refine aw_icmp_eq (t := 114) (q := 110) C dX9_readRule_107 (by decide) rfl (fun c_107 => absurd c_107 (mz_nn ht (by have : ¬ a + 1 + 1 = n := fun z => hE (Or.inl z); omega))) (fun c_107 => ?_)
  refine aw_iconst (v := 1) C dX9_readRule_110 (by decide) (q := 111) rfl ?_
  refine aw_goto (q := 115) C dX9_readRule_111 (by decide) ?_
  refine aw_istore_n (ls' := [.ref o, .int (nI (78 + rc)), .int 0, .int 1]) C dX9_readRule_115 rfl (by decide) rfl (q := 116) rfl ?_
  exact ml_conds hm hn ht C B 6 0 (a + 1 + 1) U W h_16 s_20 rfl (by decide) (by omega) (by omega) K_17 R_21 F_22 kq_18 (fun hok h2 s2 v2 v3 K2 R2 F2 q2 => ml_rend hm hrc (by rw [F2.2.1 8 (by decide), ea8]; exact h8) C E K2 R2 q2 (mz_QR_of FR ea8 ea9 ea10 F2 R2 (by decide))) (fun hno => absurd (hk.symm.trans hno) (by decide))
set_option maxHeartbeats 4000000 in
set_option maxRecDepth 100000 in
theorem p_ruleD0 (G : ac_G) (l : Launch) (o : Nat) (md : Nat → Nat) (hm : md_inj md) (h : ac_H) (d : Nat) (s : md_S) (K : md_ok h o md s) (u : Nat → Int32) (n a : Nat) (U W : pz_P) (R : mz_rep s u n (a, U, W, none)) (hn : n ≤ 300) (ht : mz_tx u n) (han : a ≤ n) (hU : U.length ≤ a) (hW : W.length ≤ 330) (rc : Nat) (hrc : rc ≤ 11) (h8 : s.2.1 8 6 = nI rc) (hd : cu_isd (cu_c u n a) 10) (hl : a + 1 < n) (h58 : cu_c u n (a + 1) = 58) (hE : ¬ (a + 1 + 1 = n ∨ cu_c u n (a + 1 + 1) = 59)) (hk : (pz_conds u n 6 (a + 1 + 1)).1 = false) : ac_Met G l yX9_readRule cX9_readRule 4 none (d + 7) 0 0 [.ref o] h (mz_QRF o md h s u n (pz_conds u n 6 (a + 1 + 1)).2.1) := by
  refine ac_of (ls := [.ref o, .retAddr 0, .retAddr 0, .retAddr 0]) (by decide +kernel) rfl (Nat.le_of_ble_eq_true rfl) (fun M hl C B E hnm => ?_)
  refine aw_bipush (v := 78) C dX9_readRule_0 (by decide) (q := 2) rfl ?_
  refine aw_aload_n C dX9_readRule_2 rfl rfl (q := 3) rfl ?_
  refine gfX9_22_9 (v := .ref (md 8)) C dX9_readRule_3 K.1 rfl (q := 6) rfl ?_
  refine aw_bipush (v := 6) C dX9_readRule_6 (by decide) (q := 8) rfl ?_
  refine ay_iald (N := 7) (f := s.2.1 8) (j := 6) C dX9_readRule_8 (K.2.1 8 (by decide)) (vp_in_nI (by decide) (by decide)) (rfl) (q := 9) rfl ?_
  rw [h8]
  refine aw_iadd C dX9_readRule_9 (q := 10) rfl ?_
  rw [show (78 : Int32) + nI rc = nI (78 + rc) from by rw [show (78 : Int32) = nI 78 from rfl, nI_add]]
  refine aw_istore_n (ls' := [.ref o, .int (nI (78 + rc)), .retAddr 0, .retAddr 0]) C dX9_readRule_10 rfl (by decide) rfl (q := 11) rfl ?_
  refine aw_aload_n C dX9_readRule_11 rfl rfl (q := 12) rfl ?_
  refine gfX9_28_9 (v := .ref (md 10)) C dX9_readRule_12 K.1 rfl (q := 15) rfl ?_
  refine aw_iload_n C dX9_readRule_15 rfl rfl (q := 16) rfl ?_
  refine aw_aload_n C dX9_readRule_16 rfl rfl (q := 17) rfl ?_
  refine cvX9_116_9 (As := []) (rest := [.int (nI (78 + rc)), .ref (md 10)]) C B dX9_readRule_17 K.1 (m_here G M.2.1 o md hm h (d + 6) s K a n R.2.2.1 R.1 (by omega) R.2.1) rfl rfl (Nat.le_of_ble_eq_true rfl) (by omega) (by omega) (by omega) (q := 20) rfl (fun r9 h9 hr9 => ?_)
  obtain ⟨e9, er9⟩ := hr9
  subst er9; rw [e9]
  show aw G 4 M 20 [.ref o, .int (nI (78 + rc)), .retAddr 0, .retAddr 0] [.int (mo_here s a n), .int (nI (78 + rc)), .ref (md 10)] h 0 0
  rw [mz_here R]
  refine aw_bipush (v := 48) C dX9_readRule_20 (by decide) (q := 22) rfl ?_
  refine aw_isub C dX9_readRule_22 (q := 23) rfl ?_
  refine ay_iast (N := 91) (f := s.2.1 10) (j := 78 + rc) C dX9_readRule_23 (K.2.1 10 (by decide)) (vp_in_nI (by omega) (by decide)) (nI_clamp (by omega)) (q := 24) rfl ?_
  show aw G 4 M 24 [.ref o, .int (nI (78 + rc)), .retAddr 0, .retAddr 0] [] (ac_up h (md 10) (.inl (1, 91, .inl (upd (s.2.1 10) (78 + rc) ((mz_c u n a) - 48))))) 0 0
  obtain ⟨h_1, eh_1⟩ : ∃ z9, z9 = ac_up h (md 10) (.inl (1, 91, .inl (upd (s.2.1 10) (78 + rc) ((mz_c u n a) - 48)))) := ⟨_, rfl⟩
  rw [← eh_1]
  have kpx_4 : kp h h_1 [md 10] := by rw [eh_1]; exact kp_up (kp_cons _ kp_rf) _ _ (by simp)
  have K_2 : md_ok h_1 o md (s.1, va_up s.2.1 10 (upd (s.2.1 10) (78 + rc) ((mz_c u n a) - 48)), s.2.2) := md_A (s := (s.1, s.2.1, s.2.2)) hm K (j := 10) (by decide) (by rw [eh_1]; exact ac_up_s _ _ _) kpx_4
  have kq_3 : kp h h_1 (md_L o md) := kp_mono kpx_4 (md_sj (by decide))
  refine aw_aload_n C dX9_readRule_24 rfl rfl (q := 25) rfl ?_
  refine gfX9_25_9 (v := .ref (md 9)) C dX9_readRule_25 K_2.1 rfl (q := 28) rfl ?_
  refine aw_iload_n C dX9_readRule_28 rfl rfl (q := 29) rfl ?_
  refine aw_aload_n C dX9_readRule_29 rfl rfl (q := 30) rfl ?_
  refine gfX9_19_9 (v := .ref (md 7)) C dX9_readRule_30 K_2.1 rfl (q := 33) rfl ?_
  refine aw_bipush (v := 6) C dX9_readRule_33 (by decide) (q := 35) rfl ?_
  refine ay_iald (N := 7) (f := s.2.1 7) (j := 6) C dX9_readRule_35 (K_2.2.1 7 (by decide)) (vp_in_nI (by decide) (by decide)) (rfl) (q := 36) rfl ?_
  rw [show (s.2.1 7) 6 = nI U.length from R.2.2.2.2.2.1]
  refine ay_iast (N := 91) (f := s.2.1 9) (j := 78 + rc) C dX9_readRule_36 (K_2.2.1 9 (by decide)) (vp_in_nI (by omega) (by decide)) (nI_clamp (by omega)) (q := 37) rfl ?_
  show aw G 4 M 37 [.ref o, .int (nI (78 + rc)), .retAddr 0, .retAddr 0] [] (ac_up h_1 (md 9) (.inl (1, 91, .inl (upd (s.2.1 9) (78 + rc) (nI U.length))))) 0 0
  obtain ⟨h_5, eh_5⟩ : ∃ z9, z9 = ac_up h_1 (md 9) (.inl (1, 91, .inl (upd (s.2.1 9) (78 + rc) (nI U.length)))) := ⟨_, rfl⟩
  rw [← eh_5]
  have kpx_8 : kp h_1 h_5 [md 9] := by rw [eh_5]; exact kp_up (kp_cons _ kp_rf) _ _ (by simp)
  have K_6 : md_ok h_5 o md (s.1, va_up (va_up s.2.1 10 (upd (s.2.1 10) (78 + rc) ((mz_c u n a) - 48))) 9 (upd (s.2.1 9) (78 + rc) (nI U.length)), s.2.2) := md_A (s := (s.1, va_up s.2.1 10 (upd (s.2.1 10) (78 + rc) ((mz_c u n a) - 48)), s.2.2)) hm K_2 (j := 9) (by decide) (by rw [eh_5]; exact ac_up_s _ _ _) kpx_8
  have kq_7 : kp h h_5 (md_L o md) := kp_in kq_3 kpx_8 (md_sj (by decide))
  have R1 : mz_rep (s.1, va_up (va_up s.2.1 10 (upd (s.2.1 10) (78 + rc) ((mz_c u n a) - 48))) 9 (upd (s.2.1 9) (78 + rc) (nI U.length)), s.2.2) u n (a, U, W, none) := R
  have FR : mz_fR s (s.1, va_up (va_up s.2.1 10 (upd (s.2.1 10) (78 + rc) ((mz_c u n a) - 48))) 9 (upd (s.2.1 9) (78 + rc) (nI U.length)), s.2.2) := mz_fR_9 (s1 := (s.1, va_up s.2.1 10 (upd (s.2.1 10) (78 + rc) (mz_c u n a - 48)), s.2.2)) (mz_fR_10 mz_fR_rf rc _) rc _
  have ea8 : (s.1, va_up (va_up s.2.1 10 (upd (s.2.1 10) (78 + rc) ((mz_c u n a) - 48))) 9 (upd (s.2.1 9) (78 + rc) (nI U.length)), s.2.2).2.1 8 = s.2.1 8 := rfl
  have ea9 : (s.1, va_up (va_up s.2.1 10 (upd (s.2.1 10) (78 + rc) ((mz_c u n a) - 48))) 9 (upd (s.2.1 9) (78 + rc) (nI U.length)), s.2.2).2.1 9 = upd (s.2.1 9) (78 + rc) (nI U.length) := rfl
  have ea10 : (s.1, va_up (va_up s.2.1 10 (upd (s.2.1 10) (78 + rc) ((mz_c u n a) - 48))) 9 (upd (s.2.1 9) (78 + rc) (nI U.length)), s.2.2).2.1 10 = upd (s.2.1 10) (78 + rc) (mz_c u n a - 48) := rfl
  obtain ⟨s1, es1⟩ : ∃ z, z = (s.1, va_up (va_up s.2.1 10 (upd (s.2.1 10) (78 + rc) ((mz_c u n a) - 48))) 9 (upd (s.2.1 9) (78 + rc) (nI U.length)), s.2.2) := ⟨_, rfl⟩
  rw [← es1] at K_6 R1 FR ea8 ea9 ea10
  refine aw_aload_n C dX9_readRule_37 rfl rfl (q := 38) rfl ?_
  refine cvX9_116_9 (As := []) (rest := []) C B dX9_readRule_38 K_6.1 (m_here G M.2.1 o md hm h_5 (d + 6) s1 K_6 a n R1.2.2.1 R1.1 (by omega) R1.2.1) rfl rfl (Nat.le_of_ble_eq_true rfl) (by omega) (by omega) (by omega) (q := 41) rfl (fun r9 h9 hr9 => ?_)
  obtain ⟨e9, er9⟩ := hr9
  subst er9; rw [e9]
  show aw G 4 M 41 [.ref o, .int (nI (78 + rc)), .retAddr 0, .retAddr 0] [.int (mo_here s1 a n)] h_5 0 0
  rw [mz_here R1]
  refine csX9_123 (As := [.int (mz_c u n a)]) (rest := []) C B dX9_readRule_41 (m_isDigit G M.2.1 h_5 (d + 6) (mz_c u n a)) rfl rfl (Nat.le_of_ble_eq_true rfl) (by omega) (by omega) (by omega) (q := 44) rfl (fun r9 h9 hr9 => ?_)
  obtain ⟨e9, er9⟩ := hr9
  subst er9; rw [e9]
  show aw G 4 M 44 [.ref o, .int (nI (78 + rc)), .retAddr 0, .retAddr 0] [.int (pb_b (¬ (mz_c u n a) < 48 ∧ ¬ 57 < (mz_c u n a)))] h_5 0 0
  refine aw_if_ne (t := 51) (q := 47) C dX9_readRule_44 (by decide) rfl (fun c_44 => ?_) (fun c_44 => absurd c_44 (by rw [pb_t ((mz_d10 ht).mp hd)]; decide))
  refine aw_aload_n C dX9_readRule_51 rfl rfl (q := 52) rfl ?_
  refine aw_dup C dX9_readRule_52 rfl (q := 53) rfl ?_
  refine gfX9_96_9 (v := .int (s1.1 3)) C dX9_readRule_53 K_6.1 rfl (q := 56) rfl ?_
  refine aw_iconst (v := 1) C dX9_readRule_56 (by decide) (q := 57) rfl ?_
  refine aw_iadd C dX9_readRule_57 (q := 58) rfl ?_
  rw [show (s1.1 3) + 1 = nI (a + 1) from by rw [R1.2.2.1]; exact nI_1 _]
  refine pfX9_96_9 C dX9_readRule_58 K_6.1 rfl rfl (Nat.le_of_ble_eq_true rfl) (q := 61) rfl ?_
  show aw G 4 M 61 [.ref o, .int (nI (78 + rc)), .retAddr 0, .retAddr 0] [] (ac_up h_5 o (.inr (9, md_fs md ((upd s1.1 3 (nI (a + 1)), s1.2.1, s1.2.2).1)))) 0 0
  obtain ⟨h_9, eh_9⟩ : ∃ z9, z9 = ac_up h_5 o (.inr (9, md_fs md ((upd s1.1 3 (nI (a + 1)), s1.2.1, s1.2.2).1))) := ⟨_, rfl⟩
  rw [← eh_9]
  have kpx_12 : kp h_5 h_9 [o] := by rw [eh_9]; exact kp_up (kp_cons o kp_rf) _ _ (by simp)
  have K_10 : md_ok h_9 o md (upd s1.1 3 (nI (a + 1)), s1.2.1, s1.2.2) := md_J (s := (s1.1, s1.2.1, s1.2.2)) K_6 (by rw [eh_9]; exact ac_up_s _ _ _) kpx_12
  have kq_11 : kp h h_9 (md_L o md) := kp_in kq_7 kpx_12 md_s0
  have R_14 : mz_rep (upd s1.1 3 (nI (a + 1)), s1.2.1, s1.2.2) u n (a + 1, U, W, none) := mz_at R1 _
  have F_15 : mz_fr s1 (upd s1.1 3 (nI (a + 1)), s1.2.1, s1.2.2) := mz_fr_at mz_fr_rf
  obtain ⟨s_13, es_13⟩ : ∃ z, z = (upd s1.1 3 (nI (a + 1)), s1.2.1, s1.2.2) := ⟨_, rfl⟩
  rw [← es_13] at K_10 R_14 F_15
  refine aw_aload_n C dX9_readRule_61 rfl rfl (q := 62) rfl ?_
  refine gfX9_99_9 (v := .int (s_13.1 4)) C dX9_readRule_62 K_10.1 rfl (q := 65) rfl ?_
  refine aw_if_ge (t := 81) (q := 68) C dX9_readRule_65 (by decide) rfl (fun c_65 => absurd c_65 (by rw [R_14.2.2.2.1]; show ¬ (0 : Int32) ≤ -1; decide)) (fun c_65 => ?_)
  refine aw_aload_n C dX9_readRule_68 rfl rfl (q := 69) rfl ?_
  refine cvX9_116_9 (As := []) (rest := []) C B dX9_readRule_69 K_10.1 (m_here G M.2.1 o md hm h_9 (d + 6) s_13 K_10 (a + 1) n R_14.2.2.1 R_14.1 (by omega) R_14.2.1) rfl rfl (Nat.le_of_ble_eq_true rfl) (by omega) (by omega) (by omega) (q := 72) rfl (fun r9 h9 hr9 => ?_)
  obtain ⟨e9, er9⟩ := hr9
  subst er9; rw [e9]
  show aw G 4 M 72 [.ref o, .int (nI (78 + rc)), .retAddr 0, .retAddr 0] [.int (mo_here s_13 (a + 1) n)] h_9 0 0
  rw [mz_here R_14]
  refine aw_bipush (v := 58) C dX9_readRule_72 (by decide) (q := 74) rfl ?_
  refine aw_icmp_eq (t := 81) (q := 77) C dX9_readRule_74 (by decide) rfl (fun c_74 => ?_) (fun c_74 => absurd c_74 (fun z => z ((mz_ec (by decide) (by decide)).mpr h58)))
  refine aw_aload_n C dX9_readRule_81 rfl rfl (q := 82) rfl ?_
  refine aw_dup C dX9_readRule_82 rfl (q := 83) rfl ?_
  refine gfX9_96_9 (v := .int (s_13.1 3)) C dX9_readRule_83 K_10.1 rfl (q := 86) rfl ?_
  refine aw_iconst (v := 1) C dX9_readRule_86 (by decide) (q := 87) rfl ?_
  refine aw_iadd C dX9_readRule_87 (q := 88) rfl ?_
  rw [show (s_13.1 3) + 1 = nI (a + 1 + 1) from by rw [R_14.2.2.1]; exact nI_1 _]
  refine pfX9_96_9 C dX9_readRule_88 K_10.1 rfl rfl (Nat.le_of_ble_eq_true rfl) (q := 91) rfl ?_
  show aw G 4 M 91 [.ref o, .int (nI (78 + rc)), .retAddr 0, .retAddr 0] [] (ac_up h_9 o (.inr (9, md_fs md ((upd s_13.1 3 (nI (a + 1 + 1)), s_13.2.1, s_13.2.2).1)))) 0 0
  obtain ⟨h_16, eh_16⟩ : ∃ z9, z9 = ac_up h_9 o (.inr (9, md_fs md ((upd s_13.1 3 (nI (a + 1 + 1)), s_13.2.1, s_13.2.2).1))) := ⟨_, rfl⟩
  rw [← eh_16]
  have kpx_19 : kp h_9 h_16 [o] := by rw [eh_16]; exact kp_up (kp_cons o kp_rf) _ _ (by simp)
  have K_17 : md_ok h_16 o md (upd s_13.1 3 (nI (a + 1 + 1)), s_13.2.1, s_13.2.2) := md_J (s := (s_13.1, s_13.2.1, s_13.2.2)) K_10 (by rw [eh_16]; exact ac_up_s _ _ _) kpx_19
  have kq_18 : kp h h_16 (md_L o md) := kp_in kq_11 kpx_19 md_s0
  have R_21 : mz_rep (upd s_13.1 3 (nI (a + 1 + 1)), s_13.2.1, s_13.2.2) u n (a + 1 + 1, U, W, none) := mz_at R_14 _
  have F_22 : mz_fr s1 (upd s_13.1 3 (nI (a + 1 + 1)), s_13.2.1, s_13.2.2) := mz_fr_at F_15
  obtain ⟨s_20, es_20⟩ : ∃ z, z = (upd s_13.1 3 (nI (a + 1 + 1)), s_13.2.1, s_13.2.2) := ⟨_, rfl⟩
  rw [← es_20] at K_17 R_21 F_22
  refine aw_iconst (v := 0) C dX9_readRule_91 (by decide) (q := 92) rfl ?_
  refine aw_istore_n (ls' := [.ref o, .int (nI (78 + rc)), .int 0, .retAddr 0]) C dX9_readRule_92 rfl (by decide) rfl (q := 93) rfl ?_
  refine aw_aload_n C dX9_readRule_93 rfl rfl (q := 94) rfl ?_
  refine cvX9_116_9 (As := []) (rest := []) C B dX9_readRule_94 K_17.1 (m_here G M.2.1 o md hm h_16 (d + 6) s_20 K_17 (a + 1 + 1) n R_21.2.2.1 R_21.1 (by omega) R_21.2.1) rfl rfl (Nat.le_of_ble_eq_true rfl) (by omega) (by omega) (by omega) (q := 97) rfl (fun r9 h9 hr9 => ?_)
  obtain ⟨e9, er9⟩ := hr9
  subst er9; rw [e9]
  show aw G 4 M 97 [.ref o, .int (nI (78 + rc)), .int 0, .retAddr 0] [.int (mo_here s_20 (a + 1 + 1) n)] h_16 0 0
  rw [mz_here R_21]
  refine aw_bipush (v := 59) C dX9_readRule_97 (by decide) (q := 99) rfl ?_
  refine aw_icmp_eq (t := 114) (q := 102) C dX9_readRule_99 (by decide) rfl (fun c_99 => absurd c_99 (fun z => hE (Or.inr ((mz_ec (by decide) (by decide)).mp z)))) (fun c_99 => ?_)
  refine aw_aload_n C dX9_readRule_102 rfl rfl (q := 103) rfl ?_
  refine cvX9_116_9 (As := []) (rest := []) C B dX9_readRule_103 K_17.1 (m_here G M.2.1 o md hm h_16 (d + 6) s_20 K_17 (a + 1 + 1) n R_21.2.2.1 R_21.1 (by omega) R_21.2.1) rfl rfl (Nat.le_of_ble_eq_true rfl) (by omega) (by omega) (by omega) (q := 106) rfl (fun r9 h9 hr9 => ?_)
  obtain ⟨e9, er9⟩ := hr9
  subst er9; rw [e9]
  show aw G 4 M 106 [.ref o, .int (nI (78 + rc)), .int 0, .retAddr 0] [.int (mo_here s_20 (a + 1 + 1) n)] h_16 0 0
  rw [mz_here R_21]
  refine aw_iconst (v := (-1)) C dX9_readRule_106 (by decide) (q := 107) rfl ?_
  refine aw_icmp_eq (t := 114) (q := 110) C dX9_readRule_107 (by decide) rfl (fun c_107 => absurd c_107 (mz_nn ht (by have : ¬ a + 1 + 1 = n := fun z => hE (Or.inl z); omega))) (fun c_107 => ?_)
  refine aw_iconst (v := 1) C dX9_readRule_110 (by decide) (q := 111) rfl ?_
  refine aw_goto (q := 115) C dX9_readRule_111 (by decide) ?_
  refine aw_istore_n (ls' := [.ref o, .int (nI (78 + rc)), .int 0, .int 1]) C dX9_readRule_115 rfl (by decide) rfl (q := 116) rfl ?_
  exact ml_conds hm hn ht C B 6 0 (a + 1 + 1) U W h_16 s_20 rfl (by decide) (by omega) (by omega) K_17 R_21 F_22 kq_18 (fun hok => absurd (hk.symm.trans hok) (by decide)) (fun hno h2 s2 c v2 v3 K2 R2 ef b1 b2 F2 q2 => ml_rend hm hrc (by rw [F2.2.1 8 (by decide), ea8]; exact h8) C E K2 R2 q2 (mz_QRF_of FR F2 R2 ef b1 (by omega)))
theorem p_rule (G : ac_G) (l : Launch) (o : Nat) (md : Nat → Nat) (hm : md_inj md) (h : ac_H) (d : Nat) (s : md_S) (K : md_ok h o md s) (u : Nat → Int32) (n a : Nat) (U W : pz_P) (R : mz_rep s u n (a, U, W, none)) (hn : n ≤ 300) (ht : mz_tx u n) (han : a ≤ n) (hU : U.length ≤ a) (hW : W.length ≤ 330) (rc : Nat) (hrc : rc ≤ 11) (h8 : s.2.1 8 6 = nI rc) : ((pz_rule u n a).1 = true → ac_Met G l yX9_readRule cX9_readRule 4 none (d + 7) 0 0 [.ref o] h (mz_QR o md h s u n (pz_rule u n a).2.1 U (List.reverseAux ((pz_rule u n a).2.2.map pz_m) U) rc (mz_c u n a - 48))) ∧ ((pz_rule u n a).1 = false → ac_Met G l yX9_readRule cX9_readRule 4 none (d + 7) 0 0 [.ref o] h (mz_QRF o md h s u n (pz_rule u n a).2.1)) := by
  unfold pz_rule
  by_cases hd : cu_isd (cu_c u n a) 10
  · rw [if_pos hd]
    have hl : a < n := by
      by_cases z : a < n
      · exact z
      · rw [show cu_c u n a = 0 from if_neg z] at hd; exact absurd hd (by decide)
    by_cases h58 : cu_c u n (a + 1) = 58
    · rw [if_pos h58]
      have hl2 := mz_lt h58 (by decide)
      by_cases hE : a + 1 + 1 = n ∨ cu_c u n (a + 1 + 1) = 59
      · rw [if_pos hE]
        exact ⟨fun _ => p_ruleC G l o md hm h d s K u n a U W R hn ht han hU hW rc hrc h8 hd hl2 h58 hE, fun z => (by cases z)⟩
      · rw [if_neg hE]
        exact ⟨fun hk => p_ruleD1 G l o md hm h d s K u n a U W R hn ht han hU hW rc hrc h8 hd hl2 h58 hE hk, fun hk => p_ruleD0 G l o md hm h d s K u n a U W R hn ht han hU hW rc hrc h8 hd hl2 h58 hE hk⟩
    · rw [if_neg h58]
      exact ⟨fun z => (by cases z), fun _ => p_ruleB G l o md hm h d s K u n a U W R hn ht han hU hW rc hrc h8 hd hl h58⟩
  · rw [if_neg hd]
    exact ⟨fun z => (by cases z), fun _ => p_ruleA G l o md hm h d s K u n a U W R hn ht han hU hW rc hrc h8 hd⟩
theorem pz_conds_good {u : Nat → Int32} {n : Nat} (hn : n ≤ 300) : ∀ (m a : Nat), a ≤ n → ¬ m = 0 → pz_good n a (pz_conds u n m a) := by
  intro m
  induction m with
  | zero => intro a _ h; exact absurd rfl h
  | succ m ih =>
    intro a ha _
    have g := pz_cond_good (u := u) hn ha
    unfold pz_conds
    by_cases h1 : (pz_cond u n a).1 = true
    · rw [if_pos h1]
      have g2 := g.2 h1
      by_cases h2 : cu_c u n (pz_cond u n a).2.1 = 44 ∧ ¬ m = 0
      · rw [if_pos h2]
        have hl := mz_lt h2.1 (by decide)
        have g3 := ih ((pz_cond u n a).2.1 + 1) (by omega) h2.2
        refine ⟨g3.1, fun z => ?_⟩
        have g4 := g3.2 z
        refine ⟨?_, (by omega : a < (pz_conds u n m ((pz_cond u n a).2.1 + 1)).2.1)⟩
        show ((pz_cond u n a).2.2 ++ (pz_conds u n m ((pz_cond u n a).2.1 + 1)).2.2).length + a ≤ (pz_conds u n m ((pz_cond u n a).2.1 + 1)).2.1
        rw [List.length_append]; omega
      · rw [if_neg h2]; exact ⟨g.1, fun _ => g2⟩
    · rw [if_neg h1]; exact ⟨g.1, fun z => by cases z⟩
theorem pz_rule_good {u : Nat → Int32} {n : Nat} (hn : n ≤ 300) (a : Nat) (ha : a ≤ n) : pz_good n a (pz_rule u n a) := by
  unfold pz_rule
  by_cases hd : cu_isd (cu_c u n a) 10
  · rw [if_pos hd]
    have hl : a < n := by
      by_cases z : a < n
      · exact z
      · rw [show cu_c u n a = 0 from if_neg z] at hd; exact absurd hd (by decide)
    by_cases h58 : cu_c u n (a + 1) = 58
    · rw [if_pos h58]
      have hl2 := mz_lt h58 (by decide)
      by_cases hE : a + 1 + 1 = n ∨ cu_c u n (a + 1 + 1) = 59
      · rw [if_pos hE]; exact ⟨(by omega : a + 1 + 1 ≤ n), fun _ => ⟨(by show 0 + a ≤ a + 1 + 1; omega), (by omega : a < a + 1 + 1)⟩⟩
      · rw [if_neg hE]
        have g := pz_conds_good (u := u) hn 6 (a + 1 + 1) (by omega) (by decide)
        refine ⟨g.1, fun z => ?_⟩
        have g4 := g.2 z
        exact ⟨by omega, by omega⟩
    · rw [if_neg h58]; exact ⟨(by omega : a + 1 ≤ n), fun z => by cases z⟩
  · rw [if_neg hd]; exact ⟨ha, fun z => by cases z⟩
