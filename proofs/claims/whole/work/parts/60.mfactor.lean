/-! The reference's reader: kind, readNumber, readLetter, readKind, readFactor -/
def mz_kf (u : Nat → Int32) (n a : Nat) (fl : Option Nat) : Option Nat := if mz_c u n (a + 1) < 48 ∨ 55 < mz_c u n (a + 1) then mz_fl (a + 1) fl else fl
abbrev mz_en (a : Nat) (U W : pz_P) (fl : Option Nat) : mz_C := (a, (mz_pp 9 11 W U).2, (mz_pp 9 11 W U).1, fl)
theorem mz_dig {u : Nat → Int32} {n a : Nat} (h : ¬ mz_c u n a < 48) : a < n ∧ mz_c u n a = cu_c u n a := by
  unfold mz_c at h ⊢
  unfold cu_c
  by_cases z : a < n
  · rw [if_pos z, if_pos z]; exact ⟨z, rfl⟩
  · rw [if_neg z] at h; exact absurd (by decide) h
theorem mz_ndig {u : Nat → Int32} {n a : Nat} (h : ¬ (¬ mz_c u n a < 48 ∧ ¬ 57 < mz_c u n a)) (m : Nat) (v : Int32) : cu_num u n (m + 1) a v = (v, a) := by
  unfold cu_num
  by_cases z : mz_c u n a < 48
  · by_cases y : a < n
    · have e : mz_c u n a = cu_c u n a := by unfold mz_c cu_c; rw [if_pos y, if_pos y]
      rw [if_pos (by rw [← e]; exact z)]
    · have e : cu_c u n a = 0 := by unfold cu_c; rw [if_neg y]
      rw [if_pos (by rw [e]; decide)]
  · have e := (mz_dig z).2
    have y : 57 < mz_c u n a := Classical.byContradiction fun q => h ⟨z, q⟩
    rw [if_neg (by rw [← e]; exact z), if_pos (by rw [← e]; exact y)]
theorem mz_ydig {u : Nat → Int32} {n a : Nat} (h : ¬ mz_c u n a < 48 ∧ ¬ 57 < mz_c u n a) (m : Nat) (v : Int32) : cu_num u n (m + 1) a v = cu_num u n m (a + 1) (v * 10 + (mz_c u n a - 48)) := by
  have e := (mz_dig h.1).2
  rw [e] at h
  rw [e]
  show (if cu_c u n a < 48 then _ else _) = _
  rw [if_neg h.1, if_neg h.2]
theorem mz_mul (v c : Int32) : 10 * v + c - 48 = v * 10 + (c - 48) := by
  rw [Int32.mul_comm, Int32.sub_eq_add_neg, Int32.sub_eq_add_neg, Int32.add_assoc]
set_option maxHeartbeats 4000000 in
set_option maxRecDepth 100000 in
theorem p_kind (G : ac_G) (l : Launch) (o : Nat) (md : Nat → Nat) (hm : md_inj md) (h : ac_H) (d : Nat) (s : md_S) (K : md_ok h o md s) (u : Nat → Int32) (n a : Nat) (U W : pz_P) (fl : Option Nat) (R : mz_rep s u n (a, U, W, fl)) (ha : a ≤ 800) : ac_Met G l yX9_kind cX9_kind 2 (some .int) (d + 1) 0 0 [.ref o] h (mz_Q o md h s u n (a + 1 + 1, U, W, mz_kf u n a fl) (some (.int (mz_c u n (a + 1) - 48)))) := by
  refine ac_of (ls := [.ref o, .retAddr 0]) (by decide +kernel) rfl (Nat.le_of_ble_eq_true rfl) (fun M hl C B E hnm => ?_)
  refine aw_aload_n C dX9_kind_0 rfl rfl (q := 1) rfl ?_
  refine aw_dup C dX9_kind_1 rfl (q := 2) rfl ?_
  refine gfX9_96_9 (v := .int (s.1 3)) C dX9_kind_2 K.1 rfl (q := 5) rfl ?_
  refine aw_iconst (v := 1) C dX9_kind_5 (by decide) (q := 6) rfl ?_
  refine aw_iadd C dX9_kind_6 (q := 7) rfl ?_
  rw [show (s.1 3) + 1 = nI (a + 1) from by rw [R.2.2.1]; exact nI_1 _]
  refine pfX9_96_9 C dX9_kind_7 K.1 rfl rfl (Nat.le_of_ble_eq_true rfl) (q := 10) rfl ?_
  show aw G 2 M 10 [.ref o, .retAddr 0] [] (ac_up h o (.inr (9, md_fs md ((upd s.1 3 (nI (a + 1)), s.2.1, s.2.2).1)))) 0 0
  obtain ⟨h_1, eh_1⟩ : ∃ z9, z9 = ac_up h o (.inr (9, md_fs md ((upd s.1 3 (nI (a + 1)), s.2.1, s.2.2).1))) := ⟨_, rfl⟩
  rw [← eh_1]
  have kpx_4 : kp h h_1 [o] := by rw [eh_1]; exact kp_up (kp_cons o kp_rf) _ _ (by simp)
  have K_2 : md_ok h_1 o md (upd s.1 3 (nI (a + 1)), s.2.1, s.2.2) := md_J (s := (s.1, s.2.1, s.2.2)) K (by rw [eh_1]; exact ac_up_s _ _ _) kpx_4
  have kq_3 : kp h h_1 (md_L o md) := kp_mono kpx_4 md_s0
  have R_6 : mz_rep (upd s.1 3 (nI (a + 1)), s.2.1, s.2.2) u n (a + 1, U, W, fl) := mz_at R _
  have F_7 : mz_fr s (upd s.1 3 (nI (a + 1)), s.2.1, s.2.2) := mz_fr_at mz_fr_rf
  obtain ⟨s_5, es_5⟩ : ∃ z, z = (upd s.1 3 (nI (a + 1)), s.2.1, s.2.2) := ⟨_, rfl⟩
  rw [← es_5] at K_2 R_6 F_7
  refine aw_aload_n C dX9_kind_10 rfl rfl (q := 11) rfl ?_
  refine cvX9_116_9 (As := []) (rest := []) C B dX9_kind_11 K_2.1 (m_here G M.2.1 o md hm h_1 d s_5 K_2 (a + 1) n R_6.2.2.1 R_6.1 (by omega) R_6.2.1) rfl rfl (Nat.le_of_ble_eq_true rfl) (by omega) (by omega) (by omega) (q := 14) rfl (fun r9 h9 hr9 => ?_)
  obtain ⟨e9, er9⟩ := hr9
  subst er9; rw [e9]
  show aw G 2 M 14 [.ref o, .retAddr 0] [.int (mo_here s_5 (a + 1) n)] h_1 0 0
  rw [mz_here R_6]
  refine aw_istore_n (ls' := [.ref o, .int (mz_c u n (a + 1))]) C dX9_kind_14 rfl (by decide) rfl (q := 15) rfl ?_
  refine aw_iload_n C dX9_kind_15 rfl rfl (q := 16) rfl ?_
  refine aw_bipush (v := 48) C dX9_kind_16 (by decide) (q := 18) rfl ?_
  refine aw_icmp_lt (t := 27) (q := 21) C dX9_kind_18 (by decide) rfl (fun c_18 => ?_) (fun c_18 => ?_)
  ·
    refine aw_aload_n C dX9_kind_27 rfl rfl (q := 28) rfl ?_
    refine cvX9_120_9 (As := []) (rest := []) C B dX9_kind_28 K_2.1 (p_fail G M.2.1 o md hm h_1 d s_5 K_2 u n (a + 1) U W fl R_6 (by omega)) rfl rfl (Nat.le_of_ble_eq_true rfl) (by omega) (by omega) (by omega) (q := 31) rfl (fun r9 h_8 hr9 => ?_)
    obtain ⟨s_9, er9, K_10, R_11, F_12, kpx_14⟩ := hr9
    subst er9
    have F_13 : mz_fr s s_9 := mz_fr_tr F_7 F_12
    have kq_15 : kp h h_8 (md_L o md) := kp_in kq_3 kpx_14 (fun _ z => z)
    show aw G 2 M 31 [.ref o, .int (mz_c u n (a + 1))] [] h_8 0 0
    refine aw_aload_n C dX9_kind_31 rfl rfl (q := 32) rfl ?_
    refine aw_dup C dX9_kind_32 rfl (q := 33) rfl ?_
    refine gfX9_96_9 (v := .int (s_9.1 3)) C dX9_kind_33 K_10.1 rfl (q := 36) rfl ?_
    refine aw_iconst (v := 1) C dX9_kind_36 (by decide) (q := 37) rfl ?_
    refine aw_iadd C dX9_kind_37 (q := 38) rfl ?_
    rw [show (s_9.1 3) + 1 = nI (a + 1 + 1) from by rw [R_11.2.2.1]; exact nI_1 _]
    refine pfX9_96_9 C dX9_kind_38 K_10.1 rfl rfl (Nat.le_of_ble_eq_true rfl) (q := 41) rfl ?_
    show aw G 2 M 41 [.ref o, .int (mz_c u n (a + 1))] [] (ac_up h_8 o (.inr (9, md_fs md ((upd s_9.1 3 (nI (a + 1 + 1)), s_9.2.1, s_9.2.2).1)))) 0 0
    obtain ⟨h_16, eh_16⟩ : ∃ z9, z9 = ac_up h_8 o (.inr (9, md_fs md ((upd s_9.1 3 (nI (a + 1 + 1)), s_9.2.1, s_9.2.2).1))) := ⟨_, rfl⟩
    rw [← eh_16]
    have kpx_19 : kp h_8 h_16 [o] := by rw [eh_16]; exact kp_up (kp_cons o kp_rf) _ _ (by simp)
    have K_17 : md_ok h_16 o md (upd s_9.1 3 (nI (a + 1 + 1)), s_9.2.1, s_9.2.2) := md_J (s := (s_9.1, s_9.2.1, s_9.2.2)) K_10 (by rw [eh_16]; exact ac_up_s _ _ _) kpx_19
    have kq_18 : kp h h_16 (md_L o md) := kp_in kq_15 kpx_19 md_s0
    have R_21 : mz_rep (upd s_9.1 3 (nI (a + 1 + 1)), s_9.2.1, s_9.2.2) u n (a + 1 + 1, U, W, mz_fl (a + 1) fl) := mz_at R_11 _
    have F_22 : mz_fr s (upd s_9.1 3 (nI (a + 1 + 1)), s_9.2.1, s_9.2.2) := mz_fr_at F_13
    obtain ⟨s_20, es_20⟩ : ∃ z, z = (upd s_9.1 3 (nI (a + 1 + 1)), s_9.2.1, s_9.2.2) := ⟨_, rfl⟩
    rw [← es_20] at K_17 R_21 F_22
    refine aw_iload_n C dX9_kind_41 rfl rfl (q := 42) rfl ?_
    refine aw_bipush (v := 48) C dX9_kind_42 (by decide) (q := 44) rfl ?_
    refine aw_isub C dX9_kind_44 (q := 45) rfl ?_
    refine aw_iret C E dX9_kind_45 (Nat.le_refl _) (Nat.le_refl _) ?_
    rw [show mz_kf u n a fl = mz_fl (a + 1) fl from by unfold mz_kf; rw [if_pos (Or.inl c_18)]]
    exact ⟨_, rfl, K_17, R_21, F_22, kq_18⟩
  ·
    refine aw_iload_n C dX9_kind_21 rfl rfl (q := 22) rfl ?_
    refine aw_bipush (v := 55) C dX9_kind_22 (by decide) (q := 24) rfl ?_
    refine aw_icmp_le (t := 31) (q := 27) C dX9_kind_24 (by decide) rfl (fun c_24 => ?_) (fun c_24 => ?_)
    ·
      refine aw_aload_n C dX9_kind_31 rfl rfl (q := 32) rfl ?_
      refine aw_dup C dX9_kind_32 rfl (q := 33) rfl ?_
      refine gfX9_96_9 (v := .int (s_5.1 3)) C dX9_kind_33 K_2.1 rfl (q := 36) rfl ?_
      refine aw_iconst (v := 1) C dX9_kind_36 (by decide) (q := 37) rfl ?_
      refine aw_iadd C dX9_kind_37 (q := 38) rfl ?_
      rw [show (s_5.1 3) + 1 = nI (a + 1 + 1) from by rw [R_6.2.2.1]; exact nI_1 _]
      refine pfX9_96_9 C dX9_kind_38 K_2.1 rfl rfl (Nat.le_of_ble_eq_true rfl) (q := 41) rfl ?_
      show aw G 2 M 41 [.ref o, .int (mz_c u n (a + 1))] [] (ac_up h_1 o (.inr (9, md_fs md ((upd s_5.1 3 (nI (a + 1 + 1)), s_5.2.1, s_5.2.2).1)))) 0 0
      obtain ⟨h_23, eh_23⟩ : ∃ z9, z9 = ac_up h_1 o (.inr (9, md_fs md ((upd s_5.1 3 (nI (a + 1 + 1)), s_5.2.1, s_5.2.2).1))) := ⟨_, rfl⟩
      rw [← eh_23]
      have kpx_26 : kp h_1 h_23 [o] := by rw [eh_23]; exact kp_up (kp_cons o kp_rf) _ _ (by simp)
      have K_24 : md_ok h_23 o md (upd s_5.1 3 (nI (a + 1 + 1)), s_5.2.1, s_5.2.2) := md_J (s := (s_5.1, s_5.2.1, s_5.2.2)) K_2 (by rw [eh_23]; exact ac_up_s _ _ _) kpx_26
      have kq_25 : kp h h_23 (md_L o md) := kp_in kq_3 kpx_26 md_s0
      have R_28 : mz_rep (upd s_5.1 3 (nI (a + 1 + 1)), s_5.2.1, s_5.2.2) u n (a + 1 + 1, U, W, fl) := mz_at R_6 _
      have F_29 : mz_fr s (upd s_5.1 3 (nI (a + 1 + 1)), s_5.2.1, s_5.2.2) := mz_fr_at F_7
      obtain ⟨s_27, es_27⟩ : ∃ z, z = (upd s_5.1 3 (nI (a + 1 + 1)), s_5.2.1, s_5.2.2) := ⟨_, rfl⟩
      rw [← es_27] at K_24 R_28 F_29
      refine aw_iload_n C dX9_kind_41 rfl rfl (q := 42) rfl ?_
      refine aw_bipush (v := 48) C dX9_kind_42 (by decide) (q := 44) rfl ?_
      refine aw_isub C dX9_kind_44 (q := 45) rfl ?_
      refine aw_iret C E dX9_kind_45 (Nat.le_refl _) (Nat.le_refl _) ?_
      rw [show mz_kf u n a fl = fl from by unfold mz_kf; rw [if_neg (fun z => z.elim c_18 (fun y => absurd c_24 (Int32.not_le.mpr y)))]]
      exact ⟨_, rfl, K_24, R_28, F_29, kq_25⟩
    ·
      refine aw_aload_n C dX9_kind_27 rfl rfl (q := 28) rfl ?_
      refine cvX9_120_9 (As := []) (rest := []) C B dX9_kind_28 K_2.1 (p_fail G M.2.1 o md hm h_1 d s_5 K_2 u n (a + 1) U W fl R_6 (by omega)) rfl rfl (Nat.le_of_ble_eq_true rfl) (by omega) (by omega) (by omega) (q := 31) rfl (fun r9 h_30 hr9 => ?_)
      obtain ⟨s_31, er9, K_32, R_33, F_34, kpx_36⟩ := hr9
      subst er9
      have F_35 : mz_fr s s_31 := mz_fr_tr F_7 F_34
      have kq_37 : kp h h_30 (md_L o md) := kp_in kq_3 kpx_36 (fun _ z => z)
      show aw G 2 M 31 [.ref o, .int (mz_c u n (a + 1))] [] h_30 0 0
      refine aw_aload_n C dX9_kind_31 rfl rfl (q := 32) rfl ?_
      refine aw_dup C dX9_kind_32 rfl (q := 33) rfl ?_
      refine gfX9_96_9 (v := .int (s_31.1 3)) C dX9_kind_33 K_32.1 rfl (q := 36) rfl ?_
      refine aw_iconst (v := 1) C dX9_kind_36 (by decide) (q := 37) rfl ?_
      refine aw_iadd C dX9_kind_37 (q := 38) rfl ?_
      rw [show (s_31.1 3) + 1 = nI (a + 1 + 1) from by rw [R_33.2.2.1]; exact nI_1 _]
      refine pfX9_96_9 C dX9_kind_38 K_32.1 rfl rfl (Nat.le_of_ble_eq_true rfl) (q := 41) rfl ?_
      show aw G 2 M 41 [.ref o, .int (mz_c u n (a + 1))] [] (ac_up h_30 o (.inr (9, md_fs md ((upd s_31.1 3 (nI (a + 1 + 1)), s_31.2.1, s_31.2.2).1)))) 0 0
      obtain ⟨h_38, eh_38⟩ : ∃ z9, z9 = ac_up h_30 o (.inr (9, md_fs md ((upd s_31.1 3 (nI (a + 1 + 1)), s_31.2.1, s_31.2.2).1))) := ⟨_, rfl⟩
      rw [← eh_38]
      have kpx_41 : kp h_30 h_38 [o] := by rw [eh_38]; exact kp_up (kp_cons o kp_rf) _ _ (by simp)
      have K_39 : md_ok h_38 o md (upd s_31.1 3 (nI (a + 1 + 1)), s_31.2.1, s_31.2.2) := md_J (s := (s_31.1, s_31.2.1, s_31.2.2)) K_32 (by rw [eh_38]; exact ac_up_s _ _ _) kpx_41
      have kq_40 : kp h h_38 (md_L o md) := kp_in kq_37 kpx_41 md_s0
      have R_43 : mz_rep (upd s_31.1 3 (nI (a + 1 + 1)), s_31.2.1, s_31.2.2) u n (a + 1 + 1, U, W, mz_fl (a + 1) fl) := mz_at R_33 _
      have F_44 : mz_fr s (upd s_31.1 3 (nI (a + 1 + 1)), s_31.2.1, s_31.2.2) := mz_fr_at F_35
      obtain ⟨s_42, es_42⟩ : ∃ z, z = (upd s_31.1 3 (nI (a + 1 + 1)), s_31.2.1, s_31.2.2) := ⟨_, rfl⟩
      rw [← es_42] at K_39 R_43 F_44
      refine aw_iload_n C dX9_kind_41 rfl rfl (q := 42) rfl ?_
      refine aw_bipush (v := 48) C dX9_kind_42 (by decide) (q := 44) rfl ?_
      refine aw_isub C dX9_kind_44 (q := 45) rfl ?_
      refine aw_iret C E dX9_kind_45 (Nat.le_refl _) (Nat.le_refl _) ?_
      rw [show mz_kf u n a fl = mz_fl (a + 1) fl from by unfold mz_kf; rw [if_pos (Or.inr (Int32.not_le.mp c_24))]]
      exact ⟨_, rfl, K_39, R_43, F_44, kq_40⟩
set_option maxHeartbeats 4000000 in
set_option maxRecDepth 100000 in
theorem ml_num {G : ac_G} {M : ac_M} {o : Nat} {md : Nat → Nat} (hm : md_inj md) {h : ac_H} {d : Nat} {s : md_S} {u : Nat → Int32} {n : Nat} {U W : pz_P} {fl : Option Nat} {pr : Int32 × Nat} (hb : U.length + W.length < 320) (C : ac_MC G RX9 cX9_readNumber 3 none M) (B : ac_Bd M (d + 3) 0 0) (E : ac_End G (mz_Q o md h s u n (mz_en pr.2 ((1, pr.1) :: U) W fl) none) 0 0 M) :
    ∀ (m k a : Nat) (v : Int32) (h1 : ac_H) (s1 : md_S), k + m = 6 → a ≤ 800 → md_ok h1 o md s1 → mz_rep s1 u n (a, U, W, fl) → mz_fr s s1 → kp h h1 (md_L o md) → cu_num u n m a v = pr → aw G 3 M 4 [.ref o, .int v, .int (nI k)] [] h1 0 0 := by
  intro m
  induction m with
  | zero =>
    intro k a v h1 s1 hk ha K R F kq hp
    have hk2 : k = 6 := by omega
    subst hk2
    subst hp
    refine aw_iload_n C dX9_readNumber_4 rfl rfl (q := 5) rfl ?_
    refine aw_bipush (v := 6) C dX9_readNumber_5 (by decide) (q := 7) rfl ?_
    refine aw_icmp_ge (t := 49) (q := 10) C dX9_readNumber_7 (by decide) rfl (fun c_7 => ?_) (fun c_7 => absurd c_7 (by decide))
    refine aw_aload_n C dX9_readNumber_49 rfl rfl (q := 50) rfl ?_
    refine aw_iconst (v := 1) C dX9_readNumber_50 (by decide) (q := 51) rfl ?_
    refine aw_iload_n C dX9_readNumber_51 rfl rfl (q := 52) rfl ?_
    refine cvX9_105_9 (As := [.int 1, .int v]) (rest := []) C B dX9_readNumber_52 K.1 (p_emit G M.2.1 o md hm h1 (d + 2) s1 K u n a U W fl R (by omega) (by omega) 1 v) rfl rfl (Nat.le_of_ble_eq_true rfl) (by omega) (by omega) (by omega) (q := 55) rfl (fun r9 h_1 hr9 => ?_)
    obtain ⟨s_2, er9, K_3, R_4, F_5, kpx_7⟩ := hr9
    subst er9
    have F_6 : mz_fr s s_2 := mz_fr_tr F F_5
    have kq_8 : kp h h_1 (md_L o md) := kp_in kq kpx_7 (fun _ z => z)
    show aw G 3 M 55 [.ref o, .int v, .int (nI 6)] [] h_1 0 0
    refine aw_aload_n C dX9_readNumber_55 rfl rfl (q := 56) rfl ?_
    refine cvX9_127_9 (As := []) (rest := []) C B dX9_readNumber_56 K_3.1 (p_endFactor G M.2.1 o md hm h_1 d s_2 K_3 u n a ((1, v) :: U) W fl R_4 (by omega) (by simp; omega)) rfl rfl (Nat.le_of_ble_eq_true rfl) (by omega) (by omega) (by omega) (q := 59) rfl (fun r9 h_9 hr9 => ?_)
    obtain ⟨s_10, er9, K_11, R_12, F_13, kpx_15⟩ := hr9
    subst er9
    have F_14 : mz_fr s s_10 := mz_fr_tr F_6 F_13
    have kq_16 : kp h h_9 (md_L o md) := kp_in kq_8 kpx_15 (fun _ z => z)
    show aw G 3 M 59 [.ref o, .int v, .int (nI 6)] [] h_9 0 0
    refine aw_vret C E dX9_readNumber_59 (Nat.le_refl _) (Nat.le_refl _) ?_
    exact ⟨_, rfl, K_11, R_12, F_14, kq_16⟩
  | succ m ih =>
    intro k a v h1 s1 hk ha K R F kq hp
    refine aw_iload_n C dX9_readNumber_4 rfl rfl (q := 5) rfl ?_
    refine aw_bipush (v := 6) C dX9_readNumber_5 (by decide) (q := 7) rfl ?_
    refine aw_icmp_ge (t := 49) (q := 10) C dX9_readNumber_7 (by decide) rfl (fun c_7 => absurd c_7 (ni_nge k 6 rfl rfl (by omega) (by decide) (by omega))) (fun c_7 => ?_)
    refine aw_aload_n C dX9_readNumber_10 rfl rfl (q := 11) rfl ?_
    refine cvX9_116_9 (As := []) (rest := []) C B dX9_readNumber_11 K.1 (m_here G M.2.1 o md hm h1 (d + 2) s1 K a n R.2.2.1 R.1 (by omega) R.2.1) rfl rfl (Nat.le_of_ble_eq_true rfl) (by omega) (by omega) (by omega) (q := 14) rfl (fun r9 h9 hr9 => ?_)
    obtain ⟨e9, er9⟩ := hr9
    subst er9; rw [e9]
    show aw G 3 M 14 [.ref o, .int v, .int (nI k)] [.int (mo_here s1 a n)] h1 0 0
    rw [mz_here R]
    refine csX9_123 (As := [.int (mz_c u n a)]) (rest := []) C B dX9_readNumber_14 (m_isDigit G M.2.1 h1 (d + 2) (mz_c u n a)) rfl rfl (Nat.le_of_ble_eq_true rfl) (by omega) (by omega) (by omega) (q := 17) rfl (fun r9 h9 hr9 => ?_)
    obtain ⟨e9, er9⟩ := hr9
    subst er9; rw [e9]
    show aw G 3 M 17 [.ref o, .int v, .int (nI k)] [.int (pb_b (¬ (mz_c u n a) < 48 ∧ ¬ 57 < (mz_c u n a)))] h1 0 0
    refine aw_if_eq (t := 49) (q := 20) C dX9_readNumber_17 (by decide) rfl (fun c_17 => ?_) (fun c_17 => ?_)
    ·
      rw [mz_ndig (pb_0.mp c_17)] at hp
      subst hp
      refine aw_aload_n C dX9_readNumber_49 rfl rfl (q := 50) rfl ?_
      refine aw_iconst (v := 1) C dX9_readNumber_50 (by decide) (q := 51) rfl ?_
      refine aw_iload_n C dX9_readNumber_51 rfl rfl (q := 52) rfl ?_
      refine cvX9_105_9 (As := [.int 1, .int v]) (rest := []) C B dX9_readNumber_52 K.1 (p_emit G M.2.1 o md hm h1 (d + 2) s1 K u n a U W fl R (by omega) (by omega) 1 v) rfl rfl (Nat.le_of_ble_eq_true rfl) (by omega) (by omega) (by omega) (q := 55) rfl (fun r9 h_1 hr9 => ?_)
      obtain ⟨s_2, er9, K_3, R_4, F_5, kpx_7⟩ := hr9
      subst er9
      have F_6 : mz_fr s s_2 := mz_fr_tr F F_5
      have kq_8 : kp h h_1 (md_L o md) := kp_in kq kpx_7 (fun _ z => z)
      show aw G 3 M 55 [.ref o, .int v, .int (nI k)] [] h_1 0 0
      refine aw_aload_n C dX9_readNumber_55 rfl rfl (q := 56) rfl ?_
      refine cvX9_127_9 (As := []) (rest := []) C B dX9_readNumber_56 K_3.1 (p_endFactor G M.2.1 o md hm h_1 d s_2 K_3 u n a ((1, v) :: U) W fl R_4 (by omega) (by simp; omega)) rfl rfl (Nat.le_of_ble_eq_true rfl) (by omega) (by omega) (by omega) (q := 59) rfl (fun r9 h_9 hr9 => ?_)
      obtain ⟨s_10, er9, K_11, R_12, F_13, kpx_15⟩ := hr9
      subst er9
      have F_14 : mz_fr s s_10 := mz_fr_tr F_6 F_13
      have kq_16 : kp h h_9 (md_L o md) := kp_in kq_8 kpx_15 (fun _ z => z)
      show aw G 3 M 59 [.ref o, .int v, .int (nI k)] [] h_9 0 0
      refine aw_vret C E dX9_readNumber_59 (Nat.le_refl _) (Nat.le_refl _) ?_
      exact ⟨_, rfl, K_11, R_12, F_14, kq_16⟩
    ·
      refine aw_bipush (v := 10) C dX9_readNumber_20 (by decide) (q := 22) rfl ?_
      refine aw_iload_n C dX9_readNumber_22 rfl rfl (q := 23) rfl ?_
      refine aw_imul C dX9_readNumber_23 (q := 24) rfl ?_
      refine aw_aload_n C dX9_readNumber_24 rfl rfl (q := 25) rfl ?_
      refine cvX9_116_9 (As := []) (rest := [.int (10 * v)]) C B dX9_readNumber_25 K.1 (m_here G M.2.1 o md hm h1 (d + 2) s1 K a n R.2.2.1 R.1 (by omega) R.2.1) rfl rfl (Nat.le_of_ble_eq_true rfl) (by omega) (by omega) (by omega) (q := 28) rfl (fun r9 h9 hr9 => ?_)
      obtain ⟨e9, er9⟩ := hr9
      subst er9; rw [e9]
      show aw G 3 M 28 [.ref o, .int v, .int (nI k)] [.int (mo_here s1 a n), .int (10 * v)] h1 0 0
      rw [mz_here R]
      refine aw_iadd C dX9_readNumber_28 (q := 29) rfl ?_
      refine aw_bipush (v := 48) C dX9_readNumber_29 (by decide) (q := 31) rfl ?_
      refine aw_isub C dX9_readNumber_31 (q := 32) rfl ?_
      rw [mz_mul]
      refine aw_istore_n (ls' := [.ref o, .int (v * 10 + (mz_c u n a - 48)), .int (nI k)]) C dX9_readNumber_32 rfl (by decide) rfl (q := 33) rfl ?_
      refine aw_iinc (v := nI (k + 1)) (ls' := [.ref o, .int (v * 10 + (mz_c u n a - 48)), .int (nI (k + 1))]) C dX9_readNumber_33 rfl (nI_1 k) (by decide) rfl (q := 36) rfl ?_
      refine aw_aload_n C dX9_readNumber_36 rfl rfl (q := 37) rfl ?_
      refine aw_dup C dX9_readNumber_37 rfl (q := 38) rfl ?_
      refine gfX9_96_9 (v := .int (s1.1 3)) C dX9_readNumber_38 K.1 rfl (q := 41) rfl ?_
      refine aw_iconst (v := 1) C dX9_readNumber_41 (by decide) (q := 42) rfl ?_
      refine aw_iadd C dX9_readNumber_42 (q := 43) rfl ?_
      rw [show (s1.1 3) + 1 = nI (a + 1) from by rw [R.2.2.1]; exact nI_1 _]
      refine pfX9_96_9 C dX9_readNumber_43 K.1 rfl rfl (Nat.le_of_ble_eq_true rfl) (q := 46) rfl ?_
      show aw G 3 M 46 [.ref o, .int (v * 10 + (mz_c u n a - 48)), .int (nI (k + 1))] [] (ac_up h1 o (.inr (9, md_fs md ((upd s1.1 3 (nI (a + 1)), s1.2.1, s1.2.2).1)))) 0 0
      obtain ⟨h_17, eh_17⟩ : ∃ z9, z9 = ac_up h1 o (.inr (9, md_fs md ((upd s1.1 3 (nI (a + 1)), s1.2.1, s1.2.2).1))) := ⟨_, rfl⟩
      rw [← eh_17]
      have kpx_20 : kp h1 h_17 [o] := by rw [eh_17]; exact kp_up (kp_cons o kp_rf) _ _ (by simp)
      have K_18 : md_ok h_17 o md (upd s1.1 3 (nI (a + 1)), s1.2.1, s1.2.2) := md_J (s := (s1.1, s1.2.1, s1.2.2)) K (by rw [eh_17]; exact ac_up_s _ _ _) kpx_20
      have kq_19 : kp h h_17 (md_L o md) := kp_in kq kpx_20 md_s0
      have R_22 : mz_rep (upd s1.1 3 (nI (a + 1)), s1.2.1, s1.2.2) u n (a + 1, U, W, fl) := mz_at R _
      have F_23 : mz_fr s (upd s1.1 3 (nI (a + 1)), s1.2.1, s1.2.2) := mz_fr_at F
      obtain ⟨s_21, es_21⟩ : ∃ z, z = (upd s1.1 3 (nI (a + 1)), s1.2.1, s1.2.2) := ⟨_, rfl⟩
      rw [← es_21] at K_18 R_22 F_23
      refine aw_goto (q := 4) C dX9_readNumber_46 (by decide) ?_
      have hd := pb_n c_17
      have hd2 := (mz_dig hd.1).1
      have hn3 := R.2.1
      exact ih (k + 1) (a + 1) _ h_17 s_21 (by omega) (by omega) K_18 R_22 F_23 kq_19 (by rw [← hp, mz_ydig hd])
set_option maxHeartbeats 4000000 in
set_option maxRecDepth 100000 in
theorem p_readNumber (G : ac_G) (l : Launch) (o : Nat) (md : Nat → Nat) (hm : md_inj md) (h : ac_H) (d : Nat) (s : md_S) (K : md_ok h o md s) (u : Nat → Int32) (n a : Nat) (U W : pz_P) (fl : Option Nat) (R : mz_rep s u n (a, U, W, fl)) (ha : a ≤ 800) (hb : U.length + W.length < 320) : ac_Met G l yX9_readNumber cX9_readNumber 3 none (d + 3) 0 0 [.ref o] h (mz_Q o md h s u n (mz_en (cu_num u n 6 a 0).2 ((1, (cu_num u n 6 a 0).1) :: U) W fl) none) := by
  refine ac_of (ls := [.ref o, .retAddr 0, .retAddr 0]) (by decide +kernel) rfl (Nat.le_of_ble_eq_true rfl) (fun M hl C B E hnm => ?_)
  refine aw_iconst (v := 0) C dX9_readNumber_0 (by decide) (q := 1) rfl ?_
  refine aw_istore_n (ls' := [.ref o, .int 0, .retAddr 0]) C dX9_readNumber_1 rfl (by decide) rfl (q := 2) rfl ?_
  refine aw_iconst (v := 0) C dX9_readNumber_2 (by decide) (q := 3) rfl ?_
  refine aw_istore_n (ls' := [.ref o, .int 0, .int 0]) C dX9_readNumber_3 rfl (by decide) rfl (q := 4) rfl ?_
  exact ml_num hm hb C B E 6 0 a 0 h s rfl ha K R mz_fr_rf (kp_mono kp_rf (by simp)) rfl
set_option maxHeartbeats 4000000 in
set_option maxRecDepth 100000 in
theorem p_readLetter (G : ac_G) (l : Launch) (o : Nat) (md : Nat → Nat) (hm : md_inj md) (h : ac_H) (d : Nat) (s : md_S) (K : md_ok h o md s) (u : Nat → Int32) (n a : Nat) (U W : pz_P) (fl : Option Nat) (R : mz_rep s u n (a, U, W, fl)) (ha : a ≤ 800) (hb : U.length + W.length < 320) (g : Int32) : ac_Met G l yX9_readLetter cX9_readLetter 2 none (d + 3) 0 0 [.ref o, .int g] h (mz_Q o md h s u n (mz_en (a + 1) ((g, 0) :: U) W fl) none) := by
  refine ac_of (ls := [.ref o, .int g]) (by decide +kernel) rfl (Nat.le_of_ble_eq_true rfl) (fun M hl C B E hnm => ?_)
  refine aw_aload_n C dX9_readLetter_0 rfl rfl (q := 1) rfl ?_
  refine aw_dup C dX9_readLetter_1 rfl (q := 2) rfl ?_
  refine gfX9_96_9 (v := .int (s.1 3)) C dX9_readLetter_2 K.1 rfl (q := 5) rfl ?_
  refine aw_iconst (v := 1) C dX9_readLetter_5 (by decide) (q := 6) rfl ?_
  refine aw_iadd C dX9_readLetter_6 (q := 7) rfl ?_
  rw [show (s.1 3) + 1 = nI (a + 1) from by rw [R.2.2.1]; exact nI_1 _]
  refine pfX9_96_9 C dX9_readLetter_7 K.1 rfl rfl (Nat.le_of_ble_eq_true rfl) (q := 10) rfl ?_
  show aw G 2 M 10 [.ref o, .int g] [] (ac_up h o (.inr (9, md_fs md ((upd s.1 3 (nI (a + 1)), s.2.1, s.2.2).1)))) 0 0
  obtain ⟨h_1, eh_1⟩ : ∃ z9, z9 = ac_up h o (.inr (9, md_fs md ((upd s.1 3 (nI (a + 1)), s.2.1, s.2.2).1))) := ⟨_, rfl⟩
  rw [← eh_1]
  have kpx_4 : kp h h_1 [o] := by rw [eh_1]; exact kp_up (kp_cons o kp_rf) _ _ (by simp)
  have K_2 : md_ok h_1 o md (upd s.1 3 (nI (a + 1)), s.2.1, s.2.2) := md_J (s := (s.1, s.2.1, s.2.2)) K (by rw [eh_1]; exact ac_up_s _ _ _) kpx_4
  have kq_3 : kp h h_1 (md_L o md) := kp_mono kpx_4 md_s0
  have R_6 : mz_rep (upd s.1 3 (nI (a + 1)), s.2.1, s.2.2) u n (a + 1, U, W, fl) := mz_at R _
  have F_7 : mz_fr s (upd s.1 3 (nI (a + 1)), s.2.1, s.2.2) := mz_fr_at mz_fr_rf
  obtain ⟨s_5, es_5⟩ : ∃ z, z = (upd s.1 3 (nI (a + 1)), s.2.1, s.2.2) := ⟨_, rfl⟩
  rw [← es_5] at K_2 R_6 F_7
  refine aw_aload_n C dX9_readLetter_10 rfl rfl (q := 11) rfl ?_
  refine aw_iload_n C dX9_readLetter_11 rfl rfl (q := 12) rfl ?_
  refine aw_iconst (v := 0) C dX9_readLetter_12 (by decide) (q := 13) rfl ?_
  refine cvX9_105_9 (As := [.int g, .int 0]) (rest := []) C B dX9_readLetter_13 K_2.1 (p_emit G M.2.1 o md hm h_1 (d + 2) s_5 K_2 u n (a + 1) U W fl R_6 (by omega) (by omega) g 0) rfl rfl (Nat.le_of_ble_eq_true rfl) (by omega) (by omega) (by omega) (q := 16) rfl (fun r9 h_8 hr9 => ?_)
  obtain ⟨s_9, er9, K_10, R_11, F_12, kpx_14⟩ := hr9
  subst er9
  have F_13 : mz_fr s s_9 := mz_fr_tr F_7 F_12
  have kq_15 : kp h h_8 (md_L o md) := kp_in kq_3 kpx_14 (fun _ z => z)
  show aw G 2 M 16 [.ref o, .int g] [] h_8 0 0
  refine aw_aload_n C dX9_readLetter_16 rfl rfl (q := 17) rfl ?_
  refine cvX9_127_9 (As := []) (rest := []) C B dX9_readLetter_17 K_10.1 (p_endFactor G M.2.1 o md hm h_8 d s_9 K_10 u n (a + 1) ((g, 0) :: U) W fl R_11 (by omega) (by simp; omega)) rfl rfl (Nat.le_of_ble_eq_true rfl) (by omega) (by omega) (by omega) (q := 20) rfl (fun r9 h_16 hr9 => ?_)
  obtain ⟨s_17, er9, K_18, R_19, F_20, kpx_22⟩ := hr9
  subst er9
  have F_21 : mz_fr s s_17 := mz_fr_tr F_13 F_20
  have kq_23 : kp h h_16 (md_L o md) := kp_in kq_15 kpx_22 (fun _ z => z)
  show aw G 2 M 20 [.ref o, .int g] [] h_16 0 0
  refine aw_vret C E dX9_readLetter_20 (Nat.le_refl _) (Nat.le_refl _) ?_
  exact ⟨_, rfl, K_18, R_19, F_21, kq_23⟩
set_option maxHeartbeats 4000000 in
set_option maxRecDepth 100000 in
theorem p_readKind (G : ac_G) (l : Launch) (o : Nat) (md : Nat → Nat) (hm : md_inj md) (h : ac_H) (d : Nat) (s : md_S) (K : md_ok h o md s) (u : Nat → Int32) (n a : Nat) (U W : pz_P) (fl : Option Nat) (R : mz_rep s u n (a, U, W, fl)) (ha : a ≤ 800) (hb : U.length + W.length < 320) (g : Int32) : ac_Met G l yX9_readKind cX9_readKind 3 none (d + 3) 0 0 [.ref o, .int g] h (mz_Q o md h s u n (mz_en (a + 1 + 1) ((g, mz_c u n (a + 1) - 48) :: U) W (mz_kf u n a fl)) none) := by
  refine ac_of (ls := [.ref o, .int g, .retAddr 0]) (by decide +kernel) rfl (Nat.le_of_ble_eq_true rfl) (fun M hl C B E hnm => ?_)
  refine aw_aload_n C dX9_readKind_0 rfl rfl (q := 1) rfl ?_
  refine cvX9_130_9 (As := []) (rest := []) C B dX9_readKind_1 K.1 (p_kind G M.2.1 o md hm h (d + 1) s K u n a U W fl R (by omega)) rfl rfl (Nat.le_of_ble_eq_true rfl) (by omega) (by omega) (by omega) (q := 4) rfl (fun r9 h_1 hr9 => ?_)
  obtain ⟨s_2, er9, K_3, R_4, F_5, kpx_7⟩ := hr9
  subst er9
  have F_6 : mz_fr s s_2 := mz_fr_tr mz_fr_rf F_5
  have kq_8 : kp h h_1 (md_L o md) := kpx_7
  show aw G 3 M 4 [.ref o, .int g, .retAddr 0] [.int (mz_c u n (a + 1) - 48)] h_1 0 0
  refine aw_istore_n (ls' := [.ref o, .int g, .int (mz_c u n (a + 1) - 48)]) C dX9_readKind_4 rfl (by decide) rfl (q := 5) rfl ?_
  refine aw_aload_n C dX9_readKind_5 rfl rfl (q := 6) rfl ?_
  refine aw_iload_n C dX9_readKind_6 rfl rfl (q := 7) rfl ?_
  refine aw_iload_n C dX9_readKind_7 rfl rfl (q := 8) rfl ?_
  refine cvX9_105_9 (As := [.int g, .int (mz_c u n (a + 1) - 48)]) (rest := []) C B dX9_readKind_8 K_3.1 (p_emit G M.2.1 o md hm h_1 (d + 2) s_2 K_3 u n (a + 1 + 1) U W (mz_kf u n a fl) R_4 (by omega) (by omega) g (mz_c u n (a + 1) - 48)) rfl rfl (Nat.le_of_ble_eq_true rfl) (by omega) (by omega) (by omega) (q := 11) rfl (fun r9 h_9 hr9 => ?_)
  obtain ⟨s_10, er9, K_11, R_12, F_13, kpx_15⟩ := hr9
  subst er9
  have F_14 : mz_fr s s_10 := mz_fr_tr F_6 F_13
  have kq_16 : kp h h_9 (md_L o md) := kp_in kq_8 kpx_15 (fun _ z => z)
  show aw G 3 M 11 [.ref o, .int g, .int (mz_c u n (a + 1) - 48)] [] h_9 0 0
  refine aw_aload_n C dX9_readKind_11 rfl rfl (q := 12) rfl ?_
  refine cvX9_127_9 (As := []) (rest := []) C B dX9_readKind_12 K_11.1 (p_endFactor G M.2.1 o md hm h_9 d s_10 K_11 u n (a + 1 + 1) ((g, mz_c u n (a + 1) - 48) :: U) W (mz_kf u n a fl) R_12 (by omega) (by simp; omega)) rfl rfl (Nat.le_of_ble_eq_true rfl) (by omega) (by omega) (by omega) (q := 15) rfl (fun r9 h_17 hr9 => ?_)
  obtain ⟨s_18, er9, K_19, R_20, F_21, kpx_23⟩ := hr9
  subst er9
  have F_22 : mz_fr s s_18 := mz_fr_tr F_14 F_21
  have kq_24 : kp h h_17 (md_L o md) := kp_in kq_16 kpx_23 (fun _ z => z)
  show aw G 3 M 15 [.ref o, .int g, .int (mz_c u n (a + 1) - 48)] [] h_17 0 0
  refine aw_vret C E dX9_readKind_15 (Nat.le_refl _) (Nat.le_refl _) ?_
  exact ⟨_, rfl, K_19, R_20, F_22, kq_24⟩
def mz_l (c : Int32) : Int32 := if c = 108 then 2 else if c = 119 then 3 else 4
def mz_k (c : Int32) : Int32 := if c = 110 then 5 else if c = 97 then 6 else if c = 115 then 7 else 8
def mz_rf (u : Nat → Int32) (n dp a : Nat) (U W : pz_P) (fl : Option Nat) : Bool × mz_C :=
  if ¬ mz_c u n a < 48 ∧ ¬ 57 < mz_c u n a then (true, mz_en (cu_num u n 6 a 0).2 ((1, (cu_num u n 6 a 0).1) :: U) W fl)
  else if mz_c u n a = 108 ∨ mz_c u n a = 119 ∨ mz_c u n a = 116 then (true, mz_en (a + 1) ((mz_l (mz_c u n a), 0) :: U) W fl)
  else if mz_c u n a = 110 ∨ mz_c u n a = 97 ∨ mz_c u n a = 115 ∨ mz_c u n a = 101 then (true, mz_en (a + 1 + 1) ((mz_k (mz_c u n a), mz_c u n (a + 1) - 48) :: U) W (mz_kf u n a fl))
  else if mz_c u n a = 99 then (false, (a + 1 + 1, U, (9, mz_c u n (a + 1) - 48) :: W, mz_kf u n a fl))
  else if mz_c u n a = 102 ∨ mz_c u n a = 45 then (false, (a + 1, U, ((if mz_c u n a = 102 then 10 else 11), 0) :: W, fl))
  else if mz_c u n a = 40 ∧ dp < 8 then (false, (a + 1, U, (17, 0) :: W, fl))
  else (false, (a, U, W, mz_fl a fl))
set_option maxHeartbeats 4000000 in
set_option maxRecDepth 100000 in
theorem p_readFactor (G : ac_G) (l : Launch) (o : Nat) (md : Nat → Nat) (hm : md_inj md) (h : ac_H) (d : Nat) (s : md_S) (K : md_ok h o md s) (u : Nat → Int32) (n a : Nat) (U W : pz_P) (fl : Option Nat) (R : mz_rep s u n (a, U, W, fl)) (ha : a ≤ 800) (hb : U.length + W.length < 320) (dp : Nat) (hdp : dp ≤ 1000) : ac_Met G l yX9_readFactor cX9_readFactor 4 (some .boolean) (d + 4) 0 0 [.ref o, .int (mz_c u n a), .int (nI dp)] h (mz_Q o md h s u n (mz_rf u n dp a U W fl).2 (some (.int (pb_b ((mz_rf u n dp a U W fl).1 = true))))) := by
  refine ac_of (ls := [.ref o, .int (mz_c u n a), .int (nI dp), .retAddr 0]) (by decide +kernel) rfl (Nat.le_of_ble_eq_true rfl) (fun M hl C B E hnm => ?_)
  refine aw_iload_n C dX9_readFactor_0 rfl rfl (q := 1) rfl ?_
  refine csX9_123 (As := [.int (mz_c u n a)]) (rest := []) C B dX9_readFactor_1 (m_isDigit G M.2.1 h (d + 3) (mz_c u n a)) rfl rfl (Nat.le_of_ble_eq_true rfl) (by omega) (by omega) (by omega) (q := 4) rfl (fun r9 h9 hr9 => ?_)
  obtain ⟨e9, er9⟩ := hr9
  subst er9; rw [e9]
  show aw G 4 M 4 [.ref o, .int (mz_c u n a), .int (nI dp), .retAddr 0] [.int (pb_b (¬ (mz_c u n a) < 48 ∧ ¬ 57 < (mz_c u n a)))] h 0 0
  refine aw_if_eq (t := 14) (q := 7) C dX9_readFactor_4 (by decide) rfl (fun c_4 => ?_) (fun c_4 => ?_)
  ·
    refine aw_iload_n C dX9_readFactor_14 rfl rfl (q := 15) rfl ?_
    refine aw_bipush (v := 108) C dX9_readFactor_15 (by decide) (q := 17) rfl ?_
    refine aw_icmp_eq (t := 32) (q := 20) C dX9_readFactor_17 (by decide) rfl (fun c_17 => ?_) (fun c_17 => ?_)
    ·
      refine aw_aload_n C dX9_readFactor_32 rfl rfl (q := 33) rfl ?_
      refine aw_iload_n C dX9_readFactor_33 rfl rfl (q := 34) rfl ?_
      refine aw_bipush (v := 108) C dX9_readFactor_34 (by decide) (q := 36) rfl ?_
      refine aw_icmp_ne (t := 43) (q := 39) C dX9_readFactor_36 (by decide) rfl (fun c_36 => absurd c_36 (fun z => z c_17)) (fun c_36 => ?_)
      refine aw_iconst (v := 2) C dX9_readFactor_39 (by decide) (q := 40) rfl ?_
      refine aw_goto (q := 54) C dX9_readFactor_40 (by decide) ?_
      refine cvX9_136_9 (As := [.int 2]) (rest := []) C B dX9_readFactor_54 K.1 (p_readLetter G M.2.1 o md hm h d s K u n a U W fl R (by omega) hb 2) rfl rfl (Nat.le_of_ble_eq_true rfl) (by omega) (by omega) (by omega) (q := 57) rfl (fun r9 h_1 hr9 => ?_)
      obtain ⟨s_2, er9, K_3, R_4, F_5, kpx_7⟩ := hr9
      subst er9
      have F_6 : mz_fr s s_2 := mz_fr_tr mz_fr_rf F_5
      have kq_8 : kp h h_1 (md_L o md) := kpx_7
      show aw G 4 M 57 [.ref o, .int (mz_c u n a), .int (nI dp), .retAddr 0] [] h_1 0 0
      refine aw_goto (q := 227) C dX9_readFactor_57 (by decide) ?_
      refine aw_iconst (v := 1) C dX9_readFactor_227 (by decide) (q := 228) rfl ?_
      refine aw_zret C E dX9_readFactor_228 (rfl) (Nat.le_refl _) (Nat.le_refl _) ?_
      have hrf : mz_rf u n dp a U W fl = (true, (a + 1, (mz_pp 9 11 W ((2, 0) :: U)).2, (mz_pp 9 11 W ((2, 0) :: U)).1, fl)) := by unfold mz_rf; rw [if_neg (pb_0.mp c_4), if_pos (Or.inl c_17), show mz_l (mz_c u n a) = _ from by unfold mz_l; rw [if_pos c_36]]
      rw [hrf]
      exact ⟨_, rfl, K_3, R_4, F_6, kq_8⟩
    ·
      refine aw_iload_n C dX9_readFactor_20 rfl rfl (q := 21) rfl ?_
      refine aw_bipush (v := 119) C dX9_readFactor_21 (by decide) (q := 23) rfl ?_
      refine aw_icmp_eq (t := 32) (q := 26) C dX9_readFactor_23 (by decide) rfl (fun c_23 => ?_) (fun c_23 => ?_)
      ·
        refine aw_aload_n C dX9_readFactor_32 rfl rfl (q := 33) rfl ?_
        refine aw_iload_n C dX9_readFactor_33 rfl rfl (q := 34) rfl ?_
        refine aw_bipush (v := 108) C dX9_readFactor_34 (by decide) (q := 36) rfl ?_
        refine aw_icmp_ne (t := 43) (q := 39) C dX9_readFactor_36 (by decide) rfl (fun c_36 => ?_) (fun c_36 => absurd c_36 (c_17))
        refine aw_iload_n C dX9_readFactor_43 rfl rfl (q := 44) rfl ?_
        refine aw_bipush (v := 119) C dX9_readFactor_44 (by decide) (q := 46) rfl ?_
        refine aw_icmp_ne (t := 53) (q := 49) C dX9_readFactor_46 (by decide) rfl (fun c_46 => absurd c_46 (fun z => z c_23)) (fun c_46 => ?_)
        refine aw_iconst (v := 3) C dX9_readFactor_49 (by decide) (q := 50) rfl ?_
        refine aw_goto (q := 54) C dX9_readFactor_50 (by decide) ?_
        refine cvX9_136_9 (As := [.int 3]) (rest := []) C B dX9_readFactor_54 K.1 (p_readLetter G M.2.1 o md hm h d s K u n a U W fl R (by omega) hb 3) rfl rfl (Nat.le_of_ble_eq_true rfl) (by omega) (by omega) (by omega) (q := 57) rfl (fun r9 h_9 hr9 => ?_)
        obtain ⟨s_10, er9, K_11, R_12, F_13, kpx_15⟩ := hr9
        subst er9
        have F_14 : mz_fr s s_10 := mz_fr_tr mz_fr_rf F_13
        have kq_16 : kp h h_9 (md_L o md) := kpx_15
        show aw G 4 M 57 [.ref o, .int (mz_c u n a), .int (nI dp), .retAddr 0] [] h_9 0 0
        refine aw_goto (q := 227) C dX9_readFactor_57 (by decide) ?_
        refine aw_iconst (v := 1) C dX9_readFactor_227 (by decide) (q := 228) rfl ?_
        refine aw_zret C E dX9_readFactor_228 (rfl) (Nat.le_refl _) (Nat.le_refl _) ?_
        have hrf : mz_rf u n dp a U W fl = (true, (a + 1, (mz_pp 9 11 W ((3, 0) :: U)).2, (mz_pp 9 11 W ((3, 0) :: U)).1, fl)) := by unfold mz_rf; rw [if_neg (pb_0.mp c_4), if_pos (Or.inr (Or.inl c_23)), show mz_l (mz_c u n a) = _ from by unfold mz_l; rw [if_neg c_36, if_pos c_46]]
        rw [hrf]
        exact ⟨_, rfl, K_11, R_12, F_14, kq_16⟩
      ·
        refine aw_iload_n C dX9_readFactor_26 rfl rfl (q := 27) rfl ?_
        refine aw_bipush (v := 116) C dX9_readFactor_27 (by decide) (q := 29) rfl ?_
        refine aw_icmp_ne (t := 60) (q := 32) C dX9_readFactor_29 (by decide) rfl (fun c_29 => ?_) (fun c_29 => ?_)
        ·
          refine aw_iload_n C dX9_readFactor_60 rfl rfl (q := 61) rfl ?_
          refine aw_bipush (v := 110) C dX9_readFactor_61 (by decide) (q := 63) rfl ?_
          refine aw_icmp_eq (t := 84) (q := 66) C dX9_readFactor_63 (by decide) rfl (fun c_63 => ?_) (fun c_63 => ?_)
          ·
            refine aw_aload_n C dX9_readFactor_84 rfl rfl (q := 85) rfl ?_
            refine aw_iload_n C dX9_readFactor_85 rfl rfl (q := 86) rfl ?_
            refine aw_bipush (v := 110) C dX9_readFactor_86 (by decide) (q := 88) rfl ?_
            refine aw_icmp_ne (t := 95) (q := 91) C dX9_readFactor_88 (by decide) rfl (fun c_88 => absurd c_88 (fun z => z c_63)) (fun c_88 => ?_)
            refine aw_iconst (v := 5) C dX9_readFactor_91 (by decide) (q := 92) rfl ?_
            refine aw_goto (q := 119) C dX9_readFactor_92 (by decide) ?_
            refine cvX9_140_9 (As := [.int 5]) (rest := []) C B dX9_readFactor_119 K.1 (p_readKind G M.2.1 o md hm h d s K u n a U W fl R (by omega) hb 5) rfl rfl (Nat.le_of_ble_eq_true rfl) (by omega) (by omega) (by omega) (q := 122) rfl (fun r9 h_17 hr9 => ?_)
            obtain ⟨s_18, er9, K_19, R_20, F_21, kpx_23⟩ := hr9
            subst er9
            have F_22 : mz_fr s s_18 := mz_fr_tr mz_fr_rf F_21
            have kq_24 : kp h h_17 (md_L o md) := kpx_23
            show aw G 4 M 122 [.ref o, .int (mz_c u n a), .int (nI dp), .retAddr 0] [] h_17 0 0
            refine aw_goto (q := 227) C dX9_readFactor_122 (by decide) ?_
            refine aw_iconst (v := 1) C dX9_readFactor_227 (by decide) (q := 228) rfl ?_
            refine aw_zret C E dX9_readFactor_228 (rfl) (Nat.le_refl _) (Nat.le_refl _) ?_
            have hrf : mz_rf u n dp a U W fl = (true, (a + 1 + 1, (mz_pp 9 11 W ((5, mz_c u n (a + 1) - 48) :: U)).2, (mz_pp 9 11 W ((5, mz_c u n (a + 1) - 48) :: U)).1, mz_kf u n a fl)) := by unfold mz_rf; rw [if_neg (pb_0.mp c_4), if_neg (by rintro (z | z | z); exact c_17 z; exact c_23 z; exact c_29 z), if_pos (Or.inl c_63), show mz_k (mz_c u n a) = _ from by unfold mz_k; rw [if_pos c_88]]
            rw [hrf]
            exact ⟨_, rfl, K_19, R_20, F_22, kq_24⟩
          ·
            refine aw_iload_n C dX9_readFactor_66 rfl rfl (q := 67) rfl ?_
            refine aw_bipush (v := 97) C dX9_readFactor_67 (by decide) (q := 69) rfl ?_
            refine aw_icmp_eq (t := 84) (q := 72) C dX9_readFactor_69 (by decide) rfl (fun c_69 => ?_) (fun c_69 => ?_)
            ·
              refine aw_aload_n C dX9_readFactor_84 rfl rfl (q := 85) rfl ?_
              refine aw_iload_n C dX9_readFactor_85 rfl rfl (q := 86) rfl ?_
              refine aw_bipush (v := 110) C dX9_readFactor_86 (by decide) (q := 88) rfl ?_
              refine aw_icmp_ne (t := 95) (q := 91) C dX9_readFactor_88 (by decide) rfl (fun c_88 => ?_) (fun c_88 => absurd c_88 (c_63))
              refine aw_iload_n C dX9_readFactor_95 rfl rfl (q := 96) rfl ?_
              refine aw_bipush (v := 97) C dX9_readFactor_96 (by decide) (q := 98) rfl ?_
              refine aw_icmp_ne (t := 106) (q := 101) C dX9_readFactor_98 (by decide) rfl (fun c_98 => absurd c_98 (fun z => z c_69)) (fun c_98 => ?_)
              refine aw_bipush (v := 6) C dX9_readFactor_101 (by decide) (q := 103) rfl ?_
              refine aw_goto (q := 119) C dX9_readFactor_103 (by decide) ?_
              refine cvX9_140_9 (As := [.int 6]) (rest := []) C B dX9_readFactor_119 K.1 (p_readKind G M.2.1 o md hm h d s K u n a U W fl R (by omega) hb 6) rfl rfl (Nat.le_of_ble_eq_true rfl) (by omega) (by omega) (by omega) (q := 122) rfl (fun r9 h_25 hr9 => ?_)
              obtain ⟨s_26, er9, K_27, R_28, F_29, kpx_31⟩ := hr9
              subst er9
              have F_30 : mz_fr s s_26 := mz_fr_tr mz_fr_rf F_29
              have kq_32 : kp h h_25 (md_L o md) := kpx_31
              show aw G 4 M 122 [.ref o, .int (mz_c u n a), .int (nI dp), .retAddr 0] [] h_25 0 0
              refine aw_goto (q := 227) C dX9_readFactor_122 (by decide) ?_
              refine aw_iconst (v := 1) C dX9_readFactor_227 (by decide) (q := 228) rfl ?_
              refine aw_zret C E dX9_readFactor_228 (rfl) (Nat.le_refl _) (Nat.le_refl _) ?_
              have hrf : mz_rf u n dp a U W fl = (true, (a + 1 + 1, (mz_pp 9 11 W ((6, mz_c u n (a + 1) - 48) :: U)).2, (mz_pp 9 11 W ((6, mz_c u n (a + 1) - 48) :: U)).1, mz_kf u n a fl)) := by unfold mz_rf; rw [if_neg (pb_0.mp c_4), if_neg (by rintro (z | z | z); exact c_17 z; exact c_23 z; exact c_29 z), if_pos (Or.inr (Or.inl c_69)), show mz_k (mz_c u n a) = _ from by unfold mz_k; rw [if_neg c_88, if_pos c_98]]
              rw [hrf]
              exact ⟨_, rfl, K_27, R_28, F_30, kq_32⟩
            ·
              refine aw_iload_n C dX9_readFactor_72 rfl rfl (q := 73) rfl ?_
              refine aw_bipush (v := 115) C dX9_readFactor_73 (by decide) (q := 75) rfl ?_
              refine aw_icmp_eq (t := 84) (q := 78) C dX9_readFactor_75 (by decide) rfl (fun c_75 => ?_) (fun c_75 => ?_)
              ·
                refine aw_aload_n C dX9_readFactor_84 rfl rfl (q := 85) rfl ?_
                refine aw_iload_n C dX9_readFactor_85 rfl rfl (q := 86) rfl ?_
                refine aw_bipush (v := 110) C dX9_readFactor_86 (by decide) (q := 88) rfl ?_
                refine aw_icmp_ne (t := 95) (q := 91) C dX9_readFactor_88 (by decide) rfl (fun c_88 => ?_) (fun c_88 => absurd c_88 (c_63))
                refine aw_iload_n C dX9_readFactor_95 rfl rfl (q := 96) rfl ?_
                refine aw_bipush (v := 97) C dX9_readFactor_96 (by decide) (q := 98) rfl ?_
                refine aw_icmp_ne (t := 106) (q := 101) C dX9_readFactor_98 (by decide) rfl (fun c_98 => ?_) (fun c_98 => absurd c_98 (c_69))
                refine aw_iload_n C dX9_readFactor_106 rfl rfl (q := 107) rfl ?_
                refine aw_bipush (v := 115) C dX9_readFactor_107 (by decide) (q := 109) rfl ?_
                refine aw_icmp_ne (t := 117) (q := 112) C dX9_readFactor_109 (by decide) rfl (fun c_109 => absurd c_109 (fun z => z c_75)) (fun c_109 => ?_)
                refine aw_bipush (v := 7) C dX9_readFactor_112 (by decide) (q := 114) rfl ?_
                refine aw_goto (q := 119) C dX9_readFactor_114 (by decide) ?_
                refine cvX9_140_9 (As := [.int 7]) (rest := []) C B dX9_readFactor_119 K.1 (p_readKind G M.2.1 o md hm h d s K u n a U W fl R (by omega) hb 7) rfl rfl (Nat.le_of_ble_eq_true rfl) (by omega) (by omega) (by omega) (q := 122) rfl (fun r9 h_33 hr9 => ?_)
                obtain ⟨s_34, er9, K_35, R_36, F_37, kpx_39⟩ := hr9
                subst er9
                have F_38 : mz_fr s s_34 := mz_fr_tr mz_fr_rf F_37
                have kq_40 : kp h h_33 (md_L o md) := kpx_39
                show aw G 4 M 122 [.ref o, .int (mz_c u n a), .int (nI dp), .retAddr 0] [] h_33 0 0
                refine aw_goto (q := 227) C dX9_readFactor_122 (by decide) ?_
                refine aw_iconst (v := 1) C dX9_readFactor_227 (by decide) (q := 228) rfl ?_
                refine aw_zret C E dX9_readFactor_228 (rfl) (Nat.le_refl _) (Nat.le_refl _) ?_
                have hrf : mz_rf u n dp a U W fl = (true, (a + 1 + 1, (mz_pp 9 11 W ((7, mz_c u n (a + 1) - 48) :: U)).2, (mz_pp 9 11 W ((7, mz_c u n (a + 1) - 48) :: U)).1, mz_kf u n a fl)) := by unfold mz_rf; rw [if_neg (pb_0.mp c_4), if_neg (by rintro (z | z | z); exact c_17 z; exact c_23 z; exact c_29 z), if_pos (Or.inr (Or.inr (Or.inl c_75))), show mz_k (mz_c u n a) = _ from by unfold mz_k; rw [if_neg c_88, if_neg c_98, if_pos c_109]]
                rw [hrf]
                exact ⟨_, rfl, K_35, R_36, F_38, kq_40⟩
              ·
                refine aw_iload_n C dX9_readFactor_78 rfl rfl (q := 79) rfl ?_
                refine aw_bipush (v := 101) C dX9_readFactor_79 (by decide) (q := 81) rfl ?_
                refine aw_icmp_ne (t := 125) (q := 84) C dX9_readFactor_81 (by decide) rfl (fun c_81 => ?_) (fun c_81 => ?_)
                ·
                  refine aw_iload_n C dX9_readFactor_125 rfl rfl (q := 126) rfl ?_
                  refine aw_bipush (v := 99) C dX9_readFactor_126 (by decide) (q := 128) rfl ?_
                  refine aw_icmp_ne (t := 146) (q := 131) C dX9_readFactor_128 (by decide) rfl (fun c_128 => ?_) (fun c_128 => ?_)
                  ·
                    refine aw_iload_n C dX9_readFactor_146 rfl rfl (q := 147) rfl ?_
                    refine aw_bipush (v := 102) C dX9_readFactor_147 (by decide) (q := 149) rfl ?_
                    refine aw_icmp_eq (t := 158) (q := 152) C dX9_readFactor_149 (by decide) rfl (fun c_149 => ?_) (fun c_149 => ?_)
                    ·
                      refine aw_aload_n C dX9_readFactor_158 rfl rfl (q := 159) rfl ?_
                      refine aw_dup C dX9_readFactor_159 rfl (q := 160) rfl ?_
                      refine gfX9_96_9 (v := .int (s.1 3)) C dX9_readFactor_160 K.1 rfl (q := 163) rfl ?_
                      refine aw_iconst (v := 1) C dX9_readFactor_163 (by decide) (q := 164) rfl ?_
                      refine aw_iadd C dX9_readFactor_164 (q := 165) rfl ?_
                      rw [show (s.1 3) + 1 = nI (a + 1) from by rw [R.2.2.1]; exact nI_1 _]
                      refine pfX9_96_9 C dX9_readFactor_165 K.1 rfl rfl (Nat.le_of_ble_eq_true rfl) (q := 168) rfl ?_
                      show aw G 4 M 168 [.ref o, .int (mz_c u n a), .int (nI dp), .retAddr 0] [] (ac_up h o (.inr (9, md_fs md ((upd s.1 3 (nI (a + 1)), s.2.1, s.2.2).1)))) 0 0
                      obtain ⟨h_41, eh_41⟩ : ∃ z9, z9 = ac_up h o (.inr (9, md_fs md ((upd s.1 3 (nI (a + 1)), s.2.1, s.2.2).1))) := ⟨_, rfl⟩
                      rw [← eh_41]
                      have kpx_44 : kp h h_41 [o] := by rw [eh_41]; exact kp_up (kp_cons o kp_rf) _ _ (by simp)
                      have K_42 : md_ok h_41 o md (upd s.1 3 (nI (a + 1)), s.2.1, s.2.2) := md_J (s := (s.1, s.2.1, s.2.2)) K (by rw [eh_41]; exact ac_up_s _ _ _) kpx_44
                      have kq_43 : kp h h_41 (md_L o md) := kp_mono kpx_44 md_s0
                      have R_46 : mz_rep (upd s.1 3 (nI (a + 1)), s.2.1, s.2.2) u n (a + 1, U, W, fl) := mz_at R _
                      have F_47 : mz_fr s (upd s.1 3 (nI (a + 1)), s.2.1, s.2.2) := mz_fr_at mz_fr_rf
                      obtain ⟨s_45, es_45⟩ : ∃ z, z = (upd s.1 3 (nI (a + 1)), s.2.1, s.2.2) := ⟨_, rfl⟩
                      rw [← es_45] at K_42 R_46 F_47
                      refine aw_aload_n C dX9_readFactor_168 rfl rfl (q := 169) rfl ?_
                      refine aw_iload_n C dX9_readFactor_169 rfl rfl (q := 170) rfl ?_
                      refine aw_bipush (v := 102) C dX9_readFactor_170 (by decide) (q := 172) rfl ?_
                      refine aw_icmp_ne (t := 180) (q := 175) C dX9_readFactor_172 (by decide) rfl (fun c_172 => absurd c_172 (fun z => z c_149)) (fun c_172 => ?_)
                      refine aw_bipush (v := 10) C dX9_readFactor_175 (by decide) (q := 177) rfl ?_
                      refine aw_goto (q := 182) C dX9_readFactor_177 (by decide) ?_
                      refine aw_iconst (v := 0) C dX9_readFactor_182 (by decide) (q := 183) rfl ?_
                      refine cvX9_143_9 (As := [.int 10, .int 0]) (rest := []) C B dX9_readFactor_183 K_42.1 (p_push G M.2.1 o md hm h_41 (d + 3) s_45 K_42 u n (a + 1) U W fl R_46 (by omega) (by omega) 10 0) rfl rfl (Nat.le_of_ble_eq_true rfl) (by omega) (by omega) (by omega) (q := 186) rfl (fun r9 h_48 hr9 => ?_)
                      obtain ⟨s_49, er9, K_50, R_51, F_52, kpx_54⟩ := hr9
                      subst er9
                      have F_53 : mz_fr s s_49 := mz_fr_tr F_47 F_52
                      have kq_55 : kp h h_48 (md_L o md) := kp_in kq_43 kpx_54 (fun _ z => z)
                      show aw G 4 M 186 [.ref o, .int (mz_c u n a), .int (nI dp), .retAddr 0] [] h_48 0 0
                      refine aw_goto (q := 225) C dX9_readFactor_186 (by decide) ?_
                      refine aw_iconst (v := 0) C dX9_readFactor_225 (by decide) (q := 226) rfl ?_
                      refine aw_zret C E dX9_readFactor_226 (rfl) (Nat.le_refl _) (Nat.le_refl _) ?_
                      have hrf : mz_rf u n dp a U W fl = (false, (a + 1, U, (10, 0) :: W, fl)) := by unfold mz_rf; rw [if_neg (pb_0.mp c_4), if_neg (by rintro (z | z | z); exact c_17 z; exact c_23 z; exact c_29 z), if_neg (by rintro (z | z | z | z); exact c_63 z; exact c_69 z; exact c_75 z; exact c_81 z), if_neg c_128, if_pos (Or.inl c_149), if_pos c_172]
                      rw [hrf]
                      exact ⟨_, rfl, K_50, R_51, F_53, kq_55⟩
                    ·
                      refine aw_iload_n C dX9_readFactor_152 rfl rfl (q := 153) rfl ?_
                      refine aw_bipush (v := 45) C dX9_readFactor_153 (by decide) (q := 155) rfl ?_
                      refine aw_icmp_ne (t := 189) (q := 158) C dX9_readFactor_155 (by decide) rfl (fun c_155 => ?_) (fun c_155 => ?_)
                      ·
                        refine aw_iload_n C dX9_readFactor_189 rfl rfl (q := 190) rfl ?_
                        refine aw_bipush (v := 40) C dX9_readFactor_190 (by decide) (q := 192) rfl ?_
                        refine aw_icmp_ne (t := 221) (q := 195) C dX9_readFactor_192 (by decide) rfl (fun c_192 => ?_) (fun c_192 => ?_)
                        ·
                          refine aw_aload_n C dX9_readFactor_221 rfl rfl (q := 222) rfl ?_
                          refine cvX9_120_9 (As := []) (rest := []) C B dX9_readFactor_222 K.1 (p_fail G M.2.1 o md hm h (d + 3) s K u n a U W fl R (by omega)) rfl rfl (Nat.le_of_ble_eq_true rfl) (by omega) (by omega) (by omega) (q := 225) rfl (fun r9 h_56 hr9 => ?_)
                          obtain ⟨s_57, er9, K_58, R_59, F_60, kpx_62⟩ := hr9
                          subst er9
                          have F_61 : mz_fr s s_57 := mz_fr_tr mz_fr_rf F_60
                          have kq_63 : kp h h_56 (md_L o md) := kpx_62
                          show aw G 4 M 225 [.ref o, .int (mz_c u n a), .int (nI dp), .retAddr 0] [] h_56 0 0
                          refine aw_iconst (v := 0) C dX9_readFactor_225 (by decide) (q := 226) rfl ?_
                          refine aw_zret C E dX9_readFactor_226 (rfl) (Nat.le_refl _) (Nat.le_refl _) ?_
                          have hrf : mz_rf u n dp a U W fl = (false, (a, U, W, mz_fl a fl)) := by unfold mz_rf; rw [if_neg (pb_0.mp c_4), if_neg (by rintro (z | z | z); exact c_17 z; exact c_23 z; exact c_29 z), if_neg (by rintro (z | z | z | z); exact c_63 z; exact c_69 z; exact c_75 z; exact c_81 z), if_neg c_128, if_neg (by rintro (z | z); exact c_149 z; exact c_155 z), if_neg (fun z => c_192 z.1)]
                          rw [hrf]
                          exact ⟨_, rfl, K_58, R_59, F_61, kq_63⟩
                        ·
                          refine aw_iload_n C dX9_readFactor_195 rfl rfl (q := 196) rfl ?_
                          refine aw_bipush (v := 8) C dX9_readFactor_196 (by decide) (q := 198) rfl ?_
                          refine aw_icmp_ge (t := 221) (q := 201) C dX9_readFactor_198 (by decide) rfl (fun c_198 => ?_) (fun c_198 => ?_)
                          ·
                            refine aw_aload_n C dX9_readFactor_221 rfl rfl (q := 222) rfl ?_
                            refine cvX9_120_9 (As := []) (rest := []) C B dX9_readFactor_222 K.1 (p_fail G M.2.1 o md hm h (d + 3) s K u n a U W fl R (by omega)) rfl rfl (Nat.le_of_ble_eq_true rfl) (by omega) (by omega) (by omega) (q := 225) rfl (fun r9 h_64 hr9 => ?_)
                            obtain ⟨s_65, er9, K_66, R_67, F_68, kpx_70⟩ := hr9
                            subst er9
                            have F_69 : mz_fr s s_65 := mz_fr_tr mz_fr_rf F_68
                            have kq_71 : kp h h_64 (md_L o md) := kpx_70
                            show aw G 4 M 225 [.ref o, .int (mz_c u n a), .int (nI dp), .retAddr 0] [] h_64 0 0
                            refine aw_iconst (v := 0) C dX9_readFactor_225 (by decide) (q := 226) rfl ?_
                            refine aw_zret C E dX9_readFactor_226 (rfl) (Nat.le_refl _) (Nat.le_refl _) ?_
                            have hrf : mz_rf u n dp a U W fl = (false, (a, U, W, mz_fl a fl)) := by unfold mz_rf; rw [if_neg (pb_0.mp c_4), if_neg (by rintro (z | z | z); exact c_17 z; exact c_23 z; exact c_29 z), if_neg (by rintro (z | z | z | z); exact c_63 z; exact c_69 z; exact c_75 z; exact c_81 z), if_neg c_128, if_neg (by rintro (z | z); exact c_149 z; exact c_155 z), if_neg (fun z => absurd (ni_le dp 8 rfl rfl (by omega) (by decide) c_198) (by omega))]
                            rw [hrf]
                            exact ⟨_, rfl, K_66, R_67, F_69, kq_71⟩
                          ·
                            refine aw_aload_n C dX9_readFactor_201 rfl rfl (q := 202) rfl ?_
                            refine aw_dup C dX9_readFactor_202 rfl (q := 203) rfl ?_
                            refine gfX9_96_9 (v := .int (s.1 3)) C dX9_readFactor_203 K.1 rfl (q := 206) rfl ?_
                            refine aw_iconst (v := 1) C dX9_readFactor_206 (by decide) (q := 207) rfl ?_
                            refine aw_iadd C dX9_readFactor_207 (q := 208) rfl ?_
                            rw [show (s.1 3) + 1 = nI (a + 1) from by rw [R.2.2.1]; exact nI_1 _]
                            refine pfX9_96_9 C dX9_readFactor_208 K.1 rfl rfl (Nat.le_of_ble_eq_true rfl) (q := 211) rfl ?_
                            show aw G 4 M 211 [.ref o, .int (mz_c u n a), .int (nI dp), .retAddr 0] [] (ac_up h o (.inr (9, md_fs md ((upd s.1 3 (nI (a + 1)), s.2.1, s.2.2).1)))) 0 0
                            obtain ⟨h_72, eh_72⟩ : ∃ z9, z9 = ac_up h o (.inr (9, md_fs md ((upd s.1 3 (nI (a + 1)), s.2.1, s.2.2).1))) := ⟨_, rfl⟩
                            rw [← eh_72]
                            have kpx_75 : kp h h_72 [o] := by rw [eh_72]; exact kp_up (kp_cons o kp_rf) _ _ (by simp)
                            have K_73 : md_ok h_72 o md (upd s.1 3 (nI (a + 1)), s.2.1, s.2.2) := md_J (s := (s.1, s.2.1, s.2.2)) K (by rw [eh_72]; exact ac_up_s _ _ _) kpx_75
                            have kq_74 : kp h h_72 (md_L o md) := kp_mono kpx_75 md_s0
                            have R_77 : mz_rep (upd s.1 3 (nI (a + 1)), s.2.1, s.2.2) u n (a + 1, U, W, fl) := mz_at R _
                            have F_78 : mz_fr s (upd s.1 3 (nI (a + 1)), s.2.1, s.2.2) := mz_fr_at mz_fr_rf
                            obtain ⟨s_76, es_76⟩ : ∃ z, z = (upd s.1 3 (nI (a + 1)), s.2.1, s.2.2) := ⟨_, rfl⟩
                            rw [← es_76] at K_73 R_77 F_78
                            refine aw_aload_n C dX9_readFactor_211 rfl rfl (q := 212) rfl ?_
                            refine aw_bipush (v := 17) C dX9_readFactor_212 (by decide) (q := 214) rfl ?_
                            refine aw_iconst (v := 0) C dX9_readFactor_214 (by decide) (q := 215) rfl ?_
                            refine cvX9_143_9 (As := [.int 17, .int 0]) (rest := []) C B dX9_readFactor_215 K_73.1 (p_push G M.2.1 o md hm h_72 (d + 3) s_76 K_73 u n (a + 1) U W fl R_77 (by omega) (by omega) 17 0) rfl rfl (Nat.le_of_ble_eq_true rfl) (by omega) (by omega) (by omega) (q := 218) rfl (fun r9 h_79 hr9 => ?_)
                            obtain ⟨s_80, er9, K_81, R_82, F_83, kpx_85⟩ := hr9
                            subst er9
                            have F_84 : mz_fr s s_80 := mz_fr_tr F_78 F_83
                            have kq_86 : kp h h_79 (md_L o md) := kp_in kq_74 kpx_85 (fun _ z => z)
                            show aw G 4 M 218 [.ref o, .int (mz_c u n a), .int (nI dp), .retAddr 0] [] h_79 0 0
                            refine aw_goto (q := 225) C dX9_readFactor_218 (by decide) ?_
                            refine aw_iconst (v := 0) C dX9_readFactor_225 (by decide) (q := 226) rfl ?_
                            refine aw_zret C E dX9_readFactor_226 (rfl) (Nat.le_refl _) (Nat.le_refl _) ?_
                            have hrf : mz_rf u n dp a U W fl = (false, (a + 1, U, (17, 0) :: W, fl)) := by unfold mz_rf; rw [if_neg (pb_0.mp c_4), if_neg (by rintro (z | z | z); exact c_17 z; exact c_23 z; exact c_29 z), if_neg (by rintro (z | z | z | z); exact c_63 z; exact c_69 z; exact c_75 z; exact c_81 z), if_neg c_128, if_neg (by rintro (z | z); exact c_149 z; exact c_155 z), if_pos ⟨c_192, ni_nle dp 8 rfl rfl (by omega) (by decide) c_198⟩]
                            rw [hrf]
                            exact ⟨_, rfl, K_81, R_82, F_84, kq_86⟩
                      ·
                        refine aw_aload_n C dX9_readFactor_158 rfl rfl (q := 159) rfl ?_
                        refine aw_dup C dX9_readFactor_159 rfl (q := 160) rfl ?_
                        refine gfX9_96_9 (v := .int (s.1 3)) C dX9_readFactor_160 K.1 rfl (q := 163) rfl ?_
                        refine aw_iconst (v := 1) C dX9_readFactor_163 (by decide) (q := 164) rfl ?_
                        refine aw_iadd C dX9_readFactor_164 (q := 165) rfl ?_
                        rw [show (s.1 3) + 1 = nI (a + 1) from by rw [R.2.2.1]; exact nI_1 _]
                        refine pfX9_96_9 C dX9_readFactor_165 K.1 rfl rfl (Nat.le_of_ble_eq_true rfl) (q := 168) rfl ?_
                        show aw G 4 M 168 [.ref o, .int (mz_c u n a), .int (nI dp), .retAddr 0] [] (ac_up h o (.inr (9, md_fs md ((upd s.1 3 (nI (a + 1)), s.2.1, s.2.2).1)))) 0 0
                        obtain ⟨h_87, eh_87⟩ : ∃ z9, z9 = ac_up h o (.inr (9, md_fs md ((upd s.1 3 (nI (a + 1)), s.2.1, s.2.2).1))) := ⟨_, rfl⟩
                        rw [← eh_87]
                        have kpx_90 : kp h h_87 [o] := by rw [eh_87]; exact kp_up (kp_cons o kp_rf) _ _ (by simp)
                        have K_88 : md_ok h_87 o md (upd s.1 3 (nI (a + 1)), s.2.1, s.2.2) := md_J (s := (s.1, s.2.1, s.2.2)) K (by rw [eh_87]; exact ac_up_s _ _ _) kpx_90
                        have kq_89 : kp h h_87 (md_L o md) := kp_mono kpx_90 md_s0
                        have R_92 : mz_rep (upd s.1 3 (nI (a + 1)), s.2.1, s.2.2) u n (a + 1, U, W, fl) := mz_at R _
                        have F_93 : mz_fr s (upd s.1 3 (nI (a + 1)), s.2.1, s.2.2) := mz_fr_at mz_fr_rf
                        obtain ⟨s_91, es_91⟩ : ∃ z, z = (upd s.1 3 (nI (a + 1)), s.2.1, s.2.2) := ⟨_, rfl⟩
                        rw [← es_91] at K_88 R_92 F_93
                        refine aw_aload_n C dX9_readFactor_168 rfl rfl (q := 169) rfl ?_
                        refine aw_iload_n C dX9_readFactor_169 rfl rfl (q := 170) rfl ?_
                        refine aw_bipush (v := 102) C dX9_readFactor_170 (by decide) (q := 172) rfl ?_
                        refine aw_icmp_ne (t := 180) (q := 175) C dX9_readFactor_172 (by decide) rfl (fun c_172 => ?_) (fun c_172 => absurd c_172 (c_149))
                        refine aw_bipush (v := 11) C dX9_readFactor_180 (by decide) (q := 182) rfl ?_
                        refine aw_iconst (v := 0) C dX9_readFactor_182 (by decide) (q := 183) rfl ?_
                        refine cvX9_143_9 (As := [.int 11, .int 0]) (rest := []) C B dX9_readFactor_183 K_88.1 (p_push G M.2.1 o md hm h_87 (d + 3) s_91 K_88 u n (a + 1) U W fl R_92 (by omega) (by omega) 11 0) rfl rfl (Nat.le_of_ble_eq_true rfl) (by omega) (by omega) (by omega) (q := 186) rfl (fun r9 h_94 hr9 => ?_)
                        obtain ⟨s_95, er9, K_96, R_97, F_98, kpx_100⟩ := hr9
                        subst er9
                        have F_99 : mz_fr s s_95 := mz_fr_tr F_93 F_98
                        have kq_101 : kp h h_94 (md_L o md) := kp_in kq_89 kpx_100 (fun _ z => z)
                        show aw G 4 M 186 [.ref o, .int (mz_c u n a), .int (nI dp), .retAddr 0] [] h_94 0 0
                        refine aw_goto (q := 225) C dX9_readFactor_186 (by decide) ?_
                        refine aw_iconst (v := 0) C dX9_readFactor_225 (by decide) (q := 226) rfl ?_
                        refine aw_zret C E dX9_readFactor_226 (rfl) (Nat.le_refl _) (Nat.le_refl _) ?_
                        have hrf : mz_rf u n dp a U W fl = (false, (a + 1, U, (11, 0) :: W, fl)) := by unfold mz_rf; rw [if_neg (pb_0.mp c_4), if_neg (by rintro (z | z | z); exact c_17 z; exact c_23 z; exact c_29 z), if_neg (by rintro (z | z | z | z); exact c_63 z; exact c_69 z; exact c_75 z; exact c_81 z), if_neg c_128, if_pos (Or.inr c_155), if_neg c_172]
                        rw [hrf]
                        exact ⟨_, rfl, K_96, R_97, F_99, kq_101⟩
                  ·
                    refine aw_aload_n C dX9_readFactor_131 rfl rfl (q := 132) rfl ?_
                    refine cvX9_130_9 (As := []) (rest := []) C B dX9_readFactor_132 K.1 (p_kind G M.2.1 o md hm h (d + 2) s K u n a U W fl R (by omega)) rfl rfl (Nat.le_of_ble_eq_true rfl) (by omega) (by omega) (by omega) (q := 135) rfl (fun r9 h_102 hr9 => ?_)
                    obtain ⟨s_103, er9, K_104, R_105, F_106, kpx_108⟩ := hr9
                    subst er9
                    have F_107 : mz_fr s s_103 := mz_fr_tr mz_fr_rf F_106
                    have kq_109 : kp h h_102 (md_L o md) := kpx_108
                    show aw G 4 M 135 [.ref o, .int (mz_c u n a), .int (nI dp), .retAddr 0] [.int (mz_c u n (a + 1) - 48)] h_102 0 0
                    refine aw_istore_n (ls' := [.ref o, .int (mz_c u n a), .int (nI dp), .int (mz_c u n (a + 1) - 48)]) C dX9_readFactor_135 rfl (by decide) rfl (q := 136) rfl ?_
                    refine aw_aload_n C dX9_readFactor_136 rfl rfl (q := 137) rfl ?_
                    refine aw_bipush (v := 9) C dX9_readFactor_137 (by decide) (q := 139) rfl ?_
                    refine aw_iload_n C dX9_readFactor_139 rfl rfl (q := 140) rfl ?_
                    refine cvX9_143_9 (As := [.int 9, .int (mz_c u n (a + 1) - 48)]) (rest := []) C B dX9_readFactor_140 K_104.1 (p_push G M.2.1 o md hm h_102 (d + 3) s_103 K_104 u n (a + 1 + 1) U W (mz_kf u n a fl) R_105 (by omega) (by omega) 9 (mz_c u n (a + 1) - 48)) rfl rfl (Nat.le_of_ble_eq_true rfl) (by omega) (by omega) (by omega) (q := 143) rfl (fun r9 h_110 hr9 => ?_)
                    obtain ⟨s_111, er9, K_112, R_113, F_114, kpx_116⟩ := hr9
                    subst er9
                    have F_115 : mz_fr s s_111 := mz_fr_tr F_107 F_114
                    have kq_117 : kp h h_110 (md_L o md) := kp_in kq_109 kpx_116 (fun _ z => z)
                    show aw G 4 M 143 [.ref o, .int (mz_c u n a), .int (nI dp), .int (mz_c u n (a + 1) - 48)] [] h_110 0 0
                    refine aw_goto (q := 225) C dX9_readFactor_143 (by decide) ?_
                    refine aw_iconst (v := 0) C dX9_readFactor_225 (by decide) (q := 226) rfl ?_
                    refine aw_zret C E dX9_readFactor_226 (rfl) (Nat.le_refl _) (Nat.le_refl _) ?_
                    have hrf : mz_rf u n dp a U W fl = (false, (a + 1 + 1, U, (9, mz_c u n (a + 1) - 48) :: W, mz_kf u n a fl)) := by unfold mz_rf; rw [if_neg (pb_0.mp c_4), if_neg (by rintro (z | z | z); exact c_17 z; exact c_23 z; exact c_29 z), if_neg (by rintro (z | z | z | z); exact c_63 z; exact c_69 z; exact c_75 z; exact c_81 z), if_pos c_128]
                    rw [hrf]
                    exact ⟨_, rfl, K_112, R_113, F_115, kq_117⟩
                ·
                  refine aw_aload_n C dX9_readFactor_84 rfl rfl (q := 85) rfl ?_
                  refine aw_iload_n C dX9_readFactor_85 rfl rfl (q := 86) rfl ?_
                  refine aw_bipush (v := 110) C dX9_readFactor_86 (by decide) (q := 88) rfl ?_
                  refine aw_icmp_ne (t := 95) (q := 91) C dX9_readFactor_88 (by decide) rfl (fun c_88 => ?_) (fun c_88 => absurd c_88 (c_63))
                  refine aw_iload_n C dX9_readFactor_95 rfl rfl (q := 96) rfl ?_
                  refine aw_bipush (v := 97) C dX9_readFactor_96 (by decide) (q := 98) rfl ?_
                  refine aw_icmp_ne (t := 106) (q := 101) C dX9_readFactor_98 (by decide) rfl (fun c_98 => ?_) (fun c_98 => absurd c_98 (c_69))
                  refine aw_iload_n C dX9_readFactor_106 rfl rfl (q := 107) rfl ?_
                  refine aw_bipush (v := 115) C dX9_readFactor_107 (by decide) (q := 109) rfl ?_
                  refine aw_icmp_ne (t := 117) (q := 112) C dX9_readFactor_109 (by decide) rfl (fun c_109 => ?_) (fun c_109 => absurd c_109 (c_75))
                  refine aw_bipush (v := 8) C dX9_readFactor_117 (by decide) (q := 119) rfl ?_
                  refine cvX9_140_9 (As := [.int 8]) (rest := []) C B dX9_readFactor_119 K.1 (p_readKind G M.2.1 o md hm h d s K u n a U W fl R (by omega) hb 8) rfl rfl (Nat.le_of_ble_eq_true rfl) (by omega) (by omega) (by omega) (q := 122) rfl (fun r9 h_118 hr9 => ?_)
                  obtain ⟨s_119, er9, K_120, R_121, F_122, kpx_124⟩ := hr9
                  subst er9
                  have F_123 : mz_fr s s_119 := mz_fr_tr mz_fr_rf F_122
                  have kq_125 : kp h h_118 (md_L o md) := kpx_124
                  show aw G 4 M 122 [.ref o, .int (mz_c u n a), .int (nI dp), .retAddr 0] [] h_118 0 0
                  refine aw_goto (q := 227) C dX9_readFactor_122 (by decide) ?_
                  refine aw_iconst (v := 1) C dX9_readFactor_227 (by decide) (q := 228) rfl ?_
                  refine aw_zret C E dX9_readFactor_228 (rfl) (Nat.le_refl _) (Nat.le_refl _) ?_
                  have hrf : mz_rf u n dp a U W fl = (true, (a + 1 + 1, (mz_pp 9 11 W ((8, mz_c u n (a + 1) - 48) :: U)).2, (mz_pp 9 11 W ((8, mz_c u n (a + 1) - 48) :: U)).1, mz_kf u n a fl)) := by unfold mz_rf; rw [if_neg (pb_0.mp c_4), if_neg (by rintro (z | z | z); exact c_17 z; exact c_23 z; exact c_29 z), if_pos (Or.inr (Or.inr (Or.inr c_81))), show mz_k (mz_c u n a) = _ from by unfold mz_k; rw [if_neg c_88, if_neg c_98, if_neg c_109]]
                  rw [hrf]
                  exact ⟨_, rfl, K_120, R_121, F_123, kq_125⟩
        ·
          refine aw_aload_n C dX9_readFactor_32 rfl rfl (q := 33) rfl ?_
          refine aw_iload_n C dX9_readFactor_33 rfl rfl (q := 34) rfl ?_
          refine aw_bipush (v := 108) C dX9_readFactor_34 (by decide) (q := 36) rfl ?_
          refine aw_icmp_ne (t := 43) (q := 39) C dX9_readFactor_36 (by decide) rfl (fun c_36 => ?_) (fun c_36 => absurd c_36 (c_17))
          refine aw_iload_n C dX9_readFactor_43 rfl rfl (q := 44) rfl ?_
          refine aw_bipush (v := 119) C dX9_readFactor_44 (by decide) (q := 46) rfl ?_
          refine aw_icmp_ne (t := 53) (q := 49) C dX9_readFactor_46 (by decide) rfl (fun c_46 => ?_) (fun c_46 => absurd c_46 (c_23))
          refine aw_iconst (v := 4) C dX9_readFactor_53 (by decide) (q := 54) rfl ?_
          refine cvX9_136_9 (As := [.int 4]) (rest := []) C B dX9_readFactor_54 K.1 (p_readLetter G M.2.1 o md hm h d s K u n a U W fl R (by omega) hb 4) rfl rfl (Nat.le_of_ble_eq_true rfl) (by omega) (by omega) (by omega) (q := 57) rfl (fun r9 h_126 hr9 => ?_)
          obtain ⟨s_127, er9, K_128, R_129, F_130, kpx_132⟩ := hr9
          subst er9
          have F_131 : mz_fr s s_127 := mz_fr_tr mz_fr_rf F_130
          have kq_133 : kp h h_126 (md_L o md) := kpx_132
          show aw G 4 M 57 [.ref o, .int (mz_c u n a), .int (nI dp), .retAddr 0] [] h_126 0 0
          refine aw_goto (q := 227) C dX9_readFactor_57 (by decide) ?_
          refine aw_iconst (v := 1) C dX9_readFactor_227 (by decide) (q := 228) rfl ?_
          refine aw_zret C E dX9_readFactor_228 (rfl) (Nat.le_refl _) (Nat.le_refl _) ?_
          have hrf : mz_rf u n dp a U W fl = (true, (a + 1, (mz_pp 9 11 W ((4, 0) :: U)).2, (mz_pp 9 11 W ((4, 0) :: U)).1, fl)) := by unfold mz_rf; rw [if_neg (pb_0.mp c_4), if_pos (Or.inr (Or.inr c_29)), show mz_l (mz_c u n a) = _ from by unfold mz_l; rw [if_neg c_36, if_neg c_46]]
          rw [hrf]
          exact ⟨_, rfl, K_128, R_129, F_131, kq_133⟩
  ·
    refine aw_aload_n C dX9_readFactor_7 rfl rfl (q := 8) rfl ?_
    refine cvX9_133_9 (As := []) (rest := []) C B dX9_readFactor_8 K.1 (p_readNumber G M.2.1 o md hm h d s K u n a U W fl R (by omega) hb) rfl rfl (Nat.le_of_ble_eq_true rfl) (by omega) (by omega) (by omega) (q := 11) rfl (fun r9 h_134 hr9 => ?_)
    obtain ⟨s_135, er9, K_136, R_137, F_138, kpx_140⟩ := hr9
    subst er9
    have F_139 : mz_fr s s_135 := mz_fr_tr mz_fr_rf F_138
    have kq_141 : kp h h_134 (md_L o md) := kpx_140
    show aw G 4 M 11 [.ref o, .int (mz_c u n a), .int (nI dp), .retAddr 0] [] h_134 0 0
    refine aw_goto (q := 227) C dX9_readFactor_11 (by decide) ?_
    refine aw_iconst (v := 1) C dX9_readFactor_227 (by decide) (q := 228) rfl ?_
    refine aw_zret C E dX9_readFactor_228 (rfl) (Nat.le_refl _) (Nat.le_refl _) ?_
    have hrf : mz_rf u n dp a U W fl = (true, ((cu_num u n 6 a 0).2, (mz_pp 9 11 W ((1, (cu_num u n 6 a 0).1) :: U)).2, (mz_pp 9 11 W ((1, (cu_num u n 6 a 0).1) :: U)).1, fl)) := by unfold mz_rf; rw [if_pos (pb_n c_4)]
    rw [hrf]
    exact ⟨_, rfl, K_136, R_137, F_139, kq_141⟩
