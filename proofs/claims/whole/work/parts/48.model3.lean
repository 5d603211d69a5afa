/-! The reference: machine, fault, onFace, face -/
def mo_ix (g e : Int32) : Nat := (10 * g + e).toNatClampNeg
theorem mo_ixin {g e : Int32} (h1 : gt_bl g 10) (h2 : gt_bl e 10) : vp_in (10 * g + e) 100 := by
  obtain ⟨a, ha, rfl⟩ := gt_ix (b := 10) (by decide) h1
  obtain ⟨b, hb, rfl⟩ := gt_ix (b := 10) (by decide) h2
  rw [show (10 : Int32) = nI 10 from rfl, show nI 10 * nI a = nI (10 * a) from (Int32.ofNat_mul 10 a).symm, nI_add]
  exact vp_in_nI (by omega) (by decide)
def mo_machine (s : md_S) (g e : Int32) : Int32 × md_S := if gt_bl g 10 ∧ gt_bl e 10 then (s.2.1 39 (mo_ix g e) + 1, (upd s.1 0 0, va_up s.2.1 39 (upd (s.2.1 39) (mo_ix g e) (s.2.1 39 (mo_ix g e) + 1)), s.2.2)) else (0, (upd s.1 0 1, s.2.1, s.2.2))
set_option maxHeartbeats 4000000 in
set_option maxRecDepth 100000 in
theorem m_machine (G : ac_G) (l : Launch) (o : Nat) (md : Nat → Nat) (hm : md_inj md) (h : ac_H) (d : Nat) (s : md_S) (K : md_ok h o md s) (g e : Int32) : ac_Met G l yX9_machine cX9_machine 3 (some .int) (d + 1) 0 0 [.ref o, .int g, .int e] h (fun r9 h9 => r9 = some (.int (mo_machine s g e).1) ∧ md_ok h9 o md (mo_machine s g e).2 ∧ kp h h9 (md_L o md)) := by
  refine ac_of (ls := [.ref o, .int g, .int e]) (by decide +kernel) rfl (Nat.le_of_ble_eq_true rfl) (fun M hl C B E hnm => ?_)
  refine aw_aload_n C dX9_machine_0 rfl rfl (q := 1) rfl ?_
  refine aw_iload_n C dX9_machine_1 rfl rfl (q := 2) rfl ?_
  refine csX9_276 (As := [.int g]) (rest := [.ref o]) C B dX9_machine_2 (m_isGrade G M.2.1 h d g) rfl rfl (Nat.le_of_ble_eq_true rfl) (by omega) (by omega) (by omega) (q := 5) rfl (fun r9 h9 hr9 => ?_)
  obtain ⟨e9, er9⟩ := hr9
  subst er9; rw [e9]
  show aw G 3 M 5 [.ref o, .int g, .int e] [.int (pb_b (¬ g < 0 ∧ ¬ 9 < g)), .ref o] h 0 0
  refine aw_if_eq (t := 19) (q := 8) C dX9_machine_5 (by decide) rfl (fun c_5 => ?_) (fun c_5 => ?_)
  ·
    refine aw_iconst (v := 1) C dX9_machine_19 (by decide) (q := 20) rfl ?_
    refine pfX9_89_9 C dX9_machine_20 K.1 rfl rfl (Nat.le_of_ble_eq_true rfl) (q := 23) rfl ?_
    show aw G 3 M 23 [.ref o, .int g, .int e] [] (ac_up h o (.inr (9, md_fs md ((upd s.1 0 1, s.2.1, s.2.2).1)))) 0 0
    obtain ⟨h_1, eh_1⟩ : ∃ z9, z9 = ac_up h o (.inr (9, md_fs md ((upd s.1 0 1, s.2.1, s.2.2).1))) := ⟨_, rfl⟩
    rw [← eh_1]
    have kpx_4 : kp h h_1 [o] := by rw [eh_1]; exact kp_up (kp_cons o kp_rf) _ _ (by simp)
    have K_2 : md_ok h_1 o md (upd s.1 0 1, s.2.1, s.2.2) := md_J (s := (s.1, s.2.1, s.2.2)) K (by rw [eh_1]; exact ac_up_s _ _ _) kpx_4
    have kq_3 : kp h h_1 (md_L o md) := kp_mono kpx_4 md_s0
    refine aw_aload_n C dX9_machine_23 rfl rfl (q := 24) rfl ?_
    refine gfX9_89_9 (v := .int 1) C dX9_machine_24 K_2.1 rfl (q := 27) rfl ?_
    refine aw_if_le (t := 32) (q := 30) C dX9_machine_27 (by decide) rfl (fun c_27 => absurd c_27 (by decide)) (fun c_27 => ?_)
    refine aw_iconst (v := 0) C dX9_machine_30 (by decide) (q := 31) rfl ?_
    refine aw_iret C E dX9_machine_31 (Nat.le_refl _) (Nat.le_refl _) ?_
    rw [show mo_machine s g e = (0, (upd s.1 0 1, s.2.1, s.2.2)) from by unfold mo_machine; rw [if_neg (fun z => pb_0.mp c_5 (mo_g.mpr z.1))]]
    exact ⟨rfl, K_2, kq_3⟩
  ·
    refine aw_iload_n C dX9_machine_8 rfl rfl (q := 9) rfl ?_
    refine csX9_276 (As := [.int e]) (rest := [.ref o]) C B dX9_machine_9 (m_isGrade G M.2.1 h d e) rfl rfl (Nat.le_of_ble_eq_true rfl) (by omega) (by omega) (by omega) (q := 12) rfl (fun r9 h9 hr9 => ?_)
    obtain ⟨e9, er9⟩ := hr9
    subst er9; rw [e9]
    show aw G 3 M 12 [.ref o, .int g, .int e] [.int (pb_b (¬ e < 0 ∧ ¬ 9 < e)), .ref o] h 0 0
    refine aw_if_eq (t := 19) (q := 15) C dX9_machine_12 (by decide) rfl (fun c_12 => ?_) (fun c_12 => ?_)
    ·
      refine aw_iconst (v := 1) C dX9_machine_19 (by decide) (q := 20) rfl ?_
      refine pfX9_89_9 C dX9_machine_20 K.1 rfl rfl (Nat.le_of_ble_eq_true rfl) (q := 23) rfl ?_
      show aw G 3 M 23 [.ref o, .int g, .int e] [] (ac_up h o (.inr (9, md_fs md ((upd s.1 0 1, s.2.1, s.2.2).1)))) 0 0
      obtain ⟨h_5, eh_5⟩ : ∃ z9, z9 = ac_up h o (.inr (9, md_fs md ((upd s.1 0 1, s.2.1, s.2.2).1))) := ⟨_, rfl⟩
      rw [← eh_5]
      have kpx_8 : kp h h_5 [o] := by rw [eh_5]; exact kp_up (kp_cons o kp_rf) _ _ (by simp)
      have K_6 : md_ok h_5 o md (upd s.1 0 1, s.2.1, s.2.2) := md_J (s := (s.1, s.2.1, s.2.2)) K (by rw [eh_5]; exact ac_up_s _ _ _) kpx_8
      have kq_7 : kp h h_5 (md_L o md) := kp_mono kpx_8 md_s0
      refine aw_aload_n C dX9_machine_23 rfl rfl (q := 24) rfl ?_
      refine gfX9_89_9 (v := .int 1) C dX9_machine_24 K_6.1 rfl (q := 27) rfl ?_
      refine aw_if_le (t := 32) (q := 30) C dX9_machine_27 (by decide) rfl (fun c_27 => absurd c_27 (by decide)) (fun c_27 => ?_)
      refine aw_iconst (v := 0) C dX9_machine_30 (by decide) (q := 31) rfl ?_
      refine aw_iret C E dX9_machine_31 (Nat.le_refl _) (Nat.le_refl _) ?_
      rw [show mo_machine s g e = (0, (upd s.1 0 1, s.2.1, s.2.2)) from by unfold mo_machine; rw [if_neg (fun z => pb_0.mp c_12 (mo_g.mpr z.2))]]
      exact ⟨rfl, K_6, kq_7⟩
    ·
      refine aw_iconst (v := 0) C dX9_machine_15 (by decide) (q := 16) rfl ?_
      refine aw_goto (q := 20) C dX9_machine_16 (by decide) ?_
      refine pfX9_89_9 C dX9_machine_20 K.1 rfl rfl (Nat.le_of_ble_eq_true rfl) (q := 23) rfl ?_
      show aw G 3 M 23 [.ref o, .int g, .int e] [] (ac_up h o (.inr (9, md_fs md ((upd s.1 0 0, s.2.1, s.2.2).1)))) 0 0
      obtain ⟨h_9, eh_9⟩ : ∃ z9, z9 = ac_up h o (.inr (9, md_fs md ((upd s.1 0 0, s.2.1, s.2.2).1))) := ⟨_, rfl⟩
      rw [← eh_9]
      have kpx_12 : kp h h_9 [o] := by rw [eh_9]; exact kp_up (kp_cons o kp_rf) _ _ (by simp)
      have K_10 : md_ok h_9 o md (upd s.1 0 0, s.2.1, s.2.2) := md_J (s := (s.1, s.2.1, s.2.2)) K (by rw [eh_9]; exact ac_up_s _ _ _) kpx_12
      have kq_11 : kp h h_9 (md_L o md) := kp_mono kpx_12 md_s0
      refine aw_aload_n C dX9_machine_23 rfl rfl (q := 24) rfl ?_
      refine gfX9_89_9 (v := .int 0) C dX9_machine_24 K_10.1 rfl (q := 27) rfl ?_
      refine aw_if_le (t := 32) (q := 30) C dX9_machine_27 (by decide) rfl (fun c_27 => ?_) (fun c_27 => absurd c_27 (by decide))
      refine aw_aload_n C dX9_machine_32 rfl rfl (q := 33) rfl ?_
      refine gfX9_77_9 (v := .ref (md 39)) C dX9_machine_33 K_10.1 rfl (q := 36) rfl ?_
      refine aw_bipush (v := 10) C dX9_machine_36 (by decide) (q := 38) rfl ?_
      refine aw_iload_n C dX9_machine_38 rfl rfl (q := 39) rfl ?_
      refine aw_imul C dX9_machine_39 (q := 40) rfl ?_
      refine aw_iload_n C dX9_machine_40 rfl rfl (q := 41) rfl ?_
      refine aw_iadd C dX9_machine_41 (q := 42) rfl ?_
      refine aw_dup2_11 C dX9_machine_42 rfl rfl (q := 43) rfl ?_
      refine ay_iald (N := 100) (f := s.2.1 39) (j := mo_ix g e) C dX9_machine_43 (K_10.2.1 39 (by decide)) (mo_ixin (mo_g.mp (pb_n c_5)) (mo_g.mp (pb_n c_12))) (rfl) (q := 44) rfl ?_
      refine aw_iconst (v := 1) C dX9_machine_44 (by decide) (q := 45) rfl ?_
      refine aw_iadd C dX9_machine_45 (q := 46) rfl ?_
      refine ay_iast (N := 100) (f := s.2.1 39) (j := mo_ix g e) C dX9_machine_46 (K_10.2.1 39 (by decide)) (mo_ixin (mo_g.mp (pb_n c_5)) (mo_g.mp (pb_n c_12))) (rfl) (q := 47) rfl ?_
      show aw G 3 M 47 [.ref o, .int g, .int e] [] (ac_up h_9 (md 39) (.inl (1, 100, .inl (upd (s.2.1 39) (mo_ix g e) (((s.2.1 39) (mo_ix g e)) + 1))))) 0 0
      obtain ⟨h_13, eh_13⟩ : ∃ z9, z9 = ac_up h_9 (md 39) (.inl (1, 100, .inl (upd (s.2.1 39) (mo_ix g e) (((s.2.1 39) (mo_ix g e)) + 1)))) := ⟨_, rfl⟩
      rw [← eh_13]
      have kpx_16 : kp h_9 h_13 [md 39] := by rw [eh_13]; exact kp_up (kp_cons _ kp_rf) _ _ (by simp)
      have K_14 : md_ok h_13 o md (upd s.1 0 0, va_up s.2.1 39 (upd (s.2.1 39) (mo_ix g e) (((s.2.1 39) (mo_ix g e)) + 1)), s.2.2) := md_A (s := (upd s.1 0 0, s.2.1, s.2.2)) hm K_10 (j := 39) (by decide) (by rw [eh_13]; exact ac_up_s _ _ _) kpx_16
      have kq_15 : kp h h_13 (md_L o md) := kp_in kq_11 kpx_16 (md_sj (by decide))
      refine aw_aload_n C dX9_machine_47 rfl rfl (q := 48) rfl ?_
      refine gfX9_77_9 (v := .ref (md 39)) C dX9_machine_48 K_14.1 rfl (q := 51) rfl ?_
      refine aw_bipush (v := 10) C dX9_machine_51 (by decide) (q := 53) rfl ?_
      refine aw_iload_n C dX9_machine_53 rfl rfl (q := 54) rfl ?_
      refine aw_imul C dX9_machine_54 (q := 55) rfl ?_
      refine aw_iload_n C dX9_machine_55 rfl rfl (q := 56) rfl ?_
      refine aw_iadd C dX9_machine_56 (q := 57) rfl ?_
      refine ay_iald (N := 100) (f := upd (s.2.1 39) (mo_ix g e) (((s.2.1 39) (mo_ix g e)) + 1)) (j := mo_ix g e) C dX9_machine_57 (K_14.2.1 39 (by decide)) (mo_ixin (mo_g.mp (pb_n c_5)) (mo_g.mp (pb_n c_12))) (rfl) (q := 58) rfl ?_
      refine aw_iret C E dX9_machine_58 (Nat.le_refl _) (Nat.le_refl _) ?_
      rw [show mo_machine s g e = (s.2.1 39 (mo_ix g e) + 1, (upd s.1 0 0, va_up s.2.1 39 (upd (s.2.1 39) (mo_ix g e) (s.2.1 39 (mo_ix g e) + 1)), s.2.2)) from by unfold mo_machine; rw [if_pos ⟨mo_g.mp (pb_n c_5), mo_g.mp (pb_n c_12)⟩]]
      exact ⟨by rw [show upd (s.2.1 39) (mo_ix g e) (s.2.1 39 (mo_ix g e) + 1) (mo_ix g e) = s.2.1 39 (mo_ix g e) + 1 from if_pos rfl], K_14, kq_15⟩
def mo_has (e : Int32) (i : Nat) : Prop := e >>> (nI i &&& 31) &&& 1 = 1
def mo_onF (F : Nat → Int32) (k e : Int32) : Nat → Int64
  | 0 => 0
  | i + 1 => if (e >>> (nI i &&& 31) &&& 1 = 1) ∧ F i = k then mo_onF F k e i + 1 else mo_onF F k e i
set_option maxHeartbeats 4000000 in
set_option maxRecDepth 100000 in
theorem ml_onFace {G : ac_G} {M : ac_M} {o : Nat} {md : Nat → Nat} (hm : md_inj md) {h : ac_H} {d c : Nat} {s : md_S} {k e : Int32} (K : md_ok h o md s) (hc : s.1 20 = nI c) (hc10 : c ≤ 10) (C : ac_MC G RX9 cX9_onFace 6 (some .long) M) (B : ac_Bd M (d + 1) 0 0) (E : ac_End G (pq h (some (.long (mo_onF (s.2.1 21) k e c)))) 0 0 M) :
    ∀ (m i : Nat), i + m = c → aw G 6 M 5 [.ref o, .int k, .int e, .long (mo_onF (s.2.1 21) k e i), .retAddr 0, .int (nI i)] [] h 0 0 := by
  intro m
  induction m with
  | zero =>
    intro i hi
    have hi2 : i = c := by omega
    subst hi2
    refine aw_iload C dX9_onFace_5 rfl (q := 7) rfl ?_
    refine aw_aload_n C dX9_onFace_7 rfl rfl (q := 8) rfl ?_
    refine gfX9_213_9 (v := .int (s.1 20)) C dX9_onFace_8 K.1 rfl (q := 11) rfl ?_
    refine aw_icmp_ge (t := 48) (q := 14) C dX9_onFace_11 (by decide) rfl (fun c_11 => ?_) (fun c_11 => absurd c_11 (fun z => z (by rw [hc]; exact nI_le (Nat.le_refl _) (by omega))))
    refine aw_lload_n C dX9_onFace_48 rfl rfl (q := 49) rfl ?_
    refine aw_lret C E dX9_onFace_49 (Nat.le_refl _) (Nat.le_refl _) ?_
    exact ⟨rfl, rfl⟩
  | succ m ih =>
    intro i hi
    refine aw_iload C dX9_onFace_5 rfl (q := 7) rfl ?_
    refine aw_aload_n C dX9_onFace_7 rfl rfl (q := 8) rfl ?_
    refine gfX9_213_9 (v := .int (s.1 20)) C dX9_onFace_8 K.1 rfl (q := 11) rfl ?_
    refine aw_icmp_ge (t := 48) (q := 14) C dX9_onFace_11 (by decide) rfl (fun c_11 => absurd c_11 (by rw [hc]; exact ni_nge i c rfl rfl (by omega) (by omega) (by omega))) (fun c_11 => ?_)
    refine aw_iload_n C dX9_onFace_14 rfl rfl (q := 15) rfl ?_
    refine aw_iload C dX9_onFace_15 rfl (q := 17) rfl ?_
    refine csX9_220 (As := [.int e, .int (nI i)]) (rest := []) C B dX9_onFace_17 (m_has G M.2.1 h d e (nI i)) rfl rfl (Nat.le_of_ble_eq_true rfl) (by omega) (by omega) (by omega) (q := 20) rfl (fun r9 h9 hr9 => ?_)
    obtain ⟨e9, er9⟩ := hr9
    subst er9; rw [e9]
    show aw G 6 M 20 [.ref o, .int k, .int e, .long (mo_onF (s.2.1 21) k e i), .retAddr 0, .int (nI i)] [.int (pb_b (e >>> ((nI i) &&& 31) &&& 1 = 1))] h 0 0
    refine aw_if_eq (t := 40) (q := 23) C dX9_onFace_20 (by decide) rfl (fun c_20 => ?_) (fun c_20 => ?_)
    ·
      refine aw_lload_n C dX9_onFace_40 rfl rfl (q := 41) rfl ?_
      refine aw_lstore_n (ls' := [.ref o, .int k, .int e, .long (mo_onF (s.2.1 21) k e i), .retAddr 0, .int (nI i)]) C dX9_onFace_41 rfl (by decide) rfl (q := 42) rfl ?_
      refine aw_iinc (v := nI (i + 1)) (ls' := [.ref o, .int k, .int e, .long (mo_onF (s.2.1 21) k e i), .retAddr 0, .int (nI (i + 1))]) C dX9_onFace_42 rfl (nI_1 i) (by decide) rfl (q := 45) rfl ?_
      refine aw_goto (q := 5) C dX9_onFace_45 (by decide) ?_
      have z := ih (i + 1) (by omega)
      rw [show mo_onF (s.2.1 21) k e (i + 1) = _ from if_neg (fun z => pb_0.mp c_20 z.1)] at z
      exact z
    ·
      refine aw_aload_n C dX9_onFace_23 rfl rfl (q := 24) rfl ?_
      refine gfX9_41_9 (v := .ref (md 21)) C dX9_onFace_24 K.1 rfl (q := 27) rfl ?_
      refine aw_iload C dX9_onFace_27 rfl (q := 29) rfl ?_
      refine ay_iald (N := 10) (f := s.2.1 21) (j := i) C dX9_onFace_29 (K.2.1 21 (by decide)) (vp_in_nI (by omega) (by decide)) (nI_clamp (by omega)) (q := 30) rfl ?_
      refine aw_iload_n C dX9_onFace_30 rfl rfl (q := 31) rfl ?_
      refine aw_icmp_ne (t := 40) (q := 34) C dX9_onFace_31 (by decide) rfl (fun c_31 => ?_) (fun c_31 => ?_)
      ·
        refine aw_lload_n C dX9_onFace_40 rfl rfl (q := 41) rfl ?_
        refine aw_lstore_n (ls' := [.ref o, .int k, .int e, .long (mo_onF (s.2.1 21) k e i), .retAddr 0, .int (nI i)]) C dX9_onFace_41 rfl (by decide) rfl (q := 42) rfl ?_
        refine aw_iinc (v := nI (i + 1)) (ls' := [.ref o, .int k, .int e, .long (mo_onF (s.2.1 21) k e i), .retAddr 0, .int (nI (i + 1))]) C dX9_onFace_42 rfl (nI_1 i) (by decide) rfl (q := 45) rfl ?_
        refine aw_goto (q := 5) C dX9_onFace_45 (by decide) ?_
        have z := ih (i + 1) (by omega)
        rw [show mo_onF (s.2.1 21) k e (i + 1) = _ from if_neg (fun z => c_31 z.2)] at z
        exact z
      ·
        refine aw_lload_n C dX9_onFace_34 rfl rfl (q := 35) rfl ?_
        refine aw_lconst (v := 1) C dX9_onFace_35 (by decide) (q := 36) rfl ?_
        refine aw_ladd C dX9_onFace_36 (q := 37) rfl ?_
        refine aw_goto (q := 41) C dX9_onFace_37 (by decide) ?_
        refine aw_lstore_n (ls' := [.ref o, .int k, .int e, .long ((mo_onF (s.2.1 21) k e i) + 1), .retAddr 0, .int (nI i)]) C dX9_onFace_41 rfl (by decide) rfl (q := 42) rfl ?_
        refine aw_iinc (v := nI (i + 1)) (ls' := [.ref o, .int k, .int e, .long ((mo_onF (s.2.1 21) k e i) + 1), .retAddr 0, .int (nI (i + 1))]) C dX9_onFace_42 rfl (nI_1 i) (by decide) rfl (q := 45) rfl ?_
        refine aw_goto (q := 5) C dX9_onFace_45 (by decide) ?_
        have z := ih (i + 1) (by omega)
        rw [show mo_onF (s.2.1 21) k e (i + 1) = _ from if_pos ⟨pb_n c_20, c_31⟩] at z
        exact z
set_option maxHeartbeats 4000000 in
set_option maxRecDepth 100000 in
theorem m_onFace (G : ac_G) (l : Launch) (o : Nat) (md : Nat → Nat) (hm : md_inj md) (h : ac_H) (d : Nat) (s : md_S) (K : md_ok h o md s) (c : Nat) (hc : s.1 20 = nI c) (hc10 : c ≤ 10) (k e : Int32) : ac_Met G l yX9_onFace cX9_onFace 6 (some .long) (d + 1) 0 0 [.ref o, .int k, .int e] h (pq h (some (.long (mo_onF (s.2.1 21) k e c)))) := by
  refine ac_of (ls := [.ref o, .int k, .int e, .retAddr 0, .retAddr 0, .retAddr 0]) (by decide +kernel) rfl (Nat.le_of_ble_eq_true rfl) (fun M hl C B E hnm => ?_)
  refine aw_lconst (v := 0) C dX9_onFace_0 (by decide) (q := 1) rfl ?_
  refine aw_lstore_n (ls' := [.ref o, .int k, .int e, .long 0, .retAddr 0, .retAddr 0]) C dX9_onFace_1 rfl (by decide) rfl (q := 2) rfl ?_
  refine aw_iconst (v := 0) C dX9_onFace_2 (by decide) (q := 3) rfl ?_
  refine aw_istore (ls' := [.ref o, .int k, .int e, .long 0, .retAddr 0, .int 0]) C dX9_onFace_3 (by decide) rfl (q := 5) rfl ?_
  exact ml_onFace hm K hc hc10 C B E c 0 (by omega)
theorem mo_2 {g : Int32} : g ≤ 1 ↔ ¬ 2 ≤ g := by
  rw [Int32.not_le, Int32.le_iff_toInt_le, Int32.lt_iff_toInt_lt, show Int32.toInt 1 = 1 from rfl, show Int32.toInt 2 = 2 from rfl]
  omega
set_option maxHeartbeats 4000000 in
set_option maxRecDepth 100000 in
theorem m_face (G : ac_G) (l : Launch) (o : Nat) (md : Nat → Nat) (hm : md_inj md) (h : ac_H) (d : Nat) (s : md_S) (K : md_ok h o md s) (c : Nat) (hc : s.1 20 = nI c) (hc10 : c ≤ 10) (k : Int32) : ac_Met G l yX9_face cX9_face 2 (some .int) (d + 2) 0 0 [.ref o, .int k] h (fun r9 h9 => r9 = some (.int (if gt_bl k 2 then (mo_onF (s.2.1 21) k 1023 c).toInt32 else 0)) ∧ md_ok h9 o md (upd s.1 0 (if gt_bl k 2 then 0 else 1), s.2.1, s.2.2) ∧ kp h h9 (md_L o md)) := by
  refine ac_of (ls := [.ref o, .int k]) (by decide +kernel) rfl (Nat.le_of_ble_eq_true rfl) (fun M hl C B E hnm => ?_)
  refine aw_aload_n C dX9_face_0 rfl rfl (q := 1) rfl ?_
  refine aw_iload_n C dX9_face_1 rfl rfl (q := 2) rfl ?_
  refine aw_if_lt (t := 10) (q := 5) C dX9_face_2 (by decide) rfl (fun c_2 => ?_) (fun c_2 => ?_)
  ·
    refine aw_iconst (v := 1) C dX9_face_10 (by decide) (q := 11) rfl ?_
    refine aw_goto (q := 15) C dX9_face_11 (by decide) ?_
    refine pfX9_89_9 C dX9_face_15 K.1 rfl rfl (Nat.le_of_ble_eq_true rfl) (q := 18) rfl ?_
    show aw G 2 M 18 [.ref o, .int k] [] (ac_up h o (.inr (9, md_fs md ((upd s.1 0 1, s.2.1, s.2.2).1)))) 0 0
    obtain ⟨h_1, eh_1⟩ : ∃ z9, z9 = ac_up h o (.inr (9, md_fs md ((upd s.1 0 1, s.2.1, s.2.2).1))) := ⟨_, rfl⟩
    rw [← eh_1]
    have kpx_4 : kp h h_1 [o] := by rw [eh_1]; exact kp_up (kp_cons o kp_rf) _ _ (by simp)
    have K_2 : md_ok h_1 o md (upd s.1 0 1, s.2.1, s.2.2) := md_J (s := (s.1, s.2.1, s.2.2)) K (by rw [eh_1]; exact ac_up_s _ _ _) kpx_4
    have kq_3 : kp h h_1 (md_L o md) := kp_mono kpx_4 md_s0
    refine aw_aload_n C dX9_face_18 rfl rfl (q := 19) rfl ?_
    refine gfX9_89_9 (v := .int 1) C dX9_face_19 K_2.1 rfl (q := 22) rfl ?_
    refine aw_if_le (t := 29) (q := 25) C dX9_face_22 (by decide) rfl (fun c_22 => absurd c_22 (by decide)) (fun c_22 => ?_)
    refine aw_iconst (v := 0) C dX9_face_25 (by decide) (q := 26) rfl ?_
    refine aw_goto (q := 38) C dX9_face_26 (by decide) ?_
    refine aw_iret C E dX9_face_38 (Nat.le_refl _) (Nat.le_refl _) ?_
    rw [if_neg (fun z => z.1 c_2), if_neg (fun z => z.1 c_2)]
    exact ⟨rfl, K_2, kq_3⟩
  ·
    refine aw_iload_n C dX9_face_5 rfl rfl (q := 6) rfl ?_
    refine aw_iconst (v := 1) C dX9_face_6 (by decide) (q := 7) rfl ?_
    refine aw_icmp_le (t := 14) (q := 10) C dX9_face_7 (by decide) rfl (fun c_7 => ?_) (fun c_7 => ?_)
    ·
      refine aw_iconst (v := 0) C dX9_face_14 (by decide) (q := 15) rfl ?_
      refine pfX9_89_9 C dX9_face_15 K.1 rfl rfl (Nat.le_of_ble_eq_true rfl) (q := 18) rfl ?_
      show aw G 2 M 18 [.ref o, .int k] [] (ac_up h o (.inr (9, md_fs md ((upd s.1 0 0, s.2.1, s.2.2).1)))) 0 0
      obtain ⟨h_5, eh_5⟩ : ∃ z9, z9 = ac_up h o (.inr (9, md_fs md ((upd s.1 0 0, s.2.1, s.2.2).1))) := ⟨_, rfl⟩
      rw [← eh_5]
      have kpx_8 : kp h h_5 [o] := by rw [eh_5]; exact kp_up (kp_cons o kp_rf) _ _ (by simp)
      have K_6 : md_ok h_5 o md (upd s.1 0 0, s.2.1, s.2.2) := md_J (s := (s.1, s.2.1, s.2.2)) K (by rw [eh_5]; exact ac_up_s _ _ _) kpx_8
      have kq_7 : kp h h_5 (md_L o md) := kp_mono kpx_8 md_s0
      refine aw_aload_n C dX9_face_18 rfl rfl (q := 19) rfl ?_
      refine gfX9_89_9 (v := .int 0) C dX9_face_19 K_6.1 rfl (q := 22) rfl ?_
      refine aw_if_le (t := 29) (q := 25) C dX9_face_22 (by decide) rfl (fun c_22 => ?_) (fun c_22 => absurd c_22 (by decide))
      refine aw_aload_n C dX9_face_29 rfl rfl (q := 30) rfl ?_
      refine aw_iload_n C dX9_face_30 rfl rfl (q := 31) rfl ?_
      refine aw_sipush (v := 1023) C dX9_face_31 (by decide) (q := 34) rfl ?_
      refine cvX9_216_9 (As := [.int k, .int 1023]) (rest := []) C B dX9_face_34 K_6.1 (m_onFace G M.2.1 o md hm h_5 d (upd s.1 0 0, s.2.1, s.2.2) K_6 c hc hc10 k 1023) rfl rfl (Nat.le_of_ble_eq_true rfl) (by omega) (by omega) (by omega) (q := 37) rfl (fun r9 h9 hr9 => ?_)
      obtain ⟨e9, er9⟩ := hr9
      subst er9; rw [e9]
      show aw G 2 M 37 [.ref o, .int k] [.long (mo_onF (s.2.1 21) k 1023 c)] h_5 0 0
      refine aw_l2i C dX9_face_37 (q := 38) rfl ?_
      refine aw_iret C E dX9_face_38 (Nat.le_refl _) (Nat.le_refl _) ?_
      rw [if_pos ⟨c_2, mo_2.mp c_7⟩, if_pos ⟨c_2, mo_2.mp c_7⟩]
      exact ⟨rfl, K_6, kq_7⟩
    ·
      refine aw_iconst (v := 1) C dX9_face_10 (by decide) (q := 11) rfl ?_
      refine aw_goto (q := 15) C dX9_face_11 (by decide) ?_
      refine pfX9_89_9 C dX9_face_15 K.1 rfl rfl (Nat.le_of_ble_eq_true rfl) (q := 18) rfl ?_
      show aw G 2 M 18 [.ref o, .int k] [] (ac_up h o (.inr (9, md_fs md ((upd s.1 0 1, s.2.1, s.2.2).1)))) 0 0
      obtain ⟨h_9, eh_9⟩ : ∃ z9, z9 = ac_up h o (.inr (9, md_fs md ((upd s.1 0 1, s.2.1, s.2.2).1))) := ⟨_, rfl⟩
      rw [← eh_9]
      have kpx_12 : kp h h_9 [o] := by rw [eh_9]; exact kp_up (kp_cons o kp_rf) _ _ (by simp)
      have K_10 : md_ok h_9 o md (upd s.1 0 1, s.2.1, s.2.2) := md_J (s := (s.1, s.2.1, s.2.2)) K (by rw [eh_9]; exact ac_up_s _ _ _) kpx_12
      have kq_11 : kp h h_9 (md_L o md) := kp_mono kpx_12 md_s0
      refine aw_aload_n C dX9_face_18 rfl rfl (q := 19) rfl ?_
      refine gfX9_89_9 (v := .int 1) C dX9_face_19 K_10.1 rfl (q := 22) rfl ?_
      refine aw_if_le (t := 29) (q := 25) C dX9_face_22 (by decide) rfl (fun c_22 => absurd c_22 (by decide)) (fun c_22 => ?_)
      refine aw_iconst (v := 0) C dX9_face_25 (by decide) (q := 26) rfl ?_
      refine aw_goto (q := 38) C dX9_face_26 (by decide) ?_
      refine aw_iret C E dX9_face_38 (Nat.le_refl _) (Nat.le_refl _) ?_
      rw [if_neg (fun z => c_7 (mo_2.mpr z.2)), if_neg (fun z => c_7 (mo_2.mpr z.2))]
      exact ⟨rfl, K_10, kq_11⟩
