/-! The reference: pop, isWaiting, board, clearFaults, appeal, counted, machine -/
def mo_pop (s : md_S) (w k : Nat) : md_S := mo_emit (upd s.1 14 (nI w), s.2.1, s.2.2) k (s.2.1 12 w) (s.2.1 13 w)
def mo_wait (s : md_S) (w : Nat) (a b : Int32) : Prop := 0 < w ∧ ¬ s.2.1 12 (w - 1) < a ∧ ¬ b < s.2.1 12 (w - 1)
def mo_board (s : md_S) (a b t : Int32) : md_S := if gt_sz a ∧ gt_sz b ∧ gt_sz t then (upd (upd (upd (upd s.1 0 0) 17 a) 18 b) 19 t, s.2.1, s.2.2) else (upd s.1 0 1, s.2.1, s.2.2)
set_option maxHeartbeats 4000000 in
set_option maxRecDepth 100000 in
theorem m_pop (G : ac_G) (l : Launch) (o : Nat) (md : Nat → Nat) (hm : md_inj md) (h : ac_H) (d : Nat) (s : md_S) (K : md_ok h o md s) (w k : Nat) (hw : s.1 14 = nI (w + 1)) (hw3 : w < 320) (hk : s.2.1 7 6 = nI k) (hk4 : k < 400) : ac_Met G l yX9_pop cX9_pop 1 none (d + 1) 0 0 [.ref o] h (fun r9 h9 => r9 = none ∧ md_ok h9 o md (mo_pop s w k) ∧ kp h h9 (md_L o md)) := by
  refine ac_of (ls := [.ref o]) (by decide +kernel) rfl (Nat.le_of_ble_eq_true rfl) (fun M hl C B E hnm => ?_)
  refine aw_aload_n C dX9_pop_0 rfl rfl (q := 1) rfl ?_
  refine aw_dup C dX9_pop_1 rfl (q := 2) rfl ?_
  refine gfX9_102_9 (v := .int (s.1 14)) C dX9_pop_2 K.1 rfl (q := 5) rfl ?_
  refine aw_iconst (v := 1) C dX9_pop_5 (by decide) (q := 6) rfl ?_
  refine aw_isub C dX9_pop_6 (q := 7) rfl ?_
  rw [show s.1 14 - 1 = nI w from by rw [hw]; exact nI_pred w]
  refine pfX9_102_9 C dX9_pop_7 K.1 rfl rfl (Nat.le_of_ble_eq_true rfl) (q := 10) rfl ?_
  show aw G 1 M 10 [.ref o] [] (ac_up h o (.inr (9, md_fs md ((upd s.1 14 (nI w), s.2.1, s.2.2).1)))) 0 0
  obtain ⟨h_1, eh_1⟩ : ∃ z9, z9 = ac_up h o (.inr (9, md_fs md ((upd s.1 14 (nI w), s.2.1, s.2.2).1))) := ⟨_, rfl⟩
  rw [← eh_1]
  have kpx_4 : kp h h_1 [o] := by rw [eh_1]; exact kp_up (kp_cons o kp_rf) _ _ (by simp)
  have K_2 : md_ok h_1 o md (upd s.1 14 (nI w), s.2.1, s.2.2) := md_J (s := (s.1, s.2.1, s.2.2)) K (by rw [eh_1]; exact ac_up_s _ _ _) kpx_4
  have kq_3 : kp h h_1 (md_L o md) := kp_mono kpx_4 md_s0
  refine aw_aload_n C dX9_pop_10 rfl rfl (q := 11) rfl ?_
  refine aw_aload_n C dX9_pop_11 rfl rfl (q := 12) rfl ?_
  refine gfX9_31_9 (v := .ref (md 12)) C dX9_pop_12 K_2.1 rfl (q := 15) rfl ?_
  refine aw_aload_n C dX9_pop_15 rfl rfl (q := 16) rfl ?_
  refine gfX9_102_9 (v := .int (nI w)) C dX9_pop_16 K_2.1 rfl (q := 19) rfl ?_
  refine ay_iald (N := 320) (f := s.2.1 12) (j := w) C dX9_pop_19 (K_2.2.1 12 (by decide)) (vp_in_nI (by omega) (by decide)) (nI_clamp (by omega)) (q := 20) rfl ?_
  refine aw_aload_n C dX9_pop_20 rfl rfl (q := 21) rfl ?_
  refine gfX9_34_9 (v := .ref (md 13)) C dX9_pop_21 K_2.1 rfl (q := 24) rfl ?_
  refine aw_aload_n C dX9_pop_24 rfl rfl (q := 25) rfl ?_
  refine gfX9_102_9 (v := .int (nI w)) C dX9_pop_25 K_2.1 rfl (q := 28) rfl ?_
  refine ay_iald (N := 320) (f := s.2.1 13) (j := w) C dX9_pop_28 (K_2.2.1 13 (by decide)) (vp_in_nI (by omega) (by decide)) (nI_clamp (by omega)) (q := 29) rfl ?_
  refine cvX9_105_9 (As := [.int ((s.2.1 12) w), .int ((s.2.1 13) w)]) (rest := []) C B dX9_pop_29 K_2.1 (m_emit G M.2.1 o md hm h_1 d (upd s.1 14 (nI w), s.2.1, s.2.2) K_2 k hk hk4 ((s.2.1 12) w) ((s.2.1 13) w)) rfl rfl (Nat.le_of_ble_eq_true rfl) (by omega) (by omega) (by omega) (q := 32) rfl (fun r9 h_5 hr9 => ?_)
  obtain ⟨er9, K_6, kpx_7⟩ := hr9
  subst er9
  have kq_8 : kp h h_5 (md_L o md) := kp_in kq_3 kpx_7 (fun _ z => z)
  show aw G 1 M 32 [.ref o] [] h_5 0 0
  refine aw_vret C E dX9_pop_32 (Nat.le_refl _) (Nat.le_refl _) ?_
  exact ⟨rfl, K_6, kq_8⟩
set_option maxHeartbeats 4000000 in
set_option maxRecDepth 100000 in
theorem m_isWaiting (G : ac_G) (l : Launch) (o : Nat) (md : Nat → Nat) (hm : md_inj md) (h : ac_H) (d : Nat) (s : md_S) (K : md_ok h o md s) (w : Nat) (hw : s.1 14 = nI w) (hw3 : w ≤ 320) (a b : Int32) : ac_Met G l yX9_isWaiting cX9_isWaiting 3 (some .boolean) d 0 0 [.ref o, .int a, .int b] h (pq h (some (.int (pb_b (0 < w ∧ ¬ s.2.1 12 (w - 1) < a ∧ ¬ b < s.2.1 12 (w - 1)))))) := by
  refine ac_of (ls := [.ref o, .int a, .int b]) (by decide +kernel) rfl (Nat.le_of_ble_eq_true rfl) (fun M hl C B E hnm => ?_)
  refine aw_aload_n C dX9_isWaiting_0 rfl rfl (q := 1) rfl ?_
  refine gfX9_102_9 (v := .int (s.1 14)) C dX9_isWaiting_1 K.1 rfl (q := 4) rfl ?_
  refine aw_if_le (t := 41) (q := 7) C dX9_isWaiting_4 (by decide) rfl (fun c_4 => ?_) (fun c_4 => ?_)
  ·
    refine aw_iconst (v := 0) C dX9_isWaiting_41 (by decide) (q := 42) rfl ?_
    refine aw_zret C E dX9_isWaiting_42 (rfl) (Nat.le_refl _) (Nat.le_refl _) ?_
    exact ⟨rfl, by unfold pb_b; rw [if_neg (fun z => absurd z.1 (by rw [hw] at c_4; have := (nI_leI (a := w) (b := 0) (by omega) (by decide)).mp c_4; omega))]⟩
  ·
    have hw0 : 0 < w := by rw [hw] at c_4; apply Classical.byContradiction; intro z; exact c_4 (nI_le (by omega) (by decide))
    refine aw_aload_n C dX9_isWaiting_7 rfl rfl (q := 8) rfl ?_
    refine gfX9_31_9 (v := .ref (md 12)) C dX9_isWaiting_8 K.1 rfl (q := 11) rfl ?_
    refine aw_aload_n C dX9_isWaiting_11 rfl rfl (q := 12) rfl ?_
    refine gfX9_102_9 (v := .int (s.1 14)) C dX9_isWaiting_12 K.1 rfl (q := 15) rfl ?_
    refine aw_iconst (v := 1) C dX9_isWaiting_15 (by decide) (q := 16) rfl ?_
    refine aw_isub C dX9_isWaiting_16 (q := 17) rfl ?_
    refine ay_iald (N := 320) (f := s.2.1 12) (j := w - 1) C dX9_isWaiting_17 (K.2.1 12 (by decide)) (by rw [hw, show nI w - 1 = nI (w - 1) from by obtain ⟨z, rfl⟩ : ∃ z, w = z + 1 := ⟨w - 1, by omega⟩; exact nI_pred z]; exact vp_in_nI (by omega) (by decide)) (by rw [hw, show nI w - 1 = nI (w - 1) from by obtain ⟨z, rfl⟩ : ∃ z, w = z + 1 := ⟨w - 1, by omega⟩; exact nI_pred z]; exact nI_clamp (by omega)) (q := 18) rfl ?_
    refine aw_iload_n C dX9_isWaiting_18 rfl rfl (q := 19) rfl ?_
    refine aw_icmp_lt (t := 41) (q := 22) C dX9_isWaiting_19 (by decide) rfl (fun c_19 => ?_) (fun c_19 => ?_)
    ·
      refine aw_iconst (v := 0) C dX9_isWaiting_41 (by decide) (q := 42) rfl ?_
      refine aw_zret C E dX9_isWaiting_42 (rfl) (Nat.le_refl _) (Nat.le_refl _) ?_
      exact ⟨rfl, by unfold pb_b; rw [if_neg (fun z => z.2.1 c_19)]⟩
    ·
      refine aw_aload_n C dX9_isWaiting_22 rfl rfl (q := 23) rfl ?_
      refine gfX9_31_9 (v := .ref (md 12)) C dX9_isWaiting_23 K.1 rfl (q := 26) rfl ?_
      refine aw_aload_n C dX9_isWaiting_26 rfl rfl (q := 27) rfl ?_
      refine gfX9_102_9 (v := .int (s.1 14)) C dX9_isWaiting_27 K.1 rfl (q := 30) rfl ?_
      refine aw_iconst (v := 1) C dX9_isWaiting_30 (by decide) (q := 31) rfl ?_
      refine aw_isub C dX9_isWaiting_31 (q := 32) rfl ?_
      refine ay_iald (N := 320) (f := s.2.1 12) (j := w - 1) C dX9_isWaiting_32 (K.2.1 12 (by decide)) (by rw [hw, show nI w - 1 = nI (w - 1) from by obtain ⟨z, rfl⟩ : ∃ z, w = z + 1 := ⟨w - 1, by omega⟩; exact nI_pred z]; exact vp_in_nI (by omega) (by decide)) (by rw [hw, show nI w - 1 = nI (w - 1) from by obtain ⟨z, rfl⟩ : ∃ z, w = z + 1 := ⟨w - 1, by omega⟩; exact nI_pred z]; exact nI_clamp (by omega)) (q := 33) rfl ?_
      refine aw_iload_n C dX9_isWaiting_33 rfl rfl (q := 34) rfl ?_
      refine aw_icmp_gt (t := 41) (q := 37) C dX9_isWaiting_34 (by decide) rfl (fun c_34 => ?_) (fun c_34 => ?_)
      ·
        refine aw_iconst (v := 0) C dX9_isWaiting_41 (by decide) (q := 42) rfl ?_
        refine aw_zret C E dX9_isWaiting_42 (rfl) (Nat.le_refl _) (Nat.le_refl _) ?_
        exact ⟨rfl, by unfold pb_b; rw [if_neg (fun z => z.2.2 c_34)]⟩
      ·
        refine aw_iconst (v := 1) C dX9_isWaiting_37 (by decide) (q := 38) rfl ?_
        refine aw_goto (q := 42) C dX9_isWaiting_38 (by decide) ?_
        refine aw_zret C E dX9_isWaiting_42 (rfl) (Nat.le_refl _) (Nat.le_refl _) ?_
        exact ⟨rfl, by unfold pb_b; rw [if_pos ⟨hw0, c_19, c_34⟩]⟩
set_option maxHeartbeats 4000000 in
set_option maxRecDepth 100000 in
theorem m_board (G : ac_G) (l : Launch) (o : Nat) (md : Nat → Nat) (hm : md_inj md) (h : ac_H) (d : Nat) (s : md_S) (K : md_ok h o md s) (a b t : Int32) : ac_Met G l yX9_board cX9_board 4 none (d + 1) 0 0 [.ref o, .int a, .int b, .int t] h (fun r9 h9 => r9 = none ∧ md_ok h9 o md (mo_board s a b t) ∧ kp h h9 (md_L o md)) := by
  refine ac_of (ls := [.ref o, .int a, .int b, .int t]) (by decide +kernel) rfl (Nat.le_of_ble_eq_true rfl) (fun M hl C B E hnm => ?_)
  refine aw_aload_n C dX9_board_0 rfl rfl (q := 1) rfl ?_
  refine aw_iload_n C dX9_board_1 rfl rfl (q := 2) rfl ?_
  refine csX9_201 (As := [.int a]) (rest := [.ref o]) C B dX9_board_2 (m_isSize G M.2.1 h d a) rfl rfl (Nat.le_of_ble_eq_true rfl) (by omega) (by omega) (by omega) (q := 5) rfl (fun r9 h9 hr9 => ?_)
  obtain ⟨e9, er9⟩ := hr9
  subst er9; rw [e9]
  show aw G 4 M 5 [.ref o, .int a, .int b, .int t] [.int (pb_b (gt_sz a)), .ref o] h 0 0
  refine aw_if_eq (t := 26) (q := 8) C dX9_board_5 (by decide) rfl (fun c_5 => ?_) (fun c_5 => ?_)
  ·
    refine aw_iconst (v := 1) C dX9_board_26 (by decide) (q := 27) rfl ?_
    refine pfX9_89_9 C dX9_board_27 K.1 rfl rfl (Nat.le_of_ble_eq_true rfl) (q := 30) rfl ?_
    show aw G 4 M 30 [.ref o, .int a, .int b, .int t] [] (ac_up h o (.inr (9, md_fs md ((upd s.1 0 1, s.2.1, s.2.2).1)))) 0 0
    obtain ⟨h_1, eh_1⟩ : ∃ z9, z9 = ac_up h o (.inr (9, md_fs md ((upd s.1 0 1, s.2.1, s.2.2).1))) := ⟨_, rfl⟩
    rw [← eh_1]
    have kpx_4 : kp h h_1 [o] := by rw [eh_1]; exact kp_up (kp_cons o kp_rf) _ _ (by simp)
    have K_2 : md_ok h_1 o md (upd s.1 0 1, s.2.1, s.2.2) := md_J (s := (s.1, s.2.1, s.2.2)) K (by rw [eh_1]; exact ac_up_s _ _ _) kpx_4
    have kq_3 : kp h h_1 (md_L o md) := kp_mono kpx_4 md_s0
    refine aw_aload_n C dX9_board_30 rfl rfl (q := 31) rfl ?_
    refine gfX9_89_9 (v := .int 1) C dX9_board_31 K_2.1 rfl (q := 34) rfl ?_
    refine aw_if_ne (t := 52) (q := 37) C dX9_board_34 (by decide) rfl (fun c_34 => ?_) (fun c_34 => absurd c_34 (by decide))
    refine aw_vret C E dX9_board_52 (Nat.le_refl _) (Nat.le_refl _) ?_
    rw [show mo_board s a b t = (upd s.1 0 1, s.2.1, s.2.2) from by unfold mo_board; rw [if_neg (fun z => pb_0.mp c_5 z.1)]]
    exact ⟨rfl, K_2, kq_3⟩
  ·
    refine aw_iload_n C dX9_board_8 rfl rfl (q := 9) rfl ?_
    refine csX9_201 (As := [.int b]) (rest := [.ref o]) C B dX9_board_9 (m_isSize G M.2.1 h d b) rfl rfl (Nat.le_of_ble_eq_true rfl) (by omega) (by omega) (by omega) (q := 12) rfl (fun r9 h9 hr9 => ?_)
    obtain ⟨e9, er9⟩ := hr9
    subst er9; rw [e9]
    show aw G 4 M 12 [.ref o, .int a, .int b, .int t] [.int (pb_b (gt_sz b)), .ref o] h 0 0
    refine aw_if_eq (t := 26) (q := 15) C dX9_board_12 (by decide) rfl (fun c_12 => ?_) (fun c_12 => ?_)
    ·
      refine aw_iconst (v := 1) C dX9_board_26 (by decide) (q := 27) rfl ?_
      refine pfX9_89_9 C dX9_board_27 K.1 rfl rfl (Nat.le_of_ble_eq_true rfl) (q := 30) rfl ?_
      show aw G 4 M 30 [.ref o, .int a, .int b, .int t] [] (ac_up h o (.inr (9, md_fs md ((upd s.1 0 1, s.2.1, s.2.2).1)))) 0 0
      obtain ⟨h_5, eh_5⟩ : ∃ z9, z9 = ac_up h o (.inr (9, md_fs md ((upd s.1 0 1, s.2.1, s.2.2).1))) := ⟨_, rfl⟩
      rw [← eh_5]
      have kpx_8 : kp h h_5 [o] := by rw [eh_5]; exact kp_up (kp_cons o kp_rf) _ _ (by simp)
      have K_6 : md_ok h_5 o md (upd s.1 0 1, s.2.1, s.2.2) := md_J (s := (s.1, s.2.1, s.2.2)) K (by rw [eh_5]; exact ac_up_s _ _ _) kpx_8
      have kq_7 : kp h h_5 (md_L o md) := kp_mono kpx_8 md_s0
      refine aw_aload_n C dX9_board_30 rfl rfl (q := 31) rfl ?_
      refine gfX9_89_9 (v := .int 1) C dX9_board_31 K_6.1 rfl (q := 34) rfl ?_
      refine aw_if_ne (t := 52) (q := 37) C dX9_board_34 (by decide) rfl (fun c_34 => ?_) (fun c_34 => absurd c_34 (by decide))
      refine aw_vret C E dX9_board_52 (Nat.le_refl _) (Nat.le_refl _) ?_
      rw [show mo_board s a b t = (upd s.1 0 1, s.2.1, s.2.2) from by unfold mo_board; rw [if_neg (fun z => pb_0.mp c_12 z.2.1)]]
      exact ⟨rfl, K_6, kq_7⟩
    ·
      refine aw_iload_n C dX9_board_15 rfl rfl (q := 16) rfl ?_
      refine csX9_201 (As := [.int t]) (rest := [.ref o]) C B dX9_board_16 (m_isSize G M.2.1 h d t) rfl rfl (Nat.le_of_ble_eq_true rfl) (by omega) (by omega) (by omega) (q := 19) rfl (fun r9 h9 hr9 => ?_)
      obtain ⟨e9, er9⟩ := hr9
      subst er9; rw [e9]
      show aw G 4 M 19 [.ref o, .int a, .int b, .int t] [.int (pb_b (gt_sz t)), .ref o] h 0 0
      refine aw_if_eq (t := 26) (q := 22) C dX9_board_19 (by decide) rfl (fun c_19 => ?_) (fun c_19 => ?_)
      ·
        refine aw_iconst (v := 1) C dX9_board_26 (by decide) (q := 27) rfl ?_
        refine pfX9_89_9 C dX9_board_27 K.1 rfl rfl (Nat.le_of_ble_eq_true rfl) (q := 30) rfl ?_
        show aw G 4 M 30 [.ref o, .int a, .int b, .int t] [] (ac_up h o (.inr (9, md_fs md ((upd s.1 0 1, s.2.1, s.2.2).1)))) 0 0
        obtain ⟨h_9, eh_9⟩ : ∃ z9, z9 = ac_up h o (.inr (9, md_fs md ((upd s.1 0 1, s.2.1, s.2.2).1))) := ⟨_, rfl⟩
        rw [← eh_9]
        have kpx_12 : kp h h_9 [o] := by rw [eh_9]; exact kp_up (kp_cons o kp_rf) _ _ (by simp)
        have K_10 : md_ok h_9 o md (upd s.1 0 1, s.2.1, s.2.2) := md_J (s := (s.1, s.2.1, s.2.2)) K (by rw [eh_9]; exact ac_up_s _ _ _) kpx_12
        have kq_11 : kp h h_9 (md_L o md) := kp_mono kpx_12 md_s0
        refine aw_aload_n C dX9_board_30 rfl rfl (q := 31) rfl ?_
        refine gfX9_89_9 (v := .int 1) C dX9_board_31 K_10.1 rfl (q := 34) rfl ?_
        refine aw_if_ne (t := 52) (q := 37) C dX9_board_34 (by decide) rfl (fun c_34 => ?_) (fun c_34 => absurd c_34 (by decide))
        refine aw_vret C E dX9_board_52 (Nat.le_refl _) (Nat.le_refl _) ?_
        rw [show mo_board s a b t = (upd s.1 0 1, s.2.1, s.2.2) from by unfold mo_board; rw [if_neg (fun z => pb_0.mp c_19 z.2.2)]]
        exact ⟨rfl, K_10, kq_11⟩
      ·
        refine aw_iconst (v := 0) C dX9_board_22 (by decide) (q := 23) rfl ?_
        refine aw_goto (q := 27) C dX9_board_23 (by decide) ?_
        refine pfX9_89_9 C dX9_board_27 K.1 rfl rfl (Nat.le_of_ble_eq_true rfl) (q := 30) rfl ?_
        show aw G 4 M 30 [.ref o, .int a, .int b, .int t] [] (ac_up h o (.inr (9, md_fs md ((upd s.1 0 0, s.2.1, s.2.2).1)))) 0 0
        obtain ⟨h_13, eh_13⟩ : ∃ z9, z9 = ac_up h o (.inr (9, md_fs md ((upd s.1 0 0, s.2.1, s.2.2).1))) := ⟨_, rfl⟩
        rw [← eh_13]
        have kpx_16 : kp h h_13 [o] := by rw [eh_13]; exact kp_up (kp_cons o kp_rf) _ _ (by simp)
        have K_14 : md_ok h_13 o md (upd s.1 0 0, s.2.1, s.2.2) := md_J (s := (s.1, s.2.1, s.2.2)) K (by rw [eh_13]; exact ac_up_s _ _ _) kpx_16
        have kq_15 : kp h h_13 (md_L o md) := kp_mono kpx_16 md_s0
        refine aw_aload_n C dX9_board_30 rfl rfl (q := 31) rfl ?_
        refine gfX9_89_9 (v := .int 0) C dX9_board_31 K_14.1 rfl (q := 34) rfl ?_
        refine aw_if_ne (t := 52) (q := 37) C dX9_board_34 (by decide) rfl (fun c_34 => absurd c_34 (by decide)) (fun c_34 => ?_)
        refine aw_aload_n C dX9_board_37 rfl rfl (q := 38) rfl ?_
        refine aw_iload_n C dX9_board_38 rfl rfl (q := 39) rfl ?_
        refine pfX9_204_9 C dX9_board_39 K_14.1 rfl rfl (Nat.le_of_ble_eq_true rfl) (q := 42) rfl ?_
        show aw G 4 M 42 [.ref o, .int a, .int b, .int t] [] (ac_up h_13 o (.inr (9, md_fs md ((upd (upd s.1 0 0) 17 a, s.2.1, s.2.2).1)))) 0 0
        obtain ⟨h_17, eh_17⟩ : ∃ z9, z9 = ac_up h_13 o (.inr (9, md_fs md ((upd (upd s.1 0 0) 17 a, s.2.1, s.2.2).1))) := ⟨_, rfl⟩
        rw [← eh_17]
        have kpx_20 : kp h_13 h_17 [o] := by rw [eh_17]; exact kp_up (kp_cons o kp_rf) _ _ (by simp)
        have K_18 : md_ok h_17 o md (upd (upd s.1 0 0) 17 a, s.2.1, s.2.2) := md_J (s := (upd s.1 0 0, s.2.1, s.2.2)) K_14 (by rw [eh_17]; exact ac_up_s _ _ _) kpx_20
        have kq_19 : kp h h_17 (md_L o md) := kp_in kq_15 kpx_20 md_s0
        refine aw_aload_n C dX9_board_42 rfl rfl (q := 43) rfl ?_
        refine aw_iload_n C dX9_board_43 rfl rfl (q := 44) rfl ?_
        refine pfX9_207_9 C dX9_board_44 K_18.1 rfl rfl (Nat.le_of_ble_eq_true rfl) (q := 47) rfl ?_
        show aw G 4 M 47 [.ref o, .int a, .int b, .int t] [] (ac_up h_17 o (.inr (9, md_fs md ((upd (upd (upd s.1 0 0) 17 a) 18 b, s.2.1, s.2.2).1)))) 0 0
        obtain ⟨h_21, eh_21⟩ : ∃ z9, z9 = ac_up h_17 o (.inr (9, md_fs md ((upd (upd (upd s.1 0 0) 17 a) 18 b, s.2.1, s.2.2).1))) := ⟨_, rfl⟩
        rw [← eh_21]
        have kpx_24 : kp h_17 h_21 [o] := by rw [eh_21]; exact kp_up (kp_cons o kp_rf) _ _ (by simp)
        have K_22 : md_ok h_21 o md (upd (upd (upd s.1 0 0) 17 a) 18 b, s.2.1, s.2.2) := md_J (s := (upd (upd s.1 0 0) 17 a, s.2.1, s.2.2)) K_18 (by rw [eh_21]; exact ac_up_s _ _ _) kpx_24
        have kq_23 : kp h h_21 (md_L o md) := kp_in kq_19 kpx_24 md_s0
        refine aw_aload_n C dX9_board_47 rfl rfl (q := 48) rfl ?_
        refine aw_iload_n C dX9_board_48 rfl rfl (q := 49) rfl ?_
        refine pfX9_210_9 C dX9_board_49 K_22.1 rfl rfl (Nat.le_of_ble_eq_true rfl) (q := 52) rfl ?_
        show aw G 4 M 52 [.ref o, .int a, .int b, .int t] [] (ac_up h_21 o (.inr (9, md_fs md ((upd (upd (upd (upd s.1 0 0) 17 a) 18 b) 19 t, s.2.1, s.2.2).1)))) 0 0
        obtain ⟨h_25, eh_25⟩ : ∃ z9, z9 = ac_up h_21 o (.inr (9, md_fs md ((upd (upd (upd (upd s.1 0 0) 17 a) 18 b) 19 t, s.2.1, s.2.2).1))) := ⟨_, rfl⟩
        rw [← eh_25]
        have kpx_28 : kp h_21 h_25 [o] := by rw [eh_25]; exact kp_up (kp_cons o kp_rf) _ _ (by simp)
        have K_26 : md_ok h_25 o md (upd (upd (upd (upd s.1 0 0) 17 a) 18 b) 19 t, s.2.1, s.2.2) := md_J (s := (upd (upd (upd s.1 0 0) 17 a) 18 b, s.2.1, s.2.2)) K_22 (by rw [eh_25]; exact ac_up_s _ _ _) kpx_28
        have kq_27 : kp h h_25 (md_L o md) := kp_in kq_23 kpx_28 md_s0
        refine aw_vret C E dX9_board_52 (Nat.le_refl _) (Nat.le_refl _) ?_
        rw [show mo_board s a b t = (upd (upd (upd (upd s.1 0 0) 17 a) 18 b) 19 t, s.2.1, s.2.2) from by unfold mo_board; rw [if_pos ⟨pb_n c_5, pb_n c_12, pb_n c_19⟩]]
        exact ⟨rfl, K_26, kq_27⟩
set_option maxHeartbeats 4000000 in
set_option maxRecDepth 100000 in
theorem m_clearFaults (G : ac_G) (l : Launch) (o : Nat) (md : Nat → Nat) (hm : md_inj md) (h : ac_H) (d : Nat) (s : md_S) (K : md_ok h o md s) : ac_Met G l yX9_clearFaults cX9_clearFaults 1 none d 0 0 [.ref o] h (fun r9 h9 => r9 = none ∧ md_ok h9 o md (upd (upd s.1 0 0) 20 0, s.2.1, s.2.2) ∧ kp h h9 (md_L o md)) := by
  refine ac_of (ls := [.ref o]) (by decide +kernel) rfl (Nat.le_of_ble_eq_true rfl) (fun M hl C B E hnm => ?_)
  refine aw_aload_n C dX9_clearFaults_0 rfl rfl (q := 1) rfl ?_
  refine aw_iconst (v := 0) C dX9_clearFaults_1 (by decide) (q := 2) rfl ?_
  refine pfX9_89_9 C dX9_clearFaults_2 K.1 rfl rfl (Nat.le_of_ble_eq_true rfl) (q := 5) rfl ?_
  show aw G 1 M 5 [.ref o] [] (ac_up h o (.inr (9, md_fs md ((upd s.1 0 0, s.2.1, s.2.2).1)))) 0 0
  obtain ⟨h_1, eh_1⟩ : ∃ z9, z9 = ac_up h o (.inr (9, md_fs md ((upd s.1 0 0, s.2.1, s.2.2).1))) := ⟨_, rfl⟩
  rw [← eh_1]
  have kpx_4 : kp h h_1 [o] := by rw [eh_1]; exact kp_up (kp_cons o kp_rf) _ _ (by simp)
  have K_2 : md_ok h_1 o md (upd s.1 0 0, s.2.1, s.2.2) := md_J (s := (s.1, s.2.1, s.2.2)) K (by rw [eh_1]; exact ac_up_s _ _ _) kpx_4
  have kq_3 : kp h h_1 (md_L o md) := kp_mono kpx_4 md_s0
  refine aw_aload_n C dX9_clearFaults_5 rfl rfl (q := 6) rfl ?_
  refine aw_iconst (v := 0) C dX9_clearFaults_6 (by decide) (q := 7) rfl ?_
  refine pfX9_213_9 C dX9_clearFaults_7 K_2.1 rfl rfl (Nat.le_of_ble_eq_true rfl) (q := 10) rfl ?_
  show aw G 1 M 10 [.ref o] [] (ac_up h_1 o (.inr (9, md_fs md ((upd (upd s.1 0 0) 20 0, s.2.1, s.2.2).1)))) 0 0
  obtain ⟨h_5, eh_5⟩ : ∃ z9, z9 = ac_up h_1 o (.inr (9, md_fs md ((upd (upd s.1 0 0) 20 0, s.2.1, s.2.2).1))) := ⟨_, rfl⟩
  rw [← eh_5]
  have kpx_8 : kp h_1 h_5 [o] := by rw [eh_5]; exact kp_up (kp_cons o kp_rf) _ _ (by simp)
  have K_6 : md_ok h_5 o md (upd (upd s.1 0 0) 20 0, s.2.1, s.2.2) := md_J (s := (upd s.1 0 0, s.2.1, s.2.2)) K_2 (by rw [eh_5]; exact ac_up_s _ _ _) kpx_8
  have kq_7 : kp h h_5 (md_L o md) := kp_in kq_3 kpx_8 md_s0
  refine aw_vret C E dX9_clearFaults_10 (Nat.le_refl _) (Nat.le_refl _) ?_
  exact ⟨rfl, K_6, kq_7⟩
set_option maxHeartbeats 4000000 in
set_option maxRecDepth 100000 in
theorem m_appeal (G : ac_G) (l : Launch) (o : Nat) (md : Nat → Nat) (hm : md_inj md) (h : ac_H) (d : Nat) (s : md_S) (K : md_ok h o md s) (a b c e : Int32) : ac_Met G l yX9_appeal cX9_appeal 5 (some .int) d 0 0 [.ref o, .int a, .int b, .int c, .int e] h (fun r9 h9 => r9 = some (.int (if a = c then 2 else if b = e then 0 else 1)) ∧ md_ok h9 o md (upd s.1 0 0, s.2.1, s.2.2) ∧ kp h h9 (md_L o md)) := by
  refine ac_of (ls := [.ref o, .int a, .int b, .int c, .int e]) (by decide +kernel) rfl (Nat.le_of_ble_eq_true rfl) (fun M hl C B E hnm => ?_)
  refine aw_aload_n C dX9_appeal_0 rfl rfl (q := 1) rfl ?_
  refine aw_iconst (v := 0) C dX9_appeal_1 (by decide) (q := 2) rfl ?_
  refine pfX9_89_9 C dX9_appeal_2 K.1 rfl rfl (Nat.le_of_ble_eq_true rfl) (q := 5) rfl ?_
  show aw G 5 M 5 [.ref o, .int a, .int b, .int c, .int e] [] (ac_up h o (.inr (9, md_fs md ((upd s.1 0 0, s.2.1, s.2.2).1)))) 0 0
  obtain ⟨h_1, eh_1⟩ : ∃ z9, z9 = ac_up h o (.inr (9, md_fs md ((upd s.1 0 0, s.2.1, s.2.2).1))) := ⟨_, rfl⟩
  rw [← eh_1]
  have kpx_4 : kp h h_1 [o] := by rw [eh_1]; exact kp_up (kp_cons o kp_rf) _ _ (by simp)
  have K_2 : md_ok h_1 o md (upd s.1 0 0, s.2.1, s.2.2) := md_J (s := (s.1, s.2.1, s.2.2)) K (by rw [eh_1]; exact ac_up_s _ _ _) kpx_4
  have kq_3 : kp h h_1 (md_L o md) := kp_mono kpx_4 md_s0
  refine aw_iload_n C dX9_appeal_5 rfl rfl (q := 6) rfl ?_
  refine aw_iload_n C dX9_appeal_6 rfl rfl (q := 7) rfl ?_
  refine aw_icmp_ne (t := 14) (q := 10) C dX9_appeal_7 (by decide) rfl (fun c_7 => ?_) (fun c_7 => ?_)
  ·
    refine aw_iload_n C dX9_appeal_14 rfl rfl (q := 15) rfl ?_
    refine aw_iload C dX9_appeal_15 rfl (q := 17) rfl ?_
    refine aw_icmp_eq (t := 24) (q := 20) C dX9_appeal_17 (by decide) rfl (fun c_17 => ?_) (fun c_17 => ?_)
    ·
      refine aw_iconst (v := 0) C dX9_appeal_24 (by decide) (q := 25) rfl ?_
      refine aw_iret C E dX9_appeal_25 (Nat.le_refl _) (Nat.le_refl _) ?_
      exact ⟨by rw [if_neg c_7, if_pos c_17], K_2, kq_3⟩
    ·
      refine aw_iconst (v := 1) C dX9_appeal_20 (by decide) (q := 21) rfl ?_
      refine aw_goto (q := 25) C dX9_appeal_21 (by decide) ?_
      refine aw_iret C E dX9_appeal_25 (Nat.le_refl _) (Nat.le_refl _) ?_
      exact ⟨by rw [if_neg c_7, if_neg c_17], K_2, kq_3⟩
  ·
    refine aw_iconst (v := 2) C dX9_appeal_10 (by decide) (q := 11) rfl ?_
    refine aw_goto (q := 25) C dX9_appeal_11 (by decide) ?_
    refine aw_iret C E dX9_appeal_25 (Nat.le_refl _) (Nat.le_refl _) ?_
    exact ⟨by rw [if_pos c_7], K_2, kq_3⟩
theorem mo_9 {g : Int32} : g ≤ 9 ↔ g < 10 := by
  rw [Int32.le_iff_toInt_le, Int32.lt_iff_toInt_lt, show Int32.toInt 9 = 9 from rfl, show Int32.toInt 10 = 10 from rfl]
  omega
set_option maxHeartbeats 4000000 in
set_option maxRecDepth 100000 in
theorem m_counted (G : ac_G) (l : Launch) (o : Nat) (md : Nat → Nat) (hm : md_inj md) (h : ac_H) (d : Nat) (s : md_S) (K : md_ok h o md s) (g : Int32) : ac_Met G l yX9_counted cX9_counted 2 (some .long) d 0 0 [.ref o, .int g] h (fun r9 h9 => r9 = some (.long (if (¬ g < -1 ∧ g < 10) then s.2.2 38 (g + 1).toNatClampNeg else 0)) ∧ md_ok h9 o md (upd s.1 0 (if (¬ g < -1 ∧ g < 10) then 0 else 1), s.2.1, s.2.2) ∧ kp h h9 (md_L o md)) := by
  refine ac_of (ls := [.ref o, .int g]) (by decide +kernel) rfl (Nat.le_of_ble_eq_true rfl) (fun M hl C B E hnm => ?_)
  refine aw_aload_n C dX9_counted_0 rfl rfl (q := 1) rfl ?_
  refine aw_iload_n C dX9_counted_1 rfl rfl (q := 2) rfl ?_
  refine aw_iconst (v := (-1)) C dX9_counted_2 (by decide) (q := 3) rfl ?_
  refine aw_icmp_lt (t := 12) (q := 6) C dX9_counted_3 (by decide) rfl (fun c_3 => ?_) (fun c_3 => ?_)
  ·
    refine aw_iconst (v := 1) C dX9_counted_12 (by decide) (q := 13) rfl ?_
    refine aw_goto (q := 17) C dX9_counted_13 (by decide) ?_
    refine pfX9_89_9 C dX9_counted_17 K.1 rfl rfl (Nat.le_of_ble_eq_true rfl) (q := 20) rfl ?_
    show aw G 2 M 20 [.ref o, .int g] [] (ac_up h o (.inr (9, md_fs md ((upd s.1 0 1, s.2.1, s.2.2).1)))) 0 0
    obtain ⟨h_1, eh_1⟩ : ∃ z9, z9 = ac_up h o (.inr (9, md_fs md ((upd s.1 0 1, s.2.1, s.2.2).1))) := ⟨_, rfl⟩
    rw [← eh_1]
    have kpx_4 : kp h h_1 [o] := by rw [eh_1]; exact kp_up (kp_cons o kp_rf) _ _ (by simp)
    have K_2 : md_ok h_1 o md (upd s.1 0 1, s.2.1, s.2.2) := md_J (s := (s.1, s.2.1, s.2.2)) K (by rw [eh_1]; exact ac_up_s _ _ _) kpx_4
    have kq_3 : kp h h_1 (md_L o md) := kp_mono kpx_4 md_s0
    refine aw_aload_n C dX9_counted_20 rfl rfl (q := 21) rfl ?_
    refine gfX9_89_9 (v := .int 1) C dX9_counted_21 K_2.1 rfl (q := 24) rfl ?_
    refine aw_if_le (t := 31) (q := 27) C dX9_counted_24 (by decide) rfl (fun c_24 => absurd c_24 (by decide)) (fun c_24 => ?_)
    refine aw_lconst (v := 0) C dX9_counted_27 (by decide) (q := 28) rfl ?_
    refine aw_goto (q := 39) C dX9_counted_28 (by decide) ?_
    refine aw_lret C E dX9_counted_39 (Nat.le_refl _) (Nat.le_refl _) ?_
    rw [if_neg (fun z => z.1 c_3), if_neg (fun z => z.1 c_3)]
    exact ⟨rfl, K_2, kq_3⟩
  ·
    refine aw_iload_n C dX9_counted_6 rfl rfl (q := 7) rfl ?_
    refine aw_bipush (v := 9) C dX9_counted_7 (by decide) (q := 9) rfl ?_
    refine aw_icmp_le (t := 16) (q := 12) C dX9_counted_9 (by decide) rfl (fun c_9 => ?_) (fun c_9 => ?_)
    ·
      refine aw_iconst (v := 0) C dX9_counted_16 (by decide) (q := 17) rfl ?_
      refine pfX9_89_9 C dX9_counted_17 K.1 rfl rfl (Nat.le_of_ble_eq_true rfl) (q := 20) rfl ?_
      show aw G 2 M 20 [.ref o, .int g] [] (ac_up h o (.inr (9, md_fs md ((upd s.1 0 0, s.2.1, s.2.2).1)))) 0 0
      obtain ⟨h_5, eh_5⟩ : ∃ z9, z9 = ac_up h o (.inr (9, md_fs md ((upd s.1 0 0, s.2.1, s.2.2).1))) := ⟨_, rfl⟩
      rw [← eh_5]
      have kpx_8 : kp h h_5 [o] := by rw [eh_5]; exact kp_up (kp_cons o kp_rf) _ _ (by simp)
      have K_6 : md_ok h_5 o md (upd s.1 0 0, s.2.1, s.2.2) := md_J (s := (s.1, s.2.1, s.2.2)) K (by rw [eh_5]; exact ac_up_s _ _ _) kpx_8
      have kq_7 : kp h h_5 (md_L o md) := kp_mono kpx_8 md_s0
      refine aw_aload_n C dX9_counted_20 rfl rfl (q := 21) rfl ?_
      refine gfX9_89_9 (v := .int 0) C dX9_counted_21 K_6.1 rfl (q := 24) rfl ?_
      refine aw_if_le (t := 31) (q := 27) C dX9_counted_24 (by decide) rfl (fun c_24 => ?_) (fun c_24 => absurd c_24 (by decide))
      refine aw_aload_n C dX9_counted_31 rfl rfl (q := 32) rfl ?_
      refine gfX9_74_9 (v := .ref (md 38)) C dX9_counted_32 K_6.1 rfl (q := 35) rfl ?_
      refine aw_iload_n C dX9_counted_35 rfl rfl (q := 36) rfl ?_
      refine aw_iconst (v := 1) C dX9_counted_36 (by decide) (q := 37) rfl ?_
      refine aw_iadd C dX9_counted_37 (q := 38) rfl ?_
      refine ay_lald (N := 11) (f := s.2.2 38) (j := (g + 1).toNatClampNeg) C dX9_counted_38 (K_6.2.2 38 (by decide)) (gt_cin c_3 (mo_9.mp c_9)) (rfl) (q := 39) rfl ?_
      refine aw_lret C E dX9_counted_39 (Nat.le_refl _) (Nat.le_refl _) ?_
      rw [if_pos ⟨c_3, mo_9.mp c_9⟩, if_pos ⟨c_3, mo_9.mp c_9⟩]
      exact ⟨rfl, K_6, kq_7⟩
    ·
      refine aw_iconst (v := 1) C dX9_counted_12 (by decide) (q := 13) rfl ?_
      refine aw_goto (q := 17) C dX9_counted_13 (by decide) ?_
      refine pfX9_89_9 C dX9_counted_17 K.1 rfl rfl (Nat.le_of_ble_eq_true rfl) (q := 20) rfl ?_
      show aw G 2 M 20 [.ref o, .int g] [] (ac_up h o (.inr (9, md_fs md ((upd s.1 0 1, s.2.1, s.2.2).1)))) 0 0
      obtain ⟨h_9, eh_9⟩ : ∃ z9, z9 = ac_up h o (.inr (9, md_fs md ((upd s.1 0 1, s.2.1, s.2.2).1))) := ⟨_, rfl⟩
      rw [← eh_9]
      have kpx_12 : kp h h_9 [o] := by rw [eh_9]; exact kp_up (kp_cons o kp_rf) _ _ (by simp)
      have K_10 : md_ok h_9 o md (upd s.1 0 1, s.2.1, s.2.2) := md_J (s := (s.1, s.2.1, s.2.2)) K (by rw [eh_9]; exact ac_up_s _ _ _) kpx_12
      have kq_11 : kp h h_9 (md_L o md) := kp_mono kpx_12 md_s0
      refine aw_aload_n C dX9_counted_20 rfl rfl (q := 21) rfl ?_
      refine gfX9_89_9 (v := .int 1) C dX9_counted_21 K_10.1 rfl (q := 24) rfl ?_
      refine aw_if_le (t := 31) (q := 27) C dX9_counted_24 (by decide) rfl (fun c_24 => absurd c_24 (by decide)) (fun c_24 => ?_)
      refine aw_lconst (v := 0) C dX9_counted_27 (by decide) (q := 28) rfl ?_
      refine aw_goto (q := 39) C dX9_counted_28 (by decide) ?_
      refine aw_lret C E dX9_counted_39 (Nat.le_refl _) (Nat.le_refl _) ?_
      rw [if_neg (fun z => c_9 (mo_9.mpr z.2)), if_neg (fun z => c_9 (mo_9.mpr z.2))]
      exact ⟨rfl, K_10, kq_11⟩
theorem mo_g {g : Int32} : (¬ g < 0 ∧ ¬ 9 < g) ↔ gt_bl g 10 := by
  constructor
  · rintro ⟨h1, h2⟩
    exact ⟨h1, Int32.not_le.mpr (mo_9.mp (Int32.not_lt.mp h2))⟩
  · rintro ⟨h1, h2⟩
    exact ⟨h1, Int32.not_lt.mpr (mo_9.mpr (Int32.not_le.mp h2))⟩
