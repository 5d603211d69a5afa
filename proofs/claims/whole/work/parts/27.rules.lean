/-! Rules: init, beginRule, addStep -/
def ru_up (b : Nat → Nat) (i v : Nat) : Nat → Nat := fun j => if j = i then v else b j
theorem ru_up_n (b : Nat → Nat) (i v : Nat) : upd (fun r => nI (b r)) i (nI v) = fun r => nI (ru_up b i v r) := by
  funext j
  unfold upd ru_up
  by_cases h : j = i
  · rw [if_pos h, if_pos h]
  · rw [if_neg h, if_neg h]
def ru_new (n : Nat) : ru_D := (0, 0, n, 0, fun _ => 0, fun _ => 0, fun _ => 0, fun _ => 0, fun _ => 0)
def ru_begin (T : ru_D) (g : Int32) : ru_D := if ru_cnt T < 12 then (ru_cnt T + 1, ru_sc T, ru_n T, ru_np T, upd (ru_g T) (ru_cnt T) g, ru_up (ru_up (ru_b T) (ru_cnt T) (ru_sc T)) (ru_cnt T + 1) (ru_sc T), ru_a T, ru_o T, ru_p T) else T
def ru_add (T : ru_D) (act op : Int32) : ru_D := if ru_sc T < ru_n T then (ru_cnt T, ru_sc T + 1, ru_n T, ru_np T, ru_g T, ru_up (ru_b T) (ru_cnt T) (ru_sc T + 1), upd (ru_a T) (ru_sc T) act, upd (ru_o T) (ru_sc T) op, ru_p T) else T
/-- the bounds that rules keep while they are made -/
def ru_bd (T : ru_D) : Prop := ru_cnt T ≤ 12 ∧ ru_sc T ≤ ru_n T ∧ ru_n T ≤ 300
theorem ru_add_bd {T : ru_D} (h : ru_bd T) (a o : Int32) : ru_bd (ru_add T a o) := by
  unfold ru_add
  split
  · rename_i z; exact ⟨h.1, z, h.2.2⟩
  · exact h
theorem ru_begin_bd {T : ru_D} (h : ru_bd T) (g : Int32) : ru_bd (ru_begin T g) := by
  unfold ru_begin
  split
  · rename_i z; exact ⟨z, h.2.1, h.2.2⟩
  · exact h
theorem ru_new_bd {n : Nat} (h : n ≤ 300) : ru_bd (ru_new n) := ⟨Nat.zero_le _, Nat.zero_le _, h⟩
set_option maxHeartbeats 4000000 in
set_option maxRecDepth 100000 in
theorem c_beginRule (G : ac_G) (l : Launch) (h : ac_H) (d : Nat) (rd : Nat → Nat) (T : ru_D) (hr : inj rd 6) (U : ru_ok h rd T) (hb : ru_bd T) (g : Int32) : ac_Met G l yX6_beginRule cX6_beginRule 2 none (d + 1) 0 0 [.ref (rd 0), .int g] h (fun r9 h9 => r9 = none ∧ ru_ok h9 rd (ru_begin T g) ∧ kp h h9 [rd 0, rd 1, rd 2]) := by
  refine ac_of (ls := [.ref (rd 0), .int g]) (by decide +kernel) rfl (Nat.le_of_ble_eq_true rfl) (fun M hl C B E hnm => ?_)
  obtain ⟨hb1, hb2, hb3⟩ := id hb
  refine aw_aload_n C dX6_beginRule_0 rfl rfl (q := 1) rfl ?_
  refine gfX6_34_6 (v := .int (nI (ru_cnt T))) C dX6_beginRule_1 U.1 rfl (q := 4) rfl ?_
  refine aw_bipush (v := 12) C dX6_beginRule_4 (by decide) (q := 6) rfl ?_
  refine csX6_38 (As := [.int (nI (ru_cnt T)), .int 12]) (rest := []) C B dX6_beginRule_6 (c_isBelow G M.2.1 h d (nI (ru_cnt T)) 12) rfl rfl (Nat.le_of_ble_eq_true rfl) (by omega) (by omega) (by omega) (q := 9) rfl (fun r9 h9 hr9 => ?_)
  obtain ⟨e9, er9⟩ := hr9
  subst er9; rw [e9]
  show aw G 2 M 9 [.ref (rd 0), .int g] [.int (pb_b (¬ (nI (ru_cnt T)) < 0 ∧ ¬ 12 ≤ (nI (ru_cnt T))))] h 0 0
  refine aw_if_eq (t := 58) (q := 12) C dX6_beginRule_9 (by decide) rfl (fun c_9 => ?_) (fun c_9 => ?_)
  ·
    refine aw_vret C E dX6_beginRule_58 (Nat.le_refl _) (Nat.le_refl _) ?_
    have e : ru_begin T g = T := by unfold ru_begin; rw [if_neg (fun z => pb_0.mp c_9 ⟨nI_pos (by omega), ni_nge (ru_cnt T) 12 rfl rfl (by omega) (by decide) (by omega)⟩)]
    rw [e]; exact ⟨rfl, U, kp_mono kp_rf (by simp)⟩
  ·
    have hc1 : ru_cnt T < 12 := by
      have z := (pb_n c_9).2
      exact ni_nle (ru_cnt T) 12 rfl rfl (by omega) (by decide) z
    refine aw_aload_n C dX6_beginRule_12 rfl rfl (q := 13) rfl ?_
    refine gfX6_9_6 (v := .ref (rd 1)) C dX6_beginRule_13 U.1 rfl (q := 16) rfl ?_
    refine aw_aload_n C dX6_beginRule_16 rfl rfl (q := 17) rfl ?_
    refine gfX6_34_6 (v := .int (nI (ru_cnt T))) C dX6_beginRule_17 U.1 rfl (q := 20) rfl ?_
    refine aw_iload_n C dX6_beginRule_20 rfl rfl (q := 21) rfl ?_
    refine ay_iast (j := ru_cnt T) C dX6_beginRule_21 U.2.1 (vp_in_nI (by omega) (by omega)) (nI_clamp (by omega)) (q := 22) rfl ?_
    show aw G 2 M 22 [.ref (rd 0), .int g] [] (ac_up h (rd 1) (.inl (1, 12, .inl (upd (ru_g T) (ru_cnt T) g)))) 0 0
    obtain ⟨h_1, eh_1⟩ : ∃ z, z = ac_up h (rd 1) (.inl (1, 12, .inl (upd (ru_g T) (ru_cnt T) g))) := ⟨_, rfl⟩
    rw [← eh_1]
    have f_2 : h_1 (rd 0) = some (.inr (6, [.int (nI (ru_cnt T)), .int (nI (ru_sc T)), .ref (rd 1), .ref (rd 2), .ref (rd 3), .ref (rd 4), .ref (rd 5)])) := by rw [eh_1, ac_up_n _ _ (hr 0 1 (by decide) (by decide) (by decide))]; exact U.1
    have f_3 : h_1 (rd 2) = some (.inl (1, 13, .inl (fun r => nI (ru_b T r)))) := by rw [eh_1, ac_up_n _ _ (hr 2 1 (by decide) (by decide) (by decide))]; exact U.2.2.1
    have f_4 : h_1 (rd 3) = some (.inl (1, ru_n T, .inl (ru_a T))) := by rw [eh_1, ac_up_n _ _ (hr 3 1 (by decide) (by decide) (by decide))]; exact U.2.2.2.1
    have f_5 : h_1 (rd 4) = some (.inl (1, ru_n T, .inl (ru_o T))) := by rw [eh_1, ac_up_n _ _ (hr 4 1 (by decide) (by decide) (by decide))]; exact U.2.2.2.2.1
    have f_6 : h_1 (rd 5) = some (.inl (0, ru_np T, .inl (ru_p T))) := by rw [eh_1, ac_up_n _ _ (hr 5 1 (by decide) (by decide) (by decide))]; exact U.2.2.2.2.2
    have f_7 : h_1 (rd 1) = some (.inl (1, 12, .inl (upd (ru_g T) (ru_cnt T) g))) := by rw [eh_1]; exact ac_up_s _ _ _
    have kp_8 : kp h h_1 [rd 1] := by rw [eh_1]; exact kp_up (kp_cons (rd 1) kp_rf) _ _ (by simp)
    refine aw_aload_n C dX6_beginRule_22 rfl rfl (q := 23) rfl ?_
    refine gfX6_15_6 (v := .ref (rd 2)) C dX6_beginRule_23 f_2 rfl (q := 26) rfl ?_
    refine aw_aload_n C dX6_beginRule_26 rfl rfl (q := 27) rfl ?_
    refine gfX6_34_6 (v := .int (nI (ru_cnt T))) C dX6_beginRule_27 f_2 rfl (q := 30) rfl ?_
    refine aw_aload_n C dX6_beginRule_30 rfl rfl (q := 31) rfl ?_
    refine gfX6_42_6 (v := .int (nI (ru_sc T))) C dX6_beginRule_31 f_2 rfl (q := 34) rfl ?_
    refine ay_iast (j := ru_cnt T) C dX6_beginRule_34 f_3 (vp_in_nI (by omega) (by omega)) (nI_clamp (by omega)) (q := 35) rfl ?_
    show aw G 2 M 35 [.ref (rd 0), .int g] [] (ac_up h_1 (rd 2) (.inl (1, 13, .inl (upd (fun r => nI (ru_b T r)) (ru_cnt T) (nI (ru_sc T)))))) 0 0
    obtain ⟨h_9, eh_9⟩ : ∃ z, z = ac_up h_1 (rd 2) (.inl (1, 13, .inl (upd (fun r => nI (ru_b T r)) (ru_cnt T) (nI (ru_sc T))))) := ⟨_, rfl⟩
    rw [← eh_9]
    have f_10 : h_9 (rd 0) = some (.inr (6, [.int (nI (ru_cnt T)), .int (nI (ru_sc T)), .ref (rd 1), .ref (rd 2), .ref (rd 3), .ref (rd 4), .ref (rd 5)])) := by rw [eh_9, ac_up_n _ _ (hr 0 2 (by decide) (by decide) (by decide))]; exact f_2
    have f_11 : h_9 (rd 1) = some (.inl (1, 12, .inl (upd (ru_g T) (ru_cnt T) g))) := by rw [eh_9, ac_up_n _ _ (hr 1 2 (by decide) (by decide) (by decide))]; exact f_7
    have f_12 : h_9 (rd 3) = some (.inl (1, ru_n T, .inl (ru_a T))) := by rw [eh_9, ac_up_n _ _ (hr 3 2 (by decide) (by decide) (by decide))]; exact f_4
    have f_13 : h_9 (rd 4) = some (.inl (1, ru_n T, .inl (ru_o T))) := by rw [eh_9, ac_up_n _ _ (hr 4 2 (by decide) (by decide) (by decide))]; exact f_5
    have f_14 : h_9 (rd 5) = some (.inl (0, ru_np T, .inl (ru_p T))) := by rw [eh_9, ac_up_n _ _ (hr 5 2 (by decide) (by decide) (by decide))]; exact f_6
    have f_15 : h_9 (rd 2) = some (.inl (1, 13, .inl (upd (fun r => nI (ru_b T r)) (ru_cnt T) (nI (ru_sc T))))) := by rw [eh_9]; exact ac_up_s _ _ _
    have kp_16 : kp h h_9 [rd 2, rd 1] := by rw [eh_9]; exact kp_up (kp_cons (rd 2) kp_8) _ _ (by simp)
    refine aw_aload_n C dX6_beginRule_35 rfl rfl (q := 36) rfl ?_
    refine aw_dup C dX6_beginRule_36 rfl (q := 37) rfl ?_
    refine gfX6_34_6 (v := .int (nI (ru_cnt T))) C dX6_beginRule_37 f_10 rfl (q := 40) rfl ?_
    refine aw_iconst (v := 1) C dX6_beginRule_40 (by decide) (q := 41) rfl ?_
    refine aw_iadd C dX6_beginRule_41 (q := 42) rfl ?_
    rw [show nI (ru_cnt T) + 1 = nI ((ru_cnt T) + 1) from nI_1 _]
    refine pfX6_34_6 C dX6_beginRule_42 f_10 rfl rfl (Nat.le_of_ble_eq_true rfl) (q := 45) rfl ?_
    show aw G 2 M 45 [.ref (rd 0), .int g] [] (ac_up h_9 (rd 0) (.inr (6, [.int (nI ((ru_cnt T) + 1)), .int (nI (ru_sc T)), .ref (rd 1), .ref (rd 2), .ref (rd 3), .ref (rd 4), .ref (rd 5)]))) 0 0
    obtain ⟨h_17, eh_17⟩ : ∃ z, z = ac_up h_9 (rd 0) (.inr (6, [.int (nI ((ru_cnt T) + 1)), .int (nI (ru_sc T)), .ref (rd 1), .ref (rd 2), .ref (rd 3), .ref (rd 4), .ref (rd 5)])) := ⟨_, rfl⟩
    rw [← eh_17]
    have f_18 : h_17 (rd 1) = some (.inl (1, 12, .inl (upd (ru_g T) (ru_cnt T) g))) := by rw [eh_17, ac_up_n _ _ (hr 1 0 (by decide) (by decide) (by decide))]; exact f_11
    have f_19 : h_17 (rd 2) = some (.inl (1, 13, .inl (upd (fun r => nI (ru_b T r)) (ru_cnt T) (nI (ru_sc T))))) := by rw [eh_17, ac_up_n _ _ (hr 2 0 (by decide) (by decide) (by decide))]; exact f_15
    have f_20 : h_17 (rd 3) = some (.inl (1, ru_n T, .inl (ru_a T))) := by rw [eh_17, ac_up_n _ _ (hr 3 0 (by decide) (by decide) (by decide))]; exact f_12
    have f_21 : h_17 (rd 4) = some (.inl (1, ru_n T, .inl (ru_o T))) := by rw [eh_17, ac_up_n _ _ (hr 4 0 (by decide) (by decide) (by decide))]; exact f_13
    have f_22 : h_17 (rd 5) = some (.inl (0, ru_np T, .inl (ru_p T))) := by rw [eh_17, ac_up_n _ _ (hr 5 0 (by decide) (by decide) (by decide))]; exact f_14
    have f_23 : h_17 (rd 0) = some (.inr (6, [.int (nI ((ru_cnt T) + 1)), .int (nI (ru_sc T)), .ref (rd 1), .ref (rd 2), .ref (rd 3), .ref (rd 4), .ref (rd 5)])) := by rw [eh_17]; exact ac_up_s _ _ _
    have kp_24 : kp h h_17 [rd 0, rd 2, rd 1] := by rw [eh_17]; exact kp_up (kp_cons (rd 0) kp_16) _ _ (by simp)
    refine aw_aload_n C dX6_beginRule_45 rfl rfl (q := 46) rfl ?_
    refine gfX6_15_6 (v := .ref (rd 2)) C dX6_beginRule_46 f_23 rfl (q := 49) rfl ?_
    refine aw_aload_n C dX6_beginRule_49 rfl rfl (q := 50) rfl ?_
    refine gfX6_34_6 (v := .int (nI ((ru_cnt T) + 1))) C dX6_beginRule_50 f_23 rfl (q := 53) rfl ?_
    refine aw_aload_n C dX6_beginRule_53 rfl rfl (q := 54) rfl ?_
    refine gfX6_42_6 (v := .int (nI (ru_sc T))) C dX6_beginRule_54 f_23 rfl (q := 57) rfl ?_
    refine ay_iast (j := ru_cnt T + 1) C dX6_beginRule_57 f_19 (vp_in_nI (by omega) (by omega)) (nI_clamp (by omega)) (q := 58) rfl ?_
    show aw G 2 M 58 [.ref (rd 0), .int g] [] (ac_up h_17 (rd 2) (.inl (1, 13, .inl (upd (upd (fun r => nI (ru_b T r)) (ru_cnt T) (nI (ru_sc T))) (ru_cnt T + 1) (nI (ru_sc T)))))) 0 0
    obtain ⟨h_25, eh_25⟩ : ∃ z, z = ac_up h_17 (rd 2) (.inl (1, 13, .inl (upd (upd (fun r => nI (ru_b T r)) (ru_cnt T) (nI (ru_sc T))) (ru_cnt T + 1) (nI (ru_sc T))))) := ⟨_, rfl⟩
    rw [← eh_25]
    have f_26 : h_25 (rd 0) = some (.inr (6, [.int (nI ((ru_cnt T) + 1)), .int (nI (ru_sc T)), .ref (rd 1), .ref (rd 2), .ref (rd 3), .ref (rd 4), .ref (rd 5)])) := by rw [eh_25, ac_up_n _ _ (hr 0 2 (by decide) (by decide) (by decide))]; exact f_23
    have f_27 : h_25 (rd 1) = some (.inl (1, 12, .inl (upd (ru_g T) (ru_cnt T) g))) := by rw [eh_25, ac_up_n _ _ (hr 1 2 (by decide) (by decide) (by decide))]; exact f_18
    have f_28 : h_25 (rd 3) = some (.inl (1, ru_n T, .inl (ru_a T))) := by rw [eh_25, ac_up_n _ _ (hr 3 2 (by decide) (by decide) (by decide))]; exact f_20
    have f_29 : h_25 (rd 4) = some (.inl (1, ru_n T, .inl (ru_o T))) := by rw [eh_25, ac_up_n _ _ (hr 4 2 (by decide) (by decide) (by decide))]; exact f_21
    have f_30 : h_25 (rd 5) = some (.inl (0, ru_np T, .inl (ru_p T))) := by rw [eh_25, ac_up_n _ _ (hr 5 2 (by decide) (by decide) (by decide))]; exact f_22
    have f_31 : h_25 (rd 2) = some (.inl (1, 13, .inl (upd (upd (fun r => nI (ru_b T r)) (ru_cnt T) (nI (ru_sc T))) (ru_cnt T + 1) (nI (ru_sc T))))) := by rw [eh_25]; exact ac_up_s _ _ _
    have kp_32 : kp h h_25 [rd 0, rd 2, rd 1] := by rw [eh_25]; exact kp_up kp_24 _ _ (by simp)
    refine aw_vret C E dX6_beginRule_58 (Nat.le_refl _) (Nat.le_refl _) ?_
    have e : ru_begin T g = (ru_cnt T + 1, ru_sc T, ru_n T, ru_np T, upd (ru_g T) (ru_cnt T) g, ru_up (ru_up (ru_b T) (ru_cnt T) (ru_sc T)) (ru_cnt T + 1) (ru_sc T), ru_a T, ru_o T, ru_p T) := by unfold ru_begin; rw [if_pos hc1]
    rw [e]; refine ⟨rfl, ⟨f_26, f_27, ?_, f_28, f_29, f_30⟩, kp_mono kp_32 (by simp)⟩
    rw [show (fun r => nI (ru_b (ru_cnt T + 1, ru_sc T, ru_n T, ru_np T, upd (ru_g T) (ru_cnt T) g, ru_up (ru_up (ru_b T) (ru_cnt T) (ru_sc T)) (ru_cnt T + 1) (ru_sc T), ru_a T, ru_o T, ru_p T) r)) = upd (upd (fun r => nI (ru_b T r)) (ru_cnt T) (nI (ru_sc T))) (ru_cnt T + 1) (nI (ru_sc T)) from by rw [ru_up_n, ru_up_n]]
    exact f_31
set_option maxHeartbeats 4000000 in
set_option maxRecDepth 100000 in
theorem c_addStep (G : ac_G) (l : Launch) (h : ac_H) (d : Nat) (rd : Nat → Nat) (T : ru_D) (hr : inj rd 6) (U : ru_ok h rd T) (hb : ru_bd T) (a o : Int32) : ac_Met G l yX6_addStep cX6_addStep 3 none (d + 1) 0 0 [.ref (rd 0), .int a, .int o] h (fun r9 h9 => r9 = none ∧ ru_ok h9 rd (ru_add T a o) ∧ kp h h9 [rd 0, rd 2, rd 3, rd 4]) := by
  refine ac_of (ls := [.ref (rd 0), .int a, .int o]) (by decide +kernel) rfl (Nat.le_of_ble_eq_true rfl) (fun M hl C B E hnm => ?_)
  obtain ⟨hb1, hb2, hb3⟩ := id hb
  refine aw_aload_n C dX6_addStep_0 rfl rfl (q := 1) rfl ?_
  refine gfX6_42_6 (v := .int (nI (ru_sc T))) C dX6_addStep_1 U.1 rfl (q := 4) rfl ?_
  refine aw_aload_n C dX6_addStep_4 rfl rfl (q := 5) rfl ?_
  refine gfX6_28_6 (v := .ref (rd 3)) C dX6_addStep_5 U.1 rfl (q := 8) rfl ?_
  refine aw_alen (v := nI (ru_n T)) C dX6_addStep_8 U.2.2.2.1 rfl rfl (q := 9) rfl ?_
  refine csX6_38 (As := [.int (nI (ru_sc T)), .int (nI (ru_n T))]) (rest := []) C B dX6_addStep_9 (c_isBelow G M.2.1 h d (nI (ru_sc T)) (nI (ru_n T))) rfl rfl (Nat.le_of_ble_eq_true rfl) (by omega) (by omega) (by omega) (q := 12) rfl (fun r9 h9 hr9 => ?_)
  obtain ⟨e9, er9⟩ := hr9
  subst er9; rw [e9]
  show aw G 3 M 12 [.ref (rd 0), .int a, .int o] [.int (pb_b (¬ (nI (ru_sc T)) < 0 ∧ ¬ (nI (ru_n T)) ≤ (nI (ru_sc T))))] h 0 0
  refine aw_if_eq (t := 85) (q := 15) C dX6_addStep_12 (by decide) rfl (fun c_12 => ?_) (fun c_12 => ?_)
  ·
    refine aw_vret C E dX6_addStep_85 (Nat.le_refl _) (Nat.le_refl _) ?_
    have e : ru_add T a o = T := by unfold ru_add; rw [if_neg (fun z => pb_0.mp c_12 ⟨nI_pos (by omega), ni_nge (ru_sc T) (ru_n T) rfl rfl (by omega) (by omega) (by omega)⟩)]
    rw [e]; exact ⟨rfl, U, kp_mono kp_rf (by simp)⟩
  ·
    have hc1 : ru_sc T < ru_n T := by
      have z := (pb_n c_12).2
      exact ni_nle (ru_sc T) (ru_n T) rfl rfl (by omega) (by omega) z
    refine aw_aload_n C dX6_addStep_15 rfl rfl (q := 16) rfl ?_
    refine gfX6_42_6 (v := .int (nI (ru_sc T))) C dX6_addStep_16 U.1 rfl (q := 19) rfl ?_
    refine aw_aload_n C dX6_addStep_19 rfl rfl (q := 20) rfl ?_
    refine gfX6_31_6 (v := .ref (rd 4)) C dX6_addStep_20 U.1 rfl (q := 23) rfl ?_
    refine aw_alen (v := nI (ru_n T)) C dX6_addStep_23 U.2.2.2.2.1 rfl rfl (q := 24) rfl ?_
    refine aw_icmp_ge (t := 85) (q := 27) C dX6_addStep_24 (by decide) rfl (fun c_24 => absurd c_24 (ni_nge (ru_sc T) (ru_n T) rfl rfl (by omega) (by omega) (by omega))) (fun c_24 => ?_)
    refine aw_aload_n C dX6_addStep_27 rfl rfl (q := 28) rfl ?_
    refine gfX6_34_6 (v := .int (nI (ru_cnt T))) C dX6_addStep_28 U.1 rfl (q := 31) rfl ?_
    refine aw_aload_n C dX6_addStep_31 rfl rfl (q := 32) rfl ?_
    refine gfX6_15_6 (v := .ref (rd 2)) C dX6_addStep_32 U.1 rfl (q := 35) rfl ?_
    refine aw_alen (v := nI 13) C dX6_addStep_35 U.2.2.1 rfl rfl (q := 36) rfl ?_
    refine csX6_38 (As := [.int (nI (ru_cnt T)), .int (nI 13)]) (rest := []) C B dX6_addStep_36 (c_isBelow G M.2.1 h d (nI (ru_cnt T)) (nI 13)) rfl rfl (Nat.le_of_ble_eq_true rfl) (by omega) (by omega) (by omega) (q := 39) rfl (fun r9 h9 hr9 => ?_)
    obtain ⟨e9, er9⟩ := hr9
    subst er9; rw [e9]
    show aw G 3 M 39 [.ref (rd 0), .int a, .int o] [.int (pb_b (¬ (nI (ru_cnt T)) < 0 ∧ ¬ (nI 13) ≤ (nI (ru_cnt T))))] h 0 0
    refine aw_if_eq (t := 85) (q := 42) C dX6_addStep_39 (by decide) rfl (fun c_39 => absurd c_39 (fun z => pb_0.mp z ⟨nI_pos (by omega), ni_nge (ru_cnt T) 13 rfl rfl (by omega) (by decide) (by omega)⟩)) (fun c_39 => ?_)
    refine aw_aload_n C dX6_addStep_42 rfl rfl (q := 43) rfl ?_
    refine gfX6_28_6 (v := .ref (rd 3)) C dX6_addStep_43 U.1 rfl (q := 46) rfl ?_
    refine aw_aload_n C dX6_addStep_46 rfl rfl (q := 47) rfl ?_
    refine gfX6_42_6 (v := .int (nI (ru_sc T))) C dX6_addStep_47 U.1 rfl (q := 50) rfl ?_
    refine aw_iload_n C dX6_addStep_50 rfl rfl (q := 51) rfl ?_
    refine ay_iast (j := ru_sc T) C dX6_addStep_51 U.2.2.2.1 (vp_in_nI (by omega) (by omega)) (nI_clamp (by omega)) (q := 52) rfl ?_
    show aw G 3 M 52 [.ref (rd 0), .int a, .int o] [] (ac_up h (rd 3) (.inl (1, ru_n T, .inl (upd (ru_a T) (ru_sc T) a)))) 0 0
    obtain ⟨h_1, eh_1⟩ : ∃ z, z = ac_up h (rd 3) (.inl (1, ru_n T, .inl (upd (ru_a T) (ru_sc T) a))) := ⟨_, rfl⟩
    rw [← eh_1]
    have f_2 : h_1 (rd 0) = some (.inr (6, [.int (nI (ru_cnt T)), .int (nI (ru_sc T)), .ref (rd 1), .ref (rd 2), .ref (rd 3), .ref (rd 4), .ref (rd 5)])) := by rw [eh_1, ac_up_n _ _ (hr 0 3 (by decide) (by decide) (by decide))]; exact U.1
    have f_3 : h_1 (rd 1) = some (.inl (1, 12, .inl (ru_g T))) := by rw [eh_1, ac_up_n _ _ (hr 1 3 (by decide) (by decide) (by decide))]; exact U.2.1
    have f_4 : h_1 (rd 2) = some (.inl (1, 13, .inl (fun r => nI (ru_b T r)))) := by rw [eh_1, ac_up_n _ _ (hr 2 3 (by decide) (by decide) (by decide))]; exact U.2.2.1
    have f_5 : h_1 (rd 4) = some (.inl (1, ru_n T, .inl (ru_o T))) := by rw [eh_1, ac_up_n _ _ (hr 4 3 (by decide) (by decide) (by decide))]; exact U.2.2.2.2.1
    have f_6 : h_1 (rd 5) = some (.inl (0, ru_np T, .inl (ru_p T))) := by rw [eh_1, ac_up_n _ _ (hr 5 3 (by decide) (by decide) (by decide))]; exact U.2.2.2.2.2
    have f_7 : h_1 (rd 3) = some (.inl (1, ru_n T, .inl (upd (ru_a T) (ru_sc T) a))) := by rw [eh_1]; exact ac_up_s _ _ _
    have kp_8 : kp h h_1 [rd 3] := by rw [eh_1]; exact kp_up (kp_cons (rd 3) kp_rf) _ _ (by simp)
    refine aw_aload_n C dX6_addStep_52 rfl rfl (q := 53) rfl ?_
    refine gfX6_31_6 (v := .ref (rd 4)) C dX6_addStep_53 f_2 rfl (q := 56) rfl ?_
    refine aw_aload_n C dX6_addStep_56 rfl rfl (q := 57) rfl ?_
    refine gfX6_42_6 (v := .int (nI (ru_sc T))) C dX6_addStep_57 f_2 rfl (q := 60) rfl ?_
    refine aw_iload_n C dX6_addStep_60 rfl rfl (q := 61) rfl ?_
    refine ay_iast (j := ru_sc T) C dX6_addStep_61 f_5 (vp_in_nI (by omega) (by omega)) (nI_clamp (by omega)) (q := 62) rfl ?_
    show aw G 3 M 62 [.ref (rd 0), .int a, .int o] [] (ac_up h_1 (rd 4) (.inl (1, ru_n T, .inl (upd (ru_o T) (ru_sc T) o)))) 0 0
    obtain ⟨h_9, eh_9⟩ : ∃ z, z = ac_up h_1 (rd 4) (.inl (1, ru_n T, .inl (upd (ru_o T) (ru_sc T) o))) := ⟨_, rfl⟩
    rw [← eh_9]
    have f_10 : h_9 (rd 0) = some (.inr (6, [.int (nI (ru_cnt T)), .int (nI (ru_sc T)), .ref (rd 1), .ref (rd 2), .ref (rd 3), .ref (rd 4), .ref (rd 5)])) := by rw [eh_9, ac_up_n _ _ (hr 0 4 (by decide) (by decide) (by decide))]; exact f_2
    have f_11 : h_9 (rd 1) = some (.inl (1, 12, .inl (ru_g T))) := by rw [eh_9, ac_up_n _ _ (hr 1 4 (by decide) (by decide) (by decide))]; exact f_3
    have f_12 : h_9 (rd 2) = some (.inl (1, 13, .inl (fun r => nI (ru_b T r)))) := by rw [eh_9, ac_up_n _ _ (hr 2 4 (by decide) (by decide) (by decide))]; exact f_4
    have f_13 : h_9 (rd 3) = some (.inl (1, ru_n T, .inl (upd (ru_a T) (ru_sc T) a))) := by rw [eh_9, ac_up_n _ _ (hr 3 4 (by decide) (by decide) (by decide))]; exact f_7
    have f_14 : h_9 (rd 5) = some (.inl (0, ru_np T, .inl (ru_p T))) := by rw [eh_9, ac_up_n _ _ (hr 5 4 (by decide) (by decide) (by decide))]; exact f_6
    have f_15 : h_9 (rd 4) = some (.inl (1, ru_n T, .inl (upd (ru_o T) (ru_sc T) o))) := by rw [eh_9]; exact ac_up_s _ _ _
    have kp_16 : kp h h_9 [rd 4, rd 3] := by rw [eh_9]; exact kp_up (kp_cons (rd 4) kp_8) _ _ (by simp)
    refine aw_aload_n C dX6_addStep_62 rfl rfl (q := 63) rfl ?_
    refine aw_dup C dX6_addStep_63 rfl (q := 64) rfl ?_
    refine gfX6_42_6 (v := .int (nI (ru_sc T))) C dX6_addStep_64 f_10 rfl (q := 67) rfl ?_
    refine aw_iconst (v := 1) C dX6_addStep_67 (by decide) (q := 68) rfl ?_
    refine aw_iadd C dX6_addStep_68 (q := 69) rfl ?_
    rw [show nI (ru_sc T) + 1 = nI ((ru_sc T) + 1) from nI_1 _]
    refine pfX6_42_6 C dX6_addStep_69 f_10 rfl rfl (Nat.le_of_ble_eq_true rfl) (q := 72) rfl ?_
    show aw G 3 M 72 [.ref (rd 0), .int a, .int o] [] (ac_up h_9 (rd 0) (.inr (6, [.int (nI (ru_cnt T)), .int (nI ((ru_sc T) + 1)), .ref (rd 1), .ref (rd 2), .ref (rd 3), .ref (rd 4), .ref (rd 5)]))) 0 0
    obtain ⟨h_17, eh_17⟩ : ∃ z, z = ac_up h_9 (rd 0) (.inr (6, [.int (nI (ru_cnt T)), .int (nI ((ru_sc T) + 1)), .ref (rd 1), .ref (rd 2), .ref (rd 3), .ref (rd 4), .ref (rd 5)])) := ⟨_, rfl⟩
    rw [← eh_17]
    have f_18 : h_17 (rd 1) = some (.inl (1, 12, .inl (ru_g T))) := by rw [eh_17, ac_up_n _ _ (hr 1 0 (by decide) (by decide) (by decide))]; exact f_11
    have f_19 : h_17 (rd 2) = some (.inl (1, 13, .inl (fun r => nI (ru_b T r)))) := by rw [eh_17, ac_up_n _ _ (hr 2 0 (by decide) (by decide) (by decide))]; exact f_12
    have f_20 : h_17 (rd 3) = some (.inl (1, ru_n T, .inl (upd (ru_a T) (ru_sc T) a))) := by rw [eh_17, ac_up_n _ _ (hr 3 0 (by decide) (by decide) (by decide))]; exact f_13
    have f_21 : h_17 (rd 4) = some (.inl (1, ru_n T, .inl (upd (ru_o T) (ru_sc T) o))) := by rw [eh_17, ac_up_n _ _ (hr 4 0 (by decide) (by decide) (by decide))]; exact f_15
    have f_22 : h_17 (rd 5) = some (.inl (0, ru_np T, .inl (ru_p T))) := by rw [eh_17, ac_up_n _ _ (hr 5 0 (by decide) (by decide) (by decide))]; exact f_14
    have f_23 : h_17 (rd 0) = some (.inr (6, [.int (nI (ru_cnt T)), .int (nI ((ru_sc T) + 1)), .ref (rd 1), .ref (rd 2), .ref (rd 3), .ref (rd 4), .ref (rd 5)])) := by rw [eh_17]; exact ac_up_s _ _ _
    have kp_24 : kp h h_17 [rd 0, rd 4, rd 3] := by rw [eh_17]; exact kp_up (kp_cons (rd 0) kp_16) _ _ (by simp)
    refine aw_aload_n C dX6_addStep_72 rfl rfl (q := 73) rfl ?_
    refine gfX6_15_6 (v := .ref (rd 2)) C dX6_addStep_73 f_23 rfl (q := 76) rfl ?_
    refine aw_aload_n C dX6_addStep_76 rfl rfl (q := 77) rfl ?_
    refine gfX6_34_6 (v := .int (nI (ru_cnt T))) C dX6_addStep_77 f_23 rfl (q := 80) rfl ?_
    refine aw_aload_n C dX6_addStep_80 rfl rfl (q := 81) rfl ?_
    refine gfX6_42_6 (v := .int (nI ((ru_sc T) + 1))) C dX6_addStep_81 f_23 rfl (q := 84) rfl ?_
    refine ay_iast (j := ru_cnt T) C dX6_addStep_84 f_19 (vp_in_nI (by omega) (by omega)) (nI_clamp (by omega)) (q := 85) rfl ?_
    show aw G 3 M 85 [.ref (rd 0), .int a, .int o] [] (ac_up h_17 (rd 2) (.inl (1, 13, .inl (upd (fun r => nI (ru_b T r)) (ru_cnt T) (nI ((ru_sc T) + 1)))))) 0 0
    obtain ⟨h_25, eh_25⟩ : ∃ z, z = ac_up h_17 (rd 2) (.inl (1, 13, .inl (upd (fun r => nI (ru_b T r)) (ru_cnt T) (nI ((ru_sc T) + 1))))) := ⟨_, rfl⟩
    rw [← eh_25]
    have f_26 : h_25 (rd 0) = some (.inr (6, [.int (nI (ru_cnt T)), .int (nI ((ru_sc T) + 1)), .ref (rd 1), .ref (rd 2), .ref (rd 3), .ref (rd 4), .ref (rd 5)])) := by rw [eh_25, ac_up_n _ _ (hr 0 2 (by decide) (by decide) (by decide))]; exact f_23
    have f_27 : h_25 (rd 1) = some (.inl (1, 12, .inl (ru_g T))) := by rw [eh_25, ac_up_n _ _ (hr 1 2 (by decide) (by decide) (by decide))]; exact f_18
    have f_28 : h_25 (rd 3) = some (.inl (1, ru_n T, .inl (upd (ru_a T) (ru_sc T) a))) := by rw [eh_25, ac_up_n _ _ (hr 3 2 (by decide) (by decide) (by decide))]; exact f_20
    have f_29 : h_25 (rd 4) = some (.inl (1, ru_n T, .inl (upd (ru_o T) (ru_sc T) o))) := by rw [eh_25, ac_up_n _ _ (hr 4 2 (by decide) (by decide) (by decide))]; exact f_21
    have f_30 : h_25 (rd 5) = some (.inl (0, ru_np T, .inl (ru_p T))) := by rw [eh_25, ac_up_n _ _ (hr 5 2 (by decide) (by decide) (by decide))]; exact f_22
    have f_31 : h_25 (rd 2) = some (.inl (1, 13, .inl (upd (fun r => nI (ru_b T r)) (ru_cnt T) (nI ((ru_sc T) + 1))))) := by rw [eh_25]; exact ac_up_s _ _ _
    have kp_32 : kp h h_25 [rd 2, rd 0, rd 4, rd 3] := by rw [eh_25]; exact kp_up (kp_cons (rd 2) kp_24) _ _ (by simp)
    refine aw_vret C E dX6_addStep_85 (Nat.le_refl _) (Nat.le_refl _) ?_
    have e : ru_add T a o = (ru_cnt T, ru_sc T + 1, ru_n T, ru_np T, ru_g T, ru_up (ru_b T) (ru_cnt T) (ru_sc T + 1), upd (ru_a T) (ru_sc T) a, upd (ru_o T) (ru_sc T) o, ru_p T) := by unfold ru_add; rw [if_pos hc1]
    rw [e]; refine ⟨rfl, ⟨f_26, f_27, ?_, f_28, f_29, f_30⟩, kp_mono kp_32 (by simp)⟩
    rw [show (fun r => nI (ru_b (ru_cnt T, ru_sc T + 1, ru_n T, ru_np T, ru_g T, ru_up (ru_b T) (ru_cnt T) (ru_sc T + 1), upd (ru_a T) (ru_sc T) a, upd (ru_o T) (ru_sc T) o, ru_p T) r)) = upd (fun r => nI (ru_b T r)) (ru_cnt T) (nI (ru_sc T + 1)) from by rw [ru_up_n]]
    exact f_31
set_option maxHeartbeats 4000000 in
set_option maxRecDepth 100000 in
theorem c_init6 (G : ac_G) (l : Launch) (h : ac_H) (d : Nat) (r n : Nat) (hn : n ≤ 300) (K : h r = some (.inr (6, [.int 0, .int 0, .null, .null, .null, .null, .null]))) : ac_Met G l yX6_init cX6_init 3 none (d + 1) 5 (25 + 2 * n) [.ref r, .int (nI n)] h (fun r9 h9 => r9 = none ∧ (∃ L : List Nat, L.length = 5 ∧ (r :: L).Nodup ∧ (∀ a ∈ L, h a = none) ∧ ru_ok h9 (fun j => (r :: L).getD j 0) (ru_new n)) ∧ kp h h9 [r]) := by
  refine ac_of (ls := [.ref r, .int (nI n), .retAddr 0]) (by decide +kernel) rfl (Nat.le_of_ble_eq_true rfl) (fun M hl C B E hnm => ?_)
  refine aw_aload_n C dX6_init_0 rfl rfl (q := 1) rfl ?_
  refine oiX6_3 C B dX6_init_1 (by decide) (by omega) (q := 4) rfl ?_
  refine aw_aload_n C dX6_init_4 rfl rfl (q := 5) rfl ?_
  refine aw_bipush (v := 12) C dX6_init_5 (by decide) (q := 7) rfl ?_
  refine ay_newI (N := 12) C dX6_init_7 (by decide) (rfl) (by decide) (Nat.le_trans (by omega) B.2.2.1) (Nat.le_trans (by omega) B.2.2.2) (q := 9) rfl (fun a1 hn_1 _ => ?_)
  show aw G 3 M 9 [.ref r, .int (nI n), .retAddr 0] [.ref a1, .ref r] (ac_up h a1 (.inl (1, 12, .inl (fun _ => 0)))) (0 + 1) (0 + 12)
  obtain ⟨h_2, eh_2⟩ : ∃ z, z = ac_up h a1 (.inl (1, 12, .inl (fun _ => 0))) := ⟨_, rfl⟩
  rw [← eh_2]
  have n_3 : h a1 = none := kp_none kp_rf hn_1 ni0
  have t_4 : r ≠ a1 := nw_ne K hn_1
  have f_5 : h_2 r = some (.inr (6, [.int 0, .int 0, .null, .null, .null, .null, .null])) := by rw [eh_2, ac_up_n _ _ t_4]; exact K
  have f_6 : h_2 a1 = some (.inl (1, 12, .inl (fun _ => 0))) := by rw [eh_2]; exact ac_up_s _ _ _
  have kp_7 : kp h h_2 [] := by rw [eh_2]; exact kp_new n_3 kp_rf
  refine pfX6_9_6 C hnm dX6_init_9 f_5 rfl rfl (Nat.le_of_ble_eq_true rfl) (q := 12) rfl ?_
  show aw G 3 M 12 [.ref r, .int (nI n), .retAddr 0] [] (ac_up h_2 r (.inr (6, [.int 0, .int 0, .ref a1, .null, .null, .null, .null]))) (0 + 1) (0 + 12)
  obtain ⟨h_8, eh_8⟩ : ∃ z, z = ac_up h_2 r (.inr (6, [.int 0, .int 0, .ref a1, .null, .null, .null, .null])) := ⟨_, rfl⟩
  rw [← eh_8]
  have f_9 : h_8 a1 = some (.inl (1, 12, .inl (fun _ => 0))) := by rw [eh_8, ac_up_n _ _ (Ne.symm t_4)]; exact f_6
  have f_10 : h_8 r = some (.inr (6, [.int 0, .int 0, .ref a1, .null, .null, .null, .null])) := by rw [eh_8]; exact ac_up_s _ _ _
  have kp_11 : kp h h_8 [r] := by rw [eh_8]; exact kp_up (kp_cons r kp_7) _ _ (by simp)
  refine aw_aload_n C dX6_init_12 rfl rfl (q := 13) rfl ?_
  refine aw_bipush (v := 13) C dX6_init_13 (by decide) (q := 15) rfl ?_
  refine ay_newI (N := 13) C dX6_init_15 (by decide) (rfl) (by decide) (Nat.le_trans (by omega) B.2.2.1) (Nat.le_trans (by omega) B.2.2.2) (q := 17) rfl (fun a2 hn_12 _ => ?_)
  show aw G 3 M 17 [.ref r, .int (nI n), .retAddr 0] [.ref a2, .ref r] (ac_up h_8 a2 (.inl (1, 13, .inl (fun _ => 0)))) ((0 + 1) + 1) ((0 + 12) + 13)
  obtain ⟨h_13, eh_13⟩ : ∃ z, z = ac_up h_8 a2 (.inl (1, 13, .inl (fun _ => 0))) := ⟨_, rfl⟩
  rw [← eh_13]
  have n_14 : h a2 = none := kp_none kp_11 hn_12 (ni1 (Ne.symm (nw_ne f_10 hn_12)) ni0)
  have t_15 : r ≠ a2 := nw_ne f_10 hn_12
  have f_16 : h_13 r = some (.inr (6, [.int 0, .int 0, .ref a1, .null, .null, .null, .null])) := by rw [eh_13, ac_up_n _ _ t_15]; exact f_10
  have t_17 : a1 ≠ a2 := nw_ne f_9 hn_12
  have f_18 : h_13 a1 = some (.inl (1, 12, .inl (fun _ => 0))) := by rw [eh_13, ac_up_n _ _ t_17]; exact f_9
  have f_19 : h_13 a2 = some (.inl (1, 13, .inl (fun _ => 0))) := by rw [eh_13]; exact ac_up_s _ _ _
  have kp_20 : kp h h_13 [r] := by rw [eh_13]; exact kp_new n_14 kp_11
  refine pfX6_15_6 C hnm dX6_init_17 f_16 rfl rfl (Nat.le_of_ble_eq_true rfl) (q := 20) rfl ?_
  show aw G 3 M 20 [.ref r, .int (nI n), .retAddr 0] [] (ac_up h_13 r (.inr (6, [.int 0, .int 0, .ref a1, .ref a2, .null, .null, .null]))) ((0 + 1) + 1) ((0 + 12) + 13)
  obtain ⟨h_21, eh_21⟩ : ∃ z, z = ac_up h_13 r (.inr (6, [.int 0, .int 0, .ref a1, .ref a2, .null, .null, .null])) := ⟨_, rfl⟩
  rw [← eh_21]
  have f_22 : h_21 a1 = some (.inl (1, 12, .inl (fun _ => 0))) := by rw [eh_21, ac_up_n _ _ (Ne.symm t_4)]; exact f_18
  have f_23 : h_21 a2 = some (.inl (1, 13, .inl (fun _ => 0))) := by rw [eh_21, ac_up_n _ _ (Ne.symm t_15)]; exact f_19
  have f_24 : h_21 r = some (.inr (6, [.int 0, .int 0, .ref a1, .ref a2, .null, .null, .null])) := by rw [eh_21]; exact ac_up_s _ _ _
  have kp_25 : kp h h_21 [r] := by rw [eh_21]; exact kp_up kp_20 _ _ (by simp)
  refine aw_aload_n C dX6_init_20 rfl rfl (q := 21) rfl ?_
  refine aw_iconst (v := 0) C dX6_init_21 (by decide) (q := 22) rfl ?_
  refine ay_newC (N := 0) C dX6_init_22 (by decide) (rfl) (by decide) (Nat.le_trans (by omega) B.2.2.1) (Nat.le_trans (by omega) B.2.2.2) (q := 24) rfl (fun a5 hn_26 _ => ?_)
  show aw G 3 M 24 [.ref r, .int (nI n), .retAddr 0] [.ref a5, .ref r] (ac_up h_21 a5 (.inl (0, 0, .inl (fun _ => 0)))) (((0 + 1) + 1) + 1) (((0 + 12) + 13) + 0)
  obtain ⟨h_27, eh_27⟩ : ∃ z, z = ac_up h_21 a5 (.inl (0, 0, .inl (fun _ => 0))) := ⟨_, rfl⟩
  rw [← eh_27]
  have n_28 : h a5 = none := kp_none kp_25 hn_26 (ni1 (Ne.symm (nw_ne f_24 hn_26)) ni0)
  have t_29 : r ≠ a5 := nw_ne f_24 hn_26
  have f_30 : h_27 r = some (.inr (6, [.int 0, .int 0, .ref a1, .ref a2, .null, .null, .null])) := by rw [eh_27, ac_up_n _ _ t_29]; exact f_24
  have t_31 : a1 ≠ a5 := nw_ne f_22 hn_26
  have f_32 : h_27 a1 = some (.inl (1, 12, .inl (fun _ => 0))) := by rw [eh_27, ac_up_n _ _ t_31]; exact f_22
  have t_33 : a2 ≠ a5 := nw_ne f_23 hn_26
  have f_34 : h_27 a2 = some (.inl (1, 13, .inl (fun _ => 0))) := by rw [eh_27, ac_up_n _ _ t_33]; exact f_23
  have f_35 : h_27 a5 = some (.inl (0, 0, .inl (fun _ => 0))) := by rw [eh_27]; exact ac_up_s _ _ _
  have kp_36 : kp h h_27 [r] := by rw [eh_27]; exact kp_new n_28 kp_25
  refine pfX6_18_6 C dX6_init_24 f_30 rfl rfl (Nat.le_of_ble_eq_true rfl) (q := 27) rfl ?_
  show aw G 3 M 27 [.ref r, .int (nI n), .retAddr 0] [] (ac_up h_27 r (.inr (6, [.int 0, .int 0, .ref a1, .ref a2, .null, .null, .ref a5]))) (((0 + 1) + 1) + 1) (((0 + 12) + 13) + 0)
  obtain ⟨h_37, eh_37⟩ : ∃ z, z = ac_up h_27 r (.inr (6, [.int 0, .int 0, .ref a1, .ref a2, .null, .null, .ref a5])) := ⟨_, rfl⟩
  rw [← eh_37]
  have f_38 : h_37 a1 = some (.inl (1, 12, .inl (fun _ => 0))) := by rw [eh_37, ac_up_n _ _ (Ne.symm t_4)]; exact f_32
  have f_39 : h_37 a2 = some (.inl (1, 13, .inl (fun _ => 0))) := by rw [eh_37, ac_up_n _ _ (Ne.symm t_15)]; exact f_34
  have f_40 : h_37 a5 = some (.inl (0, 0, .inl (fun _ => 0))) := by rw [eh_37, ac_up_n _ _ (Ne.symm t_29)]; exact f_35
  have f_41 : h_37 r = some (.inr (6, [.int 0, .int 0, .ref a1, .ref a2, .null, .null, .ref a5])) := by rw [eh_37]; exact ac_up_s _ _ _
  have kp_42 : kp h h_37 [r] := by rw [eh_37]; exact kp_up kp_36 _ _ (by simp)
  refine aw_iload_n C dX6_init_27 rfl rfl (q := 28) rfl ?_
  refine aw_iconst (v := 0) C dX6_init_28 (by decide) (q := 29) rfl ?_
  refine csX6_22 (As := [.int (nI n), .int 0]) (rest := []) C B dX6_init_29 (c_maxi G M.2.1 h_37 d (nI n) 0) rfl rfl (Nat.le_of_ble_eq_true rfl) (by omega) (by omega) (by omega) (q := 32) rfl (fun r9 h9 hr9 => ?_)
  obtain ⟨e9, er9⟩ := hr9
  subst er9; rw [e9]
  show aw G 3 M 32 [.ref r, .int (nI n), .retAddr 0] [.int (mx_i (nI n) 0)] h_37 (((0 + 1) + 1) + 1) (((0 + 12) + 13) + 0)
  rw [show mx_i (nI n) 0 = nI n from by unfold mx_i; rw [if_neg (nI_pos (by omega))]]
  refine aw_istore_n (ls' := [.ref r, .int (nI n), .int (nI n)]) C dX6_init_32 rfl (by decide) rfl (q := 33) rfl ?_
  refine aw_aload_n C dX6_init_33 rfl rfl (q := 34) rfl ?_
  refine aw_iload_n C dX6_init_34 rfl rfl (q := 35) rfl ?_
  refine ay_newI (N := n) C dX6_init_35 (nI_pos (by omega)) (nI_clamp (by omega)) (by omega) (Nat.le_trans (by omega) B.2.2.1) (Nat.le_trans (by omega) B.2.2.2) (q := 37) rfl (fun a3 hn_43 _ => ?_)
  show aw G 3 M 37 [.ref r, .int (nI n), .int (nI n)] [.ref a3, .ref r] (ac_up h_37 a3 (.inl (1, n, .inl (fun _ => 0)))) ((((0 + 1) + 1) + 1) + 1) ((((0 + 12) + 13) + 0) + n)
  obtain ⟨h_44, eh_44⟩ : ∃ z, z = ac_up h_37 a3 (.inl (1, n, .inl (fun _ => 0))) := ⟨_, rfl⟩
  rw [← eh_44]
  have n_45 : h a3 = none := kp_none kp_42 hn_43 (ni1 (Ne.symm (nw_ne f_41 hn_43)) ni0)
  have t_46 : r ≠ a3 := nw_ne f_41 hn_43
  have f_47 : h_44 r = some (.inr (6, [.int 0, .int 0, .ref a1, .ref a2, .null, .null, .ref a5])) := by rw [eh_44, ac_up_n _ _ t_46]; exact f_41
  have t_48 : a1 ≠ a3 := nw_ne f_38 hn_43
  have f_49 : h_44 a1 = some (.inl (1, 12, .inl (fun _ => 0))) := by rw [eh_44, ac_up_n _ _ t_48]; exact f_38
  have t_50 : a2 ≠ a3 := nw_ne f_39 hn_43
  have f_51 : h_44 a2 = some (.inl (1, 13, .inl (fun _ => 0))) := by rw [eh_44, ac_up_n _ _ t_50]; exact f_39
  have t_52 : a5 ≠ a3 := nw_ne f_40 hn_43
  have f_53 : h_44 a5 = some (.inl (0, 0, .inl (fun _ => 0))) := by rw [eh_44, ac_up_n _ _ t_52]; exact f_40
  have f_54 : h_44 a3 = some (.inl (1, n, .inl (fun _ => 0))) := by rw [eh_44]; exact ac_up_s _ _ _
  have kp_55 : kp h h_44 [r] := by rw [eh_44]; exact kp_new n_45 kp_42
  refine pfX6_28_6 C hnm dX6_init_37 f_47 rfl rfl (Nat.le_of_ble_eq_true rfl) (q := 40) rfl ?_
  show aw G 3 M 40 [.ref r, .int (nI n), .int (nI n)] [] (ac_up h_44 r (.inr (6, [.int 0, .int 0, .ref a1, .ref a2, .ref a3, .null, .ref a5]))) ((((0 + 1) + 1) + 1) + 1) ((((0 + 12) + 13) + 0) + n)
  obtain ⟨h_56, eh_56⟩ : ∃ z, z = ac_up h_44 r (.inr (6, [.int 0, .int 0, .ref a1, .ref a2, .ref a3, .null, .ref a5])) := ⟨_, rfl⟩
  rw [← eh_56]
  have f_57 : h_56 a1 = some (.inl (1, 12, .inl (fun _ => 0))) := by rw [eh_56, ac_up_n _ _ (Ne.symm t_4)]; exact f_49
  have f_58 : h_56 a2 = some (.inl (1, 13, .inl (fun _ => 0))) := by rw [eh_56, ac_up_n _ _ (Ne.symm t_15)]; exact f_51
  have f_59 : h_56 a5 = some (.inl (0, 0, .inl (fun _ => 0))) := by rw [eh_56, ac_up_n _ _ (Ne.symm t_29)]; exact f_53
  have f_60 : h_56 a3 = some (.inl (1, n, .inl (fun _ => 0))) := by rw [eh_56, ac_up_n _ _ (Ne.symm t_46)]; exact f_54
  have f_61 : h_56 r = some (.inr (6, [.int 0, .int 0, .ref a1, .ref a2, .ref a3, .null, .ref a5])) := by rw [eh_56]; exact ac_up_s _ _ _
  have kp_62 : kp h h_56 [r] := by rw [eh_56]; exact kp_up kp_55 _ _ (by simp)
  refine aw_aload_n C dX6_init_40 rfl rfl (q := 41) rfl ?_
  refine aw_iload_n C dX6_init_41 rfl rfl (q := 42) rfl ?_
  refine ay_newI (N := n) C dX6_init_42 (nI_pos (by omega)) (nI_clamp (by omega)) (by omega) (Nat.le_trans (by omega) B.2.2.1) (Nat.le_trans (by omega) B.2.2.2) (q := 44) rfl (fun a4 hn_63 _ => ?_)
  show aw G 3 M 44 [.ref r, .int (nI n), .int (nI n)] [.ref a4, .ref r] (ac_up h_56 a4 (.inl (1, n, .inl (fun _ => 0)))) (((((0 + 1) + 1) + 1) + 1) + 1) (((((0 + 12) + 13) + 0) + n) + n)
  obtain ⟨h_64, eh_64⟩ : ∃ z, z = ac_up h_56 a4 (.inl (1, n, .inl (fun _ => 0))) := ⟨_, rfl⟩
  rw [← eh_64]
  have n_65 : h a4 = none := kp_none kp_62 hn_63 (ni1 (Ne.symm (nw_ne f_61 hn_63)) ni0)
  have t_66 : r ≠ a4 := nw_ne f_61 hn_63
  have f_67 : h_64 r = some (.inr (6, [.int 0, .int 0, .ref a1, .ref a2, .ref a3, .null, .ref a5])) := by rw [eh_64, ac_up_n _ _ t_66]; exact f_61
  have t_68 : a1 ≠ a4 := nw_ne f_57 hn_63
  have f_69 : h_64 a1 = some (.inl (1, 12, .inl (fun _ => 0))) := by rw [eh_64, ac_up_n _ _ t_68]; exact f_57
  have t_70 : a2 ≠ a4 := nw_ne f_58 hn_63
  have f_71 : h_64 a2 = some (.inl (1, 13, .inl (fun _ => 0))) := by rw [eh_64, ac_up_n _ _ t_70]; exact f_58
  have t_72 : a5 ≠ a4 := nw_ne f_59 hn_63
  have f_73 : h_64 a5 = some (.inl (0, 0, .inl (fun _ => 0))) := by rw [eh_64, ac_up_n _ _ t_72]; exact f_59
  have t_74 : a3 ≠ a4 := nw_ne f_60 hn_63
  have f_75 : h_64 a3 = some (.inl (1, n, .inl (fun _ => 0))) := by rw [eh_64, ac_up_n _ _ t_74]; exact f_60
  have f_76 : h_64 a4 = some (.inl (1, n, .inl (fun _ => 0))) := by rw [eh_64]; exact ac_up_s _ _ _
  have kp_77 : kp h h_64 [r] := by rw [eh_64]; exact kp_new n_65 kp_62
  refine pfX6_31_6 C hnm dX6_init_44 f_67 rfl rfl (Nat.le_of_ble_eq_true rfl) (q := 47) rfl ?_
  show aw G 3 M 47 [.ref r, .int (nI n), .int (nI n)] [] (ac_up h_64 r (.inr (6, [.int 0, .int 0, .ref a1, .ref a2, .ref a3, .ref a4, .ref a5]))) (((((0 + 1) + 1) + 1) + 1) + 1) (((((0 + 12) + 13) + 0) + n) + n)
  obtain ⟨h_78, eh_78⟩ : ∃ z, z = ac_up h_64 r (.inr (6, [.int 0, .int 0, .ref a1, .ref a2, .ref a3, .ref a4, .ref a5])) := ⟨_, rfl⟩
  rw [← eh_78]
  have f_79 : h_78 a1 = some (.inl (1, 12, .inl (fun _ => 0))) := by rw [eh_78, ac_up_n _ _ (Ne.symm t_4)]; exact f_69
  have f_80 : h_78 a2 = some (.inl (1, 13, .inl (fun _ => 0))) := by rw [eh_78, ac_up_n _ _ (Ne.symm t_15)]; exact f_71
  have f_81 : h_78 a5 = some (.inl (0, 0, .inl (fun _ => 0))) := by rw [eh_78, ac_up_n _ _ (Ne.symm t_29)]; exact f_73
  have f_82 : h_78 a3 = some (.inl (1, n, .inl (fun _ => 0))) := by rw [eh_78, ac_up_n _ _ (Ne.symm t_46)]; exact f_75
  have f_83 : h_78 a4 = some (.inl (1, n, .inl (fun _ => 0))) := by rw [eh_78, ac_up_n _ _ (Ne.symm t_66)]; exact f_76
  have f_84 : h_78 r = some (.inr (6, [.int 0, .int 0, .ref a1, .ref a2, .ref a3, .ref a4, .ref a5])) := by rw [eh_78]; exact ac_up_s _ _ _
  have kp_85 : kp h h_78 [r] := by rw [eh_78]; exact kp_up kp_77 _ _ (by simp)
  refine aw_vret C E dX6_init_47 (by omega) (by omega) ?_
  exact ⟨rfl, ⟨[a1, a2, a3, a4, a5], rfl, (List.nodup_cons.mpr ⟨(ni1 t_4 (ni1 t_15 (ni1 t_46 (ni1 t_66 (ni1 t_29 ni0))))), (List.nodup_cons.mpr ⟨(ni1 t_17 (ni1 t_48 (ni1 t_68 (ni1 t_31 ni0)))), (List.nodup_cons.mpr ⟨(ni1 t_50 (ni1 t_70 (ni1 t_33 ni0))), (List.nodup_cons.mpr ⟨(ni1 t_74 (ni1 (Ne.symm t_52) ni0)), (List.nodup_cons.mpr ⟨(ni1 (Ne.symm t_72) ni0), (List.nodup_cons.mpr ⟨ni0, List.nodup_nil⟩)⟩)⟩)⟩)⟩)⟩), (all1 n_3 (all1 n_14 (all1 n_45 (all1 n_65 (all1 n_28 all0))))), ⟨f_84, f_79, f_80, f_82, f_83, f_81⟩⟩, kp_85⟩
