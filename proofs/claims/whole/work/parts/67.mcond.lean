/-! The reference's reader: readExpression by the grammar; readCondition -/
/-- a fault at p -/
def mz_QF (o : Nat) (md : Nat → Nat) (h : ac_H) (s : md_S) (u : Nat → Int32) (n p : Nat) (bd : Nat) : Option Value → ac_H → Prop := fun r9 h9 => ∃ (s' : md_S) (c : mz_C), r9 = none ∧ md_ok h9 o md s' ∧ mz_rep s' u n c ∧ c.2.2.2 = some p ∧ c.1 ≤ bd ∧ c.2.1.length + c.2.2.1.length ≤ bd ∧ mz_fr s s' ∧ kp h h9 (md_L o md)
theorem p_expr1 (G : ac_G) (l : Launch) (o : Nat) (md : Nat → Nat) (hm : md_inj md) (h : ac_H) (d : Nat) (s : md_S) (K : md_ok h o md s) (u : Nat → Int32) (n a : Nat) (U W : pz_P) (fl : Option Nat) (R : mz_rep s u n (a, U, W, fl)) (ha : a ≤ 900) (hn : n ≤ 300) (ht : mz_tx u n) (hfl : fl = none) (hW : W = []) (han : a ≤ n) (hU : U.length ≤ a) (hk : (pz_X u n 8 a).1 = true) : ac_Met G l yX9_readExpression cX9_readExpression 5 none (d + 5) 0 0 [.ref o] h (mz_Q o md h s u n ((pz_X u n 8 a).2.1, List.reverseAux ((pz_X u n 8 a).2.2.map pz_m) U, [], none) none) := by
  subst hfl hW
  obtain ⟨N, y, h1, h2, h3, h4, h5⟩ := (sm_top hn ht a U han hU).1 hk
  rw [← h5]
  exact p_readExpression G l o md hm h d s K u n a U [] none R ha rfl N y h1 (Or.inl h2) h3 h4
theorem p_expr0 (G : ac_G) (l : Launch) (o : Nat) (md : Nat → Nat) (hm : md_inj md) (h : ac_H) (d : Nat) (s : md_S) (K : md_ok h o md s) (u : Nat → Int32) (n a : Nat) (U W : pz_P) (fl : Option Nat) (R : mz_rep s u n (a, U, W, fl)) (ha : a ≤ 900) (hn : n ≤ 300) (ht : mz_tx u n) (hfl : fl = none) (hW : W = []) (han : a ≤ n) (hU : U.length ≤ a) (hk : (pz_X u n 8 a).1 = false) : ac_Met G l yX9_readExpression cX9_readExpression 5 none (d + 5) 0 0 [.ref o] h (mz_QF o md h s u n (pz_X u n 8 a).2.1 315) := by
  subst hfl hW
  obtain ⟨N, y, h1, h2, h3, h4⟩ := (sm_top hn ht a U han hU).2 hk
  refine ac_wk (p_readExpression G l o md hm h d s K u n a U [] none R ha rfl N y h1 (Or.inr (by rw [h2]; intro z; cases z)) (by omega) (by omega)) (fun r9 h9 z => ?_)
  obtain ⟨s', z1, z2, z3, z4, z5⟩ := z
  obtain ⟨y1, y2, y3, y4, y5, y6, y7⟩ := y
  have h2' : y7 = some (pz_X u n 8 a).2.1 := h2
  subst h2'
  exact ⟨s', (y4, y5, y6, some (pz_X u n 8 a).2.1), z1, z2, z3, rfl, by have q : y4 ≤ 310 := h3; show y4 ≤ 315; omega, h4, z4, z5⟩
abbrev pz_cmp (u : Nat → Int32) (n a : Nat) : Prop := cu_c u n a = 60 ∨ cu_c u n a = 62 ∨ cu_c u n a = 61 ∨ cu_c u n a = 33
def pz_cond (u : Nat → Int32) (n a : Nat) : pz_R :=
  if (pz_X u n 8 a).1 = false then (false, (pz_X u n 8 a).2.1, [])
  else if cu_c u n (pz_X u n 8 a).2.1 = 60 ∨ cu_c u n (pz_X u n 8 a).2.1 = 62 ∨ cu_c u n (pz_X u n 8 a).2.1 = 61 ∨ cu_c u n (pz_X u n 8 a).2.1 = 33 then
    (if (pz_X u n 8 ((pz_X u n 8 a).2.1 + 1)).1 = false then (false, (pz_X u n 8 ((pz_X u n 8 a).2.1 + 1)).2.1, [])
     else (true, (pz_X u n 8 ((pz_X u n 8 a).2.1 + 1)).2.1, (pz_X u n 8 a).2.2 ++ (pz_X u n 8 ((pz_X u n 8 a).2.1 + 1)).2.2 ++ [(cu_c u n (pz_X u n 8 a).2.1, 0)]))
  else (false, (pz_X u n 8 a).2.1, [])
theorem mz_cmp {u : Nat → Int32} {n a : Nat} : (mz_c u n a = 60 ∨ mz_c u n a = 62 ∨ mz_c u n a = 61 ∨ mz_c u n a = 33) ↔ pz_cmp u n a := by
  show _ ↔ (cu_c u n a = 60 ∨ cu_c u n a = 62 ∨ cu_c u n a = 61 ∨ cu_c u n a = 33)
  rw [mz_ec (by decide) (by decide), mz_ec (by decide) (by decide), mz_ec (by decide) (by decide), mz_ec (by decide) (by decide)]
theorem pz_cmp_m {u : Nat → Int32} {n a : Nat} (h : pz_cmp u n a) : pz_m (cu_c u n a, 0) = (16, cu_c u n a) ∧ a < n ∧ mz_c u n a = cu_c u n a := by
  have hl : a < n := by rcases h with h | h | h | h <;> exact mz_lt h (by decide)
  exact ⟨by rcases h with h | h | h | h <;> rw [h] <;> decide, hl, mz_same hl⟩
theorem mz_w0 {s : md_S} {u : Nat → Int32} {n a : Nat} {U W : pz_P} {fl : Option Nat} (R : mz_rep s u n (a, U, W, fl)) : mz_rep (upd s.1 14 0, s.2.1, s.2.2) u n (a, U, [], fl) :=
  ⟨R.1, R.2.1, R.2.2.1, R.2.2.2.1, rfl, R.2.2.2.2.2.1, True.intro, R.2.2.2.2.2.2.2⟩
set_option maxHeartbeats 4000000 in
set_option maxRecDepth 100000 in
theorem p_cond1 (G : ac_G) (l : Launch) (o : Nat) (md : Nat → Nat) (hm : md_inj md) (h : ac_H) (d : Nat) (s : md_S) (K : md_ok h o md s) (u : Nat → Int32) (n a : Nat) (U W : pz_P) (R : mz_rep s u n (a, U, W, none)) (hn : n ≤ 300) (ht : mz_tx u n) (han : a ≤ n) (hU : U.length ≤ a) (h1 : (pz_X u n 8 a).1 = true) (h2 : pz_cmp u n (pz_X u n 8 a).2.1) (h3 : (pz_X u n 8 ((pz_X u n 8 a).2.1 + 1)).1 = true) : ac_Met G l yX9_readCondition cX9_readCondition 2 none (d + 6) 0 0 [.ref o] h (mz_Q o md h s u n ((pz_X u n 8 ((pz_X u n 8 a).2.1 + 1)).2.1, List.reverseAux (((pz_X u n 8 a).2.2 ++ (pz_X u n 8 ((pz_X u n 8 a).2.1 + 1)).2.2 ++ [(cu_c u n (pz_X u n 8 a).2.1, 0)]).map pz_m) U, [], none) none) := by
  refine ac_of (ls := [.ref o, .retAddr 0]) (by decide +kernel) rfl (Nat.le_of_ble_eq_true rfl) (fun M hl C B E hnm => ?_)
  have g1 := (pz_X_good hn 8 a han (u := u)).1
  have g2 := g1.1
  have g3 := g1.2 h1
  obtain ⟨m1, m2, m3⟩ := pz_cmp_m h2
  have g4 := (pz_X_good hn 8 ((pz_X u n 8 a).2.1 + 1) (by omega) (u := u)).1
  have g5 := g4.1
  have hU2 : (List.reverseAux ((pz_X u n 8 a).2.2.map pz_m) U).length ≤ (pz_X u n 8 a).2.1 + 1 := by rw [rv_len, List.length_map]; omega
  have g6 := g4.2 h3
  refine aw_aload_n C dX9_readCondition_0 rfl rfl (q := 1) rfl ?_
  refine aw_iconst (v := 0) C dX9_readCondition_1 (by decide) (q := 2) rfl ?_
  refine pfX9_102_9 C dX9_readCondition_2 K.1 rfl rfl (Nat.le_of_ble_eq_true rfl) (q := 5) rfl ?_
  show aw G 2 M 5 [.ref o, .retAddr 0] [] (ac_up h o (.inr (9, md_fs md ((upd s.1 14 0, s.2.1, s.2.2).1)))) 0 0
  obtain ⟨h_1, eh_1⟩ : ∃ z9, z9 = ac_up h o (.inr (9, md_fs md ((upd s.1 14 0, s.2.1, s.2.2).1))) := ⟨_, rfl⟩
  rw [← eh_1]
  have kpx_4 : kp h h_1 [o] := by rw [eh_1]; exact kp_up (kp_cons o kp_rf) _ _ (by simp)
  have K_2 : md_ok h_1 o md (upd s.1 14 0, s.2.1, s.2.2) := md_J (s := (s.1, s.2.1, s.2.2)) K (by rw [eh_1]; exact ac_up_s _ _ _) kpx_4
  have kq_3 : kp h h_1 (md_L o md) := kp_mono kpx_4 md_s0
  have R_6 : mz_rep (upd s.1 14 0, s.2.1, s.2.2) u n (a, U, [], none) := mz_w0 R
  have F_7 : mz_fr s (upd s.1 14 0, s.2.1, s.2.2) := mz_fr_wt mz_fr_rf
  obtain ⟨s_5, es_5⟩ : ∃ z, z = (upd s.1 14 0, s.2.1, s.2.2) := ⟨_, rfl⟩
  rw [← es_5] at K_2 R_6 F_7
  refine aw_aload_n C dX9_readCondition_5 rfl rfl (q := 6) rfl ?_
  refine cvX9_149_9 (As := []) (rest := []) C B dX9_readCondition_6 K_2.1 (p_expr1 G M.2.1 o md hm h_1 d s_5 K_2 u n a U ([]) none R_6 (by omega) hn ht rfl rfl (by omega) (by omega) h1) rfl rfl (Nat.le_of_ble_eq_true rfl) (by omega) (by omega) (by omega) (q := 9) rfl (fun r9 h_8 hr9 => ?_)
  obtain ⟨s_9, er9, K_10, R_11, F_12, kpx_14⟩ := hr9
  subst er9
  have F_13 : mz_fr s s_9 := mz_fr_tr F_7 F_12
  have kq_15 : kp h h_8 (md_L o md) := kp_in kq_3 kpx_14 (fun _ z => z)
  show aw G 2 M 9 [.ref o, .retAddr 0] [] h_8 0 0
  refine aw_aload_n C dX9_readCondition_9 rfl rfl (q := 10) rfl ?_
  refine cvX9_116_9 (As := []) (rest := []) C B dX9_readCondition_10 K_10.1 (m_here G M.2.1 o md hm h_8 (d + 5) s_9 K_10 ((pz_X u n 8 a).2.1) n R_11.2.2.1 R_11.1 (by omega) R_11.2.1) rfl rfl (Nat.le_of_ble_eq_true rfl) (by omega) (by omega) (by omega) (q := 13) rfl (fun r9 h9 hr9 => ?_)
  obtain ⟨e9, er9⟩ := hr9
  subst er9; rw [e9]
  show aw G 2 M 13 [.ref o, .retAddr 0] [.int (mo_here s_9 ((pz_X u n 8 a).2.1) n)] h_8 0 0
  rw [mz_here R_11]
  refine aw_istore_n (ls' := [.ref o, .int (mz_c u n ((pz_X u n 8 a).2.1))]) C dX9_readCondition_13 rfl (by decide) rfl (q := 14) rfl ?_
  refine aw_iload_n C dX9_readCondition_14 rfl rfl (q := 15) rfl ?_
  refine csX9_152 (As := [.int (mz_c u n ((pz_X u n 8 a).2.1))]) (rest := []) C B dX9_readCondition_15 (m_isCompare G M.2.1 h_8 (d + 5) (mz_c u n ((pz_X u n 8 a).2.1))) rfl rfl (Nat.le_of_ble_eq_true rfl) (by omega) (by omega) (by omega) (q := 18) rfl (fun r9 h9 hr9 => ?_)
  obtain ⟨e9, er9⟩ := hr9
  subst er9; rw [e9]
  show aw G 2 M 18 [.ref o, .int (mz_c u n ((pz_X u n 8 a).2.1))] [.int (pb_b ((mz_c u n ((pz_X u n 8 a).2.1)) = 60 ∨ (mz_c u n ((pz_X u n 8 a).2.1)) = 62 ∨ (mz_c u n ((pz_X u n 8 a).2.1)) = 61 ∨ (mz_c u n ((pz_X u n 8 a).2.1)) = 33))] h_8 0 0
  refine aw_if_ne (t := 25) (q := 21) C dX9_readCondition_18 (by decide) rfl (fun c_18 => ?_) (fun c_18 => absurd c_18 (by rw [pb_t (mz_cmp.mpr h2)]; decide))
  refine aw_aload_n C dX9_readCondition_25 rfl rfl (q := 26) rfl ?_
  refine aw_dup C dX9_readCondition_26 rfl (q := 27) rfl ?_
  refine gfX9_96_9 (v := .int (s_9.1 3)) C dX9_readCondition_27 K_10.1 rfl (q := 30) rfl ?_
  refine aw_iconst (v := 1) C dX9_readCondition_30 (by decide) (q := 31) rfl ?_
  refine aw_iadd C dX9_readCondition_31 (q := 32) rfl ?_
  rw [show (s_9.1 3) + 1 = nI ((pz_X u n 8 a).2.1 + 1) from by rw [R_11.2.2.1]; exact nI_1 _]
  refine pfX9_96_9 C dX9_readCondition_32 K_10.1 rfl rfl (Nat.le_of_ble_eq_true rfl) (q := 35) rfl ?_
  show aw G 2 M 35 [.ref o, .int (mz_c u n ((pz_X u n 8 a).2.1))] [] (ac_up h_8 o (.inr (9, md_fs md ((upd s_9.1 3 (nI ((pz_X u n 8 a).2.1 + 1)), s_9.2.1, s_9.2.2).1)))) 0 0
  obtain ⟨h_16, eh_16⟩ : ∃ z9, z9 = ac_up h_8 o (.inr (9, md_fs md ((upd s_9.1 3 (nI ((pz_X u n 8 a).2.1 + 1)), s_9.2.1, s_9.2.2).1))) := ⟨_, rfl⟩
  rw [← eh_16]
  have kpx_19 : kp h_8 h_16 [o] := by rw [eh_16]; exact kp_up (kp_cons o kp_rf) _ _ (by simp)
  have K_17 : md_ok h_16 o md (upd s_9.1 3 (nI ((pz_X u n 8 a).2.1 + 1)), s_9.2.1, s_9.2.2) := md_J (s := (s_9.1, s_9.2.1, s_9.2.2)) K_10 (by rw [eh_16]; exact ac_up_s _ _ _) kpx_19
  have kq_18 : kp h h_16 (md_L o md) := kp_in kq_15 kpx_19 md_s0
  have R_21 : mz_rep (upd s_9.1 3 (nI ((pz_X u n 8 a).2.1 + 1)), s_9.2.1, s_9.2.2) u n ((pz_X u n 8 a).2.1 + 1, List.reverseAux ((pz_X u n 8 a).2.2.map pz_m) U, [], none) := mz_at R_11 _
  have F_22 : mz_fr s (upd s_9.1 3 (nI ((pz_X u n 8 a).2.1 + 1)), s_9.2.1, s_9.2.2) := mz_fr_at F_13
  obtain ⟨s_20, es_20⟩ : ∃ z, z = (upd s_9.1 3 (nI ((pz_X u n 8 a).2.1 + 1)), s_9.2.1, s_9.2.2) := ⟨_, rfl⟩
  rw [← es_20] at K_17 R_21 F_22
  refine aw_aload_n C dX9_readCondition_35 rfl rfl (q := 36) rfl ?_
  refine gfX9_99_9 (v := .int (s_20.1 4)) C dX9_readCondition_36 K_17.1 rfl (q := 39) rfl ?_
  refine aw_if_ge (t := 53) (q := 42) C dX9_readCondition_39 (by decide) rfl (fun c_39 => absurd c_39 (by rw [R_21.2.2.2.1]; show ¬ (0 : Int32) ≤ -1; decide)) (fun c_39 => ?_)
  refine aw_aload_n C dX9_readCondition_42 rfl rfl (q := 43) rfl ?_
  refine cvX9_149_9 (As := []) (rest := []) C B dX9_readCondition_43 K_17.1 (p_expr1 G M.2.1 o md hm h_16 d s_20 K_17 u n ((pz_X u n 8 a).2.1 + 1) (List.reverseAux ((pz_X u n 8 a).2.2.map pz_m) U) ([]) none R_21 (by omega) hn ht rfl rfl (by omega) hU2 h3) rfl rfl (Nat.le_of_ble_eq_true rfl) (by omega) (by omega) (by omega) (q := 46) rfl (fun r9 h_23 hr9 => ?_)
  obtain ⟨s_24, er9, K_25, R_26, F_27, kpx_29⟩ := hr9
  subst er9
  have F_28 : mz_fr s s_24 := mz_fr_tr F_22 F_27
  have kq_30 : kp h h_23 (md_L o md) := kp_in kq_18 kpx_29 (fun _ z => z)
  show aw G 2 M 46 [.ref o, .int (mz_c u n ((pz_X u n 8 a).2.1))] [] h_23 0 0
  refine aw_aload_n C dX9_readCondition_46 rfl rfl (q := 47) rfl ?_
  refine aw_bipush (v := 16) C dX9_readCondition_47 (by decide) (q := 49) rfl ?_
  refine aw_iload_n C dX9_readCondition_49 rfl rfl (q := 50) rfl ?_
  refine cvX9_105_9 (As := [.int 16, .int (mz_c u n ((pz_X u n 8 a).2.1))]) (rest := []) C B dX9_readCondition_50 K_25.1 (p_emit G M.2.1 o md hm h_23 (d + 5) s_24 K_25 u n ((pz_X u n 8 ((pz_X u n 8 a).2.1 + 1)).2.1) (List.reverseAux ((pz_X u n 8 ((pz_X u n 8 a).2.1 + 1)).2.2.map pz_m) (List.reverseAux ((pz_X u n 8 a).2.2.map pz_m) U)) ([]) none R_26 (by omega) (by rw [rv_len, rv_len, List.length_map, List.length_map]; simp only [List.length_nil]; omega) 16 (mz_c u n ((pz_X u n 8 a).2.1))) rfl rfl (Nat.le_of_ble_eq_true rfl) (by omega) (by omega) (by omega) (q := 53) rfl (fun r9 h_31 hr9 => ?_)
  obtain ⟨s_32, er9, K_33, R_34, F_35, kpx_37⟩ := hr9
  subst er9
  have F_36 : mz_fr s s_32 := mz_fr_tr F_28 F_35
  have kq_38 : kp h h_31 (md_L o md) := kp_in kq_30 kpx_37 (fun _ z => z)
  show aw G 2 M 53 [.ref o, .int (mz_c u n ((pz_X u n 8 a).2.1))] [] h_31 0 0
  refine aw_vret C E dX9_readCondition_53 (Nat.le_refl _) (Nat.le_refl _) ?_
  rw [List.map_append, List.map_append, rv_app, rv_app, List.map_singleton, m1, ← m3]
  exact ⟨_, rfl, K_33, R_34, F_36, kq_38⟩
set_option maxHeartbeats 4000000 in
set_option maxRecDepth 100000 in
theorem p_cond0a (G : ac_G) (l : Launch) (o : Nat) (md : Nat → Nat) (hm : md_inj md) (h : ac_H) (d : Nat) (s : md_S) (K : md_ok h o md s) (u : Nat → Int32) (n a : Nat) (U W : pz_P) (R : mz_rep s u n (a, U, W, none)) (hn : n ≤ 300) (ht : mz_tx u n) (han : a ≤ n) (hU : U.length ≤ a) (h1 : (pz_X u n 8 a).1 = false) : ac_Met G l yX9_readCondition cX9_readCondition 2 none (d + 6) 0 0 [.ref o] h (mz_QF o md h s u n (pz_X u n 8 a).2.1 320) := by
  refine ac_of (ls := [.ref o, .retAddr 0]) (by decide +kernel) rfl (Nat.le_of_ble_eq_true rfl) (fun M hl C B E hnm => ?_)
  have g1 := (pz_X_good hn 8 a han (u := u)).1
  have g2 := g1.1
  refine aw_aload_n C dX9_readCondition_0 rfl rfl (q := 1) rfl ?_
  refine aw_iconst (v := 0) C dX9_readCondition_1 (by decide) (q := 2) rfl ?_
  refine pfX9_102_9 C dX9_readCondition_2 K.1 rfl rfl (Nat.le_of_ble_eq_true rfl) (q := 5) rfl ?_
  show aw G 2 M 5 [.ref o, .retAddr 0] [] (ac_up h o (.inr (9, md_fs md ((upd s.1 14 0, s.2.1, s.2.2).1)))) 0 0
  obtain ⟨h_1, eh_1⟩ : ∃ z9, z9 = ac_up h o (.inr (9, md_fs md ((upd s.1 14 0, s.2.1, s.2.2).1))) := ⟨_, rfl⟩
  rw [← eh_1]
  have kpx_4 : kp h h_1 [o] := by rw [eh_1]; exact kp_up (kp_cons o kp_rf) _ _ (by simp)
  have K_2 : md_ok h_1 o md (upd s.1 14 0, s.2.1, s.2.2) := md_J (s := (s.1, s.2.1, s.2.2)) K (by rw [eh_1]; exact ac_up_s _ _ _) kpx_4
  have kq_3 : kp h h_1 (md_L o md) := kp_mono kpx_4 md_s0
  have R_6 : mz_rep (upd s.1 14 0, s.2.1, s.2.2) u n (a, U, [], none) := mz_w0 R
  have F_7 : mz_fr s (upd s.1 14 0, s.2.1, s.2.2) := mz_fr_wt mz_fr_rf
  obtain ⟨s_5, es_5⟩ : ∃ z, z = (upd s.1 14 0, s.2.1, s.2.2) := ⟨_, rfl⟩
  rw [← es_5] at K_2 R_6 F_7
  refine aw_aload_n C dX9_readCondition_5 rfl rfl (q := 6) rfl ?_
  refine cvX9_149_9 (As := []) (rest := []) C B dX9_readCondition_6 K_2.1 (p_expr0 G M.2.1 o md hm h_1 d s_5 K_2 u n a U ([]) none R_6 (by omega) hn ht rfl rfl (by omega) (by omega) h1) rfl rfl (Nat.le_of_ble_eq_true rfl) (by omega) (by omega) (by omega) (q := 9) rfl (fun r9 h_8 hr9 => ?_)
  obtain ⟨s_9, ⟨a9, U9, W9, f9⟩, er9, K_10, R_11, ef9, bd1, bd2, F_12, kpx_14⟩ := hr9
  subst er9
  have ef8 : f9 = some (pz_X u n 8 a).2.1 := ef9
  subst ef8
  replace bd1 : a9 ≤ 315 := bd1
  replace bd2 : U9.length + W9.length ≤ 315 := bd2
  have F_13 : mz_fr s s_9 := mz_fr_tr F_7 F_12
  have kq_15 : kp h h_8 (md_L o md) := kp_in kq_3 kpx_14 (fun _ z => z)
  show aw G 2 M 9 [.ref o, .retAddr 0] [] h_8 0 0
  refine aw_aload_n C dX9_readCondition_9 rfl rfl (q := 10) rfl ?_
  refine cvX9_116_9 (As := []) (rest := []) C B dX9_readCondition_10 K_10.1 (m_here G M.2.1 o md hm h_8 (d + 5) s_9 K_10 a9 n R_11.2.2.1 R_11.1 (by omega) R_11.2.1) rfl rfl (Nat.le_of_ble_eq_true rfl) (by omega) (by omega) (by omega) (q := 13) rfl (fun r9 h9 hr9 => ?_)
  obtain ⟨e9, er9⟩ := hr9
  subst er9; rw [e9]
  show aw G 2 M 13 [.ref o, .retAddr 0] [.int (mo_here s_9 a9 n)] h_8 0 0
  rw [mz_here R_11]
  refine aw_istore_n (ls' := [.ref o, .int (mz_c u n a9)]) C dX9_readCondition_13 rfl (by decide) rfl (q := 14) rfl ?_
  refine aw_iload_n C dX9_readCondition_14 rfl rfl (q := 15) rfl ?_
  refine csX9_152 (As := [.int (mz_c u n a9)]) (rest := []) C B dX9_readCondition_15 (m_isCompare G M.2.1 h_8 (d + 5) (mz_c u n a9)) rfl rfl (Nat.le_of_ble_eq_true rfl) (by omega) (by omega) (by omega) (q := 18) rfl (fun r9 h9 hr9 => ?_)
  obtain ⟨e9, er9⟩ := hr9
  subst er9; rw [e9]
  show aw G 2 M 18 [.ref o, .int (mz_c u n a9)] [.int (pb_b ((mz_c u n a9) = 60 ∨ (mz_c u n a9) = 62 ∨ (mz_c u n a9) = 61 ∨ (mz_c u n a9) = 33))] h_8 0 0
  refine aw_if_ne (t := 25) (q := 21) C dX9_readCondition_18 (by decide) rfl (fun c_18 => ?_) (fun c_18 => ?_)
  ·
    refine aw_aload_n C dX9_readCondition_25 rfl rfl (q := 26) rfl ?_
    refine aw_dup C dX9_readCondition_26 rfl (q := 27) rfl ?_
    refine gfX9_96_9 (v := .int (s_9.1 3)) C dX9_readCondition_27 K_10.1 rfl (q := 30) rfl ?_
    refine aw_iconst (v := 1) C dX9_readCondition_30 (by decide) (q := 31) rfl ?_
    refine aw_iadd C dX9_readCondition_31 (q := 32) rfl ?_
    rw [show (s_9.1 3) + 1 = nI (a9 + 1) from by rw [R_11.2.2.1]; exact nI_1 _]
    refine pfX9_96_9 C dX9_readCondition_32 K_10.1 rfl rfl (Nat.le_of_ble_eq_true rfl) (q := 35) rfl ?_
    show aw G 2 M 35 [.ref o, .int (mz_c u n a9)] [] (ac_up h_8 o (.inr (9, md_fs md ((upd s_9.1 3 (nI (a9 + 1)), s_9.2.1, s_9.2.2).1)))) 0 0
    obtain ⟨h_16, eh_16⟩ : ∃ z9, z9 = ac_up h_8 o (.inr (9, md_fs md ((upd s_9.1 3 (nI (a9 + 1)), s_9.2.1, s_9.2.2).1))) := ⟨_, rfl⟩
    rw [← eh_16]
    have kpx_19 : kp h_8 h_16 [o] := by rw [eh_16]; exact kp_up (kp_cons o kp_rf) _ _ (by simp)
    have K_17 : md_ok h_16 o md (upd s_9.1 3 (nI (a9 + 1)), s_9.2.1, s_9.2.2) := md_J (s := (s_9.1, s_9.2.1, s_9.2.2)) K_10 (by rw [eh_16]; exact ac_up_s _ _ _) kpx_19
    have kq_18 : kp h h_16 (md_L o md) := kp_in kq_15 kpx_19 md_s0
    have R_21 : mz_rep (upd s_9.1 3 (nI (a9 + 1)), s_9.2.1, s_9.2.2) u n (a9 + 1, U9, W9, some (pz_X u n 8 a).2.1) := mz_at R_11 _
    have F_22 : mz_fr s (upd s_9.1 3 (nI (a9 + 1)), s_9.2.1, s_9.2.2) := mz_fr_at F_13
    obtain ⟨s_20, es_20⟩ : ∃ z, z = (upd s_9.1 3 (nI (a9 + 1)), s_9.2.1, s_9.2.2) := ⟨_, rfl⟩
    rw [← es_20] at K_17 R_21 F_22
    refine aw_aload_n C dX9_readCondition_35 rfl rfl (q := 36) rfl ?_
    refine gfX9_99_9 (v := .int (s_20.1 4)) C dX9_readCondition_36 K_17.1 rfl (q := 39) rfl ?_
    refine aw_if_ge (t := 53) (q := 42) C dX9_readCondition_39 (by decide) rfl (fun c_39 => ?_) (fun c_39 => absurd c_39 (fun z => z (by rw [R_21.2.2.2.1]; exact nI_le (a := 0) (b := (pz_X u n 8 a).2.1) (Nat.zero_le _) (by have := R_21.2.2.2.2.2.2.2.2.2 (pz_X u n 8 a).2.1 rfl; omega))))
    refine aw_vret C E dX9_readCondition_53 (Nat.le_refl _) (Nat.le_refl _) ?_
    exact ⟨_, (a9 + 1, U9, W9, some (pz_X u n 8 a).2.1), rfl, K_17, R_21, rfl, (by omega : a9 + 1 ≤ 320), (by omega : U9.length + W9.length ≤ 320), F_22, kq_18⟩
  ·
    refine aw_aload_n C dX9_readCondition_21 rfl rfl (q := 22) rfl ?_
    refine cvX9_120_9 (As := []) (rest := []) C B dX9_readCondition_22 K_10.1 (p_fail G M.2.1 o md hm h_8 (d + 5) s_9 K_10 u n a9 U9 W9 (some (pz_X u n 8 a).2.1) R_11 (by omega)) rfl rfl (Nat.le_of_ble_eq_true rfl) (by omega) (by omega) (by omega) (q := 25) rfl (fun r9 h_23 hr9 => ?_)
    obtain ⟨s_24, er9, K_25, R_26, F_27, kpx_29⟩ := hr9
    subst er9
    have F_28 : mz_fr s s_24 := mz_fr_tr F_13 F_27
    have kq_30 : kp h h_23 (md_L o md) := kp_in kq_15 kpx_29 (fun _ z => z)
    show aw G 2 M 25 [.ref o, .int (mz_c u n a9)] [] h_23 0 0
    refine aw_aload_n C dX9_readCondition_25 rfl rfl (q := 26) rfl ?_
    refine aw_dup C dX9_readCondition_26 rfl (q := 27) rfl ?_
    refine gfX9_96_9 (v := .int (s_24.1 3)) C dX9_readCondition_27 K_25.1 rfl (q := 30) rfl ?_
    refine aw_iconst (v := 1) C dX9_readCondition_30 (by decide) (q := 31) rfl ?_
    refine aw_iadd C dX9_readCondition_31 (q := 32) rfl ?_
    rw [show (s_24.1 3) + 1 = nI (a9 + 1) from by rw [R_26.2.2.1]; exact nI_1 _]
    refine pfX9_96_9 C dX9_readCondition_32 K_25.1 rfl rfl (Nat.le_of_ble_eq_true rfl) (q := 35) rfl ?_
    show aw G 2 M 35 [.ref o, .int (mz_c u n a9)] [] (ac_up h_23 o (.inr (9, md_fs md ((upd s_24.1 3 (nI (a9 + 1)), s_24.2.1, s_24.2.2).1)))) 0 0
    obtain ⟨h_31, eh_31⟩ : ∃ z9, z9 = ac_up h_23 o (.inr (9, md_fs md ((upd s_24.1 3 (nI (a9 + 1)), s_24.2.1, s_24.2.2).1))) := ⟨_, rfl⟩
    rw [← eh_31]
    have kpx_34 : kp h_23 h_31 [o] := by rw [eh_31]; exact kp_up (kp_cons o kp_rf) _ _ (by simp)
    have K_32 : md_ok h_31 o md (upd s_24.1 3 (nI (a9 + 1)), s_24.2.1, s_24.2.2) := md_J (s := (s_24.1, s_24.2.1, s_24.2.2)) K_25 (by rw [eh_31]; exact ac_up_s _ _ _) kpx_34
    have kq_33 : kp h h_31 (md_L o md) := kp_in kq_30 kpx_34 md_s0
    have R_36 : mz_rep (upd s_24.1 3 (nI (a9 + 1)), s_24.2.1, s_24.2.2) u n (a9 + 1, U9, W9, some (pz_X u n 8 a).2.1) := mz_at R_26 _
    have F_37 : mz_fr s (upd s_24.1 3 (nI (a9 + 1)), s_24.2.1, s_24.2.2) := mz_fr_at F_28
    obtain ⟨s_35, es_35⟩ : ∃ z, z = (upd s_24.1 3 (nI (a9 + 1)), s_24.2.1, s_24.2.2) := ⟨_, rfl⟩
    rw [← es_35] at K_32 R_36 F_37
    refine aw_aload_n C dX9_readCondition_35 rfl rfl (q := 36) rfl ?_
    refine gfX9_99_9 (v := .int (s_35.1 4)) C dX9_readCondition_36 K_32.1 rfl (q := 39) rfl ?_
    refine aw_if_ge (t := 53) (q := 42) C dX9_readCondition_39 (by decide) rfl (fun c_39 => ?_) (fun c_39 => absurd c_39 (fun z => z (by rw [R_36.2.2.2.1]; exact nI_le (a := 0) (b := (pz_X u n 8 a).2.1) (Nat.zero_le _) (by have := R_36.2.2.2.2.2.2.2.2.2 (pz_X u n 8 a).2.1 rfl; omega))))
    refine aw_vret C E dX9_readCondition_53 (Nat.le_refl _) (Nat.le_refl _) ?_
    exact ⟨_, (a9 + 1, U9, W9, some (pz_X u n 8 a).2.1), rfl, K_32, R_36, rfl, (by omega : a9 + 1 ≤ 320), (by omega : U9.length + W9.length ≤ 320), F_37, kq_33⟩
set_option maxHeartbeats 4000000 in
set_option maxRecDepth 100000 in
theorem p_cond0b (G : ac_G) (l : Launch) (o : Nat) (md : Nat → Nat) (hm : md_inj md) (h : ac_H) (d : Nat) (s : md_S) (K : md_ok h o md s) (u : Nat → Int32) (n a : Nat) (U W : pz_P) (R : mz_rep s u n (a, U, W, none)) (hn : n ≤ 300) (ht : mz_tx u n) (han : a ≤ n) (hU : U.length ≤ a) (h1 : (pz_X u n 8 a).1 = true) (h2 : ¬ pz_cmp u n (pz_X u n 8 a).2.1) : ac_Met G l yX9_readCondition cX9_readCondition 2 none (d + 6) 0 0 [.ref o] h (mz_QF o md h s u n (pz_X u n 8 a).2.1 320) := by
  refine ac_of (ls := [.ref o, .retAddr 0]) (by decide +kernel) rfl (Nat.le_of_ble_eq_true rfl) (fun M hl C B E hnm => ?_)
  have g1 := (pz_X_good hn 8 a han (u := u)).1
  have g2 := g1.1
  have g3 := g1.2 h1
  refine aw_aload_n C dX9_readCondition_0 rfl rfl (q := 1) rfl ?_
  refine aw_iconst (v := 0) C dX9_readCondition_1 (by decide) (q := 2) rfl ?_
  refine pfX9_102_9 C dX9_readCondition_2 K.1 rfl rfl (Nat.le_of_ble_eq_true rfl) (q := 5) rfl ?_
  show aw G 2 M 5 [.ref o, .retAddr 0] [] (ac_up h o (.inr (9, md_fs md ((upd s.1 14 0, s.2.1, s.2.2).1)))) 0 0
  obtain ⟨h_1, eh_1⟩ : ∃ z9, z9 = ac_up h o (.inr (9, md_fs md ((upd s.1 14 0, s.2.1, s.2.2).1))) := ⟨_, rfl⟩
  rw [← eh_1]
  have kpx_4 : kp h h_1 [o] := by rw [eh_1]; exact kp_up (kp_cons o kp_rf) _ _ (by simp)
  have K_2 : md_ok h_1 o md (upd s.1 14 0, s.2.1, s.2.2) := md_J (s := (s.1, s.2.1, s.2.2)) K (by rw [eh_1]; exact ac_up_s _ _ _) kpx_4
  have kq_3 : kp h h_1 (md_L o md) := kp_mono kpx_4 md_s0
  have R_6 : mz_rep (upd s.1 14 0, s.2.1, s.2.2) u n (a, U, [], none) := mz_w0 R
  have F_7 : mz_fr s (upd s.1 14 0, s.2.1, s.2.2) := mz_fr_wt mz_fr_rf
  obtain ⟨s_5, es_5⟩ : ∃ z, z = (upd s.1 14 0, s.2.1, s.2.2) := ⟨_, rfl⟩
  rw [← es_5] at K_2 R_6 F_7
  refine aw_aload_n C dX9_readCondition_5 rfl rfl (q := 6) rfl ?_
  refine cvX9_149_9 (As := []) (rest := []) C B dX9_readCondition_6 K_2.1 (p_expr1 G M.2.1 o md hm h_1 d s_5 K_2 u n a U ([]) none R_6 (by omega) hn ht rfl rfl (by omega) (by omega) h1) rfl rfl (Nat.le_of_ble_eq_true rfl) (by omega) (by omega) (by omega) (q := 9) rfl (fun r9 h_8 hr9 => ?_)
  obtain ⟨s_9, er9, K_10, R_11, F_12, kpx_14⟩ := hr9
  subst er9
  have F_13 : mz_fr s s_9 := mz_fr_tr F_7 F_12
  have kq_15 : kp h h_8 (md_L o md) := kp_in kq_3 kpx_14 (fun _ z => z)
  show aw G 2 M 9 [.ref o, .retAddr 0] [] h_8 0 0
  refine aw_aload_n C dX9_readCondition_9 rfl rfl (q := 10) rfl ?_
  refine cvX9_116_9 (As := []) (rest := []) C B dX9_readCondition_10 K_10.1 (m_here G M.2.1 o md hm h_8 (d + 5) s_9 K_10 ((pz_X u n 8 a).2.1) n R_11.2.2.1 R_11.1 (by omega) R_11.2.1) rfl rfl (Nat.le_of_ble_eq_true rfl) (by omega) (by omega) (by omega) (q := 13) rfl (fun r9 h9 hr9 => ?_)
  obtain ⟨e9, er9⟩ := hr9
  subst er9; rw [e9]
  show aw G 2 M 13 [.ref o, .retAddr 0] [.int (mo_here s_9 ((pz_X u n 8 a).2.1) n)] h_8 0 0
  rw [mz_here R_11]
  refine aw_istore_n (ls' := [.ref o, .int (mz_c u n ((pz_X u n 8 a).2.1))]) C dX9_readCondition_13 rfl (by decide) rfl (q := 14) rfl ?_
  refine aw_iload_n C dX9_readCondition_14 rfl rfl (q := 15) rfl ?_
  refine csX9_152 (As := [.int (mz_c u n ((pz_X u n 8 a).2.1))]) (rest := []) C B dX9_readCondition_15 (m_isCompare G M.2.1 h_8 (d + 5) (mz_c u n ((pz_X u n 8 a).2.1))) rfl rfl (Nat.le_of_ble_eq_true rfl) (by omega) (by omega) (by omega) (q := 18) rfl (fun r9 h9 hr9 => ?_)
  obtain ⟨e9, er9⟩ := hr9
  subst er9; rw [e9]
  show aw G 2 M 18 [.ref o, .int (mz_c u n ((pz_X u n 8 a).2.1))] [.int (pb_b ((mz_c u n ((pz_X u n 8 a).2.1)) = 60 ∨ (mz_c u n ((pz_X u n 8 a).2.1)) = 62 ∨ (mz_c u n ((pz_X u n 8 a).2.1)) = 61 ∨ (mz_c u n ((pz_X u n 8 a).2.1)) = 33))] h_8 0 0
  refine aw_if_ne (t := 25) (q := 21) C dX9_readCondition_18 (by decide) rfl (fun c_18 => absurd c_18 (fun z => z (pb_f (fun q => h2 (mz_cmp.mp q))))) (fun c_18 => ?_)
  refine aw_aload_n C dX9_readCondition_21 rfl rfl (q := 22) rfl ?_
  refine cvX9_120_9 (As := []) (rest := []) C B dX9_readCondition_22 K_10.1 (p_fail G M.2.1 o md hm h_8 (d + 5) s_9 K_10 u n ((pz_X u n 8 a).2.1) (List.reverseAux ((pz_X u n 8 a).2.2.map pz_m) U) ([]) none R_11 (by omega)) rfl rfl (Nat.le_of_ble_eq_true rfl) (by omega) (by omega) (by omega) (q := 25) rfl (fun r9 h_16 hr9 => ?_)
  obtain ⟨s_17, er9, K_18, R_19, F_20, kpx_22⟩ := hr9
  subst er9
  have F_21 : mz_fr s s_17 := mz_fr_tr F_13 F_20
  have kq_23 : kp h h_16 (md_L o md) := kp_in kq_15 kpx_22 (fun _ z => z)
  show aw G 2 M 25 [.ref o, .int (mz_c u n ((pz_X u n 8 a).2.1))] [] h_16 0 0
  refine aw_aload_n C dX9_readCondition_25 rfl rfl (q := 26) rfl ?_
  refine aw_dup C dX9_readCondition_26 rfl (q := 27) rfl ?_
  refine gfX9_96_9 (v := .int (s_17.1 3)) C dX9_readCondition_27 K_18.1 rfl (q := 30) rfl ?_
  refine aw_iconst (v := 1) C dX9_readCondition_30 (by decide) (q := 31) rfl ?_
  refine aw_iadd C dX9_readCondition_31 (q := 32) rfl ?_
  rw [show (s_17.1 3) + 1 = nI ((pz_X u n 8 a).2.1 + 1) from by rw [R_19.2.2.1]; exact nI_1 _]
  refine pfX9_96_9 C dX9_readCondition_32 K_18.1 rfl rfl (Nat.le_of_ble_eq_true rfl) (q := 35) rfl ?_
  show aw G 2 M 35 [.ref o, .int (mz_c u n ((pz_X u n 8 a).2.1))] [] (ac_up h_16 o (.inr (9, md_fs md ((upd s_17.1 3 (nI ((pz_X u n 8 a).2.1 + 1)), s_17.2.1, s_17.2.2).1)))) 0 0
  obtain ⟨h_24, eh_24⟩ : ∃ z9, z9 = ac_up h_16 o (.inr (9, md_fs md ((upd s_17.1 3 (nI ((pz_X u n 8 a).2.1 + 1)), s_17.2.1, s_17.2.2).1))) := ⟨_, rfl⟩
  rw [← eh_24]
  have kpx_27 : kp h_16 h_24 [o] := by rw [eh_24]; exact kp_up (kp_cons o kp_rf) _ _ (by simp)
  have K_25 : md_ok h_24 o md (upd s_17.1 3 (nI ((pz_X u n 8 a).2.1 + 1)), s_17.2.1, s_17.2.2) := md_J (s := (s_17.1, s_17.2.1, s_17.2.2)) K_18 (by rw [eh_24]; exact ac_up_s _ _ _) kpx_27
  have kq_26 : kp h h_24 (md_L o md) := kp_in kq_23 kpx_27 md_s0
  have R_29 : mz_rep (upd s_17.1 3 (nI ((pz_X u n 8 a).2.1 + 1)), s_17.2.1, s_17.2.2) u n ((pz_X u n 8 a).2.1 + 1, List.reverseAux ((pz_X u n 8 a).2.2.map pz_m) U, [], some ((pz_X u n 8 a).2.1)) := mz_at R_19 _
  have F_30 : mz_fr s (upd s_17.1 3 (nI ((pz_X u n 8 a).2.1 + 1)), s_17.2.1, s_17.2.2) := mz_fr_at F_21
  obtain ⟨s_28, es_28⟩ : ∃ z, z = (upd s_17.1 3 (nI ((pz_X u n 8 a).2.1 + 1)), s_17.2.1, s_17.2.2) := ⟨_, rfl⟩
  rw [← es_28] at K_25 R_29 F_30
  refine aw_aload_n C dX9_readCondition_35 rfl rfl (q := 36) rfl ?_
  refine gfX9_99_9 (v := .int (s_28.1 4)) C dX9_readCondition_36 K_25.1 rfl (q := 39) rfl ?_
  refine aw_if_ge (t := 53) (q := 42) C dX9_readCondition_39 (by decide) rfl (fun c_39 => ?_) (fun c_39 => absurd c_39 (fun z => z (by rw [R_29.2.2.2.1]; exact nI_le (a := 0) (b := ((pz_X u n 8 a).2.1)) (Nat.zero_le _) (by have := R_29.2.2.2.2.2.2.2.2.2 ((pz_X u n 8 a).2.1) rfl; omega))))
  refine aw_vret C E dX9_readCondition_53 (Nat.le_refl _) (Nat.le_refl _) ?_
  exact ⟨_, ((pz_X u n 8 a).2.1 + 1, List.reverseAux ((pz_X u n 8 a).2.2.map pz_m) U, [], some ((pz_X u n 8 a).2.1)), rfl, K_25, R_29, rfl, (by omega : (pz_X u n 8 a).2.1 + 1 ≤ 320), (by rw [List.length_nil, rv_len, List.length_map]; omega : (List.reverseAux ((pz_X u n 8 a).2.2.map pz_m) U).length + ([] : pz_P).length ≤ 320), F_30, kq_26⟩
set_option maxHeartbeats 4000000 in
set_option maxRecDepth 100000 in
theorem p_cond0c (G : ac_G) (l : Launch) (o : Nat) (md : Nat → Nat) (hm : md_inj md) (h : ac_H) (d : Nat) (s : md_S) (K : md_ok h o md s) (u : Nat → Int32) (n a : Nat) (U W : pz_P) (R : mz_rep s u n (a, U, W, none)) (hn : n ≤ 300) (ht : mz_tx u n) (han : a ≤ n) (hU : U.length ≤ a) (h1 : (pz_X u n 8 a).1 = true) (h2 : pz_cmp u n (pz_X u n 8 a).2.1) (h3 : (pz_X u n 8 ((pz_X u n 8 a).2.1 + 1)).1 = false) : ac_Met G l yX9_readCondition cX9_readCondition 2 none (d + 6) 0 0 [.ref o] h (mz_QF o md h s u n (pz_X u n 8 ((pz_X u n 8 a).2.1 + 1)).2.1 320) := by
  refine ac_of (ls := [.ref o, .retAddr 0]) (by decide +kernel) rfl (Nat.le_of_ble_eq_true rfl) (fun M hl C B E hnm => ?_)
  have g1 := (pz_X_good hn 8 a han (u := u)).1
  have g2 := g1.1
  have g3 := g1.2 h1
  obtain ⟨m1, m2, m3⟩ := pz_cmp_m h2
  have g4 := (pz_X_good hn 8 ((pz_X u n 8 a).2.1 + 1) (by omega) (u := u)).1
  have g5 := g4.1
  have hU2 : (List.reverseAux ((pz_X u n 8 a).2.2.map pz_m) U).length ≤ (pz_X u n 8 a).2.1 + 1 := by rw [rv_len, List.length_map]; omega
  refine aw_aload_n C dX9_readCondition_0 rfl rfl (q := 1) rfl ?_
  refine aw_iconst (v := 0) C dX9_readCondition_1 (by decide) (q := 2) rfl ?_
  refine pfX9_102_9 C dX9_readCondition_2 K.1 rfl rfl (Nat.le_of_ble_eq_true rfl) (q := 5) rfl ?_
  show aw G 2 M 5 [.ref o, .retAddr 0] [] (ac_up h o (.inr (9, md_fs md ((upd s.1 14 0, s.2.1, s.2.2).1)))) 0 0
  obtain ⟨h_1, eh_1⟩ : ∃ z9, z9 = ac_up h o (.inr (9, md_fs md ((upd s.1 14 0, s.2.1, s.2.2).1))) := ⟨_, rfl⟩
  rw [← eh_1]
  have kpx_4 : kp h h_1 [o] := by rw [eh_1]; exact kp_up (kp_cons o kp_rf) _ _ (by simp)
  have K_2 : md_ok h_1 o md (upd s.1 14 0, s.2.1, s.2.2) := md_J (s := (s.1, s.2.1, s.2.2)) K (by rw [eh_1]; exact ac_up_s _ _ _) kpx_4
  have kq_3 : kp h h_1 (md_L o md) := kp_mono kpx_4 md_s0
  have R_6 : mz_rep (upd s.1 14 0, s.2.1, s.2.2) u n (a, U, [], none) := mz_w0 R
  have F_7 : mz_fr s (upd s.1 14 0, s.2.1, s.2.2) := mz_fr_wt mz_fr_rf
  obtain ⟨s_5, es_5⟩ : ∃ z, z = (upd s.1 14 0, s.2.1, s.2.2) := ⟨_, rfl⟩
  rw [← es_5] at K_2 R_6 F_7
  refine aw_aload_n C dX9_readCondition_5 rfl rfl (q := 6) rfl ?_
  refine cvX9_149_9 (As := []) (rest := []) C B dX9_readCondition_6 K_2.1 (p_expr1 G M.2.1 o md hm h_1 d s_5 K_2 u n a U ([]) none R_6 (by omega) hn ht rfl rfl (by omega) (by omega) h1) rfl rfl (Nat.le_of_ble_eq_true rfl) (by omega) (by omega) (by omega) (q := 9) rfl (fun r9 h_8 hr9 => ?_)
  obtain ⟨s_9, er9, K_10, R_11, F_12, kpx_14⟩ := hr9
  subst er9
  have F_13 : mz_fr s s_9 := mz_fr_tr F_7 F_12
  have kq_15 : kp h h_8 (md_L o md) := kp_in kq_3 kpx_14 (fun _ z => z)
  show aw G 2 M 9 [.ref o, .retAddr 0] [] h_8 0 0
  refine aw_aload_n C dX9_readCondition_9 rfl rfl (q := 10) rfl ?_
  refine cvX9_116_9 (As := []) (rest := []) C B dX9_readCondition_10 K_10.1 (m_here G M.2.1 o md hm h_8 (d + 5) s_9 K_10 ((pz_X u n 8 a).2.1) n R_11.2.2.1 R_11.1 (by omega) R_11.2.1) rfl rfl (Nat.le_of_ble_eq_true rfl) (by omega) (by omega) (by omega) (q := 13) rfl (fun r9 h9 hr9 => ?_)
  obtain ⟨e9, er9⟩ := hr9
  subst er9; rw [e9]
  show aw G 2 M 13 [.ref o, .retAddr 0] [.int (mo_here s_9 ((pz_X u n 8 a).2.1) n)] h_8 0 0
  rw [mz_here R_11]
  refine aw_istore_n (ls' := [.ref o, .int (mz_c u n ((pz_X u n 8 a).2.1))]) C dX9_readCondition_13 rfl (by decide) rfl (q := 14) rfl ?_
  refine aw_iload_n C dX9_readCondition_14 rfl rfl (q := 15) rfl ?_
  refine csX9_152 (As := [.int (mz_c u n ((pz_X u n 8 a).2.1))]) (rest := []) C B dX9_readCondition_15 (m_isCompare G M.2.1 h_8 (d + 5) (mz_c u n ((pz_X u n 8 a).2.1))) rfl rfl (Nat.le_of_ble_eq_true rfl) (by omega) (by omega) (by omega) (q := 18) rfl (fun r9 h9 hr9 => ?_)
  obtain ⟨e9, er9⟩ := hr9
  subst er9; rw [e9]
  show aw G 2 M 18 [.ref o, .int (mz_c u n ((pz_X u n 8 a).2.1))] [.int (pb_b ((mz_c u n ((pz_X u n 8 a).2.1)) = 60 ∨ (mz_c u n ((pz_X u n 8 a).2.1)) = 62 ∨ (mz_c u n ((pz_X u n 8 a).2.1)) = 61 ∨ (mz_c u n ((pz_X u n 8 a).2.1)) = 33))] h_8 0 0
  refine aw_if_ne (t := 25) (q := 21) C dX9_readCondition_18 (by decide) rfl (fun c_18 => ?_) (fun c_18 => absurd c_18 (by rw [pb_t (mz_cmp.mpr h2)]; decide))
  refine aw_aload_n C dX9_readCondition_25 rfl rfl (q := 26) rfl ?_
  refine aw_dup C dX9_readCondition_26 rfl (q := 27) rfl ?_
  refine gfX9_96_9 (v := .int (s_9.1 3)) C dX9_readCondition_27 K_10.1 rfl (q := 30) rfl ?_
  refine aw_iconst (v := 1) C dX9_readCondition_30 (by decide) (q := 31) rfl ?_
  refine aw_iadd C dX9_readCondition_31 (q := 32) rfl ?_
  rw [show (s_9.1 3) + 1 = nI ((pz_X u n 8 a).2.1 + 1) from by rw [R_11.2.2.1]; exact nI_1 _]
  refine pfX9_96_9 C dX9_readCondition_32 K_10.1 rfl rfl (Nat.le_of_ble_eq_true rfl) (q := 35) rfl ?_
  show aw G 2 M 35 [.ref o, .int (mz_c u n ((pz_X u n 8 a).2.1))] [] (ac_up h_8 o (.inr (9, md_fs md ((upd s_9.1 3 (nI ((pz_X u n 8 a).2.1 + 1)), s_9.2.1, s_9.2.2).1)))) 0 0
  obtain ⟨h_16, eh_16⟩ : ∃ z9, z9 = ac_up h_8 o (.inr (9, md_fs md ((upd s_9.1 3 (nI ((pz_X u n 8 a).2.1 + 1)), s_9.2.1, s_9.2.2).1))) := ⟨_, rfl⟩
  rw [← eh_16]
  have kpx_19 : kp h_8 h_16 [o] := by rw [eh_16]; exact kp_up (kp_cons o kp_rf) _ _ (by simp)
  have K_17 : md_ok h_16 o md (upd s_9.1 3 (nI ((pz_X u n 8 a).2.1 + 1)), s_9.2.1, s_9.2.2) := md_J (s := (s_9.1, s_9.2.1, s_9.2.2)) K_10 (by rw [eh_16]; exact ac_up_s _ _ _) kpx_19
  have kq_18 : kp h h_16 (md_L o md) := kp_in kq_15 kpx_19 md_s0
  have R_21 : mz_rep (upd s_9.1 3 (nI ((pz_X u n 8 a).2.1 + 1)), s_9.2.1, s_9.2.2) u n ((pz_X u n 8 a).2.1 + 1, List.reverseAux ((pz_X u n 8 a).2.2.map pz_m) U, [], none) := mz_at R_11 _
  have F_22 : mz_fr s (upd s_9.1 3 (nI ((pz_X u n 8 a).2.1 + 1)), s_9.2.1, s_9.2.2) := mz_fr_at F_13
  obtain ⟨s_20, es_20⟩ : ∃ z, z = (upd s_9.1 3 (nI ((pz_X u n 8 a).2.1 + 1)), s_9.2.1, s_9.2.2) := ⟨_, rfl⟩
  rw [← es_20] at K_17 R_21 F_22
  refine aw_aload_n C dX9_readCondition_35 rfl rfl (q := 36) rfl ?_
  refine gfX9_99_9 (v := .int (s_20.1 4)) C dX9_readCondition_36 K_17.1 rfl (q := 39) rfl ?_
  refine aw_if_ge (t := 53) (q := 42) C dX9_readCondition_39 (by decide) rfl (fun c_39 => absurd c_39 (by rw [R_21.2.2.2.1]; show ¬ (0 : Int32) ≤ -1; decide)) (fun c_39 => ?_)
  refine aw_aload_n C dX9_readCondition_42 rfl rfl (q := 43) rfl ?_
  refine cvX9_149_9 (As := []) (rest := []) C B dX9_readCondition_43 K_17.1 (p_expr0 G M.2.1 o md hm h_16 d s_20 K_17 u n ((pz_X u n 8 a).2.1 + 1) (List.reverseAux ((pz_X u n 8 a).2.2.map pz_m) U) ([]) none R_21 (by omega) hn ht rfl rfl (by omega) hU2 h3) rfl rfl (Nat.le_of_ble_eq_true rfl) (by omega) (by omega) (by omega) (q := 46) rfl (fun r9 h_23 hr9 => ?_)
  obtain ⟨s_24, ⟨a9, U9, W9, f9⟩, er9, K_25, R_26, ef9, bd1, bd2, F_27, kpx_29⟩ := hr9
  subst er9
  have ef8 : f9 = some (pz_X u n 8 ((pz_X u n 8 a).2.1 + 1)).2.1 := ef9
  subst ef8
  replace bd1 : a9 ≤ 315 := bd1
  replace bd2 : U9.length + W9.length ≤ 315 := bd2
  have F_28 : mz_fr s s_24 := mz_fr_tr F_22 F_27
  have kq_30 : kp h h_23 (md_L o md) := kp_in kq_18 kpx_29 (fun _ z => z)
  show aw G 2 M 46 [.ref o, .int (mz_c u n ((pz_X u n 8 a).2.1))] [] h_23 0 0
  refine aw_aload_n C dX9_readCondition_46 rfl rfl (q := 47) rfl ?_
  refine aw_bipush (v := 16) C dX9_readCondition_47 (by decide) (q := 49) rfl ?_
  refine aw_iload_n C dX9_readCondition_49 rfl rfl (q := 50) rfl ?_
  refine cvX9_105_9 (As := [.int 16, .int (mz_c u n ((pz_X u n 8 a).2.1))]) (rest := []) C B dX9_readCondition_50 K_25.1 (p_emit G M.2.1 o md hm h_23 (d + 5) s_24 K_25 u n a9 U9 W9 (some (pz_X u n 8 ((pz_X u n 8 a).2.1 + 1)).2.1) R_26 (by omega) (by omega) 16 (mz_c u n ((pz_X u n 8 a).2.1))) rfl rfl (Nat.le_of_ble_eq_true rfl) (by omega) (by omega) (by omega) (q := 53) rfl (fun r9 h_31 hr9 => ?_)
  obtain ⟨s_32, er9, K_33, R_34, F_35, kpx_37⟩ := hr9
  subst er9
  have F_36 : mz_fr s s_32 := mz_fr_tr F_28 F_35
  have kq_38 : kp h h_31 (md_L o md) := kp_in kq_30 kpx_37 (fun _ z => z)
  show aw G 2 M 53 [.ref o, .int (mz_c u n ((pz_X u n 8 a).2.1))] [] h_31 0 0
  refine aw_vret C E dX9_readCondition_53 (Nat.le_refl _) (Nat.le_refl _) ?_
  exact ⟨_, (a9, (16, mz_c u n ((pz_X u n 8 a).2.1)) :: U9, W9, some (pz_X u n 8 ((pz_X u n 8 a).2.1 + 1)).2.1), rfl, K_33, R_34, rfl, (by omega : a9 ≤ 320), (by rw [List.length_cons]; omega : (_ :: U9).length + W9.length ≤ 320), F_36, kq_38⟩
theorem p_cond (G : ac_G) (l : Launch) (o : Nat) (md : Nat → Nat) (hm : md_inj md) (h : ac_H) (d : Nat) (s : md_S) (K : md_ok h o md s) (u : Nat → Int32) (n a : Nat) (U W : pz_P) (R : mz_rep s u n (a, U, W, none)) (hn : n ≤ 300) (ht : mz_tx u n) (han : a ≤ n) (hU : U.length ≤ a) : ((pz_cond u n a).1 = true → ac_Met G l yX9_readCondition cX9_readCondition 2 none (d + 6) 0 0 [.ref o] h (mz_Q o md h s u n ((pz_cond u n a).2.1, List.reverseAux ((pz_cond u n a).2.2.map pz_m) U, [], none) none)) ∧ ((pz_cond u n a).1 = false → ac_Met G l yX9_readCondition cX9_readCondition 2 none (d + 6) 0 0 [.ref o] h (mz_QF o md h s u n (pz_cond u n a).2.1 320)) := by
  unfold pz_cond
  cases h1 : (pz_X u n 8 a).1 with
  | false =>
    rw [if_pos rfl]
    exact ⟨fun z => (by cases z), fun _ => p_cond0a G l o md hm h d s K u n a U W R hn ht han hU h1⟩
  | true =>
    rw [if_neg (by decide)]
    by_cases h2 : pz_cmp u n (pz_X u n 8 a).2.1
    · rw [if_pos h2]
      cases h3 : (pz_X u n 8 ((pz_X u n 8 a).2.1 + 1)).1 with
      | false =>
        rw [if_pos rfl]
        exact ⟨fun z => (by cases z), fun _ => p_cond0c G l o md hm h d s K u n a U W R hn ht han hU h1 h2 h3⟩
      | true =>
        rw [if_neg (by decide)]
        exact ⟨fun _ => p_cond1 G l o md hm h d s K u n a U W R hn ht han hU h1 h2 h3, fun z => (by cases z)⟩
    · rw [if_neg h2]
      exact ⟨fun z => (by cases z), fun _ => p_cond0b G l o md hm h d s K u n a U W R hn ht han hU h1 h2⟩
theorem pz_cond_good {u : Nat → Int32} {n a : Nat} (hn : n ≤ 300) (han : a ≤ n) : pz_good n a (pz_cond u n a) := by
  have g1 := (pz_X_good hn 8 a han (u := u)).1
  unfold pz_cond
  cases h1 : (pz_X u n 8 a).1 with
  | false => rw [if_pos rfl]; exact ⟨g1.1, fun z => by cases z⟩
  | true =>
    rw [if_neg (by decide)]
    have g3 := g1.2 h1
    by_cases h2 : pz_cmp u n (pz_X u n 8 a).2.1
    · rw [if_pos h2]
      have m2 := (pz_cmp_m h2).2.1
      have g4 := (pz_X_good hn 8 ((pz_X u n 8 a).2.1 + 1) (by omega) (u := u)).1
      cases h3 : (pz_X u n 8 ((pz_X u n 8 a).2.1 + 1)).1 with
      | false => rw [if_pos rfl]; exact ⟨g4.1, fun z => by cases z⟩
      | true =>
        rw [if_neg (by decide)]
        have g6 := g4.2 h3
        refine ⟨g4.1, fun _ => ⟨?_, (by omega : a < (pz_X u n 8 ((pz_X u n 8 a).2.1 + 1)).2.1)⟩⟩
        show ((pz_X u n 8 a).2.2 ++ (pz_X u n 8 ((pz_X u n 8 a).2.1 + 1)).2.2 ++ [(cu_c u n (pz_X u n 8 a).2.1, 0)]).length + a ≤ (pz_X u n 8 ((pz_X u n 8 a).2.1 + 1)).2.1
        rw [List.length_append, List.length_append, List.length_singleton]; omega
    · rw [if_neg h2]; exact ⟨g1.1, fun z => by cases z⟩
