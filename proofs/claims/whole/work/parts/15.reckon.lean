/-! Reckoner: a step, a rule -/
/-- f: how many faults the face of that number has; true: no such face -/
def rk_fo (F : Nat → Nat → Int32) (c : Nat) (v : Int64) (ab : Int32) : Int64 × Bool := if ¬ v.toInt32 < 0 ∧ ¬ 2 ≤ v.toInt32 then ((pl_onF (F 5) v.toInt32 ab c).toInt64, false) else (0, true)
/-- a step that isn't a comparison: the stack and the cause behind it -/
def rk_step (I : Nat → Int32) (F : Nat → Nat → Int32) (c : Nat) (act op ab : Int32) (s : rk_S) (ca : Int32) : rk_S × Int32 :=
  if act = 35 then (rk_push s op.toInt64, ca)
  else if act = 42 ∨ act = 43 ∨ act = 45 ∨ act = 47 then (rk_push (rk_drop (rk_drop s)) (rk_comb act (rk_top (rk_drop s)) (rk_top s)).1, if (rk_comb act (rk_top (rk_drop s)) (rk_top s)).2 then 1 else ca)
  else if act = 99 then (rk_push (rk_drop s) (pl_worst F op (rk_top s) 0 ab c c), ca)
  else if act = 102 then (rk_push (rk_drop s) (rk_fo F c (rk_top s) ab).1, if (rk_fo F c (rk_top s) ab).2 then 2 else ca)
  else if act = 126 then (rk_push (rk_drop s) (-(rk_top s)), ca)
  else (rk_push s (pl_measure I F act op ab c), ca)
theorem rk_drop_le {s : rk_S} (h : s.2 ≤ 32) : (rk_drop s).2 ≤ 32 := by show s.2 - 1 ≤ 32; omega
set_option maxHeartbeats 4000000 in
set_option maxRecDepth 100000 in
theorem c_faultsOn (G : ac_G) (l : Launch) (h : ac_H) (d : Nat) (k pl sk : Nat) (s : rk_S) (hd ca : Int32) (A : Nat → Nat) (I : Nat → Int32) (F : Nat → Nat → Int32) (c : Nat) (v : Int64) (ab : Int32) (K : rk_ok h k pl sk s hd ca) (Kp : pl_ok h pl A I F c) : ac_Met G l yX4_faultsOn cX4_faultsOn 5 (some .long) (d + 1) 0 0 [.ref k, .long v, .int ab] h (fun r9 h9 => r9 = some (.long (rk_fo F c v ab).1) ∧ rk_ok h9 k pl sk (s) (hd) (if (rk_fo F c v ab).2 then 2 else ca) ∧ kp h h9 [k, sk]) := by
  refine ac_of (ls := [.ref k, .long v, .retAddr 0, .int ab, .retAddr 0]) (by decide +kernel) rfl (Nat.le_of_ble_eq_true rfl) (fun M hl C B E hnm => ?_)
  refine aw_lload_n C dX4_faultsOn_0 rfl rfl (q := 1) rfl ?_
  refine aw_l2i C dX4_faultsOn_1 (q := 2) rfl ?_
  refine aw_istore (ls' := [.ref k, .long v, .retAddr 0, .int ab, .int v.toInt32]) C dX4_faultsOn_2 (by decide) rfl (q := 4) rfl ?_
  refine aw_iload C dX4_faultsOn_4 rfl (q := 6) rfl ?_
  refine aw_iconst (v := 2) C dX4_faultsOn_6 (by decide) (q := 7) rfl ?_
  refine csX4_29 (As := [.int v.toInt32, .int 2]) (rest := []) C B dX4_faultsOn_7 (c_isBelow G M.2.1 h d v.toInt32 2) rfl rfl (Nat.le_of_ble_eq_true rfl) (by omega) (by omega) (by omega) (q := 10) rfl (fun r9 h9 hr9 => ?_)
  obtain ⟨e9, er9⟩ := hr9
  subst er9; rw [e9]
  show aw G 5 M 10 [.ref k, .long v, .retAddr 0, .int ab, .int v.toInt32] [.int (pb_b (¬ v.toInt32 < 0 ∧ ¬ 2 ≤ v.toInt32))] h 0 0
  refine aw_if_ne (t := 20) (q := 13) C dX4_faultsOn_10 (by decide) rfl (fun c_10 => ?_) (fun c_10 => ?_)
  ·
    refine aw_aload_n C dX4_faultsOn_20 rfl rfl (q := 21) rfl ?_
    refine gfX4_15_4 (v := .ref pl) C dX4_faultsOn_21 K.1 rfl (q := 24) rfl ?_
    refine aw_iload C dX4_faultsOn_24 rfl (q := 26) rfl ?_
    refine aw_iload_n C dX4_faultsOn_26 rfl rfl (q := 27) rfl ?_
    refine cvX4_88_1 (As := [.int v.toInt32, .int ab]) (rest := []) C B dX4_faultsOn_27 Kp.1 (c_onFace G M.2.1 h d pl A I F c v.toInt32 ab Kp) rfl rfl (Nat.le_of_ble_eq_true rfl) (by omega) (by omega) (by omega) (q := 30) rfl (fun r9 h9 hr9 => ?_)
    obtain ⟨e9, er9⟩ := hr9
    subst er9; rw [e9]
    show aw G 5 M 30 [.ref k, .long v, .retAddr 0, .int ab, .int v.toInt32] [.int (pl_onF (F 5) v.toInt32 ab c)] h 0 0
    refine aw_i2l C dX4_faultsOn_30 (q := 31) rfl ?_
    refine aw_lret C E dX4_faultsOn_31 (Nat.le_refl _) (Nat.le_refl _) ?_
    have e : rk_fo F c v ab = ((pl_onF (F 5) v.toInt32 ab c).toInt64, false) := by unfold rk_fo; rw [if_pos (pb_n c_10)]
    rw [e]; exact ⟨rfl, K, kp_cons _ (kp_cons _ kp_rf)⟩
  ·
    refine aw_aload_n C dX4_faultsOn_13 rfl rfl (q := 14) rfl ?_
    refine aw_iconst (v := 2) C dX4_faultsOn_14 (by decide) (q := 15) rfl ?_
    refine pfX4_26_4 C dX4_faultsOn_15 K.1 rfl rfl (Nat.le_of_ble_eq_true rfl) (q := 18) rfl ?_
    show aw G 5 M 18 [.ref k, .long v, .retAddr 0, .int ab, .int v.toInt32] [] (ac_up h k (.inr (4, [.ref pl, .ref sk, .int (nI (s).2), .int hd, .int 2]))) 0 0
    obtain ⟨h_1, eh_1⟩ : ∃ z, z = ac_up h k (.inr (4, [.ref pl, .ref sk, .int (nI (s).2), .int hd, .int 2])) := ⟨_, rfl⟩
    rw [← eh_1]
    have f_2 : h_1 sk = some (.inl (2, 32, .inr (.inl ((s).1)))) := by rw [eh_1, ac_up_n _ _ K.ne]; exact K.2.1
    have f_3 : h_1 k = some (.inr (4, [.ref pl, .ref sk, .int (nI (s).2), .int hd, .int 2])) := by rw [eh_1]; exact ac_up_s _ _ _
    have kp_4 : kp h h_1 [k] := by rw [eh_1]; exact kp_up (kp_cons k kp_rf) _ _ (by simp)
    refine aw_lconst (v := 0) C dX4_faultsOn_18 (by decide) (q := 19) rfl ?_
    refine aw_lret C E dX4_faultsOn_19 (Nat.le_refl _) (Nat.le_refl _) ?_
    have e : rk_fo F c v ab = (0, true) := by unfold rk_fo; rw [if_neg (pb_0.mp c_10)]
    rw [e]; exact ⟨rfl, ⟨f_3, f_2, K.2.2⟩, kp_mono kp_4 (by simp)⟩
set_option maxHeartbeats 4000000 in
set_option maxRecDepth 100000 in
theorem c_reckonStep (G : ac_G) (l : Launch) (h : ac_H) (d : Nat) (k pl sk : Nat) (s : rk_S) (hd ca : Int32) (A : Nat → Nat) (I : Nat → Int32) (F : Nat → Nat → Int32) (c : Nat) (act op ab : Int32) (K : rk_ok h k pl sk s hd ca) (Kp : pl_ok h pl A I F c) : ac_Met G l yX4_reckonStep cX4_reckonStep 6 none (d + 3) 0 0 [.ref k, .int act, .int op, .int ab] h (fun r9 h9 => r9 = none ∧ rk_ok h9 k pl sk ((rk_step I F c act op ab s ca).1) (hd) ((rk_step I F c act op ab s ca).2) ∧ kp h h9 [k, sk]) := by
  refine ac_of (ls := [.ref k, .int act, .int op, .int ab, .retAddr 0, .retAddr 0]) (by decide +kernel) rfl (Nat.le_of_ble_eq_true rfl) (fun M hl C B E hnm => ?_)
  refine aw_iload_n C dX4_reckonStep_0 rfl rfl (q := 1) rfl ?_
  by_cases e_35 : act = 35
  ·
    refine aw_lookup (off := 75) (q := 76) C dX4_reckonStep_1 (by decide) (by rw [e_35]; decide) (by decide) ?_
    refine aw_aload_n C dX4_reckonStep_76 rfl rfl (q := 77) rfl ?_
    refine aw_iload_n C dX4_reckonStep_77 rfl rfl (q := 78) rfl ?_
    refine aw_i2l C dX4_reckonStep_78 (q := 79) rfl ?_
    refine cvX4_66_4 (As := [.long op.toInt64]) (rest := []) C B dX4_reckonStep_79 K.1 (c_push G M.2.1 h (d + 1) k pl sk (s) hd ca op.toInt64 K) rfl rfl (Nat.le_of_ble_eq_true rfl) (by omega) (by omega) (by omega) (q := 82) rfl (fun r9 h_1 hr9 => ?_)
    obtain ⟨er9, K_2, kp_3⟩ := hr9
    subst er9
    have Kp_5 := pl_kp Kp K kp_3
    have kq_4 : kp h h_1 [k, sk] := kp_mono (kp_tr (kp_cons k (kp_cons sk kp_rf)) kp_3) (by simp)
    show aw G 6 M 82 [.ref k, .int act, .int op, .int ab, .retAddr 0, .retAddr 0] [] h_1 0 0
    refine aw_goto (q := 172) C dX4_reckonStep_82 (by decide) ?_
    refine aw_vret C E dX4_reckonStep_172 (Nat.le_refl _) (Nat.le_refl _) ?_
    have e : rk_step I F c act op ab s ca = (rk_push (s) op.toInt64, ca) := by unfold rk_step; rw [if_pos e_35]
    rw [e]; exact ⟨rfl, K_2, kq_4⟩
  ·
    by_cases e_42 : act = 42
    ·
      refine aw_lookup (off := 133) (q := 134) C dX4_reckonStep_1 (by decide) (by rw [e_42]; decide) (by decide) ?_
      refine aw_aload_n C dX4_reckonStep_134 rfl rfl (q := 135) rfl ?_
      refine cvX4_54_4 (As := []) (rest := []) C B dX4_reckonStep_135 K.1 (c_pop G M.2.1 h (d + 1) k pl sk (s) hd ca  K) rfl rfl (Nat.le_of_ble_eq_true rfl) (by omega) (by omega) (by omega) (q := 138) rfl (fun r9 h_6 hr9 => ?_)
      obtain ⟨er9, K_7, kp_8⟩ := hr9
      subst er9
      have Kp_10 := pl_kp Kp K kp_8
      have kq_9 : kp h h_6 [k, sk] := kp_mono (kp_tr (kp_cons k (kp_cons sk kp_rf)) kp_8) (by simp)
      show aw G 6 M 138 [.ref k, .int act, .int op, .int ab, .retAddr 0, .retAddr 0] [.long (rk_top (s))] h_6 0 0
      refine aw_lstore (ls' := [.ref k, .int act, .int op, .int ab, .long (rk_top (s)), .retAddr 0]) C dX4_reckonStep_138 (by decide) rfl (q := 140) rfl ?_
      refine aw_aload_n C dX4_reckonStep_140 rfl rfl (q := 141) rfl ?_
      refine aw_aload_n C dX4_reckonStep_141 rfl rfl (q := 142) rfl ?_
      refine aw_iload_n C dX4_reckonStep_142 rfl rfl (q := 143) rfl ?_
      refine aw_aload_n C dX4_reckonStep_143 rfl rfl (q := 144) rfl ?_
      refine cvX4_54_4 (As := []) (rest := [.int act, .ref k, .ref k]) C B dX4_reckonStep_144 K_7.1 (c_pop G M.2.1 h_6 (d + 1) k pl sk (rk_drop (s)) hd ca  K_7) rfl rfl (Nat.le_of_ble_eq_true rfl) (by omega) (by omega) (by omega) (q := 147) rfl (fun r9 h_11 hr9 => ?_)
      obtain ⟨er9, K_12, kp_13⟩ := hr9
      subst er9
      have Kp_15 := pl_kp Kp_10 K_7 kp_13
      have kq_14 : kp h h_11 [k, sk] := kp_mono (kp_tr kq_9 kp_13) (by simp)
      show aw G 6 M 147 [.ref k, .int act, .int op, .int ab, .long (rk_top (s)), .retAddr 0] [.long (rk_top (rk_drop (s))), .int act, .ref k, .ref k] h_11 0 0
      refine aw_lload C dX4_reckonStep_147 rfl (q := 149) rfl ?_
      refine cvX4_80_4 (As := [.int act, .long (rk_top (rk_drop (s))), .long (rk_top (s))]) (rest := [.ref k]) C B dX4_reckonStep_149 K_12.1 (c_combine G M.2.1 h_11 (d + 1) k pl sk (rk_drop (rk_drop (s))) hd ca act (rk_top (rk_drop (s))) (rk_top (s)) K_12) rfl rfl (Nat.le_of_ble_eq_true rfl) (by omega) (by omega) (by omega) (q := 152) rfl (fun r9 h_16 hr9 => ?_)
      obtain ⟨er9, K_17, kp_18⟩ := hr9
      subst er9
      have Kp_20 := pl_kp Kp_15 K_12 kp_18
      have kq_19 : kp h h_16 [k, sk] := kp_mono (kp_tr kq_14 kp_18) (by simp)
      show aw G 6 M 152 [.ref k, .int act, .int op, .int ab, .long (rk_top (s)), .retAddr 0] [.long ((rk_comb act (rk_top (rk_drop (s))) (rk_top (s))).1), .ref k] h_16 0 0
      refine cvX4_66_4 (As := [.long ((rk_comb act (rk_top (rk_drop (s))) (rk_top (s))).1)]) (rest := []) C B dX4_reckonStep_152 K_17.1 (c_push G M.2.1 h_16 (d + 1) k pl sk (rk_drop (rk_drop (s))) hd (if (rk_comb act (rk_top (rk_drop (s))) (rk_top (s))).2 then 1 else ca) ((rk_comb act (rk_top (rk_drop (s))) (rk_top (s))).1) K_17) rfl rfl (Nat.le_of_ble_eq_true rfl) (by omega) (by omega) (by omega) (q := 155) rfl (fun r9 h_21 hr9 => ?_)
      obtain ⟨er9, K_22, kp_23⟩ := hr9
      subst er9
      have Kp_25 := pl_kp Kp_20 K_17 kp_23
      have kq_24 : kp h h_21 [k, sk] := kp_mono (kp_tr kq_19 kp_23) (by simp)
      show aw G 6 M 155 [.ref k, .int act, .int op, .int ab, .long (rk_top (s)), .retAddr 0] [] h_21 0 0
      refine aw_goto (q := 172) C dX4_reckonStep_155 (by decide) ?_
      refine aw_vret C E dX4_reckonStep_172 (Nat.le_refl _) (Nat.le_refl _) ?_
      have e : rk_step I F c act op ab s ca = (rk_push (rk_drop (rk_drop (s))) ((rk_comb act (rk_top (rk_drop (s))) (rk_top (s))).1), if (rk_comb act (rk_top (rk_drop (s))) (rk_top (s))).2 then 1 else ca) := by unfold rk_step; rw [if_neg (by rw [e_42]; decide), if_pos (by rw [e_42]; decide)]
      rw [e]; exact ⟨rfl, K_22, kq_24⟩
    ·
      by_cases e_43 : act = 43
      ·
        refine aw_lookup (off := 133) (q := 134) C dX4_reckonStep_1 (by decide) (by rw [e_43]; decide) (by decide) ?_
        refine aw_aload_n C dX4_reckonStep_134 rfl rfl (q := 135) rfl ?_
        refine cvX4_54_4 (As := []) (rest := []) C B dX4_reckonStep_135 K.1 (c_pop G M.2.1 h (d + 1) k pl sk (s) hd ca  K) rfl rfl (Nat.le_of_ble_eq_true rfl) (by omega) (by omega) (by omega) (q := 138) rfl (fun r9 h_26 hr9 => ?_)
        obtain ⟨er9, K_27, kp_28⟩ := hr9
        subst er9
        have Kp_30 := pl_kp Kp K kp_28
        have kq_29 : kp h h_26 [k, sk] := kp_mono (kp_tr (kp_cons k (kp_cons sk kp_rf)) kp_28) (by simp)
        show aw G 6 M 138 [.ref k, .int act, .int op, .int ab, .retAddr 0, .retAddr 0] [.long (rk_top (s))] h_26 0 0
        refine aw_lstore (ls' := [.ref k, .int act, .int op, .int ab, .long (rk_top (s)), .retAddr 0]) C dX4_reckonStep_138 (by decide) rfl (q := 140) rfl ?_
        refine aw_aload_n C dX4_reckonStep_140 rfl rfl (q := 141) rfl ?_
        refine aw_aload_n C dX4_reckonStep_141 rfl rfl (q := 142) rfl ?_
        refine aw_iload_n C dX4_reckonStep_142 rfl rfl (q := 143) rfl ?_
        refine aw_aload_n C dX4_reckonStep_143 rfl rfl (q := 144) rfl ?_
        refine cvX4_54_4 (As := []) (rest := [.int act, .ref k, .ref k]) C B dX4_reckonStep_144 K_27.1 (c_pop G M.2.1 h_26 (d + 1) k pl sk (rk_drop (s)) hd ca  K_27) rfl rfl (Nat.le_of_ble_eq_true rfl) (by omega) (by omega) (by omega) (q := 147) rfl (fun r9 h_31 hr9 => ?_)
        obtain ⟨er9, K_32, kp_33⟩ := hr9
        subst er9
        have Kp_35 := pl_kp Kp_30 K_27 kp_33
        have kq_34 : kp h h_31 [k, sk] := kp_mono (kp_tr kq_29 kp_33) (by simp)
        show aw G 6 M 147 [.ref k, .int act, .int op, .int ab, .long (rk_top (s)), .retAddr 0] [.long (rk_top (rk_drop (s))), .int act, .ref k, .ref k] h_31 0 0
        refine aw_lload C dX4_reckonStep_147 rfl (q := 149) rfl ?_
        refine cvX4_80_4 (As := [.int act, .long (rk_top (rk_drop (s))), .long (rk_top (s))]) (rest := [.ref k]) C B dX4_reckonStep_149 K_32.1 (c_combine G M.2.1 h_31 (d + 1) k pl sk (rk_drop (rk_drop (s))) hd ca act (rk_top (rk_drop (s))) (rk_top (s)) K_32) rfl rfl (Nat.le_of_ble_eq_true rfl) (by omega) (by omega) (by omega) (q := 152) rfl (fun r9 h_36 hr9 => ?_)
        obtain ⟨er9, K_37, kp_38⟩ := hr9
        subst er9
        have Kp_40 := pl_kp Kp_35 K_32 kp_38
        have kq_39 : kp h h_36 [k, sk] := kp_mono (kp_tr kq_34 kp_38) (by simp)
        show aw G 6 M 152 [.ref k, .int act, .int op, .int ab, .long (rk_top (s)), .retAddr 0] [.long ((rk_comb act (rk_top (rk_drop (s))) (rk_top (s))).1), .ref k] h_36 0 0
        refine cvX4_66_4 (As := [.long ((rk_comb act (rk_top (rk_drop (s))) (rk_top (s))).1)]) (rest := []) C B dX4_reckonStep_152 K_37.1 (c_push G M.2.1 h_36 (d + 1) k pl sk (rk_drop (rk_drop (s))) hd (if (rk_comb act (rk_top (rk_drop (s))) (rk_top (s))).2 then 1 else ca) ((rk_comb act (rk_top (rk_drop (s))) (rk_top (s))).1) K_37) rfl rfl (Nat.le_of_ble_eq_true rfl) (by omega) (by omega) (by omega) (q := 155) rfl (fun r9 h_41 hr9 => ?_)
        obtain ⟨er9, K_42, kp_43⟩ := hr9
        subst er9
        have Kp_45 := pl_kp Kp_40 K_37 kp_43
        have kq_44 : kp h h_41 [k, sk] := kp_mono (kp_tr kq_39 kp_43) (by simp)
        show aw G 6 M 155 [.ref k, .int act, .int op, .int ab, .long (rk_top (s)), .retAddr 0] [] h_41 0 0
        refine aw_goto (q := 172) C dX4_reckonStep_155 (by decide) ?_
        refine aw_vret C E dX4_reckonStep_172 (Nat.le_refl _) (Nat.le_refl _) ?_
        have e : rk_step I F c act op ab s ca = (rk_push (rk_drop (rk_drop (s))) ((rk_comb act (rk_top (rk_drop (s))) (rk_top (s))).1), if (rk_comb act (rk_top (rk_drop (s))) (rk_top (s))).2 then 1 else ca) := by unfold rk_step; rw [if_neg (by rw [e_43]; decide), if_pos (by rw [e_43]; decide)]
        rw [e]; exact ⟨rfl, K_42, kq_44⟩
      ·
        by_cases e_45 : act = 45
        ·
          refine aw_lookup (off := 133) (q := 134) C dX4_reckonStep_1 (by decide) (by rw [e_45]; decide) (by decide) ?_
          refine aw_aload_n C dX4_reckonStep_134 rfl rfl (q := 135) rfl ?_
          refine cvX4_54_4 (As := []) (rest := []) C B dX4_reckonStep_135 K.1 (c_pop G M.2.1 h (d + 1) k pl sk (s) hd ca  K) rfl rfl (Nat.le_of_ble_eq_true rfl) (by omega) (by omega) (by omega) (q := 138) rfl (fun r9 h_46 hr9 => ?_)
          obtain ⟨er9, K_47, kp_48⟩ := hr9
          subst er9
          have Kp_50 := pl_kp Kp K kp_48
          have kq_49 : kp h h_46 [k, sk] := kp_mono (kp_tr (kp_cons k (kp_cons sk kp_rf)) kp_48) (by simp)
          show aw G 6 M 138 [.ref k, .int act, .int op, .int ab, .retAddr 0, .retAddr 0] [.long (rk_top (s))] h_46 0 0
          refine aw_lstore (ls' := [.ref k, .int act, .int op, .int ab, .long (rk_top (s)), .retAddr 0]) C dX4_reckonStep_138 (by decide) rfl (q := 140) rfl ?_
          refine aw_aload_n C dX4_reckonStep_140 rfl rfl (q := 141) rfl ?_
          refine aw_aload_n C dX4_reckonStep_141 rfl rfl (q := 142) rfl ?_
          refine aw_iload_n C dX4_reckonStep_142 rfl rfl (q := 143) rfl ?_
          refine aw_aload_n C dX4_reckonStep_143 rfl rfl (q := 144) rfl ?_
          refine cvX4_54_4 (As := []) (rest := [.int act, .ref k, .ref k]) C B dX4_reckonStep_144 K_47.1 (c_pop G M.2.1 h_46 (d + 1) k pl sk (rk_drop (s)) hd ca  K_47) rfl rfl (Nat.le_of_ble_eq_true rfl) (by omega) (by omega) (by omega) (q := 147) rfl (fun r9 h_51 hr9 => ?_)
          obtain ⟨er9, K_52, kp_53⟩ := hr9
          subst er9
          have Kp_55 := pl_kp Kp_50 K_47 kp_53
          have kq_54 : kp h h_51 [k, sk] := kp_mono (kp_tr kq_49 kp_53) (by simp)
          show aw G 6 M 147 [.ref k, .int act, .int op, .int ab, .long (rk_top (s)), .retAddr 0] [.long (rk_top (rk_drop (s))), .int act, .ref k, .ref k] h_51 0 0
          refine aw_lload C dX4_reckonStep_147 rfl (q := 149) rfl ?_
          refine cvX4_80_4 (As := [.int act, .long (rk_top (rk_drop (s))), .long (rk_top (s))]) (rest := [.ref k]) C B dX4_reckonStep_149 K_52.1 (c_combine G M.2.1 h_51 (d + 1) k pl sk (rk_drop (rk_drop (s))) hd ca act (rk_top (rk_drop (s))) (rk_top (s)) K_52) rfl rfl (Nat.le_of_ble_eq_true rfl) (by omega) (by omega) (by omega) (q := 152) rfl (fun r9 h_56 hr9 => ?_)
          obtain ⟨er9, K_57, kp_58⟩ := hr9
          subst er9
          have Kp_60 := pl_kp Kp_55 K_52 kp_58
          have kq_59 : kp h h_56 [k, sk] := kp_mono (kp_tr kq_54 kp_58) (by simp)
          show aw G 6 M 152 [.ref k, .int act, .int op, .int ab, .long (rk_top (s)), .retAddr 0] [.long ((rk_comb act (rk_top (rk_drop (s))) (rk_top (s))).1), .ref k] h_56 0 0
          refine cvX4_66_4 (As := [.long ((rk_comb act (rk_top (rk_drop (s))) (rk_top (s))).1)]) (rest := []) C B dX4_reckonStep_152 K_57.1 (c_push G M.2.1 h_56 (d + 1) k pl sk (rk_drop (rk_drop (s))) hd (if (rk_comb act (rk_top (rk_drop (s))) (rk_top (s))).2 then 1 else ca) ((rk_comb act (rk_top (rk_drop (s))) (rk_top (s))).1) K_57) rfl rfl (Nat.le_of_ble_eq_true rfl) (by omega) (by omega) (by omega) (q := 155) rfl (fun r9 h_61 hr9 => ?_)
          obtain ⟨er9, K_62, kp_63⟩ := hr9
          subst er9
          have Kp_65 := pl_kp Kp_60 K_57 kp_63
          have kq_64 : kp h h_61 [k, sk] := kp_mono (kp_tr kq_59 kp_63) (by simp)
          show aw G 6 M 155 [.ref k, .int act, .int op, .int ab, .long (rk_top (s)), .retAddr 0] [] h_61 0 0
          refine aw_goto (q := 172) C dX4_reckonStep_155 (by decide) ?_
          refine aw_vret C E dX4_reckonStep_172 (Nat.le_refl _) (Nat.le_refl _) ?_
          have e : rk_step I F c act op ab s ca = (rk_push (rk_drop (rk_drop (s))) ((rk_comb act (rk_top (rk_drop (s))) (rk_top (s))).1), if (rk_comb act (rk_top (rk_drop (s))) (rk_top (s))).2 then 1 else ca) := by unfold rk_step; rw [if_neg (by rw [e_45]; decide), if_pos (by rw [e_45]; decide)]
          rw [e]; exact ⟨rfl, K_62, kq_64⟩
        ·
          by_cases e_47 : act = 47
          ·
            refine aw_lookup (off := 133) (q := 134) C dX4_reckonStep_1 (by decide) (by rw [e_47]; decide) (by decide) ?_
            refine aw_aload_n C dX4_reckonStep_134 rfl rfl (q := 135) rfl ?_
            refine cvX4_54_4 (As := []) (rest := []) C B dX4_reckonStep_135 K.1 (c_pop G M.2.1 h (d + 1) k pl sk (s) hd ca  K) rfl rfl (Nat.le_of_ble_eq_true rfl) (by omega) (by omega) (by omega) (q := 138) rfl (fun r9 h_66 hr9 => ?_)
            obtain ⟨er9, K_67, kp_68⟩ := hr9
            subst er9
            have Kp_70 := pl_kp Kp K kp_68
            have kq_69 : kp h h_66 [k, sk] := kp_mono (kp_tr (kp_cons k (kp_cons sk kp_rf)) kp_68) (by simp)
            show aw G 6 M 138 [.ref k, .int act, .int op, .int ab, .retAddr 0, .retAddr 0] [.long (rk_top (s))] h_66 0 0
            refine aw_lstore (ls' := [.ref k, .int act, .int op, .int ab, .long (rk_top (s)), .retAddr 0]) C dX4_reckonStep_138 (by decide) rfl (q := 140) rfl ?_
            refine aw_aload_n C dX4_reckonStep_140 rfl rfl (q := 141) rfl ?_
            refine aw_aload_n C dX4_reckonStep_141 rfl rfl (q := 142) rfl ?_
            refine aw_iload_n C dX4_reckonStep_142 rfl rfl (q := 143) rfl ?_
            refine aw_aload_n C dX4_reckonStep_143 rfl rfl (q := 144) rfl ?_
            refine cvX4_54_4 (As := []) (rest := [.int act, .ref k, .ref k]) C B dX4_reckonStep_144 K_67.1 (c_pop G M.2.1 h_66 (d + 1) k pl sk (rk_drop (s)) hd ca  K_67) rfl rfl (Nat.le_of_ble_eq_true rfl) (by omega) (by omega) (by omega) (q := 147) rfl (fun r9 h_71 hr9 => ?_)
            obtain ⟨er9, K_72, kp_73⟩ := hr9
            subst er9
            have Kp_75 := pl_kp Kp_70 K_67 kp_73
            have kq_74 : kp h h_71 [k, sk] := kp_mono (kp_tr kq_69 kp_73) (by simp)
            show aw G 6 M 147 [.ref k, .int act, .int op, .int ab, .long (rk_top (s)), .retAddr 0] [.long (rk_top (rk_drop (s))), .int act, .ref k, .ref k] h_71 0 0
            refine aw_lload C dX4_reckonStep_147 rfl (q := 149) rfl ?_
            refine cvX4_80_4 (As := [.int act, .long (rk_top (rk_drop (s))), .long (rk_top (s))]) (rest := [.ref k]) C B dX4_reckonStep_149 K_72.1 (c_combine G M.2.1 h_71 (d + 1) k pl sk (rk_drop (rk_drop (s))) hd ca act (rk_top (rk_drop (s))) (rk_top (s)) K_72) rfl rfl (Nat.le_of_ble_eq_true rfl) (by omega) (by omega) (by omega) (q := 152) rfl (fun r9 h_76 hr9 => ?_)
            obtain ⟨er9, K_77, kp_78⟩ := hr9
            subst er9
            have Kp_80 := pl_kp Kp_75 K_72 kp_78
            have kq_79 : kp h h_76 [k, sk] := kp_mono (kp_tr kq_74 kp_78) (by simp)
            show aw G 6 M 152 [.ref k, .int act, .int op, .int ab, .long (rk_top (s)), .retAddr 0] [.long ((rk_comb act (rk_top (rk_drop (s))) (rk_top (s))).1), .ref k] h_76 0 0
            refine cvX4_66_4 (As := [.long ((rk_comb act (rk_top (rk_drop (s))) (rk_top (s))).1)]) (rest := []) C B dX4_reckonStep_152 K_77.1 (c_push G M.2.1 h_76 (d + 1) k pl sk (rk_drop (rk_drop (s))) hd (if (rk_comb act (rk_top (rk_drop (s))) (rk_top (s))).2 then 1 else ca) ((rk_comb act (rk_top (rk_drop (s))) (rk_top (s))).1) K_77) rfl rfl (Nat.le_of_ble_eq_true rfl) (by omega) (by omega) (by omega) (q := 155) rfl (fun r9 h_81 hr9 => ?_)
            obtain ⟨er9, K_82, kp_83⟩ := hr9
            subst er9
            have Kp_85 := pl_kp Kp_80 K_77 kp_83
            have kq_84 : kp h h_81 [k, sk] := kp_mono (kp_tr kq_79 kp_83) (by simp)
            show aw G 6 M 155 [.ref k, .int act, .int op, .int ab, .long (rk_top (s)), .retAddr 0] [] h_81 0 0
            refine aw_goto (q := 172) C dX4_reckonStep_155 (by decide) ?_
            refine aw_vret C E dX4_reckonStep_172 (Nat.le_refl _) (Nat.le_refl _) ?_
            have e : rk_step I F c act op ab s ca = (rk_push (rk_drop (rk_drop (s))) ((rk_comb act (rk_top (rk_drop (s))) (rk_top (s))).1), if (rk_comb act (rk_top (rk_drop (s))) (rk_top (s))).2 then 1 else ca) := by unfold rk_step; rw [if_neg (by rw [e_47]; decide), if_pos (by rw [e_47]; decide)]
            rw [e]; exact ⟨rfl, K_82, kq_84⟩
          ·
            by_cases e_99 : act = 99
            ·
              refine aw_lookup (off := 96) (q := 97) C dX4_reckonStep_1 (by decide) (by rw [e_99]; decide) (by decide) ?_
              refine aw_aload_n C dX4_reckonStep_97 rfl rfl (q := 98) rfl ?_
              refine aw_aload_n C dX4_reckonStep_98 rfl rfl (q := 99) rfl ?_
              refine gfX4_15_4 (v := .ref pl) C dX4_reckonStep_99 K.1 rfl (q := 102) rfl ?_
              refine aw_iload_n C dX4_reckonStep_102 rfl rfl (q := 103) rfl ?_
              refine aw_aload_n C dX4_reckonStep_103 rfl rfl (q := 104) rfl ?_
              refine cvX4_54_4 (As := []) (rest := [.int op, .ref pl, .ref k]) C B dX4_reckonStep_104 K.1 (c_pop G M.2.1 h (d + 1) k pl sk (s) hd ca  K) rfl rfl (Nat.le_of_ble_eq_true rfl) (by omega) (by omega) (by omega) (q := 107) rfl (fun r9 h_86 hr9 => ?_)
              obtain ⟨er9, K_87, kp_88⟩ := hr9
              subst er9
              have Kp_90 := pl_kp Kp K kp_88
              have kq_89 : kp h h_86 [k, sk] := kp_mono (kp_tr (kp_cons k (kp_cons sk kp_rf)) kp_88) (by simp)
              show aw G 6 M 107 [.ref k, .int act, .int op, .int ab, .retAddr 0, .retAddr 0] [.long (rk_top (s)), .int op, .ref pl, .ref k] h_86 0 0
              refine aw_iconst (v := 0) C dX4_reckonStep_107 (by decide) (q := 108) rfl ?_
              refine aw_iload_n C dX4_reckonStep_108 rfl rfl (q := 109) rfl ?_
              refine cvX4_70_1 (As := [.int op, .long (rk_top (s)), .int 0, .int ab]) (rest := [.ref k]) C B dX4_reckonStep_109 Kp_90.1 (c_worstIn G M.2.1 h_86 (d + 1) pl A I F c op 0 ab (rk_top (s)) Kp_90) rfl rfl (Nat.le_of_ble_eq_true rfl) (by omega) (by omega) (by omega) (q := 112) rfl (fun r9 h9 hr9 => ?_)
              obtain ⟨e9, er9⟩ := hr9
              subst er9; rw [e9]
              show aw G 6 M 112 [.ref k, .int act, .int op, .int ab, .retAddr 0, .retAddr 0] [.long (pl_worst F op (rk_top (s)) 0 ab c c), .ref k] h_86 0 0
              refine cvX4_66_4 (As := [.long (pl_worst F op (rk_top (s)) 0 ab c c)]) (rest := []) C B dX4_reckonStep_112 K_87.1 (c_push G M.2.1 h_86 (d + 1) k pl sk (rk_drop (s)) hd ca (pl_worst F op (rk_top (s)) 0 ab c c) K_87) rfl rfl (Nat.le_of_ble_eq_true rfl) (by omega) (by omega) (by omega) (q := 115) rfl (fun r9 h_91 hr9 => ?_)
              obtain ⟨er9, K_92, kp_93⟩ := hr9
              subst er9
              have Kp_95 := pl_kp Kp_90 K_87 kp_93
              have kq_94 : kp h h_91 [k, sk] := kp_mono (kp_tr kq_89 kp_93) (by simp)
              show aw G 6 M 115 [.ref k, .int act, .int op, .int ab, .retAddr 0, .retAddr 0] [] h_91 0 0
              refine aw_goto (q := 172) C dX4_reckonStep_115 (by decide) ?_
              refine aw_vret C E dX4_reckonStep_172 (Nat.le_refl _) (Nat.le_refl _) ?_
              have e : rk_step I F c act op ab s ca = (rk_push (rk_drop (s)) (pl_worst F op (rk_top (s)) 0 ab c c), ca) := by unfold rk_step; rw [if_neg (by rw [e_99]; decide), if_neg (by rw [e_99]; decide), if_pos e_99]
              rw [e]; exact ⟨rfl, K_92, kq_94⟩
            ·
              by_cases e_102 : act = 102
              ·
                refine aw_lookup (off := 117) (q := 118) C dX4_reckonStep_1 (by decide) (by rw [e_102]; decide) (by decide) ?_
                refine aw_aload_n C dX4_reckonStep_118 rfl rfl (q := 119) rfl ?_
                refine aw_aload_n C dX4_reckonStep_119 rfl rfl (q := 120) rfl ?_
                refine aw_aload_n C dX4_reckonStep_120 rfl rfl (q := 121) rfl ?_
                refine cvX4_54_4 (As := []) (rest := [.ref k, .ref k]) C B dX4_reckonStep_121 K.1 (c_pop G M.2.1 h (d + 1) k pl sk (s) hd ca  K) rfl rfl (Nat.le_of_ble_eq_true rfl) (by omega) (by omega) (by omega) (q := 124) rfl (fun r9 h_96 hr9 => ?_)
                obtain ⟨er9, K_97, kp_98⟩ := hr9
                subst er9
                have Kp_100 := pl_kp Kp K kp_98
                have kq_99 : kp h h_96 [k, sk] := kp_mono (kp_tr (kp_cons k (kp_cons sk kp_rf)) kp_98) (by simp)
                show aw G 6 M 124 [.ref k, .int act, .int op, .int ab, .retAddr 0, .retAddr 0] [.long (rk_top (s)), .ref k, .ref k] h_96 0 0
                refine aw_iload_n C dX4_reckonStep_124 rfl rfl (q := 125) rfl ?_
                refine cvX4_76_4 (As := [.long (rk_top (s)), .int ab]) (rest := [.ref k]) C B dX4_reckonStep_125 K_97.1 (c_faultsOn G M.2.1 h_96 (d + 1) k pl sk (rk_drop (s)) hd ca A I F c (rk_top (s)) ab K_97 Kp_100) rfl rfl (Nat.le_of_ble_eq_true rfl) (by omega) (by omega) (by omega) (q := 128) rfl (fun r9 h_101 hr9 => ?_)
                obtain ⟨er9, K_102, kp_103⟩ := hr9
                subst er9
                have Kp_105 := pl_kp Kp_100 K_97 kp_103
                have kq_104 : kp h h_101 [k, sk] := kp_mono (kp_tr kq_99 kp_103) (by simp)
                show aw G 6 M 128 [.ref k, .int act, .int op, .int ab, .retAddr 0, .retAddr 0] [.long ((rk_fo F c (rk_top (s)) ab).1), .ref k] h_101 0 0
                refine cvX4_66_4 (As := [.long ((rk_fo F c (rk_top (s)) ab).1)]) (rest := []) C B dX4_reckonStep_128 K_102.1 (c_push G M.2.1 h_101 (d + 1) k pl sk (rk_drop (s)) hd (if (rk_fo F c (rk_top (s)) ab).2 then 2 else ca) ((rk_fo F c (rk_top (s)) ab).1) K_102) rfl rfl (Nat.le_of_ble_eq_true rfl) (by omega) (by omega) (by omega) (q := 131) rfl (fun r9 h_106 hr9 => ?_)
                obtain ⟨er9, K_107, kp_108⟩ := hr9
                subst er9
                have Kp_110 := pl_kp Kp_105 K_102 kp_108
                have kq_109 : kp h h_106 [k, sk] := kp_mono (kp_tr kq_104 kp_108) (by simp)
                show aw G 6 M 131 [.ref k, .int act, .int op, .int ab, .retAddr 0, .retAddr 0] [] h_106 0 0
                refine aw_goto (q := 172) C dX4_reckonStep_131 (by decide) ?_
                refine aw_vret C E dX4_reckonStep_172 (Nat.le_refl _) (Nat.le_refl _) ?_
                have e : rk_step I F c act op ab s ca = (rk_push (rk_drop (s)) ((rk_fo F c (rk_top (s)) ab).1), if (rk_fo F c (rk_top (s)) ab).2 then 2 else ca) := by unfold rk_step; rw [if_neg (by rw [e_102]; decide), if_neg (by rw [e_102]; decide), if_neg (by rw [e_102]; decide), if_pos e_102]
                rw [e]; exact ⟨rfl, K_107, kq_109⟩
              ·
                by_cases e_126 : act = 126
                ·
                  refine aw_lookup (off := 84) (q := 85) C dX4_reckonStep_1 (by decide) (by rw [e_126]; decide) (by decide) ?_
                  refine aw_aload_n C dX4_reckonStep_85 rfl rfl (q := 86) rfl ?_
                  refine aw_aload_n C dX4_reckonStep_86 rfl rfl (q := 87) rfl ?_
                  refine cvX4_54_4 (As := []) (rest := [.ref k]) C B dX4_reckonStep_87 K.1 (c_pop G M.2.1 h (d + 1) k pl sk (s) hd ca  K) rfl rfl (Nat.le_of_ble_eq_true rfl) (by omega) (by omega) (by omega) (q := 90) rfl (fun r9 h_111 hr9 => ?_)
                  obtain ⟨er9, K_112, kp_113⟩ := hr9
                  subst er9
                  have Kp_115 := pl_kp Kp K kp_113
                  have kq_114 : kp h h_111 [k, sk] := kp_mono (kp_tr (kp_cons k (kp_cons sk kp_rf)) kp_113) (by simp)
                  show aw G 6 M 90 [.ref k, .int act, .int op, .int ab, .retAddr 0, .retAddr 0] [.long (rk_top (s)), .ref k] h_111 0 0
                  refine aw_lneg C dX4_reckonStep_90 (q := 91) rfl ?_
                  refine cvX4_66_4 (As := [.long (-(rk_top (s)))]) (rest := []) C B dX4_reckonStep_91 K_112.1 (c_push G M.2.1 h_111 (d + 1) k pl sk (rk_drop (s)) hd ca (-(rk_top (s))) K_112) rfl rfl (Nat.le_of_ble_eq_true rfl) (by omega) (by omega) (by omega) (q := 94) rfl (fun r9 h_116 hr9 => ?_)
                  obtain ⟨er9, K_117, kp_118⟩ := hr9
                  subst er9
                  have Kp_120 := pl_kp Kp_115 K_112 kp_118
                  have kq_119 : kp h h_116 [k, sk] := kp_mono (kp_tr kq_114 kp_118) (by simp)
                  show aw G 6 M 94 [.ref k, .int act, .int op, .int ab, .retAddr 0, .retAddr 0] [] h_116 0 0
                  refine aw_goto (q := 172) C dX4_reckonStep_94 (by decide) ?_
                  refine aw_vret C E dX4_reckonStep_172 (Nat.le_refl _) (Nat.le_refl _) ?_
                  have e : rk_step I F c act op ab s ca = (rk_push (rk_drop (s)) (-(rk_top (s))), ca) := by unfold rk_step; rw [if_neg (by rw [e_126]; decide), if_neg (by rw [e_126]; decide), if_neg (by rw [e_126]; decide), if_neg (by rw [e_126]; decide), if_pos e_126]
                  rw [e]; exact ⟨rfl, K_117, kq_119⟩
                ·
                  have n_35 : ¬ act.toInt = 35 := fun z => e_35 (Int32.toInt_inj.mp (by rw [z]; rfl))
                  have n_42 : ¬ act.toInt = 42 := fun z => e_42 (Int32.toInt_inj.mp (by rw [z]; rfl))
                  have n_43 : ¬ act.toInt = 43 := fun z => e_43 (Int32.toInt_inj.mp (by rw [z]; rfl))
                  have n_45 : ¬ act.toInt = 45 := fun z => e_45 (Int32.toInt_inj.mp (by rw [z]; rfl))
                  have n_47 : ¬ act.toInt = 47 := fun z => e_47 (Int32.toInt_inj.mp (by rw [z]; rfl))
                  have n_99 : ¬ act.toInt = 99 := fun z => e_99 (Int32.toInt_inj.mp (by rw [z]; rfl))
                  have n_102 : ¬ act.toInt = 102 := fun z => e_102 (Int32.toInt_inj.mp (by rw [z]; rfl))
                  have n_126 : ¬ act.toInt = 126 := fun z => e_126 (Int32.toInt_inj.mp (by rw [z]; rfl))
                  refine aw_lookup (off := 157) (q := 158) C dX4_reckonStep_1 (by decide) (by show Op.lookupswitch.offset [(35, 75), (42, 133), (43, 133), (45, 133), (47, 133), (99, 96), (102, 117), (126, 84)] 157 _ = _; rw [Op.lookupswitch.offset_cons, if_neg (Ne.symm n_35), Op.lookupswitch.offset_cons, if_neg (Ne.symm n_42), Op.lookupswitch.offset_cons, if_neg (Ne.symm n_43), Op.lookupswitch.offset_cons, if_neg (Ne.symm n_45), Op.lookupswitch.offset_cons, if_neg (Ne.symm n_47), Op.lookupswitch.offset_cons, if_neg (Ne.symm n_99), Op.lookupswitch.offset_cons, if_neg (Ne.symm n_102), Op.lookupswitch.offset_cons, if_neg (Ne.symm n_126)]; rfl) (by decide) ?_
                  refine aw_aload_n C dX4_reckonStep_158 rfl rfl (q := 159) rfl ?_
                  refine aw_aload_n C dX4_reckonStep_159 rfl rfl (q := 160) rfl ?_
                  refine gfX4_15_4 (v := .ref pl) C dX4_reckonStep_160 K.1 rfl (q := 163) rfl ?_
                  refine aw_iload_n C dX4_reckonStep_163 rfl rfl (q := 164) rfl ?_
                  refine aw_iload_n C dX4_reckonStep_164 rfl rfl (q := 165) rfl ?_
                  refine aw_iload_n C dX4_reckonStep_165 rfl rfl (q := 166) rfl ?_
                  refine cvX4_84_1 (As := [.int act, .int op, .int ab]) (rest := [.ref k]) C B dX4_reckonStep_166 Kp.1 (c_measure G M.2.1 h (d + 1) pl A I F c act op ab Kp) rfl rfl (Nat.le_of_ble_eq_true rfl) (by omega) (by omega) (by omega) (q := 169) rfl (fun r9 h9 hr9 => ?_)
                  obtain ⟨e9, er9⟩ := hr9
                  subst er9; rw [e9]
                  show aw G 6 M 169 [.ref k, .int act, .int op, .int ab, .retAddr 0, .retAddr 0] [.long (pl_measure I F act op ab c), .ref k] h 0 0
                  refine cvX4_66_4 (As := [.long (pl_measure I F act op ab c)]) (rest := []) C B dX4_reckonStep_169 K.1 (c_push G M.2.1 h (d + 1) k pl sk (s) hd ca (pl_measure I F act op ab c) K) rfl rfl (Nat.le_of_ble_eq_true rfl) (by omega) (by omega) (by omega) (q := 172) rfl (fun r9 h_121 hr9 => ?_)
                  obtain ⟨er9, K_122, kp_123⟩ := hr9
                  subst er9
                  have Kp_125 := pl_kp Kp K kp_123
                  have kq_124 : kp h h_121 [k, sk] := kp_mono (kp_tr (kp_cons k (kp_cons sk kp_rf)) kp_123) (by simp)
                  show aw G 6 M 172 [.ref k, .int act, .int op, .int ab, .retAddr 0, .retAddr 0] [] h_121 0 0
                  refine aw_vret C E dX4_reckonStep_172 (Nat.le_refl _) (Nat.le_refl _) ?_
                  have e : rk_step I F c act op ab s ca = (rk_push (s) (pl_measure I F act op ab c), ca) := by unfold rk_step; rw [if_neg e_35, if_neg (by rintro (z | z | z | z); exact e_42 z; exact e_43 z; exact e_45 z; exact e_47 z), if_neg e_99, if_neg e_102, if_neg e_126]
                  rw [e]; exact ⟨rfl, K_122, kq_124⟩
