/-! The reference: between, compares, worst -/
def mo_bet (s : md_S) (g : Int32) (a b : Int64) : Int64 × md_S := if g = 15 then (if lg_cmp b 0 = 0 then (0, (upd s.1 29 1, s.2.1, s.2.2)) else (a / b, (upd s.1 29 0, s.2.1, s.2.2))) else if g = 12 then (a + b, s) else if g = 13 then (a - b, s) else (a * b, s)
def mo_cmp (g : Int32) (a b : Int64) : Prop := if g = 60 then lg_cmp a b < 0 else if g = 62 then 0 < lg_cmp a b else if g = 61 then lg_cmp a b = 0 else ¬ lg_cmp a b = 0
theorem mo_n0 {b : Int64} (h : ¬ lg_cmp b 0 = 0) : ¬ b = 0 := fun z => h (by rw [z]; decide)
set_option maxHeartbeats 4000000 in
set_option maxRecDepth 100000 in
theorem m_between (G : ac_G) (l : Launch) (o : Nat) (md : Nat → Nat) (hm : md_inj md) (h : ac_H) (d : Nat) (s : md_S) (K : md_ok h o md s) (g : Int32) (a b : Int64) : ac_Met G l yX9_between cX9_between 6 (some .long) d 0 0 [.ref o, .int g, .long a, .long b] h (fun r9 h9 => r9 = some (.long (mo_bet s g a b).1) ∧ md_ok h9 o md (mo_bet s g a b).2 ∧ kp h h9 (md_L o md)) := by
  refine ac_of (ls := [.ref o, .int g, .long a, .retAddr 0, .long b, .retAddr 0]) (by decide +kernel) rfl (Nat.le_of_ble_eq_true rfl) (fun M hl C B E hnm => ?_)
  refine aw_iload_n C dX9_between_0 rfl rfl (q := 1) rfl ?_
  refine aw_bipush (v := 15) C dX9_between_1 (by decide) (q := 3) rfl ?_
  refine aw_icmp_ne (t := 38) (q := 6) C dX9_between_3 (by decide) rfl (fun c_3 => ?_) (fun c_3 => ?_)
  ·
    refine aw_iload_n C dX9_between_38 rfl rfl (q := 39) rfl ?_
    refine aw_bipush (v := 12) C dX9_between_39 (by decide) (q := 41) rfl ?_
    refine aw_icmp_ne (t := 51) (q := 44) C dX9_between_41 (by decide) rfl (fun c_41 => ?_) (fun c_41 => ?_)
    ·
      refine aw_iload_n C dX9_between_51 rfl rfl (q := 52) rfl ?_
      refine aw_bipush (v := 13) C dX9_between_52 (by decide) (q := 54) rfl ?_
      refine aw_icmp_ne (t := 64) (q := 57) C dX9_between_54 (by decide) rfl (fun c_54 => ?_) (fun c_54 => ?_)
      ·
        refine aw_lload_n C dX9_between_64 rfl rfl (q := 65) rfl ?_
        refine aw_lload C dX9_between_65 rfl (q := 67) rfl ?_
        refine aw_lmul C dX9_between_67 (q := 68) rfl ?_
        refine aw_lret C E dX9_between_68 (Nat.le_refl _) (Nat.le_refl _) ?_
        rw [show mo_bet s g a b = (a * b, s) from by unfold mo_bet; rw [if_neg c_3, if_neg c_41, if_neg c_54]]
        exact ⟨rfl, K, (kp_mono kp_rf (by simp))⟩
      ·
        refine aw_lload_n C dX9_between_57 rfl rfl (q := 58) rfl ?_
        refine aw_lload C dX9_between_58 rfl (q := 60) rfl ?_
        refine aw_lsub C dX9_between_60 (q := 61) rfl ?_
        refine aw_goto (q := 68) C dX9_between_61 (by decide) ?_
        refine aw_lret C E dX9_between_68 (Nat.le_refl _) (Nat.le_refl _) ?_
        rw [show mo_bet s g a b = (a - b, s) from by unfold mo_bet; rw [if_neg c_3, if_neg c_41, if_pos c_54]]
        exact ⟨rfl, K, (kp_mono kp_rf (by simp))⟩
    ·
      refine aw_lload_n C dX9_between_44 rfl rfl (q := 45) rfl ?_
      refine aw_lload C dX9_between_45 rfl (q := 47) rfl ?_
      refine aw_ladd C dX9_between_47 (q := 48) rfl ?_
      refine aw_goto (q := 68) C dX9_between_48 (by decide) ?_
      refine aw_lret C E dX9_between_68 (Nat.le_refl _) (Nat.le_refl _) ?_
      rw [show mo_bet s g a b = (a + b, s) from by unfold mo_bet; rw [if_neg c_3, if_pos c_41]]
      exact ⟨rfl, K, (kp_mono kp_rf (by simp))⟩
  ·
    refine aw_aload_n C dX9_between_6 rfl rfl (q := 7) rfl ?_
    refine aw_lload C dX9_between_7 rfl (q := 9) rfl ?_
    refine aw_lconst (v := 0) C dX9_between_9 (by decide) (q := 10) rfl ?_
    refine aw_lcmp C dX9_between_10 (q := 11) rfl ?_
    refine aw_if_ne (t := 18) (q := 14) C dX9_between_11 (by decide) rfl (fun c_11 => ?_) (fun c_11 => ?_)
    ·
      refine aw_iconst (v := 0) C dX9_between_18 (by decide) (q := 19) rfl ?_
      refine pfX9_231_9 C dX9_between_19 K.1 rfl rfl (Nat.le_of_ble_eq_true rfl) (q := 22) rfl ?_
      show aw G 6 M 22 [.ref o, .int g, .long a, .retAddr 0, .long b, .retAddr 0] [] (ac_up h o (.inr (9, md_fs md ((upd s.1 29 0, s.2.1, s.2.2).1)))) 0 0
      obtain ⟨h_1, eh_1⟩ : ∃ z9, z9 = ac_up h o (.inr (9, md_fs md ((upd s.1 29 0, s.2.1, s.2.2).1))) := ⟨_, rfl⟩
      rw [← eh_1]
      have kpx_4 : kp h h_1 [o] := by rw [eh_1]; exact kp_up (kp_cons o kp_rf) _ _ (by simp)
      have K_2 : md_ok h_1 o md (upd s.1 29 0, s.2.1, s.2.2) := md_J (s := (s.1, s.2.1, s.2.2)) K (by rw [eh_1]; exact ac_up_s _ _ _) kpx_4
      have kq_3 : kp h h_1 (md_L o md) := kp_mono kpx_4 md_s0
      refine aw_lload C dX9_between_22 rfl (q := 24) rfl ?_
      refine aw_lconst (v := 0) C dX9_between_24 (by decide) (q := 25) rfl ?_
      refine aw_lcmp C dX9_between_25 (q := 26) rfl ?_
      refine aw_if_ne (t := 33) (q := 29) C dX9_between_26 (by decide) rfl (fun c_26 => ?_) (fun c_26 => absurd c_26 (c_11))
      refine aw_lload_n C dX9_between_33 rfl rfl (q := 34) rfl ?_
      refine aw_lload C dX9_between_34 rfl (q := 36) rfl ?_
      refine aw_ldiv C dX9_between_36 (mo_n0 c_26) (q := 37) rfl ?_
      refine aw_lret C E dX9_between_37 (Nat.le_refl _) (Nat.le_refl _) ?_
      rw [show mo_bet s g a b = (a / b, (upd s.1 29 0, s.2.1, s.2.2)) from by unfold mo_bet; rw [if_pos c_3, if_neg c_26]]
      exact ⟨rfl, K_2, kq_3⟩
    ·
      refine aw_iconst (v := 1) C dX9_between_14 (by decide) (q := 15) rfl ?_
      refine aw_goto (q := 19) C dX9_between_15 (by decide) ?_
      refine pfX9_231_9 C dX9_between_19 K.1 rfl rfl (Nat.le_of_ble_eq_true rfl) (q := 22) rfl ?_
      show aw G 6 M 22 [.ref o, .int g, .long a, .retAddr 0, .long b, .retAddr 0] [] (ac_up h o (.inr (9, md_fs md ((upd s.1 29 1, s.2.1, s.2.2).1)))) 0 0
      obtain ⟨h_5, eh_5⟩ : ∃ z9, z9 = ac_up h o (.inr (9, md_fs md ((upd s.1 29 1, s.2.1, s.2.2).1))) := ⟨_, rfl⟩
      rw [← eh_5]
      have kpx_8 : kp h h_5 [o] := by rw [eh_5]; exact kp_up (kp_cons o kp_rf) _ _ (by simp)
      have K_6 : md_ok h_5 o md (upd s.1 29 1, s.2.1, s.2.2) := md_J (s := (s.1, s.2.1, s.2.2)) K (by rw [eh_5]; exact ac_up_s _ _ _) kpx_8
      have kq_7 : kp h h_5 (md_L o md) := kp_mono kpx_8 md_s0
      refine aw_lload C dX9_between_22 rfl (q := 24) rfl ?_
      refine aw_lconst (v := 0) C dX9_between_24 (by decide) (q := 25) rfl ?_
      refine aw_lcmp C dX9_between_25 (q := 26) rfl ?_
      refine aw_if_ne (t := 33) (q := 29) C dX9_between_26 (by decide) rfl (fun c_26 => absurd c_26 (fun z => z c_11)) (fun c_26 => ?_)
      refine aw_lconst (v := 0) C dX9_between_29 (by decide) (q := 30) rfl ?_
      refine aw_goto (q := 37) C dX9_between_30 (by decide) ?_
      refine aw_lret C E dX9_between_37 (Nat.le_refl _) (Nat.le_refl _) ?_
      rw [show mo_bet s g a b = (0, (upd s.1 29 1, s.2.1, s.2.2)) from by unfold mo_bet; rw [if_pos c_3, if_pos c_26]]
      exact ⟨rfl, K_6, kq_7⟩
set_option maxHeartbeats 4000000 in
set_option maxRecDepth 100000 in
theorem m_worst (G : ac_G) (l : Launch) (o : Nat) (md : Nat → Nat) (hm : md_inj md) (h : ac_H) (d : Nat) (s : md_S) (K : md_ok h o md s) (c : Nat) (hc : s.1 20 = nI c) (hc10 : c ≤ 10) (k far p : Int32) : ac_Met G l yX9_worst cX9_worst 4 (some .long) (d + 2) 0 0 [.ref o, .int k, .int far, .int p] h (fun r9 h9 => r9 = some (.long (if (gt_bl k 8 ∧ gt_bl p 2) then mo_worst s.2.1 k far.toInt64 (if p = 1 then 1 else 0) 1023 c else 0)) ∧ md_ok h9 o md (upd s.1 0 (if (gt_bl k 8 ∧ gt_bl p 2) then 0 else 1), s.2.1, s.2.2) ∧ kp h h9 (md_L o md)) := by
  refine ac_of (ls := [.ref o, .int k, .int far, .int p]) (by decide +kernel) rfl (Nat.le_of_ble_eq_true rfl) (fun M hl C B E hnm => ?_)
  refine aw_aload_n C dX9_worst_0 rfl rfl (q := 1) rfl ?_
  refine aw_iload_n C dX9_worst_1 rfl rfl (q := 2) rfl ?_
  refine aw_if_lt (t := 20) (q := 5) C dX9_worst_2 (by decide) rfl (fun c_2 => ?_) (fun c_2 => ?_)
  ·
    refine aw_iconst (v := 1) C dX9_worst_20 (by decide) (q := 21) rfl ?_
    refine aw_goto (q := 25) C dX9_worst_21 (by decide) ?_
    refine pfX9_89_9 C dX9_worst_25 K.1 rfl rfl (Nat.le_of_ble_eq_true rfl) (q := 28) rfl ?_
    show aw G 4 M 28 [.ref o, .int k, .int far, .int p] [] (ac_up h o (.inr (9, md_fs md ((upd s.1 0 1, s.2.1, s.2.2).1)))) 0 0
    obtain ⟨h_1, eh_1⟩ : ∃ z9, z9 = ac_up h o (.inr (9, md_fs md ((upd s.1 0 1, s.2.1, s.2.2).1))) := ⟨_, rfl⟩
    rw [← eh_1]
    have kpx_4 : kp h h_1 [o] := by rw [eh_1]; exact kp_up (kp_cons o kp_rf) _ _ (by simp)
    have K_2 : md_ok h_1 o md (upd s.1 0 1, s.2.1, s.2.2) := md_J (s := (s.1, s.2.1, s.2.2)) K (by rw [eh_1]; exact ac_up_s _ _ _) kpx_4
    have kq_3 : kp h h_1 (md_L o md) := kp_mono kpx_4 md_s0
    refine aw_aload_n C dX9_worst_28 rfl rfl (q := 29) rfl ?_
    refine gfX9_89_9 (v := .int 1) C dX9_worst_29 K_2.1 rfl (q := 32) rfl ?_
    refine aw_if_le (t := 39) (q := 35) C dX9_worst_32 (by decide) rfl (fun c_32 => absurd c_32 (by decide)) (fun c_32 => ?_)
    refine aw_lconst (v := 0) C dX9_worst_35 (by decide) (q := 36) rfl ?_
    refine aw_goto (q := 59) C dX9_worst_36 (by decide) ?_
    refine aw_lret C E dX9_worst_59 (Nat.le_refl _) (Nat.le_refl _) ?_
    have hok : ¬ (gt_bl k 8 ∧ gt_bl p 2) := fun z => z.1.1 c_2
    rw [if_neg hok, if_neg hok]
    exact ⟨rfl, K_2, kq_3⟩
  ·
    refine aw_iload_n C dX9_worst_5 rfl rfl (q := 6) rfl ?_
    refine aw_bipush (v := 7) C dX9_worst_6 (by decide) (q := 8) rfl ?_
    refine aw_icmp_gt (t := 20) (q := 11) C dX9_worst_8 (by decide) rfl (fun c_8 => ?_) (fun c_8 => ?_)
    ·
      refine aw_iconst (v := 1) C dX9_worst_20 (by decide) (q := 21) rfl ?_
      refine aw_goto (q := 25) C dX9_worst_21 (by decide) ?_
      refine pfX9_89_9 C dX9_worst_25 K.1 rfl rfl (Nat.le_of_ble_eq_true rfl) (q := 28) rfl ?_
      show aw G 4 M 28 [.ref o, .int k, .int far, .int p] [] (ac_up h o (.inr (9, md_fs md ((upd s.1 0 1, s.2.1, s.2.2).1)))) 0 0
      obtain ⟨h_5, eh_5⟩ : ∃ z9, z9 = ac_up h o (.inr (9, md_fs md ((upd s.1 0 1, s.2.1, s.2.2).1))) := ⟨_, rfl⟩
      rw [← eh_5]
      have kpx_8 : kp h h_5 [o] := by rw [eh_5]; exact kp_up (kp_cons o kp_rf) _ _ (by simp)
      have K_6 : md_ok h_5 o md (upd s.1 0 1, s.2.1, s.2.2) := md_J (s := (s.1, s.2.1, s.2.2)) K (by rw [eh_5]; exact ac_up_s _ _ _) kpx_8
      have kq_7 : kp h h_5 (md_L o md) := kp_mono kpx_8 md_s0
      refine aw_aload_n C dX9_worst_28 rfl rfl (q := 29) rfl ?_
      refine gfX9_89_9 (v := .int 1) C dX9_worst_29 K_6.1 rfl (q := 32) rfl ?_
      refine aw_if_le (t := 39) (q := 35) C dX9_worst_32 (by decide) rfl (fun c_32 => absurd c_32 (by decide)) (fun c_32 => ?_)
      refine aw_lconst (v := 0) C dX9_worst_35 (by decide) (q := 36) rfl ?_
      refine aw_goto (q := 59) C dX9_worst_36 (by decide) ?_
      refine aw_lret C E dX9_worst_59 (Nat.le_refl _) (Nat.le_refl _) ?_
      have hok : ¬ (gt_bl k 8 ∧ gt_bl p 2) := fun z => mo_7.mpr z.1.2 c_8
      rw [if_neg hok, if_neg hok]
      exact ⟨rfl, K_6, kq_7⟩
    ·
      refine aw_iload_n C dX9_worst_11 rfl rfl (q := 12) rfl ?_
      refine aw_if_lt (t := 20) (q := 15) C dX9_worst_12 (by decide) rfl (fun c_12 => ?_) (fun c_12 => ?_)
      ·
        refine aw_iconst (v := 1) C dX9_worst_20 (by decide) (q := 21) rfl ?_
        refine aw_goto (q := 25) C dX9_worst_21 (by decide) ?_
        refine pfX9_89_9 C dX9_worst_25 K.1 rfl rfl (Nat.le_of_ble_eq_true rfl) (q := 28) rfl ?_
        show aw G 4 M 28 [.ref o, .int k, .int far, .int p] [] (ac_up h o (.inr (9, md_fs md ((upd s.1 0 1, s.2.1, s.2.2).1)))) 0 0
        obtain ⟨h_9, eh_9⟩ : ∃ z9, z9 = ac_up h o (.inr (9, md_fs md ((upd s.1 0 1, s.2.1, s.2.2).1))) := ⟨_, rfl⟩
        rw [← eh_9]
        have kpx_12 : kp h h_9 [o] := by rw [eh_9]; exact kp_up (kp_cons o kp_rf) _ _ (by simp)
        have K_10 : md_ok h_9 o md (upd s.1 0 1, s.2.1, s.2.2) := md_J (s := (s.1, s.2.1, s.2.2)) K (by rw [eh_9]; exact ac_up_s _ _ _) kpx_12
        have kq_11 : kp h h_9 (md_L o md) := kp_mono kpx_12 md_s0
        refine aw_aload_n C dX9_worst_28 rfl rfl (q := 29) rfl ?_
        refine gfX9_89_9 (v := .int 1) C dX9_worst_29 K_10.1 rfl (q := 32) rfl ?_
        refine aw_if_le (t := 39) (q := 35) C dX9_worst_32 (by decide) rfl (fun c_32 => absurd c_32 (by decide)) (fun c_32 => ?_)
        refine aw_lconst (v := 0) C dX9_worst_35 (by decide) (q := 36) rfl ?_
        refine aw_goto (q := 59) C dX9_worst_36 (by decide) ?_
        refine aw_lret C E dX9_worst_59 (Nat.le_refl _) (Nat.le_refl _) ?_
        have hok : ¬ (gt_bl k 8 ∧ gt_bl p 2) := fun z => z.2.1 c_12
        rw [if_neg hok, if_neg hok]
        exact ⟨rfl, K_10, kq_11⟩
      ·
        refine aw_iload_n C dX9_worst_15 rfl rfl (q := 16) rfl ?_
        refine aw_iconst (v := 1) C dX9_worst_16 (by decide) (q := 17) rfl ?_
        refine aw_icmp_le (t := 24) (q := 20) C dX9_worst_17 (by decide) rfl (fun c_17 => ?_) (fun c_17 => ?_)
        ·
          refine aw_iconst (v := 0) C dX9_worst_24 (by decide) (q := 25) rfl ?_
          refine pfX9_89_9 C dX9_worst_25 K.1 rfl rfl (Nat.le_of_ble_eq_true rfl) (q := 28) rfl ?_
          show aw G 4 M 28 [.ref o, .int k, .int far, .int p] [] (ac_up h o (.inr (9, md_fs md ((upd s.1 0 0, s.2.1, s.2.2).1)))) 0 0
          obtain ⟨h_13, eh_13⟩ : ∃ z9, z9 = ac_up h o (.inr (9, md_fs md ((upd s.1 0 0, s.2.1, s.2.2).1))) := ⟨_, rfl⟩
          rw [← eh_13]
          have kpx_16 : kp h h_13 [o] := by rw [eh_13]; exact kp_up (kp_cons o kp_rf) _ _ (by simp)
          have K_14 : md_ok h_13 o md (upd s.1 0 0, s.2.1, s.2.2) := md_J (s := (s.1, s.2.1, s.2.2)) K (by rw [eh_13]; exact ac_up_s _ _ _) kpx_16
          have kq_15 : kp h h_13 (md_L o md) := kp_mono kpx_16 md_s0
          refine aw_aload_n C dX9_worst_28 rfl rfl (q := 29) rfl ?_
          refine gfX9_89_9 (v := .int 0) C dX9_worst_29 K_14.1 rfl (q := 32) rfl ?_
          refine aw_if_le (t := 39) (q := 35) C dX9_worst_32 (by decide) rfl (fun c_32 => ?_) (fun c_32 => absurd c_32 (by decide))
          refine aw_aload_n C dX9_worst_39 rfl rfl (q := 40) rfl ?_
          refine aw_iload_n C dX9_worst_40 rfl rfl (q := 41) rfl ?_
          refine aw_iload_n C dX9_worst_41 rfl rfl (q := 42) rfl ?_
          refine aw_i2l C dX9_worst_42 (q := 43) rfl ?_
          refine aw_iload_n C dX9_worst_43 rfl rfl (q := 44) rfl ?_
          refine aw_iconst (v := 1) C dX9_worst_44 (by decide) (q := 45) rfl ?_
          refine aw_icmp_ne (t := 52) (q := 48) C dX9_worst_45 (by decide) rfl (fun c_45 => ?_) (fun c_45 => ?_)
          ·
            refine aw_iconst (v := 0) C dX9_worst_52 (by decide) (q := 53) rfl ?_
            refine aw_sipush (v := 1023) C dX9_worst_53 (by decide) (q := 56) rfl ?_
            refine cvX9_227_9 (As := [.int k, .long far.toInt64, .int 0, .int 1023]) (rest := []) C B dX9_worst_56 K_14.1 (m_worstOf G M.2.1 o md hm h_13 d (upd s.1 0 0, s.2.1, s.2.2) K_14 c hc hc10 k far.toInt64 0 1023) rfl rfl (Nat.le_of_ble_eq_true rfl) (by omega) (by omega) (by omega) (q := 59) rfl (fun r9 h9 hr9 => ?_)
            obtain ⟨e9, er9⟩ := hr9
            subst er9; rw [e9]
            show aw G 4 M 59 [.ref o, .int k, .int far, .int p] [.long (mo_worst s.2.1 k far.toInt64 0 1023 c)] h_13 0 0
            refine aw_lret C E dX9_worst_59 (Nat.le_refl _) (Nat.le_refl _) ?_
            have hok : (gt_bl k 8 ∧ gt_bl p 2) := ⟨⟨c_2, mo_7.mp c_8⟩, c_12, mo_2.mp c_17⟩
            rw [if_pos hok, if_pos hok, if_neg c_45]
            exact ⟨rfl, K_14, kq_15⟩
          ·
            refine aw_iconst (v := 1) C dX9_worst_48 (by decide) (q := 49) rfl ?_
            refine aw_goto (q := 53) C dX9_worst_49 (by decide) ?_
            refine aw_sipush (v := 1023) C dX9_worst_53 (by decide) (q := 56) rfl ?_
            refine cvX9_227_9 (As := [.int k, .long far.toInt64, .int 1, .int 1023]) (rest := []) C B dX9_worst_56 K_14.1 (m_worstOf G M.2.1 o md hm h_13 d (upd s.1 0 0, s.2.1, s.2.2) K_14 c hc hc10 k far.toInt64 1 1023) rfl rfl (Nat.le_of_ble_eq_true rfl) (by omega) (by omega) (by omega) (q := 59) rfl (fun r9 h9 hr9 => ?_)
            obtain ⟨e9, er9⟩ := hr9
            subst er9; rw [e9]
            show aw G 4 M 59 [.ref o, .int k, .int far, .int p] [.long (mo_worst s.2.1 k far.toInt64 1 1023 c)] h_13 0 0
            refine aw_lret C E dX9_worst_59 (Nat.le_refl _) (Nat.le_refl _) ?_
            have hok : (gt_bl k 8 ∧ gt_bl p 2) := ⟨⟨c_2, mo_7.mp c_8⟩, c_12, mo_2.mp c_17⟩
            rw [if_pos hok, if_pos hok, if_pos c_45]
            exact ⟨rfl, K_14, kq_15⟩
        ·
          refine aw_iconst (v := 1) C dX9_worst_20 (by decide) (q := 21) rfl ?_
          refine aw_goto (q := 25) C dX9_worst_21 (by decide) ?_
          refine pfX9_89_9 C dX9_worst_25 K.1 rfl rfl (Nat.le_of_ble_eq_true rfl) (q := 28) rfl ?_
          show aw G 4 M 28 [.ref o, .int k, .int far, .int p] [] (ac_up h o (.inr (9, md_fs md ((upd s.1 0 1, s.2.1, s.2.2).1)))) 0 0
          obtain ⟨h_17, eh_17⟩ : ∃ z9, z9 = ac_up h o (.inr (9, md_fs md ((upd s.1 0 1, s.2.1, s.2.2).1))) := ⟨_, rfl⟩
          rw [← eh_17]
          have kpx_20 : kp h h_17 [o] := by rw [eh_17]; exact kp_up (kp_cons o kp_rf) _ _ (by simp)
          have K_18 : md_ok h_17 o md (upd s.1 0 1, s.2.1, s.2.2) := md_J (s := (s.1, s.2.1, s.2.2)) K (by rw [eh_17]; exact ac_up_s _ _ _) kpx_20
          have kq_19 : kp h h_17 (md_L o md) := kp_mono kpx_20 md_s0
          refine aw_aload_n C dX9_worst_28 rfl rfl (q := 29) rfl ?_
          refine gfX9_89_9 (v := .int 1) C dX9_worst_29 K_18.1 rfl (q := 32) rfl ?_
          refine aw_if_le (t := 39) (q := 35) C dX9_worst_32 (by decide) rfl (fun c_32 => absurd c_32 (by decide)) (fun c_32 => ?_)
          refine aw_lconst (v := 0) C dX9_worst_35 (by decide) (q := 36) rfl ?_
          refine aw_goto (q := 59) C dX9_worst_36 (by decide) ?_
          refine aw_lret C E dX9_worst_59 (Nat.le_refl _) (Nat.le_refl _) ?_
          have hok : ¬ (gt_bl k 8 ∧ gt_bl p 2) := fun z => c_17 (mo_2.mpr z.2.2)
          rw [if_neg hok, if_neg hok]
          exact ⟨rfl, K_18, kq_19⟩
