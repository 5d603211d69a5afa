/-! Reader: conditions and rules -/
abbrev rs_B : Type := Bool × rs_S
def rs_cond (f : Nat → Int32) (len : Nat) (s : rs_S) : rs_B :=
  if (rs_X f len 8 s).1 = -1 then (false, (rs_X f len 8 s).2)
  else if cu_c f len (rs_X f len 8 s).2.1 = 60 ∨ cu_c f len (rs_X f len 8 s).2.1 = 62 ∨ cu_c f len (rs_X f len 8 s).2.1 = 61 ∨ cu_c f len (rs_X f len 8 s).2.1 = 33 then
    (if (rs_X f len 8 ((rs_X f len 8 s).2.1 + 1, (rs_X f len 8 s).2.2.1, (rs_X f len 8 s).2.2.2)).1 = -1 then (false, (rs_X f len 8 ((rs_X f len 8 s).2.1 + 1, (rs_X f len 8 s).2.2.1, (rs_X f len 8 s).2.2.2)).2)
     else (true, (rs_X f len 8 ((rs_X f len 8 s).2.1 + 1, (rs_X f len 8 s).2.2.1, (rs_X f len 8 s).2.2.2)).2.1, (rs_X f len 8 ((rs_X f len 8 s).2.1 + 1, (rs_X f len 8 s).2.2.1, (rs_X f len 8 s).2.2.2)).2.2.1, ru_add (rs_X f len 8 ((rs_X f len 8 s).2.1 + 1, (rs_X f len 8 s).2.2.1, (rs_X f len 8 s).2.2.2)).2.2.2 (cu_c f len (rs_X f len 8 s).2.1) 0))
  else (false, (rs_X f len 8 s).2)
def rs_conds (f : Nat → Int32) (len : Nat) : Nat → rs_S → rs_B
  | 0, s => (true, s)
  | m + 1, s => if (rs_cond f len s).1 = true then (if cu_c f len (rs_cond f len s).2.1 = 44 ∧ ¬ m = 0 then rs_conds f len m ((rs_cond f len s).2.1 + 1, (rs_cond f len s).2.2.1, (rs_cond f len s).2.2.2) else (true, (rs_cond f len s).2)) else (false, (rs_cond f len s).2)
def rs_rule (f : Nat → Int32) (len : Nat) (s : rs_S) : rs_B :=
  if cu_isd (cu_c f len s.1) 10 then
    (if cu_c f len (s.1 + 1) = 58 then
      (if s.1 + 1 + 1 = len ∨ cu_c f len (s.1 + 1 + 1) = 59 then (true, s.1 + 1 + 1, s.2.1, ru_begin s.2.2 (cu_c f len s.1 - 48)) else rs_conds f len 6 (s.1 + 1 + 1, s.2.1, ru_begin s.2.2 (cu_c f len s.1 - 48)))
     else (false, s.1 + 1, s.2.1, s.2.2))
  else (false, s)
def rs_QB (h : ac_H) (r u dr : Nat) (rd : Nat → Nat) (f : Nat → Int32) (len : Nat) (x : rs_B) : Option Value → ac_H → Prop := fun r9 h9 => r9 = some (.int (pb_b (x.1 = true))) ∧ rs_ok h9 r u dr rd f len x.2 ∧ kp h h9 (rs_L r dr rd)
theorem cu_isd_10 {c : Int32} (h : cu_isd c 10) : ¬ c - 48 = -1 := fun z => h.1 (by rw [z]; decide)
set_option maxHeartbeats 4000000 in
set_option maxRecDepth 100000 in
theorem c_parseCondition (G : ac_G) (l : Launch) (r u dr : Nat) (rd : Nat → Nat) (f : Nat → Int32) (len : Nat) (hr : inj rd 6) (hlen : len ≤ 300) (hf : cu_ch f) (d : Nat) (h : ac_H) (s : rs_S) (K : rs_ok h r u dr rd f len s) : ac_Met G l yX3_parseCondition cX3_parseCondition 2 (some .boolean) (d + 58) 0 0 [.ref r] h (rs_QB h r u dr rd f len (rs_cond f len s)) := by
  refine ac_of (ls := [.ref r, .retAddr 0]) (by decide +kernel) rfl (Nat.le_of_ble_eq_true rfl) (fun M hl C B E hnm => ?_)
  refine aw_aload_n C dX3_parseCondition_0 rfl rfl (q := 1) rfl ?_
  refine aw_iconst (v := 0) C dX3_parseCondition_1 (by decide) (q := 2) rfl ?_
  refine cvX3_68_3 (As := [.int (nI 0)]) (rest := []) C B dX3_parseCondition_2 K.1 ((c_parseX G M.2.1 r u dr rd f len hr hlen hf 8 0 rfl) h (s.1, s.2.1, s.2.2) K) rfl rfl (Nat.le_of_ble_eq_true rfl) (by omega) (by omega) (by omega) (q := 5) rfl (fun r9 h_1 hr9 => ?_)
  obtain ⟨er9, K_2, kpx_3⟩ := hr9
  subst er9
  have kq_4 : kp h h_1 (rs_L r dr rd) := kpx_3
  obtain ⟨x, ex⟩ : ∃ z, z = rs_X f len 8 (s.1, s.2.1, s.2.2) := ⟨_, rfl⟩
  rw [← ex] at K_2 ⊢
  show aw G 2 M 5 [.ref r, .retAddr 0] [.int x.1] h_1 0 0
  refine aw_iconst (v := (-1)) C dX3_parseCondition_5 (by decide) (q := 6) rfl ?_
  refine aw_icmp_ne (t := 11) (q := 9) C dX3_parseCondition_6 (by decide) rfl (fun c_6 => ?_) (fun c_6 => ?_)
  ·
    refine aw_aload_n C dX3_parseCondition_11 rfl rfl (q := 12) rfl ?_
    refine cvX3_54_3 (As := []) (rest := []) C B dX3_parseCondition_12 K_2.1 (c_here3 G M.2.1 h_1 d r u len x.2.1 300 f (.ref dr) (.ref (rd 0)) K_2.1 K_2.2.1 hlen (by decide) (by have := K_2.2.2.2.2.1; omega) hf) rfl rfl (Nat.le_of_ble_eq_true rfl) (by omega) (by omega) (by omega) (q := 15) rfl (fun r9 h9 hr9 => ?_)
    obtain ⟨e9, er9⟩ := hr9
    subst er9; rw [e9]
    show aw G 2 M 15 [.ref r, .retAddr 0] [.int (cu_c f len x.2.1)] h_1 0 0
    refine aw_istore_n (ls' := [.ref r, .int (cu_c f len x.2.1)]) C dX3_parseCondition_15 rfl (by decide) rfl (q := 16) rfl ?_
    refine aw_iload_n C dX3_parseCondition_16 rfl rfl (q := 17) rfl ?_
    refine aw_bipush (v := 60) C dX3_parseCondition_17 (by decide) (q := 19) rfl ?_
    refine aw_icmp_eq (t := 42) (q := 22) C dX3_parseCondition_19 (by decide) rfl (fun c_19 => ?_) (fun c_19 => ?_)
    ·
      have hl9 : x.2.1 < len := cu_c_in c_19 (by decide)
      refine aw_aload_n C dX3_parseCondition_42 rfl rfl (q := 43) rfl ?_
      refine aw_dup C dX3_parseCondition_43 rfl (q := 44) rfl ?_
      refine gfX3_40_3 (v := .int (nI x.2.1)) C dX3_parseCondition_44 K_2.1 rfl (q := 47) rfl ?_
      refine aw_iconst (v := 1) C dX3_parseCondition_47 (by decide) (q := 48) rfl ?_
      refine aw_iadd C dX3_parseCondition_48 (q := 49) rfl ?_
      rw [show nI x.2.1 + 1 = nI (x.2.1 + 1) from nI_1 _]
      refine pfX3_40_3 C dX3_parseCondition_49 K_2.1 rfl rfl (Nat.le_of_ble_eq_true rfl) (q := 52) rfl ?_
      show aw G 2 M 52 [.ref r, .int (cu_c f len x.2.1)] [] (ac_up h_1 r (.inr (3, [.ref u, .int (nI len), .int (nI (x.2.1 + 1)), .ref dr, .ref (rd 0)]))) 0 0
      obtain ⟨h_5, eh_5⟩ : ∃ z9, z9 = ac_up h_1 r (.inr (3, [.ref u, .int (nI len), .int (nI (x.2.1 + 1)), .ref dr, .ref (rd 0)])) := ⟨_, rfl⟩
      rw [← eh_5]
      have kpx_7 : kp h_1 h_5 [r] := by rw [eh_5]; exact kp_up (kp_cons r kp_rf) _ _ (by simp)
      have K_6 : rs_ok h_5 r u dr rd f len (x.2.1 + 1, x.2.2.1, x.2.2.2) := rs_at (s := (x.2.1, x.2.2.1, x.2.2.2)) K_2 (by rw [eh_5]; exact ac_up_s _ _ _) kpx_7 (by omega)
      have kq_8 : kp h h_5 (rs_L r dr rd) := kp_in kq_4 kpx_7 rs_s1
      refine aw_aload_n C dX3_parseCondition_52 rfl rfl (q := 53) rfl ?_
      refine aw_iconst (v := 0) C dX3_parseCondition_53 (by decide) (q := 54) rfl ?_
      refine cvX3_68_3 (As := [.int (nI 0)]) (rest := []) C B dX3_parseCondition_54 K_6.1 ((c_parseX G M.2.1 r u dr rd f len hr hlen hf 8 0 rfl) h_5 (x.2.1 + 1, x.2.2.1, x.2.2.2) K_6) rfl rfl (Nat.le_of_ble_eq_true rfl) (by omega) (by omega) (by omega) (q := 57) rfl (fun r9 h_9 hr9 => ?_)
      obtain ⟨er9, K_10, kpx_11⟩ := hr9
      subst er9
      have kq_12 : kp h h_9 (rs_L r dr rd) := kp_in kq_8 kpx_11 (fun _ z => z)
      obtain ⟨y, ey⟩ : ∃ z, z = rs_X f len 8 (x.2.1 + 1, x.2.2.1, x.2.2.2) := ⟨_, rfl⟩
      rw [← ey] at K_10 ⊢
      show aw G 2 M 57 [.ref r, .int (cu_c f len x.2.1)] [.int y.1] h_9 0 0
      refine aw_iconst (v := (-1)) C dX3_parseCondition_57 (by decide) (q := 58) rfl ?_
      refine aw_icmp_ne (t := 63) (q := 61) C dX3_parseCondition_58 (by decide) rfl (fun c_58 => ?_) (fun c_58 => ?_)
      ·
        refine aw_aload_n C dX3_parseCondition_63 rfl rfl (q := 64) rfl ?_
        refine gfX3_20_3 (v := .ref (rd 0)) C dX3_parseCondition_64 K_10.1 rfl (q := 67) rfl ?_
        refine aw_iload_n C dX3_parseCondition_67 rfl rfl (q := 68) rfl ?_
        refine aw_iconst (v := 0) C dX3_parseCondition_68 (by decide) (q := 69) rfl ?_
        refine cvX3_71_6 (As := [.int (cu_c f len x.2.1), .int 0]) (rest := []) C B dX3_parseCondition_69 K_10.2.2.2.1.1 (c_addStep G M.2.1 h_9 d rd y.2.2.2 hr K_10.2.2.2.1 K_10.2.2.2.2.2 (cu_c f len x.2.1) 0) rfl rfl (Nat.le_of_ble_eq_true rfl) (by omega) (by omega) (by omega) (q := 72) rfl (fun r9 h_13 hr9 => ?_)
        obtain ⟨er9, kx_14, kpx_15⟩ := hr9
        subst er9
        have K_16 : rs_ok h_13 r u dr rd f len (y.2.1, y.2.2.1, ru_add y.2.2.2 (cu_c f len x.2.1) 0) := rs_ru (s := (y.2.1, y.2.2.1, y.2.2.2)) K_10 kx_14 (kp_mono kpx_15 rs_s5) (ru_add_bd K_10.2.2.2.2.2 _ _)
        have kq_17 : kp h h_13 (rs_L r dr rd) := kp_in kq_12 kpx_15 rs_s3
        show aw G 2 M 72 [.ref r, .int (cu_c f len x.2.1)] [] h_13 0 0
        refine aw_iconst (v := 1) C dX3_parseCondition_72 (by decide) (q := 73) rfl ?_
        refine aw_zret C E dX3_parseCondition_73 (rfl) (Nat.le_refl _) (Nat.le_refl _) ?_
        rw [show rs_cond f len s = (true, y.2.1, y.2.2.1, ru_add y.2.2.2 (cu_c f len x.2.1) 0) from by unfold rs_cond; rw [← ex, if_neg c_6, if_pos (Or.inl c_19), ← ey, if_neg c_58]]
        exact ⟨rfl, K_16, kq_17⟩
      ·
        refine aw_iconst (v := 0) C dX3_parseCondition_61 (by decide) (q := 62) rfl ?_
        refine aw_zret C E dX3_parseCondition_62 (rfl) (Nat.le_refl _) (Nat.le_refl _) ?_
        rw [show rs_cond f len s = (false, y.2) from by unfold rs_cond; rw [← ex, if_neg c_6, if_pos (Or.inl c_19), ← ey, if_pos c_58]]
        exact ⟨rfl, K_10, kq_12⟩
    ·
      refine aw_iload_n C dX3_parseCondition_22 rfl rfl (q := 23) rfl ?_
      refine aw_bipush (v := 62) C dX3_parseCondition_23 (by decide) (q := 25) rfl ?_
      refine aw_icmp_eq (t := 42) (q := 28) C dX3_parseCondition_25 (by decide) rfl (fun c_25 => ?_) (fun c_25 => ?_)
      ·
        have hl9 : x.2.1 < len := cu_c_in c_25 (by decide)
        refine aw_aload_n C dX3_parseCondition_42 rfl rfl (q := 43) rfl ?_
        refine aw_dup C dX3_parseCondition_43 rfl (q := 44) rfl ?_
        refine gfX3_40_3 (v := .int (nI x.2.1)) C dX3_parseCondition_44 K_2.1 rfl (q := 47) rfl ?_
        refine aw_iconst (v := 1) C dX3_parseCondition_47 (by decide) (q := 48) rfl ?_
        refine aw_iadd C dX3_parseCondition_48 (q := 49) rfl ?_
        rw [show nI x.2.1 + 1 = nI (x.2.1 + 1) from nI_1 _]
        refine pfX3_40_3 C dX3_parseCondition_49 K_2.1 rfl rfl (Nat.le_of_ble_eq_true rfl) (q := 52) rfl ?_
        show aw G 2 M 52 [.ref r, .int (cu_c f len x.2.1)] [] (ac_up h_1 r (.inr (3, [.ref u, .int (nI len), .int (nI (x.2.1 + 1)), .ref dr, .ref (rd 0)]))) 0 0
        obtain ⟨h_18, eh_18⟩ : ∃ z9, z9 = ac_up h_1 r (.inr (3, [.ref u, .int (nI len), .int (nI (x.2.1 + 1)), .ref dr, .ref (rd 0)])) := ⟨_, rfl⟩
        rw [← eh_18]
        have kpx_20 : kp h_1 h_18 [r] := by rw [eh_18]; exact kp_up (kp_cons r kp_rf) _ _ (by simp)
        have K_19 : rs_ok h_18 r u dr rd f len (x.2.1 + 1, x.2.2.1, x.2.2.2) := rs_at (s := (x.2.1, x.2.2.1, x.2.2.2)) K_2 (by rw [eh_18]; exact ac_up_s _ _ _) kpx_20 (by omega)
        have kq_21 : kp h h_18 (rs_L r dr rd) := kp_in kq_4 kpx_20 rs_s1
        refine aw_aload_n C dX3_parseCondition_52 rfl rfl (q := 53) rfl ?_
        refine aw_iconst (v := 0) C dX3_parseCondition_53 (by decide) (q := 54) rfl ?_
        refine cvX3_68_3 (As := [.int (nI 0)]) (rest := []) C B dX3_parseCondition_54 K_19.1 ((c_parseX G M.2.1 r u dr rd f len hr hlen hf 8 0 rfl) h_18 (x.2.1 + 1, x.2.2.1, x.2.2.2) K_19) rfl rfl (Nat.le_of_ble_eq_true rfl) (by omega) (by omega) (by omega) (q := 57) rfl (fun r9 h_22 hr9 => ?_)
        obtain ⟨er9, K_23, kpx_24⟩ := hr9
        subst er9
        have kq_25 : kp h h_22 (rs_L r dr rd) := kp_in kq_21 kpx_24 (fun _ z => z)
        obtain ⟨y, ey⟩ : ∃ z, z = rs_X f len 8 (x.2.1 + 1, x.2.2.1, x.2.2.2) := ⟨_, rfl⟩
        rw [← ey] at K_23 ⊢
        show aw G 2 M 57 [.ref r, .int (cu_c f len x.2.1)] [.int y.1] h_22 0 0
        refine aw_iconst (v := (-1)) C dX3_parseCondition_57 (by decide) (q := 58) rfl ?_
        refine aw_icmp_ne (t := 63) (q := 61) C dX3_parseCondition_58 (by decide) rfl (fun c_58 => ?_) (fun c_58 => ?_)
        ·
          refine aw_aload_n C dX3_parseCondition_63 rfl rfl (q := 64) rfl ?_
          refine gfX3_20_3 (v := .ref (rd 0)) C dX3_parseCondition_64 K_23.1 rfl (q := 67) rfl ?_
          refine aw_iload_n C dX3_parseCondition_67 rfl rfl (q := 68) rfl ?_
          refine aw_iconst (v := 0) C dX3_parseCondition_68 (by decide) (q := 69) rfl ?_
          refine cvX3_71_6 (As := [.int (cu_c f len x.2.1), .int 0]) (rest := []) C B dX3_parseCondition_69 K_23.2.2.2.1.1 (c_addStep G M.2.1 h_22 d rd y.2.2.2 hr K_23.2.2.2.1 K_23.2.2.2.2.2 (cu_c f len x.2.1) 0) rfl rfl (Nat.le_of_ble_eq_true rfl) (by omega) (by omega) (by omega) (q := 72) rfl (fun r9 h_26 hr9 => ?_)
          obtain ⟨er9, kx_27, kpx_28⟩ := hr9
          subst er9
          have K_29 : rs_ok h_26 r u dr rd f len (y.2.1, y.2.2.1, ru_add y.2.2.2 (cu_c f len x.2.1) 0) := rs_ru (s := (y.2.1, y.2.2.1, y.2.2.2)) K_23 kx_27 (kp_mono kpx_28 rs_s5) (ru_add_bd K_23.2.2.2.2.2 _ _)
          have kq_30 : kp h h_26 (rs_L r dr rd) := kp_in kq_25 kpx_28 rs_s3
          show aw G 2 M 72 [.ref r, .int (cu_c f len x.2.1)] [] h_26 0 0
          refine aw_iconst (v := 1) C dX3_parseCondition_72 (by decide) (q := 73) rfl ?_
          refine aw_zret C E dX3_parseCondition_73 (rfl) (Nat.le_refl _) (Nat.le_refl _) ?_
          rw [show rs_cond f len s = (true, y.2.1, y.2.2.1, ru_add y.2.2.2 (cu_c f len x.2.1) 0) from by unfold rs_cond; rw [← ex, if_neg c_6, if_pos (Or.inr (Or.inl c_25)), ← ey, if_neg c_58]]
          exact ⟨rfl, K_29, kq_30⟩
        ·
          refine aw_iconst (v := 0) C dX3_parseCondition_61 (by decide) (q := 62) rfl ?_
          refine aw_zret C E dX3_parseCondition_62 (rfl) (Nat.le_refl _) (Nat.le_refl _) ?_
          rw [show rs_cond f len s = (false, y.2) from by unfold rs_cond; rw [← ex, if_neg c_6, if_pos (Or.inr (Or.inl c_25)), ← ey, if_pos c_58]]
          exact ⟨rfl, K_23, kq_25⟩
      ·
        refine aw_iload_n C dX3_parseCondition_28 rfl rfl (q := 29) rfl ?_
        refine aw_bipush (v := 61) C dX3_parseCondition_29 (by decide) (q := 31) rfl ?_
        refine aw_icmp_eq (t := 42) (q := 34) C dX3_parseCondition_31 (by decide) rfl (fun c_31 => ?_) (fun c_31 => ?_)
        ·
          have hl9 : x.2.1 < len := cu_c_in c_31 (by decide)
          refine aw_aload_n C dX3_parseCondition_42 rfl rfl (q := 43) rfl ?_
          refine aw_dup C dX3_parseCondition_43 rfl (q := 44) rfl ?_
          refine gfX3_40_3 (v := .int (nI x.2.1)) C dX3_parseCondition_44 K_2.1 rfl (q := 47) rfl ?_
          refine aw_iconst (v := 1) C dX3_parseCondition_47 (by decide) (q := 48) rfl ?_
          refine aw_iadd C dX3_parseCondition_48 (q := 49) rfl ?_
          rw [show nI x.2.1 + 1 = nI (x.2.1 + 1) from nI_1 _]
          refine pfX3_40_3 C dX3_parseCondition_49 K_2.1 rfl rfl (Nat.le_of_ble_eq_true rfl) (q := 52) rfl ?_
          show aw G 2 M 52 [.ref r, .int (cu_c f len x.2.1)] [] (ac_up h_1 r (.inr (3, [.ref u, .int (nI len), .int (nI (x.2.1 + 1)), .ref dr, .ref (rd 0)]))) 0 0
          obtain ⟨h_31, eh_31⟩ : ∃ z9, z9 = ac_up h_1 r (.inr (3, [.ref u, .int (nI len), .int (nI (x.2.1 + 1)), .ref dr, .ref (rd 0)])) := ⟨_, rfl⟩
          rw [← eh_31]
          have kpx_33 : kp h_1 h_31 [r] := by rw [eh_31]; exact kp_up (kp_cons r kp_rf) _ _ (by simp)
          have K_32 : rs_ok h_31 r u dr rd f len (x.2.1 + 1, x.2.2.1, x.2.2.2) := rs_at (s := (x.2.1, x.2.2.1, x.2.2.2)) K_2 (by rw [eh_31]; exact ac_up_s _ _ _) kpx_33 (by omega)
          have kq_34 : kp h h_31 (rs_L r dr rd) := kp_in kq_4 kpx_33 rs_s1
          refine aw_aload_n C dX3_parseCondition_52 rfl rfl (q := 53) rfl ?_
          refine aw_iconst (v := 0) C dX3_parseCondition_53 (by decide) (q := 54) rfl ?_
          refine cvX3_68_3 (As := [.int (nI 0)]) (rest := []) C B dX3_parseCondition_54 K_32.1 ((c_parseX G M.2.1 r u dr rd f len hr hlen hf 8 0 rfl) h_31 (x.2.1 + 1, x.2.2.1, x.2.2.2) K_32) rfl rfl (Nat.le_of_ble_eq_true rfl) (by omega) (by omega) (by omega) (q := 57) rfl (fun r9 h_35 hr9 => ?_)
          obtain ⟨er9, K_36, kpx_37⟩ := hr9
          subst er9
          have kq_38 : kp h h_35 (rs_L r dr rd) := kp_in kq_34 kpx_37 (fun _ z => z)
          obtain ⟨y, ey⟩ : ∃ z, z = rs_X f len 8 (x.2.1 + 1, x.2.2.1, x.2.2.2) := ⟨_, rfl⟩
          rw [← ey] at K_36 ⊢
          show aw G 2 M 57 [.ref r, .int (cu_c f len x.2.1)] [.int y.1] h_35 0 0
          refine aw_iconst (v := (-1)) C dX3_parseCondition_57 (by decide) (q := 58) rfl ?_
          refine aw_icmp_ne (t := 63) (q := 61) C dX3_parseCondition_58 (by decide) rfl (fun c_58 => ?_) (fun c_58 => ?_)
          ·
            refine aw_aload_n C dX3_parseCondition_63 rfl rfl (q := 64) rfl ?_
            refine gfX3_20_3 (v := .ref (rd 0)) C dX3_parseCondition_64 K_36.1 rfl (q := 67) rfl ?_
            refine aw_iload_n C dX3_parseCondition_67 rfl rfl (q := 68) rfl ?_
            refine aw_iconst (v := 0) C dX3_parseCondition_68 (by decide) (q := 69) rfl ?_
            refine cvX3_71_6 (As := [.int (cu_c f len x.2.1), .int 0]) (rest := []) C B dX3_parseCondition_69 K_36.2.2.2.1.1 (c_addStep G M.2.1 h_35 d rd y.2.2.2 hr K_36.2.2.2.1 K_36.2.2.2.2.2 (cu_c f len x.2.1) 0) rfl rfl (Nat.le_of_ble_eq_true rfl) (by omega) (by omega) (by omega) (q := 72) rfl (fun r9 h_39 hr9 => ?_)
            obtain ⟨er9, kx_40, kpx_41⟩ := hr9
            subst er9
            have K_42 : rs_ok h_39 r u dr rd f len (y.2.1, y.2.2.1, ru_add y.2.2.2 (cu_c f len x.2.1) 0) := rs_ru (s := (y.2.1, y.2.2.1, y.2.2.2)) K_36 kx_40 (kp_mono kpx_41 rs_s5) (ru_add_bd K_36.2.2.2.2.2 _ _)
            have kq_43 : kp h h_39 (rs_L r dr rd) := kp_in kq_38 kpx_41 rs_s3
            show aw G 2 M 72 [.ref r, .int (cu_c f len x.2.1)] [] h_39 0 0
            refine aw_iconst (v := 1) C dX3_parseCondition_72 (by decide) (q := 73) rfl ?_
            refine aw_zret C E dX3_parseCondition_73 (rfl) (Nat.le_refl _) (Nat.le_refl _) ?_
            rw [show rs_cond f len s = (true, y.2.1, y.2.2.1, ru_add y.2.2.2 (cu_c f len x.2.1) 0) from by unfold rs_cond; rw [← ex, if_neg c_6, if_pos (Or.inr (Or.inr (Or.inl c_31))), ← ey, if_neg c_58]]
            exact ⟨rfl, K_42, kq_43⟩
          ·
            refine aw_iconst (v := 0) C dX3_parseCondition_61 (by decide) (q := 62) rfl ?_
            refine aw_zret C E dX3_parseCondition_62 (rfl) (Nat.le_refl _) (Nat.le_refl _) ?_
            rw [show rs_cond f len s = (false, y.2) from by unfold rs_cond; rw [← ex, if_neg c_6, if_pos (Or.inr (Or.inr (Or.inl c_31))), ← ey, if_pos c_58]]
            exact ⟨rfl, K_36, kq_38⟩
        ·
          refine aw_iload_n C dX3_parseCondition_34 rfl rfl (q := 35) rfl ?_
          refine aw_bipush (v := 33) C dX3_parseCondition_35 (by decide) (q := 37) rfl ?_
          refine aw_icmp_eq (t := 42) (q := 40) C dX3_parseCondition_37 (by decide) rfl (fun c_37 => ?_) (fun c_37 => ?_)
          ·
            have hl9 : x.2.1 < len := cu_c_in c_37 (by decide)
            refine aw_aload_n C dX3_parseCondition_42 rfl rfl (q := 43) rfl ?_
            refine aw_dup C dX3_parseCondition_43 rfl (q := 44) rfl ?_
            refine gfX3_40_3 (v := .int (nI x.2.1)) C dX3_parseCondition_44 K_2.1 rfl (q := 47) rfl ?_
            refine aw_iconst (v := 1) C dX3_parseCondition_47 (by decide) (q := 48) rfl ?_
            refine aw_iadd C dX3_parseCondition_48 (q := 49) rfl ?_
            rw [show nI x.2.1 + 1 = nI (x.2.1 + 1) from nI_1 _]
            refine pfX3_40_3 C dX3_parseCondition_49 K_2.1 rfl rfl (Nat.le_of_ble_eq_true rfl) (q := 52) rfl ?_
            show aw G 2 M 52 [.ref r, .int (cu_c f len x.2.1)] [] (ac_up h_1 r (.inr (3, [.ref u, .int (nI len), .int (nI (x.2.1 + 1)), .ref dr, .ref (rd 0)]))) 0 0
            obtain ⟨h_44, eh_44⟩ : ∃ z9, z9 = ac_up h_1 r (.inr (3, [.ref u, .int (nI len), .int (nI (x.2.1 + 1)), .ref dr, .ref (rd 0)])) := ⟨_, rfl⟩
            rw [← eh_44]
            have kpx_46 : kp h_1 h_44 [r] := by rw [eh_44]; exact kp_up (kp_cons r kp_rf) _ _ (by simp)
            have K_45 : rs_ok h_44 r u dr rd f len (x.2.1 + 1, x.2.2.1, x.2.2.2) := rs_at (s := (x.2.1, x.2.2.1, x.2.2.2)) K_2 (by rw [eh_44]; exact ac_up_s _ _ _) kpx_46 (by omega)
            have kq_47 : kp h h_44 (rs_L r dr rd) := kp_in kq_4 kpx_46 rs_s1
            refine aw_aload_n C dX3_parseCondition_52 rfl rfl (q := 53) rfl ?_
            refine aw_iconst (v := 0) C dX3_parseCondition_53 (by decide) (q := 54) rfl ?_
            refine cvX3_68_3 (As := [.int (nI 0)]) (rest := []) C B dX3_parseCondition_54 K_45.1 ((c_parseX G M.2.1 r u dr rd f len hr hlen hf 8 0 rfl) h_44 (x.2.1 + 1, x.2.2.1, x.2.2.2) K_45) rfl rfl (Nat.le_of_ble_eq_true rfl) (by omega) (by omega) (by omega) (q := 57) rfl (fun r9 h_48 hr9 => ?_)
            obtain ⟨er9, K_49, kpx_50⟩ := hr9
            subst er9
            have kq_51 : kp h h_48 (rs_L r dr rd) := kp_in kq_47 kpx_50 (fun _ z => z)
            obtain ⟨y, ey⟩ : ∃ z, z = rs_X f len 8 (x.2.1 + 1, x.2.2.1, x.2.2.2) := ⟨_, rfl⟩
            rw [← ey] at K_49 ⊢
            show aw G 2 M 57 [.ref r, .int (cu_c f len x.2.1)] [.int y.1] h_48 0 0
            refine aw_iconst (v := (-1)) C dX3_parseCondition_57 (by decide) (q := 58) rfl ?_
            refine aw_icmp_ne (t := 63) (q := 61) C dX3_parseCondition_58 (by decide) rfl (fun c_58 => ?_) (fun c_58 => ?_)
            ·
              refine aw_aload_n C dX3_parseCondition_63 rfl rfl (q := 64) rfl ?_
              refine gfX3_20_3 (v := .ref (rd 0)) C dX3_parseCondition_64 K_49.1 rfl (q := 67) rfl ?_
              refine aw_iload_n C dX3_parseCondition_67 rfl rfl (q := 68) rfl ?_
              refine aw_iconst (v := 0) C dX3_parseCondition_68 (by decide) (q := 69) rfl ?_
              refine cvX3_71_6 (As := [.int (cu_c f len x.2.1), .int 0]) (rest := []) C B dX3_parseCondition_69 K_49.2.2.2.1.1 (c_addStep G M.2.1 h_48 d rd y.2.2.2 hr K_49.2.2.2.1 K_49.2.2.2.2.2 (cu_c f len x.2.1) 0) rfl rfl (Nat.le_of_ble_eq_true rfl) (by omega) (by omega) (by omega) (q := 72) rfl (fun r9 h_52 hr9 => ?_)
              obtain ⟨er9, kx_53, kpx_54⟩ := hr9
              subst er9
              have K_55 : rs_ok h_52 r u dr rd f len (y.2.1, y.2.2.1, ru_add y.2.2.2 (cu_c f len x.2.1) 0) := rs_ru (s := (y.2.1, y.2.2.1, y.2.2.2)) K_49 kx_53 (kp_mono kpx_54 rs_s5) (ru_add_bd K_49.2.2.2.2.2 _ _)
              have kq_56 : kp h h_52 (rs_L r dr rd) := kp_in kq_51 kpx_54 rs_s3
              show aw G 2 M 72 [.ref r, .int (cu_c f len x.2.1)] [] h_52 0 0
              refine aw_iconst (v := 1) C dX3_parseCondition_72 (by decide) (q := 73) rfl ?_
              refine aw_zret C E dX3_parseCondition_73 (rfl) (Nat.le_refl _) (Nat.le_refl _) ?_
              rw [show rs_cond f len s = (true, y.2.1, y.2.2.1, ru_add y.2.2.2 (cu_c f len x.2.1) 0) from by unfold rs_cond; rw [← ex, if_neg c_6, if_pos (Or.inr (Or.inr (Or.inr c_37))), ← ey, if_neg c_58]]
              exact ⟨rfl, K_55, kq_56⟩
            ·
              refine aw_iconst (v := 0) C dX3_parseCondition_61 (by decide) (q := 62) rfl ?_
              refine aw_zret C E dX3_parseCondition_62 (rfl) (Nat.le_refl _) (Nat.le_refl _) ?_
              rw [show rs_cond f len s = (false, y.2) from by unfold rs_cond; rw [← ex, if_neg c_6, if_pos (Or.inr (Or.inr (Or.inr c_37))), ← ey, if_pos c_58]]
              exact ⟨rfl, K_49, kq_51⟩
          ·
            refine aw_iconst (v := 0) C dX3_parseCondition_40 (by decide) (q := 41) rfl ?_
            refine aw_zret C E dX3_parseCondition_41 (rfl) (Nat.le_refl _) (Nat.le_refl _) ?_
            rw [show rs_cond f len s = (false, x.2) from by unfold rs_cond; rw [← ex, if_neg c_6, if_neg (by rintro (z | z | z | z); exact c_19 z; exact c_25 z; exact c_31 z; exact c_37 z)]]
            exact ⟨rfl, K_2, kq_4⟩
  ·
    refine aw_iconst (v := 0) C dX3_parseCondition_9 (by decide) (q := 10) rfl ?_
    refine aw_zret C E dX3_parseCondition_10 (rfl) (Nat.le_refl _) (Nat.le_refl _) ?_
    rw [show rs_cond f len s = (false, x.2) from by unfold rs_cond; rw [← ex, if_pos c_6]]
    exact ⟨rfl, K_2, kq_4⟩
set_option maxHeartbeats 4000000 in
set_option maxRecDepth 100000 in
theorem lp_parseRule {G : ac_G} {M : ac_M} {r u dr : Nat} {rd : Nat → Nat} {f : Nat → Int32} {len : Nat} (hr : inj rd 6) (hlen : len ≤ 300) (hf : cu_ch f) {h : ac_H} {d : Nat} {R : rs_B} {g : Int32} (C : ac_MC G RX3 cX3_parseRule 3 (some .boolean) M) (B : ac_Bd M (d + 59) 0 0) (E : ac_End G (fun r9 h9 => r9 = some (.int (pb_b (R.1 = true))) ∧ rs_ok h9 r u dr rd f len R.2 ∧ kp h h9 (rs_L r dr rd)) 0 0 M) :
    ∀ (m i : Nat) (s : rs_S) (h1 : ac_H), i + m = 6 → rs_ok h1 r u dr rd f len s → kp h h1 (rs_L r dr rd) → rs_conds f len m s = R → aw G 3 M 65 [.ref r, .int g, .int (nI i)] [] h1 0 0 := by
  intro m
  induction m with
  | zero =>
    intro i s h1 hi K1 kq1 hR
    refine aw_iload_n C dX3_parseRule_65 rfl rfl (q := 66) rfl ?_
    refine aw_bipush (v := 6) C dX3_parseRule_66 (by decide) (q := 68) rfl ?_
    refine aw_icmp_ge (t := 115) (q := 71) C dX3_parseRule_68 (by decide) rfl (fun c_68 => ?_) (fun c_68 => absurd c_68 (fun z => z (nI_le (a := 6) (by omega) (by omega))))
    refine aw_iconst (v := 1) C dX3_parseRule_115 (by decide) (q := 116) rfl ?_
    refine aw_zret C E dX3_parseRule_116 (rfl) (Nat.le_refl _) (Nat.le_refl _) ?_
    rw [show R = (true, s) from hR.symm]
    exact ⟨rfl, K1, kq1⟩
  | succ m ih =>
    intro i s h1 hi K1 kq1 hR
    refine aw_iload_n C dX3_parseRule_65 rfl rfl (q := 66) rfl ?_
    refine aw_bipush (v := 6) C dX3_parseRule_66 (by decide) (q := 68) rfl ?_
    refine aw_icmp_ge (t := 115) (q := 71) C dX3_parseRule_68 (by decide) rfl (fun c_68 => absurd c_68 (ni_nge i 6 rfl rfl (by omega) (by decide) (by omega))) (fun c_68 => ?_)
    refine aw_aload_n C dX3_parseRule_71 rfl rfl (q := 72) rfl ?_
    refine cvX3_65_3 (As := []) (rest := []) C B dX3_parseRule_72 K1.1 (c_parseCondition G M.2.1 r u dr rd f len hr hlen hf d h1 (s.1, s.2.1, s.2.2) K1) rfl rfl (Nat.le_of_ble_eq_true rfl) (by omega) (by omega) (by omega) (q := 75) rfl (fun r9 h2 hr9 => ?_)
    obtain ⟨er9, K2, kp2⟩ := hr9
    subst er9
    have kq2 : kp h h2 (rs_L r dr rd) := kp_in kq1 kp2 (fun _ z => z)
    obtain ⟨z, ez⟩ : ∃ z, z = rs_cond f len s := ⟨_, rfl⟩
    rw [show rs_cond f len (s.1, s.2.1, s.2.2) = z from ez.symm] at K2 ⊢
    show aw G 3 M 75 [.ref r, .int g, .int (nI i)] [.int (pb_b (z.1 = true))] h2 0 0
    refine aw_if_ne (t := 80) (q := 78) C dX3_parseRule_75 (by decide) rfl (fun c_75 => ?_) (fun c_75 => ?_)
    ·
      refine aw_aload_n C dX3_parseRule_80 rfl rfl (q := 81) rfl ?_
      refine cvX3_54_3 (As := []) (rest := []) C B dX3_parseRule_81 K2.1 (c_here3 G M.2.1 h2 d r u len z.2.1 300 f (.ref dr) (.ref (rd 0)) K2.1 K2.2.1 hlen (by decide) (by have := K2.2.2.2.2.1; omega) hf) rfl rfl (Nat.le_of_ble_eq_true rfl) (by omega) (by omega) (by omega) (q := 84) rfl (fun r9 h9 hr9 => ?_)
      obtain ⟨e9, er9⟩ := hr9
      subst er9; rw [e9]
      show aw G 3 M 84 [.ref r, .int g, .int (nI i)] [.int (cu_c f len z.2.1)] h2 0 0
      refine aw_bipush (v := 44) C dX3_parseRule_84 (by decide) (q := 86) rfl ?_
      refine aw_icmp_ne (t := 97) (q := 89) C dX3_parseRule_86 (by decide) rfl (fun c_86 => ?_) (fun c_86 => ?_)
      ·
        refine aw_iconst (v := 1) C dX3_parseRule_97 (by decide) (q := 98) rfl ?_
        refine aw_zret C E dX3_parseRule_98 (rfl) (Nat.le_refl _) (Nat.le_refl _) ?_
        rw [show R = (true, z.2) from by rw [← hR]; unfold rs_conds; rw [← ez, if_pos (pb_n c_75), if_neg (fun q => c_86 q.1)]]
        exact ⟨rfl, K2, kq2⟩
      ·
        refine aw_iload_n C dX3_parseRule_89 rfl rfl (q := 90) rfl ?_
        refine aw_iconst (v := 1) C dX3_parseRule_90 (by decide) (q := 91) rfl ?_
        refine aw_iadd C dX3_parseRule_91 (q := 92) rfl ?_
        refine aw_bipush (v := 6) C dX3_parseRule_92 (by decide) (q := 94) rfl ?_
        refine aw_icmp_ne (t := 99) (q := 97) C dX3_parseRule_94 (by decide) rfl (fun c_94 => ?_) (fun c_94 => ?_)
        ·
          have hl9 : z.2.1 < len := cu_c_in c_86 (by decide)
          refine aw_aload_n C dX3_parseRule_99 rfl rfl (q := 100) rfl ?_
          refine aw_dup C dX3_parseRule_100 rfl (q := 101) rfl ?_
          refine gfX3_40_3 (v := .int (nI z.2.1)) C dX3_parseRule_101 K2.1 rfl (q := 104) rfl ?_
          refine aw_iconst (v := 1) C dX3_parseRule_104 (by decide) (q := 105) rfl ?_
          refine aw_iadd C dX3_parseRule_105 (q := 106) rfl ?_
          rw [show nI z.2.1 + 1 = nI (z.2.1 + 1) from nI_1 _]
          refine pfX3_40_3 C dX3_parseRule_106 K2.1 rfl rfl (Nat.le_of_ble_eq_true rfl) (q := 109) rfl ?_
          show aw G 3 M 109 [.ref r, .int g, .int (nI i)] [] (ac_up h2 r (.inr (3, [.ref u, .int (nI len), .int (nI (z.2.1 + 1)), .ref dr, .ref (rd 0)]))) 0 0
          obtain ⟨h_1, eh_1⟩ : ∃ z9, z9 = ac_up h2 r (.inr (3, [.ref u, .int (nI len), .int (nI (z.2.1 + 1)), .ref dr, .ref (rd 0)])) := ⟨_, rfl⟩
          rw [← eh_1]
          have kpx_3 : kp h2 h_1 [r] := by rw [eh_1]; exact kp_up (kp_cons r kp_rf) _ _ (by simp)
          have K_2 : rs_ok h_1 r u dr rd f len (z.2.1 + 1, z.2.2.1, z.2.2.2) := rs_at (s := (z.2.1, z.2.2.1, z.2.2.2)) K2 (by rw [eh_1]; exact ac_up_s _ _ _) kpx_3 (by omega)
          have kq_4 : kp h h_1 (rs_L r dr rd) := kp_in kq2 kpx_3 rs_s1
          refine aw_iinc (v := nI (i + 1)) (ls' := [.ref r, .int g, .int (nI (i + 1))]) C dX3_parseRule_109 rfl (nI_1 i) (by decide) rfl (q := 112) rfl ?_
          refine aw_goto (q := 65) C dX3_parseRule_112 (by decide) ?_
          refine ih (i + 1) _ h_1 (by omega) K_2 kq_4 ?_
          rw [← hR]; conv => rhs; unfold rs_conds
          rw [← ez, if_pos (pb_n c_75), if_pos ⟨c_86, fun q => c_94 (by rw [nI_1, show (6 : Int32) = nI 6 from rfl, nI_eq (by omega) (by decide)]; omega)⟩]
        ·
          refine aw_iconst (v := 1) C dX3_parseRule_97 (by decide) (q := 98) rfl ?_
          refine aw_zret C E dX3_parseRule_98 (rfl) (Nat.le_refl _) (Nat.le_refl _) ?_
          rw [show R = (true, z.2) from by rw [← hR]; unfold rs_conds; rw [← ez, if_pos (pb_n c_75), if_neg (fun q => q.2 (by rw [nI_1, show (6 : Int32) = nI 6 from rfl, nI_eq (by omega) (by decide)] at c_94; omega))]]
          exact ⟨rfl, K2, kq2⟩
    ·
      refine aw_iconst (v := 0) C dX3_parseRule_78 (by decide) (q := 79) rfl ?_
      refine aw_zret C E dX3_parseRule_79 (rfl) (Nat.le_refl _) (Nat.le_refl _) ?_
      rw [show R = (false, z.2) from by rw [← hR]; unfold rs_conds; rw [← ez, if_neg (pb_0.mp c_75)]]
      exact ⟨rfl, K2, kq2⟩
set_option maxHeartbeats 4000000 in
set_option maxRecDepth 100000 in
theorem c_parseRule (G : ac_G) (l : Launch) (r u dr : Nat) (rd : Nat → Nat) (f : Nat → Int32) (len : Nat) (hr : inj rd 6) (hlen : len ≤ 300) (hf : cu_ch f) (d : Nat) (h : ac_H) (s : rs_S) (K : rs_ok h r u dr rd f len s) : ac_Met G l yX3_parseRule cX3_parseRule 3 (some .boolean) (d + 59) 0 0 [.ref r] h (rs_QB h r u dr rd f len (rs_rule f len s)) := by
  refine ac_of (ls := [.ref r, .retAddr 0, .retAddr 0]) (by decide +kernel) rfl (Nat.le_of_ble_eq_true rfl) (fun M hl C B E hnm => ?_)
  refine aw_aload_n C dX3_parseRule_0 rfl rfl (q := 1) rfl ?_
  refine aw_bipush (v := 10) C dX3_parseRule_1 (by decide) (q := 3) rfl ?_
  refine cvX3_58_3 (As := [.int 10]) (rest := []) C B dX3_parseRule_3 K.1 (c_passDigit3 G M.2.1 h d r u len s.1 300 f (.ref dr) (.ref (rd 0)) 10 K.1 K.2.1 hlen (by decide) (by have := K.2.2.2.2.1; omega) hf) rfl rfl (Nat.le_of_ble_eq_true rfl) (by omega) (by omega) (by omega) (q := 6) rfl (fun r9 h3 hr9 => ?_)
  obtain ⟨er9, fr3, kp3⟩ := hr9
  subst er9
  have kq3 : kp h h3 (rs_L r dr rd) := kp_mono kp3 rs_s1
  by_cases hd9 : cu_isd (cu_c f len s.1) 10
  ·
    rw [if_pos hd9] at fr3
    rw [if_pos hd9]
    have K3 : rs_ok h3 r u dr rd f len (s.1 + 1, s.2.1, s.2.2) := rs_at (s := (s.1, s.2.1, s.2.2)) K fr3 kp3 (cu_isd_in hd9)
    show aw G 3 M 6 [.ref r, .retAddr 0, .retAddr 0] [.int (cu_c f len s.1 - 48)] h3 0 0
    refine aw_istore_n (ls' := [.ref r, .int (cu_c f len s.1 - 48), .retAddr 0]) C dX3_parseRule_6 rfl (by decide) rfl (q := 7) rfl ?_
    refine aw_iload_n C dX3_parseRule_7 rfl rfl (q := 8) rfl ?_
    refine aw_iconst (v := (-1)) C dX3_parseRule_8 (by decide) (q := 9) rfl ?_
    refine aw_icmp_eq (t := 21) (q := 12) C dX3_parseRule_9 (by decide) rfl (fun c_9 => absurd c_9 (cu_isd_10 hd9)) (fun c_9 => ?_)
    refine aw_aload_n C dX3_parseRule_12 rfl rfl (q := 13) rfl ?_
    refine cvX3_54_3 (As := []) (rest := []) C B dX3_parseRule_13 K3.1 (c_here3 G M.2.1 h3 d r u len (s.1 + 1) 300 f (.ref dr) (.ref (rd 0)) K3.1 K3.2.1 hlen (by decide) (by have := K3.2.2.2.2.1; omega) hf) rfl rfl (Nat.le_of_ble_eq_true rfl) (by omega) (by omega) (by omega) (q := 16) rfl (fun r9 h9 hr9 => ?_)
    obtain ⟨e9, er9⟩ := hr9
    subst er9; rw [e9]
    show aw G 3 M 16 [.ref r, .int (cu_c f len s.1 - 48), .retAddr 0] [.int (cu_c f len (s.1 + 1))] h3 0 0
    refine aw_bipush (v := 58) C dX3_parseRule_16 (by decide) (q := 18) rfl ?_
    refine aw_icmp_eq (t := 23) (q := 21) C dX3_parseRule_18 (by decide) rfl (fun c_18 => ?_) (fun c_18 => ?_)
    ·
      have hl9 : s.1 + 1 < len := cu_c_in c_18 (by decide)
      refine aw_aload_n C dX3_parseRule_23 rfl rfl (q := 24) rfl ?_
      refine aw_dup C dX3_parseRule_24 rfl (q := 25) rfl ?_
      refine gfX3_40_3 (v := .int (nI (s.1 + 1))) C dX3_parseRule_25 K3.1 rfl (q := 28) rfl ?_
      refine aw_iconst (v := 1) C dX3_parseRule_28 (by decide) (q := 29) rfl ?_
      refine aw_iadd C dX3_parseRule_29 (q := 30) rfl ?_
      rw [show nI (s.1 + 1) + 1 = nI (s.1 + 1 + 1) from nI_1 _]
      refine pfX3_40_3 C dX3_parseRule_30 K3.1 rfl rfl (Nat.le_of_ble_eq_true rfl) (q := 33) rfl ?_
      show aw G 3 M 33 [.ref r, .int (cu_c f len s.1 - 48), .retAddr 0] [] (ac_up h3 r (.inr (3, [.ref u, .int (nI len), .int (nI (s.1 + 1 + 1)), .ref dr, .ref (rd 0)]))) 0 0
      obtain ⟨h_1, eh_1⟩ : ∃ z9, z9 = ac_up h3 r (.inr (3, [.ref u, .int (nI len), .int (nI (s.1 + 1 + 1)), .ref dr, .ref (rd 0)])) := ⟨_, rfl⟩
      rw [← eh_1]
      have kpx_3 : kp h3 h_1 [r] := by rw [eh_1]; exact kp_up (kp_cons r kp_rf) _ _ (by simp)
      have K_2 : rs_ok h_1 r u dr rd f len (s.1 + 1 + 1, s.2.1, s.2.2) := rs_at (s := (s.1 + 1, s.2.1, s.2.2)) K3 (by rw [eh_1]; exact ac_up_s _ _ _) kpx_3 (by omega)
      have kq_4 : kp h h_1 (rs_L r dr rd) := kp_in kq3 kpx_3 rs_s1
      refine aw_aload_n C dX3_parseRule_33 rfl rfl (q := 34) rfl ?_
      refine gfX3_20_3 (v := .ref (rd 0)) C dX3_parseRule_34 K_2.1 rfl (q := 37) rfl ?_
      refine aw_iload_n C dX3_parseRule_37 rfl rfl (q := 38) rfl ?_
      refine cvX3_62_6 (As := [.int (cu_c f len s.1 - 48)]) (rest := []) C B dX3_parseRule_38 K_2.2.2.2.1.1 (c_beginRule G M.2.1 h_1 d rd s.2.2 hr K_2.2.2.2.1 K_2.2.2.2.2.2 (cu_c f len s.1 - 48)) rfl rfl (Nat.le_of_ble_eq_true rfl) (by omega) (by omega) (by omega) (q := 41) rfl (fun r9 h_5 hr9 => ?_)
      obtain ⟨er9, kx_6, kpx_7⟩ := hr9
      subst er9
      have K_8 : rs_ok h_5 r u dr rd f len (s.1 + 1 + 1, s.2.1, ru_begin s.2.2 (cu_c f len s.1 - 48)) := rs_ru (s := (s.1 + 1 + 1, s.2.1, s.2.2)) K_2 kx_6 (kp_mono kpx_7 rs_s6) (ru_begin_bd K_2.2.2.2.2.2 _)
      have kq_9 : kp h h_5 (rs_L r dr rd) := kp_in kq_4 kpx_7 rs_s4
      show aw G 3 M 41 [.ref r, .int (cu_c f len s.1 - 48), .retAddr 0] [] h_5 0 0
      refine aw_aload_n C dX3_parseRule_41 rfl rfl (q := 42) rfl ?_
      refine gfX3_40_3 (v := .int (nI (s.1 + 1 + 1))) C dX3_parseRule_42 K_8.1 rfl (q := 45) rfl ?_
      refine aw_aload_n C dX3_parseRule_45 rfl rfl (q := 46) rfl ?_
      refine gfX3_24_3 (v := .int (nI len)) C dX3_parseRule_46 K_8.1 rfl (q := 49) rfl ?_
      refine aw_icmp_eq (t := 61) (q := 52) C dX3_parseRule_49 (by decide) rfl (fun c_49 => ?_) (fun c_49 => ?_)
      ·
        refine aw_iconst (v := 1) C dX3_parseRule_61 (by decide) (q := 62) rfl ?_
        refine aw_zret C E dX3_parseRule_62 (rfl) (Nat.le_refl _) (Nat.le_refl _) ?_
        have hel : s.1 + 1 + 1 = len := (nI_eq (by omega) (by omega)).mp c_49
        rw [show rs_rule f len s = (true, s.1 + 1 + 1, s.2.1, ru_begin s.2.2 (cu_c f len s.1 - 48)) from by unfold rs_rule; rw [if_pos hd9, if_pos c_18, if_pos (Or.inl hel)]]
        exact ⟨rfl, K_8, kq_9⟩
      ·
        refine aw_aload_n C dX3_parseRule_52 rfl rfl (q := 53) rfl ?_
        refine cvX3_54_3 (As := []) (rest := []) C B dX3_parseRule_53 K_8.1 (c_here3 G M.2.1 h_5 d r u len (s.1 + 1 + 1) 300 f (.ref dr) (.ref (rd 0)) K_8.1 K_8.2.1 hlen (by decide) (by have := K_8.2.2.2.2.1; omega) hf) rfl rfl (Nat.le_of_ble_eq_true rfl) (by omega) (by omega) (by omega) (q := 56) rfl (fun r9 h9 hr9 => ?_)
        obtain ⟨e9, er9⟩ := hr9
        subst er9; rw [e9]
        show aw G 3 M 56 [.ref r, .int (cu_c f len s.1 - 48), .retAddr 0] [.int (cu_c f len (s.1 + 1 + 1))] h_5 0 0
        refine aw_bipush (v := 59) C dX3_parseRule_56 (by decide) (q := 58) rfl ?_
        refine aw_icmp_ne (t := 63) (q := 61) C dX3_parseRule_58 (by decide) rfl (fun c_58 => ?_) (fun c_58 => ?_)
        ·
          refine aw_iconst (v := 0) C dX3_parseRule_63 (by decide) (q := 64) rfl ?_
          refine aw_istore_n (ls' := [.ref r, .int (cu_c f len s.1 - 48), .int 0]) C dX3_parseRule_64 rfl (by decide) rfl (q := 65) rfl ?_
          have eR : rs_rule f len s = rs_conds f len 6 (s.1 + 1 + 1, s.2.1, ru_begin s.2.2 (cu_c f len s.1 - 48)) := by unfold rs_rule; rw [if_pos hd9, if_pos c_18, if_neg (by rintro (z | z); exact c_49 (by rw [z]); exact c_58 z)]
          exact lp_parseRule (R := rs_rule f len s) hr hlen hf C B E 6 0 _ h_5 rfl K_8 kq_9 eR.symm
        ·
          refine aw_iconst (v := 1) C dX3_parseRule_61 (by decide) (q := 62) rfl ?_
          refine aw_zret C E dX3_parseRule_62 (rfl) (Nat.le_refl _) (Nat.le_refl _) ?_
          rw [show rs_rule f len s = (true, s.1 + 1 + 1, s.2.1, ru_begin s.2.2 (cu_c f len s.1 - 48)) from by unfold rs_rule; rw [if_pos hd9, if_pos c_18, if_pos (Or.inr c_58)]]
          exact ⟨rfl, K_8, kq_9⟩
    ·
      refine aw_iconst (v := 0) C dX3_parseRule_21 (by decide) (q := 22) rfl ?_
      refine aw_zret C E dX3_parseRule_22 (rfl) (Nat.le_refl _) (Nat.le_refl _) ?_
      rw [show rs_rule f len s = (false, s.1 + 1, s.2.1, s.2.2) from by unfold rs_rule; rw [if_pos hd9, if_neg c_18]]
      exact ⟨rfl, K3, kq3⟩
  ·
    rw [if_neg hd9] at fr3
    rw [if_neg hd9]
    have K3 : rs_ok h3 r u dr rd f len (s.1, s.2.1, s.2.2) := rs_at (s := (s.1, s.2.1, s.2.2)) K fr3 kp3 K.2.2.2.2.1
    show aw G 3 M 6 [.ref r, .retAddr 0, .retAddr 0] [.int ((-1))] h3 0 0
    refine aw_istore_n (ls' := [.ref r, .int ((-1)), .retAddr 0]) C dX3_parseRule_6 rfl (by decide) rfl (q := 7) rfl ?_
    refine aw_iload_n C dX3_parseRule_7 rfl rfl (q := 8) rfl ?_
    refine aw_iconst (v := (-1)) C dX3_parseRule_8 (by decide) (q := 9) rfl ?_
    refine aw_icmp_eq (t := 21) (q := 12) C dX3_parseRule_9 (by decide) rfl (fun c_9 => ?_) (fun c_9 => absurd c_9 (fun z => z rfl))
    refine aw_iconst (v := 0) C dX3_parseRule_21 (by decide) (q := 22) rfl ?_
    refine aw_zret C E dX3_parseRule_22 (rfl) (Nat.le_refl _) (Nat.le_refl _) ?_
    rw [show rs_rule f len s = (false, s) from by unfold rs_rule; rw [if_neg hd9]]
    exact ⟨rfl, K3, kq3⟩
