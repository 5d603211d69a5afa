/-! The reference's printing: printAtom, printBetween -/
theorem pb_ins_app (A Z : List Int32) (c : Int32) : pb_ins (A ++ Z) A.length c = A ++ c :: Z := by
  unfold pb_ins
  rw [List.take_left, List.drop_left]
theorem pb_enc_app (A Z : List Int32) : pb_enc (A ++ Z) A.length = A ++ (40 :: (Z ++ [41])) := by
  unfold pb_enc
  rw [pb_ins_app, List.append_assoc]; rfl
def pr_atom (g a : Int32) : List Int32 := if 4 < g then [(if g = 5 then 110 else if g = 6 then 97 else if g = 7 then 115 else 101), 48 + a] else [if g = 2 then 108 else if g = 3 then 119 else 116]
def pr_op (g a : Int32) : Int32 := if g = 12 then 43 else if g = 13 then 45 else if g = 14 then 42 else if g = 15 then 47 else a
def pr_wr (b : Prop) [Decidable b] (Z : List Int32) : List Int32 := if b then 40 :: (Z ++ [41]) else Z
set_option maxHeartbeats 4000000 in
set_option maxRecDepth 100000 in
theorem m_printAtom (G : ac_G) (l : Launch) (o : Nat) (md : Nat → Nat) (hm : md_inj md) (h : ac_H) (d : Nat) (s : md_S) (K : md_ok h o md s) (Bf : List Int32) (R : pb_rep s Bf) (hB : Bf.length < 790) (g a : Int32) : ac_Met G l yX9_printAtom cX9_printAtom 3 none (d + 1) 0 0 [.ref o, .int g, .int a] h (pb_Q o md h s (Bf ++ pr_atom g a) none) := by
  refine ac_of (ls := [.ref o, .int g, .int a]) (by decide +kernel) rfl (Nat.le_of_ble_eq_true rfl) (fun M hl C B9 E hnm => ?_)
  refine aw_iload_n C dX9_printAtom_0 rfl rfl (q := 1) rfl ?_
  refine aw_iconst (v := 4) C dX9_printAtom_1 (by decide) (q := 2) rfl ?_
  refine aw_icmp_gt (t := 32) (q := 5) C dX9_printAtom_2 (by decide) rfl (fun c_2 => ?_) (fun c_2 => ?_)
  ·
    refine aw_aload_n C dX9_printAtom_32 rfl rfl (q := 33) rfl ?_
    refine aw_iload_n C dX9_printAtom_33 rfl rfl (q := 34) rfl ?_
    refine aw_iconst (v := 5) C dX9_printAtom_34 (by decide) (q := 35) rfl ?_
    refine aw_icmp_ne (t := 43) (q := 38) C dX9_printAtom_35 (by decide) rfl (fun c_35 => ?_) (fun c_35 => ?_)
    ·
      refine aw_iload_n C dX9_printAtom_43 rfl rfl (q := 44) rfl ?_
      refine aw_bipush (v := 6) C dX9_printAtom_44 (by decide) (q := 46) rfl ?_
      refine aw_icmp_ne (t := 54) (q := 49) C dX9_printAtom_46 (by decide) rfl (fun c_46 => ?_) (fun c_46 => ?_)
      ·
        refine aw_iload_n C dX9_printAtom_54 rfl rfl (q := 55) rfl ?_
        refine aw_bipush (v := 7) C dX9_printAtom_55 (by decide) (q := 57) rfl ?_
        refine aw_icmp_ne (t := 65) (q := 60) C dX9_printAtom_57 (by decide) rfl (fun c_57 => ?_) (fun c_57 => ?_)
        ·
          refine aw_bipush (v := 101) C dX9_printAtom_65 (by decide) (q := 67) rfl ?_
          refine cvX9_171_9 (As := [.int 101]) (rest := []) C B9 dX9_printAtom_67 K.1 (m_add G M.2.1 o md hm h d s K Bf R (by omega) 101) rfl rfl (Nat.le_of_ble_eq_true rfl) (by omega) (by omega) (by omega) (q := 70) rfl (fun r9 h_1 hr9 => ?_)
          obtain ⟨s_2, er9, K_3, R_4, F_5, kpx_7⟩ := hr9
          subst er9
          have F_6 : md_eq [41] [40] [] s s_2 := md_eq_tr md_eq_rf F_5 (by decide) (by decide) (by decide)
          have kq_8 : kp h h_1 (md_L o md) := kpx_7
          show aw G 3 M 70 [.ref o, .int g, .int a] [] h_1 0 0
          refine aw_aload_n C dX9_printAtom_70 rfl rfl (q := 71) rfl ?_
          refine aw_bipush (v := 48) C dX9_printAtom_71 (by decide) (q := 73) rfl ?_
          refine aw_iload_n C dX9_printAtom_73 rfl rfl (q := 74) rfl ?_
          refine aw_iadd C dX9_printAtom_74 (q := 75) rfl ?_
          refine cvX9_171_9 (As := [.int (48 + a)]) (rest := []) C B9 dX9_printAtom_75 K_3.1 (m_add G M.2.1 o md hm h_1 d s_2 K_3 (Bf ++ [101]) R_4 (by rw [List.length_append, List.length_singleton]; omega) (48 + a)) rfl rfl (Nat.le_of_ble_eq_true rfl) (by omega) (by omega) (by omega) (q := 78) rfl (fun r9 h_9 hr9 => ?_)
          obtain ⟨s_10, er9, K_11, R_12, F_13, kpx_15⟩ := hr9
          subst er9
          have F_14 : md_eq [41] [40] [] s s_10 := md_eq_tr F_6 F_13 (by decide) (by decide) (by decide)
          have kq_16 : kp h h_9 (md_L o md) := kp_in kq_8 kpx_15 (fun _ z => z)
          show aw G 3 M 78 [.ref o, .int g, .int a] [] h_9 0 0
          refine aw_vret C E dX9_printAtom_78 (Nat.le_refl _) (Nat.le_refl _) ?_
          rw [show pr_atom g a = _ from by unfold pr_atom; rw [if_pos c_2, if_neg c_35, if_neg c_46, if_neg c_57]]
          have z := R_12
          rw [List.append_assoc] at z
          exact ⟨_, rfl, K_11, z, F_14, kq_16⟩
        ·
          refine aw_bipush (v := 115) C dX9_printAtom_60 (by decide) (q := 62) rfl ?_
          refine aw_goto (q := 67) C dX9_printAtom_62 (by decide) ?_
          refine cvX9_171_9 (As := [.int 115]) (rest := []) C B9 dX9_printAtom_67 K.1 (m_add G M.2.1 o md hm h d s K Bf R (by omega) 115) rfl rfl (Nat.le_of_ble_eq_true rfl) (by omega) (by omega) (by omega) (q := 70) rfl (fun r9 h_17 hr9 => ?_)
          obtain ⟨s_18, er9, K_19, R_20, F_21, kpx_23⟩ := hr9
          subst er9
          have F_22 : md_eq [41] [40] [] s s_18 := md_eq_tr md_eq_rf F_21 (by decide) (by decide) (by decide)
          have kq_24 : kp h h_17 (md_L o md) := kpx_23
          show aw G 3 M 70 [.ref o, .int g, .int a] [] h_17 0 0
          refine aw_aload_n C dX9_printAtom_70 rfl rfl (q := 71) rfl ?_
          refine aw_bipush (v := 48) C dX9_printAtom_71 (by decide) (q := 73) rfl ?_
          refine aw_iload_n C dX9_printAtom_73 rfl rfl (q := 74) rfl ?_
          refine aw_iadd C dX9_printAtom_74 (q := 75) rfl ?_
          refine cvX9_171_9 (As := [.int (48 + a)]) (rest := []) C B9 dX9_printAtom_75 K_19.1 (m_add G M.2.1 o md hm h_17 d s_18 K_19 (Bf ++ [115]) R_20 (by rw [List.length_append, List.length_singleton]; omega) (48 + a)) rfl rfl (Nat.le_of_ble_eq_true rfl) (by omega) (by omega) (by omega) (q := 78) rfl (fun r9 h_25 hr9 => ?_)
          obtain ⟨s_26, er9, K_27, R_28, F_29, kpx_31⟩ := hr9
          subst er9
          have F_30 : md_eq [41] [40] [] s s_26 := md_eq_tr F_22 F_29 (by decide) (by decide) (by decide)
          have kq_32 : kp h h_25 (md_L o md) := kp_in kq_24 kpx_31 (fun _ z => z)
          show aw G 3 M 78 [.ref o, .int g, .int a] [] h_25 0 0
          refine aw_vret C E dX9_printAtom_78 (Nat.le_refl _) (Nat.le_refl _) ?_
          rw [show pr_atom g a = _ from by unfold pr_atom; rw [if_pos c_2, if_neg c_35, if_neg c_46, if_pos c_57]]
          have z := R_28
          rw [List.append_assoc] at z
          exact ⟨_, rfl, K_27, z, F_30, kq_32⟩
      ·
        refine aw_bipush (v := 97) C dX9_printAtom_49 (by decide) (q := 51) rfl ?_
        refine aw_goto (q := 67) C dX9_printAtom_51 (by decide) ?_
        refine cvX9_171_9 (As := [.int 97]) (rest := []) C B9 dX9_printAtom_67 K.1 (m_add G M.2.1 o md hm h d s K Bf R (by omega) 97) rfl rfl (Nat.le_of_ble_eq_true rfl) (by omega) (by omega) (by omega) (q := 70) rfl (fun r9 h_33 hr9 => ?_)
        obtain ⟨s_34, er9, K_35, R_36, F_37, kpx_39⟩ := hr9
        subst er9
        have F_38 : md_eq [41] [40] [] s s_34 := md_eq_tr md_eq_rf F_37 (by decide) (by decide) (by decide)
        have kq_40 : kp h h_33 (md_L o md) := kpx_39
        show aw G 3 M 70 [.ref o, .int g, .int a] [] h_33 0 0
        refine aw_aload_n C dX9_printAtom_70 rfl rfl (q := 71) rfl ?_
        refine aw_bipush (v := 48) C dX9_printAtom_71 (by decide) (q := 73) rfl ?_
        refine aw_iload_n C dX9_printAtom_73 rfl rfl (q := 74) rfl ?_
        refine aw_iadd C dX9_printAtom_74 (q := 75) rfl ?_
        refine cvX9_171_9 (As := [.int (48 + a)]) (rest := []) C B9 dX9_printAtom_75 K_35.1 (m_add G M.2.1 o md hm h_33 d s_34 K_35 (Bf ++ [97]) R_36 (by rw [List.length_append, List.length_singleton]; omega) (48 + a)) rfl rfl (Nat.le_of_ble_eq_true rfl) (by omega) (by omega) (by omega) (q := 78) rfl (fun r9 h_41 hr9 => ?_)
        obtain ⟨s_42, er9, K_43, R_44, F_45, kpx_47⟩ := hr9
        subst er9
        have F_46 : md_eq [41] [40] [] s s_42 := md_eq_tr F_38 F_45 (by decide) (by decide) (by decide)
        have kq_48 : kp h h_41 (md_L o md) := kp_in kq_40 kpx_47 (fun _ z => z)
        show aw G 3 M 78 [.ref o, .int g, .int a] [] h_41 0 0
        refine aw_vret C E dX9_printAtom_78 (Nat.le_refl _) (Nat.le_refl _) ?_
        rw [show pr_atom g a = _ from by unfold pr_atom; rw [if_pos c_2, if_neg c_35, if_pos c_46]]
        have z := R_44
        rw [List.append_assoc] at z
        exact ⟨_, rfl, K_43, z, F_46, kq_48⟩
    ·
      refine aw_bipush (v := 110) C dX9_printAtom_38 (by decide) (q := 40) rfl ?_
      refine aw_goto (q := 67) C dX9_printAtom_40 (by decide) ?_
      refine cvX9_171_9 (As := [.int 110]) (rest := []) C B9 dX9_printAtom_67 K.1 (m_add G M.2.1 o md hm h d s K Bf R (by omega) 110) rfl rfl (Nat.le_of_ble_eq_true rfl) (by omega) (by omega) (by omega) (q := 70) rfl (fun r9 h_49 hr9 => ?_)
      obtain ⟨s_50, er9, K_51, R_52, F_53, kpx_55⟩ := hr9
      subst er9
      have F_54 : md_eq [41] [40] [] s s_50 := md_eq_tr md_eq_rf F_53 (by decide) (by decide) (by decide)
      have kq_56 : kp h h_49 (md_L o md) := kpx_55
      show aw G 3 M 70 [.ref o, .int g, .int a] [] h_49 0 0
      refine aw_aload_n C dX9_printAtom_70 rfl rfl (q := 71) rfl ?_
      refine aw_bipush (v := 48) C dX9_printAtom_71 (by decide) (q := 73) rfl ?_
      refine aw_iload_n C dX9_printAtom_73 rfl rfl (q := 74) rfl ?_
      refine aw_iadd C dX9_printAtom_74 (q := 75) rfl ?_
      refine cvX9_171_9 (As := [.int (48 + a)]) (rest := []) C B9 dX9_printAtom_75 K_51.1 (m_add G M.2.1 o md hm h_49 d s_50 K_51 (Bf ++ [110]) R_52 (by rw [List.length_append, List.length_singleton]; omega) (48 + a)) rfl rfl (Nat.le_of_ble_eq_true rfl) (by omega) (by omega) (by omega) (q := 78) rfl (fun r9 h_57 hr9 => ?_)
      obtain ⟨s_58, er9, K_59, R_60, F_61, kpx_63⟩ := hr9
      subst er9
      have F_62 : md_eq [41] [40] [] s s_58 := md_eq_tr F_54 F_61 (by decide) (by decide) (by decide)
      have kq_64 : kp h h_57 (md_L o md) := kp_in kq_56 kpx_63 (fun _ z => z)
      show aw G 3 M 78 [.ref o, .int g, .int a] [] h_57 0 0
      refine aw_vret C E dX9_printAtom_78 (Nat.le_refl _) (Nat.le_refl _) ?_
      rw [show pr_atom g a = _ from by unfold pr_atom; rw [if_pos c_2, if_pos c_35]]
      have z := R_60
      rw [List.append_assoc] at z
      exact ⟨_, rfl, K_59, z, F_62, kq_64⟩
  ·
    refine aw_aload_n C dX9_printAtom_5 rfl rfl (q := 6) rfl ?_
    refine aw_iload_n C dX9_printAtom_6 rfl rfl (q := 7) rfl ?_
    refine aw_iconst (v := 2) C dX9_printAtom_7 (by decide) (q := 8) rfl ?_
    refine aw_icmp_ne (t := 16) (q := 11) C dX9_printAtom_8 (by decide) rfl (fun c_8 => ?_) (fun c_8 => ?_)
    ·
      refine aw_iload_n C dX9_printAtom_16 rfl rfl (q := 17) rfl ?_
      refine aw_iconst (v := 3) C dX9_printAtom_17 (by decide) (q := 18) rfl ?_
      refine aw_icmp_ne (t := 26) (q := 21) C dX9_printAtom_18 (by decide) rfl (fun c_18 => ?_) (fun c_18 => ?_)
      ·
        refine aw_bipush (v := 116) C dX9_printAtom_26 (by decide) (q := 28) rfl ?_
        refine cvX9_171_9 (As := [.int 116]) (rest := []) C B9 dX9_printAtom_28 K.1 (m_add G M.2.1 o md hm h d s K Bf R (by omega) 116) rfl rfl (Nat.le_of_ble_eq_true rfl) (by omega) (by omega) (by omega) (q := 31) rfl (fun r9 h_65 hr9 => ?_)
        obtain ⟨s_66, er9, K_67, R_68, F_69, kpx_71⟩ := hr9
        subst er9
        have F_70 : md_eq [41] [40] [] s s_66 := md_eq_tr md_eq_rf F_69 (by decide) (by decide) (by decide)
        have kq_72 : kp h h_65 (md_L o md) := kpx_71
        show aw G 3 M 31 [.ref o, .int g, .int a] [] h_65 0 0
        refine aw_vret C E dX9_printAtom_31 (Nat.le_refl _) (Nat.le_refl _) ?_
        rw [show pr_atom g a = _ from by unfold pr_atom; rw [if_neg c_2, if_neg c_8, if_neg c_18]]
        exact ⟨_, rfl, K_67, R_68, F_70, kq_72⟩
      ·
        refine aw_bipush (v := 119) C dX9_printAtom_21 (by decide) (q := 23) rfl ?_
        refine aw_goto (q := 28) C dX9_printAtom_23 (by decide) ?_
        refine cvX9_171_9 (As := [.int 119]) (rest := []) C B9 dX9_printAtom_28 K.1 (m_add G M.2.1 o md hm h d s K Bf R (by omega) 119) rfl rfl (Nat.le_of_ble_eq_true rfl) (by omega) (by omega) (by omega) (q := 31) rfl (fun r9 h_73 hr9 => ?_)
        obtain ⟨s_74, er9, K_75, R_76, F_77, kpx_79⟩ := hr9
        subst er9
        have F_78 : md_eq [41] [40] [] s s_74 := md_eq_tr md_eq_rf F_77 (by decide) (by decide) (by decide)
        have kq_80 : kp h h_73 (md_L o md) := kpx_79
        show aw G 3 M 31 [.ref o, .int g, .int a] [] h_73 0 0
        refine aw_vret C E dX9_printAtom_31 (Nat.le_refl _) (Nat.le_refl _) ?_
        rw [show pr_atom g a = _ from by unfold pr_atom; rw [if_neg c_2, if_neg c_8, if_pos c_18]]
        exact ⟨_, rfl, K_75, R_76, F_78, kq_80⟩
    ·
      refine aw_bipush (v := 108) C dX9_printAtom_11 (by decide) (q := 13) rfl ?_
      refine aw_goto (q := 28) C dX9_printAtom_13 (by decide) ?_
      refine cvX9_171_9 (As := [.int 108]) (rest := []) C B9 dX9_printAtom_28 K.1 (m_add G M.2.1 o md hm h d s K Bf R (by omega) 108) rfl rfl (Nat.le_of_ble_eq_true rfl) (by omega) (by omega) (by omega) (q := 31) rfl (fun r9 h_81 hr9 => ?_)
      obtain ⟨s_82, er9, K_83, R_84, F_85, kpx_87⟩ := hr9
      subst er9
      have F_86 : md_eq [41] [40] [] s s_82 := md_eq_tr md_eq_rf F_85 (by decide) (by decide) (by decide)
      have kq_88 : kp h h_81 (md_L o md) := kpx_87
      show aw G 3 M 31 [.ref o, .int g, .int a] [] h_81 0 0
      refine aw_vret C E dX9_printAtom_31 (Nat.le_refl _) (Nat.le_refl _) ?_
      rw [show pr_atom g a = _ from by unfold pr_atom; rw [if_neg c_2, if_pos c_8]]
      exact ⟨_, rfl, K_83, R_84, F_86, kq_88⟩
def pr_two (g a sx sy : Int32) (X Y : List Int32) : List Int32 := pr_wr ((g = 14 ∨ g = 15) ∧ sx = 1) X ++ pr_op g a :: pr_wr (¬ g = 16 ∧ (sy = 1 ∨ (g = 14 ∨ g = 15) ∧ sy = 2)) Y
def pr_BQ (o : Nat) (md : Nat → Nat) (h : ac_H) (s : md_S) (t : Nat) (v : Int32) (B : List Int32) (r : Option Value) : Option Value → ac_H → Prop := fun r9 h9 => ∃ s' : md_S, r9 = r ∧ md_ok h9 o md s' ∧ pb_rep s' B ∧ md_eq [41] [40, 42, 43] [] s s' ∧ s'.2.1 42 = s.2.1 42 ∧ s'.2.1 43 = upd (s.2.1 43) t v ∧ kp h h9 (md_L o md)
set_option maxHeartbeats 4000000 in
set_option maxRecDepth 100000 in
theorem m_printBetween (G : ac_G) (l : Launch) (o : Nat) (md : Nat → Nat) (hm : md_inj md) (h : ac_H) (d : Nat) (s : md_S) (K : md_ok h o md s) (A X Y : List Int32) (R : pb_rep s (A ++ X ++ Y)) (hB : A.length + X.length + Y.length ≤ 700) (t : Nat) (ht : t ≤ 310) (sx sy : Int32) (ha2 : s.2.1 42 t = nI A.length) (hb2 : s.2.1 42 (t + 1) = nI (A ++ X).length) (ha3 : s.2.1 43 t = sx) (hb3 : s.2.1 43 (t + 1) = sy) (g a : Int32) : ac_Met G l yX9_printBetween cX9_printBetween 6 none (d + 2) 0 0 [.ref o, .int g, .int a, .int (nI (t + 2))] h (pr_BQ o md h s t (if g = 14 ∨ g = 15 then 2 else 1) (A ++ pr_two g a sx sy X Y) none) := by
  refine ac_of (ls := [.ref o, .int g, .int a, .int (nI (t + 2)), .retAddr 0, .retAddr 0]) (by decide +kernel) rfl (Nat.le_of_ble_eq_true rfl) (fun M hl C B9 E hnm => ?_)
  refine aw_iload_n C dX9_printBetween_0 rfl rfl (q := 1) rfl ?_
  refine aw_bipush (v := 14) C dX9_printBetween_1 (by decide) (q := 3) rfl ?_
  refine aw_icmp_eq (t := 12) (q := 6) C dX9_printBetween_3 (by decide) rfl (fun c_3 => ?_) (fun c_3 => ?_)
  ·
    refine aw_iconst (v := 1) C dX9_printBetween_12 (by decide) (q := 13) rfl ?_
    refine aw_goto (q := 17) C dX9_printBetween_13 (by decide) ?_
    refine aw_istore (ls' := [.ref o, .int g, .int a, .int (nI (t + 2)), .int 1, .retAddr 0]) C dX9_printBetween_17 (by decide) rfl (q := 19) rfl ?_
    refine aw_aload_n C dX9_printBetween_19 rfl rfl (q := 20) rfl ?_
    refine gfX9_86_9 (v := .ref (md 43)) C dX9_printBetween_20 K.1 rfl (q := 23) rfl ?_
    refine aw_iload_n C dX9_printBetween_23 rfl rfl (q := 24) rfl ?_
    refine aw_iconst (v := 1) C dX9_printBetween_24 (by decide) (q := 25) rfl ?_
    refine aw_isub C dX9_printBetween_25 (q := 26) rfl ?_
    refine ay_iald (N := 320) (f := s.2.1 43) (j := t + 1) C dX9_printBetween_26 (K.2.1 43 (by decide)) (by rw [nI_s1 (by omega)]; exact vp_in_nI (by omega) (by decide)) (by rw [nI_s1 (by omega)]; exact nI_clamp (by omega)) (q := 27) rfl ?_
    rw [show s.2.1 43 (t + 1) = sy from by rw [show s.2.1 43 = s.2.1 43 from (md_eq_rf : md_eq [41] [40] [] s s).2.1 43 (by decide)]; exact hb3]
    refine aw_istore (ls' := [.ref o, .int g, .int a, .int (nI (t + 2)), .int 1, .int sy]) C dX9_printBetween_27 (by decide) rfl (q := 29) rfl ?_
    refine aw_iload_n C dX9_printBetween_29 rfl rfl (q := 30) rfl ?_
    refine aw_bipush (v := 16) C dX9_printBetween_30 (by decide) (q := 32) rfl ?_
    refine aw_icmp_eq (t := 64) (q := 35) C dX9_printBetween_32 (by decide) rfl (fun c_32 => absurd c_32 (by rw [c_3]; decide)) (fun c_32 => ?_)
    refine aw_iload C dX9_printBetween_35 rfl (q := 37) rfl ?_
    refine aw_iconst (v := 1) C dX9_printBetween_37 (by decide) (q := 38) rfl ?_
    refine aw_icmp_eq (t := 52) (q := 41) C dX9_printBetween_38 (by decide) rfl (fun c_38 => ?_) (fun c_38 => ?_)
    ·
      refine aw_aload_n C dX9_printBetween_52 rfl rfl (q := 53) rfl ?_
      refine aw_aload_n C dX9_printBetween_53 rfl rfl (q := 54) rfl ?_
      refine gfX9_83_9 (v := .ref (md 42)) C dX9_printBetween_54 K.1 rfl (q := 57) rfl ?_
      refine aw_iload_n C dX9_printBetween_57 rfl rfl (q := 58) rfl ?_
      refine aw_iconst (v := 1) C dX9_printBetween_58 (by decide) (q := 59) rfl ?_
      refine aw_isub C dX9_printBetween_59 (q := 60) rfl ?_
      refine ay_iald (N := 320) (f := s.2.1 42) (j := t + 1) C dX9_printBetween_60 (K.2.1 42 (by decide)) (by rw [nI_s1 (by omega)]; exact vp_in_nI (by omega) (by decide)) (by rw [nI_s1 (by omega)]; exact nI_clamp (by omega)) (q := 61) rfl ?_
      rw [show s.2.1 42 (t + 1) = nI (A ++ X).length from by rw [show s.2.1 42 = s.2.1 42 from (md_eq_rf : md_eq [41] [40] [] s s).2.1 42 (by decide)]; exact hb2]
      refine cvX9_183_9 (As := [.int (nI (A ++ X).length)]) (rest := []) C B9 dX9_printBetween_61 K.1 (m_enclose G M.2.1 o md hm h d s K (A ++ X ++ Y) R (by simp only [List.length_append, List.length_cons, List.length_nil]; omega) (A ++ X).length (by simp only [List.length_append, List.length_cons, List.length_nil]; omega)) rfl rfl (Nat.le_of_ble_eq_true rfl) (by omega) (by omega) (by omega) (q := 64) rfl (fun r9 h_1 hr9 => ?_)
      obtain ⟨s_2, er9, K_3, R_4, F_5, kpx_7⟩ := hr9
      subst er9
      have F_6 : md_eq [41] [40] [] s s_2 := md_eq_tr md_eq_rf F_5 (by decide) (by decide) (by decide)
      have kq_8 : kp h h_1 (md_L o md) := kpx_7
      show aw G 6 M 64 [.ref o, .int g, .int a, .int (nI (t + 2)), .int 1, .int sy] [] h_1 0 0
      have R_9 : pb_rep s_2 (A ++ X ++ (40 :: (Y ++ [41]))) := by have z := R_4; rw [pb_enc_app] at z; exact z
      refine aw_aload_n C dX9_printBetween_64 rfl rfl (q := 65) rfl ?_
      refine aw_aload_n C dX9_printBetween_65 rfl rfl (q := 66) rfl ?_
      refine gfX9_83_9 (v := .ref (md 42)) C dX9_printBetween_66 K_3.1 rfl (q := 69) rfl ?_
      refine aw_iload_n C dX9_printBetween_69 rfl rfl (q := 70) rfl ?_
      refine aw_iconst (v := 1) C dX9_printBetween_70 (by decide) (q := 71) rfl ?_
      refine aw_isub C dX9_printBetween_71 (q := 72) rfl ?_
      refine ay_iald (N := 320) (f := s_2.2.1 42) (j := t + 1) C dX9_printBetween_72 (K_3.2.1 42 (by decide)) (by rw [nI_s1 (by omega)]; exact vp_in_nI (by omega) (by decide)) (by rw [nI_s1 (by omega)]; exact nI_clamp (by omega)) (q := 73) rfl ?_
      rw [show s_2.2.1 42 (t + 1) = nI (A ++ X).length from by rw [show s_2.2.1 42 = s.2.1 42 from (F_6 : md_eq [41] [40] [] s s_2).2.1 42 (by decide)]; exact hb2]
      refine aw_iload_n C dX9_printBetween_73 rfl rfl (q := 74) rfl ?_
      refine aw_bipush (v := 12) C dX9_printBetween_74 (by decide) (q := 76) rfl ?_
      refine aw_icmp_ne (t := 84) (q := 79) C dX9_printBetween_76 (by decide) rfl (fun c_76 => ?_) (fun c_76 => absurd c_76 (by rw [c_3]; decide))
      refine aw_iload_n C dX9_printBetween_84 rfl rfl (q := 85) rfl ?_
      refine aw_bipush (v := 13) C dX9_printBetween_85 (by decide) (q := 87) rfl ?_
      refine aw_icmp_ne (t := 95) (q := 90) C dX9_printBetween_87 (by decide) rfl (fun c_87 => ?_) (fun c_87 => absurd c_87 (by rw [c_3]; decide))
      refine aw_iload_n C dX9_printBetween_95 rfl rfl (q := 96) rfl ?_
      refine aw_bipush (v := 14) C dX9_printBetween_96 (by decide) (q := 98) rfl ?_
      refine aw_icmp_ne (t := 106) (q := 101) C dX9_printBetween_98 (by decide) rfl (fun c_98 => absurd c_98 (fun z => z c_3)) (fun c_98 => ?_)
      refine aw_bipush (v := 42) C dX9_printBetween_101 (by decide) (q := 103) rfl ?_
      refine aw_goto (q := 118) C dX9_printBetween_103 (by decide) ?_
      refine cvX9_174_9 (As := [.int (nI (A ++ X).length), .int 42]) (rest := []) C B9 dX9_printBetween_118 K_3.1 (m_insert G M.2.1 o md hm h_1 (d + 1) s_2 K_3 (A ++ X ++ (40 :: (Y ++ [41]))) R_9 (by simp only [List.length_append, List.length_cons, List.length_nil]; omega) (A ++ X).length (by simp only [List.length_append, List.length_cons, List.length_nil]; omega) 42) rfl rfl (Nat.le_of_ble_eq_true rfl) (by omega) (by omega) (by omega) (q := 121) rfl (fun r9 h_10 hr9 => ?_)
      obtain ⟨s_11, er9, K_12, R_13, F_14, kpx_16⟩ := hr9
      subst er9
      have F_15 : md_eq [41] [40] [] s s_11 := md_eq_tr F_6 F_14 (by decide) (by decide) (by decide)
      have kq_17 : kp h h_10 (md_L o md) := kp_in kq_8 kpx_16 (fun _ z => z)
      show aw G 6 M 121 [.ref o, .int g, .int a, .int (nI (t + 2)), .int 1, .int sy] [] h_10 0 0
      have R_18 : pb_rep s_11 (A ++ X ++ 42 :: (40 :: (Y ++ [41]))) := by have z := R_13; rw [pb_ins_app] at z; exact z
      refine aw_iload C dX9_printBetween_121 rfl (q := 123) rfl ?_
      refine aw_if_eq (t := 166) (q := 126) C dX9_printBetween_123 (by decide) rfl (fun c_123 => absurd c_123 (by decide)) (fun c_123 => ?_)
      refine aw_aload_n C dX9_printBetween_126 rfl rfl (q := 127) rfl ?_
      refine gfX9_86_9 (v := .ref (md 43)) C dX9_printBetween_127 K_12.1 rfl (q := 130) rfl ?_
      refine aw_iload_n C dX9_printBetween_130 rfl rfl (q := 131) rfl ?_
      refine aw_iconst (v := 2) C dX9_printBetween_131 (by decide) (q := 132) rfl ?_
      refine aw_isub C dX9_printBetween_132 (q := 133) rfl ?_
      refine ay_iald (N := 320) (f := s_11.2.1 43) (j := t) C dX9_printBetween_133 (K_12.2.1 43 (by decide)) (by rw [nI_s2 (by omega)]; exact vp_in_nI (by omega) (by decide)) (by rw [nI_s2 (by omega)]; exact nI_clamp (by omega)) (q := 134) rfl ?_
      rw [show s_11.2.1 43 (t) = sx from by rw [show s_11.2.1 43 = s.2.1 43 from (F_15 : md_eq [41] [40] [] s s_11).2.1 43 (by decide)]; exact ha3]
      refine aw_iconst (v := 1) C dX9_printBetween_134 (by decide) (q := 135) rfl ?_
      refine aw_icmp_ne (t := 166) (q := 138) C dX9_printBetween_135 (by decide) rfl (fun c_135 => ?_) (fun c_135 => ?_)
      ·
        refine aw_aload_n C dX9_printBetween_166 rfl rfl (q := 167) rfl ?_
        refine gfX9_86_9 (v := .ref (md 43)) C dX9_printBetween_167 K_12.1 rfl (q := 170) rfl ?_
        refine aw_iload_n C dX9_printBetween_170 rfl rfl (q := 171) rfl ?_
        refine aw_iconst (v := 2) C dX9_printBetween_171 (by decide) (q := 172) rfl ?_
        refine aw_isub C dX9_printBetween_172 (q := 173) rfl ?_
        refine aw_iload C dX9_printBetween_173 rfl (q := 175) rfl ?_
        refine aw_if_eq (t := 182) (q := 178) C dX9_printBetween_175 (by decide) rfl (fun c_175 => absurd c_175 (by decide)) (fun c_175 => ?_)
        refine aw_iconst (v := 2) C dX9_printBetween_178 (by decide) (q := 179) rfl ?_
        refine aw_goto (q := 183) C dX9_printBetween_179 (by decide) ?_
        refine ay_iast (N := 320) (f := s_11.2.1 43) (j := t) C dX9_printBetween_183 (K_12.2.1 43 (by decide)) (by rw [nI_s2 (by omega)]; exact vp_in_nI (by omega) (by decide)) (by rw [nI_s2 (by omega)]; exact nI_clamp (by omega)) (q := 184) rfl ?_
        show aw G 6 M 184 [.ref o, .int g, .int a, .int (nI (t + 2)), .int 1, .int sy] [] (ac_up h_10 (md 43) (.inl (1, 320, .inl (upd (s_11.2.1 43) t 2)))) 0 0
        obtain ⟨h_19, eh_19⟩ : ∃ z9, z9 = ac_up h_10 (md 43) (.inl (1, 320, .inl (upd (s_11.2.1 43) t 2))) := ⟨_, rfl⟩
        rw [← eh_19]
        have kpx_22 : kp h_10 h_19 [md 43] := by rw [eh_19]; exact kp_up (kp_cons _ kp_rf) _ _ (by simp)
        have K_20 : md_ok h_19 o md (s_11.1, va_up s_11.2.1 43 (upd (s_11.2.1 43) t 2), s_11.2.2) := md_A (s := (s_11.1, s_11.2.1, s_11.2.2)) hm K_12 (j := 43) (by decide) (by rw [eh_19]; exact ac_up_s _ _ _) kpx_22
        have kq_21 : kp h h_19 (md_L o md) := kp_in kq_17 kpx_22 (md_sj (by decide))
        refine aw_vret C E dX9_printBetween_184 (Nat.le_refl _) (Nat.le_refl _) ?_
        refine ⟨_, rfl, K_20, ?_, ?_, ?_, ?_, kq_21⟩
        · have e : A ++ pr_two g a sx sy X Y = A ++ X ++ 42 :: (40 :: (Y ++ [41])) := by
            unfold pr_two
            rw [show pr_wr ((g = 14 ∨ g = 15) ∧ sx = 1) X = _ from if_neg (fun z => c_135 z.2), show pr_wr (¬ g = 16 ∧ (sy = 1 ∨ (g = 14 ∨ g = 15) ∧ sy = 2)) Y = _ from if_pos ⟨c_32, Or.inl c_38⟩, show pr_op g a = _ from by unfold pr_op; rw [if_neg c_76, if_neg c_87, if_pos c_98]]
            simp
          rw [e]; exact R_18
        · exact md_eq_A (s1 := s_11) (md_eq_tr (md_eq_rf : md_eq [41] [40, 42, 43] [] s s) F_15 (by decide) (by decide) (by decide)) _ (by decide)
        · exact F_15.2.1 42 (by decide)
        · show upd (s_11.2.1 43) t 2 = _
          rw [show s_11.2.1 43 = s.2.1 43 from F_15.2.1 43 (by decide), if_pos (Or.inl c_3)]
      ·
        refine aw_aload_n C dX9_printBetween_138 rfl rfl (q := 139) rfl ?_
        refine aw_aload_n C dX9_printBetween_139 rfl rfl (q := 140) rfl ?_
        refine gfX9_83_9 (v := .ref (md 42)) C dX9_printBetween_140 K_12.1 rfl (q := 143) rfl ?_
        refine aw_iload_n C dX9_printBetween_143 rfl rfl (q := 144) rfl ?_
        refine aw_iconst (v := 1) C dX9_printBetween_144 (by decide) (q := 145) rfl ?_
        refine aw_isub C dX9_printBetween_145 (q := 146) rfl ?_
        refine ay_iald (N := 320) (f := s_11.2.1 42) (j := t + 1) C dX9_printBetween_146 (K_12.2.1 42 (by decide)) (by rw [nI_s1 (by omega)]; exact vp_in_nI (by omega) (by decide)) (by rw [nI_s1 (by omega)]; exact nI_clamp (by omega)) (q := 147) rfl ?_
        rw [show s_11.2.1 42 (t + 1) = nI (A ++ X).length from by rw [show s_11.2.1 42 = s.2.1 42 from (F_15 : md_eq [41] [40] [] s s_11).2.1 42 (by decide)]; exact hb2]
        refine aw_bipush (v := 41) C dX9_printBetween_147 (by decide) (q := 149) rfl ?_
        refine cvX9_174_9 (As := [.int (nI (A ++ X).length), .int 41]) (rest := []) C B9 dX9_printBetween_149 K_12.1 (m_insert G M.2.1 o md hm h_10 (d + 1) s_11 K_12 (A ++ X ++ 42 :: (40 :: (Y ++ [41]))) R_18 (by simp only [List.length_append, List.length_cons, List.length_nil]; omega) (A ++ X).length (by simp only [List.length_append, List.length_cons, List.length_nil]; omega) 41) rfl rfl (Nat.le_of_ble_eq_true rfl) (by omega) (by omega) (by omega) (q := 152) rfl (fun r9 h_23 hr9 => ?_)
        obtain ⟨s_24, er9, K_25, R_26, F_27, kpx_29⟩ := hr9
        subst er9
        have F_28 : md_eq [41] [40] [] s s_24 := md_eq_tr F_15 F_27 (by decide) (by decide) (by decide)
        have kq_30 : kp h h_23 (md_L o md) := kp_in kq_17 kpx_29 (fun _ z => z)
        show aw G 6 M 152 [.ref o, .int g, .int a, .int (nI (t + 2)), .int 1, .int sy] [] h_23 0 0
        have R_31 : pb_rep s_24 (A ++ X ++ 41 :: 42 :: (40 :: (Y ++ [41]))) := by have z := R_26; rw [pb_ins_app] at z; exact z
        have R_32 : pb_rep s_24 (A ++ (X ++ 41 :: 42 :: (40 :: (Y ++ [41])))) := by have z := R_31; rw [List.append_assoc] at z; exact z
        refine aw_aload_n C dX9_printBetween_152 rfl rfl (q := 153) rfl ?_
        refine aw_aload_n C dX9_printBetween_153 rfl rfl (q := 154) rfl ?_
        refine gfX9_83_9 (v := .ref (md 42)) C dX9_printBetween_154 K_25.1 rfl (q := 157) rfl ?_
        refine aw_iload_n C dX9_printBetween_157 rfl rfl (q := 158) rfl ?_
        refine aw_iconst (v := 2) C dX9_printBetween_158 (by decide) (q := 159) rfl ?_
        refine aw_isub C dX9_printBetween_159 (q := 160) rfl ?_
        refine ay_iald (N := 320) (f := s_24.2.1 42) (j := t) C dX9_printBetween_160 (K_25.2.1 42 (by decide)) (by rw [nI_s2 (by omega)]; exact vp_in_nI (by omega) (by decide)) (by rw [nI_s2 (by omega)]; exact nI_clamp (by omega)) (q := 161) rfl ?_
        rw [show s_24.2.1 42 (t) = nI A.length from by rw [show s_24.2.1 42 = s.2.1 42 from (F_28 : md_eq [41] [40] [] s s_24).2.1 42 (by decide)]; exact ha2]
        refine aw_bipush (v := 40) C dX9_printBetween_161 (by decide) (q := 163) rfl ?_
        refine cvX9_174_9 (As := [.int (nI A.length), .int 40]) (rest := []) C B9 dX9_printBetween_163 K_25.1 (m_insert G M.2.1 o md hm h_23 (d + 1) s_24 K_25 (A ++ (X ++ 41 :: 42 :: (40 :: (Y ++ [41])))) R_32 (by simp only [List.length_append, List.length_cons, List.length_nil]; omega) A.length (by simp only [List.length_append, List.length_cons, List.length_nil]; omega) 40) rfl rfl (Nat.le_of_ble_eq_true rfl) (by omega) (by omega) (by omega) (q := 166) rfl (fun r9 h_33 hr9 => ?_)
        obtain ⟨s_34, er9, K_35, R_36, F_37, kpx_39⟩ := hr9
        subst er9
        have F_38 : md_eq [41] [40] [] s s_34 := md_eq_tr F_28 F_37 (by decide) (by decide) (by decide)
        have kq_40 : kp h h_33 (md_L o md) := kp_in kq_30 kpx_39 (fun _ z => z)
        show aw G 6 M 166 [.ref o, .int g, .int a, .int (nI (t + 2)), .int 1, .int sy] [] h_33 0 0
        have R_41 : pb_rep s_34 (A ++ 40 :: (X ++ 41 :: 42 :: (40 :: (Y ++ [41])))) := by have z := R_36; rw [pb_ins_app] at z; exact z
        refine aw_aload_n C dX9_printBetween_166 rfl rfl (q := 167) rfl ?_
        refine gfX9_86_9 (v := .ref (md 43)) C dX9_printBetween_167 K_35.1 rfl (q := 170) rfl ?_
        refine aw_iload_n C dX9_printBetween_170 rfl rfl (q := 171) rfl ?_
        refine aw_iconst (v := 2) C dX9_printBetween_171 (by decide) (q := 172) rfl ?_
        refine aw_isub C dX9_printBetween_172 (q := 173) rfl ?_
        refine aw_iload C dX9_printBetween_173 rfl (q := 175) rfl ?_
        refine aw_if_eq (t := 182) (q := 178) C dX9_printBetween_175 (by decide) rfl (fun c_175 => absurd c_175 (by decide)) (fun c_175 => ?_)
        refine aw_iconst (v := 2) C dX9_printBetween_178 (by decide) (q := 179) rfl ?_
        refine aw_goto (q := 183) C dX9_printBetween_179 (by decide) ?_
        refine ay_iast (N := 320) (f := s_34.2.1 43) (j := t) C dX9_printBetween_183 (K_35.2.1 43 (by decide)) (by rw [nI_s2 (by omega)]; exact vp_in_nI (by omega) (by decide)) (by rw [nI_s2 (by omega)]; exact nI_clamp (by omega)) (q := 184) rfl ?_
        show aw G 6 M 184 [.ref o, .int g, .int a, .int (nI (t + 2)), .int 1, .int sy] [] (ac_up h_33 (md 43) (.inl (1, 320, .inl (upd (s_34.2.1 43) t 2)))) 0 0
        obtain ⟨h_42, eh_42⟩ : ∃ z9, z9 = ac_up h_33 (md 43) (.inl (1, 320, .inl (upd (s_34.2.1 43) t 2))) := ⟨_, rfl⟩
        rw [← eh_42]
        have kpx_45 : kp h_33 h_42 [md 43] := by rw [eh_42]; exact kp_up (kp_cons _ kp_rf) _ _ (by simp)
        have K_43 : md_ok h_42 o md (s_34.1, va_up s_34.2.1 43 (upd (s_34.2.1 43) t 2), s_34.2.2) := md_A (s := (s_34.1, s_34.2.1, s_34.2.2)) hm K_35 (j := 43) (by decide) (by rw [eh_42]; exact ac_up_s _ _ _) kpx_45
        have kq_44 : kp h h_42 (md_L o md) := kp_in kq_40 kpx_45 (md_sj (by decide))
        refine aw_vret C E dX9_printBetween_184 (Nat.le_refl _) (Nat.le_refl _) ?_
        refine ⟨_, rfl, K_43, ?_, ?_, ?_, ?_, kq_44⟩
        · have e : A ++ pr_two g a sx sy X Y = A ++ 40 :: (X ++ 41 :: 42 :: (40 :: (Y ++ [41]))) := by
            unfold pr_two
            rw [show pr_wr ((g = 14 ∨ g = 15) ∧ sx = 1) X = _ from if_pos ⟨Or.inl c_3, c_135⟩, show pr_wr (¬ g = 16 ∧ (sy = 1 ∨ (g = 14 ∨ g = 15) ∧ sy = 2)) Y = _ from if_pos ⟨c_32, Or.inl c_38⟩, show pr_op g a = _ from by unfold pr_op; rw [if_neg c_76, if_neg c_87, if_pos c_98]]
            simp
          rw [e]; exact R_41
        · exact md_eq_A (s1 := s_34) (md_eq_tr (md_eq_rf : md_eq [41] [40, 42, 43] [] s s) F_38 (by decide) (by decide) (by decide)) _ (by decide)
        · exact F_38.2.1 42 (by decide)
        · show upd (s_34.2.1 43) t 2 = _
          rw [show s_34.2.1 43 = s.2.1 43 from F_38.2.1 43 (by decide), if_pos (Or.inl c_3)]
    ·
      refine aw_iload C dX9_printBetween_41 rfl (q := 43) rfl ?_
      refine aw_if_eq (t := 64) (q := 46) C dX9_printBetween_43 (by decide) rfl (fun c_43 => absurd c_43 (by decide)) (fun c_43 => ?_)
      refine aw_iload C dX9_printBetween_46 rfl (q := 48) rfl ?_
      refine aw_iconst (v := 2) C dX9_printBetween_48 (by decide) (q := 49) rfl ?_
      refine aw_icmp_ne (t := 64) (q := 52) C dX9_printBetween_49 (by decide) rfl (fun c_49 => ?_) (fun c_49 => ?_)
      ·
        refine aw_aload_n C dX9_printBetween_64 rfl rfl (q := 65) rfl ?_
        refine aw_aload_n C dX9_printBetween_65 rfl rfl (q := 66) rfl ?_
        refine gfX9_83_9 (v := .ref (md 42)) C dX9_printBetween_66 K.1 rfl (q := 69) rfl ?_
        refine aw_iload_n C dX9_printBetween_69 rfl rfl (q := 70) rfl ?_
        refine aw_iconst (v := 1) C dX9_printBetween_70 (by decide) (q := 71) rfl ?_
        refine aw_isub C dX9_printBetween_71 (q := 72) rfl ?_
        refine ay_iald (N := 320) (f := s.2.1 42) (j := t + 1) C dX9_printBetween_72 (K.2.1 42 (by decide)) (by rw [nI_s1 (by omega)]; exact vp_in_nI (by omega) (by decide)) (by rw [nI_s1 (by omega)]; exact nI_clamp (by omega)) (q := 73) rfl ?_
        rw [show s.2.1 42 (t + 1) = nI (A ++ X).length from by rw [show s.2.1 42 = s.2.1 42 from (md_eq_rf : md_eq [41] [40] [] s s).2.1 42 (by decide)]; exact hb2]
        refine aw_iload_n C dX9_printBetween_73 rfl rfl (q := 74) rfl ?_
        refine aw_bipush (v := 12) C dX9_printBetween_74 (by decide) (q := 76) rfl ?_
        refine aw_icmp_ne (t := 84) (q := 79) C dX9_printBetween_76 (by decide) rfl (fun c_76 => ?_) (fun c_76 => absurd c_76 (by rw [c_3]; decide))
        refine aw_iload_n C dX9_printBetween_84 rfl rfl (q := 85) rfl ?_
        refine aw_bipush (v := 13) C dX9_printBetween_85 (by decide) (q := 87) rfl ?_
        refine aw_icmp_ne (t := 95) (q := 90) C dX9_printBetween_87 (by decide) rfl (fun c_87 => ?_) (fun c_87 => absurd c_87 (by rw [c_3]; decide))
        refine aw_iload_n C dX9_printBetween_95 rfl rfl (q := 96) rfl ?_
        refine aw_bipush (v := 14) C dX9_printBetween_96 (by decide) (q := 98) rfl ?_
        refine aw_icmp_ne (t := 106) (q := 101) C dX9_printBetween_98 (by decide) rfl (fun c_98 => absurd c_98 (fun z => z c_3)) (fun c_98 => ?_)
        refine aw_bipush (v := 42) C dX9_printBetween_101 (by decide) (q := 103) rfl ?_
        refine aw_goto (q := 118) C dX9_printBetween_103 (by decide) ?_
        refine cvX9_174_9 (As := [.int (nI (A ++ X).length), .int 42]) (rest := []) C B9 dX9_printBetween_118 K.1 (m_insert G M.2.1 o md hm h (d + 1) s K (A ++ X ++ Y) R (by simp only [List.length_append, List.length_cons, List.length_nil]; omega) (A ++ X).length (by simp only [List.length_append, List.length_cons, List.length_nil]; omega) 42) rfl rfl (Nat.le_of_ble_eq_true rfl) (by omega) (by omega) (by omega) (q := 121) rfl (fun r9 h_46 hr9 => ?_)
        obtain ⟨s_47, er9, K_48, R_49, F_50, kpx_52⟩ := hr9
        subst er9
        have F_51 : md_eq [41] [40] [] s s_47 := md_eq_tr md_eq_rf F_50 (by decide) (by decide) (by decide)
        have kq_53 : kp h h_46 (md_L o md) := kpx_52
        show aw G 6 M 121 [.ref o, .int g, .int a, .int (nI (t + 2)), .int 1, .int sy] [] h_46 0 0
        have R_54 : pb_rep s_47 (A ++ X ++ 42 :: Y) := by have z := R_49; rw [pb_ins_app] at z; exact z
        refine aw_iload C dX9_printBetween_121 rfl (q := 123) rfl ?_
        refine aw_if_eq (t := 166) (q := 126) C dX9_printBetween_123 (by decide) rfl (fun c_123 => absurd c_123 (by decide)) (fun c_123 => ?_)
        refine aw_aload_n C dX9_printBetween_126 rfl rfl (q := 127) rfl ?_
        refine gfX9_86_9 (v := .ref (md 43)) C dX9_printBetween_127 K_48.1 rfl (q := 130) rfl ?_
        refine aw_iload_n C dX9_printBetween_130 rfl rfl (q := 131) rfl ?_
        refine aw_iconst (v := 2) C dX9_printBetween_131 (by decide) (q := 132) rfl ?_
        refine aw_isub C dX9_printBetween_132 (q := 133) rfl ?_
        refine ay_iald (N := 320) (f := s_47.2.1 43) (j := t) C dX9_printBetween_133 (K_48.2.1 43 (by decide)) (by rw [nI_s2 (by omega)]; exact vp_in_nI (by omega) (by decide)) (by rw [nI_s2 (by omega)]; exact nI_clamp (by omega)) (q := 134) rfl ?_
        rw [show s_47.2.1 43 (t) = sx from by rw [show s_47.2.1 43 = s.2.1 43 from (F_51 : md_eq [41] [40] [] s s_47).2.1 43 (by decide)]; exact ha3]
        refine aw_iconst (v := 1) C dX9_printBetween_134 (by decide) (q := 135) rfl ?_
        refine aw_icmp_ne (t := 166) (q := 138) C dX9_printBetween_135 (by decide) rfl (fun c_135 => ?_) (fun c_135 => ?_)
        ·
          refine aw_aload_n C dX9_printBetween_166 rfl rfl (q := 167) rfl ?_
          refine gfX9_86_9 (v := .ref (md 43)) C dX9_printBetween_167 K_48.1 rfl (q := 170) rfl ?_
          refine aw_iload_n C dX9_printBetween_170 rfl rfl (q := 171) rfl ?_
          refine aw_iconst (v := 2) C dX9_printBetween_171 (by decide) (q := 172) rfl ?_
          refine aw_isub C dX9_printBetween_172 (q := 173) rfl ?_
          refine aw_iload C dX9_printBetween_173 rfl (q := 175) rfl ?_
          refine aw_if_eq (t := 182) (q := 178) C dX9_printBetween_175 (by decide) rfl (fun c_175 => absurd c_175 (by decide)) (fun c_175 => ?_)
          refine aw_iconst (v := 2) C dX9_printBetween_178 (by decide) (q := 179) rfl ?_
          refine aw_goto (q := 183) C dX9_printBetween_179 (by decide) ?_
          refine ay_iast (N := 320) (f := s_47.2.1 43) (j := t) C dX9_printBetween_183 (K_48.2.1 43 (by decide)) (by rw [nI_s2 (by omega)]; exact vp_in_nI (by omega) (by decide)) (by rw [nI_s2 (by omega)]; exact nI_clamp (by omega)) (q := 184) rfl ?_
          show aw G 6 M 184 [.ref o, .int g, .int a, .int (nI (t + 2)), .int 1, .int sy] [] (ac_up h_46 (md 43) (.inl (1, 320, .inl (upd (s_47.2.1 43) t 2)))) 0 0
          obtain ⟨h_55, eh_55⟩ : ∃ z9, z9 = ac_up h_46 (md 43) (.inl (1, 320, .inl (upd (s_47.2.1 43) t 2))) := ⟨_, rfl⟩
          rw [← eh_55]
          have kpx_58 : kp h_46 h_55 [md 43] := by rw [eh_55]; exact kp_up (kp_cons _ kp_rf) _ _ (by simp)
          have K_56 : md_ok h_55 o md (s_47.1, va_up s_47.2.1 43 (upd (s_47.2.1 43) t 2), s_47.2.2) := md_A (s := (s_47.1, s_47.2.1, s_47.2.2)) hm K_48 (j := 43) (by decide) (by rw [eh_55]; exact ac_up_s _ _ _) kpx_58
          have kq_57 : kp h h_55 (md_L o md) := kp_in kq_53 kpx_58 (md_sj (by decide))
          refine aw_vret C E dX9_printBetween_184 (Nat.le_refl _) (Nat.le_refl _) ?_
          refine ⟨_, rfl, K_56, ?_, ?_, ?_, ?_, kq_57⟩
          · have e : A ++ pr_two g a sx sy X Y = A ++ X ++ 42 :: Y := by
              unfold pr_two
              rw [show pr_wr ((g = 14 ∨ g = 15) ∧ sx = 1) X = _ from if_neg (fun z => c_135 z.2), show pr_wr (¬ g = 16 ∧ (sy = 1 ∨ (g = 14 ∨ g = 15) ∧ sy = 2)) Y = _ from if_neg (fun z => z.2.elim c_38 (fun y => c_49 y.2)), show pr_op g a = _ from by unfold pr_op; rw [if_neg c_76, if_neg c_87, if_pos c_98]]
              simp
            rw [e]; exact R_54
          · exact md_eq_A (s1 := s_47) (md_eq_tr (md_eq_rf : md_eq [41] [40, 42, 43] [] s s) F_51 (by decide) (by decide) (by decide)) _ (by decide)
          · exact F_51.2.1 42 (by decide)
          · show upd (s_47.2.1 43) t 2 = _
            rw [show s_47.2.1 43 = s.2.1 43 from F_51.2.1 43 (by decide), if_pos (Or.inl c_3)]
        ·
          refine aw_aload_n C dX9_printBetween_138 rfl rfl (q := 139) rfl ?_
          refine aw_aload_n C dX9_printBetween_139 rfl rfl (q := 140) rfl ?_
          refine gfX9_83_9 (v := .ref (md 42)) C dX9_printBetween_140 K_48.1 rfl (q := 143) rfl ?_
          refine aw_iload_n C dX9_printBetween_143 rfl rfl (q := 144) rfl ?_
          refine aw_iconst (v := 1) C dX9_printBetween_144 (by decide) (q := 145) rfl ?_
          refine aw_isub C dX9_printBetween_145 (q := 146) rfl ?_
          refine ay_iald (N := 320) (f := s_47.2.1 42) (j := t + 1) C dX9_printBetween_146 (K_48.2.1 42 (by decide)) (by rw [nI_s1 (by omega)]; exact vp_in_nI (by omega) (by decide)) (by rw [nI_s1 (by omega)]; exact nI_clamp (by omega)) (q := 147) rfl ?_
          rw [show s_47.2.1 42 (t + 1) = nI (A ++ X).length from by rw [show s_47.2.1 42 = s.2.1 42 from (F_51 : md_eq [41] [40] [] s s_47).2.1 42 (by decide)]; exact hb2]
          refine aw_bipush (v := 41) C dX9_printBetween_147 (by decide) (q := 149) rfl ?_
          refine cvX9_174_9 (As := [.int (nI (A ++ X).length), .int 41]) (rest := []) C B9 dX9_printBetween_149 K_48.1 (m_insert G M.2.1 o md hm h_46 (d + 1) s_47 K_48 (A ++ X ++ 42 :: Y) R_54 (by simp only [List.length_append, List.length_cons, List.length_nil]; omega) (A ++ X).length (by simp only [List.length_append, List.length_cons, List.length_nil]; omega) 41) rfl rfl (Nat.le_of_ble_eq_true rfl) (by omega) (by omega) (by omega) (q := 152) rfl (fun r9 h_59 hr9 => ?_)
          obtain ⟨s_60, er9, K_61, R_62, F_63, kpx_65⟩ := hr9
          subst er9
          have F_64 : md_eq [41] [40] [] s s_60 := md_eq_tr F_51 F_63 (by decide) (by decide) (by decide)
          have kq_66 : kp h h_59 (md_L o md) := kp_in kq_53 kpx_65 (fun _ z => z)
          show aw G 6 M 152 [.ref o, .int g, .int a, .int (nI (t + 2)), .int 1, .int sy] [] h_59 0 0
          have R_67 : pb_rep s_60 (A ++ X ++ 41 :: 42 :: Y) := by have z := R_62; rw [pb_ins_app] at z; exact z
          have R_68 : pb_rep s_60 (A ++ (X ++ 41 :: 42 :: Y)) := by have z := R_67; rw [List.append_assoc] at z; exact z
          refine aw_aload_n C dX9_printBetween_152 rfl rfl (q := 153) rfl ?_
          refine aw_aload_n C dX9_printBetween_153 rfl rfl (q := 154) rfl ?_
          refine gfX9_83_9 (v := .ref (md 42)) C dX9_printBetween_154 K_61.1 rfl (q := 157) rfl ?_
          refine aw_iload_n C dX9_printBetween_157 rfl rfl (q := 158) rfl ?_
          refine aw_iconst (v := 2) C dX9_printBetween_158 (by decide) (q := 159) rfl ?_
          refine aw_isub C dX9_printBetween_159 (q := 160) rfl ?_
          refine ay_iald (N := 320) (f := s_60.2.1 42) (j := t) C dX9_printBetween_160 (K_61.2.1 42 (by decide)) (by rw [nI_s2 (by omega)]; exact vp_in_nI (by omega) (by decide)) (by rw [nI_s2 (by omega)]; exact nI_clamp (by omega)) (q := 161) rfl ?_
          rw [show s_60.2.1 42 (t) = nI A.length from by rw [show s_60.2.1 42 = s.2.1 42 from (F_64 : md_eq [41] [40] [] s s_60).2.1 42 (by decide)]; exact ha2]
          refine aw_bipush (v := 40) C dX9_printBetween_161 (by decide) (q := 163) rfl ?_
          refine cvX9_174_9 (As := [.int (nI A.length), .int 40]) (rest := []) C B9 dX9_printBetween_163 K_61.1 (m_insert G M.2.1 o md hm h_59 (d + 1) s_60 K_61 (A ++ (X ++ 41 :: 42 :: Y)) R_68 (by simp only [List.length_append, List.length_cons, List.length_nil]; omega) A.length (by simp only [List.length_append, List.length_cons, List.length_nil]; omega) 40) rfl rfl (Nat.le_of_ble_eq_true rfl) (by omega) (by omega) (by omega) (q := 166) rfl (fun r9 h_69 hr9 => ?_)
          obtain ⟨s_70, er9, K_71, R_72, F_73, kpx_75⟩ := hr9
          subst er9
          have F_74 : md_eq [41] [40] [] s s_70 := md_eq_tr F_64 F_73 (by decide) (by decide) (by decide)
          have kq_76 : kp h h_69 (md_L o md) := kp_in kq_66 kpx_75 (fun _ z => z)
          show aw G 6 M 166 [.ref o, .int g, .int a, .int (nI (t + 2)), .int 1, .int sy] [] h_69 0 0
          have R_77 : pb_rep s_70 (A ++ 40 :: (X ++ 41 :: 42 :: Y)) := by have z := R_72; rw [pb_ins_app] at z; exact z
          refine aw_aload_n C dX9_printBetween_166 rfl rfl (q := 167) rfl ?_
          refine gfX9_86_9 (v := .ref (md 43)) C dX9_printBetween_167 K_71.1 rfl (q := 170) rfl ?_
          refine aw_iload_n C dX9_printBetween_170 rfl rfl (q := 171) rfl ?_
          refine aw_iconst (v := 2) C dX9_printBetween_171 (by decide) (q := 172) rfl ?_
          refine aw_isub C dX9_printBetween_172 (q := 173) rfl ?_
          refine aw_iload C dX9_printBetween_173 rfl (q := 175) rfl ?_
          refine aw_if_eq (t := 182) (q := 178) C dX9_printBetween_175 (by decide) rfl (fun c_175 => absurd c_175 (by decide)) (fun c_175 => ?_)
          refine aw_iconst (v := 2) C dX9_printBetween_178 (by decide) (q := 179) rfl ?_
          refine aw_goto (q := 183) C dX9_printBetween_179 (by decide) ?_
          refine ay_iast (N := 320) (f := s_70.2.1 43) (j := t) C dX9_printBetween_183 (K_71.2.1 43 (by decide)) (by rw [nI_s2 (by omega)]; exact vp_in_nI (by omega) (by decide)) (by rw [nI_s2 (by omega)]; exact nI_clamp (by omega)) (q := 184) rfl ?_
          show aw G 6 M 184 [.ref o, .int g, .int a, .int (nI (t + 2)), .int 1, .int sy] [] (ac_up h_69 (md 43) (.inl (1, 320, .inl (upd (s_70.2.1 43) t 2)))) 0 0
          obtain ⟨h_78, eh_78⟩ : ∃ z9, z9 = ac_up h_69 (md 43) (.inl (1, 320, .inl (upd (s_70.2.1 43) t 2))) := ⟨_, rfl⟩
          rw [← eh_78]
          have kpx_81 : kp h_69 h_78 [md 43] := by rw [eh_78]; exact kp_up (kp_cons _ kp_rf) _ _ (by simp)
          have K_79 : md_ok h_78 o md (s_70.1, va_up s_70.2.1 43 (upd (s_70.2.1 43) t 2), s_70.2.2) := md_A (s := (s_70.1, s_70.2.1, s_70.2.2)) hm K_71 (j := 43) (by decide) (by rw [eh_78]; exact ac_up_s _ _ _) kpx_81
          have kq_80 : kp h h_78 (md_L o md) := kp_in kq_76 kpx_81 (md_sj (by decide))
          refine aw_vret C E dX9_printBetween_184 (Nat.le_refl _) (Nat.le_refl _) ?_
          refine ⟨_, rfl, K_79, ?_, ?_, ?_, ?_, kq_80⟩
          · have e : A ++ pr_two g a sx sy X Y = A ++ 40 :: (X ++ 41 :: 42 :: Y) := by
              unfold pr_two
              rw [show pr_wr ((g = 14 ∨ g = 15) ∧ sx = 1) X = _ from if_pos ⟨Or.inl c_3, c_135⟩, show pr_wr (¬ g = 16 ∧ (sy = 1 ∨ (g = 14 ∨ g = 15) ∧ sy = 2)) Y = _ from if_neg (fun z => z.2.elim c_38 (fun y => c_49 y.2)), show pr_op g a = _ from by unfold pr_op; rw [if_neg c_76, if_neg c_87, if_pos c_98]]
              simp
            rw [e]; exact R_77
          · exact md_eq_A (s1 := s_70) (md_eq_tr (md_eq_rf : md_eq [41] [40, 42, 43] [] s s) F_74 (by decide) (by decide) (by decide)) _ (by decide)
          · exact F_74.2.1 42 (by decide)
          · show upd (s_70.2.1 43) t 2 = _
            rw [show s_70.2.1 43 = s.2.1 43 from F_74.2.1 43 (by decide), if_pos (Or.inl c_3)]
      ·
        refine aw_aload_n C dX9_printBetween_52 rfl rfl (q := 53) rfl ?_
        refine aw_aload_n C dX9_printBetween_53 rfl rfl (q := 54) rfl ?_
        refine gfX9_83_9 (v := .ref (md 42)) C dX9_printBetween_54 K.1 rfl (q := 57) rfl ?_
        refine aw_iload_n C dX9_printBetween_57 rfl rfl (q := 58) rfl ?_
        refine aw_iconst (v := 1) C dX9_printBetween_58 (by decide) (q := 59) rfl ?_
        refine aw_isub C dX9_printBetween_59 (q := 60) rfl ?_
        refine ay_iald (N := 320) (f := s.2.1 42) (j := t + 1) C dX9_printBetween_60 (K.2.1 42 (by decide)) (by rw [nI_s1 (by omega)]; exact vp_in_nI (by omega) (by decide)) (by rw [nI_s1 (by omega)]; exact nI_clamp (by omega)) (q := 61) rfl ?_
        rw [show s.2.1 42 (t + 1) = nI (A ++ X).length from by rw [show s.2.1 42 = s.2.1 42 from (md_eq_rf : md_eq [41] [40] [] s s).2.1 42 (by decide)]; exact hb2]
        refine cvX9_183_9 (As := [.int (nI (A ++ X).length)]) (rest := []) C B9 dX9_printBetween_61 K.1 (m_enclose G M.2.1 o md hm h d s K (A ++ X ++ Y) R (by simp only [List.length_append, List.length_cons, List.length_nil]; omega) (A ++ X).length (by simp only [List.length_append, List.length_cons, List.length_nil]; omega)) rfl rfl (Nat.le_of_ble_eq_true rfl) (by omega) (by omega) (by omega) (q := 64) rfl (fun r9 h_82 hr9 => ?_)
        obtain ⟨s_83, er9, K_84, R_85, F_86, kpx_88⟩ := hr9
        subst er9
        have F_87 : md_eq [41] [40] [] s s_83 := md_eq_tr md_eq_rf F_86 (by decide) (by decide) (by decide)
        have kq_89 : kp h h_82 (md_L o md) := kpx_88
        show aw G 6 M 64 [.ref o, .int g, .int a, .int (nI (t + 2)), .int 1, .int sy] [] h_82 0 0
        have R_90 : pb_rep s_83 (A ++ X ++ (40 :: (Y ++ [41]))) := by have z := R_85; rw [pb_enc_app] at z; exact z
        refine aw_aload_n C dX9_printBetween_64 rfl rfl (q := 65) rfl ?_
        refine aw_aload_n C dX9_printBetween_65 rfl rfl (q := 66) rfl ?_
        refine gfX9_83_9 (v := .ref (md 42)) C dX9_printBetween_66 K_84.1 rfl (q := 69) rfl ?_
        refine aw_iload_n C dX9_printBetween_69 rfl rfl (q := 70) rfl ?_
        refine aw_iconst (v := 1) C dX9_printBetween_70 (by decide) (q := 71) rfl ?_
        refine aw_isub C dX9_printBetween_71 (q := 72) rfl ?_
        refine ay_iald (N := 320) (f := s_83.2.1 42) (j := t + 1) C dX9_printBetween_72 (K_84.2.1 42 (by decide)) (by rw [nI_s1 (by omega)]; exact vp_in_nI (by omega) (by decide)) (by rw [nI_s1 (by omega)]; exact nI_clamp (by omega)) (q := 73) rfl ?_
        rw [show s_83.2.1 42 (t + 1) = nI (A ++ X).length from by rw [show s_83.2.1 42 = s.2.1 42 from (F_87 : md_eq [41] [40] [] s s_83).2.1 42 (by decide)]; exact hb2]
        refine aw_iload_n C dX9_printBetween_73 rfl rfl (q := 74) rfl ?_
        refine aw_bipush (v := 12) C dX9_printBetween_74 (by decide) (q := 76) rfl ?_
        refine aw_icmp_ne (t := 84) (q := 79) C dX9_printBetween_76 (by decide) rfl (fun c_76 => ?_) (fun c_76 => absurd c_76 (by rw [c_3]; decide))
        refine aw_iload_n C dX9_printBetween_84 rfl rfl (q := 85) rfl ?_
        refine aw_bipush (v := 13) C dX9_printBetween_85 (by decide) (q := 87) rfl ?_
        refine aw_icmp_ne (t := 95) (q := 90) C dX9_printBetween_87 (by decide) rfl (fun c_87 => ?_) (fun c_87 => absurd c_87 (by rw [c_3]; decide))
        refine aw_iload_n C dX9_printBetween_95 rfl rfl (q := 96) rfl ?_
        refine aw_bipush (v := 14) C dX9_printBetween_96 (by decide) (q := 98) rfl ?_
        refine aw_icmp_ne (t := 106) (q := 101) C dX9_printBetween_98 (by decide) rfl (fun c_98 => absurd c_98 (fun z => z c_3)) (fun c_98 => ?_)
        refine aw_bipush (v := 42) C dX9_printBetween_101 (by decide) (q := 103) rfl ?_
        refine aw_goto (q := 118) C dX9_printBetween_103 (by decide) ?_
        refine cvX9_174_9 (As := [.int (nI (A ++ X).length), .int 42]) (rest := []) C B9 dX9_printBetween_118 K_84.1 (m_insert G M.2.1 o md hm h_82 (d + 1) s_83 K_84 (A ++ X ++ (40 :: (Y ++ [41]))) R_90 (by simp only [List.length_append, List.length_cons, List.length_nil]; omega) (A ++ X).length (by simp only [List.length_append, List.length_cons, List.length_nil]; omega) 42) rfl rfl (Nat.le_of_ble_eq_true rfl) (by omega) (by omega) (by omega) (q := 121) rfl (fun r9 h_91 hr9 => ?_)
        obtain ⟨s_92, er9, K_93, R_94, F_95, kpx_97⟩ := hr9
        subst er9
        have F_96 : md_eq [41] [40] [] s s_92 := md_eq_tr F_87 F_95 (by decide) (by decide) (by decide)
        have kq_98 : kp h h_91 (md_L o md) := kp_in kq_89 kpx_97 (fun _ z => z)
        show aw G 6 M 121 [.ref o, .int g, .int a, .int (nI (t + 2)), .int 1, .int sy] [] h_91 0 0
        have R_99 : pb_rep s_92 (A ++ X ++ 42 :: (40 :: (Y ++ [41]))) := by have z := R_94; rw [pb_ins_app] at z; exact z
        refine aw_iload C dX9_printBetween_121 rfl (q := 123) rfl ?_
        refine aw_if_eq (t := 166) (q := 126) C dX9_printBetween_123 (by decide) rfl (fun c_123 => absurd c_123 (by decide)) (fun c_123 => ?_)
        refine aw_aload_n C dX9_printBetween_126 rfl rfl (q := 127) rfl ?_
        refine gfX9_86_9 (v := .ref (md 43)) C dX9_printBetween_127 K_93.1 rfl (q := 130) rfl ?_
        refine aw_iload_n C dX9_printBetween_130 rfl rfl (q := 131) rfl ?_
        refine aw_iconst (v := 2) C dX9_printBetween_131 (by decide) (q := 132) rfl ?_
        refine aw_isub C dX9_printBetween_132 (q := 133) rfl ?_
        refine ay_iald (N := 320) (f := s_92.2.1 43) (j := t) C dX9_printBetween_133 (K_93.2.1 43 (by decide)) (by rw [nI_s2 (by omega)]; exact vp_in_nI (by omega) (by decide)) (by rw [nI_s2 (by omega)]; exact nI_clamp (by omega)) (q := 134) rfl ?_
        rw [show s_92.2.1 43 (t) = sx from by rw [show s_92.2.1 43 = s.2.1 43 from (F_96 : md_eq [41] [40] [] s s_92).2.1 43 (by decide)]; exact ha3]
        refine aw_iconst (v := 1) C dX9_printBetween_134 (by decide) (q := 135) rfl ?_
        refine aw_icmp_ne (t := 166) (q := 138) C dX9_printBetween_135 (by decide) rfl (fun c_135 => ?_) (fun c_135 => ?_)
        ·
          refine aw_aload_n C dX9_printBetween_166 rfl rfl (q := 167) rfl ?_
          refine gfX9_86_9 (v := .ref (md 43)) C dX9_printBetween_167 K_93.1 rfl (q := 170) rfl ?_
          refine aw_iload_n C dX9_printBetween_170 rfl rfl (q := 171) rfl ?_
          refine aw_iconst (v := 2) C dX9_printBetween_171 (by decide) (q := 172) rfl ?_
          refine aw_isub C dX9_printBetween_172 (q := 173) rfl ?_
          refine aw_iload C dX9_printBetween_173 rfl (q := 175) rfl ?_
          refine aw_if_eq (t := 182) (q := 178) C dX9_printBetween_175 (by decide) rfl (fun c_175 => absurd c_175 (by decide)) (fun c_175 => ?_)
          refine aw_iconst (v := 2) C dX9_printBetween_178 (by decide) (q := 179) rfl ?_
          refine aw_goto (q := 183) C dX9_printBetween_179 (by decide) ?_
          refine ay_iast (N := 320) (f := s_92.2.1 43) (j := t) C dX9_printBetween_183 (K_93.2.1 43 (by decide)) (by rw [nI_s2 (by omega)]; exact vp_in_nI (by omega) (by decide)) (by rw [nI_s2 (by omega)]; exact nI_clamp (by omega)) (q := 184) rfl ?_
          show aw G 6 M 184 [.ref o, .int g, .int a, .int (nI (t + 2)), .int 1, .int sy] [] (ac_up h_91 (md 43) (.inl (1, 320, .inl (upd (s_92.2.1 43) t 2)))) 0 0
          obtain ⟨h_100, eh_100⟩ : ∃ z9, z9 = ac_up h_91 (md 43) (.inl (1, 320, .inl (upd (s_92.2.1 43) t 2))) := ⟨_, rfl⟩
          rw [← eh_100]
          have kpx_103 : kp h_91 h_100 [md 43] := by rw [eh_100]; exact kp_up (kp_cons _ kp_rf) _ _ (by simp)
          have K_101 : md_ok h_100 o md (s_92.1, va_up s_92.2.1 43 (upd (s_92.2.1 43) t 2), s_92.2.2) := md_A (s := (s_92.1, s_92.2.1, s_92.2.2)) hm K_93 (j := 43) (by decide) (by rw [eh_100]; exact ac_up_s _ _ _) kpx_103
          have kq_102 : kp h h_100 (md_L o md) := kp_in kq_98 kpx_103 (md_sj (by decide))
          refine aw_vret C E dX9_printBetween_184 (Nat.le_refl _) (Nat.le_refl _) ?_
          refine ⟨_, rfl, K_101, ?_, ?_, ?_, ?_, kq_102⟩
          · have e : A ++ pr_two g a sx sy X Y = A ++ X ++ 42 :: (40 :: (Y ++ [41])) := by
              unfold pr_two
              rw [show pr_wr ((g = 14 ∨ g = 15) ∧ sx = 1) X = _ from if_neg (fun z => c_135 z.2), show pr_wr (¬ g = 16 ∧ (sy = 1 ∨ (g = 14 ∨ g = 15) ∧ sy = 2)) Y = _ from if_pos ⟨c_32, Or.inr ⟨Or.inl c_3, c_49⟩⟩, show pr_op g a = _ from by unfold pr_op; rw [if_neg c_76, if_neg c_87, if_pos c_98]]
              simp
            rw [e]; exact R_99
          · exact md_eq_A (s1 := s_92) (md_eq_tr (md_eq_rf : md_eq [41] [40, 42, 43] [] s s) F_96 (by decide) (by decide) (by decide)) _ (by decide)
          · exact F_96.2.1 42 (by decide)
          · show upd (s_92.2.1 43) t 2 = _
            rw [show s_92.2.1 43 = s.2.1 43 from F_96.2.1 43 (by decide), if_pos (Or.inl c_3)]
        ·
          refine aw_aload_n C dX9_printBetween_138 rfl rfl (q := 139) rfl ?_
          refine aw_aload_n C dX9_printBetween_139 rfl rfl (q := 140) rfl ?_
          refine gfX9_83_9 (v := .ref (md 42)) C dX9_printBetween_140 K_93.1 rfl (q := 143) rfl ?_
          refine aw_iload_n C dX9_printBetween_143 rfl rfl (q := 144) rfl ?_
          refine aw_iconst (v := 1) C dX9_printBetween_144 (by decide) (q := 145) rfl ?_
          refine aw_isub C dX9_printBetween_145 (q := 146) rfl ?_
          refine ay_iald (N := 320) (f := s_92.2.1 42) (j := t + 1) C dX9_printBetween_146 (K_93.2.1 42 (by decide)) (by rw [nI_s1 (by omega)]; exact vp_in_nI (by omega) (by decide)) (by rw [nI_s1 (by omega)]; exact nI_clamp (by omega)) (q := 147) rfl ?_
          rw [show s_92.2.1 42 (t + 1) = nI (A ++ X).length from by rw [show s_92.2.1 42 = s.2.1 42 from (F_96 : md_eq [41] [40] [] s s_92).2.1 42 (by decide)]; exact hb2]
          refine aw_bipush (v := 41) C dX9_printBetween_147 (by decide) (q := 149) rfl ?_
          refine cvX9_174_9 (As := [.int (nI (A ++ X).length), .int 41]) (rest := []) C B9 dX9_printBetween_149 K_93.1 (m_insert G M.2.1 o md hm h_91 (d + 1) s_92 K_93 (A ++ X ++ 42 :: (40 :: (Y ++ [41]))) R_99 (by simp only [List.length_append, List.length_cons, List.length_nil]; omega) (A ++ X).length (by simp only [List.length_append, List.length_cons, List.length_nil]; omega) 41) rfl rfl (Nat.le_of_ble_eq_true rfl) (by omega) (by omega) (by omega) (q := 152) rfl (fun r9 h_104 hr9 => ?_)
          obtain ⟨s_105, er9, K_106, R_107, F_108, kpx_110⟩ := hr9
          subst er9
          have F_109 : md_eq [41] [40] [] s s_105 := md_eq_tr F_96 F_108 (by decide) (by decide) (by decide)
          have kq_111 : kp h h_104 (md_L o md) := kp_in kq_98 kpx_110 (fun _ z => z)
          show aw G 6 M 152 [.ref o, .int g, .int a, .int (nI (t + 2)), .int 1, .int sy] [] h_104 0 0
          have R_112 : pb_rep s_105 (A ++ X ++ 41 :: 42 :: (40 :: (Y ++ [41]))) := by have z := R_107; rw [pb_ins_app] at z; exact z
          have R_113 : pb_rep s_105 (A ++ (X ++ 41 :: 42 :: (40 :: (Y ++ [41])))) := by have z := R_112; rw [List.append_assoc] at z; exact z
          refine aw_aload_n C dX9_printBetween_152 rfl rfl (q := 153) rfl ?_
          refine aw_aload_n C dX9_printBetween_153 rfl rfl (q := 154) rfl ?_
          refine gfX9_83_9 (v := .ref (md 42)) C dX9_printBetween_154 K_106.1 rfl (q := 157) rfl ?_
          refine aw_iload_n C dX9_printBetween_157 rfl rfl (q := 158) rfl ?_
          refine aw_iconst (v := 2) C dX9_printBetween_158 (by decide) (q := 159) rfl ?_
          refine aw_isub C dX9_printBetween_159 (q := 160) rfl ?_
          refine ay_iald (N := 320) (f := s_105.2.1 42) (j := t) C dX9_printBetween_160 (K_106.2.1 42 (by decide)) (by rw [nI_s2 (by omega)]; exact vp_in_nI (by omega) (by decide)) (by rw [nI_s2 (by omega)]; exact nI_clamp (by omega)) (q := 161) rfl ?_
          rw [show s_105.2.1 42 (t) = nI A.length from by rw [show s_105.2.1 42 = s.2.1 42 from (F_109 : md_eq [41] [40] [] s s_105).2.1 42 (by decide)]; exact ha2]
          refine aw_bipush (v := 40) C dX9_printBetween_161 (by decide) (q := 163) rfl ?_
          refine cvX9_174_9 (As := [.int (nI A.length), .int 40]) (rest := []) C B9 dX9_printBetween_163 K_106.1 (m_insert G M.2.1 o md hm h_104 (d + 1) s_105 K_106 (A ++ (X ++ 41 :: 42 :: (40 :: (Y ++ [41])))) R_113 (by simp only [List.length_append, List.length_cons, List.length_nil]; omega) A.length (by simp only [List.length_append, List.length_cons, List.length_nil]; omega) 40) rfl rfl (Nat.le_of_ble_eq_true rfl) (by omega) (by omega) (by omega) (q := 166) rfl (fun r9 h_114 hr9 => ?_)
          obtain ⟨s_115, er9, K_116, R_117, F_118, kpx_120⟩ := hr9
          subst er9
          have F_119 : md_eq [41] [40] [] s s_115 := md_eq_tr F_109 F_118 (by decide) (by decide) (by decide)
          have kq_121 : kp h h_114 (md_L o md) := kp_in kq_111 kpx_120 (fun _ z => z)
          show aw G 6 M 166 [.ref o, .int g, .int a, .int (nI (t + 2)), .int 1, .int sy] [] h_114 0 0
          have R_122 : pb_rep s_115 (A ++ 40 :: (X ++ 41 :: 42 :: (40 :: (Y ++ [41])))) := by have z := R_117; rw [pb_ins_app] at z; exact z
          refine aw_aload_n C dX9_printBetween_166 rfl rfl (q := 167) rfl ?_
          refine gfX9_86_9 (v := .ref (md 43)) C dX9_printBetween_167 K_116.1 rfl (q := 170) rfl ?_
          refine aw_iload_n C dX9_printBetween_170 rfl rfl (q := 171) rfl ?_
          refine aw_iconst (v := 2) C dX9_printBetween_171 (by decide) (q := 172) rfl ?_
          refine aw_isub C dX9_printBetween_172 (q := 173) rfl ?_
          refine aw_iload C dX9_printBetween_173 rfl (q := 175) rfl ?_
          refine aw_if_eq (t := 182) (q := 178) C dX9_printBetween_175 (by decide) rfl (fun c_175 => absurd c_175 (by decide)) (fun c_175 => ?_)
          refine aw_iconst (v := 2) C dX9_printBetween_178 (by decide) (q := 179) rfl ?_
          refine aw_goto (q := 183) C dX9_printBetween_179 (by decide) ?_
          refine ay_iast (N := 320) (f := s_115.2.1 43) (j := t) C dX9_printBetween_183 (K_116.2.1 43 (by decide)) (by rw [nI_s2 (by omega)]; exact vp_in_nI (by omega) (by decide)) (by rw [nI_s2 (by omega)]; exact nI_clamp (by omega)) (q := 184) rfl ?_
          show aw G 6 M 184 [.ref o, .int g, .int a, .int (nI (t + 2)), .int 1, .int sy] [] (ac_up h_114 (md 43) (.inl (1, 320, .inl (upd (s_115.2.1 43) t 2)))) 0 0
          obtain ⟨h_123, eh_123⟩ : ∃ z9, z9 = ac_up h_114 (md 43) (.inl (1, 320, .inl (upd (s_115.2.1 43) t 2))) := ⟨_, rfl⟩
          rw [← eh_123]
          have kpx_126 : kp h_114 h_123 [md 43] := by rw [eh_123]; exact kp_up (kp_cons _ kp_rf) _ _ (by simp)
          have K_124 : md_ok h_123 o md (s_115.1, va_up s_115.2.1 43 (upd (s_115.2.1 43) t 2), s_115.2.2) := md_A (s := (s_115.1, s_115.2.1, s_115.2.2)) hm K_116 (j := 43) (by decide) (by rw [eh_123]; exact ac_up_s _ _ _) kpx_126
          have kq_125 : kp h h_123 (md_L o md) := kp_in kq_121 kpx_126 (md_sj (by decide))
          refine aw_vret C E dX9_printBetween_184 (Nat.le_refl _) (Nat.le_refl _) ?_
          refine ⟨_, rfl, K_124, ?_, ?_, ?_, ?_, kq_125⟩
          · have e : A ++ pr_two g a sx sy X Y = A ++ 40 :: (X ++ 41 :: 42 :: (40 :: (Y ++ [41]))) := by
              unfold pr_two
              rw [show pr_wr ((g = 14 ∨ g = 15) ∧ sx = 1) X = _ from if_pos ⟨Or.inl c_3, c_135⟩, show pr_wr (¬ g = 16 ∧ (sy = 1 ∨ (g = 14 ∨ g = 15) ∧ sy = 2)) Y = _ from if_pos ⟨c_32, Or.inr ⟨Or.inl c_3, c_49⟩⟩, show pr_op g a = _ from by unfold pr_op; rw [if_neg c_76, if_neg c_87, if_pos c_98]]
              simp
            rw [e]; exact R_122
          · exact md_eq_A (s1 := s_115) (md_eq_tr (md_eq_rf : md_eq [41] [40, 42, 43] [] s s) F_119 (by decide) (by decide) (by decide)) _ (by decide)
          · exact F_119.2.1 42 (by decide)
          · show upd (s_115.2.1 43) t 2 = _
            rw [show s_115.2.1 43 = s.2.1 43 from F_119.2.1 43 (by decide), if_pos (Or.inl c_3)]
  ·
    refine aw_iload_n C dX9_printBetween_6 rfl rfl (q := 7) rfl ?_
    refine aw_bipush (v := 15) C dX9_printBetween_7 (by decide) (q := 9) rfl ?_
    refine aw_icmp_ne (t := 16) (q := 12) C dX9_printBetween_9 (by decide) rfl (fun c_9 => ?_) (fun c_9 => ?_)
    ·
      refine aw_iconst (v := 0) C dX9_printBetween_16 (by decide) (q := 17) rfl ?_
      refine aw_istore (ls' := [.ref o, .int g, .int a, .int (nI (t + 2)), .int 0, .retAddr 0]) C dX9_printBetween_17 (by decide) rfl (q := 19) rfl ?_
      refine aw_aload_n C dX9_printBetween_19 rfl rfl (q := 20) rfl ?_
      refine gfX9_86_9 (v := .ref (md 43)) C dX9_printBetween_20 K.1 rfl (q := 23) rfl ?_
      refine aw_iload_n C dX9_printBetween_23 rfl rfl (q := 24) rfl ?_
      refine aw_iconst (v := 1) C dX9_printBetween_24 (by decide) (q := 25) rfl ?_
      refine aw_isub C dX9_printBetween_25 (q := 26) rfl ?_
      refine ay_iald (N := 320) (f := s.2.1 43) (j := t + 1) C dX9_printBetween_26 (K.2.1 43 (by decide)) (by rw [nI_s1 (by omega)]; exact vp_in_nI (by omega) (by decide)) (by rw [nI_s1 (by omega)]; exact nI_clamp (by omega)) (q := 27) rfl ?_
      rw [show s.2.1 43 (t + 1) = sy from by rw [show s.2.1 43 = s.2.1 43 from (md_eq_rf : md_eq [41] [40] [] s s).2.1 43 (by decide)]; exact hb3]
      refine aw_istore (ls' := [.ref o, .int g, .int a, .int (nI (t + 2)), .int 0, .int sy]) C dX9_printBetween_27 (by decide) rfl (q := 29) rfl ?_
      refine aw_iload_n C dX9_printBetween_29 rfl rfl (q := 30) rfl ?_
      refine aw_bipush (v := 16) C dX9_printBetween_30 (by decide) (q := 32) rfl ?_
      refine aw_icmp_eq (t := 64) (q := 35) C dX9_printBetween_32 (by decide) rfl (fun c_32 => ?_) (fun c_32 => ?_)
      ·
        refine aw_aload_n C dX9_printBetween_64 rfl rfl (q := 65) rfl ?_
        refine aw_aload_n C dX9_printBetween_65 rfl rfl (q := 66) rfl ?_
        refine gfX9_83_9 (v := .ref (md 42)) C dX9_printBetween_66 K.1 rfl (q := 69) rfl ?_
        refine aw_iload_n C dX9_printBetween_69 rfl rfl (q := 70) rfl ?_
        refine aw_iconst (v := 1) C dX9_printBetween_70 (by decide) (q := 71) rfl ?_
        refine aw_isub C dX9_printBetween_71 (q := 72) rfl ?_
        refine ay_iald (N := 320) (f := s.2.1 42) (j := t + 1) C dX9_printBetween_72 (K.2.1 42 (by decide)) (by rw [nI_s1 (by omega)]; exact vp_in_nI (by omega) (by decide)) (by rw [nI_s1 (by omega)]; exact nI_clamp (by omega)) (q := 73) rfl ?_
        rw [show s.2.1 42 (t + 1) = nI (A ++ X).length from by rw [show s.2.1 42 = s.2.1 42 from (md_eq_rf : md_eq [41] [40] [] s s).2.1 42 (by decide)]; exact hb2]
        refine aw_iload_n C dX9_printBetween_73 rfl rfl (q := 74) rfl ?_
        refine aw_bipush (v := 12) C dX9_printBetween_74 (by decide) (q := 76) rfl ?_
        refine aw_icmp_ne (t := 84) (q := 79) C dX9_printBetween_76 (by decide) rfl (fun c_76 => ?_) (fun c_76 => absurd c_76 (by rw [c_32]; decide))
        refine aw_iload_n C dX9_printBetween_84 rfl rfl (q := 85) rfl ?_
        refine aw_bipush (v := 13) C dX9_printBetween_85 (by decide) (q := 87) rfl ?_
        refine aw_icmp_ne (t := 95) (q := 90) C dX9_printBetween_87 (by decide) rfl (fun c_87 => ?_) (fun c_87 => absurd c_87 (by rw [c_32]; decide))
        refine aw_iload_n C dX9_printBetween_95 rfl rfl (q := 96) rfl ?_
        refine aw_bipush (v := 14) C dX9_printBetween_96 (by decide) (q := 98) rfl ?_
        refine aw_icmp_ne (t := 106) (q := 101) C dX9_printBetween_98 (by decide) rfl (fun c_98 => ?_) (fun c_98 => absurd c_98 (c_3))
        refine aw_iload_n C dX9_printBetween_106 rfl rfl (q := 107) rfl ?_
        refine aw_bipush (v := 15) C dX9_printBetween_107 (by decide) (q := 109) rfl ?_
        refine aw_icmp_ne (t := 117) (q := 112) C dX9_printBetween_109 (by decide) rfl (fun c_109 => ?_) (fun c_109 => absurd c_109 (c_9))
        refine aw_iload_n C dX9_printBetween_117 rfl rfl (q := 118) rfl ?_
        refine cvX9_174_9 (As := [.int (nI (A ++ X).length), .int a]) (rest := []) C B9 dX9_printBetween_118 K.1 (m_insert G M.2.1 o md hm h (d + 1) s K (A ++ X ++ Y) R (by simp only [List.length_append, List.length_cons, List.length_nil]; omega) (A ++ X).length (by simp only [List.length_append, List.length_cons, List.length_nil]; omega) a) rfl rfl (Nat.le_of_ble_eq_true rfl) (by omega) (by omega) (by omega) (q := 121) rfl (fun r9 h_127 hr9 => ?_)
        obtain ⟨s_128, er9, K_129, R_130, F_131, kpx_133⟩ := hr9
        subst er9
        have F_132 : md_eq [41] [40] [] s s_128 := md_eq_tr md_eq_rf F_131 (by decide) (by decide) (by decide)
        have kq_134 : kp h h_127 (md_L o md) := kpx_133
        show aw G 6 M 121 [.ref o, .int g, .int a, .int (nI (t + 2)), .int 0, .int sy] [] h_127 0 0
        have R_135 : pb_rep s_128 (A ++ X ++ a :: Y) := by have z := R_130; rw [pb_ins_app] at z; exact z
        refine aw_iload C dX9_printBetween_121 rfl (q := 123) rfl ?_
        refine aw_if_eq (t := 166) (q := 126) C dX9_printBetween_123 (by decide) rfl (fun c_123 => ?_) (fun c_123 => absurd c_123 (by decide))
        refine aw_aload_n C dX9_printBetween_166 rfl rfl (q := 167) rfl ?_
        refine gfX9_86_9 (v := .ref (md 43)) C dX9_printBetween_167 K_129.1 rfl (q := 170) rfl ?_
        refine aw_iload_n C dX9_printBetween_170 rfl rfl (q := 171) rfl ?_
        refine aw_iconst (v := 2) C dX9_printBetween_171 (by decide) (q := 172) rfl ?_
        refine aw_isub C dX9_printBetween_172 (q := 173) rfl ?_
        refine aw_iload C dX9_printBetween_173 rfl (q := 175) rfl ?_
        refine aw_if_eq (t := 182) (q := 178) C dX9_printBetween_175 (by decide) rfl (fun c_175 => ?_) (fun c_175 => absurd c_175 (by decide))
        refine aw_iconst (v := 1) C dX9_printBetween_182 (by decide) (q := 183) rfl ?_
        refine ay_iast (N := 320) (f := s_128.2.1 43) (j := t) C dX9_printBetween_183 (K_129.2.1 43 (by decide)) (by rw [nI_s2 (by omega)]; exact vp_in_nI (by omega) (by decide)) (by rw [nI_s2 (by omega)]; exact nI_clamp (by omega)) (q := 184) rfl ?_
        show aw G 6 M 184 [.ref o, .int g, .int a, .int (nI (t + 2)), .int 0, .int sy] [] (ac_up h_127 (md 43) (.inl (1, 320, .inl (upd (s_128.2.1 43) t 1)))) 0 0
        obtain ⟨h_136, eh_136⟩ : ∃ z9, z9 = ac_up h_127 (md 43) (.inl (1, 320, .inl (upd (s_128.2.1 43) t 1))) := ⟨_, rfl⟩
        rw [← eh_136]
        have kpx_139 : kp h_127 h_136 [md 43] := by rw [eh_136]; exact kp_up (kp_cons _ kp_rf) _ _ (by simp)
        have K_137 : md_ok h_136 o md (s_128.1, va_up s_128.2.1 43 (upd (s_128.2.1 43) t 1), s_128.2.2) := md_A (s := (s_128.1, s_128.2.1, s_128.2.2)) hm K_129 (j := 43) (by decide) (by rw [eh_136]; exact ac_up_s _ _ _) kpx_139
        have kq_138 : kp h h_136 (md_L o md) := kp_in kq_134 kpx_139 (md_sj (by decide))
        refine aw_vret C E dX9_printBetween_184 (Nat.le_refl _) (Nat.le_refl _) ?_
        refine ⟨_, rfl, K_137, ?_, ?_, ?_, ?_, kq_138⟩
        · have e : A ++ pr_two g a sx sy X Y = A ++ X ++ a :: Y := by
            unfold pr_two
            rw [show pr_wr ((g = 14 ∨ g = 15) ∧ sx = 1) X = _ from if_neg (fun z => (fun z => z.elim c_3 c_9) z.1), show pr_wr (¬ g = 16 ∧ (sy = 1 ∨ (g = 14 ∨ g = 15) ∧ sy = 2)) Y = _ from if_neg (fun z => z.1 c_32), show pr_op g a = _ from by unfold pr_op; rw [if_neg c_76, if_neg c_87, if_neg c_98, if_neg c_109]]
            simp
          rw [e]; exact R_135
        · exact md_eq_A (s1 := s_128) (md_eq_tr (md_eq_rf : md_eq [41] [40, 42, 43] [] s s) F_132 (by decide) (by decide) (by decide)) _ (by decide)
        · exact F_132.2.1 42 (by decide)
        · show upd (s_128.2.1 43) t 1 = _
          rw [show s_128.2.1 43 = s.2.1 43 from F_132.2.1 43 (by decide), if_neg (fun z => z.elim c_3 c_9)]
      ·
        refine aw_iload C dX9_printBetween_35 rfl (q := 37) rfl ?_
        refine aw_iconst (v := 1) C dX9_printBetween_37 (by decide) (q := 38) rfl ?_
        refine aw_icmp_eq (t := 52) (q := 41) C dX9_printBetween_38 (by decide) rfl (fun c_38 => ?_) (fun c_38 => ?_)
        ·
          refine aw_aload_n C dX9_printBetween_52 rfl rfl (q := 53) rfl ?_
          refine aw_aload_n C dX9_printBetween_53 rfl rfl (q := 54) rfl ?_
          refine gfX9_83_9 (v := .ref (md 42)) C dX9_printBetween_54 K.1 rfl (q := 57) rfl ?_
          refine aw_iload_n C dX9_printBetween_57 rfl rfl (q := 58) rfl ?_
          refine aw_iconst (v := 1) C dX9_printBetween_58 (by decide) (q := 59) rfl ?_
          refine aw_isub C dX9_printBetween_59 (q := 60) rfl ?_
          refine ay_iald (N := 320) (f := s.2.1 42) (j := t + 1) C dX9_printBetween_60 (K.2.1 42 (by decide)) (by rw [nI_s1 (by omega)]; exact vp_in_nI (by omega) (by decide)) (by rw [nI_s1 (by omega)]; exact nI_clamp (by omega)) (q := 61) rfl ?_
          rw [show s.2.1 42 (t + 1) = nI (A ++ X).length from by rw [show s.2.1 42 = s.2.1 42 from (md_eq_rf : md_eq [41] [40] [] s s).2.1 42 (by decide)]; exact hb2]
          refine cvX9_183_9 (As := [.int (nI (A ++ X).length)]) (rest := []) C B9 dX9_printBetween_61 K.1 (m_enclose G M.2.1 o md hm h d s K (A ++ X ++ Y) R (by simp only [List.length_append, List.length_cons, List.length_nil]; omega) (A ++ X).length (by simp only [List.length_append, List.length_cons, List.length_nil]; omega)) rfl rfl (Nat.le_of_ble_eq_true rfl) (by omega) (by omega) (by omega) (q := 64) rfl (fun r9 h_140 hr9 => ?_)
          obtain ⟨s_141, er9, K_142, R_143, F_144, kpx_146⟩ := hr9
          subst er9
          have F_145 : md_eq [41] [40] [] s s_141 := md_eq_tr md_eq_rf F_144 (by decide) (by decide) (by decide)
          have kq_147 : kp h h_140 (md_L o md) := kpx_146
          show aw G 6 M 64 [.ref o, .int g, .int a, .int (nI (t + 2)), .int 0, .int sy] [] h_140 0 0
          have R_148 : pb_rep s_141 (A ++ X ++ (40 :: (Y ++ [41]))) := by have z := R_143; rw [pb_enc_app] at z; exact z
          refine aw_aload_n C dX9_printBetween_64 rfl rfl (q := 65) rfl ?_
          refine aw_aload_n C dX9_printBetween_65 rfl rfl (q := 66) rfl ?_
          refine gfX9_83_9 (v := .ref (md 42)) C dX9_printBetween_66 K_142.1 rfl (q := 69) rfl ?_
          refine aw_iload_n C dX9_printBetween_69 rfl rfl (q := 70) rfl ?_
          refine aw_iconst (v := 1) C dX9_printBetween_70 (by decide) (q := 71) rfl ?_
          refine aw_isub C dX9_printBetween_71 (q := 72) rfl ?_
          refine ay_iald (N := 320) (f := s_141.2.1 42) (j := t + 1) C dX9_printBetween_72 (K_142.2.1 42 (by decide)) (by rw [nI_s1 (by omega)]; exact vp_in_nI (by omega) (by decide)) (by rw [nI_s1 (by omega)]; exact nI_clamp (by omega)) (q := 73) rfl ?_
          rw [show s_141.2.1 42 (t + 1) = nI (A ++ X).length from by rw [show s_141.2.1 42 = s.2.1 42 from (F_145 : md_eq [41] [40] [] s s_141).2.1 42 (by decide)]; exact hb2]
          refine aw_iload_n C dX9_printBetween_73 rfl rfl (q := 74) rfl ?_
          refine aw_bipush (v := 12) C dX9_printBetween_74 (by decide) (q := 76) rfl ?_
          refine aw_icmp_ne (t := 84) (q := 79) C dX9_printBetween_76 (by decide) rfl (fun c_76 => ?_) (fun c_76 => ?_)
          ·
            refine aw_iload_n C dX9_printBetween_84 rfl rfl (q := 85) rfl ?_
            refine aw_bipush (v := 13) C dX9_printBetween_85 (by decide) (q := 87) rfl ?_
            refine aw_icmp_ne (t := 95) (q := 90) C dX9_printBetween_87 (by decide) rfl (fun c_87 => ?_) (fun c_87 => ?_)
            ·
              refine aw_iload_n C dX9_printBetween_95 rfl rfl (q := 96) rfl ?_
              refine aw_bipush (v := 14) C dX9_printBetween_96 (by decide) (q := 98) rfl ?_
              refine aw_icmp_ne (t := 106) (q := 101) C dX9_printBetween_98 (by decide) rfl (fun c_98 => ?_) (fun c_98 => absurd c_98 (c_3))
              refine aw_iload_n C dX9_printBetween_106 rfl rfl (q := 107) rfl ?_
              refine aw_bipush (v := 15) C dX9_printBetween_107 (by decide) (q := 109) rfl ?_
              refine aw_icmp_ne (t := 117) (q := 112) C dX9_printBetween_109 (by decide) rfl (fun c_109 => ?_) (fun c_109 => absurd c_109 (c_9))
              refine aw_iload_n C dX9_printBetween_117 rfl rfl (q := 118) rfl ?_
              refine cvX9_174_9 (As := [.int (nI (A ++ X).length), .int a]) (rest := []) C B9 dX9_printBetween_118 K_142.1 (m_insert G M.2.1 o md hm h_140 (d + 1) s_141 K_142 (A ++ X ++ (40 :: (Y ++ [41]))) R_148 (by simp only [List.length_append, List.length_cons, List.length_nil]; omega) (A ++ X).length (by simp only [List.length_append, List.length_cons, List.length_nil]; omega) a) rfl rfl (Nat.le_of_ble_eq_true rfl) (by omega) (by omega) (by omega) (q := 121) rfl (fun r9 h_149 hr9 => ?_)
              obtain ⟨s_150, er9, K_151, R_152, F_153, kpx_155⟩ := hr9
              subst er9
              have F_154 : md_eq [41] [40] [] s s_150 := md_eq_tr F_145 F_153 (by decide) (by decide) (by decide)
              have kq_156 : kp h h_149 (md_L o md) := kp_in kq_147 kpx_155 (fun _ z => z)
              show aw G 6 M 121 [.ref o, .int g, .int a, .int (nI (t + 2)), .int 0, .int sy] [] h_149 0 0
              have R_157 : pb_rep s_150 (A ++ X ++ a :: (40 :: (Y ++ [41]))) := by have z := R_152; rw [pb_ins_app] at z; exact z
              refine aw_iload C dX9_printBetween_121 rfl (q := 123) rfl ?_
              refine aw_if_eq (t := 166) (q := 126) C dX9_printBetween_123 (by decide) rfl (fun c_123 => ?_) (fun c_123 => absurd c_123 (by decide))
              refine aw_aload_n C dX9_printBetween_166 rfl rfl (q := 167) rfl ?_
              refine gfX9_86_9 (v := .ref (md 43)) C dX9_printBetween_167 K_151.1 rfl (q := 170) rfl ?_
              refine aw_iload_n C dX9_printBetween_170 rfl rfl (q := 171) rfl ?_
              refine aw_iconst (v := 2) C dX9_printBetween_171 (by decide) (q := 172) rfl ?_
              refine aw_isub C dX9_printBetween_172 (q := 173) rfl ?_
              refine aw_iload C dX9_printBetween_173 rfl (q := 175) rfl ?_
              refine aw_if_eq (t := 182) (q := 178) C dX9_printBetween_175 (by decide) rfl (fun c_175 => ?_) (fun c_175 => absurd c_175 (by decide))
              refine aw_iconst (v := 1) C dX9_printBetween_182 (by decide) (q := 183) rfl ?_
              refine ay_iast (N := 320) (f := s_150.2.1 43) (j := t) C dX9_printBetween_183 (K_151.2.1 43 (by decide)) (by rw [nI_s2 (by omega)]; exact vp_in_nI (by omega) (by decide)) (by rw [nI_s2 (by omega)]; exact nI_clamp (by omega)) (q := 184) rfl ?_
              show aw G 6 M 184 [.ref o, .int g, .int a, .int (nI (t + 2)), .int 0, .int sy] [] (ac_up h_149 (md 43) (.inl (1, 320, .inl (upd (s_150.2.1 43) t 1)))) 0 0
              obtain ⟨h_158, eh_158⟩ : ∃ z9, z9 = ac_up h_149 (md 43) (.inl (1, 320, .inl (upd (s_150.2.1 43) t 1))) := ⟨_, rfl⟩
              rw [← eh_158]
              have kpx_161 : kp h_149 h_158 [md 43] := by rw [eh_158]; exact kp_up (kp_cons _ kp_rf) _ _ (by simp)
              have K_159 : md_ok h_158 o md (s_150.1, va_up s_150.2.1 43 (upd (s_150.2.1 43) t 1), s_150.2.2) := md_A (s := (s_150.1, s_150.2.1, s_150.2.2)) hm K_151 (j := 43) (by decide) (by rw [eh_158]; exact ac_up_s _ _ _) kpx_161
              have kq_160 : kp h h_158 (md_L o md) := kp_in kq_156 kpx_161 (md_sj (by decide))
              refine aw_vret C E dX9_printBetween_184 (Nat.le_refl _) (Nat.le_refl _) ?_
              refine ⟨_, rfl, K_159, ?_, ?_, ?_, ?_, kq_160⟩
              · have e : A ++ pr_two g a sx sy X Y = A ++ X ++ a :: (40 :: (Y ++ [41])) := by
                  unfold pr_two
                  rw [show pr_wr ((g = 14 ∨ g = 15) ∧ sx = 1) X = _ from if_neg (fun z => (fun z => z.elim c_3 c_9) z.1), show pr_wr (¬ g = 16 ∧ (sy = 1 ∨ (g = 14 ∨ g = 15) ∧ sy = 2)) Y = _ from if_pos ⟨c_32, Or.inl c_38⟩, show pr_op g a = _ from by unfold pr_op; rw [if_neg c_76, if_neg c_87, if_neg c_98, if_neg c_109]]
                  simp
                rw [e]; exact R_157
              · exact md_eq_A (s1 := s_150) (md_eq_tr (md_eq_rf : md_eq [41] [40, 42, 43] [] s s) F_154 (by decide) (by decide) (by decide)) _ (by decide)
              · exact F_154.2.1 42 (by decide)
              · show upd (s_150.2.1 43) t 1 = _
                rw [show s_150.2.1 43 = s.2.1 43 from F_154.2.1 43 (by decide), if_neg (fun z => z.elim c_3 c_9)]
            ·
              refine aw_bipush (v := 45) C dX9_printBetween_90 (by decide) (q := 92) rfl ?_
              refine aw_goto (q := 118) C dX9_printBetween_92 (by decide) ?_
              refine cvX9_174_9 (As := [.int (nI (A ++ X).length), .int 45]) (rest := []) C B9 dX9_printBetween_118 K_142.1 (m_insert G M.2.1 o md hm h_140 (d + 1) s_141 K_142 (A ++ X ++ (40 :: (Y ++ [41]))) R_148 (by simp only [List.length_append, List.length_cons, List.length_nil]; omega) (A ++ X).length (by simp only [List.length_append, List.length_cons, List.length_nil]; omega) 45) rfl rfl (Nat.le_of_ble_eq_true rfl) (by omega) (by omega) (by omega) (q := 121) rfl (fun r9 h_162 hr9 => ?_)
              obtain ⟨s_163, er9, K_164, R_165, F_166, kpx_168⟩ := hr9
              subst er9
              have F_167 : md_eq [41] [40] [] s s_163 := md_eq_tr F_145 F_166 (by decide) (by decide) (by decide)
              have kq_169 : kp h h_162 (md_L o md) := kp_in kq_147 kpx_168 (fun _ z => z)
              show aw G 6 M 121 [.ref o, .int g, .int a, .int (nI (t + 2)), .int 0, .int sy] [] h_162 0 0
              have R_170 : pb_rep s_163 (A ++ X ++ 45 :: (40 :: (Y ++ [41]))) := by have z := R_165; rw [pb_ins_app] at z; exact z
              refine aw_iload C dX9_printBetween_121 rfl (q := 123) rfl ?_
              refine aw_if_eq (t := 166) (q := 126) C dX9_printBetween_123 (by decide) rfl (fun c_123 => ?_) (fun c_123 => absurd c_123 (by decide))
              refine aw_aload_n C dX9_printBetween_166 rfl rfl (q := 167) rfl ?_
              refine gfX9_86_9 (v := .ref (md 43)) C dX9_printBetween_167 K_164.1 rfl (q := 170) rfl ?_
              refine aw_iload_n C dX9_printBetween_170 rfl rfl (q := 171) rfl ?_
              refine aw_iconst (v := 2) C dX9_printBetween_171 (by decide) (q := 172) rfl ?_
              refine aw_isub C dX9_printBetween_172 (q := 173) rfl ?_
              refine aw_iload C dX9_printBetween_173 rfl (q := 175) rfl ?_
              refine aw_if_eq (t := 182) (q := 178) C dX9_printBetween_175 (by decide) rfl (fun c_175 => ?_) (fun c_175 => absurd c_175 (by decide))
              refine aw_iconst (v := 1) C dX9_printBetween_182 (by decide) (q := 183) rfl ?_
              refine ay_iast (N := 320) (f := s_163.2.1 43) (j := t) C dX9_printBetween_183 (K_164.2.1 43 (by decide)) (by rw [nI_s2 (by omega)]; exact vp_in_nI (by omega) (by decide)) (by rw [nI_s2 (by omega)]; exact nI_clamp (by omega)) (q := 184) rfl ?_
              show aw G 6 M 184 [.ref o, .int g, .int a, .int (nI (t + 2)), .int 0, .int sy] [] (ac_up h_162 (md 43) (.inl (1, 320, .inl (upd (s_163.2.1 43) t 1)))) 0 0
              obtain ⟨h_171, eh_171⟩ : ∃ z9, z9 = ac_up h_162 (md 43) (.inl (1, 320, .inl (upd (s_163.2.1 43) t 1))) := ⟨_, rfl⟩
              rw [← eh_171]
              have kpx_174 : kp h_162 h_171 [md 43] := by rw [eh_171]; exact kp_up (kp_cons _ kp_rf) _ _ (by simp)
              have K_172 : md_ok h_171 o md (s_163.1, va_up s_163.2.1 43 (upd (s_163.2.1 43) t 1), s_163.2.2) := md_A (s := (s_163.1, s_163.2.1, s_163.2.2)) hm K_164 (j := 43) (by decide) (by rw [eh_171]; exact ac_up_s _ _ _) kpx_174
              have kq_173 : kp h h_171 (md_L o md) := kp_in kq_169 kpx_174 (md_sj (by decide))
              refine aw_vret C E dX9_printBetween_184 (Nat.le_refl _) (Nat.le_refl _) ?_
              refine ⟨_, rfl, K_172, ?_, ?_, ?_, ?_, kq_173⟩
              · have e : A ++ pr_two g a sx sy X Y = A ++ X ++ 45 :: (40 :: (Y ++ [41])) := by
                  unfold pr_two
                  rw [show pr_wr ((g = 14 ∨ g = 15) ∧ sx = 1) X = _ from if_neg (fun z => (fun z => z.elim c_3 c_9) z.1), show pr_wr (¬ g = 16 ∧ (sy = 1 ∨ (g = 14 ∨ g = 15) ∧ sy = 2)) Y = _ from if_pos ⟨c_32, Or.inl c_38⟩, show pr_op g a = _ from by unfold pr_op; rw [if_neg c_76, if_pos c_87]]
                  simp
                rw [e]; exact R_170
              · exact md_eq_A (s1 := s_163) (md_eq_tr (md_eq_rf : md_eq [41] [40, 42, 43] [] s s) F_167 (by decide) (by decide) (by decide)) _ (by decide)
              · exact F_167.2.1 42 (by decide)
              · show upd (s_163.2.1 43) t 1 = _
                rw [show s_163.2.1 43 = s.2.1 43 from F_167.2.1 43 (by decide), if_neg (fun z => z.elim c_3 c_9)]
          ·
            refine aw_bipush (v := 43) C dX9_printBetween_79 (by decide) (q := 81) rfl ?_
            refine aw_goto (q := 118) C dX9_printBetween_81 (by decide) ?_
            refine cvX9_174_9 (As := [.int (nI (A ++ X).length), .int 43]) (rest := []) C B9 dX9_printBetween_118 K_142.1 (m_insert G M.2.1 o md hm h_140 (d + 1) s_141 K_142 (A ++ X ++ (40 :: (Y ++ [41]))) R_148 (by simp only [List.length_append, List.length_cons, List.length_nil]; omega) (A ++ X).length (by simp only [List.length_append, List.length_cons, List.length_nil]; omega) 43) rfl rfl (Nat.le_of_ble_eq_true rfl) (by omega) (by omega) (by omega) (q := 121) rfl (fun r9 h_175 hr9 => ?_)
            obtain ⟨s_176, er9, K_177, R_178, F_179, kpx_181⟩ := hr9
            subst er9
            have F_180 : md_eq [41] [40] [] s s_176 := md_eq_tr F_145 F_179 (by decide) (by decide) (by decide)
            have kq_182 : kp h h_175 (md_L o md) := kp_in kq_147 kpx_181 (fun _ z => z)
            show aw G 6 M 121 [.ref o, .int g, .int a, .int (nI (t + 2)), .int 0, .int sy] [] h_175 0 0
            have R_183 : pb_rep s_176 (A ++ X ++ 43 :: (40 :: (Y ++ [41]))) := by have z := R_178; rw [pb_ins_app] at z; exact z
            refine aw_iload C dX9_printBetween_121 rfl (q := 123) rfl ?_
            refine aw_if_eq (t := 166) (q := 126) C dX9_printBetween_123 (by decide) rfl (fun c_123 => ?_) (fun c_123 => absurd c_123 (by decide))
            refine aw_aload_n C dX9_printBetween_166 rfl rfl (q := 167) rfl ?_
            refine gfX9_86_9 (v := .ref (md 43)) C dX9_printBetween_167 K_177.1 rfl (q := 170) rfl ?_
            refine aw_iload_n C dX9_printBetween_170 rfl rfl (q := 171) rfl ?_
            refine aw_iconst (v := 2) C dX9_printBetween_171 (by decide) (q := 172) rfl ?_
            refine aw_isub C dX9_printBetween_172 (q := 173) rfl ?_
            refine aw_iload C dX9_printBetween_173 rfl (q := 175) rfl ?_
            refine aw_if_eq (t := 182) (q := 178) C dX9_printBetween_175 (by decide) rfl (fun c_175 => ?_) (fun c_175 => absurd c_175 (by decide))
            refine aw_iconst (v := 1) C dX9_printBetween_182 (by decide) (q := 183) rfl ?_
            refine ay_iast (N := 320) (f := s_176.2.1 43) (j := t) C dX9_printBetween_183 (K_177.2.1 43 (by decide)) (by rw [nI_s2 (by omega)]; exact vp_in_nI (by omega) (by decide)) (by rw [nI_s2 (by omega)]; exact nI_clamp (by omega)) (q := 184) rfl ?_
            show aw G 6 M 184 [.ref o, .int g, .int a, .int (nI (t + 2)), .int 0, .int sy] [] (ac_up h_175 (md 43) (.inl (1, 320, .inl (upd (s_176.2.1 43) t 1)))) 0 0
            obtain ⟨h_184, eh_184⟩ : ∃ z9, z9 = ac_up h_175 (md 43) (.inl (1, 320, .inl (upd (s_176.2.1 43) t 1))) := ⟨_, rfl⟩
            rw [← eh_184]
            have kpx_187 : kp h_175 h_184 [md 43] := by rw [eh_184]; exact kp_up (kp_cons _ kp_rf) _ _ (by simp)
            have K_185 : md_ok h_184 o md (s_176.1, va_up s_176.2.1 43 (upd (s_176.2.1 43) t 1), s_176.2.2) := md_A (s := (s_176.1, s_176.2.1, s_176.2.2)) hm K_177 (j := 43) (by decide) (by rw [eh_184]; exact ac_up_s _ _ _) kpx_187
            have kq_186 : kp h h_184 (md_L o md) := kp_in kq_182 kpx_187 (md_sj (by decide))
            refine aw_vret C E dX9_printBetween_184 (Nat.le_refl _) (Nat.le_refl _) ?_
            refine ⟨_, rfl, K_185, ?_, ?_, ?_, ?_, kq_186⟩
            · have e : A ++ pr_two g a sx sy X Y = A ++ X ++ 43 :: (40 :: (Y ++ [41])) := by
                unfold pr_two
                rw [show pr_wr ((g = 14 ∨ g = 15) ∧ sx = 1) X = _ from if_neg (fun z => (fun z => z.elim c_3 c_9) z.1), show pr_wr (¬ g = 16 ∧ (sy = 1 ∨ (g = 14 ∨ g = 15) ∧ sy = 2)) Y = _ from if_pos ⟨c_32, Or.inl c_38⟩, show pr_op g a = _ from by unfold pr_op; rw [if_pos c_76]]
                simp
              rw [e]; exact R_183
            · exact md_eq_A (s1 := s_176) (md_eq_tr (md_eq_rf : md_eq [41] [40, 42, 43] [] s s) F_180 (by decide) (by decide) (by decide)) _ (by decide)
            · exact F_180.2.1 42 (by decide)
            · show upd (s_176.2.1 43) t 1 = _
              rw [show s_176.2.1 43 = s.2.1 43 from F_180.2.1 43 (by decide), if_neg (fun z => z.elim c_3 c_9)]
        ·
          refine aw_iload C dX9_printBetween_41 rfl (q := 43) rfl ?_
          refine aw_if_eq (t := 64) (q := 46) C dX9_printBetween_43 (by decide) rfl (fun c_43 => ?_) (fun c_43 => absurd c_43 (by decide))
          refine aw_aload_n C dX9_printBetween_64 rfl rfl (q := 65) rfl ?_
          refine aw_aload_n C dX9_printBetween_65 rfl rfl (q := 66) rfl ?_
          refine gfX9_83_9 (v := .ref (md 42)) C dX9_printBetween_66 K.1 rfl (q := 69) rfl ?_
          refine aw_iload_n C dX9_printBetween_69 rfl rfl (q := 70) rfl ?_
          refine aw_iconst (v := 1) C dX9_printBetween_70 (by decide) (q := 71) rfl ?_
          refine aw_isub C dX9_printBetween_71 (q := 72) rfl ?_
          refine ay_iald (N := 320) (f := s.2.1 42) (j := t + 1) C dX9_printBetween_72 (K.2.1 42 (by decide)) (by rw [nI_s1 (by omega)]; exact vp_in_nI (by omega) (by decide)) (by rw [nI_s1 (by omega)]; exact nI_clamp (by omega)) (q := 73) rfl ?_
          rw [show s.2.1 42 (t + 1) = nI (A ++ X).length from by rw [show s.2.1 42 = s.2.1 42 from (md_eq_rf : md_eq [41] [40] [] s s).2.1 42 (by decide)]; exact hb2]
          refine aw_iload_n C dX9_printBetween_73 rfl rfl (q := 74) rfl ?_
          refine aw_bipush (v := 12) C dX9_printBetween_74 (by decide) (q := 76) rfl ?_
          refine aw_icmp_ne (t := 84) (q := 79) C dX9_printBetween_76 (by decide) rfl (fun c_76 => ?_) (fun c_76 => ?_)
          ·
            refine aw_iload_n C dX9_printBetween_84 rfl rfl (q := 85) rfl ?_
            refine aw_bipush (v := 13) C dX9_printBetween_85 (by decide) (q := 87) rfl ?_
            refine aw_icmp_ne (t := 95) (q := 90) C dX9_printBetween_87 (by decide) rfl (fun c_87 => ?_) (fun c_87 => ?_)
            ·
              refine aw_iload_n C dX9_printBetween_95 rfl rfl (q := 96) rfl ?_
              refine aw_bipush (v := 14) C dX9_printBetween_96 (by decide) (q := 98) rfl ?_
              refine aw_icmp_ne (t := 106) (q := 101) C dX9_printBetween_98 (by decide) rfl (fun c_98 => ?_) (fun c_98 => absurd c_98 (c_3))
              refine aw_iload_n C dX9_printBetween_106 rfl rfl (q := 107) rfl ?_
              refine aw_bipush (v := 15) C dX9_printBetween_107 (by decide) (q := 109) rfl ?_
              refine aw_icmp_ne (t := 117) (q := 112) C dX9_printBetween_109 (by decide) rfl (fun c_109 => ?_) (fun c_109 => absurd c_109 (c_9))
              refine aw_iload_n C dX9_printBetween_117 rfl rfl (q := 118) rfl ?_
              refine cvX9_174_9 (As := [.int (nI (A ++ X).length), .int a]) (rest := []) C B9 dX9_printBetween_118 K.1 (m_insert G M.2.1 o md hm h (d + 1) s K (A ++ X ++ Y) R (by simp only [List.length_append, List.length_cons, List.length_nil]; omega) (A ++ X).length (by simp only [List.length_append, List.length_cons, List.length_nil]; omega) a) rfl rfl (Nat.le_of_ble_eq_true rfl) (by omega) (by omega) (by omega) (q := 121) rfl (fun r9 h_188 hr9 => ?_)
              obtain ⟨s_189, er9, K_190, R_191, F_192, kpx_194⟩ := hr9
              subst er9
              have F_193 : md_eq [41] [40] [] s s_189 := md_eq_tr md_eq_rf F_192 (by decide) (by decide) (by decide)
              have kq_195 : kp h h_188 (md_L o md) := kpx_194
              show aw G 6 M 121 [.ref o, .int g, .int a, .int (nI (t + 2)), .int 0, .int sy] [] h_188 0 0
              have R_196 : pb_rep s_189 (A ++ X ++ a :: Y) := by have z := R_191; rw [pb_ins_app] at z; exact z
              refine aw_iload C dX9_printBetween_121 rfl (q := 123) rfl ?_
              refine aw_if_eq (t := 166) (q := 126) C dX9_printBetween_123 (by decide) rfl (fun c_123 => ?_) (fun c_123 => absurd c_123 (by decide))
              refine aw_aload_n C dX9_printBetween_166 rfl rfl (q := 167) rfl ?_
              refine gfX9_86_9 (v := .ref (md 43)) C dX9_printBetween_167 K_190.1 rfl (q := 170) rfl ?_
              refine aw_iload_n C dX9_printBetween_170 rfl rfl (q := 171) rfl ?_
              refine aw_iconst (v := 2) C dX9_printBetween_171 (by decide) (q := 172) rfl ?_
              refine aw_isub C dX9_printBetween_172 (q := 173) rfl ?_
              refine aw_iload C dX9_printBetween_173 rfl (q := 175) rfl ?_
              refine aw_if_eq (t := 182) (q := 178) C dX9_printBetween_175 (by decide) rfl (fun c_175 => ?_) (fun c_175 => absurd c_175 (by decide))
              refine aw_iconst (v := 1) C dX9_printBetween_182 (by decide) (q := 183) rfl ?_
              refine ay_iast (N := 320) (f := s_189.2.1 43) (j := t) C dX9_printBetween_183 (K_190.2.1 43 (by decide)) (by rw [nI_s2 (by omega)]; exact vp_in_nI (by omega) (by decide)) (by rw [nI_s2 (by omega)]; exact nI_clamp (by omega)) (q := 184) rfl ?_
              show aw G 6 M 184 [.ref o, .int g, .int a, .int (nI (t + 2)), .int 0, .int sy] [] (ac_up h_188 (md 43) (.inl (1, 320, .inl (upd (s_189.2.1 43) t 1)))) 0 0
              obtain ⟨h_197, eh_197⟩ : ∃ z9, z9 = ac_up h_188 (md 43) (.inl (1, 320, .inl (upd (s_189.2.1 43) t 1))) := ⟨_, rfl⟩
              rw [← eh_197]
              have kpx_200 : kp h_188 h_197 [md 43] := by rw [eh_197]; exact kp_up (kp_cons _ kp_rf) _ _ (by simp)
              have K_198 : md_ok h_197 o md (s_189.1, va_up s_189.2.1 43 (upd (s_189.2.1 43) t 1), s_189.2.2) := md_A (s := (s_189.1, s_189.2.1, s_189.2.2)) hm K_190 (j := 43) (by decide) (by rw [eh_197]; exact ac_up_s _ _ _) kpx_200
              have kq_199 : kp h h_197 (md_L o md) := kp_in kq_195 kpx_200 (md_sj (by decide))
              refine aw_vret C E dX9_printBetween_184 (Nat.le_refl _) (Nat.le_refl _) ?_
              refine ⟨_, rfl, K_198, ?_, ?_, ?_, ?_, kq_199⟩
              · have e : A ++ pr_two g a sx sy X Y = A ++ X ++ a :: Y := by
                  unfold pr_two
                  rw [show pr_wr ((g = 14 ∨ g = 15) ∧ sx = 1) X = _ from if_neg (fun z => (fun z => z.elim c_3 c_9) z.1), show pr_wr (¬ g = 16 ∧ (sy = 1 ∨ (g = 14 ∨ g = 15) ∧ sy = 2)) Y = _ from if_neg (fun z => z.2.elim c_38 (fun y => (fun z => z.elim c_3 c_9) y.1)), show pr_op g a = _ from by unfold pr_op; rw [if_neg c_76, if_neg c_87, if_neg c_98, if_neg c_109]]
                  simp
                rw [e]; exact R_196
              · exact md_eq_A (s1 := s_189) (md_eq_tr (md_eq_rf : md_eq [41] [40, 42, 43] [] s s) F_193 (by decide) (by decide) (by decide)) _ (by decide)
              · exact F_193.2.1 42 (by decide)
              · show upd (s_189.2.1 43) t 1 = _
                rw [show s_189.2.1 43 = s.2.1 43 from F_193.2.1 43 (by decide), if_neg (fun z => z.elim c_3 c_9)]
            ·
              refine aw_bipush (v := 45) C dX9_printBetween_90 (by decide) (q := 92) rfl ?_
              refine aw_goto (q := 118) C dX9_printBetween_92 (by decide) ?_
              refine cvX9_174_9 (As := [.int (nI (A ++ X).length), .int 45]) (rest := []) C B9 dX9_printBetween_118 K.1 (m_insert G M.2.1 o md hm h (d + 1) s K (A ++ X ++ Y) R (by simp only [List.length_append, List.length_cons, List.length_nil]; omega) (A ++ X).length (by simp only [List.length_append, List.length_cons, List.length_nil]; omega) 45) rfl rfl (Nat.le_of_ble_eq_true rfl) (by omega) (by omega) (by omega) (q := 121) rfl (fun r9 h_201 hr9 => ?_)
              obtain ⟨s_202, er9, K_203, R_204, F_205, kpx_207⟩ := hr9
              subst er9
              have F_206 : md_eq [41] [40] [] s s_202 := md_eq_tr md_eq_rf F_205 (by decide) (by decide) (by decide)
              have kq_208 : kp h h_201 (md_L o md) := kpx_207
              show aw G 6 M 121 [.ref o, .int g, .int a, .int (nI (t + 2)), .int 0, .int sy] [] h_201 0 0
              have R_209 : pb_rep s_202 (A ++ X ++ 45 :: Y) := by have z := R_204; rw [pb_ins_app] at z; exact z
              refine aw_iload C dX9_printBetween_121 rfl (q := 123) rfl ?_
              refine aw_if_eq (t := 166) (q := 126) C dX9_printBetween_123 (by decide) rfl (fun c_123 => ?_) (fun c_123 => absurd c_123 (by decide))
              refine aw_aload_n C dX9_printBetween_166 rfl rfl (q := 167) rfl ?_
              refine gfX9_86_9 (v := .ref (md 43)) C dX9_printBetween_167 K_203.1 rfl (q := 170) rfl ?_
              refine aw_iload_n C dX9_printBetween_170 rfl rfl (q := 171) rfl ?_
              refine aw_iconst (v := 2) C dX9_printBetween_171 (by decide) (q := 172) rfl ?_
              refine aw_isub C dX9_printBetween_172 (q := 173) rfl ?_
              refine aw_iload C dX9_printBetween_173 rfl (q := 175) rfl ?_
              refine aw_if_eq (t := 182) (q := 178) C dX9_printBetween_175 (by decide) rfl (fun c_175 => ?_) (fun c_175 => absurd c_175 (by decide))
              refine aw_iconst (v := 1) C dX9_printBetween_182 (by decide) (q := 183) rfl ?_
              refine ay_iast (N := 320) (f := s_202.2.1 43) (j := t) C dX9_printBetween_183 (K_203.2.1 43 (by decide)) (by rw [nI_s2 (by omega)]; exact vp_in_nI (by omega) (by decide)) (by rw [nI_s2 (by omega)]; exact nI_clamp (by omega)) (q := 184) rfl ?_
              show aw G 6 M 184 [.ref o, .int g, .int a, .int (nI (t + 2)), .int 0, .int sy] [] (ac_up h_201 (md 43) (.inl (1, 320, .inl (upd (s_202.2.1 43) t 1)))) 0 0
              obtain ⟨h_210, eh_210⟩ : ∃ z9, z9 = ac_up h_201 (md 43) (.inl (1, 320, .inl (upd (s_202.2.1 43) t 1))) := ⟨_, rfl⟩
              rw [← eh_210]
              have kpx_213 : kp h_201 h_210 [md 43] := by rw [eh_210]; exact kp_up (kp_cons _ kp_rf) _ _ (by simp)
              have K_211 : md_ok h_210 o md (s_202.1, va_up s_202.2.1 43 (upd (s_202.2.1 43) t 1), s_202.2.2) := md_A (s := (s_202.1, s_202.2.1, s_202.2.2)) hm K_203 (j := 43) (by decide) (by rw [eh_210]; exact ac_up_s _ _ _) kpx_213
              have kq_212 : kp h h_210 (md_L o md) := kp_in kq_208 kpx_213 (md_sj (by decide))
              refine aw_vret C E dX9_printBetween_184 (Nat.le_refl _) (Nat.le_refl _) ?_
              refine ⟨_, rfl, K_211, ?_, ?_, ?_, ?_, kq_212⟩
              · have e : A ++ pr_two g a sx sy X Y = A ++ X ++ 45 :: Y := by
                  unfold pr_two
                  rw [show pr_wr ((g = 14 ∨ g = 15) ∧ sx = 1) X = _ from if_neg (fun z => (fun z => z.elim c_3 c_9) z.1), show pr_wr (¬ g = 16 ∧ (sy = 1 ∨ (g = 14 ∨ g = 15) ∧ sy = 2)) Y = _ from if_neg (fun z => z.2.elim c_38 (fun y => (fun z => z.elim c_3 c_9) y.1)), show pr_op g a = _ from by unfold pr_op; rw [if_neg c_76, if_pos c_87]]
                  simp
                rw [e]; exact R_209
              · exact md_eq_A (s1 := s_202) (md_eq_tr (md_eq_rf : md_eq [41] [40, 42, 43] [] s s) F_206 (by decide) (by decide) (by decide)) _ (by decide)
              · exact F_206.2.1 42 (by decide)
              · show upd (s_202.2.1 43) t 1 = _
                rw [show s_202.2.1 43 = s.2.1 43 from F_206.2.1 43 (by decide), if_neg (fun z => z.elim c_3 c_9)]
          ·
            refine aw_bipush (v := 43) C dX9_printBetween_79 (by decide) (q := 81) rfl ?_
            refine aw_goto (q := 118) C dX9_printBetween_81 (by decide) ?_
            refine cvX9_174_9 (As := [.int (nI (A ++ X).length), .int 43]) (rest := []) C B9 dX9_printBetween_118 K.1 (m_insert G M.2.1 o md hm h (d + 1) s K (A ++ X ++ Y) R (by simp only [List.length_append, List.length_cons, List.length_nil]; omega) (A ++ X).length (by simp only [List.length_append, List.length_cons, List.length_nil]; omega) 43) rfl rfl (Nat.le_of_ble_eq_true rfl) (by omega) (by omega) (by omega) (q := 121) rfl (fun r9 h_214 hr9 => ?_)
            obtain ⟨s_215, er9, K_216, R_217, F_218, kpx_220⟩ := hr9
            subst er9
            have F_219 : md_eq [41] [40] [] s s_215 := md_eq_tr md_eq_rf F_218 (by decide) (by decide) (by decide)
            have kq_221 : kp h h_214 (md_L o md) := kpx_220
            show aw G 6 M 121 [.ref o, .int g, .int a, .int (nI (t + 2)), .int 0, .int sy] [] h_214 0 0
            have R_222 : pb_rep s_215 (A ++ X ++ 43 :: Y) := by have z := R_217; rw [pb_ins_app] at z; exact z
            refine aw_iload C dX9_printBetween_121 rfl (q := 123) rfl ?_
            refine aw_if_eq (t := 166) (q := 126) C dX9_printBetween_123 (by decide) rfl (fun c_123 => ?_) (fun c_123 => absurd c_123 (by decide))
            refine aw_aload_n C dX9_printBetween_166 rfl rfl (q := 167) rfl ?_
            refine gfX9_86_9 (v := .ref (md 43)) C dX9_printBetween_167 K_216.1 rfl (q := 170) rfl ?_
            refine aw_iload_n C dX9_printBetween_170 rfl rfl (q := 171) rfl ?_
            refine aw_iconst (v := 2) C dX9_printBetween_171 (by decide) (q := 172) rfl ?_
            refine aw_isub C dX9_printBetween_172 (q := 173) rfl ?_
            refine aw_iload C dX9_printBetween_173 rfl (q := 175) rfl ?_
            refine aw_if_eq (t := 182) (q := 178) C dX9_printBetween_175 (by decide) rfl (fun c_175 => ?_) (fun c_175 => absurd c_175 (by decide))
            refine aw_iconst (v := 1) C dX9_printBetween_182 (by decide) (q := 183) rfl ?_
            refine ay_iast (N := 320) (f := s_215.2.1 43) (j := t) C dX9_printBetween_183 (K_216.2.1 43 (by decide)) (by rw [nI_s2 (by omega)]; exact vp_in_nI (by omega) (by decide)) (by rw [nI_s2 (by omega)]; exact nI_clamp (by omega)) (q := 184) rfl ?_
            show aw G 6 M 184 [.ref o, .int g, .int a, .int (nI (t + 2)), .int 0, .int sy] [] (ac_up h_214 (md 43) (.inl (1, 320, .inl (upd (s_215.2.1 43) t 1)))) 0 0
            obtain ⟨h_223, eh_223⟩ : ∃ z9, z9 = ac_up h_214 (md 43) (.inl (1, 320, .inl (upd (s_215.2.1 43) t 1))) := ⟨_, rfl⟩
            rw [← eh_223]
            have kpx_226 : kp h_214 h_223 [md 43] := by rw [eh_223]; exact kp_up (kp_cons _ kp_rf) _ _ (by simp)
            have K_224 : md_ok h_223 o md (s_215.1, va_up s_215.2.1 43 (upd (s_215.2.1 43) t 1), s_215.2.2) := md_A (s := (s_215.1, s_215.2.1, s_215.2.2)) hm K_216 (j := 43) (by decide) (by rw [eh_223]; exact ac_up_s _ _ _) kpx_226
            have kq_225 : kp h h_223 (md_L o md) := kp_in kq_221 kpx_226 (md_sj (by decide))
            refine aw_vret C E dX9_printBetween_184 (Nat.le_refl _) (Nat.le_refl _) ?_
            refine ⟨_, rfl, K_224, ?_, ?_, ?_, ?_, kq_225⟩
            · have e : A ++ pr_two g a sx sy X Y = A ++ X ++ 43 :: Y := by
                unfold pr_two
                rw [show pr_wr ((g = 14 ∨ g = 15) ∧ sx = 1) X = _ from if_neg (fun z => (fun z => z.elim c_3 c_9) z.1), show pr_wr (¬ g = 16 ∧ (sy = 1 ∨ (g = 14 ∨ g = 15) ∧ sy = 2)) Y = _ from if_neg (fun z => z.2.elim c_38 (fun y => (fun z => z.elim c_3 c_9) y.1)), show pr_op g a = _ from by unfold pr_op; rw [if_pos c_76]]
                simp
              rw [e]; exact R_222
            · exact md_eq_A (s1 := s_215) (md_eq_tr (md_eq_rf : md_eq [41] [40, 42, 43] [] s s) F_219 (by decide) (by decide) (by decide)) _ (by decide)
            · exact F_219.2.1 42 (by decide)
            · show upd (s_215.2.1 43) t 1 = _
              rw [show s_215.2.1 43 = s.2.1 43 from F_219.2.1 43 (by decide), if_neg (fun z => z.elim c_3 c_9)]
    ·
      refine aw_iconst (v := 1) C dX9_printBetween_12 (by decide) (q := 13) rfl ?_
      refine aw_goto (q := 17) C dX9_printBetween_13 (by decide) ?_
      refine aw_istore (ls' := [.ref o, .int g, .int a, .int (nI (t + 2)), .int 1, .retAddr 0]) C dX9_printBetween_17 (by decide) rfl (q := 19) rfl ?_
      refine aw_aload_n C dX9_printBetween_19 rfl rfl (q := 20) rfl ?_
      refine gfX9_86_9 (v := .ref (md 43)) C dX9_printBetween_20 K.1 rfl (q := 23) rfl ?_
      refine aw_iload_n C dX9_printBetween_23 rfl rfl (q := 24) rfl ?_
      refine aw_iconst (v := 1) C dX9_printBetween_24 (by decide) (q := 25) rfl ?_
      refine aw_isub C dX9_printBetween_25 (q := 26) rfl ?_
      refine ay_iald (N := 320) (f := s.2.1 43) (j := t + 1) C dX9_printBetween_26 (K.2.1 43 (by decide)) (by rw [nI_s1 (by omega)]; exact vp_in_nI (by omega) (by decide)) (by rw [nI_s1 (by omega)]; exact nI_clamp (by omega)) (q := 27) rfl ?_
      rw [show s.2.1 43 (t + 1) = sy from by rw [show s.2.1 43 = s.2.1 43 from (md_eq_rf : md_eq [41] [40] [] s s).2.1 43 (by decide)]; exact hb3]
      refine aw_istore (ls' := [.ref o, .int g, .int a, .int (nI (t + 2)), .int 1, .int sy]) C dX9_printBetween_27 (by decide) rfl (q := 29) rfl ?_
      refine aw_iload_n C dX9_printBetween_29 rfl rfl (q := 30) rfl ?_
      refine aw_bipush (v := 16) C dX9_printBetween_30 (by decide) (q := 32) rfl ?_
      refine aw_icmp_eq (t := 64) (q := 35) C dX9_printBetween_32 (by decide) rfl (fun c_32 => absurd c_32 (by rw [c_9]; decide)) (fun c_32 => ?_)
      refine aw_iload C dX9_printBetween_35 rfl (q := 37) rfl ?_
      refine aw_iconst (v := 1) C dX9_printBetween_37 (by decide) (q := 38) rfl ?_
      refine aw_icmp_eq (t := 52) (q := 41) C dX9_printBetween_38 (by decide) rfl (fun c_38 => ?_) (fun c_38 => ?_)
      ·
        refine aw_aload_n C dX9_printBetween_52 rfl rfl (q := 53) rfl ?_
        refine aw_aload_n C dX9_printBetween_53 rfl rfl (q := 54) rfl ?_
        refine gfX9_83_9 (v := .ref (md 42)) C dX9_printBetween_54 K.1 rfl (q := 57) rfl ?_
        refine aw_iload_n C dX9_printBetween_57 rfl rfl (q := 58) rfl ?_
        refine aw_iconst (v := 1) C dX9_printBetween_58 (by decide) (q := 59) rfl ?_
        refine aw_isub C dX9_printBetween_59 (q := 60) rfl ?_
        refine ay_iald (N := 320) (f := s.2.1 42) (j := t + 1) C dX9_printBetween_60 (K.2.1 42 (by decide)) (by rw [nI_s1 (by omega)]; exact vp_in_nI (by omega) (by decide)) (by rw [nI_s1 (by omega)]; exact nI_clamp (by omega)) (q := 61) rfl ?_
        rw [show s.2.1 42 (t + 1) = nI (A ++ X).length from by rw [show s.2.1 42 = s.2.1 42 from (md_eq_rf : md_eq [41] [40] [] s s).2.1 42 (by decide)]; exact hb2]
        refine cvX9_183_9 (As := [.int (nI (A ++ X).length)]) (rest := []) C B9 dX9_printBetween_61 K.1 (m_enclose G M.2.1 o md hm h d s K (A ++ X ++ Y) R (by simp only [List.length_append, List.length_cons, List.length_nil]; omega) (A ++ X).length (by simp only [List.length_append, List.length_cons, List.length_nil]; omega)) rfl rfl (Nat.le_of_ble_eq_true rfl) (by omega) (by omega) (by omega) (q := 64) rfl (fun r9 h_227 hr9 => ?_)
        obtain ⟨s_228, er9, K_229, R_230, F_231, kpx_233⟩ := hr9
        subst er9
        have F_232 : md_eq [41] [40] [] s s_228 := md_eq_tr md_eq_rf F_231 (by decide) (by decide) (by decide)
        have kq_234 : kp h h_227 (md_L o md) := kpx_233
        show aw G 6 M 64 [.ref o, .int g, .int a, .int (nI (t + 2)), .int 1, .int sy] [] h_227 0 0
        have R_235 : pb_rep s_228 (A ++ X ++ (40 :: (Y ++ [41]))) := by have z := R_230; rw [pb_enc_app] at z; exact z
        refine aw_aload_n C dX9_printBetween_64 rfl rfl (q := 65) rfl ?_
        refine aw_aload_n C dX9_printBetween_65 rfl rfl (q := 66) rfl ?_
        refine gfX9_83_9 (v := .ref (md 42)) C dX9_printBetween_66 K_229.1 rfl (q := 69) rfl ?_
        refine aw_iload_n C dX9_printBetween_69 rfl rfl (q := 70) rfl ?_
        refine aw_iconst (v := 1) C dX9_printBetween_70 (by decide) (q := 71) rfl ?_
        refine aw_isub C dX9_printBetween_71 (q := 72) rfl ?_
        refine ay_iald (N := 320) (f := s_228.2.1 42) (j := t + 1) C dX9_printBetween_72 (K_229.2.1 42 (by decide)) (by rw [nI_s1 (by omega)]; exact vp_in_nI (by omega) (by decide)) (by rw [nI_s1 (by omega)]; exact nI_clamp (by omega)) (q := 73) rfl ?_
        rw [show s_228.2.1 42 (t + 1) = nI (A ++ X).length from by rw [show s_228.2.1 42 = s.2.1 42 from (F_232 : md_eq [41] [40] [] s s_228).2.1 42 (by decide)]; exact hb2]
        refine aw_iload_n C dX9_printBetween_73 rfl rfl (q := 74) rfl ?_
        refine aw_bipush (v := 12) C dX9_printBetween_74 (by decide) (q := 76) rfl ?_
        refine aw_icmp_ne (t := 84) (q := 79) C dX9_printBetween_76 (by decide) rfl (fun c_76 => ?_) (fun c_76 => absurd c_76 (by rw [c_9]; decide))
        refine aw_iload_n C dX9_printBetween_84 rfl rfl (q := 85) rfl ?_
        refine aw_bipush (v := 13) C dX9_printBetween_85 (by decide) (q := 87) rfl ?_
        refine aw_icmp_ne (t := 95) (q := 90) C dX9_printBetween_87 (by decide) rfl (fun c_87 => ?_) (fun c_87 => absurd c_87 (by rw [c_9]; decide))
        refine aw_iload_n C dX9_printBetween_95 rfl rfl (q := 96) rfl ?_
        refine aw_bipush (v := 14) C dX9_printBetween_96 (by decide) (q := 98) rfl ?_
        refine aw_icmp_ne (t := 106) (q := 101) C dX9_printBetween_98 (by decide) rfl (fun c_98 => ?_) (fun c_98 => absurd c_98 (c_3))
        refine aw_iload_n C dX9_printBetween_106 rfl rfl (q := 107) rfl ?_
        refine aw_bipush (v := 15) C dX9_printBetween_107 (by decide) (q := 109) rfl ?_
        refine aw_icmp_ne (t := 117) (q := 112) C dX9_printBetween_109 (by decide) rfl (fun c_109 => absurd c_109 (fun z => z c_9)) (fun c_109 => ?_)
        refine aw_bipush (v := 47) C dX9_printBetween_112 (by decide) (q := 114) rfl ?_
        refine aw_goto (q := 118) C dX9_printBetween_114 (by decide) ?_
        refine cvX9_174_9 (As := [.int (nI (A ++ X).length), .int 47]) (rest := []) C B9 dX9_printBetween_118 K_229.1 (m_insert G M.2.1 o md hm h_227 (d + 1) s_228 K_229 (A ++ X ++ (40 :: (Y ++ [41]))) R_235 (by simp only [List.length_append, List.length_cons, List.length_nil]; omega) (A ++ X).length (by simp only [List.length_append, List.length_cons, List.length_nil]; omega) 47) rfl rfl (Nat.le_of_ble_eq_true rfl) (by omega) (by omega) (by omega) (q := 121) rfl (fun r9 h_236 hr9 => ?_)
        obtain ⟨s_237, er9, K_238, R_239, F_240, kpx_242⟩ := hr9
        subst er9
        have F_241 : md_eq [41] [40] [] s s_237 := md_eq_tr F_232 F_240 (by decide) (by decide) (by decide)
        have kq_243 : kp h h_236 (md_L o md) := kp_in kq_234 kpx_242 (fun _ z => z)
        show aw G 6 M 121 [.ref o, .int g, .int a, .int (nI (t + 2)), .int 1, .int sy] [] h_236 0 0
        have R_244 : pb_rep s_237 (A ++ X ++ 47 :: (40 :: (Y ++ [41]))) := by have z := R_239; rw [pb_ins_app] at z; exact z
        refine aw_iload C dX9_printBetween_121 rfl (q := 123) rfl ?_
        refine aw_if_eq (t := 166) (q := 126) C dX9_printBetween_123 (by decide) rfl (fun c_123 => absurd c_123 (by decide)) (fun c_123 => ?_)
        refine aw_aload_n C dX9_printBetween_126 rfl rfl (q := 127) rfl ?_
        refine gfX9_86_9 (v := .ref (md 43)) C dX9_printBetween_127 K_238.1 rfl (q := 130) rfl ?_
        refine aw_iload_n C dX9_printBetween_130 rfl rfl (q := 131) rfl ?_
        refine aw_iconst (v := 2) C dX9_printBetween_131 (by decide) (q := 132) rfl ?_
        refine aw_isub C dX9_printBetween_132 (q := 133) rfl ?_
        refine ay_iald (N := 320) (f := s_237.2.1 43) (j := t) C dX9_printBetween_133 (K_238.2.1 43 (by decide)) (by rw [nI_s2 (by omega)]; exact vp_in_nI (by omega) (by decide)) (by rw [nI_s2 (by omega)]; exact nI_clamp (by omega)) (q := 134) rfl ?_
        rw [show s_237.2.1 43 (t) = sx from by rw [show s_237.2.1 43 = s.2.1 43 from (F_241 : md_eq [41] [40] [] s s_237).2.1 43 (by decide)]; exact ha3]
        refine aw_iconst (v := 1) C dX9_printBetween_134 (by decide) (q := 135) rfl ?_
        refine aw_icmp_ne (t := 166) (q := 138) C dX9_printBetween_135 (by decide) rfl (fun c_135 => ?_) (fun c_135 => ?_)
        ·
          refine aw_aload_n C dX9_printBetween_166 rfl rfl (q := 167) rfl ?_
          refine gfX9_86_9 (v := .ref (md 43)) C dX9_printBetween_167 K_238.1 rfl (q := 170) rfl ?_
          refine aw_iload_n C dX9_printBetween_170 rfl rfl (q := 171) rfl ?_
          refine aw_iconst (v := 2) C dX9_printBetween_171 (by decide) (q := 172) rfl ?_
          refine aw_isub C dX9_printBetween_172 (q := 173) rfl ?_
          refine aw_iload C dX9_printBetween_173 rfl (q := 175) rfl ?_
          refine aw_if_eq (t := 182) (q := 178) C dX9_printBetween_175 (by decide) rfl (fun c_175 => absurd c_175 (by decide)) (fun c_175 => ?_)
          refine aw_iconst (v := 2) C dX9_printBetween_178 (by decide) (q := 179) rfl ?_
          refine aw_goto (q := 183) C dX9_printBetween_179 (by decide) ?_
          refine ay_iast (N := 320) (f := s_237.2.1 43) (j := t) C dX9_printBetween_183 (K_238.2.1 43 (by decide)) (by rw [nI_s2 (by omega)]; exact vp_in_nI (by omega) (by decide)) (by rw [nI_s2 (by omega)]; exact nI_clamp (by omega)) (q := 184) rfl ?_
          show aw G 6 M 184 [.ref o, .int g, .int a, .int (nI (t + 2)), .int 1, .int sy] [] (ac_up h_236 (md 43) (.inl (1, 320, .inl (upd (s_237.2.1 43) t 2)))) 0 0
          obtain ⟨h_245, eh_245⟩ : ∃ z9, z9 = ac_up h_236 (md 43) (.inl (1, 320, .inl (upd (s_237.2.1 43) t 2))) := ⟨_, rfl⟩
          rw [← eh_245]
          have kpx_248 : kp h_236 h_245 [md 43] := by rw [eh_245]; exact kp_up (kp_cons _ kp_rf) _ _ (by simp)
          have K_246 : md_ok h_245 o md (s_237.1, va_up s_237.2.1 43 (upd (s_237.2.1 43) t 2), s_237.2.2) := md_A (s := (s_237.1, s_237.2.1, s_237.2.2)) hm K_238 (j := 43) (by decide) (by rw [eh_245]; exact ac_up_s _ _ _) kpx_248
          have kq_247 : kp h h_245 (md_L o md) := kp_in kq_243 kpx_248 (md_sj (by decide))
          refine aw_vret C E dX9_printBetween_184 (Nat.le_refl _) (Nat.le_refl _) ?_
          refine ⟨_, rfl, K_246, ?_, ?_, ?_, ?_, kq_247⟩
          · have e : A ++ pr_two g a sx sy X Y = A ++ X ++ 47 :: (40 :: (Y ++ [41])) := by
              unfold pr_two
              rw [show pr_wr ((g = 14 ∨ g = 15) ∧ sx = 1) X = _ from if_neg (fun z => c_135 z.2), show pr_wr (¬ g = 16 ∧ (sy = 1 ∨ (g = 14 ∨ g = 15) ∧ sy = 2)) Y = _ from if_pos ⟨c_32, Or.inl c_38⟩, show pr_op g a = _ from by unfold pr_op; rw [if_neg c_76, if_neg c_87, if_neg c_98, if_pos c_109]]
              simp
            rw [e]; exact R_244
          · exact md_eq_A (s1 := s_237) (md_eq_tr (md_eq_rf : md_eq [41] [40, 42, 43] [] s s) F_241 (by decide) (by decide) (by decide)) _ (by decide)
          · exact F_241.2.1 42 (by decide)
          · show upd (s_237.2.1 43) t 2 = _
            rw [show s_237.2.1 43 = s.2.1 43 from F_241.2.1 43 (by decide), if_pos (Or.inr c_9)]
        ·
          refine aw_aload_n C dX9_printBetween_138 rfl rfl (q := 139) rfl ?_
          refine aw_aload_n C dX9_printBetween_139 rfl rfl (q := 140) rfl ?_
          refine gfX9_83_9 (v := .ref (md 42)) C dX9_printBetween_140 K_238.1 rfl (q := 143) rfl ?_
          refine aw_iload_n C dX9_printBetween_143 rfl rfl (q := 144) rfl ?_
          refine aw_iconst (v := 1) C dX9_printBetween_144 (by decide) (q := 145) rfl ?_
          refine aw_isub C dX9_printBetween_145 (q := 146) rfl ?_
          refine ay_iald (N := 320) (f := s_237.2.1 42) (j := t + 1) C dX9_printBetween_146 (K_238.2.1 42 (by decide)) (by rw [nI_s1 (by omega)]; exact vp_in_nI (by omega) (by decide)) (by rw [nI_s1 (by omega)]; exact nI_clamp (by omega)) (q := 147) rfl ?_
          rw [show s_237.2.1 42 (t + 1) = nI (A ++ X).length from by rw [show s_237.2.1 42 = s.2.1 42 from (F_241 : md_eq [41] [40] [] s s_237).2.1 42 (by decide)]; exact hb2]
          refine aw_bipush (v := 41) C dX9_printBetween_147 (by decide) (q := 149) rfl ?_
          refine cvX9_174_9 (As := [.int (nI (A ++ X).length), .int 41]) (rest := []) C B9 dX9_printBetween_149 K_238.1 (m_insert G M.2.1 o md hm h_236 (d + 1) s_237 K_238 (A ++ X ++ 47 :: (40 :: (Y ++ [41]))) R_244 (by simp only [List.length_append, List.length_cons, List.length_nil]; omega) (A ++ X).length (by simp only [List.length_append, List.length_cons, List.length_nil]; omega) 41) rfl rfl (Nat.le_of_ble_eq_true rfl) (by omega) (by omega) (by omega) (q := 152) rfl (fun r9 h_249 hr9 => ?_)
          obtain ⟨s_250, er9, K_251, R_252, F_253, kpx_255⟩ := hr9
          subst er9
          have F_254 : md_eq [41] [40] [] s s_250 := md_eq_tr F_241 F_253 (by decide) (by decide) (by decide)
          have kq_256 : kp h h_249 (md_L o md) := kp_in kq_243 kpx_255 (fun _ z => z)
          show aw G 6 M 152 [.ref o, .int g, .int a, .int (nI (t + 2)), .int 1, .int sy] [] h_249 0 0
          have R_257 : pb_rep s_250 (A ++ X ++ 41 :: 47 :: (40 :: (Y ++ [41]))) := by have z := R_252; rw [pb_ins_app] at z; exact z
          have R_258 : pb_rep s_250 (A ++ (X ++ 41 :: 47 :: (40 :: (Y ++ [41])))) := by have z := R_257; rw [List.append_assoc] at z; exact z
          refine aw_aload_n C dX9_printBetween_152 rfl rfl (q := 153) rfl ?_
          refine aw_aload_n C dX9_printBetween_153 rfl rfl (q := 154) rfl ?_
          refine gfX9_83_9 (v := .ref (md 42)) C dX9_printBetween_154 K_251.1 rfl (q := 157) rfl ?_
          refine aw_iload_n C dX9_printBetween_157 rfl rfl (q := 158) rfl ?_
          refine aw_iconst (v := 2) C dX9_printBetween_158 (by decide) (q := 159) rfl ?_
          refine aw_isub C dX9_printBetween_159 (q := 160) rfl ?_
          refine ay_iald (N := 320) (f := s_250.2.1 42) (j := t) C dX9_printBetween_160 (K_251.2.1 42 (by decide)) (by rw [nI_s2 (by omega)]; exact vp_in_nI (by omega) (by decide)) (by rw [nI_s2 (by omega)]; exact nI_clamp (by omega)) (q := 161) rfl ?_
          rw [show s_250.2.1 42 (t) = nI A.length from by rw [show s_250.2.1 42 = s.2.1 42 from (F_254 : md_eq [41] [40] [] s s_250).2.1 42 (by decide)]; exact ha2]
          refine aw_bipush (v := 40) C dX9_printBetween_161 (by decide) (q := 163) rfl ?_
          refine cvX9_174_9 (As := [.int (nI A.length), .int 40]) (rest := []) C B9 dX9_printBetween_163 K_251.1 (m_insert G M.2.1 o md hm h_249 (d + 1) s_250 K_251 (A ++ (X ++ 41 :: 47 :: (40 :: (Y ++ [41])))) R_258 (by simp only [List.length_append, List.length_cons, List.length_nil]; omega) A.length (by simp only [List.length_append, List.length_cons, List.length_nil]; omega) 40) rfl rfl (Nat.le_of_ble_eq_true rfl) (by omega) (by omega) (by omega) (q := 166) rfl (fun r9 h_259 hr9 => ?_)
          obtain ⟨s_260, er9, K_261, R_262, F_263, kpx_265⟩ := hr9
          subst er9
          have F_264 : md_eq [41] [40] [] s s_260 := md_eq_tr F_254 F_263 (by decide) (by decide) (by decide)
          have kq_266 : kp h h_259 (md_L o md) := kp_in kq_256 kpx_265 (fun _ z => z)
          show aw G 6 M 166 [.ref o, .int g, .int a, .int (nI (t + 2)), .int 1, .int sy] [] h_259 0 0
          have R_267 : pb_rep s_260 (A ++ 40 :: (X ++ 41 :: 47 :: (40 :: (Y ++ [41])))) := by have z := R_262; rw [pb_ins_app] at z; exact z
          refine aw_aload_n C dX9_printBetween_166 rfl rfl (q := 167) rfl ?_
          refine gfX9_86_9 (v := .ref (md 43)) C dX9_printBetween_167 K_261.1 rfl (q := 170) rfl ?_
          refine aw_iload_n C dX9_printBetween_170 rfl rfl (q := 171) rfl ?_
          refine aw_iconst (v := 2) C dX9_printBetween_171 (by decide) (q := 172) rfl ?_
          refine aw_isub C dX9_printBetween_172 (q := 173) rfl ?_
          refine aw_iload C dX9_printBetween_173 rfl (q := 175) rfl ?_
          refine aw_if_eq (t := 182) (q := 178) C dX9_printBetween_175 (by decide) rfl (fun c_175 => absurd c_175 (by decide)) (fun c_175 => ?_)
          refine aw_iconst (v := 2) C dX9_printBetween_178 (by decide) (q := 179) rfl ?_
          refine aw_goto (q := 183) C dX9_printBetween_179 (by decide) ?_
          refine ay_iast (N := 320) (f := s_260.2.1 43) (j := t) C dX9_printBetween_183 (K_261.2.1 43 (by decide)) (by rw [nI_s2 (by omega)]; exact vp_in_nI (by omega) (by decide)) (by rw [nI_s2 (by omega)]; exact nI_clamp (by omega)) (q := 184) rfl ?_
          show aw G 6 M 184 [.ref o, .int g, .int a, .int (nI (t + 2)), .int 1, .int sy] [] (ac_up h_259 (md 43) (.inl (1, 320, .inl (upd (s_260.2.1 43) t 2)))) 0 0
          obtain ⟨h_268, eh_268⟩ : ∃ z9, z9 = ac_up h_259 (md 43) (.inl (1, 320, .inl (upd (s_260.2.1 43) t 2))) := ⟨_, rfl⟩
          rw [← eh_268]
          have kpx_271 : kp h_259 h_268 [md 43] := by rw [eh_268]; exact kp_up (kp_cons _ kp_rf) _ _ (by simp)
          have K_269 : md_ok h_268 o md (s_260.1, va_up s_260.2.1 43 (upd (s_260.2.1 43) t 2), s_260.2.2) := md_A (s := (s_260.1, s_260.2.1, s_260.2.2)) hm K_261 (j := 43) (by decide) (by rw [eh_268]; exact ac_up_s _ _ _) kpx_271
          have kq_270 : kp h h_268 (md_L o md) := kp_in kq_266 kpx_271 (md_sj (by decide))
          refine aw_vret C E dX9_printBetween_184 (Nat.le_refl _) (Nat.le_refl _) ?_
          refine ⟨_, rfl, K_269, ?_, ?_, ?_, ?_, kq_270⟩
          · have e : A ++ pr_two g a sx sy X Y = A ++ 40 :: (X ++ 41 :: 47 :: (40 :: (Y ++ [41]))) := by
              unfold pr_two
              rw [show pr_wr ((g = 14 ∨ g = 15) ∧ sx = 1) X = _ from if_pos ⟨Or.inr c_9, c_135⟩, show pr_wr (¬ g = 16 ∧ (sy = 1 ∨ (g = 14 ∨ g = 15) ∧ sy = 2)) Y = _ from if_pos ⟨c_32, Or.inl c_38⟩, show pr_op g a = _ from by unfold pr_op; rw [if_neg c_76, if_neg c_87, if_neg c_98, if_pos c_109]]
              simp
            rw [e]; exact R_267
          · exact md_eq_A (s1 := s_260) (md_eq_tr (md_eq_rf : md_eq [41] [40, 42, 43] [] s s) F_264 (by decide) (by decide) (by decide)) _ (by decide)
          · exact F_264.2.1 42 (by decide)
          · show upd (s_260.2.1 43) t 2 = _
            rw [show s_260.2.1 43 = s.2.1 43 from F_264.2.1 43 (by decide), if_pos (Or.inr c_9)]
      ·
        refine aw_iload C dX9_printBetween_41 rfl (q := 43) rfl ?_
        refine aw_if_eq (t := 64) (q := 46) C dX9_printBetween_43 (by decide) rfl (fun c_43 => absurd c_43 (by decide)) (fun c_43 => ?_)
        refine aw_iload C dX9_printBetween_46 rfl (q := 48) rfl ?_
        refine aw_iconst (v := 2) C dX9_printBetween_48 (by decide) (q := 49) rfl ?_
        refine aw_icmp_ne (t := 64) (q := 52) C dX9_printBetween_49 (by decide) rfl (fun c_49 => ?_) (fun c_49 => ?_)
        ·
          refine aw_aload_n C dX9_printBetween_64 rfl rfl (q := 65) rfl ?_
          refine aw_aload_n C dX9_printBetween_65 rfl rfl (q := 66) rfl ?_
          refine gfX9_83_9 (v := .ref (md 42)) C dX9_printBetween_66 K.1 rfl (q := 69) rfl ?_
          refine aw_iload_n C dX9_printBetween_69 rfl rfl (q := 70) rfl ?_
          refine aw_iconst (v := 1) C dX9_printBetween_70 (by decide) (q := 71) rfl ?_
          refine aw_isub C dX9_printBetween_71 (q := 72) rfl ?_
          refine ay_iald (N := 320) (f := s.2.1 42) (j := t + 1) C dX9_printBetween_72 (K.2.1 42 (by decide)) (by rw [nI_s1 (by omega)]; exact vp_in_nI (by omega) (by decide)) (by rw [nI_s1 (by omega)]; exact nI_clamp (by omega)) (q := 73) rfl ?_
          rw [show s.2.1 42 (t + 1) = nI (A ++ X).length from by rw [show s.2.1 42 = s.2.1 42 from (md_eq_rf : md_eq [41] [40] [] s s).2.1 42 (by decide)]; exact hb2]
          refine aw_iload_n C dX9_printBetween_73 rfl rfl (q := 74) rfl ?_
          refine aw_bipush (v := 12) C dX9_printBetween_74 (by decide) (q := 76) rfl ?_
          refine aw_icmp_ne (t := 84) (q := 79) C dX9_printBetween_76 (by decide) rfl (fun c_76 => ?_) (fun c_76 => absurd c_76 (by rw [c_9]; decide))
          refine aw_iload_n C dX9_printBetween_84 rfl rfl (q := 85) rfl ?_
          refine aw_bipush (v := 13) C dX9_printBetween_85 (by decide) (q := 87) rfl ?_
          refine aw_icmp_ne (t := 95) (q := 90) C dX9_printBetween_87 (by decide) rfl (fun c_87 => ?_) (fun c_87 => absurd c_87 (by rw [c_9]; decide))
          refine aw_iload_n C dX9_printBetween_95 rfl rfl (q := 96) rfl ?_
          refine aw_bipush (v := 14) C dX9_printBetween_96 (by decide) (q := 98) rfl ?_
          refine aw_icmp_ne (t := 106) (q := 101) C dX9_printBetween_98 (by decide) rfl (fun c_98 => ?_) (fun c_98 => absurd c_98 (c_3))
          refine aw_iload_n C dX9_printBetween_106 rfl rfl (q := 107) rfl ?_
          refine aw_bipush (v := 15) C dX9_printBetween_107 (by decide) (q := 109) rfl ?_
          refine aw_icmp_ne (t := 117) (q := 112) C dX9_printBetween_109 (by decide) rfl (fun c_109 => absurd c_109 (fun z => z c_9)) (fun c_109 => ?_)
          refine aw_bipush (v := 47) C dX9_printBetween_112 (by decide) (q := 114) rfl ?_
          refine aw_goto (q := 118) C dX9_printBetween_114 (by decide) ?_
          refine cvX9_174_9 (As := [.int (nI (A ++ X).length), .int 47]) (rest := []) C B9 dX9_printBetween_118 K.1 (m_insert G M.2.1 o md hm h (d + 1) s K (A ++ X ++ Y) R (by simp only [List.length_append, List.length_cons, List.length_nil]; omega) (A ++ X).length (by simp only [List.length_append, List.length_cons, List.length_nil]; omega) 47) rfl rfl (Nat.le_of_ble_eq_true rfl) (by omega) (by omega) (by omega) (q := 121) rfl (fun r9 h_272 hr9 => ?_)
          obtain ⟨s_273, er9, K_274, R_275, F_276, kpx_278⟩ := hr9
          subst er9
          have F_277 : md_eq [41] [40] [] s s_273 := md_eq_tr md_eq_rf F_276 (by decide) (by decide) (by decide)
          have kq_279 : kp h h_272 (md_L o md) := kpx_278
          show aw G 6 M 121 [.ref o, .int g, .int a, .int (nI (t + 2)), .int 1, .int sy] [] h_272 0 0
          have R_280 : pb_rep s_273 (A ++ X ++ 47 :: Y) := by have z := R_275; rw [pb_ins_app] at z; exact z
          refine aw_iload C dX9_printBetween_121 rfl (q := 123) rfl ?_
          refine aw_if_eq (t := 166) (q := 126) C dX9_printBetween_123 (by decide) rfl (fun c_123 => absurd c_123 (by decide)) (fun c_123 => ?_)
          refine aw_aload_n C dX9_printBetween_126 rfl rfl (q := 127) rfl ?_
          refine gfX9_86_9 (v := .ref (md 43)) C dX9_printBetween_127 K_274.1 rfl (q := 130) rfl ?_
          refine aw_iload_n C dX9_printBetween_130 rfl rfl (q := 131) rfl ?_
          refine aw_iconst (v := 2) C dX9_printBetween_131 (by decide) (q := 132) rfl ?_
          refine aw_isub C dX9_printBetween_132 (q := 133) rfl ?_
          refine ay_iald (N := 320) (f := s_273.2.1 43) (j := t) C dX9_printBetween_133 (K_274.2.1 43 (by decide)) (by rw [nI_s2 (by omega)]; exact vp_in_nI (by omega) (by decide)) (by rw [nI_s2 (by omega)]; exact nI_clamp (by omega)) (q := 134) rfl ?_
          rw [show s_273.2.1 43 (t) = sx from by rw [show s_273.2.1 43 = s.2.1 43 from (F_277 : md_eq [41] [40] [] s s_273).2.1 43 (by decide)]; exact ha3]
          refine aw_iconst (v := 1) C dX9_printBetween_134 (by decide) (q := 135) rfl ?_
          refine aw_icmp_ne (t := 166) (q := 138) C dX9_printBetween_135 (by decide) rfl (fun c_135 => ?_) (fun c_135 => ?_)
          ·
            refine aw_aload_n C dX9_printBetween_166 rfl rfl (q := 167) rfl ?_
            refine gfX9_86_9 (v := .ref (md 43)) C dX9_printBetween_167 K_274.1 rfl (q := 170) rfl ?_
            refine aw_iload_n C dX9_printBetween_170 rfl rfl (q := 171) rfl ?_
            refine aw_iconst (v := 2) C dX9_printBetween_171 (by decide) (q := 172) rfl ?_
            refine aw_isub C dX9_printBetween_172 (q := 173) rfl ?_
            refine aw_iload C dX9_printBetween_173 rfl (q := 175) rfl ?_
            refine aw_if_eq (t := 182) (q := 178) C dX9_printBetween_175 (by decide) rfl (fun c_175 => absurd c_175 (by decide)) (fun c_175 => ?_)
            refine aw_iconst (v := 2) C dX9_printBetween_178 (by decide) (q := 179) rfl ?_
            refine aw_goto (q := 183) C dX9_printBetween_179 (by decide) ?_
            refine ay_iast (N := 320) (f := s_273.2.1 43) (j := t) C dX9_printBetween_183 (K_274.2.1 43 (by decide)) (by rw [nI_s2 (by omega)]; exact vp_in_nI (by omega) (by decide)) (by rw [nI_s2 (by omega)]; exact nI_clamp (by omega)) (q := 184) rfl ?_
            show aw G 6 M 184 [.ref o, .int g, .int a, .int (nI (t + 2)), .int 1, .int sy] [] (ac_up h_272 (md 43) (.inl (1, 320, .inl (upd (s_273.2.1 43) t 2)))) 0 0
            obtain ⟨h_281, eh_281⟩ : ∃ z9, z9 = ac_up h_272 (md 43) (.inl (1, 320, .inl (upd (s_273.2.1 43) t 2))) := ⟨_, rfl⟩
            rw [← eh_281]
            have kpx_284 : kp h_272 h_281 [md 43] := by rw [eh_281]; exact kp_up (kp_cons _ kp_rf) _ _ (by simp)
            have K_282 : md_ok h_281 o md (s_273.1, va_up s_273.2.1 43 (upd (s_273.2.1 43) t 2), s_273.2.2) := md_A (s := (s_273.1, s_273.2.1, s_273.2.2)) hm K_274 (j := 43) (by decide) (by rw [eh_281]; exact ac_up_s _ _ _) kpx_284
            have kq_283 : kp h h_281 (md_L o md) := kp_in kq_279 kpx_284 (md_sj (by decide))
            refine aw_vret C E dX9_printBetween_184 (Nat.le_refl _) (Nat.le_refl _) ?_
            refine ⟨_, rfl, K_282, ?_, ?_, ?_, ?_, kq_283⟩
            · have e : A ++ pr_two g a sx sy X Y = A ++ X ++ 47 :: Y := by
                unfold pr_two
                rw [show pr_wr ((g = 14 ∨ g = 15) ∧ sx = 1) X = _ from if_neg (fun z => c_135 z.2), show pr_wr (¬ g = 16 ∧ (sy = 1 ∨ (g = 14 ∨ g = 15) ∧ sy = 2)) Y = _ from if_neg (fun z => z.2.elim c_38 (fun y => c_49 y.2)), show pr_op g a = _ from by unfold pr_op; rw [if_neg c_76, if_neg c_87, if_neg c_98, if_pos c_109]]
                simp
              rw [e]; exact R_280
            · exact md_eq_A (s1 := s_273) (md_eq_tr (md_eq_rf : md_eq [41] [40, 42, 43] [] s s) F_277 (by decide) (by decide) (by decide)) _ (by decide)
            · exact F_277.2.1 42 (by decide)
            · show upd (s_273.2.1 43) t 2 = _
              rw [show s_273.2.1 43 = s.2.1 43 from F_277.2.1 43 (by decide), if_pos (Or.inr c_9)]
          ·
            refine aw_aload_n C dX9_printBetween_138 rfl rfl (q := 139) rfl ?_
            refine aw_aload_n C dX9_printBetween_139 rfl rfl (q := 140) rfl ?_
            refine gfX9_83_9 (v := .ref (md 42)) C dX9_printBetween_140 K_274.1 rfl (q := 143) rfl ?_
            refine aw_iload_n C dX9_printBetween_143 rfl rfl (q := 144) rfl ?_
            refine aw_iconst (v := 1) C dX9_printBetween_144 (by decide) (q := 145) rfl ?_
            refine aw_isub C dX9_printBetween_145 (q := 146) rfl ?_
            refine ay_iald (N := 320) (f := s_273.2.1 42) (j := t + 1) C dX9_printBetween_146 (K_274.2.1 42 (by decide)) (by rw [nI_s1 (by omega)]; exact vp_in_nI (by omega) (by decide)) (by rw [nI_s1 (by omega)]; exact nI_clamp (by omega)) (q := 147) rfl ?_
            rw [show s_273.2.1 42 (t + 1) = nI (A ++ X).length from by rw [show s_273.2.1 42 = s.2.1 42 from (F_277 : md_eq [41] [40] [] s s_273).2.1 42 (by decide)]; exact hb2]
            refine aw_bipush (v := 41) C dX9_printBetween_147 (by decide) (q := 149) rfl ?_
            refine cvX9_174_9 (As := [.int (nI (A ++ X).length), .int 41]) (rest := []) C B9 dX9_printBetween_149 K_274.1 (m_insert G M.2.1 o md hm h_272 (d + 1) s_273 K_274 (A ++ X ++ 47 :: Y) R_280 (by simp only [List.length_append, List.length_cons, List.length_nil]; omega) (A ++ X).length (by simp only [List.length_append, List.length_cons, List.length_nil]; omega) 41) rfl rfl (Nat.le_of_ble_eq_true rfl) (by omega) (by omega) (by omega) (q := 152) rfl (fun r9 h_285 hr9 => ?_)
            obtain ⟨s_286, er9, K_287, R_288, F_289, kpx_291⟩ := hr9
            subst er9
            have F_290 : md_eq [41] [40] [] s s_286 := md_eq_tr F_277 F_289 (by decide) (by decide) (by decide)
            have kq_292 : kp h h_285 (md_L o md) := kp_in kq_279 kpx_291 (fun _ z => z)
            show aw G 6 M 152 [.ref o, .int g, .int a, .int (nI (t + 2)), .int 1, .int sy] [] h_285 0 0
            have R_293 : pb_rep s_286 (A ++ X ++ 41 :: 47 :: Y) := by have z := R_288; rw [pb_ins_app] at z; exact z
            have R_294 : pb_rep s_286 (A ++ (X ++ 41 :: 47 :: Y)) := by have z := R_293; rw [List.append_assoc] at z; exact z
            refine aw_aload_n C dX9_printBetween_152 rfl rfl (q := 153) rfl ?_
            refine aw_aload_n C dX9_printBetween_153 rfl rfl (q := 154) rfl ?_
            refine gfX9_83_9 (v := .ref (md 42)) C dX9_printBetween_154 K_287.1 rfl (q := 157) rfl ?_
            refine aw_iload_n C dX9_printBetween_157 rfl rfl (q := 158) rfl ?_
            refine aw_iconst (v := 2) C dX9_printBetween_158 (by decide) (q := 159) rfl ?_
            refine aw_isub C dX9_printBetween_159 (q := 160) rfl ?_
            refine ay_iald (N := 320) (f := s_286.2.1 42) (j := t) C dX9_printBetween_160 (K_287.2.1 42 (by decide)) (by rw [nI_s2 (by omega)]; exact vp_in_nI (by omega) (by decide)) (by rw [nI_s2 (by omega)]; exact nI_clamp (by omega)) (q := 161) rfl ?_
            rw [show s_286.2.1 42 (t) = nI A.length from by rw [show s_286.2.1 42 = s.2.1 42 from (F_290 : md_eq [41] [40] [] s s_286).2.1 42 (by decide)]; exact ha2]
            refine aw_bipush (v := 40) C dX9_printBetween_161 (by decide) (q := 163) rfl ?_
            refine cvX9_174_9 (As := [.int (nI A.length), .int 40]) (rest := []) C B9 dX9_printBetween_163 K_287.1 (m_insert G M.2.1 o md hm h_285 (d + 1) s_286 K_287 (A ++ (X ++ 41 :: 47 :: Y)) R_294 (by simp only [List.length_append, List.length_cons, List.length_nil]; omega) A.length (by simp only [List.length_append, List.length_cons, List.length_nil]; omega) 40) rfl rfl (Nat.le_of_ble_eq_true rfl) (by omega) (by omega) (by omega) (q := 166) rfl (fun r9 h_295 hr9 => ?_)
            obtain ⟨s_296, er9, K_297, R_298, F_299, kpx_301⟩ := hr9
            subst er9
            have F_300 : md_eq [41] [40] [] s s_296 := md_eq_tr F_290 F_299 (by decide) (by decide) (by decide)
            have kq_302 : kp h h_295 (md_L o md) := kp_in kq_292 kpx_301 (fun _ z => z)
            show aw G 6 M 166 [.ref o, .int g, .int a, .int (nI (t + 2)), .int 1, .int sy] [] h_295 0 0
            have R_303 : pb_rep s_296 (A ++ 40 :: (X ++ 41 :: 47 :: Y)) := by have z := R_298; rw [pb_ins_app] at z; exact z
            refine aw_aload_n C dX9_printBetween_166 rfl rfl (q := 167) rfl ?_
            refine gfX9_86_9 (v := .ref (md 43)) C dX9_printBetween_167 K_297.1 rfl (q := 170) rfl ?_
            refine aw_iload_n C dX9_printBetween_170 rfl rfl (q := 171) rfl ?_
            refine aw_iconst (v := 2) C dX9_printBetween_171 (by decide) (q := 172) rfl ?_
            refine aw_isub C dX9_printBetween_172 (q := 173) rfl ?_
            refine aw_iload C dX9_printBetween_173 rfl (q := 175) rfl ?_
            refine aw_if_eq (t := 182) (q := 178) C dX9_printBetween_175 (by decide) rfl (fun c_175 => absurd c_175 (by decide)) (fun c_175 => ?_)
            refine aw_iconst (v := 2) C dX9_printBetween_178 (by decide) (q := 179) rfl ?_
            refine aw_goto (q := 183) C dX9_printBetween_179 (by decide) ?_
            refine ay_iast (N := 320) (f := s_296.2.1 43) (j := t) C dX9_printBetween_183 (K_297.2.1 43 (by decide)) (by rw [nI_s2 (by omega)]; exact vp_in_nI (by omega) (by decide)) (by rw [nI_s2 (by omega)]; exact nI_clamp (by omega)) (q := 184) rfl ?_
            show aw G 6 M 184 [.ref o, .int g, .int a, .int (nI (t + 2)), .int 1, .int sy] [] (ac_up h_295 (md 43) (.inl (1, 320, .inl (upd (s_296.2.1 43) t 2)))) 0 0
            obtain ⟨h_304, eh_304⟩ : ∃ z9, z9 = ac_up h_295 (md 43) (.inl (1, 320, .inl (upd (s_296.2.1 43) t 2))) := ⟨_, rfl⟩
            rw [← eh_304]
            have kpx_307 : kp h_295 h_304 [md 43] := by rw [eh_304]; exact kp_up (kp_cons _ kp_rf) _ _ (by simp)
            have K_305 : md_ok h_304 o md (s_296.1, va_up s_296.2.1 43 (upd (s_296.2.1 43) t 2), s_296.2.2) := md_A (s := (s_296.1, s_296.2.1, s_296.2.2)) hm K_297 (j := 43) (by decide) (by rw [eh_304]; exact ac_up_s _ _ _) kpx_307
            have kq_306 : kp h h_304 (md_L o md) := kp_in kq_302 kpx_307 (md_sj (by decide))
            refine aw_vret C E dX9_printBetween_184 (Nat.le_refl _) (Nat.le_refl _) ?_
            refine ⟨_, rfl, K_305, ?_, ?_, ?_, ?_, kq_306⟩
            · have e : A ++ pr_two g a sx sy X Y = A ++ 40 :: (X ++ 41 :: 47 :: Y) := by
                unfold pr_two
                rw [show pr_wr ((g = 14 ∨ g = 15) ∧ sx = 1) X = _ from if_pos ⟨Or.inr c_9, c_135⟩, show pr_wr (¬ g = 16 ∧ (sy = 1 ∨ (g = 14 ∨ g = 15) ∧ sy = 2)) Y = _ from if_neg (fun z => z.2.elim c_38 (fun y => c_49 y.2)), show pr_op g a = _ from by unfold pr_op; rw [if_neg c_76, if_neg c_87, if_neg c_98, if_pos c_109]]
                simp
              rw [e]; exact R_303
            · exact md_eq_A (s1 := s_296) (md_eq_tr (md_eq_rf : md_eq [41] [40, 42, 43] [] s s) F_300 (by decide) (by decide) (by decide)) _ (by decide)
            · exact F_300.2.1 42 (by decide)
            · show upd (s_296.2.1 43) t 2 = _
              rw [show s_296.2.1 43 = s.2.1 43 from F_300.2.1 43 (by decide), if_pos (Or.inr c_9)]
        ·
          refine aw_aload_n C dX9_printBetween_52 rfl rfl (q := 53) rfl ?_
          refine aw_aload_n C dX9_printBetween_53 rfl rfl (q := 54) rfl ?_
          refine gfX9_83_9 (v := .ref (md 42)) C dX9_printBetween_54 K.1 rfl (q := 57) rfl ?_
          refine aw_iload_n C dX9_printBetween_57 rfl rfl (q := 58) rfl ?_
          refine aw_iconst (v := 1) C dX9_printBetween_58 (by decide) (q := 59) rfl ?_
          refine aw_isub C dX9_printBetween_59 (q := 60) rfl ?_
          refine ay_iald (N := 320) (f := s.2.1 42) (j := t + 1) C dX9_printBetween_60 (K.2.1 42 (by decide)) (by rw [nI_s1 (by omega)]; exact vp_in_nI (by omega) (by decide)) (by rw [nI_s1 (by omega)]; exact nI_clamp (by omega)) (q := 61) rfl ?_
          rw [show s.2.1 42 (t + 1) = nI (A ++ X).length from by rw [show s.2.1 42 = s.2.1 42 from (md_eq_rf : md_eq [41] [40] [] s s).2.1 42 (by decide)]; exact hb2]
          refine cvX9_183_9 (As := [.int (nI (A ++ X).length)]) (rest := []) C B9 dX9_printBetween_61 K.1 (m_enclose G M.2.1 o md hm h d s K (A ++ X ++ Y) R (by simp only [List.length_append, List.length_cons, List.length_nil]; omega) (A ++ X).length (by simp only [List.length_append, List.length_cons, List.length_nil]; omega)) rfl rfl (Nat.le_of_ble_eq_true rfl) (by omega) (by omega) (by omega) (q := 64) rfl (fun r9 h_308 hr9 => ?_)
          obtain ⟨s_309, er9, K_310, R_311, F_312, kpx_314⟩ := hr9
          subst er9
          have F_313 : md_eq [41] [40] [] s s_309 := md_eq_tr md_eq_rf F_312 (by decide) (by decide) (by decide)
          have kq_315 : kp h h_308 (md_L o md) := kpx_314
          show aw G 6 M 64 [.ref o, .int g, .int a, .int (nI (t + 2)), .int 1, .int sy] [] h_308 0 0
          have R_316 : pb_rep s_309 (A ++ X ++ (40 :: (Y ++ [41]))) := by have z := R_311; rw [pb_enc_app] at z; exact z
          refine aw_aload_n C dX9_printBetween_64 rfl rfl (q := 65) rfl ?_
          refine aw_aload_n C dX9_printBetween_65 rfl rfl (q := 66) rfl ?_
          refine gfX9_83_9 (v := .ref (md 42)) C dX9_printBetween_66 K_310.1 rfl (q := 69) rfl ?_
          refine aw_iload_n C dX9_printBetween_69 rfl rfl (q := 70) rfl ?_
          refine aw_iconst (v := 1) C dX9_printBetween_70 (by decide) (q := 71) rfl ?_
          refine aw_isub C dX9_printBetween_71 (q := 72) rfl ?_
          refine ay_iald (N := 320) (f := s_309.2.1 42) (j := t + 1) C dX9_printBetween_72 (K_310.2.1 42 (by decide)) (by rw [nI_s1 (by omega)]; exact vp_in_nI (by omega) (by decide)) (by rw [nI_s1 (by omega)]; exact nI_clamp (by omega)) (q := 73) rfl ?_
          rw [show s_309.2.1 42 (t + 1) = nI (A ++ X).length from by rw [show s_309.2.1 42 = s.2.1 42 from (F_313 : md_eq [41] [40] [] s s_309).2.1 42 (by decide)]; exact hb2]
          refine aw_iload_n C dX9_printBetween_73 rfl rfl (q := 74) rfl ?_
          refine aw_bipush (v := 12) C dX9_printBetween_74 (by decide) (q := 76) rfl ?_
          refine aw_icmp_ne (t := 84) (q := 79) C dX9_printBetween_76 (by decide) rfl (fun c_76 => ?_) (fun c_76 => absurd c_76 (by rw [c_9]; decide))
          refine aw_iload_n C dX9_printBetween_84 rfl rfl (q := 85) rfl ?_
          refine aw_bipush (v := 13) C dX9_printBetween_85 (by decide) (q := 87) rfl ?_
          refine aw_icmp_ne (t := 95) (q := 90) C dX9_printBetween_87 (by decide) rfl (fun c_87 => ?_) (fun c_87 => absurd c_87 (by rw [c_9]; decide))
          refine aw_iload_n C dX9_printBetween_95 rfl rfl (q := 96) rfl ?_
          refine aw_bipush (v := 14) C dX9_printBetween_96 (by decide) (q := 98) rfl ?_
          refine aw_icmp_ne (t := 106) (q := 101) C dX9_printBetween_98 (by decide) rfl (fun c_98 => ?_) (fun c_98 => absurd c_98 (c_3))
          refine aw_iload_n C dX9_printBetween_106 rfl rfl (q := 107) rfl ?_
          refine aw_bipush (v := 15) C dX9_printBetween_107 (by decide) (q := 109) rfl ?_
          refine aw_icmp_ne (t := 117) (q := 112) C dX9_printBetween_109 (by decide) rfl (fun c_109 => absurd c_109 (fun z => z c_9)) (fun c_109 => ?_)
          refine aw_bipush (v := 47) C dX9_printBetween_112 (by decide) (q := 114) rfl ?_
          refine aw_goto (q := 118) C dX9_printBetween_114 (by decide) ?_
          refine cvX9_174_9 (As := [.int (nI (A ++ X).length), .int 47]) (rest := []) C B9 dX9_printBetween_118 K_310.1 (m_insert G M.2.1 o md hm h_308 (d + 1) s_309 K_310 (A ++ X ++ (40 :: (Y ++ [41]))) R_316 (by simp only [List.length_append, List.length_cons, List.length_nil]; omega) (A ++ X).length (by simp only [List.length_append, List.length_cons, List.length_nil]; omega) 47) rfl rfl (Nat.le_of_ble_eq_true rfl) (by omega) (by omega) (by omega) (q := 121) rfl (fun r9 h_317 hr9 => ?_)
          obtain ⟨s_318, er9, K_319, R_320, F_321, kpx_323⟩ := hr9
          subst er9
          have F_322 : md_eq [41] [40] [] s s_318 := md_eq_tr F_313 F_321 (by decide) (by decide) (by decide)
          have kq_324 : kp h h_317 (md_L o md) := kp_in kq_315 kpx_323 (fun _ z => z)
          show aw G 6 M 121 [.ref o, .int g, .int a, .int (nI (t + 2)), .int 1, .int sy] [] h_317 0 0
          have R_325 : pb_rep s_318 (A ++ X ++ 47 :: (40 :: (Y ++ [41]))) := by have z := R_320; rw [pb_ins_app] at z; exact z
          refine aw_iload C dX9_printBetween_121 rfl (q := 123) rfl ?_
          refine aw_if_eq (t := 166) (q := 126) C dX9_printBetween_123 (by decide) rfl (fun c_123 => absurd c_123 (by decide)) (fun c_123 => ?_)
          refine aw_aload_n C dX9_printBetween_126 rfl rfl (q := 127) rfl ?_
          refine gfX9_86_9 (v := .ref (md 43)) C dX9_printBetween_127 K_319.1 rfl (q := 130) rfl ?_
          refine aw_iload_n C dX9_printBetween_130 rfl rfl (q := 131) rfl ?_
          refine aw_iconst (v := 2) C dX9_printBetween_131 (by decide) (q := 132) rfl ?_
          refine aw_isub C dX9_printBetween_132 (q := 133) rfl ?_
          refine ay_iald (N := 320) (f := s_318.2.1 43) (j := t) C dX9_printBetween_133 (K_319.2.1 43 (by decide)) (by rw [nI_s2 (by omega)]; exact vp_in_nI (by omega) (by decide)) (by rw [nI_s2 (by omega)]; exact nI_clamp (by omega)) (q := 134) rfl ?_
          rw [show s_318.2.1 43 (t) = sx from by rw [show s_318.2.1 43 = s.2.1 43 from (F_322 : md_eq [41] [40] [] s s_318).2.1 43 (by decide)]; exact ha3]
          refine aw_iconst (v := 1) C dX9_printBetween_134 (by decide) (q := 135) rfl ?_
          refine aw_icmp_ne (t := 166) (q := 138) C dX9_printBetween_135 (by decide) rfl (fun c_135 => ?_) (fun c_135 => ?_)
          ·
            refine aw_aload_n C dX9_printBetween_166 rfl rfl (q := 167) rfl ?_
            refine gfX9_86_9 (v := .ref (md 43)) C dX9_printBetween_167 K_319.1 rfl (q := 170) rfl ?_
            refine aw_iload_n C dX9_printBetween_170 rfl rfl (q := 171) rfl ?_
            refine aw_iconst (v := 2) C dX9_printBetween_171 (by decide) (q := 172) rfl ?_
            refine aw_isub C dX9_printBetween_172 (q := 173) rfl ?_
            refine aw_iload C dX9_printBetween_173 rfl (q := 175) rfl ?_
            refine aw_if_eq (t := 182) (q := 178) C dX9_printBetween_175 (by decide) rfl (fun c_175 => absurd c_175 (by decide)) (fun c_175 => ?_)
            refine aw_iconst (v := 2) C dX9_printBetween_178 (by decide) (q := 179) rfl ?_
            refine aw_goto (q := 183) C dX9_printBetween_179 (by decide) ?_
            refine ay_iast (N := 320) (f := s_318.2.1 43) (j := t) C dX9_printBetween_183 (K_319.2.1 43 (by decide)) (by rw [nI_s2 (by omega)]; exact vp_in_nI (by omega) (by decide)) (by rw [nI_s2 (by omega)]; exact nI_clamp (by omega)) (q := 184) rfl ?_
            show aw G 6 M 184 [.ref o, .int g, .int a, .int (nI (t + 2)), .int 1, .int sy] [] (ac_up h_317 (md 43) (.inl (1, 320, .inl (upd (s_318.2.1 43) t 2)))) 0 0
            obtain ⟨h_326, eh_326⟩ : ∃ z9, z9 = ac_up h_317 (md 43) (.inl (1, 320, .inl (upd (s_318.2.1 43) t 2))) := ⟨_, rfl⟩
            rw [← eh_326]
            have kpx_329 : kp h_317 h_326 [md 43] := by rw [eh_326]; exact kp_up (kp_cons _ kp_rf) _ _ (by simp)
            have K_327 : md_ok h_326 o md (s_318.1, va_up s_318.2.1 43 (upd (s_318.2.1 43) t 2), s_318.2.2) := md_A (s := (s_318.1, s_318.2.1, s_318.2.2)) hm K_319 (j := 43) (by decide) (by rw [eh_326]; exact ac_up_s _ _ _) kpx_329
            have kq_328 : kp h h_326 (md_L o md) := kp_in kq_324 kpx_329 (md_sj (by decide))
            refine aw_vret C E dX9_printBetween_184 (Nat.le_refl _) (Nat.le_refl _) ?_
            refine ⟨_, rfl, K_327, ?_, ?_, ?_, ?_, kq_328⟩
            · have e : A ++ pr_two g a sx sy X Y = A ++ X ++ 47 :: (40 :: (Y ++ [41])) := by
                unfold pr_two
                rw [show pr_wr ((g = 14 ∨ g = 15) ∧ sx = 1) X = _ from if_neg (fun z => c_135 z.2), show pr_wr (¬ g = 16 ∧ (sy = 1 ∨ (g = 14 ∨ g = 15) ∧ sy = 2)) Y = _ from if_pos ⟨c_32, Or.inr ⟨Or.inr c_9, c_49⟩⟩, show pr_op g a = _ from by unfold pr_op; rw [if_neg c_76, if_neg c_87, if_neg c_98, if_pos c_109]]
                simp
              rw [e]; exact R_325
            · exact md_eq_A (s1 := s_318) (md_eq_tr (md_eq_rf : md_eq [41] [40, 42, 43] [] s s) F_322 (by decide) (by decide) (by decide)) _ (by decide)
            · exact F_322.2.1 42 (by decide)
            · show upd (s_318.2.1 43) t 2 = _
              rw [show s_318.2.1 43 = s.2.1 43 from F_322.2.1 43 (by decide), if_pos (Or.inr c_9)]
          ·
            refine aw_aload_n C dX9_printBetween_138 rfl rfl (q := 139) rfl ?_
            refine aw_aload_n C dX9_printBetween_139 rfl rfl (q := 140) rfl ?_
            refine gfX9_83_9 (v := .ref (md 42)) C dX9_printBetween_140 K_319.1 rfl (q := 143) rfl ?_
            refine aw_iload_n C dX9_printBetween_143 rfl rfl (q := 144) rfl ?_
            refine aw_iconst (v := 1) C dX9_printBetween_144 (by decide) (q := 145) rfl ?_
            refine aw_isub C dX9_printBetween_145 (q := 146) rfl ?_
            refine ay_iald (N := 320) (f := s_318.2.1 42) (j := t + 1) C dX9_printBetween_146 (K_319.2.1 42 (by decide)) (by rw [nI_s1 (by omega)]; exact vp_in_nI (by omega) (by decide)) (by rw [nI_s1 (by omega)]; exact nI_clamp (by omega)) (q := 147) rfl ?_
            rw [show s_318.2.1 42 (t + 1) = nI (A ++ X).length from by rw [show s_318.2.1 42 = s.2.1 42 from (F_322 : md_eq [41] [40] [] s s_318).2.1 42 (by decide)]; exact hb2]
            refine aw_bipush (v := 41) C dX9_printBetween_147 (by decide) (q := 149) rfl ?_
            refine cvX9_174_9 (As := [.int (nI (A ++ X).length), .int 41]) (rest := []) C B9 dX9_printBetween_149 K_319.1 (m_insert G M.2.1 o md hm h_317 (d + 1) s_318 K_319 (A ++ X ++ 47 :: (40 :: (Y ++ [41]))) R_325 (by simp only [List.length_append, List.length_cons, List.length_nil]; omega) (A ++ X).length (by simp only [List.length_append, List.length_cons, List.length_nil]; omega) 41) rfl rfl (Nat.le_of_ble_eq_true rfl) (by omega) (by omega) (by omega) (q := 152) rfl (fun r9 h_330 hr9 => ?_)
            obtain ⟨s_331, er9, K_332, R_333, F_334, kpx_336⟩ := hr9
            subst er9
            have F_335 : md_eq [41] [40] [] s s_331 := md_eq_tr F_322 F_334 (by decide) (by decide) (by decide)
            have kq_337 : kp h h_330 (md_L o md) := kp_in kq_324 kpx_336 (fun _ z => z)
            show aw G 6 M 152 [.ref o, .int g, .int a, .int (nI (t + 2)), .int 1, .int sy] [] h_330 0 0
            have R_338 : pb_rep s_331 (A ++ X ++ 41 :: 47 :: (40 :: (Y ++ [41]))) := by have z := R_333; rw [pb_ins_app] at z; exact z
            have R_339 : pb_rep s_331 (A ++ (X ++ 41 :: 47 :: (40 :: (Y ++ [41])))) := by have z := R_338; rw [List.append_assoc] at z; exact z
            refine aw_aload_n C dX9_printBetween_152 rfl rfl (q := 153) rfl ?_
            refine aw_aload_n C dX9_printBetween_153 rfl rfl (q := 154) rfl ?_
            refine gfX9_83_9 (v := .ref (md 42)) C dX9_printBetween_154 K_332.1 rfl (q := 157) rfl ?_
            refine aw_iload_n C dX9_printBetween_157 rfl rfl (q := 158) rfl ?_
            refine aw_iconst (v := 2) C dX9_printBetween_158 (by decide) (q := 159) rfl ?_
            refine aw_isub C dX9_printBetween_159 (q := 160) rfl ?_
            refine ay_iald (N := 320) (f := s_331.2.1 42) (j := t) C dX9_printBetween_160 (K_332.2.1 42 (by decide)) (by rw [nI_s2 (by omega)]; exact vp_in_nI (by omega) (by decide)) (by rw [nI_s2 (by omega)]; exact nI_clamp (by omega)) (q := 161) rfl ?_
            rw [show s_331.2.1 42 (t) = nI A.length from by rw [show s_331.2.1 42 = s.2.1 42 from (F_335 : md_eq [41] [40] [] s s_331).2.1 42 (by decide)]; exact ha2]
            refine aw_bipush (v := 40) C dX9_printBetween_161 (by decide) (q := 163) rfl ?_
            refine cvX9_174_9 (As := [.int (nI A.length), .int 40]) (rest := []) C B9 dX9_printBetween_163 K_332.1 (m_insert G M.2.1 o md hm h_330 (d + 1) s_331 K_332 (A ++ (X ++ 41 :: 47 :: (40 :: (Y ++ [41])))) R_339 (by simp only [List.length_append, List.length_cons, List.length_nil]; omega) A.length (by simp only [List.length_append, List.length_cons, List.length_nil]; omega) 40) rfl rfl (Nat.le_of_ble_eq_true rfl) (by omega) (by omega) (by omega) (q := 166) rfl (fun r9 h_340 hr9 => ?_)
            obtain ⟨s_341, er9, K_342, R_343, F_344, kpx_346⟩ := hr9
            subst er9
            have F_345 : md_eq [41] [40] [] s s_341 := md_eq_tr F_335 F_344 (by decide) (by decide) (by decide)
            have kq_347 : kp h h_340 (md_L o md) := kp_in kq_337 kpx_346 (fun _ z => z)
            show aw G 6 M 166 [.ref o, .int g, .int a, .int (nI (t + 2)), .int 1, .int sy] [] h_340 0 0
            have R_348 : pb_rep s_341 (A ++ 40 :: (X ++ 41 :: 47 :: (40 :: (Y ++ [41])))) := by have z := R_343; rw [pb_ins_app] at z; exact z
            refine aw_aload_n C dX9_printBetween_166 rfl rfl (q := 167) rfl ?_
            refine gfX9_86_9 (v := .ref (md 43)) C dX9_printBetween_167 K_342.1 rfl (q := 170) rfl ?_
            refine aw_iload_n C dX9_printBetween_170 rfl rfl (q := 171) rfl ?_
            refine aw_iconst (v := 2) C dX9_printBetween_171 (by decide) (q := 172) rfl ?_
            refine aw_isub C dX9_printBetween_172 (q := 173) rfl ?_
            refine aw_iload C dX9_printBetween_173 rfl (q := 175) rfl ?_
            refine aw_if_eq (t := 182) (q := 178) C dX9_printBetween_175 (by decide) rfl (fun c_175 => absurd c_175 (by decide)) (fun c_175 => ?_)
            refine aw_iconst (v := 2) C dX9_printBetween_178 (by decide) (q := 179) rfl ?_
            refine aw_goto (q := 183) C dX9_printBetween_179 (by decide) ?_
            refine ay_iast (N := 320) (f := s_341.2.1 43) (j := t) C dX9_printBetween_183 (K_342.2.1 43 (by decide)) (by rw [nI_s2 (by omega)]; exact vp_in_nI (by omega) (by decide)) (by rw [nI_s2 (by omega)]; exact nI_clamp (by omega)) (q := 184) rfl ?_
            show aw G 6 M 184 [.ref o, .int g, .int a, .int (nI (t + 2)), .int 1, .int sy] [] (ac_up h_340 (md 43) (.inl (1, 320, .inl (upd (s_341.2.1 43) t 2)))) 0 0
            obtain ⟨h_349, eh_349⟩ : ∃ z9, z9 = ac_up h_340 (md 43) (.inl (1, 320, .inl (upd (s_341.2.1 43) t 2))) := ⟨_, rfl⟩
            rw [← eh_349]
            have kpx_352 : kp h_340 h_349 [md 43] := by rw [eh_349]; exact kp_up (kp_cons _ kp_rf) _ _ (by simp)
            have K_350 : md_ok h_349 o md (s_341.1, va_up s_341.2.1 43 (upd (s_341.2.1 43) t 2), s_341.2.2) := md_A (s := (s_341.1, s_341.2.1, s_341.2.2)) hm K_342 (j := 43) (by decide) (by rw [eh_349]; exact ac_up_s _ _ _) kpx_352
            have kq_351 : kp h h_349 (md_L o md) := kp_in kq_347 kpx_352 (md_sj (by decide))
            refine aw_vret C E dX9_printBetween_184 (Nat.le_refl _) (Nat.le_refl _) ?_
            refine ⟨_, rfl, K_350, ?_, ?_, ?_, ?_, kq_351⟩
            · have e : A ++ pr_two g a sx sy X Y = A ++ 40 :: (X ++ 41 :: 47 :: (40 :: (Y ++ [41]))) := by
                unfold pr_two
                rw [show pr_wr ((g = 14 ∨ g = 15) ∧ sx = 1) X = _ from if_pos ⟨Or.inr c_9, c_135⟩, show pr_wr (¬ g = 16 ∧ (sy = 1 ∨ (g = 14 ∨ g = 15) ∧ sy = 2)) Y = _ from if_pos ⟨c_32, Or.inr ⟨Or.inr c_9, c_49⟩⟩, show pr_op g a = _ from by unfold pr_op; rw [if_neg c_76, if_neg c_87, if_neg c_98, if_pos c_109]]
                simp
              rw [e]; exact R_348
            · exact md_eq_A (s1 := s_341) (md_eq_tr (md_eq_rf : md_eq [41] [40, 42, 43] [] s s) F_345 (by decide) (by decide) (by decide)) _ (by decide)
            · exact F_345.2.1 42 (by decide)
            · show upd (s_341.2.1 43) t 2 = _
              rw [show s_341.2.1 43 = s.2.1 43 from F_345.2.1 43 (by decide), if_pos (Or.inr c_9)]
