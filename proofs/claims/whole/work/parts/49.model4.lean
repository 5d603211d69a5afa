/-! The reference: textFor, fault -/
def mo_text (dy : Nat → Int64) (day : Int64) : Nat → Nat
  | 0 => 0
  | i + 1 => if 0 < lg_cmp (dy i) day then mo_text dy day i else i + 1
set_option maxHeartbeats 4000000 in
set_option maxRecDepth 100000 in
theorem ml_textFor {G : ac_G} {M : ac_M} {o : Nat} {md : Nat → Nat} (hm : md_inj md) {h : ac_H} {c : Nat} {s : md_S} {day : Int64} (K : md_ok h o md s) (hc : s.1 15 = nI c) (hc4 : c ≤ 4) (C : ac_MC G RX9 cX9_textFor 5 (some .int) M) (E : ac_End G (pq h (some (.int (nI (mo_text (s.2.2 16) day c))))) 0 0 M) :
    ∀ (m i : Nat), i + m = c → aw G 5 M 5 [.ref o, .long day, .retAddr 0, .int (nI (mo_text (s.2.2 16) day i)), .int (nI i)] [] h 0 0 := by
  intro m
  induction m with
  | zero =>
    intro i hi
    have hi2 : i = c := by omega
    subst hi2
    refine aw_iload C dX9_textFor_5 rfl (q := 7) rfl ?_
    refine aw_aload_n C dX9_textFor_7 rfl rfl (q := 8) rfl ?_
    refine gfX9_197_9 (v := .int (s.1 15)) C dX9_textFor_8 K.1 rfl (q := 11) rfl ?_
    refine aw_icmp_ge (t := 41) (q := 14) C dX9_textFor_11 (by decide) rfl (fun c_11 => ?_) (fun c_11 => absurd c_11 (fun z => z (by rw [hc]; exact nI_le (Nat.le_refl _) (by omega))))
    refine aw_iload_n C dX9_textFor_41 rfl rfl (q := 42) rfl ?_
    refine aw_iret C E dX9_textFor_42 (Nat.le_refl _) (Nat.le_refl _) ?_
    exact ⟨rfl, rfl⟩
  | succ m ih =>
    intro i hi
    refine aw_iload C dX9_textFor_5 rfl (q := 7) rfl ?_
    refine aw_aload_n C dX9_textFor_7 rfl rfl (q := 8) rfl ?_
    refine gfX9_197_9 (v := .int (s.1 15)) C dX9_textFor_8 K.1 rfl (q := 11) rfl ?_
    refine aw_icmp_ge (t := 41) (q := 14) C dX9_textFor_11 (by decide) rfl (fun c_11 => absurd c_11 (by rw [hc]; exact ni_nge i c rfl rfl (by omega) (by omega) (by omega))) (fun c_11 => ?_)
    refine aw_aload_n C dX9_textFor_14 rfl rfl (q := 15) rfl ?_
    refine gfX9_37_9 (v := .ref (md 16)) C dX9_textFor_15 K.1 rfl (q := 18) rfl ?_
    refine aw_iload C dX9_textFor_18 rfl (q := 20) rfl ?_
    refine ay_lald (N := 4) (f := s.2.2 16) (j := i) C dX9_textFor_20 (K.2.2 16 (by decide)) (vp_in_nI (by omega) (by decide)) (nI_clamp (by omega)) (q := 21) rfl ?_
    refine aw_lload_n C dX9_textFor_21 rfl rfl (q := 22) rfl ?_
    refine aw_lcmp C dX9_textFor_22 (q := 23) rfl ?_
    refine aw_if_gt (t := 33) (q := 26) C dX9_textFor_23 (by decide) rfl (fun c_23 => ?_) (fun c_23 => ?_)
    ·
      refine aw_iload_n C dX9_textFor_33 rfl rfl (q := 34) rfl ?_
      refine aw_istore_n (ls' := [.ref o, .long day, .retAddr 0, .int (nI (mo_text (s.2.2 16) day i)), .int (nI i)]) C dX9_textFor_34 rfl (by decide) rfl (q := 35) rfl ?_
      refine aw_iinc (v := nI (i + 1)) (ls' := [.ref o, .long day, .retAddr 0, .int (nI (mo_text (s.2.2 16) day i)), .int (nI (i + 1))]) C dX9_textFor_35 rfl (nI_1 i) (by decide) rfl (q := 38) rfl ?_
      refine aw_goto (q := 5) C dX9_textFor_38 (by decide) ?_
      have z := ih (i + 1) (by omega)
      rw [show mo_text (s.2.2 16) day (i + 1) = _ from if_pos c_23] at z
      exact z
    ·
      refine aw_iload C dX9_textFor_26 rfl (q := 28) rfl ?_
      refine aw_iconst (v := 1) C dX9_textFor_28 (by decide) (q := 29) rfl ?_
      refine aw_iadd C dX9_textFor_29 (q := 30) rfl ?_
      refine aw_goto (q := 34) C dX9_textFor_30 (by decide) ?_
      rw [show nI i + 1 = nI (i + 1) from nI_1 _]
      refine aw_istore_n (ls' := [.ref o, .long day, .retAddr 0, .int (nI (i + 1)), .int (nI i)]) C dX9_textFor_34 rfl (by decide) rfl (q := 35) rfl ?_
      refine aw_iinc (v := nI (i + 1)) (ls' := [.ref o, .long day, .retAddr 0, .int (nI (i + 1)), .int (nI (i + 1))]) C dX9_textFor_35 rfl (nI_1 i) (by decide) rfl (q := 38) rfl ?_
      refine aw_goto (q := 5) C dX9_textFor_38 (by decide) ?_
      have z := ih (i + 1) (by omega)
      rw [show mo_text (s.2.2 16) day (i + 1) = _ from if_neg c_23] at z
      exact z
set_option maxHeartbeats 4000000 in
set_option maxRecDepth 100000 in
theorem m_textFor (G : ac_G) (l : Launch) (o : Nat) (md : Nat → Nat) (hm : md_inj md) (h : ac_H) (d : Nat) (s : md_S) (K : md_ok h o md s) (c : Nat) (hc : s.1 15 = nI c) (hc4 : c ≤ 4) (day : Int64) : ac_Met G l yX9_textFor cX9_textFor 5 (some .int) d 0 0 [.ref o, .long day] h (pq h (some (.int (nI (mo_text (s.2.2 16) day c))))) := by
  refine ac_of (ls := [.ref o, .long day, .retAddr 0, .retAddr 0, .retAddr 0]) (by decide +kernel) rfl (Nat.le_of_ble_eq_true rfl) (fun M hl C B E hnm => ?_)
  refine aw_iconst (v := 0) C dX9_textFor_0 (by decide) (q := 1) rfl ?_
  refine aw_istore_n (ls' := [.ref o, .long day, .retAddr 0, .int 0, .retAddr 0]) C dX9_textFor_1 rfl (by decide) rfl (q := 2) rfl ?_
  refine aw_iconst (v := 0) C dX9_textFor_2 (by decide) (q := 3) rfl ?_
  refine aw_istore (ls' := [.ref o, .long day, .retAddr 0, .int 0, .int 0]) C dX9_textFor_3 (by decide) rfl (q := 5) rfl ?_
  exact ml_textFor hm K hc hc4 C E c 0 (by omega)
theorem mo_7 {g : Int32} : ¬ 7 < g ↔ ¬ 8 ≤ g := by
  rw [Int32.not_lt, Int32.not_le, Int32.le_iff_toInt_le, Int32.lt_iff_toInt_lt, show Int32.toInt 7 = 7 from rfl, show Int32.toInt 8 = 8 from rfl]
  omega
def mo_fault (s : md_S) (c : Nat) (fa ki a b ww hh : Int32) : Int32 × md_S :=
  if ¬ gt_bl fa 2 then (0, (upd s.1 0 1, s.2.1, s.2.2)) else if c = 10 then (0, (upd s.1 0 2, s.2.1, s.2.2)) else if (gt_bl ki 8 ∧ gt_sz a ∧ gt_sz b ∧ gt_sz ww ∧ gt_sz hh) then
    (nI (c + 1), (upd (upd s.1 0 0) 20 (nI (c + 1)), va_up (va_up (va_up (va_up (va_up (va_up s.2.1 21 (upd (s.2.1 21) c fa)) 22 (upd (s.2.1 22) c ki)) 23 (upd (s.2.1 23) c a)) 24 (upd (s.2.1 24) c b)) 25 (upd (s.2.1 25) c ww)) 26 (upd (s.2.1 26) c hh), s.2.2))
  else (0, (upd s.1 0 3, s.2.1, s.2.2))
set_option maxHeartbeats 4000000 in
set_option maxRecDepth 100000 in
theorem ml_fault {G : ac_G} {M : ac_M} {o : Nat} {md : Nat → Nat} (hm : md_inj md) {h : ac_H} {c : Nat} {s : md_S} {fa ki a b ww hh : Int32} (K : md_ok h o md s) (hc : s.1 20 = nI c) (hc10 : c ≤ 10) (C : ac_MC G RX9 cX9_fault 8 (some .int) M) (E : ac_End G (fun r9 h9 => r9 = some (.int (mo_fault s c fa ki a b ww hh).1) ∧ md_ok h9 o md (mo_fault s c fa ki a b ww hh).2 ∧ kp h h9 (md_L o md)) 0 0 M) : aw G 8 M 48 [.ref o, .int fa, .int ki, .int a, .int b, .int ww, .int hh, .int (pb_b (gt_bl ki 8 ∧ gt_sz a ∧ gt_sz b ∧ gt_sz ww ∧ gt_sz hh))] [] h 0 0 := by
  refine aw_aload_n C dX9_fault_48 rfl rfl (q := 49) rfl ?_
  refine aw_iload_n C dX9_fault_49 rfl rfl (q := 50) rfl ?_
  refine aw_if_lt (t := 58) (q := 53) C dX9_fault_50 (by decide) rfl (fun c_50 => ?_) (fun c_50 => ?_)
  ·
    refine aw_iconst (v := 1) C dX9_fault_58 (by decide) (q := 59) rfl ?_
    refine aw_goto (q := 85) C dX9_fault_59 (by decide) ?_
    refine pfX9_89_9 C dX9_fault_85 K.1 rfl rfl (Nat.le_of_ble_eq_true rfl) (q := 88) rfl ?_
    show aw G 8 M 88 [.ref o, .int fa, .int ki, .int a, .int b, .int ww, .int hh, .int (pb_b (gt_bl ki 8 ∧ gt_sz a ∧ gt_sz b ∧ gt_sz ww ∧ gt_sz hh))] [] (ac_up h o (.inr (9, md_fs md ((upd s.1 0 1, s.2.1, s.2.2).1)))) 0 0
    obtain ⟨h_1, eh_1⟩ : ∃ z9, z9 = ac_up h o (.inr (9, md_fs md ((upd s.1 0 1, s.2.1, s.2.2).1))) := ⟨_, rfl⟩
    rw [← eh_1]
    have kpx_4 : kp h h_1 [o] := by rw [eh_1]; exact kp_up (kp_cons o kp_rf) _ _ (by simp)
    have K_2 : md_ok h_1 o md (upd s.1 0 1, s.2.1, s.2.2) := md_J (s := (s.1, s.2.1, s.2.2)) K (by rw [eh_1]; exact ac_up_s _ _ _) kpx_4
    have kq_3 : kp h h_1 (md_L o md) := kp_mono kpx_4 md_s0
    refine aw_aload_n C dX9_fault_88 rfl rfl (q := 89) rfl ?_
    refine gfX9_89_9 (v := .int 1) C dX9_fault_89 K_2.1 rfl (q := 92) rfl ?_
    refine aw_if_le (t := 97) (q := 95) C dX9_fault_92 (by decide) rfl (fun c_92 => absurd c_92 (by decide)) (fun c_92 => ?_)
    refine aw_iconst (v := 0) C dX9_fault_95 (by decide) (q := 96) rfl ?_
    refine aw_iret C E dX9_fault_96 (Nat.le_refl _) (Nat.le_refl _) ?_
    rw [show mo_fault s c fa ki a b ww hh = (0, (upd s.1 0 1, s.2.1, s.2.2)) from by unfold mo_fault; rw [if_pos (fun z => z.1 c_50)]]
    exact ⟨rfl, K_2, kq_3⟩
  ·
    refine aw_iload_n C dX9_fault_53 rfl rfl (q := 54) rfl ?_
    refine aw_iconst (v := 1) C dX9_fault_54 (by decide) (q := 55) rfl ?_
    refine aw_icmp_le (t := 62) (q := 58) C dX9_fault_55 (by decide) rfl (fun c_55 => ?_) (fun c_55 => ?_)
    ·
      refine aw_aload_n C dX9_fault_62 rfl rfl (q := 63) rfl ?_
      refine gfX9_213_9 (v := .int (s.1 20)) C dX9_fault_63 K.1 rfl (q := 66) rfl ?_
      refine aw_bipush (v := 10) C dX9_fault_66 (by decide) (q := 68) rfl ?_
      refine aw_icmp_ne (t := 75) (q := 71) C dX9_fault_68 (by decide) rfl (fun c_68 => ?_) (fun c_68 => ?_)
      ·
        have hce : ¬ c = 10 := by rw [hc, show (10 : Int32) = nI 10 from rfl, nI_eq (by omega) (by decide)] at c_68; exact c_68
        refine aw_iload C dX9_fault_75 rfl (q := 77) rfl ?_
        refine aw_if_eq (t := 84) (q := 80) C dX9_fault_77 (by decide) rfl (fun c_77 => ?_) (fun c_77 => ?_)
        ·
          refine aw_iconst (v := 3) C dX9_fault_84 (by decide) (q := 85) rfl ?_
          refine pfX9_89_9 C dX9_fault_85 K.1 rfl rfl (Nat.le_of_ble_eq_true rfl) (q := 88) rfl ?_
          show aw G 8 M 88 [.ref o, .int fa, .int ki, .int a, .int b, .int ww, .int hh, .int (pb_b (gt_bl ki 8 ∧ gt_sz a ∧ gt_sz b ∧ gt_sz ww ∧ gt_sz hh))] [] (ac_up h o (.inr (9, md_fs md ((upd s.1 0 3, s.2.1, s.2.2).1)))) 0 0
          obtain ⟨h_5, eh_5⟩ : ∃ z9, z9 = ac_up h o (.inr (9, md_fs md ((upd s.1 0 3, s.2.1, s.2.2).1))) := ⟨_, rfl⟩
          rw [← eh_5]
          have kpx_8 : kp h h_5 [o] := by rw [eh_5]; exact kp_up (kp_cons o kp_rf) _ _ (by simp)
          have K_6 : md_ok h_5 o md (upd s.1 0 3, s.2.1, s.2.2) := md_J (s := (s.1, s.2.1, s.2.2)) K (by rw [eh_5]; exact ac_up_s _ _ _) kpx_8
          have kq_7 : kp h h_5 (md_L o md) := kp_mono kpx_8 md_s0
          refine aw_aload_n C dX9_fault_88 rfl rfl (q := 89) rfl ?_
          refine gfX9_89_9 (v := .int 3) C dX9_fault_89 K_6.1 rfl (q := 92) rfl ?_
          refine aw_if_le (t := 97) (q := 95) C dX9_fault_92 (by decide) rfl (fun c_92 => absurd c_92 (by decide)) (fun c_92 => ?_)
          refine aw_iconst (v := 0) C dX9_fault_95 (by decide) (q := 96) rfl ?_
          refine aw_iret C E dX9_fault_96 (Nat.le_refl _) (Nat.le_refl _) ?_
          rw [show mo_fault s c fa ki a b ww hh = (0, (upd s.1 0 3, s.2.1, s.2.2)) from by unfold mo_fault; rw [if_neg (fun z => z ⟨c_50, mo_2.mp c_55⟩), if_neg hce, if_neg (pb_0.mp c_77)]]
          exact ⟨rfl, K_6, kq_7⟩
        ·
          refine aw_iconst (v := 0) C dX9_fault_80 (by decide) (q := 81) rfl ?_
          refine aw_goto (q := 85) C dX9_fault_81 (by decide) ?_
          refine pfX9_89_9 C dX9_fault_85 K.1 rfl rfl (Nat.le_of_ble_eq_true rfl) (q := 88) rfl ?_
          show aw G 8 M 88 [.ref o, .int fa, .int ki, .int a, .int b, .int ww, .int hh, .int (pb_b (gt_bl ki 8 ∧ gt_sz a ∧ gt_sz b ∧ gt_sz ww ∧ gt_sz hh))] [] (ac_up h o (.inr (9, md_fs md ((upd s.1 0 0, s.2.1, s.2.2).1)))) 0 0
          obtain ⟨h_9, eh_9⟩ : ∃ z9, z9 = ac_up h o (.inr (9, md_fs md ((upd s.1 0 0, s.2.1, s.2.2).1))) := ⟨_, rfl⟩
          rw [← eh_9]
          have kpx_12 : kp h h_9 [o] := by rw [eh_9]; exact kp_up (kp_cons o kp_rf) _ _ (by simp)
          have K_10 : md_ok h_9 o md (upd s.1 0 0, s.2.1, s.2.2) := md_J (s := (s.1, s.2.1, s.2.2)) K (by rw [eh_9]; exact ac_up_s _ _ _) kpx_12
          have kq_11 : kp h h_9 (md_L o md) := kp_mono kpx_12 md_s0
          refine aw_aload_n C dX9_fault_88 rfl rfl (q := 89) rfl ?_
          refine gfX9_89_9 (v := .int 0) C dX9_fault_89 K_10.1 rfl (q := 92) rfl ?_
          refine aw_if_le (t := 97) (q := 95) C dX9_fault_92 (by decide) rfl (fun c_92 => ?_) (fun c_92 => absurd c_92 (by decide))
          refine aw_aload_n C dX9_fault_97 rfl rfl (q := 98) rfl ?_
          refine gfX9_41_9 (v := .ref (md 21)) C dX9_fault_98 K_10.1 rfl (q := 101) rfl ?_
          refine aw_aload_n C dX9_fault_101 rfl rfl (q := 102) rfl ?_
          refine gfX9_213_9 (v := .int (s.1 20)) C dX9_fault_102 K_10.1 rfl (q := 105) rfl ?_
          refine aw_iload_n C dX9_fault_105 rfl rfl (q := 106) rfl ?_
          refine ay_iast (N := 10) (f := s.2.1 21) (j := c) C dX9_fault_106 (K_10.2.1 21 (by decide)) (by rw [hc]; exact vp_in_nI (by omega) (by decide)) (by rw [hc]; exact nI_clamp (by omega)) (q := 107) rfl ?_
          show aw G 8 M 107 [.ref o, .int fa, .int ki, .int a, .int b, .int ww, .int hh, .int (pb_b (gt_bl ki 8 ∧ gt_sz a ∧ gt_sz b ∧ gt_sz ww ∧ gt_sz hh))] [] (ac_up h_9 (md 21) (.inl (1, 10, .inl (upd (s.2.1 21) c fa)))) 0 0
          obtain ⟨h_13, eh_13⟩ : ∃ z9, z9 = ac_up h_9 (md 21) (.inl (1, 10, .inl (upd (s.2.1 21) c fa))) := ⟨_, rfl⟩
          rw [← eh_13]
          have kpx_16 : kp h_9 h_13 [md 21] := by rw [eh_13]; exact kp_up (kp_cons _ kp_rf) _ _ (by simp)
          have K_14 : md_ok h_13 o md (upd s.1 0 0, va_up s.2.1 21 (upd (s.2.1 21) c fa), s.2.2) := md_A (s := (upd s.1 0 0, s.2.1, s.2.2)) hm K_10 (j := 21) (by decide) (by rw [eh_13]; exact ac_up_s _ _ _) kpx_16
          have kq_15 : kp h h_13 (md_L o md) := kp_in kq_11 kpx_16 (md_sj (by decide))
          refine aw_aload_n C dX9_fault_107 rfl rfl (q := 108) rfl ?_
          refine gfX9_44_9 (v := .ref (md 22)) C dX9_fault_108 K_14.1 rfl (q := 111) rfl ?_
          refine aw_aload_n C dX9_fault_111 rfl rfl (q := 112) rfl ?_
          refine gfX9_213_9 (v := .int (s.1 20)) C dX9_fault_112 K_14.1 rfl (q := 115) rfl ?_
          refine aw_iload_n C dX9_fault_115 rfl rfl (q := 116) rfl ?_
          refine ay_iast (N := 10) (f := s.2.1 22) (j := c) C dX9_fault_116 (K_14.2.1 22 (by decide)) (by rw [hc]; exact vp_in_nI (by omega) (by decide)) (by rw [hc]; exact nI_clamp (by omega)) (q := 117) rfl ?_
          show aw G 8 M 117 [.ref o, .int fa, .int ki, .int a, .int b, .int ww, .int hh, .int (pb_b (gt_bl ki 8 ∧ gt_sz a ∧ gt_sz b ∧ gt_sz ww ∧ gt_sz hh))] [] (ac_up h_13 (md 22) (.inl (1, 10, .inl (upd (s.2.1 22) c ki)))) 0 0
          obtain ⟨h_17, eh_17⟩ : ∃ z9, z9 = ac_up h_13 (md 22) (.inl (1, 10, .inl (upd (s.2.1 22) c ki))) := ⟨_, rfl⟩
          rw [← eh_17]
          have kpx_20 : kp h_13 h_17 [md 22] := by rw [eh_17]; exact kp_up (kp_cons _ kp_rf) _ _ (by simp)
          have K_18 : md_ok h_17 o md (upd s.1 0 0, va_up (va_up s.2.1 21 (upd (s.2.1 21) c fa)) 22 (upd (s.2.1 22) c ki), s.2.2) := md_A (s := (upd s.1 0 0, va_up s.2.1 21 (upd (s.2.1 21) c fa), s.2.2)) hm K_14 (j := 22) (by decide) (by rw [eh_17]; exact ac_up_s _ _ _) kpx_20
          have kq_19 : kp h h_17 (md_L o md) := kp_in kq_15 kpx_20 (md_sj (by decide))
          refine aw_aload_n C dX9_fault_117 rfl rfl (q := 118) rfl ?_
          refine gfX9_47_9 (v := .ref (md 23)) C dX9_fault_118 K_18.1 rfl (q := 121) rfl ?_
          refine aw_aload_n C dX9_fault_121 rfl rfl (q := 122) rfl ?_
          refine gfX9_213_9 (v := .int (s.1 20)) C dX9_fault_122 K_18.1 rfl (q := 125) rfl ?_
          refine aw_iload_n C dX9_fault_125 rfl rfl (q := 126) rfl ?_
          refine ay_iast (N := 10) (f := s.2.1 23) (j := c) C dX9_fault_126 (K_18.2.1 23 (by decide)) (by rw [hc]; exact vp_in_nI (by omega) (by decide)) (by rw [hc]; exact nI_clamp (by omega)) (q := 127) rfl ?_
          show aw G 8 M 127 [.ref o, .int fa, .int ki, .int a, .int b, .int ww, .int hh, .int (pb_b (gt_bl ki 8 ∧ gt_sz a ∧ gt_sz b ∧ gt_sz ww ∧ gt_sz hh))] [] (ac_up h_17 (md 23) (.inl (1, 10, .inl (upd (s.2.1 23) c a)))) 0 0
          obtain ⟨h_21, eh_21⟩ : ∃ z9, z9 = ac_up h_17 (md 23) (.inl (1, 10, .inl (upd (s.2.1 23) c a))) := ⟨_, rfl⟩
          rw [← eh_21]
          have kpx_24 : kp h_17 h_21 [md 23] := by rw [eh_21]; exact kp_up (kp_cons _ kp_rf) _ _ (by simp)
          have K_22 : md_ok h_21 o md (upd s.1 0 0, va_up (va_up (va_up s.2.1 21 (upd (s.2.1 21) c fa)) 22 (upd (s.2.1 22) c ki)) 23 (upd (s.2.1 23) c a), s.2.2) := md_A (s := (upd s.1 0 0, va_up (va_up s.2.1 21 (upd (s.2.1 21) c fa)) 22 (upd (s.2.1 22) c ki), s.2.2)) hm K_18 (j := 23) (by decide) (by rw [eh_21]; exact ac_up_s _ _ _) kpx_24
          have kq_23 : kp h h_21 (md_L o md) := kp_in kq_19 kpx_24 (md_sj (by decide))
          refine aw_aload_n C dX9_fault_127 rfl rfl (q := 128) rfl ?_
          refine gfX9_50_9 (v := .ref (md 24)) C dX9_fault_128 K_22.1 rfl (q := 131) rfl ?_
          refine aw_aload_n C dX9_fault_131 rfl rfl (q := 132) rfl ?_
          refine gfX9_213_9 (v := .int (s.1 20)) C dX9_fault_132 K_22.1 rfl (q := 135) rfl ?_
          refine aw_iload C dX9_fault_135 rfl (q := 137) rfl ?_
          refine ay_iast (N := 10) (f := s.2.1 24) (j := c) C dX9_fault_137 (K_22.2.1 24 (by decide)) (by rw [hc]; exact vp_in_nI (by omega) (by decide)) (by rw [hc]; exact nI_clamp (by omega)) (q := 138) rfl ?_
          show aw G 8 M 138 [.ref o, .int fa, .int ki, .int a, .int b, .int ww, .int hh, .int (pb_b (gt_bl ki 8 ∧ gt_sz a ∧ gt_sz b ∧ gt_sz ww ∧ gt_sz hh))] [] (ac_up h_21 (md 24) (.inl (1, 10, .inl (upd (s.2.1 24) c b)))) 0 0
          obtain ⟨h_25, eh_25⟩ : ∃ z9, z9 = ac_up h_21 (md 24) (.inl (1, 10, .inl (upd (s.2.1 24) c b))) := ⟨_, rfl⟩
          rw [← eh_25]
          have kpx_28 : kp h_21 h_25 [md 24] := by rw [eh_25]; exact kp_up (kp_cons _ kp_rf) _ _ (by simp)
          have K_26 : md_ok h_25 o md (upd s.1 0 0, va_up (va_up (va_up (va_up s.2.1 21 (upd (s.2.1 21) c fa)) 22 (upd (s.2.1 22) c ki)) 23 (upd (s.2.1 23) c a)) 24 (upd (s.2.1 24) c b), s.2.2) := md_A (s := (upd s.1 0 0, va_up (va_up (va_up s.2.1 21 (upd (s.2.1 21) c fa)) 22 (upd (s.2.1 22) c ki)) 23 (upd (s.2.1 23) c a), s.2.2)) hm K_22 (j := 24) (by decide) (by rw [eh_25]; exact ac_up_s _ _ _) kpx_28
          have kq_27 : kp h h_25 (md_L o md) := kp_in kq_23 kpx_28 (md_sj (by decide))
          refine aw_aload_n C dX9_fault_138 rfl rfl (q := 139) rfl ?_
          refine gfX9_53_9 (v := .ref (md 25)) C dX9_fault_139 K_26.1 rfl (q := 142) rfl ?_
          refine aw_aload_n C dX9_fault_142 rfl rfl (q := 143) rfl ?_
          refine gfX9_213_9 (v := .int (s.1 20)) C dX9_fault_143 K_26.1 rfl (q := 146) rfl ?_
          refine aw_iload C dX9_fault_146 rfl (q := 148) rfl ?_
          refine ay_iast (N := 10) (f := s.2.1 25) (j := c) C dX9_fault_148 (K_26.2.1 25 (by decide)) (by rw [hc]; exact vp_in_nI (by omega) (by decide)) (by rw [hc]; exact nI_clamp (by omega)) (q := 149) rfl ?_
          show aw G 8 M 149 [.ref o, .int fa, .int ki, .int a, .int b, .int ww, .int hh, .int (pb_b (gt_bl ki 8 ∧ gt_sz a ∧ gt_sz b ∧ gt_sz ww ∧ gt_sz hh))] [] (ac_up h_25 (md 25) (.inl (1, 10, .inl (upd (s.2.1 25) c ww)))) 0 0
          obtain ⟨h_29, eh_29⟩ : ∃ z9, z9 = ac_up h_25 (md 25) (.inl (1, 10, .inl (upd (s.2.1 25) c ww))) := ⟨_, rfl⟩
          rw [← eh_29]
          have kpx_32 : kp h_25 h_29 [md 25] := by rw [eh_29]; exact kp_up (kp_cons _ kp_rf) _ _ (by simp)
          have K_30 : md_ok h_29 o md (upd s.1 0 0, va_up (va_up (va_up (va_up (va_up s.2.1 21 (upd (s.2.1 21) c fa)) 22 (upd (s.2.1 22) c ki)) 23 (upd (s.2.1 23) c a)) 24 (upd (s.2.1 24) c b)) 25 (upd (s.2.1 25) c ww), s.2.2) := md_A (s := (upd s.1 0 0, va_up (va_up (va_up (va_up s.2.1 21 (upd (s.2.1 21) c fa)) 22 (upd (s.2.1 22) c ki)) 23 (upd (s.2.1 23) c a)) 24 (upd (s.2.1 24) c b), s.2.2)) hm K_26 (j := 25) (by decide) (by rw [eh_29]; exact ac_up_s _ _ _) kpx_32
          have kq_31 : kp h h_29 (md_L o md) := kp_in kq_27 kpx_32 (md_sj (by decide))
          refine aw_aload_n C dX9_fault_149 rfl rfl (q := 150) rfl ?_
          refine gfX9_56_9 (v := .ref (md 26)) C dX9_fault_150 K_30.1 rfl (q := 153) rfl ?_
          refine aw_aload_n C dX9_fault_153 rfl rfl (q := 154) rfl ?_
          refine gfX9_213_9 (v := .int (s.1 20)) C dX9_fault_154 K_30.1 rfl (q := 157) rfl ?_
          refine aw_iload C dX9_fault_157 rfl (q := 159) rfl ?_
          refine ay_iast (N := 10) (f := s.2.1 26) (j := c) C dX9_fault_159 (K_30.2.1 26 (by decide)) (by rw [hc]; exact vp_in_nI (by omega) (by decide)) (by rw [hc]; exact nI_clamp (by omega)) (q := 160) rfl ?_
          show aw G 8 M 160 [.ref o, .int fa, .int ki, .int a, .int b, .int ww, .int hh, .int (pb_b (gt_bl ki 8 ∧ gt_sz a ∧ gt_sz b ∧ gt_sz ww ∧ gt_sz hh))] [] (ac_up h_29 (md 26) (.inl (1, 10, .inl (upd (s.2.1 26) c hh)))) 0 0
          obtain ⟨h_33, eh_33⟩ : ∃ z9, z9 = ac_up h_29 (md 26) (.inl (1, 10, .inl (upd (s.2.1 26) c hh))) := ⟨_, rfl⟩
          rw [← eh_33]
          have kpx_36 : kp h_29 h_33 [md 26] := by rw [eh_33]; exact kp_up (kp_cons _ kp_rf) _ _ (by simp)
          have K_34 : md_ok h_33 o md (upd s.1 0 0, va_up (va_up (va_up (va_up (va_up (va_up s.2.1 21 (upd (s.2.1 21) c fa)) 22 (upd (s.2.1 22) c ki)) 23 (upd (s.2.1 23) c a)) 24 (upd (s.2.1 24) c b)) 25 (upd (s.2.1 25) c ww)) 26 (upd (s.2.1 26) c hh), s.2.2) := md_A (s := (upd s.1 0 0, va_up (va_up (va_up (va_up (va_up s.2.1 21 (upd (s.2.1 21) c fa)) 22 (upd (s.2.1 22) c ki)) 23 (upd (s.2.1 23) c a)) 24 (upd (s.2.1 24) c b)) 25 (upd (s.2.1 25) c ww), s.2.2)) hm K_30 (j := 26) (by decide) (by rw [eh_33]; exact ac_up_s _ _ _) kpx_36
          have kq_35 : kp h h_33 (md_L o md) := kp_in kq_31 kpx_36 (md_sj (by decide))
          refine aw_aload_n C dX9_fault_160 rfl rfl (q := 161) rfl ?_
          refine aw_dup C dX9_fault_161 rfl (q := 162) rfl ?_
          refine gfX9_213_9 (v := .int (s.1 20)) C dX9_fault_162 K_34.1 rfl (q := 165) rfl ?_
          refine aw_iconst (v := 1) C dX9_fault_165 (by decide) (q := 166) rfl ?_
          refine aw_iadd C dX9_fault_166 (q := 167) rfl ?_
          rw [show s.1 20 + 1 = nI (c + 1) from by rw [hc]; exact nI_1 _]
          refine pfX9_213_9 C dX9_fault_167 K_34.1 rfl rfl (Nat.le_of_ble_eq_true rfl) (q := 170) rfl ?_
          show aw G 8 M 170 [.ref o, .int fa, .int ki, .int a, .int b, .int ww, .int hh, .int (pb_b (gt_bl ki 8 ∧ gt_sz a ∧ gt_sz b ∧ gt_sz ww ∧ gt_sz hh))] [] (ac_up h_33 o (.inr (9, md_fs md ((upd (upd s.1 0 0) 20 (nI (c + 1)), va_up (va_up (va_up (va_up (va_up (va_up s.2.1 21 (upd (s.2.1 21) c fa)) 22 (upd (s.2.1 22) c ki)) 23 (upd (s.2.1 23) c a)) 24 (upd (s.2.1 24) c b)) 25 (upd (s.2.1 25) c ww)) 26 (upd (s.2.1 26) c hh), s.2.2).1)))) 0 0
          obtain ⟨h_37, eh_37⟩ : ∃ z9, z9 = ac_up h_33 o (.inr (9, md_fs md ((upd (upd s.1 0 0) 20 (nI (c + 1)), va_up (va_up (va_up (va_up (va_up (va_up s.2.1 21 (upd (s.2.1 21) c fa)) 22 (upd (s.2.1 22) c ki)) 23 (upd (s.2.1 23) c a)) 24 (upd (s.2.1 24) c b)) 25 (upd (s.2.1 25) c ww)) 26 (upd (s.2.1 26) c hh), s.2.2).1))) := ⟨_, rfl⟩
          rw [← eh_37]
          have kpx_40 : kp h_33 h_37 [o] := by rw [eh_37]; exact kp_up (kp_cons o kp_rf) _ _ (by simp)
          have K_38 : md_ok h_37 o md (upd (upd s.1 0 0) 20 (nI (c + 1)), va_up (va_up (va_up (va_up (va_up (va_up s.2.1 21 (upd (s.2.1 21) c fa)) 22 (upd (s.2.1 22) c ki)) 23 (upd (s.2.1 23) c a)) 24 (upd (s.2.1 24) c b)) 25 (upd (s.2.1 25) c ww)) 26 (upd (s.2.1 26) c hh), s.2.2) := md_J (s := (upd s.1 0 0, va_up (va_up (va_up (va_up (va_up (va_up s.2.1 21 (upd (s.2.1 21) c fa)) 22 (upd (s.2.1 22) c ki)) 23 (upd (s.2.1 23) c a)) 24 (upd (s.2.1 24) c b)) 25 (upd (s.2.1 25) c ww)) 26 (upd (s.2.1 26) c hh), s.2.2)) K_34 (by rw [eh_37]; exact ac_up_s _ _ _) kpx_40
          have kq_39 : kp h h_37 (md_L o md) := kp_in kq_35 kpx_40 md_s0
          refine aw_aload_n C dX9_fault_170 rfl rfl (q := 171) rfl ?_
          refine gfX9_213_9 (v := .int (nI (c + 1))) C dX9_fault_171 K_38.1 rfl (q := 174) rfl ?_
          refine aw_iret C E dX9_fault_174 (Nat.le_refl _) (Nat.le_refl _) ?_
          rw [show mo_fault s c fa ki a b ww hh = (nI (c + 1), (upd (upd s.1 0 0) 20 (nI (c + 1)), va_up (va_up (va_up (va_up (va_up (va_up s.2.1 21 (upd (s.2.1 21) c fa)) 22 (upd (s.2.1 22) c ki)) 23 (upd (s.2.1 23) c a)) 24 (upd (s.2.1 24) c b)) 25 (upd (s.2.1 25) c ww)) 26 (upd (s.2.1 26) c hh), s.2.2)) from by unfold mo_fault; rw [if_neg (fun z => z ⟨c_50, mo_2.mp c_55⟩), if_neg hce, if_pos (pb_n c_77)]]
          exact ⟨rfl, K_38, kq_39⟩
      ·
        have hce : c = 10 := by rw [hc, show (10 : Int32) = nI 10 from rfl, nI_eq (by omega) (by decide)] at c_68; exact c_68
        refine aw_iconst (v := 2) C dX9_fault_71 (by decide) (q := 72) rfl ?_
        refine aw_goto (q := 85) C dX9_fault_72 (by decide) ?_
        refine pfX9_89_9 C dX9_fault_85 K.1 rfl rfl (Nat.le_of_ble_eq_true rfl) (q := 88) rfl ?_
        show aw G 8 M 88 [.ref o, .int fa, .int ki, .int a, .int b, .int ww, .int hh, .int (pb_b (gt_bl ki 8 ∧ gt_sz a ∧ gt_sz b ∧ gt_sz ww ∧ gt_sz hh))] [] (ac_up h o (.inr (9, md_fs md ((upd s.1 0 2, s.2.1, s.2.2).1)))) 0 0
        obtain ⟨h_41, eh_41⟩ : ∃ z9, z9 = ac_up h o (.inr (9, md_fs md ((upd s.1 0 2, s.2.1, s.2.2).1))) := ⟨_, rfl⟩
        rw [← eh_41]
        have kpx_44 : kp h h_41 [o] := by rw [eh_41]; exact kp_up (kp_cons o kp_rf) _ _ (by simp)
        have K_42 : md_ok h_41 o md (upd s.1 0 2, s.2.1, s.2.2) := md_J (s := (s.1, s.2.1, s.2.2)) K (by rw [eh_41]; exact ac_up_s _ _ _) kpx_44
        have kq_43 : kp h h_41 (md_L o md) := kp_mono kpx_44 md_s0
        refine aw_aload_n C dX9_fault_88 rfl rfl (q := 89) rfl ?_
        refine gfX9_89_9 (v := .int 2) C dX9_fault_89 K_42.1 rfl (q := 92) rfl ?_
        refine aw_if_le (t := 97) (q := 95) C dX9_fault_92 (by decide) rfl (fun c_92 => absurd c_92 (by decide)) (fun c_92 => ?_)
        refine aw_iconst (v := 0) C dX9_fault_95 (by decide) (q := 96) rfl ?_
        refine aw_iret C E dX9_fault_96 (Nat.le_refl _) (Nat.le_refl _) ?_
        rw [show mo_fault s c fa ki a b ww hh = (0, (upd s.1 0 2, s.2.1, s.2.2)) from by unfold mo_fault; rw [if_neg (fun z => z ⟨c_50, mo_2.mp c_55⟩), if_pos hce]]
        exact ⟨rfl, K_42, kq_43⟩
    ·
      refine aw_iconst (v := 1) C dX9_fault_58 (by decide) (q := 59) rfl ?_
      refine aw_goto (q := 85) C dX9_fault_59 (by decide) ?_
      refine pfX9_89_9 C dX9_fault_85 K.1 rfl rfl (Nat.le_of_ble_eq_true rfl) (q := 88) rfl ?_
      show aw G 8 M 88 [.ref o, .int fa, .int ki, .int a, .int b, .int ww, .int hh, .int (pb_b (gt_bl ki 8 ∧ gt_sz a ∧ gt_sz b ∧ gt_sz ww ∧ gt_sz hh))] [] (ac_up h o (.inr (9, md_fs md ((upd s.1 0 1, s.2.1, s.2.2).1)))) 0 0
      obtain ⟨h_45, eh_45⟩ : ∃ z9, z9 = ac_up h o (.inr (9, md_fs md ((upd s.1 0 1, s.2.1, s.2.2).1))) := ⟨_, rfl⟩
      rw [← eh_45]
      have kpx_48 : kp h h_45 [o] := by rw [eh_45]; exact kp_up (kp_cons o kp_rf) _ _ (by simp)
      have K_46 : md_ok h_45 o md (upd s.1 0 1, s.2.1, s.2.2) := md_J (s := (s.1, s.2.1, s.2.2)) K (by rw [eh_45]; exact ac_up_s _ _ _) kpx_48
      have kq_47 : kp h h_45 (md_L o md) := kp_mono kpx_48 md_s0
      refine aw_aload_n C dX9_fault_88 rfl rfl (q := 89) rfl ?_
      refine gfX9_89_9 (v := .int 1) C dX9_fault_89 K_46.1 rfl (q := 92) rfl ?_
      refine aw_if_le (t := 97) (q := 95) C dX9_fault_92 (by decide) rfl (fun c_92 => absurd c_92 (by decide)) (fun c_92 => ?_)
      refine aw_iconst (v := 0) C dX9_fault_95 (by decide) (q := 96) rfl ?_
      refine aw_iret C E dX9_fault_96 (Nat.le_refl _) (Nat.le_refl _) ?_
      rw [show mo_fault s c fa ki a b ww hh = (0, (upd s.1 0 1, s.2.1, s.2.2)) from by unfold mo_fault; rw [if_pos (fun z => c_55 (mo_2.mpr z.2))]]
      exact ⟨rfl, K_46, kq_47⟩
set_option maxHeartbeats 4000000 in
set_option maxRecDepth 100000 in
theorem m_fault (G : ac_G) (l : Launch) (o : Nat) (md : Nat → Nat) (hm : md_inj md) (h : ac_H) (d : Nat) (s : md_S) (K : md_ok h o md s) (c : Nat) (hc : s.1 20 = nI c) (hc10 : c ≤ 10) (fa ki a b ww hh : Int32) : ac_Met G l yX9_fault cX9_fault 8 (some .int) (d + 1) 0 0 [.ref o, .int fa, .int ki, .int a, .int b, .int ww, .int hh] h (fun r9 h9 => r9 = some (.int (mo_fault s c fa ki a b ww hh).1) ∧ md_ok h9 o md (mo_fault s c fa ki a b ww hh).2 ∧ kp h h9 (md_L o md)) := by
  refine ac_of (ls := [.ref o, .int fa, .int ki, .int a, .int b, .int ww, .int hh, .retAddr 0]) (by decide +kernel) rfl (Nat.le_of_ble_eq_true rfl) (fun M hl C B E hnm => ?_)
  refine aw_iload_n C dX9_fault_0 rfl rfl (q := 1) rfl ?_
  refine aw_if_lt (t := 45) (q := 4) C dX9_fault_1 (by decide) rfl (fun c_1 => ?_) (fun c_1 => ?_)
  ·
    refine aw_iconst (v := 0) C dX9_fault_45 (by decide) (q := 46) rfl ?_
    refine aw_istore (ls' := [.ref o, .int fa, .int ki, .int a, .int b, .int ww, .int hh, .int 0]) C dX9_fault_46 (by decide) rfl (q := 48) rfl ?_
    rw [show (0 : Int32) = pb_b (gt_bl ki 8 ∧ gt_sz a ∧ gt_sz b ∧ gt_sz ww ∧ gt_sz hh) from by unfold pb_b; rw [if_neg (fun z => z.1.1 c_1)]]
    exact ml_fault hm K hc hc10 C E
  ·
    refine aw_iload_n C dX9_fault_4 rfl rfl (q := 5) rfl ?_
    refine aw_bipush (v := 7) C dX9_fault_5 (by decide) (q := 7) rfl ?_
    refine aw_icmp_gt (t := 45) (q := 10) C dX9_fault_7 (by decide) rfl (fun c_7 => ?_) (fun c_7 => ?_)
    ·
      refine aw_iconst (v := 0) C dX9_fault_45 (by decide) (q := 46) rfl ?_
      refine aw_istore (ls' := [.ref o, .int fa, .int ki, .int a, .int b, .int ww, .int hh, .int 0]) C dX9_fault_46 (by decide) rfl (q := 48) rfl ?_
      rw [show (0 : Int32) = pb_b (gt_bl ki 8 ∧ gt_sz a ∧ gt_sz b ∧ gt_sz ww ∧ gt_sz hh) from by unfold pb_b; rw [if_neg (fun z => mo_7.mpr z.1.2 c_7)]]
      exact ml_fault hm K hc hc10 C E
    ·
      refine aw_iload_n C dX9_fault_10 rfl rfl (q := 11) rfl ?_
      refine csX9_201 (As := [.int a]) (rest := []) C B dX9_fault_11 (m_isSize G M.2.1 h d a) rfl rfl (Nat.le_of_ble_eq_true rfl) (by omega) (by omega) (by omega) (q := 14) rfl (fun r9 h9 hr9 => ?_)
      obtain ⟨e9, er9⟩ := hr9
      subst er9; rw [e9]
      show aw G 8 M 14 [.ref o, .int fa, .int ki, .int a, .int b, .int ww, .int hh, .retAddr 0] [.int (pb_b (gt_sz a))] h 0 0
      refine aw_if_eq (t := 45) (q := 17) C dX9_fault_14 (by decide) rfl (fun c_14 => ?_) (fun c_14 => ?_)
      ·
        refine aw_iconst (v := 0) C dX9_fault_45 (by decide) (q := 46) rfl ?_
        refine aw_istore (ls' := [.ref o, .int fa, .int ki, .int a, .int b, .int ww, .int hh, .int 0]) C dX9_fault_46 (by decide) rfl (q := 48) rfl ?_
        rw [show (0 : Int32) = pb_b (gt_bl ki 8 ∧ gt_sz a ∧ gt_sz b ∧ gt_sz ww ∧ gt_sz hh) from by unfold pb_b; rw [if_neg (fun z => pb_0.mp c_14 z.2.1)]]
        exact ml_fault hm K hc hc10 C E
      ·
        refine aw_iload C dX9_fault_17 rfl (q := 19) rfl ?_
        refine csX9_201 (As := [.int b]) (rest := []) C B dX9_fault_19 (m_isSize G M.2.1 h d b) rfl rfl (Nat.le_of_ble_eq_true rfl) (by omega) (by omega) (by omega) (q := 22) rfl (fun r9 h9 hr9 => ?_)
        obtain ⟨e9, er9⟩ := hr9
        subst er9; rw [e9]
        show aw G 8 M 22 [.ref o, .int fa, .int ki, .int a, .int b, .int ww, .int hh, .retAddr 0] [.int (pb_b (gt_sz b))] h 0 0
        refine aw_if_eq (t := 45) (q := 25) C dX9_fault_22 (by decide) rfl (fun c_22 => ?_) (fun c_22 => ?_)
        ·
          refine aw_iconst (v := 0) C dX9_fault_45 (by decide) (q := 46) rfl ?_
          refine aw_istore (ls' := [.ref o, .int fa, .int ki, .int a, .int b, .int ww, .int hh, .int 0]) C dX9_fault_46 (by decide) rfl (q := 48) rfl ?_
          rw [show (0 : Int32) = pb_b (gt_bl ki 8 ∧ gt_sz a ∧ gt_sz b ∧ gt_sz ww ∧ gt_sz hh) from by unfold pb_b; rw [if_neg (fun z => pb_0.mp c_22 z.2.2.1)]]
          exact ml_fault hm K hc hc10 C E
        ·
          refine aw_iload C dX9_fault_25 rfl (q := 27) rfl ?_
          refine csX9_201 (As := [.int ww]) (rest := []) C B dX9_fault_27 (m_isSize G M.2.1 h d ww) rfl rfl (Nat.le_of_ble_eq_true rfl) (by omega) (by omega) (by omega) (q := 30) rfl (fun r9 h9 hr9 => ?_)
          obtain ⟨e9, er9⟩ := hr9
          subst er9; rw [e9]
          show aw G 8 M 30 [.ref o, .int fa, .int ki, .int a, .int b, .int ww, .int hh, .retAddr 0] [.int (pb_b (gt_sz ww))] h 0 0
          refine aw_if_eq (t := 45) (q := 33) C dX9_fault_30 (by decide) rfl (fun c_30 => ?_) (fun c_30 => ?_)
          ·
            refine aw_iconst (v := 0) C dX9_fault_45 (by decide) (q := 46) rfl ?_
            refine aw_istore (ls' := [.ref o, .int fa, .int ki, .int a, .int b, .int ww, .int hh, .int 0]) C dX9_fault_46 (by decide) rfl (q := 48) rfl ?_
            rw [show (0 : Int32) = pb_b (gt_bl ki 8 ∧ gt_sz a ∧ gt_sz b ∧ gt_sz ww ∧ gt_sz hh) from by unfold pb_b; rw [if_neg (fun z => pb_0.mp c_30 z.2.2.2.1)]]
            exact ml_fault hm K hc hc10 C E
          ·
            refine aw_iload C dX9_fault_33 rfl (q := 35) rfl ?_
            refine csX9_201 (As := [.int hh]) (rest := []) C B dX9_fault_35 (m_isSize G M.2.1 h d hh) rfl rfl (Nat.le_of_ble_eq_true rfl) (by omega) (by omega) (by omega) (q := 38) rfl (fun r9 h9 hr9 => ?_)
            obtain ⟨e9, er9⟩ := hr9
            subst er9; rw [e9]
            show aw G 8 M 38 [.ref o, .int fa, .int ki, .int a, .int b, .int ww, .int hh, .retAddr 0] [.int (pb_b (gt_sz hh))] h 0 0
            refine aw_if_eq (t := 45) (q := 41) C dX9_fault_38 (by decide) rfl (fun c_38 => ?_) (fun c_38 => ?_)
            ·
              refine aw_iconst (v := 0) C dX9_fault_45 (by decide) (q := 46) rfl ?_
              refine aw_istore (ls' := [.ref o, .int fa, .int ki, .int a, .int b, .int ww, .int hh, .int 0]) C dX9_fault_46 (by decide) rfl (q := 48) rfl ?_
              rw [show (0 : Int32) = pb_b (gt_bl ki 8 ∧ gt_sz a ∧ gt_sz b ∧ gt_sz ww ∧ gt_sz hh) from by unfold pb_b; rw [if_neg (fun z => pb_0.mp c_38 z.2.2.2.2)]]
              exact ml_fault hm K hc hc10 C E
            ·
              refine aw_iconst (v := 1) C dX9_fault_41 (by decide) (q := 42) rfl ?_
              refine aw_goto (q := 46) C dX9_fault_42 (by decide) ?_
              refine aw_istore (ls' := [.ref o, .int fa, .int ki, .int a, .int b, .int ww, .int hh, .int 1]) C dX9_fault_46 (by decide) rfl (q := 48) rfl ?_
              rw [show (1 : Int32) = pb_b (gt_bl ki 8 ∧ gt_sz a ∧ gt_sz b ∧ gt_sz ww ∧ gt_sz hh) from by unfold pb_b; rw [if_pos ⟨⟨c_1, mo_7.mp c_7⟩, pb_n c_14, pb_n c_22, pb_n c_30, pb_n c_38⟩]]
              exact ml_fault hm K hc hc10 C E
