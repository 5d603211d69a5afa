/-! The reference: small methods -/
set_option maxHeartbeats 4000000 in
set_option maxRecDepth 100000 in
theorem m_isDigit (G : ac_G) (l : Launch) (h : ac_H) (d : Nat) (c : Int32) : ac_Met G l yX9_isDigit cX9_isDigit 1 (some .boolean) d 0 0 [.int c] h (pq h (some (.int (pb_b (¬ c < 48 ∧ ¬ 57 < c))))) := by
  refine ac_of (ls := [.int c]) (by decide +kernel) rfl (Nat.le_of_ble_eq_true rfl) (fun M hl C B E hnm => ?_)
  refine aw_iload_n C dX9_isDigit_0 rfl rfl (q := 1) rfl ?_
  refine aw_bipush (v := 48) C dX9_isDigit_1 (by decide) (q := 3) rfl ?_
  refine aw_icmp_lt (t := 16) (q := 6) C dX9_isDigit_3 (by decide) rfl (fun c_3 => ?_) (fun c_3 => ?_)
  ·
    refine aw_iconst (v := 0) C dX9_isDigit_16 (by decide) (q := 17) rfl ?_
    refine aw_zret C E dX9_isDigit_17 (rfl) (Nat.le_refl _) (Nat.le_refl _) ?_
    exact ⟨rfl, by unfold pb_b; rw [if_neg (fun z => z.1 c_3)]⟩
  ·
    refine aw_iload_n C dX9_isDigit_6 rfl rfl (q := 7) rfl ?_
    refine aw_bipush (v := 57) C dX9_isDigit_7 (by decide) (q := 9) rfl ?_
    refine aw_icmp_gt (t := 16) (q := 12) C dX9_isDigit_9 (by decide) rfl (fun c_9 => ?_) (fun c_9 => ?_)
    ·
      refine aw_iconst (v := 0) C dX9_isDigit_16 (by decide) (q := 17) rfl ?_
      refine aw_zret C E dX9_isDigit_17 (rfl) (Nat.le_refl _) (Nat.le_refl _) ?_
      exact ⟨rfl, by unfold pb_b; rw [if_neg (fun z => z.2 c_9)]⟩
    ·
      refine aw_iconst (v := 1) C dX9_isDigit_12 (by decide) (q := 13) rfl ?_
      refine aw_goto (q := 17) C dX9_isDigit_13 (by decide) ?_
      refine aw_zret C E dX9_isDigit_17 (rfl) (Nat.le_refl _) (Nat.le_refl _) ?_
      exact ⟨rfl, by unfold pb_b; rw [if_pos (⟨c_3, c_9⟩)]⟩
set_option maxHeartbeats 4000000 in
set_option maxRecDepth 100000 in
theorem m_isSize (G : ac_G) (l : Launch) (h : ac_H) (d : Nat) (c : Int32) : ac_Met G l yX9_isSize cX9_isSize 1 (some .boolean) d 0 0 [.int c] h (pq h (some (.int (pb_b (gt_sz c))))) := by
  refine ac_of (ls := [.int c]) (by decide +kernel) rfl (Nat.le_of_ble_eq_true rfl) (fun M hl C B E hnm => ?_)
  refine aw_iload_n C dX9_isSize_0 rfl rfl (q := 1) rfl ?_
  refine aw_if_lt (t := 14) (q := 4) C dX9_isSize_1 (by decide) rfl (fun c_1 => ?_) (fun c_1 => ?_)
  ·
    refine aw_iconst (v := 0) C dX9_isSize_14 (by decide) (q := 15) rfl ?_
    refine aw_zret C E dX9_isSize_15 (rfl) (Nat.le_refl _) (Nat.le_refl _) ?_
    exact ⟨rfl, by unfold pb_b; rw [if_neg (fun z => z.1 c_1)]⟩
  ·
    refine aw_iload_n C dX9_isSize_4 rfl rfl (q := 5) rfl ?_
    refine lcX9_200 C dX9_isSize_5 (q := 7) rfl ?_
    refine aw_icmp_gt (t := 14) (q := 10) C dX9_isSize_7 (by decide) rfl (fun c_7 => ?_) (fun c_7 => ?_)
    ·
      refine aw_iconst (v := 0) C dX9_isSize_14 (by decide) (q := 15) rfl ?_
      refine aw_zret C E dX9_isSize_15 (rfl) (Nat.le_refl _) (Nat.le_refl _) ?_
      exact ⟨rfl, by unfold pb_b; rw [if_neg (fun z => z.2 c_7)]⟩
    ·
      refine aw_iconst (v := 1) C dX9_isSize_10 (by decide) (q := 11) rfl ?_
      refine aw_goto (q := 15) C dX9_isSize_11 (by decide) ?_
      refine aw_zret C E dX9_isSize_15 (rfl) (Nat.le_refl _) (Nat.le_refl _) ?_
      exact ⟨rfl, by unfold pb_b; rw [if_pos (⟨c_1, c_7⟩)]⟩
set_option maxHeartbeats 4000000 in
set_option maxRecDepth 100000 in
theorem m_isGrade (G : ac_G) (l : Launch) (h : ac_H) (d : Nat) (c : Int32) : ac_Met G l yX9_isGrade cX9_isGrade 1 (some .boolean) d 0 0 [.int c] h (pq h (some (.int (pb_b (¬ c < 0 ∧ ¬ 9 < c))))) := by
  refine ac_of (ls := [.int c]) (by decide +kernel) rfl (Nat.le_of_ble_eq_true rfl) (fun M hl C B E hnm => ?_)
  refine aw_iload_n C dX9_isGrade_0 rfl rfl (q := 1) rfl ?_
  refine aw_if_lt (t := 14) (q := 4) C dX9_isGrade_1 (by decide) rfl (fun c_1 => ?_) (fun c_1 => ?_)
  ·
    refine aw_iconst (v := 0) C dX9_isGrade_14 (by decide) (q := 15) rfl ?_
    refine aw_zret C E dX9_isGrade_15 (rfl) (Nat.le_refl _) (Nat.le_refl _) ?_
    exact ⟨rfl, by unfold pb_b; rw [if_neg (fun z => z.1 c_1)]⟩
  ·
    refine aw_iload_n C dX9_isGrade_4 rfl rfl (q := 5) rfl ?_
    refine aw_bipush (v := 9) C dX9_isGrade_5 (by decide) (q := 7) rfl ?_
    refine aw_icmp_gt (t := 14) (q := 10) C dX9_isGrade_7 (by decide) rfl (fun c_7 => ?_) (fun c_7 => ?_)
    ·
      refine aw_iconst (v := 0) C dX9_isGrade_14 (by decide) (q := 15) rfl ?_
      refine aw_zret C E dX9_isGrade_15 (rfl) (Nat.le_refl _) (Nat.le_refl _) ?_
      exact ⟨rfl, by unfold pb_b; rw [if_neg (fun z => z.2 c_7)]⟩
    ·
      refine aw_iconst (v := 1) C dX9_isGrade_10 (by decide) (q := 11) rfl ?_
      refine aw_goto (q := 15) C dX9_isGrade_11 (by decide) ?_
      refine aw_zret C E dX9_isGrade_15 (rfl) (Nat.le_refl _) (Nat.le_refl _) ?_
      exact ⟨rfl, by unfold pb_b; rw [if_pos (⟨c_1, c_7⟩)]⟩
set_option maxHeartbeats 4000000 in
set_option maxRecDepth 100000 in
theorem m_isCompare (G : ac_G) (l : Launch) (h : ac_H) (d : Nat) (c : Int32) : ac_Met G l yX9_isCompare cX9_isCompare 1 (some .boolean) d 0 0 [.int c] h (pq h (some (.int (pb_b (c = 60 ∨ c = 62 ∨ c = 61 ∨ c = 33))))) := by
  refine ac_of (ls := [.int c]) (by decide +kernel) rfl (Nat.le_of_ble_eq_true rfl) (fun M hl C B E hnm => ?_)
  refine aw_iload_n C dX9_isCompare_0 rfl rfl (q := 1) rfl ?_
  refine aw_bipush (v := 60) C dX9_isCompare_1 (by decide) (q := 3) rfl ?_
  refine aw_icmp_eq (t := 24) (q := 6) C dX9_isCompare_3 (by decide) rfl (fun c_3 => ?_) (fun c_3 => ?_)
  ·
    refine aw_iconst (v := 1) C dX9_isCompare_24 (by decide) (q := 25) rfl ?_
    refine aw_goto (q := 29) C dX9_isCompare_25 (by decide) ?_
    refine aw_zret C E dX9_isCompare_29 (rfl) (Nat.le_refl _) (Nat.le_refl _) ?_
    exact ⟨rfl, by unfold pb_b; rw [if_pos (Or.inl c_3)]⟩
  ·
    refine aw_iload_n C dX9_isCompare_6 rfl rfl (q := 7) rfl ?_
    refine aw_bipush (v := 62) C dX9_isCompare_7 (by decide) (q := 9) rfl ?_
    refine aw_icmp_eq (t := 24) (q := 12) C dX9_isCompare_9 (by decide) rfl (fun c_9 => ?_) (fun c_9 => ?_)
    ·
      refine aw_iconst (v := 1) C dX9_isCompare_24 (by decide) (q := 25) rfl ?_
      refine aw_goto (q := 29) C dX9_isCompare_25 (by decide) ?_
      refine aw_zret C E dX9_isCompare_29 (rfl) (Nat.le_refl _) (Nat.le_refl _) ?_
      exact ⟨rfl, by unfold pb_b; rw [if_pos (Or.inr (Or.inl c_9))]⟩
    ·
      refine aw_iload_n C dX9_isCompare_12 rfl rfl (q := 13) rfl ?_
      refine aw_bipush (v := 61) C dX9_isCompare_13 (by decide) (q := 15) rfl ?_
      refine aw_icmp_eq (t := 24) (q := 18) C dX9_isCompare_15 (by decide) rfl (fun c_15 => ?_) (fun c_15 => ?_)
      ·
        refine aw_iconst (v := 1) C dX9_isCompare_24 (by decide) (q := 25) rfl ?_
        refine aw_goto (q := 29) C dX9_isCompare_25 (by decide) ?_
        refine aw_zret C E dX9_isCompare_29 (rfl) (Nat.le_refl _) (Nat.le_refl _) ?_
        exact ⟨rfl, by unfold pb_b; rw [if_pos (Or.inr (Or.inr (Or.inl c_15)))]⟩
      ·
        refine aw_iload_n C dX9_isCompare_18 rfl rfl (q := 19) rfl ?_
        refine aw_bipush (v := 33) C dX9_isCompare_19 (by decide) (q := 21) rfl ?_
        refine aw_icmp_ne (t := 28) (q := 24) C dX9_isCompare_21 (by decide) rfl (fun c_21 => ?_) (fun c_21 => ?_)
        ·
          refine aw_iconst (v := 0) C dX9_isCompare_28 (by decide) (q := 29) rfl ?_
          refine aw_zret C E dX9_isCompare_29 (rfl) (Nat.le_refl _) (Nat.le_refl _) ?_
          exact ⟨rfl, by unfold pb_b; rw [if_neg (by rintro (z | z | z | z); exact c_3 z; exact c_9 z; exact c_15 z; exact c_21 z)]⟩
        ·
          refine aw_iconst (v := 1) C dX9_isCompare_24 (by decide) (q := 25) rfl ?_
          refine aw_goto (q := 29) C dX9_isCompare_25 (by decide) ?_
          refine aw_zret C E dX9_isCompare_29 (rfl) (Nat.le_refl _) (Nat.le_refl _) ?_
          exact ⟨rfl, by unfold pb_b; rw [if_pos (Or.inr (Or.inr (Or.inr c_21)))]⟩
set_option maxHeartbeats 4000000 in
set_option maxRecDepth 100000 in
theorem m_has (G : ac_G) (l : Launch) (h : ac_H) (d : Nat) (e : Int32) (f : Int32) : ac_Met G l yX9_has cX9_has 2 (some .boolean) d 0 0 [.int e, .int f] h (pq h (some (.int (pb_b (e >>> (f &&& 31) &&& 1 = 1))))) := by
  refine ac_of (ls := [.int e, .int f]) (by decide +kernel) rfl (Nat.le_of_ble_eq_true rfl) (fun M hl C B E hnm => ?_)
  refine aw_iload_n C dX9_has_0 rfl rfl (q := 1) rfl ?_
  refine aw_iload_n C dX9_has_1 rfl rfl (q := 2) rfl ?_
  refine aw_ishr C dX9_has_2 (q := 3) rfl ?_
  refine aw_iconst (v := 1) C dX9_has_3 (by decide) (q := 4) rfl ?_
  refine aw_iand C dX9_has_4 (q := 5) rfl ?_
  refine aw_iconst (v := 1) C dX9_has_5 (by decide) (q := 6) rfl ?_
  refine aw_icmp_ne (t := 13) (q := 9) C dX9_has_6 (by decide) rfl (fun c_6 => ?_) (fun c_6 => ?_)
  ·
    refine aw_iconst (v := 0) C dX9_has_13 (by decide) (q := 14) rfl ?_
    refine aw_zret C E dX9_has_14 (rfl) (Nat.le_refl _) (Nat.le_refl _) ?_
    exact ⟨rfl, by unfold pb_b; rw [if_neg (c_6)]⟩
  ·
    refine aw_iconst (v := 1) C dX9_has_9 (by decide) (q := 10) rfl ?_
    refine aw_goto (q := 14) C dX9_has_10 (by decide) ?_
    refine aw_zret C E dX9_has_14 (rfl) (Nat.le_refl _) (Nat.le_refl _) ?_
    exact ⟨rfl, by unfold pb_b; rw [if_pos (c_6)]⟩
def mo_here (s : md_S) (a n : Nat) : Int32 := if a < n then s.2.1 1 a else -1
def mo_fail (s : md_S) : md_S := (upd s.1 4 (if s.1 4 < 0 then s.1 3 else s.1 4), s.2.1, s.2.2)
/-- emit, at step k of the draft -/
def mo_emit (s : md_S) (k : Nat) (g a : Int32) : md_S := (s.1, va_up (va_up (va_up s.2.1 5 (upd (s.2.1 5) (2400 + k) g)) 6 (upd (s.2.1 6) (2400 + k) a)) 7 (upd (s.2.1 7) 6 (nI (k + 1))), s.2.2)
def mo_push (s : md_S) (w : Nat) (g a : Int32) : md_S := (upd s.1 14 (nI (w + 1)), va_up (va_up s.2.1 12 (upd (s.2.1 12) w g)) 13 (upd (s.2.1 13) w a), s.2.2)
set_option maxHeartbeats 4000000 in
set_option maxRecDepth 100000 in
theorem m_here (G : ac_G) (l : Launch) (o : Nat) (md : Nat → Nat) (hm : md_inj md) (h : ac_H) (d : Nat) (s : md_S) (K : md_ok h o md s) (a n : Nat) (ha : s.1 3 = nI a) (hn : s.1 2 = nI n) (hal : a < 100000) (hn3 : n ≤ 300) : ac_Met G l yX9_here cX9_here 1 (some .int) d 0 0 [.ref o] h (pq h (some (.int (mo_here s a n)))) := by
  refine ac_of (ls := [.ref o]) (by decide +kernel) rfl (Nat.le_of_ble_eq_true rfl) (fun M hl C B E hnm => ?_)
  refine aw_aload_n C dX9_here_0 rfl rfl (q := 1) rfl ?_
  refine gfX9_96_9 (v := .int (s.1 3)) C dX9_here_1 K.1 rfl (q := 4) rfl ?_
  refine aw_aload_n C dX9_here_4 rfl rfl (q := 5) rfl ?_
  refine gfX9_93_9 (v := .int (s.1 2)) C dX9_here_5 K.1 rfl (q := 8) rfl ?_
  refine aw_icmp_ge (t := 23) (q := 11) C dX9_here_8 (by decide) rfl (fun c_8 => ?_) (fun c_8 => ?_)
  ·
    refine aw_iconst (v := (-1)) C dX9_here_23 (by decide) (q := 24) rfl ?_
    refine aw_iret C E dX9_here_24 (Nat.le_refl _) (Nat.le_refl _) ?_
    exact ⟨rfl, by unfold mo_here; rw [if_neg (by rw [ha, hn] at c_8; have := ni_le a n rfl rfl (by omega) (by omega) c_8; omega)]⟩
  ·
    have hl9 : a < n := by rw [ha, hn] at c_8; exact ni_nle a n rfl rfl (by omega) (by omega) c_8
    refine aw_aload_n C dX9_here_11 rfl rfl (q := 12) rfl ?_
    refine gfX9_7_9 (v := .ref (md 1)) C dX9_here_12 K.1 rfl (q := 15) rfl ?_
    refine aw_aload_n C dX9_here_15 rfl rfl (q := 16) rfl ?_
    refine gfX9_96_9 (v := .int (s.1 3)) C dX9_here_16 K.1 rfl (q := 19) rfl ?_
    refine ay_iald (N := 300) (f := s.2.1 1) (j := a) C dX9_here_19 (K.2.1 1 (by decide)) (by rw [ha]; exact vp_in_nI (by omega) (by decide)) (by rw [ha]; exact nI_clamp (by omega)) (q := 20) rfl ?_
    refine aw_goto (q := 24) C dX9_here_20 (by decide) ?_
    refine aw_iret C E dX9_here_24 (Nat.le_refl _) (Nat.le_refl _) ?_
    exact ⟨rfl, by unfold mo_here; rw [if_pos hl9]⟩
set_option maxHeartbeats 4000000 in
set_option maxRecDepth 100000 in
theorem m_fail (G : ac_G) (l : Launch) (o : Nat) (md : Nat → Nat) (hm : md_inj md) (h : ac_H) (d : Nat) (s : md_S) (K : md_ok h o md s) : ac_Met G l yX9_fail cX9_fail 1 none d 0 0 [.ref o] h (fun r9 h9 => r9 = none ∧ md_ok h9 o md (mo_fail s) ∧ kp h h9 (md_L o md)) := by
  refine ac_of (ls := [.ref o]) (by decide +kernel) rfl (Nat.le_of_ble_eq_true rfl) (fun M hl C B E hnm => ?_)
  refine aw_aload_n C dX9_fail_0 rfl rfl (q := 1) rfl ?_
  refine aw_aload_n C dX9_fail_1 rfl rfl (q := 2) rfl ?_
  refine gfX9_99_9 (v := .int (s.1 4)) C dX9_fail_2 K.1 rfl (q := 5) rfl ?_
  refine aw_if_ge (t := 15) (q := 8) C dX9_fail_5 (by decide) rfl (fun c_5 => ?_) (fun c_5 => ?_)
  ·
    refine aw_aload_n C dX9_fail_15 rfl rfl (q := 16) rfl ?_
    refine gfX9_99_9 (v := .int (s.1 4)) C dX9_fail_16 K.1 rfl (q := 19) rfl ?_
    refine pfX9_99_9 C dX9_fail_19 K.1 rfl rfl (Nat.le_of_ble_eq_true rfl) (q := 22) rfl ?_
    show aw G 1 M 22 [.ref o] [] (ac_up h o (.inr (9, md_fs md ((upd s.1 4 (s.1 4), s.2.1, s.2.2).1)))) 0 0
    obtain ⟨h_1, eh_1⟩ : ∃ z9, z9 = ac_up h o (.inr (9, md_fs md ((upd s.1 4 (s.1 4), s.2.1, s.2.2).1))) := ⟨_, rfl⟩
    rw [← eh_1]
    have kpx_4 : kp h h_1 [o] := by rw [eh_1]; exact kp_up (kp_cons o kp_rf) _ _ (by simp)
    have K_2 : md_ok h_1 o md (upd s.1 4 (s.1 4), s.2.1, s.2.2) := md_J (s := (s.1, s.2.1, s.2.2)) K (by rw [eh_1]; exact ac_up_s _ _ _) kpx_4
    have kq_3 : kp h h_1 (md_L o md) := kp_mono kpx_4 md_s0
    refine aw_vret C E dX9_fail_22 (Nat.le_refl _) (Nat.le_refl _) ?_
    rw [show mo_fail s = (upd s.1 4 (s.1 4), s.2.1, s.2.2) from by unfold mo_fail; rw [if_neg (Int32.not_lt.mpr c_5)]]
    exact ⟨rfl, K_2, kq_3⟩
  ·
    refine aw_aload_n C dX9_fail_8 rfl rfl (q := 9) rfl ?_
    refine gfX9_96_9 (v := .int (s.1 3)) C dX9_fail_9 K.1 rfl (q := 12) rfl ?_
    refine aw_goto (q := 19) C dX9_fail_12 (by decide) ?_
    refine pfX9_99_9 C dX9_fail_19 K.1 rfl rfl (Nat.le_of_ble_eq_true rfl) (q := 22) rfl ?_
    show aw G 1 M 22 [.ref o] [] (ac_up h o (.inr (9, md_fs md ((upd s.1 4 (s.1 3), s.2.1, s.2.2).1)))) 0 0
    obtain ⟨h_5, eh_5⟩ : ∃ z9, z9 = ac_up h o (.inr (9, md_fs md ((upd s.1 4 (s.1 3), s.2.1, s.2.2).1))) := ⟨_, rfl⟩
    rw [← eh_5]
    have kpx_8 : kp h h_5 [o] := by rw [eh_5]; exact kp_up (kp_cons o kp_rf) _ _ (by simp)
    have K_6 : md_ok h_5 o md (upd s.1 4 (s.1 3), s.2.1, s.2.2) := md_J (s := (s.1, s.2.1, s.2.2)) K (by rw [eh_5]; exact ac_up_s _ _ _) kpx_8
    have kq_7 : kp h h_5 (md_L o md) := kp_mono kpx_8 md_s0
    refine aw_vret C E dX9_fail_22 (Nat.le_refl _) (Nat.le_refl _) ?_
    rw [show mo_fail s = (upd s.1 4 (s.1 3), s.2.1, s.2.2) from by unfold mo_fail; rw [if_pos (Int32.not_le.mp c_5)]]
    exact ⟨rfl, K_6, kq_7⟩
set_option maxHeartbeats 4000000 in
set_option maxRecDepth 100000 in
theorem m_emit (G : ac_G) (l : Launch) (o : Nat) (md : Nat → Nat) (hm : md_inj md) (h : ac_H) (d : Nat) (s : md_S) (K : md_ok h o md s) (k : Nat) (hk : s.2.1 7 6 = nI k) (hk4 : k < 400) (g a : Int32) : ac_Met G l yX9_emit cX9_emit 3 none d 0 0 [.ref o, .int g, .int a] h (fun r9 h9 => r9 = none ∧ md_ok h9 o md (mo_emit s k g a) ∧ kp h h9 (md_L o md)) := by
  refine ac_of (ls := [.ref o, .int g, .int a]) (by decide +kernel) rfl (Nat.le_of_ble_eq_true rfl) (fun M hl C B E hnm => ?_)
  refine aw_aload_n C dX9_emit_0 rfl rfl (q := 1) rfl ?_
  refine gfX9_13_9 (v := .ref (md 5)) C dX9_emit_1 K.1 rfl (q := 4) rfl ?_
  refine aw_sipush (v := 2400) C dX9_emit_4 (by decide) (q := 7) rfl ?_
  refine aw_aload_n C dX9_emit_7 rfl rfl (q := 8) rfl ?_
  refine gfX9_19_9 (v := .ref (md 7)) C dX9_emit_8 K.1 rfl (q := 11) rfl ?_
  refine aw_bipush (v := 6) C dX9_emit_11 (by decide) (q := 13) rfl ?_
  refine ay_iald (N := 7) (f := s.2.1 7) (j := 6) C dX9_emit_13 (K.2.1 7 (by decide)) (vp_in_nI (by decide) (by decide)) (rfl) (q := 14) rfl ?_
  refine aw_iadd C dX9_emit_14 (q := 15) rfl ?_
  refine aw_iload_n C dX9_emit_15 rfl rfl (q := 16) rfl ?_
  refine ay_iast (N := 2800) (f := s.2.1 5) (j := 2400 + k) C dX9_emit_16 (K.2.1 5 (by decide)) (by rw [hk, show (2400 : Int32) = nI 2400 from rfl, nI_add]; exact vp_in_nI (by omega) (by decide)) (by rw [hk, show (2400 : Int32) = nI 2400 from rfl, nI_add]; exact nI_clamp (by omega)) (q := 17) rfl ?_
  show aw G 3 M 17 [.ref o, .int g, .int a] [] (ac_up h (md 5) (.inl (1, 2800, .inl (upd (s.2.1 5) (2400 + k) g)))) 0 0
  obtain ⟨h_1, eh_1⟩ : ∃ z9, z9 = ac_up h (md 5) (.inl (1, 2800, .inl (upd (s.2.1 5) (2400 + k) g))) := ⟨_, rfl⟩
  rw [← eh_1]
  have kpx_4 : kp h h_1 [md 5] := by rw [eh_1]; exact kp_up (kp_cons _ kp_rf) _ _ (by simp)
  have K_2 : md_ok h_1 o md (s.1, va_up s.2.1 5 (upd (s.2.1 5) (2400 + k) g), s.2.2) := md_A (s := (s.1, s.2.1, s.2.2)) hm K (j := 5) (by decide) (by rw [eh_1]; exact ac_up_s _ _ _) kpx_4
  have kq_3 : kp h h_1 (md_L o md) := kp_mono kpx_4 (md_sj (by decide))
  refine aw_aload_n C dX9_emit_17 rfl rfl (q := 18) rfl ?_
  refine gfX9_16_9 (v := .ref (md 6)) C dX9_emit_18 K_2.1 rfl (q := 21) rfl ?_
  refine aw_sipush (v := 2400) C dX9_emit_21 (by decide) (q := 24) rfl ?_
  refine aw_aload_n C dX9_emit_24 rfl rfl (q := 25) rfl ?_
  refine gfX9_19_9 (v := .ref (md 7)) C dX9_emit_25 K_2.1 rfl (q := 28) rfl ?_
  refine aw_bipush (v := 6) C dX9_emit_28 (by decide) (q := 30) rfl ?_
  refine ay_iald (N := 7) (f := s.2.1 7) (j := 6) C dX9_emit_30 (K_2.2.1 7 (by decide)) (vp_in_nI (by decide) (by decide)) (rfl) (q := 31) rfl ?_
  refine aw_iadd C dX9_emit_31 (q := 32) rfl ?_
  refine aw_iload_n C dX9_emit_32 rfl rfl (q := 33) rfl ?_
  refine ay_iast (N := 2800) (f := s.2.1 6) (j := 2400 + k) C dX9_emit_33 (K_2.2.1 6 (by decide)) (by rw [hk, show (2400 : Int32) = nI 2400 from rfl, nI_add]; exact vp_in_nI (by omega) (by decide)) (by rw [hk, show (2400 : Int32) = nI 2400 from rfl, nI_add]; exact nI_clamp (by omega)) (q := 34) rfl ?_
  show aw G 3 M 34 [.ref o, .int g, .int a] [] (ac_up h_1 (md 6) (.inl (1, 2800, .inl (upd (s.2.1 6) (2400 + k) a)))) 0 0
  obtain ⟨h_5, eh_5⟩ : ∃ z9, z9 = ac_up h_1 (md 6) (.inl (1, 2800, .inl (upd (s.2.1 6) (2400 + k) a))) := ⟨_, rfl⟩
  rw [← eh_5]
  have kpx_8 : kp h_1 h_5 [md 6] := by rw [eh_5]; exact kp_up (kp_cons _ kp_rf) _ _ (by simp)
  have K_6 : md_ok h_5 o md (s.1, va_up (va_up s.2.1 5 (upd (s.2.1 5) (2400 + k) g)) 6 (upd (s.2.1 6) (2400 + k) a), s.2.2) := md_A (s := (s.1, va_up s.2.1 5 (upd (s.2.1 5) (2400 + k) g), s.2.2)) hm K_2 (j := 6) (by decide) (by rw [eh_5]; exact ac_up_s _ _ _) kpx_8
  have kq_7 : kp h h_5 (md_L o md) := kp_in kq_3 kpx_8 (md_sj (by decide))
  refine aw_aload_n C dX9_emit_34 rfl rfl (q := 35) rfl ?_
  refine gfX9_19_9 (v := .ref (md 7)) C dX9_emit_35 K_6.1 rfl (q := 38) rfl ?_
  refine aw_bipush (v := 6) C dX9_emit_38 (by decide) (q := 40) rfl ?_
  refine aw_dup2_11 C dX9_emit_40 rfl rfl (q := 41) rfl ?_
  refine ay_iald (N := 7) (f := s.2.1 7) (j := 6) C dX9_emit_41 (K_6.2.1 7 (by decide)) (vp_in_nI (by decide) (by decide)) (rfl) (q := 42) rfl ?_
  refine aw_iconst (v := 1) C dX9_emit_42 (by decide) (q := 43) rfl ?_
  refine aw_iadd C dX9_emit_43 (q := 44) rfl ?_
  rw [show s.2.1 7 6 + 1 = nI (k + 1) from by rw [hk]; exact nI_1 _]
  refine ay_iast (N := 7) (f := s.2.1 7) (j := 6) C dX9_emit_44 (K_6.2.1 7 (by decide)) (vp_in_nI (by decide) (by decide)) (rfl) (q := 45) rfl ?_
  show aw G 3 M 45 [.ref o, .int g, .int a] [] (ac_up h_5 (md 7) (.inl (1, 7, .inl (upd (s.2.1 7) 6 (nI (k + 1)))))) 0 0
  obtain ⟨h_9, eh_9⟩ : ∃ z9, z9 = ac_up h_5 (md 7) (.inl (1, 7, .inl (upd (s.2.1 7) 6 (nI (k + 1))))) := ⟨_, rfl⟩
  rw [← eh_9]
  have kpx_12 : kp h_5 h_9 [md 7] := by rw [eh_9]; exact kp_up (kp_cons _ kp_rf) _ _ (by simp)
  have K_10 : md_ok h_9 o md (s.1, va_up (va_up (va_up s.2.1 5 (upd (s.2.1 5) (2400 + k) g)) 6 (upd (s.2.1 6) (2400 + k) a)) 7 (upd (s.2.1 7) 6 (nI (k + 1))), s.2.2) := md_A (s := (s.1, va_up (va_up s.2.1 5 (upd (s.2.1 5) (2400 + k) g)) 6 (upd (s.2.1 6) (2400 + k) a), s.2.2)) hm K_6 (j := 7) (by decide) (by rw [eh_9]; exact ac_up_s _ _ _) kpx_12
  have kq_11 : kp h h_9 (md_L o md) := kp_in kq_7 kpx_12 (md_sj (by decide))
  refine aw_vret C E dX9_emit_45 (Nat.le_refl _) (Nat.le_refl _) ?_
  exact ⟨rfl, K_10, kq_11⟩
set_option maxHeartbeats 4000000 in
set_option maxRecDepth 100000 in
theorem m_push (G : ac_G) (l : Launch) (o : Nat) (md : Nat → Nat) (hm : md_inj md) (h : ac_H) (d : Nat) (s : md_S) (K : md_ok h o md s) (w : Nat) (hw : s.1 14 = nI w) (hw3 : w < 320) (g a : Int32) : ac_Met G l yX9_push cX9_push 3 none d 0 0 [.ref o, .int g, .int a] h (fun r9 h9 => r9 = none ∧ md_ok h9 o md (mo_push s w g a) ∧ kp h h9 (md_L o md)) := by
  refine ac_of (ls := [.ref o, .int g, .int a]) (by decide +kernel) rfl (Nat.le_of_ble_eq_true rfl) (fun M hl C B E hnm => ?_)
  refine aw_aload_n C dX9_push_0 rfl rfl (q := 1) rfl ?_
  refine gfX9_31_9 (v := .ref (md 12)) C dX9_push_1 K.1 rfl (q := 4) rfl ?_
  refine aw_aload_n C dX9_push_4 rfl rfl (q := 5) rfl ?_
  refine gfX9_102_9 (v := .int (s.1 14)) C dX9_push_5 K.1 rfl (q := 8) rfl ?_
  refine aw_iload_n C dX9_push_8 rfl rfl (q := 9) rfl ?_
  refine ay_iast (N := 320) (f := s.2.1 12) (j := w) C dX9_push_9 (K.2.1 12 (by decide)) (by rw [hw]; exact vp_in_nI (by omega) (by decide)) (by rw [hw]; exact nI_clamp (by omega)) (q := 10) rfl ?_
  show aw G 3 M 10 [.ref o, .int g, .int a] [] (ac_up h (md 12) (.inl (1, 320, .inl (upd (s.2.1 12) w g)))) 0 0
  obtain ⟨h_1, eh_1⟩ : ∃ z9, z9 = ac_up h (md 12) (.inl (1, 320, .inl (upd (s.2.1 12) w g))) := ⟨_, rfl⟩
  rw [← eh_1]
  have kpx_4 : kp h h_1 [md 12] := by rw [eh_1]; exact kp_up (kp_cons _ kp_rf) _ _ (by simp)
  have K_2 : md_ok h_1 o md (s.1, va_up s.2.1 12 (upd (s.2.1 12) w g), s.2.2) := md_A (s := (s.1, s.2.1, s.2.2)) hm K (j := 12) (by decide) (by rw [eh_1]; exact ac_up_s _ _ _) kpx_4
  have kq_3 : kp h h_1 (md_L o md) := kp_mono kpx_4 (md_sj (by decide))
  refine aw_aload_n C dX9_push_10 rfl rfl (q := 11) rfl ?_
  refine gfX9_34_9 (v := .ref (md 13)) C dX9_push_11 K_2.1 rfl (q := 14) rfl ?_
  refine aw_aload_n C dX9_push_14 rfl rfl (q := 15) rfl ?_
  refine gfX9_102_9 (v := .int (s.1 14)) C dX9_push_15 K_2.1 rfl (q := 18) rfl ?_
  refine aw_iload_n C dX9_push_18 rfl rfl (q := 19) rfl ?_
  refine ay_iast (N := 320) (f := s.2.1 13) (j := w) C dX9_push_19 (K_2.2.1 13 (by decide)) (by rw [hw]; exact vp_in_nI (by omega) (by decide)) (by rw [hw]; exact nI_clamp (by omega)) (q := 20) rfl ?_
  show aw G 3 M 20 [.ref o, .int g, .int a] [] (ac_up h_1 (md 13) (.inl (1, 320, .inl (upd (s.2.1 13) w a)))) 0 0
  obtain ⟨h_5, eh_5⟩ : ∃ z9, z9 = ac_up h_1 (md 13) (.inl (1, 320, .inl (upd (s.2.1 13) w a))) := ⟨_, rfl⟩
  rw [← eh_5]
  have kpx_8 : kp h_1 h_5 [md 13] := by rw [eh_5]; exact kp_up (kp_cons _ kp_rf) _ _ (by simp)
  have K_6 : md_ok h_5 o md (s.1, va_up (va_up s.2.1 12 (upd (s.2.1 12) w g)) 13 (upd (s.2.1 13) w a), s.2.2) := md_A (s := (s.1, va_up s.2.1 12 (upd (s.2.1 12) w g), s.2.2)) hm K_2 (j := 13) (by decide) (by rw [eh_5]; exact ac_up_s _ _ _) kpx_8
  have kq_7 : kp h h_5 (md_L o md) := kp_in kq_3 kpx_8 (md_sj (by decide))
  refine aw_aload_n C dX9_push_20 rfl rfl (q := 21) rfl ?_
  refine aw_dup C dX9_push_21 rfl (q := 22) rfl ?_
  refine gfX9_102_9 (v := .int (s.1 14)) C dX9_push_22 K_6.1 rfl (q := 25) rfl ?_
  refine aw_iconst (v := 1) C dX9_push_25 (by decide) (q := 26) rfl ?_
  refine aw_iadd C dX9_push_26 (q := 27) rfl ?_
  rw [show s.1 14 + 1 = nI (w + 1) from by rw [hw]; exact nI_1 _]
  refine pfX9_102_9 C dX9_push_27 K_6.1 rfl rfl (Nat.le_of_ble_eq_true rfl) (q := 30) rfl ?_
  show aw G 3 M 30 [.ref o, .int g, .int a] [] (ac_up h_5 o (.inr (9, md_fs md ((upd s.1 14 (nI (w + 1)), va_up (va_up s.2.1 12 (upd (s.2.1 12) w g)) 13 (upd (s.2.1 13) w a), s.2.2).1)))) 0 0
  obtain ⟨h_9, eh_9⟩ : ∃ z9, z9 = ac_up h_5 o (.inr (9, md_fs md ((upd s.1 14 (nI (w + 1)), va_up (va_up s.2.1 12 (upd (s.2.1 12) w g)) 13 (upd (s.2.1 13) w a), s.2.2).1))) := ⟨_, rfl⟩
  rw [← eh_9]
  have kpx_12 : kp h_5 h_9 [o] := by rw [eh_9]; exact kp_up (kp_cons o kp_rf) _ _ (by simp)
  have K_10 : md_ok h_9 o md (upd s.1 14 (nI (w + 1)), va_up (va_up s.2.1 12 (upd (s.2.1 12) w g)) 13 (upd (s.2.1 13) w a), s.2.2) := md_J (s := (s.1, va_up (va_up s.2.1 12 (upd (s.2.1 12) w g)) 13 (upd (s.2.1 13) w a), s.2.2)) K_6 (by rw [eh_9]; exact ac_up_s _ _ _) kpx_12
  have kq_11 : kp h h_9 (md_L o md) := kp_in kq_7 kpx_12 md_s0
  refine aw_vret C E dX9_push_30 (Nat.le_refl _) (Nat.le_refl _) ?_
  exact ⟨rfl, K_10, kq_11⟩
