/-! The reference: why, open -/
theorem mo_3 {g : Int32} : g ≤ 2 ↔ ¬ 3 ≤ g := by
  rw [Int32.not_le, Int32.le_iff_toInt_le, Int32.lt_iff_toInt_lt, show Int32.toInt 2 = 2 from rfl, show Int32.toInt 3 = 3 from rfl]
  omega
set_option maxHeartbeats 4000000 in
set_option maxRecDepth 100000 in
theorem m_why1 (G : ac_G) (l : Launch) (o : Nat) (md : Nat → Nat) (hm : md_inj md) (h : ac_H) (d : Nat) (s : md_S) (K : md_ok h o md s) (hr : s.1 31 = 0) (g k : Int32) : ac_Met G l yX9_why cX9_why 5 (some .int) d 0 0 [.ref o, .int g, .int k] h (fun r9 h9 => r9 = some (.int (0)) ∧ md_ok h9 o md (upd s.1 0 1, s.2.1, s.2.2) ∧ kp h h9 (md_L o md)) := by
  refine ac_of (ls := [.ref o, .int g, .int k, .retAddr 0, .retAddr 0]) (by decide +kernel) rfl (Nat.le_of_ble_eq_true rfl) (fun M hl C B E hnm => ?_)
  refine aw_aload_n C dX9_why_0 rfl rfl (q := 1) rfl ?_
  refine aw_aload_n C dX9_why_1 rfl rfl (q := 2) rfl ?_
  refine gfX9_267_9 (v := .int (s.1 31)) C dX9_why_2 K.1 rfl (q := 5) rfl ?_
  refine aw_if_ne (t := 12) (q := 8) C dX9_why_5 (by decide) rfl (fun c_5 => absurd c_5 (fun z => z hr)) (fun c_5 => ?_)
  refine aw_iconst (v := 1) C dX9_why_8 (by decide) (q := 9) rfl ?_
  refine aw_goto (q := 28) C dX9_why_9 (by decide) ?_
  refine pfX9_89_9 C dX9_why_28 K.1 rfl rfl (Nat.le_of_ble_eq_true rfl) (q := 31) rfl ?_
  show aw G 5 M 31 [.ref o, .int g, .int k, .retAddr 0, .retAddr 0] [] (ac_up h o (.inr (9, md_fs md ((upd s.1 0 1, s.2.1, s.2.2).1)))) 0 0
  obtain ⟨h_1, eh_1⟩ : ∃ z9, z9 = ac_up h o (.inr (9, md_fs md ((upd s.1 0 1, s.2.1, s.2.2).1))) := ⟨_, rfl⟩
  rw [← eh_1]
  have kpx_4 : kp h h_1 [o] := by rw [eh_1]; exact kp_up (kp_cons o kp_rf) _ _ (by simp)
  have K_2 : md_ok h_1 o md (upd s.1 0 1, s.2.1, s.2.2) := md_J (s := (s.1, s.2.1, s.2.2)) K (by rw [eh_1]; exact ac_up_s _ _ _) kpx_4
  have kq_3 : kp h h_1 (md_L o md) := kp_mono kpx_4 md_s0
  refine aw_iload_n C dX9_why_31 rfl rfl (q := 32) rfl ?_
  refine aw_istore_n (ls' := [.ref o, .int g, .int k, .int k, .retAddr 0]) C dX9_why_32 rfl (by decide) rfl (q := 33) rfl ?_
  refine aw_iconst (v := 0) C dX9_why_33 (by decide) (q := 34) rfl ?_
  refine aw_istore (ls' := [.ref o, .int g, .int k, .int k, .int 0]) C dX9_why_34 (by decide) rfl (q := 36) rfl ?_
  refine aw_aload_n C dX9_why_36 rfl rfl (q := 37) rfl ?_
  refine gfX9_89_9 (v := .int 1) C dX9_why_37 K_2.1 rfl (q := 40) rfl ?_
  refine aw_if_ne (t := 87) (q := 43) C dX9_why_40 (by decide) rfl (fun c_40 => ?_) (fun c_40 => absurd c_40 (by decide))
  refine aw_aload_n C dX9_why_87 rfl rfl (q := 88) rfl ?_
  refine gfX9_89_9 (v := .int 1) C dX9_why_88 K_2.1 rfl (q := 91) rfl ?_
  refine aw_if_le (t := 98) (q := 94) C dX9_why_91 (by decide) rfl (fun c_91 => absurd c_91 (by decide)) (fun c_91 => ?_)
  refine aw_iconst (v := 0) C dX9_why_94 (by decide) (q := 95) rfl ?_
  refine aw_goto (q := 99) C dX9_why_95 (by decide) ?_
  refine aw_iret C E dX9_why_99 (Nat.le_refl _) (Nat.le_refl _) ?_
  exact ⟨rfl, K_2, kq_3⟩
set_option maxHeartbeats 4000000 in
set_option maxRecDepth 100000 in
theorem m_why2 (G : ac_G) (l : Launch) (o : Nat) (md : Nat → Nat) (hm : md_inj md) (h : ac_H) (d : Nat) (s : md_S) (K : md_ok h o md s) (hr : ¬ s.1 31 = 0) (g k : Int32) (hk : ¬ (gt_bl g 10 ∧ ¬ k < 0)) : ac_Met G l yX9_why cX9_why 5 (some .int) (d + 1) 0 0 [.ref o, .int g, .int k] h (fun r9 h9 => r9 = some (.int (0)) ∧ md_ok h9 o md (upd s.1 0 2, s.2.1, s.2.2) ∧ kp h h9 (md_L o md)) := by
  refine ac_of (ls := [.ref o, .int g, .int k, .retAddr 0, .retAddr 0]) (by decide +kernel) rfl (Nat.le_of_ble_eq_true rfl) (fun M hl C B E hnm => ?_)
  refine aw_aload_n C dX9_why_0 rfl rfl (q := 1) rfl ?_
  refine aw_aload_n C dX9_why_1 rfl rfl (q := 2) rfl ?_
  refine gfX9_267_9 (v := .int (s.1 31)) C dX9_why_2 K.1 rfl (q := 5) rfl ?_
  refine aw_if_ne (t := 12) (q := 8) C dX9_why_5 (by decide) rfl (fun c_5 => ?_) (fun c_5 => absurd c_5 (hr))
  refine aw_iload_n C dX9_why_12 rfl rfl (q := 13) rfl ?_
  refine csX9_276 (As := [.int g]) (rest := [.ref o]) C B dX9_why_13 (m_isGrade G M.2.1 h d g) rfl rfl (Nat.le_of_ble_eq_true rfl) (by omega) (by omega) (by omega) (q := 16) rfl (fun r9 h9 hr9 => ?_)
  obtain ⟨e9, er9⟩ := hr9
  subst er9; rw [e9]
  show aw G 5 M 16 [.ref o, .int g, .int k, .retAddr 0, .retAddr 0] [.int (pb_b (¬ g < 0 ∧ ¬ 9 < g)), .ref o] h 0 0
  refine aw_if_eq (t := 23) (q := 19) C dX9_why_16 (by decide) rfl (fun c_16 => ?_) (fun c_16 => ?_)
  ·
    refine aw_iconst (v := 2) C dX9_why_23 (by decide) (q := 24) rfl ?_
    refine aw_goto (q := 28) C dX9_why_24 (by decide) ?_
    refine pfX9_89_9 C dX9_why_28 K.1 rfl rfl (Nat.le_of_ble_eq_true rfl) (q := 31) rfl ?_
    show aw G 5 M 31 [.ref o, .int g, .int k, .retAddr 0, .retAddr 0] [] (ac_up h o (.inr (9, md_fs md ((upd s.1 0 2, s.2.1, s.2.2).1)))) 0 0
    obtain ⟨h_1, eh_1⟩ : ∃ z9, z9 = ac_up h o (.inr (9, md_fs md ((upd s.1 0 2, s.2.1, s.2.2).1))) := ⟨_, rfl⟩
    rw [← eh_1]
    have kpx_4 : kp h h_1 [o] := by rw [eh_1]; exact kp_up (kp_cons o kp_rf) _ _ (by simp)
    have K_2 : md_ok h_1 o md (upd s.1 0 2, s.2.1, s.2.2) := md_J (s := (s.1, s.2.1, s.2.2)) K (by rw [eh_1]; exact ac_up_s _ _ _) kpx_4
    have kq_3 : kp h h_1 (md_L o md) := kp_mono kpx_4 md_s0
    refine aw_iload_n C dX9_why_31 rfl rfl (q := 32) rfl ?_
    refine aw_istore_n (ls' := [.ref o, .int g, .int k, .int k, .retAddr 0]) C dX9_why_32 rfl (by decide) rfl (q := 33) rfl ?_
    refine aw_iconst (v := 0) C dX9_why_33 (by decide) (q := 34) rfl ?_
    refine aw_istore (ls' := [.ref o, .int g, .int k, .int k, .int 0]) C dX9_why_34 (by decide) rfl (q := 36) rfl ?_
    refine aw_aload_n C dX9_why_36 rfl rfl (q := 37) rfl ?_
    refine gfX9_89_9 (v := .int 2) C dX9_why_37 K_2.1 rfl (q := 40) rfl ?_
    refine aw_if_ne (t := 87) (q := 43) C dX9_why_40 (by decide) rfl (fun c_40 => ?_) (fun c_40 => absurd c_40 (by decide))
    refine aw_aload_n C dX9_why_87 rfl rfl (q := 88) rfl ?_
    refine gfX9_89_9 (v := .int 2) C dX9_why_88 K_2.1 rfl (q := 91) rfl ?_
    refine aw_if_le (t := 98) (q := 94) C dX9_why_91 (by decide) rfl (fun c_91 => absurd c_91 (by decide)) (fun c_91 => ?_)
    refine aw_iconst (v := 0) C dX9_why_94 (by decide) (q := 95) rfl ?_
    refine aw_goto (q := 99) C dX9_why_95 (by decide) ?_
    refine aw_iret C E dX9_why_99 (Nat.le_refl _) (Nat.le_refl _) ?_
    exact ⟨rfl, K_2, kq_3⟩
  ·
    refine aw_iload_n C dX9_why_19 rfl rfl (q := 20) rfl ?_
    refine aw_if_ge (t := 27) (q := 23) C dX9_why_20 (by decide) rfl (fun c_20 => absurd c_20 (fun z => hk ⟨mo_g.mp (pb_n c_16), Int32.not_lt.mpr z⟩)) (fun c_20 => ?_)
    refine aw_iconst (v := 2) C dX9_why_23 (by decide) (q := 24) rfl ?_
    refine aw_goto (q := 28) C dX9_why_24 (by decide) ?_
    refine pfX9_89_9 C dX9_why_28 K.1 rfl rfl (Nat.le_of_ble_eq_true rfl) (q := 31) rfl ?_
    show aw G 5 M 31 [.ref o, .int g, .int k, .retAddr 0, .retAddr 0] [] (ac_up h o (.inr (9, md_fs md ((upd s.1 0 2, s.2.1, s.2.2).1)))) 0 0
    obtain ⟨h_5, eh_5⟩ : ∃ z9, z9 = ac_up h o (.inr (9, md_fs md ((upd s.1 0 2, s.2.1, s.2.2).1))) := ⟨_, rfl⟩
    rw [← eh_5]
    have kpx_8 : kp h h_5 [o] := by rw [eh_5]; exact kp_up (kp_cons o kp_rf) _ _ (by simp)
    have K_6 : md_ok h_5 o md (upd s.1 0 2, s.2.1, s.2.2) := md_J (s := (s.1, s.2.1, s.2.2)) K (by rw [eh_5]; exact ac_up_s _ _ _) kpx_8
    have kq_7 : kp h h_5 (md_L o md) := kp_mono kpx_8 md_s0
    refine aw_iload_n C dX9_why_31 rfl rfl (q := 32) rfl ?_
    refine aw_istore_n (ls' := [.ref o, .int g, .int k, .int k, .retAddr 0]) C dX9_why_32 rfl (by decide) rfl (q := 33) rfl ?_
    refine aw_iconst (v := 0) C dX9_why_33 (by decide) (q := 34) rfl ?_
    refine aw_istore (ls' := [.ref o, .int g, .int k, .int k, .int 0]) C dX9_why_34 (by decide) rfl (q := 36) rfl ?_
    refine aw_aload_n C dX9_why_36 rfl rfl (q := 37) rfl ?_
    refine gfX9_89_9 (v := .int 2) C dX9_why_37 K_6.1 rfl (q := 40) rfl ?_
    refine aw_if_ne (t := 87) (q := 43) C dX9_why_40 (by decide) rfl (fun c_40 => ?_) (fun c_40 => absurd c_40 (by decide))
    refine aw_aload_n C dX9_why_87 rfl rfl (q := 88) rfl ?_
    refine gfX9_89_9 (v := .int 2) C dX9_why_88 K_6.1 rfl (q := 91) rfl ?_
    refine aw_if_le (t := 98) (q := 94) C dX9_why_91 (by decide) rfl (fun c_91 => absurd c_91 (by decide)) (fun c_91 => ?_)
    refine aw_iconst (v := 0) C dX9_why_94 (by decide) (q := 95) rfl ?_
    refine aw_goto (q := 99) C dX9_why_95 (by decide) ?_
    refine aw_iret C E dX9_why_99 (Nat.le_refl _) (Nat.le_refl _) ?_
    exact ⟨rfl, K_6, kq_7⟩
set_option maxHeartbeats 4000000 in
set_option maxRecDepth 100000 in
theorem ml_why {G : ac_G} {M : ac_M} {o : Nat} {md : Nat → Nat} (hm : md_inj md) {h h1 : ac_H} {s : md_S} {rc : Nat} {gf : Nat → Int32} {g k v : Int32} (hrc : s.1 32 = nI rc) (hrc12 : rc ≤ 12) (hgf : ∀ r, r < rc → s.2.1 10 (65 + r) = gf r) (K : md_ok h1 o md (upd s.1 0 0, s.2.1, s.2.2)) (kq : kp h h1 (md_L o md)) (C : ac_MC G RX9 cX9_why 5 (some .int) M) (E : ac_End G (fun r9 h9 => r9 = some (.int (v)) ∧ md_ok h9 o md (upd s.1 0 0, s.2.1, s.2.2) ∧ kp h h9 (md_L o md)) 0 0 M) :
    ∀ (m r : Nat) (left : Int32), r + m = rc → rp_held gf (s.2.1 33) g m r left = v → aw G 5 M 36 [.ref o, .int g, .int k, .int left, .int (nI r)] [] h1 0 0 := by
  intro m
  induction m with
  | zero =>
    intro r left hr hv
    have hr2 : r = rc := by omega
    refine aw_aload_n C dX9_why_36 rfl rfl (q := 37) rfl ?_
    refine gfX9_89_9 (v := .int 0) C dX9_why_37 K.1 rfl (q := 40) rfl ?_
    refine aw_if_ne (t := 87) (q := 43) C dX9_why_40 (by decide) rfl (fun c_40 => absurd c_40 (by decide)) (fun c_40 => ?_)
    refine aw_iload C dX9_why_43 rfl (q := 45) rfl ?_
    refine aw_aload_n C dX9_why_45 rfl rfl (q := 46) rfl ?_
    refine gfX9_270_9 (v := .int (s.1 32)) C dX9_why_46 K.1 rfl (q := 49) rfl ?_
    refine aw_icmp_ge (t := 87) (q := 52) C dX9_why_49 (by decide) rfl (fun c_49 => ?_) (fun c_49 => absurd c_49 (fun z => z (by rw [hrc, hr2]; exact nI_le (Nat.le_refl _) (by omega))))
    refine aw_aload_n C dX9_why_87 rfl rfl (q := 88) rfl ?_
    refine gfX9_89_9 (v := .int 0) C dX9_why_88 K.1 rfl (q := 91) rfl ?_
    refine aw_if_le (t := 98) (q := 94) C dX9_why_91 (by decide) rfl (fun c_91 => ?_) (fun c_91 => absurd c_91 (by decide))
    refine aw_iconst (v := (-1)) C dX9_why_98 (by decide) (q := 99) rfl ?_
    refine aw_iret C E dX9_why_99 (Nat.le_refl _) (Nat.le_refl _) ?_
    subst hv
    exact ⟨rfl, K, kq⟩
  | succ m ih =>
    intro r left hr hv
    have hlt : r < rc := by omega
    replace hv : (if gf r = g then (if left = 0 then s.2.1 33 r else rp_held gf (s.2.1 33) g m (r + 1) (left + (-1))) else rp_held gf (s.2.1 33) g m (r + 1) left) = v := hv
    refine aw_aload_n C dX9_why_36 rfl rfl (q := 37) rfl ?_
    refine gfX9_89_9 (v := .int 0) C dX9_why_37 K.1 rfl (q := 40) rfl ?_
    refine aw_if_ne (t := 87) (q := 43) C dX9_why_40 (by decide) rfl (fun c_40 => absurd c_40 (by decide)) (fun c_40 => ?_)
    refine aw_iload C dX9_why_43 rfl (q := 45) rfl ?_
    refine aw_aload_n C dX9_why_45 rfl rfl (q := 46) rfl ?_
    refine gfX9_270_9 (v := .int (s.1 32)) C dX9_why_46 K.1 rfl (q := 49) rfl ?_
    refine aw_icmp_ge (t := 87) (q := 52) C dX9_why_49 (by decide) rfl (fun c_49 => absurd c_49 (by rw [hrc]; exact ni_nge r rc rfl rfl (by omega) (by omega) hlt)) (fun c_49 => ?_)
    refine aw_aload_n C dX9_why_52 rfl rfl (q := 53) rfl ?_
    refine gfX9_28_9 (v := .ref (md 10)) C dX9_why_53 K.1 rfl (q := 56) rfl ?_
    refine aw_bipush (v := 65) C dX9_why_56 (by decide) (q := 58) rfl ?_
    refine aw_iload C dX9_why_58 rfl (q := 60) rfl ?_
    refine aw_iadd C dX9_why_60 (q := 61) rfl ?_
    refine ay_iald (N := 91) (f := s.2.1 10) (j := 65 + r) C dX9_why_61 (K.2.1 10 (by decide)) (by rw [show (65 : Int32) = nI 65 from rfl, nI_add]; exact vp_in_nI (by omega) (by decide)) (by rw [show (65 : Int32) = nI 65 from rfl, nI_add]; exact nI_clamp (by omega)) (q := 62) rfl ?_
    rw [hgf r hlt]
    refine aw_iload_n C dX9_why_62 rfl rfl (q := 63) rfl ?_
    refine aw_icmp_ne (t := 81) (q := 66) C dX9_why_63 (by decide) rfl (fun c_63 => ?_) (fun c_63 => ?_)
    ·
      refine aw_iinc (v := nI (r + 1)) (ls' := [.ref o, .int g, .int k, .int left, .int (nI (r + 1))]) C dX9_why_81 rfl (nI_1 r) (by decide) rfl (q := 84) rfl ?_
      refine aw_goto (q := 36) C dX9_why_84 (by decide) ?_
      rw [if_neg c_63] at hv
      exact ih (r + 1) left (by omega) hv
    ·
      refine aw_iload_n C dX9_why_66 rfl rfl (q := 67) rfl ?_
      refine aw_if_ne (t := 78) (q := 70) C dX9_why_67 (by decide) rfl (fun c_67 => ?_) (fun c_67 => ?_)
      ·
        refine aw_iinc (v := left + (-1)) (ls' := [.ref o, .int g, .int k, .int (left + (-1)), .int (nI r)]) C dX9_why_78 rfl rfl (by decide) rfl (q := 81) rfl ?_
        refine aw_iinc (v := nI (r + 1)) (ls' := [.ref o, .int g, .int k, .int (left + (-1)), .int (nI (r + 1))]) C dX9_why_81 rfl (nI_1 r) (by decide) rfl (q := 84) rfl ?_
        refine aw_goto (q := 36) C dX9_why_84 (by decide) ?_
        rw [if_pos c_63, if_neg c_67] at hv
        exact ih (r + 1) (left + (-1)) (by omega) hv
      ·
        refine aw_aload_n C dX9_why_70 rfl rfl (q := 71) rfl ?_
        refine gfX9_62_9 (v := .ref (md 33)) C dX9_why_71 K.1 rfl (q := 74) rfl ?_
        refine aw_iload C dX9_why_74 rfl (q := 76) rfl ?_
        refine ay_iald (N := 12) (f := s.2.1 33) (j := r) C dX9_why_76 (K.2.1 33 (by decide)) (vp_in_nI (by omega) (by decide)) (nI_clamp (by omega)) (q := 77) rfl ?_
        refine aw_iret C E dX9_why_77 (Nat.le_refl _) (Nat.le_refl _) ?_
        rw [if_pos c_63, if_pos c_67] at hv
        subst hv
        exact ⟨rfl, K, kq⟩
set_option maxHeartbeats 4000000 in
set_option maxRecDepth 100000 in
theorem m_why0 (G : ac_G) (l : Launch) (o : Nat) (md : Nat → Nat) (hm : md_inj md) (h : ac_H) (d : Nat) (s : md_S) (K : md_ok h o md s) (hr : ¬ s.1 31 = 0) (g k : Int32) (hk : gt_bl g 10 ∧ ¬ k < 0) (rc : Nat) (hrc : s.1 32 = nI rc) (hrc12 : rc ≤ 12) (gf : Nat → Int32) (hgf : ∀ r, r < rc → s.2.1 10 (65 + r) = gf r) : ac_Met G l yX9_why cX9_why 5 (some .int) (d + 1) 0 0 [.ref o, .int g, .int k] h (fun r9 h9 => r9 = some (.int (rp_held gf (s.2.1 33) g rc 0 k)) ∧ md_ok h9 o md (upd s.1 0 0, s.2.1, s.2.2) ∧ kp h h9 (md_L o md)) := by
  refine ac_of (ls := [.ref o, .int g, .int k, .retAddr 0, .retAddr 0]) (by decide +kernel) rfl (Nat.le_of_ble_eq_true rfl) (fun M hl C B E hnm => ?_)
  refine aw_aload_n C dX9_why_0 rfl rfl (q := 1) rfl ?_
  refine aw_aload_n C dX9_why_1 rfl rfl (q := 2) rfl ?_
  refine gfX9_267_9 (v := .int (s.1 31)) C dX9_why_2 K.1 rfl (q := 5) rfl ?_
  refine aw_if_ne (t := 12) (q := 8) C dX9_why_5 (by decide) rfl (fun c_5 => ?_) (fun c_5 => absurd c_5 (hr))
  refine aw_iload_n C dX9_why_12 rfl rfl (q := 13) rfl ?_
  refine csX9_276 (As := [.int g]) (rest := [.ref o]) C B dX9_why_13 (m_isGrade G M.2.1 h d g) rfl rfl (Nat.le_of_ble_eq_true rfl) (by omega) (by omega) (by omega) (q := 16) rfl (fun r9 h9 hr9 => ?_)
  obtain ⟨e9, er9⟩ := hr9
  subst er9; rw [e9]
  show aw G 5 M 16 [.ref o, .int g, .int k, .retAddr 0, .retAddr 0] [.int (pb_b (¬ g < 0 ∧ ¬ 9 < g)), .ref o] h 0 0
  refine aw_if_eq (t := 23) (q := 19) C dX9_why_16 (by decide) rfl (fun c_16 => absurd c_16 (by rw [pb_t (mo_g.mpr hk.1)]; decide)) (fun c_16 => ?_)
  refine aw_iload_n C dX9_why_19 rfl rfl (q := 20) rfl ?_
  refine aw_if_ge (t := 27) (q := 23) C dX9_why_20 (by decide) rfl (fun c_20 => ?_) (fun c_20 => absurd c_20 (fun z => z (Int32.not_lt.mp hk.2)))
  refine aw_iconst (v := 0) C dX9_why_27 (by decide) (q := 28) rfl ?_
  refine pfX9_89_9 C dX9_why_28 K.1 rfl rfl (Nat.le_of_ble_eq_true rfl) (q := 31) rfl ?_
  show aw G 5 M 31 [.ref o, .int g, .int k, .retAddr 0, .retAddr 0] [] (ac_up h o (.inr (9, md_fs md ((upd s.1 0 0, s.2.1, s.2.2).1)))) 0 0
  obtain ⟨h_1, eh_1⟩ : ∃ z9, z9 = ac_up h o (.inr (9, md_fs md ((upd s.1 0 0, s.2.1, s.2.2).1))) := ⟨_, rfl⟩
  rw [← eh_1]
  have kpx_4 : kp h h_1 [o] := by rw [eh_1]; exact kp_up (kp_cons o kp_rf) _ _ (by simp)
  have K_2 : md_ok h_1 o md (upd s.1 0 0, s.2.1, s.2.2) := md_J (s := (s.1, s.2.1, s.2.2)) K (by rw [eh_1]; exact ac_up_s _ _ _) kpx_4
  have kq_3 : kp h h_1 (md_L o md) := kp_mono kpx_4 md_s0
  refine aw_iload_n C dX9_why_31 rfl rfl (q := 32) rfl ?_
  refine aw_istore_n (ls' := [.ref o, .int g, .int k, .int k, .retAddr 0]) C dX9_why_32 rfl (by decide) rfl (q := 33) rfl ?_
  refine aw_iconst (v := 0) C dX9_why_33 (by decide) (q := 34) rfl ?_
  refine aw_istore (ls' := [.ref o, .int g, .int k, .int k, .int 0]) C dX9_why_34 (by decide) rfl (q := 36) rfl ?_
  exact ml_why hm hrc hrc12 hgf K_2 kq_3 C E rc 0 k (by omega) rfl
set_option maxHeartbeats 4000000 in
set_option maxRecDepth 100000 in
theorem m_open1 (G : ac_G) (l : Launch) (o : Nat) (md : Nat → Nat) (hm : md_inj md) (h : ac_H) (d : Nat) (s : md_S) (K : md_ok h o md s) (k a : Int32) (h1 : s.1 31 = 0 ∨ k < 0 ∨ ¬ k < s.1 34) : ac_Met G l yX9_open cX9_open 3 (some .int) d 0 0 [.ref o, .int k, .int a] h (fun r9 h9 => r9 = some (.int (0)) ∧ md_ok h9 o md (upd s.1 0 1, s.2.1, s.2.2) ∧ kp h h9 (md_L o md)) := by
  refine ac_of (ls := [.ref o, .int k, .int a]) (by decide +kernel) rfl (Nat.le_of_ble_eq_true rfl) (fun M hl C B E hnm => ?_)
  refine aw_aload_n C dX9_open_0 rfl rfl (q := 1) rfl ?_
  refine aw_aload_n C dX9_open_1 rfl rfl (q := 2) rfl ?_
  refine gfX9_267_9 (v := .int (s.1 31)) C dX9_open_2 K.1 rfl (q := 5) rfl ?_
  refine aw_if_eq (t := 20) (q := 8) C dX9_open_5 (by decide) rfl (fun c_5 => ?_) (fun c_5 => ?_)
  ·
    refine aw_iconst (v := 1) C dX9_open_20 (by decide) (q := 21) rfl ?_
    refine aw_goto (q := 38) C dX9_open_21 (by decide) ?_
    refine pfX9_89_9 C dX9_open_38 K.1 rfl rfl (Nat.le_of_ble_eq_true rfl) (q := 41) rfl ?_
    show aw G 3 M 41 [.ref o, .int k, .int a] [] (ac_up h o (.inr (9, md_fs md ((upd s.1 0 1, s.2.1, s.2.2).1)))) 0 0
    obtain ⟨h_1, eh_1⟩ : ∃ z9, z9 = ac_up h o (.inr (9, md_fs md ((upd s.1 0 1, s.2.1, s.2.2).1))) := ⟨_, rfl⟩
    rw [← eh_1]
    have kpx_4 : kp h h_1 [o] := by rw [eh_1]; exact kp_up (kp_cons o kp_rf) _ _ (by simp)
    have K_2 : md_ok h_1 o md (upd s.1 0 1, s.2.1, s.2.2) := md_J (s := (s.1, s.2.1, s.2.2)) K (by rw [eh_1]; exact ac_up_s _ _ _) kpx_4
    have kq_3 : kp h h_1 (md_L o md) := kp_mono kpx_4 md_s0
    refine aw_aload_n C dX9_open_41 rfl rfl (q := 42) rfl ?_
    refine gfX9_89_9 (v := .int 1) C dX9_open_42 K_2.1 rfl (q := 45) rfl ?_
    refine aw_if_le (t := 50) (q := 48) C dX9_open_45 (by decide) rfl (fun c_45 => absurd c_45 (by decide)) (fun c_45 => ?_)
    refine aw_iconst (v := 0) C dX9_open_48 (by decide) (q := 49) rfl ?_
    refine aw_iret C E dX9_open_49 (Nat.le_refl _) (Nat.le_refl _) ?_
    exact ⟨rfl, K_2, kq_3⟩
  ·
    refine aw_iload_n C dX9_open_8 rfl rfl (q := 9) rfl ?_
    refine aw_if_lt (t := 20) (q := 12) C dX9_open_9 (by decide) rfl (fun c_9 => ?_) (fun c_9 => ?_)
    ·
      refine aw_iconst (v := 1) C dX9_open_20 (by decide) (q := 21) rfl ?_
      refine aw_goto (q := 38) C dX9_open_21 (by decide) ?_
      refine pfX9_89_9 C dX9_open_38 K.1 rfl rfl (Nat.le_of_ble_eq_true rfl) (q := 41) rfl ?_
      show aw G 3 M 41 [.ref o, .int k, .int a] [] (ac_up h o (.inr (9, md_fs md ((upd s.1 0 1, s.2.1, s.2.2).1)))) 0 0
      obtain ⟨h_5, eh_5⟩ : ∃ z9, z9 = ac_up h o (.inr (9, md_fs md ((upd s.1 0 1, s.2.1, s.2.2).1))) := ⟨_, rfl⟩
      rw [← eh_5]
      have kpx_8 : kp h h_5 [o] := by rw [eh_5]; exact kp_up (kp_cons o kp_rf) _ _ (by simp)
      have K_6 : md_ok h_5 o md (upd s.1 0 1, s.2.1, s.2.2) := md_J (s := (s.1, s.2.1, s.2.2)) K (by rw [eh_5]; exact ac_up_s _ _ _) kpx_8
      have kq_7 : kp h h_5 (md_L o md) := kp_mono kpx_8 md_s0
      refine aw_aload_n C dX9_open_41 rfl rfl (q := 42) rfl ?_
      refine gfX9_89_9 (v := .int 1) C dX9_open_42 K_6.1 rfl (q := 45) rfl ?_
      refine aw_if_le (t := 50) (q := 48) C dX9_open_45 (by decide) rfl (fun c_45 => absurd c_45 (by decide)) (fun c_45 => ?_)
      refine aw_iconst (v := 0) C dX9_open_48 (by decide) (q := 49) rfl ?_
      refine aw_iret C E dX9_open_49 (Nat.le_refl _) (Nat.le_refl _) ?_
      exact ⟨rfl, K_6, kq_7⟩
    ·
      refine aw_iload_n C dX9_open_12 rfl rfl (q := 13) rfl ?_
      refine aw_aload_n C dX9_open_13 rfl rfl (q := 14) rfl ?_
      refine gfX9_273_9 (v := .int (s.1 34)) C dX9_open_14 K.1 rfl (q := 17) rfl ?_
      refine aw_icmp_lt (t := 24) (q := 20) C dX9_open_17 (by decide) rfl (fun c_17 => absurd c_17 (fun z => (h1.resolve_left c_5).elim c_9 (fun q => q z))) (fun c_17 => ?_)
      refine aw_iconst (v := 1) C dX9_open_20 (by decide) (q := 21) rfl ?_
      refine aw_goto (q := 38) C dX9_open_21 (by decide) ?_
      refine pfX9_89_9 C dX9_open_38 K.1 rfl rfl (Nat.le_of_ble_eq_true rfl) (q := 41) rfl ?_
      show aw G 3 M 41 [.ref o, .int k, .int a] [] (ac_up h o (.inr (9, md_fs md ((upd s.1 0 1, s.2.1, s.2.2).1)))) 0 0
      obtain ⟨h_9, eh_9⟩ : ∃ z9, z9 = ac_up h o (.inr (9, md_fs md ((upd s.1 0 1, s.2.1, s.2.2).1))) := ⟨_, rfl⟩
      rw [← eh_9]
      have kpx_12 : kp h h_9 [o] := by rw [eh_9]; exact kp_up (kp_cons o kp_rf) _ _ (by simp)
      have K_10 : md_ok h_9 o md (upd s.1 0 1, s.2.1, s.2.2) := md_J (s := (s.1, s.2.1, s.2.2)) K (by rw [eh_9]; exact ac_up_s _ _ _) kpx_12
      have kq_11 : kp h h_9 (md_L o md) := kp_mono kpx_12 md_s0
      refine aw_aload_n C dX9_open_41 rfl rfl (q := 42) rfl ?_
      refine gfX9_89_9 (v := .int 1) C dX9_open_42 K_10.1 rfl (q := 45) rfl ?_
      refine aw_if_le (t := 50) (q := 48) C dX9_open_45 (by decide) rfl (fun c_45 => absurd c_45 (by decide)) (fun c_45 => ?_)
      refine aw_iconst (v := 0) C dX9_open_48 (by decide) (q := 49) rfl ?_
      refine aw_iret C E dX9_open_49 (Nat.le_refl _) (Nat.le_refl _) ?_
      exact ⟨rfl, K_10, kq_11⟩
set_option maxHeartbeats 4000000 in
set_option maxRecDepth 100000 in
theorem m_open2 (G : ac_G) (l : Launch) (o : Nat) (md : Nat → Nat) (hm : md_inj md) (h : ac_H) (d : Nat) (s : md_S) (K : md_ok h o md s) (k a : Int32) (hr : ¬ s.1 31 = 0) (hk0 : ¬ k < 0) (hk1 : k < s.1 34) (ha : ¬ gt_bl a 3) : ac_Met G l yX9_open cX9_open 3 (some .int) d 0 0 [.ref o, .int k, .int a] h (fun r9 h9 => r9 = some (.int (0)) ∧ md_ok h9 o md (upd s.1 0 2, s.2.1, s.2.2) ∧ kp h h9 (md_L o md)) := by
  refine ac_of (ls := [.ref o, .int k, .int a]) (by decide +kernel) rfl (Nat.le_of_ble_eq_true rfl) (fun M hl C B E hnm => ?_)
  refine aw_aload_n C dX9_open_0 rfl rfl (q := 1) rfl ?_
  refine aw_aload_n C dX9_open_1 rfl rfl (q := 2) rfl ?_
  refine gfX9_267_9 (v := .int (s.1 31)) C dX9_open_2 K.1 rfl (q := 5) rfl ?_
  refine aw_if_eq (t := 20) (q := 8) C dX9_open_5 (by decide) rfl (fun c_5 => absurd c_5 (hr)) (fun c_5 => ?_)
  refine aw_iload_n C dX9_open_8 rfl rfl (q := 9) rfl ?_
  refine aw_if_lt (t := 20) (q := 12) C dX9_open_9 (by decide) rfl (fun c_9 => absurd c_9 (hk0)) (fun c_9 => ?_)
  refine aw_iload_n C dX9_open_12 rfl rfl (q := 13) rfl ?_
  refine aw_aload_n C dX9_open_13 rfl rfl (q := 14) rfl ?_
  refine gfX9_273_9 (v := .int (s.1 34)) C dX9_open_14 K.1 rfl (q := 17) rfl ?_
  refine aw_icmp_lt (t := 24) (q := 20) C dX9_open_17 (by decide) rfl (fun c_17 => ?_) (fun c_17 => absurd c_17 (fun z => z hk1))
  refine aw_iload_n C dX9_open_24 rfl rfl (q := 25) rfl ?_
  refine aw_if_lt (t := 33) (q := 28) C dX9_open_25 (by decide) rfl (fun c_25 => ?_) (fun c_25 => ?_)
  ·
    refine aw_iconst (v := 2) C dX9_open_33 (by decide) (q := 34) rfl ?_
    refine aw_goto (q := 38) C dX9_open_34 (by decide) ?_
    refine pfX9_89_9 C dX9_open_38 K.1 rfl rfl (Nat.le_of_ble_eq_true rfl) (q := 41) rfl ?_
    show aw G 3 M 41 [.ref o, .int k, .int a] [] (ac_up h o (.inr (9, md_fs md ((upd s.1 0 2, s.2.1, s.2.2).1)))) 0 0
    obtain ⟨h_1, eh_1⟩ : ∃ z9, z9 = ac_up h o (.inr (9, md_fs md ((upd s.1 0 2, s.2.1, s.2.2).1))) := ⟨_, rfl⟩
    rw [← eh_1]
    have kpx_4 : kp h h_1 [o] := by rw [eh_1]; exact kp_up (kp_cons o kp_rf) _ _ (by simp)
    have K_2 : md_ok h_1 o md (upd s.1 0 2, s.2.1, s.2.2) := md_J (s := (s.1, s.2.1, s.2.2)) K (by rw [eh_1]; exact ac_up_s _ _ _) kpx_4
    have kq_3 : kp h h_1 (md_L o md) := kp_mono kpx_4 md_s0
    refine aw_aload_n C dX9_open_41 rfl rfl (q := 42) rfl ?_
    refine gfX9_89_9 (v := .int 2) C dX9_open_42 K_2.1 rfl (q := 45) rfl ?_
    refine aw_if_le (t := 50) (q := 48) C dX9_open_45 (by decide) rfl (fun c_45 => absurd c_45 (by decide)) (fun c_45 => ?_)
    refine aw_iconst (v := 0) C dX9_open_48 (by decide) (q := 49) rfl ?_
    refine aw_iret C E dX9_open_49 (Nat.le_refl _) (Nat.le_refl _) ?_
    exact ⟨rfl, K_2, kq_3⟩
  ·
    refine aw_iload_n C dX9_open_28 rfl rfl (q := 29) rfl ?_
    refine aw_iconst (v := 2) C dX9_open_29 (by decide) (q := 30) rfl ?_
    refine aw_icmp_le (t := 37) (q := 33) C dX9_open_30 (by decide) rfl (fun c_30 => absurd c_30 (fun z => ha ⟨c_25, mo_3.mp z⟩)) (fun c_30 => ?_)
    refine aw_iconst (v := 2) C dX9_open_33 (by decide) (q := 34) rfl ?_
    refine aw_goto (q := 38) C dX9_open_34 (by decide) ?_
    refine pfX9_89_9 C dX9_open_38 K.1 rfl rfl (Nat.le_of_ble_eq_true rfl) (q := 41) rfl ?_
    show aw G 3 M 41 [.ref o, .int k, .int a] [] (ac_up h o (.inr (9, md_fs md ((upd s.1 0 2, s.2.1, s.2.2).1)))) 0 0
    obtain ⟨h_5, eh_5⟩ : ∃ z9, z9 = ac_up h o (.inr (9, md_fs md ((upd s.1 0 2, s.2.1, s.2.2).1))) := ⟨_, rfl⟩
    rw [← eh_5]
    have kpx_8 : kp h h_5 [o] := by rw [eh_5]; exact kp_up (kp_cons o kp_rf) _ _ (by simp)
    have K_6 : md_ok h_5 o md (upd s.1 0 2, s.2.1, s.2.2) := md_J (s := (s.1, s.2.1, s.2.2)) K (by rw [eh_5]; exact ac_up_s _ _ _) kpx_8
    have kq_7 : kp h h_5 (md_L o md) := kp_mono kpx_8 md_s0
    refine aw_aload_n C dX9_open_41 rfl rfl (q := 42) rfl ?_
    refine gfX9_89_9 (v := .int 2) C dX9_open_42 K_6.1 rfl (q := 45) rfl ?_
    refine aw_if_le (t := 50) (q := 48) C dX9_open_45 (by decide) rfl (fun c_45 => absurd c_45 (by decide)) (fun c_45 => ?_)
    refine aw_iconst (v := 0) C dX9_open_48 (by decide) (q := 49) rfl ?_
    refine aw_iret C E dX9_open_49 (Nat.le_refl _) (Nat.le_refl _) ?_
    exact ⟨rfl, K_6, kq_7⟩

set_option maxHeartbeats 4000000 in
set_option maxRecDepth 100000 in
theorem m_open0 (G : ac_G) (l : Launch) (o : Nat) (md : Nat → Nat) (hm : md_inj md) (h : ac_H) (d : Nat) (s : md_S) (K : md_ok h o md s) (k a : Int32) (hr : ¬ s.1 31 = 0) (hk0 : ¬ k < 0) (hk1 : k < s.1 34) (ha : gt_bl a 3) (hin : vp_in k 12) : ac_Met G l yX9_open cX9_open 3 (some .int) d 0 0 [.ref o, .int k, .int a] h (fun r9 h9 => r9 = some (.int (if a = 0 then s.2.1 35 k.toNatClampNeg else if a = 1 then s.2.1 36 k.toNatClampNeg else s.2.1 37 k.toNatClampNeg)) ∧ md_ok h9 o md (upd s.1 0 0, s.2.1, s.2.2) ∧ kp h h9 (md_L o md)) := by
  refine ac_of (ls := [.ref o, .int k, .int a]) (by decide +kernel) rfl (Nat.le_of_ble_eq_true rfl) (fun M hl C B E hnm => ?_)
  refine aw_aload_n C dX9_open_0 rfl rfl (q := 1) rfl ?_
  refine aw_aload_n C dX9_open_1 rfl rfl (q := 2) rfl ?_
  refine gfX9_267_9 (v := .int (s.1 31)) C dX9_open_2 K.1 rfl (q := 5) rfl ?_
  refine aw_if_eq (t := 20) (q := 8) C dX9_open_5 (by decide) rfl (fun c_5 => absurd c_5 (hr)) (fun c_5 => ?_)
  refine aw_iload_n C dX9_open_8 rfl rfl (q := 9) rfl ?_
  refine aw_if_lt (t := 20) (q := 12) C dX9_open_9 (by decide) rfl (fun c_9 => absurd c_9 (hk0)) (fun c_9 => ?_)
  refine aw_iload_n C dX9_open_12 rfl rfl (q := 13) rfl ?_
  refine aw_aload_n C dX9_open_13 rfl rfl (q := 14) rfl ?_
  refine gfX9_273_9 (v := .int (s.1 34)) C dX9_open_14 K.1 rfl (q := 17) rfl ?_
  refine aw_icmp_lt (t := 24) (q := 20) C dX9_open_17 (by decide) rfl (fun c_17 => ?_) (fun c_17 => absurd c_17 (fun z => z hk1))
  refine aw_iload_n C dX9_open_24 rfl rfl (q := 25) rfl ?_
  refine aw_if_lt (t := 33) (q := 28) C dX9_open_25 (by decide) rfl (fun c_25 => absurd c_25 (ha.1)) (fun c_25 => ?_)
  refine aw_iload_n C dX9_open_28 rfl rfl (q := 29) rfl ?_
  refine aw_iconst (v := 2) C dX9_open_29 (by decide) (q := 30) rfl ?_
  refine aw_icmp_le (t := 37) (q := 33) C dX9_open_30 (by decide) rfl (fun c_30 => ?_) (fun c_30 => absurd c_30 (fun z => z (mo_3.mpr ha.2)))
  refine aw_iconst (v := 0) C dX9_open_37 (by decide) (q := 38) rfl ?_
  refine pfX9_89_9 C dX9_open_38 K.1 rfl rfl (Nat.le_of_ble_eq_true rfl) (q := 41) rfl ?_
  show aw G 3 M 41 [.ref o, .int k, .int a] [] (ac_up h o (.inr (9, md_fs md ((upd s.1 0 0, s.2.1, s.2.2).1)))) 0 0
  obtain ⟨h_1, eh_1⟩ : ∃ z9, z9 = ac_up h o (.inr (9, md_fs md ((upd s.1 0 0, s.2.1, s.2.2).1))) := ⟨_, rfl⟩
  rw [← eh_1]
  have kpx_4 : kp h h_1 [o] := by rw [eh_1]; exact kp_up (kp_cons o kp_rf) _ _ (by simp)
  have K_2 : md_ok h_1 o md (upd s.1 0 0, s.2.1, s.2.2) := md_J (s := (s.1, s.2.1, s.2.2)) K (by rw [eh_1]; exact ac_up_s _ _ _) kpx_4
  have kq_3 : kp h h_1 (md_L o md) := kp_mono kpx_4 md_s0
  refine aw_aload_n C dX9_open_41 rfl rfl (q := 42) rfl ?_
  refine gfX9_89_9 (v := .int 0) C dX9_open_42 K_2.1 rfl (q := 45) rfl ?_
  refine aw_if_le (t := 50) (q := 48) C dX9_open_45 (by decide) rfl (fun c_45 => ?_) (fun c_45 => absurd c_45 (by decide))
  refine aw_iload_n C dX9_open_50 rfl rfl (q := 51) rfl ?_
  refine aw_if_ne (t := 63) (q := 54) C dX9_open_51 (by decide) rfl (fun c_51 => ?_) (fun c_51 => ?_)
  ·
    refine aw_iload_n C dX9_open_63 rfl rfl (q := 64) rfl ?_
    refine aw_iconst (v := 1) C dX9_open_64 (by decide) (q := 65) rfl ?_
    refine aw_icmp_ne (t := 77) (q := 68) C dX9_open_65 (by decide) rfl (fun c_65 => ?_) (fun c_65 => ?_)
    ·
      refine aw_aload_n C dX9_open_77 rfl rfl (q := 78) rfl ?_
      refine gfX9_71_9 (v := .ref (md 37)) C dX9_open_78 K_2.1 rfl (q := 81) rfl ?_
      refine aw_iload_n C dX9_open_81 rfl rfl (q := 82) rfl ?_
      refine ay_iald (N := 12) (f := s.2.1 37) (j := k.toNatClampNeg) C dX9_open_82 (K_2.2.1 37 (by decide)) (hin) (rfl) (q := 83) rfl ?_
      refine aw_iret C E dX9_open_83 (Nat.le_refl _) (Nat.le_refl _) ?_
      rw [if_neg c_51, if_neg c_65]
      exact ⟨rfl, K_2, kq_3⟩
    ·
      refine aw_aload_n C dX9_open_68 rfl rfl (q := 69) rfl ?_
      refine gfX9_68_9 (v := .ref (md 36)) C dX9_open_69 K_2.1 rfl (q := 72) rfl ?_
      refine aw_iload_n C dX9_open_72 rfl rfl (q := 73) rfl ?_
      refine ay_iald (N := 12) (f := s.2.1 36) (j := k.toNatClampNeg) C dX9_open_73 (K_2.2.1 36 (by decide)) (hin) (rfl) (q := 74) rfl ?_
      refine aw_goto (q := 83) C dX9_open_74 (by decide) ?_
      refine aw_iret C E dX9_open_83 (Nat.le_refl _) (Nat.le_refl _) ?_
      rw [if_neg c_51, if_pos c_65]
      exact ⟨rfl, K_2, kq_3⟩
  ·
    refine aw_aload_n C dX9_open_54 rfl rfl (q := 55) rfl ?_
    refine gfX9_65_9 (v := .ref (md 35)) C dX9_open_55 K_2.1 rfl (q := 58) rfl ?_
    refine aw_iload_n C dX9_open_58 rfl rfl (q := 59) rfl ?_
    refine ay_iald (N := 12) (f := s.2.1 35) (j := k.toNatClampNeg) C dX9_open_59 (K_2.2.1 35 (by decide)) (hin) (rfl) (q := 60) rfl ?_
    refine aw_goto (q := 83) C dX9_open_60 (by decide) ?_
    refine aw_iret C E dX9_open_83 (Nat.le_refl _) (Nat.le_refl _) ?_
    rw [if_pos c_51]
    exact ⟨rfl, K_2, kq_3⟩
