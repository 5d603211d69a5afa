/-! THE REFERENCE: class 9, at o; ints (and booleans) by field number J, rows of ints A, rows of longs L; md j the row of field j -/
abbrev md_S : Type := (Nat → Int32) × (Nat → Nat → Int32) × (Nat → Nat → Int64)
abbrev md_fs (md : Nat → Nat) (J : Nat → Int32) : List Value := [.int (J 0), .ref (md 1), .int (J 2), .int (J 3), .int (J 4), .ref (md 5), .ref (md 6), .ref (md 7), .ref (md 8), .ref (md 9), .ref (md 10), .int (J 11), .ref (md 12), .ref (md 13), .int (J 14), .int (J 15), .ref (md 16), .int (J 17), .int (J 18), .int (J 19), .int (J 20), .ref (md 21), .ref (md 22), .ref (md 23), .ref (md 24), .ref (md 25), .ref (md 26), .ref (md 27), .int (J 28), .int (J 29), .int (J 30), .int (J 31), .int (J 32), .ref (md 33), .int (J 34), .ref (md 35), .ref (md 36), .ref (md 37), .ref (md 38), .ref (md 39), .ref (md 40), .int (J 41), .ref (md 42), .ref (md 43)]
abbrev md_ia : List Nat := [1, 5, 6, 7, 8, 9, 10, 12, 13, 21, 22, 23, 24, 25, 26, 33, 35, 36, 37, 39, 40, 42, 43]
abbrev md_la : List Nat := [16, 27, 38]
def md_len (j : Nat) : Nat := if j = 1 then 300 else if j = 5 then 2800 else if j = 6 then 2800 else if j = 7 then 7 else if j = 8 then 7 else if j = 9 then 91 else if j = 10 then 91 else if j = 12 then 320 else if j = 13 then 320 else if j = 16 then 4 else if j = 21 then 10 else if j = 22 then 10 else if j = 23 then 10 else if j = 24 then 10 else if j = 25 then 10 else if j = 26 then 10 else if j = 27 then 320 else if j = 33 then 12 else if j = 35 then 12 else if j = 36 then 12 else if j = 37 then 12 else if j = 38 then 11 else if j = 39 then 100 else if j = 40 then 800 else if j = 42 then 320 else if j = 43 then 320 else 0
def md_inj (md : Nat → Nat) : Prop := ∀ i j, i ∈ md_ia ++ md_la → j ∈ md_ia ++ md_la → i ≠ j → md i ≠ md j
def md_ok (h : ac_H) (o : Nat) (md : Nat → Nat) (s : md_S) : Prop := h o = some (.inr (9, md_fs md s.1)) ∧ (∀ j, j ∈ md_ia → h (md j) = some (.inl (1, md_len j, .inl (s.2.1 j)))) ∧ ∀ j, j ∈ md_la → h (md j) = some (.inl (2, md_len j, .inr (.inl (s.2.2 j))))
abbrev md_L (o : Nat) (md : Nat → Nat) : List Nat := o :: (md_ia ++ md_la).map md
theorem md_s0 {o : Nat} {md : Nat → Nat} : ∀ a ∈ [o], a ∈ md_L o md := by
  intro a ha
  rw [List.mem_singleton.mp ha]
  exact List.mem_cons_self
theorem md_sj {o j : Nat} {md : Nat → Nat} (hj : j ∈ md_ia ++ md_la) : ∀ a ∈ [md j], a ∈ md_L o md := by
  intro a ha
  rw [List.mem_singleton.mp ha]
  exact List.mem_cons_of_mem _ (List.mem_map_of_mem hj)
section
variable {h h9 : ac_H} {o : Nat} {md : Nat → Nat} {s : md_S}
theorem md_J {J : Nat → Int32} (K : md_ok h o md s) (ho : h9 o = some (.inr (9, md_fs md J))) (kq : kp h h9 [o]) : md_ok h9 o md (J, s.2.1, s.2.2) :=
  ⟨ho, fun j hj => kq _ _ (K.2.1 j hj) (ni1 (ne_ai (K.2.1 j hj) K.1) ni0), fun j hj => kq _ _ (K.2.2 j hj) (ni1 (ne_ai (K.2.2 j hj) K.1) ni0)⟩
theorem md_A (hm : md_inj md) (K : md_ok h o md s) {j : Nat} {f : Nat → Int32} (hj : j ∈ md_ia) (ha : h9 (md j) = some (.inl (1, md_len j, .inl f))) (kq : kp h h9 [md j]) : md_ok h9 o md (s.1, va_up s.2.1 j f, s.2.2) := by
  refine ⟨kq _ _ K.1 (ni1 (Ne.symm (ne_ai (K.2.1 j hj) K.1)) ni0), fun i hi => ?_, fun i hi => kq _ _ (K.2.2 i hi) (ni1 (ne_of (K.2.2 i hi) (K.2.1 j hj) (fun z => by cases z)) ni0)⟩
  by_cases e : i = j
  · rw [e]
    show h9 (md j) = some (.inl (1, md_len j, .inl (va_up s.2.1 j f j)))
    rw [show va_up s.2.1 j f j = f from by unfold va_up; rw [if_pos rfl]]
    exact ha
  · show h9 (md i) = some (.inl (1, md_len i, .inl (va_up s.2.1 j f i)))
    rw [show va_up s.2.1 j f i = s.2.1 i from by unfold va_up; rw [if_neg e]]
    exact kq _ _ (K.2.1 i hi) (ni1 (hm i j (List.mem_append_left _ hi) (List.mem_append_left _ hj) e) ni0)
theorem md_L' (hm : md_inj md) (K : md_ok h o md s) {j : Nat} {f : Nat → Int64} (hj : j ∈ md_la) (ha : h9 (md j) = some (.inl (2, md_len j, .inr (.inl f)))) (kq : kp h h9 [md j]) : md_ok h9 o md (s.1, s.2.1, va_up s.2.2 j f) := by
  refine ⟨kq _ _ K.1 (ni1 (Ne.symm (ne_ai (K.2.2 j hj) K.1)) ni0), fun i hi => kq _ _ (K.2.1 i hi) (ni1 (ne_of (K.2.1 i hi) (K.2.2 j hj) (fun z => by cases z)) ni0), fun i hi => ?_⟩
  by_cases e : i = j
  · rw [e]
    show h9 (md j) = some (.inl (2, md_len j, .inr (.inl (va_up s.2.2 j f j))))
    rw [show va_up s.2.2 j f j = f from by unfold va_up; rw [if_pos rfl]]
    exact ha
  · show h9 (md i) = some (.inl (2, md_len i, .inr (.inl (va_up s.2.2 j f i))))
    rw [show va_up s.2.2 j f i = s.2.2 i from by unfold va_up; rw [if_neg e]]
    exact kq _ _ (K.2.2 i hi) (ni1 (hm i j (List.mem_append_right _ hi) (List.mem_append_right _ hj) e) ni0)
end
set_option maxHeartbeats 4000000 in
set_option maxRecDepth 100000 in
theorem m_thrown (G : ac_G) (l : Launch) (o : Nat) (md : Nat → Nat) (hm : md_inj md) (h : ac_H) (d : Nat) (s : md_S) (K : md_ok h o md s) : ac_Met G l yX9_thrown cX9_thrown 1 (some .int) d 0 0 [.ref o] h (pq h (some (.int (s.1 0)))) := by
  refine ac_of (ls := [.ref o]) (by decide +kernel) rfl (Nat.le_of_ble_eq_true rfl) (fun M hl C B E hnm => ?_)
  refine aw_aload_n C dX9_thrown_0 rfl rfl (q := 1) rfl ?_
  refine gfX9_89_9 (v := .int (s.1 0)) C dX9_thrown_1 K.1 rfl (q := 4) rfl ?_
  refine aw_iret C E dX9_thrown_4 (Nat.le_refl _) (Nat.le_refl _) ?_
  exact ⟨rfl, rfl⟩
def mo_unit (s : md_S) (n : Nat) (v : Int32) : md_S := if n < 300 ∧ ¬ v < 33 ∧ ¬ 126 < v then (upd (upd s.1 0 0) 2 (nI (n + 1)), va_up s.2.1 1 (upd (s.2.1 1) n v), s.2.2) else (upd s.1 0 0, s.2.1, s.2.2)
set_option maxHeartbeats 4000000 in
set_option maxRecDepth 100000 in
theorem m_unit (G : ac_G) (l : Launch) (o : Nat) (md : Nat → Nat) (hm : md_inj md) (h : ac_H) (d : Nat) (s : md_S) (K : md_ok h o md s) (n : Nat) (hn : s.1 2 = nI n) (hn3 : n ≤ 300) (v : Int32) : ac_Met G l yX9_unit cX9_unit 3 (some .boolean) d 0 0 [.ref o, .int v] h (fun r9 h9 => r9 = some (.int (pb_b (n < 300 ∧ ¬ v < 33 ∧ ¬ 126 < v))) ∧ md_ok h9 o md (mo_unit s n v) ∧ kp h h9 (md_L o md)) := by
  refine ac_of (ls := [.ref o, .int v, .retAddr 0]) (by decide +kernel) rfl (Nat.le_of_ble_eq_true rfl) (fun M hl C B E hnm => ?_)
  refine aw_aload_n C dX9_unit_0 rfl rfl (q := 1) rfl ?_
  refine aw_iconst (v := 0) C dX9_unit_1 (by decide) (q := 2) rfl ?_
  refine pfX9_89_9 C dX9_unit_2 K.1 rfl rfl (Nat.le_of_ble_eq_true rfl) (q := 5) rfl ?_
  show aw G 3 M 5 [.ref o, .int v, .retAddr 0] [] (ac_up h o (.inr (9, md_fs md ((upd s.1 0 0, s.2.1, s.2.2).1)))) 0 0
  obtain ⟨h_1, eh_1⟩ : ∃ z9, z9 = ac_up h o (.inr (9, md_fs md ((upd s.1 0 0, s.2.1, s.2.2).1))) := ⟨_, rfl⟩
  rw [← eh_1]
  have kpx_4 : kp h h_1 [o] := by rw [eh_1]; exact kp_up (kp_cons o kp_rf) _ _ (by simp)
  have K_2 : md_ok h_1 o md (upd s.1 0 0, s.2.1, s.2.2) := md_J (s := (s.1, s.2.1, s.2.2)) K (by rw [eh_1]; exact ac_up_s _ _ _) kpx_4
  have kq_3 : kp h h_1 (md_L o md) := kp_mono kpx_4 md_s0
  refine aw_aload_n C dX9_unit_5 rfl rfl (q := 6) rfl ?_
  refine gfX9_93_9 (v := .int (s.1 2)) C dX9_unit_6 K_2.1 rfl (q := 9) rfl ?_
  refine aw_sipush (v := 300) C dX9_unit_9 (by decide) (q := 12) rfl ?_
  refine aw_icmp_ge (t := 31) (q := 15) C dX9_unit_12 (by decide) rfl (fun c_12 => ?_) (fun c_12 => ?_)
  ·
    refine aw_iconst (v := 0) C dX9_unit_31 (by decide) (q := 32) rfl ?_
    refine aw_istore_n (ls' := [.ref o, .int v, .int 0]) C dX9_unit_32 rfl (by decide) rfl (q := 33) rfl ?_
    refine aw_iload_n C dX9_unit_33 rfl rfl (q := 34) rfl ?_
    refine aw_if_eq (t := 57) (q := 37) C dX9_unit_34 (by decide) rfl (fun c_34 => ?_) (fun c_34 => absurd c_34 (by decide))
    refine aw_iload_n C dX9_unit_57 rfl rfl (q := 58) rfl ?_
    refine aw_zret C E dX9_unit_58 (rfl) (Nat.le_refl _) (Nat.le_refl _) ?_
    rw [show mo_unit s n v = (upd s.1 0 0, s.2.1, s.2.2) from by unfold mo_unit; rw [if_neg (fun z => absurd z.1 (by rw [hn] at c_12; have := ni_le n 300 rfl rfl (by omega) (by decide) c_12; omega))], show pb_b (n < 300 ∧ ¬ v < 33 ∧ ¬ 126 < v) = 0 from by unfold pb_b; rw [if_neg (fun z => absurd z.1 (by rw [hn] at c_12; have := ni_le n 300 rfl rfl (by omega) (by decide) c_12; omega))]]
    exact ⟨rfl, K_2, kq_3⟩
  ·
    have hl : n < 300 := by rw [hn] at c_12; exact ni_nle n 300 rfl rfl (by omega) (by decide) c_12
    refine aw_iload_n C dX9_unit_15 rfl rfl (q := 16) rfl ?_
    refine aw_bipush (v := 33) C dX9_unit_16 (by decide) (q := 18) rfl ?_
    refine aw_icmp_lt (t := 31) (q := 21) C dX9_unit_18 (by decide) rfl (fun c_18 => ?_) (fun c_18 => ?_)
    ·
      refine aw_iconst (v := 0) C dX9_unit_31 (by decide) (q := 32) rfl ?_
      refine aw_istore_n (ls' := [.ref o, .int v, .int 0]) C dX9_unit_32 rfl (by decide) rfl (q := 33) rfl ?_
      refine aw_iload_n C dX9_unit_33 rfl rfl (q := 34) rfl ?_
      refine aw_if_eq (t := 57) (q := 37) C dX9_unit_34 (by decide) rfl (fun c_34 => ?_) (fun c_34 => absurd c_34 (by decide))
      refine aw_iload_n C dX9_unit_57 rfl rfl (q := 58) rfl ?_
      refine aw_zret C E dX9_unit_58 (rfl) (Nat.le_refl _) (Nat.le_refl _) ?_
      rw [show mo_unit s n v = (upd s.1 0 0, s.2.1, s.2.2) from by unfold mo_unit; rw [if_neg (fun z => z.2.1 c_18)], show pb_b (n < 300 ∧ ¬ v < 33 ∧ ¬ 126 < v) = 0 from by unfold pb_b; rw [if_neg (fun z => z.2.1 c_18)]]
      exact ⟨rfl, K_2, kq_3⟩
    ·
      refine aw_iload_n C dX9_unit_21 rfl rfl (q := 22) rfl ?_
      refine aw_bipush (v := 126) C dX9_unit_22 (by decide) (q := 24) rfl ?_
      refine aw_icmp_gt (t := 31) (q := 27) C dX9_unit_24 (by decide) rfl (fun c_24 => ?_) (fun c_24 => ?_)
      ·
        refine aw_iconst (v := 0) C dX9_unit_31 (by decide) (q := 32) rfl ?_
        refine aw_istore_n (ls' := [.ref o, .int v, .int 0]) C dX9_unit_32 rfl (by decide) rfl (q := 33) rfl ?_
        refine aw_iload_n C dX9_unit_33 rfl rfl (q := 34) rfl ?_
        refine aw_if_eq (t := 57) (q := 37) C dX9_unit_34 (by decide) rfl (fun c_34 => ?_) (fun c_34 => absurd c_34 (by decide))
        refine aw_iload_n C dX9_unit_57 rfl rfl (q := 58) rfl ?_
        refine aw_zret C E dX9_unit_58 (rfl) (Nat.le_refl _) (Nat.le_refl _) ?_
        rw [show mo_unit s n v = (upd s.1 0 0, s.2.1, s.2.2) from by unfold mo_unit; rw [if_neg (fun z => z.2.2 c_24)], show pb_b (n < 300 ∧ ¬ v < 33 ∧ ¬ 126 < v) = 0 from by unfold pb_b; rw [if_neg (fun z => z.2.2 c_24)]]
        exact ⟨rfl, K_2, kq_3⟩
      ·
        refine aw_iconst (v := 1) C dX9_unit_27 (by decide) (q := 28) rfl ?_
        refine aw_goto (q := 32) C dX9_unit_28 (by decide) ?_
        refine aw_istore_n (ls' := [.ref o, .int v, .int 1]) C dX9_unit_32 rfl (by decide) rfl (q := 33) rfl ?_
        refine aw_iload_n C dX9_unit_33 rfl rfl (q := 34) rfl ?_
        refine aw_if_eq (t := 57) (q := 37) C dX9_unit_34 (by decide) rfl (fun c_34 => absurd c_34 (by decide)) (fun c_34 => ?_)
        refine aw_aload_n C dX9_unit_37 rfl rfl (q := 38) rfl ?_
        refine gfX9_7_9 (v := .ref (md 1)) C dX9_unit_38 K_2.1 rfl (q := 41) rfl ?_
        refine aw_aload_n C dX9_unit_41 rfl rfl (q := 42) rfl ?_
        refine gfX9_93_9 (v := .int (s.1 2)) C dX9_unit_42 K_2.1 rfl (q := 45) rfl ?_
        refine aw_iload_n C dX9_unit_45 rfl rfl (q := 46) rfl ?_
        refine ay_iast (N := 300) (f := s.2.1 1) (j := n) C dX9_unit_46 (K_2.2.1 1 (by decide)) (by rw [hn]; exact vp_in_nI hl (by decide)) (by rw [hn]; exact nI_clamp (by omega)) (q := 47) rfl ?_
        show aw G 3 M 47 [.ref o, .int v, .int 1] [] (ac_up h_1 (md 1) (.inl (1, 300, .inl (upd (s.2.1 1) n v)))) 0 0
        obtain ⟨h_5, eh_5⟩ : ∃ z9, z9 = ac_up h_1 (md 1) (.inl (1, 300, .inl (upd (s.2.1 1) n v))) := ⟨_, rfl⟩
        rw [← eh_5]
        have kpx_8 : kp h_1 h_5 [md 1] := by rw [eh_5]; exact kp_up (kp_cons _ kp_rf) _ _ (by simp)
        have K_6 : md_ok h_5 o md (upd s.1 0 0, va_up s.2.1 1 (upd (s.2.1 1) n v), s.2.2) := md_A (s := (upd s.1 0 0, s.2.1, s.2.2)) hm K_2 (j := 1) (by decide) (by rw [eh_5]; exact ac_up_s _ _ _) kpx_8
        have kq_7 : kp h h_5 (md_L o md) := kp_in kq_3 kpx_8 (md_sj (by decide))
        refine aw_aload_n C dX9_unit_47 rfl rfl (q := 48) rfl ?_
        refine aw_dup C dX9_unit_48 rfl (q := 49) rfl ?_
        refine gfX9_93_9 (v := .int (s.1 2)) C dX9_unit_49 K_6.1 rfl (q := 52) rfl ?_
        refine aw_iconst (v := 1) C dX9_unit_52 (by decide) (q := 53) rfl ?_
        refine aw_iadd C dX9_unit_53 (q := 54) rfl ?_
        rw [show s.1 2 + 1 = nI (n + 1) from by rw [hn]; exact nI_1 _]
        refine pfX9_93_9 C dX9_unit_54 K_6.1 rfl rfl (Nat.le_of_ble_eq_true rfl) (q := 57) rfl ?_
        show aw G 3 M 57 [.ref o, .int v, .int 1] [] (ac_up h_5 o (.inr (9, md_fs md ((upd (upd s.1 0 0) 2 (nI (n + 1)), va_up s.2.1 1 (upd (s.2.1 1) n v), s.2.2).1)))) 0 0
        obtain ⟨h_9, eh_9⟩ : ∃ z9, z9 = ac_up h_5 o (.inr (9, md_fs md ((upd (upd s.1 0 0) 2 (nI (n + 1)), va_up s.2.1 1 (upd (s.2.1 1) n v), s.2.2).1))) := ⟨_, rfl⟩
        rw [← eh_9]
        have kpx_12 : kp h_5 h_9 [o] := by rw [eh_9]; exact kp_up (kp_cons o kp_rf) _ _ (by simp)
        have K_10 : md_ok h_9 o md (upd (upd s.1 0 0) 2 (nI (n + 1)), va_up s.2.1 1 (upd (s.2.1 1) n v), s.2.2) := md_J (s := (upd s.1 0 0, va_up s.2.1 1 (upd (s.2.1 1) n v), s.2.2)) K_6 (by rw [eh_9]; exact ac_up_s _ _ _) kpx_12
        have kq_11 : kp h h_9 (md_L o md) := kp_in kq_7 kpx_12 md_s0
        refine aw_iload_n C dX9_unit_57 rfl rfl (q := 58) rfl ?_
        refine aw_zret C E dX9_unit_58 (rfl) (Nat.le_refl _) (Nat.le_refl _) ?_
        rw [show mo_unit s n v = (upd (upd s.1 0 0) 2 (nI (n + 1)), va_up s.2.1 1 (upd (s.2.1 1) n v), s.2.2) from by unfold mo_unit; rw [if_pos ⟨hl, c_18, c_24⟩], show pb_b (n < 300 ∧ ¬ v < 33 ∧ ¬ 126 < v) = 1 from by unfold pb_b; rw [if_pos ⟨hl, c_18, c_24⟩]]
        exact ⟨rfl, K_10, kq_11⟩
