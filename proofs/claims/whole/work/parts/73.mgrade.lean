/-! The reference: gradeBy, walk, edition -/
/-- text t of the reference is the rules T of the class -/
def eq_tx (A : Nat → Nat → Int32) (t : Nat) (T : ru_D) : Prop := A 8 t = nI (ru_cnt T) ∧ ru_cnt T ≤ 12 ∧ (∀ r, r < ru_cnt T → A 10 (13 * t + r) = ru_g T r ∧ gt_bl (ru_g T r) 10) ∧ (∀ r, r ≤ ru_cnt T → A 9 (13 * t + r) = nI (ru_b T r)) ∧ (∀ r, r < ru_cnt T → ru_b T r ≤ ru_b T (r + 1) ∧ ru_b T (r + 1) ≤ 300) ∧ (∀ r, r < ru_cnt T → ∀ i, i < ru_b T (r + 1) → eq_st (ru_a T i) (ru_o T i) (A 5 (400 * t + i)) (A 6 (400 * t + i))) ∧ ∀ r, r < ru_cnt T → eq_wf (fun i => A 5 (400 * t + i)) (ru_b T (r + 1) - ru_b T r) (ru_b T r) 0
theorem m_rule {G : ac_G} {l : Launch} {o : Nat} {md : Nat → Nat} (hm : md_inj md) {h : ac_H} (d : Nat) {J : Nat → Int32} {A : Nat → Nat → Int32} {L : Nat → Nat → Int64} (K : md_ok h o md (J, A, L)) {c : Nat} {I : Nat → Int32} {F : Nat → Nat → Int32} {ab e : Int32} {t : Nat} {T : ru_D} (b : eq_bd I F c (J, A, L)) (hb : eq_bit ab e) (ht : t < 7) (tx : eq_tx A t T) (r : Nat) (hr : r < ru_cnt T) : ac_Met G l yX9_holds cX9_holds 8 (some .boolean) (d + 3) 0 0 [.ref o, .int (nI t), .int (nI r), .int e] h (mo_HQ o md h (J, A, L) (rk_rule I F c ab T r)) := by
  obtain ⟨t1, t2, t3, t4, t5, t6, t7⟩ := tx
  have h5 := t5 r hr
  exact m_holds G l o md hm h d (J, A, L) K c I F ab e (ru_a T) (ru_o T) t r (ru_b T r) (ru_b T (r + 1)) (fun _ => 0) b hb ht (by omega) (t4 (r + 1) (by omega)) (by omega) (t6 r hr) (t4 r (by omega)) h5.1 (t7 r hr)
theorem md_eq_A0 {J : List Nat} {L : List Nat} {s s' : md_S} (h : md_eq J [] L s s') : s.2.1 = s'.2.1 := funext (fun j => (h.2.1 j (by simp)).symm)
abbrev mo_GQ (o : Nat) (md : Nat → Nat) (h : ac_H) (s : md_S) (g : Int32) : Option Value → ac_H → Prop := fun r9 h9 => ∃ (J : Nat → Int32) (L : Nat → Nat → Int64), r9 = some (.int g) ∧ md_ok h9 o md (J, s.2.1, L) ∧ md_eq [28, 29, 30] [] [27] s (J, s.2.1, L) ∧ kp h h9 (md_L o md)
set_option maxHeartbeats 4000000 in
set_option maxRecDepth 100000 in
theorem ml_gradeBy {G : ac_G} {M : ac_M} {o : Nat} {md : Nat → Nat} (hm : md_inj md) {h : ac_H} {d : Nat} {s : md_S} {c : Nat} {I : Nat → Int32} {F : Nat → Nat → Int32} {ab e : Int32} {t : Nat} {T : ru_D} {g : Int32} (b : eq_bd I F c s) (hb : eq_bit ab e) (ht : t < 7) (tx : eq_tx s.2.1 t T) (C : ac_MC G RX9 cX9_gradeBy 4 (some .int) M) (B : ac_Bd M (d + 4) 0 0) (E : ac_End G (mo_GQ o md h s g) 0 0 M) :
    ∀ (m r : Nat) (h1 : ac_H) (J1 : Nat → Int32) (L1 : Nat → Nat → Int64), r + m = ru_cnt T → md_ok h1 o md (J1, s.2.1, L1) → kp h h1 (md_L o md) → md_eq [28, 29, 30] [] [27] s (J1, s.2.1, L1) → rz_gr I F c T ab m r = g → aw G 4 M 2 [.ref o, .int (nI t), .int e, .int (nI r)] [] h1 0 0 := by
  have hc12 := tx.2.1
  intro m
  induction m with
  | zero =>
    intro r h1 J1 L1 hr K kq q hg
    have hr2 : r = ru_cnt T := by omega
    refine aw_iload_n C dX9_gradeBy_2 rfl rfl (q := 3) rfl ?_
    refine aw_aload_n C dX9_gradeBy_3 rfl rfl (q := 4) rfl ?_
    refine gfX9_22_9 (v := .ref (md 8)) C dX9_gradeBy_4 K.1 rfl (q := 7) rfl ?_
    refine aw_iload_n C dX9_gradeBy_7 rfl rfl (q := 8) rfl ?_
    refine ay_iald (N := 7) (f := s.2.1 8) (j := t) C dX9_gradeBy_8 (K.2.1 8 (by decide)) (vp_in_nI (by omega) (by decide)) (nI_clamp (by omega)) (q := 9) rfl ?_
    refine aw_icmp_ge (t := 40) (q := 12) C dX9_gradeBy_9 (by decide) rfl (fun c_9 => ?_) (fun c_9 => absurd c_9 (fun z => z (by rw [tx.1, hr2]; exact nI_le (Nat.le_refl _) (by omega))))
    refine aw_iconst (v := (-1)) C dX9_gradeBy_40 (by decide) (q := 41) rfl ?_
    refine aw_iret C E dX9_gradeBy_41 (Nat.le_refl _) (Nat.le_refl _) ?_
    subst hg
    exact ⟨J1, L1, rfl, K, q, kq⟩
  | succ m ih =>
    intro r h1 J1 L1 hr K kq q hg
    have hrc : r < ru_cnt T := by omega
    have b' : eq_bd I F c (J1, s.2.1, L1) := eq_bd_eq b q (by decide) (by decide)
    replace hg : (if (rk_rule I F c ab T r).1 = true then ru_g T r else rz_gr I F c T ab m (r + 1)) = g := hg
    refine aw_iload_n C dX9_gradeBy_2 rfl rfl (q := 3) rfl ?_
    refine aw_aload_n C dX9_gradeBy_3 rfl rfl (q := 4) rfl ?_
    refine gfX9_22_9 (v := .ref (md 8)) C dX9_gradeBy_4 K.1 rfl (q := 7) rfl ?_
    refine aw_iload_n C dX9_gradeBy_7 rfl rfl (q := 8) rfl ?_
    refine ay_iald (N := 7) (f := s.2.1 8) (j := t) C dX9_gradeBy_8 (K.2.1 8 (by decide)) (vp_in_nI (by omega) (by decide)) (nI_clamp (by omega)) (q := 9) rfl ?_
    refine aw_icmp_ge (t := 40) (q := 12) C dX9_gradeBy_9 (by decide) rfl (fun c_9 => absurd c_9 (by rw [tx.1]; exact ni_nge r (ru_cnt T) rfl rfl (by omega) (by omega) hrc)) (fun c_9 => ?_)
    refine aw_aload_n C dX9_gradeBy_12 rfl rfl (q := 13) rfl ?_
    refine aw_iload_n C dX9_gradeBy_13 rfl rfl (q := 14) rfl ?_
    refine aw_iload_n C dX9_gradeBy_14 rfl rfl (q := 15) rfl ?_
    refine aw_iload_n C dX9_gradeBy_15 rfl rfl (q := 16) rfl ?_
    refine cvX9_255_9 (As := [.int (nI t), .int (nI r), .int e]) (rest := []) C B dX9_gradeBy_16 K.1 (m_rule hm d K b' hb ht tx r hrc) rfl rfl (Nat.le_of_ble_eq_true rfl) (by omega) (by omega) (by omega) (q := 19) rfl (fun r9 h_1 hr9 => ?_)
    obtain ⟨⟨J2, A2, L2⟩, er9, K_2, q2, h30, h29, h28, kpx_3⟩ := hr9
    subst er9
    have eA : s.2.1 = A2 := md_eq_A0 q2
    subst eA
    have kq_4 : kp h h_1 (md_L o md) := kp_in kq kpx_3 (fun _ z => z)
    show aw G 4 M 19 [.ref o, .int (nI t), .int e, .int (nI r)] [.int (pb_b ((rk_rule I F c ab T r).1 = true))] h_1 0 0
    refine aw_if_eq (t := 34) (q := 22) C dX9_gradeBy_19 (by decide) rfl (fun c_19 => ?_) (fun c_19 => ?_)
    ·
      refine aw_iinc (v := nI (r + 1)) (ls' := [.ref o, .int (nI t), .int e, .int (nI (r + 1))]) C dX9_gradeBy_34 rfl (nI_1 r) (by decide) rfl (q := 37) rfl ?_
      refine aw_goto (q := 2) C dX9_gradeBy_37 (by decide) ?_
      rw [if_neg (pb_0.mp c_19)] at hg
      exact ih (r + 1) h_1 J2 L2 (by omega) K_2 kq_4 (md_eq_tr q q2 (fun _ z => z) (fun _ z => z) (fun _ z => z)) hg
    ·
      refine aw_aload_n C dX9_gradeBy_22 rfl rfl (q := 23) rfl ?_
      refine gfX9_28_9 (v := .ref (md 10)) C dX9_gradeBy_23 K_2.1 rfl (q := 26) rfl ?_
      refine aw_bipush (v := 13) C dX9_gradeBy_26 (by decide) (q := 28) rfl ?_
      refine aw_iload_n C dX9_gradeBy_28 rfl rfl (q := 29) rfl ?_
      refine aw_imul C dX9_gradeBy_29 (q := 30) rfl ?_
      refine aw_iload_n C dX9_gradeBy_30 rfl rfl (q := 31) rfl ?_
      refine aw_iadd C dX9_gradeBy_31 (q := 32) rfl ?_
      refine ay_iald (N := 91) (f := s.2.1 10) (j := 13 * t + r) C dX9_gradeBy_32 (K_2.2.1 10 (by decide)) (by rw [show (13 : Int32) = nI 13 from rfl, nI_ix]; exact vp_in_nI (by omega) (by decide)) (by rw [show (13 : Int32) = nI 13 from rfl, nI_ix]; exact nI_clamp (by omega)) (q := 33) rfl ?_
      refine aw_iret C E dX9_gradeBy_33 (Nat.le_refl _) (Nat.le_refl _) ?_
      rw [if_pos (pb_n c_19)] at hg
      rw [(tx.2.2.1 r hrc).1, hg]
      exact ⟨J2, L2, rfl, K_2, md_eq_tr q q2 (fun _ z => z) (fun _ z => z) (fun _ z => z), kq_4⟩
set_option maxHeartbeats 4000000 in
set_option maxRecDepth 100000 in
theorem m_gradeBy (G : ac_G) (l : Launch) (o : Nat) (md : Nat → Nat) (hm : md_inj md) (h : ac_H) (d : Nat) (s : md_S) (K : md_ok h o md s) (c : Nat) (I : Nat → Int32) (F : Nat → Nat → Int32) (ab e : Int32) (t : Nat) (T : ru_D) (b : eq_bd I F c s) (hb : eq_bit ab e) (ht : t < 7) (tx : eq_tx s.2.1 t T) : ac_Met G l yX9_gradeBy cX9_gradeBy 4 (some .int) (d + 4) 0 0 [.ref o, .int (nI t), .int e] h (mo_GQ o md h s (rz_gr I F c T ab (ru_cnt T) 0)) := by
  refine ac_of (ls := [.ref o, .int (nI t), .int e, .retAddr 0]) (by decide +kernel) rfl (Nat.le_of_ble_eq_true rfl) (fun M hl C B E hnm => ?_)
  refine aw_iconst (v := 0) C dX9_gradeBy_0 (by decide) (q := 1) rfl ?_
  refine aw_istore_n (ls' := [.ref o, .int (nI t), .int e, .int 0]) C dX9_gradeBy_1 rfl (by decide) rfl (q := 2) rfl ?_
  exact ml_gradeBy hm b hb ht tx C B E (ru_cnt T) 0 h s.1 s.2.2 (by omega) K (kp_mono kp_rf (by simp)) md_eq_rf rfl
theorem mo_text_le (dy : Nat → Int64) (day : Int64) : ∀ i, mo_text dy day i ≤ i := by
  intro i
  induction i with
  | zero => exact Nat.le_refl _
  | succ i ih => unfold mo_text; split <;> omega
set_option maxHeartbeats 4000000 in
set_option maxRecDepth 100000 in
theorem m_walk0 (G : ac_G) (l : Launch) (o : Nat) (md : Nat → Nat) (hm : md_inj md) (h : ac_H) (d : Nat) (s : md_S) (K : md_ok h o md s) (h11 : s.1 11 = 0) (day : Int64) : ac_Met G l yX9_walk cX9_walk 3 (some .int) d 0 0 [.ref o, .long day] h (fun r9 h9 => r9 = some (.int 0) ∧ md_ok h9 o md (upd s.1 0 1, s.2.1, s.2.2) ∧ kp h h9 (md_L o md)) := by
  refine ac_of (ls := [.ref o, .long day, .retAddr 0]) (by decide +kernel) rfl (Nat.le_of_ble_eq_true rfl) (fun M hl C B E hnm => ?_)
  refine aw_aload_n C dX9_walk_0 rfl rfl (q := 1) rfl ?_
  refine aw_aload_n C dX9_walk_1 rfl rfl (q := 2) rfl ?_
  refine gfX9_164_9 (v := .int (s.1 11)) C dX9_walk_2 K.1 rfl (q := 5) rfl ?_
  refine aw_if_eq (t := 12) (q := 8) C dX9_walk_5 (by decide) rfl (fun c_5 => ?_) (fun c_5 => absurd c_5 (fun z => z h11))
  refine aw_iconst (v := 1) C dX9_walk_12 (by decide) (q := 13) rfl ?_
  refine pfX9_89_9 C dX9_walk_13 K.1 rfl rfl (Nat.le_of_ble_eq_true rfl) (q := 16) rfl ?_
  show aw G 3 M 16 [.ref o, .long day, .retAddr 0] [] (ac_up h o (.inr (9, md_fs md ((upd s.1 0 1, s.2.1, s.2.2).1)))) 0 0
  obtain ⟨h_1, eh_1⟩ : ∃ z9, z9 = ac_up h o (.inr (9, md_fs md ((upd s.1 0 1, s.2.1, s.2.2).1))) := ⟨_, rfl⟩
  rw [← eh_1]
  have kpx_4 : kp h h_1 [o] := by rw [eh_1]; exact kp_up (kp_cons o kp_rf) _ _ (by simp)
  have K_2 : md_ok h_1 o md (upd s.1 0 1, s.2.1, s.2.2) := md_J (s := (s.1, s.2.1, s.2.2)) K (by rw [eh_1]; exact ac_up_s _ _ _) kpx_4
  have kq_3 : kp h h_1 (md_L o md) := kp_mono kpx_4 md_s0
  refine aw_aload_n C dX9_walk_16 rfl rfl (q := 17) rfl ?_
  refine gfX9_89_9 (v := .int 1) C dX9_walk_17 K_2.1 rfl (q := 20) rfl ?_
  refine aw_if_le (t := 27) (q := 23) C dX9_walk_20 (by decide) rfl (fun c_20 => absurd c_20 (by decide)) (fun c_20 => ?_)
  refine aw_iconst (v := 0) C dX9_walk_23 (by decide) (q := 24) rfl ?_
  refine aw_goto (q := 39) C dX9_walk_24 (by decide) ?_
  refine aw_iret C E dX9_walk_39 (Nat.le_refl _) (Nat.le_refl _) ?_
  exact ⟨rfl, K_2, kq_3⟩
set_option maxHeartbeats 4000000 in
set_option maxRecDepth 100000 in
theorem m_walk1 (G : ac_G) (l : Launch) (o : Nat) (md : Nat → Nat) (hm : md_inj md) (h : ac_H) (d : Nat) (s : md_S) (K : md_ok h o md s) (h11 : ¬ s.1 11 = 0) (day : Int64) (ec : Nat) (hec : s.1 15 = nI ec) (hec4 : ec ≤ 4) (c : Nat) (I : Nat → Int32) (F : Nat → Nat → Int32) (T : ru_D) (b : eq_bd I F c s) (tx : eq_tx s.2.1 (mo_text (s.2.2 16) day ec) T) : ac_Met G l yX9_walk cX9_walk 3 (some .int) (d + 5) 0 0 [.ref o, .long day] h (fun r9 h9 => ∃ (J : Nat → Int32) (L : Nat → Nat → Int64), r9 = some (.int (rz_gr I F c T 0 (ru_cnt T) 0)) ∧ md_ok h9 o md (J, s.2.1, L) ∧ md_eq [0, 28, 29, 30] [] [27] s (J, s.2.1, L) ∧ J 0 = 0 ∧ kp h h9 (md_L o md)) := by
  refine ac_of (ls := [.ref o, .long day, .retAddr 0]) (by decide +kernel) rfl (Nat.le_of_ble_eq_true rfl) (fun M hl C B E hnm => ?_)
  refine aw_aload_n C dX9_walk_0 rfl rfl (q := 1) rfl ?_
  refine aw_aload_n C dX9_walk_1 rfl rfl (q := 2) rfl ?_
  refine gfX9_164_9 (v := .int (s.1 11)) C dX9_walk_2 K.1 rfl (q := 5) rfl ?_
  refine aw_if_eq (t := 12) (q := 8) C dX9_walk_5 (by decide) rfl (fun c_5 => absurd c_5 (h11)) (fun c_5 => ?_)
  refine aw_iconst (v := 0) C dX9_walk_8 (by decide) (q := 9) rfl ?_
  refine aw_goto (q := 13) C dX9_walk_9 (by decide) ?_
  refine pfX9_89_9 C dX9_walk_13 K.1 rfl rfl (Nat.le_of_ble_eq_true rfl) (q := 16) rfl ?_
  show aw G 3 M 16 [.ref o, .long day, .retAddr 0] [] (ac_up h o (.inr (9, md_fs md ((upd s.1 0 0, s.2.1, s.2.2).1)))) 0 0
  obtain ⟨h_1, eh_1⟩ : ∃ z9, z9 = ac_up h o (.inr (9, md_fs md ((upd s.1 0 0, s.2.1, s.2.2).1))) := ⟨_, rfl⟩
  rw [← eh_1]
  have kpx_4 : kp h h_1 [o] := by rw [eh_1]; exact kp_up (kp_cons o kp_rf) _ _ (by simp)
  have K_2 : md_ok h_1 o md (upd s.1 0 0, s.2.1, s.2.2) := md_J (s := (s.1, s.2.1, s.2.2)) K (by rw [eh_1]; exact ac_up_s _ _ _) kpx_4
  have kq_3 : kp h h_1 (md_L o md) := kp_mono kpx_4 md_s0
  refine aw_aload_n C dX9_walk_16 rfl rfl (q := 17) rfl ?_
  refine gfX9_89_9 (v := .int 0) C dX9_walk_17 K_2.1 rfl (q := 20) rfl ?_
  refine aw_if_le (t := 27) (q := 23) C dX9_walk_20 (by decide) rfl (fun c_20 => ?_) (fun c_20 => absurd c_20 (by decide))
  refine aw_aload_n C dX9_walk_27 rfl rfl (q := 28) rfl ?_
  refine aw_aload_n C dX9_walk_28 rfl rfl (q := 29) rfl ?_
  refine aw_lload_n C dX9_walk_29 rfl rfl (q := 30) rfl ?_
  refine cvX9_259_9 (As := [.long day]) (rest := [.ref o]) C B dX9_walk_30 K_2.1 (m_textFor G M.2.1 o md hm h_1 (d + 4) (upd s.1 0 0, s.2.1, s.2.2) K_2 ec hec hec4 day) rfl rfl (Nat.le_of_ble_eq_true rfl) (by omega) (by omega) (by omega) (q := 33) rfl (fun r9 h9 hr9 => ?_)
  obtain ⟨e9, er9⟩ := hr9
  subst er9; rw [e9]
  show aw G 3 M 33 [.ref o, .long day, .retAddr 0] [.int (nI (mo_text (s.2.2 16) day ec)), .ref o] h_1 0 0
  refine aw_sipush (v := 1023) C dX9_walk_33 (by decide) (q := 36) rfl ?_
  refine cvX9_263_9 (As := [.int (nI (mo_text (s.2.2 16) day ec)), .int 1023]) (rest := []) C B dX9_walk_36 K_2.1 (m_gradeBy G M.2.1 o md hm h_1 d (upd s.1 0 0, s.2.1, s.2.2) K_2 c I F 0 1023 (mo_text (s.2.2 16) day ec) T b eq_bit0 (by have := mo_text_le (s.2.2 16) day ec; omega) tx) rfl rfl (Nat.le_of_ble_eq_true rfl) (by omega) (by omega) (by omega) (q := 39) rfl (fun r9 h_5 hr9 => ?_)
  obtain ⟨J2, L2, er9, K_6, q2, kpx_7⟩ := hr9
  subst er9
  have kq_8 : kp h h_5 (md_L o md) := kp_in kq_3 kpx_7 (fun _ z => z)
  show aw G 3 M 39 [.ref o, .long day, .retAddr 0] [.int (rz_gr I F c T 0 (ru_cnt T) 0)] h_5 0 0
  refine aw_iret C E dX9_walk_39 (Nat.le_refl _) (Nat.le_refl _) ?_
  exact ⟨J2, L2, rfl, K_6, md_eq_tr (md_eq_J (s1 := s) (v := 0) (j := 0) md_eq_rf (by decide)) q2 (by decide) (by decide) (by decide), (q2.1 0 (by decide)), kq_8⟩
set_option maxHeartbeats 4000000 in
set_option maxRecDepth 100000 in
theorem m_edition1 (G : ac_G) (l : Launch) (o : Nat) (md : Nat → Nat) (hm : md_inj md) (h : ac_H) (d : Nat) (s : md_S) (K : md_ok h o md s) (ec : Nat) (hec : s.1 15 = nI ec) (hec4 : ec ≤ 4) (h1 : s.1 11 = 0 ∨ ec = 4) (day : Int64) : ac_Met G l yX9_edition cX9_edition 3 (some .int) d 0 0 [.ref o, .long day] h (fun r9 h9 => r9 = some (.int 0) ∧ md_ok h9 o md (upd s.1 0 1, s.2.1, s.2.2) ∧ kp h h9 (md_L o md)) := by
  refine ac_of (ls := [.ref o, .long day, .retAddr 0]) (by decide +kernel) rfl (Nat.le_of_ble_eq_true rfl) (fun M hl C B E hnm => ?_)
  refine aw_aload_n C dX9_edition_0 rfl rfl (q := 1) rfl ?_
  refine aw_aload_n C dX9_edition_1 rfl rfl (q := 2) rfl ?_
  refine gfX9_164_9 (v := .int (s.1 11)) C dX9_edition_2 K.1 rfl (q := 5) rfl ?_
  refine aw_if_eq (t := 16) (q := 8) C dX9_edition_5 (by decide) rfl (fun c_5 => ?_) (fun c_5 => ?_)
  ·
    refine aw_iconst (v := 1) C dX9_edition_16 (by decide) (q := 17) rfl ?_
    refine aw_goto (q := 54) C dX9_edition_17 (by decide) ?_
    refine pfX9_89_9 C dX9_edition_54 K.1 rfl rfl (Nat.le_of_ble_eq_true rfl) (q := 57) rfl ?_
    show aw G 3 M 57 [.ref o, .long day, .retAddr 0] [] (ac_up h o (.inr (9, md_fs md ((upd s.1 0 1, s.2.1, s.2.2).1)))) 0 0
    obtain ⟨h_1, eh_1⟩ : ∃ z9, z9 = ac_up h o (.inr (9, md_fs md ((upd s.1 0 1, s.2.1, s.2.2).1))) := ⟨_, rfl⟩
    rw [← eh_1]
    have kpx_4 : kp h h_1 [o] := by rw [eh_1]; exact kp_up (kp_cons o kp_rf) _ _ (by simp)
    have K_2 : md_ok h_1 o md (upd s.1 0 1, s.2.1, s.2.2) := md_J (s := (s.1, s.2.1, s.2.2)) K (by rw [eh_1]; exact ac_up_s _ _ _) kpx_4
    have kq_3 : kp h h_1 (md_L o md) := kp_mono kpx_4 md_s0
    refine aw_aload_n C dX9_edition_57 rfl rfl (q := 58) rfl ?_
    refine gfX9_89_9 (v := .int 1) C dX9_edition_58 K_2.1 rfl (q := 61) rfl ?_
    refine aw_if_le (t := 66) (q := 64) C dX9_edition_61 (by decide) rfl (fun c_61 => absurd c_61 (by decide)) (fun c_61 => ?_)
    refine aw_iconst (v := 0) C dX9_edition_64 (by decide) (q := 65) rfl ?_
    refine aw_iret C E dX9_edition_65 (Nat.le_refl _) (Nat.le_refl _) ?_
    exact ⟨rfl, K_2, kq_3⟩
  ·
    refine aw_aload_n C dX9_edition_8 rfl rfl (q := 9) rfl ?_
    refine gfX9_197_9 (v := .int (s.1 15)) C dX9_edition_9 K.1 rfl (q := 12) rfl ?_
    refine aw_iconst (v := 4) C dX9_edition_12 (by decide) (q := 13) rfl ?_
    refine aw_icmp_ne (t := 20) (q := 16) C dX9_edition_13 (by decide) rfl (fun c_13 => absurd c_13 (fun z => z (by rw [hec, h1.resolve_left c_5]; rfl))) (fun c_13 => ?_)
    refine aw_iconst (v := 1) C dX9_edition_16 (by decide) (q := 17) rfl ?_
    refine aw_goto (q := 54) C dX9_edition_17 (by decide) ?_
    refine pfX9_89_9 C dX9_edition_54 K.1 rfl rfl (Nat.le_of_ble_eq_true rfl) (q := 57) rfl ?_
    show aw G 3 M 57 [.ref o, .long day, .retAddr 0] [] (ac_up h o (.inr (9, md_fs md ((upd s.1 0 1, s.2.1, s.2.2).1)))) 0 0
    obtain ⟨h_5, eh_5⟩ : ∃ z9, z9 = ac_up h o (.inr (9, md_fs md ((upd s.1 0 1, s.2.1, s.2.2).1))) := ⟨_, rfl⟩
    rw [← eh_5]
    have kpx_8 : kp h h_5 [o] := by rw [eh_5]; exact kp_up (kp_cons o kp_rf) _ _ (by simp)
    have K_6 : md_ok h_5 o md (upd s.1 0 1, s.2.1, s.2.2) := md_J (s := (s.1, s.2.1, s.2.2)) K (by rw [eh_5]; exact ac_up_s _ _ _) kpx_8
    have kq_7 : kp h h_5 (md_L o md) := kp_mono kpx_8 md_s0
    refine aw_aload_n C dX9_edition_57 rfl rfl (q := 58) rfl ?_
    refine gfX9_89_9 (v := .int 1) C dX9_edition_58 K_6.1 rfl (q := 61) rfl ?_
    refine aw_if_le (t := 66) (q := 64) C dX9_edition_61 (by decide) rfl (fun c_61 => absurd c_61 (by decide)) (fun c_61 => ?_)
    refine aw_iconst (v := 0) C dX9_edition_64 (by decide) (q := 65) rfl ?_
    refine aw_iret C E dX9_edition_65 (Nat.le_refl _) (Nat.le_refl _) ?_
    exact ⟨rfl, K_6, kq_7⟩
set_option maxHeartbeats 4000000 in
set_option maxRecDepth 100000 in
theorem m_edition2 (G : ac_G) (l : Launch) (o : Nat) (md : Nat → Nat) (hm : md_inj md) (h : ac_H) (d : Nat) (s : md_S) (K : md_ok h o md s) (ec : Nat) (hec : s.1 15 = nI ec) (hec4 : ec < 4) (h11 : ¬ s.1 11 = 0) (day : Int64) (hd : ¬ (¬ day < 0 ∧ (ec = 0 ∨ s.2.2 16 (ec - 1) < day))) : ac_Met G l yX9_edition cX9_edition 3 (some .int) d 0 0 [.ref o, .long day] h (fun r9 h9 => r9 = some (.int 0) ∧ md_ok h9 o md (upd s.1 0 2, s.2.1, s.2.2) ∧ kp h h9 (md_L o md)) := by
  refine ac_of (ls := [.ref o, .long day, .retAddr 0]) (by decide +kernel) rfl (Nat.le_of_ble_eq_true rfl) (fun M hl C B E hnm => ?_)
  refine aw_aload_n C dX9_edition_0 rfl rfl (q := 1) rfl ?_
  refine aw_aload_n C dX9_edition_1 rfl rfl (q := 2) rfl ?_
  refine gfX9_164_9 (v := .int (s.1 11)) C dX9_edition_2 K.1 rfl (q := 5) rfl ?_
  refine aw_if_eq (t := 16) (q := 8) C dX9_edition_5 (by decide) rfl (fun c_5 => absurd c_5 (h11)) (fun c_5 => ?_)
  refine aw_aload_n C dX9_edition_8 rfl rfl (q := 9) rfl ?_
  refine gfX9_197_9 (v := .int (s.1 15)) C dX9_edition_9 K.1 rfl (q := 12) rfl ?_
  refine aw_iconst (v := 4) C dX9_edition_12 (by decide) (q := 13) rfl ?_
  refine aw_icmp_ne (t := 20) (q := 16) C dX9_edition_13 (by decide) rfl (fun c_13 => ?_) (fun c_13 => absurd c_13 (fun z => absurd ((nI_eq (a := ec) (b := 4) (by omega) (by decide)).mp (hec.symm.trans z)) (by omega)))
  refine aw_lload_n C dX9_edition_20 rfl rfl (q := 21) rfl ?_
  refine aw_lconst (v := 0) C dX9_edition_21 (by decide) (q := 22) rfl ?_
  refine aw_lcmp C dX9_edition_22 (q := 23) rfl ?_
  refine aw_if_lt (t := 49) (q := 26) C dX9_edition_23 (by decide) rfl (fun c_23 => ?_) (fun c_23 => ?_)
  ·
    refine aw_iconst (v := 2) C dX9_edition_49 (by decide) (q := 50) rfl ?_
    refine aw_goto (q := 54) C dX9_edition_50 (by decide) ?_
    refine pfX9_89_9 C dX9_edition_54 K.1 rfl rfl (Nat.le_of_ble_eq_true rfl) (q := 57) rfl ?_
    show aw G 3 M 57 [.ref o, .long day, .retAddr 0] [] (ac_up h o (.inr (9, md_fs md ((upd s.1 0 2, s.2.1, s.2.2).1)))) 0 0
    obtain ⟨h_1, eh_1⟩ : ∃ z9, z9 = ac_up h o (.inr (9, md_fs md ((upd s.1 0 2, s.2.1, s.2.2).1))) := ⟨_, rfl⟩
    rw [← eh_1]
    have kpx_4 : kp h h_1 [o] := by rw [eh_1]; exact kp_up (kp_cons o kp_rf) _ _ (by simp)
    have K_2 : md_ok h_1 o md (upd s.1 0 2, s.2.1, s.2.2) := md_J (s := (s.1, s.2.1, s.2.2)) K (by rw [eh_1]; exact ac_up_s _ _ _) kpx_4
    have kq_3 : kp h h_1 (md_L o md) := kp_mono kpx_4 md_s0
    refine aw_aload_n C dX9_edition_57 rfl rfl (q := 58) rfl ?_
    refine gfX9_89_9 (v := .int 2) C dX9_edition_58 K_2.1 rfl (q := 61) rfl ?_
    refine aw_if_le (t := 66) (q := 64) C dX9_edition_61 (by decide) rfl (fun c_61 => absurd c_61 (by decide)) (fun c_61 => ?_)
    refine aw_iconst (v := 0) C dX9_edition_64 (by decide) (q := 65) rfl ?_
    refine aw_iret C E dX9_edition_65 (Nat.le_refl _) (Nat.le_refl _) ?_
    exact ⟨rfl, K_2, kq_3⟩
  ·
    refine aw_aload_n C dX9_edition_26 rfl rfl (q := 27) rfl ?_
    refine gfX9_197_9 (v := .int (s.1 15)) C dX9_edition_27 K.1 rfl (q := 30) rfl ?_
    refine aw_if_le (t := 53) (q := 33) C dX9_edition_30 (by decide) rfl (fun c_30 => absurd c_30 (fun z => hd ⟨fun y => c_23 ((lg_cmp_lt _ _).mpr y), Or.inl (by have := (nI_leI (a := ec) (b := 0) (by omega) (by decide)).mp (by rw [← hec]; exact z); omega)⟩)) (fun c_30 => ?_)
    have he1 : 1 ≤ ec := Classical.byContradiction fun z => c_30 (by rw [hec, show ec = 0 by omega]; exact nI_le (Nat.le_refl _) (by decide))
    refine aw_lload_n C dX9_edition_33 rfl rfl (q := 34) rfl ?_
    refine aw_aload_n C dX9_edition_34 rfl rfl (q := 35) rfl ?_
    refine gfX9_37_9 (v := .ref (md 16)) C dX9_edition_35 K.1 rfl (q := 38) rfl ?_
    refine aw_aload_n C dX9_edition_38 rfl rfl (q := 39) rfl ?_
    refine gfX9_197_9 (v := .int (s.1 15)) C dX9_edition_39 K.1 rfl (q := 42) rfl ?_
    refine aw_iconst (v := 1) C dX9_edition_42 (by decide) (q := 43) rfl ?_
    refine aw_isub C dX9_edition_43 (q := 44) rfl ?_
    refine ay_lald (N := 4) (f := s.2.2 16) (j := ec - 1) C dX9_edition_44 (K.2.2 16 (by decide)) (by rw [hec, nI_s1 he1]; exact vp_in_nI (by omega) (by decide)) (by rw [hec, nI_s1 he1]; exact nI_clamp (by omega)) (q := 45) rfl ?_
    refine aw_lcmp C dX9_edition_45 (q := 46) rfl ?_
    refine aw_if_gt (t := 53) (q := 49) C dX9_edition_46 (by decide) rfl (fun c_46 => absurd c_46 (fun z => hd ⟨fun y => c_23 ((lg_cmp_lt _ _).mpr y), Or.inr ((lg_cmp_gt _ _).mp z)⟩)) (fun c_46 => ?_)
    refine aw_iconst (v := 2) C dX9_edition_49 (by decide) (q := 50) rfl ?_
    refine aw_goto (q := 54) C dX9_edition_50 (by decide) ?_
    refine pfX9_89_9 C dX9_edition_54 K.1 rfl rfl (Nat.le_of_ble_eq_true rfl) (q := 57) rfl ?_
    show aw G 3 M 57 [.ref o, .long day, .retAddr 0] [] (ac_up h o (.inr (9, md_fs md ((upd s.1 0 2, s.2.1, s.2.2).1)))) 0 0
    obtain ⟨h_5, eh_5⟩ : ∃ z9, z9 = ac_up h o (.inr (9, md_fs md ((upd s.1 0 2, s.2.1, s.2.2).1))) := ⟨_, rfl⟩
    rw [← eh_5]
    have kpx_8 : kp h h_5 [o] := by rw [eh_5]; exact kp_up (kp_cons o kp_rf) _ _ (by simp)
    have K_6 : md_ok h_5 o md (upd s.1 0 2, s.2.1, s.2.2) := md_J (s := (s.1, s.2.1, s.2.2)) K (by rw [eh_5]; exact ac_up_s _ _ _) kpx_8
    have kq_7 : kp h h_5 (md_L o md) := kp_mono kpx_8 md_s0
    refine aw_aload_n C dX9_edition_57 rfl rfl (q := 58) rfl ?_
    refine gfX9_89_9 (v := .int 2) C dX9_edition_58 K_6.1 rfl (q := 61) rfl ?_
    refine aw_if_le (t := 66) (q := 64) C dX9_edition_61 (by decide) rfl (fun c_61 => absurd c_61 (by decide)) (fun c_61 => ?_)
    refine aw_iconst (v := 0) C dX9_edition_64 (by decide) (q := 65) rfl ?_
    refine aw_iret C E dX9_edition_65 (Nat.le_refl _) (Nat.le_refl _) ?_
    exact ⟨rfl, K_6, kq_7⟩
set_option maxHeartbeats 4000000 in
set_option maxRecDepth 100000 in
theorem m_edition0 (G : ac_G) (l : Launch) (o : Nat) (md : Nat → Nat) (hm : md_inj md) (h : ac_H) (d : Nat) (s : md_S) (K : md_ok h o md s) (ec : Nat) (hec : s.1 15 = nI ec) (hec4 : ec < 4) (h11 : ¬ s.1 11 = 0) (day : Int64) (hd : (¬ day < 0 ∧ (ec = 0 ∨ s.2.2 16 (ec - 1) < day))) : ac_Met G l yX9_edition cX9_edition 3 (some .int) (d + 1) 0 0 [.ref o, .long day] h (fun r9 h9 => ∃ A : Nat → Nat → Int32, r9 = some (.int (nI (ec + 1))) ∧ md_ok h9 o md (upd (upd s.1 0 0) 15 (nI (ec + 1)), A, va_up s.2.2 16 (vp_updL (s.2.2 16) ec day)) ∧ A 5 = mo_cpr (s.2.1 5) 400 (ec + 1) 0 400 ∧ A 6 = mo_cpr (s.2.1 6) 400 (ec + 1) 0 400 ∧ A 9 = mo_cpr (s.2.1 9) 13 (ec + 1) 0 13 ∧ A 10 = mo_cpr (s.2.1 10) 13 (ec + 1) 0 13 ∧ A 7 = upd (s.2.1 7) (ec + 1) (s.2.1 7 0) ∧ A 8 = upd (s.2.1 8) (ec + 1) (s.2.1 8 0) ∧ (∀ j, j ∉ [5, 6, 7, 8, 9, 10] → A j = s.2.1 j) ∧ kp h h9 (md_L o md)) := by
  refine ac_of (ls := [.ref o, .long day, .retAddr 0]) (by decide +kernel) rfl (Nat.le_of_ble_eq_true rfl) (fun M hl C B E hnm => ?_)
  refine aw_aload_n C dX9_edition_0 rfl rfl (q := 1) rfl ?_
  refine aw_aload_n C dX9_edition_1 rfl rfl (q := 2) rfl ?_
  refine gfX9_164_9 (v := .int (s.1 11)) C dX9_edition_2 K.1 rfl (q := 5) rfl ?_
  refine aw_if_eq (t := 16) (q := 8) C dX9_edition_5 (by decide) rfl (fun c_5 => absurd c_5 (h11)) (fun c_5 => ?_)
  refine aw_aload_n C dX9_edition_8 rfl rfl (q := 9) rfl ?_
  refine gfX9_197_9 (v := .int (s.1 15)) C dX9_edition_9 K.1 rfl (q := 12) rfl ?_
  refine aw_iconst (v := 4) C dX9_edition_12 (by decide) (q := 13) rfl ?_
  refine aw_icmp_ne (t := 20) (q := 16) C dX9_edition_13 (by decide) rfl (fun c_13 => ?_) (fun c_13 => absurd c_13 (fun z => absurd ((nI_eq (a := ec) (b := 4) (by omega) (by decide)).mp (hec.symm.trans z)) (by omega)))
  refine aw_lload_n C dX9_edition_20 rfl rfl (q := 21) rfl ?_
  refine aw_lconst (v := 0) C dX9_edition_21 (by decide) (q := 22) rfl ?_
  refine aw_lcmp C dX9_edition_22 (q := 23) rfl ?_
  refine aw_if_lt (t := 49) (q := 26) C dX9_edition_23 (by decide) rfl (fun c_23 => absurd c_23 (fun z => hd.1 ((lg_cmp_lt _ _).mp z))) (fun c_23 => ?_)
  refine aw_aload_n C dX9_edition_26 rfl rfl (q := 27) rfl ?_
  refine gfX9_197_9 (v := .int (s.1 15)) C dX9_edition_27 K.1 rfl (q := 30) rfl ?_
  refine aw_if_le (t := 53) (q := 33) C dX9_edition_30 (by decide) rfl (fun c_30 => ?_) (fun c_30 => ?_)
  ·
    refine aw_iconst (v := 0) C dX9_edition_53 (by decide) (q := 54) rfl ?_
    refine pfX9_89_9 C dX9_edition_54 K.1 rfl rfl (Nat.le_of_ble_eq_true rfl) (q := 57) rfl ?_
    show aw G 3 M 57 [.ref o, .long day, .retAddr 0] [] (ac_up h o (.inr (9, md_fs md ((upd s.1 0 0, s.2.1, s.2.2).1)))) 0 0
    obtain ⟨h_1, eh_1⟩ : ∃ z9, z9 = ac_up h o (.inr (9, md_fs md ((upd s.1 0 0, s.2.1, s.2.2).1))) := ⟨_, rfl⟩
    rw [← eh_1]
    have kpx_4 : kp h h_1 [o] := by rw [eh_1]; exact kp_up (kp_cons o kp_rf) _ _ (by simp)
    have K_2 : md_ok h_1 o md (upd s.1 0 0, s.2.1, s.2.2) := md_J (s := (s.1, s.2.1, s.2.2)) K (by rw [eh_1]; exact ac_up_s _ _ _) kpx_4
    have kq_3 : kp h h_1 (md_L o md) := kp_mono kpx_4 md_s0
    refine aw_aload_n C dX9_edition_57 rfl rfl (q := 58) rfl ?_
    refine gfX9_89_9 (v := .int 0) C dX9_edition_58 K_2.1 rfl (q := 61) rfl ?_
    refine aw_if_le (t := 66) (q := 64) C dX9_edition_61 (by decide) rfl (fun c_61 => ?_) (fun c_61 => absurd c_61 (by decide))
    refine aw_aload_n C dX9_edition_66 rfl rfl (q := 67) rfl ?_
    refine gfX9_37_9 (v := .ref (md 16)) C dX9_edition_67 K_2.1 rfl (q := 70) rfl ?_
    refine aw_aload_n C dX9_edition_70 rfl rfl (q := 71) rfl ?_
    refine gfX9_197_9 (v := .int (s.1 15)) C dX9_edition_71 K_2.1 rfl (q := 74) rfl ?_
    refine aw_lload_n C dX9_edition_74 rfl rfl (q := 75) rfl ?_
    refine ay_last (N := 4) (f := s.2.2 16) (j := ec) C dX9_edition_75 (K_2.2.2 16 (by decide)) (by rw [hec]; exact vp_in_nI (by omega) (by decide)) (by rw [hec]; exact nI_clamp (by omega)) (q := 76) rfl ?_
    show aw G 3 M 76 [.ref o, .long day, .retAddr 0] [] (ac_up h_1 (md 16) (.inl (2, 4, .inr (.inl (vp_updL (s.2.2 16) ec day))))) 0 0
    obtain ⟨h_5, eh_5⟩ : ∃ z9, z9 = ac_up h_1 (md 16) (.inl (2, 4, .inr (.inl (vp_updL (s.2.2 16) ec day)))) := ⟨_, rfl⟩
    rw [← eh_5]
    have kpx_8 : kp h_1 h_5 [md 16] := by rw [eh_5]; exact kp_up (kp_cons _ kp_rf) _ _ (by simp)
    have K_6 : md_ok h_5 o md (upd s.1 0 0, s.2.1, va_up s.2.2 16 (vp_updL (s.2.2 16) ec day)) := md_L' (s := (upd s.1 0 0, s.2.1, s.2.2)) hm K_2 (j := 16) (by decide) (by rw [eh_5]; exact ac_up_s _ _ _) kpx_8
    have kq_7 : kp h h_5 (md_L o md) := kp_in kq_3 kpx_8 (md_sj (by decide))
    refine aw_aload_n C dX9_edition_76 rfl rfl (q := 77) rfl ?_
    refine aw_dup C dX9_edition_77 rfl (q := 78) rfl ?_
    refine gfX9_197_9 (v := .int (s.1 15)) C dX9_edition_78 K_6.1 rfl (q := 81) rfl ?_
    refine aw_iconst (v := 1) C dX9_edition_81 (by decide) (q := 82) rfl ?_
    refine aw_iadd C dX9_edition_82 (q := 83) rfl ?_
    rw [show s.1 15 + 1 = nI (ec + 1) from by rw [hec]; exact nI_1 _]
    refine pfX9_197_9 C dX9_edition_83 K_6.1 rfl rfl (Nat.le_of_ble_eq_true rfl) (q := 86) rfl ?_
    show aw G 3 M 86 [.ref o, .long day, .retAddr 0] [] (ac_up h_5 o (.inr (9, md_fs md ((upd (upd s.1 0 0) 15 (nI (ec + 1)), s.2.1, va_up s.2.2 16 (vp_updL (s.2.2 16) ec day)).1)))) 0 0
    obtain ⟨h_9, eh_9⟩ : ∃ z9, z9 = ac_up h_5 o (.inr (9, md_fs md ((upd (upd s.1 0 0) 15 (nI (ec + 1)), s.2.1, va_up s.2.2 16 (vp_updL (s.2.2 16) ec day)).1))) := ⟨_, rfl⟩
    rw [← eh_9]
    have kpx_12 : kp h_5 h_9 [o] := by rw [eh_9]; exact kp_up (kp_cons o kp_rf) _ _ (by simp)
    have K_10 : md_ok h_9 o md (upd (upd s.1 0 0) 15 (nI (ec + 1)), s.2.1, va_up s.2.2 16 (vp_updL (s.2.2 16) ec day)) := md_J (s := (upd s.1 0 0, s.2.1, va_up s.2.2 16 (vp_updL (s.2.2 16) ec day))) K_6 (by rw [eh_9]; exact ac_up_s _ _ _) kpx_12
    have kq_11 : kp h h_9 (md_L o md) := kp_in kq_7 kpx_12 md_s0
    refine aw_aload_n C dX9_edition_86 rfl rfl (q := 87) rfl ?_
    refine aw_iconst (v := 0) C dX9_edition_87 (by decide) (q := 88) rfl ?_
    refine aw_aload_n C dX9_edition_88 rfl rfl (q := 89) rfl ?_
    refine gfX9_197_9 (v := .int (nI (ec + 1))) C dX9_edition_89 K_10.1 rfl (q := 92) rfl ?_
    refine cvX9_161_9 (As := [.int 0, .int (nI (ec + 1))]) (rest := []) C B dX9_edition_92 K_10.1 (m_copy G M.2.1 o md hm h_9 d (upd (upd s.1 0 0) 15 (nI (ec + 1)), s.2.1, va_up s.2.2 16 (vp_updL (s.2.2 16) ec day)) K_10 0 (ec + 1) (by decide) (by omega) (by omega)) rfl rfl (Nat.le_of_ble_eq_true rfl) (by omega) (by omega) (by omega) (q := 95) rfl (fun r9 h_13 hr9 => ?_)
    obtain ⟨A9, er9, K_14, c5, c6, c9, c10, c7, c8, cj, kpx_15⟩ := hr9
    subst er9
    have kq_16 : kp h h_13 (md_L o md) := kp_in kq_11 kpx_15 (fun _ z => z)
    show aw G 3 M 95 [.ref o, .long day, .retAddr 0] [] h_13 0 0
    refine aw_aload_n C dX9_edition_95 rfl rfl (q := 96) rfl ?_
    refine gfX9_197_9 (v := .int (nI (ec + 1))) C dX9_edition_96 K_14.1 rfl (q := 99) rfl ?_
    refine aw_iret C E dX9_edition_99 (Nat.le_refl _) (Nat.le_refl _) ?_
    exact ⟨A9, rfl, K_14, c5, c6, c9, c10, c7, c8, cj, kq_16⟩
  ·
    have he1 : 1 ≤ ec := Classical.byContradiction fun z => c_30 (by rw [hec, show ec = 0 by omega]; exact nI_le (Nat.le_refl _) (by decide))
    refine aw_lload_n C dX9_edition_33 rfl rfl (q := 34) rfl ?_
    refine aw_aload_n C dX9_edition_34 rfl rfl (q := 35) rfl ?_
    refine gfX9_37_9 (v := .ref (md 16)) C dX9_edition_35 K.1 rfl (q := 38) rfl ?_
    refine aw_aload_n C dX9_edition_38 rfl rfl (q := 39) rfl ?_
    refine gfX9_197_9 (v := .int (s.1 15)) C dX9_edition_39 K.1 rfl (q := 42) rfl ?_
    refine aw_iconst (v := 1) C dX9_edition_42 (by decide) (q := 43) rfl ?_
    refine aw_isub C dX9_edition_43 (q := 44) rfl ?_
    refine ay_lald (N := 4) (f := s.2.2 16) (j := ec - 1) C dX9_edition_44 (K.2.2 16 (by decide)) (by rw [hec, nI_s1 he1]; exact vp_in_nI (by omega) (by decide)) (by rw [hec, nI_s1 he1]; exact nI_clamp (by omega)) (q := 45) rfl ?_
    refine aw_lcmp C dX9_edition_45 (q := 46) rfl ?_
    refine aw_if_gt (t := 53) (q := 49) C dX9_edition_46 (by decide) rfl (fun c_46 => ?_) (fun c_46 => absurd c_46 (fun z => z ((lg_cmp_gt _ _).mpr (hd.2.resolve_left (by omega)))))
    refine aw_iconst (v := 0) C dX9_edition_53 (by decide) (q := 54) rfl ?_
    refine pfX9_89_9 C dX9_edition_54 K.1 rfl rfl (Nat.le_of_ble_eq_true rfl) (q := 57) rfl ?_
    show aw G 3 M 57 [.ref o, .long day, .retAddr 0] [] (ac_up h o (.inr (9, md_fs md ((upd s.1 0 0, s.2.1, s.2.2).1)))) 0 0
    obtain ⟨h_17, eh_17⟩ : ∃ z9, z9 = ac_up h o (.inr (9, md_fs md ((upd s.1 0 0, s.2.1, s.2.2).1))) := ⟨_, rfl⟩
    rw [← eh_17]
    have kpx_20 : kp h h_17 [o] := by rw [eh_17]; exact kp_up (kp_cons o kp_rf) _ _ (by simp)
    have K_18 : md_ok h_17 o md (upd s.1 0 0, s.2.1, s.2.2) := md_J (s := (s.1, s.2.1, s.2.2)) K (by rw [eh_17]; exact ac_up_s _ _ _) kpx_20
    have kq_19 : kp h h_17 (md_L o md) := kp_mono kpx_20 md_s0
    refine aw_aload_n C dX9_edition_57 rfl rfl (q := 58) rfl ?_
    refine gfX9_89_9 (v := .int 0) C dX9_edition_58 K_18.1 rfl (q := 61) rfl ?_
    refine aw_if_le (t := 66) (q := 64) C dX9_edition_61 (by decide) rfl (fun c_61 => ?_) (fun c_61 => absurd c_61 (by decide))
    refine aw_aload_n C dX9_edition_66 rfl rfl (q := 67) rfl ?_
    refine gfX9_37_9 (v := .ref (md 16)) C dX9_edition_67 K_18.1 rfl (q := 70) rfl ?_
    refine aw_aload_n C dX9_edition_70 rfl rfl (q := 71) rfl ?_
    refine gfX9_197_9 (v := .int (s.1 15)) C dX9_edition_71 K_18.1 rfl (q := 74) rfl ?_
    refine aw_lload_n C dX9_edition_74 rfl rfl (q := 75) rfl ?_
    refine ay_last (N := 4) (f := s.2.2 16) (j := ec) C dX9_edition_75 (K_18.2.2 16 (by decide)) (by rw [hec]; exact vp_in_nI (by omega) (by decide)) (by rw [hec]; exact nI_clamp (by omega)) (q := 76) rfl ?_
    show aw G 3 M 76 [.ref o, .long day, .retAddr 0] [] (ac_up h_17 (md 16) (.inl (2, 4, .inr (.inl (vp_updL (s.2.2 16) ec day))))) 0 0
    obtain ⟨h_21, eh_21⟩ : ∃ z9, z9 = ac_up h_17 (md 16) (.inl (2, 4, .inr (.inl (vp_updL (s.2.2 16) ec day)))) := ⟨_, rfl⟩
    rw [← eh_21]
    have kpx_24 : kp h_17 h_21 [md 16] := by rw [eh_21]; exact kp_up (kp_cons _ kp_rf) _ _ (by simp)
    have K_22 : md_ok h_21 o md (upd s.1 0 0, s.2.1, va_up s.2.2 16 (vp_updL (s.2.2 16) ec day)) := md_L' (s := (upd s.1 0 0, s.2.1, s.2.2)) hm K_18 (j := 16) (by decide) (by rw [eh_21]; exact ac_up_s _ _ _) kpx_24
    have kq_23 : kp h h_21 (md_L o md) := kp_in kq_19 kpx_24 (md_sj (by decide))
    refine aw_aload_n C dX9_edition_76 rfl rfl (q := 77) rfl ?_
    refine aw_dup C dX9_edition_77 rfl (q := 78) rfl ?_
    refine gfX9_197_9 (v := .int (s.1 15)) C dX9_edition_78 K_22.1 rfl (q := 81) rfl ?_
    refine aw_iconst (v := 1) C dX9_edition_81 (by decide) (q := 82) rfl ?_
    refine aw_iadd C dX9_edition_82 (q := 83) rfl ?_
    rw [show s.1 15 + 1 = nI (ec + 1) from by rw [hec]; exact nI_1 _]
    refine pfX9_197_9 C dX9_edition_83 K_22.1 rfl rfl (Nat.le_of_ble_eq_true rfl) (q := 86) rfl ?_
    show aw G 3 M 86 [.ref o, .long day, .retAddr 0] [] (ac_up h_21 o (.inr (9, md_fs md ((upd (upd s.1 0 0) 15 (nI (ec + 1)), s.2.1, va_up s.2.2 16 (vp_updL (s.2.2 16) ec day)).1)))) 0 0
    obtain ⟨h_25, eh_25⟩ : ∃ z9, z9 = ac_up h_21 o (.inr (9, md_fs md ((upd (upd s.1 0 0) 15 (nI (ec + 1)), s.2.1, va_up s.2.2 16 (vp_updL (s.2.2 16) ec day)).1))) := ⟨_, rfl⟩
    rw [← eh_25]
    have kpx_28 : kp h_21 h_25 [o] := by rw [eh_25]; exact kp_up (kp_cons o kp_rf) _ _ (by simp)
    have K_26 : md_ok h_25 o md (upd (upd s.1 0 0) 15 (nI (ec + 1)), s.2.1, va_up s.2.2 16 (vp_updL (s.2.2 16) ec day)) := md_J (s := (upd s.1 0 0, s.2.1, va_up s.2.2 16 (vp_updL (s.2.2 16) ec day))) K_22 (by rw [eh_25]; exact ac_up_s _ _ _) kpx_28
    have kq_27 : kp h h_25 (md_L o md) := kp_in kq_23 kpx_28 md_s0
    refine aw_aload_n C dX9_edition_86 rfl rfl (q := 87) rfl ?_
    refine aw_iconst (v := 0) C dX9_edition_87 (by decide) (q := 88) rfl ?_
    refine aw_aload_n C dX9_edition_88 rfl rfl (q := 89) rfl ?_
    refine gfX9_197_9 (v := .int (nI (ec + 1))) C dX9_edition_89 K_26.1 rfl (q := 92) rfl ?_
    refine cvX9_161_9 (As := [.int 0, .int (nI (ec + 1))]) (rest := []) C B dX9_edition_92 K_26.1 (m_copy G M.2.1 o md hm h_25 d (upd (upd s.1 0 0) 15 (nI (ec + 1)), s.2.1, va_up s.2.2 16 (vp_updL (s.2.2 16) ec day)) K_26 0 (ec + 1) (by decide) (by omega) (by omega)) rfl rfl (Nat.le_of_ble_eq_true rfl) (by omega) (by omega) (by omega) (q := 95) rfl (fun r9 h_29 hr9 => ?_)
    obtain ⟨A9, er9, K_30, c5, c6, c9, c10, c7, c8, cj, kpx_31⟩ := hr9
    subst er9
    have kq_32 : kp h h_29 (md_L o md) := kp_in kq_27 kpx_31 (fun _ z => z)
    show aw G 3 M 95 [.ref o, .long day, .retAddr 0] [] h_29 0 0
    refine aw_aload_n C dX9_edition_95 rfl rfl (q := 96) rfl ?_
    refine gfX9_197_9 (v := .int (nI (ec + 1))) C dX9_edition_96 K_30.1 rfl (q := 99) rfl ?_
    refine aw_iret C E dX9_edition_99 (Nat.le_refl _) (Nat.le_refl _) ?_
    exact ⟨A9, rfl, K_30, c5, c6, c9, c10, c7, c8, cj, kq_32⟩
