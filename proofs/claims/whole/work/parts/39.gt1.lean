/-! GradeTexts: counted, machine, face, worst, board, fault, clearFaults, appeal -/
abbrev gt_bl (x b : Int32) : Prop := ¬ x < 0 ∧ ¬ b ≤ x
abbrev gt_sz (x : Int32) : Prop := ¬ x < 0 ∧ ¬ 1000000 < x
theorem gt_ix {x : Int32} {b : Nat} (hb : b < 2 ^ 31) (h : gt_bl x (nI b)) : ∃ j : Nat, j < b ∧ x = nI j := by
  obtain ⟨j, hj, rfl⟩ := nI_of h.1
  exact ⟨j, ni_nle j b rfl rfl hj hb h.2, rfl⟩
set_option maxHeartbeats 4000000 in
set_option maxRecDepth 100000 in
theorem c_appeal (G : ac_G) (l : Launch) (h : ac_H) (d : Nat) (x : Nat) (a b c e : Int32) : ac_Met G l yX8_appeal cX8_appeal 5 (some .int) d 0 0 [.ref x, .int a, .int b, .int c, .int e] h (pq h (some (.int (if a = c then 2 else if b = e then 0 else 1)))) := by
  refine ac_of (ls := [.ref x, .int a, .int b, .int c, .int e]) (by decide +kernel) rfl (Nat.le_of_ble_eq_true rfl) (fun M hl C B E hnm => ?_)
  refine aw_iload_n C dX8_appeal_0 rfl rfl (q := 1) rfl ?_
  refine aw_iload_n C dX8_appeal_1 rfl rfl (q := 2) rfl ?_
  refine aw_icmp_ne (t := 7) (q := 5) C dX8_appeal_2 (by decide) rfl (fun c_2 => ?_) (fun c_2 => ?_)
  ·
    refine aw_iload_n C dX8_appeal_7 rfl rfl (q := 8) rfl ?_
    refine aw_iload C dX8_appeal_8 rfl (q := 10) rfl ?_
    refine aw_icmp_eq (t := 17) (q := 13) C dX8_appeal_10 (by decide) rfl (fun c_10 => ?_) (fun c_10 => ?_)
    ·
      refine aw_iconst (v := 0) C dX8_appeal_17 (by decide) (q := 18) rfl ?_
      refine aw_iret C E dX8_appeal_18 (Nat.le_refl _) (Nat.le_refl _) ?_
      exact ⟨rfl, by rw [if_neg c_2, if_pos c_10]⟩
    ·
      refine aw_iconst (v := 1) C dX8_appeal_13 (by decide) (q := 14) rfl ?_
      refine aw_goto (q := 18) C dX8_appeal_14 (by decide) ?_
      refine aw_iret C E dX8_appeal_18 (Nat.le_refl _) (Nat.le_refl _) ?_
      exact ⟨rfl, by rw [if_neg c_2, if_neg c_10]⟩
  ·
    refine aw_iconst (v := 2) C dX8_appeal_5 (by decide) (q := 6) rfl ?_
    refine aw_iret C E dX8_appeal_6 (Nat.le_refl _) (Nat.le_refl _) ?_
    exact ⟨rfl, by rw [if_pos c_2]⟩
theorem gt_cin {g : Int32} (h1 : ¬ g < -1) (h2 : g < 10) : vp_in (g + 1) 11 := by
  have e1 : (-1 : Int) ≤ g.toInt := by
    have := (Int32.not_lt.mp h1)
    rw [Int32.le_iff_toInt_le] at this
    exact this
  have e2 : g.toInt < 10 := by
    rw [Int32.lt_iff_toInt_lt] at h2
    exact h2
  obtain ⟨j, hj⟩ : ∃ j : Nat, g.toInt + 1 = (j : Int) := ⟨(g.toInt + 1).toNat, by omega⟩
  have e3 : g + 1 = nI j := by
    apply Int32.toInt_inj.mp
    rw [nI_toInt (by omega), Int32.toInt_add, ← hj]
    rw [show Int32.toInt 1 = 1 from rfl]
    exact Int.bmod_eq_of_le (by omega) (by omega)
  rw [e3]
  exact vp_in_nI (by omega) (by decide)
set_option maxHeartbeats 4000000 in
set_option maxRecDepth 100000 in
theorem c_counted (G : ac_G) (l : Launch) (h : ac_H) (d : Nat) (x : Nat) (fs : List Value) (K : h x = some (.inr (8, fs))) (t : Nat) (F : Nat → Int64) (hf : fs[10]? = some (.ref t)) (Kt : h t = some (.inl (2, 11, .inr (.inl F)))) (g : Int32) (hst : l.stackTraces = false) : ac_MetX G l yX8_counted cX8_counted 2 (some .long) (d + 10) 1 6 [.ref x, .int g] h (fun r9 h9 => (¬ g < -1 ∧ g < 10) ∧ r9 = some (.long (F (g + 1).toNatClampNeg)) ∧ h9 = h) (fun E9 h9 => ¬ (¬ g < -1 ∧ g < 10) ∧ E9 = "java/lang/IllegalArgumentException" ∧ h9 = h) := by
  refine ac_ofX (ls := [.ref x, .int g]) (by decide +kernel) rfl (Nat.le_of_ble_eq_true rfl) (fun M hl C B E hnm => ?_)
  refine aw_iload_n C dX8_counted_0 rfl rfl (q := 1) rfl ?_
  refine aw_iconst (v := (-1)) C dX8_counted_1 (by decide) (q := 2) rfl ?_
  refine aw_icmp_lt (t := 11) (q := 5) C dX8_counted_2 (by decide) rfl (fun c_2 => ?_) (fun c_2 => ?_)
  ·
    refine aw_throw C B E (by rw [hl]; exact hst) thA st209 dX8_counted_11 dX8_counted_14 dX8_counted_15 dX8_counted_17 dX8_counted_20 (by show 2 + 3 < _; omega) (by show 13 * (2 + 1) + 43 ≤ _; omega) (by omega) (by omega) ?_
    exact ⟨fun z => z.1 c_2, rfl, rfl⟩
  ·
    refine aw_iload_n C dX8_counted_5 rfl rfl (q := 6) rfl ?_
    refine aw_bipush (v := 10) C dX8_counted_6 (by decide) (q := 8) rfl ?_
    refine aw_icmp_lt (t := 21) (q := 11) C dX8_counted_8 (by decide) rfl (fun c_8 => ?_) (fun c_8 => ?_)
    ·
      have h1 : ¬ g < -1 := c_2
      have h2 : g < 10 := c_8
      refine aw_aload_n C dX8_counted_21 rfl rfl (q := 22) rfl ?_
      refine gfX8_73_8 (v := .ref t) C dX8_counted_22 K (hf) (q := 25) rfl ?_
      refine aw_iload_n C dX8_counted_25 rfl rfl (q := 26) rfl ?_
      refine aw_iconst (v := 1) C dX8_counted_26 (by decide) (q := 27) rfl ?_
      refine aw_iadd C dX8_counted_27 (q := 28) rfl ?_
      refine ay_lald (j := (g + 1).toNatClampNeg) C dX8_counted_28 Kt (gt_cin h1 h2) (rfl) (q := 29) rfl ?_
      refine aw_lretX C E dX8_counted_29 (by omega) (by omega) ?_
      exact ⟨⟨h1, h2⟩, rfl, rfl⟩
    ·
      refine aw_throw C B E (by rw [hl]; exact hst) thA st209 dX8_counted_11 dX8_counted_14 dX8_counted_15 dX8_counted_17 dX8_counted_20 (by show 2 + 3 < _; omega) (by show 13 * (2 + 1) + 43 ≤ _; omega) (by omega) (by omega) ?_
      exact ⟨fun z => c_8 z.2, rfl, rfl⟩
set_option maxHeartbeats 4000000 in
set_option maxRecDepth 100000 in
theorem c_face (G : ac_G) (l : Launch) (h : ac_H) (d : Nat) (x : Nat) (fs : List Value) (K : h x = some (.inr (8, fs))) (p : Nat) (A : Nat → Nat) (I : Nat → Int32) (F : Nat → Nat → Int32) (c : Nat) (hf : fs[0]? = some (.ref p)) (Kp : pl_ok h p A I F c) (k : Int32) (hst : l.stackTraces = false) : ac_MetX G l yX8_face cX8_face 2 (some .int) (d + 10) 1 6 [.ref x, .int k] h (fun r9 h9 => gt_bl k 2 ∧ r9 = some (.int (pl_onF (F 5) k 0 c)) ∧ h9 = h) (fun E9 h9 => ¬ gt_bl k 2 ∧ E9 = "java/lang/ArrayIndexOutOfBoundsException" ∧ h9 = h) := by
  refine ac_ofX (ls := [.ref x, .int k]) (by decide +kernel) rfl (Nat.le_of_ble_eq_true rfl) (fun M hl C B E hnm => ?_)
  refine aw_iload_n C dX8_face_0 rfl rfl (q := 1) rfl ?_
  refine aw_iconst (v := 2) C dX8_face_1 (by decide) (q := 2) rfl ?_
  refine csX8_127 (As := [.int k, .int 2]) (rest := []) C B dX8_face_2 (c_isBelow G M.2.1 h d k 2) rfl rfl (Nat.le_of_ble_eq_true rfl) (by omega) (by omega) (by omega) (q := 5) rfl (fun r9 h9 hr9 => ?_)
  obtain ⟨e9, er9⟩ := hr9
  subst er9; rw [e9]
  show aw G 2 M 5 [.ref x, .int k] [.int (pb_b (¬ k < 0 ∧ ¬ 2 ≤ k))] h 0 0
  refine aw_if_ne (t := 18) (q := 8) C dX8_face_5 (by decide) rfl (fun c_5 => ?_) (fun c_5 => ?_)
  ·
    refine aw_aload_n C dX8_face_18 rfl rfl (q := 19) rfl ?_
    refine gfX8_12_8 (v := .ref p) C dX8_face_19 K (hf) (q := 22) rfl ?_
    refine aw_iload_n C dX8_face_22 rfl rfl (q := 23) rfl ?_
    refine aw_iconst (v := 0) C dX8_face_23 (by decide) (q := 24) rfl ?_
    refine cvX8_147_1 (As := [.int k, .int 0]) (rest := []) C B dX8_face_24 Kp.1 (c_onFace G M.2.1 h d p A I F c k 0 Kp) rfl rfl (Nat.le_of_ble_eq_true rfl) (by omega) (by omega) (by omega) (q := 27) rfl (fun r9 h9 hr9 => ?_)
    obtain ⟨e9, er9⟩ := hr9
    subst er9; rw [e9]
    show aw G 2 M 27 [.ref x, .int k] [.int (pl_onF (F 5) k 0 c)] h 0 0
    refine aw_iretX C E dX8_face_27 (by omega) (by omega) ?_
    exact ⟨pb_n c_5, rfl, rfl⟩
  ·
    refine aw_throw C B E (by rw [hl]; exact hst) thX st133 dX8_face_8 dX8_face_11 dX8_face_12 dX8_face_14 dX8_face_17 (by show 3 + 3 < _; omega) (by show 13 * (3 + 1) + 43 ≤ _; omega) (by omega) (by omega) ?_
    exact ⟨pb_0.mp c_5, rfl, rfl⟩
set_option maxHeartbeats 4000000 in
set_option maxRecDepth 100000 in
theorem c_worst (G : ac_G) (l : Launch) (h : ac_H) (d : Nat) (x : Nat) (fs : List Value) (K : h x = some (.inr (8, fs))) (p : Nat) (A : Nat → Nat) (I : Nat → Int32) (F : Nat → Nat → Int32) (c : Nat) (hf : fs[0]? = some (.ref p)) (Kp : pl_ok h p A I F c) (k n q : Int32) (hst : l.stackTraces = false) : ac_MetX G l yX8_worst cX8_worst 4 (some .long) (d + 10) 1 6 [.ref x, .int k, .int n, .int q] h (fun r9 h9 => (gt_bl k 8 ∧ gt_bl q 2) ∧ r9 = some (.long (pl_worst F k n.toInt64 q 0 c c)) ∧ h9 = h) (fun E9 h9 => ¬ (gt_bl k 8 ∧ gt_bl q 2) ∧ E9 = "java/lang/IllegalArgumentException" ∧ h9 = h) := by
  refine ac_ofX (ls := [.ref x, .int k, .int n, .int q]) (by decide +kernel) rfl (Nat.le_of_ble_eq_true rfl) (fun M hl C B E hnm => ?_)
  refine aw_iload_n C dX8_worst_0 rfl rfl (q := 1) rfl ?_
  refine aw_bipush (v := 8) C dX8_worst_1 (by decide) (q := 3) rfl ?_
  refine csX8_127 (As := [.int k, .int 8]) (rest := []) C B dX8_worst_3 (c_isBelow G M.2.1 h d k 8) rfl rfl (Nat.le_of_ble_eq_true rfl) (by omega) (by omega) (by omega) (q := 6) rfl (fun r9 h9 hr9 => ?_)
  obtain ⟨e9, er9⟩ := hr9
  subst er9; rw [e9]
  show aw G 4 M 6 [.ref x, .int k, .int n, .int q] [.int (pb_b (¬ k < 0 ∧ ¬ 8 ≤ k))] h 0 0
  refine aw_if_eq (t := 17) (q := 9) C dX8_worst_6 (by decide) rfl (fun c_6 => ?_) (fun c_6 => ?_)
  ·
    refine aw_throw C B E (by rw [hl]; exact hst) thA st196 dX8_worst_17 dX8_worst_20 dX8_worst_21 dX8_worst_23 dX8_worst_26 (by show 2 + 3 < _; omega) (by show 13 * (2 + 1) + 43 ≤ _; omega) (by omega) (by omega) ?_
    exact ⟨fun z => pb_0.mp c_6 z.1, rfl, rfl⟩
  ·
    refine aw_iload_n C dX8_worst_9 rfl rfl (q := 10) rfl ?_
    refine aw_iconst (v := 2) C dX8_worst_10 (by decide) (q := 11) rfl ?_
    refine csX8_127 (As := [.int q, .int 2]) (rest := []) C B dX8_worst_11 (c_isBelow G M.2.1 h d q 2) rfl rfl (Nat.le_of_ble_eq_true rfl) (by omega) (by omega) (by omega) (q := 14) rfl (fun r9 h9 hr9 => ?_)
    obtain ⟨e9, er9⟩ := hr9
    subst er9; rw [e9]
    show aw G 4 M 14 [.ref x, .int k, .int n, .int q] [.int (pb_b (¬ q < 0 ∧ ¬ 2 ≤ q))] h 0 0
    refine aw_if_ne (t := 27) (q := 17) C dX8_worst_14 (by decide) rfl (fun c_14 => ?_) (fun c_14 => ?_)
    ·
      refine aw_aload_n C dX8_worst_27 rfl rfl (q := 28) rfl ?_
      refine gfX8_12_8 (v := .ref p) C dX8_worst_28 K (hf) (q := 31) rfl ?_
      refine aw_iload_n C dX8_worst_31 rfl rfl (q := 32) rfl ?_
      refine aw_iload_n C dX8_worst_32 rfl rfl (q := 33) rfl ?_
      refine aw_i2l C dX8_worst_33 (q := 34) rfl ?_
      refine aw_iload_n C dX8_worst_34 rfl rfl (q := 35) rfl ?_
      refine aw_iconst (v := 0) C dX8_worst_35 (by decide) (q := 36) rfl ?_
      refine cvX8_198_1 (As := [.int k, .long n.toInt64, .int q, .int 0]) (rest := []) C B dX8_worst_36 Kp.1 (c_worstIn G M.2.1 h d p A I F c k q 0 n.toInt64 Kp) rfl rfl (Nat.le_of_ble_eq_true rfl) (by omega) (by omega) (by omega) (q := 39) rfl (fun r9 h9 hr9 => ?_)
      obtain ⟨e9, er9⟩ := hr9
      subst er9; rw [e9]
      show aw G 4 M 39 [.ref x, .int k, .int n, .int q] [.long (pl_worst F k n.toInt64 q 0 c c)] h 0 0
      refine aw_lretX C E dX8_worst_39 (by omega) (by omega) ?_
      exact ⟨⟨pb_n c_6, pb_n c_14⟩, rfl, rfl⟩
    ·
      refine aw_throw C B E (by rw [hl]; exact hst) thA st196 dX8_worst_17 dX8_worst_20 dX8_worst_21 dX8_worst_23 dX8_worst_26 (by show 2 + 3 < _; omega) (by show 13 * (2 + 1) + 43 ≤ _; omega) (by omega) (by omega) ?_
      exact ⟨fun z => pb_0.mp c_14 z.2, rfl, rfl⟩
set_option maxHeartbeats 4000000 in
set_option maxRecDepth 100000 in
theorem c_board (G : ac_G) (l : Launch) (h : ac_H) (d : Nat) (x : Nat) (fs : List Value) (K : h x = some (.inr (8, fs))) (p : Nat) (A : Nat → Nat) (I : Nat → Int32) (F : Nat → Nat → Int32) (c : Nat) (hf : fs[0]? = some (.ref p)) (Kp : pl_ok h p A I F c) (a b t : Int32) (hst : l.stackTraces = false) : ac_MetX G l yX8_board cX8_board 4 none (d + 10) 1 6 [.ref x, .int a, .int b, .int t] h (fun r9 h9 => (gt_sz a ∧ gt_sz b ∧ gt_sz t) ∧ r9 = none ∧ pl_ok h9 p A (pl_size I a b t) F c ∧ kp h h9 [p]) (fun E9 h9 => ¬ (gt_sz a ∧ gt_sz b ∧ gt_sz t) ∧ E9 = "java/lang/IllegalArgumentException" ∧ h9 = h) := by
  refine ac_ofX (ls := [.ref x, .int a, .int b, .int t]) (by decide +kernel) rfl (Nat.le_of_ble_eq_true rfl) (fun M hl C B E hnm => ?_)
  refine aw_iload_n C dX8_board_0 rfl rfl (q := 1) rfl ?_
  refine csX8_117 (As := [.int a]) (rest := []) C B dX8_board_1 (c_isSize G M.2.1 h d a) rfl rfl (Nat.le_of_ble_eq_true rfl) (by omega) (by omega) (by omega) (q := 4) rfl (fun r9 h9 hr9 => ?_)
  obtain ⟨e9, er9⟩ := hr9
  subst er9; rw [e9]
  show aw G 4 M 4 [.ref x, .int a, .int b, .int t] [.int (pb_b (¬ a < 0 ∧ ¬ 1000000 < a))] h 0 0
  refine aw_if_eq (t := 21) (q := 7) C dX8_board_4 (by decide) rfl (fun c_4 => ?_) (fun c_4 => ?_)
  ·
    refine aw_throw C B E (by rw [hl]; exact hst) thA st121 dX8_board_21 dX8_board_24 dX8_board_25 dX8_board_27 dX8_board_30 (by show 2 + 3 < _; omega) (by show 13 * (2 + 1) + 43 ≤ _; omega) (by omega) (by omega) ?_
    exact ⟨fun z => pb_0.mp c_4 z.1, rfl, rfl⟩
  ·
    refine aw_iload_n C dX8_board_7 rfl rfl (q := 8) rfl ?_
    refine csX8_117 (As := [.int b]) (rest := []) C B dX8_board_8 (c_isSize G M.2.1 h d b) rfl rfl (Nat.le_of_ble_eq_true rfl) (by omega) (by omega) (by omega) (q := 11) rfl (fun r9 h9 hr9 => ?_)
    obtain ⟨e9, er9⟩ := hr9
    subst er9; rw [e9]
    show aw G 4 M 11 [.ref x, .int a, .int b, .int t] [.int (pb_b (¬ b < 0 ∧ ¬ 1000000 < b))] h 0 0
    refine aw_if_eq (t := 21) (q := 14) C dX8_board_11 (by decide) rfl (fun c_11 => ?_) (fun c_11 => ?_)
    ·
      refine aw_throw C B E (by rw [hl]; exact hst) thA st121 dX8_board_21 dX8_board_24 dX8_board_25 dX8_board_27 dX8_board_30 (by show 2 + 3 < _; omega) (by show 13 * (2 + 1) + 43 ≤ _; omega) (by omega) (by omega) ?_
      exact ⟨fun z => pb_0.mp c_11 z.2.1, rfl, rfl⟩
    ·
      refine aw_iload_n C dX8_board_14 rfl rfl (q := 15) rfl ?_
      refine csX8_117 (As := [.int t]) (rest := []) C B dX8_board_15 (c_isSize G M.2.1 h d t) rfl rfl (Nat.le_of_ble_eq_true rfl) (by omega) (by omega) (by omega) (q := 18) rfl (fun r9 h9 hr9 => ?_)
      obtain ⟨e9, er9⟩ := hr9
      subst er9; rw [e9]
      show aw G 4 M 18 [.ref x, .int a, .int b, .int t] [.int (pb_b (¬ t < 0 ∧ ¬ 1000000 < t))] h 0 0
      refine aw_if_ne (t := 31) (q := 21) C dX8_board_18 (by decide) rfl (fun c_18 => ?_) (fun c_18 => ?_)
      ·
        refine aw_aload_n C dX8_board_31 rfl rfl (q := 32) rfl ?_
        refine gfX8_12_8 (v := .ref p) C dX8_board_32 K (hf) (q := 35) rfl ?_
        refine aw_iload_n C dX8_board_35 rfl rfl (q := 36) rfl ?_
        refine aw_iload_n C dX8_board_36 rfl rfl (q := 37) rfl ?_
        refine aw_iload_n C dX8_board_37 rfl rfl (q := 38) rfl ?_
        refine cvX8_123_1 (As := [.int a, .int b, .int t]) (rest := []) C B dX8_board_38 Kp.1 (c_resize G M.2.1 h d p A I F c a b t Kp) rfl rfl (Nat.le_of_ble_eq_true rfl) (by omega) (by omega) (by omega) (q := 41) rfl (fun r9 h5 hr9 => ?_)
        obtain ⟨er9, Kp5, kp5⟩ := hr9
        subst er9
        show aw G 4 M 41 [.ref x, .int a, .int b, .int t] [] h5 0 0
        refine aw_vretX C E dX8_board_41 (by omega) (by omega) ?_
        exact ⟨⟨pb_n c_4, pb_n c_11, pb_n c_18⟩, rfl, Kp5, kp5⟩
      ·
        refine aw_throw C B E (by rw [hl]; exact hst) thA st121 dX8_board_21 dX8_board_24 dX8_board_25 dX8_board_27 dX8_board_30 (by show 2 + 3 < _; omega) (by show 13 * (2 + 1) + 43 ≤ _; omega) (by omega) (by omega) ?_
        exact ⟨fun z => pb_0.mp c_18 z.2.2, rfl, rfl⟩
set_option maxHeartbeats 4000000 in
set_option maxRecDepth 100000 in
theorem c_clearFaults (G : ac_G) (l : Launch) (h : ac_H) (d : Nat) (x : Nat) (fs : List Value) (K : h x = some (.inr (8, fs))) (p : Nat) (A : Nat → Nat) (I : Nat → Int32) (F : Nat → Nat → Int32) (c : Nat) (hf : fs[0]? = some (.ref p)) (Kp : pl_ok h p A I F c) : ac_Met G l yX8_clearFaults cX8_clearFaults 1 none (d + 2) 0 0 [.ref x] h (fun r9 h9 => r9 = none ∧ pl_ok h9 p A (pl_cnt I 0) F 0 ∧ kp h h9 [p]) := by
  refine ac_of (ls := [.ref x]) (by decide +kernel) rfl (Nat.le_of_ble_eq_true rfl) (fun M hl C B E hnm => ?_)
  refine aw_aload_n C dX8_clearFaults_0 rfl rfl (q := 1) rfl ?_
  refine gfX8_12_8 (v := .ref p) C dX8_clearFaults_1 K (hf) (q := 4) rfl ?_
  refine cvX8_144_1 (As := []) (rest := []) C B dX8_clearFaults_4 Kp.1 (c_empty G M.2.1 h d p A I F c Kp) rfl rfl (Nat.le_of_ble_eq_true rfl) (by omega) (by omega) (by omega) (q := 7) rfl (fun r9 h5 hr9 => ?_)
  obtain ⟨er9, Kp5, kp5⟩ := hr9
  subst er9
  show aw G 1 M 7 [.ref x] [] h5 0 0
  refine aw_vret C E dX8_clearFaults_7 (Nat.le_refl _) (Nat.le_refl _) ?_
  exact ⟨rfl, Kp5, kp5⟩
set_option maxHeartbeats 4000000 in
set_option maxRecDepth 100000 in
theorem c_fault (G : ac_G) (l : Launch) (h : ac_H) (d : Nat) (x : Nat) (fs : List Value) (K : h x = some (.inr (8, fs))) (p : Nat) (A : Nat → Nat) (I : Nat → Int32) (F : Nat → Nat → Int32) (c : Nat) (hf : fs[0]? = some (.ref p)) (Kp : pl_ok h p A I F c) (fa ki a b ww hh : Int32) (hA : pl_dis A) (hst : l.stackTraces = false) : ac_MetX G l yX8_fault cX8_fault 7 (some .int) (d + 10) 1 6 [.ref x, .int fa, .int ki, .int a, .int b, .int ww, .int hh] h (fun r9 h9 => (gt_bl fa 2 ∧ c < 10 ∧ gt_bl ki 8 ∧ gt_sz a ∧ gt_sz b ∧ gt_sz ww ∧ gt_sz hh) ∧ r9 = some (.int (nI (c + 1))) ∧ pl_ok h9 p A (pl_cnt I (c + 1)) (pl_app F c (pl_arg fa ki a b ww hh)) (c + 1) ∧ kp h h9 [p, A 5, A 6, A 7, A 8, A 9, A 10]) (fun E9 h9 => (¬ gt_bl fa 2 ∧ E9 = "java/lang/ArrayIndexOutOfBoundsException" ∧ h9 = h) ∨ (gt_bl fa 2 ∧ ¬ c < 10 ∧ E9 = "java/lang/IllegalStateException" ∧ h9 = h) ∨ ((gt_bl fa 2 ∧ c < 10 ∧ ¬ (gt_bl ki 8 ∧ gt_sz a ∧ gt_sz b ∧ gt_sz ww ∧ gt_sz hh)) ∧ E9 = "java/lang/IllegalArgumentException" ∧ h9 = h)) := by
  refine ac_ofX (ls := [.ref x, .int fa, .int ki, .int a, .int b, .int ww, .int hh]) (by decide +kernel) rfl (Nat.le_of_ble_eq_true rfl) (fun M hl C B E hnm => ?_)
  refine aw_iload_n C dX8_fault_0 rfl rfl (q := 1) rfl ?_
  refine aw_iconst (v := 2) C dX8_fault_1 (by decide) (q := 2) rfl ?_
  refine csX8_127 (As := [.int fa, .int 2]) (rest := []) C B dX8_fault_2 (c_isBelow G M.2.1 h d fa 2) rfl rfl (Nat.le_of_ble_eq_true rfl) (by omega) (by omega) (by omega) (q := 5) rfl (fun r9 h9 hr9 => ?_)
  obtain ⟨e9, er9⟩ := hr9
  subst er9; rw [e9]
  show aw G 7 M 5 [.ref x, .int fa, .int ki, .int a, .int b, .int ww, .int hh] [.int (pb_b (¬ fa < 0 ∧ ¬ 2 ≤ fa))] h 0 0
  refine aw_if_ne (t := 18) (q := 8) C dX8_fault_5 (by decide) rfl (fun c_5 => ?_) (fun c_5 => ?_)
  ·
    refine aw_aload_n C dX8_fault_18 rfl rfl (q := 19) rfl ?_
    refine gfX8_12_8 (v := .ref p) C dX8_fault_19 K (hf) (q := 22) rfl ?_
    refine gfX8_136_1 (v := .int (I 3)) C dX8_fault_22 Kp.1 rfl (q := 25) rfl ?_
    refine aw_bipush (v := 10) C dX8_fault_25 (by decide) (q := 27) rfl ?_
    refine aw_icmp_lt (t := 40) (q := 30) C dX8_fault_27 (by decide) rfl (fun c_27 => ?_) (fun c_27 => ?_)
    ·
      have hc1 : c < 10 := by
        rw [Kp.2.2.1, show (10 : Int32) = nI 10 from rfl, nI_ltI (by have := Kp.2.2.2; omega) (by decide)] at c_27
        exact c_27
      refine aw_iload_n C dX8_fault_40 rfl rfl (q := 41) rfl ?_
      refine aw_bipush (v := 8) C dX8_fault_41 (by decide) (q := 43) rfl ?_
      refine csX8_127 (As := [.int ki, .int 8]) (rest := []) C B dX8_fault_43 (c_isBelow G M.2.1 h d ki 8) rfl rfl (Nat.le_of_ble_eq_true rfl) (by omega) (by omega) (by omega) (q := 46) rfl (fun r9 h9 hr9 => ?_)
      obtain ⟨e9, er9⟩ := hr9
      subst er9; rw [e9]
      show aw G 7 M 46 [.ref x, .int fa, .int ki, .int a, .int b, .int ww, .int hh] [.int (pb_b (¬ ki < 0 ∧ ¬ 8 ≤ ki))] h 0 0
      refine aw_if_eq (t := 80) (q := 49) C dX8_fault_46 (by decide) rfl (fun c_46 => ?_) (fun c_46 => ?_)
      ·
        refine aw_throw C B E (by rw [hl]; exact hst) thA st139 dX8_fault_80 dX8_fault_83 dX8_fault_84 dX8_fault_86 dX8_fault_89 (by show 2 + 3 < _; omega) (by show 13 * (2 + 1) + 43 ≤ _; omega) (by omega) (by omega) ?_
        exact Or.inr (Or.inr ⟨⟨pb_n c_5, hc1, fun z => pb_0.mp c_46 z.1⟩, rfl, rfl⟩)
      ·
        refine aw_iload_n C dX8_fault_49 rfl rfl (q := 50) rfl ?_
        refine csX8_117 (As := [.int a]) (rest := []) C B dX8_fault_50 (c_isSize G M.2.1 h d a) rfl rfl (Nat.le_of_ble_eq_true rfl) (by omega) (by omega) (by omega) (q := 53) rfl (fun r9 h9 hr9 => ?_)
        obtain ⟨e9, er9⟩ := hr9
        subst er9; rw [e9]
        show aw G 7 M 53 [.ref x, .int fa, .int ki, .int a, .int b, .int ww, .int hh] [.int (pb_b (¬ a < 0 ∧ ¬ 1000000 < a))] h 0 0
        refine aw_if_eq (t := 80) (q := 56) C dX8_fault_53 (by decide) rfl (fun c_53 => ?_) (fun c_53 => ?_)
        ·
          refine aw_throw C B E (by rw [hl]; exact hst) thA st139 dX8_fault_80 dX8_fault_83 dX8_fault_84 dX8_fault_86 dX8_fault_89 (by show 2 + 3 < _; omega) (by show 13 * (2 + 1) + 43 ≤ _; omega) (by omega) (by omega) ?_
          exact Or.inr (Or.inr ⟨⟨pb_n c_5, hc1, fun z => pb_0.mp c_53 z.2.1⟩, rfl, rfl⟩)
        ·
          refine aw_iload C dX8_fault_56 rfl (q := 58) rfl ?_
          refine csX8_117 (As := [.int b]) (rest := []) C B dX8_fault_58 (c_isSize G M.2.1 h d b) rfl rfl (Nat.le_of_ble_eq_true rfl) (by omega) (by omega) (by omega) (q := 61) rfl (fun r9 h9 hr9 => ?_)
          obtain ⟨e9, er9⟩ := hr9
          subst er9; rw [e9]
          show aw G 7 M 61 [.ref x, .int fa, .int ki, .int a, .int b, .int ww, .int hh] [.int (pb_b (¬ b < 0 ∧ ¬ 1000000 < b))] h 0 0
          refine aw_if_eq (t := 80) (q := 64) C dX8_fault_61 (by decide) rfl (fun c_61 => ?_) (fun c_61 => ?_)
          ·
            refine aw_throw C B E (by rw [hl]; exact hst) thA st139 dX8_fault_80 dX8_fault_83 dX8_fault_84 dX8_fault_86 dX8_fault_89 (by show 2 + 3 < _; omega) (by show 13 * (2 + 1) + 43 ≤ _; omega) (by omega) (by omega) ?_
            exact Or.inr (Or.inr ⟨⟨pb_n c_5, hc1, fun z => pb_0.mp c_61 z.2.2.1⟩, rfl, rfl⟩)
          ·
            refine aw_iload C dX8_fault_64 rfl (q := 66) rfl ?_
            refine csX8_117 (As := [.int ww]) (rest := []) C B dX8_fault_66 (c_isSize G M.2.1 h d ww) rfl rfl (Nat.le_of_ble_eq_true rfl) (by omega) (by omega) (by omega) (q := 69) rfl (fun r9 h9 hr9 => ?_)
            obtain ⟨e9, er9⟩ := hr9
            subst er9; rw [e9]
            show aw G 7 M 69 [.ref x, .int fa, .int ki, .int a, .int b, .int ww, .int hh] [.int (pb_b (¬ ww < 0 ∧ ¬ 1000000 < ww))] h 0 0
            refine aw_if_eq (t := 80) (q := 72) C dX8_fault_69 (by decide) rfl (fun c_69 => ?_) (fun c_69 => ?_)
            ·
              refine aw_throw C B E (by rw [hl]; exact hst) thA st139 dX8_fault_80 dX8_fault_83 dX8_fault_84 dX8_fault_86 dX8_fault_89 (by show 2 + 3 < _; omega) (by show 13 * (2 + 1) + 43 ≤ _; omega) (by omega) (by omega) ?_
              exact Or.inr (Or.inr ⟨⟨pb_n c_5, hc1, fun z => pb_0.mp c_69 z.2.2.2.1⟩, rfl, rfl⟩)
            ·
              refine aw_iload C dX8_fault_72 rfl (q := 74) rfl ?_
              refine csX8_117 (As := [.int hh]) (rest := []) C B dX8_fault_74 (c_isSize G M.2.1 h d hh) rfl rfl (Nat.le_of_ble_eq_true rfl) (by omega) (by omega) (by omega) (q := 77) rfl (fun r9 h9 hr9 => ?_)
              obtain ⟨e9, er9⟩ := hr9
              subst er9; rw [e9]
              show aw G 7 M 77 [.ref x, .int fa, .int ki, .int a, .int b, .int ww, .int hh] [.int (pb_b (¬ hh < 0 ∧ ¬ 1000000 < hh))] h 0 0
              refine aw_if_ne (t := 90) (q := 80) C dX8_fault_77 (by decide) rfl (fun c_77 => ?_) (fun c_77 => ?_)
              ·
                refine aw_aload_n C dX8_fault_90 rfl rfl (q := 91) rfl ?_
                refine gfX8_12_8 (v := .ref p) C dX8_fault_91 K (hf) (q := 94) rfl ?_
                refine aw_iload_n C dX8_fault_94 rfl rfl (q := 95) rfl ?_
                refine aw_iload_n C dX8_fault_95 rfl rfl (q := 96) rfl ?_
                refine aw_iload_n C dX8_fault_96 rfl rfl (q := 97) rfl ?_
                refine aw_iload C dX8_fault_97 rfl (q := 99) rfl ?_
                refine aw_iload C dX8_fault_99 rfl (q := 101) rfl ?_
                refine aw_iload C dX8_fault_101 rfl (q := 103) rfl ?_
                refine cvX8_141_1 (As := [.int fa, .int ki, .int a, .int b, .int ww, .int hh]) (rest := []) C B dX8_fault_103 Kp.1 (c_append G M.2.1 h d p A I F c fa ki a b ww hh Kp hA hc1) rfl rfl (Nat.le_of_ble_eq_true rfl) (by omega) (by omega) (by omega) (q := 106) rfl (fun r9 h5 hr9 => ?_)
                obtain ⟨er9, Kp5, kp5⟩ := hr9
                subst er9
                have Kx5 : h5 x = some (.inr (8, fs)) := kp5 _ _ K (ni1 (ne_of K Kp.1 (fun z => by cases z)) (ni1 (Ne.symm (ne_ai (Kp.2.1 5 (by decide) (by decide)) K)) (ni1 (Ne.symm (ne_ai (Kp.2.1 6 (by decide) (by decide)) K)) (ni1 (Ne.symm (ne_ai (Kp.2.1 7 (by decide) (by decide)) K)) (ni1 (Ne.symm (ne_ai (Kp.2.1 8 (by decide) (by decide)) K)) (ni1 (Ne.symm (ne_ai (Kp.2.1 9 (by decide) (by decide)) K)) (ni1 (Ne.symm (ne_ai (Kp.2.1 10 (by decide) (by decide)) K)) ni0)))))))
                show aw G 7 M 106 [.ref x, .int fa, .int ki, .int a, .int b, .int ww, .int hh] [] h5 0 0
                refine aw_aload_n C dX8_fault_106 rfl rfl (q := 107) rfl ?_
                refine gfX8_12_8 (v := .ref p) C dX8_fault_107 Kx5 (hf) (q := 110) rfl ?_
                refine gfX8_136_1 (v := .int (nI (c + 1))) C dX8_fault_110 Kp5.1 rfl (q := 113) rfl ?_
                refine aw_iretX C E dX8_fault_113 (by omega) (by omega) ?_
                exact ⟨⟨pb_n c_5, hc1, pb_n c_46, pb_n c_53, pb_n c_61, pb_n c_69, pb_n c_77⟩, rfl, Kp5, kp5⟩
              ·
                refine aw_throw C B E (by rw [hl]; exact hst) thA st139 dX8_fault_80 dX8_fault_83 dX8_fault_84 dX8_fault_86 dX8_fault_89 (by show 2 + 3 < _; omega) (by show 13 * (2 + 1) + 43 ≤ _; omega) (by omega) (by omega) ?_
                exact Or.inr (Or.inr ⟨⟨pb_n c_5, hc1, fun z => pb_0.mp c_77 z.2.2.2.2⟩, rfl, rfl⟩)
    ·
      refine aw_throw C B E (by rw [hl]; exact hst) thS st137 dX8_fault_30 dX8_fault_33 dX8_fault_34 dX8_fault_36 dX8_fault_39 (by show 2 + 3 < _; omega) (by show 13 * (2 + 1) + 43 ≤ _; omega) (by omega) (by omega) ?_
      exact Or.inr (Or.inl ⟨pb_n c_5, by
        rw [Kp.2.2.1, show (10 : Int32) = nI 10 from rfl, nI_ltI (by have := Kp.2.2.2; omega) (by decide)] at c_27
        exact c_27, rfl, rfl⟩)
  ·
    refine aw_throw C B E (by rw [hl]; exact hst) thX st133 dX8_fault_8 dX8_fault_11 dX8_fault_12 dX8_fault_14 dX8_fault_17 (by show 3 + 3 < _; omega) (by show 13 * (3 + 1) + 43 ≤ _; omega) (by omega) (by omega) ?_
    exact Or.inl ⟨pb_0.mp c_5, rfl, rfl⟩
set_option maxHeartbeats 4000000 in
set_option maxRecDepth 100000 in
theorem c_machine (G : ac_G) (l : Launch) (h : ac_H) (d : Nat) (x : Nat) (fs : List Value) (K : h x = some (.inr (8, fs))) (t : Nat) (F : Nat → Int32) (hf : fs[11]? = some (.ref t)) (Kt : h t = some (.inl (1, 100, .inl F))) (g y : Int32) (hst : l.stackTraces = false) : ac_MetX G l yX8_machine cX8_machine 4 (some .int) (d + 10) 1 6 [.ref x, .int g, .int y] h (fun r9 h9 => (gt_bl g 10 ∧ gt_bl y 10) ∧ r9 = some (.int (F (g * 10 + y).toNatClampNeg + 1)) ∧ h9 t = some (.inl (1, 100, .inl (upd F (g * 10 + y).toNatClampNeg (F (g * 10 + y).toNatClampNeg + 1)))) ∧ kp h h9 [t]) (fun E9 h9 => ¬ (gt_bl g 10 ∧ gt_bl y 10) ∧ E9 = "java/lang/IllegalArgumentException" ∧ h9 = h) := by
  refine ac_ofX (ls := [.ref x, .int g, .int y, .retAddr 0]) (by decide +kernel) rfl (Nat.le_of_ble_eq_true rfl) (fun M hl C B E hnm => ?_)
  refine aw_iload_n C dX8_machine_0 rfl rfl (q := 1) rfl ?_
  refine aw_bipush (v := 10) C dX8_machine_1 (by decide) (q := 3) rfl ?_
  refine csX8_127 (As := [.int g, .int 10]) (rest := []) C B dX8_machine_3 (c_isBelow G M.2.1 h d g 10) rfl rfl (Nat.le_of_ble_eq_true rfl) (by omega) (by omega) (by omega) (q := 6) rfl (fun r9 h9 hr9 => ?_)
  obtain ⟨e9, er9⟩ := hr9
  subst er9; rw [e9]
  show aw G 4 M 6 [.ref x, .int g, .int y, .retAddr 0] [.int (pb_b (¬ g < 0 ∧ ¬ 10 ≤ g))] h 0 0
  refine aw_if_eq (t := 18) (q := 9) C dX8_machine_6 (by decide) rfl (fun c_6 => ?_) (fun c_6 => ?_)
  ·
    refine aw_throw C B E (by rw [hl]; exact hst) thA st211 dX8_machine_18 dX8_machine_21 dX8_machine_22 dX8_machine_24 dX8_machine_27 (by show 2 + 3 < _; omega) (by show 13 * (2 + 1) + 43 ≤ _; omega) (by omega) (by omega) ?_
    exact ⟨fun z => pb_0.mp c_6 z.1, rfl, rfl⟩
  ·
    refine aw_iload_n C dX8_machine_9 rfl rfl (q := 10) rfl ?_
    refine aw_bipush (v := 10) C dX8_machine_10 (by decide) (q := 12) rfl ?_
    refine csX8_127 (As := [.int y, .int 10]) (rest := []) C B dX8_machine_12 (c_isBelow G M.2.1 h d y 10) rfl rfl (Nat.le_of_ble_eq_true rfl) (by omega) (by omega) (by omega) (q := 15) rfl (fun r9 h9 hr9 => ?_)
    obtain ⟨e9, er9⟩ := hr9
    subst er9; rw [e9]
    show aw G 4 M 15 [.ref x, .int g, .int y, .retAddr 0] [.int (pb_b (¬ y < 0 ∧ ¬ 10 ≤ y))] h 0 0
    refine aw_if_ne (t := 28) (q := 18) C dX8_machine_15 (by decide) rfl (fun c_15 => ?_) (fun c_15 => ?_)
    ·
      obtain ⟨g1, hg1, eg⟩ := gt_ix (b := 10) (by decide) (pb_n c_6)
      obtain ⟨y1, hy1, ey⟩ := gt_ix (b := 10) (by decide) (pb_n c_15)
      have hb0 : gt_bl g 10 ∧ gt_bl y 10 := ⟨pb_n c_6, pb_n c_15⟩
      have epl : g * 10 + y = nI (g1 * 10 + y1) := by
        rw [eg, ey, show (10 : Int32) = nI 10 from rfl, show nI g1 * nI 10 = nI (g1 * 10) from (Int32.ofNat_mul g1 10).symm, nI_add]
      refine aw_iload_n C dX8_machine_28 rfl rfl (q := 29) rfl ?_
      refine aw_bipush (v := 10) C dX8_machine_29 (by decide) (q := 31) rfl ?_
      refine aw_imul C dX8_machine_31 (q := 32) rfl ?_
      refine aw_iload_n C dX8_machine_32 rfl rfl (q := 33) rfl ?_
      refine aw_iadd C dX8_machine_33 (q := 34) rfl ?_
      refine aw_istore_n (ls' := [.ref x, .int g, .int y, .int ((g * 10) + y)]) C dX8_machine_34 rfl (by decide) rfl (q := 35) rfl ?_
      refine aw_aload_n C dX8_machine_35 rfl rfl (q := 36) rfl ?_
      refine gfX8_76_8 (v := .ref t) C dX8_machine_36 K (hf) (q := 39) rfl ?_
      refine aw_iload_n C dX8_machine_39 rfl rfl (q := 40) rfl ?_
      refine aw_dup2_11 C dX8_machine_40 rfl rfl (q := 41) rfl ?_
      refine ay_iald (j := (g * 10 + y).toNatClampNeg) C dX8_machine_41 Kt (by rw [epl]; exact vp_in_nI (by omega) (by decide)) (rfl) (q := 42) rfl ?_
      refine aw_iconst (v := 1) C dX8_machine_42 (by decide) (q := 43) rfl ?_
      refine aw_iadd C dX8_machine_43 (q := 44) rfl ?_
      refine ay_iast (j := (g * 10 + y).toNatClampNeg) C dX8_machine_44 Kt (by rw [epl]; exact vp_in_nI (by omega) (by decide)) (rfl) (q := 45) rfl ?_
      show aw G 4 M 45 [.ref x, .int g, .int y, .int ((g * 10) + y)] [] (ac_up h t (.inl (1, 100, .inl (upd F ((g * 10 + y).toNatClampNeg) ((F ((g * 10 + y).toNatClampNeg)) + 1))))) 0 0
      obtain ⟨h_1, eh_1⟩ : ∃ z9, z9 = ac_up h t (.inl (1, 100, .inl (upd F ((g * 10 + y).toNatClampNeg) ((F ((g * 10 + y).toNatClampNeg)) + 1)))) := ⟨_, rfl⟩
      rw [← eh_1]
      have f_2 : h_1 x = some (.inr (8, fs)) := by rw [eh_1, ac_up_n _ _ (Ne.symm (ne_ai Kt K))]; exact K
      have f_3 : h_1 t = some (.inl (1, 100, .inl (upd F ((g * 10 + y).toNatClampNeg) ((F ((g * 10 + y).toNatClampNeg)) + 1)))) := by rw [eh_1]; exact ac_up_s _ _ _
      have kp_4 : kp h h_1 [t] := by rw [eh_1]; exact kp_up (kp_cons t kp_rf) _ _ (by simp)
      refine aw_aload_n C dX8_machine_45 rfl rfl (q := 46) rfl ?_
      refine gfX8_76_8 (v := .ref t) C dX8_machine_46 f_2 (hf) (q := 49) rfl ?_
      refine aw_iload_n C dX8_machine_49 rfl rfl (q := 50) rfl ?_
      refine ay_iald (j := (g * 10 + y).toNatClampNeg) C dX8_machine_50 f_3 (by rw [epl]; exact vp_in_nI (by omega) (by decide)) (rfl) (q := 51) rfl ?_
      refine aw_iretX C E dX8_machine_51 (by omega) (by omega) ?_
      exact ⟨hb0, by rw [show upd F (g * 10 + y).toNatClampNeg (F (g * 10 + y).toNatClampNeg + 1) (g * 10 + y).toNatClampNeg = F (g * 10 + y).toNatClampNeg + 1 from if_pos rfl], f_3, kp_4⟩
    ·
      refine aw_throw C B E (by rw [hl]; exact hst) thA st211 dX8_machine_18 dX8_machine_21 dX8_machine_22 dX8_machine_24 dX8_machine_27 (by show 2 + 3 < _; omega) (by show 13 * (2 + 1) + 43 ≤ _; omega) (by omega) (by omega) ?_
      exact ⟨fun z => pb_0.mp c_15 z.2, rfl, rfl⟩
