/-! The reference: isFirst, many -/
def mo_many (e : Int32) : Nat → Nat
  | 0 => 0
  | i + 1 => if e >>> (nI i &&& 31) &&& 1 = 1 then mo_many e i + 1 else mo_many e i
set_option maxHeartbeats 4000000 in
set_option maxRecDepth 100000 in
theorem m_isFirst (G : ac_G) (l : Launch) (h : ac_H) (d : Nat) (a b : Int32) : ac_Met G l yX9_isFirst cX9_isFirst 3 (some .boolean) d 0 0 [.int a, .int b] h (pq h (some (.int (pb_b (¬ a &&& (a ^^^ b) &&& -(a ^^^ b) = 0))))) := by
  refine ac_of (ls := [.int a, .int b, .retAddr 0]) (by decide +kernel) rfl (Nat.le_of_ble_eq_true rfl) (fun M hl C B E hnm => ?_)
  refine aw_iload_n C dX9_isFirst_0 rfl rfl (q := 1) rfl ?_
  refine aw_iload_n C dX9_isFirst_1 rfl rfl (q := 2) rfl ?_
  refine aw_ixor C dX9_isFirst_2 (q := 3) rfl ?_
  refine aw_istore_n (ls' := [.int a, .int b, .int (a ^^^ b)]) C dX9_isFirst_3 rfl (by decide) rfl (q := 4) rfl ?_
  refine aw_iload_n C dX9_isFirst_4 rfl rfl (q := 5) rfl ?_
  refine aw_iload_n C dX9_isFirst_5 rfl rfl (q := 6) rfl ?_
  refine aw_iand C dX9_isFirst_6 (q := 7) rfl ?_
  refine aw_iload_n C dX9_isFirst_7 rfl rfl (q := 8) rfl ?_
  refine aw_ineg C dX9_isFirst_8 (q := 9) rfl ?_
  refine aw_iand C dX9_isFirst_9 (q := 10) rfl ?_
  refine aw_if_eq (t := 17) (q := 13) C dX9_isFirst_10 (by decide) rfl (fun c_10 => ?_) (fun c_10 => ?_)
  ·
    refine aw_iconst (v := 0) C dX9_isFirst_17 (by decide) (q := 18) rfl ?_
    refine aw_zret C E dX9_isFirst_18 (rfl) (Nat.le_refl _) (Nat.le_refl _) ?_
    exact ⟨rfl, by unfold pb_b; rw [if_neg (fun z => z c_10)]⟩
  ·
    refine aw_iconst (v := 1) C dX9_isFirst_13 (by decide) (q := 14) rfl ?_
    refine aw_goto (q := 18) C dX9_isFirst_14 (by decide) ?_
    refine aw_zret C E dX9_isFirst_18 (rfl) (Nat.le_refl _) (Nat.le_refl _) ?_
    exact ⟨rfl, by unfold pb_b; rw [if_pos c_10]⟩
set_option maxHeartbeats 4000000 in
set_option maxRecDepth 100000 in
theorem ml_many {G : ac_G} {M : ac_M} {h : ac_H} {d : Nat} {e : Int32} (C : ac_MC G RX9 cX9_many 3 (some .int) M) (B : ac_Bd M (d + 1) 0 0) (E : ac_End G (pq h (some (.int (nI (mo_many e 10))))) 0 0 M) :
    ∀ (m i : Nat), i + m = 10 → aw G 3 M 4 [.int e, .int (nI (mo_many e i)), .int (nI i)] [] h 0 0 := by
  intro m
  induction m with
  | zero =>
    intro i hi
    have hi2 : i = 10 := by omega
    subst hi2
    refine aw_iload_n C dX9_many_4 rfl rfl (q := 5) rfl ?_
    refine aw_bipush (v := 10) C dX9_many_5 (by decide) (q := 7) rfl ?_
    refine aw_icmp_ge (t := 32) (q := 10) C dX9_many_7 (by decide) rfl (fun c_7 => ?_) (fun c_7 => absurd c_7 (by decide))
    refine aw_iload_n C dX9_many_32 rfl rfl (q := 33) rfl ?_
    refine aw_iret C E dX9_many_33 (Nat.le_refl _) (Nat.le_refl _) ?_
    exact ⟨rfl, rfl⟩
  | succ m ih =>
    intro i hi
    refine aw_iload_n C dX9_many_4 rfl rfl (q := 5) rfl ?_
    refine aw_bipush (v := 10) C dX9_many_5 (by decide) (q := 7) rfl ?_
    refine aw_icmp_ge (t := 32) (q := 10) C dX9_many_7 (by decide) rfl (fun c_7 => absurd c_7 (ni_nge i 10 rfl rfl (by omega) (by decide) (by omega))) (fun c_7 => ?_)
    refine aw_iload_n C dX9_many_10 rfl rfl (q := 11) rfl ?_
    refine aw_iload_n C dX9_many_11 rfl rfl (q := 12) rfl ?_
    refine csX9_220 (As := [.int e, .int (nI i)]) (rest := []) C B dX9_many_12 (m_has G M.2.1 h d e (nI i)) rfl rfl (Nat.le_of_ble_eq_true rfl) (by omega) (by omega) (by omega) (q := 15) rfl (fun r9 h9 hr9 => ?_)
    obtain ⟨e9, er9⟩ := hr9
    subst er9; rw [e9]
    show aw G 3 M 15 [.int e, .int (nI (mo_many e i)), .int (nI i)] [.int (pb_b (e >>> ((nI i) &&& 31) &&& 1 = 1))] h 0 0
    refine aw_if_eq (t := 24) (q := 18) C dX9_many_15 (by decide) rfl (fun c_15 => ?_) (fun c_15 => ?_)
    ·
      refine aw_iload_n C dX9_many_24 rfl rfl (q := 25) rfl ?_
      refine aw_istore_n (ls' := [.int e, .int (nI (mo_many e i)), .int (nI i)]) C dX9_many_25 rfl (by decide) rfl (q := 26) rfl ?_
      refine aw_iinc (v := nI (i + 1)) (ls' := [.int e, .int (nI (mo_many e i)), .int (nI (i + 1))]) C dX9_many_26 rfl (nI_1 i) (by decide) rfl (q := 29) rfl ?_
      refine aw_goto (q := 4) C dX9_many_29 (by decide) ?_
      have z := ih (i + 1) (by omega)
      rw [show mo_many e (i + 1) = _ from if_neg (pb_0.mp c_15)] at z
      exact z
    ·
      refine aw_iload_n C dX9_many_18 rfl rfl (q := 19) rfl ?_
      refine aw_iconst (v := 1) C dX9_many_19 (by decide) (q := 20) rfl ?_
      refine aw_iadd C dX9_many_20 (q := 21) rfl ?_
      refine aw_goto (q := 25) C dX9_many_21 (by decide) ?_
      rw [show nI (mo_many e i) + 1 = nI (mo_many e i + 1) from nI_1 _]
      refine aw_istore_n (ls' := [.int e, .int (nI (mo_many e i + 1)), .int (nI i)]) C dX9_many_25 rfl (by decide) rfl (q := 26) rfl ?_
      refine aw_iinc (v := nI (i + 1)) (ls' := [.int e, .int (nI (mo_many e i + 1)), .int (nI (i + 1))]) C dX9_many_26 rfl (nI_1 i) (by decide) rfl (q := 29) rfl ?_
      refine aw_goto (q := 4) C dX9_many_29 (by decide) ?_
      have z := ih (i + 1) (by omega)
      rw [show mo_many e (i + 1) = _ from if_pos (pb_n c_15)] at z
      exact z
set_option maxHeartbeats 4000000 in
set_option maxRecDepth 100000 in
theorem m_many (G : ac_G) (l : Launch) (h : ac_H) (d : Nat) (e : Int32) : ac_Met G l yX9_many cX9_many 3 (some .int) (d + 1) 0 0 [.int e] h (pq h (some (.int (nI (mo_many e 10))))) := by
  refine ac_of (ls := [.int e, .retAddr 0, .retAddr 0]) (by decide +kernel) rfl (Nat.le_of_ble_eq_true rfl) (fun M hl C B E hnm => ?_)
  refine aw_iconst (v := 0) C dX9_many_0 (by decide) (q := 1) rfl ?_
  refine aw_istore_n (ls' := [.int e, .int 0, .retAddr 0]) C dX9_many_1 rfl (by decide) rfl (q := 2) rfl ?_
  refine aw_iconst (v := 0) C dX9_many_2 (by decide) (q := 3) rfl ?_
  refine aw_istore_n (ls' := [.int e, .int 0, .int 0]) C dX9_many_3 rfl (by decide) rfl (q := 4) rfl ?_
  exact ml_many C B E 10 0 rfl
