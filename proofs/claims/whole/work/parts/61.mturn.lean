/-! The reference's reader: readExpression, turn by turn -/
/-- pops until the topmost is the opening parenthesis -/
def mz_po : pz_P → pz_P → pz_P × pz_P
  | [], U => ([], U)
  | x :: r, U => if ¬ x.1 < 17 ∧ ¬ 17 < x.1 then (x :: r, U) else mz_po r (x :: U)
theorem mz_po_len : ∀ (W U : pz_P), (mz_po W U).1.length + (mz_po W U).2.length = W.length + U.length := by
  intro W
  induction W with
  | nil => intro U; rfl
  | cons x r ih =>
    intro U
    unfold mz_po
    by_cases z : ¬ x.1 < 17 ∧ ¬ 17 < x.1
    · rw [if_pos z]
    · rw [if_neg z, ih]; simp; omega
/-- a state of the loop: a factor was read; more; the depth; the configuration -/
abbrev mz_st : Type := Bool × Bool × Nat × mz_C
def mz_it (u : Nat → Int32) (n : Nat) (x : mz_st) : mz_st :=
  if x.1 = false then ((mz_rf u n x.2.2.1 x.2.2.2.1 x.2.2.2.2.1 x.2.2.2.2.2.1 x.2.2.2.2.2.2).1, true, (if mz_c u n x.2.2.2.1 = 40 then x.2.2.1 + 1 else x.2.2.1), (mz_rf u n x.2.2.1 x.2.2.2.1 x.2.2.2.2.1 x.2.2.2.2.2.1 x.2.2.2.2.2.2).2)
  else if mz_c u n x.2.2.2.1 = 43 ∨ mz_c u n x.2.2.2.1 = 45 then (false, true, x.2.2.1, (x.2.2.2.1 + 1, (mz_pp 12 15 x.2.2.2.2.2.1 x.2.2.2.2.1).2, ((if mz_c u n x.2.2.2.1 = 43 then 12 else 13), 0) :: (mz_pp 12 15 x.2.2.2.2.2.1 x.2.2.2.2.1).1, x.2.2.2.2.2.2))
  else if mz_c u n x.2.2.2.1 = 42 ∨ mz_c u n x.2.2.2.1 = 47 then (false, true, x.2.2.1, (x.2.2.2.1 + 1, (mz_pp 14 15 x.2.2.2.2.2.1 x.2.2.2.2.1).2, ((if mz_c u n x.2.2.2.1 = 42 then 14 else 15), 0) :: (mz_pp 14 15 x.2.2.2.2.2.1 x.2.2.2.2.1).1, x.2.2.2.2.2.2))
  else if mz_c u n x.2.2.2.1 = 41 ∧ 0 < x.2.2.1 then (true, true, x.2.2.1 - 1, mz_en (x.2.2.2.1 + 1) (mz_po x.2.2.2.2.2.1 x.2.2.2.2.1).2 (mz_po x.2.2.2.2.2.1 x.2.2.2.2.1).1.tail x.2.2.2.2.2.2)
  else if 0 < x.2.2.1 then (true, true, x.2.2.1, (x.2.2.2.1, x.2.2.2.2.1, x.2.2.2.2.2.1, mz_fl x.2.2.2.1 x.2.2.2.2.2.2))
  else (true, false, x.2.2.1, x.2.2.2)
theorem mz_it1 (u : Nat → Int32) (n dp a : Nat) (U W : pz_P) (fl : Option Nat) : mz_it u n (true, true, dp, (a, U, W, fl)) =
  (if mz_c u n a = 43 ∨ mz_c u n a = 45 then (false, true, dp, (a + 1, (mz_pp 12 15 W U).2, ((if mz_c u n a = 43 then 12 else 13), 0) :: (mz_pp 12 15 W U).1, fl))
  else if mz_c u n a = 42 ∨ mz_c u n a = 47 then (false, true, dp, (a + 1, (mz_pp 14 15 W U).2, ((if mz_c u n a = 42 then 14 else 15), 0) :: (mz_pp 14 15 W U).1, fl))
  else if mz_c u n a = 41 ∧ 0 < dp then (true, true, dp - 1, mz_en (a + 1) (mz_po W U).2 (mz_po W U).1.tail fl)
  else if 0 < dp then (true, true, dp, (a, U, W, mz_fl a fl))
  else (true, false, dp, (a, U, W, fl))) := rfl
/-- what a turn wants -/
def mz_gd (x : mz_st) : Prop := x.2.2.2.1 ≤ 700 ∧ x.2.2.2.2.1.length + x.2.2.2.2.2.1.length ≤ 310 ∧ x.2.2.1 ≤ 100 ∧ (0 < x.2.2.1 → ¬ (mz_po x.2.2.2.2.2.1 x.2.2.2.2.1).1 = [])
/-- N turns lead from x to y -/
def mz_rs (u : Nat → Int32) (n : Nat) : Nat → mz_st → mz_st → Prop
  | 0, x, y => y = x
  | N + 1, x, y => (x.2.1 = true ∧ x.2.2.2.2.2.2 = none) ∧ mz_gd x ∧ mz_rs u n N (mz_it u n x) y
set_option maxHeartbeats 4000000 in
set_option maxRecDepth 100000 in
theorem ml_pw12 {G : ac_G} {M : ac_M} {o : Nat} {md : Nat → Nat} (hm : md_inj md) {h : ac_H} {d : Nat} {s : md_S} {u : Nat → Int32} {n a dp : Nat} {c : Int32} (ha : a ≤ 900) (C : ac_MC G RX9 cX9_readExpression 5 none M) (B : ac_Bd M (d + 5) 0 0) :
    ∀ (W U : pz_P) (h1 : ac_H) (s1 : md_S), md_ok h1 o md s1 → mz_rep s1 u n (a, U, W, none) → mz_fr s s1 → kp h h1 (md_L o md) → U.length + W.length ≤ 320 → (kk : ∀ (h2 : ac_H) (s2 : md_S), md_ok h2 o md s2 → mz_rep s2 u n (a, (mz_pp 12 15 W U).2, (mz_pp 12 15 W U).1, none) → mz_fr s s2 → kp h h2 (md_L o md) → aw G 5 M 85 [.ref o, .int 1, .int 1, .int (nI dp), .int c] [] h2 0 0) → aw G 5 M 67 [.ref o, .int 1, .int 1, .int (nI dp), .int c] [] h1 0 0 := by
  intro W
  induction W with
  | nil =>
    intro U h1 s1 K R F kq hb kk
    refine aw_aload_n C dX9_readExpression_67 rfl rfl (q := 68) rfl ?_
    refine aw_bipush (v := 12) C dX9_readExpression_68 (by decide) (q := 70) rfl ?_
    refine aw_bipush (v := 15) C dX9_readExpression_70 (by decide) (q := 72) rfl ?_
    refine cvX9_109_9 (As := [.int 12, .int 15]) (rest := []) C B dX9_readExpression_72 K.1 (p_wait G M.2.1 o md hm h1 (d + 4) s1 K u n a U [] none R ha (by decide) 12 15) rfl rfl (Nat.le_of_ble_eq_true rfl) (by omega) (by omega) (by omega) (q := 75) rfl (fun r9 h9 hr9 => ?_)
    obtain ⟨e9, er9⟩ := hr9
    subst er9; rw [e9]
    show aw G 5 M 75 [.ref o, .int 1, .int 1, .int (nI dp), .int c] [.int (pb_b (mz_wt [] 12 15 = true))] h1 0 0
    refine aw_if_eq (t := 85) (q := 78) C dX9_readExpression_75 (by decide) rfl (fun c_75 => ?_) (fun c_75 => absurd c_75 (fun z => z (pb_f (by decide))))
    exact kk h1 s1 K R F kq
  | cons x r ih =>
    intro U h1 s1 K R F kq hb kk
    have hb2 : U.length + r.length < 320 := by simp at hb; omega
    have hb3 : (x :: r).length ≤ 320 := by omega
    refine aw_aload_n C dX9_readExpression_67 rfl rfl (q := 68) rfl ?_
    refine aw_bipush (v := 12) C dX9_readExpression_68 (by decide) (q := 70) rfl ?_
    refine aw_bipush (v := 15) C dX9_readExpression_70 (by decide) (q := 72) rfl ?_
    refine cvX9_109_9 (As := [.int 12, .int 15]) (rest := []) C B dX9_readExpression_72 K.1 (p_wait G M.2.1 o md hm h1 (d + 4) s1 K u n a U (x :: r) none R ha hb3 12 15) rfl rfl (Nat.le_of_ble_eq_true rfl) (by omega) (by omega) (by omega) (q := 75) rfl (fun r9 h9 hr9 => ?_)
    obtain ⟨e9, er9⟩ := hr9
    subst er9; rw [e9]
    show aw G 5 M 75 [.ref o, .int 1, .int 1, .int (nI dp), .int c] [.int (pb_b (mz_wt (x :: r) 12 15 = true))] h1 0 0
    refine aw_if_eq (t := 85) (q := 78) C dX9_readExpression_75 (by decide) rfl (fun c_75 => ?_) (fun c_75 => ?_)
    ·
      rw [show mz_pp 12 15 (x :: r) U = (x :: r, U) from if_neg (fun z => pb_0.mp c_75 (decide_eq_true z))] at kk
      exact kk h1 s1 K R F kq
    ·
      refine aw_aload_n C dX9_readExpression_78 rfl rfl (q := 79) rfl ?_
      refine cvX9_113_9 (As := []) (rest := []) C B dX9_readExpression_79 K.1 (p_pop G M.2.1 o md hm h1 d s1 K u n a U r none x R hb2) rfl rfl (Nat.le_of_ble_eq_true rfl) (by omega) (by omega) (by omega) (q := 82) rfl (fun r9 h_1 hr9 => ?_)
      obtain ⟨s_2, er9, K_3, R_4, F_5, kpx_6⟩ := hr9
      subst er9
      show aw G 5 M 82 [.ref o, .int 1, .int 1, .int (nI dp), .int c] [] h_1 0 0
      refine aw_goto (q := 67) C dX9_readExpression_82 (by decide) ?_
      refine ih (x :: U) h_1 s_2 K_3 R_4 (mz_fr_tr F F_5) (kp_in kq kpx_6 (fun _ z => z)) (by simp; omega) ?_
      rw [show mz_pp 12 15 r (x :: U) = mz_pp 12 15 (x :: r) U from (if_pos (of_decide_eq_true (pb_n c_75))).symm]
      exact kk
set_option maxHeartbeats 4000000 in
set_option maxRecDepth 100000 in
theorem ml_pw14 {G : ac_G} {M : ac_M} {o : Nat} {md : Nat → Nat} (hm : md_inj md) {h : ac_H} {d : Nat} {s : md_S} {u : Nat → Int32} {n a dp : Nat} {c : Int32} (ha : a ≤ 900) (C : ac_MC G RX9 cX9_readExpression 5 none M) (B : ac_Bd M (d + 5) 0 0) :
    ∀ (W U : pz_P) (h1 : ac_H) (s1 : md_S), md_ok h1 o md s1 → mz_rep s1 u n (a, U, W, none) → mz_fr s s1 → kp h h1 (md_L o md) → U.length + W.length ≤ 320 → (kk : ∀ (h2 : ac_H) (s2 : md_S), md_ok h2 o md s2 → mz_rep s2 u n (a, (mz_pp 14 15 W U).2, (mz_pp 14 15 W U).1, none) → mz_fr s s2 → kp h h2 (md_L o md) → aw G 5 M 151 [.ref o, .int 1, .int 1, .int (nI dp), .int c] [] h2 0 0) → aw G 5 M 133 [.ref o, .int 1, .int 1, .int (nI dp), .int c] [] h1 0 0 := by
  intro W
  induction W with
  | nil =>
    intro U h1 s1 K R F kq hb kk
    refine aw_aload_n C dX9_readExpression_133 rfl rfl (q := 134) rfl ?_
    refine aw_bipush (v := 14) C dX9_readExpression_134 (by decide) (q := 136) rfl ?_
    refine aw_bipush (v := 15) C dX9_readExpression_136 (by decide) (q := 138) rfl ?_
    refine cvX9_109_9 (As := [.int 14, .int 15]) (rest := []) C B dX9_readExpression_138 K.1 (p_wait G M.2.1 o md hm h1 (d + 4) s1 K u n a U [] none R ha (by decide) 14 15) rfl rfl (Nat.le_of_ble_eq_true rfl) (by omega) (by omega) (by omega) (q := 141) rfl (fun r9 h9 hr9 => ?_)
    obtain ⟨e9, er9⟩ := hr9
    subst er9; rw [e9]
    show aw G 5 M 141 [.ref o, .int 1, .int 1, .int (nI dp), .int c] [.int (pb_b (mz_wt [] 14 15 = true))] h1 0 0
    refine aw_if_eq (t := 151) (q := 144) C dX9_readExpression_141 (by decide) rfl (fun c_141 => ?_) (fun c_141 => absurd c_141 (fun z => z (pb_f (by decide))))
    exact kk h1 s1 K R F kq
  | cons x r ih =>
    intro U h1 s1 K R F kq hb kk
    have hb2 : U.length + r.length < 320 := by simp at hb; omega
    have hb3 : (x :: r).length ≤ 320 := by omega
    refine aw_aload_n C dX9_readExpression_133 rfl rfl (q := 134) rfl ?_
    refine aw_bipush (v := 14) C dX9_readExpression_134 (by decide) (q := 136) rfl ?_
    refine aw_bipush (v := 15) C dX9_readExpression_136 (by decide) (q := 138) rfl ?_
    refine cvX9_109_9 (As := [.int 14, .int 15]) (rest := []) C B dX9_readExpression_138 K.1 (p_wait G M.2.1 o md hm h1 (d + 4) s1 K u n a U (x :: r) none R ha hb3 14 15) rfl rfl (Nat.le_of_ble_eq_true rfl) (by omega) (by omega) (by omega) (q := 141) rfl (fun r9 h9 hr9 => ?_)
    obtain ⟨e9, er9⟩ := hr9
    subst er9; rw [e9]
    show aw G 5 M 141 [.ref o, .int 1, .int 1, .int (nI dp), .int c] [.int (pb_b (mz_wt (x :: r) 14 15 = true))] h1 0 0
    refine aw_if_eq (t := 151) (q := 144) C dX9_readExpression_141 (by decide) rfl (fun c_141 => ?_) (fun c_141 => ?_)
    ·
      rw [show mz_pp 14 15 (x :: r) U = (x :: r, U) from if_neg (fun z => pb_0.mp c_141 (decide_eq_true z))] at kk
      exact kk h1 s1 K R F kq
    ·
      refine aw_aload_n C dX9_readExpression_144 rfl rfl (q := 145) rfl ?_
      refine cvX9_113_9 (As := []) (rest := []) C B dX9_readExpression_145 K.1 (p_pop G M.2.1 o md hm h1 d s1 K u n a U r none x R hb2) rfl rfl (Nat.le_of_ble_eq_true rfl) (by omega) (by omega) (by omega) (q := 148) rfl (fun r9 h_1 hr9 => ?_)
      obtain ⟨s_2, er9, K_3, R_4, F_5, kpx_6⟩ := hr9
      subst er9
      show aw G 5 M 148 [.ref o, .int 1, .int 1, .int (nI dp), .int c] [] h_1 0 0
      refine aw_goto (q := 133) C dX9_readExpression_148 (by decide) ?_
      refine ih (x :: U) h_1 s_2 K_3 R_4 (mz_fr_tr F F_5) (kp_in kq kpx_6 (fun _ z => z)) (by simp; omega) ?_
      rw [show mz_pp 14 15 r (x :: U) = mz_pp 14 15 (x :: r) U from (if_pos (of_decide_eq_true (pb_n c_141))).symm]
      exact kk
set_option maxHeartbeats 4000000 in
set_option maxRecDepth 100000 in
theorem ml_po {G : ac_G} {M : ac_M} {o : Nat} {md : Nat → Nat} (hm : md_inj md) {h : ac_H} {d : Nat} {s : md_S} {u : Nat → Int32} {n a dp : Nat} {c : Int32} (ha : a ≤ 900) (C : ac_MC G RX9 cX9_readExpression 5 none M) (B : ac_Bd M (d + 5) 0 0) :
    ∀ (W U : pz_P) (h1 : ac_H) (s1 : md_S), md_ok h1 o md s1 → mz_rep s1 u n (a, U, W, none) → mz_fr s s1 → kp h h1 (md_L o md) → U.length + W.length ≤ 320 → ¬ (mz_po W U).1 = [] → (kk : ∀ (h2 : ac_H) (s2 : md_S), md_ok h2 o md s2 → mz_rep s2 u n (a, (mz_po W U).2, (mz_po W U).1, none) → mz_fr s s2 → kp h h2 (md_L o md) → aw G 5 M 214 [.ref o, .int 1, .int 1, .int (nI dp), .int c] [] h2 0 0) → aw G 5 M 196 [.ref o, .int 1, .int 1, .int (nI dp), .int c] [] h1 0 0 := by
  intro W
  induction W with
  | nil =>
    intro U h1 s1 K R F kq hb hne kk
    exact absurd rfl hne
  | cons x r ih =>
    intro U h1 s1 K R F kq hb hne kk
    have hb2 : U.length + r.length < 320 := by simp at hb; omega
    have hb3 : (x :: r).length ≤ 320 := by omega
    refine aw_aload_n C dX9_readExpression_196 rfl rfl (q := 197) rfl ?_
    refine aw_bipush (v := 17) C dX9_readExpression_197 (by decide) (q := 199) rfl ?_
    refine aw_bipush (v := 17) C dX9_readExpression_199 (by decide) (q := 201) rfl ?_
    refine cvX9_109_9 (As := [.int 17, .int 17]) (rest := []) C B dX9_readExpression_201 K.1 (p_wait G M.2.1 o md hm h1 (d + 4) s1 K u n a U (x :: r) none R ha hb3 17 17) rfl rfl (Nat.le_of_ble_eq_true rfl) (by omega) (by omega) (by omega) (q := 204) rfl (fun r9 h9 hr9 => ?_)
    obtain ⟨e9, er9⟩ := hr9
    subst er9; rw [e9]
    show aw G 5 M 204 [.ref o, .int 1, .int 1, .int (nI dp), .int c] [.int (pb_b (mz_wt (x :: r) 17 17 = true))] h1 0 0
    refine aw_if_ne (t := 214) (q := 207) C dX9_readExpression_204 (by decide) rfl (fun c_204 => ?_) (fun c_204 => ?_)
    ·
      rw [show mz_po (x :: r) U = (x :: r, U) from if_pos (of_decide_eq_true (pb_n c_204))] at kk
      exact kk h1 s1 K R F kq
    ·
      refine aw_aload_n C dX9_readExpression_207 rfl rfl (q := 208) rfl ?_
      refine cvX9_113_9 (As := []) (rest := []) C B dX9_readExpression_208 K.1 (p_pop G M.2.1 o md hm h1 d s1 K u n a U r none x R hb2) rfl rfl (Nat.le_of_ble_eq_true rfl) (by omega) (by omega) (by omega) (q := 211) rfl (fun r9 h_1 hr9 => ?_)
      obtain ⟨s_2, er9, K_3, R_4, F_5, kpx_6⟩ := hr9
      subst er9
      show aw G 5 M 211 [.ref o, .int 1, .int 1, .int (nI dp), .int c] [] h_1 0 0
      refine aw_goto (q := 196) C dX9_readExpression_211 (by decide) ?_
      have z := show mz_po (x :: r) U = mz_po r (x :: U) from if_neg (fun z => pb_0.mp c_204 (decide_eq_true z))
      rw [z] at kk hne
      exact ih (x :: U) h_1 s_2 K_3 R_4 (mz_fr_tr F F_5) (kp_in kq kpx_6 (fun _ z => z)) (by simp; omega) hne kk
set_option maxHeartbeats 4000000 in
set_option maxRecDepth 100000 in
theorem ml_it0 {G : ac_G} {M : ac_M} {o : Nat} {md : Nat → Nat} (hm : md_inj md) {h h1 : ac_H} {d : Nat} {s s1 : md_S} {u : Nat → Int32} {n a dp : Nat} {U W : pz_P} {v4 : Value} (ha : a ≤ 700) (hb : U.length + W.length ≤ 310) (hdp : dp ≤ 100) (C : ac_MC G RX9 cX9_readExpression 5 none M) (B : ac_Bd M (d + 5) 0 0) (K : md_ok h1 o md s1) (R : mz_rep s1 u n (a, U, W, none)) (F : mz_fr s s1) (kq : kp h h1 (md_L o md)) (kk : ∀ (h2 : ac_H) (s2 : md_S) (v4 : Value), md_ok h2 o md s2 → mz_rep s2 u n (mz_it u n (false, true, dp, (a, U, W, none))).2.2.2 → mz_fr s s2 → kp h h2 (md_L o md) → aw G 5 M 6 [.ref o, .int (pb_b ((mz_it u n (false, true, dp, (a, U, W, none))).1 = true)), .int (pb_b ((mz_it u n (false, true, dp, (a, U, W, none))).2.1 = true)), .int (nI (mz_it u n (false, true, dp, (a, U, W, none))).2.2.1), v4] [] h2 0 0) : aw G 5 M 6 [.ref o, .int 0, .int 1, .int (nI dp), v4] [] h1 0 0 := by
  refine aw_iload_n C dX9_readExpression_6 rfl rfl (q := 7) rfl ?_
  refine aw_if_eq (t := 260) (q := 10) C dX9_readExpression_7 (by decide) rfl (fun c_7 => absurd c_7 (by decide)) (fun c_7 => ?_)
  refine aw_aload_n C dX9_readExpression_10 rfl rfl (q := 11) rfl ?_
  refine gfX9_99_9 (v := .int (s1.1 4)) C dX9_readExpression_11 K.1 rfl (q := 14) rfl ?_
  refine aw_if_ge (t := 260) (q := 17) C dX9_readExpression_14 (by decide) rfl (fun c_14 => absurd c_14 (by rw [R.2.2.2.1]; show ¬ (0 : Int32) ≤ -1; decide)) (fun c_14 => ?_)
  refine aw_aload_n C dX9_readExpression_17 rfl rfl (q := 18) rfl ?_
  refine cvX9_116_9 (As := []) (rest := []) C B dX9_readExpression_18 K.1 (m_here G M.2.1 o md hm h1 (d + 4) s1 K a n R.2.2.1 R.1 (by omega) R.2.1) rfl rfl (Nat.le_of_ble_eq_true rfl) (by omega) (by omega) (by omega) (q := 21) rfl (fun r9 h9 hr9 => ?_)
  obtain ⟨e9, er9⟩ := hr9
  subst er9; rw [e9]
  show aw G 5 M 21 [.ref o, .int 0, .int 1, .int (nI dp), v4] [.int (mo_here s1 a n)] h1 0 0
  rw [mz_here R]
  refine aw_istore (ls' := [.ref o, .int 0, .int 1, .int (nI dp), .int (mz_c u n a)]) C dX9_readExpression_21 (by decide) rfl (q := 23) rfl ?_
  refine aw_iload_n C dX9_readExpression_23 rfl rfl (q := 24) rfl ?_
  refine aw_if_ne (t := 53) (q := 27) C dX9_readExpression_24 (by decide) rfl (fun c_24 => absurd c_24 (by decide)) (fun c_24 => ?_)
  refine aw_aload_n C dX9_readExpression_27 rfl rfl (q := 28) rfl ?_
  refine aw_iload C dX9_readExpression_28 rfl (q := 30) rfl ?_
  refine aw_iload_n C dX9_readExpression_30 rfl rfl (q := 31) rfl ?_
  refine cvX9_146_9 (As := [.int (mz_c u n a), .int (nI dp)]) (rest := []) C B dX9_readExpression_31 K.1 (p_readFactor G M.2.1 o md hm h1 d s1 K u n a U W none R (by omega) (by omega) dp (by omega)) rfl rfl (Nat.le_of_ble_eq_true rfl) (by omega) (by omega) (by omega) (q := 34) rfl (fun r9 h_1 hr9 => ?_)
  obtain ⟨s_2, er9, K_3, R_4, F_5, kpx_7⟩ := hr9
  subst er9
  have F_6 : mz_fr s s_2 := mz_fr_tr F F_5
  have kq_8 : kp h h_1 (md_L o md) := kp_in kq kpx_7 (fun _ z => z)
  show aw G 5 M 34 [.ref o, .int 0, .int 1, .int (nI dp), .int (mz_c u n a)] [.int (pb_b ((mz_rf u n dp a U W none).1 = true))] h_1 0 0
  refine aw_istore_n (ls' := [.ref o, .int (pb_b ((mz_rf u n dp a U W none).1 = true)), .int 1, .int (nI dp), .int (mz_c u n a)]) C dX9_readExpression_34 rfl (by decide) rfl (q := 35) rfl ?_
  refine aw_iload C dX9_readExpression_35 rfl (q := 37) rfl ?_
  refine aw_bipush (v := 40) C dX9_readExpression_37 (by decide) (q := 39) rfl ?_
  refine aw_icmp_ne (t := 48) (q := 42) C dX9_readExpression_39 (by decide) rfl (fun c_39 => ?_) (fun c_39 => ?_)
  ·
    refine aw_iload_n C dX9_readExpression_48 rfl rfl (q := 49) rfl ?_
    refine aw_istore_n (ls' := [.ref o, .int (pb_b ((mz_rf u n dp a U W none).1 = true)), .int 1, .int (nI dp), .int (mz_c u n a)]) C dX9_readExpression_49 rfl (by decide) rfl (q := 50) rfl ?_
    refine aw_goto (q := 257) C dX9_readExpression_50 (by decide) ?_
    refine aw_goto (q := 6) C dX9_readExpression_257 (by decide) ?_
    rw [show mz_it u n (false, true, dp, (a, U, W, none)) = ((mz_rf u n dp a U W none).1, true, dp, (mz_rf u n dp a U W none).2) from by unfold mz_it; rw [if_pos rfl, if_neg c_39]] at kk
    exact kk h_1 s_2 _ K_3 R_4 F_6 kq_8
  ·
    refine aw_iload_n C dX9_readExpression_42 rfl rfl (q := 43) rfl ?_
    refine aw_iconst (v := 1) C dX9_readExpression_43 (by decide) (q := 44) rfl ?_
    refine aw_iadd C dX9_readExpression_44 (q := 45) rfl ?_
    refine aw_goto (q := 49) C dX9_readExpression_45 (by decide) ?_
    rw [show nI dp + 1 = nI (dp + 1) from nI_1 dp]
    refine aw_istore_n (ls' := [.ref o, .int (pb_b ((mz_rf u n dp a U W none).1 = true)), .int 1, .int (nI (dp + 1)), .int (mz_c u n a)]) C dX9_readExpression_49 rfl (by decide) rfl (q := 50) rfl ?_
    refine aw_goto (q := 257) C dX9_readExpression_50 (by decide) ?_
    refine aw_goto (q := 6) C dX9_readExpression_257 (by decide) ?_
    rw [show mz_it u n (false, true, dp, (a, U, W, none)) = ((mz_rf u n dp a U W none).1, true, dp + 1, (mz_rf u n dp a U W none).2) from by unfold mz_it; rw [if_pos rfl, if_pos c_39]] at kk
    exact kk h_1 s_2 _ K_3 R_4 F_6 kq_8
set_option maxHeartbeats 4000000 in
set_option maxRecDepth 100000 in
theorem ml_it1 {G : ac_G} {M : ac_M} {o : Nat} {md : Nat → Nat} (hm : md_inj md) {h h1 : ac_H} {d : Nat} {s s1 : md_S} {u : Nat → Int32} {n a dp : Nat} {U W : pz_P} {v4 : Value} (ha : a ≤ 700) (hb : U.length + W.length ≤ 310) (hdp : dp ≤ 100) (hop : 0 < dp → ¬ (mz_po W U).1 = []) (C : ac_MC G RX9 cX9_readExpression 5 none M) (B : ac_Bd M (d + 5) 0 0) (K : md_ok h1 o md s1) (R : mz_rep s1 u n (a, U, W, none)) (F : mz_fr s s1) (kq : kp h h1 (md_L o md)) (kk : ∀ (h2 : ac_H) (s2 : md_S) (v4 : Value), md_ok h2 o md s2 → mz_rep s2 u n (mz_it u n (true, true, dp, (a, U, W, none))).2.2.2 → mz_fr s s2 → kp h h2 (md_L o md) → aw G 5 M 6 [.ref o, .int (pb_b ((mz_it u n (true, true, dp, (a, U, W, none))).1 = true)), .int (pb_b ((mz_it u n (true, true, dp, (a, U, W, none))).2.1 = true)), .int (nI (mz_it u n (true, true, dp, (a, U, W, none))).2.2.1), v4] [] h2 0 0) : aw G 5 M 6 [.ref o, .int 1, .int 1, .int (nI dp), v4] [] h1 0 0 := by
  refine aw_iload_n C dX9_readExpression_6 rfl rfl (q := 7) rfl ?_
  refine aw_if_eq (t := 260) (q := 10) C dX9_readExpression_7 (by decide) rfl (fun c_7 => absurd c_7 (by decide)) (fun c_7 => ?_)
  refine aw_aload_n C dX9_readExpression_10 rfl rfl (q := 11) rfl ?_
  refine gfX9_99_9 (v := .int (s1.1 4)) C dX9_readExpression_11 K.1 rfl (q := 14) rfl ?_
  refine aw_if_ge (t := 260) (q := 17) C dX9_readExpression_14 (by decide) rfl (fun c_14 => absurd c_14 (by rw [R.2.2.2.1]; show ¬ (0 : Int32) ≤ -1; decide)) (fun c_14 => ?_)
  refine aw_aload_n C dX9_readExpression_17 rfl rfl (q := 18) rfl ?_
  refine cvX9_116_9 (As := []) (rest := []) C B dX9_readExpression_18 K.1 (m_here G M.2.1 o md hm h1 (d + 4) s1 K a n R.2.2.1 R.1 (by omega) R.2.1) rfl rfl (Nat.le_of_ble_eq_true rfl) (by omega) (by omega) (by omega) (q := 21) rfl (fun r9 h9 hr9 => ?_)
  obtain ⟨e9, er9⟩ := hr9
  subst er9; rw [e9]
  show aw G 5 M 21 [.ref o, .int 1, .int 1, .int (nI dp), v4] [.int (mo_here s1 a n)] h1 0 0
  rw [mz_here R]
  refine aw_istore (ls' := [.ref o, .int 1, .int 1, .int (nI dp), .int (mz_c u n a)]) C dX9_readExpression_21 (by decide) rfl (q := 23) rfl ?_
  refine aw_iload_n C dX9_readExpression_23 rfl rfl (q := 24) rfl ?_
  refine aw_if_ne (t := 53) (q := 27) C dX9_readExpression_24 (by decide) rfl (fun c_24 => ?_) (fun c_24 => absurd c_24 (by decide))
  refine aw_iload C dX9_readExpression_53 rfl (q := 55) rfl ?_
  refine aw_bipush (v := 43) C dX9_readExpression_55 (by decide) (q := 57) rfl ?_
  refine aw_icmp_eq (t := 67) (q := 60) C dX9_readExpression_57 (by decide) rfl (fun c_57 => ?_) (fun c_57 => ?_)
  ·
    refine ml_pw12 hm (by omega) C B W U h1 s1 K R F kq (by omega) (fun h_1 s_2 K_3 R_4 F_5 kq_6 => ?_)
    have hl := mz_pp_len (lo := 12) (hi := 15) W U
    refine aw_aload_n C dX9_readExpression_85 rfl rfl (q := 86) rfl ?_
    refine aw_iload C dX9_readExpression_86 rfl (q := 88) rfl ?_
    refine aw_bipush (v := 43) C dX9_readExpression_88 (by decide) (q := 90) rfl ?_
    refine aw_icmp_ne (t := 98) (q := 93) C dX9_readExpression_90 (by decide) rfl (fun c_90 => absurd c_90 (fun z => z c_57)) (fun c_90 => ?_)
    refine aw_bipush (v := 12) C dX9_readExpression_93 (by decide) (q := 95) rfl ?_
    refine aw_goto (q := 100) C dX9_readExpression_95 (by decide) ?_
    refine aw_iconst (v := 0) C dX9_readExpression_100 (by decide) (q := 101) rfl ?_
    refine cvX9_143_9 (As := [.int 12, .int 0]) (rest := []) C B dX9_readExpression_101 K_3.1 (p_push G M.2.1 o md hm h_1 (d + 4) s_2 K_3 u n a ((mz_pp 12 15 W U).2) ((mz_pp 12 15 W U).1) none R_4 (by omega) (by omega) 12 0) rfl rfl (Nat.le_of_ble_eq_true rfl) (by omega) (by omega) (by omega) (q := 104) rfl (fun r9 h_7 hr9 => ?_)
    obtain ⟨s_8, er9, K_9, R_10, F_11, kpx_13⟩ := hr9
    subst er9
    have F_12 : mz_fr s s_8 := mz_fr_tr F_5 F_11
    have kq_14 : kp h h_7 (md_L o md) := kp_in kq_6 kpx_13 (fun _ z => z)
    show aw G 5 M 104 [.ref o, .int 1, .int 1, .int (nI dp), .int (mz_c u n a)] [] h_7 0 0
    refine aw_aload_n C dX9_readExpression_104 rfl rfl (q := 105) rfl ?_
    refine aw_dup C dX9_readExpression_105 rfl (q := 106) rfl ?_
    refine gfX9_96_9 (v := .int (s_8.1 3)) C dX9_readExpression_106 K_9.1 rfl (q := 109) rfl ?_
    refine aw_iconst (v := 1) C dX9_readExpression_109 (by decide) (q := 110) rfl ?_
    refine aw_iadd C dX9_readExpression_110 (q := 111) rfl ?_
    rw [show (s_8.1 3) + 1 = nI (a + 1) from by rw [R_10.2.2.1]; exact nI_1 _]
    refine pfX9_96_9 C dX9_readExpression_111 K_9.1 rfl rfl (Nat.le_of_ble_eq_true rfl) (q := 114) rfl ?_
    show aw G 5 M 114 [.ref o, .int 1, .int 1, .int (nI dp), .int (mz_c u n a)] [] (ac_up h_7 o (.inr (9, md_fs md ((upd s_8.1 3 (nI (a + 1)), s_8.2.1, s_8.2.2).1)))) 0 0
    obtain ⟨h_15, eh_15⟩ : ∃ z9, z9 = ac_up h_7 o (.inr (9, md_fs md ((upd s_8.1 3 (nI (a + 1)), s_8.2.1, s_8.2.2).1))) := ⟨_, rfl⟩
    rw [← eh_15]
    have kpx_18 : kp h_7 h_15 [o] := by rw [eh_15]; exact kp_up (kp_cons o kp_rf) _ _ (by simp)
    have K_16 : md_ok h_15 o md (upd s_8.1 3 (nI (a + 1)), s_8.2.1, s_8.2.2) := md_J (s := (s_8.1, s_8.2.1, s_8.2.2)) K_9 (by rw [eh_15]; exact ac_up_s _ _ _) kpx_18
    have kq_17 : kp h h_15 (md_L o md) := kp_in kq_14 kpx_18 md_s0
    have R_20 : mz_rep (upd s_8.1 3 (nI (a + 1)), s_8.2.1, s_8.2.2) u n (a + 1, (mz_pp 12 15 W U).2, (12, 0) :: (mz_pp 12 15 W U).1, none) := mz_at R_10 _
    have F_21 : mz_fr s (upd s_8.1 3 (nI (a + 1)), s_8.2.1, s_8.2.2) := mz_fr_at F_12
    obtain ⟨s_19, es_19⟩ : ∃ z, z = (upd s_8.1 3 (nI (a + 1)), s_8.2.1, s_8.2.2) := ⟨_, rfl⟩
    rw [← es_19] at K_16 R_20 F_21
    refine aw_iconst (v := 0) C dX9_readExpression_114 (by decide) (q := 115) rfl ?_
    refine aw_istore_n (ls' := [.ref o, .int 0, .int 1, .int (nI dp), .int (mz_c u n a)]) C dX9_readExpression_115 rfl (by decide) rfl (q := 116) rfl ?_
    refine aw_goto (q := 257) C dX9_readExpression_116 (by decide) ?_
    refine aw_goto (q := 6) C dX9_readExpression_257 (by decide) ?_
    rw [show mz_it u n (true, true, dp, (a, U, W, none)) = (false, true, dp, (a + 1, (mz_pp 12 15 W U).2, (12, 0) :: (mz_pp 12 15 W U).1, none)) from by rw [mz_it1, if_pos (Or.inl c_57), if_pos c_57]] at kk
    exact kk h_15 s_19 _ K_16 R_20 F_21 kq_17
    
  ·
    refine aw_iload C dX9_readExpression_60 rfl (q := 62) rfl ?_
    refine aw_bipush (v := 45) C dX9_readExpression_62 (by decide) (q := 64) rfl ?_
    refine aw_icmp_ne (t := 119) (q := 67) C dX9_readExpression_64 (by decide) rfl (fun c_64 => ?_) (fun c_64 => ?_)
    ·
      refine aw_iload C dX9_readExpression_119 rfl (q := 121) rfl ?_
      refine aw_bipush (v := 42) C dX9_readExpression_121 (by decide) (q := 123) rfl ?_
      refine aw_icmp_eq (t := 133) (q := 126) C dX9_readExpression_123 (by decide) rfl (fun c_123 => ?_) (fun c_123 => ?_)
      ·
        refine ml_pw14 hm (by omega) C B W U h1 s1 K R F kq (by omega) (fun h_22 s_23 K_24 R_25 F_26 kq_27 => ?_)
        have hl := mz_pp_len (lo := 14) (hi := 15) W U
        refine aw_aload_n C dX9_readExpression_151 rfl rfl (q := 152) rfl ?_
        refine aw_iload C dX9_readExpression_152 rfl (q := 154) rfl ?_
        refine aw_bipush (v := 42) C dX9_readExpression_154 (by decide) (q := 156) rfl ?_
        refine aw_icmp_ne (t := 164) (q := 159) C dX9_readExpression_156 (by decide) rfl (fun c_156 => absurd c_156 (fun z => z c_123)) (fun c_156 => ?_)
        refine aw_bipush (v := 14) C dX9_readExpression_159 (by decide) (q := 161) rfl ?_
        refine aw_goto (q := 166) C dX9_readExpression_161 (by decide) ?_
        refine aw_iconst (v := 0) C dX9_readExpression_166 (by decide) (q := 167) rfl ?_
        refine cvX9_143_9 (As := [.int 14, .int 0]) (rest := []) C B dX9_readExpression_167 K_24.1 (p_push G M.2.1 o md hm h_22 (d + 4) s_23 K_24 u n a ((mz_pp 14 15 W U).2) ((mz_pp 14 15 W U).1) none R_25 (by omega) (by omega) 14 0) rfl rfl (Nat.le_of_ble_eq_true rfl) (by omega) (by omega) (by omega) (q := 170) rfl (fun r9 h_28 hr9 => ?_)
        obtain ⟨s_29, er9, K_30, R_31, F_32, kpx_34⟩ := hr9
        subst er9
        have F_33 : mz_fr s s_29 := mz_fr_tr F_26 F_32
        have kq_35 : kp h h_28 (md_L o md) := kp_in kq_27 kpx_34 (fun _ z => z)
        show aw G 5 M 170 [.ref o, .int 1, .int 1, .int (nI dp), .int (mz_c u n a)] [] h_28 0 0
        refine aw_aload_n C dX9_readExpression_170 rfl rfl (q := 171) rfl ?_
        refine aw_dup C dX9_readExpression_171 rfl (q := 172) rfl ?_
        refine gfX9_96_9 (v := .int (s_29.1 3)) C dX9_readExpression_172 K_30.1 rfl (q := 175) rfl ?_
        refine aw_iconst (v := 1) C dX9_readExpression_175 (by decide) (q := 176) rfl ?_
        refine aw_iadd C dX9_readExpression_176 (q := 177) rfl ?_
        rw [show (s_29.1 3) + 1 = nI (a + 1) from by rw [R_31.2.2.1]; exact nI_1 _]
        refine pfX9_96_9 C dX9_readExpression_177 K_30.1 rfl rfl (Nat.le_of_ble_eq_true rfl) (q := 180) rfl ?_
        show aw G 5 M 180 [.ref o, .int 1, .int 1, .int (nI dp), .int (mz_c u n a)] [] (ac_up h_28 o (.inr (9, md_fs md ((upd s_29.1 3 (nI (a + 1)), s_29.2.1, s_29.2.2).1)))) 0 0
        obtain ⟨h_36, eh_36⟩ : ∃ z9, z9 = ac_up h_28 o (.inr (9, md_fs md ((upd s_29.1 3 (nI (a + 1)), s_29.2.1, s_29.2.2).1))) := ⟨_, rfl⟩
        rw [← eh_36]
        have kpx_39 : kp h_28 h_36 [o] := by rw [eh_36]; exact kp_up (kp_cons o kp_rf) _ _ (by simp)
        have K_37 : md_ok h_36 o md (upd s_29.1 3 (nI (a + 1)), s_29.2.1, s_29.2.2) := md_J (s := (s_29.1, s_29.2.1, s_29.2.2)) K_30 (by rw [eh_36]; exact ac_up_s _ _ _) kpx_39
        have kq_38 : kp h h_36 (md_L o md) := kp_in kq_35 kpx_39 md_s0
        have R_41 : mz_rep (upd s_29.1 3 (nI (a + 1)), s_29.2.1, s_29.2.2) u n (a + 1, (mz_pp 14 15 W U).2, (14, 0) :: (mz_pp 14 15 W U).1, none) := mz_at R_31 _
        have F_42 : mz_fr s (upd s_29.1 3 (nI (a + 1)), s_29.2.1, s_29.2.2) := mz_fr_at F_33
        obtain ⟨s_40, es_40⟩ : ∃ z, z = (upd s_29.1 3 (nI (a + 1)), s_29.2.1, s_29.2.2) := ⟨_, rfl⟩
        rw [← es_40] at K_37 R_41 F_42
        refine aw_iconst (v := 0) C dX9_readExpression_180 (by decide) (q := 181) rfl ?_
        refine aw_istore_n (ls' := [.ref o, .int 0, .int 1, .int (nI dp), .int (mz_c u n a)]) C dX9_readExpression_181 rfl (by decide) rfl (q := 182) rfl ?_
        refine aw_goto (q := 257) C dX9_readExpression_182 (by decide) ?_
        refine aw_goto (q := 6) C dX9_readExpression_257 (by decide) ?_
        rw [show mz_it u n (true, true, dp, (a, U, W, none)) = (false, true, dp, (a + 1, (mz_pp 14 15 W U).2, (14, 0) :: (mz_pp 14 15 W U).1, none)) from by rw [mz_it1, if_neg (by rintro (z | z); exact c_57 z; exact c_64 z), if_pos (Or.inl c_123), if_pos c_123]] at kk
        exact kk h_36 s_40 _ K_37 R_41 F_42 kq_38
        
      ·
        refine aw_iload C dX9_readExpression_126 rfl (q := 128) rfl ?_
        refine aw_bipush (v := 47) C dX9_readExpression_128 (by decide) (q := 130) rfl ?_
        refine aw_icmp_ne (t := 185) (q := 133) C dX9_readExpression_130 (by decide) rfl (fun c_130 => ?_) (fun c_130 => ?_)
        ·
          refine aw_iload C dX9_readExpression_185 rfl (q := 187) rfl ?_
          refine aw_bipush (v := 41) C dX9_readExpression_187 (by decide) (q := 189) rfl ?_
          refine aw_icmp_ne (t := 244) (q := 192) C dX9_readExpression_189 (by decide) rfl (fun c_189 => ?_) (fun c_189 => ?_)
          ·
            refine aw_iload_n C dX9_readExpression_244 rfl rfl (q := 245) rfl ?_
            refine aw_if_le (t := 255) (q := 248) C dX9_readExpression_245 (by decide) rfl (fun c_245 => ?_) (fun c_245 => ?_)
            ·
              refine aw_iconst (v := 0) C dX9_readExpression_255 (by decide) (q := 256) rfl ?_
              refine aw_istore_n (ls' := [.ref o, .int 1, .int 0, .int (nI dp), .int (mz_c u n a)]) C dX9_readExpression_256 rfl (by decide) rfl (q := 257) rfl ?_
              refine aw_goto (q := 6) C dX9_readExpression_257 (by decide) ?_
              rw [show mz_it u n (true, true, dp, (a, U, W, none)) = (true, false, dp, (a, U, W, none)) from by rw [mz_it1, if_neg (by rintro (z | z); exact c_57 z; exact c_64 z), if_neg (by rintro (z | z); exact c_123 z; exact c_130 z), if_neg (fun z => c_189 z.1), if_neg (fun z => absurd ((nI_leI (a := dp) (b := 0) (by omega) (by decide)).mp c_245) (by omega))]] at kk
              exact kk h1 s1 _ K R F kq
            ·
              refine aw_aload_n C dX9_readExpression_248 rfl rfl (q := 249) rfl ?_
              refine cvX9_120_9 (As := []) (rest := []) C B dX9_readExpression_249 K.1 (p_fail G M.2.1 o md hm h1 (d + 4) s1 K u n a U W none R (by omega)) rfl rfl (Nat.le_of_ble_eq_true rfl) (by omega) (by omega) (by omega) (q := 252) rfl (fun r9 h_43 hr9 => ?_)
              obtain ⟨s_44, er9, K_45, R_46, F_47, kpx_49⟩ := hr9
              subst er9
              have F_48 : mz_fr s s_44 := mz_fr_tr F F_47
              have kq_50 : kp h h_43 (md_L o md) := kp_in kq kpx_49 (fun _ z => z)
              show aw G 5 M 252 [.ref o, .int 1, .int 1, .int (nI dp), .int (mz_c u n a)] [] h_43 0 0
              refine aw_goto (q := 257) C dX9_readExpression_252 (by decide) ?_
              refine aw_goto (q := 6) C dX9_readExpression_257 (by decide) ?_
              rw [show mz_it u n (true, true, dp, (a, U, W, none)) = (true, true, dp, (a, U, W, mz_fl a none)) from by rw [mz_it1, if_neg (by rintro (z | z); exact c_57 z; exact c_64 z), if_neg (by rintro (z | z); exact c_123 z; exact c_130 z), if_neg (fun z => c_189 z.1), if_pos (Classical.byContradiction fun z => c_245 (nI_le (a := dp) (b := 0) (by omega) (by omega)))]] at kk
              exact kk h_43 s_44 _ K_45 R_46 F_48 kq_50
          ·
            refine aw_iload_n C dX9_readExpression_192 rfl rfl (q := 193) rfl ?_
            refine aw_if_le (t := 244) (q := 196) C dX9_readExpression_193 (by decide) rfl (fun c_193 => ?_) (fun c_193 => ?_)
            ·
              refine aw_iload_n C dX9_readExpression_244 rfl rfl (q := 245) rfl ?_
              refine aw_if_le (t := 255) (q := 248) C dX9_readExpression_245 (by decide) rfl (fun c_245 => ?_) (fun c_245 => absurd c_245 (fun z => z c_193))
              refine aw_iconst (v := 0) C dX9_readExpression_255 (by decide) (q := 256) rfl ?_
              refine aw_istore_n (ls' := [.ref o, .int 1, .int 0, .int (nI dp), .int (mz_c u n a)]) C dX9_readExpression_256 rfl (by decide) rfl (q := 257) rfl ?_
              refine aw_goto (q := 6) C dX9_readExpression_257 (by decide) ?_
              rw [show mz_it u n (true, true, dp, (a, U, W, none)) = (true, false, dp, (a, U, W, none)) from by rw [mz_it1, if_neg (by rintro (z | z); exact c_57 z; exact c_64 z), if_neg (by rintro (z | z); exact c_123 z; exact c_130 z), if_neg (fun z => absurd ((nI_leI (a := dp) (b := 0) (by omega) (by decide)).mp c_193) (by have := z.2; omega)), if_neg (fun z => absurd ((nI_leI (a := dp) (b := 0) (by omega) (by decide)).mp c_245) (by omega))]] at kk
              exact kk h1 s1 _ K R F kq
            ·
              have hdp0 : 0 < dp := Classical.byContradiction fun z => c_193 (nI_le (a := dp) (b := 0) (by omega) (by omega))
              refine ml_po hm (by omega) C B W U h1 s1 K R F kq (by omega) (hop hdp0) (fun h_51 s_52 K_53 R_54 F_55 kq_56 => ?_)
              have hl := mz_po_len W U
              have hop2 := hop hdp0
              obtain ⟨W2, eW2⟩ : ∃ z, z = mz_po W U := ⟨_, rfl⟩
              rw [← eW2] at R_54 hl hop2
              obtain ⟨W3, U3⟩ := W2
              obtain ⟨x, r, hxr⟩ : ∃ x r, W3 = x :: r := by
                cases W3 with
                | nil => exact absurd rfl hop2
                | cons x r => exact ⟨x, r, rfl⟩
              subst hxr
              have hl2 : r.length + 1 + U3.length = W.length + U.length := hl
              replace R_54 : mz_rep s_52 u n (a, U3, x :: r, none) := R_54
              refine aw_aload_n C dX9_readExpression_214 rfl rfl (q := 215) rfl ?_
              refine aw_dup C dX9_readExpression_215 rfl (q := 216) rfl ?_
              refine gfX9_102_9 (v := .int (s_52.1 14)) C dX9_readExpression_216 K_53.1 rfl (q := 219) rfl ?_
              refine aw_iconst (v := 1) C dX9_readExpression_219 (by decide) (q := 220) rfl ?_
              refine aw_isub C dX9_readExpression_220 (q := 221) rfl ?_
              rw [show (s_52.1 14) - 1 = nI (r.length) from by rw [R_54.2.2.2.2.1]; exact nI_pred r.length]
              refine pfX9_102_9 C dX9_readExpression_221 K_53.1 rfl rfl (Nat.le_of_ble_eq_true rfl) (q := 224) rfl ?_
              show aw G 5 M 224 [.ref o, .int 1, .int 1, .int (nI dp), .int (mz_c u n a)] [] (ac_up h_51 o (.inr (9, md_fs md ((upd s_52.1 14 (nI (r.length)), s_52.2.1, s_52.2.2).1)))) 0 0
              obtain ⟨h_57, eh_57⟩ : ∃ z9, z9 = ac_up h_51 o (.inr (9, md_fs md ((upd s_52.1 14 (nI (r.length)), s_52.2.1, s_52.2.2).1))) := ⟨_, rfl⟩
              rw [← eh_57]
              have kpx_60 : kp h_51 h_57 [o] := by rw [eh_57]; exact kp_up (kp_cons o kp_rf) _ _ (by simp)
              have K_58 : md_ok h_57 o md (upd s_52.1 14 (nI (r.length)), s_52.2.1, s_52.2.2) := md_J (s := (s_52.1, s_52.2.1, s_52.2.2)) K_53 (by rw [eh_57]; exact ac_up_s _ _ _) kpx_60
              have kq_59 : kp h h_57 (md_L o md) := kp_in kq_56 kpx_60 md_s0
              have R_62 : mz_rep (upd s_52.1 14 (nI (r.length)), s_52.2.1, s_52.2.2) u n (a, U3, r, none) := mz_drop R_54
              have F_63 : mz_fr s (upd s_52.1 14 (nI (r.length)), s_52.2.1, s_52.2.2) := mz_fr_wt F_55
              obtain ⟨s_61, es_61⟩ : ∃ z, z = (upd s_52.1 14 (nI (r.length)), s_52.2.1, s_52.2.2) := ⟨_, rfl⟩
              rw [← es_61] at K_58 R_62 F_63
              refine aw_iinc (v := nI (dp - 1)) (ls' := [.ref o, .int 1, .int 1, .int (nI (dp - 1)), .int (mz_c u n a)]) C dX9_readExpression_224 rfl (nI_pred2 hdp0) (by decide) rfl (q := 227) rfl ?_
              refine aw_aload_n C dX9_readExpression_227 rfl rfl (q := 228) rfl ?_
              refine aw_dup C dX9_readExpression_228 rfl (q := 229) rfl ?_
              refine gfX9_96_9 (v := .int (s_61.1 3)) C dX9_readExpression_229 K_58.1 rfl (q := 232) rfl ?_
              refine aw_iconst (v := 1) C dX9_readExpression_232 (by decide) (q := 233) rfl ?_
              refine aw_iadd C dX9_readExpression_233 (q := 234) rfl ?_
              rw [show (s_61.1 3) + 1 = nI (a + 1) from by rw [R_62.2.2.1]; exact nI_1 _]
              refine pfX9_96_9 C dX9_readExpression_234 K_58.1 rfl rfl (Nat.le_of_ble_eq_true rfl) (q := 237) rfl ?_
              show aw G 5 M 237 [.ref o, .int 1, .int 1, .int (nI (dp - 1)), .int (mz_c u n a)] [] (ac_up h_57 o (.inr (9, md_fs md ((upd s_61.1 3 (nI (a + 1)), s_61.2.1, s_61.2.2).1)))) 0 0
              obtain ⟨h_64, eh_64⟩ : ∃ z9, z9 = ac_up h_57 o (.inr (9, md_fs md ((upd s_61.1 3 (nI (a + 1)), s_61.2.1, s_61.2.2).1))) := ⟨_, rfl⟩
              rw [← eh_64]
              have kpx_67 : kp h_57 h_64 [o] := by rw [eh_64]; exact kp_up (kp_cons o kp_rf) _ _ (by simp)
              have K_65 : md_ok h_64 o md (upd s_61.1 3 (nI (a + 1)), s_61.2.1, s_61.2.2) := md_J (s := (s_61.1, s_61.2.1, s_61.2.2)) K_58 (by rw [eh_64]; exact ac_up_s _ _ _) kpx_67
              have kq_66 : kp h h_64 (md_L o md) := kp_in kq_59 kpx_67 md_s0
              have R_69 : mz_rep (upd s_61.1 3 (nI (a + 1)), s_61.2.1, s_61.2.2) u n (a + 1, U3, r, none) := mz_at R_62 _
              have F_70 : mz_fr s (upd s_61.1 3 (nI (a + 1)), s_61.2.1, s_61.2.2) := mz_fr_at F_63
              obtain ⟨s_68, es_68⟩ : ∃ z, z = (upd s_61.1 3 (nI (a + 1)), s_61.2.1, s_61.2.2) := ⟨_, rfl⟩
              rw [← es_68] at K_65 R_69 F_70
              refine aw_aload_n C dX9_readExpression_237 rfl rfl (q := 238) rfl ?_
              refine cvX9_127_9 (As := []) (rest := []) C B dX9_readExpression_238 K_65.1 (p_endFactor G M.2.1 o md hm h_64 (d + 2) s_68 K_65 u n (a + 1) U3 r none R_69 (by omega) (by omega)) rfl rfl (Nat.le_of_ble_eq_true rfl) (by omega) (by omega) (by omega) (q := 241) rfl (fun r9 h_71 hr9 => ?_)
              obtain ⟨s_72, er9, K_73, R_74, F_75, kpx_77⟩ := hr9
              subst er9
              have F_76 : mz_fr s s_72 := mz_fr_tr F_70 F_75
              have kq_78 : kp h h_71 (md_L o md) := kp_in kq_66 kpx_77 (fun _ z => z)
              show aw G 5 M 241 [.ref o, .int 1, .int 1, .int (nI (dp - 1)), .int (mz_c u n a)] [] h_71 0 0
              refine aw_goto (q := 257) C dX9_readExpression_241 (by decide) ?_
              refine aw_goto (q := 6) C dX9_readExpression_257 (by decide) ?_
              rw [show mz_it u n (true, true, dp, (a, U, W, none)) = (true, true, dp - 1, mz_en (a + 1) U3 r none) from by rw [mz_it1, if_neg (by rintro (z | z); exact c_57 z; exact c_64 z), if_neg (by rintro (z | z); exact c_123 z; exact c_130 z), if_pos ⟨c_189, hdp0⟩, ← eW2]; rfl] at kk
              exact kk h_71 s_72 _ K_73 R_74 F_76 kq_78
              
        ·
          refine ml_pw14 hm (by omega) C B W U h1 s1 K R F kq (by omega) (fun h_79 s_80 K_81 R_82 F_83 kq_84 => ?_)
          have hl := mz_pp_len (lo := 14) (hi := 15) W U
          refine aw_aload_n C dX9_readExpression_151 rfl rfl (q := 152) rfl ?_
          refine aw_iload C dX9_readExpression_152 rfl (q := 154) rfl ?_
          refine aw_bipush (v := 42) C dX9_readExpression_154 (by decide) (q := 156) rfl ?_
          refine aw_icmp_ne (t := 164) (q := 159) C dX9_readExpression_156 (by decide) rfl (fun c_156 => ?_) (fun c_156 => absurd c_156 (c_123))
          refine aw_bipush (v := 15) C dX9_readExpression_164 (by decide) (q := 166) rfl ?_
          refine aw_iconst (v := 0) C dX9_readExpression_166 (by decide) (q := 167) rfl ?_
          refine cvX9_143_9 (As := [.int 15, .int 0]) (rest := []) C B dX9_readExpression_167 K_81.1 (p_push G M.2.1 o md hm h_79 (d + 4) s_80 K_81 u n a ((mz_pp 14 15 W U).2) ((mz_pp 14 15 W U).1) none R_82 (by omega) (by omega) 15 0) rfl rfl (Nat.le_of_ble_eq_true rfl) (by omega) (by omega) (by omega) (q := 170) rfl (fun r9 h_85 hr9 => ?_)
          obtain ⟨s_86, er9, K_87, R_88, F_89, kpx_91⟩ := hr9
          subst er9
          have F_90 : mz_fr s s_86 := mz_fr_tr F_83 F_89
          have kq_92 : kp h h_85 (md_L o md) := kp_in kq_84 kpx_91 (fun _ z => z)
          show aw G 5 M 170 [.ref o, .int 1, .int 1, .int (nI dp), .int (mz_c u n a)] [] h_85 0 0
          refine aw_aload_n C dX9_readExpression_170 rfl rfl (q := 171) rfl ?_
          refine aw_dup C dX9_readExpression_171 rfl (q := 172) rfl ?_
          refine gfX9_96_9 (v := .int (s_86.1 3)) C dX9_readExpression_172 K_87.1 rfl (q := 175) rfl ?_
          refine aw_iconst (v := 1) C dX9_readExpression_175 (by decide) (q := 176) rfl ?_
          refine aw_iadd C dX9_readExpression_176 (q := 177) rfl ?_
          rw [show (s_86.1 3) + 1 = nI (a + 1) from by rw [R_88.2.2.1]; exact nI_1 _]
          refine pfX9_96_9 C dX9_readExpression_177 K_87.1 rfl rfl (Nat.le_of_ble_eq_true rfl) (q := 180) rfl ?_
          show aw G 5 M 180 [.ref o, .int 1, .int 1, .int (nI dp), .int (mz_c u n a)] [] (ac_up h_85 o (.inr (9, md_fs md ((upd s_86.1 3 (nI (a + 1)), s_86.2.1, s_86.2.2).1)))) 0 0
          obtain ⟨h_93, eh_93⟩ : ∃ z9, z9 = ac_up h_85 o (.inr (9, md_fs md ((upd s_86.1 3 (nI (a + 1)), s_86.2.1, s_86.2.2).1))) := ⟨_, rfl⟩
          rw [← eh_93]
          have kpx_96 : kp h_85 h_93 [o] := by rw [eh_93]; exact kp_up (kp_cons o kp_rf) _ _ (by simp)
          have K_94 : md_ok h_93 o md (upd s_86.1 3 (nI (a + 1)), s_86.2.1, s_86.2.2) := md_J (s := (s_86.1, s_86.2.1, s_86.2.2)) K_87 (by rw [eh_93]; exact ac_up_s _ _ _) kpx_96
          have kq_95 : kp h h_93 (md_L o md) := kp_in kq_92 kpx_96 md_s0
          have R_98 : mz_rep (upd s_86.1 3 (nI (a + 1)), s_86.2.1, s_86.2.2) u n (a + 1, (mz_pp 14 15 W U).2, (15, 0) :: (mz_pp 14 15 W U).1, none) := mz_at R_88 _
          have F_99 : mz_fr s (upd s_86.1 3 (nI (a + 1)), s_86.2.1, s_86.2.2) := mz_fr_at F_90
          obtain ⟨s_97, es_97⟩ : ∃ z, z = (upd s_86.1 3 (nI (a + 1)), s_86.2.1, s_86.2.2) := ⟨_, rfl⟩
          rw [← es_97] at K_94 R_98 F_99
          refine aw_iconst (v := 0) C dX9_readExpression_180 (by decide) (q := 181) rfl ?_
          refine aw_istore_n (ls' := [.ref o, .int 0, .int 1, .int (nI dp), .int (mz_c u n a)]) C dX9_readExpression_181 rfl (by decide) rfl (q := 182) rfl ?_
          refine aw_goto (q := 257) C dX9_readExpression_182 (by decide) ?_
          refine aw_goto (q := 6) C dX9_readExpression_257 (by decide) ?_
          rw [show mz_it u n (true, true, dp, (a, U, W, none)) = (false, true, dp, (a + 1, (mz_pp 14 15 W U).2, (15, 0) :: (mz_pp 14 15 W U).1, none)) from by rw [mz_it1, if_neg (by rintro (z | z); exact c_57 z; exact c_64 z), if_pos (Or.inr c_130), if_neg c_123]] at kk
          exact kk h_93 s_97 _ K_94 R_98 F_99 kq_95
          
    ·
      refine ml_pw12 hm (by omega) C B W U h1 s1 K R F kq (by omega) (fun h_100 s_101 K_102 R_103 F_104 kq_105 => ?_)
      have hl := mz_pp_len (lo := 12) (hi := 15) W U
      refine aw_aload_n C dX9_readExpression_85 rfl rfl (q := 86) rfl ?_
      refine aw_iload C dX9_readExpression_86 rfl (q := 88) rfl ?_
      refine aw_bipush (v := 43) C dX9_readExpression_88 (by decide) (q := 90) rfl ?_
      refine aw_icmp_ne (t := 98) (q := 93) C dX9_readExpression_90 (by decide) rfl (fun c_90 => ?_) (fun c_90 => absurd c_90 (c_57))
      refine aw_bipush (v := 13) C dX9_readExpression_98 (by decide) (q := 100) rfl ?_
      refine aw_iconst (v := 0) C dX9_readExpression_100 (by decide) (q := 101) rfl ?_
      refine cvX9_143_9 (As := [.int 13, .int 0]) (rest := []) C B dX9_readExpression_101 K_102.1 (p_push G M.2.1 o md hm h_100 (d + 4) s_101 K_102 u n a ((mz_pp 12 15 W U).2) ((mz_pp 12 15 W U).1) none R_103 (by omega) (by omega) 13 0) rfl rfl (Nat.le_of_ble_eq_true rfl) (by omega) (by omega) (by omega) (q := 104) rfl (fun r9 h_106 hr9 => ?_)
      obtain ⟨s_107, er9, K_108, R_109, F_110, kpx_112⟩ := hr9
      subst er9
      have F_111 : mz_fr s s_107 := mz_fr_tr F_104 F_110
      have kq_113 : kp h h_106 (md_L o md) := kp_in kq_105 kpx_112 (fun _ z => z)
      show aw G 5 M 104 [.ref o, .int 1, .int 1, .int (nI dp), .int (mz_c u n a)] [] h_106 0 0
      refine aw_aload_n C dX9_readExpression_104 rfl rfl (q := 105) rfl ?_
      refine aw_dup C dX9_readExpression_105 rfl (q := 106) rfl ?_
      refine gfX9_96_9 (v := .int (s_107.1 3)) C dX9_readExpression_106 K_108.1 rfl (q := 109) rfl ?_
      refine aw_iconst (v := 1) C dX9_readExpression_109 (by decide) (q := 110) rfl ?_
      refine aw_iadd C dX9_readExpression_110 (q := 111) rfl ?_
      rw [show (s_107.1 3) + 1 = nI (a + 1) from by rw [R_109.2.2.1]; exact nI_1 _]
      refine pfX9_96_9 C dX9_readExpression_111 K_108.1 rfl rfl (Nat.le_of_ble_eq_true rfl) (q := 114) rfl ?_
      show aw G 5 M 114 [.ref o, .int 1, .int 1, .int (nI dp), .int (mz_c u n a)] [] (ac_up h_106 o (.inr (9, md_fs md ((upd s_107.1 3 (nI (a + 1)), s_107.2.1, s_107.2.2).1)))) 0 0
      obtain ⟨h_114, eh_114⟩ : ∃ z9, z9 = ac_up h_106 o (.inr (9, md_fs md ((upd s_107.1 3 (nI (a + 1)), s_107.2.1, s_107.2.2).1))) := ⟨_, rfl⟩
      rw [← eh_114]
      have kpx_117 : kp h_106 h_114 [o] := by rw [eh_114]; exact kp_up (kp_cons o kp_rf) _ _ (by simp)
      have K_115 : md_ok h_114 o md (upd s_107.1 3 (nI (a + 1)), s_107.2.1, s_107.2.2) := md_J (s := (s_107.1, s_107.2.1, s_107.2.2)) K_108 (by rw [eh_114]; exact ac_up_s _ _ _) kpx_117
      have kq_116 : kp h h_114 (md_L o md) := kp_in kq_113 kpx_117 md_s0
      have R_119 : mz_rep (upd s_107.1 3 (nI (a + 1)), s_107.2.1, s_107.2.2) u n (a + 1, (mz_pp 12 15 W U).2, (13, 0) :: (mz_pp 12 15 W U).1, none) := mz_at R_109 _
      have F_120 : mz_fr s (upd s_107.1 3 (nI (a + 1)), s_107.2.1, s_107.2.2) := mz_fr_at F_111
      obtain ⟨s_118, es_118⟩ : ∃ z, z = (upd s_107.1 3 (nI (a + 1)), s_107.2.1, s_107.2.2) := ⟨_, rfl⟩
      rw [← es_118] at K_115 R_119 F_120
      refine aw_iconst (v := 0) C dX9_readExpression_114 (by decide) (q := 115) rfl ?_
      refine aw_istore_n (ls' := [.ref o, .int 0, .int 1, .int (nI dp), .int (mz_c u n a)]) C dX9_readExpression_115 rfl (by decide) rfl (q := 116) rfl ?_
      refine aw_goto (q := 257) C dX9_readExpression_116 (by decide) ?_
      refine aw_goto (q := 6) C dX9_readExpression_257 (by decide) ?_
      rw [show mz_it u n (true, true, dp, (a, U, W, none)) = (false, true, dp, (a + 1, (mz_pp 12 15 W U).2, (13, 0) :: (mz_pp 12 15 W U).1, none)) from by rw [mz_it1, if_pos (Or.inr c_64), if_neg c_57]] at kk
      exact kk h_114 s_118 _ K_115 R_119 F_120 kq_116
      
