/-! Walker: a condition, a rule, begin -/
/-- a condition at a place: whether it holds, the place behind, isOpen -/
def wk_cond (f : Nat → Int32) (len : Nat) (x : Nat → wk_R) (at_ : Nat) : Bool × Nat × Bool :=
  if (x at_).2.2 = true then (false, (x at_).2.1, true) else if (x ((x at_).2.1 + 1)).2.2 = true then (false, (x ((x at_).2.1 + 1)).2.1, true)
  else (rk_cmp (cu_c f len (x at_).2.1) (x at_).1 (x ((x at_).2.1 + 1)).1, (x ((x at_).2.1 + 1)).2.1, false)
def wk_skip (f : Nat → Int32) (len : Nat) : Nat → Nat → Nat
  | 0, at_ => at_
  | m + 1, at_ => if at_ < len then (if cu_c f len at_ = 59 then at_ else wk_skip f len m (at_ + 1)) else at_
/-- the conditions from a place on, m of them at most: whether all hold, the place -/
def wk_conds (f : Nat → Int32) (len : Nat) (x : Nat → wk_R) : Nat → Nat → Bool × Nat
  | 0, at_ => (false, at_)
  | m + 1, at_ => if (wk_cond f len x at_).1 = true then (if cu_c f len (wk_cond f len x at_).2.1 = 44 then wk_conds f len x m ((wk_cond f len x at_).2.1 + 1) else (true, (wk_cond f len x at_).2.1)) else (false, (wk_cond f len x at_).2.1)
/-- passRule: whether the rule holds, the place of the next -/
def wk_rule (f : Nat → Int32) (len : Nat) (x : Nat → wk_R) (at_ : Nat) : Bool × Nat :=
  if len ≤ at_ + 2 ∨ cu_c f len (at_ + 2) = 59 then (true, wk_skip f len 300 (at_ + 2) + 1) else ((wk_conds f len x 6 (at_ + 2)).1, wk_skip f len 300 (wk_conds f len x 6 (at_ + 2)).2 + 1)
theorem wk_skip_mx (f : Nat → Int32) (len : Nat) : ∀ (m at_ : Nat), wk_skip f len m at_ ≤ max at_ len
  | 0, at_ => Nat.le_max_left _ _
  | m + 1, at_ => by
    unfold wk_skip
    split
    · split
      · exact Nat.le_max_left _ _
      · have := wk_skip_mx f len m (at_ + 1); omega
    · exact Nat.le_max_left _ _
theorem wk_cond_mx {f : Nat → Int32} {len b : Nat} {x : Nat → wk_R} (h : wk_bd len b x) (at_ : Nat) : (wk_cond f len x at_).2.1 ≤ max at_ len + 2 * b + 1 := by
  have h1 := h at_
  have h2 := h ((x at_).2.1 + 1)
  unfold wk_cond
  split
  · show (x at_).2.1 ≤ _; omega
  · split
    · show (x ((x at_).2.1 + 1)).2.1 ≤ _; omega
    · show (x ((x at_).2.1 + 1)).2.1 ≤ _; omega
theorem wk_conds_mx {f : Nat → Int32} {len b : Nat} {x : Nat → wk_R} (h : wk_bd len b x) : ∀ (m at_ : Nat), (wk_conds f len x m at_).2 ≤ max at_ len + 2 * b + 1
  | 0, at_ => by show at_ ≤ _; omega
  | m + 1, at_ => by
    have hc := wk_cond_mx (f := f) h at_
    unfold wk_conds
    split
    · split
      · rename_i hs
        have hl := cu_c_in hs (by decide)
        have := wk_conds_mx (f := f) h m ((wk_cond f len x at_).2.1 + 1); omega
      · exact hc
    · exact hc
theorem wk_rule_mx {f : Nat → Int32} {len b : Nat} {x : Nat → wk_R} (h : wk_bd len b x) (at_ : Nat) : (wk_rule f len x at_).2 ≤ max at_ len + 2 * b + 4 := by
  unfold wk_rule
  split
  · have := wk_skip_mx f len 300 (at_ + 2)
    show wk_skip f len 300 (at_ + 2) + 1 ≤ _; omega
  · have h1 := wk_conds_mx (f := f) h 6 (at_ + 2)
    have := wk_skip_mx f len 300 (wk_conds f len x 6 (at_ + 2)).2
    show wk_skip f len 300 (wk_conds f len x 6 (at_ + 2)).2 + 1 ≤ _; omega
set_option maxHeartbeats 4000000 in
set_option maxRecDepth 100000 in
theorem c_walkCondition (G : ac_G) (l : Launch) (w u pl : Nat) (f : Nat → Int32) (len : Nat) (A : Nat → Nat) (I : Nat → Int32) (F : Nat → Nat → Int32) (c : Nat) (hlen : len ≤ 400) (hf : cu_ch f) (b : Nat) (x : Nat → wk_R) (hb : b ≤ 100) (hxb : wk_bd len b x) (d : Nat) (hX : wk_C G l yX7_walkExpression cX7_walkExpression w u pl f len A I F c (d + 9) 0 x) (h : ac_H) (at_ : Nat) (Kw : wk_ok h w u pl f len at_ false) (Kp : pl_ok h pl A I F c) (hat : at_ < 20000) : ac_Met G l yX7_walkCondition cX7_walkCondition 6 (some .boolean) (d + 10) 0 0 [.ref w] h (fun r9 h9 => r9 = some (.int (pb_b ((wk_cond f len x at_).1 = true))) ∧ wk_ok h9 w u pl f len (wk_cond f len x at_).2.1 (wk_cond f len x at_).2.2 ∧ kp h h9 [w]) := by
  refine ac_of (ls := [.ref w, .retAddr 0, .retAddr 0, .retAddr 0, .retAddr 0, .retAddr 0]) (by decide +kernel) rfl (Nat.le_of_ble_eq_true rfl) (fun M hl C B E hnm => ?_)
  rw [← hl] at hX
  refine aw_aload_n C dX7_walkCondition_0 rfl rfl (q := 1) rfl ?_
  refine aw_iconst (v := 0) C dX7_walkCondition_1 (by decide) (q := 2) rfl ?_
  refine cvX7_47_7 (As := [.int (nI 0)]) (rest := []) C B dX7_walkCondition_2 Kw.1 (hX h at_ Kw Kp (by omega)) rfl rfl (Nat.le_of_ble_eq_true rfl) (by omega) (by omega) (by omega) (q := 5) rfl (fun r9 h1 hr9 => ?_)
  obtain ⟨er9, K1, kp1⟩ := hr9
  subst er9
  have hb1 := hxb at_
  obtain ⟨r1, hr1⟩ : ∃ z, z = x at_ := ⟨_, rfl⟩
  rw [← hr1] at K1 hb1 ⊢
  have kq1 : kp h h1 [w] := kp1
  show aw G 6 M 5 [.ref w, .retAddr 0, .retAddr 0, .retAddr 0, .retAddr 0, .retAddr 0] [.long r1.1] h1 0 0
  refine aw_lstore_n (ls' := [.ref w, .long r1.1, .retAddr 0, .retAddr 0, .retAddr 0, .retAddr 0]) C dX7_walkCondition_5 rfl (by decide) rfl (q := 6) rfl ?_
  refine aw_aload_n C dX7_walkCondition_6 rfl rfl (q := 7) rfl ?_
  refine cvX7_35_7 (As := []) (rest := []) C B dX7_walkCondition_7 K1.1 (c_here7 G M.2.1 h1 d w u len r1.2.1 len f (.ref pl) (.int (pb_b (r1.2.2 = true))) K1.1 K1.2 (Nat.le_refl len) hlen (by omega) hf) rfl rfl (Nat.le_of_ble_eq_true rfl) (by omega) (by omega) (by omega) (q := 10) rfl (fun r9 h9 hr9 => ?_)
  obtain ⟨e9, er9⟩ := hr9
  subst er9; rw [e9]
  show aw G 6 M 10 [.ref w, .long r1.1, .retAddr 0, .retAddr 0, .retAddr 0, .retAddr 0] [.int (cu_c f len r1.2.1)] h1 0 0
  refine aw_istore_n (ls' := [.ref w, .long r1.1, .retAddr 0, .int (cu_c f len r1.2.1), .retAddr 0, .retAddr 0]) C dX7_walkCondition_10 rfl (by decide) rfl (q := 11) rfl ?_
  refine aw_aload_n C dX7_walkCondition_11 rfl rfl (q := 12) rfl ?_
  refine gfX7_31_7 (v := .int (pb_b (r1.2.2 = true))) C dX7_walkCondition_12 K1.1 rfl (q := 15) rfl ?_
  refine aw_if_eq (t := 20) (q := 18) C dX7_walkCondition_15 (by decide) rfl (fun c_15 => ?_) (fun c_15 => ?_)
  ·
    have ho : r1.2.2 = false := Bool.eq_false_iff.mpr (pb_0.mp c_15)
    have K1f : wk_ok h1 w u pl f len r1.2.1 false := by rw [← ho]; exact K1
    refine aw_aload_n C dX7_walkCondition_20 rfl rfl (q := 21) rfl ?_
    refine aw_dup C dX7_walkCondition_21 rfl (q := 22) rfl ?_
    refine gfX7_28_7 (v := .int (nI r1.2.1)) C dX7_walkCondition_22 K1f.1 rfl (q := 25) rfl ?_
    refine aw_iconst (v := 1) C dX7_walkCondition_25 (by decide) (q := 26) rfl ?_
    refine aw_iadd C dX7_walkCondition_26 (q := 27) rfl ?_
    rw [show nI r1.2.1 + 1 = nI (r1.2.1 + 1) from nI_1 _]
    refine pfX7_28_7 C dX7_walkCondition_27 K1f.1 rfl rfl (Nat.le_of_ble_eq_true rfl) (q := 30) rfl ?_
    show aw G 6 M 30 [.ref w, .long r1.1, .retAddr 0, .int (cu_c f len r1.2.1), .retAddr 0, .retAddr 0] [] (ac_up h1 w (.inr (7, [.ref u, .int (nI len), .int (nI (r1.2.1 + 1)), .ref pl, .int (pb_b (false = true))]))) 0 0
    obtain ⟨h_1, eh_1⟩ : ∃ z, z = ac_up h1 w (.inr (7, [.ref u, .int (nI len), .int (nI (r1.2.1 + 1)), .ref pl, .int (pb_b (false = true))])) := ⟨_, rfl⟩
    rw [← eh_1]
    have f_2 : h_1 u = some (.inl (0, len, .inl (f))) := by rw [eh_1, ac_up_n _ _ (ne_ai K1f.2 K1f.1)]; exact K1f.2
    have f_3 : h_1 w = some (.inr (7, [.ref u, .int (nI len), .int (nI (r1.2.1 + 1)), .ref pl, .int (pb_b (false = true))])) := by rw [eh_1]; exact ac_up_s _ _ _
    have kp_4 : kp h h_1 [w] := by rw [eh_1]; exact kp_up kq1 _ _ (by simp)
    have K_5 : wk_ok h_1 w u pl f len (r1.2.1 + 1) false := ⟨f_3, f_2⟩
    refine aw_aload_n C dX7_walkCondition_30 rfl rfl (q := 31) rfl ?_
    refine aw_iconst (v := 0) C dX7_walkCondition_31 (by decide) (q := 32) rfl ?_
    have Kp2 := pl_kpw Kp Kw kp_4
    refine cvX7_47_7 (As := [.int (nI 0)]) (rest := []) C B dX7_walkCondition_32 K_5.1 (hX h_1 (r1.2.1 + 1) K_5 Kp2 (by omega)) rfl rfl (Nat.le_of_ble_eq_true rfl) (by omega) (by omega) (by omega) (q := 35) rfl (fun r9 h2 hr9 => ?_)
    obtain ⟨er9, K2, kp2⟩ := hr9
    subst er9
    have hb2 := hxb (r1.2.1 + 1)
    obtain ⟨r2, hr2⟩ : ∃ z, z = x (r1.2.1 + 1) := ⟨_, rfl⟩
    rw [← hr2] at K2 hb2 ⊢
    have kq2 : kp h h2 [w] := kp_mono (kp_tr kp_4 kp2) (by simp)
    show aw G 6 M 35 [.ref w, .long r1.1, .retAddr 0, .int (cu_c f len r1.2.1), .retAddr 0, .retAddr 0] [.long r2.1] h2 0 0
    refine aw_lstore (ls' := [.ref w, .long r1.1, .retAddr 0, .int (cu_c f len r1.2.1), .long r2.1, .retAddr 0]) C dX7_walkCondition_35 (by decide) rfl (q := 37) rfl ?_
    refine aw_aload_n C dX7_walkCondition_37 rfl rfl (q := 38) rfl ?_
    refine gfX7_31_7 (v := .int (pb_b (r2.2.2 = true))) C dX7_walkCondition_38 K2.1 rfl (q := 41) rfl ?_
    refine aw_if_ne (t := 58) (q := 44) C dX7_walkCondition_41 (by decide) rfl (fun c_41 => ?_) (fun c_41 => ?_)
    ·
      refine aw_iconst (v := 0) C dX7_walkCondition_58 (by decide) (q := 59) rfl ?_
      refine aw_zret C E dX7_walkCondition_59 (rfl) (Nat.le_refl _) (Nat.le_refl _) ?_
      have ho2 : r2.2.2 = true := pb_n c_41
      have e : wk_cond f len x at_ = (false, r2.2.1, true) := by unfold wk_cond; rw [← hr1, if_neg (by rw [ho]; decide), ← hr2, if_pos ho2]
      rw [e]; exact ⟨rfl, by rw [← ho2]; exact K2, kq2⟩
    ·
      refine aw_iload_n C dX7_walkCondition_44 rfl rfl (q := 45) rfl ?_
      refine aw_lload_n C dX7_walkCondition_45 rfl rfl (q := 46) rfl ?_
      refine aw_lload C dX7_walkCondition_46 rfl (q := 48) rfl ?_
      refine csX7_51 (As := [.int (cu_c f len r1.2.1), .long r1.1, .long r2.1]) (rest := []) C B dX7_walkCondition_48 (c_compare G M.2.1 h2 d (cu_c f len r1.2.1) r1.1 r2.1) rfl rfl (Nat.le_of_ble_eq_true rfl) (by omega) (by omega) (by omega) (q := 51) rfl (fun r9 h9 hr9 => ?_)
      obtain ⟨e9, er9⟩ := hr9
      subst er9; rw [e9]
      show aw G 6 M 51 [.ref w, .long r1.1, .retAddr 0, .int (cu_c f len r1.2.1), .long r2.1, .retAddr 0] [.int (pb_b (rk_cmp (cu_c f len r1.2.1) r1.1 r2.1 = true))] h2 0 0
      refine aw_if_eq (t := 58) (q := 54) C dX7_walkCondition_51 (by decide) rfl (fun c_51 => ?_) (fun c_51 => ?_)
      ·
        refine aw_iconst (v := 0) C dX7_walkCondition_58 (by decide) (q := 59) rfl ?_
        refine aw_zret C E dX7_walkCondition_59 (rfl) (Nat.le_refl _) (Nat.le_refl _) ?_
        have ho2 : r2.2.2 = false := Bool.eq_false_iff.mpr (pb_0.mp c_41)
        have e : wk_cond f len x at_ = (false, r2.2.1, false) := by unfold wk_cond; rw [← hr1, if_neg (by rw [ho]; decide), ← hr2, if_neg (by rw [ho2]; decide), show rk_cmp (cu_c f len r1.2.1) r1.1 r2.1 = false from Bool.eq_false_iff.mpr (pb_0.mp c_51)]
        rw [e]; exact ⟨rfl, by rw [← ho2]; exact K2, kq2⟩
      ·
        refine aw_iconst (v := 1) C dX7_walkCondition_54 (by decide) (q := 55) rfl ?_
        refine aw_goto (q := 59) C dX7_walkCondition_55 (by decide) ?_
        refine aw_zret C E dX7_walkCondition_59 (rfl) (Nat.le_refl _) (Nat.le_refl _) ?_
        have ho2 : r2.2.2 = false := Bool.eq_false_iff.mpr (pb_0.mp c_41)
        have e : wk_cond f len x at_ = (true, r2.2.1, false) := by unfold wk_cond; rw [← hr1, if_neg (by rw [ho]; decide), ← hr2, if_neg (by rw [ho2]; decide), show rk_cmp (cu_c f len r1.2.1) r1.1 r2.1 = true from pb_n c_51]
        rw [e]; exact ⟨rfl, by rw [← ho2]; exact K2, kq2⟩
  ·
    refine aw_iconst (v := 0) C dX7_walkCondition_18 (by decide) (q := 19) rfl ?_
    refine aw_zret C E dX7_walkCondition_19 (rfl) (Nat.le_refl _) (Nat.le_refl _) ?_
    have ho : r1.2.2 = true := pb_n c_15
    have e : wk_cond f len x at_ = (false, r1.2.1, true) := by unfold wk_cond; rw [← hr1, if_pos ho]
    rw [e]; exact ⟨rfl, by rw [← ho]; exact K1, kq1⟩
set_option maxHeartbeats 4000000 in
set_option maxRecDepth 100000 in
theorem lp_skipRule {G : ac_G} {M : ac_M} {h : ac_H} {w u pl len R d : Nat} {f : Nat → Int32} {op : Bool} (hlen : len ≤ 400) (hf : cu_ch f) (C : ac_MC G RX7 cX7_skipRule 2 none M) (B : ac_Bd M (d + 1) 0 0) (E : ac_End G (fun r9 h9 => r9 = none ∧ wk_ok h9 w u pl f len (R + 1) op ∧ kp h h9 [w]) 0 0 M) :
    ∀ (m i at1 : Nat) (h1 : ac_H), i + m = 300 → at1 < 40000 → wk_ok h1 w u pl f len at1 op → kp h h1 [w] → wk_skip f len m at1 = R → aw G 2 M 2 [.ref w, .int (nI i)] [] h1 0 0 := by
  intro m
  induction m with
  | zero =>
    intro i at1 h1 hi hat K1 kq1 hR
    refine aw_iload_n C dX7_skipRule_2 rfl rfl (q := 3) rfl ?_
    refine aw_sipush (v := 300) C dX7_skipRule_3 (by decide) (q := 6) rfl ?_
    refine aw_icmp_ge (t := 45) (q := 9) C dX7_skipRule_6 (by decide) rfl (fun c_6 => ?_) (fun c_6 => absurd c_6 (fun z => z (nI_le (a := 300) (by omega) (by omega))))
    refine aw_aload_n C dX7_skipRule_45 rfl rfl (q := 46) rfl ?_
    refine aw_dup C dX7_skipRule_46 rfl (q := 47) rfl ?_
    refine gfX7_28_7 (v := .int (nI at1)) C dX7_skipRule_47 K1.1 rfl (q := 50) rfl ?_
    refine aw_iconst (v := 1) C dX7_skipRule_50 (by decide) (q := 51) rfl ?_
    refine aw_iadd C dX7_skipRule_51 (q := 52) rfl ?_
    rw [show nI at1 + 1 = nI (at1 + 1) from nI_1 _]
    refine pfX7_28_7 C dX7_skipRule_52 K1.1 rfl rfl (Nat.le_of_ble_eq_true rfl) (q := 55) rfl ?_
    show aw G 2 M 55 [.ref w, .int (nI i)] [] (ac_up h1 w (.inr (7, [.ref u, .int (nI len), .int (nI (at1 + 1)), .ref pl, .int (pb_b (op = true))]))) 0 0
    obtain ⟨h_1, eh_1⟩ : ∃ z, z = ac_up h1 w (.inr (7, [.ref u, .int (nI len), .int (nI (at1 + 1)), .ref pl, .int (pb_b (op = true))])) := ⟨_, rfl⟩
    rw [← eh_1]
    have f_2 : h_1 u = some (.inl (0, len, .inl (f))) := by rw [eh_1, ac_up_n _ _ (ne_ai K1.2 K1.1)]; exact K1.2
    have f_3 : h_1 w = some (.inr (7, [.ref u, .int (nI len), .int (nI (at1 + 1)), .ref pl, .int (pb_b (op = true))])) := by rw [eh_1]; exact ac_up_s _ _ _
    have kp_4 : kp h h_1 [w] := by rw [eh_1]; exact kp_up kq1 _ _ (by simp)
    have K_5 : wk_ok h_1 w u pl f len (at1 + 1) op := ⟨f_3, f_2⟩
    refine aw_vret C E dX7_skipRule_55 (Nat.le_refl _) (Nat.le_refl _) ?_
    have e : R = at1 := by rw [← hR]; rfl
    exact ⟨rfl, by rw [e]; exact K_5, kp_4⟩
  | succ m ih =>
    intro i at1 h1 hi hat K1 kq1 hR
    refine aw_iload_n C dX7_skipRule_2 rfl rfl (q := 3) rfl ?_
    refine aw_sipush (v := 300) C dX7_skipRule_3 (by decide) (q := 6) rfl ?_
    refine aw_icmp_ge (t := 45) (q := 9) C dX7_skipRule_6 (by decide) rfl (fun c_6 => absurd c_6 (ni_nge i 300 rfl rfl (by omega) (by decide) (by omega))) (fun c_6 => ?_)
    refine aw_aload_n C dX7_skipRule_9 rfl rfl (q := 10) rfl ?_
    refine gfX7_28_7 (v := .int (nI at1)) C dX7_skipRule_10 K1.1 rfl (q := 13) rfl ?_
    refine aw_aload_n C dX7_skipRule_13 rfl rfl (q := 14) rfl ?_
    refine gfX7_24_7 (v := .int (nI len)) C dX7_skipRule_14 K1.1 rfl (q := 17) rfl ?_
    refine aw_icmp_ge (t := 45) (q := 20) C dX7_skipRule_17 (by decide) rfl (fun c_17 => ?_) (fun c_17 => ?_)
    ·
      refine aw_aload_n C dX7_skipRule_45 rfl rfl (q := 46) rfl ?_
      refine aw_dup C dX7_skipRule_46 rfl (q := 47) rfl ?_
      refine gfX7_28_7 (v := .int (nI at1)) C dX7_skipRule_47 K1.1 rfl (q := 50) rfl ?_
      refine aw_iconst (v := 1) C dX7_skipRule_50 (by decide) (q := 51) rfl ?_
      refine aw_iadd C dX7_skipRule_51 (q := 52) rfl ?_
      rw [show nI at1 + 1 = nI (at1 + 1) from nI_1 _]
      refine pfX7_28_7 C dX7_skipRule_52 K1.1 rfl rfl (Nat.le_of_ble_eq_true rfl) (q := 55) rfl ?_
      show aw G 2 M 55 [.ref w, .int (nI i)] [] (ac_up h1 w (.inr (7, [.ref u, .int (nI len), .int (nI (at1 + 1)), .ref pl, .int (pb_b (op = true))]))) 0 0
      obtain ⟨h_1, eh_1⟩ : ∃ z, z = ac_up h1 w (.inr (7, [.ref u, .int (nI len), .int (nI (at1 + 1)), .ref pl, .int (pb_b (op = true))])) := ⟨_, rfl⟩
      rw [← eh_1]
      have f_2 : h_1 u = some (.inl (0, len, .inl (f))) := by rw [eh_1, ac_up_n _ _ (ne_ai K1.2 K1.1)]; exact K1.2
      have f_3 : h_1 w = some (.inr (7, [.ref u, .int (nI len), .int (nI (at1 + 1)), .ref pl, .int (pb_b (op = true))])) := by rw [eh_1]; exact ac_up_s _ _ _
      have kp_4 : kp h h_1 [w] := by rw [eh_1]; exact kp_up kq1 _ _ (by simp)
      have K_5 : wk_ok h_1 w u pl f len (at1 + 1) op := ⟨f_3, f_2⟩
      refine aw_vret C E dX7_skipRule_55 (Nat.le_refl _) (Nat.le_refl _) ?_
      have e : R = at1 := by rw [← hR]; unfold wk_skip; rw [if_neg (by have := ni_le at1 len rfl rfl (by omega) (by omega) c_17; omega)]
      exact ⟨rfl, by rw [e]; exact K_5, kp_4⟩
    ·
      refine aw_aload_n C dX7_skipRule_20 rfl rfl (q := 21) rfl ?_
      refine cvX7_35_7 (As := []) (rest := []) C B dX7_skipRule_21 K1.1 (c_here7 G M.2.1 h1 d w u len at1 len f (.ref pl) (.int (pb_b (op = true))) K1.1 K1.2 (Nat.le_refl len) hlen (by omega) hf) rfl rfl (Nat.le_of_ble_eq_true rfl) (by omega) (by omega) (by omega) (q := 24) rfl (fun r9 h9 hr9 => ?_)
      obtain ⟨e9, er9⟩ := hr9
      subst er9; rw [e9]
      show aw G 2 M 24 [.ref w, .int (nI i)] [.int (cu_c f len at1)] h1 0 0
      refine aw_bipush (v := 59) C dX7_skipRule_24 (by decide) (q := 26) rfl ?_
      refine aw_icmp_eq (t := 45) (q := 29) C dX7_skipRule_26 (by decide) rfl (fun c_26 => ?_) (fun c_26 => ?_)
      ·
        refine aw_aload_n C dX7_skipRule_45 rfl rfl (q := 46) rfl ?_
        refine aw_dup C dX7_skipRule_46 rfl (q := 47) rfl ?_
        refine gfX7_28_7 (v := .int (nI at1)) C dX7_skipRule_47 K1.1 rfl (q := 50) rfl ?_
        refine aw_iconst (v := 1) C dX7_skipRule_50 (by decide) (q := 51) rfl ?_
        refine aw_iadd C dX7_skipRule_51 (q := 52) rfl ?_
        rw [show nI at1 + 1 = nI (at1 + 1) from nI_1 _]
        refine pfX7_28_7 C dX7_skipRule_52 K1.1 rfl rfl (Nat.le_of_ble_eq_true rfl) (q := 55) rfl ?_
        show aw G 2 M 55 [.ref w, .int (nI i)] [] (ac_up h1 w (.inr (7, [.ref u, .int (nI len), .int (nI (at1 + 1)), .ref pl, .int (pb_b (op = true))]))) 0 0
        obtain ⟨h_6, eh_6⟩ : ∃ z, z = ac_up h1 w (.inr (7, [.ref u, .int (nI len), .int (nI (at1 + 1)), .ref pl, .int (pb_b (op = true))])) := ⟨_, rfl⟩
        rw [← eh_6]
        have f_7 : h_6 u = some (.inl (0, len, .inl (f))) := by rw [eh_6, ac_up_n _ _ (ne_ai K1.2 K1.1)]; exact K1.2
        have f_8 : h_6 w = some (.inr (7, [.ref u, .int (nI len), .int (nI (at1 + 1)), .ref pl, .int (pb_b (op = true))])) := by rw [eh_6]; exact ac_up_s _ _ _
        have kp_9 : kp h h_6 [w] := by rw [eh_6]; exact kp_up kq1 _ _ (by simp)
        have K_10 : wk_ok h_6 w u pl f len (at1 + 1) op := ⟨f_8, f_7⟩
        refine aw_vret C E dX7_skipRule_55 (Nat.le_refl _) (Nat.le_refl _) ?_
        have e : R = at1 := by rw [← hR]; unfold wk_skip; rw [if_pos (ni_nle at1 len rfl rfl (by omega) (by omega) c_17), if_pos c_26]
        exact ⟨rfl, by rw [e]; exact K_10, kp_9⟩
      ·
        refine aw_aload_n C dX7_skipRule_29 rfl rfl (q := 30) rfl ?_
        refine aw_dup C dX7_skipRule_30 rfl (q := 31) rfl ?_
        refine gfX7_28_7 (v := .int (nI at1)) C dX7_skipRule_31 K1.1 rfl (q := 34) rfl ?_
        refine aw_iconst (v := 1) C dX7_skipRule_34 (by decide) (q := 35) rfl ?_
        refine aw_iadd C dX7_skipRule_35 (q := 36) rfl ?_
        rw [show nI at1 + 1 = nI (at1 + 1) from nI_1 _]
        refine pfX7_28_7 C dX7_skipRule_36 K1.1 rfl rfl (Nat.le_of_ble_eq_true rfl) (q := 39) rfl ?_
        show aw G 2 M 39 [.ref w, .int (nI i)] [] (ac_up h1 w (.inr (7, [.ref u, .int (nI len), .int (nI (at1 + 1)), .ref pl, .int (pb_b (op = true))]))) 0 0
        obtain ⟨h_11, eh_11⟩ : ∃ z, z = ac_up h1 w (.inr (7, [.ref u, .int (nI len), .int (nI (at1 + 1)), .ref pl, .int (pb_b (op = true))])) := ⟨_, rfl⟩
        rw [← eh_11]
        have f_12 : h_11 u = some (.inl (0, len, .inl (f))) := by rw [eh_11, ac_up_n _ _ (ne_ai K1.2 K1.1)]; exact K1.2
        have f_13 : h_11 w = some (.inr (7, [.ref u, .int (nI len), .int (nI (at1 + 1)), .ref pl, .int (pb_b (op = true))])) := by rw [eh_11]; exact ac_up_s _ _ _
        have kp_14 : kp h h_11 [w] := by rw [eh_11]; exact kp_up kq1 _ _ (by simp)
        have K_15 : wk_ok h_11 w u pl f len (at1 + 1) op := ⟨f_13, f_12⟩
        refine aw_iinc (v := nI (i + 1)) (ls' := [.ref w, .int (nI (i + 1))]) C dX7_skipRule_39 rfl (nI_1 i) (by decide) rfl (q := 42) rfl ?_
        refine aw_goto (q := 2) C dX7_skipRule_42 (by decide) ?_
        have hl1 := ni_nle at1 len rfl rfl (by omega) (by omega) c_17
        refine ih (i + 1) (at1 + 1) h_11 (by omega) (by omega) K_15 kp_14 ?_
        rw [← hR]; conv => rhs; unfold wk_skip
        rw [if_pos hl1, if_neg c_26]
set_option maxHeartbeats 4000000 in
set_option maxRecDepth 100000 in
theorem c_skipRule (G : ac_G) (l : Launch) (w u pl : Nat) (f : Nat → Int32) (len : Nat) (A : Nat → Nat) (I : Nat → Int32) (F : Nat → Nat → Int32) (c : Nat) (hlen : len ≤ 400) (hf : cu_ch f) (h : ac_H) (d at_ : Nat) (op : Bool) (Kw : wk_ok h w u pl f len at_ op) (hat : at_ < 40000) : ac_Met G l yX7_skipRule cX7_skipRule 2 none (d + 1) 0 0 [.ref w] h (fun r9 h9 => r9 = none ∧ wk_ok h9 w u pl f len (wk_skip f len 300 at_ + 1) op ∧ kp h h9 [w]) := by
  refine ac_of (ls := [.ref w, .retAddr 0]) (by decide +kernel) rfl (Nat.le_of_ble_eq_true rfl) (fun M hl C B E hnm => ?_)
  refine aw_iconst (v := 0) C dX7_skipRule_0 (by decide) (q := 1) rfl ?_
  refine aw_istore_n (ls' := [.ref w, .int 0]) C dX7_skipRule_1 rfl (by decide) rfl (q := 2) rfl ?_
  exact lp_skipRule (R := wk_skip f len 300 at_) hlen hf C B E 300 0 at_ h rfl hat Kw (kp_cons _ kp_rf) rfl
