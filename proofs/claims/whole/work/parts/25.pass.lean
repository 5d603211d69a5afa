/-! Walker: passRule, begin -/
theorem wk_cond_t {f : Nat → Int32} {len : Nat} {x : Nat → wk_R} {at_ : Nat} (h : (wk_cond f len x at_).1 = true) : (wk_cond f len x at_).2.2 = false := by
  unfold wk_cond at h ⊢
  split
  · rename_i z; rw [if_pos z] at h; cases h
  · rename_i z; rw [if_neg z] at h
    split
    · rename_i z2; rw [if_pos z2] at h; cases h
    · rfl
theorem wk_okx {h : ac_H} {w u pl len at_ : Nat} {f : Nat → Int32} {op op' : Bool} (K : wk_ok h w u pl f len at_ op) (e : op = op') : wk_ok h w u pl f len at_ op' := e ▸ K
set_option maxHeartbeats 4000000 in
set_option maxRecDepth 100000 in
theorem lp_passRule {G : ac_G} {M : ac_M} {h : ac_H} {w u pl : Nat} {f : Nat → Int32} {len : Nat} {A : Nat → Nat} {I : Nat → Int32} {F : Nat → Nat → Int32} {c : Nat} (hlen : len ≤ 400) (hf : cu_ch f) {b : Nat} {x : Nat → wk_R} (hb : b ≤ 100) (hxb : wk_bd len b x) {d : Nat} (hX : wk_C G M.2.1 yX7_walkExpression cX7_walkExpression w u pl f len A I F c (d + 9) 0 x) {R : Bool × Nat} (C : ac_MC G RX7 cX7_passRule 3 (some .boolean) M) (B : ac_Bd M (d + 11) 0 0) (E : ac_End G (fun r9 h9 => r9 = some (.int (pb_b (R.1 = true))) ∧ (∃ op, wk_ok h9 w u pl f len (wk_skip f len 300 R.2 + 1) op) ∧ kp h h9 [w]) 0 0 M) {at0 : Nat} {op0 : Bool} (Kw0 : wk_ok h w u pl f len at0 op0) (Kp : pl_ok h pl A I F c) :
    ∀ (m i at1 : Nat) (h1 : ac_H), i + m = 6 → at1 < 20000 → wk_ok h1 w u pl f len at1 false → kp h h1 [w] → wk_conds f len x m at1 = R → aw G 3 M 43 [.ref w, .int 0, .int (nI i)] [] h1 0 0 := by
  intro m
  induction m with
  | zero =>
    intro i at1 h1 hi hat K1 kq1 hR
    refine aw_iload_n C dX7_passRule_43 rfl rfl (q := 44) rfl ?_
    refine aw_bipush (v := 6) C dX7_passRule_44 (by decide) (q := 46) rfl ?_
    refine aw_icmp_ge (t := 93) (q := 49) C dX7_passRule_46 (by decide) rfl (fun c_46 => ?_) (fun c_46 => absurd c_46 (fun z => z (nI_le (a := 6) (by omega) (by omega))))
    refine aw_aload_n C dX7_passRule_93 rfl rfl (q := 94) rfl ?_
    refine cvX7_43_7 (As := []) (rest := []) C B dX7_passRule_94 K1.1 (c_skipRule G M.2.1 w u pl f len A I F c hlen hf h1 d at1 false K1 (by omega)) rfl rfl (Nat.le_of_ble_eq_true rfl) (by omega) (by omega) (by omega) (q := 97) rfl (fun r9 h5 hr9 => ?_)
    obtain ⟨er9, K5, kp5⟩ := hr9
    subst er9
    have kq5 : kp h h5 [w] := kp_mono (kp_tr kq1 kp5) (by simp)
    show aw G 3 M 97 [.ref w, .int 0, .int (nI i)] [] h5 0 0
    refine aw_iload_n C dX7_passRule_97 rfl rfl (q := 98) rfl ?_
    refine aw_zret C E dX7_passRule_98 (rfl) (Nat.le_refl _) (Nat.le_refl _) ?_
    have e : R = (false, at1) := by rw [← hR]; rfl
    rw [e]; exact ⟨rfl, ⟨_, K5⟩, kq5⟩
  | succ m ih =>
    intro i at1 h1 hi hat K1 kq1 hR
    refine aw_iload_n C dX7_passRule_43 rfl rfl (q := 44) rfl ?_
    refine aw_bipush (v := 6) C dX7_passRule_44 (by decide) (q := 46) rfl ?_
    refine aw_icmp_ge (t := 93) (q := 49) C dX7_passRule_46 (by decide) rfl (fun c_46 => absurd c_46 (ni_nge i 6 rfl rfl (by omega) (by decide) (by omega))) (fun c_46 => ?_)
    refine aw_iload_n C dX7_passRule_49 rfl rfl (q := 50) rfl ?_
    refine aw_if_ne (t := 93) (q := 53) C dX7_passRule_50 (by decide) rfl (fun c_50 => absurd c_50 (by decide)) (fun c_50 => ?_)
    refine aw_aload_n C dX7_passRule_53 rfl rfl (q := 54) rfl ?_
    have Kp1 := pl_kpw Kp Kw0 kq1
    refine cvX7_39_7 (As := []) (rest := []) C B dX7_passRule_54 K1.1 (c_walkCondition G M.2.1 w u pl f len A I F c hlen hf b x hb hxb d hX h1 at1 K1 Kp1 (by omega)) rfl rfl (Nat.le_of_ble_eq_true rfl) (by omega) (by omega) (by omega) (q := 57) rfl (fun r9 h2 hr9 => ?_)
    obtain ⟨er9, K2, kp2⟩ := hr9
    subst er9
    have hcb := wk_cond_mx (f := f) hxb at1
    obtain ⟨z2, hz2⟩ : ∃ z, z = wk_cond f len x at1 := ⟨_, rfl⟩
    have ht2 : z2.1 = true → z2.2.2 = false := fun y => by rw [hz2]; exact wk_cond_t (by rw [← hz2]; exact y)
    rw [← hz2] at K2 hcb ⊢
    have kq2 : kp h h2 [w] := kp_mono (kp_tr kq1 kp2) (by simp)
    show aw G 3 M 57 [.ref w, .int 0, .int (nI i)] [.int (pb_b (z2.1 = true))] h2 0 0
    refine aw_if_ne (t := 63) (q := 60) C dX7_passRule_57 (by decide) rfl (fun c_57 => ?_) (fun c_57 => ?_)
    ·
      have hz1 : z2.1 = true := pb_n c_57
      have K2f := wk_okx K2 (ht2 hz1)
      refine aw_aload_n C dX7_passRule_63 rfl rfl (q := 64) rfl ?_
      refine cvX7_35_7 (As := []) (rest := []) C B dX7_passRule_64 K2f.1 (c_here7 G M.2.1 h2 d w u len z2.2.1 len f (.ref pl) (.int (pb_b (false = true))) K2f.1 K2f.2 (Nat.le_refl len) hlen (by omega) hf) rfl rfl (Nat.le_of_ble_eq_true rfl) (by omega) (by omega) (by omega) (q := 67) rfl (fun r9 h9 hr9 => ?_)
      obtain ⟨e9, er9⟩ := hr9
      subst er9; rw [e9]
      show aw G 3 M 67 [.ref w, .int 0, .int (nI i)] [.int (cu_c f len z2.2.1)] h2 0 0
      refine aw_bipush (v := 44) C dX7_passRule_67 (by decide) (q := 69) rfl ?_
      refine aw_icmp_ne (t := 85) (q := 72) C dX7_passRule_69 (by decide) rfl (fun c_69 => ?_) (fun c_69 => ?_)
      ·
        refine aw_iconst (v := 1) C dX7_passRule_85 (by decide) (q := 86) rfl ?_
        refine aw_istore_n (ls' := [.ref w, .int 1, .int (nI i)]) C dX7_passRule_86 rfl (by decide) rfl (q := 87) rfl ?_
        refine aw_iinc (v := nI (i + 1)) (ls' := [.ref w, .int 1, .int (nI (i + 1))]) C dX7_passRule_87 rfl (nI_1 i) (by decide) rfl (q := 90) rfl ?_
        refine aw_goto (q := 43) C dX7_passRule_90 (by decide) ?_
        refine aw_iload_n C dX7_passRule_43 rfl rfl (q := 44) rfl ?_
        refine aw_bipush (v := 6) C dX7_passRule_44 (by decide) (q := 46) rfl ?_
        refine aw_icmp_ge (t := 93) (q := 49) C dX7_passRule_46 (by decide) rfl (fun c_46 => ?_) (fun c_46 => ?_)
        ·
          refine aw_aload_n C dX7_passRule_93 rfl rfl (q := 94) rfl ?_
          refine cvX7_43_7 (As := []) (rest := []) C B dX7_passRule_94 K2f.1 (c_skipRule G M.2.1 w u pl f len A I F c hlen hf h2 d z2.2.1 false K2f (by omega)) rfl rfl (Nat.le_of_ble_eq_true rfl) (by omega) (by omega) (by omega) (q := 97) rfl (fun r9 h5 hr9 => ?_)
          obtain ⟨er9, K5, kp5⟩ := hr9
          subst er9
          have kq5 : kp h h5 [w] := kp_mono (kp_tr kq2 kp5) (by simp)
          show aw G 3 M 97 [.ref w, .int 1, .int (nI (i + 1))] [] h5 0 0
          refine aw_iload_n C dX7_passRule_97 rfl rfl (q := 98) rfl ?_
          refine aw_zret C E dX7_passRule_98 (rfl) (Nat.le_refl _) (Nat.le_refl _) ?_
          have e : R = (true, z2.2.1) := by rw [← hR]; unfold wk_conds; rw [← hz2, if_pos hz1, if_neg c_69]
          rw [e]; exact ⟨rfl, ⟨_, K5⟩, kq5⟩
        ·
          refine aw_iload_n C dX7_passRule_49 rfl rfl (q := 50) rfl ?_
          refine aw_if_ne (t := 93) (q := 53) C dX7_passRule_50 (by decide) rfl (fun c_50 => ?_) (fun c_50 => absurd c_50 (by decide))
          refine aw_aload_n C dX7_passRule_93 rfl rfl (q := 94) rfl ?_
          refine cvX7_43_7 (As := []) (rest := []) C B dX7_passRule_94 K2f.1 (c_skipRule G M.2.1 w u pl f len A I F c hlen hf h2 d z2.2.1 false K2f (by omega)) rfl rfl (Nat.le_of_ble_eq_true rfl) (by omega) (by omega) (by omega) (q := 97) rfl (fun r9 h5 hr9 => ?_)
          obtain ⟨er9, K5, kp5⟩ := hr9
          subst er9
          have kq5 : kp h h5 [w] := kp_mono (kp_tr kq2 kp5) (by simp)
          show aw G 3 M 97 [.ref w, .int 1, .int (nI (i + 1))] [] h5 0 0
          refine aw_iload_n C dX7_passRule_97 rfl rfl (q := 98) rfl ?_
          refine aw_zret C E dX7_passRule_98 (rfl) (Nat.le_refl _) (Nat.le_refl _) ?_
          have e : R = (true, z2.2.1) := by rw [← hR]; unfold wk_conds; rw [← hz2, if_pos hz1, if_neg c_69]
          rw [e]; exact ⟨rfl, ⟨_, K5⟩, kq5⟩
      ·
        refine aw_aload_n C dX7_passRule_72 rfl rfl (q := 73) rfl ?_
        refine aw_dup C dX7_passRule_73 rfl (q := 74) rfl ?_
        refine gfX7_28_7 (v := .int (nI z2.2.1)) C dX7_passRule_74 K2f.1 rfl (q := 77) rfl ?_
        refine aw_iconst (v := 1) C dX7_passRule_77 (by decide) (q := 78) rfl ?_
        refine aw_iadd C dX7_passRule_78 (q := 79) rfl ?_
        rw [show nI z2.2.1 + 1 = nI (z2.2.1 + 1) from nI_1 _]
        refine pfX7_28_7 C dX7_passRule_79 K2f.1 rfl rfl (Nat.le_of_ble_eq_true rfl) (q := 82) rfl ?_
        show aw G 3 M 82 [.ref w, .int 0, .int (nI i)] [] (ac_up h2 w (.inr (7, [.ref u, .int (nI len), .int (nI (z2.2.1 + 1)), .ref pl, .int (pb_b (false = true))]))) 0 0
        obtain ⟨h_1, eh_1⟩ : ∃ z, z = ac_up h2 w (.inr (7, [.ref u, .int (nI len), .int (nI (z2.2.1 + 1)), .ref pl, .int (pb_b (false = true))])) := ⟨_, rfl⟩
        rw [← eh_1]
        have f_2 : h_1 u = some (.inl (0, len, .inl (f))) := by rw [eh_1, ac_up_n _ _ (ne_ai K2f.2 K2f.1)]; exact K2f.2
        have f_3 : h_1 w = some (.inr (7, [.ref u, .int (nI len), .int (nI (z2.2.1 + 1)), .ref pl, .int (pb_b (false = true))])) := by rw [eh_1]; exact ac_up_s _ _ _
        have kp_4 : kp h h_1 [w] := by rw [eh_1]; exact kp_up kq2 _ _ (by simp)
        have K_5 : wk_ok h_1 w u pl f len (z2.2.1 + 1) false := ⟨f_3, f_2⟩
        refine aw_goto (q := 87) C dX7_passRule_82 (by decide) ?_
        refine aw_iinc (v := nI (i + 1)) (ls' := [.ref w, .int 0, .int (nI (i + 1))]) C dX7_passRule_87 rfl (nI_1 i) (by decide) rfl (q := 90) rfl ?_
        refine aw_goto (q := 43) C dX7_passRule_90 (by decide) ?_
        have hl1 : z2.2.1 < len := cu_c_in c_69 (by decide)
        refine ih (i + 1) (z2.2.1 + 1) h_1 (by omega) (by omega) K_5 kp_4 ?_
        rw [← hR]; conv => rhs; unfold wk_conds
        rw [← hz2, if_pos hz1, if_pos c_69]
    ·
      refine aw_goto (q := 93) C dX7_passRule_60 (by decide) ?_
      refine aw_aload_n C dX7_passRule_93 rfl rfl (q := 94) rfl ?_
      refine cvX7_43_7 (As := []) (rest := []) C B dX7_passRule_94 K2.1 (c_skipRule G M.2.1 w u pl f len A I F c hlen hf h2 d z2.2.1 z2.2.2 K2 (by omega)) rfl rfl (Nat.le_of_ble_eq_true rfl) (by omega) (by omega) (by omega) (q := 97) rfl (fun r9 h5 hr9 => ?_)
      obtain ⟨er9, K5, kp5⟩ := hr9
      subst er9
      have kq5 : kp h h5 [w] := kp_mono (kp_tr kq2 kp5) (by simp)
      show aw G 3 M 97 [.ref w, .int 0, .int (nI i)] [] h5 0 0
      refine aw_iload_n C dX7_passRule_97 rfl rfl (q := 98) rfl ?_
      refine aw_zret C E dX7_passRule_98 (rfl) (Nat.le_refl _) (Nat.le_refl _) ?_
      have e : R = (false, z2.2.1) := by rw [← hR]; unfold wk_conds; rw [← hz2, if_neg (pb_0.mp c_57)]
      rw [e]; exact ⟨rfl, ⟨_, K5⟩, kq5⟩
set_option maxHeartbeats 4000000 in
set_option maxRecDepth 100000 in
theorem c_passRule (G : ac_G) (l : Launch) (w u pl : Nat) (f : Nat → Int32) (len : Nat) (A : Nat → Nat) (I : Nat → Int32) (F : Nat → Nat → Int32) (c : Nat) (hlen : len ≤ 400) (hf : cu_ch f) (b : Nat) (x : Nat → wk_R) (hb : b ≤ 100) (hxb : wk_bd len b x) (d : Nat) (hX : wk_C G l yX7_walkExpression cX7_walkExpression w u pl f len A I F c (d + 9) 0 x) (h : ac_H) (at_ : Nat) (op0 : Bool) (Kw : wk_ok h w u pl f len at_ op0) (Kp : pl_ok h pl A I F c) (hat : at_ < 15000) : ac_Met G l yX7_passRule cX7_passRule 3 (some .boolean) (d + 11) 0 0 [.ref w] h (fun r9 h9 => r9 = some (.int (pb_b ((wk_rule f len x at_).1 = true))) ∧ (∃ op, wk_ok h9 w u pl f len ((wk_rule f len x at_).2) op) ∧ kp h h9 [w]) := by
  refine ac_of (ls := [.ref w, .retAddr 0, .retAddr 0]) (by decide +kernel) rfl (Nat.le_of_ble_eq_true rfl) (fun M hl C B E hnm => ?_)
  rw [← hl] at hX
  refine aw_aload_n C dX7_passRule_0 rfl rfl (q := 1) rfl ?_
  refine aw_iconst (v := 0) C dX7_passRule_1 (by decide) (q := 2) rfl ?_
  rw [show (0 : Int32) = pb_b (false = true) from rfl]
  refine pfX7_31_7 C dX7_passRule_2 Kw.1 rfl rfl (Nat.le_of_ble_eq_true rfl) (q := 5) rfl ?_
  show aw G 3 M 5 [.ref w, .retAddr 0, .retAddr 0] [] (ac_up h w (.inr (7, [.ref u, .int (nI len), .int (nI at_), .ref pl, .int (pb_b (false = true))]))) 0 0
  obtain ⟨h_1, eh_1⟩ : ∃ z, z = ac_up h w (.inr (7, [.ref u, .int (nI len), .int (nI at_), .ref pl, .int (pb_b (false = true))])) := ⟨_, rfl⟩
  rw [← eh_1]
  have f_2 : h_1 u = some (.inl (0, len, .inl (f))) := by rw [eh_1, ac_up_n _ _ (ne_ai Kw.2 Kw.1)]; exact Kw.2
  have f_3 : h_1 w = some (.inr (7, [.ref u, .int (nI len), .int (nI at_), .ref pl, .int (pb_b (false = true))])) := by rw [eh_1]; exact ac_up_s _ _ _
  have kp_4 : kp h h_1 [w] := by rw [eh_1]; exact kp_up (kp_cons w kp_rf) _ _ (by simp)
  have Kf : wk_ok h_1 w u pl f len at_ false := ⟨f_3, f_2⟩
  refine aw_aload_n C dX7_passRule_5 rfl rfl (q := 6) rfl ?_
  refine aw_dup C dX7_passRule_6 rfl (q := 7) rfl ?_
  refine gfX7_28_7 (v := .int (nI at_)) C dX7_passRule_7 Kf.1 rfl (q := 10) rfl ?_
  refine aw_iconst (v := 2) C dX7_passRule_10 (by decide) (q := 11) rfl ?_
  refine aw_iadd C dX7_passRule_11 (q := 12) rfl ?_
  rw [show nI at_ + 2 = nI (at_ + 2) from nI_add at_ 2]
  refine pfX7_28_7 C dX7_passRule_12 Kf.1 rfl rfl (Nat.le_of_ble_eq_true rfl) (q := 15) rfl ?_
  show aw G 3 M 15 [.ref w, .retAddr 0, .retAddr 0] [] (ac_up h_1 w (.inr (7, [.ref u, .int (nI len), .int (nI (at_ + 2)), .ref pl, .int (pb_b (false = true))]))) 0 0
  obtain ⟨h_5, eh_5⟩ : ∃ z, z = ac_up h_1 w (.inr (7, [.ref u, .int (nI len), .int (nI (at_ + 2)), .ref pl, .int (pb_b (false = true))])) := ⟨_, rfl⟩
  rw [← eh_5]
  have f_6 : h_5 u = some (.inl (0, len, .inl (f))) := by rw [eh_5, ac_up_n _ _ (ne_ai Kf.2 Kf.1)]; exact Kf.2
  have f_7 : h_5 w = some (.inr (7, [.ref u, .int (nI len), .int (nI (at_ + 2)), .ref pl, .int (pb_b (false = true))])) := by rw [eh_5]; exact ac_up_s _ _ _
  have kp_8 : kp h h_5 [w] := by rw [eh_5]; exact kp_up kp_4 _ _ (by simp)
  have K1 : wk_ok h_5 w u pl f len (at_ + 2) false := ⟨f_7, f_6⟩
  refine aw_aload_n C dX7_passRule_15 rfl rfl (q := 16) rfl ?_
  refine gfX7_28_7 (v := .int (nI (at_ + 2))) C dX7_passRule_16 K1.1 rfl (q := 19) rfl ?_
  refine aw_aload_n C dX7_passRule_19 rfl rfl (q := 20) rfl ?_
  refine gfX7_24_7 (v := .int (nI len)) C dX7_passRule_20 K1.1 rfl (q := 23) rfl ?_
  refine aw_icmp_ge (t := 35) (q := 26) C dX7_passRule_23 (by decide) rfl (fun c_23 => ?_) (fun c_23 => ?_)
  ·
    refine aw_iconst (v := 1) C dX7_passRule_35 (by decide) (q := 36) rfl ?_
    refine aw_goto (q := 40) C dX7_passRule_36 (by decide) ?_
    refine aw_istore_n (ls' := [.ref w, .int 1, .retAddr 0]) C dX7_passRule_40 rfl (by decide) rfl (q := 41) rfl ?_
    refine aw_iconst (v := 0) C dX7_passRule_41 (by decide) (q := 42) rfl ?_
    refine aw_istore_n (ls' := [.ref w, .int 1, .int 0]) C dX7_passRule_42 rfl (by decide) rfl (q := 43) rfl ?_
    refine aw_iload_n C dX7_passRule_43 rfl rfl (q := 44) rfl ?_
    refine aw_bipush (v := 6) C dX7_passRule_44 (by decide) (q := 46) rfl ?_
    refine aw_icmp_ge (t := 93) (q := 49) C dX7_passRule_46 (by decide) rfl (fun c_46 => ?_) (fun c_46 => ?_)
    ·
      refine aw_aload_n C dX7_passRule_93 rfl rfl (q := 94) rfl ?_
      refine cvX7_43_7 (As := []) (rest := []) C B dX7_passRule_94 K1.1 (c_skipRule G M.2.1 w u pl f len A I F c hlen hf h_5 d (at_ + 2) false K1 (by omega)) rfl rfl (Nat.le_of_ble_eq_true rfl) (by omega) (by omega) (by omega) (q := 97) rfl (fun r9 h5 hr9 => ?_)
      obtain ⟨er9, K5, kp5⟩ := hr9
      subst er9
      have kq5 : kp h h5 [w] := kp_mono (kp_tr kp_8 kp5) (by simp)
      show aw G 3 M 97 [.ref w, .int 1, .int 0] [] h5 0 0
      refine aw_iload_n C dX7_passRule_97 rfl rfl (q := 98) rfl ?_
      refine aw_zret C E dX7_passRule_98 (rfl) (Nat.le_refl _) (Nat.le_refl _) ?_
      have e : wk_rule f len x at_ = (true, wk_skip f len 300 (at_ + 2) + 1) := by unfold wk_rule; rw [if_pos (Or.inl (by have := ni_le (at_ + 2) len rfl rfl (by omega) (by omega) c_23; omega))]
      rw [e]; exact ⟨rfl, ⟨_, K5⟩, kq5⟩
    ·
      refine aw_iload_n C dX7_passRule_49 rfl rfl (q := 50) rfl ?_
      refine aw_if_ne (t := 93) (q := 53) C dX7_passRule_50 (by decide) rfl (fun c_50 => ?_) (fun c_50 => absurd c_50 (by decide))
      refine aw_aload_n C dX7_passRule_93 rfl rfl (q := 94) rfl ?_
      refine cvX7_43_7 (As := []) (rest := []) C B dX7_passRule_94 K1.1 (c_skipRule G M.2.1 w u pl f len A I F c hlen hf h_5 d (at_ + 2) false K1 (by omega)) rfl rfl (Nat.le_of_ble_eq_true rfl) (by omega) (by omega) (by omega) (q := 97) rfl (fun r9 h5 hr9 => ?_)
      obtain ⟨er9, K5, kp5⟩ := hr9
      subst er9
      have kq5 : kp h h5 [w] := kp_mono (kp_tr kp_8 kp5) (by simp)
      show aw G 3 M 97 [.ref w, .int 1, .int 0] [] h5 0 0
      refine aw_iload_n C dX7_passRule_97 rfl rfl (q := 98) rfl ?_
      refine aw_zret C E dX7_passRule_98 (rfl) (Nat.le_refl _) (Nat.le_refl _) ?_
      have e : wk_rule f len x at_ = (true, wk_skip f len 300 (at_ + 2) + 1) := by unfold wk_rule; rw [if_pos (Or.inl (by have := ni_le (at_ + 2) len rfl rfl (by omega) (by omega) c_23; omega))]
      rw [e]; exact ⟨rfl, ⟨_, K5⟩, kq5⟩
  ·
    refine aw_aload_n C dX7_passRule_26 rfl rfl (q := 27) rfl ?_
    refine cvX7_35_7 (As := []) (rest := []) C B dX7_passRule_27 K1.1 (c_here7 G M.2.1 h_5 d w u len (at_ + 2) len f (.ref pl) (.int (pb_b (false = true))) K1.1 K1.2 (Nat.le_refl len) hlen (by omega) hf) rfl rfl (Nat.le_of_ble_eq_true rfl) (by omega) (by omega) (by omega) (q := 30) rfl (fun r9 h9 hr9 => ?_)
    obtain ⟨e9, er9⟩ := hr9
    subst er9; rw [e9]
    show aw G 3 M 30 [.ref w, .retAddr 0, .retAddr 0] [.int (cu_c f len (at_ + 2))] h_5 0 0
    refine aw_bipush (v := 59) C dX7_passRule_30 (by decide) (q := 32) rfl ?_
    refine aw_icmp_ne (t := 39) (q := 35) C dX7_passRule_32 (by decide) rfl (fun c_32 => ?_) (fun c_32 => ?_)
    ·
      refine aw_iconst (v := 0) C dX7_passRule_39 (by decide) (q := 40) rfl ?_
      refine aw_istore_n (ls' := [.ref w, .int 0, .retAddr 0]) C dX7_passRule_40 rfl (by decide) rfl (q := 41) rfl ?_
      refine aw_iconst (v := 0) C dX7_passRule_41 (by decide) (q := 42) rfl ?_
      refine aw_istore_n (ls' := [.ref w, .int 0, .int 0]) C dX7_passRule_42 rfl (by decide) rfl (q := 43) rfl ?_
      have hE9 : wk_rule f len x at_ = ((wk_conds f len x 6 (at_ + 2)).1, wk_skip f len 300 (wk_conds f len x 6 (at_ + 2)).2 + 1) := by
        unfold wk_rule; rw [if_neg (by rintro (z | z); exact c_23 (nI_le (by omega) (by omega)); exact c_32 z)]
      rw [hE9] at E
      exact lp_passRule (R := wk_conds f len x 6 (at_ + 2)) hlen hf hb hxb hX C B E Kw Kp 6 0 (at_ + 2) h_5 rfl (by omega) K1 kp_8 rfl
    ·
      refine aw_iconst (v := 1) C dX7_passRule_35 (by decide) (q := 36) rfl ?_
      refine aw_goto (q := 40) C dX7_passRule_36 (by decide) ?_
      refine aw_istore_n (ls' := [.ref w, .int 1, .retAddr 0]) C dX7_passRule_40 rfl (by decide) rfl (q := 41) rfl ?_
      refine aw_iconst (v := 0) C dX7_passRule_41 (by decide) (q := 42) rfl ?_
      refine aw_istore_n (ls' := [.ref w, .int 1, .int 0]) C dX7_passRule_42 rfl (by decide) rfl (q := 43) rfl ?_
      refine aw_iload_n C dX7_passRule_43 rfl rfl (q := 44) rfl ?_
      refine aw_bipush (v := 6) C dX7_passRule_44 (by decide) (q := 46) rfl ?_
      refine aw_icmp_ge (t := 93) (q := 49) C dX7_passRule_46 (by decide) rfl (fun c_46 => ?_) (fun c_46 => ?_)
      ·
        refine aw_aload_n C dX7_passRule_93 rfl rfl (q := 94) rfl ?_
        refine cvX7_43_7 (As := []) (rest := []) C B dX7_passRule_94 K1.1 (c_skipRule G M.2.1 w u pl f len A I F c hlen hf h_5 d (at_ + 2) false K1 (by omega)) rfl rfl (Nat.le_of_ble_eq_true rfl) (by omega) (by omega) (by omega) (q := 97) rfl (fun r9 h5 hr9 => ?_)
        obtain ⟨er9, K5, kp5⟩ := hr9
        subst er9
        have kq5 : kp h h5 [w] := kp_mono (kp_tr kp_8 kp5) (by simp)
        show aw G 3 M 97 [.ref w, .int 1, .int 0] [] h5 0 0
        refine aw_iload_n C dX7_passRule_97 rfl rfl (q := 98) rfl ?_
        refine aw_zret C E dX7_passRule_98 (rfl) (Nat.le_refl _) (Nat.le_refl _) ?_
        have e : wk_rule f len x at_ = (true, wk_skip f len 300 (at_ + 2) + 1) := by unfold wk_rule; rw [if_pos (Or.inr c_32)]
        rw [e]; exact ⟨rfl, ⟨_, K5⟩, kq5⟩
      ·
        refine aw_iload_n C dX7_passRule_49 rfl rfl (q := 50) rfl ?_
        refine aw_if_ne (t := 93) (q := 53) C dX7_passRule_50 (by decide) rfl (fun c_50 => ?_) (fun c_50 => absurd c_50 (by decide))
        refine aw_aload_n C dX7_passRule_93 rfl rfl (q := 94) rfl ?_
        refine cvX7_43_7 (As := []) (rest := []) C B dX7_passRule_94 K1.1 (c_skipRule G M.2.1 w u pl f len A I F c hlen hf h_5 d (at_ + 2) false K1 (by omega)) rfl rfl (Nat.le_of_ble_eq_true rfl) (by omega) (by omega) (by omega) (q := 97) rfl (fun r9 h5 hr9 => ?_)
        obtain ⟨er9, K5, kp5⟩ := hr9
        subst er9
        have kq5 : kp h h5 [w] := kp_mono (kp_tr kp_8 kp5) (by simp)
        show aw G 3 M 97 [.ref w, .int 1, .int 0] [] h5 0 0
        refine aw_iload_n C dX7_passRule_97 rfl rfl (q := 98) rfl ?_
        refine aw_zret C E dX7_passRule_98 (rfl) (Nat.le_refl _) (Nat.le_refl _) ?_
        have e : wk_rule f len x at_ = (true, wk_skip f len 300 (at_ + 2) + 1) := by unfold wk_rule; rw [if_pos (Or.inr c_32)]
        rw [e]; exact ⟨rfl, ⟨_, K5⟩, kq5⟩
theorem wk_b7 {h : ac_H} {w u0 pl len0 at0 : Nat} {op : Bool} (K : h w = some (wk_ob u0 pl len0 at0 op)) {p n : Nat} {f : Nat → Int32} (Kf : h p = some (.inl (0, n, .inl f))) : p ≠ w := ne_ai Kf K
set_option maxHeartbeats 4000000 in
set_option maxRecDepth 100000 in
set_option maxHeartbeats 4000000 in
set_option maxRecDepth 100000 in
theorem c_begin (G : ac_G) (l : Launch) (h : ac_H) (d w u0 pl len0 at0 rp u len : Nat) (op : Bool) (f : Nat → Int32) (fs6 : List Value) (Kw : h w = some (wk_ob u0 pl len0 at0 op)) (Kr : h rp = some (.inr (6, fs6))) (hfs : fs6[6]? = some (.ref u)) (Ku : h u = some (.inl (0, len, .inl f))) : ac_Met G l yX7_begin cX7_begin 2 none (d + 1) 0 0 [.ref w, .ref rp] h (fun r9 h9 => r9 = none ∧ wk_ok h9 w u pl f len 0 op ∧ kp h h9 [w]) := by
  refine ac_of (ls := [.ref w, .ref rp]) (by decide +kernel) rfl (Nat.le_of_ble_eq_true rfl) (fun M hl C B E hnm => ?_)
  refine aw_aload_n C dX7_begin_0 rfl rfl (q := 1) rfl ?_
  refine aw_aload_n C dX7_begin_1 rfl rfl (q := 2) rfl ?_
  refine gfX7_15_6 (v := .ref u) C dX7_begin_2 Kr (hfs) (q := 5) rfl ?_
  refine pfX7_21_7 C dX7_begin_5 Kw rfl rfl (Nat.le_of_ble_eq_true rfl) (q := 8) rfl ?_
  show aw G 2 M 8 [.ref w, .ref rp] [] (ac_up h w (.inr (7, [.ref u, .int (nI len0), .int (nI at0), .ref pl, .int (pb_b (op = true))]))) 0 0
  obtain ⟨h_1, eh_1⟩ : ∃ z, z = ac_up h w (.inr (7, [.ref u, .int (nI len0), .int (nI at0), .ref pl, .int (pb_b (op = true))])) := ⟨_, rfl⟩
  rw [← eh_1]
  have f_2 : h_1 rp = some (.inr (6, fs6)) := by rw [eh_1, ac_up_n _ _ (ne_of Kr Kw (fun z => by cases z))]; exact Kr
  have f_3 : h_1 u = some (.inl (0, len, .inl (f))) := by rw [eh_1, ac_up_n _ _ (ne_ai Ku Kw)]; exact Ku
  have f_4 : h_1 w = some (.inr (7, [.ref u, .int (nI len0), .int (nI at0), .ref pl, .int (pb_b (op = true))])) := by rw [eh_1]; exact ac_up_s _ _ _
  have kp_5 : kp h h_1 [w] := by rw [eh_1]; exact kp_up (kp_cons w kp_rf) _ _ (by simp)
  refine aw_aload_n C dX7_begin_8 rfl rfl (q := 9) rfl ?_
  refine aw_aload_n C dX7_begin_9 rfl rfl (q := 10) rfl ?_
  refine gfX7_21_7 (v := .ref u) C dX7_begin_10 f_4 rfl (q := 13) rfl ?_
  refine aw_alen (v := nI len) C dX7_begin_13 f_3 rfl rfl (q := 14) rfl ?_
  refine pfX7_24_7 C dX7_begin_14 f_4 rfl rfl (Nat.le_of_ble_eq_true rfl) (q := 17) rfl ?_
  show aw G 2 M 17 [.ref w, .ref rp] [] (ac_up h_1 w (.inr (7, [.ref u, .int (nI len), .int (nI at0), .ref pl, .int (pb_b (op = true))]))) 0 0
  obtain ⟨h_6, eh_6⟩ : ∃ z, z = ac_up h_1 w (.inr (7, [.ref u, .int (nI len), .int (nI at0), .ref pl, .int (pb_b (op = true))])) := ⟨_, rfl⟩
  rw [← eh_6]
  have f_7 : h_6 rp = some (.inr (6, fs6)) := by rw [eh_6, ac_up_n _ _ (ne_of Kr Kw (fun z => by cases z))]; exact f_2
  have f_8 : h_6 u = some (.inl (0, len, .inl (f))) := by rw [eh_6, ac_up_n _ _ (ne_ai Ku Kw)]; exact f_3
  have f_9 : h_6 w = some (.inr (7, [.ref u, .int (nI len), .int (nI at0), .ref pl, .int (pb_b (op = true))])) := by rw [eh_6]; exact ac_up_s _ _ _
  have kp_10 : kp h h_6 [w] := by rw [eh_6]; exact kp_up kp_5 _ _ (by simp)
  refine aw_aload_n C dX7_begin_17 rfl rfl (q := 18) rfl ?_
  refine aw_iconst (v := 0) C dX7_begin_18 (by decide) (q := 19) rfl ?_
  refine pfX7_28_7 C dX7_begin_19 f_9 rfl rfl (Nat.le_of_ble_eq_true rfl) (q := 22) rfl ?_
  show aw G 2 M 22 [.ref w, .ref rp] [] (ac_up h_6 w (.inr (7, [.ref u, .int (nI len), .int 0, .ref pl, .int (pb_b (op = true))]))) 0 0
  obtain ⟨h_11, eh_11⟩ : ∃ z, z = ac_up h_6 w (.inr (7, [.ref u, .int (nI len), .int 0, .ref pl, .int (pb_b (op = true))])) := ⟨_, rfl⟩
  rw [← eh_11]
  have f_12 : h_11 rp = some (.inr (6, fs6)) := by rw [eh_11, ac_up_n _ _ (ne_of Kr Kw (fun z => by cases z))]; exact f_7
  have f_13 : h_11 u = some (.inl (0, len, .inl (f))) := by rw [eh_11, ac_up_n _ _ (ne_ai Ku Kw)]; exact f_8
  have f_14 : h_11 w = some (.inr (7, [.ref u, .int (nI len), .int 0, .ref pl, .int (pb_b (op = true))])) := by rw [eh_11]; exact ac_up_s _ _ _
  have kp_15 : kp h h_11 [w] := by rw [eh_11]; exact kp_up kp_10 _ _ (by simp)
  refine aw_vret C E dX7_begin_22 (Nat.le_refl _) (Nat.le_refl _) ?_
  exact ⟨rfl, ⟨f_14, f_13⟩, kp_15⟩
