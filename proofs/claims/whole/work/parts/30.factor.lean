/-! Reader: parentheses, factors, terms, expressions, by levels -/
/-- the contract of a method that reads something at the place -/
def rs_C (G : ac_G) (l : Launch) (y : MethodName) (cc : ByteArray) (mL : Nat) (r u dr : Nat) (rd : Nat → Nat) (f : Nat → Int32) (len dd : Nat) (av : List Value) (x : rs_S → rs_R) : Prop :=
  ∀ (h : ac_H) (s : rs_S), rs_ok h r u dr rd f len s → ac_Met G l y cc mL (some .int) dd 0 0 (.ref r :: av) h (rs_Q h r u dr rd f len (x s))
def rs_F (f : Nat → Int32) (len : Nat) (bare : rs_S → rs_R) (s : rs_S) : rs_R :=
  if (cu_pre f len 300 s.1).1 = true then
    (if (bare ((cu_pre f len 300 s.1).2, s.2.1, s.2.2)).1 = -1 ∨ (cu_pre f len 300 s.1).2 = s.1 then bare ((cu_pre f len 300 s.1).2, s.2.1, s.2.2)
     else (0, (bare ((cu_pre f len 300 s.1).2, s.2.1, s.2.2)).2.1,
       (if (bare ((cu_pre f len 300 s.1).2, s.2.1, s.2.2)).1 = 0 then (bare ((cu_pre f len 300 s.1).2, s.2.1, s.2.2)).2.2.1 else rs_kd (bare ((cu_pre f len 300 s.1).2, s.2.1, s.2.2)).2.2.1 (nI (cu_pre f len 300 s.1).2) (bare ((cu_pre f len 300 s.1).2, s.2.1, s.2.2)).2.1),
       rs_pre f s.1 (cu_pre f len 300 s.1).2 (cu_pre f len 300 s.1).2 (bare ((cu_pre f len 300 s.1).2, s.2.1, s.2.2)).2.2.2))
  else (-1, (cu_pre f len 300 s.1).2, s.2.1, s.2.2)
def rs_LF (fc : rs_S → rs_R) (s : rs_S) : rs_R := if (fc s).1 = 2 ∨ (fc s).1 = 1 then ((fc s).1, (fc s).2.1, rs_kd (fc s).2.2.1 (nI s.1) (fc s).2.1, (fc s).2.2.2) else fc s
/-- a term's first factor, which may need its own ( ) -/
def rs_T1 (f : Nat → Int32) (len : Nat) (fc : rs_S → rs_R) (bh : Bool) (s : rs_S) : rs_R :=
  if (fc s).1 = 2 ∧ (bh = true ∨ cu_c f len (fc s).2.1 = 42 ∨ cu_c f len (fc s).2.1 = 47) then (0, (fc s).2.1, rs_kd (fc s).2.2.1 (nI s.1) (fc s).2.1, (fc s).2.2.2) else fc s
def rs_Tl (f : Nat → Int32) (len : Nat) (lf : rs_S → rs_R) : Nat → rs_R → rs_R
  | 0, x => x
  | m + 1, x => if x.1 = -1 then x else if cu_c f len x.2.1 = 42 ∨ cu_c f len x.2.1 = 47 then
      rs_Tl f len lf m ((if (lf (x.2.1 + 1, x.2.2.1, x.2.2.2)).1 = -1 then -1 else 1), (lf (x.2.1 + 1, x.2.2.1, x.2.2.2)).2.1, (lf (x.2.1 + 1, x.2.2.1, x.2.2.2)).2.2.1, ru_add (lf (x.2.1 + 1, x.2.2.1, x.2.2.2)).2.2.2 (cu_c f len x.2.1) 0) else x
def rs_T (f : Nat → Int32) (len : Nat) (fc : rs_S → rs_R) (bh : Bool) (s : rs_S) : rs_R := rs_Tl f len (rs_LF fc) 300 (rs_T1 f len fc bh s)
def rs_El (f : Nat → Int32) (len : Nat) (tt : rs_S → rs_R) : Nat → rs_R → rs_R
  | 0, x => x
  | m + 1, x => if x.1 = -1 then x else if cu_c f len x.2.1 = 43 ∨ cu_c f len x.2.1 = 45 then
      rs_El f len tt m ((if (tt (x.2.1 + 1, x.2.2.1, x.2.2.2)).1 = -1 then -1 else 2), (tt (x.2.1 + 1, x.2.2.1, x.2.2.2)).2.1, (tt (x.2.1 + 1, x.2.2.1, x.2.2.2)).2.2.1, ru_add (tt (x.2.1 + 1, x.2.2.1, x.2.2.2)).2.2.2 (cu_c f len x.2.1) 0) else x
def rs_E (f : Nat → Int32) (len : Nat) (fc : rs_S → rs_R) (s : rs_S) : rs_R := rs_El f len (rs_T f len fc true) 300 (rs_T f len fc false s)
/-- an expression with at most k levels of ( ) more -/
def rs_X (f : Nat → Int32) (len : Nat) : Nat → rs_S → rs_R
  | 0 => rs_E f len (rs_F f len (rs_bare f len (fun s => (-1, s)) true))
  | k + 1 => rs_E f len (rs_F f len (rs_bare f len (rs_X f len k) false))
theorem rs_lt0 {dp : Nat} (h : dp ≤ 8) : nI dp < 8 ↔ dp < 8 := by
  show nI dp < nI 8 ↔ _
  rw [nI_ltI (by omega) (by decide)]
set_option maxHeartbeats 4000000 in
set_option maxRecDepth 100000 in
theorem c_parsePar (G : ac_G) (l : Launch) (r u dr : Nat) (rd : Nat → Nat) (f : Nat → Int32) (len : Nat) (hr : inj rd 6) (hlen : len ≤ 300) (hf : cu_ch f) (d dp : Nat) (sub : rs_S → rs_R) (deep : Bool) (hdp8 : dp ≤ 8) (hdeep : deep = true → dp = 8) (hsh : deep = false → dp < 8) (hS : deep = false → rs_C G l yX3_parseExpression cX3_parseExpression 5 r u dr rd f len (d + 3) [.int (nI (dp + 1))] sub) (h : ac_H) (s : rs_S) (K : rs_ok h r u dr rd f len s) (hc40 : cu_c f len s.1 = 40) : ac_Met G l yX3_parseParentheses cX3_parseParentheses 4 (some .int) (d + 4) 0 0 [.ref r, .int (nI dp)] h (rs_Q h r u dr rd f len (rs_par f len sub deep s)) := by
  refine ac_of (ls := [.ref r, .int (nI dp), .retAddr 0, .retAddr 0]) (by decide +kernel) rfl (Nat.le_of_ble_eq_true rfl) (fun M hl C B E hnm => ?_)
  have hl9 : s.1 < len := cu_c_in hc40 (by decide)
  refine aw_iload_n C dX3_parseParentheses_0 rfl rfl (q := 1) rfl ?_
  refine aw_bipush (v := 8) C dX3_parseParentheses_1 (by decide) (q := 3) rfl ?_
  refine aw_icmp_lt (t := 8) (q := 6) C dX3_parseParentheses_3 (by decide) rfl (fun c_3 => ?_) (fun c_3 => ?_)
  ·
    refine aw_aload_n C dX3_parseParentheses_8 rfl rfl (q := 9) rfl ?_
    refine gfX3_40_3 (v := .int (nI s.1)) C dX3_parseParentheses_9 K.1 rfl (q := 12) rfl ?_
    refine aw_istore_n (ls' := [.ref r, .int (nI dp), .int (nI s.1), .retAddr 0]) C dX3_parseParentheses_12 rfl (by decide) rfl (q := 13) rfl ?_
    refine aw_aload_n C dX3_parseParentheses_13 rfl rfl (q := 14) rfl ?_
    refine aw_dup C dX3_parseParentheses_14 rfl (q := 15) rfl ?_
    refine gfX3_40_3 (v := .int (nI s.1)) C dX3_parseParentheses_15 K.1 rfl (q := 18) rfl ?_
    refine aw_iconst (v := 1) C dX3_parseParentheses_18 (by decide) (q := 19) rfl ?_
    refine aw_iadd C dX3_parseParentheses_19 (q := 20) rfl ?_
    rw [show nI s.1 + 1 = nI (s.1 + 1) from nI_1 _]
    refine pfX3_40_3 C dX3_parseParentheses_20 K.1 rfl rfl (Nat.le_of_ble_eq_true rfl) (q := 23) rfl ?_
    show aw G 4 M 23 [.ref r, .int (nI dp), .int (nI s.1), .retAddr 0] [] (ac_up h r (.inr (3, [.ref u, .int (nI len), .int (nI (s.1 + 1)), .ref dr, .ref (rd 0)]))) 0 0
    obtain ⟨h_1, eh_1⟩ : ∃ z9, z9 = ac_up h r (.inr (3, [.ref u, .int (nI len), .int (nI (s.1 + 1)), .ref dr, .ref (rd 0)])) := ⟨_, rfl⟩
    rw [← eh_1]
    have kpx_3 : kp h h_1 [r] := by rw [eh_1]; exact kp_up (kp_cons r kp_rf) _ _ (by simp)
    have K_2 : rs_ok h_1 r u dr rd f len (s.1 + 1, s.2.1, s.2.2) := rs_at (s := (s.1, s.2.1, s.2.2)) K (by rw [eh_1]; exact ac_up_s _ _ _) kpx_3 (by omega)
    have kq_4 : kp h h_1 (rs_L r dr rd) := kp_mono kpx_3 rs_s1
    refine aw_aload_n C dX3_parseParentheses_23 rfl rfl (q := 24) rfl ?_
    refine aw_iload_n C dX3_parseParentheses_24 rfl rfl (q := 25) rfl ?_
    refine aw_iconst (v := 1) C dX3_parseParentheses_25 (by decide) (q := 26) rfl ?_
    refine aw_iadd C dX3_parseParentheses_26 (q := 27) rfl ?_
    have hdp : dp < 8 := by have := ni_nle dp 8 rfl rfl (by omega) (by decide) (by rw [Int32.not_le]; exact c_3); exact this
    have hdd : deep = false := by cases deep; rfl; have := hdeep rfl; omega
    rw [show nI dp + 1 = nI (dp + 1) from nI_1 _]
    have hS1 := hS hdd
    rw [← hl] at hS1
    refine cvX3_68_3 (As := [.int (nI (dp + 1))]) (rest := []) C B dX3_parseParentheses_27 K_2.1 (hS1 h_1 (s.1 + 1, s.2.1, s.2.2) K_2) rfl rfl (Nat.le_of_ble_eq_true rfl) (by omega) (by omega) (by omega) (q := 30) rfl (fun r9 h_5 hr9 => ?_)
    obtain ⟨er9, K_6, kpx_7⟩ := hr9
    subst er9
    have kq_8 : kp h h_5 (rs_L r dr rd) := kp_in kq_4 kpx_7 (fun _ z => z)
    obtain ⟨x, ex⟩ : ∃ z, z = sub (s.1 + 1, s.2.1, s.2.2) := ⟨_, rfl⟩
    rw [← ex] at K_6 ⊢
    show aw G 4 M 30 [.ref r, .int (nI dp), .int (nI s.1), .retAddr 0] [.int x.1] h_5 0 0
    have hun : rs_par f len sub deep s = if x.1 = -1 ∨ ¬ cu_c f len x.2.1 = 41 then (-1, x.2) else (x.1, x.2.1 + 1, rs_di (rs_di x.2.2.1 (nI s.1) 1) (nI x.2.1) 1, x.2.2.2) := by unfold rs_par; rw [if_neg (by rw [hdd]; decide), ← ex]
    refine aw_istore_n (ls' := [.ref r, .int (nI dp), .int (nI s.1), .int x.1]) C dX3_parseParentheses_30 rfl (by decide) rfl (q := 31) rfl ?_
    refine aw_iload_n C dX3_parseParentheses_31 rfl rfl (q := 32) rfl ?_
    refine aw_iconst (v := (-1)) C dX3_parseParentheses_32 (by decide) (q := 33) rfl ?_
    refine aw_icmp_eq (t := 45) (q := 36) C dX3_parseParentheses_33 (by decide) rfl (fun c_33 => ?_) (fun c_33 => ?_)
    ·
      refine aw_iconst (v := (-1)) C dX3_parseParentheses_45 (by decide) (q := 46) rfl ?_
      refine aw_iret C E dX3_parseParentheses_46 (Nat.le_refl _) (Nat.le_refl _) ?_
      rw [hun, if_pos (Or.inl c_33)]
      exact ⟨rfl, K_6, kq_8⟩
    ·
      refine aw_aload_n C dX3_parseParentheses_36 rfl rfl (q := 37) rfl ?_
      refine cvX3_54_3 (As := []) (rest := []) C B dX3_parseParentheses_37 K_6.1 (c_here3 G M.2.1 h_5 d r u len x.2.1 300 f (.ref dr) (.ref (rd 0)) K_6.1 K_6.2.1 hlen (by decide) (by have := K_6.2.2.2.2.1; omega) hf) rfl rfl (Nat.le_of_ble_eq_true rfl) (by omega) (by omega) (by omega) (q := 40) rfl (fun r9 h9 hr9 => ?_)
      obtain ⟨e9, er9⟩ := hr9
      subst er9; rw [e9]
      show aw G 4 M 40 [.ref r, .int (nI dp), .int (nI s.1), .int x.1] [.int (cu_c f len x.2.1)] h_5 0 0
      refine aw_bipush (v := 41) C dX3_parseParentheses_40 (by decide) (q := 42) rfl ?_
      refine aw_icmp_eq (t := 47) (q := 45) C dX3_parseParentheses_42 (by decide) rfl (fun c_42 => ?_) (fun c_42 => ?_)
      ·
        have hl8 : x.2.1 < len := cu_c_in c_42 (by decide)
        refine aw_aload_n C dX3_parseParentheses_47 rfl rfl (q := 48) rfl ?_
        refine aw_iload_n C dX3_parseParentheses_48 rfl rfl (q := 49) rfl ?_
        refine aw_iconst (v := 1) C dX3_parseParentheses_49 (by decide) (q := 50) rfl ?_
        refine cvX3_36_3 (As := [.int (nI s.1), .int 1]) (rest := []) C B dX3_parseParentheses_50 K_6.1 (c_setDropped G M.2.1 r u dr rd f len hr hlen hf h_5 d (x.2.1, x.2.2.1, x.2.2.2) K_6 (nI s.1) 1 rfl) rfl rfl (Nat.le_of_ble_eq_true rfl) (by omega) (by omega) (by omega) (q := 53) rfl (fun r9 h_9 hr9 => ?_)
        obtain ⟨er9, kx_10, kpx_11⟩ := hr9
        subst er9
        have K_12 : rs_ok h_9 r u dr rd f len (x.2.1, rs_di x.2.2.1 (nI s.1) 1, x.2.2.2) := kx_10
        have kq_13 : kp h h_9 (rs_L r dr rd) := kp_in kq_8 kpx_11 (fun _ z => z)
        show aw G 4 M 53 [.ref r, .int (nI dp), .int (nI s.1), .int x.1] [] h_9 0 0
        refine aw_aload_n C dX3_parseParentheses_53 rfl rfl (q := 54) rfl ?_
        refine aw_aload_n C dX3_parseParentheses_54 rfl rfl (q := 55) rfl ?_
        refine gfX3_40_3 (v := .int (nI x.2.1)) C dX3_parseParentheses_55 K_12.1 rfl (q := 58) rfl ?_
        refine aw_iconst (v := 1) C dX3_parseParentheses_58 (by decide) (q := 59) rfl ?_
        refine cvX3_36_3 (As := [.int (nI x.2.1), .int 1]) (rest := []) C B dX3_parseParentheses_59 K_12.1 (c_setDropped G M.2.1 r u dr rd f len hr hlen hf h_9 d (x.2.1, rs_di x.2.2.1 (nI s.1) 1, x.2.2.2) K_12 (nI x.2.1) 1 rfl) rfl rfl (Nat.le_of_ble_eq_true rfl) (by omega) (by omega) (by omega) (q := 62) rfl (fun r9 h_14 hr9 => ?_)
        obtain ⟨er9, kx_15, kpx_16⟩ := hr9
        subst er9
        have K_17 : rs_ok h_14 r u dr rd f len (x.2.1, rs_di (rs_di x.2.2.1 (nI s.1) 1) (nI x.2.1) 1, x.2.2.2) := kx_15
        have kq_18 : kp h h_14 (rs_L r dr rd) := kp_in kq_13 kpx_16 (fun _ z => z)
        show aw G 4 M 62 [.ref r, .int (nI dp), .int (nI s.1), .int x.1] [] h_14 0 0
        refine aw_aload_n C dX3_parseParentheses_62 rfl rfl (q := 63) rfl ?_
        refine aw_dup C dX3_parseParentheses_63 rfl (q := 64) rfl ?_
        refine gfX3_40_3 (v := .int (nI x.2.1)) C dX3_parseParentheses_64 K_17.1 rfl (q := 67) rfl ?_
        refine aw_iconst (v := 1) C dX3_parseParentheses_67 (by decide) (q := 68) rfl ?_
        refine aw_iadd C dX3_parseParentheses_68 (q := 69) rfl ?_
        rw [show nI x.2.1 + 1 = nI (x.2.1 + 1) from nI_1 _]
        refine pfX3_40_3 C dX3_parseParentheses_69 K_17.1 rfl rfl (Nat.le_of_ble_eq_true rfl) (q := 72) rfl ?_
        show aw G 4 M 72 [.ref r, .int (nI dp), .int (nI s.1), .int x.1] [] (ac_up h_14 r (.inr (3, [.ref u, .int (nI len), .int (nI (x.2.1 + 1)), .ref dr, .ref (rd 0)]))) 0 0
        obtain ⟨h_19, eh_19⟩ : ∃ z9, z9 = ac_up h_14 r (.inr (3, [.ref u, .int (nI len), .int (nI (x.2.1 + 1)), .ref dr, .ref (rd 0)])) := ⟨_, rfl⟩
        rw [← eh_19]
        have kpx_21 : kp h_14 h_19 [r] := by rw [eh_19]; exact kp_up (kp_cons r kp_rf) _ _ (by simp)
        have K_20 : rs_ok h_19 r u dr rd f len (x.2.1 + 1, rs_di (rs_di x.2.2.1 (nI s.1) 1) (nI x.2.1) 1, x.2.2.2) := rs_at (s := (x.2.1, rs_di (rs_di x.2.2.1 (nI s.1) 1) (nI x.2.1) 1, x.2.2.2)) K_17 (by rw [eh_19]; exact ac_up_s _ _ _) kpx_21 (by omega)
        have kq_22 : kp h h_19 (rs_L r dr rd) := kp_in kq_18 kpx_21 rs_s1
        refine aw_iload_n C dX3_parseParentheses_72 rfl rfl (q := 73) rfl ?_
        refine aw_iret C E dX3_parseParentheses_73 (Nat.le_refl _) (Nat.le_refl _) ?_
        rw [hun, if_neg (by rintro (z | z); exact c_33 z; exact z c_42)]
        exact ⟨rfl, K_20, kq_22⟩
      ·
        refine aw_iconst (v := (-1)) C dX3_parseParentheses_45 (by decide) (q := 46) rfl ?_
        refine aw_iret C E dX3_parseParentheses_46 (Nat.le_refl _) (Nat.le_refl _) ?_
        rw [hun, if_pos (Or.inr c_42)]
        exact ⟨rfl, K_6, kq_8⟩
  ·
    refine aw_iconst (v := (-1)) C dX3_parseParentheses_6 (by decide) (q := 7) rfl ?_
    refine aw_iret C E dX3_parseParentheses_7 (Nat.le_refl _) (Nat.le_refl _) ?_
    have hdd : deep = true := by cases deep; exact absurd (nI_lt (hsh rfl) (by decide)) c_3; rfl
    rw [show rs_par f len sub deep s = (-1, s) from by unfold rs_par; rw [if_pos hdd]]
    exact ⟨rfl, K, kp_mono kp_rf (by simp)⟩
set_option maxHeartbeats 4000000 in
set_option maxRecDepth 100000 in
theorem c_parseBare (G : ac_G) (l : Launch) (r u dr : Nat) (rd : Nat → Nat) (f : Nat → Int32) (len : Nat) (hr : inj rd 6) (hlen : len ≤ 300) (hf : cu_ch f) (d dp : Nat) (sub : rs_S → rs_R) (deep : Bool) (hdp8 : dp ≤ 8) (hdeep : deep = true → dp = 8) (hsh : deep = false → dp < 8) (hS : deep = false → rs_C G l yX3_parseExpression cX3_parseExpression 5 r u dr rd f len (d + 3) [.int (nI (dp + 1))] sub) : rs_C G l yX3_parseBare cX3_parseBare 3 r u dr rd f len (d + 5) [.int (nI dp)] (rs_bare f len sub deep) := by
  intro h s K
  refine ac_of (ls := [.ref r, .int (nI dp), .retAddr 0]) (by decide +kernel) rfl (Nat.le_of_ble_eq_true rfl) (fun M hl C B E hnm => ?_)
  refine aw_aload_n C dX3_parseBare_0 rfl rfl (q := 1) rfl ?_
  refine cvX3_54_3 (As := []) (rest := []) C B dX3_parseBare_1 K.1 (c_here3 G M.2.1 h d r u len s.1 300 f (.ref dr) (.ref (rd 0)) K.1 K.2.1 hlen (by decide) (by have := K.2.2.2.2.1; omega) hf) rfl rfl (Nat.le_of_ble_eq_true rfl) (by omega) (by omega) (by omega) (q := 4) rfl (fun r9 h9 hr9 => ?_)
  obtain ⟨e9, er9⟩ := hr9
  subst er9; rw [e9]
  show aw G 3 M 4 [.ref r, .int (nI dp), .retAddr 0] [.int (cu_c f len s.1)] h 0 0
  refine aw_istore_n (ls' := [.ref r, .int (nI dp), .int (cu_c f len s.1)]) C dX3_parseBare_4 rfl (by decide) rfl (q := 5) rfl ?_
  refine aw_iload_n C dX3_parseBare_5 rfl rfl (q := 6) rfl ?_
  refine aw_bipush (v := 40) C dX3_parseBare_6 (by decide) (q := 8) rfl ?_
  refine aw_icmp_ne (t := 17) (q := 11) C dX3_parseBare_8 (by decide) rfl (fun c_8 => ?_) (fun c_8 => ?_)
  ·
    refine aw_iload_n C dX3_parseBare_17 rfl rfl (q := 18) rfl ?_
    refine aw_bipush (v := 48) C dX3_parseBare_18 (by decide) (q := 20) rfl ?_
    refine aw_icmp_lt (t := 36) (q := 23) C dX3_parseBare_20 (by decide) rfl (fun c_20 => ?_) (fun c_20 => ?_)
    ·
      refine aw_aload_n C dX3_parseBare_36 rfl rfl (q := 37) rfl ?_
      refine aw_iload_n C dX3_parseBare_37 rfl rfl (q := 38) rfl ?_
      refine cvX3_104_3 (As := [.int (cu_c f len s.1)]) (rest := []) C B dX3_parseBare_38 K.1 ((fun h9 s9 k9 => c_parseLetter G M.2.1 r u dr rd f len hr hlen hf h9 d s9 k9) h (s.1, s.2.1, s.2.2) K) rfl rfl (Nat.le_of_ble_eq_true rfl) (by omega) (by omega) (by omega) (q := 41) rfl (fun r9 h_1 hr9 => ?_)
      obtain ⟨er9, K_2, kpx_3⟩ := hr9
      subst er9
      have kq_4 : kp h h_1 (rs_L r dr rd) := kpx_3
      obtain ⟨x, ex⟩ : ∃ z, z = rs_let f len (s.1, s.2.1, s.2.2) := ⟨_, rfl⟩
      rw [← ex] at K_2 ⊢
      show aw G 3 M 41 [.ref r, .int (nI dp), .int (cu_c f len s.1)] [.int x.1] h_1 0 0
      refine aw_iret C E dX3_parseBare_41 (Nat.le_refl _) (Nat.le_refl _) ?_
      rw [show rs_bare f len sub deep s = x from by unfold rs_bare; rw [if_neg c_8, if_neg (fun z => z.1 c_20)]; exact ex.symm]
      exact ⟨rfl, K_2, kq_4⟩
    ·
      refine aw_iload_n C dX3_parseBare_23 rfl rfl (q := 24) rfl ?_
      refine aw_bipush (v := 57) C dX3_parseBare_24 (by decide) (q := 26) rfl ?_
      refine aw_icmp_gt (t := 36) (q := 29) C dX3_parseBare_26 (by decide) rfl (fun c_26 => ?_) (fun c_26 => ?_)
      ·
        refine aw_aload_n C dX3_parseBare_36 rfl rfl (q := 37) rfl ?_
        refine aw_iload_n C dX3_parseBare_37 rfl rfl (q := 38) rfl ?_
        refine cvX3_104_3 (As := [.int (cu_c f len s.1)]) (rest := []) C B dX3_parseBare_38 K.1 ((fun h9 s9 k9 => c_parseLetter G M.2.1 r u dr rd f len hr hlen hf h9 d s9 k9) h (s.1, s.2.1, s.2.2) K) rfl rfl (Nat.le_of_ble_eq_true rfl) (by omega) (by omega) (by omega) (q := 41) rfl (fun r9 h_5 hr9 => ?_)
        obtain ⟨er9, K_6, kpx_7⟩ := hr9
        subst er9
        have kq_8 : kp h h_5 (rs_L r dr rd) := kpx_7
        obtain ⟨x, ex⟩ : ∃ z, z = rs_let f len (s.1, s.2.1, s.2.2) := ⟨_, rfl⟩
        rw [← ex] at K_6 ⊢
        show aw G 3 M 41 [.ref r, .int (nI dp), .int (cu_c f len s.1)] [.int x.1] h_5 0 0
        refine aw_iret C E dX3_parseBare_41 (Nat.le_refl _) (Nat.le_refl _) ?_
        rw [show rs_bare f len sub deep s = x from by unfold rs_bare; rw [if_neg c_8, if_neg (fun z => z.2 c_26)]; exact ex.symm]
        exact ⟨rfl, K_6, kq_8⟩
      ·
        refine aw_aload_n C dX3_parseBare_29 rfl rfl (q := 30) rfl ?_
        refine cvX3_100_3 (As := []) (rest := []) C B dX3_parseBare_30 K.1 ((fun h9 s9 k9 => c_parseNumber G M.2.1 r u dr rd f len hr hlen hf h9 d s9 k9) h (s.1, s.2.1, s.2.2) K) rfl rfl (Nat.le_of_ble_eq_true rfl) (by omega) (by omega) (by omega) (q := 33) rfl (fun r9 h_9 hr9 => ?_)
        obtain ⟨er9, K_10, kpx_11⟩ := hr9
        subst er9
        have kq_12 : kp h h_9 (rs_L r dr rd) := kpx_11
        obtain ⟨x, ex⟩ : ∃ z, z = rs_num f len (s.1, s.2.1, s.2.2) := ⟨_, rfl⟩
        rw [← ex] at K_10 ⊢
        show aw G 3 M 33 [.ref r, .int (nI dp), .int (cu_c f len s.1)] [.int x.1] h_9 0 0
        refine aw_goto (q := 41) C dX3_parseBare_33 (by decide) ?_
        refine aw_iret C E dX3_parseBare_41 (Nat.le_refl _) (Nat.le_refl _) ?_
        rw [show rs_bare f len sub deep s = x from by unfold rs_bare; rw [if_neg c_8, if_pos ⟨c_20, c_26⟩]; exact ex.symm]
        exact ⟨rfl, K_10, kq_12⟩
  ·
    refine aw_aload_n C dX3_parseBare_11 rfl rfl (q := 12) rfl ?_
    refine aw_iload_n C dX3_parseBare_12 rfl rfl (q := 13) rfl ?_
    have hS1 := hS
    rw [← hl] at hS1
    refine cvX3_97_3 (As := [.int (nI dp)]) (rest := []) C B dX3_parseBare_13 K.1 (c_parsePar G M.2.1 r u dr rd f len hr hlen hf d dp sub deep hdp8 hdeep hsh hS1 h (s.1, s.2.1, s.2.2) K c_8) rfl rfl (Nat.le_of_ble_eq_true rfl) (by omega) (by omega) (by omega) (q := 16) rfl (fun r9 h_13 hr9 => ?_)
    obtain ⟨er9, K_14, kpx_15⟩ := hr9
    subst er9
    have kq_16 : kp h h_13 (rs_L r dr rd) := kpx_15
    obtain ⟨x, ex⟩ : ∃ z, z = rs_par f len sub deep (s.1, s.2.1, s.2.2) := ⟨_, rfl⟩
    rw [← ex] at K_14 ⊢
    show aw G 3 M 16 [.ref r, .int (nI dp), .int (cu_c f len s.1)] [.int x.1] h_13 0 0
    refine aw_iret C E dX3_parseBare_16 (Nat.le_refl _) (Nat.le_refl _) ?_
    rw [show rs_bare f len sub deep s = x from by unfold rs_bare; rw [if_pos c_8]; exact ex.symm]
    exact ⟨rfl, K_14, kq_16⟩
set_option maxHeartbeats 4000000 in
set_option maxRecDepth 100000 in
theorem c_parseFactor (G : ac_G) (l : Launch) (r u dr : Nat) (rd : Nat → Nat) (f : Nat → Int32) (len : Nat) (hr : inj rd 6) (hlen : len ≤ 300) (hf : cu_ch f) (d dp : Nat) (bare : rs_S → rs_R) (hB : rs_C G l yX3_parseBare cX3_parseBare 3 r u dr rd f len (d + 5) [.int (nI dp)] bare) : rs_C G l yX3_parseFactor cX3_parseFactor 5 r u dr rd f len (d + 6) [.int (nI dp)] (rs_F f len bare) := by
  intro h s K
  refine ac_of (ls := [.ref r, .int (nI dp), .retAddr 0, .retAddr 0, .retAddr 0]) (by decide +kernel) rfl (Nat.le_of_ble_eq_true rfl) (fun M hl C B E hnm => ?_)
  refine aw_aload_n C dX3_parseFactor_0 rfl rfl (q := 1) rfl ?_
  refine gfX3_40_3 (v := .int (nI s.1)) C dX3_parseFactor_1 K.1 rfl (q := 4) rfl ?_
  refine aw_istore_n (ls' := [.ref r, .int (nI dp), .int (nI s.1), .retAddr 0, .retAddr 0]) C dX3_parseFactor_4 rfl (by decide) rfl (q := 5) rfl ?_
  refine aw_aload_n C dX3_parseFactor_5 rfl rfl (q := 6) rfl ?_
  refine cvX3_88_3 (As := []) (rest := []) C B dX3_parseFactor_6 K.1 (c_passPrefixes3 G M.2.1 h d r u len s.1 300 f (.ref dr) (.ref (rd 0)) K.1 K.2.1 hlen (by decide) (by have := K.2.2.2.2.1; omega) hf) rfl rfl (Nat.le_of_ble_eq_true rfl) (by omega) (by omega) (by omega) (q := 9) rfl (fun r9 h_1 hr9 => ?_)
  obtain ⟨er9, kx_2, kpx_3⟩ := hr9
  subst er9
  have K_4 : rs_ok h_1 r u dr rd f len ((cu_pre f len 300 s.1).2, s.2.1, s.2.2) := rs_at (s := (s.1, s.2.1, s.2.2)) K kx_2 kpx_3 (cu_pre_ln K.2.2.2.2.1)
  have kq_5 : kp h h_1 (rs_L r dr rd) := kp_mono kpx_3 rs_s1
  show aw G 5 M 9 [.ref r, .int (nI dp), .int (nI s.1), .retAddr 0, .retAddr 0] [.int (pb_b ((cu_pre f len 300 s.1).1 = true))] h_1 0 0
  have hpe := (cu_pre_mx f len 300 s.1).1
  obtain ⟨e, he⟩ : ∃ e, e = (cu_pre f len 300 s.1).2 := ⟨_, rfl⟩
  rw [← he] at K_4 hpe
  refine aw_if_ne (t := 14) (q := 12) C dX3_parseFactor_9 (by decide) rfl (fun c_9 => ?_) (fun c_9 => ?_)
  ·
    refine aw_aload_n C dX3_parseFactor_14 rfl rfl (q := 15) rfl ?_
    refine gfX3_40_3 (v := .int (nI e)) C dX3_parseFactor_15 K_4.1 rfl (q := 18) rfl ?_
    refine aw_istore_n (ls' := [.ref r, .int (nI dp), .int (nI s.1), .int (nI e), .retAddr 0]) C dX3_parseFactor_18 rfl (by decide) rfl (q := 19) rfl ?_
    refine aw_aload_n C dX3_parseFactor_19 rfl rfl (q := 20) rfl ?_
    refine aw_iload_n C dX3_parseFactor_20 rfl rfl (q := 21) rfl ?_
    have hB1 := hB
    rw [← hl] at hB1
    refine cvX3_91_3 (As := [.int (nI dp)]) (rest := []) C B dX3_parseFactor_21 K_4.1 (hB1 h_1 (e, s.2.1, s.2.2) K_4) rfl rfl (Nat.le_of_ble_eq_true rfl) (by omega) (by omega) (by omega) (q := 24) rfl (fun r9 h_6 hr9 => ?_)
    obtain ⟨er9, K_7, kpx_8⟩ := hr9
    subst er9
    have kq_9 : kp h h_6 (rs_L r dr rd) := kp_in kq_5 kpx_8 (fun _ z => z)
    obtain ⟨x, ex⟩ : ∃ z, z = bare (e, s.2.1, s.2.2) := ⟨_, rfl⟩
    rw [← ex] at K_7 ⊢
    show aw G 5 M 24 [.ref r, .int (nI dp), .int (nI s.1), .int (nI e), .retAddr 0] [.int x.1] h_6 0 0
    refine aw_istore (ls' := [.ref r, .int (nI dp), .int (nI s.1), .int (nI e), .int x.1]) C dX3_parseFactor_24 (by decide) rfl (q := 26) rfl ?_
    refine aw_iload C dX3_parseFactor_26 rfl (q := 28) rfl ?_
    refine aw_iconst (v := (-1)) C dX3_parseFactor_28 (by decide) (q := 29) rfl ?_
    refine aw_icmp_eq (t := 37) (q := 32) C dX3_parseFactor_29 (by decide) rfl (fun c_29 => ?_) (fun c_29 => ?_)
    ·
      refine aw_iload C dX3_parseFactor_37 rfl (q := 39) rfl ?_
      refine aw_iret C E dX3_parseFactor_39 (Nat.le_refl _) (Nat.le_refl _) ?_
      rw [show rs_F f len bare s = x from by unfold rs_F; rw [if_pos (pb_n c_9), ← he, ← ex, if_pos (Or.inl c_29)]]
      exact ⟨rfl, K_7, kq_9⟩
    ·
      refine aw_iload_n C dX3_parseFactor_32 rfl rfl (q := 33) rfl ?_
      refine aw_iload_n C dX3_parseFactor_33 rfl rfl (q := 34) rfl ?_
      refine aw_icmp_ne (t := 40) (q := 37) C dX3_parseFactor_34 (by decide) rfl (fun c_34 => ?_) (fun c_34 => ?_)
      ·
        refine aw_iload C dX3_parseFactor_40 rfl (q := 42) rfl ?_
        refine aw_if_eq (t := 50) (q := 45) C dX3_parseFactor_42 (by decide) rfl (fun c_42 => ?_) (fun c_42 => ?_)
        ·
          refine aw_aload_n C dX3_parseFactor_50 rfl rfl (q := 51) rfl ?_
          refine aw_iload_n C dX3_parseFactor_51 rfl rfl (q := 52) rfl ?_
          refine aw_iload_n C dX3_parseFactor_52 rfl rfl (q := 53) rfl ?_
          refine cvX3_94_3 (As := [.int (nI s.1), .int (nI e)]) (rest := []) C B dX3_parseFactor_53 K_7.1 (c_preSteps G M.2.1 r u dr rd f len hr hlen hf h_6 d (x.2.1, x.2.2.1, x.2.2.2) K_7 s.1 e (by have := K.2.2.2.2.1; omega) (by have := K.2.2.2.2.1; omega) (by have := K.2.2.2.2.1; omega)) rfl rfl (Nat.le_of_ble_eq_true rfl) (by omega) (by omega) (by omega) (q := 56) rfl (fun r9 h_10 hr9 => ?_)
          obtain ⟨er9, kx_11, kpx_12⟩ := hr9
          subst er9
          have K_13 : rs_ok h_10 r u dr rd f len (x.2.1, x.2.2.1, rs_pre f s.1 e e x.2.2.2) := kx_11
          have kq_14 : kp h h_10 (rs_L r dr rd) := kp_in kq_9 kpx_12 (fun _ z => z)
          show aw G 5 M 56 [.ref r, .int (nI dp), .int (nI s.1), .int (nI e), .int x.1] [] h_10 0 0
          refine aw_iconst (v := 0) C dX3_parseFactor_56 (by decide) (q := 57) rfl ?_
          refine aw_iret C E dX3_parseFactor_57 (Nat.le_refl _) (Nat.le_refl _) ?_
          rw [show rs_F f len bare s = (0, x.2.1, x.2.2.1, rs_pre f s.1 e e x.2.2.2) from by unfold rs_F; rw [if_pos (pb_n c_9), ← he, ← ex, if_neg (by rintro (z | z); exact c_29 z; exact c_34 (by rw [z])), if_pos c_42]]
          exact ⟨rfl, K_13, kq_14⟩
        ·
          refine aw_aload_n C dX3_parseFactor_45 rfl rfl (q := 46) rfl ?_
          refine aw_iload_n C dX3_parseFactor_46 rfl rfl (q := 47) rfl ?_
          refine cvX3_82_3 (As := [.int (nI e)]) (rest := []) C B dX3_parseFactor_47 K_7.1 (c_keep G M.2.1 r u dr rd f len hr hlen hf h_6 d (x.2.1, x.2.2.1, x.2.2.2) K_7 (nI e)) rfl rfl (Nat.le_of_ble_eq_true rfl) (by omega) (by omega) (by omega) (q := 50) rfl (fun r9 h_15 hr9 => ?_)
          obtain ⟨er9, kx_16, kpx_17⟩ := hr9
          subst er9
          have K_18 : rs_ok h_15 r u dr rd f len (x.2.1, rs_kd x.2.2.1 (nI e) x.2.1, x.2.2.2) := kx_16
          have kq_19 : kp h h_15 (rs_L r dr rd) := kp_in kq_9 kpx_17 (fun _ z => z)
          show aw G 5 M 50 [.ref r, .int (nI dp), .int (nI s.1), .int (nI e), .int x.1] [] h_15 0 0
          refine aw_aload_n C dX3_parseFactor_50 rfl rfl (q := 51) rfl ?_
          refine aw_iload_n C dX3_parseFactor_51 rfl rfl (q := 52) rfl ?_
          refine aw_iload_n C dX3_parseFactor_52 rfl rfl (q := 53) rfl ?_
          refine cvX3_94_3 (As := [.int (nI s.1), .int (nI e)]) (rest := []) C B dX3_parseFactor_53 K_18.1 (c_preSteps G M.2.1 r u dr rd f len hr hlen hf h_15 d (x.2.1, rs_kd x.2.2.1 (nI e) x.2.1, x.2.2.2) K_18 s.1 e (by have := K.2.2.2.2.1; omega) (by have := K.2.2.2.2.1; omega) (by have := K.2.2.2.2.1; omega)) rfl rfl (Nat.le_of_ble_eq_true rfl) (by omega) (by omega) (by omega) (q := 56) rfl (fun r9 h_20 hr9 => ?_)
          obtain ⟨er9, kx_21, kpx_22⟩ := hr9
          subst er9
          have K_23 : rs_ok h_20 r u dr rd f len (x.2.1, rs_kd x.2.2.1 (nI e) x.2.1, rs_pre f s.1 e e x.2.2.2) := kx_21
          have kq_24 : kp h h_20 (rs_L r dr rd) := kp_in kq_19 kpx_22 (fun _ z => z)
          show aw G 5 M 56 [.ref r, .int (nI dp), .int (nI s.1), .int (nI e), .int x.1] [] h_20 0 0
          refine aw_iconst (v := 0) C dX3_parseFactor_56 (by decide) (q := 57) rfl ?_
          refine aw_iret C E dX3_parseFactor_57 (Nat.le_refl _) (Nat.le_refl _) ?_
          rw [show rs_F f len bare s = (0, x.2.1, rs_kd x.2.2.1 (nI e) x.2.1, rs_pre f s.1 e e x.2.2.2) from by unfold rs_F; rw [if_pos (pb_n c_9), ← he, ← ex, if_neg (by rintro (z | z); exact c_29 z; exact c_34 (by rw [z])), if_neg c_42]]
          exact ⟨rfl, K_23, kq_24⟩
      ·
        refine aw_iload C dX3_parseFactor_37 rfl (q := 39) rfl ?_
        refine aw_iret C E dX3_parseFactor_39 (Nat.le_refl _) (Nat.le_refl _) ?_
        rw [show rs_F f len bare s = x from by unfold rs_F; rw [if_pos (pb_n c_9), ← he, ← ex, if_pos (Or.inr ((nI_eq (by have := K.2.2.2.2.1; omega) (by have := K.2.2.2.2.1; omega)).mp c_34))]]
        exact ⟨rfl, K_7, kq_9⟩
  ·
    refine aw_iconst (v := (-1)) C dX3_parseFactor_12 (by decide) (q := 13) rfl ?_
    refine aw_iret C E dX3_parseFactor_13 (Nat.le_refl _) (Nat.le_refl _) ?_
    rw [show rs_F f len bare s = (-1, e, s.2.1, s.2.2) from by unfold rs_F; rw [if_neg (pb_0.mp c_9), ← he]]
    exact ⟨rfl, K_4, kq_5⟩
set_option maxHeartbeats 4000000 in
set_option maxRecDepth 100000 in
theorem c_parseLater (G : ac_G) (l : Launch) (r u dr : Nat) (rd : Nat → Nat) (f : Nat → Int32) (len : Nat) (hr : inj rd 6) (hlen : len ≤ 300) (hf : cu_ch f) (d dp : Nat) (fc : rs_S → rs_R) (hF : rs_C G l yX3_parseFactor cX3_parseFactor 5 r u dr rd f len (d + 6) [.int (nI dp)] fc) : rs_C G l yX3_parseLaterFactor cX3_parseLaterFactor 4 r u dr rd f len (d + 7) [.int (nI dp)] (rs_LF fc) := by
  intro h s K
  refine ac_of (ls := [.ref r, .int (nI dp), .retAddr 0, .retAddr 0]) (by decide +kernel) rfl (Nat.le_of_ble_eq_true rfl) (fun M hl C B E hnm => ?_)
  refine aw_aload_n C dX3_parseLaterFactor_0 rfl rfl (q := 1) rfl ?_
  refine gfX3_40_3 (v := .int (nI s.1)) C dX3_parseLaterFactor_1 K.1 rfl (q := 4) rfl ?_
  refine aw_istore_n (ls' := [.ref r, .int (nI dp), .int (nI s.1), .retAddr 0]) C dX3_parseLaterFactor_4 rfl (by decide) rfl (q := 5) rfl ?_
  refine aw_aload_n C dX3_parseLaterFactor_5 rfl rfl (q := 6) rfl ?_
  refine aw_iload_n C dX3_parseLaterFactor_6 rfl rfl (q := 7) rfl ?_
  have hF1 := hF
  rw [← hl] at hF1
  refine cvX3_79_3 (As := [.int (nI dp)]) (rest := []) C B dX3_parseLaterFactor_7 K.1 (hF1 h (s.1, s.2.1, s.2.2) K) rfl rfl (Nat.le_of_ble_eq_true rfl) (by omega) (by omega) (by omega) (q := 10) rfl (fun r9 h_1 hr9 => ?_)
  obtain ⟨er9, K_2, kpx_3⟩ := hr9
  subst er9
  have kq_4 : kp h h_1 (rs_L r dr rd) := kpx_3
  obtain ⟨x, ex⟩ : ∃ z, z = fc (s.1, s.2.1, s.2.2) := ⟨_, rfl⟩
  rw [← ex] at K_2 ⊢
  show aw G 4 M 10 [.ref r, .int (nI dp), .int (nI s.1), .retAddr 0] [.int x.1] h_1 0 0
  refine aw_istore_n (ls' := [.ref r, .int (nI dp), .int (nI s.1), .int x.1]) C dX3_parseLaterFactor_10 rfl (by decide) rfl (q := 11) rfl ?_
  refine aw_iload_n C dX3_parseLaterFactor_11 rfl rfl (q := 12) rfl ?_
  refine aw_iconst (v := 2) C dX3_parseLaterFactor_12 (by decide) (q := 13) rfl ?_
  refine aw_icmp_eq (t := 21) (q := 16) C dX3_parseLaterFactor_13 (by decide) rfl (fun c_13 => ?_) (fun c_13 => ?_)
  ·
    refine aw_aload_n C dX3_parseLaterFactor_21 rfl rfl (q := 22) rfl ?_
    refine aw_iload_n C dX3_parseLaterFactor_22 rfl rfl (q := 23) rfl ?_
    refine cvX3_82_3 (As := [.int (nI s.1)]) (rest := []) C B dX3_parseLaterFactor_23 K_2.1 (c_keep G M.2.1 r u dr rd f len hr hlen hf h_1 d (x.2.1, x.2.2.1, x.2.2.2) K_2 (nI s.1)) rfl rfl (Nat.le_of_ble_eq_true rfl) (by omega) (by omega) (by omega) (q := 26) rfl (fun r9 h_5 hr9 => ?_)
    obtain ⟨er9, kx_6, kpx_7⟩ := hr9
    subst er9
    have K_8 : rs_ok h_5 r u dr rd f len (x.2.1, rs_kd x.2.2.1 (nI s.1) x.2.1, x.2.2.2) := kx_6
    have kq_9 : kp h h_5 (rs_L r dr rd) := kp_in kq_4 kpx_7 (fun _ z => z)
    show aw G 4 M 26 [.ref r, .int (nI dp), .int (nI s.1), .int x.1] [] h_5 0 0
    refine aw_iload_n C dX3_parseLaterFactor_26 rfl rfl (q := 27) rfl ?_
    refine aw_iret C E dX3_parseLaterFactor_27 (Nat.le_refl _) (Nat.le_refl _) ?_
    rw [show rs_LF fc s = (x.1, x.2.1, rs_kd x.2.2.1 (nI s.1) x.2.1, x.2.2.2) from by unfold rs_LF; rw [← ex, if_pos (Or.inl c_13)]]
    exact ⟨rfl, K_8, kq_9⟩
  ·
    refine aw_iload_n C dX3_parseLaterFactor_16 rfl rfl (q := 17) rfl ?_
    refine aw_iconst (v := 1) C dX3_parseLaterFactor_17 (by decide) (q := 18) rfl ?_
    refine aw_icmp_ne (t := 26) (q := 21) C dX3_parseLaterFactor_18 (by decide) rfl (fun c_18 => ?_) (fun c_18 => ?_)
    ·
      refine aw_iload_n C dX3_parseLaterFactor_26 rfl rfl (q := 27) rfl ?_
      refine aw_iret C E dX3_parseLaterFactor_27 (Nat.le_refl _) (Nat.le_refl _) ?_
      rw [show rs_LF fc s = x from by unfold rs_LF; rw [← ex, if_neg (by rintro (z | z); exact c_13 z; exact c_18 z)]]
      exact ⟨rfl, K_2, kq_4⟩
    ·
      refine aw_aload_n C dX3_parseLaterFactor_21 rfl rfl (q := 22) rfl ?_
      refine aw_iload_n C dX3_parseLaterFactor_22 rfl rfl (q := 23) rfl ?_
      refine cvX3_82_3 (As := [.int (nI s.1)]) (rest := []) C B dX3_parseLaterFactor_23 K_2.1 (c_keep G M.2.1 r u dr rd f len hr hlen hf h_1 d (x.2.1, x.2.2.1, x.2.2.2) K_2 (nI s.1)) rfl rfl (Nat.le_of_ble_eq_true rfl) (by omega) (by omega) (by omega) (q := 26) rfl (fun r9 h_10 hr9 => ?_)
      obtain ⟨er9, kx_11, kpx_12⟩ := hr9
      subst er9
      have K_13 : rs_ok h_10 r u dr rd f len (x.2.1, rs_kd x.2.2.1 (nI s.1) x.2.1, x.2.2.2) := kx_11
      have kq_14 : kp h h_10 (rs_L r dr rd) := kp_in kq_4 kpx_12 (fun _ z => z)
      show aw G 4 M 26 [.ref r, .int (nI dp), .int (nI s.1), .int x.1] [] h_10 0 0
      refine aw_iload_n C dX3_parseLaterFactor_26 rfl rfl (q := 27) rfl ?_
      refine aw_iret C E dX3_parseLaterFactor_27 (Nat.le_refl _) (Nat.le_refl _) ?_
      rw [show rs_LF fc s = (x.1, x.2.1, rs_kd x.2.2.1 (nI s.1) x.2.1, x.2.2.2) from by unfold rs_LF; rw [← ex, if_pos (Or.inr c_18)]]
      exact ⟨rfl, K_13, kq_14⟩
