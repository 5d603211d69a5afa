/-! Reader: what stands at the end of a factor -/
abbrev rs_R : Type := Int32 × rs_S
/-- parseNumber's leading zeros, from place i on, up to the last digit, which stands before place e -/
def rs_zer (f : Nat → Int32) (e : Nat) : Nat → Nat → (Nat → Int32) → Nat → Int32
  | 0, _, D => D
  | m + 1, i, D => if i + 1 < e ∧ f i = 48 then rs_zer f e m (i + 1) (rs_di D (nI i) 1) else D
def rs_num (f : Nat → Int32) (len : Nat) (s : rs_S) : rs_R := (0, (cu_num f len 6 s.1 0).2, rs_zer f (cu_num f len 6 s.1 0).2 300 s.1 s.2.1, ru_add s.2.2 35 (cu_num f len 6 s.1 0).1)
def rs_let (f : Nat → Int32) (len : Nat) (s : rs_S) : rs_R :=
  if cu_c f len s.1 = 108 ∨ cu_c f len s.1 = 119 ∨ cu_c f len s.1 = 116 then (0, s.1 + 1, s.2.1, ru_add s.2.2 (cu_c f len s.1) 0)
  else if cu_c f len s.1 = 110 ∨ cu_c f len s.1 = 97 ∨ cu_c f len s.1 = 115 ∨ cu_c f len s.1 = 101 then
    (if cu_isd (cu_c f len (s.1 + 1)) 8 then (0, s.1 + 1 + 1, s.2.1, ru_add s.2.2 (cu_c f len s.1) (cu_c f len (s.1 + 1) - 48)) else (-1, s.1 + 1, s.2.1, ru_add s.2.2 (cu_c f len s.1) (-1)))
  else (-1, s)
def rs_par (f : Nat → Int32) (len : Nat) (sub : rs_S → rs_R) (deep : Bool) (s : rs_S) : rs_R :=
  if deep = true then (-1, s)
  else if (sub (s.1 + 1, s.2.1, s.2.2)).1 = -1 ∨ ¬ cu_c f len (sub (s.1 + 1, s.2.1, s.2.2)).2.1 = 41 then (-1, (sub (s.1 + 1, s.2.1, s.2.2)).2)
  else ((sub (s.1 + 1, s.2.1, s.2.2)).1, (sub (s.1 + 1, s.2.1, s.2.2)).2.1 + 1, rs_di (rs_di (sub (s.1 + 1, s.2.1, s.2.2)).2.2.1 (nI s.1) 1) (nI (sub (s.1 + 1, s.2.1, s.2.2)).2.1) 1, (sub (s.1 + 1, s.2.1, s.2.2)).2.2.2)
def rs_bare (f : Nat → Int32) (len : Nat) (sub : rs_S → rs_R) (deep : Bool) (s : rs_S) : rs_R :=
  if cu_c f len s.1 = 40 then rs_par f len sub deep s else if ¬ cu_c f len s.1 < 48 ∧ ¬ 57 < cu_c f len s.1 then rs_num f len s else rs_let f len s
def rs_Q (h : ac_H) (r u dr : Nat) (rd : Nat → Nat) (f : Nat → Int32) (len : Nat) (x : rs_R) : Option Value → ac_H → Prop := fun r9 h9 => r9 = some (.int x.1) ∧ rs_ok h9 r u dr rd f len x.2 ∧ kp h h9 (rs_L r dr rd)
theorem rs_lt {i e : Nat} (hi : i < 100000) (he : e < 100000) : (nI e - 1 ≤ nI i) ↔ ¬ i + 1 < e := by
  have e1 : (nI e - 1).toInt = (e : Int) - 1 := pk_sub_toInt (b := 1) (by omega) (by decide)
  rw [Int32.le_iff_toInt_le, e1, nI_toInt (by omega)]
  omega
theorem cu_isd_8 {c : Int32} (h : cu_isd c 8) : ¬ c - 48 = -1 := fun z => h.1 (by rw [z]; decide)
theorem cu_num_ln {f : Nat → Int32} {len at_ : Nat} (h : at_ ≤ len) : (cu_num f len 6 at_ 0).2 ≤ len := by
  have := (cu_num_mx f len 6 at_ 0).1; omega
theorem cu_pre_ln {f : Nat → Int32} {len at_ : Nat} (h : at_ ≤ len) : (cu_pre f len 300 at_).2 ≤ len := by
  have := (cu_pre_mx f len 300 at_).1; omega
set_option maxHeartbeats 4000000 in
set_option maxRecDepth 100000 in
theorem lp_zer {G : ac_G} {M : ac_M} {r u dr : Nat} {rd : Nat → Nat} {f : Nat → Int32} {len : Nat} (hr : inj rd 6) (hlen : len ≤ 300) (hf : cu_ch f) {h : ac_H} {d e : Nat} {R : Nat → Int32} {T : ru_D} {x1 : Int32} (he : e ≤ 300) (C : ac_MC G RX3 cX3_parseNumber 3 (some .int) M) (B : ac_Bd M (d + 2) 0 0) (E : ac_End G (fun r9 h9 => r9 = some (.int 0) ∧ rs_ok h9 r u dr rd f len (e, R, T) ∧ kp h h9 (rs_L r dr rd)) 0 0 M) :
    ∀ (m i : Nat) (D : Nat → Int32) (h1 : ac_H), i + m = 300 ∨ e ≤ i + m → i ≤ 300 → rs_ok h1 r u dr rd f len (e, D, T) → kp h h1 (rs_L r dr rd) → rs_zer f e m i D = R → aw G 3 M 20 [.ref r, .int x1, .int (nI i)] [] h1 0 0 := by
  intro m
  induction m with
  | zero =>
    intro i D h1 hm hi K1 kq1 hR
    rw [show D = R from hR] at K1
    refine aw_iload_n C dX3_parseNumber_20 rfl rfl (q := 21) rfl ?_
    refine aw_aload_n C dX3_parseNumber_21 rfl rfl (q := 22) rfl ?_
    refine gfX3_40_3 (v := .int (nI e)) C dX3_parseNumber_22 K1.1 rfl (q := 25) rfl ?_
    refine aw_iconst (v := 1) C dX3_parseNumber_25 (by decide) (q := 26) rfl ?_
    refine aw_isub C dX3_parseNumber_26 (q := 27) rfl ?_
    refine aw_icmp_ge (t := 65) (q := 30) C dX3_parseNumber_27 (by decide) rfl (fun c_27 => ?_) (fun c_27 => absurd c_27 (fun z => z ((rs_lt (by omega) (by omega)).mpr (by omega))))
    refine aw_iconst (v := 0) C dX3_parseNumber_65 (by decide) (q := 66) rfl ?_
    refine aw_iret C E dX3_parseNumber_66 (Nat.le_refl _) (Nat.le_refl _) ?_
    exact ⟨rfl, K1, kq1⟩
  | succ m ih =>
    intro i D h1 hm hi K1 kq1 hR
    refine aw_iload_n C dX3_parseNumber_20 rfl rfl (q := 21) rfl ?_
    refine aw_aload_n C dX3_parseNumber_21 rfl rfl (q := 22) rfl ?_
    refine gfX3_40_3 (v := .int (nI e)) C dX3_parseNumber_22 K1.1 rfl (q := 25) rfl ?_
    refine aw_iconst (v := 1) C dX3_parseNumber_25 (by decide) (q := 26) rfl ?_
    refine aw_isub C dX3_parseNumber_26 (q := 27) rfl ?_
    refine aw_icmp_ge (t := 65) (q := 30) C dX3_parseNumber_27 (by decide) rfl (fun c_27 => ?_) (fun c_27 => ?_)
    ·
      refine aw_iconst (v := 0) C dX3_parseNumber_65 (by decide) (q := 66) rfl ?_
      refine aw_iret C E dX3_parseNumber_66 (Nat.le_refl _) (Nat.le_refl _) ?_
      rw [show D = R from by rw [← hR]; unfold rs_zer; rw [if_neg (fun z => (rs_lt (by omega) (by omega)).mp c_27 z.1)]] at K1
      exact ⟨rfl, K1, kq1⟩
    ·
      have hi1 : i + 1 < e := Classical.byContradiction (fun z => c_27 ((rs_lt (by omega) (by omega)).mpr z))
      refine aw_iload_n C dX3_parseNumber_30 rfl rfl (q := 31) rfl ?_
      refine aw_aload_n C dX3_parseNumber_31 rfl rfl (q := 32) rfl ?_
      refine gfX3_28_3 (v := .ref u) C dX3_parseNumber_32 K1.1 rfl (q := 35) rfl ?_
      refine aw_alen (v := nI 300) C dX3_parseNumber_35 K1.2.1 rfl rfl (q := 36) rfl ?_
      refine csX3_32 (As := [.int (nI i), .int (nI 300)]) (rest := []) C B dX3_parseNumber_36 (c_isBelow G M.2.1 h1 d (nI i) (nI 300)) rfl rfl (Nat.le_of_ble_eq_true rfl) (by omega) (by omega) (by omega) (q := 39) rfl (fun r9 h9 hr9 => ?_)
      obtain ⟨e9, er9⟩ := hr9
      subst er9; rw [e9]
      show aw G 3 M 39 [.ref r, .int x1, .int (nI i)] [.int (pb_b (¬ (nI i) < 0 ∧ ¬ (nI 300) ≤ (nI i)))] h1 0 0
      refine aw_if_eq (t := 65) (q := 42) C dX3_parseNumber_39 (by decide) rfl (fun c_39 => absurd c_39 (fun z => (pb_0.mp z) ⟨nI_pos (by omega), ni_nge i 300 rfl rfl (by omega) (by omega) (by omega)⟩)) (fun c_39 => ?_)
      refine aw_aload_n C dX3_parseNumber_42 rfl rfl (q := 43) rfl ?_
      refine gfX3_28_3 (v := .ref u) C dX3_parseNumber_43 K1.1 rfl (q := 46) rfl ?_
      refine aw_iload_n C dX3_parseNumber_46 rfl rfl (q := 47) rfl ?_
      refine ay_cald (j := i) C dX3_parseNumber_47 K1.2.1 (vp_in_nI (by omega) (by omega)) (nI_clamp (by omega)) (q := 48) rfl ?_
      refine aw_bipush (v := 48) C dX3_parseNumber_48 (by decide) (q := 50) rfl ?_
      refine aw_icmp_ne (t := 65) (q := 53) C dX3_parseNumber_50 (by decide) rfl (fun c_50 => ?_) (fun c_50 => ?_)
      ·
        refine aw_iconst (v := 0) C dX3_parseNumber_65 (by decide) (q := 66) rfl ?_
        refine aw_iret C E dX3_parseNumber_66 (Nat.le_refl _) (Nat.le_refl _) ?_
        rw [show D = R from by rw [← hR]; unfold rs_zer; rw [if_neg (fun z => c_50 z.2)]] at K1
        exact ⟨rfl, K1, kq1⟩
      ·
        refine aw_aload_n C dX3_parseNumber_53 rfl rfl (q := 54) rfl ?_
        refine aw_iload_n C dX3_parseNumber_54 rfl rfl (q := 55) rfl ?_
        refine aw_iconst (v := 1) C dX3_parseNumber_55 (by decide) (q := 56) rfl ?_
        refine cvX3_36_3 (As := [.int (nI i), .int 1]) (rest := []) C B dX3_parseNumber_56 K1.1 (c_setDropped G M.2.1 r u dr rd f len hr hlen hf h1 d (e, D, T) K1 (nI i) 1 rfl) rfl rfl (Nat.le_of_ble_eq_true rfl) (by omega) (by omega) (by omega) (q := 59) rfl (fun r9 h_1 hr9 => ?_)
        obtain ⟨er9, kx_2, kpx_3⟩ := hr9
        subst er9
        have K_4 : rs_ok h_1 r u dr rd f len (e, rs_di D (nI i) 1, T) := kx_2
        have kq_5 : kp h h_1 (rs_L r dr rd) := kp_in kq1 kpx_3 (fun _ z => z)
        show aw G 3 M 59 [.ref r, .int x1, .int (nI i)] [] h_1 0 0
        refine aw_iinc (v := nI (i + 1)) (ls' := [.ref r, .int x1, .int (nI (i + 1))]) C dX3_parseNumber_59 rfl (nI_1 i) (by decide) rfl (q := 62) rfl ?_
        refine aw_goto (q := 20) C dX3_parseNumber_62 (by decide) ?_
        refine ih (i + 1) _ h_1 (by omega) (by omega) K_4 kq_5 ?_
        rw [← hR]; conv => rhs; unfold rs_zer
        rw [if_pos ⟨hi1, c_50⟩]
set_option maxHeartbeats 4000000 in
set_option maxRecDepth 100000 in
theorem c_parseNumber (G : ac_G) (l : Launch) (r u dr : Nat) (rd : Nat → Nat) (f : Nat → Int32) (len : Nat) (hr : inj rd 6) (hlen : len ≤ 300) (hf : cu_ch f) (h : ac_H) (d : Nat) (s : rs_S) (K : rs_ok h r u dr rd f len s) : ac_Met G l yX3_parseNumber cX3_parseNumber 3 (some .int) (d + 2) 0 0 [.ref r] h (rs_Q h r u dr rd f len (rs_num f len s)) := by
  refine ac_of (ls := [.ref r, .retAddr 0, .retAddr 0]) (by decide +kernel) rfl (Nat.le_of_ble_eq_true rfl) (fun M hl C B E hnm => ?_)
  refine aw_aload_n C dX3_parseNumber_0 rfl rfl (q := 1) rfl ?_
  refine gfX3_40_3 (v := .int (nI s.1)) C dX3_parseNumber_1 K.1 rfl (q := 4) rfl ?_
  refine aw_istore_n (ls' := [.ref r, .int (nI s.1), .retAddr 0]) C dX3_parseNumber_4 rfl (by decide) rfl (q := 5) rfl ?_
  refine aw_aload_n C dX3_parseNumber_5 rfl rfl (q := 6) rfl ?_
  refine gfX3_20_3 (v := .ref (rd 0)) C dX3_parseNumber_6 K.1 rfl (q := 9) rfl ?_
  refine aw_bipush (v := 35) C dX3_parseNumber_9 (by decide) (q := 11) rfl ?_
  refine aw_aload_n C dX3_parseNumber_11 rfl rfl (q := 12) rfl ?_
  refine cvX3_108_3 (As := []) (rest := [.int 35, .ref (rd 0)]) C B dX3_parseNumber_12 K.1 (c_passNumber3 G M.2.1 h d r u len s.1 300 f (.ref dr) (.ref (rd 0)) K.1 K.2.1 hlen (by decide) (by have := K.2.2.2.2.1; omega) hf) rfl rfl (Nat.le_of_ble_eq_true rfl) (by omega) (by omega) (by omega) (q := 15) rfl (fun r9 h_1 hr9 => ?_)
  obtain ⟨er9, kx_2, kpx_3⟩ := hr9
  subst er9
  have K_4 : rs_ok h_1 r u dr rd f len ((cu_num f len 6 s.1 0).2, s.2.1, s.2.2) := rs_at (s := (s.1, s.2.1, s.2.2)) K kx_2 kpx_3 (cu_num_ln K.2.2.2.2.1)
  have kq_5 : kp h h_1 (rs_L r dr rd) := kp_mono kpx_3 rs_s1
  show aw G 3 M 15 [.ref r, .int (nI s.1), .retAddr 0] [.int ((cu_num f len 6 s.1 0).1), .int 35, .ref (rd 0)] h_1 0 0
  refine cvX3_71_6 (As := [.int 35, .int ((cu_num f len 6 s.1 0).1)]) (rest := []) C B dX3_parseNumber_15 K_4.2.2.2.1.1 (c_addStep G M.2.1 h_1 d rd s.2.2 hr K_4.2.2.2.1 K_4.2.2.2.2.2 35 ((cu_num f len 6 s.1 0).1)) rfl rfl (Nat.le_of_ble_eq_true rfl) (by omega) (by omega) (by omega) (q := 18) rfl (fun r9 h_6 hr9 => ?_)
  obtain ⟨er9, kx_7, kpx_8⟩ := hr9
  subst er9
  have K_9 : rs_ok h_6 r u dr rd f len ((cu_num f len 6 s.1 0).2, s.2.1, ru_add s.2.2 35 ((cu_num f len 6 s.1 0).1)) := rs_ru (s := ((cu_num f len 6 s.1 0).2, s.2.1, s.2.2)) K_4 kx_7 (kp_mono kpx_8 rs_s5) (ru_add_bd K_4.2.2.2.2.2 _ _)
  have kq_10 : kp h h_6 (rs_L r dr rd) := kp_in kq_5 kpx_8 rs_s3
  show aw G 3 M 18 [.ref r, .int (nI s.1), .retAddr 0] [] h_6 0 0
  refine aw_iload_n C dX3_parseNumber_18 rfl rfl (q := 19) rfl ?_
  refine aw_istore_n (ls' := [.ref r, .int (nI s.1), .int (nI s.1)]) C dX3_parseNumber_19 rfl (by decide) rfl (q := 20) rfl ?_
  have he1 := cu_num_ln (f := f) K.2.2.2.2.1
  exact lp_zer (R := rs_zer f (cu_num f len 6 s.1 0).2 300 s.1 s.2.1) (T := ru_add s.2.2 35 (cu_num f len 6 s.1 0).1) hr hlen hf (by omega) C B E 300 s.1 s.2.1 h_6 (by omega) (by have := K.2.2.2.2.1; omega) K_9 kq_10 rfl
set_option maxHeartbeats 4000000 in
set_option maxRecDepth 100000 in
theorem c_parseLetter (G : ac_G) (l : Launch) (r u dr : Nat) (rd : Nat → Nat) (f : Nat → Int32) (len : Nat) (hr : inj rd 6) (hlen : len ≤ 300) (hf : cu_ch f) (h : ac_H) (d : Nat) (s : rs_S) (K : rs_ok h r u dr rd f len s) : ac_Met G l yX3_parseLetter cX3_parseLetter 5 (some .int) (d + 2) 0 0 [.ref r, .int (cu_c f len s.1)] h (rs_Q h r u dr rd f len (rs_let f len s)) := by
  refine ac_of (ls := [.ref r, .int (cu_c f len s.1), .retAddr 0, .retAddr 0, .retAddr 0]) (by decide +kernel) rfl (Nat.le_of_ble_eq_true rfl) (fun M hl C B E hnm => ?_)
  refine aw_iload_n C dX3_parseLetter_0 rfl rfl (q := 1) rfl ?_
  refine aw_bipush (v := 108) C dX3_parseLetter_1 (by decide) (q := 3) rfl ?_
  refine aw_icmp_eq (t := 18) (q := 6) C dX3_parseLetter_3 (by decide) rfl (fun c_3 => ?_) (fun c_3 => ?_)
  ·
    refine aw_iconst (v := 1) C dX3_parseLetter_18 (by decide) (q := 19) rfl ?_
    refine aw_goto (q := 23) C dX3_parseLetter_19 (by decide) ?_
    refine aw_istore_n (ls' := [.ref r, .int (cu_c f len s.1), .int 1, .retAddr 0, .retAddr 0]) C dX3_parseLetter_23 rfl (by decide) rfl (q := 24) rfl ?_
    refine aw_iload_n C dX3_parseLetter_24 rfl rfl (q := 25) rfl ?_
    refine aw_bipush (v := 110) C dX3_parseLetter_25 (by decide) (q := 27) rfl ?_
    refine aw_icmp_eq (t := 48) (q := 30) C dX3_parseLetter_27 (by decide) rfl (fun c_27 => absurd c_27 (by rw [c_3]; decide)) (fun c_27 => ?_)
    refine aw_iload_n C dX3_parseLetter_30 rfl rfl (q := 31) rfl ?_
    refine aw_bipush (v := 97) C dX3_parseLetter_31 (by decide) (q := 33) rfl ?_
    refine aw_icmp_eq (t := 48) (q := 36) C dX3_parseLetter_33 (by decide) rfl (fun c_33 => absurd c_33 (by rw [c_3]; decide)) (fun c_33 => ?_)
    refine aw_iload_n C dX3_parseLetter_36 rfl rfl (q := 37) rfl ?_
    refine aw_bipush (v := 115) C dX3_parseLetter_37 (by decide) (q := 39) rfl ?_
    refine aw_icmp_eq (t := 48) (q := 42) C dX3_parseLetter_39 (by decide) rfl (fun c_39 => absurd c_39 (by rw [c_3]; decide)) (fun c_39 => ?_)
    refine aw_iload_n C dX3_parseLetter_42 rfl rfl (q := 43) rfl ?_
    refine aw_bipush (v := 101) C dX3_parseLetter_43 (by decide) (q := 45) rfl ?_
    refine aw_icmp_ne (t := 52) (q := 48) C dX3_parseLetter_45 (by decide) rfl (fun c_45 => ?_) (fun c_45 => absurd c_45 (by rw [c_3]; decide))
    refine aw_iconst (v := 0) C dX3_parseLetter_52 (by decide) (q := 53) rfl ?_
    refine aw_istore_n (ls' := [.ref r, .int (cu_c f len s.1), .int 1, .int 0, .retAddr 0]) C dX3_parseLetter_53 rfl (by decide) rfl (q := 54) rfl ?_
    refine aw_iload_n C dX3_parseLetter_54 rfl rfl (q := 55) rfl ?_
    refine aw_if_ne (t := 64) (q := 58) C dX3_parseLetter_55 (by decide) rfl (fun c_55 => ?_) (fun c_55 => absurd c_55 (by decide))
    have hl9 : s.1 < len := cu_c_in c_3 (by decide)
    refine aw_aload_n C dX3_parseLetter_64 rfl rfl (q := 65) rfl ?_
    refine aw_dup C dX3_parseLetter_65 rfl (q := 66) rfl ?_
    refine gfX3_40_3 (v := .int (nI s.1)) C dX3_parseLetter_66 K.1 rfl (q := 69) rfl ?_
    refine aw_iconst (v := 1) C dX3_parseLetter_69 (by decide) (q := 70) rfl ?_
    refine aw_iadd C dX3_parseLetter_70 (q := 71) rfl ?_
    rw [show nI s.1 + 1 = nI (s.1 + 1) from nI_1 _]
    refine pfX3_40_3 C dX3_parseLetter_71 K.1 rfl rfl (Nat.le_of_ble_eq_true rfl) (q := 74) rfl ?_
    show aw G 5 M 74 [.ref r, .int (cu_c f len s.1), .int 1, .int 0, .retAddr 0] [] (ac_up h r (.inr (3, [.ref u, .int (nI len), .int (nI (s.1 + 1)), .ref dr, .ref (rd 0)]))) 0 0
    obtain ⟨h_1, eh_1⟩ : ∃ z9, z9 = ac_up h r (.inr (3, [.ref u, .int (nI len), .int (nI (s.1 + 1)), .ref dr, .ref (rd 0)])) := ⟨_, rfl⟩
    rw [← eh_1]
    have kpx_3 : kp h h_1 [r] := by rw [eh_1]; exact kp_up (kp_cons r kp_rf) _ _ (by simp)
    have K_2 : rs_ok h_1 r u dr rd f len (s.1 + 1, s.2.1, s.2.2) := rs_at (s := (s.1, s.2.1, s.2.2)) K (by rw [eh_1]; exact ac_up_s _ _ _) kpx_3 (by omega)
    have kq_4 : kp h h_1 (rs_L r dr rd) := kp_mono kpx_3 rs_s1
    refine aw_iload_n C dX3_parseLetter_74 rfl rfl (q := 75) rfl ?_
    refine aw_if_eq (t := 87) (q := 78) C dX3_parseLetter_75 (by decide) rfl (fun c_75 => ?_) (fun c_75 => absurd c_75 (by decide))
    refine aw_iconst (v := 0) C dX3_parseLetter_87 (by decide) (q := 88) rfl ?_
    refine aw_istore (ls' := [.ref r, .int (cu_c f len s.1), .int 1, .int 0, .int 0]) C dX3_parseLetter_88 (by decide) rfl (q := 90) rfl ?_
    refine aw_aload_n C dX3_parseLetter_90 rfl rfl (q := 91) rfl ?_
    refine gfX3_20_3 (v := .ref (rd 0)) C dX3_parseLetter_91 K_2.1 rfl (q := 94) rfl ?_
    refine aw_iload_n C dX3_parseLetter_94 rfl rfl (q := 95) rfl ?_
    refine aw_iload C dX3_parseLetter_95 rfl (q := 97) rfl ?_
    refine cvX3_71_6 (As := [.int (cu_c f len s.1), .int 0]) (rest := []) C B dX3_parseLetter_97 K_2.2.2.2.1.1 (c_addStep G M.2.1 h_1 d rd s.2.2 hr K_2.2.2.2.1 K_2.2.2.2.2.2 (cu_c f len s.1) 0) rfl rfl (Nat.le_of_ble_eq_true rfl) (by omega) (by omega) (by omega) (q := 100) rfl (fun r9 h_5 hr9 => ?_)
    obtain ⟨er9, kx_6, kpx_7⟩ := hr9
    subst er9
    have K_8 : rs_ok h_5 r u dr rd f len (s.1 + 1, s.2.1, ru_add s.2.2 (cu_c f len s.1) 0) := rs_ru (s := (s.1 + 1, s.2.1, s.2.2)) K_2 kx_6 (kp_mono kpx_7 rs_s5) (ru_add_bd K_2.2.2.2.2.2 _ _)
    have kq_9 : kp h h_5 (rs_L r dr rd) := kp_in kq_4 kpx_7 rs_s3
    show aw G 5 M 100 [.ref r, .int (cu_c f len s.1), .int 1, .int 0, .int 0] [] h_5 0 0
    refine aw_iload C dX3_parseLetter_100 rfl (q := 102) rfl ?_
    refine aw_iconst (v := (-1)) C dX3_parseLetter_102 (by decide) (q := 103) rfl ?_
    refine aw_icmp_ne (t := 110) (q := 106) C dX3_parseLetter_103 (by decide) rfl (fun c_103 => ?_) (fun c_103 => absurd c_103 (by decide))
    refine aw_iconst (v := 0) C dX3_parseLetter_110 (by decide) (q := 111) rfl ?_
    refine aw_iret C E dX3_parseLetter_111 (Nat.le_refl _) (Nat.le_refl _) ?_
    rw [show rs_let f len s = (0, s.1 + 1, s.2.1, ru_add s.2.2 (cu_c f len s.1) 0) from by unfold rs_let; rw [if_pos (Or.inl c_3)]]
    exact ⟨rfl, K_8, kq_9⟩
  ·
    refine aw_iload_n C dX3_parseLetter_6 rfl rfl (q := 7) rfl ?_
    refine aw_bipush (v := 119) C dX3_parseLetter_7 (by decide) (q := 9) rfl ?_
    refine aw_icmp_eq (t := 18) (q := 12) C dX3_parseLetter_9 (by decide) rfl (fun c_9 => ?_) (fun c_9 => ?_)
    ·
      refine aw_iconst (v := 1) C dX3_parseLetter_18 (by decide) (q := 19) rfl ?_
      refine aw_goto (q := 23) C dX3_parseLetter_19 (by decide) ?_
      refine aw_istore_n (ls' := [.ref r, .int (cu_c f len s.1), .int 1, .retAddr 0, .retAddr 0]) C dX3_parseLetter_23 rfl (by decide) rfl (q := 24) rfl ?_
      refine aw_iload_n C dX3_parseLetter_24 rfl rfl (q := 25) rfl ?_
      refine aw_bipush (v := 110) C dX3_parseLetter_25 (by decide) (q := 27) rfl ?_
      refine aw_icmp_eq (t := 48) (q := 30) C dX3_parseLetter_27 (by decide) rfl (fun c_27 => absurd c_27 (by rw [c_9]; decide)) (fun c_27 => ?_)
      refine aw_iload_n C dX3_parseLetter_30 rfl rfl (q := 31) rfl ?_
      refine aw_bipush (v := 97) C dX3_parseLetter_31 (by decide) (q := 33) rfl ?_
      refine aw_icmp_eq (t := 48) (q := 36) C dX3_parseLetter_33 (by decide) rfl (fun c_33 => absurd c_33 (by rw [c_9]; decide)) (fun c_33 => ?_)
      refine aw_iload_n C dX3_parseLetter_36 rfl rfl (q := 37) rfl ?_
      refine aw_bipush (v := 115) C dX3_parseLetter_37 (by decide) (q := 39) rfl ?_
      refine aw_icmp_eq (t := 48) (q := 42) C dX3_parseLetter_39 (by decide) rfl (fun c_39 => absurd c_39 (by rw [c_9]; decide)) (fun c_39 => ?_)
      refine aw_iload_n C dX3_parseLetter_42 rfl rfl (q := 43) rfl ?_
      refine aw_bipush (v := 101) C dX3_parseLetter_43 (by decide) (q := 45) rfl ?_
      refine aw_icmp_ne (t := 52) (q := 48) C dX3_parseLetter_45 (by decide) rfl (fun c_45 => ?_) (fun c_45 => absurd c_45 (by rw [c_9]; decide))
      refine aw_iconst (v := 0) C dX3_parseLetter_52 (by decide) (q := 53) rfl ?_
      refine aw_istore_n (ls' := [.ref r, .int (cu_c f len s.1), .int 1, .int 0, .retAddr 0]) C dX3_parseLetter_53 rfl (by decide) rfl (q := 54) rfl ?_
      refine aw_iload_n C dX3_parseLetter_54 rfl rfl (q := 55) rfl ?_
      refine aw_if_ne (t := 64) (q := 58) C dX3_parseLetter_55 (by decide) rfl (fun c_55 => ?_) (fun c_55 => absurd c_55 (by decide))
      have hl9 : s.1 < len := cu_c_in c_9 (by decide)
      refine aw_aload_n C dX3_parseLetter_64 rfl rfl (q := 65) rfl ?_
      refine aw_dup C dX3_parseLetter_65 rfl (q := 66) rfl ?_
      refine gfX3_40_3 (v := .int (nI s.1)) C dX3_parseLetter_66 K.1 rfl (q := 69) rfl ?_
      refine aw_iconst (v := 1) C dX3_parseLetter_69 (by decide) (q := 70) rfl ?_
      refine aw_iadd C dX3_parseLetter_70 (q := 71) rfl ?_
      rw [show nI s.1 + 1 = nI (s.1 + 1) from nI_1 _]
      refine pfX3_40_3 C dX3_parseLetter_71 K.1 rfl rfl (Nat.le_of_ble_eq_true rfl) (q := 74) rfl ?_
      show aw G 5 M 74 [.ref r, .int (cu_c f len s.1), .int 1, .int 0, .retAddr 0] [] (ac_up h r (.inr (3, [.ref u, .int (nI len), .int (nI (s.1 + 1)), .ref dr, .ref (rd 0)]))) 0 0
      obtain ⟨h_10, eh_10⟩ : ∃ z9, z9 = ac_up h r (.inr (3, [.ref u, .int (nI len), .int (nI (s.1 + 1)), .ref dr, .ref (rd 0)])) := ⟨_, rfl⟩
      rw [← eh_10]
      have kpx_12 : kp h h_10 [r] := by rw [eh_10]; exact kp_up (kp_cons r kp_rf) _ _ (by simp)
      have K_11 : rs_ok h_10 r u dr rd f len (s.1 + 1, s.2.1, s.2.2) := rs_at (s := (s.1, s.2.1, s.2.2)) K (by rw [eh_10]; exact ac_up_s _ _ _) kpx_12 (by omega)
      have kq_13 : kp h h_10 (rs_L r dr rd) := kp_mono kpx_12 rs_s1
      refine aw_iload_n C dX3_parseLetter_74 rfl rfl (q := 75) rfl ?_
      refine aw_if_eq (t := 87) (q := 78) C dX3_parseLetter_75 (by decide) rfl (fun c_75 => ?_) (fun c_75 => absurd c_75 (by decide))
      refine aw_iconst (v := 0) C dX3_parseLetter_87 (by decide) (q := 88) rfl ?_
      refine aw_istore (ls' := [.ref r, .int (cu_c f len s.1), .int 1, .int 0, .int 0]) C dX3_parseLetter_88 (by decide) rfl (q := 90) rfl ?_
      refine aw_aload_n C dX3_parseLetter_90 rfl rfl (q := 91) rfl ?_
      refine gfX3_20_3 (v := .ref (rd 0)) C dX3_parseLetter_91 K_11.1 rfl (q := 94) rfl ?_
      refine aw_iload_n C dX3_parseLetter_94 rfl rfl (q := 95) rfl ?_
      refine aw_iload C dX3_parseLetter_95 rfl (q := 97) rfl ?_
      refine cvX3_71_6 (As := [.int (cu_c f len s.1), .int 0]) (rest := []) C B dX3_parseLetter_97 K_11.2.2.2.1.1 (c_addStep G M.2.1 h_10 d rd s.2.2 hr K_11.2.2.2.1 K_11.2.2.2.2.2 (cu_c f len s.1) 0) rfl rfl (Nat.le_of_ble_eq_true rfl) (by omega) (by omega) (by omega) (q := 100) rfl (fun r9 h_14 hr9 => ?_)
      obtain ⟨er9, kx_15, kpx_16⟩ := hr9
      subst er9
      have K_17 : rs_ok h_14 r u dr rd f len (s.1 + 1, s.2.1, ru_add s.2.2 (cu_c f len s.1) 0) := rs_ru (s := (s.1 + 1, s.2.1, s.2.2)) K_11 kx_15 (kp_mono kpx_16 rs_s5) (ru_add_bd K_11.2.2.2.2.2 _ _)
      have kq_18 : kp h h_14 (rs_L r dr rd) := kp_in kq_13 kpx_16 rs_s3
      show aw G 5 M 100 [.ref r, .int (cu_c f len s.1), .int 1, .int 0, .int 0] [] h_14 0 0
      refine aw_iload C dX3_parseLetter_100 rfl (q := 102) rfl ?_
      refine aw_iconst (v := (-1)) C dX3_parseLetter_102 (by decide) (q := 103) rfl ?_
      refine aw_icmp_ne (t := 110) (q := 106) C dX3_parseLetter_103 (by decide) rfl (fun c_103 => ?_) (fun c_103 => absurd c_103 (by decide))
      refine aw_iconst (v := 0) C dX3_parseLetter_110 (by decide) (q := 111) rfl ?_
      refine aw_iret C E dX3_parseLetter_111 (Nat.le_refl _) (Nat.le_refl _) ?_
      rw [show rs_let f len s = (0, s.1 + 1, s.2.1, ru_add s.2.2 (cu_c f len s.1) 0) from by unfold rs_let; rw [if_pos (Or.inr (Or.inl c_9))]]
      exact ⟨rfl, K_17, kq_18⟩
    ·
      refine aw_iload_n C dX3_parseLetter_12 rfl rfl (q := 13) rfl ?_
      refine aw_bipush (v := 116) C dX3_parseLetter_13 (by decide) (q := 15) rfl ?_
      refine aw_icmp_ne (t := 22) (q := 18) C dX3_parseLetter_15 (by decide) rfl (fun c_15 => ?_) (fun c_15 => ?_)
      ·
        refine aw_iconst (v := 0) C dX3_parseLetter_22 (by decide) (q := 23) rfl ?_
        refine aw_istore_n (ls' := [.ref r, .int (cu_c f len s.1), .int 0, .retAddr 0, .retAddr 0]) C dX3_parseLetter_23 rfl (by decide) rfl (q := 24) rfl ?_
        refine aw_iload_n C dX3_parseLetter_24 rfl rfl (q := 25) rfl ?_
        refine aw_bipush (v := 110) C dX3_parseLetter_25 (by decide) (q := 27) rfl ?_
        refine aw_icmp_eq (t := 48) (q := 30) C dX3_parseLetter_27 (by decide) rfl (fun c_27 => ?_) (fun c_27 => ?_)
        ·
          refine aw_iconst (v := 1) C dX3_parseLetter_48 (by decide) (q := 49) rfl ?_
          refine aw_goto (q := 53) C dX3_parseLetter_49 (by decide) ?_
          refine aw_istore_n (ls' := [.ref r, .int (cu_c f len s.1), .int 0, .int 1, .retAddr 0]) C dX3_parseLetter_53 rfl (by decide) rfl (q := 54) rfl ?_
          refine aw_iload_n C dX3_parseLetter_54 rfl rfl (q := 55) rfl ?_
          refine aw_if_ne (t := 64) (q := 58) C dX3_parseLetter_55 (by decide) rfl (fun c_55 => absurd c_55 (by decide)) (fun c_55 => ?_)
          refine aw_iload_n C dX3_parseLetter_58 rfl rfl (q := 59) rfl ?_
          refine aw_if_ne (t := 64) (q := 62) C dX3_parseLetter_59 (by decide) rfl (fun c_59 => ?_) (fun c_59 => absurd c_59 (by decide))
          have hl9 : s.1 < len := cu_c_in c_27 (by decide)
          refine aw_aload_n C dX3_parseLetter_64 rfl rfl (q := 65) rfl ?_
          refine aw_dup C dX3_parseLetter_65 rfl (q := 66) rfl ?_
          refine gfX3_40_3 (v := .int (nI s.1)) C dX3_parseLetter_66 K.1 rfl (q := 69) rfl ?_
          refine aw_iconst (v := 1) C dX3_parseLetter_69 (by decide) (q := 70) rfl ?_
          refine aw_iadd C dX3_parseLetter_70 (q := 71) rfl ?_
          rw [show nI s.1 + 1 = nI (s.1 + 1) from nI_1 _]
          refine pfX3_40_3 C dX3_parseLetter_71 K.1 rfl rfl (Nat.le_of_ble_eq_true rfl) (q := 74) rfl ?_
          show aw G 5 M 74 [.ref r, .int (cu_c f len s.1), .int 0, .int 1, .retAddr 0] [] (ac_up h r (.inr (3, [.ref u, .int (nI len), .int (nI (s.1 + 1)), .ref dr, .ref (rd 0)]))) 0 0
          obtain ⟨h_19, eh_19⟩ : ∃ z9, z9 = ac_up h r (.inr (3, [.ref u, .int (nI len), .int (nI (s.1 + 1)), .ref dr, .ref (rd 0)])) := ⟨_, rfl⟩
          rw [← eh_19]
          have kpx_21 : kp h h_19 [r] := by rw [eh_19]; exact kp_up (kp_cons r kp_rf) _ _ (by simp)
          have K_20 : rs_ok h_19 r u dr rd f len (s.1 + 1, s.2.1, s.2.2) := rs_at (s := (s.1, s.2.1, s.2.2)) K (by rw [eh_19]; exact ac_up_s _ _ _) kpx_21 (by omega)
          have kq_22 : kp h h_19 (rs_L r dr rd) := kp_mono kpx_21 rs_s1
          refine aw_iload_n C dX3_parseLetter_74 rfl rfl (q := 75) rfl ?_
          refine aw_if_eq (t := 87) (q := 78) C dX3_parseLetter_75 (by decide) rfl (fun c_75 => absurd c_75 (by decide)) (fun c_75 => ?_)
          refine aw_aload_n C dX3_parseLetter_78 rfl rfl (q := 79) rfl ?_
          refine aw_bipush (v := 8) C dX3_parseLetter_79 (by decide) (q := 81) rfl ?_
          refine cvX3_58_3 (As := [.int 8]) (rest := []) C B dX3_parseLetter_81 K_20.1 (c_passDigit3 G M.2.1 h_19 d r u len (s.1 + 1) 300 f (.ref dr) (.ref (rd 0)) 8 K_20.1 K_20.2.1 hlen (by decide) (by have := K_20.2.2.2.2.1; omega) hf) rfl rfl (Nat.le_of_ble_eq_true rfl) (by omega) (by omega) (by omega) (q := 84) rfl (fun r9 h3 hr9 => ?_)
          obtain ⟨er9, fr3, kp3⟩ := hr9
          subst er9
          have kq3 : kp h h3 (rs_L r dr rd) := kp_in kq_22 kp3 rs_s1
          by_cases hd9 : cu_isd (cu_c f len (s.1 + 1)) 8
          ·
            rw [if_pos hd9] at fr3
            rw [if_pos hd9]
            have K3 : rs_ok h3 r u dr rd f len (s.1 + 1 + 1, s.2.1, s.2.2) := rs_at (s := (s.1 + 1, s.2.1, s.2.2)) K_20 fr3 kp3 (cu_isd_in hd9)
            show aw G 5 M 84 [.ref r, .int (cu_c f len s.1), .int 0, .int 1, .retAddr 0] [.int (cu_c f len (s.1 + 1) - 48)] h3 0 0
            refine aw_goto (q := 88) C dX3_parseLetter_84 (by decide) ?_
            refine aw_istore (ls' := [.ref r, .int (cu_c f len s.1), .int 0, .int 1, .int (cu_c f len (s.1 + 1) - 48)]) C dX3_parseLetter_88 (by decide) rfl (q := 90) rfl ?_
            refine aw_aload_n C dX3_parseLetter_90 rfl rfl (q := 91) rfl ?_
            refine gfX3_20_3 (v := .ref (rd 0)) C dX3_parseLetter_91 K3.1 rfl (q := 94) rfl ?_
            refine aw_iload_n C dX3_parseLetter_94 rfl rfl (q := 95) rfl ?_
            refine aw_iload C dX3_parseLetter_95 rfl (q := 97) rfl ?_
            refine cvX3_71_6 (As := [.int (cu_c f len s.1), .int (cu_c f len (s.1 + 1) - 48)]) (rest := []) C B dX3_parseLetter_97 K3.2.2.2.1.1 (c_addStep G M.2.1 h3 d rd s.2.2 hr K3.2.2.2.1 K3.2.2.2.2.2 (cu_c f len s.1) (cu_c f len (s.1 + 1) - 48)) rfl rfl (Nat.le_of_ble_eq_true rfl) (by omega) (by omega) (by omega) (q := 100) rfl (fun r9 h_23 hr9 => ?_)
            obtain ⟨er9, kx_24, kpx_25⟩ := hr9
            subst er9
            have K_26 : rs_ok h_23 r u dr rd f len (s.1 + 1 + 1, s.2.1, ru_add s.2.2 (cu_c f len s.1) (cu_c f len (s.1 + 1) - 48)) := rs_ru (s := (s.1 + 1 + 1, s.2.1, s.2.2)) K3 kx_24 (kp_mono kpx_25 rs_s5) (ru_add_bd K3.2.2.2.2.2 _ _)
            have kq_27 : kp h h_23 (rs_L r dr rd) := kp_in kq3 kpx_25 rs_s3
            show aw G 5 M 100 [.ref r, .int (cu_c f len s.1), .int 0, .int 1, .int (cu_c f len (s.1 + 1) - 48)] [] h_23 0 0
            refine aw_iload C dX3_parseLetter_100 rfl (q := 102) rfl ?_
            refine aw_iconst (v := (-1)) C dX3_parseLetter_102 (by decide) (q := 103) rfl ?_
            refine aw_icmp_ne (t := 110) (q := 106) C dX3_parseLetter_103 (by decide) rfl (fun c_103 => ?_) (fun c_103 => absurd c_103 (cu_isd_8 hd9))
            refine aw_iconst (v := 0) C dX3_parseLetter_110 (by decide) (q := 111) rfl ?_
            refine aw_iret C E dX3_parseLetter_111 (Nat.le_refl _) (Nat.le_refl _) ?_
            rw [show rs_let f len s = (0, s.1 + 1 + 1, s.2.1, ru_add s.2.2 (cu_c f len s.1) (cu_c f len (s.1 + 1) - 48)) from by unfold rs_let; rw [if_neg (by rintro (z | z | z); exact c_3 z; exact c_9 z; exact c_15 z), if_pos (Or.inl c_27), if_pos hd9]]
            exact ⟨rfl, K_26, kq_27⟩
          ·
            rw [if_neg hd9] at fr3
            rw [if_neg hd9]
            have K3 : rs_ok h3 r u dr rd f len (s.1 + 1, s.2.1, s.2.2) := rs_at (s := (s.1 + 1, s.2.1, s.2.2)) K_20 fr3 kp3 K_20.2.2.2.2.1
            show aw G 5 M 84 [.ref r, .int (cu_c f len s.1), .int 0, .int 1, .retAddr 0] [.int ((-1))] h3 0 0
            refine aw_goto (q := 88) C dX3_parseLetter_84 (by decide) ?_
            refine aw_istore (ls' := [.ref r, .int (cu_c f len s.1), .int 0, .int 1, .int ((-1))]) C dX3_parseLetter_88 (by decide) rfl (q := 90) rfl ?_
            refine aw_aload_n C dX3_parseLetter_90 rfl rfl (q := 91) rfl ?_
            refine gfX3_20_3 (v := .ref (rd 0)) C dX3_parseLetter_91 K3.1 rfl (q := 94) rfl ?_
            refine aw_iload_n C dX3_parseLetter_94 rfl rfl (q := 95) rfl ?_
            refine aw_iload C dX3_parseLetter_95 rfl (q := 97) rfl ?_
            refine cvX3_71_6 (As := [.int (cu_c f len s.1), .int ((-1))]) (rest := []) C B dX3_parseLetter_97 K3.2.2.2.1.1 (c_addStep G M.2.1 h3 d rd s.2.2 hr K3.2.2.2.1 K3.2.2.2.2.2 (cu_c f len s.1) ((-1))) rfl rfl (Nat.le_of_ble_eq_true rfl) (by omega) (by omega) (by omega) (q := 100) rfl (fun r9 h_28 hr9 => ?_)
            obtain ⟨er9, kx_29, kpx_30⟩ := hr9
            subst er9
            have K_31 : rs_ok h_28 r u dr rd f len (s.1 + 1, s.2.1, ru_add s.2.2 (cu_c f len s.1) ((-1))) := rs_ru (s := (s.1 + 1, s.2.1, s.2.2)) K3 kx_29 (kp_mono kpx_30 rs_s5) (ru_add_bd K3.2.2.2.2.2 _ _)
            have kq_32 : kp h h_28 (rs_L r dr rd) := kp_in kq3 kpx_30 rs_s3
            show aw G 5 M 100 [.ref r, .int (cu_c f len s.1), .int 0, .int 1, .int ((-1))] [] h_28 0 0
            refine aw_iload C dX3_parseLetter_100 rfl (q := 102) rfl ?_
            refine aw_iconst (v := (-1)) C dX3_parseLetter_102 (by decide) (q := 103) rfl ?_
            refine aw_icmp_ne (t := 110) (q := 106) C dX3_parseLetter_103 (by decide) rfl (fun c_103 => absurd c_103 (by decide)) (fun c_103 => ?_)
            refine aw_iconst (v := (-1)) C dX3_parseLetter_106 (by decide) (q := 107) rfl ?_
            refine aw_goto (q := 111) C dX3_parseLetter_107 (by decide) ?_
            refine aw_iret C E dX3_parseLetter_111 (Nat.le_refl _) (Nat.le_refl _) ?_
            rw [show rs_let f len s = (-1, s.1 + 1, s.2.1, ru_add s.2.2 (cu_c f len s.1) (-1)) from by unfold rs_let; rw [if_neg (by rintro (z | z | z); exact c_3 z; exact c_9 z; exact c_15 z), if_pos (Or.inl c_27), if_neg hd9]]
            exact ⟨rfl, K_31, kq_32⟩
        ·
          refine aw_iload_n C dX3_parseLetter_30 rfl rfl (q := 31) rfl ?_
          refine aw_bipush (v := 97) C dX3_parseLetter_31 (by decide) (q := 33) rfl ?_
          refine aw_icmp_eq (t := 48) (q := 36) C dX3_parseLetter_33 (by decide) rfl (fun c_33 => ?_) (fun c_33 => ?_)
          ·
            refine aw_iconst (v := 1) C dX3_parseLetter_48 (by decide) (q := 49) rfl ?_
            refine aw_goto (q := 53) C dX3_parseLetter_49 (by decide) ?_
            refine aw_istore_n (ls' := [.ref r, .int (cu_c f len s.1), .int 0, .int 1, .retAddr 0]) C dX3_parseLetter_53 rfl (by decide) rfl (q := 54) rfl ?_
            refine aw_iload_n C dX3_parseLetter_54 rfl rfl (q := 55) rfl ?_
            refine aw_if_ne (t := 64) (q := 58) C dX3_parseLetter_55 (by decide) rfl (fun c_55 => absurd c_55 (by decide)) (fun c_55 => ?_)
            refine aw_iload_n C dX3_parseLetter_58 rfl rfl (q := 59) rfl ?_
            refine aw_if_ne (t := 64) (q := 62) C dX3_parseLetter_59 (by decide) rfl (fun c_59 => ?_) (fun c_59 => absurd c_59 (by decide))
            have hl9 : s.1 < len := cu_c_in c_33 (by decide)
            refine aw_aload_n C dX3_parseLetter_64 rfl rfl (q := 65) rfl ?_
            refine aw_dup C dX3_parseLetter_65 rfl (q := 66) rfl ?_
            refine gfX3_40_3 (v := .int (nI s.1)) C dX3_parseLetter_66 K.1 rfl (q := 69) rfl ?_
            refine aw_iconst (v := 1) C dX3_parseLetter_69 (by decide) (q := 70) rfl ?_
            refine aw_iadd C dX3_parseLetter_70 (q := 71) rfl ?_
            rw [show nI s.1 + 1 = nI (s.1 + 1) from nI_1 _]
            refine pfX3_40_3 C dX3_parseLetter_71 K.1 rfl rfl (Nat.le_of_ble_eq_true rfl) (q := 74) rfl ?_
            show aw G 5 M 74 [.ref r, .int (cu_c f len s.1), .int 0, .int 1, .retAddr 0] [] (ac_up h r (.inr (3, [.ref u, .int (nI len), .int (nI (s.1 + 1)), .ref dr, .ref (rd 0)]))) 0 0
            obtain ⟨h_33, eh_33⟩ : ∃ z9, z9 = ac_up h r (.inr (3, [.ref u, .int (nI len), .int (nI (s.1 + 1)), .ref dr, .ref (rd 0)])) := ⟨_, rfl⟩
            rw [← eh_33]
            have kpx_35 : kp h h_33 [r] := by rw [eh_33]; exact kp_up (kp_cons r kp_rf) _ _ (by simp)
            have K_34 : rs_ok h_33 r u dr rd f len (s.1 + 1, s.2.1, s.2.2) := rs_at (s := (s.1, s.2.1, s.2.2)) K (by rw [eh_33]; exact ac_up_s _ _ _) kpx_35 (by omega)
            have kq_36 : kp h h_33 (rs_L r dr rd) := kp_mono kpx_35 rs_s1
            refine aw_iload_n C dX3_parseLetter_74 rfl rfl (q := 75) rfl ?_
            refine aw_if_eq (t := 87) (q := 78) C dX3_parseLetter_75 (by decide) rfl (fun c_75 => absurd c_75 (by decide)) (fun c_75 => ?_)
            refine aw_aload_n C dX3_parseLetter_78 rfl rfl (q := 79) rfl ?_
            refine aw_bipush (v := 8) C dX3_parseLetter_79 (by decide) (q := 81) rfl ?_
            refine cvX3_58_3 (As := [.int 8]) (rest := []) C B dX3_parseLetter_81 K_34.1 (c_passDigit3 G M.2.1 h_33 d r u len (s.1 + 1) 300 f (.ref dr) (.ref (rd 0)) 8 K_34.1 K_34.2.1 hlen (by decide) (by have := K_34.2.2.2.2.1; omega) hf) rfl rfl (Nat.le_of_ble_eq_true rfl) (by omega) (by omega) (by omega) (q := 84) rfl (fun r9 h3 hr9 => ?_)
            obtain ⟨er9, fr3, kp3⟩ := hr9
            subst er9
            have kq3 : kp h h3 (rs_L r dr rd) := kp_in kq_36 kp3 rs_s1
            by_cases hd9 : cu_isd (cu_c f len (s.1 + 1)) 8
            ·
              rw [if_pos hd9] at fr3
              rw [if_pos hd9]
              have K3 : rs_ok h3 r u dr rd f len (s.1 + 1 + 1, s.2.1, s.2.2) := rs_at (s := (s.1 + 1, s.2.1, s.2.2)) K_34 fr3 kp3 (cu_isd_in hd9)
              show aw G 5 M 84 [.ref r, .int (cu_c f len s.1), .int 0, .int 1, .retAddr 0] [.int (cu_c f len (s.1 + 1) - 48)] h3 0 0
              refine aw_goto (q := 88) C dX3_parseLetter_84 (by decide) ?_
              refine aw_istore (ls' := [.ref r, .int (cu_c f len s.1), .int 0, .int 1, .int (cu_c f len (s.1 + 1) - 48)]) C dX3_parseLetter_88 (by decide) rfl (q := 90) rfl ?_
              refine aw_aload_n C dX3_parseLetter_90 rfl rfl (q := 91) rfl ?_
              refine gfX3_20_3 (v := .ref (rd 0)) C dX3_parseLetter_91 K3.1 rfl (q := 94) rfl ?_
              refine aw_iload_n C dX3_parseLetter_94 rfl rfl (q := 95) rfl ?_
              refine aw_iload C dX3_parseLetter_95 rfl (q := 97) rfl ?_
              refine cvX3_71_6 (As := [.int (cu_c f len s.1), .int (cu_c f len (s.1 + 1) - 48)]) (rest := []) C B dX3_parseLetter_97 K3.2.2.2.1.1 (c_addStep G M.2.1 h3 d rd s.2.2 hr K3.2.2.2.1 K3.2.2.2.2.2 (cu_c f len s.1) (cu_c f len (s.1 + 1) - 48)) rfl rfl (Nat.le_of_ble_eq_true rfl) (by omega) (by omega) (by omega) (q := 100) rfl (fun r9 h_37 hr9 => ?_)
              obtain ⟨er9, kx_38, kpx_39⟩ := hr9
              subst er9
              have K_40 : rs_ok h_37 r u dr rd f len (s.1 + 1 + 1, s.2.1, ru_add s.2.2 (cu_c f len s.1) (cu_c f len (s.1 + 1) - 48)) := rs_ru (s := (s.1 + 1 + 1, s.2.1, s.2.2)) K3 kx_38 (kp_mono kpx_39 rs_s5) (ru_add_bd K3.2.2.2.2.2 _ _)
              have kq_41 : kp h h_37 (rs_L r dr rd) := kp_in kq3 kpx_39 rs_s3
              show aw G 5 M 100 [.ref r, .int (cu_c f len s.1), .int 0, .int 1, .int (cu_c f len (s.1 + 1) - 48)] [] h_37 0 0
              refine aw_iload C dX3_parseLetter_100 rfl (q := 102) rfl ?_
              refine aw_iconst (v := (-1)) C dX3_parseLetter_102 (by decide) (q := 103) rfl ?_
              refine aw_icmp_ne (t := 110) (q := 106) C dX3_parseLetter_103 (by decide) rfl (fun c_103 => ?_) (fun c_103 => absurd c_103 (cu_isd_8 hd9))
              refine aw_iconst (v := 0) C dX3_parseLetter_110 (by decide) (q := 111) rfl ?_
              refine aw_iret C E dX3_parseLetter_111 (Nat.le_refl _) (Nat.le_refl _) ?_
              rw [show rs_let f len s = (0, s.1 + 1 + 1, s.2.1, ru_add s.2.2 (cu_c f len s.1) (cu_c f len (s.1 + 1) - 48)) from by unfold rs_let; rw [if_neg (by rintro (z | z | z); exact c_3 z; exact c_9 z; exact c_15 z), if_pos (Or.inr (Or.inl c_33)), if_pos hd9]]
              exact ⟨rfl, K_40, kq_41⟩
            ·
              rw [if_neg hd9] at fr3
              rw [if_neg hd9]
              have K3 : rs_ok h3 r u dr rd f len (s.1 + 1, s.2.1, s.2.2) := rs_at (s := (s.1 + 1, s.2.1, s.2.2)) K_34 fr3 kp3 K_34.2.2.2.2.1
              show aw G 5 M 84 [.ref r, .int (cu_c f len s.1), .int 0, .int 1, .retAddr 0] [.int ((-1))] h3 0 0
              refine aw_goto (q := 88) C dX3_parseLetter_84 (by decide) ?_
              refine aw_istore (ls' := [.ref r, .int (cu_c f len s.1), .int 0, .int 1, .int ((-1))]) C dX3_parseLetter_88 (by decide) rfl (q := 90) rfl ?_
              refine aw_aload_n C dX3_parseLetter_90 rfl rfl (q := 91) rfl ?_
              refine gfX3_20_3 (v := .ref (rd 0)) C dX3_parseLetter_91 K3.1 rfl (q := 94) rfl ?_
              refine aw_iload_n C dX3_parseLetter_94 rfl rfl (q := 95) rfl ?_
              refine aw_iload C dX3_parseLetter_95 rfl (q := 97) rfl ?_
              refine cvX3_71_6 (As := [.int (cu_c f len s.1), .int ((-1))]) (rest := []) C B dX3_parseLetter_97 K3.2.2.2.1.1 (c_addStep G M.2.1 h3 d rd s.2.2 hr K3.2.2.2.1 K3.2.2.2.2.2 (cu_c f len s.1) ((-1))) rfl rfl (Nat.le_of_ble_eq_true rfl) (by omega) (by omega) (by omega) (q := 100) rfl (fun r9 h_42 hr9 => ?_)
              obtain ⟨er9, kx_43, kpx_44⟩ := hr9
              subst er9
              have K_45 : rs_ok h_42 r u dr rd f len (s.1 + 1, s.2.1, ru_add s.2.2 (cu_c f len s.1) ((-1))) := rs_ru (s := (s.1 + 1, s.2.1, s.2.2)) K3 kx_43 (kp_mono kpx_44 rs_s5) (ru_add_bd K3.2.2.2.2.2 _ _)
              have kq_46 : kp h h_42 (rs_L r dr rd) := kp_in kq3 kpx_44 rs_s3
              show aw G 5 M 100 [.ref r, .int (cu_c f len s.1), .int 0, .int 1, .int ((-1))] [] h_42 0 0
              refine aw_iload C dX3_parseLetter_100 rfl (q := 102) rfl ?_
              refine aw_iconst (v := (-1)) C dX3_parseLetter_102 (by decide) (q := 103) rfl ?_
              refine aw_icmp_ne (t := 110) (q := 106) C dX3_parseLetter_103 (by decide) rfl (fun c_103 => absurd c_103 (by decide)) (fun c_103 => ?_)
              refine aw_iconst (v := (-1)) C dX3_parseLetter_106 (by decide) (q := 107) rfl ?_
              refine aw_goto (q := 111) C dX3_parseLetter_107 (by decide) ?_
              refine aw_iret C E dX3_parseLetter_111 (Nat.le_refl _) (Nat.le_refl _) ?_
              rw [show rs_let f len s = (-1, s.1 + 1, s.2.1, ru_add s.2.2 (cu_c f len s.1) (-1)) from by unfold rs_let; rw [if_neg (by rintro (z | z | z); exact c_3 z; exact c_9 z; exact c_15 z), if_pos (Or.inr (Or.inl c_33)), if_neg hd9]]
              exact ⟨rfl, K_45, kq_46⟩
          ·
            refine aw_iload_n C dX3_parseLetter_36 rfl rfl (q := 37) rfl ?_
            refine aw_bipush (v := 115) C dX3_parseLetter_37 (by decide) (q := 39) rfl ?_
            refine aw_icmp_eq (t := 48) (q := 42) C dX3_parseLetter_39 (by decide) rfl (fun c_39 => ?_) (fun c_39 => ?_)
            ·
              refine aw_iconst (v := 1) C dX3_parseLetter_48 (by decide) (q := 49) rfl ?_
              refine aw_goto (q := 53) C dX3_parseLetter_49 (by decide) ?_
              refine aw_istore_n (ls' := [.ref r, .int (cu_c f len s.1), .int 0, .int 1, .retAddr 0]) C dX3_parseLetter_53 rfl (by decide) rfl (q := 54) rfl ?_
              refine aw_iload_n C dX3_parseLetter_54 rfl rfl (q := 55) rfl ?_
              refine aw_if_ne (t := 64) (q := 58) C dX3_parseLetter_55 (by decide) rfl (fun c_55 => absurd c_55 (by decide)) (fun c_55 => ?_)
              refine aw_iload_n C dX3_parseLetter_58 rfl rfl (q := 59) rfl ?_
              refine aw_if_ne (t := 64) (q := 62) C dX3_parseLetter_59 (by decide) rfl (fun c_59 => ?_) (fun c_59 => absurd c_59 (by decide))
              have hl9 : s.1 < len := cu_c_in c_39 (by decide)
              refine aw_aload_n C dX3_parseLetter_64 rfl rfl (q := 65) rfl ?_
              refine aw_dup C dX3_parseLetter_65 rfl (q := 66) rfl ?_
              refine gfX3_40_3 (v := .int (nI s.1)) C dX3_parseLetter_66 K.1 rfl (q := 69) rfl ?_
              refine aw_iconst (v := 1) C dX3_parseLetter_69 (by decide) (q := 70) rfl ?_
              refine aw_iadd C dX3_parseLetter_70 (q := 71) rfl ?_
              rw [show nI s.1 + 1 = nI (s.1 + 1) from nI_1 _]
              refine pfX3_40_3 C dX3_parseLetter_71 K.1 rfl rfl (Nat.le_of_ble_eq_true rfl) (q := 74) rfl ?_
              show aw G 5 M 74 [.ref r, .int (cu_c f len s.1), .int 0, .int 1, .retAddr 0] [] (ac_up h r (.inr (3, [.ref u, .int (nI len), .int (nI (s.1 + 1)), .ref dr, .ref (rd 0)]))) 0 0
              obtain ⟨h_47, eh_47⟩ : ∃ z9, z9 = ac_up h r (.inr (3, [.ref u, .int (nI len), .int (nI (s.1 + 1)), .ref dr, .ref (rd 0)])) := ⟨_, rfl⟩
              rw [← eh_47]
              have kpx_49 : kp h h_47 [r] := by rw [eh_47]; exact kp_up (kp_cons r kp_rf) _ _ (by simp)
              have K_48 : rs_ok h_47 r u dr rd f len (s.1 + 1, s.2.1, s.2.2) := rs_at (s := (s.1, s.2.1, s.2.2)) K (by rw [eh_47]; exact ac_up_s _ _ _) kpx_49 (by omega)
              have kq_50 : kp h h_47 (rs_L r dr rd) := kp_mono kpx_49 rs_s1
              refine aw_iload_n C dX3_parseLetter_74 rfl rfl (q := 75) rfl ?_
              refine aw_if_eq (t := 87) (q := 78) C dX3_parseLetter_75 (by decide) rfl (fun c_75 => absurd c_75 (by decide)) (fun c_75 => ?_)
              refine aw_aload_n C dX3_parseLetter_78 rfl rfl (q := 79) rfl ?_
              refine aw_bipush (v := 8) C dX3_parseLetter_79 (by decide) (q := 81) rfl ?_
              refine cvX3_58_3 (As := [.int 8]) (rest := []) C B dX3_parseLetter_81 K_48.1 (c_passDigit3 G M.2.1 h_47 d r u len (s.1 + 1) 300 f (.ref dr) (.ref (rd 0)) 8 K_48.1 K_48.2.1 hlen (by decide) (by have := K_48.2.2.2.2.1; omega) hf) rfl rfl (Nat.le_of_ble_eq_true rfl) (by omega) (by omega) (by omega) (q := 84) rfl (fun r9 h3 hr9 => ?_)
              obtain ⟨er9, fr3, kp3⟩ := hr9
              subst er9
              have kq3 : kp h h3 (rs_L r dr rd) := kp_in kq_50 kp3 rs_s1
              by_cases hd9 : cu_isd (cu_c f len (s.1 + 1)) 8
              ·
                rw [if_pos hd9] at fr3
                rw [if_pos hd9]
                have K3 : rs_ok h3 r u dr rd f len (s.1 + 1 + 1, s.2.1, s.2.2) := rs_at (s := (s.1 + 1, s.2.1, s.2.2)) K_48 fr3 kp3 (cu_isd_in hd9)
                show aw G 5 M 84 [.ref r, .int (cu_c f len s.1), .int 0, .int 1, .retAddr 0] [.int (cu_c f len (s.1 + 1) - 48)] h3 0 0
                refine aw_goto (q := 88) C dX3_parseLetter_84 (by decide) ?_
                refine aw_istore (ls' := [.ref r, .int (cu_c f len s.1), .int 0, .int 1, .int (cu_c f len (s.1 + 1) - 48)]) C dX3_parseLetter_88 (by decide) rfl (q := 90) rfl ?_
                refine aw_aload_n C dX3_parseLetter_90 rfl rfl (q := 91) rfl ?_
                refine gfX3_20_3 (v := .ref (rd 0)) C dX3_parseLetter_91 K3.1 rfl (q := 94) rfl ?_
                refine aw_iload_n C dX3_parseLetter_94 rfl rfl (q := 95) rfl ?_
                refine aw_iload C dX3_parseLetter_95 rfl (q := 97) rfl ?_
                refine cvX3_71_6 (As := [.int (cu_c f len s.1), .int (cu_c f len (s.1 + 1) - 48)]) (rest := []) C B dX3_parseLetter_97 K3.2.2.2.1.1 (c_addStep G M.2.1 h3 d rd s.2.2 hr K3.2.2.2.1 K3.2.2.2.2.2 (cu_c f len s.1) (cu_c f len (s.1 + 1) - 48)) rfl rfl (Nat.le_of_ble_eq_true rfl) (by omega) (by omega) (by omega) (q := 100) rfl (fun r9 h_51 hr9 => ?_)
                obtain ⟨er9, kx_52, kpx_53⟩ := hr9
                subst er9
                have K_54 : rs_ok h_51 r u dr rd f len (s.1 + 1 + 1, s.2.1, ru_add s.2.2 (cu_c f len s.1) (cu_c f len (s.1 + 1) - 48)) := rs_ru (s := (s.1 + 1 + 1, s.2.1, s.2.2)) K3 kx_52 (kp_mono kpx_53 rs_s5) (ru_add_bd K3.2.2.2.2.2 _ _)
                have kq_55 : kp h h_51 (rs_L r dr rd) := kp_in kq3 kpx_53 rs_s3
                show aw G 5 M 100 [.ref r, .int (cu_c f len s.1), .int 0, .int 1, .int (cu_c f len (s.1 + 1) - 48)] [] h_51 0 0
                refine aw_iload C dX3_parseLetter_100 rfl (q := 102) rfl ?_
                refine aw_iconst (v := (-1)) C dX3_parseLetter_102 (by decide) (q := 103) rfl ?_
                refine aw_icmp_ne (t := 110) (q := 106) C dX3_parseLetter_103 (by decide) rfl (fun c_103 => ?_) (fun c_103 => absurd c_103 (cu_isd_8 hd9))
                refine aw_iconst (v := 0) C dX3_parseLetter_110 (by decide) (q := 111) rfl ?_
                refine aw_iret C E dX3_parseLetter_111 (Nat.le_refl _) (Nat.le_refl _) ?_
                rw [show rs_let f len s = (0, s.1 + 1 + 1, s.2.1, ru_add s.2.2 (cu_c f len s.1) (cu_c f len (s.1 + 1) - 48)) from by unfold rs_let; rw [if_neg (by rintro (z | z | z); exact c_3 z; exact c_9 z; exact c_15 z), if_pos (Or.inr (Or.inr (Or.inl c_39))), if_pos hd9]]
                exact ⟨rfl, K_54, kq_55⟩
              ·
                rw [if_neg hd9] at fr3
                rw [if_neg hd9]
                have K3 : rs_ok h3 r u dr rd f len (s.1 + 1, s.2.1, s.2.2) := rs_at (s := (s.1 + 1, s.2.1, s.2.2)) K_48 fr3 kp3 K_48.2.2.2.2.1
                show aw G 5 M 84 [.ref r, .int (cu_c f len s.1), .int 0, .int 1, .retAddr 0] [.int ((-1))] h3 0 0
                refine aw_goto (q := 88) C dX3_parseLetter_84 (by decide) ?_
                refine aw_istore (ls' := [.ref r, .int (cu_c f len s.1), .int 0, .int 1, .int ((-1))]) C dX3_parseLetter_88 (by decide) rfl (q := 90) rfl ?_
                refine aw_aload_n C dX3_parseLetter_90 rfl rfl (q := 91) rfl ?_
                refine gfX3_20_3 (v := .ref (rd 0)) C dX3_parseLetter_91 K3.1 rfl (q := 94) rfl ?_
                refine aw_iload_n C dX3_parseLetter_94 rfl rfl (q := 95) rfl ?_
                refine aw_iload C dX3_parseLetter_95 rfl (q := 97) rfl ?_
                refine cvX3_71_6 (As := [.int (cu_c f len s.1), .int ((-1))]) (rest := []) C B dX3_parseLetter_97 K3.2.2.2.1.1 (c_addStep G M.2.1 h3 d rd s.2.2 hr K3.2.2.2.1 K3.2.2.2.2.2 (cu_c f len s.1) ((-1))) rfl rfl (Nat.le_of_ble_eq_true rfl) (by omega) (by omega) (by omega) (q := 100) rfl (fun r9 h_56 hr9 => ?_)
                obtain ⟨er9, kx_57, kpx_58⟩ := hr9
                subst er9
                have K_59 : rs_ok h_56 r u dr rd f len (s.1 + 1, s.2.1, ru_add s.2.2 (cu_c f len s.1) ((-1))) := rs_ru (s := (s.1 + 1, s.2.1, s.2.2)) K3 kx_57 (kp_mono kpx_58 rs_s5) (ru_add_bd K3.2.2.2.2.2 _ _)
                have kq_60 : kp h h_56 (rs_L r dr rd) := kp_in kq3 kpx_58 rs_s3
                show aw G 5 M 100 [.ref r, .int (cu_c f len s.1), .int 0, .int 1, .int ((-1))] [] h_56 0 0
                refine aw_iload C dX3_parseLetter_100 rfl (q := 102) rfl ?_
                refine aw_iconst (v := (-1)) C dX3_parseLetter_102 (by decide) (q := 103) rfl ?_
                refine aw_icmp_ne (t := 110) (q := 106) C dX3_parseLetter_103 (by decide) rfl (fun c_103 => absurd c_103 (by decide)) (fun c_103 => ?_)
                refine aw_iconst (v := (-1)) C dX3_parseLetter_106 (by decide) (q := 107) rfl ?_
                refine aw_goto (q := 111) C dX3_parseLetter_107 (by decide) ?_
                refine aw_iret C E dX3_parseLetter_111 (Nat.le_refl _) (Nat.le_refl _) ?_
                rw [show rs_let f len s = (-1, s.1 + 1, s.2.1, ru_add s.2.2 (cu_c f len s.1) (-1)) from by unfold rs_let; rw [if_neg (by rintro (z | z | z); exact c_3 z; exact c_9 z; exact c_15 z), if_pos (Or.inr (Or.inr (Or.inl c_39))), if_neg hd9]]
                exact ⟨rfl, K_59, kq_60⟩
            ·
              refine aw_iload_n C dX3_parseLetter_42 rfl rfl (q := 43) rfl ?_
              refine aw_bipush (v := 101) C dX3_parseLetter_43 (by decide) (q := 45) rfl ?_
              refine aw_icmp_ne (t := 52) (q := 48) C dX3_parseLetter_45 (by decide) rfl (fun c_45 => ?_) (fun c_45 => ?_)
              ·
                refine aw_iconst (v := 0) C dX3_parseLetter_52 (by decide) (q := 53) rfl ?_
                refine aw_istore_n (ls' := [.ref r, .int (cu_c f len s.1), .int 0, .int 0, .retAddr 0]) C dX3_parseLetter_53 rfl (by decide) rfl (q := 54) rfl ?_
                refine aw_iload_n C dX3_parseLetter_54 rfl rfl (q := 55) rfl ?_
                refine aw_if_ne (t := 64) (q := 58) C dX3_parseLetter_55 (by decide) rfl (fun c_55 => absurd c_55 (by decide)) (fun c_55 => ?_)
                refine aw_iload_n C dX3_parseLetter_58 rfl rfl (q := 59) rfl ?_
                refine aw_if_ne (t := 64) (q := 62) C dX3_parseLetter_59 (by decide) rfl (fun c_59 => absurd c_59 (by decide)) (fun c_59 => ?_)
                refine aw_iconst (v := (-1)) C dX3_parseLetter_62 (by decide) (q := 63) rfl ?_
                refine aw_iret C E dX3_parseLetter_63 (Nat.le_refl _) (Nat.le_refl _) ?_
                rw [show rs_let f len s = (-1, s) from by unfold rs_let; rw [if_neg (by rintro (z | z | z); exact c_3 z; exact c_9 z; exact c_15 z), if_neg (by rintro (z | z | z | z); exact c_27 z; exact c_33 z; exact c_39 z; exact c_45 z)]]
                exact ⟨rfl, K, kp_mono kp_rf (by simp)⟩
              ·
                refine aw_iconst (v := 1) C dX3_parseLetter_48 (by decide) (q := 49) rfl ?_
                refine aw_goto (q := 53) C dX3_parseLetter_49 (by decide) ?_
                refine aw_istore_n (ls' := [.ref r, .int (cu_c f len s.1), .int 0, .int 1, .retAddr 0]) C dX3_parseLetter_53 rfl (by decide) rfl (q := 54) rfl ?_
                refine aw_iload_n C dX3_parseLetter_54 rfl rfl (q := 55) rfl ?_
                refine aw_if_ne (t := 64) (q := 58) C dX3_parseLetter_55 (by decide) rfl (fun c_55 => absurd c_55 (by decide)) (fun c_55 => ?_)
                refine aw_iload_n C dX3_parseLetter_58 rfl rfl (q := 59) rfl ?_
                refine aw_if_ne (t := 64) (q := 62) C dX3_parseLetter_59 (by decide) rfl (fun c_59 => ?_) (fun c_59 => absurd c_59 (by decide))
                have hl9 : s.1 < len := cu_c_in c_45 (by decide)
                refine aw_aload_n C dX3_parseLetter_64 rfl rfl (q := 65) rfl ?_
                refine aw_dup C dX3_parseLetter_65 rfl (q := 66) rfl ?_
                refine gfX3_40_3 (v := .int (nI s.1)) C dX3_parseLetter_66 K.1 rfl (q := 69) rfl ?_
                refine aw_iconst (v := 1) C dX3_parseLetter_69 (by decide) (q := 70) rfl ?_
                refine aw_iadd C dX3_parseLetter_70 (q := 71) rfl ?_
                rw [show nI s.1 + 1 = nI (s.1 + 1) from nI_1 _]
                refine pfX3_40_3 C dX3_parseLetter_71 K.1 rfl rfl (Nat.le_of_ble_eq_true rfl) (q := 74) rfl ?_
                show aw G 5 M 74 [.ref r, .int (cu_c f len s.1), .int 0, .int 1, .retAddr 0] [] (ac_up h r (.inr (3, [.ref u, .int (nI len), .int (nI (s.1 + 1)), .ref dr, .ref (rd 0)]))) 0 0
                obtain ⟨h_61, eh_61⟩ : ∃ z9, z9 = ac_up h r (.inr (3, [.ref u, .int (nI len), .int (nI (s.1 + 1)), .ref dr, .ref (rd 0)])) := ⟨_, rfl⟩
                rw [← eh_61]
                have kpx_63 : kp h h_61 [r] := by rw [eh_61]; exact kp_up (kp_cons r kp_rf) _ _ (by simp)
                have K_62 : rs_ok h_61 r u dr rd f len (s.1 + 1, s.2.1, s.2.2) := rs_at (s := (s.1, s.2.1, s.2.2)) K (by rw [eh_61]; exact ac_up_s _ _ _) kpx_63 (by omega)
                have kq_64 : kp h h_61 (rs_L r dr rd) := kp_mono kpx_63 rs_s1
                refine aw_iload_n C dX3_parseLetter_74 rfl rfl (q := 75) rfl ?_
                refine aw_if_eq (t := 87) (q := 78) C dX3_parseLetter_75 (by decide) rfl (fun c_75 => absurd c_75 (by decide)) (fun c_75 => ?_)
                refine aw_aload_n C dX3_parseLetter_78 rfl rfl (q := 79) rfl ?_
                refine aw_bipush (v := 8) C dX3_parseLetter_79 (by decide) (q := 81) rfl ?_
                refine cvX3_58_3 (As := [.int 8]) (rest := []) C B dX3_parseLetter_81 K_62.1 (c_passDigit3 G M.2.1 h_61 d r u len (s.1 + 1) 300 f (.ref dr) (.ref (rd 0)) 8 K_62.1 K_62.2.1 hlen (by decide) (by have := K_62.2.2.2.2.1; omega) hf) rfl rfl (Nat.le_of_ble_eq_true rfl) (by omega) (by omega) (by omega) (q := 84) rfl (fun r9 h3 hr9 => ?_)
                obtain ⟨er9, fr3, kp3⟩ := hr9
                subst er9
                have kq3 : kp h h3 (rs_L r dr rd) := kp_in kq_64 kp3 rs_s1
                by_cases hd9 : cu_isd (cu_c f len (s.1 + 1)) 8
                ·
                  rw [if_pos hd9] at fr3
                  rw [if_pos hd9]
                  have K3 : rs_ok h3 r u dr rd f len (s.1 + 1 + 1, s.2.1, s.2.2) := rs_at (s := (s.1 + 1, s.2.1, s.2.2)) K_62 fr3 kp3 (cu_isd_in hd9)
                  show aw G 5 M 84 [.ref r, .int (cu_c f len s.1), .int 0, .int 1, .retAddr 0] [.int (cu_c f len (s.1 + 1) - 48)] h3 0 0
                  refine aw_goto (q := 88) C dX3_parseLetter_84 (by decide) ?_
                  refine aw_istore (ls' := [.ref r, .int (cu_c f len s.1), .int 0, .int 1, .int (cu_c f len (s.1 + 1) - 48)]) C dX3_parseLetter_88 (by decide) rfl (q := 90) rfl ?_
                  refine aw_aload_n C dX3_parseLetter_90 rfl rfl (q := 91) rfl ?_
                  refine gfX3_20_3 (v := .ref (rd 0)) C dX3_parseLetter_91 K3.1 rfl (q := 94) rfl ?_
                  refine aw_iload_n C dX3_parseLetter_94 rfl rfl (q := 95) rfl ?_
                  refine aw_iload C dX3_parseLetter_95 rfl (q := 97) rfl ?_
                  refine cvX3_71_6 (As := [.int (cu_c f len s.1), .int (cu_c f len (s.1 + 1) - 48)]) (rest := []) C B dX3_parseLetter_97 K3.2.2.2.1.1 (c_addStep G M.2.1 h3 d rd s.2.2 hr K3.2.2.2.1 K3.2.2.2.2.2 (cu_c f len s.1) (cu_c f len (s.1 + 1) - 48)) rfl rfl (Nat.le_of_ble_eq_true rfl) (by omega) (by omega) (by omega) (q := 100) rfl (fun r9 h_65 hr9 => ?_)
                  obtain ⟨er9, kx_66, kpx_67⟩ := hr9
                  subst er9
                  have K_68 : rs_ok h_65 r u dr rd f len (s.1 + 1 + 1, s.2.1, ru_add s.2.2 (cu_c f len s.1) (cu_c f len (s.1 + 1) - 48)) := rs_ru (s := (s.1 + 1 + 1, s.2.1, s.2.2)) K3 kx_66 (kp_mono kpx_67 rs_s5) (ru_add_bd K3.2.2.2.2.2 _ _)
                  have kq_69 : kp h h_65 (rs_L r dr rd) := kp_in kq3 kpx_67 rs_s3
                  show aw G 5 M 100 [.ref r, .int (cu_c f len s.1), .int 0, .int 1, .int (cu_c f len (s.1 + 1) - 48)] [] h_65 0 0
                  refine aw_iload C dX3_parseLetter_100 rfl (q := 102) rfl ?_
                  refine aw_iconst (v := (-1)) C dX3_parseLetter_102 (by decide) (q := 103) rfl ?_
                  refine aw_icmp_ne (t := 110) (q := 106) C dX3_parseLetter_103 (by decide) rfl (fun c_103 => ?_) (fun c_103 => absurd c_103 (cu_isd_8 hd9))
                  refine aw_iconst (v := 0) C dX3_parseLetter_110 (by decide) (q := 111) rfl ?_
                  refine aw_iret C E dX3_parseLetter_111 (Nat.le_refl _) (Nat.le_refl _) ?_
                  rw [show rs_let f len s = (0, s.1 + 1 + 1, s.2.1, ru_add s.2.2 (cu_c f len s.1) (cu_c f len (s.1 + 1) - 48)) from by unfold rs_let; rw [if_neg (by rintro (z | z | z); exact c_3 z; exact c_9 z; exact c_15 z), if_pos (Or.inr (Or.inr (Or.inr c_45))), if_pos hd9]]
                  exact ⟨rfl, K_68, kq_69⟩
                ·
                  rw [if_neg hd9] at fr3
                  rw [if_neg hd9]
                  have K3 : rs_ok h3 r u dr rd f len (s.1 + 1, s.2.1, s.2.2) := rs_at (s := (s.1 + 1, s.2.1, s.2.2)) K_62 fr3 kp3 K_62.2.2.2.2.1
                  show aw G 5 M 84 [.ref r, .int (cu_c f len s.1), .int 0, .int 1, .retAddr 0] [.int ((-1))] h3 0 0
                  refine aw_goto (q := 88) C dX3_parseLetter_84 (by decide) ?_
                  refine aw_istore (ls' := [.ref r, .int (cu_c f len s.1), .int 0, .int 1, .int ((-1))]) C dX3_parseLetter_88 (by decide) rfl (q := 90) rfl ?_
                  refine aw_aload_n C dX3_parseLetter_90 rfl rfl (q := 91) rfl ?_
                  refine gfX3_20_3 (v := .ref (rd 0)) C dX3_parseLetter_91 K3.1 rfl (q := 94) rfl ?_
                  refine aw_iload_n C dX3_parseLetter_94 rfl rfl (q := 95) rfl ?_
                  refine aw_iload C dX3_parseLetter_95 rfl (q := 97) rfl ?_
                  refine cvX3_71_6 (As := [.int (cu_c f len s.1), .int ((-1))]) (rest := []) C B dX3_parseLetter_97 K3.2.2.2.1.1 (c_addStep G M.2.1 h3 d rd s.2.2 hr K3.2.2.2.1 K3.2.2.2.2.2 (cu_c f len s.1) ((-1))) rfl rfl (Nat.le_of_ble_eq_true rfl) (by omega) (by omega) (by omega) (q := 100) rfl (fun r9 h_70 hr9 => ?_)
                  obtain ⟨er9, kx_71, kpx_72⟩ := hr9
                  subst er9
                  have K_73 : rs_ok h_70 r u dr rd f len (s.1 + 1, s.2.1, ru_add s.2.2 (cu_c f len s.1) ((-1))) := rs_ru (s := (s.1 + 1, s.2.1, s.2.2)) K3 kx_71 (kp_mono kpx_72 rs_s5) (ru_add_bd K3.2.2.2.2.2 _ _)
                  have kq_74 : kp h h_70 (rs_L r dr rd) := kp_in kq3 kpx_72 rs_s3
                  show aw G 5 M 100 [.ref r, .int (cu_c f len s.1), .int 0, .int 1, .int ((-1))] [] h_70 0 0
                  refine aw_iload C dX3_parseLetter_100 rfl (q := 102) rfl ?_
                  refine aw_iconst (v := (-1)) C dX3_parseLetter_102 (by decide) (q := 103) rfl ?_
                  refine aw_icmp_ne (t := 110) (q := 106) C dX3_parseLetter_103 (by decide) rfl (fun c_103 => absurd c_103 (by decide)) (fun c_103 => ?_)
                  refine aw_iconst (v := (-1)) C dX3_parseLetter_106 (by decide) (q := 107) rfl ?_
                  refine aw_goto (q := 111) C dX3_parseLetter_107 (by decide) ?_
                  refine aw_iret C E dX3_parseLetter_111 (Nat.le_refl _) (Nat.le_refl _) ?_
                  rw [show rs_let f len s = (-1, s.1 + 1, s.2.1, ru_add s.2.2 (cu_c f len s.1) (-1)) from by unfold rs_let; rw [if_neg (by rintro (z | z | z); exact c_3 z; exact c_9 z; exact c_15 z), if_pos (Or.inr (Or.inr (Or.inr c_45))), if_neg hd9]]
                  exact ⟨rfl, K_73, kq_74⟩
      ·
        refine aw_iconst (v := 1) C dX3_parseLetter_18 (by decide) (q := 19) rfl ?_
        refine aw_goto (q := 23) C dX3_parseLetter_19 (by decide) ?_
        refine aw_istore_n (ls' := [.ref r, .int (cu_c f len s.1), .int 1, .retAddr 0, .retAddr 0]) C dX3_parseLetter_23 rfl (by decide) rfl (q := 24) rfl ?_
        refine aw_iload_n C dX3_parseLetter_24 rfl rfl (q := 25) rfl ?_
        refine aw_bipush (v := 110) C dX3_parseLetter_25 (by decide) (q := 27) rfl ?_
        refine aw_icmp_eq (t := 48) (q := 30) C dX3_parseLetter_27 (by decide) rfl (fun c_27 => absurd c_27 (by rw [c_15]; decide)) (fun c_27 => ?_)
        refine aw_iload_n C dX3_parseLetter_30 rfl rfl (q := 31) rfl ?_
        refine aw_bipush (v := 97) C dX3_parseLetter_31 (by decide) (q := 33) rfl ?_
        refine aw_icmp_eq (t := 48) (q := 36) C dX3_parseLetter_33 (by decide) rfl (fun c_33 => absurd c_33 (by rw [c_15]; decide)) (fun c_33 => ?_)
        refine aw_iload_n C dX3_parseLetter_36 rfl rfl (q := 37) rfl ?_
        refine aw_bipush (v := 115) C dX3_parseLetter_37 (by decide) (q := 39) rfl ?_
        refine aw_icmp_eq (t := 48) (q := 42) C dX3_parseLetter_39 (by decide) rfl (fun c_39 => absurd c_39 (by rw [c_15]; decide)) (fun c_39 => ?_)
        refine aw_iload_n C dX3_parseLetter_42 rfl rfl (q := 43) rfl ?_
        refine aw_bipush (v := 101) C dX3_parseLetter_43 (by decide) (q := 45) rfl ?_
        refine aw_icmp_ne (t := 52) (q := 48) C dX3_parseLetter_45 (by decide) rfl (fun c_45 => ?_) (fun c_45 => absurd c_45 (by rw [c_15]; decide))
        refine aw_iconst (v := 0) C dX3_parseLetter_52 (by decide) (q := 53) rfl ?_
        refine aw_istore_n (ls' := [.ref r, .int (cu_c f len s.1), .int 1, .int 0, .retAddr 0]) C dX3_parseLetter_53 rfl (by decide) rfl (q := 54) rfl ?_
        refine aw_iload_n C dX3_parseLetter_54 rfl rfl (q := 55) rfl ?_
        refine aw_if_ne (t := 64) (q := 58) C dX3_parseLetter_55 (by decide) rfl (fun c_55 => ?_) (fun c_55 => absurd c_55 (by decide))
        have hl9 : s.1 < len := cu_c_in c_15 (by decide)
        refine aw_aload_n C dX3_parseLetter_64 rfl rfl (q := 65) rfl ?_
        refine aw_dup C dX3_parseLetter_65 rfl (q := 66) rfl ?_
        refine gfX3_40_3 (v := .int (nI s.1)) C dX3_parseLetter_66 K.1 rfl (q := 69) rfl ?_
        refine aw_iconst (v := 1) C dX3_parseLetter_69 (by decide) (q := 70) rfl ?_
        refine aw_iadd C dX3_parseLetter_70 (q := 71) rfl ?_
        rw [show nI s.1 + 1 = nI (s.1 + 1) from nI_1 _]
        refine pfX3_40_3 C dX3_parseLetter_71 K.1 rfl rfl (Nat.le_of_ble_eq_true rfl) (q := 74) rfl ?_
        show aw G 5 M 74 [.ref r, .int (cu_c f len s.1), .int 1, .int 0, .retAddr 0] [] (ac_up h r (.inr (3, [.ref u, .int (nI len), .int (nI (s.1 + 1)), .ref dr, .ref (rd 0)]))) 0 0
        obtain ⟨h_75, eh_75⟩ : ∃ z9, z9 = ac_up h r (.inr (3, [.ref u, .int (nI len), .int (nI (s.1 + 1)), .ref dr, .ref (rd 0)])) := ⟨_, rfl⟩
        rw [← eh_75]
        have kpx_77 : kp h h_75 [r] := by rw [eh_75]; exact kp_up (kp_cons r kp_rf) _ _ (by simp)
        have K_76 : rs_ok h_75 r u dr rd f len (s.1 + 1, s.2.1, s.2.2) := rs_at (s := (s.1, s.2.1, s.2.2)) K (by rw [eh_75]; exact ac_up_s _ _ _) kpx_77 (by omega)
        have kq_78 : kp h h_75 (rs_L r dr rd) := kp_mono kpx_77 rs_s1
        refine aw_iload_n C dX3_parseLetter_74 rfl rfl (q := 75) rfl ?_
        refine aw_if_eq (t := 87) (q := 78) C dX3_parseLetter_75 (by decide) rfl (fun c_75 => ?_) (fun c_75 => absurd c_75 (by decide))
        refine aw_iconst (v := 0) C dX3_parseLetter_87 (by decide) (q := 88) rfl ?_
        refine aw_istore (ls' := [.ref r, .int (cu_c f len s.1), .int 1, .int 0, .int 0]) C dX3_parseLetter_88 (by decide) rfl (q := 90) rfl ?_
        refine aw_aload_n C dX3_parseLetter_90 rfl rfl (q := 91) rfl ?_
        refine gfX3_20_3 (v := .ref (rd 0)) C dX3_parseLetter_91 K_76.1 rfl (q := 94) rfl ?_
        refine aw_iload_n C dX3_parseLetter_94 rfl rfl (q := 95) rfl ?_
        refine aw_iload C dX3_parseLetter_95 rfl (q := 97) rfl ?_
        refine cvX3_71_6 (As := [.int (cu_c f len s.1), .int 0]) (rest := []) C B dX3_parseLetter_97 K_76.2.2.2.1.1 (c_addStep G M.2.1 h_75 d rd s.2.2 hr K_76.2.2.2.1 K_76.2.2.2.2.2 (cu_c f len s.1) 0) rfl rfl (Nat.le_of_ble_eq_true rfl) (by omega) (by omega) (by omega) (q := 100) rfl (fun r9 h_79 hr9 => ?_)
        obtain ⟨er9, kx_80, kpx_81⟩ := hr9
        subst er9
        have K_82 : rs_ok h_79 r u dr rd f len (s.1 + 1, s.2.1, ru_add s.2.2 (cu_c f len s.1) 0) := rs_ru (s := (s.1 + 1, s.2.1, s.2.2)) K_76 kx_80 (kp_mono kpx_81 rs_s5) (ru_add_bd K_76.2.2.2.2.2 _ _)
        have kq_83 : kp h h_79 (rs_L r dr rd) := kp_in kq_78 kpx_81 rs_s3
        show aw G 5 M 100 [.ref r, .int (cu_c f len s.1), .int 1, .int 0, .int 0] [] h_79 0 0
        refine aw_iload C dX3_parseLetter_100 rfl (q := 102) rfl ?_
        refine aw_iconst (v := (-1)) C dX3_parseLetter_102 (by decide) (q := 103) rfl ?_
        refine aw_icmp_ne (t := 110) (q := 106) C dX3_parseLetter_103 (by decide) rfl (fun c_103 => ?_) (fun c_103 => absurd c_103 (by decide))
        refine aw_iconst (v := 0) C dX3_parseLetter_110 (by decide) (q := 111) rfl ?_
        refine aw_iret C E dX3_parseLetter_111 (Nat.le_refl _) (Nat.le_refl _) ?_
        rw [show rs_let f len s = (0, s.1 + 1, s.2.1, ru_add s.2.2 (cu_c f len s.1) 0) from by unfold rs_let; rw [if_pos (Or.inr (Or.inr c_15))]]
        exact ⟨rfl, K_82, kq_83⟩
