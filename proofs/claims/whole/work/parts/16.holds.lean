/-! Rules: class 6, group rd: 0 the object, 1 grades, 2 firsts, 3 acts, 4 operands, 5 printed -/
/-- count, stepCount, room, printed length, grades, firsts, acts, operands, printed -/
abbrev ru_D : Type := Nat × Nat × Nat × Nat × (Nat → Int32) × (Nat → Nat) × (Nat → Int32) × (Nat → Int32) × (Nat → Int32)
abbrev ru_cnt (T : ru_D) : Nat := T.1
abbrev ru_sc (T : ru_D) : Nat := T.2.1
abbrev ru_n (T : ru_D) : Nat := T.2.2.1
abbrev ru_np (T : ru_D) : Nat := T.2.2.2.1
abbrev ru_g (T : ru_D) : Nat → Int32 := T.2.2.2.2.1
abbrev ru_b (T : ru_D) : Nat → Nat := T.2.2.2.2.2.1
abbrev ru_a (T : ru_D) : Nat → Int32 := T.2.2.2.2.2.2.1
abbrev ru_o (T : ru_D) : Nat → Int32 := T.2.2.2.2.2.2.2.1
abbrev ru_p (T : ru_D) : Nat → Int32 := T.2.2.2.2.2.2.2.2
abbrev ru_ob (rd : Nat → Nat) (cnt sc : Nat) : ac_E := .inr (6, [.int (nI cnt), .int (nI sc), .ref (rd 1), .ref (rd 2), .ref (rd 3), .ref (rd 4), .ref (rd 5)])
def ru_ok (h : ac_H) (rd : Nat → Nat) (T : ru_D) : Prop := h (rd 0) = some (ru_ob rd (ru_cnt T) (ru_sc T)) ∧ h (rd 1) = some (.inl (1, 12, .inl (ru_g T))) ∧ h (rd 2) = some (.inl (1, 13, .inl (fun r => nI (ru_b T r)))) ∧ h (rd 3) = some (.inl (1, ru_n T, .inl (ru_a T))) ∧ h (rd 4) = some (.inl (1, ru_n T, .inl (ru_o T))) ∧ h (rd 5) = some (.inl (0, ru_np T, .inl (ru_p T)))
/-- rules that were read: each rule's steps lie within the steps -/
def ru_wf (T : ru_D) : Prop := ru_cnt T ≤ 12 ∧ ru_sc T ≤ ru_n T ∧ ru_n T ≤ 300 ∧ ∀ r, r < ru_cnt T → ru_b T r ≤ ru_b T (r + 1) ∧ ru_b T (r + 1) ≤ ru_sc T
theorem ru_kp {h h9 : ac_H} {rd : Nat → Nat} {T : ru_D} {k pl sk : Nat} {s : rk_S} {hd ca : Int32} (U : ru_ok h rd T) (R : rk_ok h k pl sk s hd ca) (kq : kp h h9 [k, sk]) : ru_ok h9 rd T := by
  obtain ⟨u0, u1, u2, u3, u4, u5⟩ := U
  exact ⟨kq _ _ u0 (ni1 (ne_of u0 R.1 (fun z => by cases z)) (ni1 (Ne.symm (ne_ai R.2.1 u0)) ni0)), kq _ _ u1 (ni1 (ne_ai u1 R.1) (ni1 (ne_of u1 R.2.1 (fun z => by cases z)) ni0)), kq _ _ u2 (ni1 (ne_ai u2 R.1) (ni1 (ne_of u2 R.2.1 (fun z => by cases z)) ni0)), kq _ _ u3 (ni1 (ne_ai u3 R.1) (ni1 (ne_of u3 R.2.1 (fun z => by cases z)) ni0)), kq _ _ u4 (ni1 (ne_ai u4 R.1) (ni1 (ne_of u4 R.2.1 (fun z => by cases z)) ni0)), kq _ _ u5 (ni1 (ne_ai u5 R.1) (ni1 (ne_of u5 R.2.1 (fun z => by cases z)) ni0))⟩
/-- the steps of a rule from i on, m of them: whether it holds, how many conditions held, the cause -/
def rk_hold (I : Nat → Int32) (F : Nat → Nat → Int32) (c : Nat) (ab : Int32) (af of : Nat → Int32) : Nat → Nat → rk_S → Int32 → Bool × Int32 × Int32
  | 0, _, _, hd => (true, hd, 0)
  | m + 1, i, s, hd => if af i = 60 ∨ af i = 62 ∨ af i = 61 ∨ af i = 33 then (if rk_cmp (af i) (rk_top (rk_drop s)) (rk_top s) = true then rk_hold I F c ab af of m (i + 1) (rk_drop (rk_drop s)) (hd + 1) else (false, hd, 0))
      else if (rk_step I F c (af i) (of i) ab s 0).2 = 0 then rk_hold I F c ab af of m (i + 1) (rk_step I F c (af i) (of i) ab s 0).1 hd else (false, hd, (rk_step I F c (af i) (of i) ab s 0).2)
theorem mn_nI {a b : Nat} (h : a ≤ b) (hb : b < 2 ^ 31) : mn_i (nI a) (nI b) = nI a := by
  unfold mn_i; rw [if_neg (nI_nlt h hb)]
set_option maxHeartbeats 4000000 in
set_option maxRecDepth 100000 in
theorem lp_holds {G : ac_G} {M : ac_M} {h : ac_H} {d k pl sk : Nat} {A : Nat → Nat} {I : Nat → Int32} {F : Nat → Nat → Int32} {c : Nat} {rd : Nat → Nat} {T : ru_D} {s0 : rk_S} {hd0 ca0 ab : Int32} {r e : Nat} {R : Bool × Int32 × Int32} (C : ac_MC G RX4 cX4_holds 9 (some .boolean) M) (B : ac_Bd M (d + 4) 0 0) (E : ac_End G (fun r9 h9 => r9 = some (.int (pb_b (R.1 = true))) ∧ (∃ s9, rk_ok h9 k pl sk s9 R.2.1 R.2.2) ∧ kp h h9 [k, sk]) 0 0 M) (K0 : rk_ok h k pl sk s0 hd0 ca0) (Kp0 : pl_ok h pl A I F c) (U0 : ru_ok h rd T) (hw : ru_wf T) (he : e ≤ ru_sc T) :
    ∀ (m i : Nat) (s : rk_S) (hd : Int32) (h1 : ac_H) (v6 v7 v8 : Value), i + m = e → rk_ok h1 k pl sk s hd 0 → kp h h1 [k, sk] → rk_hold I F c ab (ru_a T) (ru_o T) m i s hd = R → aw G 9 M 51 [.ref k, .ref (rd 0), .int (nI r), .int ab, .int (nI e), .int (nI i), v6, v7, v8] [] h1 0 0 := by
  obtain ⟨w1, w2, w3, w4⟩ := hw
  intro m
  induction m with
  | zero =>
    intro i s hd h1 v6 v7 v8 hi K1 kq1 hR
    have hie : i = e := by omega
    subst hie
    refine aw_iload C dX4_holds_51 rfl (q := 53) rfl ?_
    refine aw_iload C dX4_holds_53 rfl (q := 55) rfl ?_
    refine aw_icmp_ge (t := 184) (q := 58) C dX4_holds_55 (by decide) rfl (fun c_55 => ?_) (fun c_55 => absurd (nI_le (Nat.le_refl _) (by omega)) c_55)
    refine aw_iconst (v := 1) C dX4_holds_184 (by decide) (q := 185) rfl ?_
    refine aw_zret C E dX4_holds_185 (rfl) (Nat.le_refl _) (Nat.le_refl _) ?_
    have hR2 : R = (true, hd, 0) := hR.symm
    exact ⟨by rw [hR2]; rfl, ⟨_, by rw [hR2]; exact K1⟩, kq1⟩
  | succ m ih =>
    intro i s hd h1 v6 v7 v8 hi K1 kq1 hR
    have Kp1 := pl_kp Kp0 K0 kq1
    have U1 := ru_kp U0 K0 kq1
    refine aw_iload C dX4_holds_51 rfl (q := 53) rfl ?_
    refine aw_iload C dX4_holds_53 rfl (q := 55) rfl ?_
    refine aw_icmp_ge (t := 184) (q := 58) C dX4_holds_55 (by decide) rfl (fun c_55 => absurd c_55 (ni_nge i e rfl rfl (by omega) (by omega) (by omega))) (fun c_55 => ?_)
    refine aw_iload C dX4_holds_58 rfl (q := 60) rfl ?_
    refine aw_aload_n C dX4_holds_60 rfl rfl (q := 61) rfl ?_
    refine gfX4_48_6 (v := .ref (rd 3)) C dX4_holds_61 U1.1 rfl (q := 64) rfl ?_
    refine aw_alen (v := nI (ru_n T)) C dX4_holds_64 U1.2.2.2.1 rfl rfl (q := 65) rfl ?_
    refine csX4_29 (As := [.int (nI i), .int (nI (ru_n T))]) (rest := []) C B dX4_holds_65 (c_isBelow G M.2.1 h1 (d + 1) (nI i) (nI (ru_n T))) rfl rfl (Nat.le_of_ble_eq_true rfl) (by omega) (by omega) (by omega) (q := 68) rfl (fun r9 h9 hr9 => ?_)
    obtain ⟨e9, er9⟩ := hr9
    subst er9; rw [e9]
    show aw G 9 M 68 [.ref k, .ref (rd 0), .int (nI r), .int ab, .int (nI e), .int (nI i), v6, v7, v8] [.int (pb_b (¬ (nI i) < 0 ∧ ¬ (nI (ru_n T)) ≤ (nI i)))] h1 0 0
    refine aw_if_eq (t := 81) (q := 71) C dX4_holds_68 (by decide) rfl (fun c_68 => absurd c_68 (fun z => (pb_0.mp z) ⟨nI_pos (by omega), ni_nge i (ru_n T) rfl rfl (by omega) (by omega) (by omega)⟩)) (fun c_68 => ?_)
    refine aw_iload C dX4_holds_71 rfl (q := 73) rfl ?_
    refine aw_aload_n C dX4_holds_73 rfl rfl (q := 74) rfl ?_
    refine gfX4_51_6 (v := .ref (rd 4)) C dX4_holds_74 U1.1 rfl (q := 77) rfl ?_
    refine aw_alen (v := nI (ru_n T)) C dX4_holds_77 U1.2.2.2.2.1 rfl rfl (q := 78) rfl ?_
    refine aw_icmp_lt (t := 83) (q := 81) C dX4_holds_78 (by decide) rfl (fun c_78 => ?_) (fun c_78 => absurd (nI_lt (by omega) (by omega)) c_78)
    refine aw_aload_n C dX4_holds_83 rfl rfl (q := 84) rfl ?_
    refine gfX4_48_6 (v := .ref (rd 3)) C dX4_holds_84 U1.1 rfl (q := 87) rfl ?_
    refine aw_iload C dX4_holds_87 rfl (q := 89) rfl ?_
    refine ay_iald (j := i) C dX4_holds_89 U1.2.2.2.1 (vp_in_nI (by omega) (by omega)) (nI_clamp (by omega)) (q := 90) rfl ?_
    refine aw_istore (ls' := [.ref k, .ref (rd 0), .int (nI r), .int ab, .int (nI e), .int (nI i), .int ((ru_a T) i), v7, v8]) C dX4_holds_90 (by decide) rfl (q := 92) rfl ?_
    refine aw_iload C dX4_holds_92 rfl (q := 94) rfl ?_
    refine aw_bipush (v := 60) C dX4_holds_94 (by decide) (q := 96) rfl ?_
    refine aw_icmp_eq (t := 120) (q := 99) C dX4_holds_96 (by decide) rfl (fun c_96 => ?_) (fun c_96 => ?_)
    ·
      refine aw_aload_n C dX4_holds_120 rfl rfl (q := 121) rfl ?_
      refine cvX4_54_4 (As := []) (rest := []) C B dX4_holds_121 K1.1 (c_pop G M.2.1 h1 (d + 1) k pl sk (s) hd 0  K1) rfl rfl (Nat.le_of_ble_eq_true rfl) (by omega) (by omega) (by omega) (q := 124) rfl (fun r9 h_1 hr9 => ?_)
      obtain ⟨er9, K_2, kp_3⟩ := hr9
      subst er9
      have Kp_5 := pl_kp Kp1 K1 kp_3
      have kq_4 : kp h h_1 [k, sk] := kp_mono (kp_tr kq1 kp_3) (by simp)
      have U_6 := ru_kp U0 K0 kq_4
      show aw G 9 M 124 [.ref k, .ref (rd 0), .int (nI r), .int ab, .int (nI e), .int (nI i), .int ((ru_a T) i), v7, v8] [.long (rk_top (s))] h_1 0 0
      refine aw_lstore (ls' := [.ref k, .ref (rd 0), .int (nI r), .int ab, .int (nI e), .int (nI i), .int ((ru_a T) i), .long (rk_top (s)), .retAddr 0]) C dX4_holds_124 (by decide) rfl (q := 126) rfl ?_
      refine aw_iload C dX4_holds_126 rfl (q := 128) rfl ?_
      refine aw_aload_n C dX4_holds_128 rfl rfl (q := 129) rfl ?_
      refine cvX4_54_4 (As := []) (rest := [.int ((ru_a T) i)]) C B dX4_holds_129 K_2.1 (c_pop G M.2.1 h_1 (d + 1) k pl sk (rk_drop (s)) hd 0  K_2) rfl rfl (Nat.le_of_ble_eq_true rfl) (by omega) (by omega) (by omega) (q := 132) rfl (fun r9 h_7 hr9 => ?_)
      obtain ⟨er9, K_8, kp_9⟩ := hr9
      subst er9
      have Kp_11 := pl_kp Kp_5 K_2 kp_9
      have kq_10 : kp h h_7 [k, sk] := kp_mono (kp_tr kq_4 kp_9) (by simp)
      have U_12 := ru_kp U0 K0 kq_10
      show aw G 9 M 132 [.ref k, .ref (rd 0), .int (nI r), .int ab, .int (nI e), .int (nI i), .int ((ru_a T) i), .long (rk_top (s)), .retAddr 0] [.long (rk_top (rk_drop (s))), .int ((ru_a T) i)] h_7 0 0
      refine aw_lload C dX4_holds_132 rfl (q := 134) rfl ?_
      refine csX4_58 (As := [.int ((ru_a T) i), .long (rk_top (rk_drop (s))), .long (rk_top (s))]) (rest := []) C B dX4_holds_134 (c_compare G M.2.1 h_7 (d + 1) ((ru_a T) i) (rk_top (rk_drop (s))) (rk_top (s))) rfl rfl (Nat.le_of_ble_eq_true rfl) (by omega) (by omega) (by omega) (q := 137) rfl (fun r9 h9 hr9 => ?_)
      obtain ⟨e9, er9⟩ := hr9
      subst er9; rw [e9]
      show aw G 9 M 137 [.ref k, .ref (rd 0), .int (nI r), .int ab, .int (nI e), .int (nI i), .int ((ru_a T) i), .long (rk_top (s)), .retAddr 0] [.int (pb_b (rk_cmp ((ru_a T) i) (rk_top (rk_drop (s))) (rk_top (s)) = true))] h_7 0 0
      refine aw_if_ne (t := 142) (q := 140) C dX4_holds_137 (by decide) rfl (fun c_137 => ?_) (fun c_137 => ?_)
      ·
        refine aw_aload_n C dX4_holds_142 rfl rfl (q := 143) rfl ?_
        refine aw_dup C dX4_holds_143 rfl (q := 144) rfl ?_
        refine gfX4_23_4 (v := .int hd) C dX4_holds_144 K_8.1 rfl (q := 147) rfl ?_
        refine aw_iconst (v := 1) C dX4_holds_147 (by decide) (q := 148) rfl ?_
        refine aw_iadd C dX4_holds_148 (q := 149) rfl ?_
        refine pfX4_23_4 C dX4_holds_149 K_8.1 rfl rfl (Nat.le_of_ble_eq_true rfl) (q := 152) rfl ?_
        show aw G 9 M 152 [.ref k, .ref (rd 0), .int (nI r), .int ab, .int (nI e), .int (nI i), .int ((ru_a T) i), .long (rk_top (s)), .retAddr 0] [] (ac_up h_7 k (.inr (4, [.ref pl, .ref sk, .int (nI (rk_drop (rk_drop (s))).2), .int (hd + 1), .int 0]))) 0 0
        obtain ⟨h_13, eh_13⟩ : ∃ z, z = ac_up h_7 k (.inr (4, [.ref pl, .ref sk, .int (nI (rk_drop (rk_drop (s))).2), .int (hd + 1), .int 0])) := ⟨_, rfl⟩
        rw [← eh_13]
        have f_14 : h_13 sk = some (.inl (2, 32, .inr (.inl ((rk_drop (rk_drop (s))).1)))) := by rw [eh_13, ac_up_n _ _ K_8.ne]; exact K_8.2.1
        have f_15 : h_13 k = some (.inr (4, [.ref pl, .ref sk, .int (nI (rk_drop (rk_drop (s))).2), .int (hd + 1), .int 0])) := by rw [eh_13]; exact ac_up_s _ _ _
        have kp_16 : kp h h_13 [k, sk] := by rw [eh_13]; exact kp_up kq_10 _ _ (by simp)
        have K_17 : rk_ok h_13 k pl sk (rk_drop (rk_drop (s))) (hd + 1) 0 := ⟨f_15, f_14, K_8.2.2⟩
        have Kp_18 := pl_kp Kp0 K0 kp_16
        have U_19 := ru_kp U0 K0 kp_16
        refine aw_goto (q := 169) C dX4_holds_152 (by decide) ?_
        refine aw_aload_n C dX4_holds_169 rfl rfl (q := 170) rfl ?_
        refine gfX4_26_4 (v := .int 0) C dX4_holds_170 f_15 rfl (q := 173) rfl ?_
        refine aw_if_eq (t := 178) (q := 176) C dX4_holds_173 (by decide) rfl (fun c_173 => ?_) (fun c_173 => absurd c_173 (by decide))
        refine aw_iinc (v := nI (i + 1)) (ls' := [.ref k, .ref (rd 0), .int (nI r), .int ab, .int (nI e), .int (nI (i + 1)), .int ((ru_a T) i), .long (rk_top (s)), .retAddr 0]) C dX4_holds_178 rfl (nI_1 i) (by decide) rfl (q := 181) rfl ?_
        refine aw_goto (q := 51) C dX4_holds_181 (by decide) ?_
        refine ih (i + 1) _ _ h_13 _ _ _ (by omega) K_17 kp_16 ?_
        rw [← hR]
        conv => rhs; unfold rk_hold
        rw [if_pos (Or.inl c_96), if_pos (pb_n c_137)]
      ·
        refine aw_iconst (v := 0) C dX4_holds_140 (by decide) (q := 141) rfl ?_
        refine aw_zret C E dX4_holds_141 (rfl) (Nat.le_refl _) (Nat.le_refl _) ?_
        have hR2 : R = (false, hd, 0) := by rw [← hR]; unfold rk_hold; rw [if_pos (Or.inl c_96), if_neg (pb_0.mp c_137)]
        exact ⟨by rw [hR2]; rfl, ⟨_, by rw [hR2]; exact K_8⟩, kq_10⟩
    ·
      refine aw_iload C dX4_holds_99 rfl (q := 101) rfl ?_
      refine aw_bipush (v := 62) C dX4_holds_101 (by decide) (q := 103) rfl ?_
      refine aw_icmp_eq (t := 120) (q := 106) C dX4_holds_103 (by decide) rfl (fun c_103 => ?_) (fun c_103 => ?_)
      ·
        refine aw_aload_n C dX4_holds_120 rfl rfl (q := 121) rfl ?_
        refine cvX4_54_4 (As := []) (rest := []) C B dX4_holds_121 K1.1 (c_pop G M.2.1 h1 (d + 1) k pl sk (s) hd 0  K1) rfl rfl (Nat.le_of_ble_eq_true rfl) (by omega) (by omega) (by omega) (q := 124) rfl (fun r9 h_20 hr9 => ?_)
        obtain ⟨er9, K_21, kp_22⟩ := hr9
        subst er9
        have Kp_24 := pl_kp Kp1 K1 kp_22
        have kq_23 : kp h h_20 [k, sk] := kp_mono (kp_tr kq1 kp_22) (by simp)
        have U_25 := ru_kp U0 K0 kq_23
        show aw G 9 M 124 [.ref k, .ref (rd 0), .int (nI r), .int ab, .int (nI e), .int (nI i), .int ((ru_a T) i), v7, v8] [.long (rk_top (s))] h_20 0 0
        refine aw_lstore (ls' := [.ref k, .ref (rd 0), .int (nI r), .int ab, .int (nI e), .int (nI i), .int ((ru_a T) i), .long (rk_top (s)), .retAddr 0]) C dX4_holds_124 (by decide) rfl (q := 126) rfl ?_
        refine aw_iload C dX4_holds_126 rfl (q := 128) rfl ?_
        refine aw_aload_n C dX4_holds_128 rfl rfl (q := 129) rfl ?_
        refine cvX4_54_4 (As := []) (rest := [.int ((ru_a T) i)]) C B dX4_holds_129 K_21.1 (c_pop G M.2.1 h_20 (d + 1) k pl sk (rk_drop (s)) hd 0  K_21) rfl rfl (Nat.le_of_ble_eq_true rfl) (by omega) (by omega) (by omega) (q := 132) rfl (fun r9 h_26 hr9 => ?_)
        obtain ⟨er9, K_27, kp_28⟩ := hr9
        subst er9
        have Kp_30 := pl_kp Kp_24 K_21 kp_28
        have kq_29 : kp h h_26 [k, sk] := kp_mono (kp_tr kq_23 kp_28) (by simp)
        have U_31 := ru_kp U0 K0 kq_29
        show aw G 9 M 132 [.ref k, .ref (rd 0), .int (nI r), .int ab, .int (nI e), .int (nI i), .int ((ru_a T) i), .long (rk_top (s)), .retAddr 0] [.long (rk_top (rk_drop (s))), .int ((ru_a T) i)] h_26 0 0
        refine aw_lload C dX4_holds_132 rfl (q := 134) rfl ?_
        refine csX4_58 (As := [.int ((ru_a T) i), .long (rk_top (rk_drop (s))), .long (rk_top (s))]) (rest := []) C B dX4_holds_134 (c_compare G M.2.1 h_26 (d + 1) ((ru_a T) i) (rk_top (rk_drop (s))) (rk_top (s))) rfl rfl (Nat.le_of_ble_eq_true rfl) (by omega) (by omega) (by omega) (q := 137) rfl (fun r9 h9 hr9 => ?_)
        obtain ⟨e9, er9⟩ := hr9
        subst er9; rw [e9]
        show aw G 9 M 137 [.ref k, .ref (rd 0), .int (nI r), .int ab, .int (nI e), .int (nI i), .int ((ru_a T) i), .long (rk_top (s)), .retAddr 0] [.int (pb_b (rk_cmp ((ru_a T) i) (rk_top (rk_drop (s))) (rk_top (s)) = true))] h_26 0 0
        refine aw_if_ne (t := 142) (q := 140) C dX4_holds_137 (by decide) rfl (fun c_137 => ?_) (fun c_137 => ?_)
        ·
          refine aw_aload_n C dX4_holds_142 rfl rfl (q := 143) rfl ?_
          refine aw_dup C dX4_holds_143 rfl (q := 144) rfl ?_
          refine gfX4_23_4 (v := .int hd) C dX4_holds_144 K_27.1 rfl (q := 147) rfl ?_
          refine aw_iconst (v := 1) C dX4_holds_147 (by decide) (q := 148) rfl ?_
          refine aw_iadd C dX4_holds_148 (q := 149) rfl ?_
          refine pfX4_23_4 C dX4_holds_149 K_27.1 rfl rfl (Nat.le_of_ble_eq_true rfl) (q := 152) rfl ?_
          show aw G 9 M 152 [.ref k, .ref (rd 0), .int (nI r), .int ab, .int (nI e), .int (nI i), .int ((ru_a T) i), .long (rk_top (s)), .retAddr 0] [] (ac_up h_26 k (.inr (4, [.ref pl, .ref sk, .int (nI (rk_drop (rk_drop (s))).2), .int (hd + 1), .int 0]))) 0 0
          obtain ⟨h_32, eh_32⟩ : ∃ z, z = ac_up h_26 k (.inr (4, [.ref pl, .ref sk, .int (nI (rk_drop (rk_drop (s))).2), .int (hd + 1), .int 0])) := ⟨_, rfl⟩
          rw [← eh_32]
          have f_33 : h_32 sk = some (.inl (2, 32, .inr (.inl ((rk_drop (rk_drop (s))).1)))) := by rw [eh_32, ac_up_n _ _ K_27.ne]; exact K_27.2.1
          have f_34 : h_32 k = some (.inr (4, [.ref pl, .ref sk, .int (nI (rk_drop (rk_drop (s))).2), .int (hd + 1), .int 0])) := by rw [eh_32]; exact ac_up_s _ _ _
          have kp_35 : kp h h_32 [k, sk] := by rw [eh_32]; exact kp_up kq_29 _ _ (by simp)
          have K_36 : rk_ok h_32 k pl sk (rk_drop (rk_drop (s))) (hd + 1) 0 := ⟨f_34, f_33, K_27.2.2⟩
          have Kp_37 := pl_kp Kp0 K0 kp_35
          have U_38 := ru_kp U0 K0 kp_35
          refine aw_goto (q := 169) C dX4_holds_152 (by decide) ?_
          refine aw_aload_n C dX4_holds_169 rfl rfl (q := 170) rfl ?_
          refine gfX4_26_4 (v := .int 0) C dX4_holds_170 f_34 rfl (q := 173) rfl ?_
          refine aw_if_eq (t := 178) (q := 176) C dX4_holds_173 (by decide) rfl (fun c_173 => ?_) (fun c_173 => absurd c_173 (by decide))
          refine aw_iinc (v := nI (i + 1)) (ls' := [.ref k, .ref (rd 0), .int (nI r), .int ab, .int (nI e), .int (nI (i + 1)), .int ((ru_a T) i), .long (rk_top (s)), .retAddr 0]) C dX4_holds_178 rfl (nI_1 i) (by decide) rfl (q := 181) rfl ?_
          refine aw_goto (q := 51) C dX4_holds_181 (by decide) ?_
          refine ih (i + 1) _ _ h_32 _ _ _ (by omega) K_36 kp_35 ?_
          rw [← hR]
          conv => rhs; unfold rk_hold
          rw [if_pos (Or.inr (Or.inl c_103)), if_pos (pb_n c_137)]
        ·
          refine aw_iconst (v := 0) C dX4_holds_140 (by decide) (q := 141) rfl ?_
          refine aw_zret C E dX4_holds_141 (rfl) (Nat.le_refl _) (Nat.le_refl _) ?_
          have hR2 : R = (false, hd, 0) := by rw [← hR]; unfold rk_hold; rw [if_pos (Or.inr (Or.inl c_103)), if_neg (pb_0.mp c_137)]
          exact ⟨by rw [hR2]; rfl, ⟨_, by rw [hR2]; exact K_27⟩, kq_29⟩
      ·
        refine aw_iload C dX4_holds_106 rfl (q := 108) rfl ?_
        refine aw_bipush (v := 61) C dX4_holds_108 (by decide) (q := 110) rfl ?_
        refine aw_icmp_eq (t := 120) (q := 113) C dX4_holds_110 (by decide) rfl (fun c_110 => ?_) (fun c_110 => ?_)
        ·
          refine aw_aload_n C dX4_holds_120 rfl rfl (q := 121) rfl ?_
          refine cvX4_54_4 (As := []) (rest := []) C B dX4_holds_121 K1.1 (c_pop G M.2.1 h1 (d + 1) k pl sk (s) hd 0  K1) rfl rfl (Nat.le_of_ble_eq_true rfl) (by omega) (by omega) (by omega) (q := 124) rfl (fun r9 h_39 hr9 => ?_)
          obtain ⟨er9, K_40, kp_41⟩ := hr9
          subst er9
          have Kp_43 := pl_kp Kp1 K1 kp_41
          have kq_42 : kp h h_39 [k, sk] := kp_mono (kp_tr kq1 kp_41) (by simp)
          have U_44 := ru_kp U0 K0 kq_42
          show aw G 9 M 124 [.ref k, .ref (rd 0), .int (nI r), .int ab, .int (nI e), .int (nI i), .int ((ru_a T) i), v7, v8] [.long (rk_top (s))] h_39 0 0
          refine aw_lstore (ls' := [.ref k, .ref (rd 0), .int (nI r), .int ab, .int (nI e), .int (nI i), .int ((ru_a T) i), .long (rk_top (s)), .retAddr 0]) C dX4_holds_124 (by decide) rfl (q := 126) rfl ?_
          refine aw_iload C dX4_holds_126 rfl (q := 128) rfl ?_
          refine aw_aload_n C dX4_holds_128 rfl rfl (q := 129) rfl ?_
          refine cvX4_54_4 (As := []) (rest := [.int ((ru_a T) i)]) C B dX4_holds_129 K_40.1 (c_pop G M.2.1 h_39 (d + 1) k pl sk (rk_drop (s)) hd 0  K_40) rfl rfl (Nat.le_of_ble_eq_true rfl) (by omega) (by omega) (by omega) (q := 132) rfl (fun r9 h_45 hr9 => ?_)
          obtain ⟨er9, K_46, kp_47⟩ := hr9
          subst er9
          have Kp_49 := pl_kp Kp_43 K_40 kp_47
          have kq_48 : kp h h_45 [k, sk] := kp_mono (kp_tr kq_42 kp_47) (by simp)
          have U_50 := ru_kp U0 K0 kq_48
          show aw G 9 M 132 [.ref k, .ref (rd 0), .int (nI r), .int ab, .int (nI e), .int (nI i), .int ((ru_a T) i), .long (rk_top (s)), .retAddr 0] [.long (rk_top (rk_drop (s))), .int ((ru_a T) i)] h_45 0 0
          refine aw_lload C dX4_holds_132 rfl (q := 134) rfl ?_
          refine csX4_58 (As := [.int ((ru_a T) i), .long (rk_top (rk_drop (s))), .long (rk_top (s))]) (rest := []) C B dX4_holds_134 (c_compare G M.2.1 h_45 (d + 1) ((ru_a T) i) (rk_top (rk_drop (s))) (rk_top (s))) rfl rfl (Nat.le_of_ble_eq_true rfl) (by omega) (by omega) (by omega) (q := 137) rfl (fun r9 h9 hr9 => ?_)
          obtain ⟨e9, er9⟩ := hr9
          subst er9; rw [e9]
          show aw G 9 M 137 [.ref k, .ref (rd 0), .int (nI r), .int ab, .int (nI e), .int (nI i), .int ((ru_a T) i), .long (rk_top (s)), .retAddr 0] [.int (pb_b (rk_cmp ((ru_a T) i) (rk_top (rk_drop (s))) (rk_top (s)) = true))] h_45 0 0
          refine aw_if_ne (t := 142) (q := 140) C dX4_holds_137 (by decide) rfl (fun c_137 => ?_) (fun c_137 => ?_)
          ·
            refine aw_aload_n C dX4_holds_142 rfl rfl (q := 143) rfl ?_
            refine aw_dup C dX4_holds_143 rfl (q := 144) rfl ?_
            refine gfX4_23_4 (v := .int hd) C dX4_holds_144 K_46.1 rfl (q := 147) rfl ?_
            refine aw_iconst (v := 1) C dX4_holds_147 (by decide) (q := 148) rfl ?_
            refine aw_iadd C dX4_holds_148 (q := 149) rfl ?_
            refine pfX4_23_4 C dX4_holds_149 K_46.1 rfl rfl (Nat.le_of_ble_eq_true rfl) (q := 152) rfl ?_
            show aw G 9 M 152 [.ref k, .ref (rd 0), .int (nI r), .int ab, .int (nI e), .int (nI i), .int ((ru_a T) i), .long (rk_top (s)), .retAddr 0] [] (ac_up h_45 k (.inr (4, [.ref pl, .ref sk, .int (nI (rk_drop (rk_drop (s))).2), .int (hd + 1), .int 0]))) 0 0
            obtain ⟨h_51, eh_51⟩ : ∃ z, z = ac_up h_45 k (.inr (4, [.ref pl, .ref sk, .int (nI (rk_drop (rk_drop (s))).2), .int (hd + 1), .int 0])) := ⟨_, rfl⟩
            rw [← eh_51]
            have f_52 : h_51 sk = some (.inl (2, 32, .inr (.inl ((rk_drop (rk_drop (s))).1)))) := by rw [eh_51, ac_up_n _ _ K_46.ne]; exact K_46.2.1
            have f_53 : h_51 k = some (.inr (4, [.ref pl, .ref sk, .int (nI (rk_drop (rk_drop (s))).2), .int (hd + 1), .int 0])) := by rw [eh_51]; exact ac_up_s _ _ _
            have kp_54 : kp h h_51 [k, sk] := by rw [eh_51]; exact kp_up kq_48 _ _ (by simp)
            have K_55 : rk_ok h_51 k pl sk (rk_drop (rk_drop (s))) (hd + 1) 0 := ⟨f_53, f_52, K_46.2.2⟩
            have Kp_56 := pl_kp Kp0 K0 kp_54
            have U_57 := ru_kp U0 K0 kp_54
            refine aw_goto (q := 169) C dX4_holds_152 (by decide) ?_
            refine aw_aload_n C dX4_holds_169 rfl rfl (q := 170) rfl ?_
            refine gfX4_26_4 (v := .int 0) C dX4_holds_170 f_53 rfl (q := 173) rfl ?_
            refine aw_if_eq (t := 178) (q := 176) C dX4_holds_173 (by decide) rfl (fun c_173 => ?_) (fun c_173 => absurd c_173 (by decide))
            refine aw_iinc (v := nI (i + 1)) (ls' := [.ref k, .ref (rd 0), .int (nI r), .int ab, .int (nI e), .int (nI (i + 1)), .int ((ru_a T) i), .long (rk_top (s)), .retAddr 0]) C dX4_holds_178 rfl (nI_1 i) (by decide) rfl (q := 181) rfl ?_
            refine aw_goto (q := 51) C dX4_holds_181 (by decide) ?_
            refine ih (i + 1) _ _ h_51 _ _ _ (by omega) K_55 kp_54 ?_
            rw [← hR]
            conv => rhs; unfold rk_hold
            rw [if_pos (Or.inr (Or.inr (Or.inl c_110))), if_pos (pb_n c_137)]
          ·
            refine aw_iconst (v := 0) C dX4_holds_140 (by decide) (q := 141) rfl ?_
            refine aw_zret C E dX4_holds_141 (rfl) (Nat.le_refl _) (Nat.le_refl _) ?_
            have hR2 : R = (false, hd, 0) := by rw [← hR]; unfold rk_hold; rw [if_pos (Or.inr (Or.inr (Or.inl c_110))), if_neg (pb_0.mp c_137)]
            exact ⟨by rw [hR2]; rfl, ⟨_, by rw [hR2]; exact K_46⟩, kq_48⟩
        ·
          refine aw_iload C dX4_holds_113 rfl (q := 115) rfl ?_
          refine aw_bipush (v := 33) C dX4_holds_115 (by decide) (q := 117) rfl ?_
          refine aw_icmp_ne (t := 155) (q := 120) C dX4_holds_117 (by decide) rfl (fun c_117 => ?_) (fun c_117 => ?_)
          ·
            refine aw_aload_n C dX4_holds_155 rfl rfl (q := 156) rfl ?_
            refine aw_iload C dX4_holds_156 rfl (q := 158) rfl ?_
            refine aw_aload_n C dX4_holds_158 rfl rfl (q := 159) rfl ?_
            refine gfX4_51_6 (v := .ref (rd 4)) C dX4_holds_159 U1.1 rfl (q := 162) rfl ?_
            refine aw_iload C dX4_holds_162 rfl (q := 164) rfl ?_
            refine ay_iald (j := i) C dX4_holds_164 U1.2.2.2.2.1 (vp_in_nI (by omega) (by omega)) (nI_clamp (by omega)) (q := 165) rfl ?_
            refine aw_iload_n C dX4_holds_165 rfl rfl (q := 166) rfl ?_
            refine cvX4_62_4 (As := [.int ((ru_a T) i), .int ((ru_o T) i), .int ab]) (rest := []) C B dX4_holds_166 K1.1 (c_reckonStep G M.2.1 h1 d k pl sk (s) hd 0 A I F c ((ru_a T) i) ((ru_o T) i) ab K1 Kp1) rfl rfl (Nat.le_of_ble_eq_true rfl) (by omega) (by omega) (by omega) (q := 169) rfl (fun r9 h_58 hr9 => ?_)
            obtain ⟨er9, K_59, kp_60⟩ := hr9
            subst er9
            have kq_61 : kp h h_58 [k, sk] := kp_mono (kp_tr kq1 kp_60) (by simp)
            have Kp_62 := pl_kp Kp0 K0 kq_61
            have U_63 := ru_kp U0 K0 kq_61
            show aw G 9 M 169 [.ref k, .ref (rd 0), .int (nI r), .int ab, .int (nI e), .int (nI i), .int ((ru_a T) i), v7, v8] [] h_58 0 0
            refine aw_aload_n C dX4_holds_169 rfl rfl (q := 170) rfl ?_
            refine gfX4_26_4 (v := .int ((rk_step I F c ((ru_a T) i) ((ru_o T) i) ab (s) 0).2)) C dX4_holds_170 K_59.1 rfl (q := 173) rfl ?_
            refine aw_if_eq (t := 178) (q := 176) C dX4_holds_173 (by decide) rfl (fun c_173 => ?_) (fun c_173 => ?_)
            ·
              refine aw_iinc (v := nI (i + 1)) (ls' := [.ref k, .ref (rd 0), .int (nI r), .int ab, .int (nI e), .int (nI (i + 1)), .int ((ru_a T) i), v7, v8]) C dX4_holds_178 rfl (nI_1 i) (by decide) rfl (q := 181) rfl ?_
              refine aw_goto (q := 51) C dX4_holds_181 (by decide) ?_
              refine ih (i + 1) _ _ h_58 _ _ _ (by omega) (by have z9 := K_59; rw [c_173] at z9; exact z9) kq_61 ?_
              rw [← hR]
              conv => rhs; unfold rk_hold
              rw [if_neg (by rintro (z | z | z | z); exact c_96 z; exact c_103 z; exact c_110 z; exact c_117 z), if_pos c_173]
            ·
              refine aw_iconst (v := 0) C dX4_holds_176 (by decide) (q := 177) rfl ?_
              refine aw_zret C E dX4_holds_177 (rfl) (Nat.le_refl _) (Nat.le_refl _) ?_
              have hR2 : R = (false, hd, (rk_step I F c ((ru_a T) i) ((ru_o T) i) ab (s) 0).2) := by rw [← hR]; unfold rk_hold; rw [if_neg (by rintro (z | z | z | z); exact c_96 z; exact c_103 z; exact c_110 z; exact c_117 z), if_neg c_173]
              exact ⟨by rw [hR2]; rfl, ⟨_, by rw [hR2]; exact K_59⟩, kq_61⟩
          ·
            refine aw_aload_n C dX4_holds_120 rfl rfl (q := 121) rfl ?_
            refine cvX4_54_4 (As := []) (rest := []) C B dX4_holds_121 K1.1 (c_pop G M.2.1 h1 (d + 1) k pl sk (s) hd 0  K1) rfl rfl (Nat.le_of_ble_eq_true rfl) (by omega) (by omega) (by omega) (q := 124) rfl (fun r9 h_64 hr9 => ?_)
            obtain ⟨er9, K_65, kp_66⟩ := hr9
            subst er9
            have Kp_68 := pl_kp Kp1 K1 kp_66
            have kq_67 : kp h h_64 [k, sk] := kp_mono (kp_tr kq1 kp_66) (by simp)
            have U_69 := ru_kp U0 K0 kq_67
            show aw G 9 M 124 [.ref k, .ref (rd 0), .int (nI r), .int ab, .int (nI e), .int (nI i), .int ((ru_a T) i), v7, v8] [.long (rk_top (s))] h_64 0 0
            refine aw_lstore (ls' := [.ref k, .ref (rd 0), .int (nI r), .int ab, .int (nI e), .int (nI i), .int ((ru_a T) i), .long (rk_top (s)), .retAddr 0]) C dX4_holds_124 (by decide) rfl (q := 126) rfl ?_
            refine aw_iload C dX4_holds_126 rfl (q := 128) rfl ?_
            refine aw_aload_n C dX4_holds_128 rfl rfl (q := 129) rfl ?_
            refine cvX4_54_4 (As := []) (rest := [.int ((ru_a T) i)]) C B dX4_holds_129 K_65.1 (c_pop G M.2.1 h_64 (d + 1) k pl sk (rk_drop (s)) hd 0  K_65) rfl rfl (Nat.le_of_ble_eq_true rfl) (by omega) (by omega) (by omega) (q := 132) rfl (fun r9 h_70 hr9 => ?_)
            obtain ⟨er9, K_71, kp_72⟩ := hr9
            subst er9
            have Kp_74 := pl_kp Kp_68 K_65 kp_72
            have kq_73 : kp h h_70 [k, sk] := kp_mono (kp_tr kq_67 kp_72) (by simp)
            have U_75 := ru_kp U0 K0 kq_73
            show aw G 9 M 132 [.ref k, .ref (rd 0), .int (nI r), .int ab, .int (nI e), .int (nI i), .int ((ru_a T) i), .long (rk_top (s)), .retAddr 0] [.long (rk_top (rk_drop (s))), .int ((ru_a T) i)] h_70 0 0
            refine aw_lload C dX4_holds_132 rfl (q := 134) rfl ?_
            refine csX4_58 (As := [.int ((ru_a T) i), .long (rk_top (rk_drop (s))), .long (rk_top (s))]) (rest := []) C B dX4_holds_134 (c_compare G M.2.1 h_70 (d + 1) ((ru_a T) i) (rk_top (rk_drop (s))) (rk_top (s))) rfl rfl (Nat.le_of_ble_eq_true rfl) (by omega) (by omega) (by omega) (q := 137) rfl (fun r9 h9 hr9 => ?_)
            obtain ⟨e9, er9⟩ := hr9
            subst er9; rw [e9]
            show aw G 9 M 137 [.ref k, .ref (rd 0), .int (nI r), .int ab, .int (nI e), .int (nI i), .int ((ru_a T) i), .long (rk_top (s)), .retAddr 0] [.int (pb_b (rk_cmp ((ru_a T) i) (rk_top (rk_drop (s))) (rk_top (s)) = true))] h_70 0 0
            refine aw_if_ne (t := 142) (q := 140) C dX4_holds_137 (by decide) rfl (fun c_137 => ?_) (fun c_137 => ?_)
            ·
              refine aw_aload_n C dX4_holds_142 rfl rfl (q := 143) rfl ?_
              refine aw_dup C dX4_holds_143 rfl (q := 144) rfl ?_
              refine gfX4_23_4 (v := .int hd) C dX4_holds_144 K_71.1 rfl (q := 147) rfl ?_
              refine aw_iconst (v := 1) C dX4_holds_147 (by decide) (q := 148) rfl ?_
              refine aw_iadd C dX4_holds_148 (q := 149) rfl ?_
              refine pfX4_23_4 C dX4_holds_149 K_71.1 rfl rfl (Nat.le_of_ble_eq_true rfl) (q := 152) rfl ?_
              show aw G 9 M 152 [.ref k, .ref (rd 0), .int (nI r), .int ab, .int (nI e), .int (nI i), .int ((ru_a T) i), .long (rk_top (s)), .retAddr 0] [] (ac_up h_70 k (.inr (4, [.ref pl, .ref sk, .int (nI (rk_drop (rk_drop (s))).2), .int (hd + 1), .int 0]))) 0 0
              obtain ⟨h_76, eh_76⟩ : ∃ z, z = ac_up h_70 k (.inr (4, [.ref pl, .ref sk, .int (nI (rk_drop (rk_drop (s))).2), .int (hd + 1), .int 0])) := ⟨_, rfl⟩
              rw [← eh_76]
              have f_77 : h_76 sk = some (.inl (2, 32, .inr (.inl ((rk_drop (rk_drop (s))).1)))) := by rw [eh_76, ac_up_n _ _ K_71.ne]; exact K_71.2.1
              have f_78 : h_76 k = some (.inr (4, [.ref pl, .ref sk, .int (nI (rk_drop (rk_drop (s))).2), .int (hd + 1), .int 0])) := by rw [eh_76]; exact ac_up_s _ _ _
              have kp_79 : kp h h_76 [k, sk] := by rw [eh_76]; exact kp_up kq_73 _ _ (by simp)
              have K_80 : rk_ok h_76 k pl sk (rk_drop (rk_drop (s))) (hd + 1) 0 := ⟨f_78, f_77, K_71.2.2⟩
              have Kp_81 := pl_kp Kp0 K0 kp_79
              have U_82 := ru_kp U0 K0 kp_79
              refine aw_goto (q := 169) C dX4_holds_152 (by decide) ?_
              refine aw_aload_n C dX4_holds_169 rfl rfl (q := 170) rfl ?_
              refine gfX4_26_4 (v := .int 0) C dX4_holds_170 f_78 rfl (q := 173) rfl ?_
              refine aw_if_eq (t := 178) (q := 176) C dX4_holds_173 (by decide) rfl (fun c_173 => ?_) (fun c_173 => absurd c_173 (by decide))
              refine aw_iinc (v := nI (i + 1)) (ls' := [.ref k, .ref (rd 0), .int (nI r), .int ab, .int (nI e), .int (nI (i + 1)), .int ((ru_a T) i), .long (rk_top (s)), .retAddr 0]) C dX4_holds_178 rfl (nI_1 i) (by decide) rfl (q := 181) rfl ?_
              refine aw_goto (q := 51) C dX4_holds_181 (by decide) ?_
              refine ih (i + 1) _ _ h_76 _ _ _ (by omega) K_80 kp_79 ?_
              rw [← hR]
              conv => rhs; unfold rk_hold
              rw [if_pos (Or.inr (Or.inr (Or.inr c_117))), if_pos (pb_n c_137)]
            ·
              refine aw_iconst (v := 0) C dX4_holds_140 (by decide) (q := 141) rfl ?_
              refine aw_zret C E dX4_holds_141 (rfl) (Nat.le_refl _) (Nat.le_refl _) ?_
              have hR2 : R = (false, hd, 0) := by rw [← hR]; unfold rk_hold; rw [if_pos (Or.inr (Or.inr (Or.inr c_117))), if_neg (pb_0.mp c_137)]
              exact ⟨by rw [hR2]; rfl, ⟨_, by rw [hR2]; exact K_71⟩, kq_73⟩
set_option maxHeartbeats 4000000 in
set_option maxRecDepth 100000 in
theorem c_holds (G : ac_G) (l : Launch) (h : ac_H) (d : Nat) (k pl sk : Nat) (s : rk_S) (hd ca : Int32) (A : Nat → Nat) (I : Nat → Int32) (F : Nat → Nat → Int32) (c : Nat) (rd : Nat → Nat) (T : ru_D) (r : Nat) (ab : Int32) (K : rk_ok h k pl sk s hd ca) (Kp : pl_ok h pl A I F c) (U : ru_ok h rd T) (hw : ru_wf T) (hr : r < ru_cnt T) : ac_Met G l yX4_holds cX4_holds 9 (some .boolean) (d + 4) 0 0 [.ref k, .ref (rd 0), .int (nI r), .int ab] h (fun r9 h9 => r9 = some (.int (pb_b ((rk_hold I F c ab (ru_a T) (ru_o T) (ru_b T (r + 1) - ru_b T r) (ru_b T r) (s.1, 0) 0).1 = true))) ∧ (∃ s9, rk_ok h9 k pl sk s9 (rk_hold I F c ab (ru_a T) (ru_o T) (ru_b T (r + 1) - ru_b T r) (ru_b T r) (s.1, 0) 0).2.1 (rk_hold I F c ab (ru_a T) (ru_o T) (ru_b T (r + 1) - ru_b T r) (ru_b T r) (s.1, 0) 0).2.2) ∧ kp h h9 [k, sk]) := by
  refine ac_of (ls := [.ref k, .ref (rd 0), .int (nI r), .int ab, .retAddr 0, .retAddr 0, .retAddr 0, .retAddr 0, .retAddr 0]) (by decide +kernel) rfl (Nat.le_of_ble_eq_true rfl) (fun M hl C B E hnm => ?_)
  obtain ⟨w1, w2, w3, w4⟩ := id hw
  refine aw_aload_n C dX4_holds_0 rfl rfl (q := 1) rfl ?_
  refine aw_iconst (v := 0) C dX4_holds_1 (by decide) (q := 2) rfl ?_
  refine pfX4_19_4 C dX4_holds_2 K.1 rfl rfl (Nat.le_of_ble_eq_true rfl) (q := 5) rfl ?_
  show aw G 9 M 5 [.ref k, .ref (rd 0), .int (nI r), .int ab, .retAddr 0, .retAddr 0, .retAddr 0, .retAddr 0, .retAddr 0] [] (ac_up h k (.inr (4, [.ref pl, .ref sk, .int 0, .int hd, .int ca]))) 0 0
  obtain ⟨h_1, eh_1⟩ : ∃ z, z = ac_up h k (.inr (4, [.ref pl, .ref sk, .int 0, .int hd, .int ca])) := ⟨_, rfl⟩
  rw [← eh_1]
  have f_2 : h_1 sk = some (.inl (2, 32, .inr (.inl ((s).1)))) := by rw [eh_1, ac_up_n _ _ K.ne]; exact K.2.1
  have f_3 : h_1 k = some (.inr (4, [.ref pl, .ref sk, .int 0, .int hd, .int ca])) := by rw [eh_1]; exact ac_up_s _ _ _
  have kp_4 : kp h h_1 [k] := by rw [eh_1]; exact kp_up (kp_cons k kp_rf) _ _ (by simp)
  refine aw_aload_n C dX4_holds_5 rfl rfl (q := 6) rfl ?_
  refine aw_iconst (v := 0) C dX4_holds_6 (by decide) (q := 7) rfl ?_
  refine pfX4_23_4 C dX4_holds_7 f_3 rfl rfl (Nat.le_of_ble_eq_true rfl) (q := 10) rfl ?_
  show aw G 9 M 10 [.ref k, .ref (rd 0), .int (nI r), .int ab, .retAddr 0, .retAddr 0, .retAddr 0, .retAddr 0, .retAddr 0] [] (ac_up h_1 k (.inr (4, [.ref pl, .ref sk, .int 0, .int 0, .int ca]))) 0 0
  obtain ⟨h_5, eh_5⟩ : ∃ z, z = ac_up h_1 k (.inr (4, [.ref pl, .ref sk, .int 0, .int 0, .int ca])) := ⟨_, rfl⟩
  rw [← eh_5]
  have f_6 : h_5 sk = some (.inl (2, 32, .inr (.inl ((s).1)))) := by rw [eh_5, ac_up_n _ _ K.ne]; exact f_2
  have f_7 : h_5 k = some (.inr (4, [.ref pl, .ref sk, .int 0, .int 0, .int ca])) := by rw [eh_5]; exact ac_up_s _ _ _
  have kp_8 : kp h h_5 [k] := by rw [eh_5]; exact kp_up kp_4 _ _ (by simp)
  refine aw_aload_n C dX4_holds_10 rfl rfl (q := 11) rfl ?_
  refine aw_iconst (v := 0) C dX4_holds_11 (by decide) (q := 12) rfl ?_
  refine pfX4_26_4 C dX4_holds_12 f_7 rfl rfl (Nat.le_of_ble_eq_true rfl) (q := 15) rfl ?_
  show aw G 9 M 15 [.ref k, .ref (rd 0), .int (nI r), .int ab, .retAddr 0, .retAddr 0, .retAddr 0, .retAddr 0, .retAddr 0] [] (ac_up h_5 k (.inr (4, [.ref pl, .ref sk, .int 0, .int 0, .int 0]))) 0 0
  obtain ⟨h_9, eh_9⟩ : ∃ z, z = ac_up h_5 k (.inr (4, [.ref pl, .ref sk, .int 0, .int 0, .int 0])) := ⟨_, rfl⟩
  rw [← eh_9]
  have f_10 : h_9 sk = some (.inl (2, 32, .inr (.inl ((s).1)))) := by rw [eh_9, ac_up_n _ _ K.ne]; exact f_6
  have f_11 : h_9 k = some (.inr (4, [.ref pl, .ref sk, .int 0, .int 0, .int 0])) := by rw [eh_9]; exact ac_up_s _ _ _
  have kp_12 : kp h h_9 [k] := by rw [eh_9]; exact kp_up kp_8 _ _ (by simp)
  have K1 : rk_ok h_9 k pl sk (s.1, 0) 0 0 := ⟨f_11, f_10, by show 0 ≤ 32; omega⟩
  have kq1 : kp h h_9 [k, sk] := kp_mono kp_12 (by simp)
  have U1 := ru_kp U K kq1
  refine aw_iload_n C dX4_holds_15 rfl rfl (q := 16) rfl ?_
  refine aw_bipush (v := 12) C dX4_holds_16 (by decide) (q := 18) rfl ?_
  refine csX4_29 (As := [.int (nI r), .int 12]) (rest := []) C B dX4_holds_18 (c_isBelow G M.2.1 h_9 (d + 1) (nI r) 12) rfl rfl (Nat.le_of_ble_eq_true rfl) (by omega) (by omega) (by omega) (q := 21) rfl (fun r9 h9 hr9 => ?_)
  obtain ⟨e9, er9⟩ := hr9
  subst er9; rw [e9]
  show aw G 9 M 21 [.ref k, .ref (rd 0), .int (nI r), .int ab, .retAddr 0, .retAddr 0, .retAddr 0, .retAddr 0, .retAddr 0] [.int (pb_b (¬ (nI r) < 0 ∧ ¬ 12 ≤ (nI r)))] h_9 0 0
  refine aw_if_ne (t := 26) (q := 24) C dX4_holds_21 (by decide) rfl (fun c_21 => ?_) (fun c_21 => absurd c_21 (fun q => (pb_0.mp q) ⟨nI_pos (by omega), ni_nge r 12 rfl rfl (by omega) (by decide) (by omega)⟩))
  refine aw_aload_n C dX4_holds_26 rfl rfl (q := 27) rfl ?_
  refine gfX4_33_6 (v := .ref (rd 2)) C dX4_holds_27 U1.1 rfl (q := 30) rfl ?_
  refine aw_iload_n C dX4_holds_30 rfl rfl (q := 31) rfl ?_
  refine aw_iconst (v := 1) C dX4_holds_31 (by decide) (q := 32) rfl ?_
  refine aw_iadd C dX4_holds_32 (q := 33) rfl ?_
  refine ay_iald (j := r + 1) C dX4_holds_33 U1.2.2.1 (by rw [show nI r + 1 = nI (r + 1) from nI_1 r]; exact vp_in_nI (by omega) (by decide)) (by rw [show nI r + 1 = nI (r + 1) from nI_1 r]; exact nI_clamp (by omega)) (q := 34) rfl ?_
  refine aw_aload_n C dX4_holds_34 rfl rfl (q := 35) rfl ?_
  refine gfX4_39_6 (v := .int (nI (ru_sc T))) C dX4_holds_35 U1.1 rfl (q := 38) rfl ?_
  refine csX4_42 (As := [.int ((fun r => nI (ru_b T r)) (r + 1)), .int (nI (ru_sc T))]) (rest := []) C B dX4_holds_38 (c_mini G M.2.1 h_9 (d + 1) ((fun r => nI (ru_b T r)) (r + 1)) (nI (ru_sc T))) rfl rfl (Nat.le_of_ble_eq_true rfl) (by omega) (by omega) (by omega) (q := 41) rfl (fun r9 h9 hr9 => ?_)
  obtain ⟨e9, er9⟩ := hr9
  subst er9; rw [e9]
  show aw G 9 M 41 [.ref k, .ref (rd 0), .int (nI r), .int ab, .retAddr 0, .retAddr 0, .retAddr 0, .retAddr 0, .retAddr 0] [.int (mn_i ((fun r => nI (ru_b T r)) (r + 1)) (nI (ru_sc T)))] h_9 0 0
  rw [mn_nI (w4 r hr).2 (by omega)]
  refine aw_istore (ls' := [.ref k, .ref (rd 0), .int (nI r), .int ab, .int (nI (ru_b T (r + 1))), .retAddr 0, .retAddr 0, .retAddr 0, .retAddr 0]) C dX4_holds_41 (by decide) rfl (q := 43) rfl ?_
  refine aw_aload_n C dX4_holds_43 rfl rfl (q := 44) rfl ?_
  refine gfX4_33_6 (v := .ref (rd 2)) C dX4_holds_44 U1.1 rfl (q := 47) rfl ?_
  refine aw_iload_n C dX4_holds_47 rfl rfl (q := 48) rfl ?_
  refine ay_iald (j := r) C dX4_holds_48 U1.2.2.1 (vp_in_nI (by omega) (by decide)) (nI_clamp (by omega)) (q := 49) rfl ?_
  refine aw_istore (ls' := [.ref k, .ref (rd 0), .int (nI r), .int ab, .int (nI (ru_b T (r + 1))), .int ((fun r => nI (ru_b T r)) r), .retAddr 0, .retAddr 0, .retAddr 0]) C dX4_holds_49 (by decide) rfl (q := 51) rfl ?_
  exact lp_holds (R := rk_hold I F c ab (ru_a T) (ru_o T) (ru_b T (r + 1) - ru_b T r) (ru_b T r) (s.1, 0) 0) C B E K Kp U hw (w4 r hr).2 _ _ _ _ _ _ _ _ (by have := (w4 r hr).1; omega) K1 kq1 rfl
