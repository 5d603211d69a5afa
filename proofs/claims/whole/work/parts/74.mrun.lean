/-! The reference: run -/
theorem rk_step_ca {I : Nat → Int32} {F : Nat → Nat → Int32} {c : Nat} {act op ab : Int32} {s : rk_S} : (rk_step I F c act op ab s 0).2 = 0 ∨ 0 < (rk_step I F c act op ab s 0).2 := by
  unfold rk_step
  by_cases h1 : act = 35
  · rw [if_pos h1]; exact Or.inl rfl
  rw [if_neg h1]
  by_cases h2 : act = 42 ∨ act = 43 ∨ act = 45 ∨ act = 47
  · rw [if_pos h2]
    cases (rk_comb act (rk_top (rk_drop s)) (rk_top s)).2
    · exact Or.inl rfl
    · exact Or.inr (by show (0 : Int32) < 1; decide)
  rw [if_neg h2]
  by_cases h3 : act = 99
  · rw [if_pos h3]; exact Or.inl rfl
  rw [if_neg h3]
  by_cases h4 : act = 102
  · rw [if_pos h4]
    cases (rk_fo F c (rk_top s) ab).2
    · exact Or.inl rfl
    · exact Or.inr (by show (0 : Int32) < 2; decide)
  rw [if_neg h4]
  by_cases h5 : act = 126
  · rw [if_pos h5]; exact Or.inl rfl
  · rw [if_neg h5]; exact Or.inl rfl
theorem rk_hold_ca {I : Nat → Int32} {F : Nat → Nat → Int32} {c : Nat} {ab : Int32} {af of : Nat → Int32} : ∀ (m i : Nat) (s : rk_S) (hd : Int32), ((rk_hold I F c ab af of m i s hd).2.2 = 0 ∨ 0 < (rk_hold I F c ab af of m i s hd).2.2) ∧ ((rk_hold I F c ab af of m i s hd).1 = true → (rk_hold I F c ab af of m i s hd).2.2 = 0) := by
  intro m
  induction m with
  | zero => intro i s hd; exact ⟨Or.inl rfl, fun _ => rfl⟩
  | succ m ih =>
    intro i s hd
    unfold rk_hold
    by_cases h1 : af i = 60 ∨ af i = 62 ∨ af i = 61 ∨ af i = 33
    · rw [if_pos h1]
      by_cases h2 : rk_cmp (af i) (rk_top (rk_drop s)) (rk_top s) = true
      · rw [if_pos h2]; exact ih _ _ _
      · rw [if_neg h2]; exact ⟨Or.inl rfl, fun z => by cases z⟩
    · rw [if_neg h1]
      by_cases h2 : (rk_step I F c (af i) (of i) ab s 0).2 = 0
      · rw [if_pos h2]; exact ih _ _ _
      · rw [if_neg h2]; exact ⟨rk_step_ca, fun z => by cases z⟩
theorem eq_wf_eq {gf g' : Nat → Int32} : ∀ (m i t : Nat), eq_wf gf m i t → (∀ j, i ≤ j → j < i + m → g' j = gf j) → eq_wf g' m i t := by
  intro m
  induction m with
  | zero => intro i t _ _; exact True.intro
  | succ m ih =>
    intro i t h e
    obtain ⟨t', h1, h2⟩ := h
    exact ⟨t', by rw [e i (Nat.le_refl _) (by omega)]; exact h1, ih (i + 1) t' h2 (fun j h3 h4 => e j (by omega) (by omega))⟩
theorem eq_tx_at {A A' : Nat → Nat → Int32} {t t' : Nat} {T : ru_D} (x : eq_tx A t T) (h8 : A' 8 t' = A 8 t) (h9 : ∀ i, i < 13 → A' 9 (13 * t' + i) = A 9 (13 * t + i) ∧ A' 10 (13 * t' + i) = A 10 (13 * t + i)) (h5 : ∀ i, i < 400 → A' 5 (400 * t' + i) = A 5 (400 * t + i) ∧ A' 6 (400 * t' + i) = A 6 (400 * t + i)) : eq_tx A' t' T := by
  obtain ⟨t1, t2, t3, t4, t5, t6, t7⟩ := x
  refine ⟨h8.trans t1, t2, fun r hr => ⟨(h9 r (by omega)).2.trans (t3 r hr).1, (t3 r hr).2⟩, fun r hr => (h9 r (by omega)).1.trans (t4 r hr), t5, fun r hr i hi => ?_, fun r hr => ?_⟩
  · have := t5 r hr
    rw [(h5 i (by omega)).1, (h5 i (by omega)).2]; exact t6 r hr i hi
  · have := t5 r hr
    exact eq_wf_eq _ _ _ (t7 r hr) (fun j h1 h2 => (h5 j (by omega)).1)
theorem eq_tx_cp {A A' : Nat → Nat → Int32} {t fr : Nat} {T : ru_D} (x : eq_tx A fr T) (h5 : A' 5 = mo_cpr (A 5) 400 t fr 400) (h6 : A' 6 = mo_cpr (A 6) 400 t fr 400) (h9 : A' 9 = mo_cpr (A 9) 13 t fr 13) (h10 : A' 10 = mo_cpr (A 10) 13 t fr 13) (h8 : A' 8 = upd (A 8) t (A 8 fr)) : eq_tx A' t T :=
  eq_tx_at x (by rw [h8]; exact if_pos rfl) (fun i hi => ⟨by rw [h9]; exact mo_cpr_in hi, by rw [h10]; exact mo_cpr_in hi⟩) (fun i hi => ⟨by rw [h5]; exact mo_cpr_in hi, by rw [h6]; exact mo_cpr_in hi⟩)
theorem eq_tx_ts {A A' : Nat → Nat → Int32} {t t' fr : Nat} {T : ru_D} (x : eq_tx A t' T) (hne : ¬ t = t') (h5 : A' 5 = mo_cpr (A 5) 400 t fr 400) (h6 : A' 6 = mo_cpr (A 6) 400 t fr 400) (h9 : A' 9 = mo_cpr (A 9) 13 t fr 13) (h10 : A' 10 = mo_cpr (A 10) 13 t fr 13) (h8 : A' 8 = upd (A 8) t (A 8 fr)) : eq_tx A' t' T :=
  eq_tx_at x (by rw [h8]; exact if_neg (fun z => hne z.symm)) (fun i hi => ⟨by rw [h9]; exact mo_cpr_out hi hne, by rw [h10]; exact mo_cpr_out hi hne⟩) (fun i hi => ⟨by rw [h5]; exact mo_cpr_out hi hne, by rw [h6]; exact mo_cpr_out hi hne⟩)
abbrev rp_X : Type := Int32 × Nat × Nat × (Nat → Nat → Int32)
theorem rp_take_g {I : Nat → Int32} {F : Nat → Nat → Int32} {c : Nat} {T : ru_D} (hg : ∀ r, r < ru_cnt T → gt_bl (ru_g T r) 10) : ∀ (m r oc : Nat) (O : Nat → Nat → Int32), r + m = ru_cnt T → ¬ (rp_take I F c T m r oc O).1 < -1 ∧ (rp_take I F c T m r oc O).1 < 10 := by
  intro m
  induction m with
  | zero => intro r oc O _; show ¬ (-1 : Int32) < -1 ∧ (-1 : Int32) < 10; decide
  | succ m ih =>
    intro r oc O hr
    unfold rp_take
    split
    · have := hg r (by omega)
      exact ⟨fun z => this.1 (Int32.lt_trans z (by decide)), Int32.not_le.mp this.2⟩
    · split
      · exact ih _ _ _ (by omega)
      · exact ih _ _ _ (by omega)
set_option maxHeartbeats 4000000 in
set_option maxRecDepth 100000 in
theorem ml_run {G : ac_G} {M : ac_M} {o : Nat} {md : Nat → Nat} (hm : md_inj md) {h : ac_H} {d : Nat} {s : md_S} {c : Nat} {I : Nat → Int32} {F : Nat → Nat → Int32} {T : ru_D} {day : Int64} {Y : rp_X} (b : eq_bd I F c s) (tx : eq_tx s.2.1 5 T) (C : ac_MC G RX9 cX9_run 6 (some .int) M) (B : ac_Bd M (d + 4) 0 0)
    (kk : ∀ (h2 : ac_H) (J2 : Nat → Int32) (A2 : Nat → Nat → Int32) (L2 : Nat → Nat → Int64) (v4 v5 : Value), md_ok h2 o md (J2, A2, L2) → kp h h2 (md_L o md) → md_eq [28, 29, 30, 32, 34] [33, 35, 36, 37] [27] s (J2, A2, L2) → J2 32 = nI Y.2.2.1 → J2 34 = nI Y.2.1 → A2 33 = Y.2.2.2 18 → A2 35 = Y.2.2.2 15 → A2 36 = Y.2.2.2 16 → A2 37 = Y.2.2.2 17 → aw G 6 M 203 [.ref o, .long day, .retAddr 0, .int Y.1, v4, v5] [] h2 0 0) :
    ∀ (m r oc : Nat) (O : Nat → Nat → Int32) (h1 : ac_H) (J1 : Nat → Int32) (A1 : Nat → Nat → Int32) (L1 : Nat → Nat → Int64) (v5 : Value), r + m = ru_cnt T → oc ≤ r → md_ok h1 o md (J1, A1, L1) → kp h h1 (md_L o md) → md_eq [28, 29, 30, 32, 34] [33, 35, 36, 37] [27] s (J1, A1, L1) → J1 32 = nI r → J1 34 = nI oc → A1 33 = O 18 → A1 35 = O 15 → A1 36 = O 16 → A1 37 = O 17 → rp_take I F c T m r oc O = Y → aw G 6 M 55 [.ref o, .long day, .retAddr 0, .int ((-1)), .int 1, v5] [] h1 0 0 := by
  have hc12 := tx.2.1
  intro m
  induction m with
  | zero =>
    intro r oc O h1 J1 A1 L1 v5 hr hoc K kq q h32 h34 r33 r35 r36 r37 hY
    have hr2 : r = ru_cnt T := by omega
    have e8 : A1 8 5 = nI (ru_cnt T) := by rw [show A1 8 = s.2.1 8 from q.2.1 8 (by decide)]; exact tx.1
    refine aw_iload C dX9_run_55 rfl (q := 57) rfl ?_
    refine aw_if_eq (t := 203) (q := 60) C dX9_run_57 (by decide) rfl (fun c_57 => absurd c_57 (by decide)) (fun c_57 => ?_)
    refine aw_aload_n C dX9_run_60 rfl rfl (q := 61) rfl ?_
    refine gfX9_270_9 (v := .int (J1 32)) C dX9_run_61 K.1 rfl (q := 64) rfl ?_
    refine aw_aload_n C dX9_run_64 rfl rfl (q := 65) rfl ?_
    refine gfX9_22_9 (v := .ref (md 8)) C dX9_run_65 K.1 rfl (q := 68) rfl ?_
    refine aw_iconst (v := 5) C dX9_run_68 (by decide) (q := 69) rfl ?_
    refine ay_iald (N := 7) (f := A1 8) (j := 5) C dX9_run_69 (K.2.1 8 (by decide)) (vp_in_nI (by decide) (by decide)) (rfl) (q := 70) rfl ?_
    refine aw_icmp_ge (t := 203) (q := 73) C dX9_run_70 (by decide) rfl (fun c_70 => ?_) (fun c_70 => absurd c_70 (fun z => z (by rw [h32, e8, hr2]; exact nI_le (Nat.le_refl _) (by omega))))
    subst hY
    exact kk h1 J1 A1 L1 _ _ K kq q h32 h34 r33 r35 r36 r37
  | succ m ih =>
    intro r oc O h1 J1 A1 L1 v5 hr hoc K kq q h32 h34 r33 r35 r36 r37 hY
    have hrc : r < ru_cnt T := by omega
    have e8 : A1 8 5 = nI (ru_cnt T) := by rw [show A1 8 = s.2.1 8 from q.2.1 8 (by decide)]; exact tx.1
    have b' : eq_bd I F c (J1, A1, L1) := eq_bd_eq b q (by decide) (by decide)
    have tx' : eq_tx A1 5 T := eq_tx_at tx (by rw [show A1 8 = s.2.1 8 from q.2.1 8 (by decide)]) (fun i _ => ⟨by rw [show A1 9 = s.2.1 9 from q.2.1 9 (by decide)], by rw [show A1 10 = s.2.1 10 from q.2.1 10 (by decide)]⟩) (fun i _ => ⟨by rw [show A1 5 = s.2.1 5 from q.2.1 5 (by decide)], by rw [show A1 6 = s.2.1 6 from q.2.1 6 (by decide)]⟩)
    have hca : ((rk_rule I F c 0 T r).2.2 = 0 ∨ 0 < (rk_rule I F c 0 T r).2.2) ∧ ((rk_rule I F c 0 T r).1 = true → (rk_rule I F c 0 T r).2.2 = 0) := rk_hold_ca _ _ _ _
    replace hY : (if (rk_rule I F c 0 T r).1 = true then (ru_g T r, oc, r + 1, va_up O 18 (upd (O 18) r (rk_rule I F c 0 T r).2.1)) else if (rk_rule I F c 0 T r).2.2 = 0 then rp_take I F c T m (r + 1) oc (va_up O 18 (upd (O 18) r (rk_rule I F c 0 T r).2.1)) else rp_take I F c T m (r + 1) (oc + 1) (rp_add (va_up O 18 (upd (O 18) r (rk_rule I F c 0 T r).2.1)) oc (nI r) (rk_rule I F c 0 T r).2.1 (rk_rule I F c 0 T r).2.2)) = Y := hY
    refine aw_iload C dX9_run_55 rfl (q := 57) rfl ?_
    refine aw_if_eq (t := 203) (q := 60) C dX9_run_57 (by decide) rfl (fun c_57 => absurd c_57 (by decide)) (fun c_57 => ?_)
    refine aw_aload_n C dX9_run_60 rfl rfl (q := 61) rfl ?_
    refine gfX9_270_9 (v := .int (J1 32)) C dX9_run_61 K.1 rfl (q := 64) rfl ?_
    refine aw_aload_n C dX9_run_64 rfl rfl (q := 65) rfl ?_
    refine gfX9_22_9 (v := .ref (md 8)) C dX9_run_65 K.1 rfl (q := 68) rfl ?_
    refine aw_iconst (v := 5) C dX9_run_68 (by decide) (q := 69) rfl ?_
    refine ay_iald (N := 7) (f := A1 8) (j := 5) C dX9_run_69 (K.2.1 8 (by decide)) (vp_in_nI (by decide) (by decide)) (rfl) (q := 70) rfl ?_
    refine aw_icmp_ge (t := 203) (q := 73) C dX9_run_70 (by decide) rfl (fun c_70 => absurd c_70 (by rw [h32, e8]; exact ni_nge r (ru_cnt T) rfl rfl (by omega) (by omega) hrc)) (fun c_70 => ?_)
    refine aw_aload_n C dX9_run_73 rfl rfl (q := 74) rfl ?_
    refine aw_iconst (v := 5) C dX9_run_74 (by decide) (q := 75) rfl ?_
    refine aw_aload_n C dX9_run_75 rfl rfl (q := 76) rfl ?_
    refine gfX9_270_9 (v := .int (J1 32)) C dX9_run_76 K.1 rfl (q := 79) rfl ?_
    rw [h32]
    refine aw_sipush (v := 1023) C dX9_run_79 (by decide) (q := 82) rfl ?_
    refine cvX9_255_9 (As := [.int 5, .int (nI r), .int 1023]) (rest := []) C B dX9_run_82 K.1 (m_rule hm d K b' eq_bit0 (by decide) tx' r hrc) rfl rfl (Nat.le_of_ble_eq_true rfl) (by omega) (by omega) (by omega) (q := 85) rfl (fun r9 h_1 hr9 => ?_)
    obtain ⟨⟨J2, A2, L2⟩, er9, K_2, q2, h30, h29, h28, kpx_3⟩ := hr9
    subst er9
    have eA : A1 = A2 := md_eq_A0 q2
    subst eA
    have kq_4 : kp h h_1 (md_L o md) := kp_in kq kpx_3 (fun _ z => z)
    show aw G 6 M 85 [.ref o, .long day, .retAddr 0, .int ((-1)), .int 1, v5] [.int (pb_b ((rk_rule I F c 0 T r).1 = true))] h_1 0 0
    replace h30 : J2 30 = (rk_rule I F c 0 T r).2.1 := h30
    replace h29 : J2 29 = (rk_rule I F c 0 T r).2.2 := h29
    replace h28 : ¬ (rk_rule I F c 0 T r).2.2 = 0 → J2 28 = (rk_rule I F c 0 T r).2.1 := h28
    have h32b : J2 32 = nI r := (q2.1 32 (by decide)).trans h32
    have h34b : J2 34 = nI oc := (q2.1 34 (by decide)).trans h34
    refine aw_istore (ls' := [.ref o, .long day, .retAddr 0, .int ((-1)), .int 1, .int (pb_b ((rk_rule I F c 0 T r).1 = true))]) C dX9_run_85 (by decide) rfl (q := 87) rfl ?_
    refine aw_aload_n C dX9_run_87 rfl rfl (q := 88) rfl ?_
    refine gfX9_62_9 (v := .ref (md 33)) C dX9_run_88 K_2.1 rfl (q := 91) rfl ?_
    refine aw_aload_n C dX9_run_91 rfl rfl (q := 92) rfl ?_
    refine gfX9_270_9 (v := .int (J2 32)) C dX9_run_92 K_2.1 rfl (q := 95) rfl ?_
    refine aw_aload_n C dX9_run_95 rfl rfl (q := 96) rfl ?_
    refine gfX9_234_9 (v := .int (J2 30)) C dX9_run_96 K_2.1 rfl (q := 99) rfl ?_
    refine ay_iast (N := 12) (f := A1 33) (j := r) C dX9_run_99 (K_2.2.1 33 (by decide)) (by rw [h32b]; exact vp_in_nI (by omega) (by decide)) (by rw [h32b]; exact nI_clamp (by omega)) (q := 100) rfl ?_
    show aw G 6 M 100 [.ref o, .long day, .retAddr 0, .int ((-1)), .int 1, .int (pb_b ((rk_rule I F c 0 T r).1 = true))] [] (ac_up h_1 (md 33) (.inl (1, 12, .inl (upd (A1 33) r (J2 30))))) 0 0
    obtain ⟨h_5, eh_5⟩ : ∃ z9, z9 = ac_up h_1 (md 33) (.inl (1, 12, .inl (upd (A1 33) r (J2 30)))) := ⟨_, rfl⟩
    rw [← eh_5]
    have kpx_8 : kp h_1 h_5 [md 33] := by rw [eh_5]; exact kp_up (kp_cons _ kp_rf) _ _ (by simp)
    have K_6 : md_ok h_5 o md (J2, va_up A1 33 (upd (A1 33) r (J2 30)), L2) := md_A (s := (J2, A1, L2)) hm K_2 (j := 33) (by decide) (by rw [eh_5]; exact ac_up_s _ _ _) kpx_8
    have kq_7 : kp h h_5 (md_L o md) := kp_in kq_4 kpx_8 (md_sj (by decide))
    refine aw_aload_n C dX9_run_100 rfl rfl (q := 101) rfl ?_
    refine gfX9_231_9 (v := .int (J2 29)) C dX9_run_101 K_6.1 rfl (q := 104) rfl ?_
    refine aw_if_le (t := 156) (q := 107) C dX9_run_104 (by decide) rfl (fun c_104 => ?_) (fun c_104 => ?_)
    ·
      refine aw_iload C dX9_run_156 rfl (q := 158) rfl ?_
      refine aw_if_eq (t := 176) (q := 161) C dX9_run_158 (by decide) rfl (fun c_158 => ?_) (fun c_158 => ?_)
      ·
        refine aw_iconst (v := (-1)) C dX9_run_176 (by decide) (q := 177) rfl ?_
        refine aw_istore_n (ls' := [.ref o, .long day, .retAddr 0, .int ((-1)), .int 1, .int (pb_b ((rk_rule I F c 0 T r).1 = true))]) C dX9_run_177 rfl (by decide) rfl (q := 178) rfl ?_
        refine aw_iload C dX9_run_178 rfl (q := 180) rfl ?_
        refine aw_if_ne (t := 187) (q := 183) C dX9_run_180 (by decide) rfl (fun c_180 => absurd c_180 (fun z => z c_158)) (fun c_180 => ?_)
        refine aw_iconst (v := 1) C dX9_run_183 (by decide) (q := 184) rfl ?_
        refine aw_goto (q := 188) C dX9_run_184 (by decide) ?_
        refine aw_istore (ls' := [.ref o, .long day, .retAddr 0, .int ((-1)), .int 1, .int (pb_b ((rk_rule I F c 0 T r).1 = true))]) C dX9_run_188 (by decide) rfl (q := 190) rfl ?_
        refine aw_aload_n C dX9_run_190 rfl rfl (q := 191) rfl ?_
        refine aw_dup C dX9_run_191 rfl (q := 192) rfl ?_
        refine gfX9_270_9 (v := .int (J2 32)) C dX9_run_192 K_6.1 rfl (q := 195) rfl ?_
        refine aw_iconst (v := 1) C dX9_run_195 (by decide) (q := 196) rfl ?_
        refine aw_iadd C dX9_run_196 (q := 197) rfl ?_
        rw [show J2 32 + 1 = nI (r + 1) from by rw [h32b]; exact nI_1 _]
        refine pfX9_270_9 C dX9_run_197 K_6.1 rfl rfl (Nat.le_of_ble_eq_true rfl) (q := 200) rfl ?_
        show aw G 6 M 200 [.ref o, .long day, .retAddr 0, .int ((-1)), .int 1, .int (pb_b ((rk_rule I F c 0 T r).1 = true))] [] (ac_up h_5 o (.inr (9, md_fs md ((upd J2 32 (nI (r + 1)), va_up A1 33 (upd (A1 33) r (J2 30)), L2).1)))) 0 0
        obtain ⟨h_9, eh_9⟩ : ∃ z9, z9 = ac_up h_5 o (.inr (9, md_fs md ((upd J2 32 (nI (r + 1)), va_up A1 33 (upd (A1 33) r (J2 30)), L2).1))) := ⟨_, rfl⟩
        rw [← eh_9]
        have kpx_12 : kp h_5 h_9 [o] := by rw [eh_9]; exact kp_up (kp_cons o kp_rf) _ _ (by simp)
        have K_10 : md_ok h_9 o md (upd J2 32 (nI (r + 1)), va_up A1 33 (upd (A1 33) r (J2 30)), L2) := md_J (s := (J2, va_up A1 33 (upd (A1 33) r (J2 30)), L2)) K_6 (by rw [eh_9]; exact ac_up_s _ _ _) kpx_12
        have kq_11 : kp h h_9 (md_L o md) := kp_in kq_7 kpx_12 md_s0
        refine aw_goto (q := 55) C dX9_run_200 (by decide) ?_
        have hz : (rk_rule I F c 0 T r).2.2 = 0 := hca.1.elim id (fun z => absurd c_104 (by rw [h29]; exact Int32.not_le.mpr z))
        rw [if_neg (pb_0.mp c_158), if_pos hz] at hY
        exact ih (r + 1) oc (va_up O 18 (upd (O 18) r (rk_rule I F c 0 T r).2.1)) h_9 (upd J2 32 (nI (r + 1))) (va_up A1 33 (upd (A1 33) r (J2 30))) L2 _ (by omega) (by omega) K_10 kq_11 (md_eq_J (s1 := (J2, va_up A1 33 (upd (A1 33) r (J2 30)), L2)) (md_eq_A (s1 := (J2, A1, L2)) (md_eq_tr q q2 (by decide) (by decide) (by decide)) (upd (A1 33) r (J2 30)) (j := 33) (by decide)) (nI (r + 1)) (j := 32) (by decide)) rfl h34b (by show upd (A1 33) r (J2 30) = _; rw [r33, h30]; rfl) r35 r36 r37 hY
      ·
        refine aw_aload_n C dX9_run_161 rfl rfl (q := 162) rfl ?_
        refine gfX9_28_9 (v := .ref (md 10)) C dX9_run_162 K_6.1 rfl (q := 165) rfl ?_
        refine aw_bipush (v := 65) C dX9_run_165 (by decide) (q := 167) rfl ?_
        refine aw_aload_n C dX9_run_167 rfl rfl (q := 168) rfl ?_
        refine gfX9_270_9 (v := .int (J2 32)) C dX9_run_168 K_6.1 rfl (q := 171) rfl ?_
        refine aw_iadd C dX9_run_171 (q := 172) rfl ?_
        refine ay_iald (N := 91) (f := A1 10) (j := 65 + r) C dX9_run_172 (K_6.2.1 10 (by decide)) (by rw [h32b, show (65 : Int32) = nI 65 from rfl, nI_add]; exact vp_in_nI (by omega) (by decide)) (by rw [h32b, show (65 : Int32) = nI 65 from rfl, nI_add]; exact nI_clamp (by omega)) (q := 173) rfl ?_
        refine aw_goto (q := 177) C dX9_run_173 (by decide) ?_
        rw [show A1 10 (65 + r) = ru_g T r from (tx'.2.2.1 r hrc).1]
        refine aw_istore_n (ls' := [.ref o, .long day, .retAddr 0, .int (ru_g T r), .int 1, .int (pb_b ((rk_rule I F c 0 T r).1 = true))]) C dX9_run_177 rfl (by decide) rfl (q := 178) rfl ?_
        refine aw_iload C dX9_run_178 rfl (q := 180) rfl ?_
        refine aw_if_ne (t := 187) (q := 183) C dX9_run_180 (by decide) rfl (fun c_180 => ?_) (fun c_180 => absurd c_180 (c_158))
        refine aw_iconst (v := 0) C dX9_run_187 (by decide) (q := 188) rfl ?_
        refine aw_istore (ls' := [.ref o, .long day, .retAddr 0, .int (ru_g T r), .int 0, .int (pb_b ((rk_rule I F c 0 T r).1 = true))]) C dX9_run_188 (by decide) rfl (q := 190) rfl ?_
        refine aw_aload_n C dX9_run_190 rfl rfl (q := 191) rfl ?_
        refine aw_dup C dX9_run_191 rfl (q := 192) rfl ?_
        refine gfX9_270_9 (v := .int (J2 32)) C dX9_run_192 K_6.1 rfl (q := 195) rfl ?_
        refine aw_iconst (v := 1) C dX9_run_195 (by decide) (q := 196) rfl ?_
        refine aw_iadd C dX9_run_196 (q := 197) rfl ?_
        rw [show J2 32 + 1 = nI (r + 1) from by rw [h32b]; exact nI_1 _]
        refine pfX9_270_9 C dX9_run_197 K_6.1 rfl rfl (Nat.le_of_ble_eq_true rfl) (q := 200) rfl ?_
        show aw G 6 M 200 [.ref o, .long day, .retAddr 0, .int (ru_g T r), .int 0, .int (pb_b ((rk_rule I F c 0 T r).1 = true))] [] (ac_up h_5 o (.inr (9, md_fs md ((upd J2 32 (nI (r + 1)), va_up A1 33 (upd (A1 33) r (J2 30)), L2).1)))) 0 0
        obtain ⟨h_13, eh_13⟩ : ∃ z9, z9 = ac_up h_5 o (.inr (9, md_fs md ((upd J2 32 (nI (r + 1)), va_up A1 33 (upd (A1 33) r (J2 30)), L2).1))) := ⟨_, rfl⟩
        rw [← eh_13]
        have kpx_16 : kp h_5 h_13 [o] := by rw [eh_13]; exact kp_up (kp_cons o kp_rf) _ _ (by simp)
        have K_14 : md_ok h_13 o md (upd J2 32 (nI (r + 1)), va_up A1 33 (upd (A1 33) r (J2 30)), L2) := md_J (s := (J2, va_up A1 33 (upd (A1 33) r (J2 30)), L2)) K_6 (by rw [eh_13]; exact ac_up_s _ _ _) kpx_16
        have kq_15 : kp h h_13 (md_L o md) := kp_in kq_7 kpx_16 md_s0
        refine aw_goto (q := 55) C dX9_run_200 (by decide) ?_
        refine aw_iload C dX9_run_55 rfl (q := 57) rfl ?_
        refine aw_if_eq (t := 203) (q := 60) C dX9_run_57 (by decide) rfl (fun c_57 => ?_) (fun c_57 => absurd c_57 (by decide))
        rw [if_pos (pb_n c_158)] at hY
        subst hY
        exact kk h_13 (upd J2 32 (nI (r + 1))) (va_up A1 33 (upd (A1 33) r (J2 30))) L2 _ _ K_14 kq_15 (md_eq_J (s1 := (J2, va_up A1 33 (upd (A1 33) r (J2 30)), L2)) (md_eq_A (s1 := (J2, A1, L2)) (md_eq_tr q q2 (by decide) (by decide) (by decide)) (upd (A1 33) r (J2 30)) (j := 33) (by decide)) (nI (r + 1)) (j := 32) (by decide)) rfl h34b (by show upd (A1 33) r (J2 30) = _; rw [r33, h30]; rfl) r35 r36 r37
    ·
      refine aw_aload_n C dX9_run_107 rfl rfl (q := 108) rfl ?_
      refine gfX9_65_9 (v := .ref (md 35)) C dX9_run_108 K_6.1 rfl (q := 111) rfl ?_
      refine aw_aload_n C dX9_run_111 rfl rfl (q := 112) rfl ?_
      refine gfX9_273_9 (v := .int (J2 34)) C dX9_run_112 K_6.1 rfl (q := 115) rfl ?_
      refine aw_aload_n C dX9_run_115 rfl rfl (q := 116) rfl ?_
      refine gfX9_270_9 (v := .int (J2 32)) C dX9_run_116 K_6.1 rfl (q := 119) rfl ?_
      refine ay_iast (N := 12) (f := A1 35) (j := oc) C dX9_run_119 (K_6.2.1 35 (by decide)) (by rw [h34b]; exact vp_in_nI (by omega) (by decide)) (by rw [h34b]; exact nI_clamp (by omega)) (q := 120) rfl ?_
      show aw G 6 M 120 [.ref o, .long day, .retAddr 0, .int ((-1)), .int 1, .int (pb_b ((rk_rule I F c 0 T r).1 = true))] [] (ac_up h_5 (md 35) (.inl (1, 12, .inl (upd (A1 35) oc (J2 32))))) 0 0
      obtain ⟨h_17, eh_17⟩ : ∃ z9, z9 = ac_up h_5 (md 35) (.inl (1, 12, .inl (upd (A1 35) oc (J2 32)))) := ⟨_, rfl⟩
      rw [← eh_17]
      have kpx_20 : kp h_5 h_17 [md 35] := by rw [eh_17]; exact kp_up (kp_cons _ kp_rf) _ _ (by simp)
      have K_18 : md_ok h_17 o md (J2, va_up (va_up A1 33 (upd (A1 33) r (J2 30))) 35 (upd (A1 35) oc (J2 32)), L2) := md_A (s := (J2, va_up A1 33 (upd (A1 33) r (J2 30)), L2)) hm K_6 (j := 35) (by decide) (by rw [eh_17]; exact ac_up_s _ _ _) kpx_20
      have kq_19 : kp h h_17 (md_L o md) := kp_in kq_7 kpx_20 (md_sj (by decide))
      refine aw_aload_n C dX9_run_120 rfl rfl (q := 121) rfl ?_
      refine gfX9_68_9 (v := .ref (md 36)) C dX9_run_121 K_18.1 rfl (q := 124) rfl ?_
      refine aw_aload_n C dX9_run_124 rfl rfl (q := 125) rfl ?_
      refine gfX9_273_9 (v := .int (J2 34)) C dX9_run_125 K_18.1 rfl (q := 128) rfl ?_
      refine aw_aload_n C dX9_run_128 rfl rfl (q := 129) rfl ?_
      refine gfX9_252_9 (v := .int (J2 28)) C dX9_run_129 K_18.1 rfl (q := 132) rfl ?_
      refine ay_iast (N := 12) (f := A1 36) (j := oc) C dX9_run_132 (K_18.2.1 36 (by decide)) (by rw [h34b]; exact vp_in_nI (by omega) (by decide)) (by rw [h34b]; exact nI_clamp (by omega)) (q := 133) rfl ?_
      show aw G 6 M 133 [.ref o, .long day, .retAddr 0, .int ((-1)), .int 1, .int (pb_b ((rk_rule I F c 0 T r).1 = true))] [] (ac_up h_17 (md 36) (.inl (1, 12, .inl (upd (A1 36) oc (J2 28))))) 0 0
      obtain ⟨h_21, eh_21⟩ : ∃ z9, z9 = ac_up h_17 (md 36) (.inl (1, 12, .inl (upd (A1 36) oc (J2 28)))) := ⟨_, rfl⟩
      rw [← eh_21]
      have kpx_24 : kp h_17 h_21 [md 36] := by rw [eh_21]; exact kp_up (kp_cons _ kp_rf) _ _ (by simp)
      have K_22 : md_ok h_21 o md (J2, va_up (va_up (va_up A1 33 (upd (A1 33) r (J2 30))) 35 (upd (A1 35) oc (J2 32))) 36 (upd (A1 36) oc (J2 28)), L2) := md_A (s := (J2, va_up (va_up A1 33 (upd (A1 33) r (J2 30))) 35 (upd (A1 35) oc (J2 32)), L2)) hm K_18 (j := 36) (by decide) (by rw [eh_21]; exact ac_up_s _ _ _) kpx_24
      have kq_23 : kp h h_21 (md_L o md) := kp_in kq_19 kpx_24 (md_sj (by decide))
      refine aw_aload_n C dX9_run_133 rfl rfl (q := 134) rfl ?_
      refine gfX9_71_9 (v := .ref (md 37)) C dX9_run_134 K_22.1 rfl (q := 137) rfl ?_
      refine aw_aload_n C dX9_run_137 rfl rfl (q := 138) rfl ?_
      refine gfX9_273_9 (v := .int (J2 34)) C dX9_run_138 K_22.1 rfl (q := 141) rfl ?_
      refine aw_aload_n C dX9_run_141 rfl rfl (q := 142) rfl ?_
      refine gfX9_231_9 (v := .int (J2 29)) C dX9_run_142 K_22.1 rfl (q := 145) rfl ?_
      refine ay_iast (N := 12) (f := A1 37) (j := oc) C dX9_run_145 (K_22.2.1 37 (by decide)) (by rw [h34b]; exact vp_in_nI (by omega) (by decide)) (by rw [h34b]; exact nI_clamp (by omega)) (q := 146) rfl ?_
      show aw G 6 M 146 [.ref o, .long day, .retAddr 0, .int ((-1)), .int 1, .int (pb_b ((rk_rule I F c 0 T r).1 = true))] [] (ac_up h_21 (md 37) (.inl (1, 12, .inl (upd (A1 37) oc (J2 29))))) 0 0
      obtain ⟨h_25, eh_25⟩ : ∃ z9, z9 = ac_up h_21 (md 37) (.inl (1, 12, .inl (upd (A1 37) oc (J2 29)))) := ⟨_, rfl⟩
      rw [← eh_25]
      have kpx_28 : kp h_21 h_25 [md 37] := by rw [eh_25]; exact kp_up (kp_cons _ kp_rf) _ _ (by simp)
      have K_26 : md_ok h_25 o md (J2, va_up (va_up (va_up (va_up A1 33 (upd (A1 33) r (J2 30))) 35 (upd (A1 35) oc (J2 32))) 36 (upd (A1 36) oc (J2 28))) 37 (upd (A1 37) oc (J2 29)), L2) := md_A (s := (J2, va_up (va_up (va_up A1 33 (upd (A1 33) r (J2 30))) 35 (upd (A1 35) oc (J2 32))) 36 (upd (A1 36) oc (J2 28)), L2)) hm K_22 (j := 37) (by decide) (by rw [eh_25]; exact ac_up_s _ _ _) kpx_28
      have kq_27 : kp h h_25 (md_L o md) := kp_in kq_23 kpx_28 (md_sj (by decide))
      refine aw_aload_n C dX9_run_146 rfl rfl (q := 147) rfl ?_
      refine aw_dup C dX9_run_147 rfl (q := 148) rfl ?_
      refine gfX9_273_9 (v := .int (J2 34)) C dX9_run_148 K_26.1 rfl (q := 151) rfl ?_
      refine aw_iconst (v := 1) C dX9_run_151 (by decide) (q := 152) rfl ?_
      refine aw_iadd C dX9_run_152 (q := 153) rfl ?_
      rw [show J2 34 + 1 = nI (oc + 1) from by rw [h34b]; exact nI_1 _]
      refine pfX9_273_9 C dX9_run_153 K_26.1 rfl rfl (Nat.le_of_ble_eq_true rfl) (q := 156) rfl ?_
      show aw G 6 M 156 [.ref o, .long day, .retAddr 0, .int ((-1)), .int 1, .int (pb_b ((rk_rule I F c 0 T r).1 = true))] [] (ac_up h_25 o (.inr (9, md_fs md ((upd J2 34 (nI (oc + 1)), va_up (va_up (va_up (va_up A1 33 (upd (A1 33) r (J2 30))) 35 (upd (A1 35) oc (J2 32))) 36 (upd (A1 36) oc (J2 28))) 37 (upd (A1 37) oc (J2 29)), L2).1)))) 0 0
      obtain ⟨h_29, eh_29⟩ : ∃ z9, z9 = ac_up h_25 o (.inr (9, md_fs md ((upd J2 34 (nI (oc + 1)), va_up (va_up (va_up (va_up A1 33 (upd (A1 33) r (J2 30))) 35 (upd (A1 35) oc (J2 32))) 36 (upd (A1 36) oc (J2 28))) 37 (upd (A1 37) oc (J2 29)), L2).1))) := ⟨_, rfl⟩
      rw [← eh_29]
      have kpx_32 : kp h_25 h_29 [o] := by rw [eh_29]; exact kp_up (kp_cons o kp_rf) _ _ (by simp)
      have K_30 : md_ok h_29 o md (upd J2 34 (nI (oc + 1)), va_up (va_up (va_up (va_up A1 33 (upd (A1 33) r (J2 30))) 35 (upd (A1 35) oc (J2 32))) 36 (upd (A1 36) oc (J2 28))) 37 (upd (A1 37) oc (J2 29)), L2) := md_J (s := (J2, va_up (va_up (va_up (va_up A1 33 (upd (A1 33) r (J2 30))) 35 (upd (A1 35) oc (J2 32))) 36 (upd (A1 36) oc (J2 28))) 37 (upd (A1 37) oc (J2 29)), L2)) K_26 (by rw [eh_29]; exact ac_up_s _ _ _) kpx_32
      have kq_31 : kp h h_29 (md_L o md) := kp_in kq_27 kpx_32 md_s0
      refine aw_iload C dX9_run_156 rfl (q := 158) rfl ?_
      refine aw_if_eq (t := 176) (q := 161) C dX9_run_158 (by decide) rfl (fun c_158 => ?_) (fun c_158 => absurd c_158 (fun z => absurd (hca.2 (pb_n z)) (fun y => c_104 (by rw [h29, y]; decide))))
      refine aw_iconst (v := (-1)) C dX9_run_176 (by decide) (q := 177) rfl ?_
      refine aw_istore_n (ls' := [.ref o, .long day, .retAddr 0, .int ((-1)), .int 1, .int (pb_b ((rk_rule I F c 0 T r).1 = true))]) C dX9_run_177 rfl (by decide) rfl (q := 178) rfl ?_
      refine aw_iload C dX9_run_178 rfl (q := 180) rfl ?_
      refine aw_if_ne (t := 187) (q := 183) C dX9_run_180 (by decide) rfl (fun c_180 => absurd c_180 (fun z => z c_158)) (fun c_180 => ?_)
      refine aw_iconst (v := 1) C dX9_run_183 (by decide) (q := 184) rfl ?_
      refine aw_goto (q := 188) C dX9_run_184 (by decide) ?_
      refine aw_istore (ls' := [.ref o, .long day, .retAddr 0, .int ((-1)), .int 1, .int (pb_b ((rk_rule I F c 0 T r).1 = true))]) C dX9_run_188 (by decide) rfl (q := 190) rfl ?_
      refine aw_aload_n C dX9_run_190 rfl rfl (q := 191) rfl ?_
      refine aw_dup C dX9_run_191 rfl (q := 192) rfl ?_
      refine gfX9_270_9 (v := .int (J2 32)) C dX9_run_192 K_30.1 rfl (q := 195) rfl ?_
      refine aw_iconst (v := 1) C dX9_run_195 (by decide) (q := 196) rfl ?_
      refine aw_iadd C dX9_run_196 (q := 197) rfl ?_
      rw [show J2 32 + 1 = nI (r + 1) from by rw [h32b]; exact nI_1 _]
      refine pfX9_270_9 C dX9_run_197 K_30.1 rfl rfl (Nat.le_of_ble_eq_true rfl) (q := 200) rfl ?_
      show aw G 6 M 200 [.ref o, .long day, .retAddr 0, .int ((-1)), .int 1, .int (pb_b ((rk_rule I F c 0 T r).1 = true))] [] (ac_up h_29 o (.inr (9, md_fs md ((upd (upd J2 34 (nI (oc + 1))) 32 (nI (r + 1)), va_up (va_up (va_up (va_up A1 33 (upd (A1 33) r (J2 30))) 35 (upd (A1 35) oc (J2 32))) 36 (upd (A1 36) oc (J2 28))) 37 (upd (A1 37) oc (J2 29)), L2).1)))) 0 0
      obtain ⟨h_33, eh_33⟩ : ∃ z9, z9 = ac_up h_29 o (.inr (9, md_fs md ((upd (upd J2 34 (nI (oc + 1))) 32 (nI (r + 1)), va_up (va_up (va_up (va_up A1 33 (upd (A1 33) r (J2 30))) 35 (upd (A1 35) oc (J2 32))) 36 (upd (A1 36) oc (J2 28))) 37 (upd (A1 37) oc (J2 29)), L2).1))) := ⟨_, rfl⟩
      rw [← eh_33]
      have kpx_36 : kp h_29 h_33 [o] := by rw [eh_33]; exact kp_up (kp_cons o kp_rf) _ _ (by simp)
      have K_34 : md_ok h_33 o md (upd (upd J2 34 (nI (oc + 1))) 32 (nI (r + 1)), va_up (va_up (va_up (va_up A1 33 (upd (A1 33) r (J2 30))) 35 (upd (A1 35) oc (J2 32))) 36 (upd (A1 36) oc (J2 28))) 37 (upd (A1 37) oc (J2 29)), L2) := md_J (s := (upd J2 34 (nI (oc + 1)), va_up (va_up (va_up (va_up A1 33 (upd (A1 33) r (J2 30))) 35 (upd (A1 35) oc (J2 32))) 36 (upd (A1 36) oc (J2 28))) 37 (upd (A1 37) oc (J2 29)), L2)) K_30 (by rw [eh_33]; exact ac_up_s _ _ _) kpx_36
      have kq_35 : kp h h_33 (md_L o md) := kp_in kq_31 kpx_36 md_s0
      refine aw_goto (q := 55) C dX9_run_200 (by decide) ?_
      rw [if_neg (pb_0.mp c_158), if_neg (fun z => c_104 (by rw [h29, z]; decide))] at hY
      exact ih (r + 1) (oc + 1) (rp_add (va_up O 18 (upd (O 18) r (rk_rule I F c 0 T r).2.1)) oc (nI r) (rk_rule I F c 0 T r).2.1 (rk_rule I F c 0 T r).2.2) h_33 (upd (upd J2 34 (nI (oc + 1))) 32 (nI (r + 1))) (va_up (va_up (va_up (va_up A1 33 (upd (A1 33) r (J2 30))) 35 (upd (A1 35) oc (J2 32))) 36 (upd (A1 36) oc (J2 28))) 37 (upd (A1 37) oc (J2 29))) L2 _ (by omega) (by omega) K_34 kq_35 (md_eq_J (s1 := (upd J2 34 (nI (oc + 1)), va_up (va_up (va_up (va_up A1 33 (upd (A1 33) r (J2 30))) 35 (upd (A1 35) oc (J2 32))) 36 (upd (A1 36) oc (J2 28))) 37 (upd (A1 37) oc (J2 29)), L2)) (md_eq_J (s1 := (J2, va_up (va_up (va_up (va_up A1 33 (upd (A1 33) r (J2 30))) 35 (upd (A1 35) oc (J2 32))) 36 (upd (A1 36) oc (J2 28))) 37 (upd (A1 37) oc (J2 29)), L2)) (md_eq_A (s1 := (J2, va_up (va_up (va_up A1 33 (upd (A1 33) r (J2 30))) 35 (upd (A1 35) oc (J2 32))) 36 (upd (A1 36) oc (J2 28)), L2)) (md_eq_A (s1 := (J2, va_up (va_up A1 33 (upd (A1 33) r (J2 30))) 35 (upd (A1 35) oc (J2 32)), L2)) (md_eq_A (s1 := (J2, va_up A1 33 (upd (A1 33) r (J2 30)), L2)) (md_eq_A (s1 := (J2, A1, L2)) (md_eq_tr q q2 (by decide) (by decide) (by decide)) (upd (A1 33) r (J2 30)) (j := 33) (by decide)) (upd (A1 35) oc (J2 32)) (j := 35) (by decide)) (upd (A1 36) oc (J2 28)) (j := 36) (by decide)) (upd (A1 37) oc (J2 29)) (j := 37) (by decide)) (nI (oc + 1)) (j := 34) (by decide)) (nI (r + 1)) (j := 32) (by decide)) rfl rfl (by show upd (A1 33) r (J2 30) = _; rw [r33, h30]; rfl) (by show upd (A1 35) oc (J2 32) = _; rw [r35, h32b]; rfl) (by show upd (A1 36) oc (J2 28) = _; rw [r36, h28 (fun z => c_104 (by rw [h29, z]; decide))]; rfl) (by show upd (A1 37) oc (J2 29) = _; rw [r37, h29]; rfl) hY
set_option maxHeartbeats 4000000 in
set_option maxRecDepth 100000 in
theorem m_run0 (G : ac_G) (l : Launch) (o : Nat) (md : Nat → Nat) (hm : md_inj md) (h : ac_H) (d : Nat) (s : md_S) (K : md_ok h o md s) (h11 : s.1 11 = 0) (day : Int64) : ac_Met G l yX9_run cX9_run 6 (some .int) d 0 0 [.ref o, .long day] h (fun r9 h9 => r9 = some (.int 0) ∧ md_ok h9 o md (upd s.1 0 1, s.2.1, s.2.2) ∧ kp h h9 (md_L o md)) := by
  refine ac_of (ls := [.ref o, .long day, .retAddr 0, .retAddr 0, .retAddr 0, .retAddr 0]) (by decide +kernel) rfl (Nat.le_of_ble_eq_true rfl) (fun M hl C B E hnm => ?_)
  refine aw_aload_n C dX9_run_0 rfl rfl (q := 1) rfl ?_
  refine aw_aload_n C dX9_run_1 rfl rfl (q := 2) rfl ?_
  refine gfX9_164_9 (v := .int (s.1 11)) C dX9_run_2 K.1 rfl (q := 5) rfl ?_
  refine aw_if_eq (t := 12) (q := 8) C dX9_run_5 (by decide) rfl (fun c_5 => ?_) (fun c_5 => absurd c_5 (fun z => z h11))
  refine aw_iconst (v := 1) C dX9_run_12 (by decide) (q := 13) rfl ?_
  refine pfX9_89_9 C dX9_run_13 K.1 rfl rfl (Nat.le_of_ble_eq_true rfl) (q := 16) rfl ?_
  show aw G 6 M 16 [.ref o, .long day, .retAddr 0, .retAddr 0, .retAddr 0, .retAddr 0] [] (ac_up h o (.inr (9, md_fs md ((upd s.1 0 1, s.2.1, s.2.2).1)))) 0 0
  obtain ⟨h_1, eh_1⟩ : ∃ z9, z9 = ac_up h o (.inr (9, md_fs md ((upd s.1 0 1, s.2.1, s.2.2).1))) := ⟨_, rfl⟩
  rw [← eh_1]
  have kpx_4 : kp h h_1 [o] := by rw [eh_1]; exact kp_up (kp_cons o kp_rf) _ _ (by simp)
  have K_2 : md_ok h_1 o md (upd s.1 0 1, s.2.1, s.2.2) := md_J (s := (s.1, s.2.1, s.2.2)) K (by rw [eh_1]; exact ac_up_s _ _ _) kpx_4
  have kq_3 : kp h h_1 (md_L o md) := kp_mono kpx_4 md_s0
  refine aw_aload_n C dX9_run_16 rfl rfl (q := 17) rfl ?_
  refine gfX9_89_9 (v := .int 1) C dX9_run_17 K_2.1 rfl (q := 20) rfl ?_
  refine aw_if_le (t := 25) (q := 23) C dX9_run_20 (by decide) rfl (fun c_20 => absurd c_20 (by decide)) (fun c_20 => ?_)
  refine aw_iconst (v := 0) C dX9_run_23 (by decide) (q := 24) rfl ?_
  refine aw_iret C E dX9_run_24 (Nat.le_refl _) (Nat.le_refl _) ?_
  exact ⟨rfl, K_2, kq_3⟩
set_option maxHeartbeats 4000000 in
set_option maxRecDepth 100000 in
theorem ml_rune {G : ac_G} {M : ac_M} {o : Nat} {md : Nat → Nat} (hm : md_inj md) {h h2 : ac_H} {J2 : Nat → Int32} {A2 : Nat → Nat → Int32} {L2 : Nat → Nat → Int64} {day : Int64} {g : Int32} {v4 v5 : Value} {Q : Option Value → ac_H → Prop} (h1 : ¬ g < -1) (h3 : g < 10) (C : ac_MC G RX9 cX9_run 6 (some .int) M) (E : ac_End G Q 0 0 M) (K : md_ok h2 o md (J2, A2, L2)) (kq : kp h h2 (md_L o md)) (hQ : ∀ h9, md_ok h9 o md (J2, A2, va_up L2 38 (vp_updL (L2 38) (g + 1).toNatClampNeg (L2 38 (g + 1).toNatClampNeg + 1))) → kp h h9 (md_L o md) → Q (some (.int g)) h9) : aw G 6 M 203 [.ref o, .long day, .retAddr 0, .int g, v4, v5] [] h2 0 0 := by
  refine aw_aload_n C dX9_run_203 rfl rfl (q := 204) rfl ?_
  refine gfX9_74_9 (v := .ref (md 38)) C dX9_run_204 K.1 rfl (q := 207) rfl ?_
  refine aw_iload_n C dX9_run_207 rfl rfl (q := 208) rfl ?_
  refine aw_iconst (v := 1) C dX9_run_208 (by decide) (q := 209) rfl ?_
  refine aw_iadd C dX9_run_209 (q := 210) rfl ?_
  refine aw_dup2_11 C dX9_run_210 rfl rfl (q := 211) rfl ?_
  refine ay_lald (N := 11) (f := L2 38) (j := (g + 1).toNatClampNeg) C dX9_run_211 (K.2.2 38 (by decide)) (gt_cin h1 h3) (rfl) (q := 212) rfl ?_
  refine aw_lconst (v := 1) C dX9_run_212 (by decide) (q := 213) rfl ?_
  refine aw_ladd C dX9_run_213 (q := 214) rfl ?_
  refine ay_last (N := 11) (f := L2 38) (j := (g + 1).toNatClampNeg) C dX9_run_214 (K.2.2 38 (by decide)) (gt_cin h1 h3) (rfl) (q := 215) rfl ?_
  show aw G 6 M 215 [.ref o, .long day, .retAddr 0, .int g, v4, v5] [] (ac_up h2 (md 38) (.inl (2, 11, .inr (.inl (vp_updL (L2 38) ((g + 1).toNatClampNeg) (((L2 38) ((g + 1).toNatClampNeg)) + 1)))))) 0 0
  obtain ⟨h_1, eh_1⟩ : ∃ z9, z9 = ac_up h2 (md 38) (.inl (2, 11, .inr (.inl (vp_updL (L2 38) ((g + 1).toNatClampNeg) (((L2 38) ((g + 1).toNatClampNeg)) + 1))))) := ⟨_, rfl⟩
  rw [← eh_1]
  have kpx_4 : kp h2 h_1 [md 38] := by rw [eh_1]; exact kp_up (kp_cons _ kp_rf) _ _ (by simp)
  have K_2 : md_ok h_1 o md (J2, A2, va_up L2 38 (vp_updL (L2 38) ((g + 1).toNatClampNeg) (((L2 38) ((g + 1).toNatClampNeg)) + 1))) := md_L' (s := (J2, A2, L2)) hm K (j := 38) (by decide) (by rw [eh_1]; exact ac_up_s _ _ _) kpx_4
  have kq_3 : kp h h_1 (md_L o md) := kp_in kq kpx_4 (md_sj (by decide))
  refine aw_iload_n C dX9_run_215 rfl rfl (q := 216) rfl ?_
  refine aw_iret C E dX9_run_216 (Nat.le_refl _) (Nat.le_refl _) ?_
  exact hQ _ K_2 kq_3
def mo_UQ (o : Nat) (md : Nat → Nat) (h : ac_H) (s : md_S) (t : Nat) (Y : rp_X) : Option Value → ac_H → Prop := fun r9 h9 => ∃ (J : Nat → Int32) (A : Nat → Nat → Int32) (L : Nat → Nat → Int64), r9 = some (.int Y.1) ∧ md_ok h9 o md (J, A, L) ∧ J 0 = 0 ∧ J 31 = 1 ∧ J 32 = nI Y.2.2.1 ∧ J 34 = nI Y.2.1 ∧ (A 33 = Y.2.2.2 18 ∧ A 35 = Y.2.2.2 15 ∧ A 36 = Y.2.2.2 16 ∧ A 37 = Y.2.2.2 17) ∧ L 38 = vp_updL (s.2.2 38) (Y.1 + 1).toNatClampNeg (s.2.2 38 (Y.1 + 1).toNatClampNeg + 1) ∧ (∀ j, j ∉ [0, 28, 29, 30, 31, 32, 34] → J j = s.1 j) ∧ (∀ j, j ∉ [5, 6, 7, 8, 9, 10, 33, 35, 36, 37] → A j = s.2.1 j) ∧ (∀ j, j ∉ [27, 38] → L j = s.2.2 j) ∧ (A 5 = mo_cpr (s.2.1 5) 400 5 t 400 ∧ A 6 = mo_cpr (s.2.1 6) 400 5 t 400 ∧ A 9 = mo_cpr (s.2.1 9) 13 5 t 13 ∧ A 10 = mo_cpr (s.2.1 10) 13 5 t 13 ∧ A 7 = upd (s.2.1 7) 5 (s.2.1 7 t) ∧ A 8 = upd (s.2.1 8) 5 (s.2.1 8 t)) ∧ kp h h9 (md_L o md)
set_option maxHeartbeats 4000000 in
set_option maxRecDepth 100000 in
theorem m_run1 (G : ac_G) (l : Launch) (o : Nat) (md : Nat → Nat) (hm : md_inj md) (h : ac_H) (d : Nat) (s : md_S) (K : md_ok h o md s) (h11 : ¬ s.1 11 = 0) (day : Int64) (ec : Nat) (hec : s.1 15 = nI ec) (hec4 : ec ≤ 4) (c : Nat) (I : Nat → Int32) (F : Nat → Nat → Int32) (T : ru_D) (b : eq_bd I F c s) (tx : eq_tx s.2.1 (mo_text (s.2.2 16) day ec) T) (O : Nat → Nat → Int32) (o33 : s.2.1 33 = O 18) (o35 : s.2.1 35 = O 15) (o36 : s.2.1 36 = O 16) (o37 : s.2.1 37 = O 17) : ac_Met G l yX9_run cX9_run 6 (some .int) (d + 4) 0 0 [.ref o, .long day] h (mo_UQ o md h s (mo_text (s.2.2 16) day ec) (rp_take I F c T (ru_cnt T) 0 0 O)) := by
  refine ac_of (ls := [.ref o, .long day, .retAddr 0, .retAddr 0, .retAddr 0, .retAddr 0]) (by decide +kernel) rfl (Nat.le_of_ble_eq_true rfl) (fun M hl C B E hnm => ?_)
  have htl := mo_text_le (s.2.2 16) day ec
  refine aw_aload_n C dX9_run_0 rfl rfl (q := 1) rfl ?_
  refine aw_aload_n C dX9_run_1 rfl rfl (q := 2) rfl ?_
  refine gfX9_164_9 (v := .int (s.1 11)) C dX9_run_2 K.1 rfl (q := 5) rfl ?_
  refine aw_if_eq (t := 12) (q := 8) C dX9_run_5 (by decide) rfl (fun c_5 => absurd c_5 (h11)) (fun c_5 => ?_)
  refine aw_iconst (v := 0) C dX9_run_8 (by decide) (q := 9) rfl ?_
  refine aw_goto (q := 13) C dX9_run_9 (by decide) ?_
  refine pfX9_89_9 C dX9_run_13 K.1 rfl rfl (Nat.le_of_ble_eq_true rfl) (q := 16) rfl ?_
  show aw G 6 M 16 [.ref o, .long day, .retAddr 0, .retAddr 0, .retAddr 0, .retAddr 0] [] (ac_up h o (.inr (9, md_fs md ((upd s.1 0 0, s.2.1, s.2.2).1)))) 0 0
  obtain ⟨h_1, eh_1⟩ : ∃ z9, z9 = ac_up h o (.inr (9, md_fs md ((upd s.1 0 0, s.2.1, s.2.2).1))) := ⟨_, rfl⟩
  rw [← eh_1]
  have kpx_4 : kp h h_1 [o] := by rw [eh_1]; exact kp_up (kp_cons o kp_rf) _ _ (by simp)
  have K_2 : md_ok h_1 o md (upd s.1 0 0, s.2.1, s.2.2) := md_J (s := (s.1, s.2.1, s.2.2)) K (by rw [eh_1]; exact ac_up_s _ _ _) kpx_4
  have kq_3 : kp h h_1 (md_L o md) := kp_mono kpx_4 md_s0
  refine aw_aload_n C dX9_run_16 rfl rfl (q := 17) rfl ?_
  refine gfX9_89_9 (v := .int 0) C dX9_run_17 K_2.1 rfl (q := 20) rfl ?_
  refine aw_if_le (t := 25) (q := 23) C dX9_run_20 (by decide) rfl (fun c_20 => ?_) (fun c_20 => absurd c_20 (by decide))
  refine aw_aload_n C dX9_run_25 rfl rfl (q := 26) rfl ?_
  refine aw_aload_n C dX9_run_26 rfl rfl (q := 27) rfl ?_
  refine aw_lload_n C dX9_run_27 rfl rfl (q := 28) rfl ?_
  refine cvX9_259_9 (As := [.long day]) (rest := [.ref o]) C B dX9_run_28 K_2.1 (m_textFor G M.2.1 o md hm h_1 (d + 3) (upd s.1 0 0, s.2.1, s.2.2) K_2 ec hec hec4 day) rfl rfl (Nat.le_of_ble_eq_true rfl) (by omega) (by omega) (by omega) (q := 31) rfl (fun r9 h9 hr9 => ?_)
  obtain ⟨e9, er9⟩ := hr9
  subst er9; rw [e9]
  show aw G 6 M 31 [.ref o, .long day, .retAddr 0, .retAddr 0, .retAddr 0, .retAddr 0] [.int (nI (mo_text (s.2.2 16) day ec)), .ref o] h_1 0 0
  refine aw_iconst (v := 5) C dX9_run_31 (by decide) (q := 32) rfl ?_
  refine cvX9_161_9 (As := [.int (nI (mo_text (s.2.2 16) day ec)), .int 5]) (rest := []) C B dX9_run_32 K_2.1 (m_copy G M.2.1 o md hm h_1 (d + 3) (upd s.1 0 0, s.2.1, s.2.2) K_2 (mo_text (s.2.2 16) day ec) 5 (by omega) (by decide) (by omega)) rfl rfl (Nat.le_of_ble_eq_true rfl) (by omega) (by omega) (by omega) (q := 35) rfl (fun r9 h_5 hr9 => ?_)
  obtain ⟨A9, er9, K_6, c5, c6, c9, c10, c7, c8, cj, kpx_7⟩ := hr9
  subst er9
  have kq_8 : kp h h_5 (md_L o md) := kp_in kq_3 kpx_7 (fun _ z => z)
  show aw G 6 M 35 [.ref o, .long day, .retAddr 0, .retAddr 0, .retAddr 0, .retAddr 0] [] h_5 0 0
  refine aw_aload_n C dX9_run_35 rfl rfl (q := 36) rfl ?_
  refine aw_iconst (v := 1) C dX9_run_36 (by decide) (q := 37) rfl ?_
  refine pfX9_267_9 C dX9_run_37 K_6.1 rfl rfl (Nat.le_of_ble_eq_true rfl) (q := 40) rfl ?_
  show aw G 6 M 40 [.ref o, .long day, .retAddr 0, .retAddr 0, .retAddr 0, .retAddr 0] [] (ac_up h_5 o (.inr (9, md_fs md ((upd (upd s.1 0 0) 31 1, A9, s.2.2).1)))) 0 0
  obtain ⟨h_9, eh_9⟩ : ∃ z9, z9 = ac_up h_5 o (.inr (9, md_fs md ((upd (upd s.1 0 0) 31 1, A9, s.2.2).1))) := ⟨_, rfl⟩
  rw [← eh_9]
  have kpx_12 : kp h_5 h_9 [o] := by rw [eh_9]; exact kp_up (kp_cons o kp_rf) _ _ (by simp)
  have K_10 : md_ok h_9 o md (upd (upd s.1 0 0) 31 1, A9, s.2.2) := md_J (s := (upd s.1 0 0, A9, s.2.2)) K_6 (by rw [eh_9]; exact ac_up_s _ _ _) kpx_12
  have kq_11 : kp h h_9 (md_L o md) := kp_in kq_8 kpx_12 md_s0
  refine aw_aload_n C dX9_run_40 rfl rfl (q := 41) rfl ?_
  refine aw_iconst (v := 0) C dX9_run_41 (by decide) (q := 42) rfl ?_
  refine pfX9_270_9 C dX9_run_42 K_10.1 rfl rfl (Nat.le_of_ble_eq_true rfl) (q := 45) rfl ?_
  show aw G 6 M 45 [.ref o, .long day, .retAddr 0, .retAddr 0, .retAddr 0, .retAddr 0] [] (ac_up h_9 o (.inr (9, md_fs md ((upd (upd (upd s.1 0 0) 31 1) 32 0, A9, s.2.2).1)))) 0 0
  obtain ⟨h_13, eh_13⟩ : ∃ z9, z9 = ac_up h_9 o (.inr (9, md_fs md ((upd (upd (upd s.1 0 0) 31 1) 32 0, A9, s.2.2).1))) := ⟨_, rfl⟩
  rw [← eh_13]
  have kpx_16 : kp h_9 h_13 [o] := by rw [eh_13]; exact kp_up (kp_cons o kp_rf) _ _ (by simp)
  have K_14 : md_ok h_13 o md (upd (upd (upd s.1 0 0) 31 1) 32 0, A9, s.2.2) := md_J (s := (upd (upd s.1 0 0) 31 1, A9, s.2.2)) K_10 (by rw [eh_13]; exact ac_up_s _ _ _) kpx_16
  have kq_15 : kp h h_13 (md_L o md) := kp_in kq_11 kpx_16 md_s0
  refine aw_aload_n C dX9_run_45 rfl rfl (q := 46) rfl ?_
  refine aw_iconst (v := 0) C dX9_run_46 (by decide) (q := 47) rfl ?_
  refine pfX9_273_9 C dX9_run_47 K_14.1 rfl rfl (Nat.le_of_ble_eq_true rfl) (q := 50) rfl ?_
  show aw G 6 M 50 [.ref o, .long day, .retAddr 0, .retAddr 0, .retAddr 0, .retAddr 0] [] (ac_up h_13 o (.inr (9, md_fs md ((upd (upd (upd (upd s.1 0 0) 31 1) 32 0) 34 0, A9, s.2.2).1)))) 0 0
  obtain ⟨h_17, eh_17⟩ : ∃ z9, z9 = ac_up h_13 o (.inr (9, md_fs md ((upd (upd (upd (upd s.1 0 0) 31 1) 32 0) 34 0, A9, s.2.2).1))) := ⟨_, rfl⟩
  rw [← eh_17]
  have kpx_20 : kp h_13 h_17 [o] := by rw [eh_17]; exact kp_up (kp_cons o kp_rf) _ _ (by simp)
  have K_18 : md_ok h_17 o md (upd (upd (upd (upd s.1 0 0) 31 1) 32 0) 34 0, A9, s.2.2) := md_J (s := (upd (upd (upd s.1 0 0) 31 1) 32 0, A9, s.2.2)) K_14 (by rw [eh_17]; exact ac_up_s _ _ _) kpx_20
  have kq_19 : kp h h_17 (md_L o md) := kp_in kq_15 kpx_20 md_s0
  refine aw_iconst (v := (-1)) C dX9_run_50 (by decide) (q := 51) rfl ?_
  refine aw_istore_n (ls' := [.ref o, .long day, .retAddr 0, .int ((-1)), .retAddr 0, .retAddr 0]) C dX9_run_51 rfl (by decide) rfl (q := 52) rfl ?_
  refine aw_iconst (v := 1) C dX9_run_52 (by decide) (q := 53) rfl ?_
  refine aw_istore (ls' := [.ref o, .long day, .retAddr 0, .int ((-1)), .int 1, .retAddr 0]) C dX9_run_53 (by decide) rfl (q := 55) rfl ?_
  have bA : eq_bd I F c (upd (upd (upd (upd s.1 0 0) 31 1) 32 0) 34 0, A9, s.2.2) := by
    obtain ⟨b0, b1, b2, b3, b4, b5, b6, b7⟩ := b
    exact ⟨b0, b1, b2, b3, b4, fun j hj i hi => by
      have e : A9 (21 + j) = s.2.1 (21 + j) := cj (21 + j) (by simp; omega)
      show A9 (21 + j) i = _
      rw [e]; exact b5 j hj i hi, b6, b7⟩
  have tA : eq_tx A9 5 T := eq_tx_cp tx c5 c6 c9 c10 c8
  have hgg := rp_take_g (I := I) (F := F) (c := c) (fun r hr => (tx.2.2.1 r hr).2) (ru_cnt T) 0 0 O (by omega)
  refine ml_run (s := (upd (upd (upd (upd s.1 0 0) 31 1) 32 0) 34 0, A9, s.2.2)) hm bA tA C B (Y := (rp_take I F c T (ru_cnt T) 0 0 O)) (fun h2 J2 A2 L2 v4 v5 K2 kq2 q2 y32 y34 z33 z35 z36 z37 => ?_) (ru_cnt T) 0 0 O h_17 (upd (upd (upd (upd s.1 0 0) 31 1) 32 0) 34 0) A9 s.2.2 _ (by omega) (Nat.le_refl _) K_18 kq_19 md_eq_rf rfl rfl (by rw [cj 33 (by decide)]; exact o33) (by rw [cj 35 (by decide)]; exact o35) (by rw [cj 36 (by decide)]; exact o36) (by rw [cj 37 (by decide)]; exact o37) rfl
  refine ml_rune hm hgg.1 hgg.2 C E K2 kq2 (fun h9 K9 kq9 => ?_)
  have e38 : L2 38 = s.2.2 38 := q2.2.2 38 (by decide)
  refine ⟨J2, A2, _, rfl, K9, ?_, ?_, y32, y34, ⟨z33, z35, z36, z37⟩, ?_, ?_, ?_, ?_, ⟨?_, ?_, ?_, ?_, ?_, ?_⟩, kq9⟩
  · rw [show J2 0 = (upd (upd (upd (upd s.1 0 0) 31 1) 32 0) 34 0) 0 from q2.1 0 (by decide)]; rfl
  · rw [show J2 31 = (upd (upd (upd (upd s.1 0 0) 31 1) 32 0) 34 0) 31 from q2.1 31 (by decide)]; rfl
  · show vp_updL (L2 38) _ _ = _
    rw [e38]
  · intro j hj
    rw [show J2 j = (upd (upd (upd (upd s.1 0 0) 31 1) 32 0) 34 0) j from q2.1 j (fun z => hj (by simp at z ⊢; omega))]
    unfold upd
    rw [if_neg (fun z => hj (by rw [z]; decide)), if_neg (fun z => hj (by rw [z]; decide)), if_neg (fun z => hj (by rw [z]; decide)), if_neg (fun z => hj (by rw [z]; decide))]
  · intro j hj
    rw [show A2 j = A9 j from q2.2.1 j (fun z => hj (by simp at z ⊢; omega))]
    exact cj j (fun z => hj (by simp at z ⊢; omega))
  · intro j hj
    show va_up L2 38 _ j = _
    unfold va_up
    rw [if_neg (fun z => hj (by rw [z]; decide))]
    exact q2.2.2 j (fun z => hj (by simp at z ⊢; omega))
  · exact (q2.2.1 5 (by decide)).trans c5
  · exact (q2.2.1 6 (by decide)).trans c6
  · exact (q2.2.1 9 (by decide)).trans c9
  · exact (q2.2.1 10 (by decide)).trans c10
  · exact (q2.2.1 7 (by decide)).trans c7
  · exact (q2.2.1 8 (by decide)).trans c8
