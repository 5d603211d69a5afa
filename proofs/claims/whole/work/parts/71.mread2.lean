/-! The reference's reader: the loop of rules -/
abbrev pz_Q : Type := Bool × Nat × List (Int32 × pz_P)
def pz_rules (u : Nat → Int32) (n : Nat) : Nat → Nat → pz_Q
  | 0, a => (false, a, [])
  | m + 1, a => if (pz_rule u n a).1 = true then
      (if (pz_rule u n a).2.1 = n then (true, n, [(cu_c u n a - 48, (pz_rule u n a).2.2)])
       else if cu_c u n (pz_rule u n a).2.1 = 59 ∧ ¬ m = 0 then ((pz_rules u n m ((pz_rule u n a).2.1 + 1)).1, (pz_rules u n m ((pz_rule u n a).2.1 + 1)).2.1, (cu_c u n a - 48, (pz_rule u n a).2.2) :: (pz_rules u n m ((pz_rule u n a).2.1 + 1)).2.2)
       else (false, (pz_rule u n a).2.1, []))
     else (false, (pz_rule u n a).2.1, [])
/-- what follows a rule -/
def pz_more (u : Nat → Int32) (n m p : Nat) : pz_Q := if p = n then (true, n, []) else if cu_c u n p = 59 ∧ ¬ m = 0 then pz_rules u n m (p + 1) else (false, p, [])
theorem pz_rules_s (u : Nat → Int32) (n m a : Nat) : pz_rules u n (m + 1) a = if (pz_rule u n a).1 = true then ((pz_more u n m (pz_rule u n a).2.1).1, (pz_more u n m (pz_rule u n a).2.1).2.1, if (pz_more u n m (pz_rule u n a).2.1).1 = true then (cu_c u n a - 48, (pz_rule u n a).2.2) :: (pz_more u n m (pz_rule u n a).2.1).2.2 else (pz_rules u n (m + 1) a).2.2) else (false, (pz_rule u n a).2.1, []) := by
  by_cases h1 : (pz_rule u n a).1 = true
  · rw [if_pos h1]
    unfold pz_more
    by_cases h2 : (pz_rule u n a).2.1 = n
    · rw [if_pos h2, if_pos rfl]
      show (if (pz_rule u n a).1 = true then _ else _) = _
      rw [if_pos h1, if_pos h2]
    · rw [if_neg h2]
      by_cases h3 : cu_c u n (pz_rule u n a).2.1 = 59 ∧ ¬ m = 0
      · rw [if_pos h3]
        have e : pz_rules u n (m + 1) a = ((pz_rules u n m ((pz_rule u n a).2.1 + 1)).1, (pz_rules u n m ((pz_rule u n a).2.1 + 1)).2.1, (cu_c u n a - 48, (pz_rule u n a).2.2) :: (pz_rules u n m ((pz_rule u n a).2.1 + 1)).2.2) := by
          show (if (pz_rule u n a).1 = true then _ else _) = _
          rw [if_pos h1, if_neg h2, if_pos h3]
        rw [e]
        by_cases h4 : (pz_rules u n m ((pz_rule u n a).2.1 + 1)).1 = true
        · rw [if_pos h4]
        · rw [if_neg h4]
      · rw [if_neg h3]
        have e : pz_rules u n (m + 1) a = (false, (pz_rule u n a).2.1, []) := by
          show (if (pz_rule u n a).1 = true then _ else _) = _
          rw [if_pos h1, if_neg h2, if_neg h3]
        rw [e]; rfl
  · rw [if_neg h1]
    show (if (pz_rule u n a).1 = true then _ else _) = _
    rw [if_neg h1]
/-- the steps of all rules -/
def pz_all : List (Int32 × pz_P) → pz_P
  | [] => []
  | x :: l => x.2 ++ pz_all l
/-- the rows of begins and grades, from rule r on, whose steps begin at b -/
def mz_dl (f9 f10 : Nat → Int32) : Nat → Nat → List (Int32 × pz_P) → Prop
  | r, b, [] => f9 r = nI b
  | r, b, x :: l => f10 r = x.1 ∧ f9 r = nI b ∧ mz_dl f9 f10 (r + 1) (b + x.2.length) l
set_option maxHeartbeats 4000000 in
set_option maxRecDepth 100000 in
theorem ml_rf35 {G : ac_G} {M : ac_M} {o : Nat} {md : Nat → Nat} (hm : md_inj md) {h1 : ac_H} {s1 : md_S} {u : Nat → Int32} {n p a : Nat} {U W : pz_P} (C : ac_MC G RX9 cX9_read 1 (some .int) M) (K : md_ok h1 o md s1) (R : mz_rep s1 u n (a, U, W, some p)) (kk : aw G 1 M 102 [.ref o] [] h1 0 0) : aw G 1 M 35 [.ref o] [] h1 0 0 := by
  refine aw_aload_n C dX9_read_35 rfl rfl (q := 36) rfl ?_
  refine gfX9_99_9 (v := .int (s1.1 4)) C dX9_read_36 K.1 rfl (q := 39) rfl ?_
  refine aw_if_ge (t := 102) (q := 42) C dX9_read_39 (by decide) rfl (fun c_39 => ?_) (fun c_39 => absurd c_39 (fun z => z (by rw [R.2.2.2.1]; exact nI_le (a := 0) (b := p) (Nat.zero_le _) (by have := R.2.2.2.2.2.2.2.2.2 p rfl; omega))))
  exact kk
set_option maxHeartbeats 4000000 in
set_option maxRecDepth 100000 in
theorem ml_read {G : ac_G} {M : ac_M} {o : Nat} {md : Nat → Nat} (hm : md_inj md) {h : ac_H} {d : Nat} {s : md_S} {u : Nat → Int32} {n : Nat} (hn : n ≤ 300) (ht : mz_tx u n) (C : ac_MC G RX9 cX9_read 1 (some .int) M) (B : ac_Bd M (d + 8) 0 0) :
    ∀ (m r p : Nat) (U W : pz_P) (h1 : ac_H) (s1 : md_S), r + m = 12 → 1 ≤ r → p ≤ n → U.length ≤ p → W.length ≤ 330 → md_ok h1 o md s1 → mz_rep s1 u n (p, U, W, none) → s1.2.1 8 6 = nI r → s1.2.1 9 (78 + r) = nI U.length → mz_fR s s1 → kp h h1 (md_L o md) → (kk1 : (pz_more u n m p).1 = true → ∀ (h2 : ac_H) (s2 : md_S) (W2 : pz_P), md_ok h2 o md s2 → mz_rep s2 u n (n, List.reverseAux ((pz_all (pz_more u n m p).2.2).map pz_m) U, W2, none) → W2.length ≤ 330 → s2.2.1 8 6 = nI (r + (pz_more u n m p).2.2.length) → mz_dl (s2.2.1 9) (s2.2.1 10) (78 + r) U.length (pz_more u n m p).2.2 → (∀ i, i < 78 + r → s2.2.1 9 i = s1.2.1 9 i ∧ s2.2.1 10 i = s1.2.1 10 i) → mz_fR s s2 → kp h h2 (md_L o md) → aw G 1 M 102 [.ref o] [] h2 0 0) → (kk0 : (pz_more u n m p).1 = false → ∀ (h2 : ac_H) (s2 : md_S) (c : mz_C), md_ok h2 o md s2 → mz_rep s2 u n c → c.2.2.2 = some (pz_more u n m p).2.1 → c.2.2.1.length ≤ 330 → mz_fR s s2 → kp h h2 (md_L o md) → aw G 1 M 102 [.ref o] [] h2 0 0) → aw G 1 M 35 [.ref o] [] h1 0 0 := by
  intro m
  induction m with
  | zero =>
    intro r p U W h1 s1 hr hr1 hp hU hW K R h8 h9r F kq kk1 kk0
    by_cases hpn : p = n
    · subst hpn
      refine aw_aload_n C dX9_read_35 rfl rfl (q := 36) rfl ?_
      refine gfX9_99_9 (v := .int (s1.1 4)) C dX9_read_36 K.1 rfl (q := 39) rfl ?_
      refine aw_if_ge (t := 102) (q := 42) C dX9_read_39 (by decide) rfl (fun c_39 => absurd c_39 (by rw [R.2.2.2.1]; show ¬ (0 : Int32) ≤ -1; decide)) (fun c_39 => ?_)
      refine aw_aload_n C dX9_read_42 rfl rfl (q := 43) rfl ?_
      refine gfX9_96_9 (v := .int (s1.1 3)) C dX9_read_43 K.1 rfl (q := 46) rfl ?_
      refine aw_aload_n C dX9_read_46 rfl rfl (q := 47) rfl ?_
      refine gfX9_93_9 (v := .int (s1.1 2)) C dX9_read_47 K.1 rfl (q := 50) rfl ?_
      refine aw_icmp_ge (t := 102) (q := 53) C dX9_read_50 (by decide) rfl (fun c_50 => ?_) (fun c_50 => absurd c_50 (fun z => z (by rw [R.1, R.2.2.1]; exact nI_le (Nat.le_refl _) (by omega))))
      have e1 : pz_more u p (0) p = (true, p, []) := if_pos rfl
      rw [e1] at kk1
      exact kk1 rfl h1 s1 W K R hW h8 h9r (fun _ _ => ⟨rfl, rfl⟩) F kq
    · have hlt : p < n := by omega
      refine aw_aload_n C dX9_read_35 rfl rfl (q := 36) rfl ?_
      refine gfX9_99_9 (v := .int (s1.1 4)) C dX9_read_36 K.1 rfl (q := 39) rfl ?_
      refine aw_if_ge (t := 102) (q := 42) C dX9_read_39 (by decide) rfl (fun c_39 => absurd c_39 (by rw [R.2.2.2.1]; show ¬ (0 : Int32) ≤ -1; decide)) (fun c_39 => ?_)
      refine aw_aload_n C dX9_read_42 rfl rfl (q := 43) rfl ?_
      refine gfX9_96_9 (v := .int (s1.1 3)) C dX9_read_43 K.1 rfl (q := 46) rfl ?_
      refine aw_aload_n C dX9_read_46 rfl rfl (q := 47) rfl ?_
      refine gfX9_93_9 (v := .int (s1.1 2)) C dX9_read_47 K.1 rfl (q := 50) rfl ?_
      refine aw_icmp_ge (t := 102) (q := 53) C dX9_read_50 (by decide) rfl (fun c_50 => absurd c_50 (by rw [R.1, R.2.2.1]; exact ni_nge p n rfl rfl (by omega) (by omega) (by omega))) (fun c_50 => ?_)
      refine aw_aload_n C dX9_read_53 rfl rfl (q := 54) rfl ?_
      refine cvX9_116_9 (As := []) (rest := []) C B dX9_read_54 K.1 (m_here G M.2.1 o md hm h1 (d + 7) s1 K p n R.2.2.1 R.1 (by omega) R.2.1) rfl rfl (Nat.le_of_ble_eq_true rfl) (by omega) (by omega) (by omega) (q := 57) rfl (fun r9 h9 hr9 => ?_)
      obtain ⟨e9, er9⟩ := hr9
      subst er9; rw [e9]
      show aw G 1 M 57 [.ref o] [.int (mo_here s1 p n)] h1 0 0
      rw [mz_here R]
      refine aw_bipush (v := 59) C dX9_read_57 (by decide) (q := 59) rfl ?_
      refine aw_icmp_ne (t := 74) (q := 62) C dX9_read_59 (by decide) rfl (fun c_59 => ?_) (fun c_59 => ?_)
      ·
        refine aw_aload_n C dX9_read_74 rfl rfl (q := 75) rfl ?_
        refine cvX9_120_9 (As := []) (rest := []) C B dX9_read_75 K.1 (p_fail G M.2.1 o md hm h1 (d + 7) s1 K u n p U W none R (by omega)) rfl rfl (Nat.le_of_ble_eq_true rfl) (by omega) (by omega) (by omega) (q := 78) rfl (fun r9 h_1 hr9 => ?_)
        obtain ⟨s_2, er9, K_3, R_4, F_5, kpx_7⟩ := hr9
        subst er9
        have F_6 : mz_fr s1 s_2 := mz_fr_tr mz_fr_rf F_5
        have kq_8 : kp h h_1 (md_L o md) := kp_in kq kpx_7 (fun _ z => z)
        show aw G 1 M 78 [.ref o] [] h_1 0 0
        refine aw_aload_n C dX9_read_78 rfl rfl (q := 79) rfl ?_
        refine aw_dup C dX9_read_79 rfl (q := 80) rfl ?_
        refine gfX9_96_9 (v := .int (s_2.1 3)) C dX9_read_80 K_3.1 rfl (q := 83) rfl ?_
        refine aw_iconst (v := 1) C dX9_read_83 (by decide) (q := 84) rfl ?_
        refine aw_iadd C dX9_read_84 (q := 85) rfl ?_
        rw [show (s_2.1 3) + 1 = nI (p + 1) from by rw [R_4.2.2.1]; exact nI_1 _]
        refine pfX9_96_9 C dX9_read_85 K_3.1 rfl rfl (Nat.le_of_ble_eq_true rfl) (q := 88) rfl ?_
        show aw G 1 M 88 [.ref o] [] (ac_up h_1 o (.inr (9, md_fs md ((upd s_2.1 3 (nI (p + 1)), s_2.2.1, s_2.2.2).1)))) 0 0
        obtain ⟨h_9, eh_9⟩ : ∃ z9, z9 = ac_up h_1 o (.inr (9, md_fs md ((upd s_2.1 3 (nI (p + 1)), s_2.2.1, s_2.2.2).1))) := ⟨_, rfl⟩
        rw [← eh_9]
        have kpx_12 : kp h_1 h_9 [o] := by rw [eh_9]; exact kp_up (kp_cons o kp_rf) _ _ (by simp)
        have K_10 : md_ok h_9 o md (upd s_2.1 3 (nI (p + 1)), s_2.2.1, s_2.2.2) := md_J (s := (s_2.1, s_2.2.1, s_2.2.2)) K_3 (by rw [eh_9]; exact ac_up_s _ _ _) kpx_12
        have kq_11 : kp h h_9 (md_L o md) := kp_in kq_8 kpx_12 md_s0
        have R_14 : mz_rep (upd s_2.1 3 (nI (p + 1)), s_2.2.1, s_2.2.2) u n (p + 1, U, W, some p) := mz_at R_4 _
        have F_15 : mz_fr s1 (upd s_2.1 3 (nI (p + 1)), s_2.2.1, s_2.2.2) := mz_fr_at F_6
        obtain ⟨s_13, es_13⟩ : ∃ z, z = (upd s_2.1 3 (nI (p + 1)), s_2.2.1, s_2.2.2) := ⟨_, rfl⟩
        rw [← es_13] at K_10 R_14 F_15
        refine aw_aload_n C dX9_read_88 rfl rfl (q := 89) rfl ?_
        refine gfX9_99_9 (v := .int (s_13.1 4)) C dX9_read_89 K_10.1 rfl (q := 92) rfl ?_
        refine aw_if_ge (t := 35) (q := 95) C dX9_read_92 (by decide) rfl (fun c_92 => ?_) (fun c_92 => absurd c_92 (fun z => z (by rw [R_14.2.2.2.1]; exact nI_le (a := 0) (b := p) (Nat.zero_le _) (by have := R_14.2.2.2.2.2.2.2.2.2 p rfl; omega))))
        have e1 : pz_more u n (0) p = (false, p, []) := by unfold pz_more; rw [if_neg hpn, if_neg (fun z => c_59 ((mz_ec (by decide) (by decide)).mpr z.1))]
        rw [e1] at kk0
        exact ml_rf35 hm C K_10 R_14 (kk0 rfl _ _ (p + 1, U, W, some p) K_10 R_14 rfl hW (mz_fR_tr F (mz_fr_R F_15)) kq_11)
      ·
        refine aw_aload_n C dX9_read_62 rfl rfl (q := 63) rfl ?_
        refine gfX9_22_9 (v := .ref (md 8)) C dX9_read_63 K.1 rfl (q := 66) rfl ?_
        refine aw_bipush (v := 6) C dX9_read_66 (by decide) (q := 68) rfl ?_
        refine ay_iald (N := 7) (f := s1.2.1 8) (j := 6) C dX9_read_68 (K.2.1 8 (by decide)) (vp_in_nI (by decide) (by decide)) (rfl) (q := 69) rfl ?_
        refine aw_bipush (v := 12) C dX9_read_69 (by decide) (q := 71) rfl ?_
        refine aw_icmp_ne (t := 78) (q := 74) C dX9_read_71 (by decide) rfl (fun c_71 => absurd c_71 (fun z => z (by rw [h8, show r = 12 by omega]; rfl))) (fun c_71 => ?_)
        refine aw_aload_n C dX9_read_74 rfl rfl (q := 75) rfl ?_
        refine cvX9_120_9 (As := []) (rest := []) C B dX9_read_75 K.1 (p_fail G M.2.1 o md hm h1 (d + 7) s1 K u n p U W none R (by omega)) rfl rfl (Nat.le_of_ble_eq_true rfl) (by omega) (by omega) (by omega) (q := 78) rfl (fun r9 h_16 hr9 => ?_)
        obtain ⟨s_17, er9, K_18, R_19, F_20, kpx_22⟩ := hr9
        subst er9
        have F_21 : mz_fr s1 s_17 := mz_fr_tr mz_fr_rf F_20
        have kq_23 : kp h h_16 (md_L o md) := kp_in kq kpx_22 (fun _ z => z)
        show aw G 1 M 78 [.ref o] [] h_16 0 0
        refine aw_aload_n C dX9_read_78 rfl rfl (q := 79) rfl ?_
        refine aw_dup C dX9_read_79 rfl (q := 80) rfl ?_
        refine gfX9_96_9 (v := .int (s_17.1 3)) C dX9_read_80 K_18.1 rfl (q := 83) rfl ?_
        refine aw_iconst (v := 1) C dX9_read_83 (by decide) (q := 84) rfl ?_
        refine aw_iadd C dX9_read_84 (q := 85) rfl ?_
        rw [show (s_17.1 3) + 1 = nI (p + 1) from by rw [R_19.2.2.1]; exact nI_1 _]
        refine pfX9_96_9 C dX9_read_85 K_18.1 rfl rfl (Nat.le_of_ble_eq_true rfl) (q := 88) rfl ?_
        show aw G 1 M 88 [.ref o] [] (ac_up h_16 o (.inr (9, md_fs md ((upd s_17.1 3 (nI (p + 1)), s_17.2.1, s_17.2.2).1)))) 0 0
        obtain ⟨h_24, eh_24⟩ : ∃ z9, z9 = ac_up h_16 o (.inr (9, md_fs md ((upd s_17.1 3 (nI (p + 1)), s_17.2.1, s_17.2.2).1))) := ⟨_, rfl⟩
        rw [← eh_24]
        have kpx_27 : kp h_16 h_24 [o] := by rw [eh_24]; exact kp_up (kp_cons o kp_rf) _ _ (by simp)
        have K_25 : md_ok h_24 o md (upd s_17.1 3 (nI (p + 1)), s_17.2.1, s_17.2.2) := md_J (s := (s_17.1, s_17.2.1, s_17.2.2)) K_18 (by rw [eh_24]; exact ac_up_s _ _ _) kpx_27
        have kq_26 : kp h h_24 (md_L o md) := kp_in kq_23 kpx_27 md_s0
        have R_29 : mz_rep (upd s_17.1 3 (nI (p + 1)), s_17.2.1, s_17.2.2) u n (p + 1, U, W, some p) := mz_at R_19 _
        have F_30 : mz_fr s1 (upd s_17.1 3 (nI (p + 1)), s_17.2.1, s_17.2.2) := mz_fr_at F_21
        obtain ⟨s_28, es_28⟩ : ∃ z, z = (upd s_17.1 3 (nI (p + 1)), s_17.2.1, s_17.2.2) := ⟨_, rfl⟩
        rw [← es_28] at K_25 R_29 F_30
        refine aw_aload_n C dX9_read_88 rfl rfl (q := 89) rfl ?_
        refine gfX9_99_9 (v := .int (s_28.1 4)) C dX9_read_89 K_25.1 rfl (q := 92) rfl ?_
        refine aw_if_ge (t := 35) (q := 95) C dX9_read_92 (by decide) rfl (fun c_92 => ?_) (fun c_92 => absurd c_92 (fun z => z (by rw [R_29.2.2.2.1]; exact nI_le (a := 0) (b := p) (Nat.zero_le _) (by have := R_29.2.2.2.2.2.2.2.2.2 p rfl; omega))))
        have e1 : pz_more u n (0) p = (false, p, []) := by unfold pz_more; rw [if_neg hpn, if_neg (fun z => z.2 rfl)]
        rw [e1] at kk0
        exact ml_rf35 hm C K_25 R_29 (kk0 rfl _ _ (p + 1, U, W, some p) K_25 R_29 rfl hW (mz_fR_tr F (mz_fr_R F_30)) kq_26)
  | succ m ih =>
    intro r p U W h1 s1 hr hr1 hp hU hW K R h8 h9r F kq kk1 kk0
    by_cases hpn : p = n
    · subst hpn
      refine aw_aload_n C dX9_read_35 rfl rfl (q := 36) rfl ?_
      refine gfX9_99_9 (v := .int (s1.1 4)) C dX9_read_36 K.1 rfl (q := 39) rfl ?_
      refine aw_if_ge (t := 102) (q := 42) C dX9_read_39 (by decide) rfl (fun c_39 => absurd c_39 (by rw [R.2.2.2.1]; show ¬ (0 : Int32) ≤ -1; decide)) (fun c_39 => ?_)
      refine aw_aload_n C dX9_read_42 rfl rfl (q := 43) rfl ?_
      refine gfX9_96_9 (v := .int (s1.1 3)) C dX9_read_43 K.1 rfl (q := 46) rfl ?_
      refine aw_aload_n C dX9_read_46 rfl rfl (q := 47) rfl ?_
      refine gfX9_93_9 (v := .int (s1.1 2)) C dX9_read_47 K.1 rfl (q := 50) rfl ?_
      refine aw_icmp_ge (t := 102) (q := 53) C dX9_read_50 (by decide) rfl (fun c_50 => ?_) (fun c_50 => absurd c_50 (fun z => z (by rw [R.1, R.2.2.1]; exact nI_le (Nat.le_refl _) (by omega))))
      have e1 : pz_more u p (m + 1) p = (true, p, []) := if_pos rfl
      rw [e1] at kk1
      exact kk1 rfl h1 s1 W K R hW h8 h9r (fun _ _ => ⟨rfl, rfl⟩) F kq
    · have hlt : p < n := by omega
      have gr := pz_rule_good (u := u) hn (p + 1) (by omega)
      refine aw_aload_n C dX9_read_35 rfl rfl (q := 36) rfl ?_
      refine gfX9_99_9 (v := .int (s1.1 4)) C dX9_read_36 K.1 rfl (q := 39) rfl ?_
      refine aw_if_ge (t := 102) (q := 42) C dX9_read_39 (by decide) rfl (fun c_39 => absurd c_39 (by rw [R.2.2.2.1]; show ¬ (0 : Int32) ≤ -1; decide)) (fun c_39 => ?_)
      refine aw_aload_n C dX9_read_42 rfl rfl (q := 43) rfl ?_
      refine gfX9_96_9 (v := .int (s1.1 3)) C dX9_read_43 K.1 rfl (q := 46) rfl ?_
      refine aw_aload_n C dX9_read_46 rfl rfl (q := 47) rfl ?_
      refine gfX9_93_9 (v := .int (s1.1 2)) C dX9_read_47 K.1 rfl (q := 50) rfl ?_
      refine aw_icmp_ge (t := 102) (q := 53) C dX9_read_50 (by decide) rfl (fun c_50 => absurd c_50 (by rw [R.1, R.2.2.1]; exact ni_nge p n rfl rfl (by omega) (by omega) (by omega))) (fun c_50 => ?_)
      refine aw_aload_n C dX9_read_53 rfl rfl (q := 54) rfl ?_
      refine cvX9_116_9 (As := []) (rest := []) C B dX9_read_54 K.1 (m_here G M.2.1 o md hm h1 (d + 7) s1 K p n R.2.2.1 R.1 (by omega) R.2.1) rfl rfl (Nat.le_of_ble_eq_true rfl) (by omega) (by omega) (by omega) (q := 57) rfl (fun r9 h9 hr9 => ?_)
      obtain ⟨e9, er9⟩ := hr9
      subst er9; rw [e9]
      show aw G 1 M 57 [.ref o] [.int (mo_here s1 p n)] h1 0 0
      rw [mz_here R]
      refine aw_bipush (v := 59) C dX9_read_57 (by decide) (q := 59) rfl ?_
      refine aw_icmp_ne (t := 74) (q := 62) C dX9_read_59 (by decide) rfl (fun c_59 => ?_) (fun c_59 => ?_)
      ·
        refine aw_aload_n C dX9_read_74 rfl rfl (q := 75) rfl ?_
        refine cvX9_120_9 (As := []) (rest := []) C B dX9_read_75 K.1 (p_fail G M.2.1 o md hm h1 (d + 7) s1 K u n p U W none R (by omega)) rfl rfl (Nat.le_of_ble_eq_true rfl) (by omega) (by omega) (by omega) (q := 78) rfl (fun r9 h_1 hr9 => ?_)
        obtain ⟨s_2, er9, K_3, R_4, F_5, kpx_7⟩ := hr9
        subst er9
        have F_6 : mz_fr s1 s_2 := mz_fr_tr mz_fr_rf F_5
        have kq_8 : kp h h_1 (md_L o md) := kp_in kq kpx_7 (fun _ z => z)
        show aw G 1 M 78 [.ref o] [] h_1 0 0
        refine aw_aload_n C dX9_read_78 rfl rfl (q := 79) rfl ?_
        refine aw_dup C dX9_read_79 rfl (q := 80) rfl ?_
        refine gfX9_96_9 (v := .int (s_2.1 3)) C dX9_read_80 K_3.1 rfl (q := 83) rfl ?_
        refine aw_iconst (v := 1) C dX9_read_83 (by decide) (q := 84) rfl ?_
        refine aw_iadd C dX9_read_84 (q := 85) rfl ?_
        rw [show (s_2.1 3) + 1 = nI (p + 1) from by rw [R_4.2.2.1]; exact nI_1 _]
        refine pfX9_96_9 C dX9_read_85 K_3.1 rfl rfl (Nat.le_of_ble_eq_true rfl) (q := 88) rfl ?_
        show aw G 1 M 88 [.ref o] [] (ac_up h_1 o (.inr (9, md_fs md ((upd s_2.1 3 (nI (p + 1)), s_2.2.1, s_2.2.2).1)))) 0 0
        obtain ⟨h_9, eh_9⟩ : ∃ z9, z9 = ac_up h_1 o (.inr (9, md_fs md ((upd s_2.1 3 (nI (p + 1)), s_2.2.1, s_2.2.2).1))) := ⟨_, rfl⟩
        rw [← eh_9]
        have kpx_12 : kp h_1 h_9 [o] := by rw [eh_9]; exact kp_up (kp_cons o kp_rf) _ _ (by simp)
        have K_10 : md_ok h_9 o md (upd s_2.1 3 (nI (p + 1)), s_2.2.1, s_2.2.2) := md_J (s := (s_2.1, s_2.2.1, s_2.2.2)) K_3 (by rw [eh_9]; exact ac_up_s _ _ _) kpx_12
        have kq_11 : kp h h_9 (md_L o md) := kp_in kq_8 kpx_12 md_s0
        have R_14 : mz_rep (upd s_2.1 3 (nI (p + 1)), s_2.2.1, s_2.2.2) u n (p + 1, U, W, some p) := mz_at R_4 _
        have F_15 : mz_fr s1 (upd s_2.1 3 (nI (p + 1)), s_2.2.1, s_2.2.2) := mz_fr_at F_6
        obtain ⟨s_13, es_13⟩ : ∃ z, z = (upd s_2.1 3 (nI (p + 1)), s_2.2.1, s_2.2.2) := ⟨_, rfl⟩
        rw [← es_13] at K_10 R_14 F_15
        refine aw_aload_n C dX9_read_88 rfl rfl (q := 89) rfl ?_
        refine gfX9_99_9 (v := .int (s_13.1 4)) C dX9_read_89 K_10.1 rfl (q := 92) rfl ?_
        refine aw_if_ge (t := 35) (q := 95) C dX9_read_92 (by decide) rfl (fun c_92 => ?_) (fun c_92 => absurd c_92 (fun z => z (by rw [R_14.2.2.2.1]; exact nI_le (a := 0) (b := p) (Nat.zero_le _) (by have := R_14.2.2.2.2.2.2.2.2.2 p rfl; omega))))
        have e1 : pz_more u n (m + 1) p = (false, p, []) := by unfold pz_more; rw [if_neg hpn, if_neg (fun z => c_59 ((mz_ec (by decide) (by decide)).mpr z.1))]
        rw [e1] at kk0
        exact ml_rf35 hm C K_10 R_14 (kk0 rfl _ _ (p + 1, U, W, some p) K_10 R_14 rfl hW (mz_fR_tr F (mz_fr_R F_15)) kq_11)
      ·
        refine aw_aload_n C dX9_read_62 rfl rfl (q := 63) rfl ?_
        refine gfX9_22_9 (v := .ref (md 8)) C dX9_read_63 K.1 rfl (q := 66) rfl ?_
        refine aw_bipush (v := 6) C dX9_read_66 (by decide) (q := 68) rfl ?_
        refine ay_iald (N := 7) (f := s1.2.1 8) (j := 6) C dX9_read_68 (K.2.1 8 (by decide)) (vp_in_nI (by decide) (by decide)) (rfl) (q := 69) rfl ?_
        refine aw_bipush (v := 12) C dX9_read_69 (by decide) (q := 71) rfl ?_
        refine aw_icmp_ne (t := 78) (q := 74) C dX9_read_71 (by decide) rfl (fun c_71 => ?_) (fun c_71 => absurd c_71 (fun z => absurd ((nI_eq (a := r) (b := 12) (by omega) (by decide)).mp (h8.symm.trans z)) (by omega)))
        refine aw_aload_n C dX9_read_78 rfl rfl (q := 79) rfl ?_
        refine aw_dup C dX9_read_79 rfl (q := 80) rfl ?_
        refine gfX9_96_9 (v := .int (s1.1 3)) C dX9_read_80 K.1 rfl (q := 83) rfl ?_
        refine aw_iconst (v := 1) C dX9_read_83 (by decide) (q := 84) rfl ?_
        refine aw_iadd C dX9_read_84 (q := 85) rfl ?_
        rw [show (s1.1 3) + 1 = nI (p + 1) from by rw [R.2.2.1]; exact nI_1 _]
        refine pfX9_96_9 C dX9_read_85 K.1 rfl rfl (Nat.le_of_ble_eq_true rfl) (q := 88) rfl ?_
        show aw G 1 M 88 [.ref o] [] (ac_up h1 o (.inr (9, md_fs md ((upd s1.1 3 (nI (p + 1)), s1.2.1, s1.2.2).1)))) 0 0
        obtain ⟨h_16, eh_16⟩ : ∃ z9, z9 = ac_up h1 o (.inr (9, md_fs md ((upd s1.1 3 (nI (p + 1)), s1.2.1, s1.2.2).1))) := ⟨_, rfl⟩
        rw [← eh_16]
        have kpx_19 : kp h1 h_16 [o] := by rw [eh_16]; exact kp_up (kp_cons o kp_rf) _ _ (by simp)
        have K_17 : md_ok h_16 o md (upd s1.1 3 (nI (p + 1)), s1.2.1, s1.2.2) := md_J (s := (s1.1, s1.2.1, s1.2.2)) K (by rw [eh_16]; exact ac_up_s _ _ _) kpx_19
        have kq_18 : kp h h_16 (md_L o md) := kp_in kq kpx_19 md_s0
        have R_21 : mz_rep (upd s1.1 3 (nI (p + 1)), s1.2.1, s1.2.2) u n (p + 1, U, W, none) := mz_at R _
        have F_22 : mz_fr s1 (upd s1.1 3 (nI (p + 1)), s1.2.1, s1.2.2) := mz_fr_at mz_fr_rf
        obtain ⟨s_20, es_20⟩ : ∃ z, z = (upd s1.1 3 (nI (p + 1)), s1.2.1, s1.2.2) := ⟨_, rfl⟩
        rw [← es_20] at K_17 R_21 F_22
        refine aw_aload_n C dX9_read_88 rfl rfl (q := 89) rfl ?_
        refine gfX9_99_9 (v := .int (s_20.1 4)) C dX9_read_89 K_17.1 rfl (q := 92) rfl ?_
        refine aw_if_ge (t := 35) (q := 95) C dX9_read_92 (by decide) rfl (fun c_92 => absurd c_92 (by rw [R_21.2.2.2.1]; show ¬ (0 : Int32) ≤ -1; decide)) (fun c_92 => ?_)
        refine aw_aload_n C dX9_read_95 rfl rfl (q := 96) rfl ?_
        have h59 : cu_c u n p = 59 ∧ ¬ m + 1 = 0 := ⟨(mz_ec (by decide) (by decide)).mp c_59, by omega⟩
        have e1 : pz_more u n (m + 1) p = pz_rules u n (m + 1) (p + 1) := by unfold pz_more; rw [if_neg hpn, if_pos h59]
        have f8 : s_20.2.1 8 = s1.2.1 8 := F_22.2.1 8 (by decide)
        have f9 : s_20.2.1 9 = s1.2.1 9 := F_22.2.1 9 (by decide)
        have f10 : s_20.2.1 10 = s1.2.1 10 := F_22.2.1 10 (by decide)
        obtain ⟨pr1, pr0⟩ := p_rule G M.2.1 o md hm h_16 d s_20 K_17 u n (p + 1) U W R_21 hn ht (by omega) (by omega) hW r (by omega) (by rw [f8]; exact h8)
        by_cases hk : (pz_rule u n (p + 1)).1 = true
        · refine cvX9_158_9 (As := []) (rest := []) C B dX9_read_96 K_17.1 (pr1 hk) rfl rfl (Nat.le_of_ble_eq_true rfl) (by omega) (by omega) (by omega) (q := 99) rfl (fun r9 h9 hr9 => ?_)
          obtain ⟨s3, W3, er9, K3, R3, hW3, g8, g9, g10, F3, kp3⟩ := hr9
          subst er9
          show aw G 1 M 99 [.ref o] [] h9 0 0
          refine aw_goto (q := 35) C dX9_read_99 (by decide) ?_
          have gk := gr.2 hk
          have e2 := pz_rules_s u n m (p + 1)
          rw [if_pos hk] at e2
          rw [e1] at kk1 kk0
          refine ih (r + 1) (pz_rule u n (p + 1)).2.1 (List.reverseAux ((pz_rule u n (p + 1)).2.2.map pz_m) U) W3 h9 s3 (by omega) (by omega) gr.1 (by rw [rv_len, List.length_map]; omega) hW3 K3 R3 (by rw [g8]; exact if_pos rfl) (by rw [g9]; exact if_pos rfl) (mz_fR_tr F (mz_fR_tr (mz_fr_R F_22) F3)) (kp_in kq_18 kp3 (fun _ z => z)) (fun z h2 s4 W4 K4 R4 hW4 q8 qd qs F4 kq4 => ?_) (fun z h2 s4 c K4 R4 ec hc F4 kq4 => ?_)
          · rw [if_pos z] at e2
            have e3 : (pz_rules u n (m + 1) (p + 1)).2.2 = (cu_c u n (p + 1) - 48, (pz_rule u n (p + 1)).2.2) :: (pz_more u n m (pz_rule u n (p + 1)).2.1).2.2 := by rw [e2]
            rw [e3] at kk1
            have z1 : (pz_rules u n (m + 1) (p + 1)).1 = true := by rw [e2]; exact z
            refine kk1 z1 h2 s4 W4 K4 ?_ hW4 ?_ ?_ ?_ F4 kq4
            · show mz_rep s4 u n (n, List.reverseAux (((pz_rule u n (p + 1)).2.2 ++ pz_all (pz_more u n m (pz_rule u n (p + 1)).2.1).2.2).map pz_m) U, W4, none)
              rw [List.map_append, rv_app]; exact R4
            · rw [q8, List.length_cons]; congr 1; omega
            · have hl1 : p + 1 < n := by have := gr.1; omega
              refine ⟨?_, ?_, ?_⟩
              · rw [(qs (78 + r) (by omega)).2, g10, ← mz_same hl1]; exact if_pos rfl
              · rw [(qs (78 + r) (by omega)).1, g9]; unfold upd; rw [if_neg (by omega), if_pos rfl]
              · rw [rv_len, List.length_map, Nat.add_comm (pz_rule u n (p + 1)).2.2.length U.length] at qd; exact qd
            · intro i hi
              obtain ⟨y1, y2⟩ := qs i (by omega)
              rw [g9] at y1; rw [g10] at y2
              unfold upd at y1 y2
              rw [if_neg (by omega), if_neg (by omega), f9] at y1; rw [if_neg (by omega), f10] at y2
              exact ⟨y1, y2⟩
          · have z1 : (pz_rules u n (m + 1) (p + 1)).1 = false := by rw [e2]; exact z
            exact kk0 z1 h2 s4 c K4 R4 (by rw [ec, e2]) hc F4 kq4
        · have hno : (pz_rule u n (p + 1)).1 = false := by cases e : (pz_rule u n (p + 1)).1; rfl; exact absurd e hk
          refine cvX9_158_9 (As := []) (rest := []) C B dX9_read_96 K_17.1 (pr0 hno) rfl rfl (Nat.le_of_ble_eq_true rfl) (by omega) (by omega) (by omega) (q := 99) rfl (fun r9 h9 hr9 => ?_)
          obtain ⟨s3, ⟨a9, U9, W9, f9'⟩, er9, K3, R3, ef9, bd1, bd2, F3, kp3⟩ := hr9
          subst er9
          have ef8 : f9' = some (pz_rule u n (p + 1)).2.1 := ef9
          subst ef8
          show aw G 1 M 99 [.ref o] [] h9 0 0
          refine aw_goto (q := 35) C dX9_read_99 (by decide) ?_
          have e2 := pz_rules_s u n m (p + 1)
          rw [if_neg (by rw [hno]; decide)] at e2
          rw [e1, e2] at kk0
          exact ml_rf35 hm C K3 R3 (kk0 rfl h9 s3 (a9, U9, W9, some (pz_rule u n (p + 1)).2.1) K3 R3 rfl bd2 (mz_fR_tr F (mz_fR_tr (mz_fr_R F_22) F3)) (kp_in kq_18 kp3 (fun _ z => z)))
