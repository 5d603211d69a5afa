/-! Walker: class 7, at w: 0 units (u), 1 length, 2 at, 3 plank (pl), 4 isOpen -/
theorem cu_num_mx (f : Nat → Int32) (len : Nat) : ∀ (n at_ : Nat) (v : Int32), (cu_num f len n at_ v).2 ≤ max at_ len ∧ at_ ≤ (cu_num f len n at_ v).2
  | 0, at_, v => ⟨Nat.le_max_left _ _, Nat.le_refl _⟩
  | n + 1, at_, v => by
    unfold cu_num
    split
    · exact ⟨Nat.le_max_left _ _, Nat.le_refl _⟩
    · rename_i h1
      split
      · exact ⟨Nat.le_max_left _ _, Nat.le_refl _⟩
      · have hl : at_ < len := by
          apply Classical.byContradiction; intro z
          exact h1 (by unfold cu_c; rw [if_neg z]; decide)
        have := cu_num_mx f len n (at_ + 1) (v * 10 + (cu_c f len at_ - 48)); omega
theorem cu_c_in {f : Nat → Int32} {len at_ : Nat} {x : Int32} (h : cu_c f len at_ = x) (hx : x ≠ 0) : at_ < len := by
  apply Classical.byContradiction; intro z
  unfold cu_c at h; rw [if_neg z] at h; exact hx h.symm
theorem cu_isd_in {f : Nat → Int32} {len at_ : Nat} {b : Int32} (h : cu_isd (cu_c f len at_) b) : at_ < len := by
  apply Classical.byContradiction; intro z
  have h1 := h.1
  unfold cu_c at h1; rw [if_neg z] at h1; exact h1 (by decide)
theorem cu_pre_mx (f : Nat → Int32) (len : Nat) : ∀ (n at_ : Nat), (cu_pre f len n at_).2 ≤ max at_ len ∧ at_ ≤ (cu_pre f len n at_).2
  | 0, at_ => ⟨Nat.le_max_left _ _, Nat.le_refl _⟩
  | n + 1, at_ => by
    unfold cu_pre
    split
    · rename_i h1
      have hl : at_ < len := by
        rcases h1 with z | z | z
        · exact cu_c_in z (by decide)
        · exact cu_c_in z (by decide)
        · exact cu_c_in z (by decide)
      split
      · split
        · rename_i h3
          have := cu_isd_in h3
          have := cu_pre_mx f len n (at_ + 2); omega
        · refine ⟨?_, Nat.le_succ _⟩
          show at_ + 1 ≤ max at_ len; omega
      · have := cu_pre_mx f len n (at_ + 1); omega
    · exact ⟨Nat.le_max_left _ _, Nat.le_refl _⟩
/-- applyPrefixes, from place n - 1 down to first -/
def wk_app (F : Nat → Nat → Int32) (c : Nat) (f : Nat → Int32) (first : Nat) : Nat → Nat → Int64 → Bool → Int64 × Bool
  | 0, _, v, op => (v, op)
  | m + 1, n, v, op => if n ≤ first then (v, op) else if op = true then (v, op) else if f (n - 1) = 45 then wk_app F c f first m (n - 1) (-v) op
      else if f (n - 1) = 102 then wk_app F c f first m (n - 1) (pl_onF (F 5) v.toInt32 0 c).toInt64 (decide (¬ (¬ v.toInt32 < 0 ∧ ¬ 2 ≤ v.toInt32)))
      else wk_app F c f first m (n - 2) (pl_worst F (f (n - 1) - 48) v 0 0 c c) op
abbrev wk_ob (u pl len at_ : Nat) (op : Bool) : ac_E := .inr (7, [.ref u, .int (nI len), .int (nI at_), .ref pl, .int (pb_b (op = true))])
def wk_ok (h : ac_H) (w u pl : Nat) (f : Nat → Int32) (len at_ : Nat) (op : Bool) : Prop := h w = some (wk_ob u pl len at_ op) ∧ h u = some (.inl (0, len, .inl f))
theorem pl_kpw {h h9 : ac_H} {A : Nat → Nat} {I : Nat → Int32} {F : Nat → Nat → Int32} {c w u pl p len at_ : Nat} {f : Nat → Int32} {op : Bool} (K : pl_ok h p A I F c) (Kw : wk_ok h w u pl f len at_ op) (kq : kp h h9 [w]) : pl_ok h9 p A I F c :=
  ⟨kq _ _ K.1 (ni1 (ne_of K.1 Kw.1 (fun z => by cases z)) ni0), fun j h1 h2 => kq _ _ (K.2.1 j h1 h2) (ni1 (ne_ai (K.2.1 j h1 h2) Kw.1) ni0), K.2.2⟩
theorem wk_u {h h9 : ac_H} {w u pl len at_ : Nat} {f : Nat → Int32} {op : Bool} (Kw : wk_ok h w u pl f len at_ op) (kq : kp h h9 [w]) : h9 u = some (.inl (0, len, .inl f)) := kq _ _ Kw.2 (ni1 (ne_ai Kw.2 Kw.1) ni0)
theorem pb_nar2 {p : Prop} [Decidable p] : narrow (tyX7 4) (.int (pb_b p)) = .int (pb_b p) := pb_nar p
set_option maxHeartbeats 4000000 in
set_option maxRecDepth 100000 in
theorem lp_appDone {G : ac_G} {M : ac_M} {h : ac_H} {d w u pl len at_ : Nat} {f : Nat → Int32} {A : Nat → Nat} {I : Nat → Int32} {F : Nat → Nat → Int32} {c first : Nat} {en : Int32} {v0 : Int64} {R : Int64 × Bool} (C : ac_MC G RX7 cX7_applyPrefixes 10 (some .long) M) (B : ac_Bd M (d + 3) 0 0) (E : ac_End G (fun r9 h9 => r9 = some (.long R.1) ∧ wk_ok h9 w u pl f len at_ R.2 ∧ kp h h9 [w]) 0 0 M) (op0 : Bool) (Kw0 : wk_ok h w u pl f len at_ op0) (Kp0 : pl_ok h pl A I F c) (hlen : len ≤ 400) (hf1 : first < 100000) {h1 : ac_H} {v : Int64} {x : Int32} {v8 v9 : Value} {op : Bool} (hx : x < nI first) (Kw1 : wk_ok h1 w u pl f len at_ op) (kq1 : kp h h1 [w]) (hR : R = (v, op)) : aw G 10 M 8 [.ref w, .int (nI first), .int en, .long v0, .retAddr 0, .long v, .retAddr 0, .int x, v8, v9] [] h1 0 0 := by
  refine aw_iload C dX7_applyPrefixes_8 rfl (q := 10) rfl ?_
  refine aw_iload_n C dX7_applyPrefixes_10 rfl rfl (q := 11) rfl ?_
  refine aw_icmp_lt (t := 131) (q := 14) C dX7_applyPrefixes_11 (by decide) rfl (fun c_11 => ?_) (fun c_11 => absurd c_11 (fun z => z hx))
  refine aw_lload C dX7_applyPrefixes_131 rfl (q := 133) rfl ?_
  refine aw_lret C E dX7_applyPrefixes_133 (Nat.le_refl _) (Nat.le_refl _) ?_
  exact ⟨by rw [hR], by rw [hR]; exact Kw1, kq1⟩
theorem wk_lt {n first : Nat} (h : n ≤ first) (h1 : first < 100000) : nI n - 1 < nI first := by
  have e : (nI n - 1).toInt = (n : Int) - 1 := pk_sub_toInt (b := 1) (by omega) (by decide)
  rw [Int32.lt_iff_toInt_lt, e, nI_toInt (by omega)]
  omega
theorem wk_app_s (F : Nat → Nat → Int32) (c : Nat) (f : Nat → Int32) (first m i : Nat) (v : Int64) (op : Bool) : wk_app F c f first (m + 1) (i + 1) v op = if i + 1 ≤ first then (v, op) else if op = true then (v, op) else if f i = 45 then wk_app F c f first m i (-v) op
      else if f i = 102 then wk_app F c f first m i (pl_onF (F 5) v.toInt32 0 c).toInt64 (decide (¬ (¬ v.toInt32 < 0 ∧ ¬ 2 ≤ v.toInt32)))
      else wk_app F c f first m (i - 1) (pl_worst F (f i - 48) v 0 0 c c) op := rfl
theorem wk_m2 {i : Nat} (h : i < 100000) : (nI i - 1 - 1).toInt = (i : Int) - 2 := by
  have e : nI i - 1 - 1 = nI i - nI 2 := by
    rw [Int32.sub_eq_add_neg, Int32.sub_eq_add_neg, Int32.sub_eq_add_neg, Int32.add_assoc]; rfl
  rw [e, pk_sub_toInt (by omega) (by decide)]
  rfl
set_option maxHeartbeats 4000000 in
set_option maxRecDepth 100000 in
theorem lp_app {G : ac_G} {M : ac_M} {h : ac_H} {d w u pl len at_ : Nat} {f : Nat → Int32} {A : Nat → Nat} {I : Nat → Int32} {F : Nat → Nat → Int32} {c first : Nat} {en : Int32} {v0 : Int64} {R : Int64 × Bool} (C : ac_MC G RX7 cX7_applyPrefixes 10 (some .long) M) (B : ac_Bd M (d + 3) 0 0) (E : ac_End G (fun r9 h9 => r9 = some (.long R.1) ∧ wk_ok h9 w u pl f len at_ R.2 ∧ kp h h9 [w]) 0 0 M) (op0 : Bool) (Kw0 : wk_ok h w u pl f len at_ op0) (Kp0 : pl_ok h pl A I F c) (hlen : len ≤ 400) (hf1 : first < 100000) :
    ∀ (m n : Nat) (v : Int64) (op : Bool) (h1 : ac_H) (v8 v9 : Value), n ≤ m → n ≤ first ∨ n ≤ len → n < 100000 → wk_ok h1 w u pl f len at_ op → kp h h1 [w] → wk_app F c f first m n v op = R → aw G 10 M 8 [.ref w, .int (nI first), .int en, .long v0, .retAddr 0, .long v, .retAddr 0, .int (nI n - 1), v8, v9] [] h1 0 0 := by
  intro m
  induction m with
  | zero =>
    intro n v op h1 v8 v9 hm hn hb Kw1 kq1 hR
    have hn0 : n = 0 := by omega
    subst hn0
    exact lp_appDone C B E op0 Kw0 Kp0 hlen hf1 (wk_lt (Nat.zero_le _) hf1) Kw1 kq1 hR.symm
  | succ m ih =>
    intro n v op h1 v8 v9 hm hn hb Kw1 kq1 hR
    by_cases hnf : n ≤ first
    · exact lp_appDone C B E op0 Kw0 Kp0 hlen hf1 (wk_lt hnf hf1) Kw1 kq1 (by rw [← hR]; unfold wk_app; rw [if_pos hnf])
    have hnl : n ≤ len := by omega
    obtain ⟨i, rfl⟩ : ∃ i, n = i + 1 := ⟨n - 1, by omega⟩
    rw [show nI (i + 1) - 1 = nI i from nI_pred i]
    have Kp1 := pl_kpw Kp0 Kw0 kq1
    refine aw_iload C dX7_applyPrefixes_8 rfl (q := 10) rfl ?_
    refine aw_iload_n C dX7_applyPrefixes_10 rfl rfl (q := 11) rfl ?_
    refine aw_icmp_lt (t := 131) (q := 14) C dX7_applyPrefixes_11 (by decide) rfl (fun c_11 => absurd c_11 (fun z => by rw [nI_ltI (by omega) (by omega)] at z; omega)) (fun c_11 => ?_)
    refine aw_iload C dX7_applyPrefixes_14 rfl (q := 16) rfl ?_
    refine aw_aload_n C dX7_applyPrefixes_16 rfl rfl (q := 17) rfl ?_
    refine gfX7_21_7 (v := .ref u) C dX7_applyPrefixes_17 Kw1.1 rfl (q := 20) rfl ?_
    refine aw_alen (v := nI len) C dX7_applyPrefixes_20 Kw1.2 rfl rfl (q := 21) rfl ?_
    refine csX7_84 (As := [.int (nI i), .int (nI len)]) (rest := []) C B dX7_applyPrefixes_21 (c_isBelow G M.2.1 h1 d (nI i) (nI len)) rfl rfl (Nat.le_of_ble_eq_true rfl) (by omega) (by omega) (by omega) (q := 24) rfl (fun r9 h9 hr9 => ?_)
    obtain ⟨e9, er9⟩ := hr9
    subst er9; rw [e9]
    show aw G 10 M 24 [.ref w, .int (nI first), .int en, .long v0, .retAddr 0, .long v, .retAddr 0, .int (nI i), v8, v9] [.int (pb_b (¬ (nI i) < 0 ∧ ¬ (nI len) ≤ (nI i)))] h1 0 0
    refine aw_if_eq (t := 131) (q := 27) C dX7_applyPrefixes_24 (by decide) rfl (fun c_24 => absurd c_24 (fun z => (pb_0.mp z) ⟨nI_pos (by omega), ni_nge i len rfl rfl (by omega) (by omega) (by omega)⟩)) (fun c_24 => ?_)
    refine aw_aload_n C dX7_applyPrefixes_27 rfl rfl (q := 28) rfl ?_
    refine gfX7_31_7 (v := .int (pb_b (op = true))) C dX7_applyPrefixes_28 Kw1.1 rfl (q := 31) rfl ?_
    refine aw_if_ne (t := 131) (q := 34) C dX7_applyPrefixes_31 (by decide) rfl (fun c_31 => ?_) (fun c_31 => ?_)
    ·
      refine aw_lload C dX7_applyPrefixes_131 rfl (q := 133) rfl ?_
      refine aw_lret C E dX7_applyPrefixes_133 (Nat.le_refl _) (Nat.le_refl _) ?_
      have ho : op = true := pb_n c_31
      subst ho
      have e : R = (v, true) := by rw [← hR]; unfold wk_app; rw [if_neg hnf, if_pos rfl]
      exact ⟨by rw [e], by rw [e]; exact Kw1, kq1⟩
    ·
      have ho : op = false := by cases op; rfl; exact absurd rfl (pb_0.mp c_31)
      subst ho
      refine aw_aload_n C dX7_applyPrefixes_34 rfl rfl (q := 35) rfl ?_
      refine gfX7_21_7 (v := .ref u) C dX7_applyPrefixes_35 Kw1.1 rfl (q := 38) rfl ?_
      refine aw_iload C dX7_applyPrefixes_38 rfl (q := 40) rfl ?_
      refine ay_cald (j := i) C dX7_applyPrefixes_40 Kw1.2 (vp_in_nI (by omega) (by omega)) (nI_clamp (by omega)) (q := 41) rfl ?_
      refine aw_istore (ls' := [.ref w, .int (nI first), .int en, .long v0, .retAddr 0, .long v, .retAddr 0, .int (nI i), .int (f i), v9]) C dX7_applyPrefixes_41 (by decide) rfl (q := 43) rfl ?_
      refine aw_iload C dX7_applyPrefixes_43 rfl (q := 45) rfl ?_
      refine aw_bipush (v := 45) C dX7_applyPrefixes_45 (by decide) (q := 47) rfl ?_
      refine aw_icmp_ne (t := 58) (q := 50) C dX7_applyPrefixes_47 (by decide) rfl (fun c_47 => ?_) (fun c_47 => ?_)
      ·
        refine aw_iload C dX7_applyPrefixes_58 rfl (q := 60) rfl ?_
        refine aw_bipush (v := 102) C dX7_applyPrefixes_60 (by decide) (q := 62) rfl ?_
        refine aw_icmp_ne (t := 104) (q := 65) C dX7_applyPrefixes_62 (by decide) rfl (fun c_62 => ?_) (fun c_62 => ?_)
        ·
          refine aw_aload_n C dX7_applyPrefixes_104 rfl rfl (q := 105) rfl ?_
          refine gfX7_9_7 (v := .ref pl) C dX7_applyPrefixes_105 Kw1.1 rfl (q := 108) rfl ?_
          refine aw_iload C dX7_applyPrefixes_108 rfl (q := 110) rfl ?_
          refine aw_bipush (v := 48) C dX7_applyPrefixes_110 (by decide) (q := 112) rfl ?_
          refine aw_isub C dX7_applyPrefixes_112 (q := 113) rfl ?_
          refine aw_lload C dX7_applyPrefixes_113 rfl (q := 115) rfl ?_
          refine aw_iconst (v := 0) C dX7_applyPrefixes_115 (by decide) (q := 116) rfl ?_
          refine aw_iconst (v := 0) C dX7_applyPrefixes_116 (by decide) (q := 117) rfl ?_
          refine cvX7_92_1 (As := [.int ((f i) - 48), .long v, .int 0, .int 0]) (rest := []) C B dX7_applyPrefixes_117 Kp1.1 (c_worstIn G M.2.1 h1 d pl A I F c ((f i) - 48) 0 0 v Kp1) rfl rfl (Nat.le_of_ble_eq_true rfl) (by omega) (by omega) (by omega) (q := 120) rfl (fun r9 h9 hr9 => ?_)
          obtain ⟨e9, er9⟩ := hr9
          subst er9; rw [e9]
          show aw G 10 M 120 [.ref w, .int (nI first), .int en, .long v0, .retAddr 0, .long v, .retAddr 0, .int (nI i), .int (f i), v9] [.long (pl_worst F ((f i) - 48) v 0 0 c c)] h1 0 0
          refine aw_lstore (ls' := [.ref w, .int (nI first), .int en, .long v0, .retAddr 0, .long (pl_worst F ((f i) - 48) v 0 0 c c), .retAddr 0, .int (nI i), .int (f i), v9]) C dX7_applyPrefixes_120 (by decide) rfl (q := 122) rfl ?_
          refine aw_iinc (v := nI i - 1) (ls' := [.ref w, .int (nI first), .int en, .long v0, .retAddr 0, .long (pl_worst F ((f i) - 48) v 0 0 c c), .retAddr 0, .int (nI i - 1), .int (f i), v9]) C dX7_applyPrefixes_122 rfl (ni_m1 _) (by decide) rfl (q := 125) rfl ?_
          refine aw_iinc (v := nI i - 1 - 1) (ls' := [.ref w, .int (nI first), .int en, .long v0, .retAddr 0, .long (pl_worst F ((f i) - 48) v 0 0 c c), .retAddr 0, .int (nI i - 1 - 1), .int (f i), v9]) C dX7_applyPrefixes_125 rfl (ni_m1 _) (by decide) rfl (q := 128) rfl ?_
          refine aw_goto (q := 8) C dX7_applyPrefixes_128 (by decide) ?_
          by_cases hi1 : i ≤ first
          · have e9 : wk_app F c f first m (i - 1) (pl_worst F (f i - 48) v 0 0 c c) false = (pl_worst F (f i - 48) v 0 0 c c, false) := by
              cases m with
              | zero => rfl
              | succ m => unfold wk_app; rw [if_pos (by omega)]
            refine lp_appDone C B E op0 Kw0 Kp0 hlen hf1 ?_ Kw1 kq1 ?_
            · rw [Int32.lt_iff_toInt_lt, wk_m2 (by omega), nI_toInt (by omega)]; omega
            · rw [← hR, wk_app_s, if_neg hnf, if_neg (by decide), if_neg c_47, if_neg c_62, e9]
          · obtain ⟨i2, rfl⟩ : ∃ z, i = z + 1 := ⟨i - 1, by omega⟩
            rw [show nI (i2 + 1) - 1 = nI i2 from nI_pred i2]
            refine ih i2 _ false h1 _ _ (by omega) (by omega) (by omega) Kw1 kq1 ?_
            rw [← hR, wk_app_s, if_neg hnf, if_neg (by decide), if_neg c_47, if_neg c_62]
            rfl
        ·
          refine aw_lload C dX7_applyPrefixes_65 rfl (q := 67) rfl ?_
          refine aw_l2i C dX7_applyPrefixes_67 (q := 68) rfl ?_
          refine aw_istore (ls' := [.ref w, .int (nI first), .int en, .long v0, .retAddr 0, .long v, .retAddr 0, .int (nI i), .int (f i), .int v.toInt32]) C dX7_applyPrefixes_68 (by decide) rfl (q := 70) rfl ?_
          refine aw_aload_n C dX7_applyPrefixes_70 rfl rfl (q := 71) rfl ?_
          refine aw_iload C dX7_applyPrefixes_71 rfl (q := 73) rfl ?_
          refine aw_iconst (v := 2) C dX7_applyPrefixes_73 (by decide) (q := 74) rfl ?_
          refine csX7_84 (As := [.int v.toInt32, .int 2]) (rest := [.ref w]) C B dX7_applyPrefixes_74 (c_isBelow G M.2.1 h1 d v.toInt32 2) rfl rfl (Nat.le_of_ble_eq_true rfl) (by omega) (by omega) (by omega) (q := 77) rfl (fun r9 h9 hr9 => ?_)
          obtain ⟨e9, er9⟩ := hr9
          subst er9; rw [e9]
          show aw G 10 M 77 [.ref w, .int (nI first), .int en, .long v0, .retAddr 0, .long v, .retAddr 0, .int (nI i), .int (f i), .int v.toInt32] [.int (pb_b (¬ v.toInt32 < 0 ∧ ¬ 2 ≤ v.toInt32)), .ref w] h1 0 0
          refine aw_if_ne (t := 84) (q := 80) C dX7_applyPrefixes_77 (by decide) rfl (fun c_77 => ?_) (fun c_77 => ?_)
          ·
            refine aw_iconst (v := 0) C dX7_applyPrefixes_84 (by decide) (q := 85) rfl ?_
            rw [show (0 : Int32) = pb_b (false = true) from rfl]
            refine pfX7_31_7 C dX7_applyPrefixes_85 Kw1.1 rfl rfl (Nat.le_of_ble_eq_true rfl) (q := 88) rfl ?_
            show aw G 10 M 88 [.ref w, .int (nI first), .int en, .long v0, .retAddr 0, .long v, .retAddr 0, .int (nI i), .int (f i), .int v.toInt32] [] (ac_up h1 w (.inr (7, [.ref u, .int (nI len), .int (nI at_), .ref pl, .int (pb_b (false = true))]))) 0 0
            obtain ⟨h_1, eh_1⟩ : ∃ z9, z9 = ac_up h1 w (.inr (7, [.ref u, .int (nI len), .int (nI at_), .ref pl, .int (pb_b (false = true))])) := ⟨_, rfl⟩
            rw [← eh_1]
            have f_2 : h_1 u = some (.inl (0, len, .inl (f))) := by rw [eh_1, ac_up_n _ _ (ne_ai Kw1.2 Kw1.1)]; exact Kw1.2
            have f_3 : h_1 w = some (.inr (7, [.ref u, .int (nI len), .int (nI at_), .ref pl, .int (pb_b (false = true))])) := by rw [eh_1]; exact ac_up_s _ _ _
            have kp_4 : kp h h_1 [w] := by rw [eh_1]; exact kp_up kq1 _ _ (by simp)
            have Kw2 : wk_ok h_1 w u pl f len at_ false := ⟨f_3, f_2⟩
            have Kp2 := pl_kpw Kp0 Kw0 kp_4
            have hdo : decide (¬ (¬ v.toInt32 < 0 ∧ ¬ 2 ≤ v.toInt32)) = false := decide_eq_false (fun z => z (pb_n c_77))
            refine aw_aload_n C dX7_applyPrefixes_88 rfl rfl (q := 89) rfl ?_
            refine gfX7_9_7 (v := .ref pl) C dX7_applyPrefixes_89 f_3 rfl (q := 92) rfl ?_
            refine aw_iload C dX7_applyPrefixes_92 rfl (q := 94) rfl ?_
            refine aw_iconst (v := 0) C dX7_applyPrefixes_94 (by decide) (q := 95) rfl ?_
            refine cvX7_88_1 (As := [.int v.toInt32, .int 0]) (rest := []) C B dX7_applyPrefixes_95 Kp2.1 (c_onFace G M.2.1 h_1 d pl A I F c v.toInt32 0 Kp2) rfl rfl (Nat.le_of_ble_eq_true rfl) (by omega) (by omega) (by omega) (q := 98) rfl (fun r9 h9 hr9 => ?_)
            obtain ⟨e9, er9⟩ := hr9
            subst er9; rw [e9]
            show aw G 10 M 98 [.ref w, .int (nI first), .int en, .long v0, .retAddr 0, .long v, .retAddr 0, .int (nI i), .int (f i), .int v.toInt32] [.int (pl_onF (F 5) v.toInt32 0 c)] h_1 0 0
            refine aw_i2l C dX7_applyPrefixes_98 (q := 99) rfl ?_
            refine aw_lstore (ls' := [.ref w, .int (nI first), .int en, .long v0, .retAddr 0, .long ((pl_onF (F 5) v.toInt32 0 c).toInt64), .retAddr 0, .int (nI i), .int (f i), .int v.toInt32]) C dX7_applyPrefixes_99 (by decide) rfl (q := 101) rfl ?_
            refine aw_goto (q := 125) C dX7_applyPrefixes_101 (by decide) ?_
            refine aw_iinc (v := nI i - 1) (ls' := [.ref w, .int (nI first), .int en, .long v0, .retAddr 0, .long ((pl_onF (F 5) v.toInt32 0 c).toInt64), .retAddr 0, .int (nI i - 1), .int (f i), .int v.toInt32]) C dX7_applyPrefixes_125 rfl (ni_m1 _) (by decide) rfl (q := 128) rfl ?_
            refine aw_goto (q := 8) C dX7_applyPrefixes_128 (by decide) ?_
            refine ih i _ _ h_1 _ _ (by omega) (by omega) (by omega) Kw2 kp_4 ?_
            rw [← hR, wk_app_s, if_neg hnf, if_neg (by decide), if_neg c_47, if_pos c_62, hdo]
          ·
            refine aw_iconst (v := 1) C dX7_applyPrefixes_80 (by decide) (q := 81) rfl ?_
            refine aw_goto (q := 85) C dX7_applyPrefixes_81 (by decide) ?_
            rw [show (1 : Int32) = pb_b (true = true) from rfl]
            refine pfX7_31_7 C dX7_applyPrefixes_85 Kw1.1 rfl rfl (Nat.le_of_ble_eq_true rfl) (q := 88) rfl ?_
            show aw G 10 M 88 [.ref w, .int (nI first), .int en, .long v0, .retAddr 0, .long v, .retAddr 0, .int (nI i), .int (f i), .int v.toInt32] [] (ac_up h1 w (.inr (7, [.ref u, .int (nI len), .int (nI at_), .ref pl, .int (pb_b (true = true))]))) 0 0
            obtain ⟨h_5, eh_5⟩ : ∃ z9, z9 = ac_up h1 w (.inr (7, [.ref u, .int (nI len), .int (nI at_), .ref pl, .int (pb_b (true = true))])) := ⟨_, rfl⟩
            rw [← eh_5]
            have f_6 : h_5 u = some (.inl (0, len, .inl (f))) := by rw [eh_5, ac_up_n _ _ (ne_ai Kw1.2 Kw1.1)]; exact Kw1.2
            have f_7 : h_5 w = some (.inr (7, [.ref u, .int (nI len), .int (nI at_), .ref pl, .int (pb_b (true = true))])) := by rw [eh_5]; exact ac_up_s _ _ _
            have kp_8 : kp h h_5 [w] := by rw [eh_5]; exact kp_up kq1 _ _ (by simp)
            have Kw2 : wk_ok h_5 w u pl f len at_ true := ⟨f_7, f_6⟩
            have Kp2 := pl_kpw Kp0 Kw0 kp_8
            have hdo : decide (¬ (¬ v.toInt32 < 0 ∧ ¬ 2 ≤ v.toInt32)) = true := decide_eq_true (pb_0.mp c_77)
            refine aw_aload_n C dX7_applyPrefixes_88 rfl rfl (q := 89) rfl ?_
            refine gfX7_9_7 (v := .ref pl) C dX7_applyPrefixes_89 f_7 rfl (q := 92) rfl ?_
            refine aw_iload C dX7_applyPrefixes_92 rfl (q := 94) rfl ?_
            refine aw_iconst (v := 0) C dX7_applyPrefixes_94 (by decide) (q := 95) rfl ?_
            refine cvX7_88_1 (As := [.int v.toInt32, .int 0]) (rest := []) C B dX7_applyPrefixes_95 Kp2.1 (c_onFace G M.2.1 h_5 d pl A I F c v.toInt32 0 Kp2) rfl rfl (Nat.le_of_ble_eq_true rfl) (by omega) (by omega) (by omega) (q := 98) rfl (fun r9 h9 hr9 => ?_)
            obtain ⟨e9, er9⟩ := hr9
            subst er9; rw [e9]
            show aw G 10 M 98 [.ref w, .int (nI first), .int en, .long v0, .retAddr 0, .long v, .retAddr 0, .int (nI i), .int (f i), .int v.toInt32] [.int (pl_onF (F 5) v.toInt32 0 c)] h_5 0 0
            refine aw_i2l C dX7_applyPrefixes_98 (q := 99) rfl ?_
            refine aw_lstore (ls' := [.ref w, .int (nI first), .int en, .long v0, .retAddr 0, .long ((pl_onF (F 5) v.toInt32 0 c).toInt64), .retAddr 0, .int (nI i), .int (f i), .int v.toInt32]) C dX7_applyPrefixes_99 (by decide) rfl (q := 101) rfl ?_
            refine aw_goto (q := 125) C dX7_applyPrefixes_101 (by decide) ?_
            refine aw_iinc (v := nI i - 1) (ls' := [.ref w, .int (nI first), .int en, .long v0, .retAddr 0, .long ((pl_onF (F 5) v.toInt32 0 c).toInt64), .retAddr 0, .int (nI i - 1), .int (f i), .int v.toInt32]) C dX7_applyPrefixes_125 rfl (ni_m1 _) (by decide) rfl (q := 128) rfl ?_
            refine aw_goto (q := 8) C dX7_applyPrefixes_128 (by decide) ?_
            refine ih i _ _ h_5 _ _ (by omega) (by omega) (by omega) Kw2 kp_8 ?_
            rw [← hR, wk_app_s, if_neg hnf, if_neg (by decide), if_neg c_47, if_pos c_62, hdo]
      ·
        refine aw_lload C dX7_applyPrefixes_50 rfl (q := 52) rfl ?_
        refine aw_lneg C dX7_applyPrefixes_52 (q := 53) rfl ?_
        refine aw_lstore (ls' := [.ref w, .int (nI first), .int en, .long v0, .retAddr 0, .long (-v), .retAddr 0, .int (nI i), .int (f i), v9]) C dX7_applyPrefixes_53 (by decide) rfl (q := 55) rfl ?_
        refine aw_goto (q := 125) C dX7_applyPrefixes_55 (by decide) ?_
        refine aw_iinc (v := nI i - 1) (ls' := [.ref w, .int (nI first), .int en, .long v0, .retAddr 0, .long (-v), .retAddr 0, .int (nI i - 1), .int (f i), v9]) C dX7_applyPrefixes_125 rfl (ni_m1 _) (by decide) rfl (q := 128) rfl ?_
        refine aw_goto (q := 8) C dX7_applyPrefixes_128 (by decide) ?_
        refine ih i _ false h1 _ _ (by omega) (by omega) (by omega) Kw1 kq1 ?_
        rw [← hR, wk_app_s, if_neg hnf, if_neg (by decide), if_pos c_47]
set_option maxHeartbeats 4000000 in
set_option maxRecDepth 100000 in
theorem c_applyPrefixes (G : ac_G) (l : Launch) (h : ac_H) (d : Nat) (w u pl len at_ : Nat) (f : Nat → Int32) (A : Nat → Nat) (I : Nat → Int32) (F : Nat → Nat → Int32) (c first en : Nat) (v : Int64) (op : Bool) (Kw : wk_ok h w u pl f len at_ op) (Kp : pl_ok h pl A I F c) (hlen : len ≤ 400) (hf1 : first < 100000) (hen : en ≤ first ∨ en ≤ len) (hen2 : en < 100000) : ac_Met G l yX7_applyPrefixes cX7_applyPrefixes 10 (some .long) (d + 3) 0 0 [.ref w, .int (nI first), .int (nI en), .long v] h (fun r9 h9 => r9 = some (.long (wk_app F c f first en en v op).1) ∧ wk_ok h9 w u pl f len at_ (wk_app F c f first en en v op).2 ∧ kp h h9 [w]) := by
  refine ac_of (ls := [.ref w, .int (nI first), .int (nI en), .long v, .retAddr 0, .retAddr 0, .retAddr 0, .retAddr 0, .retAddr 0, .retAddr 0]) (by decide +kernel) rfl (Nat.le_of_ble_eq_true rfl) (fun M hl C B E hnm => ?_)
  refine aw_lload_n C dX7_applyPrefixes_0 rfl rfl (q := 1) rfl ?_
  refine aw_lstore (ls' := [.ref w, .int (nI first), .int (nI en), .long v, .retAddr 0, .long v, .retAddr 0, .retAddr 0, .retAddr 0, .retAddr 0]) C dX7_applyPrefixes_1 (by decide) rfl (q := 3) rfl ?_
  refine aw_iload_n C dX7_applyPrefixes_3 rfl rfl (q := 4) rfl ?_
  refine aw_iconst (v := 1) C dX7_applyPrefixes_4 (by decide) (q := 5) rfl ?_
  refine aw_isub C dX7_applyPrefixes_5 (q := 6) rfl ?_
  refine aw_istore (ls' := [.ref w, .int (nI first), .int (nI en), .long v, .retAddr 0, .long v, .retAddr 0, .int ((nI en) - 1), .retAddr 0, .retAddr 0]) C dX7_applyPrefixes_6 (by decide) rfl (q := 8) rfl ?_
  exact lp_app (R := wk_app F c f first en en v op) C B E op Kw Kp hlen hf1 en en v op h _ _ (Nat.le_refl _) hen hen2 Kw (kp_cons _ kp_rf) rfl
