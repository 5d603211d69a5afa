/-! Reckoner: class 4, at k: 0 plank, 1 stack, 2 top, 3 held, 4 cause; the stack's row at sk -/
theorem ne_of {h : ac_H} {a b : Nat} {e1 e2 : ac_E} (ha : h a = some e1) (hb : h b = some e2) (hne : e1 ≠ e2) : a ≠ b := fun z => hne (Option.some.inj (by rw [← ha, ← hb, z]))
abbrev rk_S : Type := (Nat → Int64) × Nat
def rk_push (s : rk_S) (v : Int64) : rk_S := if s.2 < 32 then (vp_updL s.1 s.2 v, s.2 + 1) else s
def rk_top (s : rk_S) : Int64 := if s.2 < 1 then 0 else s.1 (s.2 - 1)
def rk_drop (s : rk_S) : rk_S := (s.1, s.2 - 1)
theorem rk_push_le {s : rk_S} {v : Int64} (h : s.2 ≤ 32) : (rk_push s v).2 ≤ 32 := by
  unfold rk_push; split
  · show s.2 + 1 ≤ 32; omega
  · exact h
abbrev rk_ob (pl sk : Nat) (top : Nat) (hd ca : Int32) : ac_E := .inr (4, [.ref pl, .ref sk, .int (nI top), .int hd, .int ca])
abbrev rk_ar (S : Nat → Int64) : ac_E := .inl (2, 32, .inr (.inl S))
/-- the reckoner k with the stack s -/
def rk_ok (h : ac_H) (k pl sk : Nat) (s : rk_S) (hd ca : Int32) : Prop := h k = some (rk_ob pl sk s.2 hd ca) ∧ h sk = some (rk_ar s.1) ∧ s.2 ≤ 32
theorem rk_ok.ne {h : ac_H} {k pl sk : Nat} {s : rk_S} {hd ca : Int32} (K : rk_ok h k pl sk s hd ca) : sk ≠ k := ne_ai K.2.1 K.1
/-- what holds of all but the reckoner stays -/
theorem pl_kp {h h9 : ac_H} {p : Nat} {A : Nat → Nat} {I : Nat → Int32} {F : Nat → Nat → Int32} {c k pl sk : Nat} {s : rk_S} {hd ca : Int32} (K : pl_ok h p A I F c) (R : rk_ok h k pl sk s hd ca) (kq : kp h h9 [k, sk]) : pl_ok h9 p A I F c := by
  refine ⟨kq _ _ K.1 (ni1 (ne_of K.1 R.1 (fun z => by cases z)) (ni1 (Ne.symm (ne_ai R.2.1 K.1)) ni0)), fun j h1 h2 => kq _ _ (K.2.1 j h1 h2) (ni1 (ne_ai (K.2.1 j h1 h2) R.1) (ni1 (ne_of (K.2.1 j h1 h2) R.2.1 (fun z => by cases z)) ni0)), K.2.2⟩
def rk_cmp (rel : Int32) (l r : Int64) : Bool := if rel = 60 then decide (l < r) else if rel = 62 then decide (r < l) else if rel = 61 then decide (l = r) else decide (¬ l = r)
theorem lg_not {a b : Int64} : ¬ a ≤ b ↔ b < a := Int64.not_le
/-- combine: the value, and whether it is a division by 0 -/
def rk_comb (sign : Int32) (l r : Int64) : Int64 × Bool := if sign = 43 then (l + r, false) else if sign = 45 then (l - r, false) else if sign = 42 then (l * r, false) else if r = 0 then (0, true) else (l / r, false)
set_option maxHeartbeats 4000000 in
set_option maxRecDepth 100000 in
theorem c_push (G : ac_G) (l : Launch) (h : ac_H) (d : Nat) (k pl sk : Nat) (s : rk_S) (hd ca : Int32) (v : Int64) (K : rk_ok h k pl sk s hd ca) : ac_Met G l yX4_push cX4_push 3 none (d + 1) 0 0 [.ref k, .long v] h (fun r9 h9 => r9 = none ∧ rk_ok h9 k pl sk (rk_push s v) (hd) (ca) ∧ kp h h9 [k, sk]) := by
  refine ac_of (ls := [.ref k, .long v, .retAddr 0]) (by decide +kernel) rfl (Nat.le_of_ble_eq_true rfl) (fun M hl C B E hnm => ?_)
  obtain ⟨fk, fs, htop⟩ := id K
  have fk : h k = some (.inr (4, [.ref pl, .ref sk, .int (nI s.2), .int hd, .int ca])) := fk
  refine aw_aload_n C dX4_push_0 rfl rfl (q := 1) rfl ?_
  refine gfX4_19_4 (v := .int (nI s.2)) C dX4_push_1 fk rfl (q := 4) rfl ?_
  refine aw_bipush (v := 32) C dX4_push_4 (by decide) (q := 6) rfl ?_
  refine csX4_29 (As := [.int (nI s.2), .int 32]) (rest := []) C B dX4_push_6 (c_isBelow G M.2.1 h d (nI s.2) 32) rfl rfl (Nat.le_of_ble_eq_true rfl) (by omega) (by omega) (by omega) (q := 9) rfl (fun r9 h9 hr9 => ?_)
  obtain ⟨e9, er9⟩ := hr9
  subst er9; rw [e9]
  show aw G 3 M 9 [.ref k, .long v, .retAddr 0] [.int (pb_b (¬ (nI s.2) < 0 ∧ ¬ 32 ≤ (nI s.2)))] h 0 0
  refine aw_if_eq (t := 32) (q := 12) C dX4_push_9 (by decide) rfl (fun c_9 => ?_) (fun c_9 => ?_)
  ·
    refine aw_vret C E dX4_push_32 (Nat.le_refl _) (Nat.le_refl _) ?_
    have e : rk_push s v = s := by unfold rk_push; rw [if_neg (fun z => (pb_0.mp c_9) ⟨nI_pos (by omega), ni_nge s.2 32 rfl rfl (by omega) (by decide) z⟩)]
    exact ⟨rfl, by rw [e]; exact K, kp_cons _ (kp_cons _ kp_rf)⟩
  ·
    have hlt : s.2 < 32 := ni_nle s.2 32 rfl rfl (by omega) (by decide) (pb_n c_9).2
    refine aw_aload_n C dX4_push_12 rfl rfl (q := 13) rfl ?_
    refine gfX4_9_4 (v := .ref sk) C dX4_push_13 fk rfl (q := 16) rfl ?_
    refine aw_aload_n C dX4_push_16 rfl rfl (q := 17) rfl ?_
    refine gfX4_19_4 (v := .int (nI s.2)) C dX4_push_17 fk rfl (q := 20) rfl ?_
    refine aw_lload_n C dX4_push_20 rfl rfl (q := 21) rfl ?_
    refine ay_last (j := s.2) C dX4_push_21 fs (vp_in_nI hlt (by decide)) (nI_clamp (by omega)) (q := 22) rfl ?_
    show aw G 3 M 22 [.ref k, .long v, .retAddr 0] [] (ac_up h sk (.inl (2, 32, .inr (.inl (vp_updL s.1 s.2 v))))) 0 0
    obtain ⟨h_1, eh_1⟩ : ∃ z, z = ac_up h sk (.inl (2, 32, .inr (.inl (vp_updL s.1 s.2 v)))) := ⟨_, rfl⟩
    rw [← eh_1]
    have f_2 : h_1 k = some (.inr (4, [.ref pl, .ref sk, .int (nI s.2), .int hd, .int ca])) := by rw [eh_1, ac_up_n _ _ (Ne.symm (ne_ai fs fk))]; exact fk
    have f_3 : h_1 sk = some (.inl (2, 32, .inr (.inl (vp_updL s.1 s.2 v)))) := by rw [eh_1]; exact ac_up_s _ _ _
    have kp_4 : kp h h_1 [sk] := by rw [eh_1]; exact kp_up (kp_cons sk kp_rf) _ _ (by simp)
    refine aw_aload_n C dX4_push_22 rfl rfl (q := 23) rfl ?_
    refine aw_dup C dX4_push_23 rfl (q := 24) rfl ?_
    refine gfX4_19_4 (v := .int (nI s.2)) C dX4_push_24 f_2 rfl (q := 27) rfl ?_
    refine aw_iconst (v := 1) C dX4_push_27 (by decide) (q := 28) rfl ?_
    refine aw_iadd C dX4_push_28 (q := 29) rfl ?_
    rw [show nI s.2 + 1 = nI (s.2 + 1) from nI_1 _]
    refine pfX4_19_4 C dX4_push_29 f_2 rfl rfl (Nat.le_of_ble_eq_true rfl) (q := 32) rfl ?_
    show aw G 3 M 32 [.ref k, .long v, .retAddr 0] [] (ac_up h_1 k (.inr (4, [.ref pl, .ref sk, .int (nI (s.2 + 1)), .int hd, .int ca]))) 0 0
    obtain ⟨h_5, eh_5⟩ : ∃ z, z = ac_up h_1 k (.inr (4, [.ref pl, .ref sk, .int (nI (s.2 + 1)), .int hd, .int ca])) := ⟨_, rfl⟩
    rw [← eh_5]
    have f_6 : h_5 sk = some (.inl (2, 32, .inr (.inl (vp_updL s.1 s.2 v)))) := by rw [eh_5, ac_up_n _ _ (ne_ai fs fk)]; exact f_3
    have f_7 : h_5 k = some (.inr (4, [.ref pl, .ref sk, .int (nI (s.2 + 1)), .int hd, .int ca])) := by rw [eh_5]; exact ac_up_s _ _ _
    have kp_8 : kp h h_5 [k, sk] := by rw [eh_5]; exact kp_up (kp_cons k kp_4) _ _ (by simp)
    refine aw_vret C E dX4_push_32 (Nat.le_refl _) (Nat.le_refl _) ?_
    have e : rk_push s v = (vp_updL s.1 s.2 v, s.2 + 1) := by unfold rk_push; rw [if_pos hlt]
    exact ⟨rfl, by rw [e]; exact ⟨f_7, f_6, hlt⟩, kp_mono kp_8 (by simp)⟩
set_option maxHeartbeats 4000000 in
set_option maxRecDepth 100000 in
theorem c_pop (G : ac_G) (l : Launch) (h : ac_H) (d : Nat) (k pl sk : Nat) (s : rk_S) (hd ca : Int32) (K : rk_ok h k pl sk s hd ca) : ac_Met G l yX4_pop cX4_pop 1 (some .long) d 0 0 [.ref k] h (fun r9 h9 => r9 = some (.long (rk_top s)) ∧ rk_ok h9 k pl sk (rk_drop s) (hd) (ca) ∧ kp h h9 [k, sk]) := by
  refine ac_of (ls := [.ref k]) (by decide +kernel) rfl (Nat.le_of_ble_eq_true rfl) (fun M hl C B E hnm => ?_)
  obtain ⟨fk, fs, htop⟩ := id K
  have fk : h k = some (.inr (4, [.ref pl, .ref sk, .int (nI s.2), .int hd, .int ca])) := fk
  refine aw_aload_n C dX4_pop_0 rfl rfl (q := 1) rfl ?_
  refine gfX4_19_4 (v := .int (nI s.2)) C dX4_pop_1 fk rfl (q := 4) rfl ?_
  refine aw_iconst (v := 1) C dX4_pop_4 (by decide) (q := 5) rfl ?_
  refine aw_icmp_lt (t := 17) (q := 8) C dX4_pop_5 (by decide) rfl (fun c_5 => ?_) (fun c_5 => ?_)
  ·
    refine aw_lconst (v := 0) C dX4_pop_17 (by decide) (q := 18) rfl ?_
    refine aw_lret C E dX4_pop_18 (Nat.le_refl _) (Nat.le_refl _) ?_
    have hz : s.2 < 1 := (nI_ltI (b := 1) (by omega) (by decide)).mp c_5
    have e : rk_drop s = s := by unfold rk_drop; exact Prod.ext rfl (by show s.2 - 1 = s.2; omega)
    exact ⟨by unfold rk_top; rw [if_pos hz], by rw [e]; exact K, kp_cons _ (kp_cons _ kp_rf)⟩
  ·
    have hpos : 1 ≤ s.2 := Nat.le_of_not_lt fun z => c_5 ((nI_ltI (b := 1) (by omega) (by decide)).mpr z)
    refine aw_aload_n C dX4_pop_8 rfl rfl (q := 9) rfl ?_
    refine gfX4_19_4 (v := .int (nI s.2)) C dX4_pop_9 fk rfl (q := 12) rfl ?_
    refine aw_bipush (v := 32) C dX4_pop_12 (by decide) (q := 14) rfl ?_
    refine aw_icmp_le (t := 19) (q := 17) C dX4_pop_14 (by decide) rfl (fun c_14 => ?_) (fun c_14 => absurd c_14 (fun z => z ((nI_leI (b := 32) (by omega) (by decide)).mpr (by omega))))
    refine aw_aload_n C dX4_pop_19 rfl rfl (q := 20) rfl ?_
    refine aw_dup C dX4_pop_20 rfl (q := 21) rfl ?_
    refine gfX4_19_4 (v := .int (nI s.2)) C dX4_pop_21 fk rfl (q := 24) rfl ?_
    refine aw_iconst (v := 1) C dX4_pop_24 (by decide) (q := 25) rfl ?_
    refine aw_isub C dX4_pop_25 (q := 26) rfl ?_
    rw [show nI s.2 - 1 = nI (s.2 - 1) from pk_sub (b := 1) (by omega)]
    refine pfX4_19_4 C dX4_pop_26 fk rfl rfl (Nat.le_of_ble_eq_true rfl) (q := 29) rfl ?_
    show aw G 1 M 29 [.ref k] [] (ac_up h k (.inr (4, [.ref pl, .ref sk, .int (nI (s.2 - 1)), .int hd, .int ca]))) 0 0
    obtain ⟨h_1, eh_1⟩ : ∃ z, z = ac_up h k (.inr (4, [.ref pl, .ref sk, .int (nI (s.2 - 1)), .int hd, .int ca])) := ⟨_, rfl⟩
    rw [← eh_1]
    have f_2 : h_1 sk = some (.inl (2, 32, .inr (.inl (s.1)))) := by rw [eh_1, ac_up_n _ _ (ne_ai fs fk)]; exact fs
    have f_3 : h_1 k = some (.inr (4, [.ref pl, .ref sk, .int (nI (s.2 - 1)), .int hd, .int ca])) := by rw [eh_1]; exact ac_up_s _ _ _
    have kp_4 : kp h h_1 [k] := by rw [eh_1]; exact kp_up (kp_cons k kp_rf) _ _ (by simp)
    refine aw_aload_n C dX4_pop_29 rfl rfl (q := 30) rfl ?_
    refine gfX4_9_4 (v := .ref sk) C dX4_pop_30 f_3 rfl (q := 33) rfl ?_
    refine aw_aload_n C dX4_pop_33 rfl rfl (q := 34) rfl ?_
    refine gfX4_19_4 (v := .int (nI (s.2 - 1))) C dX4_pop_34 f_3 rfl (q := 37) rfl ?_
    refine ay_lald (j := s.2 - 1) C dX4_pop_37 f_2 (vp_in_nI (by omega) (by decide)) (nI_clamp (by omega)) (q := 38) rfl ?_
    refine aw_lret C E dX4_pop_38 (Nat.le_refl _) (Nat.le_refl _) ?_
    exact ⟨by unfold rk_top; rw [if_neg (by omega)], ⟨f_3, f_2, by show s.2 - 1 ≤ 32; omega⟩, kp_mono kp_4 (by simp)⟩
set_option maxHeartbeats 4000000 in
set_option maxRecDepth 100000 in
theorem c_compare (G : ac_G) (l : Launch) (h : ac_H) (d : Nat) (rel : Int32) (x y : Int64) : ac_Met G l yX4_compare cX4_compare 5 (some .boolean) d 0 0 [.int rel, .long x, .long y] h (pq h (some (.int (pb_b (rk_cmp rel x y = true))))) := by
  refine ac_of (ls := [.int rel, .long x, .retAddr 0, .long y, .retAddr 0]) (by decide +kernel) rfl (Nat.le_of_ble_eq_true rfl) (fun M hl C B E hnm => ?_)
  refine aw_iload_n C dX4_compare_0 rfl rfl (q := 1) rfl ?_
  by_cases e_60 : rel = 60
  ·
    refine aw_tableIn (off := 27) (q := 28) C dX4_compare_1 (by rw [e_60]; decide) (by rw [e_60]; decide) (by rw [e_60]; rfl) (by decide) ?_
    refine aw_lload_n C dX4_compare_28 rfl rfl (q := 29) rfl ?_
    refine aw_lload_n C dX4_compare_29 rfl rfl (q := 30) rfl ?_
    refine aw_lcmp C dX4_compare_30 (q := 31) rfl ?_
    refine aw_if_ge (t := 38) (q := 34) C dX4_compare_31 (by decide) rfl (fun c_31 => ?_) (fun c_31 => ?_)
    ·
      refine aw_iconst (v := 0) C dX4_compare_38 (by decide) (q := 39) rfl ?_
      refine aw_zret C E dX4_compare_39 (rfl) (Nat.le_refl _) (Nat.le_refl _) ?_
      have hc9 : ¬ rk_cmp rel x y = true := by unfold rk_cmp; rw [if_pos e_60]; exact fun z9 => (fun z => absurd ((lg_cmp_ge _ _).mp c_31) (lg_not.mpr z)) (of_decide_eq_true z9)
      exact ⟨rfl, by rw [pb_f hc9]⟩
    ·
      refine aw_iconst (v := 1) C dX4_compare_34 (by decide) (q := 35) rfl ?_
      refine aw_goto (q := 39) C dX4_compare_35 (by decide) ?_
      refine aw_zret C E dX4_compare_39 (rfl) (Nat.le_refl _) (Nat.le_refl _) ?_
      have hc9 : rk_cmp rel x y = true := by unfold rk_cmp; rw [if_pos e_60]; exact decide_eq_true (lg_not.mp (fun z => c_31 ((lg_cmp_ge _ _).mpr z)))
      exact ⟨rfl, by rw [pb_t hc9]⟩
  ·
    by_cases e_61 : rel = 61
    ·
      refine aw_tableIn (off := 51) (q := 52) C dX4_compare_1 (by rw [e_61]; decide) (by rw [e_61]; decide) (by rw [e_61]; rfl) (by decide) ?_
      refine aw_lload_n C dX4_compare_52 rfl rfl (q := 53) rfl ?_
      refine aw_lload_n C dX4_compare_53 rfl rfl (q := 54) rfl ?_
      refine aw_lcmp C dX4_compare_54 (q := 55) rfl ?_
      refine aw_if_ne (t := 62) (q := 58) C dX4_compare_55 (by decide) rfl (fun c_55 => ?_) (fun c_55 => ?_)
      ·
        refine aw_iconst (v := 0) C dX4_compare_62 (by decide) (q := 63) rfl ?_
        refine aw_zret C E dX4_compare_63 (rfl) (Nat.le_refl _) (Nat.le_refl _) ?_
        have hc9 : ¬ rk_cmp rel x y = true := by unfold rk_cmp; rw [if_neg (by rw [e_61]; decide), if_neg (by rw [e_61]; decide), if_pos e_61]; exact fun z9 => (fun z => c_55 ((lg_cmp_eq _ _).mpr z)) (of_decide_eq_true z9)
        exact ⟨rfl, by rw [pb_f hc9]⟩
      ·
        refine aw_iconst (v := 1) C dX4_compare_58 (by decide) (q := 59) rfl ?_
        refine aw_goto (q := 63) C dX4_compare_59 (by decide) ?_
        refine aw_zret C E dX4_compare_63 (rfl) (Nat.le_refl _) (Nat.le_refl _) ?_
        have hc9 : rk_cmp rel x y = true := by unfold rk_cmp; rw [if_neg (by rw [e_61]; decide), if_neg (by rw [e_61]; decide), if_pos e_61]; exact decide_eq_true ((lg_cmp_eq _ _).mp c_55)
        exact ⟨rfl, by rw [pb_t hc9]⟩
    ·
      by_cases e_62 : rel = 62
      ·
        refine aw_tableIn (off := 39) (q := 40) C dX4_compare_1 (by rw [e_62]; decide) (by rw [e_62]; decide) (by rw [e_62]; rfl) (by decide) ?_
        refine aw_lload_n C dX4_compare_40 rfl rfl (q := 41) rfl ?_
        refine aw_lload_n C dX4_compare_41 rfl rfl (q := 42) rfl ?_
        refine aw_lcmp C dX4_compare_42 (q := 43) rfl ?_
        refine aw_if_le (t := 50) (q := 46) C dX4_compare_43 (by decide) rfl (fun c_43 => ?_) (fun c_43 => ?_)
        ·
          refine aw_iconst (v := 0) C dX4_compare_50 (by decide) (q := 51) rfl ?_
          refine aw_zret C E dX4_compare_51 (rfl) (Nat.le_refl _) (Nat.le_refl _) ?_
          have hc9 : ¬ rk_cmp rel x y = true := by unfold rk_cmp; rw [if_neg (by rw [e_62]; decide), if_pos e_62]; exact fun z9 => (fun z => absurd ((lg_cmp_le _ _).mp c_43) (lg_not.mpr z)) (of_decide_eq_true z9)
          exact ⟨rfl, by rw [pb_f hc9]⟩
        ·
          refine aw_iconst (v := 1) C dX4_compare_46 (by decide) (q := 47) rfl ?_
          refine aw_goto (q := 51) C dX4_compare_47 (by decide) ?_
          refine aw_zret C E dX4_compare_51 (rfl) (Nat.le_refl _) (Nat.le_refl _) ?_
          have hc9 : rk_cmp rel x y = true := by unfold rk_cmp; rw [if_neg (by rw [e_62]; decide), if_pos e_62]; exact decide_eq_true (lg_not.mp (fun z => c_43 ((lg_cmp_le _ _).mpr z)))
          exact ⟨rfl, by rw [pb_t hc9]⟩
      ·
        have n_60 : ¬ rel.toInt = 60 := fun z => e_60 (Int32.toInt_inj.mp (by rw [z]; rfl))
        have n_61 : ¬ rel.toInt = 61 := fun z => e_61 (Int32.toInt_inj.mp (by rw [z]; rfl))
        have n_62 : ¬ rel.toInt = 62 := fun z => e_62 (Int32.toInt_inj.mp (by rw [z]; rfl))
        refine aw_tableOut (q := 64) C dX4_compare_1 (by omega) (by decide) ?_
        refine aw_lload_n C dX4_compare_64 rfl rfl (q := 65) rfl ?_
        refine aw_lload_n C dX4_compare_65 rfl rfl (q := 66) rfl ?_
        refine aw_lcmp C dX4_compare_66 (q := 67) rfl ?_
        refine aw_if_eq (t := 74) (q := 70) C dX4_compare_67 (by decide) rfl (fun c_67 => ?_) (fun c_67 => ?_)
        ·
          refine aw_iconst (v := 0) C dX4_compare_74 (by decide) (q := 75) rfl ?_
          refine aw_zret C E dX4_compare_75 (rfl) (Nat.le_refl _) (Nat.le_refl _) ?_
          have hc9 : ¬ rk_cmp rel x y = true := by unfold rk_cmp; rw [if_neg e_60, if_neg e_62, if_neg e_61]; exact fun z9 => (fun z => z ((lg_cmp_eq _ _).mp c_67)) (of_decide_eq_true z9)
          exact ⟨rfl, by rw [pb_f hc9]⟩
        ·
          refine aw_iconst (v := 1) C dX4_compare_70 (by decide) (q := 71) rfl ?_
          refine aw_goto (q := 75) C dX4_compare_71 (by decide) ?_
          refine aw_zret C E dX4_compare_75 (rfl) (Nat.le_refl _) (Nat.le_refl _) ?_
          have hc9 : rk_cmp rel x y = true := by unfold rk_cmp; rw [if_neg e_60, if_neg e_62, if_neg e_61]; exact decide_eq_true (fun z => c_67 ((lg_cmp_eq _ _).mpr z))
          exact ⟨rfl, by rw [pb_t hc9]⟩
set_option maxHeartbeats 4000000 in
set_option maxRecDepth 100000 in
theorem c_combine (G : ac_G) (l : Launch) (h : ac_H) (d : Nat) (k pl sk : Nat) (s : rk_S) (hd ca : Int32) (sign : Int32) (x y : Int64) (K : rk_ok h k pl sk s hd ca) : ac_Met G l yX4_combine cX4_combine 6 (some .long) d 0 0 [.ref k, .int sign, .long x, .long y] h (fun r9 h9 => r9 = some (.long (rk_comb sign x y).1) ∧ rk_ok h9 k pl sk (s) (hd) (if (rk_comb sign x y).2 then 1 else ca) ∧ kp h h9 [k, sk]) := by
  refine ac_of (ls := [.ref k, .int sign, .long x, .retAddr 0, .long y, .retAddr 0]) (by decide +kernel) rfl (Nat.le_of_ble_eq_true rfl) (fun M hl C B E hnm => ?_)
  obtain ⟨fk, fs, htop⟩ := id K
  have fk : h k = some (.inr (4, [.ref pl, .ref sk, .int (nI s.2), .int hd, .int ca])) := fk
  refine aw_iload_n C dX4_combine_0 rfl rfl (q := 1) rfl ?_
  by_cases e_42 : sign = 42
  ·
    refine aw_tableIn (off := 41) (q := 42) C dX4_combine_1 (by rw [e_42]; decide) (by rw [e_42]; decide) (by rw [e_42]; rfl) (by decide) ?_
    refine aw_lload_n C dX4_combine_42 rfl rfl (q := 43) rfl ?_
    refine aw_lload C dX4_combine_43 rfl (q := 45) rfl ?_
    refine aw_lmul C dX4_combine_45 (q := 46) rfl ?_
    refine aw_lret C E dX4_combine_46 (Nat.le_refl _) (Nat.le_refl _) ?_
    have e : rk_comb sign x y = (x * y, false) := by unfold rk_comb; rw [if_neg (by rw [e_42]; decide), if_neg (by rw [e_42]; decide), if_pos e_42]
    rw [e]; exact ⟨rfl, K, kp_cons _ (kp_cons _ kp_rf)⟩
  ·
    by_cases e_43 : sign = 43
    ·
      refine aw_tableIn (off := 31) (q := 32) C dX4_combine_1 (by rw [e_43]; decide) (by rw [e_43]; decide) (by rw [e_43]; rfl) (by decide) ?_
      refine aw_lload_n C dX4_combine_32 rfl rfl (q := 33) rfl ?_
      refine aw_lload C dX4_combine_33 rfl (q := 35) rfl ?_
      refine aw_ladd C dX4_combine_35 (q := 36) rfl ?_
      refine aw_lret C E dX4_combine_36 (Nat.le_refl _) (Nat.le_refl _) ?_
      have e : rk_comb sign x y = (x + y, false) := by unfold rk_comb; rw [if_pos e_43]
      rw [e]; exact ⟨rfl, K, kp_cons _ (kp_cons _ kp_rf)⟩
    ·
      by_cases e_44 : sign = 44
      ·
        refine aw_tableIn (off := 46) (q := 47) C dX4_combine_1 (by rw [e_44]; decide) (by rw [e_44]; decide) (by rw [e_44]; rfl) (by decide) ?_
        refine aw_lload C dX4_combine_47 rfl (q := 49) rfl ?_
        refine aw_lconst (v := 0) C dX4_combine_49 (by decide) (q := 50) rfl ?_
        refine aw_lcmp C dX4_combine_50 (q := 51) rfl ?_
        refine aw_if_ne (t := 61) (q := 54) C dX4_combine_51 (by decide) rfl (fun c_51 => ?_) (fun c_51 => ?_)
        ·
          refine aw_lload_n C dX4_combine_61 rfl rfl (q := 62) rfl ?_
          refine aw_lload C dX4_combine_62 rfl (q := 64) rfl ?_
          refine aw_ldiv C dX4_combine_64 (fun z => c_51 ((lg_cmp_eq _ _).mpr z)) (q := 65) rfl ?_
          refine aw_lret C E dX4_combine_65 (Nat.le_refl _) (Nat.le_refl _) ?_
          have e : rk_comb sign x y = (x / y, false) := by unfold rk_comb; rw [if_neg (by rw [e_44]; decide), if_neg (by rw [e_44]; decide), if_neg (by rw [e_44]; decide), if_neg (fun z => c_51 ((lg_cmp_eq _ _).mpr z))]
          rw [e]; exact ⟨rfl, K, kp_cons _ (kp_cons _ kp_rf)⟩
        ·
          refine aw_aload_n C dX4_combine_54 rfl rfl (q := 55) rfl ?_
          refine aw_iconst (v := 1) C dX4_combine_55 (by decide) (q := 56) rfl ?_
          refine pfX4_26_4 C dX4_combine_56 fk rfl rfl (Nat.le_of_ble_eq_true rfl) (q := 59) rfl ?_
          show aw G 6 M 59 [.ref k, .int sign, .long x, .retAddr 0, .long y, .retAddr 0] [] (ac_up h k (.inr (4, [.ref pl, .ref sk, .int (nI s.2), .int hd, .int 1]))) 0 0
          obtain ⟨h_1, eh_1⟩ : ∃ z, z = ac_up h k (.inr (4, [.ref pl, .ref sk, .int (nI s.2), .int hd, .int 1])) := ⟨_, rfl⟩
          rw [← eh_1]
          have f_2 : h_1 sk = some (.inl (2, 32, .inr (.inl (s.1)))) := by rw [eh_1, ac_up_n _ _ (ne_ai fs fk)]; exact fs
          have f_3 : h_1 k = some (.inr (4, [.ref pl, .ref sk, .int (nI s.2), .int hd, .int 1])) := by rw [eh_1]; exact ac_up_s _ _ _
          have kp_4 : kp h h_1 [k] := by rw [eh_1]; exact kp_up (kp_cons k kp_rf) _ _ (by simp)
          refine aw_lconst (v := 0) C dX4_combine_59 (by decide) (q := 60) rfl ?_
          refine aw_lret C E dX4_combine_60 (Nat.le_refl _) (Nat.le_refl _) ?_
          have e : rk_comb sign x y = (0, true) := by unfold rk_comb; rw [if_neg (by rw [e_44]; decide), if_neg (by rw [e_44]; decide), if_neg (by rw [e_44]; decide), if_pos ((lg_cmp_eq _ _).mp c_51)]
          rw [e]; exact ⟨rfl, ⟨f_3, f_2, htop⟩, kp_mono kp_4 (by simp)⟩
      ·
        by_cases e_45 : sign = 45
        ·
          refine aw_tableIn (off := 36) (q := 37) C dX4_combine_1 (by rw [e_45]; decide) (by rw [e_45]; decide) (by rw [e_45]; rfl) (by decide) ?_
          refine aw_lload_n C dX4_combine_37 rfl rfl (q := 38) rfl ?_
          refine aw_lload C dX4_combine_38 rfl (q := 40) rfl ?_
          refine aw_lsub C dX4_combine_40 (q := 41) rfl ?_
          refine aw_lret C E dX4_combine_41 (Nat.le_refl _) (Nat.le_refl _) ?_
          have e : rk_comb sign x y = (x - y, false) := by unfold rk_comb; rw [if_neg (by rw [e_45]; decide), if_pos e_45]
          rw [e]; exact ⟨rfl, K, kp_cons _ (kp_cons _ kp_rf)⟩
        ·
          have n_42 : ¬ sign.toInt = 42 := fun z => e_42 (Int32.toInt_inj.mp (by rw [z]; rfl))
          have n_43 : ¬ sign.toInt = 43 := fun z => e_43 (Int32.toInt_inj.mp (by rw [z]; rfl))
          have n_44 : ¬ sign.toInt = 44 := fun z => e_44 (Int32.toInt_inj.mp (by rw [z]; rfl))
          have n_45 : ¬ sign.toInt = 45 := fun z => e_45 (Int32.toInt_inj.mp (by rw [z]; rfl))
          refine aw_tableOut (q := 47) C dX4_combine_1 (by omega) (by decide) ?_
          refine aw_lload C dX4_combine_47 rfl (q := 49) rfl ?_
          refine aw_lconst (v := 0) C dX4_combine_49 (by decide) (q := 50) rfl ?_
          refine aw_lcmp C dX4_combine_50 (q := 51) rfl ?_
          refine aw_if_ne (t := 61) (q := 54) C dX4_combine_51 (by decide) rfl (fun c_51 => ?_) (fun c_51 => ?_)
          ·
            refine aw_lload_n C dX4_combine_61 rfl rfl (q := 62) rfl ?_
            refine aw_lload C dX4_combine_62 rfl (q := 64) rfl ?_
            refine aw_ldiv C dX4_combine_64 (fun z => c_51 ((lg_cmp_eq _ _).mpr z)) (q := 65) rfl ?_
            refine aw_lret C E dX4_combine_65 (Nat.le_refl _) (Nat.le_refl _) ?_
            have e : rk_comb sign x y = (x / y, false) := by unfold rk_comb; rw [if_neg e_43, if_neg e_45, if_neg e_42, if_neg (fun z => c_51 ((lg_cmp_eq _ _).mpr z))]
            rw [e]; exact ⟨rfl, K, kp_cons _ (kp_cons _ kp_rf)⟩
          ·
            refine aw_aload_n C dX4_combine_54 rfl rfl (q := 55) rfl ?_
            refine aw_iconst (v := 1) C dX4_combine_55 (by decide) (q := 56) rfl ?_
            refine pfX4_26_4 C dX4_combine_56 fk rfl rfl (Nat.le_of_ble_eq_true rfl) (q := 59) rfl ?_
            show aw G 6 M 59 [.ref k, .int sign, .long x, .retAddr 0, .long y, .retAddr 0] [] (ac_up h k (.inr (4, [.ref pl, .ref sk, .int (nI s.2), .int hd, .int 1]))) 0 0
            obtain ⟨h_5, eh_5⟩ : ∃ z, z = ac_up h k (.inr (4, [.ref pl, .ref sk, .int (nI s.2), .int hd, .int 1])) := ⟨_, rfl⟩
            rw [← eh_5]
            have f_6 : h_5 sk = some (.inl (2, 32, .inr (.inl (s.1)))) := by rw [eh_5, ac_up_n _ _ (ne_ai fs fk)]; exact fs
            have f_7 : h_5 k = some (.inr (4, [.ref pl, .ref sk, .int (nI s.2), .int hd, .int 1])) := by rw [eh_5]; exact ac_up_s _ _ _
            have kp_8 : kp h h_5 [k] := by rw [eh_5]; exact kp_up (kp_cons k kp_rf) _ _ (by simp)
            refine aw_lconst (v := 0) C dX4_combine_59 (by decide) (q := 60) rfl ?_
            refine aw_lret C E dX4_combine_60 (Nat.le_refl _) (Nat.le_refl _) ?_
            have e : rk_comb sign x y = (0, true) := by unfold rk_comb; rw [if_neg e_43, if_neg e_45, if_neg e_42, if_pos ((lg_cmp_eq _ _).mp c_51)]
            rw [e]; exact ⟨rfl, ⟨f_7, f_6, htop⟩, kp_mono kp_8 (by simp)⟩
