/-! Cursor: in a Reader (class 3) and in a Walker (class 7): fields 0 units, 1 length, 2 at -/
theorem ne_ai {h : ac_H} {a b : Nat} {x : Nat × vp_A} {y : Nat × List Value} (ha : h a = some (.inl x)) (hb : h b = some (.inr y)) : a ≠ b := fun z => by rw [z, hb] at ha; cases ha
theorem vp_in2 {a N : Nat} (h : a < N) (hN : N < 2 ^ 31) : vp_in (nI a) N := vp_in_nI h hN
/-- the character at a place, 0 behind the end -/
def cu_c (f : Nat → Int32) (len at_ : Nat) : Int32 := if at_ < len then f at_ else 0
abbrev cu_ch (f : Nat → Int32) : Prop := ∀ j, narrow .char (.int (f j)) = .int (f j)
theorem cu_c_nar {f : Nat → Int32} (hf : cu_ch f) (len at_ : Nat) : narrow .char (.int (cu_c f len at_)) = .int (cu_c f len at_) := by
  unfold cu_c; split
  · exact hf at_
  · rfl
abbrev cu_isd (c b : Int32) : Prop := ¬ (c - 48 < 0) ∧ c - 48 < b
/-- passNumber's digits: at most n more, from a place on, the number so far -/
def cu_num (f : Nat → Int32) (len : Nat) : Nat → Nat → Int32 → Int32 × Nat
  | 0, at_, v => (v, at_)
  | n + 1, at_, v => if cu_c f len at_ < 48 then (v, at_) else if 57 < cu_c f len at_ then (v, at_) else cu_num f len n (at_ + 1) (v * 10 + (cu_c f len at_ - 48))
/-- passPrefixes: at most n more; whether it went well, and the place behind -/
def cu_pre (f : Nat → Int32) (len : Nat) : Nat → Nat → Bool × Nat
  | 0, at_ => (true, at_)
  | n + 1, at_ => if cu_c f len at_ = 45 ∨ cu_c f len at_ = 102 ∨ cu_c f len at_ = 99 then (if cu_c f len at_ = 99 then (if cu_isd (cu_c f len (at_ + 1)) 8 then cu_pre f len n (at_ + 2) else (false, at_ + 1)) else cu_pre f len n (at_ + 1)) else (true, at_)
theorem cu_num_le (f : Nat → Int32) (len : Nat) : ∀ (n at_ : Nat) (v : Int32), (cu_num f len n at_ v).2 ≤ at_ + n
  | 0, at_, v => Nat.le_refl _
  | n + 1, at_, v => by
    unfold cu_num
    split
    · show at_ ≤ _; omega
    · split
      · show at_ ≤ _; omega
      · have := cu_num_le f len n (at_ + 1) (v * 10 + (cu_c f len at_ - 48)); omega
theorem cu_pre_le (f : Nat → Int32) (len : Nat) : ∀ (n at_ : Nat), (cu_pre f len n at_).2 ≤ at_ + 2 * n
  | 0, at_ => Nat.le_refl _
  | n + 1, at_ => by
    unfold cu_pre
    split
    · split
      · split
        · have := cu_pre_le f len n (at_ + 2); omega
        · show at_ + 1 ≤ _; omega
      · have := cu_pre_le f len n (at_ + 1); omega
    · show at_ ≤ _; omega
theorem nI_up {a : Nat} : nI a + 1 = nI (a + 1) := nI_1 a
abbrev cu_ob (cn : Nat) (u len at_ : Nat) (v3 v4 : Value) : ac_E := .inr (cn, [.ref u, .int (nI len), .int (nI at_), v3, v4])

set_option maxHeartbeats 4000000 in
set_option maxRecDepth 100000 in
theorem c_here3 (G : ac_G) (l : Launch) (h : ac_H) (d : Nat) (r : Nat) (u len at_ N : Nat) (f : Nat → Int32) (v3 v4 : Value) (fr : h r = some (cu_ob 3 u len at_ v3 v4)) (fu : h u = some (.inl (0, N, .inl f))) (hlN : len ≤ N) (hN : N ≤ 400) (hat : at_ < 4000000) (hf : cu_ch f) : ac_Met G l yX0_here cX0_here 1 (some .char) d 0 0 [.ref r] h (pq h (some (.int (cu_c f len at_)))) := by
  refine ac_of (ls := [.ref r]) (by decide +kernel) rfl (Nat.le_of_ble_eq_true rfl) (fun M hl C B E hnm => ?_)
  have fr : h r = some (.inr (3, [.ref u, .int (nI len), .int (nI at_), v3, v4])) := fr
  refine aw_aload_n C dX0_here_0 rfl rfl (q := 1) rfl ?_
  refine gfX0_15_3 (v := .int (nI at_)) C dX0_here_1 fr rfl (q := 4) rfl ?_
  refine aw_if_lt (t := 42) (q := 7) C dX0_here_4 (by decide) rfl (fun c_4 => absurd c_4 (nI_pos (by omega))) (fun c_4 => ?_)
  refine aw_aload_n C dX0_here_7 rfl rfl (q := 8) rfl ?_
  refine gfX0_15_3 (v := .int (nI at_)) C dX0_here_8 fr rfl (q := 11) rfl ?_
  refine aw_aload_n C dX0_here_11 rfl rfl (q := 12) rfl ?_
  refine gfX0_19_3 (v := .int (nI len)) C dX0_here_12 fr rfl (q := 15) rfl ?_
  refine aw_icmp_ge (t := 42) (q := 18) C dX0_here_15 (by decide) rfl (fun c_15 => ?_) (fun c_15 => ?_)
  ·
    refine aw_iconst (v := 0) C dX0_here_42 (by decide) (q := 43) rfl ?_
    refine aw_zret C E dX0_here_43 (by first | rfl | exact hf _) (Nat.le_refl _) (Nat.le_refl _) ?_
    exact ⟨rfl, by unfold cu_c; rw [if_neg (by have := ni_le at_ len rfl rfl (by omega) (by omega) c_15; omega)]⟩
  ·
    refine aw_aload_n C dX0_here_18 rfl rfl (q := 19) rfl ?_
    refine gfX0_15_3 (v := .int (nI at_)) C dX0_here_19 fr rfl (q := 22) rfl ?_
    refine aw_aload_n C dX0_here_22 rfl rfl (q := 23) rfl ?_
    refine gfX0_9_3 (v := .ref u) C dX0_here_23 fr rfl (q := 26) rfl ?_
    refine aw_alen (v := nI N) C dX0_here_26 fu rfl rfl (q := 27) rfl ?_
    refine aw_icmp_ge (t := 42) (q := 30) C dX0_here_27 (by decide) rfl (fun c_27 => absurd c_27 (ni_nge at_ N rfl rfl (by omega) (by omega) (by have := ni_nle at_ len rfl rfl (by omega) (by omega) c_15; omega))) (fun c_27 => ?_)
    refine aw_aload_n C dX0_here_30 rfl rfl (q := 31) rfl ?_
    refine gfX0_9_3 (v := .ref u) C dX0_here_31 fr rfl (q := 34) rfl ?_
    refine aw_aload_n C dX0_here_34 rfl rfl (q := 35) rfl ?_
    refine gfX0_15_3 (v := .int (nI at_)) C dX0_here_35 fr rfl (q := 38) rfl ?_
    refine ay_cald (j := at_) C dX0_here_38 fu (vp_in_nI (by have := ni_nle at_ len rfl rfl (by omega) (by omega) c_15; omega) (by omega)) (nI_clamp (by omega)) (q := 39) rfl ?_
    refine aw_goto (q := 43) C dX0_here_39 (by decide) ?_
    refine aw_zret C E dX0_here_43 (by first | rfl | exact hf _) (Nat.le_refl _) (Nat.le_refl _) ?_
    exact ⟨rfl, by unfold cu_c; rw [if_pos (ni_nle at_ len rfl rfl (by omega) (by omega) c_15)]⟩
/-- what passDigit does -/
abbrev cu_dg3 (h : ac_H) (r u len at_ : Nat) (f : Nat → Int32) (v3 v4 : Value) (b : Int32) : Option Value → ac_H → Prop := fun r9 h9 => r9 = some (.int (if cu_isd (cu_c f len at_) b then cu_c f len at_ - 48 else -1)) ∧ h9 r = some (cu_ob 3 u len (if cu_isd (cu_c f len at_) b then at_ + 1 else at_) v3 v4) ∧ kp h h9 [r]
set_option maxHeartbeats 4000000 in
set_option maxRecDepth 100000 in
theorem c_passDigit3 (G : ac_G) (l : Launch) (h : ac_H) (d : Nat) (r : Nat) (u len at_ N : Nat) (f : Nat → Int32) (v3 v4 : Value) (b : Int32) (fr : h r = some (cu_ob 3 u len at_ v3 v4)) (fu : h u = some (.inl (0, N, .inl f))) (hlN : len ≤ N) (hN : N ≤ 400) (hat : at_ < 4000000) (hf : cu_ch f) : ac_Met G l yX0_passDigit cX0_passDigit 3 (some .int) (d + 1) 0 0 [.ref r, .int b] h (cu_dg3 h r u len at_ f v3 v4 b) := by
  refine ac_of (ls := [.ref r, .int b, .retAddr 0]) (by decide +kernel) rfl (Nat.le_of_ble_eq_true rfl) (fun M hl C B E hnm => ?_)
  have fr : h r = some (.inr (3, [.ref u, .int (nI len), .int (nI at_), v3, v4])) := fr
  refine aw_aload_n C dX0_passDigit_0 rfl rfl (q := 1) rfl ?_
  refine cvX0_22_3 (As := []) (rest := []) C B dX0_passDigit_1 fr (c_here3 G M.2.1 h d r u len at_ N f v3 v4 fr fu hlN hN (by omega) hf) rfl rfl (Nat.le_of_ble_eq_true rfl) (by omega) (by omega) (by omega) (q := 4) rfl (fun r9 h9 hr9 => ?_)
  obtain ⟨e9, er9⟩ := hr9
  subst er9; rw [e9]
  show aw G 3 M 4 [.ref r, .int b, .retAddr 0] [.int (cu_c f len at_)] h 0 0
  refine aw_bipush (v := 48) C dX0_passDigit_4 (by decide) (q := 6) rfl ?_
  refine aw_isub C dX0_passDigit_6 (q := 7) rfl ?_
  refine aw_istore_n (ls' := [.ref r, .int b, .int ((cu_c f len at_) - 48)]) C dX0_passDigit_7 rfl (by decide) rfl (q := 8) rfl ?_
  refine aw_iload_n C dX0_passDigit_8 rfl rfl (q := 9) rfl ?_
  refine aw_if_lt (t := 17) (q := 12) C dX0_passDigit_9 (by decide) rfl (fun c_9 => ?_) (fun c_9 => ?_)
  ·
    refine aw_iconst (v := (-1)) C dX0_passDigit_17 (by decide) (q := 18) rfl ?_
    refine aw_iret C E dX0_passDigit_18 (Nat.le_refl _) (Nat.le_refl _) ?_
    exact ⟨by rw [if_neg (fun z => z.1 c_9)], by rw [if_neg (fun z => z.1 c_9)]; exact fr, kp_cons r kp_rf⟩
  ·
    refine aw_iload_n C dX0_passDigit_12 rfl rfl (q := 13) rfl ?_
    refine aw_iload_n C dX0_passDigit_13 rfl rfl (q := 14) rfl ?_
    refine aw_icmp_lt (t := 19) (q := 17) C dX0_passDigit_14 (by decide) rfl (fun c_14 => ?_) (fun c_14 => ?_)
    ·
      refine aw_aload_n C dX0_passDigit_19 rfl rfl (q := 20) rfl ?_
      refine aw_dup C dX0_passDigit_20 rfl (q := 21) rfl ?_
      refine gfX0_15_3 (v := .int (nI at_)) C dX0_passDigit_21 fr rfl (q := 24) rfl ?_
      refine aw_iconst (v := 1) C dX0_passDigit_24 (by decide) (q := 25) rfl ?_
      refine aw_iadd C dX0_passDigit_25 (q := 26) rfl ?_
      rw [show nI at_ + 1 = nI (at_ + 1) from nI_1 _]
      refine pfX0_15_3 C dX0_passDigit_26 fr rfl rfl (Nat.le_of_ble_eq_true rfl) (q := 29) rfl ?_
      show aw G 3 M 29 [.ref r, .int b, .int ((cu_c f len at_) - 48)] [] (ac_up h r (.inr (3, [.ref u, .int (nI len), .int (nI (at_ + 1)), v3, v4]))) 0 0
      obtain ⟨h_1, eh_1⟩ : ∃ z, z = ac_up h r (.inr (3, [.ref u, .int (nI len), .int (nI (at_ + 1)), v3, v4])) := ⟨_, rfl⟩
      rw [← eh_1]
      have f_2 : h_1 u = some (.inl (0, N, .inl (f))) := by rw [eh_1, ac_up_n _ _ (ne_ai fu fr)]; exact fu
      have f_3 : h_1 r = some (.inr (3, [.ref u, .int (nI len), .int (nI (at_ + 1)), v3, v4])) := by rw [eh_1]; exact ac_up_s _ _ _
      have kp_4 : kp h h_1 [r] := by rw [eh_1]; exact kp_up (kp_cons r kp_rf) _ _ (by simp)
      refine aw_iload_n C dX0_passDigit_29 rfl rfl (q := 30) rfl ?_
      refine aw_iret C E dX0_passDigit_30 (Nat.le_refl _) (Nat.le_refl _) ?_
      exact ⟨by rw [if_pos ⟨c_9, c_14⟩], by rw [if_pos ⟨c_9, c_14⟩]; exact f_3, kp_4⟩
    ·
      refine aw_iconst (v := (-1)) C dX0_passDigit_17 (by decide) (q := 18) rfl ?_
      refine aw_iret C E dX0_passDigit_18 (Nat.le_refl _) (Nat.le_refl _) ?_
      exact ⟨by rw [if_neg (fun z => c_14 z.2)], by rw [if_neg (fun z => c_14 z.2)]; exact fr, kp_cons r kp_rf⟩
set_option maxHeartbeats 4000000 in
set_option maxRecDepth 100000 in
theorem lp_passNumber3 {G : ac_G} {M : ac_M} {h : ac_H} {d r u len N : Nat} {f : Nat → Int32} {v3 v4 : Value} {R : Int32 × Nat} (C : ac_MC G RX0 cX0_passNumber 3 (some .int) M) (B : ac_Bd M (d + 1) 0 0) (E : ac_End G (fun r9 h9 => r9 = some (.int R.1) ∧ h9 r = some (cu_ob 3 u len R.2 v3 v4) ∧ kp h h9 [r]) 0 0 M) (hlN : len ≤ N) (hN : N ≤ 400) (hf : cu_ch f) :
    ∀ (n i : Nat) (v : Int32) (at1 : Nat) (h1 : ac_H), i + n = 6 → at1 + n < 3000000 → h1 r = some (.inr (3, [.ref u, .int (nI len), .int (nI at1), v3, v4])) → h1 u = some (.inl (0, N, .inl f)) → kp h h1 [r] → cu_num f len n at1 v = R → aw G 3 M 4 [.ref r, .int v, .int (nI i)] [] h1 0 0 := by
  intro n
  induction n with
  | zero =>
    intro i v at1 h1 hi hat fr1 fu1 kp1 hR
    have hi6 : i = 6 := by omega
    subst hi6
    refine aw_iload_n C dX0_passNumber_4 rfl rfl (q := 5) rfl ?_
    refine aw_bipush (v := 6) C dX0_passNumber_5 (by decide) (q := 7) rfl ?_
    refine aw_icmp_ge (t := 57) (q := 10) C dX0_passNumber_7 (by decide) rfl (fun c_7 => ?_) (fun c_7 => absurd (show nI 6 ≤ nI 6 by decide) c_7)
    refine aw_iload_n C dX0_passNumber_57 rfl rfl (q := 58) rfl ?_
    refine aw_iret C E dX0_passNumber_58 (Nat.le_refl _) (Nat.le_refl _) ?_
    have hR2 : R = (v, at1) := hR.symm
    exact ⟨by rw [hR2], by rw [hR2]; exact fr1, kp1⟩
  | succ n ih =>
    intro i v at1 h1 hi hat fr1 fu1 kp1 hR
    refine aw_iload_n C dX0_passNumber_4 rfl rfl (q := 5) rfl ?_
    refine aw_bipush (v := 6) C dX0_passNumber_5 (by decide) (q := 7) rfl ?_
    refine aw_icmp_ge (t := 57) (q := 10) C dX0_passNumber_7 (by decide) rfl (fun c_7 => absurd c_7 (ni_nge i 6 rfl rfl (by omega) (by decide) (by omega))) (fun c_7 => ?_)
    refine aw_aload_n C dX0_passNumber_10 rfl rfl (q := 11) rfl ?_
    refine cvX0_22_3 (As := []) (rest := []) C B dX0_passNumber_11 fr1 (c_here3 G M.2.1 h1 d r u len at1 N f v3 v4 fr1 fu1 hlN hN (by omega) hf) rfl rfl (Nat.le_of_ble_eq_true rfl) (by omega) (by omega) (by omega) (q := 14) rfl (fun r9 h9 hr9 => ?_)
    obtain ⟨e9, er9⟩ := hr9
    subst er9; rw [e9]
    show aw G 3 M 14 [.ref r, .int v, .int (nI i)] [.int (cu_c f len at1)] h1 0 0
    refine aw_bipush (v := 48) C dX0_passNumber_14 (by decide) (q := 16) rfl ?_
    refine aw_icmp_lt (t := 57) (q := 19) C dX0_passNumber_16 (by decide) rfl (fun c_16 => ?_) (fun c_16 => ?_)
    ·
      refine aw_iload_n C dX0_passNumber_57 rfl rfl (q := 58) rfl ?_
      refine aw_iret C E dX0_passNumber_58 (Nat.le_refl _) (Nat.le_refl _) ?_
      have hR2 : R = (v, at1) := by rw [← hR]; unfold cu_num; rw [if_pos c_16]
      exact ⟨by rw [hR2], by rw [hR2]; exact fr1, kp1⟩
    ·
      refine aw_aload_n C dX0_passNumber_19 rfl rfl (q := 20) rfl ?_
      refine cvX0_22_3 (As := []) (rest := []) C B dX0_passNumber_20 fr1 (c_here3 G M.2.1 h1 d r u len at1 N f v3 v4 fr1 fu1 hlN hN (by omega) hf) rfl rfl (Nat.le_of_ble_eq_true rfl) (by omega) (by omega) (by omega) (q := 23) rfl (fun r9 h9 hr9 => ?_)
      obtain ⟨e9, er9⟩ := hr9
      subst er9; rw [e9]
      show aw G 3 M 23 [.ref r, .int v, .int (nI i)] [.int (cu_c f len at1)] h1 0 0
      refine aw_bipush (v := 57) C dX0_passNumber_23 (by decide) (q := 25) rfl ?_
      refine aw_icmp_gt (t := 57) (q := 28) C dX0_passNumber_25 (by decide) rfl (fun c_25 => ?_) (fun c_25 => ?_)
      ·
        refine aw_iload_n C dX0_passNumber_57 rfl rfl (q := 58) rfl ?_
        refine aw_iret C E dX0_passNumber_58 (Nat.le_refl _) (Nat.le_refl _) ?_
        have hR2 : R = (v, at1) := by rw [← hR]; unfold cu_num; rw [if_neg c_16, if_pos c_25]
        exact ⟨by rw [hR2], by rw [hR2]; exact fr1, kp1⟩
      ·
        refine aw_iload_n C dX0_passNumber_28 rfl rfl (q := 29) rfl ?_
        refine aw_bipush (v := 10) C dX0_passNumber_29 (by decide) (q := 31) rfl ?_
        refine aw_imul C dX0_passNumber_31 (q := 32) rfl ?_
        refine aw_aload_n C dX0_passNumber_32 rfl rfl (q := 33) rfl ?_
        refine cvX0_22_3 (As := []) (rest := [.int (v * 10)]) C B dX0_passNumber_33 fr1 (c_here3 G M.2.1 h1 d r u len at1 N f v3 v4 fr1 fu1 hlN hN (by omega) hf) rfl rfl (Nat.le_of_ble_eq_true rfl) (by omega) (by omega) (by omega) (q := 36) rfl (fun r9 h9 hr9 => ?_)
        obtain ⟨e9, er9⟩ := hr9
        subst er9; rw [e9]
        show aw G 3 M 36 [.ref r, .int v, .int (nI i)] [.int (cu_c f len at1), .int (v * 10)] h1 0 0
        refine aw_bipush (v := 48) C dX0_passNumber_36 (by decide) (q := 38) rfl ?_
        refine aw_isub C dX0_passNumber_38 (q := 39) rfl ?_
        refine aw_iadd C dX0_passNumber_39 (q := 40) rfl ?_
        refine aw_istore_n (ls' := [.ref r, .int ((v * 10) + ((cu_c f len at1) - 48)), .int (nI i)]) C dX0_passNumber_40 rfl (by decide) rfl (q := 41) rfl ?_
        refine aw_aload_n C dX0_passNumber_41 rfl rfl (q := 42) rfl ?_
        refine aw_dup C dX0_passNumber_42 rfl (q := 43) rfl ?_
        refine gfX0_15_3 (v := .int (nI at1)) C dX0_passNumber_43 fr1 rfl (q := 46) rfl ?_
        refine aw_iconst (v := 1) C dX0_passNumber_46 (by decide) (q := 47) rfl ?_
        refine aw_iadd C dX0_passNumber_47 (q := 48) rfl ?_
        rw [show nI at1 + 1 = nI (at1 + 1) from nI_1 _]
        refine pfX0_15_3 C dX0_passNumber_48 fr1 rfl rfl (Nat.le_of_ble_eq_true rfl) (q := 51) rfl ?_
        show aw G 3 M 51 [.ref r, .int ((v * 10) + ((cu_c f len at1) - 48)), .int (nI i)] [] (ac_up h1 r (.inr (3, [.ref u, .int (nI len), .int (nI (at1 + 1)), v3, v4]))) 0 0
        obtain ⟨h_1, eh_1⟩ : ∃ z, z = ac_up h1 r (.inr (3, [.ref u, .int (nI len), .int (nI (at1 + 1)), v3, v4])) := ⟨_, rfl⟩
        rw [← eh_1]
        have f_2 : h_1 u = some (.inl (0, N, .inl (f))) := by rw [eh_1, ac_up_n _ _ (ne_ai fu1 fr1)]; exact fu1
        have f_3 : h_1 r = some (.inr (3, [.ref u, .int (nI len), .int (nI (at1 + 1)), v3, v4])) := by rw [eh_1]; exact ac_up_s _ _ _
        have kp_4 : kp h h_1 [r] := by rw [eh_1]; exact kp_up kp1 _ _ (by simp)
        refine aw_iinc (v := nI (i + 1)) (ls' := [.ref r, .int ((v * 10) + ((cu_c f len at1) - 48)), .int (nI (i + 1))]) C dX0_passNumber_51 rfl (nI_1 i) (by decide) rfl (q := 54) rfl ?_
        refine aw_goto (q := 4) C dX0_passNumber_54 (by decide) ?_
        refine ih (i + 1) _ (at1 + 1) _ (by omega) (by omega) f_3 f_2 kp_4 ?_
        rw [← hR]
        show _ = cu_num f len (n + 1) at1 v
        conv => rhs; unfold cu_num
        rw [if_neg c_16, if_neg c_25]
set_option maxHeartbeats 4000000 in
set_option maxRecDepth 100000 in
theorem c_passNumber3 (G : ac_G) (l : Launch) (h : ac_H) (d : Nat) (r : Nat) (u len at_ N : Nat) (f : Nat → Int32) (v3 v4 : Value) (fr : h r = some (cu_ob 3 u len at_ v3 v4)) (fu : h u = some (.inl (0, N, .inl f))) (hlN : len ≤ N) (hN : N ≤ 400) (hat : at_ < 2000000) (hf : cu_ch f) : ac_Met G l yX0_passNumber cX0_passNumber 3 (some .int) (d + 1) 0 0 [.ref r] h (fun r9 h9 => r9 = some (.int (cu_num f len 6 at_ 0).1) ∧ h9 r = some (cu_ob 3 u len (cu_num f len 6 at_ 0).2 v3 v4) ∧ kp h h9 [r]) := by
  refine ac_of (ls := [.ref r, .retAddr 0, .retAddr 0]) (by decide +kernel) rfl (Nat.le_of_ble_eq_true rfl) (fun M hl C B E hnm => ?_)
  refine aw_iconst (v := 0) C dX0_passNumber_0 (by decide) (q := 1) rfl ?_
  refine aw_istore_n (ls' := [.ref r, .int 0, .retAddr 0]) C dX0_passNumber_1 rfl (by decide) rfl (q := 2) rfl ?_
  refine aw_iconst (v := 0) C dX0_passNumber_2 (by decide) (q := 3) rfl ?_
  refine aw_istore_n (ls' := [.ref r, .int 0, .int 0]) C dX0_passNumber_3 rfl (by decide) rfl (q := 4) rfl ?_
  exact lp_passNumber3 (R := cu_num f len 6 at_ 0) C B E hlN hN hf 6 0 0 at_ h rfl (by omega) fr fu (kp_cons r kp_rf) rfl
theorem cu_dn {c b : Int32} (h : cu_isd c b) (z : c - 48 = -1) : False := by
  have h1 := h.1
  rw [z] at h1
  exact h1 (by decide)
set_option maxHeartbeats 4000000 in
set_option maxRecDepth 100000 in
theorem lp_passPrefixes3 {G : ac_G} {M : ac_M} {h : ac_H} {d r u len N : Nat} {f : Nat → Int32} {v3 v4 : Value} {R : Bool × Nat} (C : ac_MC G RX0 cX0_passPrefixes 3 (some .boolean) M) (B : ac_Bd M (d + 2) 0 0) (E : ac_End G (fun r9 h9 => r9 = some (.int (pb_b (R.1 = true))) ∧ h9 r = some (cu_ob 3 u len R.2 v3 v4) ∧ kp h h9 [r]) 0 0 M) (hlN : len ≤ N) (hN : N ≤ 400) (hf : cu_ch f) :
    ∀ (n i : Nat) (at1 : Nat) (h1 : ac_H) (v2 : Value), i + n = 300 → at1 + 2 * n < 3000000 → h1 r = some (.inr (3, [.ref u, .int (nI len), .int (nI at1), v3, v4])) → h1 u = some (.inl (0, N, .inl f)) → kp h h1 [r] → cu_pre f len n at1 = R → aw G 3 M 2 [.ref r, .int (nI i), v2] [] h1 0 0 := by
  intro n
  induction n with
  | zero =>
    intro i at1 h1 v2 hi hat fr1 fu1 kp1 hR
    have hi6 : i = 300 := by omega
    subst hi6
    refine aw_iload_n C dX0_passPrefixes_2 rfl rfl (q := 3) rfl ?_
    refine aw_sipush (v := 300) C dX0_passPrefixes_3 (by decide) (q := 6) rfl ?_
    refine aw_icmp_ge (t := 69) (q := 9) C dX0_passPrefixes_6 (by decide) rfl (fun c_6 => ?_) (fun c_6 => absurd (show nI 300 ≤ nI 300 by decide) c_6)
    refine aw_iconst (v := 1) C dX0_passPrefixes_69 (by decide) (q := 70) rfl ?_
    refine aw_zret C E dX0_passPrefixes_70 (rfl) (Nat.le_refl _) (Nat.le_refl _) ?_
    have hR2 : R = (true, at1) := hR.symm
    exact ⟨by rw [hR2]; rfl, by rw [hR2]; exact fr1, kp1⟩
  | succ n ih =>
    intro i at1 h1 v2 hi hat fr1 fu1 kp1 hR
    refine aw_iload_n C dX0_passPrefixes_2 rfl rfl (q := 3) rfl ?_
    refine aw_sipush (v := 300) C dX0_passPrefixes_3 (by decide) (q := 6) rfl ?_
    refine aw_icmp_ge (t := 69) (q := 9) C dX0_passPrefixes_6 (by decide) rfl (fun c_6 => absurd c_6 (ni_nge i 300 rfl rfl (by omega) (by decide) (by omega))) (fun c_6 => ?_)
    refine aw_aload_n C dX0_passPrefixes_9 rfl rfl (q := 10) rfl ?_
    refine cvX0_22_3 (As := []) (rest := []) C B dX0_passPrefixes_10 fr1 (c_here3 G M.2.1 h1 d r u len at1 N f v3 v4 fr1 fu1 hlN hN (by omega) hf) rfl rfl (Nat.le_of_ble_eq_true rfl) (by omega) (by omega) (by omega) (q := 13) rfl (fun r9 h9 hr9 => ?_)
    obtain ⟨e9, er9⟩ := hr9
    subst er9; rw [e9]
    show aw G 3 M 13 [.ref r, .int (nI i), v2] [.int (cu_c f len at1)] h1 0 0
    refine aw_istore_n (ls' := [.ref r, .int (nI i), .int (cu_c f len at1)]) C dX0_passPrefixes_13 rfl (by decide) rfl (q := 14) rfl ?_
    refine aw_iload_n C dX0_passPrefixes_14 rfl rfl (q := 15) rfl ?_
    refine aw_bipush (v := 45) C dX0_passPrefixes_15 (by decide) (q := 17) rfl ?_
    refine aw_icmp_eq (t := 35) (q := 20) C dX0_passPrefixes_17 (by decide) rfl (fun c_17 => ?_) (fun c_17 => ?_)
    ·
      have hu9 : cu_c f len at1 = 45 ∨ cu_c f len at1 = 102 ∨ cu_c f len at1 = 99 := Or.inl c_17
      refine aw_aload_n C dX0_passPrefixes_35 rfl rfl (q := 36) rfl ?_
      refine aw_dup C dX0_passPrefixes_36 rfl (q := 37) rfl ?_
      refine gfX0_15_3 (v := .int (nI at1)) C dX0_passPrefixes_37 fr1 rfl (q := 40) rfl ?_
      refine aw_iconst (v := 1) C dX0_passPrefixes_40 (by decide) (q := 41) rfl ?_
      refine aw_iadd C dX0_passPrefixes_41 (q := 42) rfl ?_
      rw [show nI at1 + 1 = nI (at1 + 1) from nI_1 _]
      refine pfX0_15_3 C dX0_passPrefixes_42 fr1 rfl rfl (Nat.le_of_ble_eq_true rfl) (q := 45) rfl ?_
      show aw G 3 M 45 [.ref r, .int (nI i), .int (cu_c f len at1)] [] (ac_up h1 r (.inr (3, [.ref u, .int (nI len), .int (nI (at1 + 1)), v3, v4]))) 0 0
      obtain ⟨h_1, eh_1⟩ : ∃ z, z = ac_up h1 r (.inr (3, [.ref u, .int (nI len), .int (nI (at1 + 1)), v3, v4])) := ⟨_, rfl⟩
      rw [← eh_1]
      have f_2 : h_1 u = some (.inl (0, N, .inl (f))) := by rw [eh_1, ac_up_n _ _ (ne_ai fu1 fr1)]; exact fu1
      have f_3 : h_1 r = some (.inr (3, [.ref u, .int (nI len), .int (nI (at1 + 1)), v3, v4])) := by rw [eh_1]; exact ac_up_s _ _ _
      have kp_4 : kp h h_1 [r] := by rw [eh_1]; exact kp_up kp1 _ _ (by simp)
      refine aw_iload_n C dX0_passPrefixes_45 rfl rfl (q := 46) rfl ?_
      refine aw_bipush (v := 99) C dX0_passPrefixes_46 (by decide) (q := 48) rfl ?_
      refine aw_icmp_ne (t := 63) (q := 51) C dX0_passPrefixes_48 (by decide) rfl (fun c_48 => ?_) (fun c_48 => ?_)
      ·
        have hc9 : ¬ cu_c f len at1 = 99 := c_48
        refine aw_iinc (v := nI (i + 1)) (ls' := [.ref r, .int (nI (i + 1)), .int (cu_c f len at1)]) C dX0_passPrefixes_63 rfl (nI_1 i) (by decide) rfl (q := 66) rfl ?_
        refine aw_goto (q := 2) C dX0_passPrefixes_66 (by decide) ?_
        refine ih (i + 1) (at1 + 1) _ _ (by omega) (by omega) f_3 f_2 kp_4 ?_
        rw [← hR]
        show _ = cu_pre f len (n + 1) at1
        conv => rhs; unfold cu_pre
        rw [if_pos hu9, if_neg hc9]
      ·
        have hc9 : cu_c f len at1 = 99 := c_48
        refine aw_aload_n C dX0_passPrefixes_51 rfl rfl (q := 52) rfl ?_
        refine aw_bipush (v := 8) C dX0_passPrefixes_52 (by decide) (q := 54) rfl ?_
        refine cvX0_26_3 (As := [.int 8]) (rest := []) C B dX0_passPrefixes_54 f_3 (c_passDigit3 G M.2.1 h_1 d r u len (at1 + 1) N f v3 v4 8 f_3 f_2 hlN hN (by omega) hf) rfl rfl (Nat.le_of_ble_eq_true rfl) (by omega) (by omega) (by omega) (q := 57) rfl (fun r9 h_5 hr9 => ?_)
        obtain ⟨er9, fr9, kp9⟩ := hr9
        subst er9
        have fu9 : h_5 u = some (.inl (0, N, .inl f)) := kp9 _ _ f_2 (ni1 (ne_ai fu1 fr1) ni0)
        have kq9 : kp h h_5 [r] := kp_mono (kp_tr kp_4 kp9) (by simp)
        by_cases hd9 : cu_isd (cu_c f len (at1 + 1)) 8
        ·
          rw [if_pos hd9] at fr9
          rw [if_pos hd9]
          show aw G 3 M 57 [.ref r, .int (nI i), .int (cu_c f len at1)] [.int (cu_c f len (at1 + 1) - 48)] h_5 0 0
          refine aw_iconst (v := (-1)) C dX0_passPrefixes_57 (by decide) (q := 58) rfl ?_
          refine aw_icmp_ne (t := 63) (q := 61) C dX0_passPrefixes_58 (by decide) rfl (fun c_58 => ?_) (fun c_58 => absurd c_58 (fun z => cu_dn hd9 z))
          refine aw_iinc (v := nI (i + 1)) (ls' := [.ref r, .int (nI (i + 1)), .int (cu_c f len at1)]) C dX0_passPrefixes_63 rfl (nI_1 i) (by decide) rfl (q := 66) rfl ?_
          refine aw_goto (q := 2) C dX0_passPrefixes_66 (by decide) ?_
          refine ih (i + 1) (at1 + 1 + 1) _ _ (by omega) (by omega) fr9 fu9 kq9 ?_
          rw [← hR]
          show _ = cu_pre f len (n + 1) at1
          conv => rhs; unfold cu_pre
          rw [if_pos (Or.inr (Or.inr hc9)), if_pos hc9, if_pos hd9]
        ·
          rw [if_neg hd9] at fr9
          rw [if_neg hd9]
          show aw G 3 M 57 [.ref r, .int (nI i), .int (cu_c f len at1)] [.int ((-1))] h_5 0 0
          refine aw_iconst (v := (-1)) C dX0_passPrefixes_57 (by decide) (q := 58) rfl ?_
          refine aw_icmp_ne (t := 63) (q := 61) C dX0_passPrefixes_58 (by decide) rfl (fun c_58 => absurd c_58 (fun z => z rfl)) (fun c_58 => ?_)
          refine aw_iconst (v := 0) C dX0_passPrefixes_61 (by decide) (q := 62) rfl ?_
          refine aw_zret C E dX0_passPrefixes_62 (rfl) (Nat.le_refl _) (Nat.le_refl _) ?_
          have hR2 : R = (false, at1 + 1) := by rw [← hR]; unfold cu_pre; rw [if_pos (Or.inr (Or.inr hc9)), if_pos hc9, if_neg hd9]
          exact ⟨by rw [hR2]; rfl, by rw [hR2]; exact fr9, kq9⟩
    ·
      refine aw_iload_n C dX0_passPrefixes_20 rfl rfl (q := 21) rfl ?_
      refine aw_bipush (v := 102) C dX0_passPrefixes_21 (by decide) (q := 23) rfl ?_
      refine aw_icmp_eq (t := 35) (q := 26) C dX0_passPrefixes_23 (by decide) rfl (fun c_23 => ?_) (fun c_23 => ?_)
      ·
        have hu9 : cu_c f len at1 = 45 ∨ cu_c f len at1 = 102 ∨ cu_c f len at1 = 99 := Or.inr (Or.inl c_23)
        refine aw_aload_n C dX0_passPrefixes_35 rfl rfl (q := 36) rfl ?_
        refine aw_dup C dX0_passPrefixes_36 rfl (q := 37) rfl ?_
        refine gfX0_15_3 (v := .int (nI at1)) C dX0_passPrefixes_37 fr1 rfl (q := 40) rfl ?_
        refine aw_iconst (v := 1) C dX0_passPrefixes_40 (by decide) (q := 41) rfl ?_
        refine aw_iadd C dX0_passPrefixes_41 (q := 42) rfl ?_
        rw [show nI at1 + 1 = nI (at1 + 1) from nI_1 _]
        refine pfX0_15_3 C dX0_passPrefixes_42 fr1 rfl rfl (Nat.le_of_ble_eq_true rfl) (q := 45) rfl ?_
        show aw G 3 M 45 [.ref r, .int (nI i), .int (cu_c f len at1)] [] (ac_up h1 r (.inr (3, [.ref u, .int (nI len), .int (nI (at1 + 1)), v3, v4]))) 0 0
        obtain ⟨h_6, eh_6⟩ : ∃ z, z = ac_up h1 r (.inr (3, [.ref u, .int (nI len), .int (nI (at1 + 1)), v3, v4])) := ⟨_, rfl⟩
        rw [← eh_6]
        have f_7 : h_6 u = some (.inl (0, N, .inl (f))) := by rw [eh_6, ac_up_n _ _ (ne_ai fu1 fr1)]; exact fu1
        have f_8 : h_6 r = some (.inr (3, [.ref u, .int (nI len), .int (nI (at1 + 1)), v3, v4])) := by rw [eh_6]; exact ac_up_s _ _ _
        have kp_9 : kp h h_6 [r] := by rw [eh_6]; exact kp_up kp1 _ _ (by simp)
        refine aw_iload_n C dX0_passPrefixes_45 rfl rfl (q := 46) rfl ?_
        refine aw_bipush (v := 99) C dX0_passPrefixes_46 (by decide) (q := 48) rfl ?_
        refine aw_icmp_ne (t := 63) (q := 51) C dX0_passPrefixes_48 (by decide) rfl (fun c_48 => ?_) (fun c_48 => ?_)
        ·
          have hc9 : ¬ cu_c f len at1 = 99 := c_48
          refine aw_iinc (v := nI (i + 1)) (ls' := [.ref r, .int (nI (i + 1)), .int (cu_c f len at1)]) C dX0_passPrefixes_63 rfl (nI_1 i) (by decide) rfl (q := 66) rfl ?_
          refine aw_goto (q := 2) C dX0_passPrefixes_66 (by decide) ?_
          refine ih (i + 1) (at1 + 1) _ _ (by omega) (by omega) f_8 f_7 kp_9 ?_
          rw [← hR]
          show _ = cu_pre f len (n + 1) at1
          conv => rhs; unfold cu_pre
          rw [if_pos hu9, if_neg hc9]
        ·
          have hc9 : cu_c f len at1 = 99 := c_48
          refine aw_aload_n C dX0_passPrefixes_51 rfl rfl (q := 52) rfl ?_
          refine aw_bipush (v := 8) C dX0_passPrefixes_52 (by decide) (q := 54) rfl ?_
          refine cvX0_26_3 (As := [.int 8]) (rest := []) C B dX0_passPrefixes_54 f_8 (c_passDigit3 G M.2.1 h_6 d r u len (at1 + 1) N f v3 v4 8 f_8 f_7 hlN hN (by omega) hf) rfl rfl (Nat.le_of_ble_eq_true rfl) (by omega) (by omega) (by omega) (q := 57) rfl (fun r9 h_10 hr9 => ?_)
          obtain ⟨er9, fr9, kp9⟩ := hr9
          subst er9
          have fu9 : h_10 u = some (.inl (0, N, .inl f)) := kp9 _ _ f_7 (ni1 (ne_ai fu1 fr1) ni0)
          have kq9 : kp h h_10 [r] := kp_mono (kp_tr kp_9 kp9) (by simp)
          by_cases hd9 : cu_isd (cu_c f len (at1 + 1)) 8
          ·
            rw [if_pos hd9] at fr9
            rw [if_pos hd9]
            show aw G 3 M 57 [.ref r, .int (nI i), .int (cu_c f len at1)] [.int (cu_c f len (at1 + 1) - 48)] h_10 0 0
            refine aw_iconst (v := (-1)) C dX0_passPrefixes_57 (by decide) (q := 58) rfl ?_
            refine aw_icmp_ne (t := 63) (q := 61) C dX0_passPrefixes_58 (by decide) rfl (fun c_58 => ?_) (fun c_58 => absurd c_58 (fun z => cu_dn hd9 z))
            refine aw_iinc (v := nI (i + 1)) (ls' := [.ref r, .int (nI (i + 1)), .int (cu_c f len at1)]) C dX0_passPrefixes_63 rfl (nI_1 i) (by decide) rfl (q := 66) rfl ?_
            refine aw_goto (q := 2) C dX0_passPrefixes_66 (by decide) ?_
            refine ih (i + 1) (at1 + 1 + 1) _ _ (by omega) (by omega) fr9 fu9 kq9 ?_
            rw [← hR]
            show _ = cu_pre f len (n + 1) at1
            conv => rhs; unfold cu_pre
            rw [if_pos (Or.inr (Or.inr hc9)), if_pos hc9, if_pos hd9]
          ·
            rw [if_neg hd9] at fr9
            rw [if_neg hd9]
            show aw G 3 M 57 [.ref r, .int (nI i), .int (cu_c f len at1)] [.int ((-1))] h_10 0 0
            refine aw_iconst (v := (-1)) C dX0_passPrefixes_57 (by decide) (q := 58) rfl ?_
            refine aw_icmp_ne (t := 63) (q := 61) C dX0_passPrefixes_58 (by decide) rfl (fun c_58 => absurd c_58 (fun z => z rfl)) (fun c_58 => ?_)
            refine aw_iconst (v := 0) C dX0_passPrefixes_61 (by decide) (q := 62) rfl ?_
            refine aw_zret C E dX0_passPrefixes_62 (rfl) (Nat.le_refl _) (Nat.le_refl _) ?_
            have hR2 : R = (false, at1 + 1) := by rw [← hR]; unfold cu_pre; rw [if_pos (Or.inr (Or.inr hc9)), if_pos hc9, if_neg hd9]
            exact ⟨by rw [hR2]; rfl, by rw [hR2]; exact fr9, kq9⟩
      ·
        refine aw_iload_n C dX0_passPrefixes_26 rfl rfl (q := 27) rfl ?_
        refine aw_bipush (v := 99) C dX0_passPrefixes_27 (by decide) (q := 29) rfl ?_
        refine aw_icmp_eq (t := 35) (q := 32) C dX0_passPrefixes_29 (by decide) rfl (fun c_29 => ?_) (fun c_29 => ?_)
        ·
          have hu9 : cu_c f len at1 = 45 ∨ cu_c f len at1 = 102 ∨ cu_c f len at1 = 99 := Or.inr (Or.inr c_29)
          refine aw_aload_n C dX0_passPrefixes_35 rfl rfl (q := 36) rfl ?_
          refine aw_dup C dX0_passPrefixes_36 rfl (q := 37) rfl ?_
          refine gfX0_15_3 (v := .int (nI at1)) C dX0_passPrefixes_37 fr1 rfl (q := 40) rfl ?_
          refine aw_iconst (v := 1) C dX0_passPrefixes_40 (by decide) (q := 41) rfl ?_
          refine aw_iadd C dX0_passPrefixes_41 (q := 42) rfl ?_
          rw [show nI at1 + 1 = nI (at1 + 1) from nI_1 _]
          refine pfX0_15_3 C dX0_passPrefixes_42 fr1 rfl rfl (Nat.le_of_ble_eq_true rfl) (q := 45) rfl ?_
          show aw G 3 M 45 [.ref r, .int (nI i), .int (cu_c f len at1)] [] (ac_up h1 r (.inr (3, [.ref u, .int (nI len), .int (nI (at1 + 1)), v3, v4]))) 0 0
          obtain ⟨h_11, eh_11⟩ : ∃ z, z = ac_up h1 r (.inr (3, [.ref u, .int (nI len), .int (nI (at1 + 1)), v3, v4])) := ⟨_, rfl⟩
          rw [← eh_11]
          have f_12 : h_11 u = some (.inl (0, N, .inl (f))) := by rw [eh_11, ac_up_n _ _ (ne_ai fu1 fr1)]; exact fu1
          have f_13 : h_11 r = some (.inr (3, [.ref u, .int (nI len), .int (nI (at1 + 1)), v3, v4])) := by rw [eh_11]; exact ac_up_s _ _ _
          have kp_14 : kp h h_11 [r] := by rw [eh_11]; exact kp_up kp1 _ _ (by simp)
          refine aw_iload_n C dX0_passPrefixes_45 rfl rfl (q := 46) rfl ?_
          refine aw_bipush (v := 99) C dX0_passPrefixes_46 (by decide) (q := 48) rfl ?_
          refine aw_icmp_ne (t := 63) (q := 51) C dX0_passPrefixes_48 (by decide) rfl (fun c_48 => ?_) (fun c_48 => ?_)
          ·
            have hc9 : ¬ cu_c f len at1 = 99 := c_48
            refine aw_iinc (v := nI (i + 1)) (ls' := [.ref r, .int (nI (i + 1)), .int (cu_c f len at1)]) C dX0_passPrefixes_63 rfl (nI_1 i) (by decide) rfl (q := 66) rfl ?_
            refine aw_goto (q := 2) C dX0_passPrefixes_66 (by decide) ?_
            refine ih (i + 1) (at1 + 1) _ _ (by omega) (by omega) f_13 f_12 kp_14 ?_
            rw [← hR]
            show _ = cu_pre f len (n + 1) at1
            conv => rhs; unfold cu_pre
            rw [if_pos hu9, if_neg hc9]
          ·
            have hc9 : cu_c f len at1 = 99 := c_48
            refine aw_aload_n C dX0_passPrefixes_51 rfl rfl (q := 52) rfl ?_
            refine aw_bipush (v := 8) C dX0_passPrefixes_52 (by decide) (q := 54) rfl ?_
            refine cvX0_26_3 (As := [.int 8]) (rest := []) C B dX0_passPrefixes_54 f_13 (c_passDigit3 G M.2.1 h_11 d r u len (at1 + 1) N f v3 v4 8 f_13 f_12 hlN hN (by omega) hf) rfl rfl (Nat.le_of_ble_eq_true rfl) (by omega) (by omega) (by omega) (q := 57) rfl (fun r9 h_15 hr9 => ?_)
            obtain ⟨er9, fr9, kp9⟩ := hr9
            subst er9
            have fu9 : h_15 u = some (.inl (0, N, .inl f)) := kp9 _ _ f_12 (ni1 (ne_ai fu1 fr1) ni0)
            have kq9 : kp h h_15 [r] := kp_mono (kp_tr kp_14 kp9) (by simp)
            by_cases hd9 : cu_isd (cu_c f len (at1 + 1)) 8
            ·
              rw [if_pos hd9] at fr9
              rw [if_pos hd9]
              show aw G 3 M 57 [.ref r, .int (nI i), .int (cu_c f len at1)] [.int (cu_c f len (at1 + 1) - 48)] h_15 0 0
              refine aw_iconst (v := (-1)) C dX0_passPrefixes_57 (by decide) (q := 58) rfl ?_
              refine aw_icmp_ne (t := 63) (q := 61) C dX0_passPrefixes_58 (by decide) rfl (fun c_58 => ?_) (fun c_58 => absurd c_58 (fun z => cu_dn hd9 z))
              refine aw_iinc (v := nI (i + 1)) (ls' := [.ref r, .int (nI (i + 1)), .int (cu_c f len at1)]) C dX0_passPrefixes_63 rfl (nI_1 i) (by decide) rfl (q := 66) rfl ?_
              refine aw_goto (q := 2) C dX0_passPrefixes_66 (by decide) ?_
              refine ih (i + 1) (at1 + 1 + 1) _ _ (by omega) (by omega) fr9 fu9 kq9 ?_
              rw [← hR]
              show _ = cu_pre f len (n + 1) at1
              conv => rhs; unfold cu_pre
              rw [if_pos (Or.inr (Or.inr hc9)), if_pos hc9, if_pos hd9]
            ·
              rw [if_neg hd9] at fr9
              rw [if_neg hd9]
              show aw G 3 M 57 [.ref r, .int (nI i), .int (cu_c f len at1)] [.int ((-1))] h_15 0 0
              refine aw_iconst (v := (-1)) C dX0_passPrefixes_57 (by decide) (q := 58) rfl ?_
              refine aw_icmp_ne (t := 63) (q := 61) C dX0_passPrefixes_58 (by decide) rfl (fun c_58 => absurd c_58 (fun z => z rfl)) (fun c_58 => ?_)
              refine aw_iconst (v := 0) C dX0_passPrefixes_61 (by decide) (q := 62) rfl ?_
              refine aw_zret C E dX0_passPrefixes_62 (rfl) (Nat.le_refl _) (Nat.le_refl _) ?_
              have hR2 : R = (false, at1 + 1) := by rw [← hR]; unfold cu_pre; rw [if_pos (Or.inr (Or.inr hc9)), if_pos hc9, if_neg hd9]
              exact ⟨by rw [hR2]; rfl, by rw [hR2]; exact fr9, kq9⟩
        ·
          refine aw_goto (q := 69) C dX0_passPrefixes_32 (by decide) ?_
          refine aw_iconst (v := 1) C dX0_passPrefixes_69 (by decide) (q := 70) rfl ?_
          refine aw_zret C E dX0_passPrefixes_70 (rfl) (Nat.le_refl _) (Nat.le_refl _) ?_
          have hR2 : R = (true, at1) := by rw [← hR]; unfold cu_pre; rw [if_neg (by rintro (z | z | z); exact c_17 z; exact c_23 z; exact c_29 z)]
          exact ⟨by rw [hR2]; rfl, by rw [hR2]; exact fr1, kp1⟩
set_option maxHeartbeats 4000000 in
set_option maxRecDepth 100000 in
theorem c_passPrefixes3 (G : ac_G) (l : Launch) (h : ac_H) (d : Nat) (r : Nat) (u len at_ N : Nat) (f : Nat → Int32) (v3 v4 : Value) (fr : h r = some (cu_ob 3 u len at_ v3 v4)) (fu : h u = some (.inl (0, N, .inl f))) (hlN : len ≤ N) (hN : N ≤ 400) (hat : at_ < 2000000) (hf : cu_ch f) : ac_Met G l yX0_passPrefixes cX0_passPrefixes 3 (some .boolean) (d + 2) 0 0 [.ref r] h (fun r9 h9 => r9 = some (.int (pb_b ((cu_pre f len 300 at_).1 = true))) ∧ h9 r = some (cu_ob 3 u len (cu_pre f len 300 at_).2 v3 v4) ∧ kp h h9 [r]) := by
  refine ac_of (ls := [.ref r, .retAddr 0, .retAddr 0]) (by decide +kernel) rfl (Nat.le_of_ble_eq_true rfl) (fun M hl C B E hnm => ?_)
  refine aw_iconst (v := 0) C dX0_passPrefixes_0 (by decide) (q := 1) rfl ?_
  refine aw_istore_n (ls' := [.ref r, .int 0, .retAddr 0]) C dX0_passPrefixes_1 rfl (by decide) rfl (q := 2) rfl ?_
  exact lp_passPrefixes3 (R := cu_pre f len 300 at_) C B E hlN hN hf 300 0 at_ h _ rfl (by omega) fr fu (kp_cons r kp_rf) rfl
set_option maxHeartbeats 4000000 in
set_option maxRecDepth 100000 in
theorem c_here7 (G : ac_G) (l : Launch) (h : ac_H) (d : Nat) (r : Nat) (u len at_ N : Nat) (f : Nat → Int32) (v3 v4 : Value) (fr : h r = some (cu_ob 7 u len at_ v3 v4)) (fu : h u = some (.inl (0, N, .inl f))) (hlN : len ≤ N) (hN : N ≤ 400) (hat : at_ < 4000000) (hf : cu_ch f) : ac_Met G l yX0_here cX0_here 1 (some .char) d 0 0 [.ref r] h (pq h (some (.int (cu_c f len at_)))) := by
  refine ac_of (ls := [.ref r]) (by decide +kernel) rfl (Nat.le_of_ble_eq_true rfl) (fun M hl C B E hnm => ?_)
  have fr : h r = some (.inr (7, [.ref u, .int (nI len), .int (nI at_), v3, v4])) := fr
  refine aw_aload_n C dX0_here_0 rfl rfl (q := 1) rfl ?_
  refine gfX0_15_7 (v := .int (nI at_)) C dX0_here_1 fr rfl (q := 4) rfl ?_
  refine aw_if_lt (t := 42) (q := 7) C dX0_here_4 (by decide) rfl (fun c_4 => absurd c_4 (nI_pos (by omega))) (fun c_4 => ?_)
  refine aw_aload_n C dX0_here_7 rfl rfl (q := 8) rfl ?_
  refine gfX0_15_7 (v := .int (nI at_)) C dX0_here_8 fr rfl (q := 11) rfl ?_
  refine aw_aload_n C dX0_here_11 rfl rfl (q := 12) rfl ?_
  refine gfX0_19_7 (v := .int (nI len)) C dX0_here_12 fr rfl (q := 15) rfl ?_
  refine aw_icmp_ge (t := 42) (q := 18) C dX0_here_15 (by decide) rfl (fun c_15 => ?_) (fun c_15 => ?_)
  ·
    refine aw_iconst (v := 0) C dX0_here_42 (by decide) (q := 43) rfl ?_
    refine aw_zret C E dX0_here_43 (by first | rfl | exact hf _) (Nat.le_refl _) (Nat.le_refl _) ?_
    exact ⟨rfl, by unfold cu_c; rw [if_neg (by have := ni_le at_ len rfl rfl (by omega) (by omega) c_15; omega)]⟩
  ·
    refine aw_aload_n C dX0_here_18 rfl rfl (q := 19) rfl ?_
    refine gfX0_15_7 (v := .int (nI at_)) C dX0_here_19 fr rfl (q := 22) rfl ?_
    refine aw_aload_n C dX0_here_22 rfl rfl (q := 23) rfl ?_
    refine gfX0_9_7 (v := .ref u) C dX0_here_23 fr rfl (q := 26) rfl ?_
    refine aw_alen (v := nI N) C dX0_here_26 fu rfl rfl (q := 27) rfl ?_
    refine aw_icmp_ge (t := 42) (q := 30) C dX0_here_27 (by decide) rfl (fun c_27 => absurd c_27 (ni_nge at_ N rfl rfl (by omega) (by omega) (by have := ni_nle at_ len rfl rfl (by omega) (by omega) c_15; omega))) (fun c_27 => ?_)
    refine aw_aload_n C dX0_here_30 rfl rfl (q := 31) rfl ?_
    refine gfX0_9_7 (v := .ref u) C dX0_here_31 fr rfl (q := 34) rfl ?_
    refine aw_aload_n C dX0_here_34 rfl rfl (q := 35) rfl ?_
    refine gfX0_15_7 (v := .int (nI at_)) C dX0_here_35 fr rfl (q := 38) rfl ?_
    refine ay_cald (j := at_) C dX0_here_38 fu (vp_in_nI (by have := ni_nle at_ len rfl rfl (by omega) (by omega) c_15; omega) (by omega)) (nI_clamp (by omega)) (q := 39) rfl ?_
    refine aw_goto (q := 43) C dX0_here_39 (by decide) ?_
    refine aw_zret C E dX0_here_43 (by first | rfl | exact hf _) (Nat.le_refl _) (Nat.le_refl _) ?_
    exact ⟨rfl, by unfold cu_c; rw [if_pos (ni_nle at_ len rfl rfl (by omega) (by omega) c_15)]⟩
/-- what passDigit does -/
abbrev cu_dg7 (h : ac_H) (r u len at_ : Nat) (f : Nat → Int32) (v3 v4 : Value) (b : Int32) : Option Value → ac_H → Prop := fun r9 h9 => r9 = some (.int (if cu_isd (cu_c f len at_) b then cu_c f len at_ - 48 else -1)) ∧ h9 r = some (cu_ob 7 u len (if cu_isd (cu_c f len at_) b then at_ + 1 else at_) v3 v4) ∧ kp h h9 [r]
set_option maxHeartbeats 4000000 in
set_option maxRecDepth 100000 in
theorem c_passDigit7 (G : ac_G) (l : Launch) (h : ac_H) (d : Nat) (r : Nat) (u len at_ N : Nat) (f : Nat → Int32) (v3 v4 : Value) (b : Int32) (fr : h r = some (cu_ob 7 u len at_ v3 v4)) (fu : h u = some (.inl (0, N, .inl f))) (hlN : len ≤ N) (hN : N ≤ 400) (hat : at_ < 4000000) (hf : cu_ch f) : ac_Met G l yX0_passDigit cX0_passDigit 3 (some .int) (d + 1) 0 0 [.ref r, .int b] h (cu_dg7 h r u len at_ f v3 v4 b) := by
  refine ac_of (ls := [.ref r, .int b, .retAddr 0]) (by decide +kernel) rfl (Nat.le_of_ble_eq_true rfl) (fun M hl C B E hnm => ?_)
  have fr : h r = some (.inr (7, [.ref u, .int (nI len), .int (nI at_), v3, v4])) := fr
  refine aw_aload_n C dX0_passDigit_0 rfl rfl (q := 1) rfl ?_
  refine cvX0_22_7 (As := []) (rest := []) C B dX0_passDigit_1 fr (c_here7 G M.2.1 h d r u len at_ N f v3 v4 fr fu hlN hN (by omega) hf) rfl rfl (Nat.le_of_ble_eq_true rfl) (by omega) (by omega) (by omega) (q := 4) rfl (fun r9 h9 hr9 => ?_)
  obtain ⟨e9, er9⟩ := hr9
  subst er9; rw [e9]
  show aw G 3 M 4 [.ref r, .int b, .retAddr 0] [.int (cu_c f len at_)] h 0 0
  refine aw_bipush (v := 48) C dX0_passDigit_4 (by decide) (q := 6) rfl ?_
  refine aw_isub C dX0_passDigit_6 (q := 7) rfl ?_
  refine aw_istore_n (ls' := [.ref r, .int b, .int ((cu_c f len at_) - 48)]) C dX0_passDigit_7 rfl (by decide) rfl (q := 8) rfl ?_
  refine aw_iload_n C dX0_passDigit_8 rfl rfl (q := 9) rfl ?_
  refine aw_if_lt (t := 17) (q := 12) C dX0_passDigit_9 (by decide) rfl (fun c_9 => ?_) (fun c_9 => ?_)
  ·
    refine aw_iconst (v := (-1)) C dX0_passDigit_17 (by decide) (q := 18) rfl ?_
    refine aw_iret C E dX0_passDigit_18 (Nat.le_refl _) (Nat.le_refl _) ?_
    exact ⟨by rw [if_neg (fun z => z.1 c_9)], by rw [if_neg (fun z => z.1 c_9)]; exact fr, kp_cons r kp_rf⟩
  ·
    refine aw_iload_n C dX0_passDigit_12 rfl rfl (q := 13) rfl ?_
    refine aw_iload_n C dX0_passDigit_13 rfl rfl (q := 14) rfl ?_
    refine aw_icmp_lt (t := 19) (q := 17) C dX0_passDigit_14 (by decide) rfl (fun c_14 => ?_) (fun c_14 => ?_)
    ·
      refine aw_aload_n C dX0_passDigit_19 rfl rfl (q := 20) rfl ?_
      refine aw_dup C dX0_passDigit_20 rfl (q := 21) rfl ?_
      refine gfX0_15_7 (v := .int (nI at_)) C dX0_passDigit_21 fr rfl (q := 24) rfl ?_
      refine aw_iconst (v := 1) C dX0_passDigit_24 (by decide) (q := 25) rfl ?_
      refine aw_iadd C dX0_passDigit_25 (q := 26) rfl ?_
      rw [show nI at_ + 1 = nI (at_ + 1) from nI_1 _]
      refine pfX0_15_7 C dX0_passDigit_26 fr rfl rfl (Nat.le_of_ble_eq_true rfl) (q := 29) rfl ?_
      show aw G 3 M 29 [.ref r, .int b, .int ((cu_c f len at_) - 48)] [] (ac_up h r (.inr (7, [.ref u, .int (nI len), .int (nI (at_ + 1)), v3, v4]))) 0 0
      obtain ⟨h_1, eh_1⟩ : ∃ z, z = ac_up h r (.inr (7, [.ref u, .int (nI len), .int (nI (at_ + 1)), v3, v4])) := ⟨_, rfl⟩
      rw [← eh_1]
      have f_2 : h_1 u = some (.inl (0, N, .inl (f))) := by rw [eh_1, ac_up_n _ _ (ne_ai fu fr)]; exact fu
      have f_3 : h_1 r = some (.inr (7, [.ref u, .int (nI len), .int (nI (at_ + 1)), v3, v4])) := by rw [eh_1]; exact ac_up_s _ _ _
      have kp_4 : kp h h_1 [r] := by rw [eh_1]; exact kp_up (kp_cons r kp_rf) _ _ (by simp)
      refine aw_iload_n C dX0_passDigit_29 rfl rfl (q := 30) rfl ?_
      refine aw_iret C E dX0_passDigit_30 (Nat.le_refl _) (Nat.le_refl _) ?_
      exact ⟨by rw [if_pos ⟨c_9, c_14⟩], by rw [if_pos ⟨c_9, c_14⟩]; exact f_3, kp_4⟩
    ·
      refine aw_iconst (v := (-1)) C dX0_passDigit_17 (by decide) (q := 18) rfl ?_
      refine aw_iret C E dX0_passDigit_18 (Nat.le_refl _) (Nat.le_refl _) ?_
      exact ⟨by rw [if_neg (fun z => c_14 z.2)], by rw [if_neg (fun z => c_14 z.2)]; exact fr, kp_cons r kp_rf⟩
set_option maxHeartbeats 4000000 in
set_option maxRecDepth 100000 in
theorem lp_passNumber7 {G : ac_G} {M : ac_M} {h : ac_H} {d r u len N : Nat} {f : Nat → Int32} {v3 v4 : Value} {R : Int32 × Nat} (C : ac_MC G RX0 cX0_passNumber 3 (some .int) M) (B : ac_Bd M (d + 1) 0 0) (E : ac_End G (fun r9 h9 => r9 = some (.int R.1) ∧ h9 r = some (cu_ob 7 u len R.2 v3 v4) ∧ kp h h9 [r]) 0 0 M) (hlN : len ≤ N) (hN : N ≤ 400) (hf : cu_ch f) :
    ∀ (n i : Nat) (v : Int32) (at1 : Nat) (h1 : ac_H), i + n = 6 → at1 + n < 3000000 → h1 r = some (.inr (7, [.ref u, .int (nI len), .int (nI at1), v3, v4])) → h1 u = some (.inl (0, N, .inl f)) → kp h h1 [r] → cu_num f len n at1 v = R → aw G 3 M 4 [.ref r, .int v, .int (nI i)] [] h1 0 0 := by
  intro n
  induction n with
  | zero =>
    intro i v at1 h1 hi hat fr1 fu1 kp1 hR
    have hi6 : i = 6 := by omega
    subst hi6
    refine aw_iload_n C dX0_passNumber_4 rfl rfl (q := 5) rfl ?_
    refine aw_bipush (v := 6) C dX0_passNumber_5 (by decide) (q := 7) rfl ?_
    refine aw_icmp_ge (t := 57) (q := 10) C dX0_passNumber_7 (by decide) rfl (fun c_7 => ?_) (fun c_7 => absurd (show nI 6 ≤ nI 6 by decide) c_7)
    refine aw_iload_n C dX0_passNumber_57 rfl rfl (q := 58) rfl ?_
    refine aw_iret C E dX0_passNumber_58 (Nat.le_refl _) (Nat.le_refl _) ?_
    have hR2 : R = (v, at1) := hR.symm
    exact ⟨by rw [hR2], by rw [hR2]; exact fr1, kp1⟩
  | succ n ih =>
    intro i v at1 h1 hi hat fr1 fu1 kp1 hR
    refine aw_iload_n C dX0_passNumber_4 rfl rfl (q := 5) rfl ?_
    refine aw_bipush (v := 6) C dX0_passNumber_5 (by decide) (q := 7) rfl ?_
    refine aw_icmp_ge (t := 57) (q := 10) C dX0_passNumber_7 (by decide) rfl (fun c_7 => absurd c_7 (ni_nge i 6 rfl rfl (by omega) (by decide) (by omega))) (fun c_7 => ?_)
    refine aw_aload_n C dX0_passNumber_10 rfl rfl (q := 11) rfl ?_
    refine cvX0_22_7 (As := []) (rest := []) C B dX0_passNumber_11 fr1 (c_here7 G M.2.1 h1 d r u len at1 N f v3 v4 fr1 fu1 hlN hN (by omega) hf) rfl rfl (Nat.le_of_ble_eq_true rfl) (by omega) (by omega) (by omega) (q := 14) rfl (fun r9 h9 hr9 => ?_)
    obtain ⟨e9, er9⟩ := hr9
    subst er9; rw [e9]
    show aw G 3 M 14 [.ref r, .int v, .int (nI i)] [.int (cu_c f len at1)] h1 0 0
    refine aw_bipush (v := 48) C dX0_passNumber_14 (by decide) (q := 16) rfl ?_
    refine aw_icmp_lt (t := 57) (q := 19) C dX0_passNumber_16 (by decide) rfl (fun c_16 => ?_) (fun c_16 => ?_)
    ·
      refine aw_iload_n C dX0_passNumber_57 rfl rfl (q := 58) rfl ?_
      refine aw_iret C E dX0_passNumber_58 (Nat.le_refl _) (Nat.le_refl _) ?_
      have hR2 : R = (v, at1) := by rw [← hR]; unfold cu_num; rw [if_pos c_16]
      exact ⟨by rw [hR2], by rw [hR2]; exact fr1, kp1⟩
    ·
      refine aw_aload_n C dX0_passNumber_19 rfl rfl (q := 20) rfl ?_
      refine cvX0_22_7 (As := []) (rest := []) C B dX0_passNumber_20 fr1 (c_here7 G M.2.1 h1 d r u len at1 N f v3 v4 fr1 fu1 hlN hN (by omega) hf) rfl rfl (Nat.le_of_ble_eq_true rfl) (by omega) (by omega) (by omega) (q := 23) rfl (fun r9 h9 hr9 => ?_)
      obtain ⟨e9, er9⟩ := hr9
      subst er9; rw [e9]
      show aw G 3 M 23 [.ref r, .int v, .int (nI i)] [.int (cu_c f len at1)] h1 0 0
      refine aw_bipush (v := 57) C dX0_passNumber_23 (by decide) (q := 25) rfl ?_
      refine aw_icmp_gt (t := 57) (q := 28) C dX0_passNumber_25 (by decide) rfl (fun c_25 => ?_) (fun c_25 => ?_)
      ·
        refine aw_iload_n C dX0_passNumber_57 rfl rfl (q := 58) rfl ?_
        refine aw_iret C E dX0_passNumber_58 (Nat.le_refl _) (Nat.le_refl _) ?_
        have hR2 : R = (v, at1) := by rw [← hR]; unfold cu_num; rw [if_neg c_16, if_pos c_25]
        exact ⟨by rw [hR2], by rw [hR2]; exact fr1, kp1⟩
      ·
        refine aw_iload_n C dX0_passNumber_28 rfl rfl (q := 29) rfl ?_
        refine aw_bipush (v := 10) C dX0_passNumber_29 (by decide) (q := 31) rfl ?_
        refine aw_imul C dX0_passNumber_31 (q := 32) rfl ?_
        refine aw_aload_n C dX0_passNumber_32 rfl rfl (q := 33) rfl ?_
        refine cvX0_22_7 (As := []) (rest := [.int (v * 10)]) C B dX0_passNumber_33 fr1 (c_here7 G M.2.1 h1 d r u len at1 N f v3 v4 fr1 fu1 hlN hN (by omega) hf) rfl rfl (Nat.le_of_ble_eq_true rfl) (by omega) (by omega) (by omega) (q := 36) rfl (fun r9 h9 hr9 => ?_)
        obtain ⟨e9, er9⟩ := hr9
        subst er9; rw [e9]
        show aw G 3 M 36 [.ref r, .int v, .int (nI i)] [.int (cu_c f len at1), .int (v * 10)] h1 0 0
        refine aw_bipush (v := 48) C dX0_passNumber_36 (by decide) (q := 38) rfl ?_
        refine aw_isub C dX0_passNumber_38 (q := 39) rfl ?_
        refine aw_iadd C dX0_passNumber_39 (q := 40) rfl ?_
        refine aw_istore_n (ls' := [.ref r, .int ((v * 10) + ((cu_c f len at1) - 48)), .int (nI i)]) C dX0_passNumber_40 rfl (by decide) rfl (q := 41) rfl ?_
        refine aw_aload_n C dX0_passNumber_41 rfl rfl (q := 42) rfl ?_
        refine aw_dup C dX0_passNumber_42 rfl (q := 43) rfl ?_
        refine gfX0_15_7 (v := .int (nI at1)) C dX0_passNumber_43 fr1 rfl (q := 46) rfl ?_
        refine aw_iconst (v := 1) C dX0_passNumber_46 (by decide) (q := 47) rfl ?_
        refine aw_iadd C dX0_passNumber_47 (q := 48) rfl ?_
        rw [show nI at1 + 1 = nI (at1 + 1) from nI_1 _]
        refine pfX0_15_7 C dX0_passNumber_48 fr1 rfl rfl (Nat.le_of_ble_eq_true rfl) (q := 51) rfl ?_
        show aw G 3 M 51 [.ref r, .int ((v * 10) + ((cu_c f len at1) - 48)), .int (nI i)] [] (ac_up h1 r (.inr (7, [.ref u, .int (nI len), .int (nI (at1 + 1)), v3, v4]))) 0 0
        obtain ⟨h_1, eh_1⟩ : ∃ z, z = ac_up h1 r (.inr (7, [.ref u, .int (nI len), .int (nI (at1 + 1)), v3, v4])) := ⟨_, rfl⟩
        rw [← eh_1]
        have f_2 : h_1 u = some (.inl (0, N, .inl (f))) := by rw [eh_1, ac_up_n _ _ (ne_ai fu1 fr1)]; exact fu1
        have f_3 : h_1 r = some (.inr (7, [.ref u, .int (nI len), .int (nI (at1 + 1)), v3, v4])) := by rw [eh_1]; exact ac_up_s _ _ _
        have kp_4 : kp h h_1 [r] := by rw [eh_1]; exact kp_up kp1 _ _ (by simp)
        refine aw_iinc (v := nI (i + 1)) (ls' := [.ref r, .int ((v * 10) + ((cu_c f len at1) - 48)), .int (nI (i + 1))]) C dX0_passNumber_51 rfl (nI_1 i) (by decide) rfl (q := 54) rfl ?_
        refine aw_goto (q := 4) C dX0_passNumber_54 (by decide) ?_
        refine ih (i + 1) _ (at1 + 1) _ (by omega) (by omega) f_3 f_2 kp_4 ?_
        rw [← hR]
        show _ = cu_num f len (n + 1) at1 v
        conv => rhs; unfold cu_num
        rw [if_neg c_16, if_neg c_25]
set_option maxHeartbeats 4000000 in
set_option maxRecDepth 100000 in
theorem c_passNumber7 (G : ac_G) (l : Launch) (h : ac_H) (d : Nat) (r : Nat) (u len at_ N : Nat) (f : Nat → Int32) (v3 v4 : Value) (fr : h r = some (cu_ob 7 u len at_ v3 v4)) (fu : h u = some (.inl (0, N, .inl f))) (hlN : len ≤ N) (hN : N ≤ 400) (hat : at_ < 2000000) (hf : cu_ch f) : ac_Met G l yX0_passNumber cX0_passNumber 3 (some .int) (d + 1) 0 0 [.ref r] h (fun r9 h9 => r9 = some (.int (cu_num f len 6 at_ 0).1) ∧ h9 r = some (cu_ob 7 u len (cu_num f len 6 at_ 0).2 v3 v4) ∧ kp h h9 [r]) := by
  refine ac_of (ls := [.ref r, .retAddr 0, .retAddr 0]) (by decide +kernel) rfl (Nat.le_of_ble_eq_true rfl) (fun M hl C B E hnm => ?_)
  refine aw_iconst (v := 0) C dX0_passNumber_0 (by decide) (q := 1) rfl ?_
  refine aw_istore_n (ls' := [.ref r, .int 0, .retAddr 0]) C dX0_passNumber_1 rfl (by decide) rfl (q := 2) rfl ?_
  refine aw_iconst (v := 0) C dX0_passNumber_2 (by decide) (q := 3) rfl ?_
  refine aw_istore_n (ls' := [.ref r, .int 0, .int 0]) C dX0_passNumber_3 rfl (by decide) rfl (q := 4) rfl ?_
  exact lp_passNumber7 (R := cu_num f len 6 at_ 0) C B E hlN hN hf 6 0 0 at_ h rfl (by omega) fr fu (kp_cons r kp_rf) rfl
set_option maxHeartbeats 4000000 in
set_option maxRecDepth 100000 in
theorem lp_passPrefixes7 {G : ac_G} {M : ac_M} {h : ac_H} {d r u len N : Nat} {f : Nat → Int32} {v3 v4 : Value} {R : Bool × Nat} (C : ac_MC G RX0 cX0_passPrefixes 3 (some .boolean) M) (B : ac_Bd M (d + 2) 0 0) (E : ac_End G (fun r9 h9 => r9 = some (.int (pb_b (R.1 = true))) ∧ h9 r = some (cu_ob 7 u len R.2 v3 v4) ∧ kp h h9 [r]) 0 0 M) (hlN : len ≤ N) (hN : N ≤ 400) (hf : cu_ch f) :
    ∀ (n i : Nat) (at1 : Nat) (h1 : ac_H) (v2 : Value), i + n = 300 → at1 + 2 * n < 3000000 → h1 r = some (.inr (7, [.ref u, .int (nI len), .int (nI at1), v3, v4])) → h1 u = some (.inl (0, N, .inl f)) → kp h h1 [r] → cu_pre f len n at1 = R → aw G 3 M 2 [.ref r, .int (nI i), v2] [] h1 0 0 := by
  intro n
  induction n with
  | zero =>
    intro i at1 h1 v2 hi hat fr1 fu1 kp1 hR
    have hi6 : i = 300 := by omega
    subst hi6
    refine aw_iload_n C dX0_passPrefixes_2 rfl rfl (q := 3) rfl ?_
    refine aw_sipush (v := 300) C dX0_passPrefixes_3 (by decide) (q := 6) rfl ?_
    refine aw_icmp_ge (t := 69) (q := 9) C dX0_passPrefixes_6 (by decide) rfl (fun c_6 => ?_) (fun c_6 => absurd (show nI 300 ≤ nI 300 by decide) c_6)
    refine aw_iconst (v := 1) C dX0_passPrefixes_69 (by decide) (q := 70) rfl ?_
    refine aw_zret C E dX0_passPrefixes_70 (rfl) (Nat.le_refl _) (Nat.le_refl _) ?_
    have hR2 : R = (true, at1) := hR.symm
    exact ⟨by rw [hR2]; rfl, by rw [hR2]; exact fr1, kp1⟩
  | succ n ih =>
    intro i at1 h1 v2 hi hat fr1 fu1 kp1 hR
    refine aw_iload_n C dX0_passPrefixes_2 rfl rfl (q := 3) rfl ?_
    refine aw_sipush (v := 300) C dX0_passPrefixes_3 (by decide) (q := 6) rfl ?_
    refine aw_icmp_ge (t := 69) (q := 9) C dX0_passPrefixes_6 (by decide) rfl (fun c_6 => absurd c_6 (ni_nge i 300 rfl rfl (by omega) (by decide) (by omega))) (fun c_6 => ?_)
    refine aw_aload_n C dX0_passPrefixes_9 rfl rfl (q := 10) rfl ?_
    refine cvX0_22_7 (As := []) (rest := []) C B dX0_passPrefixes_10 fr1 (c_here7 G M.2.1 h1 d r u len at1 N f v3 v4 fr1 fu1 hlN hN (by omega) hf) rfl rfl (Nat.le_of_ble_eq_true rfl) (by omega) (by omega) (by omega) (q := 13) rfl (fun r9 h9 hr9 => ?_)
    obtain ⟨e9, er9⟩ := hr9
    subst er9; rw [e9]
    show aw G 3 M 13 [.ref r, .int (nI i), v2] [.int (cu_c f len at1)] h1 0 0
    refine aw_istore_n (ls' := [.ref r, .int (nI i), .int (cu_c f len at1)]) C dX0_passPrefixes_13 rfl (by decide) rfl (q := 14) rfl ?_
    refine aw_iload_n C dX0_passPrefixes_14 rfl rfl (q := 15) rfl ?_
    refine aw_bipush (v := 45) C dX0_passPrefixes_15 (by decide) (q := 17) rfl ?_
    refine aw_icmp_eq (t := 35) (q := 20) C dX0_passPrefixes_17 (by decide) rfl (fun c_17 => ?_) (fun c_17 => ?_)
    ·
      have hu9 : cu_c f len at1 = 45 ∨ cu_c f len at1 = 102 ∨ cu_c f len at1 = 99 := Or.inl c_17
      refine aw_aload_n C dX0_passPrefixes_35 rfl rfl (q := 36) rfl ?_
      refine aw_dup C dX0_passPrefixes_36 rfl (q := 37) rfl ?_
      refine gfX0_15_7 (v := .int (nI at1)) C dX0_passPrefixes_37 fr1 rfl (q := 40) rfl ?_
      refine aw_iconst (v := 1) C dX0_passPrefixes_40 (by decide) (q := 41) rfl ?_
      refine aw_iadd C dX0_passPrefixes_41 (q := 42) rfl ?_
      rw [show nI at1 + 1 = nI (at1 + 1) from nI_1 _]
      refine pfX0_15_7 C dX0_passPrefixes_42 fr1 rfl rfl (Nat.le_of_ble_eq_true rfl) (q := 45) rfl ?_
      show aw G 3 M 45 [.ref r, .int (nI i), .int (cu_c f len at1)] [] (ac_up h1 r (.inr (7, [.ref u, .int (nI len), .int (nI (at1 + 1)), v3, v4]))) 0 0
      obtain ⟨h_1, eh_1⟩ : ∃ z, z = ac_up h1 r (.inr (7, [.ref u, .int (nI len), .int (nI (at1 + 1)), v3, v4])) := ⟨_, rfl⟩
      rw [← eh_1]
      have f_2 : h_1 u = some (.inl (0, N, .inl (f))) := by rw [eh_1, ac_up_n _ _ (ne_ai fu1 fr1)]; exact fu1
      have f_3 : h_1 r = some (.inr (7, [.ref u, .int (nI len), .int (nI (at1 + 1)), v3, v4])) := by rw [eh_1]; exact ac_up_s _ _ _
      have kp_4 : kp h h_1 [r] := by rw [eh_1]; exact kp_up kp1 _ _ (by simp)
      refine aw_iload_n C dX0_passPrefixes_45 rfl rfl (q := 46) rfl ?_
      refine aw_bipush (v := 99) C dX0_passPrefixes_46 (by decide) (q := 48) rfl ?_
      refine aw_icmp_ne (t := 63) (q := 51) C dX0_passPrefixes_48 (by decide) rfl (fun c_48 => ?_) (fun c_48 => ?_)
      ·
        have hc9 : ¬ cu_c f len at1 = 99 := c_48
        refine aw_iinc (v := nI (i + 1)) (ls' := [.ref r, .int (nI (i + 1)), .int (cu_c f len at1)]) C dX0_passPrefixes_63 rfl (nI_1 i) (by decide) rfl (q := 66) rfl ?_
        refine aw_goto (q := 2) C dX0_passPrefixes_66 (by decide) ?_
        refine ih (i + 1) (at1 + 1) _ _ (by omega) (by omega) f_3 f_2 kp_4 ?_
        rw [← hR]
        show _ = cu_pre f len (n + 1) at1
        conv => rhs; unfold cu_pre
        rw [if_pos hu9, if_neg hc9]
      ·
        have hc9 : cu_c f len at1 = 99 := c_48
        refine aw_aload_n C dX0_passPrefixes_51 rfl rfl (q := 52) rfl ?_
        refine aw_bipush (v := 8) C dX0_passPrefixes_52 (by decide) (q := 54) rfl ?_
        refine cvX0_26_7 (As := [.int 8]) (rest := []) C B dX0_passPrefixes_54 f_3 (c_passDigit7 G M.2.1 h_1 d r u len (at1 + 1) N f v3 v4 8 f_3 f_2 hlN hN (by omega) hf) rfl rfl (Nat.le_of_ble_eq_true rfl) (by omega) (by omega) (by omega) (q := 57) rfl (fun r9 h_5 hr9 => ?_)
        obtain ⟨er9, fr9, kp9⟩ := hr9
        subst er9
        have fu9 : h_5 u = some (.inl (0, N, .inl f)) := kp9 _ _ f_2 (ni1 (ne_ai fu1 fr1) ni0)
        have kq9 : kp h h_5 [r] := kp_mono (kp_tr kp_4 kp9) (by simp)
        by_cases hd9 : cu_isd (cu_c f len (at1 + 1)) 8
        ·
          rw [if_pos hd9] at fr9
          rw [if_pos hd9]
          show aw G 3 M 57 [.ref r, .int (nI i), .int (cu_c f len at1)] [.int (cu_c f len (at1 + 1) - 48)] h_5 0 0
          refine aw_iconst (v := (-1)) C dX0_passPrefixes_57 (by decide) (q := 58) rfl ?_
          refine aw_icmp_ne (t := 63) (q := 61) C dX0_passPrefixes_58 (by decide) rfl (fun c_58 => ?_) (fun c_58 => absurd c_58 (fun z => cu_dn hd9 z))
          refine aw_iinc (v := nI (i + 1)) (ls' := [.ref r, .int (nI (i + 1)), .int (cu_c f len at1)]) C dX0_passPrefixes_63 rfl (nI_1 i) (by decide) rfl (q := 66) rfl ?_
          refine aw_goto (q := 2) C dX0_passPrefixes_66 (by decide) ?_
          refine ih (i + 1) (at1 + 1 + 1) _ _ (by omega) (by omega) fr9 fu9 kq9 ?_
          rw [← hR]
          show _ = cu_pre f len (n + 1) at1
          conv => rhs; unfold cu_pre
          rw [if_pos (Or.inr (Or.inr hc9)), if_pos hc9, if_pos hd9]
        ·
          rw [if_neg hd9] at fr9
          rw [if_neg hd9]
          show aw G 3 M 57 [.ref r, .int (nI i), .int (cu_c f len at1)] [.int ((-1))] h_5 0 0
          refine aw_iconst (v := (-1)) C dX0_passPrefixes_57 (by decide) (q := 58) rfl ?_
          refine aw_icmp_ne (t := 63) (q := 61) C dX0_passPrefixes_58 (by decide) rfl (fun c_58 => absurd c_58 (fun z => z rfl)) (fun c_58 => ?_)
          refine aw_iconst (v := 0) C dX0_passPrefixes_61 (by decide) (q := 62) rfl ?_
          refine aw_zret C E dX0_passPrefixes_62 (rfl) (Nat.le_refl _) (Nat.le_refl _) ?_
          have hR2 : R = (false, at1 + 1) := by rw [← hR]; unfold cu_pre; rw [if_pos (Or.inr (Or.inr hc9)), if_pos hc9, if_neg hd9]
          exact ⟨by rw [hR2]; rfl, by rw [hR2]; exact fr9, kq9⟩
    ·
      refine aw_iload_n C dX0_passPrefixes_20 rfl rfl (q := 21) rfl ?_
      refine aw_bipush (v := 102) C dX0_passPrefixes_21 (by decide) (q := 23) rfl ?_
      refine aw_icmp_eq (t := 35) (q := 26) C dX0_passPrefixes_23 (by decide) rfl (fun c_23 => ?_) (fun c_23 => ?_)
      ·
        have hu9 : cu_c f len at1 = 45 ∨ cu_c f len at1 = 102 ∨ cu_c f len at1 = 99 := Or.inr (Or.inl c_23)
        refine aw_aload_n C dX0_passPrefixes_35 rfl rfl (q := 36) rfl ?_
        refine aw_dup C dX0_passPrefixes_36 rfl (q := 37) rfl ?_
        refine gfX0_15_7 (v := .int (nI at1)) C dX0_passPrefixes_37 fr1 rfl (q := 40) rfl ?_
        refine aw_iconst (v := 1) C dX0_passPrefixes_40 (by decide) (q := 41) rfl ?_
        refine aw_iadd C dX0_passPrefixes_41 (q := 42) rfl ?_
        rw [show nI at1 + 1 = nI (at1 + 1) from nI_1 _]
        refine pfX0_15_7 C dX0_passPrefixes_42 fr1 rfl rfl (Nat.le_of_ble_eq_true rfl) (q := 45) rfl ?_
        show aw G 3 M 45 [.ref r, .int (nI i), .int (cu_c f len at1)] [] (ac_up h1 r (.inr (7, [.ref u, .int (nI len), .int (nI (at1 + 1)), v3, v4]))) 0 0
        obtain ⟨h_6, eh_6⟩ : ∃ z, z = ac_up h1 r (.inr (7, [.ref u, .int (nI len), .int (nI (at1 + 1)), v3, v4])) := ⟨_, rfl⟩
        rw [← eh_6]
        have f_7 : h_6 u = some (.inl (0, N, .inl (f))) := by rw [eh_6, ac_up_n _ _ (ne_ai fu1 fr1)]; exact fu1
        have f_8 : h_6 r = some (.inr (7, [.ref u, .int (nI len), .int (nI (at1 + 1)), v3, v4])) := by rw [eh_6]; exact ac_up_s _ _ _
        have kp_9 : kp h h_6 [r] := by rw [eh_6]; exact kp_up kp1 _ _ (by simp)
        refine aw_iload_n C dX0_passPrefixes_45 rfl rfl (q := 46) rfl ?_
        refine aw_bipush (v := 99) C dX0_passPrefixes_46 (by decide) (q := 48) rfl ?_
        refine aw_icmp_ne (t := 63) (q := 51) C dX0_passPrefixes_48 (by decide) rfl (fun c_48 => ?_) (fun c_48 => ?_)
        ·
          have hc9 : ¬ cu_c f len at1 = 99 := c_48
          refine aw_iinc (v := nI (i + 1)) (ls' := [.ref r, .int (nI (i + 1)), .int (cu_c f len at1)]) C dX0_passPrefixes_63 rfl (nI_1 i) (by decide) rfl (q := 66) rfl ?_
          refine aw_goto (q := 2) C dX0_passPrefixes_66 (by decide) ?_
          refine ih (i + 1) (at1 + 1) _ _ (by omega) (by omega) f_8 f_7 kp_9 ?_
          rw [← hR]
          show _ = cu_pre f len (n + 1) at1
          conv => rhs; unfold cu_pre
          rw [if_pos hu9, if_neg hc9]
        ·
          have hc9 : cu_c f len at1 = 99 := c_48
          refine aw_aload_n C dX0_passPrefixes_51 rfl rfl (q := 52) rfl ?_
          refine aw_bipush (v := 8) C dX0_passPrefixes_52 (by decide) (q := 54) rfl ?_
          refine cvX0_26_7 (As := [.int 8]) (rest := []) C B dX0_passPrefixes_54 f_8 (c_passDigit7 G M.2.1 h_6 d r u len (at1 + 1) N f v3 v4 8 f_8 f_7 hlN hN (by omega) hf) rfl rfl (Nat.le_of_ble_eq_true rfl) (by omega) (by omega) (by omega) (q := 57) rfl (fun r9 h_10 hr9 => ?_)
          obtain ⟨er9, fr9, kp9⟩ := hr9
          subst er9
          have fu9 : h_10 u = some (.inl (0, N, .inl f)) := kp9 _ _ f_7 (ni1 (ne_ai fu1 fr1) ni0)
          have kq9 : kp h h_10 [r] := kp_mono (kp_tr kp_9 kp9) (by simp)
          by_cases hd9 : cu_isd (cu_c f len (at1 + 1)) 8
          ·
            rw [if_pos hd9] at fr9
            rw [if_pos hd9]
            show aw G 3 M 57 [.ref r, .int (nI i), .int (cu_c f len at1)] [.int (cu_c f len (at1 + 1) - 48)] h_10 0 0
            refine aw_iconst (v := (-1)) C dX0_passPrefixes_57 (by decide) (q := 58) rfl ?_
            refine aw_icmp_ne (t := 63) (q := 61) C dX0_passPrefixes_58 (by decide) rfl (fun c_58 => ?_) (fun c_58 => absurd c_58 (fun z => cu_dn hd9 z))
            refine aw_iinc (v := nI (i + 1)) (ls' := [.ref r, .int (nI (i + 1)), .int (cu_c f len at1)]) C dX0_passPrefixes_63 rfl (nI_1 i) (by decide) rfl (q := 66) rfl ?_
            refine aw_goto (q := 2) C dX0_passPrefixes_66 (by decide) ?_
            refine ih (i + 1) (at1 + 1 + 1) _ _ (by omega) (by omega) fr9 fu9 kq9 ?_
            rw [← hR]
            show _ = cu_pre f len (n + 1) at1
            conv => rhs; unfold cu_pre
            rw [if_pos (Or.inr (Or.inr hc9)), if_pos hc9, if_pos hd9]
          ·
            rw [if_neg hd9] at fr9
            rw [if_neg hd9]
            show aw G 3 M 57 [.ref r, .int (nI i), .int (cu_c f len at1)] [.int ((-1))] h_10 0 0
            refine aw_iconst (v := (-1)) C dX0_passPrefixes_57 (by decide) (q := 58) rfl ?_
            refine aw_icmp_ne (t := 63) (q := 61) C dX0_passPrefixes_58 (by decide) rfl (fun c_58 => absurd c_58 (fun z => z rfl)) (fun c_58 => ?_)
            refine aw_iconst (v := 0) C dX0_passPrefixes_61 (by decide) (q := 62) rfl ?_
            refine aw_zret C E dX0_passPrefixes_62 (rfl) (Nat.le_refl _) (Nat.le_refl _) ?_
            have hR2 : R = (false, at1 + 1) := by rw [← hR]; unfold cu_pre; rw [if_pos (Or.inr (Or.inr hc9)), if_pos hc9, if_neg hd9]
            exact ⟨by rw [hR2]; rfl, by rw [hR2]; exact fr9, kq9⟩
      ·
        refine aw_iload_n C dX0_passPrefixes_26 rfl rfl (q := 27) rfl ?_
        refine aw_bipush (v := 99) C dX0_passPrefixes_27 (by decide) (q := 29) rfl ?_
        refine aw_icmp_eq (t := 35) (q := 32) C dX0_passPrefixes_29 (by decide) rfl (fun c_29 => ?_) (fun c_29 => ?_)
        ·
          have hu9 : cu_c f len at1 = 45 ∨ cu_c f len at1 = 102 ∨ cu_c f len at1 = 99 := Or.inr (Or.inr c_29)
          refine aw_aload_n C dX0_passPrefixes_35 rfl rfl (q := 36) rfl ?_
          refine aw_dup C dX0_passPrefixes_36 rfl (q := 37) rfl ?_
          refine gfX0_15_7 (v := .int (nI at1)) C dX0_passPrefixes_37 fr1 rfl (q := 40) rfl ?_
          refine aw_iconst (v := 1) C dX0_passPrefixes_40 (by decide) (q := 41) rfl ?_
          refine aw_iadd C dX0_passPrefixes_41 (q := 42) rfl ?_
          rw [show nI at1 + 1 = nI (at1 + 1) from nI_1 _]
          refine pfX0_15_7 C dX0_passPrefixes_42 fr1 rfl rfl (Nat.le_of_ble_eq_true rfl) (q := 45) rfl ?_
          show aw G 3 M 45 [.ref r, .int (nI i), .int (cu_c f len at1)] [] (ac_up h1 r (.inr (7, [.ref u, .int (nI len), .int (nI (at1 + 1)), v3, v4]))) 0 0
          obtain ⟨h_11, eh_11⟩ : ∃ z, z = ac_up h1 r (.inr (7, [.ref u, .int (nI len), .int (nI (at1 + 1)), v3, v4])) := ⟨_, rfl⟩
          rw [← eh_11]
          have f_12 : h_11 u = some (.inl (0, N, .inl (f))) := by rw [eh_11, ac_up_n _ _ (ne_ai fu1 fr1)]; exact fu1
          have f_13 : h_11 r = some (.inr (7, [.ref u, .int (nI len), .int (nI (at1 + 1)), v3, v4])) := by rw [eh_11]; exact ac_up_s _ _ _
          have kp_14 : kp h h_11 [r] := by rw [eh_11]; exact kp_up kp1 _ _ (by simp)
          refine aw_iload_n C dX0_passPrefixes_45 rfl rfl (q := 46) rfl ?_
          refine aw_bipush (v := 99) C dX0_passPrefixes_46 (by decide) (q := 48) rfl ?_
          refine aw_icmp_ne (t := 63) (q := 51) C dX0_passPrefixes_48 (by decide) rfl (fun c_48 => ?_) (fun c_48 => ?_)
          ·
            have hc9 : ¬ cu_c f len at1 = 99 := c_48
            refine aw_iinc (v := nI (i + 1)) (ls' := [.ref r, .int (nI (i + 1)), .int (cu_c f len at1)]) C dX0_passPrefixes_63 rfl (nI_1 i) (by decide) rfl (q := 66) rfl ?_
            refine aw_goto (q := 2) C dX0_passPrefixes_66 (by decide) ?_
            refine ih (i + 1) (at1 + 1) _ _ (by omega) (by omega) f_13 f_12 kp_14 ?_
            rw [← hR]
            show _ = cu_pre f len (n + 1) at1
            conv => rhs; unfold cu_pre
            rw [if_pos hu9, if_neg hc9]
          ·
            have hc9 : cu_c f len at1 = 99 := c_48
            refine aw_aload_n C dX0_passPrefixes_51 rfl rfl (q := 52) rfl ?_
            refine aw_bipush (v := 8) C dX0_passPrefixes_52 (by decide) (q := 54) rfl ?_
            refine cvX0_26_7 (As := [.int 8]) (rest := []) C B dX0_passPrefixes_54 f_13 (c_passDigit7 G M.2.1 h_11 d r u len (at1 + 1) N f v3 v4 8 f_13 f_12 hlN hN (by omega) hf) rfl rfl (Nat.le_of_ble_eq_true rfl) (by omega) (by omega) (by omega) (q := 57) rfl (fun r9 h_15 hr9 => ?_)
            obtain ⟨er9, fr9, kp9⟩ := hr9
            subst er9
            have fu9 : h_15 u = some (.inl (0, N, .inl f)) := kp9 _ _ f_12 (ni1 (ne_ai fu1 fr1) ni0)
            have kq9 : kp h h_15 [r] := kp_mono (kp_tr kp_14 kp9) (by simp)
            by_cases hd9 : cu_isd (cu_c f len (at1 + 1)) 8
            ·
              rw [if_pos hd9] at fr9
              rw [if_pos hd9]
              show aw G 3 M 57 [.ref r, .int (nI i), .int (cu_c f len at1)] [.int (cu_c f len (at1 + 1) - 48)] h_15 0 0
              refine aw_iconst (v := (-1)) C dX0_passPrefixes_57 (by decide) (q := 58) rfl ?_
              refine aw_icmp_ne (t := 63) (q := 61) C dX0_passPrefixes_58 (by decide) rfl (fun c_58 => ?_) (fun c_58 => absurd c_58 (fun z => cu_dn hd9 z))
              refine aw_iinc (v := nI (i + 1)) (ls' := [.ref r, .int (nI (i + 1)), .int (cu_c f len at1)]) C dX0_passPrefixes_63 rfl (nI_1 i) (by decide) rfl (q := 66) rfl ?_
              refine aw_goto (q := 2) C dX0_passPrefixes_66 (by decide) ?_
              refine ih (i + 1) (at1 + 1 + 1) _ _ (by omega) (by omega) fr9 fu9 kq9 ?_
              rw [← hR]
              show _ = cu_pre f len (n + 1) at1
              conv => rhs; unfold cu_pre
              rw [if_pos (Or.inr (Or.inr hc9)), if_pos hc9, if_pos hd9]
            ·
              rw [if_neg hd9] at fr9
              rw [if_neg hd9]
              show aw G 3 M 57 [.ref r, .int (nI i), .int (cu_c f len at1)] [.int ((-1))] h_15 0 0
              refine aw_iconst (v := (-1)) C dX0_passPrefixes_57 (by decide) (q := 58) rfl ?_
              refine aw_icmp_ne (t := 63) (q := 61) C dX0_passPrefixes_58 (by decide) rfl (fun c_58 => absurd c_58 (fun z => z rfl)) (fun c_58 => ?_)
              refine aw_iconst (v := 0) C dX0_passPrefixes_61 (by decide) (q := 62) rfl ?_
              refine aw_zret C E dX0_passPrefixes_62 (rfl) (Nat.le_refl _) (Nat.le_refl _) ?_
              have hR2 : R = (false, at1 + 1) := by rw [← hR]; unfold cu_pre; rw [if_pos (Or.inr (Or.inr hc9)), if_pos hc9, if_neg hd9]
              exact ⟨by rw [hR2]; rfl, by rw [hR2]; exact fr9, kq9⟩
        ·
          refine aw_goto (q := 69) C dX0_passPrefixes_32 (by decide) ?_
          refine aw_iconst (v := 1) C dX0_passPrefixes_69 (by decide) (q := 70) rfl ?_
          refine aw_zret C E dX0_passPrefixes_70 (rfl) (Nat.le_refl _) (Nat.le_refl _) ?_
          have hR2 : R = (true, at1) := by rw [← hR]; unfold cu_pre; rw [if_neg (by rintro (z | z | z); exact c_17 z; exact c_23 z; exact c_29 z)]
          exact ⟨by rw [hR2]; rfl, by rw [hR2]; exact fr1, kp1⟩
set_option maxHeartbeats 4000000 in
set_option maxRecDepth 100000 in
theorem c_passPrefixes7 (G : ac_G) (l : Launch) (h : ac_H) (d : Nat) (r : Nat) (u len at_ N : Nat) (f : Nat → Int32) (v3 v4 : Value) (fr : h r = some (cu_ob 7 u len at_ v3 v4)) (fu : h u = some (.inl (0, N, .inl f))) (hlN : len ≤ N) (hN : N ≤ 400) (hat : at_ < 2000000) (hf : cu_ch f) : ac_Met G l yX0_passPrefixes cX0_passPrefixes 3 (some .boolean) (d + 2) 0 0 [.ref r] h (fun r9 h9 => r9 = some (.int (pb_b ((cu_pre f len 300 at_).1 = true))) ∧ h9 r = some (cu_ob 7 u len (cu_pre f len 300 at_).2 v3 v4) ∧ kp h h9 [r]) := by
  refine ac_of (ls := [.ref r, .retAddr 0, .retAddr 0]) (by decide +kernel) rfl (Nat.le_of_ble_eq_true rfl) (fun M hl C B E hnm => ?_)
  refine aw_iconst (v := 0) C dX0_passPrefixes_0 (by decide) (q := 1) rfl ?_
  refine aw_istore_n (ls' := [.ref r, .int 0, .retAddr 0]) C dX0_passPrefixes_1 rfl (by decide) rfl (q := 2) rfl ?_
  exact lp_passPrefixes7 (R := cu_pre f len 300 at_) C B E hlN hN hf 300 0 at_ h _ rfl (by omega) fr fu (kp_cons r kp_rf) rfl
