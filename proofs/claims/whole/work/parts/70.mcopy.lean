/-! The reference: copy -/
/-- the first k of the W places of text fr, copied to those of text t -/
def mo_cpr (f : Nat → Int32) (W t fr k : Nat) : Nat → Int32 := fun i => if W * t ≤ i ∧ i < W * t + k then f (W * fr + (i - W * t)) else f i
theorem mo_cpr_0 (f : Nat → Int32) (W t fr : Nat) : mo_cpr f W t fr 0 = f := by
  funext i
  unfold mo_cpr; rw [if_neg (by omega)]
theorem mo_ap {W t fr : Nat} (h : ¬ t = fr) : W * t + W ≤ W * fr ∨ W * fr + W ≤ W * t := by
  rcases Nat.lt_or_gt_of_ne h with z | z
  · exact Or.inl (by have := Nat.mul_le_mul_left W (show t + 1 ≤ fr from z); rw [Nat.mul_add] at this; omega)
  · exact Or.inr (by have := Nat.mul_le_mul_left W (show fr + 1 ≤ t from z); rw [Nat.mul_add] at this; omega)
theorem mo_cpr_s (f : Nat → Int32) {W t fr k : Nat} (hk : k < W) (h : ¬ t = fr) : upd (mo_cpr f W t fr k) (W * t + k) (mo_cpr f W t fr k (W * fr + k)) = mo_cpr f W t fr (k + 1) := by
  have ha := mo_ap (W := W) h
  obtain ⟨x, hx⟩ : ∃ x, x = W * t := ⟨_, rfl⟩
  obtain ⟨y, hy⟩ : ∃ y, y = W * fr := ⟨_, rfl⟩
  rw [← hx, ← hy] at ha
  have e : mo_cpr f W t fr k (W * fr + k) = f (W * fr + k) := by
    unfold mo_cpr; rw [← hx, ← hy, if_neg (by omega)]
  rw [e]
  funext i
  unfold upd mo_cpr
  rw [← hx, ← hy]
  by_cases z : i = x + k
  · rw [if_pos z, if_pos (by omega), z, show y + (x + k - x) = y + k by omega]
  · rw [if_neg z]
    by_cases q : x ≤ i ∧ i < x + k
    · rw [if_pos q, if_pos (by omega)]
    · rw [if_neg q, if_neg (by omega)]
abbrev mo_CQ (o : Nat) (md : Nat → Nat) (h : ac_H) (s : md_S) (fr t : Nat) : Option Value → ac_H → Prop := fun r9 h9 => ∃ A : Nat → Nat → Int32, r9 = none ∧ md_ok h9 o md (s.1, A, s.2.2) ∧ A 5 = mo_cpr (s.2.1 5) 400 t fr 400 ∧ A 6 = mo_cpr (s.2.1 6) 400 t fr 400 ∧ A 9 = mo_cpr (s.2.1 9) 13 t fr 13 ∧ A 10 = mo_cpr (s.2.1 10) 13 t fr 13 ∧ A 7 = upd (s.2.1 7) t (s.2.1 7 fr) ∧ A 8 = upd (s.2.1 8) t (s.2.1 8 fr) ∧ (∀ j, j ∉ [5, 6, 7, 8, 9, 10] → A j = s.2.1 j) ∧ kp h h9 (md_L o md)
set_option maxHeartbeats 4000000 in
set_option maxRecDepth 100000 in
theorem ml_cp1 {G : ac_G} {M : ac_M} {o : Nat} {md : Nat → Nat} (hm : md_inj md) {h : ac_H} {s : md_S} {fr t : Nat} (hf : fr < 7) (ht : t < 7) (hne : ¬ t = fr) {B : Nat → Nat → Int32} (C : ac_MC G RX9 cX9_copy 4 none M)
    (kk : ∀ (h2 : ac_H) (A2 : Nat → Nat → Int32), md_ok h2 o md (s.1, A2, s.2.2) → kp h h2 (md_L o md) → A2 5 = mo_cpr (B 5) 400 t fr 400 → A2 6 = mo_cpr (B 6) 400 t fr 400 → (∀ j, j ∉ [5, 6] → A2 j = B j) → aw G 4 M 63 [.ref o, .int (nI fr), .int (nI t), .int (nI 400)] [] h2 0 0) :
    ∀ (m k : Nat) (h1 : ac_H) (A1 : Nat → Nat → Int32), k + m = 400 → md_ok h1 o md (s.1, A1, s.2.2) → kp h h1 (md_L o md) → A1 5 = mo_cpr (B 5) 400 t fr k → A1 6 = mo_cpr (B 6) 400 t fr k → (∀ j, j ∉ [5, 6] → A1 j = B j) → aw G 4 M 2 [.ref o, .int (nI fr), .int (nI t), .int (nI k)] [] h1 0 0 := by
  intro m
  induction m with
  | zero =>
    intro k h1 A1 hk K1 kq1 e1 e2 e3
    have hk2 : k = 400 := by omega
    subst hk2
    refine aw_iload_n C dX9_copy_2 rfl rfl (q := 3) rfl ?_
    refine aw_sipush (v := 400) C dX9_copy_3 (by decide) (q := 6) rfl ?_
    refine aw_icmp_ge (t := 63) (q := 9) C dX9_copy_6 (by decide) rfl (fun c_6 => ?_) (fun c_6 => absurd c_6 (fun z => z (nI_le (Nat.le_refl _) (by decide))))
    exact kk h1 A1 K1 kq1 e1 e2 e3
  | succ m ih =>
    intro k h1 A1 hk K1 kq1 e1 e2 e3
    refine aw_iload_n C dX9_copy_2 rfl rfl (q := 3) rfl ?_
    refine aw_sipush (v := 400) C dX9_copy_3 (by decide) (q := 6) rfl ?_
    refine aw_icmp_ge (t := 63) (q := 9) C dX9_copy_6 (by decide) rfl (fun c_6 => absurd c_6 (ni_nge k 400 rfl rfl (by omega) (by decide) (by omega))) (fun c_6 => ?_)
    refine aw_aload_n C dX9_copy_9 rfl rfl (q := 10) rfl ?_
    refine gfX9_13_9 (v := .ref (md 5)) C dX9_copy_10 K1.1 rfl (q := 13) rfl ?_
    refine aw_sipush (v := 400) C dX9_copy_13 (by decide) (q := 16) rfl ?_
    refine aw_iload_n C dX9_copy_16 rfl rfl (q := 17) rfl ?_
    refine aw_imul C dX9_copy_17 (q := 18) rfl ?_
    refine aw_iload_n C dX9_copy_18 rfl rfl (q := 19) rfl ?_
    refine aw_iadd C dX9_copy_19 (q := 20) rfl ?_
    refine aw_aload_n C dX9_copy_20 rfl rfl (q := 21) rfl ?_
    refine gfX9_13_9 (v := .ref (md 5)) C dX9_copy_21 K1.1 rfl (q := 24) rfl ?_
    refine aw_sipush (v := 400) C dX9_copy_24 (by decide) (q := 27) rfl ?_
    refine aw_iload_n C dX9_copy_27 rfl rfl (q := 28) rfl ?_
    refine aw_imul C dX9_copy_28 (q := 29) rfl ?_
    refine aw_iload_n C dX9_copy_29 rfl rfl (q := 30) rfl ?_
    refine aw_iadd C dX9_copy_30 (q := 31) rfl ?_
    refine ay_iald (N := 2800) (f := A1 5) (j := 400 * fr + k) C dX9_copy_31 (K1.2.1 5 (by decide)) (by rw [show (400 : Int32) = nI 400 from rfl, nI_ix]; exact vp_in_nI (by omega) (by decide)) (by rw [show (400 : Int32) = nI 400 from rfl, nI_ix]; exact nI_clamp (by omega)) (q := 32) rfl ?_
    refine ay_iast (N := 2800) (f := A1 5) (j := 400 * t + k) C dX9_copy_32 (K1.2.1 5 (by decide)) (by rw [show (400 : Int32) = nI 400 from rfl, nI_ix]; exact vp_in_nI (by omega) (by decide)) (by rw [show (400 : Int32) = nI 400 from rfl, nI_ix]; exact nI_clamp (by omega)) (q := 33) rfl ?_
    show aw G 4 M 33 [.ref o, .int (nI fr), .int (nI t), .int (nI k)] [] (ac_up h1 (md 5) (.inl (1, 2800, .inl (upd (A1 5) (400 * t + k) ((A1 5) (400 * fr + k)))))) 0 0
    obtain ⟨h_1, eh_1⟩ : ∃ z9, z9 = ac_up h1 (md 5) (.inl (1, 2800, .inl (upd (A1 5) (400 * t + k) ((A1 5) (400 * fr + k))))) := ⟨_, rfl⟩
    rw [← eh_1]
    have kpx_4 : kp h1 h_1 [md 5] := by rw [eh_1]; exact kp_up (kp_cons _ kp_rf) _ _ (by simp)
    have K_2 : md_ok h_1 o md (s.1, va_up A1 5 (upd (A1 5) (400 * t + k) ((A1 5) (400 * fr + k))), s.2.2) := md_A (s := (s.1, A1, s.2.2)) hm K1 (j := 5) (by decide) (by rw [eh_1]; exact ac_up_s _ _ _) kpx_4
    have kq_3 : kp h h_1 (md_L o md) := kp_in kq1 kpx_4 (md_sj (by decide))
    refine aw_aload_n C dX9_copy_33 rfl rfl (q := 34) rfl ?_
    refine gfX9_16_9 (v := .ref (md 6)) C dX9_copy_34 K_2.1 rfl (q := 37) rfl ?_
    refine aw_sipush (v := 400) C dX9_copy_37 (by decide) (q := 40) rfl ?_
    refine aw_iload_n C dX9_copy_40 rfl rfl (q := 41) rfl ?_
    refine aw_imul C dX9_copy_41 (q := 42) rfl ?_
    refine aw_iload_n C dX9_copy_42 rfl rfl (q := 43) rfl ?_
    refine aw_iadd C dX9_copy_43 (q := 44) rfl ?_
    refine aw_aload_n C dX9_copy_44 rfl rfl (q := 45) rfl ?_
    refine gfX9_16_9 (v := .ref (md 6)) C dX9_copy_45 K_2.1 rfl (q := 48) rfl ?_
    refine aw_sipush (v := 400) C dX9_copy_48 (by decide) (q := 51) rfl ?_
    refine aw_iload_n C dX9_copy_51 rfl rfl (q := 52) rfl ?_
    refine aw_imul C dX9_copy_52 (q := 53) rfl ?_
    refine aw_iload_n C dX9_copy_53 rfl rfl (q := 54) rfl ?_
    refine aw_iadd C dX9_copy_54 (q := 55) rfl ?_
    refine ay_iald (N := 2800) (f := A1 6) (j := 400 * fr + k) C dX9_copy_55 (K_2.2.1 6 (by decide)) (by rw [show (400 : Int32) = nI 400 from rfl, nI_ix]; exact vp_in_nI (by omega) (by decide)) (by rw [show (400 : Int32) = nI 400 from rfl, nI_ix]; exact nI_clamp (by omega)) (q := 56) rfl ?_
    refine ay_iast (N := 2800) (f := A1 6) (j := 400 * t + k) C dX9_copy_56 (K_2.2.1 6 (by decide)) (by rw [show (400 : Int32) = nI 400 from rfl, nI_ix]; exact vp_in_nI (by omega) (by decide)) (by rw [show (400 : Int32) = nI 400 from rfl, nI_ix]; exact nI_clamp (by omega)) (q := 57) rfl ?_
    show aw G 4 M 57 [.ref o, .int (nI fr), .int (nI t), .int (nI k)] [] (ac_up h_1 (md 6) (.inl (1, 2800, .inl (upd (A1 6) (400 * t + k) ((A1 6) (400 * fr + k)))))) 0 0
    obtain ⟨h_5, eh_5⟩ : ∃ z9, z9 = ac_up h_1 (md 6) (.inl (1, 2800, .inl (upd (A1 6) (400 * t + k) ((A1 6) (400 * fr + k))))) := ⟨_, rfl⟩
    rw [← eh_5]
    have kpx_8 : kp h_1 h_5 [md 6] := by rw [eh_5]; exact kp_up (kp_cons _ kp_rf) _ _ (by simp)
    have K_6 : md_ok h_5 o md (s.1, va_up (va_up A1 5 (upd (A1 5) (400 * t + k) ((A1 5) (400 * fr + k)))) 6 (upd (A1 6) (400 * t + k) ((A1 6) (400 * fr + k))), s.2.2) := md_A (s := (s.1, va_up A1 5 (upd (A1 5) (400 * t + k) ((A1 5) (400 * fr + k))), s.2.2)) hm K_2 (j := 6) (by decide) (by rw [eh_5]; exact ac_up_s _ _ _) kpx_8
    have kq_7 : kp h h_5 (md_L o md) := kp_in kq_3 kpx_8 (md_sj (by decide))
    refine aw_iinc (v := nI (k + 1)) (ls' := [.ref o, .int (nI fr), .int (nI t), .int (nI (k + 1))]) C dX9_copy_57 rfl (nI_1 k) (by decide) rfl (q := 60) rfl ?_
    refine aw_goto (q := 2) C dX9_copy_60 (by decide) ?_
    refine ih (k + 1) h_5 (va_up (va_up A1 5 (upd (A1 5) (400 * t + k) (A1 5 (400 * fr + k)))) 6 (upd (A1 6) (400 * t + k) (A1 6 (400 * fr + k)))) (by omega) K_6 kq_7 ?_ ?_ ?_
    · show upd (A1 5) (400 * t + k) (A1 5 (400 * fr + k)) = _
      rw [e1]; exact mo_cpr_s _ (by omega) hne
    · show upd (A1 6) (400 * t + k) (A1 6 (400 * fr + k)) = _
      rw [e2]; exact mo_cpr_s _ (by omega) hne
    · intro j hj
      show va_up (va_up A1 5 _) 6 _ j = _
      unfold va_up
      rw [if_neg (fun z => hj (by rw [z]; decide)), if_neg (fun z => hj (by rw [z]; decide))]
      exact e3 j hj
set_option maxHeartbeats 4000000 in
set_option maxRecDepth 100000 in
theorem ml_cp2 {G : ac_G} {M : ac_M} {o : Nat} {md : Nat → Nat} (hm : md_inj md) {h : ac_H} {s : md_S} {fr t : Nat} (hf : fr < 7) (ht : t < 7) (hne : ¬ t = fr) {B : Nat → Nat → Int32} (C : ac_MC G RX9 cX9_copy 4 none M)
    (kk : ∀ (h2 : ac_H) (A2 : Nat → Nat → Int32), md_ok h2 o md (s.1, A2, s.2.2) → kp h h2 (md_L o md) → A2 9 = mo_cpr (B 9) 13 t fr 13 → A2 10 = mo_cpr (B 10) 13 t fr 13 → (∀ j, j ∉ [9, 10] → A2 j = B j) → aw G 4 M 121 [.ref o, .int (nI fr), .int (nI t), .int (nI 13)] [] h2 0 0) :
    ∀ (m k : Nat) (h1 : ac_H) (A1 : Nat → Nat → Int32), k + m = 13 → md_ok h1 o md (s.1, A1, s.2.2) → kp h h1 (md_L o md) → A1 9 = mo_cpr (B 9) 13 t fr k → A1 10 = mo_cpr (B 10) 13 t fr k → (∀ j, j ∉ [9, 10] → A1 j = B j) → aw G 4 M 65 [.ref o, .int (nI fr), .int (nI t), .int (nI k)] [] h1 0 0 := by
  intro m
  induction m with
  | zero =>
    intro k h1 A1 hk K1 kq1 e1 e2 e3
    have hk2 : k = 13 := by omega
    subst hk2
    refine aw_iload_n C dX9_copy_65 rfl rfl (q := 66) rfl ?_
    refine aw_bipush (v := 13) C dX9_copy_66 (by decide) (q := 68) rfl ?_
    refine aw_icmp_ge (t := 121) (q := 71) C dX9_copy_68 (by decide) rfl (fun c_68 => ?_) (fun c_68 => absurd c_68 (fun z => z (nI_le (Nat.le_refl _) (by decide))))
    exact kk h1 A1 K1 kq1 e1 e2 e3
  | succ m ih =>
    intro k h1 A1 hk K1 kq1 e1 e2 e3
    refine aw_iload_n C dX9_copy_65 rfl rfl (q := 66) rfl ?_
    refine aw_bipush (v := 13) C dX9_copy_66 (by decide) (q := 68) rfl ?_
    refine aw_icmp_ge (t := 121) (q := 71) C dX9_copy_68 (by decide) rfl (fun c_68 => absurd c_68 (ni_nge k 13 rfl rfl (by omega) (by decide) (by omega))) (fun c_68 => ?_)
    refine aw_aload_n C dX9_copy_71 rfl rfl (q := 72) rfl ?_
    refine gfX9_25_9 (v := .ref (md 9)) C dX9_copy_72 K1.1 rfl (q := 75) rfl ?_
    refine aw_bipush (v := 13) C dX9_copy_75 (by decide) (q := 77) rfl ?_
    refine aw_iload_n C dX9_copy_77 rfl rfl (q := 78) rfl ?_
    refine aw_imul C dX9_copy_78 (q := 79) rfl ?_
    refine aw_iload_n C dX9_copy_79 rfl rfl (q := 80) rfl ?_
    refine aw_iadd C dX9_copy_80 (q := 81) rfl ?_
    refine aw_aload_n C dX9_copy_81 rfl rfl (q := 82) rfl ?_
    refine gfX9_25_9 (v := .ref (md 9)) C dX9_copy_82 K1.1 rfl (q := 85) rfl ?_
    refine aw_bipush (v := 13) C dX9_copy_85 (by decide) (q := 87) rfl ?_
    refine aw_iload_n C dX9_copy_87 rfl rfl (q := 88) rfl ?_
    refine aw_imul C dX9_copy_88 (q := 89) rfl ?_
    refine aw_iload_n C dX9_copy_89 rfl rfl (q := 90) rfl ?_
    refine aw_iadd C dX9_copy_90 (q := 91) rfl ?_
    refine ay_iald (N := 91) (f := A1 9) (j := 13 * fr + k) C dX9_copy_91 (K1.2.1 9 (by decide)) (by rw [show (13 : Int32) = nI 13 from rfl, nI_ix]; exact vp_in_nI (by omega) (by decide)) (by rw [show (13 : Int32) = nI 13 from rfl, nI_ix]; exact nI_clamp (by omega)) (q := 92) rfl ?_
    refine ay_iast (N := 91) (f := A1 9) (j := 13 * t + k) C dX9_copy_92 (K1.2.1 9 (by decide)) (by rw [show (13 : Int32) = nI 13 from rfl, nI_ix]; exact vp_in_nI (by omega) (by decide)) (by rw [show (13 : Int32) = nI 13 from rfl, nI_ix]; exact nI_clamp (by omega)) (q := 93) rfl ?_
    show aw G 4 M 93 [.ref o, .int (nI fr), .int (nI t), .int (nI k)] [] (ac_up h1 (md 9) (.inl (1, 91, .inl (upd (A1 9) (13 * t + k) ((A1 9) (13 * fr + k)))))) 0 0
    obtain ⟨h_1, eh_1⟩ : ∃ z9, z9 = ac_up h1 (md 9) (.inl (1, 91, .inl (upd (A1 9) (13 * t + k) ((A1 9) (13 * fr + k))))) := ⟨_, rfl⟩
    rw [← eh_1]
    have kpx_4 : kp h1 h_1 [md 9] := by rw [eh_1]; exact kp_up (kp_cons _ kp_rf) _ _ (by simp)
    have K_2 : md_ok h_1 o md (s.1, va_up A1 9 (upd (A1 9) (13 * t + k) ((A1 9) (13 * fr + k))), s.2.2) := md_A (s := (s.1, A1, s.2.2)) hm K1 (j := 9) (by decide) (by rw [eh_1]; exact ac_up_s _ _ _) kpx_4
    have kq_3 : kp h h_1 (md_L o md) := kp_in kq1 kpx_4 (md_sj (by decide))
    refine aw_aload_n C dX9_copy_93 rfl rfl (q := 94) rfl ?_
    refine gfX9_28_9 (v := .ref (md 10)) C dX9_copy_94 K_2.1 rfl (q := 97) rfl ?_
    refine aw_bipush (v := 13) C dX9_copy_97 (by decide) (q := 99) rfl ?_
    refine aw_iload_n C dX9_copy_99 rfl rfl (q := 100) rfl ?_
    refine aw_imul C dX9_copy_100 (q := 101) rfl ?_
    refine aw_iload_n C dX9_copy_101 rfl rfl (q := 102) rfl ?_
    refine aw_iadd C dX9_copy_102 (q := 103) rfl ?_
    refine aw_aload_n C dX9_copy_103 rfl rfl (q := 104) rfl ?_
    refine gfX9_28_9 (v := .ref (md 10)) C dX9_copy_104 K_2.1 rfl (q := 107) rfl ?_
    refine aw_bipush (v := 13) C dX9_copy_107 (by decide) (q := 109) rfl ?_
    refine aw_iload_n C dX9_copy_109 rfl rfl (q := 110) rfl ?_
    refine aw_imul C dX9_copy_110 (q := 111) rfl ?_
    refine aw_iload_n C dX9_copy_111 rfl rfl (q := 112) rfl ?_
    refine aw_iadd C dX9_copy_112 (q := 113) rfl ?_
    refine ay_iald (N := 91) (f := A1 10) (j := 13 * fr + k) C dX9_copy_113 (K_2.2.1 10 (by decide)) (by rw [show (13 : Int32) = nI 13 from rfl, nI_ix]; exact vp_in_nI (by omega) (by decide)) (by rw [show (13 : Int32) = nI 13 from rfl, nI_ix]; exact nI_clamp (by omega)) (q := 114) rfl ?_
    refine ay_iast (N := 91) (f := A1 10) (j := 13 * t + k) C dX9_copy_114 (K_2.2.1 10 (by decide)) (by rw [show (13 : Int32) = nI 13 from rfl, nI_ix]; exact vp_in_nI (by omega) (by decide)) (by rw [show (13 : Int32) = nI 13 from rfl, nI_ix]; exact nI_clamp (by omega)) (q := 115) rfl ?_
    show aw G 4 M 115 [.ref o, .int (nI fr), .int (nI t), .int (nI k)] [] (ac_up h_1 (md 10) (.inl (1, 91, .inl (upd (A1 10) (13 * t + k) ((A1 10) (13 * fr + k)))))) 0 0
    obtain ⟨h_5, eh_5⟩ : ∃ z9, z9 = ac_up h_1 (md 10) (.inl (1, 91, .inl (upd (A1 10) (13 * t + k) ((A1 10) (13 * fr + k))))) := ⟨_, rfl⟩
    rw [← eh_5]
    have kpx_8 : kp h_1 h_5 [md 10] := by rw [eh_5]; exact kp_up (kp_cons _ kp_rf) _ _ (by simp)
    have K_6 : md_ok h_5 o md (s.1, va_up (va_up A1 9 (upd (A1 9) (13 * t + k) ((A1 9) (13 * fr + k)))) 10 (upd (A1 10) (13 * t + k) ((A1 10) (13 * fr + k))), s.2.2) := md_A (s := (s.1, va_up A1 9 (upd (A1 9) (13 * t + k) ((A1 9) (13 * fr + k))), s.2.2)) hm K_2 (j := 10) (by decide) (by rw [eh_5]; exact ac_up_s _ _ _) kpx_8
    have kq_7 : kp h h_5 (md_L o md) := kp_in kq_3 kpx_8 (md_sj (by decide))
    refine aw_iinc (v := nI (k + 1)) (ls' := [.ref o, .int (nI fr), .int (nI t), .int (nI (k + 1))]) C dX9_copy_115 rfl (nI_1 k) (by decide) rfl (q := 118) rfl ?_
    refine aw_goto (q := 65) C dX9_copy_118 (by decide) ?_
    refine ih (k + 1) h_5 (va_up (va_up A1 9 (upd (A1 9) (13 * t + k) (A1 9 (13 * fr + k)))) 10 (upd (A1 10) (13 * t + k) (A1 10 (13 * fr + k)))) (by omega) K_6 kq_7 ?_ ?_ ?_
    · show upd (A1 9) (13 * t + k) (A1 9 (13 * fr + k)) = _
      rw [e1]; exact mo_cpr_s _ (by omega) hne
    · show upd (A1 10) (13 * t + k) (A1 10 (13 * fr + k)) = _
      rw [e2]; exact mo_cpr_s _ (by omega) hne
    · intro j hj
      show va_up (va_up A1 9 _) 10 _ j = _
      unfold va_up
      rw [if_neg (fun z => hj (by rw [z]; decide)), if_neg (fun z => hj (by rw [z]; decide))]
      exact e3 j hj
set_option maxHeartbeats 4000000 in
set_option maxRecDepth 100000 in
theorem ml_cp3 {G : ac_G} {M : ac_M} {o : Nat} {md : Nat → Nat} (hm : md_inj md) {h : ac_H} {s : md_S} {fr t : Nat} (hf : fr < 7) (ht : t < 7) (hne : ¬ t = fr) {h1 : ac_H} {A1 : Nat → Nat → Int32} {v3 : Value} (C : ac_MC G RX9 cX9_copy 4 none M) (E : ac_End G (mo_CQ o md h s fr t) 0 0 M) (K1 : md_ok h1 o md (s.1, A1, s.2.2)) (kq1 : kp h h1 (md_L o md)) (e5 : A1 5 = mo_cpr (s.2.1 5) 400 t fr 400) (e6 : A1 6 = mo_cpr (s.2.1 6) 400 t fr 400) (e9 : A1 9 = mo_cpr (s.2.1 9) 13 t fr 13) (e10 : A1 10 = mo_cpr (s.2.1 10) 13 t fr 13) (e : ∀ j, j ∉ [5, 6, 9, 10] → A1 j = s.2.1 j) : aw G 4 M 121 [.ref o, .int (nI fr), .int (nI t), v3] [] h1 0 0 := by
  refine aw_aload_n C dX9_copy_121 rfl rfl (q := 122) rfl ?_
  refine gfX9_19_9 (v := .ref (md 7)) C dX9_copy_122 K1.1 rfl (q := 125) rfl ?_
  refine aw_iload_n C dX9_copy_125 rfl rfl (q := 126) rfl ?_
  refine aw_aload_n C dX9_copy_126 rfl rfl (q := 127) rfl ?_
  refine gfX9_19_9 (v := .ref (md 7)) C dX9_copy_127 K1.1 rfl (q := 130) rfl ?_
  refine aw_iload_n C dX9_copy_130 rfl rfl (q := 131) rfl ?_
  refine ay_iald (N := 7) (f := A1 7) (j := fr) C dX9_copy_131 (K1.2.1 7 (by decide)) (vp_in_nI (by omega) (by decide)) (nI_clamp (by omega)) (q := 132) rfl ?_
  refine ay_iast (N := 7) (f := A1 7) (j := t) C dX9_copy_132 (K1.2.1 7 (by decide)) (vp_in_nI (by omega) (by decide)) (nI_clamp (by omega)) (q := 133) rfl ?_
  show aw G 4 M 133 [.ref o, .int (nI fr), .int (nI t), v3] [] (ac_up h1 (md 7) (.inl (1, 7, .inl (upd (A1 7) t ((A1 7) fr))))) 0 0
  obtain ⟨h_1, eh_1⟩ : ∃ z9, z9 = ac_up h1 (md 7) (.inl (1, 7, .inl (upd (A1 7) t ((A1 7) fr)))) := ⟨_, rfl⟩
  rw [← eh_1]
  have kpx_4 : kp h1 h_1 [md 7] := by rw [eh_1]; exact kp_up (kp_cons _ kp_rf) _ _ (by simp)
  have K_2 : md_ok h_1 o md (s.1, va_up A1 7 (upd (A1 7) t ((A1 7) fr)), s.2.2) := md_A (s := (s.1, A1, s.2.2)) hm K1 (j := 7) (by decide) (by rw [eh_1]; exact ac_up_s _ _ _) kpx_4
  have kq_3 : kp h h_1 (md_L o md) := kp_in kq1 kpx_4 (md_sj (by decide))
  refine aw_aload_n C dX9_copy_133 rfl rfl (q := 134) rfl ?_
  refine gfX9_22_9 (v := .ref (md 8)) C dX9_copy_134 K_2.1 rfl (q := 137) rfl ?_
  refine aw_iload_n C dX9_copy_137 rfl rfl (q := 138) rfl ?_
  refine aw_aload_n C dX9_copy_138 rfl rfl (q := 139) rfl ?_
  refine gfX9_22_9 (v := .ref (md 8)) C dX9_copy_139 K_2.1 rfl (q := 142) rfl ?_
  refine aw_iload_n C dX9_copy_142 rfl rfl (q := 143) rfl ?_
  refine ay_iald (N := 7) (f := A1 8) (j := fr) C dX9_copy_143 (K_2.2.1 8 (by decide)) (vp_in_nI (by omega) (by decide)) (nI_clamp (by omega)) (q := 144) rfl ?_
  refine ay_iast (N := 7) (f := A1 8) (j := t) C dX9_copy_144 (K_2.2.1 8 (by decide)) (vp_in_nI (by omega) (by decide)) (nI_clamp (by omega)) (q := 145) rfl ?_
  show aw G 4 M 145 [.ref o, .int (nI fr), .int (nI t), v3] [] (ac_up h_1 (md 8) (.inl (1, 7, .inl (upd (A1 8) t ((A1 8) fr))))) 0 0
  obtain ⟨h_5, eh_5⟩ : ∃ z9, z9 = ac_up h_1 (md 8) (.inl (1, 7, .inl (upd (A1 8) t ((A1 8) fr)))) := ⟨_, rfl⟩
  rw [← eh_5]
  have kpx_8 : kp h_1 h_5 [md 8] := by rw [eh_5]; exact kp_up (kp_cons _ kp_rf) _ _ (by simp)
  have K_6 : md_ok h_5 o md (s.1, va_up (va_up A1 7 (upd (A1 7) t ((A1 7) fr))) 8 (upd (A1 8) t ((A1 8) fr)), s.2.2) := md_A (s := (s.1, va_up A1 7 (upd (A1 7) t ((A1 7) fr)), s.2.2)) hm K_2 (j := 8) (by decide) (by rw [eh_5]; exact ac_up_s _ _ _) kpx_8
  have kq_7 : kp h h_5 (md_L o md) := kp_in kq_3 kpx_8 (md_sj (by decide))
  refine aw_vret C E dX9_copy_145 (Nat.le_refl _) (Nat.le_refl _) ?_
  refine ⟨_, rfl, K_6, e5, e6, e9, e10, ?_, ?_, ?_, kq_7⟩
  · show upd (A1 7) t (A1 7 fr) = _
    rw [e 7 (by decide)]
  · show upd (A1 8) t (A1 8 fr) = _
    rw [e 8 (by decide)]
  · intro j hj
    show va_up (va_up A1 7 _) 8 _ j = _
    unfold va_up
    rw [if_neg (fun z => hj (by rw [z]; decide)), if_neg (fun z => hj (by rw [z]; decide))]
    exact e j (fun z => hj (by simp at z ⊢; omega))
set_option maxHeartbeats 4000000 in
set_option maxRecDepth 100000 in
theorem ml_cp0 {G : ac_G} {M : ac_M} {o : Nat} {md : Nat → Nat} (hm : md_inj md) {h : ac_H} {s : md_S} {fr t : Nat} (hf : fr < 7) (ht : t < 7) (hne : ¬ t = fr) {h1 : ac_H} {A1 : Nat → Nat → Int32} {v3 : Value} (C : ac_MC G RX9 cX9_copy 4 none M) (E : ac_End G (mo_CQ o md h s fr t) 0 0 M) (K1 : md_ok h1 o md (s.1, A1, s.2.2)) (kq1 : kp h h1 (md_L o md)) (e5 : A1 5 = mo_cpr (s.2.1 5) 400 t fr 400) (e6 : A1 6 = mo_cpr (s.2.1 6) 400 t fr 400) (e : ∀ j, j ∉ [5, 6] → A1 j = s.2.1 j) : aw G 4 M 63 [.ref o, .int (nI fr), .int (nI t), v3] [] h1 0 0 := by
  refine aw_iconst (v := 0) C dX9_copy_63 (by decide) (q := 64) rfl ?_
  refine aw_istore_n (ls' := [.ref o, .int (nI fr), .int (nI t), .int 0]) C dX9_copy_64 rfl (by decide) rfl (q := 65) rfl ?_
  refine ml_cp2 hm hf ht hne C (B := A1) (fun h2 A2 K2 kq2 q9 q10 q => ?_) 13 0 h1 A1 rfl K1 kq1 (mo_cpr_0 _ _ _ _).symm (mo_cpr_0 _ _ _ _).symm (fun _ _ => rfl)
  exact ml_cp3 hm hf ht hne C E K2 kq2 ((q 5 (by decide)).trans e5) ((q 6 (by decide)).trans e6) (by rw [q9, e 9 (by decide)]) (by rw [q10, e 10 (by decide)]) (fun j hj => (q j (fun z => hj (by simp at z ⊢; omega))).trans (e j (fun z => hj (by simp at z ⊢; omega))))
set_option maxHeartbeats 4000000 in
set_option maxRecDepth 100000 in
theorem m_copy (G : ac_G) (l : Launch) (o : Nat) (md : Nat → Nat) (hm : md_inj md) (h : ac_H) (d : Nat) (s : md_S) (K : md_ok h o md s) (fr t : Nat) (hf : fr < 7) (ht : t < 7) (hne : ¬ t = fr) : ac_Met G l yX9_copy cX9_copy 4 none d 0 0 [.ref o, .int (nI fr), .int (nI t)] h (mo_CQ o md h s fr t) := by
  refine ac_of (ls := [.ref o, .int (nI fr), .int (nI t), .retAddr 0]) (by decide +kernel) rfl (Nat.le_of_ble_eq_true rfl) (fun M hl C B E hnm => ?_)
  refine aw_iconst (v := 0) C dX9_copy_0 (by decide) (q := 1) rfl ?_
  refine aw_istore_n (ls' := [.ref o, .int (nI fr), .int (nI t), .int 0]) C dX9_copy_1 rfl (by decide) rfl (q := 2) rfl ?_
  refine ml_cp1 hm hf ht hne C (B := s.2.1) (fun h2 A2 K2 kq2 q5 q6 q => ?_) 400 0 h s.2.1 rfl K (kp_mono kp_rf (by simp)) (mo_cpr_0 _ _ _ _).symm (mo_cpr_0 _ _ _ _).symm (fun _ _ => rfl)
  exact ml_cp0 hm hf ht hne C E K2 kq2 q5 q6 q
