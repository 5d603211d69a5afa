/-! Reader: class 3, at r: units u (300), length, at, dropped dr (300), rules rd. A state: the place, dropped, the rules -/
abbrev rs_S : Type := Nat × (Nat → Int32) × ru_D
def rs_ok (h : ac_H) (r u dr : Nat) (rd : Nat → Nat) (f : Nat → Int32) (len : Nat) (s : rs_S) : Prop := h r = some (cu_ob 3 u len s.1 (.ref dr) (.ref (rd 0))) ∧ h u = some (.inl (0, 300, .inl f)) ∧ h dr = some (.inl (3, 300, .inl s.2.1)) ∧ ru_ok h rd s.2.2 ∧ s.1 ≤ len ∧ ru_bd s.2.2
abbrev rs_L (r dr : Nat) (rd : Nat → Nat) : List Nat := [r, dr, rd 0, rd 1, rd 2, rd 3, rd 4]
theorem kp_in {h h1 h2 : ac_H} {L L' : List Nat} (k : kp h h1 L) (k' : kp h1 h2 L') (hs : ∀ a ∈ L', a ∈ L) : kp h h2 L := fun a e z1 z2 => k' a e (k a e z1 z2) (fun z => z2 (hs a z))
theorem rs_s1 {r dr : Nat} {rd : Nat → Nat} : ∀ a ∈ [r], a ∈ rs_L r dr rd := by simp
theorem rs_s2 {r dr : Nat} {rd : Nat → Nat} : ∀ a ∈ [dr], a ∈ rs_L r dr rd := by simp
theorem rs_s3 {r dr : Nat} {rd : Nat → Nat} : ∀ a ∈ [rd 0, rd 2, rd 3, rd 4], a ∈ rs_L r dr rd := by simp
theorem rs_s4 {r dr : Nat} {rd : Nat → Nat} : ∀ a ∈ [rd 0, rd 1, rd 2], a ∈ rs_L r dr rd := by simp
theorem rs_s5 {rd : Nat → Nat} : ∀ a ∈ [rd 0, rd 2, rd 3, rd 4], a ∈ [rd 0, rd 1, rd 2, rd 3, rd 4] := by simp
theorem rs_s6 {rd : Nat → Nat} : ∀ a ∈ [rd 0, rd 1, rd 2], a ∈ [rd 0, rd 1, rd 2, rd 3, rd 4] := by simp
section
variable {h h9 : ac_H} {r u dr : Nat} {rd : Nat → Nat} {f : Nat → Int32} {len : Nat} {s : rs_S}
theorem ru_kpx {T : ru_D} {x : Nat} {e : ac_E} (U : ru_ok h rd T) (hx : h x = some e) (kq : kp h h9 [x]) (n0 : e ≠ ru_ob rd (ru_cnt T) (ru_sc T)) (n1 : ∀ n g, e ≠ .inl (1, n, g)) (n5 : ∀ n g, e ≠ .inl (0, n, g)) : ru_ok h9 rd T := by
  obtain ⟨u0, u1, u2, u3, u4, u5⟩ := U
  exact ⟨kq _ _ u0 (ni1 (ne_of u0 hx (Ne.symm n0)) ni0), kq _ _ u1 (ni1 (ne_of u1 hx (Ne.symm (n1 _ _))) ni0), kq _ _ u2 (ni1 (ne_of u2 hx (Ne.symm (n1 _ _))) ni0), kq _ _ u3 (ni1 (ne_of u3 hx (Ne.symm (n1 _ _))) ni0), kq _ _ u4 (ni1 (ne_of u4 hx (Ne.symm (n1 _ _))) ni0), kq _ _ u5 (ni1 (ne_of u5 hx (Ne.symm (n5 _ _))) ni0)⟩
theorem rs_at {a : Nat} (K : rs_ok h r u dr rd f len s) (hr : h9 r = some (cu_ob 3 u len a (.ref dr) (.ref (rd 0)))) (kq : kp h h9 [r]) (ha : a ≤ len) : rs_ok h9 r u dr rd f len (a, s.2.1, s.2.2) := by
  obtain ⟨k1, k2, k3, k4, k5, k6⟩ := K
  exact ⟨hr, kq _ _ k2 (ni1 (ne_ai k2 k1) ni0), kq _ _ k3 (ni1 (ne_ai k3 k1) ni0), ru_kpx k4 k1 kq (fun z => by cases z) (fun _ _ z => by cases z) (fun _ _ z => by cases z), ha, k6⟩
theorem rs_dr {D : Nat → Int32} (K : rs_ok h r u dr rd f len s) (hd : h9 dr = some (.inl (3, 300, .inl D))) (kq : kp h h9 [dr]) : rs_ok h9 r u dr rd f len (s.1, D, s.2.2) := by
  obtain ⟨k1, k2, k3, k4, k5, k6⟩ := K
  exact ⟨kq _ _ k1 (ni1 (Ne.symm (ne_ai k3 k1)) ni0), kq _ _ k2 (ni1 (ne_of k2 k3 (fun z => by cases z)) ni0), hd, ru_kpx k4 k3 kq (fun z => by cases z) (fun _ _ z => by cases z) (fun _ _ z => by cases z), k5, k6⟩
theorem rs_ru {T : ru_D} (K : rs_ok h r u dr rd f len s) (U : ru_ok h9 rd T) (kq : kp h h9 [rd 0, rd 1, rd 2, rd 3, rd 4]) (hb : ru_bd T) : rs_ok h9 r u dr rd f len (s.1, s.2.1, T) := by
  obtain ⟨k1, k2, k3, ⟨u0, u1, u2, u3, u4, u5⟩, k5, k6⟩ := K
  refine ⟨kq _ _ k1 (ni1 (ne_of k1 u0 (fun z => by cases z)) (ni1 (Ne.symm (ne_ai u1 k1)) (ni1 (Ne.symm (ne_ai u2 k1)) (ni1 (Ne.symm (ne_ai u3 k1)) (ni1 (Ne.symm (ne_ai u4 k1)) ni0))))), ?_, ?_, U, k5, hb⟩
  · exact kq _ _ k2 (ni1 (ne_ai k2 u0) (ni1 (ne_of k2 u1 (fun z => by cases z)) (ni1 (ne_of k2 u2 (fun z => by cases z)) (ni1 (ne_of k2 u3 (fun z => by cases z)) (ni1 (ne_of k2 u4 (fun z => by cases z)) ni0)))))
  · exact kq _ _ k3 (ni1 (ne_ai k3 u0) (ni1 (ne_of k3 u1 (fun z => by cases z)) (ni1 (ne_of k3 u2 (fun z => by cases z)) (ni1 (ne_of k3 u3 (fun z => by cases z)) (ni1 (ne_of k3 u4 (fun z => by cases z)) ni0)))))
end
/-- setDropped -/
def rs_di (D : Nat → Int32) (p v : Int32) : Nat → Int32 := if ¬ p < 0 ∧ ¬ 300 ≤ p then upd D p.toNatClampNeg v else D
/-- keepParentheses: the first place, the place behind -/
def rs_kd (D : Nat → Int32) (p : Int32) (a : Nat) : Nat → Int32 := rs_di (rs_di D p 0) (nI a - 1) 0
theorem rs_in {p : Int32} (h1 : ¬ p < 0) (h2 : ¬ 300 ≤ p) : vp_in p 300 := by
  obtain ⟨j, hj, rfl⟩ := nI_of h1
  have := ni_nle j 300 rfl rfl hj (by decide) h2
  exact vp_in_nI this (by decide)
set_option maxHeartbeats 4000000 in
set_option maxRecDepth 100000 in
theorem c_setDropped (G : ac_G) (l : Launch) (r u dr : Nat) (rd : Nat → Nat) (f : Nat → Int32) (len : Nat) (hr : inj rd 6) (hlen : len ≤ 300) (hf : cu_ch f) (h : ac_H) (d : Nat) (s : rs_S) (K : rs_ok h r u dr rd f len s) (p v : Int32) (hv : vp_nar .boolean v = v) : ac_Met G l yX3_setDropped cX3_setDropped 3 none (d + 1) 0 0 [.ref r, .int p, .int v] h (fun r9 h9 => r9 = none ∧ rs_ok h9 r u dr rd f len (s.1, rs_di s.2.1 p v, s.2.2) ∧ kp h h9 (rs_L r dr rd)) := by
  refine ac_of (ls := [.ref r, .int p, .int v]) (by decide +kernel) rfl (Nat.le_of_ble_eq_true rfl) (fun M hl C B E hnm => ?_)
  refine aw_iload_n C dX3_setDropped_0 rfl rfl (q := 1) rfl ?_
  refine aw_sipush (v := 300) C dX3_setDropped_1 (by decide) (q := 4) rfl ?_
  refine csX3_32 (As := [.int p, .int 300]) (rest := []) C B dX3_setDropped_4 (c_isBelow G M.2.1 h d p 300) rfl rfl (Nat.le_of_ble_eq_true rfl) (by omega) (by omega) (by omega) (q := 7) rfl (fun r9 h9 hr9 => ?_)
  obtain ⟨e9, er9⟩ := hr9
  subst er9; rw [e9]
  show aw G 3 M 7 [.ref r, .int p, .int v] [.int (pb_b (¬ p < 0 ∧ ¬ 300 ≤ p))] h 0 0
  refine aw_if_eq (t := 17) (q := 10) C dX3_setDropped_7 (by decide) rfl (fun c_7 => ?_) (fun c_7 => ?_)
  ·
    refine aw_vret C E dX3_setDropped_17 (Nat.le_refl _) (Nat.le_refl _) ?_
    rw [show rs_di s.2.1 p v = s.2.1 from by unfold rs_di; rw [if_neg (pb_0.mp c_7)]]
    exact ⟨rfl, K, kp_mono kp_rf (by simp)⟩
  ·
    refine aw_aload_n C dX3_setDropped_10 rfl rfl (q := 11) rfl ?_
    refine gfX3_9_3 (v := .ref dr) C dX3_setDropped_11 K.1 rfl (q := 14) rfl ?_
    refine aw_iload_n C dX3_setDropped_14 rfl rfl (q := 15) rfl ?_
    refine aw_iload_n C dX3_setDropped_15 rfl rfl (q := 16) rfl ?_
    have hx := pb_n c_7
    refine ay_zast (j := p.toNatClampNeg) C dX3_setDropped_16 K.2.2.1 (rs_in hx.1 hx.2) rfl (q := 17) rfl ?_
    rw [hv]
    have kp9 : kp h (ac_up h dr (.inl (3, 300, .inl (upd s.2.1 p.toNatClampNeg v)))) [dr] := kp_up (kp_cons dr kp_rf) _ _ (by simp)
    refine aw_vret C E dX3_setDropped_17 (Nat.le_refl _) (Nat.le_refl _) ?_
    rw [show rs_di s.2.1 p v = upd s.2.1 p.toNatClampNeg v from by unfold rs_di; rw [if_pos (pb_n c_7)]]
    exact ⟨rfl, rs_dr K (ac_up_s _ _ _) kp9, kp_mono kp9 rs_s2⟩
set_option maxHeartbeats 4000000 in
set_option maxRecDepth 100000 in
theorem c_keep (G : ac_G) (l : Launch) (r u dr : Nat) (rd : Nat → Nat) (f : Nat → Int32) (len : Nat) (hr : inj rd 6) (hlen : len ≤ 300) (hf : cu_ch f) (h : ac_H) (d : Nat) (s : rs_S) (K : rs_ok h r u dr rd f len s) (p : Int32) : ac_Met G l yX3_keepParentheses cX3_keepParentheses 2 none (d + 2) 0 0 [.ref r, .int p] h (fun r9 h9 => r9 = none ∧ rs_ok h9 r u dr rd f len (s.1, rs_kd s.2.1 p s.1, s.2.2) ∧ kp h h9 (rs_L r dr rd)) := by
  refine ac_of (ls := [.ref r, .int p]) (by decide +kernel) rfl (Nat.le_of_ble_eq_true rfl) (fun M hl C B E hnm => ?_)
  refine aw_aload_n C dX3_keepParentheses_0 rfl rfl (q := 1) rfl ?_
  refine aw_iload_n C dX3_keepParentheses_1 rfl rfl (q := 2) rfl ?_
  refine aw_iconst (v := 0) C dX3_keepParentheses_2 (by decide) (q := 3) rfl ?_
  refine cvX3_36_3 (As := [.int p, .int 0]) (rest := []) C B dX3_keepParentheses_3 K.1 (c_setDropped G M.2.1 r u dr rd f len hr hlen hf h d (s.1, s.2.1, s.2.2) K p 0 rfl) rfl rfl (Nat.le_of_ble_eq_true rfl) (by omega) (by omega) (by omega) (q := 6) rfl (fun r9 h_1 hr9 => ?_)
  obtain ⟨er9, kx_2, kpx_3⟩ := hr9
  subst er9
  have K_4 : rs_ok h_1 r u dr rd f len (s.1, rs_di s.2.1 p 0, s.2.2) := kx_2
  have kq_5 : kp h h_1 (rs_L r dr rd) := kp_mono kpx_3 (fun _ z => z)
  show aw G 2 M 6 [.ref r, .int p] [] h_1 0 0
  refine aw_aload_n C dX3_keepParentheses_6 rfl rfl (q := 7) rfl ?_
  refine aw_aload_n C dX3_keepParentheses_7 rfl rfl (q := 8) rfl ?_
  refine gfX3_40_3 (v := .int (nI s.1)) C dX3_keepParentheses_8 K_4.1 rfl (q := 11) rfl ?_
  refine aw_iconst (v := 1) C dX3_keepParentheses_11 (by decide) (q := 12) rfl ?_
  refine aw_isub C dX3_keepParentheses_12 (q := 13) rfl ?_
  refine aw_iconst (v := 0) C dX3_keepParentheses_13 (by decide) (q := 14) rfl ?_
  refine cvX3_36_3 (As := [.int ((nI s.1) - 1), .int 0]) (rest := []) C B dX3_keepParentheses_14 K_4.1 (c_setDropped G M.2.1 r u dr rd f len hr hlen hf h_1 d (s.1, rs_di s.2.1 p 0, s.2.2) K_4 ((nI s.1) - 1) 0 rfl) rfl rfl (Nat.le_of_ble_eq_true rfl) (by omega) (by omega) (by omega) (q := 17) rfl (fun r9 h_6 hr9 => ?_)
  obtain ⟨er9, kx_7, kpx_8⟩ := hr9
  subst er9
  have K_9 : rs_ok h_6 r u dr rd f len (s.1, rs_di (rs_di s.2.1 p 0) ((nI s.1) - 1) 0, s.2.2) := kx_7
  have kq_10 : kp h h_6 (rs_L r dr rd) := kp_in kq_5 kpx_8 (fun _ z => z)
  show aw G 2 M 17 [.ref r, .int p] [] h_6 0 0
  refine aw_vret C E dX3_keepParentheses_17 (Nat.le_refl _) (Nat.le_refl _) ?_
  exact ⟨rfl, K_9, kq_10⟩
/-- addPrefixSteps, from place n - 1 down to first -/
def rs_pre (f : Nat → Int32) (first : Nat) : Nat → Nat → ru_D → ru_D
  | 0, _, T => T
  | m + 1, n, T => if n ≤ first then T else if f (n - 1) = 45 then rs_pre f first m (n - 1) (ru_add T 126 0)
      else if f (n - 1) = 102 then rs_pre f first m (n - 1) (ru_add T 102 0)
      else rs_pre f first m (n - 2) (ru_add T 99 (f (n - 1) - 48))
theorem rs_pre_s (f : Nat → Int32) (first m i : Nat) (T : ru_D) : rs_pre f first (m + 1) (i + 1) T = if i + 1 ≤ first then T else if f i = 45 then rs_pre f first m i (ru_add T 126 0)
      else if f i = 102 then rs_pre f first m i (ru_add T 102 0) else rs_pre f first m (i - 1) (ru_add T 99 (f i - 48)) := rfl
set_option maxHeartbeats 4000000 in
set_option maxRecDepth 100000 in
theorem lp_preDone {G : ac_G} {M : ac_M} {r u dr : Nat} {rd : Nat → Nat} {f : Nat → Int32} {len : Nat} (hr : inj rd 6) (hlen : len ≤ 300) (hf : cu_ch f) {h : ac_H} {d a0 first : Nat} {en : Int32} {D0 : Nat → Int32} {R : ru_D} (hf1 : first < 100000) (C : ac_MC G RX3 cX3_addPrefixSteps 5 none M) (B : ac_Bd M (d + 2) 0 0) (E : ac_End G (fun r9 h9 => r9 = none ∧ rs_ok h9 r u dr rd f len (a0, D0, R) ∧ kp h h9 (rs_L r dr rd)) 0 0 M) {h1 : ac_H} {x : Int32} {v4 : Value} (hx : x < nI first) (K1 : rs_ok h1 r u dr rd f len (a0, D0, R)) (kq1 : kp h h1 (rs_L r dr rd)) : aw G 5 M 4 [.ref r, .int (nI first), .int en, .int x, v4] [] h1 0 0 := by
  refine aw_iload_n C dX3_addPrefixSteps_4 rfl rfl (q := 5) rfl ?_
  refine aw_iload_n C dX3_addPrefixSteps_5 rfl rfl (q := 6) rfl ?_
  refine aw_icmp_lt (t := 92) (q := 9) C dX3_addPrefixSteps_6 (by decide) rfl (fun c_6 => ?_) (fun c_6 => absurd c_6 (fun z => z hx))
  refine aw_vret C E dX3_addPrefixSteps_92 (Nat.le_refl _) (Nat.le_refl _) ?_
  exact ⟨rfl, K1, kq1⟩
set_option maxHeartbeats 4000000 in
set_option maxRecDepth 100000 in
theorem lp_pre {G : ac_G} {M : ac_M} {r u dr : Nat} {rd : Nat → Nat} {f : Nat → Int32} {len : Nat} (hr : inj rd 6) (hlen : len ≤ 300) (hf : cu_ch f) {h : ac_H} {d a0 first : Nat} {en : Int32} {D0 : Nat → Int32} {R : ru_D} (hf1 : first < 100000) (C : ac_MC G RX3 cX3_addPrefixSteps 5 none M) (B : ac_Bd M (d + 2) 0 0) (E : ac_End G (fun r9 h9 => r9 = none ∧ rs_ok h9 r u dr rd f len (a0, D0, R) ∧ kp h h9 (rs_L r dr rd)) 0 0 M) :
    ∀ (m n : Nat) (T : ru_D) (h1 : ac_H) (v4 : Value), n ≤ m → n ≤ first ∨ n ≤ 300 → n < 100000 → rs_ok h1 r u dr rd f len (a0, D0, T) → kp h h1 (rs_L r dr rd) → rs_pre f first m n T = R → aw G 5 M 4 [.ref r, .int (nI first), .int en, .int (nI n - 1), v4] [] h1 0 0 := by
  intro m
  induction m with
  | zero =>
    intro n T h1 v4 hm hn hb K1 kq1 hR
    have hn0 : n = 0 := by omega
    subst hn0
    rw [show T = R from hR] at K1
    exact lp_preDone hr hlen hf hf1 C B E (wk_lt (Nat.zero_le _) hf1) K1 kq1
  | succ m ih =>
    intro n T h1 v4 hm hn hb K1 kq1 hR
    by_cases hnf : n ≤ first
    · rw [show T = R from by rw [← hR]; unfold rs_pre; rw [if_pos hnf]] at K1
      exact lp_preDone hr hlen hf hf1 C B E (wk_lt hnf hf1) K1 kq1
    have hnl : n ≤ 300 := by omega
    obtain ⟨i, rfl⟩ : ∃ i, n = i + 1 := ⟨n - 1, by omega⟩
    rw [show nI (i + 1) - 1 = nI i from nI_pred i]
    refine aw_iload_n C dX3_addPrefixSteps_4 rfl rfl (q := 5) rfl ?_
    refine aw_iload_n C dX3_addPrefixSteps_5 rfl rfl (q := 6) rfl ?_
    refine aw_icmp_lt (t := 92) (q := 9) C dX3_addPrefixSteps_6 (by decide) rfl (fun c_6 => absurd c_6 (fun z => by rw [nI_ltI (by omega) (by omega)] at z; omega)) (fun c_6 => ?_)
    refine aw_iload_n C dX3_addPrefixSteps_9 rfl rfl (q := 10) rfl ?_
    refine aw_aload_n C dX3_addPrefixSteps_10 rfl rfl (q := 11) rfl ?_
    refine gfX3_28_3 (v := .ref u) C dX3_addPrefixSteps_11 K1.1 rfl (q := 14) rfl ?_
    refine aw_alen (v := nI 300) C dX3_addPrefixSteps_14 K1.2.1 rfl rfl (q := 15) rfl ?_
    refine csX3_32 (As := [.int (nI i), .int (nI 300)]) (rest := []) C B dX3_addPrefixSteps_15 (c_isBelow G M.2.1 h1 d (nI i) (nI 300)) rfl rfl (Nat.le_of_ble_eq_true rfl) (by omega) (by omega) (by omega) (q := 18) rfl (fun r9 h9 hr9 => ?_)
    obtain ⟨e9, er9⟩ := hr9
    subst er9; rw [e9]
    show aw G 5 M 18 [.ref r, .int (nI first), .int en, .int (nI i), v4] [.int (pb_b (¬ (nI i) < 0 ∧ ¬ (nI 300) ≤ (nI i)))] h1 0 0
    refine aw_if_eq (t := 92) (q := 21) C dX3_addPrefixSteps_18 (by decide) rfl (fun c_18 => absurd c_18 (fun z => (pb_0.mp z) ⟨nI_pos (by omega), ni_nge i 300 rfl rfl (by omega) (by omega) (by omega)⟩)) (fun c_18 => ?_)
    refine aw_aload_n C dX3_addPrefixSteps_21 rfl rfl (q := 22) rfl ?_
    refine gfX3_28_3 (v := .ref u) C dX3_addPrefixSteps_22 K1.1 rfl (q := 25) rfl ?_
    refine aw_iload_n C dX3_addPrefixSteps_25 rfl rfl (q := 26) rfl ?_
    refine ay_cald (j := i) C dX3_addPrefixSteps_26 K1.2.1 (vp_in_nI (by omega) (by omega)) (nI_clamp (by omega)) (q := 27) rfl ?_
    refine aw_istore (ls' := [.ref r, .int (nI first), .int en, .int (nI i), .int (f i)]) C dX3_addPrefixSteps_27 (by decide) rfl (q := 29) rfl ?_
    refine aw_iload C dX3_addPrefixSteps_29 rfl (q := 31) rfl ?_
    refine aw_bipush (v := 45) C dX3_addPrefixSteps_31 (by decide) (q := 33) rfl ?_
    refine aw_icmp_ne (t := 49) (q := 36) C dX3_addPrefixSteps_33 (by decide) rfl (fun c_33 => ?_) (fun c_33 => ?_)
    ·
      refine aw_iload C dX3_addPrefixSteps_49 rfl (q := 51) rfl ?_
      refine aw_bipush (v := 102) C dX3_addPrefixSteps_51 (by decide) (q := 53) rfl ?_
      refine aw_icmp_ne (t := 69) (q := 56) C dX3_addPrefixSteps_53 (by decide) rfl (fun c_53 => ?_) (fun c_53 => ?_)
      ·
        refine aw_aload_n C dX3_addPrefixSteps_69 rfl rfl (q := 70) rfl ?_
        refine gfX3_20_3 (v := .ref (rd 0)) C dX3_addPrefixSteps_70 K1.1 rfl (q := 73) rfl ?_
        refine aw_bipush (v := 99) C dX3_addPrefixSteps_73 (by decide) (q := 75) rfl ?_
        refine aw_iload C dX3_addPrefixSteps_75 rfl (q := 77) rfl ?_
        refine aw_bipush (v := 48) C dX3_addPrefixSteps_77 (by decide) (q := 79) rfl ?_
        refine aw_isub C dX3_addPrefixSteps_79 (q := 80) rfl ?_
        refine cvX3_71_6 (As := [.int 99, .int ((f i) - 48)]) (rest := []) C B dX3_addPrefixSteps_80 K1.2.2.2.1.1 (c_addStep G M.2.1 h1 d rd T hr K1.2.2.2.1 K1.2.2.2.2.2 99 ((f i) - 48)) rfl rfl (Nat.le_of_ble_eq_true rfl) (by omega) (by omega) (by omega) (q := 83) rfl (fun r9 h_1 hr9 => ?_)
        obtain ⟨er9, kx_2, kpx_3⟩ := hr9
        subst er9
        have K_4 : rs_ok h_1 r u dr rd f len (a0, D0, ru_add T 99 ((f i) - 48)) := rs_ru (s := (a0, D0, T)) K1 kx_2 (kp_mono kpx_3 rs_s5) (ru_add_bd K1.2.2.2.2.2 _ _)
        have kq_5 : kp h h_1 (rs_L r dr rd) := kp_in kq1 kpx_3 rs_s3
        show aw G 5 M 83 [.ref r, .int (nI first), .int en, .int (nI i), .int (f i)] [] h_1 0 0
        refine aw_iinc (v := nI i - 1) (ls' := [.ref r, .int (nI first), .int en, .int (nI i - 1), .int (f i)]) C dX3_addPrefixSteps_83 rfl (ni_m1 _) (by decide) rfl (q := 86) rfl ?_
        refine aw_iinc (v := nI i - 1 - 1) (ls' := [.ref r, .int (nI first), .int en, .int (nI i - 1 - 1), .int (f i)]) C dX3_addPrefixSteps_86 rfl (ni_m1 _) (by decide) rfl (q := 89) rfl ?_
        refine aw_goto (q := 4) C dX3_addPrefixSteps_89 (by decide) ?_
        by_cases hi1 : i ≤ first
        · have e9 : rs_pre f first m (i - 1) (ru_add T 99 (f i - 48)) = ru_add T 99 (f i - 48) := by
            cases m with
            | zero => rfl
            | succ m => unfold rs_pre; rw [if_pos (by omega)]
          have eR : ru_add T 99 (f i - 48) = R := by rw [← hR, rs_pre_s, if_neg hnf, if_neg c_33, if_neg c_53, e9]
          rw [eR] at K_4
          refine lp_preDone hr hlen hf hf1 C B E ?_ K_4 kq_5
          rw [Int32.lt_iff_toInt_lt, wk_m2 (by omega), nI_toInt (by omega)]; omega
        · obtain ⟨i2, rfl⟩ : ∃ z, i = z + 1 := ⟨i - 1, by omega⟩
          rw [show nI (i2 + 1) - 1 = nI i2 from nI_pred i2]
          refine ih i2 _ h_1 _ (by omega) (by omega) (by omega) K_4 kq_5 ?_
          rw [← hR, rs_pre_s, if_neg hnf, if_neg c_33, if_neg c_53]
          rfl
      ·
        refine aw_aload_n C dX3_addPrefixSteps_56 rfl rfl (q := 57) rfl ?_
        refine gfX3_20_3 (v := .ref (rd 0)) C dX3_addPrefixSteps_57 K1.1 rfl (q := 60) rfl ?_
        refine aw_bipush (v := 102) C dX3_addPrefixSteps_60 (by decide) (q := 62) rfl ?_
        refine aw_iconst (v := 0) C dX3_addPrefixSteps_62 (by decide) (q := 63) rfl ?_
        refine cvX3_71_6 (As := [.int 102, .int 0]) (rest := []) C B dX3_addPrefixSteps_63 K1.2.2.2.1.1 (c_addStep G M.2.1 h1 d rd T hr K1.2.2.2.1 K1.2.2.2.2.2 102 0) rfl rfl (Nat.le_of_ble_eq_true rfl) (by omega) (by omega) (by omega) (q := 66) rfl (fun r9 h_6 hr9 => ?_)
        obtain ⟨er9, kx_7, kpx_8⟩ := hr9
        subst er9
        have K_9 : rs_ok h_6 r u dr rd f len (a0, D0, ru_add T 102 0) := rs_ru (s := (a0, D0, T)) K1 kx_7 (kp_mono kpx_8 rs_s5) (ru_add_bd K1.2.2.2.2.2 _ _)
        have kq_10 : kp h h_6 (rs_L r dr rd) := kp_in kq1 kpx_8 rs_s3
        show aw G 5 M 66 [.ref r, .int (nI first), .int en, .int (nI i), .int (f i)] [] h_6 0 0
        refine aw_goto (q := 86) C dX3_addPrefixSteps_66 (by decide) ?_
        refine aw_iinc (v := nI i - 1) (ls' := [.ref r, .int (nI first), .int en, .int (nI i - 1), .int (f i)]) C dX3_addPrefixSteps_86 rfl (ni_m1 _) (by decide) rfl (q := 89) rfl ?_
        refine aw_goto (q := 4) C dX3_addPrefixSteps_89 (by decide) ?_
        refine ih i _ h_6 _ (by omega) (by omega) (by omega) K_9 kq_10 ?_
        rw [← hR, rs_pre_s, if_neg hnf, if_neg c_33, if_pos c_53]
    ·
      refine aw_aload_n C dX3_addPrefixSteps_36 rfl rfl (q := 37) rfl ?_
      refine gfX3_20_3 (v := .ref (rd 0)) C dX3_addPrefixSteps_37 K1.1 rfl (q := 40) rfl ?_
      refine aw_bipush (v := 126) C dX3_addPrefixSteps_40 (by decide) (q := 42) rfl ?_
      refine aw_iconst (v := 0) C dX3_addPrefixSteps_42 (by decide) (q := 43) rfl ?_
      refine cvX3_71_6 (As := [.int 126, .int 0]) (rest := []) C B dX3_addPrefixSteps_43 K1.2.2.2.1.1 (c_addStep G M.2.1 h1 d rd T hr K1.2.2.2.1 K1.2.2.2.2.2 126 0) rfl rfl (Nat.le_of_ble_eq_true rfl) (by omega) (by omega) (by omega) (q := 46) rfl (fun r9 h_11 hr9 => ?_)
      obtain ⟨er9, kx_12, kpx_13⟩ := hr9
      subst er9
      have K_14 : rs_ok h_11 r u dr rd f len (a0, D0, ru_add T 126 0) := rs_ru (s := (a0, D0, T)) K1 kx_12 (kp_mono kpx_13 rs_s5) (ru_add_bd K1.2.2.2.2.2 _ _)
      have kq_15 : kp h h_11 (rs_L r dr rd) := kp_in kq1 kpx_13 rs_s3
      show aw G 5 M 46 [.ref r, .int (nI first), .int en, .int (nI i), .int (f i)] [] h_11 0 0
      refine aw_goto (q := 86) C dX3_addPrefixSteps_46 (by decide) ?_
      refine aw_iinc (v := nI i - 1) (ls' := [.ref r, .int (nI first), .int en, .int (nI i - 1), .int (f i)]) C dX3_addPrefixSteps_86 rfl (ni_m1 _) (by decide) rfl (q := 89) rfl ?_
      refine aw_goto (q := 4) C dX3_addPrefixSteps_89 (by decide) ?_
      refine ih i _ h_11 _ (by omega) (by omega) (by omega) K_14 kq_15 ?_
      rw [← hR, rs_pre_s, if_neg hnf, if_pos c_33]
set_option maxHeartbeats 4000000 in
set_option maxRecDepth 100000 in
theorem c_preSteps (G : ac_G) (l : Launch) (r u dr : Nat) (rd : Nat → Nat) (f : Nat → Int32) (len : Nat) (hr : inj rd 6) (hlen : len ≤ 300) (hf : cu_ch f) (h : ac_H) (d : Nat) (s : rs_S) (K : rs_ok h r u dr rd f len s) (first en : Nat) (hf1 : first < 100000) (hen : en ≤ first ∨ en ≤ 300) (hen2 : en < 100000) : ac_Met G l yX3_addPrefixSteps cX3_addPrefixSteps 5 none (d + 2) 0 0 [.ref r, .int (nI first), .int (nI en)] h (fun r9 h9 => r9 = none ∧ rs_ok h9 r u dr rd f len (s.1, s.2.1, rs_pre f first en en s.2.2) ∧ kp h h9 (rs_L r dr rd)) := by
  refine ac_of (ls := [.ref r, .int (nI first), .int (nI en), .retAddr 0, .retAddr 0]) (by decide +kernel) rfl (Nat.le_of_ble_eq_true rfl) (fun M hl C B E hnm => ?_)
  refine aw_iload_n C dX3_addPrefixSteps_0 rfl rfl (q := 1) rfl ?_
  refine aw_iconst (v := 1) C dX3_addPrefixSteps_1 (by decide) (q := 2) rfl ?_
  refine aw_isub C dX3_addPrefixSteps_2 (q := 3) rfl ?_
  refine aw_istore_n (ls' := [.ref r, .int (nI first), .int (nI en), .int ((nI en) - 1), .retAddr 0]) C dX3_addPrefixSteps_3 rfl (by decide) rfl (q := 4) rfl ?_
  exact lp_pre (R := rs_pre f first en en s.2.2) hr hlen hf hf1 C B E en en s.2.2 h _ (Nat.le_refl _) hen hen2 K (kp_mono kp_rf (by simp)) rfl
