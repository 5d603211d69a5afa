/-! Reader.append; the constructors of Cursor, Reader, Walker, Reckoner, Report, Raiser -/
set_option maxHeartbeats 4000000 in
set_option maxRecDepth 100000 in
theorem c_setD (G : ac_G) (l : Launch) (h : ac_H) (d : Nat) (r u dr len a : Nat) (f D : Nat → Int32) (v4 : Value) (k1 : h r = some (cu_ob 3 u len a (.ref dr) v4)) (k2 : h u = some (.inl (0, 300, .inl f))) (k3 : h dr = some (.inl (3, 300, .inl D))) (p v : Int32) (hv : vp_nar .boolean v = v) : ac_Met G l yX3_setDropped cX3_setDropped 3 none (d + 1) 0 0 [.ref r, .int p, .int v] h (fun r9 h9 => r9 = none ∧ h9 dr = some (.inl (3, 300, .inl (rs_di D p v))) ∧ kp h h9 [dr]) := by
  refine ac_of (ls := [.ref r, .int p, .int v]) (by decide +kernel) rfl (Nat.le_of_ble_eq_true rfl) (fun M hl C B E hnm => ?_)
  refine aw_iload_n C dX3_setDropped_0 rfl rfl (q := 1) rfl ?_
  refine aw_sipush (v := 300) C dX3_setDropped_1 (by decide) (q := 4) rfl ?_
  refine csX3_32 (As := [.int p, .int 300]) (rest := []) C B dX3_setDropped_4 (c_isBelow G M.2.1 h d p 300) rfl rfl (Nat.le_of_ble_eq_true rfl) (by omega) (by omega) (by omega) (q := 7) rfl (fun r9 h9 hr9 => ?_)
  obtain ⟨e9, er9⟩ := hr9
  subst er9; rw [e9]
  show aw G 3 M 7 [.ref r, .int p, .int v] [.int (pb_b (¬ p < 0 ∧ ¬ 300 ≤ p))] h 0 0
  refine aw_if_eq (t := 17) (q := 10) C dX3_setDropped_7 (by decide) rfl (fun c_7 => ?_) (fun c_7 => ?_)
  ·
    refine aw_vret C E dX3_setDropped_17 (Nat.le_refl _) (Nat.le_refl _) ?_
    rw [show rs_di D p v = D from by unfold rs_di; rw [if_neg (pb_0.mp c_7)]]
    exact ⟨rfl, k3, kp_cons _ kp_rf⟩
  ·
    refine aw_aload_n C dX3_setDropped_10 rfl rfl (q := 11) rfl ?_
    refine gfX3_9_3 (v := .ref dr) C dX3_setDropped_11 k1 rfl (q := 14) rfl ?_
    refine aw_iload_n C dX3_setDropped_14 rfl rfl (q := 15) rfl ?_
    refine aw_iload_n C dX3_setDropped_15 rfl rfl (q := 16) rfl ?_
    have hx := pb_n c_7
    refine ay_zast (j := p.toNatClampNeg) C dX3_setDropped_16 k3 (rs_in hx.1 hx.2) rfl (q := 17) rfl ?_
    rw [hv]
    have kp9 : kp h (ac_up h dr (.inl (3, 300, .inl (upd D p.toNatClampNeg v)))) [dr] := kp_up (kp_cons dr kp_rf) _ _ (by simp)
    refine aw_vret C E dX3_setDropped_17 (Nat.le_refl _) (Nat.le_refl _) ?_
    rw [show rs_di D p v = upd D p.toNatClampNeg v from by unfold rs_di; rw [if_pos (pb_n c_7)]]
    exact ⟨rfl, ac_up_s _ _ _, kp9⟩
set_option maxHeartbeats 4000000 in
set_option maxRecDepth 100000 in
theorem c_appendU (G : ac_G) (l : Launch) (h : ac_H) (d : Nat) (r u dr len a : Nat) (f D : Nat → Int32) (v4 : Value) (k1 : h r = some (cu_ob 3 u len a (.ref dr) v4)) (k2 : h u = some (.inl (0, 300, .inl f))) (k3 : h dr = some (.inl (3, 300, .inl D))) (hlen : len ≤ 300) (c : Int32) (hc : vp_nar .char c = c) : ac_Met G l yX3_append cX3_append 2 (some .boolean) (d + 2) 0 0 [.ref r, .int c] h (fun r9 h9 => r9 = some (.int (pb_b (len < 300))) ∧ (len < 300 → h9 r = some (cu_ob 3 u (len + 1) a (.ref dr) v4) ∧ h9 u = some (.inl (0, 300, .inl (upd f len c))) ∧ h9 dr = some (.inl (3, 300, .inl (rs_di D (nI len) 0))) ∧ kp h h9 [r, u, dr]) ∧ (¬ len < 300 → h9 = h)) := by
  refine ac_of (ls := [.ref r, .int c]) (by decide +kernel) rfl (Nat.le_of_ble_eq_true rfl) (fun M hl C B E hnm => ?_)
  refine aw_aload_n C dX3_append_0 rfl rfl (q := 1) rfl ?_
  refine gfX3_24_3 (v := .int (nI len)) C dX3_append_1 k1 rfl (q := 4) rfl ?_
  refine aw_sipush (v := 300) C dX3_append_4 (by decide) (q := 7) rfl ?_
  refine aw_icmp_ge (t := 25) (q := 10) C dX3_append_7 (by decide) rfl (fun c_7 => ?_) (fun c_7 => ?_)
  ·
    refine aw_iconst (v := 0) C dX3_append_25 (by decide) (q := 26) rfl ?_
    refine aw_zret C E dX3_append_26 (rfl) (by omega) (by omega) ?_
    have hl9 : ¬ len < 300 := by have := ni_le len 300 rfl rfl (by omega) (by decide) c_7; omega
    exact ⟨by unfold pb_b; rw [if_neg hl9], (fun z => absurd z hl9), fun _ => rfl⟩
  ·
    have hl9 : len < 300 := ni_nle len 300 rfl rfl (by omega) (by decide) c_7
    refine aw_aload_n C dX3_append_10 rfl rfl (q := 11) rfl ?_
    refine gfX3_24_3 (v := .int (nI len)) C dX3_append_11 k1 rfl (q := 14) rfl ?_
    refine aw_aload_n C dX3_append_14 rfl rfl (q := 15) rfl ?_
    refine gfX3_28_3 (v := .ref u) C dX3_append_15 k1 rfl (q := 18) rfl ?_
    refine aw_alen (v := nI 300) C dX3_append_18 k2 rfl rfl (q := 19) rfl ?_
    refine csX3_32 (As := [.int (nI len), .int (nI 300)]) (rest := []) C B dX3_append_19 (c_isBelow G M.2.1 h d (nI len) (nI 300)) rfl rfl (Nat.le_of_ble_eq_true rfl) (by omega) (by omega) (by omega) (q := 22) rfl (fun r9 h9 hr9 => ?_)
    obtain ⟨e9, er9⟩ := hr9
    subst er9; rw [e9]
    show aw G 2 M 22 [.ref r, .int c] [.int (pb_b (¬ (nI len) < 0 ∧ ¬ (nI 300) ≤ (nI len)))] h 0 0
    refine aw_if_ne (t := 27) (q := 25) C dX3_append_22 (by decide) rfl (fun c_22 => ?_) (fun c_22 => absurd c_22 (fun z => pb_0.mp z ⟨nI_pos (by omega), ni_nge len 300 rfl rfl (by omega) (by decide) hl9⟩))
    refine aw_aload_n C dX3_append_27 rfl rfl (q := 28) rfl ?_
    refine gfX3_28_3 (v := .ref u) C dX3_append_28 k1 rfl (q := 31) rfl ?_
    refine aw_aload_n C dX3_append_31 rfl rfl (q := 32) rfl ?_
    refine gfX3_24_3 (v := .int (nI len)) C dX3_append_32 k1 rfl (q := 35) rfl ?_
    refine aw_iload_n C dX3_append_35 rfl rfl (q := 36) rfl ?_
    refine ay_cast (j := len) C dX3_append_36 k2 (vp_in_nI (by omega) (by decide)) (nI_clamp (by omega)) (q := 37) rfl ?_
    show aw G 2 M 37 [.ref r, .int c] [] (ac_up h u (.inl (0, 300, .inl (upd f len (vp_nar .char c))))) 0 0
    obtain ⟨h_1, eh_1⟩ : ∃ z9, z9 = ac_up h u (.inl (0, 300, .inl (upd f len (vp_nar .char c)))) := ⟨_, rfl⟩
    rw [← eh_1]
    have f_2 : h_1 r = some (.inr (3, [.ref u, .int (nI len), .int (nI a), .ref dr, v4])) := by rw [eh_1, ac_up_n _ _ (Ne.symm (ne_ai k2 k1))]; exact k1
    have f_3 : h_1 dr = some (.inl (3, 300, .inl (D))) := by rw [eh_1, ac_up_n _ _ (Ne.symm (ne_of k2 k3 (fun z => by cases z)))]; exact k3
    have f_4 : h_1 u = some (.inl (0, 300, .inl (upd f len (vp_nar .char c)))) := by rw [eh_1]; exact ac_up_s _ _ _
    have kp_5 : kp h h_1 [u] := by rw [eh_1]; exact kp_up (kp_cons u kp_rf) _ _ (by simp)
    refine aw_aload_n C dX3_append_37 rfl rfl (q := 38) rfl ?_
    refine aw_aload_n C dX3_append_38 rfl rfl (q := 39) rfl ?_
    refine gfX3_24_3 (v := .int (nI len)) C dX3_append_39 f_2 rfl (q := 42) rfl ?_
    refine aw_iconst (v := 0) C dX3_append_42 (by decide) (q := 43) rfl ?_
    refine cvX3_36_3 (As := [.int (nI len), .int 0]) (rest := []) C B dX3_append_43 f_2 (c_setD G M.2.1 h_1 d r u dr len a (upd f len (vp_nar .char c)) D v4 f_2 f_4 f_3 (nI len) 0 rfl) rfl rfl (Nat.le_of_ble_eq_true rfl) (by omega) (by omega) (by omega) (q := 46) rfl (fun r9 h_6 hr9 => ?_)
    obtain ⟨er9, gd, kpd⟩ := hr9
    subst er9
    have f_7 : h_6 r = some (.inr (3, [.ref u, .int (nI len), .int (nI a), .ref dr, v4])) := kpd _ _ f_2 (ni1 (Ne.symm (ne_ai k3 k1)) ni0)
    have f_8 : h_6 u = some (.inl (0, 300, .inl (upd f len (vp_nar .char c)))) := kpd _ _ f_4 (ni1 (ne_of k2 k3 (fun z => by cases z)) ni0)
    have kp_9 : kp h h_6 [u, dr] := by
      refine kp_fr (kp_tr kp_5 kpd) ?_
      intro a ha hn
      simp only [List.mem_append, List.mem_cons, List.not_mem_nil, or_false, false_or] at ha
      rcases ha with z | z
      · exact absurd (by rw [z]; simp) hn
      · exact absurd (by rw [z]; simp) hn
    show aw G 2 M 46 [.ref r, .int c] [] h_6 (0 + 0) (0 + 0)
    refine aw_aload_n C dX3_append_46 rfl rfl (q := 47) rfl ?_
    refine aw_dup C dX3_append_47 rfl (q := 48) rfl ?_
    refine gfX3_24_3 (v := .int (nI len)) C dX3_append_48 f_7 rfl (q := 51) rfl ?_
    refine aw_iconst (v := 1) C dX3_append_51 (by decide) (q := 52) rfl ?_
    refine aw_iadd C dX3_append_52 (q := 53) rfl ?_
    rw [show nI len + 1 = nI (len + 1) from nI_1 _]
    refine pfX3_24_3 C dX3_append_53 f_7 rfl rfl (Nat.le_of_ble_eq_true rfl) (q := 56) rfl ?_
    show aw G 2 M 56 [.ref r, .int c] [] (ac_up h_6 r (.inr (3, [.ref u, .int (nI (len + 1)), .int (nI a), .ref dr, v4]))) (0 + 0) (0 + 0)
    obtain ⟨h_10, eh_10⟩ : ∃ z9, z9 = ac_up h_6 r (.inr (3, [.ref u, .int (nI (len + 1)), .int (nI a), .ref dr, v4])) := ⟨_, rfl⟩
    rw [← eh_10]
    have f_11 : h_10 u = some (.inl (0, 300, .inl (upd f len (vp_nar .char c)))) := by rw [eh_10, ac_up_n _ _ (ne_ai k2 k1)]; exact f_8
    have f_12 : h_10 dr = some (.inl (3, 300, .inl (rs_di D (nI len) 0))) := by rw [eh_10, ac_up_n _ _ (ne_ai k3 k1)]; exact gd
    have f_13 : h_10 r = some (.inr (3, [.ref u, .int (nI (len + 1)), .int (nI a), .ref dr, v4])) := by rw [eh_10]; exact ac_up_s _ _ _
    have kp_14 : kp h h_10 [r, u, dr] := by rw [eh_10]; exact kp_up (kp_cons r kp_9) _ _ (by simp)
    refine aw_iconst (v := 1) C dX3_append_56 (by decide) (q := 57) rfl ?_
    refine aw_zret C E dX3_append_57 (rfl) (by omega) (by omega) ?_
    exact ⟨by unfold pb_b; rw [if_pos hl9], (fun _ => ⟨f_13, by rw [← hc]; exact f_11, f_12, kp_mono kp_14 (by simp)⟩), fun z => absurd hl9 z⟩
set_option maxHeartbeats 4000000 in
set_option maxRecDepth 100000 in
theorem c_init0_3 (G : ac_G) (l : Launch) (h : ac_H) (d : Nat) (r u : Nat) (K : h r = some (.inr (3, [.null, .int 0, .int 0, .null, .null]))) : ac_Met G l yX0_init cX0_init 2 none (d + 1) 0 0 [.ref r, .ref u] h (fun r9 h9 => r9 = none ∧ h9 r = some (.inr (3, [.ref u, .int 0, .int 0, .null, .null])) ∧ kp h h9 [r]) := by
  refine ac_of (ls := [.ref r, .ref u]) (by decide +kernel) rfl (Nat.le_of_ble_eq_true rfl) (fun M hl C B E hnm => ?_)
  refine aw_aload_n C dX0_init_0 rfl rfl (q := 1) rfl ?_
  refine oiX0_3 C B dX0_init_1 (by decide) (by omega) (q := 4) rfl ?_
  refine aw_aload_n C dX0_init_4 rfl rfl (q := 5) rfl ?_
  refine aw_aload_n C dX0_init_5 rfl rfl (q := 6) rfl ?_
  refine pfX0_9_3 C dX0_init_6 K rfl rfl (Nat.le_of_ble_eq_true rfl) (q := 9) rfl ?_
  show aw G 2 M 9 [.ref r, .ref u] [] (ac_up h r (.inr (3, [.ref u, .int 0, .int 0, .null, .null]))) 0 0
  obtain ⟨h_1, eh_1⟩ : ∃ z9, z9 = ac_up h r (.inr (3, [.ref u, .int 0, .int 0, .null, .null])) := ⟨_, rfl⟩
  rw [← eh_1]
  have f_2 : h_1 r = some (.inr (3, [.ref u, .int 0, .int 0, .null, .null])) := by rw [eh_1]; exact ac_up_s _ _ _
  have kp_3 : kp h h_1 [r] := by rw [eh_1]; exact kp_up (kp_cons r kp_rf) _ _ (by simp)
  refine aw_vret C E dX0_init_9 (Nat.le_refl _) (Nat.le_refl _) ?_
  exact ⟨rfl, f_2, kp_3⟩
set_option maxHeartbeats 4000000 in
set_option maxRecDepth 100000 in
theorem c_init0_7 (G : ac_G) (l : Launch) (h : ac_H) (d : Nat) (r u : Nat) (K : h r = some (.inr (7, [.null, .int 0, .int 0, .null, .int 0]))) : ac_Met G l yX0_init cX0_init 2 none (d + 1) 0 0 [.ref r, .ref u] h (fun r9 h9 => r9 = none ∧ h9 r = some (.inr (7, [.ref u, .int 0, .int 0, .null, .int 0])) ∧ kp h h9 [r]) := by
  refine ac_of (ls := [.ref r, .ref u]) (by decide +kernel) rfl (Nat.le_of_ble_eq_true rfl) (fun M hl C B E hnm => ?_)
  refine aw_aload_n C dX0_init_0 rfl rfl (q := 1) rfl ?_
  refine oiX0_3 C B dX0_init_1 (by decide) (by omega) (q := 4) rfl ?_
  refine aw_aload_n C dX0_init_4 rfl rfl (q := 5) rfl ?_
  refine aw_aload_n C dX0_init_5 rfl rfl (q := 6) rfl ?_
  refine pfX0_9_7 C dX0_init_6 K rfl rfl (Nat.le_of_ble_eq_true rfl) (q := 9) rfl ?_
  show aw G 2 M 9 [.ref r, .ref u] [] (ac_up h r (.inr (7, [.ref u, .int 0, .int 0, .null, .int 0]))) 0 0
  obtain ⟨h_1, eh_1⟩ : ∃ z9, z9 = ac_up h r (.inr (7, [.ref u, .int 0, .int 0, .null, .int 0])) := ⟨_, rfl⟩
  rw [← eh_1]
  have f_2 : h_1 r = some (.inr (7, [.ref u, .int 0, .int 0, .null, .int 0])) := by rw [eh_1]; exact ac_up_s _ _ _
  have kp_3 : kp h h_1 [r] := by rw [eh_1]; exact kp_up (kp_cons r kp_rf) _ _ (by simp)
  refine aw_vret C E dX0_init_9 (Nat.le_refl _) (Nat.le_refl _) ?_
  exact ⟨rfl, f_2, kp_3⟩
set_option maxHeartbeats 4000000 in
set_option maxRecDepth 100000 in
theorem c_init3 (G : ac_G) (l : Launch) (h : ac_H) (d : Nat) (r : Nat) (K : h r = some (.inr (3, [.null, .int 0, .int 0, .null, .null]))) : ac_Met G l yX3_init cX3_init 1 none (d + 2) 8 632 [.ref r] h (fun r9 h9 => r9 = none ∧ (∃ u dr v4, h u = none ∧ h dr = none ∧ u ≠ dr ∧ h9 r = some (cu_ob 3 u 0 0 (.ref dr) v4) ∧ h9 u = some (.inl (0, 300, .inl (fun _ => 0))) ∧ h9 dr = some (.inl (3, 300, .inl (fun _ => 0)))) ∧ kp h h9 [r]) := by
  refine ac_of (ls := [.ref r]) (by decide +kernel) rfl (Nat.le_of_ble_eq_true rfl) (fun M hl C B E hnm => ?_)
  refine aw_aload_n C dX3_init_0 rfl rfl (q := 1) rfl ?_
  refine aw_sipush (v := 300) C dX3_init_1 (by decide) (q := 4) rfl ?_
  refine ay_newC (N := 300) C dX3_init_4 (by decide) (rfl) (by decide) (Nat.le_trans (by omega) B.2.2.1) (Nat.le_trans (by omega) B.2.2.2) (q := 6) rfl (fun u hn_1 _ => ?_)
  show aw G 1 M 6 [.ref r] [.ref u, .ref r] (ac_up h u (.inl (0, 300, .inl (fun _ => 0)))) (0 + 1) (0 + 300)
  obtain ⟨h_2, eh_2⟩ : ∃ z9, z9 = ac_up h u (.inl (0, 300, .inl (fun _ => 0))) := ⟨_, rfl⟩
  rw [← eh_2]
  have n_3 : h u = none := kp_none kp_rf hn_1 ni0
  have t_4 : r ≠ u := nw_ne K hn_1
  have f_5 : h_2 r = some (.inr (3, [.null, .int 0, .int 0, .null, .null])) := by rw [eh_2, ac_up_n _ _ t_4]; exact K
  have f_6 : h_2 u = some (.inl (0, 300, .inl (fun _ => 0))) := by rw [eh_2]; exact ac_up_s _ _ _
  have kp_7 : kp h h_2 [] := by rw [eh_2]; exact kp_new n_3 kp_rf
  refine ciX3_3 (As := [.ref u]) (rest := []) C B dX3_init_6 (c_init0_3 G M.2.1 h_2 d r u f_5) rfl rfl (Nat.le_of_ble_eq_true rfl) (by omega) (by omega) (by omega) (q := 9) rfl (fun r9 h_8 hr9 => ?_)
  obtain ⟨er9, gr, kpr⟩ := hr9
  subst er9
  have f_9 : h_8 u = some (.inl (0, 300, .inl (fun _ => 0))) := kpr _ _ f_6 (ni1 (Ne.symm t_4) ni0)
  have kp_10 : kp h h_8 [r] := by
    refine kp_fr (kp_tr kp_7 kpr) ?_
    intro a ha hn
    simp only [List.mem_append, List.mem_cons, List.not_mem_nil, or_false, false_or] at ha
    have z := ha
    · exact absurd (by rw [z]; simp) hn
  show aw G 1 M 9 [.ref r] [] h_8 ((0 + 1) + 0) ((0 + 300) + 0)
  refine aw_aload_n C dX3_init_9 rfl rfl (q := 10) rfl ?_
  refine aw_sipush (v := 300) C dX3_init_10 (by decide) (q := 13) rfl ?_
  refine ay_newZ (N := 300) C dX3_init_13 (by decide) (rfl) (by decide) (Nat.le_trans (by omega) B.2.2.1) (Nat.le_trans (by omega) B.2.2.2) (q := 15) rfl (fun dr hn_11 _ => ?_)
  show aw G 1 M 15 [.ref r] [.ref dr, .ref r] (ac_up h_8 dr (.inl (3, 300, .inl (fun _ => 0)))) (((0 + 1) + 0) + 1) (((0 + 300) + 0) + 300)
  obtain ⟨h_12, eh_12⟩ : ∃ z9, z9 = ac_up h_8 dr (.inl (3, 300, .inl (fun _ => 0))) := ⟨_, rfl⟩
  rw [← eh_12]
  have n_13 : h dr = none := kp_none kp_10 hn_11 (ni1 (Ne.symm (nw_ne gr hn_11)) ni0)
  have t_14 : r ≠ dr := nw_ne gr hn_11
  have f_15 : h_12 r = some (.inr (3, [.ref u, .int 0, .int 0, .null, .null])) := by rw [eh_12, ac_up_n _ _ t_14]; exact gr
  have t_16 : u ≠ dr := nw_ne f_9 hn_11
  have f_17 : h_12 u = some (.inl (0, 300, .inl (fun _ => 0))) := by rw [eh_12, ac_up_n _ _ t_16]; exact f_9
  have f_18 : h_12 dr = some (.inl (3, 300, .inl (fun _ => 0))) := by rw [eh_12]; exact ac_up_s _ _ _
  have kp_19 : kp h h_12 [r] := by rw [eh_12]; exact kp_new n_13 kp_10
  refine pfX3_9_3 C hnm dX3_init_15 f_15 rfl rfl (Nat.le_of_ble_eq_true rfl) (q := 18) rfl ?_
  show aw G 1 M 18 [.ref r] [] (ac_up h_12 r (.inr (3, [.ref u, .int 0, .int 0, .ref dr, .null]))) (((0 + 1) + 0) + 1) (((0 + 300) + 0) + 300)
  obtain ⟨h_20, eh_20⟩ : ∃ z9, z9 = ac_up h_12 r (.inr (3, [.ref u, .int 0, .int 0, .ref dr, .null])) := ⟨_, rfl⟩
  rw [← eh_20]
  have f_21 : h_20 u = some (.inl (0, 300, .inl (fun _ => 0))) := by rw [eh_20, ac_up_n _ _ (Ne.symm t_4)]; exact f_17
  have f_22 : h_20 dr = some (.inl (3, 300, .inl (fun _ => 0))) := by rw [eh_20, ac_up_n _ _ (Ne.symm t_14)]; exact f_18
  have f_23 : h_20 r = some (.inr (3, [.ref u, .int 0, .int 0, .ref dr, .null])) := by rw [eh_20]; exact ac_up_s _ _ _
  have kp_24 : kp h h_20 [r] := by rw [eh_20]; exact kp_up kp_19 _ _ (by simp)
  refine aw_aload_n C dX3_init_18 rfl rfl (q := 19) rfl ?_
  refine nwX3_15 (fs := [.int 0, .int 0, .null, .null, .null, .null, .null]) C dX3_init_19 dfX6 (Nat.le_trans (by omega) B.2.2.1) (Nat.le_trans (by omega) B.2.2.2) (q := 22) rfl (fun ra hn_25 _ => ?_)
  show aw G 1 M 22 [.ref r] [.ref ra, .ref r] (ac_up h_20 ra (.inr (6, [.int 0, .int 0, .null, .null, .null, .null, .null]))) ((((0 + 1) + 0) + 1) + 1) ((((0 + 300) + 0) + 300) + 7)
  obtain ⟨h_26, eh_26⟩ : ∃ z9, z9 = ac_up h_20 ra (.inr (6, [.int 0, .int 0, .null, .null, .null, .null, .null])) := ⟨_, rfl⟩
  rw [← eh_26]
  have n_27 : h ra = none := kp_none kp_24 hn_25 (ni1 (Ne.symm (nw_ne f_23 hn_25)) ni0)
  have t_28 : r ≠ ra := nw_ne f_23 hn_25
  have f_29 : h_26 r = some (.inr (3, [.ref u, .int 0, .int 0, .ref dr, .null])) := by rw [eh_26, ac_up_n _ _ t_28]; exact f_23
  have t_30 : u ≠ ra := nw_ne f_21 hn_25
  have f_31 : h_26 u = some (.inl (0, 300, .inl (fun _ => 0))) := by rw [eh_26, ac_up_n _ _ t_30]; exact f_21
  have t_32 : dr ≠ ra := nw_ne f_22 hn_25
  have f_33 : h_26 dr = some (.inl (3, 300, .inl (fun _ => 0))) := by rw [eh_26, ac_up_n _ _ t_32]; exact f_22
  have f_34 : h_26 ra = some (.inr (6, [.int 0, .int 0, .null, .null, .null, .null, .null])) := by rw [eh_26]; exact ac_up_s _ _ _
  have kp_35 : kp h h_26 [r] := by rw [eh_26]; exact kp_new n_27 kp_24
  refine aw_dup C dX3_init_22 rfl (q := 23) rfl ?_
  refine aw_iconst (v := 0) C dX3_init_23 (by decide) (q := 24) rfl ?_
  refine ciX3_17 (As := [.int (nI 0)]) (rest := [.ref ra, .ref r]) C B dX3_init_24 (c_init6 G M.2.1 h_26 d ra 0 (by decide) f_34) rfl rfl (Nat.le_of_ble_eq_true rfl) (by omega) (by omega) (by omega) (q := 27) rfl (fun r9 h_36 hr9 => ?_)
  obtain ⟨er9, ⟨L, hL, hnd, hfL, U6⟩, kp6⟩ := hr9
  subst er9
  have f_37 : h_36 r = some (.inr (3, [.ref u, .int 0, .int 0, .ref dr, .null])) := kp6 _ _ f_29 (ni1 t_28 ni0)
  have f_38 : h_36 u = some (.inl (0, 300, .inl (fun _ => 0))) := kp6 _ _ f_31 (ni1 t_30 ni0)
  have f_39 : h_36 dr = some (.inl (3, 300, .inl (fun _ => 0))) := kp6 _ _ f_33 (ni1 t_32 ni0)
  have kp_40 : kp h h_36 [r] := by
    refine kp_fr (kp_tr kp_35 kp6) ?_
    intro a ha hn
    simp only [List.mem_append, List.mem_cons, List.not_mem_nil, or_false, false_or] at ha
    rcases ha with z | z
    · exact absurd (by rw [z]; simp) hn
    · rw [z]; exact n_27
  show aw G 1 M 27 [.ref r] [.ref ra, .ref r] h_36 (((((0 + 1) + 0) + 1) + 1) + 5) (((((0 + 300) + 0) + 300) + 7) + (25 + 2 * 0))
  refine pfX3_20_3 C dX3_init_27 f_37 rfl rfl (Nat.le_of_ble_eq_true rfl) (q := 30) rfl ?_
  show aw G 1 M 30 [.ref r] [] (ac_up h_36 r (.inr (3, [.ref u, .int 0, .int 0, .ref dr, .ref ra]))) (((((0 + 1) + 0) + 1) + 1) + 5) (((((0 + 300) + 0) + 300) + 7) + (25 + 2 * 0))
  obtain ⟨h_41, eh_41⟩ : ∃ z9, z9 = ac_up h_36 r (.inr (3, [.ref u, .int 0, .int 0, .ref dr, .ref ra])) := ⟨_, rfl⟩
  rw [← eh_41]
  have f_42 : h_41 u = some (.inl (0, 300, .inl (fun _ => 0))) := by rw [eh_41, ac_up_n _ _ (Ne.symm t_4)]; exact f_38
  have f_43 : h_41 dr = some (.inl (3, 300, .inl (fun _ => 0))) := by rw [eh_41, ac_up_n _ _ (Ne.symm t_14)]; exact f_39
  have f_44 : h_41 ra = some (.inr (6, [.int (nI 0), .int (nI 0), .ref (L.getD 0 0), .ref (L.getD 1 0), .ref (L.getD 2 0), .ref (L.getD 3 0), .ref (L.getD 4 0)])) := by rw [eh_41, ac_up_n _ _ (Ne.symm t_28)]; exact U6.1
  have f_45 : h_41 r = some (.inr (3, [.ref u, .int 0, .int 0, .ref dr, .ref ra])) := by rw [eh_41]; exact ac_up_s _ _ _
  have kp_46 : kp h h_41 [r] := by rw [eh_41]; exact kp_up kp_40 _ _ (by simp)
  refine aw_vret C E dX3_init_30 (by omega) (by omega) ?_
  exact ⟨rfl, ⟨u, dr, _, n_3, n_13, t_16, f_45, f_42, f_43⟩, kp_46⟩
set_option maxHeartbeats 4000000 in
set_option maxRecDepth 100000 in
theorem c_init7 (G : ac_G) (l : Launch) (h : ac_H) (d : Nat) (r pl : Nat) (K : h r = some (.inr (7, [.null, .int 0, .int 0, .null, .int 0]))) : ac_Met G l yX7_init cX7_init 2 none (d + 2) 1 0 [.ref r, .ref pl] h (fun r9 h9 => r9 = none ∧ (∃ u, h u = none ∧ wk_ok h9 r u pl (fun _ => 0) 0 0 false) ∧ kp h h9 [r]) := by
  refine ac_of (ls := [.ref r, .ref pl]) (by decide +kernel) rfl (Nat.le_of_ble_eq_true rfl) (fun M hl C B E hnm => ?_)
  refine aw_aload_n C dX7_init_0 rfl rfl (q := 1) rfl ?_
  refine aw_iconst (v := 0) C dX7_init_1 (by decide) (q := 2) rfl ?_
  refine ay_newC (N := 0) C dX7_init_2 (by decide) (rfl) (by decide) (Nat.le_trans (by omega) B.2.2.1) (Nat.le_trans (by omega) B.2.2.2) (q := 4) rfl (fun u hn_1 _ => ?_)
  show aw G 2 M 4 [.ref r, .ref pl] [.ref u, .ref r] (ac_up h u (.inl (0, 0, .inl (fun _ => 0)))) (0 + 1) (0 + 0)
  obtain ⟨h_2, eh_2⟩ : ∃ z9, z9 = ac_up h u (.inl (0, 0, .inl (fun _ => 0))) := ⟨_, rfl⟩
  rw [← eh_2]
  have n_3 : h u = none := kp_none kp_rf hn_1 ni0
  have t_4 : r ≠ u := nw_ne K hn_1
  have f_5 : h_2 r = some (.inr (7, [.null, .int 0, .int 0, .null, .int 0])) := by rw [eh_2, ac_up_n _ _ t_4]; exact K
  have f_6 : h_2 u = some (.inl (0, 0, .inl (fun _ => 0))) := by rw [eh_2]; exact ac_up_s _ _ _
  have kp_7 : kp h h_2 [] := by rw [eh_2]; exact kp_new n_3 kp_rf
  refine ciX7_3 (As := [.ref u]) (rest := []) C B dX7_init_4 (c_init0_7 G M.2.1 h_2 d r u f_5) rfl rfl (Nat.le_of_ble_eq_true rfl) (by omega) (by omega) (by omega) (q := 7) rfl (fun r9 h_8 hr9 => ?_)
  obtain ⟨er9, gr, kpr⟩ := hr9
  subst er9
  have f_9 : h_8 u = some (.inl (0, 0, .inl (fun _ => 0))) := kpr _ _ f_6 (ni1 (Ne.symm t_4) ni0)
  have kp_10 : kp h h_8 [r] := by
    refine kp_fr (kp_tr kp_7 kpr) ?_
    intro a ha hn
    simp only [List.mem_append, List.mem_cons, List.not_mem_nil, or_false, false_or] at ha
    have z := ha
    · exact absurd (by rw [z]; simp) hn
  show aw G 2 M 7 [.ref r, .ref pl] [] h_8 ((0 + 1) + 0) ((0 + 0) + 0)
  refine aw_aload_n C dX7_init_7 rfl rfl (q := 8) rfl ?_
  refine aw_aload_n C dX7_init_8 rfl rfl (q := 9) rfl ?_
  refine pfX7_9_7 C hnm dX7_init_9 gr rfl rfl (Nat.le_of_ble_eq_true rfl) (q := 12) rfl ?_
  show aw G 2 M 12 [.ref r, .ref pl] [] (ac_up h_8 r (.inr (7, [.ref u, .int 0, .int 0, .ref pl, .int 0]))) ((0 + 1) + 0) ((0 + 0) + 0)
  obtain ⟨h_11, eh_11⟩ : ∃ z9, z9 = ac_up h_8 r (.inr (7, [.ref u, .int 0, .int 0, .ref pl, .int 0])) := ⟨_, rfl⟩
  rw [← eh_11]
  have f_12 : h_11 u = some (.inl (0, 0, .inl (fun _ => 0))) := by rw [eh_11, ac_up_n _ _ (Ne.symm t_4)]; exact f_9
  have f_13 : h_11 r = some (.inr (7, [.ref u, .int 0, .int 0, .ref pl, .int 0])) := by rw [eh_11]; exact ac_up_s _ _ _
  have kp_14 : kp h h_11 [r] := by rw [eh_11]; exact kp_up kp_10 _ _ (by simp)
  refine aw_vret C E dX7_init_12 (by omega) (by omega) ?_
  exact ⟨rfl, ⟨u, n_3, f_13, f_12⟩, kp_14⟩
set_option maxHeartbeats 4000000 in
set_option maxRecDepth 100000 in
theorem c_init4 (G : ac_G) (l : Launch) (h : ac_H) (d : Nat) (r pl : Nat) (K : h r = some (.inr (4, [.null, .null, .int 0, .int 0, .int 0]))) : ac_Met G l yX4_init cX4_init 2 none (d + 1) 1 32 [.ref r, .ref pl] h (fun r9 h9 => r9 = none ∧ (∃ sk, h sk = none ∧ rk_ok h9 r pl sk (fun _ => 0, 0) 0 0) ∧ kp h h9 [r]) := by
  refine ac_of (ls := [.ref r, .ref pl]) (by decide +kernel) rfl (Nat.le_of_ble_eq_true rfl) (fun M hl C B E hnm => ?_)
  refine aw_aload_n C dX4_init_0 rfl rfl (q := 1) rfl ?_
  refine oiX4_3 C B dX4_init_1 (by decide) (by omega) (q := 4) rfl ?_
  refine aw_aload_n C dX4_init_4 rfl rfl (q := 5) rfl ?_
  refine aw_bipush (v := 32) C dX4_init_5 (by decide) (q := 7) rfl ?_
  refine ay_newL (N := 32) C dX4_init_7 (by decide) (rfl) (by decide) (Nat.le_trans (by omega) B.2.2.1) (Nat.le_trans (by omega) B.2.2.2) (q := 9) rfl (fun sk hn_1 _ => ?_)
  show aw G 2 M 9 [.ref r, .ref pl] [.ref sk, .ref r] (ac_up h sk (.inl (2, 32, .inr (.inl (fun _ => 0))))) (0 + 1) (0 + 32)
  obtain ⟨h_2, eh_2⟩ : ∃ z9, z9 = ac_up h sk (.inl (2, 32, .inr (.inl (fun _ => 0)))) := ⟨_, rfl⟩
  rw [← eh_2]
  have n_3 : h sk = none := kp_none kp_rf hn_1 ni0
  have t_4 : r ≠ sk := nw_ne K hn_1
  have f_5 : h_2 r = some (.inr (4, [.null, .null, .int 0, .int 0, .int 0])) := by rw [eh_2, ac_up_n _ _ t_4]; exact K
  have f_6 : h_2 sk = some (.inl (2, 32, .inr (.inl (fun _ => 0)))) := by rw [eh_2]; exact ac_up_s _ _ _
  have kp_7 : kp h h_2 [] := by rw [eh_2]; exact kp_new n_3 kp_rf
  refine pfX4_9_4 C hnm dX4_init_9 f_5 rfl rfl (Nat.le_of_ble_eq_true rfl) (q := 12) rfl ?_
  show aw G 2 M 12 [.ref r, .ref pl] [] (ac_up h_2 r (.inr (4, [.null, .ref sk, .int 0, .int 0, .int 0]))) (0 + 1) (0 + 32)
  obtain ⟨h_8, eh_8⟩ : ∃ z9, z9 = ac_up h_2 r (.inr (4, [.null, .ref sk, .int 0, .int 0, .int 0])) := ⟨_, rfl⟩
  rw [← eh_8]
  have f_9 : h_8 sk = some (.inl (2, 32, .inr (.inl (fun _ => 0)))) := by rw [eh_8, ac_up_n _ _ (Ne.symm t_4)]; exact f_6
  have f_10 : h_8 r = some (.inr (4, [.null, .ref sk, .int 0, .int 0, .int 0])) := by rw [eh_8]; exact ac_up_s _ _ _
  have kp_11 : kp h h_8 [r] := by rw [eh_8]; exact kp_up (kp_cons r kp_7) _ _ (by simp)
  refine aw_aload_n C dX4_init_12 rfl rfl (q := 13) rfl ?_
  refine aw_aload_n C dX4_init_13 rfl rfl (q := 14) rfl ?_
  refine pfX4_15_4 C hnm dX4_init_14 f_10 rfl rfl (Nat.le_of_ble_eq_true rfl) (q := 17) rfl ?_
  show aw G 2 M 17 [.ref r, .ref pl] [] (ac_up h_8 r (.inr (4, [.ref pl, .ref sk, .int 0, .int 0, .int 0]))) (0 + 1) (0 + 32)
  obtain ⟨h_12, eh_12⟩ : ∃ z9, z9 = ac_up h_8 r (.inr (4, [.ref pl, .ref sk, .int 0, .int 0, .int 0])) := ⟨_, rfl⟩
  rw [← eh_12]
  have f_13 : h_12 sk = some (.inl (2, 32, .inr (.inl (fun _ => 0)))) := by rw [eh_12, ac_up_n _ _ (Ne.symm t_4)]; exact f_9
  have f_14 : h_12 r = some (.inr (4, [.ref pl, .ref sk, .int 0, .int 0, .int 0])) := by rw [eh_12]; exact ac_up_s _ _ _
  have kp_15 : kp h h_12 [r] := by rw [eh_12]; exact kp_up kp_11 _ _ (by simp)
  refine aw_vret C E dX4_init_17 (by omega) (by omega) ?_
  exact ⟨rfl, ⟨sk, n_3, f_14, f_13, Nat.zero_le _⟩, kp_15⟩
set_option maxHeartbeats 4000000 in
set_option maxRecDepth 100000 in
theorem c_init5 (G : ac_G) (l : Launch) (h : ac_H) (d : Nat) (r : Nat) (K : h r = some (.inr (5, [.null, .int 0, .null, .null, .null, .int 0, .null]))) : ac_Met G l yX5_init cX5_init 1 none (d + 1) 4 48 [.ref r] h (fun r9 h9 => r9 = none ∧ (∃ b1 b2 b3 b4, [r, b1, b2, b3, b4].Nodup ∧ (∀ a ∈ [b1, b2, b3, b4], h a = none) ∧ h9 r = some (.inr (5, [.null, .int 0, .ref b1, .ref b2, .ref b3, .int 0, .ref b4])) ∧ h9 b1 = some (.inl (1, 12, .inl (fun _ => 0))) ∧ h9 b2 = some (.inl (1, 12, .inl (fun _ => 0))) ∧ h9 b3 = some (.inl (1, 12, .inl (fun _ => 0))) ∧ h9 b4 = some (.inl (1, 12, .inl (fun _ => 0)))) ∧ kp h h9 [r]) := by
  refine ac_of (ls := [.ref r]) (by decide +kernel) rfl (Nat.le_of_ble_eq_true rfl) (fun M hl C B E hnm => ?_)
  refine aw_aload_n C dX5_init_0 rfl rfl (q := 1) rfl ?_
  refine oiX5_3 C B dX5_init_1 (by decide) (by omega) (q := 4) rfl ?_
  refine aw_aload_n C dX5_init_4 rfl rfl (q := 5) rfl ?_
  refine aw_bipush (v := 12) C dX5_init_5 (by decide) (q := 7) rfl ?_
  refine ay_newI (N := 12) C dX5_init_7 (by decide) (rfl) (by decide) (Nat.le_trans (by omega) B.2.2.1) (Nat.le_trans (by omega) B.2.2.2) (q := 9) rfl (fun b1 hn_1 _ => ?_)
  show aw G 1 M 9 [.ref r] [.ref b1, .ref r] (ac_up h b1 (.inl (1, 12, .inl (fun _ => 0)))) (0 + 1) (0 + 12)
  obtain ⟨h_2, eh_2⟩ : ∃ z9, z9 = ac_up h b1 (.inl (1, 12, .inl (fun _ => 0))) := ⟨_, rfl⟩
  rw [← eh_2]
  have n_3 : h b1 = none := kp_none kp_rf hn_1 ni0
  have t_4 : r ≠ b1 := nw_ne K hn_1
  have f_5 : h_2 r = some (.inr (5, [.null, .int 0, .null, .null, .null, .int 0, .null])) := by rw [eh_2, ac_up_n _ _ t_4]; exact K
  have f_6 : h_2 b1 = some (.inl (1, 12, .inl (fun _ => 0))) := by rw [eh_2]; exact ac_up_s _ _ _
  have kp_7 : kp h h_2 [] := by rw [eh_2]; exact kp_new n_3 kp_rf
  refine pfX5_9_5 C hnm dX5_init_9 f_5 rfl rfl (Nat.le_of_ble_eq_true rfl) (q := 12) rfl ?_
  show aw G 1 M 12 [.ref r] [] (ac_up h_2 r (.inr (5, [.null, .int 0, .ref b1, .null, .null, .int 0, .null]))) (0 + 1) (0 + 12)
  obtain ⟨h_8, eh_8⟩ : ∃ z9, z9 = ac_up h_2 r (.inr (5, [.null, .int 0, .ref b1, .null, .null, .int 0, .null])) := ⟨_, rfl⟩
  rw [← eh_8]
  have f_9 : h_8 b1 = some (.inl (1, 12, .inl (fun _ => 0))) := by rw [eh_8, ac_up_n _ _ (Ne.symm t_4)]; exact f_6
  have f_10 : h_8 r = some (.inr (5, [.null, .int 0, .ref b1, .null, .null, .int 0, .null])) := by rw [eh_8]; exact ac_up_s _ _ _
  have kp_11 : kp h h_8 [r] := by rw [eh_8]; exact kp_up (kp_cons r kp_7) _ _ (by simp)
  refine aw_aload_n C dX5_init_12 rfl rfl (q := 13) rfl ?_
  refine aw_bipush (v := 12) C dX5_init_13 (by decide) (q := 15) rfl ?_
  refine ay_newI (N := 12) C dX5_init_15 (by decide) (rfl) (by decide) (Nat.le_trans (by omega) B.2.2.1) (Nat.le_trans (by omega) B.2.2.2) (q := 17) rfl (fun b2 hn_12 _ => ?_)
  show aw G 1 M 17 [.ref r] [.ref b2, .ref r] (ac_up h_8 b2 (.inl (1, 12, .inl (fun _ => 0)))) ((0 + 1) + 1) ((0 + 12) + 12)
  obtain ⟨h_13, eh_13⟩ : ∃ z9, z9 = ac_up h_8 b2 (.inl (1, 12, .inl (fun _ => 0))) := ⟨_, rfl⟩
  rw [← eh_13]
  have n_14 : h b2 = none := kp_none kp_11 hn_12 (ni1 (Ne.symm (nw_ne f_10 hn_12)) ni0)
  have t_15 : r ≠ b2 := nw_ne f_10 hn_12
  have f_16 : h_13 r = some (.inr (5, [.null, .int 0, .ref b1, .null, .null, .int 0, .null])) := by rw [eh_13, ac_up_n _ _ t_15]; exact f_10
  have t_17 : b1 ≠ b2 := nw_ne f_9 hn_12
  have f_18 : h_13 b1 = some (.inl (1, 12, .inl (fun _ => 0))) := by rw [eh_13, ac_up_n _ _ t_17]; exact f_9
  have f_19 : h_13 b2 = some (.inl (1, 12, .inl (fun _ => 0))) := by rw [eh_13]; exact ac_up_s _ _ _
  have kp_20 : kp h h_13 [r] := by rw [eh_13]; exact kp_new n_14 kp_11
  refine pfX5_15_5 C hnm dX5_init_17 f_16 rfl rfl (Nat.le_of_ble_eq_true rfl) (q := 20) rfl ?_
  show aw G 1 M 20 [.ref r] [] (ac_up h_13 r (.inr (5, [.null, .int 0, .ref b1, .ref b2, .null, .int 0, .null]))) ((0 + 1) + 1) ((0 + 12) + 12)
  obtain ⟨h_21, eh_21⟩ : ∃ z9, z9 = ac_up h_13 r (.inr (5, [.null, .int 0, .ref b1, .ref b2, .null, .int 0, .null])) := ⟨_, rfl⟩
  rw [← eh_21]
  have f_22 : h_21 b1 = some (.inl (1, 12, .inl (fun _ => 0))) := by rw [eh_21, ac_up_n _ _ (Ne.symm t_4)]; exact f_18
  have f_23 : h_21 b2 = some (.inl (1, 12, .inl (fun _ => 0))) := by rw [eh_21, ac_up_n _ _ (Ne.symm t_15)]; exact f_19
  have f_24 : h_21 r = some (.inr (5, [.null, .int 0, .ref b1, .ref b2, .null, .int 0, .null])) := by rw [eh_21]; exact ac_up_s _ _ _
  have kp_25 : kp h h_21 [r] := by rw [eh_21]; exact kp_up kp_20 _ _ (by simp)
  refine aw_aload_n C dX5_init_20 rfl rfl (q := 21) rfl ?_
  refine aw_bipush (v := 12) C dX5_init_21 (by decide) (q := 23) rfl ?_
  refine ay_newI (N := 12) C dX5_init_23 (by decide) (rfl) (by decide) (Nat.le_trans (by omega) B.2.2.1) (Nat.le_trans (by omega) B.2.2.2) (q := 25) rfl (fun b3 hn_26 _ => ?_)
  show aw G 1 M 25 [.ref r] [.ref b3, .ref r] (ac_up h_21 b3 (.inl (1, 12, .inl (fun _ => 0)))) (((0 + 1) + 1) + 1) (((0 + 12) + 12) + 12)
  obtain ⟨h_27, eh_27⟩ : ∃ z9, z9 = ac_up h_21 b3 (.inl (1, 12, .inl (fun _ => 0))) := ⟨_, rfl⟩
  rw [← eh_27]
  have n_28 : h b3 = none := kp_none kp_25 hn_26 (ni1 (Ne.symm (nw_ne f_24 hn_26)) ni0)
  have t_29 : r ≠ b3 := nw_ne f_24 hn_26
  have f_30 : h_27 r = some (.inr (5, [.null, .int 0, .ref b1, .ref b2, .null, .int 0, .null])) := by rw [eh_27, ac_up_n _ _ t_29]; exact f_24
  have t_31 : b1 ≠ b3 := nw_ne f_22 hn_26
  have f_32 : h_27 b1 = some (.inl (1, 12, .inl (fun _ => 0))) := by rw [eh_27, ac_up_n _ _ t_31]; exact f_22
  have t_33 : b2 ≠ b3 := nw_ne f_23 hn_26
  have f_34 : h_27 b2 = some (.inl (1, 12, .inl (fun _ => 0))) := by rw [eh_27, ac_up_n _ _ t_33]; exact f_23
  have f_35 : h_27 b3 = some (.inl (1, 12, .inl (fun _ => 0))) := by rw [eh_27]; exact ac_up_s _ _ _
  have kp_36 : kp h h_27 [r] := by rw [eh_27]; exact kp_new n_28 kp_25
  refine pfX5_18_5 C hnm dX5_init_25 f_30 rfl rfl (Nat.le_of_ble_eq_true rfl) (q := 28) rfl ?_
  show aw G 1 M 28 [.ref r] [] (ac_up h_27 r (.inr (5, [.null, .int 0, .ref b1, .ref b2, .ref b3, .int 0, .null]))) (((0 + 1) + 1) + 1) (((0 + 12) + 12) + 12)
  obtain ⟨h_37, eh_37⟩ : ∃ z9, z9 = ac_up h_27 r (.inr (5, [.null, .int 0, .ref b1, .ref b2, .ref b3, .int 0, .null])) := ⟨_, rfl⟩
  rw [← eh_37]
  have f_38 : h_37 b1 = some (.inl (1, 12, .inl (fun _ => 0))) := by rw [eh_37, ac_up_n _ _ (Ne.symm t_4)]; exact f_32
  have f_39 : h_37 b2 = some (.inl (1, 12, .inl (fun _ => 0))) := by rw [eh_37, ac_up_n _ _ (Ne.symm t_15)]; exact f_34
  have f_40 : h_37 b3 = some (.inl (1, 12, .inl (fun _ => 0))) := by rw [eh_37, ac_up_n _ _ (Ne.symm t_29)]; exact f_35
  have f_41 : h_37 r = some (.inr (5, [.null, .int 0, .ref b1, .ref b2, .ref b3, .int 0, .null])) := by rw [eh_37]; exact ac_up_s _ _ _
  have kp_42 : kp h h_37 [r] := by rw [eh_37]; exact kp_up kp_36 _ _ (by simp)
  refine aw_aload_n C dX5_init_28 rfl rfl (q := 29) rfl ?_
  refine aw_bipush (v := 12) C dX5_init_29 (by decide) (q := 31) rfl ?_
  refine ay_newI (N := 12) C dX5_init_31 (by decide) (rfl) (by decide) (Nat.le_trans (by omega) B.2.2.1) (Nat.le_trans (by omega) B.2.2.2) (q := 33) rfl (fun b4 hn_43 _ => ?_)
  show aw G 1 M 33 [.ref r] [.ref b4, .ref r] (ac_up h_37 b4 (.inl (1, 12, .inl (fun _ => 0)))) ((((0 + 1) + 1) + 1) + 1) ((((0 + 12) + 12) + 12) + 12)
  obtain ⟨h_44, eh_44⟩ : ∃ z9, z9 = ac_up h_37 b4 (.inl (1, 12, .inl (fun _ => 0))) := ⟨_, rfl⟩
  rw [← eh_44]
  have n_45 : h b4 = none := kp_none kp_42 hn_43 (ni1 (Ne.symm (nw_ne f_41 hn_43)) ni0)
  have t_46 : r ≠ b4 := nw_ne f_41 hn_43
  have f_47 : h_44 r = some (.inr (5, [.null, .int 0, .ref b1, .ref b2, .ref b3, .int 0, .null])) := by rw [eh_44, ac_up_n _ _ t_46]; exact f_41
  have t_48 : b1 ≠ b4 := nw_ne f_38 hn_43
  have f_49 : h_44 b1 = some (.inl (1, 12, .inl (fun _ => 0))) := by rw [eh_44, ac_up_n _ _ t_48]; exact f_38
  have t_50 : b2 ≠ b4 := nw_ne f_39 hn_43
  have f_51 : h_44 b2 = some (.inl (1, 12, .inl (fun _ => 0))) := by rw [eh_44, ac_up_n _ _ t_50]; exact f_39
  have t_52 : b3 ≠ b4 := nw_ne f_40 hn_43
  have f_53 : h_44 b3 = some (.inl (1, 12, .inl (fun _ => 0))) := by rw [eh_44, ac_up_n _ _ t_52]; exact f_40
  have f_54 : h_44 b4 = some (.inl (1, 12, .inl (fun _ => 0))) := by rw [eh_44]; exact ac_up_s _ _ _
  have kp_55 : kp h h_44 [r] := by rw [eh_44]; exact kp_new n_45 kp_42
  refine pfX5_21_5 C hnm dX5_init_33 f_47 rfl rfl (Nat.le_of_ble_eq_true rfl) (q := 36) rfl ?_
  show aw G 1 M 36 [.ref r] [] (ac_up h_44 r (.inr (5, [.null, .int 0, .ref b1, .ref b2, .ref b3, .int 0, .ref b4]))) ((((0 + 1) + 1) + 1) + 1) ((((0 + 12) + 12) + 12) + 12)
  obtain ⟨h_56, eh_56⟩ : ∃ z9, z9 = ac_up h_44 r (.inr (5, [.null, .int 0, .ref b1, .ref b2, .ref b3, .int 0, .ref b4])) := ⟨_, rfl⟩
  rw [← eh_56]
  have f_57 : h_56 b1 = some (.inl (1, 12, .inl (fun _ => 0))) := by rw [eh_56, ac_up_n _ _ (Ne.symm t_4)]; exact f_49
  have f_58 : h_56 b2 = some (.inl (1, 12, .inl (fun _ => 0))) := by rw [eh_56, ac_up_n _ _ (Ne.symm t_15)]; exact f_51
  have f_59 : h_56 b3 = some (.inl (1, 12, .inl (fun _ => 0))) := by rw [eh_56, ac_up_n _ _ (Ne.symm t_29)]; exact f_53
  have f_60 : h_56 b4 = some (.inl (1, 12, .inl (fun _ => 0))) := by rw [eh_56, ac_up_n _ _ (Ne.symm t_46)]; exact f_54
  have f_61 : h_56 r = some (.inr (5, [.null, .int 0, .ref b1, .ref b2, .ref b3, .int 0, .ref b4])) := by rw [eh_56]; exact ac_up_s _ _ _
  have kp_62 : kp h h_56 [r] := by rw [eh_56]; exact kp_up kp_55 _ _ (by simp)
  refine aw_vret C E dX5_init_36 (by omega) (by omega) ?_
  exact ⟨rfl, ⟨b1, b2, b3, b4, (List.nodup_cons.mpr ⟨(ni1 t_4 (ni1 t_15 (ni1 t_29 (ni1 t_46 ni0)))), (List.nodup_cons.mpr ⟨(ni1 t_17 (ni1 t_31 (ni1 t_48 ni0))), (List.nodup_cons.mpr ⟨(ni1 t_33 (ni1 t_50 ni0)), (List.nodup_cons.mpr ⟨(ni1 t_52 ni0), (List.nodup_cons.mpr ⟨ni0, List.nodup_nil⟩)⟩)⟩)⟩)⟩), (all1 n_3 (all1 n_14 (all1 n_28 (all1 n_45 all0)))), f_61, f_57, f_58, f_59, f_60⟩, kp_62⟩
set_option maxHeartbeats 4000000 in
set_option maxRecDepth 100000 in
theorem c_init2 (G : ac_G) (l : Launch) (h : ac_H) (d : Nat) (r pl rk : Nat) (K : h r = some (.inr (2, [.null, .null, .null, .null, .int 0, .null]))) : ac_Met G l yX2_init cX2_init 3 none (d + 2) 8 1066 [.ref r, .ref pl, .ref rk] h (fun r9 h9 => r9 = none ∧ (∃ ga pa ra, [r, ga, pa, ra].Nodup ∧ (∀ a ∈ [ga, pa, ra], h a = none) ∧ h9 r = some (.inr (2, [.ref pl, .ref rk, .ref ga, .ref ra, .int (-1), .ref pa])) ∧ h9 ga = some (.inl (1, 1024, .inl (fun _ => 0))) ∧ h9 pa = some (.inl (1, 10, .inl (fun _ => 0))) ∧ (∃ e, h9 ra = some e)) ∧ kp h h9 [r]) := by
  refine ac_of (ls := [.ref r, .ref pl, .ref rk]) (by decide +kernel) rfl (Nat.le_of_ble_eq_true rfl) (fun M hl C B E hnm => ?_)
  refine aw_aload_n C dX2_init_0 rfl rfl (q := 1) rfl ?_
  refine oiX2_3 C B dX2_init_1 (by decide) (by omega) (q := 4) rfl ?_
  refine aw_aload_n C dX2_init_4 rfl rfl (q := 5) rfl ?_
  refine aw_sipush (v := 1024) C dX2_init_5 (by decide) (q := 8) rfl ?_
  refine ay_newI (N := 1024) C dX2_init_8 (by decide) (rfl) (by decide) (Nat.le_trans (by omega) B.2.2.1) (Nat.le_trans (by omega) B.2.2.2) (q := 10) rfl (fun ga hn_1 _ => ?_)
  show aw G 3 M 10 [.ref r, .ref pl, .ref rk] [.ref ga, .ref r] (ac_up h ga (.inl (1, 1024, .inl (fun _ => 0)))) (0 + 1) (0 + 1024)
  obtain ⟨h_2, eh_2⟩ : ∃ z9, z9 = ac_up h ga (.inl (1, 1024, .inl (fun _ => 0))) := ⟨_, rfl⟩
  rw [← eh_2]
  have n_3 : h ga = none := kp_none kp_rf hn_1 ni0
  have t_4 : r ≠ ga := nw_ne K hn_1
  have f_5 : h_2 r = some (.inr (2, [.null, .null, .null, .null, .int 0, .null])) := by rw [eh_2, ac_up_n _ _ t_4]; exact K
  have f_6 : h_2 ga = some (.inl (1, 1024, .inl (fun _ => 0))) := by rw [eh_2]; exact ac_up_s _ _ _
  have kp_7 : kp h h_2 [] := by rw [eh_2]; exact kp_new n_3 kp_rf
  refine pfX2_9_2 C hnm dX2_init_10 f_5 rfl rfl (Nat.le_of_ble_eq_true rfl) (q := 13) rfl ?_
  show aw G 3 M 13 [.ref r, .ref pl, .ref rk] [] (ac_up h_2 r (.inr (2, [.null, .null, .ref ga, .null, .int 0, .null]))) (0 + 1) (0 + 1024)
  obtain ⟨h_8, eh_8⟩ : ∃ z9, z9 = ac_up h_2 r (.inr (2, [.null, .null, .ref ga, .null, .int 0, .null])) := ⟨_, rfl⟩
  rw [← eh_8]
  have f_9 : h_8 ga = some (.inl (1, 1024, .inl (fun _ => 0))) := by rw [eh_8, ac_up_n _ _ (Ne.symm t_4)]; exact f_6
  have f_10 : h_8 r = some (.inr (2, [.null, .null, .ref ga, .null, .int 0, .null])) := by rw [eh_8]; exact ac_up_s _ _ _
  have kp_11 : kp h h_8 [r] := by rw [eh_8]; exact kp_up (kp_cons r kp_7) _ _ (by simp)
  refine aw_aload_n C dX2_init_13 rfl rfl (q := 14) rfl ?_
  refine nwX2_15 (fs := [.int 0, .int 0, .null, .null, .null, .null, .null]) C dX2_init_14 dfX6 (Nat.le_trans (by omega) B.2.2.1) (Nat.le_trans (by omega) B.2.2.2) (q := 17) rfl (fun ra hn_12 _ => ?_)
  show aw G 3 M 17 [.ref r, .ref pl, .ref rk] [.ref ra, .ref r] (ac_up h_8 ra (.inr (6, [.int 0, .int 0, .null, .null, .null, .null, .null]))) ((0 + 1) + 1) ((0 + 1024) + 7)
  obtain ⟨h_13, eh_13⟩ : ∃ z9, z9 = ac_up h_8 ra (.inr (6, [.int 0, .int 0, .null, .null, .null, .null, .null])) := ⟨_, rfl⟩
  rw [← eh_13]
  have n_14 : h ra = none := kp_none kp_11 hn_12 (ni1 (Ne.symm (nw_ne f_10 hn_12)) ni0)
  have t_15 : r ≠ ra := nw_ne f_10 hn_12
  have f_16 : h_13 r = some (.inr (2, [.null, .null, .ref ga, .null, .int 0, .null])) := by rw [eh_13, ac_up_n _ _ t_15]; exact f_10
  have t_17 : ga ≠ ra := nw_ne f_9 hn_12
  have f_18 : h_13 ga = some (.inl (1, 1024, .inl (fun _ => 0))) := by rw [eh_13, ac_up_n _ _ t_17]; exact f_9
  have f_19 : h_13 ra = some (.inr (6, [.int 0, .int 0, .null, .null, .null, .null, .null])) := by rw [eh_13]; exact ac_up_s _ _ _
  have kp_20 : kp h h_13 [r] := by rw [eh_13]; exact kp_new n_14 kp_11
  refine aw_dup C dX2_init_17 rfl (q := 18) rfl ?_
  refine aw_iconst (v := 0) C dX2_init_18 (by decide) (q := 19) rfl ?_
  refine ciX2_17 (As := [.int (nI 0)]) (rest := [.ref ra, .ref r]) C B dX2_init_19 (c_init6 G M.2.1 h_13 d ra 0 (by decide) f_19) rfl rfl (Nat.le_of_ble_eq_true rfl) (by omega) (by omega) (by omega) (q := 22) rfl (fun r9 h_21 hr9 => ?_)
  obtain ⟨er9, ⟨L, hL, hnd, hfL, U6⟩, kp6⟩ := hr9
  subst er9
  have f_22 : h_21 r = some (.inr (2, [.null, .null, .ref ga, .null, .int 0, .null])) := kp6 _ _ f_16 (ni1 t_15 ni0)
  have f_23 : h_21 ga = some (.inl (1, 1024, .inl (fun _ => 0))) := kp6 _ _ f_18 (ni1 t_17 ni0)
  have kp_24 : kp h h_21 [r] := by
    refine kp_fr (kp_tr kp_20 kp6) ?_
    intro a ha hn
    simp only [List.mem_append, List.mem_cons, List.not_mem_nil, or_false, false_or] at ha
    rcases ha with z | z
    · exact absurd (by rw [z]; simp) hn
    · rw [z]; exact n_14
  show aw G 3 M 22 [.ref r, .ref pl, .ref rk] [.ref ra, .ref r] h_21 (((0 + 1) + 1) + 5) (((0 + 1024) + 7) + (25 + 2 * 0))
  refine pfX2_20_2 C dX2_init_22 f_22 rfl rfl (Nat.le_of_ble_eq_true rfl) (q := 25) rfl ?_
  show aw G 3 M 25 [.ref r, .ref pl, .ref rk] [] (ac_up h_21 r (.inr (2, [.null, .null, .ref ga, .ref ra, .int 0, .null]))) (((0 + 1) + 1) + 5) (((0 + 1024) + 7) + (25 + 2 * 0))
  obtain ⟨h_25, eh_25⟩ : ∃ z9, z9 = ac_up h_21 r (.inr (2, [.null, .null, .ref ga, .ref ra, .int 0, .null])) := ⟨_, rfl⟩
  rw [← eh_25]
  have f_26 : h_25 ga = some (.inl (1, 1024, .inl (fun _ => 0))) := by rw [eh_25, ac_up_n _ _ (Ne.symm t_4)]; exact f_23
  have f_27 : h_25 ra = some (.inr (6, [.int (nI 0), .int (nI 0), .ref (L.getD 0 0), .ref (L.getD 1 0), .ref (L.getD 2 0), .ref (L.getD 3 0), .ref (L.getD 4 0)])) := by rw [eh_25, ac_up_n _ _ (Ne.symm t_15)]; exact U6.1
  have f_28 : h_25 r = some (.inr (2, [.null, .null, .ref ga, .ref ra, .int 0, .null])) := by rw [eh_25]; exact ac_up_s _ _ _
  have kp_29 : kp h h_25 [r] := by rw [eh_25]; exact kp_up kp_24 _ _ (by simp)
  refine aw_aload_n C dX2_init_25 rfl rfl (q := 26) rfl ?_
  refine aw_iconst (v := (-1)) C dX2_init_26 (by decide) (q := 27) rfl ?_
  refine pfX2_24_2 C dX2_init_27 f_28 rfl rfl (Nat.le_of_ble_eq_true rfl) (q := 30) rfl ?_
  show aw G 3 M 30 [.ref r, .ref pl, .ref rk] [] (ac_up h_25 r (.inr (2, [.null, .null, .ref ga, .ref ra, .int ((-1)), .null]))) (((0 + 1) + 1) + 5) (((0 + 1024) + 7) + (25 + 2 * 0))
  obtain ⟨h_30, eh_30⟩ : ∃ z9, z9 = ac_up h_25 r (.inr (2, [.null, .null, .ref ga, .ref ra, .int ((-1)), .null])) := ⟨_, rfl⟩
  rw [← eh_30]
  have f_31 : h_30 ga = some (.inl (1, 1024, .inl (fun _ => 0))) := by rw [eh_30, ac_up_n _ _ (Ne.symm t_4)]; exact f_26
  have f_32 : h_30 ra = some (.inr (6, [.int (nI 0), .int (nI 0), .ref (L.getD 0 0), .ref (L.getD 1 0), .ref (L.getD 2 0), .ref (L.getD 3 0), .ref (L.getD 4 0)])) := by rw [eh_30, ac_up_n _ _ (Ne.symm t_15)]; exact f_27
  have f_33 : h_30 r = some (.inr (2, [.null, .null, .ref ga, .ref ra, .int ((-1)), .null])) := by rw [eh_30]; exact ac_up_s _ _ _
  have kp_34 : kp h h_30 [r] := by rw [eh_30]; exact kp_up kp_29 _ _ (by simp)
  refine aw_aload_n C dX2_init_30 rfl rfl (q := 31) rfl ?_
  refine aw_bipush (v := 10) C dX2_init_31 (by decide) (q := 33) rfl ?_
  refine ay_newI (N := 10) C dX2_init_33 (by decide) (rfl) (by decide) (Nat.le_trans (by omega) B.2.2.1) (Nat.le_trans (by omega) B.2.2.2) (q := 35) rfl (fun pa hn_35 _ => ?_)
  show aw G 3 M 35 [.ref r, .ref pl, .ref rk] [.ref pa, .ref r] (ac_up h_30 pa (.inl (1, 10, .inl (fun _ => 0)))) ((((0 + 1) + 1) + 5) + 1) ((((0 + 1024) + 7) + (25 + 2 * 0)) + 10)
  obtain ⟨h_36, eh_36⟩ : ∃ z9, z9 = ac_up h_30 pa (.inl (1, 10, .inl (fun _ => 0))) := ⟨_, rfl⟩
  rw [← eh_36]
  have n_37 : h pa = none := kp_none kp_34 hn_35 (ni1 (Ne.symm (nw_ne f_33 hn_35)) ni0)
  have t_38 : r ≠ pa := nw_ne f_33 hn_35
  have f_39 : h_36 r = some (.inr (2, [.null, .null, .ref ga, .ref ra, .int ((-1)), .null])) := by rw [eh_36, ac_up_n _ _ t_38]; exact f_33
  have t_40 : ga ≠ pa := nw_ne f_31 hn_35
  have f_41 : h_36 ga = some (.inl (1, 1024, .inl (fun _ => 0))) := by rw [eh_36, ac_up_n _ _ t_40]; exact f_31
  have t_42 : ra ≠ pa := nw_ne f_32 hn_35
  have f_43 : h_36 ra = some (.inr (6, [.int (nI 0), .int (nI 0), .ref (L.getD 0 0), .ref (L.getD 1 0), .ref (L.getD 2 0), .ref (L.getD 3 0), .ref (L.getD 4 0)])) := by rw [eh_36, ac_up_n _ _ t_42]; exact f_32
  have f_44 : h_36 pa = some (.inl (1, 10, .inl (fun _ => 0))) := by rw [eh_36]; exact ac_up_s _ _ _
  have kp_45 : kp h h_36 [r] := by rw [eh_36]; exact kp_new n_37 kp_34
  refine pfX2_28_2 C hnm dX2_init_35 f_39 rfl rfl (Nat.le_of_ble_eq_true rfl) (q := 38) rfl ?_
  show aw G 3 M 38 [.ref r, .ref pl, .ref rk] [] (ac_up h_36 r (.inr (2, [.null, .null, .ref ga, .ref ra, .int ((-1)), .ref pa]))) ((((0 + 1) + 1) + 5) + 1) ((((0 + 1024) + 7) + (25 + 2 * 0)) + 10)
  obtain ⟨h_46, eh_46⟩ : ∃ z9, z9 = ac_up h_36 r (.inr (2, [.null, .null, .ref ga, .ref ra, .int ((-1)), .ref pa])) := ⟨_, rfl⟩
  rw [← eh_46]
  have f_47 : h_46 ga = some (.inl (1, 1024, .inl (fun _ => 0))) := by rw [eh_46, ac_up_n _ _ (Ne.symm t_4)]; exact f_41
  have f_48 : h_46 ra = some (.inr (6, [.int (nI 0), .int (nI 0), .ref (L.getD 0 0), .ref (L.getD 1 0), .ref (L.getD 2 0), .ref (L.getD 3 0), .ref (L.getD 4 0)])) := by rw [eh_46, ac_up_n _ _ (Ne.symm t_15)]; exact f_43
  have f_49 : h_46 pa = some (.inl (1, 10, .inl (fun _ => 0))) := by rw [eh_46, ac_up_n _ _ (Ne.symm t_38)]; exact f_44
  have f_50 : h_46 r = some (.inr (2, [.null, .null, .ref ga, .ref ra, .int ((-1)), .ref pa])) := by rw [eh_46]; exact ac_up_s _ _ _
  have kp_51 : kp h h_46 [r] := by rw [eh_46]; exact kp_up kp_45 _ _ (by simp)
  refine aw_aload_n C dX2_init_38 rfl rfl (q := 39) rfl ?_
  refine aw_aload_n C dX2_init_39 rfl rfl (q := 40) rfl ?_
  refine pfX2_31_2 C hnm dX2_init_40 f_50 rfl rfl (Nat.le_of_ble_eq_true rfl) (q := 43) rfl ?_
  show aw G 3 M 43 [.ref r, .ref pl, .ref rk] [] (ac_up h_46 r (.inr (2, [.ref pl, .null, .ref ga, .ref ra, .int ((-1)), .ref pa]))) ((((0 + 1) + 1) + 5) + 1) ((((0 + 1024) + 7) + (25 + 2 * 0)) + 10)
  obtain ⟨h_52, eh_52⟩ : ∃ z9, z9 = ac_up h_46 r (.inr (2, [.ref pl, .null, .ref ga, .ref ra, .int ((-1)), .ref pa])) := ⟨_, rfl⟩
  rw [← eh_52]
  have f_53 : h_52 ga = some (.inl (1, 1024, .inl (fun _ => 0))) := by rw [eh_52, ac_up_n _ _ (Ne.symm t_4)]; exact f_47
  have f_54 : h_52 ra = some (.inr (6, [.int (nI 0), .int (nI 0), .ref (L.getD 0 0), .ref (L.getD 1 0), .ref (L.getD 2 0), .ref (L.getD 3 0), .ref (L.getD 4 0)])) := by rw [eh_52, ac_up_n _ _ (Ne.symm t_15)]; exact f_48
  have f_55 : h_52 pa = some (.inl (1, 10, .inl (fun _ => 0))) := by rw [eh_52, ac_up_n _ _ (Ne.symm t_38)]; exact f_49
  have f_56 : h_52 r = some (.inr (2, [.ref pl, .null, .ref ga, .ref ra, .int ((-1)), .ref pa])) := by rw [eh_52]; exact ac_up_s _ _ _
  have kp_57 : kp h h_52 [r] := by rw [eh_52]; exact kp_up kp_51 _ _ (by simp)
  refine aw_aload_n C dX2_init_43 rfl rfl (q := 44) rfl ?_
  refine aw_aload_n C dX2_init_44 rfl rfl (q := 45) rfl ?_
  refine pfX2_35_2 C hnm dX2_init_45 f_56 rfl rfl (Nat.le_of_ble_eq_true rfl) (q := 48) rfl ?_
  show aw G 3 M 48 [.ref r, .ref pl, .ref rk] [] (ac_up h_52 r (.inr (2, [.ref pl, .ref rk, .ref ga, .ref ra, .int ((-1)), .ref pa]))) ((((0 + 1) + 1) + 5) + 1) ((((0 + 1024) + 7) + (25 + 2 * 0)) + 10)
  obtain ⟨h_58, eh_58⟩ : ∃ z9, z9 = ac_up h_52 r (.inr (2, [.ref pl, .ref rk, .ref ga, .ref ra, .int ((-1)), .ref pa])) := ⟨_, rfl⟩
  rw [← eh_58]
  have f_59 : h_58 ga = some (.inl (1, 1024, .inl (fun _ => 0))) := by rw [eh_58, ac_up_n _ _ (Ne.symm t_4)]; exact f_53
  have f_60 : h_58 ra = some (.inr (6, [.int (nI 0), .int (nI 0), .ref (L.getD 0 0), .ref (L.getD 1 0), .ref (L.getD 2 0), .ref (L.getD 3 0), .ref (L.getD 4 0)])) := by rw [eh_58, ac_up_n _ _ (Ne.symm t_15)]; exact f_54
  have f_61 : h_58 pa = some (.inl (1, 10, .inl (fun _ => 0))) := by rw [eh_58, ac_up_n _ _ (Ne.symm t_38)]; exact f_55
  have f_62 : h_58 r = some (.inr (2, [.ref pl, .ref rk, .ref ga, .ref ra, .int ((-1)), .ref pa])) := by rw [eh_58]; exact ac_up_s _ _ _
  have kp_63 : kp h h_58 [r] := by rw [eh_58]; exact kp_up kp_57 _ _ (by simp)
  refine aw_vret C E dX2_init_48 (by omega) (by omega) ?_
  exact ⟨rfl, ⟨ga, pa, ra, (List.nodup_cons.mpr ⟨(ni1 t_4 (ni1 t_38 (ni1 t_15 ni0))), (List.nodup_cons.mpr ⟨(ni1 t_40 (ni1 t_17 ni0)), (List.nodup_cons.mpr ⟨(ni1 (Ne.symm t_42) ni0), (List.nodup_cons.mpr ⟨ni0, List.nodup_nil⟩)⟩)⟩)⟩), (all1 n_3 (all1 n_37 (all1 n_14 all0))), f_62, f_59, f_61, ⟨_, f_60⟩⟩, kp_63⟩
