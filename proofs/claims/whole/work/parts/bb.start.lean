/-! The law from its entry -/
theorem dfX8 : ∀ j, j < 12 → defaultValue (tyX8 j) = vp_V [.null, .null, .null, .null, .null, .null, .null, .null, .null, .int 0, .null, .null] j := by
  intro j hj
  rcases (show j = 0 ∨ j = 1 ∨ j = 2 ∨ j = 3 ∨ j = 4 ∨ j = 5 ∨ j = 6 ∨ j = 7 ∨ j = 8 ∨ j = 9 ∨ j = 10 ∨ j = 11 from by omega) with rfl | rfl | rfl | rfl | rfl | rfl | rfl | rfl | rfl | rfl | rfl | rfl <;> rfl
theorem dfX9 : ∀ j, j < 44 → defaultValue (tyX9 j) = vp_V [.int 0, .null, .int 0, .int 0, .int 0, .null, .null, .null, .null, .null, .null, .int 0, .null, .null, .int 0, .int 0, .null, .int 0, .int 0, .int 0, .int 0, .null, .null, .null, .null, .null, .null, .null, .int 0, .int 0, .int 0, .int 0, .int 0, .null, .int 0, .null, .null, .null, .null, .null, .null, .int 0, .null, .null] j := by
  intro j hj
  rcases (show j = 0 ∨ j = 1 ∨ j = 2 ∨ j = 3 ∨ j = 4 ∨ j = 5 ∨ j = 6 ∨ j = 7 ∨ j = 8 ∨ j = 9 ∨ j = 10 ∨ j = 11 ∨ j = 12 ∨ j = 13 ∨ j = 14 ∨ j = 15 ∨ j = 16 ∨ j = 17 ∨ j = 18 ∨ j = 19 ∨ j = 20 ∨ j = 21 ∨ j = 22 ∨ j = 23 ∨ j = 24 ∨ j = 25 ∨ j = 26 ∨ j = 27 ∨ j = 28 ∨ j = 29 ∨ j = 30 ∨ j = 31 ∨ j = 32 ∨ j = 33 ∨ j = 34 ∨ j = 35 ∨ j = 36 ∨ j = 37 ∨ j = 38 ∨ j = 39 ∨ j = 40 ∨ j = 41 ∨ j = 42 ∨ j = 43 from by omega) with rfl | rfl | rfl | rfl | rfl | rfl | rfl | rfl | rfl | rfl | rfl | rfl | rfl | rfl | rfl | rfl | rfl | rfl | rfl | rfl | rfl | rfl | rfl | rfl | rfl | rfl | rfl | rfl | rfl | rfl | rfl | rfl | rfl | rfl | rfl | rfl | rfl | rfl | rfl | rfl | rfl | rfl | rfl | rfl <;> rfl
theorem ad_some {h : ac_H} {ad : Nat → Nat} (K : h (ad 0) = some (.inr (8, gt_fs ad .null 0)) ∧ pl_ok h (ad 1) (pA ad) (fun _ => 0) (fun _ _ => 0) 0 ∧ (∃ v4, h (ad 8) = some (cu_ob 3 (ad 9) 0 0 (.ref (ad 10)) v4)) ∧ h (ad 9) = some (.inl (0, 300, .inl (fun _ => 0))) ∧ h (ad 10) = some (.inl (3, 300, .inl (fun _ => 0))) ∧ rk_ok h (ad 11) (ad 1) (ad 12) (fun _ => 0, 0) 0 0 ∧ (∃ u0, h (ad 13) = some (wk_ob u0 (ad 1) 0 0 false)) ∧ rp_ok h ad .null 0 0 (fun _ _ => 0) ∧ (∃ ra, rz_ok h ad ra (-1) (fun _ => 0) (fun _ => 0)) ∧ h (ad 22) = some (.inl (4, 4, .inr (.inr (.inr (.inr (fun _ => none)))))) ∧ h (ad 23) = some (.inl (2, 4, .inr (.inl (fun _ => 0)))) ∧ h (ad 24) = some (.inl (2, 11, .inr (.inl (fun _ => 0)))) ∧ h (ad 25) = some (.inl (1, 100, .inl (fun _ => 0)))) : ∀ i, i < 26 → ∃ e, h (ad i) = some e := by
  obtain ⟨k0, k1, ⟨v4, k8⟩, k9, k10, k11, ⟨u0, k13⟩, k14, ⟨ra, k19⟩, k22, k23, k24, k25⟩ := K
  intro i hi
  rcases (show i = 0 ∨ i = 1 ∨ (2 ≤ i ∧ i < 8) ∨ i = 8 ∨ i = 9 ∨ i = 10 ∨ i = 11 ∨ i = 12 ∨ i = 13 ∨ i = 14 ∨ (15 ≤ i ∧ i < 19) ∨ i = 19 ∨ i = 20 ∨ i = 21 ∨ i = 22 ∨ i = 23 ∨ i = 24 ∨ i = 25 by omega) with rfl | rfl | ⟨a1, a2⟩ | rfl | rfl | rfl | rfl | rfl | rfl | rfl | ⟨a1, a2⟩ | rfl | rfl | rfl | rfl | rfl | rfl | rfl
  · exact ⟨_, k0⟩
  · exact ⟨_, k1.1⟩
  · have := k1.2.1 (i + 3) (by omega) (by omega)
    exact ⟨_, this⟩
  · exact ⟨_, k8⟩
  · exact ⟨_, k9⟩
  · exact ⟨_, k10⟩
  · exact ⟨_, k11.1⟩
  · exact ⟨_, k11.2.1⟩
  · exact ⟨_, k13⟩
  · exact ⟨_, k14.1⟩
  · exact ⟨_, k14.2 i a1 a2⟩
  · exact ⟨_, k19.1⟩
  · exact ⟨_, k19.2.1⟩
  · exact ⟨_, k19.2.2⟩
  · exact ⟨_, k22⟩
  · exact ⟨_, k23⟩
  · exact ⟨_, k24⟩
  · exact ⟨_, k25⟩
theorem law_start {G : ac_G} {M : ac_M} {b L : Nat} {xs : Nat → Int32} (C : ac_MC G RL cL_law 8 (some .boolean) M) (B : ac_Bd M 100 4000 500000) (hst : M.2.1.stackTraces = false) (hX : va_X b L xs (ac_St M) (ac_St M).heap) (hbl : b < (ac_St M).heap.size) (hbA : ¬ ac_A G b) (hL : L ≤ 3584) (hend : ∀ (h : ac_H) (k n : Nat) (ls : List Value), k ≤ 4000 → n ≤ 500000 → aw G 8 M 1201 ls [.int 1] h k n) : aw G 8 M 0 [.ref b, .retAddr 0, .retAddr 0, .retAddr 0, .retAddr 0, .retAddr 0, .retAddr 0, .retAddr 0] [] (fun _ => none) 0 0 := by
  have hc := B.2.2.1
  have hs := B.2.2.2
  refine nwL_8 (fs := [.null, .null, .null, .null, .null, .null, .null, .null, .null, .int 0, .null, .null]) C dL_law_0 dfX8 (Nat.le_trans (by omega) B.2.2.1) (Nat.le_trans (by omega) B.2.2.2) (q := 3) rfl (fun x hx0 _ => ?_)
  refine aw_dup C dL_law_3 rfl (q := 4) rfl ?_
  refine ciL_61 (As := []) (rest := [.ref x]) C B dL_law_4 (c_init8 G M.2.1 _ 0 x (ac_up_s _ _ _)) rfl rfl (Nat.le_of_ble_eq_true rfl) (by omega) (by omega) (by omega) (q := 7) rfl (fun r h2 hr => ?_)
  obtain ⟨er, ad, e0, i1, hfree, k0, k1, k8, k9, k10, k11, k13, k14, k19, k22, k23, k24, k25, kq0⟩ := hr
  subst er
  subst e0
  show aw G 8 M 7 [.ref b, .retAddr 0, .retAddr 0, .retAddr 0, .retAddr 0, .retAddr 0, .retAddr 0, .retAddr 0] [.ref (ad 0)] h2 (0 + 1 + 38) (0 + 12 + 1996)
  have K := And.intro k0 (And.intro k1 (And.intro k8 (And.intro k9 (And.intro k10 (And.intro k11 (And.intro k13 (And.intro k14 (And.intro k19 (And.intro k22 (And.intro k23 (And.intro k24 k25)))))))))))
  have hsm := ad_some K
  refine aw_astore_n (ls' := [.ref b, .ref (ad 0), .retAddr 0, .retAddr 0, .retAddr 0, .retAddr 0, .retAddr 0, .retAddr 0]) C dL_law_7 rfl (by decide) rfl (q := 8) rfl ?_
  refine nwL_62 (fs := [.int 0, .null, .int 0, .int 0, .int 0, .null, .null, .null, .null, .null, .null, .int 0, .null, .null, .int 0, .int 0, .null, .int 0, .int 0, .int 0, .int 0, .null, .null, .null, .null, .null, .null, .null, .int 0, .int 0, .int 0, .int 0, .int 0, .null, .int 0, .null, .null, .null, .null, .null, .null, .int 0, .null, .null]) C dL_law_8 dfX9 (Nat.le_trans (by omega) B.2.2.1) (Nat.le_trans (by omega) B.2.2.2) (q := 11) rfl (fun o ho0 _ => ?_)
  refine aw_dup C dL_law_11 rfl (q := 12) rfl ?_
  obtain ⟨h3, eh3⟩ : ∃ z, z = ac_up h2 o (.inr (9, [.int 0, .null, .int 0, .int 0, .int 0, .null, .null, .null, .null, .null, .null, .int 0, .null, .null, .int 0, .int 0, .null, .int 0, .int 0, .int 0, .int 0, .null, .null, .null, .null, .null, .null, .null, .int 0, .int 0, .int 0, .int 0, .int 0, .null, .int 0, .null, .null, .null, .null, .null, .null, .int 0, .null, .null])) := ⟨_, rfl⟩
  rw [← eh3]
  have ho3 : h3 o = some (.inr (9, [.int 0, .null, .int 0, .int 0, .int 0, .null, .null, .null, .null, .null, .null, .int 0, .null, .null, .int 0, .int 0, .null, .int 0, .int 0, .int 0, .int 0, .null, .null, .null, .null, .null, .null, .null, .int 0, .int 0, .int 0, .int 0, .int 0, .null, .int 0, .null, .null, .null, .null, .null, .null, .int 0, .null, .null])) := by rw [eh3]; exact ac_up_s _ _ _
  have kq3 : kp h2 h3 [] := by rw [eh3]; exact kp_new ho0 kp_rf
  refine ciL_64 (As := []) (rest := [.ref o]) C B dL_law_12 (m_init G M.2.1 h3 0 o ho3) rfl rfl (Nat.le_of_ble_eq_true rfl) (by omega) (by omega) (by omega) (q := 15) rfl (fun r h4 hr => ?_)
  obtain ⟨er, md, i2, hf2, m1, kq4⟩ := hr
  subst er
  show aw G 8 M 15 [.ref b, .ref (ad 0), .retAddr 0, .retAddr 0, .retAddr 0, .retAddr 0, .retAddr 0, .retAddr 0] [.ref o] h4 (0 + 1 + 38 + 1 + 26) (0 + 12 + 1996 + 44 + 8719)
  refine aw_astore_n (ls' := [.ref b, .ref (ad 0), .ref o, .retAddr 0, .retAddr 0, .retAddr 0, .retAddr 0, .retAddr 0]) C dL_law_15 rfl (by decide) rfl (q := 16) rfl ?_
  refine aw_iconst (v := 1) C dL_law_16 (by decide) (q := 17) rfl ?_
  refine ay_newL (N := 1) C dL_law_17 (by decide) (by decide) (by decide) (Nat.le_trans (by omega) B.2.2.1) (Nat.le_trans (by omega) B.2.2.2) (q := 19) rfl (fun u hu0 _ => ?_)
  have ao : ∀ i, i < 26 → ad i ≠ o := fun i hi => nw_ne (hsm i hi).choose_spec ho0
  have kq24 : kp h2 h4 [o] := kp_mono (kp_tr kq3 kq4) (fun a ha => ha)
  have hsm4 : ∀ i, i < 26 → ∃ e, h4 (ad i) = some e := fun i hi => ⟨_, kq24 _ _ (hsm i hi).choose_spec (fun z => ao i hi (List.mem_singleton.mp z))⟩
  have i3 : apm ad o md := fun i hi z => by
    rcases List.mem_cons.mp z with z | z
    · exact ao i hi z
    · obtain ⟨j, hj, e⟩ := List.mem_map.mp z
      have h1 : h3 (ad i) = some (hsm i hi).choose := kq3 _ _ (hsm i hi).choose_spec (fun y => by cases y)
      have h2' := hf2 j hj
      rw [e, h1] at h2'
      cases h2'
  have J := j_new i1 i2 i3 K m1 kq24 (fun i hi z => ao i hi (List.mem_singleton.mp z))
  have ua : u ∉ (List.range 26).map ad := fun z => by
    obtain ⟨i, hi, e⟩ := List.mem_map.mp z
    obtain ⟨e1, h1⟩ := hsm4 i (List.mem_range.mp hi)
    exact nw_ne h1 hu0 e
  have um : u ∉ md_L o md := fun z => by
    rcases List.mem_cons.mp z with z | z
    · exact nw_ne m1.1 hu0 z.symm
    · obtain ⟨j, hj, e⟩ := List.mem_map.mp z
      rcases List.mem_append.mp hj with hj | hj
      · exact nw_ne (m1.2.1 j hj) hu0 e
      · exact nw_ne (m1.2.2 j hj) hu0 e
  have J5 := gJ_kpl (h2 := ac_up h4 u (.inl (2, 1, .inr (.inl (fun _ => 0))))) J (fun a e ha _ => by rw [ac_up_n _ _ (nw_ne ha hu0)]; exact ha)
  refine aw_astore_n (ls' := [.ref b, .ref (ad 0), .ref o, .ref u, .retAddr 0, .retAddr 0, .retAddr 0, .retAddr 0]) C dL_law_19 rfl (by decide) rfl (q := 20) rfl ?_
  refine aw_iconst (v := nI (7 * 0)) C dL_law_20 (by decide) (q := 21) rfl ?_
  refine aw_istore (ls' := [.ref b, .ref (ad 0), .ref o, .ref u, .int (nI (7 * 0)), .retAddr 0, .retAddr 0, .retAddr 0]) C dL_law_21 (by decide) rfl (q := 23) rfl ?_
  exact law_loop ⟨C, B, hst, hX, hbl, hbA, hL, ua, um⟩ hend L 0 _ _ _ _ _ _ (by omega) (by omega) ⟨_, _, J5, ac_up_s _ _ _⟩ (by omega) (by omega)
