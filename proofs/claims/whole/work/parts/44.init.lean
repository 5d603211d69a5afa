/-! GradeTexts: the constructor -/
theorem aw_newq {G : ac_G} {own : String} {cc : ByteArray} {nL : Nat} {ret : Option FieldType} {M : ac_M} {pc q : Nat} {ls st : List Value} {h : ac_H} {k n : Nat} {N i : Nat} {x : Int32} (C : ac_MC G own cc nL ret M) (d : decode cc pc = .ok (.anewarray i, 3)) (hw : Cond.classLink own i RX6 ∈ ac_ws) (hx : ¬ x < 0) (hN : x.toNatClampNeg = N) (hb : N * 4 ≤ 536870912) (hk : k + 1 ≤ (ac_Rm M).cells) (hn : n + N ≤ (ac_Rm M).slots) (hq : pc + 3 = q)
    (kk : ∀ a, h a = none → G.2.2.1 ≤ a → aw G nL M q ls (.ref a :: st) (ac_up h a (.inl (4, N, .inr (.inr (.inr (.inr (fun _ => none))))))) (k + 1) (n + N)) : aw G nL M pc ls (.int x :: st) h k n := by
  subst hq
  intro H locs la hR hS hL
  obtain ⟨ws, hP, hD, hg⟩ := id hR
  refine va_newq C.x C.b C.ow (C.ws _ hw) C.U.2.2.2.2.2.2.2 C.K hP hD hS (fun z hz => Nat.le_trans C.U.2.1 hz) hx hN hb hk hn d (fun a cA H1 hK1 hP1 hD1 hS1 => ?_)
  have e1 : va_RA (ac_St M) cA (.object RX6) := (hK1.2 (ac_T G.2.1).length (cA, .object RX6) (by simp)).2
  have e2 : va_RA (ac_St M) (G.2.1 4) (.object RX6) := (C.K.2 4 (G.2.1 4, .object RX6) rfl).2
  have e3 : cA = G.2.1 4 := by
    obtain ⟨_, _, _, _, _, y1⟩ := e1
    obtain ⟨_, _, _, _, _, y2⟩ := e2
    exact Option.some.inj (y1.symm.trans y2)
  subst e3
  exact kk a (hg.fresh hD1) (hD1.2 ws.length (a, .inl (G.2.1 4, N, .inr (.inr (.inr (.inr (fun _ => none)))))) (by simp)) H1 locs la ⟨_, hP1, hD1, ac_g.push (e := .inl (4, N, .inr (.inr (.inr (.inr (fun _ => none)))))) hg⟩ hS1 hL
theorem nd_ne {L : List Nat} (h : L.Nodup) (i j : Nat) (hij : i ≠ j) {a b : Nat} (hi : L[i]? = some a) (hj : L[j]? = some b) : a ≠ b := by
  obtain ⟨h1, e1⟩ := List.getElem?_eq_some_iff.mp hi
  obtain ⟨h2, e2⟩ := List.getElem?_eq_some_iff.mp hj
  rw [← e1, ← e2]
  rcases Nat.lt_or_gt_of_ne hij with z | z
  · exact (List.pairwise_iff_getElem.mp h) i j h1 h2 z
  · exact Ne.symm ((List.pairwise_iff_getElem.mp h) j i h2 h1 z)
theorem len6 {L : List Nat} (h : L.length = 6) : ∃ a b c d e f, L = [a, b, c, d, e, f] := by
  match L, h with
  | [a, b, c, d, e, f], _ => exact ⟨a, b, c, d, e, f, rfl⟩
theorem dfX1 : ∀ j, j < 11 → defaultValue (tyX1 j) = vp_V [.int 0, .int 0, .int 0, .int 0, .int 0, .null, .null, .null, .null, .null, .null] j := by
  intro j hj
  rcases (show j = 0 ∨ j = 1 ∨ j = 2 ∨ j = 3 ∨ j = 4 ∨ j = 5 ∨ j = 6 ∨ j = 7 ∨ j = 8 ∨ j = 9 ∨ j = 10 from by omega) with rfl | rfl | rfl | rfl | rfl | rfl | rfl | rfl | rfl | rfl | rfl <;> rfl
theorem dfX3 : ∀ j, j < 5 → defaultValue (tyX3 j) = vp_V [.null, .int 0, .int 0, .null, .null] j := by
  intro j hj
  rcases (show j = 0 ∨ j = 1 ∨ j = 2 ∨ j = 3 ∨ j = 4 from by omega) with rfl | rfl | rfl | rfl | rfl <;> rfl
theorem dfX4 : ∀ j, j < 5 → defaultValue (tyX4 j) = vp_V [.null, .null, .int 0, .int 0, .int 0] j := by
  intro j hj
  rcases (show j = 0 ∨ j = 1 ∨ j = 2 ∨ j = 3 ∨ j = 4 from by omega) with rfl | rfl | rfl | rfl | rfl <;> rfl
theorem dfX7 : ∀ j, j < 5 → defaultValue (tyX7 j) = vp_V [.null, .int 0, .int 0, .null, .int 0] j := by
  intro j hj
  rcases (show j = 0 ∨ j = 1 ∨ j = 2 ∨ j = 3 ∨ j = 4 from by omega) with rfl | rfl | rfl | rfl | rfl <;> rfl
theorem dfX5 : ∀ j, j < 7 → defaultValue (tyX5 j) = vp_V [.null, .int 0, .null, .null, .null, .int 0, .null] j := by
  intro j hj
  rcases (show j = 0 ∨ j = 1 ∨ j = 2 ∨ j = 3 ∨ j = 4 ∨ j = 5 ∨ j = 6 from by omega) with rfl | rfl | rfl | rfl | rfl | rfl | rfl <;> rfl
theorem dfX2 : ∀ j, j < 6 → defaultValue (tyX2 j) = vp_V [.null, .null, .null, .null, .int 0, .null] j := by
  intro j hj
  rcases (show j = 0 ∨ j = 1 ∨ j = 2 ∨ j = 3 ∨ j = 4 ∨ j = 5 from by omega) with rfl | rfl | rfl | rfl | rfl | rfl <;> rfl
/-- GradeTexts' fields -/
abbrev gt_fs (ad : Nat → Nat) (v6 : Value) (ec : Nat) : List Value := [.ref (ad 1), .ref (ad 8), .ref (ad 11), .ref (ad 13), .ref (ad 14), .ref (ad 19), v6, .ref (ad 22), .ref (ad 23), .int (nI ec), .ref (ad 24), .ref (ad 25)]
set_option maxHeartbeats 4000000 in
set_option maxRecDepth 100000 in
theorem c_init8 (G : ac_G) (l : Launch) (h : ac_H) (d : Nat) (x : Nat) (K : h x = some (.inr (8, [.null, .null, .null, .null, .null, .null, .null, .null, .null, .int 0, .null, .null]))) : ac_Met G l yX8_init cX8_init 1 none (d + 4) 38 1996 [.ref x] h (fun r9 h9 => r9 = none ∧ (∃ ad : Nat → Nat, ad 0 = x ∧ inj ad 26 ∧ (∀ j, 1 ≤ j → j < 26 → h (ad j) = none) ∧ h9 (ad 0) = some (.inr (8, gt_fs ad .null 0)) ∧ pl_ok h9 (ad 1) (pA ad) (fun _ => 0) (fun _ _ => 0) 0 ∧ (∃ v4, h9 (ad 8) = some (cu_ob 3 (ad 9) 0 0 (.ref (ad 10)) v4)) ∧ h9 (ad 9) = some (.inl (0, 300, .inl (fun _ => 0))) ∧ h9 (ad 10) = some (.inl (3, 300, .inl (fun _ => 0))) ∧ rk_ok h9 (ad 11) (ad 1) (ad 12) (fun _ => 0, 0) 0 0 ∧ (∃ u0, h9 (ad 13) = some (wk_ob u0 (ad 1) 0 0 false)) ∧ rp_ok h9 ad .null 0 0 (fun _ _ => 0) ∧ (∃ ra, rz_ok h9 ad ra (-1) (fun _ => 0) (fun _ => 0)) ∧ h9 (ad 22) = some (.inl (4, 4, .inr (.inr (.inr (.inr (fun _ => none)))))) ∧ h9 (ad 23) = some (.inl (2, 4, .inr (.inl (fun _ => 0)))) ∧ h9 (ad 24) = some (.inl (2, 11, .inr (.inl (fun _ => 0)))) ∧ h9 (ad 25) = some (.inl (1, 100, .inl (fun _ => 0))) ∧ kp h h9 [x])) := by
  refine ac_of (ls := [.ref x]) (by decide +kernel) rfl (Nat.le_of_ble_eq_true rfl) (fun M hl C B E hnm => ?_)
  refine aw_aload_n C dX8_init_0 rfl rfl (q := 1) rfl ?_
  refine oiX8_3 C B dX8_init_1 (by decide) (by omega) (q := 4) rfl ?_
  refine aw_aload_n C dX8_init_4 rfl rfl (q := 5) rfl ?_
  refine nwX8_9 (fs := [.int 0, .int 0, .int 0, .int 0, .int 0, .null, .null, .null, .null, .null, .null]) C dX8_init_5 dfX1 (Nat.le_trans (by omega) B.2.2.1) (Nat.le_trans (by omega) B.2.2.2) (q := 8) rfl (fun p hn_1 _ => ?_)
  show aw G 1 M 8 [.ref x] [.ref p, .ref x] (ac_up h p (.inr (1, [.int 0, .int 0, .int 0, .int 0, .int 0, .null, .null, .null, .null, .null, .null]))) (0 + 1) (0 + 11)
  obtain ⟨h_2, eh_2⟩ : ∃ z9, z9 = ac_up h p (.inr (1, [.int 0, .int 0, .int 0, .int 0, .int 0, .null, .null, .null, .null, .null, .null])) := ⟨_, rfl⟩
  rw [← eh_2]
  have n_3 : h p = none := kp_none kp_rf hn_1 ni0
  have t_4 : x ≠ p := nw_ne K hn_1
  have f_5 : h_2 x = some (.inr (8, [.null, .null, .null, .null, .null, .null, .null, .null, .null, .int 0, .null, .null])) := by rw [eh_2, ac_up_n _ _ t_4]; exact K
  have f_6 : h_2 p = some (.inr (1, [.int 0, .int 0, .int 0, .int 0, .int 0, .null, .null, .null, .null, .null, .null])) := by rw [eh_2]; exact ac_up_s _ _ _
  have kp_7 : kp h h_2 [] := by rw [eh_2]; exact kp_new n_3 kp_rf
  refine aw_dup C dX8_init_8 rfl (q := 9) rfl ?_
  refine ciX8_11 (As := []) (rest := [.ref p, .ref x]) C B dX8_init_9 (c_init1 G M.2.1 h_2 d p f_6) rfl rfl (Nat.le_of_ble_eq_true rfl) (by omega) (by omega) (by omega) (q := 12) rfl (fun r9 h_8 hr9 => ?_)
  obtain ⟨er9, ⟨L, hL, hnd, hfL, Kp⟩, kp1⟩ := hr9
  subst er9
  obtain ⟨a2, a3, a4, a5, a6, a7, rfl⟩ := len6 hL
  have f_9 : h_8 x = some (.inr (8, [.null, .null, .null, .null, .null, .null, .null, .null, .null, .int 0, .null, .null])) := kp1 _ _ f_5 (ni1 t_4 ni0)
  have t_10 : x ≠ a2 := nw_ne f_5 (hfL a2 (by simp))
  have t_11 : p ≠ a2 := nw_ne f_6 (hfL a2 (by simp))
  have n_12 : h a2 = none := kp_none kp_7 (hfL a2 (by simp)) ni0
  have t_13 : x ≠ a3 := nw_ne f_5 (hfL a3 (by simp))
  have t_14 : p ≠ a3 := nw_ne f_6 (hfL a3 (by simp))
  have n_15 : h a3 = none := kp_none kp_7 (hfL a3 (by simp)) ni0
  have t_16 : x ≠ a4 := nw_ne f_5 (hfL a4 (by simp))
  have t_17 : p ≠ a4 := nw_ne f_6 (hfL a4 (by simp))
  have n_18 : h a4 = none := kp_none kp_7 (hfL a4 (by simp)) ni0
  have t_19 : x ≠ a5 := nw_ne f_5 (hfL a5 (by simp))
  have t_20 : p ≠ a5 := nw_ne f_6 (hfL a5 (by simp))
  have n_21 : h a5 = none := kp_none kp_7 (hfL a5 (by simp)) ni0
  have t_22 : x ≠ a6 := nw_ne f_5 (hfL a6 (by simp))
  have t_23 : p ≠ a6 := nw_ne f_6 (hfL a6 (by simp))
  have n_24 : h a6 = none := kp_none kp_7 (hfL a6 (by simp)) ni0
  have t_25 : x ≠ a7 := nw_ne f_5 (hfL a7 (by simp))
  have t_26 : p ≠ a7 := nw_ne f_6 (hfL a7 (by simp))
  have n_27 : h a7 = none := kp_none kp_7 (hfL a7 (by simp)) ni0
  have kp_28 : kp h h_8 [] := by
    refine kp_fr (kp_tr kp_7 kp1) ?_
    intro a ha hn
    simp only [List.mem_append, List.mem_cons, List.not_mem_nil, or_false, false_or] at ha
    have z := ha
    · rw [z]; exact n_3
  show aw G 1 M 12 [.ref x] [.ref p, .ref x] h_8 ((0 + 1) + 6) ((0 + 11) + 60)
  have t_29 : a2 ≠ a3 := nd_ne hnd 1 2 (by decide) rfl rfl
  have t_30 : a2 ≠ a4 := nd_ne hnd 1 3 (by decide) rfl rfl
  have t_31 : a2 ≠ a5 := nd_ne hnd 1 4 (by decide) rfl rfl
  have t_32 : a2 ≠ a6 := nd_ne hnd 1 5 (by decide) rfl rfl
  have t_33 : a2 ≠ a7 := nd_ne hnd 1 6 (by decide) rfl rfl
  have t_34 : a3 ≠ a4 := nd_ne hnd 2 3 (by decide) rfl rfl
  have t_35 : a3 ≠ a5 := nd_ne hnd 2 4 (by decide) rfl rfl
  have t_36 : a3 ≠ a6 := nd_ne hnd 2 5 (by decide) rfl rfl
  have t_37 : a3 ≠ a7 := nd_ne hnd 2 6 (by decide) rfl rfl
  have t_38 : a4 ≠ a5 := nd_ne hnd 3 4 (by decide) rfl rfl
  have t_39 : a4 ≠ a6 := nd_ne hnd 3 5 (by decide) rfl rfl
  have t_40 : a4 ≠ a7 := nd_ne hnd 3 6 (by decide) rfl rfl
  have t_41 : a5 ≠ a6 := nd_ne hnd 4 5 (by decide) rfl rfl
  have t_42 : a5 ≠ a7 := nd_ne hnd 4 6 (by decide) rfl rfl
  have t_43 : a6 ≠ a7 := nd_ne hnd 5 6 (by decide) rfl rfl
  refine pfX8_12_8 C hnm dX8_init_12 f_9 rfl rfl (Nat.le_of_ble_eq_true rfl) (q := 15) rfl ?_
  show aw G 1 M 15 [.ref x] [] (ac_up h_8 x (.inr (8, [.ref p, .null, .null, .null, .null, .null, .null, .null, .null, .int 0, .null, .null]))) ((0 + 1) + 6) ((0 + 11) + 60)
  obtain ⟨h_44, eh_44⟩ : ∃ z9, z9 = ac_up h_8 x (.inr (8, [.ref p, .null, .null, .null, .null, .null, .null, .null, .null, .int 0, .null, .null])) := ⟨_, rfl⟩
  rw [← eh_44]
  have f_45 : h_44 p = some (.inr (1, [.int 0, .int 0, .int 0, .int 0, .int 0, .ref a2, .ref a3, .ref a4, .ref a5, .ref a6, .ref a7])) := by rw [eh_44, ac_up_n _ _ (Ne.symm t_4)]; exact Kp.1
  have f_46 : h_44 a2 = some (.inl (1, 10, .inl (fun _ => 0))) := by rw [eh_44, ac_up_n _ _ (Ne.symm t_10)]; exact (Kp.2.1 5 (by decide) (by decide))
  have f_47 : h_44 a3 = some (.inl (1, 10, .inl (fun _ => 0))) := by rw [eh_44, ac_up_n _ _ (Ne.symm t_13)]; exact (Kp.2.1 6 (by decide) (by decide))
  have f_48 : h_44 a4 = some (.inl (1, 10, .inl (fun _ => 0))) := by rw [eh_44, ac_up_n _ _ (Ne.symm t_16)]; exact (Kp.2.1 7 (by decide) (by decide))
  have f_49 : h_44 a5 = some (.inl (1, 10, .inl (fun _ => 0))) := by rw [eh_44, ac_up_n _ _ (Ne.symm t_19)]; exact (Kp.2.1 8 (by decide) (by decide))
  have f_50 : h_44 a6 = some (.inl (1, 10, .inl (fun _ => 0))) := by rw [eh_44, ac_up_n _ _ (Ne.symm t_22)]; exact (Kp.2.1 9 (by decide) (by decide))
  have f_51 : h_44 a7 = some (.inl (1, 10, .inl (fun _ => 0))) := by rw [eh_44, ac_up_n _ _ (Ne.symm t_25)]; exact (Kp.2.1 10 (by decide) (by decide))
  have f_52 : h_44 x = some (.inr (8, [.ref p, .null, .null, .null, .null, .null, .null, .null, .null, .int 0, .null, .null])) := by rw [eh_44]; exact ac_up_s _ _ _
  have kp_53 : kp h h_44 [x] := by rw [eh_44]; exact kp_up (kp_cons x kp_28) _ _ (by simp)
  refine aw_aload_n C dX8_init_15 rfl rfl (q := 16) rfl ?_
  refine nwX8_16 (fs := [.null, .int 0, .int 0, .null, .null]) C dX8_init_16 dfX3 (Nat.le_trans (by omega) B.2.2.1) (Nat.le_trans (by omega) B.2.2.2) (q := 19) rfl (fun r hn_54 _ => ?_)
  show aw G 1 M 19 [.ref x] [.ref r, .ref x] (ac_up h_44 r (.inr (3, [.null, .int 0, .int 0, .null, .null]))) (((0 + 1) + 6) + 1) (((0 + 11) + 60) + 5)
  obtain ⟨h_55, eh_55⟩ : ∃ z9, z9 = ac_up h_44 r (.inr (3, [.null, .int 0, .int 0, .null, .null])) := ⟨_, rfl⟩
  rw [← eh_55]
  have n_56 : h r = none := kp_none kp_53 hn_54 (ni1 (Ne.symm (nw_ne f_52 hn_54)) ni0)
  have t_57 : x ≠ r := nw_ne f_52 hn_54
  have f_58 : h_55 x = some (.inr (8, [.ref p, .null, .null, .null, .null, .null, .null, .null, .null, .int 0, .null, .null])) := by rw [eh_55, ac_up_n _ _ t_57]; exact f_52
  have t_59 : p ≠ r := nw_ne f_45 hn_54
  have f_60 : h_55 p = some (.inr (1, [.int 0, .int 0, .int 0, .int 0, .int 0, .ref a2, .ref a3, .ref a4, .ref a5, .ref a6, .ref a7])) := by rw [eh_55, ac_up_n _ _ t_59]; exact f_45
  have t_61 : a2 ≠ r := nw_ne f_46 hn_54
  have f_62 : h_55 a2 = some (.inl (1, 10, .inl (fun _ => 0))) := by rw [eh_55, ac_up_n _ _ t_61]; exact f_46
  have t_63 : a3 ≠ r := nw_ne f_47 hn_54
  have f_64 : h_55 a3 = some (.inl (1, 10, .inl (fun _ => 0))) := by rw [eh_55, ac_up_n _ _ t_63]; exact f_47
  have t_65 : a4 ≠ r := nw_ne f_48 hn_54
  have f_66 : h_55 a4 = some (.inl (1, 10, .inl (fun _ => 0))) := by rw [eh_55, ac_up_n _ _ t_65]; exact f_48
  have t_67 : a5 ≠ r := nw_ne f_49 hn_54
  have f_68 : h_55 a5 = some (.inl (1, 10, .inl (fun _ => 0))) := by rw [eh_55, ac_up_n _ _ t_67]; exact f_49
  have t_69 : a6 ≠ r := nw_ne f_50 hn_54
  have f_70 : h_55 a6 = some (.inl (1, 10, .inl (fun _ => 0))) := by rw [eh_55, ac_up_n _ _ t_69]; exact f_50
  have t_71 : a7 ≠ r := nw_ne f_51 hn_54
  have f_72 : h_55 a7 = some (.inl (1, 10, .inl (fun _ => 0))) := by rw [eh_55, ac_up_n _ _ t_71]; exact f_51
  have f_73 : h_55 r = some (.inr (3, [.null, .int 0, .int 0, .null, .null])) := by rw [eh_55]; exact ac_up_s _ _ _
  have kp_74 : kp h h_55 [x] := by rw [eh_55]; exact kp_new n_56 kp_53
  refine aw_dup C dX8_init_19 rfl (q := 20) rfl ?_
  refine ciX8_18 (As := []) (rest := [.ref r, .ref x]) C B dX8_init_20 (c_init3 G M.2.1 h_55 d r f_73) rfl rfl (Nat.le_of_ble_eq_true rfl) (by omega) (by omega) (by omega) (q := 23) rfl (fun r9 h_75 hr9 => ?_)
  obtain ⟨er9, ⟨u, dr, v4, hu, hdr, nud, g1, g2, g3⟩, kp3⟩ := hr9
  subst er9
  have f_76 : h_75 x = some (.inr (8, [.ref p, .null, .null, .null, .null, .null, .null, .null, .null, .int 0, .null, .null])) := kp3 _ _ f_58 (ni1 t_57 ni0)
  have f_77 : h_75 p = some (.inr (1, [.int 0, .int 0, .int 0, .int 0, .int 0, .ref a2, .ref a3, .ref a4, .ref a5, .ref a6, .ref a7])) := kp3 _ _ f_60 (ni1 t_59 ni0)
  have f_78 : h_75 a2 = some (.inl (1, 10, .inl (fun _ => 0))) := kp3 _ _ f_62 (ni1 t_61 ni0)
  have f_79 : h_75 a3 = some (.inl (1, 10, .inl (fun _ => 0))) := kp3 _ _ f_64 (ni1 t_63 ni0)
  have f_80 : h_75 a4 = some (.inl (1, 10, .inl (fun _ => 0))) := kp3 _ _ f_66 (ni1 t_65 ni0)
  have f_81 : h_75 a5 = some (.inl (1, 10, .inl (fun _ => 0))) := kp3 _ _ f_68 (ni1 t_67 ni0)
  have f_82 : h_75 a6 = some (.inl (1, 10, .inl (fun _ => 0))) := kp3 _ _ f_70 (ni1 t_69 ni0)
  have f_83 : h_75 a7 = some (.inl (1, 10, .inl (fun _ => 0))) := kp3 _ _ f_72 (ni1 t_71 ni0)
  have t_84 : x ≠ u := nw_ne f_58 hu
  have t_85 : p ≠ u := nw_ne f_60 hu
  have t_86 : a2 ≠ u := nw_ne f_62 hu
  have t_87 : a3 ≠ u := nw_ne f_64 hu
  have t_88 : a4 ≠ u := nw_ne f_66 hu
  have t_89 : a5 ≠ u := nw_ne f_68 hu
  have t_90 : a6 ≠ u := nw_ne f_70 hu
  have t_91 : a7 ≠ u := nw_ne f_72 hu
  have t_92 : r ≠ u := nw_ne f_73 hu
  have n_93 : h u = none := kp_none kp_74 hu (ni1 (Ne.symm t_84) ni0)
  have t_94 : x ≠ dr := nw_ne f_58 hdr
  have t_95 : p ≠ dr := nw_ne f_60 hdr
  have t_96 : a2 ≠ dr := nw_ne f_62 hdr
  have t_97 : a3 ≠ dr := nw_ne f_64 hdr
  have t_98 : a4 ≠ dr := nw_ne f_66 hdr
  have t_99 : a5 ≠ dr := nw_ne f_68 hdr
  have t_100 : a6 ≠ dr := nw_ne f_70 hdr
  have t_101 : a7 ≠ dr := nw_ne f_72 hdr
  have t_102 : r ≠ dr := nw_ne f_73 hdr
  have n_103 : h dr = none := kp_none kp_74 hdr (ni1 (Ne.symm t_94) ni0)
  have kp_104 : kp h h_75 [x] := by
    refine kp_fr (kp_tr kp_74 kp3) ?_
    intro a ha hn
    simp only [List.mem_append, List.mem_cons, List.not_mem_nil, or_false, false_or] at ha
    rcases ha with z | z
    · exact absurd (by rw [z]; simp) hn
    · rw [z]; exact n_56
  show aw G 1 M 23 [.ref x] [.ref r, .ref x] h_75 ((((0 + 1) + 6) + 1) + 8) ((((0 + 11) + 60) + 5) + 632)
  refine pfX8_19_8 C hnm dX8_init_23 f_76 rfl rfl (Nat.le_of_ble_eq_true rfl) (q := 26) rfl ?_
  show aw G 1 M 26 [.ref x] [] (ac_up h_75 x (.inr (8, [.ref p, .ref r, .null, .null, .null, .null, .null, .null, .null, .int 0, .null, .null]))) ((((0 + 1) + 6) + 1) + 8) ((((0 + 11) + 60) + 5) + 632)
  obtain ⟨h_105, eh_105⟩ : ∃ z9, z9 = ac_up h_75 x (.inr (8, [.ref p, .ref r, .null, .null, .null, .null, .null, .null, .null, .int 0, .null, .null])) := ⟨_, rfl⟩
  rw [← eh_105]
  have f_106 : h_105 p = some (.inr (1, [.int 0, .int 0, .int 0, .int 0, .int 0, .ref a2, .ref a3, .ref a4, .ref a5, .ref a6, .ref a7])) := by rw [eh_105, ac_up_n _ _ (Ne.symm t_4)]; exact f_77
  have f_107 : h_105 a2 = some (.inl (1, 10, .inl (fun _ => 0))) := by rw [eh_105, ac_up_n _ _ (Ne.symm t_10)]; exact f_78
  have f_108 : h_105 a3 = some (.inl (1, 10, .inl (fun _ => 0))) := by rw [eh_105, ac_up_n _ _ (Ne.symm t_13)]; exact f_79
  have f_109 : h_105 a4 = some (.inl (1, 10, .inl (fun _ => 0))) := by rw [eh_105, ac_up_n _ _ (Ne.symm t_16)]; exact f_80
  have f_110 : h_105 a5 = some (.inl (1, 10, .inl (fun _ => 0))) := by rw [eh_105, ac_up_n _ _ (Ne.symm t_19)]; exact f_81
  have f_111 : h_105 a6 = some (.inl (1, 10, .inl (fun _ => 0))) := by rw [eh_105, ac_up_n _ _ (Ne.symm t_22)]; exact f_82
  have f_112 : h_105 a7 = some (.inl (1, 10, .inl (fun _ => 0))) := by rw [eh_105, ac_up_n _ _ (Ne.symm t_25)]; exact f_83
  have f_113 : h_105 r = some (.inr (3, [.ref u, .int (nI 0), .int (nI 0), .ref dr, v4])) := by rw [eh_105, ac_up_n _ _ (Ne.symm t_57)]; exact g1
  have f_114 : h_105 u = some (.inl (0, 300, .inl (fun _ => 0))) := by rw [eh_105, ac_up_n _ _ (Ne.symm t_84)]; exact g2
  have f_115 : h_105 dr = some (.inl (3, 300, .inl (fun _ => 0))) := by rw [eh_105, ac_up_n _ _ (Ne.symm t_94)]; exact g3
  have f_116 : h_105 x = some (.inr (8, [.ref p, .ref r, .null, .null, .null, .null, .null, .null, .null, .int 0, .null, .null])) := by rw [eh_105]; exact ac_up_s _ _ _
  have kp_117 : kp h h_105 [x] := by rw [eh_105]; exact kp_up kp_104 _ _ (by simp)
  refine aw_aload_n C dX8_init_26 rfl rfl (q := 27) rfl ?_
  refine nwX8_23 (fs := [.null, .null, .int 0, .int 0, .int 0]) C dX8_init_27 dfX4 (Nat.le_trans (by omega) B.2.2.1) (Nat.le_trans (by omega) B.2.2.2) (q := 30) rfl (fun kk hn_118 _ => ?_)
  show aw G 1 M 30 [.ref x] [.ref kk, .ref x] (ac_up h_105 kk (.inr (4, [.null, .null, .int 0, .int 0, .int 0]))) (((((0 + 1) + 6) + 1) + 8) + 1) (((((0 + 11) + 60) + 5) + 632) + 5)
  obtain ⟨h_119, eh_119⟩ : ∃ z9, z9 = ac_up h_105 kk (.inr (4, [.null, .null, .int 0, .int 0, .int 0])) := ⟨_, rfl⟩
  rw [← eh_119]
  have n_120 : h kk = none := kp_none kp_117 hn_118 (ni1 (Ne.symm (nw_ne f_116 hn_118)) ni0)
  have t_121 : x ≠ kk := nw_ne f_116 hn_118
  have f_122 : h_119 x = some (.inr (8, [.ref p, .ref r, .null, .null, .null, .null, .null, .null, .null, .int 0, .null, .null])) := by rw [eh_119, ac_up_n _ _ t_121]; exact f_116
  have t_123 : p ≠ kk := nw_ne f_106 hn_118
  have f_124 : h_119 p = some (.inr (1, [.int 0, .int 0, .int 0, .int 0, .int 0, .ref a2, .ref a3, .ref a4, .ref a5, .ref a6, .ref a7])) := by rw [eh_119, ac_up_n _ _ t_123]; exact f_106
  have t_125 : a2 ≠ kk := nw_ne f_107 hn_118
  have f_126 : h_119 a2 = some (.inl (1, 10, .inl (fun _ => 0))) := by rw [eh_119, ac_up_n _ _ t_125]; exact f_107
  have t_127 : a3 ≠ kk := nw_ne f_108 hn_118
  have f_128 : h_119 a3 = some (.inl (1, 10, .inl (fun _ => 0))) := by rw [eh_119, ac_up_n _ _ t_127]; exact f_108
  have t_129 : a4 ≠ kk := nw_ne f_109 hn_118
  have f_130 : h_119 a4 = some (.inl (1, 10, .inl (fun _ => 0))) := by rw [eh_119, ac_up_n _ _ t_129]; exact f_109
  have t_131 : a5 ≠ kk := nw_ne f_110 hn_118
  have f_132 : h_119 a5 = some (.inl (1, 10, .inl (fun _ => 0))) := by rw [eh_119, ac_up_n _ _ t_131]; exact f_110
  have t_133 : a6 ≠ kk := nw_ne f_111 hn_118
  have f_134 : h_119 a6 = some (.inl (1, 10, .inl (fun _ => 0))) := by rw [eh_119, ac_up_n _ _ t_133]; exact f_111
  have t_135 : a7 ≠ kk := nw_ne f_112 hn_118
  have f_136 : h_119 a7 = some (.inl (1, 10, .inl (fun _ => 0))) := by rw [eh_119, ac_up_n _ _ t_135]; exact f_112
  have t_137 : r ≠ kk := nw_ne f_113 hn_118
  have f_138 : h_119 r = some (.inr (3, [.ref u, .int (nI 0), .int (nI 0), .ref dr, v4])) := by rw [eh_119, ac_up_n _ _ t_137]; exact f_113
  have t_139 : u ≠ kk := nw_ne f_114 hn_118
  have f_140 : h_119 u = some (.inl (0, 300, .inl (fun _ => 0))) := by rw [eh_119, ac_up_n _ _ t_139]; exact f_114
  have t_141 : dr ≠ kk := nw_ne f_115 hn_118
  have f_142 : h_119 dr = some (.inl (3, 300, .inl (fun _ => 0))) := by rw [eh_119, ac_up_n _ _ t_141]; exact f_115
  have f_143 : h_119 kk = some (.inr (4, [.null, .null, .int 0, .int 0, .int 0])) := by rw [eh_119]; exact ac_up_s _ _ _
  have kp_144 : kp h h_119 [x] := by rw [eh_119]; exact kp_new n_120 kp_117
  refine aw_dup C dX8_init_30 rfl (q := 31) rfl ?_
  refine aw_aload_n C dX8_init_31 rfl rfl (q := 32) rfl ?_
  refine gfX8_12_8 (v := .ref p) C dX8_init_32 f_122 rfl (q := 35) rfl ?_
  refine ciX8_25 (As := [.ref p]) (rest := [.ref kk, .ref x]) C B dX8_init_35 (c_init4 G M.2.1 h_119 d kk p f_143) rfl rfl (Nat.le_of_ble_eq_true rfl) (by omega) (by omega) (by omega) (q := 38) rfl (fun r9 h_145 hr9 => ?_)
  obtain ⟨er9, ⟨sk, hsk, Kk⟩, kp4⟩ := hr9
  subst er9
  have f_146 : h_145 x = some (.inr (8, [.ref p, .ref r, .null, .null, .null, .null, .null, .null, .null, .int 0, .null, .null])) := kp4 _ _ f_122 (ni1 t_121 ni0)
  have f_147 : h_145 p = some (.inr (1, [.int 0, .int 0, .int 0, .int 0, .int 0, .ref a2, .ref a3, .ref a4, .ref a5, .ref a6, .ref a7])) := kp4 _ _ f_124 (ni1 t_123 ni0)
  have f_148 : h_145 a2 = some (.inl (1, 10, .inl (fun _ => 0))) := kp4 _ _ f_126 (ni1 t_125 ni0)
  have f_149 : h_145 a3 = some (.inl (1, 10, .inl (fun _ => 0))) := kp4 _ _ f_128 (ni1 t_127 ni0)
  have f_150 : h_145 a4 = some (.inl (1, 10, .inl (fun _ => 0))) := kp4 _ _ f_130 (ni1 t_129 ni0)
  have f_151 : h_145 a5 = some (.inl (1, 10, .inl (fun _ => 0))) := kp4 _ _ f_132 (ni1 t_131 ni0)
  have f_152 : h_145 a6 = some (.inl (1, 10, .inl (fun _ => 0))) := kp4 _ _ f_134 (ni1 t_133 ni0)
  have f_153 : h_145 a7 = some (.inl (1, 10, .inl (fun _ => 0))) := kp4 _ _ f_136 (ni1 t_135 ni0)
  have f_154 : h_145 r = some (.inr (3, [.ref u, .int (nI 0), .int (nI 0), .ref dr, v4])) := kp4 _ _ f_138 (ni1 t_137 ni0)
  have f_155 : h_145 u = some (.inl (0, 300, .inl (fun _ => 0))) := kp4 _ _ f_140 (ni1 t_139 ni0)
  have f_156 : h_145 dr = some (.inl (3, 300, .inl (fun _ => 0))) := kp4 _ _ f_142 (ni1 t_141 ni0)
  have t_157 : x ≠ sk := nw_ne f_122 hsk
  have t_158 : p ≠ sk := nw_ne f_124 hsk
  have t_159 : a2 ≠ sk := nw_ne f_126 hsk
  have t_160 : a3 ≠ sk := nw_ne f_128 hsk
  have t_161 : a4 ≠ sk := nw_ne f_130 hsk
  have t_162 : a5 ≠ sk := nw_ne f_132 hsk
  have t_163 : a6 ≠ sk := nw_ne f_134 hsk
  have t_164 : a7 ≠ sk := nw_ne f_136 hsk
  have t_165 : r ≠ sk := nw_ne f_138 hsk
  have t_166 : u ≠ sk := nw_ne f_140 hsk
  have t_167 : dr ≠ sk := nw_ne f_142 hsk
  have t_168 : kk ≠ sk := nw_ne f_143 hsk
  have n_169 : h sk = none := kp_none kp_144 hsk (ni1 (Ne.symm t_157) ni0)
  have kp_170 : kp h h_145 [x] := by
    refine kp_fr (kp_tr kp_144 kp4) ?_
    intro a ha hn
    simp only [List.mem_append, List.mem_cons, List.not_mem_nil, or_false, false_or] at ha
    rcases ha with z | z
    · exact absurd (by rw [z]; simp) hn
    · rw [z]; exact n_120
  show aw G 1 M 38 [.ref x] [.ref kk, .ref x] h_145 ((((((0 + 1) + 6) + 1) + 8) + 1) + 1) ((((((0 + 11) + 60) + 5) + 632) + 5) + 32)
  refine pfX8_28_8 C hnm dX8_init_38 f_146 rfl rfl (Nat.le_of_ble_eq_true rfl) (q := 41) rfl ?_
  show aw G 1 M 41 [.ref x] [] (ac_up h_145 x (.inr (8, [.ref p, .ref r, .ref kk, .null, .null, .null, .null, .null, .null, .int 0, .null, .null]))) ((((((0 + 1) + 6) + 1) + 8) + 1) + 1) ((((((0 + 11) + 60) + 5) + 632) + 5) + 32)
  obtain ⟨h_171, eh_171⟩ : ∃ z9, z9 = ac_up h_145 x (.inr (8, [.ref p, .ref r, .ref kk, .null, .null, .null, .null, .null, .null, .int 0, .null, .null])) := ⟨_, rfl⟩
  rw [← eh_171]
  have f_172 : h_171 p = some (.inr (1, [.int 0, .int 0, .int 0, .int 0, .int 0, .ref a2, .ref a3, .ref a4, .ref a5, .ref a6, .ref a7])) := by rw [eh_171, ac_up_n _ _ (Ne.symm t_4)]; exact f_147
  have f_173 : h_171 a2 = some (.inl (1, 10, .inl (fun _ => 0))) := by rw [eh_171, ac_up_n _ _ (Ne.symm t_10)]; exact f_148
  have f_174 : h_171 a3 = some (.inl (1, 10, .inl (fun _ => 0))) := by rw [eh_171, ac_up_n _ _ (Ne.symm t_13)]; exact f_149
  have f_175 : h_171 a4 = some (.inl (1, 10, .inl (fun _ => 0))) := by rw [eh_171, ac_up_n _ _ (Ne.symm t_16)]; exact f_150
  have f_176 : h_171 a5 = some (.inl (1, 10, .inl (fun _ => 0))) := by rw [eh_171, ac_up_n _ _ (Ne.symm t_19)]; exact f_151
  have f_177 : h_171 a6 = some (.inl (1, 10, .inl (fun _ => 0))) := by rw [eh_171, ac_up_n _ _ (Ne.symm t_22)]; exact f_152
  have f_178 : h_171 a7 = some (.inl (1, 10, .inl (fun _ => 0))) := by rw [eh_171, ac_up_n _ _ (Ne.symm t_25)]; exact f_153
  have f_179 : h_171 r = some (.inr (3, [.ref u, .int (nI 0), .int (nI 0), .ref dr, v4])) := by rw [eh_171, ac_up_n _ _ (Ne.symm t_57)]; exact f_154
  have f_180 : h_171 u = some (.inl (0, 300, .inl (fun _ => 0))) := by rw [eh_171, ac_up_n _ _ (Ne.symm t_84)]; exact f_155
  have f_181 : h_171 dr = some (.inl (3, 300, .inl (fun _ => 0))) := by rw [eh_171, ac_up_n _ _ (Ne.symm t_94)]; exact f_156
  have f_182 : h_171 kk = some (.inr (4, [.ref p, .ref sk, .int (nI 0), .int 0, .int 0])) := by rw [eh_171, ac_up_n _ _ (Ne.symm t_121)]; exact Kk.1
  have f_183 : h_171 sk = some (.inl (2, 32, .inr (.inl (fun _ => 0)))) := by rw [eh_171, ac_up_n _ _ (Ne.symm t_157)]; exact Kk.2.1
  have f_184 : h_171 x = some (.inr (8, [.ref p, .ref r, .ref kk, .null, .null, .null, .null, .null, .null, .int 0, .null, .null])) := by rw [eh_171]; exact ac_up_s _ _ _
  have kp_185 : kp h h_171 [x] := by rw [eh_171]; exact kp_up kp_170 _ _ (by simp)
  refine aw_aload_n C dX8_init_41 rfl rfl (q := 42) rfl ?_
  refine nwX8_32 (fs := [.null, .int 0, .int 0, .null, .int 0]) C dX8_init_42 dfX7 (Nat.le_trans (by omega) B.2.2.1) (Nat.le_trans (by omega) B.2.2.2) (q := 45) rfl (fun ww hn_186 _ => ?_)
  show aw G 1 M 45 [.ref x] [.ref ww, .ref x] (ac_up h_171 ww (.inr (7, [.null, .int 0, .int 0, .null, .int 0]))) (((((((0 + 1) + 6) + 1) + 8) + 1) + 1) + 1) (((((((0 + 11) + 60) + 5) + 632) + 5) + 32) + 5)
  obtain ⟨h_187, eh_187⟩ : ∃ z9, z9 = ac_up h_171 ww (.inr (7, [.null, .int 0, .int 0, .null, .int 0])) := ⟨_, rfl⟩
  rw [← eh_187]
  have n_188 : h ww = none := kp_none kp_185 hn_186 (ni1 (Ne.symm (nw_ne f_184 hn_186)) ni0)
  have t_189 : x ≠ ww := nw_ne f_184 hn_186
  have f_190 : h_187 x = some (.inr (8, [.ref p, .ref r, .ref kk, .null, .null, .null, .null, .null, .null, .int 0, .null, .null])) := by rw [eh_187, ac_up_n _ _ t_189]; exact f_184
  have t_191 : p ≠ ww := nw_ne f_172 hn_186
  have f_192 : h_187 p = some (.inr (1, [.int 0, .int 0, .int 0, .int 0, .int 0, .ref a2, .ref a3, .ref a4, .ref a5, .ref a6, .ref a7])) := by rw [eh_187, ac_up_n _ _ t_191]; exact f_172
  have t_193 : a2 ≠ ww := nw_ne f_173 hn_186
  have f_194 : h_187 a2 = some (.inl (1, 10, .inl (fun _ => 0))) := by rw [eh_187, ac_up_n _ _ t_193]; exact f_173
  have t_195 : a3 ≠ ww := nw_ne f_174 hn_186
  have f_196 : h_187 a3 = some (.inl (1, 10, .inl (fun _ => 0))) := by rw [eh_187, ac_up_n _ _ t_195]; exact f_174
  have t_197 : a4 ≠ ww := nw_ne f_175 hn_186
  have f_198 : h_187 a4 = some (.inl (1, 10, .inl (fun _ => 0))) := by rw [eh_187, ac_up_n _ _ t_197]; exact f_175
  have t_199 : a5 ≠ ww := nw_ne f_176 hn_186
  have f_200 : h_187 a5 = some (.inl (1, 10, .inl (fun _ => 0))) := by rw [eh_187, ac_up_n _ _ t_199]; exact f_176
  have t_201 : a6 ≠ ww := nw_ne f_177 hn_186
  have f_202 : h_187 a6 = some (.inl (1, 10, .inl (fun _ => 0))) := by rw [eh_187, ac_up_n _ _ t_201]; exact f_177
  have t_203 : a7 ≠ ww := nw_ne f_178 hn_186
  have f_204 : h_187 a7 = some (.inl (1, 10, .inl (fun _ => 0))) := by rw [eh_187, ac_up_n _ _ t_203]; exact f_178
  have t_205 : r ≠ ww := nw_ne f_179 hn_186
  have f_206 : h_187 r = some (.inr (3, [.ref u, .int (nI 0), .int (nI 0), .ref dr, v4])) := by rw [eh_187, ac_up_n _ _ t_205]; exact f_179
  have t_207 : u ≠ ww := nw_ne f_180 hn_186
  have f_208 : h_187 u = some (.inl (0, 300, .inl (fun _ => 0))) := by rw [eh_187, ac_up_n _ _ t_207]; exact f_180
  have t_209 : dr ≠ ww := nw_ne f_181 hn_186
  have f_210 : h_187 dr = some (.inl (3, 300, .inl (fun _ => 0))) := by rw [eh_187, ac_up_n _ _ t_209]; exact f_181
  have t_211 : kk ≠ ww := nw_ne f_182 hn_186
  have f_212 : h_187 kk = some (.inr (4, [.ref p, .ref sk, .int (nI 0), .int 0, .int 0])) := by rw [eh_187, ac_up_n _ _ t_211]; exact f_182
  have t_213 : sk ≠ ww := nw_ne f_183 hn_186
  have f_214 : h_187 sk = some (.inl (2, 32, .inr (.inl (fun _ => 0)))) := by rw [eh_187, ac_up_n _ _ t_213]; exact f_183
  have f_215 : h_187 ww = some (.inr (7, [.null, .int 0, .int 0, .null, .int 0])) := by rw [eh_187]; exact ac_up_s _ _ _
  have kp_216 : kp h h_187 [x] := by rw [eh_187]; exact kp_new n_188 kp_185
  refine aw_dup C dX8_init_45 rfl (q := 46) rfl ?_
  refine aw_aload_n C dX8_init_46 rfl rfl (q := 47) rfl ?_
  refine gfX8_12_8 (v := .ref p) C dX8_init_47 f_190 rfl (q := 50) rfl ?_
  refine ciX8_34 (As := [.ref p]) (rest := [.ref ww, .ref x]) C B dX8_init_50 (c_init7 G M.2.1 h_187 d ww p f_215) rfl rfl (Nat.le_of_ble_eq_true rfl) (by omega) (by omega) (by omega) (q := 53) rfl (fun r9 h_217 hr9 => ?_)
  obtain ⟨er9, ⟨wu, hwu, Kw⟩, kp7⟩ := hr9
  subst er9
  have f_218 : h_217 x = some (.inr (8, [.ref p, .ref r, .ref kk, .null, .null, .null, .null, .null, .null, .int 0, .null, .null])) := kp7 _ _ f_190 (ni1 t_189 ni0)
  have f_219 : h_217 p = some (.inr (1, [.int 0, .int 0, .int 0, .int 0, .int 0, .ref a2, .ref a3, .ref a4, .ref a5, .ref a6, .ref a7])) := kp7 _ _ f_192 (ni1 t_191 ni0)
  have f_220 : h_217 a2 = some (.inl (1, 10, .inl (fun _ => 0))) := kp7 _ _ f_194 (ni1 t_193 ni0)
  have f_221 : h_217 a3 = some (.inl (1, 10, .inl (fun _ => 0))) := kp7 _ _ f_196 (ni1 t_195 ni0)
  have f_222 : h_217 a4 = some (.inl (1, 10, .inl (fun _ => 0))) := kp7 _ _ f_198 (ni1 t_197 ni0)
  have f_223 : h_217 a5 = some (.inl (1, 10, .inl (fun _ => 0))) := kp7 _ _ f_200 (ni1 t_199 ni0)
  have f_224 : h_217 a6 = some (.inl (1, 10, .inl (fun _ => 0))) := kp7 _ _ f_202 (ni1 t_201 ni0)
  have f_225 : h_217 a7 = some (.inl (1, 10, .inl (fun _ => 0))) := kp7 _ _ f_204 (ni1 t_203 ni0)
  have f_226 : h_217 r = some (.inr (3, [.ref u, .int (nI 0), .int (nI 0), .ref dr, v4])) := kp7 _ _ f_206 (ni1 t_205 ni0)
  have f_227 : h_217 u = some (.inl (0, 300, .inl (fun _ => 0))) := kp7 _ _ f_208 (ni1 t_207 ni0)
  have f_228 : h_217 dr = some (.inl (3, 300, .inl (fun _ => 0))) := kp7 _ _ f_210 (ni1 t_209 ni0)
  have f_229 : h_217 kk = some (.inr (4, [.ref p, .ref sk, .int (nI 0), .int 0, .int 0])) := kp7 _ _ f_212 (ni1 t_211 ni0)
  have f_230 : h_217 sk = some (.inl (2, 32, .inr (.inl (fun _ => 0)))) := kp7 _ _ f_214 (ni1 t_213 ni0)
  have kp_231 : kp h h_217 [x] := by
    refine kp_fr (kp_tr kp_216 kp7) ?_
    intro a ha hn
    simp only [List.mem_append, List.mem_cons, List.not_mem_nil, or_false, false_or] at ha
    rcases ha with z | z
    · exact absurd (by rw [z]; simp) hn
    · rw [z]; exact n_188
  show aw G 1 M 53 [.ref x] [.ref ww, .ref x] h_217 ((((((((0 + 1) + 6) + 1) + 8) + 1) + 1) + 1) + 1) ((((((((0 + 11) + 60) + 5) + 632) + 5) + 32) + 5) + 0)
  refine pfX8_35_8 C hnm dX8_init_53 f_218 rfl rfl (Nat.le_of_ble_eq_true rfl) (q := 56) rfl ?_
  show aw G 1 M 56 [.ref x] [] (ac_up h_217 x (.inr (8, [.ref p, .ref r, .ref kk, .ref ww, .null, .null, .null, .null, .null, .int 0, .null, .null]))) ((((((((0 + 1) + 6) + 1) + 8) + 1) + 1) + 1) + 1) ((((((((0 + 11) + 60) + 5) + 632) + 5) + 32) + 5) + 0)
  obtain ⟨h_232, eh_232⟩ : ∃ z9, z9 = ac_up h_217 x (.inr (8, [.ref p, .ref r, .ref kk, .ref ww, .null, .null, .null, .null, .null, .int 0, .null, .null])) := ⟨_, rfl⟩
  rw [← eh_232]
  have f_233 : h_232 p = some (.inr (1, [.int 0, .int 0, .int 0, .int 0, .int 0, .ref a2, .ref a3, .ref a4, .ref a5, .ref a6, .ref a7])) := by rw [eh_232, ac_up_n _ _ (Ne.symm t_4)]; exact f_219
  have f_234 : h_232 a2 = some (.inl (1, 10, .inl (fun _ => 0))) := by rw [eh_232, ac_up_n _ _ (Ne.symm t_10)]; exact f_220
  have f_235 : h_232 a3 = some (.inl (1, 10, .inl (fun _ => 0))) := by rw [eh_232, ac_up_n _ _ (Ne.symm t_13)]; exact f_221
  have f_236 : h_232 a4 = some (.inl (1, 10, .inl (fun _ => 0))) := by rw [eh_232, ac_up_n _ _ (Ne.symm t_16)]; exact f_222
  have f_237 : h_232 a5 = some (.inl (1, 10, .inl (fun _ => 0))) := by rw [eh_232, ac_up_n _ _ (Ne.symm t_19)]; exact f_223
  have f_238 : h_232 a6 = some (.inl (1, 10, .inl (fun _ => 0))) := by rw [eh_232, ac_up_n _ _ (Ne.symm t_22)]; exact f_224
  have f_239 : h_232 a7 = some (.inl (1, 10, .inl (fun _ => 0))) := by rw [eh_232, ac_up_n _ _ (Ne.symm t_25)]; exact f_225
  have f_240 : h_232 r = some (.inr (3, [.ref u, .int (nI 0), .int (nI 0), .ref dr, v4])) := by rw [eh_232, ac_up_n _ _ (Ne.symm t_57)]; exact f_226
  have f_241 : h_232 u = some (.inl (0, 300, .inl (fun _ => 0))) := by rw [eh_232, ac_up_n _ _ (Ne.symm t_84)]; exact f_227
  have f_242 : h_232 dr = some (.inl (3, 300, .inl (fun _ => 0))) := by rw [eh_232, ac_up_n _ _ (Ne.symm t_94)]; exact f_228
  have f_243 : h_232 kk = some (.inr (4, [.ref p, .ref sk, .int (nI 0), .int 0, .int 0])) := by rw [eh_232, ac_up_n _ _ (Ne.symm t_121)]; exact f_229
  have f_244 : h_232 sk = some (.inl (2, 32, .inr (.inl (fun _ => 0)))) := by rw [eh_232, ac_up_n _ _ (Ne.symm t_157)]; exact f_230
  have f_245 : h_232 ww = some (.inr (7, [.ref wu, .int (nI 0), .int (nI 0), .ref p, .int (pb_b (false = true))])) := by rw [eh_232, ac_up_n _ _ (Ne.symm t_189)]; exact Kw.1
  have f_246 : h_232 x = some (.inr (8, [.ref p, .ref r, .ref kk, .ref ww, .null, .null, .null, .null, .null, .int 0, .null, .null])) := by rw [eh_232]; exact ac_up_s _ _ _
  have kp_247 : kp h h_232 [x] := by rw [eh_232]; exact kp_up kp_231 _ _ (by simp)
  refine aw_aload_n C dX8_init_56 rfl rfl (q := 57) rfl ?_
  refine nwX8_39 (fs := [.null, .int 0, .null, .null, .null, .int 0, .null]) C dX8_init_57 dfX5 (Nat.le_trans (by omega) B.2.2.1) (Nat.le_trans (by omega) B.2.2.2) (q := 60) rfl (fun rp hn_248 _ => ?_)
  show aw G 1 M 60 [.ref x] [.ref rp, .ref x] (ac_up h_232 rp (.inr (5, [.null, .int 0, .null, .null, .null, .int 0, .null]))) (((((((((0 + 1) + 6) + 1) + 8) + 1) + 1) + 1) + 1) + 1) (((((((((0 + 11) + 60) + 5) + 632) + 5) + 32) + 5) + 0) + 7)
  obtain ⟨h_249, eh_249⟩ : ∃ z9, z9 = ac_up h_232 rp (.inr (5, [.null, .int 0, .null, .null, .null, .int 0, .null])) := ⟨_, rfl⟩
  rw [← eh_249]
  have n_250 : h rp = none := kp_none kp_247 hn_248 (ni1 (Ne.symm (nw_ne f_246 hn_248)) ni0)
  have t_251 : x ≠ rp := nw_ne f_246 hn_248
  have f_252 : h_249 x = some (.inr (8, [.ref p, .ref r, .ref kk, .ref ww, .null, .null, .null, .null, .null, .int 0, .null, .null])) := by rw [eh_249, ac_up_n _ _ t_251]; exact f_246
  have t_253 : p ≠ rp := nw_ne f_233 hn_248
  have f_254 : h_249 p = some (.inr (1, [.int 0, .int 0, .int 0, .int 0, .int 0, .ref a2, .ref a3, .ref a4, .ref a5, .ref a6, .ref a7])) := by rw [eh_249, ac_up_n _ _ t_253]; exact f_233
  have t_255 : a2 ≠ rp := nw_ne f_234 hn_248
  have f_256 : h_249 a2 = some (.inl (1, 10, .inl (fun _ => 0))) := by rw [eh_249, ac_up_n _ _ t_255]; exact f_234
  have t_257 : a3 ≠ rp := nw_ne f_235 hn_248
  have f_258 : h_249 a3 = some (.inl (1, 10, .inl (fun _ => 0))) := by rw [eh_249, ac_up_n _ _ t_257]; exact f_235
  have t_259 : a4 ≠ rp := nw_ne f_236 hn_248
  have f_260 : h_249 a4 = some (.inl (1, 10, .inl (fun _ => 0))) := by rw [eh_249, ac_up_n _ _ t_259]; exact f_236
  have t_261 : a5 ≠ rp := nw_ne f_237 hn_248
  have f_262 : h_249 a5 = some (.inl (1, 10, .inl (fun _ => 0))) := by rw [eh_249, ac_up_n _ _ t_261]; exact f_237
  have t_263 : a6 ≠ rp := nw_ne f_238 hn_248
  have f_264 : h_249 a6 = some (.inl (1, 10, .inl (fun _ => 0))) := by rw [eh_249, ac_up_n _ _ t_263]; exact f_238
  have t_265 : a7 ≠ rp := nw_ne f_239 hn_248
  have f_266 : h_249 a7 = some (.inl (1, 10, .inl (fun _ => 0))) := by rw [eh_249, ac_up_n _ _ t_265]; exact f_239
  have t_267 : r ≠ rp := nw_ne f_240 hn_248
  have f_268 : h_249 r = some (.inr (3, [.ref u, .int (nI 0), .int (nI 0), .ref dr, v4])) := by rw [eh_249, ac_up_n _ _ t_267]; exact f_240
  have t_269 : u ≠ rp := nw_ne f_241 hn_248
  have f_270 : h_249 u = some (.inl (0, 300, .inl (fun _ => 0))) := by rw [eh_249, ac_up_n _ _ t_269]; exact f_241
  have t_271 : dr ≠ rp := nw_ne f_242 hn_248
  have f_272 : h_249 dr = some (.inl (3, 300, .inl (fun _ => 0))) := by rw [eh_249, ac_up_n _ _ t_271]; exact f_242
  have t_273 : kk ≠ rp := nw_ne f_243 hn_248
  have f_274 : h_249 kk = some (.inr (4, [.ref p, .ref sk, .int (nI 0), .int 0, .int 0])) := by rw [eh_249, ac_up_n _ _ t_273]; exact f_243
  have t_275 : sk ≠ rp := nw_ne f_244 hn_248
  have f_276 : h_249 sk = some (.inl (2, 32, .inr (.inl (fun _ => 0)))) := by rw [eh_249, ac_up_n _ _ t_275]; exact f_244
  have t_277 : ww ≠ rp := nw_ne f_245 hn_248
  have f_278 : h_249 ww = some (.inr (7, [.ref wu, .int (nI 0), .int (nI 0), .ref p, .int (pb_b (false = true))])) := by rw [eh_249, ac_up_n _ _ t_277]; exact f_245
  have f_279 : h_249 rp = some (.inr (5, [.null, .int 0, .null, .null, .null, .int 0, .null])) := by rw [eh_249]; exact ac_up_s _ _ _
  have kp_280 : kp h h_249 [x] := by rw [eh_249]; exact kp_new n_250 kp_247
  refine aw_dup C dX8_init_60 rfl (q := 61) rfl ?_
  refine ciX8_41 (As := []) (rest := [.ref rp, .ref x]) C B dX8_init_61 (c_init5 G M.2.1 h_249 d rp f_279) rfl rfl (Nat.le_of_ble_eq_true rfl) (by omega) (by omega) (by omega) (q := 64) rfl (fun r9 h_281 hr9 => ?_)
  obtain ⟨er9, ⟨b1, b2, b3, b4, hnb, hfb, y0, y1, y2, y3, y4⟩, kp5⟩ := hr9
  subst er9
  have f_282 : h_281 x = some (.inr (8, [.ref p, .ref r, .ref kk, .ref ww, .null, .null, .null, .null, .null, .int 0, .null, .null])) := kp5 _ _ f_252 (ni1 t_251 ni0)
  have f_283 : h_281 p = some (.inr (1, [.int 0, .int 0, .int 0, .int 0, .int 0, .ref a2, .ref a3, .ref a4, .ref a5, .ref a6, .ref a7])) := kp5 _ _ f_254 (ni1 t_253 ni0)
  have f_284 : h_281 a2 = some (.inl (1, 10, .inl (fun _ => 0))) := kp5 _ _ f_256 (ni1 t_255 ni0)
  have f_285 : h_281 a3 = some (.inl (1, 10, .inl (fun _ => 0))) := kp5 _ _ f_258 (ni1 t_257 ni0)
  have f_286 : h_281 a4 = some (.inl (1, 10, .inl (fun _ => 0))) := kp5 _ _ f_260 (ni1 t_259 ni0)
  have f_287 : h_281 a5 = some (.inl (1, 10, .inl (fun _ => 0))) := kp5 _ _ f_262 (ni1 t_261 ni0)
  have f_288 : h_281 a6 = some (.inl (1, 10, .inl (fun _ => 0))) := kp5 _ _ f_264 (ni1 t_263 ni0)
  have f_289 : h_281 a7 = some (.inl (1, 10, .inl (fun _ => 0))) := kp5 _ _ f_266 (ni1 t_265 ni0)
  have f_290 : h_281 r = some (.inr (3, [.ref u, .int (nI 0), .int (nI 0), .ref dr, v4])) := kp5 _ _ f_268 (ni1 t_267 ni0)
  have f_291 : h_281 u = some (.inl (0, 300, .inl (fun _ => 0))) := kp5 _ _ f_270 (ni1 t_269 ni0)
  have f_292 : h_281 dr = some (.inl (3, 300, .inl (fun _ => 0))) := kp5 _ _ f_272 (ni1 t_271 ni0)
  have f_293 : h_281 kk = some (.inr (4, [.ref p, .ref sk, .int (nI 0), .int 0, .int 0])) := kp5 _ _ f_274 (ni1 t_273 ni0)
  have f_294 : h_281 sk = some (.inl (2, 32, .inr (.inl (fun _ => 0)))) := kp5 _ _ f_276 (ni1 t_275 ni0)
  have f_295 : h_281 ww = some (.inr (7, [.ref wu, .int (nI 0), .int (nI 0), .ref p, .int (pb_b (false = true))])) := kp5 _ _ f_278 (ni1 t_277 ni0)
  have t_296 : x ≠ b1 := nw_ne f_252 (hfb b1 (by simp))
  have t_297 : p ≠ b1 := nw_ne f_254 (hfb b1 (by simp))
  have t_298 : a2 ≠ b1 := nw_ne f_256 (hfb b1 (by simp))
  have t_299 : a3 ≠ b1 := nw_ne f_258 (hfb b1 (by simp))
  have t_300 : a4 ≠ b1 := nw_ne f_260 (hfb b1 (by simp))
  have t_301 : a5 ≠ b1 := nw_ne f_262 (hfb b1 (by simp))
  have t_302 : a6 ≠ b1 := nw_ne f_264 (hfb b1 (by simp))
  have t_303 : a7 ≠ b1 := nw_ne f_266 (hfb b1 (by simp))
  have t_304 : r ≠ b1 := nw_ne f_268 (hfb b1 (by simp))
  have t_305 : u ≠ b1 := nw_ne f_270 (hfb b1 (by simp))
  have t_306 : dr ≠ b1 := nw_ne f_272 (hfb b1 (by simp))
  have t_307 : kk ≠ b1 := nw_ne f_274 (hfb b1 (by simp))
  have t_308 : sk ≠ b1 := nw_ne f_276 (hfb b1 (by simp))
  have t_309 : ww ≠ b1 := nw_ne f_278 (hfb b1 (by simp))
  have t_310 : rp ≠ b1 := nw_ne f_279 (hfb b1 (by simp))
  have n_311 : h b1 = none := kp_none kp_280 (hfb b1 (by simp)) (ni1 (Ne.symm t_296) ni0)
  have t_312 : x ≠ b2 := nw_ne f_252 (hfb b2 (by simp))
  have t_313 : p ≠ b2 := nw_ne f_254 (hfb b2 (by simp))
  have t_314 : a2 ≠ b2 := nw_ne f_256 (hfb b2 (by simp))
  have t_315 : a3 ≠ b2 := nw_ne f_258 (hfb b2 (by simp))
  have t_316 : a4 ≠ b2 := nw_ne f_260 (hfb b2 (by simp))
  have t_317 : a5 ≠ b2 := nw_ne f_262 (hfb b2 (by simp))
  have t_318 : a6 ≠ b2 := nw_ne f_264 (hfb b2 (by simp))
  have t_319 : a7 ≠ b2 := nw_ne f_266 (hfb b2 (by simp))
  have t_320 : r ≠ b2 := nw_ne f_268 (hfb b2 (by simp))
  have t_321 : u ≠ b2 := nw_ne f_270 (hfb b2 (by simp))
  have t_322 : dr ≠ b2 := nw_ne f_272 (hfb b2 (by simp))
  have t_323 : kk ≠ b2 := nw_ne f_274 (hfb b2 (by simp))
  have t_324 : sk ≠ b2 := nw_ne f_276 (hfb b2 (by simp))
  have t_325 : ww ≠ b2 := nw_ne f_278 (hfb b2 (by simp))
  have t_326 : rp ≠ b2 := nw_ne f_279 (hfb b2 (by simp))
  have n_327 : h b2 = none := kp_none kp_280 (hfb b2 (by simp)) (ni1 (Ne.symm t_312) ni0)
  have t_328 : x ≠ b3 := nw_ne f_252 (hfb b3 (by simp))
  have t_329 : p ≠ b3 := nw_ne f_254 (hfb b3 (by simp))
  have t_330 : a2 ≠ b3 := nw_ne f_256 (hfb b3 (by simp))
  have t_331 : a3 ≠ b3 := nw_ne f_258 (hfb b3 (by simp))
  have t_332 : a4 ≠ b3 := nw_ne f_260 (hfb b3 (by simp))
  have t_333 : a5 ≠ b3 := nw_ne f_262 (hfb b3 (by simp))
  have t_334 : a6 ≠ b3 := nw_ne f_264 (hfb b3 (by simp))
  have t_335 : a7 ≠ b3 := nw_ne f_266 (hfb b3 (by simp))
  have t_336 : r ≠ b3 := nw_ne f_268 (hfb b3 (by simp))
  have t_337 : u ≠ b3 := nw_ne f_270 (hfb b3 (by simp))
  have t_338 : dr ≠ b3 := nw_ne f_272 (hfb b3 (by simp))
  have t_339 : kk ≠ b3 := nw_ne f_274 (hfb b3 (by simp))
  have t_340 : sk ≠ b3 := nw_ne f_276 (hfb b3 (by simp))
  have t_341 : ww ≠ b3 := nw_ne f_278 (hfb b3 (by simp))
  have t_342 : rp ≠ b3 := nw_ne f_279 (hfb b3 (by simp))
  have n_343 : h b3 = none := kp_none kp_280 (hfb b3 (by simp)) (ni1 (Ne.symm t_328) ni0)
  have t_344 : x ≠ b4 := nw_ne f_252 (hfb b4 (by simp))
  have t_345 : p ≠ b4 := nw_ne f_254 (hfb b4 (by simp))
  have t_346 : a2 ≠ b4 := nw_ne f_256 (hfb b4 (by simp))
  have t_347 : a3 ≠ b4 := nw_ne f_258 (hfb b4 (by simp))
  have t_348 : a4 ≠ b4 := nw_ne f_260 (hfb b4 (by simp))
  have t_349 : a5 ≠ b4 := nw_ne f_262 (hfb b4 (by simp))
  have t_350 : a6 ≠ b4 := nw_ne f_264 (hfb b4 (by simp))
  have t_351 : a7 ≠ b4 := nw_ne f_266 (hfb b4 (by simp))
  have t_352 : r ≠ b4 := nw_ne f_268 (hfb b4 (by simp))
  have t_353 : u ≠ b4 := nw_ne f_270 (hfb b4 (by simp))
  have t_354 : dr ≠ b4 := nw_ne f_272 (hfb b4 (by simp))
  have t_355 : kk ≠ b4 := nw_ne f_274 (hfb b4 (by simp))
  have t_356 : sk ≠ b4 := nw_ne f_276 (hfb b4 (by simp))
  have t_357 : ww ≠ b4 := nw_ne f_278 (hfb b4 (by simp))
  have t_358 : rp ≠ b4 := nw_ne f_279 (hfb b4 (by simp))
  have n_359 : h b4 = none := kp_none kp_280 (hfb b4 (by simp)) (ni1 (Ne.symm t_344) ni0)
  have kp_360 : kp h h_281 [x] := by
    refine kp_fr (kp_tr kp_280 kp5) ?_
    intro a ha hn
    simp only [List.mem_append, List.mem_cons, List.not_mem_nil, or_false, false_or] at ha
    rcases ha with z | z
    · exact absurd (by rw [z]; simp) hn
    · rw [z]; exact n_250
  show aw G 1 M 64 [.ref x] [.ref rp, .ref x] h_281 ((((((((((0 + 1) + 6) + 1) + 8) + 1) + 1) + 1) + 1) + 1) + 4) ((((((((((0 + 11) + 60) + 5) + 632) + 5) + 32) + 5) + 0) + 7) + 48)
  have t_361 : b1 ≠ b2 := nd_ne hnb 1 2 (by decide) rfl rfl
  have t_362 : b1 ≠ b3 := nd_ne hnb 1 3 (by decide) rfl rfl
  have t_363 : b1 ≠ b4 := nd_ne hnb 1 4 (by decide) rfl rfl
  have t_364 : b2 ≠ b3 := nd_ne hnb 2 3 (by decide) rfl rfl
  have t_365 : b2 ≠ b4 := nd_ne hnb 2 4 (by decide) rfl rfl
  have t_366 : b3 ≠ b4 := nd_ne hnb 3 4 (by decide) rfl rfl
  refine pfX8_42_8 C hnm dX8_init_64 f_282 rfl rfl (Nat.le_of_ble_eq_true rfl) (q := 67) rfl ?_
  show aw G 1 M 67 [.ref x] [] (ac_up h_281 x (.inr (8, [.ref p, .ref r, .ref kk, .ref ww, .ref rp, .null, .null, .null, .null, .int 0, .null, .null]))) ((((((((((0 + 1) + 6) + 1) + 8) + 1) + 1) + 1) + 1) + 1) + 4) ((((((((((0 + 11) + 60) + 5) + 632) + 5) + 32) + 5) + 0) + 7) + 48)
  obtain ⟨h_367, eh_367⟩ : ∃ z9, z9 = ac_up h_281 x (.inr (8, [.ref p, .ref r, .ref kk, .ref ww, .ref rp, .null, .null, .null, .null, .int 0, .null, .null])) := ⟨_, rfl⟩
  rw [← eh_367]
  have f_368 : h_367 p = some (.inr (1, [.int 0, .int 0, .int 0, .int 0, .int 0, .ref a2, .ref a3, .ref a4, .ref a5, .ref a6, .ref a7])) := by rw [eh_367, ac_up_n _ _ (Ne.symm t_4)]; exact f_283
  have f_369 : h_367 a2 = some (.inl (1, 10, .inl (fun _ => 0))) := by rw [eh_367, ac_up_n _ _ (Ne.symm t_10)]; exact f_284
  have f_370 : h_367 a3 = some (.inl (1, 10, .inl (fun _ => 0))) := by rw [eh_367, ac_up_n _ _ (Ne.symm t_13)]; exact f_285
  have f_371 : h_367 a4 = some (.inl (1, 10, .inl (fun _ => 0))) := by rw [eh_367, ac_up_n _ _ (Ne.symm t_16)]; exact f_286
  have f_372 : h_367 a5 = some (.inl (1, 10, .inl (fun _ => 0))) := by rw [eh_367, ac_up_n _ _ (Ne.symm t_19)]; exact f_287
  have f_373 : h_367 a6 = some (.inl (1, 10, .inl (fun _ => 0))) := by rw [eh_367, ac_up_n _ _ (Ne.symm t_22)]; exact f_288
  have f_374 : h_367 a7 = some (.inl (1, 10, .inl (fun _ => 0))) := by rw [eh_367, ac_up_n _ _ (Ne.symm t_25)]; exact f_289
  have f_375 : h_367 r = some (.inr (3, [.ref u, .int (nI 0), .int (nI 0), .ref dr, v4])) := by rw [eh_367, ac_up_n _ _ (Ne.symm t_57)]; exact f_290
  have f_376 : h_367 u = some (.inl (0, 300, .inl (fun _ => 0))) := by rw [eh_367, ac_up_n _ _ (Ne.symm t_84)]; exact f_291
  have f_377 : h_367 dr = some (.inl (3, 300, .inl (fun _ => 0))) := by rw [eh_367, ac_up_n _ _ (Ne.symm t_94)]; exact f_292
  have f_378 : h_367 kk = some (.inr (4, [.ref p, .ref sk, .int (nI 0), .int 0, .int 0])) := by rw [eh_367, ac_up_n _ _ (Ne.symm t_121)]; exact f_293
  have f_379 : h_367 sk = some (.inl (2, 32, .inr (.inl (fun _ => 0)))) := by rw [eh_367, ac_up_n _ _ (Ne.symm t_157)]; exact f_294
  have f_380 : h_367 ww = some (.inr (7, [.ref wu, .int (nI 0), .int (nI 0), .ref p, .int (pb_b (false = true))])) := by rw [eh_367, ac_up_n _ _ (Ne.symm t_189)]; exact f_295
  have f_381 : h_367 rp = some (.inr (5, [.null, .int 0, .ref b1, .ref b2, .ref b3, .int 0, .ref b4])) := by rw [eh_367, ac_up_n _ _ (Ne.symm t_251)]; exact y0
  have f_382 : h_367 b1 = some (.inl (1, 12, .inl (fun _ => 0))) := by rw [eh_367, ac_up_n _ _ (Ne.symm t_296)]; exact y1
  have f_383 : h_367 b2 = some (.inl (1, 12, .inl (fun _ => 0))) := by rw [eh_367, ac_up_n _ _ (Ne.symm t_312)]; exact y2
  have f_384 : h_367 b3 = some (.inl (1, 12, .inl (fun _ => 0))) := by rw [eh_367, ac_up_n _ _ (Ne.symm t_328)]; exact y3
  have f_385 : h_367 b4 = some (.inl (1, 12, .inl (fun _ => 0))) := by rw [eh_367, ac_up_n _ _ (Ne.symm t_344)]; exact y4
  have f_386 : h_367 x = some (.inr (8, [.ref p, .ref r, .ref kk, .ref ww, .ref rp, .null, .null, .null, .null, .int 0, .null, .null])) := by rw [eh_367]; exact ac_up_s _ _ _
  have kp_387 : kp h h_367 [x] := by rw [eh_367]; exact kp_up kp_360 _ _ (by simp)
  refine aw_aload_n C dX8_init_67 rfl rfl (q := 68) rfl ?_
  refine nwX8_46 (fs := [.null, .null, .null, .null, .int 0, .null]) C dX8_init_68 dfX2 (Nat.le_trans (by omega) B.2.2.1) (Nat.le_trans (by omega) B.2.2.2) (q := 71) rfl (fun rz hn_388 _ => ?_)
  show aw G 1 M 71 [.ref x] [.ref rz, .ref x] (ac_up h_367 rz (.inr (2, [.null, .null, .null, .null, .int 0, .null]))) (((((((((((0 + 1) + 6) + 1) + 8) + 1) + 1) + 1) + 1) + 1) + 4) + 1) (((((((((((0 + 11) + 60) + 5) + 632) + 5) + 32) + 5) + 0) + 7) + 48) + 6)
  obtain ⟨h_389, eh_389⟩ : ∃ z9, z9 = ac_up h_367 rz (.inr (2, [.null, .null, .null, .null, .int 0, .null])) := ⟨_, rfl⟩
  rw [← eh_389]
  have n_390 : h rz = none := kp_none kp_387 hn_388 (ni1 (Ne.symm (nw_ne f_386 hn_388)) ni0)
  have t_391 : x ≠ rz := nw_ne f_386 hn_388
  have f_392 : h_389 x = some (.inr (8, [.ref p, .ref r, .ref kk, .ref ww, .ref rp, .null, .null, .null, .null, .int 0, .null, .null])) := by rw [eh_389, ac_up_n _ _ t_391]; exact f_386
  have t_393 : p ≠ rz := nw_ne f_368 hn_388
  have f_394 : h_389 p = some (.inr (1, [.int 0, .int 0, .int 0, .int 0, .int 0, .ref a2, .ref a3, .ref a4, .ref a5, .ref a6, .ref a7])) := by rw [eh_389, ac_up_n _ _ t_393]; exact f_368
  have t_395 : a2 ≠ rz := nw_ne f_369 hn_388
  have f_396 : h_389 a2 = some (.inl (1, 10, .inl (fun _ => 0))) := by rw [eh_389, ac_up_n _ _ t_395]; exact f_369
  have t_397 : a3 ≠ rz := nw_ne f_370 hn_388
  have f_398 : h_389 a3 = some (.inl (1, 10, .inl (fun _ => 0))) := by rw [eh_389, ac_up_n _ _ t_397]; exact f_370
  have t_399 : a4 ≠ rz := nw_ne f_371 hn_388
  have f_400 : h_389 a4 = some (.inl (1, 10, .inl (fun _ => 0))) := by rw [eh_389, ac_up_n _ _ t_399]; exact f_371
  have t_401 : a5 ≠ rz := nw_ne f_372 hn_388
  have f_402 : h_389 a5 = some (.inl (1, 10, .inl (fun _ => 0))) := by rw [eh_389, ac_up_n _ _ t_401]; exact f_372
  have t_403 : a6 ≠ rz := nw_ne f_373 hn_388
  have f_404 : h_389 a6 = some (.inl (1, 10, .inl (fun _ => 0))) := by rw [eh_389, ac_up_n _ _ t_403]; exact f_373
  have t_405 : a7 ≠ rz := nw_ne f_374 hn_388
  have f_406 : h_389 a7 = some (.inl (1, 10, .inl (fun _ => 0))) := by rw [eh_389, ac_up_n _ _ t_405]; exact f_374
  have t_407 : r ≠ rz := nw_ne f_375 hn_388
  have f_408 : h_389 r = some (.inr (3, [.ref u, .int (nI 0), .int (nI 0), .ref dr, v4])) := by rw [eh_389, ac_up_n _ _ t_407]; exact f_375
  have t_409 : u ≠ rz := nw_ne f_376 hn_388
  have f_410 : h_389 u = some (.inl (0, 300, .inl (fun _ => 0))) := by rw [eh_389, ac_up_n _ _ t_409]; exact f_376
  have t_411 : dr ≠ rz := nw_ne f_377 hn_388
  have f_412 : h_389 dr = some (.inl (3, 300, .inl (fun _ => 0))) := by rw [eh_389, ac_up_n _ _ t_411]; exact f_377
  have t_413 : kk ≠ rz := nw_ne f_378 hn_388
  have f_414 : h_389 kk = some (.inr (4, [.ref p, .ref sk, .int (nI 0), .int 0, .int 0])) := by rw [eh_389, ac_up_n _ _ t_413]; exact f_378
  have t_415 : sk ≠ rz := nw_ne f_379 hn_388
  have f_416 : h_389 sk = some (.inl (2, 32, .inr (.inl (fun _ => 0)))) := by rw [eh_389, ac_up_n _ _ t_415]; exact f_379
  have t_417 : ww ≠ rz := nw_ne f_380 hn_388
  have f_418 : h_389 ww = some (.inr (7, [.ref wu, .int (nI 0), .int (nI 0), .ref p, .int (pb_b (false = true))])) := by rw [eh_389, ac_up_n _ _ t_417]; exact f_380
  have t_419 : rp ≠ rz := nw_ne f_381 hn_388
  have f_420 : h_389 rp = some (.inr (5, [.null, .int 0, .ref b1, .ref b2, .ref b3, .int 0, .ref b4])) := by rw [eh_389, ac_up_n _ _ t_419]; exact f_381
  have t_421 : b1 ≠ rz := nw_ne f_382 hn_388
  have f_422 : h_389 b1 = some (.inl (1, 12, .inl (fun _ => 0))) := by rw [eh_389, ac_up_n _ _ t_421]; exact f_382
  have t_423 : b2 ≠ rz := nw_ne f_383 hn_388
  have f_424 : h_389 b2 = some (.inl (1, 12, .inl (fun _ => 0))) := by rw [eh_389, ac_up_n _ _ t_423]; exact f_383
  have t_425 : b3 ≠ rz := nw_ne f_384 hn_388
  have f_426 : h_389 b3 = some (.inl (1, 12, .inl (fun _ => 0))) := by rw [eh_389, ac_up_n _ _ t_425]; exact f_384
  have t_427 : b4 ≠ rz := nw_ne f_385 hn_388
  have f_428 : h_389 b4 = some (.inl (1, 12, .inl (fun _ => 0))) := by rw [eh_389, ac_up_n _ _ t_427]; exact f_385
  have f_429 : h_389 rz = some (.inr (2, [.null, .null, .null, .null, .int 0, .null])) := by rw [eh_389]; exact ac_up_s _ _ _
  have kp_430 : kp h h_389 [x] := by rw [eh_389]; exact kp_new n_390 kp_387
  refine aw_dup C dX8_init_71 rfl (q := 72) rfl ?_
  refine aw_aload_n C dX8_init_72 rfl rfl (q := 73) rfl ?_
  refine gfX8_12_8 (v := .ref p) C dX8_init_73 f_392 rfl (q := 76) rfl ?_
  refine aw_aload_n C dX8_init_76 rfl rfl (q := 77) rfl ?_
  refine gfX8_28_8 (v := .ref kk) C dX8_init_77 f_392 rfl (q := 80) rfl ?_
  refine ciX8_48 (As := [.ref p, .ref kk]) (rest := [.ref rz, .ref x]) C B dX8_init_80 (c_init2 G M.2.1 h_389 d rz p kk f_429) rfl rfl (Nat.le_of_ble_eq_true rfl) (by omega) (by omega) (by omega) (q := 83) rfl (fun r9 h_431 hr9 => ?_)
  obtain ⟨er9, ⟨ga, pa, ra, hnz, hfz, z0, z1, z2, ⟨er, z3⟩⟩, kp2⟩ := hr9
  subst er9
  have f_432 : h_431 x = some (.inr (8, [.ref p, .ref r, .ref kk, .ref ww, .ref rp, .null, .null, .null, .null, .int 0, .null, .null])) := kp2 _ _ f_392 (ni1 t_391 ni0)
  have f_433 : h_431 p = some (.inr (1, [.int 0, .int 0, .int 0, .int 0, .int 0, .ref a2, .ref a3, .ref a4, .ref a5, .ref a6, .ref a7])) := kp2 _ _ f_394 (ni1 t_393 ni0)
  have f_434 : h_431 a2 = some (.inl (1, 10, .inl (fun _ => 0))) := kp2 _ _ f_396 (ni1 t_395 ni0)
  have f_435 : h_431 a3 = some (.inl (1, 10, .inl (fun _ => 0))) := kp2 _ _ f_398 (ni1 t_397 ni0)
  have f_436 : h_431 a4 = some (.inl (1, 10, .inl (fun _ => 0))) := kp2 _ _ f_400 (ni1 t_399 ni0)
  have f_437 : h_431 a5 = some (.inl (1, 10, .inl (fun _ => 0))) := kp2 _ _ f_402 (ni1 t_401 ni0)
  have f_438 : h_431 a6 = some (.inl (1, 10, .inl (fun _ => 0))) := kp2 _ _ f_404 (ni1 t_403 ni0)
  have f_439 : h_431 a7 = some (.inl (1, 10, .inl (fun _ => 0))) := kp2 _ _ f_406 (ni1 t_405 ni0)
  have f_440 : h_431 r = some (.inr (3, [.ref u, .int (nI 0), .int (nI 0), .ref dr, v4])) := kp2 _ _ f_408 (ni1 t_407 ni0)
  have f_441 : h_431 u = some (.inl (0, 300, .inl (fun _ => 0))) := kp2 _ _ f_410 (ni1 t_409 ni0)
  have f_442 : h_431 dr = some (.inl (3, 300, .inl (fun _ => 0))) := kp2 _ _ f_412 (ni1 t_411 ni0)
  have f_443 : h_431 kk = some (.inr (4, [.ref p, .ref sk, .int (nI 0), .int 0, .int 0])) := kp2 _ _ f_414 (ni1 t_413 ni0)
  have f_444 : h_431 sk = some (.inl (2, 32, .inr (.inl (fun _ => 0)))) := kp2 _ _ f_416 (ni1 t_415 ni0)
  have f_445 : h_431 ww = some (.inr (7, [.ref wu, .int (nI 0), .int (nI 0), .ref p, .int (pb_b (false = true))])) := kp2 _ _ f_418 (ni1 t_417 ni0)
  have f_446 : h_431 rp = some (.inr (5, [.null, .int 0, .ref b1, .ref b2, .ref b3, .int 0, .ref b4])) := kp2 _ _ f_420 (ni1 t_419 ni0)
  have f_447 : h_431 b1 = some (.inl (1, 12, .inl (fun _ => 0))) := kp2 _ _ f_422 (ni1 t_421 ni0)
  have f_448 : h_431 b2 = some (.inl (1, 12, .inl (fun _ => 0))) := kp2 _ _ f_424 (ni1 t_423 ni0)
  have f_449 : h_431 b3 = some (.inl (1, 12, .inl (fun _ => 0))) := kp2 _ _ f_426 (ni1 t_425 ni0)
  have f_450 : h_431 b4 = some (.inl (1, 12, .inl (fun _ => 0))) := kp2 _ _ f_428 (ni1 t_427 ni0)
  have t_451 : x ≠ ga := nw_ne f_392 (hfz ga (by simp))
  have t_452 : p ≠ ga := nw_ne f_394 (hfz ga (by simp))
  have t_453 : a2 ≠ ga := nw_ne f_396 (hfz ga (by simp))
  have t_454 : a3 ≠ ga := nw_ne f_398 (hfz ga (by simp))
  have t_455 : a4 ≠ ga := nw_ne f_400 (hfz ga (by simp))
  have t_456 : a5 ≠ ga := nw_ne f_402 (hfz ga (by simp))
  have t_457 : a6 ≠ ga := nw_ne f_404 (hfz ga (by simp))
  have t_458 : a7 ≠ ga := nw_ne f_406 (hfz ga (by simp))
  have t_459 : r ≠ ga := nw_ne f_408 (hfz ga (by simp))
  have t_460 : u ≠ ga := nw_ne f_410 (hfz ga (by simp))
  have t_461 : dr ≠ ga := nw_ne f_412 (hfz ga (by simp))
  have t_462 : kk ≠ ga := nw_ne f_414 (hfz ga (by simp))
  have t_463 : sk ≠ ga := nw_ne f_416 (hfz ga (by simp))
  have t_464 : ww ≠ ga := nw_ne f_418 (hfz ga (by simp))
  have t_465 : rp ≠ ga := nw_ne f_420 (hfz ga (by simp))
  have t_466 : b1 ≠ ga := nw_ne f_422 (hfz ga (by simp))
  have t_467 : b2 ≠ ga := nw_ne f_424 (hfz ga (by simp))
  have t_468 : b3 ≠ ga := nw_ne f_426 (hfz ga (by simp))
  have t_469 : b4 ≠ ga := nw_ne f_428 (hfz ga (by simp))
  have t_470 : rz ≠ ga := nw_ne f_429 (hfz ga (by simp))
  have n_471 : h ga = none := kp_none kp_430 (hfz ga (by simp)) (ni1 (Ne.symm t_451) ni0)
  have t_472 : x ≠ pa := nw_ne f_392 (hfz pa (by simp))
  have t_473 : p ≠ pa := nw_ne f_394 (hfz pa (by simp))
  have t_474 : a2 ≠ pa := nw_ne f_396 (hfz pa (by simp))
  have t_475 : a3 ≠ pa := nw_ne f_398 (hfz pa (by simp))
  have t_476 : a4 ≠ pa := nw_ne f_400 (hfz pa (by simp))
  have t_477 : a5 ≠ pa := nw_ne f_402 (hfz pa (by simp))
  have t_478 : a6 ≠ pa := nw_ne f_404 (hfz pa (by simp))
  have t_479 : a7 ≠ pa := nw_ne f_406 (hfz pa (by simp))
  have t_480 : r ≠ pa := nw_ne f_408 (hfz pa (by simp))
  have t_481 : u ≠ pa := nw_ne f_410 (hfz pa (by simp))
  have t_482 : dr ≠ pa := nw_ne f_412 (hfz pa (by simp))
  have t_483 : kk ≠ pa := nw_ne f_414 (hfz pa (by simp))
  have t_484 : sk ≠ pa := nw_ne f_416 (hfz pa (by simp))
  have t_485 : ww ≠ pa := nw_ne f_418 (hfz pa (by simp))
  have t_486 : rp ≠ pa := nw_ne f_420 (hfz pa (by simp))
  have t_487 : b1 ≠ pa := nw_ne f_422 (hfz pa (by simp))
  have t_488 : b2 ≠ pa := nw_ne f_424 (hfz pa (by simp))
  have t_489 : b3 ≠ pa := nw_ne f_426 (hfz pa (by simp))
  have t_490 : b4 ≠ pa := nw_ne f_428 (hfz pa (by simp))
  have t_491 : rz ≠ pa := nw_ne f_429 (hfz pa (by simp))
  have n_492 : h pa = none := kp_none kp_430 (hfz pa (by simp)) (ni1 (Ne.symm t_472) ni0)
  have kp_493 : kp h h_431 [x] := by
    refine kp_fr (kp_tr kp_430 kp2) ?_
    intro a ha hn
    simp only [List.mem_append, List.mem_cons, List.not_mem_nil, or_false, false_or] at ha
    rcases ha with z | z
    · exact absurd (by rw [z]; simp) hn
    · rw [z]; exact n_390
  show aw G 1 M 83 [.ref x] [.ref rz, .ref x] h_431 ((((((((((((0 + 1) + 6) + 1) + 8) + 1) + 1) + 1) + 1) + 1) + 4) + 1) + 8) ((((((((((((0 + 11) + 60) + 5) + 632) + 5) + 32) + 5) + 0) + 7) + 48) + 6) + 1066)
  have t_494 : ga ≠ pa := nd_ne hnz 1 2 (by decide) rfl rfl
  have nra := nd_ne hnz 0 3 (by decide) rfl rfl
  refine pfX8_51_8 C hnm dX8_init_83 f_432 rfl rfl (Nat.le_of_ble_eq_true rfl) (q := 86) rfl ?_
  show aw G 1 M 86 [.ref x] [] (ac_up h_431 x (.inr (8, [.ref p, .ref r, .ref kk, .ref ww, .ref rp, .ref rz, .null, .null, .null, .int 0, .null, .null]))) ((((((((((((0 + 1) + 6) + 1) + 8) + 1) + 1) + 1) + 1) + 1) + 4) + 1) + 8) ((((((((((((0 + 11) + 60) + 5) + 632) + 5) + 32) + 5) + 0) + 7) + 48) + 6) + 1066)
  obtain ⟨h_495, eh_495⟩ : ∃ z9, z9 = ac_up h_431 x (.inr (8, [.ref p, .ref r, .ref kk, .ref ww, .ref rp, .ref rz, .null, .null, .null, .int 0, .null, .null])) := ⟨_, rfl⟩
  rw [← eh_495]
  have f_496 : h_495 p = some (.inr (1, [.int 0, .int 0, .int 0, .int 0, .int 0, .ref a2, .ref a3, .ref a4, .ref a5, .ref a6, .ref a7])) := by rw [eh_495, ac_up_n _ _ (Ne.symm t_4)]; exact f_433
  have f_497 : h_495 a2 = some (.inl (1, 10, .inl (fun _ => 0))) := by rw [eh_495, ac_up_n _ _ (Ne.symm t_10)]; exact f_434
  have f_498 : h_495 a3 = some (.inl (1, 10, .inl (fun _ => 0))) := by rw [eh_495, ac_up_n _ _ (Ne.symm t_13)]; exact f_435
  have f_499 : h_495 a4 = some (.inl (1, 10, .inl (fun _ => 0))) := by rw [eh_495, ac_up_n _ _ (Ne.symm t_16)]; exact f_436
  have f_500 : h_495 a5 = some (.inl (1, 10, .inl (fun _ => 0))) := by rw [eh_495, ac_up_n _ _ (Ne.symm t_19)]; exact f_437
  have f_501 : h_495 a6 = some (.inl (1, 10, .inl (fun _ => 0))) := by rw [eh_495, ac_up_n _ _ (Ne.symm t_22)]; exact f_438
  have f_502 : h_495 a7 = some (.inl (1, 10, .inl (fun _ => 0))) := by rw [eh_495, ac_up_n _ _ (Ne.symm t_25)]; exact f_439
  have f_503 : h_495 r = some (.inr (3, [.ref u, .int (nI 0), .int (nI 0), .ref dr, v4])) := by rw [eh_495, ac_up_n _ _ (Ne.symm t_57)]; exact f_440
  have f_504 : h_495 u = some (.inl (0, 300, .inl (fun _ => 0))) := by rw [eh_495, ac_up_n _ _ (Ne.symm t_84)]; exact f_441
  have f_505 : h_495 dr = some (.inl (3, 300, .inl (fun _ => 0))) := by rw [eh_495, ac_up_n _ _ (Ne.symm t_94)]; exact f_442
  have f_506 : h_495 kk = some (.inr (4, [.ref p, .ref sk, .int (nI 0), .int 0, .int 0])) := by rw [eh_495, ac_up_n _ _ (Ne.symm t_121)]; exact f_443
  have f_507 : h_495 sk = some (.inl (2, 32, .inr (.inl (fun _ => 0)))) := by rw [eh_495, ac_up_n _ _ (Ne.symm t_157)]; exact f_444
  have f_508 : h_495 ww = some (.inr (7, [.ref wu, .int (nI 0), .int (nI 0), .ref p, .int (pb_b (false = true))])) := by rw [eh_495, ac_up_n _ _ (Ne.symm t_189)]; exact f_445
  have f_509 : h_495 rp = some (.inr (5, [.null, .int 0, .ref b1, .ref b2, .ref b3, .int 0, .ref b4])) := by rw [eh_495, ac_up_n _ _ (Ne.symm t_251)]; exact f_446
  have f_510 : h_495 b1 = some (.inl (1, 12, .inl (fun _ => 0))) := by rw [eh_495, ac_up_n _ _ (Ne.symm t_296)]; exact f_447
  have f_511 : h_495 b2 = some (.inl (1, 12, .inl (fun _ => 0))) := by rw [eh_495, ac_up_n _ _ (Ne.symm t_312)]; exact f_448
  have f_512 : h_495 b3 = some (.inl (1, 12, .inl (fun _ => 0))) := by rw [eh_495, ac_up_n _ _ (Ne.symm t_328)]; exact f_449
  have f_513 : h_495 b4 = some (.inl (1, 12, .inl (fun _ => 0))) := by rw [eh_495, ac_up_n _ _ (Ne.symm t_344)]; exact f_450
  have f_514 : h_495 rz = some (.inr (2, [.ref p, .ref kk, .ref ga, .ref ra, .int (-1), .ref pa])) := by rw [eh_495, ac_up_n _ _ (Ne.symm t_391)]; exact z0
  have f_515 : h_495 ga = some (.inl (1, 1024, .inl (fun _ => 0))) := by rw [eh_495, ac_up_n _ _ (Ne.symm t_451)]; exact z1
  have f_516 : h_495 pa = some (.inl (1, 10, .inl (fun _ => 0))) := by rw [eh_495, ac_up_n _ _ (Ne.symm t_472)]; exact z2
  have f_517 : h_495 x = some (.inr (8, [.ref p, .ref r, .ref kk, .ref ww, .ref rp, .ref rz, .null, .null, .null, .int 0, .null, .null])) := by rw [eh_495]; exact ac_up_s _ _ _
  have kp_518 : kp h h_495 [x] := by rw [eh_495]; exact kp_up kp_493 _ _ (by simp)
  refine aw_aload_n C dX8_init_86 rfl rfl (q := 87) rfl ?_
  refine aw_null C dX8_init_87 (q := 88) rfl ?_
  refine pfX8_55_8 C dX8_init_88 f_517 rfl rfl (Nat.le_of_ble_eq_true rfl) (q := 91) rfl ?_
  show aw G 1 M 91 [.ref x] [] (ac_up h_495 x (.inr (8, [.ref p, .ref r, .ref kk, .ref ww, .ref rp, .ref rz, .null, .null, .null, .int 0, .null, .null]))) ((((((((((((0 + 1) + 6) + 1) + 8) + 1) + 1) + 1) + 1) + 1) + 4) + 1) + 8) ((((((((((((0 + 11) + 60) + 5) + 632) + 5) + 32) + 5) + 0) + 7) + 48) + 6) + 1066)
  obtain ⟨h_519, eh_519⟩ : ∃ z9, z9 = ac_up h_495 x (.inr (8, [.ref p, .ref r, .ref kk, .ref ww, .ref rp, .ref rz, .null, .null, .null, .int 0, .null, .null])) := ⟨_, rfl⟩
  rw [← eh_519]
  have f_520 : h_519 p = some (.inr (1, [.int 0, .int 0, .int 0, .int 0, .int 0, .ref a2, .ref a3, .ref a4, .ref a5, .ref a6, .ref a7])) := by rw [eh_519, ac_up_n _ _ (Ne.symm t_4)]; exact f_496
  have f_521 : h_519 a2 = some (.inl (1, 10, .inl (fun _ => 0))) := by rw [eh_519, ac_up_n _ _ (Ne.symm t_10)]; exact f_497
  have f_522 : h_519 a3 = some (.inl (1, 10, .inl (fun _ => 0))) := by rw [eh_519, ac_up_n _ _ (Ne.symm t_13)]; exact f_498
  have f_523 : h_519 a4 = some (.inl (1, 10, .inl (fun _ => 0))) := by rw [eh_519, ac_up_n _ _ (Ne.symm t_16)]; exact f_499
  have f_524 : h_519 a5 = some (.inl (1, 10, .inl (fun _ => 0))) := by rw [eh_519, ac_up_n _ _ (Ne.symm t_19)]; exact f_500
  have f_525 : h_519 a6 = some (.inl (1, 10, .inl (fun _ => 0))) := by rw [eh_519, ac_up_n _ _ (Ne.symm t_22)]; exact f_501
  have f_526 : h_519 a7 = some (.inl (1, 10, .inl (fun _ => 0))) := by rw [eh_519, ac_up_n _ _ (Ne.symm t_25)]; exact f_502
  have f_527 : h_519 r = some (.inr (3, [.ref u, .int (nI 0), .int (nI 0), .ref dr, v4])) := by rw [eh_519, ac_up_n _ _ (Ne.symm t_57)]; exact f_503
  have f_528 : h_519 u = some (.inl (0, 300, .inl (fun _ => 0))) := by rw [eh_519, ac_up_n _ _ (Ne.symm t_84)]; exact f_504
  have f_529 : h_519 dr = some (.inl (3, 300, .inl (fun _ => 0))) := by rw [eh_519, ac_up_n _ _ (Ne.symm t_94)]; exact f_505
  have f_530 : h_519 kk = some (.inr (4, [.ref p, .ref sk, .int (nI 0), .int 0, .int 0])) := by rw [eh_519, ac_up_n _ _ (Ne.symm t_121)]; exact f_506
  have f_531 : h_519 sk = some (.inl (2, 32, .inr (.inl (fun _ => 0)))) := by rw [eh_519, ac_up_n _ _ (Ne.symm t_157)]; exact f_507
  have f_532 : h_519 ww = some (.inr (7, [.ref wu, .int (nI 0), .int (nI 0), .ref p, .int (pb_b (false = true))])) := by rw [eh_519, ac_up_n _ _ (Ne.symm t_189)]; exact f_508
  have f_533 : h_519 rp = some (.inr (5, [.null, .int 0, .ref b1, .ref b2, .ref b3, .int 0, .ref b4])) := by rw [eh_519, ac_up_n _ _ (Ne.symm t_251)]; exact f_509
  have f_534 : h_519 b1 = some (.inl (1, 12, .inl (fun _ => 0))) := by rw [eh_519, ac_up_n _ _ (Ne.symm t_296)]; exact f_510
  have f_535 : h_519 b2 = some (.inl (1, 12, .inl (fun _ => 0))) := by rw [eh_519, ac_up_n _ _ (Ne.symm t_312)]; exact f_511
  have f_536 : h_519 b3 = some (.inl (1, 12, .inl (fun _ => 0))) := by rw [eh_519, ac_up_n _ _ (Ne.symm t_328)]; exact f_512
  have f_537 : h_519 b4 = some (.inl (1, 12, .inl (fun _ => 0))) := by rw [eh_519, ac_up_n _ _ (Ne.symm t_344)]; exact f_513
  have f_538 : h_519 rz = some (.inr (2, [.ref p, .ref kk, .ref ga, .ref ra, .int (-1), .ref pa])) := by rw [eh_519, ac_up_n _ _ (Ne.symm t_391)]; exact f_514
  have f_539 : h_519 ga = some (.inl (1, 1024, .inl (fun _ => 0))) := by rw [eh_519, ac_up_n _ _ (Ne.symm t_451)]; exact f_515
  have f_540 : h_519 pa = some (.inl (1, 10, .inl (fun _ => 0))) := by rw [eh_519, ac_up_n _ _ (Ne.symm t_472)]; exact f_516
  have f_541 : h_519 x = some (.inr (8, [.ref p, .ref r, .ref kk, .ref ww, .ref rp, .ref rz, .null, .null, .null, .int 0, .null, .null])) := by rw [eh_519]; exact ac_up_s _ _ _
  have kp_542 : kp h h_519 [x] := by rw [eh_519]; exact kp_up kp_518 _ _ (by simp)
  refine aw_aload_n C dX8_init_91 rfl rfl (q := 92) rfl ?_
  refine aw_iconst (v := 4) C dX8_init_92 (by decide) (q := 93) rfl ?_
  refine aw_newq (N := 4) C dX8_init_93 (ac_ws_in 325 (by decide +kernel) (by decide +kernel)) (by decide) rfl (by decide) (Nat.le_trans (by omega) B.2.2.1) (Nat.le_trans (by omega) B.2.2.2) (q := 96) rfl (fun ee hn_543 _ => ?_)
  show aw G 1 M 96 [.ref x] [.ref ee, .ref x] (ac_up h_519 ee (.inl (4, 4, .inr (.inr (.inr (.inr (fun _ => none))))))) (((((((((((((0 + 1) + 6) + 1) + 8) + 1) + 1) + 1) + 1) + 1) + 4) + 1) + 8) + 1) (((((((((((((0 + 11) + 60) + 5) + 632) + 5) + 32) + 5) + 0) + 7) + 48) + 6) + 1066) + 4)
  obtain ⟨h_544, eh_544⟩ : ∃ z9, z9 = ac_up h_519 ee (.inl (4, 4, .inr (.inr (.inr (.inr (fun _ => none)))))) := ⟨_, rfl⟩
  rw [← eh_544]
  have n_545 : h ee = none := kp_none kp_542 hn_543 (ni1 (Ne.symm (nw_ne f_541 hn_543)) ni0)
  have t_546 : x ≠ ee := nw_ne f_541 hn_543
  have f_547 : h_544 x = some (.inr (8, [.ref p, .ref r, .ref kk, .ref ww, .ref rp, .ref rz, .null, .null, .null, .int 0, .null, .null])) := by rw [eh_544, ac_up_n _ _ t_546]; exact f_541
  have t_548 : p ≠ ee := nw_ne f_520 hn_543
  have f_549 : h_544 p = some (.inr (1, [.int 0, .int 0, .int 0, .int 0, .int 0, .ref a2, .ref a3, .ref a4, .ref a5, .ref a6, .ref a7])) := by rw [eh_544, ac_up_n _ _ t_548]; exact f_520
  have t_550 : a2 ≠ ee := nw_ne f_521 hn_543
  have f_551 : h_544 a2 = some (.inl (1, 10, .inl (fun _ => 0))) := by rw [eh_544, ac_up_n _ _ t_550]; exact f_521
  have t_552 : a3 ≠ ee := nw_ne f_522 hn_543
  have f_553 : h_544 a3 = some (.inl (1, 10, .inl (fun _ => 0))) := by rw [eh_544, ac_up_n _ _ t_552]; exact f_522
  have t_554 : a4 ≠ ee := nw_ne f_523 hn_543
  have f_555 : h_544 a4 = some (.inl (1, 10, .inl (fun _ => 0))) := by rw [eh_544, ac_up_n _ _ t_554]; exact f_523
  have t_556 : a5 ≠ ee := nw_ne f_524 hn_543
  have f_557 : h_544 a5 = some (.inl (1, 10, .inl (fun _ => 0))) := by rw [eh_544, ac_up_n _ _ t_556]; exact f_524
  have t_558 : a6 ≠ ee := nw_ne f_525 hn_543
  have f_559 : h_544 a6 = some (.inl (1, 10, .inl (fun _ => 0))) := by rw [eh_544, ac_up_n _ _ t_558]; exact f_525
  have t_560 : a7 ≠ ee := nw_ne f_526 hn_543
  have f_561 : h_544 a7 = some (.inl (1, 10, .inl (fun _ => 0))) := by rw [eh_544, ac_up_n _ _ t_560]; exact f_526
  have t_562 : r ≠ ee := nw_ne f_527 hn_543
  have f_563 : h_544 r = some (.inr (3, [.ref u, .int (nI 0), .int (nI 0), .ref dr, v4])) := by rw [eh_544, ac_up_n _ _ t_562]; exact f_527
  have t_564 : u ≠ ee := nw_ne f_528 hn_543
  have f_565 : h_544 u = some (.inl (0, 300, .inl (fun _ => 0))) := by rw [eh_544, ac_up_n _ _ t_564]; exact f_528
  have t_566 : dr ≠ ee := nw_ne f_529 hn_543
  have f_567 : h_544 dr = some (.inl (3, 300, .inl (fun _ => 0))) := by rw [eh_544, ac_up_n _ _ t_566]; exact f_529
  have t_568 : kk ≠ ee := nw_ne f_530 hn_543
  have f_569 : h_544 kk = some (.inr (4, [.ref p, .ref sk, .int (nI 0), .int 0, .int 0])) := by rw [eh_544, ac_up_n _ _ t_568]; exact f_530
  have t_570 : sk ≠ ee := nw_ne f_531 hn_543
  have f_571 : h_544 sk = some (.inl (2, 32, .inr (.inl (fun _ => 0)))) := by rw [eh_544, ac_up_n _ _ t_570]; exact f_531
  have t_572 : ww ≠ ee := nw_ne f_532 hn_543
  have f_573 : h_544 ww = some (.inr (7, [.ref wu, .int (nI 0), .int (nI 0), .ref p, .int (pb_b (false = true))])) := by rw [eh_544, ac_up_n _ _ t_572]; exact f_532
  have t_574 : rp ≠ ee := nw_ne f_533 hn_543
  have f_575 : h_544 rp = some (.inr (5, [.null, .int 0, .ref b1, .ref b2, .ref b3, .int 0, .ref b4])) := by rw [eh_544, ac_up_n _ _ t_574]; exact f_533
  have t_576 : b1 ≠ ee := nw_ne f_534 hn_543
  have f_577 : h_544 b1 = some (.inl (1, 12, .inl (fun _ => 0))) := by rw [eh_544, ac_up_n _ _ t_576]; exact f_534
  have t_578 : b2 ≠ ee := nw_ne f_535 hn_543
  have f_579 : h_544 b2 = some (.inl (1, 12, .inl (fun _ => 0))) := by rw [eh_544, ac_up_n _ _ t_578]; exact f_535
  have t_580 : b3 ≠ ee := nw_ne f_536 hn_543
  have f_581 : h_544 b3 = some (.inl (1, 12, .inl (fun _ => 0))) := by rw [eh_544, ac_up_n _ _ t_580]; exact f_536
  have t_582 : b4 ≠ ee := nw_ne f_537 hn_543
  have f_583 : h_544 b4 = some (.inl (1, 12, .inl (fun _ => 0))) := by rw [eh_544, ac_up_n _ _ t_582]; exact f_537
  have t_584 : rz ≠ ee := nw_ne f_538 hn_543
  have f_585 : h_544 rz = some (.inr (2, [.ref p, .ref kk, .ref ga, .ref ra, .int (-1), .ref pa])) := by rw [eh_544, ac_up_n _ _ t_584]; exact f_538
  have t_586 : ga ≠ ee := nw_ne f_539 hn_543
  have f_587 : h_544 ga = some (.inl (1, 1024, .inl (fun _ => 0))) := by rw [eh_544, ac_up_n _ _ t_586]; exact f_539
  have t_588 : pa ≠ ee := nw_ne f_540 hn_543
  have f_589 : h_544 pa = some (.inl (1, 10, .inl (fun _ => 0))) := by rw [eh_544, ac_up_n _ _ t_588]; exact f_540
  have f_590 : h_544 ee = some (.inl (4, 4, .inr (.inr (.inr (.inr (fun _ => none)))))) := by rw [eh_544]; exact ac_up_s _ _ _
  have kp_591 : kp h h_544 [x] := by rw [eh_544]; exact kp_new n_545 kp_542
  refine pfX8_61_8 C hnm dX8_init_96 f_547 rfl rfl (Nat.le_of_ble_eq_true rfl) (q := 99) rfl ?_
  show aw G 1 M 99 [.ref x] [] (ac_up h_544 x (.inr (8, [.ref p, .ref r, .ref kk, .ref ww, .ref rp, .ref rz, .null, .ref ee, .null, .int 0, .null, .null]))) (((((((((((((0 + 1) + 6) + 1) + 8) + 1) + 1) + 1) + 1) + 1) + 4) + 1) + 8) + 1) (((((((((((((0 + 11) + 60) + 5) + 632) + 5) + 32) + 5) + 0) + 7) + 48) + 6) + 1066) + 4)
  obtain ⟨h_592, eh_592⟩ : ∃ z9, z9 = ac_up h_544 x (.inr (8, [.ref p, .ref r, .ref kk, .ref ww, .ref rp, .ref rz, .null, .ref ee, .null, .int 0, .null, .null])) := ⟨_, rfl⟩
  rw [← eh_592]
  have f_593 : h_592 p = some (.inr (1, [.int 0, .int 0, .int 0, .int 0, .int 0, .ref a2, .ref a3, .ref a4, .ref a5, .ref a6, .ref a7])) := by rw [eh_592, ac_up_n _ _ (Ne.symm t_4)]; exact f_549
  have f_594 : h_592 a2 = some (.inl (1, 10, .inl (fun _ => 0))) := by rw [eh_592, ac_up_n _ _ (Ne.symm t_10)]; exact f_551
  have f_595 : h_592 a3 = some (.inl (1, 10, .inl (fun _ => 0))) := by rw [eh_592, ac_up_n _ _ (Ne.symm t_13)]; exact f_553
  have f_596 : h_592 a4 = some (.inl (1, 10, .inl (fun _ => 0))) := by rw [eh_592, ac_up_n _ _ (Ne.symm t_16)]; exact f_555
  have f_597 : h_592 a5 = some (.inl (1, 10, .inl (fun _ => 0))) := by rw [eh_592, ac_up_n _ _ (Ne.symm t_19)]; exact f_557
  have f_598 : h_592 a6 = some (.inl (1, 10, .inl (fun _ => 0))) := by rw [eh_592, ac_up_n _ _ (Ne.symm t_22)]; exact f_559
  have f_599 : h_592 a7 = some (.inl (1, 10, .inl (fun _ => 0))) := by rw [eh_592, ac_up_n _ _ (Ne.symm t_25)]; exact f_561
  have f_600 : h_592 r = some (.inr (3, [.ref u, .int (nI 0), .int (nI 0), .ref dr, v4])) := by rw [eh_592, ac_up_n _ _ (Ne.symm t_57)]; exact f_563
  have f_601 : h_592 u = some (.inl (0, 300, .inl (fun _ => 0))) := by rw [eh_592, ac_up_n _ _ (Ne.symm t_84)]; exact f_565
  have f_602 : h_592 dr = some (.inl (3, 300, .inl (fun _ => 0))) := by rw [eh_592, ac_up_n _ _ (Ne.symm t_94)]; exact f_567
  have f_603 : h_592 kk = some (.inr (4, [.ref p, .ref sk, .int (nI 0), .int 0, .int 0])) := by rw [eh_592, ac_up_n _ _ (Ne.symm t_121)]; exact f_569
  have f_604 : h_592 sk = some (.inl (2, 32, .inr (.inl (fun _ => 0)))) := by rw [eh_592, ac_up_n _ _ (Ne.symm t_157)]; exact f_571
  have f_605 : h_592 ww = some (.inr (7, [.ref wu, .int (nI 0), .int (nI 0), .ref p, .int (pb_b (false = true))])) := by rw [eh_592, ac_up_n _ _ (Ne.symm t_189)]; exact f_573
  have f_606 : h_592 rp = some (.inr (5, [.null, .int 0, .ref b1, .ref b2, .ref b3, .int 0, .ref b4])) := by rw [eh_592, ac_up_n _ _ (Ne.symm t_251)]; exact f_575
  have f_607 : h_592 b1 = some (.inl (1, 12, .inl (fun _ => 0))) := by rw [eh_592, ac_up_n _ _ (Ne.symm t_296)]; exact f_577
  have f_608 : h_592 b2 = some (.inl (1, 12, .inl (fun _ => 0))) := by rw [eh_592, ac_up_n _ _ (Ne.symm t_312)]; exact f_579
  have f_609 : h_592 b3 = some (.inl (1, 12, .inl (fun _ => 0))) := by rw [eh_592, ac_up_n _ _ (Ne.symm t_328)]; exact f_581
  have f_610 : h_592 b4 = some (.inl (1, 12, .inl (fun _ => 0))) := by rw [eh_592, ac_up_n _ _ (Ne.symm t_344)]; exact f_583
  have f_611 : h_592 rz = some (.inr (2, [.ref p, .ref kk, .ref ga, .ref ra, .int (-1), .ref pa])) := by rw [eh_592, ac_up_n _ _ (Ne.symm t_391)]; exact f_585
  have f_612 : h_592 ga = some (.inl (1, 1024, .inl (fun _ => 0))) := by rw [eh_592, ac_up_n _ _ (Ne.symm t_451)]; exact f_587
  have f_613 : h_592 pa = some (.inl (1, 10, .inl (fun _ => 0))) := by rw [eh_592, ac_up_n _ _ (Ne.symm t_472)]; exact f_589
  have f_614 : h_592 ee = some (.inl (4, 4, .inr (.inr (.inr (.inr (fun _ => none)))))) := by rw [eh_592, ac_up_n _ _ (Ne.symm t_546)]; exact f_590
  have f_615 : h_592 x = some (.inr (8, [.ref p, .ref r, .ref kk, .ref ww, .ref rp, .ref rz, .null, .ref ee, .null, .int 0, .null, .null])) := by rw [eh_592]; exact ac_up_s _ _ _
  have kp_616 : kp h h_592 [x] := by rw [eh_592]; exact kp_up kp_591 _ _ (by simp)
  refine aw_aload_n C dX8_init_99 rfl rfl (q := 100) rfl ?_
  refine aw_iconst (v := 4) C dX8_init_100 (by decide) (q := 101) rfl ?_
  refine ay_newL (N := 4) C dX8_init_101 (by decide) (rfl) (by decide) (Nat.le_trans (by omega) B.2.2.1) (Nat.le_trans (by omega) B.2.2.2) (q := 103) rfl (fun dd hn_617 _ => ?_)
  show aw G 1 M 103 [.ref x] [.ref dd, .ref x] (ac_up h_592 dd (.inl (2, 4, .inr (.inl (fun _ => 0))))) ((((((((((((((0 + 1) + 6) + 1) + 8) + 1) + 1) + 1) + 1) + 1) + 4) + 1) + 8) + 1) + 1) ((((((((((((((0 + 11) + 60) + 5) + 632) + 5) + 32) + 5) + 0) + 7) + 48) + 6) + 1066) + 4) + 4)
  obtain ⟨h_618, eh_618⟩ : ∃ z9, z9 = ac_up h_592 dd (.inl (2, 4, .inr (.inl (fun _ => 0)))) := ⟨_, rfl⟩
  rw [← eh_618]
  have n_619 : h dd = none := kp_none kp_616 hn_617 (ni1 (Ne.symm (nw_ne f_615 hn_617)) ni0)
  have t_620 : x ≠ dd := nw_ne f_615 hn_617
  have f_621 : h_618 x = some (.inr (8, [.ref p, .ref r, .ref kk, .ref ww, .ref rp, .ref rz, .null, .ref ee, .null, .int 0, .null, .null])) := by rw [eh_618, ac_up_n _ _ t_620]; exact f_615
  have t_622 : p ≠ dd := nw_ne f_593 hn_617
  have f_623 : h_618 p = some (.inr (1, [.int 0, .int 0, .int 0, .int 0, .int 0, .ref a2, .ref a3, .ref a4, .ref a5, .ref a6, .ref a7])) := by rw [eh_618, ac_up_n _ _ t_622]; exact f_593
  have t_624 : a2 ≠ dd := nw_ne f_594 hn_617
  have f_625 : h_618 a2 = some (.inl (1, 10, .inl (fun _ => 0))) := by rw [eh_618, ac_up_n _ _ t_624]; exact f_594
  have t_626 : a3 ≠ dd := nw_ne f_595 hn_617
  have f_627 : h_618 a3 = some (.inl (1, 10, .inl (fun _ => 0))) := by rw [eh_618, ac_up_n _ _ t_626]; exact f_595
  have t_628 : a4 ≠ dd := nw_ne f_596 hn_617
  have f_629 : h_618 a4 = some (.inl (1, 10, .inl (fun _ => 0))) := by rw [eh_618, ac_up_n _ _ t_628]; exact f_596
  have t_630 : a5 ≠ dd := nw_ne f_597 hn_617
  have f_631 : h_618 a5 = some (.inl (1, 10, .inl (fun _ => 0))) := by rw [eh_618, ac_up_n _ _ t_630]; exact f_597
  have t_632 : a6 ≠ dd := nw_ne f_598 hn_617
  have f_633 : h_618 a6 = some (.inl (1, 10, .inl (fun _ => 0))) := by rw [eh_618, ac_up_n _ _ t_632]; exact f_598
  have t_634 : a7 ≠ dd := nw_ne f_599 hn_617
  have f_635 : h_618 a7 = some (.inl (1, 10, .inl (fun _ => 0))) := by rw [eh_618, ac_up_n _ _ t_634]; exact f_599
  have t_636 : r ≠ dd := nw_ne f_600 hn_617
  have f_637 : h_618 r = some (.inr (3, [.ref u, .int (nI 0), .int (nI 0), .ref dr, v4])) := by rw [eh_618, ac_up_n _ _ t_636]; exact f_600
  have t_638 : u ≠ dd := nw_ne f_601 hn_617
  have f_639 : h_618 u = some (.inl (0, 300, .inl (fun _ => 0))) := by rw [eh_618, ac_up_n _ _ t_638]; exact f_601
  have t_640 : dr ≠ dd := nw_ne f_602 hn_617
  have f_641 : h_618 dr = some (.inl (3, 300, .inl (fun _ => 0))) := by rw [eh_618, ac_up_n _ _ t_640]; exact f_602
  have t_642 : kk ≠ dd := nw_ne f_603 hn_617
  have f_643 : h_618 kk = some (.inr (4, [.ref p, .ref sk, .int (nI 0), .int 0, .int 0])) := by rw [eh_618, ac_up_n _ _ t_642]; exact f_603
  have t_644 : sk ≠ dd := nw_ne f_604 hn_617
  have f_645 : h_618 sk = some (.inl (2, 32, .inr (.inl (fun _ => 0)))) := by rw [eh_618, ac_up_n _ _ t_644]; exact f_604
  have t_646 : ww ≠ dd := nw_ne f_605 hn_617
  have f_647 : h_618 ww = some (.inr (7, [.ref wu, .int (nI 0), .int (nI 0), .ref p, .int (pb_b (false = true))])) := by rw [eh_618, ac_up_n _ _ t_646]; exact f_605
  have t_648 : rp ≠ dd := nw_ne f_606 hn_617
  have f_649 : h_618 rp = some (.inr (5, [.null, .int 0, .ref b1, .ref b2, .ref b3, .int 0, .ref b4])) := by rw [eh_618, ac_up_n _ _ t_648]; exact f_606
  have t_650 : b1 ≠ dd := nw_ne f_607 hn_617
  have f_651 : h_618 b1 = some (.inl (1, 12, .inl (fun _ => 0))) := by rw [eh_618, ac_up_n _ _ t_650]; exact f_607
  have t_652 : b2 ≠ dd := nw_ne f_608 hn_617
  have f_653 : h_618 b2 = some (.inl (1, 12, .inl (fun _ => 0))) := by rw [eh_618, ac_up_n _ _ t_652]; exact f_608
  have t_654 : b3 ≠ dd := nw_ne f_609 hn_617
  have f_655 : h_618 b3 = some (.inl (1, 12, .inl (fun _ => 0))) := by rw [eh_618, ac_up_n _ _ t_654]; exact f_609
  have t_656 : b4 ≠ dd := nw_ne f_610 hn_617
  have f_657 : h_618 b4 = some (.inl (1, 12, .inl (fun _ => 0))) := by rw [eh_618, ac_up_n _ _ t_656]; exact f_610
  have t_658 : rz ≠ dd := nw_ne f_611 hn_617
  have f_659 : h_618 rz = some (.inr (2, [.ref p, .ref kk, .ref ga, .ref ra, .int (-1), .ref pa])) := by rw [eh_618, ac_up_n _ _ t_658]; exact f_611
  have t_660 : ga ≠ dd := nw_ne f_612 hn_617
  have f_661 : h_618 ga = some (.inl (1, 1024, .inl (fun _ => 0))) := by rw [eh_618, ac_up_n _ _ t_660]; exact f_612
  have t_662 : pa ≠ dd := nw_ne f_613 hn_617
  have f_663 : h_618 pa = some (.inl (1, 10, .inl (fun _ => 0))) := by rw [eh_618, ac_up_n _ _ t_662]; exact f_613
  have t_664 : ee ≠ dd := nw_ne f_614 hn_617
  have f_665 : h_618 ee = some (.inl (4, 4, .inr (.inr (.inr (.inr (fun _ => none)))))) := by rw [eh_618, ac_up_n _ _ t_664]; exact f_614
  have f_666 : h_618 dd = some (.inl (2, 4, .inr (.inl (fun _ => 0)))) := by rw [eh_618]; exact ac_up_s _ _ _
  have kp_667 : kp h h_618 [x] := by rw [eh_618]; exact kp_new n_619 kp_616
  refine pfX8_65_8 C hnm dX8_init_103 f_621 rfl rfl (Nat.le_of_ble_eq_true rfl) (q := 106) rfl ?_
  show aw G 1 M 106 [.ref x] [] (ac_up h_618 x (.inr (8, [.ref p, .ref r, .ref kk, .ref ww, .ref rp, .ref rz, .null, .ref ee, .ref dd, .int 0, .null, .null]))) ((((((((((((((0 + 1) + 6) + 1) + 8) + 1) + 1) + 1) + 1) + 1) + 4) + 1) + 8) + 1) + 1) ((((((((((((((0 + 11) + 60) + 5) + 632) + 5) + 32) + 5) + 0) + 7) + 48) + 6) + 1066) + 4) + 4)
  obtain ⟨h_668, eh_668⟩ : ∃ z9, z9 = ac_up h_618 x (.inr (8, [.ref p, .ref r, .ref kk, .ref ww, .ref rp, .ref rz, .null, .ref ee, .ref dd, .int 0, .null, .null])) := ⟨_, rfl⟩
  rw [← eh_668]
  have f_669 : h_668 p = some (.inr (1, [.int 0, .int 0, .int 0, .int 0, .int 0, .ref a2, .ref a3, .ref a4, .ref a5, .ref a6, .ref a7])) := by rw [eh_668, ac_up_n _ _ (Ne.symm t_4)]; exact f_623
  have f_670 : h_668 a2 = some (.inl (1, 10, .inl (fun _ => 0))) := by rw [eh_668, ac_up_n _ _ (Ne.symm t_10)]; exact f_625
  have f_671 : h_668 a3 = some (.inl (1, 10, .inl (fun _ => 0))) := by rw [eh_668, ac_up_n _ _ (Ne.symm t_13)]; exact f_627
  have f_672 : h_668 a4 = some (.inl (1, 10, .inl (fun _ => 0))) := by rw [eh_668, ac_up_n _ _ (Ne.symm t_16)]; exact f_629
  have f_673 : h_668 a5 = some (.inl (1, 10, .inl (fun _ => 0))) := by rw [eh_668, ac_up_n _ _ (Ne.symm t_19)]; exact f_631
  have f_674 : h_668 a6 = some (.inl (1, 10, .inl (fun _ => 0))) := by rw [eh_668, ac_up_n _ _ (Ne.symm t_22)]; exact f_633
  have f_675 : h_668 a7 = some (.inl (1, 10, .inl (fun _ => 0))) := by rw [eh_668, ac_up_n _ _ (Ne.symm t_25)]; exact f_635
  have f_676 : h_668 r = some (.inr (3, [.ref u, .int (nI 0), .int (nI 0), .ref dr, v4])) := by rw [eh_668, ac_up_n _ _ (Ne.symm t_57)]; exact f_637
  have f_677 : h_668 u = some (.inl (0, 300, .inl (fun _ => 0))) := by rw [eh_668, ac_up_n _ _ (Ne.symm t_84)]; exact f_639
  have f_678 : h_668 dr = some (.inl (3, 300, .inl (fun _ => 0))) := by rw [eh_668, ac_up_n _ _ (Ne.symm t_94)]; exact f_641
  have f_679 : h_668 kk = some (.inr (4, [.ref p, .ref sk, .int (nI 0), .int 0, .int 0])) := by rw [eh_668, ac_up_n _ _ (Ne.symm t_121)]; exact f_643
  have f_680 : h_668 sk = some (.inl (2, 32, .inr (.inl (fun _ => 0)))) := by rw [eh_668, ac_up_n _ _ (Ne.symm t_157)]; exact f_645
  have f_681 : h_668 ww = some (.inr (7, [.ref wu, .int (nI 0), .int (nI 0), .ref p, .int (pb_b (false = true))])) := by rw [eh_668, ac_up_n _ _ (Ne.symm t_189)]; exact f_647
  have f_682 : h_668 rp = some (.inr (5, [.null, .int 0, .ref b1, .ref b2, .ref b3, .int 0, .ref b4])) := by rw [eh_668, ac_up_n _ _ (Ne.symm t_251)]; exact f_649
  have f_683 : h_668 b1 = some (.inl (1, 12, .inl (fun _ => 0))) := by rw [eh_668, ac_up_n _ _ (Ne.symm t_296)]; exact f_651
  have f_684 : h_668 b2 = some (.inl (1, 12, .inl (fun _ => 0))) := by rw [eh_668, ac_up_n _ _ (Ne.symm t_312)]; exact f_653
  have f_685 : h_668 b3 = some (.inl (1, 12, .inl (fun _ => 0))) := by rw [eh_668, ac_up_n _ _ (Ne.symm t_328)]; exact f_655
  have f_686 : h_668 b4 = some (.inl (1, 12, .inl (fun _ => 0))) := by rw [eh_668, ac_up_n _ _ (Ne.symm t_344)]; exact f_657
  have f_687 : h_668 rz = some (.inr (2, [.ref p, .ref kk, .ref ga, .ref ra, .int (-1), .ref pa])) := by rw [eh_668, ac_up_n _ _ (Ne.symm t_391)]; exact f_659
  have f_688 : h_668 ga = some (.inl (1, 1024, .inl (fun _ => 0))) := by rw [eh_668, ac_up_n _ _ (Ne.symm t_451)]; exact f_661
  have f_689 : h_668 pa = some (.inl (1, 10, .inl (fun _ => 0))) := by rw [eh_668, ac_up_n _ _ (Ne.symm t_472)]; exact f_663
  have f_690 : h_668 ee = some (.inl (4, 4, .inr (.inr (.inr (.inr (fun _ => none)))))) := by rw [eh_668, ac_up_n _ _ (Ne.symm t_546)]; exact f_665
  have f_691 : h_668 dd = some (.inl (2, 4, .inr (.inl (fun _ => 0)))) := by rw [eh_668, ac_up_n _ _ (Ne.symm t_620)]; exact f_666
  have f_692 : h_668 x = some (.inr (8, [.ref p, .ref r, .ref kk, .ref ww, .ref rp, .ref rz, .null, .ref ee, .ref dd, .int 0, .null, .null])) := by rw [eh_668]; exact ac_up_s _ _ _
  have kp_693 : kp h h_668 [x] := by rw [eh_668]; exact kp_up kp_667 _ _ (by simp)
  refine aw_aload_n C dX8_init_106 rfl rfl (q := 107) rfl ?_
  refine aw_iconst (v := 0) C dX8_init_107 (by decide) (q := 108) rfl ?_
  refine pfX8_69_8 C dX8_init_108 f_692 rfl rfl (Nat.le_of_ble_eq_true rfl) (q := 111) rfl ?_
  show aw G 1 M 111 [.ref x] [] (ac_up h_668 x (.inr (8, [.ref p, .ref r, .ref kk, .ref ww, .ref rp, .ref rz, .null, .ref ee, .ref dd, .int 0, .null, .null]))) ((((((((((((((0 + 1) + 6) + 1) + 8) + 1) + 1) + 1) + 1) + 1) + 4) + 1) + 8) + 1) + 1) ((((((((((((((0 + 11) + 60) + 5) + 632) + 5) + 32) + 5) + 0) + 7) + 48) + 6) + 1066) + 4) + 4)
  obtain ⟨h_694, eh_694⟩ : ∃ z9, z9 = ac_up h_668 x (.inr (8, [.ref p, .ref r, .ref kk, .ref ww, .ref rp, .ref rz, .null, .ref ee, .ref dd, .int 0, .null, .null])) := ⟨_, rfl⟩
  rw [← eh_694]
  have f_695 : h_694 p = some (.inr (1, [.int 0, .int 0, .int 0, .int 0, .int 0, .ref a2, .ref a3, .ref a4, .ref a5, .ref a6, .ref a7])) := by rw [eh_694, ac_up_n _ _ (Ne.symm t_4)]; exact f_669
  have f_696 : h_694 a2 = some (.inl (1, 10, .inl (fun _ => 0))) := by rw [eh_694, ac_up_n _ _ (Ne.symm t_10)]; exact f_670
  have f_697 : h_694 a3 = some (.inl (1, 10, .inl (fun _ => 0))) := by rw [eh_694, ac_up_n _ _ (Ne.symm t_13)]; exact f_671
  have f_698 : h_694 a4 = some (.inl (1, 10, .inl (fun _ => 0))) := by rw [eh_694, ac_up_n _ _ (Ne.symm t_16)]; exact f_672
  have f_699 : h_694 a5 = some (.inl (1, 10, .inl (fun _ => 0))) := by rw [eh_694, ac_up_n _ _ (Ne.symm t_19)]; exact f_673
  have f_700 : h_694 a6 = some (.inl (1, 10, .inl (fun _ => 0))) := by rw [eh_694, ac_up_n _ _ (Ne.symm t_22)]; exact f_674
  have f_701 : h_694 a7 = some (.inl (1, 10, .inl (fun _ => 0))) := by rw [eh_694, ac_up_n _ _ (Ne.symm t_25)]; exact f_675
  have f_702 : h_694 r = some (.inr (3, [.ref u, .int (nI 0), .int (nI 0), .ref dr, v4])) := by rw [eh_694, ac_up_n _ _ (Ne.symm t_57)]; exact f_676
  have f_703 : h_694 u = some (.inl (0, 300, .inl (fun _ => 0))) := by rw [eh_694, ac_up_n _ _ (Ne.symm t_84)]; exact f_677
  have f_704 : h_694 dr = some (.inl (3, 300, .inl (fun _ => 0))) := by rw [eh_694, ac_up_n _ _ (Ne.symm t_94)]; exact f_678
  have f_705 : h_694 kk = some (.inr (4, [.ref p, .ref sk, .int (nI 0), .int 0, .int 0])) := by rw [eh_694, ac_up_n _ _ (Ne.symm t_121)]; exact f_679
  have f_706 : h_694 sk = some (.inl (2, 32, .inr (.inl (fun _ => 0)))) := by rw [eh_694, ac_up_n _ _ (Ne.symm t_157)]; exact f_680
  have f_707 : h_694 ww = some (.inr (7, [.ref wu, .int (nI 0), .int (nI 0), .ref p, .int (pb_b (false = true))])) := by rw [eh_694, ac_up_n _ _ (Ne.symm t_189)]; exact f_681
  have f_708 : h_694 rp = some (.inr (5, [.null, .int 0, .ref b1, .ref b2, .ref b3, .int 0, .ref b4])) := by rw [eh_694, ac_up_n _ _ (Ne.symm t_251)]; exact f_682
  have f_709 : h_694 b1 = some (.inl (1, 12, .inl (fun _ => 0))) := by rw [eh_694, ac_up_n _ _ (Ne.symm t_296)]; exact f_683
  have f_710 : h_694 b2 = some (.inl (1, 12, .inl (fun _ => 0))) := by rw [eh_694, ac_up_n _ _ (Ne.symm t_312)]; exact f_684
  have f_711 : h_694 b3 = some (.inl (1, 12, .inl (fun _ => 0))) := by rw [eh_694, ac_up_n _ _ (Ne.symm t_328)]; exact f_685
  have f_712 : h_694 b4 = some (.inl (1, 12, .inl (fun _ => 0))) := by rw [eh_694, ac_up_n _ _ (Ne.symm t_344)]; exact f_686
  have f_713 : h_694 rz = some (.inr (2, [.ref p, .ref kk, .ref ga, .ref ra, .int (-1), .ref pa])) := by rw [eh_694, ac_up_n _ _ (Ne.symm t_391)]; exact f_687
  have f_714 : h_694 ga = some (.inl (1, 1024, .inl (fun _ => 0))) := by rw [eh_694, ac_up_n _ _ (Ne.symm t_451)]; exact f_688
  have f_715 : h_694 pa = some (.inl (1, 10, .inl (fun _ => 0))) := by rw [eh_694, ac_up_n _ _ (Ne.symm t_472)]; exact f_689
  have f_716 : h_694 ee = some (.inl (4, 4, .inr (.inr (.inr (.inr (fun _ => none)))))) := by rw [eh_694, ac_up_n _ _ (Ne.symm t_546)]; exact f_690
  have f_717 : h_694 dd = some (.inl (2, 4, .inr (.inl (fun _ => 0)))) := by rw [eh_694, ac_up_n _ _ (Ne.symm t_620)]; exact f_691
  have f_718 : h_694 x = some (.inr (8, [.ref p, .ref r, .ref kk, .ref ww, .ref rp, .ref rz, .null, .ref ee, .ref dd, .int 0, .null, .null])) := by rw [eh_694]; exact ac_up_s _ _ _
  have kp_719 : kp h h_694 [x] := by rw [eh_694]; exact kp_up kp_693 _ _ (by simp)
  refine aw_aload_n C dX8_init_111 rfl rfl (q := 112) rfl ?_
  refine aw_bipush (v := 11) C dX8_init_112 (by decide) (q := 114) rfl ?_
  refine ay_newL (N := 11) C dX8_init_114 (by decide) (rfl) (by decide) (Nat.le_trans (by omega) B.2.2.1) (Nat.le_trans (by omega) B.2.2.2) (q := 116) rfl (fun td hn_720 _ => ?_)
  show aw G 1 M 116 [.ref x] [.ref td, .ref x] (ac_up h_694 td (.inl (2, 11, .inr (.inl (fun _ => 0))))) (((((((((((((((0 + 1) + 6) + 1) + 8) + 1) + 1) + 1) + 1) + 1) + 4) + 1) + 8) + 1) + 1) + 1) (((((((((((((((0 + 11) + 60) + 5) + 632) + 5) + 32) + 5) + 0) + 7) + 48) + 6) + 1066) + 4) + 4) + 11)
  obtain ⟨h_721, eh_721⟩ : ∃ z9, z9 = ac_up h_694 td (.inl (2, 11, .inr (.inl (fun _ => 0)))) := ⟨_, rfl⟩
  rw [← eh_721]
  have n_722 : h td = none := kp_none kp_719 hn_720 (ni1 (Ne.symm (nw_ne f_718 hn_720)) ni0)
  have t_723 : x ≠ td := nw_ne f_718 hn_720
  have f_724 : h_721 x = some (.inr (8, [.ref p, .ref r, .ref kk, .ref ww, .ref rp, .ref rz, .null, .ref ee, .ref dd, .int 0, .null, .null])) := by rw [eh_721, ac_up_n _ _ t_723]; exact f_718
  have t_725 : p ≠ td := nw_ne f_695 hn_720
  have f_726 : h_721 p = some (.inr (1, [.int 0, .int 0, .int 0, .int 0, .int 0, .ref a2, .ref a3, .ref a4, .ref a5, .ref a6, .ref a7])) := by rw [eh_721, ac_up_n _ _ t_725]; exact f_695
  have t_727 : a2 ≠ td := nw_ne f_696 hn_720
  have f_728 : h_721 a2 = some (.inl (1, 10, .inl (fun _ => 0))) := by rw [eh_721, ac_up_n _ _ t_727]; exact f_696
  have t_729 : a3 ≠ td := nw_ne f_697 hn_720
  have f_730 : h_721 a3 = some (.inl (1, 10, .inl (fun _ => 0))) := by rw [eh_721, ac_up_n _ _ t_729]; exact f_697
  have t_731 : a4 ≠ td := nw_ne f_698 hn_720
  have f_732 : h_721 a4 = some (.inl (1, 10, .inl (fun _ => 0))) := by rw [eh_721, ac_up_n _ _ t_731]; exact f_698
  have t_733 : a5 ≠ td := nw_ne f_699 hn_720
  have f_734 : h_721 a5 = some (.inl (1, 10, .inl (fun _ => 0))) := by rw [eh_721, ac_up_n _ _ t_733]; exact f_699
  have t_735 : a6 ≠ td := nw_ne f_700 hn_720
  have f_736 : h_721 a6 = some (.inl (1, 10, .inl (fun _ => 0))) := by rw [eh_721, ac_up_n _ _ t_735]; exact f_700
  have t_737 : a7 ≠ td := nw_ne f_701 hn_720
  have f_738 : h_721 a7 = some (.inl (1, 10, .inl (fun _ => 0))) := by rw [eh_721, ac_up_n _ _ t_737]; exact f_701
  have t_739 : r ≠ td := nw_ne f_702 hn_720
  have f_740 : h_721 r = some (.inr (3, [.ref u, .int (nI 0), .int (nI 0), .ref dr, v4])) := by rw [eh_721, ac_up_n _ _ t_739]; exact f_702
  have t_741 : u ≠ td := nw_ne f_703 hn_720
  have f_742 : h_721 u = some (.inl (0, 300, .inl (fun _ => 0))) := by rw [eh_721, ac_up_n _ _ t_741]; exact f_703
  have t_743 : dr ≠ td := nw_ne f_704 hn_720
  have f_744 : h_721 dr = some (.inl (3, 300, .inl (fun _ => 0))) := by rw [eh_721, ac_up_n _ _ t_743]; exact f_704
  have t_745 : kk ≠ td := nw_ne f_705 hn_720
  have f_746 : h_721 kk = some (.inr (4, [.ref p, .ref sk, .int (nI 0), .int 0, .int 0])) := by rw [eh_721, ac_up_n _ _ t_745]; exact f_705
  have t_747 : sk ≠ td := nw_ne f_706 hn_720
  have f_748 : h_721 sk = some (.inl (2, 32, .inr (.inl (fun _ => 0)))) := by rw [eh_721, ac_up_n _ _ t_747]; exact f_706
  have t_749 : ww ≠ td := nw_ne f_707 hn_720
  have f_750 : h_721 ww = some (.inr (7, [.ref wu, .int (nI 0), .int (nI 0), .ref p, .int (pb_b (false = true))])) := by rw [eh_721, ac_up_n _ _ t_749]; exact f_707
  have t_751 : rp ≠ td := nw_ne f_708 hn_720
  have f_752 : h_721 rp = some (.inr (5, [.null, .int 0, .ref b1, .ref b2, .ref b3, .int 0, .ref b4])) := by rw [eh_721, ac_up_n _ _ t_751]; exact f_708
  have t_753 : b1 ≠ td := nw_ne f_709 hn_720
  have f_754 : h_721 b1 = some (.inl (1, 12, .inl (fun _ => 0))) := by rw [eh_721, ac_up_n _ _ t_753]; exact f_709
  have t_755 : b2 ≠ td := nw_ne f_710 hn_720
  have f_756 : h_721 b2 = some (.inl (1, 12, .inl (fun _ => 0))) := by rw [eh_721, ac_up_n _ _ t_755]; exact f_710
  have t_757 : b3 ≠ td := nw_ne f_711 hn_720
  have f_758 : h_721 b3 = some (.inl (1, 12, .inl (fun _ => 0))) := by rw [eh_721, ac_up_n _ _ t_757]; exact f_711
  have t_759 : b4 ≠ td := nw_ne f_712 hn_720
  have f_760 : h_721 b4 = some (.inl (1, 12, .inl (fun _ => 0))) := by rw [eh_721, ac_up_n _ _ t_759]; exact f_712
  have t_761 : rz ≠ td := nw_ne f_713 hn_720
  have f_762 : h_721 rz = some (.inr (2, [.ref p, .ref kk, .ref ga, .ref ra, .int (-1), .ref pa])) := by rw [eh_721, ac_up_n _ _ t_761]; exact f_713
  have t_763 : ga ≠ td := nw_ne f_714 hn_720
  have f_764 : h_721 ga = some (.inl (1, 1024, .inl (fun _ => 0))) := by rw [eh_721, ac_up_n _ _ t_763]; exact f_714
  have t_765 : pa ≠ td := nw_ne f_715 hn_720
  have f_766 : h_721 pa = some (.inl (1, 10, .inl (fun _ => 0))) := by rw [eh_721, ac_up_n _ _ t_765]; exact f_715
  have t_767 : ee ≠ td := nw_ne f_716 hn_720
  have f_768 : h_721 ee = some (.inl (4, 4, .inr (.inr (.inr (.inr (fun _ => none)))))) := by rw [eh_721, ac_up_n _ _ t_767]; exact f_716
  have t_769 : dd ≠ td := nw_ne f_717 hn_720
  have f_770 : h_721 dd = some (.inl (2, 4, .inr (.inl (fun _ => 0)))) := by rw [eh_721, ac_up_n _ _ t_769]; exact f_717
  have f_771 : h_721 td = some (.inl (2, 11, .inr (.inl (fun _ => 0)))) := by rw [eh_721]; exact ac_up_s _ _ _
  have kp_772 : kp h h_721 [x] := by rw [eh_721]; exact kp_new n_722 kp_719
  refine pfX8_73_8 C hnm dX8_init_116 f_724 rfl rfl (Nat.le_of_ble_eq_true rfl) (q := 119) rfl ?_
  show aw G 1 M 119 [.ref x] [] (ac_up h_721 x (.inr (8, [.ref p, .ref r, .ref kk, .ref ww, .ref rp, .ref rz, .null, .ref ee, .ref dd, .int 0, .ref td, .null]))) (((((((((((((((0 + 1) + 6) + 1) + 8) + 1) + 1) + 1) + 1) + 1) + 4) + 1) + 8) + 1) + 1) + 1) (((((((((((((((0 + 11) + 60) + 5) + 632) + 5) + 32) + 5) + 0) + 7) + 48) + 6) + 1066) + 4) + 4) + 11)
  obtain ⟨h_773, eh_773⟩ : ∃ z9, z9 = ac_up h_721 x (.inr (8, [.ref p, .ref r, .ref kk, .ref ww, .ref rp, .ref rz, .null, .ref ee, .ref dd, .int 0, .ref td, .null])) := ⟨_, rfl⟩
  rw [← eh_773]
  have f_774 : h_773 p = some (.inr (1, [.int 0, .int 0, .int 0, .int 0, .int 0, .ref a2, .ref a3, .ref a4, .ref a5, .ref a6, .ref a7])) := by rw [eh_773, ac_up_n _ _ (Ne.symm t_4)]; exact f_726
  have f_775 : h_773 a2 = some (.inl (1, 10, .inl (fun _ => 0))) := by rw [eh_773, ac_up_n _ _ (Ne.symm t_10)]; exact f_728
  have f_776 : h_773 a3 = some (.inl (1, 10, .inl (fun _ => 0))) := by rw [eh_773, ac_up_n _ _ (Ne.symm t_13)]; exact f_730
  have f_777 : h_773 a4 = some (.inl (1, 10, .inl (fun _ => 0))) := by rw [eh_773, ac_up_n _ _ (Ne.symm t_16)]; exact f_732
  have f_778 : h_773 a5 = some (.inl (1, 10, .inl (fun _ => 0))) := by rw [eh_773, ac_up_n _ _ (Ne.symm t_19)]; exact f_734
  have f_779 : h_773 a6 = some (.inl (1, 10, .inl (fun _ => 0))) := by rw [eh_773, ac_up_n _ _ (Ne.symm t_22)]; exact f_736
  have f_780 : h_773 a7 = some (.inl (1, 10, .inl (fun _ => 0))) := by rw [eh_773, ac_up_n _ _ (Ne.symm t_25)]; exact f_738
  have f_781 : h_773 r = some (.inr (3, [.ref u, .int (nI 0), .int (nI 0), .ref dr, v4])) := by rw [eh_773, ac_up_n _ _ (Ne.symm t_57)]; exact f_740
  have f_782 : h_773 u = some (.inl (0, 300, .inl (fun _ => 0))) := by rw [eh_773, ac_up_n _ _ (Ne.symm t_84)]; exact f_742
  have f_783 : h_773 dr = some (.inl (3, 300, .inl (fun _ => 0))) := by rw [eh_773, ac_up_n _ _ (Ne.symm t_94)]; exact f_744
  have f_784 : h_773 kk = some (.inr (4, [.ref p, .ref sk, .int (nI 0), .int 0, .int 0])) := by rw [eh_773, ac_up_n _ _ (Ne.symm t_121)]; exact f_746
  have f_785 : h_773 sk = some (.inl (2, 32, .inr (.inl (fun _ => 0)))) := by rw [eh_773, ac_up_n _ _ (Ne.symm t_157)]; exact f_748
  have f_786 : h_773 ww = some (.inr (7, [.ref wu, .int (nI 0), .int (nI 0), .ref p, .int (pb_b (false = true))])) := by rw [eh_773, ac_up_n _ _ (Ne.symm t_189)]; exact f_750
  have f_787 : h_773 rp = some (.inr (5, [.null, .int 0, .ref b1, .ref b2, .ref b3, .int 0, .ref b4])) := by rw [eh_773, ac_up_n _ _ (Ne.symm t_251)]; exact f_752
  have f_788 : h_773 b1 = some (.inl (1, 12, .inl (fun _ => 0))) := by rw [eh_773, ac_up_n _ _ (Ne.symm t_296)]; exact f_754
  have f_789 : h_773 b2 = some (.inl (1, 12, .inl (fun _ => 0))) := by rw [eh_773, ac_up_n _ _ (Ne.symm t_312)]; exact f_756
  have f_790 : h_773 b3 = some (.inl (1, 12, .inl (fun _ => 0))) := by rw [eh_773, ac_up_n _ _ (Ne.symm t_328)]; exact f_758
  have f_791 : h_773 b4 = some (.inl (1, 12, .inl (fun _ => 0))) := by rw [eh_773, ac_up_n _ _ (Ne.symm t_344)]; exact f_760
  have f_792 : h_773 rz = some (.inr (2, [.ref p, .ref kk, .ref ga, .ref ra, .int (-1), .ref pa])) := by rw [eh_773, ac_up_n _ _ (Ne.symm t_391)]; exact f_762
  have f_793 : h_773 ga = some (.inl (1, 1024, .inl (fun _ => 0))) := by rw [eh_773, ac_up_n _ _ (Ne.symm t_451)]; exact f_764
  have f_794 : h_773 pa = some (.inl (1, 10, .inl (fun _ => 0))) := by rw [eh_773, ac_up_n _ _ (Ne.symm t_472)]; exact f_766
  have f_795 : h_773 ee = some (.inl (4, 4, .inr (.inr (.inr (.inr (fun _ => none)))))) := by rw [eh_773, ac_up_n _ _ (Ne.symm t_546)]; exact f_768
  have f_796 : h_773 dd = some (.inl (2, 4, .inr (.inl (fun _ => 0)))) := by rw [eh_773, ac_up_n _ _ (Ne.symm t_620)]; exact f_770
  have f_797 : h_773 td = some (.inl (2, 11, .inr (.inl (fun _ => 0)))) := by rw [eh_773, ac_up_n _ _ (Ne.symm t_723)]; exact f_771
  have f_798 : h_773 x = some (.inr (8, [.ref p, .ref r, .ref kk, .ref ww, .ref rp, .ref rz, .null, .ref ee, .ref dd, .int 0, .ref td, .null])) := by rw [eh_773]; exact ac_up_s _ _ _
  have kp_799 : kp h h_773 [x] := by rw [eh_773]; exact kp_up kp_772 _ _ (by simp)
  refine aw_aload_n C dX8_init_119 rfl rfl (q := 120) rfl ?_
  refine aw_bipush (v := 100) C dX8_init_120 (by decide) (q := 122) rfl ?_
  refine ay_newI (N := 100) C dX8_init_122 (by decide) (rfl) (by decide) (Nat.le_trans (by omega) B.2.2.1) (Nat.le_trans (by omega) B.2.2.2) (q := 124) rfl (fun be hn_800 _ => ?_)
  show aw G 1 M 124 [.ref x] [.ref be, .ref x] (ac_up h_773 be (.inl (1, 100, .inl (fun _ => 0)))) ((((((((((((((((0 + 1) + 6) + 1) + 8) + 1) + 1) + 1) + 1) + 1) + 4) + 1) + 8) + 1) + 1) + 1) + 1) ((((((((((((((((0 + 11) + 60) + 5) + 632) + 5) + 32) + 5) + 0) + 7) + 48) + 6) + 1066) + 4) + 4) + 11) + 100)
  obtain ⟨h_801, eh_801⟩ : ∃ z9, z9 = ac_up h_773 be (.inl (1, 100, .inl (fun _ => 0))) := ⟨_, rfl⟩
  rw [← eh_801]
  have n_802 : h be = none := kp_none kp_799 hn_800 (ni1 (Ne.symm (nw_ne f_798 hn_800)) ni0)
  have t_803 : x ≠ be := nw_ne f_798 hn_800
  have f_804 : h_801 x = some (.inr (8, [.ref p, .ref r, .ref kk, .ref ww, .ref rp, .ref rz, .null, .ref ee, .ref dd, .int 0, .ref td, .null])) := by rw [eh_801, ac_up_n _ _ t_803]; exact f_798
  have t_805 : p ≠ be := nw_ne f_774 hn_800
  have f_806 : h_801 p = some (.inr (1, [.int 0, .int 0, .int 0, .int 0, .int 0, .ref a2, .ref a3, .ref a4, .ref a5, .ref a6, .ref a7])) := by rw [eh_801, ac_up_n _ _ t_805]; exact f_774
  have t_807 : a2 ≠ be := nw_ne f_775 hn_800
  have f_808 : h_801 a2 = some (.inl (1, 10, .inl (fun _ => 0))) := by rw [eh_801, ac_up_n _ _ t_807]; exact f_775
  have t_809 : a3 ≠ be := nw_ne f_776 hn_800
  have f_810 : h_801 a3 = some (.inl (1, 10, .inl (fun _ => 0))) := by rw [eh_801, ac_up_n _ _ t_809]; exact f_776
  have t_811 : a4 ≠ be := nw_ne f_777 hn_800
  have f_812 : h_801 a4 = some (.inl (1, 10, .inl (fun _ => 0))) := by rw [eh_801, ac_up_n _ _ t_811]; exact f_777
  have t_813 : a5 ≠ be := nw_ne f_778 hn_800
  have f_814 : h_801 a5 = some (.inl (1, 10, .inl (fun _ => 0))) := by rw [eh_801, ac_up_n _ _ t_813]; exact f_778
  have t_815 : a6 ≠ be := nw_ne f_779 hn_800
  have f_816 : h_801 a6 = some (.inl (1, 10, .inl (fun _ => 0))) := by rw [eh_801, ac_up_n _ _ t_815]; exact f_779
  have t_817 : a7 ≠ be := nw_ne f_780 hn_800
  have f_818 : h_801 a7 = some (.inl (1, 10, .inl (fun _ => 0))) := by rw [eh_801, ac_up_n _ _ t_817]; exact f_780
  have t_819 : r ≠ be := nw_ne f_781 hn_800
  have f_820 : h_801 r = some (.inr (3, [.ref u, .int (nI 0), .int (nI 0), .ref dr, v4])) := by rw [eh_801, ac_up_n _ _ t_819]; exact f_781
  have t_821 : u ≠ be := nw_ne f_782 hn_800
  have f_822 : h_801 u = some (.inl (0, 300, .inl (fun _ => 0))) := by rw [eh_801, ac_up_n _ _ t_821]; exact f_782
  have t_823 : dr ≠ be := nw_ne f_783 hn_800
  have f_824 : h_801 dr = some (.inl (3, 300, .inl (fun _ => 0))) := by rw [eh_801, ac_up_n _ _ t_823]; exact f_783
  have t_825 : kk ≠ be := nw_ne f_784 hn_800
  have f_826 : h_801 kk = some (.inr (4, [.ref p, .ref sk, .int (nI 0), .int 0, .int 0])) := by rw [eh_801, ac_up_n _ _ t_825]; exact f_784
  have t_827 : sk ≠ be := nw_ne f_785 hn_800
  have f_828 : h_801 sk = some (.inl (2, 32, .inr (.inl (fun _ => 0)))) := by rw [eh_801, ac_up_n _ _ t_827]; exact f_785
  have t_829 : ww ≠ be := nw_ne f_786 hn_800
  have f_830 : h_801 ww = some (.inr (7, [.ref wu, .int (nI 0), .int (nI 0), .ref p, .int (pb_b (false = true))])) := by rw [eh_801, ac_up_n _ _ t_829]; exact f_786
  have t_831 : rp ≠ be := nw_ne f_787 hn_800
  have f_832 : h_801 rp = some (.inr (5, [.null, .int 0, .ref b1, .ref b2, .ref b3, .int 0, .ref b4])) := by rw [eh_801, ac_up_n _ _ t_831]; exact f_787
  have t_833 : b1 ≠ be := nw_ne f_788 hn_800
  have f_834 : h_801 b1 = some (.inl (1, 12, .inl (fun _ => 0))) := by rw [eh_801, ac_up_n _ _ t_833]; exact f_788
  have t_835 : b2 ≠ be := nw_ne f_789 hn_800
  have f_836 : h_801 b2 = some (.inl (1, 12, .inl (fun _ => 0))) := by rw [eh_801, ac_up_n _ _ t_835]; exact f_789
  have t_837 : b3 ≠ be := nw_ne f_790 hn_800
  have f_838 : h_801 b3 = some (.inl (1, 12, .inl (fun _ => 0))) := by rw [eh_801, ac_up_n _ _ t_837]; exact f_790
  have t_839 : b4 ≠ be := nw_ne f_791 hn_800
  have f_840 : h_801 b4 = some (.inl (1, 12, .inl (fun _ => 0))) := by rw [eh_801, ac_up_n _ _ t_839]; exact f_791
  have t_841 : rz ≠ be := nw_ne f_792 hn_800
  have f_842 : h_801 rz = some (.inr (2, [.ref p, .ref kk, .ref ga, .ref ra, .int (-1), .ref pa])) := by rw [eh_801, ac_up_n _ _ t_841]; exact f_792
  have t_843 : ga ≠ be := nw_ne f_793 hn_800
  have f_844 : h_801 ga = some (.inl (1, 1024, .inl (fun _ => 0))) := by rw [eh_801, ac_up_n _ _ t_843]; exact f_793
  have t_845 : pa ≠ be := nw_ne f_794 hn_800
  have f_846 : h_801 pa = some (.inl (1, 10, .inl (fun _ => 0))) := by rw [eh_801, ac_up_n _ _ t_845]; exact f_794
  have t_847 : ee ≠ be := nw_ne f_795 hn_800
  have f_848 : h_801 ee = some (.inl (4, 4, .inr (.inr (.inr (.inr (fun _ => none)))))) := by rw [eh_801, ac_up_n _ _ t_847]; exact f_795
  have t_849 : dd ≠ be := nw_ne f_796 hn_800
  have f_850 : h_801 dd = some (.inl (2, 4, .inr (.inl (fun _ => 0)))) := by rw [eh_801, ac_up_n _ _ t_849]; exact f_796
  have t_851 : td ≠ be := nw_ne f_797 hn_800
  have f_852 : h_801 td = some (.inl (2, 11, .inr (.inl (fun _ => 0)))) := by rw [eh_801, ac_up_n _ _ t_851]; exact f_797
  have f_853 : h_801 be = some (.inl (1, 100, .inl (fun _ => 0))) := by rw [eh_801]; exact ac_up_s _ _ _
  have kp_854 : kp h h_801 [x] := by rw [eh_801]; exact kp_new n_802 kp_799
  refine pfX8_76_8 C hnm dX8_init_124 f_804 rfl rfl (Nat.le_of_ble_eq_true rfl) (q := 127) rfl ?_
  show aw G 1 M 127 [.ref x] [] (ac_up h_801 x (.inr (8, [.ref p, .ref r, .ref kk, .ref ww, .ref rp, .ref rz, .null, .ref ee, .ref dd, .int 0, .ref td, .ref be]))) ((((((((((((((((0 + 1) + 6) + 1) + 8) + 1) + 1) + 1) + 1) + 1) + 4) + 1) + 8) + 1) + 1) + 1) + 1) ((((((((((((((((0 + 11) + 60) + 5) + 632) + 5) + 32) + 5) + 0) + 7) + 48) + 6) + 1066) + 4) + 4) + 11) + 100)
  obtain ⟨h_855, eh_855⟩ : ∃ z9, z9 = ac_up h_801 x (.inr (8, [.ref p, .ref r, .ref kk, .ref ww, .ref rp, .ref rz, .null, .ref ee, .ref dd, .int 0, .ref td, .ref be])) := ⟨_, rfl⟩
  rw [← eh_855]
  have f_856 : h_855 p = some (.inr (1, [.int 0, .int 0, .int 0, .int 0, .int 0, .ref a2, .ref a3, .ref a4, .ref a5, .ref a6, .ref a7])) := by rw [eh_855, ac_up_n _ _ (Ne.symm t_4)]; exact f_806
  have f_857 : h_855 a2 = some (.inl (1, 10, .inl (fun _ => 0))) := by rw [eh_855, ac_up_n _ _ (Ne.symm t_10)]; exact f_808
  have f_858 : h_855 a3 = some (.inl (1, 10, .inl (fun _ => 0))) := by rw [eh_855, ac_up_n _ _ (Ne.symm t_13)]; exact f_810
  have f_859 : h_855 a4 = some (.inl (1, 10, .inl (fun _ => 0))) := by rw [eh_855, ac_up_n _ _ (Ne.symm t_16)]; exact f_812
  have f_860 : h_855 a5 = some (.inl (1, 10, .inl (fun _ => 0))) := by rw [eh_855, ac_up_n _ _ (Ne.symm t_19)]; exact f_814
  have f_861 : h_855 a6 = some (.inl (1, 10, .inl (fun _ => 0))) := by rw [eh_855, ac_up_n _ _ (Ne.symm t_22)]; exact f_816
  have f_862 : h_855 a7 = some (.inl (1, 10, .inl (fun _ => 0))) := by rw [eh_855, ac_up_n _ _ (Ne.symm t_25)]; exact f_818
  have f_863 : h_855 r = some (.inr (3, [.ref u, .int (nI 0), .int (nI 0), .ref dr, v4])) := by rw [eh_855, ac_up_n _ _ (Ne.symm t_57)]; exact f_820
  have f_864 : h_855 u = some (.inl (0, 300, .inl (fun _ => 0))) := by rw [eh_855, ac_up_n _ _ (Ne.symm t_84)]; exact f_822
  have f_865 : h_855 dr = some (.inl (3, 300, .inl (fun _ => 0))) := by rw [eh_855, ac_up_n _ _ (Ne.symm t_94)]; exact f_824
  have f_866 : h_855 kk = some (.inr (4, [.ref p, .ref sk, .int (nI 0), .int 0, .int 0])) := by rw [eh_855, ac_up_n _ _ (Ne.symm t_121)]; exact f_826
  have f_867 : h_855 sk = some (.inl (2, 32, .inr (.inl (fun _ => 0)))) := by rw [eh_855, ac_up_n _ _ (Ne.symm t_157)]; exact f_828
  have f_868 : h_855 ww = some (.inr (7, [.ref wu, .int (nI 0), .int (nI 0), .ref p, .int (pb_b (false = true))])) := by rw [eh_855, ac_up_n _ _ (Ne.symm t_189)]; exact f_830
  have f_869 : h_855 rp = some (.inr (5, [.null, .int 0, .ref b1, .ref b2, .ref b3, .int 0, .ref b4])) := by rw [eh_855, ac_up_n _ _ (Ne.symm t_251)]; exact f_832
  have f_870 : h_855 b1 = some (.inl (1, 12, .inl (fun _ => 0))) := by rw [eh_855, ac_up_n _ _ (Ne.symm t_296)]; exact f_834
  have f_871 : h_855 b2 = some (.inl (1, 12, .inl (fun _ => 0))) := by rw [eh_855, ac_up_n _ _ (Ne.symm t_312)]; exact f_836
  have f_872 : h_855 b3 = some (.inl (1, 12, .inl (fun _ => 0))) := by rw [eh_855, ac_up_n _ _ (Ne.symm t_328)]; exact f_838
  have f_873 : h_855 b4 = some (.inl (1, 12, .inl (fun _ => 0))) := by rw [eh_855, ac_up_n _ _ (Ne.symm t_344)]; exact f_840
  have f_874 : h_855 rz = some (.inr (2, [.ref p, .ref kk, .ref ga, .ref ra, .int (-1), .ref pa])) := by rw [eh_855, ac_up_n _ _ (Ne.symm t_391)]; exact f_842
  have f_875 : h_855 ga = some (.inl (1, 1024, .inl (fun _ => 0))) := by rw [eh_855, ac_up_n _ _ (Ne.symm t_451)]; exact f_844
  have f_876 : h_855 pa = some (.inl (1, 10, .inl (fun _ => 0))) := by rw [eh_855, ac_up_n _ _ (Ne.symm t_472)]; exact f_846
  have f_877 : h_855 ee = some (.inl (4, 4, .inr (.inr (.inr (.inr (fun _ => none)))))) := by rw [eh_855, ac_up_n _ _ (Ne.symm t_546)]; exact f_848
  have f_878 : h_855 dd = some (.inl (2, 4, .inr (.inl (fun _ => 0)))) := by rw [eh_855, ac_up_n _ _ (Ne.symm t_620)]; exact f_850
  have f_879 : h_855 td = some (.inl (2, 11, .inr (.inl (fun _ => 0)))) := by rw [eh_855, ac_up_n _ _ (Ne.symm t_723)]; exact f_852
  have f_880 : h_855 be = some (.inl (1, 100, .inl (fun _ => 0))) := by rw [eh_855, ac_up_n _ _ (Ne.symm t_803)]; exact f_853
  have f_881 : h_855 x = some (.inr (8, [.ref p, .ref r, .ref kk, .ref ww, .ref rp, .ref rz, .null, .ref ee, .ref dd, .int 0, .ref td, .ref be])) := by rw [eh_855]; exact ac_up_s _ _ _
  have kp_882 : kp h h_855 [x] := by rw [eh_855]; exact kp_up kp_854 _ _ (by simp)
  refine aw_vret C E dX8_init_127 (by omega) (by omega) ?_
  refine ⟨rfl, ?_⟩
  refine ⟨fun j => [x, p, a2, a3, a4, a5, a6, a7, r, u, dr, kk, sk, ww, rp, b1, b2, b3, b4, rz, ga, pa, ee, dd, td, be].getD j 0, rfl, inj_nd (L := [x, p, a2, a3, a4, a5, a6, a7, r, u, dr, kk, sk, ww, rp, b1, b2, b3, b4, rz, ga, pa, ee, dd, td, be]) (List.nodup_cons.mpr ⟨(ni1 t_4 (ni1 t_10 (ni1 t_13 (ni1 t_16 (ni1 t_19 (ni1 t_22 (ni1 t_25 (ni1 t_57 (ni1 t_84 (ni1 t_94 (ni1 t_121 (ni1 t_157 (ni1 t_189 (ni1 t_251 (ni1 t_296 (ni1 t_312 (ni1 t_328 (ni1 t_344 (ni1 t_391 (ni1 t_451 (ni1 t_472 (ni1 t_546 (ni1 t_620 (ni1 t_723 (ni1 t_803 ni0))))))))))))))))))))))))), (List.nodup_cons.mpr ⟨(ni1 t_11 (ni1 t_14 (ni1 t_17 (ni1 t_20 (ni1 t_23 (ni1 t_26 (ni1 t_59 (ni1 t_85 (ni1 t_95 (ni1 t_123 (ni1 t_158 (ni1 t_191 (ni1 t_253 (ni1 t_297 (ni1 t_313 (ni1 t_329 (ni1 t_345 (ni1 t_393 (ni1 t_452 (ni1 t_473 (ni1 t_548 (ni1 t_622 (ni1 t_725 (ni1 t_805 ni0)))))))))))))))))))))))), (List.nodup_cons.mpr ⟨(ni1 t_29 (ni1 t_30 (ni1 t_31 (ni1 t_32 (ni1 t_33 (ni1 t_61 (ni1 t_86 (ni1 t_96 (ni1 t_125 (ni1 t_159 (ni1 t_193 (ni1 t_255 (ni1 t_298 (ni1 t_314 (ni1 t_330 (ni1 t_346 (ni1 t_395 (ni1 t_453 (ni1 t_474 (ni1 t_550 (ni1 t_624 (ni1 t_727 (ni1 t_807 ni0))))))))))))))))))))))), (List.nodup_cons.mpr ⟨(ni1 t_34 (ni1 t_35 (ni1 t_36 (ni1 t_37 (ni1 t_63 (ni1 t_87 (ni1 t_97 (ni1 t_127 (ni1 t_160 (ni1 t_195 (ni1 t_257 (ni1 t_299 (ni1 t_315 (ni1 t_331 (ni1 t_347 (ni1 t_397 (ni1 t_454 (ni1 t_475 (ni1 t_552 (ni1 t_626 (ni1 t_729 (ni1 t_809 ni0)))))))))))))))))))))), (List.nodup_cons.mpr ⟨(ni1 t_38 (ni1 t_39 (ni1 t_40 (ni1 t_65 (ni1 t_88 (ni1 t_98 (ni1 t_129 (ni1 t_161 (ni1 t_197 (ni1 t_259 (ni1 t_300 (ni1 t_316 (ni1 t_332 (ni1 t_348 (ni1 t_399 (ni1 t_455 (ni1 t_476 (ni1 t_554 (ni1 t_628 (ni1 t_731 (ni1 t_811 ni0))))))))))))))))))))), (List.nodup_cons.mpr ⟨(ni1 t_41 (ni1 t_42 (ni1 t_67 (ni1 t_89 (ni1 t_99 (ni1 t_131 (ni1 t_162 (ni1 t_199 (ni1 t_261 (ni1 t_301 (ni1 t_317 (ni1 t_333 (ni1 t_349 (ni1 t_401 (ni1 t_456 (ni1 t_477 (ni1 t_556 (ni1 t_630 (ni1 t_733 (ni1 t_813 ni0)))))))))))))))))))), (List.nodup_cons.mpr ⟨(ni1 t_43 (ni1 t_69 (ni1 t_90 (ni1 t_100 (ni1 t_133 (ni1 t_163 (ni1 t_201 (ni1 t_263 (ni1 t_302 (ni1 t_318 (ni1 t_334 (ni1 t_350 (ni1 t_403 (ni1 t_457 (ni1 t_478 (ni1 t_558 (ni1 t_632 (ni1 t_735 (ni1 t_815 ni0))))))))))))))))))), (List.nodup_cons.mpr ⟨(ni1 t_71 (ni1 t_91 (ni1 t_101 (ni1 t_135 (ni1 t_164 (ni1 t_203 (ni1 t_265 (ni1 t_303 (ni1 t_319 (ni1 t_335 (ni1 t_351 (ni1 t_405 (ni1 t_458 (ni1 t_479 (ni1 t_560 (ni1 t_634 (ni1 t_737 (ni1 t_817 ni0)))))))))))))))))), (List.nodup_cons.mpr ⟨(ni1 t_92 (ni1 t_102 (ni1 t_137 (ni1 t_165 (ni1 t_205 (ni1 t_267 (ni1 t_304 (ni1 t_320 (ni1 t_336 (ni1 t_352 (ni1 t_407 (ni1 t_459 (ni1 t_480 (ni1 t_562 (ni1 t_636 (ni1 t_739 (ni1 t_819 ni0))))))))))))))))), (List.nodup_cons.mpr ⟨(ni1 nud (ni1 t_139 (ni1 t_166 (ni1 t_207 (ni1 t_269 (ni1 t_305 (ni1 t_321 (ni1 t_337 (ni1 t_353 (ni1 t_409 (ni1 t_460 (ni1 t_481 (ni1 t_564 (ni1 t_638 (ni1 t_741 (ni1 t_821 ni0)))))))))))))))), (List.nodup_cons.mpr ⟨(ni1 t_141 (ni1 t_167 (ni1 t_209 (ni1 t_271 (ni1 t_306 (ni1 t_322 (ni1 t_338 (ni1 t_354 (ni1 t_411 (ni1 t_461 (ni1 t_482 (ni1 t_566 (ni1 t_640 (ni1 t_743 (ni1 t_823 ni0))))))))))))))), (List.nodup_cons.mpr ⟨(ni1 t_168 (ni1 t_211 (ni1 t_273 (ni1 t_307 (ni1 t_323 (ni1 t_339 (ni1 t_355 (ni1 t_413 (ni1 t_462 (ni1 t_483 (ni1 t_568 (ni1 t_642 (ni1 t_745 (ni1 t_825 ni0)))))))))))))), (List.nodup_cons.mpr ⟨(ni1 t_213 (ni1 t_275 (ni1 t_308 (ni1 t_324 (ni1 t_340 (ni1 t_356 (ni1 t_415 (ni1 t_463 (ni1 t_484 (ni1 t_570 (ni1 t_644 (ni1 t_747 (ni1 t_827 ni0))))))))))))), (List.nodup_cons.mpr ⟨(ni1 t_277 (ni1 t_309 (ni1 t_325 (ni1 t_341 (ni1 t_357 (ni1 t_417 (ni1 t_464 (ni1 t_485 (ni1 t_572 (ni1 t_646 (ni1 t_749 (ni1 t_829 ni0)))))))))))), (List.nodup_cons.mpr ⟨(ni1 t_310 (ni1 t_326 (ni1 t_342 (ni1 t_358 (ni1 t_419 (ni1 t_465 (ni1 t_486 (ni1 t_574 (ni1 t_648 (ni1 t_751 (ni1 t_831 ni0))))))))))), (List.nodup_cons.mpr ⟨(ni1 t_361 (ni1 t_362 (ni1 t_363 (ni1 t_421 (ni1 t_466 (ni1 t_487 (ni1 t_576 (ni1 t_650 (ni1 t_753 (ni1 t_833 ni0)))))))))), (List.nodup_cons.mpr ⟨(ni1 t_364 (ni1 t_365 (ni1 t_423 (ni1 t_467 (ni1 t_488 (ni1 t_578 (ni1 t_652 (ni1 t_755 (ni1 t_835 ni0))))))))), (List.nodup_cons.mpr ⟨(ni1 t_366 (ni1 t_425 (ni1 t_468 (ni1 t_489 (ni1 t_580 (ni1 t_654 (ni1 t_757 (ni1 t_837 ni0)))))))), (List.nodup_cons.mpr ⟨(ni1 t_427 (ni1 t_469 (ni1 t_490 (ni1 t_582 (ni1 t_656 (ni1 t_759 (ni1 t_839 ni0))))))), (List.nodup_cons.mpr ⟨(ni1 t_470 (ni1 t_491 (ni1 t_584 (ni1 t_658 (ni1 t_761 (ni1 t_841 ni0)))))), (List.nodup_cons.mpr ⟨(ni1 t_494 (ni1 t_586 (ni1 t_660 (ni1 t_763 (ni1 t_843 ni0))))), (List.nodup_cons.mpr ⟨(ni1 t_588 (ni1 t_662 (ni1 t_765 (ni1 t_845 ni0)))), (List.nodup_cons.mpr ⟨(ni1 t_664 (ni1 t_767 (ni1 t_847 ni0))), (List.nodup_cons.mpr ⟨(ni1 t_769 (ni1 t_849 ni0)), (List.nodup_cons.mpr ⟨(ni1 t_851 ni0), (List.nodup_cons.mpr ⟨ni0, List.nodup_nil⟩)⟩)⟩)⟩)⟩)⟩)⟩)⟩)⟩)⟩)⟩)⟩)⟩)⟩)⟩)⟩)⟩)⟩)⟩)⟩)⟩)⟩)⟩)⟩)⟩)⟩), ?_, f_881, ⟨f_856, pl_rows f_857 f_858 f_859 f_860 f_861 f_862, rfl, Nat.zero_le _⟩, ⟨_, f_863⟩, f_864, f_865, ⟨f_866, f_867, Nat.zero_le _⟩, ⟨_, f_868⟩, rp_mk f_869 f_870 f_871 f_872 f_873, ⟨ra, f_874, f_875, f_876⟩, f_877, f_878, f_879, f_880, kp_882⟩
  intro j h1 h2
  have hall : ∀ a ∈ [p, a2, a3, a4, a5, a6, a7, r, u, dr, kk, sk, ww, rp, b1, b2, b3, b4, rz, ga, pa, ee, dd, td, be], h a = none := (all1 n_3 (all1 n_12 (all1 n_15 (all1 n_18 (all1 n_21 (all1 n_24 (all1 n_27 (all1 n_56 (all1 n_93 (all1 n_103 (all1 n_120 (all1 n_169 (all1 n_188 (all1 n_250 (all1 n_311 (all1 n_327 (all1 n_343 (all1 n_359 (all1 n_390 (all1 n_471 (all1 n_492 (all1 n_545 (all1 n_619 (all1 n_722 (all1 n_802 all0)))))))))))))))))))))))))
  obtain ⟨i, rfl⟩ : ∃ i, j = i + 1 := ⟨j - 1, by omega⟩
  show h ([p, a2, a3, a4, a5, a6, a7, r, u, dr, kk, sk, ww, rp, b1, b2, b3, b4, rz, ga, pa, ee, dd, td, be].getD i 0) = none
  rw [List.getD_eq_getElem?_getD, List.getElem?_eq_getElem (show i < [p, a2, a3, a4, a5, a6, a7, r, u, dr, kk, sk, ww, rp, b1, b2, b3, b4, rz, ga, pa, ee, dd, td, be].length from by show i < 25; omega)]
  exact hall _ (List.getElem_mem _)
