/-! The reference: its constructor -/
theorem nd_inj {f : Nat → Nat} : ∀ l : List Nat, (l.map f).Nodup → ∀ i j, i ∈ l → j ∈ l → i ≠ j → f i ≠ f j := by
  intro l
  induction l with
  | nil => intro _ i j hi; cases hi
  | cons x l ih =>
    intro h i j hi hj hne e
    rw [List.map_cons, List.nodup_cons] at h
    rcases List.mem_cons.mp hi with e1 | hi2
    · rcases List.mem_cons.mp hj with e2 | hj2
      · exact hne (e1.trans e2.symm)
      · exact h.1 (by rw [← e1, e]; exact List.mem_map_of_mem hj2)
    · rcases List.mem_cons.mp hj with e2 | hj2
      · exact h.1 (by rw [← e2, ← e]; exact List.mem_map_of_mem hi2)
      · exact ih h.2 i j hi2 hj2 hne e
section
variable {G : ac_G} {own : String} {cc : ByteArray} {nL : Nat} {ret : Option FieldType} {M : ac_M} {pc q : Nat} {ls st : List Value} {h : ac_H} {k n : Nat}
theorem ay_newI3 {N : Nat} {x : Int32} (C : ac_MC G own cc nL ret M) (d : decode cc pc = .ok (.newarray .int, 2)) (hx : ¬ x < 0) (hN : x.toNatClampNeg = N) (hb : N ≤ 3000) (hk : k + 1 ≤ (ac_Rm M).cells) (hn : n + N ≤ (ac_Rm M).slots) (hq : pc + 2 = q) (kk : ∀ a, h a = none → G.2.2.1 ≤ a → aw G nL M q ls (.ref a :: st) (ac_up h a (.inl (1, N, .inl (fun _ => 0)))) (k + 1) (n + N)) : aw G nL M pc ls (.int x :: st) h k n :=
  aw_newa (t := 1) C d rfl (ac_ws_in 137 (by decide +kernel) (by decide +kernel)) rfl (fun _ z => by cases z) (fun _ => rfl) hx hN (by show N * 4 ≤ _; omega) hk hn hq kk
end
set_option maxHeartbeats 4000000 in
set_option maxRecDepth 100000 in
theorem m_init (G : ac_G) (l : Launch) (h : ac_H) (d : Nat) (o : Nat) (K : h o = some (.inr (9, [.int 0, .null, .int 0, .int 0, .int 0, .null, .null, .null, .null, .null, .null, .int 0, .null, .null, .int 0, .int 0, .null, .int 0, .int 0, .int 0, .int 0, .null, .null, .null, .null, .null, .null, .null, .int 0, .int 0, .int 0, .int 0, .int 0, .null, .int 0, .null, .null, .null, .null, .null, .null, .int 0, .null, .null]))) : ac_Met G l yX9_init cX9_init 1 none (d + 1) 26 8719 [.ref o] h (fun r9 h9 => r9 = none ∧ ∃ md : Nat → Nat, md_inj md ∧ (∀ j, j ∈ md_ia ++ md_la → h (md j) = none) ∧ md_ok h9 o md (fun _ => 0, fun _ _ => 0, fun _ _ => 0) ∧ kp h h9 [o]) := by
  refine ac_of (ls := [.ref o]) (by decide +kernel) rfl (Nat.le_of_ble_eq_true rfl) (fun M hl C B E hnm => ?_)
  refine aw_aload_n C dX9_init_0 rfl rfl (q := 1) rfl ?_
  refine oiX9_1 C B dX9_init_1 (by decide) (by omega) (q := 4) rfl ?_
  refine aw_aload_n C dX9_init_4 rfl rfl (q := 5) rfl ?_
  refine aw_sipush (v := 300) C dX9_init_5 (by decide) (q := 8) rfl ?_
  refine ay_newI3 (N := 300) C dX9_init_8 (by decide) rfl (by decide) (Nat.le_trans (by omega) B.2.2.1) (Nat.le_trans (by omega) B.2.2.2) (q := 10) rfl (fun a1 hn_1 _ => ?_)
  show aw G 1 M 10 [.ref o] [.ref a1, .ref o] (ac_up h a1 (.inl (1, 300, .inl (fun _ => 0)))) (0 + 1) (0 + 300)
  obtain ⟨h_2, eh_2⟩ : ∃ z9, z9 = ac_up h a1 (.inl (1, 300, .inl (fun _ => 0))) := ⟨_, rfl⟩
  rw [← eh_2]
  have n_3 : h a1 = none := kp_none kp_rf hn_1 ni0
  have t_4 : o ≠ a1 := nw_ne K hn_1
  have f_5 : h_2 o = some (.inr (9, [.int 0, .null, .int 0, .int 0, .int 0, .null, .null, .null, .null, .null, .null, .int 0, .null, .null, .int 0, .int 0, .null, .int 0, .int 0, .int 0, .int 0, .null, .null, .null, .null, .null, .null, .null, .int 0, .int 0, .int 0, .int 0, .int 0, .null, .int 0, .null, .null, .null, .null, .null, .null, .int 0, .null, .null])) := by rw [eh_2, ac_up_n _ _ t_4]; exact K
  have f_6 : h_2 a1 = some (.inl (1, 300, .inl (fun _ => 0))) := by rw [eh_2]; exact ac_up_s _ _ _
  have kp_7 : kp h h_2 [] := by rw [eh_2]; exact kp_new n_3 kp_rf
  refine pfX9_7_9 C hnm dX9_init_10 f_5 rfl rfl (Nat.le_of_ble_eq_true rfl) (q := 13) rfl ?_
  show aw G 1 M 13 [.ref o] [] (ac_up h_2 o (.inr (9, [.int 0, .ref a1, .int 0, .int 0, .int 0, .null, .null, .null, .null, .null, .null, .int 0, .null, .null, .int 0, .int 0, .null, .int 0, .int 0, .int 0, .int 0, .null, .null, .null, .null, .null, .null, .null, .int 0, .int 0, .int 0, .int 0, .int 0, .null, .int 0, .null, .null, .null, .null, .null, .null, .int 0, .null, .null]))) (0 + 1) (0 + 300)
  obtain ⟨h_8, eh_8⟩ : ∃ z9, z9 = ac_up h_2 o (.inr (9, [.int 0, .ref a1, .int 0, .int 0, .int 0, .null, .null, .null, .null, .null, .null, .int 0, .null, .null, .int 0, .int 0, .null, .int 0, .int 0, .int 0, .int 0, .null, .null, .null, .null, .null, .null, .null, .int 0, .int 0, .int 0, .int 0, .int 0, .null, .int 0, .null, .null, .null, .null, .null, .null, .int 0, .null, .null])) := ⟨_, rfl⟩
  rw [← eh_8]
  have f_9 : h_8 a1 = some (.inl (1, 300, .inl (fun _ => 0))) := by rw [eh_8, ac_up_n _ _ (Ne.symm t_4)]; exact f_6
  have f_10 : h_8 o = some (.inr (9, [.int 0, .ref a1, .int 0, .int 0, .int 0, .null, .null, .null, .null, .null, .null, .int 0, .null, .null, .int 0, .int 0, .null, .int 0, .int 0, .int 0, .int 0, .null, .null, .null, .null, .null, .null, .null, .int 0, .int 0, .int 0, .int 0, .int 0, .null, .int 0, .null, .null, .null, .null, .null, .null, .int 0, .null, .null])) := by rw [eh_8]; exact ac_up_s _ _ _
  have kp_11 : kp h h_8 [o] := by rw [eh_8]; exact kp_up (kp_cons o kp_7) _ _ (by simp)
  refine aw_aload_n C dX9_init_13 rfl rfl (q := 14) rfl ?_
  refine aw_sipush (v := 2800) C dX9_init_14 (by decide) (q := 17) rfl ?_
  refine ay_newI3 (N := 2800) C dX9_init_17 (by decide) rfl (by decide) (Nat.le_trans (by omega) B.2.2.1) (Nat.le_trans (by omega) B.2.2.2) (q := 19) rfl (fun a5 hn_12 _ => ?_)
  show aw G 1 M 19 [.ref o] [.ref a5, .ref o] (ac_up h_8 a5 (.inl (1, 2800, .inl (fun _ => 0)))) ((0 + 1) + 1) ((0 + 300) + 2800)
  obtain ⟨h_13, eh_13⟩ : ∃ z9, z9 = ac_up h_8 a5 (.inl (1, 2800, .inl (fun _ => 0))) := ⟨_, rfl⟩
  rw [← eh_13]
  have n_14 : h a5 = none := kp_none kp_11 hn_12 (ni1 (Ne.symm (nw_ne f_10 hn_12)) ni0)
  have t_15 : o ≠ a5 := nw_ne f_10 hn_12
  have f_16 : h_13 o = some (.inr (9, [.int 0, .ref a1, .int 0, .int 0, .int 0, .null, .null, .null, .null, .null, .null, .int 0, .null, .null, .int 0, .int 0, .null, .int 0, .int 0, .int 0, .int 0, .null, .null, .null, .null, .null, .null, .null, .int 0, .int 0, .int 0, .int 0, .int 0, .null, .int 0, .null, .null, .null, .null, .null, .null, .int 0, .null, .null])) := by rw [eh_13, ac_up_n _ _ t_15]; exact f_10
  have t_17 : a1 ≠ a5 := nw_ne f_9 hn_12
  have f_18 : h_13 a1 = some (.inl (1, 300, .inl (fun _ => 0))) := by rw [eh_13, ac_up_n _ _ t_17]; exact f_9
  have f_19 : h_13 a5 = some (.inl (1, 2800, .inl (fun _ => 0))) := by rw [eh_13]; exact ac_up_s _ _ _
  have kp_20 : kp h h_13 [o] := by rw [eh_13]; exact kp_new n_14 kp_11
  refine pfX9_13_9 C hnm dX9_init_19 f_16 rfl rfl (Nat.le_of_ble_eq_true rfl) (q := 22) rfl ?_
  show aw G 1 M 22 [.ref o] [] (ac_up h_13 o (.inr (9, [.int 0, .ref a1, .int 0, .int 0, .int 0, .ref a5, .null, .null, .null, .null, .null, .int 0, .null, .null, .int 0, .int 0, .null, .int 0, .int 0, .int 0, .int 0, .null, .null, .null, .null, .null, .null, .null, .int 0, .int 0, .int 0, .int 0, .int 0, .null, .int 0, .null, .null, .null, .null, .null, .null, .int 0, .null, .null]))) ((0 + 1) + 1) ((0 + 300) + 2800)
  obtain ⟨h_21, eh_21⟩ : ∃ z9, z9 = ac_up h_13 o (.inr (9, [.int 0, .ref a1, .int 0, .int 0, .int 0, .ref a5, .null, .null, .null, .null, .null, .int 0, .null, .null, .int 0, .int 0, .null, .int 0, .int 0, .int 0, .int 0, .null, .null, .null, .null, .null, .null, .null, .int 0, .int 0, .int 0, .int 0, .int 0, .null, .int 0, .null, .null, .null, .null, .null, .null, .int 0, .null, .null])) := ⟨_, rfl⟩
  rw [← eh_21]
  have f_22 : h_21 a1 = some (.inl (1, 300, .inl (fun _ => 0))) := by rw [eh_21, ac_up_n _ _ (Ne.symm t_4)]; exact f_18
  have f_23 : h_21 a5 = some (.inl (1, 2800, .inl (fun _ => 0))) := by rw [eh_21, ac_up_n _ _ (Ne.symm t_15)]; exact f_19
  have f_24 : h_21 o = some (.inr (9, [.int 0, .ref a1, .int 0, .int 0, .int 0, .ref a5, .null, .null, .null, .null, .null, .int 0, .null, .null, .int 0, .int 0, .null, .int 0, .int 0, .int 0, .int 0, .null, .null, .null, .null, .null, .null, .null, .int 0, .int 0, .int 0, .int 0, .int 0, .null, .int 0, .null, .null, .null, .null, .null, .null, .int 0, .null, .null])) := by rw [eh_21]; exact ac_up_s _ _ _
  have kp_25 : kp h h_21 [o] := by rw [eh_21]; exact kp_up kp_20 _ _ (by simp)
  refine aw_aload_n C dX9_init_22 rfl rfl (q := 23) rfl ?_
  refine aw_sipush (v := 2800) C dX9_init_23 (by decide) (q := 26) rfl ?_
  refine ay_newI3 (N := 2800) C dX9_init_26 (by decide) rfl (by decide) (Nat.le_trans (by omega) B.2.2.1) (Nat.le_trans (by omega) B.2.2.2) (q := 28) rfl (fun a6 hn_26 _ => ?_)
  show aw G 1 M 28 [.ref o] [.ref a6, .ref o] (ac_up h_21 a6 (.inl (1, 2800, .inl (fun _ => 0)))) (((0 + 1) + 1) + 1) (((0 + 300) + 2800) + 2800)
  obtain ⟨h_27, eh_27⟩ : ∃ z9, z9 = ac_up h_21 a6 (.inl (1, 2800, .inl (fun _ => 0))) := ⟨_, rfl⟩
  rw [← eh_27]
  have n_28 : h a6 = none := kp_none kp_25 hn_26 (ni1 (Ne.symm (nw_ne f_24 hn_26)) ni0)
  have t_29 : o ≠ a6 := nw_ne f_24 hn_26
  have f_30 : h_27 o = some (.inr (9, [.int 0, .ref a1, .int 0, .int 0, .int 0, .ref a5, .null, .null, .null, .null, .null, .int 0, .null, .null, .int 0, .int 0, .null, .int 0, .int 0, .int 0, .int 0, .null, .null, .null, .null, .null, .null, .null, .int 0, .int 0, .int 0, .int 0, .int 0, .null, .int 0, .null, .null, .null, .null, .null, .null, .int 0, .null, .null])) := by rw [eh_27, ac_up_n _ _ t_29]; exact f_24
  have t_31 : a1 ≠ a6 := nw_ne f_22 hn_26
  have f_32 : h_27 a1 = some (.inl (1, 300, .inl (fun _ => 0))) := by rw [eh_27, ac_up_n _ _ t_31]; exact f_22
  have t_33 : a5 ≠ a6 := nw_ne f_23 hn_26
  have f_34 : h_27 a5 = some (.inl (1, 2800, .inl (fun _ => 0))) := by rw [eh_27, ac_up_n _ _ t_33]; exact f_23
  have f_35 : h_27 a6 = some (.inl (1, 2800, .inl (fun _ => 0))) := by rw [eh_27]; exact ac_up_s _ _ _
  have kp_36 : kp h h_27 [o] := by rw [eh_27]; exact kp_new n_28 kp_25
  refine pfX9_16_9 C hnm dX9_init_28 f_30 rfl rfl (Nat.le_of_ble_eq_true rfl) (q := 31) rfl ?_
  show aw G 1 M 31 [.ref o] [] (ac_up h_27 o (.inr (9, [.int 0, .ref a1, .int 0, .int 0, .int 0, .ref a5, .ref a6, .null, .null, .null, .null, .int 0, .null, .null, .int 0, .int 0, .null, .int 0, .int 0, .int 0, .int 0, .null, .null, .null, .null, .null, .null, .null, .int 0, .int 0, .int 0, .int 0, .int 0, .null, .int 0, .null, .null, .null, .null, .null, .null, .int 0, .null, .null]))) (((0 + 1) + 1) + 1) (((0 + 300) + 2800) + 2800)
  obtain ⟨h_37, eh_37⟩ : ∃ z9, z9 = ac_up h_27 o (.inr (9, [.int 0, .ref a1, .int 0, .int 0, .int 0, .ref a5, .ref a6, .null, .null, .null, .null, .int 0, .null, .null, .int 0, .int 0, .null, .int 0, .int 0, .int 0, .int 0, .null, .null, .null, .null, .null, .null, .null, .int 0, .int 0, .int 0, .int 0, .int 0, .null, .int 0, .null, .null, .null, .null, .null, .null, .int 0, .null, .null])) := ⟨_, rfl⟩
  rw [← eh_37]
  have f_38 : h_37 a1 = some (.inl (1, 300, .inl (fun _ => 0))) := by rw [eh_37, ac_up_n _ _ (Ne.symm t_4)]; exact f_32
  have f_39 : h_37 a5 = some (.inl (1, 2800, .inl (fun _ => 0))) := by rw [eh_37, ac_up_n _ _ (Ne.symm t_15)]; exact f_34
  have f_40 : h_37 a6 = some (.inl (1, 2800, .inl (fun _ => 0))) := by rw [eh_37, ac_up_n _ _ (Ne.symm t_29)]; exact f_35
  have f_41 : h_37 o = some (.inr (9, [.int 0, .ref a1, .int 0, .int 0, .int 0, .ref a5, .ref a6, .null, .null, .null, .null, .int 0, .null, .null, .int 0, .int 0, .null, .int 0, .int 0, .int 0, .int 0, .null, .null, .null, .null, .null, .null, .null, .int 0, .int 0, .int 0, .int 0, .int 0, .null, .int 0, .null, .null, .null, .null, .null, .null, .int 0, .null, .null])) := by rw [eh_37]; exact ac_up_s _ _ _
  have kp_42 : kp h h_37 [o] := by rw [eh_37]; exact kp_up kp_36 _ _ (by simp)
  refine aw_aload_n C dX9_init_31 rfl rfl (q := 32) rfl ?_
  refine aw_bipush (v := 7) C dX9_init_32 (by decide) (q := 34) rfl ?_
  refine ay_newI3 (N := 7) C dX9_init_34 (by decide) rfl (by decide) (Nat.le_trans (by omega) B.2.2.1) (Nat.le_trans (by omega) B.2.2.2) (q := 36) rfl (fun a7 hn_43 _ => ?_)
  show aw G 1 M 36 [.ref o] [.ref a7, .ref o] (ac_up h_37 a7 (.inl (1, 7, .inl (fun _ => 0)))) ((((0 + 1) + 1) + 1) + 1) ((((0 + 300) + 2800) + 2800) + 7)
  obtain ⟨h_44, eh_44⟩ : ∃ z9, z9 = ac_up h_37 a7 (.inl (1, 7, .inl (fun _ => 0))) := ⟨_, rfl⟩
  rw [← eh_44]
  have n_45 : h a7 = none := kp_none kp_42 hn_43 (ni1 (Ne.symm (nw_ne f_41 hn_43)) ni0)
  have t_46 : o ≠ a7 := nw_ne f_41 hn_43
  have f_47 : h_44 o = some (.inr (9, [.int 0, .ref a1, .int 0, .int 0, .int 0, .ref a5, .ref a6, .null, .null, .null, .null, .int 0, .null, .null, .int 0, .int 0, .null, .int 0, .int 0, .int 0, .int 0, .null, .null, .null, .null, .null, .null, .null, .int 0, .int 0, .int 0, .int 0, .int 0, .null, .int 0, .null, .null, .null, .null, .null, .null, .int 0, .null, .null])) := by rw [eh_44, ac_up_n _ _ t_46]; exact f_41
  have t_48 : a1 ≠ a7 := nw_ne f_38 hn_43
  have f_49 : h_44 a1 = some (.inl (1, 300, .inl (fun _ => 0))) := by rw [eh_44, ac_up_n _ _ t_48]; exact f_38
  have t_50 : a5 ≠ a7 := nw_ne f_39 hn_43
  have f_51 : h_44 a5 = some (.inl (1, 2800, .inl (fun _ => 0))) := by rw [eh_44, ac_up_n _ _ t_50]; exact f_39
  have t_52 : a6 ≠ a7 := nw_ne f_40 hn_43
  have f_53 : h_44 a6 = some (.inl (1, 2800, .inl (fun _ => 0))) := by rw [eh_44, ac_up_n _ _ t_52]; exact f_40
  have f_54 : h_44 a7 = some (.inl (1, 7, .inl (fun _ => 0))) := by rw [eh_44]; exact ac_up_s _ _ _
  have kp_55 : kp h h_44 [o] := by rw [eh_44]; exact kp_new n_45 kp_42
  refine pfX9_19_9 C hnm dX9_init_36 f_47 rfl rfl (Nat.le_of_ble_eq_true rfl) (q := 39) rfl ?_
  show aw G 1 M 39 [.ref o] [] (ac_up h_44 o (.inr (9, [.int 0, .ref a1, .int 0, .int 0, .int 0, .ref a5, .ref a6, .ref a7, .null, .null, .null, .int 0, .null, .null, .int 0, .int 0, .null, .int 0, .int 0, .int 0, .int 0, .null, .null, .null, .null, .null, .null, .null, .int 0, .int 0, .int 0, .int 0, .int 0, .null, .int 0, .null, .null, .null, .null, .null, .null, .int 0, .null, .null]))) ((((0 + 1) + 1) + 1) + 1) ((((0 + 300) + 2800) + 2800) + 7)
  obtain ⟨h_56, eh_56⟩ : ∃ z9, z9 = ac_up h_44 o (.inr (9, [.int 0, .ref a1, .int 0, .int 0, .int 0, .ref a5, .ref a6, .ref a7, .null, .null, .null, .int 0, .null, .null, .int 0, .int 0, .null, .int 0, .int 0, .int 0, .int 0, .null, .null, .null, .null, .null, .null, .null, .int 0, .int 0, .int 0, .int 0, .int 0, .null, .int 0, .null, .null, .null, .null, .null, .null, .int 0, .null, .null])) := ⟨_, rfl⟩
  rw [← eh_56]
  have f_57 : h_56 a1 = some (.inl (1, 300, .inl (fun _ => 0))) := by rw [eh_56, ac_up_n _ _ (Ne.symm t_4)]; exact f_49
  have f_58 : h_56 a5 = some (.inl (1, 2800, .inl (fun _ => 0))) := by rw [eh_56, ac_up_n _ _ (Ne.symm t_15)]; exact f_51
  have f_59 : h_56 a6 = some (.inl (1, 2800, .inl (fun _ => 0))) := by rw [eh_56, ac_up_n _ _ (Ne.symm t_29)]; exact f_53
  have f_60 : h_56 a7 = some (.inl (1, 7, .inl (fun _ => 0))) := by rw [eh_56, ac_up_n _ _ (Ne.symm t_46)]; exact f_54
  have f_61 : h_56 o = some (.inr (9, [.int 0, .ref a1, .int 0, .int 0, .int 0, .ref a5, .ref a6, .ref a7, .null, .null, .null, .int 0, .null, .null, .int 0, .int 0, .null, .int 0, .int 0, .int 0, .int 0, .null, .null, .null, .null, .null, .null, .null, .int 0, .int 0, .int 0, .int 0, .int 0, .null, .int 0, .null, .null, .null, .null, .null, .null, .int 0, .null, .null])) := by rw [eh_56]; exact ac_up_s _ _ _
  have kp_62 : kp h h_56 [o] := by rw [eh_56]; exact kp_up kp_55 _ _ (by simp)
  refine aw_aload_n C dX9_init_39 rfl rfl (q := 40) rfl ?_
  refine aw_bipush (v := 7) C dX9_init_40 (by decide) (q := 42) rfl ?_
  refine ay_newI3 (N := 7) C dX9_init_42 (by decide) rfl (by decide) (Nat.le_trans (by omega) B.2.2.1) (Nat.le_trans (by omega) B.2.2.2) (q := 44) rfl (fun a8 hn_63 _ => ?_)
  show aw G 1 M 44 [.ref o] [.ref a8, .ref o] (ac_up h_56 a8 (.inl (1, 7, .inl (fun _ => 0)))) (((((0 + 1) + 1) + 1) + 1) + 1) (((((0 + 300) + 2800) + 2800) + 7) + 7)
  obtain ⟨h_64, eh_64⟩ : ∃ z9, z9 = ac_up h_56 a8 (.inl (1, 7, .inl (fun _ => 0))) := ⟨_, rfl⟩
  rw [← eh_64]
  have n_65 : h a8 = none := kp_none kp_62 hn_63 (ni1 (Ne.symm (nw_ne f_61 hn_63)) ni0)
  have t_66 : o ≠ a8 := nw_ne f_61 hn_63
  have f_67 : h_64 o = some (.inr (9, [.int 0, .ref a1, .int 0, .int 0, .int 0, .ref a5, .ref a6, .ref a7, .null, .null, .null, .int 0, .null, .null, .int 0, .int 0, .null, .int 0, .int 0, .int 0, .int 0, .null, .null, .null, .null, .null, .null, .null, .int 0, .int 0, .int 0, .int 0, .int 0, .null, .int 0, .null, .null, .null, .null, .null, .null, .int 0, .null, .null])) := by rw [eh_64, ac_up_n _ _ t_66]; exact f_61
  have t_68 : a1 ≠ a8 := nw_ne f_57 hn_63
  have f_69 : h_64 a1 = some (.inl (1, 300, .inl (fun _ => 0))) := by rw [eh_64, ac_up_n _ _ t_68]; exact f_57
  have t_70 : a5 ≠ a8 := nw_ne f_58 hn_63
  have f_71 : h_64 a5 = some (.inl (1, 2800, .inl (fun _ => 0))) := by rw [eh_64, ac_up_n _ _ t_70]; exact f_58
  have t_72 : a6 ≠ a8 := nw_ne f_59 hn_63
  have f_73 : h_64 a6 = some (.inl (1, 2800, .inl (fun _ => 0))) := by rw [eh_64, ac_up_n _ _ t_72]; exact f_59
  have t_74 : a7 ≠ a8 := nw_ne f_60 hn_63
  have f_75 : h_64 a7 = some (.inl (1, 7, .inl (fun _ => 0))) := by rw [eh_64, ac_up_n _ _ t_74]; exact f_60
  have f_76 : h_64 a8 = some (.inl (1, 7, .inl (fun _ => 0))) := by rw [eh_64]; exact ac_up_s _ _ _
  have kp_77 : kp h h_64 [o] := by rw [eh_64]; exact kp_new n_65 kp_62
  refine pfX9_22_9 C hnm dX9_init_44 f_67 rfl rfl (Nat.le_of_ble_eq_true rfl) (q := 47) rfl ?_
  show aw G 1 M 47 [.ref o] [] (ac_up h_64 o (.inr (9, [.int 0, .ref a1, .int 0, .int 0, .int 0, .ref a5, .ref a6, .ref a7, .ref a8, .null, .null, .int 0, .null, .null, .int 0, .int 0, .null, .int 0, .int 0, .int 0, .int 0, .null, .null, .null, .null, .null, .null, .null, .int 0, .int 0, .int 0, .int 0, .int 0, .null, .int 0, .null, .null, .null, .null, .null, .null, .int 0, .null, .null]))) (((((0 + 1) + 1) + 1) + 1) + 1) (((((0 + 300) + 2800) + 2800) + 7) + 7)
  obtain ⟨h_78, eh_78⟩ : ∃ z9, z9 = ac_up h_64 o (.inr (9, [.int 0, .ref a1, .int 0, .int 0, .int 0, .ref a5, .ref a6, .ref a7, .ref a8, .null, .null, .int 0, .null, .null, .int 0, .int 0, .null, .int 0, .int 0, .int 0, .int 0, .null, .null, .null, .null, .null, .null, .null, .int 0, .int 0, .int 0, .int 0, .int 0, .null, .int 0, .null, .null, .null, .null, .null, .null, .int 0, .null, .null])) := ⟨_, rfl⟩
  rw [← eh_78]
  have f_79 : h_78 a1 = some (.inl (1, 300, .inl (fun _ => 0))) := by rw [eh_78, ac_up_n _ _ (Ne.symm t_4)]; exact f_69
  have f_80 : h_78 a5 = some (.inl (1, 2800, .inl (fun _ => 0))) := by rw [eh_78, ac_up_n _ _ (Ne.symm t_15)]; exact f_71
  have f_81 : h_78 a6 = some (.inl (1, 2800, .inl (fun _ => 0))) := by rw [eh_78, ac_up_n _ _ (Ne.symm t_29)]; exact f_73
  have f_82 : h_78 a7 = some (.inl (1, 7, .inl (fun _ => 0))) := by rw [eh_78, ac_up_n _ _ (Ne.symm t_46)]; exact f_75
  have f_83 : h_78 a8 = some (.inl (1, 7, .inl (fun _ => 0))) := by rw [eh_78, ac_up_n _ _ (Ne.symm t_66)]; exact f_76
  have f_84 : h_78 o = some (.inr (9, [.int 0, .ref a1, .int 0, .int 0, .int 0, .ref a5, .ref a6, .ref a7, .ref a8, .null, .null, .int 0, .null, .null, .int 0, .int 0, .null, .int 0, .int 0, .int 0, .int 0, .null, .null, .null, .null, .null, .null, .null, .int 0, .int 0, .int 0, .int 0, .int 0, .null, .int 0, .null, .null, .null, .null, .null, .null, .int 0, .null, .null])) := by rw [eh_78]; exact ac_up_s _ _ _
  have kp_85 : kp h h_78 [o] := by rw [eh_78]; exact kp_up kp_77 _ _ (by simp)
  refine aw_aload_n C dX9_init_47 rfl rfl (q := 48) rfl ?_
  refine aw_bipush (v := 91) C dX9_init_48 (by decide) (q := 50) rfl ?_
  refine ay_newI3 (N := 91) C dX9_init_50 (by decide) rfl (by decide) (Nat.le_trans (by omega) B.2.2.1) (Nat.le_trans (by omega) B.2.2.2) (q := 52) rfl (fun a9 hn_86 _ => ?_)
  show aw G 1 M 52 [.ref o] [.ref a9, .ref o] (ac_up h_78 a9 (.inl (1, 91, .inl (fun _ => 0)))) ((((((0 + 1) + 1) + 1) + 1) + 1) + 1) ((((((0 + 300) + 2800) + 2800) + 7) + 7) + 91)
  obtain ⟨h_87, eh_87⟩ : ∃ z9, z9 = ac_up h_78 a9 (.inl (1, 91, .inl (fun _ => 0))) := ⟨_, rfl⟩
  rw [← eh_87]
  have n_88 : h a9 = none := kp_none kp_85 hn_86 (ni1 (Ne.symm (nw_ne f_84 hn_86)) ni0)
  have t_89 : o ≠ a9 := nw_ne f_84 hn_86
  have f_90 : h_87 o = some (.inr (9, [.int 0, .ref a1, .int 0, .int 0, .int 0, .ref a5, .ref a6, .ref a7, .ref a8, .null, .null, .int 0, .null, .null, .int 0, .int 0, .null, .int 0, .int 0, .int 0, .int 0, .null, .null, .null, .null, .null, .null, .null, .int 0, .int 0, .int 0, .int 0, .int 0, .null, .int 0, .null, .null, .null, .null, .null, .null, .int 0, .null, .null])) := by rw [eh_87, ac_up_n _ _ t_89]; exact f_84
  have t_91 : a1 ≠ a9 := nw_ne f_79 hn_86
  have f_92 : h_87 a1 = some (.inl (1, 300, .inl (fun _ => 0))) := by rw [eh_87, ac_up_n _ _ t_91]; exact f_79
  have t_93 : a5 ≠ a9 := nw_ne f_80 hn_86
  have f_94 : h_87 a5 = some (.inl (1, 2800, .inl (fun _ => 0))) := by rw [eh_87, ac_up_n _ _ t_93]; exact f_80
  have t_95 : a6 ≠ a9 := nw_ne f_81 hn_86
  have f_96 : h_87 a6 = some (.inl (1, 2800, .inl (fun _ => 0))) := by rw [eh_87, ac_up_n _ _ t_95]; exact f_81
  have t_97 : a7 ≠ a9 := nw_ne f_82 hn_86
  have f_98 : h_87 a7 = some (.inl (1, 7, .inl (fun _ => 0))) := by rw [eh_87, ac_up_n _ _ t_97]; exact f_82
  have t_99 : a8 ≠ a9 := nw_ne f_83 hn_86
  have f_100 : h_87 a8 = some (.inl (1, 7, .inl (fun _ => 0))) := by rw [eh_87, ac_up_n _ _ t_99]; exact f_83
  have f_101 : h_87 a9 = some (.inl (1, 91, .inl (fun _ => 0))) := by rw [eh_87]; exact ac_up_s _ _ _
  have kp_102 : kp h h_87 [o] := by rw [eh_87]; exact kp_new n_88 kp_85
  refine pfX9_25_9 C hnm dX9_init_52 f_90 rfl rfl (Nat.le_of_ble_eq_true rfl) (q := 55) rfl ?_
  show aw G 1 M 55 [.ref o] [] (ac_up h_87 o (.inr (9, [.int 0, .ref a1, .int 0, .int 0, .int 0, .ref a5, .ref a6, .ref a7, .ref a8, .ref a9, .null, .int 0, .null, .null, .int 0, .int 0, .null, .int 0, .int 0, .int 0, .int 0, .null, .null, .null, .null, .null, .null, .null, .int 0, .int 0, .int 0, .int 0, .int 0, .null, .int 0, .null, .null, .null, .null, .null, .null, .int 0, .null, .null]))) ((((((0 + 1) + 1) + 1) + 1) + 1) + 1) ((((((0 + 300) + 2800) + 2800) + 7) + 7) + 91)
  obtain ⟨h_103, eh_103⟩ : ∃ z9, z9 = ac_up h_87 o (.inr (9, [.int 0, .ref a1, .int 0, .int 0, .int 0, .ref a5, .ref a6, .ref a7, .ref a8, .ref a9, .null, .int 0, .null, .null, .int 0, .int 0, .null, .int 0, .int 0, .int 0, .int 0, .null, .null, .null, .null, .null, .null, .null, .int 0, .int 0, .int 0, .int 0, .int 0, .null, .int 0, .null, .null, .null, .null, .null, .null, .int 0, .null, .null])) := ⟨_, rfl⟩
  rw [← eh_103]
  have f_104 : h_103 a1 = some (.inl (1, 300, .inl (fun _ => 0))) := by rw [eh_103, ac_up_n _ _ (Ne.symm t_4)]; exact f_92
  have f_105 : h_103 a5 = some (.inl (1, 2800, .inl (fun _ => 0))) := by rw [eh_103, ac_up_n _ _ (Ne.symm t_15)]; exact f_94
  have f_106 : h_103 a6 = some (.inl (1, 2800, .inl (fun _ => 0))) := by rw [eh_103, ac_up_n _ _ (Ne.symm t_29)]; exact f_96
  have f_107 : h_103 a7 = some (.inl (1, 7, .inl (fun _ => 0))) := by rw [eh_103, ac_up_n _ _ (Ne.symm t_46)]; exact f_98
  have f_108 : h_103 a8 = some (.inl (1, 7, .inl (fun _ => 0))) := by rw [eh_103, ac_up_n _ _ (Ne.symm t_66)]; exact f_100
  have f_109 : h_103 a9 = some (.inl (1, 91, .inl (fun _ => 0))) := by rw [eh_103, ac_up_n _ _ (Ne.symm t_89)]; exact f_101
  have f_110 : h_103 o = some (.inr (9, [.int 0, .ref a1, .int 0, .int 0, .int 0, .ref a5, .ref a6, .ref a7, .ref a8, .ref a9, .null, .int 0, .null, .null, .int 0, .int 0, .null, .int 0, .int 0, .int 0, .int 0, .null, .null, .null, .null, .null, .null, .null, .int 0, .int 0, .int 0, .int 0, .int 0, .null, .int 0, .null, .null, .null, .null, .null, .null, .int 0, .null, .null])) := by rw [eh_103]; exact ac_up_s _ _ _
  have kp_111 : kp h h_103 [o] := by rw [eh_103]; exact kp_up kp_102 _ _ (by simp)
  refine aw_aload_n C dX9_init_55 rfl rfl (q := 56) rfl ?_
  refine aw_bipush (v := 91) C dX9_init_56 (by decide) (q := 58) rfl ?_
  refine ay_newI3 (N := 91) C dX9_init_58 (by decide) rfl (by decide) (Nat.le_trans (by omega) B.2.2.1) (Nat.le_trans (by omega) B.2.2.2) (q := 60) rfl (fun a10 hn_112 _ => ?_)
  show aw G 1 M 60 [.ref o] [.ref a10, .ref o] (ac_up h_103 a10 (.inl (1, 91, .inl (fun _ => 0)))) (((((((0 + 1) + 1) + 1) + 1) + 1) + 1) + 1) (((((((0 + 300) + 2800) + 2800) + 7) + 7) + 91) + 91)
  obtain ⟨h_113, eh_113⟩ : ∃ z9, z9 = ac_up h_103 a10 (.inl (1, 91, .inl (fun _ => 0))) := ⟨_, rfl⟩
  rw [← eh_113]
  have n_114 : h a10 = none := kp_none kp_111 hn_112 (ni1 (Ne.symm (nw_ne f_110 hn_112)) ni0)
  have t_115 : o ≠ a10 := nw_ne f_110 hn_112
  have f_116 : h_113 o = some (.inr (9, [.int 0, .ref a1, .int 0, .int 0, .int 0, .ref a5, .ref a6, .ref a7, .ref a8, .ref a9, .null, .int 0, .null, .null, .int 0, .int 0, .null, .int 0, .int 0, .int 0, .int 0, .null, .null, .null, .null, .null, .null, .null, .int 0, .int 0, .int 0, .int 0, .int 0, .null, .int 0, .null, .null, .null, .null, .null, .null, .int 0, .null, .null])) := by rw [eh_113, ac_up_n _ _ t_115]; exact f_110
  have t_117 : a1 ≠ a10 := nw_ne f_104 hn_112
  have f_118 : h_113 a1 = some (.inl (1, 300, .inl (fun _ => 0))) := by rw [eh_113, ac_up_n _ _ t_117]; exact f_104
  have t_119 : a5 ≠ a10 := nw_ne f_105 hn_112
  have f_120 : h_113 a5 = some (.inl (1, 2800, .inl (fun _ => 0))) := by rw [eh_113, ac_up_n _ _ t_119]; exact f_105
  have t_121 : a6 ≠ a10 := nw_ne f_106 hn_112
  have f_122 : h_113 a6 = some (.inl (1, 2800, .inl (fun _ => 0))) := by rw [eh_113, ac_up_n _ _ t_121]; exact f_106
  have t_123 : a7 ≠ a10 := nw_ne f_107 hn_112
  have f_124 : h_113 a7 = some (.inl (1, 7, .inl (fun _ => 0))) := by rw [eh_113, ac_up_n _ _ t_123]; exact f_107
  have t_125 : a8 ≠ a10 := nw_ne f_108 hn_112
  have f_126 : h_113 a8 = some (.inl (1, 7, .inl (fun _ => 0))) := by rw [eh_113, ac_up_n _ _ t_125]; exact f_108
  have t_127 : a9 ≠ a10 := nw_ne f_109 hn_112
  have f_128 : h_113 a9 = some (.inl (1, 91, .inl (fun _ => 0))) := by rw [eh_113, ac_up_n _ _ t_127]; exact f_109
  have f_129 : h_113 a10 = some (.inl (1, 91, .inl (fun _ => 0))) := by rw [eh_113]; exact ac_up_s _ _ _
  have kp_130 : kp h h_113 [o] := by rw [eh_113]; exact kp_new n_114 kp_111
  refine pfX9_28_9 C hnm dX9_init_60 f_116 rfl rfl (Nat.le_of_ble_eq_true rfl) (q := 63) rfl ?_
  show aw G 1 M 63 [.ref o] [] (ac_up h_113 o (.inr (9, [.int 0, .ref a1, .int 0, .int 0, .int 0, .ref a5, .ref a6, .ref a7, .ref a8, .ref a9, .ref a10, .int 0, .null, .null, .int 0, .int 0, .null, .int 0, .int 0, .int 0, .int 0, .null, .null, .null, .null, .null, .null, .null, .int 0, .int 0, .int 0, .int 0, .int 0, .null, .int 0, .null, .null, .null, .null, .null, .null, .int 0, .null, .null]))) (((((((0 + 1) + 1) + 1) + 1) + 1) + 1) + 1) (((((((0 + 300) + 2800) + 2800) + 7) + 7) + 91) + 91)
  obtain ⟨h_131, eh_131⟩ : ∃ z9, z9 = ac_up h_113 o (.inr (9, [.int 0, .ref a1, .int 0, .int 0, .int 0, .ref a5, .ref a6, .ref a7, .ref a8, .ref a9, .ref a10, .int 0, .null, .null, .int 0, .int 0, .null, .int 0, .int 0, .int 0, .int 0, .null, .null, .null, .null, .null, .null, .null, .int 0, .int 0, .int 0, .int 0, .int 0, .null, .int 0, .null, .null, .null, .null, .null, .null, .int 0, .null, .null])) := ⟨_, rfl⟩
  rw [← eh_131]
  have f_132 : h_131 a1 = some (.inl (1, 300, .inl (fun _ => 0))) := by rw [eh_131, ac_up_n _ _ (Ne.symm t_4)]; exact f_118
  have f_133 : h_131 a5 = some (.inl (1, 2800, .inl (fun _ => 0))) := by rw [eh_131, ac_up_n _ _ (Ne.symm t_15)]; exact f_120
  have f_134 : h_131 a6 = some (.inl (1, 2800, .inl (fun _ => 0))) := by rw [eh_131, ac_up_n _ _ (Ne.symm t_29)]; exact f_122
  have f_135 : h_131 a7 = some (.inl (1, 7, .inl (fun _ => 0))) := by rw [eh_131, ac_up_n _ _ (Ne.symm t_46)]; exact f_124
  have f_136 : h_131 a8 = some (.inl (1, 7, .inl (fun _ => 0))) := by rw [eh_131, ac_up_n _ _ (Ne.symm t_66)]; exact f_126
  have f_137 : h_131 a9 = some (.inl (1, 91, .inl (fun _ => 0))) := by rw [eh_131, ac_up_n _ _ (Ne.symm t_89)]; exact f_128
  have f_138 : h_131 a10 = some (.inl (1, 91, .inl (fun _ => 0))) := by rw [eh_131, ac_up_n _ _ (Ne.symm t_115)]; exact f_129
  have f_139 : h_131 o = some (.inr (9, [.int 0, .ref a1, .int 0, .int 0, .int 0, .ref a5, .ref a6, .ref a7, .ref a8, .ref a9, .ref a10, .int 0, .null, .null, .int 0, .int 0, .null, .int 0, .int 0, .int 0, .int 0, .null, .null, .null, .null, .null, .null, .null, .int 0, .int 0, .int 0, .int 0, .int 0, .null, .int 0, .null, .null, .null, .null, .null, .null, .int 0, .null, .null])) := by rw [eh_131]; exact ac_up_s _ _ _
  have kp_140 : kp h h_131 [o] := by rw [eh_131]; exact kp_up kp_130 _ _ (by simp)
  refine aw_aload_n C dX9_init_63 rfl rfl (q := 64) rfl ?_
  refine aw_sipush (v := 320) C dX9_init_64 (by decide) (q := 67) rfl ?_
  refine ay_newI3 (N := 320) C dX9_init_67 (by decide) rfl (by decide) (Nat.le_trans (by omega) B.2.2.1) (Nat.le_trans (by omega) B.2.2.2) (q := 69) rfl (fun a12 hn_141 _ => ?_)
  show aw G 1 M 69 [.ref o] [.ref a12, .ref o] (ac_up h_131 a12 (.inl (1, 320, .inl (fun _ => 0)))) ((((((((0 + 1) + 1) + 1) + 1) + 1) + 1) + 1) + 1) ((((((((0 + 300) + 2800) + 2800) + 7) + 7) + 91) + 91) + 320)
  obtain ⟨h_142, eh_142⟩ : ∃ z9, z9 = ac_up h_131 a12 (.inl (1, 320, .inl (fun _ => 0))) := ⟨_, rfl⟩
  rw [← eh_142]
  have n_143 : h a12 = none := kp_none kp_140 hn_141 (ni1 (Ne.symm (nw_ne f_139 hn_141)) ni0)
  have t_144 : o ≠ a12 := nw_ne f_139 hn_141
  have f_145 : h_142 o = some (.inr (9, [.int 0, .ref a1, .int 0, .int 0, .int 0, .ref a5, .ref a6, .ref a7, .ref a8, .ref a9, .ref a10, .int 0, .null, .null, .int 0, .int 0, .null, .int 0, .int 0, .int 0, .int 0, .null, .null, .null, .null, .null, .null, .null, .int 0, .int 0, .int 0, .int 0, .int 0, .null, .int 0, .null, .null, .null, .null, .null, .null, .int 0, .null, .null])) := by rw [eh_142, ac_up_n _ _ t_144]; exact f_139
  have t_146 : a1 ≠ a12 := nw_ne f_132 hn_141
  have f_147 : h_142 a1 = some (.inl (1, 300, .inl (fun _ => 0))) := by rw [eh_142, ac_up_n _ _ t_146]; exact f_132
  have t_148 : a5 ≠ a12 := nw_ne f_133 hn_141
  have f_149 : h_142 a5 = some (.inl (1, 2800, .inl (fun _ => 0))) := by rw [eh_142, ac_up_n _ _ t_148]; exact f_133
  have t_150 : a6 ≠ a12 := nw_ne f_134 hn_141
  have f_151 : h_142 a6 = some (.inl (1, 2800, .inl (fun _ => 0))) := by rw [eh_142, ac_up_n _ _ t_150]; exact f_134
  have t_152 : a7 ≠ a12 := nw_ne f_135 hn_141
  have f_153 : h_142 a7 = some (.inl (1, 7, .inl (fun _ => 0))) := by rw [eh_142, ac_up_n _ _ t_152]; exact f_135
  have t_154 : a8 ≠ a12 := nw_ne f_136 hn_141
  have f_155 : h_142 a8 = some (.inl (1, 7, .inl (fun _ => 0))) := by rw [eh_142, ac_up_n _ _ t_154]; exact f_136
  have t_156 : a9 ≠ a12 := nw_ne f_137 hn_141
  have f_157 : h_142 a9 = some (.inl (1, 91, .inl (fun _ => 0))) := by rw [eh_142, ac_up_n _ _ t_156]; exact f_137
  have t_158 : a10 ≠ a12 := nw_ne f_138 hn_141
  have f_159 : h_142 a10 = some (.inl (1, 91, .inl (fun _ => 0))) := by rw [eh_142, ac_up_n _ _ t_158]; exact f_138
  have f_160 : h_142 a12 = some (.inl (1, 320, .inl (fun _ => 0))) := by rw [eh_142]; exact ac_up_s _ _ _
  have kp_161 : kp h h_142 [o] := by rw [eh_142]; exact kp_new n_143 kp_140
  refine pfX9_31_9 C hnm dX9_init_69 f_145 rfl rfl (Nat.le_of_ble_eq_true rfl) (q := 72) rfl ?_
  show aw G 1 M 72 [.ref o] [] (ac_up h_142 o (.inr (9, [.int 0, .ref a1, .int 0, .int 0, .int 0, .ref a5, .ref a6, .ref a7, .ref a8, .ref a9, .ref a10, .int 0, .ref a12, .null, .int 0, .int 0, .null, .int 0, .int 0, .int 0, .int 0, .null, .null, .null, .null, .null, .null, .null, .int 0, .int 0, .int 0, .int 0, .int 0, .null, .int 0, .null, .null, .null, .null, .null, .null, .int 0, .null, .null]))) ((((((((0 + 1) + 1) + 1) + 1) + 1) + 1) + 1) + 1) ((((((((0 + 300) + 2800) + 2800) + 7) + 7) + 91) + 91) + 320)
  obtain ⟨h_162, eh_162⟩ : ∃ z9, z9 = ac_up h_142 o (.inr (9, [.int 0, .ref a1, .int 0, .int 0, .int 0, .ref a5, .ref a6, .ref a7, .ref a8, .ref a9, .ref a10, .int 0, .ref a12, .null, .int 0, .int 0, .null, .int 0, .int 0, .int 0, .int 0, .null, .null, .null, .null, .null, .null, .null, .int 0, .int 0, .int 0, .int 0, .int 0, .null, .int 0, .null, .null, .null, .null, .null, .null, .int 0, .null, .null])) := ⟨_, rfl⟩
  rw [← eh_162]
  have f_163 : h_162 a1 = some (.inl (1, 300, .inl (fun _ => 0))) := by rw [eh_162, ac_up_n _ _ (Ne.symm t_4)]; exact f_147
  have f_164 : h_162 a5 = some (.inl (1, 2800, .inl (fun _ => 0))) := by rw [eh_162, ac_up_n _ _ (Ne.symm t_15)]; exact f_149
  have f_165 : h_162 a6 = some (.inl (1, 2800, .inl (fun _ => 0))) := by rw [eh_162, ac_up_n _ _ (Ne.symm t_29)]; exact f_151
  have f_166 : h_162 a7 = some (.inl (1, 7, .inl (fun _ => 0))) := by rw [eh_162, ac_up_n _ _ (Ne.symm t_46)]; exact f_153
  have f_167 : h_162 a8 = some (.inl (1, 7, .inl (fun _ => 0))) := by rw [eh_162, ac_up_n _ _ (Ne.symm t_66)]; exact f_155
  have f_168 : h_162 a9 = some (.inl (1, 91, .inl (fun _ => 0))) := by rw [eh_162, ac_up_n _ _ (Ne.symm t_89)]; exact f_157
  have f_169 : h_162 a10 = some (.inl (1, 91, .inl (fun _ => 0))) := by rw [eh_162, ac_up_n _ _ (Ne.symm t_115)]; exact f_159
  have f_170 : h_162 a12 = some (.inl (1, 320, .inl (fun _ => 0))) := by rw [eh_162, ac_up_n _ _ (Ne.symm t_144)]; exact f_160
  have f_171 : h_162 o = some (.inr (9, [.int 0, .ref a1, .int 0, .int 0, .int 0, .ref a5, .ref a6, .ref a7, .ref a8, .ref a9, .ref a10, .int 0, .ref a12, .null, .int 0, .int 0, .null, .int 0, .int 0, .int 0, .int 0, .null, .null, .null, .null, .null, .null, .null, .int 0, .int 0, .int 0, .int 0, .int 0, .null, .int 0, .null, .null, .null, .null, .null, .null, .int 0, .null, .null])) := by rw [eh_162]; exact ac_up_s _ _ _
  have kp_172 : kp h h_162 [o] := by rw [eh_162]; exact kp_up kp_161 _ _ (by simp)
  refine aw_aload_n C dX9_init_72 rfl rfl (q := 73) rfl ?_
  refine aw_sipush (v := 320) C dX9_init_73 (by decide) (q := 76) rfl ?_
  refine ay_newI3 (N := 320) C dX9_init_76 (by decide) rfl (by decide) (Nat.le_trans (by omega) B.2.2.1) (Nat.le_trans (by omega) B.2.2.2) (q := 78) rfl (fun a13 hn_173 _ => ?_)
  show aw G 1 M 78 [.ref o] [.ref a13, .ref o] (ac_up h_162 a13 (.inl (1, 320, .inl (fun _ => 0)))) (((((((((0 + 1) + 1) + 1) + 1) + 1) + 1) + 1) + 1) + 1) (((((((((0 + 300) + 2800) + 2800) + 7) + 7) + 91) + 91) + 320) + 320)
  obtain ⟨h_174, eh_174⟩ : ∃ z9, z9 = ac_up h_162 a13 (.inl (1, 320, .inl (fun _ => 0))) := ⟨_, rfl⟩
  rw [← eh_174]
  have n_175 : h a13 = none := kp_none kp_172 hn_173 (ni1 (Ne.symm (nw_ne f_171 hn_173)) ni0)
  have t_176 : o ≠ a13 := nw_ne f_171 hn_173
  have f_177 : h_174 o = some (.inr (9, [.int 0, .ref a1, .int 0, .int 0, .int 0, .ref a5, .ref a6, .ref a7, .ref a8, .ref a9, .ref a10, .int 0, .ref a12, .null, .int 0, .int 0, .null, .int 0, .int 0, .int 0, .int 0, .null, .null, .null, .null, .null, .null, .null, .int 0, .int 0, .int 0, .int 0, .int 0, .null, .int 0, .null, .null, .null, .null, .null, .null, .int 0, .null, .null])) := by rw [eh_174, ac_up_n _ _ t_176]; exact f_171
  have t_178 : a1 ≠ a13 := nw_ne f_163 hn_173
  have f_179 : h_174 a1 = some (.inl (1, 300, .inl (fun _ => 0))) := by rw [eh_174, ac_up_n _ _ t_178]; exact f_163
  have t_180 : a5 ≠ a13 := nw_ne f_164 hn_173
  have f_181 : h_174 a5 = some (.inl (1, 2800, .inl (fun _ => 0))) := by rw [eh_174, ac_up_n _ _ t_180]; exact f_164
  have t_182 : a6 ≠ a13 := nw_ne f_165 hn_173
  have f_183 : h_174 a6 = some (.inl (1, 2800, .inl (fun _ => 0))) := by rw [eh_174, ac_up_n _ _ t_182]; exact f_165
  have t_184 : a7 ≠ a13 := nw_ne f_166 hn_173
  have f_185 : h_174 a7 = some (.inl (1, 7, .inl (fun _ => 0))) := by rw [eh_174, ac_up_n _ _ t_184]; exact f_166
  have t_186 : a8 ≠ a13 := nw_ne f_167 hn_173
  have f_187 : h_174 a8 = some (.inl (1, 7, .inl (fun _ => 0))) := by rw [eh_174, ac_up_n _ _ t_186]; exact f_167
  have t_188 : a9 ≠ a13 := nw_ne f_168 hn_173
  have f_189 : h_174 a9 = some (.inl (1, 91, .inl (fun _ => 0))) := by rw [eh_174, ac_up_n _ _ t_188]; exact f_168
  have t_190 : a10 ≠ a13 := nw_ne f_169 hn_173
  have f_191 : h_174 a10 = some (.inl (1, 91, .inl (fun _ => 0))) := by rw [eh_174, ac_up_n _ _ t_190]; exact f_169
  have t_192 : a12 ≠ a13 := nw_ne f_170 hn_173
  have f_193 : h_174 a12 = some (.inl (1, 320, .inl (fun _ => 0))) := by rw [eh_174, ac_up_n _ _ t_192]; exact f_170
  have f_194 : h_174 a13 = some (.inl (1, 320, .inl (fun _ => 0))) := by rw [eh_174]; exact ac_up_s _ _ _
  have kp_195 : kp h h_174 [o] := by rw [eh_174]; exact kp_new n_175 kp_172
  refine pfX9_34_9 C hnm dX9_init_78 f_177 rfl rfl (Nat.le_of_ble_eq_true rfl) (q := 81) rfl ?_
  show aw G 1 M 81 [.ref o] [] (ac_up h_174 o (.inr (9, [.int 0, .ref a1, .int 0, .int 0, .int 0, .ref a5, .ref a6, .ref a7, .ref a8, .ref a9, .ref a10, .int 0, .ref a12, .ref a13, .int 0, .int 0, .null, .int 0, .int 0, .int 0, .int 0, .null, .null, .null, .null, .null, .null, .null, .int 0, .int 0, .int 0, .int 0, .int 0, .null, .int 0, .null, .null, .null, .null, .null, .null, .int 0, .null, .null]))) (((((((((0 + 1) + 1) + 1) + 1) + 1) + 1) + 1) + 1) + 1) (((((((((0 + 300) + 2800) + 2800) + 7) + 7) + 91) + 91) + 320) + 320)
  obtain ⟨h_196, eh_196⟩ : ∃ z9, z9 = ac_up h_174 o (.inr (9, [.int 0, .ref a1, .int 0, .int 0, .int 0, .ref a5, .ref a6, .ref a7, .ref a8, .ref a9, .ref a10, .int 0, .ref a12, .ref a13, .int 0, .int 0, .null, .int 0, .int 0, .int 0, .int 0, .null, .null, .null, .null, .null, .null, .null, .int 0, .int 0, .int 0, .int 0, .int 0, .null, .int 0, .null, .null, .null, .null, .null, .null, .int 0, .null, .null])) := ⟨_, rfl⟩
  rw [← eh_196]
  have f_197 : h_196 a1 = some (.inl (1, 300, .inl (fun _ => 0))) := by rw [eh_196, ac_up_n _ _ (Ne.symm t_4)]; exact f_179
  have f_198 : h_196 a5 = some (.inl (1, 2800, .inl (fun _ => 0))) := by rw [eh_196, ac_up_n _ _ (Ne.symm t_15)]; exact f_181
  have f_199 : h_196 a6 = some (.inl (1, 2800, .inl (fun _ => 0))) := by rw [eh_196, ac_up_n _ _ (Ne.symm t_29)]; exact f_183
  have f_200 : h_196 a7 = some (.inl (1, 7, .inl (fun _ => 0))) := by rw [eh_196, ac_up_n _ _ (Ne.symm t_46)]; exact f_185
  have f_201 : h_196 a8 = some (.inl (1, 7, .inl (fun _ => 0))) := by rw [eh_196, ac_up_n _ _ (Ne.symm t_66)]; exact f_187
  have f_202 : h_196 a9 = some (.inl (1, 91, .inl (fun _ => 0))) := by rw [eh_196, ac_up_n _ _ (Ne.symm t_89)]; exact f_189
  have f_203 : h_196 a10 = some (.inl (1, 91, .inl (fun _ => 0))) := by rw [eh_196, ac_up_n _ _ (Ne.symm t_115)]; exact f_191
  have f_204 : h_196 a12 = some (.inl (1, 320, .inl (fun _ => 0))) := by rw [eh_196, ac_up_n _ _ (Ne.symm t_144)]; exact f_193
  have f_205 : h_196 a13 = some (.inl (1, 320, .inl (fun _ => 0))) := by rw [eh_196, ac_up_n _ _ (Ne.symm t_176)]; exact f_194
  have f_206 : h_196 o = some (.inr (9, [.int 0, .ref a1, .int 0, .int 0, .int 0, .ref a5, .ref a6, .ref a7, .ref a8, .ref a9, .ref a10, .int 0, .ref a12, .ref a13, .int 0, .int 0, .null, .int 0, .int 0, .int 0, .int 0, .null, .null, .null, .null, .null, .null, .null, .int 0, .int 0, .int 0, .int 0, .int 0, .null, .int 0, .null, .null, .null, .null, .null, .null, .int 0, .null, .null])) := by rw [eh_196]; exact ac_up_s _ _ _
  have kp_207 : kp h h_196 [o] := by rw [eh_196]; exact kp_up kp_195 _ _ (by simp)
  refine aw_aload_n C dX9_init_81 rfl rfl (q := 82) rfl ?_
  refine aw_iconst (v := 4) C dX9_init_82 (by decide) (q := 83) rfl ?_
  refine ay_newL (N := 4) C dX9_init_83 (by decide) rfl (by decide) (Nat.le_trans (by omega) B.2.2.1) (Nat.le_trans (by omega) B.2.2.2) (q := 85) rfl (fun a16 hn_208 _ => ?_)
  show aw G 1 M 85 [.ref o] [.ref a16, .ref o] (ac_up h_196 a16 (.inl (2, 4, .inr (.inl (fun _ => 0))))) ((((((((((0 + 1) + 1) + 1) + 1) + 1) + 1) + 1) + 1) + 1) + 1) ((((((((((0 + 300) + 2800) + 2800) + 7) + 7) + 91) + 91) + 320) + 320) + 4)
  obtain ⟨h_209, eh_209⟩ : ∃ z9, z9 = ac_up h_196 a16 (.inl (2, 4, .inr (.inl (fun _ => 0)))) := ⟨_, rfl⟩
  rw [← eh_209]
  have n_210 : h a16 = none := kp_none kp_207 hn_208 (ni1 (Ne.symm (nw_ne f_206 hn_208)) ni0)
  have t_211 : o ≠ a16 := nw_ne f_206 hn_208
  have f_212 : h_209 o = some (.inr (9, [.int 0, .ref a1, .int 0, .int 0, .int 0, .ref a5, .ref a6, .ref a7, .ref a8, .ref a9, .ref a10, .int 0, .ref a12, .ref a13, .int 0, .int 0, .null, .int 0, .int 0, .int 0, .int 0, .null, .null, .null, .null, .null, .null, .null, .int 0, .int 0, .int 0, .int 0, .int 0, .null, .int 0, .null, .null, .null, .null, .null, .null, .int 0, .null, .null])) := by rw [eh_209, ac_up_n _ _ t_211]; exact f_206
  have t_213 : a1 ≠ a16 := nw_ne f_197 hn_208
  have f_214 : h_209 a1 = some (.inl (1, 300, .inl (fun _ => 0))) := by rw [eh_209, ac_up_n _ _ t_213]; exact f_197
  have t_215 : a5 ≠ a16 := nw_ne f_198 hn_208
  have f_216 : h_209 a5 = some (.inl (1, 2800, .inl (fun _ => 0))) := by rw [eh_209, ac_up_n _ _ t_215]; exact f_198
  have t_217 : a6 ≠ a16 := nw_ne f_199 hn_208
  have f_218 : h_209 a6 = some (.inl (1, 2800, .inl (fun _ => 0))) := by rw [eh_209, ac_up_n _ _ t_217]; exact f_199
  have t_219 : a7 ≠ a16 := nw_ne f_200 hn_208
  have f_220 : h_209 a7 = some (.inl (1, 7, .inl (fun _ => 0))) := by rw [eh_209, ac_up_n _ _ t_219]; exact f_200
  have t_221 : a8 ≠ a16 := nw_ne f_201 hn_208
  have f_222 : h_209 a8 = some (.inl (1, 7, .inl (fun _ => 0))) := by rw [eh_209, ac_up_n _ _ t_221]; exact f_201
  have t_223 : a9 ≠ a16 := nw_ne f_202 hn_208
  have f_224 : h_209 a9 = some (.inl (1, 91, .inl (fun _ => 0))) := by rw [eh_209, ac_up_n _ _ t_223]; exact f_202
  have t_225 : a10 ≠ a16 := nw_ne f_203 hn_208
  have f_226 : h_209 a10 = some (.inl (1, 91, .inl (fun _ => 0))) := by rw [eh_209, ac_up_n _ _ t_225]; exact f_203
  have t_227 : a12 ≠ a16 := nw_ne f_204 hn_208
  have f_228 : h_209 a12 = some (.inl (1, 320, .inl (fun _ => 0))) := by rw [eh_209, ac_up_n _ _ t_227]; exact f_204
  have t_229 : a13 ≠ a16 := nw_ne f_205 hn_208
  have f_230 : h_209 a13 = some (.inl (1, 320, .inl (fun _ => 0))) := by rw [eh_209, ac_up_n _ _ t_229]; exact f_205
  have f_231 : h_209 a16 = some (.inl (2, 4, .inr (.inl (fun _ => 0)))) := by rw [eh_209]; exact ac_up_s _ _ _
  have kp_232 : kp h h_209 [o] := by rw [eh_209]; exact kp_new n_210 kp_207
  refine pfX9_37_9 C hnm dX9_init_85 f_212 rfl rfl (Nat.le_of_ble_eq_true rfl) (q := 88) rfl ?_
  show aw G 1 M 88 [.ref o] [] (ac_up h_209 o (.inr (9, [.int 0, .ref a1, .int 0, .int 0, .int 0, .ref a5, .ref a6, .ref a7, .ref a8, .ref a9, .ref a10, .int 0, .ref a12, .ref a13, .int 0, .int 0, .ref a16, .int 0, .int 0, .int 0, .int 0, .null, .null, .null, .null, .null, .null, .null, .int 0, .int 0, .int 0, .int 0, .int 0, .null, .int 0, .null, .null, .null, .null, .null, .null, .int 0, .null, .null]))) ((((((((((0 + 1) + 1) + 1) + 1) + 1) + 1) + 1) + 1) + 1) + 1) ((((((((((0 + 300) + 2800) + 2800) + 7) + 7) + 91) + 91) + 320) + 320) + 4)
  obtain ⟨h_233, eh_233⟩ : ∃ z9, z9 = ac_up h_209 o (.inr (9, [.int 0, .ref a1, .int 0, .int 0, .int 0, .ref a5, .ref a6, .ref a7, .ref a8, .ref a9, .ref a10, .int 0, .ref a12, .ref a13, .int 0, .int 0, .ref a16, .int 0, .int 0, .int 0, .int 0, .null, .null, .null, .null, .null, .null, .null, .int 0, .int 0, .int 0, .int 0, .int 0, .null, .int 0, .null, .null, .null, .null, .null, .null, .int 0, .null, .null])) := ⟨_, rfl⟩
  rw [← eh_233]
  have f_234 : h_233 a1 = some (.inl (1, 300, .inl (fun _ => 0))) := by rw [eh_233, ac_up_n _ _ (Ne.symm t_4)]; exact f_214
  have f_235 : h_233 a5 = some (.inl (1, 2800, .inl (fun _ => 0))) := by rw [eh_233, ac_up_n _ _ (Ne.symm t_15)]; exact f_216
  have f_236 : h_233 a6 = some (.inl (1, 2800, .inl (fun _ => 0))) := by rw [eh_233, ac_up_n _ _ (Ne.symm t_29)]; exact f_218
  have f_237 : h_233 a7 = some (.inl (1, 7, .inl (fun _ => 0))) := by rw [eh_233, ac_up_n _ _ (Ne.symm t_46)]; exact f_220
  have f_238 : h_233 a8 = some (.inl (1, 7, .inl (fun _ => 0))) := by rw [eh_233, ac_up_n _ _ (Ne.symm t_66)]; exact f_222
  have f_239 : h_233 a9 = some (.inl (1, 91, .inl (fun _ => 0))) := by rw [eh_233, ac_up_n _ _ (Ne.symm t_89)]; exact f_224
  have f_240 : h_233 a10 = some (.inl (1, 91, .inl (fun _ => 0))) := by rw [eh_233, ac_up_n _ _ (Ne.symm t_115)]; exact f_226
  have f_241 : h_233 a12 = some (.inl (1, 320, .inl (fun _ => 0))) := by rw [eh_233, ac_up_n _ _ (Ne.symm t_144)]; exact f_228
  have f_242 : h_233 a13 = some (.inl (1, 320, .inl (fun _ => 0))) := by rw [eh_233, ac_up_n _ _ (Ne.symm t_176)]; exact f_230
  have f_243 : h_233 a16 = some (.inl (2, 4, .inr (.inl (fun _ => 0)))) := by rw [eh_233, ac_up_n _ _ (Ne.symm t_211)]; exact f_231
  have f_244 : h_233 o = some (.inr (9, [.int 0, .ref a1, .int 0, .int 0, .int 0, .ref a5, .ref a6, .ref a7, .ref a8, .ref a9, .ref a10, .int 0, .ref a12, .ref a13, .int 0, .int 0, .ref a16, .int 0, .int 0, .int 0, .int 0, .null, .null, .null, .null, .null, .null, .null, .int 0, .int 0, .int 0, .int 0, .int 0, .null, .int 0, .null, .null, .null, .null, .null, .null, .int 0, .null, .null])) := by rw [eh_233]; exact ac_up_s _ _ _
  have kp_245 : kp h h_233 [o] := by rw [eh_233]; exact kp_up kp_232 _ _ (by simp)
  refine aw_aload_n C dX9_init_88 rfl rfl (q := 89) rfl ?_
  refine aw_bipush (v := 10) C dX9_init_89 (by decide) (q := 91) rfl ?_
  refine ay_newI3 (N := 10) C dX9_init_91 (by decide) rfl (by decide) (Nat.le_trans (by omega) B.2.2.1) (Nat.le_trans (by omega) B.2.2.2) (q := 93) rfl (fun a21 hn_246 _ => ?_)
  show aw G 1 M 93 [.ref o] [.ref a21, .ref o] (ac_up h_233 a21 (.inl (1, 10, .inl (fun _ => 0)))) (((((((((((0 + 1) + 1) + 1) + 1) + 1) + 1) + 1) + 1) + 1) + 1) + 1) (((((((((((0 + 300) + 2800) + 2800) + 7) + 7) + 91) + 91) + 320) + 320) + 4) + 10)
  obtain ⟨h_247, eh_247⟩ : ∃ z9, z9 = ac_up h_233 a21 (.inl (1, 10, .inl (fun _ => 0))) := ⟨_, rfl⟩
  rw [← eh_247]
  have n_248 : h a21 = none := kp_none kp_245 hn_246 (ni1 (Ne.symm (nw_ne f_244 hn_246)) ni0)
  have t_249 : o ≠ a21 := nw_ne f_244 hn_246
  have f_250 : h_247 o = some (.inr (9, [.int 0, .ref a1, .int 0, .int 0, .int 0, .ref a5, .ref a6, .ref a7, .ref a8, .ref a9, .ref a10, .int 0, .ref a12, .ref a13, .int 0, .int 0, .ref a16, .int 0, .int 0, .int 0, .int 0, .null, .null, .null, .null, .null, .null, .null, .int 0, .int 0, .int 0, .int 0, .int 0, .null, .int 0, .null, .null, .null, .null, .null, .null, .int 0, .null, .null])) := by rw [eh_247, ac_up_n _ _ t_249]; exact f_244
  have t_251 : a1 ≠ a21 := nw_ne f_234 hn_246
  have f_252 : h_247 a1 = some (.inl (1, 300, .inl (fun _ => 0))) := by rw [eh_247, ac_up_n _ _ t_251]; exact f_234
  have t_253 : a5 ≠ a21 := nw_ne f_235 hn_246
  have f_254 : h_247 a5 = some (.inl (1, 2800, .inl (fun _ => 0))) := by rw [eh_247, ac_up_n _ _ t_253]; exact f_235
  have t_255 : a6 ≠ a21 := nw_ne f_236 hn_246
  have f_256 : h_247 a6 = some (.inl (1, 2800, .inl (fun _ => 0))) := by rw [eh_247, ac_up_n _ _ t_255]; exact f_236
  have t_257 : a7 ≠ a21 := nw_ne f_237 hn_246
  have f_258 : h_247 a7 = some (.inl (1, 7, .inl (fun _ => 0))) := by rw [eh_247, ac_up_n _ _ t_257]; exact f_237
  have t_259 : a8 ≠ a21 := nw_ne f_238 hn_246
  have f_260 : h_247 a8 = some (.inl (1, 7, .inl (fun _ => 0))) := by rw [eh_247, ac_up_n _ _ t_259]; exact f_238
  have t_261 : a9 ≠ a21 := nw_ne f_239 hn_246
  have f_262 : h_247 a9 = some (.inl (1, 91, .inl (fun _ => 0))) := by rw [eh_247, ac_up_n _ _ t_261]; exact f_239
  have t_263 : a10 ≠ a21 := nw_ne f_240 hn_246
  have f_264 : h_247 a10 = some (.inl (1, 91, .inl (fun _ => 0))) := by rw [eh_247, ac_up_n _ _ t_263]; exact f_240
  have t_265 : a12 ≠ a21 := nw_ne f_241 hn_246
  have f_266 : h_247 a12 = some (.inl (1, 320, .inl (fun _ => 0))) := by rw [eh_247, ac_up_n _ _ t_265]; exact f_241
  have t_267 : a13 ≠ a21 := nw_ne f_242 hn_246
  have f_268 : h_247 a13 = some (.inl (1, 320, .inl (fun _ => 0))) := by rw [eh_247, ac_up_n _ _ t_267]; exact f_242
  have t_269 : a16 ≠ a21 := nw_ne f_243 hn_246
  have f_270 : h_247 a16 = some (.inl (2, 4, .inr (.inl (fun _ => 0)))) := by rw [eh_247, ac_up_n _ _ t_269]; exact f_243
  have f_271 : h_247 a21 = some (.inl (1, 10, .inl (fun _ => 0))) := by rw [eh_247]; exact ac_up_s _ _ _
  have kp_272 : kp h h_247 [o] := by rw [eh_247]; exact kp_new n_248 kp_245
  refine pfX9_41_9 C hnm dX9_init_93 f_250 rfl rfl (Nat.le_of_ble_eq_true rfl) (q := 96) rfl ?_
  show aw G 1 M 96 [.ref o] [] (ac_up h_247 o (.inr (9, [.int 0, .ref a1, .int 0, .int 0, .int 0, .ref a5, .ref a6, .ref a7, .ref a8, .ref a9, .ref a10, .int 0, .ref a12, .ref a13, .int 0, .int 0, .ref a16, .int 0, .int 0, .int 0, .int 0, .ref a21, .null, .null, .null, .null, .null, .null, .int 0, .int 0, .int 0, .int 0, .int 0, .null, .int 0, .null, .null, .null, .null, .null, .null, .int 0, .null, .null]))) (((((((((((0 + 1) + 1) + 1) + 1) + 1) + 1) + 1) + 1) + 1) + 1) + 1) (((((((((((0 + 300) + 2800) + 2800) + 7) + 7) + 91) + 91) + 320) + 320) + 4) + 10)
  obtain ⟨h_273, eh_273⟩ : ∃ z9, z9 = ac_up h_247 o (.inr (9, [.int 0, .ref a1, .int 0, .int 0, .int 0, .ref a5, .ref a6, .ref a7, .ref a8, .ref a9, .ref a10, .int 0, .ref a12, .ref a13, .int 0, .int 0, .ref a16, .int 0, .int 0, .int 0, .int 0, .ref a21, .null, .null, .null, .null, .null, .null, .int 0, .int 0, .int 0, .int 0, .int 0, .null, .int 0, .null, .null, .null, .null, .null, .null, .int 0, .null, .null])) := ⟨_, rfl⟩
  rw [← eh_273]
  have f_274 : h_273 a1 = some (.inl (1, 300, .inl (fun _ => 0))) := by rw [eh_273, ac_up_n _ _ (Ne.symm t_4)]; exact f_252
  have f_275 : h_273 a5 = some (.inl (1, 2800, .inl (fun _ => 0))) := by rw [eh_273, ac_up_n _ _ (Ne.symm t_15)]; exact f_254
  have f_276 : h_273 a6 = some (.inl (1, 2800, .inl (fun _ => 0))) := by rw [eh_273, ac_up_n _ _ (Ne.symm t_29)]; exact f_256
  have f_277 : h_273 a7 = some (.inl (1, 7, .inl (fun _ => 0))) := by rw [eh_273, ac_up_n _ _ (Ne.symm t_46)]; exact f_258
  have f_278 : h_273 a8 = some (.inl (1, 7, .inl (fun _ => 0))) := by rw [eh_273, ac_up_n _ _ (Ne.symm t_66)]; exact f_260
  have f_279 : h_273 a9 = some (.inl (1, 91, .inl (fun _ => 0))) := by rw [eh_273, ac_up_n _ _ (Ne.symm t_89)]; exact f_262
  have f_280 : h_273 a10 = some (.inl (1, 91, .inl (fun _ => 0))) := by rw [eh_273, ac_up_n _ _ (Ne.symm t_115)]; exact f_264
  have f_281 : h_273 a12 = some (.inl (1, 320, .inl (fun _ => 0))) := by rw [eh_273, ac_up_n _ _ (Ne.symm t_144)]; exact f_266
  have f_282 : h_273 a13 = some (.inl (1, 320, .inl (fun _ => 0))) := by rw [eh_273, ac_up_n _ _ (Ne.symm t_176)]; exact f_268
  have f_283 : h_273 a16 = some (.inl (2, 4, .inr (.inl (fun _ => 0)))) := by rw [eh_273, ac_up_n _ _ (Ne.symm t_211)]; exact f_270
  have f_284 : h_273 a21 = some (.inl (1, 10, .inl (fun _ => 0))) := by rw [eh_273, ac_up_n _ _ (Ne.symm t_249)]; exact f_271
  have f_285 : h_273 o = some (.inr (9, [.int 0, .ref a1, .int 0, .int 0, .int 0, .ref a5, .ref a6, .ref a7, .ref a8, .ref a9, .ref a10, .int 0, .ref a12, .ref a13, .int 0, .int 0, .ref a16, .int 0, .int 0, .int 0, .int 0, .ref a21, .null, .null, .null, .null, .null, .null, .int 0, .int 0, .int 0, .int 0, .int 0, .null, .int 0, .null, .null, .null, .null, .null, .null, .int 0, .null, .null])) := by rw [eh_273]; exact ac_up_s _ _ _
  have kp_286 : kp h h_273 [o] := by rw [eh_273]; exact kp_up kp_272 _ _ (by simp)
  refine aw_aload_n C dX9_init_96 rfl rfl (q := 97) rfl ?_
  refine aw_bipush (v := 10) C dX9_init_97 (by decide) (q := 99) rfl ?_
  refine ay_newI3 (N := 10) C dX9_init_99 (by decide) rfl (by decide) (Nat.le_trans (by omega) B.2.2.1) (Nat.le_trans (by omega) B.2.2.2) (q := 101) rfl (fun a22 hn_287 _ => ?_)
  show aw G 1 M 101 [.ref o] [.ref a22, .ref o] (ac_up h_273 a22 (.inl (1, 10, .inl (fun _ => 0)))) ((((((((((((0 + 1) + 1) + 1) + 1) + 1) + 1) + 1) + 1) + 1) + 1) + 1) + 1) ((((((((((((0 + 300) + 2800) + 2800) + 7) + 7) + 91) + 91) + 320) + 320) + 4) + 10) + 10)
  obtain ⟨h_288, eh_288⟩ : ∃ z9, z9 = ac_up h_273 a22 (.inl (1, 10, .inl (fun _ => 0))) := ⟨_, rfl⟩
  rw [← eh_288]
  have n_289 : h a22 = none := kp_none kp_286 hn_287 (ni1 (Ne.symm (nw_ne f_285 hn_287)) ni0)
  have t_290 : o ≠ a22 := nw_ne f_285 hn_287
  have f_291 : h_288 o = some (.inr (9, [.int 0, .ref a1, .int 0, .int 0, .int 0, .ref a5, .ref a6, .ref a7, .ref a8, .ref a9, .ref a10, .int 0, .ref a12, .ref a13, .int 0, .int 0, .ref a16, .int 0, .int 0, .int 0, .int 0, .ref a21, .null, .null, .null, .null, .null, .null, .int 0, .int 0, .int 0, .int 0, .int 0, .null, .int 0, .null, .null, .null, .null, .null, .null, .int 0, .null, .null])) := by rw [eh_288, ac_up_n _ _ t_290]; exact f_285
  have t_292 : a1 ≠ a22 := nw_ne f_274 hn_287
  have f_293 : h_288 a1 = some (.inl (1, 300, .inl (fun _ => 0))) := by rw [eh_288, ac_up_n _ _ t_292]; exact f_274
  have t_294 : a5 ≠ a22 := nw_ne f_275 hn_287
  have f_295 : h_288 a5 = some (.inl (1, 2800, .inl (fun _ => 0))) := by rw [eh_288, ac_up_n _ _ t_294]; exact f_275
  have t_296 : a6 ≠ a22 := nw_ne f_276 hn_287
  have f_297 : h_288 a6 = some (.inl (1, 2800, .inl (fun _ => 0))) := by rw [eh_288, ac_up_n _ _ t_296]; exact f_276
  have t_298 : a7 ≠ a22 := nw_ne f_277 hn_287
  have f_299 : h_288 a7 = some (.inl (1, 7, .inl (fun _ => 0))) := by rw [eh_288, ac_up_n _ _ t_298]; exact f_277
  have t_300 : a8 ≠ a22 := nw_ne f_278 hn_287
  have f_301 : h_288 a8 = some (.inl (1, 7, .inl (fun _ => 0))) := by rw [eh_288, ac_up_n _ _ t_300]; exact f_278
  have t_302 : a9 ≠ a22 := nw_ne f_279 hn_287
  have f_303 : h_288 a9 = some (.inl (1, 91, .inl (fun _ => 0))) := by rw [eh_288, ac_up_n _ _ t_302]; exact f_279
  have t_304 : a10 ≠ a22 := nw_ne f_280 hn_287
  have f_305 : h_288 a10 = some (.inl (1, 91, .inl (fun _ => 0))) := by rw [eh_288, ac_up_n _ _ t_304]; exact f_280
  have t_306 : a12 ≠ a22 := nw_ne f_281 hn_287
  have f_307 : h_288 a12 = some (.inl (1, 320, .inl (fun _ => 0))) := by rw [eh_288, ac_up_n _ _ t_306]; exact f_281
  have t_308 : a13 ≠ a22 := nw_ne f_282 hn_287
  have f_309 : h_288 a13 = some (.inl (1, 320, .inl (fun _ => 0))) := by rw [eh_288, ac_up_n _ _ t_308]; exact f_282
  have t_310 : a16 ≠ a22 := nw_ne f_283 hn_287
  have f_311 : h_288 a16 = some (.inl (2, 4, .inr (.inl (fun _ => 0)))) := by rw [eh_288, ac_up_n _ _ t_310]; exact f_283
  have t_312 : a21 ≠ a22 := nw_ne f_284 hn_287
  have f_313 : h_288 a21 = some (.inl (1, 10, .inl (fun _ => 0))) := by rw [eh_288, ac_up_n _ _ t_312]; exact f_284
  have f_314 : h_288 a22 = some (.inl (1, 10, .inl (fun _ => 0))) := by rw [eh_288]; exact ac_up_s _ _ _
  have kp_315 : kp h h_288 [o] := by rw [eh_288]; exact kp_new n_289 kp_286
  refine pfX9_44_9 C hnm dX9_init_101 f_291 rfl rfl (Nat.le_of_ble_eq_true rfl) (q := 104) rfl ?_
  show aw G 1 M 104 [.ref o] [] (ac_up h_288 o (.inr (9, [.int 0, .ref a1, .int 0, .int 0, .int 0, .ref a5, .ref a6, .ref a7, .ref a8, .ref a9, .ref a10, .int 0, .ref a12, .ref a13, .int 0, .int 0, .ref a16, .int 0, .int 0, .int 0, .int 0, .ref a21, .ref a22, .null, .null, .null, .null, .null, .int 0, .int 0, .int 0, .int 0, .int 0, .null, .int 0, .null, .null, .null, .null, .null, .null, .int 0, .null, .null]))) ((((((((((((0 + 1) + 1) + 1) + 1) + 1) + 1) + 1) + 1) + 1) + 1) + 1) + 1) ((((((((((((0 + 300) + 2800) + 2800) + 7) + 7) + 91) + 91) + 320) + 320) + 4) + 10) + 10)
  obtain ⟨h_316, eh_316⟩ : ∃ z9, z9 = ac_up h_288 o (.inr (9, [.int 0, .ref a1, .int 0, .int 0, .int 0, .ref a5, .ref a6, .ref a7, .ref a8, .ref a9, .ref a10, .int 0, .ref a12, .ref a13, .int 0, .int 0, .ref a16, .int 0, .int 0, .int 0, .int 0, .ref a21, .ref a22, .null, .null, .null, .null, .null, .int 0, .int 0, .int 0, .int 0, .int 0, .null, .int 0, .null, .null, .null, .null, .null, .null, .int 0, .null, .null])) := ⟨_, rfl⟩
  rw [← eh_316]
  have f_317 : h_316 a1 = some (.inl (1, 300, .inl (fun _ => 0))) := by rw [eh_316, ac_up_n _ _ (Ne.symm t_4)]; exact f_293
  have f_318 : h_316 a5 = some (.inl (1, 2800, .inl (fun _ => 0))) := by rw [eh_316, ac_up_n _ _ (Ne.symm t_15)]; exact f_295
  have f_319 : h_316 a6 = some (.inl (1, 2800, .inl (fun _ => 0))) := by rw [eh_316, ac_up_n _ _ (Ne.symm t_29)]; exact f_297
  have f_320 : h_316 a7 = some (.inl (1, 7, .inl (fun _ => 0))) := by rw [eh_316, ac_up_n _ _ (Ne.symm t_46)]; exact f_299
  have f_321 : h_316 a8 = some (.inl (1, 7, .inl (fun _ => 0))) := by rw [eh_316, ac_up_n _ _ (Ne.symm t_66)]; exact f_301
  have f_322 : h_316 a9 = some (.inl (1, 91, .inl (fun _ => 0))) := by rw [eh_316, ac_up_n _ _ (Ne.symm t_89)]; exact f_303
  have f_323 : h_316 a10 = some (.inl (1, 91, .inl (fun _ => 0))) := by rw [eh_316, ac_up_n _ _ (Ne.symm t_115)]; exact f_305
  have f_324 : h_316 a12 = some (.inl (1, 320, .inl (fun _ => 0))) := by rw [eh_316, ac_up_n _ _ (Ne.symm t_144)]; exact f_307
  have f_325 : h_316 a13 = some (.inl (1, 320, .inl (fun _ => 0))) := by rw [eh_316, ac_up_n _ _ (Ne.symm t_176)]; exact f_309
  have f_326 : h_316 a16 = some (.inl (2, 4, .inr (.inl (fun _ => 0)))) := by rw [eh_316, ac_up_n _ _ (Ne.symm t_211)]; exact f_311
  have f_327 : h_316 a21 = some (.inl (1, 10, .inl (fun _ => 0))) := by rw [eh_316, ac_up_n _ _ (Ne.symm t_249)]; exact f_313
  have f_328 : h_316 a22 = some (.inl (1, 10, .inl (fun _ => 0))) := by rw [eh_316, ac_up_n _ _ (Ne.symm t_290)]; exact f_314
  have f_329 : h_316 o = some (.inr (9, [.int 0, .ref a1, .int 0, .int 0, .int 0, .ref a5, .ref a6, .ref a7, .ref a8, .ref a9, .ref a10, .int 0, .ref a12, .ref a13, .int 0, .int 0, .ref a16, .int 0, .int 0, .int 0, .int 0, .ref a21, .ref a22, .null, .null, .null, .null, .null, .int 0, .int 0, .int 0, .int 0, .int 0, .null, .int 0, .null, .null, .null, .null, .null, .null, .int 0, .null, .null])) := by rw [eh_316]; exact ac_up_s _ _ _
  have kp_330 : kp h h_316 [o] := by rw [eh_316]; exact kp_up kp_315 _ _ (by simp)
  refine aw_aload_n C dX9_init_104 rfl rfl (q := 105) rfl ?_
  refine aw_bipush (v := 10) C dX9_init_105 (by decide) (q := 107) rfl ?_
  refine ay_newI3 (N := 10) C dX9_init_107 (by decide) rfl (by decide) (Nat.le_trans (by omega) B.2.2.1) (Nat.le_trans (by omega) B.2.2.2) (q := 109) rfl (fun a23 hn_331 _ => ?_)
  show aw G 1 M 109 [.ref o] [.ref a23, .ref o] (ac_up h_316 a23 (.inl (1, 10, .inl (fun _ => 0)))) (((((((((((((0 + 1) + 1) + 1) + 1) + 1) + 1) + 1) + 1) + 1) + 1) + 1) + 1) + 1) (((((((((((((0 + 300) + 2800) + 2800) + 7) + 7) + 91) + 91) + 320) + 320) + 4) + 10) + 10) + 10)
  obtain ⟨h_332, eh_332⟩ : ∃ z9, z9 = ac_up h_316 a23 (.inl (1, 10, .inl (fun _ => 0))) := ⟨_, rfl⟩
  rw [← eh_332]
  have n_333 : h a23 = none := kp_none kp_330 hn_331 (ni1 (Ne.symm (nw_ne f_329 hn_331)) ni0)
  have t_334 : o ≠ a23 := nw_ne f_329 hn_331
  have f_335 : h_332 o = some (.inr (9, [.int 0, .ref a1, .int 0, .int 0, .int 0, .ref a5, .ref a6, .ref a7, .ref a8, .ref a9, .ref a10, .int 0, .ref a12, .ref a13, .int 0, .int 0, .ref a16, .int 0, .int 0, .int 0, .int 0, .ref a21, .ref a22, .null, .null, .null, .null, .null, .int 0, .int 0, .int 0, .int 0, .int 0, .null, .int 0, .null, .null, .null, .null, .null, .null, .int 0, .null, .null])) := by rw [eh_332, ac_up_n _ _ t_334]; exact f_329
  have t_336 : a1 ≠ a23 := nw_ne f_317 hn_331
  have f_337 : h_332 a1 = some (.inl (1, 300, .inl (fun _ => 0))) := by rw [eh_332, ac_up_n _ _ t_336]; exact f_317
  have t_338 : a5 ≠ a23 := nw_ne f_318 hn_331
  have f_339 : h_332 a5 = some (.inl (1, 2800, .inl (fun _ => 0))) := by rw [eh_332, ac_up_n _ _ t_338]; exact f_318
  have t_340 : a6 ≠ a23 := nw_ne f_319 hn_331
  have f_341 : h_332 a6 = some (.inl (1, 2800, .inl (fun _ => 0))) := by rw [eh_332, ac_up_n _ _ t_340]; exact f_319
  have t_342 : a7 ≠ a23 := nw_ne f_320 hn_331
  have f_343 : h_332 a7 = some (.inl (1, 7, .inl (fun _ => 0))) := by rw [eh_332, ac_up_n _ _ t_342]; exact f_320
  have t_344 : a8 ≠ a23 := nw_ne f_321 hn_331
  have f_345 : h_332 a8 = some (.inl (1, 7, .inl (fun _ => 0))) := by rw [eh_332, ac_up_n _ _ t_344]; exact f_321
  have t_346 : a9 ≠ a23 := nw_ne f_322 hn_331
  have f_347 : h_332 a9 = some (.inl (1, 91, .inl (fun _ => 0))) := by rw [eh_332, ac_up_n _ _ t_346]; exact f_322
  have t_348 : a10 ≠ a23 := nw_ne f_323 hn_331
  have f_349 : h_332 a10 = some (.inl (1, 91, .inl (fun _ => 0))) := by rw [eh_332, ac_up_n _ _ t_348]; exact f_323
  have t_350 : a12 ≠ a23 := nw_ne f_324 hn_331
  have f_351 : h_332 a12 = some (.inl (1, 320, .inl (fun _ => 0))) := by rw [eh_332, ac_up_n _ _ t_350]; exact f_324
  have t_352 : a13 ≠ a23 := nw_ne f_325 hn_331
  have f_353 : h_332 a13 = some (.inl (1, 320, .inl (fun _ => 0))) := by rw [eh_332, ac_up_n _ _ t_352]; exact f_325
  have t_354 : a16 ≠ a23 := nw_ne f_326 hn_331
  have f_355 : h_332 a16 = some (.inl (2, 4, .inr (.inl (fun _ => 0)))) := by rw [eh_332, ac_up_n _ _ t_354]; exact f_326
  have t_356 : a21 ≠ a23 := nw_ne f_327 hn_331
  have f_357 : h_332 a21 = some (.inl (1, 10, .inl (fun _ => 0))) := by rw [eh_332, ac_up_n _ _ t_356]; exact f_327
  have t_358 : a22 ≠ a23 := nw_ne f_328 hn_331
  have f_359 : h_332 a22 = some (.inl (1, 10, .inl (fun _ => 0))) := by rw [eh_332, ac_up_n _ _ t_358]; exact f_328
  have f_360 : h_332 a23 = some (.inl (1, 10, .inl (fun _ => 0))) := by rw [eh_332]; exact ac_up_s _ _ _
  have kp_361 : kp h h_332 [o] := by rw [eh_332]; exact kp_new n_333 kp_330
  refine pfX9_47_9 C hnm dX9_init_109 f_335 rfl rfl (Nat.le_of_ble_eq_true rfl) (q := 112) rfl ?_
  show aw G 1 M 112 [.ref o] [] (ac_up h_332 o (.inr (9, [.int 0, .ref a1, .int 0, .int 0, .int 0, .ref a5, .ref a6, .ref a7, .ref a8, .ref a9, .ref a10, .int 0, .ref a12, .ref a13, .int 0, .int 0, .ref a16, .int 0, .int 0, .int 0, .int 0, .ref a21, .ref a22, .ref a23, .null, .null, .null, .null, .int 0, .int 0, .int 0, .int 0, .int 0, .null, .int 0, .null, .null, .null, .null, .null, .null, .int 0, .null, .null]))) (((((((((((((0 + 1) + 1) + 1) + 1) + 1) + 1) + 1) + 1) + 1) + 1) + 1) + 1) + 1) (((((((((((((0 + 300) + 2800) + 2800) + 7) + 7) + 91) + 91) + 320) + 320) + 4) + 10) + 10) + 10)
  obtain ⟨h_362, eh_362⟩ : ∃ z9, z9 = ac_up h_332 o (.inr (9, [.int 0, .ref a1, .int 0, .int 0, .int 0, .ref a5, .ref a6, .ref a7, .ref a8, .ref a9, .ref a10, .int 0, .ref a12, .ref a13, .int 0, .int 0, .ref a16, .int 0, .int 0, .int 0, .int 0, .ref a21, .ref a22, .ref a23, .null, .null, .null, .null, .int 0, .int 0, .int 0, .int 0, .int 0, .null, .int 0, .null, .null, .null, .null, .null, .null, .int 0, .null, .null])) := ⟨_, rfl⟩
  rw [← eh_362]
  have f_363 : h_362 a1 = some (.inl (1, 300, .inl (fun _ => 0))) := by rw [eh_362, ac_up_n _ _ (Ne.symm t_4)]; exact f_337
  have f_364 : h_362 a5 = some (.inl (1, 2800, .inl (fun _ => 0))) := by rw [eh_362, ac_up_n _ _ (Ne.symm t_15)]; exact f_339
  have f_365 : h_362 a6 = some (.inl (1, 2800, .inl (fun _ => 0))) := by rw [eh_362, ac_up_n _ _ (Ne.symm t_29)]; exact f_341
  have f_366 : h_362 a7 = some (.inl (1, 7, .inl (fun _ => 0))) := by rw [eh_362, ac_up_n _ _ (Ne.symm t_46)]; exact f_343
  have f_367 : h_362 a8 = some (.inl (1, 7, .inl (fun _ => 0))) := by rw [eh_362, ac_up_n _ _ (Ne.symm t_66)]; exact f_345
  have f_368 : h_362 a9 = some (.inl (1, 91, .inl (fun _ => 0))) := by rw [eh_362, ac_up_n _ _ (Ne.symm t_89)]; exact f_347
  have f_369 : h_362 a10 = some (.inl (1, 91, .inl (fun _ => 0))) := by rw [eh_362, ac_up_n _ _ (Ne.symm t_115)]; exact f_349
  have f_370 : h_362 a12 = some (.inl (1, 320, .inl (fun _ => 0))) := by rw [eh_362, ac_up_n _ _ (Ne.symm t_144)]; exact f_351
  have f_371 : h_362 a13 = some (.inl (1, 320, .inl (fun _ => 0))) := by rw [eh_362, ac_up_n _ _ (Ne.symm t_176)]; exact f_353
  have f_372 : h_362 a16 = some (.inl (2, 4, .inr (.inl (fun _ => 0)))) := by rw [eh_362, ac_up_n _ _ (Ne.symm t_211)]; exact f_355
  have f_373 : h_362 a21 = some (.inl (1, 10, .inl (fun _ => 0))) := by rw [eh_362, ac_up_n _ _ (Ne.symm t_249)]; exact f_357
  have f_374 : h_362 a22 = some (.inl (1, 10, .inl (fun _ => 0))) := by rw [eh_362, ac_up_n _ _ (Ne.symm t_290)]; exact f_359
  have f_375 : h_362 a23 = some (.inl (1, 10, .inl (fun _ => 0))) := by rw [eh_362, ac_up_n _ _ (Ne.symm t_334)]; exact f_360
  have f_376 : h_362 o = some (.inr (9, [.int 0, .ref a1, .int 0, .int 0, .int 0, .ref a5, .ref a6, .ref a7, .ref a8, .ref a9, .ref a10, .int 0, .ref a12, .ref a13, .int 0, .int 0, .ref a16, .int 0, .int 0, .int 0, .int 0, .ref a21, .ref a22, .ref a23, .null, .null, .null, .null, .int 0, .int 0, .int 0, .int 0, .int 0, .null, .int 0, .null, .null, .null, .null, .null, .null, .int 0, .null, .null])) := by rw [eh_362]; exact ac_up_s _ _ _
  have kp_377 : kp h h_362 [o] := by rw [eh_362]; exact kp_up kp_361 _ _ (by simp)
  refine aw_aload_n C dX9_init_112 rfl rfl (q := 113) rfl ?_
  refine aw_bipush (v := 10) C dX9_init_113 (by decide) (q := 115) rfl ?_
  refine ay_newI3 (N := 10) C dX9_init_115 (by decide) rfl (by decide) (Nat.le_trans (by omega) B.2.2.1) (Nat.le_trans (by omega) B.2.2.2) (q := 117) rfl (fun a24 hn_378 _ => ?_)
  show aw G 1 M 117 [.ref o] [.ref a24, .ref o] (ac_up h_362 a24 (.inl (1, 10, .inl (fun _ => 0)))) ((((((((((((((0 + 1) + 1) + 1) + 1) + 1) + 1) + 1) + 1) + 1) + 1) + 1) + 1) + 1) + 1) ((((((((((((((0 + 300) + 2800) + 2800) + 7) + 7) + 91) + 91) + 320) + 320) + 4) + 10) + 10) + 10) + 10)
  obtain ⟨h_379, eh_379⟩ : ∃ z9, z9 = ac_up h_362 a24 (.inl (1, 10, .inl (fun _ => 0))) := ⟨_, rfl⟩
  rw [← eh_379]
  have n_380 : h a24 = none := kp_none kp_377 hn_378 (ni1 (Ne.symm (nw_ne f_376 hn_378)) ni0)
  have t_381 : o ≠ a24 := nw_ne f_376 hn_378
  have f_382 : h_379 o = some (.inr (9, [.int 0, .ref a1, .int 0, .int 0, .int 0, .ref a5, .ref a6, .ref a7, .ref a8, .ref a9, .ref a10, .int 0, .ref a12, .ref a13, .int 0, .int 0, .ref a16, .int 0, .int 0, .int 0, .int 0, .ref a21, .ref a22, .ref a23, .null, .null, .null, .null, .int 0, .int 0, .int 0, .int 0, .int 0, .null, .int 0, .null, .null, .null, .null, .null, .null, .int 0, .null, .null])) := by rw [eh_379, ac_up_n _ _ t_381]; exact f_376
  have t_383 : a1 ≠ a24 := nw_ne f_363 hn_378
  have f_384 : h_379 a1 = some (.inl (1, 300, .inl (fun _ => 0))) := by rw [eh_379, ac_up_n _ _ t_383]; exact f_363
  have t_385 : a5 ≠ a24 := nw_ne f_364 hn_378
  have f_386 : h_379 a5 = some (.inl (1, 2800, .inl (fun _ => 0))) := by rw [eh_379, ac_up_n _ _ t_385]; exact f_364
  have t_387 : a6 ≠ a24 := nw_ne f_365 hn_378
  have f_388 : h_379 a6 = some (.inl (1, 2800, .inl (fun _ => 0))) := by rw [eh_379, ac_up_n _ _ t_387]; exact f_365
  have t_389 : a7 ≠ a24 := nw_ne f_366 hn_378
  have f_390 : h_379 a7 = some (.inl (1, 7, .inl (fun _ => 0))) := by rw [eh_379, ac_up_n _ _ t_389]; exact f_366
  have t_391 : a8 ≠ a24 := nw_ne f_367 hn_378
  have f_392 : h_379 a8 = some (.inl (1, 7, .inl (fun _ => 0))) := by rw [eh_379, ac_up_n _ _ t_391]; exact f_367
  have t_393 : a9 ≠ a24 := nw_ne f_368 hn_378
  have f_394 : h_379 a9 = some (.inl (1, 91, .inl (fun _ => 0))) := by rw [eh_379, ac_up_n _ _ t_393]; exact f_368
  have t_395 : a10 ≠ a24 := nw_ne f_369 hn_378
  have f_396 : h_379 a10 = some (.inl (1, 91, .inl (fun _ => 0))) := by rw [eh_379, ac_up_n _ _ t_395]; exact f_369
  have t_397 : a12 ≠ a24 := nw_ne f_370 hn_378
  have f_398 : h_379 a12 = some (.inl (1, 320, .inl (fun _ => 0))) := by rw [eh_379, ac_up_n _ _ t_397]; exact f_370
  have t_399 : a13 ≠ a24 := nw_ne f_371 hn_378
  have f_400 : h_379 a13 = some (.inl (1, 320, .inl (fun _ => 0))) := by rw [eh_379, ac_up_n _ _ t_399]; exact f_371
  have t_401 : a16 ≠ a24 := nw_ne f_372 hn_378
  have f_402 : h_379 a16 = some (.inl (2, 4, .inr (.inl (fun _ => 0)))) := by rw [eh_379, ac_up_n _ _ t_401]; exact f_372
  have t_403 : a21 ≠ a24 := nw_ne f_373 hn_378
  have f_404 : h_379 a21 = some (.inl (1, 10, .inl (fun _ => 0))) := by rw [eh_379, ac_up_n _ _ t_403]; exact f_373
  have t_405 : a22 ≠ a24 := nw_ne f_374 hn_378
  have f_406 : h_379 a22 = some (.inl (1, 10, .inl (fun _ => 0))) := by rw [eh_379, ac_up_n _ _ t_405]; exact f_374
  have t_407 : a23 ≠ a24 := nw_ne f_375 hn_378
  have f_408 : h_379 a23 = some (.inl (1, 10, .inl (fun _ => 0))) := by rw [eh_379, ac_up_n _ _ t_407]; exact f_375
  have f_409 : h_379 a24 = some (.inl (1, 10, .inl (fun _ => 0))) := by rw [eh_379]; exact ac_up_s _ _ _
  have kp_410 : kp h h_379 [o] := by rw [eh_379]; exact kp_new n_380 kp_377
  refine pfX9_50_9 C hnm dX9_init_117 f_382 rfl rfl (Nat.le_of_ble_eq_true rfl) (q := 120) rfl ?_
  show aw G 1 M 120 [.ref o] [] (ac_up h_379 o (.inr (9, [.int 0, .ref a1, .int 0, .int 0, .int 0, .ref a5, .ref a6, .ref a7, .ref a8, .ref a9, .ref a10, .int 0, .ref a12, .ref a13, .int 0, .int 0, .ref a16, .int 0, .int 0, .int 0, .int 0, .ref a21, .ref a22, .ref a23, .ref a24, .null, .null, .null, .int 0, .int 0, .int 0, .int 0, .int 0, .null, .int 0, .null, .null, .null, .null, .null, .null, .int 0, .null, .null]))) ((((((((((((((0 + 1) + 1) + 1) + 1) + 1) + 1) + 1) + 1) + 1) + 1) + 1) + 1) + 1) + 1) ((((((((((((((0 + 300) + 2800) + 2800) + 7) + 7) + 91) + 91) + 320) + 320) + 4) + 10) + 10) + 10) + 10)
  obtain ⟨h_411, eh_411⟩ : ∃ z9, z9 = ac_up h_379 o (.inr (9, [.int 0, .ref a1, .int 0, .int 0, .int 0, .ref a5, .ref a6, .ref a7, .ref a8, .ref a9, .ref a10, .int 0, .ref a12, .ref a13, .int 0, .int 0, .ref a16, .int 0, .int 0, .int 0, .int 0, .ref a21, .ref a22, .ref a23, .ref a24, .null, .null, .null, .int 0, .int 0, .int 0, .int 0, .int 0, .null, .int 0, .null, .null, .null, .null, .null, .null, .int 0, .null, .null])) := ⟨_, rfl⟩
  rw [← eh_411]
  have f_412 : h_411 a1 = some (.inl (1, 300, .inl (fun _ => 0))) := by rw [eh_411, ac_up_n _ _ (Ne.symm t_4)]; exact f_384
  have f_413 : h_411 a5 = some (.inl (1, 2800, .inl (fun _ => 0))) := by rw [eh_411, ac_up_n _ _ (Ne.symm t_15)]; exact f_386
  have f_414 : h_411 a6 = some (.inl (1, 2800, .inl (fun _ => 0))) := by rw [eh_411, ac_up_n _ _ (Ne.symm t_29)]; exact f_388
  have f_415 : h_411 a7 = some (.inl (1, 7, .inl (fun _ => 0))) := by rw [eh_411, ac_up_n _ _ (Ne.symm t_46)]; exact f_390
  have f_416 : h_411 a8 = some (.inl (1, 7, .inl (fun _ => 0))) := by rw [eh_411, ac_up_n _ _ (Ne.symm t_66)]; exact f_392
  have f_417 : h_411 a9 = some (.inl (1, 91, .inl (fun _ => 0))) := by rw [eh_411, ac_up_n _ _ (Ne.symm t_89)]; exact f_394
  have f_418 : h_411 a10 = some (.inl (1, 91, .inl (fun _ => 0))) := by rw [eh_411, ac_up_n _ _ (Ne.symm t_115)]; exact f_396
  have f_419 : h_411 a12 = some (.inl (1, 320, .inl (fun _ => 0))) := by rw [eh_411, ac_up_n _ _ (Ne.symm t_144)]; exact f_398
  have f_420 : h_411 a13 = some (.inl (1, 320, .inl (fun _ => 0))) := by rw [eh_411, ac_up_n _ _ (Ne.symm t_176)]; exact f_400
  have f_421 : h_411 a16 = some (.inl (2, 4, .inr (.inl (fun _ => 0)))) := by rw [eh_411, ac_up_n _ _ (Ne.symm t_211)]; exact f_402
  have f_422 : h_411 a21 = some (.inl (1, 10, .inl (fun _ => 0))) := by rw [eh_411, ac_up_n _ _ (Ne.symm t_249)]; exact f_404
  have f_423 : h_411 a22 = some (.inl (1, 10, .inl (fun _ => 0))) := by rw [eh_411, ac_up_n _ _ (Ne.symm t_290)]; exact f_406
  have f_424 : h_411 a23 = some (.inl (1, 10, .inl (fun _ => 0))) := by rw [eh_411, ac_up_n _ _ (Ne.symm t_334)]; exact f_408
  have f_425 : h_411 a24 = some (.inl (1, 10, .inl (fun _ => 0))) := by rw [eh_411, ac_up_n _ _ (Ne.symm t_381)]; exact f_409
  have f_426 : h_411 o = some (.inr (9, [.int 0, .ref a1, .int 0, .int 0, .int 0, .ref a5, .ref a6, .ref a7, .ref a8, .ref a9, .ref a10, .int 0, .ref a12, .ref a13, .int 0, .int 0, .ref a16, .int 0, .int 0, .int 0, .int 0, .ref a21, .ref a22, .ref a23, .ref a24, .null, .null, .null, .int 0, .int 0, .int 0, .int 0, .int 0, .null, .int 0, .null, .null, .null, .null, .null, .null, .int 0, .null, .null])) := by rw [eh_411]; exact ac_up_s _ _ _
  have kp_427 : kp h h_411 [o] := by rw [eh_411]; exact kp_up kp_410 _ _ (by simp)
  refine aw_aload_n C dX9_init_120 rfl rfl (q := 121) rfl ?_
  refine aw_bipush (v := 10) C dX9_init_121 (by decide) (q := 123) rfl ?_
  refine ay_newI3 (N := 10) C dX9_init_123 (by decide) rfl (by decide) (Nat.le_trans (by omega) B.2.2.1) (Nat.le_trans (by omega) B.2.2.2) (q := 125) rfl (fun a25 hn_428 _ => ?_)
  show aw G 1 M 125 [.ref o] [.ref a25, .ref o] (ac_up h_411 a25 (.inl (1, 10, .inl (fun _ => 0)))) (((((((((((((((0 + 1) + 1) + 1) + 1) + 1) + 1) + 1) + 1) + 1) + 1) + 1) + 1) + 1) + 1) + 1) (((((((((((((((0 + 300) + 2800) + 2800) + 7) + 7) + 91) + 91) + 320) + 320) + 4) + 10) + 10) + 10) + 10) + 10)
  obtain ⟨h_429, eh_429⟩ : ∃ z9, z9 = ac_up h_411 a25 (.inl (1, 10, .inl (fun _ => 0))) := ⟨_, rfl⟩
  rw [← eh_429]
  have n_430 : h a25 = none := kp_none kp_427 hn_428 (ni1 (Ne.symm (nw_ne f_426 hn_428)) ni0)
  have t_431 : o ≠ a25 := nw_ne f_426 hn_428
  have f_432 : h_429 o = some (.inr (9, [.int 0, .ref a1, .int 0, .int 0, .int 0, .ref a5, .ref a6, .ref a7, .ref a8, .ref a9, .ref a10, .int 0, .ref a12, .ref a13, .int 0, .int 0, .ref a16, .int 0, .int 0, .int 0, .int 0, .ref a21, .ref a22, .ref a23, .ref a24, .null, .null, .null, .int 0, .int 0, .int 0, .int 0, .int 0, .null, .int 0, .null, .null, .null, .null, .null, .null, .int 0, .null, .null])) := by rw [eh_429, ac_up_n _ _ t_431]; exact f_426
  have t_433 : a1 ≠ a25 := nw_ne f_412 hn_428
  have f_434 : h_429 a1 = some (.inl (1, 300, .inl (fun _ => 0))) := by rw [eh_429, ac_up_n _ _ t_433]; exact f_412
  have t_435 : a5 ≠ a25 := nw_ne f_413 hn_428
  have f_436 : h_429 a5 = some (.inl (1, 2800, .inl (fun _ => 0))) := by rw [eh_429, ac_up_n _ _ t_435]; exact f_413
  have t_437 : a6 ≠ a25 := nw_ne f_414 hn_428
  have f_438 : h_429 a6 = some (.inl (1, 2800, .inl (fun _ => 0))) := by rw [eh_429, ac_up_n _ _ t_437]; exact f_414
  have t_439 : a7 ≠ a25 := nw_ne f_415 hn_428
  have f_440 : h_429 a7 = some (.inl (1, 7, .inl (fun _ => 0))) := by rw [eh_429, ac_up_n _ _ t_439]; exact f_415
  have t_441 : a8 ≠ a25 := nw_ne f_416 hn_428
  have f_442 : h_429 a8 = some (.inl (1, 7, .inl (fun _ => 0))) := by rw [eh_429, ac_up_n _ _ t_441]; exact f_416
  have t_443 : a9 ≠ a25 := nw_ne f_417 hn_428
  have f_444 : h_429 a9 = some (.inl (1, 91, .inl (fun _ => 0))) := by rw [eh_429, ac_up_n _ _ t_443]; exact f_417
  have t_445 : a10 ≠ a25 := nw_ne f_418 hn_428
  have f_446 : h_429 a10 = some (.inl (1, 91, .inl (fun _ => 0))) := by rw [eh_429, ac_up_n _ _ t_445]; exact f_418
  have t_447 : a12 ≠ a25 := nw_ne f_419 hn_428
  have f_448 : h_429 a12 = some (.inl (1, 320, .inl (fun _ => 0))) := by rw [eh_429, ac_up_n _ _ t_447]; exact f_419
  have t_449 : a13 ≠ a25 := nw_ne f_420 hn_428
  have f_450 : h_429 a13 = some (.inl (1, 320, .inl (fun _ => 0))) := by rw [eh_429, ac_up_n _ _ t_449]; exact f_420
  have t_451 : a16 ≠ a25 := nw_ne f_421 hn_428
  have f_452 : h_429 a16 = some (.inl (2, 4, .inr (.inl (fun _ => 0)))) := by rw [eh_429, ac_up_n _ _ t_451]; exact f_421
  have t_453 : a21 ≠ a25 := nw_ne f_422 hn_428
  have f_454 : h_429 a21 = some (.inl (1, 10, .inl (fun _ => 0))) := by rw [eh_429, ac_up_n _ _ t_453]; exact f_422
  have t_455 : a22 ≠ a25 := nw_ne f_423 hn_428
  have f_456 : h_429 a22 = some (.inl (1, 10, .inl (fun _ => 0))) := by rw [eh_429, ac_up_n _ _ t_455]; exact f_423
  have t_457 : a23 ≠ a25 := nw_ne f_424 hn_428
  have f_458 : h_429 a23 = some (.inl (1, 10, .inl (fun _ => 0))) := by rw [eh_429, ac_up_n _ _ t_457]; exact f_424
  have t_459 : a24 ≠ a25 := nw_ne f_425 hn_428
  have f_460 : h_429 a24 = some (.inl (1, 10, .inl (fun _ => 0))) := by rw [eh_429, ac_up_n _ _ t_459]; exact f_425
  have f_461 : h_429 a25 = some (.inl (1, 10, .inl (fun _ => 0))) := by rw [eh_429]; exact ac_up_s _ _ _
  have kp_462 : kp h h_429 [o] := by rw [eh_429]; exact kp_new n_430 kp_427
  refine pfX9_53_9 C hnm dX9_init_125 f_432 rfl rfl (Nat.le_of_ble_eq_true rfl) (q := 128) rfl ?_
  show aw G 1 M 128 [.ref o] [] (ac_up h_429 o (.inr (9, [.int 0, .ref a1, .int 0, .int 0, .int 0, .ref a5, .ref a6, .ref a7, .ref a8, .ref a9, .ref a10, .int 0, .ref a12, .ref a13, .int 0, .int 0, .ref a16, .int 0, .int 0, .int 0, .int 0, .ref a21, .ref a22, .ref a23, .ref a24, .ref a25, .null, .null, .int 0, .int 0, .int 0, .int 0, .int 0, .null, .int 0, .null, .null, .null, .null, .null, .null, .int 0, .null, .null]))) (((((((((((((((0 + 1) + 1) + 1) + 1) + 1) + 1) + 1) + 1) + 1) + 1) + 1) + 1) + 1) + 1) + 1) (((((((((((((((0 + 300) + 2800) + 2800) + 7) + 7) + 91) + 91) + 320) + 320) + 4) + 10) + 10) + 10) + 10) + 10)
  obtain ⟨h_463, eh_463⟩ : ∃ z9, z9 = ac_up h_429 o (.inr (9, [.int 0, .ref a1, .int 0, .int 0, .int 0, .ref a5, .ref a6, .ref a7, .ref a8, .ref a9, .ref a10, .int 0, .ref a12, .ref a13, .int 0, .int 0, .ref a16, .int 0, .int 0, .int 0, .int 0, .ref a21, .ref a22, .ref a23, .ref a24, .ref a25, .null, .null, .int 0, .int 0, .int 0, .int 0, .int 0, .null, .int 0, .null, .null, .null, .null, .null, .null, .int 0, .null, .null])) := ⟨_, rfl⟩
  rw [← eh_463]
  have f_464 : h_463 a1 = some (.inl (1, 300, .inl (fun _ => 0))) := by rw [eh_463, ac_up_n _ _ (Ne.symm t_4)]; exact f_434
  have f_465 : h_463 a5 = some (.inl (1, 2800, .inl (fun _ => 0))) := by rw [eh_463, ac_up_n _ _ (Ne.symm t_15)]; exact f_436
  have f_466 : h_463 a6 = some (.inl (1, 2800, .inl (fun _ => 0))) := by rw [eh_463, ac_up_n _ _ (Ne.symm t_29)]; exact f_438
  have f_467 : h_463 a7 = some (.inl (1, 7, .inl (fun _ => 0))) := by rw [eh_463, ac_up_n _ _ (Ne.symm t_46)]; exact f_440
  have f_468 : h_463 a8 = some (.inl (1, 7, .inl (fun _ => 0))) := by rw [eh_463, ac_up_n _ _ (Ne.symm t_66)]; exact f_442
  have f_469 : h_463 a9 = some (.inl (1, 91, .inl (fun _ => 0))) := by rw [eh_463, ac_up_n _ _ (Ne.symm t_89)]; exact f_444
  have f_470 : h_463 a10 = some (.inl (1, 91, .inl (fun _ => 0))) := by rw [eh_463, ac_up_n _ _ (Ne.symm t_115)]; exact f_446
  have f_471 : h_463 a12 = some (.inl (1, 320, .inl (fun _ => 0))) := by rw [eh_463, ac_up_n _ _ (Ne.symm t_144)]; exact f_448
  have f_472 : h_463 a13 = some (.inl (1, 320, .inl (fun _ => 0))) := by rw [eh_463, ac_up_n _ _ (Ne.symm t_176)]; exact f_450
  have f_473 : h_463 a16 = some (.inl (2, 4, .inr (.inl (fun _ => 0)))) := by rw [eh_463, ac_up_n _ _ (Ne.symm t_211)]; exact f_452
  have f_474 : h_463 a21 = some (.inl (1, 10, .inl (fun _ => 0))) := by rw [eh_463, ac_up_n _ _ (Ne.symm t_249)]; exact f_454
  have f_475 : h_463 a22 = some (.inl (1, 10, .inl (fun _ => 0))) := by rw [eh_463, ac_up_n _ _ (Ne.symm t_290)]; exact f_456
  have f_476 : h_463 a23 = some (.inl (1, 10, .inl (fun _ => 0))) := by rw [eh_463, ac_up_n _ _ (Ne.symm t_334)]; exact f_458
  have f_477 : h_463 a24 = some (.inl (1, 10, .inl (fun _ => 0))) := by rw [eh_463, ac_up_n _ _ (Ne.symm t_381)]; exact f_460
  have f_478 : h_463 a25 = some (.inl (1, 10, .inl (fun _ => 0))) := by rw [eh_463, ac_up_n _ _ (Ne.symm t_431)]; exact f_461
  have f_479 : h_463 o = some (.inr (9, [.int 0, .ref a1, .int 0, .int 0, .int 0, .ref a5, .ref a6, .ref a7, .ref a8, .ref a9, .ref a10, .int 0, .ref a12, .ref a13, .int 0, .int 0, .ref a16, .int 0, .int 0, .int 0, .int 0, .ref a21, .ref a22, .ref a23, .ref a24, .ref a25, .null, .null, .int 0, .int 0, .int 0, .int 0, .int 0, .null, .int 0, .null, .null, .null, .null, .null, .null, .int 0, .null, .null])) := by rw [eh_463]; exact ac_up_s _ _ _
  have kp_480 : kp h h_463 [o] := by rw [eh_463]; exact kp_up kp_462 _ _ (by simp)
  refine aw_aload_n C dX9_init_128 rfl rfl (q := 129) rfl ?_
  refine aw_bipush (v := 10) C dX9_init_129 (by decide) (q := 131) rfl ?_
  refine ay_newI3 (N := 10) C dX9_init_131 (by decide) rfl (by decide) (Nat.le_trans (by omega) B.2.2.1) (Nat.le_trans (by omega) B.2.2.2) (q := 133) rfl (fun a26 hn_481 _ => ?_)
  show aw G 1 M 133 [.ref o] [.ref a26, .ref o] (ac_up h_463 a26 (.inl (1, 10, .inl (fun _ => 0)))) ((((((((((((((((0 + 1) + 1) + 1) + 1) + 1) + 1) + 1) + 1) + 1) + 1) + 1) + 1) + 1) + 1) + 1) + 1) ((((((((((((((((0 + 300) + 2800) + 2800) + 7) + 7) + 91) + 91) + 320) + 320) + 4) + 10) + 10) + 10) + 10) + 10) + 10)
  obtain ⟨h_482, eh_482⟩ : ∃ z9, z9 = ac_up h_463 a26 (.inl (1, 10, .inl (fun _ => 0))) := ⟨_, rfl⟩
  rw [← eh_482]
  have n_483 : h a26 = none := kp_none kp_480 hn_481 (ni1 (Ne.symm (nw_ne f_479 hn_481)) ni0)
  have t_484 : o ≠ a26 := nw_ne f_479 hn_481
  have f_485 : h_482 o = some (.inr (9, [.int 0, .ref a1, .int 0, .int 0, .int 0, .ref a5, .ref a6, .ref a7, .ref a8, .ref a9, .ref a10, .int 0, .ref a12, .ref a13, .int 0, .int 0, .ref a16, .int 0, .int 0, .int 0, .int 0, .ref a21, .ref a22, .ref a23, .ref a24, .ref a25, .null, .null, .int 0, .int 0, .int 0, .int 0, .int 0, .null, .int 0, .null, .null, .null, .null, .null, .null, .int 0, .null, .null])) := by rw [eh_482, ac_up_n _ _ t_484]; exact f_479
  have t_486 : a1 ≠ a26 := nw_ne f_464 hn_481
  have f_487 : h_482 a1 = some (.inl (1, 300, .inl (fun _ => 0))) := by rw [eh_482, ac_up_n _ _ t_486]; exact f_464
  have t_488 : a5 ≠ a26 := nw_ne f_465 hn_481
  have f_489 : h_482 a5 = some (.inl (1, 2800, .inl (fun _ => 0))) := by rw [eh_482, ac_up_n _ _ t_488]; exact f_465
  have t_490 : a6 ≠ a26 := nw_ne f_466 hn_481
  have f_491 : h_482 a6 = some (.inl (1, 2800, .inl (fun _ => 0))) := by rw [eh_482, ac_up_n _ _ t_490]; exact f_466
  have t_492 : a7 ≠ a26 := nw_ne f_467 hn_481
  have f_493 : h_482 a7 = some (.inl (1, 7, .inl (fun _ => 0))) := by rw [eh_482, ac_up_n _ _ t_492]; exact f_467
  have t_494 : a8 ≠ a26 := nw_ne f_468 hn_481
  have f_495 : h_482 a8 = some (.inl (1, 7, .inl (fun _ => 0))) := by rw [eh_482, ac_up_n _ _ t_494]; exact f_468
  have t_496 : a9 ≠ a26 := nw_ne f_469 hn_481
  have f_497 : h_482 a9 = some (.inl (1, 91, .inl (fun _ => 0))) := by rw [eh_482, ac_up_n _ _ t_496]; exact f_469
  have t_498 : a10 ≠ a26 := nw_ne f_470 hn_481
  have f_499 : h_482 a10 = some (.inl (1, 91, .inl (fun _ => 0))) := by rw [eh_482, ac_up_n _ _ t_498]; exact f_470
  have t_500 : a12 ≠ a26 := nw_ne f_471 hn_481
  have f_501 : h_482 a12 = some (.inl (1, 320, .inl (fun _ => 0))) := by rw [eh_482, ac_up_n _ _ t_500]; exact f_471
  have t_502 : a13 ≠ a26 := nw_ne f_472 hn_481
  have f_503 : h_482 a13 = some (.inl (1, 320, .inl (fun _ => 0))) := by rw [eh_482, ac_up_n _ _ t_502]; exact f_472
  have t_504 : a16 ≠ a26 := nw_ne f_473 hn_481
  have f_505 : h_482 a16 = some (.inl (2, 4, .inr (.inl (fun _ => 0)))) := by rw [eh_482, ac_up_n _ _ t_504]; exact f_473
  have t_506 : a21 ≠ a26 := nw_ne f_474 hn_481
  have f_507 : h_482 a21 = some (.inl (1, 10, .inl (fun _ => 0))) := by rw [eh_482, ac_up_n _ _ t_506]; exact f_474
  have t_508 : a22 ≠ a26 := nw_ne f_475 hn_481
  have f_509 : h_482 a22 = some (.inl (1, 10, .inl (fun _ => 0))) := by rw [eh_482, ac_up_n _ _ t_508]; exact f_475
  have t_510 : a23 ≠ a26 := nw_ne f_476 hn_481
  have f_511 : h_482 a23 = some (.inl (1, 10, .inl (fun _ => 0))) := by rw [eh_482, ac_up_n _ _ t_510]; exact f_476
  have t_512 : a24 ≠ a26 := nw_ne f_477 hn_481
  have f_513 : h_482 a24 = some (.inl (1, 10, .inl (fun _ => 0))) := by rw [eh_482, ac_up_n _ _ t_512]; exact f_477
  have t_514 : a25 ≠ a26 := nw_ne f_478 hn_481
  have f_515 : h_482 a25 = some (.inl (1, 10, .inl (fun _ => 0))) := by rw [eh_482, ac_up_n _ _ t_514]; exact f_478
  have f_516 : h_482 a26 = some (.inl (1, 10, .inl (fun _ => 0))) := by rw [eh_482]; exact ac_up_s _ _ _
  have kp_517 : kp h h_482 [o] := by rw [eh_482]; exact kp_new n_483 kp_480
  refine pfX9_56_9 C hnm dX9_init_133 f_485 rfl rfl (Nat.le_of_ble_eq_true rfl) (q := 136) rfl ?_
  show aw G 1 M 136 [.ref o] [] (ac_up h_482 o (.inr (9, [.int 0, .ref a1, .int 0, .int 0, .int 0, .ref a5, .ref a6, .ref a7, .ref a8, .ref a9, .ref a10, .int 0, .ref a12, .ref a13, .int 0, .int 0, .ref a16, .int 0, .int 0, .int 0, .int 0, .ref a21, .ref a22, .ref a23, .ref a24, .ref a25, .ref a26, .null, .int 0, .int 0, .int 0, .int 0, .int 0, .null, .int 0, .null, .null, .null, .null, .null, .null, .int 0, .null, .null]))) ((((((((((((((((0 + 1) + 1) + 1) + 1) + 1) + 1) + 1) + 1) + 1) + 1) + 1) + 1) + 1) + 1) + 1) + 1) ((((((((((((((((0 + 300) + 2800) + 2800) + 7) + 7) + 91) + 91) + 320) + 320) + 4) + 10) + 10) + 10) + 10) + 10) + 10)
  obtain ⟨h_518, eh_518⟩ : ∃ z9, z9 = ac_up h_482 o (.inr (9, [.int 0, .ref a1, .int 0, .int 0, .int 0, .ref a5, .ref a6, .ref a7, .ref a8, .ref a9, .ref a10, .int 0, .ref a12, .ref a13, .int 0, .int 0, .ref a16, .int 0, .int 0, .int 0, .int 0, .ref a21, .ref a22, .ref a23, .ref a24, .ref a25, .ref a26, .null, .int 0, .int 0, .int 0, .int 0, .int 0, .null, .int 0, .null, .null, .null, .null, .null, .null, .int 0, .null, .null])) := ⟨_, rfl⟩
  rw [← eh_518]
  have f_519 : h_518 a1 = some (.inl (1, 300, .inl (fun _ => 0))) := by rw [eh_518, ac_up_n _ _ (Ne.symm t_4)]; exact f_487
  have f_520 : h_518 a5 = some (.inl (1, 2800, .inl (fun _ => 0))) := by rw [eh_518, ac_up_n _ _ (Ne.symm t_15)]; exact f_489
  have f_521 : h_518 a6 = some (.inl (1, 2800, .inl (fun _ => 0))) := by rw [eh_518, ac_up_n _ _ (Ne.symm t_29)]; exact f_491
  have f_522 : h_518 a7 = some (.inl (1, 7, .inl (fun _ => 0))) := by rw [eh_518, ac_up_n _ _ (Ne.symm t_46)]; exact f_493
  have f_523 : h_518 a8 = some (.inl (1, 7, .inl (fun _ => 0))) := by rw [eh_518, ac_up_n _ _ (Ne.symm t_66)]; exact f_495
  have f_524 : h_518 a9 = some (.inl (1, 91, .inl (fun _ => 0))) := by rw [eh_518, ac_up_n _ _ (Ne.symm t_89)]; exact f_497
  have f_525 : h_518 a10 = some (.inl (1, 91, .inl (fun _ => 0))) := by rw [eh_518, ac_up_n _ _ (Ne.symm t_115)]; exact f_499
  have f_526 : h_518 a12 = some (.inl (1, 320, .inl (fun _ => 0))) := by rw [eh_518, ac_up_n _ _ (Ne.symm t_144)]; exact f_501
  have f_527 : h_518 a13 = some (.inl (1, 320, .inl (fun _ => 0))) := by rw [eh_518, ac_up_n _ _ (Ne.symm t_176)]; exact f_503
  have f_528 : h_518 a16 = some (.inl (2, 4, .inr (.inl (fun _ => 0)))) := by rw [eh_518, ac_up_n _ _ (Ne.symm t_211)]; exact f_505
  have f_529 : h_518 a21 = some (.inl (1, 10, .inl (fun _ => 0))) := by rw [eh_518, ac_up_n _ _ (Ne.symm t_249)]; exact f_507
  have f_530 : h_518 a22 = some (.inl (1, 10, .inl (fun _ => 0))) := by rw [eh_518, ac_up_n _ _ (Ne.symm t_290)]; exact f_509
  have f_531 : h_518 a23 = some (.inl (1, 10, .inl (fun _ => 0))) := by rw [eh_518, ac_up_n _ _ (Ne.symm t_334)]; exact f_511
  have f_532 : h_518 a24 = some (.inl (1, 10, .inl (fun _ => 0))) := by rw [eh_518, ac_up_n _ _ (Ne.symm t_381)]; exact f_513
  have f_533 : h_518 a25 = some (.inl (1, 10, .inl (fun _ => 0))) := by rw [eh_518, ac_up_n _ _ (Ne.symm t_431)]; exact f_515
  have f_534 : h_518 a26 = some (.inl (1, 10, .inl (fun _ => 0))) := by rw [eh_518, ac_up_n _ _ (Ne.symm t_484)]; exact f_516
  have f_535 : h_518 o = some (.inr (9, [.int 0, .ref a1, .int 0, .int 0, .int 0, .ref a5, .ref a6, .ref a7, .ref a8, .ref a9, .ref a10, .int 0, .ref a12, .ref a13, .int 0, .int 0, .ref a16, .int 0, .int 0, .int 0, .int 0, .ref a21, .ref a22, .ref a23, .ref a24, .ref a25, .ref a26, .null, .int 0, .int 0, .int 0, .int 0, .int 0, .null, .int 0, .null, .null, .null, .null, .null, .null, .int 0, .null, .null])) := by rw [eh_518]; exact ac_up_s _ _ _
  have kp_536 : kp h h_518 [o] := by rw [eh_518]; exact kp_up kp_517 _ _ (by simp)
  refine aw_aload_n C dX9_init_136 rfl rfl (q := 137) rfl ?_
  refine aw_sipush (v := 320) C dX9_init_137 (by decide) (q := 140) rfl ?_
  refine ay_newL (N := 320) C dX9_init_140 (by decide) rfl (by decide) (Nat.le_trans (by omega) B.2.2.1) (Nat.le_trans (by omega) B.2.2.2) (q := 142) rfl (fun a27 hn_537 _ => ?_)
  show aw G 1 M 142 [.ref o] [.ref a27, .ref o] (ac_up h_518 a27 (.inl (2, 320, .inr (.inl (fun _ => 0))))) (((((((((((((((((0 + 1) + 1) + 1) + 1) + 1) + 1) + 1) + 1) + 1) + 1) + 1) + 1) + 1) + 1) + 1) + 1) + 1) (((((((((((((((((0 + 300) + 2800) + 2800) + 7) + 7) + 91) + 91) + 320) + 320) + 4) + 10) + 10) + 10) + 10) + 10) + 10) + 320)
  obtain ⟨h_538, eh_538⟩ : ∃ z9, z9 = ac_up h_518 a27 (.inl (2, 320, .inr (.inl (fun _ => 0)))) := ⟨_, rfl⟩
  rw [← eh_538]
  have n_539 : h a27 = none := kp_none kp_536 hn_537 (ni1 (Ne.symm (nw_ne f_535 hn_537)) ni0)
  have t_540 : o ≠ a27 := nw_ne f_535 hn_537
  have f_541 : h_538 o = some (.inr (9, [.int 0, .ref a1, .int 0, .int 0, .int 0, .ref a5, .ref a6, .ref a7, .ref a8, .ref a9, .ref a10, .int 0, .ref a12, .ref a13, .int 0, .int 0, .ref a16, .int 0, .int 0, .int 0, .int 0, .ref a21, .ref a22, .ref a23, .ref a24, .ref a25, .ref a26, .null, .int 0, .int 0, .int 0, .int 0, .int 0, .null, .int 0, .null, .null, .null, .null, .null, .null, .int 0, .null, .null])) := by rw [eh_538, ac_up_n _ _ t_540]; exact f_535
  have t_542 : a1 ≠ a27 := nw_ne f_519 hn_537
  have f_543 : h_538 a1 = some (.inl (1, 300, .inl (fun _ => 0))) := by rw [eh_538, ac_up_n _ _ t_542]; exact f_519
  have t_544 : a5 ≠ a27 := nw_ne f_520 hn_537
  have f_545 : h_538 a5 = some (.inl (1, 2800, .inl (fun _ => 0))) := by rw [eh_538, ac_up_n _ _ t_544]; exact f_520
  have t_546 : a6 ≠ a27 := nw_ne f_521 hn_537
  have f_547 : h_538 a6 = some (.inl (1, 2800, .inl (fun _ => 0))) := by rw [eh_538, ac_up_n _ _ t_546]; exact f_521
  have t_548 : a7 ≠ a27 := nw_ne f_522 hn_537
  have f_549 : h_538 a7 = some (.inl (1, 7, .inl (fun _ => 0))) := by rw [eh_538, ac_up_n _ _ t_548]; exact f_522
  have t_550 : a8 ≠ a27 := nw_ne f_523 hn_537
  have f_551 : h_538 a8 = some (.inl (1, 7, .inl (fun _ => 0))) := by rw [eh_538, ac_up_n _ _ t_550]; exact f_523
  have t_552 : a9 ≠ a27 := nw_ne f_524 hn_537
  have f_553 : h_538 a9 = some (.inl (1, 91, .inl (fun _ => 0))) := by rw [eh_538, ac_up_n _ _ t_552]; exact f_524
  have t_554 : a10 ≠ a27 := nw_ne f_525 hn_537
  have f_555 : h_538 a10 = some (.inl (1, 91, .inl (fun _ => 0))) := by rw [eh_538, ac_up_n _ _ t_554]; exact f_525
  have t_556 : a12 ≠ a27 := nw_ne f_526 hn_537
  have f_557 : h_538 a12 = some (.inl (1, 320, .inl (fun _ => 0))) := by rw [eh_538, ac_up_n _ _ t_556]; exact f_526
  have t_558 : a13 ≠ a27 := nw_ne f_527 hn_537
  have f_559 : h_538 a13 = some (.inl (1, 320, .inl (fun _ => 0))) := by rw [eh_538, ac_up_n _ _ t_558]; exact f_527
  have t_560 : a16 ≠ a27 := nw_ne f_528 hn_537
  have f_561 : h_538 a16 = some (.inl (2, 4, .inr (.inl (fun _ => 0)))) := by rw [eh_538, ac_up_n _ _ t_560]; exact f_528
  have t_562 : a21 ≠ a27 := nw_ne f_529 hn_537
  have f_563 : h_538 a21 = some (.inl (1, 10, .inl (fun _ => 0))) := by rw [eh_538, ac_up_n _ _ t_562]; exact f_529
  have t_564 : a22 ≠ a27 := nw_ne f_530 hn_537
  have f_565 : h_538 a22 = some (.inl (1, 10, .inl (fun _ => 0))) := by rw [eh_538, ac_up_n _ _ t_564]; exact f_530
  have t_566 : a23 ≠ a27 := nw_ne f_531 hn_537
  have f_567 : h_538 a23 = some (.inl (1, 10, .inl (fun _ => 0))) := by rw [eh_538, ac_up_n _ _ t_566]; exact f_531
  have t_568 : a24 ≠ a27 := nw_ne f_532 hn_537
  have f_569 : h_538 a24 = some (.inl (1, 10, .inl (fun _ => 0))) := by rw [eh_538, ac_up_n _ _ t_568]; exact f_532
  have t_570 : a25 ≠ a27 := nw_ne f_533 hn_537
  have f_571 : h_538 a25 = some (.inl (1, 10, .inl (fun _ => 0))) := by rw [eh_538, ac_up_n _ _ t_570]; exact f_533
  have t_572 : a26 ≠ a27 := nw_ne f_534 hn_537
  have f_573 : h_538 a26 = some (.inl (1, 10, .inl (fun _ => 0))) := by rw [eh_538, ac_up_n _ _ t_572]; exact f_534
  have f_574 : h_538 a27 = some (.inl (2, 320, .inr (.inl (fun _ => 0)))) := by rw [eh_538]; exact ac_up_s _ _ _
  have kp_575 : kp h h_538 [o] := by rw [eh_538]; exact kp_new n_539 kp_536
  refine pfX9_59_9 C hnm dX9_init_142 f_541 rfl rfl (Nat.le_of_ble_eq_true rfl) (q := 145) rfl ?_
  show aw G 1 M 145 [.ref o] [] (ac_up h_538 o (.inr (9, [.int 0, .ref a1, .int 0, .int 0, .int 0, .ref a5, .ref a6, .ref a7, .ref a8, .ref a9, .ref a10, .int 0, .ref a12, .ref a13, .int 0, .int 0, .ref a16, .int 0, .int 0, .int 0, .int 0, .ref a21, .ref a22, .ref a23, .ref a24, .ref a25, .ref a26, .ref a27, .int 0, .int 0, .int 0, .int 0, .int 0, .null, .int 0, .null, .null, .null, .null, .null, .null, .int 0, .null, .null]))) (((((((((((((((((0 + 1) + 1) + 1) + 1) + 1) + 1) + 1) + 1) + 1) + 1) + 1) + 1) + 1) + 1) + 1) + 1) + 1) (((((((((((((((((0 + 300) + 2800) + 2800) + 7) + 7) + 91) + 91) + 320) + 320) + 4) + 10) + 10) + 10) + 10) + 10) + 10) + 320)
  obtain ⟨h_576, eh_576⟩ : ∃ z9, z9 = ac_up h_538 o (.inr (9, [.int 0, .ref a1, .int 0, .int 0, .int 0, .ref a5, .ref a6, .ref a7, .ref a8, .ref a9, .ref a10, .int 0, .ref a12, .ref a13, .int 0, .int 0, .ref a16, .int 0, .int 0, .int 0, .int 0, .ref a21, .ref a22, .ref a23, .ref a24, .ref a25, .ref a26, .ref a27, .int 0, .int 0, .int 0, .int 0, .int 0, .null, .int 0, .null, .null, .null, .null, .null, .null, .int 0, .null, .null])) := ⟨_, rfl⟩
  rw [← eh_576]
  have f_577 : h_576 a1 = some (.inl (1, 300, .inl (fun _ => 0))) := by rw [eh_576, ac_up_n _ _ (Ne.symm t_4)]; exact f_543
  have f_578 : h_576 a5 = some (.inl (1, 2800, .inl (fun _ => 0))) := by rw [eh_576, ac_up_n _ _ (Ne.symm t_15)]; exact f_545
  have f_579 : h_576 a6 = some (.inl (1, 2800, .inl (fun _ => 0))) := by rw [eh_576, ac_up_n _ _ (Ne.symm t_29)]; exact f_547
  have f_580 : h_576 a7 = some (.inl (1, 7, .inl (fun _ => 0))) := by rw [eh_576, ac_up_n _ _ (Ne.symm t_46)]; exact f_549
  have f_581 : h_576 a8 = some (.inl (1, 7, .inl (fun _ => 0))) := by rw [eh_576, ac_up_n _ _ (Ne.symm t_66)]; exact f_551
  have f_582 : h_576 a9 = some (.inl (1, 91, .inl (fun _ => 0))) := by rw [eh_576, ac_up_n _ _ (Ne.symm t_89)]; exact f_553
  have f_583 : h_576 a10 = some (.inl (1, 91, .inl (fun _ => 0))) := by rw [eh_576, ac_up_n _ _ (Ne.symm t_115)]; exact f_555
  have f_584 : h_576 a12 = some (.inl (1, 320, .inl (fun _ => 0))) := by rw [eh_576, ac_up_n _ _ (Ne.symm t_144)]; exact f_557
  have f_585 : h_576 a13 = some (.inl (1, 320, .inl (fun _ => 0))) := by rw [eh_576, ac_up_n _ _ (Ne.symm t_176)]; exact f_559
  have f_586 : h_576 a16 = some (.inl (2, 4, .inr (.inl (fun _ => 0)))) := by rw [eh_576, ac_up_n _ _ (Ne.symm t_211)]; exact f_561
  have f_587 : h_576 a21 = some (.inl (1, 10, .inl (fun _ => 0))) := by rw [eh_576, ac_up_n _ _ (Ne.symm t_249)]; exact f_563
  have f_588 : h_576 a22 = some (.inl (1, 10, .inl (fun _ => 0))) := by rw [eh_576, ac_up_n _ _ (Ne.symm t_290)]; exact f_565
  have f_589 : h_576 a23 = some (.inl (1, 10, .inl (fun _ => 0))) := by rw [eh_576, ac_up_n _ _ (Ne.symm t_334)]; exact f_567
  have f_590 : h_576 a24 = some (.inl (1, 10, .inl (fun _ => 0))) := by rw [eh_576, ac_up_n _ _ (Ne.symm t_381)]; exact f_569
  have f_591 : h_576 a25 = some (.inl (1, 10, .inl (fun _ => 0))) := by rw [eh_576, ac_up_n _ _ (Ne.symm t_431)]; exact f_571
  have f_592 : h_576 a26 = some (.inl (1, 10, .inl (fun _ => 0))) := by rw [eh_576, ac_up_n _ _ (Ne.symm t_484)]; exact f_573
  have f_593 : h_576 a27 = some (.inl (2, 320, .inr (.inl (fun _ => 0)))) := by rw [eh_576, ac_up_n _ _ (Ne.symm t_540)]; exact f_574
  have f_594 : h_576 o = some (.inr (9, [.int 0, .ref a1, .int 0, .int 0, .int 0, .ref a5, .ref a6, .ref a7, .ref a8, .ref a9, .ref a10, .int 0, .ref a12, .ref a13, .int 0, .int 0, .ref a16, .int 0, .int 0, .int 0, .int 0, .ref a21, .ref a22, .ref a23, .ref a24, .ref a25, .ref a26, .ref a27, .int 0, .int 0, .int 0, .int 0, .int 0, .null, .int 0, .null, .null, .null, .null, .null, .null, .int 0, .null, .null])) := by rw [eh_576]; exact ac_up_s _ _ _
  have kp_595 : kp h h_576 [o] := by rw [eh_576]; exact kp_up kp_575 _ _ (by simp)
  refine aw_aload_n C dX9_init_145 rfl rfl (q := 146) rfl ?_
  refine aw_bipush (v := 12) C dX9_init_146 (by decide) (q := 148) rfl ?_
  refine ay_newI3 (N := 12) C dX9_init_148 (by decide) rfl (by decide) (Nat.le_trans (by omega) B.2.2.1) (Nat.le_trans (by omega) B.2.2.2) (q := 150) rfl (fun a33 hn_596 _ => ?_)
  show aw G 1 M 150 [.ref o] [.ref a33, .ref o] (ac_up h_576 a33 (.inl (1, 12, .inl (fun _ => 0)))) ((((((((((((((((((0 + 1) + 1) + 1) + 1) + 1) + 1) + 1) + 1) + 1) + 1) + 1) + 1) + 1) + 1) + 1) + 1) + 1) + 1) ((((((((((((((((((0 + 300) + 2800) + 2800) + 7) + 7) + 91) + 91) + 320) + 320) + 4) + 10) + 10) + 10) + 10) + 10) + 10) + 320) + 12)
  obtain ⟨h_597, eh_597⟩ : ∃ z9, z9 = ac_up h_576 a33 (.inl (1, 12, .inl (fun _ => 0))) := ⟨_, rfl⟩
  rw [← eh_597]
  have n_598 : h a33 = none := kp_none kp_595 hn_596 (ni1 (Ne.symm (nw_ne f_594 hn_596)) ni0)
  have t_599 : o ≠ a33 := nw_ne f_594 hn_596
  have f_600 : h_597 o = some (.inr (9, [.int 0, .ref a1, .int 0, .int 0, .int 0, .ref a5, .ref a6, .ref a7, .ref a8, .ref a9, .ref a10, .int 0, .ref a12, .ref a13, .int 0, .int 0, .ref a16, .int 0, .int 0, .int 0, .int 0, .ref a21, .ref a22, .ref a23, .ref a24, .ref a25, .ref a26, .ref a27, .int 0, .int 0, .int 0, .int 0, .int 0, .null, .int 0, .null, .null, .null, .null, .null, .null, .int 0, .null, .null])) := by rw [eh_597, ac_up_n _ _ t_599]; exact f_594
  have t_601 : a1 ≠ a33 := nw_ne f_577 hn_596
  have f_602 : h_597 a1 = some (.inl (1, 300, .inl (fun _ => 0))) := by rw [eh_597, ac_up_n _ _ t_601]; exact f_577
  have t_603 : a5 ≠ a33 := nw_ne f_578 hn_596
  have f_604 : h_597 a5 = some (.inl (1, 2800, .inl (fun _ => 0))) := by rw [eh_597, ac_up_n _ _ t_603]; exact f_578
  have t_605 : a6 ≠ a33 := nw_ne f_579 hn_596
  have f_606 : h_597 a6 = some (.inl (1, 2800, .inl (fun _ => 0))) := by rw [eh_597, ac_up_n _ _ t_605]; exact f_579
  have t_607 : a7 ≠ a33 := nw_ne f_580 hn_596
  have f_608 : h_597 a7 = some (.inl (1, 7, .inl (fun _ => 0))) := by rw [eh_597, ac_up_n _ _ t_607]; exact f_580
  have t_609 : a8 ≠ a33 := nw_ne f_581 hn_596
  have f_610 : h_597 a8 = some (.inl (1, 7, .inl (fun _ => 0))) := by rw [eh_597, ac_up_n _ _ t_609]; exact f_581
  have t_611 : a9 ≠ a33 := nw_ne f_582 hn_596
  have f_612 : h_597 a9 = some (.inl (1, 91, .inl (fun _ => 0))) := by rw [eh_597, ac_up_n _ _ t_611]; exact f_582
  have t_613 : a10 ≠ a33 := nw_ne f_583 hn_596
  have f_614 : h_597 a10 = some (.inl (1, 91, .inl (fun _ => 0))) := by rw [eh_597, ac_up_n _ _ t_613]; exact f_583
  have t_615 : a12 ≠ a33 := nw_ne f_584 hn_596
  have f_616 : h_597 a12 = some (.inl (1, 320, .inl (fun _ => 0))) := by rw [eh_597, ac_up_n _ _ t_615]; exact f_584
  have t_617 : a13 ≠ a33 := nw_ne f_585 hn_596
  have f_618 : h_597 a13 = some (.inl (1, 320, .inl (fun _ => 0))) := by rw [eh_597, ac_up_n _ _ t_617]; exact f_585
  have t_619 : a16 ≠ a33 := nw_ne f_586 hn_596
  have f_620 : h_597 a16 = some (.inl (2, 4, .inr (.inl (fun _ => 0)))) := by rw [eh_597, ac_up_n _ _ t_619]; exact f_586
  have t_621 : a21 ≠ a33 := nw_ne f_587 hn_596
  have f_622 : h_597 a21 = some (.inl (1, 10, .inl (fun _ => 0))) := by rw [eh_597, ac_up_n _ _ t_621]; exact f_587
  have t_623 : a22 ≠ a33 := nw_ne f_588 hn_596
  have f_624 : h_597 a22 = some (.inl (1, 10, .inl (fun _ => 0))) := by rw [eh_597, ac_up_n _ _ t_623]; exact f_588
  have t_625 : a23 ≠ a33 := nw_ne f_589 hn_596
  have f_626 : h_597 a23 = some (.inl (1, 10, .inl (fun _ => 0))) := by rw [eh_597, ac_up_n _ _ t_625]; exact f_589
  have t_627 : a24 ≠ a33 := nw_ne f_590 hn_596
  have f_628 : h_597 a24 = some (.inl (1, 10, .inl (fun _ => 0))) := by rw [eh_597, ac_up_n _ _ t_627]; exact f_590
  have t_629 : a25 ≠ a33 := nw_ne f_591 hn_596
  have f_630 : h_597 a25 = some (.inl (1, 10, .inl (fun _ => 0))) := by rw [eh_597, ac_up_n _ _ t_629]; exact f_591
  have t_631 : a26 ≠ a33 := nw_ne f_592 hn_596
  have f_632 : h_597 a26 = some (.inl (1, 10, .inl (fun _ => 0))) := by rw [eh_597, ac_up_n _ _ t_631]; exact f_592
  have t_633 : a27 ≠ a33 := nw_ne f_593 hn_596
  have f_634 : h_597 a27 = some (.inl (2, 320, .inr (.inl (fun _ => 0)))) := by rw [eh_597, ac_up_n _ _ t_633]; exact f_593
  have f_635 : h_597 a33 = some (.inl (1, 12, .inl (fun _ => 0))) := by rw [eh_597]; exact ac_up_s _ _ _
  have kp_636 : kp h h_597 [o] := by rw [eh_597]; exact kp_new n_598 kp_595
  refine pfX9_62_9 C hnm dX9_init_150 f_600 rfl rfl (Nat.le_of_ble_eq_true rfl) (q := 153) rfl ?_
  show aw G 1 M 153 [.ref o] [] (ac_up h_597 o (.inr (9, [.int 0, .ref a1, .int 0, .int 0, .int 0, .ref a5, .ref a6, .ref a7, .ref a8, .ref a9, .ref a10, .int 0, .ref a12, .ref a13, .int 0, .int 0, .ref a16, .int 0, .int 0, .int 0, .int 0, .ref a21, .ref a22, .ref a23, .ref a24, .ref a25, .ref a26, .ref a27, .int 0, .int 0, .int 0, .int 0, .int 0, .ref a33, .int 0, .null, .null, .null, .null, .null, .null, .int 0, .null, .null]))) ((((((((((((((((((0 + 1) + 1) + 1) + 1) + 1) + 1) + 1) + 1) + 1) + 1) + 1) + 1) + 1) + 1) + 1) + 1) + 1) + 1) ((((((((((((((((((0 + 300) + 2800) + 2800) + 7) + 7) + 91) + 91) + 320) + 320) + 4) + 10) + 10) + 10) + 10) + 10) + 10) + 320) + 12)
  obtain ⟨h_637, eh_637⟩ : ∃ z9, z9 = ac_up h_597 o (.inr (9, [.int 0, .ref a1, .int 0, .int 0, .int 0, .ref a5, .ref a6, .ref a7, .ref a8, .ref a9, .ref a10, .int 0, .ref a12, .ref a13, .int 0, .int 0, .ref a16, .int 0, .int 0, .int 0, .int 0, .ref a21, .ref a22, .ref a23, .ref a24, .ref a25, .ref a26, .ref a27, .int 0, .int 0, .int 0, .int 0, .int 0, .ref a33, .int 0, .null, .null, .null, .null, .null, .null, .int 0, .null, .null])) := ⟨_, rfl⟩
  rw [← eh_637]
  have f_638 : h_637 a1 = some (.inl (1, 300, .inl (fun _ => 0))) := by rw [eh_637, ac_up_n _ _ (Ne.symm t_4)]; exact f_602
  have f_639 : h_637 a5 = some (.inl (1, 2800, .inl (fun _ => 0))) := by rw [eh_637, ac_up_n _ _ (Ne.symm t_15)]; exact f_604
  have f_640 : h_637 a6 = some (.inl (1, 2800, .inl (fun _ => 0))) := by rw [eh_637, ac_up_n _ _ (Ne.symm t_29)]; exact f_606
  have f_641 : h_637 a7 = some (.inl (1, 7, .inl (fun _ => 0))) := by rw [eh_637, ac_up_n _ _ (Ne.symm t_46)]; exact f_608
  have f_642 : h_637 a8 = some (.inl (1, 7, .inl (fun _ => 0))) := by rw [eh_637, ac_up_n _ _ (Ne.symm t_66)]; exact f_610
  have f_643 : h_637 a9 = some (.inl (1, 91, .inl (fun _ => 0))) := by rw [eh_637, ac_up_n _ _ (Ne.symm t_89)]; exact f_612
  have f_644 : h_637 a10 = some (.inl (1, 91, .inl (fun _ => 0))) := by rw [eh_637, ac_up_n _ _ (Ne.symm t_115)]; exact f_614
  have f_645 : h_637 a12 = some (.inl (1, 320, .inl (fun _ => 0))) := by rw [eh_637, ac_up_n _ _ (Ne.symm t_144)]; exact f_616
  have f_646 : h_637 a13 = some (.inl (1, 320, .inl (fun _ => 0))) := by rw [eh_637, ac_up_n _ _ (Ne.symm t_176)]; exact f_618
  have f_647 : h_637 a16 = some (.inl (2, 4, .inr (.inl (fun _ => 0)))) := by rw [eh_637, ac_up_n _ _ (Ne.symm t_211)]; exact f_620
  have f_648 : h_637 a21 = some (.inl (1, 10, .inl (fun _ => 0))) := by rw [eh_637, ac_up_n _ _ (Ne.symm t_249)]; exact f_622
  have f_649 : h_637 a22 = some (.inl (1, 10, .inl (fun _ => 0))) := by rw [eh_637, ac_up_n _ _ (Ne.symm t_290)]; exact f_624
  have f_650 : h_637 a23 = some (.inl (1, 10, .inl (fun _ => 0))) := by rw [eh_637, ac_up_n _ _ (Ne.symm t_334)]; exact f_626
  have f_651 : h_637 a24 = some (.inl (1, 10, .inl (fun _ => 0))) := by rw [eh_637, ac_up_n _ _ (Ne.symm t_381)]; exact f_628
  have f_652 : h_637 a25 = some (.inl (1, 10, .inl (fun _ => 0))) := by rw [eh_637, ac_up_n _ _ (Ne.symm t_431)]; exact f_630
  have f_653 : h_637 a26 = some (.inl (1, 10, .inl (fun _ => 0))) := by rw [eh_637, ac_up_n _ _ (Ne.symm t_484)]; exact f_632
  have f_654 : h_637 a27 = some (.inl (2, 320, .inr (.inl (fun _ => 0)))) := by rw [eh_637, ac_up_n _ _ (Ne.symm t_540)]; exact f_634
  have f_655 : h_637 a33 = some (.inl (1, 12, .inl (fun _ => 0))) := by rw [eh_637, ac_up_n _ _ (Ne.symm t_599)]; exact f_635
  have f_656 : h_637 o = some (.inr (9, [.int 0, .ref a1, .int 0, .int 0, .int 0, .ref a5, .ref a6, .ref a7, .ref a8, .ref a9, .ref a10, .int 0, .ref a12, .ref a13, .int 0, .int 0, .ref a16, .int 0, .int 0, .int 0, .int 0, .ref a21, .ref a22, .ref a23, .ref a24, .ref a25, .ref a26, .ref a27, .int 0, .int 0, .int 0, .int 0, .int 0, .ref a33, .int 0, .null, .null, .null, .null, .null, .null, .int 0, .null, .null])) := by rw [eh_637]; exact ac_up_s _ _ _
  have kp_657 : kp h h_637 [o] := by rw [eh_637]; exact kp_up kp_636 _ _ (by simp)
  refine aw_aload_n C dX9_init_153 rfl rfl (q := 154) rfl ?_
  refine aw_bipush (v := 12) C dX9_init_154 (by decide) (q := 156) rfl ?_
  refine ay_newI3 (N := 12) C dX9_init_156 (by decide) rfl (by decide) (Nat.le_trans (by omega) B.2.2.1) (Nat.le_trans (by omega) B.2.2.2) (q := 158) rfl (fun a35 hn_658 _ => ?_)
  show aw G 1 M 158 [.ref o] [.ref a35, .ref o] (ac_up h_637 a35 (.inl (1, 12, .inl (fun _ => 0)))) (((((((((((((((((((0 + 1) + 1) + 1) + 1) + 1) + 1) + 1) + 1) + 1) + 1) + 1) + 1) + 1) + 1) + 1) + 1) + 1) + 1) + 1) (((((((((((((((((((0 + 300) + 2800) + 2800) + 7) + 7) + 91) + 91) + 320) + 320) + 4) + 10) + 10) + 10) + 10) + 10) + 10) + 320) + 12) + 12)
  obtain ⟨h_659, eh_659⟩ : ∃ z9, z9 = ac_up h_637 a35 (.inl (1, 12, .inl (fun _ => 0))) := ⟨_, rfl⟩
  rw [← eh_659]
  have n_660 : h a35 = none := kp_none kp_657 hn_658 (ni1 (Ne.symm (nw_ne f_656 hn_658)) ni0)
  have t_661 : o ≠ a35 := nw_ne f_656 hn_658
  have f_662 : h_659 o = some (.inr (9, [.int 0, .ref a1, .int 0, .int 0, .int 0, .ref a5, .ref a6, .ref a7, .ref a8, .ref a9, .ref a10, .int 0, .ref a12, .ref a13, .int 0, .int 0, .ref a16, .int 0, .int 0, .int 0, .int 0, .ref a21, .ref a22, .ref a23, .ref a24, .ref a25, .ref a26, .ref a27, .int 0, .int 0, .int 0, .int 0, .int 0, .ref a33, .int 0, .null, .null, .null, .null, .null, .null, .int 0, .null, .null])) := by rw [eh_659, ac_up_n _ _ t_661]; exact f_656
  have t_663 : a1 ≠ a35 := nw_ne f_638 hn_658
  have f_664 : h_659 a1 = some (.inl (1, 300, .inl (fun _ => 0))) := by rw [eh_659, ac_up_n _ _ t_663]; exact f_638
  have t_665 : a5 ≠ a35 := nw_ne f_639 hn_658
  have f_666 : h_659 a5 = some (.inl (1, 2800, .inl (fun _ => 0))) := by rw [eh_659, ac_up_n _ _ t_665]; exact f_639
  have t_667 : a6 ≠ a35 := nw_ne f_640 hn_658
  have f_668 : h_659 a6 = some (.inl (1, 2800, .inl (fun _ => 0))) := by rw [eh_659, ac_up_n _ _ t_667]; exact f_640
  have t_669 : a7 ≠ a35 := nw_ne f_641 hn_658
  have f_670 : h_659 a7 = some (.inl (1, 7, .inl (fun _ => 0))) := by rw [eh_659, ac_up_n _ _ t_669]; exact f_641
  have t_671 : a8 ≠ a35 := nw_ne f_642 hn_658
  have f_672 : h_659 a8 = some (.inl (1, 7, .inl (fun _ => 0))) := by rw [eh_659, ac_up_n _ _ t_671]; exact f_642
  have t_673 : a9 ≠ a35 := nw_ne f_643 hn_658
  have f_674 : h_659 a9 = some (.inl (1, 91, .inl (fun _ => 0))) := by rw [eh_659, ac_up_n _ _ t_673]; exact f_643
  have t_675 : a10 ≠ a35 := nw_ne f_644 hn_658
  have f_676 : h_659 a10 = some (.inl (1, 91, .inl (fun _ => 0))) := by rw [eh_659, ac_up_n _ _ t_675]; exact f_644
  have t_677 : a12 ≠ a35 := nw_ne f_645 hn_658
  have f_678 : h_659 a12 = some (.inl (1, 320, .inl (fun _ => 0))) := by rw [eh_659, ac_up_n _ _ t_677]; exact f_645
  have t_679 : a13 ≠ a35 := nw_ne f_646 hn_658
  have f_680 : h_659 a13 = some (.inl (1, 320, .inl (fun _ => 0))) := by rw [eh_659, ac_up_n _ _ t_679]; exact f_646
  have t_681 : a16 ≠ a35 := nw_ne f_647 hn_658
  have f_682 : h_659 a16 = some (.inl (2, 4, .inr (.inl (fun _ => 0)))) := by rw [eh_659, ac_up_n _ _ t_681]; exact f_647
  have t_683 : a21 ≠ a35 := nw_ne f_648 hn_658
  have f_684 : h_659 a21 = some (.inl (1, 10, .inl (fun _ => 0))) := by rw [eh_659, ac_up_n _ _ t_683]; exact f_648
  have t_685 : a22 ≠ a35 := nw_ne f_649 hn_658
  have f_686 : h_659 a22 = some (.inl (1, 10, .inl (fun _ => 0))) := by rw [eh_659, ac_up_n _ _ t_685]; exact f_649
  have t_687 : a23 ≠ a35 := nw_ne f_650 hn_658
  have f_688 : h_659 a23 = some (.inl (1, 10, .inl (fun _ => 0))) := by rw [eh_659, ac_up_n _ _ t_687]; exact f_650
  have t_689 : a24 ≠ a35 := nw_ne f_651 hn_658
  have f_690 : h_659 a24 = some (.inl (1, 10, .inl (fun _ => 0))) := by rw [eh_659, ac_up_n _ _ t_689]; exact f_651
  have t_691 : a25 ≠ a35 := nw_ne f_652 hn_658
  have f_692 : h_659 a25 = some (.inl (1, 10, .inl (fun _ => 0))) := by rw [eh_659, ac_up_n _ _ t_691]; exact f_652
  have t_693 : a26 ≠ a35 := nw_ne f_653 hn_658
  have f_694 : h_659 a26 = some (.inl (1, 10, .inl (fun _ => 0))) := by rw [eh_659, ac_up_n _ _ t_693]; exact f_653
  have t_695 : a27 ≠ a35 := nw_ne f_654 hn_658
  have f_696 : h_659 a27 = some (.inl (2, 320, .inr (.inl (fun _ => 0)))) := by rw [eh_659, ac_up_n _ _ t_695]; exact f_654
  have t_697 : a33 ≠ a35 := nw_ne f_655 hn_658
  have f_698 : h_659 a33 = some (.inl (1, 12, .inl (fun _ => 0))) := by rw [eh_659, ac_up_n _ _ t_697]; exact f_655
  have f_699 : h_659 a35 = some (.inl (1, 12, .inl (fun _ => 0))) := by rw [eh_659]; exact ac_up_s _ _ _
  have kp_700 : kp h h_659 [o] := by rw [eh_659]; exact kp_new n_660 kp_657
  refine pfX9_65_9 C hnm dX9_init_158 f_662 rfl rfl (Nat.le_of_ble_eq_true rfl) (q := 161) rfl ?_
  show aw G 1 M 161 [.ref o] [] (ac_up h_659 o (.inr (9, [.int 0, .ref a1, .int 0, .int 0, .int 0, .ref a5, .ref a6, .ref a7, .ref a8, .ref a9, .ref a10, .int 0, .ref a12, .ref a13, .int 0, .int 0, .ref a16, .int 0, .int 0, .int 0, .int 0, .ref a21, .ref a22, .ref a23, .ref a24, .ref a25, .ref a26, .ref a27, .int 0, .int 0, .int 0, .int 0, .int 0, .ref a33, .int 0, .ref a35, .null, .null, .null, .null, .null, .int 0, .null, .null]))) (((((((((((((((((((0 + 1) + 1) + 1) + 1) + 1) + 1) + 1) + 1) + 1) + 1) + 1) + 1) + 1) + 1) + 1) + 1) + 1) + 1) + 1) (((((((((((((((((((0 + 300) + 2800) + 2800) + 7) + 7) + 91) + 91) + 320) + 320) + 4) + 10) + 10) + 10) + 10) + 10) + 10) + 320) + 12) + 12)
  obtain ⟨h_701, eh_701⟩ : ∃ z9, z9 = ac_up h_659 o (.inr (9, [.int 0, .ref a1, .int 0, .int 0, .int 0, .ref a5, .ref a6, .ref a7, .ref a8, .ref a9, .ref a10, .int 0, .ref a12, .ref a13, .int 0, .int 0, .ref a16, .int 0, .int 0, .int 0, .int 0, .ref a21, .ref a22, .ref a23, .ref a24, .ref a25, .ref a26, .ref a27, .int 0, .int 0, .int 0, .int 0, .int 0, .ref a33, .int 0, .ref a35, .null, .null, .null, .null, .null, .int 0, .null, .null])) := ⟨_, rfl⟩
  rw [← eh_701]
  have f_702 : h_701 a1 = some (.inl (1, 300, .inl (fun _ => 0))) := by rw [eh_701, ac_up_n _ _ (Ne.symm t_4)]; exact f_664
  have f_703 : h_701 a5 = some (.inl (1, 2800, .inl (fun _ => 0))) := by rw [eh_701, ac_up_n _ _ (Ne.symm t_15)]; exact f_666
  have f_704 : h_701 a6 = some (.inl (1, 2800, .inl (fun _ => 0))) := by rw [eh_701, ac_up_n _ _ (Ne.symm t_29)]; exact f_668
  have f_705 : h_701 a7 = some (.inl (1, 7, .inl (fun _ => 0))) := by rw [eh_701, ac_up_n _ _ (Ne.symm t_46)]; exact f_670
  have f_706 : h_701 a8 = some (.inl (1, 7, .inl (fun _ => 0))) := by rw [eh_701, ac_up_n _ _ (Ne.symm t_66)]; exact f_672
  have f_707 : h_701 a9 = some (.inl (1, 91, .inl (fun _ => 0))) := by rw [eh_701, ac_up_n _ _ (Ne.symm t_89)]; exact f_674
  have f_708 : h_701 a10 = some (.inl (1, 91, .inl (fun _ => 0))) := by rw [eh_701, ac_up_n _ _ (Ne.symm t_115)]; exact f_676
  have f_709 : h_701 a12 = some (.inl (1, 320, .inl (fun _ => 0))) := by rw [eh_701, ac_up_n _ _ (Ne.symm t_144)]; exact f_678
  have f_710 : h_701 a13 = some (.inl (1, 320, .inl (fun _ => 0))) := by rw [eh_701, ac_up_n _ _ (Ne.symm t_176)]; exact f_680
  have f_711 : h_701 a16 = some (.inl (2, 4, .inr (.inl (fun _ => 0)))) := by rw [eh_701, ac_up_n _ _ (Ne.symm t_211)]; exact f_682
  have f_712 : h_701 a21 = some (.inl (1, 10, .inl (fun _ => 0))) := by rw [eh_701, ac_up_n _ _ (Ne.symm t_249)]; exact f_684
  have f_713 : h_701 a22 = some (.inl (1, 10, .inl (fun _ => 0))) := by rw [eh_701, ac_up_n _ _ (Ne.symm t_290)]; exact f_686
  have f_714 : h_701 a23 = some (.inl (1, 10, .inl (fun _ => 0))) := by rw [eh_701, ac_up_n _ _ (Ne.symm t_334)]; exact f_688
  have f_715 : h_701 a24 = some (.inl (1, 10, .inl (fun _ => 0))) := by rw [eh_701, ac_up_n _ _ (Ne.symm t_381)]; exact f_690
  have f_716 : h_701 a25 = some (.inl (1, 10, .inl (fun _ => 0))) := by rw [eh_701, ac_up_n _ _ (Ne.symm t_431)]; exact f_692
  have f_717 : h_701 a26 = some (.inl (1, 10, .inl (fun _ => 0))) := by rw [eh_701, ac_up_n _ _ (Ne.symm t_484)]; exact f_694
  have f_718 : h_701 a27 = some (.inl (2, 320, .inr (.inl (fun _ => 0)))) := by rw [eh_701, ac_up_n _ _ (Ne.symm t_540)]; exact f_696
  have f_719 : h_701 a33 = some (.inl (1, 12, .inl (fun _ => 0))) := by rw [eh_701, ac_up_n _ _ (Ne.symm t_599)]; exact f_698
  have f_720 : h_701 a35 = some (.inl (1, 12, .inl (fun _ => 0))) := by rw [eh_701, ac_up_n _ _ (Ne.symm t_661)]; exact f_699
  have f_721 : h_701 o = some (.inr (9, [.int 0, .ref a1, .int 0, .int 0, .int 0, .ref a5, .ref a6, .ref a7, .ref a8, .ref a9, .ref a10, .int 0, .ref a12, .ref a13, .int 0, .int 0, .ref a16, .int 0, .int 0, .int 0, .int 0, .ref a21, .ref a22, .ref a23, .ref a24, .ref a25, .ref a26, .ref a27, .int 0, .int 0, .int 0, .int 0, .int 0, .ref a33, .int 0, .ref a35, .null, .null, .null, .null, .null, .int 0, .null, .null])) := by rw [eh_701]; exact ac_up_s _ _ _
  have kp_722 : kp h h_701 [o] := by rw [eh_701]; exact kp_up kp_700 _ _ (by simp)
  refine aw_aload_n C dX9_init_161 rfl rfl (q := 162) rfl ?_
  refine aw_bipush (v := 12) C dX9_init_162 (by decide) (q := 164) rfl ?_
  refine ay_newI3 (N := 12) C dX9_init_164 (by decide) rfl (by decide) (Nat.le_trans (by omega) B.2.2.1) (Nat.le_trans (by omega) B.2.2.2) (q := 166) rfl (fun a36 hn_723 _ => ?_)
  show aw G 1 M 166 [.ref o] [.ref a36, .ref o] (ac_up h_701 a36 (.inl (1, 12, .inl (fun _ => 0)))) ((((((((((((((((((((0 + 1) + 1) + 1) + 1) + 1) + 1) + 1) + 1) + 1) + 1) + 1) + 1) + 1) + 1) + 1) + 1) + 1) + 1) + 1) + 1) ((((((((((((((((((((0 + 300) + 2800) + 2800) + 7) + 7) + 91) + 91) + 320) + 320) + 4) + 10) + 10) + 10) + 10) + 10) + 10) + 320) + 12) + 12) + 12)
  obtain ⟨h_724, eh_724⟩ : ∃ z9, z9 = ac_up h_701 a36 (.inl (1, 12, .inl (fun _ => 0))) := ⟨_, rfl⟩
  rw [← eh_724]
  have n_725 : h a36 = none := kp_none kp_722 hn_723 (ni1 (Ne.symm (nw_ne f_721 hn_723)) ni0)
  have t_726 : o ≠ a36 := nw_ne f_721 hn_723
  have f_727 : h_724 o = some (.inr (9, [.int 0, .ref a1, .int 0, .int 0, .int 0, .ref a5, .ref a6, .ref a7, .ref a8, .ref a9, .ref a10, .int 0, .ref a12, .ref a13, .int 0, .int 0, .ref a16, .int 0, .int 0, .int 0, .int 0, .ref a21, .ref a22, .ref a23, .ref a24, .ref a25, .ref a26, .ref a27, .int 0, .int 0, .int 0, .int 0, .int 0, .ref a33, .int 0, .ref a35, .null, .null, .null, .null, .null, .int 0, .null, .null])) := by rw [eh_724, ac_up_n _ _ t_726]; exact f_721
  have t_728 : a1 ≠ a36 := nw_ne f_702 hn_723
  have f_729 : h_724 a1 = some (.inl (1, 300, .inl (fun _ => 0))) := by rw [eh_724, ac_up_n _ _ t_728]; exact f_702
  have t_730 : a5 ≠ a36 := nw_ne f_703 hn_723
  have f_731 : h_724 a5 = some (.inl (1, 2800, .inl (fun _ => 0))) := by rw [eh_724, ac_up_n _ _ t_730]; exact f_703
  have t_732 : a6 ≠ a36 := nw_ne f_704 hn_723
  have f_733 : h_724 a6 = some (.inl (1, 2800, .inl (fun _ => 0))) := by rw [eh_724, ac_up_n _ _ t_732]; exact f_704
  have t_734 : a7 ≠ a36 := nw_ne f_705 hn_723
  have f_735 : h_724 a7 = some (.inl (1, 7, .inl (fun _ => 0))) := by rw [eh_724, ac_up_n _ _ t_734]; exact f_705
  have t_736 : a8 ≠ a36 := nw_ne f_706 hn_723
  have f_737 : h_724 a8 = some (.inl (1, 7, .inl (fun _ => 0))) := by rw [eh_724, ac_up_n _ _ t_736]; exact f_706
  have t_738 : a9 ≠ a36 := nw_ne f_707 hn_723
  have f_739 : h_724 a9 = some (.inl (1, 91, .inl (fun _ => 0))) := by rw [eh_724, ac_up_n _ _ t_738]; exact f_707
  have t_740 : a10 ≠ a36 := nw_ne f_708 hn_723
  have f_741 : h_724 a10 = some (.inl (1, 91, .inl (fun _ => 0))) := by rw [eh_724, ac_up_n _ _ t_740]; exact f_708
  have t_742 : a12 ≠ a36 := nw_ne f_709 hn_723
  have f_743 : h_724 a12 = some (.inl (1, 320, .inl (fun _ => 0))) := by rw [eh_724, ac_up_n _ _ t_742]; exact f_709
  have t_744 : a13 ≠ a36 := nw_ne f_710 hn_723
  have f_745 : h_724 a13 = some (.inl (1, 320, .inl (fun _ => 0))) := by rw [eh_724, ac_up_n _ _ t_744]; exact f_710
  have t_746 : a16 ≠ a36 := nw_ne f_711 hn_723
  have f_747 : h_724 a16 = some (.inl (2, 4, .inr (.inl (fun _ => 0)))) := by rw [eh_724, ac_up_n _ _ t_746]; exact f_711
  have t_748 : a21 ≠ a36 := nw_ne f_712 hn_723
  have f_749 : h_724 a21 = some (.inl (1, 10, .inl (fun _ => 0))) := by rw [eh_724, ac_up_n _ _ t_748]; exact f_712
  have t_750 : a22 ≠ a36 := nw_ne f_713 hn_723
  have f_751 : h_724 a22 = some (.inl (1, 10, .inl (fun _ => 0))) := by rw [eh_724, ac_up_n _ _ t_750]; exact f_713
  have t_752 : a23 ≠ a36 := nw_ne f_714 hn_723
  have f_753 : h_724 a23 = some (.inl (1, 10, .inl (fun _ => 0))) := by rw [eh_724, ac_up_n _ _ t_752]; exact f_714
  have t_754 : a24 ≠ a36 := nw_ne f_715 hn_723
  have f_755 : h_724 a24 = some (.inl (1, 10, .inl (fun _ => 0))) := by rw [eh_724, ac_up_n _ _ t_754]; exact f_715
  have t_756 : a25 ≠ a36 := nw_ne f_716 hn_723
  have f_757 : h_724 a25 = some (.inl (1, 10, .inl (fun _ => 0))) := by rw [eh_724, ac_up_n _ _ t_756]; exact f_716
  have t_758 : a26 ≠ a36 := nw_ne f_717 hn_723
  have f_759 : h_724 a26 = some (.inl (1, 10, .inl (fun _ => 0))) := by rw [eh_724, ac_up_n _ _ t_758]; exact f_717
  have t_760 : a27 ≠ a36 := nw_ne f_718 hn_723
  have f_761 : h_724 a27 = some (.inl (2, 320, .inr (.inl (fun _ => 0)))) := by rw [eh_724, ac_up_n _ _ t_760]; exact f_718
  have t_762 : a33 ≠ a36 := nw_ne f_719 hn_723
  have f_763 : h_724 a33 = some (.inl (1, 12, .inl (fun _ => 0))) := by rw [eh_724, ac_up_n _ _ t_762]; exact f_719
  have t_764 : a35 ≠ a36 := nw_ne f_720 hn_723
  have f_765 : h_724 a35 = some (.inl (1, 12, .inl (fun _ => 0))) := by rw [eh_724, ac_up_n _ _ t_764]; exact f_720
  have f_766 : h_724 a36 = some (.inl (1, 12, .inl (fun _ => 0))) := by rw [eh_724]; exact ac_up_s _ _ _
  have kp_767 : kp h h_724 [o] := by rw [eh_724]; exact kp_new n_725 kp_722
  refine pfX9_68_9 C hnm dX9_init_166 f_727 rfl rfl (Nat.le_of_ble_eq_true rfl) (q := 169) rfl ?_
  show aw G 1 M 169 [.ref o] [] (ac_up h_724 o (.inr (9, [.int 0, .ref a1, .int 0, .int 0, .int 0, .ref a5, .ref a6, .ref a7, .ref a8, .ref a9, .ref a10, .int 0, .ref a12, .ref a13, .int 0, .int 0, .ref a16, .int 0, .int 0, .int 0, .int 0, .ref a21, .ref a22, .ref a23, .ref a24, .ref a25, .ref a26, .ref a27, .int 0, .int 0, .int 0, .int 0, .int 0, .ref a33, .int 0, .ref a35, .ref a36, .null, .null, .null, .null, .int 0, .null, .null]))) ((((((((((((((((((((0 + 1) + 1) + 1) + 1) + 1) + 1) + 1) + 1) + 1) + 1) + 1) + 1) + 1) + 1) + 1) + 1) + 1) + 1) + 1) + 1) ((((((((((((((((((((0 + 300) + 2800) + 2800) + 7) + 7) + 91) + 91) + 320) + 320) + 4) + 10) + 10) + 10) + 10) + 10) + 10) + 320) + 12) + 12) + 12)
  obtain ⟨h_768, eh_768⟩ : ∃ z9, z9 = ac_up h_724 o (.inr (9, [.int 0, .ref a1, .int 0, .int 0, .int 0, .ref a5, .ref a6, .ref a7, .ref a8, .ref a9, .ref a10, .int 0, .ref a12, .ref a13, .int 0, .int 0, .ref a16, .int 0, .int 0, .int 0, .int 0, .ref a21, .ref a22, .ref a23, .ref a24, .ref a25, .ref a26, .ref a27, .int 0, .int 0, .int 0, .int 0, .int 0, .ref a33, .int 0, .ref a35, .ref a36, .null, .null, .null, .null, .int 0, .null, .null])) := ⟨_, rfl⟩
  rw [← eh_768]
  have f_769 : h_768 a1 = some (.inl (1, 300, .inl (fun _ => 0))) := by rw [eh_768, ac_up_n _ _ (Ne.symm t_4)]; exact f_729
  have f_770 : h_768 a5 = some (.inl (1, 2800, .inl (fun _ => 0))) := by rw [eh_768, ac_up_n _ _ (Ne.symm t_15)]; exact f_731
  have f_771 : h_768 a6 = some (.inl (1, 2800, .inl (fun _ => 0))) := by rw [eh_768, ac_up_n _ _ (Ne.symm t_29)]; exact f_733
  have f_772 : h_768 a7 = some (.inl (1, 7, .inl (fun _ => 0))) := by rw [eh_768, ac_up_n _ _ (Ne.symm t_46)]; exact f_735
  have f_773 : h_768 a8 = some (.inl (1, 7, .inl (fun _ => 0))) := by rw [eh_768, ac_up_n _ _ (Ne.symm t_66)]; exact f_737
  have f_774 : h_768 a9 = some (.inl (1, 91, .inl (fun _ => 0))) := by rw [eh_768, ac_up_n _ _ (Ne.symm t_89)]; exact f_739
  have f_775 : h_768 a10 = some (.inl (1, 91, .inl (fun _ => 0))) := by rw [eh_768, ac_up_n _ _ (Ne.symm t_115)]; exact f_741
  have f_776 : h_768 a12 = some (.inl (1, 320, .inl (fun _ => 0))) := by rw [eh_768, ac_up_n _ _ (Ne.symm t_144)]; exact f_743
  have f_777 : h_768 a13 = some (.inl (1, 320, .inl (fun _ => 0))) := by rw [eh_768, ac_up_n _ _ (Ne.symm t_176)]; exact f_745
  have f_778 : h_768 a16 = some (.inl (2, 4, .inr (.inl (fun _ => 0)))) := by rw [eh_768, ac_up_n _ _ (Ne.symm t_211)]; exact f_747
  have f_779 : h_768 a21 = some (.inl (1, 10, .inl (fun _ => 0))) := by rw [eh_768, ac_up_n _ _ (Ne.symm t_249)]; exact f_749
  have f_780 : h_768 a22 = some (.inl (1, 10, .inl (fun _ => 0))) := by rw [eh_768, ac_up_n _ _ (Ne.symm t_290)]; exact f_751
  have f_781 : h_768 a23 = some (.inl (1, 10, .inl (fun _ => 0))) := by rw [eh_768, ac_up_n _ _ (Ne.symm t_334)]; exact f_753
  have f_782 : h_768 a24 = some (.inl (1, 10, .inl (fun _ => 0))) := by rw [eh_768, ac_up_n _ _ (Ne.symm t_381)]; exact f_755
  have f_783 : h_768 a25 = some (.inl (1, 10, .inl (fun _ => 0))) := by rw [eh_768, ac_up_n _ _ (Ne.symm t_431)]; exact f_757
  have f_784 : h_768 a26 = some (.inl (1, 10, .inl (fun _ => 0))) := by rw [eh_768, ac_up_n _ _ (Ne.symm t_484)]; exact f_759
  have f_785 : h_768 a27 = some (.inl (2, 320, .inr (.inl (fun _ => 0)))) := by rw [eh_768, ac_up_n _ _ (Ne.symm t_540)]; exact f_761
  have f_786 : h_768 a33 = some (.inl (1, 12, .inl (fun _ => 0))) := by rw [eh_768, ac_up_n _ _ (Ne.symm t_599)]; exact f_763
  have f_787 : h_768 a35 = some (.inl (1, 12, .inl (fun _ => 0))) := by rw [eh_768, ac_up_n _ _ (Ne.symm t_661)]; exact f_765
  have f_788 : h_768 a36 = some (.inl (1, 12, .inl (fun _ => 0))) := by rw [eh_768, ac_up_n _ _ (Ne.symm t_726)]; exact f_766
  have f_789 : h_768 o = some (.inr (9, [.int 0, .ref a1, .int 0, .int 0, .int 0, .ref a5, .ref a6, .ref a7, .ref a8, .ref a9, .ref a10, .int 0, .ref a12, .ref a13, .int 0, .int 0, .ref a16, .int 0, .int 0, .int 0, .int 0, .ref a21, .ref a22, .ref a23, .ref a24, .ref a25, .ref a26, .ref a27, .int 0, .int 0, .int 0, .int 0, .int 0, .ref a33, .int 0, .ref a35, .ref a36, .null, .null, .null, .null, .int 0, .null, .null])) := by rw [eh_768]; exact ac_up_s _ _ _
  have kp_790 : kp h h_768 [o] := by rw [eh_768]; exact kp_up kp_767 _ _ (by simp)
  refine aw_aload_n C dX9_init_169 rfl rfl (q := 170) rfl ?_
  refine aw_bipush (v := 12) C dX9_init_170 (by decide) (q := 172) rfl ?_
  refine ay_newI3 (N := 12) C dX9_init_172 (by decide) rfl (by decide) (Nat.le_trans (by omega) B.2.2.1) (Nat.le_trans (by omega) B.2.2.2) (q := 174) rfl (fun a37 hn_791 _ => ?_)
  show aw G 1 M 174 [.ref o] [.ref a37, .ref o] (ac_up h_768 a37 (.inl (1, 12, .inl (fun _ => 0)))) (((((((((((((((((((((0 + 1) + 1) + 1) + 1) + 1) + 1) + 1) + 1) + 1) + 1) + 1) + 1) + 1) + 1) + 1) + 1) + 1) + 1) + 1) + 1) + 1) (((((((((((((((((((((0 + 300) + 2800) + 2800) + 7) + 7) + 91) + 91) + 320) + 320) + 4) + 10) + 10) + 10) + 10) + 10) + 10) + 320) + 12) + 12) + 12) + 12)
  obtain ⟨h_792, eh_792⟩ : ∃ z9, z9 = ac_up h_768 a37 (.inl (1, 12, .inl (fun _ => 0))) := ⟨_, rfl⟩
  rw [← eh_792]
  have n_793 : h a37 = none := kp_none kp_790 hn_791 (ni1 (Ne.symm (nw_ne f_789 hn_791)) ni0)
  have t_794 : o ≠ a37 := nw_ne f_789 hn_791
  have f_795 : h_792 o = some (.inr (9, [.int 0, .ref a1, .int 0, .int 0, .int 0, .ref a5, .ref a6, .ref a7, .ref a8, .ref a9, .ref a10, .int 0, .ref a12, .ref a13, .int 0, .int 0, .ref a16, .int 0, .int 0, .int 0, .int 0, .ref a21, .ref a22, .ref a23, .ref a24, .ref a25, .ref a26, .ref a27, .int 0, .int 0, .int 0, .int 0, .int 0, .ref a33, .int 0, .ref a35, .ref a36, .null, .null, .null, .null, .int 0, .null, .null])) := by rw [eh_792, ac_up_n _ _ t_794]; exact f_789
  have t_796 : a1 ≠ a37 := nw_ne f_769 hn_791
  have f_797 : h_792 a1 = some (.inl (1, 300, .inl (fun _ => 0))) := by rw [eh_792, ac_up_n _ _ t_796]; exact f_769
  have t_798 : a5 ≠ a37 := nw_ne f_770 hn_791
  have f_799 : h_792 a5 = some (.inl (1, 2800, .inl (fun _ => 0))) := by rw [eh_792, ac_up_n _ _ t_798]; exact f_770
  have t_800 : a6 ≠ a37 := nw_ne f_771 hn_791
  have f_801 : h_792 a6 = some (.inl (1, 2800, .inl (fun _ => 0))) := by rw [eh_792, ac_up_n _ _ t_800]; exact f_771
  have t_802 : a7 ≠ a37 := nw_ne f_772 hn_791
  have f_803 : h_792 a7 = some (.inl (1, 7, .inl (fun _ => 0))) := by rw [eh_792, ac_up_n _ _ t_802]; exact f_772
  have t_804 : a8 ≠ a37 := nw_ne f_773 hn_791
  have f_805 : h_792 a8 = some (.inl (1, 7, .inl (fun _ => 0))) := by rw [eh_792, ac_up_n _ _ t_804]; exact f_773
  have t_806 : a9 ≠ a37 := nw_ne f_774 hn_791
  have f_807 : h_792 a9 = some (.inl (1, 91, .inl (fun _ => 0))) := by rw [eh_792, ac_up_n _ _ t_806]; exact f_774
  have t_808 : a10 ≠ a37 := nw_ne f_775 hn_791
  have f_809 : h_792 a10 = some (.inl (1, 91, .inl (fun _ => 0))) := by rw [eh_792, ac_up_n _ _ t_808]; exact f_775
  have t_810 : a12 ≠ a37 := nw_ne f_776 hn_791
  have f_811 : h_792 a12 = some (.inl (1, 320, .inl (fun _ => 0))) := by rw [eh_792, ac_up_n _ _ t_810]; exact f_776
  have t_812 : a13 ≠ a37 := nw_ne f_777 hn_791
  have f_813 : h_792 a13 = some (.inl (1, 320, .inl (fun _ => 0))) := by rw [eh_792, ac_up_n _ _ t_812]; exact f_777
  have t_814 : a16 ≠ a37 := nw_ne f_778 hn_791
  have f_815 : h_792 a16 = some (.inl (2, 4, .inr (.inl (fun _ => 0)))) := by rw [eh_792, ac_up_n _ _ t_814]; exact f_778
  have t_816 : a21 ≠ a37 := nw_ne f_779 hn_791
  have f_817 : h_792 a21 = some (.inl (1, 10, .inl (fun _ => 0))) := by rw [eh_792, ac_up_n _ _ t_816]; exact f_779
  have t_818 : a22 ≠ a37 := nw_ne f_780 hn_791
  have f_819 : h_792 a22 = some (.inl (1, 10, .inl (fun _ => 0))) := by rw [eh_792, ac_up_n _ _ t_818]; exact f_780
  have t_820 : a23 ≠ a37 := nw_ne f_781 hn_791
  have f_821 : h_792 a23 = some (.inl (1, 10, .inl (fun _ => 0))) := by rw [eh_792, ac_up_n _ _ t_820]; exact f_781
  have t_822 : a24 ≠ a37 := nw_ne f_782 hn_791
  have f_823 : h_792 a24 = some (.inl (1, 10, .inl (fun _ => 0))) := by rw [eh_792, ac_up_n _ _ t_822]; exact f_782
  have t_824 : a25 ≠ a37 := nw_ne f_783 hn_791
  have f_825 : h_792 a25 = some (.inl (1, 10, .inl (fun _ => 0))) := by rw [eh_792, ac_up_n _ _ t_824]; exact f_783
  have t_826 : a26 ≠ a37 := nw_ne f_784 hn_791
  have f_827 : h_792 a26 = some (.inl (1, 10, .inl (fun _ => 0))) := by rw [eh_792, ac_up_n _ _ t_826]; exact f_784
  have t_828 : a27 ≠ a37 := nw_ne f_785 hn_791
  have f_829 : h_792 a27 = some (.inl (2, 320, .inr (.inl (fun _ => 0)))) := by rw [eh_792, ac_up_n _ _ t_828]; exact f_785
  have t_830 : a33 ≠ a37 := nw_ne f_786 hn_791
  have f_831 : h_792 a33 = some (.inl (1, 12, .inl (fun _ => 0))) := by rw [eh_792, ac_up_n _ _ t_830]; exact f_786
  have t_832 : a35 ≠ a37 := nw_ne f_787 hn_791
  have f_833 : h_792 a35 = some (.inl (1, 12, .inl (fun _ => 0))) := by rw [eh_792, ac_up_n _ _ t_832]; exact f_787
  have t_834 : a36 ≠ a37 := nw_ne f_788 hn_791
  have f_835 : h_792 a36 = some (.inl (1, 12, .inl (fun _ => 0))) := by rw [eh_792, ac_up_n _ _ t_834]; exact f_788
  have f_836 : h_792 a37 = some (.inl (1, 12, .inl (fun _ => 0))) := by rw [eh_792]; exact ac_up_s _ _ _
  have kp_837 : kp h h_792 [o] := by rw [eh_792]; exact kp_new n_793 kp_790
  refine pfX9_71_9 C hnm dX9_init_174 f_795 rfl rfl (Nat.le_of_ble_eq_true rfl) (q := 177) rfl ?_
  show aw G 1 M 177 [.ref o] [] (ac_up h_792 o (.inr (9, [.int 0, .ref a1, .int 0, .int 0, .int 0, .ref a5, .ref a6, .ref a7, .ref a8, .ref a9, .ref a10, .int 0, .ref a12, .ref a13, .int 0, .int 0, .ref a16, .int 0, .int 0, .int 0, .int 0, .ref a21, .ref a22, .ref a23, .ref a24, .ref a25, .ref a26, .ref a27, .int 0, .int 0, .int 0, .int 0, .int 0, .ref a33, .int 0, .ref a35, .ref a36, .ref a37, .null, .null, .null, .int 0, .null, .null]))) (((((((((((((((((((((0 + 1) + 1) + 1) + 1) + 1) + 1) + 1) + 1) + 1) + 1) + 1) + 1) + 1) + 1) + 1) + 1) + 1) + 1) + 1) + 1) + 1) (((((((((((((((((((((0 + 300) + 2800) + 2800) + 7) + 7) + 91) + 91) + 320) + 320) + 4) + 10) + 10) + 10) + 10) + 10) + 10) + 320) + 12) + 12) + 12) + 12)
  obtain ⟨h_838, eh_838⟩ : ∃ z9, z9 = ac_up h_792 o (.inr (9, [.int 0, .ref a1, .int 0, .int 0, .int 0, .ref a5, .ref a6, .ref a7, .ref a8, .ref a9, .ref a10, .int 0, .ref a12, .ref a13, .int 0, .int 0, .ref a16, .int 0, .int 0, .int 0, .int 0, .ref a21, .ref a22, .ref a23, .ref a24, .ref a25, .ref a26, .ref a27, .int 0, .int 0, .int 0, .int 0, .int 0, .ref a33, .int 0, .ref a35, .ref a36, .ref a37, .null, .null, .null, .int 0, .null, .null])) := ⟨_, rfl⟩
  rw [← eh_838]
  have f_839 : h_838 a1 = some (.inl (1, 300, .inl (fun _ => 0))) := by rw [eh_838, ac_up_n _ _ (Ne.symm t_4)]; exact f_797
  have f_840 : h_838 a5 = some (.inl (1, 2800, .inl (fun _ => 0))) := by rw [eh_838, ac_up_n _ _ (Ne.symm t_15)]; exact f_799
  have f_841 : h_838 a6 = some (.inl (1, 2800, .inl (fun _ => 0))) := by rw [eh_838, ac_up_n _ _ (Ne.symm t_29)]; exact f_801
  have f_842 : h_838 a7 = some (.inl (1, 7, .inl (fun _ => 0))) := by rw [eh_838, ac_up_n _ _ (Ne.symm t_46)]; exact f_803
  have f_843 : h_838 a8 = some (.inl (1, 7, .inl (fun _ => 0))) := by rw [eh_838, ac_up_n _ _ (Ne.symm t_66)]; exact f_805
  have f_844 : h_838 a9 = some (.inl (1, 91, .inl (fun _ => 0))) := by rw [eh_838, ac_up_n _ _ (Ne.symm t_89)]; exact f_807
  have f_845 : h_838 a10 = some (.inl (1, 91, .inl (fun _ => 0))) := by rw [eh_838, ac_up_n _ _ (Ne.symm t_115)]; exact f_809
  have f_846 : h_838 a12 = some (.inl (1, 320, .inl (fun _ => 0))) := by rw [eh_838, ac_up_n _ _ (Ne.symm t_144)]; exact f_811
  have f_847 : h_838 a13 = some (.inl (1, 320, .inl (fun _ => 0))) := by rw [eh_838, ac_up_n _ _ (Ne.symm t_176)]; exact f_813
  have f_848 : h_838 a16 = some (.inl (2, 4, .inr (.inl (fun _ => 0)))) := by rw [eh_838, ac_up_n _ _ (Ne.symm t_211)]; exact f_815
  have f_849 : h_838 a21 = some (.inl (1, 10, .inl (fun _ => 0))) := by rw [eh_838, ac_up_n _ _ (Ne.symm t_249)]; exact f_817
  have f_850 : h_838 a22 = some (.inl (1, 10, .inl (fun _ => 0))) := by rw [eh_838, ac_up_n _ _ (Ne.symm t_290)]; exact f_819
  have f_851 : h_838 a23 = some (.inl (1, 10, .inl (fun _ => 0))) := by rw [eh_838, ac_up_n _ _ (Ne.symm t_334)]; exact f_821
  have f_852 : h_838 a24 = some (.inl (1, 10, .inl (fun _ => 0))) := by rw [eh_838, ac_up_n _ _ (Ne.symm t_381)]; exact f_823
  have f_853 : h_838 a25 = some (.inl (1, 10, .inl (fun _ => 0))) := by rw [eh_838, ac_up_n _ _ (Ne.symm t_431)]; exact f_825
  have f_854 : h_838 a26 = some (.inl (1, 10, .inl (fun _ => 0))) := by rw [eh_838, ac_up_n _ _ (Ne.symm t_484)]; exact f_827
  have f_855 : h_838 a27 = some (.inl (2, 320, .inr (.inl (fun _ => 0)))) := by rw [eh_838, ac_up_n _ _ (Ne.symm t_540)]; exact f_829
  have f_856 : h_838 a33 = some (.inl (1, 12, .inl (fun _ => 0))) := by rw [eh_838, ac_up_n _ _ (Ne.symm t_599)]; exact f_831
  have f_857 : h_838 a35 = some (.inl (1, 12, .inl (fun _ => 0))) := by rw [eh_838, ac_up_n _ _ (Ne.symm t_661)]; exact f_833
  have f_858 : h_838 a36 = some (.inl (1, 12, .inl (fun _ => 0))) := by rw [eh_838, ac_up_n _ _ (Ne.symm t_726)]; exact f_835
  have f_859 : h_838 a37 = some (.inl (1, 12, .inl (fun _ => 0))) := by rw [eh_838, ac_up_n _ _ (Ne.symm t_794)]; exact f_836
  have f_860 : h_838 o = some (.inr (9, [.int 0, .ref a1, .int 0, .int 0, .int 0, .ref a5, .ref a6, .ref a7, .ref a8, .ref a9, .ref a10, .int 0, .ref a12, .ref a13, .int 0, .int 0, .ref a16, .int 0, .int 0, .int 0, .int 0, .ref a21, .ref a22, .ref a23, .ref a24, .ref a25, .ref a26, .ref a27, .int 0, .int 0, .int 0, .int 0, .int 0, .ref a33, .int 0, .ref a35, .ref a36, .ref a37, .null, .null, .null, .int 0, .null, .null])) := by rw [eh_838]; exact ac_up_s _ _ _
  have kp_861 : kp h h_838 [o] := by rw [eh_838]; exact kp_up kp_837 _ _ (by simp)
  refine aw_aload_n C dX9_init_177 rfl rfl (q := 178) rfl ?_
  refine aw_bipush (v := 11) C dX9_init_178 (by decide) (q := 180) rfl ?_
  refine ay_newL (N := 11) C dX9_init_180 (by decide) rfl (by decide) (Nat.le_trans (by omega) B.2.2.1) (Nat.le_trans (by omega) B.2.2.2) (q := 182) rfl (fun a38 hn_862 _ => ?_)
  show aw G 1 M 182 [.ref o] [.ref a38, .ref o] (ac_up h_838 a38 (.inl (2, 11, .inr (.inl (fun _ => 0))))) ((((((((((((((((((((((0 + 1) + 1) + 1) + 1) + 1) + 1) + 1) + 1) + 1) + 1) + 1) + 1) + 1) + 1) + 1) + 1) + 1) + 1) + 1) + 1) + 1) + 1) ((((((((((((((((((((((0 + 300) + 2800) + 2800) + 7) + 7) + 91) + 91) + 320) + 320) + 4) + 10) + 10) + 10) + 10) + 10) + 10) + 320) + 12) + 12) + 12) + 12) + 11)
  obtain ⟨h_863, eh_863⟩ : ∃ z9, z9 = ac_up h_838 a38 (.inl (2, 11, .inr (.inl (fun _ => 0)))) := ⟨_, rfl⟩
  rw [← eh_863]
  have n_864 : h a38 = none := kp_none kp_861 hn_862 (ni1 (Ne.symm (nw_ne f_860 hn_862)) ni0)
  have t_865 : o ≠ a38 := nw_ne f_860 hn_862
  have f_866 : h_863 o = some (.inr (9, [.int 0, .ref a1, .int 0, .int 0, .int 0, .ref a5, .ref a6, .ref a7, .ref a8, .ref a9, .ref a10, .int 0, .ref a12, .ref a13, .int 0, .int 0, .ref a16, .int 0, .int 0, .int 0, .int 0, .ref a21, .ref a22, .ref a23, .ref a24, .ref a25, .ref a26, .ref a27, .int 0, .int 0, .int 0, .int 0, .int 0, .ref a33, .int 0, .ref a35, .ref a36, .ref a37, .null, .null, .null, .int 0, .null, .null])) := by rw [eh_863, ac_up_n _ _ t_865]; exact f_860
  have t_867 : a1 ≠ a38 := nw_ne f_839 hn_862
  have f_868 : h_863 a1 = some (.inl (1, 300, .inl (fun _ => 0))) := by rw [eh_863, ac_up_n _ _ t_867]; exact f_839
  have t_869 : a5 ≠ a38 := nw_ne f_840 hn_862
  have f_870 : h_863 a5 = some (.inl (1, 2800, .inl (fun _ => 0))) := by rw [eh_863, ac_up_n _ _ t_869]; exact f_840
  have t_871 : a6 ≠ a38 := nw_ne f_841 hn_862
  have f_872 : h_863 a6 = some (.inl (1, 2800, .inl (fun _ => 0))) := by rw [eh_863, ac_up_n _ _ t_871]; exact f_841
  have t_873 : a7 ≠ a38 := nw_ne f_842 hn_862
  have f_874 : h_863 a7 = some (.inl (1, 7, .inl (fun _ => 0))) := by rw [eh_863, ac_up_n _ _ t_873]; exact f_842
  have t_875 : a8 ≠ a38 := nw_ne f_843 hn_862
  have f_876 : h_863 a8 = some (.inl (1, 7, .inl (fun _ => 0))) := by rw [eh_863, ac_up_n _ _ t_875]; exact f_843
  have t_877 : a9 ≠ a38 := nw_ne f_844 hn_862
  have f_878 : h_863 a9 = some (.inl (1, 91, .inl (fun _ => 0))) := by rw [eh_863, ac_up_n _ _ t_877]; exact f_844
  have t_879 : a10 ≠ a38 := nw_ne f_845 hn_862
  have f_880 : h_863 a10 = some (.inl (1, 91, .inl (fun _ => 0))) := by rw [eh_863, ac_up_n _ _ t_879]; exact f_845
  have t_881 : a12 ≠ a38 := nw_ne f_846 hn_862
  have f_882 : h_863 a12 = some (.inl (1, 320, .inl (fun _ => 0))) := by rw [eh_863, ac_up_n _ _ t_881]; exact f_846
  have t_883 : a13 ≠ a38 := nw_ne f_847 hn_862
  have f_884 : h_863 a13 = some (.inl (1, 320, .inl (fun _ => 0))) := by rw [eh_863, ac_up_n _ _ t_883]; exact f_847
  have t_885 : a16 ≠ a38 := nw_ne f_848 hn_862
  have f_886 : h_863 a16 = some (.inl (2, 4, .inr (.inl (fun _ => 0)))) := by rw [eh_863, ac_up_n _ _ t_885]; exact f_848
  have t_887 : a21 ≠ a38 := nw_ne f_849 hn_862
  have f_888 : h_863 a21 = some (.inl (1, 10, .inl (fun _ => 0))) := by rw [eh_863, ac_up_n _ _ t_887]; exact f_849
  have t_889 : a22 ≠ a38 := nw_ne f_850 hn_862
  have f_890 : h_863 a22 = some (.inl (1, 10, .inl (fun _ => 0))) := by rw [eh_863, ac_up_n _ _ t_889]; exact f_850
  have t_891 : a23 ≠ a38 := nw_ne f_851 hn_862
  have f_892 : h_863 a23 = some (.inl (1, 10, .inl (fun _ => 0))) := by rw [eh_863, ac_up_n _ _ t_891]; exact f_851
  have t_893 : a24 ≠ a38 := nw_ne f_852 hn_862
  have f_894 : h_863 a24 = some (.inl (1, 10, .inl (fun _ => 0))) := by rw [eh_863, ac_up_n _ _ t_893]; exact f_852
  have t_895 : a25 ≠ a38 := nw_ne f_853 hn_862
  have f_896 : h_863 a25 = some (.inl (1, 10, .inl (fun _ => 0))) := by rw [eh_863, ac_up_n _ _ t_895]; exact f_853
  have t_897 : a26 ≠ a38 := nw_ne f_854 hn_862
  have f_898 : h_863 a26 = some (.inl (1, 10, .inl (fun _ => 0))) := by rw [eh_863, ac_up_n _ _ t_897]; exact f_854
  have t_899 : a27 ≠ a38 := nw_ne f_855 hn_862
  have f_900 : h_863 a27 = some (.inl (2, 320, .inr (.inl (fun _ => 0)))) := by rw [eh_863, ac_up_n _ _ t_899]; exact f_855
  have t_901 : a33 ≠ a38 := nw_ne f_856 hn_862
  have f_902 : h_863 a33 = some (.inl (1, 12, .inl (fun _ => 0))) := by rw [eh_863, ac_up_n _ _ t_901]; exact f_856
  have t_903 : a35 ≠ a38 := nw_ne f_857 hn_862
  have f_904 : h_863 a35 = some (.inl (1, 12, .inl (fun _ => 0))) := by rw [eh_863, ac_up_n _ _ t_903]; exact f_857
  have t_905 : a36 ≠ a38 := nw_ne f_858 hn_862
  have f_906 : h_863 a36 = some (.inl (1, 12, .inl (fun _ => 0))) := by rw [eh_863, ac_up_n _ _ t_905]; exact f_858
  have t_907 : a37 ≠ a38 := nw_ne f_859 hn_862
  have f_908 : h_863 a37 = some (.inl (1, 12, .inl (fun _ => 0))) := by rw [eh_863, ac_up_n _ _ t_907]; exact f_859
  have f_909 : h_863 a38 = some (.inl (2, 11, .inr (.inl (fun _ => 0)))) := by rw [eh_863]; exact ac_up_s _ _ _
  have kp_910 : kp h h_863 [o] := by rw [eh_863]; exact kp_new n_864 kp_861
  refine pfX9_74_9 C hnm dX9_init_182 f_866 rfl rfl (Nat.le_of_ble_eq_true rfl) (q := 185) rfl ?_
  show aw G 1 M 185 [.ref o] [] (ac_up h_863 o (.inr (9, [.int 0, .ref a1, .int 0, .int 0, .int 0, .ref a5, .ref a6, .ref a7, .ref a8, .ref a9, .ref a10, .int 0, .ref a12, .ref a13, .int 0, .int 0, .ref a16, .int 0, .int 0, .int 0, .int 0, .ref a21, .ref a22, .ref a23, .ref a24, .ref a25, .ref a26, .ref a27, .int 0, .int 0, .int 0, .int 0, .int 0, .ref a33, .int 0, .ref a35, .ref a36, .ref a37, .ref a38, .null, .null, .int 0, .null, .null]))) ((((((((((((((((((((((0 + 1) + 1) + 1) + 1) + 1) + 1) + 1) + 1) + 1) + 1) + 1) + 1) + 1) + 1) + 1) + 1) + 1) + 1) + 1) + 1) + 1) + 1) ((((((((((((((((((((((0 + 300) + 2800) + 2800) + 7) + 7) + 91) + 91) + 320) + 320) + 4) + 10) + 10) + 10) + 10) + 10) + 10) + 320) + 12) + 12) + 12) + 12) + 11)
  obtain ⟨h_911, eh_911⟩ : ∃ z9, z9 = ac_up h_863 o (.inr (9, [.int 0, .ref a1, .int 0, .int 0, .int 0, .ref a5, .ref a6, .ref a7, .ref a8, .ref a9, .ref a10, .int 0, .ref a12, .ref a13, .int 0, .int 0, .ref a16, .int 0, .int 0, .int 0, .int 0, .ref a21, .ref a22, .ref a23, .ref a24, .ref a25, .ref a26, .ref a27, .int 0, .int 0, .int 0, .int 0, .int 0, .ref a33, .int 0, .ref a35, .ref a36, .ref a37, .ref a38, .null, .null, .int 0, .null, .null])) := ⟨_, rfl⟩
  rw [← eh_911]
  have f_912 : h_911 a1 = some (.inl (1, 300, .inl (fun _ => 0))) := by rw [eh_911, ac_up_n _ _ (Ne.symm t_4)]; exact f_868
  have f_913 : h_911 a5 = some (.inl (1, 2800, .inl (fun _ => 0))) := by rw [eh_911, ac_up_n _ _ (Ne.symm t_15)]; exact f_870
  have f_914 : h_911 a6 = some (.inl (1, 2800, .inl (fun _ => 0))) := by rw [eh_911, ac_up_n _ _ (Ne.symm t_29)]; exact f_872
  have f_915 : h_911 a7 = some (.inl (1, 7, .inl (fun _ => 0))) := by rw [eh_911, ac_up_n _ _ (Ne.symm t_46)]; exact f_874
  have f_916 : h_911 a8 = some (.inl (1, 7, .inl (fun _ => 0))) := by rw [eh_911, ac_up_n _ _ (Ne.symm t_66)]; exact f_876
  have f_917 : h_911 a9 = some (.inl (1, 91, .inl (fun _ => 0))) := by rw [eh_911, ac_up_n _ _ (Ne.symm t_89)]; exact f_878
  have f_918 : h_911 a10 = some (.inl (1, 91, .inl (fun _ => 0))) := by rw [eh_911, ac_up_n _ _ (Ne.symm t_115)]; exact f_880
  have f_919 : h_911 a12 = some (.inl (1, 320, .inl (fun _ => 0))) := by rw [eh_911, ac_up_n _ _ (Ne.symm t_144)]; exact f_882
  have f_920 : h_911 a13 = some (.inl (1, 320, .inl (fun _ => 0))) := by rw [eh_911, ac_up_n _ _ (Ne.symm t_176)]; exact f_884
  have f_921 : h_911 a16 = some (.inl (2, 4, .inr (.inl (fun _ => 0)))) := by rw [eh_911, ac_up_n _ _ (Ne.symm t_211)]; exact f_886
  have f_922 : h_911 a21 = some (.inl (1, 10, .inl (fun _ => 0))) := by rw [eh_911, ac_up_n _ _ (Ne.symm t_249)]; exact f_888
  have f_923 : h_911 a22 = some (.inl (1, 10, .inl (fun _ => 0))) := by rw [eh_911, ac_up_n _ _ (Ne.symm t_290)]; exact f_890
  have f_924 : h_911 a23 = some (.inl (1, 10, .inl (fun _ => 0))) := by rw [eh_911, ac_up_n _ _ (Ne.symm t_334)]; exact f_892
  have f_925 : h_911 a24 = some (.inl (1, 10, .inl (fun _ => 0))) := by rw [eh_911, ac_up_n _ _ (Ne.symm t_381)]; exact f_894
  have f_926 : h_911 a25 = some (.inl (1, 10, .inl (fun _ => 0))) := by rw [eh_911, ac_up_n _ _ (Ne.symm t_431)]; exact f_896
  have f_927 : h_911 a26 = some (.inl (1, 10, .inl (fun _ => 0))) := by rw [eh_911, ac_up_n _ _ (Ne.symm t_484)]; exact f_898
  have f_928 : h_911 a27 = some (.inl (2, 320, .inr (.inl (fun _ => 0)))) := by rw [eh_911, ac_up_n _ _ (Ne.symm t_540)]; exact f_900
  have f_929 : h_911 a33 = some (.inl (1, 12, .inl (fun _ => 0))) := by rw [eh_911, ac_up_n _ _ (Ne.symm t_599)]; exact f_902
  have f_930 : h_911 a35 = some (.inl (1, 12, .inl (fun _ => 0))) := by rw [eh_911, ac_up_n _ _ (Ne.symm t_661)]; exact f_904
  have f_931 : h_911 a36 = some (.inl (1, 12, .inl (fun _ => 0))) := by rw [eh_911, ac_up_n _ _ (Ne.symm t_726)]; exact f_906
  have f_932 : h_911 a37 = some (.inl (1, 12, .inl (fun _ => 0))) := by rw [eh_911, ac_up_n _ _ (Ne.symm t_794)]; exact f_908
  have f_933 : h_911 a38 = some (.inl (2, 11, .inr (.inl (fun _ => 0)))) := by rw [eh_911, ac_up_n _ _ (Ne.symm t_865)]; exact f_909
  have f_934 : h_911 o = some (.inr (9, [.int 0, .ref a1, .int 0, .int 0, .int 0, .ref a5, .ref a6, .ref a7, .ref a8, .ref a9, .ref a10, .int 0, .ref a12, .ref a13, .int 0, .int 0, .ref a16, .int 0, .int 0, .int 0, .int 0, .ref a21, .ref a22, .ref a23, .ref a24, .ref a25, .ref a26, .ref a27, .int 0, .int 0, .int 0, .int 0, .int 0, .ref a33, .int 0, .ref a35, .ref a36, .ref a37, .ref a38, .null, .null, .int 0, .null, .null])) := by rw [eh_911]; exact ac_up_s _ _ _
  have kp_935 : kp h h_911 [o] := by rw [eh_911]; exact kp_up kp_910 _ _ (by simp)
  refine aw_aload_n C dX9_init_185 rfl rfl (q := 186) rfl ?_
  refine aw_bipush (v := 100) C dX9_init_186 (by decide) (q := 188) rfl ?_
  refine ay_newI3 (N := 100) C dX9_init_188 (by decide) rfl (by decide) (Nat.le_trans (by omega) B.2.2.1) (Nat.le_trans (by omega) B.2.2.2) (q := 190) rfl (fun a39 hn_936 _ => ?_)
  show aw G 1 M 190 [.ref o] [.ref a39, .ref o] (ac_up h_911 a39 (.inl (1, 100, .inl (fun _ => 0)))) (((((((((((((((((((((((0 + 1) + 1) + 1) + 1) + 1) + 1) + 1) + 1) + 1) + 1) + 1) + 1) + 1) + 1) + 1) + 1) + 1) + 1) + 1) + 1) + 1) + 1) + 1) (((((((((((((((((((((((0 + 300) + 2800) + 2800) + 7) + 7) + 91) + 91) + 320) + 320) + 4) + 10) + 10) + 10) + 10) + 10) + 10) + 320) + 12) + 12) + 12) + 12) + 11) + 100)
  obtain ⟨h_937, eh_937⟩ : ∃ z9, z9 = ac_up h_911 a39 (.inl (1, 100, .inl (fun _ => 0))) := ⟨_, rfl⟩
  rw [← eh_937]
  have n_938 : h a39 = none := kp_none kp_935 hn_936 (ni1 (Ne.symm (nw_ne f_934 hn_936)) ni0)
  have t_939 : o ≠ a39 := nw_ne f_934 hn_936
  have f_940 : h_937 o = some (.inr (9, [.int 0, .ref a1, .int 0, .int 0, .int 0, .ref a5, .ref a6, .ref a7, .ref a8, .ref a9, .ref a10, .int 0, .ref a12, .ref a13, .int 0, .int 0, .ref a16, .int 0, .int 0, .int 0, .int 0, .ref a21, .ref a22, .ref a23, .ref a24, .ref a25, .ref a26, .ref a27, .int 0, .int 0, .int 0, .int 0, .int 0, .ref a33, .int 0, .ref a35, .ref a36, .ref a37, .ref a38, .null, .null, .int 0, .null, .null])) := by rw [eh_937, ac_up_n _ _ t_939]; exact f_934
  have t_941 : a1 ≠ a39 := nw_ne f_912 hn_936
  have f_942 : h_937 a1 = some (.inl (1, 300, .inl (fun _ => 0))) := by rw [eh_937, ac_up_n _ _ t_941]; exact f_912
  have t_943 : a5 ≠ a39 := nw_ne f_913 hn_936
  have f_944 : h_937 a5 = some (.inl (1, 2800, .inl (fun _ => 0))) := by rw [eh_937, ac_up_n _ _ t_943]; exact f_913
  have t_945 : a6 ≠ a39 := nw_ne f_914 hn_936
  have f_946 : h_937 a6 = some (.inl (1, 2800, .inl (fun _ => 0))) := by rw [eh_937, ac_up_n _ _ t_945]; exact f_914
  have t_947 : a7 ≠ a39 := nw_ne f_915 hn_936
  have f_948 : h_937 a7 = some (.inl (1, 7, .inl (fun _ => 0))) := by rw [eh_937, ac_up_n _ _ t_947]; exact f_915
  have t_949 : a8 ≠ a39 := nw_ne f_916 hn_936
  have f_950 : h_937 a8 = some (.inl (1, 7, .inl (fun _ => 0))) := by rw [eh_937, ac_up_n _ _ t_949]; exact f_916
  have t_951 : a9 ≠ a39 := nw_ne f_917 hn_936
  have f_952 : h_937 a9 = some (.inl (1, 91, .inl (fun _ => 0))) := by rw [eh_937, ac_up_n _ _ t_951]; exact f_917
  have t_953 : a10 ≠ a39 := nw_ne f_918 hn_936
  have f_954 : h_937 a10 = some (.inl (1, 91, .inl (fun _ => 0))) := by rw [eh_937, ac_up_n _ _ t_953]; exact f_918
  have t_955 : a12 ≠ a39 := nw_ne f_919 hn_936
  have f_956 : h_937 a12 = some (.inl (1, 320, .inl (fun _ => 0))) := by rw [eh_937, ac_up_n _ _ t_955]; exact f_919
  have t_957 : a13 ≠ a39 := nw_ne f_920 hn_936
  have f_958 : h_937 a13 = some (.inl (1, 320, .inl (fun _ => 0))) := by rw [eh_937, ac_up_n _ _ t_957]; exact f_920
  have t_959 : a16 ≠ a39 := nw_ne f_921 hn_936
  have f_960 : h_937 a16 = some (.inl (2, 4, .inr (.inl (fun _ => 0)))) := by rw [eh_937, ac_up_n _ _ t_959]; exact f_921
  have t_961 : a21 ≠ a39 := nw_ne f_922 hn_936
  have f_962 : h_937 a21 = some (.inl (1, 10, .inl (fun _ => 0))) := by rw [eh_937, ac_up_n _ _ t_961]; exact f_922
  have t_963 : a22 ≠ a39 := nw_ne f_923 hn_936
  have f_964 : h_937 a22 = some (.inl (1, 10, .inl (fun _ => 0))) := by rw [eh_937, ac_up_n _ _ t_963]; exact f_923
  have t_965 : a23 ≠ a39 := nw_ne f_924 hn_936
  have f_966 : h_937 a23 = some (.inl (1, 10, .inl (fun _ => 0))) := by rw [eh_937, ac_up_n _ _ t_965]; exact f_924
  have t_967 : a24 ≠ a39 := nw_ne f_925 hn_936
  have f_968 : h_937 a24 = some (.inl (1, 10, .inl (fun _ => 0))) := by rw [eh_937, ac_up_n _ _ t_967]; exact f_925
  have t_969 : a25 ≠ a39 := nw_ne f_926 hn_936
  have f_970 : h_937 a25 = some (.inl (1, 10, .inl (fun _ => 0))) := by rw [eh_937, ac_up_n _ _ t_969]; exact f_926
  have t_971 : a26 ≠ a39 := nw_ne f_927 hn_936
  have f_972 : h_937 a26 = some (.inl (1, 10, .inl (fun _ => 0))) := by rw [eh_937, ac_up_n _ _ t_971]; exact f_927
  have t_973 : a27 ≠ a39 := nw_ne f_928 hn_936
  have f_974 : h_937 a27 = some (.inl (2, 320, .inr (.inl (fun _ => 0)))) := by rw [eh_937, ac_up_n _ _ t_973]; exact f_928
  have t_975 : a33 ≠ a39 := nw_ne f_929 hn_936
  have f_976 : h_937 a33 = some (.inl (1, 12, .inl (fun _ => 0))) := by rw [eh_937, ac_up_n _ _ t_975]; exact f_929
  have t_977 : a35 ≠ a39 := nw_ne f_930 hn_936
  have f_978 : h_937 a35 = some (.inl (1, 12, .inl (fun _ => 0))) := by rw [eh_937, ac_up_n _ _ t_977]; exact f_930
  have t_979 : a36 ≠ a39 := nw_ne f_931 hn_936
  have f_980 : h_937 a36 = some (.inl (1, 12, .inl (fun _ => 0))) := by rw [eh_937, ac_up_n _ _ t_979]; exact f_931
  have t_981 : a37 ≠ a39 := nw_ne f_932 hn_936
  have f_982 : h_937 a37 = some (.inl (1, 12, .inl (fun _ => 0))) := by rw [eh_937, ac_up_n _ _ t_981]; exact f_932
  have t_983 : a38 ≠ a39 := nw_ne f_933 hn_936
  have f_984 : h_937 a38 = some (.inl (2, 11, .inr (.inl (fun _ => 0)))) := by rw [eh_937, ac_up_n _ _ t_983]; exact f_933
  have f_985 : h_937 a39 = some (.inl (1, 100, .inl (fun _ => 0))) := by rw [eh_937]; exact ac_up_s _ _ _
  have kp_986 : kp h h_937 [o] := by rw [eh_937]; exact kp_new n_938 kp_935
  refine pfX9_77_9 C hnm dX9_init_190 f_940 rfl rfl (Nat.le_of_ble_eq_true rfl) (q := 193) rfl ?_
  show aw G 1 M 193 [.ref o] [] (ac_up h_937 o (.inr (9, [.int 0, .ref a1, .int 0, .int 0, .int 0, .ref a5, .ref a6, .ref a7, .ref a8, .ref a9, .ref a10, .int 0, .ref a12, .ref a13, .int 0, .int 0, .ref a16, .int 0, .int 0, .int 0, .int 0, .ref a21, .ref a22, .ref a23, .ref a24, .ref a25, .ref a26, .ref a27, .int 0, .int 0, .int 0, .int 0, .int 0, .ref a33, .int 0, .ref a35, .ref a36, .ref a37, .ref a38, .ref a39, .null, .int 0, .null, .null]))) (((((((((((((((((((((((0 + 1) + 1) + 1) + 1) + 1) + 1) + 1) + 1) + 1) + 1) + 1) + 1) + 1) + 1) + 1) + 1) + 1) + 1) + 1) + 1) + 1) + 1) + 1) (((((((((((((((((((((((0 + 300) + 2800) + 2800) + 7) + 7) + 91) + 91) + 320) + 320) + 4) + 10) + 10) + 10) + 10) + 10) + 10) + 320) + 12) + 12) + 12) + 12) + 11) + 100)
  obtain ⟨h_987, eh_987⟩ : ∃ z9, z9 = ac_up h_937 o (.inr (9, [.int 0, .ref a1, .int 0, .int 0, .int 0, .ref a5, .ref a6, .ref a7, .ref a8, .ref a9, .ref a10, .int 0, .ref a12, .ref a13, .int 0, .int 0, .ref a16, .int 0, .int 0, .int 0, .int 0, .ref a21, .ref a22, .ref a23, .ref a24, .ref a25, .ref a26, .ref a27, .int 0, .int 0, .int 0, .int 0, .int 0, .ref a33, .int 0, .ref a35, .ref a36, .ref a37, .ref a38, .ref a39, .null, .int 0, .null, .null])) := ⟨_, rfl⟩
  rw [← eh_987]
  have f_988 : h_987 a1 = some (.inl (1, 300, .inl (fun _ => 0))) := by rw [eh_987, ac_up_n _ _ (Ne.symm t_4)]; exact f_942
  have f_989 : h_987 a5 = some (.inl (1, 2800, .inl (fun _ => 0))) := by rw [eh_987, ac_up_n _ _ (Ne.symm t_15)]; exact f_944
  have f_990 : h_987 a6 = some (.inl (1, 2800, .inl (fun _ => 0))) := by rw [eh_987, ac_up_n _ _ (Ne.symm t_29)]; exact f_946
  have f_991 : h_987 a7 = some (.inl (1, 7, .inl (fun _ => 0))) := by rw [eh_987, ac_up_n _ _ (Ne.symm t_46)]; exact f_948
  have f_992 : h_987 a8 = some (.inl (1, 7, .inl (fun _ => 0))) := by rw [eh_987, ac_up_n _ _ (Ne.symm t_66)]; exact f_950
  have f_993 : h_987 a9 = some (.inl (1, 91, .inl (fun _ => 0))) := by rw [eh_987, ac_up_n _ _ (Ne.symm t_89)]; exact f_952
  have f_994 : h_987 a10 = some (.inl (1, 91, .inl (fun _ => 0))) := by rw [eh_987, ac_up_n _ _ (Ne.symm t_115)]; exact f_954
  have f_995 : h_987 a12 = some (.inl (1, 320, .inl (fun _ => 0))) := by rw [eh_987, ac_up_n _ _ (Ne.symm t_144)]; exact f_956
  have f_996 : h_987 a13 = some (.inl (1, 320, .inl (fun _ => 0))) := by rw [eh_987, ac_up_n _ _ (Ne.symm t_176)]; exact f_958
  have f_997 : h_987 a16 = some (.inl (2, 4, .inr (.inl (fun _ => 0)))) := by rw [eh_987, ac_up_n _ _ (Ne.symm t_211)]; exact f_960
  have f_998 : h_987 a21 = some (.inl (1, 10, .inl (fun _ => 0))) := by rw [eh_987, ac_up_n _ _ (Ne.symm t_249)]; exact f_962
  have f_999 : h_987 a22 = some (.inl (1, 10, .inl (fun _ => 0))) := by rw [eh_987, ac_up_n _ _ (Ne.symm t_290)]; exact f_964
  have f_1000 : h_987 a23 = some (.inl (1, 10, .inl (fun _ => 0))) := by rw [eh_987, ac_up_n _ _ (Ne.symm t_334)]; exact f_966
  have f_1001 : h_987 a24 = some (.inl (1, 10, .inl (fun _ => 0))) := by rw [eh_987, ac_up_n _ _ (Ne.symm t_381)]; exact f_968
  have f_1002 : h_987 a25 = some (.inl (1, 10, .inl (fun _ => 0))) := by rw [eh_987, ac_up_n _ _ (Ne.symm t_431)]; exact f_970
  have f_1003 : h_987 a26 = some (.inl (1, 10, .inl (fun _ => 0))) := by rw [eh_987, ac_up_n _ _ (Ne.symm t_484)]; exact f_972
  have f_1004 : h_987 a27 = some (.inl (2, 320, .inr (.inl (fun _ => 0)))) := by rw [eh_987, ac_up_n _ _ (Ne.symm t_540)]; exact f_974
  have f_1005 : h_987 a33 = some (.inl (1, 12, .inl (fun _ => 0))) := by rw [eh_987, ac_up_n _ _ (Ne.symm t_599)]; exact f_976
  have f_1006 : h_987 a35 = some (.inl (1, 12, .inl (fun _ => 0))) := by rw [eh_987, ac_up_n _ _ (Ne.symm t_661)]; exact f_978
  have f_1007 : h_987 a36 = some (.inl (1, 12, .inl (fun _ => 0))) := by rw [eh_987, ac_up_n _ _ (Ne.symm t_726)]; exact f_980
  have f_1008 : h_987 a37 = some (.inl (1, 12, .inl (fun _ => 0))) := by rw [eh_987, ac_up_n _ _ (Ne.symm t_794)]; exact f_982
  have f_1009 : h_987 a38 = some (.inl (2, 11, .inr (.inl (fun _ => 0)))) := by rw [eh_987, ac_up_n _ _ (Ne.symm t_865)]; exact f_984
  have f_1010 : h_987 a39 = some (.inl (1, 100, .inl (fun _ => 0))) := by rw [eh_987, ac_up_n _ _ (Ne.symm t_939)]; exact f_985
  have f_1011 : h_987 o = some (.inr (9, [.int 0, .ref a1, .int 0, .int 0, .int 0, .ref a5, .ref a6, .ref a7, .ref a8, .ref a9, .ref a10, .int 0, .ref a12, .ref a13, .int 0, .int 0, .ref a16, .int 0, .int 0, .int 0, .int 0, .ref a21, .ref a22, .ref a23, .ref a24, .ref a25, .ref a26, .ref a27, .int 0, .int 0, .int 0, .int 0, .int 0, .ref a33, .int 0, .ref a35, .ref a36, .ref a37, .ref a38, .ref a39, .null, .int 0, .null, .null])) := by rw [eh_987]; exact ac_up_s _ _ _
  have kp_1012 : kp h h_987 [o] := by rw [eh_987]; exact kp_up kp_986 _ _ (by simp)
  refine aw_aload_n C dX9_init_193 rfl rfl (q := 194) rfl ?_
  refine aw_sipush (v := 800) C dX9_init_194 (by decide) (q := 197) rfl ?_
  refine ay_newI3 (N := 800) C dX9_init_197 (by decide) rfl (by decide) (Nat.le_trans (by omega) B.2.2.1) (Nat.le_trans (by omega) B.2.2.2) (q := 199) rfl (fun a40 hn_1013 _ => ?_)
  show aw G 1 M 199 [.ref o] [.ref a40, .ref o] (ac_up h_987 a40 (.inl (1, 800, .inl (fun _ => 0)))) ((((((((((((((((((((((((0 + 1) + 1) + 1) + 1) + 1) + 1) + 1) + 1) + 1) + 1) + 1) + 1) + 1) + 1) + 1) + 1) + 1) + 1) + 1) + 1) + 1) + 1) + 1) + 1) ((((((((((((((((((((((((0 + 300) + 2800) + 2800) + 7) + 7) + 91) + 91) + 320) + 320) + 4) + 10) + 10) + 10) + 10) + 10) + 10) + 320) + 12) + 12) + 12) + 12) + 11) + 100) + 800)
  obtain ⟨h_1014, eh_1014⟩ : ∃ z9, z9 = ac_up h_987 a40 (.inl (1, 800, .inl (fun _ => 0))) := ⟨_, rfl⟩
  rw [← eh_1014]
  have n_1015 : h a40 = none := kp_none kp_1012 hn_1013 (ni1 (Ne.symm (nw_ne f_1011 hn_1013)) ni0)
  have t_1016 : o ≠ a40 := nw_ne f_1011 hn_1013
  have f_1017 : h_1014 o = some (.inr (9, [.int 0, .ref a1, .int 0, .int 0, .int 0, .ref a5, .ref a6, .ref a7, .ref a8, .ref a9, .ref a10, .int 0, .ref a12, .ref a13, .int 0, .int 0, .ref a16, .int 0, .int 0, .int 0, .int 0, .ref a21, .ref a22, .ref a23, .ref a24, .ref a25, .ref a26, .ref a27, .int 0, .int 0, .int 0, .int 0, .int 0, .ref a33, .int 0, .ref a35, .ref a36, .ref a37, .ref a38, .ref a39, .null, .int 0, .null, .null])) := by rw [eh_1014, ac_up_n _ _ t_1016]; exact f_1011
  have t_1018 : a1 ≠ a40 := nw_ne f_988 hn_1013
  have f_1019 : h_1014 a1 = some (.inl (1, 300, .inl (fun _ => 0))) := by rw [eh_1014, ac_up_n _ _ t_1018]; exact f_988
  have t_1020 : a5 ≠ a40 := nw_ne f_989 hn_1013
  have f_1021 : h_1014 a5 = some (.inl (1, 2800, .inl (fun _ => 0))) := by rw [eh_1014, ac_up_n _ _ t_1020]; exact f_989
  have t_1022 : a6 ≠ a40 := nw_ne f_990 hn_1013
  have f_1023 : h_1014 a6 = some (.inl (1, 2800, .inl (fun _ => 0))) := by rw [eh_1014, ac_up_n _ _ t_1022]; exact f_990
  have t_1024 : a7 ≠ a40 := nw_ne f_991 hn_1013
  have f_1025 : h_1014 a7 = some (.inl (1, 7, .inl (fun _ => 0))) := by rw [eh_1014, ac_up_n _ _ t_1024]; exact f_991
  have t_1026 : a8 ≠ a40 := nw_ne f_992 hn_1013
  have f_1027 : h_1014 a8 = some (.inl (1, 7, .inl (fun _ => 0))) := by rw [eh_1014, ac_up_n _ _ t_1026]; exact f_992
  have t_1028 : a9 ≠ a40 := nw_ne f_993 hn_1013
  have f_1029 : h_1014 a9 = some (.inl (1, 91, .inl (fun _ => 0))) := by rw [eh_1014, ac_up_n _ _ t_1028]; exact f_993
  have t_1030 : a10 ≠ a40 := nw_ne f_994 hn_1013
  have f_1031 : h_1014 a10 = some (.inl (1, 91, .inl (fun _ => 0))) := by rw [eh_1014, ac_up_n _ _ t_1030]; exact f_994
  have t_1032 : a12 ≠ a40 := nw_ne f_995 hn_1013
  have f_1033 : h_1014 a12 = some (.inl (1, 320, .inl (fun _ => 0))) := by rw [eh_1014, ac_up_n _ _ t_1032]; exact f_995
  have t_1034 : a13 ≠ a40 := nw_ne f_996 hn_1013
  have f_1035 : h_1014 a13 = some (.inl (1, 320, .inl (fun _ => 0))) := by rw [eh_1014, ac_up_n _ _ t_1034]; exact f_996
  have t_1036 : a16 ≠ a40 := nw_ne f_997 hn_1013
  have f_1037 : h_1014 a16 = some (.inl (2, 4, .inr (.inl (fun _ => 0)))) := by rw [eh_1014, ac_up_n _ _ t_1036]; exact f_997
  have t_1038 : a21 ≠ a40 := nw_ne f_998 hn_1013
  have f_1039 : h_1014 a21 = some (.inl (1, 10, .inl (fun _ => 0))) := by rw [eh_1014, ac_up_n _ _ t_1038]; exact f_998
  have t_1040 : a22 ≠ a40 := nw_ne f_999 hn_1013
  have f_1041 : h_1014 a22 = some (.inl (1, 10, .inl (fun _ => 0))) := by rw [eh_1014, ac_up_n _ _ t_1040]; exact f_999
  have t_1042 : a23 ≠ a40 := nw_ne f_1000 hn_1013
  have f_1043 : h_1014 a23 = some (.inl (1, 10, .inl (fun _ => 0))) := by rw [eh_1014, ac_up_n _ _ t_1042]; exact f_1000
  have t_1044 : a24 ≠ a40 := nw_ne f_1001 hn_1013
  have f_1045 : h_1014 a24 = some (.inl (1, 10, .inl (fun _ => 0))) := by rw [eh_1014, ac_up_n _ _ t_1044]; exact f_1001
  have t_1046 : a25 ≠ a40 := nw_ne f_1002 hn_1013
  have f_1047 : h_1014 a25 = some (.inl (1, 10, .inl (fun _ => 0))) := by rw [eh_1014, ac_up_n _ _ t_1046]; exact f_1002
  have t_1048 : a26 ≠ a40 := nw_ne f_1003 hn_1013
  have f_1049 : h_1014 a26 = some (.inl (1, 10, .inl (fun _ => 0))) := by rw [eh_1014, ac_up_n _ _ t_1048]; exact f_1003
  have t_1050 : a27 ≠ a40 := nw_ne f_1004 hn_1013
  have f_1051 : h_1014 a27 = some (.inl (2, 320, .inr (.inl (fun _ => 0)))) := by rw [eh_1014, ac_up_n _ _ t_1050]; exact f_1004
  have t_1052 : a33 ≠ a40 := nw_ne f_1005 hn_1013
  have f_1053 : h_1014 a33 = some (.inl (1, 12, .inl (fun _ => 0))) := by rw [eh_1014, ac_up_n _ _ t_1052]; exact f_1005
  have t_1054 : a35 ≠ a40 := nw_ne f_1006 hn_1013
  have f_1055 : h_1014 a35 = some (.inl (1, 12, .inl (fun _ => 0))) := by rw [eh_1014, ac_up_n _ _ t_1054]; exact f_1006
  have t_1056 : a36 ≠ a40 := nw_ne f_1007 hn_1013
  have f_1057 : h_1014 a36 = some (.inl (1, 12, .inl (fun _ => 0))) := by rw [eh_1014, ac_up_n _ _ t_1056]; exact f_1007
  have t_1058 : a37 ≠ a40 := nw_ne f_1008 hn_1013
  have f_1059 : h_1014 a37 = some (.inl (1, 12, .inl (fun _ => 0))) := by rw [eh_1014, ac_up_n _ _ t_1058]; exact f_1008
  have t_1060 : a38 ≠ a40 := nw_ne f_1009 hn_1013
  have f_1061 : h_1014 a38 = some (.inl (2, 11, .inr (.inl (fun _ => 0)))) := by rw [eh_1014, ac_up_n _ _ t_1060]; exact f_1009
  have t_1062 : a39 ≠ a40 := nw_ne f_1010 hn_1013
  have f_1063 : h_1014 a39 = some (.inl (1, 100, .inl (fun _ => 0))) := by rw [eh_1014, ac_up_n _ _ t_1062]; exact f_1010
  have f_1064 : h_1014 a40 = some (.inl (1, 800, .inl (fun _ => 0))) := by rw [eh_1014]; exact ac_up_s _ _ _
  have kp_1065 : kp h h_1014 [o] := by rw [eh_1014]; exact kp_new n_1015 kp_1012
  refine pfX9_80_9 C hnm dX9_init_199 f_1017 rfl rfl (Nat.le_of_ble_eq_true rfl) (q := 202) rfl ?_
  show aw G 1 M 202 [.ref o] [] (ac_up h_1014 o (.inr (9, [.int 0, .ref a1, .int 0, .int 0, .int 0, .ref a5, .ref a6, .ref a7, .ref a8, .ref a9, .ref a10, .int 0, .ref a12, .ref a13, .int 0, .int 0, .ref a16, .int 0, .int 0, .int 0, .int 0, .ref a21, .ref a22, .ref a23, .ref a24, .ref a25, .ref a26, .ref a27, .int 0, .int 0, .int 0, .int 0, .int 0, .ref a33, .int 0, .ref a35, .ref a36, .ref a37, .ref a38, .ref a39, .ref a40, .int 0, .null, .null]))) ((((((((((((((((((((((((0 + 1) + 1) + 1) + 1) + 1) + 1) + 1) + 1) + 1) + 1) + 1) + 1) + 1) + 1) + 1) + 1) + 1) + 1) + 1) + 1) + 1) + 1) + 1) + 1) ((((((((((((((((((((((((0 + 300) + 2800) + 2800) + 7) + 7) + 91) + 91) + 320) + 320) + 4) + 10) + 10) + 10) + 10) + 10) + 10) + 320) + 12) + 12) + 12) + 12) + 11) + 100) + 800)
  obtain ⟨h_1066, eh_1066⟩ : ∃ z9, z9 = ac_up h_1014 o (.inr (9, [.int 0, .ref a1, .int 0, .int 0, .int 0, .ref a5, .ref a6, .ref a7, .ref a8, .ref a9, .ref a10, .int 0, .ref a12, .ref a13, .int 0, .int 0, .ref a16, .int 0, .int 0, .int 0, .int 0, .ref a21, .ref a22, .ref a23, .ref a24, .ref a25, .ref a26, .ref a27, .int 0, .int 0, .int 0, .int 0, .int 0, .ref a33, .int 0, .ref a35, .ref a36, .ref a37, .ref a38, .ref a39, .ref a40, .int 0, .null, .null])) := ⟨_, rfl⟩
  rw [← eh_1066]
  have f_1067 : h_1066 a1 = some (.inl (1, 300, .inl (fun _ => 0))) := by rw [eh_1066, ac_up_n _ _ (Ne.symm t_4)]; exact f_1019
  have f_1068 : h_1066 a5 = some (.inl (1, 2800, .inl (fun _ => 0))) := by rw [eh_1066, ac_up_n _ _ (Ne.symm t_15)]; exact f_1021
  have f_1069 : h_1066 a6 = some (.inl (1, 2800, .inl (fun _ => 0))) := by rw [eh_1066, ac_up_n _ _ (Ne.symm t_29)]; exact f_1023
  have f_1070 : h_1066 a7 = some (.inl (1, 7, .inl (fun _ => 0))) := by rw [eh_1066, ac_up_n _ _ (Ne.symm t_46)]; exact f_1025
  have f_1071 : h_1066 a8 = some (.inl (1, 7, .inl (fun _ => 0))) := by rw [eh_1066, ac_up_n _ _ (Ne.symm t_66)]; exact f_1027
  have f_1072 : h_1066 a9 = some (.inl (1, 91, .inl (fun _ => 0))) := by rw [eh_1066, ac_up_n _ _ (Ne.symm t_89)]; exact f_1029
  have f_1073 : h_1066 a10 = some (.inl (1, 91, .inl (fun _ => 0))) := by rw [eh_1066, ac_up_n _ _ (Ne.symm t_115)]; exact f_1031
  have f_1074 : h_1066 a12 = some (.inl (1, 320, .inl (fun _ => 0))) := by rw [eh_1066, ac_up_n _ _ (Ne.symm t_144)]; exact f_1033
  have f_1075 : h_1066 a13 = some (.inl (1, 320, .inl (fun _ => 0))) := by rw [eh_1066, ac_up_n _ _ (Ne.symm t_176)]; exact f_1035
  have f_1076 : h_1066 a16 = some (.inl (2, 4, .inr (.inl (fun _ => 0)))) := by rw [eh_1066, ac_up_n _ _ (Ne.symm t_211)]; exact f_1037
  have f_1077 : h_1066 a21 = some (.inl (1, 10, .inl (fun _ => 0))) := by rw [eh_1066, ac_up_n _ _ (Ne.symm t_249)]; exact f_1039
  have f_1078 : h_1066 a22 = some (.inl (1, 10, .inl (fun _ => 0))) := by rw [eh_1066, ac_up_n _ _ (Ne.symm t_290)]; exact f_1041
  have f_1079 : h_1066 a23 = some (.inl (1, 10, .inl (fun _ => 0))) := by rw [eh_1066, ac_up_n _ _ (Ne.symm t_334)]; exact f_1043
  have f_1080 : h_1066 a24 = some (.inl (1, 10, .inl (fun _ => 0))) := by rw [eh_1066, ac_up_n _ _ (Ne.symm t_381)]; exact f_1045
  have f_1081 : h_1066 a25 = some (.inl (1, 10, .inl (fun _ => 0))) := by rw [eh_1066, ac_up_n _ _ (Ne.symm t_431)]; exact f_1047
  have f_1082 : h_1066 a26 = some (.inl (1, 10, .inl (fun _ => 0))) := by rw [eh_1066, ac_up_n _ _ (Ne.symm t_484)]; exact f_1049
  have f_1083 : h_1066 a27 = some (.inl (2, 320, .inr (.inl (fun _ => 0)))) := by rw [eh_1066, ac_up_n _ _ (Ne.symm t_540)]; exact f_1051
  have f_1084 : h_1066 a33 = some (.inl (1, 12, .inl (fun _ => 0))) := by rw [eh_1066, ac_up_n _ _ (Ne.symm t_599)]; exact f_1053
  have f_1085 : h_1066 a35 = some (.inl (1, 12, .inl (fun _ => 0))) := by rw [eh_1066, ac_up_n _ _ (Ne.symm t_661)]; exact f_1055
  have f_1086 : h_1066 a36 = some (.inl (1, 12, .inl (fun _ => 0))) := by rw [eh_1066, ac_up_n _ _ (Ne.symm t_726)]; exact f_1057
  have f_1087 : h_1066 a37 = some (.inl (1, 12, .inl (fun _ => 0))) := by rw [eh_1066, ac_up_n _ _ (Ne.symm t_794)]; exact f_1059
  have f_1088 : h_1066 a38 = some (.inl (2, 11, .inr (.inl (fun _ => 0)))) := by rw [eh_1066, ac_up_n _ _ (Ne.symm t_865)]; exact f_1061
  have f_1089 : h_1066 a39 = some (.inl (1, 100, .inl (fun _ => 0))) := by rw [eh_1066, ac_up_n _ _ (Ne.symm t_939)]; exact f_1063
  have f_1090 : h_1066 a40 = some (.inl (1, 800, .inl (fun _ => 0))) := by rw [eh_1066, ac_up_n _ _ (Ne.symm t_1016)]; exact f_1064
  have f_1091 : h_1066 o = some (.inr (9, [.int 0, .ref a1, .int 0, .int 0, .int 0, .ref a5, .ref a6, .ref a7, .ref a8, .ref a9, .ref a10, .int 0, .ref a12, .ref a13, .int 0, .int 0, .ref a16, .int 0, .int 0, .int 0, .int 0, .ref a21, .ref a22, .ref a23, .ref a24, .ref a25, .ref a26, .ref a27, .int 0, .int 0, .int 0, .int 0, .int 0, .ref a33, .int 0, .ref a35, .ref a36, .ref a37, .ref a38, .ref a39, .ref a40, .int 0, .null, .null])) := by rw [eh_1066]; exact ac_up_s _ _ _
  have kp_1092 : kp h h_1066 [o] := by rw [eh_1066]; exact kp_up kp_1065 _ _ (by simp)
  refine aw_aload_n C dX9_init_202 rfl rfl (q := 203) rfl ?_
  refine aw_sipush (v := 320) C dX9_init_203 (by decide) (q := 206) rfl ?_
  refine ay_newI3 (N := 320) C dX9_init_206 (by decide) rfl (by decide) (Nat.le_trans (by omega) B.2.2.1) (Nat.le_trans (by omega) B.2.2.2) (q := 208) rfl (fun a42 hn_1093 _ => ?_)
  show aw G 1 M 208 [.ref o] [.ref a42, .ref o] (ac_up h_1066 a42 (.inl (1, 320, .inl (fun _ => 0)))) (((((((((((((((((((((((((0 + 1) + 1) + 1) + 1) + 1) + 1) + 1) + 1) + 1) + 1) + 1) + 1) + 1) + 1) + 1) + 1) + 1) + 1) + 1) + 1) + 1) + 1) + 1) + 1) + 1) (((((((((((((((((((((((((0 + 300) + 2800) + 2800) + 7) + 7) + 91) + 91) + 320) + 320) + 4) + 10) + 10) + 10) + 10) + 10) + 10) + 320) + 12) + 12) + 12) + 12) + 11) + 100) + 800) + 320)
  obtain ⟨h_1094, eh_1094⟩ : ∃ z9, z9 = ac_up h_1066 a42 (.inl (1, 320, .inl (fun _ => 0))) := ⟨_, rfl⟩
  rw [← eh_1094]
  have n_1095 : h a42 = none := kp_none kp_1092 hn_1093 (ni1 (Ne.symm (nw_ne f_1091 hn_1093)) ni0)
  have t_1096 : o ≠ a42 := nw_ne f_1091 hn_1093
  have f_1097 : h_1094 o = some (.inr (9, [.int 0, .ref a1, .int 0, .int 0, .int 0, .ref a5, .ref a6, .ref a7, .ref a8, .ref a9, .ref a10, .int 0, .ref a12, .ref a13, .int 0, .int 0, .ref a16, .int 0, .int 0, .int 0, .int 0, .ref a21, .ref a22, .ref a23, .ref a24, .ref a25, .ref a26, .ref a27, .int 0, .int 0, .int 0, .int 0, .int 0, .ref a33, .int 0, .ref a35, .ref a36, .ref a37, .ref a38, .ref a39, .ref a40, .int 0, .null, .null])) := by rw [eh_1094, ac_up_n _ _ t_1096]; exact f_1091
  have t_1098 : a1 ≠ a42 := nw_ne f_1067 hn_1093
  have f_1099 : h_1094 a1 = some (.inl (1, 300, .inl (fun _ => 0))) := by rw [eh_1094, ac_up_n _ _ t_1098]; exact f_1067
  have t_1100 : a5 ≠ a42 := nw_ne f_1068 hn_1093
  have f_1101 : h_1094 a5 = some (.inl (1, 2800, .inl (fun _ => 0))) := by rw [eh_1094, ac_up_n _ _ t_1100]; exact f_1068
  have t_1102 : a6 ≠ a42 := nw_ne f_1069 hn_1093
  have f_1103 : h_1094 a6 = some (.inl (1, 2800, .inl (fun _ => 0))) := by rw [eh_1094, ac_up_n _ _ t_1102]; exact f_1069
  have t_1104 : a7 ≠ a42 := nw_ne f_1070 hn_1093
  have f_1105 : h_1094 a7 = some (.inl (1, 7, .inl (fun _ => 0))) := by rw [eh_1094, ac_up_n _ _ t_1104]; exact f_1070
  have t_1106 : a8 ≠ a42 := nw_ne f_1071 hn_1093
  have f_1107 : h_1094 a8 = some (.inl (1, 7, .inl (fun _ => 0))) := by rw [eh_1094, ac_up_n _ _ t_1106]; exact f_1071
  have t_1108 : a9 ≠ a42 := nw_ne f_1072 hn_1093
  have f_1109 : h_1094 a9 = some (.inl (1, 91, .inl (fun _ => 0))) := by rw [eh_1094, ac_up_n _ _ t_1108]; exact f_1072
  have t_1110 : a10 ≠ a42 := nw_ne f_1073 hn_1093
  have f_1111 : h_1094 a10 = some (.inl (1, 91, .inl (fun _ => 0))) := by rw [eh_1094, ac_up_n _ _ t_1110]; exact f_1073
  have t_1112 : a12 ≠ a42 := nw_ne f_1074 hn_1093
  have f_1113 : h_1094 a12 = some (.inl (1, 320, .inl (fun _ => 0))) := by rw [eh_1094, ac_up_n _ _ t_1112]; exact f_1074
  have t_1114 : a13 ≠ a42 := nw_ne f_1075 hn_1093
  have f_1115 : h_1094 a13 = some (.inl (1, 320, .inl (fun _ => 0))) := by rw [eh_1094, ac_up_n _ _ t_1114]; exact f_1075
  have t_1116 : a16 ≠ a42 := nw_ne f_1076 hn_1093
  have f_1117 : h_1094 a16 = some (.inl (2, 4, .inr (.inl (fun _ => 0)))) := by rw [eh_1094, ac_up_n _ _ t_1116]; exact f_1076
  have t_1118 : a21 ≠ a42 := nw_ne f_1077 hn_1093
  have f_1119 : h_1094 a21 = some (.inl (1, 10, .inl (fun _ => 0))) := by rw [eh_1094, ac_up_n _ _ t_1118]; exact f_1077
  have t_1120 : a22 ≠ a42 := nw_ne f_1078 hn_1093
  have f_1121 : h_1094 a22 = some (.inl (1, 10, .inl (fun _ => 0))) := by rw [eh_1094, ac_up_n _ _ t_1120]; exact f_1078
  have t_1122 : a23 ≠ a42 := nw_ne f_1079 hn_1093
  have f_1123 : h_1094 a23 = some (.inl (1, 10, .inl (fun _ => 0))) := by rw [eh_1094, ac_up_n _ _ t_1122]; exact f_1079
  have t_1124 : a24 ≠ a42 := nw_ne f_1080 hn_1093
  have f_1125 : h_1094 a24 = some (.inl (1, 10, .inl (fun _ => 0))) := by rw [eh_1094, ac_up_n _ _ t_1124]; exact f_1080
  have t_1126 : a25 ≠ a42 := nw_ne f_1081 hn_1093
  have f_1127 : h_1094 a25 = some (.inl (1, 10, .inl (fun _ => 0))) := by rw [eh_1094, ac_up_n _ _ t_1126]; exact f_1081
  have t_1128 : a26 ≠ a42 := nw_ne f_1082 hn_1093
  have f_1129 : h_1094 a26 = some (.inl (1, 10, .inl (fun _ => 0))) := by rw [eh_1094, ac_up_n _ _ t_1128]; exact f_1082
  have t_1130 : a27 ≠ a42 := nw_ne f_1083 hn_1093
  have f_1131 : h_1094 a27 = some (.inl (2, 320, .inr (.inl (fun _ => 0)))) := by rw [eh_1094, ac_up_n _ _ t_1130]; exact f_1083
  have t_1132 : a33 ≠ a42 := nw_ne f_1084 hn_1093
  have f_1133 : h_1094 a33 = some (.inl (1, 12, .inl (fun _ => 0))) := by rw [eh_1094, ac_up_n _ _ t_1132]; exact f_1084
  have t_1134 : a35 ≠ a42 := nw_ne f_1085 hn_1093
  have f_1135 : h_1094 a35 = some (.inl (1, 12, .inl (fun _ => 0))) := by rw [eh_1094, ac_up_n _ _ t_1134]; exact f_1085
  have t_1136 : a36 ≠ a42 := nw_ne f_1086 hn_1093
  have f_1137 : h_1094 a36 = some (.inl (1, 12, .inl (fun _ => 0))) := by rw [eh_1094, ac_up_n _ _ t_1136]; exact f_1086
  have t_1138 : a37 ≠ a42 := nw_ne f_1087 hn_1093
  have f_1139 : h_1094 a37 = some (.inl (1, 12, .inl (fun _ => 0))) := by rw [eh_1094, ac_up_n _ _ t_1138]; exact f_1087
  have t_1140 : a38 ≠ a42 := nw_ne f_1088 hn_1093
  have f_1141 : h_1094 a38 = some (.inl (2, 11, .inr (.inl (fun _ => 0)))) := by rw [eh_1094, ac_up_n _ _ t_1140]; exact f_1088
  have t_1142 : a39 ≠ a42 := nw_ne f_1089 hn_1093
  have f_1143 : h_1094 a39 = some (.inl (1, 100, .inl (fun _ => 0))) := by rw [eh_1094, ac_up_n _ _ t_1142]; exact f_1089
  have t_1144 : a40 ≠ a42 := nw_ne f_1090 hn_1093
  have f_1145 : h_1094 a40 = some (.inl (1, 800, .inl (fun _ => 0))) := by rw [eh_1094, ac_up_n _ _ t_1144]; exact f_1090
  have f_1146 : h_1094 a42 = some (.inl (1, 320, .inl (fun _ => 0))) := by rw [eh_1094]; exact ac_up_s _ _ _
  have kp_1147 : kp h h_1094 [o] := by rw [eh_1094]; exact kp_new n_1095 kp_1092
  refine pfX9_83_9 C hnm dX9_init_208 f_1097 rfl rfl (Nat.le_of_ble_eq_true rfl) (q := 211) rfl ?_
  show aw G 1 M 211 [.ref o] [] (ac_up h_1094 o (.inr (9, [.int 0, .ref a1, .int 0, .int 0, .int 0, .ref a5, .ref a6, .ref a7, .ref a8, .ref a9, .ref a10, .int 0, .ref a12, .ref a13, .int 0, .int 0, .ref a16, .int 0, .int 0, .int 0, .int 0, .ref a21, .ref a22, .ref a23, .ref a24, .ref a25, .ref a26, .ref a27, .int 0, .int 0, .int 0, .int 0, .int 0, .ref a33, .int 0, .ref a35, .ref a36, .ref a37, .ref a38, .ref a39, .ref a40, .int 0, .ref a42, .null]))) (((((((((((((((((((((((((0 + 1) + 1) + 1) + 1) + 1) + 1) + 1) + 1) + 1) + 1) + 1) + 1) + 1) + 1) + 1) + 1) + 1) + 1) + 1) + 1) + 1) + 1) + 1) + 1) + 1) (((((((((((((((((((((((((0 + 300) + 2800) + 2800) + 7) + 7) + 91) + 91) + 320) + 320) + 4) + 10) + 10) + 10) + 10) + 10) + 10) + 320) + 12) + 12) + 12) + 12) + 11) + 100) + 800) + 320)
  obtain ⟨h_1148, eh_1148⟩ : ∃ z9, z9 = ac_up h_1094 o (.inr (9, [.int 0, .ref a1, .int 0, .int 0, .int 0, .ref a5, .ref a6, .ref a7, .ref a8, .ref a9, .ref a10, .int 0, .ref a12, .ref a13, .int 0, .int 0, .ref a16, .int 0, .int 0, .int 0, .int 0, .ref a21, .ref a22, .ref a23, .ref a24, .ref a25, .ref a26, .ref a27, .int 0, .int 0, .int 0, .int 0, .int 0, .ref a33, .int 0, .ref a35, .ref a36, .ref a37, .ref a38, .ref a39, .ref a40, .int 0, .ref a42, .null])) := ⟨_, rfl⟩
  rw [← eh_1148]
  have f_1149 : h_1148 a1 = some (.inl (1, 300, .inl (fun _ => 0))) := by rw [eh_1148, ac_up_n _ _ (Ne.symm t_4)]; exact f_1099
  have f_1150 : h_1148 a5 = some (.inl (1, 2800, .inl (fun _ => 0))) := by rw [eh_1148, ac_up_n _ _ (Ne.symm t_15)]; exact f_1101
  have f_1151 : h_1148 a6 = some (.inl (1, 2800, .inl (fun _ => 0))) := by rw [eh_1148, ac_up_n _ _ (Ne.symm t_29)]; exact f_1103
  have f_1152 : h_1148 a7 = some (.inl (1, 7, .inl (fun _ => 0))) := by rw [eh_1148, ac_up_n _ _ (Ne.symm t_46)]; exact f_1105
  have f_1153 : h_1148 a8 = some (.inl (1, 7, .inl (fun _ => 0))) := by rw [eh_1148, ac_up_n _ _ (Ne.symm t_66)]; exact f_1107
  have f_1154 : h_1148 a9 = some (.inl (1, 91, .inl (fun _ => 0))) := by rw [eh_1148, ac_up_n _ _ (Ne.symm t_89)]; exact f_1109
  have f_1155 : h_1148 a10 = some (.inl (1, 91, .inl (fun _ => 0))) := by rw [eh_1148, ac_up_n _ _ (Ne.symm t_115)]; exact f_1111
  have f_1156 : h_1148 a12 = some (.inl (1, 320, .inl (fun _ => 0))) := by rw [eh_1148, ac_up_n _ _ (Ne.symm t_144)]; exact f_1113
  have f_1157 : h_1148 a13 = some (.inl (1, 320, .inl (fun _ => 0))) := by rw [eh_1148, ac_up_n _ _ (Ne.symm t_176)]; exact f_1115
  have f_1158 : h_1148 a16 = some (.inl (2, 4, .inr (.inl (fun _ => 0)))) := by rw [eh_1148, ac_up_n _ _ (Ne.symm t_211)]; exact f_1117
  have f_1159 : h_1148 a21 = some (.inl (1, 10, .inl (fun _ => 0))) := by rw [eh_1148, ac_up_n _ _ (Ne.symm t_249)]; exact f_1119
  have f_1160 : h_1148 a22 = some (.inl (1, 10, .inl (fun _ => 0))) := by rw [eh_1148, ac_up_n _ _ (Ne.symm t_290)]; exact f_1121
  have f_1161 : h_1148 a23 = some (.inl (1, 10, .inl (fun _ => 0))) := by rw [eh_1148, ac_up_n _ _ (Ne.symm t_334)]; exact f_1123
  have f_1162 : h_1148 a24 = some (.inl (1, 10, .inl (fun _ => 0))) := by rw [eh_1148, ac_up_n _ _ (Ne.symm t_381)]; exact f_1125
  have f_1163 : h_1148 a25 = some (.inl (1, 10, .inl (fun _ => 0))) := by rw [eh_1148, ac_up_n _ _ (Ne.symm t_431)]; exact f_1127
  have f_1164 : h_1148 a26 = some (.inl (1, 10, .inl (fun _ => 0))) := by rw [eh_1148, ac_up_n _ _ (Ne.symm t_484)]; exact f_1129
  have f_1165 : h_1148 a27 = some (.inl (2, 320, .inr (.inl (fun _ => 0)))) := by rw [eh_1148, ac_up_n _ _ (Ne.symm t_540)]; exact f_1131
  have f_1166 : h_1148 a33 = some (.inl (1, 12, .inl (fun _ => 0))) := by rw [eh_1148, ac_up_n _ _ (Ne.symm t_599)]; exact f_1133
  have f_1167 : h_1148 a35 = some (.inl (1, 12, .inl (fun _ => 0))) := by rw [eh_1148, ac_up_n _ _ (Ne.symm t_661)]; exact f_1135
  have f_1168 : h_1148 a36 = some (.inl (1, 12, .inl (fun _ => 0))) := by rw [eh_1148, ac_up_n _ _ (Ne.symm t_726)]; exact f_1137
  have f_1169 : h_1148 a37 = some (.inl (1, 12, .inl (fun _ => 0))) := by rw [eh_1148, ac_up_n _ _ (Ne.symm t_794)]; exact f_1139
  have f_1170 : h_1148 a38 = some (.inl (2, 11, .inr (.inl (fun _ => 0)))) := by rw [eh_1148, ac_up_n _ _ (Ne.symm t_865)]; exact f_1141
  have f_1171 : h_1148 a39 = some (.inl (1, 100, .inl (fun _ => 0))) := by rw [eh_1148, ac_up_n _ _ (Ne.symm t_939)]; exact f_1143
  have f_1172 : h_1148 a40 = some (.inl (1, 800, .inl (fun _ => 0))) := by rw [eh_1148, ac_up_n _ _ (Ne.symm t_1016)]; exact f_1145
  have f_1173 : h_1148 a42 = some (.inl (1, 320, .inl (fun _ => 0))) := by rw [eh_1148, ac_up_n _ _ (Ne.symm t_1096)]; exact f_1146
  have f_1174 : h_1148 o = some (.inr (9, [.int 0, .ref a1, .int 0, .int 0, .int 0, .ref a5, .ref a6, .ref a7, .ref a8, .ref a9, .ref a10, .int 0, .ref a12, .ref a13, .int 0, .int 0, .ref a16, .int 0, .int 0, .int 0, .int 0, .ref a21, .ref a22, .ref a23, .ref a24, .ref a25, .ref a26, .ref a27, .int 0, .int 0, .int 0, .int 0, .int 0, .ref a33, .int 0, .ref a35, .ref a36, .ref a37, .ref a38, .ref a39, .ref a40, .int 0, .ref a42, .null])) := by rw [eh_1148]; exact ac_up_s _ _ _
  have kp_1175 : kp h h_1148 [o] := by rw [eh_1148]; exact kp_up kp_1147 _ _ (by simp)
  refine aw_aload_n C dX9_init_211 rfl rfl (q := 212) rfl ?_
  refine aw_sipush (v := 320) C dX9_init_212 (by decide) (q := 215) rfl ?_
  refine ay_newI3 (N := 320) C dX9_init_215 (by decide) rfl (by decide) (Nat.le_trans (by omega) B.2.2.1) (Nat.le_trans (by omega) B.2.2.2) (q := 217) rfl (fun a43 hn_1176 _ => ?_)
  show aw G 1 M 217 [.ref o] [.ref a43, .ref o] (ac_up h_1148 a43 (.inl (1, 320, .inl (fun _ => 0)))) ((((((((((((((((((((((((((0 + 1) + 1) + 1) + 1) + 1) + 1) + 1) + 1) + 1) + 1) + 1) + 1) + 1) + 1) + 1) + 1) + 1) + 1) + 1) + 1) + 1) + 1) + 1) + 1) + 1) + 1) ((((((((((((((((((((((((((0 + 300) + 2800) + 2800) + 7) + 7) + 91) + 91) + 320) + 320) + 4) + 10) + 10) + 10) + 10) + 10) + 10) + 320) + 12) + 12) + 12) + 12) + 11) + 100) + 800) + 320) + 320)
  obtain ⟨h_1177, eh_1177⟩ : ∃ z9, z9 = ac_up h_1148 a43 (.inl (1, 320, .inl (fun _ => 0))) := ⟨_, rfl⟩
  rw [← eh_1177]
  have n_1178 : h a43 = none := kp_none kp_1175 hn_1176 (ni1 (Ne.symm (nw_ne f_1174 hn_1176)) ni0)
  have t_1179 : o ≠ a43 := nw_ne f_1174 hn_1176
  have f_1180 : h_1177 o = some (.inr (9, [.int 0, .ref a1, .int 0, .int 0, .int 0, .ref a5, .ref a6, .ref a7, .ref a8, .ref a9, .ref a10, .int 0, .ref a12, .ref a13, .int 0, .int 0, .ref a16, .int 0, .int 0, .int 0, .int 0, .ref a21, .ref a22, .ref a23, .ref a24, .ref a25, .ref a26, .ref a27, .int 0, .int 0, .int 0, .int 0, .int 0, .ref a33, .int 0, .ref a35, .ref a36, .ref a37, .ref a38, .ref a39, .ref a40, .int 0, .ref a42, .null])) := by rw [eh_1177, ac_up_n _ _ t_1179]; exact f_1174
  have t_1181 : a1 ≠ a43 := nw_ne f_1149 hn_1176
  have f_1182 : h_1177 a1 = some (.inl (1, 300, .inl (fun _ => 0))) := by rw [eh_1177, ac_up_n _ _ t_1181]; exact f_1149
  have t_1183 : a5 ≠ a43 := nw_ne f_1150 hn_1176
  have f_1184 : h_1177 a5 = some (.inl (1, 2800, .inl (fun _ => 0))) := by rw [eh_1177, ac_up_n _ _ t_1183]; exact f_1150
  have t_1185 : a6 ≠ a43 := nw_ne f_1151 hn_1176
  have f_1186 : h_1177 a6 = some (.inl (1, 2800, .inl (fun _ => 0))) := by rw [eh_1177, ac_up_n _ _ t_1185]; exact f_1151
  have t_1187 : a7 ≠ a43 := nw_ne f_1152 hn_1176
  have f_1188 : h_1177 a7 = some (.inl (1, 7, .inl (fun _ => 0))) := by rw [eh_1177, ac_up_n _ _ t_1187]; exact f_1152
  have t_1189 : a8 ≠ a43 := nw_ne f_1153 hn_1176
  have f_1190 : h_1177 a8 = some (.inl (1, 7, .inl (fun _ => 0))) := by rw [eh_1177, ac_up_n _ _ t_1189]; exact f_1153
  have t_1191 : a9 ≠ a43 := nw_ne f_1154 hn_1176
  have f_1192 : h_1177 a9 = some (.inl (1, 91, .inl (fun _ => 0))) := by rw [eh_1177, ac_up_n _ _ t_1191]; exact f_1154
  have t_1193 : a10 ≠ a43 := nw_ne f_1155 hn_1176
  have f_1194 : h_1177 a10 = some (.inl (1, 91, .inl (fun _ => 0))) := by rw [eh_1177, ac_up_n _ _ t_1193]; exact f_1155
  have t_1195 : a12 ≠ a43 := nw_ne f_1156 hn_1176
  have f_1196 : h_1177 a12 = some (.inl (1, 320, .inl (fun _ => 0))) := by rw [eh_1177, ac_up_n _ _ t_1195]; exact f_1156
  have t_1197 : a13 ≠ a43 := nw_ne f_1157 hn_1176
  have f_1198 : h_1177 a13 = some (.inl (1, 320, .inl (fun _ => 0))) := by rw [eh_1177, ac_up_n _ _ t_1197]; exact f_1157
  have t_1199 : a16 ≠ a43 := nw_ne f_1158 hn_1176
  have f_1200 : h_1177 a16 = some (.inl (2, 4, .inr (.inl (fun _ => 0)))) := by rw [eh_1177, ac_up_n _ _ t_1199]; exact f_1158
  have t_1201 : a21 ≠ a43 := nw_ne f_1159 hn_1176
  have f_1202 : h_1177 a21 = some (.inl (1, 10, .inl (fun _ => 0))) := by rw [eh_1177, ac_up_n _ _ t_1201]; exact f_1159
  have t_1203 : a22 ≠ a43 := nw_ne f_1160 hn_1176
  have f_1204 : h_1177 a22 = some (.inl (1, 10, .inl (fun _ => 0))) := by rw [eh_1177, ac_up_n _ _ t_1203]; exact f_1160
  have t_1205 : a23 ≠ a43 := nw_ne f_1161 hn_1176
  have f_1206 : h_1177 a23 = some (.inl (1, 10, .inl (fun _ => 0))) := by rw [eh_1177, ac_up_n _ _ t_1205]; exact f_1161
  have t_1207 : a24 ≠ a43 := nw_ne f_1162 hn_1176
  have f_1208 : h_1177 a24 = some (.inl (1, 10, .inl (fun _ => 0))) := by rw [eh_1177, ac_up_n _ _ t_1207]; exact f_1162
  have t_1209 : a25 ≠ a43 := nw_ne f_1163 hn_1176
  have f_1210 : h_1177 a25 = some (.inl (1, 10, .inl (fun _ => 0))) := by rw [eh_1177, ac_up_n _ _ t_1209]; exact f_1163
  have t_1211 : a26 ≠ a43 := nw_ne f_1164 hn_1176
  have f_1212 : h_1177 a26 = some (.inl (1, 10, .inl (fun _ => 0))) := by rw [eh_1177, ac_up_n _ _ t_1211]; exact f_1164
  have t_1213 : a27 ≠ a43 := nw_ne f_1165 hn_1176
  have f_1214 : h_1177 a27 = some (.inl (2, 320, .inr (.inl (fun _ => 0)))) := by rw [eh_1177, ac_up_n _ _ t_1213]; exact f_1165
  have t_1215 : a33 ≠ a43 := nw_ne f_1166 hn_1176
  have f_1216 : h_1177 a33 = some (.inl (1, 12, .inl (fun _ => 0))) := by rw [eh_1177, ac_up_n _ _ t_1215]; exact f_1166
  have t_1217 : a35 ≠ a43 := nw_ne f_1167 hn_1176
  have f_1218 : h_1177 a35 = some (.inl (1, 12, .inl (fun _ => 0))) := by rw [eh_1177, ac_up_n _ _ t_1217]; exact f_1167
  have t_1219 : a36 ≠ a43 := nw_ne f_1168 hn_1176
  have f_1220 : h_1177 a36 = some (.inl (1, 12, .inl (fun _ => 0))) := by rw [eh_1177, ac_up_n _ _ t_1219]; exact f_1168
  have t_1221 : a37 ≠ a43 := nw_ne f_1169 hn_1176
  have f_1222 : h_1177 a37 = some (.inl (1, 12, .inl (fun _ => 0))) := by rw [eh_1177, ac_up_n _ _ t_1221]; exact f_1169
  have t_1223 : a38 ≠ a43 := nw_ne f_1170 hn_1176
  have f_1224 : h_1177 a38 = some (.inl (2, 11, .inr (.inl (fun _ => 0)))) := by rw [eh_1177, ac_up_n _ _ t_1223]; exact f_1170
  have t_1225 : a39 ≠ a43 := nw_ne f_1171 hn_1176
  have f_1226 : h_1177 a39 = some (.inl (1, 100, .inl (fun _ => 0))) := by rw [eh_1177, ac_up_n _ _ t_1225]; exact f_1171
  have t_1227 : a40 ≠ a43 := nw_ne f_1172 hn_1176
  have f_1228 : h_1177 a40 = some (.inl (1, 800, .inl (fun _ => 0))) := by rw [eh_1177, ac_up_n _ _ t_1227]; exact f_1172
  have t_1229 : a42 ≠ a43 := nw_ne f_1173 hn_1176
  have f_1230 : h_1177 a42 = some (.inl (1, 320, .inl (fun _ => 0))) := by rw [eh_1177, ac_up_n _ _ t_1229]; exact f_1173
  have f_1231 : h_1177 a43 = some (.inl (1, 320, .inl (fun _ => 0))) := by rw [eh_1177]; exact ac_up_s _ _ _
  have kp_1232 : kp h h_1177 [o] := by rw [eh_1177]; exact kp_new n_1178 kp_1175
  refine pfX9_86_9 C hnm dX9_init_217 f_1180 rfl rfl (Nat.le_of_ble_eq_true rfl) (q := 220) rfl ?_
  show aw G 1 M 220 [.ref o] [] (ac_up h_1177 o (.inr (9, [.int 0, .ref a1, .int 0, .int 0, .int 0, .ref a5, .ref a6, .ref a7, .ref a8, .ref a9, .ref a10, .int 0, .ref a12, .ref a13, .int 0, .int 0, .ref a16, .int 0, .int 0, .int 0, .int 0, .ref a21, .ref a22, .ref a23, .ref a24, .ref a25, .ref a26, .ref a27, .int 0, .int 0, .int 0, .int 0, .int 0, .ref a33, .int 0, .ref a35, .ref a36, .ref a37, .ref a38, .ref a39, .ref a40, .int 0, .ref a42, .ref a43]))) ((((((((((((((((((((((((((0 + 1) + 1) + 1) + 1) + 1) + 1) + 1) + 1) + 1) + 1) + 1) + 1) + 1) + 1) + 1) + 1) + 1) + 1) + 1) + 1) + 1) + 1) + 1) + 1) + 1) + 1) ((((((((((((((((((((((((((0 + 300) + 2800) + 2800) + 7) + 7) + 91) + 91) + 320) + 320) + 4) + 10) + 10) + 10) + 10) + 10) + 10) + 320) + 12) + 12) + 12) + 12) + 11) + 100) + 800) + 320) + 320)
  obtain ⟨h_1233, eh_1233⟩ : ∃ z9, z9 = ac_up h_1177 o (.inr (9, [.int 0, .ref a1, .int 0, .int 0, .int 0, .ref a5, .ref a6, .ref a7, .ref a8, .ref a9, .ref a10, .int 0, .ref a12, .ref a13, .int 0, .int 0, .ref a16, .int 0, .int 0, .int 0, .int 0, .ref a21, .ref a22, .ref a23, .ref a24, .ref a25, .ref a26, .ref a27, .int 0, .int 0, .int 0, .int 0, .int 0, .ref a33, .int 0, .ref a35, .ref a36, .ref a37, .ref a38, .ref a39, .ref a40, .int 0, .ref a42, .ref a43])) := ⟨_, rfl⟩
  rw [← eh_1233]
  have f_1234 : h_1233 a1 = some (.inl (1, 300, .inl (fun _ => 0))) := by rw [eh_1233, ac_up_n _ _ (Ne.symm t_4)]; exact f_1182
  have f_1235 : h_1233 a5 = some (.inl (1, 2800, .inl (fun _ => 0))) := by rw [eh_1233, ac_up_n _ _ (Ne.symm t_15)]; exact f_1184
  have f_1236 : h_1233 a6 = some (.inl (1, 2800, .inl (fun _ => 0))) := by rw [eh_1233, ac_up_n _ _ (Ne.symm t_29)]; exact f_1186
  have f_1237 : h_1233 a7 = some (.inl (1, 7, .inl (fun _ => 0))) := by rw [eh_1233, ac_up_n _ _ (Ne.symm t_46)]; exact f_1188
  have f_1238 : h_1233 a8 = some (.inl (1, 7, .inl (fun _ => 0))) := by rw [eh_1233, ac_up_n _ _ (Ne.symm t_66)]; exact f_1190
  have f_1239 : h_1233 a9 = some (.inl (1, 91, .inl (fun _ => 0))) := by rw [eh_1233, ac_up_n _ _ (Ne.symm t_89)]; exact f_1192
  have f_1240 : h_1233 a10 = some (.inl (1, 91, .inl (fun _ => 0))) := by rw [eh_1233, ac_up_n _ _ (Ne.symm t_115)]; exact f_1194
  have f_1241 : h_1233 a12 = some (.inl (1, 320, .inl (fun _ => 0))) := by rw [eh_1233, ac_up_n _ _ (Ne.symm t_144)]; exact f_1196
  have f_1242 : h_1233 a13 = some (.inl (1, 320, .inl (fun _ => 0))) := by rw [eh_1233, ac_up_n _ _ (Ne.symm t_176)]; exact f_1198
  have f_1243 : h_1233 a16 = some (.inl (2, 4, .inr (.inl (fun _ => 0)))) := by rw [eh_1233, ac_up_n _ _ (Ne.symm t_211)]; exact f_1200
  have f_1244 : h_1233 a21 = some (.inl (1, 10, .inl (fun _ => 0))) := by rw [eh_1233, ac_up_n _ _ (Ne.symm t_249)]; exact f_1202
  have f_1245 : h_1233 a22 = some (.inl (1, 10, .inl (fun _ => 0))) := by rw [eh_1233, ac_up_n _ _ (Ne.symm t_290)]; exact f_1204
  have f_1246 : h_1233 a23 = some (.inl (1, 10, .inl (fun _ => 0))) := by rw [eh_1233, ac_up_n _ _ (Ne.symm t_334)]; exact f_1206
  have f_1247 : h_1233 a24 = some (.inl (1, 10, .inl (fun _ => 0))) := by rw [eh_1233, ac_up_n _ _ (Ne.symm t_381)]; exact f_1208
  have f_1248 : h_1233 a25 = some (.inl (1, 10, .inl (fun _ => 0))) := by rw [eh_1233, ac_up_n _ _ (Ne.symm t_431)]; exact f_1210
  have f_1249 : h_1233 a26 = some (.inl (1, 10, .inl (fun _ => 0))) := by rw [eh_1233, ac_up_n _ _ (Ne.symm t_484)]; exact f_1212
  have f_1250 : h_1233 a27 = some (.inl (2, 320, .inr (.inl (fun _ => 0)))) := by rw [eh_1233, ac_up_n _ _ (Ne.symm t_540)]; exact f_1214
  have f_1251 : h_1233 a33 = some (.inl (1, 12, .inl (fun _ => 0))) := by rw [eh_1233, ac_up_n _ _ (Ne.symm t_599)]; exact f_1216
  have f_1252 : h_1233 a35 = some (.inl (1, 12, .inl (fun _ => 0))) := by rw [eh_1233, ac_up_n _ _ (Ne.symm t_661)]; exact f_1218
  have f_1253 : h_1233 a36 = some (.inl (1, 12, .inl (fun _ => 0))) := by rw [eh_1233, ac_up_n _ _ (Ne.symm t_726)]; exact f_1220
  have f_1254 : h_1233 a37 = some (.inl (1, 12, .inl (fun _ => 0))) := by rw [eh_1233, ac_up_n _ _ (Ne.symm t_794)]; exact f_1222
  have f_1255 : h_1233 a38 = some (.inl (2, 11, .inr (.inl (fun _ => 0)))) := by rw [eh_1233, ac_up_n _ _ (Ne.symm t_865)]; exact f_1224
  have f_1256 : h_1233 a39 = some (.inl (1, 100, .inl (fun _ => 0))) := by rw [eh_1233, ac_up_n _ _ (Ne.symm t_939)]; exact f_1226
  have f_1257 : h_1233 a40 = some (.inl (1, 800, .inl (fun _ => 0))) := by rw [eh_1233, ac_up_n _ _ (Ne.symm t_1016)]; exact f_1228
  have f_1258 : h_1233 a42 = some (.inl (1, 320, .inl (fun _ => 0))) := by rw [eh_1233, ac_up_n _ _ (Ne.symm t_1096)]; exact f_1230
  have f_1259 : h_1233 a43 = some (.inl (1, 320, .inl (fun _ => 0))) := by rw [eh_1233, ac_up_n _ _ (Ne.symm t_1179)]; exact f_1231
  have f_1260 : h_1233 o = some (.inr (9, [.int 0, .ref a1, .int 0, .int 0, .int 0, .ref a5, .ref a6, .ref a7, .ref a8, .ref a9, .ref a10, .int 0, .ref a12, .ref a13, .int 0, .int 0, .ref a16, .int 0, .int 0, .int 0, .int 0, .ref a21, .ref a22, .ref a23, .ref a24, .ref a25, .ref a26, .ref a27, .int 0, .int 0, .int 0, .int 0, .int 0, .ref a33, .int 0, .ref a35, .ref a36, .ref a37, .ref a38, .ref a39, .ref a40, .int 0, .ref a42, .ref a43])) := by rw [eh_1233]; exact ac_up_s _ _ _
  have kp_1261 : kp h h_1233 [o] := by rw [eh_1233]; exact kp_up kp_1232 _ _ (by simp)
  refine aw_vret C E dX9_init_220 (by omega) (by omega) ?_
  obtain ⟨md, emd⟩ : ∃ md : Nat → Nat, md = (fun j => if j = 1 then a1 else if j = 5 then a5 else if j = 6 then a6 else if j = 7 then a7 else if j = 8 then a8 else if j = 9 then a9 else if j = 10 then a10 else if j = 12 then a12 else if j = 13 then a13 else if j = 21 then a21 else if j = 22 then a22 else if j = 23 then a23 else if j = 24 then a24 else if j = 25 then a25 else if j = 26 then a26 else if j = 33 then a33 else if j = 35 then a35 else if j = 36 then a36 else if j = 37 then a37 else if j = 39 then a39 else if j = 40 then a40 else if j = 42 then a42 else if j = 43 then a43 else if j = 16 then a16 else if j = 27 then a27 else if j = 38 then a38 else 0) := ⟨_, rfl⟩
  refine ⟨rfl, md, ?_, ?_, ⟨?_, ?_, ?_⟩, kp_1261⟩
  · refine nd_inj _ ?_
    rw [emd]
    exact (List.nodup_cons.mpr ⟨(ni1 t_17 (ni1 t_31 (ni1 t_48 (ni1 t_68 (ni1 t_91 (ni1 t_117 (ni1 t_146 (ni1 t_178 (ni1 t_251 (ni1 t_292 (ni1 t_336 (ni1 t_383 (ni1 t_433 (ni1 t_486 (ni1 t_601 (ni1 t_663 (ni1 t_728 (ni1 t_796 (ni1 t_941 (ni1 t_1018 (ni1 t_1098 (ni1 t_1181 (ni1 t_213 (ni1 t_542 (ni1 t_867 ni0))))))))))))))))))))))))), (List.nodup_cons.mpr ⟨(ni1 t_33 (ni1 t_50 (ni1 t_70 (ni1 t_93 (ni1 t_119 (ni1 t_148 (ni1 t_180 (ni1 t_253 (ni1 t_294 (ni1 t_338 (ni1 t_385 (ni1 t_435 (ni1 t_488 (ni1 t_603 (ni1 t_665 (ni1 t_730 (ni1 t_798 (ni1 t_943 (ni1 t_1020 (ni1 t_1100 (ni1 t_1183 (ni1 t_215 (ni1 t_544 (ni1 t_869 ni0)))))))))))))))))))))))), (List.nodup_cons.mpr ⟨(ni1 t_52 (ni1 t_72 (ni1 t_95 (ni1 t_121 (ni1 t_150 (ni1 t_182 (ni1 t_255 (ni1 t_296 (ni1 t_340 (ni1 t_387 (ni1 t_437 (ni1 t_490 (ni1 t_605 (ni1 t_667 (ni1 t_732 (ni1 t_800 (ni1 t_945 (ni1 t_1022 (ni1 t_1102 (ni1 t_1185 (ni1 t_217 (ni1 t_546 (ni1 t_871 ni0))))))))))))))))))))))), (List.nodup_cons.mpr ⟨(ni1 t_74 (ni1 t_97 (ni1 t_123 (ni1 t_152 (ni1 t_184 (ni1 t_257 (ni1 t_298 (ni1 t_342 (ni1 t_389 (ni1 t_439 (ni1 t_492 (ni1 t_607 (ni1 t_669 (ni1 t_734 (ni1 t_802 (ni1 t_947 (ni1 t_1024 (ni1 t_1104 (ni1 t_1187 (ni1 t_219 (ni1 t_548 (ni1 t_873 ni0)))))))))))))))))))))), (List.nodup_cons.mpr ⟨(ni1 t_99 (ni1 t_125 (ni1 t_154 (ni1 t_186 (ni1 t_259 (ni1 t_300 (ni1 t_344 (ni1 t_391 (ni1 t_441 (ni1 t_494 (ni1 t_609 (ni1 t_671 (ni1 t_736 (ni1 t_804 (ni1 t_949 (ni1 t_1026 (ni1 t_1106 (ni1 t_1189 (ni1 t_221 (ni1 t_550 (ni1 t_875 ni0))))))))))))))))))))), (List.nodup_cons.mpr ⟨(ni1 t_127 (ni1 t_156 (ni1 t_188 (ni1 t_261 (ni1 t_302 (ni1 t_346 (ni1 t_393 (ni1 t_443 (ni1 t_496 (ni1 t_611 (ni1 t_673 (ni1 t_738 (ni1 t_806 (ni1 t_951 (ni1 t_1028 (ni1 t_1108 (ni1 t_1191 (ni1 t_223 (ni1 t_552 (ni1 t_877 ni0)))))))))))))))))))), (List.nodup_cons.mpr ⟨(ni1 t_158 (ni1 t_190 (ni1 t_263 (ni1 t_304 (ni1 t_348 (ni1 t_395 (ni1 t_445 (ni1 t_498 (ni1 t_613 (ni1 t_675 (ni1 t_740 (ni1 t_808 (ni1 t_953 (ni1 t_1030 (ni1 t_1110 (ni1 t_1193 (ni1 t_225 (ni1 t_554 (ni1 t_879 ni0))))))))))))))))))), (List.nodup_cons.mpr ⟨(ni1 t_192 (ni1 t_265 (ni1 t_306 (ni1 t_350 (ni1 t_397 (ni1 t_447 (ni1 t_500 (ni1 t_615 (ni1 t_677 (ni1 t_742 (ni1 t_810 (ni1 t_955 (ni1 t_1032 (ni1 t_1112 (ni1 t_1195 (ni1 t_227 (ni1 t_556 (ni1 t_881 ni0)))))))))))))))))), (List.nodup_cons.mpr ⟨(ni1 t_267 (ni1 t_308 (ni1 t_352 (ni1 t_399 (ni1 t_449 (ni1 t_502 (ni1 t_617 (ni1 t_679 (ni1 t_744 (ni1 t_812 (ni1 t_957 (ni1 t_1034 (ni1 t_1114 (ni1 t_1197 (ni1 t_229 (ni1 t_558 (ni1 t_883 ni0))))))))))))))))), (List.nodup_cons.mpr ⟨(ni1 t_312 (ni1 t_356 (ni1 t_403 (ni1 t_453 (ni1 t_506 (ni1 t_621 (ni1 t_683 (ni1 t_748 (ni1 t_816 (ni1 t_961 (ni1 t_1038 (ni1 t_1118 (ni1 t_1201 (ni1 (Ne.symm t_269) (ni1 t_562 (ni1 t_887 ni0)))))))))))))))), (List.nodup_cons.mpr ⟨(ni1 t_358 (ni1 t_405 (ni1 t_455 (ni1 t_508 (ni1 t_623 (ni1 t_685 (ni1 t_750 (ni1 t_818 (ni1 t_963 (ni1 t_1040 (ni1 t_1120 (ni1 t_1203 (ni1 (Ne.symm t_310) (ni1 t_564 (ni1 t_889 ni0))))))))))))))), (List.nodup_cons.mpr ⟨(ni1 t_407 (ni1 t_457 (ni1 t_510 (ni1 t_625 (ni1 t_687 (ni1 t_752 (ni1 t_820 (ni1 t_965 (ni1 t_1042 (ni1 t_1122 (ni1 t_1205 (ni1 (Ne.symm t_354) (ni1 t_566 (ni1 t_891 ni0)))))))))))))), (List.nodup_cons.mpr ⟨(ni1 t_459 (ni1 t_512 (ni1 t_627 (ni1 t_689 (ni1 t_754 (ni1 t_822 (ni1 t_967 (ni1 t_1044 (ni1 t_1124 (ni1 t_1207 (ni1 (Ne.symm t_401) (ni1 t_568 (ni1 t_893 ni0))))))))))))), (List.nodup_cons.mpr ⟨(ni1 t_514 (ni1 t_629 (ni1 t_691 (ni1 t_756 (ni1 t_824 (ni1 t_969 (ni1 t_1046 (ni1 t_1126 (ni1 t_1209 (ni1 (Ne.symm t_451) (ni1 t_570 (ni1 t_895 ni0)))))))))))), (List.nodup_cons.mpr ⟨(ni1 t_631 (ni1 t_693 (ni1 t_758 (ni1 t_826 (ni1 t_971 (ni1 t_1048 (ni1 t_1128 (ni1 t_1211 (ni1 (Ne.symm t_504) (ni1 t_572 (ni1 t_897 ni0))))))))))), (List.nodup_cons.mpr ⟨(ni1 t_697 (ni1 t_762 (ni1 t_830 (ni1 t_975 (ni1 t_1052 (ni1 t_1132 (ni1 t_1215 (ni1 (Ne.symm t_619) (ni1 (Ne.symm t_633) (ni1 t_901 ni0)))))))))), (List.nodup_cons.mpr ⟨(ni1 t_764 (ni1 t_832 (ni1 t_977 (ni1 t_1054 (ni1 t_1134 (ni1 t_1217 (ni1 (Ne.symm t_681) (ni1 (Ne.symm t_695) (ni1 t_903 ni0))))))))), (List.nodup_cons.mpr ⟨(ni1 t_834 (ni1 t_979 (ni1 t_1056 (ni1 t_1136 (ni1 t_1219 (ni1 (Ne.symm t_746) (ni1 (Ne.symm t_760) (ni1 t_905 ni0)))))))), (List.nodup_cons.mpr ⟨(ni1 t_981 (ni1 t_1058 (ni1 t_1138 (ni1 t_1221 (ni1 (Ne.symm t_814) (ni1 (Ne.symm t_828) (ni1 t_907 ni0))))))), (List.nodup_cons.mpr ⟨(ni1 t_1062 (ni1 t_1142 (ni1 t_1225 (ni1 (Ne.symm t_959) (ni1 (Ne.symm t_973) (ni1 (Ne.symm t_983) ni0)))))), (List.nodup_cons.mpr ⟨(ni1 t_1144 (ni1 t_1227 (ni1 (Ne.symm t_1036) (ni1 (Ne.symm t_1050) (ni1 (Ne.symm t_1060) ni0))))), (List.nodup_cons.mpr ⟨(ni1 t_1229 (ni1 (Ne.symm t_1116) (ni1 (Ne.symm t_1130) (ni1 (Ne.symm t_1140) ni0)))), (List.nodup_cons.mpr ⟨(ni1 (Ne.symm t_1199) (ni1 (Ne.symm t_1213) (ni1 (Ne.symm t_1223) ni0))), (List.nodup_cons.mpr ⟨(ni1 t_560 (ni1 t_885 ni0)), (List.nodup_cons.mpr ⟨(ni1 t_899 ni0), (List.nodup_cons.mpr ⟨ni0, List.nodup_nil⟩)⟩)⟩)⟩)⟩)⟩)⟩)⟩)⟩)⟩)⟩)⟩)⟩)⟩)⟩)⟩)⟩)⟩)⟩)⟩)⟩)⟩)⟩)⟩)⟩)⟩)
  · intro j hj
    rw [emd]
    exact (show ∀ j ∈ md_ia ++ md_la, h ((fun j => if j = 1 then a1 else if j = 5 then a5 else if j = 6 then a6 else if j = 7 then a7 else if j = 8 then a8 else if j = 9 then a9 else if j = 10 then a10 else if j = 12 then a12 else if j = 13 then a13 else if j = 21 then a21 else if j = 22 then a22 else if j = 23 then a23 else if j = 24 then a24 else if j = 25 then a25 else if j = 26 then a26 else if j = 33 then a33 else if j = 35 then a35 else if j = 36 then a36 else if j = 37 then a37 else if j = 39 then a39 else if j = 40 then a40 else if j = 42 then a42 else if j = 43 then a43 else if j = 16 then a16 else if j = 27 then a27 else if j = 38 then a38 else 0) j) = none from (all1 n_3 (all1 n_14 (all1 n_28 (all1 n_45 (all1 n_65 (all1 n_88 (all1 n_114 (all1 n_143 (all1 n_175 (all1 n_248 (all1 n_289 (all1 n_333 (all1 n_380 (all1 n_430 (all1 n_483 (all1 n_598 (all1 n_660 (all1 n_725 (all1 n_793 (all1 n_938 (all1 n_1015 (all1 n_1095 (all1 n_1178 (all1 n_210 (all1 n_539 (all1 n_864 all0))))))))))))))))))))))))))) j hj
  · rw [emd]; exact f_1260
  · rw [emd]
    exact (show ∀ j ∈ md_ia, h_1233 ((fun j => if j = 1 then a1 else if j = 5 then a5 else if j = 6 then a6 else if j = 7 then a7 else if j = 8 then a8 else if j = 9 then a9 else if j = 10 then a10 else if j = 12 then a12 else if j = 13 then a13 else if j = 21 then a21 else if j = 22 then a22 else if j = 23 then a23 else if j = 24 then a24 else if j = 25 then a25 else if j = 26 then a26 else if j = 33 then a33 else if j = 35 then a35 else if j = 36 then a36 else if j = 37 then a37 else if j = 39 then a39 else if j = 40 then a40 else if j = 42 then a42 else if j = 43 then a43 else if j = 16 then a16 else if j = 27 then a27 else if j = 38 then a38 else 0) j) = some (.inl (1, md_len j, .inl (fun _ => 0))) from (all1 f_1234 (all1 f_1235 (all1 f_1236 (all1 f_1237 (all1 f_1238 (all1 f_1239 (all1 f_1240 (all1 f_1241 (all1 f_1242 (all1 f_1244 (all1 f_1245 (all1 f_1246 (all1 f_1247 (all1 f_1248 (all1 f_1249 (all1 f_1251 (all1 f_1252 (all1 f_1253 (all1 f_1254 (all1 f_1256 (all1 f_1257 (all1 f_1258 (all1 f_1259 all0))))))))))))))))))))))))
  · rw [emd]
    exact (show ∀ j ∈ md_la, h_1233 ((fun j => if j = 1 then a1 else if j = 5 then a5 else if j = 6 then a6 else if j = 7 then a7 else if j = 8 then a8 else if j = 9 then a9 else if j = 10 then a10 else if j = 12 then a12 else if j = 13 then a13 else if j = 21 then a21 else if j = 22 then a22 else if j = 23 then a23 else if j = 24 then a24 else if j = 25 then a25 else if j = 26 then a26 else if j = 33 then a33 else if j = 35 then a35 else if j = 36 then a36 else if j = 37 then a37 else if j = 39 then a39 else if j = 40 then a40 else if j = 42 then a42 else if j = 43 then a43 else if j = 16 then a16 else if j = 27 then a27 else if j = 38 then a38 else 0) j) = some (.inl (2, md_len j, .inr (.inl (fun _ => 0)))) from (all1 f_1243 (all1 f_1250 (all1 f_1255 all0))))
