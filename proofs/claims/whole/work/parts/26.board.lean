/-! new arrays -/
theorem nw_ne {h : ac_H} {x a : Nat} {e : ac_E} (hx : h x = some e) (hn : h a = none) : x ≠ a := fun z => by rw [z, hn] at hx; cases hx
theorem kp_none {h h1 : ac_H} {L : List Nat} {a : Nat} (k : kp h h1 L) (hn : h1 a = none) (ha : a ∉ L) : h a = none := by
  cases e : h a with
  | none => rfl
  | some x => rw [k a x e ha] at hn; cases hn
theorem inj_nd {L : List Nat} (h : L.Nodup) : inj (fun j => L.getD j 0) L.length := by
  intro i j hi hj hij e
  have e1 : L[i]'hi = L[j]'hj := by
    have a1 : L.getD i 0 = L[i]'hi := by rw [List.getD_eq_getElem?_getD, List.getElem?_eq_getElem hi]; rfl
    have a2 : L.getD j 0 = L[j]'hj := by rw [List.getD_eq_getElem?_getD, List.getElem?_eq_getElem hj]; rfl
    rw [← a1, ← a2]; exact e
  rcases Nat.lt_or_gt_of_ne hij with z | z
  · exact (List.pairwise_iff_getElem.mp h) i j hi hj z e1
  · exact (List.pairwise_iff_getElem.mp h) j i hj hi z e1.symm
theorem all1 {P : Nat → Prop} {a : Nat} {L : List Nat} (h : P a) (hL : ∀ x ∈ L, P x) : ∀ x ∈ a :: L, P x := fun x hx => (List.mem_cons.mp hx).elim (fun z => by rw [z]; exact h) (hL x)
theorem all0 {P : Nat → Prop} : ∀ x ∈ ([] : List Nat), P x := fun _ h => nomatch h
theorem pl_rows {P : Nat → Prop} (p5 : P 5) (p6 : P 6) (p7 : P 7) (p8 : P 8) (p9 : P 9) (p10 : P 10) : ∀ j, 5 ≤ j → j < 11 → P j := by
  intro j h1 h2
  rcases (show j = 5 ∨ j = 6 ∨ j = 7 ∨ j = 8 ∨ j = 9 ∨ j = 10 from by omega) with rfl | rfl | rfl | rfl | rfl | rfl
  · exact p5
  · exact p6
  · exact p7
  · exact p8
  · exact p9
  · exact p10
section
variable {G : ac_G} {own : String} {cc : ByteArray} {nL : Nat} {ret : Option FieldType} {M : ac_M} {pc q : Nat} {ls st : List Value} {h : ac_H} {k n : Nat}
theorem ay_newI {N : Nat} {x : Int32} (C : ac_MC G own cc nL ret M) (d : decode cc pc = .ok (.newarray .int, 2)) (hx : ¬ x < 0) (hN : x.toNatClampNeg = N) (hb : N ≤ 2000) (hk : k + 1 ≤ (ac_Rm M).cells) (hn : n + N ≤ (ac_Rm M).slots) (hq : pc + 2 = q) (kk : ∀ a, h a = none → G.2.2.1 ≤ a → aw G nL M q ls (.ref a :: st) (ac_up h a (.inl (1, N, .inl (fun _ => 0)))) (k + 1) (n + N)) : aw G nL M pc ls (.int x :: st) h k n :=
  aw_newa (t := 1) C d rfl (ac_ws_in 137 (by decide +kernel) (by decide +kernel)) rfl (fun _ z => by cases z) (fun _ => rfl) hx hN (by show N * 4 ≤ _; omega) hk hn hq kk
theorem ay_newC {N : Nat} {x : Int32} (C : ac_MC G own cc nL ret M) (d : decode cc pc = .ok (.newarray .char, 2)) (hx : ¬ x < 0) (hN : x.toNatClampNeg = N) (hb : N ≤ 2000) (hk : k + 1 ≤ (ac_Rm M).cells) (hn : n + N ≤ (ac_Rm M).slots) (hq : pc + 2 = q) (kk : ∀ a, h a = none → G.2.2.1 ≤ a → aw G nL M q ls (.ref a :: st) (ac_up h a (.inl (0, N, .inl (fun _ => 0)))) (k + 1) (n + N)) : aw G nL M pc ls (.int x :: st) h k n :=
  aw_newa (t := 0) C d rfl (ac_ws_in 191 (by decide +kernel) (by decide +kernel)) rfl (fun _ z => by cases z) (fun _ => rfl) hx hN (by show N * 2 ≤ _; omega) hk hn hq kk
theorem ay_newZ {N : Nat} {x : Int32} (C : ac_MC G own cc nL ret M) (d : decode cc pc = .ok (.newarray .boolean, 2)) (hx : ¬ x < 0) (hN : x.toNatClampNeg = N) (hb : N ≤ 2000) (hk : k + 1 ≤ (ac_Rm M).cells) (hn : n + N ≤ (ac_Rm M).slots) (hq : pc + 2 = q) (kk : ∀ a, h a = none → G.2.2.1 ≤ a → aw G nL M q ls (.ref a :: st) (ac_up h a (.inl (3, N, .inl (fun _ => 0)))) (k + 1) (n + N)) : aw G nL M pc ls (.int x :: st) h k n :=
  aw_newa (t := 3) C d rfl (ac_ws_in 192 (by decide +kernel) (by decide +kernel)) rfl (fun _ z => by cases z) (fun _ => rfl) hx hN (by show N * 1 ≤ _; omega) hk hn hq kk
theorem ay_newL {N : Nat} {x : Int32} (C : ac_MC G own cc nL ret M) (d : decode cc pc = .ok (.newarray .long, 2)) (hx : ¬ x < 0) (hN : x.toNatClampNeg = N) (hb : N ≤ 2000) (hk : k + 1 ≤ (ac_Rm M).cells) (hn : n + N ≤ (ac_Rm M).slots) (hq : pc + 2 = q) (kk : ∀ a, h a = none → G.2.2.1 ≤ a → aw G nL M q ls (.ref a :: st) (ac_up h a (.inl (2, N, .inr (.inl (fun _ => 0))))) (k + 1) (n + N)) : aw G nL M pc ls (.int x :: st) h k n :=
  aw_newa (t := 2) C d rfl (ac_ws_in 247 (by decide +kernel) (by decide +kernel)) rfl (fun _ z => by cases z) (fun _ => rfl) hx hN (by show N * 8 ≤ _; omega) hk hn hq kk
end
/-! Plank: resize, append, empty, init -/
def pl_size (I : Nat → Int32) (a b t : Int32) : Nat → Int32 := fun j => if j = 0 then a else if j = 1 then b else if j = 2 then t else if j = 4 then I 4 + 1 else I j
def pl_cnt (I : Nat → Int32) (c : Nat) : Nat → Int32 := fun j => if j = 3 then nI c else if j = 4 then I 4 + 1 else I j
def pl_arg (fa ki x y w h : Int32) : Nat → Int32 := fun j => if j = 5 then fa else if j = 6 then ki else if j = 7 then x else if j = 8 then y else if j = 9 then w else h
def pl_app (F : Nat → Nat → Int32) (c : Nat) (a : Nat → Int32) : Nat → Nat → Int32 := fun j => upd (F j) c (a j)
def pl_dis (A : Nat → Nat) : Prop := ∀ i j, 5 ≤ i → i < 11 → 5 ≤ j → j < 11 → i ≠ j → A i ≠ A j
set_option maxHeartbeats 4000000 in
set_option maxRecDepth 100000 in
theorem c_resize (G : ac_G) (l : Launch) (h : ac_H) (d : Nat) (p : Nat) (A : Nat → Nat) (I : Nat → Int32) (F : Nat → Nat → Int32) (c : Nat) (a b t : Int32) (K : pl_ok h p A I F c) : ac_Met G l yX1_resize cX1_resize 4 none d 0 0 [.ref p, .int a, .int b, .int t] h (fun r9 h9 => r9 = none ∧ pl_ok h9 p A (pl_size I a b t) F c ∧ kp h h9 [p]) := by
  refine ac_of (ls := [.ref p, .int a, .int b, .int t]) (by decide +kernel) rfl (Nat.le_of_ble_eq_true rfl) (fun M hl C B E hnm => ?_)
  refine aw_aload_n C dX1_resize_0 rfl rfl (q := 1) rfl ?_
  refine aw_iload_n C dX1_resize_1 rfl rfl (q := 2) rfl ?_
  refine pfX1_30_1 C dX1_resize_2 K.1 rfl rfl (Nat.le_of_ble_eq_true rfl) (q := 5) rfl ?_
  show aw G 4 M 5 [.ref p, .int a, .int b, .int t] [] (ac_up h p (.inr (1, [.int a, .int (I 1), .int (I 2), .int (I 3), .int (I 4), .ref (A 5), .ref (A 6), .ref (A 7), .ref (A 8), .ref (A 9), .ref (A 10)]))) 0 0
  obtain ⟨h_1, eh_1⟩ : ∃ z, z = ac_up h p (.inr (1, [.int a, .int (I 1), .int (I 2), .int (I 3), .int (I 4), .ref (A 5), .ref (A 6), .ref (A 7), .ref (A 8), .ref (A 9), .ref (A 10)])) := ⟨_, rfl⟩
  rw [← eh_1]
  have f_2 : h_1 (A 5) = some (.inl (1, 10, .inl (F 5))) := by rw [eh_1, ac_up_n _ _ (ne_ai (K.2.1 5 (by decide) (by decide)) K.1)]; exact (K.2.1 5 (by decide) (by decide))
  have f_3 : h_1 (A 6) = some (.inl (1, 10, .inl (F 6))) := by rw [eh_1, ac_up_n _ _ (ne_ai (K.2.1 6 (by decide) (by decide)) K.1)]; exact (K.2.1 6 (by decide) (by decide))
  have f_4 : h_1 (A 7) = some (.inl (1, 10, .inl (F 7))) := by rw [eh_1, ac_up_n _ _ (ne_ai (K.2.1 7 (by decide) (by decide)) K.1)]; exact (K.2.1 7 (by decide) (by decide))
  have f_5 : h_1 (A 8) = some (.inl (1, 10, .inl (F 8))) := by rw [eh_1, ac_up_n _ _ (ne_ai (K.2.1 8 (by decide) (by decide)) K.1)]; exact (K.2.1 8 (by decide) (by decide))
  have f_6 : h_1 (A 9) = some (.inl (1, 10, .inl (F 9))) := by rw [eh_1, ac_up_n _ _ (ne_ai (K.2.1 9 (by decide) (by decide)) K.1)]; exact (K.2.1 9 (by decide) (by decide))
  have f_7 : h_1 (A 10) = some (.inl (1, 10, .inl (F 10))) := by rw [eh_1, ac_up_n _ _ (ne_ai (K.2.1 10 (by decide) (by decide)) K.1)]; exact (K.2.1 10 (by decide) (by decide))
  have f_8 : h_1 p = some (.inr (1, [.int a, .int (I 1), .int (I 2), .int (I 3), .int (I 4), .ref (A 5), .ref (A 6), .ref (A 7), .ref (A 8), .ref (A 9), .ref (A 10)])) := by rw [eh_1]; exact ac_up_s _ _ _
  have kp_9 : kp h h_1 [p] := by rw [eh_1]; exact kp_up (kp_cons p kp_rf) _ _ (by simp)
  refine aw_aload_n C dX1_resize_5 rfl rfl (q := 6) rfl ?_
  refine aw_iload_n C dX1_resize_6 rfl rfl (q := 7) rfl ?_
  refine pfX1_34_1 C dX1_resize_7 f_8 rfl rfl (Nat.le_of_ble_eq_true rfl) (q := 10) rfl ?_
  show aw G 4 M 10 [.ref p, .int a, .int b, .int t] [] (ac_up h_1 p (.inr (1, [.int a, .int b, .int (I 2), .int (I 3), .int (I 4), .ref (A 5), .ref (A 6), .ref (A 7), .ref (A 8), .ref (A 9), .ref (A 10)]))) 0 0
  obtain ⟨h_10, eh_10⟩ : ∃ z, z = ac_up h_1 p (.inr (1, [.int a, .int b, .int (I 2), .int (I 3), .int (I 4), .ref (A 5), .ref (A 6), .ref (A 7), .ref (A 8), .ref (A 9), .ref (A 10)])) := ⟨_, rfl⟩
  rw [← eh_10]
  have f_11 : h_10 (A 5) = some (.inl (1, 10, .inl (F 5))) := by rw [eh_10, ac_up_n _ _ (ne_ai (K.2.1 5 (by decide) (by decide)) K.1)]; exact f_2
  have f_12 : h_10 (A 6) = some (.inl (1, 10, .inl (F 6))) := by rw [eh_10, ac_up_n _ _ (ne_ai (K.2.1 6 (by decide) (by decide)) K.1)]; exact f_3
  have f_13 : h_10 (A 7) = some (.inl (1, 10, .inl (F 7))) := by rw [eh_10, ac_up_n _ _ (ne_ai (K.2.1 7 (by decide) (by decide)) K.1)]; exact f_4
  have f_14 : h_10 (A 8) = some (.inl (1, 10, .inl (F 8))) := by rw [eh_10, ac_up_n _ _ (ne_ai (K.2.1 8 (by decide) (by decide)) K.1)]; exact f_5
  have f_15 : h_10 (A 9) = some (.inl (1, 10, .inl (F 9))) := by rw [eh_10, ac_up_n _ _ (ne_ai (K.2.1 9 (by decide) (by decide)) K.1)]; exact f_6
  have f_16 : h_10 (A 10) = some (.inl (1, 10, .inl (F 10))) := by rw [eh_10, ac_up_n _ _ (ne_ai (K.2.1 10 (by decide) (by decide)) K.1)]; exact f_7
  have f_17 : h_10 p = some (.inr (1, [.int a, .int b, .int (I 2), .int (I 3), .int (I 4), .ref (A 5), .ref (A 6), .ref (A 7), .ref (A 8), .ref (A 9), .ref (A 10)])) := by rw [eh_10]; exact ac_up_s _ _ _
  have kp_18 : kp h h_10 [p] := by rw [eh_10]; exact kp_up kp_9 _ _ (by simp)
  refine aw_aload_n C dX1_resize_10 rfl rfl (q := 11) rfl ?_
  refine aw_iload_n C dX1_resize_11 rfl rfl (q := 12) rfl ?_
  refine pfX1_37_1 C dX1_resize_12 f_17 rfl rfl (Nat.le_of_ble_eq_true rfl) (q := 15) rfl ?_
  show aw G 4 M 15 [.ref p, .int a, .int b, .int t] [] (ac_up h_10 p (.inr (1, [.int a, .int b, .int t, .int (I 3), .int (I 4), .ref (A 5), .ref (A 6), .ref (A 7), .ref (A 8), .ref (A 9), .ref (A 10)]))) 0 0
  obtain ⟨h_19, eh_19⟩ : ∃ z, z = ac_up h_10 p (.inr (1, [.int a, .int b, .int t, .int (I 3), .int (I 4), .ref (A 5), .ref (A 6), .ref (A 7), .ref (A 8), .ref (A 9), .ref (A 10)])) := ⟨_, rfl⟩
  rw [← eh_19]
  have f_20 : h_19 (A 5) = some (.inl (1, 10, .inl (F 5))) := by rw [eh_19, ac_up_n _ _ (ne_ai (K.2.1 5 (by decide) (by decide)) K.1)]; exact f_11
  have f_21 : h_19 (A 6) = some (.inl (1, 10, .inl (F 6))) := by rw [eh_19, ac_up_n _ _ (ne_ai (K.2.1 6 (by decide) (by decide)) K.1)]; exact f_12
  have f_22 : h_19 (A 7) = some (.inl (1, 10, .inl (F 7))) := by rw [eh_19, ac_up_n _ _ (ne_ai (K.2.1 7 (by decide) (by decide)) K.1)]; exact f_13
  have f_23 : h_19 (A 8) = some (.inl (1, 10, .inl (F 8))) := by rw [eh_19, ac_up_n _ _ (ne_ai (K.2.1 8 (by decide) (by decide)) K.1)]; exact f_14
  have f_24 : h_19 (A 9) = some (.inl (1, 10, .inl (F 9))) := by rw [eh_19, ac_up_n _ _ (ne_ai (K.2.1 9 (by decide) (by decide)) K.1)]; exact f_15
  have f_25 : h_19 (A 10) = some (.inl (1, 10, .inl (F 10))) := by rw [eh_19, ac_up_n _ _ (ne_ai (K.2.1 10 (by decide) (by decide)) K.1)]; exact f_16
  have f_26 : h_19 p = some (.inr (1, [.int a, .int b, .int t, .int (I 3), .int (I 4), .ref (A 5), .ref (A 6), .ref (A 7), .ref (A 8), .ref (A 9), .ref (A 10)])) := by rw [eh_19]; exact ac_up_s _ _ _
  have kp_27 : kp h h_19 [p] := by rw [eh_19]; exact kp_up kp_18 _ _ (by simp)
  refine aw_aload_n C dX1_resize_15 rfl rfl (q := 16) rfl ?_
  refine aw_dup C dX1_resize_16 rfl (q := 17) rfl ?_
  refine gfX1_40_1 (v := .int (I 4)) C dX1_resize_17 f_26 rfl (q := 20) rfl ?_
  refine aw_iconst (v := 1) C dX1_resize_20 (by decide) (q := 21) rfl ?_
  refine aw_iadd C dX1_resize_21 (q := 22) rfl ?_
  refine pfX1_40_1 C dX1_resize_22 f_26 rfl rfl (Nat.le_of_ble_eq_true rfl) (q := 25) rfl ?_
  show aw G 4 M 25 [.ref p, .int a, .int b, .int t] [] (ac_up h_19 p (.inr (1, [.int a, .int b, .int t, .int (I 3), .int ((I 4) + 1), .ref (A 5), .ref (A 6), .ref (A 7), .ref (A 8), .ref (A 9), .ref (A 10)]))) 0 0
  obtain ⟨h_28, eh_28⟩ : ∃ z, z = ac_up h_19 p (.inr (1, [.int a, .int b, .int t, .int (I 3), .int ((I 4) + 1), .ref (A 5), .ref (A 6), .ref (A 7), .ref (A 8), .ref (A 9), .ref (A 10)])) := ⟨_, rfl⟩
  rw [← eh_28]
  have f_29 : h_28 (A 5) = some (.inl (1, 10, .inl (F 5))) := by rw [eh_28, ac_up_n _ _ (ne_ai (K.2.1 5 (by decide) (by decide)) K.1)]; exact f_20
  have f_30 : h_28 (A 6) = some (.inl (1, 10, .inl (F 6))) := by rw [eh_28, ac_up_n _ _ (ne_ai (K.2.1 6 (by decide) (by decide)) K.1)]; exact f_21
  have f_31 : h_28 (A 7) = some (.inl (1, 10, .inl (F 7))) := by rw [eh_28, ac_up_n _ _ (ne_ai (K.2.1 7 (by decide) (by decide)) K.1)]; exact f_22
  have f_32 : h_28 (A 8) = some (.inl (1, 10, .inl (F 8))) := by rw [eh_28, ac_up_n _ _ (ne_ai (K.2.1 8 (by decide) (by decide)) K.1)]; exact f_23
  have f_33 : h_28 (A 9) = some (.inl (1, 10, .inl (F 9))) := by rw [eh_28, ac_up_n _ _ (ne_ai (K.2.1 9 (by decide) (by decide)) K.1)]; exact f_24
  have f_34 : h_28 (A 10) = some (.inl (1, 10, .inl (F 10))) := by rw [eh_28, ac_up_n _ _ (ne_ai (K.2.1 10 (by decide) (by decide)) K.1)]; exact f_25
  have f_35 : h_28 p = some (.inr (1, [.int a, .int b, .int t, .int (I 3), .int ((I 4) + 1), .ref (A 5), .ref (A 6), .ref (A 7), .ref (A 8), .ref (A 9), .ref (A 10)])) := by rw [eh_28]; exact ac_up_s _ _ _
  have kp_36 : kp h h_28 [p] := by rw [eh_28]; exact kp_up kp_27 _ _ (by simp)
  refine aw_vret C E dX1_resize_25 (Nat.le_refl _) (Nat.le_refl _) ?_
  exact ⟨rfl, ⟨f_35, (pl_rows f_29 f_30 f_31 f_32 f_33 f_34), K.2.2⟩, kp_36⟩
set_option maxHeartbeats 4000000 in
set_option maxRecDepth 100000 in
theorem c_empty (G : ac_G) (l : Launch) (h : ac_H) (d : Nat) (p : Nat) (A : Nat → Nat) (I : Nat → Int32) (F : Nat → Nat → Int32) (c : Nat) (K : pl_ok h p A I F c) : ac_Met G l yX1_empty cX1_empty 1 none d 0 0 [.ref p] h (fun r9 h9 => r9 = none ∧ pl_ok h9 p A (pl_cnt I 0) F 0 ∧ kp h h9 [p]) := by
  refine ac_of (ls := [.ref p]) (by decide +kernel) rfl (Nat.le_of_ble_eq_true rfl) (fun M hl C B E hnm => ?_)
  refine aw_aload_n C dX1_empty_0 rfl rfl (q := 1) rfl ?_
  refine aw_iconst (v := 0) C dX1_empty_1 (by decide) (q := 2) rfl ?_
  refine pfX1_43_1 C dX1_empty_2 K.1 rfl rfl (Nat.le_of_ble_eq_true rfl) (q := 5) rfl ?_
  show aw G 1 M 5 [.ref p] [] (ac_up h p (.inr (1, [.int (I 0), .int (I 1), .int (I 2), .int 0, .int (I 4), .ref (A 5), .ref (A 6), .ref (A 7), .ref (A 8), .ref (A 9), .ref (A 10)]))) 0 0
  obtain ⟨h_1, eh_1⟩ : ∃ z, z = ac_up h p (.inr (1, [.int (I 0), .int (I 1), .int (I 2), .int 0, .int (I 4), .ref (A 5), .ref (A 6), .ref (A 7), .ref (A 8), .ref (A 9), .ref (A 10)])) := ⟨_, rfl⟩
  rw [← eh_1]
  have f_2 : h_1 (A 5) = some (.inl (1, 10, .inl (F 5))) := by rw [eh_1, ac_up_n _ _ (ne_ai (K.2.1 5 (by decide) (by decide)) K.1)]; exact (K.2.1 5 (by decide) (by decide))
  have f_3 : h_1 (A 6) = some (.inl (1, 10, .inl (F 6))) := by rw [eh_1, ac_up_n _ _ (ne_ai (K.2.1 6 (by decide) (by decide)) K.1)]; exact (K.2.1 6 (by decide) (by decide))
  have f_4 : h_1 (A 7) = some (.inl (1, 10, .inl (F 7))) := by rw [eh_1, ac_up_n _ _ (ne_ai (K.2.1 7 (by decide) (by decide)) K.1)]; exact (K.2.1 7 (by decide) (by decide))
  have f_5 : h_1 (A 8) = some (.inl (1, 10, .inl (F 8))) := by rw [eh_1, ac_up_n _ _ (ne_ai (K.2.1 8 (by decide) (by decide)) K.1)]; exact (K.2.1 8 (by decide) (by decide))
  have f_6 : h_1 (A 9) = some (.inl (1, 10, .inl (F 9))) := by rw [eh_1, ac_up_n _ _ (ne_ai (K.2.1 9 (by decide) (by decide)) K.1)]; exact (K.2.1 9 (by decide) (by decide))
  have f_7 : h_1 (A 10) = some (.inl (1, 10, .inl (F 10))) := by rw [eh_1, ac_up_n _ _ (ne_ai (K.2.1 10 (by decide) (by decide)) K.1)]; exact (K.2.1 10 (by decide) (by decide))
  have f_8 : h_1 p = some (.inr (1, [.int (I 0), .int (I 1), .int (I 2), .int 0, .int (I 4), .ref (A 5), .ref (A 6), .ref (A 7), .ref (A 8), .ref (A 9), .ref (A 10)])) := by rw [eh_1]; exact ac_up_s _ _ _
  have kp_9 : kp h h_1 [p] := by rw [eh_1]; exact kp_up (kp_cons p kp_rf) _ _ (by simp)
  refine aw_aload_n C dX1_empty_5 rfl rfl (q := 6) rfl ?_
  refine aw_dup C dX1_empty_6 rfl (q := 7) rfl ?_
  refine gfX1_40_1 (v := .int (I 4)) C dX1_empty_7 f_8 rfl (q := 10) rfl ?_
  refine aw_iconst (v := 1) C dX1_empty_10 (by decide) (q := 11) rfl ?_
  refine aw_iadd C dX1_empty_11 (q := 12) rfl ?_
  refine pfX1_40_1 C dX1_empty_12 f_8 rfl rfl (Nat.le_of_ble_eq_true rfl) (q := 15) rfl ?_
  show aw G 1 M 15 [.ref p] [] (ac_up h_1 p (.inr (1, [.int (I 0), .int (I 1), .int (I 2), .int 0, .int ((I 4) + 1), .ref (A 5), .ref (A 6), .ref (A 7), .ref (A 8), .ref (A 9), .ref (A 10)]))) 0 0
  obtain ⟨h_10, eh_10⟩ : ∃ z, z = ac_up h_1 p (.inr (1, [.int (I 0), .int (I 1), .int (I 2), .int 0, .int ((I 4) + 1), .ref (A 5), .ref (A 6), .ref (A 7), .ref (A 8), .ref (A 9), .ref (A 10)])) := ⟨_, rfl⟩
  rw [← eh_10]
  have f_11 : h_10 (A 5) = some (.inl (1, 10, .inl (F 5))) := by rw [eh_10, ac_up_n _ _ (ne_ai (K.2.1 5 (by decide) (by decide)) K.1)]; exact f_2
  have f_12 : h_10 (A 6) = some (.inl (1, 10, .inl (F 6))) := by rw [eh_10, ac_up_n _ _ (ne_ai (K.2.1 6 (by decide) (by decide)) K.1)]; exact f_3
  have f_13 : h_10 (A 7) = some (.inl (1, 10, .inl (F 7))) := by rw [eh_10, ac_up_n _ _ (ne_ai (K.2.1 7 (by decide) (by decide)) K.1)]; exact f_4
  have f_14 : h_10 (A 8) = some (.inl (1, 10, .inl (F 8))) := by rw [eh_10, ac_up_n _ _ (ne_ai (K.2.1 8 (by decide) (by decide)) K.1)]; exact f_5
  have f_15 : h_10 (A 9) = some (.inl (1, 10, .inl (F 9))) := by rw [eh_10, ac_up_n _ _ (ne_ai (K.2.1 9 (by decide) (by decide)) K.1)]; exact f_6
  have f_16 : h_10 (A 10) = some (.inl (1, 10, .inl (F 10))) := by rw [eh_10, ac_up_n _ _ (ne_ai (K.2.1 10 (by decide) (by decide)) K.1)]; exact f_7
  have f_17 : h_10 p = some (.inr (1, [.int (I 0), .int (I 1), .int (I 2), .int 0, .int ((I 4) + 1), .ref (A 5), .ref (A 6), .ref (A 7), .ref (A 8), .ref (A 9), .ref (A 10)])) := by rw [eh_10]; exact ac_up_s _ _ _
  have kp_18 : kp h h_10 [p] := by rw [eh_10]; exact kp_up kp_9 _ _ (by simp)
  refine aw_vret C E dX1_empty_15 (Nat.le_refl _) (Nat.le_refl _) ?_
  exact ⟨rfl, ⟨f_17, (pl_rows f_11 f_12 f_13 f_14 f_15 f_16), rfl, Nat.zero_le _⟩, kp_18⟩
set_option maxHeartbeats 4000000 in
set_option maxRecDepth 100000 in
theorem c_append (G : ac_G) (l : Launch) (h : ac_H) (d : Nat) (p : Nat) (A : Nat → Nat) (I : Nat → Int32) (F : Nat → Nat → Int32) (c : Nat) (fa ki x y ww hh : Int32) (K : pl_ok h p A I F c) (hA : pl_dis A) (hc : c < 10) : ac_Met G l yX1_append cX1_append 8 none (d + 1) 0 0 [.ref p, .int fa, .int ki, .int x, .int y, .int ww, .int hh] h (fun r9 h9 => r9 = none ∧ pl_ok h9 p A (pl_cnt I (c + 1)) (pl_app F c (pl_arg fa ki x y ww hh)) (c + 1) ∧ kp h h9 [p, A 5, A 6, A 7, A 8, A 9, A 10]) := by
  refine ac_of (ls := [.ref p, .int fa, .int ki, .int x, .int y, .int ww, .int hh, .retAddr 0]) (by decide +kernel) rfl (Nat.le_of_ble_eq_true rfl) (fun M hl C B E hnm => ?_)
  have K1 : h p = some (.inr (1, [.int (I 0), .int (I 1), .int (I 2), .int (nI c), .int (I 4), .ref (A 5), .ref (A 6), .ref (A 7), .ref (A 8), .ref (A 9), .ref (A 10)])) := by rw [← K.2.2.1]; exact K.1
  refine aw_aload_n C dX1_append_0 rfl rfl (q := 1) rfl ?_
  refine gfX1_43_1 (v := .int (nI c)) C dX1_append_1 K1 rfl (q := 4) rfl ?_
  refine aw_istore (ls' := [.ref p, .int fa, .int ki, .int x, .int y, .int ww, .int hh, .int (nI c)]) C dX1_append_4 (by decide) rfl (q := 6) rfl ?_
  refine aw_iload C dX1_append_6 rfl (q := 8) rfl ?_
  refine aw_bipush (v := 10) C dX1_append_8 (by decide) (q := 10) rfl ?_
  refine csX1_46 (As := [.int (nI c), .int 10]) (rest := []) C B dX1_append_10 (c_isBelow G M.2.1 h d (nI c) 10) rfl rfl (Nat.le_of_ble_eq_true rfl) (by omega) (by omega) (by omega) (q := 13) rfl (fun r9 h9 hr9 => ?_)
  obtain ⟨e9, er9⟩ := hr9
  subst er9; rw [e9]
  show aw G 8 M 13 [.ref p, .int fa, .int ki, .int x, .int y, .int ww, .int hh, .int (nI c)] [.int (pb_b (¬ (nI c) < 0 ∧ ¬ 10 ≤ (nI c)))] h 0 0
  refine aw_if_ne (t := 17) (q := 16) C dX1_append_13 (by decide) rfl (fun c_13 => ?_) (fun c_13 => absurd c_13 (fun z => pb_0.mp z ⟨nI_pos (by omega), ni_nge c 10 rfl rfl (by omega) (by decide) (by omega)⟩))
  refine aw_aload_n C dX1_append_17 rfl rfl (q := 18) rfl ?_
  refine gfX1_9_1 (v := .ref (A 5)) C dX1_append_18 K1 rfl (q := 21) rfl ?_
  refine aw_iload C dX1_append_21 rfl (q := 23) rfl ?_
  refine aw_iload_n C dX1_append_23 rfl rfl (q := 24) rfl ?_
  refine ay_iast (j := c) C dX1_append_24 (K.2.1 5 (by decide) (by decide)) (vp_in_nI (by omega) (by decide)) (nI_clamp (by omega)) (q := 25) rfl ?_
  show aw G 8 M 25 [.ref p, .int fa, .int ki, .int x, .int y, .int ww, .int hh, .int (nI c)] [] (ac_up h (A 5) (.inl (1, 10, .inl (upd (F 5) c fa)))) 0 0
  obtain ⟨h_1, eh_1⟩ : ∃ z, z = ac_up h (A 5) (.inl (1, 10, .inl (upd (F 5) c fa))) := ⟨_, rfl⟩
  rw [← eh_1]
  have f_2 : h_1 p = some (.inr (1, [.int (I 0), .int (I 1), .int (I 2), .int (nI c), .int (I 4), .ref (A 5), .ref (A 6), .ref (A 7), .ref (A 8), .ref (A 9), .ref (A 10)])) := by rw [eh_1, ac_up_n _ _ (Ne.symm (ne_ai (K.2.1 5 (by decide) (by decide)) K.1))]; exact K1
  have f_3 : h_1 (A 6) = some (.inl (1, 10, .inl (F 6))) := by rw [eh_1, ac_up_n _ _ (hA 6 5 (by decide) (by decide) (by decide) (by decide) (by decide))]; exact (K.2.1 6 (by decide) (by decide))
  have f_4 : h_1 (A 7) = some (.inl (1, 10, .inl (F 7))) := by rw [eh_1, ac_up_n _ _ (hA 7 5 (by decide) (by decide) (by decide) (by decide) (by decide))]; exact (K.2.1 7 (by decide) (by decide))
  have f_5 : h_1 (A 8) = some (.inl (1, 10, .inl (F 8))) := by rw [eh_1, ac_up_n _ _ (hA 8 5 (by decide) (by decide) (by decide) (by decide) (by decide))]; exact (K.2.1 8 (by decide) (by decide))
  have f_6 : h_1 (A 9) = some (.inl (1, 10, .inl (F 9))) := by rw [eh_1, ac_up_n _ _ (hA 9 5 (by decide) (by decide) (by decide) (by decide) (by decide))]; exact (K.2.1 9 (by decide) (by decide))
  have f_7 : h_1 (A 10) = some (.inl (1, 10, .inl (F 10))) := by rw [eh_1, ac_up_n _ _ (hA 10 5 (by decide) (by decide) (by decide) (by decide) (by decide))]; exact (K.2.1 10 (by decide) (by decide))
  have f_8 : h_1 (A 5) = some (.inl (1, 10, .inl (upd (F 5) c fa))) := by rw [eh_1]; exact ac_up_s _ _ _
  have kp_9 : kp h h_1 [A 5] := by rw [eh_1]; exact kp_up (kp_cons (A 5) kp_rf) _ _ (by simp)
  refine aw_aload_n C dX1_append_25 rfl rfl (q := 26) rfl ?_
  refine gfX1_15_1 (v := .ref (A 6)) C dX1_append_26 f_2 rfl (q := 29) rfl ?_
  refine aw_iload C dX1_append_29 rfl (q := 31) rfl ?_
  refine aw_iload_n C dX1_append_31 rfl rfl (q := 32) rfl ?_
  refine ay_iast (j := c) C dX1_append_32 f_3 (vp_in_nI (by omega) (by decide)) (nI_clamp (by omega)) (q := 33) rfl ?_
  show aw G 8 M 33 [.ref p, .int fa, .int ki, .int x, .int y, .int ww, .int hh, .int (nI c)] [] (ac_up h_1 (A 6) (.inl (1, 10, .inl (upd (F 6) c ki)))) 0 0
  obtain ⟨h_10, eh_10⟩ : ∃ z, z = ac_up h_1 (A 6) (.inl (1, 10, .inl (upd (F 6) c ki))) := ⟨_, rfl⟩
  rw [← eh_10]
  have f_11 : h_10 p = some (.inr (1, [.int (I 0), .int (I 1), .int (I 2), .int (nI c), .int (I 4), .ref (A 5), .ref (A 6), .ref (A 7), .ref (A 8), .ref (A 9), .ref (A 10)])) := by rw [eh_10, ac_up_n _ _ (Ne.symm (ne_ai (K.2.1 6 (by decide) (by decide)) K.1))]; exact f_2
  have f_12 : h_10 (A 5) = some (.inl (1, 10, .inl (upd (F 5) c fa))) := by rw [eh_10, ac_up_n _ _ (hA 5 6 (by decide) (by decide) (by decide) (by decide) (by decide))]; exact f_8
  have f_13 : h_10 (A 7) = some (.inl (1, 10, .inl (F 7))) := by rw [eh_10, ac_up_n _ _ (hA 7 6 (by decide) (by decide) (by decide) (by decide) (by decide))]; exact f_4
  have f_14 : h_10 (A 8) = some (.inl (1, 10, .inl (F 8))) := by rw [eh_10, ac_up_n _ _ (hA 8 6 (by decide) (by decide) (by decide) (by decide) (by decide))]; exact f_5
  have f_15 : h_10 (A 9) = some (.inl (1, 10, .inl (F 9))) := by rw [eh_10, ac_up_n _ _ (hA 9 6 (by decide) (by decide) (by decide) (by decide) (by decide))]; exact f_6
  have f_16 : h_10 (A 10) = some (.inl (1, 10, .inl (F 10))) := by rw [eh_10, ac_up_n _ _ (hA 10 6 (by decide) (by decide) (by decide) (by decide) (by decide))]; exact f_7
  have f_17 : h_10 (A 6) = some (.inl (1, 10, .inl (upd (F 6) c ki))) := by rw [eh_10]; exact ac_up_s _ _ _
  have kp_18 : kp h h_10 [A 6, A 5] := by rw [eh_10]; exact kp_up (kp_cons (A 6) kp_9) _ _ (by simp)
  refine aw_aload_n C dX1_append_33 rfl rfl (q := 34) rfl ?_
  refine gfX1_18_1 (v := .ref (A 7)) C dX1_append_34 f_11 rfl (q := 37) rfl ?_
  refine aw_iload C dX1_append_37 rfl (q := 39) rfl ?_
  refine aw_iload_n C dX1_append_39 rfl rfl (q := 40) rfl ?_
  refine ay_iast (j := c) C dX1_append_40 f_13 (vp_in_nI (by omega) (by decide)) (nI_clamp (by omega)) (q := 41) rfl ?_
  show aw G 8 M 41 [.ref p, .int fa, .int ki, .int x, .int y, .int ww, .int hh, .int (nI c)] [] (ac_up h_10 (A 7) (.inl (1, 10, .inl (upd (F 7) c x)))) 0 0
  obtain ⟨h_19, eh_19⟩ : ∃ z, z = ac_up h_10 (A 7) (.inl (1, 10, .inl (upd (F 7) c x))) := ⟨_, rfl⟩
  rw [← eh_19]
  have f_20 : h_19 p = some (.inr (1, [.int (I 0), .int (I 1), .int (I 2), .int (nI c), .int (I 4), .ref (A 5), .ref (A 6), .ref (A 7), .ref (A 8), .ref (A 9), .ref (A 10)])) := by rw [eh_19, ac_up_n _ _ (Ne.symm (ne_ai (K.2.1 7 (by decide) (by decide)) K.1))]; exact f_11
  have f_21 : h_19 (A 5) = some (.inl (1, 10, .inl (upd (F 5) c fa))) := by rw [eh_19, ac_up_n _ _ (hA 5 7 (by decide) (by decide) (by decide) (by decide) (by decide))]; exact f_12
  have f_22 : h_19 (A 6) = some (.inl (1, 10, .inl (upd (F 6) c ki))) := by rw [eh_19, ac_up_n _ _ (hA 6 7 (by decide) (by decide) (by decide) (by decide) (by decide))]; exact f_17
  have f_23 : h_19 (A 8) = some (.inl (1, 10, .inl (F 8))) := by rw [eh_19, ac_up_n _ _ (hA 8 7 (by decide) (by decide) (by decide) (by decide) (by decide))]; exact f_14
  have f_24 : h_19 (A 9) = some (.inl (1, 10, .inl (F 9))) := by rw [eh_19, ac_up_n _ _ (hA 9 7 (by decide) (by decide) (by decide) (by decide) (by decide))]; exact f_15
  have f_25 : h_19 (A 10) = some (.inl (1, 10, .inl (F 10))) := by rw [eh_19, ac_up_n _ _ (hA 10 7 (by decide) (by decide) (by decide) (by decide) (by decide))]; exact f_16
  have f_26 : h_19 (A 7) = some (.inl (1, 10, .inl (upd (F 7) c x))) := by rw [eh_19]; exact ac_up_s _ _ _
  have kp_27 : kp h h_19 [A 7, A 6, A 5] := by rw [eh_19]; exact kp_up (kp_cons (A 7) kp_18) _ _ (by simp)
  refine aw_aload_n C dX1_append_41 rfl rfl (q := 42) rfl ?_
  refine gfX1_21_1 (v := .ref (A 8)) C dX1_append_42 f_20 rfl (q := 45) rfl ?_
  refine aw_iload C dX1_append_45 rfl (q := 47) rfl ?_
  refine aw_iload C dX1_append_47 rfl (q := 49) rfl ?_
  refine ay_iast (j := c) C dX1_append_49 f_23 (vp_in_nI (by omega) (by decide)) (nI_clamp (by omega)) (q := 50) rfl ?_
  show aw G 8 M 50 [.ref p, .int fa, .int ki, .int x, .int y, .int ww, .int hh, .int (nI c)] [] (ac_up h_19 (A 8) (.inl (1, 10, .inl (upd (F 8) c y)))) 0 0
  obtain ⟨h_28, eh_28⟩ : ∃ z, z = ac_up h_19 (A 8) (.inl (1, 10, .inl (upd (F 8) c y))) := ⟨_, rfl⟩
  rw [← eh_28]
  have f_29 : h_28 p = some (.inr (1, [.int (I 0), .int (I 1), .int (I 2), .int (nI c), .int (I 4), .ref (A 5), .ref (A 6), .ref (A 7), .ref (A 8), .ref (A 9), .ref (A 10)])) := by rw [eh_28, ac_up_n _ _ (Ne.symm (ne_ai (K.2.1 8 (by decide) (by decide)) K.1))]; exact f_20
  have f_30 : h_28 (A 5) = some (.inl (1, 10, .inl (upd (F 5) c fa))) := by rw [eh_28, ac_up_n _ _ (hA 5 8 (by decide) (by decide) (by decide) (by decide) (by decide))]; exact f_21
  have f_31 : h_28 (A 6) = some (.inl (1, 10, .inl (upd (F 6) c ki))) := by rw [eh_28, ac_up_n _ _ (hA 6 8 (by decide) (by decide) (by decide) (by decide) (by decide))]; exact f_22
  have f_32 : h_28 (A 7) = some (.inl (1, 10, .inl (upd (F 7) c x))) := by rw [eh_28, ac_up_n _ _ (hA 7 8 (by decide) (by decide) (by decide) (by decide) (by decide))]; exact f_26
  have f_33 : h_28 (A 9) = some (.inl (1, 10, .inl (F 9))) := by rw [eh_28, ac_up_n _ _ (hA 9 8 (by decide) (by decide) (by decide) (by decide) (by decide))]; exact f_24
  have f_34 : h_28 (A 10) = some (.inl (1, 10, .inl (F 10))) := by rw [eh_28, ac_up_n _ _ (hA 10 8 (by decide) (by decide) (by decide) (by decide) (by decide))]; exact f_25
  have f_35 : h_28 (A 8) = some (.inl (1, 10, .inl (upd (F 8) c y))) := by rw [eh_28]; exact ac_up_s _ _ _
  have kp_36 : kp h h_28 [A 8, A 7, A 6, A 5] := by rw [eh_28]; exact kp_up (kp_cons (A 8) kp_27) _ _ (by simp)
  refine aw_aload_n C dX1_append_50 rfl rfl (q := 51) rfl ?_
  refine gfX1_24_1 (v := .ref (A 9)) C dX1_append_51 f_29 rfl (q := 54) rfl ?_
  refine aw_iload C dX1_append_54 rfl (q := 56) rfl ?_
  refine aw_iload C dX1_append_56 rfl (q := 58) rfl ?_
  refine ay_iast (j := c) C dX1_append_58 f_33 (vp_in_nI (by omega) (by decide)) (nI_clamp (by omega)) (q := 59) rfl ?_
  show aw G 8 M 59 [.ref p, .int fa, .int ki, .int x, .int y, .int ww, .int hh, .int (nI c)] [] (ac_up h_28 (A 9) (.inl (1, 10, .inl (upd (F 9) c ww)))) 0 0
  obtain ⟨h_37, eh_37⟩ : ∃ z, z = ac_up h_28 (A 9) (.inl (1, 10, .inl (upd (F 9) c ww))) := ⟨_, rfl⟩
  rw [← eh_37]
  have f_38 : h_37 p = some (.inr (1, [.int (I 0), .int (I 1), .int (I 2), .int (nI c), .int (I 4), .ref (A 5), .ref (A 6), .ref (A 7), .ref (A 8), .ref (A 9), .ref (A 10)])) := by rw [eh_37, ac_up_n _ _ (Ne.symm (ne_ai (K.2.1 9 (by decide) (by decide)) K.1))]; exact f_29
  have f_39 : h_37 (A 5) = some (.inl (1, 10, .inl (upd (F 5) c fa))) := by rw [eh_37, ac_up_n _ _ (hA 5 9 (by decide) (by decide) (by decide) (by decide) (by decide))]; exact f_30
  have f_40 : h_37 (A 6) = some (.inl (1, 10, .inl (upd (F 6) c ki))) := by rw [eh_37, ac_up_n _ _ (hA 6 9 (by decide) (by decide) (by decide) (by decide) (by decide))]; exact f_31
  have f_41 : h_37 (A 7) = some (.inl (1, 10, .inl (upd (F 7) c x))) := by rw [eh_37, ac_up_n _ _ (hA 7 9 (by decide) (by decide) (by decide) (by decide) (by decide))]; exact f_32
  have f_42 : h_37 (A 8) = some (.inl (1, 10, .inl (upd (F 8) c y))) := by rw [eh_37, ac_up_n _ _ (hA 8 9 (by decide) (by decide) (by decide) (by decide) (by decide))]; exact f_35
  have f_43 : h_37 (A 10) = some (.inl (1, 10, .inl (F 10))) := by rw [eh_37, ac_up_n _ _ (hA 10 9 (by decide) (by decide) (by decide) (by decide) (by decide))]; exact f_34
  have f_44 : h_37 (A 9) = some (.inl (1, 10, .inl (upd (F 9) c ww))) := by rw [eh_37]; exact ac_up_s _ _ _
  have kp_45 : kp h h_37 [A 9, A 8, A 7, A 6, A 5] := by rw [eh_37]; exact kp_up (kp_cons (A 9) kp_36) _ _ (by simp)
  refine aw_aload_n C dX1_append_59 rfl rfl (q := 60) rfl ?_
  refine gfX1_27_1 (v := .ref (A 10)) C dX1_append_60 f_38 rfl (q := 63) rfl ?_
  refine aw_iload C dX1_append_63 rfl (q := 65) rfl ?_
  refine aw_iload C dX1_append_65 rfl (q := 67) rfl ?_
  refine ay_iast (j := c) C dX1_append_67 f_43 (vp_in_nI (by omega) (by decide)) (nI_clamp (by omega)) (q := 68) rfl ?_
  show aw G 8 M 68 [.ref p, .int fa, .int ki, .int x, .int y, .int ww, .int hh, .int (nI c)] [] (ac_up h_37 (A 10) (.inl (1, 10, .inl (upd (F 10) c hh)))) 0 0
  obtain ⟨h_46, eh_46⟩ : ∃ z, z = ac_up h_37 (A 10) (.inl (1, 10, .inl (upd (F 10) c hh))) := ⟨_, rfl⟩
  rw [← eh_46]
  have f_47 : h_46 p = some (.inr (1, [.int (I 0), .int (I 1), .int (I 2), .int (nI c), .int (I 4), .ref (A 5), .ref (A 6), .ref (A 7), .ref (A 8), .ref (A 9), .ref (A 10)])) := by rw [eh_46, ac_up_n _ _ (Ne.symm (ne_ai (K.2.1 10 (by decide) (by decide)) K.1))]; exact f_38
  have f_48 : h_46 (A 5) = some (.inl (1, 10, .inl (upd (F 5) c fa))) := by rw [eh_46, ac_up_n _ _ (hA 5 10 (by decide) (by decide) (by decide) (by decide) (by decide))]; exact f_39
  have f_49 : h_46 (A 6) = some (.inl (1, 10, .inl (upd (F 6) c ki))) := by rw [eh_46, ac_up_n _ _ (hA 6 10 (by decide) (by decide) (by decide) (by decide) (by decide))]; exact f_40
  have f_50 : h_46 (A 7) = some (.inl (1, 10, .inl (upd (F 7) c x))) := by rw [eh_46, ac_up_n _ _ (hA 7 10 (by decide) (by decide) (by decide) (by decide) (by decide))]; exact f_41
  have f_51 : h_46 (A 8) = some (.inl (1, 10, .inl (upd (F 8) c y))) := by rw [eh_46, ac_up_n _ _ (hA 8 10 (by decide) (by decide) (by decide) (by decide) (by decide))]; exact f_42
  have f_52 : h_46 (A 9) = some (.inl (1, 10, .inl (upd (F 9) c ww))) := by rw [eh_46, ac_up_n _ _ (hA 9 10 (by decide) (by decide) (by decide) (by decide) (by decide))]; exact f_44
  have f_53 : h_46 (A 10) = some (.inl (1, 10, .inl (upd (F 10) c hh))) := by rw [eh_46]; exact ac_up_s _ _ _
  have kp_54 : kp h h_46 [A 10, A 9, A 8, A 7, A 6, A 5] := by rw [eh_46]; exact kp_up (kp_cons (A 10) kp_45) _ _ (by simp)
  refine aw_aload_n C dX1_append_68 rfl rfl (q := 69) rfl ?_
  refine aw_iload C dX1_append_69 rfl (q := 71) rfl ?_
  refine aw_iconst (v := 1) C dX1_append_71 (by decide) (q := 72) rfl ?_
  refine aw_iadd C dX1_append_72 (q := 73) rfl ?_
  rw [show nI c + 1 = nI (c + 1) from nI_1 _]
  refine pfX1_43_1 C dX1_append_73 f_47 rfl rfl (Nat.le_of_ble_eq_true rfl) (q := 76) rfl ?_
  show aw G 8 M 76 [.ref p, .int fa, .int ki, .int x, .int y, .int ww, .int hh, .int (nI c)] [] (ac_up h_46 p (.inr (1, [.int (I 0), .int (I 1), .int (I 2), .int (nI (c + 1)), .int (I 4), .ref (A 5), .ref (A 6), .ref (A 7), .ref (A 8), .ref (A 9), .ref (A 10)]))) 0 0
  obtain ⟨h_55, eh_55⟩ : ∃ z, z = ac_up h_46 p (.inr (1, [.int (I 0), .int (I 1), .int (I 2), .int (nI (c + 1)), .int (I 4), .ref (A 5), .ref (A 6), .ref (A 7), .ref (A 8), .ref (A 9), .ref (A 10)])) := ⟨_, rfl⟩
  rw [← eh_55]
  have f_56 : h_55 (A 5) = some (.inl (1, 10, .inl (upd (F 5) c fa))) := by rw [eh_55, ac_up_n _ _ (ne_ai (K.2.1 5 (by decide) (by decide)) K.1)]; exact f_48
  have f_57 : h_55 (A 6) = some (.inl (1, 10, .inl (upd (F 6) c ki))) := by rw [eh_55, ac_up_n _ _ (ne_ai (K.2.1 6 (by decide) (by decide)) K.1)]; exact f_49
  have f_58 : h_55 (A 7) = some (.inl (1, 10, .inl (upd (F 7) c x))) := by rw [eh_55, ac_up_n _ _ (ne_ai (K.2.1 7 (by decide) (by decide)) K.1)]; exact f_50
  have f_59 : h_55 (A 8) = some (.inl (1, 10, .inl (upd (F 8) c y))) := by rw [eh_55, ac_up_n _ _ (ne_ai (K.2.1 8 (by decide) (by decide)) K.1)]; exact f_51
  have f_60 : h_55 (A 9) = some (.inl (1, 10, .inl (upd (F 9) c ww))) := by rw [eh_55, ac_up_n _ _ (ne_ai (K.2.1 9 (by decide) (by decide)) K.1)]; exact f_52
  have f_61 : h_55 (A 10) = some (.inl (1, 10, .inl (upd (F 10) c hh))) := by rw [eh_55, ac_up_n _ _ (ne_ai (K.2.1 10 (by decide) (by decide)) K.1)]; exact f_53
  have f_62 : h_55 p = some (.inr (1, [.int (I 0), .int (I 1), .int (I 2), .int (nI (c + 1)), .int (I 4), .ref (A 5), .ref (A 6), .ref (A 7), .ref (A 8), .ref (A 9), .ref (A 10)])) := by rw [eh_55]; exact ac_up_s _ _ _
  have kp_63 : kp h h_55 [p, A 10, A 9, A 8, A 7, A 6, A 5] := by rw [eh_55]; exact kp_up (kp_cons p kp_54) _ _ (by simp)
  refine aw_aload_n C dX1_append_76 rfl rfl (q := 77) rfl ?_
  refine aw_dup C dX1_append_77 rfl (q := 78) rfl ?_
  refine gfX1_40_1 (v := .int (I 4)) C dX1_append_78 f_62 rfl (q := 81) rfl ?_
  refine aw_iconst (v := 1) C dX1_append_81 (by decide) (q := 82) rfl ?_
  refine aw_iadd C dX1_append_82 (q := 83) rfl ?_
  refine pfX1_40_1 C dX1_append_83 f_62 rfl rfl (Nat.le_of_ble_eq_true rfl) (q := 86) rfl ?_
  show aw G 8 M 86 [.ref p, .int fa, .int ki, .int x, .int y, .int ww, .int hh, .int (nI c)] [] (ac_up h_55 p (.inr (1, [.int (I 0), .int (I 1), .int (I 2), .int (nI (c + 1)), .int ((I 4) + 1), .ref (A 5), .ref (A 6), .ref (A 7), .ref (A 8), .ref (A 9), .ref (A 10)]))) 0 0
  obtain ⟨h_64, eh_64⟩ : ∃ z, z = ac_up h_55 p (.inr (1, [.int (I 0), .int (I 1), .int (I 2), .int (nI (c + 1)), .int ((I 4) + 1), .ref (A 5), .ref (A 6), .ref (A 7), .ref (A 8), .ref (A 9), .ref (A 10)])) := ⟨_, rfl⟩
  rw [← eh_64]
  have f_65 : h_64 (A 5) = some (.inl (1, 10, .inl (upd (F 5) c fa))) := by rw [eh_64, ac_up_n _ _ (ne_ai (K.2.1 5 (by decide) (by decide)) K.1)]; exact f_56
  have f_66 : h_64 (A 6) = some (.inl (1, 10, .inl (upd (F 6) c ki))) := by rw [eh_64, ac_up_n _ _ (ne_ai (K.2.1 6 (by decide) (by decide)) K.1)]; exact f_57
  have f_67 : h_64 (A 7) = some (.inl (1, 10, .inl (upd (F 7) c x))) := by rw [eh_64, ac_up_n _ _ (ne_ai (K.2.1 7 (by decide) (by decide)) K.1)]; exact f_58
  have f_68 : h_64 (A 8) = some (.inl (1, 10, .inl (upd (F 8) c y))) := by rw [eh_64, ac_up_n _ _ (ne_ai (K.2.1 8 (by decide) (by decide)) K.1)]; exact f_59
  have f_69 : h_64 (A 9) = some (.inl (1, 10, .inl (upd (F 9) c ww))) := by rw [eh_64, ac_up_n _ _ (ne_ai (K.2.1 9 (by decide) (by decide)) K.1)]; exact f_60
  have f_70 : h_64 (A 10) = some (.inl (1, 10, .inl (upd (F 10) c hh))) := by rw [eh_64, ac_up_n _ _ (ne_ai (K.2.1 10 (by decide) (by decide)) K.1)]; exact f_61
  have f_71 : h_64 p = some (.inr (1, [.int (I 0), .int (I 1), .int (I 2), .int (nI (c + 1)), .int ((I 4) + 1), .ref (A 5), .ref (A 6), .ref (A 7), .ref (A 8), .ref (A 9), .ref (A 10)])) := by rw [eh_64]; exact ac_up_s _ _ _
  have kp_72 : kp h h_64 [p, A 10, A 9, A 8, A 7, A 6, A 5] := by rw [eh_64]; exact kp_up kp_63 _ _ (by simp)
  refine aw_vret C E dX1_append_86 (Nat.le_refl _) (Nat.le_refl _) ?_
  exact ⟨rfl, ⟨f_71, (pl_rows f_65 f_66 f_67 f_68 f_69 f_70), rfl, by omega⟩, kp_mono kp_72 (by simp)⟩
set_option maxHeartbeats 4000000 in
set_option maxRecDepth 100000 in
theorem c_init1 (G : ac_G) (l : Launch) (h : ac_H) (d : Nat) (p : Nat) (K : h p = some (.inr (1, [.int 0, .int 0, .int 0, .int 0, .int 0, .null, .null, .null, .null, .null, .null]))) : ac_Met G l yX1_init cX1_init 1 none (d + 1) 6 60 [.ref p] h (fun r9 h9 => r9 = none ∧ (∃ L : List Nat, L.length = 6 ∧ (p :: L).Nodup ∧ (∀ a ∈ L, h a = none) ∧ pl_ok h9 p (fun j => L.getD (j - 5) 0) (fun _ => 0) (fun _ _ => 0) 0) ∧ kp h h9 [p]) := by
  refine ac_of (ls := [.ref p]) (by decide +kernel) rfl (Nat.le_of_ble_eq_true rfl) (fun M hl C B E hnm => ?_)
  refine aw_aload_n C dX1_init_0 rfl rfl (q := 1) rfl ?_
  refine oiX1_3 C B dX1_init_1 (by decide) (by omega) (q := 4) rfl ?_
  refine aw_aload_n C dX1_init_4 rfl rfl (q := 5) rfl ?_
  refine aw_bipush (v := 10) C dX1_init_5 (by decide) (q := 7) rfl ?_
  refine ay_newI (N := 10) C dX1_init_7 (by decide) (rfl) (by decide) (Nat.le_trans (by omega) B.2.2.1) (Nat.le_trans (by omega) B.2.2.2) (q := 9) rfl (fun a5 hn_1 _ => ?_)
  show aw G 1 M 9 [.ref p] [.ref a5, .ref p] (ac_up h a5 (.inl (1, 10, .inl (fun _ => 0)))) (0 + 1) (0 + 10)
  obtain ⟨h_2, eh_2⟩ : ∃ z, z = ac_up h a5 (.inl (1, 10, .inl (fun _ => 0))) := ⟨_, rfl⟩
  rw [← eh_2]
  have n_3 : h a5 = none := kp_none kp_rf hn_1 ni0
  have t_4 : p ≠ a5 := nw_ne K hn_1
  have f_5 : h_2 p = some (.inr (1, [.int 0, .int 0, .int 0, .int 0, .int 0, .null, .null, .null, .null, .null, .null])) := by rw [eh_2, ac_up_n _ _ t_4]; exact K
  have f_6 : h_2 a5 = some (.inl (1, 10, .inl (fun _ => 0))) := by rw [eh_2]; exact ac_up_s _ _ _
  have kp_7 : kp h h_2 [] := by rw [eh_2]; exact kp_new n_3 kp_rf
  refine pfX1_9_1 C hnm dX1_init_9 f_5 rfl rfl (Nat.le_of_ble_eq_true rfl) (q := 12) rfl ?_
  show aw G 1 M 12 [.ref p] [] (ac_up h_2 p (.inr (1, [.int 0, .int 0, .int 0, .int 0, .int 0, .ref a5, .null, .null, .null, .null, .null]))) (0 + 1) (0 + 10)
  obtain ⟨h_8, eh_8⟩ : ∃ z, z = ac_up h_2 p (.inr (1, [.int 0, .int 0, .int 0, .int 0, .int 0, .ref a5, .null, .null, .null, .null, .null])) := ⟨_, rfl⟩
  rw [← eh_8]
  have f_9 : h_8 a5 = some (.inl (1, 10, .inl (fun _ => 0))) := by rw [eh_8, ac_up_n _ _ (Ne.symm t_4)]; exact f_6
  have f_10 : h_8 p = some (.inr (1, [.int 0, .int 0, .int 0, .int 0, .int 0, .ref a5, .null, .null, .null, .null, .null])) := by rw [eh_8]; exact ac_up_s _ _ _
  have kp_11 : kp h h_8 [p] := by rw [eh_8]; exact kp_up (kp_cons p kp_7) _ _ (by simp)
  refine aw_aload_n C dX1_init_12 rfl rfl (q := 13) rfl ?_
  refine aw_bipush (v := 10) C dX1_init_13 (by decide) (q := 15) rfl ?_
  refine ay_newI (N := 10) C dX1_init_15 (by decide) (rfl) (by decide) (Nat.le_trans (by omega) B.2.2.1) (Nat.le_trans (by omega) B.2.2.2) (q := 17) rfl (fun a6 hn_12 _ => ?_)
  show aw G 1 M 17 [.ref p] [.ref a6, .ref p] (ac_up h_8 a6 (.inl (1, 10, .inl (fun _ => 0)))) ((0 + 1) + 1) ((0 + 10) + 10)
  obtain ⟨h_13, eh_13⟩ : ∃ z, z = ac_up h_8 a6 (.inl (1, 10, .inl (fun _ => 0))) := ⟨_, rfl⟩
  rw [← eh_13]
  have n_14 : h a6 = none := kp_none kp_11 hn_12 (ni1 (Ne.symm (nw_ne f_10 hn_12)) ni0)
  have t_15 : p ≠ a6 := nw_ne f_10 hn_12
  have f_16 : h_13 p = some (.inr (1, [.int 0, .int 0, .int 0, .int 0, .int 0, .ref a5, .null, .null, .null, .null, .null])) := by rw [eh_13, ac_up_n _ _ t_15]; exact f_10
  have t_17 : a5 ≠ a6 := nw_ne f_9 hn_12
  have f_18 : h_13 a5 = some (.inl (1, 10, .inl (fun _ => 0))) := by rw [eh_13, ac_up_n _ _ t_17]; exact f_9
  have f_19 : h_13 a6 = some (.inl (1, 10, .inl (fun _ => 0))) := by rw [eh_13]; exact ac_up_s _ _ _
  have kp_20 : kp h h_13 [p] := by rw [eh_13]; exact kp_new n_14 kp_11
  refine pfX1_15_1 C hnm dX1_init_17 f_16 rfl rfl (Nat.le_of_ble_eq_true rfl) (q := 20) rfl ?_
  show aw G 1 M 20 [.ref p] [] (ac_up h_13 p (.inr (1, [.int 0, .int 0, .int 0, .int 0, .int 0, .ref a5, .ref a6, .null, .null, .null, .null]))) ((0 + 1) + 1) ((0 + 10) + 10)
  obtain ⟨h_21, eh_21⟩ : ∃ z, z = ac_up h_13 p (.inr (1, [.int 0, .int 0, .int 0, .int 0, .int 0, .ref a5, .ref a6, .null, .null, .null, .null])) := ⟨_, rfl⟩
  rw [← eh_21]
  have f_22 : h_21 a5 = some (.inl (1, 10, .inl (fun _ => 0))) := by rw [eh_21, ac_up_n _ _ (Ne.symm t_4)]; exact f_18
  have f_23 : h_21 a6 = some (.inl (1, 10, .inl (fun _ => 0))) := by rw [eh_21, ac_up_n _ _ (Ne.symm t_15)]; exact f_19
  have f_24 : h_21 p = some (.inr (1, [.int 0, .int 0, .int 0, .int 0, .int 0, .ref a5, .ref a6, .null, .null, .null, .null])) := by rw [eh_21]; exact ac_up_s _ _ _
  have kp_25 : kp h h_21 [p] := by rw [eh_21]; exact kp_up kp_20 _ _ (by simp)
  refine aw_aload_n C dX1_init_20 rfl rfl (q := 21) rfl ?_
  refine aw_bipush (v := 10) C dX1_init_21 (by decide) (q := 23) rfl ?_
  refine ay_newI (N := 10) C dX1_init_23 (by decide) (rfl) (by decide) (Nat.le_trans (by omega) B.2.2.1) (Nat.le_trans (by omega) B.2.2.2) (q := 25) rfl (fun a7 hn_26 _ => ?_)
  show aw G 1 M 25 [.ref p] [.ref a7, .ref p] (ac_up h_21 a7 (.inl (1, 10, .inl (fun _ => 0)))) (((0 + 1) + 1) + 1) (((0 + 10) + 10) + 10)
  obtain ⟨h_27, eh_27⟩ : ∃ z, z = ac_up h_21 a7 (.inl (1, 10, .inl (fun _ => 0))) := ⟨_, rfl⟩
  rw [← eh_27]
  have n_28 : h a7 = none := kp_none kp_25 hn_26 (ni1 (Ne.symm (nw_ne f_24 hn_26)) ni0)
  have t_29 : p ≠ a7 := nw_ne f_24 hn_26
  have f_30 : h_27 p = some (.inr (1, [.int 0, .int 0, .int 0, .int 0, .int 0, .ref a5, .ref a6, .null, .null, .null, .null])) := by rw [eh_27, ac_up_n _ _ t_29]; exact f_24
  have t_31 : a5 ≠ a7 := nw_ne f_22 hn_26
  have f_32 : h_27 a5 = some (.inl (1, 10, .inl (fun _ => 0))) := by rw [eh_27, ac_up_n _ _ t_31]; exact f_22
  have t_33 : a6 ≠ a7 := nw_ne f_23 hn_26
  have f_34 : h_27 a6 = some (.inl (1, 10, .inl (fun _ => 0))) := by rw [eh_27, ac_up_n _ _ t_33]; exact f_23
  have f_35 : h_27 a7 = some (.inl (1, 10, .inl (fun _ => 0))) := by rw [eh_27]; exact ac_up_s _ _ _
  have kp_36 : kp h h_27 [p] := by rw [eh_27]; exact kp_new n_28 kp_25
  refine pfX1_18_1 C hnm dX1_init_25 f_30 rfl rfl (Nat.le_of_ble_eq_true rfl) (q := 28) rfl ?_
  show aw G 1 M 28 [.ref p] [] (ac_up h_27 p (.inr (1, [.int 0, .int 0, .int 0, .int 0, .int 0, .ref a5, .ref a6, .ref a7, .null, .null, .null]))) (((0 + 1) + 1) + 1) (((0 + 10) + 10) + 10)
  obtain ⟨h_37, eh_37⟩ : ∃ z, z = ac_up h_27 p (.inr (1, [.int 0, .int 0, .int 0, .int 0, .int 0, .ref a5, .ref a6, .ref a7, .null, .null, .null])) := ⟨_, rfl⟩
  rw [← eh_37]
  have f_38 : h_37 a5 = some (.inl (1, 10, .inl (fun _ => 0))) := by rw [eh_37, ac_up_n _ _ (Ne.symm t_4)]; exact f_32
  have f_39 : h_37 a6 = some (.inl (1, 10, .inl (fun _ => 0))) := by rw [eh_37, ac_up_n _ _ (Ne.symm t_15)]; exact f_34
  have f_40 : h_37 a7 = some (.inl (1, 10, .inl (fun _ => 0))) := by rw [eh_37, ac_up_n _ _ (Ne.symm t_29)]; exact f_35
  have f_41 : h_37 p = some (.inr (1, [.int 0, .int 0, .int 0, .int 0, .int 0, .ref a5, .ref a6, .ref a7, .null, .null, .null])) := by rw [eh_37]; exact ac_up_s _ _ _
  have kp_42 : kp h h_37 [p] := by rw [eh_37]; exact kp_up kp_36 _ _ (by simp)
  refine aw_aload_n C dX1_init_28 rfl rfl (q := 29) rfl ?_
  refine aw_bipush (v := 10) C dX1_init_29 (by decide) (q := 31) rfl ?_
  refine ay_newI (N := 10) C dX1_init_31 (by decide) (rfl) (by decide) (Nat.le_trans (by omega) B.2.2.1) (Nat.le_trans (by omega) B.2.2.2) (q := 33) rfl (fun a8 hn_43 _ => ?_)
  show aw G 1 M 33 [.ref p] [.ref a8, .ref p] (ac_up h_37 a8 (.inl (1, 10, .inl (fun _ => 0)))) ((((0 + 1) + 1) + 1) + 1) ((((0 + 10) + 10) + 10) + 10)
  obtain ⟨h_44, eh_44⟩ : ∃ z, z = ac_up h_37 a8 (.inl (1, 10, .inl (fun _ => 0))) := ⟨_, rfl⟩
  rw [← eh_44]
  have n_45 : h a8 = none := kp_none kp_42 hn_43 (ni1 (Ne.symm (nw_ne f_41 hn_43)) ni0)
  have t_46 : p ≠ a8 := nw_ne f_41 hn_43
  have f_47 : h_44 p = some (.inr (1, [.int 0, .int 0, .int 0, .int 0, .int 0, .ref a5, .ref a6, .ref a7, .null, .null, .null])) := by rw [eh_44, ac_up_n _ _ t_46]; exact f_41
  have t_48 : a5 ≠ a8 := nw_ne f_38 hn_43
  have f_49 : h_44 a5 = some (.inl (1, 10, .inl (fun _ => 0))) := by rw [eh_44, ac_up_n _ _ t_48]; exact f_38
  have t_50 : a6 ≠ a8 := nw_ne f_39 hn_43
  have f_51 : h_44 a6 = some (.inl (1, 10, .inl (fun _ => 0))) := by rw [eh_44, ac_up_n _ _ t_50]; exact f_39
  have t_52 : a7 ≠ a8 := nw_ne f_40 hn_43
  have f_53 : h_44 a7 = some (.inl (1, 10, .inl (fun _ => 0))) := by rw [eh_44, ac_up_n _ _ t_52]; exact f_40
  have f_54 : h_44 a8 = some (.inl (1, 10, .inl (fun _ => 0))) := by rw [eh_44]; exact ac_up_s _ _ _
  have kp_55 : kp h h_44 [p] := by rw [eh_44]; exact kp_new n_45 kp_42
  refine pfX1_21_1 C hnm dX1_init_33 f_47 rfl rfl (Nat.le_of_ble_eq_true rfl) (q := 36) rfl ?_
  show aw G 1 M 36 [.ref p] [] (ac_up h_44 p (.inr (1, [.int 0, .int 0, .int 0, .int 0, .int 0, .ref a5, .ref a6, .ref a7, .ref a8, .null, .null]))) ((((0 + 1) + 1) + 1) + 1) ((((0 + 10) + 10) + 10) + 10)
  obtain ⟨h_56, eh_56⟩ : ∃ z, z = ac_up h_44 p (.inr (1, [.int 0, .int 0, .int 0, .int 0, .int 0, .ref a5, .ref a6, .ref a7, .ref a8, .null, .null])) := ⟨_, rfl⟩
  rw [← eh_56]
  have f_57 : h_56 a5 = some (.inl (1, 10, .inl (fun _ => 0))) := by rw [eh_56, ac_up_n _ _ (Ne.symm t_4)]; exact f_49
  have f_58 : h_56 a6 = some (.inl (1, 10, .inl (fun _ => 0))) := by rw [eh_56, ac_up_n _ _ (Ne.symm t_15)]; exact f_51
  have f_59 : h_56 a7 = some (.inl (1, 10, .inl (fun _ => 0))) := by rw [eh_56, ac_up_n _ _ (Ne.symm t_29)]; exact f_53
  have f_60 : h_56 a8 = some (.inl (1, 10, .inl (fun _ => 0))) := by rw [eh_56, ac_up_n _ _ (Ne.symm t_46)]; exact f_54
  have f_61 : h_56 p = some (.inr (1, [.int 0, .int 0, .int 0, .int 0, .int 0, .ref a5, .ref a6, .ref a7, .ref a8, .null, .null])) := by rw [eh_56]; exact ac_up_s _ _ _
  have kp_62 : kp h h_56 [p] := by rw [eh_56]; exact kp_up kp_55 _ _ (by simp)
  refine aw_aload_n C dX1_init_36 rfl rfl (q := 37) rfl ?_
  refine aw_bipush (v := 10) C dX1_init_37 (by decide) (q := 39) rfl ?_
  refine ay_newI (N := 10) C dX1_init_39 (by decide) (rfl) (by decide) (Nat.le_trans (by omega) B.2.2.1) (Nat.le_trans (by omega) B.2.2.2) (q := 41) rfl (fun a9 hn_63 _ => ?_)
  show aw G 1 M 41 [.ref p] [.ref a9, .ref p] (ac_up h_56 a9 (.inl (1, 10, .inl (fun _ => 0)))) (((((0 + 1) + 1) + 1) + 1) + 1) (((((0 + 10) + 10) + 10) + 10) + 10)
  obtain ⟨h_64, eh_64⟩ : ∃ z, z = ac_up h_56 a9 (.inl (1, 10, .inl (fun _ => 0))) := ⟨_, rfl⟩
  rw [← eh_64]
  have n_65 : h a9 = none := kp_none kp_62 hn_63 (ni1 (Ne.symm (nw_ne f_61 hn_63)) ni0)
  have t_66 : p ≠ a9 := nw_ne f_61 hn_63
  have f_67 : h_64 p = some (.inr (1, [.int 0, .int 0, .int 0, .int 0, .int 0, .ref a5, .ref a6, .ref a7, .ref a8, .null, .null])) := by rw [eh_64, ac_up_n _ _ t_66]; exact f_61
  have t_68 : a5 ≠ a9 := nw_ne f_57 hn_63
  have f_69 : h_64 a5 = some (.inl (1, 10, .inl (fun _ => 0))) := by rw [eh_64, ac_up_n _ _ t_68]; exact f_57
  have t_70 : a6 ≠ a9 := nw_ne f_58 hn_63
  have f_71 : h_64 a6 = some (.inl (1, 10, .inl (fun _ => 0))) := by rw [eh_64, ac_up_n _ _ t_70]; exact f_58
  have t_72 : a7 ≠ a9 := nw_ne f_59 hn_63
  have f_73 : h_64 a7 = some (.inl (1, 10, .inl (fun _ => 0))) := by rw [eh_64, ac_up_n _ _ t_72]; exact f_59
  have t_74 : a8 ≠ a9 := nw_ne f_60 hn_63
  have f_75 : h_64 a8 = some (.inl (1, 10, .inl (fun _ => 0))) := by rw [eh_64, ac_up_n _ _ t_74]; exact f_60
  have f_76 : h_64 a9 = some (.inl (1, 10, .inl (fun _ => 0))) := by rw [eh_64]; exact ac_up_s _ _ _
  have kp_77 : kp h h_64 [p] := by rw [eh_64]; exact kp_new n_65 kp_62
  refine pfX1_24_1 C hnm dX1_init_41 f_67 rfl rfl (Nat.le_of_ble_eq_true rfl) (q := 44) rfl ?_
  show aw G 1 M 44 [.ref p] [] (ac_up h_64 p (.inr (1, [.int 0, .int 0, .int 0, .int 0, .int 0, .ref a5, .ref a6, .ref a7, .ref a8, .ref a9, .null]))) (((((0 + 1) + 1) + 1) + 1) + 1) (((((0 + 10) + 10) + 10) + 10) + 10)
  obtain ⟨h_78, eh_78⟩ : ∃ z, z = ac_up h_64 p (.inr (1, [.int 0, .int 0, .int 0, .int 0, .int 0, .ref a5, .ref a6, .ref a7, .ref a8, .ref a9, .null])) := ⟨_, rfl⟩
  rw [← eh_78]
  have f_79 : h_78 a5 = some (.inl (1, 10, .inl (fun _ => 0))) := by rw [eh_78, ac_up_n _ _ (Ne.symm t_4)]; exact f_69
  have f_80 : h_78 a6 = some (.inl (1, 10, .inl (fun _ => 0))) := by rw [eh_78, ac_up_n _ _ (Ne.symm t_15)]; exact f_71
  have f_81 : h_78 a7 = some (.inl (1, 10, .inl (fun _ => 0))) := by rw [eh_78, ac_up_n _ _ (Ne.symm t_29)]; exact f_73
  have f_82 : h_78 a8 = some (.inl (1, 10, .inl (fun _ => 0))) := by rw [eh_78, ac_up_n _ _ (Ne.symm t_46)]; exact f_75
  have f_83 : h_78 a9 = some (.inl (1, 10, .inl (fun _ => 0))) := by rw [eh_78, ac_up_n _ _ (Ne.symm t_66)]; exact f_76
  have f_84 : h_78 p = some (.inr (1, [.int 0, .int 0, .int 0, .int 0, .int 0, .ref a5, .ref a6, .ref a7, .ref a8, .ref a9, .null])) := by rw [eh_78]; exact ac_up_s _ _ _
  have kp_85 : kp h h_78 [p] := by rw [eh_78]; exact kp_up kp_77 _ _ (by simp)
  refine aw_aload_n C dX1_init_44 rfl rfl (q := 45) rfl ?_
  refine aw_bipush (v := 10) C dX1_init_45 (by decide) (q := 47) rfl ?_
  refine ay_newI (N := 10) C dX1_init_47 (by decide) (rfl) (by decide) (Nat.le_trans (by omega) B.2.2.1) (Nat.le_trans (by omega) B.2.2.2) (q := 49) rfl (fun a10 hn_86 _ => ?_)
  show aw G 1 M 49 [.ref p] [.ref a10, .ref p] (ac_up h_78 a10 (.inl (1, 10, .inl (fun _ => 0)))) ((((((0 + 1) + 1) + 1) + 1) + 1) + 1) ((((((0 + 10) + 10) + 10) + 10) + 10) + 10)
  obtain ⟨h_87, eh_87⟩ : ∃ z, z = ac_up h_78 a10 (.inl (1, 10, .inl (fun _ => 0))) := ⟨_, rfl⟩
  rw [← eh_87]
  have n_88 : h a10 = none := kp_none kp_85 hn_86 (ni1 (Ne.symm (nw_ne f_84 hn_86)) ni0)
  have t_89 : p ≠ a10 := nw_ne f_84 hn_86
  have f_90 : h_87 p = some (.inr (1, [.int 0, .int 0, .int 0, .int 0, .int 0, .ref a5, .ref a6, .ref a7, .ref a8, .ref a9, .null])) := by rw [eh_87, ac_up_n _ _ t_89]; exact f_84
  have t_91 : a5 ≠ a10 := nw_ne f_79 hn_86
  have f_92 : h_87 a5 = some (.inl (1, 10, .inl (fun _ => 0))) := by rw [eh_87, ac_up_n _ _ t_91]; exact f_79
  have t_93 : a6 ≠ a10 := nw_ne f_80 hn_86
  have f_94 : h_87 a6 = some (.inl (1, 10, .inl (fun _ => 0))) := by rw [eh_87, ac_up_n _ _ t_93]; exact f_80
  have t_95 : a7 ≠ a10 := nw_ne f_81 hn_86
  have f_96 : h_87 a7 = some (.inl (1, 10, .inl (fun _ => 0))) := by rw [eh_87, ac_up_n _ _ t_95]; exact f_81
  have t_97 : a8 ≠ a10 := nw_ne f_82 hn_86
  have f_98 : h_87 a8 = some (.inl (1, 10, .inl (fun _ => 0))) := by rw [eh_87, ac_up_n _ _ t_97]; exact f_82
  have t_99 : a9 ≠ a10 := nw_ne f_83 hn_86
  have f_100 : h_87 a9 = some (.inl (1, 10, .inl (fun _ => 0))) := by rw [eh_87, ac_up_n _ _ t_99]; exact f_83
  have f_101 : h_87 a10 = some (.inl (1, 10, .inl (fun _ => 0))) := by rw [eh_87]; exact ac_up_s _ _ _
  have kp_102 : kp h h_87 [p] := by rw [eh_87]; exact kp_new n_88 kp_85
  refine pfX1_27_1 C hnm dX1_init_49 f_90 rfl rfl (Nat.le_of_ble_eq_true rfl) (q := 52) rfl ?_
  show aw G 1 M 52 [.ref p] [] (ac_up h_87 p (.inr (1, [.int 0, .int 0, .int 0, .int 0, .int 0, .ref a5, .ref a6, .ref a7, .ref a8, .ref a9, .ref a10]))) ((((((0 + 1) + 1) + 1) + 1) + 1) + 1) ((((((0 + 10) + 10) + 10) + 10) + 10) + 10)
  obtain ⟨h_103, eh_103⟩ : ∃ z, z = ac_up h_87 p (.inr (1, [.int 0, .int 0, .int 0, .int 0, .int 0, .ref a5, .ref a6, .ref a7, .ref a8, .ref a9, .ref a10])) := ⟨_, rfl⟩
  rw [← eh_103]
  have f_104 : h_103 a5 = some (.inl (1, 10, .inl (fun _ => 0))) := by rw [eh_103, ac_up_n _ _ (Ne.symm t_4)]; exact f_92
  have f_105 : h_103 a6 = some (.inl (1, 10, .inl (fun _ => 0))) := by rw [eh_103, ac_up_n _ _ (Ne.symm t_15)]; exact f_94
  have f_106 : h_103 a7 = some (.inl (1, 10, .inl (fun _ => 0))) := by rw [eh_103, ac_up_n _ _ (Ne.symm t_29)]; exact f_96
  have f_107 : h_103 a8 = some (.inl (1, 10, .inl (fun _ => 0))) := by rw [eh_103, ac_up_n _ _ (Ne.symm t_46)]; exact f_98
  have f_108 : h_103 a9 = some (.inl (1, 10, .inl (fun _ => 0))) := by rw [eh_103, ac_up_n _ _ (Ne.symm t_66)]; exact f_100
  have f_109 : h_103 a10 = some (.inl (1, 10, .inl (fun _ => 0))) := by rw [eh_103, ac_up_n _ _ (Ne.symm t_89)]; exact f_101
  have f_110 : h_103 p = some (.inr (1, [.int 0, .int 0, .int 0, .int 0, .int 0, .ref a5, .ref a6, .ref a7, .ref a8, .ref a9, .ref a10])) := by rw [eh_103]; exact ac_up_s _ _ _
  have kp_111 : kp h h_103 [p] := by rw [eh_103]; exact kp_up kp_102 _ _ (by simp)
  refine aw_vret C E dX1_init_52 (by omega) (by omega) ?_
  exact ⟨rfl, ⟨[a5, a6, a7, a8, a9, a10], rfl, (List.nodup_cons.mpr ⟨(ni1 t_4 (ni1 t_15 (ni1 t_29 (ni1 t_46 (ni1 t_66 (ni1 t_89 ni0)))))), (List.nodup_cons.mpr ⟨(ni1 t_17 (ni1 t_31 (ni1 t_48 (ni1 t_68 (ni1 t_91 ni0))))), (List.nodup_cons.mpr ⟨(ni1 t_33 (ni1 t_50 (ni1 t_70 (ni1 t_93 ni0)))), (List.nodup_cons.mpr ⟨(ni1 t_52 (ni1 t_72 (ni1 t_95 ni0))), (List.nodup_cons.mpr ⟨(ni1 t_74 (ni1 t_97 ni0)), (List.nodup_cons.mpr ⟨(ni1 t_99 ni0), (List.nodup_cons.mpr ⟨ni0, List.nodup_nil⟩)⟩)⟩)⟩)⟩)⟩)⟩), (all1 n_3 (all1 n_14 (all1 n_28 (all1 n_45 (all1 n_65 (all1 n_88 all0)))))), ⟨f_110, pl_rows f_104 f_105 f_106 f_107 f_108 f_109, rfl, Nat.zero_le _⟩⟩, kp_111⟩
