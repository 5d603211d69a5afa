/-! Arrays.fill of ints; Raiser.findSet, fewest -/
set_option maxHeartbeats 4000000 in
set_option maxRecDepth 100000 in
theorem lp_fill {G : ac_G} {M : ac_M} {h : ac_H} {a N : Nat} {v : Int32} (C : ac_MC G RJ7 cJ7_fill_53178 4 none M) (E : ac_End G (fun r9 h9 => r9 = none ∧ (∃ f9, h9 a = some (.inl (1, N, .inl f9)) ∧ ∀ j, j < N → f9 j = v) ∧ kp h h9 [a]) 0 0 M) (hN : N < 100000) :
    ∀ (m i : Nat) (f : Nat → Int32) (h1 : ac_H), i + m = N → h1 a = some (.inl (1, N, .inl f)) → kp h h1 [a] → (∀ j, j < i → f j = v) → aw G 4 M 5 [.ref a, .int v, .int (nI i), .int (nI N)] [] h1 0 0 := by
  intro m
  induction m with
  | zero =>
    intro i f h1 hi fa kq1 hv
    refine aw_iload_n C dJ7_fill_53178_5 rfl rfl (q := 6) rfl ?_
    refine aw_iload_n C dJ7_fill_53178_6 rfl rfl (q := 7) rfl ?_
    refine aw_icmp_ge (t := 20) (q := 10) C dJ7_fill_53178_7 (by decide) rfl (fun c_7 => ?_) (fun c_7 => absurd c_7 (fun z => z (nI_le (by omega) (by omega))))
    refine aw_vret C E dJ7_fill_53178_20 (Nat.le_refl _) (Nat.le_refl _) ?_
    exact ⟨rfl, ⟨f, fa, fun j hj => hv j (by omega)⟩, kq1⟩
  | succ m ih =>
    intro i f h1 hi fa kq1 hv
    refine aw_iload_n C dJ7_fill_53178_5 rfl rfl (q := 6) rfl ?_
    refine aw_iload_n C dJ7_fill_53178_6 rfl rfl (q := 7) rfl ?_
    refine aw_icmp_ge (t := 20) (q := 10) C dJ7_fill_53178_7 (by decide) rfl (fun c_7 => absurd c_7 (ni_nge i N rfl rfl (by omega) (by omega) (by omega))) (fun c_7 => ?_)
    refine aw_aload_n C dJ7_fill_53178_10 rfl rfl (q := 11) rfl ?_
    refine aw_iload_n C dJ7_fill_53178_11 rfl rfl (q := 12) rfl ?_
    refine aw_iload_n C dJ7_fill_53178_12 rfl rfl (q := 13) rfl ?_
    refine ay_iast (j := i) C dJ7_fill_53178_13 fa (vp_in_nI (by omega) (by omega)) (nI_clamp (by omega)) (q := 14) rfl ?_
    show aw G 4 M 14 [.ref a, .int v, .int (nI i), .int (nI N)] [] (ac_up h1 a (.inl (1, N, .inl (upd f i v)))) 0 0
    obtain ⟨h_1, eh_1⟩ : ∃ z, z = ac_up h1 a (.inl (1, N, .inl (upd f i v))) := ⟨_, rfl⟩
    rw [← eh_1]
    have f_2 : h_1 a = some (.inl (1, N, .inl (upd f i v))) := by rw [eh_1]; exact ac_up_s _ _ _
    have kp_3 : kp h h_1 [a] := by rw [eh_1]; exact kp_up kq1 _ _ (by simp)
    refine aw_iinc (v := nI (i + 1)) (ls' := [.ref a, .int v, .int (nI (i + 1)), .int (nI N)]) C dJ7_fill_53178_14 rfl (nI_1 i) (by decide) rfl (q := 17) rfl ?_
    refine aw_goto (q := 5) C dJ7_fill_53178_17 (by decide) ?_
    refine ih (i + 1) _ h_1 (by omega) f_2 kp_3 (fun j hj => ?_)
    by_cases e : j = i
    · rw [e]; exact pk_us
    · rw [pk_un e]; exact hv j (by omega)
set_option maxHeartbeats 4000000 in
set_option maxRecDepth 100000 in
theorem c_fill (G : ac_G) (l : Launch) (h : ac_H) (d : Nat) (a N : Nat) (f : Nat → Int32) (v : Int32) (fa : h a = some (.inl (1, N, .inl f))) (hN : N < 100000) : ac_Met G l yJ7_fill_53178 cJ7_fill_53178 4 none d 0 0 [.ref a, .int v] h (fun r9 h9 => r9 = none ∧ (∃ f9, h9 a = some (.inl (1, N, .inl f9)) ∧ ∀ j, j < N → f9 j = v) ∧ kp h h9 [a]) := by
  refine ac_of (ls := [.ref a, .int v, .retAddr 0, .retAddr 0]) (by decide +kernel) rfl (Nat.le_of_ble_eq_true rfl) (fun M hl C B E hnm => ?_)
  refine aw_iconst (v := 0) C dJ7_fill_53178_0 (by decide) (q := 1) rfl ?_
  refine aw_istore_n (ls' := [.ref a, .int v, .int 0, .retAddr 0]) C dJ7_fill_53178_1 rfl (by decide) rfl (q := 2) rfl ?_
  refine aw_aload_n C dJ7_fill_53178_2 rfl rfl (q := 3) rfl ?_
  refine aw_alen (v := nI N) C dJ7_fill_53178_3 fa rfl rfl (q := 4) rfl ?_
  refine aw_istore_n (ls' := [.ref a, .int v, .int 0, .int (nI N)]) C dJ7_fill_53178_4 rfl (by decide) rfl (q := 5) rfl ?_
  exact lp_fill C E hN N 0 f h (by omega) fa (kp_cons _ kp_rf) (fun j hj => absurd hj (Nat.not_lt_zero j))
set_option maxHeartbeats 4000000 in
set_option maxRecDepth 100000 in
theorem lp_findSet {G : ac_G} {M : ac_M} {h : ac_H} {d : Nat} {ad : Nat → Nat} {I : Nat → Int32} {F : Nat → Nat → Int32} {c : Nat} {rd : Nat → Nat} {T : ru_D} {chg grade : Int32} {sz : Nat} {R : Bool × (Nat → Int32)} (an : inj ad 26) (dj : apart ad rd) (C : ac_MC G RX2 cX2_findSet 5 (some .boolean) M) (B : ac_Bd M (d + 6) 0 0) (E : ac_End G (fun r9 h9 => r9 = some (.int (pb_b (R.1 = true))) ∧ (∃ g9, rz_ok h9 ad (rd 0) chg g9 R.2 ∧ rz_inv I F c T g9) ∧ (∃ s9 hd9 ca9, rk_ok h9 (ad 11) (ad 1) (ad 12) s9 hd9 ca9) ∧ kp h h9 ([20, 21, 11, 12].map ad)) 0 0 M) (Kp0 : pl_ok h (ad 1) (pA ad) I F c) (U0 : ru_ok h rd T) (hw : ru_wf T) (hg : ru_gs T) (hsz : sz ≤ 10) :
    ∀ (m i : Nat) (more : Bool) (h1 : ac_H) (s : rk_S) (hd ca : Int32) (g pk : Nat → Int32), i + m = 1024 → rz_ok h1 ad (rd 0) chg g pk → rz_inv I F c T g → rk_ok h1 (ad 11) (ad 1) (ad 12) s hd ca → kp h h1 ([20, 21, 11, 12].map ad) → rz_find I F c T sz grade m more pk = R → aw G 5 M 31 [.ref (ad 19), .int (nI sz), .int grade, .int (pb_b (more = true)), .int (nI i)] [] h1 0 0 := by
  intro m
  induction m with
  | zero =>
    intro i more h1 s hd ca g pk hi Z1 hv1 K1 kq1 hR
    refine aw_iload C dX2_findSet_31 rfl (q := 33) rfl ?_
    refine aw_sipush (v := 1024) C dX2_findSet_33 (by decide) (q := 36) rfl ?_
    refine aw_icmp_ge (t := 70) (q := 39) C dX2_findSet_36 (by decide) rfl (fun c_36 => ?_) (fun c_36 => absurd c_36 (fun z => z (nI_le (a := 1024) (by omega) (by omega))))
    refine aw_iconst (v := 0) C dX2_findSet_70 (by decide) (q := 71) rfl ?_
    refine aw_zret C E dX2_findSet_71 (rfl) (Nat.le_refl _) (Nat.le_refl _) ?_
    have e : R = (false, pk) := by rw [← hR]; rfl
    exact ⟨by rw [e]; rfl, ⟨g, by rw [e]; exact Z1, hv1⟩, ⟨_, _, _, K1⟩, kq1⟩
  | succ m ih =>
    intro i more h1 s hd ca g pk hi Z1 hv1 K1 kq1 hR
    refine aw_iload C dX2_findSet_31 rfl (q := 33) rfl ?_
    refine aw_sipush (v := 1024) C dX2_findSet_33 (by decide) (q := 36) rfl ?_
    refine aw_icmp_ge (t := 70) (q := 39) C dX2_findSet_36 (by decide) rfl (fun c_36 => absurd c_36 (ni_nge i 1024 rfl rfl (by omega) (by decide) (by omega))) (fun c_36 => ?_)
    refine aw_iload_n C dX2_findSet_39 rfl rfl (q := 40) rfl ?_
    refine aw_if_eq (t := 70) (q := 43) C dX2_findSet_40 (by decide) rfl (fun c_40 => ?_) (fun c_40 => ?_)
    ·
      refine aw_iconst (v := 0) C dX2_findSet_70 (by decide) (q := 71) rfl ?_
      refine aw_zret C E dX2_findSet_71 (rfl) (Nat.le_refl _) (Nat.le_refl _) ?_
      have hm : more = false := by cases more; rfl; exact absurd rfl (pb_0.mp c_40)
      subst hm
      have e : R = (false, pk) := by rw [← hR]; rfl
      exact ⟨by rw [e]; rfl, ⟨g, by rw [e]; exact Z1, hv1⟩, ⟨_, _, _, K1⟩, kq1⟩
    ·
      have hm : more = true := pb_n c_40
      subst hm
      refine aw_aload_n C dX2_findSet_43 rfl rfl (q := 44) rfl ?_
      refine aw_aload_n C dX2_findSet_44 rfl rfl (q := 45) rfl ?_
      refine aw_iload_n C dX2_findSet_45 rfl rfl (q := 46) rfl ?_
      refine cvX2_55_2 (As := [.int (nI sz)]) (rest := [.ref (ad 19)]) C B dX2_findSet_46 Z1.1 (c_picksAsBits G M.2.1 h1 d ad an (rd 0) chg g pk sz Z1 hsz) rfl rfl (Nat.le_of_ble_eq_true rfl) (by omega) (by omega) (by omega) (q := 49) rfl (fun r9 h9 hr9 => ?_)
      obtain ⟨e9, er9⟩ := hr9
      subst er9; rw [e9]
      show aw G 5 M 49 [.ref (ad 19), .int (nI sz), .int grade, .int (pb_b (true = true)), .int (nI i)] [.int (rz_bits pk sz), .ref (ad 19)] h1 0 0
      have Kp1 := pl_kpA (L := [20, 21, 11, 12]) an Kp0 kq1 (by decide)
      have U1 := ru_kpA (L := [20, 21, 11, 12]) dj U0 kq1 (by decide)
      refine cvX2_59_2 (As := [.int (rz_bits pk sz)]) (rest := []) C B dX2_findSet_49 Z1.1 (c_gradeWithout G M.2.1 h1 d ad an chg g pk s hd ca I F c rd T dj K1 Kp1 U1 hw hg Z1 hv1 (rz_bits pk sz)) rfl rfl (Nat.le_of_ble_eq_true rfl) (by omega) (by omega) (by omega) (q := 52) rfl (fun r9 h9 hr9 => ?_)
      obtain ⟨er9, ⟨g9, Z9, hv9⟩, ⟨s9, hd9, ca9, K9⟩, kp9⟩ := hr9
      subst er9
      have kq9 : kp h h9 ([20, 21, 11, 12].map ad) := kp_mono (kp_tr kq1 kp9) (by intro z hz; simp only [List.mem_append, List.map_cons, List.map_nil, List.mem_cons, List.not_mem_nil, or_false] at hz ⊢; omega)
      show aw G 5 M 52 [.ref (ad 19), .int (nI sz), .int grade, .int (pb_b (true = true)), .int (nI i)] [.int (rz_gw I F c T (rz_bits pk sz))] h9 0 0
      refine aw_iload_n C dX2_findSet_52 rfl rfl (q := 53) rfl ?_
      refine aw_icmp_ne (t := 58) (q := 56) C dX2_findSet_53 (by decide) rfl (fun c_53 => ?_) (fun c_53 => ?_)
      ·
        refine aw_aload_n C dX2_findSet_58 rfl rfl (q := 59) rfl ?_
        refine aw_iload_n C dX2_findSet_59 rfl rfl (q := 60) rfl ?_
        have Kp9 := pl_kpA (L := [20, 21, 11, 12]) an Kp0 kq9 (by decide)
        refine cvX2_62_2 (As := [.int (nI sz)]) (rest := []) C B dX2_findSet_60 Z9.1 (c_moveOn G M.2.1 h9 d ad an (rd 0) chg g9 pk I F c sz Z9 Kp9 hsz) rfl rfl (Nat.le_of_ble_eq_true rfl) (by omega) (by omega) (by omega) (q := 63) rfl (fun r9 h8 hr9 => ?_)
        obtain ⟨er8, Z8, kp8⟩ := hr9
        subst er8
        have kq8 : kp h h8 ([20, 21, 11, 12].map ad) := kp_mono (kp_tr kq9 kp8) (by intro z hz; simp only [List.mem_append, List.map_cons, List.map_nil, List.mem_cons, List.not_mem_nil, or_false] at hz ⊢; omega)
        have K8 := rk_kpA (L := [21]) an K9 kp8 (by decide)
        show aw G 5 M 63 [.ref (ad 19), .int (nI sz), .int grade, .int (pb_b (true = true)), .int (nI i)] [.int (pb_b ((rz_move c sz pk sz).1 = true))] h8 0 0
        refine aw_istore_n (ls' := [.ref (ad 19), .int (nI sz), .int grade, .int (pb_b ((rz_move c sz pk sz).1 = true)), .int (nI i)]) C dX2_findSet_63 rfl (by decide) rfl (q := 64) rfl ?_
        refine aw_iinc (v := nI (i + 1)) (ls' := [.ref (ad 19), .int (nI sz), .int grade, .int (pb_b ((rz_move c sz pk sz).1 = true)), .int (nI (i + 1))]) C dX2_findSet_64 rfl (nI_1 i) (by decide) rfl (q := 67) rfl ?_
        refine aw_goto (q := 31) C dX2_findSet_67 (by decide) ?_
        refine ih (i + 1) _ h8 s9 hd9 ca9 g9 _ (by omega) Z8 hv9 K8 kq8 ?_
        rw [← hR]; conv => rhs; unfold rz_find
        rw [if_neg c_53]
      ·
        refine aw_iconst (v := 1) C dX2_findSet_56 (by decide) (q := 57) rfl ?_
        refine aw_zret C E dX2_findSet_57 (rfl) (Nat.le_refl _) (Nat.le_refl _) ?_
        have e : R = (true, pk) := by rw [← hR]; unfold rz_find; rw [if_pos c_53]
        exact ⟨by rw [e]; rfl, ⟨g9, by rw [e]; exact Z9, hv9⟩, ⟨_, _, _, K9⟩, kq9⟩
set_option maxHeartbeats 4000000 in
set_option maxRecDepth 100000 in
theorem lp_findStart {G : ac_G} {M : ac_M} {h : ac_H} {d : Nat} {ad : Nat → Nat} {I : Nat → Int32} {F : Nat → Nat → Int32} {c : Nat} {rd : Nat → Nat} {T : ru_D} {chg grade : Int32} {sz : Nat} {R : Bool × (Nat → Int32)} (an : inj ad 26) (dj : apart ad rd) (C : ac_MC G RX2 cX2_findSet 5 (some .boolean) M) (B : ac_Bd M (d + 6) 0 0) (E : ac_End G (fun r9 h9 => r9 = some (.int (pb_b (R.1 = true))) ∧ (∃ g9, rz_ok h9 ad (rd 0) chg g9 R.2 ∧ rz_inv I F c T g9) ∧ (∃ s9 hd9 ca9, rk_ok h9 (ad 11) (ad 1) (ad 12) s9 hd9 ca9) ∧ kp h h9 ([20, 21, 11, 12].map ad)) 0 0 M) (Kp0 : pl_ok h (ad 1) (pA ad) I F c) (U0 : ru_ok h rd T) (hw : ru_wf T) (hg : ru_gs T) (hsz : sz ≤ 10) {s : rk_S} {hd ca : Int32} {g : Nat → Int32} (hv : rz_inv I F c T g) (K : rk_ok h (ad 11) (ad 1) (ad 12) s hd ca) :
    ∀ (m i : Nat) (pk : Nat → Int32) (h1 : ac_H) (v4 : Value), i + m = sz → rz_ok h1 ad (rd 0) chg g pk → kp h h1 ([21].map ad) → rz_find I F c T sz grade 1024 true (rz_start m i pk) = R → aw G 5 M 2 [.ref (ad 19), .int (nI sz), .int grade, .int (nI i), v4] [] h1 0 0 := by
  intro m
  induction m with
  | zero =>
    intro i pk h1 v4 hi Z1 kq1 hR
    refine aw_iload_n C dX2_findSet_2 rfl rfl (q := 3) rfl ?_
    refine aw_iload_n C dX2_findSet_3 rfl rfl (q := 4) rfl ?_
    refine aw_icmp_ge (t := 26) (q := 7) C dX2_findSet_4 (by decide) rfl (fun c_4 => ?_) (fun c_4 => absurd c_4 (fun z => z (nI_le (by omega) (by omega))))
    refine aw_iconst (v := 1) C dX2_findSet_26 (by decide) (q := 27) rfl ?_
    refine aw_istore_n (ls' := [.ref (ad 19), .int (nI sz), .int grade, .int 1, v4]) C dX2_findSet_27 rfl (by decide) rfl (q := 28) rfl ?_
    refine aw_iconst (v := 0) C dX2_findSet_28 (by decide) (q := 29) rfl ?_
    refine aw_istore (ls' := [.ref (ad 19), .int (nI sz), .int grade, .int 1, .int 0]) C dX2_findSet_29 (by decide) rfl (q := 31) rfl ?_
    exact lp_findSet an dj C B E Kp0 U0 hw hg hsz 1024 0 true h1 s hd ca g pk (by omega) Z1 hv (rk_kpA (L := [21]) an K kq1 (by decide)) (kp_mono kq1 (by simp)) hR
  | succ m ih =>
    intro i pk h1 v4 hi Z1 kq1 hR
    refine aw_iload_n C dX2_findSet_2 rfl rfl (q := 3) rfl ?_
    refine aw_iload_n C dX2_findSet_3 rfl rfl (q := 4) rfl ?_
    refine aw_icmp_ge (t := 26) (q := 7) C dX2_findSet_4 (by decide) rfl (fun c_4 => absurd c_4 (ni_nge i sz rfl rfl (by omega) (by omega) (by omega))) (fun c_4 => ?_)
    refine aw_iload_n C dX2_findSet_7 rfl rfl (q := 8) rfl ?_
    refine aw_bipush (v := 10) C dX2_findSet_8 (by decide) (q := 10) rfl ?_
    refine aw_icmp_ge (t := 26) (q := 13) C dX2_findSet_10 (by decide) rfl (fun c_10 => absurd c_10 (ni_nge i 10 rfl rfl (by omega) (by decide) (by omega))) (fun c_10 => ?_)
    refine aw_aload_n C dX2_findSet_13 rfl rfl (q := 14) rfl ?_
    refine gfX2_28_2 (v := .ref (ad 21)) C dX2_findSet_14 Z1.1 rfl (q := 17) rfl ?_
    refine aw_iload_n C dX2_findSet_17 rfl rfl (q := 18) rfl ?_
    refine aw_iload_n C dX2_findSet_18 rfl rfl (q := 19) rfl ?_
    refine ay_iast (j := i) C dX2_findSet_19 Z1.2.2 (vp_in_nI (by omega) (by decide)) (nI_clamp (by omega)) (q := 20) rfl ?_
    show aw G 5 M 20 [.ref (ad 19), .int (nI sz), .int grade, .int (nI i), v4] [] (ac_up h1 (ad 21) (.inl (1, 10, .inl (upd pk i (nI i))))) 0 0
    obtain ⟨h_1, eh_1⟩ : ∃ z, z = ac_up h1 (ad 21) (.inl (1, 10, .inl (upd pk i (nI i)))) := ⟨_, rfl⟩
    rw [← eh_1]
    have f_2 : h_1 (ad 19) = some (.inr (2, [.ref (ad 1), .ref (ad 11), .ref (ad 20), .ref (rd 0), .int (chg), .ref (ad 21)])) := by rw [eh_1, ac_up_n _ _ (an 19 21 (by decide) (by decide) (by decide))]; exact Z1.1
    have f_3 : h_1 (ad 20) = some (.inl (1, 1024, .inl (g))) := by rw [eh_1, ac_up_n _ _ (an 20 21 (by decide) (by decide) (by decide))]; exact Z1.2.1
    have f_4 : h_1 (ad 21) = some (.inl (1, 10, .inl (upd pk i (nI i)))) := by rw [eh_1]; exact ac_up_s _ _ _
    have kp_5 : kp h h_1 [ad 21] := by rw [eh_1]; exact kp_up kq1 _ _ (by simp)
    refine aw_iinc (v := nI (i + 1)) (ls' := [.ref (ad 19), .int (nI sz), .int grade, .int (nI (i + 1)), v4]) C dX2_findSet_20 rfl (nI_1 i) (by decide) rfl (q := 23) rfl ?_
    refine aw_goto (q := 2) C dX2_findSet_23 (by decide) ?_
    exact ih (i + 1) _ h_1 _ (by omega) ⟨f_2, f_3, f_4⟩ kp_5 hR
set_option maxHeartbeats 4000000 in
set_option maxRecDepth 100000 in
theorem c_findSet (G : ac_G) (l : Launch) (h : ac_H) (d : Nat) (ad : Nat → Nat) (an : inj ad 26) (chg : Int32) (g pk : Nat → Int32) (s : rk_S) (hd ca : Int32) (I : Nat → Int32) (F : Nat → Nat → Int32) (c : Nat) (rd : Nat → Nat) (T : ru_D) (dj : apart ad rd) (K : rk_ok h (ad 11) (ad 1) (ad 12) s hd ca) (Kp : pl_ok h (ad 1) (pA ad) I F c) (U : ru_ok h rd T) (hw : ru_wf T) (hg : ru_gs T) (Z : rz_ok h ad (rd 0) chg g pk) (hv : rz_inv I F c T g) (sz : Nat) (grade : Int32) (hsz : sz ≤ 10) : ac_Met G l yX2_findSet cX2_findSet 5 (some .boolean) (d + 6) 0 0 [.ref (ad 19), .int (nI sz), .int grade] h (fun r9 h9 => r9 = some (.int (pb_b ((rz_find I F c T sz grade 1024 true (rz_start sz 0 pk)).1 = true))) ∧ (∃ g9, rz_ok h9 ad (rd 0) chg g9 (rz_find I F c T sz grade 1024 true (rz_start sz 0 pk)).2 ∧ rz_inv I F c T g9) ∧ (∃ s9 hd9 ca9, rk_ok h9 (ad 11) (ad 1) (ad 12) s9 hd9 ca9) ∧ kp h h9 ([20, 21, 11, 12].map ad)) := by
  refine ac_of (ls := [.ref (ad 19), .int (nI sz), .int grade, .retAddr 0, .retAddr 0]) (by decide +kernel) rfl (Nat.le_of_ble_eq_true rfl) (fun M hl C B E hnm => ?_)
  refine aw_iconst (v := 0) C dX2_findSet_0 (by decide) (q := 1) rfl ?_
  refine aw_istore_n (ls' := [.ref (ad 19), .int (nI sz), .int grade, .int 0, .retAddr 0]) C dX2_findSet_1 rfl (by decide) rfl (q := 2) rfl ?_
  exact lp_findStart (R := rz_find I F c T sz grade 1024 true (rz_start sz 0 pk)) an dj C B E Kp U hw hg hsz hv K sz 0 pk h _ (by omega) Z (kp_cons _ kp_rf) rfl
set_option maxHeartbeats 4000000 in
set_option maxRecDepth 100000 in
theorem lp_fewest {G : ac_G} {M : ac_M} {h : ac_H} {d : Nat} {ad : Nat → Nat} {I : Nat → Int32} {F : Nat → Nat → Int32} {c : Nat} {rd : Nat → Nat} {T : ru_D} {grade : Int32} {R : Int32 × (Nat → Int32)} (an : inj ad 26) (dj : apart ad rd) (C : ac_MC G RX2 cX2_fewest 4 (some .int) M) (B : ac_Bd M (d + 7) 0 0) (E : ac_End G (fun r9 h9 => r9 = some (.int R.1) ∧ (∃ g9, rz_ok h9 ad (rd 0) (I 4) g9 R.2 ∧ rz_inv I F c T g9) ∧ (∃ s9 hd9 ca9, rk_ok h9 (ad 11) (ad 1) (ad 12) s9 hd9 ca9) ∧ kp h h9 ([19, 20, 21, 11, 12].map ad)) 0 0 M) (Kp0 : pl_ok h (ad 1) (pA ad) I F c) (U0 : ru_ok h rd T) (hw : ru_wf T) (hg : ru_gs T) :
    ∀ (m i : Nat) (h1 : ac_H) (s : rk_S) (hd ca : Int32) (g pk : Nat → Int32), i + m = c + 1 → rz_ok h1 ad (rd 0) (I 4) g pk → rz_inv I F c T g → rk_ok h1 (ad 11) (ad 1) (ad 12) s hd ca → kp h h1 ([19, 20, 21, 11, 12].map ad) → rz_few I F c T grade m i pk = R → aw G 4 M 49 [.ref (ad 19), .ref (rd 0), .int grade, .int (nI i)] [] h1 0 0 := by
  obtain ⟨hp0, hF0, hI3, hc⟩ := id Kp0
  intro m
  induction m with
  | zero =>
    intro i h1 s hd ca g pk hi Z1 hv1 K1 kq1 hR
    have Kp1 := pl_kpA (L := [19, 20, 21, 11, 12]) an Kp0 kq1 (by decide)
    refine aw_iload_n C dX2_fewest_49 rfl rfl (q := 50) rfl ?_
    refine aw_aload_n C dX2_fewest_50 rfl rfl (q := 51) rfl ?_
    refine gfX2_31_2 (v := .ref (ad 1)) C dX2_fewest_51 Z1.1 rfl (q := 54) rfl ?_
    refine gfX2_48_1 (v := .int (I 3)) C dX2_fewest_54 Kp1.1 rfl (q := 57) rfl ?_
    refine aw_icmp_gt (t := 83) (q := 60) C dX2_fewest_57 (by decide) rfl (fun c_57 => ?_) (fun c_57 => absurd c_57 (fun z => z (by rw [hI3]; exact nI_lt (by omega) (by omega))))
    refine aw_iconst (v := (-1)) C dX2_fewest_83 (by decide) (q := 84) rfl ?_
    refine aw_iret C E dX2_fewest_84 (Nat.le_refl _) (Nat.le_refl _) ?_
    have e : R = (-1, pk) := by rw [← hR]; rfl
    exact ⟨by rw [e], ⟨g, by rw [e]; exact Z1, hv1⟩, ⟨_, _, _, K1⟩, kq1⟩
  | succ m ih =>
    intro i h1 s hd ca g pk hi Z1 hv1 K1 kq1 hR
    have Kp1 := pl_kpA (L := [19, 20, 21, 11, 12]) an Kp0 kq1 (by decide)
    have U1 := ru_kpA (L := [19, 20, 21, 11, 12]) dj U0 kq1 (by decide)
    refine aw_iload_n C dX2_fewest_49 rfl rfl (q := 50) rfl ?_
    refine aw_aload_n C dX2_fewest_50 rfl rfl (q := 51) rfl ?_
    refine gfX2_31_2 (v := .ref (ad 1)) C dX2_fewest_51 Z1.1 rfl (q := 54) rfl ?_
    refine gfX2_48_1 (v := .int (I 3)) C dX2_fewest_54 Kp1.1 rfl (q := 57) rfl ?_
    refine aw_icmp_gt (t := 83) (q := 60) C dX2_fewest_57 (by decide) rfl (fun c_57 => absurd c_57 (fun z => by rw [hI3] at z; exact nI_nlt (a := c) (b := i) (by omega) (by omega) z)) (fun c_57 => ?_)
    refine aw_iload_n C dX2_fewest_60 rfl rfl (q := 61) rfl ?_
    refine aw_bipush (v := 10) C dX2_fewest_61 (by decide) (q := 63) rfl ?_
    refine aw_icmp_gt (t := 83) (q := 66) C dX2_fewest_63 (by decide) rfl (fun c_63 => absurd c_63 (fun z => nI_nlt (a := 10) (b := i) (by omega) (by omega) z)) (fun c_63 => ?_)
    refine aw_aload_n C dX2_fewest_66 rfl rfl (q := 67) rfl ?_
    refine aw_iload_n C dX2_fewest_67 rfl rfl (q := 68) rfl ?_
    refine aw_iload_n C dX2_fewest_68 rfl rfl (q := 69) rfl ?_
    refine cvX2_51_2 (As := [.int (nI i), .int grade]) (rest := []) C B dX2_fewest_69 Z1.1 (c_findSet G M.2.1 h1 d ad an (I 4) g pk s hd ca I F c rd T dj K1 Kp1 U1 hw hg Z1 hv1 i grade (by omega)) rfl rfl (Nat.le_of_ble_eq_true rfl) (by omega) (by omega) (by omega) (q := 72) rfl (fun r9 h9 hr9 => ?_)
    obtain ⟨er9, ⟨g9, Z9, hv9⟩, ⟨s9, hd9, ca9, K9⟩, kp9⟩ := hr9
    subst er9
    have kq9 : kp h h9 ([19, 20, 21, 11, 12].map ad) := kp_mono (kp_tr kq1 kp9) (by intro z hz; simp only [List.mem_append, List.map_cons, List.map_nil, List.mem_cons, List.not_mem_nil, or_false] at hz ⊢; omega)
    show aw G 4 M 72 [.ref (ad 19), .ref (rd 0), .int grade, .int (nI i)] [.int (pb_b ((rz_find I F c T i grade 1024 true (rz_start i 0 pk)).1 = true))] h9 0 0
    refine aw_if_eq (t := 77) (q := 75) C dX2_fewest_72 (by decide) rfl (fun c_72 => ?_) (fun c_72 => ?_)
    ·
      refine aw_iinc (v := nI (i + 1)) (ls' := [.ref (ad 19), .ref (rd 0), .int grade, .int (nI (i + 1))]) C dX2_fewest_77 rfl (nI_1 i) (by decide) rfl (q := 80) rfl ?_
      refine aw_goto (q := 49) C dX2_fewest_80 (by decide) ?_
      refine ih (i + 1) h9 s9 hd9 ca9 g9 _ (by omega) Z9 hv9 K9 kq9 ?_
      rw [← hR]; conv => rhs; unfold rz_few
      rw [if_neg (pb_0.mp c_72)]
    ·
      refine aw_iload_n C dX2_fewest_75 rfl rfl (q := 76) rfl ?_
      refine aw_iret C E dX2_fewest_76 (Nat.le_refl _) (Nat.le_refl _) ?_
      have e : R = (nI i, (rz_find I F c T i grade 1024 true (rz_start i 0 pk)).2) := by rw [← hR]; unfold rz_few; rw [if_pos (pb_n c_72)]
      exact ⟨by rw [e], ⟨g9, by rw [e]; exact Z9, hv9⟩, ⟨_, _, _, K9⟩, kq9⟩
set_option maxHeartbeats 4000000 in
set_option maxRecDepth 100000 in
theorem c_fewest (G : ac_G) (l : Launch) (h : ac_H) (d : Nat) (ad : Nat → Nat) (an : inj ad 26) (ra : Nat) (chg : Int32) (g pk : Nat → Int32) (s : rk_S) (hd ca : Int32) (I : Nat → Int32) (F : Nat → Nat → Int32) (c : Nat) (rd : Nat → Nat) (T : ru_D) (dj : apart ad rd) (K : rk_ok h (ad 11) (ad 1) (ad 12) s hd ca) (Kp : pl_ok h (ad 1) (pA ad) I F c) (U : ru_ok h rd T) (hw : ru_wf T) (hg : ru_gs T) (Z : rz_ok h ad ra chg g pk) (hcache : ra = rd 0 → chg = I 4 → rz_inv I F c T g) (grade : Int32) : ac_Met G l yX2_fewest cX2_fewest 4 (some .int) (d + 7) 0 0 [.ref (ad 19), .ref (rd 0), .int grade] h (fun r9 h9 => r9 = some (.int (rz_few I F c T grade (c + 1) 0 pk).1) ∧ (∃ g9, rz_ok h9 ad (rd 0) (I 4) g9 (rz_few I F c T grade (c + 1) 0 pk).2 ∧ rz_inv I F c T g9) ∧ (∃ s9 hd9 ca9, rk_ok h9 (ad 11) (ad 1) (ad 12) s9 hd9 ca9) ∧ kp h h9 ([19, 20, 21, 11, 12].map ad)) := by
  refine ac_of (ls := [.ref (ad 19), .ref (rd 0), .int grade, .retAddr 0]) (by decide +kernel) rfl (Nat.le_of_ble_eq_true rfl) (fun M hl C B E hnm => ?_)
  refine aw_aload_n C dX2_fewest_0 rfl rfl (q := 1) rfl ?_
  refine gfX2_20_2 (v := .ref ra) C dX2_fewest_1 Z.1 rfl (q := 4) rfl ?_
  refine aw_aload_n C dX2_fewest_4 rfl rfl (q := 5) rfl ?_
  refine aw_acmp_ne (rx := some ra) (ry := some (rd 0)) (t := 22) (q := 8) C dX2_fewest_5 (by decide) rfl (fun c_5 => ?_) (fun c_5 => ?_)
  ·
    refine aw_aload_n C dX2_fewest_22 rfl rfl (q := 23) rfl ?_
    refine aw_aload_n C dX2_fewest_23 rfl rfl (q := 24) rfl ?_
    refine pfX2_20_2 C dX2_fewest_24 Z.1 rfl rfl (Nat.le_of_ble_eq_true rfl) (q := 27) rfl ?_
    show aw G 4 M 27 [.ref (ad 19), .ref (rd 0), .int grade, .retAddr 0] [] (ac_up h (ad 19) (.inr (2, [.ref (ad 1), .ref (ad 11), .ref (ad 20), .ref (rd 0), .int chg, .ref (ad 21)]))) 0 0
    obtain ⟨h_1, eh_1⟩ : ∃ z, z = ac_up h (ad 19) (.inr (2, [.ref (ad 1), .ref (ad 11), .ref (ad 20), .ref (rd 0), .int chg, .ref (ad 21)])) := ⟨_, rfl⟩
    rw [← eh_1]
    have f_2 : h_1 (ad 20) = some (.inl (1, 1024, .inl (g))) := by rw [eh_1, ac_up_n _ _ (an 20 19 (by decide) (by decide) (by decide))]; exact Z.2.1
    have f_3 : h_1 (ad 21) = some (.inl (1, 10, .inl (pk))) := by rw [eh_1, ac_up_n _ _ (an 21 19 (by decide) (by decide) (by decide))]; exact Z.2.2
    have f_4 : h_1 (ad 19) = some (.inr (2, [.ref (ad 1), .ref (ad 11), .ref (ad 20), .ref (rd 0), .int chg, .ref (ad 21)])) := by rw [eh_1]; exact ac_up_s _ _ _
    have kp_5 : kp h h_1 [ad 19] := by rw [eh_1]; exact kp_up (kp_cons (ad 19) kp_rf) _ _ (by simp)
    refine aw_aload_n C dX2_fewest_27 rfl rfl (q := 28) rfl ?_
    refine aw_aload_n C dX2_fewest_28 rfl rfl (q := 29) rfl ?_
    refine gfX2_31_2 (v := .ref (ad 1)) C dX2_fewest_29 f_4 rfl (q := 32) rfl ?_
    refine gfX2_39_1 (v := .int (I 4)) C dX2_fewest_32 (pl_kpA (L := [19]) an Kp kp_5 (by decide)).1 rfl (q := 35) rfl ?_
    refine pfX2_24_2 C dX2_fewest_35 f_4 rfl rfl (Nat.le_of_ble_eq_true rfl) (q := 38) rfl ?_
    show aw G 4 M 38 [.ref (ad 19), .ref (rd 0), .int grade, .retAddr 0] [] (ac_up h_1 (ad 19) (.inr (2, [.ref (ad 1), .ref (ad 11), .ref (ad 20), .ref (rd 0), .int (I 4), .ref (ad 21)]))) 0 0
    obtain ⟨h_6, eh_6⟩ : ∃ z, z = ac_up h_1 (ad 19) (.inr (2, [.ref (ad 1), .ref (ad 11), .ref (ad 20), .ref (rd 0), .int (I 4), .ref (ad 21)])) := ⟨_, rfl⟩
    rw [← eh_6]
    have f_7 : h_6 (ad 20) = some (.inl (1, 1024, .inl (g))) := by rw [eh_6, ac_up_n _ _ (an 20 19 (by decide) (by decide) (by decide))]; exact f_2
    have f_8 : h_6 (ad 21) = some (.inl (1, 10, .inl (pk))) := by rw [eh_6, ac_up_n _ _ (an 21 19 (by decide) (by decide) (by decide))]; exact f_3
    have f_9 : h_6 (ad 19) = some (.inr (2, [.ref (ad 1), .ref (ad 11), .ref (ad 20), .ref (rd 0), .int (I 4), .ref (ad 21)])) := by rw [eh_6]; exact ac_up_s _ _ _
    have kp_10 : kp h h_6 [ad 19] := by rw [eh_6]; exact kp_up kp_5 _ _ (by simp)
    refine aw_aload_n C dX2_fewest_38 rfl rfl (q := 39) rfl ?_
    refine gfX2_9_2 (v := .ref (ad 20)) C dX2_fewest_39 f_9 rfl (q := 42) rfl ?_
    refine aw_bipush (v := (-2)) C dX2_fewest_42 (by decide) (q := 44) rfl ?_
    refine csX2_42 (As := [.ref (ad 20), .int ((-2))]) (rest := []) C B dX2_fewest_44 (c_fill G M.2.1 h_6 d (ad 20) 1024 g ((-2)) f_7 (by decide)) rfl rfl (Nat.le_of_ble_eq_true rfl) (by omega) (by omega) (by omega) (q := 47) rfl (fun r9 h9 hr9 => ?_)
    obtain ⟨er9, ⟨f9, fa9, hv9⟩, kp9⟩ := hr9
    subst er9
    have kq8 : kp h h9 ([19, 20].map ad) := kp_mono (kp_tr kp_10 kp9) (by intro z hz; simp only [List.mem_append, List.map_cons, List.map_nil, List.mem_cons, List.not_mem_nil, or_false] at hz ⊢; omega)
    have Z9 : rz_ok h9 ad (rd 0) (I 4) f9 pk := ⟨kp9 _ _ f_9 (ni1 (an 19 20 (by decide) (by decide) (by decide)) ni0), fa9, kp9 _ _ f_8 (ni1 (an 21 20 (by decide) (by decide) (by decide)) ni0)⟩
    show aw G 4 M 47 [.ref (ad 19), .ref (rd 0), .int grade, .retAddr 0] [] h9 0 0
    refine aw_iconst (v := 0) C dX2_fewest_47 (by decide) (q := 48) rfl ?_
    refine aw_istore_n (ls' := [.ref (ad 19), .ref (rd 0), .int grade, .int 0]) C dX2_fewest_48 rfl (by decide) rfl (q := 49) rfl ?_
    exact lp_fewest (R := rz_few I F c T grade (c + 1) 0 pk) an dj C B E Kp U hw hg (c + 1) 0 h9 s hd ca f9 pk (by omega) Z9 (fun a ha => Or.inl (hv9 a ha)) (rk_kpA (L := [19, 20]) an K kq8 (by decide)) (kp_mono kq8 (by simp)) rfl
  ·
    refine aw_aload_n C dX2_fewest_8 rfl rfl (q := 9) rfl ?_
    refine gfX2_24_2 (v := .int chg) C dX2_fewest_9 Z.1 rfl (q := 12) rfl ?_
    refine aw_aload_n C dX2_fewest_12 rfl rfl (q := 13) rfl ?_
    refine gfX2_31_2 (v := .ref (ad 1)) C dX2_fewest_13 Z.1 rfl (q := 16) rfl ?_
    refine gfX2_39_1 (v := .int (I 4)) C dX2_fewest_16 Kp.1 rfl (q := 19) rfl ?_
    refine aw_icmp_eq (t := 47) (q := 22) C dX2_fewest_19 (by decide) rfl (fun c_19 => ?_) (fun c_19 => ?_)
    ·
      refine aw_iconst (v := 0) C dX2_fewest_47 (by decide) (q := 48) rfl ?_
      refine aw_istore_n (ls' := [.ref (ad 19), .ref (rd 0), .int grade, .int 0]) C dX2_fewest_48 rfl (by decide) rfl (q := 49) rfl ?_
      have era : ra = rd 0 := Option.some.inj c_5
      subst era
      have ech : chg = I 4 := c_19
      rw [ech] at Z hcache
      exact lp_fewest (R := rz_few I F c T grade (c + 1) 0 pk) an dj C B E Kp U hw hg (c + 1) 0 h s hd ca g pk (by omega) Z (hcache rfl rfl) K (kp_cons _ (kp_cons _ (kp_cons _ (kp_cons _ (kp_cons _ kp_rf))))) rfl
    ·
      refine aw_aload_n C dX2_fewest_22 rfl rfl (q := 23) rfl ?_
      refine aw_aload_n C dX2_fewest_23 rfl rfl (q := 24) rfl ?_
      refine pfX2_20_2 C dX2_fewest_24 Z.1 rfl rfl (Nat.le_of_ble_eq_true rfl) (q := 27) rfl ?_
      show aw G 4 M 27 [.ref (ad 19), .ref (rd 0), .int grade, .retAddr 0] [] (ac_up h (ad 19) (.inr (2, [.ref (ad 1), .ref (ad 11), .ref (ad 20), .ref (rd 0), .int chg, .ref (ad 21)]))) 0 0
      obtain ⟨h_11, eh_11⟩ : ∃ z, z = ac_up h (ad 19) (.inr (2, [.ref (ad 1), .ref (ad 11), .ref (ad 20), .ref (rd 0), .int chg, .ref (ad 21)])) := ⟨_, rfl⟩
      rw [← eh_11]
      have f_12 : h_11 (ad 20) = some (.inl (1, 1024, .inl (g))) := by rw [eh_11, ac_up_n _ _ (an 20 19 (by decide) (by decide) (by decide))]; exact Z.2.1
      have f_13 : h_11 (ad 21) = some (.inl (1, 10, .inl (pk))) := by rw [eh_11, ac_up_n _ _ (an 21 19 (by decide) (by decide) (by decide))]; exact Z.2.2
      have f_14 : h_11 (ad 19) = some (.inr (2, [.ref (ad 1), .ref (ad 11), .ref (ad 20), .ref (rd 0), .int chg, .ref (ad 21)])) := by rw [eh_11]; exact ac_up_s _ _ _
      have kp_15 : kp h h_11 [ad 19] := by rw [eh_11]; exact kp_up (kp_cons (ad 19) kp_rf) _ _ (by simp)
      refine aw_aload_n C dX2_fewest_27 rfl rfl (q := 28) rfl ?_
      refine aw_aload_n C dX2_fewest_28 rfl rfl (q := 29) rfl ?_
      refine gfX2_31_2 (v := .ref (ad 1)) C dX2_fewest_29 f_14 rfl (q := 32) rfl ?_
      refine gfX2_39_1 (v := .int (I 4)) C dX2_fewest_32 (pl_kpA (L := [19]) an Kp kp_15 (by decide)).1 rfl (q := 35) rfl ?_
      refine pfX2_24_2 C dX2_fewest_35 f_14 rfl rfl (Nat.le_of_ble_eq_true rfl) (q := 38) rfl ?_
      show aw G 4 M 38 [.ref (ad 19), .ref (rd 0), .int grade, .retAddr 0] [] (ac_up h_11 (ad 19) (.inr (2, [.ref (ad 1), .ref (ad 11), .ref (ad 20), .ref (rd 0), .int (I 4), .ref (ad 21)]))) 0 0
      obtain ⟨h_16, eh_16⟩ : ∃ z, z = ac_up h_11 (ad 19) (.inr (2, [.ref (ad 1), .ref (ad 11), .ref (ad 20), .ref (rd 0), .int (I 4), .ref (ad 21)])) := ⟨_, rfl⟩
      rw [← eh_16]
      have f_17 : h_16 (ad 20) = some (.inl (1, 1024, .inl (g))) := by rw [eh_16, ac_up_n _ _ (an 20 19 (by decide) (by decide) (by decide))]; exact f_12
      have f_18 : h_16 (ad 21) = some (.inl (1, 10, .inl (pk))) := by rw [eh_16, ac_up_n _ _ (an 21 19 (by decide) (by decide) (by decide))]; exact f_13
      have f_19 : h_16 (ad 19) = some (.inr (2, [.ref (ad 1), .ref (ad 11), .ref (ad 20), .ref (rd 0), .int (I 4), .ref (ad 21)])) := by rw [eh_16]; exact ac_up_s _ _ _
      have kp_20 : kp h h_16 [ad 19] := by rw [eh_16]; exact kp_up kp_15 _ _ (by simp)
      refine aw_aload_n C dX2_fewest_38 rfl rfl (q := 39) rfl ?_
      refine gfX2_9_2 (v := .ref (ad 20)) C dX2_fewest_39 f_19 rfl (q := 42) rfl ?_
      refine aw_bipush (v := (-2)) C dX2_fewest_42 (by decide) (q := 44) rfl ?_
      refine csX2_42 (As := [.ref (ad 20), .int ((-2))]) (rest := []) C B dX2_fewest_44 (c_fill G M.2.1 h_16 d (ad 20) 1024 g ((-2)) f_17 (by decide)) rfl rfl (Nat.le_of_ble_eq_true rfl) (by omega) (by omega) (by omega) (q := 47) rfl (fun r9 h9 hr9 => ?_)
      obtain ⟨er9, ⟨f9, fa9, hv9⟩, kp9⟩ := hr9
      subst er9
      have kq8 : kp h h9 ([19, 20].map ad) := kp_mono (kp_tr kp_20 kp9) (by intro z hz; simp only [List.mem_append, List.map_cons, List.map_nil, List.mem_cons, List.not_mem_nil, or_false] at hz ⊢; omega)
      have Z9 : rz_ok h9 ad (rd 0) (I 4) f9 pk := ⟨kp9 _ _ f_19 (ni1 (an 19 20 (by decide) (by decide) (by decide)) ni0), fa9, kp9 _ _ f_18 (ni1 (an 21 20 (by decide) (by decide) (by decide)) ni0)⟩
      show aw G 4 M 47 [.ref (ad 19), .ref (rd 0), .int grade, .retAddr 0] [] h9 0 0
      refine aw_iconst (v := 0) C dX2_fewest_47 (by decide) (q := 48) rfl ?_
      refine aw_istore_n (ls' := [.ref (ad 19), .ref (rd 0), .int grade, .int 0]) C dX2_fewest_48 rfl (by decide) rfl (q := 49) rfl ?_
      exact lp_fewest (R := rz_few I F c T grade (c + 1) 0 pk) an dj C B E Kp U hw hg (c + 1) 0 h9 s hd ca f9 pk (by omega) Z9 (fun a ha => Or.inl (hv9 a ha)) (rk_kpA (L := [19, 20]) an K kq8 (by decide)) (kp_mono kq8 (by simp)) rfl
