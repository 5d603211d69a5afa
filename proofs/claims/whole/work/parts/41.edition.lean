/-! GradeTexts: rulesOn, edition -/
theorem ay_aald {G : ac_G} {own : String} {cc : ByteArray} {nL : Nat} {ret : Option FieldType} {M : ac_M} {pc q : Nat} {ls st : List Value} {h : ac_H} {k n : Nat} {a N j : Nat} {f : Nat → Option Nat} {i : Int32} (C : ac_MC G own cc nL ret M) (d : decode cc pc = .ok (.aaload, 1)) (ha : h a = some (.inl (4, N, .inr (.inr (.inr (.inr f)))))) (hi : vp_in i N) (hj : i.toNatClampNeg = j) (hq : pc + 1 = q) (kk : aw G nL M q ls (va_rf (f j) :: st) h k n) : aw G nL M pc ls (.int i :: .ref a :: st) h k n := by
  subst hj
  exact aw_aald C d ha hi hq kk
theorem ac_sq {a b c v w : Value} (o : Option Nat) : ac_s1 [a, b, c, va_rf o, v] 4 w = [a, b, c, va_rf o, w] := by cases o <;> rfl
/-- the rules that act on a day, over the first i editions -/
def gt_on (E : Nat → Option Nat) (dy : Nat → Int64) (day : Int64) (la : Option Nat) : Nat → Option Nat
  | 0 => la
  | i + 1 => if 0 < lg_cmp (dy i) day then gt_on E dy day la i else E i
theorem ay_aast {G : ac_G} {own : String} {cc : ByteArray} {nL : Nat} {ret : Option FieldType} {M : ac_M} {pc q : Nat} {ls st : List Value} {h : ac_H} {k n : Nat} {a N v j : Nat} {f : Nat → Option Nat} {vs : List Value} {i : Int32} (C : ac_MC G own cc nL ret M) (d : decode cc pc = .ok (.aastore, 1)) (ha : h a = some (.inl (4, N, .inr (.inr (.inr (.inr f)))))) (hv : h v = some (.inr (6, vs))) (hi : vp_in i N) (hj : i.toNatClampNeg = j) (hq : pc + 1 = q) (kk : aw G nL M q ls st (ac_up h a (.inl (4, N, .inr (.inr (.inr (.inr (va_up f j (some v)))))))) k n) : aw G nL M pc ls (.ref v :: .int i :: .ref a :: st) h k n := by
  subst hj
  exact aw_aast C d ha hv hi hq kk
set_option maxHeartbeats 4000000 in
set_option maxRecDepth 100000 in
theorem lp_rulesOn {G : ac_G} {M : ac_M} {h : ac_H} {x e t : Nat} {fs : List Value} {la : Option Nat} {ec : Nat} {E : Nat → Option Nat} {dy : Nat → Int64} (K : h x = some (.inr (8, fs))) (hf6 : fs[6]? = some (va_rf la)) (hf7 : fs[7]? = some (.ref e)) (hf8 : fs[8]? = some (.ref t)) (hf9 : fs[9]? = some (.int (nI ec))) (Ke : h e = some (.inl (4, 4, .inr (.inr (.inr (.inr E)))))) (Kt : h t = some (.inl (2, 4, .inr (.inl dy)))) (hec : ec ≤ 4) {day : Int64} (C : ac_MC G RX8 cX8_rulesOn 5 (some (.object "GradeTexts$Rules")) M) (E9 : ac_End G (pq h (some (va_rf (gt_on E dy day la ec)))) 0 0 M) :
    ∀ (m i : Nat), i + m = ec → aw G 5 M 8 [.ref x, .long day, .retAddr 0, va_rf (gt_on E dy day la i), .int (nI i)] [] h 0 0 := by
  intro m
  induction m with
  | zero =>
    intro i hi
    have hi2 : i = ec := by omega
    subst hi2
    refine aw_iload C dX8_rulesOn_8 rfl (q := 10) rfl ?_
    refine aw_aload_n C dX8_rulesOn_10 rfl rfl (q := 11) rfl ?_
    refine gfX8_69_8 (v := .int (nI i)) C dX8_rulesOn_11 K (hf9) (q := 14) rfl ?_
    refine aw_icmp_ge (t := 49) (q := 17) C dX8_rulesOn_14 (by decide) rfl (fun c_14 => ?_) (fun c_14 => absurd c_14 (fun z => z (nI_le (a := i) (by omega) (by omega))))
    refine aw_aload_nQ (r := (gt_on E dy day la i)) C dX8_rulesOn_49 rfl rfl (q := 50) rfl ?_
    refine aw_aret (r := (gt_on E dy day la i)) C E9 dX8_rulesOn_50 (Or.inl ⟨_, rfl⟩) (Nat.le_refl _) (Nat.le_refl _) ?_
    exact ⟨rfl, rfl⟩
  | succ m ih =>
    intro i hi
    refine aw_iload C dX8_rulesOn_8 rfl (q := 10) rfl ?_
    refine aw_aload_n C dX8_rulesOn_10 rfl rfl (q := 11) rfl ?_
    refine gfX8_69_8 (v := .int (nI ec)) C dX8_rulesOn_11 K (hf9) (q := 14) rfl ?_
    refine aw_icmp_ge (t := 49) (q := 17) C dX8_rulesOn_14 (by decide) rfl (fun c_14 => absurd c_14 (ni_nge i ec rfl rfl (by omega) (by omega) (by omega))) (fun c_14 => ?_)
    refine aw_iload C dX8_rulesOn_17 rfl (q := 19) rfl ?_
    refine aw_iconst (v := 4) C dX8_rulesOn_19 (by decide) (q := 20) rfl ?_
    refine aw_icmp_ge (t := 49) (q := 23) C dX8_rulesOn_20 (by decide) rfl (fun c_20 => absurd c_20 (ni_nge i 4 rfl rfl (by omega) (by decide) (by omega))) (fun c_20 => ?_)
    refine aw_aload_n C dX8_rulesOn_23 rfl rfl (q := 24) rfl ?_
    refine gfX8_65_8 (v := .ref t) C dX8_rulesOn_24 K (hf8) (q := 27) rfl ?_
    refine aw_iload C dX8_rulesOn_27 rfl (q := 29) rfl ?_
    refine ay_lald (j := i) C dX8_rulesOn_29 Kt (vp_in_nI (by omega) (by decide)) (nI_clamp (by omega)) (q := 30) rfl ?_
    refine aw_lload_n C dX8_rulesOn_30 rfl rfl (q := 31) rfl ?_
    refine aw_lcmp C dX8_rulesOn_31 (q := 32) rfl ?_
    refine aw_if_gt (t := 43) (q := 35) C dX8_rulesOn_32 (by decide) rfl (fun c_32 => ?_) (fun c_32 => ?_)
    ·
      refine aw_iinc (v := nI (i + 1)) (ls' := [.ref x, .long day, .retAddr 0, va_rf (gt_on E dy day la i), .int (nI (i + 1))]) C dX8_rulesOn_43 rfl (nI_1 i) (by decide) (ac_sq _) (q := 46) rfl ?_
      refine aw_goto (q := 8) C dX8_rulesOn_46 (by decide) ?_
      have z := ih (i + 1) (by omega)
      rw [show gt_on E dy day la (i + 1) = gt_on E dy day la i from if_pos c_32] at z
      exact z
    ·
      refine aw_aload_n C dX8_rulesOn_35 rfl rfl (q := 36) rfl ?_
      refine gfX8_61_8 (v := .ref e) C dX8_rulesOn_36 K (hf7) (q := 39) rfl ?_
      refine aw_iload C dX8_rulesOn_39 rfl (q := 41) rfl ?_
      refine ay_aald (j := i) C dX8_rulesOn_41 Ke (vp_in_nI (by omega) (by decide)) (nI_clamp (by omega)) (q := 42) rfl ?_
      refine aw_astore_nQ (r := (E i)) (ls' := [.ref x, .long day, .retAddr 0, va_rf (E i), .int (nI i)]) C dX8_rulesOn_42 rfl (by decide) rfl (q := 43) rfl ?_
      refine aw_iinc (v := nI (i + 1)) (ls' := [.ref x, .long day, .retAddr 0, va_rf (E i), .int (nI (i + 1))]) C dX8_rulesOn_43 rfl (nI_1 i) (by decide) (ac_sq _) (q := 46) rfl ?_
      refine aw_goto (q := 8) C dX8_rulesOn_46 (by decide) ?_
      have z := ih (i + 1) (by omega)
      rw [show gt_on E dy day la (i + 1) = E i from if_neg c_32] at z
      exact z
set_option maxHeartbeats 4000000 in
set_option maxRecDepth 100000 in
theorem c_rulesOn (G : ac_G) (l : Launch) (h : ac_H) (d : Nat) (x e t : Nat) (fs : List Value) (la : Option Nat) (ec : Nat) (E : Nat → Option Nat) (dy : Nat → Int64) (K : h x = some (.inr (8, fs))) (hf6 : fs[6]? = some (va_rf la)) (hf7 : fs[7]? = some (.ref e)) (hf8 : fs[8]? = some (.ref t)) (hf9 : fs[9]? = some (.int (nI ec))) (Ke : h e = some (.inl (4, 4, .inr (.inr (.inr (.inr E)))))) (Kt : h t = some (.inl (2, 4, .inr (.inl dy)))) (hec : ec ≤ 4) (day : Int64) : ac_Met G l yX8_rulesOn cX8_rulesOn 5 (some (.object "GradeTexts$Rules")) d 0 0 [.ref x, .long day] h (pq h (some (va_rf (gt_on E dy day la ec)))) := by
  refine ac_of (ls := [.ref x, .long day, .retAddr 0, .retAddr 0, .retAddr 0]) (by decide +kernel) rfl (Nat.le_of_ble_eq_true rfl) (fun M hl C B E9 hnm => ?_)
  refine aw_aload_n C dX8_rulesOn_0 rfl rfl (q := 1) rfl ?_
  refine gfX8_55_8 (v := va_rf la) C dX8_rulesOn_1 K (hf6) (q := 4) rfl ?_
  refine aw_astore_nQ (r := la) (ls' := [.ref x, .long day, .retAddr 0, va_rf la, .retAddr 0]) C dX8_rulesOn_4 rfl (by decide) rfl (q := 5) rfl ?_
  refine aw_iconst (v := 0) C dX8_rulesOn_5 (by decide) (q := 6) rfl ?_
  refine aw_istore (ls' := [.ref x, .long day, .retAddr 0, va_rf la, .int 0]) C dX8_rulesOn_6 (by decide) (ac_sq _) (q := 8) rfl ?_
  exact lp_rulesOn K hf6 hf7 hf8 hf9 Ke Kt hec C E9 ec 0 (by omega)
set_option maxHeartbeats 4000000 in
set_option maxRecDepth 100000 in
theorem c_edition0 (G : ac_G) (l : Launch) (h : ac_H) (d : Nat) (x e t : Nat) (fs : List Value) (ec : Nat) (E : Nat → Option Nat) (dy : Nat → Int64) (K : h x = some (.inr (8, fs))) (hf6 : fs[6]? = some .null) (hf7 : fs[7]? = some (.ref e)) (hf8 : fs[8]? = some (.ref t)) (hf9 : fs[9]? = some (.int (nI ec))) (Ke : h e = some (.inl (4, 4, .inr (.inr (.inr (.inr E)))))) (Kt : h t = some (.inl (2, 4, .inr (.inl dy)))) (hec : ec ≤ 4) (day : Int64) (hst : l.stackTraces = false) : ac_MetX G l yX8_edition cX8_edition 4 (some .int) (d + 10) 1 6 [.ref x, .long day] h (fun _ _ => False) (fun E9 h9 => E9 = "java/lang/IllegalStateException" ∧ h9 = h) := by
  refine ac_ofX (ls := [.ref x, .long day, .retAddr 0, .retAddr 0]) (by decide +kernel) rfl (Nat.le_of_ble_eq_true rfl) (fun M hl C B E9 hnm => ?_)
  refine aw_aload_n C dX8_edition_0 rfl rfl (q := 1) rfl ?_
  refine gfX8_55_8 (v := .null) C dX8_edition_1 K (hf6) (q := 4) rfl ?_
  refine aw_ifnonnull (r := none) (t := 17) (q := 7) C dX8_edition_4 (by decide) rfl (fun _ z => nomatch z) (fun _ => ?_)
  refine aw_throw C B E9 (by rw [hl]; exact hst) thS st99 dX8_edition_7 dX8_edition_10 dX8_edition_11 dX8_edition_13 dX8_edition_16 (by show 2 + 3 < _; omega) (by show 13 * (2 + 1) + 43 ≤ _; omega) (by omega) (by omega) ?_
  exact ⟨rfl, rfl⟩
set_option maxHeartbeats 4000000 in
set_option maxRecDepth 100000 in
theorem c_edition1 (G : ac_G) (l : Launch) (h : ac_H) (d : Nat) (x e t : Nat) (fs : List Value) (ra : Nat) (fr : List Value) (ec : Nat) (E : Nat → Option Nat) (dy : Nat → Int64) (K : h x = some (.inr (8, fs))) (hf6 : fs[6]? = some (.ref ra)) (hf7 : fs[7]? = some (.ref e)) (hf8 : fs[8]? = some (.ref t)) (hf9 : fs[9]? = some (.int (nI ec))) (Ke : h e = some (.inl (4, 4, .inr (.inr (.inr (.inr E)))))) (Kt : h t = some (.inl (2, 4, .inr (.inl dy)))) (hec : ec ≤ 4) (Kr : h ra = some (.inr (6, fr))) (hfl : 9 < fs.length) (day : Int64) (hst : l.stackTraces = false) : ac_MetX G l yX8_edition cX8_edition 4 (some .int) (d + 10) 1 6 [.ref x, .long day] h (fun r9 h9 => (ec < 4 ∧ ¬ lg_cmp day 0 < 0 ∧ (ec ≤ 0 ∨ 0 < lg_cmp day (dy (ec - 1)))) ∧ r9 = some (.int (nI (ec + 1))) ∧ h9 x = some (.inr (8, fs.set 9 (.int (nI (ec + 1))))) ∧ h9 e = some (.inl (4, 4, .inr (.inr (.inr (.inr (va_up E ec (some ra))))))) ∧ h9 t = some (.inl (2, 4, .inr (.inl (vp_updL dy ec day)))) ∧ kp h h9 [x, e, t]) (fun E9 h9 => (¬ ec < 4 ∧ E9 = "java/lang/IllegalStateException" ∧ h9 = h) ∨ ((ec < 4 ∧ ¬ (¬ lg_cmp day 0 < 0 ∧ (ec ≤ 0 ∨ 0 < lg_cmp day (dy (ec - 1))))) ∧ E9 = "java/lang/IllegalArgumentException" ∧ h9 = h)) := by
  refine ac_ofX (ls := [.ref x, .long day, .retAddr 0, .retAddr 0]) (by decide +kernel) rfl (Nat.le_of_ble_eq_true rfl) (fun M hl C B E9 hnm => ?_)
  refine aw_aload_n C dX8_edition_0 rfl rfl (q := 1) rfl ?_
  refine gfX8_55_8 (v := .ref ra) C dX8_edition_1 K (hf6) (q := 4) rfl ?_
  refine aw_ifnonnull (r := (some ra)) (t := 17) (q := 7) C dX8_edition_4 (by decide) rfl (fun _ _ => ?_) (fun z => nomatch z)
  refine aw_aload_n C dX8_edition_17 rfl rfl (q := 18) rfl ?_
  refine gfX8_69_8 (v := .int (nI ec)) C dX8_edition_18 K (hf9) (q := 21) rfl ?_
  refine aw_istore_n (ls' := [.ref x, .long day, .retAddr 0, .int (nI ec)]) C dX8_edition_21 rfl (by decide) rfl (q := 22) rfl ?_
  refine aw_iload_n C dX8_edition_22 rfl rfl (q := 23) rfl ?_
  refine aw_if_lt (t := 31) (q := 26) C dX8_edition_23 (by decide) rfl (fun c_23 => absurd c_23 (nI_pos (by omega))) (fun c_23 => ?_)
  refine aw_iload_n C dX8_edition_26 rfl rfl (q := 27) rfl ?_
  refine aw_iconst (v := 4) C dX8_edition_27 (by decide) (q := 28) rfl ?_
  refine aw_icmp_lt (t := 41) (q := 31) C dX8_edition_28 (by decide) rfl (fun c_28 => ?_) (fun c_28 => ?_)
  ·
    have hc4 : ec < 4 := by rw [show (4 : Int32) = nI 4 from rfl, nI_ltI (by omega) (by decide)] at c_28; exact c_28
    refine aw_lload_n C dX8_edition_41 rfl rfl (q := 42) rfl ?_
    refine aw_lconst (v := 0) C dX8_edition_42 (by decide) (q := 43) rfl ?_
    refine aw_lcmp C dX8_edition_43 (q := 44) rfl ?_
    refine aw_if_lt (t := 64) (q := 47) C dX8_edition_44 (by decide) rfl (fun c_44 => ?_) (fun c_44 => ?_)
    ·
      refine aw_throw C B E9 (by rw [hl]; exact hst) thA st115 dX8_edition_64 dX8_edition_67 dX8_edition_68 dX8_edition_70 dX8_edition_73 (by show 2 + 3 < _; omega) (by show 13 * (2 + 1) + 43 ≤ _; omega) (by omega) (by omega) ?_
      exact Or.inr ⟨⟨hc4, fun z => z.1 c_44⟩, rfl, rfl⟩
    ·
      refine aw_iload_n C dX8_edition_47 rfl rfl (q := 48) rfl ?_
      refine aw_if_le (t := 74) (q := 51) C dX8_edition_48 (by decide) rfl (fun c_48 => ?_) (fun c_48 => ?_)
      ·
        refine aw_aload_n C dX8_edition_74 rfl rfl (q := 75) rfl ?_
        refine gfX8_61_8 (v := .ref e) C dX8_edition_75 K (hf7) (q := 78) rfl ?_
        refine aw_iload_n C dX8_edition_78 rfl rfl (q := 79) rfl ?_
        refine aw_aload_n C dX8_edition_79 rfl rfl (q := 80) rfl ?_
        refine gfX8_55_8 (v := .ref ra) C dX8_edition_80 K (hf6) (q := 83) rfl ?_
        refine ay_aast (j := ec) C dX8_edition_83 Ke Kr (vp_in_nI (by omega) (by decide)) (nI_clamp (by omega)) (q := 84) rfl ?_
        show aw G 4 M 84 [.ref x, .long day, .retAddr 0, .int (nI ec)] [] (ac_up h e (.inl (4, 4, .inr (.inr (.inr (.inr (va_up E ec (some ra)))))))) 0 0
        obtain ⟨h_1, eh_1⟩ : ∃ z9, z9 = ac_up h e (.inl (4, 4, .inr (.inr (.inr (.inr (va_up E ec (some ra))))))) := ⟨_, rfl⟩
        rw [← eh_1]
        have f_2 : h_1 x = some (.inr (8, fs)) := by rw [eh_1, ac_up_n _ _ (Ne.symm (ne_ai Ke K))]; exact K
        have f_3 : h_1 t = some (.inl (2, 4, .inr (.inl (dy)))) := by rw [eh_1, ac_up_n _ _ (Ne.symm (ne_of Ke Kt (fun z => by cases z)))]; exact Kt
        have f_4 : h_1 ra = some (.inr (6, fr)) := by rw [eh_1, ac_up_n _ _ (Ne.symm (ne_ai Ke Kr))]; exact Kr
        have f_5 : h_1 e = some (.inl (4, 4, .inr (.inr (.inr (.inr (va_up E ec (some ra))))))) := by rw [eh_1]; exact ac_up_s _ _ _
        have kp_6 : kp h h_1 [e] := by rw [eh_1]; exact kp_up (kp_cons e kp_rf) _ _ (by simp)
        refine aw_aload_n C dX8_edition_84 rfl rfl (q := 85) rfl ?_
        refine gfX8_65_8 (v := .ref t) C dX8_edition_85 f_2 (hf8) (q := 88) rfl ?_
        refine aw_iload_n C dX8_edition_88 rfl rfl (q := 89) rfl ?_
        refine aw_lload_n C dX8_edition_89 rfl rfl (q := 90) rfl ?_
        refine ay_last (j := ec) C dX8_edition_90 f_3 (vp_in_nI (by omega) (by decide)) (nI_clamp (by omega)) (q := 91) rfl ?_
        show aw G 4 M 91 [.ref x, .long day, .retAddr 0, .int (nI ec)] [] (ac_up h_1 t (.inl (2, 4, .inr (.inl (vp_updL dy ec day))))) 0 0
        obtain ⟨h_7, eh_7⟩ : ∃ z9, z9 = ac_up h_1 t (.inl (2, 4, .inr (.inl (vp_updL dy ec day)))) := ⟨_, rfl⟩
        rw [← eh_7]
        have f_8 : h_7 x = some (.inr (8, fs)) := by rw [eh_7, ac_up_n _ _ (Ne.symm (ne_ai Kt K))]; exact f_2
        have f_9 : h_7 e = some (.inl (4, 4, .inr (.inr (.inr (.inr (va_up E ec (some ra))))))) := by rw [eh_7, ac_up_n _ _ (ne_of Ke Kt (fun z => by cases z))]; exact f_5
        have f_10 : h_7 ra = some (.inr (6, fr)) := by rw [eh_7, ac_up_n _ _ (Ne.symm (ne_ai Kt Kr))]; exact f_4
        have f_11 : h_7 t = some (.inl (2, 4, .inr (.inl (vp_updL dy ec day)))) := by rw [eh_7]; exact ac_up_s _ _ _
        have kp_12 : kp h h_7 [t, e] := by rw [eh_7]; exact kp_up (kp_cons t kp_6) _ _ (by simp)
        refine aw_aload_n C dX8_edition_91 rfl rfl (q := 92) rfl ?_
        refine aw_iload_n C dX8_edition_92 rfl rfl (q := 93) rfl ?_
        refine aw_iconst (v := 1) C dX8_edition_93 (by decide) (q := 94) rfl ?_
        refine aw_iadd C dX8_edition_94 (q := 95) rfl ?_
        rw [show nI ec + 1 = nI (ec + 1) from nI_1 _]
        refine pfX8_69_8 C dX8_edition_95 f_8 rfl rfl hfl (q := 98) rfl ?_
        show aw G 4 M 98 [.ref x, .long day, .retAddr 0, .int (nI ec)] [] (ac_up h_7 x (.inr (8, fs.set 9 (.int (nI (ec + 1)))))) 0 0
        obtain ⟨h7, eh7⟩ : ∃ z9, z9 = ac_up h_7 x (.inr (8, fs.set 9 (.int (nI (ec + 1))))) := ⟨_, rfl⟩
        rw [← eh7]
        have gx7 : h7 x = some (.inr (8, fs.set 9 (.int (nI (ec + 1))))) := by rw [eh7]; exact ac_up_s _ _ _
        have kp7 : kp h h7 [x, e, t] := by rw [eh7]; exact kp_up (kp_mono kp_12 (by simp)) _ _ (by simp)
        have ge7 : h7 e = some (.inl (4, 4, .inr (.inr (.inr (.inr (va_up E ec (some ra))))))) := by rw [eh7, ac_up_n _ _ (ne_ai Ke K)]; exact f_9
        have gt7 : h7 t = some (.inl (2, 4, .inr (.inl (vp_updL dy ec day)))) := by rw [eh7, ac_up_n _ _ (ne_ai Kt K)]; exact f_11
        refine aw_aload_n C dX8_edition_98 rfl rfl (q := 99) rfl ?_
        refine gfX8_69_8 (v := .int (nI (ec + 1))) C dX8_edition_99 gx7 (by rw [List.getElem?_set_self hfl]) (q := 102) rfl ?_
        refine aw_iretX C E9 dX8_edition_102 (by omega) (by omega) ?_
        exact ⟨⟨hc4, c_44, Or.inl (by have := (nI_leI (a := ec) (b := 0) (by omega) (by decide)).mp c_48; exact this)⟩, rfl, gx7, ge7, gt7, kp7⟩
      ·
        refine aw_lload_n C dX8_edition_51 rfl rfl (q := 52) rfl ?_
        refine aw_aload_n C dX8_edition_52 rfl rfl (q := 53) rfl ?_
        refine gfX8_65_8 (v := .ref t) C dX8_edition_53 K (hf8) (q := 56) rfl ?_
        refine aw_iload_n C dX8_edition_56 rfl rfl (q := 57) rfl ?_
        refine aw_iconst (v := 1) C dX8_edition_57 (by decide) (q := 58) rfl ?_
        refine aw_isub C dX8_edition_58 (q := 59) rfl ?_
        refine ay_lald (j := ec - 1) C dX8_edition_59 Kt (by rw [show nI ec - 1 = nI (ec - 1) from by obtain ⟨z, rfl⟩ : ∃ z, ec = z + 1 := ⟨ec - 1, by have : ¬ ec ≤ 0 := fun y => c_48 (nI_le y (by decide)); omega⟩; exact nI_pred z]; exact vp_in_nI (by omega) (by decide)) (by rw [show nI ec - 1 = nI (ec - 1) from by obtain ⟨z, rfl⟩ : ∃ z, ec = z + 1 := ⟨ec - 1, by have : ¬ ec ≤ 0 := fun y => c_48 (nI_le y (by decide)); omega⟩; exact nI_pred z]; exact nI_clamp (by omega)) (q := 60) rfl ?_
        refine aw_lcmp C dX8_edition_60 (q := 61) rfl ?_
        refine aw_if_gt (t := 74) (q := 64) C dX8_edition_61 (by decide) rfl (fun c_61 => ?_) (fun c_61 => ?_)
        ·
          refine aw_aload_n C dX8_edition_74 rfl rfl (q := 75) rfl ?_
          refine gfX8_61_8 (v := .ref e) C dX8_edition_75 K (hf7) (q := 78) rfl ?_
          refine aw_iload_n C dX8_edition_78 rfl rfl (q := 79) rfl ?_
          refine aw_aload_n C dX8_edition_79 rfl rfl (q := 80) rfl ?_
          refine gfX8_55_8 (v := .ref ra) C dX8_edition_80 K (hf6) (q := 83) rfl ?_
          refine ay_aast (j := ec) C dX8_edition_83 Ke Kr (vp_in_nI (by omega) (by decide)) (nI_clamp (by omega)) (q := 84) rfl ?_
          show aw G 4 M 84 [.ref x, .long day, .retAddr 0, .int (nI ec)] [] (ac_up h e (.inl (4, 4, .inr (.inr (.inr (.inr (va_up E ec (some ra)))))))) 0 0
          obtain ⟨h_13, eh_13⟩ : ∃ z9, z9 = ac_up h e (.inl (4, 4, .inr (.inr (.inr (.inr (va_up E ec (some ra))))))) := ⟨_, rfl⟩
          rw [← eh_13]
          have f_14 : h_13 x = some (.inr (8, fs)) := by rw [eh_13, ac_up_n _ _ (Ne.symm (ne_ai Ke K))]; exact K
          have f_15 : h_13 t = some (.inl (2, 4, .inr (.inl (dy)))) := by rw [eh_13, ac_up_n _ _ (Ne.symm (ne_of Ke Kt (fun z => by cases z)))]; exact Kt
          have f_16 : h_13 ra = some (.inr (6, fr)) := by rw [eh_13, ac_up_n _ _ (Ne.symm (ne_ai Ke Kr))]; exact Kr
          have f_17 : h_13 e = some (.inl (4, 4, .inr (.inr (.inr (.inr (va_up E ec (some ra))))))) := by rw [eh_13]; exact ac_up_s _ _ _
          have kp_18 : kp h h_13 [e] := by rw [eh_13]; exact kp_up (kp_cons e kp_rf) _ _ (by simp)
          refine aw_aload_n C dX8_edition_84 rfl rfl (q := 85) rfl ?_
          refine gfX8_65_8 (v := .ref t) C dX8_edition_85 f_14 (hf8) (q := 88) rfl ?_
          refine aw_iload_n C dX8_edition_88 rfl rfl (q := 89) rfl ?_
          refine aw_lload_n C dX8_edition_89 rfl rfl (q := 90) rfl ?_
          refine ay_last (j := ec) C dX8_edition_90 f_15 (vp_in_nI (by omega) (by decide)) (nI_clamp (by omega)) (q := 91) rfl ?_
          show aw G 4 M 91 [.ref x, .long day, .retAddr 0, .int (nI ec)] [] (ac_up h_13 t (.inl (2, 4, .inr (.inl (vp_updL dy ec day))))) 0 0
          obtain ⟨h_19, eh_19⟩ : ∃ z9, z9 = ac_up h_13 t (.inl (2, 4, .inr (.inl (vp_updL dy ec day)))) := ⟨_, rfl⟩
          rw [← eh_19]
          have f_20 : h_19 x = some (.inr (8, fs)) := by rw [eh_19, ac_up_n _ _ (Ne.symm (ne_ai Kt K))]; exact f_14
          have f_21 : h_19 e = some (.inl (4, 4, .inr (.inr (.inr (.inr (va_up E ec (some ra))))))) := by rw [eh_19, ac_up_n _ _ (ne_of Ke Kt (fun z => by cases z))]; exact f_17
          have f_22 : h_19 ra = some (.inr (6, fr)) := by rw [eh_19, ac_up_n _ _ (Ne.symm (ne_ai Kt Kr))]; exact f_16
          have f_23 : h_19 t = some (.inl (2, 4, .inr (.inl (vp_updL dy ec day)))) := by rw [eh_19]; exact ac_up_s _ _ _
          have kp_24 : kp h h_19 [t, e] := by rw [eh_19]; exact kp_up (kp_cons t kp_18) _ _ (by simp)
          refine aw_aload_n C dX8_edition_91 rfl rfl (q := 92) rfl ?_
          refine aw_iload_n C dX8_edition_92 rfl rfl (q := 93) rfl ?_
          refine aw_iconst (v := 1) C dX8_edition_93 (by decide) (q := 94) rfl ?_
          refine aw_iadd C dX8_edition_94 (q := 95) rfl ?_
          rw [show nI ec + 1 = nI (ec + 1) from nI_1 _]
          refine pfX8_69_8 C dX8_edition_95 f_20 rfl rfl hfl (q := 98) rfl ?_
          show aw G 4 M 98 [.ref x, .long day, .retAddr 0, .int (nI ec)] [] (ac_up h_19 x (.inr (8, fs.set 9 (.int (nI (ec + 1)))))) 0 0
          obtain ⟨h7, eh7⟩ : ∃ z9, z9 = ac_up h_19 x (.inr (8, fs.set 9 (.int (nI (ec + 1))))) := ⟨_, rfl⟩
          rw [← eh7]
          have gx7 : h7 x = some (.inr (8, fs.set 9 (.int (nI (ec + 1))))) := by rw [eh7]; exact ac_up_s _ _ _
          have kp7 : kp h h7 [x, e, t] := by rw [eh7]; exact kp_up (kp_mono kp_24 (by simp)) _ _ (by simp)
          have ge7 : h7 e = some (.inl (4, 4, .inr (.inr (.inr (.inr (va_up E ec (some ra))))))) := by rw [eh7, ac_up_n _ _ (ne_ai Ke K)]; exact f_21
          have gt7 : h7 t = some (.inl (2, 4, .inr (.inl (vp_updL dy ec day)))) := by rw [eh7, ac_up_n _ _ (ne_ai Kt K)]; exact f_23
          refine aw_aload_n C dX8_edition_98 rfl rfl (q := 99) rfl ?_
          refine gfX8_69_8 (v := .int (nI (ec + 1))) C dX8_edition_99 gx7 (by rw [List.getElem?_set_self hfl]) (q := 102) rfl ?_
          refine aw_iretX C E9 dX8_edition_102 (by omega) (by omega) ?_
          exact ⟨⟨hc4, c_44, Or.inr c_61⟩, rfl, gx7, ge7, gt7, kp7⟩
        ·
          refine aw_throw C B E9 (by rw [hl]; exact hst) thA st115 dX8_edition_64 dX8_edition_67 dX8_edition_68 dX8_edition_70 dX8_edition_73 (by show 2 + 3 < _; omega) (by show 13 * (2 + 1) + 43 ≤ _; omega) (by omega) (by omega) ?_
          exact Or.inr ⟨⟨hc4, fun z => z.2.elim (fun y => absurd (nI_le y (by decide)) c_48) c_61⟩, rfl, rfl⟩
  ·
    refine aw_throw C B E9 (by rw [hl]; exact hst) thS st113 dX8_edition_31 dX8_edition_34 dX8_edition_35 dX8_edition_37 dX8_edition_40 (by show 2 + 3 < _; omega) (by show 13 * (2 + 1) + 43 ≤ _; omega) (by omega) (by omega) ?_
    exact Or.inl ⟨by rw [show (4 : Int32) = nI 4 from rfl, nI_ltI (by omega) (by decide)] at c_28; exact c_28, rfl, rfl⟩
