/-! GradeTexts: unit, read, write, why, open -/
theorem gt_chr0 : ∀ j, j < 127 → ((nI j).toUInt32 % 65536).toInt32 = nI j ∧ vp_nar .char (nI j) = nI j := by decide +kernel
theorem gt_chr {v : Int32} (h1 : ¬ v < 33) (h2 : ¬ 126 < v) : (v.toUInt32 % 65536).toInt32 = v ∧ vp_nar .char v = v := by
  have e1 : (33 : Int) ≤ v.toInt := by
    have := Int32.not_lt.mp h1
    rw [Int32.le_iff_toInt_le] at this
    exact this
  have e2 : v.toInt ≤ 126 := by
    have := Int32.not_lt.mp h2
    rw [Int32.le_iff_toInt_le] at this
    exact this
  obtain ⟨j, hj⟩ : ∃ j : Nat, v.toInt = (j : Int) := ⟨v.toInt.toNat, by omega⟩
  have e3 : v = nI j := by
    apply Int32.toInt_inj.mp
    rw [nI_toInt (by omega), hj]
  rw [e3]
  exact gt_chr0 j (by omega)
set_option maxHeartbeats 4000000 in
set_option maxRecDepth 100000 in
theorem c_unit (G : ac_G) (l : Launch) (h : ac_H) (d : Nat) (x : Nat) (fs : List Value) (K : h x = some (.inr (8, fs))) (r u dr len a : Nat) (f D : Nat → Int32) (v4 : Value) (hf : fs[1]? = some (.ref r)) (k1 : h r = some (cu_ob 3 u len a (.ref dr) v4)) (k2 : h u = some (.inl (0, 300, .inl f))) (k3 : h dr = some (.inl (3, 300, .inl D))) (hlen : len ≤ 300) (v : Int32) : ac_Met G l yX8_unit cX8_unit 2 (some .boolean) (d + 4) 0 0 [.ref x, .int v] h (fun r9 h9 => r9 = some (.int (pb_b (¬ v < 33 ∧ ¬ 126 < v ∧ len < 300))) ∧ ((¬ v < 33 ∧ ¬ 126 < v ∧ len < 300) → h9 r = some (cu_ob 3 u (len + 1) a (.ref dr) v4) ∧ h9 u = some (.inl (0, 300, .inl (upd f len v))) ∧ h9 dr = some (.inl (3, 300, .inl (rs_di D (nI len) 0))) ∧ kp h h9 [r, u, dr]) ∧ (¬ (¬ v < 33 ∧ ¬ 126 < v ∧ len < 300) → h9 = h)) := by
  refine ac_of (ls := [.ref x, .int v]) (by decide +kernel) rfl (Nat.le_of_ble_eq_true rfl) (fun M hl C B E hnm => ?_)
  refine aw_iload_n C dX8_unit_0 rfl rfl (q := 1) rfl ?_
  refine aw_bipush (v := 33) C dX8_unit_1 (by decide) (q := 3) rfl ?_
  refine aw_icmp_lt (t := 28) (q := 6) C dX8_unit_3 (by decide) rfl (fun c_3 => ?_) (fun c_3 => ?_)
  ·
    refine aw_iconst (v := 0) C dX8_unit_28 (by decide) (q := 29) rfl ?_
    refine aw_zret C E dX8_unit_29 (rfl) (Nat.le_refl _) (Nat.le_refl _) ?_
    exact ⟨by unfold pb_b; rw [if_neg (fun z => z.1 c_3)], (fun z => absurd c_3 z.1), fun _ => rfl⟩
  ·
    refine aw_iload_n C dX8_unit_6 rfl rfl (q := 7) rfl ?_
    refine aw_bipush (v := 126) C dX8_unit_7 (by decide) (q := 9) rfl ?_
    refine aw_icmp_gt (t := 28) (q := 12) C dX8_unit_9 (by decide) rfl (fun c_9 => ?_) (fun c_9 => ?_)
    ·
      refine aw_iconst (v := 0) C dX8_unit_28 (by decide) (q := 29) rfl ?_
      refine aw_zret C E dX8_unit_29 (rfl) (Nat.le_refl _) (Nat.le_refl _) ?_
      exact ⟨by unfold pb_b; rw [if_neg (fun z => z.2.1 c_9)], (fun z => absurd c_9 z.2.1), fun _ => rfl⟩
    ·
      refine aw_aload_n C dX8_unit_12 rfl rfl (q := 13) rfl ?_
      refine gfX8_19_8 (v := .ref r) C dX8_unit_13 K (hf) (q := 16) rfl ?_
      refine aw_iload_n C dX8_unit_16 rfl rfl (q := 17) rfl ?_
      refine aw_i2c C dX8_unit_17 (q := 18) rfl ?_
      have hch := gt_chr c_3 c_9
      rw [hch.1]
      refine cvX8_80_3 (As := [.int v]) (rest := []) C B dX8_unit_18 k1 (c_appendU G M.2.1 h d r u dr len a f D v4 k1 k2 k3 hlen v hch.2) rfl rfl (Nat.le_of_ble_eq_true rfl) (by omega) (by omega) (by omega) (q := 21) rfl (fun r9 h5 hr9 => ?_)
      obtain ⟨er9, y1, y2⟩ := hr9
      subst er9
      show aw G 2 M 21 [.ref x, .int v] [.int (pb_b (len < 300))] h5 0 0
      refine aw_if_eq (t := 28) (q := 24) C dX8_unit_21 (by decide) rfl (fun c_21 => ?_) (fun c_21 => ?_)
      ·
        refine aw_iconst (v := 0) C dX8_unit_28 (by decide) (q := 29) rfl ?_
        refine aw_zret C E dX8_unit_29 (rfl) (Nat.le_refl _) (Nat.le_refl _) ?_
        exact ⟨by unfold pb_b; rw [if_neg (fun z => pb_0.mp c_21 z.2.2)], (fun z => absurd z.2.2 (pb_0.mp c_21)), fun _ => y2 (pb_0.mp c_21)⟩
      ·
        refine aw_iconst (v := 1) C dX8_unit_24 (by decide) (q := 25) rfl ?_
        refine aw_goto (q := 29) C dX8_unit_25 (by decide) ?_
        refine aw_zret C E dX8_unit_29 (rfl) (Nat.le_refl _) (Nat.le_refl _) ?_
        exact ⟨by unfold pb_b; rw [if_pos ⟨c_3, c_9, pb_n c_21⟩], (fun _ => y1 (pb_n c_21)), fun z => absurd ⟨c_3, c_9, pb_n c_21⟩ z⟩
theorem ru_kp2 {h h9 : ac_H} {rd : Nat → Nat} {T : ru_D} {r x : Nat} {y1 y2 : Nat × List Value} (U : ru_ok h rd T) (kq : kp h h9 [r, x]) (n1 : rd 0 ≠ r) (n2 : rd 0 ≠ x) (g1 : h r = some (.inr y1)) (g2 : h x = some (.inr y2)) : ru_ok h9 rd T := by
  obtain ⟨u0, u1, u2, u3, u4, u5⟩ := U
  exact ⟨kq _ _ u0 (ni1 n1 (ni1 n2 ni0)), kq _ _ u1 (ni1 (ne_ai u1 g1) (ni1 (ne_ai u1 g2) ni0)), kq _ _ u2 (ni1 (ne_ai u2 g1) (ni1 (ne_ai u2 g2) ni0)), kq _ _ u3 (ni1 (ne_ai u3 g1) (ni1 (ne_ai u3 g2) ni0)), kq _ _ u4 (ni1 (ne_ai u4 g1) (ni1 (ne_ai u4 g2) ni0)), kq _ _ u5 (ni1 (ne_ai u5 g1) (ni1 (ne_ai u5 g2) ni0))⟩
def gt_RQ (h : ac_H) (x r u dr : Nat) (fs : List Value) (f : Nat → Int32) (len : Nat) (R : rs_B) : Option Value → ac_H → Prop := fun r9 h9 => ∃ rd : Nat → Nat, (∀ j, j < 6 → h (rd j) = none) ∧ inj rd 6 ∧ h9 r = some (cu_ob 3 u 0 R.2.1 (.ref dr) (.ref (rd 0))) ∧ h9 u = some (.inl (0, 300, .inl f)) ∧ h9 dr = some (.inl (3, 300, .inl R.2.2.1)) ∧ R.2.1 ≤ len ∧ ru_bd R.2.2.2 ∧
  (R.1 = true → r9 = some (.int (nI (ru_cnt R.2.2.2))) ∧ ru_ok h9 rd (ru_fin R.2.2.2 (rs_prt f R.2.2.1 len).1 (rs_prt f R.2.2.1 len).2) ∧ h9 x = some (.inr (8, fs.set 6 (.ref (rd 0)))) ∧ kp h h9 [r, dr, x]) ∧ (R.1 = false → r9 = some (.int (-1 - nI R.2.1)) ∧ h9 x = some (.inr (8, fs)) ∧ kp h h9 [r, dr])
set_option maxHeartbeats 4000000 in
set_option maxRecDepth 100000 in
theorem c_read (G : ac_G) (l : Launch) (h : ac_H) (d : Nat) (x : Nat) (fs : List Value) (K : h x = some (.inr (8, fs))) (r u dr len a : Nat) (f D : Nat → Int32) (v4 : Value) (hf : fs[1]? = some (.ref r)) (k1 : h r = some (cu_ob 3 u len a (.ref dr) v4)) (k2 : h u = some (.inl (0, 300, .inl f))) (k3 : h dr = some (.inl (3, 300, .inl D))) (hlen : len ≤ 300) (hfl : 6 < fs.length) (hfc : cu_ch f) : ac_Met G l yX8_read cX8_read 3 (some .int) (d + 62) 7 (332 + 2 * len) [.ref x] h (gt_RQ h x r u dr fs f len (rs_rules f len 12 (0, D, ru_new len))) := by
  refine ac_of (ls := [.ref x, .retAddr 0, .retAddr 0]) (by decide +kernel) rfl (Nat.le_of_ble_eq_true rfl) (fun M hl C B E hnm => ?_)
  refine aw_aload_n C dX8_read_0 rfl rfl (q := 1) rfl ?_
  refine gfX8_19_8 (v := .ref r) C dX8_read_1 K (hf) (q := 4) rfl ?_
  refine cvX8_84_3 (As := []) (rest := []) C B dX8_read_4 k1 (c_parse G M.2.1 h d r u dr len a f D v4 k1 k2 k3 hlen hfc) rfl rfl (Nat.le_of_ble_eq_true rfl) (by omega) (by omega) (by omega) (q := 7) rfl (fun r9 h5 hr9 => ?_)
  obtain ⟨rd, hfr, hr, g1, g2, g3, kp5, hal, hbd, yt, yf⟩ := hr9
  obtain ⟨R, eR⟩ : ∃ z, z = rs_rules f len 12 (0, D, ru_new len) := ⟨_, rfl⟩
  rw [← eR] at g1 g3 hal hbd yt yf
  have nx : ∀ e, h5 x = some e → True := fun _ _ => trivial
  have Kx : h5 x = some (.inr (8, fs)) := kp5 _ _ K (ni1 (ne_of K k1 (fun z => by cases z)) (ni1 (Ne.symm (ne_ai k3 K)) ni0))
  have nxr : x ≠ r := ne_of K k1 (fun z => by cases z)
  have nur : u ≠ r := ne_ai k2 k1
  have ndr : dr ≠ r := ne_ai k3 k1
  have nux : u ≠ x := ne_ai k2 K
  have ndx : dr ≠ x := ne_ai k3 K
  have hR1 : R.1 = true ∨ R.1 = false := by cases R.1; exact Or.inr rfl; exact Or.inl rfl
  rcases hR1 with hR1 | hR1
  ·
    obtain ⟨er9, U5⟩ := yt hR1
    subst er9
    show aw G 3 M 7 [.ref x, .retAddr 0, .retAddr 0] [.ref (rd 0)] h5 (0 + 7) (0 + (332 + 2 * len))
    refine aw_astore_n (ls' := [.ref x, .ref (rd 0), .retAddr 0]) C dX8_read_7 rfl (by decide) rfl (q := 8) rfl ?_
    refine aw_aload_n C dX8_read_8 rfl rfl (q := 9) rfl ?_
    refine aw_ifnonnull (r := (some (rd 0))) (t := 24) (q := 12) C dX8_read_9 (by decide) rfl (fun _ _ => ?_) (fun z => nomatch z)
    refine aw_aload_n C dX8_read_24 rfl rfl (q := 25) rfl ?_
    refine gfX8_91_6 (v := .int (nI (ru_cnt R.2.2.2))) C dX8_read_25 U5.1 rfl (q := 28) rfl ?_
    refine aw_istore_n (ls' := [.ref x, .ref (rd 0), .int (nI (ru_cnt R.2.2.2))]) C dX8_read_28 rfl (by decide) rfl (q := 29) rfl ?_
    refine aw_aload_n C dX8_read_29 rfl rfl (q := 30) rfl ?_
    refine gfX8_19_8 (v := .ref r) C dX8_read_30 Kx (hf) (q := 33) rfl ?_
    refine aw_iconst (v := 0) C dX8_read_33 (by decide) (q := 34) rfl ?_
    refine pfX8_94_3 C dX8_read_34 g1 rfl rfl (Nat.le_of_ble_eq_true rfl) (q := 37) rfl ?_
    show aw G 3 M 37 [.ref x, .ref (rd 0), .int (nI (ru_cnt R.2.2.2))] [] (ac_up h5 r (.inr (3, [.ref u, .int 0, .int (nI R.2.1), .ref dr, .ref (rd 0)]))) (0 + 7) (0 + (332 + 2 * len))
    obtain ⟨h_1, eh_1⟩ : ∃ z9, z9 = ac_up h5 r (.inr (3, [.ref u, .int 0, .int (nI R.2.1), .ref dr, .ref (rd 0)])) := ⟨_, rfl⟩
    rw [← eh_1]
    have f_2 : h_1 x = some (.inr (8, fs)) := by rw [eh_1, ac_up_n _ _ nxr]; exact Kx
    have f_3 : h_1 (rd 0) = some (.inr (6, [.int (nI (ru_cnt R.2.2.2)), .int (nI (ru_sc R.2.2.2)), .ref (rd 1), .ref (rd 2), .ref (rd 3), .ref (rd 4), .ref (rd 5)])) := by rw [eh_1, ac_up_n _ _ (ne_of U5.1 g1 (fun z => by cases z))]; exact U5.1
    have f_4 : h_1 r = some (.inr (3, [.ref u, .int 0, .int (nI R.2.1), .ref dr, .ref (rd 0)])) := by rw [eh_1]; exact ac_up_s _ _ _
    have kp_5 : kp h5 h_1 [r] := by rw [eh_1]; exact kp_up (kp_cons r kp_rf) _ _ (by simp)
    refine aw_aload_n C dX8_read_37 rfl rfl (q := 38) rfl ?_
    refine aw_ifnull (r := (some (rd 0))) (t := 46) (q := 41) C dX8_read_38 (by decide) rfl (fun z => nomatch z) (fun _ _ => ?_)
    refine aw_aload_n C dX8_read_41 rfl rfl (q := 42) rfl ?_
    refine aw_aload_n C dX8_read_42 rfl rfl (q := 43) rfl ?_
    refine pfX8_55_8 C dX8_read_43 f_2 rfl rfl hfl (q := 46) rfl ?_
    show aw G 3 M 46 [.ref x, .ref (rd 0), .int (nI (ru_cnt R.2.2.2))] [] (ac_up h_1 x (.inr (8, fs.set 6 (.ref (rd 0))))) (0 + 7) (0 + (332 + 2 * len))
    obtain ⟨h7, eh7⟩ : ∃ z9, z9 = ac_up h_1 x (.inr (8, fs.set 6 (.ref (rd 0)))) := ⟨_, rfl⟩
    rw [← eh7]
    refine aw_iload_n C dX8_read_46 rfl rfl (q := 47) rfl ?_
    refine aw_iret C E dX8_read_47 (by omega) (by omega) ?_
    rw [← eR]
    have q1 : kp h5 h7 [r, x] := by rw [eh7]; exact kp_up (kp_mono kp_5 (by simp)) _ _ (by simp)
    have U7 : ru_ok h7 rd _ := ru_kp2 U5 q1 (ne_of U5.1 g1 (fun z => by cases z)) (ne_of U5.1 Kx (fun z => by cases z)) g1 Kx
    refine ⟨rd, hfr, hr, ?_, ?_, ?_, hal, hbd, (fun _ => ⟨rfl, U7, by rw [eh7]; exact ac_up_s _ _ _, kp_mono (kp_tr kp5 q1) (by simp)⟩), fun z => by rw [hR1] at z; cases z⟩
    · rw [eh7, ac_up_n _ _ nxr.symm]; exact f_4
    · exact q1 _ _ g2 (ni1 nur (ni1 nux ni0))
    · exact q1 _ _ g3 (ni1 ndr (ni1 ndx ni0))
  ·
    have er9 := yf hR1
    subst er9
    show aw G 3 M 7 [.ref x, .retAddr 0, .retAddr 0] [.null] h5 (0 + 7) (0 + (332 + 2 * len))
    refine aw_astore_nQ (r := none) (ls' := [.ref x, .null, .retAddr 0]) C dX8_read_7 rfl (by decide) rfl (q := 8) rfl ?_
    refine aw_aload_nQ (r := none) C dX8_read_8 rfl rfl (q := 9) rfl ?_
    refine aw_ifnonnull (r := none) (t := 24) (q := 12) C dX8_read_9 (by decide) rfl (fun _ z => nomatch z) (fun _ => ?_)
    refine aw_iconst (v := (-1)) C dX8_read_12 (by decide) (q := 13) rfl ?_
    refine aw_aload_n C dX8_read_13 rfl rfl (q := 14) rfl ?_
    refine gfX8_19_8 (v := .ref r) C dX8_read_14 Kx (hf) (q := 17) rfl ?_
    refine gfX8_88_3 (v := .int (nI R.2.1)) C dX8_read_17 g1 rfl (q := 20) rfl ?_
    refine aw_isub C dX8_read_20 (q := 21) rfl ?_
    refine aw_goto (q := 28) C dX8_read_21 (by decide) ?_
    refine aw_istore_n (ls' := [.ref x, .null, .int (((-1)) - (nI R.2.1))]) C dX8_read_28 rfl (by decide) rfl (q := 29) rfl ?_
    refine aw_aload_n C dX8_read_29 rfl rfl (q := 30) rfl ?_
    refine gfX8_19_8 (v := .ref r) C dX8_read_30 Kx (hf) (q := 33) rfl ?_
    refine aw_iconst (v := 0) C dX8_read_33 (by decide) (q := 34) rfl ?_
    refine pfX8_94_3 C dX8_read_34 g1 rfl rfl (Nat.le_of_ble_eq_true rfl) (q := 37) rfl ?_
    show aw G 3 M 37 [.ref x, .null, .int (((-1)) - (nI R.2.1))] [] (ac_up h5 r (.inr (3, [.ref u, .int 0, .int (nI R.2.1), .ref dr, .ref (rd 0)]))) (0 + 7) (0 + (332 + 2 * len))
    obtain ⟨h_6, eh_6⟩ : ∃ z9, z9 = ac_up h5 r (.inr (3, [.ref u, .int 0, .int (nI R.2.1), .ref dr, .ref (rd 0)])) := ⟨_, rfl⟩
    rw [← eh_6]
    have f_7 : h_6 x = some (.inr (8, fs)) := by rw [eh_6, ac_up_n _ _ nxr]; exact Kx
    have f_8 : h_6 r = some (.inr (3, [.ref u, .int 0, .int (nI R.2.1), .ref dr, .ref (rd 0)])) := by rw [eh_6]; exact ac_up_s _ _ _
    have kp_9 : kp h5 h_6 [r] := by rw [eh_6]; exact kp_up (kp_cons r kp_rf) _ _ (by simp)
    refine aw_aload_nQ (r := none) C dX8_read_37 rfl rfl (q := 38) rfl ?_
    refine aw_ifnull (r := none) (t := 46) (q := 41) C dX8_read_38 (by decide) rfl (fun _ => ?_) (fun _ z => nomatch z)
    refine aw_iload_n C dX8_read_46 rfl rfl (q := 47) rfl ?_
    refine aw_iret C E dX8_read_47 (by omega) (by omega) ?_
    rw [← eR]
    refine ⟨rd, hfr, hr, f_8, kp_9 _ _ g2 (ni1 nur ni0), kp_9 _ _ g3 (ni1 ndr ni0), hal, hbd, (fun z => by rw [hR1] at z; cases z), fun _ => ⟨rfl, f_7, kp_mono (kp_tr kp5 kp_9) (by simp)⟩⟩
set_option maxHeartbeats 4000000 in
set_option maxRecDepth 100000 in
theorem c_write0 (G : ac_G) (l : Launch) (h : ac_H) (d : Nat) (x : Nat) (fs : List Value) (K : h x = some (.inr (8, fs))) (hf : fs[6]? = some .null) (i : Int32) (hst : l.stackTraces = false) : ac_MetX G l yX8_write cX8_write 3 (some .int) (d + 10) 1 6 [.ref x, .int i] h (fun _ _ => False) (fun E9 h9 => E9 = "java/lang/IllegalStateException" ∧ h9 = h) := by
  refine ac_ofX (ls := [.ref x, .int i, .retAddr 0]) (by decide +kernel) rfl (Nat.le_of_ble_eq_true rfl) (fun M hl C B E hnm => ?_)
  refine aw_aload_n C dX8_write_0 rfl rfl (q := 1) rfl ?_
  refine gfX8_55_8 (v := .null) C dX8_write_1 K (hf) (q := 4) rfl ?_
  refine aw_astore_nQ (r := none) (ls' := [.ref x, .int i, .null]) C dX8_write_4 rfl (by decide) rfl (q := 5) rfl ?_
  refine aw_aload_nQ (r := none) C dX8_write_5 rfl rfl (q := 6) rfl ?_
  refine aw_ifnonnull (r := none) (t := 19) (q := 9) C dX8_write_6 (by decide) rfl (fun _ z => nomatch z) (fun _ => ?_)
  refine aw_throw C B E (by rw [hl]; exact hst) thS st99 dX8_write_9 dX8_write_12 dX8_write_13 dX8_write_15 dX8_write_18 (by show 2 + 3 < _; omega) (by show 13 * (2 + 1) + 43 ≤ _; omega) (by omega) (by omega) ?_
  exact ⟨rfl, rfl⟩
set_option maxHeartbeats 4000000 in
set_option maxRecDepth 100000 in
theorem c_write1 (G : ac_G) (l : Launch) (h : ac_H) (d : Nat) (x : Nat) (fs : List Value) (K : h x = some (.inr (8, fs))) (ra p np : Nat) (fr : List Value) (f : Nat → Int32) (hf : fs[6]? = some (.ref ra)) (Kr : h ra = some (.inr (6, fr))) (hfr : fr[6]? = some (.ref p)) (Kpp : h p = some (.inl (0, np, .inl f))) (hnp : np ≤ 300) (i : Int32) (hst : l.stackTraces = false) : ac_MetX G l yX8_write cX8_write 3 (some .int) (d + 10) 1 6 [.ref x, .int i] h (fun r9 h9 => ¬ i < 0 ∧ r9 = some (.int (if i < nI np then f i.toNatClampNeg else -1)) ∧ h9 = h) (fun E9 h9 => i < 0 ∧ E9 = "java/lang/IllegalArgumentException" ∧ h9 = h) := by
  refine ac_ofX (ls := [.ref x, .int i, .retAddr 0]) (by decide +kernel) rfl (Nat.le_of_ble_eq_true rfl) (fun M hl C B E hnm => ?_)
  refine aw_aload_n C dX8_write_0 rfl rfl (q := 1) rfl ?_
  refine gfX8_55_8 (v := .ref ra) C dX8_write_1 K (hf) (q := 4) rfl ?_
  refine aw_astore_n (ls' := [.ref x, .int i, .ref ra]) C dX8_write_4 rfl (by decide) rfl (q := 5) rfl ?_
  refine aw_aload_n C dX8_write_5 rfl rfl (q := 6) rfl ?_
  refine aw_ifnonnull (r := (some ra)) (t := 19) (q := 9) C dX8_write_6 (by decide) rfl (fun _ _ => ?_) (fun z => nomatch z)
  refine aw_iload_n C dX8_write_19 rfl rfl (q := 20) rfl ?_
  refine aw_if_ge (t := 33) (q := 23) C dX8_write_20 (by decide) rfl (fun c_20 => ?_) (fun c_20 => ?_)
  ·
    refine aw_iload_n C dX8_write_33 rfl rfl (q := 34) rfl ?_
    refine aw_aload_n C dX8_write_34 rfl rfl (q := 35) rfl ?_
    refine gfX8_109_6 (v := .ref p) C dX8_write_35 Kr (hfr) (q := 38) rfl ?_
    refine aw_alen (v := nI np) C dX8_write_38 Kpp rfl rfl (q := 39) rfl ?_
    refine aw_icmp_ge (t := 51) (q := 42) C dX8_write_39 (by decide) rfl (fun c_39 => ?_) (fun c_39 => ?_)
    ·
      refine aw_iconst (v := (-1)) C dX8_write_51 (by decide) (q := 52) rfl ?_
      refine aw_iretX C E dX8_write_52 (by omega) (by omega) ?_
      exact ⟨Int32.not_lt.mpr c_20, by rw [if_neg (Int32.not_lt.mpr c_39)], rfl⟩
    ·
      obtain ⟨j, hj0, ej⟩ := nI_of (show ¬ i < 0 from fun z => absurd c_20 (by rw [Int32.not_le]; exact z))
      have hj : j < np := by rw [ej] at c_39; exact ni_nle j np rfl rfl hj0 (by omega) c_39
      refine aw_aload_n C dX8_write_42 rfl rfl (q := 43) rfl ?_
      refine gfX8_109_6 (v := .ref p) C dX8_write_43 Kr (hfr) (q := 46) rfl ?_
      refine aw_iload_n C dX8_write_46 rfl rfl (q := 47) rfl ?_
      refine ay_cald (j := i.toNatClampNeg) C dX8_write_47 Kpp (by rw [ej]; exact vp_in_nI hj (by omega)) (rfl) (q := 48) rfl ?_
      refine aw_goto (q := 52) C dX8_write_48 (by decide) ?_
      refine aw_iretX C E dX8_write_52 (by omega) (by omega) ?_
      exact ⟨Int32.not_lt.mpr c_20, by rw [if_pos (Int32.not_le.mp c_39)], rfl⟩
  ·
    refine aw_throw C B E (by rw [hl]; exact hst) thA st106 dX8_write_23 dX8_write_26 dX8_write_27 dX8_write_29 dX8_write_32 (by show 2 + 3 < _; omega) (by show 13 * (2 + 1) + 43 ≤ _; omega) (by omega) (by omega) ?_
    exact ⟨Int32.not_le.mp c_20, rfl, rfl⟩
set_option maxHeartbeats 4000000 in
set_option maxRecDepth 100000 in
theorem c_why0 (G : ac_G) (l : Launch) (h : ac_H) (d : Nat) (x : Nat) (fs : List Value) (K : h x = some (.inr (8, fs))) (ad : Nat → Nat) (an : inj ad 26) (hf : fs[4]? = some (.ref (ad 14))) (oc rc : Nat) (O : Nat → Nat → Int32) (Rp : rp_ok h ad .null oc rc O) (g k : Int32) (hst : l.stackTraces = false) : ac_MetX G l yX8_why cX8_why 3 (some .int) (d + 10) 1 6 [.ref x, .int g, .int k] h (fun _ _ => False) (fun E9 h9 => E9 = "java/lang/IllegalStateException" ∧ h9 = h) := by
  refine ac_ofX (ls := [.ref x, .int g, .int k]) (by decide +kernel) rfl (Nat.le_of_ble_eq_true rfl) (fun M hl C B E hnm => ?_)
  refine aw_aload_n C dX8_why_0 rfl rfl (q := 1) rfl ?_
  refine gfX8_42_8 (v := .ref (ad 14)) C dX8_why_1 K (hf) (q := 4) rfl ?_
  refine gfX8_170_5 (v := .null) C dX8_why_4 Rp.1 rfl (q := 7) rfl ?_
  refine aw_ifnonnull (r := none) (t := 20) (q := 10) C dX8_why_7 (by decide) rfl (fun _ z => nomatch z) (fun _ => ?_)
  refine aw_throw C B E (by rw [hl]; exact hst) thS st173 dX8_why_10 dX8_why_13 dX8_why_14 dX8_why_16 dX8_why_19 (by show 2 + 3 < _; omega) (by show 13 * (2 + 1) + 43 ≤ _; omega) (by omega) (by omega) ?_
  exact ⟨rfl, rfl⟩
set_option maxHeartbeats 4000000 in
set_option maxRecDepth 100000 in
theorem c_why1 (G : ac_G) (l : Launch) (h : ac_H) (d : Nat) (x : Nat) (fs : List Value) (K : h x = some (.inr (8, fs))) (ad : Nat → Nat) (an : inj ad 26) (hf : fs[4]? = some (.ref (ad 14))) (oc rc : Nat) (O : Nat → Nat → Int32) (rd : Nat → Nat) (T : ru_D) (Rp : rp_ok h ad (.ref (rd 0)) oc rc O) (U : ru_ok h rd T) (hrc : rc ≤ 12) (g k : Int32) (hst : l.stackTraces = false) : ac_MetX G l yX8_why cX8_why 3 (some .int) (d + 10) 1 6 [.ref x, .int g, .int k] h (fun r9 h9 => (gt_bl g 10 ∧ ¬ k < 0) ∧ r9 = some (.int (rp_held (ru_g T) (O 18) g rc 0 k)) ∧ h9 = h) (fun E9 h9 => ¬ (gt_bl g 10 ∧ ¬ k < 0) ∧ E9 = "java/lang/IllegalArgumentException" ∧ h9 = h) := by
  refine ac_ofX (ls := [.ref x, .int g, .int k]) (by decide +kernel) rfl (Nat.le_of_ble_eq_true rfl) (fun M hl C B E hnm => ?_)
  refine aw_aload_n C dX8_why_0 rfl rfl (q := 1) rfl ?_
  refine gfX8_42_8 (v := .ref (ad 14)) C dX8_why_1 K (hf) (q := 4) rfl ?_
  refine gfX8_170_5 (v := .ref (rd 0)) C dX8_why_4 Rp.1 rfl (q := 7) rfl ?_
  refine aw_ifnonnull (r := (some (rd 0))) (t := 20) (q := 10) C dX8_why_7 (by decide) rfl (fun _ _ => ?_) (fun z => nomatch z)
  refine aw_iload_n C dX8_why_20 rfl rfl (q := 21) rfl ?_
  refine aw_bipush (v := 10) C dX8_why_21 (by decide) (q := 23) rfl ?_
  refine csX8_127 (As := [.int g, .int 10]) (rest := []) C B dX8_why_23 (c_isBelow G M.2.1 h d g 10) rfl rfl (Nat.le_of_ble_eq_true rfl) (by omega) (by omega) (by omega) (q := 26) rfl (fun r9 h9 hr9 => ?_)
  obtain ⟨e9, er9⟩ := hr9
  subst er9; rw [e9]
  show aw G 3 M 26 [.ref x, .int g, .int k] [.int (pb_b (¬ g < 0 ∧ ¬ 10 ≤ g))] h 0 0
  refine aw_if_eq (t := 33) (q := 29) C dX8_why_26 (by decide) rfl (fun c_26 => ?_) (fun c_26 => ?_)
  ·
    refine aw_throw C B E (by rw [hl]; exact hst) thA st175 dX8_why_33 dX8_why_36 dX8_why_37 dX8_why_39 dX8_why_42 (by show 2 + 3 < _; omega) (by show 13 * (2 + 1) + 43 ≤ _; omega) (by omega) (by omega) ?_
    exact ⟨fun z => pb_0.mp c_26 z.1, rfl, rfl⟩
  ·
    refine aw_iload_n C dX8_why_29 rfl rfl (q := 30) rfl ?_
    refine aw_if_ge (t := 43) (q := 33) C dX8_why_30 (by decide) rfl (fun c_30 => ?_) (fun c_30 => ?_)
    ·
      refine aw_aload_n C dX8_why_43 rfl rfl (q := 44) rfl ?_
      refine gfX8_42_8 (v := .ref (ad 14)) C dX8_why_44 K (hf) (q := 47) rfl ?_
      refine aw_iload_n C dX8_why_47 rfl rfl (q := 48) rfl ?_
      refine aw_iload_n C dX8_why_48 rfl rfl (q := 49) rfl ?_
      refine cvX8_177_5 (As := [.int g, .int k]) (rest := []) C B dX8_why_49 Rp.1 (c_heldOf G M.2.1 h d ad an oc rc O rd T g k Rp U hrc) rfl rfl (Nat.le_of_ble_eq_true rfl) (by omega) (by omega) (by omega) (q := 52) rfl (fun r9 h9 hr9 => ?_)
      obtain ⟨e9, er9⟩ := hr9
      subst er9; rw [e9]
      show aw G 3 M 52 [.ref x, .int g, .int k] [.int (rp_held (ru_g T) (O 18) g rc 0 k)] h 0 0
      refine aw_iretX C E dX8_why_52 (by omega) (by omega) ?_
      exact ⟨⟨pb_n c_26, Int32.not_lt.mpr c_30⟩, rfl, rfl⟩
    ·
      refine aw_throw C B E (by rw [hl]; exact hst) thA st175 dX8_why_33 dX8_why_36 dX8_why_37 dX8_why_39 dX8_why_42 (by show 2 + 3 < _; omega) (by show 13 * (2 + 1) + 43 ≤ _; omega) (by omega) (by omega) ?_
      exact ⟨fun z => z.2 (Int32.not_le.mp c_30), rfl, rfl⟩
set_option maxHeartbeats 4000000 in
set_option maxRecDepth 100000 in
theorem c_open (G : ac_G) (l : Launch) (h : ac_H) (d : Nat) (x : Nat) (fs : List Value) (K : h x = some (.inr (8, fs))) (ad : Nat → Nat) (an : inj ad 26) (hf : fs[4]? = some (.ref (ad 14))) (oc rc : Nat) (O : Nat → Nat → Int32) (v0 : Value) (Rp : rp_ok h ad v0 oc rc O) (k wh : Int32) (hst : l.stackTraces = false) : ac_MetX G l yX8_open cX8_open 3 (some .int) (d + 10) 1 6 [.ref x, .int k, .int wh] h (fun r9 h9 => (gt_bl k (nI oc) ∧ gt_bl k 12) ∧ ((wh = 0 ∧ r9 = some (.int (O 15 k.toNatClampNeg))) ∨ (wh = 1 ∧ r9 = some (.int (O 16 k.toNatClampNeg))) ∨ (wh = 2 ∧ r9 = some (.int (O 17 k.toNatClampNeg)))) ∧ h9 = h) (fun E9 h9 => (¬ (gt_bl k (nI oc) ∧ gt_bl k 12) ∧ E9 = "java/lang/ArrayIndexOutOfBoundsException" ∧ h9 = h) ∨ ((gt_bl k (nI oc) ∧ gt_bl k 12) ∧ (¬ wh = 0 ∧ ¬ wh = 1 ∧ ¬ wh = 2) ∧ E9 = "java/lang/IllegalArgumentException" ∧ h9 = h)) := by
  refine ac_ofX (ls := [.ref x, .int k, .int wh]) (by decide +kernel) rfl (Nat.le_of_ble_eq_true rfl) (fun M hl C B E hnm => ?_)
  refine aw_iload_n C dX8_open_0 rfl rfl (q := 1) rfl ?_
  refine aw_aload_n C dX8_open_1 rfl rfl (q := 2) rfl ?_
  refine gfX8_42_8 (v := .ref (ad 14)) C dX8_open_2 K (hf) (q := 5) rfl ?_
  refine gfX8_180_5 (v := .int (nI oc)) C dX8_open_5 Rp.1 rfl (q := 8) rfl ?_
  refine csX8_127 (As := [.int k, .int (nI oc)]) (rest := []) C B dX8_open_8 (c_isBelow G M.2.1 h d k (nI oc)) rfl rfl (Nat.le_of_ble_eq_true rfl) (by omega) (by omega) (by omega) (q := 11) rfl (fun r9 h9 hr9 => ?_)
  obtain ⟨e9, er9⟩ := hr9
  subst er9; rw [e9]
  show aw G 3 M 11 [.ref x, .int k, .int wh] [.int (pb_b (¬ k < 0 ∧ ¬ (nI oc) ≤ k))] h 0 0
  refine aw_if_eq (t := 23) (q := 14) C dX8_open_11 (by decide) rfl (fun c_11 => ?_) (fun c_11 => ?_)
  ·
    refine aw_throw C B E (by rw [hl]; exact hst) thX st183 dX8_open_23 dX8_open_26 dX8_open_27 dX8_open_29 dX8_open_32 (by show 3 + 3 < _; omega) (by show 13 * (3 + 1) + 43 ≤ _; omega) (by omega) (by omega) ?_
    exact Or.inl ⟨fun z => pb_0.mp c_11 z.1, rfl, rfl⟩
  ·
    refine aw_iload_n C dX8_open_14 rfl rfl (q := 15) rfl ?_
    refine aw_bipush (v := 12) C dX8_open_15 (by decide) (q := 17) rfl ?_
    refine csX8_127 (As := [.int k, .int 12]) (rest := []) C B dX8_open_17 (c_isBelow G M.2.1 h d k 12) rfl rfl (Nat.le_of_ble_eq_true rfl) (by omega) (by omega) (by omega) (q := 20) rfl (fun r9 h9 hr9 => ?_)
    obtain ⟨e9, er9⟩ := hr9
    subst er9; rw [e9]
    show aw G 3 M 20 [.ref x, .int k, .int wh] [.int (pb_b (¬ k < 0 ∧ ¬ 12 ≤ k))] h 0 0
    refine aw_if_ne (t := 33) (q := 23) C dX8_open_20 (by decide) rfl (fun c_20 => ?_) (fun c_20 => ?_)
    ·
      refine aw_iload_n C dX8_open_33 rfl rfl (q := 34) rfl ?_
      by_cases e_0 : wh = 0
      ·
        refine aw_tableIn (off := 26) (q := 60) C dX8_open_34 (by rw [e_0]; decide) (by rw [e_0]; decide) (by rw [e_0]; rfl) (by decide) ?_
        refine aw_aload_n C dX8_open_60 rfl rfl (q := 61) rfl ?_
        refine gfX8_42_8 (v := .ref (ad 14)) C dX8_open_61 K (hf) (q := 64) rfl ?_
        refine gfX8_185_5 (v := .ref (ad 15)) C dX8_open_64 Rp.1 rfl (q := 67) rfl ?_
        refine aw_iload_n C dX8_open_67 rfl rfl (q := 68) rfl ?_
        refine ay_iald (j := k.toNatClampNeg) C dX8_open_68 (Rp.2 15 (by decide) (by decide)) (by obtain ⟨j, hj, ej⟩ := gt_ix (b := 12) (by decide) (pb_n c_20); rw [ej]; exact vp_in_nI hj (by decide)) (rfl) (q := 69) rfl ?_
        refine aw_iretX C E dX8_open_69 (by omega) (by omega) ?_
        exact ⟨⟨pb_n c_11, pb_n c_20⟩, Or.inl ⟨e_0, rfl⟩, rfl⟩
      ·
        by_cases e_1 : wh = 1
        ·
          refine aw_tableIn (off := 36) (q := 70) C dX8_open_34 (by rw [e_1]; decide) (by rw [e_1]; decide) (by rw [e_1]; rfl) (by decide) ?_
          refine aw_aload_n C dX8_open_70 rfl rfl (q := 71) rfl ?_
          refine gfX8_42_8 (v := .ref (ad 14)) C dX8_open_71 K (hf) (q := 74) rfl ?_
          refine gfX8_188_5 (v := .ref (ad 16)) C dX8_open_74 Rp.1 rfl (q := 77) rfl ?_
          refine aw_iload_n C dX8_open_77 rfl rfl (q := 78) rfl ?_
          refine ay_iald (j := k.toNatClampNeg) C dX8_open_78 (Rp.2 16 (by decide) (by decide)) (by obtain ⟨j, hj, ej⟩ := gt_ix (b := 12) (by decide) (pb_n c_20); rw [ej]; exact vp_in_nI hj (by decide)) (rfl) (q := 79) rfl ?_
          refine aw_iretX C E dX8_open_79 (by omega) (by omega) ?_
          exact ⟨⟨pb_n c_11, pb_n c_20⟩, Or.inr (Or.inl ⟨e_1, rfl⟩), rfl⟩
        ·
          by_cases e_2 : wh = 2
          ·
            refine aw_tableIn (off := 46) (q := 80) C dX8_open_34 (by rw [e_2]; decide) (by rw [e_2]; decide) (by rw [e_2]; rfl) (by decide) ?_
            refine aw_aload_n C dX8_open_80 rfl rfl (q := 81) rfl ?_
            refine gfX8_42_8 (v := .ref (ad 14)) C dX8_open_81 K (hf) (q := 84) rfl ?_
            refine gfX8_191_5 (v := .ref (ad 17)) C dX8_open_84 Rp.1 rfl (q := 87) rfl ?_
            refine aw_iload_n C dX8_open_87 rfl rfl (q := 88) rfl ?_
            refine ay_iald (j := k.toNatClampNeg) C dX8_open_88 (Rp.2 17 (by decide) (by decide)) (by obtain ⟨j, hj, ej⟩ := gt_ix (b := 12) (by decide) (pb_n c_20); rw [ej]; exact vp_in_nI hj (by decide)) (rfl) (q := 89) rfl ?_
            refine aw_iretX C E dX8_open_89 (by omega) (by omega) ?_
            exact ⟨⟨pb_n c_11, pb_n c_20⟩, Or.inr (Or.inr ⟨e_2, rfl⟩), rfl⟩
          ·
            have n_0 : ¬ wh.toInt = 0 := fun z => e_0 (Int32.toInt_inj.mp (by rw [z]; rfl))
            have n_1 : ¬ wh.toInt = 1 := fun z => e_1 (Int32.toInt_inj.mp (by rw [z]; rfl))
            have n_2 : ¬ wh.toInt = 2 := fun z => e_2 (Int32.toInt_inj.mp (by rw [z]; rfl))
            refine aw_tableOut (q := 90) C dX8_open_34 (by omega) (by decide) ?_
            refine aw_throw C B E (by rw [hl]; exact hst) thA st194 dX8_open_90 dX8_open_93 dX8_open_94 dX8_open_96 dX8_open_99 (by show 2 + 3 < _; omega) (by show 13 * (2 + 1) + 43 ≤ _; omega) (by omega) (by omega) ?_
            exact Or.inr ⟨⟨pb_n c_11, pb_n c_20⟩, ⟨e_0, e_1, e_2⟩, rfl, rfl⟩
    ·
      refine aw_throw C B E (by rw [hl]; exact hst) thX st183 dX8_open_23 dX8_open_26 dX8_open_27 dX8_open_29 dX8_open_32 (by show 3 + 3 < _; omega) (by show 13 * (3 + 1) + 43 ≤ _; omega) (by omega) (by omega) ?_
      exact Or.inl ⟨fun z => pb_0.mp c_20 z.2, rfl, rfl⟩
