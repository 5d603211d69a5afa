/-! GradeTexts: run, walk, raise -/
set_option maxHeartbeats 4000000 in
set_option maxRecDepth 100000 in
theorem c_run0 (G : ac_G) (l : Launch) (h : ac_H) (d : Nat) (ad : Nat → Nat) (an : inj ad 26) (fs : List Value) (K : h (ad 0) = some (.inr (8, fs))) (la : Option Nat) (ec : Nat) (E : Nat → Option Nat) (dy : Nat → Int64) (hf6 : fs[6]? = some (va_rf la)) (hf7 : fs[7]? = some (.ref (ad 22))) (hf8 : fs[8]? = some (.ref (ad 23))) (hf9 : fs[9]? = some (.int (nI ec))) (Ke : h (ad 22) = some (.inl (4, 4, .inr (.inr (.inr (.inr E)))))) (Kt : h (ad 23) = some (.inl (2, 4, .inr (.inl dy)))) (hec : ec ≤ 4) (day : Int64) (hon : gt_on E dy day la ec = none) (hst : l.stackTraces = false) : ac_MetX G l yX8_run cX8_run 5 (some .int) (d + 10) 1 6 [.ref (ad 0), .long day] h (fun _ _ => False) (fun E9 h9 => E9 = "java/lang/IllegalStateException" ∧ h9 = h) := by
  refine ac_ofX (ls := [.ref (ad 0), .long day, .retAddr 0, .retAddr 0, .retAddr 0]) (by decide +kernel) rfl (Nat.le_of_ble_eq_true rfl) (fun M hl C B E9 hnm => ?_)
  refine aw_aload_n C dX8_run_0 rfl rfl (q := 1) rfl ?_
  refine aw_lload_n C dX8_run_1 rfl rfl (q := 2) rfl ?_
  refine cvX8_151_8 (As := [.long day]) (rest := []) C B dX8_run_2 K (c_rulesOn G M.2.1 h d (ad 0) (ad 22) (ad 23) fs la ec E dy K hf6 hf7 hf8 hf9 Ke Kt hec day) rfl rfl (Nat.le_of_ble_eq_true rfl) (by omega) (by omega) (by omega) (q := 5) rfl (fun r9 h9 hr9 => ?_)
  obtain ⟨e9, er9⟩ := hr9
  subst er9; rw [e9]; rw [hon]
  show aw G 5 M 5 [.ref (ad 0), .long day, .retAddr 0, .retAddr 0, .retAddr 0] [.null] h 0 0
  refine aw_astore_nQ (r := none) (ls' := [.ref (ad 0), .long day, .retAddr 0, .null, .retAddr 0]) C dX8_run_5 rfl (by decide) rfl (q := 6) rfl ?_
  refine aw_aload_nQ (r := none) C dX8_run_6 rfl rfl (q := 7) rfl ?_
  refine aw_ifnonnull (r := none) (t := 20) (q := 10) C dX8_run_7 (by decide) rfl (fun _ z => nomatch z) (fun _ => ?_)
  refine aw_throw C B E9 (by rw [hl]; exact hst) thS st99 dX8_run_10 dX8_run_13 dX8_run_14 dX8_run_16 dX8_run_19 (by show 2 + 3 < _; omega) (by show 13 * (2 + 1) + 43 ≤ _; omega) (by omega) (by omega) ?_
  exact ⟨rfl, rfl⟩
set_option maxHeartbeats 4000000 in
set_option maxRecDepth 100000 in
theorem c_walk0 (G : ac_G) (l : Launch) (h : ac_H) (d : Nat) (ad : Nat → Nat) (an : inj ad 26) (fs : List Value) (K : h (ad 0) = some (.inr (8, fs))) (la : Option Nat) (ec : Nat) (E : Nat → Option Nat) (dy : Nat → Int64) (hf6 : fs[6]? = some (va_rf la)) (hf7 : fs[7]? = some (.ref (ad 22))) (hf8 : fs[8]? = some (.ref (ad 23))) (hf9 : fs[9]? = some (.int (nI ec))) (Ke : h (ad 22) = some (.inl (4, 4, .inr (.inr (.inr (.inr E)))))) (Kt : h (ad 23) = some (.inl (2, 4, .inr (.inl dy)))) (hec : ec ≤ 4) (day : Int64) (hon : gt_on E dy day la ec = none) (hst : l.stackTraces = false) : ac_MetX G l yX8_walk cX8_walk 5 (some .int) (d + 10) 1 6 [.ref (ad 0), .long day] h (fun _ _ => False) (fun E9 h9 => E9 = "java/lang/IllegalStateException" ∧ h9 = h) := by
  refine ac_ofX (ls := [.ref (ad 0), .long day, .retAddr 0, .retAddr 0, .retAddr 0]) (by decide +kernel) rfl (Nat.le_of_ble_eq_true rfl) (fun M hl C B E9 hnm => ?_)
  refine aw_aload_n C dX8_walk_0 rfl rfl (q := 1) rfl ?_
  refine aw_lload_n C dX8_walk_1 rfl rfl (q := 2) rfl ?_
  refine cvX8_151_8 (As := [.long day]) (rest := []) C B dX8_walk_2 K (c_rulesOn G M.2.1 h d (ad 0) (ad 22) (ad 23) fs la ec E dy K hf6 hf7 hf8 hf9 Ke Kt hec day) rfl rfl (Nat.le_of_ble_eq_true rfl) (by omega) (by omega) (by omega) (q := 5) rfl (fun r9 h9 hr9 => ?_)
  obtain ⟨e9, er9⟩ := hr9
  subst er9; rw [e9]; rw [hon]
  show aw G 5 M 5 [.ref (ad 0), .long day, .retAddr 0, .retAddr 0, .retAddr 0] [.null] h 0 0
  refine aw_astore_nQ (r := none) (ls' := [.ref (ad 0), .long day, .retAddr 0, .null, .retAddr 0]) C dX8_walk_5 rfl (by decide) rfl (q := 6) rfl ?_
  refine aw_aload_nQ (r := none) C dX8_walk_6 rfl rfl (q := 7) rfl ?_
  refine aw_ifnonnull (r := none) (t := 20) (q := 10) C dX8_walk_7 (by decide) rfl (fun _ z => nomatch z) (fun _ => ?_)
  refine aw_throw C B E9 (by rw [hl]; exact hst) thS st99 dX8_walk_10 dX8_walk_13 dX8_walk_14 dX8_walk_16 dX8_walk_19 (by show 2 + 3 < _; omega) (by show 13 * (2 + 1) + 43 ≤ _; omega) (by omega) (by omega) ?_
  exact ⟨rfl, rfl⟩
/-- told, with one more for the grade g -/
def gt_tell (F : Nat → Int64) (g : Int32) : Nat → Int64 := if gt_bl (g + 1) 11 then vp_updL F (g + 1).toNatClampNeg (F (g + 1).toNatClampNeg + 1) else F
set_option maxHeartbeats 4000000 in
set_option maxRecDepth 100000 in
theorem c_run1 (G : ac_G) (l : Launch) (h : ac_H) (d : Nat) (ad : Nat → Nat) (an : inj ad 26) (fs : List Value) (K : h (ad 0) = some (.inr (8, fs))) (la : Option Nat) (ec : Nat) (E : Nat → Option Nat) (dy : Nat → Int64) (hf6 : fs[6]? = some (va_rf la)) (hf7 : fs[7]? = some (.ref (ad 22))) (hf8 : fs[8]? = some (.ref (ad 23))) (hf9 : fs[9]? = some (.int (nI ec))) (Ke : h (ad 22) = some (.inl (4, 4, .inr (.inr (.inr (.inr E)))))) (Kt : h (ad 23) = some (.inl (2, 4, .inr (.inl dy)))) (hec : ec ≤ 4) (day : Int64) (rd : Nat → Nat) (T : ru_D) (dj : apart ad rd) (U : ru_ok h rd T) (hw : ru_wf T) (hon : gt_on E dy day la ec = some (rd 0)) (I : Nat → Int32) (F : Nat → Nat → Int32) (c : Nat) (Kp : pl_ok h (ad 1) (pA ad) I F c) (s : rk_S) (hd ca : Int32) (Kk : rk_ok h (ad 11) (ad 1) (ad 12) s hd ca) (v0 : Value) (oc rc : Nat) (O : Nat → Nat → Int32) (Rp : rp_ok h ad v0 oc rc O) (W : Nat → Int64) (Kd : h (ad 24) = some (.inl (2, 11, .inr (.inl W)))) (hf4 : fs[4]? = some (.ref (ad 14))) (hf2 : fs[2]? = some (.ref (ad 11))) (hf10 : fs[10]? = some (.ref (ad 24))) (hst : l.stackTraces = false) : ac_MetX G l yX8_run cX8_run 5 (some .int) (d + 10) 1 6 [.ref (ad 0), .long day] h (fun r9 h9 => r9 = some (.int (rp_take I F c T (ru_cnt T) 0 0 O).1) ∧ rp_ok h9 ad (.ref (rd 0)) (rp_take I F c T (ru_cnt T) 0 0 O).2.1 (rp_take I F c T (ru_cnt T) 0 0 O).2.2.1 (rp_take I F c T (ru_cnt T) 0 0 O).2.2.2 ∧ (∃ s9 hd9 ca9, rk_ok h9 (ad 11) (ad 1) (ad 12) s9 hd9 ca9) ∧ h9 (ad 24) = some (.inl (2, 11, .inr (.inl (gt_tell W (rp_take I F c T (ru_cnt T) 0 0 O).1)))) ∧ kp h h9 ([14, 15, 16, 17, 18, 11, 12, 24].map ad)) (fun _ _ => False) := by
  refine ac_ofX (ls := [.ref (ad 0), .long day, .retAddr 0, .retAddr 0, .retAddr 0]) (by decide +kernel) rfl (Nat.le_of_ble_eq_true rfl) (fun M hl C B E9 hnm => ?_)
  refine aw_aload_n C dX8_run_0 rfl rfl (q := 1) rfl ?_
  refine aw_lload_n C dX8_run_1 rfl rfl (q := 2) rfl ?_
  refine cvX8_151_8 (As := [.long day]) (rest := []) C B dX8_run_2 K (c_rulesOn G M.2.1 h d (ad 0) (ad 22) (ad 23) fs la ec E dy K hf6 hf7 hf8 hf9 Ke Kt hec day) rfl rfl (Nat.le_of_ble_eq_true rfl) (by omega) (by omega) (by omega) (q := 5) rfl (fun r9 h9 hr9 => ?_)
  obtain ⟨e9, er9⟩ := hr9
  subst er9; rw [e9]; rw [hon]
  show aw G 5 M 5 [.ref (ad 0), .long day, .retAddr 0, .retAddr 0, .retAddr 0] [.ref (rd 0)] h 0 0
  refine aw_astore_n (ls' := [.ref (ad 0), .long day, .retAddr 0, .ref (rd 0), .retAddr 0]) C dX8_run_5 rfl (by decide) rfl (q := 6) rfl ?_
  refine aw_aload_n C dX8_run_6 rfl rfl (q := 7) rfl ?_
  refine aw_ifnonnull (r := (some (rd 0))) (t := 20) (q := 10) C dX8_run_7 (by decide) rfl (fun _ _ => ?_) (fun z => nomatch z)
  refine aw_aload_n C dX8_run_20 rfl rfl (q := 21) rfl ?_
  refine gfX8_42_8 (v := .ref (ad 14)) C dX8_run_21 K (hf4) (q := 24) rfl ?_
  refine aw_aload_n C dX8_run_24 rfl rfl (q := 25) rfl ?_
  refine aw_aload_n C dX8_run_25 rfl rfl (q := 26) rfl ?_
  refine gfX8_28_8 (v := .ref (ad 11)) C dX8_run_26 K (hf2) (q := 29) rfl ?_
  refine cvX8_155_5 (As := [.ref (rd 0), .ref (ad 11)]) (rest := []) C B dX8_run_29 Rp.1 (c_take G M.2.1 h d ad an v0 oc rc O s hd ca I F c rd T dj Rp Kk Kp U hw) rfl rfl (Nat.le_of_ble_eq_true rfl) (by omega) (by omega) (by omega) (q := 32) rfl (fun r9 h5 hr9 => ?_)
  obtain ⟨er9, Rp5, Kk5, kp5⟩ := hr9
  subst er9
  obtain ⟨z, ez⟩ : ∃ z, z = rp_take I F c T (ru_cnt T) 0 0 O := ⟨_, rfl⟩
  rw [← ez] at Rp5 ⊢
  have K5 : h5 (ad 0) = some (.inr (8, fs)) := kp5 _ _ K (ni_ad an (by decide) (by decide))
  have Kd5 : h5 (ad 24) = some (.inl (2, 11, .inr (.inl W))) := kp5 _ _ Kd (ni_ad an (by decide) (by decide))
  show aw G 5 M 32 [.ref (ad 0), .long day, .retAddr 0, .ref (rd 0), .retAddr 0] [.int z.1] h5 0 0
  refine aw_istore (ls' := [.ref (ad 0), .long day, .retAddr 0, .ref (rd 0), .int z.1]) C dX8_run_32 (by decide) rfl (q := 34) rfl ?_
  refine aw_iload C dX8_run_34 rfl (q := 36) rfl ?_
  refine aw_iconst (v := 1) C dX8_run_36 (by decide) (q := 37) rfl ?_
  refine aw_iadd C dX8_run_37 (q := 38) rfl ?_
  refine aw_aload_n C dX8_run_38 rfl rfl (q := 39) rfl ?_
  refine gfX8_73_8 (v := .ref (ad 24)) C dX8_run_39 K5 (hf10) (q := 42) rfl ?_
  refine aw_alen (v := nI 11) C dX8_run_42 Kd5 rfl rfl (q := 43) rfl ?_
  refine csX8_127 (As := [.int (z.1 + 1), .int (nI 11)]) (rest := []) C B dX8_run_43 (c_isBelow G M.2.1 h5 d (z.1 + 1) (nI 11)) rfl rfl (Nat.le_of_ble_eq_true rfl) (by omega) (by omega) (by omega) (q := 46) rfl (fun r9 h9 hr9 => ?_)
  obtain ⟨e9, er9⟩ := hr9
  subst er9; rw [e9]
  show aw G 5 M 46 [.ref (ad 0), .long day, .retAddr 0, .ref (rd 0), .int z.1] [.int (pb_b (¬ (z.1 + 1) < 0 ∧ ¬ (nI 11) ≤ (z.1 + 1)))] h5 0 0
  refine aw_if_eq (t := 62) (q := 49) C dX8_run_46 (by decide) rfl (fun c_46 => ?_) (fun c_46 => ?_)
  ·
    refine aw_iload C dX8_run_62 rfl (q := 64) rfl ?_
    refine aw_iretX C E9 dX8_run_64 (by omega) (by omega) ?_
    rw [← ez]
    rw [show gt_tell W z.1 = W from by unfold gt_tell; exact if_neg (pb_0.mp c_46)]
    exact ⟨rfl, Rp5, Kk5, Kd5, kp_mono kp5 (by simp)⟩
  ·
    refine aw_aload_n C dX8_run_49 rfl rfl (q := 50) rfl ?_
    refine gfX8_73_8 (v := .ref (ad 24)) C dX8_run_50 K5 (hf10) (q := 53) rfl ?_
    refine aw_iload C dX8_run_53 rfl (q := 55) rfl ?_
    refine aw_iconst (v := 1) C dX8_run_55 (by decide) (q := 56) rfl ?_
    refine aw_iadd C dX8_run_56 (q := 57) rfl ?_
    refine aw_dup2_11 C dX8_run_57 rfl rfl (q := 58) rfl ?_
    refine ay_lald (j := (z.1 + 1).toNatClampNeg) C dX8_run_58 Kd5 (by obtain ⟨j, hj, ej⟩ := gt_ix (b := 11) (by decide) (pb_n c_46); rw [ej]; exact vp_in_nI hj (by decide)) (rfl) (q := 59) rfl ?_
    refine aw_lconst (v := 1) C dX8_run_59 (by decide) (q := 60) rfl ?_
    refine aw_ladd C dX8_run_60 (q := 61) rfl ?_
    refine ay_last (j := (z.1 + 1).toNatClampNeg) C dX8_run_61 Kd5 (by obtain ⟨j, hj, ej⟩ := gt_ix (b := 11) (by decide) (pb_n c_46); rw [ej]; exact vp_in_nI hj (by decide)) (rfl) (q := 62) rfl ?_
    show aw G 5 M 62 [.ref (ad 0), .long day, .retAddr 0, .ref (rd 0), .int z.1] [] (ac_up h5 (ad 24) (.inl (2, 11, .inr (.inl (vp_updL W ((z.1 + 1).toNatClampNeg) ((W ((z.1 + 1).toNatClampNeg)) + 1)))))) 0 0
    obtain ⟨h_1, eh_1⟩ : ∃ z9, z9 = ac_up h5 (ad 24) (.inl (2, 11, .inr (.inl (vp_updL W ((z.1 + 1).toNatClampNeg) ((W ((z.1 + 1).toNatClampNeg)) + 1))))) := ⟨_, rfl⟩
    rw [← eh_1]
    have f_2 : h_1 (ad 0) = some (.inr (8, fs)) := by rw [eh_1, ac_up_n _ _ (an 0 24 (by decide) (by decide) (by decide))]; exact K5
    have f_3 : h_1 (ad 24) = some (.inl (2, 11, .inr (.inl (vp_updL W ((z.1 + 1).toNatClampNeg) ((W ((z.1 + 1).toNatClampNeg)) + 1))))) := by rw [eh_1]; exact ac_up_s _ _ _
    have kp_4 : kp h5 h_1 [ad 24] := by rw [eh_1]; exact kp_up (kp_cons (ad 24) kp_rf) _ _ (by simp)
    refine aw_iload C dX8_run_62 rfl (q := 64) rfl ?_
    refine aw_iretX C E9 dX8_run_64 (by omega) (by omega) ?_
    rw [← ez]
    rw [show gt_tell W z.1 = vp_updL W (z.1 + 1).toNatClampNeg (W (z.1 + 1).toNatClampNeg + 1) from by unfold gt_tell; exact if_pos (pb_n c_46)]
    have n24 : ∀ i, i < 26 → i ≠ 24 → ad i ∉ [ad 24] := fun i h1 h2 => ni1 (an i 24 h1 (by decide) h2) ni0
    refine ⟨rfl, ⟨kp_4 _ _ Rp5.1 (n24 14 (by decide) (by decide)), fun j h1 h2 => kp_4 _ _ (Rp5.2 j h1 h2) (n24 j (by omega) (by omega))⟩, ?_, f_3, kp_mono (kp_tr kp5 kp_4) (by simp)⟩
    obtain ⟨s9, hd9, ca9, y1, y2, y3⟩ := Kk5
    exact ⟨s9, hd9, ca9, kp_4 _ _ y1 (n24 11 (by decide) (by decide)), kp_4 _ _ y2 (n24 12 (by decide) (by decide)), y3⟩
set_option maxHeartbeats 4000000 in
set_option maxRecDepth 100000 in
theorem c_raise0 (G : ac_G) (l : Launch) (h : ac_H) (d : Nat) (ad : Nat → Nat) (an : inj ad 26) (fs : List Value) (K : h (ad 0) = some (.inr (8, fs))) (oc rc : Nat) (O : Nat → Nat → Int32) (hf4 : fs[4]? = some (.ref (ad 14))) (Rp : rp_ok h ad .null oc rc O) (g k : Int32) (hst : l.stackTraces = false) : ac_MetX G l yX8_raise cX8_raise 5 (some .int) (d + 10) 1 6 [.ref (ad 0), .int g, .int k] h (fun _ _ => False) (fun E9 h9 => E9 = "java/lang/IllegalStateException" ∧ h9 = h) := by
  refine ac_ofX (ls := [.ref (ad 0), .int g, .int k, .retAddr 0, .retAddr 0]) (by decide +kernel) rfl (Nat.le_of_ble_eq_true rfl) (fun M hl C B E9 hnm => ?_)
  refine aw_aload_n C dX8_raise_0 rfl rfl (q := 1) rfl ?_
  refine gfX8_42_8 (v := .ref (ad 14)) C dX8_raise_1 K (hf4) (q := 4) rfl ?_
  refine gfX8_170_5 (v := .null) C dX8_raise_4 Rp.1 rfl (q := 7) rfl ?_
  refine aw_astore_nQ (r := none) (ls' := [.ref (ad 0), .int g, .int k, .null, .retAddr 0]) C dX8_raise_7 rfl (by decide) rfl (q := 8) rfl ?_
  refine aw_aload_nQ (r := none) C dX8_raise_8 rfl rfl (q := 9) rfl ?_
  refine aw_ifnonnull (r := none) (t := 22) (q := 12) C dX8_raise_9 (by decide) rfl (fun _ z => nomatch z) (fun _ => ?_)
  refine aw_throw C B E9 (by rw [hl]; exact hst) thS st173 dX8_raise_12 dX8_raise_15 dX8_raise_16 dX8_raise_18 dX8_raise_21 (by show 2 + 3 < _; omega) (by show 13 * (2 + 1) + 43 ≤ _; omega) (by omega) (by omega) ?_
  exact ⟨rfl, rfl⟩
set_option maxHeartbeats 4000000 in
set_option maxRecDepth 100000 in
theorem c_raise1 (G : ac_G) (l : Launch) (h : ac_H) (d : Nat) (ad : Nat → Nat) (an : inj ad 26) (fs : List Value) (K : h (ad 0) = some (.inr (8, fs))) (oc rc : Nat) (O : Nat → Nat → Int32) (hf4 : fs[4]? = some (.ref (ad 14))) (rd : Nat → Nat) (T : ru_D) (dj : apart ad rd) (U : ru_ok h rd T) (hw : ru_wf T) (hg : ru_gs T) (Rp : rp_ok h ad (.ref (rd 0)) oc rc O) (I : Nat → Int32) (F : Nat → Nat → Int32) (c : Nat) (Kp : pl_ok h (ad 1) (pA ad) I F c) (s : rk_S) (hd ca : Int32) (Kk : rk_ok h (ad 11) (ad 1) (ad 12) s hd ca) (ra : Nat) (chg : Int32) (gg pk : Nat → Int32) (Z : rz_ok h ad ra chg gg pk) (hcache : ra = rd 0 → chg = I 4 → rz_inv I F c T gg) (hf5 : fs[5]? = some (.ref (ad 19))) (g k : Int32) (hst : l.stackTraces = false) : ac_MetX G l yX8_raise cX8_raise 5 (some .int) (d + 10) 1 6 [.ref (ad 0), .int g, .int k] h (fun r9 h9 => (gt_bl g 10 ∧ ¬ k < 0) ∧ r9 = some (.int (if k < (rz_few I F c T g (c + 1) 0 pk).1 ∧ k < 10 then (rz_few I F c T g (c + 1) 0 pk).2 k.toNatClampNeg else -1)) ∧ (∃ g9, rz_ok h9 ad (rd 0) (I 4) g9 (rz_few I F c T g (c + 1) 0 pk).2 ∧ rz_inv I F c T g9) ∧ (∃ s9 hd9 ca9, rk_ok h9 (ad 11) (ad 1) (ad 12) s9 hd9 ca9) ∧ kp h h9 ([19, 20, 21, 11, 12].map ad)) (fun E9 h9 => ¬ (gt_bl g 10 ∧ ¬ k < 0) ∧ E9 = "java/lang/IllegalArgumentException" ∧ h9 = h) := by
  refine ac_ofX (ls := [.ref (ad 0), .int g, .int k, .retAddr 0, .retAddr 0]) (by decide +kernel) rfl (Nat.le_of_ble_eq_true rfl) (fun M hl C B E9 hnm => ?_)
  refine aw_aload_n C dX8_raise_0 rfl rfl (q := 1) rfl ?_
  refine gfX8_42_8 (v := .ref (ad 14)) C dX8_raise_1 K (hf4) (q := 4) rfl ?_
  refine gfX8_170_5 (v := .ref (rd 0)) C dX8_raise_4 Rp.1 rfl (q := 7) rfl ?_
  refine aw_astore_n (ls' := [.ref (ad 0), .int g, .int k, .ref (rd 0), .retAddr 0]) C dX8_raise_7 rfl (by decide) rfl (q := 8) rfl ?_
  refine aw_aload_n C dX8_raise_8 rfl rfl (q := 9) rfl ?_
  refine aw_ifnonnull (r := (some (rd 0))) (t := 22) (q := 12) C dX8_raise_9 (by decide) rfl (fun _ _ => ?_) (fun z => nomatch z)
  refine aw_iload_n C dX8_raise_22 rfl rfl (q := 23) rfl ?_
  refine aw_bipush (v := 10) C dX8_raise_23 (by decide) (q := 25) rfl ?_
  refine csX8_127 (As := [.int g, .int 10]) (rest := []) C B dX8_raise_25 (c_isBelow G M.2.1 h d g 10) rfl rfl (Nat.le_of_ble_eq_true rfl) (by omega) (by omega) (by omega) (q := 28) rfl (fun r9 h9 hr9 => ?_)
  obtain ⟨e9, er9⟩ := hr9
  subst er9; rw [e9]
  show aw G 5 M 28 [.ref (ad 0), .int g, .int k, .ref (rd 0), .retAddr 0] [.int (pb_b (¬ g < 0 ∧ ¬ 10 ≤ g))] h 0 0
  refine aw_if_eq (t := 35) (q := 31) C dX8_raise_28 (by decide) rfl (fun c_28 => ?_) (fun c_28 => ?_)
  ·
    refine aw_throw C B E9 (by rw [hl]; exact hst) thA st175 dX8_raise_35 dX8_raise_38 dX8_raise_39 dX8_raise_41 dX8_raise_44 (by show 2 + 3 < _; omega) (by show 13 * (2 + 1) + 43 ≤ _; omega) (by omega) (by omega) ?_
    exact ⟨fun z => pb_0.mp c_28 z.1, rfl, rfl⟩
  ·
    refine aw_iload_n C dX8_raise_31 rfl rfl (q := 32) rfl ?_
    refine aw_if_ge (t := 45) (q := 35) C dX8_raise_32 (by decide) rfl (fun c_32 => ?_) (fun c_32 => ?_)
    ·
      refine aw_aload_n C dX8_raise_45 rfl rfl (q := 46) rfl ?_
      refine gfX8_51_8 (v := .ref (ad 19)) C dX8_raise_46 K (hf5) (q := 49) rfl ?_
      refine aw_aload_n C dX8_raise_49 rfl rfl (q := 50) rfl ?_
      refine aw_iload_n C dX8_raise_50 rfl rfl (q := 51) rfl ?_
      refine cvX8_202_2 (As := [.ref (rd 0), .int g]) (rest := []) C B dX8_raise_51 Z.1 (c_fewest G M.2.1 h d ad an ra chg gg pk s hd ca I F c rd T dj Kk Kp U hw hg Z hcache g) rfl rfl (Nat.le_of_ble_eq_true rfl) (by omega) (by omega) (by omega) (q := 54) rfl (fun r9 h5 hr9 => ?_)
      obtain ⟨er9, ⟨g9, Z5, hi9⟩, Kk5, kp5⟩ := hr9
      subst er9
      obtain ⟨z, ez⟩ : ∃ z, z = rz_few I F c T g (c + 1) 0 pk := ⟨_, rfl⟩
      rw [← ez] at Z5 ⊢
      have K5 : h5 (ad 0) = some (.inr (8, fs)) := kp5 _ _ K (ni_ad an (by decide) (by decide))
      show aw G 5 M 54 [.ref (ad 0), .int g, .int k, .ref (rd 0), .retAddr 0] [.int z.1] h5 0 0
      refine aw_istore (ls' := [.ref (ad 0), .int g, .int k, .ref (rd 0), .int z.1]) C dX8_raise_54 (by decide) rfl (q := 56) rfl ?_
      refine aw_iload_n C dX8_raise_56 rfl rfl (q := 57) rfl ?_
      refine aw_iload C dX8_raise_57 rfl (q := 59) rfl ?_
      refine aw_icmp_ge (t := 80) (q := 62) C dX8_raise_59 (by decide) rfl (fun c_59 => ?_) (fun c_59 => ?_)
      ·
        refine aw_iconst (v := (-1)) C dX8_raise_80 (by decide) (q := 81) rfl ?_
        refine aw_iretX C E9 dX8_raise_81 (by omega) (by omega) ?_
        rw [← ez]
        exact ⟨⟨pb_n c_28, Int32.not_lt.mpr c_32⟩, by rw [if_neg (fun y => absurd c_59 (Int32.not_le.mpr y.1))], ⟨g9, Z5, hi9⟩, Kk5, kp5⟩
      ·
        refine aw_iload_n C dX8_raise_62 rfl rfl (q := 63) rfl ?_
        refine aw_bipush (v := 10) C dX8_raise_63 (by decide) (q := 65) rfl ?_
        refine aw_icmp_ge (t := 80) (q := 68) C dX8_raise_65 (by decide) rfl (fun c_65 => ?_) (fun c_65 => ?_)
        ·
          refine aw_iconst (v := (-1)) C dX8_raise_80 (by decide) (q := 81) rfl ?_
          refine aw_iretX C E9 dX8_raise_81 (by omega) (by omega) ?_
          rw [← ez]
          exact ⟨⟨pb_n c_28, Int32.not_lt.mpr c_32⟩, by rw [if_neg (fun y => absurd c_65 (Int32.not_le.mpr y.2))], ⟨g9, Z5, hi9⟩, Kk5, kp5⟩
        ·
          refine aw_aload_n C dX8_raise_68 rfl rfl (q := 69) rfl ?_
          refine gfX8_51_8 (v := .ref (ad 19)) C dX8_raise_69 K5 (hf5) (q := 72) rfl ?_
          refine gfX8_206_2 (v := .ref (ad 21)) C dX8_raise_72 Z5.1 rfl (q := 75) rfl ?_
          refine aw_iload_n C dX8_raise_75 rfl rfl (q := 76) rfl ?_
          refine ay_iald (j := k.toNatClampNeg) C dX8_raise_76 Z5.2.2 (by obtain ⟨j, hj, ej⟩ := gt_ix (b := 10) (by decide) ⟨Int32.not_lt.mpr c_32, c_65⟩; rw [ej]; exact vp_in_nI hj (by decide)) (rfl) (q := 77) rfl ?_
          refine aw_goto (q := 81) C dX8_raise_77 (by decide) ?_
          refine aw_iretX C E9 dX8_raise_81 (by omega) (by omega) ?_
          rw [← ez]
          exact ⟨⟨pb_n c_28, Int32.not_lt.mpr c_32⟩, by rw [if_pos ⟨Int32.not_le.mp c_59, Int32.not_le.mp c_65⟩], ⟨g9, Z5, hi9⟩, Kk5, kp5⟩
    ·
      refine aw_throw C B E9 (by rw [hl]; exact hst) thA st175 dX8_raise_35 dX8_raise_38 dX8_raise_39 dX8_raise_41 dX8_raise_44 (by show 2 + 3 < _; omega) (by show 13 * (2 + 1) + 43 ≤ _; omega) (by omega) (by omega) ?_
      exact ⟨fun z => z.2 (Int32.not_le.mp c_32), rfl, rfl⟩
