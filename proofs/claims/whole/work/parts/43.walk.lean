/-! GradeTexts: walk -/
/-- the rules from r on, m of them, along the printed text from a place on -/
def gt_walk (f : Nat → Int32) (len : Nat) (x : Nat → wk_R) (gr : Nat → Int32) : Nat → Nat → Nat → Int32
  | 0, _, _ => -1
  | m + 1, r, a => if (wk_rule f len x a).1 = true then gr r else gt_walk f len x gr m (r + 1) (wk_rule f len x a).2
set_option maxHeartbeats 4000000 in
set_option maxRecDepth 100000 in
theorem lp_walk {G : ac_G} {M : ac_M} {h : ac_H} {d : Nat} {ad : Nat → Nat} {fs : List Value} (an : inj ad 26) (K : h (ad 0) = some (.inr (8, fs))) (hf3 : fs[3]? = some (.ref (ad 13))) {rd : Nat → Nat} {T : ru_D} (dj : apart ad rd) (U : ru_ok h rd T) (hw : ru_wf T) {I : Nat → Int32} {F : Nat → Nat → Int32} {c : Nat} (Kp : pl_ok h (ad 1) (pA ad) I F c) (hnp : ru_np T ≤ 300) (hpc : cu_ch (ru_p T)) {day : Int64} {R : Int32} (C : ac_MC G RX8 cX8_walk 5 (some .int) M) (B : ac_Bd M (d + 60) 1 6) (E9 : ac_EndX G (fun r9 h9 => r9 = some (.int R) ∧ (∃ a9 op9, h9 (ad 13) = some (wk_ob (rd 5) (ad 1) (ru_np T) a9 op9)) ∧ kp h h9 [ad 13]) (fun _ _ => False) 1 6 M) (hl9 : M.2.1 = M.2.1) :
    ∀ (m r a1 : Nat) (op : Bool) (h1 : ac_H), r + m = ru_cnt T → a1 ≤ 400 + 40 * r → wk_ok h1 (ad 13) (rd 5) (ad 1) (ru_p T) (ru_np T) a1 op → kp h h1 [ad 13] → gt_walk (ru_p T) (ru_np T) (wk_X I F c (ru_p T) (ru_np T) 8) (ru_g T) m r a1 = R → aw G 5 M 31 [.ref (ad 0), .long day, .retAddr 0, .ref (rd 0), .int (nI r)] [] h1 0 0 := by
  intro m
  induction m with
  | zero =>
    intro r a1 op h1 hr ha K1 kq hR
    have n0 := kq _ _ K (ni1 (an 0 13 (by decide) (by decide) (by decide)) ni0)
    have nj : ∀ j, j < 6 → rd j ∉ [ad 13] := fun j hj => ni1 (Ne.symm (dj 13 j (by decide) hj)) ni0
    have u0 := kq _ _ U.1 (nj 0 (by decide))
    have u1 := kq _ _ U.2.1 (nj 1 (by decide))
    refine aw_iload C dX8_walk_31 rfl (q := 33) rfl ?_
    refine aw_aload_n C dX8_walk_33 rfl rfl (q := 34) rfl ?_
    refine gfX8_91_6 (v := .int (nI (ru_cnt T))) C dX8_walk_34 u0 rfl (q := 37) rfl ?_
    refine aw_icmp_ge (t := 71) (q := 40) C dX8_walk_37 (by decide) rfl (fun c_37 => ?_) (fun c_37 => absurd c_37 (fun z => z (nI_le (a := ru_cnt T) (by omega) (by have := hw.1; omega))))
    refine aw_iconst (v := (-1)) C dX8_walk_71 (by decide) (q := 72) rfl ?_
    refine aw_iretX C E9 dX8_walk_72 (by omega) (by omega) ?_
    exact ⟨by rw [← hR]; rfl, ⟨a1, op, K1.1⟩, kq⟩
  | succ m ih =>
    intro r a1 op h1 hr ha K1 kq hR
    have hc12 := hw.1
    have n0 := kq _ _ K (ni1 (an 0 13 (by decide) (by decide) (by decide)) ni0)
    have nj : ∀ j, j < 6 → rd j ∉ [ad 13] := fun j hj => ni1 (Ne.symm (dj 13 j (by decide) hj)) ni0
    have u0 := kq _ _ U.1 (nj 0 (by decide))
    have u1 := kq _ _ U.2.1 (nj 1 (by decide))
    have Kp1 : pl_ok h1 (ad 1) (pA ad) I F c := pl_kpA an Kp (show kp h h1 ([13].map ad) from kq) (by decide)
    refine aw_iload C dX8_walk_31 rfl (q := 33) rfl ?_
    refine aw_aload_n C dX8_walk_33 rfl rfl (q := 34) rfl ?_
    refine gfX8_91_6 (v := .int (nI (ru_cnt T))) C dX8_walk_34 u0 rfl (q := 37) rfl ?_
    refine aw_icmp_ge (t := 71) (q := 40) C dX8_walk_37 (by decide) rfl (fun c_37 => absurd c_37 (ni_nge r (ru_cnt T) rfl rfl (by omega) (by omega) (by omega))) (fun c_37 => ?_)
    refine aw_iload C dX8_walk_40 rfl (q := 42) rfl ?_
    refine aw_bipush (v := 12) C dX8_walk_42 (by decide) (q := 44) rfl ?_
    refine aw_icmp_ge (t := 71) (q := 47) C dX8_walk_44 (by decide) rfl (fun c_44 => absurd c_44 (ni_nge r 12 rfl rfl (by omega) (by decide) (by omega))) (fun c_44 => ?_)
    refine aw_aload_n C dX8_walk_47 rfl rfl (q := 48) rfl ?_
    refine gfX8_35_8 (v := .ref (ad 13)) C dX8_walk_48 n0 (hf3) (q := 51) rfl ?_
    have hX := c_walkX G M.2.1 (ad 13) (rd 5) (ad 1) (ru_p T) (ru_np T) (pA ad) I F c (by omega) hpc 8 0 rfl
    have hXb : wk_bd (ru_np T) (2 * 8 + 2) (wk_X I F c (ru_p T) (ru_np T) 8) := wk_X_bd 8
    have hmx := wk_rule_mx (f := ru_p T) hXb a1
    refine cvX8_163_7 (As := []) (rest := []) C B dX8_walk_51 K1.1 (c_passRule G M.2.1 (ad 13) (rd 5) (ad 1) (ru_p T) (ru_np T) (pA ad) I F c (by omega) hpc (2 * 8 + 2) (wk_X I F c (ru_p T) (ru_np T) 8) (by decide) hXb 24 hX h1 a1 op K1 Kp1 (by omega)) rfl rfl (Nat.le_of_ble_eq_true rfl) (by omega) (by omega) (by omega) (q := 54) rfl (fun r9 h5 hr9 => ?_)
    obtain ⟨er9, ⟨op5, K5⟩, kp5⟩ := hr9
    subst er9
    obtain ⟨z, ez⟩ : ∃ z, z = wk_rule (ru_p T) (ru_np T) (wk_X I F c (ru_p T) (ru_np T) 8) a1 := ⟨_, rfl⟩
    rw [← ez] at K5 hmx ⊢
    have kq5 : kp h h5 [ad 13] := kp_in kq kp5 (fun _ y => y)
    have u05 := kq5 _ _ U.1 (nj 0 (by decide))
    have u15 := kq5 _ _ U.2.1 (nj 1 (by decide))
    show aw G 5 M 54 [.ref (ad 0), .long day, .retAddr 0, .ref (rd 0), .int (nI r)] [.int (pb_b (z.1 = true))] h5 0 0
    refine aw_if_eq (t := 65) (q := 57) C dX8_walk_54 (by decide) rfl (fun c_54 => ?_) (fun c_54 => ?_)
    ·
      refine aw_iinc (v := nI (r + 1)) (ls' := [.ref (ad 0), .long day, .retAddr 0, .ref (rd 0), .int (nI (r + 1))]) C dX8_walk_65 rfl (nI_1 r) (by decide) rfl (q := 68) rfl ?_
      refine aw_goto (q := 31) C dX8_walk_68 (by decide) ?_
      refine ih (r + 1) z.2 op5 h5 (by omega) (by omega) K5 kq5 ?_
      rw [← hR]; conv => rhs; unfold gt_walk
      rw [← ez, if_neg (pb_0.mp c_54)]
    ·
      refine aw_aload_n C dX8_walk_57 rfl rfl (q := 58) rfl ?_
      refine gfX8_167_6 (v := .ref (rd 1)) C dX8_walk_58 u05 rfl (q := 61) rfl ?_
      refine aw_iload C dX8_walk_61 rfl (q := 63) rfl ?_
      refine ay_iald (j := r) C dX8_walk_63 u15 (vp_in_nI (by omega) (by decide)) (nI_clamp (by omega)) (q := 64) rfl ?_
      refine aw_iretX C E9 dX8_walk_64 (by omega) (by omega) ?_
      exact ⟨by rw [← hR]; unfold gt_walk; rw [← ez, if_pos (pb_n c_54)], ⟨_, _, K5.1⟩, kq5⟩
set_option maxHeartbeats 4000000 in
set_option maxRecDepth 100000 in
theorem c_walk1 (G : ac_G) (l : Launch) (h : ac_H) (d : Nat) (ad : Nat → Nat) (an : inj ad 26) (fs : List Value) (K : h (ad 0) = some (.inr (8, fs))) (la : Option Nat) (ec : Nat) (E : Nat → Option Nat) (dy : Nat → Int64) (hf6 : fs[6]? = some (va_rf la)) (hf7 : fs[7]? = some (.ref (ad 22))) (hf8 : fs[8]? = some (.ref (ad 23))) (hf9 : fs[9]? = some (.int (nI ec))) (Ke : h (ad 22) = some (.inl (4, 4, .inr (.inr (.inr (.inr E)))))) (Kt : h (ad 23) = some (.inl (2, 4, .inr (.inl dy)))) (hec : ec ≤ 4) (day : Int64) (rd : Nat → Nat) (T : ru_D) (dj : apart ad rd) (U : ru_ok h rd T) (hw : ru_wf T) (hon : gt_on E dy day la ec = some (rd 0)) (I : Nat → Int32) (F : Nat → Nat → Int32) (c : Nat) (Kp : pl_ok h (ad 1) (pA ad) I F c) (hnp : ru_np T ≤ 300) (hpc : cu_ch (ru_p T)) (u0 len0 at0 : Nat) (op0 : Bool) (Kw : h (ad 13) = some (wk_ob u0 (ad 1) len0 at0 op0)) (hf3 : fs[3]? = some (.ref (ad 13))) (hst : l.stackTraces = false) : ac_MetX G l yX8_walk cX8_walk 5 (some .int) (d + 60) 1 6 [.ref (ad 0), .long day] h (fun r9 h9 => r9 = some (.int (gt_walk (ru_p T) (ru_np T) (wk_X I F c (ru_p T) (ru_np T) 8) (ru_g T) (ru_cnt T) 0 0)) ∧ (∃ a9 op9, h9 (ad 13) = some (wk_ob (rd 5) (ad 1) (ru_np T) a9 op9)) ∧ kp h h9 [ad 13]) (fun _ _ => False) := by
  refine ac_ofX (ls := [.ref (ad 0), .long day, .retAddr 0, .retAddr 0, .retAddr 0]) (by decide +kernel) rfl (Nat.le_of_ble_eq_true rfl) (fun M hl C B E9 hnm => ?_)
  refine aw_aload_n C dX8_walk_0 rfl rfl (q := 1) rfl ?_
  refine aw_lload_n C dX8_walk_1 rfl rfl (q := 2) rfl ?_
  refine cvX8_151_8 (As := [.long day]) (rest := []) C B dX8_walk_2 K (c_rulesOn G M.2.1 h d (ad 0) (ad 22) (ad 23) fs la ec E dy K hf6 hf7 hf8 hf9 Ke Kt hec day) rfl rfl (Nat.le_of_ble_eq_true rfl) (by omega) (by omega) (by omega) (q := 5) rfl (fun r9 h9 hr9 => ?_)
  obtain ⟨e9, er9⟩ := hr9
  subst er9; rw [e9]; rw [hon]
  show aw G 5 M 5 [.ref (ad 0), .long day, .retAddr 0, .retAddr 0, .retAddr 0] [.ref (rd 0)] h 0 0
  refine aw_astore_n (ls' := [.ref (ad 0), .long day, .retAddr 0, .ref (rd 0), .retAddr 0]) C dX8_walk_5 rfl (by decide) rfl (q := 6) rfl ?_
  refine aw_aload_n C dX8_walk_6 rfl rfl (q := 7) rfl ?_
  refine aw_ifnonnull (r := (some (rd 0))) (t := 20) (q := 10) C dX8_walk_7 (by decide) rfl (fun _ _ => ?_) (fun z => nomatch z)
  refine aw_aload_n C dX8_walk_20 rfl rfl (q := 21) rfl ?_
  refine gfX8_35_8 (v := .ref (ad 13)) C dX8_walk_21 K (hf3) (q := 24) rfl ?_
  refine aw_aload_n C dX8_walk_24 rfl rfl (q := 25) rfl ?_
  refine cvX8_159_7 (As := [.ref (rd 0)]) (rest := []) C B dX8_walk_25 Kw (c_begin G M.2.1 h d (ad 13) u0 (ad 1) len0 at0 (rd 0) (rd 5) (ru_np T) op0 (ru_p T) _ Kw U.1 rfl U.2.2.2.2.2) rfl rfl (Nat.le_of_ble_eq_true rfl) (by omega) (by omega) (by omega) (q := 28) rfl (fun r9 h5 hr9 => ?_)
  obtain ⟨er9, K5, kp5⟩ := hr9
  subst er9
  show aw G 5 M 28 [.ref (ad 0), .long day, .retAddr 0, .ref (rd 0), .retAddr 0] [] h5 0 0
  refine aw_iconst (v := 0) C dX8_walk_28 (by decide) (q := 29) rfl ?_
  refine aw_istore (ls' := [.ref (ad 0), .long day, .retAddr 0, .ref (rd 0), .int 0]) C dX8_walk_29 (by decide) rfl (q := 31) rfl ?_
  exact lp_walk (d := d) (R := gt_walk (ru_p T) (ru_np T) (wk_X I F c (ru_p T) (ru_np T) 8) (ru_g T) (ru_cnt T) 0 0) an K hf3 dj U hw Kp hnp hpc C B E9 rfl (ru_cnt T) 0 0 op0 h5 (by omega) (by omega) K5 kp5 rfl
