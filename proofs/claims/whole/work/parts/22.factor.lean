/-! Walker: factor, term, expression by levels. A result: the value, the place behind, isOpen -/
abbrev wk_R : Type := Int64 × Nat × Bool
/-- a factor without its prefixes, at e -/
def wk_bare (I : Nat → Int32) (F : Nat → Nat → Int32) (c : Nat) (f : Nat → Int32) (len : Nat) (sub : Nat → wk_R) (deep : Bool) (e : Nat) : wk_R :=
  if cu_c f len e = 40 then (if deep = true then (0, e + 1 + 1, false) else ((sub (e + 1)).1, (sub (e + 1)).2.1 + 1, (sub (e + 1)).2.2))
  else if ¬ cu_c f len e < 48 ∧ ¬ 57 < cu_c f len e then ((cu_num f len 6 e 0).1.toInt64, (cu_num f len 6 e 0).2, false)
  else if cu_c f len e = 108 ∨ cu_c f len e = 119 ∨ cu_c f len e = 116 then (pl_measure I F (cu_c f len e) 0 0 c, e + 1, false)
  else if cu_isd (cu_c f len (e + 1)) 8 then (pl_measure I F (cu_c f len e) (cu_c f len (e + 1) - 48) 0 c, e + 1 + 1, false)
  else (pl_measure I F (cu_c f len e) (-1) 0 c, e + 1, false)
def wk_fin (F : Nat → Nat → Int32) (c : Nat) (f : Nat → Int32) (at_ e : Nat) (r : wk_R) : wk_R := ((wk_app F c f at_ e e r.1 r.2.2).1, r.2.1, (wk_app F c f at_ e e r.1 r.2.2).2)
def wk_F (I : Nat → Int32) (F : Nat → Nat → Int32) (c : Nat) (f : Nat → Int32) (len : Nat) (sub : Nat → wk_R) (deep : Bool) (at_ : Nat) : wk_R :=
  wk_fin F c f at_ (cu_pre f len 300 at_).2 (wk_bare I F c f len sub deep (cu_pre f len 300 at_).2)
def wk_Tl (f : Nat → Int32) (len : Nat) (fc : Nat → wk_R) : Nat → wk_R → wk_R
  | 0, r => r
  | m + 1, r => if r.2.2 = true then r else if cu_c f len r.2.1 = 42 ∨ cu_c f len r.2.1 = 47 then (if cu_c f len r.2.1 = 42 then wk_Tl f len fc m (r.1 * (fc (r.2.1 + 1)).1, (fc (r.2.1 + 1)).2.1, (fc (r.2.1 + 1)).2.2)
      else if (fc (r.2.1 + 1)).1 = 0 then wk_Tl f len fc m (r.1, (fc (r.2.1 + 1)).2.1, true) else wk_Tl f len fc m (r.1 / (fc (r.2.1 + 1)).1, (fc (r.2.1 + 1)).2.1, (fc (r.2.1 + 1)).2.2)) else r
def wk_El (f : Nat → Int32) (len : Nat) (tc : Nat → wk_R) : Nat → wk_R → wk_R
  | 0, r => r
  | m + 1, r => if r.2.2 = true then r else if cu_c f len r.2.1 = 43 ∨ cu_c f len r.2.1 = 45 then (if cu_c f len r.2.1 = 43 then wk_El f len tc m (r.1 + (tc (r.2.1 + 1)).1, (tc (r.2.1 + 1)).2.1, (tc (r.2.1 + 1)).2.2)
      else wk_El f len tc m (r.1 - (tc (r.2.1 + 1)).1, (tc (r.2.1 + 1)).2.1, (tc (r.2.1 + 1)).2.2)) else r
def wk_T (f : Nat → Int32) (len : Nat) (fc : Nat → wk_R) (at_ : Nat) : wk_R := wk_Tl f len fc 300 (fc at_)
def wk_E (f : Nat → Int32) (len : Nat) (tc : Nat → wk_R) (at_ : Nat) : wk_R := wk_El f len tc 300 (tc at_)
/-- an expression with at most k levels of ( ) more -/
def wk_X (I : Nat → Int32) (F : Nat → Nat → Int32) (c : Nat) (f : Nat → Int32) (len : Nat) : Nat → Nat → wk_R
  | 0 => wk_E f len (wk_T f len (wk_F I F c f len (fun _ => (0, 0, false)) true))
  | k + 1 => wk_E f len (wk_T f len (wk_F I F c f len (wk_X I F c f len k) false))
/-- how far such a thing goes -/
abbrev wk_bd (len b : Nat) (x : Nat → wk_R) : Prop := ∀ at_, (x at_).2.1 ≤ max at_ len + b
theorem wk_F_bd {I : Nat → Int32} {F : Nat → Nat → Int32} {c : Nat} {f : Nat → Int32} {len b : Nat} {sub : Nat → wk_R} {deep : Bool} (h : deep = true ∨ wk_bd len b sub) : wk_bd len (b + 2) (wk_F I F c f len sub deep) := by
  intro at_
  have hp := (cu_pre_mx f len 300 at_).1
  show (wk_bare I F c f len sub deep (cu_pre f len 300 at_).2).2.1 ≤ _
  generalize (cu_pre f len 300 at_).2 = e at hp
  unfold wk_bare
  split
  · rename_i h1
    have hl := cu_c_in h1 (by decide)
    split
    · show e + 1 + 1 ≤ _; omega
    · rename_i hd
      rcases h with z | z
      · exact absurd z hd
      · have := z (e + 1)
        show (sub (e + 1)).2.1 + 1 ≤ _; omega
  · split
    · have := (cu_num_mx f len 6 e 0).1
      show (cu_num f len 6 e 0).2 ≤ _; omega
    · split
      · show e + 1 ≤ _; omega
      · split
        · rename_i h4
          have := cu_isd_in h4
          show e + 1 + 1 ≤ _; omega
        · show e + 1 ≤ _; omega
theorem wk_Tl_bd {f : Nat → Int32} {len b : Nat} {fc : Nat → wk_R} (h : wk_bd len b fc) : ∀ (m : Nat) (r : wk_R) (B : Nat), r.2.1 ≤ B → len + b ≤ B → (wk_Tl f len fc m r).2.1 ≤ B
  | 0, r, B, h1, _ => h1
  | m + 1, r, B, h1, h2 => by
    unfold wk_Tl
    split
    · exact h1
    · split
      · rename_i hs
        have hl : r.2.1 < len := by
          rcases hs with z | z
          · exact cu_c_in z (by decide)
          · exact cu_c_in z (by decide)
        have hb := h (r.2.1 + 1)
        split
        · exact wk_Tl_bd h m _ B (by show (fc (r.2.1 + 1)).2.1 ≤ B; omega) h2
        · split
          · exact wk_Tl_bd h m _ B (by show (fc (r.2.1 + 1)).2.1 ≤ B; omega) h2
          · exact wk_Tl_bd h m _ B (by show (fc (r.2.1 + 1)).2.1 ≤ B; omega) h2
      · exact h1
theorem wk_El_bd {f : Nat → Int32} {len b : Nat} {fc : Nat → wk_R} (h : wk_bd len b fc) : ∀ (m : Nat) (r : wk_R) (B : Nat), r.2.1 ≤ B → len + b ≤ B → (wk_El f len fc m r).2.1 ≤ B
  | 0, r, B, h1, _ => h1
  | m + 1, r, B, h1, h2 => by
    unfold wk_El
    split
    · exact h1
    · split
      · rename_i hs
        have hl : r.2.1 < len := by
          rcases hs with z | z
          · exact cu_c_in z (by decide)
          · exact cu_c_in z (by decide)
        have hb := h (r.2.1 + 1)
        split
        · exact wk_El_bd h m _ B (by show (fc (r.2.1 + 1)).2.1 ≤ B; omega) h2
        · exact wk_El_bd h m _ B (by show (fc (r.2.1 + 1)).2.1 ≤ B; omega) h2
      · exact h1
theorem wk_T_bd {f : Nat → Int32} {len b : Nat} {fc : Nat → wk_R} (h : wk_bd len b fc) : wk_bd len b (wk_T f len fc) := fun at_ => wk_Tl_bd h 300 _ _ (h at_) (by omega)
theorem wk_E_bd {f : Nat → Int32} {len b : Nat} {fc : Nat → wk_R} (h : wk_bd len b fc) : wk_bd len b (wk_E f len fc) := fun at_ => wk_El_bd h 300 _ _ (h at_) (by omega)
theorem wk_X_bd {I : Nat → Int32} {F : Nat → Nat → Int32} {c : Nat} {f : Nat → Int32} {len : Nat} : ∀ k, wk_bd len (2 * k + 2) (wk_X I F c f len k)
  | 0 => wk_E_bd (wk_T_bd (wk_F_bd (b := 0) (Or.inl rfl)))
  | k + 1 => wk_E_bd (wk_T_bd (wk_F_bd (b := 2 * k + 2) (Or.inr (wk_X_bd k))))
/-- the contract of a method that reads something at the place: factor, term, expression -/
def wk_Q (h : ac_H) (w u pl : Nat) (f : Nat → Int32) (len : Nat) (r : wk_R) : Option Value → ac_H → Prop := fun r9 h9 => r9 = some (.long r.1) ∧ wk_ok h9 w u pl f len r.2.1 r.2.2 ∧ kp h h9 [w]
def wk_C (G : ac_G) (l : Launch) (y : MethodName) (cc : ByteArray) (w u pl : Nat) (f : Nat → Int32) (len : Nat) (A : Nat → Nat) (I : Nat → Int32) (F : Nat → Nat → Int32) (c dd dp : Nat) (x : Nat → wk_R) : Prop :=
  ∀ (h : ac_H) (at_ : Nat), wk_ok h w u pl f len at_ false → pl_ok h pl A I F c → at_ < 50000 → ac_Met G l y cc 8 (some .long) dd 0 0 [.ref w, .int (nI dp)] h (wk_Q h w u pl f len (x at_))
set_option maxHeartbeats 4000000 in
set_option maxRecDepth 100000 in
theorem c_walkFactor (G : ac_G) (l : Launch) (w u pl : Nat) (f : Nat → Int32) (len : Nat) (A : Nat → Nat) (I : Nat → Int32) (F : Nat → Nat → Int32) (c : Nat) (hlen : len ≤ 400) (hf : cu_ch f) (d dp b : Nat) (sub : Nat → wk_R) (deep : Bool) (hdp : dp ≤ 8) (hdeep : deep = true → dp = 8) (hsh : deep = false → dp < 8) (hb : b ≤ 100) (hsb : deep = false → wk_bd len b sub) (hS : deep = false → wk_C G l yX7_walkExpression cX7_walkExpression w u pl f len A I F c (d + 6) (dp + 1) sub) : wk_C G l yX7_walkFactor cX7_walkFactor w u pl f len A I F c (d + 7) dp (wk_F I F c f len sub deep) := by
  intro h at_ Kw Kp hat
  refine ac_of (ls := [.ref w, .int (nI dp), .retAddr 0, .retAddr 0, .retAddr 0, .retAddr 0, .retAddr 0, .retAddr 0]) (by decide +kernel) rfl (Nat.le_of_ble_eq_true rfl) (fun M hl C B E hnm => ?_)
  refine aw_aload_n C dX7_walkFactor_0 rfl rfl (q := 1) rfl ?_
  refine gfX7_28_7 (v := .int (nI at_)) C dX7_walkFactor_1 Kw.1 rfl (q := 4) rfl ?_
  refine aw_istore_n (ls' := [.ref w, .int (nI dp), .int (nI at_), .retAddr 0, .retAddr 0, .retAddr 0, .retAddr 0, .retAddr 0]) C dX7_walkFactor_4 rfl (by decide) rfl (q := 5) rfl ?_
  refine aw_aload_n C dX7_walkFactor_5 rfl rfl (q := 6) rfl ?_
  refine cvX7_63_7 (As := []) (rest := []) C B dX7_walkFactor_6 Kw.1 (c_passPrefixes7 G M.2.1 h d w u len at_ len f (.ref pl) (.int (pb_b (false = true))) Kw.1 Kw.2 (Nat.le_refl len) hlen (by omega) hf) rfl rfl (Nat.le_of_ble_eq_true rfl) (by omega) (by omega) (by omega) (q := 9) rfl (fun r9 h1 hr9 => ?_)
  obtain ⟨er9, fw1, kq1⟩ := hr9
  subst er9
  have hpm := cu_pre_mx f len 300 at_
  obtain ⟨e, he⟩ : ∃ e, e = (cu_pre f len 300 at_).2 := ⟨_, rfl⟩
  rw [← he] at fw1 hpm
  have K1 : wk_ok h1 w u pl f len e false := ⟨fw1, wk_u Kw kq1⟩
  show aw G 8 M 9 [.ref w, .int (nI dp), .int (nI at_), .retAddr 0, .retAddr 0, .retAddr 0, .retAddr 0, .retAddr 0] [.int (pb_b ((cu_pre f len 300 at_).1 = true))] h1 0 0
  refine aw_pop C dX7_walkFactor_9 rfl (q := 10) rfl ?_
  refine aw_aload_n C dX7_walkFactor_10 rfl rfl (q := 11) rfl ?_
  refine gfX7_28_7 (v := .int (nI e)) C dX7_walkFactor_11 K1.1 rfl (q := 14) rfl ?_
  refine aw_istore_n (ls' := [.ref w, .int (nI dp), .int (nI at_), .int (nI e), .retAddr 0, .retAddr 0, .retAddr 0, .retAddr 0]) C dX7_walkFactor_14 rfl (by decide) rfl (q := 15) rfl ?_
  refine aw_aload_n C dX7_walkFactor_15 rfl rfl (q := 16) rfl ?_
  refine cvX7_35_7 (As := []) (rest := []) C B dX7_walkFactor_16 K1.1 (c_here7 G M.2.1 h1 d w u len e len f (.ref pl) (.int (pb_b (false = true))) K1.1 K1.2 (Nat.le_refl len) hlen (by omega) hf) rfl rfl (Nat.le_of_ble_eq_true rfl) (by omega) (by omega) (by omega) (q := 19) rfl (fun r9 h9 hr9 => ?_)
  obtain ⟨e9, er9⟩ := hr9
  subst er9; rw [e9]
  show aw G 8 M 19 [.ref w, .int (nI dp), .int (nI at_), .int (nI e), .retAddr 0, .retAddr 0, .retAddr 0, .retAddr 0] [.int (cu_c f len e)] h1 0 0
  refine aw_istore (ls' := [.ref w, .int (nI dp), .int (nI at_), .int (nI e), .int (cu_c f len e), .retAddr 0, .retAddr 0, .retAddr 0]) C dX7_walkFactor_19 (by decide) rfl (q := 21) rfl ?_
  refine aw_lconst (v := 0) C dX7_walkFactor_21 (by decide) (q := 22) rfl ?_
  refine aw_lstore (ls' := [.ref w, .int (nI dp), .int (nI at_), .int (nI e), .int (cu_c f len e), .long 0, .retAddr 0, .retAddr 0]) C dX7_walkFactor_22 (by decide) rfl (q := 24) rfl ?_
  refine aw_iload C dX7_walkFactor_24 rfl (q := 26) rfl ?_
  refine aw_bipush (v := 40) C dX7_walkFactor_26 (by decide) (q := 28) rfl ?_
  refine aw_icmp_ne (t := 73) (q := 31) C dX7_walkFactor_28 (by decide) rfl (fun c_28 => ?_) (fun c_28 => ?_)
  ·
    refine aw_iload C dX7_walkFactor_73 rfl (q := 75) rfl ?_
    refine aw_bipush (v := 48) C dX7_walkFactor_75 (by decide) (q := 77) rfl ?_
    refine aw_icmp_lt (t := 97) (q := 80) C dX7_walkFactor_77 (by decide) rfl (fun c_77 => ?_) (fun c_77 => ?_)
    ·
      refine aw_aload_n C dX7_walkFactor_97 rfl rfl (q := 98) rfl ?_
      refine aw_dup C dX7_walkFactor_98 rfl (q := 99) rfl ?_
      refine gfX7_28_7 (v := .int (nI e)) C dX7_walkFactor_99 K1.1 rfl (q := 102) rfl ?_
      refine aw_iconst (v := 1) C dX7_walkFactor_102 (by decide) (q := 103) rfl ?_
      refine aw_iadd C dX7_walkFactor_103 (q := 104) rfl ?_
      rw [show nI e + 1 = nI (e + 1) from nI_1 _]
      refine pfX7_28_7 C dX7_walkFactor_104 K1.1 rfl rfl (Nat.le_of_ble_eq_true rfl) (q := 107) rfl ?_
      show aw G 8 M 107 [.ref w, .int (nI dp), .int (nI at_), .int (nI e), .int (cu_c f len e), .long 0, .retAddr 0, .retAddr 0] [] (ac_up h1 w (.inr (7, [.ref u, .int (nI len), .int (nI (e + 1)), .ref pl, .int (pb_b (false = true))]))) 0 0
      obtain ⟨h_1, eh_1⟩ : ∃ z, z = ac_up h1 w (.inr (7, [.ref u, .int (nI len), .int (nI (e + 1)), .ref pl, .int (pb_b (false = true))])) := ⟨_, rfl⟩
      rw [← eh_1]
      have f_2 : h_1 u = some (.inl (0, len, .inl (f))) := by rw [eh_1, ac_up_n _ _ (ne_ai K1.2 K1.1)]; exact K1.2
      have f_3 : h_1 w = some (.inr (7, [.ref u, .int (nI len), .int (nI (e + 1)), .ref pl, .int (pb_b (false = true))])) := by rw [eh_1]; exact ac_up_s _ _ _
      have kp_4 : kp h h_1 [w] := by rw [eh_1]; exact kp_up kq1 _ _ (by simp)
      have K_5 : wk_ok h_1 w u pl f len (e + 1) false := ⟨f_3, f_2⟩
      refine aw_iload C dX7_walkFactor_107 rfl (q := 109) rfl ?_
      refine aw_bipush (v := 108) C dX7_walkFactor_109 (by decide) (q := 111) rfl ?_
      refine aw_icmp_eq (t := 132) (q := 114) C dX7_walkFactor_111 (by decide) rfl (fun c_111 => ?_) (fun c_111 => ?_)
      ·
        refine aw_iconst (v := 0) C dX7_walkFactor_132 (by decide) (q := 133) rfl ?_
        refine aw_istore (ls' := [.ref w, .int (nI dp), .int (nI at_), .int (nI e), .int (cu_c f len e), .long 0, .retAddr 0, .int 0]) C dX7_walkFactor_133 (by decide) rfl (q := 135) rfl ?_
        refine aw_aload_n C dX7_walkFactor_135 rfl rfl (q := 136) rfl ?_
        refine gfX7_9_7 (v := .ref pl) C dX7_walkFactor_136 K_5.1 rfl (q := 139) rfl ?_
        refine aw_iload C dX7_walkFactor_139 rfl (q := 141) rfl ?_
        refine aw_iload C dX7_walkFactor_141 rfl (q := 143) rfl ?_
        refine aw_if_eq (t := 155) (q := 146) C dX7_walkFactor_143 (by decide) rfl (fun c_143 => ?_) (fun c_143 => absurd c_143 (by decide))
        refine aw_iconst (v := 0) C dX7_walkFactor_155 (by decide) (q := 156) rfl ?_
        refine aw_iconst (v := 0) C dX7_walkFactor_156 (by decide) (q := 157) rfl ?_
        have Kp3 := pl_kpw Kp Kw kp_4
        refine cvX7_74_1 (As := [.int (cu_c f len e), .int 0, .int 0]) (rest := []) C B dX7_walkFactor_157 Kp3.1 (c_measure G M.2.1 h_1 d pl A I F c (cu_c f len e) 0 0 Kp3) rfl rfl (Nat.le_of_ble_eq_true rfl) (by omega) (by omega) (by omega) (q := 160) rfl (fun r9 h9 hr9 => ?_)
        obtain ⟨e9, er9⟩ := hr9
        subst er9; rw [e9]
        show aw G 8 M 160 [.ref w, .int (nI dp), .int (nI at_), .int (nI e), .int (cu_c f len e), .long 0, .retAddr 0, .int 0] [.long (pl_measure I F (cu_c f len e) 0 0 c)] h_1 0 0
        refine aw_lstore (ls' := [.ref w, .int (nI dp), .int (nI at_), .int (nI e), .int (cu_c f len e), .long (pl_measure I F (cu_c f len e) 0 0 c), .retAddr 0, .int 0]) C dX7_walkFactor_160 (by decide) rfl (q := 162) rfl ?_
        refine aw_aload_n C dX7_walkFactor_162 rfl rfl (q := 163) rfl ?_
        refine aw_iload_n C dX7_walkFactor_163 rfl rfl (q := 164) rfl ?_
        refine aw_iload_n C dX7_walkFactor_164 rfl rfl (q := 165) rfl ?_
        refine aw_lload C dX7_walkFactor_165 rfl (q := 167) rfl ?_
        have Kp4 := pl_kpw Kp Kw kp_4
        refine cvX7_80_7 (As := [.int (nI at_), .int (nI e), .long (pl_measure I F (cu_c f len e) 0 0 c)]) (rest := []) C B dX7_walkFactor_167 K_5.1 (c_applyPrefixes G M.2.1 h_1 d w u pl len (e + 1) f A I F c at_ e (pl_measure I F (cu_c f len e) 0 0 c) false K_5 Kp4 hlen (by omega) (by omega) (by omega)) rfl rfl (Nat.le_of_ble_eq_true rfl) (by omega) (by omega) (by omega) (q := 170) rfl (fun r9 h5 hr9 => ?_)
        obtain ⟨er9, K5, kp9⟩ := hr9
        subst er9
        have kq5 : kp h h5 [w] := kp_mono (kp_tr kp_4 kp9) (by simp)
        show aw G 8 M 170 [.ref w, .int (nI dp), .int (nI at_), .int (nI e), .int (cu_c f len e), .long (pl_measure I F (cu_c f len e) 0 0 c), .retAddr 0, .int 0] [.long ((wk_app F c f at_ e e (pl_measure I F (cu_c f len e) 0 0 c) false).1)] h5 0 0
        refine aw_lret C E dX7_walkFactor_170 (Nat.le_refl _) (Nat.le_refl _) ?_
        have er : wk_F I F c f len sub deep at_ = wk_fin F c f at_ e (pl_measure I F (cu_c f len e) 0 0 c, e + 1, false) := by
          unfold wk_F wk_bare; rw [← he, if_neg c_28, if_neg (fun z => z.1 c_77), if_pos (Or.inl c_111)]
        rw [er]; exact ⟨rfl, K5, kq5⟩
      ·
        refine aw_iload C dX7_walkFactor_114 rfl (q := 116) rfl ?_
        refine aw_bipush (v := 119) C dX7_walkFactor_116 (by decide) (q := 118) rfl ?_
        refine aw_icmp_eq (t := 132) (q := 121) C dX7_walkFactor_118 (by decide) rfl (fun c_118 => ?_) (fun c_118 => ?_)
        ·
          refine aw_iconst (v := 0) C dX7_walkFactor_132 (by decide) (q := 133) rfl ?_
          refine aw_istore (ls' := [.ref w, .int (nI dp), .int (nI at_), .int (nI e), .int (cu_c f len e), .long 0, .retAddr 0, .int 0]) C dX7_walkFactor_133 (by decide) rfl (q := 135) rfl ?_
          refine aw_aload_n C dX7_walkFactor_135 rfl rfl (q := 136) rfl ?_
          refine gfX7_9_7 (v := .ref pl) C dX7_walkFactor_136 K_5.1 rfl (q := 139) rfl ?_
          refine aw_iload C dX7_walkFactor_139 rfl (q := 141) rfl ?_
          refine aw_iload C dX7_walkFactor_141 rfl (q := 143) rfl ?_
          refine aw_if_eq (t := 155) (q := 146) C dX7_walkFactor_143 (by decide) rfl (fun c_143 => ?_) (fun c_143 => absurd c_143 (by decide))
          refine aw_iconst (v := 0) C dX7_walkFactor_155 (by decide) (q := 156) rfl ?_
          refine aw_iconst (v := 0) C dX7_walkFactor_156 (by decide) (q := 157) rfl ?_
          have Kp3 := pl_kpw Kp Kw kp_4
          refine cvX7_74_1 (As := [.int (cu_c f len e), .int 0, .int 0]) (rest := []) C B dX7_walkFactor_157 Kp3.1 (c_measure G M.2.1 h_1 d pl A I F c (cu_c f len e) 0 0 Kp3) rfl rfl (Nat.le_of_ble_eq_true rfl) (by omega) (by omega) (by omega) (q := 160) rfl (fun r9 h9 hr9 => ?_)
          obtain ⟨e9, er9⟩ := hr9
          subst er9; rw [e9]
          show aw G 8 M 160 [.ref w, .int (nI dp), .int (nI at_), .int (nI e), .int (cu_c f len e), .long 0, .retAddr 0, .int 0] [.long (pl_measure I F (cu_c f len e) 0 0 c)] h_1 0 0
          refine aw_lstore (ls' := [.ref w, .int (nI dp), .int (nI at_), .int (nI e), .int (cu_c f len e), .long (pl_measure I F (cu_c f len e) 0 0 c), .retAddr 0, .int 0]) C dX7_walkFactor_160 (by decide) rfl (q := 162) rfl ?_
          refine aw_aload_n C dX7_walkFactor_162 rfl rfl (q := 163) rfl ?_
          refine aw_iload_n C dX7_walkFactor_163 rfl rfl (q := 164) rfl ?_
          refine aw_iload_n C dX7_walkFactor_164 rfl rfl (q := 165) rfl ?_
          refine aw_lload C dX7_walkFactor_165 rfl (q := 167) rfl ?_
          have Kp4 := pl_kpw Kp Kw kp_4
          refine cvX7_80_7 (As := [.int (nI at_), .int (nI e), .long (pl_measure I F (cu_c f len e) 0 0 c)]) (rest := []) C B dX7_walkFactor_167 K_5.1 (c_applyPrefixes G M.2.1 h_1 d w u pl len (e + 1) f A I F c at_ e (pl_measure I F (cu_c f len e) 0 0 c) false K_5 Kp4 hlen (by omega) (by omega) (by omega)) rfl rfl (Nat.le_of_ble_eq_true rfl) (by omega) (by omega) (by omega) (q := 170) rfl (fun r9 h5 hr9 => ?_)
          obtain ⟨er9, K5, kp9⟩ := hr9
          subst er9
          have kq5 : kp h h5 [w] := kp_mono (kp_tr kp_4 kp9) (by simp)
          show aw G 8 M 170 [.ref w, .int (nI dp), .int (nI at_), .int (nI e), .int (cu_c f len e), .long (pl_measure I F (cu_c f len e) 0 0 c), .retAddr 0, .int 0] [.long ((wk_app F c f at_ e e (pl_measure I F (cu_c f len e) 0 0 c) false).1)] h5 0 0
          refine aw_lret C E dX7_walkFactor_170 (Nat.le_refl _) (Nat.le_refl _) ?_
          have er : wk_F I F c f len sub deep at_ = wk_fin F c f at_ e (pl_measure I F (cu_c f len e) 0 0 c, e + 1, false) := by
            unfold wk_F wk_bare; rw [← he, if_neg c_28, if_neg (fun z => z.1 c_77), if_pos (Or.inr (Or.inl c_118))]
          rw [er]; exact ⟨rfl, K5, kq5⟩
        ·
          refine aw_iload C dX7_walkFactor_121 rfl (q := 123) rfl ?_
          refine aw_bipush (v := 116) C dX7_walkFactor_123 (by decide) (q := 125) rfl ?_
          refine aw_icmp_eq (t := 132) (q := 128) C dX7_walkFactor_125 (by decide) rfl (fun c_125 => ?_) (fun c_125 => ?_)
          ·
            refine aw_iconst (v := 0) C dX7_walkFactor_132 (by decide) (q := 133) rfl ?_
            refine aw_istore (ls' := [.ref w, .int (nI dp), .int (nI at_), .int (nI e), .int (cu_c f len e), .long 0, .retAddr 0, .int 0]) C dX7_walkFactor_133 (by decide) rfl (q := 135) rfl ?_
            refine aw_aload_n C dX7_walkFactor_135 rfl rfl (q := 136) rfl ?_
            refine gfX7_9_7 (v := .ref pl) C dX7_walkFactor_136 K_5.1 rfl (q := 139) rfl ?_
            refine aw_iload C dX7_walkFactor_139 rfl (q := 141) rfl ?_
            refine aw_iload C dX7_walkFactor_141 rfl (q := 143) rfl ?_
            refine aw_if_eq (t := 155) (q := 146) C dX7_walkFactor_143 (by decide) rfl (fun c_143 => ?_) (fun c_143 => absurd c_143 (by decide))
            refine aw_iconst (v := 0) C dX7_walkFactor_155 (by decide) (q := 156) rfl ?_
            refine aw_iconst (v := 0) C dX7_walkFactor_156 (by decide) (q := 157) rfl ?_
            have Kp3 := pl_kpw Kp Kw kp_4
            refine cvX7_74_1 (As := [.int (cu_c f len e), .int 0, .int 0]) (rest := []) C B dX7_walkFactor_157 Kp3.1 (c_measure G M.2.1 h_1 d pl A I F c (cu_c f len e) 0 0 Kp3) rfl rfl (Nat.le_of_ble_eq_true rfl) (by omega) (by omega) (by omega) (q := 160) rfl (fun r9 h9 hr9 => ?_)
            obtain ⟨e9, er9⟩ := hr9
            subst er9; rw [e9]
            show aw G 8 M 160 [.ref w, .int (nI dp), .int (nI at_), .int (nI e), .int (cu_c f len e), .long 0, .retAddr 0, .int 0] [.long (pl_measure I F (cu_c f len e) 0 0 c)] h_1 0 0
            refine aw_lstore (ls' := [.ref w, .int (nI dp), .int (nI at_), .int (nI e), .int (cu_c f len e), .long (pl_measure I F (cu_c f len e) 0 0 c), .retAddr 0, .int 0]) C dX7_walkFactor_160 (by decide) rfl (q := 162) rfl ?_
            refine aw_aload_n C dX7_walkFactor_162 rfl rfl (q := 163) rfl ?_
            refine aw_iload_n C dX7_walkFactor_163 rfl rfl (q := 164) rfl ?_
            refine aw_iload_n C dX7_walkFactor_164 rfl rfl (q := 165) rfl ?_
            refine aw_lload C dX7_walkFactor_165 rfl (q := 167) rfl ?_
            have Kp4 := pl_kpw Kp Kw kp_4
            refine cvX7_80_7 (As := [.int (nI at_), .int (nI e), .long (pl_measure I F (cu_c f len e) 0 0 c)]) (rest := []) C B dX7_walkFactor_167 K_5.1 (c_applyPrefixes G M.2.1 h_1 d w u pl len (e + 1) f A I F c at_ e (pl_measure I F (cu_c f len e) 0 0 c) false K_5 Kp4 hlen (by omega) (by omega) (by omega)) rfl rfl (Nat.le_of_ble_eq_true rfl) (by omega) (by omega) (by omega) (q := 170) rfl (fun r9 h5 hr9 => ?_)
            obtain ⟨er9, K5, kp9⟩ := hr9
            subst er9
            have kq5 : kp h h5 [w] := kp_mono (kp_tr kp_4 kp9) (by simp)
            show aw G 8 M 170 [.ref w, .int (nI dp), .int (nI at_), .int (nI e), .int (cu_c f len e), .long (pl_measure I F (cu_c f len e) 0 0 c), .retAddr 0, .int 0] [.long ((wk_app F c f at_ e e (pl_measure I F (cu_c f len e) 0 0 c) false).1)] h5 0 0
            refine aw_lret C E dX7_walkFactor_170 (Nat.le_refl _) (Nat.le_refl _) ?_
            have er : wk_F I F c f len sub deep at_ = wk_fin F c f at_ e (pl_measure I F (cu_c f len e) 0 0 c, e + 1, false) := by
              unfold wk_F wk_bare; rw [← he, if_neg c_28, if_neg (fun z => z.1 c_77), if_pos (Or.inr (Or.inr c_125))]
            rw [er]; exact ⟨rfl, K5, kq5⟩
          ·
            refine aw_iconst (v := 1) C dX7_walkFactor_128 (by decide) (q := 129) rfl ?_
            refine aw_goto (q := 133) C dX7_walkFactor_129 (by decide) ?_
            refine aw_istore (ls' := [.ref w, .int (nI dp), .int (nI at_), .int (nI e), .int (cu_c f len e), .long 0, .retAddr 0, .int 1]) C dX7_walkFactor_133 (by decide) rfl (q := 135) rfl ?_
            refine aw_aload_n C dX7_walkFactor_135 rfl rfl (q := 136) rfl ?_
            refine gfX7_9_7 (v := .ref pl) C dX7_walkFactor_136 K_5.1 rfl (q := 139) rfl ?_
            refine aw_iload C dX7_walkFactor_139 rfl (q := 141) rfl ?_
            refine aw_iload C dX7_walkFactor_141 rfl (q := 143) rfl ?_
            refine aw_if_eq (t := 155) (q := 146) C dX7_walkFactor_143 (by decide) rfl (fun c_143 => absurd c_143 (by decide)) (fun c_143 => ?_)
            refine aw_aload_n C dX7_walkFactor_146 rfl rfl (q := 147) rfl ?_
            refine aw_bipush (v := 8) C dX7_walkFactor_147 (by decide) (q := 149) rfl ?_
            refine cvX7_70_7 (As := [.int 8]) (rest := [.int (cu_c f len e), .ref pl]) C B dX7_walkFactor_149 K_5.1 (c_passDigit7 G M.2.1 h_1 d w u len (e + 1) len f (.ref pl) (.int (pb_b (false = true))) 8 K_5.1 K_5.2 (Nat.le_refl len) hlen (by omega) hf) rfl rfl (Nat.le_of_ble_eq_true rfl) (by omega) (by omega) (by omega) (q := 152) rfl (fun r9 h3 hr9 => ?_)
            obtain ⟨er9, fw3, kp9⟩ := hr9
            subst er9
            have kq3 : kp h h3 [w] := kp_mono (kp_tr kp_4 kp9) (by simp)
            have fu3 := wk_u K_5 kp9
            by_cases hd9 : cu_isd (cu_c f len (e + 1)) 8
            ·
              rw [if_pos hd9] at fw3
              rw [if_pos hd9]
              have K3 : wk_ok h3 w u pl f len (e + 1 + 1) false := ⟨fw3, fu3⟩
              show aw G 8 M 152 [.ref w, .int (nI dp), .int (nI at_), .int (nI e), .int (cu_c f len e), .long 0, .retAddr 0, .int 1] [.int (cu_c f len (e + 1) - 48), .int (cu_c f len e), .ref pl] h3 0 0
              refine aw_goto (q := 156) C dX7_walkFactor_152 (by decide) ?_
              refine aw_iconst (v := 0) C dX7_walkFactor_156 (by decide) (q := 157) rfl ?_
              have Kp3 := pl_kpw Kp Kw kq3
              refine cvX7_74_1 (As := [.int (cu_c f len e), .int (cu_c f len (e + 1) - 48), .int 0]) (rest := []) C B dX7_walkFactor_157 Kp3.1 (c_measure G M.2.1 h3 d pl A I F c (cu_c f len e) (cu_c f len (e + 1) - 48) 0 Kp3) rfl rfl (Nat.le_of_ble_eq_true rfl) (by omega) (by omega) (by omega) (q := 160) rfl (fun r9 h9 hr9 => ?_)
              obtain ⟨e9, er9⟩ := hr9
              subst er9; rw [e9]
              show aw G 8 M 160 [.ref w, .int (nI dp), .int (nI at_), .int (nI e), .int (cu_c f len e), .long 0, .retAddr 0, .int 1] [.long (pl_measure I F (cu_c f len e) (cu_c f len (e + 1) - 48) 0 c)] h3 0 0
              refine aw_lstore (ls' := [.ref w, .int (nI dp), .int (nI at_), .int (nI e), .int (cu_c f len e), .long (pl_measure I F (cu_c f len e) (cu_c f len (e + 1) - 48) 0 c), .retAddr 0, .int 1]) C dX7_walkFactor_160 (by decide) rfl (q := 162) rfl ?_
              refine aw_aload_n C dX7_walkFactor_162 rfl rfl (q := 163) rfl ?_
              refine aw_iload_n C dX7_walkFactor_163 rfl rfl (q := 164) rfl ?_
              refine aw_iload_n C dX7_walkFactor_164 rfl rfl (q := 165) rfl ?_
              refine aw_lload C dX7_walkFactor_165 rfl (q := 167) rfl ?_
              have Kp4 := pl_kpw Kp Kw kq3
              refine cvX7_80_7 (As := [.int (nI at_), .int (nI e), .long (pl_measure I F (cu_c f len e) (cu_c f len (e + 1) - 48) 0 c)]) (rest := []) C B dX7_walkFactor_167 K3.1 (c_applyPrefixes G M.2.1 h3 d w u pl len (e + 1 + 1) f A I F c at_ e (pl_measure I F (cu_c f len e) (cu_c f len (e + 1) - 48) 0 c) false K3 Kp4 hlen (by omega) (by omega) (by omega)) rfl rfl (Nat.le_of_ble_eq_true rfl) (by omega) (by omega) (by omega) (q := 170) rfl (fun r9 h5 hr9 => ?_)
              obtain ⟨er9, K5, kp9⟩ := hr9
              subst er9
              have kq5 : kp h h5 [w] := kp_mono (kp_tr kq3 kp9) (by simp)
              show aw G 8 M 170 [.ref w, .int (nI dp), .int (nI at_), .int (nI e), .int (cu_c f len e), .long (pl_measure I F (cu_c f len e) (cu_c f len (e + 1) - 48) 0 c), .retAddr 0, .int 1] [.long ((wk_app F c f at_ e e (pl_measure I F (cu_c f len e) (cu_c f len (e + 1) - 48) 0 c) false).1)] h5 0 0
              refine aw_lret C E dX7_walkFactor_170 (Nat.le_refl _) (Nat.le_refl _) ?_
              have er : wk_F I F c f len sub deep at_ = wk_fin F c f at_ e (pl_measure I F (cu_c f len e) (cu_c f len (e + 1) - 48) 0 c, e + 1 + 1, false) := by
                unfold wk_F wk_bare; rw [← he, if_neg c_28, if_neg (fun z => z.1 c_77), if_neg (by rintro (z | z | z); exact c_111 z; exact c_118 z; exact c_125 z), if_pos hd9]
              rw [er]; exact ⟨rfl, K5, kq5⟩
            ·
              rw [if_neg hd9] at fw3
              rw [if_neg hd9]
              have K3 : wk_ok h3 w u pl f len (e + 1) false := ⟨fw3, fu3⟩
              show aw G 8 M 152 [.ref w, .int (nI dp), .int (nI at_), .int (nI e), .int (cu_c f len e), .long 0, .retAddr 0, .int 1] [.int ((-1)), .int (cu_c f len e), .ref pl] h3 0 0
              refine aw_goto (q := 156) C dX7_walkFactor_152 (by decide) ?_
              refine aw_iconst (v := 0) C dX7_walkFactor_156 (by decide) (q := 157) rfl ?_
              have Kp3 := pl_kpw Kp Kw kq3
              refine cvX7_74_1 (As := [.int (cu_c f len e), .int ((-1)), .int 0]) (rest := []) C B dX7_walkFactor_157 Kp3.1 (c_measure G M.2.1 h3 d pl A I F c (cu_c f len e) ((-1)) 0 Kp3) rfl rfl (Nat.le_of_ble_eq_true rfl) (by omega) (by omega) (by omega) (q := 160) rfl (fun r9 h9 hr9 => ?_)
              obtain ⟨e9, er9⟩ := hr9
              subst er9; rw [e9]
              show aw G 8 M 160 [.ref w, .int (nI dp), .int (nI at_), .int (nI e), .int (cu_c f len e), .long 0, .retAddr 0, .int 1] [.long (pl_measure I F (cu_c f len e) ((-1)) 0 c)] h3 0 0
              refine aw_lstore (ls' := [.ref w, .int (nI dp), .int (nI at_), .int (nI e), .int (cu_c f len e), .long (pl_measure I F (cu_c f len e) ((-1)) 0 c), .retAddr 0, .int 1]) C dX7_walkFactor_160 (by decide) rfl (q := 162) rfl ?_
              refine aw_aload_n C dX7_walkFactor_162 rfl rfl (q := 163) rfl ?_
              refine aw_iload_n C dX7_walkFactor_163 rfl rfl (q := 164) rfl ?_
              refine aw_iload_n C dX7_walkFactor_164 rfl rfl (q := 165) rfl ?_
              refine aw_lload C dX7_walkFactor_165 rfl (q := 167) rfl ?_
              have Kp4 := pl_kpw Kp Kw kq3
              refine cvX7_80_7 (As := [.int (nI at_), .int (nI e), .long (pl_measure I F (cu_c f len e) ((-1)) 0 c)]) (rest := []) C B dX7_walkFactor_167 K3.1 (c_applyPrefixes G M.2.1 h3 d w u pl len (e + 1) f A I F c at_ e (pl_measure I F (cu_c f len e) ((-1)) 0 c) false K3 Kp4 hlen (by omega) (by omega) (by omega)) rfl rfl (Nat.le_of_ble_eq_true rfl) (by omega) (by omega) (by omega) (q := 170) rfl (fun r9 h5 hr9 => ?_)
              obtain ⟨er9, K5, kp9⟩ := hr9
              subst er9
              have kq5 : kp h h5 [w] := kp_mono (kp_tr kq3 kp9) (by simp)
              show aw G 8 M 170 [.ref w, .int (nI dp), .int (nI at_), .int (nI e), .int (cu_c f len e), .long (pl_measure I F (cu_c f len e) ((-1)) 0 c), .retAddr 0, .int 1] [.long ((wk_app F c f at_ e e (pl_measure I F (cu_c f len e) ((-1)) 0 c) false).1)] h5 0 0
              refine aw_lret C E dX7_walkFactor_170 (Nat.le_refl _) (Nat.le_refl _) ?_
              have er : wk_F I F c f len sub deep at_ = wk_fin F c f at_ e (pl_measure I F (cu_c f len e) ((-1)) 0 c, e + 1, false) := by
                unfold wk_F wk_bare; rw [← he, if_neg c_28, if_neg (fun z => z.1 c_77), if_neg (by rintro (z | z | z); exact c_111 z; exact c_118 z; exact c_125 z), if_neg hd9]
              rw [er]; exact ⟨rfl, K5, kq5⟩
    ·
      refine aw_iload C dX7_walkFactor_80 rfl (q := 82) rfl ?_
      refine aw_bipush (v := 57) C dX7_walkFactor_82 (by decide) (q := 84) rfl ?_
      refine aw_icmp_gt (t := 97) (q := 87) C dX7_walkFactor_84 (by decide) rfl (fun c_84 => ?_) (fun c_84 => ?_)
      ·
        refine aw_aload_n C dX7_walkFactor_97 rfl rfl (q := 98) rfl ?_
        refine aw_dup C dX7_walkFactor_98 rfl (q := 99) rfl ?_
        refine gfX7_28_7 (v := .int (nI e)) C dX7_walkFactor_99 K1.1 rfl (q := 102) rfl ?_
        refine aw_iconst (v := 1) C dX7_walkFactor_102 (by decide) (q := 103) rfl ?_
        refine aw_iadd C dX7_walkFactor_103 (q := 104) rfl ?_
        rw [show nI e + 1 = nI (e + 1) from nI_1 _]
        refine pfX7_28_7 C dX7_walkFactor_104 K1.1 rfl rfl (Nat.le_of_ble_eq_true rfl) (q := 107) rfl ?_
        show aw G 8 M 107 [.ref w, .int (nI dp), .int (nI at_), .int (nI e), .int (cu_c f len e), .long 0, .retAddr 0, .retAddr 0] [] (ac_up h1 w (.inr (7, [.ref u, .int (nI len), .int (nI (e + 1)), .ref pl, .int (pb_b (false = true))]))) 0 0
        obtain ⟨h_6, eh_6⟩ : ∃ z, z = ac_up h1 w (.inr (7, [.ref u, .int (nI len), .int (nI (e + 1)), .ref pl, .int (pb_b (false = true))])) := ⟨_, rfl⟩
        rw [← eh_6]
        have f_7 : h_6 u = some (.inl (0, len, .inl (f))) := by rw [eh_6, ac_up_n _ _ (ne_ai K1.2 K1.1)]; exact K1.2
        have f_8 : h_6 w = some (.inr (7, [.ref u, .int (nI len), .int (nI (e + 1)), .ref pl, .int (pb_b (false = true))])) := by rw [eh_6]; exact ac_up_s _ _ _
        have kp_9 : kp h h_6 [w] := by rw [eh_6]; exact kp_up kq1 _ _ (by simp)
        have K_10 : wk_ok h_6 w u pl f len (e + 1) false := ⟨f_8, f_7⟩
        refine aw_iload C dX7_walkFactor_107 rfl (q := 109) rfl ?_
        refine aw_bipush (v := 108) C dX7_walkFactor_109 (by decide) (q := 111) rfl ?_
        refine aw_icmp_eq (t := 132) (q := 114) C dX7_walkFactor_111 (by decide) rfl (fun c_111 => ?_) (fun c_111 => ?_)
        ·
          refine aw_iconst (v := 0) C dX7_walkFactor_132 (by decide) (q := 133) rfl ?_
          refine aw_istore (ls' := [.ref w, .int (nI dp), .int (nI at_), .int (nI e), .int (cu_c f len e), .long 0, .retAddr 0, .int 0]) C dX7_walkFactor_133 (by decide) rfl (q := 135) rfl ?_
          refine aw_aload_n C dX7_walkFactor_135 rfl rfl (q := 136) rfl ?_
          refine gfX7_9_7 (v := .ref pl) C dX7_walkFactor_136 K_10.1 rfl (q := 139) rfl ?_
          refine aw_iload C dX7_walkFactor_139 rfl (q := 141) rfl ?_
          refine aw_iload C dX7_walkFactor_141 rfl (q := 143) rfl ?_
          refine aw_if_eq (t := 155) (q := 146) C dX7_walkFactor_143 (by decide) rfl (fun c_143 => ?_) (fun c_143 => absurd c_143 (by decide))
          refine aw_iconst (v := 0) C dX7_walkFactor_155 (by decide) (q := 156) rfl ?_
          refine aw_iconst (v := 0) C dX7_walkFactor_156 (by decide) (q := 157) rfl ?_
          have Kp3 := pl_kpw Kp Kw kp_9
          refine cvX7_74_1 (As := [.int (cu_c f len e), .int 0, .int 0]) (rest := []) C B dX7_walkFactor_157 Kp3.1 (c_measure G M.2.1 h_6 d pl A I F c (cu_c f len e) 0 0 Kp3) rfl rfl (Nat.le_of_ble_eq_true rfl) (by omega) (by omega) (by omega) (q := 160) rfl (fun r9 h9 hr9 => ?_)
          obtain ⟨e9, er9⟩ := hr9
          subst er9; rw [e9]
          show aw G 8 M 160 [.ref w, .int (nI dp), .int (nI at_), .int (nI e), .int (cu_c f len e), .long 0, .retAddr 0, .int 0] [.long (pl_measure I F (cu_c f len e) 0 0 c)] h_6 0 0
          refine aw_lstore (ls' := [.ref w, .int (nI dp), .int (nI at_), .int (nI e), .int (cu_c f len e), .long (pl_measure I F (cu_c f len e) 0 0 c), .retAddr 0, .int 0]) C dX7_walkFactor_160 (by decide) rfl (q := 162) rfl ?_
          refine aw_aload_n C dX7_walkFactor_162 rfl rfl (q := 163) rfl ?_
          refine aw_iload_n C dX7_walkFactor_163 rfl rfl (q := 164) rfl ?_
          refine aw_iload_n C dX7_walkFactor_164 rfl rfl (q := 165) rfl ?_
          refine aw_lload C dX7_walkFactor_165 rfl (q := 167) rfl ?_
          have Kp4 := pl_kpw Kp Kw kp_9
          refine cvX7_80_7 (As := [.int (nI at_), .int (nI e), .long (pl_measure I F (cu_c f len e) 0 0 c)]) (rest := []) C B dX7_walkFactor_167 K_10.1 (c_applyPrefixes G M.2.1 h_6 d w u pl len (e + 1) f A I F c at_ e (pl_measure I F (cu_c f len e) 0 0 c) false K_10 Kp4 hlen (by omega) (by omega) (by omega)) rfl rfl (Nat.le_of_ble_eq_true rfl) (by omega) (by omega) (by omega) (q := 170) rfl (fun r9 h5 hr9 => ?_)
          obtain ⟨er9, K5, kp9⟩ := hr9
          subst er9
          have kq5 : kp h h5 [w] := kp_mono (kp_tr kp_9 kp9) (by simp)
          show aw G 8 M 170 [.ref w, .int (nI dp), .int (nI at_), .int (nI e), .int (cu_c f len e), .long (pl_measure I F (cu_c f len e) 0 0 c), .retAddr 0, .int 0] [.long ((wk_app F c f at_ e e (pl_measure I F (cu_c f len e) 0 0 c) false).1)] h5 0 0
          refine aw_lret C E dX7_walkFactor_170 (Nat.le_refl _) (Nat.le_refl _) ?_
          have er : wk_F I F c f len sub deep at_ = wk_fin F c f at_ e (pl_measure I F (cu_c f len e) 0 0 c, e + 1, false) := by
            unfold wk_F wk_bare; rw [← he, if_neg c_28, if_neg (fun z => z.2 c_84), if_pos (Or.inl c_111)]
          rw [er]; exact ⟨rfl, K5, kq5⟩
        ·
          refine aw_iload C dX7_walkFactor_114 rfl (q := 116) rfl ?_
          refine aw_bipush (v := 119) C dX7_walkFactor_116 (by decide) (q := 118) rfl ?_
          refine aw_icmp_eq (t := 132) (q := 121) C dX7_walkFactor_118 (by decide) rfl (fun c_118 => ?_) (fun c_118 => ?_)
          ·
            refine aw_iconst (v := 0) C dX7_walkFactor_132 (by decide) (q := 133) rfl ?_
            refine aw_istore (ls' := [.ref w, .int (nI dp), .int (nI at_), .int (nI e), .int (cu_c f len e), .long 0, .retAddr 0, .int 0]) C dX7_walkFactor_133 (by decide) rfl (q := 135) rfl ?_
            refine aw_aload_n C dX7_walkFactor_135 rfl rfl (q := 136) rfl ?_
            refine gfX7_9_7 (v := .ref pl) C dX7_walkFactor_136 K_10.1 rfl (q := 139) rfl ?_
            refine aw_iload C dX7_walkFactor_139 rfl (q := 141) rfl ?_
            refine aw_iload C dX7_walkFactor_141 rfl (q := 143) rfl ?_
            refine aw_if_eq (t := 155) (q := 146) C dX7_walkFactor_143 (by decide) rfl (fun c_143 => ?_) (fun c_143 => absurd c_143 (by decide))
            refine aw_iconst (v := 0) C dX7_walkFactor_155 (by decide) (q := 156) rfl ?_
            refine aw_iconst (v := 0) C dX7_walkFactor_156 (by decide) (q := 157) rfl ?_
            have Kp3 := pl_kpw Kp Kw kp_9
            refine cvX7_74_1 (As := [.int (cu_c f len e), .int 0, .int 0]) (rest := []) C B dX7_walkFactor_157 Kp3.1 (c_measure G M.2.1 h_6 d pl A I F c (cu_c f len e) 0 0 Kp3) rfl rfl (Nat.le_of_ble_eq_true rfl) (by omega) (by omega) (by omega) (q := 160) rfl (fun r9 h9 hr9 => ?_)
            obtain ⟨e9, er9⟩ := hr9
            subst er9; rw [e9]
            show aw G 8 M 160 [.ref w, .int (nI dp), .int (nI at_), .int (nI e), .int (cu_c f len e), .long 0, .retAddr 0, .int 0] [.long (pl_measure I F (cu_c f len e) 0 0 c)] h_6 0 0
            refine aw_lstore (ls' := [.ref w, .int (nI dp), .int (nI at_), .int (nI e), .int (cu_c f len e), .long (pl_measure I F (cu_c f len e) 0 0 c), .retAddr 0, .int 0]) C dX7_walkFactor_160 (by decide) rfl (q := 162) rfl ?_
            refine aw_aload_n C dX7_walkFactor_162 rfl rfl (q := 163) rfl ?_
            refine aw_iload_n C dX7_walkFactor_163 rfl rfl (q := 164) rfl ?_
            refine aw_iload_n C dX7_walkFactor_164 rfl rfl (q := 165) rfl ?_
            refine aw_lload C dX7_walkFactor_165 rfl (q := 167) rfl ?_
            have Kp4 := pl_kpw Kp Kw kp_9
            refine cvX7_80_7 (As := [.int (nI at_), .int (nI e), .long (pl_measure I F (cu_c f len e) 0 0 c)]) (rest := []) C B dX7_walkFactor_167 K_10.1 (c_applyPrefixes G M.2.1 h_6 d w u pl len (e + 1) f A I F c at_ e (pl_measure I F (cu_c f len e) 0 0 c) false K_10 Kp4 hlen (by omega) (by omega) (by omega)) rfl rfl (Nat.le_of_ble_eq_true rfl) (by omega) (by omega) (by omega) (q := 170) rfl (fun r9 h5 hr9 => ?_)
            obtain ⟨er9, K5, kp9⟩ := hr9
            subst er9
            have kq5 : kp h h5 [w] := kp_mono (kp_tr kp_9 kp9) (by simp)
            show aw G 8 M 170 [.ref w, .int (nI dp), .int (nI at_), .int (nI e), .int (cu_c f len e), .long (pl_measure I F (cu_c f len e) 0 0 c), .retAddr 0, .int 0] [.long ((wk_app F c f at_ e e (pl_measure I F (cu_c f len e) 0 0 c) false).1)] h5 0 0
            refine aw_lret C E dX7_walkFactor_170 (Nat.le_refl _) (Nat.le_refl _) ?_
            have er : wk_F I F c f len sub deep at_ = wk_fin F c f at_ e (pl_measure I F (cu_c f len e) 0 0 c, e + 1, false) := by
              unfold wk_F wk_bare; rw [← he, if_neg c_28, if_neg (fun z => z.2 c_84), if_pos (Or.inr (Or.inl c_118))]
            rw [er]; exact ⟨rfl, K5, kq5⟩
          ·
            refine aw_iload C dX7_walkFactor_121 rfl (q := 123) rfl ?_
            refine aw_bipush (v := 116) C dX7_walkFactor_123 (by decide) (q := 125) rfl ?_
            refine aw_icmp_eq (t := 132) (q := 128) C dX7_walkFactor_125 (by decide) rfl (fun c_125 => ?_) (fun c_125 => ?_)
            ·
              refine aw_iconst (v := 0) C dX7_walkFactor_132 (by decide) (q := 133) rfl ?_
              refine aw_istore (ls' := [.ref w, .int (nI dp), .int (nI at_), .int (nI e), .int (cu_c f len e), .long 0, .retAddr 0, .int 0]) C dX7_walkFactor_133 (by decide) rfl (q := 135) rfl ?_
              refine aw_aload_n C dX7_walkFactor_135 rfl rfl (q := 136) rfl ?_
              refine gfX7_9_7 (v := .ref pl) C dX7_walkFactor_136 K_10.1 rfl (q := 139) rfl ?_
              refine aw_iload C dX7_walkFactor_139 rfl (q := 141) rfl ?_
              refine aw_iload C dX7_walkFactor_141 rfl (q := 143) rfl ?_
              refine aw_if_eq (t := 155) (q := 146) C dX7_walkFactor_143 (by decide) rfl (fun c_143 => ?_) (fun c_143 => absurd c_143 (by decide))
              refine aw_iconst (v := 0) C dX7_walkFactor_155 (by decide) (q := 156) rfl ?_
              refine aw_iconst (v := 0) C dX7_walkFactor_156 (by decide) (q := 157) rfl ?_
              have Kp3 := pl_kpw Kp Kw kp_9
              refine cvX7_74_1 (As := [.int (cu_c f len e), .int 0, .int 0]) (rest := []) C B dX7_walkFactor_157 Kp3.1 (c_measure G M.2.1 h_6 d pl A I F c (cu_c f len e) 0 0 Kp3) rfl rfl (Nat.le_of_ble_eq_true rfl) (by omega) (by omega) (by omega) (q := 160) rfl (fun r9 h9 hr9 => ?_)
              obtain ⟨e9, er9⟩ := hr9
              subst er9; rw [e9]
              show aw G 8 M 160 [.ref w, .int (nI dp), .int (nI at_), .int (nI e), .int (cu_c f len e), .long 0, .retAddr 0, .int 0] [.long (pl_measure I F (cu_c f len e) 0 0 c)] h_6 0 0
              refine aw_lstore (ls' := [.ref w, .int (nI dp), .int (nI at_), .int (nI e), .int (cu_c f len e), .long (pl_measure I F (cu_c f len e) 0 0 c), .retAddr 0, .int 0]) C dX7_walkFactor_160 (by decide) rfl (q := 162) rfl ?_
              refine aw_aload_n C dX7_walkFactor_162 rfl rfl (q := 163) rfl ?_
              refine aw_iload_n C dX7_walkFactor_163 rfl rfl (q := 164) rfl ?_
              refine aw_iload_n C dX7_walkFactor_164 rfl rfl (q := 165) rfl ?_
              refine aw_lload C dX7_walkFactor_165 rfl (q := 167) rfl ?_
              have Kp4 := pl_kpw Kp Kw kp_9
              refine cvX7_80_7 (As := [.int (nI at_), .int (nI e), .long (pl_measure I F (cu_c f len e) 0 0 c)]) (rest := []) C B dX7_walkFactor_167 K_10.1 (c_applyPrefixes G M.2.1 h_6 d w u pl len (e + 1) f A I F c at_ e (pl_measure I F (cu_c f len e) 0 0 c) false K_10 Kp4 hlen (by omega) (by omega) (by omega)) rfl rfl (Nat.le_of_ble_eq_true rfl) (by omega) (by omega) (by omega) (q := 170) rfl (fun r9 h5 hr9 => ?_)
              obtain ⟨er9, K5, kp9⟩ := hr9
              subst er9
              have kq5 : kp h h5 [w] := kp_mono (kp_tr kp_9 kp9) (by simp)
              show aw G 8 M 170 [.ref w, .int (nI dp), .int (nI at_), .int (nI e), .int (cu_c f len e), .long (pl_measure I F (cu_c f len e) 0 0 c), .retAddr 0, .int 0] [.long ((wk_app F c f at_ e e (pl_measure I F (cu_c f len e) 0 0 c) false).1)] h5 0 0
              refine aw_lret C E dX7_walkFactor_170 (Nat.le_refl _) (Nat.le_refl _) ?_
              have er : wk_F I F c f len sub deep at_ = wk_fin F c f at_ e (pl_measure I F (cu_c f len e) 0 0 c, e + 1, false) := by
                unfold wk_F wk_bare; rw [← he, if_neg c_28, if_neg (fun z => z.2 c_84), if_pos (Or.inr (Or.inr c_125))]
              rw [er]; exact ⟨rfl, K5, kq5⟩
            ·
              refine aw_iconst (v := 1) C dX7_walkFactor_128 (by decide) (q := 129) rfl ?_
              refine aw_goto (q := 133) C dX7_walkFactor_129 (by decide) ?_
              refine aw_istore (ls' := [.ref w, .int (nI dp), .int (nI at_), .int (nI e), .int (cu_c f len e), .long 0, .retAddr 0, .int 1]) C dX7_walkFactor_133 (by decide) rfl (q := 135) rfl ?_
              refine aw_aload_n C dX7_walkFactor_135 rfl rfl (q := 136) rfl ?_
              refine gfX7_9_7 (v := .ref pl) C dX7_walkFactor_136 K_10.1 rfl (q := 139) rfl ?_
              refine aw_iload C dX7_walkFactor_139 rfl (q := 141) rfl ?_
              refine aw_iload C dX7_walkFactor_141 rfl (q := 143) rfl ?_
              refine aw_if_eq (t := 155) (q := 146) C dX7_walkFactor_143 (by decide) rfl (fun c_143 => absurd c_143 (by decide)) (fun c_143 => ?_)
              refine aw_aload_n C dX7_walkFactor_146 rfl rfl (q := 147) rfl ?_
              refine aw_bipush (v := 8) C dX7_walkFactor_147 (by decide) (q := 149) rfl ?_
              refine cvX7_70_7 (As := [.int 8]) (rest := [.int (cu_c f len e), .ref pl]) C B dX7_walkFactor_149 K_10.1 (c_passDigit7 G M.2.1 h_6 d w u len (e + 1) len f (.ref pl) (.int (pb_b (false = true))) 8 K_10.1 K_10.2 (Nat.le_refl len) hlen (by omega) hf) rfl rfl (Nat.le_of_ble_eq_true rfl) (by omega) (by omega) (by omega) (q := 152) rfl (fun r9 h3 hr9 => ?_)
              obtain ⟨er9, fw3, kp9⟩ := hr9
              subst er9
              have kq3 : kp h h3 [w] := kp_mono (kp_tr kp_9 kp9) (by simp)
              have fu3 := wk_u K_10 kp9
              by_cases hd9 : cu_isd (cu_c f len (e + 1)) 8
              ·
                rw [if_pos hd9] at fw3
                rw [if_pos hd9]
                have K3 : wk_ok h3 w u pl f len (e + 1 + 1) false := ⟨fw3, fu3⟩
                show aw G 8 M 152 [.ref w, .int (nI dp), .int (nI at_), .int (nI e), .int (cu_c f len e), .long 0, .retAddr 0, .int 1] [.int (cu_c f len (e + 1) - 48), .int (cu_c f len e), .ref pl] h3 0 0
                refine aw_goto (q := 156) C dX7_walkFactor_152 (by decide) ?_
                refine aw_iconst (v := 0) C dX7_walkFactor_156 (by decide) (q := 157) rfl ?_
                have Kp3 := pl_kpw Kp Kw kq3
                refine cvX7_74_1 (As := [.int (cu_c f len e), .int (cu_c f len (e + 1) - 48), .int 0]) (rest := []) C B dX7_walkFactor_157 Kp3.1 (c_measure G M.2.1 h3 d pl A I F c (cu_c f len e) (cu_c f len (e + 1) - 48) 0 Kp3) rfl rfl (Nat.le_of_ble_eq_true rfl) (by omega) (by omega) (by omega) (q := 160) rfl (fun r9 h9 hr9 => ?_)
                obtain ⟨e9, er9⟩ := hr9
                subst er9; rw [e9]
                show aw G 8 M 160 [.ref w, .int (nI dp), .int (nI at_), .int (nI e), .int (cu_c f len e), .long 0, .retAddr 0, .int 1] [.long (pl_measure I F (cu_c f len e) (cu_c f len (e + 1) - 48) 0 c)] h3 0 0
                refine aw_lstore (ls' := [.ref w, .int (nI dp), .int (nI at_), .int (nI e), .int (cu_c f len e), .long (pl_measure I F (cu_c f len e) (cu_c f len (e + 1) - 48) 0 c), .retAddr 0, .int 1]) C dX7_walkFactor_160 (by decide) rfl (q := 162) rfl ?_
                refine aw_aload_n C dX7_walkFactor_162 rfl rfl (q := 163) rfl ?_
                refine aw_iload_n C dX7_walkFactor_163 rfl rfl (q := 164) rfl ?_
                refine aw_iload_n C dX7_walkFactor_164 rfl rfl (q := 165) rfl ?_
                refine aw_lload C dX7_walkFactor_165 rfl (q := 167) rfl ?_
                have Kp4 := pl_kpw Kp Kw kq3
                refine cvX7_80_7 (As := [.int (nI at_), .int (nI e), .long (pl_measure I F (cu_c f len e) (cu_c f len (e + 1) - 48) 0 c)]) (rest := []) C B dX7_walkFactor_167 K3.1 (c_applyPrefixes G M.2.1 h3 d w u pl len (e + 1 + 1) f A I F c at_ e (pl_measure I F (cu_c f len e) (cu_c f len (e + 1) - 48) 0 c) false K3 Kp4 hlen (by omega) (by omega) (by omega)) rfl rfl (Nat.le_of_ble_eq_true rfl) (by omega) (by omega) (by omega) (q := 170) rfl (fun r9 h5 hr9 => ?_)
                obtain ⟨er9, K5, kp9⟩ := hr9
                subst er9
                have kq5 : kp h h5 [w] := kp_mono (kp_tr kq3 kp9) (by simp)
                show aw G 8 M 170 [.ref w, .int (nI dp), .int (nI at_), .int (nI e), .int (cu_c f len e), .long (pl_measure I F (cu_c f len e) (cu_c f len (e + 1) - 48) 0 c), .retAddr 0, .int 1] [.long ((wk_app F c f at_ e e (pl_measure I F (cu_c f len e) (cu_c f len (e + 1) - 48) 0 c) false).1)] h5 0 0
                refine aw_lret C E dX7_walkFactor_170 (Nat.le_refl _) (Nat.le_refl _) ?_
                have er : wk_F I F c f len sub deep at_ = wk_fin F c f at_ e (pl_measure I F (cu_c f len e) (cu_c f len (e + 1) - 48) 0 c, e + 1 + 1, false) := by
                  unfold wk_F wk_bare; rw [← he, if_neg c_28, if_neg (fun z => z.2 c_84), if_neg (by rintro (z | z | z); exact c_111 z; exact c_118 z; exact c_125 z), if_pos hd9]
                rw [er]; exact ⟨rfl, K5, kq5⟩
              ·
                rw [if_neg hd9] at fw3
                rw [if_neg hd9]
                have K3 : wk_ok h3 w u pl f len (e + 1) false := ⟨fw3, fu3⟩
                show aw G 8 M 152 [.ref w, .int (nI dp), .int (nI at_), .int (nI e), .int (cu_c f len e), .long 0, .retAddr 0, .int 1] [.int ((-1)), .int (cu_c f len e), .ref pl] h3 0 0
                refine aw_goto (q := 156) C dX7_walkFactor_152 (by decide) ?_
                refine aw_iconst (v := 0) C dX7_walkFactor_156 (by decide) (q := 157) rfl ?_
                have Kp3 := pl_kpw Kp Kw kq3
                refine cvX7_74_1 (As := [.int (cu_c f len e), .int ((-1)), .int 0]) (rest := []) C B dX7_walkFactor_157 Kp3.1 (c_measure G M.2.1 h3 d pl A I F c (cu_c f len e) ((-1)) 0 Kp3) rfl rfl (Nat.le_of_ble_eq_true rfl) (by omega) (by omega) (by omega) (q := 160) rfl (fun r9 h9 hr9 => ?_)
                obtain ⟨e9, er9⟩ := hr9
                subst er9; rw [e9]
                show aw G 8 M 160 [.ref w, .int (nI dp), .int (nI at_), .int (nI e), .int (cu_c f len e), .long 0, .retAddr 0, .int 1] [.long (pl_measure I F (cu_c f len e) ((-1)) 0 c)] h3 0 0
                refine aw_lstore (ls' := [.ref w, .int (nI dp), .int (nI at_), .int (nI e), .int (cu_c f len e), .long (pl_measure I F (cu_c f len e) ((-1)) 0 c), .retAddr 0, .int 1]) C dX7_walkFactor_160 (by decide) rfl (q := 162) rfl ?_
                refine aw_aload_n C dX7_walkFactor_162 rfl rfl (q := 163) rfl ?_
                refine aw_iload_n C dX7_walkFactor_163 rfl rfl (q := 164) rfl ?_
                refine aw_iload_n C dX7_walkFactor_164 rfl rfl (q := 165) rfl ?_
                refine aw_lload C dX7_walkFactor_165 rfl (q := 167) rfl ?_
                have Kp4 := pl_kpw Kp Kw kq3
                refine cvX7_80_7 (As := [.int (nI at_), .int (nI e), .long (pl_measure I F (cu_c f len e) ((-1)) 0 c)]) (rest := []) C B dX7_walkFactor_167 K3.1 (c_applyPrefixes G M.2.1 h3 d w u pl len (e + 1) f A I F c at_ e (pl_measure I F (cu_c f len e) ((-1)) 0 c) false K3 Kp4 hlen (by omega) (by omega) (by omega)) rfl rfl (Nat.le_of_ble_eq_true rfl) (by omega) (by omega) (by omega) (q := 170) rfl (fun r9 h5 hr9 => ?_)
                obtain ⟨er9, K5, kp9⟩ := hr9
                subst er9
                have kq5 : kp h h5 [w] := kp_mono (kp_tr kq3 kp9) (by simp)
                show aw G 8 M 170 [.ref w, .int (nI dp), .int (nI at_), .int (nI e), .int (cu_c f len e), .long (pl_measure I F (cu_c f len e) ((-1)) 0 c), .retAddr 0, .int 1] [.long ((wk_app F c f at_ e e (pl_measure I F (cu_c f len e) ((-1)) 0 c) false).1)] h5 0 0
                refine aw_lret C E dX7_walkFactor_170 (Nat.le_refl _) (Nat.le_refl _) ?_
                have er : wk_F I F c f len sub deep at_ = wk_fin F c f at_ e (pl_measure I F (cu_c f len e) ((-1)) 0 c, e + 1, false) := by
                  unfold wk_F wk_bare; rw [← he, if_neg c_28, if_neg (fun z => z.2 c_84), if_neg (by rintro (z | z | z); exact c_111 z; exact c_118 z; exact c_125 z), if_neg hd9]
                rw [er]; exact ⟨rfl, K5, kq5⟩
      ·
        refine aw_aload_n C dX7_walkFactor_87 rfl rfl (q := 88) rfl ?_
        refine cvX7_66_7 (As := []) (rest := []) C B dX7_walkFactor_88 K1.1 (c_passNumber7 G M.2.1 h1 d w u len e len f (.ref pl) (.int (pb_b (false = true))) K1.1 K1.2 (Nat.le_refl len) hlen (by omega) hf) rfl rfl (Nat.le_of_ble_eq_true rfl) (by omega) (by omega) (by omega) (q := 91) rfl (fun r9 h3 hr9 => ?_)
        obtain ⟨er9, fw3, kp9⟩ := hr9
        subst er9
        have kq3 : kp h h3 [w] := kp_mono (kp_tr kq1 kp9) (by simp)
        have K3 : wk_ok h3 w u pl f len (cu_num f len 6 e 0).2 false := ⟨fw3, wk_u K1 kp9⟩
        have hnm3 := cu_num_mx f len 6 e 0
        show aw G 8 M 91 [.ref w, .int (nI dp), .int (nI at_), .int (nI e), .int (cu_c f len e), .long 0, .retAddr 0, .retAddr 0] [.int ((cu_num f len 6 e 0).1)] h3 0 0
        refine aw_i2l C dX7_walkFactor_91 (q := 92) rfl ?_
        refine aw_lstore (ls' := [.ref w, .int (nI dp), .int (nI at_), .int (nI e), .int (cu_c f len e), .long (((cu_num f len 6 e 0).1).toInt64), .retAddr 0, .retAddr 0]) C dX7_walkFactor_92 (by decide) rfl (q := 94) rfl ?_
        refine aw_goto (q := 162) C dX7_walkFactor_94 (by decide) ?_
        refine aw_aload_n C dX7_walkFactor_162 rfl rfl (q := 163) rfl ?_
        refine aw_iload_n C dX7_walkFactor_163 rfl rfl (q := 164) rfl ?_
        refine aw_iload_n C dX7_walkFactor_164 rfl rfl (q := 165) rfl ?_
        refine aw_lload C dX7_walkFactor_165 rfl (q := 167) rfl ?_
        have Kp4 := pl_kpw Kp Kw kq3
        refine cvX7_80_7 (As := [.int (nI at_), .int (nI e), .long (((cu_num f len 6 e 0).1).toInt64)]) (rest := []) C B dX7_walkFactor_167 K3.1 (c_applyPrefixes G M.2.1 h3 d w u pl len ((cu_num f len 6 e 0).2) f A I F c at_ e (((cu_num f len 6 e 0).1).toInt64) false K3 Kp4 hlen (by omega) (by omega) (by omega)) rfl rfl (Nat.le_of_ble_eq_true rfl) (by omega) (by omega) (by omega) (q := 170) rfl (fun r9 h5 hr9 => ?_)
        obtain ⟨er9, K5, kp9⟩ := hr9
        subst er9
        have kq5 : kp h h5 [w] := kp_mono (kp_tr kq3 kp9) (by simp)
        show aw G 8 M 170 [.ref w, .int (nI dp), .int (nI at_), .int (nI e), .int (cu_c f len e), .long (((cu_num f len 6 e 0).1).toInt64), .retAddr 0, .retAddr 0] [.long ((wk_app F c f at_ e e (((cu_num f len 6 e 0).1).toInt64) false).1)] h5 0 0
        refine aw_lret C E dX7_walkFactor_170 (Nat.le_refl _) (Nat.le_refl _) ?_
        have er : wk_F I F c f len sub deep at_ = wk_fin F c f at_ e (((cu_num f len 6 e 0).1).toInt64, (cu_num f len 6 e 0).2, false) := by
          unfold wk_F wk_bare; rw [← he, if_neg c_28, if_pos ⟨c_77, c_84⟩]
        rw [er]; exact ⟨rfl, K5, kq5⟩
  ·
    have hel : e < len := cu_c_in c_28 (by decide)
    refine aw_aload_n C dX7_walkFactor_31 rfl rfl (q := 32) rfl ?_
    refine aw_dup C dX7_walkFactor_32 rfl (q := 33) rfl ?_
    refine gfX7_28_7 (v := .int (nI e)) C dX7_walkFactor_33 K1.1 rfl (q := 36) rfl ?_
    refine aw_iconst (v := 1) C dX7_walkFactor_36 (by decide) (q := 37) rfl ?_
    refine aw_iadd C dX7_walkFactor_37 (q := 38) rfl ?_
    rw [show nI e + 1 = nI (e + 1) from nI_1 _]
    refine pfX7_28_7 C dX7_walkFactor_38 K1.1 rfl rfl (Nat.le_of_ble_eq_true rfl) (q := 41) rfl ?_
    show aw G 8 M 41 [.ref w, .int (nI dp), .int (nI at_), .int (nI e), .int (cu_c f len e), .long 0, .retAddr 0, .retAddr 0] [] (ac_up h1 w (.inr (7, [.ref u, .int (nI len), .int (nI (e + 1)), .ref pl, .int (pb_b (false = true))]))) 0 0
    obtain ⟨h_11, eh_11⟩ : ∃ z, z = ac_up h1 w (.inr (7, [.ref u, .int (nI len), .int (nI (e + 1)), .ref pl, .int (pb_b (false = true))])) := ⟨_, rfl⟩
    rw [← eh_11]
    have f_12 : h_11 u = some (.inl (0, len, .inl (f))) := by rw [eh_11, ac_up_n _ _ (ne_ai K1.2 K1.1)]; exact K1.2
    have f_13 : h_11 w = some (.inr (7, [.ref u, .int (nI len), .int (nI (e + 1)), .ref pl, .int (pb_b (false = true))])) := by rw [eh_11]; exact ac_up_s _ _ _
    have kp_14 : kp h h_11 [w] := by rw [eh_11]; exact kp_up kq1 _ _ (by simp)
    have K_15 : wk_ok h_11 w u pl f len (e + 1) false := ⟨f_13, f_12⟩
    refine aw_iload_n C dX7_walkFactor_41 rfl rfl (q := 42) rfl ?_
    refine aw_bipush (v := 8) C dX7_walkFactor_42 (by decide) (q := 44) rfl ?_
    refine aw_icmp_ge (t := 57) (q := 47) C dX7_walkFactor_44 (by decide) rfl (fun c_44 => ?_) (fun c_44 => ?_)
    ·
      have hdd : deep = true := by cases deep; exact absurd (hsh rfl) (by have := ni_le dp 8 rfl rfl (by omega) (by decide) c_44; omega); rfl
      refine aw_lconst (v := 0) C dX7_walkFactor_57 (by decide) (q := 58) rfl ?_
      refine aw_lstore (ls' := [.ref w, .int (nI dp), .int (nI at_), .int (nI e), .int (cu_c f len e), .long 0, .retAddr 0, .retAddr 0]) C dX7_walkFactor_58 (by decide) rfl (q := 60) rfl ?_
      refine aw_aload_n C dX7_walkFactor_60 rfl rfl (q := 61) rfl ?_
      refine aw_dup C dX7_walkFactor_61 rfl (q := 62) rfl ?_
      refine gfX7_28_7 (v := .int (nI (e + 1))) C dX7_walkFactor_62 K_15.1 rfl (q := 65) rfl ?_
      refine aw_iconst (v := 1) C dX7_walkFactor_65 (by decide) (q := 66) rfl ?_
      refine aw_iadd C dX7_walkFactor_66 (q := 67) rfl ?_
      rw [show nI (e + 1) + 1 = nI (e + 1 + 1) from nI_1 _]
      refine pfX7_28_7 C dX7_walkFactor_67 K_15.1 rfl rfl (Nat.le_of_ble_eq_true rfl) (q := 70) rfl ?_
      show aw G 8 M 70 [.ref w, .int (nI dp), .int (nI at_), .int (nI e), .int (cu_c f len e), .long 0, .retAddr 0, .retAddr 0] [] (ac_up h_11 w (.inr (7, [.ref u, .int (nI len), .int (nI (e + 1 + 1)), .ref pl, .int (pb_b (false = true))]))) 0 0
      obtain ⟨h_16, eh_16⟩ : ∃ z, z = ac_up h_11 w (.inr (7, [.ref u, .int (nI len), .int (nI (e + 1 + 1)), .ref pl, .int (pb_b (false = true))])) := ⟨_, rfl⟩
      rw [← eh_16]
      have f_17 : h_16 u = some (.inl (0, len, .inl (f))) := by rw [eh_16, ac_up_n _ _ (ne_ai K_15.2 K_15.1)]; exact K_15.2
      have f_18 : h_16 w = some (.inr (7, [.ref u, .int (nI len), .int (nI (e + 1 + 1)), .ref pl, .int (pb_b (false = true))])) := by rw [eh_16]; exact ac_up_s _ _ _
      have kp_19 : kp h h_16 [w] := by rw [eh_16]; exact kp_up kp_14 _ _ (by simp)
      have K_20 : wk_ok h_16 w u pl f len (e + 1 + 1) false := ⟨f_18, f_17⟩
      refine aw_goto (q := 162) C dX7_walkFactor_70 (by decide) ?_
      refine aw_aload_n C dX7_walkFactor_162 rfl rfl (q := 163) rfl ?_
      refine aw_iload_n C dX7_walkFactor_163 rfl rfl (q := 164) rfl ?_
      refine aw_iload_n C dX7_walkFactor_164 rfl rfl (q := 165) rfl ?_
      refine aw_lload C dX7_walkFactor_165 rfl (q := 167) rfl ?_
      have Kp4 := pl_kpw Kp Kw kp_19
      refine cvX7_80_7 (As := [.int (nI at_), .int (nI e), .long 0]) (rest := []) C B dX7_walkFactor_167 K_20.1 (c_applyPrefixes G M.2.1 h_16 d w u pl len (e + 1 + 1) f A I F c at_ e 0 false K_20 Kp4 hlen (by omega) (by omega) (by omega)) rfl rfl (Nat.le_of_ble_eq_true rfl) (by omega) (by omega) (by omega) (q := 170) rfl (fun r9 h5 hr9 => ?_)
      obtain ⟨er9, K5, kp9⟩ := hr9
      subst er9
      have kq5 : kp h h5 [w] := kp_mono (kp_tr kp_19 kp9) (by simp)
      show aw G 8 M 170 [.ref w, .int (nI dp), .int (nI at_), .int (nI e), .int (cu_c f len e), .long 0, .retAddr 0, .retAddr 0] [.long ((wk_app F c f at_ e e 0 false).1)] h5 0 0
      refine aw_lret C E dX7_walkFactor_170 (Nat.le_refl _) (Nat.le_refl _) ?_
      have er : wk_F I F c f len sub deep at_ = wk_fin F c f at_ e (0, e + 1 + 1, false) := by
        unfold wk_F wk_bare; rw [← he, if_pos c_28, if_pos hdd]
      rw [er]; exact ⟨rfl, K5, kq5⟩
    ·
      refine aw_aload_n C dX7_walkFactor_47 rfl rfl (q := 48) rfl ?_
      refine aw_iload_n C dX7_walkFactor_48 rfl rfl (q := 49) rfl ?_
      refine aw_iconst (v := 1) C dX7_walkFactor_49 (by decide) (q := 50) rfl ?_
      refine aw_iadd C dX7_walkFactor_50 (q := 51) rfl ?_
      have Kp2 := pl_kpw Kp Kw kp_14
      have hdp : dp < 8 := ni_nle dp 8 rfl rfl (by omega) (by decide) c_44
      have hdd : deep = false := by cases deep; rfl; have := hdeep rfl; omega
      rw [show nI dp + 1 = nI (dp + 1) from nI_1 _]
      have hS1 := hS hdd
      rw [← hl] at hS1
      refine cvX7_47_7 (As := [.int (nI (dp + 1))]) (rest := []) C B dX7_walkFactor_51 K_15.1 (hS1 h_11 (e + 1) K_15 Kp2 (by omega)) rfl rfl (Nat.le_of_ble_eq_true rfl) (by omega) (by omega) (by omega) (q := 54) rfl (fun r9 h3 hr9 => ?_)
      obtain ⟨er9, K3, kp9⟩ := hr9
      subst er9
      have kq3 : kp h h3 [w] := kp_mono (kp_tr kp_14 kp9) (by simp)
      obtain ⟨r3, hr3⟩ : ∃ r, r = sub (e + 1) := ⟨_, rfl⟩
      rw [← hr3] at K3 ⊢
      have hb3 : r3.2.1 ≤ max (e + 1) len + b := by rw [hr3]; exact hsb hdd (e + 1)
      show aw G 8 M 54 [.ref w, .int (nI dp), .int (nI at_), .int (nI e), .int (cu_c f len e), .long 0, .retAddr 0, .retAddr 0] [.long r3.1] h3 0 0
      refine aw_goto (q := 58) C dX7_walkFactor_54 (by decide) ?_
      refine aw_lstore (ls' := [.ref w, .int (nI dp), .int (nI at_), .int (nI e), .int (cu_c f len e), .long r3.1, .retAddr 0, .retAddr 0]) C dX7_walkFactor_58 (by decide) rfl (q := 60) rfl ?_
      refine aw_aload_n C dX7_walkFactor_60 rfl rfl (q := 61) rfl ?_
      refine aw_dup C dX7_walkFactor_61 rfl (q := 62) rfl ?_
      refine gfX7_28_7 (v := .int (nI r3.2.1)) C dX7_walkFactor_62 K3.1 rfl (q := 65) rfl ?_
      refine aw_iconst (v := 1) C dX7_walkFactor_65 (by decide) (q := 66) rfl ?_
      refine aw_iadd C dX7_walkFactor_66 (q := 67) rfl ?_
      rw [show nI r3.2.1 + 1 = nI (r3.2.1 + 1) from nI_1 _]
      refine pfX7_28_7 C dX7_walkFactor_67 K3.1 rfl rfl (Nat.le_of_ble_eq_true rfl) (q := 70) rfl ?_
      show aw G 8 M 70 [.ref w, .int (nI dp), .int (nI at_), .int (nI e), .int (cu_c f len e), .long r3.1, .retAddr 0, .retAddr 0] [] (ac_up h3 w (.inr (7, [.ref u, .int (nI len), .int (nI (r3.2.1 + 1)), .ref pl, .int (pb_b (r3.2.2 = true))]))) 0 0
      obtain ⟨h_21, eh_21⟩ : ∃ z, z = ac_up h3 w (.inr (7, [.ref u, .int (nI len), .int (nI (r3.2.1 + 1)), .ref pl, .int (pb_b (r3.2.2 = true))])) := ⟨_, rfl⟩
      rw [← eh_21]
      have f_22 : h_21 u = some (.inl (0, len, .inl (f))) := by rw [eh_21, ac_up_n _ _ (ne_ai K3.2 K3.1)]; exact K3.2
      have f_23 : h_21 w = some (.inr (7, [.ref u, .int (nI len), .int (nI (r3.2.1 + 1)), .ref pl, .int (pb_b (r3.2.2 = true))])) := by rw [eh_21]; exact ac_up_s _ _ _
      have kp_24 : kp h h_21 [w] := by rw [eh_21]; exact kp_up kq3 _ _ (by simp)
      have K_25 : wk_ok h_21 w u pl f len (r3.2.1 + 1) r3.2.2 := ⟨f_23, f_22⟩
      refine aw_goto (q := 162) C dX7_walkFactor_70 (by decide) ?_
      refine aw_aload_n C dX7_walkFactor_162 rfl rfl (q := 163) rfl ?_
      refine aw_iload_n C dX7_walkFactor_163 rfl rfl (q := 164) rfl ?_
      refine aw_iload_n C dX7_walkFactor_164 rfl rfl (q := 165) rfl ?_
      refine aw_lload C dX7_walkFactor_165 rfl (q := 167) rfl ?_
      have Kp4 := pl_kpw Kp Kw kp_24
      refine cvX7_80_7 (As := [.int (nI at_), .int (nI e), .long r3.1]) (rest := []) C B dX7_walkFactor_167 K_25.1 (c_applyPrefixes G M.2.1 h_21 d w u pl len (r3.2.1 + 1) f A I F c at_ e r3.1 r3.2.2 K_25 Kp4 hlen (by omega) (by omega) (by omega)) rfl rfl (Nat.le_of_ble_eq_true rfl) (by omega) (by omega) (by omega) (q := 170) rfl (fun r9 h5 hr9 => ?_)
      obtain ⟨er9, K5, kp9⟩ := hr9
      subst er9
      have kq5 : kp h h5 [w] := kp_mono (kp_tr kp_24 kp9) (by simp)
      show aw G 8 M 170 [.ref w, .int (nI dp), .int (nI at_), .int (nI e), .int (cu_c f len e), .long r3.1, .retAddr 0, .retAddr 0] [.long ((wk_app F c f at_ e e r3.1 r3.2.2).1)] h5 0 0
      refine aw_lret C E dX7_walkFactor_170 (Nat.le_refl _) (Nat.le_refl _) ?_
      have er : wk_F I F c f len sub deep at_ = wk_fin F c f at_ e (r3.1, r3.2.1 + 1, r3.2.2) := by
        unfold wk_F wk_bare; rw [← he, if_pos c_28, if_neg (by rw [hdd]; decide), ← hr3]
      rw [er]; exact ⟨rfl, K5, kq5⟩
