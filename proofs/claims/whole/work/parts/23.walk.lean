/-! Walker: term, expression, all levels; condition, rule -/
set_option maxHeartbeats 4000000 in
set_option maxRecDepth 100000 in
theorem lp_walkTerm {G : ac_G} {M : ac_M} {h : ac_H} {w u pl len : Nat} {f : Nat → Int32} {A : Nat → Nat} {I : Nat → Int32} {F : Nat → Nat → Int32} {c : Nat} {d dp b : Nat} {fc : Nat → wk_R} {R : wk_R} {at0 : Nat} {op0 : Bool} (hlen : len ≤ 400) (hf : cu_ch f) (hb : b ≤ 200) (hfb : wk_bd len b fc) (C : ac_MC G RX7 cX7_walkTerm 8 (some .long) M) (B : ac_Bd M (d + 8) 0 0) (E : ac_End G (wk_Q h w u pl f len R) 0 0 M) (Kw0 : wk_ok h w u pl f len at0 op0) (Kp0 : pl_ok h pl A I F c) (hS : wk_C G M.2.1 yX7_walkFactor cX7_walkFactor w u pl f len A I F c (d + 7) dp fc) :
    ∀ (m i : Nat) (r : wk_R) (h1 : ac_H) (x5 : Int32) (v5 v6 v7 : Value), i + m = 300 → r.2.1 < 60000 → wk_ok h1 w u pl f len r.2.1 r.2.2 → kp h h1 [w] → (v5 = .int x5 ∨ v5 = .retAddr 0) → wk_Tl f len fc m r = R → aw G 8 M 9 [.ref w, .int (nI dp), .long r.1, .retAddr 0, .int (nI i), v5, v6, v7] [] h1 0 0 := by
  intro m
  induction m with
  | zero =>
    intro i r h1 x5 v5 v6 v7 hi hat K1 kq1 hv5 hR
    refine aw_iload C dX7_walkTerm_9 rfl (q := 11) rfl ?_
    refine aw_sipush (v := 300) C dX7_walkTerm_11 (by decide) (q := 14) rfl ?_
    refine aw_icmp_ge (t := 105) (q := 17) C dX7_walkTerm_14 (by decide) rfl (fun c_14 => ?_) (fun c_14 => absurd c_14 (fun z => z (nI_le (a := 300) (by omega) (by omega))))
    refine aw_lload_n C dX7_walkTerm_105 rfl rfl (q := 106) rfl ?_
    refine aw_lret C E dX7_walkTerm_106 (Nat.le_refl _) (Nat.le_refl _) ?_
    have e : R = r := by rw [← hR]; rfl
    exact ⟨by rw [e], by rw [e]; exact K1, kq1⟩
  | succ m ih =>
    intro i r h1 x5 v5 v6 v7 hi hat K1 kq1 hv5 hR
    refine aw_iload C dX7_walkTerm_9 rfl (q := 11) rfl ?_
    refine aw_sipush (v := 300) C dX7_walkTerm_11 (by decide) (q := 14) rfl ?_
    refine aw_icmp_ge (t := 105) (q := 17) C dX7_walkTerm_14 (by decide) rfl (fun c_14 => absurd c_14 (ni_nge i 300 rfl rfl (by omega) (by decide) (by omega))) (fun c_14 => ?_)
    refine aw_aload_n C dX7_walkTerm_17 rfl rfl (q := 18) rfl ?_
    refine gfX7_31_7 (v := .int (pb_b (r.2.2 = true))) C dX7_walkTerm_18 K1.1 rfl (q := 21) rfl ?_
    refine aw_if_ne (t := 105) (q := 24) C dX7_walkTerm_21 (by decide) rfl (fun c_21 => ?_) (fun c_21 => ?_)
    ·
      refine aw_lload_n C dX7_walkTerm_105 rfl rfl (q := 106) rfl ?_
      refine aw_lret C E dX7_walkTerm_106 (Nat.le_refl _) (Nat.le_refl _) ?_
      have e : R = r := by rw [← hR]; unfold wk_Tl; rw [if_pos (pb_n c_21)]
      exact ⟨by rw [e], by rw [e]; exact K1, kq1⟩
    ·
      have ho : r.2.2 = false := Bool.eq_false_iff.mpr (pb_0.mp c_21)
      have K2 : wk_ok h1 w u pl f len r.2.1 false := by rw [← ho]; exact K1
      refine aw_aload_n C dX7_walkTerm_24 rfl rfl (q := 25) rfl ?_
      refine cvX7_35_7 (As := []) (rest := []) C B dX7_walkTerm_25 K2.1 (c_here7 G M.2.1 h1 d w u len r.2.1 len f (.ref pl) (.int (pb_b (false = true))) K2.1 K2.2 (Nat.le_refl len) hlen (by omega) hf) rfl rfl (Nat.le_of_ble_eq_true rfl) (by omega) (by omega) (by omega) (q := 28) rfl (fun r9 h9 hr9 => ?_)
      obtain ⟨e9, er9⟩ := hr9
      subst er9; rw [e9]
      show aw G 8 M 28 [.ref w, .int (nI dp), .long r.1, .retAddr 0, .int (nI i), v5, v6, v7] [.int (cu_c f len r.2.1)] h1 0 0
      refine aw_istore (ls' := [.ref w, .int (nI dp), .long r.1, .retAddr 0, .int (nI i), .int (cu_c f len r.2.1), v6, v7]) C dX7_walkTerm_28 (by decide) rfl (q := 30) rfl ?_
      refine aw_iload C dX7_walkTerm_30 rfl (q := 32) rfl ?_
      refine aw_bipush (v := 42) C dX7_walkTerm_32 (by decide) (q := 34) rfl ?_
      refine aw_icmp_eq (t := 47) (q := 37) C dX7_walkTerm_34 (by decide) rfl (fun c_34 => ?_) (fun c_34 => ?_)
      ·
        refine aw_aload_n C dX7_walkTerm_47 rfl rfl (q := 48) rfl ?_
        refine aw_dup C dX7_walkTerm_48 rfl (q := 49) rfl ?_
        refine gfX7_28_7 (v := .int (nI r.2.1)) C dX7_walkTerm_49 K2.1 rfl (q := 52) rfl ?_
        refine aw_iconst (v := 1) C dX7_walkTerm_52 (by decide) (q := 53) rfl ?_
        refine aw_iadd C dX7_walkTerm_53 (q := 54) rfl ?_
        rw [show nI r.2.1 + 1 = nI (r.2.1 + 1) from nI_1 _]
        refine pfX7_28_7 C dX7_walkTerm_54 K2.1 rfl rfl (Nat.le_of_ble_eq_true rfl) (q := 57) rfl ?_
        show aw G 8 M 57 [.ref w, .int (nI dp), .long r.1, .retAddr 0, .int (nI i), .int (cu_c f len r.2.1), v6, v7] [] (ac_up h1 w (.inr (7, [.ref u, .int (nI len), .int (nI (r.2.1 + 1)), .ref pl, .int (pb_b (false = true))]))) 0 0
        obtain ⟨h_1, eh_1⟩ : ∃ z, z = ac_up h1 w (.inr (7, [.ref u, .int (nI len), .int (nI (r.2.1 + 1)), .ref pl, .int (pb_b (false = true))])) := ⟨_, rfl⟩
        rw [← eh_1]
        have f_2 : h_1 u = some (.inl (0, len, .inl (f))) := by rw [eh_1, ac_up_n _ _ (ne_ai K2.2 K2.1)]; exact K2.2
        have f_3 : h_1 w = some (.inr (7, [.ref u, .int (nI len), .int (nI (r.2.1 + 1)), .ref pl, .int (pb_b (false = true))])) := by rw [eh_1]; exact ac_up_s _ _ _
        have kp_4 : kp h h_1 [w] := by rw [eh_1]; exact kp_up kq1 _ _ (by simp)
        have K_5 : wk_ok h_1 w u pl f len (r.2.1 + 1) false := ⟨f_3, f_2⟩
        refine aw_aload_n C dX7_walkTerm_57 rfl rfl (q := 58) rfl ?_
        refine aw_iload_n C dX7_walkTerm_58 rfl rfl (q := 59) rfl ?_
        have hel : r.2.1 < len := cu_c_in c_34 (by decide)
        have Kp2 := pl_kpw Kp0 Kw0 kp_4
        refine cvX7_60_7 (As := [.int (nI dp)]) (rest := []) C B dX7_walkTerm_59 K_5.1 (hS h_1 (r.2.1 + 1) K_5 Kp2 (by omega)) rfl rfl (Nat.le_of_ble_eq_true rfl) (by omega) (by omega) (by omega) (q := 62) rfl (fun r9 h3 hr9 => ?_)
        obtain ⟨er9, K3, kp9⟩ := hr9
        subst er9
        have kq3 : kp h h3 [w] := kp_mono (kp_tr kp_4 kp9) (by simp)
        have hb3 := hfb (r.2.1 + 1)
        obtain ⟨r3, hr3⟩ : ∃ z, z = fc (r.2.1 + 1) := ⟨_, rfl⟩
        rw [← hr3] at K3 hb3 ⊢
        show aw G 8 M 62 [.ref w, .int (nI dp), .long r.1, .retAddr 0, .int (nI i), .int (cu_c f len r.2.1), v6, v7] [.long r3.1] h3 0 0
        refine aw_lstore (ls' := [.ref w, .int (nI dp), .long r.1, .retAddr 0, .int (nI i), .int (cu_c f len r.2.1), .long r3.1, .retAddr 0]) C dX7_walkTerm_62 (by decide) rfl (q := 64) rfl ?_
        refine aw_iload C dX7_walkTerm_64 rfl (q := 66) rfl ?_
        refine aw_bipush (v := 42) C dX7_walkTerm_66 (by decide) (q := 68) rfl ?_
        refine aw_icmp_ne (t := 79) (q := 71) C dX7_walkTerm_68 (by decide) rfl (fun c_68 => ?_) (fun c_68 => ?_)
        ·
          refine aw_lload C dX7_walkTerm_79 rfl (q := 81) rfl ?_
          refine aw_lconst (v := 0) C dX7_walkTerm_81 (by decide) (q := 82) rfl ?_
          refine aw_lcmp C dX7_walkTerm_82 (q := 83) rfl ?_
          refine aw_if_eq (t := 94) (q := 86) C dX7_walkTerm_83 (by decide) rfl (fun c_83 => ?_) (fun c_83 => ?_)
          ·
            refine aw_aload_n C dX7_walkTerm_94 rfl rfl (q := 95) rfl ?_
            refine aw_iconst (v := 1) C dX7_walkTerm_95 (by decide) (q := 96) rfl ?_
            rw [show (1 : Int32) = pb_b (true = true) from rfl]
            refine pfX7_31_7 C dX7_walkTerm_96 K3.1 rfl rfl (Nat.le_of_ble_eq_true rfl) (q := 99) rfl ?_
            show aw G 8 M 99 [.ref w, .int (nI dp), .long r.1, .retAddr 0, .int (nI i), .int (cu_c f len r.2.1), .long r3.1, .retAddr 0] [] (ac_up h3 w (.inr (7, [.ref u, .int (nI len), .int (nI r3.2.1), .ref pl, .int (pb_b (true = true))]))) 0 0
            obtain ⟨h_6, eh_6⟩ : ∃ z, z = ac_up h3 w (.inr (7, [.ref u, .int (nI len), .int (nI r3.2.1), .ref pl, .int (pb_b (true = true))])) := ⟨_, rfl⟩
            rw [← eh_6]
            have f_7 : h_6 u = some (.inl (0, len, .inl (f))) := by rw [eh_6, ac_up_n _ _ (ne_ai K3.2 K3.1)]; exact K3.2
            have f_8 : h_6 w = some (.inr (7, [.ref u, .int (nI len), .int (nI r3.2.1), .ref pl, .int (pb_b (true = true))])) := by rw [eh_6]; exact ac_up_s _ _ _
            have kp_9 : kp h h_6 [w] := by rw [eh_6]; exact kp_up kq3 _ _ (by simp)
            have K4 : wk_ok h_6 w u pl f len r3.2.1 true := ⟨f_8, f_7⟩
            refine aw_iinc (v := nI (i + 1)) (ls' := [.ref w, .int (nI dp), .long r.1, .retAddr 0, .int (nI (i + 1)), .int (cu_c f len r.2.1), .long r3.1, .retAddr 0]) C dX7_walkTerm_99 rfl (nI_1 i) (by decide) rfl (q := 102) rfl ?_
            refine aw_goto (q := 9) C dX7_walkTerm_102 (by decide) ?_
            refine ih (i + 1) (r.1, r3.2.1, true) h_6 _ _ _ _ (by omega) (by show r3.2.1 < 60000; omega) K4 kp_9 (Or.inl rfl) ?_
            rw [← hR]; conv => rhs; unfold wk_Tl
            rw [if_neg (by rw [ho]; decide), if_pos (Or.inl c_34), if_neg c_68, ← hr3, if_pos ((lg_cmp_eq _ _).mp c_83)]
          ·
            refine aw_lload_n C dX7_walkTerm_86 rfl rfl (q := 87) rfl ?_
            refine aw_lload C dX7_walkTerm_87 rfl (q := 89) rfl ?_
            refine aw_ldiv C dX7_walkTerm_89 (fun z => c_83 ((lg_cmp_eq _ _).mpr z)) (q := 90) rfl ?_
            refine aw_lstore_n (ls' := [.ref w, .int (nI dp), .long (r.1 / r3.1), .retAddr 0, .int (nI i), .int (cu_c f len r.2.1), .long r3.1, .retAddr 0]) C dX7_walkTerm_90 rfl (by decide) rfl (q := 91) rfl ?_
            refine aw_goto (q := 99) C dX7_walkTerm_91 (by decide) ?_
            refine aw_iinc (v := nI (i + 1)) (ls' := [.ref w, .int (nI dp), .long (r.1 / r3.1), .retAddr 0, .int (nI (i + 1)), .int (cu_c f len r.2.1), .long r3.1, .retAddr 0]) C dX7_walkTerm_99 rfl (nI_1 i) (by decide) rfl (q := 102) rfl ?_
            refine aw_goto (q := 9) C dX7_walkTerm_102 (by decide) ?_
            refine ih (i + 1) (r.1 / r3.1, r3.2.1, r3.2.2) h3 _ _ _ _ (by omega) (by show r3.2.1 < 60000; omega) K3 kq3 (Or.inl rfl) ?_
            rw [← hR]; conv => rhs; unfold wk_Tl
            rw [if_neg (by rw [ho]; decide), if_pos (Or.inl c_34), if_neg c_68, ← hr3, if_neg (fun z => c_83 ((lg_cmp_eq _ _).mpr z))]
        ·
          refine aw_lload_n C dX7_walkTerm_71 rfl rfl (q := 72) rfl ?_
          refine aw_lload C dX7_walkTerm_72 rfl (q := 74) rfl ?_
          refine aw_lmul C dX7_walkTerm_74 (q := 75) rfl ?_
          refine aw_lstore_n (ls' := [.ref w, .int (nI dp), .long (r.1 * r3.1), .retAddr 0, .int (nI i), .int (cu_c f len r.2.1), .long r3.1, .retAddr 0]) C dX7_walkTerm_75 rfl (by decide) rfl (q := 76) rfl ?_
          refine aw_goto (q := 99) C dX7_walkTerm_76 (by decide) ?_
          refine aw_iinc (v := nI (i + 1)) (ls' := [.ref w, .int (nI dp), .long (r.1 * r3.1), .retAddr 0, .int (nI (i + 1)), .int (cu_c f len r.2.1), .long r3.1, .retAddr 0]) C dX7_walkTerm_99 rfl (nI_1 i) (by decide) rfl (q := 102) rfl ?_
          refine aw_goto (q := 9) C dX7_walkTerm_102 (by decide) ?_
          refine ih (i + 1) (r.1 * r3.1, r3.2.1, r3.2.2) h3 _ _ _ _ (by omega) (by show r3.2.1 < 60000; omega) K3 kq3 (Or.inl rfl) ?_
          rw [← hR]; conv => rhs; unfold wk_Tl
          rw [if_neg (by rw [ho]; decide), if_pos (Or.inl c_34), if_pos c_68, ← hr3]
      ·
        refine aw_iload C dX7_walkTerm_37 rfl (q := 39) rfl ?_
        refine aw_bipush (v := 47) C dX7_walkTerm_39 (by decide) (q := 41) rfl ?_
        refine aw_icmp_eq (t := 47) (q := 44) C dX7_walkTerm_41 (by decide) rfl (fun c_41 => ?_) (fun c_41 => ?_)
        ·
          refine aw_aload_n C dX7_walkTerm_47 rfl rfl (q := 48) rfl ?_
          refine aw_dup C dX7_walkTerm_48 rfl (q := 49) rfl ?_
          refine gfX7_28_7 (v := .int (nI r.2.1)) C dX7_walkTerm_49 K2.1 rfl (q := 52) rfl ?_
          refine aw_iconst (v := 1) C dX7_walkTerm_52 (by decide) (q := 53) rfl ?_
          refine aw_iadd C dX7_walkTerm_53 (q := 54) rfl ?_
          rw [show nI r.2.1 + 1 = nI (r.2.1 + 1) from nI_1 _]
          refine pfX7_28_7 C dX7_walkTerm_54 K2.1 rfl rfl (Nat.le_of_ble_eq_true rfl) (q := 57) rfl ?_
          show aw G 8 M 57 [.ref w, .int (nI dp), .long r.1, .retAddr 0, .int (nI i), .int (cu_c f len r.2.1), v6, v7] [] (ac_up h1 w (.inr (7, [.ref u, .int (nI len), .int (nI (r.2.1 + 1)), .ref pl, .int (pb_b (false = true))]))) 0 0
          obtain ⟨h_10, eh_10⟩ : ∃ z, z = ac_up h1 w (.inr (7, [.ref u, .int (nI len), .int (nI (r.2.1 + 1)), .ref pl, .int (pb_b (false = true))])) := ⟨_, rfl⟩
          rw [← eh_10]
          have f_11 : h_10 u = some (.inl (0, len, .inl (f))) := by rw [eh_10, ac_up_n _ _ (ne_ai K2.2 K2.1)]; exact K2.2
          have f_12 : h_10 w = some (.inr (7, [.ref u, .int (nI len), .int (nI (r.2.1 + 1)), .ref pl, .int (pb_b (false = true))])) := by rw [eh_10]; exact ac_up_s _ _ _
          have kp_13 : kp h h_10 [w] := by rw [eh_10]; exact kp_up kq1 _ _ (by simp)
          have K_14 : wk_ok h_10 w u pl f len (r.2.1 + 1) false := ⟨f_12, f_11⟩
          refine aw_aload_n C dX7_walkTerm_57 rfl rfl (q := 58) rfl ?_
          refine aw_iload_n C dX7_walkTerm_58 rfl rfl (q := 59) rfl ?_
          have hel : r.2.1 < len := cu_c_in c_41 (by decide)
          have Kp2 := pl_kpw Kp0 Kw0 kp_13
          refine cvX7_60_7 (As := [.int (nI dp)]) (rest := []) C B dX7_walkTerm_59 K_14.1 (hS h_10 (r.2.1 + 1) K_14 Kp2 (by omega)) rfl rfl (Nat.le_of_ble_eq_true rfl) (by omega) (by omega) (by omega) (q := 62) rfl (fun r9 h3 hr9 => ?_)
          obtain ⟨er9, K3, kp9⟩ := hr9
          subst er9
          have kq3 : kp h h3 [w] := kp_mono (kp_tr kp_13 kp9) (by simp)
          have hb3 := hfb (r.2.1 + 1)
          obtain ⟨r3, hr3⟩ : ∃ z, z = fc (r.2.1 + 1) := ⟨_, rfl⟩
          rw [← hr3] at K3 hb3 ⊢
          show aw G 8 M 62 [.ref w, .int (nI dp), .long r.1, .retAddr 0, .int (nI i), .int (cu_c f len r.2.1), v6, v7] [.long r3.1] h3 0 0
          refine aw_lstore (ls' := [.ref w, .int (nI dp), .long r.1, .retAddr 0, .int (nI i), .int (cu_c f len r.2.1), .long r3.1, .retAddr 0]) C dX7_walkTerm_62 (by decide) rfl (q := 64) rfl ?_
          refine aw_iload C dX7_walkTerm_64 rfl (q := 66) rfl ?_
          refine aw_bipush (v := 42) C dX7_walkTerm_66 (by decide) (q := 68) rfl ?_
          refine aw_icmp_ne (t := 79) (q := 71) C dX7_walkTerm_68 (by decide) rfl (fun c_68 => ?_) (fun c_68 => ?_)
          ·
            refine aw_lload C dX7_walkTerm_79 rfl (q := 81) rfl ?_
            refine aw_lconst (v := 0) C dX7_walkTerm_81 (by decide) (q := 82) rfl ?_
            refine aw_lcmp C dX7_walkTerm_82 (q := 83) rfl ?_
            refine aw_if_eq (t := 94) (q := 86) C dX7_walkTerm_83 (by decide) rfl (fun c_83 => ?_) (fun c_83 => ?_)
            ·
              refine aw_aload_n C dX7_walkTerm_94 rfl rfl (q := 95) rfl ?_
              refine aw_iconst (v := 1) C dX7_walkTerm_95 (by decide) (q := 96) rfl ?_
              rw [show (1 : Int32) = pb_b (true = true) from rfl]
              refine pfX7_31_7 C dX7_walkTerm_96 K3.1 rfl rfl (Nat.le_of_ble_eq_true rfl) (q := 99) rfl ?_
              show aw G 8 M 99 [.ref w, .int (nI dp), .long r.1, .retAddr 0, .int (nI i), .int (cu_c f len r.2.1), .long r3.1, .retAddr 0] [] (ac_up h3 w (.inr (7, [.ref u, .int (nI len), .int (nI r3.2.1), .ref pl, .int (pb_b (true = true))]))) 0 0
              obtain ⟨h_15, eh_15⟩ : ∃ z, z = ac_up h3 w (.inr (7, [.ref u, .int (nI len), .int (nI r3.2.1), .ref pl, .int (pb_b (true = true))])) := ⟨_, rfl⟩
              rw [← eh_15]
              have f_16 : h_15 u = some (.inl (0, len, .inl (f))) := by rw [eh_15, ac_up_n _ _ (ne_ai K3.2 K3.1)]; exact K3.2
              have f_17 : h_15 w = some (.inr (7, [.ref u, .int (nI len), .int (nI r3.2.1), .ref pl, .int (pb_b (true = true))])) := by rw [eh_15]; exact ac_up_s _ _ _
              have kp_18 : kp h h_15 [w] := by rw [eh_15]; exact kp_up kq3 _ _ (by simp)
              have K4 : wk_ok h_15 w u pl f len r3.2.1 true := ⟨f_17, f_16⟩
              refine aw_iinc (v := nI (i + 1)) (ls' := [.ref w, .int (nI dp), .long r.1, .retAddr 0, .int (nI (i + 1)), .int (cu_c f len r.2.1), .long r3.1, .retAddr 0]) C dX7_walkTerm_99 rfl (nI_1 i) (by decide) rfl (q := 102) rfl ?_
              refine aw_goto (q := 9) C dX7_walkTerm_102 (by decide) ?_
              refine ih (i + 1) (r.1, r3.2.1, true) h_15 _ _ _ _ (by omega) (by show r3.2.1 < 60000; omega) K4 kp_18 (Or.inl rfl) ?_
              rw [← hR]; conv => rhs; unfold wk_Tl
              rw [if_neg (by rw [ho]; decide), if_pos (Or.inr c_41), if_neg c_68, ← hr3, if_pos ((lg_cmp_eq _ _).mp c_83)]
            ·
              refine aw_lload_n C dX7_walkTerm_86 rfl rfl (q := 87) rfl ?_
              refine aw_lload C dX7_walkTerm_87 rfl (q := 89) rfl ?_
              refine aw_ldiv C dX7_walkTerm_89 (fun z => c_83 ((lg_cmp_eq _ _).mpr z)) (q := 90) rfl ?_
              refine aw_lstore_n (ls' := [.ref w, .int (nI dp), .long (r.1 / r3.1), .retAddr 0, .int (nI i), .int (cu_c f len r.2.1), .long r3.1, .retAddr 0]) C dX7_walkTerm_90 rfl (by decide) rfl (q := 91) rfl ?_
              refine aw_goto (q := 99) C dX7_walkTerm_91 (by decide) ?_
              refine aw_iinc (v := nI (i + 1)) (ls' := [.ref w, .int (nI dp), .long (r.1 / r3.1), .retAddr 0, .int (nI (i + 1)), .int (cu_c f len r.2.1), .long r3.1, .retAddr 0]) C dX7_walkTerm_99 rfl (nI_1 i) (by decide) rfl (q := 102) rfl ?_
              refine aw_goto (q := 9) C dX7_walkTerm_102 (by decide) ?_
              refine ih (i + 1) (r.1 / r3.1, r3.2.1, r3.2.2) h3 _ _ _ _ (by omega) (by show r3.2.1 < 60000; omega) K3 kq3 (Or.inl rfl) ?_
              rw [← hR]; conv => rhs; unfold wk_Tl
              rw [if_neg (by rw [ho]; decide), if_pos (Or.inr c_41), if_neg c_68, ← hr3, if_neg (fun z => c_83 ((lg_cmp_eq _ _).mpr z))]
          ·
            refine aw_lload_n C dX7_walkTerm_71 rfl rfl (q := 72) rfl ?_
            refine aw_lload C dX7_walkTerm_72 rfl (q := 74) rfl ?_
            refine aw_lmul C dX7_walkTerm_74 (q := 75) rfl ?_
            refine aw_lstore_n (ls' := [.ref w, .int (nI dp), .long (r.1 * r3.1), .retAddr 0, .int (nI i), .int (cu_c f len r.2.1), .long r3.1, .retAddr 0]) C dX7_walkTerm_75 rfl (by decide) rfl (q := 76) rfl ?_
            refine aw_goto (q := 99) C dX7_walkTerm_76 (by decide) ?_
            refine aw_iinc (v := nI (i + 1)) (ls' := [.ref w, .int (nI dp), .long (r.1 * r3.1), .retAddr 0, .int (nI (i + 1)), .int (cu_c f len r.2.1), .long r3.1, .retAddr 0]) C dX7_walkTerm_99 rfl (nI_1 i) (by decide) rfl (q := 102) rfl ?_
            refine aw_goto (q := 9) C dX7_walkTerm_102 (by decide) ?_
            refine ih (i + 1) (r.1 * r3.1, r3.2.1, r3.2.2) h3 _ _ _ _ (by omega) (by show r3.2.1 < 60000; omega) K3 kq3 (Or.inl rfl) ?_
            rw [← hR]; conv => rhs; unfold wk_Tl
            rw [if_neg (by rw [ho]; decide), if_pos (Or.inr c_41), if_pos c_68, ← hr3]
        ·
          refine aw_goto (q := 105) C dX7_walkTerm_44 (by decide) ?_
          refine aw_lload_n C dX7_walkTerm_105 rfl rfl (q := 106) rfl ?_
          refine aw_lret C E dX7_walkTerm_106 (Nat.le_refl _) (Nat.le_refl _) ?_
          have e : R = r := by rw [← hR]; unfold wk_Tl; rw [if_neg (by rw [ho]; decide), if_neg (by rintro (z | z); exact c_34 z; exact c_41 z)]
          exact ⟨by rw [e], by rw [e]; exact K1, kq1⟩
set_option maxHeartbeats 4000000 in
set_option maxRecDepth 100000 in
theorem c_walkTerm (G : ac_G) (l : Launch) (w u pl : Nat) (f : Nat → Int32) (len : Nat) (A : Nat → Nat) (I : Nat → Int32) (F : Nat → Nat → Int32) (c : Nat) (hlen : len ≤ 400) (hf : cu_ch f) (d dp b : Nat) (fc : Nat → wk_R) (hb : b ≤ 200) (hfb : wk_bd len b fc) (hS : wk_C G l yX7_walkFactor cX7_walkFactor w u pl f len A I F c (d + 7) dp fc) : wk_C G l yX7_walkTerm cX7_walkTerm w u pl f len A I F c (d + 8) dp (wk_T f len fc) := by
  intro h at_ Kw Kp hat
  refine ac_of (ls := [.ref w, .int (nI dp), .retAddr 0, .retAddr 0, .retAddr 0, .retAddr 0, .retAddr 0, .retAddr 0]) (by decide +kernel) rfl (Nat.le_of_ble_eq_true rfl) (fun M hl C B E hnm => ?_)
  rw [← hl] at hS
  refine aw_aload_n C dX7_walkTerm_0 rfl rfl (q := 1) rfl ?_
  refine aw_iload_n C dX7_walkTerm_1 rfl rfl (q := 2) rfl ?_
  refine cvX7_60_7 (As := [.int (nI dp)]) (rest := []) C B dX7_walkTerm_2 Kw.1 (hS h at_ Kw Kp hat) rfl rfl (Nat.le_of_ble_eq_true rfl) (by omega) (by omega) (by omega) (q := 5) rfl (fun r9 h3 hr9 => ?_)
  obtain ⟨er9, K3, kp9⟩ := hr9
  subst er9
  have hb3 := hfb at_
  show aw G 8 M 5 [.ref w, .int (nI dp), .retAddr 0, .retAddr 0, .retAddr 0, .retAddr 0, .retAddr 0, .retAddr 0] [.long ((fc at_).1)] h3 0 0
  refine aw_lstore_n (ls' := [.ref w, .int (nI dp), .long ((fc at_).1), .retAddr 0, .retAddr 0, .retAddr 0, .retAddr 0, .retAddr 0]) C dX7_walkTerm_5 rfl (by decide) rfl (q := 6) rfl ?_
  refine aw_iconst (v := 0) C dX7_walkTerm_6 (by decide) (q := 7) rfl ?_
  refine aw_istore (ls' := [.ref w, .int (nI dp), .long ((fc at_).1), .retAddr 0, .int 0, .retAddr 0, .retAddr 0, .retAddr 0]) C dX7_walkTerm_7 (by decide) rfl (q := 9) rfl ?_
  exact lp_walkTerm (R := wk_T f len fc at_) hlen hf hb hfb C B E Kw Kp hS 300 0 (fc at_) h3 0 _ _ _ rfl (by omega) K3 kp9 (Or.inr rfl) rfl
set_option maxHeartbeats 4000000 in
set_option maxRecDepth 100000 in
theorem lp_walkExpression {G : ac_G} {M : ac_M} {h : ac_H} {w u pl len : Nat} {f : Nat → Int32} {A : Nat → Nat} {I : Nat → Int32} {F : Nat → Nat → Int32} {c : Nat} {d dp b : Nat} {fc : Nat → wk_R} {R : wk_R} {at0 : Nat} {op0 : Bool} (hlen : len ≤ 400) (hf : cu_ch f) (hb : b ≤ 200) (hfb : wk_bd len b fc) (C : ac_MC G RX7 cX7_walkExpression 8 (some .long) M) (B : ac_Bd M (d + 9) 0 0) (E : ac_End G (wk_Q h w u pl f len R) 0 0 M) (Kw0 : wk_ok h w u pl f len at0 op0) (Kp0 : pl_ok h pl A I F c) (hS : wk_C G M.2.1 yX7_walkTerm cX7_walkTerm w u pl f len A I F c (d + 8) dp fc) :
    ∀ (m i : Nat) (r : wk_R) (h1 : ac_H) (x5 : Int32) (v5 v6 v7 : Value), i + m = 300 → r.2.1 < 60000 → wk_ok h1 w u pl f len r.2.1 r.2.2 → kp h h1 [w] → (v5 = .int x5 ∨ v5 = .retAddr 0) → wk_El f len fc m r = R → aw G 8 M 9 [.ref w, .int (nI dp), .long r.1, .retAddr 0, .int (nI i), v5, v6, v7] [] h1 0 0 := by
  intro m
  induction m with
  | zero =>
    intro i r h1 x5 v5 v6 v7 hi hat K1 kq1 hv5 hR
    refine aw_iload C dX7_walkExpression_9 rfl (q := 11) rfl ?_
    refine aw_sipush (v := 300) C dX7_walkExpression_11 (by decide) (q := 14) rfl ?_
    refine aw_icmp_ge (t := 89) (q := 17) C dX7_walkExpression_14 (by decide) rfl (fun c_14 => ?_) (fun c_14 => absurd c_14 (fun z => z (nI_le (a := 300) (by omega) (by omega))))
    refine aw_lload_n C dX7_walkExpression_89 rfl rfl (q := 90) rfl ?_
    refine aw_lret C E dX7_walkExpression_90 (Nat.le_refl _) (Nat.le_refl _) ?_
    have e : R = r := by rw [← hR]; rfl
    exact ⟨by rw [e], by rw [e]; exact K1, kq1⟩
  | succ m ih =>
    intro i r h1 x5 v5 v6 v7 hi hat K1 kq1 hv5 hR
    refine aw_iload C dX7_walkExpression_9 rfl (q := 11) rfl ?_
    refine aw_sipush (v := 300) C dX7_walkExpression_11 (by decide) (q := 14) rfl ?_
    refine aw_icmp_ge (t := 89) (q := 17) C dX7_walkExpression_14 (by decide) rfl (fun c_14 => absurd c_14 (ni_nge i 300 rfl rfl (by omega) (by decide) (by omega))) (fun c_14 => ?_)
    refine aw_aload_n C dX7_walkExpression_17 rfl rfl (q := 18) rfl ?_
    refine gfX7_31_7 (v := .int (pb_b (r.2.2 = true))) C dX7_walkExpression_18 K1.1 rfl (q := 21) rfl ?_
    refine aw_if_ne (t := 89) (q := 24) C dX7_walkExpression_21 (by decide) rfl (fun c_21 => ?_) (fun c_21 => ?_)
    ·
      refine aw_lload_n C dX7_walkExpression_89 rfl rfl (q := 90) rfl ?_
      refine aw_lret C E dX7_walkExpression_90 (Nat.le_refl _) (Nat.le_refl _) ?_
      have e : R = r := by rw [← hR]; unfold wk_El; rw [if_pos (pb_n c_21)]
      exact ⟨by rw [e], by rw [e]; exact K1, kq1⟩
    ·
      have ho : r.2.2 = false := Bool.eq_false_iff.mpr (pb_0.mp c_21)
      have K2 : wk_ok h1 w u pl f len r.2.1 false := by rw [← ho]; exact K1
      refine aw_aload_n C dX7_walkExpression_24 rfl rfl (q := 25) rfl ?_
      refine cvX7_35_7 (As := []) (rest := []) C B dX7_walkExpression_25 K2.1 (c_here7 G M.2.1 h1 d w u len r.2.1 len f (.ref pl) (.int (pb_b (false = true))) K2.1 K2.2 (Nat.le_refl len) hlen (by omega) hf) rfl rfl (Nat.le_of_ble_eq_true rfl) (by omega) (by omega) (by omega) (q := 28) rfl (fun r9 h9 hr9 => ?_)
      obtain ⟨e9, er9⟩ := hr9
      subst er9; rw [e9]
      show aw G 8 M 28 [.ref w, .int (nI dp), .long r.1, .retAddr 0, .int (nI i), v5, v6, v7] [.int (cu_c f len r.2.1)] h1 0 0
      refine aw_istore (ls' := [.ref w, .int (nI dp), .long r.1, .retAddr 0, .int (nI i), .int (cu_c f len r.2.1), v6, v7]) C dX7_walkExpression_28 (by decide) rfl (q := 30) rfl ?_
      refine aw_iload C dX7_walkExpression_30 rfl (q := 32) rfl ?_
      refine aw_bipush (v := 43) C dX7_walkExpression_32 (by decide) (q := 34) rfl ?_
      refine aw_icmp_eq (t := 47) (q := 37) C dX7_walkExpression_34 (by decide) rfl (fun c_34 => ?_) (fun c_34 => ?_)
      ·
        refine aw_aload_n C dX7_walkExpression_47 rfl rfl (q := 48) rfl ?_
        refine aw_dup C dX7_walkExpression_48 rfl (q := 49) rfl ?_
        refine gfX7_28_7 (v := .int (nI r.2.1)) C dX7_walkExpression_49 K2.1 rfl (q := 52) rfl ?_
        refine aw_iconst (v := 1) C dX7_walkExpression_52 (by decide) (q := 53) rfl ?_
        refine aw_iadd C dX7_walkExpression_53 (q := 54) rfl ?_
        rw [show nI r.2.1 + 1 = nI (r.2.1 + 1) from nI_1 _]
        refine pfX7_28_7 C dX7_walkExpression_54 K2.1 rfl rfl (Nat.le_of_ble_eq_true rfl) (q := 57) rfl ?_
        show aw G 8 M 57 [.ref w, .int (nI dp), .long r.1, .retAddr 0, .int (nI i), .int (cu_c f len r.2.1), v6, v7] [] (ac_up h1 w (.inr (7, [.ref u, .int (nI len), .int (nI (r.2.1 + 1)), .ref pl, .int (pb_b (false = true))]))) 0 0
        obtain ⟨h_1, eh_1⟩ : ∃ z, z = ac_up h1 w (.inr (7, [.ref u, .int (nI len), .int (nI (r.2.1 + 1)), .ref pl, .int (pb_b (false = true))])) := ⟨_, rfl⟩
        rw [← eh_1]
        have f_2 : h_1 u = some (.inl (0, len, .inl (f))) := by rw [eh_1, ac_up_n _ _ (ne_ai K2.2 K2.1)]; exact K2.2
        have f_3 : h_1 w = some (.inr (7, [.ref u, .int (nI len), .int (nI (r.2.1 + 1)), .ref pl, .int (pb_b (false = true))])) := by rw [eh_1]; exact ac_up_s _ _ _
        have kp_4 : kp h h_1 [w] := by rw [eh_1]; exact kp_up kq1 _ _ (by simp)
        have K_5 : wk_ok h_1 w u pl f len (r.2.1 + 1) false := ⟨f_3, f_2⟩
        refine aw_aload_n C dX7_walkExpression_57 rfl rfl (q := 58) rfl ?_
        refine aw_iload_n C dX7_walkExpression_58 rfl rfl (q := 59) rfl ?_
        have hel : r.2.1 < len := cu_c_in c_34 (by decide)
        have Kp2 := pl_kpw Kp0 Kw0 kp_4
        refine cvX7_57_7 (As := [.int (nI dp)]) (rest := []) C B dX7_walkExpression_59 K_5.1 (hS h_1 (r.2.1 + 1) K_5 Kp2 (by omega)) rfl rfl (Nat.le_of_ble_eq_true rfl) (by omega) (by omega) (by omega) (q := 62) rfl (fun r9 h3 hr9 => ?_)
        obtain ⟨er9, K3, kp9⟩ := hr9
        subst er9
        have kq3 : kp h h3 [w] := kp_mono (kp_tr kp_4 kp9) (by simp)
        have hb3 := hfb (r.2.1 + 1)
        obtain ⟨r3, hr3⟩ : ∃ z, z = fc (r.2.1 + 1) := ⟨_, rfl⟩
        rw [← hr3] at K3 hb3 ⊢
        show aw G 8 M 62 [.ref w, .int (nI dp), .long r.1, .retAddr 0, .int (nI i), .int (cu_c f len r.2.1), v6, v7] [.long r3.1] h3 0 0
        refine aw_lstore (ls' := [.ref w, .int (nI dp), .long r.1, .retAddr 0, .int (nI i), .int (cu_c f len r.2.1), .long r3.1, .retAddr 0]) C dX7_walkExpression_62 (by decide) rfl (q := 64) rfl ?_
        refine aw_iload C dX7_walkExpression_64 rfl (q := 66) rfl ?_
        refine aw_bipush (v := 43) C dX7_walkExpression_66 (by decide) (q := 68) rfl ?_
        refine aw_icmp_ne (t := 78) (q := 71) C dX7_walkExpression_68 (by decide) rfl (fun c_68 => ?_) (fun c_68 => ?_)
        ·
          refine aw_lload_n C dX7_walkExpression_78 rfl rfl (q := 79) rfl ?_
          refine aw_lload C dX7_walkExpression_79 rfl (q := 81) rfl ?_
          refine aw_lsub C dX7_walkExpression_81 (q := 82) rfl ?_
          refine aw_lstore_n (ls' := [.ref w, .int (nI dp), .long (r.1 - r3.1), .retAddr 0, .int (nI i), .int (cu_c f len r.2.1), .long r3.1, .retAddr 0]) C dX7_walkExpression_82 rfl (by decide) rfl (q := 83) rfl ?_
          refine aw_iinc (v := nI (i + 1)) (ls' := [.ref w, .int (nI dp), .long (r.1 - r3.1), .retAddr 0, .int (nI (i + 1)), .int (cu_c f len r.2.1), .long r3.1, .retAddr 0]) C dX7_walkExpression_83 rfl (nI_1 i) (by decide) rfl (q := 86) rfl ?_
          refine aw_goto (q := 9) C dX7_walkExpression_86 (by decide) ?_
          refine ih (i + 1) (r.1 - r3.1, r3.2.1, r3.2.2) h3 _ _ _ _ (by omega) (by show r3.2.1 < 60000; omega) K3 kq3 (Or.inl rfl) ?_
          rw [← hR]; conv => rhs; unfold wk_El
          rw [if_neg (by rw [ho]; decide), if_pos (Or.inl c_34), if_neg c_68, ← hr3]
        ·
          refine aw_lload_n C dX7_walkExpression_71 rfl rfl (q := 72) rfl ?_
          refine aw_lload C dX7_walkExpression_72 rfl (q := 74) rfl ?_
          refine aw_ladd C dX7_walkExpression_74 (q := 75) rfl ?_
          refine aw_goto (q := 82) C dX7_walkExpression_75 (by decide) ?_
          refine aw_lstore_n (ls' := [.ref w, .int (nI dp), .long (r.1 + r3.1), .retAddr 0, .int (nI i), .int (cu_c f len r.2.1), .long r3.1, .retAddr 0]) C dX7_walkExpression_82 rfl (by decide) rfl (q := 83) rfl ?_
          refine aw_iinc (v := nI (i + 1)) (ls' := [.ref w, .int (nI dp), .long (r.1 + r3.1), .retAddr 0, .int (nI (i + 1)), .int (cu_c f len r.2.1), .long r3.1, .retAddr 0]) C dX7_walkExpression_83 rfl (nI_1 i) (by decide) rfl (q := 86) rfl ?_
          refine aw_goto (q := 9) C dX7_walkExpression_86 (by decide) ?_
          refine ih (i + 1) (r.1 + r3.1, r3.2.1, r3.2.2) h3 _ _ _ _ (by omega) (by show r3.2.1 < 60000; omega) K3 kq3 (Or.inl rfl) ?_
          rw [← hR]; conv => rhs; unfold wk_El
          rw [if_neg (by rw [ho]; decide), if_pos (Or.inl c_34), if_pos c_68, ← hr3]
      ·
        refine aw_iload C dX7_walkExpression_37 rfl (q := 39) rfl ?_
        refine aw_bipush (v := 45) C dX7_walkExpression_39 (by decide) (q := 41) rfl ?_
        refine aw_icmp_eq (t := 47) (q := 44) C dX7_walkExpression_41 (by decide) rfl (fun c_41 => ?_) (fun c_41 => ?_)
        ·
          refine aw_aload_n C dX7_walkExpression_47 rfl rfl (q := 48) rfl ?_
          refine aw_dup C dX7_walkExpression_48 rfl (q := 49) rfl ?_
          refine gfX7_28_7 (v := .int (nI r.2.1)) C dX7_walkExpression_49 K2.1 rfl (q := 52) rfl ?_
          refine aw_iconst (v := 1) C dX7_walkExpression_52 (by decide) (q := 53) rfl ?_
          refine aw_iadd C dX7_walkExpression_53 (q := 54) rfl ?_
          rw [show nI r.2.1 + 1 = nI (r.2.1 + 1) from nI_1 _]
          refine pfX7_28_7 C dX7_walkExpression_54 K2.1 rfl rfl (Nat.le_of_ble_eq_true rfl) (q := 57) rfl ?_
          show aw G 8 M 57 [.ref w, .int (nI dp), .long r.1, .retAddr 0, .int (nI i), .int (cu_c f len r.2.1), v6, v7] [] (ac_up h1 w (.inr (7, [.ref u, .int (nI len), .int (nI (r.2.1 + 1)), .ref pl, .int (pb_b (false = true))]))) 0 0
          obtain ⟨h_6, eh_6⟩ : ∃ z, z = ac_up h1 w (.inr (7, [.ref u, .int (nI len), .int (nI (r.2.1 + 1)), .ref pl, .int (pb_b (false = true))])) := ⟨_, rfl⟩
          rw [← eh_6]
          have f_7 : h_6 u = some (.inl (0, len, .inl (f))) := by rw [eh_6, ac_up_n _ _ (ne_ai K2.2 K2.1)]; exact K2.2
          have f_8 : h_6 w = some (.inr (7, [.ref u, .int (nI len), .int (nI (r.2.1 + 1)), .ref pl, .int (pb_b (false = true))])) := by rw [eh_6]; exact ac_up_s _ _ _
          have kp_9 : kp h h_6 [w] := by rw [eh_6]; exact kp_up kq1 _ _ (by simp)
          have K_10 : wk_ok h_6 w u pl f len (r.2.1 + 1) false := ⟨f_8, f_7⟩
          refine aw_aload_n C dX7_walkExpression_57 rfl rfl (q := 58) rfl ?_
          refine aw_iload_n C dX7_walkExpression_58 rfl rfl (q := 59) rfl ?_
          have hel : r.2.1 < len := cu_c_in c_41 (by decide)
          have Kp2 := pl_kpw Kp0 Kw0 kp_9
          refine cvX7_57_7 (As := [.int (nI dp)]) (rest := []) C B dX7_walkExpression_59 K_10.1 (hS h_6 (r.2.1 + 1) K_10 Kp2 (by omega)) rfl rfl (Nat.le_of_ble_eq_true rfl) (by omega) (by omega) (by omega) (q := 62) rfl (fun r9 h3 hr9 => ?_)
          obtain ⟨er9, K3, kp9⟩ := hr9
          subst er9
          have kq3 : kp h h3 [w] := kp_mono (kp_tr kp_9 kp9) (by simp)
          have hb3 := hfb (r.2.1 + 1)
          obtain ⟨r3, hr3⟩ : ∃ z, z = fc (r.2.1 + 1) := ⟨_, rfl⟩
          rw [← hr3] at K3 hb3 ⊢
          show aw G 8 M 62 [.ref w, .int (nI dp), .long r.1, .retAddr 0, .int (nI i), .int (cu_c f len r.2.1), v6, v7] [.long r3.1] h3 0 0
          refine aw_lstore (ls' := [.ref w, .int (nI dp), .long r.1, .retAddr 0, .int (nI i), .int (cu_c f len r.2.1), .long r3.1, .retAddr 0]) C dX7_walkExpression_62 (by decide) rfl (q := 64) rfl ?_
          refine aw_iload C dX7_walkExpression_64 rfl (q := 66) rfl ?_
          refine aw_bipush (v := 43) C dX7_walkExpression_66 (by decide) (q := 68) rfl ?_
          refine aw_icmp_ne (t := 78) (q := 71) C dX7_walkExpression_68 (by decide) rfl (fun c_68 => ?_) (fun c_68 => ?_)
          ·
            refine aw_lload_n C dX7_walkExpression_78 rfl rfl (q := 79) rfl ?_
            refine aw_lload C dX7_walkExpression_79 rfl (q := 81) rfl ?_
            refine aw_lsub C dX7_walkExpression_81 (q := 82) rfl ?_
            refine aw_lstore_n (ls' := [.ref w, .int (nI dp), .long (r.1 - r3.1), .retAddr 0, .int (nI i), .int (cu_c f len r.2.1), .long r3.1, .retAddr 0]) C dX7_walkExpression_82 rfl (by decide) rfl (q := 83) rfl ?_
            refine aw_iinc (v := nI (i + 1)) (ls' := [.ref w, .int (nI dp), .long (r.1 - r3.1), .retAddr 0, .int (nI (i + 1)), .int (cu_c f len r.2.1), .long r3.1, .retAddr 0]) C dX7_walkExpression_83 rfl (nI_1 i) (by decide) rfl (q := 86) rfl ?_
            refine aw_goto (q := 9) C dX7_walkExpression_86 (by decide) ?_
            refine ih (i + 1) (r.1 - r3.1, r3.2.1, r3.2.2) h3 _ _ _ _ (by omega) (by show r3.2.1 < 60000; omega) K3 kq3 (Or.inl rfl) ?_
            rw [← hR]; conv => rhs; unfold wk_El
            rw [if_neg (by rw [ho]; decide), if_pos (Or.inr c_41), if_neg c_68, ← hr3]
          ·
            refine aw_lload_n C dX7_walkExpression_71 rfl rfl (q := 72) rfl ?_
            refine aw_lload C dX7_walkExpression_72 rfl (q := 74) rfl ?_
            refine aw_ladd C dX7_walkExpression_74 (q := 75) rfl ?_
            refine aw_goto (q := 82) C dX7_walkExpression_75 (by decide) ?_
            refine aw_lstore_n (ls' := [.ref w, .int (nI dp), .long (r.1 + r3.1), .retAddr 0, .int (nI i), .int (cu_c f len r.2.1), .long r3.1, .retAddr 0]) C dX7_walkExpression_82 rfl (by decide) rfl (q := 83) rfl ?_
            refine aw_iinc (v := nI (i + 1)) (ls' := [.ref w, .int (nI dp), .long (r.1 + r3.1), .retAddr 0, .int (nI (i + 1)), .int (cu_c f len r.2.1), .long r3.1, .retAddr 0]) C dX7_walkExpression_83 rfl (nI_1 i) (by decide) rfl (q := 86) rfl ?_
            refine aw_goto (q := 9) C dX7_walkExpression_86 (by decide) ?_
            refine ih (i + 1) (r.1 + r3.1, r3.2.1, r3.2.2) h3 _ _ _ _ (by omega) (by show r3.2.1 < 60000; omega) K3 kq3 (Or.inl rfl) ?_
            rw [← hR]; conv => rhs; unfold wk_El
            rw [if_neg (by rw [ho]; decide), if_pos (Or.inr c_41), if_pos c_68, ← hr3]
        ·
          refine aw_goto (q := 89) C dX7_walkExpression_44 (by decide) ?_
          refine aw_lload_n C dX7_walkExpression_89 rfl rfl (q := 90) rfl ?_
          refine aw_lret C E dX7_walkExpression_90 (Nat.le_refl _) (Nat.le_refl _) ?_
          have e : R = r := by rw [← hR]; unfold wk_El; rw [if_neg (by rw [ho]; decide), if_neg (by rintro (z | z); exact c_34 z; exact c_41 z)]
          exact ⟨by rw [e], by rw [e]; exact K1, kq1⟩
set_option maxHeartbeats 4000000 in
set_option maxRecDepth 100000 in
theorem c_walkExpression (G : ac_G) (l : Launch) (w u pl : Nat) (f : Nat → Int32) (len : Nat) (A : Nat → Nat) (I : Nat → Int32) (F : Nat → Nat → Int32) (c : Nat) (hlen : len ≤ 400) (hf : cu_ch f) (d dp b : Nat) (fc : Nat → wk_R) (hb : b ≤ 200) (hfb : wk_bd len b fc) (hS : wk_C G l yX7_walkTerm cX7_walkTerm w u pl f len A I F c (d + 8) dp fc) : wk_C G l yX7_walkExpression cX7_walkExpression w u pl f len A I F c (d + 9) dp (wk_E f len fc) := by
  intro h at_ Kw Kp hat
  refine ac_of (ls := [.ref w, .int (nI dp), .retAddr 0, .retAddr 0, .retAddr 0, .retAddr 0, .retAddr 0, .retAddr 0]) (by decide +kernel) rfl (Nat.le_of_ble_eq_true rfl) (fun M hl C B E hnm => ?_)
  rw [← hl] at hS
  refine aw_aload_n C dX7_walkExpression_0 rfl rfl (q := 1) rfl ?_
  refine aw_iload_n C dX7_walkExpression_1 rfl rfl (q := 2) rfl ?_
  refine cvX7_57_7 (As := [.int (nI dp)]) (rest := []) C B dX7_walkExpression_2 Kw.1 (hS h at_ Kw Kp hat) rfl rfl (Nat.le_of_ble_eq_true rfl) (by omega) (by omega) (by omega) (q := 5) rfl (fun r9 h3 hr9 => ?_)
  obtain ⟨er9, K3, kp9⟩ := hr9
  subst er9
  have hb3 := hfb at_
  show aw G 8 M 5 [.ref w, .int (nI dp), .retAddr 0, .retAddr 0, .retAddr 0, .retAddr 0, .retAddr 0, .retAddr 0] [.long ((fc at_).1)] h3 0 0
  refine aw_lstore_n (ls' := [.ref w, .int (nI dp), .long ((fc at_).1), .retAddr 0, .retAddr 0, .retAddr 0, .retAddr 0, .retAddr 0]) C dX7_walkExpression_5 rfl (by decide) rfl (q := 6) rfl ?_
  refine aw_iconst (v := 0) C dX7_walkExpression_6 (by decide) (q := 7) rfl ?_
  refine aw_istore (ls' := [.ref w, .int (nI dp), .long ((fc at_).1), .retAddr 0, .int 0, .retAddr 0, .retAddr 0, .retAddr 0]) C dX7_walkExpression_7 (by decide) rfl (q := 9) rfl ?_
  exact lp_walkExpression (R := wk_E f len fc at_) hlen hf hb hfb C B E Kw Kp hS 300 0 (fc at_) h3 0 _ _ _ rfl (by omega) K3 kp9 (Or.inr rfl) rfl
theorem c_walkX (G : ac_G) (l : Launch) (w u pl : Nat) (f : Nat → Int32) (len : Nat) (A : Nat → Nat) (I : Nat → Int32) (F : Nat → Nat → Int32) (c : Nat) (hlen : len ≤ 400) (hf : cu_ch f) : ∀ (k dp : Nat), dp + k = 8 → wk_C G l yX7_walkExpression cX7_walkExpression w u pl f len A I F c (3 * k + 9) dp (wk_X I F c f len k)
  | 0, dp, hk => c_walkExpression G l w u pl f len A I F c hlen hf 0 dp 2 _ (by decide) (wk_T_bd (wk_F_bd (b := 0) (Or.inl rfl))) (c_walkTerm G l w u pl f len A I F c hlen hf 0 dp 2 _ (by decide) (wk_F_bd (b := 0) (Or.inl rfl)) (c_walkFactor G l w u pl f len A I F c hlen hf 0 dp 0 _ true (by omega) (fun _ => by omega) (fun z => by cases z) (by decide) (fun z => by cases z) (fun z => by cases z)))
  | k + 1, dp, hk => by
    have hX := c_walkX G l w u pl f len A I F c hlen hf k (dp + 1) (by omega)
    have e : 3 * (k + 1) + 6 = 3 * k + 9 := by omega
    have hX2 : wk_C G l yX7_walkExpression cX7_walkExpression w u pl f len A I F c (3 * (k + 1) + 6) (dp + 1) (wk_X I F c f len k) := by rw [e]; exact hX
    have hB := wk_X_bd (I := I) (F := F) (c := c) (f := f) (len := len) k
    exact c_walkExpression G l w u pl f len A I F c hlen hf (3 * (k + 1)) dp (2 * k + 2 + 2) _ (by omega) (wk_T_bd (wk_F_bd (Or.inr hB))) (c_walkTerm G l w u pl f len A I F c hlen hf (3 * (k + 1)) dp (2 * k + 2 + 2) _ (by omega) (wk_F_bd (Or.inr hB)) (c_walkFactor G l w u pl f len A I F c hlen hf (3 * (k + 1)) dp (2 * k + 2) _ false (by omega) (fun z => by cases z) (fun _ => by omega) (by omega) (fun _ => hB) (fun _ => hX2)))
