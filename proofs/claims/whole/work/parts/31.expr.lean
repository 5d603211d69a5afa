set_option maxHeartbeats 4000000 in
set_option maxRecDepth 100000 in
theorem lp_parseTerm {G : ac_G} {M : ac_M} {r u dr : Nat} {rd : Nat → Nat} {f : Nat → Int32} {len : Nat} (hr : inj rd 6) (hlen : len ≤ 300) (hf : cu_ch f) {h : ac_H} {d dp : Nat} {lf : rs_S → rs_R} {R : rs_R} {bhv : Int32} {a3 : Nat} (hS : rs_C G M.2.1 yX3_parseLaterFactor cX3_parseLaterFactor 4 r u dr rd f len (d + 7) [.int (nI dp)] lf) (C : ac_MC G RX3 cX3_parseTerm 7 (some .int) M) (B : ac_Bd M (d + 8) 0 0) (E : ac_End G (fun r9 h9 => r9 = some (.int R.1) ∧ rs_ok h9 r u dr rd f len R.2 ∧ kp h h9 (rs_L r dr rd)) 0 0 M) :
    ∀ (m i : Nat) (x : rs_R) (h1 : ac_H) (v6 : Value), i + m = 300 → rs_ok h1 r u dr rd f len x.2 → kp h h1 (rs_L r dr rd) → rs_Tl f len lf m x = R → aw G 7 M 51 [.ref r, .int (nI dp), .int bhv, .int (nI a3), .int x.1, .int (nI i), v6] [] h1 0 0 := by
  intro m
  induction m with
  | zero =>
    intro i x h1 v6 hi K1 kq1 hR
    refine aw_iload C dX3_parseTerm_51 rfl (q := 53) rfl ?_
    refine aw_sipush (v := 300) C dX3_parseTerm_53 (by decide) (q := 56) rfl ?_
    refine aw_icmp_ge (t := 130) (q := 59) C dX3_parseTerm_56 (by decide) rfl (fun c_56 => ?_) (fun c_56 => absurd c_56 (fun z => z (nI_le (a := 300) (by omega) (by omega))))
    refine aw_iload C dX3_parseTerm_130 rfl (q := 132) rfl ?_
    refine aw_iret C E dX3_parseTerm_132 (Nat.le_refl _) (Nat.le_refl _) ?_
    rw [show x = R from hR] at K1 ⊢
    exact ⟨rfl, K1, kq1⟩
  | succ m ih =>
    intro i x h1 v6 hi K1 kq1 hR
    refine aw_iload C dX3_parseTerm_51 rfl (q := 53) rfl ?_
    refine aw_sipush (v := 300) C dX3_parseTerm_53 (by decide) (q := 56) rfl ?_
    refine aw_icmp_ge (t := 130) (q := 59) C dX3_parseTerm_56 (by decide) rfl (fun c_56 => absurd c_56 (ni_nge i 300 rfl rfl (by omega) (by decide) (by omega))) (fun c_56 => ?_)
    refine aw_iload C dX3_parseTerm_59 rfl (q := 61) rfl ?_
    refine aw_iconst (v := (-1)) C dX3_parseTerm_61 (by decide) (q := 62) rfl ?_
    refine aw_icmp_eq (t := 130) (q := 65) C dX3_parseTerm_62 (by decide) rfl (fun c_62 => ?_) (fun c_62 => ?_)
    ·
      refine aw_iload C dX3_parseTerm_130 rfl (q := 132) rfl ?_
      refine aw_iret C E dX3_parseTerm_132 (Nat.le_refl _) (Nat.le_refl _) ?_
      rw [show x = R from by rw [← hR]; unfold rs_Tl; rw [if_pos c_62]] at K1 ⊢
      exact ⟨rfl, K1, kq1⟩
    ·
      refine aw_aload_n C dX3_parseTerm_65 rfl rfl (q := 66) rfl ?_
      refine cvX3_54_3 (As := []) (rest := []) C B dX3_parseTerm_66 K1.1 (c_here3 G M.2.1 h1 d r u len x.2.1 300 f (.ref dr) (.ref (rd 0)) K1.1 K1.2.1 hlen (by decide) (by have := K1.2.2.2.2.1; omega) hf) rfl rfl (Nat.le_of_ble_eq_true rfl) (by omega) (by omega) (by omega) (q := 69) rfl (fun r9 h9 hr9 => ?_)
      obtain ⟨e9, er9⟩ := hr9
      subst er9; rw [e9]
      show aw G 7 M 69 [.ref r, .int (nI dp), .int bhv, .int (nI a3), .int x.1, .int (nI i), v6] [.int (cu_c f len x.2.1)] h1 0 0
      refine aw_istore (ls' := [.ref r, .int (nI dp), .int bhv, .int (nI a3), .int x.1, .int (nI i), .int (cu_c f len x.2.1)]) C dX3_parseTerm_69 (by decide) rfl (q := 71) rfl ?_
      refine aw_iload C dX3_parseTerm_71 rfl (q := 73) rfl ?_
      refine aw_bipush (v := 42) C dX3_parseTerm_73 (by decide) (q := 75) rfl ?_
      refine aw_icmp_eq (t := 88) (q := 78) C dX3_parseTerm_75 (by decide) rfl (fun c_75 => ?_) (fun c_75 => ?_)
      ·
        refine aw_aload_n C dX3_parseTerm_88 rfl rfl (q := 89) rfl ?_
        refine aw_dup C dX3_parseTerm_89 rfl (q := 90) rfl ?_
        refine gfX3_40_3 (v := .int (nI x.2.1)) C dX3_parseTerm_90 K1.1 rfl (q := 93) rfl ?_
        refine aw_iconst (v := 1) C dX3_parseTerm_93 (by decide) (q := 94) rfl ?_
        refine aw_iadd C dX3_parseTerm_94 (q := 95) rfl ?_
        have hl9 : x.2.1 < len := cu_c_in c_75 (by decide)
        rw [show nI x.2.1 + 1 = nI (x.2.1 + 1) from nI_1 _]
        refine pfX3_40_3 C dX3_parseTerm_95 K1.1 rfl rfl (Nat.le_of_ble_eq_true rfl) (q := 98) rfl ?_
        show aw G 7 M 98 [.ref r, .int (nI dp), .int bhv, .int (nI a3), .int x.1, .int (nI i), .int (cu_c f len x.2.1)] [] (ac_up h1 r (.inr (3, [.ref u, .int (nI len), .int (nI (x.2.1 + 1)), .ref dr, .ref (rd 0)]))) 0 0
        obtain ⟨h_1, eh_1⟩ : ∃ z, z = ac_up h1 r (.inr (3, [.ref u, .int (nI len), .int (nI (x.2.1 + 1)), .ref dr, .ref (rd 0)])) := ⟨_, rfl⟩
        rw [← eh_1]
        have kpx_3 : kp h1 h_1 [r] := by rw [eh_1]; exact kp_up (kp_cons r kp_rf) _ _ (by simp)
        have K_2 : rs_ok h_1 r u dr rd f len (x.2.1 + 1, x.2.2.1, x.2.2.2) := rs_at (s := (x.2.1, x.2.2.1, x.2.2.2)) K1 (by rw [eh_1]; exact ac_up_s _ _ _) kpx_3 (by omega)
        have kq_4 : kp h h_1 (rs_L r dr rd) := kp_in kq1 kpx_3 rs_s1
        refine aw_aload_n C dX3_parseTerm_98 rfl rfl (q := 99) rfl ?_
        refine aw_iload_n C dX3_parseTerm_99 rfl rfl (q := 100) rfl ?_
        refine cvX3_85_3 (As := [.int (nI dp)]) (rest := []) C B dX3_parseTerm_100 K_2.1 (hS h_1 (x.2.1 + 1, x.2.2.1, x.2.2.2) K_2) rfl rfl (Nat.le_of_ble_eq_true rfl) (by omega) (by omega) (by omega) (q := 103) rfl (fun r9 h_5 hr9 => ?_)
        obtain ⟨er9, K_6, kpx_7⟩ := hr9
        subst er9
        have kq_8 : kp h h_5 (rs_L r dr rd) := kp_in kq_4 kpx_7 (fun _ z => z)
        obtain ⟨y, ey⟩ : ∃ z, z = lf (x.2.1 + 1, x.2.2.1, x.2.2.2) := ⟨_, rfl⟩
        rw [← ey] at K_6 ⊢
        show aw G 7 M 103 [.ref r, .int (nI dp), .int bhv, .int (nI a3), .int x.1, .int (nI i), .int (cu_c f len x.2.1)] [.int y.1] h_5 0 0
        refine aw_iconst (v := (-1)) C dX3_parseTerm_103 (by decide) (q := 104) rfl ?_
        refine aw_icmp_ne (t := 111) (q := 107) C dX3_parseTerm_104 (by decide) rfl (fun c_104 => ?_) (fun c_104 => ?_)
        ·
          refine aw_iconst (v := 1) C dX3_parseTerm_111 (by decide) (q := 112) rfl ?_
          refine aw_istore (ls' := [.ref r, .int (nI dp), .int bhv, .int (nI a3), .int 1, .int (nI i), .int (cu_c f len x.2.1)]) C dX3_parseTerm_112 (by decide) rfl (q := 114) rfl ?_
          refine aw_aload_n C dX3_parseTerm_114 rfl rfl (q := 115) rfl ?_
          refine gfX3_20_3 (v := .ref (rd 0)) C dX3_parseTerm_115 K_6.1 rfl (q := 118) rfl ?_
          refine aw_iload C dX3_parseTerm_118 rfl (q := 120) rfl ?_
          refine aw_iconst (v := 0) C dX3_parseTerm_120 (by decide) (q := 121) rfl ?_
          refine cvX3_71_6 (As := [.int (cu_c f len x.2.1), .int 0]) (rest := []) C B dX3_parseTerm_121 K_6.2.2.2.1.1 (c_addStep G M.2.1 h_5 d rd y.2.2.2 hr K_6.2.2.2.1 K_6.2.2.2.2.2 (cu_c f len x.2.1) 0) rfl rfl (Nat.le_of_ble_eq_true rfl) (by omega) (by omega) (by omega) (q := 124) rfl (fun r9 h_9 hr9 => ?_)
          obtain ⟨er9, kx_10, kpx_11⟩ := hr9
          subst er9
          have K_12 : rs_ok h_9 r u dr rd f len (y.2.1, y.2.2.1, ru_add y.2.2.2 (cu_c f len x.2.1) 0) := rs_ru (s := (y.2.1, y.2.2.1, y.2.2.2)) K_6 kx_10 (kp_mono kpx_11 rs_s5) (ru_add_bd K_6.2.2.2.2.2 _ _)
          have kq_13 : kp h h_9 (rs_L r dr rd) := kp_in kq_8 kpx_11 rs_s3
          show aw G 7 M 124 [.ref r, .int (nI dp), .int bhv, .int (nI a3), .int 1, .int (nI i), .int (cu_c f len x.2.1)] [] h_9 0 0
          refine aw_iinc (v := nI (i + 1)) (ls' := [.ref r, .int (nI dp), .int bhv, .int (nI a3), .int 1, .int (nI (i + 1)), .int (cu_c f len x.2.1)]) C dX3_parseTerm_124 rfl (nI_1 i) (by decide) rfl (q := 127) rfl ?_
          refine aw_goto (q := 51) C dX3_parseTerm_127 (by decide) ?_
          refine ih (i + 1) (1, y.2.1, y.2.2.1, ru_add y.2.2.2 (cu_c f len x.2.1) 0) h_9 _ (by omega) K_12 kq_13 ?_
          rw [← hR]; conv => rhs; unfold rs_Tl
          rw [if_neg c_62, if_pos (Or.inl c_75), ← ey, if_neg c_104]
        ·
          refine aw_iconst (v := (-1)) C dX3_parseTerm_107 (by decide) (q := 108) rfl ?_
          refine aw_goto (q := 112) C dX3_parseTerm_108 (by decide) ?_
          refine aw_istore (ls' := [.ref r, .int (nI dp), .int bhv, .int (nI a3), .int ((-1)), .int (nI i), .int (cu_c f len x.2.1)]) C dX3_parseTerm_112 (by decide) rfl (q := 114) rfl ?_
          refine aw_aload_n C dX3_parseTerm_114 rfl rfl (q := 115) rfl ?_
          refine gfX3_20_3 (v := .ref (rd 0)) C dX3_parseTerm_115 K_6.1 rfl (q := 118) rfl ?_
          refine aw_iload C dX3_parseTerm_118 rfl (q := 120) rfl ?_
          refine aw_iconst (v := 0) C dX3_parseTerm_120 (by decide) (q := 121) rfl ?_
          refine cvX3_71_6 (As := [.int (cu_c f len x.2.1), .int 0]) (rest := []) C B dX3_parseTerm_121 K_6.2.2.2.1.1 (c_addStep G M.2.1 h_5 d rd y.2.2.2 hr K_6.2.2.2.1 K_6.2.2.2.2.2 (cu_c f len x.2.1) 0) rfl rfl (Nat.le_of_ble_eq_true rfl) (by omega) (by omega) (by omega) (q := 124) rfl (fun r9 h_14 hr9 => ?_)
          obtain ⟨er9, kx_15, kpx_16⟩ := hr9
          subst er9
          have K_17 : rs_ok h_14 r u dr rd f len (y.2.1, y.2.2.1, ru_add y.2.2.2 (cu_c f len x.2.1) 0) := rs_ru (s := (y.2.1, y.2.2.1, y.2.2.2)) K_6 kx_15 (kp_mono kpx_16 rs_s5) (ru_add_bd K_6.2.2.2.2.2 _ _)
          have kq_18 : kp h h_14 (rs_L r dr rd) := kp_in kq_8 kpx_16 rs_s3
          show aw G 7 M 124 [.ref r, .int (nI dp), .int bhv, .int (nI a3), .int ((-1)), .int (nI i), .int (cu_c f len x.2.1)] [] h_14 0 0
          refine aw_iinc (v := nI (i + 1)) (ls' := [.ref r, .int (nI dp), .int bhv, .int (nI a3), .int ((-1)), .int (nI (i + 1)), .int (cu_c f len x.2.1)]) C dX3_parseTerm_124 rfl (nI_1 i) (by decide) rfl (q := 127) rfl ?_
          refine aw_goto (q := 51) C dX3_parseTerm_127 (by decide) ?_
          refine ih (i + 1) ((-1), y.2.1, y.2.2.1, ru_add y.2.2.2 (cu_c f len x.2.1) 0) h_14 _ (by omega) K_17 kq_18 ?_
          rw [← hR]; conv => rhs; unfold rs_Tl
          rw [if_neg c_62, if_pos (Or.inl c_75), ← ey, if_pos c_104]
      ·
        refine aw_iload C dX3_parseTerm_78 rfl (q := 80) rfl ?_
        refine aw_bipush (v := 47) C dX3_parseTerm_80 (by decide) (q := 82) rfl ?_
        refine aw_icmp_eq (t := 88) (q := 85) C dX3_parseTerm_82 (by decide) rfl (fun c_82 => ?_) (fun c_82 => ?_)
        ·
          refine aw_aload_n C dX3_parseTerm_88 rfl rfl (q := 89) rfl ?_
          refine aw_dup C dX3_parseTerm_89 rfl (q := 90) rfl ?_
          refine gfX3_40_3 (v := .int (nI x.2.1)) C dX3_parseTerm_90 K1.1 rfl (q := 93) rfl ?_
          refine aw_iconst (v := 1) C dX3_parseTerm_93 (by decide) (q := 94) rfl ?_
          refine aw_iadd C dX3_parseTerm_94 (q := 95) rfl ?_
          have hl9 : x.2.1 < len := cu_c_in c_82 (by decide)
          rw [show nI x.2.1 + 1 = nI (x.2.1 + 1) from nI_1 _]
          refine pfX3_40_3 C dX3_parseTerm_95 K1.1 rfl rfl (Nat.le_of_ble_eq_true rfl) (q := 98) rfl ?_
          show aw G 7 M 98 [.ref r, .int (nI dp), .int bhv, .int (nI a3), .int x.1, .int (nI i), .int (cu_c f len x.2.1)] [] (ac_up h1 r (.inr (3, [.ref u, .int (nI len), .int (nI (x.2.1 + 1)), .ref dr, .ref (rd 0)]))) 0 0
          obtain ⟨h_19, eh_19⟩ : ∃ z, z = ac_up h1 r (.inr (3, [.ref u, .int (nI len), .int (nI (x.2.1 + 1)), .ref dr, .ref (rd 0)])) := ⟨_, rfl⟩
          rw [← eh_19]
          have kpx_21 : kp h1 h_19 [r] := by rw [eh_19]; exact kp_up (kp_cons r kp_rf) _ _ (by simp)
          have K_20 : rs_ok h_19 r u dr rd f len (x.2.1 + 1, x.2.2.1, x.2.2.2) := rs_at (s := (x.2.1, x.2.2.1, x.2.2.2)) K1 (by rw [eh_19]; exact ac_up_s _ _ _) kpx_21 (by omega)
          have kq_22 : kp h h_19 (rs_L r dr rd) := kp_in kq1 kpx_21 rs_s1
          refine aw_aload_n C dX3_parseTerm_98 rfl rfl (q := 99) rfl ?_
          refine aw_iload_n C dX3_parseTerm_99 rfl rfl (q := 100) rfl ?_
          refine cvX3_85_3 (As := [.int (nI dp)]) (rest := []) C B dX3_parseTerm_100 K_20.1 (hS h_19 (x.2.1 + 1, x.2.2.1, x.2.2.2) K_20) rfl rfl (Nat.le_of_ble_eq_true rfl) (by omega) (by omega) (by omega) (q := 103) rfl (fun r9 h_23 hr9 => ?_)
          obtain ⟨er9, K_24, kpx_25⟩ := hr9
          subst er9
          have kq_26 : kp h h_23 (rs_L r dr rd) := kp_in kq_22 kpx_25 (fun _ z => z)
          obtain ⟨y, ey⟩ : ∃ z, z = lf (x.2.1 + 1, x.2.2.1, x.2.2.2) := ⟨_, rfl⟩
          rw [← ey] at K_24 ⊢
          show aw G 7 M 103 [.ref r, .int (nI dp), .int bhv, .int (nI a3), .int x.1, .int (nI i), .int (cu_c f len x.2.1)] [.int y.1] h_23 0 0
          refine aw_iconst (v := (-1)) C dX3_parseTerm_103 (by decide) (q := 104) rfl ?_
          refine aw_icmp_ne (t := 111) (q := 107) C dX3_parseTerm_104 (by decide) rfl (fun c_104 => ?_) (fun c_104 => ?_)
          ·
            refine aw_iconst (v := 1) C dX3_parseTerm_111 (by decide) (q := 112) rfl ?_
            refine aw_istore (ls' := [.ref r, .int (nI dp), .int bhv, .int (nI a3), .int 1, .int (nI i), .int (cu_c f len x.2.1)]) C dX3_parseTerm_112 (by decide) rfl (q := 114) rfl ?_
            refine aw_aload_n C dX3_parseTerm_114 rfl rfl (q := 115) rfl ?_
            refine gfX3_20_3 (v := .ref (rd 0)) C dX3_parseTerm_115 K_24.1 rfl (q := 118) rfl ?_
            refine aw_iload C dX3_parseTerm_118 rfl (q := 120) rfl ?_
            refine aw_iconst (v := 0) C dX3_parseTerm_120 (by decide) (q := 121) rfl ?_
            refine cvX3_71_6 (As := [.int (cu_c f len x.2.1), .int 0]) (rest := []) C B dX3_parseTerm_121 K_24.2.2.2.1.1 (c_addStep G M.2.1 h_23 d rd y.2.2.2 hr K_24.2.2.2.1 K_24.2.2.2.2.2 (cu_c f len x.2.1) 0) rfl rfl (Nat.le_of_ble_eq_true rfl) (by omega) (by omega) (by omega) (q := 124) rfl (fun r9 h_27 hr9 => ?_)
            obtain ⟨er9, kx_28, kpx_29⟩ := hr9
            subst er9
            have K_30 : rs_ok h_27 r u dr rd f len (y.2.1, y.2.2.1, ru_add y.2.2.2 (cu_c f len x.2.1) 0) := rs_ru (s := (y.2.1, y.2.2.1, y.2.2.2)) K_24 kx_28 (kp_mono kpx_29 rs_s5) (ru_add_bd K_24.2.2.2.2.2 _ _)
            have kq_31 : kp h h_27 (rs_L r dr rd) := kp_in kq_26 kpx_29 rs_s3
            show aw G 7 M 124 [.ref r, .int (nI dp), .int bhv, .int (nI a3), .int 1, .int (nI i), .int (cu_c f len x.2.1)] [] h_27 0 0
            refine aw_iinc (v := nI (i + 1)) (ls' := [.ref r, .int (nI dp), .int bhv, .int (nI a3), .int 1, .int (nI (i + 1)), .int (cu_c f len x.2.1)]) C dX3_parseTerm_124 rfl (nI_1 i) (by decide) rfl (q := 127) rfl ?_
            refine aw_goto (q := 51) C dX3_parseTerm_127 (by decide) ?_
            refine ih (i + 1) (1, y.2.1, y.2.2.1, ru_add y.2.2.2 (cu_c f len x.2.1) 0) h_27 _ (by omega) K_30 kq_31 ?_
            rw [← hR]; conv => rhs; unfold rs_Tl
            rw [if_neg c_62, if_pos (Or.inr c_82), ← ey, if_neg c_104]
          ·
            refine aw_iconst (v := (-1)) C dX3_parseTerm_107 (by decide) (q := 108) rfl ?_
            refine aw_goto (q := 112) C dX3_parseTerm_108 (by decide) ?_
            refine aw_istore (ls' := [.ref r, .int (nI dp), .int bhv, .int (nI a3), .int ((-1)), .int (nI i), .int (cu_c f len x.2.1)]) C dX3_parseTerm_112 (by decide) rfl (q := 114) rfl ?_
            refine aw_aload_n C dX3_parseTerm_114 rfl rfl (q := 115) rfl ?_
            refine gfX3_20_3 (v := .ref (rd 0)) C dX3_parseTerm_115 K_24.1 rfl (q := 118) rfl ?_
            refine aw_iload C dX3_parseTerm_118 rfl (q := 120) rfl ?_
            refine aw_iconst (v := 0) C dX3_parseTerm_120 (by decide) (q := 121) rfl ?_
            refine cvX3_71_6 (As := [.int (cu_c f len x.2.1), .int 0]) (rest := []) C B dX3_parseTerm_121 K_24.2.2.2.1.1 (c_addStep G M.2.1 h_23 d rd y.2.2.2 hr K_24.2.2.2.1 K_24.2.2.2.2.2 (cu_c f len x.2.1) 0) rfl rfl (Nat.le_of_ble_eq_true rfl) (by omega) (by omega) (by omega) (q := 124) rfl (fun r9 h_32 hr9 => ?_)
            obtain ⟨er9, kx_33, kpx_34⟩ := hr9
            subst er9
            have K_35 : rs_ok h_32 r u dr rd f len (y.2.1, y.2.2.1, ru_add y.2.2.2 (cu_c f len x.2.1) 0) := rs_ru (s := (y.2.1, y.2.2.1, y.2.2.2)) K_24 kx_33 (kp_mono kpx_34 rs_s5) (ru_add_bd K_24.2.2.2.2.2 _ _)
            have kq_36 : kp h h_32 (rs_L r dr rd) := kp_in kq_26 kpx_34 rs_s3
            show aw G 7 M 124 [.ref r, .int (nI dp), .int bhv, .int (nI a3), .int ((-1)), .int (nI i), .int (cu_c f len x.2.1)] [] h_32 0 0
            refine aw_iinc (v := nI (i + 1)) (ls' := [.ref r, .int (nI dp), .int bhv, .int (nI a3), .int ((-1)), .int (nI (i + 1)), .int (cu_c f len x.2.1)]) C dX3_parseTerm_124 rfl (nI_1 i) (by decide) rfl (q := 127) rfl ?_
            refine aw_goto (q := 51) C dX3_parseTerm_127 (by decide) ?_
            refine ih (i + 1) ((-1), y.2.1, y.2.2.1, ru_add y.2.2.2 (cu_c f len x.2.1) 0) h_32 _ (by omega) K_35 kq_36 ?_
            rw [← hR]; conv => rhs; unfold rs_Tl
            rw [if_neg c_62, if_pos (Or.inr c_82), ← ey, if_pos c_104]
        ·
          refine aw_goto (q := 130) C dX3_parseTerm_85 (by decide) ?_
          refine aw_iload C dX3_parseTerm_130 rfl (q := 132) rfl ?_
          refine aw_iret C E dX3_parseTerm_132 (Nat.le_refl _) (Nat.le_refl _) ?_
          rw [show x = R from by rw [← hR]; unfold rs_Tl; rw [if_neg c_62, if_neg (by rintro (z | z); exact c_75 z; exact c_82 z)]] at K1 ⊢
          exact ⟨rfl, K1, kq1⟩
set_option maxHeartbeats 4000000 in
set_option maxRecDepth 100000 in
theorem c_parseTerm (G : ac_G) (l : Launch) (r u dr : Nat) (rd : Nat → Nat) (f : Nat → Int32) (len : Nat) (hr : inj rd 6) (hlen : len ≤ 300) (hf : cu_ch f) (d dp : Nat) (bh : Bool) (fc : rs_S → rs_R) (hF : rs_C G l yX3_parseFactor cX3_parseFactor 5 r u dr rd f len (d + 6) [.int (nI dp)] fc) : rs_C G l yX3_parseTerm cX3_parseTerm 7 r u dr rd f len (d + 8) [.int (nI dp), .int (pb_b (bh = true))] (rs_T f len fc bh) := by
  intro h s K
  refine ac_of (ls := [.ref r, .int (nI dp), .int (pb_b (bh = true)), .retAddr 0, .retAddr 0, .retAddr 0, .retAddr 0]) (by decide +kernel) rfl (Nat.le_of_ble_eq_true rfl) (fun M hl C B E hnm => ?_)
  refine aw_aload_n C dX3_parseTerm_0 rfl rfl (q := 1) rfl ?_
  refine gfX3_40_3 (v := .int (nI s.1)) C dX3_parseTerm_1 K.1 rfl (q := 4) rfl ?_
  refine aw_istore_n (ls' := [.ref r, .int (nI dp), .int (pb_b (bh = true)), .int (nI s.1), .retAddr 0, .retAddr 0, .retAddr 0]) C dX3_parseTerm_4 rfl (by decide) rfl (q := 5) rfl ?_
  refine aw_aload_n C dX3_parseTerm_5 rfl rfl (q := 6) rfl ?_
  refine aw_iload_n C dX3_parseTerm_6 rfl rfl (q := 7) rfl ?_
  have hF1 := hF
  rw [← hl] at hF1
  refine cvX3_79_3 (As := [.int (nI dp)]) (rest := []) C B dX3_parseTerm_7 K.1 (hF1 h (s.1, s.2.1, s.2.2) K) rfl rfl (Nat.le_of_ble_eq_true rfl) (by omega) (by omega) (by omega) (q := 10) rfl (fun r9 h_1 hr9 => ?_)
  obtain ⟨er9, K_2, kpx_3⟩ := hr9
  subst er9
  have kq_4 : kp h h_1 (rs_L r dr rd) := kpx_3
  obtain ⟨x, ex⟩ : ∃ z, z = fc (s.1, s.2.1, s.2.2) := ⟨_, rfl⟩
  rw [← ex] at K_2 ⊢
  show aw G 7 M 10 [.ref r, .int (nI dp), .int (pb_b (bh = true)), .int (nI s.1), .retAddr 0, .retAddr 0, .retAddr 0] [.int x.1] h_1 0 0
  refine aw_istore (ls' := [.ref r, .int (nI dp), .int (pb_b (bh = true)), .int (nI s.1), .int x.1, .retAddr 0, .retAddr 0]) C dX3_parseTerm_10 (by decide) rfl (q := 12) rfl ?_
  refine aw_iload C dX3_parseTerm_12 rfl (q := 14) rfl ?_
  refine aw_iconst (v := 2) C dX3_parseTerm_14 (by decide) (q := 15) rfl ?_
  refine aw_icmp_ne (t := 48) (q := 18) C dX3_parseTerm_15 (by decide) rfl (fun c_15 => ?_) (fun c_15 => ?_)
  ·
    refine aw_iconst (v := 0) C dX3_parseTerm_48 (by decide) (q := 49) rfl ?_
    refine aw_istore (ls' := [.ref r, .int (nI dp), .int (pb_b (bh = true)), .int (nI s.1), .int x.1, .int 0, .retAddr 0]) C dX3_parseTerm_49 (by decide) rfl (q := 51) rfl ?_
    have eT : rs_T1 f len fc bh s = x := by unfold rs_T1; rw [← ex, if_neg (fun z => c_15 z.1)]
    have hLF := c_parseLater G M.2.1 r u dr rd f len hr hlen hf d dp fc hF1
    exact lp_parseTerm (R := rs_T f len fc bh s) hr hlen hf hLF C B E 300 0 x h_1 _ rfl K_2 kq_4 (by unfold rs_T; rw [eT])
  ·
    refine aw_iload_n C dX3_parseTerm_18 rfl rfl (q := 19) rfl ?_
    refine aw_if_ne (t := 40) (q := 22) C dX3_parseTerm_19 (by decide) rfl (fun c_19 => ?_) (fun c_19 => ?_)
    ·
      refine aw_aload_n C dX3_parseTerm_40 rfl rfl (q := 41) rfl ?_
      refine aw_iload_n C dX3_parseTerm_41 rfl rfl (q := 42) rfl ?_
      refine cvX3_82_3 (As := [.int (nI s.1)]) (rest := []) C B dX3_parseTerm_42 K_2.1 (c_keep G M.2.1 r u dr rd f len hr hlen hf h_1 d (x.2.1, x.2.2.1, x.2.2.2) K_2 (nI s.1)) rfl rfl (Nat.le_of_ble_eq_true rfl) (by omega) (by omega) (by omega) (q := 45) rfl (fun r9 h_5 hr9 => ?_)
      obtain ⟨er9, kx_6, kpx_7⟩ := hr9
      subst er9
      have K_8 : rs_ok h_5 r u dr rd f len (x.2.1, rs_kd x.2.2.1 (nI s.1) x.2.1, x.2.2.2) := kx_6
      have kq_9 : kp h h_5 (rs_L r dr rd) := kp_in kq_4 kpx_7 (fun _ z => z)
      show aw G 7 M 45 [.ref r, .int (nI dp), .int (pb_b (bh = true)), .int (nI s.1), .int x.1, .retAddr 0, .retAddr 0] [] h_5 0 0
      refine aw_iconst (v := 0) C dX3_parseTerm_45 (by decide) (q := 46) rfl ?_
      refine aw_istore (ls' := [.ref r, .int (nI dp), .int (pb_b (bh = true)), .int (nI s.1), .int 0, .retAddr 0, .retAddr 0]) C dX3_parseTerm_46 (by decide) rfl (q := 48) rfl ?_
      refine aw_iconst (v := 0) C dX3_parseTerm_48 (by decide) (q := 49) rfl ?_
      refine aw_istore (ls' := [.ref r, .int (nI dp), .int (pb_b (bh = true)), .int (nI s.1), .int 0, .int 0, .retAddr 0]) C dX3_parseTerm_49 (by decide) rfl (q := 51) rfl ?_
      have eT : rs_T1 f len fc bh s = (0, x.2.1, rs_kd x.2.2.1 (nI s.1) x.2.1, x.2.2.2) := by unfold rs_T1; rw [← ex, if_pos ⟨c_15, Or.inl (pb_n c_19)⟩]
      have hLF := c_parseLater G M.2.1 r u dr rd f len hr hlen hf d dp fc hF1
      exact lp_parseTerm (R := rs_T f len fc bh s) hr hlen hf hLF C B E 300 0 (0, x.2.1, rs_kd x.2.2.1 (nI s.1) x.2.1, x.2.2.2) h_5 _ rfl K_8 kq_9 (by unfold rs_T; rw [eT])
    ·
      refine aw_aload_n C dX3_parseTerm_22 rfl rfl (q := 23) rfl ?_
      refine cvX3_54_3 (As := []) (rest := []) C B dX3_parseTerm_23 K_2.1 (c_here3 G M.2.1 h_1 d r u len x.2.1 300 f (.ref dr) (.ref (rd 0)) K_2.1 K_2.2.1 hlen (by decide) (by have := K_2.2.2.2.2.1; omega) hf) rfl rfl (Nat.le_of_ble_eq_true rfl) (by omega) (by omega) (by omega) (q := 26) rfl (fun r9 h9 hr9 => ?_)
      obtain ⟨e9, er9⟩ := hr9
      subst er9; rw [e9]
      show aw G 7 M 26 [.ref r, .int (nI dp), .int (pb_b (bh = true)), .int (nI s.1), .int x.1, .retAddr 0, .retAddr 0] [.int (cu_c f len x.2.1)] h_1 0 0
      refine aw_bipush (v := 42) C dX3_parseTerm_26 (by decide) (q := 28) rfl ?_
      refine aw_icmp_eq (t := 40) (q := 31) C dX3_parseTerm_28 (by decide) rfl (fun c_28 => ?_) (fun c_28 => ?_)
      ·
        refine aw_aload_n C dX3_parseTerm_40 rfl rfl (q := 41) rfl ?_
        refine aw_iload_n C dX3_parseTerm_41 rfl rfl (q := 42) rfl ?_
        refine cvX3_82_3 (As := [.int (nI s.1)]) (rest := []) C B dX3_parseTerm_42 K_2.1 (c_keep G M.2.1 r u dr rd f len hr hlen hf h_1 d (x.2.1, x.2.2.1, x.2.2.2) K_2 (nI s.1)) rfl rfl (Nat.le_of_ble_eq_true rfl) (by omega) (by omega) (by omega) (q := 45) rfl (fun r9 h_10 hr9 => ?_)
        obtain ⟨er9, kx_11, kpx_12⟩ := hr9
        subst er9
        have K_13 : rs_ok h_10 r u dr rd f len (x.2.1, rs_kd x.2.2.1 (nI s.1) x.2.1, x.2.2.2) := kx_11
        have kq_14 : kp h h_10 (rs_L r dr rd) := kp_in kq_4 kpx_12 (fun _ z => z)
        show aw G 7 M 45 [.ref r, .int (nI dp), .int (pb_b (bh = true)), .int (nI s.1), .int x.1, .retAddr 0, .retAddr 0] [] h_10 0 0
        refine aw_iconst (v := 0) C dX3_parseTerm_45 (by decide) (q := 46) rfl ?_
        refine aw_istore (ls' := [.ref r, .int (nI dp), .int (pb_b (bh = true)), .int (nI s.1), .int 0, .retAddr 0, .retAddr 0]) C dX3_parseTerm_46 (by decide) rfl (q := 48) rfl ?_
        refine aw_iconst (v := 0) C dX3_parseTerm_48 (by decide) (q := 49) rfl ?_
        refine aw_istore (ls' := [.ref r, .int (nI dp), .int (pb_b (bh = true)), .int (nI s.1), .int 0, .int 0, .retAddr 0]) C dX3_parseTerm_49 (by decide) rfl (q := 51) rfl ?_
        have eT : rs_T1 f len fc bh s = (0, x.2.1, rs_kd x.2.2.1 (nI s.1) x.2.1, x.2.2.2) := by unfold rs_T1; rw [← ex, if_pos ⟨c_15, Or.inr (Or.inl c_28)⟩]
        have hLF := c_parseLater G M.2.1 r u dr rd f len hr hlen hf d dp fc hF1
        exact lp_parseTerm (R := rs_T f len fc bh s) hr hlen hf hLF C B E 300 0 (0, x.2.1, rs_kd x.2.2.1 (nI s.1) x.2.1, x.2.2.2) h_10 _ rfl K_13 kq_14 (by unfold rs_T; rw [eT])
      ·
        refine aw_aload_n C dX3_parseTerm_31 rfl rfl (q := 32) rfl ?_
        refine cvX3_54_3 (As := []) (rest := []) C B dX3_parseTerm_32 K_2.1 (c_here3 G M.2.1 h_1 d r u len x.2.1 300 f (.ref dr) (.ref (rd 0)) K_2.1 K_2.2.1 hlen (by decide) (by have := K_2.2.2.2.2.1; omega) hf) rfl rfl (Nat.le_of_ble_eq_true rfl) (by omega) (by omega) (by omega) (q := 35) rfl (fun r9 h9 hr9 => ?_)
        obtain ⟨e9, er9⟩ := hr9
        subst er9; rw [e9]
        show aw G 7 M 35 [.ref r, .int (nI dp), .int (pb_b (bh = true)), .int (nI s.1), .int x.1, .retAddr 0, .retAddr 0] [.int (cu_c f len x.2.1)] h_1 0 0
        refine aw_bipush (v := 47) C dX3_parseTerm_35 (by decide) (q := 37) rfl ?_
        refine aw_icmp_ne (t := 48) (q := 40) C dX3_parseTerm_37 (by decide) rfl (fun c_37 => ?_) (fun c_37 => ?_)
        ·
          refine aw_iconst (v := 0) C dX3_parseTerm_48 (by decide) (q := 49) rfl ?_
          refine aw_istore (ls' := [.ref r, .int (nI dp), .int (pb_b (bh = true)), .int (nI s.1), .int x.1, .int 0, .retAddr 0]) C dX3_parseTerm_49 (by decide) rfl (q := 51) rfl ?_
          have eT : rs_T1 f len fc bh s = x := by unfold rs_T1; rw [← ex, if_neg (by rintro ⟨_, z | z | z⟩; exact (pb_0.mp c_19) z; exact c_28 z; exact c_37 z)]
          have hLF := c_parseLater G M.2.1 r u dr rd f len hr hlen hf d dp fc hF1
          exact lp_parseTerm (R := rs_T f len fc bh s) hr hlen hf hLF C B E 300 0 x h_1 _ rfl K_2 kq_4 (by unfold rs_T; rw [eT])
        ·
          refine aw_aload_n C dX3_parseTerm_40 rfl rfl (q := 41) rfl ?_
          refine aw_iload_n C dX3_parseTerm_41 rfl rfl (q := 42) rfl ?_
          refine cvX3_82_3 (As := [.int (nI s.1)]) (rest := []) C B dX3_parseTerm_42 K_2.1 (c_keep G M.2.1 r u dr rd f len hr hlen hf h_1 d (x.2.1, x.2.2.1, x.2.2.2) K_2 (nI s.1)) rfl rfl (Nat.le_of_ble_eq_true rfl) (by omega) (by omega) (by omega) (q := 45) rfl (fun r9 h_15 hr9 => ?_)
          obtain ⟨er9, kx_16, kpx_17⟩ := hr9
          subst er9
          have K_18 : rs_ok h_15 r u dr rd f len (x.2.1, rs_kd x.2.2.1 (nI s.1) x.2.1, x.2.2.2) := kx_16
          have kq_19 : kp h h_15 (rs_L r dr rd) := kp_in kq_4 kpx_17 (fun _ z => z)
          show aw G 7 M 45 [.ref r, .int (nI dp), .int (pb_b (bh = true)), .int (nI s.1), .int x.1, .retAddr 0, .retAddr 0] [] h_15 0 0
          refine aw_iconst (v := 0) C dX3_parseTerm_45 (by decide) (q := 46) rfl ?_
          refine aw_istore (ls' := [.ref r, .int (nI dp), .int (pb_b (bh = true)), .int (nI s.1), .int 0, .retAddr 0, .retAddr 0]) C dX3_parseTerm_46 (by decide) rfl (q := 48) rfl ?_
          refine aw_iconst (v := 0) C dX3_parseTerm_48 (by decide) (q := 49) rfl ?_
          refine aw_istore (ls' := [.ref r, .int (nI dp), .int (pb_b (bh = true)), .int (nI s.1), .int 0, .int 0, .retAddr 0]) C dX3_parseTerm_49 (by decide) rfl (q := 51) rfl ?_
          have eT : rs_T1 f len fc bh s = (0, x.2.1, rs_kd x.2.2.1 (nI s.1) x.2.1, x.2.2.2) := by unfold rs_T1; rw [← ex, if_pos ⟨c_15, Or.inr (Or.inr c_37)⟩]
          have hLF := c_parseLater G M.2.1 r u dr rd f len hr hlen hf d dp fc hF1
          exact lp_parseTerm (R := rs_T f len fc bh s) hr hlen hf hLF C B E 300 0 (0, x.2.1, rs_kd x.2.2.1 (nI s.1) x.2.1, x.2.2.2) h_15 _ rfl K_18 kq_19 (by unfold rs_T; rw [eT])
set_option maxHeartbeats 4000000 in
set_option maxRecDepth 100000 in
theorem lp_parseExpr {G : ac_G} {M : ac_M} {r u dr : Nat} {rd : Nat → Nat} {f : Nat → Int32} {len : Nat} (hr : inj rd 6) (hlen : len ≤ 300) (hf : cu_ch f) {h : ac_H} {d dp : Nat} {tt : rs_S → rs_R} {R : rs_R} (hS : rs_C G M.2.1 yX3_parseTerm cX3_parseTerm 7 r u dr rd f len (d + 8) [.int (nI dp), .int 1] tt) (C : ac_MC G RX3 cX3_parseExpression 5 (some .int) M) (B : ac_Bd M (d + 9) 0 0) (E : ac_End G (fun r9 h9 => r9 = some (.int R.1) ∧ rs_ok h9 r u dr rd f len R.2 ∧ kp h h9 (rs_L r dr rd)) 0 0 M) :
    ∀ (m i : Nat) (x : rs_R) (h1 : ac_H) (v4 : Value), i + m = 300 → rs_ok h1 r u dr rd f len x.2 → kp h h1 (rs_L r dr rd) → rs_El f len tt m x = R → aw G 5 M 9 [.ref r, .int (nI dp), .int x.1, .int (nI i), v4] [] h1 0 0 := by
  intro m
  induction m with
  | zero =>
    intro i x h1 v4 hi K1 kq1 hR
    refine aw_iload_n C dX3_parseExpression_9 rfl rfl (q := 10) rfl ?_
    refine aw_sipush (v := 300) C dX3_parseExpression_10 (by decide) (q := 13) rfl ?_
    refine aw_icmp_ge (t := 86) (q := 16) C dX3_parseExpression_13 (by decide) rfl (fun c_13 => ?_) (fun c_13 => absurd c_13 (fun z => z (nI_le (a := 300) (by omega) (by omega))))
    refine aw_iload_n C dX3_parseExpression_86 rfl rfl (q := 87) rfl ?_
    refine aw_iret C E dX3_parseExpression_87 (Nat.le_refl _) (Nat.le_refl _) ?_
    rw [show x = R from hR] at K1 ⊢
    exact ⟨rfl, K1, kq1⟩
  | succ m ih =>
    intro i x h1 v4 hi K1 kq1 hR
    refine aw_iload_n C dX3_parseExpression_9 rfl rfl (q := 10) rfl ?_
    refine aw_sipush (v := 300) C dX3_parseExpression_10 (by decide) (q := 13) rfl ?_
    refine aw_icmp_ge (t := 86) (q := 16) C dX3_parseExpression_13 (by decide) rfl (fun c_13 => absurd c_13 (ni_nge i 300 rfl rfl (by omega) (by decide) (by omega))) (fun c_13 => ?_)
    refine aw_iload_n C dX3_parseExpression_16 rfl rfl (q := 17) rfl ?_
    refine aw_iconst (v := (-1)) C dX3_parseExpression_17 (by decide) (q := 18) rfl ?_
    refine aw_icmp_eq (t := 86) (q := 21) C dX3_parseExpression_18 (by decide) rfl (fun c_18 => ?_) (fun c_18 => ?_)
    ·
      refine aw_iload_n C dX3_parseExpression_86 rfl rfl (q := 87) rfl ?_
      refine aw_iret C E dX3_parseExpression_87 (Nat.le_refl _) (Nat.le_refl _) ?_
      rw [show x = R from by rw [← hR]; unfold rs_El; rw [if_pos c_18]] at K1 ⊢
      exact ⟨rfl, K1, kq1⟩
    ·
      refine aw_aload_n C dX3_parseExpression_21 rfl rfl (q := 22) rfl ?_
      refine cvX3_54_3 (As := []) (rest := []) C B dX3_parseExpression_22 K1.1 (c_here3 G M.2.1 h1 d r u len x.2.1 300 f (.ref dr) (.ref (rd 0)) K1.1 K1.2.1 hlen (by decide) (by have := K1.2.2.2.2.1; omega) hf) rfl rfl (Nat.le_of_ble_eq_true rfl) (by omega) (by omega) (by omega) (q := 25) rfl (fun r9 h9 hr9 => ?_)
      obtain ⟨e9, er9⟩ := hr9
      subst er9; rw [e9]
      show aw G 5 M 25 [.ref r, .int (nI dp), .int x.1, .int (nI i), v4] [.int (cu_c f len x.2.1)] h1 0 0
      refine aw_istore (ls' := [.ref r, .int (nI dp), .int x.1, .int (nI i), .int (cu_c f len x.2.1)]) C dX3_parseExpression_25 (by decide) rfl (q := 27) rfl ?_
      refine aw_iload C dX3_parseExpression_27 rfl (q := 29) rfl ?_
      refine aw_bipush (v := 43) C dX3_parseExpression_29 (by decide) (q := 31) rfl ?_
      refine aw_icmp_eq (t := 44) (q := 34) C dX3_parseExpression_31 (by decide) rfl (fun c_31 => ?_) (fun c_31 => ?_)
      ·
        refine aw_aload_n C dX3_parseExpression_44 rfl rfl (q := 45) rfl ?_
        refine aw_dup C dX3_parseExpression_45 rfl (q := 46) rfl ?_
        refine gfX3_40_3 (v := .int (nI x.2.1)) C dX3_parseExpression_46 K1.1 rfl (q := 49) rfl ?_
        refine aw_iconst (v := 1) C dX3_parseExpression_49 (by decide) (q := 50) rfl ?_
        refine aw_iadd C dX3_parseExpression_50 (q := 51) rfl ?_
        have hl9 : x.2.1 < len := cu_c_in c_31 (by decide)
        rw [show nI x.2.1 + 1 = nI (x.2.1 + 1) from nI_1 _]
        refine pfX3_40_3 C dX3_parseExpression_51 K1.1 rfl rfl (Nat.le_of_ble_eq_true rfl) (q := 54) rfl ?_
        show aw G 5 M 54 [.ref r, .int (nI dp), .int x.1, .int (nI i), .int (cu_c f len x.2.1)] [] (ac_up h1 r (.inr (3, [.ref u, .int (nI len), .int (nI (x.2.1 + 1)), .ref dr, .ref (rd 0)]))) 0 0
        obtain ⟨h_1, eh_1⟩ : ∃ z, z = ac_up h1 r (.inr (3, [.ref u, .int (nI len), .int (nI (x.2.1 + 1)), .ref dr, .ref (rd 0)])) := ⟨_, rfl⟩
        rw [← eh_1]
        have kpx_3 : kp h1 h_1 [r] := by rw [eh_1]; exact kp_up (kp_cons r kp_rf) _ _ (by simp)
        have K_2 : rs_ok h_1 r u dr rd f len (x.2.1 + 1, x.2.2.1, x.2.2.2) := rs_at (s := (x.2.1, x.2.2.1, x.2.2.2)) K1 (by rw [eh_1]; exact ac_up_s _ _ _) kpx_3 (by omega)
        have kq_4 : kp h h_1 (rs_L r dr rd) := kp_in kq1 kpx_3 rs_s1
        refine aw_aload_n C dX3_parseExpression_54 rfl rfl (q := 55) rfl ?_
        refine aw_iload_n C dX3_parseExpression_55 rfl rfl (q := 56) rfl ?_
        refine aw_iconst (v := 1) C dX3_parseExpression_56 (by decide) (q := 57) rfl ?_
        refine cvX3_75_3 (As := [.int (nI dp), .int 1]) (rest := []) C B dX3_parseExpression_57 K_2.1 (hS h_1 (x.2.1 + 1, x.2.2.1, x.2.2.2) K_2) rfl rfl (Nat.le_of_ble_eq_true rfl) (by omega) (by omega) (by omega) (q := 60) rfl (fun r9 h_5 hr9 => ?_)
        obtain ⟨er9, K_6, kpx_7⟩ := hr9
        subst er9
        have kq_8 : kp h h_5 (rs_L r dr rd) := kp_in kq_4 kpx_7 (fun _ z => z)
        obtain ⟨y, ey⟩ : ∃ z, z = tt (x.2.1 + 1, x.2.2.1, x.2.2.2) := ⟨_, rfl⟩
        rw [← ey] at K_6 ⊢
        show aw G 5 M 60 [.ref r, .int (nI dp), .int x.1, .int (nI i), .int (cu_c f len x.2.1)] [.int y.1] h_5 0 0
        refine aw_iconst (v := (-1)) C dX3_parseExpression_60 (by decide) (q := 61) rfl ?_
        refine aw_icmp_ne (t := 68) (q := 64) C dX3_parseExpression_61 (by decide) rfl (fun c_61 => ?_) (fun c_61 => ?_)
        ·
          refine aw_iconst (v := 2) C dX3_parseExpression_68 (by decide) (q := 69) rfl ?_
          refine aw_istore_n (ls' := [.ref r, .int (nI dp), .int 2, .int (nI i), .int (cu_c f len x.2.1)]) C dX3_parseExpression_69 rfl (by decide) rfl (q := 70) rfl ?_
          refine aw_aload_n C dX3_parseExpression_70 rfl rfl (q := 71) rfl ?_
          refine gfX3_20_3 (v := .ref (rd 0)) C dX3_parseExpression_71 K_6.1 rfl (q := 74) rfl ?_
          refine aw_iload C dX3_parseExpression_74 rfl (q := 76) rfl ?_
          refine aw_iconst (v := 0) C dX3_parseExpression_76 (by decide) (q := 77) rfl ?_
          refine cvX3_71_6 (As := [.int (cu_c f len x.2.1), .int 0]) (rest := []) C B dX3_parseExpression_77 K_6.2.2.2.1.1 (c_addStep G M.2.1 h_5 d rd y.2.2.2 hr K_6.2.2.2.1 K_6.2.2.2.2.2 (cu_c f len x.2.1) 0) rfl rfl (Nat.le_of_ble_eq_true rfl) (by omega) (by omega) (by omega) (q := 80) rfl (fun r9 h_9 hr9 => ?_)
          obtain ⟨er9, kx_10, kpx_11⟩ := hr9
          subst er9
          have K_12 : rs_ok h_9 r u dr rd f len (y.2.1, y.2.2.1, ru_add y.2.2.2 (cu_c f len x.2.1) 0) := rs_ru (s := (y.2.1, y.2.2.1, y.2.2.2)) K_6 kx_10 (kp_mono kpx_11 rs_s5) (ru_add_bd K_6.2.2.2.2.2 _ _)
          have kq_13 : kp h h_9 (rs_L r dr rd) := kp_in kq_8 kpx_11 rs_s3
          show aw G 5 M 80 [.ref r, .int (nI dp), .int 2, .int (nI i), .int (cu_c f len x.2.1)] [] h_9 0 0
          refine aw_iinc (v := nI (i + 1)) (ls' := [.ref r, .int (nI dp), .int 2, .int (nI (i + 1)), .int (cu_c f len x.2.1)]) C dX3_parseExpression_80 rfl (nI_1 i) (by decide) rfl (q := 83) rfl ?_
          refine aw_goto (q := 9) C dX3_parseExpression_83 (by decide) ?_
          refine ih (i + 1) (2, y.2.1, y.2.2.1, ru_add y.2.2.2 (cu_c f len x.2.1) 0) h_9 _ (by omega) K_12 kq_13 ?_
          rw [← hR]; conv => rhs; unfold rs_El
          rw [if_neg c_18, if_pos (Or.inl c_31), ← ey, if_neg c_61]
        ·
          refine aw_iconst (v := (-1)) C dX3_parseExpression_64 (by decide) (q := 65) rfl ?_
          refine aw_goto (q := 69) C dX3_parseExpression_65 (by decide) ?_
          refine aw_istore_n (ls' := [.ref r, .int (nI dp), .int ((-1)), .int (nI i), .int (cu_c f len x.2.1)]) C dX3_parseExpression_69 rfl (by decide) rfl (q := 70) rfl ?_
          refine aw_aload_n C dX3_parseExpression_70 rfl rfl (q := 71) rfl ?_
          refine gfX3_20_3 (v := .ref (rd 0)) C dX3_parseExpression_71 K_6.1 rfl (q := 74) rfl ?_
          refine aw_iload C dX3_parseExpression_74 rfl (q := 76) rfl ?_
          refine aw_iconst (v := 0) C dX3_parseExpression_76 (by decide) (q := 77) rfl ?_
          refine cvX3_71_6 (As := [.int (cu_c f len x.2.1), .int 0]) (rest := []) C B dX3_parseExpression_77 K_6.2.2.2.1.1 (c_addStep G M.2.1 h_5 d rd y.2.2.2 hr K_6.2.2.2.1 K_6.2.2.2.2.2 (cu_c f len x.2.1) 0) rfl rfl (Nat.le_of_ble_eq_true rfl) (by omega) (by omega) (by omega) (q := 80) rfl (fun r9 h_14 hr9 => ?_)
          obtain ⟨er9, kx_15, kpx_16⟩ := hr9
          subst er9
          have K_17 : rs_ok h_14 r u dr rd f len (y.2.1, y.2.2.1, ru_add y.2.2.2 (cu_c f len x.2.1) 0) := rs_ru (s := (y.2.1, y.2.2.1, y.2.2.2)) K_6 kx_15 (kp_mono kpx_16 rs_s5) (ru_add_bd K_6.2.2.2.2.2 _ _)
          have kq_18 : kp h h_14 (rs_L r dr rd) := kp_in kq_8 kpx_16 rs_s3
          show aw G 5 M 80 [.ref r, .int (nI dp), .int ((-1)), .int (nI i), .int (cu_c f len x.2.1)] [] h_14 0 0
          refine aw_iinc (v := nI (i + 1)) (ls' := [.ref r, .int (nI dp), .int ((-1)), .int (nI (i + 1)), .int (cu_c f len x.2.1)]) C dX3_parseExpression_80 rfl (nI_1 i) (by decide) rfl (q := 83) rfl ?_
          refine aw_goto (q := 9) C dX3_parseExpression_83 (by decide) ?_
          refine ih (i + 1) ((-1), y.2.1, y.2.2.1, ru_add y.2.2.2 (cu_c f len x.2.1) 0) h_14 _ (by omega) K_17 kq_18 ?_
          rw [← hR]; conv => rhs; unfold rs_El
          rw [if_neg c_18, if_pos (Or.inl c_31), ← ey, if_pos c_61]
      ·
        refine aw_iload C dX3_parseExpression_34 rfl (q := 36) rfl ?_
        refine aw_bipush (v := 45) C dX3_parseExpression_36 (by decide) (q := 38) rfl ?_
        refine aw_icmp_eq (t := 44) (q := 41) C dX3_parseExpression_38 (by decide) rfl (fun c_38 => ?_) (fun c_38 => ?_)
        ·
          refine aw_aload_n C dX3_parseExpression_44 rfl rfl (q := 45) rfl ?_
          refine aw_dup C dX3_parseExpression_45 rfl (q := 46) rfl ?_
          refine gfX3_40_3 (v := .int (nI x.2.1)) C dX3_parseExpression_46 K1.1 rfl (q := 49) rfl ?_
          refine aw_iconst (v := 1) C dX3_parseExpression_49 (by decide) (q := 50) rfl ?_
          refine aw_iadd C dX3_parseExpression_50 (q := 51) rfl ?_
          have hl9 : x.2.1 < len := cu_c_in c_38 (by decide)
          rw [show nI x.2.1 + 1 = nI (x.2.1 + 1) from nI_1 _]
          refine pfX3_40_3 C dX3_parseExpression_51 K1.1 rfl rfl (Nat.le_of_ble_eq_true rfl) (q := 54) rfl ?_
          show aw G 5 M 54 [.ref r, .int (nI dp), .int x.1, .int (nI i), .int (cu_c f len x.2.1)] [] (ac_up h1 r (.inr (3, [.ref u, .int (nI len), .int (nI (x.2.1 + 1)), .ref dr, .ref (rd 0)]))) 0 0
          obtain ⟨h_19, eh_19⟩ : ∃ z, z = ac_up h1 r (.inr (3, [.ref u, .int (nI len), .int (nI (x.2.1 + 1)), .ref dr, .ref (rd 0)])) := ⟨_, rfl⟩
          rw [← eh_19]
          have kpx_21 : kp h1 h_19 [r] := by rw [eh_19]; exact kp_up (kp_cons r kp_rf) _ _ (by simp)
          have K_20 : rs_ok h_19 r u dr rd f len (x.2.1 + 1, x.2.2.1, x.2.2.2) := rs_at (s := (x.2.1, x.2.2.1, x.2.2.2)) K1 (by rw [eh_19]; exact ac_up_s _ _ _) kpx_21 (by omega)
          have kq_22 : kp h h_19 (rs_L r dr rd) := kp_in kq1 kpx_21 rs_s1
          refine aw_aload_n C dX3_parseExpression_54 rfl rfl (q := 55) rfl ?_
          refine aw_iload_n C dX3_parseExpression_55 rfl rfl (q := 56) rfl ?_
          refine aw_iconst (v := 1) C dX3_parseExpression_56 (by decide) (q := 57) rfl ?_
          refine cvX3_75_3 (As := [.int (nI dp), .int 1]) (rest := []) C B dX3_parseExpression_57 K_20.1 (hS h_19 (x.2.1 + 1, x.2.2.1, x.2.2.2) K_20) rfl rfl (Nat.le_of_ble_eq_true rfl) (by omega) (by omega) (by omega) (q := 60) rfl (fun r9 h_23 hr9 => ?_)
          obtain ⟨er9, K_24, kpx_25⟩ := hr9
          subst er9
          have kq_26 : kp h h_23 (rs_L r dr rd) := kp_in kq_22 kpx_25 (fun _ z => z)
          obtain ⟨y, ey⟩ : ∃ z, z = tt (x.2.1 + 1, x.2.2.1, x.2.2.2) := ⟨_, rfl⟩
          rw [← ey] at K_24 ⊢
          show aw G 5 M 60 [.ref r, .int (nI dp), .int x.1, .int (nI i), .int (cu_c f len x.2.1)] [.int y.1] h_23 0 0
          refine aw_iconst (v := (-1)) C dX3_parseExpression_60 (by decide) (q := 61) rfl ?_
          refine aw_icmp_ne (t := 68) (q := 64) C dX3_parseExpression_61 (by decide) rfl (fun c_61 => ?_) (fun c_61 => ?_)
          ·
            refine aw_iconst (v := 2) C dX3_parseExpression_68 (by decide) (q := 69) rfl ?_
            refine aw_istore_n (ls' := [.ref r, .int (nI dp), .int 2, .int (nI i), .int (cu_c f len x.2.1)]) C dX3_parseExpression_69 rfl (by decide) rfl (q := 70) rfl ?_
            refine aw_aload_n C dX3_parseExpression_70 rfl rfl (q := 71) rfl ?_
            refine gfX3_20_3 (v := .ref (rd 0)) C dX3_parseExpression_71 K_24.1 rfl (q := 74) rfl ?_
            refine aw_iload C dX3_parseExpression_74 rfl (q := 76) rfl ?_
            refine aw_iconst (v := 0) C dX3_parseExpression_76 (by decide) (q := 77) rfl ?_
            refine cvX3_71_6 (As := [.int (cu_c f len x.2.1), .int 0]) (rest := []) C B dX3_parseExpression_77 K_24.2.2.2.1.1 (c_addStep G M.2.1 h_23 d rd y.2.2.2 hr K_24.2.2.2.1 K_24.2.2.2.2.2 (cu_c f len x.2.1) 0) rfl rfl (Nat.le_of_ble_eq_true rfl) (by omega) (by omega) (by omega) (q := 80) rfl (fun r9 h_27 hr9 => ?_)
            obtain ⟨er9, kx_28, kpx_29⟩ := hr9
            subst er9
            have K_30 : rs_ok h_27 r u dr rd f len (y.2.1, y.2.2.1, ru_add y.2.2.2 (cu_c f len x.2.1) 0) := rs_ru (s := (y.2.1, y.2.2.1, y.2.2.2)) K_24 kx_28 (kp_mono kpx_29 rs_s5) (ru_add_bd K_24.2.2.2.2.2 _ _)
            have kq_31 : kp h h_27 (rs_L r dr rd) := kp_in kq_26 kpx_29 rs_s3
            show aw G 5 M 80 [.ref r, .int (nI dp), .int 2, .int (nI i), .int (cu_c f len x.2.1)] [] h_27 0 0
            refine aw_iinc (v := nI (i + 1)) (ls' := [.ref r, .int (nI dp), .int 2, .int (nI (i + 1)), .int (cu_c f len x.2.1)]) C dX3_parseExpression_80 rfl (nI_1 i) (by decide) rfl (q := 83) rfl ?_
            refine aw_goto (q := 9) C dX3_parseExpression_83 (by decide) ?_
            refine ih (i + 1) (2, y.2.1, y.2.2.1, ru_add y.2.2.2 (cu_c f len x.2.1) 0) h_27 _ (by omega) K_30 kq_31 ?_
            rw [← hR]; conv => rhs; unfold rs_El
            rw [if_neg c_18, if_pos (Or.inr c_38), ← ey, if_neg c_61]
          ·
            refine aw_iconst (v := (-1)) C dX3_parseExpression_64 (by decide) (q := 65) rfl ?_
            refine aw_goto (q := 69) C dX3_parseExpression_65 (by decide) ?_
            refine aw_istore_n (ls' := [.ref r, .int (nI dp), .int ((-1)), .int (nI i), .int (cu_c f len x.2.1)]) C dX3_parseExpression_69 rfl (by decide) rfl (q := 70) rfl ?_
            refine aw_aload_n C dX3_parseExpression_70 rfl rfl (q := 71) rfl ?_
            refine gfX3_20_3 (v := .ref (rd 0)) C dX3_parseExpression_71 K_24.1 rfl (q := 74) rfl ?_
            refine aw_iload C dX3_parseExpression_74 rfl (q := 76) rfl ?_
            refine aw_iconst (v := 0) C dX3_parseExpression_76 (by decide) (q := 77) rfl ?_
            refine cvX3_71_6 (As := [.int (cu_c f len x.2.1), .int 0]) (rest := []) C B dX3_parseExpression_77 K_24.2.2.2.1.1 (c_addStep G M.2.1 h_23 d rd y.2.2.2 hr K_24.2.2.2.1 K_24.2.2.2.2.2 (cu_c f len x.2.1) 0) rfl rfl (Nat.le_of_ble_eq_true rfl) (by omega) (by omega) (by omega) (q := 80) rfl (fun r9 h_32 hr9 => ?_)
            obtain ⟨er9, kx_33, kpx_34⟩ := hr9
            subst er9
            have K_35 : rs_ok h_32 r u dr rd f len (y.2.1, y.2.2.1, ru_add y.2.2.2 (cu_c f len x.2.1) 0) := rs_ru (s := (y.2.1, y.2.2.1, y.2.2.2)) K_24 kx_33 (kp_mono kpx_34 rs_s5) (ru_add_bd K_24.2.2.2.2.2 _ _)
            have kq_36 : kp h h_32 (rs_L r dr rd) := kp_in kq_26 kpx_34 rs_s3
            show aw G 5 M 80 [.ref r, .int (nI dp), .int ((-1)), .int (nI i), .int (cu_c f len x.2.1)] [] h_32 0 0
            refine aw_iinc (v := nI (i + 1)) (ls' := [.ref r, .int (nI dp), .int ((-1)), .int (nI (i + 1)), .int (cu_c f len x.2.1)]) C dX3_parseExpression_80 rfl (nI_1 i) (by decide) rfl (q := 83) rfl ?_
            refine aw_goto (q := 9) C dX3_parseExpression_83 (by decide) ?_
            refine ih (i + 1) ((-1), y.2.1, y.2.2.1, ru_add y.2.2.2 (cu_c f len x.2.1) 0) h_32 _ (by omega) K_35 kq_36 ?_
            rw [← hR]; conv => rhs; unfold rs_El
            rw [if_neg c_18, if_pos (Or.inr c_38), ← ey, if_pos c_61]
        ·
          refine aw_goto (q := 86) C dX3_parseExpression_41 (by decide) ?_
          refine aw_iload_n C dX3_parseExpression_86 rfl rfl (q := 87) rfl ?_
          refine aw_iret C E dX3_parseExpression_87 (Nat.le_refl _) (Nat.le_refl _) ?_
          rw [show x = R from by rw [← hR]; unfold rs_El; rw [if_neg c_18, if_neg (by rintro (z | z); exact c_31 z; exact c_38 z)]] at K1 ⊢
          exact ⟨rfl, K1, kq1⟩
set_option maxHeartbeats 4000000 in
set_option maxRecDepth 100000 in
theorem c_parseExpr (G : ac_G) (l : Launch) (r u dr : Nat) (rd : Nat → Nat) (f : Nat → Int32) (len : Nat) (hr : inj rd 6) (hlen : len ≤ 300) (hf : cu_ch f) (d dp : Nat) (fc : rs_S → rs_R) (hF : rs_C G l yX3_parseFactor cX3_parseFactor 5 r u dr rd f len (d + 6) [.int (nI dp)] fc) : rs_C G l yX3_parseExpression cX3_parseExpression 5 r u dr rd f len (d + 9) [.int (nI dp)] (rs_E f len fc) := by
  intro h s K
  refine ac_of (ls := [.ref r, .int (nI dp), .retAddr 0, .retAddr 0, .retAddr 0]) (by decide +kernel) rfl (Nat.le_of_ble_eq_true rfl) (fun M hl C B E hnm => ?_)
  refine aw_aload_n C dX3_parseExpression_0 rfl rfl (q := 1) rfl ?_
  refine aw_iload_n C dX3_parseExpression_1 rfl rfl (q := 2) rfl ?_
  refine aw_iconst (v := 0) C dX3_parseExpression_2 (by decide) (q := 3) rfl ?_
  have hF1 := hF
  rw [← hl] at hF1
  refine cvX3_75_3 (As := [.int (nI dp), .int 0]) (rest := []) C B dX3_parseExpression_3 K.1 ((c_parseTerm G M.2.1 r u dr rd f len hr hlen hf d dp false fc hF1) h (s.1, s.2.1, s.2.2) K) rfl rfl (Nat.le_of_ble_eq_true rfl) (by omega) (by omega) (by omega) (q := 6) rfl (fun r9 h_1 hr9 => ?_)
  obtain ⟨er9, K_2, kpx_3⟩ := hr9
  subst er9
  have kq_4 : kp h h_1 (rs_L r dr rd) := kpx_3
  obtain ⟨x, ex⟩ : ∃ z, z = rs_T f len fc false (s.1, s.2.1, s.2.2) := ⟨_, rfl⟩
  rw [← ex] at K_2 ⊢
  show aw G 5 M 6 [.ref r, .int (nI dp), .retAddr 0, .retAddr 0, .retAddr 0] [.int x.1] h_1 0 0
  refine aw_istore_n (ls' := [.ref r, .int (nI dp), .int x.1, .retAddr 0, .retAddr 0]) C dX3_parseExpression_6 rfl (by decide) rfl (q := 7) rfl ?_
  refine aw_iconst (v := 0) C dX3_parseExpression_7 (by decide) (q := 8) rfl ?_
  refine aw_istore_n (ls' := [.ref r, .int (nI dp), .int x.1, .int 0, .retAddr 0]) C dX3_parseExpression_8 rfl (by decide) rfl (q := 9) rfl ?_
  have hT2 := c_parseTerm G M.2.1 r u dr rd f len hr hlen hf d dp true fc hF1
  exact lp_parseExpr (R := rs_E f len fc s) hr hlen hf hT2 C B E 300 0 x h_1 _ rfl K_2 kq_4 (by unfold rs_E; rw [ex])
/-- an expression, at every level -/
theorem c_parseX (G : ac_G) (l : Launch) (r u dr : Nat) (rd : Nat → Nat) (f : Nat → Int32) (len : Nat) (hr : inj rd 6) (hlen : len ≤ 300) (hf : cu_ch f) : ∀ (k dp : Nat), dp + k = 8 → rs_C G l yX3_parseExpression cX3_parseExpression 5 r u dr rd f len (6 * k + 9) [.int (nI dp)] (rs_X f len k)
  | 0, dp, hk => by
    have h1 := c_parseBare G l r u dr rd f len hr hlen hf 0 dp (fun s => (-1, s)) true (by omega) (fun _ => by omega) (fun z => by cases z) (fun z => by cases z)
    exact c_parseExpr G l r u dr rd f len hr hlen hf 0 dp _ (c_parseFactor G l r u dr rd f len hr hlen hf 0 dp _ h1)
  | k + 1, dp, hk => by
    have h0 := c_parseX G l r u dr rd f len hr hlen hf k (dp + 1) (by omega)
    have h1 := c_parseBare G l r u dr rd f len hr hlen hf (6 * k + 6) dp (rs_X f len k) false (by omega) (fun z => by cases z) (fun _ => by omega) (fun _ => h0)
    have h2 := c_parseExpr G l r u dr rd f len hr hlen hf (6 * k + 6) dp _ (c_parseFactor G l r u dr rd f len hr hlen hf (6 * k + 6) dp _ h1)
    rw [show 6 * (k + 1) + 9 = 6 * k + 6 + 9 from by omega]
    exact h2
