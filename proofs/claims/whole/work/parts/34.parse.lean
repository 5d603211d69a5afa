/-! Reader: parse -/
def rs_rules (f : Nat → Int32) (len : Nat) : Nat → rs_S → rs_B
  | 0, s => (false, s)
  | m + 1, s => if (rs_rule f len s).1 = true then (if (rs_rule f len s).2.1 = len then (true, (rs_rule f len s).2) else if cu_c f len (rs_rule f len s).2.1 = 59 ∧ ¬ m = 0 then rs_rules f len m ((rs_rule f len s).2.1 + 1, (rs_rule f len s).2.2.1, (rs_rule f len s).2.2.2) else (false, (rs_rule f len s).2)) else (false, (rs_rule f len s).2)
def ru_fin (T : ru_D) (n : Nat) (p : Nat → Int32) : ru_D := (ru_cnt T, ru_sc T, ru_n T, n, ru_g T, ru_b T, ru_a T, ru_o T, p)
def rs_PQ (h : ac_H) (r u dr : Nat) (f : Nat → Int32) (len : Nat) (R : rs_B) : Option Value → ac_H → Prop := fun r9 h9 => ∃ rd : Nat → Nat, (∀ j, j < 6 → h (rd j) = none) ∧ inj rd 6 ∧ h9 r = some (cu_ob 3 u len R.2.1 (.ref dr) (.ref (rd 0))) ∧ h9 u = some (.inl (0, 300, .inl f)) ∧ h9 dr = some (.inl (3, 300, .inl R.2.2.1)) ∧ kp h h9 [r, dr] ∧ R.2.1 ≤ len ∧ ru_bd R.2.2.2 ∧
  (R.1 = true → r9 = some (.ref (rd 0)) ∧ ru_ok h9 rd (ru_fin R.2.2.2 (rs_prt f R.2.2.1 len).1 (rs_prt f R.2.2.1 len).2)) ∧ (R.1 = false → r9 = some .null)
theorem rs_Lfr {h : ac_H} {r dr : Nat} {rd : Nat → Nat} (hfr : ∀ j, j < 6 → h (rd j) = none) : ∀ a ∈ rs_L r dr rd, a ∉ [r, dr] → h a = none := by
  intro a ha hn
  simp only [List.mem_cons, List.not_mem_nil, or_false] at ha hn
  rcases ha with z | z | z | z | z | z | z
  · exact absurd (Or.inl z) hn
  · exact absurd (Or.inr z) hn
  · rw [z]; exact hfr 0 (by decide)
  · rw [z]; exact hfr 1 (by decide)
  · rw [z]; exact hfr 2 (by decide)
  · rw [z]; exact hfr 3 (by decide)
  · rw [z]; exact hfr 4 (by decide)
theorem rs_PQf {h h9 : ac_H} {r u dr : Nat} {rd : Nat → Nat} {f : Nat → Int32} {len : Nat} {s : rs_S} (hr : inj rd 6) (hfr : ∀ j, j < 6 → h (rd j) = none) (K : rs_ok h9 r u dr rd f len s) (kq : kp h h9 (rs_L r dr rd)) : rs_PQ h r u dr f len (false, s) (some .null) h9 :=
  ⟨rd, hfr, hr, K.1, K.2.1, K.2.2.1, kp_fr kq (rs_Lfr hfr), K.2.2.2.2.1, K.2.2.2.2.2, (fun z => by cases z), fun _ => rfl⟩
theorem rs_PQt {h h1 h2 : ac_H} {r u dr pa : Nat} {rd : Nat → Nat} {f : Nat → Int32} {len : Nat} {s : rs_S} (hr : inj rd 6) (hfr : ∀ j, j < 6 → h (rd j) = none) (K : rs_ok h1 r u dr rd f len s) (kq : kp h h1 (rs_L r dr rd)) (hpa : h1 pa = none) (h2p : h2 pa = some (.inl (0, (rs_prt f s.2.1 len).1, .inl (rs_prt f s.2.1 len).2))) (k2 : kp h1 h2 []) :
    rs_PQ h r u dr f len (true, s) (some (.ref (rd 0))) (ac_up h2 (rd 0) (.inr (6, [.int (nI (ru_cnt s.2.2)), .int (nI (ru_sc s.2.2)), .ref (rd 1), .ref (rd 2), .ref (rd 3), .ref (rd 4), .ref pa]))) := by
  obtain ⟨a1, a2, a3, ⟨u0, u1, u2, u3, u4, u5⟩, a5, a6⟩ := K
  have np : ∀ j, j < 6 → pa ≠ rd j := by
    intro j hj
    rcases (show j = 0 ∨ j = 1 ∨ j = 2 ∨ j = 3 ∨ j = 4 ∨ j = 5 from by omega) with rfl | rfl | rfl | rfl | rfl | rfl
    · exact (nw_ne u0 hpa).symm
    · exact (nw_ne u1 hpa).symm
    · exact (nw_ne u2 hpa).symm
    · exact (nw_ne u3 hpa).symm
    · exact (nw_ne u4 hpa).symm
    · exact (nw_ne u5 hpa).symm
  have hpa0 : h pa = none := kp_none kq hpa (ni1 (nw_ne a1 hpa).symm (ni1 (nw_ne a3 hpa).symm (ni1 (np 0 (by decide)) (ni1 (np 1 (by decide)) (ni1 (np 2 (by decide)) (ni1 (np 3 (by decide)) (ni1 (np 4 (by decide)) ni0)))))))
  have n0 : ∀ j, j < 6 → j ≠ 0 → rd j ≠ rd 0 := fun j h1 h2 => hr j 0 h1 (by decide) h2
  refine ⟨fun j => if j = 5 then pa else rd j, ?_, inj_sw hr np, ?_, ?_, ?_, ?_, a5, a6, fun _ => ⟨rfl, ac_up_s _ _ _, ?_, ?_, ?_, ?_, ?_⟩, fun z => by cases z⟩
  · intro j hj
    show h (if j = 5 then pa else rd j) = none
    split
    · exact hpa0
    · exact hfr j hj
  · rw [ac_up_n _ _ (ne_of a1 u0 (fun z => by cases z))]; exact k2 _ _ a1 ni0
  · rw [ac_up_n _ _ (ne_ai a2 u0)]; exact k2 _ _ a2 ni0
  · rw [ac_up_n _ _ (ne_ai a3 u0)]; exact k2 _ _ a3 ni0
  · exact kp_fr (kp_up (kp_in kq k2 (fun _ z => nomatch z)) _ _ (by simp)) (rs_Lfr hfr)
  · show ac_up _ _ _ (rd 1) = _; rw [ac_up_n _ _ (n0 1 (by decide) (by decide))]; exact k2 _ _ u1 ni0
  · show ac_up _ _ _ (rd 2) = _; rw [ac_up_n _ _ (n0 2 (by decide) (by decide))]; exact k2 _ _ u2 ni0
  · show ac_up _ _ _ (rd 3) = _; rw [ac_up_n _ _ (n0 3 (by decide) (by decide))]; exact k2 _ _ u3 ni0
  · show ac_up _ _ _ (rd 4) = _; rw [ac_up_n _ _ (n0 4 (by decide) (by decide))]; exact k2 _ _ u4 ni0
  · show ac_up _ _ _ pa = _; rw [ac_up_n _ _ (np 0 (by decide))]; exact h2p
theorem dfX6 : ∀ j, j < 7 → defaultValue (tyX6 j) = vp_V [.int 0, .int 0, .null, .null, .null, .null, .null] j := by
  intro j hj
  rcases (show j = 0 ∨ j = 1 ∨ j = 2 ∨ j = 3 ∨ j = 4 ∨ j = 5 ∨ j = 6 from by omega) with rfl | rfl | rfl | rfl | rfl | rfl | rfl <;> rfl
set_option maxHeartbeats 4000000 in
set_option maxRecDepth 100000 in
theorem lp_parse {G : ac_G} {M : ac_M} {r u dr : Nat} {rd : Nat → Nat} {f : Nat → Int32} {len : Nat} (hr : inj rd 6) (hlen : len ≤ 300) (hf : cu_ch f) {h : ac_H} {d : Nat} {R : rs_B} (hfr : ∀ j, j < 6 → h (rd j) = none) (C : ac_MC G RX3 cX3_parse 2 (some (.object "GradeTexts$Rules")) M) (B : ac_Bd M (d + 60) 7 (332 + 2 * len)) (E : ac_End G (rs_PQ h r u dr f len R) 7 (332 + 2 * len) M) :
    ∀ (m i : Nat) (s : rs_S) (h1 : ac_H), i + m = 12 → rs_ok h1 r u dr rd f len s → kp h h1 (rs_L r dr rd) → rs_rules f len m s = R → aw G 2 M 22 [.ref r, .int (nI i)] [] h1 ((0 + 1) + 5) ((0 + 7) + (25 + 2 * len)) := by
  intro m
  induction m with
  | zero =>
    intro i s h1 hi K1 kq1 hR
    refine aw_iload_n C dX3_parse_22 rfl rfl (q := 23) rfl ?_
    refine aw_bipush (v := 12) C dX3_parse_23 (by decide) (q := 25) rfl ?_
    refine aw_icmp_ge (t := 99) (q := 28) C dX3_parse_25 (by decide) rfl (fun c_25 => ?_) (fun c_25 => absurd c_25 (fun z => z (nI_le (a := 12) (by omega) (by omega))))
    refine aw_null C dX3_parse_99 (q := 100) rfl ?_
    refine aw_aret (r := none) C E dX3_parse_100 (Or.inl ⟨_, rfl⟩) (by omega) (by omega) ?_
    rw [show R = (false, s) from hR.symm]
    exact rs_PQf hr hfr K1 kq1
  | succ m ih =>
    intro i s h1 hi K1 kq1 hR
    refine aw_iload_n C dX3_parse_22 rfl rfl (q := 23) rfl ?_
    refine aw_bipush (v := 12) C dX3_parse_23 (by decide) (q := 25) rfl ?_
    refine aw_icmp_ge (t := 99) (q := 28) C dX3_parse_25 (by decide) rfl (fun c_25 => absurd c_25 (ni_nge i 12 rfl rfl (by omega) (by decide) (by omega))) (fun c_25 => ?_)
    refine aw_aload_n C dX3_parse_28 rfl rfl (q := 29) rfl ?_
    refine cvX3_43_3 (As := []) (rest := []) C B dX3_parse_29 K1.1 (c_parseRule G M.2.1 r u dr rd f len hr hlen hf d h1 (s.1, s.2.1, s.2.2) K1) rfl rfl (Nat.le_of_ble_eq_true rfl) (by omega) (by omega) (by omega) (q := 32) rfl (fun r9 h2 hr9 => ?_)
    obtain ⟨er9, K2, kp2⟩ := hr9
    subst er9
    have kq2 : kp h h2 (rs_L r dr rd) := kp_in kq1 kp2 (fun _ z => z)
    obtain ⟨z, ez⟩ : ∃ z, z = rs_rule f len s := ⟨_, rfl⟩
    rw [show rs_rule f len (s.1, s.2.1, s.2.2) = z from ez.symm] at K2 ⊢
    have hzl := K2.2.2.2.2.1
    show aw G 2 M 32 [.ref r, .int (nI i)] [.int (pb_b (z.1 = true))] h2 ((0 + 1) + 5) ((0 + 7) + (25 + 2 * len))
    refine aw_if_ne (t := 37) (q := 35) C dX3_parse_32 (by decide) rfl (fun c_32 => ?_) (fun c_32 => ?_)
    ·
      refine aw_aload_n C dX3_parse_37 rfl rfl (q := 38) rfl ?_
      refine gfX3_40_3 (v := .int (nI z.2.1)) C dX3_parse_38 K2.1 rfl (q := 41) rfl ?_
      refine aw_aload_n C dX3_parse_41 rfl rfl (q := 42) rfl ?_
      refine gfX3_24_3 (v := .int (nI len)) C dX3_parse_42 K2.1 rfl (q := 45) rfl ?_
      refine aw_icmp_ne (t := 64) (q := 48) C dX3_parse_45 (by decide) rfl (fun c_45 => ?_) (fun c_45 => ?_)
      ·
        refine aw_aload_n C dX3_parse_64 rfl rfl (q := 65) rfl ?_
        refine cvX3_54_3 (As := []) (rest := []) C B dX3_parse_65 K2.1 (c_here3 G M.2.1 h2 d r u len z.2.1 300 f (.ref dr) (.ref (rd 0)) K2.1 K2.2.1 hlen (by decide) (by have := K2.2.2.2.2.1; omega) hf) rfl rfl (Nat.le_of_ble_eq_true rfl) (by omega) (by omega) (by omega) (q := 68) rfl (fun r9 h9 hr9 => ?_)
        obtain ⟨e9, er9⟩ := hr9
        subst er9; rw [e9]
        show aw G 2 M 68 [.ref r, .int (nI i)] [.int (cu_c f len z.2.1)] h2 ((0 + 1) + 5) ((0 + 7) + (25 + 2 * len))
        refine aw_bipush (v := 59) C dX3_parse_68 (by decide) (q := 70) rfl ?_
        refine aw_icmp_ne (t := 81) (q := 73) C dX3_parse_70 (by decide) rfl (fun c_70 => ?_) (fun c_70 => ?_)
        ·
          refine aw_null C dX3_parse_81 (q := 82) rfl ?_
          refine aw_aret (r := none) C E dX3_parse_82 (Or.inl ⟨_, rfl⟩) (by omega) (by omega) ?_
          rw [show R = (false, z.2) from by rw [← hR]; unfold rs_rules; rw [← ez, if_pos (pb_n c_32), if_neg (fun z => c_45 (by rw [z])), if_neg (fun q => c_70 q.1)]]
          exact rs_PQf hr hfr K2 kq2
        ·
          refine aw_iload_n C dX3_parse_73 rfl rfl (q := 74) rfl ?_
          refine aw_iconst (v := 1) C dX3_parse_74 (by decide) (q := 75) rfl ?_
          refine aw_iadd C dX3_parse_75 (q := 76) rfl ?_
          refine aw_bipush (v := 12) C dX3_parse_76 (by decide) (q := 78) rfl ?_
          refine aw_icmp_ne (t := 83) (q := 81) C dX3_parse_78 (by decide) rfl (fun c_78 => ?_) (fun c_78 => ?_)
          ·
            have hl9 : z.2.1 < len := cu_c_in c_70 (by decide)
            refine aw_aload_n C dX3_parse_83 rfl rfl (q := 84) rfl ?_
            refine aw_dup C dX3_parse_84 rfl (q := 85) rfl ?_
            refine gfX3_40_3 (v := .int (nI z.2.1)) C dX3_parse_85 K2.1 rfl (q := 88) rfl ?_
            refine aw_iconst (v := 1) C dX3_parse_88 (by decide) (q := 89) rfl ?_
            refine aw_iadd C dX3_parse_89 (q := 90) rfl ?_
            rw [show nI z.2.1 + 1 = nI (z.2.1 + 1) from nI_1 _]
            refine pfX3_40_3 C dX3_parse_90 K2.1 rfl rfl (Nat.le_of_ble_eq_true rfl) (q := 93) rfl ?_
            show aw G 2 M 93 [.ref r, .int (nI i)] [] (ac_up h2 r (.inr (3, [.ref u, .int (nI len), .int (nI (z.2.1 + 1)), .ref dr, .ref (rd 0)]))) ((0 + 1) + 5) ((0 + 7) + (25 + 2 * len))
            obtain ⟨h_1, eh_1⟩ : ∃ z9, z9 = ac_up h2 r (.inr (3, [.ref u, .int (nI len), .int (nI (z.2.1 + 1)), .ref dr, .ref (rd 0)])) := ⟨_, rfl⟩
            rw [← eh_1]
            have kpx_3 : kp h2 h_1 [r] := by rw [eh_1]; exact kp_up (kp_cons r kp_rf) _ _ (by simp)
            have K_2 : rs_ok h_1 r u dr rd f len (z.2.1 + 1, z.2.2.1, z.2.2.2) := rs_at (s := (z.2.1, z.2.2.1, z.2.2.2)) K2 (by rw [eh_1]; exact ac_up_s _ _ _) kpx_3 (by omega)
            have kq_4 : kp h h_1 (rs_L r dr rd) := kp_in kq2 kpx_3 rs_s1
            refine aw_iinc (v := nI (i + 1)) (ls' := [.ref r, .int (nI (i + 1))]) C dX3_parse_93 rfl (nI_1 i) (by decide) rfl (q := 96) rfl ?_
            refine aw_goto (q := 22) C dX3_parse_96 (by decide) ?_
            refine ih (i + 1) _ h_1 (by omega) K_2 kq_4 ?_
            rw [← hR]; conv => rhs; unfold rs_rules
            rw [← ez, if_pos (pb_n c_32), if_neg (fun z => c_45 (by rw [z])), if_pos ⟨c_70, fun q => c_78 (by rw [nI_1, show (12 : Int32) = nI 12 from rfl, nI_eq (by omega) (by decide)]; omega)⟩]
          ·
            refine aw_null C dX3_parse_81 (q := 82) rfl ?_
            refine aw_aret (r := none) C E dX3_parse_82 (Or.inl ⟨_, rfl⟩) (by omega) (by omega) ?_
            rw [show R = (false, z.2) from by rw [← hR]; unfold rs_rules; rw [← ez, if_pos (pb_n c_32), if_neg (fun z => c_45 (by rw [z])), if_neg (fun q => q.2 (by rw [nI_1, show (12 : Int32) = nI 12 from rfl, nI_eq (by omega) (by decide)] at c_78; omega))]]
            exact rs_PQf hr hfr K2 kq2
      ·
        refine aw_aload_n C dX3_parse_48 rfl rfl (q := 49) rfl ?_
        refine gfX3_20_3 (v := .ref (rd 0)) C dX3_parse_49 K2.1 rfl (q := 52) rfl ?_
        refine aw_aload_n C dX3_parse_52 rfl rfl (q := 53) rfl ?_
        refine cvX3_47_3 (As := []) (rest := [.ref (rd 0)]) C B dX3_parse_53 K2.1 (c_printed G M.2.1 h2 d u dr r len z.2.1 f z.2.2.1 (.ref (rd 0)) K2.1 K2.2.1 K2.2.2.1 hlen hf) rfl rfl (Nat.le_of_ble_eq_true rfl) (by omega) (by omega) (by omega) (q := 56) rfl (fun r9 h3 hr9 => ?_)
        obtain ⟨pa, er9, hpa, h3p, kp3⟩ := hr9
        subst er9
        show aw G 2 M 56 [.ref r, .int (nI i)] [.ref pa, .ref (rd 0)] h3 (((0 + 1) + 5) + 1) (((0 + 7) + (25 + 2 * len)) + 300)
        refine pfX3_51_6 C dX3_parse_56 (kp3 _ _ K2.2.2.2.1.1 ni0) rfl rfl (Nat.le_of_ble_eq_true rfl) (q := 59) rfl ?_
        show aw G 2 M 59 [.ref r, .int (nI i)] [] (ac_up h3 (rd 0) (.inr (6, [.int (nI (ru_cnt z.2.2.2)), .int (nI (ru_sc z.2.2.2)), .ref (rd 1), .ref (rd 2), .ref (rd 3), .ref (rd 4), .ref pa]))) (((0 + 1) + 5) + 1) (((0 + 7) + (25 + 2 * len)) + 300)
        have hQ9 := rs_PQt hr hfr K2 kq2 hpa h3p kp3
        have fr9 : (ac_up h3 (rd 0) (.inr (6, [.int (nI (ru_cnt z.2.2.2)), .int (nI (ru_sc z.2.2.2)), .ref (rd 1), .ref (rd 2), .ref (rd 3), .ref (rd 4), .ref pa]))) r = some (cu_ob 3 u len z.2.1 (.ref dr) (.ref (rd 0))) := by rw [ac_up_n _ _ (ne_of K2.1 K2.2.2.2.1.1 (fun z => by cases z))]; exact kp3 _ _ K2.1 ni0
        refine aw_aload_n C dX3_parse_59 rfl rfl (q := 60) rfl ?_
        refine gfX3_20_3 (v := .ref (rd 0)) C dX3_parse_60 fr9 rfl (q := 63) rfl ?_
        refine aw_aret (r := (some (rd 0))) C E dX3_parse_63 (Or.inl ⟨_, rfl⟩) (by omega) (by omega) ?_
        rw [show R = (true, z.2) from by rw [← hR]; unfold rs_rules; rw [← ez, if_pos (pb_n c_32), if_pos ((nI_eq (by omega) (by omega)).mp c_45)]]
        exact hQ9
    ·
      refine aw_null C dX3_parse_35 (q := 36) rfl ?_
      refine aw_aret (r := none) C E dX3_parse_36 (Or.inl ⟨_, rfl⟩) (by omega) (by omega) ?_
      rw [show R = (false, z.2) from by rw [← hR]; unfold rs_rules; rw [← ez, if_neg (pb_0.mp c_32)]]
      exact rs_PQf hr hfr K2 kq2
set_option maxHeartbeats 4000000 in
set_option maxRecDepth 100000 in
theorem c_parse (G : ac_G) (l : Launch) (h : ac_H) (d : Nat) (r u dr len a : Nat) (f D : Nat → Int32) (v4 : Value) (k1 : h r = some (cu_ob 3 u len a (.ref dr) v4)) (k2 : h u = some (.inl (0, 300, .inl f))) (k3 : h dr = some (.inl (3, 300, .inl D))) (hlen : len ≤ 300) (hf : cu_ch f) : ac_Met G l yX3_parse cX3_parse 2 (some (.object "GradeTexts$Rules")) (d + 60) 7 (332 + 2 * len) [.ref r] h (rs_PQ h r u dr f len (rs_rules f len 12 (0, D, ru_new len))) := by
  refine ac_of (ls := [.ref r, .retAddr 0]) (by decide +kernel) rfl (Nat.le_of_ble_eq_true rfl) (fun M hl C B E hnm => ?_)
  refine aw_aload_n C dX3_parse_0 rfl rfl (q := 1) rfl ?_
  refine aw_iconst (v := 0) C dX3_parse_1 (by decide) (q := 2) rfl ?_
  refine pfX3_40_3 C dX3_parse_2 k1 rfl rfl (Nat.le_of_ble_eq_true rfl) (q := 5) rfl ?_
  show aw G 2 M 5 [.ref r, .retAddr 0] [] (ac_up h r (.inr (3, [.ref u, .int (nI len), .int 0, .ref dr, v4]))) 0 0
  obtain ⟨h_1, eh_1⟩ : ∃ z9, z9 = ac_up h r (.inr (3, [.ref u, .int (nI len), .int 0, .ref dr, v4])) := ⟨_, rfl⟩
  rw [← eh_1]
  have f_2 : h_1 u = some (.inl (0, 300, .inl (f))) := by rw [eh_1, ac_up_n _ _ (ne_ai k2 k1)]; exact k2
  have f_3 : h_1 dr = some (.inl (3, 300, .inl (D))) := by rw [eh_1, ac_up_n _ _ (ne_ai k3 k1)]; exact k3
  have f_4 : h_1 r = some (.inr (3, [.ref u, .int (nI len), .int 0, .ref dr, v4])) := by rw [eh_1]; exact ac_up_s _ _ _
  have kp_5 : kp h h_1 [r] := by rw [eh_1]; exact kp_up (kp_cons r kp_rf) _ _ (by simp)
  refine aw_aload_n C dX3_parse_5 rfl rfl (q := 6) rfl ?_
  refine nwX3_15 (fs := [.int 0, .int 0, .null, .null, .null, .null, .null]) C dX3_parse_6 dfX6 (Nat.le_trans (by omega) B.2.2.1) (Nat.le_trans (by omega) B.2.2.2) (q := 9) rfl (fun ra hn_6 _ => ?_)
  show aw G 2 M 9 [.ref r, .retAddr 0] [.ref ra, .ref r] (ac_up h_1 ra (.inr (6, [.int 0, .int 0, .null, .null, .null, .null, .null]))) (0 + 1) (0 + 7)
  obtain ⟨h_7, eh_7⟩ : ∃ z9, z9 = ac_up h_1 ra (.inr (6, [.int 0, .int 0, .null, .null, .null, .null, .null])) := ⟨_, rfl⟩
  rw [← eh_7]
  have n_8 : h ra = none := kp_none kp_5 hn_6 (ni1 (Ne.symm (nw_ne f_4 hn_6)) ni0)
  have t_9 : r ≠ ra := nw_ne f_4 hn_6
  have f_10 : h_7 r = some (.inr (3, [.ref u, .int (nI len), .int 0, .ref dr, v4])) := by rw [eh_7, ac_up_n _ _ t_9]; exact f_4
  have t_11 : u ≠ ra := nw_ne f_2 hn_6
  have f_12 : h_7 u = some (.inl (0, 300, .inl (f))) := by rw [eh_7, ac_up_n _ _ t_11]; exact f_2
  have t_13 : dr ≠ ra := nw_ne f_3 hn_6
  have f_14 : h_7 dr = some (.inl (3, 300, .inl (D))) := by rw [eh_7, ac_up_n _ _ t_13]; exact f_3
  have f_15 : h_7 ra = some (.inr (6, [.int 0, .int 0, .null, .null, .null, .null, .null])) := by rw [eh_7]; exact ac_up_s _ _ _
  have kp_16 : kp h h_7 [r] := by rw [eh_7]; exact kp_new n_8 kp_5
  refine aw_dup C dX3_parse_9 rfl (q := 10) rfl ?_
  refine aw_aload_n C dX3_parse_10 rfl rfl (q := 11) rfl ?_
  refine gfX3_24_3 (v := .int (nI len)) C dX3_parse_11 f_10 rfl (q := 14) rfl ?_
  refine ciX3_17 (As := [.int (nI len)]) (rest := [.ref ra, .ref r]) C B dX3_parse_14 (c_init6 G M.2.1 h_7 d ra len hlen f_15) rfl rfl (Nat.le_of_ble_eq_true rfl) (by omega) (by omega) (by omega) (q := 17) rfl (fun r9 h6 hr9 => ?_)
  obtain ⟨er9, ⟨L, hL, hnd, hfL, U6⟩, kp6⟩ := hr9
  subst er9
  have g1 := kp6 _ _ f_10 (ni1 t_9 ni0)
  have g2 := kp6 _ _ f_12 (ni1 t_11 ni0)
  have g3 := kp6 _ _ f_14 (ni1 t_13 ni0)
  have hfL0 : ∀ a ∈ L, h a = none := fun a ha => kp_none kp_16 (hfL a ha) (ni1 (fun z => by rw [z] at ha; exact absurd (hfL _ ha) (by rw [f_10]; exact fun z => by cases z)) ni0)
  have kq6 : kp h h6 [r] := kp_fr (kp_tr kp_16 kp6) (by intro a ha hn; simp only [List.mem_append, List.mem_cons, List.not_mem_nil, or_false] at ha hn; rcases ha with z | z; exact absurd z hn; rw [z]; exact n_8)
  show aw G 2 M 17 [.ref r, .retAddr 0] [.ref ra, .ref r] h6 ((0 + 1) + 5) ((0 + 7) + (25 + 2 * len))
  refine pfX3_20_3 C dX3_parse_17 g1 rfl rfl (Nat.le_of_ble_eq_true rfl) (q := 20) rfl ?_
  show aw G 2 M 20 [.ref r, .retAddr 0] [] (ac_up h6 r (.inr (3, [.ref u, .int (nI len), .int 0, .ref dr, .ref ra]))) ((0 + 1) + 5) ((0 + 7) + (25 + 2 * len))
  obtain ⟨h_17, eh_17⟩ : ∃ z9, z9 = ac_up h6 r (.inr (3, [.ref u, .int (nI len), .int 0, .ref dr, .ref ra])) := ⟨_, rfl⟩
  rw [← eh_17]
  have f_18 : h_17 u = some (.inl (0, 300, .inl (f))) := by rw [eh_17, ac_up_n _ _ (ne_ai k2 k1)]; exact g2
  have f_19 : h_17 dr = some (.inl (3, 300, .inl (D))) := by rw [eh_17, ac_up_n _ _ (ne_ai k3 k1)]; exact g3
  have f_20 : h_17 r = some (.inr (3, [.ref u, .int (nI len), .int 0, .ref dr, .ref ra])) := by rw [eh_17]; exact ac_up_s _ _ _
  have kp_21 : kp h h_17 [r] := by rw [eh_17]; exact kp_up kq6 _ _ (by simp)
  obtain ⟨rd, erd⟩ : ∃ rd : Nat → Nat, rd = fun j => (ra :: L).getD j 0 := ⟨_, rfl⟩
  have hr : inj rd 6 := by rw [erd]; have z := inj_nd hnd; rw [show (ra :: L).length = 6 from by simp [hL]] at z; exact z
  have hfr : ∀ j, j < 6 → h (rd j) = none := by
    intro j hj
    have hm : rd j ∈ ra :: L := by rw [erd]; show (ra :: L).getD j 0 ∈ _; rw [List.getD_eq_getElem?_getD, List.getElem?_eq_getElem (show j < (ra :: L).length from by simp [hL]; omega)]; exact List.getElem_mem _
    exact (List.mem_cons.mp hm).elim (fun z => by rw [z]; exact n_8) (hfL0 _)
  rw [← erd] at U6
  have e0 : ra = rd 0 := by rw [erd]; rfl
  have U9 : ru_ok h_17 rd (ru_new len) := ru_kpx U6 g1 (by rw [eh_17]; exact kp_up (kp_cons r kp_rf) _ _ (by simp)) (fun z => by cases z) (fun _ _ z => by cases z) (fun _ _ z => by cases z)
  have K9 : rs_ok h_17 r u dr rd f len (0, D, ru_new len) := ⟨by rw [← e0]; exact f_20, f_18, f_19, U9, Nat.zero_le _, ru_new_bd hlen⟩
  have kq9 : kp h h_17 (rs_L r dr rd) := kp_mono kp_21 rs_s1
  refine aw_iconst (v := 0) C dX3_parse_20 (by decide) (q := 21) rfl ?_
  refine aw_istore_n (ls' := [.ref r, .int 0]) C dX3_parse_21 rfl (by decide) rfl (q := 22) rfl ?_
  exact lp_parse (R := rs_rules f len 12 (0, D, ru_new len)) hr hlen hf hfr C B E 12 0 _ h_17 rfl K9 kq9 rfl
