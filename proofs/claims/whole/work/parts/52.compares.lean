/-! The reference: compares -/
def mo_cmps (g : Int32) (a b : Int64) : Int32 := if g = 60 then pb_b (lg_cmp a b < 0) else if g = 62 then pb_b (0 < lg_cmp a b) else if g = 61 then pb_b (lg_cmp a b = 0) else pb_b (¬ lg_cmp a b = 0)
set_option maxHeartbeats 4000000 in
set_option maxRecDepth 100000 in
theorem m_compares (G : ac_G) (l : Launch) (h : ac_H) (d : Nat) (g : Int32) (a b : Int64) : ac_Met G l yX9_compares cX9_compares 5 (some .boolean) d 0 0 [.int g, .long a, .long b] h (pq h (some (.int (mo_cmps g a b)))) := by
  refine ac_of (ls := [.int g, .long a, .retAddr 0, .long b, .retAddr 0]) (by decide +kernel) rfl (Nat.le_of_ble_eq_true rfl) (fun M hl C B E hnm => ?_)
  refine aw_iload_n C dX9_compares_0 rfl rfl (q := 1) rfl ?_
  refine aw_bipush (v := 60) C dX9_compares_1 (by decide) (q := 3) rfl ?_
  refine aw_icmp_ne (t := 20) (q := 6) C dX9_compares_3 (by decide) rfl (fun c_3 => ?_) (fun c_3 => ?_)
  ·
    refine aw_iload_n C dX9_compares_20 rfl rfl (q := 21) rfl ?_
    refine aw_bipush (v := 62) C dX9_compares_21 (by decide) (q := 23) rfl ?_
    refine aw_icmp_ne (t := 40) (q := 26) C dX9_compares_23 (by decide) rfl (fun c_23 => ?_) (fun c_23 => ?_)
    ·
      refine aw_iload_n C dX9_compares_40 rfl rfl (q := 41) rfl ?_
      refine aw_bipush (v := 61) C dX9_compares_41 (by decide) (q := 43) rfl ?_
      refine aw_icmp_ne (t := 60) (q := 46) C dX9_compares_43 (by decide) rfl (fun c_43 => ?_) (fun c_43 => ?_)
      ·
        refine aw_lload_n C dX9_compares_60 rfl rfl (q := 61) rfl ?_
        refine aw_lload_n C dX9_compares_61 rfl rfl (q := 62) rfl ?_
        refine aw_lcmp C dX9_compares_62 (q := 63) rfl ?_
        refine aw_if_eq (t := 70) (q := 66) C dX9_compares_63 (by decide) rfl (fun c_63 => ?_) (fun c_63 => ?_)
        ·
          refine aw_iconst (v := 0) C dX9_compares_70 (by decide) (q := 71) rfl ?_
          refine aw_zret C E dX9_compares_71 (rfl) (Nat.le_refl _) (Nat.le_refl _) ?_
          exact ⟨rfl, by unfold mo_cmps; rw [if_neg c_3, if_neg c_23, if_neg c_43]; unfold pb_b; rw [if_neg (fun z => z c_63)]⟩
        ·
          refine aw_iconst (v := 1) C dX9_compares_66 (by decide) (q := 67) rfl ?_
          refine aw_goto (q := 71) C dX9_compares_67 (by decide) ?_
          refine aw_zret C E dX9_compares_71 (rfl) (Nat.le_refl _) (Nat.le_refl _) ?_
          exact ⟨rfl, by unfold mo_cmps; rw [if_neg c_3, if_neg c_23, if_neg c_43]; unfold pb_b; rw [if_pos (c_63)]⟩
      ·
        refine aw_lload_n C dX9_compares_46 rfl rfl (q := 47) rfl ?_
        refine aw_lload_n C dX9_compares_47 rfl rfl (q := 48) rfl ?_
        refine aw_lcmp C dX9_compares_48 (q := 49) rfl ?_
        refine aw_if_ne (t := 56) (q := 52) C dX9_compares_49 (by decide) rfl (fun c_49 => ?_) (fun c_49 => ?_)
        ·
          refine aw_iconst (v := 0) C dX9_compares_56 (by decide) (q := 57) rfl ?_
          refine aw_goto (q := 71) C dX9_compares_57 (by decide) ?_
          refine aw_zret C E dX9_compares_71 (rfl) (Nat.le_refl _) (Nat.le_refl _) ?_
          exact ⟨rfl, by unfold mo_cmps; rw [if_neg c_3, if_neg c_23, if_pos c_43]; unfold pb_b; rw [if_neg (c_49)]⟩
        ·
          refine aw_iconst (v := 1) C dX9_compares_52 (by decide) (q := 53) rfl ?_
          refine aw_goto (q := 71) C dX9_compares_53 (by decide) ?_
          refine aw_zret C E dX9_compares_71 (rfl) (Nat.le_refl _) (Nat.le_refl _) ?_
          exact ⟨rfl, by unfold mo_cmps; rw [if_neg c_3, if_neg c_23, if_pos c_43]; unfold pb_b; rw [if_pos (c_49)]⟩
    ·
      refine aw_lload_n C dX9_compares_26 rfl rfl (q := 27) rfl ?_
      refine aw_lload_n C dX9_compares_27 rfl rfl (q := 28) rfl ?_
      refine aw_lcmp C dX9_compares_28 (q := 29) rfl ?_
      refine aw_if_le (t := 36) (q := 32) C dX9_compares_29 (by decide) rfl (fun c_29 => ?_) (fun c_29 => ?_)
      ·
        refine aw_iconst (v := 0) C dX9_compares_36 (by decide) (q := 37) rfl ?_
        refine aw_goto (q := 71) C dX9_compares_37 (by decide) ?_
        refine aw_zret C E dX9_compares_71 (rfl) (Nat.le_refl _) (Nat.le_refl _) ?_
        exact ⟨rfl, by unfold mo_cmps; rw [if_neg c_3, if_pos c_23]; unfold pb_b; rw [if_neg (Int32.not_lt.mpr c_29)]⟩
      ·
        refine aw_iconst (v := 1) C dX9_compares_32 (by decide) (q := 33) rfl ?_
        refine aw_goto (q := 71) C dX9_compares_33 (by decide) ?_
        refine aw_zret C E dX9_compares_71 (rfl) (Nat.le_refl _) (Nat.le_refl _) ?_
        exact ⟨rfl, by unfold mo_cmps; rw [if_neg c_3, if_pos c_23]; unfold pb_b; rw [if_pos (Int32.not_le.mp c_29)]⟩
  ·
    refine aw_lload_n C dX9_compares_6 rfl rfl (q := 7) rfl ?_
    refine aw_lload_n C dX9_compares_7 rfl rfl (q := 8) rfl ?_
    refine aw_lcmp C dX9_compares_8 (q := 9) rfl ?_
    refine aw_if_ge (t := 16) (q := 12) C dX9_compares_9 (by decide) rfl (fun c_9 => ?_) (fun c_9 => ?_)
    ·
      refine aw_iconst (v := 0) C dX9_compares_16 (by decide) (q := 17) rfl ?_
      refine aw_goto (q := 71) C dX9_compares_17 (by decide) ?_
      refine aw_zret C E dX9_compares_71 (rfl) (Nat.le_refl _) (Nat.le_refl _) ?_
      exact ⟨rfl, by unfold mo_cmps; rw [if_pos c_3]; unfold pb_b; rw [if_neg (Int32.not_lt.mpr c_9)]⟩
    ·
      refine aw_iconst (v := 1) C dX9_compares_12 (by decide) (q := 13) rfl ?_
      refine aw_goto (q := 71) C dX9_compares_13 (by decide) ?_
      refine aw_zret C E dX9_compares_71 (rfl) (Nat.le_refl _) (Nat.le_refl _) ?_
      exact ⟨rfl, by unfold mo_cmps; rw [if_pos c_3]; unfold pb_b; rw [if_pos (Int32.not_le.mp c_9)]⟩
