/-! Plank: class 1. Fields 0 length, 1 width, 2 thick, 3 count, 4 changes (I), 5 .. 10 the rows of the faults (A: where, F: what) -/
theorem ni_nle {x y : Int32} (a b : Nat) (hx : x = nI a) (hy : y = nI b) (ha : a < 2 ^ 31) (hb : b < 2 ^ 31) (h : ¬ y ≤ x) : a < b := by
  rw [hx, hy] at h
  exact Nat.lt_of_not_le fun z => h ((nI_leI hb ha).mpr z)
theorem ni_le {x y : Int32} (a b : Nat) (hx : x = nI a) (hy : y = nI b) (ha : a < 2 ^ 31) (hb : b < 2 ^ 31) (h : y ≤ x) : b ≤ a := by
  rw [hx, hy] at h
  exact (nI_leI hb ha).mp h
theorem ni_nge {x y : Int32} (a b : Nat) (hx : x = nI a) (hy : y = nI b) (ha : a < 2 ^ 31) (hb : b < 2 ^ 31) (h : a < b) : ¬ y ≤ x := by
  rw [hx, hy]
  exact fun z => absurd ((nI_leI hb ha).mp z) (by omega)
abbrev ob1 (A : Nat → Nat) (I : Nat → Int32) : List Value := [.int (I 0), .int (I 1), .int (I 2), .int (I 3), .int (I 4), .ref (A 5), .ref (A 6), .ref (A 7), .ref (A 8), .ref (A 9), .ref (A 10)]
/-- the plank p: its numbers I, its rows F at A, c faults -/
def pl_ok (h : ac_H) (p : Nat) (A : Nat → Nat) (I : Nat → Int32) (F : Nat → Nat → Int32) (c : Nat) : Prop :=
  h p = some (.inr (1, ob1 A I)) ∧ (∀ j, 5 ≤ j → j < 11 → h (A j) = some (.inl (1, 10, .inl (F j)))) ∧ I 3 = nI c ∧ c ≤ 10
/-- fault i isn't among the absent ones -/
abbrev pl_pres (ab : Int32) (i : Nat) : Prop := ((ab.toUInt32 >>> ((nI i).toUInt32 &&& Int32.toUInt32 31)).toInt32 &&& 1) = 0
/-- how many of the first i faults lie on a face -/
def pl_onF (f : Nat → Int32) (face ab : Int32) : Nat → Int32
  | 0 => 0
  | i + 1 => if f i = face ∧ pl_pres ab i then pl_onF f face ab i + 1 else pl_onF f face ab i
/-- the sum of a window, over the first i faults -/
def pl_win (F : Nat → Nat → Int32) (fr kind : Int32) (sp : Int64) (part ab : Int32) : Nat → Int64
  | 0 => 0
  | i + 1 => if (F 6 i = kind ∧ pl_pres ab i) ∧ ¬ F 7 i < fr ∧ ¬ 0 ≤ lg_cmp (F 7 i - fr).toInt64 sp then pl_win F fr kind sp part ab i + (if part = 0 then 1 else (F 9 i).toInt64 * (F 10 i).toInt64) else pl_win F fr kind sp part ab i

set_option maxHeartbeats 4000000 in
set_option maxRecDepth 100000 in
theorem lp_onFace {G : ac_G} {M : ac_M} {p : Nat} {A : Nat → Nat} {I : Nat → Int32} {F : Nat → Nat → Int32} {c : Nat} {h : ac_H} {face ab : Int32} (C : ac_MC G RX1 cX1_onFace 5 (some .int) M) (E : ac_End G (pq h (some (.int (pl_onF (F 5) face ab c)))) 0 0 M) (K : pl_ok h p A I F c) :
    ∀ (nn i : Nat) (x3 : Int32), i ≤ c → c + 1 ≤ i + nn → x3 = pl_onF (F 5) face ab i → aw G 5 M 5 [.ref p, .int face, .int ab, .int x3, .int (nI i)] [] h 0 0 := by
  obtain ⟨hp, hF, hI3, hc⟩ := K
  intro nn
  induction nn with
  | zero => intro i x3 h1 h2; omega
  | succ nn ih =>
    intro i x3 hi hin h3
    refine aw_iload C dX1_onFace_5 rfl (q := 7) rfl ?_
    refine aw_aload_n C dX1_onFace_7 rfl rfl (q := 8) rfl ?_
    refine gfX1_43_1 (v := .int (I 3)) C dX1_onFace_8 hp rfl (q := 11) rfl ?_
    refine aw_icmp_ge (t := 50) (q := 14) C dX1_onFace_11 (by decide) rfl (fun c_11 => ?_) (fun c_11 => ?_)
    ·
      refine aw_iload_n C dX1_onFace_50 rfl rfl (q := 51) rfl ?_
      refine aw_iret C E dX1_onFace_51 (Nat.le_refl _) (Nat.le_refl _) ?_
      have he : i = c := Nat.le_antisymm hi (ni_le i c rfl hI3 (by omega) (by omega) c_11)
      exact ⟨rfl, by rw [h3, he]⟩
    ·
      have hlt : i < c := ni_nle i c rfl hI3 (by omega) (by omega) c_11
      refine aw_iload C dX1_onFace_14 rfl (q := 16) rfl ?_
      refine aw_bipush (v := 10) C dX1_onFace_16 (by decide) (q := 18) rfl ?_
      refine aw_icmp_ge (t := 50) (q := 21) C dX1_onFace_18 (by decide) rfl (fun c_18 => absurd c_18 (ni_nge i 10 rfl rfl (by omega) (by decide) (by omega))) (fun c_18 => ?_)
      refine aw_aload_n C dX1_onFace_21 rfl rfl (q := 22) rfl ?_
      refine gfX1_9_1 (v := .ref (A 5)) C dX1_onFace_22 hp rfl (q := 25) rfl ?_
      refine aw_iload C dX1_onFace_25 rfl (q := 27) rfl ?_
      refine ay_iald (j := i) C dX1_onFace_27 (hF 5 (by decide) (by decide)) (vp_in_nI (by omega) (by decide)) (nI_clamp (by omega)) (q := 28) rfl ?_
      refine aw_iload_n C dX1_onFace_28 rfl rfl (q := 29) rfl ?_
      refine aw_icmp_ne (t := 44) (q := 32) C dX1_onFace_29 (by decide) rfl (fun c_29 => ?_) (fun c_29 => ?_)
      ·
        refine aw_iinc (v := nI (i + 1)) (ls' := [.ref p, .int face, .int ab, .int x3, .int (nI (i + 1))]) C dX1_onFace_44 rfl (nI_1 i) (by decide) rfl (q := 47) rfl ?_
        refine aw_goto (q := 5) C dX1_onFace_47 (by decide) ?_
        refine ih (i + 1) _ hlt (by omega) ?_
        show _ = ite _ _ _
        rw [if_neg (fun z => c_29 z.1), ← h3]
      ·
        refine aw_iload_n C dX1_onFace_32 rfl rfl (q := 33) rfl ?_
        refine aw_iload C dX1_onFace_33 rfl (q := 35) rfl ?_
        refine aw_iushr C dX1_onFace_35 (q := 36) rfl ?_
        refine aw_iconst (v := 1) C dX1_onFace_36 (by decide) (q := 37) rfl ?_
        refine aw_iand C dX1_onFace_37 (q := 38) rfl ?_
        refine aw_if_ne (t := 44) (q := 41) C dX1_onFace_38 (by decide) rfl (fun c_38 => ?_) (fun c_38 => ?_)
        ·
          refine aw_iinc (v := nI (i + 1)) (ls' := [.ref p, .int face, .int ab, .int x3, .int (nI (i + 1))]) C dX1_onFace_44 rfl (nI_1 i) (by decide) rfl (q := 47) rfl ?_
          refine aw_goto (q := 5) C dX1_onFace_47 (by decide) ?_
          refine ih (i + 1) _ hlt (by omega) ?_
          show _ = ite _ _ _
          rw [if_neg (fun z => c_38 z.2), ← h3]
        ·
          refine aw_iinc (v := x3 + 1) (ls' := [.ref p, .int face, .int ab, .int (x3 + 1), .int (nI i)]) C dX1_onFace_41 rfl rfl (by decide) rfl (q := 44) rfl ?_
          refine aw_iinc (v := nI (i + 1)) (ls' := [.ref p, .int face, .int ab, .int (x3 + 1), .int (nI (i + 1))]) C dX1_onFace_44 rfl (nI_1 i) (by decide) rfl (q := 47) rfl ?_
          refine aw_goto (q := 5) C dX1_onFace_47 (by decide) ?_
          refine ih (i + 1) _ hlt (by omega) ?_
          show _ = ite _ _ _
          rw [if_pos ⟨c_29, c_38⟩, ← h3]
set_option maxHeartbeats 4000000 in
set_option maxRecDepth 100000 in
theorem c_onFace (G : ac_G) (l : Launch) (h : ac_H) (d : Nat) (p : Nat) (A : Nat → Nat) (I : Nat → Int32) (F : Nat → Nat → Int32) (c : Nat) (face ab : Int32) (K : pl_ok h p A I F c) : ac_Met G l yX1_onFace cX1_onFace 5 (some .int) d 0 0 [.ref p, .int face, .int ab] h (pq h (some (.int (pl_onF (F 5) face ab c)))) := by
  refine ac_of (ls := [.ref p, .int face, .int ab, .retAddr 0, .retAddr 0]) (by decide +kernel) rfl (Nat.le_of_ble_eq_true rfl) (fun M hl C B E hnm => ?_)
  refine aw_iconst (v := 0) C dX1_onFace_0 (by decide) (q := 1) rfl ?_
  refine aw_istore_n (ls' := [.ref p, .int face, .int ab, .int 0, .retAddr 0]) C dX1_onFace_1 rfl (by decide) rfl (q := 2) rfl ?_
  refine aw_iconst (v := 0) C dX1_onFace_2 (by decide) (q := 3) rfl ?_
  refine aw_istore (ls' := [.ref p, .int face, .int ab, .int 0, .int 0]) C dX1_onFace_3 (by decide) rfl (q := 5) rfl ?_
  exact lp_onFace C E K (c + 1) 0 0 (Nat.zero_le _) (by omega) rfl
set_option maxHeartbeats 4000000 in
set_option maxRecDepth 100000 in
theorem lp_inWindow {G : ac_G} {M : ac_M} {p : Nat} {A : Nat → Nat} {I : Nat → Int32} {F : Nat → Nat → Int32} {c : Nat} {h : ac_H} {fr kind part ab : Int32} {sp : Int64} (C : ac_MC G RX1 cX1_inWindow 11 (some .long) M) (E : ac_End G (pq h (some (.long (pl_win F fr kind sp part ab c)))) 0 0 M) (K : pl_ok h p A I F c) :
    ∀ (nn i : Nat) (x7 : Int64) (v10 : Value), i ≤ c → c + 1 ≤ i + nn → x7 = pl_win F fr kind sp part ab i → aw G 11 M 6 [.ref p, .int fr, .int kind, .long sp, .retAddr 0, .int part, .int ab, .long x7, .retAddr 0, .int (nI i), v10] [] h 0 0 := by
  obtain ⟨hp, hF, hI3, hc⟩ := K
  intro nn
  induction nn with
  | zero => intro i x7 v10 h1 h2; omega
  | succ nn ih =>
    intro i x7 v10 hi hin h7
    refine aw_iload C dX1_inWindow_6 rfl (q := 8) rfl ?_
    refine aw_aload_n C dX1_inWindow_8 rfl rfl (q := 9) rfl ?_
    refine gfX1_43_1 (v := .int (I 3)) C dX1_inWindow_9 hp rfl (q := 12) rfl ?_
    refine aw_icmp_ge (t := 118) (q := 15) C dX1_inWindow_12 (by decide) rfl (fun c_12 => ?_) (fun c_12 => ?_)
    ·
      refine aw_lload C dX1_inWindow_118 rfl (q := 120) rfl ?_
      refine aw_lret C E dX1_inWindow_120 (Nat.le_refl _) (Nat.le_refl _) ?_
      have he : i = c := Nat.le_antisymm hi (ni_le i c rfl hI3 (by omega) (by omega) c_12)
      exact ⟨rfl, by rw [h7, he]⟩
    ·
      have hlt : i < c := ni_nle i c rfl hI3 (by omega) (by omega) c_12
      refine aw_iload C dX1_inWindow_15 rfl (q := 17) rfl ?_
      refine aw_bipush (v := 10) C dX1_inWindow_17 (by decide) (q := 19) rfl ?_
      refine aw_icmp_ge (t := 118) (q := 22) C dX1_inWindow_19 (by decide) rfl (fun c_19 => absurd c_19 (ni_nge i 10 rfl rfl (by omega) (by decide) (by omega))) (fun c_19 => ?_)
      refine aw_aload_n C dX1_inWindow_22 rfl rfl (q := 23) rfl ?_
      refine gfX1_15_1 (v := .ref (A 6)) C dX1_inWindow_23 hp rfl (q := 26) rfl ?_
      refine aw_iload C dX1_inWindow_26 rfl (q := 28) rfl ?_
      refine ay_iald (j := i) C dX1_inWindow_28 (hF 6 (by decide) (by decide)) (vp_in_nI (by omega) (by decide)) (nI_clamp (by omega)) (q := 29) rfl ?_
      refine aw_iload_n C dX1_inWindow_29 rfl rfl (q := 30) rfl ?_
      refine aw_icmp_ne (t := 47) (q := 33) C dX1_inWindow_30 (by decide) rfl (fun c_30 => ?_) (fun c_30 => ?_)
      ·
        refine aw_iconst (v := 0) C dX1_inWindow_47 (by decide) (q := 48) rfl ?_
        refine aw_istore (ls' := [.ref p, .int fr, .int kind, .long sp, .retAddr 0, .int part, .int ab, .long x7, .retAddr 0, .int (nI i), .int 0]) C dX1_inWindow_48 (by decide) rfl (q := 50) rfl ?_
        refine aw_iload C dX1_inWindow_50 rfl (q := 52) rfl ?_
        refine aw_if_eq (t := 112) (q := 55) C dX1_inWindow_52 (by decide) rfl (fun c_52 => ?_) (fun c_52 => absurd c_52 (by decide))
        refine aw_iinc (v := nI (i + 1)) (ls' := [.ref p, .int fr, .int kind, .long sp, .retAddr 0, .int part, .int ab, .long x7, .retAddr 0, .int (nI (i + 1)), .int 0]) C dX1_inWindow_112 rfl (nI_1 i) (by decide) rfl (q := 115) rfl ?_
        refine aw_goto (q := 6) C dX1_inWindow_115 (by decide) ?_
        refine ih (i + 1) _ _ hlt (by omega) ?_
        show _ = ite _ _ _
        rw [if_neg (fun z => c_30 z.1.1), ← h7]
      ·
        refine aw_iload C dX1_inWindow_33 rfl (q := 35) rfl ?_
        refine aw_iload C dX1_inWindow_35 rfl (q := 37) rfl ?_
        refine aw_iushr C dX1_inWindow_37 (q := 38) rfl ?_
        refine aw_iconst (v := 1) C dX1_inWindow_38 (by decide) (q := 39) rfl ?_
        refine aw_iand C dX1_inWindow_39 (q := 40) rfl ?_
        refine aw_if_ne (t := 47) (q := 43) C dX1_inWindow_40 (by decide) rfl (fun c_40 => ?_) (fun c_40 => ?_)
        ·
          refine aw_iconst (v := 0) C dX1_inWindow_47 (by decide) (q := 48) rfl ?_
          refine aw_istore (ls' := [.ref p, .int fr, .int kind, .long sp, .retAddr 0, .int part, .int ab, .long x7, .retAddr 0, .int (nI i), .int 0]) C dX1_inWindow_48 (by decide) rfl (q := 50) rfl ?_
          refine aw_iload C dX1_inWindow_50 rfl (q := 52) rfl ?_
          refine aw_if_eq (t := 112) (q := 55) C dX1_inWindow_52 (by decide) rfl (fun c_52 => ?_) (fun c_52 => absurd c_52 (by decide))
          refine aw_iinc (v := nI (i + 1)) (ls' := [.ref p, .int fr, .int kind, .long sp, .retAddr 0, .int part, .int ab, .long x7, .retAddr 0, .int (nI (i + 1)), .int 0]) C dX1_inWindow_112 rfl (nI_1 i) (by decide) rfl (q := 115) rfl ?_
          refine aw_goto (q := 6) C dX1_inWindow_115 (by decide) ?_
          refine ih (i + 1) _ _ hlt (by omega) ?_
          show _ = ite _ _ _
          rw [if_neg (fun z => c_40 z.1.2), ← h7]
        ·
          refine aw_iconst (v := 1) C dX1_inWindow_43 (by decide) (q := 44) rfl ?_
          refine aw_goto (q := 48) C dX1_inWindow_44 (by decide) ?_
          refine aw_istore (ls' := [.ref p, .int fr, .int kind, .long sp, .retAddr 0, .int part, .int ab, .long x7, .retAddr 0, .int (nI i), .int 1]) C dX1_inWindow_48 (by decide) rfl (q := 50) rfl ?_
          refine aw_iload C dX1_inWindow_50 rfl (q := 52) rfl ?_
          refine aw_if_eq (t := 112) (q := 55) C dX1_inWindow_52 (by decide) rfl (fun c_52 => absurd c_52 (by decide)) (fun c_52 => ?_)
          refine aw_aload_n C dX1_inWindow_55 rfl rfl (q := 56) rfl ?_
          refine gfX1_18_1 (v := .ref (A 7)) C dX1_inWindow_56 hp rfl (q := 59) rfl ?_
          refine aw_iload C dX1_inWindow_59 rfl (q := 61) rfl ?_
          refine ay_iald (j := i) C dX1_inWindow_61 (hF 7 (by decide) (by decide)) (vp_in_nI (by omega) (by decide)) (nI_clamp (by omega)) (q := 62) rfl ?_
          refine aw_iload_n C dX1_inWindow_62 rfl rfl (q := 63) rfl ?_
          refine aw_icmp_lt (t := 112) (q := 66) C dX1_inWindow_63 (by decide) rfl (fun c_63 => ?_) (fun c_63 => ?_)
          ·
            refine aw_iinc (v := nI (i + 1)) (ls' := [.ref p, .int fr, .int kind, .long sp, .retAddr 0, .int part, .int ab, .long x7, .retAddr 0, .int (nI (i + 1)), .int 1]) C dX1_inWindow_112 rfl (nI_1 i) (by decide) rfl (q := 115) rfl ?_
            refine aw_goto (q := 6) C dX1_inWindow_115 (by decide) ?_
            refine ih (i + 1) _ _ hlt (by omega) ?_
            show _ = ite _ _ _
            rw [if_neg (fun z => z.2.1 c_63), ← h7]
          ·
            refine aw_aload_n C dX1_inWindow_66 rfl rfl (q := 67) rfl ?_
            refine gfX1_18_1 (v := .ref (A 7)) C dX1_inWindow_67 hp rfl (q := 70) rfl ?_
            refine aw_iload C dX1_inWindow_70 rfl (q := 72) rfl ?_
            refine ay_iald (j := i) C dX1_inWindow_72 (hF 7 (by decide) (by decide)) (vp_in_nI (by omega) (by decide)) (nI_clamp (by omega)) (q := 73) rfl ?_
            refine aw_iload_n C dX1_inWindow_73 rfl rfl (q := 74) rfl ?_
            refine aw_isub C dX1_inWindow_74 (q := 75) rfl ?_
            refine aw_i2l C dX1_inWindow_75 (q := 76) rfl ?_
            refine aw_lload_n C dX1_inWindow_76 rfl rfl (q := 77) rfl ?_
            refine aw_lcmp C dX1_inWindow_77 (q := 78) rfl ?_
            refine aw_if_ge (t := 112) (q := 81) C dX1_inWindow_78 (by decide) rfl (fun c_78 => ?_) (fun c_78 => ?_)
            ·
              refine aw_iinc (v := nI (i + 1)) (ls' := [.ref p, .int fr, .int kind, .long sp, .retAddr 0, .int part, .int ab, .long x7, .retAddr 0, .int (nI (i + 1)), .int 1]) C dX1_inWindow_112 rfl (nI_1 i) (by decide) rfl (q := 115) rfl ?_
              refine aw_goto (q := 6) C dX1_inWindow_115 (by decide) ?_
              refine ih (i + 1) _ _ hlt (by omega) ?_
              show _ = ite _ _ _
              rw [if_neg (fun z => z.2.2 c_78), ← h7]
            ·
              refine aw_lload C dX1_inWindow_81 rfl (q := 83) rfl ?_
              refine aw_iload C dX1_inWindow_83 rfl (q := 85) rfl ?_
              refine aw_if_ne (t := 92) (q := 88) C dX1_inWindow_85 (by decide) rfl (fun c_85 => ?_) (fun c_85 => ?_)
              ·
                refine aw_aload_n C dX1_inWindow_92 rfl rfl (q := 93) rfl ?_
                refine gfX1_24_1 (v := .ref (A 9)) C dX1_inWindow_93 hp rfl (q := 96) rfl ?_
                refine aw_iload C dX1_inWindow_96 rfl (q := 98) rfl ?_
                refine ay_iald (j := i) C dX1_inWindow_98 (hF 9 (by decide) (by decide)) (vp_in_nI (by omega) (by decide)) (nI_clamp (by omega)) (q := 99) rfl ?_
                refine aw_i2l C dX1_inWindow_99 (q := 100) rfl ?_
                refine aw_aload_n C dX1_inWindow_100 rfl rfl (q := 101) rfl ?_
                refine gfX1_27_1 (v := .ref (A 10)) C dX1_inWindow_101 hp rfl (q := 104) rfl ?_
                refine aw_iload C dX1_inWindow_104 rfl (q := 106) rfl ?_
                refine ay_iald (j := i) C dX1_inWindow_106 (hF 10 (by decide) (by decide)) (vp_in_nI (by omega) (by decide)) (nI_clamp (by omega)) (q := 107) rfl ?_
                refine aw_i2l C dX1_inWindow_107 (q := 108) rfl ?_
                refine aw_lmul C dX1_inWindow_108 (q := 109) rfl ?_
                refine aw_ladd C dX1_inWindow_109 (q := 110) rfl ?_
                refine aw_lstore (ls' := [.ref p, .int fr, .int kind, .long sp, .retAddr 0, .int part, .int ab, .long (x7 + ((((F 9) i).toInt64) * (((F 10) i).toInt64))), .retAddr 0, .int (nI i), .int 1]) C dX1_inWindow_110 (by decide) rfl (q := 112) rfl ?_
                refine aw_iinc (v := nI (i + 1)) (ls' := [.ref p, .int fr, .int kind, .long sp, .retAddr 0, .int part, .int ab, .long (x7 + ((((F 9) i).toInt64) * (((F 10) i).toInt64))), .retAddr 0, .int (nI (i + 1)), .int 1]) C dX1_inWindow_112 rfl (nI_1 i) (by decide) rfl (q := 115) rfl ?_
                refine aw_goto (q := 6) C dX1_inWindow_115 (by decide) ?_
                refine ih (i + 1) _ _ hlt (by omega) ?_
                show _ = ite _ _ _
                rw [if_pos ⟨⟨c_30, c_40⟩, c_63, c_78⟩, if_neg c_85, ← h7]
              ·
                refine aw_lconst (v := 1) C dX1_inWindow_88 (by decide) (q := 89) rfl ?_
                refine aw_goto (q := 109) C dX1_inWindow_89 (by decide) ?_
                refine aw_ladd C dX1_inWindow_109 (q := 110) rfl ?_
                refine aw_lstore (ls' := [.ref p, .int fr, .int kind, .long sp, .retAddr 0, .int part, .int ab, .long (x7 + 1), .retAddr 0, .int (nI i), .int 1]) C dX1_inWindow_110 (by decide) rfl (q := 112) rfl ?_
                refine aw_iinc (v := nI (i + 1)) (ls' := [.ref p, .int fr, .int kind, .long sp, .retAddr 0, .int part, .int ab, .long (x7 + 1), .retAddr 0, .int (nI (i + 1)), .int 1]) C dX1_inWindow_112 rfl (nI_1 i) (by decide) rfl (q := 115) rfl ?_
                refine aw_goto (q := 6) C dX1_inWindow_115 (by decide) ?_
                refine ih (i + 1) _ _ hlt (by omega) ?_
                show _ = ite _ _ _
                rw [if_pos ⟨⟨c_30, c_40⟩, c_63, c_78⟩, if_pos c_85, ← h7]
set_option maxHeartbeats 4000000 in
set_option maxRecDepth 100000 in
theorem c_inWindow (G : ac_G) (l : Launch) (h : ac_H) (d : Nat) (p : Nat) (A : Nat → Nat) (I : Nat → Int32) (F : Nat → Nat → Int32) (c : Nat) (fr kind part ab : Int32) (sp : Int64) (K : pl_ok h p A I F c) : ac_Met G l yX1_inWindow cX1_inWindow 11 (some .long) d 0 0 [.ref p, .int fr, .int kind, .long sp, .int part, .int ab] h (pq h (some (.long (pl_win F fr kind sp part ab c)))) := by
  refine ac_of (ls := [.ref p, .int fr, .int kind, .long sp, .retAddr 0, .int part, .int ab, .retAddr 0, .retAddr 0, .retAddr 0, .retAddr 0]) (by decide +kernel) rfl (Nat.le_of_ble_eq_true rfl) (fun M hl C B E hnm => ?_)
  refine aw_lconst (v := 0) C dX1_inWindow_0 (by decide) (q := 1) rfl ?_
  refine aw_lstore (ls' := [.ref p, .int fr, .int kind, .long sp, .retAddr 0, .int part, .int ab, .long 0, .retAddr 0, .retAddr 0, .retAddr 0]) C dX1_inWindow_1 (by decide) rfl (q := 3) rfl ?_
  refine aw_iconst (v := 0) C dX1_inWindow_3 (by decide) (q := 4) rfl ?_
  refine aw_istore (ls' := [.ref p, .int fr, .int kind, .long sp, .retAddr 0, .int part, .int ab, .long 0, .retAddr 0, .int 0, .retAddr 0]) C dX1_inWindow_4 (by decide) rfl (q := 6) rfl ?_
  exact lp_inWindow C E K (c + 1) 0 0 _ (Nat.zero_le _) (by omega) rfl
