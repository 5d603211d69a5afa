/-! The reference: worstOf -/
abbrev mo_there (F : Nat → Nat → Int32) (kind : Int32) (far : Int64) (e : Int32) (f g : Nat) : Prop := (e >>> (nI g &&& 31) &&& 1 = 1) ∧ F 22 g = kind ∧ ¬ F 23 g < F 23 f ∧ lg_cmp (F 23 g - F 23 f).toInt64 far < 0
def mo_in (F : Nat → Nat → Int32) (kind : Int32) (far : Int64) (ar e : Int32) (f : Nat) : Nat → Int64
  | 0 => 0
  | g + 1 => if mo_there F kind far e f g then mo_in F kind far ar e f g + (if ar = 0 then 1 else (F 25 g).toInt64 * (F 26 g).toInt64) else mo_in F kind far ar e f g
def mo_most (F : Nat → Nat → Int32) (kind : Int32) (far : Int64) (ar e : Int32) (c : Nat) : Nat → Int64
  | 0 => 0
  | f + 1 => if 0 < lg_cmp (mo_in F kind far ar e f c) (mo_most F kind far ar e c f) then mo_in F kind far ar e f c else mo_most F kind far ar e c f
def mo_worst (F : Nat → Nat → Int32) (kind : Int32) (far : Int64) (ar e : Int32) (c : Nat) : Int64 := if lg_cmp far 1 < 0 then 0 else mo_most F kind far ar e c c
set_option maxHeartbeats 4000000 in
set_option maxRecDepth 100000 in
theorem ml_in {G : ac_G} {M : ac_M} {o : Nat} {md : Nat → Nat} (hm : md_inj md) {h : ac_H} {d c : Nat} {s : md_S} {kind ar e : Int32} {far : Int64} (K : md_ok h o md s) (hc : s.1 20 = nI c) (hc10 : c ≤ 10) (C : ac_MC G RX9 cX9_worstOf 13 (some .long) M) (B : ac_Bd M (d + 1) 0 0) {mst : Int64} {f : Nat} (hf : f < c) (kk : ∀ v12 : Value, aw G 13 M 143 [.ref o, .int kind, .long far, .retAddr 0, .int ar, .int e, .long mst, .retAddr 0, .int (nI f), .long (mo_in s.2.1 kind far ar e f c), .retAddr 0, .int (nI c), v12] [] h 0 0) :
    ∀ (m g : Nat) (v12 : Value), g + m = c → aw G 13 M 21 [.ref o, .int kind, .long far, .retAddr 0, .int ar, .int e, .long mst, .retAddr 0, .int (nI f), .long (mo_in s.2.1 kind far ar e f g), .retAddr 0, .int (nI g), v12] [] h 0 0 := by
  intro m
  induction m with
  | zero =>
    intro g v12 hg
    have hg2 : g = c := by omega
    subst hg2
    refine aw_iload C dX9_worstOf_21 rfl (q := 23) rfl ?_
    refine aw_aload_n C dX9_worstOf_23 rfl rfl (q := 24) rfl ?_
    refine gfX9_213_9 (v := .int (s.1 20)) C dX9_worstOf_24 K.1 rfl (q := 27) rfl ?_
    refine aw_icmp_ge (t := 143) (q := 30) C dX9_worstOf_27 (by decide) rfl (fun c_27 => ?_) (fun c_27 => absurd c_27 (fun z => z (by rw [hc]; exact nI_le (Nat.le_refl _) (by omega))))
    exact kk _
  | succ m ih =>
    intro g v12 hg
    refine aw_iload C dX9_worstOf_21 rfl (q := 23) rfl ?_
    refine aw_aload_n C dX9_worstOf_23 rfl rfl (q := 24) rfl ?_
    refine gfX9_213_9 (v := .int (s.1 20)) C dX9_worstOf_24 K.1 rfl (q := 27) rfl ?_
    refine aw_icmp_ge (t := 143) (q := 30) C dX9_worstOf_27 (by decide) rfl (fun c_27 => absurd c_27 (by rw [hc]; exact ni_nge g c rfl rfl (by omega) (by omega) (by omega))) (fun c_27 => ?_)
    refine aw_iload C dX9_worstOf_30 rfl (q := 32) rfl ?_
    refine aw_iload C dX9_worstOf_32 rfl (q := 34) rfl ?_
    refine csX9_220 (As := [.int e, .int (nI g)]) (rest := []) C B dX9_worstOf_34 (m_has G M.2.1 h d e (nI g)) rfl rfl (Nat.le_of_ble_eq_true rfl) (by omega) (by omega) (by omega) (q := 37) rfl (fun r9 h9 hr9 => ?_)
    obtain ⟨e9, er9⟩ := hr9
    subst er9; rw [e9]
    show aw G 13 M 37 [.ref o, .int kind, .long far, .retAddr 0, .int ar, .int e, .long mst, .retAddr 0, .int (nI f), .long (mo_in s.2.1 kind far ar e f g), .retAddr 0, .int (nI g), v12] [.int (pb_b (e >>> ((nI g) &&& 31) &&& 1 = 1))] h 0 0
    refine aw_if_eq (t := 93) (q := 40) C dX9_worstOf_37 (by decide) rfl (fun c_37 => ?_) (fun c_37 => ?_)
    ·
      refine aw_iconst (v := 0) C dX9_worstOf_93 (by decide) (q := 94) rfl ?_
      refine aw_istore (ls' := [.ref o, .int kind, .long far, .retAddr 0, .int ar, .int e, .long mst, .retAddr 0, .int (nI f), .long (mo_in s.2.1 kind far ar e f g), .retAddr 0, .int (nI g), .int 0]) C dX9_worstOf_94 (by decide) rfl (q := 96) rfl ?_
      refine aw_iload C dX9_worstOf_96 rfl (q := 98) rfl ?_
      refine aw_if_eq (t := 133) (q := 101) C dX9_worstOf_98 (by decide) rfl (fun c_98 => ?_) (fun c_98 => absurd c_98 (by decide))
      refine aw_lload C dX9_worstOf_133 rfl (q := 135) rfl ?_
      refine aw_lstore (ls' := [.ref o, .int kind, .long far, .retAddr 0, .int ar, .int e, .long mst, .retAddr 0, .int (nI f), .long (mo_in s.2.1 kind far ar e f g), .retAddr 0, .int (nI g), .int 0]) C dX9_worstOf_135 (by decide) rfl (q := 137) rfl ?_
      refine aw_iinc (v := nI (g + 1)) (ls' := [.ref o, .int kind, .long far, .retAddr 0, .int ar, .int e, .long mst, .retAddr 0, .int (nI f), .long (mo_in s.2.1 kind far ar e f g), .retAddr 0, .int (nI (g + 1)), .int 0]) C dX9_worstOf_137 rfl (nI_1 g) (by decide) rfl (q := 140) rfl ?_
      refine aw_goto (q := 21) C dX9_worstOf_140 (by decide) ?_
      have z := ih (g + 1) (.int 0) (by omega)
      rw [show mo_in s.2.1 kind far ar e f (g + 1) = mo_in s.2.1 kind far ar e f g from if_neg (fun z => pb_0.mp c_37 z.1)] at z
      exact z
    ·
      refine aw_aload_n C dX9_worstOf_40 rfl rfl (q := 41) rfl ?_
      refine gfX9_44_9 (v := .ref (md 22)) C dX9_worstOf_41 K.1 rfl (q := 44) rfl ?_
      refine aw_iload C dX9_worstOf_44 rfl (q := 46) rfl ?_
      refine ay_iald (N := 10) (f := s.2.1 22) (j := g) C dX9_worstOf_46 (K.2.1 22 (by decide)) (vp_in_nI (by omega) (by decide)) (nI_clamp (by omega)) (q := 47) rfl ?_
      refine aw_iload_n C dX9_worstOf_47 rfl rfl (q := 48) rfl ?_
      refine aw_icmp_ne (t := 93) (q := 51) C dX9_worstOf_48 (by decide) rfl (fun c_48 => ?_) (fun c_48 => ?_)
      ·
        refine aw_iconst (v := 0) C dX9_worstOf_93 (by decide) (q := 94) rfl ?_
        refine aw_istore (ls' := [.ref o, .int kind, .long far, .retAddr 0, .int ar, .int e, .long mst, .retAddr 0, .int (nI f), .long (mo_in s.2.1 kind far ar e f g), .retAddr 0, .int (nI g), .int 0]) C dX9_worstOf_94 (by decide) rfl (q := 96) rfl ?_
        refine aw_iload C dX9_worstOf_96 rfl (q := 98) rfl ?_
        refine aw_if_eq (t := 133) (q := 101) C dX9_worstOf_98 (by decide) rfl (fun c_98 => ?_) (fun c_98 => absurd c_98 (by decide))
        refine aw_lload C dX9_worstOf_133 rfl (q := 135) rfl ?_
        refine aw_lstore (ls' := [.ref o, .int kind, .long far, .retAddr 0, .int ar, .int e, .long mst, .retAddr 0, .int (nI f), .long (mo_in s.2.1 kind far ar e f g), .retAddr 0, .int (nI g), .int 0]) C dX9_worstOf_135 (by decide) rfl (q := 137) rfl ?_
        refine aw_iinc (v := nI (g + 1)) (ls' := [.ref o, .int kind, .long far, .retAddr 0, .int ar, .int e, .long mst, .retAddr 0, .int (nI f), .long (mo_in s.2.1 kind far ar e f g), .retAddr 0, .int (nI (g + 1)), .int 0]) C dX9_worstOf_137 rfl (nI_1 g) (by decide) rfl (q := 140) rfl ?_
        refine aw_goto (q := 21) C dX9_worstOf_140 (by decide) ?_
        have z := ih (g + 1) (.int 0) (by omega)
        rw [show mo_in s.2.1 kind far ar e f (g + 1) = mo_in s.2.1 kind far ar e f g from if_neg (fun z => c_48 z.2.1)] at z
        exact z
      ·
        refine aw_aload_n C dX9_worstOf_51 rfl rfl (q := 52) rfl ?_
        refine gfX9_47_9 (v := .ref (md 23)) C dX9_worstOf_52 K.1 rfl (q := 55) rfl ?_
        refine aw_iload C dX9_worstOf_55 rfl (q := 57) rfl ?_
        refine ay_iald (N := 10) (f := s.2.1 23) (j := g) C dX9_worstOf_57 (K.2.1 23 (by decide)) (vp_in_nI (by omega) (by decide)) (nI_clamp (by omega)) (q := 58) rfl ?_
        refine aw_aload_n C dX9_worstOf_58 rfl rfl (q := 59) rfl ?_
        refine gfX9_47_9 (v := .ref (md 23)) C dX9_worstOf_59 K.1 rfl (q := 62) rfl ?_
        refine aw_iload C dX9_worstOf_62 rfl (q := 64) rfl ?_
        refine ay_iald (N := 10) (f := s.2.1 23) (j := f) C dX9_worstOf_64 (K.2.1 23 (by decide)) (vp_in_nI (by omega) (by decide)) (nI_clamp (by omega)) (q := 65) rfl ?_
        refine aw_icmp_lt (t := 93) (q := 68) C dX9_worstOf_65 (by decide) rfl (fun c_65 => ?_) (fun c_65 => ?_)
        ·
          refine aw_iconst (v := 0) C dX9_worstOf_93 (by decide) (q := 94) rfl ?_
          refine aw_istore (ls' := [.ref o, .int kind, .long far, .retAddr 0, .int ar, .int e, .long mst, .retAddr 0, .int (nI f), .long (mo_in s.2.1 kind far ar e f g), .retAddr 0, .int (nI g), .int 0]) C dX9_worstOf_94 (by decide) rfl (q := 96) rfl ?_
          refine aw_iload C dX9_worstOf_96 rfl (q := 98) rfl ?_
          refine aw_if_eq (t := 133) (q := 101) C dX9_worstOf_98 (by decide) rfl (fun c_98 => ?_) (fun c_98 => absurd c_98 (by decide))
          refine aw_lload C dX9_worstOf_133 rfl (q := 135) rfl ?_
          refine aw_lstore (ls' := [.ref o, .int kind, .long far, .retAddr 0, .int ar, .int e, .long mst, .retAddr 0, .int (nI f), .long (mo_in s.2.1 kind far ar e f g), .retAddr 0, .int (nI g), .int 0]) C dX9_worstOf_135 (by decide) rfl (q := 137) rfl ?_
          refine aw_iinc (v := nI (g + 1)) (ls' := [.ref o, .int kind, .long far, .retAddr 0, .int ar, .int e, .long mst, .retAddr 0, .int (nI f), .long (mo_in s.2.1 kind far ar e f g), .retAddr 0, .int (nI (g + 1)), .int 0]) C dX9_worstOf_137 rfl (nI_1 g) (by decide) rfl (q := 140) rfl ?_
          refine aw_goto (q := 21) C dX9_worstOf_140 (by decide) ?_
          have z := ih (g + 1) (.int 0) (by omega)
          rw [show mo_in s.2.1 kind far ar e f (g + 1) = mo_in s.2.1 kind far ar e f g from if_neg (fun z => z.2.2.1 c_65)] at z
          exact z
        ·
          refine aw_aload_n C dX9_worstOf_68 rfl rfl (q := 69) rfl ?_
          refine gfX9_47_9 (v := .ref (md 23)) C dX9_worstOf_69 K.1 rfl (q := 72) rfl ?_
          refine aw_iload C dX9_worstOf_72 rfl (q := 74) rfl ?_
          refine ay_iald (N := 10) (f := s.2.1 23) (j := g) C dX9_worstOf_74 (K.2.1 23 (by decide)) (vp_in_nI (by omega) (by decide)) (nI_clamp (by omega)) (q := 75) rfl ?_
          refine aw_aload_n C dX9_worstOf_75 rfl rfl (q := 76) rfl ?_
          refine gfX9_47_9 (v := .ref (md 23)) C dX9_worstOf_76 K.1 rfl (q := 79) rfl ?_
          refine aw_iload C dX9_worstOf_79 rfl (q := 81) rfl ?_
          refine ay_iald (N := 10) (f := s.2.1 23) (j := f) C dX9_worstOf_81 (K.2.1 23 (by decide)) (vp_in_nI (by omega) (by decide)) (nI_clamp (by omega)) (q := 82) rfl ?_
          refine aw_isub C dX9_worstOf_82 (q := 83) rfl ?_
          refine aw_i2l C dX9_worstOf_83 (q := 84) rfl ?_
          refine aw_lload_n C dX9_worstOf_84 rfl rfl (q := 85) rfl ?_
          refine aw_lcmp C dX9_worstOf_85 (q := 86) rfl ?_
          refine aw_if_ge (t := 93) (q := 89) C dX9_worstOf_86 (by decide) rfl (fun c_86 => ?_) (fun c_86 => ?_)
          ·
            refine aw_iconst (v := 0) C dX9_worstOf_93 (by decide) (q := 94) rfl ?_
            refine aw_istore (ls' := [.ref o, .int kind, .long far, .retAddr 0, .int ar, .int e, .long mst, .retAddr 0, .int (nI f), .long (mo_in s.2.1 kind far ar e f g), .retAddr 0, .int (nI g), .int 0]) C dX9_worstOf_94 (by decide) rfl (q := 96) rfl ?_
            refine aw_iload C dX9_worstOf_96 rfl (q := 98) rfl ?_
            refine aw_if_eq (t := 133) (q := 101) C dX9_worstOf_98 (by decide) rfl (fun c_98 => ?_) (fun c_98 => absurd c_98 (by decide))
            refine aw_lload C dX9_worstOf_133 rfl (q := 135) rfl ?_
            refine aw_lstore (ls' := [.ref o, .int kind, .long far, .retAddr 0, .int ar, .int e, .long mst, .retAddr 0, .int (nI f), .long (mo_in s.2.1 kind far ar e f g), .retAddr 0, .int (nI g), .int 0]) C dX9_worstOf_135 (by decide) rfl (q := 137) rfl ?_
            refine aw_iinc (v := nI (g + 1)) (ls' := [.ref o, .int kind, .long far, .retAddr 0, .int ar, .int e, .long mst, .retAddr 0, .int (nI f), .long (mo_in s.2.1 kind far ar e f g), .retAddr 0, .int (nI (g + 1)), .int 0]) C dX9_worstOf_137 rfl (nI_1 g) (by decide) rfl (q := 140) rfl ?_
            refine aw_goto (q := 21) C dX9_worstOf_140 (by decide) ?_
            have z := ih (g + 1) (.int 0) (by omega)
            rw [show mo_in s.2.1 kind far ar e f (g + 1) = mo_in s.2.1 kind far ar e f g from if_neg (fun z => absurd z.2.2.2 (Int32.not_lt.mpr c_86))] at z
            exact z
          ·
            refine aw_iconst (v := 1) C dX9_worstOf_89 (by decide) (q := 90) rfl ?_
            refine aw_goto (q := 94) C dX9_worstOf_90 (by decide) ?_
            refine aw_istore (ls' := [.ref o, .int kind, .long far, .retAddr 0, .int ar, .int e, .long mst, .retAddr 0, .int (nI f), .long (mo_in s.2.1 kind far ar e f g), .retAddr 0, .int (nI g), .int 1]) C dX9_worstOf_94 (by decide) rfl (q := 96) rfl ?_
            refine aw_iload C dX9_worstOf_96 rfl (q := 98) rfl ?_
            refine aw_if_eq (t := 133) (q := 101) C dX9_worstOf_98 (by decide) rfl (fun c_98 => absurd c_98 (by decide)) (fun c_98 => ?_)
            refine aw_lload C dX9_worstOf_101 rfl (q := 103) rfl ?_
            refine aw_iload C dX9_worstOf_103 rfl (q := 105) rfl ?_
            refine aw_if_eq (t := 128) (q := 108) C dX9_worstOf_105 (by decide) rfl (fun c_105 => ?_) (fun c_105 => ?_)
            ·
              refine aw_lconst (v := 1) C dX9_worstOf_128 (by decide) (q := 129) rfl ?_
              refine aw_ladd C dX9_worstOf_129 (q := 130) rfl ?_
              refine aw_goto (q := 135) C dX9_worstOf_130 (by decide) ?_
              refine aw_lstore (ls' := [.ref o, .int kind, .long far, .retAddr 0, .int ar, .int e, .long mst, .retAddr 0, .int (nI f), .long ((mo_in s.2.1 kind far ar e f g) + 1), .retAddr 0, .int (nI g), .int 1]) C dX9_worstOf_135 (by decide) rfl (q := 137) rfl ?_
              refine aw_iinc (v := nI (g + 1)) (ls' := [.ref o, .int kind, .long far, .retAddr 0, .int ar, .int e, .long mst, .retAddr 0, .int (nI f), .long ((mo_in s.2.1 kind far ar e f g) + 1), .retAddr 0, .int (nI (g + 1)), .int 1]) C dX9_worstOf_137 rfl (nI_1 g) (by decide) rfl (q := 140) rfl ?_
              refine aw_goto (q := 21) C dX9_worstOf_140 (by decide) ?_
              have z := ih (g + 1) (.int 1) (by omega)
              rw [show mo_in s.2.1 kind far ar e f (g + 1) = mo_in s.2.1 kind far ar e f g + (if ar = 0 then 1 else (s.2.1 25 g).toInt64 * (s.2.1 26 g).toInt64) from if_pos ⟨pb_n c_37, c_48, c_65, Int32.not_le.mp c_86⟩, if_pos c_105] at z
              exact z
            ·
              refine aw_aload_n C dX9_worstOf_108 rfl rfl (q := 109) rfl ?_
              refine gfX9_53_9 (v := .ref (md 25)) C dX9_worstOf_109 K.1 rfl (q := 112) rfl ?_
              refine aw_iload C dX9_worstOf_112 rfl (q := 114) rfl ?_
              refine ay_iald (N := 10) (f := s.2.1 25) (j := g) C dX9_worstOf_114 (K.2.1 25 (by decide)) (vp_in_nI (by omega) (by decide)) (nI_clamp (by omega)) (q := 115) rfl ?_
              refine aw_i2l C dX9_worstOf_115 (q := 116) rfl ?_
              refine aw_aload_n C dX9_worstOf_116 rfl rfl (q := 117) rfl ?_
              refine gfX9_56_9 (v := .ref (md 26)) C dX9_worstOf_117 K.1 rfl (q := 120) rfl ?_
              refine aw_iload C dX9_worstOf_120 rfl (q := 122) rfl ?_
              refine ay_iald (N := 10) (f := s.2.1 26) (j := g) C dX9_worstOf_122 (K.2.1 26 (by decide)) (vp_in_nI (by omega) (by decide)) (nI_clamp (by omega)) (q := 123) rfl ?_
              refine aw_i2l C dX9_worstOf_123 (q := 124) rfl ?_
              refine aw_lmul C dX9_worstOf_124 (q := 125) rfl ?_
              refine aw_goto (q := 129) C dX9_worstOf_125 (by decide) ?_
              refine aw_ladd C dX9_worstOf_129 (q := 130) rfl ?_
              refine aw_goto (q := 135) C dX9_worstOf_130 (by decide) ?_
              refine aw_lstore (ls' := [.ref o, .int kind, .long far, .retAddr 0, .int ar, .int e, .long mst, .retAddr 0, .int (nI f), .long ((mo_in s.2.1 kind far ar e f g) + ((((s.2.1 25) g).toInt64) * (((s.2.1 26) g).toInt64))), .retAddr 0, .int (nI g), .int 1]) C dX9_worstOf_135 (by decide) rfl (q := 137) rfl ?_
              refine aw_iinc (v := nI (g + 1)) (ls' := [.ref o, .int kind, .long far, .retAddr 0, .int ar, .int e, .long mst, .retAddr 0, .int (nI f), .long ((mo_in s.2.1 kind far ar e f g) + ((((s.2.1 25) g).toInt64) * (((s.2.1 26) g).toInt64))), .retAddr 0, .int (nI (g + 1)), .int 1]) C dX9_worstOf_137 rfl (nI_1 g) (by decide) rfl (q := 140) rfl ?_
              refine aw_goto (q := 21) C dX9_worstOf_140 (by decide) ?_
              have z := ih (g + 1) (.int 1) (by omega)
              rw [show mo_in s.2.1 kind far ar e f (g + 1) = mo_in s.2.1 kind far ar e f g + (if ar = 0 then 1 else (s.2.1 25 g).toInt64 * (s.2.1 26 g).toInt64) from if_pos ⟨pb_n c_37, c_48, c_65, Int32.not_le.mp c_86⟩, if_neg c_105] at z
              exact z
set_option maxHeartbeats 4000000 in
set_option maxRecDepth 100000 in
theorem ml_most {G : ac_G} {M : ac_M} {o : Nat} {md : Nat → Nat} (hm : md_inj md) {h : ac_H} {d c : Nat} {s : md_S} {kind ar e : Int32} {far : Int64} (K : md_ok h o md s) (hc : s.1 20 = nI c) (hc10 : c ≤ 10) (C : ac_MC G RX9 cX9_worstOf 13 (some .long) M) (B : ac_Bd M (d + 1) 0 0) (E : ac_End G (pq h (some (.long (mo_worst s.2.1 kind far ar e c)))) 0 0 M) :
    ∀ (m f : Nat) (v9 v10 v11 v12 : Value), f + m = c → aw G 13 M 6 [.ref o, .int kind, .long far, .retAddr 0, .int ar, .int e, .long (mo_most s.2.1 kind far ar e c f), .retAddr 0, .int (nI f), v9, v10, v11, v12] [] h 0 0 := by
  intro m
  induction m with
  | zero =>
    intro f v9 v10 v11 v12 hf
    have hf2 : f = c := by omega
    subst hf2
    refine aw_iload C dX9_worstOf_6 rfl (q := 8) rfl ?_
    refine aw_aload_n C dX9_worstOf_8 rfl rfl (q := 9) rfl ?_
    refine gfX9_213_9 (v := .int (s.1 20)) C dX9_worstOf_9 K.1 rfl (q := 12) rfl ?_
    refine aw_icmp_ge (t := 166) (q := 15) C dX9_worstOf_12 (by decide) rfl (fun c_12 => ?_) (fun c_12 => absurd c_12 (fun z => z (by rw [hc]; exact nI_le (Nat.le_refl _) (by omega))))
    refine aw_lload_n C dX9_worstOf_166 rfl rfl (q := 167) rfl ?_
    refine aw_lconst (v := 1) C dX9_worstOf_167 (by decide) (q := 168) rfl ?_
    refine aw_lcmp C dX9_worstOf_168 (q := 169) rfl ?_
    refine aw_if_ge (t := 176) (q := 172) C dX9_worstOf_169 (by decide) rfl (fun c_169 => ?_) (fun c_169 => ?_)
    ·
      refine aw_lload C dX9_worstOf_176 rfl (q := 178) rfl ?_
      refine aw_lret C E dX9_worstOf_178 (Nat.le_refl _) (Nat.le_refl _) ?_
      exact ⟨rfl, by unfold mo_worst; rw [if_neg (Int32.not_lt.mpr c_169)]⟩
    ·
      refine aw_lconst (v := 0) C dX9_worstOf_172 (by decide) (q := 173) rfl ?_
      refine aw_goto (q := 178) C dX9_worstOf_173 (by decide) ?_
      refine aw_lret C E dX9_worstOf_178 (Nat.le_refl _) (Nat.le_refl _) ?_
      exact ⟨rfl, by unfold mo_worst; rw [if_pos (Int32.not_le.mp c_169)]⟩
  | succ m ih =>
    intro f v9 v10 v11 v12 hf
    refine aw_iload C dX9_worstOf_6 rfl (q := 8) rfl ?_
    refine aw_aload_n C dX9_worstOf_8 rfl rfl (q := 9) rfl ?_
    refine gfX9_213_9 (v := .int (s.1 20)) C dX9_worstOf_9 K.1 rfl (q := 12) rfl ?_
    refine aw_icmp_ge (t := 166) (q := 15) C dX9_worstOf_12 (by decide) rfl (fun c_12 => absurd c_12 (by rw [hc]; exact ni_nge f c rfl rfl (by omega) (by omega) (by omega))) (fun c_12 => ?_)
    refine aw_lconst (v := 0) C dX9_worstOf_15 (by decide) (q := 16) rfl ?_
    refine aw_lstore (ls' := [.ref o, .int kind, .long far, .retAddr 0, .int ar, .int e, .long (mo_most s.2.1 kind far ar e c f), .retAddr 0, .int (nI f), .long 0, .retAddr 0, v11, v12]) C dX9_worstOf_16 (by decide) rfl (q := 18) rfl ?_
    refine aw_iconst (v := 0) C dX9_worstOf_18 (by decide) (q := 19) rfl ?_
    refine aw_istore (ls' := [.ref o, .int kind, .long far, .retAddr 0, .int ar, .int e, .long (mo_most s.2.1 kind far ar e c f), .retAddr 0, .int (nI f), .long 0, .retAddr 0, .int 0, v12]) C dX9_worstOf_19 (by decide) rfl (q := 21) rfl ?_
    refine ml_in (mst := mo_most s.2.1 kind far ar e c f) hm K hc hc10 C B (by omega) (fun v12 => ?_) c 0 _ (by omega)
    refine aw_lload C dX9_worstOf_143 rfl (q := 145) rfl ?_
    refine aw_lload C dX9_worstOf_145 rfl (q := 147) rfl ?_
    refine aw_lcmp C dX9_worstOf_147 (q := 148) rfl ?_
    refine aw_if_le (t := 156) (q := 151) C dX9_worstOf_148 (by decide) rfl (fun c_148 => ?_) (fun c_148 => ?_)
    ·
      refine aw_lload C dX9_worstOf_156 rfl (q := 158) rfl ?_
      refine aw_lstore (ls' := [.ref o, .int kind, .long far, .retAddr 0, .int ar, .int e, .long (mo_most s.2.1 kind far ar e c f), .retAddr 0, .int (nI f), .long (mo_in s.2.1 kind far ar e f c), .retAddr 0, .int (nI c), v12]) C dX9_worstOf_158 (by decide) rfl (q := 160) rfl ?_
      refine aw_iinc (v := nI (f + 1)) (ls' := [.ref o, .int kind, .long far, .retAddr 0, .int ar, .int e, .long (mo_most s.2.1 kind far ar e c f), .retAddr 0, .int (nI (f + 1)), .long (mo_in s.2.1 kind far ar e f c), .retAddr 0, .int (nI c), v12]) C dX9_worstOf_160 rfl (nI_1 f) (by decide) rfl (q := 163) rfl ?_
      refine aw_goto (q := 6) C dX9_worstOf_163 (by decide) ?_
      have z := ih (f + 1) (.long (mo_in s.2.1 kind far ar e f c)) (.retAddr 0) (.int (nI c)) v12 (by omega)
      rw [show mo_most s.2.1 kind far ar e c (f + 1) = _ from if_neg (Int32.not_lt.mpr c_148)] at z
      exact z
    ·
      refine aw_lload C dX9_worstOf_151 rfl (q := 153) rfl ?_
      refine aw_goto (q := 158) C dX9_worstOf_153 (by decide) ?_
      refine aw_lstore (ls' := [.ref o, .int kind, .long far, .retAddr 0, .int ar, .int e, .long (mo_in s.2.1 kind far ar e f c), .retAddr 0, .int (nI f), .long (mo_in s.2.1 kind far ar e f c), .retAddr 0, .int (nI c), v12]) C dX9_worstOf_158 (by decide) rfl (q := 160) rfl ?_
      refine aw_iinc (v := nI (f + 1)) (ls' := [.ref o, .int kind, .long far, .retAddr 0, .int ar, .int e, .long (mo_in s.2.1 kind far ar e f c), .retAddr 0, .int (nI (f + 1)), .long (mo_in s.2.1 kind far ar e f c), .retAddr 0, .int (nI c), v12]) C dX9_worstOf_160 rfl (nI_1 f) (by decide) rfl (q := 163) rfl ?_
      refine aw_goto (q := 6) C dX9_worstOf_163 (by decide) ?_
      have z := ih (f + 1) (.long (mo_in s.2.1 kind far ar e f c)) (.retAddr 0) (.int (nI c)) v12 (by omega)
      rw [show mo_most s.2.1 kind far ar e c (f + 1) = _ from if_pos (Int32.not_le.mp c_148)] at z
      exact z
    
set_option maxHeartbeats 4000000 in
set_option maxRecDepth 100000 in
theorem m_worstOf (G : ac_G) (l : Launch) (o : Nat) (md : Nat → Nat) (hm : md_inj md) (h : ac_H) (d : Nat) (s : md_S) (K : md_ok h o md s) (c : Nat) (hc : s.1 20 = nI c) (hc10 : c ≤ 10) (kind : Int32) (far : Int64) (ar e : Int32) : ac_Met G l yX9_worstOf cX9_worstOf 13 (some .long) (d + 1) 0 0 [.ref o, .int kind, .long far, .int ar, .int e] h (pq h (some (.long (mo_worst s.2.1 kind far ar e c)))) := by
  refine ac_of (ls := [.ref o, .int kind, .long far, .retAddr 0, .int ar, .int e, .retAddr 0, .retAddr 0, .retAddr 0, .retAddr 0, .retAddr 0, .retAddr 0, .retAddr 0]) (by decide +kernel) rfl (Nat.le_of_ble_eq_true rfl) (fun M hl C B E hnm => ?_)
  refine aw_lconst (v := 0) C dX9_worstOf_0 (by decide) (q := 1) rfl ?_
  refine aw_lstore (ls' := [.ref o, .int kind, .long far, .retAddr 0, .int ar, .int e, .long 0, .retAddr 0, .retAddr 0, .retAddr 0, .retAddr 0, .retAddr 0, .retAddr 0]) C dX9_worstOf_1 (by decide) rfl (q := 3) rfl ?_
  refine aw_iconst (v := 0) C dX9_worstOf_3 (by decide) (q := 4) rfl ?_
  refine aw_istore (ls' := [.ref o, .int kind, .long far, .retAddr 0, .int ar, .int e, .long 0, .retAddr 0, .int 0, .retAddr 0, .retAddr 0, .retAddr 0, .retAddr 0]) C dX9_worstOf_4 (by decide) rfl (q := 6) rfl ?_
  exact ml_most hm K hc hc10 C B E c 0 _ _ _ _ (by omega)
