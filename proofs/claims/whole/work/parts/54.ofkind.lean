/-! The reference: ofKind, plain, before -/
theorem aw_st0 {G : ac_G} {nL : Nat} {M : ac_M} {pc : Nat} {ls st : List Value} {h : ac_H} {k n : Nat} {a b : Value} (e : a = b) (z : aw G nL M pc ls (b :: st) h k n) : aw G nL M pc ls (a :: st) h k n := by
  rw [e]; exact z
def mo_gr (F : Nat → Nat → Int32) (i : Nat) : Int32 := if F 25 i ≤ F 26 i then F 26 i else F 25 i
def mo_far (W : Int32) (F : Nat → Nat → Int32) (i : Nat) : Int64 := W.toInt64 - (F 24 i).toInt64 - (F 26 i).toInt64
def mo_near (W : Int32) (F : Nat → Nat → Int32) (i : Nat) : Int64 := if 0 ≤ lg_cmp (F 24 i).toInt64 (mo_far W F i) then mo_far W F i else (F 24 i).toInt64
def mo_edg (n x y : Int64) : Int64 := if lg_cmp n 0 = 0 then x else if 0 ≤ lg_cmp x y then y else x
def mo_siz (g z : Int64) : Int64 := if lg_cmp g z ≤ 0 then z else g
/-- number, areas, greatest size, least margin of a kind among the first faults -/
def mo_of (W : Int32) (F : Nat → Nat → Int32) (kind e : Int32) : Nat → Int64 × Int64 × Int64 × Int64
  | 0 => (0, 0, 0, W.toInt64)
  | i + 1 => if (e >>> (nI i &&& 31) &&& 1 = 1) ∧ F 22 i = kind then ((mo_of W F kind e i).1 + 1, (mo_of W F kind e i).2.1 + (F 25 i).toInt64 * (F 26 i).toInt64, mo_siz (mo_gr F i).toInt64 (mo_of W F kind e i).2.2.1, mo_edg (mo_of W F kind e i).1 (mo_near W F i) (mo_of W F kind e i).2.2.2) else mo_of W F kind e i
def mo_ofk (W : Int32) (F : Nat → Nat → Int32) (g kind e : Int32) (c : Nat) : Int64 := if g = 5 then (mo_of W F kind e c).1 else if g = 6 then (mo_of W F kind e c).2.1 else if g = 7 then (mo_of W F kind e c).2.2.1 else (mo_of W F kind e c).2.2.2
set_option maxHeartbeats 4000000 in
set_option maxRecDepth 100000 in
theorem ml_ofKind {G : ac_G} {M : ac_M} {o : Nat} {md : Nat → Nat} (hm : md_inj md) {h : ac_H} {d c : Nat} {s : md_S} {g kind e : Int32} (K : md_ok h o md s) (hc : s.1 20 = nI c) (hc10 : c ≤ 10) (C : ac_MC G RX9 cX9_ofKind 18 (some .long) M) (B : ac_Bd M (d + 1) 0 0) (E : ac_End G (pq h (some (.long (mo_ofk (s.1 18) s.2.1 g kind e c)))) 0 0 M) :
    ∀ (m i : Nat) (v13 v14 v15 v16 v17 : Value), i + m = c → aw G 18 M 19 [.ref o, .int g, .int kind, .int e, .long ((mo_of (s.1 18) s.2.1 kind e i).1), .retAddr 0, .long ((mo_of (s.1 18) s.2.1 kind e i).2.1), .retAddr 0, .long ((mo_of (s.1 18) s.2.1 kind e i).2.2.1), .retAddr 0, .long ((mo_of (s.1 18) s.2.1 kind e i).2.2.2), .retAddr 0, .int (nI i), v13, v14, v15, v16, v17] [] h 0 0 := by
  intro m
  induction m with
  | zero =>
    intro i v13 v14 v15 v16 v17 hi
    have hi2 : i = c := by omega
    subst hi2
    refine aw_iload C dX9_ofKind_19 rfl (q := 21) rfl ?_
    refine aw_aload_n C dX9_ofKind_21 rfl rfl (q := 22) rfl ?_
    refine gfX9_213_9 (v := .int (s.1 20)) C dX9_ofKind_22 K.1 rfl (q := 25) rfl ?_
    refine aw_icmp_ge (t := 215) (q := 28) C dX9_ofKind_25 (by decide) rfl (fun c_25 => ?_) (fun c_25 => absurd c_25 (fun z => z (by rw [hc]; exact nI_le (Nat.le_refl _) (by omega))))
    refine aw_iload_n C dX9_ofKind_215 rfl rfl (q := 216) rfl ?_
    refine aw_iconst (v := 5) C dX9_ofKind_216 (by decide) (q := 217) rfl ?_
    refine aw_icmp_ne (t := 225) (q := 220) C dX9_ofKind_217 (by decide) rfl (fun c_217 => ?_) (fun c_217 => ?_)
    ·
      refine aw_iload_n C dX9_ofKind_225 rfl rfl (q := 226) rfl ?_
      refine aw_bipush (v := 6) C dX9_ofKind_226 (by decide) (q := 228) rfl ?_
      refine aw_icmp_ne (t := 236) (q := 231) C dX9_ofKind_228 (by decide) rfl (fun c_228 => ?_) (fun c_228 => ?_)
      ·
        refine aw_iload_n C dX9_ofKind_236 rfl rfl (q := 237) rfl ?_
        refine aw_bipush (v := 7) C dX9_ofKind_237 (by decide) (q := 239) rfl ?_
        refine aw_icmp_ne (t := 247) (q := 242) C dX9_ofKind_239 (by decide) rfl (fun c_239 => ?_) (fun c_239 => ?_)
        ·
          refine aw_lload C dX9_ofKind_247 rfl (q := 249) rfl ?_
          refine aw_lret C E dX9_ofKind_249 (Nat.le_refl _) (Nat.le_refl _) ?_
          exact ⟨rfl, by unfold mo_ofk; rw [if_neg c_217, if_neg c_228, if_neg c_239]⟩
        ·
          refine aw_lload C dX9_ofKind_242 rfl (q := 244) rfl ?_
          refine aw_goto (q := 249) C dX9_ofKind_244 (by decide) ?_
          refine aw_lret C E dX9_ofKind_249 (Nat.le_refl _) (Nat.le_refl _) ?_
          exact ⟨rfl, by unfold mo_ofk; rw [if_neg c_217, if_neg c_228, if_pos c_239]⟩
      ·
        refine aw_lload C dX9_ofKind_231 rfl (q := 233) rfl ?_
        refine aw_goto (q := 249) C dX9_ofKind_233 (by decide) ?_
        refine aw_lret C E dX9_ofKind_249 (Nat.le_refl _) (Nat.le_refl _) ?_
        exact ⟨rfl, by unfold mo_ofk; rw [if_neg c_217, if_pos c_228]⟩
    ·
      refine aw_lload C dX9_ofKind_220 rfl (q := 222) rfl ?_
      refine aw_goto (q := 249) C dX9_ofKind_222 (by decide) ?_
      refine aw_lret C E dX9_ofKind_249 (Nat.le_refl _) (Nat.le_refl _) ?_
      exact ⟨rfl, by unfold mo_ofk; rw [if_pos c_217]⟩
  | succ m ih =>
    intro i v13 v14 v15 v16 v17 hi
    refine aw_iload C dX9_ofKind_19 rfl (q := 21) rfl ?_
    refine aw_aload_n C dX9_ofKind_21 rfl rfl (q := 22) rfl ?_
    refine gfX9_213_9 (v := .int (s.1 20)) C dX9_ofKind_22 K.1 rfl (q := 25) rfl ?_
    refine aw_icmp_ge (t := 215) (q := 28) C dX9_ofKind_25 (by decide) rfl (fun c_25 => absurd c_25 (by rw [hc]; exact ni_nge i c rfl rfl (by omega) (by omega) (by omega))) (fun c_25 => ?_)
    refine aw_iload_n C dX9_ofKind_28 rfl rfl (q := 29) rfl ?_
    refine aw_iload C dX9_ofKind_29 rfl (q := 31) rfl ?_
    refine csX9_220 (As := [.int e, .int (nI i)]) (rest := []) C B dX9_ofKind_31 (m_has G M.2.1 h d e (nI i)) rfl rfl (Nat.le_of_ble_eq_true rfl) (by omega) (by omega) (by omega) (q := 34) rfl (fun r9 h9 hr9 => ?_)
    obtain ⟨e9, er9⟩ := hr9
    subst er9; rw [e9]
    show aw G 18 M 34 [.ref o, .int g, .int kind, .int e, .long ((mo_of (s.1 18) s.2.1 kind e i).1), .retAddr 0, .long ((mo_of (s.1 18) s.2.1 kind e i).2.1), .retAddr 0, .long ((mo_of (s.1 18) s.2.1 kind e i).2.2.1), .retAddr 0, .long ((mo_of (s.1 18) s.2.1 kind e i).2.2.2), .retAddr 0, .int (nI i), v13, v14, v15, v16, v17] [.int (pb_b (e >>> ((nI i) &&& 31) &&& 1 = 1))] h 0 0
    refine aw_if_eq (t := 209) (q := 37) C dX9_ofKind_34 (by decide) rfl (fun c_34 => ?_) (fun c_34 => ?_)
    ·
      refine aw_iinc (v := nI (i + 1)) (ls' := [.ref o, .int g, .int kind, .int e, .long ((mo_of (s.1 18) s.2.1 kind e i).1), .retAddr 0, .long ((mo_of (s.1 18) s.2.1 kind e i).2.1), .retAddr 0, .long ((mo_of (s.1 18) s.2.1 kind e i).2.2.1), .retAddr 0, .long ((mo_of (s.1 18) s.2.1 kind e i).2.2.2), .retAddr 0, .int (nI (i + 1)), v13, v14, v15, v16, v17]) C dX9_ofKind_209 rfl (nI_1 i) (by decide) rfl (q := 212) rfl ?_
      refine aw_goto (q := 19) C dX9_ofKind_212 (by decide) ?_
      have z := ih (i + 1) v13 v14 v15 v16 v17 (by omega)
      rw [show mo_of (s.1 18) s.2.1 kind e (i + 1) = mo_of (s.1 18) s.2.1 kind e i from if_neg (fun z => pb_0.mp c_34 z.1)] at z
      exact z
    ·
      refine aw_aload_n C dX9_ofKind_37 rfl rfl (q := 38) rfl ?_
      refine gfX9_44_9 (v := .ref (md 22)) C dX9_ofKind_38 K.1 rfl (q := 41) rfl ?_
      refine aw_iload C dX9_ofKind_41 rfl (q := 43) rfl ?_
      refine ay_iald (N := 10) (f := s.2.1 22) (j := i) C dX9_ofKind_43 (K.2.1 22 (by decide)) (vp_in_nI (by omega) (by decide)) (nI_clamp (by omega)) (q := 44) rfl ?_
      refine aw_iload_n C dX9_ofKind_44 rfl rfl (q := 45) rfl ?_
      refine aw_icmp_ne (t := 209) (q := 48) C dX9_ofKind_45 (by decide) rfl (fun c_45 => ?_) (fun c_45 => ?_)
      ·
        refine aw_iinc (v := nI (i + 1)) (ls' := [.ref o, .int g, .int kind, .int e, .long ((mo_of (s.1 18) s.2.1 kind e i).1), .retAddr 0, .long ((mo_of (s.1 18) s.2.1 kind e i).2.1), .retAddr 0, .long ((mo_of (s.1 18) s.2.1 kind e i).2.2.1), .retAddr 0, .long ((mo_of (s.1 18) s.2.1 kind e i).2.2.2), .retAddr 0, .int (nI (i + 1)), v13, v14, v15, v16, v17]) C dX9_ofKind_209 rfl (nI_1 i) (by decide) rfl (q := 212) rfl ?_
        refine aw_goto (q := 19) C dX9_ofKind_212 (by decide) ?_
        have z := ih (i + 1) v13 v14 v15 v16 v17 (by omega)
        rw [show mo_of (s.1 18) s.2.1 kind e (i + 1) = mo_of (s.1 18) s.2.1 kind e i from if_neg (fun z => c_45 z.2)] at z
        exact z
      ·
        refine aw_aload_n C dX9_ofKind_48 rfl rfl (q := 49) rfl ?_
        refine gfX9_53_9 (v := .ref (md 25)) C dX9_ofKind_49 K.1 rfl (q := 52) rfl ?_
        refine aw_iload C dX9_ofKind_52 rfl (q := 54) rfl ?_
        refine ay_iald (N := 10) (f := s.2.1 25) (j := i) C dX9_ofKind_54 (K.2.1 25 (by decide)) (vp_in_nI (by omega) (by decide)) (nI_clamp (by omega)) (q := 55) rfl ?_
        refine aw_aload_n C dX9_ofKind_55 rfl rfl (q := 56) rfl ?_
        refine gfX9_56_9 (v := .ref (md 26)) C dX9_ofKind_56 K.1 rfl (q := 59) rfl ?_
        refine aw_iload C dX9_ofKind_59 rfl (q := 61) rfl ?_
        refine ay_iald (N := 10) (f := s.2.1 26) (j := i) C dX9_ofKind_61 (K.2.1 26 (by decide)) (vp_in_nI (by omega) (by decide)) (nI_clamp (by omega)) (q := 62) rfl ?_
        refine aw_icmp_le (t := 75) (q := 65) C dX9_ofKind_62 (by decide) rfl (fun c_62 => ?_) (fun c_62 => ?_)
        ·
          refine aw_aload_n C dX9_ofKind_75 rfl rfl (q := 76) rfl ?_
          refine gfX9_56_9 (v := .ref (md 26)) C dX9_ofKind_76 K.1 rfl (q := 79) rfl ?_
          refine aw_iload C dX9_ofKind_79 rfl (q := 81) rfl ?_
          refine ay_iald (N := 10) (f := s.2.1 26) (j := i) C dX9_ofKind_81 (K.2.1 26 (by decide)) (vp_in_nI (by omega) (by decide)) (nI_clamp (by omega)) (q := 82) rfl ?_
          refine aw_st0 (b := .int (mo_gr s.2.1 i)) (congrArg Value.int (show (s.2.1 26) i = mo_gr s.2.1 i from by unfold mo_gr; rw [if_pos c_62])) ?_
          refine aw_istore (ls' := [.ref o, .int g, .int kind, .int e, .long ((mo_of (s.1 18) s.2.1 kind e i).1), .retAddr 0, .long ((mo_of (s.1 18) s.2.1 kind e i).2.1), .retAddr 0, .long ((mo_of (s.1 18) s.2.1 kind e i).2.2.1), .retAddr 0, .long ((mo_of (s.1 18) s.2.1 kind e i).2.2.2), .retAddr 0, .int (nI i), .int (mo_gr s.2.1 i), v14, v15, v16, v17]) C dX9_ofKind_82 (by decide) rfl (q := 84) rfl ?_
          refine aw_aload_n C dX9_ofKind_84 rfl rfl (q := 85) rfl ?_
          refine gfX9_207_9 (v := .int (s.1 18)) C dX9_ofKind_85 K.1 rfl (q := 88) rfl ?_
          refine aw_i2l C dX9_ofKind_88 (q := 89) rfl ?_
          refine aw_aload_n C dX9_ofKind_89 rfl rfl (q := 90) rfl ?_
          refine gfX9_50_9 (v := .ref (md 24)) C dX9_ofKind_90 K.1 rfl (q := 93) rfl ?_
          refine aw_iload C dX9_ofKind_93 rfl (q := 95) rfl ?_
          refine ay_iald (N := 10) (f := s.2.1 24) (j := i) C dX9_ofKind_95 (K.2.1 24 (by decide)) (vp_in_nI (by omega) (by decide)) (nI_clamp (by omega)) (q := 96) rfl ?_
          refine aw_i2l C dX9_ofKind_96 (q := 97) rfl ?_
          refine aw_lsub C dX9_ofKind_97 (q := 98) rfl ?_
          refine aw_aload_n C dX9_ofKind_98 rfl rfl (q := 99) rfl ?_
          refine gfX9_56_9 (v := .ref (md 26)) C dX9_ofKind_99 K.1 rfl (q := 102) rfl ?_
          refine aw_iload C dX9_ofKind_102 rfl (q := 104) rfl ?_
          refine ay_iald (N := 10) (f := s.2.1 26) (j := i) C dX9_ofKind_104 (K.2.1 26 (by decide)) (vp_in_nI (by omega) (by decide)) (nI_clamp (by omega)) (q := 105) rfl ?_
          refine aw_i2l C dX9_ofKind_105 (q := 106) rfl ?_
          refine aw_lsub C dX9_ofKind_106 (q := 107) rfl ?_
          obtain ⟨far, e_far⟩ : ∃ z, z = mo_far (s.1 18) s.2.1 i := ⟨_, rfl⟩
          rw [show (((s.1 18).toInt64) - (((s.2.1 24) i).toInt64)) - (((s.2.1 26) i).toInt64) = far from e_far.symm]
          refine aw_lstore (ls' := [.ref o, .int g, .int kind, .int e, .long ((mo_of (s.1 18) s.2.1 kind e i).1), .retAddr 0, .long ((mo_of (s.1 18) s.2.1 kind e i).2.1), .retAddr 0, .long ((mo_of (s.1 18) s.2.1 kind e i).2.2.1), .retAddr 0, .long ((mo_of (s.1 18) s.2.1 kind e i).2.2.2), .retAddr 0, .int (nI i), .int (mo_gr s.2.1 i), .long far, .retAddr 0, v16, v17]) C dX9_ofKind_107 (by decide) rfl (q := 109) rfl ?_
          refine aw_aload_n C dX9_ofKind_109 rfl rfl (q := 110) rfl ?_
          refine gfX9_50_9 (v := .ref (md 24)) C dX9_ofKind_110 K.1 rfl (q := 113) rfl ?_
          refine aw_iload C dX9_ofKind_113 rfl (q := 115) rfl ?_
          refine ay_iald (N := 10) (f := s.2.1 24) (j := i) C dX9_ofKind_115 (K.2.1 24 (by decide)) (vp_in_nI (by omega) (by decide)) (nI_clamp (by omega)) (q := 116) rfl ?_
          refine aw_i2l C dX9_ofKind_116 (q := 117) rfl ?_
          refine aw_lload C dX9_ofKind_117 rfl (q := 119) rfl ?_
          refine aw_lcmp C dX9_ofKind_119 (q := 120) rfl ?_
          refine aw_if_ge (t := 134) (q := 123) C dX9_ofKind_120 (by decide) rfl (fun c_120 => ?_) (fun c_120 => ?_)
          ·
            refine aw_lload C dX9_ofKind_134 rfl (q := 136) rfl ?_
            refine aw_st0 (b := .long (mo_near (s.1 18) s.2.1 i)) (congrArg Value.long (show far = mo_near (s.1 18) s.2.1 i from by unfold mo_near; rw [← e_far, if_pos c_120])) ?_
            refine aw_lstore (ls' := [.ref o, .int g, .int kind, .int e, .long ((mo_of (s.1 18) s.2.1 kind e i).1), .retAddr 0, .long ((mo_of (s.1 18) s.2.1 kind e i).2.1), .retAddr 0, .long ((mo_of (s.1 18) s.2.1 kind e i).2.2.1), .retAddr 0, .long ((mo_of (s.1 18) s.2.1 kind e i).2.2.2), .retAddr 0, .int (nI i), .int (mo_gr s.2.1 i), .long far, .retAddr 0, .long (mo_near (s.1 18) s.2.1 i), .retAddr 0]) C dX9_ofKind_136 (by decide) rfl (q := 138) rfl ?_
            obtain ⟨near, e_near⟩ : ∃ z, z = mo_near (s.1 18) s.2.1 i := ⟨_, rfl⟩
            rw [← e_near]
            refine aw_lload C dX9_ofKind_138 rfl (q := 140) rfl ?_
            refine aw_lconst (v := 0) C dX9_ofKind_140 (by decide) (q := 141) rfl ?_
            refine aw_lcmp C dX9_ofKind_141 (q := 142) rfl ?_
            refine aw_if_eq (t := 153) (q := 145) C dX9_ofKind_142 (by decide) rfl (fun c_142 => ?_) (fun c_142 => ?_)
            ·
              refine aw_lload C dX9_ofKind_153 rfl (q := 155) rfl ?_
              refine aw_goto (q := 160) C dX9_ofKind_155 (by decide) ?_
              obtain ⟨edg, e_edg⟩ : ∃ z, z = mo_edg (mo_of (s.1 18) s.2.1 kind e i).1 near (mo_of (s.1 18) s.2.1 kind e i).2.2.2 := ⟨_, rfl⟩
              refine aw_st0 (b := .long edg) (by rw [e_edg]; unfold mo_edg; rw [if_pos c_142]) ?_
              refine aw_lstore (ls' := [.ref o, .int g, .int kind, .int e, .long ((mo_of (s.1 18) s.2.1 kind e i).1), .retAddr 0, .long ((mo_of (s.1 18) s.2.1 kind e i).2.1), .retAddr 0, .long ((mo_of (s.1 18) s.2.1 kind e i).2.2.1), .retAddr 0, .long edg, .retAddr 0, .int (nI i), .int (mo_gr s.2.1 i), .long far, .retAddr 0, .long near, .retAddr 0]) C dX9_ofKind_160 (by decide) rfl (q := 162) rfl ?_
              refine aw_lload C dX9_ofKind_162 rfl (q := 164) rfl ?_
              refine aw_lconst (v := 1) C dX9_ofKind_164 (by decide) (q := 165) rfl ?_
              refine aw_ladd C dX9_ofKind_165 (q := 166) rfl ?_
              refine aw_lstore (ls' := [.ref o, .int g, .int kind, .int e, .long (((mo_of (s.1 18) s.2.1 kind e i).1) + 1), .retAddr 0, .long ((mo_of (s.1 18) s.2.1 kind e i).2.1), .retAddr 0, .long ((mo_of (s.1 18) s.2.1 kind e i).2.2.1), .retAddr 0, .long edg, .retAddr 0, .int (nI i), .int (mo_gr s.2.1 i), .long far, .retAddr 0, .long near, .retAddr 0]) C dX9_ofKind_166 (by decide) rfl (q := 168) rfl ?_
              refine aw_lload C dX9_ofKind_168 rfl (q := 170) rfl ?_
              refine aw_aload_n C dX9_ofKind_170 rfl rfl (q := 171) rfl ?_
              refine gfX9_53_9 (v := .ref (md 25)) C dX9_ofKind_171 K.1 rfl (q := 174) rfl ?_
              refine aw_iload C dX9_ofKind_174 rfl (q := 176) rfl ?_
              refine ay_iald (N := 10) (f := s.2.1 25) (j := i) C dX9_ofKind_176 (K.2.1 25 (by decide)) (vp_in_nI (by omega) (by decide)) (nI_clamp (by omega)) (q := 177) rfl ?_
              refine aw_i2l C dX9_ofKind_177 (q := 178) rfl ?_
              refine aw_aload_n C dX9_ofKind_178 rfl rfl (q := 179) rfl ?_
              refine gfX9_56_9 (v := .ref (md 26)) C dX9_ofKind_179 K.1 rfl (q := 182) rfl ?_
              refine aw_iload C dX9_ofKind_182 rfl (q := 184) rfl ?_
              refine ay_iald (N := 10) (f := s.2.1 26) (j := i) C dX9_ofKind_184 (K.2.1 26 (by decide)) (vp_in_nI (by omega) (by decide)) (nI_clamp (by omega)) (q := 185) rfl ?_
              refine aw_i2l C dX9_ofKind_185 (q := 186) rfl ?_
              refine aw_lmul C dX9_ofKind_186 (q := 187) rfl ?_
              refine aw_ladd C dX9_ofKind_187 (q := 188) rfl ?_
              refine aw_lstore (ls' := [.ref o, .int g, .int kind, .int e, .long (((mo_of (s.1 18) s.2.1 kind e i).1) + 1), .retAddr 0, .long (((mo_of (s.1 18) s.2.1 kind e i).2.1) + ((((s.2.1 25) i).toInt64) * (((s.2.1 26) i).toInt64))), .retAddr 0, .long ((mo_of (s.1 18) s.2.1 kind e i).2.2.1), .retAddr 0, .long edg, .retAddr 0, .int (nI i), .int (mo_gr s.2.1 i), .long far, .retAddr 0, .long near, .retAddr 0]) C dX9_ofKind_188 (by decide) rfl (q := 190) rfl ?_
              refine aw_iload C dX9_ofKind_190 rfl (q := 192) rfl ?_
              refine aw_i2l C dX9_ofKind_192 (q := 193) rfl ?_
              refine aw_lload C dX9_ofKind_193 rfl (q := 195) rfl ?_
              refine aw_lcmp C dX9_ofKind_195 (q := 196) rfl ?_
              refine aw_if_le (t := 205) (q := 199) C dX9_ofKind_196 (by decide) rfl (fun c_196 => ?_) (fun c_196 => ?_)
              ·
                refine aw_lload C dX9_ofKind_205 rfl (q := 207) rfl ?_
                refine aw_st0 (b := .long (mo_siz (mo_gr s.2.1 i).toInt64 (mo_of (s.1 18) s.2.1 kind e i).2.2.1)) (by unfold mo_siz; rw [if_pos c_196]) ?_
                refine aw_lstore (ls' := [.ref o, .int g, .int kind, .int e, .long (((mo_of (s.1 18) s.2.1 kind e i).1) + 1), .retAddr 0, .long (((mo_of (s.1 18) s.2.1 kind e i).2.1) + ((((s.2.1 25) i).toInt64) * (((s.2.1 26) i).toInt64))), .retAddr 0, .long (mo_siz (mo_gr s.2.1 i).toInt64 (mo_of (s.1 18) s.2.1 kind e i).2.2.1), .retAddr 0, .long edg, .retAddr 0, .int (nI i), .int (mo_gr s.2.1 i), .long far, .retAddr 0, .long near, .retAddr 0]) C dX9_ofKind_207 (by decide) rfl (q := 209) rfl ?_
                refine aw_iinc (v := nI (i + 1)) (ls' := [.ref o, .int g, .int kind, .int e, .long (((mo_of (s.1 18) s.2.1 kind e i).1) + 1), .retAddr 0, .long (((mo_of (s.1 18) s.2.1 kind e i).2.1) + ((((s.2.1 25) i).toInt64) * (((s.2.1 26) i).toInt64))), .retAddr 0, .long (mo_siz (mo_gr s.2.1 i).toInt64 (mo_of (s.1 18) s.2.1 kind e i).2.2.1), .retAddr 0, .long edg, .retAddr 0, .int (nI (i + 1)), .int (mo_gr s.2.1 i), .long far, .retAddr 0, .long near, .retAddr 0]) C dX9_ofKind_209 rfl (nI_1 i) (by decide) rfl (q := 212) rfl ?_
                refine aw_goto (q := 19) C dX9_ofKind_212 (by decide) ?_
                subst e_edg e_near e_far
                have z := ih (i + 1) (.int (mo_gr s.2.1 i)) (.long (mo_far (s.1 18) s.2.1 i)) (.retAddr 0) (.long (mo_near (s.1 18) s.2.1 i)) (.retAddr 0) (by omega)
                rw [show mo_of (s.1 18) s.2.1 kind e (i + 1) = _ from if_pos ⟨pb_n c_34, c_45⟩] at z
                exact z
              ·
                refine aw_iload C dX9_ofKind_199 rfl (q := 201) rfl ?_
                refine aw_i2l C dX9_ofKind_201 (q := 202) rfl ?_
                refine aw_goto (q := 207) C dX9_ofKind_202 (by decide) ?_
                refine aw_st0 (b := .long (mo_siz (mo_gr s.2.1 i).toInt64 (mo_of (s.1 18) s.2.1 kind e i).2.2.1)) (by unfold mo_siz; rw [if_neg c_196]) ?_
                refine aw_lstore (ls' := [.ref o, .int g, .int kind, .int e, .long (((mo_of (s.1 18) s.2.1 kind e i).1) + 1), .retAddr 0, .long (((mo_of (s.1 18) s.2.1 kind e i).2.1) + ((((s.2.1 25) i).toInt64) * (((s.2.1 26) i).toInt64))), .retAddr 0, .long (mo_siz (mo_gr s.2.1 i).toInt64 (mo_of (s.1 18) s.2.1 kind e i).2.2.1), .retAddr 0, .long edg, .retAddr 0, .int (nI i), .int (mo_gr s.2.1 i), .long far, .retAddr 0, .long near, .retAddr 0]) C dX9_ofKind_207 (by decide) rfl (q := 209) rfl ?_
                refine aw_iinc (v := nI (i + 1)) (ls' := [.ref o, .int g, .int kind, .int e, .long (((mo_of (s.1 18) s.2.1 kind e i).1) + 1), .retAddr 0, .long (((mo_of (s.1 18) s.2.1 kind e i).2.1) + ((((s.2.1 25) i).toInt64) * (((s.2.1 26) i).toInt64))), .retAddr 0, .long (mo_siz (mo_gr s.2.1 i).toInt64 (mo_of (s.1 18) s.2.1 kind e i).2.2.1), .retAddr 0, .long edg, .retAddr 0, .int (nI (i + 1)), .int (mo_gr s.2.1 i), .long far, .retAddr 0, .long near, .retAddr 0]) C dX9_ofKind_209 rfl (nI_1 i) (by decide) rfl (q := 212) rfl ?_
                refine aw_goto (q := 19) C dX9_ofKind_212 (by decide) ?_
                subst e_edg e_near e_far
                have z := ih (i + 1) (.int (mo_gr s.2.1 i)) (.long (mo_far (s.1 18) s.2.1 i)) (.retAddr 0) (.long (mo_near (s.1 18) s.2.1 i)) (.retAddr 0) (by omega)
                rw [show mo_of (s.1 18) s.2.1 kind e (i + 1) = _ from if_pos ⟨pb_n c_34, c_45⟩] at z
                exact z
            ·
              refine aw_lload C dX9_ofKind_145 rfl (q := 147) rfl ?_
              refine aw_lload C dX9_ofKind_147 rfl (q := 149) rfl ?_
              refine aw_lcmp C dX9_ofKind_149 (q := 150) rfl ?_
              refine aw_if_ge (t := 158) (q := 153) C dX9_ofKind_150 (by decide) rfl (fun c_150 => ?_) (fun c_150 => ?_)
              ·
                refine aw_lload C dX9_ofKind_158 rfl (q := 160) rfl ?_
                obtain ⟨edg, e_edg⟩ : ∃ z, z = mo_edg (mo_of (s.1 18) s.2.1 kind e i).1 near (mo_of (s.1 18) s.2.1 kind e i).2.2.2 := ⟨_, rfl⟩
                refine aw_st0 (b := .long edg) (by rw [e_edg]; unfold mo_edg; rw [if_neg c_142, if_pos c_150]) ?_
                refine aw_lstore (ls' := [.ref o, .int g, .int kind, .int e, .long ((mo_of (s.1 18) s.2.1 kind e i).1), .retAddr 0, .long ((mo_of (s.1 18) s.2.1 kind e i).2.1), .retAddr 0, .long ((mo_of (s.1 18) s.2.1 kind e i).2.2.1), .retAddr 0, .long edg, .retAddr 0, .int (nI i), .int (mo_gr s.2.1 i), .long far, .retAddr 0, .long near, .retAddr 0]) C dX9_ofKind_160 (by decide) rfl (q := 162) rfl ?_
                refine aw_lload C dX9_ofKind_162 rfl (q := 164) rfl ?_
                refine aw_lconst (v := 1) C dX9_ofKind_164 (by decide) (q := 165) rfl ?_
                refine aw_ladd C dX9_ofKind_165 (q := 166) rfl ?_
                refine aw_lstore (ls' := [.ref o, .int g, .int kind, .int e, .long (((mo_of (s.1 18) s.2.1 kind e i).1) + 1), .retAddr 0, .long ((mo_of (s.1 18) s.2.1 kind e i).2.1), .retAddr 0, .long ((mo_of (s.1 18) s.2.1 kind e i).2.2.1), .retAddr 0, .long edg, .retAddr 0, .int (nI i), .int (mo_gr s.2.1 i), .long far, .retAddr 0, .long near, .retAddr 0]) C dX9_ofKind_166 (by decide) rfl (q := 168) rfl ?_
                refine aw_lload C dX9_ofKind_168 rfl (q := 170) rfl ?_
                refine aw_aload_n C dX9_ofKind_170 rfl rfl (q := 171) rfl ?_
                refine gfX9_53_9 (v := .ref (md 25)) C dX9_ofKind_171 K.1 rfl (q := 174) rfl ?_
                refine aw_iload C dX9_ofKind_174 rfl (q := 176) rfl ?_
                refine ay_iald (N := 10) (f := s.2.1 25) (j := i) C dX9_ofKind_176 (K.2.1 25 (by decide)) (vp_in_nI (by omega) (by decide)) (nI_clamp (by omega)) (q := 177) rfl ?_
                refine aw_i2l C dX9_ofKind_177 (q := 178) rfl ?_
                refine aw_aload_n C dX9_ofKind_178 rfl rfl (q := 179) rfl ?_
                refine gfX9_56_9 (v := .ref (md 26)) C dX9_ofKind_179 K.1 rfl (q := 182) rfl ?_
                refine aw_iload C dX9_ofKind_182 rfl (q := 184) rfl ?_
                refine ay_iald (N := 10) (f := s.2.1 26) (j := i) C dX9_ofKind_184 (K.2.1 26 (by decide)) (vp_in_nI (by omega) (by decide)) (nI_clamp (by omega)) (q := 185) rfl ?_
                refine aw_i2l C dX9_ofKind_185 (q := 186) rfl ?_
                refine aw_lmul C dX9_ofKind_186 (q := 187) rfl ?_
                refine aw_ladd C dX9_ofKind_187 (q := 188) rfl ?_
                refine aw_lstore (ls' := [.ref o, .int g, .int kind, .int e, .long (((mo_of (s.1 18) s.2.1 kind e i).1) + 1), .retAddr 0, .long (((mo_of (s.1 18) s.2.1 kind e i).2.1) + ((((s.2.1 25) i).toInt64) * (((s.2.1 26) i).toInt64))), .retAddr 0, .long ((mo_of (s.1 18) s.2.1 kind e i).2.2.1), .retAddr 0, .long edg, .retAddr 0, .int (nI i), .int (mo_gr s.2.1 i), .long far, .retAddr 0, .long near, .retAddr 0]) C dX9_ofKind_188 (by decide) rfl (q := 190) rfl ?_
                refine aw_iload C dX9_ofKind_190 rfl (q := 192) rfl ?_
                refine aw_i2l C dX9_ofKind_192 (q := 193) rfl ?_
                refine aw_lload C dX9_ofKind_193 rfl (q := 195) rfl ?_
                refine aw_lcmp C dX9_ofKind_195 (q := 196) rfl ?_
                refine aw_if_le (t := 205) (q := 199) C dX9_ofKind_196 (by decide) rfl (fun c_196 => ?_) (fun c_196 => ?_)
                ·
                  refine aw_lload C dX9_ofKind_205 rfl (q := 207) rfl ?_
                  refine aw_st0 (b := .long (mo_siz (mo_gr s.2.1 i).toInt64 (mo_of (s.1 18) s.2.1 kind e i).2.2.1)) (by unfold mo_siz; rw [if_pos c_196]) ?_
                  refine aw_lstore (ls' := [.ref o, .int g, .int kind, .int e, .long (((mo_of (s.1 18) s.2.1 kind e i).1) + 1), .retAddr 0, .long (((mo_of (s.1 18) s.2.1 kind e i).2.1) + ((((s.2.1 25) i).toInt64) * (((s.2.1 26) i).toInt64))), .retAddr 0, .long (mo_siz (mo_gr s.2.1 i).toInt64 (mo_of (s.1 18) s.2.1 kind e i).2.2.1), .retAddr 0, .long edg, .retAddr 0, .int (nI i), .int (mo_gr s.2.1 i), .long far, .retAddr 0, .long near, .retAddr 0]) C dX9_ofKind_207 (by decide) rfl (q := 209) rfl ?_
                  refine aw_iinc (v := nI (i + 1)) (ls' := [.ref o, .int g, .int kind, .int e, .long (((mo_of (s.1 18) s.2.1 kind e i).1) + 1), .retAddr 0, .long (((mo_of (s.1 18) s.2.1 kind e i).2.1) + ((((s.2.1 25) i).toInt64) * (((s.2.1 26) i).toInt64))), .retAddr 0, .long (mo_siz (mo_gr s.2.1 i).toInt64 (mo_of (s.1 18) s.2.1 kind e i).2.2.1), .retAddr 0, .long edg, .retAddr 0, .int (nI (i + 1)), .int (mo_gr s.2.1 i), .long far, .retAddr 0, .long near, .retAddr 0]) C dX9_ofKind_209 rfl (nI_1 i) (by decide) rfl (q := 212) rfl ?_
                  refine aw_goto (q := 19) C dX9_ofKind_212 (by decide) ?_
                  subst e_edg e_near e_far
                  have z := ih (i + 1) (.int (mo_gr s.2.1 i)) (.long (mo_far (s.1 18) s.2.1 i)) (.retAddr 0) (.long (mo_near (s.1 18) s.2.1 i)) (.retAddr 0) (by omega)
                  rw [show mo_of (s.1 18) s.2.1 kind e (i + 1) = _ from if_pos ⟨pb_n c_34, c_45⟩] at z
                  exact z
                ·
                  refine aw_iload C dX9_ofKind_199 rfl (q := 201) rfl ?_
                  refine aw_i2l C dX9_ofKind_201 (q := 202) rfl ?_
                  refine aw_goto (q := 207) C dX9_ofKind_202 (by decide) ?_
                  refine aw_st0 (b := .long (mo_siz (mo_gr s.2.1 i).toInt64 (mo_of (s.1 18) s.2.1 kind e i).2.2.1)) (by unfold mo_siz; rw [if_neg c_196]) ?_
                  refine aw_lstore (ls' := [.ref o, .int g, .int kind, .int e, .long (((mo_of (s.1 18) s.2.1 kind e i).1) + 1), .retAddr 0, .long (((mo_of (s.1 18) s.2.1 kind e i).2.1) + ((((s.2.1 25) i).toInt64) * (((s.2.1 26) i).toInt64))), .retAddr 0, .long (mo_siz (mo_gr s.2.1 i).toInt64 (mo_of (s.1 18) s.2.1 kind e i).2.2.1), .retAddr 0, .long edg, .retAddr 0, .int (nI i), .int (mo_gr s.2.1 i), .long far, .retAddr 0, .long near, .retAddr 0]) C dX9_ofKind_207 (by decide) rfl (q := 209) rfl ?_
                  refine aw_iinc (v := nI (i + 1)) (ls' := [.ref o, .int g, .int kind, .int e, .long (((mo_of (s.1 18) s.2.1 kind e i).1) + 1), .retAddr 0, .long (((mo_of (s.1 18) s.2.1 kind e i).2.1) + ((((s.2.1 25) i).toInt64) * (((s.2.1 26) i).toInt64))), .retAddr 0, .long (mo_siz (mo_gr s.2.1 i).toInt64 (mo_of (s.1 18) s.2.1 kind e i).2.2.1), .retAddr 0, .long edg, .retAddr 0, .int (nI (i + 1)), .int (mo_gr s.2.1 i), .long far, .retAddr 0, .long near, .retAddr 0]) C dX9_ofKind_209 rfl (nI_1 i) (by decide) rfl (q := 212) rfl ?_
                  refine aw_goto (q := 19) C dX9_ofKind_212 (by decide) ?_
                  subst e_edg e_near e_far
                  have z := ih (i + 1) (.int (mo_gr s.2.1 i)) (.long (mo_far (s.1 18) s.2.1 i)) (.retAddr 0) (.long (mo_near (s.1 18) s.2.1 i)) (.retAddr 0) (by omega)
                  rw [show mo_of (s.1 18) s.2.1 kind e (i + 1) = _ from if_pos ⟨pb_n c_34, c_45⟩] at z
                  exact z
              ·
                refine aw_lload C dX9_ofKind_153 rfl (q := 155) rfl ?_
                refine aw_goto (q := 160) C dX9_ofKind_155 (by decide) ?_
                obtain ⟨edg, e_edg⟩ : ∃ z, z = mo_edg (mo_of (s.1 18) s.2.1 kind e i).1 near (mo_of (s.1 18) s.2.1 kind e i).2.2.2 := ⟨_, rfl⟩
                refine aw_st0 (b := .long edg) (by rw [e_edg]; unfold mo_edg; rw [if_neg c_142, if_neg c_150]) ?_
                refine aw_lstore (ls' := [.ref o, .int g, .int kind, .int e, .long ((mo_of (s.1 18) s.2.1 kind e i).1), .retAddr 0, .long ((mo_of (s.1 18) s.2.1 kind e i).2.1), .retAddr 0, .long ((mo_of (s.1 18) s.2.1 kind e i).2.2.1), .retAddr 0, .long edg, .retAddr 0, .int (nI i), .int (mo_gr s.2.1 i), .long far, .retAddr 0, .long near, .retAddr 0]) C dX9_ofKind_160 (by decide) rfl (q := 162) rfl ?_
                refine aw_lload C dX9_ofKind_162 rfl (q := 164) rfl ?_
                refine aw_lconst (v := 1) C dX9_ofKind_164 (by decide) (q := 165) rfl ?_
                refine aw_ladd C dX9_ofKind_165 (q := 166) rfl ?_
                refine aw_lstore (ls' := [.ref o, .int g, .int kind, .int e, .long (((mo_of (s.1 18) s.2.1 kind e i).1) + 1), .retAddr 0, .long ((mo_of (s.1 18) s.2.1 kind e i).2.1), .retAddr 0, .long ((mo_of (s.1 18) s.2.1 kind e i).2.2.1), .retAddr 0, .long edg, .retAddr 0, .int (nI i), .int (mo_gr s.2.1 i), .long far, .retAddr 0, .long near, .retAddr 0]) C dX9_ofKind_166 (by decide) rfl (q := 168) rfl ?_
                refine aw_lload C dX9_ofKind_168 rfl (q := 170) rfl ?_
                refine aw_aload_n C dX9_ofKind_170 rfl rfl (q := 171) rfl ?_
                refine gfX9_53_9 (v := .ref (md 25)) C dX9_ofKind_171 K.1 rfl (q := 174) rfl ?_
                refine aw_iload C dX9_ofKind_174 rfl (q := 176) rfl ?_
                refine ay_iald (N := 10) (f := s.2.1 25) (j := i) C dX9_ofKind_176 (K.2.1 25 (by decide)) (vp_in_nI (by omega) (by decide)) (nI_clamp (by omega)) (q := 177) rfl ?_
                refine aw_i2l C dX9_ofKind_177 (q := 178) rfl ?_
                refine aw_aload_n C dX9_ofKind_178 rfl rfl (q := 179) rfl ?_
                refine gfX9_56_9 (v := .ref (md 26)) C dX9_ofKind_179 K.1 rfl (q := 182) rfl ?_
                refine aw_iload C dX9_ofKind_182 rfl (q := 184) rfl ?_
                refine ay_iald (N := 10) (f := s.2.1 26) (j := i) C dX9_ofKind_184 (K.2.1 26 (by decide)) (vp_in_nI (by omega) (by decide)) (nI_clamp (by omega)) (q := 185) rfl ?_
                refine aw_i2l C dX9_ofKind_185 (q := 186) rfl ?_
                refine aw_lmul C dX9_ofKind_186 (q := 187) rfl ?_
                refine aw_ladd C dX9_ofKind_187 (q := 188) rfl ?_
                refine aw_lstore (ls' := [.ref o, .int g, .int kind, .int e, .long (((mo_of (s.1 18) s.2.1 kind e i).1) + 1), .retAddr 0, .long (((mo_of (s.1 18) s.2.1 kind e i).2.1) + ((((s.2.1 25) i).toInt64) * (((s.2.1 26) i).toInt64))), .retAddr 0, .long ((mo_of (s.1 18) s.2.1 kind e i).2.2.1), .retAddr 0, .long edg, .retAddr 0, .int (nI i), .int (mo_gr s.2.1 i), .long far, .retAddr 0, .long near, .retAddr 0]) C dX9_ofKind_188 (by decide) rfl (q := 190) rfl ?_
                refine aw_iload C dX9_ofKind_190 rfl (q := 192) rfl ?_
                refine aw_i2l C dX9_ofKind_192 (q := 193) rfl ?_
                refine aw_lload C dX9_ofKind_193 rfl (q := 195) rfl ?_
                refine aw_lcmp C dX9_ofKind_195 (q := 196) rfl ?_
                refine aw_if_le (t := 205) (q := 199) C dX9_ofKind_196 (by decide) rfl (fun c_196 => ?_) (fun c_196 => ?_)
                ·
                  refine aw_lload C dX9_ofKind_205 rfl (q := 207) rfl ?_
                  refine aw_st0 (b := .long (mo_siz (mo_gr s.2.1 i).toInt64 (mo_of (s.1 18) s.2.1 kind e i).2.2.1)) (by unfold mo_siz; rw [if_pos c_196]) ?_
                  refine aw_lstore (ls' := [.ref o, .int g, .int kind, .int e, .long (((mo_of (s.1 18) s.2.1 kind e i).1) + 1), .retAddr 0, .long (((mo_of (s.1 18) s.2.1 kind e i).2.1) + ((((s.2.1 25) i).toInt64) * (((s.2.1 26) i).toInt64))), .retAddr 0, .long (mo_siz (mo_gr s.2.1 i).toInt64 (mo_of (s.1 18) s.2.1 kind e i).2.2.1), .retAddr 0, .long edg, .retAddr 0, .int (nI i), .int (mo_gr s.2.1 i), .long far, .retAddr 0, .long near, .retAddr 0]) C dX9_ofKind_207 (by decide) rfl (q := 209) rfl ?_
                  refine aw_iinc (v := nI (i + 1)) (ls' := [.ref o, .int g, .int kind, .int e, .long (((mo_of (s.1 18) s.2.1 kind e i).1) + 1), .retAddr 0, .long (((mo_of (s.1 18) s.2.1 kind e i).2.1) + ((((s.2.1 25) i).toInt64) * (((s.2.1 26) i).toInt64))), .retAddr 0, .long (mo_siz (mo_gr s.2.1 i).toInt64 (mo_of (s.1 18) s.2.1 kind e i).2.2.1), .retAddr 0, .long edg, .retAddr 0, .int (nI (i + 1)), .int (mo_gr s.2.1 i), .long far, .retAddr 0, .long near, .retAddr 0]) C dX9_ofKind_209 rfl (nI_1 i) (by decide) rfl (q := 212) rfl ?_
                  refine aw_goto (q := 19) C dX9_ofKind_212 (by decide) ?_
                  subst e_edg e_near e_far
                  have z := ih (i + 1) (.int (mo_gr s.2.1 i)) (.long (mo_far (s.1 18) s.2.1 i)) (.retAddr 0) (.long (mo_near (s.1 18) s.2.1 i)) (.retAddr 0) (by omega)
                  rw [show mo_of (s.1 18) s.2.1 kind e (i + 1) = _ from if_pos ⟨pb_n c_34, c_45⟩] at z
                  exact z
                ·
                  refine aw_iload C dX9_ofKind_199 rfl (q := 201) rfl ?_
                  refine aw_i2l C dX9_ofKind_201 (q := 202) rfl ?_
                  refine aw_goto (q := 207) C dX9_ofKind_202 (by decide) ?_
                  refine aw_st0 (b := .long (mo_siz (mo_gr s.2.1 i).toInt64 (mo_of (s.1 18) s.2.1 kind e i).2.2.1)) (by unfold mo_siz; rw [if_neg c_196]) ?_
                  refine aw_lstore (ls' := [.ref o, .int g, .int kind, .int e, .long (((mo_of (s.1 18) s.2.1 kind e i).1) + 1), .retAddr 0, .long (((mo_of (s.1 18) s.2.1 kind e i).2.1) + ((((s.2.1 25) i).toInt64) * (((s.2.1 26) i).toInt64))), .retAddr 0, .long (mo_siz (mo_gr s.2.1 i).toInt64 (mo_of (s.1 18) s.2.1 kind e i).2.2.1), .retAddr 0, .long edg, .retAddr 0, .int (nI i), .int (mo_gr s.2.1 i), .long far, .retAddr 0, .long near, .retAddr 0]) C dX9_ofKind_207 (by decide) rfl (q := 209) rfl ?_
                  refine aw_iinc (v := nI (i + 1)) (ls' := [.ref o, .int g, .int kind, .int e, .long (((mo_of (s.1 18) s.2.1 kind e i).1) + 1), .retAddr 0, .long (((mo_of (s.1 18) s.2.1 kind e i).2.1) + ((((s.2.1 25) i).toInt64) * (((s.2.1 26) i).toInt64))), .retAddr 0, .long (mo_siz (mo_gr s.2.1 i).toInt64 (mo_of (s.1 18) s.2.1 kind e i).2.2.1), .retAddr 0, .long edg, .retAddr 0, .int (nI (i + 1)), .int (mo_gr s.2.1 i), .long far, .retAddr 0, .long near, .retAddr 0]) C dX9_ofKind_209 rfl (nI_1 i) (by decide) rfl (q := 212) rfl ?_
                  refine aw_goto (q := 19) C dX9_ofKind_212 (by decide) ?_
                  subst e_edg e_near e_far
                  have z := ih (i + 1) (.int (mo_gr s.2.1 i)) (.long (mo_far (s.1 18) s.2.1 i)) (.retAddr 0) (.long (mo_near (s.1 18) s.2.1 i)) (.retAddr 0) (by omega)
                  rw [show mo_of (s.1 18) s.2.1 kind e (i + 1) = _ from if_pos ⟨pb_n c_34, c_45⟩] at z
                  exact z
          ·
            refine aw_aload_n C dX9_ofKind_123 rfl rfl (q := 124) rfl ?_
            refine gfX9_50_9 (v := .ref (md 24)) C dX9_ofKind_124 K.1 rfl (q := 127) rfl ?_
            refine aw_iload C dX9_ofKind_127 rfl (q := 129) rfl ?_
            refine ay_iald (N := 10) (f := s.2.1 24) (j := i) C dX9_ofKind_129 (K.2.1 24 (by decide)) (vp_in_nI (by omega) (by decide)) (nI_clamp (by omega)) (q := 130) rfl ?_
            refine aw_i2l C dX9_ofKind_130 (q := 131) rfl ?_
            refine aw_goto (q := 136) C dX9_ofKind_131 (by decide) ?_
            refine aw_st0 (b := .long (mo_near (s.1 18) s.2.1 i)) (congrArg Value.long (show ((s.2.1 24) i).toInt64 = mo_near (s.1 18) s.2.1 i from by unfold mo_near; rw [← e_far, if_neg c_120])) ?_
            refine aw_lstore (ls' := [.ref o, .int g, .int kind, .int e, .long ((mo_of (s.1 18) s.2.1 kind e i).1), .retAddr 0, .long ((mo_of (s.1 18) s.2.1 kind e i).2.1), .retAddr 0, .long ((mo_of (s.1 18) s.2.1 kind e i).2.2.1), .retAddr 0, .long ((mo_of (s.1 18) s.2.1 kind e i).2.2.2), .retAddr 0, .int (nI i), .int (mo_gr s.2.1 i), .long far, .retAddr 0, .long (mo_near (s.1 18) s.2.1 i), .retAddr 0]) C dX9_ofKind_136 (by decide) rfl (q := 138) rfl ?_
            obtain ⟨near, e_near⟩ : ∃ z, z = mo_near (s.1 18) s.2.1 i := ⟨_, rfl⟩
            rw [← e_near]
            refine aw_lload C dX9_ofKind_138 rfl (q := 140) rfl ?_
            refine aw_lconst (v := 0) C dX9_ofKind_140 (by decide) (q := 141) rfl ?_
            refine aw_lcmp C dX9_ofKind_141 (q := 142) rfl ?_
            refine aw_if_eq (t := 153) (q := 145) C dX9_ofKind_142 (by decide) rfl (fun c_142 => ?_) (fun c_142 => ?_)
            ·
              refine aw_lload C dX9_ofKind_153 rfl (q := 155) rfl ?_
              refine aw_goto (q := 160) C dX9_ofKind_155 (by decide) ?_
              obtain ⟨edg, e_edg⟩ : ∃ z, z = mo_edg (mo_of (s.1 18) s.2.1 kind e i).1 near (mo_of (s.1 18) s.2.1 kind e i).2.2.2 := ⟨_, rfl⟩
              refine aw_st0 (b := .long edg) (by rw [e_edg]; unfold mo_edg; rw [if_pos c_142]) ?_
              refine aw_lstore (ls' := [.ref o, .int g, .int kind, .int e, .long ((mo_of (s.1 18) s.2.1 kind e i).1), .retAddr 0, .long ((mo_of (s.1 18) s.2.1 kind e i).2.1), .retAddr 0, .long ((mo_of (s.1 18) s.2.1 kind e i).2.2.1), .retAddr 0, .long edg, .retAddr 0, .int (nI i), .int (mo_gr s.2.1 i), .long far, .retAddr 0, .long near, .retAddr 0]) C dX9_ofKind_160 (by decide) rfl (q := 162) rfl ?_
              refine aw_lload C dX9_ofKind_162 rfl (q := 164) rfl ?_
              refine aw_lconst (v := 1) C dX9_ofKind_164 (by decide) (q := 165) rfl ?_
              refine aw_ladd C dX9_ofKind_165 (q := 166) rfl ?_
              refine aw_lstore (ls' := [.ref o, .int g, .int kind, .int e, .long (((mo_of (s.1 18) s.2.1 kind e i).1) + 1), .retAddr 0, .long ((mo_of (s.1 18) s.2.1 kind e i).2.1), .retAddr 0, .long ((mo_of (s.1 18) s.2.1 kind e i).2.2.1), .retAddr 0, .long edg, .retAddr 0, .int (nI i), .int (mo_gr s.2.1 i), .long far, .retAddr 0, .long near, .retAddr 0]) C dX9_ofKind_166 (by decide) rfl (q := 168) rfl ?_
              refine aw_lload C dX9_ofKind_168 rfl (q := 170) rfl ?_
              refine aw_aload_n C dX9_ofKind_170 rfl rfl (q := 171) rfl ?_
              refine gfX9_53_9 (v := .ref (md 25)) C dX9_ofKind_171 K.1 rfl (q := 174) rfl ?_
              refine aw_iload C dX9_ofKind_174 rfl (q := 176) rfl ?_
              refine ay_iald (N := 10) (f := s.2.1 25) (j := i) C dX9_ofKind_176 (K.2.1 25 (by decide)) (vp_in_nI (by omega) (by decide)) (nI_clamp (by omega)) (q := 177) rfl ?_
              refine aw_i2l C dX9_ofKind_177 (q := 178) rfl ?_
              refine aw_aload_n C dX9_ofKind_178 rfl rfl (q := 179) rfl ?_
              refine gfX9_56_9 (v := .ref (md 26)) C dX9_ofKind_179 K.1 rfl (q := 182) rfl ?_
              refine aw_iload C dX9_ofKind_182 rfl (q := 184) rfl ?_
              refine ay_iald (N := 10) (f := s.2.1 26) (j := i) C dX9_ofKind_184 (K.2.1 26 (by decide)) (vp_in_nI (by omega) (by decide)) (nI_clamp (by omega)) (q := 185) rfl ?_
              refine aw_i2l C dX9_ofKind_185 (q := 186) rfl ?_
              refine aw_lmul C dX9_ofKind_186 (q := 187) rfl ?_
              refine aw_ladd C dX9_ofKind_187 (q := 188) rfl ?_
              refine aw_lstore (ls' := [.ref o, .int g, .int kind, .int e, .long (((mo_of (s.1 18) s.2.1 kind e i).1) + 1), .retAddr 0, .long (((mo_of (s.1 18) s.2.1 kind e i).2.1) + ((((s.2.1 25) i).toInt64) * (((s.2.1 26) i).toInt64))), .retAddr 0, .long ((mo_of (s.1 18) s.2.1 kind e i).2.2.1), .retAddr 0, .long edg, .retAddr 0, .int (nI i), .int (mo_gr s.2.1 i), .long far, .retAddr 0, .long near, .retAddr 0]) C dX9_ofKind_188 (by decide) rfl (q := 190) rfl ?_
              refine aw_iload C dX9_ofKind_190 rfl (q := 192) rfl ?_
              refine aw_i2l C dX9_ofKind_192 (q := 193) rfl ?_
              refine aw_lload C dX9_ofKind_193 rfl (q := 195) rfl ?_
              refine aw_lcmp C dX9_ofKind_195 (q := 196) rfl ?_
              refine aw_if_le (t := 205) (q := 199) C dX9_ofKind_196 (by decide) rfl (fun c_196 => ?_) (fun c_196 => ?_)
              ·
                refine aw_lload C dX9_ofKind_205 rfl (q := 207) rfl ?_
                refine aw_st0 (b := .long (mo_siz (mo_gr s.2.1 i).toInt64 (mo_of (s.1 18) s.2.1 kind e i).2.2.1)) (by unfold mo_siz; rw [if_pos c_196]) ?_
                refine aw_lstore (ls' := [.ref o, .int g, .int kind, .int e, .long (((mo_of (s.1 18) s.2.1 kind e i).1) + 1), .retAddr 0, .long (((mo_of (s.1 18) s.2.1 kind e i).2.1) + ((((s.2.1 25) i).toInt64) * (((s.2.1 26) i).toInt64))), .retAddr 0, .long (mo_siz (mo_gr s.2.1 i).toInt64 (mo_of (s.1 18) s.2.1 kind e i).2.2.1), .retAddr 0, .long edg, .retAddr 0, .int (nI i), .int (mo_gr s.2.1 i), .long far, .retAddr 0, .long near, .retAddr 0]) C dX9_ofKind_207 (by decide) rfl (q := 209) rfl ?_
                refine aw_iinc (v := nI (i + 1)) (ls' := [.ref o, .int g, .int kind, .int e, .long (((mo_of (s.1 18) s.2.1 kind e i).1) + 1), .retAddr 0, .long (((mo_of (s.1 18) s.2.1 kind e i).2.1) + ((((s.2.1 25) i).toInt64) * (((s.2.1 26) i).toInt64))), .retAddr 0, .long (mo_siz (mo_gr s.2.1 i).toInt64 (mo_of (s.1 18) s.2.1 kind e i).2.2.1), .retAddr 0, .long edg, .retAddr 0, .int (nI (i + 1)), .int (mo_gr s.2.1 i), .long far, .retAddr 0, .long near, .retAddr 0]) C dX9_ofKind_209 rfl (nI_1 i) (by decide) rfl (q := 212) rfl ?_
                refine aw_goto (q := 19) C dX9_ofKind_212 (by decide) ?_
                subst e_edg e_near e_far
                have z := ih (i + 1) (.int (mo_gr s.2.1 i)) (.long (mo_far (s.1 18) s.2.1 i)) (.retAddr 0) (.long (mo_near (s.1 18) s.2.1 i)) (.retAddr 0) (by omega)
                rw [show mo_of (s.1 18) s.2.1 kind e (i + 1) = _ from if_pos ⟨pb_n c_34, c_45⟩] at z
                exact z
              ·
                refine aw_iload C dX9_ofKind_199 rfl (q := 201) rfl ?_
                refine aw_i2l C dX9_ofKind_201 (q := 202) rfl ?_
                refine aw_goto (q := 207) C dX9_ofKind_202 (by decide) ?_
                refine aw_st0 (b := .long (mo_siz (mo_gr s.2.1 i).toInt64 (mo_of (s.1 18) s.2.1 kind e i).2.2.1)) (by unfold mo_siz; rw [if_neg c_196]) ?_
                refine aw_lstore (ls' := [.ref o, .int g, .int kind, .int e, .long (((mo_of (s.1 18) s.2.1 kind e i).1) + 1), .retAddr 0, .long (((mo_of (s.1 18) s.2.1 kind e i).2.1) + ((((s.2.1 25) i).toInt64) * (((s.2.1 26) i).toInt64))), .retAddr 0, .long (mo_siz (mo_gr s.2.1 i).toInt64 (mo_of (s.1 18) s.2.1 kind e i).2.2.1), .retAddr 0, .long edg, .retAddr 0, .int (nI i), .int (mo_gr s.2.1 i), .long far, .retAddr 0, .long near, .retAddr 0]) C dX9_ofKind_207 (by decide) rfl (q := 209) rfl ?_
                refine aw_iinc (v := nI (i + 1)) (ls' := [.ref o, .int g, .int kind, .int e, .long (((mo_of (s.1 18) s.2.1 kind e i).1) + 1), .retAddr 0, .long (((mo_of (s.1 18) s.2.1 kind e i).2.1) + ((((s.2.1 25) i).toInt64) * (((s.2.1 26) i).toInt64))), .retAddr 0, .long (mo_siz (mo_gr s.2.1 i).toInt64 (mo_of (s.1 18) s.2.1 kind e i).2.2.1), .retAddr 0, .long edg, .retAddr 0, .int (nI (i + 1)), .int (mo_gr s.2.1 i), .long far, .retAddr 0, .long near, .retAddr 0]) C dX9_ofKind_209 rfl (nI_1 i) (by decide) rfl (q := 212) rfl ?_
                refine aw_goto (q := 19) C dX9_ofKind_212 (by decide) ?_
                subst e_edg e_near e_far
                have z := ih (i + 1) (.int (mo_gr s.2.1 i)) (.long (mo_far (s.1 18) s.2.1 i)) (.retAddr 0) (.long (mo_near (s.1 18) s.2.1 i)) (.retAddr 0) (by omega)
                rw [show mo_of (s.1 18) s.2.1 kind e (i + 1) = _ from if_pos ⟨pb_n c_34, c_45⟩] at z
                exact z
            ·
              refine aw_lload C dX9_ofKind_145 rfl (q := 147) rfl ?_
              refine aw_lload C dX9_ofKind_147 rfl (q := 149) rfl ?_
              refine aw_lcmp C dX9_ofKind_149 (q := 150) rfl ?_
              refine aw_if_ge (t := 158) (q := 153) C dX9_ofKind_150 (by decide) rfl (fun c_150 => ?_) (fun c_150 => ?_)
              ·
                refine aw_lload C dX9_ofKind_158 rfl (q := 160) rfl ?_
                obtain ⟨edg, e_edg⟩ : ∃ z, z = mo_edg (mo_of (s.1 18) s.2.1 kind e i).1 near (mo_of (s.1 18) s.2.1 kind e i).2.2.2 := ⟨_, rfl⟩
                refine aw_st0 (b := .long edg) (by rw [e_edg]; unfold mo_edg; rw [if_neg c_142, if_pos c_150]) ?_
                refine aw_lstore (ls' := [.ref o, .int g, .int kind, .int e, .long ((mo_of (s.1 18) s.2.1 kind e i).1), .retAddr 0, .long ((mo_of (s.1 18) s.2.1 kind e i).2.1), .retAddr 0, .long ((mo_of (s.1 18) s.2.1 kind e i).2.2.1), .retAddr 0, .long edg, .retAddr 0, .int (nI i), .int (mo_gr s.2.1 i), .long far, .retAddr 0, .long near, .retAddr 0]) C dX9_ofKind_160 (by decide) rfl (q := 162) rfl ?_
                refine aw_lload C dX9_ofKind_162 rfl (q := 164) rfl ?_
                refine aw_lconst (v := 1) C dX9_ofKind_164 (by decide) (q := 165) rfl ?_
                refine aw_ladd C dX9_ofKind_165 (q := 166) rfl ?_
                refine aw_lstore (ls' := [.ref o, .int g, .int kind, .int e, .long (((mo_of (s.1 18) s.2.1 kind e i).1) + 1), .retAddr 0, .long ((mo_of (s.1 18) s.2.1 kind e i).2.1), .retAddr 0, .long ((mo_of (s.1 18) s.2.1 kind e i).2.2.1), .retAddr 0, .long edg, .retAddr 0, .int (nI i), .int (mo_gr s.2.1 i), .long far, .retAddr 0, .long near, .retAddr 0]) C dX9_ofKind_166 (by decide) rfl (q := 168) rfl ?_
                refine aw_lload C dX9_ofKind_168 rfl (q := 170) rfl ?_
                refine aw_aload_n C dX9_ofKind_170 rfl rfl (q := 171) rfl ?_
                refine gfX9_53_9 (v := .ref (md 25)) C dX9_ofKind_171 K.1 rfl (q := 174) rfl ?_
                refine aw_iload C dX9_ofKind_174 rfl (q := 176) rfl ?_
                refine ay_iald (N := 10) (f := s.2.1 25) (j := i) C dX9_ofKind_176 (K.2.1 25 (by decide)) (vp_in_nI (by omega) (by decide)) (nI_clamp (by omega)) (q := 177) rfl ?_
                refine aw_i2l C dX9_ofKind_177 (q := 178) rfl ?_
                refine aw_aload_n C dX9_ofKind_178 rfl rfl (q := 179) rfl ?_
                refine gfX9_56_9 (v := .ref (md 26)) C dX9_ofKind_179 K.1 rfl (q := 182) rfl ?_
                refine aw_iload C dX9_ofKind_182 rfl (q := 184) rfl ?_
                refine ay_iald (N := 10) (f := s.2.1 26) (j := i) C dX9_ofKind_184 (K.2.1 26 (by decide)) (vp_in_nI (by omega) (by decide)) (nI_clamp (by omega)) (q := 185) rfl ?_
                refine aw_i2l C dX9_ofKind_185 (q := 186) rfl ?_
                refine aw_lmul C dX9_ofKind_186 (q := 187) rfl ?_
                refine aw_ladd C dX9_ofKind_187 (q := 188) rfl ?_
                refine aw_lstore (ls' := [.ref o, .int g, .int kind, .int e, .long (((mo_of (s.1 18) s.2.1 kind e i).1) + 1), .retAddr 0, .long (((mo_of (s.1 18) s.2.1 kind e i).2.1) + ((((s.2.1 25) i).toInt64) * (((s.2.1 26) i).toInt64))), .retAddr 0, .long ((mo_of (s.1 18) s.2.1 kind e i).2.2.1), .retAddr 0, .long edg, .retAddr 0, .int (nI i), .int (mo_gr s.2.1 i), .long far, .retAddr 0, .long near, .retAddr 0]) C dX9_ofKind_188 (by decide) rfl (q := 190) rfl ?_
                refine aw_iload C dX9_ofKind_190 rfl (q := 192) rfl ?_
                refine aw_i2l C dX9_ofKind_192 (q := 193) rfl ?_
                refine aw_lload C dX9_ofKind_193 rfl (q := 195) rfl ?_
                refine aw_lcmp C dX9_ofKind_195 (q := 196) rfl ?_
                refine aw_if_le (t := 205) (q := 199) C dX9_ofKind_196 (by decide) rfl (fun c_196 => ?_) (fun c_196 => ?_)
                ·
                  refine aw_lload C dX9_ofKind_205 rfl (q := 207) rfl ?_
                  refine aw_st0 (b := .long (mo_siz (mo_gr s.2.1 i).toInt64 (mo_of (s.1 18) s.2.1 kind e i).2.2.1)) (by unfold mo_siz; rw [if_pos c_196]) ?_
                  refine aw_lstore (ls' := [.ref o, .int g, .int kind, .int e, .long (((mo_of (s.1 18) s.2.1 kind e i).1) + 1), .retAddr 0, .long (((mo_of (s.1 18) s.2.1 kind e i).2.1) + ((((s.2.1 25) i).toInt64) * (((s.2.1 26) i).toInt64))), .retAddr 0, .long (mo_siz (mo_gr s.2.1 i).toInt64 (mo_of (s.1 18) s.2.1 kind e i).2.2.1), .retAddr 0, .long edg, .retAddr 0, .int (nI i), .int (mo_gr s.2.1 i), .long far, .retAddr 0, .long near, .retAddr 0]) C dX9_ofKind_207 (by decide) rfl (q := 209) rfl ?_
                  refine aw_iinc (v := nI (i + 1)) (ls' := [.ref o, .int g, .int kind, .int e, .long (((mo_of (s.1 18) s.2.1 kind e i).1) + 1), .retAddr 0, .long (((mo_of (s.1 18) s.2.1 kind e i).2.1) + ((((s.2.1 25) i).toInt64) * (((s.2.1 26) i).toInt64))), .retAddr 0, .long (mo_siz (mo_gr s.2.1 i).toInt64 (mo_of (s.1 18) s.2.1 kind e i).2.2.1), .retAddr 0, .long edg, .retAddr 0, .int (nI (i + 1)), .int (mo_gr s.2.1 i), .long far, .retAddr 0, .long near, .retAddr 0]) C dX9_ofKind_209 rfl (nI_1 i) (by decide) rfl (q := 212) rfl ?_
                  refine aw_goto (q := 19) C dX9_ofKind_212 (by decide) ?_
                  subst e_edg e_near e_far
                  have z := ih (i + 1) (.int (mo_gr s.2.1 i)) (.long (mo_far (s.1 18) s.2.1 i)) (.retAddr 0) (.long (mo_near (s.1 18) s.2.1 i)) (.retAddr 0) (by omega)
                  rw [show mo_of (s.1 18) s.2.1 kind e (i + 1) = _ from if_pos ⟨pb_n c_34, c_45⟩] at z
                  exact z
                ·
                  refine aw_iload C dX9_ofKind_199 rfl (q := 201) rfl ?_
                  refine aw_i2l C dX9_ofKind_201 (q := 202) rfl ?_
                  refine aw_goto (q := 207) C dX9_ofKind_202 (by decide) ?_
                  refine aw_st0 (b := .long (mo_siz (mo_gr s.2.1 i).toInt64 (mo_of (s.1 18) s.2.1 kind e i).2.2.1)) (by unfold mo_siz; rw [if_neg c_196]) ?_
                  refine aw_lstore (ls' := [.ref o, .int g, .int kind, .int e, .long (((mo_of (s.1 18) s.2.1 kind e i).1) + 1), .retAddr 0, .long (((mo_of (s.1 18) s.2.1 kind e i).2.1) + ((((s.2.1 25) i).toInt64) * (((s.2.1 26) i).toInt64))), .retAddr 0, .long (mo_siz (mo_gr s.2.1 i).toInt64 (mo_of (s.1 18) s.2.1 kind e i).2.2.1), .retAddr 0, .long edg, .retAddr 0, .int (nI i), .int (mo_gr s.2.1 i), .long far, .retAddr 0, .long near, .retAddr 0]) C dX9_ofKind_207 (by decide) rfl (q := 209) rfl ?_
                  refine aw_iinc (v := nI (i + 1)) (ls' := [.ref o, .int g, .int kind, .int e, .long (((mo_of (s.1 18) s.2.1 kind e i).1) + 1), .retAddr 0, .long (((mo_of (s.1 18) s.2.1 kind e i).2.1) + ((((s.2.1 25) i).toInt64) * (((s.2.1 26) i).toInt64))), .retAddr 0, .long (mo_siz (mo_gr s.2.1 i).toInt64 (mo_of (s.1 18) s.2.1 kind e i).2.2.1), .retAddr 0, .long edg, .retAddr 0, .int (nI (i + 1)), .int (mo_gr s.2.1 i), .long far, .retAddr 0, .long near, .retAddr 0]) C dX9_ofKind_209 rfl (nI_1 i) (by decide) rfl (q := 212) rfl ?_
                  refine aw_goto (q := 19) C dX9_ofKind_212 (by decide) ?_
                  subst e_edg e_near e_far
                  have z := ih (i + 1) (.int (mo_gr s.2.1 i)) (.long (mo_far (s.1 18) s.2.1 i)) (.retAddr 0) (.long (mo_near (s.1 18) s.2.1 i)) (.retAddr 0) (by omega)
                  rw [show mo_of (s.1 18) s.2.1 kind e (i + 1) = _ from if_pos ⟨pb_n c_34, c_45⟩] at z
                  exact z
              ·
                refine aw_lload C dX9_ofKind_153 rfl (q := 155) rfl ?_
                refine aw_goto (q := 160) C dX9_ofKind_155 (by decide) ?_
                obtain ⟨edg, e_edg⟩ : ∃ z, z = mo_edg (mo_of (s.1 18) s.2.1 kind e i).1 near (mo_of (s.1 18) s.2.1 kind e i).2.2.2 := ⟨_, rfl⟩
                refine aw_st0 (b := .long edg) (by rw [e_edg]; unfold mo_edg; rw [if_neg c_142, if_neg c_150]) ?_
                refine aw_lstore (ls' := [.ref o, .int g, .int kind, .int e, .long ((mo_of (s.1 18) s.2.1 kind e i).1), .retAddr 0, .long ((mo_of (s.1 18) s.2.1 kind e i).2.1), .retAddr 0, .long ((mo_of (s.1 18) s.2.1 kind e i).2.2.1), .retAddr 0, .long edg, .retAddr 0, .int (nI i), .int (mo_gr s.2.1 i), .long far, .retAddr 0, .long near, .retAddr 0]) C dX9_ofKind_160 (by decide) rfl (q := 162) rfl ?_
                refine aw_lload C dX9_ofKind_162 rfl (q := 164) rfl ?_
                refine aw_lconst (v := 1) C dX9_ofKind_164 (by decide) (q := 165) rfl ?_
                refine aw_ladd C dX9_ofKind_165 (q := 166) rfl ?_
                refine aw_lstore (ls' := [.ref o, .int g, .int kind, .int e, .long (((mo_of (s.1 18) s.2.1 kind e i).1) + 1), .retAddr 0, .long ((mo_of (s.1 18) s.2.1 kind e i).2.1), .retAddr 0, .long ((mo_of (s.1 18) s.2.1 kind e i).2.2.1), .retAddr 0, .long edg, .retAddr 0, .int (nI i), .int (mo_gr s.2.1 i), .long far, .retAddr 0, .long near, .retAddr 0]) C dX9_ofKind_166 (by decide) rfl (q := 168) rfl ?_
                refine aw_lload C dX9_ofKind_168 rfl (q := 170) rfl ?_
                refine aw_aload_n C dX9_ofKind_170 rfl rfl (q := 171) rfl ?_
                refine gfX9_53_9 (v := .ref (md 25)) C dX9_ofKind_171 K.1 rfl (q := 174) rfl ?_
                refine aw_iload C dX9_ofKind_174 rfl (q := 176) rfl ?_
                refine ay_iald (N := 10) (f := s.2.1 25) (j := i) C dX9_ofKind_176 (K.2.1 25 (by decide)) (vp_in_nI (by omega) (by decide)) (nI_clamp (by omega)) (q := 177) rfl ?_
                refine aw_i2l C dX9_ofKind_177 (q := 178) rfl ?_
                refine aw_aload_n C dX9_ofKind_178 rfl rfl (q := 179) rfl ?_
                refine gfX9_56_9 (v := .ref (md 26)) C dX9_ofKind_179 K.1 rfl (q := 182) rfl ?_
                refine aw_iload C dX9_ofKind_182 rfl (q := 184) rfl ?_
                refine ay_iald (N := 10) (f := s.2.1 26) (j := i) C dX9_ofKind_184 (K.2.1 26 (by decide)) (vp_in_nI (by omega) (by decide)) (nI_clamp (by omega)) (q := 185) rfl ?_
                refine aw_i2l C dX9_ofKind_185 (q := 186) rfl ?_
                refine aw_lmul C dX9_ofKind_186 (q := 187) rfl ?_
                refine aw_ladd C dX9_ofKind_187 (q := 188) rfl ?_
                refine aw_lstore (ls' := [.ref o, .int g, .int kind, .int e, .long (((mo_of (s.1 18) s.2.1 kind e i).1) + 1), .retAddr 0, .long (((mo_of (s.1 18) s.2.1 kind e i).2.1) + ((((s.2.1 25) i).toInt64) * (((s.2.1 26) i).toInt64))), .retAddr 0, .long ((mo_of (s.1 18) s.2.1 kind e i).2.2.1), .retAddr 0, .long edg, .retAddr 0, .int (nI i), .int (mo_gr s.2.1 i), .long far, .retAddr 0, .long near, .retAddr 0]) C dX9_ofKind_188 (by decide) rfl (q := 190) rfl ?_
                refine aw_iload C dX9_ofKind_190 rfl (q := 192) rfl ?_
                refine aw_i2l C dX9_ofKind_192 (q := 193) rfl ?_
                refine aw_lload C dX9_ofKind_193 rfl (q := 195) rfl ?_
                refine aw_lcmp C dX9_ofKind_195 (q := 196) rfl ?_
                refine aw_if_le (t := 205) (q := 199) C dX9_ofKind_196 (by decide) rfl (fun c_196 => ?_) (fun c_196 => ?_)
                ·
                  refine aw_lload C dX9_ofKind_205 rfl (q := 207) rfl ?_
                  refine aw_st0 (b := .long (mo_siz (mo_gr s.2.1 i).toInt64 (mo_of (s.1 18) s.2.1 kind e i).2.2.1)) (by unfold mo_siz; rw [if_pos c_196]) ?_
                  refine aw_lstore (ls' := [.ref o, .int g, .int kind, .int e, .long (((mo_of (s.1 18) s.2.1 kind e i).1) + 1), .retAddr 0, .long (((mo_of (s.1 18) s.2.1 kind e i).2.1) + ((((s.2.1 25) i).toInt64) * (((s.2.1 26) i).toInt64))), .retAddr 0, .long (mo_siz (mo_gr s.2.1 i).toInt64 (mo_of (s.1 18) s.2.1 kind e i).2.2.1), .retAddr 0, .long edg, .retAddr 0, .int (nI i), .int (mo_gr s.2.1 i), .long far, .retAddr 0, .long near, .retAddr 0]) C dX9_ofKind_207 (by decide) rfl (q := 209) rfl ?_
                  refine aw_iinc (v := nI (i + 1)) (ls' := [.ref o, .int g, .int kind, .int e, .long (((mo_of (s.1 18) s.2.1 kind e i).1) + 1), .retAddr 0, .long (((mo_of (s.1 18) s.2.1 kind e i).2.1) + ((((s.2.1 25) i).toInt64) * (((s.2.1 26) i).toInt64))), .retAddr 0, .long (mo_siz (mo_gr s.2.1 i).toInt64 (mo_of (s.1 18) s.2.1 kind e i).2.2.1), .retAddr 0, .long edg, .retAddr 0, .int (nI (i + 1)), .int (mo_gr s.2.1 i), .long far, .retAddr 0, .long near, .retAddr 0]) C dX9_ofKind_209 rfl (nI_1 i) (by decide) rfl (q := 212) rfl ?_
                  refine aw_goto (q := 19) C dX9_ofKind_212 (by decide) ?_
                  subst e_edg e_near e_far
                  have z := ih (i + 1) (.int (mo_gr s.2.1 i)) (.long (mo_far (s.1 18) s.2.1 i)) (.retAddr 0) (.long (mo_near (s.1 18) s.2.1 i)) (.retAddr 0) (by omega)
                  rw [show mo_of (s.1 18) s.2.1 kind e (i + 1) = _ from if_pos ⟨pb_n c_34, c_45⟩] at z
                  exact z
                ·
                  refine aw_iload C dX9_ofKind_199 rfl (q := 201) rfl ?_
                  refine aw_i2l C dX9_ofKind_201 (q := 202) rfl ?_
                  refine aw_goto (q := 207) C dX9_ofKind_202 (by decide) ?_
                  refine aw_st0 (b := .long (mo_siz (mo_gr s.2.1 i).toInt64 (mo_of (s.1 18) s.2.1 kind e i).2.2.1)) (by unfold mo_siz; rw [if_neg c_196]) ?_
                  refine aw_lstore (ls' := [.ref o, .int g, .int kind, .int e, .long (((mo_of (s.1 18) s.2.1 kind e i).1) + 1), .retAddr 0, .long (((mo_of (s.1 18) s.2.1 kind e i).2.1) + ((((s.2.1 25) i).toInt64) * (((s.2.1 26) i).toInt64))), .retAddr 0, .long (mo_siz (mo_gr s.2.1 i).toInt64 (mo_of (s.1 18) s.2.1 kind e i).2.2.1), .retAddr 0, .long edg, .retAddr 0, .int (nI i), .int (mo_gr s.2.1 i), .long far, .retAddr 0, .long near, .retAddr 0]) C dX9_ofKind_207 (by decide) rfl (q := 209) rfl ?_
                  refine aw_iinc (v := nI (i + 1)) (ls' := [.ref o, .int g, .int kind, .int e, .long (((mo_of (s.1 18) s.2.1 kind e i).1) + 1), .retAddr 0, .long (((mo_of (s.1 18) s.2.1 kind e i).2.1) + ((((s.2.1 25) i).toInt64) * (((s.2.1 26) i).toInt64))), .retAddr 0, .long (mo_siz (mo_gr s.2.1 i).toInt64 (mo_of (s.1 18) s.2.1 kind e i).2.2.1), .retAddr 0, .long edg, .retAddr 0, .int (nI (i + 1)), .int (mo_gr s.2.1 i), .long far, .retAddr 0, .long near, .retAddr 0]) C dX9_ofKind_209 rfl (nI_1 i) (by decide) rfl (q := 212) rfl ?_
                  refine aw_goto (q := 19) C dX9_ofKind_212 (by decide) ?_
                  subst e_edg e_near e_far
                  have z := ih (i + 1) (.int (mo_gr s.2.1 i)) (.long (mo_far (s.1 18) s.2.1 i)) (.retAddr 0) (.long (mo_near (s.1 18) s.2.1 i)) (.retAddr 0) (by omega)
                  rw [show mo_of (s.1 18) s.2.1 kind e (i + 1) = _ from if_pos ⟨pb_n c_34, c_45⟩] at z
                  exact z
        ·
          refine aw_aload_n C dX9_ofKind_65 rfl rfl (q := 66) rfl ?_
          refine gfX9_53_9 (v := .ref (md 25)) C dX9_ofKind_66 K.1 rfl (q := 69) rfl ?_
          refine aw_iload C dX9_ofKind_69 rfl (q := 71) rfl ?_
          refine ay_iald (N := 10) (f := s.2.1 25) (j := i) C dX9_ofKind_71 (K.2.1 25 (by decide)) (vp_in_nI (by omega) (by decide)) (nI_clamp (by omega)) (q := 72) rfl ?_
          refine aw_goto (q := 82) C dX9_ofKind_72 (by decide) ?_
          refine aw_st0 (b := .int (mo_gr s.2.1 i)) (congrArg Value.int (show (s.2.1 25) i = mo_gr s.2.1 i from by unfold mo_gr; rw [if_neg c_62])) ?_
          refine aw_istore (ls' := [.ref o, .int g, .int kind, .int e, .long ((mo_of (s.1 18) s.2.1 kind e i).1), .retAddr 0, .long ((mo_of (s.1 18) s.2.1 kind e i).2.1), .retAddr 0, .long ((mo_of (s.1 18) s.2.1 kind e i).2.2.1), .retAddr 0, .long ((mo_of (s.1 18) s.2.1 kind e i).2.2.2), .retAddr 0, .int (nI i), .int (mo_gr s.2.1 i), v14, v15, v16, v17]) C dX9_ofKind_82 (by decide) rfl (q := 84) rfl ?_
          refine aw_aload_n C dX9_ofKind_84 rfl rfl (q := 85) rfl ?_
          refine gfX9_207_9 (v := .int (s.1 18)) C dX9_ofKind_85 K.1 rfl (q := 88) rfl ?_
          refine aw_i2l C dX9_ofKind_88 (q := 89) rfl ?_
          refine aw_aload_n C dX9_ofKind_89 rfl rfl (q := 90) rfl ?_
          refine gfX9_50_9 (v := .ref (md 24)) C dX9_ofKind_90 K.1 rfl (q := 93) rfl ?_
          refine aw_iload C dX9_ofKind_93 rfl (q := 95) rfl ?_
          refine ay_iald (N := 10) (f := s.2.1 24) (j := i) C dX9_ofKind_95 (K.2.1 24 (by decide)) (vp_in_nI (by omega) (by decide)) (nI_clamp (by omega)) (q := 96) rfl ?_
          refine aw_i2l C dX9_ofKind_96 (q := 97) rfl ?_
          refine aw_lsub C dX9_ofKind_97 (q := 98) rfl ?_
          refine aw_aload_n C dX9_ofKind_98 rfl rfl (q := 99) rfl ?_
          refine gfX9_56_9 (v := .ref (md 26)) C dX9_ofKind_99 K.1 rfl (q := 102) rfl ?_
          refine aw_iload C dX9_ofKind_102 rfl (q := 104) rfl ?_
          refine ay_iald (N := 10) (f := s.2.1 26) (j := i) C dX9_ofKind_104 (K.2.1 26 (by decide)) (vp_in_nI (by omega) (by decide)) (nI_clamp (by omega)) (q := 105) rfl ?_
          refine aw_i2l C dX9_ofKind_105 (q := 106) rfl ?_
          refine aw_lsub C dX9_ofKind_106 (q := 107) rfl ?_
          obtain ⟨far, e_far⟩ : ∃ z, z = mo_far (s.1 18) s.2.1 i := ⟨_, rfl⟩
          rw [show (((s.1 18).toInt64) - (((s.2.1 24) i).toInt64)) - (((s.2.1 26) i).toInt64) = far from e_far.symm]
          refine aw_lstore (ls' := [.ref o, .int g, .int kind, .int e, .long ((mo_of (s.1 18) s.2.1 kind e i).1), .retAddr 0, .long ((mo_of (s.1 18) s.2.1 kind e i).2.1), .retAddr 0, .long ((mo_of (s.1 18) s.2.1 kind e i).2.2.1), .retAddr 0, .long ((mo_of (s.1 18) s.2.1 kind e i).2.2.2), .retAddr 0, .int (nI i), .int (mo_gr s.2.1 i), .long far, .retAddr 0, v16, v17]) C dX9_ofKind_107 (by decide) rfl (q := 109) rfl ?_
          refine aw_aload_n C dX9_ofKind_109 rfl rfl (q := 110) rfl ?_
          refine gfX9_50_9 (v := .ref (md 24)) C dX9_ofKind_110 K.1 rfl (q := 113) rfl ?_
          refine aw_iload C dX9_ofKind_113 rfl (q := 115) rfl ?_
          refine ay_iald (N := 10) (f := s.2.1 24) (j := i) C dX9_ofKind_115 (K.2.1 24 (by decide)) (vp_in_nI (by omega) (by decide)) (nI_clamp (by omega)) (q := 116) rfl ?_
          refine aw_i2l C dX9_ofKind_116 (q := 117) rfl ?_
          refine aw_lload C dX9_ofKind_117 rfl (q := 119) rfl ?_
          refine aw_lcmp C dX9_ofKind_119 (q := 120) rfl ?_
          refine aw_if_ge (t := 134) (q := 123) C dX9_ofKind_120 (by decide) rfl (fun c_120 => ?_) (fun c_120 => ?_)
          ·
            refine aw_lload C dX9_ofKind_134 rfl (q := 136) rfl ?_
            refine aw_st0 (b := .long (mo_near (s.1 18) s.2.1 i)) (congrArg Value.long (show far = mo_near (s.1 18) s.2.1 i from by unfold mo_near; rw [← e_far, if_pos c_120])) ?_
            refine aw_lstore (ls' := [.ref o, .int g, .int kind, .int e, .long ((mo_of (s.1 18) s.2.1 kind e i).1), .retAddr 0, .long ((mo_of (s.1 18) s.2.1 kind e i).2.1), .retAddr 0, .long ((mo_of (s.1 18) s.2.1 kind e i).2.2.1), .retAddr 0, .long ((mo_of (s.1 18) s.2.1 kind e i).2.2.2), .retAddr 0, .int (nI i), .int (mo_gr s.2.1 i), .long far, .retAddr 0, .long (mo_near (s.1 18) s.2.1 i), .retAddr 0]) C dX9_ofKind_136 (by decide) rfl (q := 138) rfl ?_
            obtain ⟨near, e_near⟩ : ∃ z, z = mo_near (s.1 18) s.2.1 i := ⟨_, rfl⟩
            rw [← e_near]
            refine aw_lload C dX9_ofKind_138 rfl (q := 140) rfl ?_
            refine aw_lconst (v := 0) C dX9_ofKind_140 (by decide) (q := 141) rfl ?_
            refine aw_lcmp C dX9_ofKind_141 (q := 142) rfl ?_
            refine aw_if_eq (t := 153) (q := 145) C dX9_ofKind_142 (by decide) rfl (fun c_142 => ?_) (fun c_142 => ?_)
            ·
              refine aw_lload C dX9_ofKind_153 rfl (q := 155) rfl ?_
              refine aw_goto (q := 160) C dX9_ofKind_155 (by decide) ?_
              obtain ⟨edg, e_edg⟩ : ∃ z, z = mo_edg (mo_of (s.1 18) s.2.1 kind e i).1 near (mo_of (s.1 18) s.2.1 kind e i).2.2.2 := ⟨_, rfl⟩
              refine aw_st0 (b := .long edg) (by rw [e_edg]; unfold mo_edg; rw [if_pos c_142]) ?_
              refine aw_lstore (ls' := [.ref o, .int g, .int kind, .int e, .long ((mo_of (s.1 18) s.2.1 kind e i).1), .retAddr 0, .long ((mo_of (s.1 18) s.2.1 kind e i).2.1), .retAddr 0, .long ((mo_of (s.1 18) s.2.1 kind e i).2.2.1), .retAddr 0, .long edg, .retAddr 0, .int (nI i), .int (mo_gr s.2.1 i), .long far, .retAddr 0, .long near, .retAddr 0]) C dX9_ofKind_160 (by decide) rfl (q := 162) rfl ?_
              refine aw_lload C dX9_ofKind_162 rfl (q := 164) rfl ?_
              refine aw_lconst (v := 1) C dX9_ofKind_164 (by decide) (q := 165) rfl ?_
              refine aw_ladd C dX9_ofKind_165 (q := 166) rfl ?_
              refine aw_lstore (ls' := [.ref o, .int g, .int kind, .int e, .long (((mo_of (s.1 18) s.2.1 kind e i).1) + 1), .retAddr 0, .long ((mo_of (s.1 18) s.2.1 kind e i).2.1), .retAddr 0, .long ((mo_of (s.1 18) s.2.1 kind e i).2.2.1), .retAddr 0, .long edg, .retAddr 0, .int (nI i), .int (mo_gr s.2.1 i), .long far, .retAddr 0, .long near, .retAddr 0]) C dX9_ofKind_166 (by decide) rfl (q := 168) rfl ?_
              refine aw_lload C dX9_ofKind_168 rfl (q := 170) rfl ?_
              refine aw_aload_n C dX9_ofKind_170 rfl rfl (q := 171) rfl ?_
              refine gfX9_53_9 (v := .ref (md 25)) C dX9_ofKind_171 K.1 rfl (q := 174) rfl ?_
              refine aw_iload C dX9_ofKind_174 rfl (q := 176) rfl ?_
              refine ay_iald (N := 10) (f := s.2.1 25) (j := i) C dX9_ofKind_176 (K.2.1 25 (by decide)) (vp_in_nI (by omega) (by decide)) (nI_clamp (by omega)) (q := 177) rfl ?_
              refine aw_i2l C dX9_ofKind_177 (q := 178) rfl ?_
              refine aw_aload_n C dX9_ofKind_178 rfl rfl (q := 179) rfl ?_
              refine gfX9_56_9 (v := .ref (md 26)) C dX9_ofKind_179 K.1 rfl (q := 182) rfl ?_
              refine aw_iload C dX9_ofKind_182 rfl (q := 184) rfl ?_
              refine ay_iald (N := 10) (f := s.2.1 26) (j := i) C dX9_ofKind_184 (K.2.1 26 (by decide)) (vp_in_nI (by omega) (by decide)) (nI_clamp (by omega)) (q := 185) rfl ?_
              refine aw_i2l C dX9_ofKind_185 (q := 186) rfl ?_
              refine aw_lmul C dX9_ofKind_186 (q := 187) rfl ?_
              refine aw_ladd C dX9_ofKind_187 (q := 188) rfl ?_
              refine aw_lstore (ls' := [.ref o, .int g, .int kind, .int e, .long (((mo_of (s.1 18) s.2.1 kind e i).1) + 1), .retAddr 0, .long (((mo_of (s.1 18) s.2.1 kind e i).2.1) + ((((s.2.1 25) i).toInt64) * (((s.2.1 26) i).toInt64))), .retAddr 0, .long ((mo_of (s.1 18) s.2.1 kind e i).2.2.1), .retAddr 0, .long edg, .retAddr 0, .int (nI i), .int (mo_gr s.2.1 i), .long far, .retAddr 0, .long near, .retAddr 0]) C dX9_ofKind_188 (by decide) rfl (q := 190) rfl ?_
              refine aw_iload C dX9_ofKind_190 rfl (q := 192) rfl ?_
              refine aw_i2l C dX9_ofKind_192 (q := 193) rfl ?_
              refine aw_lload C dX9_ofKind_193 rfl (q := 195) rfl ?_
              refine aw_lcmp C dX9_ofKind_195 (q := 196) rfl ?_
              refine aw_if_le (t := 205) (q := 199) C dX9_ofKind_196 (by decide) rfl (fun c_196 => ?_) (fun c_196 => ?_)
              ·
                refine aw_lload C dX9_ofKind_205 rfl (q := 207) rfl ?_
                refine aw_st0 (b := .long (mo_siz (mo_gr s.2.1 i).toInt64 (mo_of (s.1 18) s.2.1 kind e i).2.2.1)) (by unfold mo_siz; rw [if_pos c_196]) ?_
                refine aw_lstore (ls' := [.ref o, .int g, .int kind, .int e, .long (((mo_of (s.1 18) s.2.1 kind e i).1) + 1), .retAddr 0, .long (((mo_of (s.1 18) s.2.1 kind e i).2.1) + ((((s.2.1 25) i).toInt64) * (((s.2.1 26) i).toInt64))), .retAddr 0, .long (mo_siz (mo_gr s.2.1 i).toInt64 (mo_of (s.1 18) s.2.1 kind e i).2.2.1), .retAddr 0, .long edg, .retAddr 0, .int (nI i), .int (mo_gr s.2.1 i), .long far, .retAddr 0, .long near, .retAddr 0]) C dX9_ofKind_207 (by decide) rfl (q := 209) rfl ?_
                refine aw_iinc (v := nI (i + 1)) (ls' := [.ref o, .int g, .int kind, .int e, .long (((mo_of (s.1 18) s.2.1 kind e i).1) + 1), .retAddr 0, .long (((mo_of (s.1 18) s.2.1 kind e i).2.1) + ((((s.2.1 25) i).toInt64) * (((s.2.1 26) i).toInt64))), .retAddr 0, .long (mo_siz (mo_gr s.2.1 i).toInt64 (mo_of (s.1 18) s.2.1 kind e i).2.2.1), .retAddr 0, .long edg, .retAddr 0, .int (nI (i + 1)), .int (mo_gr s.2.1 i), .long far, .retAddr 0, .long near, .retAddr 0]) C dX9_ofKind_209 rfl (nI_1 i) (by decide) rfl (q := 212) rfl ?_
                refine aw_goto (q := 19) C dX9_ofKind_212 (by decide) ?_
                subst e_edg e_near e_far
                have z := ih (i + 1) (.int (mo_gr s.2.1 i)) (.long (mo_far (s.1 18) s.2.1 i)) (.retAddr 0) (.long (mo_near (s.1 18) s.2.1 i)) (.retAddr 0) (by omega)
                rw [show mo_of (s.1 18) s.2.1 kind e (i + 1) = _ from if_pos ⟨pb_n c_34, c_45⟩] at z
                exact z
              ·
                refine aw_iload C dX9_ofKind_199 rfl (q := 201) rfl ?_
                refine aw_i2l C dX9_ofKind_201 (q := 202) rfl ?_
                refine aw_goto (q := 207) C dX9_ofKind_202 (by decide) ?_
                refine aw_st0 (b := .long (mo_siz (mo_gr s.2.1 i).toInt64 (mo_of (s.1 18) s.2.1 kind e i).2.2.1)) (by unfold mo_siz; rw [if_neg c_196]) ?_
                refine aw_lstore (ls' := [.ref o, .int g, .int kind, .int e, .long (((mo_of (s.1 18) s.2.1 kind e i).1) + 1), .retAddr 0, .long (((mo_of (s.1 18) s.2.1 kind e i).2.1) + ((((s.2.1 25) i).toInt64) * (((s.2.1 26) i).toInt64))), .retAddr 0, .long (mo_siz (mo_gr s.2.1 i).toInt64 (mo_of (s.1 18) s.2.1 kind e i).2.2.1), .retAddr 0, .long edg, .retAddr 0, .int (nI i), .int (mo_gr s.2.1 i), .long far, .retAddr 0, .long near, .retAddr 0]) C dX9_ofKind_207 (by decide) rfl (q := 209) rfl ?_
                refine aw_iinc (v := nI (i + 1)) (ls' := [.ref o, .int g, .int kind, .int e, .long (((mo_of (s.1 18) s.2.1 kind e i).1) + 1), .retAddr 0, .long (((mo_of (s.1 18) s.2.1 kind e i).2.1) + ((((s.2.1 25) i).toInt64) * (((s.2.1 26) i).toInt64))), .retAddr 0, .long (mo_siz (mo_gr s.2.1 i).toInt64 (mo_of (s.1 18) s.2.1 kind e i).2.2.1), .retAddr 0, .long edg, .retAddr 0, .int (nI (i + 1)), .int (mo_gr s.2.1 i), .long far, .retAddr 0, .long near, .retAddr 0]) C dX9_ofKind_209 rfl (nI_1 i) (by decide) rfl (q := 212) rfl ?_
                refine aw_goto (q := 19) C dX9_ofKind_212 (by decide) ?_
                subst e_edg e_near e_far
                have z := ih (i + 1) (.int (mo_gr s.2.1 i)) (.long (mo_far (s.1 18) s.2.1 i)) (.retAddr 0) (.long (mo_near (s.1 18) s.2.1 i)) (.retAddr 0) (by omega)
                rw [show mo_of (s.1 18) s.2.1 kind e (i + 1) = _ from if_pos ⟨pb_n c_34, c_45⟩] at z
                exact z
            ·
              refine aw_lload C dX9_ofKind_145 rfl (q := 147) rfl ?_
              refine aw_lload C dX9_ofKind_147 rfl (q := 149) rfl ?_
              refine aw_lcmp C dX9_ofKind_149 (q := 150) rfl ?_
              refine aw_if_ge (t := 158) (q := 153) C dX9_ofKind_150 (by decide) rfl (fun c_150 => ?_) (fun c_150 => ?_)
              ·
                refine aw_lload C dX9_ofKind_158 rfl (q := 160) rfl ?_
                obtain ⟨edg, e_edg⟩ : ∃ z, z = mo_edg (mo_of (s.1 18) s.2.1 kind e i).1 near (mo_of (s.1 18) s.2.1 kind e i).2.2.2 := ⟨_, rfl⟩
                refine aw_st0 (b := .long edg) (by rw [e_edg]; unfold mo_edg; rw [if_neg c_142, if_pos c_150]) ?_
                refine aw_lstore (ls' := [.ref o, .int g, .int kind, .int e, .long ((mo_of (s.1 18) s.2.1 kind e i).1), .retAddr 0, .long ((mo_of (s.1 18) s.2.1 kind e i).2.1), .retAddr 0, .long ((mo_of (s.1 18) s.2.1 kind e i).2.2.1), .retAddr 0, .long edg, .retAddr 0, .int (nI i), .int (mo_gr s.2.1 i), .long far, .retAddr 0, .long near, .retAddr 0]) C dX9_ofKind_160 (by decide) rfl (q := 162) rfl ?_
                refine aw_lload C dX9_ofKind_162 rfl (q := 164) rfl ?_
                refine aw_lconst (v := 1) C dX9_ofKind_164 (by decide) (q := 165) rfl ?_
                refine aw_ladd C dX9_ofKind_165 (q := 166) rfl ?_
                refine aw_lstore (ls' := [.ref o, .int g, .int kind, .int e, .long (((mo_of (s.1 18) s.2.1 kind e i).1) + 1), .retAddr 0, .long ((mo_of (s.1 18) s.2.1 kind e i).2.1), .retAddr 0, .long ((mo_of (s.1 18) s.2.1 kind e i).2.2.1), .retAddr 0, .long edg, .retAddr 0, .int (nI i), .int (mo_gr s.2.1 i), .long far, .retAddr 0, .long near, .retAddr 0]) C dX9_ofKind_166 (by decide) rfl (q := 168) rfl ?_
                refine aw_lload C dX9_ofKind_168 rfl (q := 170) rfl ?_
                refine aw_aload_n C dX9_ofKind_170 rfl rfl (q := 171) rfl ?_
                refine gfX9_53_9 (v := .ref (md 25)) C dX9_ofKind_171 K.1 rfl (q := 174) rfl ?_
                refine aw_iload C dX9_ofKind_174 rfl (q := 176) rfl ?_
                refine ay_iald (N := 10) (f := s.2.1 25) (j := i) C dX9_ofKind_176 (K.2.1 25 (by decide)) (vp_in_nI (by omega) (by decide)) (nI_clamp (by omega)) (q := 177) rfl ?_
                refine aw_i2l C dX9_ofKind_177 (q := 178) rfl ?_
                refine aw_aload_n C dX9_ofKind_178 rfl rfl (q := 179) rfl ?_
                refine gfX9_56_9 (v := .ref (md 26)) C dX9_ofKind_179 K.1 rfl (q := 182) rfl ?_
                refine aw_iload C dX9_ofKind_182 rfl (q := 184) rfl ?_
                refine ay_iald (N := 10) (f := s.2.1 26) (j := i) C dX9_ofKind_184 (K.2.1 26 (by decide)) (vp_in_nI (by omega) (by decide)) (nI_clamp (by omega)) (q := 185) rfl ?_
                refine aw_i2l C dX9_ofKind_185 (q := 186) rfl ?_
                refine aw_lmul C dX9_ofKind_186 (q := 187) rfl ?_
                refine aw_ladd C dX9_ofKind_187 (q := 188) rfl ?_
                refine aw_lstore (ls' := [.ref o, .int g, .int kind, .int e, .long (((mo_of (s.1 18) s.2.1 kind e i).1) + 1), .retAddr 0, .long (((mo_of (s.1 18) s.2.1 kind e i).2.1) + ((((s.2.1 25) i).toInt64) * (((s.2.1 26) i).toInt64))), .retAddr 0, .long ((mo_of (s.1 18) s.2.1 kind e i).2.2.1), .retAddr 0, .long edg, .retAddr 0, .int (nI i), .int (mo_gr s.2.1 i), .long far, .retAddr 0, .long near, .retAddr 0]) C dX9_ofKind_188 (by decide) rfl (q := 190) rfl ?_
                refine aw_iload C dX9_ofKind_190 rfl (q := 192) rfl ?_
                refine aw_i2l C dX9_ofKind_192 (q := 193) rfl ?_
                refine aw_lload C dX9_ofKind_193 rfl (q := 195) rfl ?_
                refine aw_lcmp C dX9_ofKind_195 (q := 196) rfl ?_
                refine aw_if_le (t := 205) (q := 199) C dX9_ofKind_196 (by decide) rfl (fun c_196 => ?_) (fun c_196 => ?_)
                ·
                  refine aw_lload C dX9_ofKind_205 rfl (q := 207) rfl ?_
                  refine aw_st0 (b := .long (mo_siz (mo_gr s.2.1 i).toInt64 (mo_of (s.1 18) s.2.1 kind e i).2.2.1)) (by unfold mo_siz; rw [if_pos c_196]) ?_
                  refine aw_lstore (ls' := [.ref o, .int g, .int kind, .int e, .long (((mo_of (s.1 18) s.2.1 kind e i).1) + 1), .retAddr 0, .long (((mo_of (s.1 18) s.2.1 kind e i).2.1) + ((((s.2.1 25) i).toInt64) * (((s.2.1 26) i).toInt64))), .retAddr 0, .long (mo_siz (mo_gr s.2.1 i).toInt64 (mo_of (s.1 18) s.2.1 kind e i).2.2.1), .retAddr 0, .long edg, .retAddr 0, .int (nI i), .int (mo_gr s.2.1 i), .long far, .retAddr 0, .long near, .retAddr 0]) C dX9_ofKind_207 (by decide) rfl (q := 209) rfl ?_
                  refine aw_iinc (v := nI (i + 1)) (ls' := [.ref o, .int g, .int kind, .int e, .long (((mo_of (s.1 18) s.2.1 kind e i).1) + 1), .retAddr 0, .long (((mo_of (s.1 18) s.2.1 kind e i).2.1) + ((((s.2.1 25) i).toInt64) * (((s.2.1 26) i).toInt64))), .retAddr 0, .long (mo_siz (mo_gr s.2.1 i).toInt64 (mo_of (s.1 18) s.2.1 kind e i).2.2.1), .retAddr 0, .long edg, .retAddr 0, .int (nI (i + 1)), .int (mo_gr s.2.1 i), .long far, .retAddr 0, .long near, .retAddr 0]) C dX9_ofKind_209 rfl (nI_1 i) (by decide) rfl (q := 212) rfl ?_
                  refine aw_goto (q := 19) C dX9_ofKind_212 (by decide) ?_
                  subst e_edg e_near e_far
                  have z := ih (i + 1) (.int (mo_gr s.2.1 i)) (.long (mo_far (s.1 18) s.2.1 i)) (.retAddr 0) (.long (mo_near (s.1 18) s.2.1 i)) (.retAddr 0) (by omega)
                  rw [show mo_of (s.1 18) s.2.1 kind e (i + 1) = _ from if_pos ⟨pb_n c_34, c_45⟩] at z
                  exact z
                ·
                  refine aw_iload C dX9_ofKind_199 rfl (q := 201) rfl ?_
                  refine aw_i2l C dX9_ofKind_201 (q := 202) rfl ?_
                  refine aw_goto (q := 207) C dX9_ofKind_202 (by decide) ?_
                  refine aw_st0 (b := .long (mo_siz (mo_gr s.2.1 i).toInt64 (mo_of (s.1 18) s.2.1 kind e i).2.2.1)) (by unfold mo_siz; rw [if_neg c_196]) ?_
                  refine aw_lstore (ls' := [.ref o, .int g, .int kind, .int e, .long (((mo_of (s.1 18) s.2.1 kind e i).1) + 1), .retAddr 0, .long (((mo_of (s.1 18) s.2.1 kind e i).2.1) + ((((s.2.1 25) i).toInt64) * (((s.2.1 26) i).toInt64))), .retAddr 0, .long (mo_siz (mo_gr s.2.1 i).toInt64 (mo_of (s.1 18) s.2.1 kind e i).2.2.1), .retAddr 0, .long edg, .retAddr 0, .int (nI i), .int (mo_gr s.2.1 i), .long far, .retAddr 0, .long near, .retAddr 0]) C dX9_ofKind_207 (by decide) rfl (q := 209) rfl ?_
                  refine aw_iinc (v := nI (i + 1)) (ls' := [.ref o, .int g, .int kind, .int e, .long (((mo_of (s.1 18) s.2.1 kind e i).1) + 1), .retAddr 0, .long (((mo_of (s.1 18) s.2.1 kind e i).2.1) + ((((s.2.1 25) i).toInt64) * (((s.2.1 26) i).toInt64))), .retAddr 0, .long (mo_siz (mo_gr s.2.1 i).toInt64 (mo_of (s.1 18) s.2.1 kind e i).2.2.1), .retAddr 0, .long edg, .retAddr 0, .int (nI (i + 1)), .int (mo_gr s.2.1 i), .long far, .retAddr 0, .long near, .retAddr 0]) C dX9_ofKind_209 rfl (nI_1 i) (by decide) rfl (q := 212) rfl ?_
                  refine aw_goto (q := 19) C dX9_ofKind_212 (by decide) ?_
                  subst e_edg e_near e_far
                  have z := ih (i + 1) (.int (mo_gr s.2.1 i)) (.long (mo_far (s.1 18) s.2.1 i)) (.retAddr 0) (.long (mo_near (s.1 18) s.2.1 i)) (.retAddr 0) (by omega)
                  rw [show mo_of (s.1 18) s.2.1 kind e (i + 1) = _ from if_pos ⟨pb_n c_34, c_45⟩] at z
                  exact z
              ·
                refine aw_lload C dX9_ofKind_153 rfl (q := 155) rfl ?_
                refine aw_goto (q := 160) C dX9_ofKind_155 (by decide) ?_
                obtain ⟨edg, e_edg⟩ : ∃ z, z = mo_edg (mo_of (s.1 18) s.2.1 kind e i).1 near (mo_of (s.1 18) s.2.1 kind e i).2.2.2 := ⟨_, rfl⟩
                refine aw_st0 (b := .long edg) (by rw [e_edg]; unfold mo_edg; rw [if_neg c_142, if_neg c_150]) ?_
                refine aw_lstore (ls' := [.ref o, .int g, .int kind, .int e, .long ((mo_of (s.1 18) s.2.1 kind e i).1), .retAddr 0, .long ((mo_of (s.1 18) s.2.1 kind e i).2.1), .retAddr 0, .long ((mo_of (s.1 18) s.2.1 kind e i).2.2.1), .retAddr 0, .long edg, .retAddr 0, .int (nI i), .int (mo_gr s.2.1 i), .long far, .retAddr 0, .long near, .retAddr 0]) C dX9_ofKind_160 (by decide) rfl (q := 162) rfl ?_
                refine aw_lload C dX9_ofKind_162 rfl (q := 164) rfl ?_
                refine aw_lconst (v := 1) C dX9_ofKind_164 (by decide) (q := 165) rfl ?_
                refine aw_ladd C dX9_ofKind_165 (q := 166) rfl ?_
                refine aw_lstore (ls' := [.ref o, .int g, .int kind, .int e, .long (((mo_of (s.1 18) s.2.1 kind e i).1) + 1), .retAddr 0, .long ((mo_of (s.1 18) s.2.1 kind e i).2.1), .retAddr 0, .long ((mo_of (s.1 18) s.2.1 kind e i).2.2.1), .retAddr 0, .long edg, .retAddr 0, .int (nI i), .int (mo_gr s.2.1 i), .long far, .retAddr 0, .long near, .retAddr 0]) C dX9_ofKind_166 (by decide) rfl (q := 168) rfl ?_
                refine aw_lload C dX9_ofKind_168 rfl (q := 170) rfl ?_
                refine aw_aload_n C dX9_ofKind_170 rfl rfl (q := 171) rfl ?_
                refine gfX9_53_9 (v := .ref (md 25)) C dX9_ofKind_171 K.1 rfl (q := 174) rfl ?_
                refine aw_iload C dX9_ofKind_174 rfl (q := 176) rfl ?_
                refine ay_iald (N := 10) (f := s.2.1 25) (j := i) C dX9_ofKind_176 (K.2.1 25 (by decide)) (vp_in_nI (by omega) (by decide)) (nI_clamp (by omega)) (q := 177) rfl ?_
                refine aw_i2l C dX9_ofKind_177 (q := 178) rfl ?_
                refine aw_aload_n C dX9_ofKind_178 rfl rfl (q := 179) rfl ?_
                refine gfX9_56_9 (v := .ref (md 26)) C dX9_ofKind_179 K.1 rfl (q := 182) rfl ?_
                refine aw_iload C dX9_ofKind_182 rfl (q := 184) rfl ?_
                refine ay_iald (N := 10) (f := s.2.1 26) (j := i) C dX9_ofKind_184 (K.2.1 26 (by decide)) (vp_in_nI (by omega) (by decide)) (nI_clamp (by omega)) (q := 185) rfl ?_
                refine aw_i2l C dX9_ofKind_185 (q := 186) rfl ?_
                refine aw_lmul C dX9_ofKind_186 (q := 187) rfl ?_
                refine aw_ladd C dX9_ofKind_187 (q := 188) rfl ?_
                refine aw_lstore (ls' := [.ref o, .int g, .int kind, .int e, .long (((mo_of (s.1 18) s.2.1 kind e i).1) + 1), .retAddr 0, .long (((mo_of (s.1 18) s.2.1 kind e i).2.1) + ((((s.2.1 25) i).toInt64) * (((s.2.1 26) i).toInt64))), .retAddr 0, .long ((mo_of (s.1 18) s.2.1 kind e i).2.2.1), .retAddr 0, .long edg, .retAddr 0, .int (nI i), .int (mo_gr s.2.1 i), .long far, .retAddr 0, .long near, .retAddr 0]) C dX9_ofKind_188 (by decide) rfl (q := 190) rfl ?_
                refine aw_iload C dX9_ofKind_190 rfl (q := 192) rfl ?_
                refine aw_i2l C dX9_ofKind_192 (q := 193) rfl ?_
                refine aw_lload C dX9_ofKind_193 rfl (q := 195) rfl ?_
                refine aw_lcmp C dX9_ofKind_195 (q := 196) rfl ?_
                refine aw_if_le (t := 205) (q := 199) C dX9_ofKind_196 (by decide) rfl (fun c_196 => ?_) (fun c_196 => ?_)
                ·
                  refine aw_lload C dX9_ofKind_205 rfl (q := 207) rfl ?_
                  refine aw_st0 (b := .long (mo_siz (mo_gr s.2.1 i).toInt64 (mo_of (s.1 18) s.2.1 kind e i).2.2.1)) (by unfold mo_siz; rw [if_pos c_196]) ?_
                  refine aw_lstore (ls' := [.ref o, .int g, .int kind, .int e, .long (((mo_of (s.1 18) s.2.1 kind e i).1) + 1), .retAddr 0, .long (((mo_of (s.1 18) s.2.1 kind e i).2.1) + ((((s.2.1 25) i).toInt64) * (((s.2.1 26) i).toInt64))), .retAddr 0, .long (mo_siz (mo_gr s.2.1 i).toInt64 (mo_of (s.1 18) s.2.1 kind e i).2.2.1), .retAddr 0, .long edg, .retAddr 0, .int (nI i), .int (mo_gr s.2.1 i), .long far, .retAddr 0, .long near, .retAddr 0]) C dX9_ofKind_207 (by decide) rfl (q := 209) rfl ?_
                  refine aw_iinc (v := nI (i + 1)) (ls' := [.ref o, .int g, .int kind, .int e, .long (((mo_of (s.1 18) s.2.1 kind e i).1) + 1), .retAddr 0, .long (((mo_of (s.1 18) s.2.1 kind e i).2.1) + ((((s.2.1 25) i).toInt64) * (((s.2.1 26) i).toInt64))), .retAddr 0, .long (mo_siz (mo_gr s.2.1 i).toInt64 (mo_of (s.1 18) s.2.1 kind e i).2.2.1), .retAddr 0, .long edg, .retAddr 0, .int (nI (i + 1)), .int (mo_gr s.2.1 i), .long far, .retAddr 0, .long near, .retAddr 0]) C dX9_ofKind_209 rfl (nI_1 i) (by decide) rfl (q := 212) rfl ?_
                  refine aw_goto (q := 19) C dX9_ofKind_212 (by decide) ?_
                  subst e_edg e_near e_far
                  have z := ih (i + 1) (.int (mo_gr s.2.1 i)) (.long (mo_far (s.1 18) s.2.1 i)) (.retAddr 0) (.long (mo_near (s.1 18) s.2.1 i)) (.retAddr 0) (by omega)
                  rw [show mo_of (s.1 18) s.2.1 kind e (i + 1) = _ from if_pos ⟨pb_n c_34, c_45⟩] at z
                  exact z
                ·
                  refine aw_iload C dX9_ofKind_199 rfl (q := 201) rfl ?_
                  refine aw_i2l C dX9_ofKind_201 (q := 202) rfl ?_
                  refine aw_goto (q := 207) C dX9_ofKind_202 (by decide) ?_
                  refine aw_st0 (b := .long (mo_siz (mo_gr s.2.1 i).toInt64 (mo_of (s.1 18) s.2.1 kind e i).2.2.1)) (by unfold mo_siz; rw [if_neg c_196]) ?_
                  refine aw_lstore (ls' := [.ref o, .int g, .int kind, .int e, .long (((mo_of (s.1 18) s.2.1 kind e i).1) + 1), .retAddr 0, .long (((mo_of (s.1 18) s.2.1 kind e i).2.1) + ((((s.2.1 25) i).toInt64) * (((s.2.1 26) i).toInt64))), .retAddr 0, .long (mo_siz (mo_gr s.2.1 i).toInt64 (mo_of (s.1 18) s.2.1 kind e i).2.2.1), .retAddr 0, .long edg, .retAddr 0, .int (nI i), .int (mo_gr s.2.1 i), .long far, .retAddr 0, .long near, .retAddr 0]) C dX9_ofKind_207 (by decide) rfl (q := 209) rfl ?_
                  refine aw_iinc (v := nI (i + 1)) (ls' := [.ref o, .int g, .int kind, .int e, .long (((mo_of (s.1 18) s.2.1 kind e i).1) + 1), .retAddr 0, .long (((mo_of (s.1 18) s.2.1 kind e i).2.1) + ((((s.2.1 25) i).toInt64) * (((s.2.1 26) i).toInt64))), .retAddr 0, .long (mo_siz (mo_gr s.2.1 i).toInt64 (mo_of (s.1 18) s.2.1 kind e i).2.2.1), .retAddr 0, .long edg, .retAddr 0, .int (nI (i + 1)), .int (mo_gr s.2.1 i), .long far, .retAddr 0, .long near, .retAddr 0]) C dX9_ofKind_209 rfl (nI_1 i) (by decide) rfl (q := 212) rfl ?_
                  refine aw_goto (q := 19) C dX9_ofKind_212 (by decide) ?_
                  subst e_edg e_near e_far
                  have z := ih (i + 1) (.int (mo_gr s.2.1 i)) (.long (mo_far (s.1 18) s.2.1 i)) (.retAddr 0) (.long (mo_near (s.1 18) s.2.1 i)) (.retAddr 0) (by omega)
                  rw [show mo_of (s.1 18) s.2.1 kind e (i + 1) = _ from if_pos ⟨pb_n c_34, c_45⟩] at z
                  exact z
          ·
            refine aw_aload_n C dX9_ofKind_123 rfl rfl (q := 124) rfl ?_
            refine gfX9_50_9 (v := .ref (md 24)) C dX9_ofKind_124 K.1 rfl (q := 127) rfl ?_
            refine aw_iload C dX9_ofKind_127 rfl (q := 129) rfl ?_
            refine ay_iald (N := 10) (f := s.2.1 24) (j := i) C dX9_ofKind_129 (K.2.1 24 (by decide)) (vp_in_nI (by omega) (by decide)) (nI_clamp (by omega)) (q := 130) rfl ?_
            refine aw_i2l C dX9_ofKind_130 (q := 131) rfl ?_
            refine aw_goto (q := 136) C dX9_ofKind_131 (by decide) ?_
            refine aw_st0 (b := .long (mo_near (s.1 18) s.2.1 i)) (congrArg Value.long (show ((s.2.1 24) i).toInt64 = mo_near (s.1 18) s.2.1 i from by unfold mo_near; rw [← e_far, if_neg c_120])) ?_
            refine aw_lstore (ls' := [.ref o, .int g, .int kind, .int e, .long ((mo_of (s.1 18) s.2.1 kind e i).1), .retAddr 0, .long ((mo_of (s.1 18) s.2.1 kind e i).2.1), .retAddr 0, .long ((mo_of (s.1 18) s.2.1 kind e i).2.2.1), .retAddr 0, .long ((mo_of (s.1 18) s.2.1 kind e i).2.2.2), .retAddr 0, .int (nI i), .int (mo_gr s.2.1 i), .long far, .retAddr 0, .long (mo_near (s.1 18) s.2.1 i), .retAddr 0]) C dX9_ofKind_136 (by decide) rfl (q := 138) rfl ?_
            obtain ⟨near, e_near⟩ : ∃ z, z = mo_near (s.1 18) s.2.1 i := ⟨_, rfl⟩
            rw [← e_near]
            refine aw_lload C dX9_ofKind_138 rfl (q := 140) rfl ?_
            refine aw_lconst (v := 0) C dX9_ofKind_140 (by decide) (q := 141) rfl ?_
            refine aw_lcmp C dX9_ofKind_141 (q := 142) rfl ?_
            refine aw_if_eq (t := 153) (q := 145) C dX9_ofKind_142 (by decide) rfl (fun c_142 => ?_) (fun c_142 => ?_)
            ·
              refine aw_lload C dX9_ofKind_153 rfl (q := 155) rfl ?_
              refine aw_goto (q := 160) C dX9_ofKind_155 (by decide) ?_
              obtain ⟨edg, e_edg⟩ : ∃ z, z = mo_edg (mo_of (s.1 18) s.2.1 kind e i).1 near (mo_of (s.1 18) s.2.1 kind e i).2.2.2 := ⟨_, rfl⟩
              refine aw_st0 (b := .long edg) (by rw [e_edg]; unfold mo_edg; rw [if_pos c_142]) ?_
              refine aw_lstore (ls' := [.ref o, .int g, .int kind, .int e, .long ((mo_of (s.1 18) s.2.1 kind e i).1), .retAddr 0, .long ((mo_of (s.1 18) s.2.1 kind e i).2.1), .retAddr 0, .long ((mo_of (s.1 18) s.2.1 kind e i).2.2.1), .retAddr 0, .long edg, .retAddr 0, .int (nI i), .int (mo_gr s.2.1 i), .long far, .retAddr 0, .long near, .retAddr 0]) C dX9_ofKind_160 (by decide) rfl (q := 162) rfl ?_
              refine aw_lload C dX9_ofKind_162 rfl (q := 164) rfl ?_
              refine aw_lconst (v := 1) C dX9_ofKind_164 (by decide) (q := 165) rfl ?_
              refine aw_ladd C dX9_ofKind_165 (q := 166) rfl ?_
              refine aw_lstore (ls' := [.ref o, .int g, .int kind, .int e, .long (((mo_of (s.1 18) s.2.1 kind e i).1) + 1), .retAddr 0, .long ((mo_of (s.1 18) s.2.1 kind e i).2.1), .retAddr 0, .long ((mo_of (s.1 18) s.2.1 kind e i).2.2.1), .retAddr 0, .long edg, .retAddr 0, .int (nI i), .int (mo_gr s.2.1 i), .long far, .retAddr 0, .long near, .retAddr 0]) C dX9_ofKind_166 (by decide) rfl (q := 168) rfl ?_
              refine aw_lload C dX9_ofKind_168 rfl (q := 170) rfl ?_
              refine aw_aload_n C dX9_ofKind_170 rfl rfl (q := 171) rfl ?_
              refine gfX9_53_9 (v := .ref (md 25)) C dX9_ofKind_171 K.1 rfl (q := 174) rfl ?_
              refine aw_iload C dX9_ofKind_174 rfl (q := 176) rfl ?_
              refine ay_iald (N := 10) (f := s.2.1 25) (j := i) C dX9_ofKind_176 (K.2.1 25 (by decide)) (vp_in_nI (by omega) (by decide)) (nI_clamp (by omega)) (q := 177) rfl ?_
              refine aw_i2l C dX9_ofKind_177 (q := 178) rfl ?_
              refine aw_aload_n C dX9_ofKind_178 rfl rfl (q := 179) rfl ?_
              refine gfX9_56_9 (v := .ref (md 26)) C dX9_ofKind_179 K.1 rfl (q := 182) rfl ?_
              refine aw_iload C dX9_ofKind_182 rfl (q := 184) rfl ?_
              refine ay_iald (N := 10) (f := s.2.1 26) (j := i) C dX9_ofKind_184 (K.2.1 26 (by decide)) (vp_in_nI (by omega) (by decide)) (nI_clamp (by omega)) (q := 185) rfl ?_
              refine aw_i2l C dX9_ofKind_185 (q := 186) rfl ?_
              refine aw_lmul C dX9_ofKind_186 (q := 187) rfl ?_
              refine aw_ladd C dX9_ofKind_187 (q := 188) rfl ?_
              refine aw_lstore (ls' := [.ref o, .int g, .int kind, .int e, .long (((mo_of (s.1 18) s.2.1 kind e i).1) + 1), .retAddr 0, .long (((mo_of (s.1 18) s.2.1 kind e i).2.1) + ((((s.2.1 25) i).toInt64) * (((s.2.1 26) i).toInt64))), .retAddr 0, .long ((mo_of (s.1 18) s.2.1 kind e i).2.2.1), .retAddr 0, .long edg, .retAddr 0, .int (nI i), .int (mo_gr s.2.1 i), .long far, .retAddr 0, .long near, .retAddr 0]) C dX9_ofKind_188 (by decide) rfl (q := 190) rfl ?_
              refine aw_iload C dX9_ofKind_190 rfl (q := 192) rfl ?_
              refine aw_i2l C dX9_ofKind_192 (q := 193) rfl ?_
              refine aw_lload C dX9_ofKind_193 rfl (q := 195) rfl ?_
              refine aw_lcmp C dX9_ofKind_195 (q := 196) rfl ?_
              refine aw_if_le (t := 205) (q := 199) C dX9_ofKind_196 (by decide) rfl (fun c_196 => ?_) (fun c_196 => ?_)
              ·
                refine aw_lload C dX9_ofKind_205 rfl (q := 207) rfl ?_
                refine aw_st0 (b := .long (mo_siz (mo_gr s.2.1 i).toInt64 (mo_of (s.1 18) s.2.1 kind e i).2.2.1)) (by unfold mo_siz; rw [if_pos c_196]) ?_
                refine aw_lstore (ls' := [.ref o, .int g, .int kind, .int e, .long (((mo_of (s.1 18) s.2.1 kind e i).1) + 1), .retAddr 0, .long (((mo_of (s.1 18) s.2.1 kind e i).2.1) + ((((s.2.1 25) i).toInt64) * (((s.2.1 26) i).toInt64))), .retAddr 0, .long (mo_siz (mo_gr s.2.1 i).toInt64 (mo_of (s.1 18) s.2.1 kind e i).2.2.1), .retAddr 0, .long edg, .retAddr 0, .int (nI i), .int (mo_gr s.2.1 i), .long far, .retAddr 0, .long near, .retAddr 0]) C dX9_ofKind_207 (by decide) rfl (q := 209) rfl ?_
                refine aw_iinc (v := nI (i + 1)) (ls' := [.ref o, .int g, .int kind, .int e, .long (((mo_of (s.1 18) s.2.1 kind e i).1) + 1), .retAddr 0, .long (((mo_of (s.1 18) s.2.1 kind e i).2.1) + ((((s.2.1 25) i).toInt64) * (((s.2.1 26) i).toInt64))), .retAddr 0, .long (mo_siz (mo_gr s.2.1 i).toInt64 (mo_of (s.1 18) s.2.1 kind e i).2.2.1), .retAddr 0, .long edg, .retAddr 0, .int (nI (i + 1)), .int (mo_gr s.2.1 i), .long far, .retAddr 0, .long near, .retAddr 0]) C dX9_ofKind_209 rfl (nI_1 i) (by decide) rfl (q := 212) rfl ?_
                refine aw_goto (q := 19) C dX9_ofKind_212 (by decide) ?_
                subst e_edg e_near e_far
                have z := ih (i + 1) (.int (mo_gr s.2.1 i)) (.long (mo_far (s.1 18) s.2.1 i)) (.retAddr 0) (.long (mo_near (s.1 18) s.2.1 i)) (.retAddr 0) (by omega)
                rw [show mo_of (s.1 18) s.2.1 kind e (i + 1) = _ from if_pos ⟨pb_n c_34, c_45⟩] at z
                exact z
              ·
                refine aw_iload C dX9_ofKind_199 rfl (q := 201) rfl ?_
                refine aw_i2l C dX9_ofKind_201 (q := 202) rfl ?_
                refine aw_goto (q := 207) C dX9_ofKind_202 (by decide) ?_
                refine aw_st0 (b := .long (mo_siz (mo_gr s.2.1 i).toInt64 (mo_of (s.1 18) s.2.1 kind e i).2.2.1)) (by unfold mo_siz; rw [if_neg c_196]) ?_
                refine aw_lstore (ls' := [.ref o, .int g, .int kind, .int e, .long (((mo_of (s.1 18) s.2.1 kind e i).1) + 1), .retAddr 0, .long (((mo_of (s.1 18) s.2.1 kind e i).2.1) + ((((s.2.1 25) i).toInt64) * (((s.2.1 26) i).toInt64))), .retAddr 0, .long (mo_siz (mo_gr s.2.1 i).toInt64 (mo_of (s.1 18) s.2.1 kind e i).2.2.1), .retAddr 0, .long edg, .retAddr 0, .int (nI i), .int (mo_gr s.2.1 i), .long far, .retAddr 0, .long near, .retAddr 0]) C dX9_ofKind_207 (by decide) rfl (q := 209) rfl ?_
                refine aw_iinc (v := nI (i + 1)) (ls' := [.ref o, .int g, .int kind, .int e, .long (((mo_of (s.1 18) s.2.1 kind e i).1) + 1), .retAddr 0, .long (((mo_of (s.1 18) s.2.1 kind e i).2.1) + ((((s.2.1 25) i).toInt64) * (((s.2.1 26) i).toInt64))), .retAddr 0, .long (mo_siz (mo_gr s.2.1 i).toInt64 (mo_of (s.1 18) s.2.1 kind e i).2.2.1), .retAddr 0, .long edg, .retAddr 0, .int (nI (i + 1)), .int (mo_gr s.2.1 i), .long far, .retAddr 0, .long near, .retAddr 0]) C dX9_ofKind_209 rfl (nI_1 i) (by decide) rfl (q := 212) rfl ?_
                refine aw_goto (q := 19) C dX9_ofKind_212 (by decide) ?_
                subst e_edg e_near e_far
                have z := ih (i + 1) (.int (mo_gr s.2.1 i)) (.long (mo_far (s.1 18) s.2.1 i)) (.retAddr 0) (.long (mo_near (s.1 18) s.2.1 i)) (.retAddr 0) (by omega)
                rw [show mo_of (s.1 18) s.2.1 kind e (i + 1) = _ from if_pos ⟨pb_n c_34, c_45⟩] at z
                exact z
            ·
              refine aw_lload C dX9_ofKind_145 rfl (q := 147) rfl ?_
              refine aw_lload C dX9_ofKind_147 rfl (q := 149) rfl ?_
              refine aw_lcmp C dX9_ofKind_149 (q := 150) rfl ?_
              refine aw_if_ge (t := 158) (q := 153) C dX9_ofKind_150 (by decide) rfl (fun c_150 => ?_) (fun c_150 => ?_)
              ·
                refine aw_lload C dX9_ofKind_158 rfl (q := 160) rfl ?_
                obtain ⟨edg, e_edg⟩ : ∃ z, z = mo_edg (mo_of (s.1 18) s.2.1 kind e i).1 near (mo_of (s.1 18) s.2.1 kind e i).2.2.2 := ⟨_, rfl⟩
                refine aw_st0 (b := .long edg) (by rw [e_edg]; unfold mo_edg; rw [if_neg c_142, if_pos c_150]) ?_
                refine aw_lstore (ls' := [.ref o, .int g, .int kind, .int e, .long ((mo_of (s.1 18) s.2.1 kind e i).1), .retAddr 0, .long ((mo_of (s.1 18) s.2.1 kind e i).2.1), .retAddr 0, .long ((mo_of (s.1 18) s.2.1 kind e i).2.2.1), .retAddr 0, .long edg, .retAddr 0, .int (nI i), .int (mo_gr s.2.1 i), .long far, .retAddr 0, .long near, .retAddr 0]) C dX9_ofKind_160 (by decide) rfl (q := 162) rfl ?_
                refine aw_lload C dX9_ofKind_162 rfl (q := 164) rfl ?_
                refine aw_lconst (v := 1) C dX9_ofKind_164 (by decide) (q := 165) rfl ?_
                refine aw_ladd C dX9_ofKind_165 (q := 166) rfl ?_
                refine aw_lstore (ls' := [.ref o, .int g, .int kind, .int e, .long (((mo_of (s.1 18) s.2.1 kind e i).1) + 1), .retAddr 0, .long ((mo_of (s.1 18) s.2.1 kind e i).2.1), .retAddr 0, .long ((mo_of (s.1 18) s.2.1 kind e i).2.2.1), .retAddr 0, .long edg, .retAddr 0, .int (nI i), .int (mo_gr s.2.1 i), .long far, .retAddr 0, .long near, .retAddr 0]) C dX9_ofKind_166 (by decide) rfl (q := 168) rfl ?_
                refine aw_lload C dX9_ofKind_168 rfl (q := 170) rfl ?_
                refine aw_aload_n C dX9_ofKind_170 rfl rfl (q := 171) rfl ?_
                refine gfX9_53_9 (v := .ref (md 25)) C dX9_ofKind_171 K.1 rfl (q := 174) rfl ?_
                refine aw_iload C dX9_ofKind_174 rfl (q := 176) rfl ?_
                refine ay_iald (N := 10) (f := s.2.1 25) (j := i) C dX9_ofKind_176 (K.2.1 25 (by decide)) (vp_in_nI (by omega) (by decide)) (nI_clamp (by omega)) (q := 177) rfl ?_
                refine aw_i2l C dX9_ofKind_177 (q := 178) rfl ?_
                refine aw_aload_n C dX9_ofKind_178 rfl rfl (q := 179) rfl ?_
                refine gfX9_56_9 (v := .ref (md 26)) C dX9_ofKind_179 K.1 rfl (q := 182) rfl ?_
                refine aw_iload C dX9_ofKind_182 rfl (q := 184) rfl ?_
                refine ay_iald (N := 10) (f := s.2.1 26) (j := i) C dX9_ofKind_184 (K.2.1 26 (by decide)) (vp_in_nI (by omega) (by decide)) (nI_clamp (by omega)) (q := 185) rfl ?_
                refine aw_i2l C dX9_ofKind_185 (q := 186) rfl ?_
                refine aw_lmul C dX9_ofKind_186 (q := 187) rfl ?_
                refine aw_ladd C dX9_ofKind_187 (q := 188) rfl ?_
                refine aw_lstore (ls' := [.ref o, .int g, .int kind, .int e, .long (((mo_of (s.1 18) s.2.1 kind e i).1) + 1), .retAddr 0, .long (((mo_of (s.1 18) s.2.1 kind e i).2.1) + ((((s.2.1 25) i).toInt64) * (((s.2.1 26) i).toInt64))), .retAddr 0, .long ((mo_of (s.1 18) s.2.1 kind e i).2.2.1), .retAddr 0, .long edg, .retAddr 0, .int (nI i), .int (mo_gr s.2.1 i), .long far, .retAddr 0, .long near, .retAddr 0]) C dX9_ofKind_188 (by decide) rfl (q := 190) rfl ?_
                refine aw_iload C dX9_ofKind_190 rfl (q := 192) rfl ?_
                refine aw_i2l C dX9_ofKind_192 (q := 193) rfl ?_
                refine aw_lload C dX9_ofKind_193 rfl (q := 195) rfl ?_
                refine aw_lcmp C dX9_ofKind_195 (q := 196) rfl ?_
                refine aw_if_le (t := 205) (q := 199) C dX9_ofKind_196 (by decide) rfl (fun c_196 => ?_) (fun c_196 => ?_)
                ·
                  refine aw_lload C dX9_ofKind_205 rfl (q := 207) rfl ?_
                  refine aw_st0 (b := .long (mo_siz (mo_gr s.2.1 i).toInt64 (mo_of (s.1 18) s.2.1 kind e i).2.2.1)) (by unfold mo_siz; rw [if_pos c_196]) ?_
                  refine aw_lstore (ls' := [.ref o, .int g, .int kind, .int e, .long (((mo_of (s.1 18) s.2.1 kind e i).1) + 1), .retAddr 0, .long (((mo_of (s.1 18) s.2.1 kind e i).2.1) + ((((s.2.1 25) i).toInt64) * (((s.2.1 26) i).toInt64))), .retAddr 0, .long (mo_siz (mo_gr s.2.1 i).toInt64 (mo_of (s.1 18) s.2.1 kind e i).2.2.1), .retAddr 0, .long edg, .retAddr 0, .int (nI i), .int (mo_gr s.2.1 i), .long far, .retAddr 0, .long near, .retAddr 0]) C dX9_ofKind_207 (by decide) rfl (q := 209) rfl ?_
                  refine aw_iinc (v := nI (i + 1)) (ls' := [.ref o, .int g, .int kind, .int e, .long (((mo_of (s.1 18) s.2.1 kind e i).1) + 1), .retAddr 0, .long (((mo_of (s.1 18) s.2.1 kind e i).2.1) + ((((s.2.1 25) i).toInt64) * (((s.2.1 26) i).toInt64))), .retAddr 0, .long (mo_siz (mo_gr s.2.1 i).toInt64 (mo_of (s.1 18) s.2.1 kind e i).2.2.1), .retAddr 0, .long edg, .retAddr 0, .int (nI (i + 1)), .int (mo_gr s.2.1 i), .long far, .retAddr 0, .long near, .retAddr 0]) C dX9_ofKind_209 rfl (nI_1 i) (by decide) rfl (q := 212) rfl ?_
                  refine aw_goto (q := 19) C dX9_ofKind_212 (by decide) ?_
                  subst e_edg e_near e_far
                  have z := ih (i + 1) (.int (mo_gr s.2.1 i)) (.long (mo_far (s.1 18) s.2.1 i)) (.retAddr 0) (.long (mo_near (s.1 18) s.2.1 i)) (.retAddr 0) (by omega)
                  rw [show mo_of (s.1 18) s.2.1 kind e (i + 1) = _ from if_pos ⟨pb_n c_34, c_45⟩] at z
                  exact z
                ·
                  refine aw_iload C dX9_ofKind_199 rfl (q := 201) rfl ?_
                  refine aw_i2l C dX9_ofKind_201 (q := 202) rfl ?_
                  refine aw_goto (q := 207) C dX9_ofKind_202 (by decide) ?_
                  refine aw_st0 (b := .long (mo_siz (mo_gr s.2.1 i).toInt64 (mo_of (s.1 18) s.2.1 kind e i).2.2.1)) (by unfold mo_siz; rw [if_neg c_196]) ?_
                  refine aw_lstore (ls' := [.ref o, .int g, .int kind, .int e, .long (((mo_of (s.1 18) s.2.1 kind e i).1) + 1), .retAddr 0, .long (((mo_of (s.1 18) s.2.1 kind e i).2.1) + ((((s.2.1 25) i).toInt64) * (((s.2.1 26) i).toInt64))), .retAddr 0, .long (mo_siz (mo_gr s.2.1 i).toInt64 (mo_of (s.1 18) s.2.1 kind e i).2.2.1), .retAddr 0, .long edg, .retAddr 0, .int (nI i), .int (mo_gr s.2.1 i), .long far, .retAddr 0, .long near, .retAddr 0]) C dX9_ofKind_207 (by decide) rfl (q := 209) rfl ?_
                  refine aw_iinc (v := nI (i + 1)) (ls' := [.ref o, .int g, .int kind, .int e, .long (((mo_of (s.1 18) s.2.1 kind e i).1) + 1), .retAddr 0, .long (((mo_of (s.1 18) s.2.1 kind e i).2.1) + ((((s.2.1 25) i).toInt64) * (((s.2.1 26) i).toInt64))), .retAddr 0, .long (mo_siz (mo_gr s.2.1 i).toInt64 (mo_of (s.1 18) s.2.1 kind e i).2.2.1), .retAddr 0, .long edg, .retAddr 0, .int (nI (i + 1)), .int (mo_gr s.2.1 i), .long far, .retAddr 0, .long near, .retAddr 0]) C dX9_ofKind_209 rfl (nI_1 i) (by decide) rfl (q := 212) rfl ?_
                  refine aw_goto (q := 19) C dX9_ofKind_212 (by decide) ?_
                  subst e_edg e_near e_far
                  have z := ih (i + 1) (.int (mo_gr s.2.1 i)) (.long (mo_far (s.1 18) s.2.1 i)) (.retAddr 0) (.long (mo_near (s.1 18) s.2.1 i)) (.retAddr 0) (by omega)
                  rw [show mo_of (s.1 18) s.2.1 kind e (i + 1) = _ from if_pos ⟨pb_n c_34, c_45⟩] at z
                  exact z
              ·
                refine aw_lload C dX9_ofKind_153 rfl (q := 155) rfl ?_
                refine aw_goto (q := 160) C dX9_ofKind_155 (by decide) ?_
                obtain ⟨edg, e_edg⟩ : ∃ z, z = mo_edg (mo_of (s.1 18) s.2.1 kind e i).1 near (mo_of (s.1 18) s.2.1 kind e i).2.2.2 := ⟨_, rfl⟩
                refine aw_st0 (b := .long edg) (by rw [e_edg]; unfold mo_edg; rw [if_neg c_142, if_neg c_150]) ?_
                refine aw_lstore (ls' := [.ref o, .int g, .int kind, .int e, .long ((mo_of (s.1 18) s.2.1 kind e i).1), .retAddr 0, .long ((mo_of (s.1 18) s.2.1 kind e i).2.1), .retAddr 0, .long ((mo_of (s.1 18) s.2.1 kind e i).2.2.1), .retAddr 0, .long edg, .retAddr 0, .int (nI i), .int (mo_gr s.2.1 i), .long far, .retAddr 0, .long near, .retAddr 0]) C dX9_ofKind_160 (by decide) rfl (q := 162) rfl ?_
                refine aw_lload C dX9_ofKind_162 rfl (q := 164) rfl ?_
                refine aw_lconst (v := 1) C dX9_ofKind_164 (by decide) (q := 165) rfl ?_
                refine aw_ladd C dX9_ofKind_165 (q := 166) rfl ?_
                refine aw_lstore (ls' := [.ref o, .int g, .int kind, .int e, .long (((mo_of (s.1 18) s.2.1 kind e i).1) + 1), .retAddr 0, .long ((mo_of (s.1 18) s.2.1 kind e i).2.1), .retAddr 0, .long ((mo_of (s.1 18) s.2.1 kind e i).2.2.1), .retAddr 0, .long edg, .retAddr 0, .int (nI i), .int (mo_gr s.2.1 i), .long far, .retAddr 0, .long near, .retAddr 0]) C dX9_ofKind_166 (by decide) rfl (q := 168) rfl ?_
                refine aw_lload C dX9_ofKind_168 rfl (q := 170) rfl ?_
                refine aw_aload_n C dX9_ofKind_170 rfl rfl (q := 171) rfl ?_
                refine gfX9_53_9 (v := .ref (md 25)) C dX9_ofKind_171 K.1 rfl (q := 174) rfl ?_
                refine aw_iload C dX9_ofKind_174 rfl (q := 176) rfl ?_
                refine ay_iald (N := 10) (f := s.2.1 25) (j := i) C dX9_ofKind_176 (K.2.1 25 (by decide)) (vp_in_nI (by omega) (by decide)) (nI_clamp (by omega)) (q := 177) rfl ?_
                refine aw_i2l C dX9_ofKind_177 (q := 178) rfl ?_
                refine aw_aload_n C dX9_ofKind_178 rfl rfl (q := 179) rfl ?_
                refine gfX9_56_9 (v := .ref (md 26)) C dX9_ofKind_179 K.1 rfl (q := 182) rfl ?_
                refine aw_iload C dX9_ofKind_182 rfl (q := 184) rfl ?_
                refine ay_iald (N := 10) (f := s.2.1 26) (j := i) C dX9_ofKind_184 (K.2.1 26 (by decide)) (vp_in_nI (by omega) (by decide)) (nI_clamp (by omega)) (q := 185) rfl ?_
                refine aw_i2l C dX9_ofKind_185 (q := 186) rfl ?_
                refine aw_lmul C dX9_ofKind_186 (q := 187) rfl ?_
                refine aw_ladd C dX9_ofKind_187 (q := 188) rfl ?_
                refine aw_lstore (ls' := [.ref o, .int g, .int kind, .int e, .long (((mo_of (s.1 18) s.2.1 kind e i).1) + 1), .retAddr 0, .long (((mo_of (s.1 18) s.2.1 kind e i).2.1) + ((((s.2.1 25) i).toInt64) * (((s.2.1 26) i).toInt64))), .retAddr 0, .long ((mo_of (s.1 18) s.2.1 kind e i).2.2.1), .retAddr 0, .long edg, .retAddr 0, .int (nI i), .int (mo_gr s.2.1 i), .long far, .retAddr 0, .long near, .retAddr 0]) C dX9_ofKind_188 (by decide) rfl (q := 190) rfl ?_
                refine aw_iload C dX9_ofKind_190 rfl (q := 192) rfl ?_
                refine aw_i2l C dX9_ofKind_192 (q := 193) rfl ?_
                refine aw_lload C dX9_ofKind_193 rfl (q := 195) rfl ?_
                refine aw_lcmp C dX9_ofKind_195 (q := 196) rfl ?_
                refine aw_if_le (t := 205) (q := 199) C dX9_ofKind_196 (by decide) rfl (fun c_196 => ?_) (fun c_196 => ?_)
                ·
                  refine aw_lload C dX9_ofKind_205 rfl (q := 207) rfl ?_
                  refine aw_st0 (b := .long (mo_siz (mo_gr s.2.1 i).toInt64 (mo_of (s.1 18) s.2.1 kind e i).2.2.1)) (by unfold mo_siz; rw [if_pos c_196]) ?_
                  refine aw_lstore (ls' := [.ref o, .int g, .int kind, .int e, .long (((mo_of (s.1 18) s.2.1 kind e i).1) + 1), .retAddr 0, .long (((mo_of (s.1 18) s.2.1 kind e i).2.1) + ((((s.2.1 25) i).toInt64) * (((s.2.1 26) i).toInt64))), .retAddr 0, .long (mo_siz (mo_gr s.2.1 i).toInt64 (mo_of (s.1 18) s.2.1 kind e i).2.2.1), .retAddr 0, .long edg, .retAddr 0, .int (nI i), .int (mo_gr s.2.1 i), .long far, .retAddr 0, .long near, .retAddr 0]) C dX9_ofKind_207 (by decide) rfl (q := 209) rfl ?_
                  refine aw_iinc (v := nI (i + 1)) (ls' := [.ref o, .int g, .int kind, .int e, .long (((mo_of (s.1 18) s.2.1 kind e i).1) + 1), .retAddr 0, .long (((mo_of (s.1 18) s.2.1 kind e i).2.1) + ((((s.2.1 25) i).toInt64) * (((s.2.1 26) i).toInt64))), .retAddr 0, .long (mo_siz (mo_gr s.2.1 i).toInt64 (mo_of (s.1 18) s.2.1 kind e i).2.2.1), .retAddr 0, .long edg, .retAddr 0, .int (nI (i + 1)), .int (mo_gr s.2.1 i), .long far, .retAddr 0, .long near, .retAddr 0]) C dX9_ofKind_209 rfl (nI_1 i) (by decide) rfl (q := 212) rfl ?_
                  refine aw_goto (q := 19) C dX9_ofKind_212 (by decide) ?_
                  subst e_edg e_near e_far
                  have z := ih (i + 1) (.int (mo_gr s.2.1 i)) (.long (mo_far (s.1 18) s.2.1 i)) (.retAddr 0) (.long (mo_near (s.1 18) s.2.1 i)) (.retAddr 0) (by omega)
                  rw [show mo_of (s.1 18) s.2.1 kind e (i + 1) = _ from if_pos ⟨pb_n c_34, c_45⟩] at z
                  exact z
                ·
                  refine aw_iload C dX9_ofKind_199 rfl (q := 201) rfl ?_
                  refine aw_i2l C dX9_ofKind_201 (q := 202) rfl ?_
                  refine aw_goto (q := 207) C dX9_ofKind_202 (by decide) ?_
                  refine aw_st0 (b := .long (mo_siz (mo_gr s.2.1 i).toInt64 (mo_of (s.1 18) s.2.1 kind e i).2.2.1)) (by unfold mo_siz; rw [if_neg c_196]) ?_
                  refine aw_lstore (ls' := [.ref o, .int g, .int kind, .int e, .long (((mo_of (s.1 18) s.2.1 kind e i).1) + 1), .retAddr 0, .long (((mo_of (s.1 18) s.2.1 kind e i).2.1) + ((((s.2.1 25) i).toInt64) * (((s.2.1 26) i).toInt64))), .retAddr 0, .long (mo_siz (mo_gr s.2.1 i).toInt64 (mo_of (s.1 18) s.2.1 kind e i).2.2.1), .retAddr 0, .long edg, .retAddr 0, .int (nI i), .int (mo_gr s.2.1 i), .long far, .retAddr 0, .long near, .retAddr 0]) C dX9_ofKind_207 (by decide) rfl (q := 209) rfl ?_
                  refine aw_iinc (v := nI (i + 1)) (ls' := [.ref o, .int g, .int kind, .int e, .long (((mo_of (s.1 18) s.2.1 kind e i).1) + 1), .retAddr 0, .long (((mo_of (s.1 18) s.2.1 kind e i).2.1) + ((((s.2.1 25) i).toInt64) * (((s.2.1 26) i).toInt64))), .retAddr 0, .long (mo_siz (mo_gr s.2.1 i).toInt64 (mo_of (s.1 18) s.2.1 kind e i).2.2.1), .retAddr 0, .long edg, .retAddr 0, .int (nI (i + 1)), .int (mo_gr s.2.1 i), .long far, .retAddr 0, .long near, .retAddr 0]) C dX9_ofKind_209 rfl (nI_1 i) (by decide) rfl (q := 212) rfl ?_
                  refine aw_goto (q := 19) C dX9_ofKind_212 (by decide) ?_
                  subst e_edg e_near e_far
                  have z := ih (i + 1) (.int (mo_gr s.2.1 i)) (.long (mo_far (s.1 18) s.2.1 i)) (.retAddr 0) (.long (mo_near (s.1 18) s.2.1 i)) (.retAddr 0) (by omega)
                  rw [show mo_of (s.1 18) s.2.1 kind e (i + 1) = _ from if_pos ⟨pb_n c_34, c_45⟩] at z
                  exact z
set_option maxHeartbeats 4000000 in
set_option maxRecDepth 100000 in
theorem m_ofKind (G : ac_G) (l : Launch) (o : Nat) (md : Nat → Nat) (hm : md_inj md) (h : ac_H) (d : Nat) (s : md_S) (K : md_ok h o md s) (c : Nat) (hc : s.1 20 = nI c) (hc10 : c ≤ 10) (g kind e : Int32) : ac_Met G l yX9_ofKind cX9_ofKind 18 (some .long) (d + 1) 0 0 [.ref o, .int g, .int kind, .int e] h (pq h (some (.long (mo_ofk (s.1 18) s.2.1 g kind e c)))) := by
  refine ac_of (ls := [.ref o, .int g, .int kind, .int e, .retAddr 0, .retAddr 0, .retAddr 0, .retAddr 0, .retAddr 0, .retAddr 0, .retAddr 0, .retAddr 0, .retAddr 0, .retAddr 0, .retAddr 0, .retAddr 0, .retAddr 0, .retAddr 0]) (by decide +kernel) rfl (Nat.le_of_ble_eq_true rfl) (fun M hl C B E hnm => ?_)
  refine aw_lconst (v := 0) C dX9_ofKind_0 (by decide) (q := 1) rfl ?_
  refine aw_lstore (ls' := [.ref o, .int g, .int kind, .int e, .long 0, .retAddr 0, .retAddr 0, .retAddr 0, .retAddr 0, .retAddr 0, .retAddr 0, .retAddr 0, .retAddr 0, .retAddr 0, .retAddr 0, .retAddr 0, .retAddr 0, .retAddr 0]) C dX9_ofKind_1 (by decide) rfl (q := 3) rfl ?_
  refine aw_lconst (v := 0) C dX9_ofKind_3 (by decide) (q := 4) rfl ?_
  refine aw_lstore (ls' := [.ref o, .int g, .int kind, .int e, .long 0, .retAddr 0, .long 0, .retAddr 0, .retAddr 0, .retAddr 0, .retAddr 0, .retAddr 0, .retAddr 0, .retAddr 0, .retAddr 0, .retAddr 0, .retAddr 0, .retAddr 0]) C dX9_ofKind_4 (by decide) rfl (q := 6) rfl ?_
  refine aw_lconst (v := 0) C dX9_ofKind_6 (by decide) (q := 7) rfl ?_
  refine aw_lstore (ls' := [.ref o, .int g, .int kind, .int e, .long 0, .retAddr 0, .long 0, .retAddr 0, .long 0, .retAddr 0, .retAddr 0, .retAddr 0, .retAddr 0, .retAddr 0, .retAddr 0, .retAddr 0, .retAddr 0, .retAddr 0]) C dX9_ofKind_7 (by decide) rfl (q := 9) rfl ?_
  refine aw_aload_n C dX9_ofKind_9 rfl rfl (q := 10) rfl ?_
  refine gfX9_207_9 (v := .int (s.1 18)) C dX9_ofKind_10 K.1 rfl (q := 13) rfl ?_
  refine aw_i2l C dX9_ofKind_13 (q := 14) rfl ?_
  refine aw_lstore (ls' := [.ref o, .int g, .int kind, .int e, .long 0, .retAddr 0, .long 0, .retAddr 0, .long 0, .retAddr 0, .long ((s.1 18).toInt64), .retAddr 0, .retAddr 0, .retAddr 0, .retAddr 0, .retAddr 0, .retAddr 0, .retAddr 0]) C dX9_ofKind_14 (by decide) rfl (q := 16) rfl ?_
  refine aw_iconst (v := 0) C dX9_ofKind_16 (by decide) (q := 17) rfl ?_
  refine aw_istore (ls' := [.ref o, .int g, .int kind, .int e, .long 0, .retAddr 0, .long 0, .retAddr 0, .long 0, .retAddr 0, .long ((s.1 18).toInt64), .retAddr 0, .int 0, .retAddr 0, .retAddr 0, .retAddr 0, .retAddr 0, .retAddr 0]) C dX9_ofKind_17 (by decide) rfl (q := 19) rfl ?_
  exact ml_ofKind hm K hc hc10 C B E c 0 _ _ _ _ _ (by omega)
def mo_plain (s : md_S) (g a e : Int32) (c : Nat) : Int64 := if g = 1 then a.toInt64 else if g = 2 then (s.1 17).toInt64 else if g = 3 then (s.1 18).toInt64 else if g = 4 then (s.1 19).toInt64 else mo_ofk (s.1 18) s.2.1 g a e c
def mo_bef (s : md_S) (g a : Int32) (v : Int64) (e : Int32) (c : Nat) : Int64 × md_S := if g = 9 then (mo_worst s.2.1 a v 0 e c, s) else if g = 11 then (-v, s) else if gt_bl v.toInt32 2 then (mo_onF (s.2.1 21) v.toInt32 e c, (upd s.1 29 0, s.2.1, s.2.2)) else (0, (upd s.1 29 2, s.2.1, s.2.2))
set_option maxHeartbeats 4000000 in
set_option maxRecDepth 100000 in
theorem m_plain (G : ac_G) (l : Launch) (o : Nat) (md : Nat → Nat) (hm : md_inj md) (h : ac_H) (d : Nat) (s : md_S) (K : md_ok h o md s) (c : Nat) (hc : s.1 20 = nI c) (hc10 : c ≤ 10) (g a e : Int32) : ac_Met G l yX9_plain cX9_plain 4 (some .long) (d + 2) 0 0 [.ref o, .int g, .int a, .int e] h (pq h (some (.long (mo_plain s g a e c)))) := by
  refine ac_of (ls := [.ref o, .int g, .int a, .int e]) (by decide +kernel) rfl (Nat.le_of_ble_eq_true rfl) (fun M hl C B E hnm => ?_)
  refine aw_iload_n C dX9_plain_0 rfl rfl (q := 1) rfl ?_
  refine aw_iconst (v := 1) C dX9_plain_1 (by decide) (q := 2) rfl ?_
  refine aw_icmp_ne (t := 8) (q := 5) C dX9_plain_2 (by decide) rfl (fun c_2 => ?_) (fun c_2 => ?_)
  ·
    refine aw_iload_n C dX9_plain_8 rfl rfl (q := 9) rfl ?_
    refine aw_iconst (v := 2) C dX9_plain_9 (by decide) (q := 10) rfl ?_
    refine aw_icmp_ne (t := 21) (q := 13) C dX9_plain_10 (by decide) rfl (fun c_10 => ?_) (fun c_10 => ?_)
    ·
      refine aw_iload_n C dX9_plain_21 rfl rfl (q := 22) rfl ?_
      refine aw_iconst (v := 3) C dX9_plain_22 (by decide) (q := 23) rfl ?_
      refine aw_icmp_ne (t := 34) (q := 26) C dX9_plain_23 (by decide) rfl (fun c_23 => ?_) (fun c_23 => ?_)
      ·
        refine aw_iload_n C dX9_plain_34 rfl rfl (q := 35) rfl ?_
        refine aw_iconst (v := 4) C dX9_plain_35 (by decide) (q := 36) rfl ?_
        refine aw_icmp_ne (t := 47) (q := 39) C dX9_plain_36 (by decide) rfl (fun c_36 => ?_) (fun c_36 => ?_)
        ·
          refine aw_aload_n C dX9_plain_47 rfl rfl (q := 48) rfl ?_
          refine aw_iload_n C dX9_plain_48 rfl rfl (q := 49) rfl ?_
          refine aw_iload_n C dX9_plain_49 rfl rfl (q := 50) rfl ?_
          refine aw_iload_n C dX9_plain_50 rfl rfl (q := 51) rfl ?_
          refine cvX9_223_9 (As := [.int g, .int a, .int e]) (rest := []) C B dX9_plain_51 K.1 (m_ofKind G M.2.1 o md hm h d (s.1, s.2.1, s.2.2) K c hc hc10 g a e) rfl rfl (Nat.le_of_ble_eq_true rfl) (by omega) (by omega) (by omega) (q := 54) rfl (fun r9 h9 hr9 => ?_)
          obtain ⟨e9, er9⟩ := hr9
          subst er9; rw [e9]
          show aw G 4 M 54 [.ref o, .int g, .int a, .int e] [.long (mo_ofk (s.1 18) s.2.1 g a e c)] h 0 0
          refine aw_lret C E dX9_plain_54 (Nat.le_refl _) (Nat.le_refl _) ?_
          exact ⟨rfl, by unfold mo_plain; rw [if_neg c_2, if_neg c_10, if_neg c_23, if_neg c_36]⟩
        ·
          refine aw_aload_n C dX9_plain_39 rfl rfl (q := 40) rfl ?_
          refine gfX9_210_9 (v := .int (s.1 19)) C dX9_plain_40 K.1 rfl (q := 43) rfl ?_
          refine aw_i2l C dX9_plain_43 (q := 44) rfl ?_
          refine aw_goto (q := 54) C dX9_plain_44 (by decide) ?_
          refine aw_lret C E dX9_plain_54 (Nat.le_refl _) (Nat.le_refl _) ?_
          exact ⟨rfl, by unfold mo_plain; rw [if_neg c_2, if_neg c_10, if_neg c_23, if_pos c_36]⟩
      ·
        refine aw_aload_n C dX9_plain_26 rfl rfl (q := 27) rfl ?_
        refine gfX9_207_9 (v := .int (s.1 18)) C dX9_plain_27 K.1 rfl (q := 30) rfl ?_
        refine aw_i2l C dX9_plain_30 (q := 31) rfl ?_
        refine aw_goto (q := 54) C dX9_plain_31 (by decide) ?_
        refine aw_lret C E dX9_plain_54 (Nat.le_refl _) (Nat.le_refl _) ?_
        exact ⟨rfl, by unfold mo_plain; rw [if_neg c_2, if_neg c_10, if_pos c_23]⟩
    ·
      refine aw_aload_n C dX9_plain_13 rfl rfl (q := 14) rfl ?_
      refine gfX9_204_9 (v := .int (s.1 17)) C dX9_plain_14 K.1 rfl (q := 17) rfl ?_
      refine aw_i2l C dX9_plain_17 (q := 18) rfl ?_
      refine aw_goto (q := 54) C dX9_plain_18 (by decide) ?_
      refine aw_lret C E dX9_plain_54 (Nat.le_refl _) (Nat.le_refl _) ?_
      exact ⟨rfl, by unfold mo_plain; rw [if_neg c_2, if_pos c_10]⟩
  ·
    refine aw_iload_n C dX9_plain_5 rfl rfl (q := 6) rfl ?_
    refine aw_i2l C dX9_plain_6 (q := 7) rfl ?_
    refine aw_lret C E dX9_plain_7 (Nat.le_refl _) (Nat.le_refl _) ?_
    exact ⟨rfl, by unfold mo_plain; rw [if_pos c_2]⟩
set_option maxHeartbeats 4000000 in
set_option maxRecDepth 100000 in
theorem m_before (G : ac_G) (l : Launch) (o : Nat) (md : Nat → Nat) (hm : md_inj md) (h : ac_H) (d : Nat) (s : md_S) (K : md_ok h o md s) (c : Nat) (hc : s.1 20 = nI c) (hc10 : c ≤ 10) (g a : Int32) (v : Int64) (e : Int32) : ac_Met G l yX9_before cX9_before 7 (some .long) (d + 2) 0 0 [.ref o, .int g, .int a, .long v, .int e] h (fun r9 h9 => r9 = some (.long (mo_bef s g a v e c).1) ∧ md_ok h9 o md (mo_bef s g a v e c).2 ∧ kp h h9 (md_L o md)) := by
  refine ac_of (ls := [.ref o, .int g, .int a, .long v, .retAddr 0, .int e, .retAddr 0]) (by decide +kernel) rfl (Nat.le_of_ble_eq_true rfl) (fun M hl C B E hnm => ?_)
  refine aw_iload_n C dX9_before_0 rfl rfl (q := 1) rfl ?_
  refine aw_bipush (v := 9) C dX9_before_1 (by decide) (q := 3) rfl ?_
  refine aw_icmp_ne (t := 16) (q := 6) C dX9_before_3 (by decide) rfl (fun c_3 => ?_) (fun c_3 => ?_)
  ·
    refine aw_iload_n C dX9_before_16 rfl rfl (q := 17) rfl ?_
    refine aw_bipush (v := 11) C dX9_before_17 (by decide) (q := 19) rfl ?_
    refine aw_icmp_ne (t := 25) (q := 22) C dX9_before_19 (by decide) rfl (fun c_19 => ?_) (fun c_19 => ?_)
    ·
      refine aw_lload_n C dX9_before_25 rfl rfl (q := 26) rfl ?_
      refine aw_l2i C dX9_before_26 (q := 27) rfl ?_
      refine aw_istore (ls' := [.ref o, .int g, .int a, .long v, .retAddr 0, .int e, .int v.toInt32]) C dX9_before_27 (by decide) rfl (q := 29) rfl ?_
      refine aw_aload_n C dX9_before_29 rfl rfl (q := 30) rfl ?_
      refine aw_iload C dX9_before_30 rfl (q := 32) rfl ?_
      refine aw_if_lt (t := 41) (q := 35) C dX9_before_32 (by decide) rfl (fun c_32 => ?_) (fun c_32 => ?_)
      ·
        refine aw_iconst (v := 2) C dX9_before_41 (by decide) (q := 42) rfl ?_
        refine aw_goto (q := 46) C dX9_before_42 (by decide) ?_
        refine pfX9_231_9 C dX9_before_46 K.1 rfl rfl (Nat.le_of_ble_eq_true rfl) (q := 49) rfl ?_
        show aw G 7 M 49 [.ref o, .int g, .int a, .long v, .retAddr 0, .int e, .int v.toInt32] [] (ac_up h o (.inr (9, md_fs md ((upd s.1 29 2, s.2.1, s.2.2).1)))) 0 0
        obtain ⟨h_1, eh_1⟩ : ∃ z9, z9 = ac_up h o (.inr (9, md_fs md ((upd s.1 29 2, s.2.1, s.2.2).1))) := ⟨_, rfl⟩
        rw [← eh_1]
        have kpx_4 : kp h h_1 [o] := by rw [eh_1]; exact kp_up (kp_cons o kp_rf) _ _ (by simp)
        have K_2 : md_ok h_1 o md (upd s.1 29 2, s.2.1, s.2.2) := md_J (s := (s.1, s.2.1, s.2.2)) K (by rw [eh_1]; exact ac_up_s _ _ _) kpx_4
        have kq_3 : kp h h_1 (md_L o md) := kp_mono kpx_4 md_s0
        refine aw_aload_n C dX9_before_49 rfl rfl (q := 50) rfl ?_
        refine gfX9_231_9 (v := .int 2) C dX9_before_50 K_2.1 rfl (q := 53) rfl ?_
        refine aw_if_le (t := 60) (q := 56) C dX9_before_53 (by decide) rfl (fun c_53 => absurd c_53 (by decide)) (fun c_53 => ?_)
        refine aw_lconst (v := 0) C dX9_before_56 (by decide) (q := 57) rfl ?_
        refine aw_goto (q := 68) C dX9_before_57 (by decide) ?_
        refine aw_lret C E dX9_before_68 (Nat.le_refl _) (Nat.le_refl _) ?_
        rw [show mo_bef s g a v e c = (0, (upd s.1 29 2, s.2.1, s.2.2)) from by unfold mo_bef; rw [if_neg c_3, if_neg c_19, if_neg (fun z => z.1 c_32)]]
        exact ⟨rfl, K_2, kq_3⟩
      ·
        refine aw_iload C dX9_before_35 rfl (q := 37) rfl ?_
        refine aw_iconst (v := 1) C dX9_before_37 (by decide) (q := 38) rfl ?_
        refine aw_icmp_le (t := 45) (q := 41) C dX9_before_38 (by decide) rfl (fun c_38 => ?_) (fun c_38 => ?_)
        ·
          refine aw_iconst (v := 0) C dX9_before_45 (by decide) (q := 46) rfl ?_
          refine pfX9_231_9 C dX9_before_46 K.1 rfl rfl (Nat.le_of_ble_eq_true rfl) (q := 49) rfl ?_
          show aw G 7 M 49 [.ref o, .int g, .int a, .long v, .retAddr 0, .int e, .int v.toInt32] [] (ac_up h o (.inr (9, md_fs md ((upd s.1 29 0, s.2.1, s.2.2).1)))) 0 0
          obtain ⟨h_5, eh_5⟩ : ∃ z9, z9 = ac_up h o (.inr (9, md_fs md ((upd s.1 29 0, s.2.1, s.2.2).1))) := ⟨_, rfl⟩
          rw [← eh_5]
          have kpx_8 : kp h h_5 [o] := by rw [eh_5]; exact kp_up (kp_cons o kp_rf) _ _ (by simp)
          have K_6 : md_ok h_5 o md (upd s.1 29 0, s.2.1, s.2.2) := md_J (s := (s.1, s.2.1, s.2.2)) K (by rw [eh_5]; exact ac_up_s _ _ _) kpx_8
          have kq_7 : kp h h_5 (md_L o md) := kp_mono kpx_8 md_s0
          refine aw_aload_n C dX9_before_49 rfl rfl (q := 50) rfl ?_
          refine gfX9_231_9 (v := .int 0) C dX9_before_50 K_6.1 rfl (q := 53) rfl ?_
          refine aw_if_le (t := 60) (q := 56) C dX9_before_53 (by decide) rfl (fun c_53 => ?_) (fun c_53 => absurd c_53 (by decide))
          refine aw_aload_n C dX9_before_60 rfl rfl (q := 61) rfl ?_
          refine aw_iload C dX9_before_61 rfl (q := 63) rfl ?_
          refine aw_iload C dX9_before_63 rfl (q := 65) rfl ?_
          refine cvX9_216_9 (As := [.int v.toInt32, .int e]) (rest := []) C B dX9_before_65 K_6.1 (m_onFace G M.2.1 o md hm h_5 d (upd s.1 29 0, s.2.1, s.2.2) K_6 c hc hc10 v.toInt32 e) rfl rfl (Nat.le_of_ble_eq_true rfl) (by omega) (by omega) (by omega) (q := 68) rfl (fun r9 h9 hr9 => ?_)
          obtain ⟨e9, er9⟩ := hr9
          subst er9; rw [e9]
          show aw G 7 M 68 [.ref o, .int g, .int a, .long v, .retAddr 0, .int e, .int v.toInt32] [.long (mo_onF (s.2.1 21) v.toInt32 e c)] h_5 0 0
          refine aw_lret C E dX9_before_68 (Nat.le_refl _) (Nat.le_refl _) ?_
          rw [show mo_bef s g a v e c = (mo_onF (s.2.1 21) v.toInt32 e c, (upd s.1 29 0, s.2.1, s.2.2)) from by unfold mo_bef; rw [if_neg c_3, if_neg c_19, if_pos ⟨c_32, mo_2.mp c_38⟩]]
          exact ⟨rfl, K_6, kq_7⟩
        ·
          refine aw_iconst (v := 2) C dX9_before_41 (by decide) (q := 42) rfl ?_
          refine aw_goto (q := 46) C dX9_before_42 (by decide) ?_
          refine pfX9_231_9 C dX9_before_46 K.1 rfl rfl (Nat.le_of_ble_eq_true rfl) (q := 49) rfl ?_
          show aw G 7 M 49 [.ref o, .int g, .int a, .long v, .retAddr 0, .int e, .int v.toInt32] [] (ac_up h o (.inr (9, md_fs md ((upd s.1 29 2, s.2.1, s.2.2).1)))) 0 0
          obtain ⟨h_9, eh_9⟩ : ∃ z9, z9 = ac_up h o (.inr (9, md_fs md ((upd s.1 29 2, s.2.1, s.2.2).1))) := ⟨_, rfl⟩
          rw [← eh_9]
          have kpx_12 : kp h h_9 [o] := by rw [eh_9]; exact kp_up (kp_cons o kp_rf) _ _ (by simp)
          have K_10 : md_ok h_9 o md (upd s.1 29 2, s.2.1, s.2.2) := md_J (s := (s.1, s.2.1, s.2.2)) K (by rw [eh_9]; exact ac_up_s _ _ _) kpx_12
          have kq_11 : kp h h_9 (md_L o md) := kp_mono kpx_12 md_s0
          refine aw_aload_n C dX9_before_49 rfl rfl (q := 50) rfl ?_
          refine gfX9_231_9 (v := .int 2) C dX9_before_50 K_10.1 rfl (q := 53) rfl ?_
          refine aw_if_le (t := 60) (q := 56) C dX9_before_53 (by decide) rfl (fun c_53 => absurd c_53 (by decide)) (fun c_53 => ?_)
          refine aw_lconst (v := 0) C dX9_before_56 (by decide) (q := 57) rfl ?_
          refine aw_goto (q := 68) C dX9_before_57 (by decide) ?_
          refine aw_lret C E dX9_before_68 (Nat.le_refl _) (Nat.le_refl _) ?_
          rw [show mo_bef s g a v e c = (0, (upd s.1 29 2, s.2.1, s.2.2)) from by unfold mo_bef; rw [if_neg c_3, if_neg c_19, if_neg (fun z => c_38 (mo_2.mpr z.2))]]
          exact ⟨rfl, K_10, kq_11⟩
    ·
      refine aw_lload_n C dX9_before_22 rfl rfl (q := 23) rfl ?_
      refine aw_lneg C dX9_before_23 (q := 24) rfl ?_
      refine aw_lret C E dX9_before_24 (Nat.le_refl _) (Nat.le_refl _) ?_
      rw [show mo_bef s g a v e c = (-v, s) from by unfold mo_bef; rw [if_neg c_3, if_pos c_19]]
      exact ⟨rfl, K, (kp_mono kp_rf (by simp))⟩
  ·
    refine aw_aload_n C dX9_before_6 rfl rfl (q := 7) rfl ?_
    refine aw_iload_n C dX9_before_7 rfl rfl (q := 8) rfl ?_
    refine aw_lload_n C dX9_before_8 rfl rfl (q := 9) rfl ?_
    refine aw_iconst (v := 0) C dX9_before_9 (by decide) (q := 10) rfl ?_
    refine aw_iload C dX9_before_10 rfl (q := 12) rfl ?_
    refine cvX9_227_9 (As := [.int a, .long v, .int 0, .int e]) (rest := []) C B dX9_before_12 K.1 (m_worstOf G M.2.1 o md hm h d (s.1, s.2.1, s.2.2) K c hc hc10 a v 0 e) rfl rfl (Nat.le_of_ble_eq_true rfl) (by omega) (by omega) (by omega) (q := 15) rfl (fun r9 h9 hr9 => ?_)
    obtain ⟨e9, er9⟩ := hr9
    subst er9; rw [e9]
    show aw G 7 M 15 [.ref o, .int g, .int a, .long v, .retAddr 0, .int e, .retAddr 0] [.long (mo_worst s.2.1 a v 0 e c)] h 0 0
    refine aw_lret C E dX9_before_15 (Nat.le_refl _) (Nat.le_refl _) ?_
    rw [show mo_bef s g a v e c = (mo_worst s.2.1 a v 0 e c, s) from by unfold mo_bef; rw [if_pos c_3]]
    exact ⟨rfl, K, (kp_mono kp_rf (by simp))⟩
