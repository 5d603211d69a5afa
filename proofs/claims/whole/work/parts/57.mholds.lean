/-! The reference: holds, against the class's rk_hold -/
theorem eq_nx16 {g : Int32} {t t' : Nat} (hg : g = 16) (h : eq_nx g t = some t') : t = 2 ∧ t' = 0 := by
  unfold eq_nx at h; rw [if_pos hg] at h
  by_cases z : t = 2
  · rw [if_pos z] at h; exact ⟨z, (Option.some.inj h).symm⟩
  · rw [if_neg z] at h; cases h
theorem eq_nx8 {g : Int32} {t t' : Nat} (hg : ¬ g = 16) (h8 : ¬ 8 < g) (h : eq_nx g t = some t') : t < 32 ∧ t' = t + 1 := by
  unfold eq_nx at h; rw [if_neg hg, if_neg h8] at h
  by_cases z : t < 32
  · rw [if_pos z] at h; exact ⟨z, (Option.some.inj h).symm⟩
  · rw [if_neg z] at h; cases h
theorem eq_nx11 {g : Int32} {t t' : Nat} (hg : ¬ g = 16) (h8 : 8 < g) (h11 : ¬ 11 < g) (h : eq_nx g t = some t') : 1 ≤ t ∧ t' = t := by
  unfold eq_nx at h; rw [if_neg hg, if_pos h8, if_neg h11] at h
  by_cases z : 1 ≤ t
  · rw [if_pos z] at h; exact ⟨z, (Option.some.inj h).symm⟩
  · rw [if_neg z] at h; cases h
theorem eq_nx15 {g : Int32} {t t' : Nat} (hg : ¬ g = 16) (h8 : 8 < g) (h11 : 11 < g) (h : eq_nx g t = some t') : 2 ≤ t ∧ t' = t - 1 := by
  unfold eq_nx at h; rw [if_neg hg, if_pos h8, if_pos h11] at h
  by_cases z : 2 ≤ t
  · rw [if_pos z] at h; exact ⟨z, (Option.some.inj h).symm⟩
  · rw [if_neg z] at h; cases h
section
variable {I : Nat → Int32} {F : Nat → Nat → Int32} {c : Nat} {ab : Int32} {af of : Nat → Int32} {m i : Nat} {S S' : rk_S} {hd ca : Int32}
theorem rk_hold_c (h : eq_isc (af i)) (hc : rk_cmp (af i) (rk_top (rk_drop S)) (rk_top S) = true) : rk_hold I F c ab af of (m + 1) i S hd = rk_hold I F c ab af of m (i + 1) (rk_drop (rk_drop S)) (hd + 1) := by
  show (if eq_isc (af i) then _ else _) = _
  rw [if_pos h, if_pos hc]
theorem rk_hold_cf (h : eq_isc (af i)) (hc : ¬ rk_cmp (af i) (rk_top (rk_drop S)) (rk_top S) = true) : rk_hold I F c ab af of (m + 1) i S hd = (false, hd, 0) := by
  show (if eq_isc (af i) then _ else _) = _
  rw [if_pos h, if_neg hc]
theorem rk_hold_n (h : ¬ eq_isc (af i)) (hs : rk_step I F c (af i) (of i) ab S 0 = (S', ca)) (hc : ca = 0) : rk_hold I F c ab af of (m + 1) i S hd = rk_hold I F c ab af of m (i + 1) S' hd := by
  show (if eq_isc (af i) then _ else _) = _
  rw [if_neg h, hs]
  show (if ca = 0 then _ else _) = _
  rw [if_pos hc]
theorem rk_hold_o (h : ¬ eq_isc (af i)) (hs : rk_step I F c (af i) (of i) ab S 0 = (S', ca)) (hc : ¬ ca = 0) : rk_hold I F c ab af of (m + 1) i S hd = (false, hd, ca) := by
  show (if eq_isc (af i) then _ else _) = _
  rw [if_neg h, hs]
  show (if ca = 0 then _ else _) = _
  rw [if_neg hc]
end
abbrev mo_HQ (o : Nat) (md : Nat → Nat) (h : ac_H) (s : md_S) (R : Bool × Int32 × Int32) : Option Value → ac_H → Prop := fun r9 h9 => ∃ s' : md_S, r9 = some (.int (pb_b (R.1 = true))) ∧ md_ok h9 o md s' ∧ md_eq [28, 29, 30] [] [27] s s' ∧ s'.1 30 = R.2.1 ∧ s'.1 29 = R.2.2 ∧ (¬ R.2.2 = 0 → s'.1 28 = R.2.1) ∧ kp h h9 (md_L o md)
theorem mo_HQ_f {o : Nat} {md : Nat → Nat} {h h9 : ac_H} {s s' : md_S} {R : Bool × Int32 × Int32} {hd ca : Int32} (e : R = (false, hd, ca)) (K : md_ok h9 o md s') (q : md_eq [28, 29, 30] [] [27] s s') (h30 : s'.1 30 = hd) (h29 : s'.1 29 = ca) (h28 : ¬ ca = 0 → s'.1 28 = hd) (kq : kp h h9 (md_L o md)) : mo_HQ o md h s R (some (.int 0)) h9 := by
  rw [e]; exact ⟨s', by rw [show pb_b ((false, hd, ca).1 = true) = 0 from pb_f (fun z => absurd (show false = true from z) (by decide))], K, q, h30, h29, h28, kq⟩
theorem mo_HQ_t {o : Nat} {md : Nat → Nat} {h h9 : ac_H} {s s' : md_S} {R : Bool × Int32 × Int32} {hd : Int32} (e : R = (true, hd, 0)) (K : md_ok h9 o md s') (q : md_eq [28, 29, 30] [] [27] s s') (h30 : s'.1 30 = hd) (h29 : s'.1 29 = 0) (kq : kp h h9 (md_L o md)) : mo_HQ o md h s R (some (.int 1)) h9 := by
  rw [e]; exact ⟨s', by rw [show pb_b ((true, hd, (0 : Int32)).1 = true) = 1 from pb_t rfl], K, q, h30, h29, fun z => absurd rfl z, kq⟩
theorem nI_s1 {a : Nat} (h : 1 ≤ a) : nI a - 1 = nI (a - 1) := by
  obtain ⟨z, rfl⟩ : ∃ z, a = z + 1 := ⟨a - 1, by omega⟩
  exact nI_pred z
theorem nI_s2 {a : Nat} (h : 2 ≤ a) : nI a - 2 = nI (a - 2) := by
  obtain ⟨z, rfl⟩ : ∃ z, a = z + 2 := ⟨a - 2, by omega⟩
  rw [show z + 2 - 2 = z by omega, show (2 : Int32) = nI 2 from rfl, ← nI_add, Int32.add_sub_cancel]
theorem nI_pred2 {a : Nat} (h : 1 ≤ a) : nI a + (-1) = nI (a - 1) := by
  obtain ⟨z, rfl⟩ : ∃ z, a = z + 1 := ⟨a - 1, by omega⟩
  rw [show z + 1 - 1 = z by omega, ← nI_1, Int32.add_assoc, show (1 : Int32) + (-1) = 0 from rfl, Int32.add_zero]
theorem nI_ix (a t b : Nat) : nI a * nI t + nI b = nI (a * t + b) := by
  rw [show nI a * nI t = nI (a * t) from (Int32.ofNat_mul a t).symm, nI_add]
set_option maxHeartbeats 4000000 in
set_option maxRecDepth 100000 in
theorem ml_holds {G : ac_G} {M : ac_M} {o : Nat} {md : Nat → Nat} (hm : md_inj md) {h : ac_H} {d c : Nat} {s : md_S} {I : Nat → Int32} {F : Nat → Nat → Int32} {ab e : Int32} {af of : Nat → Int32} {t r b1 : Nat} {R : Bool × Int32 × Int32} (b : eq_bd I F c s) (hb : eq_bit ab e) (ht : t < 7) (hr : r < 12) (hb1 : s.2.1 9 (13 * t + r + 1) = nI b1) (hb4 : b1 ≤ 400) (hst : ∀ i, i < b1 → eq_st (af i) (of i) (s.2.1 5 (400 * t + i)) (s.2.1 6 (400 * t + i))) (C : ac_MC G RX9 cX9_holds 8 (some .boolean) M) (B : ac_Bd M (d + 3) 0 0) (E : ac_End G (mo_HQ o md h s R) 0 0 M) :
    ∀ (m i top : Nat) (Sk : rk_S) (hd : Int32) (h1 : ac_H) (J1 : Nat → Int32) (L1 : Nat → Nat → Int64) (v6 v7 : Value), i + m = b1 → md_ok h1 o md (J1, s.2.1, L1) → kp h h1 (md_L o md) → md_eq [28, 29, 30] [] [27] s (J1, s.2.1, L1) → J1 29 = 0 → J1 30 = hd → eq_sk Sk (L1 27) top → eq_wf (fun i => s.2.1 5 (400 * t + i)) m i top → rk_hold I F c ab af of m i Sk hd = R → aw G 8 M 26 [.ref o, .int (nI t), .int (nI r), .int e, .int (nI top), .int (nI i), v6, v7] [] h1 0 0 := by
  intro m
  induction m with
  | zero =>
    intro i top Sk hd h1 J1 L1 v6 v7 hi K1 kq1 q1 h29 h30 sk wf hR
    have hi2 : i = b1 := by omega
    refine aw_iload C dX9_holds_26 rfl (q := 28) rfl ?_
    refine aw_aload_n C dX9_holds_28 rfl rfl (q := 29) rfl ?_
    refine gfX9_25_9 (v := .ref (md 9)) C dX9_holds_29 K1.1 rfl (q := 32) rfl ?_
    refine aw_bipush (v := 13) C dX9_holds_32 (by decide) (q := 34) rfl ?_
    refine aw_iload_n C dX9_holds_34 rfl rfl (q := 35) rfl ?_
    refine aw_imul C dX9_holds_35 (q := 36) rfl ?_
    refine aw_iload_n C dX9_holds_36 rfl rfl (q := 37) rfl ?_
    refine aw_iadd C dX9_holds_37 (q := 38) rfl ?_
    refine aw_iconst (v := 1) C dX9_holds_38 (by decide) (q := 39) rfl ?_
    refine aw_iadd C dX9_holds_39 (q := 40) rfl ?_
    refine ay_iald (N := 91) (f := s.2.1 9) (j := 13 * t + r + 1) C dX9_holds_40 (K1.2.1 9 (by decide)) (by rw [show (13 : Int32) = nI 13 from rfl, nI_ix, nI_1]; exact vp_in_nI (by omega) (by decide)) (by rw [show (13 : Int32) = nI 13 from rfl, nI_ix, nI_1]; exact nI_clamp (by omega)) (q := 41) rfl ?_
    refine aw_icmp_ge (t := 244) (q := 44) C dX9_holds_41 (by decide) rfl (fun c_41 => ?_) (fun c_41 => absurd c_41 (fun z => z (by rw [hb1, hi2]; exact nI_le (Nat.le_refl _) (by omega))))
    refine aw_iconst (v := 1) C dX9_holds_244 (by decide) (q := 245) rfl ?_
    refine aw_zret C E dX9_holds_245 (rfl) (Nat.le_refl _) (Nat.le_refl _) ?_
    exact mo_HQ_t hR.symm K1 q1 h30 h29 kq1
  | succ m ih =>
    intro i top Sk hd h1 J1 L1 v6 v7 hi K1 kq1 q1 h29 h30 sk wf hR
    obtain ⟨t', w1, w2⟩ := wf
    have b' : eq_bd I F c (J1, s.2.1, L1) := eq_bd_eq b q1 (by decide) (by decide)
    have hc : J1 20 = nI c := b'.2.2.2.1
    have hc10 := b.2.2.2.2.1
    have ht32 := sk.2.1
    refine aw_iload C dX9_holds_26 rfl (q := 28) rfl ?_
    refine aw_aload_n C dX9_holds_28 rfl rfl (q := 29) rfl ?_
    refine gfX9_25_9 (v := .ref (md 9)) C dX9_holds_29 K1.1 rfl (q := 32) rfl ?_
    refine aw_bipush (v := 13) C dX9_holds_32 (by decide) (q := 34) rfl ?_
    refine aw_iload_n C dX9_holds_34 rfl rfl (q := 35) rfl ?_
    refine aw_imul C dX9_holds_35 (q := 36) rfl ?_
    refine aw_iload_n C dX9_holds_36 rfl rfl (q := 37) rfl ?_
    refine aw_iadd C dX9_holds_37 (q := 38) rfl ?_
    refine aw_iconst (v := 1) C dX9_holds_38 (by decide) (q := 39) rfl ?_
    refine aw_iadd C dX9_holds_39 (q := 40) rfl ?_
    refine ay_iald (N := 91) (f := s.2.1 9) (j := 13 * t + r + 1) C dX9_holds_40 (K1.2.1 9 (by decide)) (by rw [show (13 : Int32) = nI 13 from rfl, nI_ix, nI_1]; exact vp_in_nI (by omega) (by decide)) (by rw [show (13 : Int32) = nI 13 from rfl, nI_ix, nI_1]; exact nI_clamp (by omega)) (q := 41) rfl ?_
    refine aw_icmp_ge (t := 244) (q := 44) C dX9_holds_41 (by decide) rfl (fun c_41 => absurd c_41 (by rw [hb1]; exact ni_nge i b1 rfl rfl (by omega) (by omega) (by omega))) (fun c_41 => ?_)
    refine aw_aload_n C dX9_holds_44 rfl rfl (q := 45) rfl ?_
    refine gfX9_13_9 (v := .ref (md 5)) C dX9_holds_45 K1.1 rfl (q := 48) rfl ?_
    refine aw_sipush (v := 400) C dX9_holds_48 (by decide) (q := 51) rfl ?_
    refine aw_iload_n C dX9_holds_51 rfl rfl (q := 52) rfl ?_
    refine aw_imul C dX9_holds_52 (q := 53) rfl ?_
    refine aw_iload C dX9_holds_53 rfl (q := 55) rfl ?_
    refine aw_iadd C dX9_holds_55 (q := 56) rfl ?_
    refine ay_iald (N := 2800) (f := s.2.1 5) (j := 400 * t + i) C dX9_holds_56 (K1.2.1 5 (by decide)) (by rw [show (400 : Int32) = nI 400 from rfl, nI_ix]; exact vp_in_nI (by omega) (by decide)) (by rw [show (400 : Int32) = nI 400 from rfl, nI_ix]; exact nI_clamp (by omega)) (q := 57) rfl ?_
    refine aw_istore (ls' := [.ref o, .int (nI t), .int (nI r), .int e, .int (nI top), .int (nI i), .int ((s.2.1 5) (400 * t + i)), v7]) C dX9_holds_57 (by decide) rfl (q := 59) rfl ?_
    refine aw_aload_n C dX9_holds_59 rfl rfl (q := 60) rfl ?_
    refine gfX9_16_9 (v := .ref (md 6)) C dX9_holds_60 K1.1 rfl (q := 63) rfl ?_
    refine aw_sipush (v := 400) C dX9_holds_63 (by decide) (q := 66) rfl ?_
    refine aw_iload_n C dX9_holds_66 rfl rfl (q := 67) rfl ?_
    refine aw_imul C dX9_holds_67 (q := 68) rfl ?_
    refine aw_iload C dX9_holds_68 rfl (q := 70) rfl ?_
    refine aw_iadd C dX9_holds_70 (q := 71) rfl ?_
    refine ay_iald (N := 2800) (f := s.2.1 6) (j := 400 * t + i) C dX9_holds_71 (K1.2.1 6 (by decide)) (by rw [show (400 : Int32) = nI 400 from rfl, nI_ix]; exact vp_in_nI (by omega) (by decide)) (by rw [show (400 : Int32) = nI 400 from rfl, nI_ix]; exact nI_clamp (by omega)) (q := 72) rfl ?_
    refine aw_istore (ls' := [.ref o, .int (nI t), .int (nI r), .int e, .int (nI top), .int (nI i), .int ((s.2.1 5) (400 * t + i)), .int ((s.2.1 6) (400 * t + i))]) C dX9_holds_72 (by decide) rfl (q := 74) rfl ?_
    have st := hst i (by omega)
    replace w1 : eq_nx (s.2.1 5 (400 * t + i)) top = some t' := w1
    obtain ⟨g, eg⟩ : ∃ z, z = s.2.1 5 (400 * t + i) := ⟨_, rfl⟩
    obtain ⟨a, ea⟩ : ∃ z, z = s.2.1 6 (400 * t + i) := ⟨_, rfl⟩
    rw [← eg] at w1 st
    rw [← ea] at st
    rw [← eg, ← ea]
    refine aw_iload C dX9_holds_74 rfl (q := 76) rfl ?_
    refine aw_bipush (v := 16) C dX9_holds_76 (by decide) (q := 78) rfl ?_
    refine aw_icmp_ne (t := 119) (q := 81) C dX9_holds_78 (by decide) rfl (fun c_78 => ?_) (fun c_78 => ?_)
    ·
      refine aw_iload C dX9_holds_119 rfl (q := 121) rfl ?_
      refine aw_bipush (v := 8) C dX9_holds_121 (by decide) (q := 123) rfl ?_
      refine aw_icmp_gt (t := 148) (q := 126) C dX9_holds_123 (by decide) rfl (fun c_123 => ?_) (fun c_123 => ?_)
      ·
        refine aw_iload C dX9_holds_148 rfl (q := 150) rfl ?_
        refine aw_bipush (v := 11) C dX9_holds_150 (by decide) (q := 152) rfl ?_
        refine aw_icmp_gt (t := 185) (q := 155) C dX9_holds_152 (by decide) rfl (fun c_152 => ?_) (fun c_152 => ?_)
        ·
          obtain ⟨tt, tt0⟩ := eq_nx15 c_78 c_123 c_152 w1
          rw [tt0] at w2
          refine aw_aload_n C dX9_holds_185 rfl rfl (q := 186) rfl ?_
          refine gfX9_59_9 (v := .ref (md 27)) C dX9_holds_186 K1.1 rfl (q := 189) rfl ?_
          refine aw_iload C dX9_holds_189 rfl (q := 191) rfl ?_
          refine aw_iconst (v := 2) C dX9_holds_191 (by decide) (q := 192) rfl ?_
          refine aw_isub C dX9_holds_192 (q := 193) rfl ?_
          refine aw_aload_n C dX9_holds_193 rfl rfl (q := 194) rfl ?_
          refine aw_iload C dX9_holds_194 rfl (q := 196) rfl ?_
          refine aw_aload_n C dX9_holds_196 rfl rfl (q := 197) rfl ?_
          refine gfX9_59_9 (v := .ref (md 27)) C dX9_holds_197 K1.1 rfl (q := 200) rfl ?_
          refine aw_iload C dX9_holds_200 rfl (q := 202) rfl ?_
          refine aw_iconst (v := 2) C dX9_holds_202 (by decide) (q := 203) rfl ?_
          refine aw_isub C dX9_holds_203 (q := 204) rfl ?_
          refine ay_lald (N := 320) (f := L1 27) (j := top - 2) C dX9_holds_204 (K1.2.2 27 (by decide)) (by rw [show nI top - 2 = nI (top - 2) from nI_s2 (by omega)]; exact vp_in_nI (by omega) (by decide)) (by rw [show nI top - 2 = nI (top - 2) from nI_s2 (by omega)]; exact nI_clamp (by omega)) (q := 205) rfl ?_
          refine aw_aload_n C dX9_holds_205 rfl rfl (q := 206) rfl ?_
          refine gfX9_59_9 (v := .ref (md 27)) C dX9_holds_206 K1.1 rfl (q := 209) rfl ?_
          refine aw_iload C dX9_holds_209 rfl (q := 211) rfl ?_
          refine aw_iconst (v := 1) C dX9_holds_211 (by decide) (q := 212) rfl ?_
          refine aw_isub C dX9_holds_212 (q := 213) rfl ?_
          refine ay_lald (N := 320) (f := L1 27) (j := top - 1) C dX9_holds_213 (K1.2.2 27 (by decide)) (by rw [show nI top - 1 = nI (top - 1) from nI_s1 (by omega)]; exact vp_in_nI (by omega) (by decide)) (by rw [show nI top - 1 = nI (top - 1) from nI_s1 (by omega)]; exact nI_clamp (by omega)) (q := 214) rfl ?_
          have cn := m_between G M.2.1 o md hm h1 (d + 2) (J1, s.2.1, L1) K1 g (L1 27 (top - 2)) (L1 27 (top - 1))
          have x9 := eq_s15 (s := (J1, s.2.1, L1)) (S := Sk) (k := af i) (op := of i) (ab := ab) (I := I) (F := F) (c := c) h29 st c_78 c_152
          rw [eq_sk_top sk (by omega), eq_sk_top (eq_sk_drop sk) (by omega), show top - 1 - 1 = top - 2 by omega] at x9
          obtain ⟨X2, eX2⟩ : ∃ z, z = mo_bet (J1, s.2.1, L1) g (L1 27 (top - 2)) (L1 27 (top - 1)) := ⟨_, rfl⟩
          rw [← eX2] at cn x9
          obtain ⟨v2, J2, A2, L2⟩ := X2
          obtain ⟨x1, x2, x3, x4, x5, x6⟩ := x9
          have y1 : s.2.1 = A2 := funext (fun j => (x3.2.1 j (by simp)).symm)
          have y2 : L1 = L2 := x5.symm
          subst y1 y2
          refine cvX9_248_9 (As := [.int g, .long ((L1 27) (top - 2)), .long ((L1 27) (top - 1))]) (rest := [.int ((nI top) - 2), .ref (md 27)]) C B dX9_holds_214 K1.1 cn rfl rfl (Nat.le_of_ble_eq_true rfl) (by omega) (by omega) (by omega) (q := 217) rfl (fun r9 h_1 hr9 => ?_)
          obtain ⟨er9, K_2, kpx_3⟩ := hr9
          subst er9
          have kq_4 : kp h h_1 (md_L o md) := kp_in kq1 kpx_3 (fun _ z => z)
          replace K_2 : md_ok h_1 o md (J2, s.2.1, L1) := K_2
          show aw G 8 M 217 [.ref o, .int (nI t), .int (nI r), .int e, .int (nI top), .int (nI i), .int g, .int a] [.long v2, .int ((nI top) - 2), .ref (md 27)] h_1 0 0
          refine ay_last (N := 320) (f := L1 27) (j := top - 2) C dX9_holds_217 (K_2.2.2 27 (by decide)) (by rw [show nI top - 2 = nI (top - 2) from nI_s2 (by omega)]; exact vp_in_nI (by omega) (by decide)) (by rw [show nI top - 2 = nI (top - 2) from nI_s2 (by omega)]; exact nI_clamp (by omega)) (q := 218) rfl ?_
          show aw G 8 M 218 [.ref o, .int (nI t), .int (nI r), .int e, .int (nI top), .int (nI i), .int g, .int a] [] (ac_up h_1 (md 27) (.inl (2, 320, .inr (.inl (vp_updL (L1 27) (top - 2) v2))))) 0 0
          obtain ⟨h_5, eh_5⟩ : ∃ z9, z9 = ac_up h_1 (md 27) (.inl (2, 320, .inr (.inl (vp_updL (L1 27) (top - 2) v2)))) := ⟨_, rfl⟩
          rw [← eh_5]
          have kpx_8 : kp h_1 h_5 [md 27] := by rw [eh_5]; exact kp_up (kp_cons _ kp_rf) _ _ (by simp)
          have K_6 : md_ok h_5 o md (J2, s.2.1, va_up L1 27 (vp_updL (L1 27) (top - 2) v2)) := md_L' (s := (J2, s.2.1, L1)) hm K_2 (j := 27) (by decide) (by rw [eh_5]; exact ac_up_s _ _ _) kpx_8
          have kq_7 : kp h h_5 (md_L o md) := kp_in kq_4 kpx_8 (md_sj (by decide))
          refine aw_iinc (v := nI (top - 1)) (ls' := [.ref o, .int (nI t), .int (nI r), .int e, .int (nI (top - 1)), .int (nI i), .int g, .int a]) C dX9_holds_218 rfl (nI_pred2 (by omega)) (by decide) rfl (q := 221) rfl ?_
          refine aw_aload_n C dX9_holds_221 rfl rfl (q := 222) rfl ?_
          refine gfX9_231_9 (v := .int (J2 29)) C dX9_holds_222 K_6.1 rfl (q := 225) rfl ?_
          refine aw_if_le (t := 238) (q := 228) C dX9_holds_225 (by decide) rfl (fun c_225 => ?_) (fun c_225 => ?_)
          ·
            refine aw_iinc (v := nI (i + 1)) (ls' := [.ref o, .int (nI t), .int (nI r), .int e, .int (nI (top - 1)), .int (nI (i + 1)), .int g, .int a]) C dX9_holds_238 rfl (nI_1 i) (by decide) rfl (q := 241) rfl ?_
            refine aw_goto (q := 26) C dX9_holds_241 (by decide) ?_
            have z29 : J2 29 = 0 := x6.elim id (fun z => absurd c_225 (Int32.not_le.mpr z))
            exact ih (i + 1) (top - 1) (rk_push (rk_drop (rk_drop Sk)) v2) hd h_5 J2 (va_up L1 27 (vp_updL (L1 27) (top - 2) v2)) _ _ (by omega) K_6 kq_7 (md_eq_L (md_eq_tr q1 x3 (fun _ z => z) (fun _ z => z) (fun _ z => z)) _ (by decide)) z29 (x4.trans h30) (by have z := eq_sk_push (eq_sk_drop (eq_sk_drop sk)) (by have := sk.2.1; omega) v2; rw [show top - 1 - 1 + 1 = top - 1 by omega, show top - 1 - 1 = top - 2 by omega] at z; exact z) w2 ((rk_hold_n x1 x2 z29).symm.trans hR)
          ·
            refine aw_aload_n C dX9_holds_228 rfl rfl (q := 229) rfl ?_
            refine aw_aload_n C dX9_holds_229 rfl rfl (q := 230) rfl ?_
            refine gfX9_234_9 (v := .int (J2 30)) C dX9_holds_230 K_6.1 rfl (q := 233) rfl ?_
            refine pfX9_252_9 C dX9_holds_233 K_6.1 rfl rfl (Nat.le_of_ble_eq_true rfl) (q := 236) rfl ?_
            show aw G 8 M 236 [.ref o, .int (nI t), .int (nI r), .int e, .int (nI (top - 1)), .int (nI i), .int g, .int a] [] (ac_up h_5 o (.inr (9, md_fs md ((upd J2 28 (J2 30), s.2.1, va_up L1 27 (vp_updL (L1 27) (top - 2) v2)).1)))) 0 0
            obtain ⟨h_9, eh_9⟩ : ∃ z9, z9 = ac_up h_5 o (.inr (9, md_fs md ((upd J2 28 (J2 30), s.2.1, va_up L1 27 (vp_updL (L1 27) (top - 2) v2)).1))) := ⟨_, rfl⟩
            rw [← eh_9]
            have kpx_12 : kp h_5 h_9 [o] := by rw [eh_9]; exact kp_up (kp_cons o kp_rf) _ _ (by simp)
            have K_10 : md_ok h_9 o md (upd J2 28 (J2 30), s.2.1, va_up L1 27 (vp_updL (L1 27) (top - 2) v2)) := md_J (s := (J2, s.2.1, va_up L1 27 (vp_updL (L1 27) (top - 2) v2))) K_6 (by rw [eh_9]; exact ac_up_s _ _ _) kpx_12
            have kq_11 : kp h h_9 (md_L o md) := kp_in kq_7 kpx_12 md_s0
            refine aw_iconst (v := 0) C dX9_holds_236 (by decide) (q := 237) rfl ?_
            refine aw_zret C E dX9_holds_237 (rfl) (Nat.le_refl _) (Nat.le_refl _) ?_
            have z29 : ¬ J2 29 = 0 := fun z => c_225 (by rw [z]; decide)
            exact mo_HQ_f (s' := (upd J2 28 (J2 30), s.2.1, va_up L1 27 (vp_updL (L1 27) (top - 2) v2))) (hR.symm.trans (rk_hold_o x1 x2 z29)) K_10 (md_eq_J (md_eq_L (md_eq_tr q1 x3 (fun _ z => z) (fun _ z => z) (fun _ z => z)) _ (by decide)) _ (by decide)) (x4.trans h30) rfl (fun _ => x4.trans h30) kq_11
        ·
          obtain ⟨tt, tt0⟩ := eq_nx11 c_78 c_123 c_152 w1
          rw [tt0] at w2
          refine aw_aload_n C dX9_holds_155 rfl rfl (q := 156) rfl ?_
          refine gfX9_59_9 (v := .ref (md 27)) C dX9_holds_156 K1.1 rfl (q := 159) rfl ?_
          refine aw_iload C dX9_holds_159 rfl (q := 161) rfl ?_
          refine aw_iconst (v := 1) C dX9_holds_161 (by decide) (q := 162) rfl ?_
          refine aw_isub C dX9_holds_162 (q := 163) rfl ?_
          refine aw_aload_n C dX9_holds_163 rfl rfl (q := 164) rfl ?_
          refine aw_iload C dX9_holds_164 rfl (q := 166) rfl ?_
          refine aw_iload C dX9_holds_166 rfl (q := 168) rfl ?_
          refine aw_aload_n C dX9_holds_168 rfl rfl (q := 169) rfl ?_
          refine gfX9_59_9 (v := .ref (md 27)) C dX9_holds_169 K1.1 rfl (q := 172) rfl ?_
          refine aw_iload C dX9_holds_172 rfl (q := 174) rfl ?_
          refine aw_iconst (v := 1) C dX9_holds_174 (by decide) (q := 175) rfl ?_
          refine aw_isub C dX9_holds_175 (q := 176) rfl ?_
          refine ay_lald (N := 320) (f := L1 27) (j := top - 1) C dX9_holds_176 (K1.2.2 27 (by decide)) (by rw [show nI top - 1 = nI (top - 1) from nI_s1 (by omega)]; exact vp_in_nI (by omega) (by decide)) (by rw [show nI top - 1 = nI (top - 1) from nI_s1 (by omega)]; exact nI_clamp (by omega)) (q := 177) rfl ?_
          refine aw_iload_n C dX9_holds_177 rfl rfl (q := 178) rfl ?_
          have cn := m_before G M.2.1 o md hm h1 d (J1, s.2.1, L1) K1 c hc hc10 g a (L1 27 (top - 1)) e
          have x9 := eq_s11 (s := (J1, s.2.1, L1)) (S := Sk) (k := af i) (op := of i) (ab := ab) (I := I) (F := F) (c := c) b' hb h29 st c_123 c_152
          rw [eq_sk_top sk tt] at x9
          obtain ⟨X2, eX2⟩ : ∃ z, z = mo_bef (J1, s.2.1, L1) g a (L1 27 (top - 1)) e c := ⟨_, rfl⟩
          rw [← eX2] at cn x9
          obtain ⟨v2, J2, A2, L2⟩ := X2
          obtain ⟨x1, x2, x3, x4, x5, x6⟩ := x9
          have y1 : s.2.1 = A2 := funext (fun j => (x3.2.1 j (by simp)).symm)
          have y2 : L1 = L2 := x5.symm
          subst y1 y2
          refine cvX9_244_9 (As := [.int g, .int a, .long ((L1 27) (top - 1)), .int e]) (rest := [.int ((nI top) - 1), .ref (md 27)]) C B dX9_holds_178 K1.1 cn rfl rfl (Nat.le_of_ble_eq_true rfl) (by omega) (by omega) (by omega) (q := 181) rfl (fun r9 h_13 hr9 => ?_)
          obtain ⟨er9, K_14, kpx_15⟩ := hr9
          subst er9
          have kq_16 : kp h h_13 (md_L o md) := kp_in kq1 kpx_15 (fun _ z => z)
          replace K_14 : md_ok h_13 o md (J2, s.2.1, L1) := K_14
          show aw G 8 M 181 [.ref o, .int (nI t), .int (nI r), .int e, .int (nI top), .int (nI i), .int g, .int a] [.long v2, .int ((nI top) - 1), .ref (md 27)] h_13 0 0
          refine ay_last (N := 320) (f := L1 27) (j := top - 1) C dX9_holds_181 (K_14.2.2 27 (by decide)) (by rw [show nI top - 1 = nI (top - 1) from nI_s1 (by omega)]; exact vp_in_nI (by omega) (by decide)) (by rw [show nI top - 1 = nI (top - 1) from nI_s1 (by omega)]; exact nI_clamp (by omega)) (q := 182) rfl ?_
          show aw G 8 M 182 [.ref o, .int (nI t), .int (nI r), .int e, .int (nI top), .int (nI i), .int g, .int a] [] (ac_up h_13 (md 27) (.inl (2, 320, .inr (.inl (vp_updL (L1 27) (top - 1) v2))))) 0 0
          obtain ⟨h_17, eh_17⟩ : ∃ z9, z9 = ac_up h_13 (md 27) (.inl (2, 320, .inr (.inl (vp_updL (L1 27) (top - 1) v2)))) := ⟨_, rfl⟩
          rw [← eh_17]
          have kpx_20 : kp h_13 h_17 [md 27] := by rw [eh_17]; exact kp_up (kp_cons _ kp_rf) _ _ (by simp)
          have K_18 : md_ok h_17 o md (J2, s.2.1, va_up L1 27 (vp_updL (L1 27) (top - 1) v2)) := md_L' (s := (J2, s.2.1, L1)) hm K_14 (j := 27) (by decide) (by rw [eh_17]; exact ac_up_s _ _ _) kpx_20
          have kq_19 : kp h h_17 (md_L o md) := kp_in kq_16 kpx_20 (md_sj (by decide))
          refine aw_goto (q := 221) C dX9_holds_182 (by decide) ?_
          refine aw_aload_n C dX9_holds_221 rfl rfl (q := 222) rfl ?_
          refine gfX9_231_9 (v := .int (J2 29)) C dX9_holds_222 K_18.1 rfl (q := 225) rfl ?_
          refine aw_if_le (t := 238) (q := 228) C dX9_holds_225 (by decide) rfl (fun c_225 => ?_) (fun c_225 => ?_)
          ·
            refine aw_iinc (v := nI (i + 1)) (ls' := [.ref o, .int (nI t), .int (nI r), .int e, .int (nI top), .int (nI (i + 1)), .int g, .int a]) C dX9_holds_238 rfl (nI_1 i) (by decide) rfl (q := 241) rfl ?_
            refine aw_goto (q := 26) C dX9_holds_241 (by decide) ?_
            have z29 : J2 29 = 0 := x6.elim id (fun z => absurd c_225 (Int32.not_le.mpr z))
            exact ih (i + 1) top (rk_push (rk_drop Sk) v2) hd h_17 J2 (va_up L1 27 (vp_updL (L1 27) (top - 1) v2)) _ _ (by omega) K_18 kq_19 (md_eq_L (md_eq_tr q1 x3 (fun _ z => z) (fun _ z => z) (fun _ z => z)) _ (by decide)) z29 (x4.trans h30) (by have z := eq_sk_push (eq_sk_drop sk) (by have := sk.2.1; omega) v2; rw [show top - 1 + 1 = top by omega] at z; exact z) w2 ((rk_hold_n x1 x2 z29).symm.trans hR)
          ·
            refine aw_aload_n C dX9_holds_228 rfl rfl (q := 229) rfl ?_
            refine aw_aload_n C dX9_holds_229 rfl rfl (q := 230) rfl ?_
            refine gfX9_234_9 (v := .int (J2 30)) C dX9_holds_230 K_18.1 rfl (q := 233) rfl ?_
            refine pfX9_252_9 C dX9_holds_233 K_18.1 rfl rfl (Nat.le_of_ble_eq_true rfl) (q := 236) rfl ?_
            show aw G 8 M 236 [.ref o, .int (nI t), .int (nI r), .int e, .int (nI top), .int (nI i), .int g, .int a] [] (ac_up h_17 o (.inr (9, md_fs md ((upd J2 28 (J2 30), s.2.1, va_up L1 27 (vp_updL (L1 27) (top - 1) v2)).1)))) 0 0
            obtain ⟨h_21, eh_21⟩ : ∃ z9, z9 = ac_up h_17 o (.inr (9, md_fs md ((upd J2 28 (J2 30), s.2.1, va_up L1 27 (vp_updL (L1 27) (top - 1) v2)).1))) := ⟨_, rfl⟩
            rw [← eh_21]
            have kpx_24 : kp h_17 h_21 [o] := by rw [eh_21]; exact kp_up (kp_cons o kp_rf) _ _ (by simp)
            have K_22 : md_ok h_21 o md (upd J2 28 (J2 30), s.2.1, va_up L1 27 (vp_updL (L1 27) (top - 1) v2)) := md_J (s := (J2, s.2.1, va_up L1 27 (vp_updL (L1 27) (top - 1) v2))) K_18 (by rw [eh_21]; exact ac_up_s _ _ _) kpx_24
            have kq_23 : kp h h_21 (md_L o md) := kp_in kq_19 kpx_24 md_s0
            refine aw_iconst (v := 0) C dX9_holds_236 (by decide) (q := 237) rfl ?_
            refine aw_zret C E dX9_holds_237 (rfl) (Nat.le_refl _) (Nat.le_refl _) ?_
            have z29 : ¬ J2 29 = 0 := fun z => c_225 (by rw [z]; decide)
            exact mo_HQ_f (s' := (upd J2 28 (J2 30), s.2.1, va_up L1 27 (vp_updL (L1 27) (top - 1) v2))) (hR.symm.trans (rk_hold_o x1 x2 z29)) K_22 (md_eq_J (md_eq_L (md_eq_tr q1 x3 (fun _ z => z) (fun _ z => z) (fun _ z => z)) _ (by decide)) _ (by decide)) (x4.trans h30) rfl (fun _ => x4.trans h30) kq_23
      ·
        obtain ⟨tt, tt0⟩ := eq_nx8 c_78 c_123 w1
        obtain ⟨x1, x2⟩ := eq_s8 (S := Sk) b' hb st c_78 c_123
        rw [tt0] at w2
        refine aw_aload_n C dX9_holds_126 rfl rfl (q := 127) rfl ?_
        refine gfX9_59_9 (v := .ref (md 27)) C dX9_holds_127 K1.1 rfl (q := 130) rfl ?_
        refine aw_iload C dX9_holds_130 rfl (q := 132) rfl ?_
        refine aw_aload_n C dX9_holds_132 rfl rfl (q := 133) rfl ?_
        refine aw_iload C dX9_holds_133 rfl (q := 135) rfl ?_
        refine aw_iload C dX9_holds_135 rfl (q := 137) rfl ?_
        refine aw_iload_n C dX9_holds_137 rfl rfl (q := 138) rfl ?_
        refine cvX9_241_9 (As := [.int g, .int a, .int e]) (rest := [.int (nI top), .ref (md 27)]) C B dX9_holds_138 K1.1 (m_plain G M.2.1 o md hm h1 d (J1, s.2.1, L1) K1 c hc hc10 g a e) rfl rfl (Nat.le_of_ble_eq_true rfl) (by omega) (by omega) (by omega) (q := 141) rfl (fun r9 h9 hr9 => ?_)
        obtain ⟨e9, er9⟩ := hr9
        subst er9; rw [e9]
        show aw G 8 M 141 [.ref o, .int (nI t), .int (nI r), .int e, .int (nI top), .int (nI i), .int g, .int a] [.long (mo_plain (J1, s.2.1, L1) g a e c), .int (nI top), .ref (md 27)] h1 0 0
        refine ay_last (N := 320) (f := L1 27) (j := top) C dX9_holds_141 (K1.2.2 27 (by decide)) (vp_in_nI (by omega) (by decide)) (nI_clamp (by omega)) (q := 142) rfl ?_
        show aw G 8 M 142 [.ref o, .int (nI t), .int (nI r), .int e, .int (nI top), .int (nI i), .int g, .int a] [] (ac_up h1 (md 27) (.inl (2, 320, .inr (.inl (vp_updL (L1 27) top (mo_plain (J1, s.2.1, L1) g a e c)))))) 0 0
        obtain ⟨h_25, eh_25⟩ : ∃ z9, z9 = ac_up h1 (md 27) (.inl (2, 320, .inr (.inl (vp_updL (L1 27) top (mo_plain (J1, s.2.1, L1) g a e c))))) := ⟨_, rfl⟩
        rw [← eh_25]
        have kpx_28 : kp h1 h_25 [md 27] := by rw [eh_25]; exact kp_up (kp_cons _ kp_rf) _ _ (by simp)
        have K_26 : md_ok h_25 o md (J1, s.2.1, va_up L1 27 (vp_updL (L1 27) top (mo_plain (J1, s.2.1, L1) g a e c))) := md_L' (s := (J1, s.2.1, L1)) hm K1 (j := 27) (by decide) (by rw [eh_25]; exact ac_up_s _ _ _) kpx_28
        have kq_27 : kp h h_25 (md_L o md) := kp_in kq1 kpx_28 (md_sj (by decide))
        refine aw_iinc (v := nI (top + 1)) (ls' := [.ref o, .int (nI t), .int (nI r), .int e, .int (nI (top + 1)), .int (nI i), .int g, .int a]) C dX9_holds_142 rfl (nI_1 top) (by decide) rfl (q := 145) rfl ?_
        refine aw_goto (q := 221) C dX9_holds_145 (by decide) ?_
        refine aw_aload_n C dX9_holds_221 rfl rfl (q := 222) rfl ?_
        refine gfX9_231_9 (v := .int (J1 29)) C dX9_holds_222 K_26.1 rfl (q := 225) rfl ?_
        refine aw_if_le (t := 238) (q := 228) C dX9_holds_225 (by decide) rfl (fun c_225 => ?_) (fun c_225 => absurd c_225 (fun z => z (by rw [h29]; decide)))
        refine aw_iinc (v := nI (i + 1)) (ls' := [.ref o, .int (nI t), .int (nI r), .int e, .int (nI (top + 1)), .int (nI (i + 1)), .int g, .int a]) C dX9_holds_238 rfl (nI_1 i) (by decide) rfl (q := 241) rfl ?_
        refine aw_goto (q := 26) C dX9_holds_241 (by decide) ?_
        exact ih (i + 1) (top + 1) (rk_push Sk (mo_plain (J1, s.2.1, L1) g a e c)) hd h_25 J1 (va_up L1 27 (vp_updL (L1 27) top (mo_plain (J1, s.2.1, L1) g a e c))) _ _ (by omega) K_26 kq_27 (md_eq_L q1 _ (by decide)) h29 h30 (eq_sk_push sk tt _) w2 ((rk_hold_n x1 x2 rfl).symm.trans hR)
    ·
      obtain ⟨tt, tt0⟩ := eq_nx16 c_78 w1
      obtain ⟨ea2, isc⟩ := eq_s16 st c_78
      rw [tt0] at w2
      refine aw_iload C dX9_holds_81 rfl (q := 83) rfl ?_
      refine aw_aload_n C dX9_holds_83 rfl rfl (q := 84) rfl ?_
      refine gfX9_59_9 (v := .ref (md 27)) C dX9_holds_84 K1.1 rfl (q := 87) rfl ?_
      refine aw_iconst (v := 0) C dX9_holds_87 (by decide) (q := 88) rfl ?_
      refine ay_lald (N := 320) (f := L1 27) (j := 0) C dX9_holds_88 (K1.2.2 27 (by decide)) (vp_in_nI (by decide) (by decide)) (rfl) (q := 89) rfl ?_
      refine aw_aload_n C dX9_holds_89 rfl rfl (q := 90) rfl ?_
      refine gfX9_59_9 (v := .ref (md 27)) C dX9_holds_90 K1.1 rfl (q := 93) rfl ?_
      refine aw_iconst (v := 1) C dX9_holds_93 (by decide) (q := 94) rfl ?_
      refine ay_lald (N := 320) (f := L1 27) (j := 1) C dX9_holds_94 (K1.2.2 27 (by decide)) (vp_in_nI (by decide) (by decide)) (rfl) (q := 95) rfl ?_
      refine csX9_237 (As := [.int a, .long ((L1 27) 0), .long ((L1 27) 1)]) (rest := []) C B dX9_holds_95 (m_compares G M.2.1 h1 (d + 2) a (L1 27 0) (L1 27 1)) rfl rfl (Nat.le_of_ble_eq_true rfl) (by omega) (by omega) (by omega) (q := 98) rfl (fun r9 h9 hr9 => ?_)
      obtain ⟨e9, er9⟩ := hr9
      subst er9; rw [e9]
      show aw G 8 M 98 [.ref o, .int (nI t), .int (nI r), .int e, .int (nI top), .int (nI i), .int g, .int a] [.int (mo_cmps a (L1 27 0) (L1 27 1))] h1 0 0
      have tp1 : rk_top Sk = L1 27 1 := by rw [eq_sk_top sk (by omega), tt]
      have tp0 : rk_top (rk_drop Sk) = L1 27 0 := by rw [eq_sk_top (eq_sk_drop sk) (by omega), tt]
      rw [eq_cmp, ea2, ← tp1, ← tp0]
      refine aw_if_ne (t := 103) (q := 101) C dX9_holds_98 (by decide) rfl (fun c_98 => ?_) (fun c_98 => ?_)
      ·
        refine aw_aload_n C dX9_holds_103 rfl rfl (q := 104) rfl ?_
        refine aw_dup C dX9_holds_104 rfl (q := 105) rfl ?_
        refine gfX9_234_9 (v := .int (J1 30)) C dX9_holds_105 K1.1 rfl (q := 108) rfl ?_
        refine aw_iconst (v := 1) C dX9_holds_108 (by decide) (q := 109) rfl ?_
        refine aw_iadd C dX9_holds_109 (q := 110) rfl ?_
        refine pfX9_234_9 C dX9_holds_110 K1.1 rfl rfl (Nat.le_of_ble_eq_true rfl) (q := 113) rfl ?_
        show aw G 8 M 113 [.ref o, .int (nI t), .int (nI r), .int e, .int (nI top), .int (nI i), .int g, .int (af i)] [] (ac_up h1 o (.inr (9, md_fs md ((upd J1 30 ((J1 30) + 1), s.2.1, L1).1)))) 0 0
        obtain ⟨h_29, eh_29⟩ : ∃ z9, z9 = ac_up h1 o (.inr (9, md_fs md ((upd J1 30 ((J1 30) + 1), s.2.1, L1).1))) := ⟨_, rfl⟩
        rw [← eh_29]
        have kpx_32 : kp h1 h_29 [o] := by rw [eh_29]; exact kp_up (kp_cons o kp_rf) _ _ (by simp)
        have K_30 : md_ok h_29 o md (upd J1 30 ((J1 30) + 1), s.2.1, L1) := md_J (s := (J1, s.2.1, L1)) K1 (by rw [eh_29]; exact ac_up_s _ _ _) kpx_32
        have kq_31 : kp h h_29 (md_L o md) := kp_in kq1 kpx_32 md_s0
        refine aw_iconst (v := 0) C dX9_holds_113 (by decide) (q := 114) rfl ?_
        refine aw_istore (ls' := [.ref o, .int (nI t), .int (nI r), .int e, .int 0, .int (nI i), .int g, .int (af i)]) C dX9_holds_114 (by decide) rfl (q := 116) rfl ?_
        refine aw_goto (q := 221) C dX9_holds_116 (by decide) ?_
        refine aw_aload_n C dX9_holds_221 rfl rfl (q := 222) rfl ?_
        refine gfX9_231_9 (v := .int (J1 29)) C dX9_holds_222 K_30.1 rfl (q := 225) rfl ?_
        refine aw_if_le (t := 238) (q := 228) C dX9_holds_225 (by decide) rfl (fun c_225 => ?_) (fun c_225 => absurd c_225 (fun z => z (by rw [h29]; decide)))
        refine aw_iinc (v := nI (i + 1)) (ls' := [.ref o, .int (nI t), .int (nI r), .int e, .int 0, .int (nI (i + 1)), .int g, .int (af i)]) C dX9_holds_238 rfl (nI_1 i) (by decide) rfl (q := 241) rfl ?_
        refine aw_goto (q := 26) C dX9_holds_241 (by decide) ?_
        exact ih (i + 1) 0 (rk_drop (rk_drop Sk)) (hd + 1) h_29 (upd J1 30 (J1 30 + 1)) L1 _ _ (by omega) K_30 kq_31 (md_eq_J q1 _ (by decide)) h29 (by show J1 30 + 1 = hd + 1; rw [h30]) (by have z := eq_sk_drop (eq_sk_drop sk); rw [tt] at z; exact z) w2 ((rk_hold_c isc (pb_n c_98)).symm.trans hR)
      ·
        refine aw_iconst (v := 0) C dX9_holds_101 (by decide) (q := 102) rfl ?_
        refine aw_zret C E dX9_holds_102 (rfl) (Nat.le_refl _) (Nat.le_refl _) ?_
        exact mo_HQ_f (hR.symm.trans (rk_hold_cf isc (pb_0.mp c_98))) K1 q1 h30 h29 (fun z => absurd rfl z) kq1
set_option maxHeartbeats 4000000 in
set_option maxRecDepth 100000 in
theorem m_holds (G : ac_G) (l : Launch) (o : Nat) (md : Nat → Nat) (hm : md_inj md) (h : ac_H) (d : Nat) (s : md_S) (K : md_ok h o md s) (c : Nat) (I : Nat → Int32) (F : Nat → Nat → Int32) (ab e : Int32) (af of : Nat → Int32) (t r b0 b1 : Nat) (S0 : Nat → Int64) (b : eq_bd I F c s) (hb : eq_bit ab e) (ht : t < 7) (hr : r < 12) (hb1 : s.2.1 9 (13 * t + r + 1) = nI b1) (hb4 : b1 ≤ 400) (hst : ∀ i, i < b1 → eq_st (af i) (of i) (s.2.1 5 (400 * t + i)) (s.2.1 6 (400 * t + i))) (hb0 : s.2.1 9 (13 * t + r) = nI b0) (hb01 : b0 ≤ b1) (wf : eq_wf (fun i => s.2.1 5 (400 * t + i)) (b1 - b0) b0 0) : ac_Met G l yX9_holds cX9_holds 8 (some .boolean) (d + 3) 0 0 [.ref o, .int (nI t), .int (nI r), .int e] h (mo_HQ o md h s (rk_hold I F c ab af of (b1 - b0) b0 (S0, 0) 0)) := by
  refine ac_of (ls := [.ref o, .int (nI t), .int (nI r), .int e, .retAddr 0, .retAddr 0, .retAddr 0, .retAddr 0]) (by decide +kernel) rfl (Nat.le_of_ble_eq_true rfl) (fun M hl C B E hnm => ?_)
  refine aw_aload_n C dX9_holds_0 rfl rfl (q := 1) rfl ?_
  refine aw_iconst (v := 0) C dX9_holds_1 (by decide) (q := 2) rfl ?_
  refine pfX9_234_9 C dX9_holds_2 K.1 rfl rfl (Nat.le_of_ble_eq_true rfl) (q := 5) rfl ?_
  show aw G 8 M 5 [.ref o, .int (nI t), .int (nI r), .int e, .retAddr 0, .retAddr 0, .retAddr 0, .retAddr 0] [] (ac_up h o (.inr (9, md_fs md ((upd s.1 30 0, s.2.1, s.2.2).1)))) 0 0
  obtain ⟨h_1, eh_1⟩ : ∃ z9, z9 = ac_up h o (.inr (9, md_fs md ((upd s.1 30 0, s.2.1, s.2.2).1))) := ⟨_, rfl⟩
  rw [← eh_1]
  have kpx_4 : kp h h_1 [o] := by rw [eh_1]; exact kp_up (kp_cons o kp_rf) _ _ (by simp)
  have K_2 : md_ok h_1 o md (upd s.1 30 0, s.2.1, s.2.2) := md_J (s := (s.1, s.2.1, s.2.2)) K (by rw [eh_1]; exact ac_up_s _ _ _) kpx_4
  have kq_3 : kp h h_1 (md_L o md) := kp_mono kpx_4 md_s0
  refine aw_aload_n C dX9_holds_5 rfl rfl (q := 6) rfl ?_
  refine aw_iconst (v := 0) C dX9_holds_6 (by decide) (q := 7) rfl ?_
  refine pfX9_231_9 C dX9_holds_7 K_2.1 rfl rfl (Nat.le_of_ble_eq_true rfl) (q := 10) rfl ?_
  show aw G 8 M 10 [.ref o, .int (nI t), .int (nI r), .int e, .retAddr 0, .retAddr 0, .retAddr 0, .retAddr 0] [] (ac_up h_1 o (.inr (9, md_fs md ((upd (upd s.1 30 0) 29 0, s.2.1, s.2.2).1)))) 0 0
  obtain ⟨h_5, eh_5⟩ : ∃ z9, z9 = ac_up h_1 o (.inr (9, md_fs md ((upd (upd s.1 30 0) 29 0, s.2.1, s.2.2).1))) := ⟨_, rfl⟩
  rw [← eh_5]
  have kpx_8 : kp h_1 h_5 [o] := by rw [eh_5]; exact kp_up (kp_cons o kp_rf) _ _ (by simp)
  have K_6 : md_ok h_5 o md (upd (upd s.1 30 0) 29 0, s.2.1, s.2.2) := md_J (s := (upd s.1 30 0, s.2.1, s.2.2)) K_2 (by rw [eh_5]; exact ac_up_s _ _ _) kpx_8
  have kq_7 : kp h h_5 (md_L o md) := kp_in kq_3 kpx_8 md_s0
  refine aw_iconst (v := 0) C dX9_holds_10 (by decide) (q := 11) rfl ?_
  refine aw_istore (ls' := [.ref o, .int (nI t), .int (nI r), .int e, .int 0, .retAddr 0, .retAddr 0, .retAddr 0]) C dX9_holds_11 (by decide) rfl (q := 13) rfl ?_
  refine aw_aload_n C dX9_holds_13 rfl rfl (q := 14) rfl ?_
  refine gfX9_25_9 (v := .ref (md 9)) C dX9_holds_14 K_6.1 rfl (q := 17) rfl ?_
  refine aw_bipush (v := 13) C dX9_holds_17 (by decide) (q := 19) rfl ?_
  refine aw_iload_n C dX9_holds_19 rfl rfl (q := 20) rfl ?_
  refine aw_imul C dX9_holds_20 (q := 21) rfl ?_
  refine aw_iload_n C dX9_holds_21 rfl rfl (q := 22) rfl ?_
  refine aw_iadd C dX9_holds_22 (q := 23) rfl ?_
  refine ay_iald (N := 91) (f := s.2.1 9) (j := 13 * t + r) C dX9_holds_23 (K_6.2.1 9 (by decide)) (by rw [show (13 : Int32) = nI 13 from rfl, nI_ix]; exact vp_in_nI (by omega) (by decide)) (by rw [show (13 : Int32) = nI 13 from rfl, nI_ix]; exact nI_clamp (by omega)) (q := 24) rfl ?_
  rw [hb0]
  refine aw_istore (ls' := [.ref o, .int (nI t), .int (nI r), .int e, .int 0, .int (nI b0), .retAddr 0, .retAddr 0]) C dX9_holds_24 (by decide) rfl (q := 26) rfl ?_
  exact ml_holds hm b hb ht hr hb1 hb4 hst C B E (b1 - b0) b0 0 (S0, 0) 0 h_5 (upd (upd s.1 30 0) 29 0) s.2.2 _ _ (by omega) K_6 kq_7 (md_eq_J (s1 := (upd s.1 30 0, s.2.1, s.2.2)) (md_eq_J md_eq_rf _ (by decide)) _ (by decide)) rfl rfl ⟨rfl, by decide, fun i hi => absurd hi (by omega)⟩ wf rfl
