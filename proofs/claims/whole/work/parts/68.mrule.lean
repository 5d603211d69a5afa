/-! The reference's reader: readRule by the grammar -/
def pz_conds (u : Nat → Int32) (n : Nat) : Nat → Nat → pz_R
  | 0, a => (true, a, [])
  | m + 1, a => if (pz_cond u n a).1 = true then (if cu_c u n (pz_cond u n a).2.1 = 44 ∧ ¬ m = 0 then ((pz_conds u n m ((pz_cond u n a).2.1 + 1)).1, (pz_conds u n m ((pz_cond u n a).2.1 + 1)).2.1, (pz_cond u n a).2.2 ++ (pz_conds u n m ((pz_cond u n a).2.1 + 1)).2.2) else (true, (pz_cond u n a).2.1, (pz_cond u n a).2.2)) else (false, (pz_cond u n a).2.1, [])
def pz_rule (u : Nat → Int32) (n a : Nat) : pz_R :=
  if cu_isd (cu_c u n a) 10 then
    (if cu_c u n (a + 1) = 58 then
      (if a + 1 + 1 = n ∨ cu_c u n (a + 1 + 1) = 59 then (true, a + 1 + 1, []) else pz_conds u n 6 (a + 1 + 1))
     else (false, a + 1, []))
  else (false, a, [])
def mz_fR (s s' : md_S) : Prop := (∀ j, j ∉ [3, 4, 14] → s'.1 j = s.1 j) ∧ (∀ j, j ∉ [5, 6, 7, 8, 9, 10, 12, 13] → s'.2.1 j = s.2.1 j) ∧ (∀ i, i < 2400 → s'.2.1 5 i = s.2.1 5 i ∧ s'.2.1 6 i = s.2.1 6 i) ∧ (∀ i, ¬ i = 6 → s'.2.1 7 i = s.2.1 7 i ∧ s'.2.1 8 i = s.2.1 8 i) ∧ (∀ i, i < 78 → s'.2.1 9 i = s.2.1 9 i ∧ s'.2.1 10 i = s.2.1 10 i) ∧ s'.2.2 = s.2.2
theorem mz_fR_rf {s : md_S} : mz_fR s s := ⟨fun _ _ => rfl, fun _ _ => rfl, fun _ _ => ⟨rfl, rfl⟩, fun _ _ => ⟨rfl, rfl⟩, fun _ _ => ⟨rfl, rfl⟩, rfl⟩
theorem mz_fR_tr {s s1 s2 : md_S} (h : mz_fR s s1) (g : mz_fR s1 s2) : mz_fR s s2 :=
  ⟨fun j hj => (g.1 j hj).trans (h.1 j hj), fun j hj => (g.2.1 j hj).trans (h.2.1 j hj), fun i hi => ⟨(g.2.2.1 i hi).1.trans (h.2.2.1 i hi).1, (g.2.2.1 i hi).2.trans (h.2.2.1 i hi).2⟩, fun i hi => ⟨(g.2.2.2.1 i hi).1.trans (h.2.2.2.1 i hi).1, (g.2.2.2.1 i hi).2.trans (h.2.2.2.1 i hi).2⟩, fun i hi => ⟨(g.2.2.2.2.1 i hi).1.trans (h.2.2.2.2.1 i hi).1, (g.2.2.2.2.1 i hi).2.trans (h.2.2.2.2.1 i hi).2⟩, g.2.2.2.2.2.trans h.2.2.2.2.2⟩
theorem mz_fr_R {s s1 : md_S} (h : mz_fr s s1) : mz_fR s s1 :=
  ⟨h.1, fun j hj => h.2.1 j (fun z => hj (by simp at z ⊢; omega)), h.2.2.1, fun i hi => ⟨h.2.2.2.1 i hi, congrFun (h.2.1 8 (by decide)) i⟩, fun i _ => ⟨congrFun (h.2.1 9 (by decide)) i, congrFun (h.2.1 10 (by decide)) i⟩, h.2.2.2.2⟩
theorem mz_fR_8 {s s1 : md_S} (h : mz_fR s s1) (v : Int32) : mz_fR s (s1.1, va_up s1.2.1 8 (upd (s1.2.1 8) 6 v), s1.2.2) := by
  obtain ⟨h1, h2, h3, h4, h5, h6⟩ := h
  refine ⟨h1, fun j hj => ?_, h3, fun i hi => ⟨(h4 i hi).1, ?_⟩, h5, h6⟩
  · show va_up s1.2.1 8 _ j = _
    unfold va_up; rw [if_neg (fun z => hj (by rw [z]; decide))]; exact h2 j hj
  · show upd (s1.2.1 8) 6 v i = _
    unfold upd; rw [if_neg hi]; exact (h4 i hi).2
theorem mz_fR_9 {s s1 : md_S} (h : mz_fR s s1) (k : Nat) (v : Int32) : mz_fR s (s1.1, va_up s1.2.1 9 (upd (s1.2.1 9) (78 + k) v), s1.2.2) := by
  obtain ⟨h1, h2, h3, h4, h5, h6⟩ := h
  refine ⟨h1, fun j hj => ?_, h3, h4, fun i hi => ⟨?_, (h5 i hi).2⟩, h6⟩
  · show va_up s1.2.1 9 _ j = _
    unfold va_up; rw [if_neg (fun z => hj (by rw [z]; decide))]; exact h2 j hj
  · show upd (s1.2.1 9) (78 + k) v i = _
    unfold upd; rw [if_neg (by omega)]; exact (h5 i hi).1
theorem mz_fR_10 {s s1 : md_S} (h : mz_fR s s1) (k : Nat) (v : Int32) : mz_fR s (s1.1, va_up s1.2.1 10 (upd (s1.2.1 10) (78 + k) v), s1.2.2) := by
  obtain ⟨h1, h2, h3, h4, h5, h6⟩ := h
  refine ⟨h1, fun j hj => ?_, h3, h4, fun i hi => ⟨(h5 i hi).1, ?_⟩, h6⟩
  · show va_up s1.2.1 10 _ j = _
    unfold va_up; rw [if_neg (fun z => hj (by rw [z]; decide))]; exact h2 j hj
  · show upd (s1.2.1 10) (78 + k) v i = _
    unfold upd; rw [if_neg (by omega)]; exact (h5 i hi).2
theorem mz_rp8 {s : md_S} {u : Nat → Int32} {n : Nat} {c : mz_C} (R : mz_rep s u n c) (f : Nat → Int32) : mz_rep (s.1, va_up s.2.1 8 f, s.2.2) u n c := R
theorem mz_rp9 {s : md_S} {u : Nat → Int32} {n : Nat} {c : mz_C} (R : mz_rep s u n c) (f : Nat → Int32) : mz_rep (s.1, va_up s.2.1 9 f, s.2.2) u n c := R
theorem mz_rp10 {s : md_S} {u : Nat → Int32} {n : Nat} {c : mz_C} (R : mz_rep s u n c) (f : Nat → Int32) : mz_rep (s.1, va_up s.2.1 10 f, s.2.2) u n c := R
def mz_QR (o : Nat) (md : Nat → Nat) (h : ac_H) (s : md_S) (u : Nat → Int32) (n a' : Nat) (U U' : pz_P) (rc : Nat) (g : Int32) : Option Value → ac_H → Prop := fun r9 h9 => ∃ (s' : md_S) (W' : pz_P), r9 = none ∧ md_ok h9 o md s' ∧ mz_rep s' u n (a', U', W', none) ∧ W'.length ≤ 330 ∧ s'.2.1 8 = upd (s.2.1 8) 6 (nI (rc + 1)) ∧ s'.2.1 9 = upd (upd (s.2.1 9) (78 + rc) (nI U.length)) (78 + rc + 1) (nI U'.length) ∧ s'.2.1 10 = upd (s.2.1 10) (78 + rc) g ∧ mz_fR s s' ∧ kp h h9 (md_L o md)
def mz_QRF (o : Nat) (md : Nat → Nat) (h : ac_H) (s : md_S) (u : Nat → Int32) (n p : Nat) : Option Value → ac_H → Prop := fun r9 h9 => ∃ (s' : md_S) (c : mz_C), r9 = none ∧ md_ok h9 o md s' ∧ mz_rep s' u n c ∧ c.2.2.2 = some p ∧ c.1 ≤ 330 ∧ c.2.2.1.length ≤ 330 ∧ mz_fR s s' ∧ kp h h9 (md_L o md)
set_option maxHeartbeats 4000000 in
set_option maxRecDepth 100000 in
theorem ml_rend {G : ac_G} {M : ac_M} {o : Nat} {md : Nat → Nat} (hm : md_inj md) {h h1 : ac_H} {s1 : md_S} {u : Nat → Int32} {n rc : Nat} {c : mz_C} {v2 v3 : Value} {Q : Option Value → ac_H → Prop} (hrc : rc ≤ 11) (h8 : s1.2.1 8 6 = nI rc) (C : ac_MC G RX9 cX9_readRule 4 none M) (E : ac_End G Q 0 0 M) (K : md_ok h1 o md s1) (R : mz_rep s1 u n c) (kq : kp h h1 (md_L o md))
    (hQ : ∀ h9, md_ok h9 o md (s1.1, va_up (va_up s1.2.1 8 (upd (s1.2.1 8) 6 (nI (rc + 1)))) 9 (upd (s1.2.1 9) (78 + rc + 1) (nI c.2.1.length)), s1.2.2) → kp h h9 (md_L o md) → Q none h9) : aw G 4 M 186 [.ref o, .int (nI (78 + rc)), v2, v3] [] h1 0 0 := by
  refine aw_aload_n C dX9_readRule_186 rfl rfl (q := 187) rfl ?_
  refine gfX9_22_9 (v := .ref (md 8)) C dX9_readRule_187 K.1 rfl (q := 190) rfl ?_
  refine aw_bipush (v := 6) C dX9_readRule_190 (by decide) (q := 192) rfl ?_
  refine aw_dup2_11 C dX9_readRule_192 rfl rfl (q := 193) rfl ?_
  refine ay_iald (N := 7) (f := s1.2.1 8) (j := 6) C dX9_readRule_193 (K.2.1 8 (by decide)) (vp_in_nI (by decide) (by decide)) (rfl) (q := 194) rfl ?_
  refine aw_iconst (v := 1) C dX9_readRule_194 (by decide) (q := 195) rfl ?_
  refine aw_iadd C dX9_readRule_195 (q := 196) rfl ?_
  rw [show s1.2.1 8 6 + 1 = nI (rc + 1) from by rw [h8]; exact nI_1 _]
  refine ay_iast (N := 7) (f := s1.2.1 8) (j := 6) C dX9_readRule_196 (K.2.1 8 (by decide)) (vp_in_nI (by decide) (by decide)) (rfl) (q := 197) rfl ?_
  show aw G 4 M 197 [.ref o, .int (nI (78 + rc)), v2, v3] [] (ac_up h1 (md 8) (.inl (1, 7, .inl (upd (s1.2.1 8) 6 (nI (rc + 1)))))) 0 0
  obtain ⟨h_1, eh_1⟩ : ∃ z9, z9 = ac_up h1 (md 8) (.inl (1, 7, .inl (upd (s1.2.1 8) 6 (nI (rc + 1))))) := ⟨_, rfl⟩
  rw [← eh_1]
  have kpx_4 : kp h1 h_1 [md 8] := by rw [eh_1]; exact kp_up (kp_cons _ kp_rf) _ _ (by simp)
  have K_2 : md_ok h_1 o md (s1.1, va_up s1.2.1 8 (upd (s1.2.1 8) 6 (nI (rc + 1))), s1.2.2) := md_A (s := (s1.1, s1.2.1, s1.2.2)) hm K (j := 8) (by decide) (by rw [eh_1]; exact ac_up_s _ _ _) kpx_4
  have kq_3 : kp h h_1 (md_L o md) := kp_in kq kpx_4 (md_sj (by decide))
  refine aw_aload_n C dX9_readRule_197 rfl rfl (q := 198) rfl ?_
  refine gfX9_25_9 (v := .ref (md 9)) C dX9_readRule_198 K_2.1 rfl (q := 201) rfl ?_
  refine aw_iload_n C dX9_readRule_201 rfl rfl (q := 202) rfl ?_
  refine aw_iconst (v := 1) C dX9_readRule_202 (by decide) (q := 203) rfl ?_
  refine aw_iadd C dX9_readRule_203 (q := 204) rfl ?_
  rw [show nI (78 + rc) + 1 = nI (78 + rc + 1) from nI_1 _]
  refine aw_aload_n C dX9_readRule_204 rfl rfl (q := 205) rfl ?_
  refine gfX9_19_9 (v := .ref (md 7)) C dX9_readRule_205 K_2.1 rfl (q := 208) rfl ?_
  refine aw_bipush (v := 6) C dX9_readRule_208 (by decide) (q := 210) rfl ?_
  refine ay_iald (N := 7) (f := s1.2.1 7) (j := 6) C dX9_readRule_210 (K_2.2.1 7 (by decide)) (vp_in_nI (by decide) (by decide)) (rfl) (q := 211) rfl ?_
  rw [show (s1.2.1 7) 6 = nI c.2.1.length from R.2.2.2.2.2.1]
  refine ay_iast (N := 91) (f := s1.2.1 9) (j := 78 + rc + 1) C dX9_readRule_211 (K_2.2.1 9 (by decide)) (vp_in_nI (by omega) (by decide)) (nI_clamp (by omega)) (q := 212) rfl ?_
  show aw G 4 M 212 [.ref o, .int (nI (78 + rc)), v2, v3] [] (ac_up h_1 (md 9) (.inl (1, 91, .inl (upd (s1.2.1 9) (78 + rc + 1) (nI c.2.1.length))))) 0 0
  obtain ⟨h_5, eh_5⟩ : ∃ z9, z9 = ac_up h_1 (md 9) (.inl (1, 91, .inl (upd (s1.2.1 9) (78 + rc + 1) (nI c.2.1.length)))) := ⟨_, rfl⟩
  rw [← eh_5]
  have kpx_8 : kp h_1 h_5 [md 9] := by rw [eh_5]; exact kp_up (kp_cons _ kp_rf) _ _ (by simp)
  have K_6 : md_ok h_5 o md (s1.1, va_up (va_up s1.2.1 8 (upd (s1.2.1 8) 6 (nI (rc + 1)))) 9 (upd (s1.2.1 9) (78 + rc + 1) (nI c.2.1.length)), s1.2.2) := md_A (s := (s1.1, va_up s1.2.1 8 (upd (s1.2.1 8) 6 (nI (rc + 1))), s1.2.2)) hm K_2 (j := 9) (by decide) (by rw [eh_5]; exact ac_up_s _ _ _) kpx_8
  have kq_7 : kp h h_5 (md_L o md) := kp_in kq_3 kpx_8 (md_sj (by decide))
  refine aw_vret C E dX9_readRule_212 (Nat.le_refl _) (Nat.le_refl _) ?_
  exact hQ _ K_6 kq_7
set_option maxHeartbeats 4000000 in
set_option maxRecDepth 100000 in
theorem ml_conds {G : ac_G} {M : ac_M} {o : Nat} {md : Nat → Nat} (hm : md_inj md) {h : ac_H} {d : Nat} {s : md_S} {u : Nat → Int32} {n rc : Nat} (hn : n ≤ 300) (ht : mz_tx u n) (C : ac_MC G RX9 cX9_readRule 4 none M) (B : ac_Bd M (d + 7) 0 0) :
    ∀ (m k a : Nat) (U W : pz_P) (h1 : ac_H) (s1 : md_S), k + m = 6 → ¬ m = 0 → a ≤ n → U.length ≤ a → md_ok h1 o md s1 → mz_rep s1 u n (a, U, W, none) → mz_fr s s1 → kp h h1 (md_L o md) → (kk1 : (pz_conds u n m a).1 = true → ∀ (h2 : ac_H) (s2 : md_S) (v2 v3 : Value), md_ok h2 o md s2 → mz_rep s2 u n ((pz_conds u n m a).2.1, List.reverseAux ((pz_conds u n m a).2.2.map pz_m) U, [], none) → mz_fr s s2 → kp h h2 (md_L o md) → aw G 4 M 186 [.ref o, .int (nI (78 + rc)), v2, v3] [] h2 0 0) → (kk0 : (pz_conds u n m a).1 = false → ∀ (h2 : ac_H) (s2 : md_S) (c : mz_C) (v2 v3 : Value), md_ok h2 o md s2 → mz_rep s2 u n c → c.2.2.2 = some (pz_conds u n m a).2.1 → c.1 ≤ 330 → c.2.1.length + c.2.2.1.length ≤ 330 → mz_fr s s2 → kp h h2 (md_L o md) → aw G 4 M 186 [.ref o, .int (nI (78 + rc)), v2, v3] [] h2 0 0) → aw G 4 M 116 [.ref o, .int (nI (78 + rc)), .int (nI k), .int 1] [] h1 0 0 := by
  intro m
  induction m with
  | zero => intro k a U W h1 s1 hk hm0; exact absurd rfl hm0
  | succ m ih =>
    intro k a U W h1 s1 hk hm0 han hU K R F kq kk1 kk0
    have gc := pz_cond_good (u := u) hn han
    obtain ⟨pc1, pc0⟩ := p_cond G M.2.1 o md hm h1 d s1 K u n a U W R hn ht han hU
    by_cases hok : (pz_cond u n a).1 = true
    · have g2 := gc.1
      have g3 := gc.2 hok
      have hUl : (List.reverseAux ((pz_cond u n a).2.2.map pz_m) U).length ≤ (pz_cond u n a).2.1 := by rw [rv_len, List.length_map]; omega
      refine aw_iload_n C dX9_readRule_116 rfl rfl (q := 117) rfl ?_
      refine aw_if_eq (t := 186) (q := 120) C dX9_readRule_117 (by decide) rfl (fun c_117 => absurd c_117 (by decide)) (fun c_117 => ?_)
      refine aw_aload_n C dX9_readRule_120 rfl rfl (q := 121) rfl ?_
      refine gfX9_99_9 (v := .int (s1.1 4)) C dX9_readRule_121 K.1 rfl (q := 124) rfl ?_
      refine aw_if_ge (t := 186) (q := 127) C dX9_readRule_124 (by decide) rfl (fun c_124 => absurd c_124 (by rw [R.2.2.2.1]; show ¬ (0 : Int32) ≤ -1; decide)) (fun c_124 => ?_)
      refine aw_aload_n C dX9_readRule_127 rfl rfl (q := 128) rfl ?_
      refine cvX9_155_9 (As := []) (rest := []) C B dX9_readRule_128 K.1 (pc1 hok) rfl rfl (Nat.le_of_ble_eq_true rfl) (by omega) (by omega) (by omega) (q := 131) rfl (fun r9 h_1 hr9 => ?_)
      obtain ⟨s_2, er9, K_3, R_4, F_5, kpx_7⟩ := hr9
      subst er9
      have F_6 : mz_fr s s_2 := mz_fr_tr F F_5
      have kq_8 : kp h h_1 (md_L o md) := kp_in kq kpx_7 (fun _ z => z)
      show aw G 4 M 131 [.ref o, .int (nI (78 + rc)), .int (nI k), .int 1] [] h_1 0 0
      refine aw_iinc (v := nI (k + 1)) (ls' := [.ref o, .int (nI (78 + rc)), .int (nI (k + 1)), .int 1]) C dX9_readRule_131 rfl (nI_1 k) (by decide) rfl (q := 134) rfl ?_
      refine aw_aload_n C dX9_readRule_134 rfl rfl (q := 135) rfl ?_
      refine gfX9_99_9 (v := .int (s_2.1 4)) C dX9_readRule_135 K_3.1 rfl (q := 138) rfl ?_
      refine aw_if_ge (t := 160) (q := 141) C dX9_readRule_138 (by decide) rfl (fun c_138 => absurd c_138 (by rw [R_4.2.2.2.1]; show ¬ (0 : Int32) ≤ -1; decide)) (fun c_138 => ?_)
      refine aw_aload_n C dX9_readRule_141 rfl rfl (q := 142) rfl ?_
      refine cvX9_116_9 (As := []) (rest := []) C B dX9_readRule_142 K_3.1 (m_here G M.2.1 o md hm h_1 (d + 6) s_2 K_3 ((pz_cond u n a).2.1) n R_4.2.2.1 R_4.1 (by omega) R_4.2.1) rfl rfl (Nat.le_of_ble_eq_true rfl) (by omega) (by omega) (by omega) (q := 145) rfl (fun r9 h9 hr9 => ?_)
      obtain ⟨e9, er9⟩ := hr9
      subst er9; rw [e9]
      show aw G 4 M 145 [.ref o, .int (nI (78 + rc)), .int (nI (k + 1)), .int 1] [.int (mo_here s_2 ((pz_cond u n a).2.1) n)] h_1 0 0
      rw [mz_here R_4]
      refine aw_bipush (v := 44) C dX9_readRule_145 (by decide) (q := 147) rfl ?_
      refine aw_icmp_ne (t := 160) (q := 150) C dX9_readRule_147 (by decide) rfl (fun c_147 => ?_) (fun c_147 => ?_)
      ·
        refine aw_iconst (v := 0) C dX9_readRule_160 (by decide) (q := 161) rfl ?_
        refine aw_istore_n (ls' := [.ref o, .int (nI (78 + rc)), .int (nI (k + 1)), .int 0]) C dX9_readRule_161 rfl (by decide) rfl (q := 162) rfl ?_
        refine aw_aload_n C dX9_readRule_162 rfl rfl (q := 163) rfl ?_
        refine aw_iload_n C dX9_readRule_163 rfl rfl (q := 164) rfl ?_
        refine aw_if_eq (t := 176) (q := 167) C dX9_readRule_164 (by decide) rfl (fun c_164 => ?_) (fun c_164 => absurd c_164 (by decide))
        refine aw_aload_n C dX9_readRule_176 rfl rfl (q := 177) rfl ?_
        refine gfX9_96_9 (v := .int (s_2.1 3)) C dX9_readRule_177 K_3.1 rfl (q := 180) rfl ?_
        rw [show s_2.1 3 = nI ((pz_cond u n a).2.1) from R_4.2.2.1]
        refine pfX9_96_9 C dX9_readRule_180 K_3.1 rfl rfl (Nat.le_of_ble_eq_true rfl) (q := 183) rfl ?_
        show aw G 4 M 183 [.ref o, .int (nI (78 + rc)), .int (nI (k + 1)), .int 0] [] (ac_up h_1 o (.inr (9, md_fs md ((upd s_2.1 3 (nI ((pz_cond u n a).2.1)), s_2.2.1, s_2.2.2).1)))) 0 0
        obtain ⟨h_9, eh_9⟩ : ∃ z9, z9 = ac_up h_1 o (.inr (9, md_fs md ((upd s_2.1 3 (nI ((pz_cond u n a).2.1)), s_2.2.1, s_2.2.2).1))) := ⟨_, rfl⟩
        rw [← eh_9]
        have kpx_12 : kp h_1 h_9 [o] := by rw [eh_9]; exact kp_up (kp_cons o kp_rf) _ _ (by simp)
        have K_10 : md_ok h_9 o md (upd s_2.1 3 (nI ((pz_cond u n a).2.1)), s_2.2.1, s_2.2.2) := md_J (s := (s_2.1, s_2.2.1, s_2.2.2)) K_3 (by rw [eh_9]; exact ac_up_s _ _ _) kpx_12
        have kq_11 : kp h h_9 (md_L o md) := kp_in kq_8 kpx_12 md_s0
        have R_14 : mz_rep (upd s_2.1 3 (nI ((pz_cond u n a).2.1)), s_2.2.1, s_2.2.2) u n ((pz_cond u n a).2.1, List.reverseAux ((pz_cond u n a).2.2.map pz_m) U, [], none) := mz_at R_4 _
        have F_15 : mz_fr s (upd s_2.1 3 (nI ((pz_cond u n a).2.1)), s_2.2.1, s_2.2.2) := mz_fr_at F_6
        obtain ⟨s_13, es_13⟩ : ∃ z, z = (upd s_2.1 3 (nI ((pz_cond u n a).2.1)), s_2.2.1, s_2.2.2) := ⟨_, rfl⟩
        rw [← es_13] at K_10 R_14 F_15
        refine aw_goto (q := 116) C dX9_readRule_183 (by decide) ?_
        refine aw_iload_n C dX9_readRule_116 rfl rfl (q := 117) rfl ?_
        refine aw_if_eq (t := 186) (q := 120) C dX9_readRule_117 (by decide) rfl (fun c_117 => ?_) (fun c_117 => absurd c_117 (by decide))
        have e1 : pz_conds u n (m + 1) a = (true, (pz_cond u n a).2.1, (pz_cond u n a).2.2) := by
          show (if (pz_cond u n a).1 = true then _ else _) = _
          rw [if_pos hok, if_neg (fun z => c_147 ((mz_ec (by decide) (by decide)).mpr z.1))]
        rw [e1] at kk1
        exact kk1 rfl _ _ _ _ K_10 R_14 F_15 kq_11
      ·
        refine aw_iload_n C dX9_readRule_150 rfl rfl (q := 151) rfl ?_
        refine aw_bipush (v := 6) C dX9_readRule_151 (by decide) (q := 153) rfl ?_
        refine aw_icmp_ge (t := 160) (q := 156) C dX9_readRule_153 (by decide) rfl (fun c_153 => ?_) (fun c_153 => ?_)
        ·
          refine aw_iconst (v := 0) C dX9_readRule_160 (by decide) (q := 161) rfl ?_
          refine aw_istore_n (ls' := [.ref o, .int (nI (78 + rc)), .int (nI (k + 1)), .int 0]) C dX9_readRule_161 rfl (by decide) rfl (q := 162) rfl ?_
          refine aw_aload_n C dX9_readRule_162 rfl rfl (q := 163) rfl ?_
          refine aw_iload_n C dX9_readRule_163 rfl rfl (q := 164) rfl ?_
          refine aw_if_eq (t := 176) (q := 167) C dX9_readRule_164 (by decide) rfl (fun c_164 => ?_) (fun c_164 => absurd c_164 (by decide))
          refine aw_aload_n C dX9_readRule_176 rfl rfl (q := 177) rfl ?_
          refine gfX9_96_9 (v := .int (s_2.1 3)) C dX9_readRule_177 K_3.1 rfl (q := 180) rfl ?_
          rw [show s_2.1 3 = nI ((pz_cond u n a).2.1) from R_4.2.2.1]
          refine pfX9_96_9 C dX9_readRule_180 K_3.1 rfl rfl (Nat.le_of_ble_eq_true rfl) (q := 183) rfl ?_
          show aw G 4 M 183 [.ref o, .int (nI (78 + rc)), .int (nI (k + 1)), .int 0] [] (ac_up h_1 o (.inr (9, md_fs md ((upd s_2.1 3 (nI ((pz_cond u n a).2.1)), s_2.2.1, s_2.2.2).1)))) 0 0
          obtain ⟨h_16, eh_16⟩ : ∃ z9, z9 = ac_up h_1 o (.inr (9, md_fs md ((upd s_2.1 3 (nI ((pz_cond u n a).2.1)), s_2.2.1, s_2.2.2).1))) := ⟨_, rfl⟩
          rw [← eh_16]
          have kpx_19 : kp h_1 h_16 [o] := by rw [eh_16]; exact kp_up (kp_cons o kp_rf) _ _ (by simp)
          have K_17 : md_ok h_16 o md (upd s_2.1 3 (nI ((pz_cond u n a).2.1)), s_2.2.1, s_2.2.2) := md_J (s := (s_2.1, s_2.2.1, s_2.2.2)) K_3 (by rw [eh_16]; exact ac_up_s _ _ _) kpx_19
          have kq_18 : kp h h_16 (md_L o md) := kp_in kq_8 kpx_19 md_s0
          have R_21 : mz_rep (upd s_2.1 3 (nI ((pz_cond u n a).2.1)), s_2.2.1, s_2.2.2) u n ((pz_cond u n a).2.1, List.reverseAux ((pz_cond u n a).2.2.map pz_m) U, [], none) := mz_at R_4 _
          have F_22 : mz_fr s (upd s_2.1 3 (nI ((pz_cond u n a).2.1)), s_2.2.1, s_2.2.2) := mz_fr_at F_6
          obtain ⟨s_20, es_20⟩ : ∃ z, z = (upd s_2.1 3 (nI ((pz_cond u n a).2.1)), s_2.2.1, s_2.2.2) := ⟨_, rfl⟩
          rw [← es_20] at K_17 R_21 F_22
          refine aw_goto (q := 116) C dX9_readRule_183 (by decide) ?_
          refine aw_iload_n C dX9_readRule_116 rfl rfl (q := 117) rfl ?_
          refine aw_if_eq (t := 186) (q := 120) C dX9_readRule_117 (by decide) rfl (fun c_117 => ?_) (fun c_117 => absurd c_117 (by decide))
          have e1 : pz_conds u n (m + 1) a = (true, (pz_cond u n a).2.1, (pz_cond u n a).2.2) := by
            show (if (pz_cond u n a).1 = true then _ else _) = _
            rw [if_pos hok, if_neg (fun z => z.2 (by have := ni_le (k + 1) 6 rfl rfl (by omega) (by decide) c_153; omega))]
          rw [e1] at kk1
          exact kk1 rfl _ _ _ _ K_17 R_21 F_22 kq_18
        ·
          refine aw_iconst (v := 1) C dX9_readRule_156 (by decide) (q := 157) rfl ?_
          refine aw_goto (q := 161) C dX9_readRule_157 (by decide) ?_
          refine aw_istore_n (ls' := [.ref o, .int (nI (78 + rc)), .int (nI (k + 1)), .int 1]) C dX9_readRule_161 rfl (by decide) rfl (q := 162) rfl ?_
          refine aw_aload_n C dX9_readRule_162 rfl rfl (q := 163) rfl ?_
          refine aw_iload_n C dX9_readRule_163 rfl rfl (q := 164) rfl ?_
          refine aw_if_eq (t := 176) (q := 167) C dX9_readRule_164 (by decide) rfl (fun c_164 => absurd c_164 (by decide)) (fun c_164 => ?_)
          refine aw_aload_n C dX9_readRule_167 rfl rfl (q := 168) rfl ?_
          refine gfX9_96_9 (v := .int (s_2.1 3)) C dX9_readRule_168 K_3.1 rfl (q := 171) rfl ?_
          refine aw_iconst (v := 1) C dX9_readRule_171 (by decide) (q := 172) rfl ?_
          refine aw_iadd C dX9_readRule_172 (q := 173) rfl ?_
          refine aw_goto (q := 180) C dX9_readRule_173 (by decide) ?_
          rw [show (s_2.1 3) + 1 = nI ((pz_cond u n a).2.1 + 1) from by rw [R_4.2.2.1]; exact nI_1 _]
          refine pfX9_96_9 C dX9_readRule_180 K_3.1 rfl rfl (Nat.le_of_ble_eq_true rfl) (q := 183) rfl ?_
          show aw G 4 M 183 [.ref o, .int (nI (78 + rc)), .int (nI (k + 1)), .int 1] [] (ac_up h_1 o (.inr (9, md_fs md ((upd s_2.1 3 (nI ((pz_cond u n a).2.1 + 1)), s_2.2.1, s_2.2.2).1)))) 0 0
          obtain ⟨h_23, eh_23⟩ : ∃ z9, z9 = ac_up h_1 o (.inr (9, md_fs md ((upd s_2.1 3 (nI ((pz_cond u n a).2.1 + 1)), s_2.2.1, s_2.2.2).1))) := ⟨_, rfl⟩
          rw [← eh_23]
          have kpx_26 : kp h_1 h_23 [o] := by rw [eh_23]; exact kp_up (kp_cons o kp_rf) _ _ (by simp)
          have K_24 : md_ok h_23 o md (upd s_2.1 3 (nI ((pz_cond u n a).2.1 + 1)), s_2.2.1, s_2.2.2) := md_J (s := (s_2.1, s_2.2.1, s_2.2.2)) K_3 (by rw [eh_23]; exact ac_up_s _ _ _) kpx_26
          have kq_25 : kp h h_23 (md_L o md) := kp_in kq_8 kpx_26 md_s0
          have R_28 : mz_rep (upd s_2.1 3 (nI ((pz_cond u n a).2.1 + 1)), s_2.2.1, s_2.2.2) u n ((pz_cond u n a).2.1 + 1, List.reverseAux ((pz_cond u n a).2.2.map pz_m) U, [], none) := mz_at R_4 _
          have F_29 : mz_fr s (upd s_2.1 3 (nI ((pz_cond u n a).2.1 + 1)), s_2.2.1, s_2.2.2) := mz_fr_at F_6
          obtain ⟨s_27, es_27⟩ : ∃ z, z = (upd s_2.1 3 (nI ((pz_cond u n a).2.1 + 1)), s_2.2.1, s_2.2.2) := ⟨_, rfl⟩
          rw [← es_27] at K_24 R_28 F_29
          refine aw_goto (q := 116) C dX9_readRule_183 (by decide) ?_
          have hlt : (pz_cond u n a).2.1 < n := mz_lt ((mz_ec (by decide) (by decide)).mp c_147) (by decide)
          have hm : ¬ m = 0 := fun z => c_153 (by rw [show k + 1 = 6 by omega]; decide)
          have e1 : pz_conds u n (m + 1) a = ((pz_conds u n m ((pz_cond u n a).2.1 + 1)).1, (pz_conds u n m ((pz_cond u n a).2.1 + 1)).2.1, (pz_cond u n a).2.2 ++ (pz_conds u n m ((pz_cond u n a).2.1 + 1)).2.2) := by
            show (if (pz_cond u n a).1 = true then _ else _) = _
            rw [if_pos hok, if_pos ⟨(mz_ec (by decide) (by decide)).mp c_147, hm⟩]
          rw [e1] at kk1 kk0
          refine ih (k + 1) ((pz_cond u n a).2.1 + 1) _ [] h_23 s_27 (by omega) hm (by omega) (by omega) K_24 R_28 F_29 kq_25 (fun z => ?_) kk0
          have kk2 := kk1 z
          rw [List.map_append, rv_app] at kk2
          exact kk2
    · have hno : (pz_cond u n a).1 = false := by cases e : (pz_cond u n a).1; rfl; exact absurd e hok
      refine aw_iload_n C dX9_readRule_116 rfl rfl (q := 117) rfl ?_
      refine aw_if_eq (t := 186) (q := 120) C dX9_readRule_117 (by decide) rfl (fun c_117 => absurd c_117 (by decide)) (fun c_117 => ?_)
      refine aw_aload_n C dX9_readRule_120 rfl rfl (q := 121) rfl ?_
      refine gfX9_99_9 (v := .int (s1.1 4)) C dX9_readRule_121 K.1 rfl (q := 124) rfl ?_
      refine aw_if_ge (t := 186) (q := 127) C dX9_readRule_124 (by decide) rfl (fun c_124 => absurd c_124 (by rw [R.2.2.2.1]; show ¬ (0 : Int32) ≤ -1; decide)) (fun c_124 => ?_)
      refine aw_aload_n C dX9_readRule_127 rfl rfl (q := 128) rfl ?_
      refine cvX9_155_9 (As := []) (rest := []) C B dX9_readRule_128 K.1 (pc0 hno) rfl rfl (Nat.le_of_ble_eq_true rfl) (by omega) (by omega) (by omega) (q := 131) rfl (fun r9 h_1 hr9 => ?_)
      obtain ⟨s_2, ⟨a9, U9, W9, f9⟩, er9, K_3, R_4, ef9, bd1, bd2, F_5, kpx_7⟩ := hr9
      subst er9
      have ef8 : f9 = some (pz_cond u n a).2.1 := ef9
      subst ef8
      replace bd1 : a9 ≤ 320 := bd1
      replace bd2 : U9.length + W9.length ≤ 320 := bd2
      have F_6 : mz_fr s s_2 := mz_fr_tr F F_5
      have kq_8 : kp h h_1 (md_L o md) := kp_in kq kpx_7 (fun _ z => z)
      show aw G 4 M 131 [.ref o, .int (nI (78 + rc)), .int (nI k), .int 1] [] h_1 0 0
      refine aw_iinc (v := nI (k + 1)) (ls' := [.ref o, .int (nI (78 + rc)), .int (nI (k + 1)), .int 1]) C dX9_readRule_131 rfl (nI_1 k) (by decide) rfl (q := 134) rfl ?_
      refine aw_aload_n C dX9_readRule_134 rfl rfl (q := 135) rfl ?_
      refine gfX9_99_9 (v := .int (s_2.1 4)) C dX9_readRule_135 K_3.1 rfl (q := 138) rfl ?_
      refine aw_if_ge (t := 160) (q := 141) C dX9_readRule_138 (by decide) rfl (fun c_138 => ?_) (fun c_138 => absurd c_138 (fun z => z (by rw [R_4.2.2.2.1]; exact nI_le (a := 0) (b := (pz_cond u n a).2.1) (Nat.zero_le _) (by have := R_4.2.2.2.2.2.2.2.2.2 (pz_cond u n a).2.1 rfl; omega))))
      refine aw_iconst (v := 0) C dX9_readRule_160 (by decide) (q := 161) rfl ?_
      refine aw_istore_n (ls' := [.ref o, .int (nI (78 + rc)), .int (nI (k + 1)), .int 0]) C dX9_readRule_161 rfl (by decide) rfl (q := 162) rfl ?_
      refine aw_aload_n C dX9_readRule_162 rfl rfl (q := 163) rfl ?_
      refine aw_iload_n C dX9_readRule_163 rfl rfl (q := 164) rfl ?_
      refine aw_if_eq (t := 176) (q := 167) C dX9_readRule_164 (by decide) rfl (fun c_164 => ?_) (fun c_164 => absurd c_164 (by decide))
      refine aw_aload_n C dX9_readRule_176 rfl rfl (q := 177) rfl ?_
      refine gfX9_96_9 (v := .int (s_2.1 3)) C dX9_readRule_177 K_3.1 rfl (q := 180) rfl ?_
      rw [show s_2.1 3 = nI (a9) from R_4.2.2.1]
      refine pfX9_96_9 C dX9_readRule_180 K_3.1 rfl rfl (Nat.le_of_ble_eq_true rfl) (q := 183) rfl ?_
      show aw G 4 M 183 [.ref o, .int (nI (78 + rc)), .int (nI (k + 1)), .int 0] [] (ac_up h_1 o (.inr (9, md_fs md ((upd s_2.1 3 (nI (a9)), s_2.2.1, s_2.2.2).1)))) 0 0
      obtain ⟨h_9, eh_9⟩ : ∃ z9, z9 = ac_up h_1 o (.inr (9, md_fs md ((upd s_2.1 3 (nI (a9)), s_2.2.1, s_2.2.2).1))) := ⟨_, rfl⟩
      rw [← eh_9]
      have kpx_12 : kp h_1 h_9 [o] := by rw [eh_9]; exact kp_up (kp_cons o kp_rf) _ _ (by simp)
      have K_10 : md_ok h_9 o md (upd s_2.1 3 (nI (a9)), s_2.2.1, s_2.2.2) := md_J (s := (s_2.1, s_2.2.1, s_2.2.2)) K_3 (by rw [eh_9]; exact ac_up_s _ _ _) kpx_12
      have kq_11 : kp h h_9 (md_L o md) := kp_in kq_8 kpx_12 md_s0
      have R_14 : mz_rep (upd s_2.1 3 (nI (a9)), s_2.2.1, s_2.2.2) u n (a9, U9, W9, some (pz_cond u n a).2.1) := mz_at R_4 _
      have F_15 : mz_fr s (upd s_2.1 3 (nI (a9)), s_2.2.1, s_2.2.2) := mz_fr_at F_6
      obtain ⟨s_13, es_13⟩ : ∃ z, z = (upd s_2.1 3 (nI (a9)), s_2.2.1, s_2.2.2) := ⟨_, rfl⟩
      rw [← es_13] at K_10 R_14 F_15
      refine aw_goto (q := 116) C dX9_readRule_183 (by decide) ?_
      refine aw_iload_n C dX9_readRule_116 rfl rfl (q := 117) rfl ?_
      refine aw_if_eq (t := 186) (q := 120) C dX9_readRule_117 (by decide) rfl (fun c_117 => ?_) (fun c_117 => absurd c_117 (by decide))
      have e1 : pz_conds u n (m + 1) a = (false, (pz_cond u n a).2.1, []) := by
        show (if (pz_cond u n a).1 = true then _ else _) = _
        rw [if_neg (by rw [hno]; decide)]
      rw [e1] at kk0
      exact kk0 rfl _ _ (a9, U9, W9, some (pz_cond u n a).2.1) _ _ K_10 R_14 rfl (by omega : a9 ≤ 330) (by omega : U9.length + W9.length ≤ 330) F_15 kq_11
