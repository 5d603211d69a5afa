/-! The reference: read; texts in their rows -/
theorem pz_rules_len {u : Nat → Int32} {n : Nat} (hn : n ≤ 300) : ∀ (m a : Nat), a ≤ n → (pz_rules u n m a).2.1 ≤ n ∧ ((pz_rules u n m a).1 = true → (pz_all (pz_rules u n m a).2.2).length + a ≤ n ∧ (pz_rules u n m a).2.2.length ≤ m ∧ 1 ≤ (pz_rules u n m a).2.2.length) := by
  intro m
  induction m with
  | zero => intro a ha; exact ⟨ha, fun z => by cases z⟩
  | succ m ih =>
    intro a ha
    have g := pz_rule_good (u := u) hn a ha
    unfold pz_rules
    by_cases h1 : (pz_rule u n a).1 = true
    · rw [if_pos h1]
      have g2 := g.2 h1
      by_cases h2 : (pz_rule u n a).2.1 = n
      · rw [if_pos h2]
        refine ⟨Nat.le_refl _, fun _ => ⟨?_, by show 1 ≤ m + 1; omega, Nat.le_refl _⟩⟩
        show ((pz_rule u n a).2.2 ++ []).length + a ≤ n
        rw [List.append_nil]; omega
      · rw [if_neg h2]
        by_cases h3 : cu_c u n (pz_rule u n a).2.1 = 59 ∧ ¬ m = 0
        · rw [if_pos h3]
          have hl := mz_lt h3.1 (by decide)
          obtain ⟨i1, i2⟩ := ih ((pz_rule u n a).2.1 + 1) (by omega)
          refine ⟨i1, fun z => ?_⟩
          obtain ⟨i3, i4, i5⟩ := i2 z
          refine ⟨?_, ?_, ?_⟩
          · show ((pz_rule u n a).2.2 ++ pz_all (pz_rules u n m ((pz_rule u n a).2.1 + 1)).2.2).length + a ≤ n
            rw [List.length_append]; omega
          · rw [List.length_cons]; omega
          · rw [List.length_cons]; omega
        · rw [if_neg h3]; exact ⟨g.1, fun z => by cases z⟩
    · rw [if_neg h1]; exact ⟨g.1, fun z => by cases z⟩
theorem mz_dl_eq {f9 f10 g9 g10 : Nat → Int32} {k : Nat} : ∀ (l : List (Int32 × pz_P)) (r b : Nat), mz_dl f9 f10 (k + r) b l → (∀ i, r ≤ i → i ≤ r + l.length → g9 i = f9 (k + i)) → (∀ i, r ≤ i → i < r + l.length → g10 i = f10 (k + i)) → mz_dl g9 g10 r b l := by
  intro l
  induction l with
  | nil => intro r b h e9 _; exact (e9 r (Nat.le_refl _) (by simp)).trans h
  | cons x l ih =>
    intro r b h e9 e10
    exact ⟨(e10 r (Nat.le_refl _) (by simp)).trans h.1, (e9 r (Nat.le_refl _) (by simp)).trans h.2.1, ih (r + 1) _ h.2.2 (fun i h1 h2 => e9 i (by omega) (by simp; omega)) (fun i h1 h2 => e10 i (by omega) (by simp; omega))⟩
/-- text t of the reference holds the rules l -/
def mo_txt (s : md_S) (t : Nat) (l : List (Int32 × pz_P)) : Prop := s.2.1 8 t = nI l.length ∧ s.2.1 7 t = nI (pz_all l).length ∧ mz_dl (fun i => s.2.1 9 (13 * t + i)) (fun i => s.2.1 10 (13 * t + i)) 0 0 l ∧ pc_l (fun i => s.2.1 5 (400 * t + i)) (fun i => s.2.1 6 (400 * t + i)) (List.reverseAux ((pz_all l).map pz_m) []) ∧ l.length ≤ 12 ∧ (pz_all l).length ≤ 300
/-- text t stays -/
def mo_ts (s s' : md_S) (t : Nat) : Prop := (∀ i, i < 400 → s'.2.1 5 (400 * t + i) = s.2.1 5 (400 * t + i) ∧ s'.2.1 6 (400 * t + i) = s.2.1 6 (400 * t + i)) ∧ (∀ i, i < 13 → s'.2.1 9 (13 * t + i) = s.2.1 9 (13 * t + i) ∧ s'.2.1 10 (13 * t + i) = s.2.1 10 (13 * t + i)) ∧ s'.2.1 7 t = s.2.1 7 t ∧ s'.2.1 8 t = s.2.1 8 t
theorem mo_txt_cp {s s' : md_S} {t fr : Nat} {l : List (Int32 × pz_P)} (h : mo_txt s fr l) (h5 : ∀ i, i < 400 → s'.2.1 5 (400 * t + i) = s.2.1 5 (400 * fr + i) ∧ s'.2.1 6 (400 * t + i) = s.2.1 6 (400 * fr + i)) (h9 : ∀ i, i < 13 → s'.2.1 9 (13 * t + i) = s.2.1 9 (13 * fr + i) ∧ s'.2.1 10 (13 * t + i) = s.2.1 10 (13 * fr + i)) (h7 : s'.2.1 7 t = s.2.1 7 fr) (h8 : s'.2.1 8 t = s.2.1 8 fr) : mo_txt s' t l := by
  obtain ⟨a1, a2, a3, a4, a5, a6⟩ := h
  refine ⟨h8.trans a1, h7.trans a2, ?_, ?_, a5, a6⟩
  · refine mz_dl_eq (k := 0) l 0 0 a3 (fun i _ hi => ?_) (fun i _ hi => ?_)
    · show s'.2.1 9 (13 * t + i) = s.2.1 9 (13 * fr + (0 + i))
      rw [Nat.zero_add]; exact (h9 i (by omega)).1
    · show s'.2.1 10 (13 * t + i) = s.2.1 10 (13 * fr + (0 + i))
      rw [Nat.zero_add]; exact (h9 i (by omega)).2
  · refine pc_l_eq _ a4 (fun i hi => ?_)
    rw [rv_len, List.length_map] at hi
    exact h5 i (by simp at hi; omega)
theorem mo_txt_ts {s s' : md_S} {t : Nat} {l : List (Int32 × pz_P)} (h : mo_txt s t l) (e : mo_ts s s' t) : mo_txt s' t l := mo_txt_cp h e.1 e.2.1 e.2.2.1 e.2.2.2
theorem mo_ts_rf {s : md_S} {t : Nat} : mo_ts s s t := ⟨fun _ _ => ⟨rfl, rfl⟩, fun _ _ => ⟨rfl, rfl⟩, rfl, rfl⟩
theorem mo_ts_tr {s s1 s2 : md_S} {t : Nat} (h : mo_ts s s1 t) (g : mo_ts s1 s2 t) : mo_ts s s2 t :=
  ⟨fun i hi => ⟨(g.1 i hi).1.trans (h.1 i hi).1, (g.1 i hi).2.trans (h.1 i hi).2⟩, fun i hi => ⟨(g.2.1 i hi).1.trans (h.2.1 i hi).1, (g.2.1 i hi).2.trans (h.2.1 i hi).2⟩, g.2.2.1.trans h.2.2.1, g.2.2.2.trans h.2.2.2⟩
/-- the ints but J, the rows but those of the texts and of the waiting, the texts but ts, all longs stay -/
def mo_fW (J ts : List Nat) (s s' : md_S) : Prop := (∀ j, j ∉ J → s'.1 j = s.1 j) ∧ (∀ j, j ∉ [5, 6, 7, 8, 9, 10, 12, 13] → s'.2.1 j = s.2.1 j) ∧ (∀ t, t < 7 → t ∉ ts → mo_ts s s' t) ∧ s'.2.2 = s.2.2
theorem mo_fW_tr {J ts : List Nat} {s s1 s2 : md_S} (h : mo_fW J ts s s1) (g : mo_fW J ts s1 s2) : mo_fW J ts s s2 :=
  ⟨fun j hj => (g.1 j hj).trans (h.1 j hj), fun j hj => (g.2.1 j hj).trans (h.2.1 j hj), fun t h1 h2 => mo_ts_tr (h.2.2.1 t h1 h2) (g.2.2.1 t h1 h2), g.2.2.2.trans h.2.2.2⟩
theorem mo_fW_mono {J ts J' ts' : List Nat} {s s1 : md_S} (h : mo_fW J ts s s1) (hJ : ∀ j ∈ J, j ∈ J') (ht : ∀ j ∈ ts, j ∈ ts') : mo_fW J' ts' s s1 :=
  ⟨fun j hj => h.1 j (fun z => hj (hJ j z)), h.2.1, fun t h1 h2 => h.2.2.1 t h1 (fun z => h2 (ht t z)), h.2.2.2⟩
theorem mz_fR_W {s s1 : md_S} (h : mz_fR s s1) : mo_fW [3, 4, 14] [6] s s1 :=
  ⟨h.1, h.2.1, fun t h1 h2 => by
    have h3 : ¬ t = 6 := fun z => h2 (by rw [z]; decide)
    exact ⟨fun i hi => h.2.2.1 _ (by omega), fun i hi => h.2.2.2.2.1 _ (by omega), (h.2.2.2.1 t h3).1, (h.2.2.2.1 t h3).2⟩, h.2.2.2.2.2⟩
/-- copied rows -/
theorem mo_cpr_in {f : Nat → Int32} {W t fr i : Nat} (hi : i < W) : mo_cpr f W t fr W (W * t + i) = f (W * fr + i) := by
  unfold mo_cpr; rw [if_pos (by omega), show W * t + i - W * t = i by omega]
theorem mo_cpr_out {f : Nat → Int32} {W t t' fr i : Nat} (hi : i < W) (h : ¬ t = t') : mo_cpr f W t fr W (W * t' + i) = f (W * t' + i) := by
  have ha := mo_ap (W := W) h
  obtain ⟨x, hx⟩ : ∃ x, x = W * t := ⟨_, rfl⟩
  obtain ⟨y, hy⟩ : ∃ y, y = W * t' := ⟨_, rfl⟩
  rw [← hx, ← hy] at ha
  unfold mo_cpr
  rw [← hx, ← hy, if_neg (by omega)]
theorem mo_cp_txt {s : md_S} {J : Nat → Int32} {L : Nat → Nat → Int64} {A : Nat → Nat → Int32} {t fr : Nat} {l : List (Int32 × pz_P)} (h : mo_txt s fr l) (h5 : A 5 = mo_cpr (s.2.1 5) 400 t fr 400) (h6 : A 6 = mo_cpr (s.2.1 6) 400 t fr 400) (h9 : A 9 = mo_cpr (s.2.1 9) 13 t fr 13) (h10 : A 10 = mo_cpr (s.2.1 10) 13 t fr 13) (h7 : A 7 = upd (s.2.1 7) t (s.2.1 7 fr)) (h8 : A 8 = upd (s.2.1 8) t (s.2.1 8 fr)) : mo_txt (J, A, L) t l :=
  mo_txt_cp h (fun i hi => ⟨by show A 5 _ = _; rw [h5]; exact mo_cpr_in hi, by show A 6 _ = _; rw [h6]; exact mo_cpr_in hi⟩) (fun i hi => ⟨by show A 9 _ = _; rw [h9]; exact mo_cpr_in hi, by show A 10 _ = _; rw [h10]; exact mo_cpr_in hi⟩) (by show A 7 t = _; rw [h7]; exact if_pos rfl) (by show A 8 t = _; rw [h8]; exact if_pos rfl)
theorem mo_cp_ts {s : md_S} {J : Nat → Int32} {L : Nat → Nat → Int64} {A : Nat → Nat → Int32} {t fr t' : Nat} (hne : ¬ t = t') (h5 : A 5 = mo_cpr (s.2.1 5) 400 t fr 400) (h6 : A 6 = mo_cpr (s.2.1 6) 400 t fr 400) (h9 : A 9 = mo_cpr (s.2.1 9) 13 t fr 13) (h10 : A 10 = mo_cpr (s.2.1 10) 13 t fr 13) (h7 : A 7 = upd (s.2.1 7) t (s.2.1 7 fr)) (h8 : A 8 = upd (s.2.1 8) t (s.2.1 8 fr)) : mo_ts s (J, A, L) t' :=
  ⟨fun i hi => ⟨by show A 5 _ = _; rw [h5]; exact mo_cpr_out hi hne, by show A 6 _ = _; rw [h6]; exact mo_cpr_out hi hne⟩, fun i hi => ⟨by show A 9 _ = _; rw [h9]; exact mo_cpr_out hi hne, by show A 10 _ = _; rw [h10]; exact mo_cpr_out hi hne⟩, by show A 7 t' = _; rw [h7]; exact if_neg (fun z => hne z.symm), by show A 8 t' = _; rw [h8]; exact if_neg (fun z => hne z.symm)⟩
theorem pc_l_ex (f g : Nat → Int32) : ∀ k : Nat, ∃ W : pz_P, W.length = k ∧ pc_l f g W := by
  intro k
  induction k with
  | zero => exact ⟨[], rfl, True.intro⟩
  | succ k ih =>
    obtain ⟨W, h1, h2⟩ := ih
    exact ⟨(f k, g k) :: W, by rw [List.length_cons, h1], by rw [← h1]; exact ⟨rfl, rfl, h2⟩⟩
set_option maxHeartbeats 4000000 in
set_option maxRecDepth 100000 in
theorem ml_rd0 {G : ac_G} {M : ac_M} {o : Nat} {md : Nat → Nat} (hm : md_inj md) {h h1 : ac_H} {s1 : md_S} {u : Nat → Int32} {n p : Nat} {c : mz_C} {Q : Option Value → ac_H → Prop} (C : ac_MC G RX9 cX9_read 1 (some .int) M) (E : ac_End G Q 0 0 M) (K : md_ok h1 o md s1) (R : mz_rep s1 u n c) (ec : c.2.2.2 = some p) (kq : kp h h1 (md_L o md)) (hQ : ∀ h9, md_ok h9 o md (upd s1.1 2 0, s1.2.1, s1.2.2) → kp h h9 (md_L o md) → Q (some (.int (-1 - nI p))) h9) : aw G 1 M 102 [.ref o] [] h1 0 0 := by
  have hp : p ≤ 2000 := R.2.2.2.2.2.2.2.2.2 p ec
  have h4 : s1.1 4 = nI p := by rw [R.2.2.2.1, ec]; rfl
  refine aw_aload_n C dX9_read_102 rfl rfl (q := 103) rfl ?_
  refine aw_iconst (v := 0) C dX9_read_103 (by decide) (q := 104) rfl ?_
  refine pfX9_93_9 C dX9_read_104 K.1 rfl rfl (Nat.le_of_ble_eq_true rfl) (q := 107) rfl ?_
  show aw G 1 M 107 [.ref o] [] (ac_up h1 o (.inr (9, md_fs md ((upd s1.1 2 0, s1.2.1, s1.2.2).1)))) 0 0
  obtain ⟨h_1, eh_1⟩ : ∃ z9, z9 = ac_up h1 o (.inr (9, md_fs md ((upd s1.1 2 0, s1.2.1, s1.2.2).1))) := ⟨_, rfl⟩
  rw [← eh_1]
  have kpx_4 : kp h1 h_1 [o] := by rw [eh_1]; exact kp_up (kp_cons o kp_rf) _ _ (by simp)
  have K_2 : md_ok h_1 o md (upd s1.1 2 0, s1.2.1, s1.2.2) := md_J (s := (s1.1, s1.2.1, s1.2.2)) K (by rw [eh_1]; exact ac_up_s _ _ _) kpx_4
  have kq_3 : kp h h_1 (md_L o md) := kp_in kq kpx_4 md_s0
  refine aw_aload_n C dX9_read_107 rfl rfl (q := 108) rfl ?_
  refine gfX9_99_9 (v := .int (s1.1 4)) C dX9_read_108 K_2.1 rfl (q := 111) rfl ?_
  refine aw_if_lt (t := 121) (q := 114) C dX9_read_111 (by decide) rfl (fun c_111 => absurd c_111 (by rw [h4]; exact nI_nlt (b := 0) (Nat.zero_le p) (by omega))) (fun c_111 => ?_)
  refine aw_iconst (v := (-1)) C dX9_read_114 (by decide) (q := 115) rfl ?_
  refine aw_aload_n C dX9_read_115 rfl rfl (q := 116) rfl ?_
  refine gfX9_99_9 (v := .int (s1.1 4)) C dX9_read_116 K_2.1 rfl (q := 119) rfl ?_
  rw [h4]
  refine aw_isub C dX9_read_119 (q := 120) rfl ?_
  refine aw_iret C E dX9_read_120 (Nat.le_refl _) (Nat.le_refl _) ?_
  exact hQ _ K_2 kq_3
set_option maxHeartbeats 4000000 in
set_option maxRecDepth 100000 in
theorem ml_rd1 {G : ac_G} {M : ac_M} {o : Nat} {md : Nat → Nat} (hm : md_inj md) {h h1 : ac_H} {d : Nat} {s1 : md_S} {u : Nat → Int32} {n : Nat} {c : mz_C} {Q : Option Value → ac_H → Prop} (C : ac_MC G RX9 cX9_read 1 (some .int) M) (B : ac_Bd M (d + 8) 0 0) (E : ac_End G Q 0 0 M) (K : md_ok h1 o md s1) (R : mz_rep s1 u n c) (ec : c.2.2.2 = none) (kq : kp h h1 (md_L o md))
    (hQ : ∀ h9 A, md_ok h9 o md (upd (upd s1.1 2 0) 11 1, A, s1.2.2) → A 5 = mo_cpr (s1.2.1 5) 400 0 6 400 → A 6 = mo_cpr (s1.2.1 6) 400 0 6 400 → A 9 = mo_cpr (s1.2.1 9) 13 0 6 13 → A 10 = mo_cpr (s1.2.1 10) 13 0 6 13 → A 7 = upd (s1.2.1 7) 0 (s1.2.1 7 6) → A 8 = upd (s1.2.1 8) 0 (s1.2.1 8 6) → (∀ j, j ∉ [5, 6, 7, 8, 9, 10] → A j = s1.2.1 j) → kp h h9 (md_L o md) → Q (some (.int (A 8 0))) h9) : aw G 1 M 102 [.ref o] [] h1 0 0 := by
  have h4 : s1.1 4 = -1 := by rw [R.2.2.2.1, ec]; rfl
  refine aw_aload_n C dX9_read_102 rfl rfl (q := 103) rfl ?_
  refine aw_iconst (v := 0) C dX9_read_103 (by decide) (q := 104) rfl ?_
  refine pfX9_93_9 C dX9_read_104 K.1 rfl rfl (Nat.le_of_ble_eq_true rfl) (q := 107) rfl ?_
  show aw G 1 M 107 [.ref o] [] (ac_up h1 o (.inr (9, md_fs md ((upd s1.1 2 0, s1.2.1, s1.2.2).1)))) 0 0
  obtain ⟨h_1, eh_1⟩ : ∃ z9, z9 = ac_up h1 o (.inr (9, md_fs md ((upd s1.1 2 0, s1.2.1, s1.2.2).1))) := ⟨_, rfl⟩
  rw [← eh_1]
  have kpx_4 : kp h1 h_1 [o] := by rw [eh_1]; exact kp_up (kp_cons o kp_rf) _ _ (by simp)
  have K_2 : md_ok h_1 o md (upd s1.1 2 0, s1.2.1, s1.2.2) := md_J (s := (s1.1, s1.2.1, s1.2.2)) K (by rw [eh_1]; exact ac_up_s _ _ _) kpx_4
  have kq_3 : kp h h_1 (md_L o md) := kp_in kq kpx_4 md_s0
  refine aw_aload_n C dX9_read_107 rfl rfl (q := 108) rfl ?_
  refine gfX9_99_9 (v := .int (s1.1 4)) C dX9_read_108 K_2.1 rfl (q := 111) rfl ?_
  refine aw_if_lt (t := 121) (q := 114) C dX9_read_111 (by decide) rfl (fun c_111 => ?_) (fun c_111 => absurd c_111 (fun z => z (by rw [h4]; decide)))
  refine aw_aload_n C dX9_read_121 rfl rfl (q := 122) rfl ?_
  refine aw_bipush (v := 6) C dX9_read_122 (by decide) (q := 124) rfl ?_
  refine aw_iconst (v := 0) C dX9_read_124 (by decide) (q := 125) rfl ?_
  refine cvX9_161_9 (As := [.int 6, .int 0]) (rest := []) C B dX9_read_125 K_2.1 (m_copy G M.2.1 o md hm h_1 (d + 7) (upd s1.1 2 0, s1.2.1, s1.2.2) K_2 6 0 (by decide) (by decide) (by decide)) rfl rfl (Nat.le_of_ble_eq_true rfl) (by omega) (by omega) (by omega) (q := 128) rfl (fun r9 h_5 hr9 => ?_)
  obtain ⟨A9, er9, K_6, c5, c6, c9, c10, c7, c8, cj, kpx_7⟩ := hr9
  subst er9
  have kq_8 : kp h h_5 (md_L o md) := kp_in kq_3 kpx_7 (fun _ z => z)
  show aw G 1 M 128 [.ref o] [] h_5 0 0
  refine aw_aload_n C dX9_read_128 rfl rfl (q := 129) rfl ?_
  refine aw_iconst (v := 1) C dX9_read_129 (by decide) (q := 130) rfl ?_
  refine pfX9_164_9 C dX9_read_130 K_6.1 rfl rfl (Nat.le_of_ble_eq_true rfl) (q := 133) rfl ?_
  show aw G 1 M 133 [.ref o] [] (ac_up h_5 o (.inr (9, md_fs md ((upd (upd s1.1 2 0) 11 1, A9, s1.2.2).1)))) 0 0
  obtain ⟨h_9, eh_9⟩ : ∃ z9, z9 = ac_up h_5 o (.inr (9, md_fs md ((upd (upd s1.1 2 0) 11 1, A9, s1.2.2).1))) := ⟨_, rfl⟩
  rw [← eh_9]
  have kpx_12 : kp h_5 h_9 [o] := by rw [eh_9]; exact kp_up (kp_cons o kp_rf) _ _ (by simp)
  have K_10 : md_ok h_9 o md (upd (upd s1.1 2 0) 11 1, A9, s1.2.2) := md_J (s := (upd s1.1 2 0, A9, s1.2.2)) K_6 (by rw [eh_9]; exact ac_up_s _ _ _) kpx_12
  have kq_11 : kp h h_9 (md_L o md) := kp_in kq_8 kpx_12 md_s0
  refine aw_aload_n C dX9_read_133 rfl rfl (q := 134) rfl ?_
  refine gfX9_22_9 (v := .ref (md 8)) C dX9_read_134 K_10.1 rfl (q := 137) rfl ?_
  refine aw_iconst (v := 0) C dX9_read_137 (by decide) (q := 138) rfl ?_
  refine ay_iald (N := 7) (f := A9 8) (j := 0) C dX9_read_138 (K_10.2.1 8 (by decide)) (vp_in_nI (by decide) (by decide)) (rfl) (q := 139) rfl ?_
  refine aw_iret C E dX9_read_139 (Nat.le_refl _) (Nat.le_refl _) ?_
  exact hQ _ A9 K_10 c5 c6 c9 c10 c7 c8 cj kq_11
def mo_RQ1 (o : Nat) (md : Nat → Nat) (h : ac_H) (s : md_S) (l : List (Int32 × pz_P)) : Option Value → ac_H → Prop := fun r9 h9 => ∃ s' : md_S, r9 = some (.int (nI l.length)) ∧ md_ok h9 o md s' ∧ s'.1 0 = 0 ∧ s'.1 2 = 0 ∧ s'.1 11 = 1 ∧ (∃ w, w ≤ 330 ∧ s'.1 14 = nI w) ∧ mo_fW [0, 2, 3, 4, 11, 14] [0, 6] s s' ∧ mo_txt s' 0 l ∧ kp h h9 (md_L o md)
def mo_RQ0 (o : Nat) (md : Nat → Nat) (h : ac_H) (s : md_S) (p : Nat) : Option Value → ac_H → Prop := fun r9 h9 => ∃ s' : md_S, r9 = some (.int (-1 - nI p)) ∧ md_ok h9 o md s' ∧ s'.1 0 = 0 ∧ s'.1 2 = 0 ∧ (∃ w, w ≤ 330 ∧ s'.1 14 = nI w) ∧ mo_fW [0, 2, 3, 4, 11, 14] [0, 6] s s' ∧ s'.1 11 = s.1 11 ∧ mo_ts s s' 0 ∧ kp h h9 (md_L o md)
set_option maxHeartbeats 4000000 in
set_option maxRecDepth 100000 in
theorem p_read1 (G : ac_G) (l : Launch) (o : Nat) (md : Nat → Nat) (hm : md_inj md) (h : ac_H) (d : Nat) (s : md_S) (K : md_ok h o md s) (u : Nat → Int32) (n : Nat) (hn : n ≤ 300) (hs : s.1 2 = nI n) (ht : mz_tx u n) (hu : ∀ i, i < n → s.2.1 1 i = u i) (w : Nat) (hw : s.1 14 = nI w) (hw3 : w ≤ 330) (hok : (pz_rules u n 12 0).1 = true) : ac_Met G l yX9_read cX9_read 1 (some .int) (d + 8) 0 0 [.ref o] h (mo_RQ1 o md h s (pz_rules u n 12 0).2.2) := by
  refine ac_of (ls := [.ref o]) (by decide +kernel) rfl (Nat.le_of_ble_eq_true rfl) (fun M hl C B E hnm => ?_)
  refine aw_aload_n C dX9_read_0 rfl rfl (q := 1) rfl ?_
  refine aw_iconst (v := 0) C dX9_read_1 (by decide) (q := 2) rfl ?_
  refine pfX9_89_9 C dX9_read_2 K.1 rfl rfl (Nat.le_of_ble_eq_true rfl) (q := 5) rfl ?_
  show aw G 1 M 5 [.ref o] [] (ac_up h o (.inr (9, md_fs md ((upd s.1 0 0, s.2.1, s.2.2).1)))) 0 0
  obtain ⟨h_1, eh_1⟩ : ∃ z9, z9 = ac_up h o (.inr (9, md_fs md ((upd s.1 0 0, s.2.1, s.2.2).1))) := ⟨_, rfl⟩
  rw [← eh_1]
  have kpx_4 : kp h h_1 [o] := by rw [eh_1]; exact kp_up (kp_cons o kp_rf) _ _ (by simp)
  have K_2 : md_ok h_1 o md (upd s.1 0 0, s.2.1, s.2.2) := md_J (s := (s.1, s.2.1, s.2.2)) K (by rw [eh_1]; exact ac_up_s _ _ _) kpx_4
  have kq_3 : kp h h_1 (md_L o md) := kp_mono kpx_4 md_s0
  refine aw_aload_n C dX9_read_5 rfl rfl (q := 6) rfl ?_
  refine aw_iconst (v := 0) C dX9_read_6 (by decide) (q := 7) rfl ?_
  refine pfX9_96_9 C dX9_read_7 K_2.1 rfl rfl (Nat.le_of_ble_eq_true rfl) (q := 10) rfl ?_
  show aw G 1 M 10 [.ref o] [] (ac_up h_1 o (.inr (9, md_fs md ((upd (upd s.1 0 0) 3 0, s.2.1, s.2.2).1)))) 0 0
  obtain ⟨h_5, eh_5⟩ : ∃ z9, z9 = ac_up h_1 o (.inr (9, md_fs md ((upd (upd s.1 0 0) 3 0, s.2.1, s.2.2).1))) := ⟨_, rfl⟩
  rw [← eh_5]
  have kpx_8 : kp h_1 h_5 [o] := by rw [eh_5]; exact kp_up (kp_cons o kp_rf) _ _ (by simp)
  have K_6 : md_ok h_5 o md (upd (upd s.1 0 0) 3 0, s.2.1, s.2.2) := md_J (s := (upd s.1 0 0, s.2.1, s.2.2)) K_2 (by rw [eh_5]; exact ac_up_s _ _ _) kpx_8
  have kq_7 : kp h h_5 (md_L o md) := kp_in kq_3 kpx_8 md_s0
  refine aw_aload_n C dX9_read_10 rfl rfl (q := 11) rfl ?_
  refine aw_iconst (v := (-1)) C dX9_read_11 (by decide) (q := 12) rfl ?_
  refine pfX9_99_9 C dX9_read_12 K_6.1 rfl rfl (Nat.le_of_ble_eq_true rfl) (q := 15) rfl ?_
  show aw G 1 M 15 [.ref o] [] (ac_up h_5 o (.inr (9, md_fs md ((upd (upd (upd s.1 0 0) 3 0) 4 ((-1)), s.2.1, s.2.2).1)))) 0 0
  obtain ⟨h_9, eh_9⟩ : ∃ z9, z9 = ac_up h_5 o (.inr (9, md_fs md ((upd (upd (upd s.1 0 0) 3 0) 4 ((-1)), s.2.1, s.2.2).1))) := ⟨_, rfl⟩
  rw [← eh_9]
  have kpx_12 : kp h_5 h_9 [o] := by rw [eh_9]; exact kp_up (kp_cons o kp_rf) _ _ (by simp)
  have K_10 : md_ok h_9 o md (upd (upd (upd s.1 0 0) 3 0) 4 ((-1)), s.2.1, s.2.2) := md_J (s := (upd (upd s.1 0 0) 3 0, s.2.1, s.2.2)) K_6 (by rw [eh_9]; exact ac_up_s _ _ _) kpx_12
  have kq_11 : kp h h_9 (md_L o md) := kp_in kq_7 kpx_12 md_s0
  refine aw_aload_n C dX9_read_15 rfl rfl (q := 16) rfl ?_
  refine gfX9_19_9 (v := .ref (md 7)) C dX9_read_16 K_10.1 rfl (q := 19) rfl ?_
  refine aw_bipush (v := 6) C dX9_read_19 (by decide) (q := 21) rfl ?_
  refine aw_iconst (v := 0) C dX9_read_21 (by decide) (q := 22) rfl ?_
  refine ay_iast (N := 7) (f := s.2.1 7) (j := 6) C dX9_read_22 (K_10.2.1 7 (by decide)) (vp_in_nI (by decide) (by decide)) (rfl) (q := 23) rfl ?_
  show aw G 1 M 23 [.ref o] [] (ac_up h_9 (md 7) (.inl (1, 7, .inl (upd (s.2.1 7) 6 0)))) 0 0
  obtain ⟨h_13, eh_13⟩ : ∃ z9, z9 = ac_up h_9 (md 7) (.inl (1, 7, .inl (upd (s.2.1 7) 6 0))) := ⟨_, rfl⟩
  rw [← eh_13]
  have kpx_16 : kp h_9 h_13 [md 7] := by rw [eh_13]; exact kp_up (kp_cons _ kp_rf) _ _ (by simp)
  have K_14 : md_ok h_13 o md (upd (upd (upd s.1 0 0) 3 0) 4 ((-1)), va_up s.2.1 7 (upd (s.2.1 7) 6 0), s.2.2) := md_A (s := (upd (upd (upd s.1 0 0) 3 0) 4 ((-1)), s.2.1, s.2.2)) hm K_10 (j := 7) (by decide) (by rw [eh_13]; exact ac_up_s _ _ _) kpx_16
  have kq_15 : kp h h_13 (md_L o md) := kp_in kq_11 kpx_16 (md_sj (by decide))
  refine aw_aload_n C dX9_read_23 rfl rfl (q := 24) rfl ?_
  refine gfX9_22_9 (v := .ref (md 8)) C dX9_read_24 K_14.1 rfl (q := 27) rfl ?_
  refine aw_bipush (v := 6) C dX9_read_27 (by decide) (q := 29) rfl ?_
  refine aw_iconst (v := 0) C dX9_read_29 (by decide) (q := 30) rfl ?_
  refine ay_iast (N := 7) (f := s.2.1 8) (j := 6) C dX9_read_30 (K_14.2.1 8 (by decide)) (vp_in_nI (by decide) (by decide)) (rfl) (q := 31) rfl ?_
  show aw G 1 M 31 [.ref o] [] (ac_up h_13 (md 8) (.inl (1, 7, .inl (upd (s.2.1 8) 6 0)))) 0 0
  obtain ⟨h_17, eh_17⟩ : ∃ z9, z9 = ac_up h_13 (md 8) (.inl (1, 7, .inl (upd (s.2.1 8) 6 0))) := ⟨_, rfl⟩
  rw [← eh_17]
  have kpx_20 : kp h_13 h_17 [md 8] := by rw [eh_17]; exact kp_up (kp_cons _ kp_rf) _ _ (by simp)
  have K_18 : md_ok h_17 o md (upd (upd (upd s.1 0 0) 3 0) 4 ((-1)), va_up (va_up s.2.1 7 (upd (s.2.1 7) 6 0)) 8 (upd (s.2.1 8) 6 0), s.2.2) := md_A (s := (upd (upd (upd s.1 0 0) 3 0) 4 ((-1)), va_up s.2.1 7 (upd (s.2.1 7) 6 0), s.2.2)) hm K_14 (j := 8) (by decide) (by rw [eh_17]; exact ac_up_s _ _ _) kpx_20
  have kq_19 : kp h h_17 (md_L o md) := kp_in kq_15 kpx_20 (md_sj (by decide))
  obtain ⟨W, hWl, hWp⟩ := pc_l_ex (s.2.1 12) (s.2.1 13) w
  have R1 : mz_rep (upd (upd (upd s.1 0 0) 3 0) 4 ((-1)), va_up (va_up s.2.1 7 (upd (s.2.1 7) 6 0)) 8 (upd (s.2.1 8) 6 0), s.2.2) u n (0, [], W, none) := ⟨hs, hn, rfl, rfl, by rw [hWl]; exact hw, rfl, hWp, True.intro, hu, fun p hp => by cases hp⟩
  have e8 : (upd (upd (upd s.1 0 0) 3 0) 4 ((-1)), va_up (va_up s.2.1 7 (upd (s.2.1 7) 6 0)) 8 (upd (s.2.1 8) 6 0), s.2.2).2.1 8 6 = nI 0 := rfl
  have e0 : (upd (upd (upd s.1 0 0) 3 0) 4 ((-1)), va_up (va_up s.2.1 7 (upd (s.2.1 7) 6 0)) 8 (upd (s.2.1 8) 6 0), s.2.2).1 0 = 0 := rfl
  have fW : mo_fW [0, 2, 3, 4, 11, 14] [0, 6] s (upd (upd (upd s.1 0 0) 3 0) 4 ((-1)), va_up (va_up s.2.1 7 (upd (s.2.1 7) 6 0)) 8 (upd (s.2.1 8) 6 0), s.2.2) ∧ (upd (upd (upd s.1 0 0) 3 0) 4 ((-1)), va_up (va_up s.2.1 7 (upd (s.2.1 7) 6 0)) 8 (upd (s.2.1 8) 6 0), s.2.2).1 11 = s.1 11 ∧ mo_ts s (upd (upd (upd s.1 0 0) 3 0) 4 ((-1)), va_up (va_up s.2.1 7 (upd (s.2.1 7) 6 0)) 8 (upd (s.2.1 8) 6 0), s.2.2) 0 := by
    have k : ∀ t, t < 7 → ¬ t = 6 → mo_ts s (upd (upd (upd s.1 0 0) 3 0) 4 ((-1)), va_up (va_up s.2.1 7 (upd (s.2.1 7) 6 0)) 8 (upd (s.2.1 8) 6 0), s.2.2) t := fun t _ h => ⟨fun _ _ => ⟨rfl, rfl⟩, fun _ _ => ⟨rfl, rfl⟩, if_neg h, if_neg h⟩
    refine ⟨⟨fun j hj => ?_, fun j hj => ?_, fun t h1 h2 => k t h1 (fun z => h2 (by rw [z]; decide)), rfl⟩, rfl, k 0 (by decide) (by decide)⟩
    · show upd (upd (upd s.1 0 0) 3 0) 4 (-1) j = _
      unfold upd; rw [if_neg (fun z => hj (by rw [z]; decide)), if_neg (fun z => hj (by rw [z]; decide)), if_neg (fun z => hj (by rw [z]; decide))]
    · show va_up (va_up s.2.1 7 _) 8 _ j = _
      unfold va_up; rw [if_neg (fun z => hj (by rw [z]; decide)), if_neg (fun z => hj (by rw [z]; decide))]
  obtain ⟨s1, es1⟩ : ∃ z, z = (upd (upd (upd s.1 0 0) 3 0) 4 ((-1)), va_up (va_up s.2.1 7 (upd (s.2.1 7) 6 0)) 8 (upd (s.2.1 8) 6 0), s.2.2) := ⟨_, rfl⟩
  rw [← es1] at K_18 R1 e8 e0 fW
  refine aw_aload_n C dX9_read_31 rfl rfl (q := 32) rfl ?_
  have gr := pz_rule_good (u := u) hn 0 (Nat.zero_le _)
  have e2 := pz_rules_s u n 11 0
  obtain ⟨pr1, pr0⟩ := p_rule G M.2.1 o md hm h_17 d s1 K_18 u n 0 [] W R1 hn ht (Nat.zero_le _) (Nat.zero_le _) (by omega) 0 (by decide) e8
  by_cases hk : (pz_rule u n 0).1 = true
  · refine cvX9_158_9 (As := []) (rest := []) C B dX9_read_32 K_18.1 (pr1 hk) rfl rfl (Nat.le_of_ble_eq_true rfl) (by omega) (by omega) (by omega) (q := 35) rfl (fun r9 h9 hr9 => ?_)
    obtain ⟨s3, W3, er9, K3, R3, hW3, g8, g9, g10, F3, kp3⟩ := hr9
    subst er9
    show aw G 1 M 35 [.ref o] [] h9 0 0
    rw [if_pos hk] at e2
    have gk := gr.2 hk
    refine ml_read (s := s1) hm hn ht C B 11 1 (pz_rule u n 0).2.1 (List.reverseAux ((pz_rule u n 0).2.2.map pz_m) []) W3 h9 s3 rfl (by decide) gr.1 (by rw [rv_len, List.length_map]; simp; omega) hW3 K3 R3 (by rw [g8]; exact if_pos rfl) (by rw [g9]; exact if_pos rfl) F3 (kp_in kq_19 kp3 (fun _ z => z)) (fun z h2 s4 W4 K4 R4 hW4 q8 qd qs F4 kq4 => ?_) (fun z h2 s4 c K4 R4 ec hc F4 kq4 => ?_)
    · rw [if_pos z] at e2
      have e3 : (pz_rules u n 12 0).2.2 = (cu_c u n 0 - 48, (pz_rule u n 0).2.2) :: (pz_more u n 11 (pz_rule u n 0).2.1).2.2 := by rw [e2]
      have hln := (pz_rules_len (u := u) hn 12 0 (Nat.zero_le _)).2 hok
      have hl1 : 0 < n := by have := gr.1; omega
      have tx : mo_txt s4 6 (pz_rules u n 12 0).2.2 := by
        refine ⟨?_, ?_, ?_, ?_, hln.2.1, by omega⟩
        · rw [q8, e3, List.length_cons]; congr 1; omega
        · rw [R4.2.2.2.2.2.1]; congr 1; show (List.reverseAux _ _).length = _; rw [rv_len, rv_len, List.length_map, List.length_map, e3]; show _ = ((pz_rule u n 0).2.2 ++ pz_all (pz_more u n 11 (pz_rule u n 0).2.1).2.2).length; rw [List.length_append]; simp; omega
        · rw [e3]
          refine mz_dl_eq (k := 78) (f9 := s4.2.1 9) (f10 := s4.2.1 10) _ 0 0 ⟨?_, ?_, ?_⟩ (fun i _ _ => rfl) (fun i _ _ => rfl)
          · rw [(qs (78 + 0) (by omega)).2, g10, ← mz_same hl1]; exact if_pos rfl
          · rw [(qs (78 + 0) (by omega)).1, g9]; rfl
          · rw [rv_len, List.length_map] at qd; rw [show 0 + (cu_c u n 0 - 48, (pz_rule u n 0).2.2).2.length = (pz_rule u n 0).2.2.length + ([] : pz_P).length by simp]; exact qd
        · have r8 := R4.2.2.2.2.2.2.2.1
          rw [e3]; show pc_l _ _ (List.reverseAux (((pz_rule u n 0).2.2 ++ pz_all (pz_more u n 11 (pz_rule u n 0).2.1).2.2).map pz_m) [])
          rw [List.map_append, rv_app]; exact r8
      refine ml_rd1 hm C B E K4 R4 rfl kq4 (fun h9 A KA c5 c6 c9 c10 c7 c8 cj kqA => ?_)
      have f4 := mo_fW_mono (J' := [0, 2, 3, 4, 11, 14]) (ts' := [0, 6]) (mz_fR_W F4) (by decide) (by decide)
      refine ⟨(upd (upd s4.1 2 0) 11 1, A, s4.2.2), ?_, KA, ?_, rfl, rfl, ⟨W4.length, hW4, R4.2.2.2.2.1⟩, ?_, mo_cp_txt tx c5 c6 c9 c10 c7 c8, kqA⟩
      · rw [c8]; show some (Value.int (s4.2.1 8 6)) = _; rw [tx.1]
      · show s4.1 0 = 0; rw [F4.1 0 (by decide)]; exact e0
      · refine mo_fW_tr (mo_fW_tr fW.1 f4) ⟨fun j hj => ?_, fun j hj => cj j (fun z => hj (by simp at z ⊢; omega)), fun t h1 h2 => mo_cp_ts (fun z => h2 (by rw [← z]; decide)) c5 c6 c9 c10 c7 c8, rfl⟩
        show upd (upd s4.1 2 0) 11 1 j = _
        unfold upd; rw [if_neg (fun z => hj (by rw [z]; decide)), if_neg (fun z => hj (by rw [z]; decide))]
    · rw [e2] at hok; exact absurd (z.symm.trans hok) (by decide)
  · rw [if_neg hk] at e2; rw [e2] at hok; cases hok
set_option maxHeartbeats 4000000 in
set_option maxRecDepth 100000 in
theorem p_read0 (G : ac_G) (l : Launch) (o : Nat) (md : Nat → Nat) (hm : md_inj md) (h : ac_H) (d : Nat) (s : md_S) (K : md_ok h o md s) (u : Nat → Int32) (n : Nat) (hn : n ≤ 300) (hs : s.1 2 = nI n) (ht : mz_tx u n) (hu : ∀ i, i < n → s.2.1 1 i = u i) (w : Nat) (hw : s.1 14 = nI w) (hw3 : w ≤ 330) (hok : (pz_rules u n 12 0).1 = false) : ac_Met G l yX9_read cX9_read 1 (some .int) (d + 8) 0 0 [.ref o] h (mo_RQ0 o md h s (pz_rules u n 12 0).2.1) := by
  refine ac_of (ls := [.ref o]) (by decide +kernel) rfl (Nat.le_of_ble_eq_true rfl) (fun M hl C B E hnm => ?_)
  refine aw_aload_n C dX9_read_0 rfl rfl (q := 1) rfl ?_
  refine aw_iconst (v := 0) C dX9_read_1 (by decide) (q := 2) rfl ?_
  refine pfX9_89_9 C dX9_read_2 K.1 rfl rfl (Nat.le_of_ble_eq_true rfl) (q := 5) rfl ?_
  show aw G 1 M 5 [.ref o] [] (ac_up h o (.inr (9, md_fs md ((upd s.1 0 0, s.2.1, s.2.2).1)))) 0 0
  obtain ⟨h_1, eh_1⟩ : ∃ z9, z9 = ac_up h o (.inr (9, md_fs md ((upd s.1 0 0, s.2.1, s.2.2).1))) := ⟨_, rfl⟩
  rw [← eh_1]
  have kpx_4 : kp h h_1 [o] := by rw [eh_1]; exact kp_up (kp_cons o kp_rf) _ _ (by simp)
  have K_2 : md_ok h_1 o md (upd s.1 0 0, s.2.1, s.2.2) := md_J (s := (s.1, s.2.1, s.2.2)) K (by rw [eh_1]; exact ac_up_s _ _ _) kpx_4
  have kq_3 : kp h h_1 (md_L o md) := kp_mono kpx_4 md_s0
  refine aw_aload_n C dX9_read_5 rfl rfl (q := 6) rfl ?_
  refine aw_iconst (v := 0) C dX9_read_6 (by decide) (q := 7) rfl ?_
  refine pfX9_96_9 C dX9_read_7 K_2.1 rfl rfl (Nat.le_of_ble_eq_true rfl) (q := 10) rfl ?_
  show aw G 1 M 10 [.ref o] [] (ac_up h_1 o (.inr (9, md_fs md ((upd (upd s.1 0 0) 3 0, s.2.1, s.2.2).1)))) 0 0
  obtain ⟨h_5, eh_5⟩ : ∃ z9, z9 = ac_up h_1 o (.inr (9, md_fs md ((upd (upd s.1 0 0) 3 0, s.2.1, s.2.2).1))) := ⟨_, rfl⟩
  rw [← eh_5]
  have kpx_8 : kp h_1 h_5 [o] := by rw [eh_5]; exact kp_up (kp_cons o kp_rf) _ _ (by simp)
  have K_6 : md_ok h_5 o md (upd (upd s.1 0 0) 3 0, s.2.1, s.2.2) := md_J (s := (upd s.1 0 0, s.2.1, s.2.2)) K_2 (by rw [eh_5]; exact ac_up_s _ _ _) kpx_8
  have kq_7 : kp h h_5 (md_L o md) := kp_in kq_3 kpx_8 md_s0
  refine aw_aload_n C dX9_read_10 rfl rfl (q := 11) rfl ?_
  refine aw_iconst (v := (-1)) C dX9_read_11 (by decide) (q := 12) rfl ?_
  refine pfX9_99_9 C dX9_read_12 K_6.1 rfl rfl (Nat.le_of_ble_eq_true rfl) (q := 15) rfl ?_
  show aw G 1 M 15 [.ref o] [] (ac_up h_5 o (.inr (9, md_fs md ((upd (upd (upd s.1 0 0) 3 0) 4 ((-1)), s.2.1, s.2.2).1)))) 0 0
  obtain ⟨h_9, eh_9⟩ : ∃ z9, z9 = ac_up h_5 o (.inr (9, md_fs md ((upd (upd (upd s.1 0 0) 3 0) 4 ((-1)), s.2.1, s.2.2).1))) := ⟨_, rfl⟩
  rw [← eh_9]
  have kpx_12 : kp h_5 h_9 [o] := by rw [eh_9]; exact kp_up (kp_cons o kp_rf) _ _ (by simp)
  have K_10 : md_ok h_9 o md (upd (upd (upd s.1 0 0) 3 0) 4 ((-1)), s.2.1, s.2.2) := md_J (s := (upd (upd s.1 0 0) 3 0, s.2.1, s.2.2)) K_6 (by rw [eh_9]; exact ac_up_s _ _ _) kpx_12
  have kq_11 : kp h h_9 (md_L o md) := kp_in kq_7 kpx_12 md_s0
  refine aw_aload_n C dX9_read_15 rfl rfl (q := 16) rfl ?_
  refine gfX9_19_9 (v := .ref (md 7)) C dX9_read_16 K_10.1 rfl (q := 19) rfl ?_
  refine aw_bipush (v := 6) C dX9_read_19 (by decide) (q := 21) rfl ?_
  refine aw_iconst (v := 0) C dX9_read_21 (by decide) (q := 22) rfl ?_
  refine ay_iast (N := 7) (f := s.2.1 7) (j := 6) C dX9_read_22 (K_10.2.1 7 (by decide)) (vp_in_nI (by decide) (by decide)) (rfl) (q := 23) rfl ?_
  show aw G 1 M 23 [.ref o] [] (ac_up h_9 (md 7) (.inl (1, 7, .inl (upd (s.2.1 7) 6 0)))) 0 0
  obtain ⟨h_13, eh_13⟩ : ∃ z9, z9 = ac_up h_9 (md 7) (.inl (1, 7, .inl (upd (s.2.1 7) 6 0))) := ⟨_, rfl⟩
  rw [← eh_13]
  have kpx_16 : kp h_9 h_13 [md 7] := by rw [eh_13]; exact kp_up (kp_cons _ kp_rf) _ _ (by simp)
  have K_14 : md_ok h_13 o md (upd (upd (upd s.1 0 0) 3 0) 4 ((-1)), va_up s.2.1 7 (upd (s.2.1 7) 6 0), s.2.2) := md_A (s := (upd (upd (upd s.1 0 0) 3 0) 4 ((-1)), s.2.1, s.2.2)) hm K_10 (j := 7) (by decide) (by rw [eh_13]; exact ac_up_s _ _ _) kpx_16
  have kq_15 : kp h h_13 (md_L o md) := kp_in kq_11 kpx_16 (md_sj (by decide))
  refine aw_aload_n C dX9_read_23 rfl rfl (q := 24) rfl ?_
  refine gfX9_22_9 (v := .ref (md 8)) C dX9_read_24 K_14.1 rfl (q := 27) rfl ?_
  refine aw_bipush (v := 6) C dX9_read_27 (by decide) (q := 29) rfl ?_
  refine aw_iconst (v := 0) C dX9_read_29 (by decide) (q := 30) rfl ?_
  refine ay_iast (N := 7) (f := s.2.1 8) (j := 6) C dX9_read_30 (K_14.2.1 8 (by decide)) (vp_in_nI (by decide) (by decide)) (rfl) (q := 31) rfl ?_
  show aw G 1 M 31 [.ref o] [] (ac_up h_13 (md 8) (.inl (1, 7, .inl (upd (s.2.1 8) 6 0)))) 0 0
  obtain ⟨h_17, eh_17⟩ : ∃ z9, z9 = ac_up h_13 (md 8) (.inl (1, 7, .inl (upd (s.2.1 8) 6 0))) := ⟨_, rfl⟩
  rw [← eh_17]
  have kpx_20 : kp h_13 h_17 [md 8] := by rw [eh_17]; exact kp_up (kp_cons _ kp_rf) _ _ (by simp)
  have K_18 : md_ok h_17 o md (upd (upd (upd s.1 0 0) 3 0) 4 ((-1)), va_up (va_up s.2.1 7 (upd (s.2.1 7) 6 0)) 8 (upd (s.2.1 8) 6 0), s.2.2) := md_A (s := (upd (upd (upd s.1 0 0) 3 0) 4 ((-1)), va_up s.2.1 7 (upd (s.2.1 7) 6 0), s.2.2)) hm K_14 (j := 8) (by decide) (by rw [eh_17]; exact ac_up_s _ _ _) kpx_20
  have kq_19 : kp h h_17 (md_L o md) := kp_in kq_15 kpx_20 (md_sj (by decide))
  obtain ⟨W, hWl, hWp⟩ := pc_l_ex (s.2.1 12) (s.2.1 13) w
  have R1 : mz_rep (upd (upd (upd s.1 0 0) 3 0) 4 ((-1)), va_up (va_up s.2.1 7 (upd (s.2.1 7) 6 0)) 8 (upd (s.2.1 8) 6 0), s.2.2) u n (0, [], W, none) := ⟨hs, hn, rfl, rfl, by rw [hWl]; exact hw, rfl, hWp, True.intro, hu, fun p hp => by cases hp⟩
  have e8 : (upd (upd (upd s.1 0 0) 3 0) 4 ((-1)), va_up (va_up s.2.1 7 (upd (s.2.1 7) 6 0)) 8 (upd (s.2.1 8) 6 0), s.2.2).2.1 8 6 = nI 0 := rfl
  have e0 : (upd (upd (upd s.1 0 0) 3 0) 4 ((-1)), va_up (va_up s.2.1 7 (upd (s.2.1 7) 6 0)) 8 (upd (s.2.1 8) 6 0), s.2.2).1 0 = 0 := rfl
  have fW : mo_fW [0, 2, 3, 4, 11, 14] [0, 6] s (upd (upd (upd s.1 0 0) 3 0) 4 ((-1)), va_up (va_up s.2.1 7 (upd (s.2.1 7) 6 0)) 8 (upd (s.2.1 8) 6 0), s.2.2) ∧ (upd (upd (upd s.1 0 0) 3 0) 4 ((-1)), va_up (va_up s.2.1 7 (upd (s.2.1 7) 6 0)) 8 (upd (s.2.1 8) 6 0), s.2.2).1 11 = s.1 11 ∧ mo_ts s (upd (upd (upd s.1 0 0) 3 0) 4 ((-1)), va_up (va_up s.2.1 7 (upd (s.2.1 7) 6 0)) 8 (upd (s.2.1 8) 6 0), s.2.2) 0 := by
    have k : ∀ t, t < 7 → ¬ t = 6 → mo_ts s (upd (upd (upd s.1 0 0) 3 0) 4 ((-1)), va_up (va_up s.2.1 7 (upd (s.2.1 7) 6 0)) 8 (upd (s.2.1 8) 6 0), s.2.2) t := fun t _ h => ⟨fun _ _ => ⟨rfl, rfl⟩, fun _ _ => ⟨rfl, rfl⟩, if_neg h, if_neg h⟩
    refine ⟨⟨fun j hj => ?_, fun j hj => ?_, fun t h1 h2 => k t h1 (fun z => h2 (by rw [z]; decide)), rfl⟩, rfl, k 0 (by decide) (by decide)⟩
    · show upd (upd (upd s.1 0 0) 3 0) 4 (-1) j = _
      unfold upd; rw [if_neg (fun z => hj (by rw [z]; decide)), if_neg (fun z => hj (by rw [z]; decide)), if_neg (fun z => hj (by rw [z]; decide))]
    · show va_up (va_up s.2.1 7 _) 8 _ j = _
      unfold va_up; rw [if_neg (fun z => hj (by rw [z]; decide)), if_neg (fun z => hj (by rw [z]; decide))]
  obtain ⟨s1, es1⟩ : ∃ z, z = (upd (upd (upd s.1 0 0) 3 0) 4 ((-1)), va_up (va_up s.2.1 7 (upd (s.2.1 7) 6 0)) 8 (upd (s.2.1 8) 6 0), s.2.2) := ⟨_, rfl⟩
  rw [← es1] at K_18 R1 e8 e0 fW
  refine aw_aload_n C dX9_read_31 rfl rfl (q := 32) rfl ?_
  have gr := pz_rule_good (u := u) hn 0 (Nat.zero_le _)
  have e2 := pz_rules_s u n 11 0
  obtain ⟨pr1, pr0⟩ := p_rule G M.2.1 o md hm h_17 d s1 K_18 u n 0 [] W R1 hn ht (Nat.zero_le _) (Nat.zero_le _) (by omega) 0 (by decide) e8
  by_cases hk : (pz_rule u n 0).1 = true
  · refine cvX9_158_9 (As := []) (rest := []) C B dX9_read_32 K_18.1 (pr1 hk) rfl rfl (Nat.le_of_ble_eq_true rfl) (by omega) (by omega) (by omega) (q := 35) rfl (fun r9 h9 hr9 => ?_)
    obtain ⟨s3, W3, er9, K3, R3, hW3, g8, g9, g10, F3, kp3⟩ := hr9
    subst er9
    show aw G 1 M 35 [.ref o] [] h9 0 0
    rw [if_pos hk] at e2
    have gk := gr.2 hk
    refine ml_read (s := s1) hm hn ht C B 11 1 (pz_rule u n 0).2.1 (List.reverseAux ((pz_rule u n 0).2.2.map pz_m) []) W3 h9 s3 rfl (by decide) gr.1 (by rw [rv_len, List.length_map]; simp; omega) hW3 K3 R3 (by rw [g8]; exact if_pos rfl) (by rw [g9]; exact if_pos rfl) F3 (kp_in kq_19 kp3 (fun _ z => z)) (fun z h2 s4 W4 K4 R4 hW4 q8 qd qs F4 kq4 => ?_) (fun z h2 s4 c K4 R4 ec hc F4 kq4 => ?_)
    · rw [e2] at hok; exact absurd (z.symm.trans hok) (by decide)
    · have ec2 : c.2.2.2 = some (pz_rules u n 12 0).2.1 := by rw [ec, e2]
      refine ml_rd0 hm C E K4 R4 ec2 kq4 (fun h9 K9 kq9 => ?_)
      have f4 := mo_fW_mono (J' := [0, 2, 3, 4, 11, 14]) (ts' := [0, 6]) (mz_fR_W F4) (by decide) (by decide)
      refine ⟨(upd s4.1 2 0, s4.2.1, s4.2.2), rfl, K9, ?_, rfl, ⟨c.2.2.1.length, hc, R4.2.2.2.2.1⟩, ?_, ?_, ?_, kq9⟩
      · show s4.1 0 = 0; rw [F4.1 0 (by decide)]; exact e0
      · refine mo_fW_tr (mo_fW_tr fW.1 f4) ⟨fun j hj => ?_, fun _ _ => rfl, fun t h1 h2 => mo_ts_rf, rfl⟩
        show upd s4.1 2 0 j = _
        unfold upd; rw [if_neg (fun z => hj (by rw [z]; decide))]
      · show s4.1 11 = _; rw [F4.1 11 (by decide)]; exact fW.2.1
      · exact mo_ts_tr fW.2.2 ((mz_fR_W F4).2.2.1 0 (by decide) (by decide))
  · have hno : (pz_rule u n 0).1 = false := by cases e : (pz_rule u n 0).1; rfl; exact absurd e hk
    refine cvX9_158_9 (As := []) (rest := []) C B dX9_read_32 K_18.1 (pr0 hno) rfl rfl (Nat.le_of_ble_eq_true rfl) (by omega) (by omega) (by omega) (q := 35) rfl (fun r9 h9 hr9 => ?_)
    obtain ⟨s4, ⟨a9, U9, W9, f9⟩, er9, K4, R4, ef9, bd1, bd2, F4, kp4⟩ := hr9
    subst er9
    have ef8 : f9 = some (pz_rule u n 0).2.1 := ef9
    subst ef8
    rw [if_neg hk] at e2
    obtain ⟨c, ec9⟩ : ∃ c : mz_C, c = (a9, U9, W9, some (pz_rule u n 0).2.1) := ⟨_, rfl⟩
    have hc : c.2.2.1.length ≤ 330 := by rw [ec9]; exact bd2
    have R4c : mz_rep s4 u n c := by rw [ec9]; exact R4
    have ec2 : c.2.2.2 = some (pz_rules u n 12 0).2.1 := by rw [ec9, e2]
    show aw G 1 M 35 [.ref o] [] h9 0 0
    refine ml_rf35 hm C K4 R4 (ml_rd0 hm C E K4 R4c ec2 (kp_in kq_19 kp4 (fun _ z => z)) (fun h9 K9 kq9 => ?_))
    replace R4 := R4c
    have f4 := mo_fW_mono (J' := [0, 2, 3, 4, 11, 14]) (ts' := [0, 6]) (mz_fR_W F4) (by decide) (by decide)
    refine ⟨(upd s4.1 2 0, s4.2.1, s4.2.2), rfl, K9, ?_, rfl, ⟨c.2.2.1.length, hc, R4.2.2.2.2.1⟩, ?_, ?_, ?_, kq9⟩
    · show s4.1 0 = 0; rw [F4.1 0 (by decide)]; exact e0
    · refine mo_fW_tr (mo_fW_tr fW.1 f4) ⟨fun j hj => ?_, fun _ _ => rfl, fun t h1 h2 => mo_ts_rf, rfl⟩
      show upd s4.1 2 0 j = _
      unfold upd; rw [if_neg (fun z => hj (by rw [z]; decide))]
    · show s4.1 11 = _; rw [F4.1 11 (by decide)]; exact fW.2.1
    · exact mo_ts_tr fW.2.2 ((mz_fR_W F4).2.2.1 0 (by decide) (by decide))
