/-! CLASS AND REFERENCE: the steps of a rule -/
abbrev eq_isc (k : Int32) : Prop := k = 60 ∨ k = 62 ∨ k = 61 ∨ k = 33
/-- a step of the class (act k, operand op) and one of the reference (sign g, argument a) -/
def eq_st (k op g a : Int32) : Prop := (k = 35 ∧ g = 1 ∧ a = op) ∨ (eq_let k g ∧ a = op) ∨ (k = 99 ∧ g = 9 ∧ a = op) ∨ (k = 102 ∧ g = 10) ∨ (k = 126 ∧ g = 11) ∨ ((g = 12 ∧ k = 43) ∨ (g = 13 ∧ k = 45) ∨ (g = 14 ∧ k = 42) ∨ (g = 15 ∧ k = 47)) ∨ (g = 16 ∧ a = k ∧ eq_isc k)
/-- the states differ at most at these numbers and rows -/
def md_eq (J A L : List Nat) (s s' : md_S) : Prop := (∀ j, j ∉ J → s'.1 j = s.1 j) ∧ (∀ j, j ∉ A → s'.2.1 j = s.2.1 j) ∧ ∀ j, j ∉ L → s'.2.2 j = s.2.2 j
theorem md_eq_rf {J A L : List Nat} {s : md_S} : md_eq J A L s s := ⟨fun _ _ => rfl, fun _ _ => rfl, fun _ _ => rfl⟩
theorem md_eq_tr {J A L J' A' L' : List Nat} {s s1 s2 : md_S} (h : md_eq J A L s s1) (g : md_eq J' A' L' s1 s2) (hJ : ∀ j ∈ J', j ∈ J) (hA : ∀ j ∈ A', j ∈ A) (hL : ∀ j ∈ L', j ∈ L) : md_eq J A L s s2 :=
  ⟨fun j hj => (g.1 j (fun z => hj (hJ j z))).trans (h.1 j hj), fun j hj => (g.2.1 j (fun z => hj (hA j z))).trans (h.2.1 j hj), fun j hj => (g.2.2 j (fun z => hj (hL j z))).trans (h.2.2 j hj)⟩
theorem md_eq_J {J A L : List Nat} {s s1 : md_S} (h : md_eq J A L s s1) {j : Nat} (v : Int32) (hj : j ∈ J) : md_eq J A L s (upd s1.1 j v, s1.2.1, s1.2.2) :=
  ⟨fun i hi => by
    show upd s1.1 j v i = s.1 i
    unfold upd; rw [if_neg (fun z => hi (by rw [z]; exact hj))]; exact h.1 i hi, h.2.1, h.2.2⟩
theorem md_eq_A {J A L : List Nat} {s s1 : md_S} (h : md_eq J A L s s1) {j : Nat} (v : Nat → Int32) (hj : j ∈ A) : md_eq J A L s (s1.1, va_up s1.2.1 j v, s1.2.2) :=
  ⟨h.1, fun i hi => by
    show va_up s1.2.1 j v i = s.2.1 i
    unfold va_up; rw [if_neg (fun z => hi (by rw [z]; exact hj))]; exact h.2.1 i hi, h.2.2⟩
theorem md_eq_L {J A L : List Nat} {s s1 : md_S} (h : md_eq J A L s s1) {j : Nat} (v : Nat → Int64) (hj : j ∈ L) : md_eq J A L s (s1.1, s1.2.1, va_up s1.2.2 j v) :=
  ⟨h.1, h.2.1, fun i hi => by
    show va_up s1.2.2 j v i = s.2.2 i
    unfold va_up; rw [if_neg (fun z => hi (by rw [z]; exact hj))]; exact h.2.2 i hi⟩
theorem eq_bd_eq {I : Nat → Int32} {F : Nat → Nat → Int32} {c : Nat} {J A L : List Nat} {s s1 : md_S} (b : eq_bd I F c s) (h : md_eq J A L s s1) (hJ : 17 ∉ J ∧ 18 ∉ J ∧ 19 ∉ J ∧ 20 ∉ J) (hA : ∀ j, j < 6 → 21 + j ∉ A) : eq_bd I F c s1 := by
  obtain ⟨b0, b1, b2, b3, b4, b5, b6, b7⟩ := b
  exact ⟨(h.1 17 hJ.1).trans b0, (h.1 18 hJ.2.1).trans b1, (h.1 19 hJ.2.2.1).trans b2, (h.1 20 hJ.2.2.2).trans b3, b4, fun j hj i hi => by rw [h.2.1 _ (hA j hj)]; exact b5 j hj i hi, b6, b7⟩
section
variable {I : Nat → Int32} {F : Nat → Nat → Int32} {c : Nat} {s : md_S} {ab e k op g a : Int32} {S : rk_S}
theorem eq_let_g {k g : Int32} (h : eq_let k g) : ¬ g = 16 ∧ ¬ 8 < g ∧ ¬ k = 35 ∧ ¬ eq_isc k ∧ ¬ (k = 42 ∨ k = 43 ∨ k = 45 ∨ k = 47) ∧ ¬ k = 99 ∧ ¬ k = 102 ∧ ¬ k = 126 := by
  rcases h with ⟨rfl, rfl⟩ | ⟨rfl, rfl⟩ | ⟨rfl, rfl⟩ | ⟨rfl, rfl⟩ | ⟨rfl, rfl⟩ | ⟨rfl, rfl⟩ | ⟨rfl, rfl⟩ <;> decide
theorem eq_s16 (h : eq_st k op g a) (h16 : g = 16) : a = k ∧ eq_isc k := by
  rcases h with ⟨_, h, _⟩ | ⟨h, _⟩ | ⟨_, h, _⟩ | ⟨_, h⟩ | ⟨_, h⟩ | h | ⟨_, h, h'⟩
  · rw [h16] at h; exact absurd h (by decide)
  · exact absurd h16 (eq_let_g h).1
  · rw [h16] at h; exact absurd h (by decide)
  · rw [h16] at h; exact absurd h (by decide)
  · rw [h16] at h; exact absurd h (by decide)
  · rw [h16] at h; rcases h with h | h | h | h <;> exact absurd h.1 (by decide)
  · exact ⟨h, h'⟩
theorem eq_s8 (b : eq_bd I F c s) (hb : eq_bit ab e) (h : eq_st k op g a) (h16 : ¬ g = 16) (h8 : ¬ 8 < g) : ¬ eq_isc k ∧ rk_step I F c k op ab S 0 = (rk_push S (mo_plain s g a e c), 0) := by
  rcases h with ⟨h, h', h''⟩ | ⟨h, h'⟩ | ⟨_, h, _⟩ | ⟨_, h⟩ | ⟨_, h⟩ | h | ⟨h, _⟩
  · refine ⟨by rw [h]; decide, ?_⟩
    unfold rk_step
    rw [if_pos h, h', h'']; rfl
  · obtain ⟨_, _, l3, l4, l5, l6, l7, l8⟩ := eq_let_g h
    refine ⟨l4, ?_⟩
    unfold rk_step
    rw [if_neg l3, if_neg l5, if_neg l6, if_neg l7, if_neg l8, eq_measure b hb h, h']
  · rw [h] at h8; exact absurd (by decide) h8
  · rw [h] at h8; exact absurd (by decide) h8
  · rw [h] at h8; exact absurd (by decide) h8
  · rcases h with h | h | h | h <;> (rw [h.1] at h8; exact absurd (by decide) h8)
  · exact absurd h h16
theorem eq_s11 (b : eq_bd I F c s) (hb : eq_bit ab e) (h0 : s.1 29 = 0) (h : eq_st k op g a) (h8 : 8 < g) (h11 : ¬ 11 < g) : ¬ eq_isc k ∧ rk_step I F c k op ab S 0 = (rk_push (rk_drop S) (mo_bef s g a (rk_top S) e c).1, (mo_bef s g a (rk_top S) e c).2.1 29) ∧ md_eq [28, 29, 30] [] [27] s (mo_bef s g a (rk_top S) e c).2 ∧ (mo_bef s g a (rk_top S) e c).2.1 30 = s.1 30 ∧ (mo_bef s g a (rk_top S) e c).2.2.2 = s.2.2 ∧ ((mo_bef s g a (rk_top S) e c).2.1 29 = 0 ∨ 0 < (mo_bef s g a (rk_top S) e c).2.1 29) := by
  rcases h with ⟨_, h, _⟩ | ⟨h, _⟩ | ⟨h, h', h''⟩ | ⟨h, h'⟩ | ⟨h, h'⟩ | h | ⟨h, _⟩
  · rw [h] at h8; exact absurd h8 (by decide)
  · exact absurd h8 (eq_let_g h).2.1
  · have e1 : mo_bef s g a (rk_top S) e c = (mo_worst s.2.1 a (rk_top S) 0 e c, s) := by unfold mo_bef; rw [if_pos h']
    rw [e1]
    refine ⟨by rw [h]; decide, ?_, md_eq_rf, rfl, rfl, Or.inl h0⟩
    unfold rk_step
    rw [h, if_neg (by decide), if_neg (by decide), if_pos rfl, eq_worst b hb (part := 0) (ar := 0) (by decide), h'', h0]
  · by_cases z : gt_bl (rk_top S).toInt32 2
    · have e1 : mo_bef s g a (rk_top S) e c = (mo_onF (s.2.1 21) (rk_top S).toInt32 e c, (upd s.1 29 0, s.2.1, s.2.2)) := by unfold mo_bef; rw [h', if_neg (by decide), if_neg (by decide), if_pos z]
      rw [e1]
      refine ⟨by rw [h]; decide, ?_, md_eq_J md_eq_rf _ (by decide), rfl, rfl, Or.inl rfl⟩
      unfold rk_step
      rw [h, if_neg (by decide), if_neg (by decide), if_neg (by decide), if_pos rfl, show rk_fo F c (rk_top S) ab = ((pl_onF (F 5) (rk_top S).toInt32 ab c).toInt64, false) from if_pos z, eq_onF' b hb]
      rfl
    · have e1 : mo_bef s g a (rk_top S) e c = (0, (upd s.1 29 2, s.2.1, s.2.2)) := by unfold mo_bef; rw [h', if_neg (by decide), if_neg (by decide), if_neg z]
      rw [e1]
      refine ⟨by rw [h]; decide, ?_, md_eq_J md_eq_rf _ (by decide), rfl, rfl, Or.inr ?_⟩
      · unfold rk_step
        rw [h, if_neg (by decide), if_neg (by decide), if_neg (by decide), if_pos rfl, show rk_fo F c (rk_top S) ab = (0, true) from if_neg z]
        rfl
      · show 0 < upd s.1 29 2 29
        unfold upd; rw [if_pos rfl]; decide
  · have e1 : mo_bef s g a (rk_top S) e c = (-(rk_top S), s) := by unfold mo_bef; rw [h', if_neg (by decide), if_pos rfl]
    rw [e1]
    refine ⟨by rw [h]; decide, ?_, md_eq_rf, rfl, rfl, Or.inl h0⟩
    unfold rk_step
    rw [h, if_neg (by decide), if_neg (by decide), if_neg (by decide), if_neg (by decide), if_pos rfl, h0]
  · rcases h with h | h | h | h <;> (rw [h.1] at h11; exact absurd (by decide) h11)
  · rw [h] at h11; exact absurd (by decide) h11
theorem eq_s15 (h0 : s.1 29 = 0) (h : eq_st k op g a) (h16 : ¬ g = 16) (h11 : 11 < g) : ¬ eq_isc k ∧ rk_step I F c k op ab S 0 = (rk_push (rk_drop (rk_drop S)) (mo_bet s g (rk_top (rk_drop S)) (rk_top S)).1, (mo_bet s g (rk_top (rk_drop S)) (rk_top S)).2.1 29) ∧ md_eq [28, 29, 30] [] [27] s (mo_bet s g (rk_top (rk_drop S)) (rk_top S)).2 ∧ (mo_bet s g (rk_top (rk_drop S)) (rk_top S)).2.1 30 = s.1 30 ∧ (mo_bet s g (rk_top (rk_drop S)) (rk_top S)).2.2.2 = s.2.2 ∧ ((mo_bet s g (rk_top (rk_drop S)) (rk_top S)).2.1 29 = 0 ∨ 0 < (mo_bet s g (rk_top (rk_drop S)) (rk_top S)).2.1 29) := by
  have hk : (g = 12 ∧ k = 43) ∨ (g = 13 ∧ k = 45) ∨ (g = 14 ∧ k = 42) ∨ (g = 15 ∧ k = 47) := by
    rcases h with ⟨_, h, _⟩ | ⟨h, _⟩ | ⟨_, h, _⟩ | ⟨_, h⟩ | ⟨_, h⟩ | h | ⟨h, _⟩
    · rw [h] at h11; exact absurd h11 (by decide)
    · exact absurd (Int32.lt_trans (show (8 : Int32) < 11 by decide) h11) (eq_let_g h).2.1
    · rw [h] at h11; exact absurd h11 (by decide)
    · rw [h] at h11; exact absurd h11 (by decide)
    · rw [h] at h11; exact absurd h11 (by decide)
    · exact h
    · exact absurd h h16
  have hs : rk_step I F c k op ab S 0 = (rk_push (rk_drop (rk_drop S)) (rk_comb k (rk_top (rk_drop S)) (rk_top S)).1, if (rk_comb k (rk_top (rk_drop S)) (rk_top S)).2 then 1 else 0) := by
    unfold rk_step
    rcases hk with h | h | h | h <;> rw [h.2] <;> rw [if_neg (by decide), if_pos (by decide)]
  have hc := eq_comb (s := s) (a := rk_top (rk_drop S)) (b := rk_top S) k hk
  refine ⟨by rcases hk with h | h | h | h <;> rw [h.2] <;> decide, ?_⟩
  rw [hs, ← hc]
  rcases hk with ⟨h, h'⟩ | ⟨h, h'⟩ | ⟨h, h'⟩ | ⟨h, h'⟩
  · subst h h'; exact ⟨by rw [show (mo_bet s 12 (rk_top (rk_drop S)) (rk_top S)).2.1 29 = 0 from h0]; rfl, md_eq_rf, rfl, rfl, Or.inl h0⟩
  · subst h h'; exact ⟨by rw [show (mo_bet s 13 (rk_top (rk_drop S)) (rk_top S)).2.1 29 = 0 from h0]; rfl, md_eq_rf, rfl, rfl, Or.inl h0⟩
  · subst h h'; exact ⟨by rw [show (mo_bet s 14 (rk_top (rk_drop S)) (rk_top S)).2.1 29 = 0 from h0]; rfl, md_eq_rf, rfl, rfl, Or.inl h0⟩
  · subst h h'
    by_cases z : rk_top S = 0
    · have e1 : mo_bet s 15 (rk_top (rk_drop S)) (rk_top S) = (0, (upd s.1 29 1, s.2.1, s.2.2)) := by unfold mo_bet; rw [if_pos rfl, if_pos ((lg_cmp_eq _ _).mpr z)]
      rw [e1]
      refine ⟨?_, md_eq_J md_eq_rf _ (by decide), rfl, rfl, Or.inr ?_⟩
      · rw [show rk_comb 47 (rk_top (rk_drop S)) (rk_top S) = (0, true) from by unfold rk_comb; rw [if_neg (by decide), if_neg (by decide), if_neg (by decide), if_pos z]]; rfl
      · show 0 < upd s.1 29 1 29
        unfold upd; rw [if_pos rfl]; decide
    · have e1 : mo_bet s 15 (rk_top (rk_drop S)) (rk_top S) = (rk_top (rk_drop S) / rk_top S, (upd s.1 29 0, s.2.1, s.2.2)) := by unfold mo_bet; rw [if_pos rfl, if_neg (fun y => z ((lg_cmp_eq _ _).mp y))]
      rw [e1]
      refine ⟨?_, md_eq_J md_eq_rf _ (by decide), rfl, rfl, Or.inl rfl⟩
      rw [show rk_comb 47 (rk_top (rk_drop S)) (rk_top S) = (rk_top (rk_drop S) / rk_top S, false) from by unfold rk_comb; rw [if_neg (by decide), if_neg (by decide), if_neg (by decide), if_neg z]]; rfl
end
/-- the class's stack, and the reference's row of numbers of height t -/
def eq_sk (S : rk_S) (N : Nat → Int64) (t : Nat) : Prop := S.2 = t ∧ t ≤ 32 ∧ ∀ i, i < t → S.1 i = N i
theorem eq_sk_top {S : rk_S} {N : Nat → Int64} {t : Nat} (h : eq_sk S N t) (ht : 1 ≤ t) : rk_top S = N (t - 1) := by
  obtain ⟨h1, h2, h3⟩ := h
  unfold rk_top
  rw [if_neg (by omega), h1]; exact h3 _ (by omega)
theorem eq_sk_drop {S : rk_S} {N : Nat → Int64} {t : Nat} (h : eq_sk S N t) : eq_sk (rk_drop S) N (t - 1) :=
  ⟨by show S.2 - 1 = t - 1; rw [h.1], by have := h.2.1; omega, fun i hi => h.2.2 i (by omega)⟩
theorem eq_sk_push {S : rk_S} {N : Nat → Int64} {t : Nat} (h : eq_sk S N t) (ht : t < 32) (v : Int64) : eq_sk (rk_push S v) (vp_updL N t v) (t + 1) := by
  obtain ⟨h1, h2, h3⟩ := h
  have e : rk_push S v = (vp_updL S.1 S.2 v, S.2 + 1) := if_pos (by omega)
  rw [e]
  refine ⟨by show S.2 + 1 = t + 1; omega, by omega, fun i hi => ?_⟩
  show vp_updL S.1 S.2 v i = vp_updL N t v i
  rw [h1]
  unfold vp_updL
  by_cases z : i = t
  · rw [if_pos z, if_pos z]
  · rw [if_neg z, if_neg z]; exact h3 i (by omega)
/-- the height of the stack behind a step -/
def eq_nx (g : Int32) (t : Nat) : Option Nat := if g = 16 then (if t = 2 then some 0 else none) else if 8 < g then (if 11 < g then (if 2 ≤ t then some (t - 1) else none) else if 1 ≤ t then some t else none) else if t < 32 then some (t + 1) else none
def eq_wf (gf : Nat → Int32) : Nat → Nat → Nat → Prop
  | 0, _, _ => True
  | m + 1, i, t => ∃ t', eq_nx (gf i) t = some t' ∧ eq_wf gf m (i + 1) t'
