/-! Expressions: their steps are steps of both, want little stack, and print as their text -/
def eq_wl : pz_P → Nat → Nat → Prop
  | [], t, t' => t' = t
  | x :: l, t, t' => ∃ u, eq_nx x.1 t = some u ∧ eq_wl l u t'
theorem eq_wl_app : ∀ (l m : pz_P) (t t1 t2 : Nat), eq_wl l t t1 → eq_wl m t1 t2 → eq_wl (l ++ m) t t2 := by
  intro l
  induction l with
  | nil => intro m t t1 t2 h1 h2; have e : t1 = t := h1; rw [← e]; exact h2
  | cons x l ih =>
    intro m t t1 t2 h1 h2
    obtain ⟨u, a, b⟩ := h1
    exact ⟨u, a, ih m u t1 t2 b h2⟩
theorem eq_nx_a {g : Int32} {t : Nat} (h1 : ¬ g = 16) (h8 : ¬ 8 < g) (ht : t < 32) : eq_nx g t = some (t + 1) := by
  unfold eq_nx; rw [if_neg h1, if_neg h8, if_pos ht]
theorem eq_nx_u {g : Int32} {t : Nat} (h1 : ¬ g = 16) (h8 : 8 < g) (h11 : ¬ 11 < g) (ht : 1 ≤ t) : eq_nx g t = some t := by
  unfold eq_nx; rw [if_neg h1, if_pos h8, if_neg h11, if_pos ht]
theorem eq_nx_b {g : Int32} {t : Nat} (h1 : ¬ g = 16) (h8 : 8 < g) (h11 : 11 < g) (ht : 2 ≤ t) : eq_nx g t = some (t - 1) := by
  unfold eq_nx; rw [if_neg h1, if_pos h8, if_pos h11, if_pos ht]
/-- a valid step -/
def pz_v (x : Int32 × Int32) : Prop := eq_st x.1 x.2 (pz_m x).1 (pz_m x).2
theorem pz_v_let {c k : Int32} (h : (c = 108 ∨ c = 119 ∨ c = 116) ∨ (c = 110 ∨ c = 97 ∨ c = 115 ∨ c = 101)) : pz_v (c, k) ∧ ∃ g : Int32, pz_m (c, k) = (g, k) ∧ ¬ g = 1 ∧ ¬ 8 < g ∧ ¬ g = 16 := by
  rcases h with (rfl | rfl | rfl) | (rfl | rfl | rfl | rfl)
  · exact ⟨Or.inr (Or.inl ⟨Or.inl ⟨rfl, rfl⟩, rfl⟩), 2, rfl, by decide, by decide, by decide⟩
  · exact ⟨Or.inr (Or.inl ⟨Or.inr (Or.inl ⟨rfl, rfl⟩), rfl⟩), 3, rfl, by decide, by decide, by decide⟩
  · exact ⟨Or.inr (Or.inl ⟨Or.inr (Or.inr (Or.inl ⟨rfl, rfl⟩)), rfl⟩), 4, rfl, by decide, by decide, by decide⟩
  · exact ⟨Or.inr (Or.inl ⟨Or.inr (Or.inr (Or.inr (Or.inl ⟨rfl, rfl⟩))), rfl⟩), 5, rfl, by decide, by decide, by decide⟩
  · exact ⟨Or.inr (Or.inl ⟨Or.inr (Or.inr (Or.inr (Or.inr (Or.inl ⟨rfl, rfl⟩)))), rfl⟩), 6, rfl, by decide, by decide, by decide⟩
  · exact ⟨Or.inr (Or.inl ⟨Or.inr (Or.inr (Or.inr (Or.inr (Or.inr (Or.inl ⟨rfl, rfl⟩))))), rfl⟩), 7, rfl, by decide, by decide, by decide⟩
  · exact ⟨Or.inr (Or.inl ⟨Or.inr (Or.inr (Or.inr (Or.inr (Or.inr (Or.inr ⟨rfl, rfl⟩))))), rfl⟩), 8, rfl, by decide, by decide, by decide⟩
theorem pz_v_num (k : Int32) : pz_v (35, k) ∧ pz_m (35, k) = (1, k) := ⟨Or.inl ⟨rfl, rfl, rfl⟩, rfl⟩
theorem pz_v_99 (k : Int32) : pz_v (99, k) ∧ pz_m (99, k) = (9, k) := ⟨Or.inr (Or.inr (Or.inl ⟨rfl, rfl, rfl⟩)), rfl⟩
theorem pz_v_un {c : Int32} (h : c = 126 ∨ c = 102) : pz_v (c, 0) ∧ pz_m (c, 0) = ((if c = 126 then 11 else 10), 0) := by
  rcases h with rfl | rfl
  · exact ⟨Or.inr (Or.inr (Or.inr (Or.inr (Or.inl ⟨rfl, rfl⟩)))), rfl⟩
  · exact ⟨Or.inr (Or.inr (Or.inr (Or.inl ⟨rfl, rfl⟩))), rfl⟩
theorem pz_v_bin {c : Int32} (h : c = 42 ∨ c = 47 ∨ c = 43 ∨ c = 45) : pz_v (c, 0) ∧ ∃ g : Int32, pz_m (c, 0) = (g, 0) ∧ 11 < g ∧ ¬ g = 16 ∧ pr_op g 0 = c ∧ ((g = 14 ∨ g = 15) ↔ (c = 42 ∨ c = 47)) := by
  rcases h with rfl | rfl | rfl | rfl
  · exact ⟨Or.inr (Or.inr (Or.inr (Or.inr (Or.inr (Or.inl (Or.inr (Or.inr (Or.inl ⟨rfl, rfl⟩)))))))), 14, rfl, by decide, by decide, by decide, by decide⟩
  · exact ⟨Or.inr (Or.inr (Or.inr (Or.inr (Or.inr (Or.inl (Or.inr (Or.inr (Or.inr ⟨rfl, rfl⟩)))))))), 15, rfl, by decide, by decide, by decide, by decide⟩
  · exact ⟨Or.inr (Or.inr (Or.inr (Or.inr (Or.inr (Or.inl (Or.inl ⟨rfl, rfl⟩)))))), 12, rfl, by decide, by decide, by decide, by decide⟩
  · exact ⟨Or.inr (Or.inr (Or.inr (Or.inr (Or.inr (Or.inl (Or.inr (Or.inl ⟨rfl, rfl⟩))))))), 13, rfl, by decide, by decide, by decide, by decide⟩
/-- valid steps, and the stack -/
theorem ex_wf {p : pz_P} {q : List Int32} {sh : Int32} {ht dp : Nat} (e : Ex p q sh ht dp) : (∀ x ∈ p, pz_v x) ∧ 1 ≤ ht ∧ ∀ t, t + ht ≤ 32 → eq_wl (p.map pz_m) t (t + 1) := by
  refine e (fun p _ _ ht _ => (∀ x ∈ p, pz_v x) ∧ 1 ≤ ht ∧ ∀ t, t + ht ≤ 32 → eq_wl (p.map pz_m) t (t + 1)) ?_ ?_ ?_ ?_ ?_ ?_ ?_
  · intro l _ _ _
    refine ⟨fun x hx => by rw [List.mem_singleton.mp hx]; exact (pz_v_num _).1, Nat.le_refl _, fun t ht => ⟨t + 1, ?_, rfl⟩⟩
    exact eq_nx_a (g := 1) (by decide) (by decide) (by omega)
  · intro c hc
    obtain ⟨v, g, e1, e2, e3, e4⟩ := pz_v_let (k := 0) (Or.inl hc)
    refine ⟨fun x hx => by rw [List.mem_singleton.mp hx]; exact v, Nat.le_refl _, fun t ht => ⟨t + 1, ?_, rfl⟩⟩
    rw [e1]; exact eq_nx_a e4 e3 (by omega)
  · intro c k hc _ _
    obtain ⟨v, g, e1, e2, e3, e4⟩ := pz_v_let (k := k - 48) (Or.inr hc)
    refine ⟨fun x hx => by rw [List.mem_singleton.mp hx]; exact v, Nat.le_refl _, fun t ht => ⟨t + 1, ?_, rfl⟩⟩
    rw [e1]; exact eq_nx_a e4 e3 (by omega)
  · intro c p q sh ht dp hc ih
    obtain ⟨i1, i2, i3⟩ := ih
    obtain ⟨v, e1⟩ := pz_v_un hc
    refine ⟨fun x hx => ?_, i2, fun t ht => ?_⟩
    · rcases List.mem_append.mp hx with z | z
      · exact i1 x z
      · rw [List.mem_singleton.mp z]; exact v
    · rw [List.map_append]
      refine eq_wl_app _ _ _ _ _ (i3 t ht) ⟨t + 1, ?_, rfl⟩
      rw [e1]
      rcases hc with rfl | rfl
      · exact eq_nx_u (by decide) (by decide) (by decide) (by omega)
      · exact eq_nx_u (by decide) (by decide) (by decide) (by omega)
  · intro k p q sh ht dp _ _ ih
    obtain ⟨i1, i2, i3⟩ := ih
    refine ⟨fun x hx => ?_, i2, fun t ht => ?_⟩
    · rcases List.mem_append.mp hx with z | z
      · exact i1 x z
      · rw [List.mem_singleton.mp z]; exact (pz_v_99 _).1
    · rw [List.map_append]
      refine eq_wl_app _ _ _ _ _ (i3 t ht) ⟨t + 1, ?_, rfl⟩
      exact eq_nx_u (by show ¬ (9 : Int32) = 16; decide) (by show (8 : Int32) < 9; decide) (by show ¬ (11 : Int32) < 9; decide) (by omega)
  · intro c p1 q1 sh1 ht1 dp1 p2 q2 sh2 ht2 dp2 hc ih1 ih2
    obtain ⟨i1, i2, i3⟩ := ih1
    obtain ⟨j1, j2, j3⟩ := ih2
    obtain ⟨v, g, e1, e2, e3, _⟩ := pz_v_bin (hc.elim Or.inl (fun z => Or.inr (Or.inl z)))
    refine ⟨fun x hx => ?_, by omega, fun t ht => ?_⟩
    · rcases List.mem_append.mp hx with z | z
      · rcases List.mem_append.mp z with z | z
        · exact i1 x z
        · exact j1 x z
      · rw [List.mem_singleton.mp z]; exact v
    · rw [List.map_append, List.map_append]
      refine eq_wl_app _ _ _ _ _ (eq_wl_app _ _ _ _ _ (i3 t (by omega)) (j3 (t + 1) (by omega))) ⟨t + 1, ?_, rfl⟩
      rw [e1]; exact eq_nx_b e3 (Int32.lt_trans (by decide) e2) e2 (by omega)
  · intro c p1 q1 sh1 ht1 dp1 p2 q2 sh2 ht2 dp2 hc ih1 ih2
    obtain ⟨i1, i2, i3⟩ := ih1
    obtain ⟨j1, j2, j3⟩ := ih2
    obtain ⟨v, g, e1, e2, e3, _⟩ := pz_v_bin (hc.elim (fun z => Or.inr (Or.inr (Or.inl z))) (fun z => Or.inr (Or.inr (Or.inr z))))
    refine ⟨fun x hx => ?_, by omega, fun t ht => ?_⟩
    · rcases List.mem_append.mp hx with z | z
      · rcases List.mem_append.mp z with z | z
        · exact i1 x z
        · exact j1 x z
      · rw [List.mem_singleton.mp z]; exact v
    · rw [List.map_append, List.map_append]
      refine eq_wl_app _ _ _ _ _ (eq_wl_app _ _ _ _ _ (i3 t (by omega)) (j3 (t + 1) (by omega))) ⟨t + 1, ?_, rfl⟩
      rw [e1]; exact eq_nx_b e3 (Int32.lt_trans (by decide) e2) e2 (by omega)
/-! printing -/
def st3 (sh : Int32) : Int32 := if sh = 0 then 3 else if sh = 1 then 2 else 1
/-- steps of the printing one behind the other, the text never longer than b, the stack than n -/
def pr_seq (b n : Nat) : pz_P → pr_S → pr_S → Prop
  | [], Q, Q' => Q' = Q
  | x :: l, Q, Q' => (pr_cat Q).length ≤ b ∧ Q.length ≤ n ∧ ∃ Q1, pr_ok x.1 x.2 Q Q1 ∧ ¬ Q1 = [] ∧ pr_seq b n l Q1 Q'
theorem pr_seq_app {b n : Nat} : ∀ (l m : pz_P) (Q Q1 Q2 : pr_S), pr_seq b n l Q Q1 → pr_seq b n m Q1 Q2 → pr_seq b n (l ++ m) Q Q2 := by
  intro l
  induction l with
  | nil => intro m Q Q1 Q2 h1 h2; have e : Q1 = Q := h1; rw [← e]; exact h2
  | cons x l ih =>
    intro m Q Q1 Q2 h1 h2
    obtain ⟨a, a', R, c, d, e⟩ := h1
    exact ⟨a, a', R, c, d, ih m R Q1 Q2 e h2⟩
theorem pr_seq_1 {b n : Nat} {x : Int32 × Int32} {Q Q1 : pr_S} (h1 : (pr_cat Q).length ≤ b) (h2 : Q.length ≤ n) (h3 : pr_ok x.1 x.2 Q Q1) (h4 : ¬ Q1 = []) : pr_seq b n [x] Q Q1 := ⟨h1, h2, Q1, h3, h4, rfl⟩
theorem pr_wr_le (c : Prop) [Decidable c] (q : List Int32) : q.length ≤ (pr_wr c q).length := by
  unfold pr_wr; split
  · simp; omega
  · exact Nat.le_refl _
theorem st3_lt {sh : Int32} (h : sh = 0 ∨ sh = 1 ∨ sh = 2) : (st3 sh < 3 ↔ ¬ sh = 0) ∧ (st3 sh = 1 ↔ sh = 2) ∧ (st3 sh = 2 ↔ sh = 1) := by
  rcases h with rfl | rfl | rfl <;> decide
theorem pr_kk (k : Int32) : 48 + (k - 48) = k := by rw [Int32.add_comm, Int32.sub_add_cancel]
theorem ex_pr {p : pz_P} {q : List Int32} {sh : Int32} {ht dp : Nat} (e : Ex p q sh ht dp) : (sh = 0 ∨ sh = 1 ∨ sh = 2) ∧ 1 ≤ ht ∧ ∀ (b n : Nat) (Q : pr_S), (pr_cat Q).length + q.length ≤ b → Q.length + ht ≤ n → pr_seq b n (p.map pz_m) Q ((q, st3 sh) :: Q) := by
  refine e (fun p q sh ht _ => (sh = 0 ∨ sh = 1 ∨ sh = 2) ∧ 1 ≤ ht ∧ ∀ (b n : Nat) (Q : pr_S), (pr_cat Q).length + q.length ≤ b → Q.length + ht ≤ n → pr_seq b n (p.map pz_m) Q ((q, st3 sh) :: Q)) ?_ ?_ ?_ ?_ ?_ ?_ ?_
  · intro l h1 h2 h3
    refine ⟨Or.inl rfl, Nat.le_refl _, fun b n Q hb hn => pr_seq_1 (by omega) (by omega) ?_ (by intro z; cases z)⟩
    have hlt := dg_lt l h1
    have hpow : 10 ^ l.length ≤ 10 ^ 6 := Nat.pow_le_pow_right (by decide) h3
    exact Or.inl ⟨dg_v l, by omega, rfl, rfl, by rw [pr_num_v l h1 h2 h3]; rfl⟩
  · intro c hc
    obtain ⟨v, g, e1, e2, e3, e4⟩ := pz_v_let (k := 0) (Or.inl hc)
    refine ⟨Or.inl rfl, Nat.le_refl _, fun b n Q hb hn => pr_seq_1 (by omega) (by omega) ?_ (by intro z; cases z)⟩
    rw [e1]
    refine Or.inr (Or.inl ⟨e2, e3, ?_⟩)
    rcases hc with rfl | rfl | rfl <;> (cases e1; rfl)
  · intro c k hc _ _
    obtain ⟨v, g, e1, e2, e3, e4⟩ := pz_v_let (k := k - 48) (Or.inr hc)
    refine ⟨Or.inl rfl, Nat.le_refl _, fun b n Q hb hn => pr_seq_1 (by omega) (by omega) ?_ (by intro z; cases z)⟩
    rw [e1]
    refine Or.inr (Or.inl ⟨e2, e3, ?_⟩)
    have hk := pr_kk k
    rcases hc with rfl | rfl | rfl | rfl
    · cases (Prod.mk.inj e1).1; rw [show pr_atom 5 (k - 48) = [110, 48 + (k - 48)] from rfl, hk]; rfl
    · cases (Prod.mk.inj e1).1; rw [show pr_atom 6 (k - 48) = [97, 48 + (k - 48)] from rfl, hk]; rfl
    · cases (Prod.mk.inj e1).1; rw [show pr_atom 7 (k - 48) = [115, 48 + (k - 48)] from rfl, hk]; rfl
    · cases (Prod.mk.inj e1).1; rw [show pr_atom 8 (k - 48) = [101, 48 + (k - 48)] from rfl, hk]; rfl
  · intro c p q sh ht dp hc ih
    obtain ⟨i1, i0, i2⟩ := ih
    obtain ⟨v, e1⟩ := pz_v_un hc
    refine ⟨Or.inl rfl, i0, fun b n Q hb hn => ?_⟩
    have hw := pr_wr_le (¬ sh = 0) q
    rw [List.length_cons] at hb
    rw [List.map_append]
    refine pr_seq_app _ _ _ _ _ (i2 b n Q (by omega) hn) (pr_seq_1 ?_ ?_ ?_ (by intro z; cases z))
    · show (pr_cat Q ++ q).length ≤ b; rw [List.length_append]; omega
    · rw [List.length_cons]; omega
    · rw [e1]
      refine Or.inr (Or.inr (Or.inl ⟨?_, ?_, (q, st3 sh), Q, rfl, ?_⟩))
      · rcases hc with rfl | rfl <;> decide
      · rcases hc with rfl | rfl <;> decide
      · rw [pr_wr_iff (st3_lt i1).1]
        rcases hc with rfl | rfl <;> rfl
  · intro k p q sh ht dp _ _ ih
    obtain ⟨i1, i0, i2⟩ := ih
    refine ⟨Or.inl rfl, i0, fun b n Q hb hn => ?_⟩
    have hw := pr_wr_le (¬ sh = 0) q
    rw [List.length_cons, List.length_cons] at hb
    rw [List.map_append]
    refine pr_seq_app _ _ _ _ _ (i2 b n Q (by omega) hn) (pr_seq_1 ?_ ?_ ?_ (by intro z; cases z))
    · show (pr_cat Q ++ q).length ≤ b; rw [List.length_append]; omega
    · rw [List.length_cons]; omega
    · refine Or.inr (Or.inr (Or.inl ⟨by show (8 : Int32) < 9; decide, by show ¬ (11 : Int32) < 9; decide, (q, st3 sh), Q, rfl, ?_⟩))
      rw [pr_wr_iff (st3_lt i1).1]
      show _ = (99 :: (48 + (k - 48)) :: pr_wr (¬ sh = 0) q, 3) :: Q
      rw [pr_kk]; rfl
  · intro c p1 q1 sh1 ht1 dp1 p2 q2 sh2 ht2 dp2 hc ih1 ih2
    obtain ⟨i1, i0, i2⟩ := ih1
    obtain ⟨j1, j0, j2⟩ := ih2
    obtain ⟨v, g, e1, e2, e3, e4, e5⟩ := pz_v_bin (hc.elim Or.inl (fun z => Or.inr (Or.inl z)))
    refine ⟨Or.inr (Or.inl rfl), by omega, fun b n Q hb hn => ?_⟩
    have hw1 := pr_wr_le (sh1 = 2) q1
    have hw2 := pr_wr_le (¬ sh2 = 0) q2
    rw [List.length_append, List.length_cons] at hb
    rw [List.map_append, List.map_append]
    refine pr_seq_app _ _ _ _ _ (pr_seq_app _ _ _ _ _ (i2 b n Q (by omega) (by omega)) (j2 b n ((q1, st3 sh1) :: Q) ?_ (by rw [List.length_cons]; omega))) (pr_seq_1 ?_ ?_ ?_ (by intro z; cases z))
    · show (pr_cat Q ++ q1).length + q2.length ≤ b; rw [List.length_append]; omega
    · show ((pr_cat Q ++ q1) ++ q2).length ≤ b; rw [List.length_append, List.length_append]; omega
    · rw [List.length_cons, List.length_cons]; omega
    · rw [e1]
      refine Or.inr (Or.inr (Or.inr ⟨e2, (q2, st3 sh2), (q1, st3 sh1), Q, rfl, ?_⟩))
      have a1 : ((g = 14 ∨ g = 15) ∧ st3 sh1 = 1) ↔ sh1 = 2 := ⟨fun z => (st3_lt i1).2.1.mp z.2, fun z => ⟨e5.mpr hc, (st3_lt i1).2.1.mpr z⟩⟩
      have a2 : (¬ g = 16 ∧ (st3 sh2 = 1 ∨ (g = 14 ∨ g = 15) ∧ st3 sh2 = 2)) ↔ ¬ sh2 = 0 := by
        rw [(st3_lt j1).2.1, (st3_lt j1).2.2]
        constructor
        · rintro ⟨_, z | ⟨_, z⟩⟩ <;> rw [z] <;> decide
        · intro z; exact ⟨e3, j1.elim (fun y => absurd y z) (fun y => y.elim (fun x => Or.inr ⟨e5.mpr hc, x⟩) Or.inl)⟩
      show _ = (pr_wr ((g = 14 ∨ g = 15) ∧ st3 sh1 = 1) q1 ++ pr_op g 0 :: pr_wr (¬ g = 16 ∧ (st3 sh2 = 1 ∨ (g = 14 ∨ g = 15) ∧ st3 sh2 = 2)) q2, if g = 14 ∨ g = 15 then 2 else 1) :: Q
      rw [pr_wr_iff a1, pr_wr_iff a2, e4, if_pos (e5.mpr hc)]; rfl
  · intro c p1 q1 sh1 ht1 dp1 p2 q2 sh2 ht2 dp2 hc ih1 ih2
    obtain ⟨i1, i0, i2⟩ := ih1
    obtain ⟨j1, j0, j2⟩ := ih2
    obtain ⟨v, g, e1, e2, e3, e4, e5⟩ := pz_v_bin (hc.elim (fun z => Or.inr (Or.inr (Or.inl z))) (fun z => Or.inr (Or.inr (Or.inr z))))
    have hng : ¬ (g = 14 ∨ g = 15) := fun z => by rcases hc with rfl | rfl <;> exact absurd (e5.mp z) (by decide)
    refine ⟨Or.inr (Or.inr rfl), by omega, fun b n Q hb hn => ?_⟩
    have hw2 := pr_wr_le (sh2 = 2) q2
    rw [List.length_append, List.length_cons] at hb
    rw [List.map_append, List.map_append]
    refine pr_seq_app _ _ _ _ _ (pr_seq_app _ _ _ _ _ (i2 b n Q (by omega) (by omega)) (j2 b n ((q1, st3 sh1) :: Q) ?_ (by rw [List.length_cons]; omega))) (pr_seq_1 ?_ ?_ ?_ (by intro z; cases z))
    · show (pr_cat Q ++ q1).length + q2.length ≤ b; rw [List.length_append]; omega
    · show ((pr_cat Q ++ q1) ++ q2).length ≤ b; rw [List.length_append, List.length_append]; omega
    · rw [List.length_cons, List.length_cons]; omega
    · rw [e1]
      refine Or.inr (Or.inr (Or.inr ⟨e2, (q2, st3 sh2), (q1, st3 sh1), Q, rfl, ?_⟩))
      have a1 : ¬ ((g = 14 ∨ g = 15) ∧ st3 sh1 = 1) := fun z => hng z.1
      have a2 : (¬ g = 16 ∧ (st3 sh2 = 1 ∨ (g = 14 ∨ g = 15) ∧ st3 sh2 = 2)) ↔ sh2 = 2 := by
        rw [(st3_lt j1).2.1]
        exact ⟨fun z => z.2.elim id (fun y => absurd y.1 hng), fun z => ⟨e3, Or.inl z⟩⟩
      show _ = (pr_wr ((g = 14 ∨ g = 15) ∧ st3 sh1 = 1) q1 ++ pr_op g 0 :: pr_wr (¬ g = 16 ∧ (st3 sh2 = 1 ∨ (g = 14 ∨ g = 15) ∧ st3 sh2 = 2)) q2, if g = 14 ∨ g = 15 then 2 else 1) :: Q
      rw [show pr_wr ((g = 14 ∨ g = 15) ∧ st3 sh1 = 1) q1 = q1 from if_neg a1, pr_wr_iff a2, e4, if_neg hng]; rfl
