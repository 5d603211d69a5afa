/-! CONDITIONS AND RULES: what is read and what is kept -/
def Cn (post : pz_P) (txt : List Int32) : Prop := ∃ (p1 p2 : pz_P) (q1 q2 : List Int32) (s1 s2 : Int32) (h1 d1 h2 d2 : Nat) (c : Int32), Ex p1 q1 s1 h1 d1 ∧ Ex p2 q2 s2 h2 d2 ∧ eq_isc c ∧ (h1 ≤ 19 ∧ h2 ≤ 19 ∧ d1 ≤ 8 ∧ d2 ≤ 8) ∧ post = p1 ++ p2 ++ [(c, 0)] ∧ txt = q1 ++ c :: q2
abbrev cn_L : Type := List (pz_P × List Int32)
def cn_steps : cn_L → pz_P
  | [] => []
  | x :: l => x.1 ++ cn_steps l
def cn_text : cn_L → List Int32
  | [] => []
  | [x] => x.2
  | x :: y :: l => x.2 ++ 44 :: cn_text (y :: l)
def cn_ok (cs : cn_L) : Prop := ∀ x ∈ cs, Cn x.1 x.2
section
variable {f : Nat → Int32} {len : Nat}
def pb_rel (x : rs_B) (T : ru_D) (y : pz_R) : Prop := x.1 = y.1 ∧ x.2.1 = y.2.1 ∧ (y.1 = true → x.2.2.2 = ru_adds T y.2.2)
abbrev cl_frb (s : rs_S) (x : rs_B) (len : Nat) : Prop := cl_fr s ((0 : Int32), x.2) len
theorem cl_after {s : rs_S} {x : rs_R} (hn : cl_new s len) (h : cl_fr s x len) (hlt : x.2.1 < len) (T : ru_D) : cl_new (x.2.1 + 1, x.2.2.1, T) len :=
  ⟨(by omega : x.2.1 + 1 ≤ len), fun i hi hi3 => by
    have hi2 : x.2.1 + 1 ≤ i := hi
    show x.2.2.1 i = 0
    rw [h.2.2 i (by omega)]; exact hn.2 i (by have := h.1; omega) hi3⟩
theorem pz_f_of {x : rs_R} {T : ru_D} {y : pz_R} (h : pz_rel x T y) : (x.1 = -1 → y.1 = false) ∧ (¬ x.1 = -1 → ¬ y.1 = false) := ⟨h.1.mp, fun z y => z (h.1.mpr y)⟩
theorem cl_cond (ht : mz_tx f len) (hl : len ≤ 300) (s : rs_S) (hn : cl_new s len) : pb_rel (rs_cond f len s) s.2.2 (pz_cond f len s.1) ∧ ((rs_cond f len s).1 = true → ∃ txt, Cn (pz_cond f len s.1).2.2 txt ∧ cl_frb s (rs_cond f len s) len ∧ kpt f (rs_cond f len s).2.2.1 s.1 ((rs_cond f len s).2.1 - s.1) = txt) := by
  have r1 := pz_X_rel f len 8 s
  have e1 := cl_X ht hl 8 s hn
  unfold rs_cond pz_cond
  obtain ⟨X, eX⟩ : ∃ z, z = rs_X f len 8 s := ⟨_, rfl⟩
  rw [← eX] at r1 e1 ⊢
  by_cases h1 : X.1 = -1
  · rw [if_pos h1, if_pos (r1.1.mp h1)]
    exact ⟨⟨rfl, r1.2.1, fun z => by cases z⟩, fun z => by cases z⟩
  rw [if_neg h1, if_neg ((pz_f_of r1).2 h1), ← r1.2.1]
  obtain ⟨pp, h, dp, a1, a2, a3, a4, a5⟩ := e1 h1
  by_cases h2 : cu_c f len X.2.1 = 60 ∨ cu_c f len X.2.1 = 62 ∨ cu_c f len X.2.1 = 61 ∨ cu_c f len X.2.1 = 33
  · rw [if_pos h2, if_pos h2]
    have hlt : X.2.1 < len := (pz_cmp_m h2).2.1
    have hn2 := cl_after hn a4 hlt X.2.2.2
    have r2 := pz_X_rel f len 8 (X.2.1 + 1, X.2.2.1, X.2.2.2)
    have e2 := cl_X ht hl 8 (X.2.1 + 1, X.2.2.1, X.2.2.2) hn2
    obtain ⟨Y, eY⟩ : ∃ z, z = rs_X f len 8 (X.2.1 + 1, X.2.2.1, X.2.2.2) := ⟨_, rfl⟩
    rw [← eY] at r2 e2 ⊢
    replace r2 : pz_rel Y X.2.2.2 (pz_X f len 8 (X.2.1 + 1)) := r2
    by_cases h3 : Y.1 = -1
    · rw [if_pos h3, if_pos (r2.1.mp h3)]
      exact ⟨⟨rfl, r2.2.1, fun z => by cases z⟩, fun z => by cases z⟩
    · rw [if_neg h3, if_neg ((pz_f_of r2).2 h3)]
      obtain ⟨pp2, g, dp2, b1, b2, b3, b4, b5⟩ := e2 h3
      obtain ⟨j1, j2⟩ := cl_join (f := f) hn a4 b4
      refine ⟨⟨rfl, r2.2.1, fun _ => ?_⟩, fun _ => ⟨pp ++ cu_c f len X.2.1 :: pp2, ⟨_, _, pp, pp2, X.1, Y.1, h, dp, g, dp2, cu_c f len X.2.1, a1, b1, h2, ⟨a2, b2, a3, b3⟩, rfl, rfl⟩, j1, ?_⟩⟩
      · show ru_add Y.2.2.2 (cu_c f len X.2.1) 0 = ru_adds s.2.2 ((pz_X f len 8 s.1).2.2 ++ (pz_X f len 8 (X.2.1 + 1)).2.2 ++ [(cu_c f len X.2.1, 0)])
        rw [ru_adds_app, ru_adds_app, ← r1.2.2 (pz_no r1 h1), ← r2.2.2 (pz_no r2 h3)]; rfl
      · show kpt f Y.2.2.1 s.1 (Y.2.1 - s.1) = _
        rw [j2, a5, show f X.2.1 = cu_c f len X.2.1 from (if_pos hlt).symm]
        congr 2
  · rw [if_neg h2, if_neg h2]
    exact ⟨⟨rfl, rfl, fun z => by cases z⟩, fun z => by cases z⟩
theorem cl_conds (ht : mz_tx f len) (hl : len ≤ 300) : ∀ (m : Nat) (s : rs_S), cl_new s len → ¬ m = 0 → pb_rel (rs_conds f len m s) s.2.2 (pz_conds f len m s.1) ∧ ((rs_conds f len m s).1 = true → ∃ cs, cn_ok cs ∧ ¬ cs = [] ∧ cs.length ≤ m ∧ (pz_conds f len m s.1).2.2 = cn_steps cs ∧ cl_frb s (rs_conds f len m s) len ∧ kpt f (rs_conds f len m s).2.2.1 s.1 ((rs_conds f len m s).2.1 - s.1) = cn_text cs) := by
  intro m
  induction m with
  | zero => intro s _ h; exact absurd rfl h
  | succ m ih =>
    intro s hn _
    obtain ⟨r1, e1⟩ := cl_cond ht hl s hn
    unfold rs_conds pz_conds
    obtain ⟨X, eX⟩ : ∃ z, z = rs_cond f len s := ⟨_, rfl⟩
    rw [← eX] at r1 e1 ⊢
    rw [← r1.1, ← r1.2.1]
    by_cases h1 : X.1 = true
    · rw [if_pos h1, if_pos h1]
      obtain ⟨txt, a1, a2, a3⟩ := e1 h1
      by_cases h2 : cu_c f len X.2.1 = 44 ∧ ¬ m = 0
      · rw [if_pos h2, if_pos h2]
        have hlt : X.2.1 < len := mz_lt h2.1 (by decide)
        have hn2 := cl_after hn a2 hlt X.2.2.2
        obtain ⟨r2, e2⟩ := ih (X.2.1 + 1, X.2.2.1, X.2.2.2) hn2 h2.2
        obtain ⟨Y, eY⟩ : ∃ z, z = rs_conds f len m (X.2.1 + 1, X.2.2.1, X.2.2.2) := ⟨_, rfl⟩
        rw [← eY] at r2 e2 ⊢
        replace r2 : pb_rel Y X.2.2.2 (pz_conds f len m (X.2.1 + 1)) := r2
        refine ⟨⟨r2.1, r2.2.1, fun z => ?_⟩, fun z => ?_⟩
        · show Y.2.2.2 = ru_adds s.2.2 ((pz_cond f len s.1).2.2 ++ (pz_conds f len m (X.2.1 + 1)).2.2)
          rw [ru_adds_app, ← r1.2.2 (r1.1.symm.trans h1), r2.2.2 z]
        · obtain ⟨cs, c1, c2, c3, c4, c5, c6⟩ := e2 z
          obtain ⟨j1, j2⟩ := cl_join (f := f) (x := ((0 : Int32), X.2)) (x2 := ((0 : Int32), Y.2)) hn a2 c5
          refine ⟨((pz_cond f len s.1).2.2, txt) :: cs, ?_, (by intro q; cases q), by rw [List.length_cons]; omega, ?_, j1, ?_⟩
          · intro x hx
            rcases List.mem_cons.mp hx with rfl | hx
            · exact a1
            · exact c1 x hx
          · show (pz_cond f len s.1).2.2 ++ (pz_conds f len m (X.2.1 + 1)).2.2 = (pz_cond f len s.1).2.2 ++ cn_steps cs
            rw [← c4]
          · show kpt f Y.2.2.1 s.1 (Y.2.1 - s.1) = _
            have j3 : kpt f Y.2.2.1 s.1 (Y.2.1 - s.1) = kpt f X.2.2.1 s.1 (X.2.1 - s.1) ++ f X.2.1 :: kpt f Y.2.2.1 (X.2.1 + 1) (Y.2.1 - (X.2.1 + 1)) := j2
            rw [j3, a3, show f X.2.1 = cu_c f len X.2.1 from (if_pos hlt).symm, h2.1]
            cases cs with
            | nil => exact absurd rfl c2
            | cons y l =>
              show _ = txt ++ 44 :: cn_text (y :: l)
              rw [← c6]
      · rw [if_neg h2, if_neg h2]
        refine ⟨⟨rfl, rfl, fun _ => r1.2.2 (r1.1.symm.trans h1)⟩, fun _ => ⟨[((pz_cond f len s.1).2.2, txt)], fun x hx => by rw [List.mem_singleton.mp hx]; exact a1, (by intro q; cases q), by show 1 ≤ m + 1; omega, (List.append_nil _).symm, a2, a3⟩⟩
    · rw [if_neg h1, if_neg h1]
      exact ⟨⟨rfl, rfl, fun z => by cases z⟩, fun z => by cases z⟩
/-- a rule: its conditions -/
theorem cl_rule (ht : mz_tx f len) (hl : len ≤ 300) (s : rs_S) (hn : cl_new s len) : (rs_rule f len s).1 = (pz_rule f len s.1).1 ∧ (rs_rule f len s).2.1 = (pz_rule f len s.1).2.1 ∧ ((rs_rule f len s).1 = true → (rs_rule f len s).2.2.2 = ru_adds (ru_begin s.2.2 (cu_c f len s.1 - 48)) (pz_rule f len s.1).2.2 ∧ cu_isd (cu_c f len s.1) 10 ∧ s.1 + 1 < len ∧ ∃ cs, cn_ok cs ∧ cs.length ≤ 6 ∧ (pz_rule f len s.1).2.2 = cn_steps cs ∧ cl_frb s (rs_rule f len s) len ∧ kpt f (rs_rule f len s).2.2.1 s.1 ((rs_rule f len s).2.1 - s.1) = cu_c f len s.1 :: 58 :: cn_text cs) := by
  unfold rs_rule pz_rule
  by_cases hd : cu_isd (cu_c f len s.1) 10
  · rw [if_pos hd, if_pos hd]
    have hlt : s.1 < len := by
      by_cases z : s.1 < len
      · exact z
      · rw [show cu_c f len s.1 = 0 from if_neg z] at hd; exact absurd hd (by decide)
    by_cases h58 : cu_c f len (s.1 + 1) = 58
    · rw [if_pos h58, if_pos h58]
      have hlt2 := mz_lt h58 (by decide)
      have k2 : ∀ D : Nat → Int32, D s.1 = 0 → D (s.1 + 1) = 0 → ∀ n, kpt f D s.1 (2 + n) = cu_c f len s.1 :: 58 :: kpt f D (s.1 + 2) n := fun D q1 q2 n => by
        rw [show 2 + n = 1 + (1 + n) by omega, kpt_app, kpt_app, kpt_1 q1, kpt_1 q2, show f s.1 = cu_c f len s.1 from (if_pos hlt).symm, show f (s.1 + 1) = 58 from (show f (s.1 + 1) = cu_c f len (s.1 + 1) from (if_pos hlt2).symm).trans h58]; rfl
      by_cases hE : s.1 + 1 + 1 = len ∨ cu_c f len (s.1 + 1 + 1) = 59
      · rw [if_pos hE, if_pos hE]
        refine ⟨rfl, rfl, fun _ => ⟨rfl, hd, hlt2, [], fun x hx => (by cases hx), by decide, rfl, ⟨(by omega : s.1 < s.1 + 1 + 1), (by omega : s.1 + 1 + 1 ≤ len), fun _ _ => rfl⟩, ?_⟩⟩
        show kpt f s.2.1 s.1 (s.1 + 1 + 1 - s.1) = _
        rw [show s.1 + 1 + 1 - s.1 = 2 + 0 by omega, k2 _ (hn.2 _ (Nat.le_refl _) hlt) (hn.2 _ (by omega) hlt2)]; rfl
      · rw [if_neg hE, if_neg hE]
        have hn2 : cl_new (s.1 + 1 + 1, s.2.1, ru_begin s.2.2 (cu_c f len s.1 - 48)) len := ⟨(by omega : s.1 + 1 + 1 ≤ len), fun i hi hi2 => hn.2 i (by have : s.1 + 1 + 1 ≤ i := hi; omega) hi2⟩
        obtain ⟨r, e⟩ := cl_conds ht hl 6 (s.1 + 1 + 1, s.2.1, ru_begin s.2.2 (cu_c f len s.1 - 48)) hn2 (by decide)
        obtain ⟨X, eX⟩ : ∃ z, z = rs_conds f len 6 (s.1 + 1 + 1, s.2.1, ru_begin s.2.2 (cu_c f len s.1 - 48)) := ⟨_, rfl⟩
        rw [← eX] at r e ⊢
        replace r : pb_rel X (ru_begin s.2.2 (cu_c f len s.1 - 48)) (pz_conds f len 6 (s.1 + 1 + 1)) := r
        refine ⟨r.1, r.2.1, fun z => ⟨r.2.2 (r.1.symm.trans z), hd, hlt2, ?_⟩⟩
        obtain ⟨cs, c1, c2, c3, c4, ⟨c5, c6, c7⟩, c8⟩ := e z
        replace c5 : s.1 + 1 + 1 < X.2.1 := c5
        replace c7 : ∀ i, ¬ (s.1 + 1 + 1 ≤ i ∧ i < X.2.1) → X.2.2.1 i = s.2.1 i := c7
        refine ⟨cs, c1, c3, c4, ⟨(by omega : s.1 < X.2.1), c6, fun i hi => c7 i (fun q => hi ⟨by have := q.1; omega, q.2⟩)⟩, ?_⟩
        rw [show X.2.1 - s.1 = 2 + (X.2.1 - (s.1 + 1 + 1)) by omega, k2 _ (by rw [c7 s.1 (by omega)]; exact hn.2 _ (Nat.le_refl _) hlt) (by rw [c7 (s.1 + 1) (by omega)]; exact hn.2 _ (by omega) hlt2)]
        congr 2
    · rw [if_neg h58, if_neg h58]; exact ⟨rfl, rfl, fun z => by cases z⟩
  · rw [if_neg hd, if_neg hd]; exact ⟨rfl, rfl, fun z => by cases z⟩
/-- the rules T with the rules l behind -/
def ru_rules (T : ru_D) (l : List (Int32 × pz_P)) : ru_D := l.foldl (fun T x => ru_adds (ru_begin T x.1) x.2) T
/-- a rule's grade, steps and conditions -/
abbrev rl_L : Type := List (Int32 × cn_L)
def rl_ok (rs : rl_L) : Prop := ∀ x ∈ rs, cu_isd (48 + x.1) 10 ∧ cn_ok x.2 ∧ x.2.length ≤ 6
def rl_rules (rs : rl_L) : List (Int32 × pz_P) := rs.map (fun x => (x.1, cn_steps x.2))
def rl_text : rl_L → List Int32
  | [] => []
  | [x] => (48 + x.1) :: 58 :: cn_text x.2
  | x :: y :: l => (48 + x.1) :: 58 :: (cn_text x.2 ++ 59 :: rl_text (y :: l))
theorem cl_rules (ht : mz_tx f len) (hl : len ≤ 300) : ∀ (m : Nat) (s : rs_S), cl_new s len → (rs_rules f len m s).1 = (pz_rules f len m s.1).1 ∧ (rs_rules f len m s).2.1 = (pz_rules f len m s.1).2.1 ∧ ((rs_rules f len m s).1 = true → (rs_rules f len m s).2.2.2 = ru_rules s.2.2 (pz_rules f len m s.1).2.2 ∧ ∃ rs, rl_ok rs ∧ ¬ rs = [] ∧ rs.length ≤ m ∧ (pz_rules f len m s.1).2.2 = rl_rules rs ∧ (rs_rules f len m s).2.1 = len ∧ kpt f (rs_rules f len m s).2.2.1 s.1 (len - s.1) = rl_text rs ∧ ∀ i, ¬ (s.1 ≤ i ∧ i < len) → (rs_rules f len m s).2.2.1 i = s.2.1 i) := by
  intro m
  induction m with
  | zero => intro s _; exact ⟨rfl, rfl, fun z => by cases z⟩
  | succ m ih =>
    intro s hn
    obtain ⟨r1, r2, e1⟩ := cl_rule ht hl s hn
    unfold rs_rules pz_rules
    obtain ⟨X, eX⟩ : ∃ z, z = rs_rule f len s := ⟨_, rfl⟩
    rw [← eX] at r1 r2 e1 ⊢
    rw [← r1, ← r2]
    by_cases h1 : X.1 = true
    · rw [if_pos h1, if_pos h1]
      obtain ⟨t1, hd, hlt2, cs, c1, c2, c3, ⟨c4, c5, c6⟩, c7⟩ := e1 h1
      replace c4 : s.1 < X.2.1 := c4
      replace c5 : X.2.1 ≤ len := c5
      replace c6 : ∀ i, ¬ (s.1 ≤ i ∧ i < X.2.1) → X.2.2.1 i = s.2.1 i := c6
      have hg : (48 : Int32) + (cu_c f len s.1 - 48) = cu_c f len s.1 := pr_kk _
      by_cases h2 : X.2.1 = len
      · rw [if_pos h2, if_pos h2]
        refine ⟨rfl, h2, fun _ => ⟨t1, [(cu_c f len s.1 - 48, cs)], fun x hx => ?_, (by intro q; cases q), by show 1 ≤ m + 1; omega, ?_, h2, ?_, ?_⟩⟩
        · rw [List.mem_singleton.mp hx]; exact ⟨by rw [hg]; exact hd, c1, c2⟩
        · show [(cu_c f len s.1 - 48, (pz_rule f len s.1).2.2)] = [(cu_c f len s.1 - 48, cn_steps cs)]
          rw [c3]
        · show kpt f X.2.2.1 s.1 (len - s.1) = (48 + (cu_c f len s.1 - 48)) :: 58 :: cn_text cs
          rw [hg, show len - s.1 = X.2.1 - s.1 by rw [h2]]; exact c7
        · rw [← h2]; exact c6
      · rw [if_neg h2, if_neg h2]
        by_cases h3 : cu_c f len X.2.1 = 59 ∧ ¬ m = 0
        · rw [if_pos h3, if_pos h3]
          have hlt : X.2.1 < len := by omega
          have hn2 := cl_after (x := ((0 : Int32), X.2)) hn ⟨c4, c5, c6⟩ hlt X.2.2.2
          obtain ⟨k1, k2, k3⟩ := ih (X.2.1 + 1, X.2.2.1, X.2.2.2) hn2
          obtain ⟨Y, eY⟩ : ∃ z, z = rs_rules f len m (X.2.1 + 1, X.2.2.1, X.2.2.2) := ⟨_, rfl⟩
          rw [← eY] at k1 k2 k3 ⊢
          refine ⟨k1, k2, fun z => ?_⟩
          obtain ⟨t2, rs, d1, d2, d3, d4, d5, d6, d7⟩ := k3 z
          replace t2 : Y.2.2.2 = ru_rules X.2.2.2 (pz_rules f len m (X.2.1 + 1)).2.2 := t2
          replace d6 : kpt f Y.2.2.1 (X.2.1 + 1) (len - (X.2.1 + 1)) = rl_text rs := d6
          replace d7 : ∀ i, ¬ (X.2.1 + 1 ≤ i ∧ i < len) → Y.2.2.1 i = X.2.2.1 i := d7
          refine ⟨?_, (cu_c f len s.1 - 48, cs) :: rs, fun x hx => ?_, (by intro q; cases q), by rw [List.length_cons]; omega, ?_, d5, ?_, fun i hi => ?_⟩
          · show Y.2.2.2 = ru_rules (ru_adds (ru_begin s.2.2 (cu_c f len s.1 - 48)) (pz_rule f len s.1).2.2) (pz_rules f len m (X.2.1 + 1)).2.2
            rw [t2, t1]
          · rcases List.mem_cons.mp hx with rfl | hx
            · exact ⟨by rw [hg]; exact hd, c1, c2⟩
            · exact d1 x hx
          · show (cu_c f len s.1 - 48, (pz_rule f len s.1).2.2) :: (pz_rules f len m (X.2.1 + 1)).2.2 = (cu_c f len s.1 - 48, cn_steps cs) :: rl_rules rs
            rw [c3, ← d4]
          · cases rs with
            | nil => exact absurd rfl d2
            | cons y l =>
              show kpt f Y.2.2.1 s.1 (len - s.1) = (48 + (cu_c f len s.1 - 48)) :: 58 :: (cn_text cs ++ 59 :: rl_text (y :: l))
              rw [hg, ← d6, kpt_two (b := X.2.1) (by omega) (by omega), kpt_two (a := X.2.1) (b := X.2.1 + 1) (c := len) (by omega) (by omega), show X.2.1 + 1 - X.2.1 = 1 by omega]
              rw [kpt_1 (a := X.2.1) (by rw [d7 X.2.1 (by omega), c6 X.2.1 (by omega)]; exact hn.2 _ (by omega) hlt), kpt_eq (D := X.2.2.1) (X.2.1 - s.1) s.1 (fun i q1 q2 => d7 i (by omega)), c7, show f X.2.1 = 59 from (show f X.2.1 = cu_c f len X.2.1 from (if_pos hlt).symm).trans h3.1]
              rfl
          · rw [d7 i (by omega)]; exact c6 i (by omega)
        · rw [if_neg h3, if_neg h3]; exact ⟨rfl, rfl, fun z => by cases z⟩
    · rw [if_neg h1, if_neg h1]; exact ⟨rfl, rfl, fun z => by cases z⟩
end
