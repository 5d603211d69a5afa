/-! The walk along the printed rules grades as the steps do -/
section
variable {I : Nat → Int32} {F : Nat → Nat → Int32} {c : Nat} {f : Nat → Int32} {len : Nat}
/-- what may follow a condition -/
def nx (f : Nat → Int32) (len a : Nat) : Prop := cu_c f len a = 44 ∨ cu_c f len a = 59 ∨ cu_c f len a = 0
theorem nx_nd {a : Nat} (h : nx f len a) : nd f len a ∧ ¬ (cu_c f len a = 42 ∨ cu_c f len a = 47) ∧ ¬ (cu_c f len a = 43 ∨ cu_c f len a = 45) := by
  unfold nd
  rcases h with h | h | h <;> rw [h] <;> decide
theorem cmp_nd {a : Nat} {x : Int32} (h : cu_c f len a = x) (hx : eq_isc x) : nd f len a ∧ ¬ (cu_c f len a = 42 ∨ cu_c f len a = 47) ∧ ¬ (cu_c f len a = 43 ∨ cu_c f len a = 45) := by
  unfold nd
  rw [h]
  rcases hx with rfl | rfl | rfl | rfl <;> decide
theorem cn_wk (hl : len ≤ 300) {post : pz_P} {txt : List Int32} (h : Cn post txt) : ∃ b : Bool,
    (∀ (af of : Nat → Int32) (i m : Nat) (S : rk_S) (hd : Int32), gf_at af of i post → S.2 = 0 → (b = true → rk_hold I F c 0 af of (post.length + m) i S hd = rk_hold I F c 0 af of m (i + post.length) S (hd + 1)) ∧ (b = false → (rk_hold I F c 0 af of (post.length + m) i S hd).1 = false)) ∧
    (∀ a, a ≤ len → tx f len a txt → nx f len (a + txt.length) → (b = true → wk_cond f len (wk_X I F c f len 8) a = (true, a + txt.length, false)) ∧ (b = false → (wk_cond f len (wk_X I F c f len 8) a).1 = false ∧ a ≤ (wk_cond f len (wk_X I F c f len 8) a).2.1 ∧ (wk_cond f len (wk_X I F c f len 8) a).2.1 ≤ a + txt.length)) := by
  obtain ⟨p1, p2, q1, q2, s1, s2, h1, d1, h2, d2, x, e1, e2, hx, ⟨b1, b2, b3, b4⟩, e3, e4⟩ := h
  obtain ⟨r, i1, i2, i3, _, _⟩ := ex_wk (I := I) (F := F) (c := c) (f := f) hl e1
  obtain ⟨s, j1, j2, j3, _, _⟩ := ex_wk (I := I) (F := F) (c := c) (f := f) hl e2
  have hlen : post.length = p1.length + (p2.length + 1) := by rw [e3, List.length_append, List.length_append, List.length_singleton]; omega
  have tlen : txt.length = q1.length + (q2.length + 1) := by rw [e4, List.length_append, List.length_cons]
  -- the text of both sides
  have htx : ∀ a, a ≤ len → tx f len a txt → nx f len (a + txt.length) → tx f len a q1 ∧ cu_c f len (a + q1.length) = x ∧ a + q1.length < len ∧ tx f len (a + q1.length + 1) q2 ∧ nx f len (a + q1.length + 1 + q2.length) := by
    intro a _ ht hn
    rw [e4] at ht
    obtain ⟨t1, t2⟩ := tx_app ht
    obtain ⟨t3, t4, t5⟩ := tx_cons t2
    exact ⟨t1, t4, t3, t5, by rw [show a + q1.length + 1 + q2.length = a + txt.length by omega]; exact hn⟩
  have hgf : ∀ (af of : Nat → Int32) (i : Nat), gf_at af of i post → gf_at af of i p1 ∧ gf_at af of (i + p1.length) p2 ∧ af (i + p1.length + p2.length) = x := by
    intro af of i hg
    rw [e3] at hg
    obtain ⟨g1, g3⟩ := gf_app hg
    obtain ⟨g1, g2⟩ := gf_app g1
    rw [List.length_append] at g3
    have := g3 0 (by simp)
    rw [Nat.add_zero] at this
    exact ⟨g1, g2, by rw [Nat.add_assoc]; exact congrArg Prod.fst this⟩
  cases r with
  | none =>
    refine ⟨false, fun af of i m S hd hg hS => ⟨fun z => (by cases z), fun _ => ?_⟩, fun a ha ht hn => ⟨fun z => (by cases z), fun _ => ?_⟩⟩
    · obtain ⟨g1, g2, g3⟩ := hgf af of i hg
      rw [hlen, show p1.length + (p2.length + 1) + m = p1.length + (p2.length + 1 + m) by omega]
      exact ((i1 af of i _ S hd g1 (by omega)).2 rfl).1
    · obtain ⟨t1, t2, t3, t4, t5⟩ := htx a ha ht hn
      obtain ⟨n1, n2, n3⟩ := cmp_nd t2 hx
      obtain ⟨u1, u2, u3⟩ := (i3 8 b3 a ha t1 n1 n2).2 rfl
      unfold wk_cond
      rw [if_pos u1]
      exact ⟨rfl, u2, (by omega : (wk_X I F c f len 8 a).2.1 ≤ a + txt.length)⟩
  | some v =>
    have hw1 : ∀ a, a ≤ len → tx f len a q1 → cu_c f len (a + q1.length) = x → wk_X I F c f len 8 a = (v, a + q1.length, false) := by
      intro a ha t1 t2
      obtain ⟨n1, n2, n3⟩ := cmp_nd t2 hx
      obtain ⟨n, _, e⟩ := (i3 8 b3 a ha t1 n1 n2).1 v rfl
      rw [e, wk_El_n n3]
    cases s with
    | none =>
      refine ⟨false, fun af of i m S hd hg hS => ⟨fun z => (by cases z), fun _ => ?_⟩, fun a ha ht hn => ⟨fun z => (by cases z), fun _ => ?_⟩⟩
      · obtain ⟨g1, g2, g3⟩ := hgf af of i hg
        rw [hlen, show p1.length + (p2.length + 1) + m = p1.length + (p2.length + (1 + m)) by omega, (i1 af of i _ S hd g1 (by omega)).1 v rfl]
        exact ((j1 af of _ _ _ hd g2 (by rw [(rk_pp S v (by omega)).1]; omega)).2 rfl).1
      · obtain ⟨t1, t2, t3, t4, t5⟩ := htx a ha ht hn
        obtain ⟨n1, n2, n3⟩ := nx_nd t5
        obtain ⟨u1, u2, u3⟩ := (j3 8 b4 (a + q1.length + 1) (by omega) t4 n1 n2).2 rfl
        have ec : wk_cond f len (wk_X I F c f len 8) a = (false, (wk_X I F c f len 8 (a + q1.length + 1)).2.1, true) := by
          unfold wk_cond
          rw [hw1 a ha t1 t2, if_neg (show ¬ (v, a + q1.length, false).2.2 = true from fun z => Bool.false_ne_true z)]
          show (if (wk_X I F c f len 8 (a + q1.length + 1)).2.2 = true then ((false, (wk_X I F c f len 8 (a + q1.length + 1)).2.1, true) : Bool × Nat × Bool) else _) = _
          rw [if_pos u1]
        rw [ec]
        exact ⟨rfl, (by omega : a ≤ (wk_X I F c f len 8 (a + q1.length + 1)).2.1), (by omega : (wk_X I F c f len 8 (a + q1.length + 1)).2.1 ≤ a + txt.length)⟩
    | some w =>
      have hwk : ∀ a, a ≤ len → tx f len a txt → nx f len (a + txt.length) → wk_cond f len (wk_X I F c f len 8) a = (rk_cmp x v w, a + txt.length, false) := by
        intro a ha ht hn
        obtain ⟨t1, t2, t3, t4, t5⟩ := htx a ha ht hn
        obtain ⟨n1, n2, n3⟩ := nx_nd t5
        obtain ⟨n, _, e⟩ := (j3 8 b4 (a + q1.length + 1) (by omega) t4 n1 n2).1 w rfl
        rw [wk_El_n n3] at e
        unfold wk_cond
        rw [hw1 a ha t1 t2, if_neg (show ¬ (v, a + q1.length, false).2.2 = true from fun z => Bool.false_ne_true z)]
        show (if (wk_X I F c f len 8 (a + q1.length + 1)).2.2 = true then _ else (rk_cmp (cu_c f len (a + q1.length)) v (wk_X I F c f len 8 (a + q1.length + 1)).1, (wk_X I F c f len 8 (a + q1.length + 1)).2.1, false)) = _
        rw [e, if_neg (show ¬ (w, a + q1.length + 1 + q2.length, false).2.2 = true from fun z => Bool.false_ne_true z), t2, show a + txt.length = a + q1.length + 1 + q2.length by omega]
      refine ⟨rk_cmp x v w, fun af of i m S hd hg hS => ?_, fun a ha ht hn => ?_⟩
      · obtain ⟨g1, g2, g3⟩ := hgf af of i hg
        rw [hlen, show p1.length + (p2.length + 1) + m = p1.length + (p2.length + (m + 1)) by omega, (i1 af of i _ S hd g1 (by omega)).1 v rfl, (j1 af of _ _ _ hd g2 (by rw [(rk_pp S v (by omega)).1]; omega)).1 w rfl]
        obtain ⟨a1, a2, a3⟩ := rk_pp S v (by omega)
        obtain ⟨c1, c2, c3⟩ := rk_pp (rk_push S v) w (by rw [a1]; omega)
        have t1 : rk_top (rk_drop (rk_push (rk_push S v) w)) = v := (rk_eqv_top c3).trans a2
        refine ⟨fun hb => ?_, fun hb => ?_⟩
        · rw [rk_hold_c (by rw [g3]; exact hx) (by rw [g3, t1, c2]; exact hb), show i + p1.length + p2.length + 1 = i + (p1.length + (p2.length + 1)) by omega]
          refine rk_eqv_hold _ _ _ _ _ ?_
          have := rk_eqv_drop c3
          exact ⟨this.1.trans a3.1, fun j hj => (this.2 j hj).trans (a3.2 j (by have z := this.1; omega))⟩
        · rw [rk_hold_cf (by rw [g3]; exact hx) (by rw [g3, t1, c2, hb]; decide)]
      · rw [hwk a ha ht hn]
        refine ⟨fun hb => by rw [hb], fun hb => ⟨hb, (by omega : a ≤ a + txt.length), Nat.le_refl _⟩⟩
/-- the end of a rule -/
def nr (f : Nat → Int32) (len a : Nat) : Prop := a = len ∨ (a < len ∧ cu_c f len a = 59)
theorem nr_nx {a : Nat} (h : nr f len a) : nx f len a ∧ ¬ cu_c f len a = 44 := by
  rcases h with h | h
  · have e : cu_c f len a = 0 := if_neg (by omega)
    exact ⟨Or.inr (Or.inr e), by rw [e]; decide⟩
  · exact ⟨Or.inr (Or.inl h.2), by rw [h.2]; decide⟩
theorem cs_wk (hl : len ≤ 300) : ∀ (cs : cn_L), cn_ok cs → ∃ B : Bool,
    (∀ (af of : Nat → Int32) (i : Nat) (S : rk_S) (hd : Int32), gf_at af of i (cn_steps cs) → S.2 = 0 → (rk_hold I F c 0 af of (cn_steps cs).length i S hd).1 = B) ∧ (cs = [] → B = true) ∧
    (¬ cs = [] → ∀ m a, cs.length ≤ m → a ≤ len → tx f len a (cn_text cs) → nr f len (a + (cn_text cs).length) → (wk_conds f len (wk_X I F c f len 8) m a).1 = B ∧ a ≤ (wk_conds f len (wk_X I F c f len 8) m a).2 ∧ (wk_conds f len (wk_X I F c f len 8) m a).2 ≤ a + (cn_text cs).length) := by
  intro cs
  induction cs with
  | nil => intro _; exact ⟨true, fun _ _ _ _ _ _ _ => rfl, fun _ => rfl, fun z => absurd rfl z⟩
  | cons x cs ih =>
    intro hok
    obtain ⟨b, k1, k2⟩ := cn_wk (I := I) (F := F) (c := c) (f := f) hl (hok x List.mem_cons_self)
    obtain ⟨B, l1, l0, l2⟩ := ih (fun y hy => hok y (List.mem_cons_of_mem _ hy))
    refine ⟨b && B, fun af of i S hd hg hS => ?_, fun z => (by cases z), fun _ m a hm ha ht hn => ?_⟩
    · obtain ⟨g1, g2⟩ := gf_app (show gf_at af of i (x.1 ++ cn_steps cs) from hg)
      show (rk_hold I F c 0 af of (x.1 ++ cn_steps cs).length i S hd).1 = _
      rw [List.length_append]
      obtain ⟨m1, m2⟩ := k1 af of i (cn_steps cs).length S hd g1 hS
      cases b with
      | true => rw [m1 rfl, Bool.true_and]; exact l1 af of _ S _ g2 hS
      | false => rw [Bool.false_and]; exact m2 rfl
    · rw [List.length_cons] at hm
      obtain ⟨m', rfl⟩ : ∃ z, m = z + 1 := ⟨m - 1, by omega⟩
      cases hcs : cs with
      | nil =>
        rw [hcs] at ht hn
        have hB : B = true := l0 hcs
        obtain ⟨n1, n2⟩ := nr_nx hn
        obtain ⟨w1, w2⟩ := k2 a ha ht n1
        unfold wk_conds
        cases b with
        | true =>
          rw [w1 rfl, if_pos rfl, if_neg (show ¬ cu_c f len (true, a + x.2.length, false).2.1 = 44 from n2), hB]
          exact ⟨rfl, (by omega : a ≤ a + x.2.length), Nat.le_refl _⟩
        | false =>
          obtain ⟨v1, v2, v3⟩ := w2 rfl
          rw [if_neg (by rw [v1]; decide)]
          exact ⟨rfl, v2, v3⟩
      | cons y l =>
        rw [hcs] at ht hn
        obtain ⟨t1, t2⟩ := tx_app (show tx f len a (x.2 ++ 44 :: cn_text (y :: l)) from ht)
        obtain ⟨t3, t4, t5⟩ := tx_cons t2
        have el : (cn_text (x :: y :: l)).length = x.2.length + (1 + (cn_text (y :: l)).length) := by show (x.2 ++ 44 :: cn_text (y :: l)).length = _; rw [List.length_append, List.length_cons]; omega
        rw [el] at hn ⊢
        obtain ⟨w1, w2⟩ := k2 a ha t1 (Or.inl t4)
        have l2' := l2 (by rw [hcs]; intro q; cases q)
        rw [hcs] at l2'
        obtain ⟨z1, z2, z3⟩ := l2' m' (a + x.2.length + 1) (by rw [← hcs]; omega) (by omega) t5 (by rw [show a + x.2.length + 1 + (cn_text (y :: l)).length = a + (x.2.length + (1 + (cn_text (y :: l)).length)) by omega]; exact hn)
        unfold wk_conds
        cases b with
        | true =>
          rw [w1 rfl, if_pos rfl, if_pos t4, Bool.true_and]
          exact ⟨z1, (by omega : a ≤ (wk_conds f len (wk_X I F c f len 8) m' (a + x.2.length + 1)).2), (by omega : (wk_conds f len (wk_X I F c f len 8) m' (a + x.2.length + 1)).2 ≤ a + (x.2.length + (1 + (cn_text (y :: l)).length)))⟩
        | false =>
          obtain ⟨v1, v2, v3⟩ := w2 rfl
          rw [if_neg (by rw [v1]; decide)]
          exact ⟨rfl, v2, (by omega : (wk_cond f len (wk_X I F c f len 8) a).2.1 ≤ a + (x.2.length + (1 + (cn_text (y :: l)).length)))⟩
theorem wk_skip_to {E : Nat} (hE : nr f len E) : ∀ (m p : Nat), p ≤ E → E ≤ p + m → (∀ i, p ≤ i → i < E → i < len ∧ ¬ cu_c f len i = 59) → wk_skip f len m p = E := by
  intro m
  induction m with
  | zero => intro p h1 h2 _; show p = E; omega
  | succ m ih =>
    intro p h1 h2 h3
    unfold wk_skip
    by_cases z : p = E
    · subst z
      rcases hE with q | q
      · rw [if_neg (by omega)]
      · rw [if_pos q.1, if_pos q.2]
    · obtain ⟨a1, a2⟩ := h3 p (Nat.le_refl _) (by omega)
      rw [if_pos a1, if_neg a2]
      exact ih (p + 1) (by omega) (by omega) (fun i q1 q2 => h3 i (by omega) q2)
theorem cn_ch {cs : cn_L} (h : cn_ok cs) : ∀ x ∈ cn_text cs, ¬ x = 59 := by
  induction cs with
  | nil => intro x hx; cases hx
  | cons k cs ih =>
    have hk : ∀ x ∈ k.2, ¬ x = 59 := by
      obtain ⟨p1, p2, q1, q2, s1, s2, h1, d1, h2, d2, y, e1, e2, hy, _, e3, e4⟩ := h k List.mem_cons_self
      intro x hx
      rw [e4] at hx
      rcases List.mem_append.mp hx with z | z
      · exact ((ex_ch e1).1 x z).1
      · rcases List.mem_cons.mp z with rfl | z
        · rcases hy with rfl | rfl | rfl | rfl <;> decide
        · exact ((ex_ch e2).1 x z).1
    cases cs with
    | nil => exact hk
    | cons y l =>
      intro x hx
      rcases List.mem_append.mp (show x ∈ k.2 ++ 44 :: cn_text (y :: l) from hx) with z | z
      · exact hk x z
      · rcases List.mem_cons.mp z with rfl | z
        · decide
        · exact ih (fun w hw => h w (List.mem_cons_of_mem _ hw)) x z
theorem cn_ne {k : pz_P × List Int32} {cs : cn_L} (h : cn_ok (k :: cs)) : 1 ≤ (cn_text (k :: cs)).length := by
  have hk : 1 ≤ k.2.length := by
    obtain ⟨p1, p2, q1, q2, s1, s2, h1, d1, h2, d2, y, e1, e2, hy, _, e3, e4⟩ := h k List.mem_cons_self
    rw [e4, List.length_append, List.length_cons]; omega
  cases cs with
  | nil => exact hk
  | cons y l => show 1 ≤ (k.2 ++ 44 :: cn_text (y :: l)).length; rw [List.length_append]; omega
/-- a rule -/
theorem rl_wk (hl : len ≤ 300) {cs : cn_L} (hok : cn_ok cs) (h6 : cs.length ≤ 6) : ∃ B : Bool,
    (∀ (af of : Nat → Int32) (i : Nat) (S : rk_S) (hd : Int32), gf_at af of i (cn_steps cs) → S.2 = 0 → (rk_hold I F c 0 af of (cn_steps cs).length i S hd).1 = B) ∧
    ∀ (a : Nat) (g : Int32), a ≤ len → tx f len a (g :: 58 :: cn_text cs) → nr f len (a + 2 + (cn_text cs).length) → wk_rule f len (wk_X I F c f len 8) a = (B, a + 2 + (cn_text cs).length + 1) := by
  obtain ⟨B, l1, l0, l2⟩ := cs_wk (I := I) (F := F) (c := c) (f := f) hl cs hok
  refine ⟨B, l1, fun a g ha ht hn => ?_⟩
  obtain ⟨t1, t2, t3⟩ := tx_cons ht
  obtain ⟨t4, t5, t6⟩ := tx_cons t3
  replace t6 : tx f len (a + 2) (cn_text cs) := t6
  have hE : a + 2 + (cn_text cs).length ≤ len := tx_le t6 (by omega)
  have hin : ∀ i, a + 2 ≤ i → i < a + 2 + (cn_text cs).length → i < len ∧ ¬ cu_c f len i = 59 := by
    intro i q1 q2
    have := t6 (i - (a + 2)) (by omega)
    rw [show a + 2 + (i - (a + 2)) = i by omega] at this
    refine ⟨this.1, ?_⟩
    rw [show cu_c f len i = f i from if_pos this.1, this.2]
    refine cn_ch hok _ ?_
    unfold gl
    rw [List.getD_eq_getElem?_getD, List.getElem?_eq_getElem (by omega)]
    exact List.getElem_mem _
  unfold wk_rule
  cases hcs : cs with
  | nil =>
    rw [hcs] at hn
    rw [l0 hcs]
    rw [if_pos (by
      rcases hn with q | q
      · exact Or.inl (by rw [← q]; show a + 2 + 0 ≤ a + 2; omega)
      · exact Or.inr q.2)]
    rw [wk_skip_to hn 300 (a + 2) (by omega) (by show a + 2 + 0 ≤ _; omega) (fun i q1 q2 => absurd q2 (by show ¬ i < a + 2 + 0; omega))]
  | cons k l =>
    have hne := cn_ne (by rw [← hcs]; exact hok : cn_ok (k :: l))
    rw [← hcs] at hne ⊢
    have h0 := hin (a + 2) (Nat.le_refl _) (by omega)
    rw [if_neg (by rintro (q | q); omega; exact h0.2 q)]
    obtain ⟨z1, z2, z3⟩ := l2 (by rw [hcs]; intro q; cases q) 6 (a + 2) h6 (by omega) t6 hn
    rw [z1, wk_skip_to hn 300 _ z3 (by omega) (fun i q1 q2 => hin i (by omega) q2)]
/-- all rules: the walk and the steps give one grade -/
theorem rl_walk (hl : len ≤ 300) {T : ru_D} {gr : Nat → Int32} : ∀ (rs : rl_L) (r k a : Nat), rl_ok rs → tl_dl (ru_b T) (ru_g T) r k (rl_rules rs) → gf_at (ru_a T) (ru_o T) k (pz_all (rl_rules rs)) → (∀ i, r ≤ i → i < r + rs.length → gr i = ru_g T i) → (¬ rs = [] → a ≤ len ∧ tx f len a (rl_text rs) ∧ a + (rl_text rs).length = len) → gt_walk f len (wk_X I F c f len 8) gr rs.length r a = rz_gr I F c T 0 rs.length r := by
  intro rs
  induction rs with
  | nil => intro r k a _ _ _ _ _; rfl
  | cons x rs ih =>
    intro r k a hok hd hgf hgr ht
    obtain ⟨ha, hx, hlen⟩ := ht (by intro q; cases q)
    obtain ⟨o1, o2, o3⟩ := hok x List.mem_cons_self
    obtain ⟨B, k1, k2⟩ := rl_wk (I := I) (F := F) (c := c) (f := f) hl o2 o3
    have hd2 : ru_b T r = k := hd.2.1
    have hd3 : tl_dl (ru_b T) (ru_g T) (r + 1) (k + (cn_steps x.2).length) (rl_rules rs) := hd.2.2
    have hb1 : ru_b T (r + 1) = k + (cn_steps x.2).length := by
      cases rs with
      | nil => exact hd3
      | cons y l => exact hd3.2.1
    obtain ⟨g1, g2⟩ := gf_app (show gf_at (ru_a T) (ru_o T) k (cn_steps x.2 ++ pz_all (rl_rules rs)) from hgf)
    have hrk : (rk_rule I F c 0 T r).1 = B := by
      unfold rk_rule
      rw [hb1, hd2, show k + (cn_steps x.2).length - k = (cn_steps x.2).length by omega]
      exact k1 _ _ _ _ _ g1 rfl
    have hwk : wk_rule f len (wk_X I F c f len 8) a = (B, a + 2 + (cn_text x.2).length + 1) ∧ (¬ rs = [] → a + 2 + (cn_text x.2).length + 1 ≤ len ∧ tx f len (a + 2 + (cn_text x.2).length + 1) (rl_text rs) ∧ a + 2 + (cn_text x.2).length + 1 + (rl_text rs).length = len) := by
      cases rs with
      | nil =>
        refine ⟨k2 a (48 + x.1) ha hx (Or.inl ?_), fun z => absurd rfl z⟩
        rw [← hlen]; show a + 2 + (cn_text x.2).length = a + ((cn_text x.2).length + 1 + 1); omega
      | cons y l =>
        have hx' : tx f len a (((48 + x.1) :: 58 :: cn_text x.2) ++ 59 :: rl_text (y :: l)) := hx
        obtain ⟨t1, t2⟩ := tx_app hx'
        obtain ⟨t3, t4, t5⟩ := tx_cons t2
        have e1 : a + ((48 + x.1) :: 58 :: cn_text x.2).length = a + 2 + (cn_text x.2).length := by rw [List.length_cons, List.length_cons]; omega
        rw [e1] at t3 t4 t5
        have e2 : (rl_text (x :: y :: l)).length = (cn_text x.2).length + 3 + (rl_text (y :: l)).length := by show ((48 + x.1) :: 58 :: (cn_text x.2 ++ 59 :: rl_text (y :: l))).length = _; rw [List.length_cons, List.length_cons, List.length_append, List.length_cons]; omega
        exact ⟨k2 a (48 + x.1) ha t1 (Or.inr ⟨t3, t4⟩), fun _ => ⟨by omega, t5, by omega⟩⟩
    show (if (wk_rule f len (wk_X I F c f len 8) a).1 = true then gr r else gt_walk f len (wk_X I F c f len 8) gr rs.length (r + 1) (wk_rule f len (wk_X I F c f len 8) a).2) = (if (rk_rule I F c 0 T r).1 = true then ru_g T r else rz_gr I F c T 0 rs.length (r + 1))
    rw [hwk.1, hrk, hgr r (Nat.le_refl _) (by rw [List.length_cons]; omega)]
    rw [ih (r + 1) (k + (cn_steps x.2).length) (a + 2 + (cn_text x.2).length + 1) (fun y hy => hok y (List.mem_cons_of_mem _ hy)) hd3 g2 (fun i q1 q2 => hgr i (by omega) (by rw [List.length_cons]; omega)) hwk.2]
end
