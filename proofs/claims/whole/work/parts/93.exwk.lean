/-! The walker finds the value that the steps make -/
theorem dg_t_v : ∀ l : List Nat, dg_v (dg_t l) = dg_v l ∧ (dg_t l).length ≤ l.length ∧ (dg_ok l → dg_ok (dg_t l)) ∧ (¬ l = [] → ¬ dg_t l = []) := by
  intro l
  induction l with
  | nil => exact ⟨rfl, Nat.le_refl _, id, id⟩
  | cons d l ih =>
    cases l with
    | nil => exact ⟨rfl, Nat.le_refl _, id, id⟩
    | cons e l =>
      by_cases z : d = 0
      · rw [show dg_t (d :: e :: l) = dg_t (e :: l) from if_pos z]
        obtain ⟨i1, i2, i3, i4⟩ := ih
        refine ⟨by rw [i1]; show _ = d * _ + dg_v (e :: l); rw [z, Nat.zero_mul, Nat.zero_add], by rw [List.length_cons]; omega, fun h => i3 (fun x hx => h x (List.mem_cons_of_mem _ hx)), fun _ => i4 (by intro q; cases q)⟩
      · rw [show dg_t (d :: e :: l) = d :: e :: l from if_neg z]; exact ⟨rfl, Nat.le_refl _, id, id⟩
section
variable {I : Nat → Int32} {F : Nat → Nat → Int32} {c : Nat} {f : Nat → Int32} {len : Nat}
theorem dg_ch {d : Nat} (h : d < 10) : ¬ nI (48 + d) < 48 ∧ ¬ 57 < nI (48 + d) ∧ nI (48 + d) - 48 = nI d := by
  refine ⟨nI_nlt (b := 48) (by omega) (by omega), nI_nlt (a := 57) (b := 48 + d) (by omega) (by decide), ?_⟩
  rw [show (48 : Int32) = nI 48 from rfl, nI_subL (by omega), show 48 + d - 48 = d by omega]
theorem cu_num_tx : ∀ (l2 : List Nat) (m a : Nat) (l0 : List Nat), dg_ok l2 → tx f len a (dg_c l2) → l2.length ≤ m → nd f len (a + l2.length) → cu_num f len m a (nI (dg_v l0)) = (nI (dg_v (l0 ++ l2)), a + l2.length) := by
  intro l2
  induction l2 with
  | nil =>
    intro m a l0 _ _ _ hn
    rw [List.append_nil]
    cases m with
    | zero => rfl
    | succ m =>
      show (if cu_c f len a < 48 then _ else if 57 < cu_c f len a then _ else _) = _
      by_cases z : cu_c f len a < 48
      · rw [if_pos z]; rfl
      · rw [if_neg z, if_pos (show 57 < cu_c f len a from Classical.byContradiction fun q => hn ⟨z, q⟩)]; rfl
  | cons d l2 ih =>
    intro m a l0 hok ht hm hn
    obtain ⟨t1, t2, t3⟩ := tx_cons (show tx f len a (nI (48 + d) :: dg_c l2) from ht)
    obtain ⟨c1, c2, c3⟩ := dg_ch (hok d List.mem_cons_self)
    rw [List.length_cons] at hm hn
    obtain ⟨m', rfl⟩ : ∃ z, m = z + 1 := ⟨m - 1, by omega⟩
    show (if cu_c f len a < 48 then _ else if 57 < cu_c f len a then _ else cu_num f len m' (a + 1) (nI (dg_v l0) * 10 + (cu_c f len a - 48))) = _
    rw [t2, if_neg c1, if_neg c2, c3, show nI (dg_v l0) * 10 + nI d = nI (dg_v (l0 ++ [d])) from by rw [dg_v_app, show (10 : Int32) = nI 10 from rfl, nI_mul, nI_add], ih m' (a + 1) (l0 ++ [d]) (fun x hx => hok x (List.mem_cons_of_mem _ hx)) t3 (by omega) (by rw [show a + 1 + l2.length = a + (l2.length + 1) by omega]; exact hn), List.append_assoc, List.length_cons, show a + 1 + l2.length = a + (l2.length + 1) by omega]
    rfl
theorem wbk_b (k a : Nat) (h : ¬ cu_c f len a = 40) : wbk I F c f len k a = (if ¬ cu_c f len a < 48 ∧ ¬ 57 < cu_c f len a then ((cu_num f len 6 a 0).1.toInt64, (cu_num f len 6 a 0).2, false)
  else if cu_c f len a = 108 ∨ cu_c f len a = 119 ∨ cu_c f len a = 116 then (pl_measure I F (cu_c f len a) 0 0 c, a + 1, false)
  else if cu_isd (cu_c f len (a + 1)) 8 then (pl_measure I F (cu_c f len a) (cu_c f len (a + 1) - 48) 0 c, a + 1 + 1, false)
  else (pl_measure I F (cu_c f len a) (-1) 0 c, a + 1, false)) := by
  cases k with
  | zero => show (if cu_c f len a = 40 then _ else _) = _; rw [if_neg h]
  | succ k => show (if cu_c f len a = 40 then _ else _) = _; rw [if_neg h]
def WK (I : Nat → Int32) (F : Nat → Nat → Int32) (c : Nat) (f : Nat → Int32) (len : Nat) (p : pz_P) (q : List Int32) (sh : Int32) (ht dp : Nat) : Prop := ∃ r : Option Int64, RK I F c 0 p ht r ∧ 1 ≤ ht ∧ (∀ k, dp ≤ k → ER I F c f len k q r) ∧ (¬ sh = 2 → ∀ k, dp ≤ k → TR I F c f len k q r) ∧ (sh = 0 → ∀ k, dp ≤ k → FR I F c f len k q r)
theorem WK_F {p : pz_P} {q : List Int32} {ht dp : Nat} (hl : len ≤ 300) {r : Option Int64} (h1 : RK I F c 0 p ht r) (h2 : 1 ≤ ht) (h3 : ∀ k, dp ≤ k → FR I F c f len k q r) : WK I F c f len p q 0 ht dp := ⟨r, h1, h2, fun k hk => ER_T (TR_F hl (h3 k hk)), fun _ k hk => TR_F hl (h3 k hk), fun _ => h3⟩
theorem FR_w {q : List Int32} {sh : Int32} {dp : Nat} {r : Option Int64} (h1 : ∀ k, dp ≤ k → ER I F c f len k q r) (h2 : sh = 0 → ∀ k, dp ≤ k → FR I F c f len k q r) (k : Nat) (hk : ex_d (¬ sh = 0) dp ≤ k) : FR I F c f len k (pr_wr (¬ sh = 0) q) r := by
  unfold ex_d at hk
  unfold pr_wr
  by_cases z : sh = 0
  · rw [if_neg (fun y => y z)] at hk ⊢; exact h2 z k hk
  · rw [if_pos z] at hk ⊢
    obtain ⟨k', rfl⟩ : ∃ w, k = w + 1 := ⟨k - 1, by omega⟩
    exact FR_par (h1 k' (by omega))
theorem TR_w {q : List Int32} {sh : Int32} {dp : Nat} {r : Option Int64} (hl : len ≤ 300) (h1 : ∀ k, dp ≤ k → ER I F c f len k q r) (h2 : ¬ sh = 2 → ∀ k, dp ≤ k → TR I F c f len k q r) (k : Nat) (hk : ex_d (sh = 2) dp ≤ k) : TR I F c f len k (pr_wr (sh = 2) q) r := by
  unfold ex_d at hk
  unfold pr_wr
  by_cases z : sh = 2
  · rw [if_pos z] at hk ⊢
    obtain ⟨k', rfl⟩ : ∃ w, k = w + 1 := ⟨k - 1, by omega⟩
    exact TR_F hl (FR_par (h1 k' (by omega)))
  · rw [if_neg z] at hk ⊢; exact h2 z k hk
theorem ex_wk (hl : len ≤ 300) {p : pz_P} {q : List Int32} {sh : Int32} {ht dp : Nat} (e : Ex p q sh ht dp) : WK I F c f len p q sh ht dp := by
  refine e (WK I F c f len) ?_ ?_ ?_ ?_ ?_ ?_ ?_
  · intro l h1 h2 h3
    obtain ⟨d1, d2, d3, d4⟩ := dg_t_v l
    refine WK_F hl (RK_atom (k := 35) (a := nI (dg_v l)) (v := (nI (dg_v l)).toInt64) (by decide) (fun S => rfl)) (Nat.le_refl _) (fun k _ => FR_core (fun a ha hx hn => ?_))
    rw [show (dg_c (dg_t l)).length = (dg_t l).length from List.length_map _] at hn ⊢
    obtain ⟨d, l', hd⟩ : ∃ d l', dg_t l = d :: l' := by
      cases hh : dg_t l with
      | nil => exact absurd hh (d4 h2)
      | cons d l' => exact ⟨d, l', rfl⟩
    have hx2 := hx
    rw [hd] at hx2
    obtain ⟨t1, t2, t3⟩ := tx_cons (show tx f len a (nI (48 + d) :: dg_c l') from hx2)
    have hd10 : d < 10 := d3 h1 d (by rw [hd]; exact List.mem_cons_self)
    obtain ⟨c1, c2, _⟩ := dg_ch hd10
    have n40 : ¬ cu_c f len a = 40 := fun z => c1 (by rw [← t2, z]; decide)
    refine ⟨by rw [t2]; rintro (z | z | z) <;> first | exact c1 (by rw [z]; decide) | exact c2 (by rw [z]; decide), ?_⟩
    rw [wbk_b k a n40, if_pos (by rw [t2]; exact ⟨c1, c2⟩)]
    have en := cu_num_tx (dg_t l) 6 a [] (d3 h1) hx (by omega) hn
    rw [show nI (dg_v []) = 0 from rfl, List.nil_append, d1] at en
    rw [en]
    exact ⟨fun v ev => by rw [← Option.some.inj ev], fun z => by cases z⟩
  · intro x hx
    obtain ⟨_, g, _⟩ := pz_v_let (k := 0) (Or.inl hx)
    refine WK_F hl (RK_atom (k := x) (a := 0) (v := pl_measure I F x 0 0 c) (by rcases hx with rfl | rfl | rfl <;> decide) (fun S => by rcases hx with rfl | rfl | rfl <;> rfl)) (Nat.le_refl _) (fun k _ => FR_core (fun a ha ht hn => ?_))
    obtain ⟨t1, t2, _⟩ := tx_cons ht
    refine ⟨by rw [t2]; rcases hx with rfl | rfl | rfl <;> decide, ?_⟩
    rw [wbk_b k a (by rw [t2]; rcases hx with rfl | rfl | rfl <;> decide), t2, if_neg (by rcases hx with rfl | rfl | rfl <;> decide), if_pos hx]
    exact ⟨fun v ev => by rw [← Option.some.inj ev]; rfl, fun z => by cases z⟩
  · intro x y hx hy _
    refine WK_F hl (RK_atom (k := x) (a := y - 48) (v := pl_measure I F x (y - 48) 0 c) (by rcases hx with rfl | rfl | rfl | rfl <;> decide) (fun S => by rcases hx with rfl | rfl | rfl | rfl <;> rfl)) (Nat.le_refl _) (fun k _ => FR_core (fun a ha ht hn => ?_))
    obtain ⟨t1, t2, t3⟩ := tx_cons ht
    obtain ⟨t4, t5, _⟩ := tx_cons t3
    refine ⟨by rw [t2]; rcases hx with rfl | rfl | rfl | rfl <;> decide, ?_⟩
    rw [wbk_b k a (by rw [t2]; rcases hx with rfl | rfl | rfl | rfl <;> decide), t2, if_neg (by rcases hx with rfl | rfl | rfl | rfl <;> decide), if_neg (by rcases hx with rfl | rfl | rfl | rfl <;> decide), t5, if_pos hy]
    exact ⟨fun v ev => by rw [← Option.some.inj ev]; rfl, fun z => by cases z⟩
  · intro x p q sh ht dp hx ih
    obtain ⟨r, i1, i2, i3, i4, i5⟩ := ih
    refine WK_F hl (RK_un (x := (x, 0)) (by rcases hx with rfl | rfl; exact Or.inl rfl; exact Or.inr (Or.inl rfl)) i2 i1) i2 (fun k hk => ?_)
    exact FR_un x hx (FR_w i3 i5 k hk)
  · intro x p q sh ht dp hx _ ih
    obtain ⟨r, i1, i2, i3, i4, i5⟩ := ih
    refine WK_F hl (RK_un (x := (99, x - 48)) (Or.inr (Or.inr rfl)) i2 i1) i2 (fun k hk => ?_)
    exact FR_cc x hx (FR_w i3 i5 k hk)
  · intro x p1 q1 sh1 ht1 dp1 p2 q2 sh2 ht2 dp2 hx ih1 ih2
    obtain ⟨r, i1, i2, i3, i4, i5⟩ := ih1
    obtain ⟨s, j1, j2, j3, j4, j5⟩ := ih2
    have ht : ∀ k, max (ex_d (sh1 = 2) dp1) (ex_d (¬ sh2 = 0) dp2) ≤ k → TR I F c f len k (pr_wr (sh1 = 2) q1 ++ x :: pr_wr (¬ sh2 = 0) q2) (r.bind (fun v => s.bind (fun w => ev_bin x v w))) := fun k hk => TR_mul hl hx (TR_w hl i3 i4 k (by omega)) (FR_w j3 j5 k (by omega))
    exact ⟨_, RK_bin (hx.elim Or.inl (fun z => Or.inr (Or.inl z))) i1 j1 i2 j2, by omega, fun k hk => ER_T (ht k hk), fun _ => ht, fun z => absurd z (by decide)⟩
  · intro x p1 q1 sh1 ht1 dp1 p2 q2 sh2 ht2 dp2 hx ih1 ih2
    obtain ⟨r, i1, i2, i3, i4, i5⟩ := ih1
    obtain ⟨s, j1, j2, j3, j4, j5⟩ := ih2
    exact ⟨_, RK_bin (hx.elim (fun z => Or.inr (Or.inr (Or.inl z))) (fun z => Or.inr (Or.inr (Or.inr z)))) i1 j1 i2 j2, by omega, fun k hk => ER_add hl hx (i3 k (by omega)) (TR_w hl j3 j4 k (by omega)), fun z => absurd rfl z, fun z => absurd z (by decide)⟩
end
/-- no character of an expression ends a condition or a rule -/
theorem ex_ch {p : pz_P} {q : List Int32} {sh : Int32} {ht dp : Nat} (e : Ex p q sh ht dp) : (∀ x ∈ q, ¬ x = 59 ∧ ¬ x = 44) ∧ ¬ q = [] := by
  have wr : ∀ (b : Prop) [Decidable b] (q : List Int32), (∀ x ∈ q, ¬ x = 59 ∧ ¬ x = 44) → ∀ x ∈ pr_wr b q, ¬ x = 59 ∧ ¬ x = 44 := by
    intro b _ q h x hx
    unfold pr_wr at hx
    by_cases z : b
    · rw [if_pos z] at hx
      rcases List.mem_cons.mp hx with rfl | hx
      · decide
      · rcases List.mem_append.mp hx with hx | hx
        · exact h x hx
        · rw [List.mem_singleton.mp hx]; decide
    · rw [if_neg z] at hx; exact h x hx
  have kd : ∀ k : Int32, cu_isd k 8 → ¬ k = 59 ∧ ¬ k = 44 := fun k hk => ⟨fun z => by rw [z] at hk; exact absurd hk (by decide), fun z => by rw [z] at hk; exact absurd hk (by decide)⟩
  refine e (fun _ q _ _ _ => (∀ x ∈ q, ¬ x = 59 ∧ ¬ x = 44) ∧ ¬ q = []) ?_ ?_ ?_ ?_ ?_ ?_ ?_
  · intro l h1 h2 h3
    obtain ⟨_, _, d3, d4⟩ := dg_t_v l
    refine ⟨fun x hx => ?_, fun z => d4 h2 (List.map_eq_nil_iff.mp z)⟩
    obtain ⟨d, hd, ed⟩ := List.mem_map.mp hx
    have h10 := d3 h1 d hd
    rw [← ed]
    obtain ⟨c1, c2, _⟩ := dg_ch h10
    exact ⟨fun z => c2 (by rw [z]; decide), fun z => c1 (by rw [z]; decide)⟩
  · intro x hx; exact ⟨fun y hy => by rw [List.mem_singleton.mp hy]; rcases hx with rfl | rfl | rfl <;> decide, by intro z; cases z⟩
  · intro x y hx hy _
    refine ⟨fun z hz => ?_, by intro z; cases z⟩
    rcases List.mem_cons.mp hz with rfl | hz
    · rcases hx with rfl | rfl | rfl | rfl <;> decide
    · rw [List.mem_singleton.mp hz]; exact kd y hy
  · intro x p q sh ht dp hx ih
    refine ⟨fun z hz => ?_, by intro z; cases z⟩
    rcases List.mem_cons.mp hz with rfl | hz
    · rcases hx with rfl | rfl <;> decide
    · exact wr _ q ih.1 z hz
  · intro x p q sh ht dp hx _ ih
    refine ⟨fun z hz => ?_, by intro z; cases z⟩
    rcases List.mem_cons.mp hz with rfl | hz
    · decide
    · rcases List.mem_cons.mp hz with rfl | hz
      · exact kd z hx
      · exact wr _ q ih.1 z hz
  · intro x p1 q1 sh1 ht1 dp1 p2 q2 sh2 ht2 dp2 hx i1 i2
    refine ⟨fun z hz => ?_, fun z => by rw [List.append_eq_nil_iff] at z; cases z.2⟩
    rcases List.mem_append.mp hz with hz | hz
    · exact wr _ q1 i1.1 z hz
    · rcases List.mem_cons.mp hz with rfl | hz
      · rcases hx with rfl | rfl <;> decide
      · exact wr _ q2 i2.1 z hz
  · intro x p1 q1 sh1 ht1 dp1 p2 q2 sh2 ht2 dp2 hx i1 i2
    refine ⟨fun z hz => ?_, fun z => by rw [List.append_eq_nil_iff] at z; cases z.2⟩
    rcases List.mem_append.mp hz with hz | hz
    · exact i1.1 z hz
    · rcases List.mem_cons.mp hz with rfl | hz
      · rcases hx with rfl | rfl <;> decide
      · exact wr _ q2 i2.1 z hz
