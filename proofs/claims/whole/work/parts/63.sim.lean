/-! THE GRAMMAR AND THE REFERENCE'S TURNS -/
/-- the reference's step for a step of the class -/
def pz_m (x : Int32 × Int32) : Int32 × Int32 :=
  if x.1 = 35 then (1, x.2) else if x.1 = 108 then (2, x.2) else if x.1 = 119 then (3, x.2) else if x.1 = 116 then (4, x.2)
  else if x.1 = 110 then (5, x.2) else if x.1 = 97 then (6, x.2) else if x.1 = 115 then (7, x.2) else if x.1 = 101 then (8, x.2)
  else if x.1 = 99 then (9, x.2) else if x.1 = 102 then (10, x.2) else if x.1 = 126 then (11, x.2)
  else if x.1 = 43 then (12, x.2) else if x.1 = 45 then (13, x.2) else if x.1 = 42 then (14, x.2) else if x.1 = 47 then (15, x.2) else (16, x.1)
theorem rv_app (l m U : pz_P) : List.reverseAux (l ++ m) U = List.reverseAux m (List.reverseAux l U) := by
  induction l generalizing U with
  | nil => rfl
  | cons x l ih => exact ih (x :: U)
theorem rv_len (l U : pz_P) : (List.reverseAux l U).length = l.length + U.length := by
  induction l generalizing U with
  | nil => simp
  | cons x l ih => rw [show List.reverseAux (x :: l) U = List.reverseAux l (x :: U) from rfl, ih]; simp; omega
def mz_in (lo hi : Int32) (l : pz_P) : Prop := ∀ x ∈ l, ¬ x.1 < lo ∧ ¬ hi < x.1
def mz_out (lo hi : Int32) (W : pz_P) : Prop := ∀ x r, W = x :: r → ¬ (¬ x.1 < lo ∧ ¬ hi < x.1)
theorem mz_pp_out {lo hi : Int32} {W : pz_P} (h : mz_out lo hi W) (U : pz_P) : mz_pp lo hi W U = (W, U) := by
  cases W with
  | nil => rfl
  | cons x r => exact if_neg (h x r rfl)
theorem mz_pp_app {lo hi : Int32} {W : pz_P} (h : mz_out lo hi W) : ∀ (l U : pz_P), mz_in lo hi l → mz_pp lo hi (l ++ W) U = (W, List.reverseAux l U) := by
  intro l
  induction l with
  | nil => intro U _; exact mz_pp_out h U
  | cons x l ih =>
    intro U hl
    rw [show mz_pp lo hi (x :: l ++ W) U = mz_pp lo hi (l ++ W) (x :: U) from if_pos (hl x List.mem_cons_self)]
    exact ih (x :: U) (fun y hy => hl y (List.mem_cons_of_mem _ hy))
theorem mz_po_app {z : Int32 × Int32} {r : pz_P} (hz : z.1 = 17) : ∀ (l U : pz_P), mz_in 12 15 l → mz_po (l ++ z :: r) U = (z :: r, List.reverseAux l U) := by
  intro l
  induction l with
  | nil => intro U _; exact if_pos (by rw [hz]; decide)
  | cons x l ih =>
    intro U hl
    have hx := hl x List.mem_cons_self
    rw [show mz_po (x :: l ++ z :: r) U = mz_po (l ++ z :: r) (x :: U) from if_neg (fun q => absurd (Int32.lt_of_le_of_lt (Int32.not_lt.mp hx.2) (show (15 : Int32) < 17 by decide)) q.1)]
    exact ih (x :: U) (fun y hy => hl y (List.mem_cons_of_mem _ hy))
theorem mz_po_ne : ∀ (W U : pz_P), (∃ x ∈ W, x.1 = 17) → ¬ (mz_po W U).1 = [] := by
  intro W
  induction W with
  | nil => intro U h; obtain ⟨x, hx, _⟩ := h; cases hx
  | cons y r ih =>
    intro U h
    by_cases z : ¬ y.1 < 17 ∧ ¬ 17 < y.1
    · rw [show mz_po (y :: r) U = (y :: r, U) from if_pos z]; intro q; cases q
    · rw [show mz_po (y :: r) U = mz_po r (y :: U) from if_neg z]
      obtain ⟨x, hx, ex⟩ := h
      rcases List.mem_cons.mp hx with rfl | hx
      · exact absurd (by rw [ex]; decide) z
      · exact ih (y :: U) ⟨x, hx, ex⟩
/-- turns lead from x to y -/
def mz_to (u : Nat → Int32) (n : Nat) (x y : mz_st) : Prop := ∃ N, mz_rs u n N x y
theorem mz_rs_tr {u : Nat → Int32} {n : Nat} {y z : mz_st} : ∀ (N : Nat) (x : mz_st), mz_rs u n N x y → mz_to u n y z → mz_to u n x z := by
  intro N
  induction N with
  | zero => intro x h k; have e : y = x := h; rw [← e]; exact k
  | succ N ih =>
    intro x h k
    obtain ⟨h1, h2, h3⟩ := h
    obtain ⟨M, hM⟩ := ih _ h3 k
    exact ⟨M + 1, h1, h2, hM⟩
theorem mz_to_tr {u : Nat → Int32} {n : Nat} {x y z : mz_st} (h : mz_to u n x y) (k : mz_to u n y z) : mz_to u n x z := by
  obtain ⟨N, hN⟩ := h
  exact mz_rs_tr N x hN k
theorem mz_to_rf {u : Nat → Int32} {n : Nat} {x : mz_st} : mz_to u n x x := ⟨0, rfl⟩
/-- where a turn stands: few steps, the depth, an opening parenthesis for it -/
def mz_ctx (n dp a : Nat) (U W : pz_P) : Prop := U.length + W.length ≤ a ∧ a ≤ n ∧ dp ≤ 8 ∧ (0 < dp → ∃ x ∈ W, x.1 = 17)
theorem mz_to_1 {u : Nat → Int32} {n dp a : Nat} {wh : Bool} {U W : pz_P} {z : mz_st} (hn : n ≤ 300) (c : mz_ctx n dp a U W) (e : mz_it u n (wh, true, dp, (a, U, W, none)) = z) : mz_to u n (wh, true, dp, (a, U, W, none)) z :=
  ⟨1, ⟨rfl, rfl⟩, ⟨by have := c.2.1; show a ≤ 700; omega, by have := c.1; have := c.2.1; show U.length + W.length ≤ 310; omega, by have := c.2.2.1; show dp ≤ 100; omega, fun q => mz_po_ne W U (c.2.2.2 q)⟩, e.symm⟩
/-- turns lead from x to a fault at p -/
def mz_bad (u : Nat → Int32) (n : Nat) (x : mz_st) (p : Nat) : Prop := ∃ y, mz_to u n x y ∧ y.2.2.2.2.2.2 = some p ∧ y.2.2.2.1 ≤ 310 ∧ y.2.2.2.2.1.length + y.2.2.2.2.2.1.length ≤ 315
theorem mz_bad_of {u : Nat → Int32} {n p : Nat} {x y : mz_st} (h : mz_to u n x y) (k : mz_bad u n y p) : mz_bad u n x p := by
  obtain ⟨z, h1, h2⟩ := k
  exact ⟨z, mz_to_tr h h1, h2⟩
/-! characters -/
def mz_tx (u : Nat → Int32) (n : Nat) : Prop := ∀ i, i < n → ¬ u i < 33 ∧ ¬ 126 < u i
theorem mz_lt {u : Nat → Int32} {n a : Nat} {k : Int32} (h : cu_c u n a = k) (h0 : ¬ k = 0) : a < n := by
  unfold cu_c at h
  by_cases z : a < n
  · exact z
  · rw [if_neg z] at h; exact absurd h.symm h0
theorem mz_same {u : Nat → Int32} {n a : Nat} (h : a < n) : mz_c u n a = cu_c u n a := by
  unfold mz_c cu_c; rw [if_pos h, if_pos h]
theorem mz_ec {u : Nat → Int32} {n a : Nat} {k : Int32} (h0 : ¬ k = 0) (h1 : ¬ k = -1) : mz_c u n a = k ↔ cu_c u n a = k := by
  by_cases z : a < n
  · rw [mz_same z]
  · unfold mz_c cu_c; rw [if_neg z, if_neg z]; exact ⟨fun q => absurd q.symm h1, fun q => absurd q.symm h0⟩
theorem mz_dg {u : Nat → Int32} {n a : Nat} : (¬ mz_c u n a < 48 ∧ ¬ 57 < mz_c u n a) ↔ (¬ cu_c u n a < 48 ∧ ¬ 57 < cu_c u n a) := by
  by_cases z : a < n
  · rw [mz_same z]
  · unfold mz_c cu_c; rw [if_neg z, if_neg z]; decide
theorem cu_cb {u : Nat → Int32} {n a : Nat} (ht : mz_tx u n) : 0 ≤ (cu_c u n a).toInt ∧ (cu_c u n a).toInt ≤ 126 := by
  by_cases z : a < n
  · have h := ht a z
    rw [show cu_c u n a = u a from if_pos z]
    rw [Int32.lt_iff_toInt_lt, Int32.lt_iff_toInt_lt, show Int32.toInt 33 = 33 from rfl, show Int32.toInt 126 = 126 from rfl] at h
    omega
  · rw [show cu_c u n a = 0 from if_neg z]; decide
theorem cu_sub {c : Int32} (h : 0 ≤ c.toInt ∧ c.toInt ≤ 126) : (c - 48).toInt = c.toInt - 48 := by
  rw [Int32.toInt_sub, show Int32.toInt 48 = 48 from rfl, eq_i32 (by omega) (by omega)]
theorem mz_kd {u : Nat → Int32} {n a : Nat} (ht : mz_tx u n) : cu_isd (cu_c u n a) 8 ↔ ¬ (mz_c u n a < 48 ∨ 55 < mz_c u n a) := by
  have hb := cu_cb (a := a) ht
  have hs := cu_sub hb
  by_cases z : a < n
  · rw [mz_same z]
    unfold cu_isd
    rw [Int32.lt_iff_toInt_lt, Int32.lt_iff_toInt_lt, Int32.lt_iff_toInt_lt, Int32.lt_iff_toInt_lt, hs, show Int32.toInt 0 = 0 from rfl, show Int32.toInt 8 = 8 from rfl, show Int32.toInt 48 = 48 from rfl, show Int32.toInt 55 = 55 from rfl]
    omega
  · rw [show cu_c u n a = 0 from if_neg z, show mz_c u n a = -1 from if_neg z]; decide
/-! the grammar's places -/
def pz_good (n a : Nat) (y : pz_R) : Prop := y.2.1 ≤ n ∧ (y.1 = true → y.2.2.length + a ≤ y.2.1 ∧ a < y.2.1)
theorem cu_num_in {u : Nat → Int32} {n : Nat} : ∀ (m a : Nat) (v : Int32), a ≤ n → (cu_num u n m a v).2 ≤ n ∧ a ≤ (cu_num u n m a v).2 := by
  intro m
  induction m with
  | zero => intro a v h; exact ⟨h, Nat.le_refl _⟩
  | succ m ih =>
    intro a v h
    unfold cu_num
    by_cases h1 : cu_c u n a < 48
    · rw [if_pos h1]; exact ⟨h, Nat.le_refl _⟩
    rw [if_neg h1]
    by_cases h2 : 57 < cu_c u n a
    · rw [if_pos h2]; exact ⟨h, Nat.le_refl _⟩
    rw [if_neg h2]
    have h3 : a < n := by
      by_cases z : a < n
      · exact z
      · rw [show cu_c u n a = 0 from if_neg z] at h1; exact absurd (by decide) h1
    have := ih (a + 1) (v * 10 + (cu_c u n a - 48)) (by omega)
    exact ⟨this.1, by omega⟩
theorem pz_num_good {u : Nat → Int32} {n a : Nat} (hd : ¬ cu_c u n a < 48 ∧ ¬ 57 < cu_c u n a) : pz_good n a (pz_num u n a) := by
  have h3 : a < n := by
    by_cases z : a < n
    · exact z
    · rw [show cu_c u n a = 0 from if_neg z] at hd; exact absurd (by decide) hd.1
  have e : cu_num u n 6 a 0 = cu_num u n 5 (a + 1) (0 * 10 + (cu_c u n a - 48)) := by
    show (if cu_c u n a < 48 then _ else if 57 < cu_c u n a then _ else _) = _
    rw [if_neg hd.1, if_neg hd.2]
  have h := cu_num_in (u := u) 5 (a + 1) (0 * 10 + (cu_c u n a - 48)) (show a + 1 ≤ n by omega)
  unfold pz_num
  rw [e]
  exact ⟨h.1, fun _ => ⟨Nat.le_trans (by show 1 + a ≤ a + 1; omega) h.2, h.2⟩⟩
theorem pz_let_good {u : Nat → Int32} {n a : Nat} (ha : a ≤ n) : pz_good n a (pz_let u n a) := by
  unfold pz_let
  by_cases h1 : cu_c u n a = 108 ∨ cu_c u n a = 119 ∨ cu_c u n a = 116
  · rw [if_pos h1]
    have hl : a < n := by rcases h1 with h | h | h <;> exact mz_lt h (by decide)
    exact ⟨by show a + 1 ≤ n; omega, fun _ => ⟨by show 1 + a ≤ a + 1; omega, by show a < a + 1; omega⟩⟩
  rw [if_neg h1]
  by_cases h2 : cu_c u n a = 110 ∨ cu_c u n a = 97 ∨ cu_c u n a = 115 ∨ cu_c u n a = 101
  · rw [if_pos h2]
    have hl : a < n := by rcases h2 with h | h | h | h <;> exact mz_lt h (by decide)
    by_cases h3 : cu_isd (cu_c u n (a + 1)) 8
    · rw [if_pos h3]
      have hl2 : a + 1 < n := by
        by_cases z : a + 1 < n
        · exact z
        · rw [show cu_c u n (a + 1) = 0 from if_neg z] at h3; exact absurd h3 (by decide)
      exact ⟨by show a + 1 + 1 ≤ n; omega, fun _ => ⟨by show 1 + a ≤ a + 1 + 1; omega, by show a < a + 1 + 1; omega⟩⟩
    · rw [if_neg h3]; exact ⟨by show a + 1 ≤ n; omega, fun z => by cases z⟩
  · rw [if_neg h2]; exact ⟨ha, fun z => by cases z⟩
theorem pz_par_good {u : Nat → Int32} {n a : Nat} {sub : Nat → pz_R} (hs : ∀ b, b ≤ n → pz_good n b (sub b)) (deep : Bool) (hc : cu_c u n a = 40) : pz_good n a (pz_par u n sub deep a) := by
  have hl : a < n := mz_lt hc (by decide)
  unfold pz_par
  by_cases h1 : deep = true
  · rw [if_pos h1]; exact ⟨by show a ≤ n; omega, fun z => by cases z⟩
  rw [if_neg h1]
  have h := hs (a + 1) (by omega)
  by_cases h2 : (sub (a + 1)).1 = false ∨ ¬ cu_c u n (sub (a + 1)).2.1 = 41
  · rw [if_pos h2]; exact ⟨h.1, fun z => by cases z⟩
  · rw [if_neg h2]
    have hk : (sub (a + 1)).1 = true := by
      cases e : (sub (a + 1)).1
      · exact absurd (Or.inl e) h2
      · rfl
    have h5 : cu_c u n (sub (a + 1)).2.1 = 41 := Classical.byContradiction fun z => h2 (Or.inr z)
    have h6 := mz_lt h5 (by decide)
    have h7 := h.2 hk
    exact ⟨(by omega : (sub (a + 1)).2.1 + 1 ≤ n), fun _ => ⟨(by omega : (sub (a + 1)).2.2.length + a ≤ (sub (a + 1)).2.1 + 1), (by omega : a < (sub (a + 1)).2.1 + 1)⟩⟩
theorem pz_bare_good {u : Nat → Int32} {n : Nat} {sub : Nat → pz_R} (hs : ∀ b, b ≤ n → pz_good n b (sub b)) (deep : Bool) (a : Nat) (ha : a ≤ n) : pz_good n a (pz_bare u n sub deep a) := by
  unfold pz_bare
  by_cases h1 : cu_c u n a = 40
  · rw [if_pos h1]; exact pz_par_good hs deep h1
  rw [if_neg h1]
  by_cases h2 : ¬ cu_c u n a < 48 ∧ ¬ 57 < cu_c u n a
  · rw [if_pos h2]; exact pz_num_good h2
  · rw [if_neg h2]; exact pz_let_good ha
theorem pz_pre_len {u : Nat → Int32} {b : Nat} : ∀ (m p : Nat), (pz_pre u b m p).length ≤ p - b := by
  intro m
  induction m with
  | zero => intro p; exact Nat.zero_le _
  | succ m ih =>
    intro p
    unfold pz_pre
    by_cases h1 : p ≤ b
    · rw [if_pos h1]; exact Nat.zero_le _
    rw [if_neg h1]
    by_cases h2 : u (p - 1) = 45
    · rw [if_pos h2]; have := ih (p - 1); simp; omega
    rw [if_neg h2]
    by_cases h3 : u (p - 1) = 102
    · rw [if_pos h3]; have := ih (p - 1); simp; omega
    rw [if_neg h3]; have := ih (p - 2); simp; omega
theorem pz_F_good {u : Nat → Int32} {n : Nat} {bare : Nat → pz_R} (hs : ∀ b, b ≤ n → pz_good n b (bare b)) (a : Nat) (ha : a ≤ n) : pz_good n a (pz_F u n bare a) := by
  have hp := cu_pre_mx u n 300 a
  have hp2 : (cu_pre u n 300 a).2 ≤ n := by have := hp.1; omega
  unfold pz_F
  by_cases h1 : (cu_pre u n 300 a).1 = true
  · rw [if_pos h1]
    have h := hs (cu_pre u n 300 a).2 hp2
    by_cases h2 : (bare (cu_pre u n 300 a).2).1 = false ∨ (cu_pre u n 300 a).2 = a
    · rw [if_pos h2]
      refine ⟨h.1, fun z => ?_⟩
      rcases h2 with h2 | h2
      · rw [h2] at z; cases z
      · have := h.2 z; have := hp.2; omega
    · rw [if_neg h2]
      have hk : (bare (cu_pre u n 300 a).2).1 = true := by
        cases e : (bare (cu_pre u n 300 a).2).1
        · exact absurd (Or.inl e) h2
        · rfl
      have h3 := h.2 hk
      have h4 := pz_pre_len (u := u) (b := a) (cu_pre u n 300 a).2 (cu_pre u n 300 a).2
      have h5 := hp.2
      refine ⟨h.1, fun _ => ⟨?_, (by omega : a < (bare (cu_pre u n 300 a).2).2.1)⟩⟩
      show ((bare (cu_pre u n 300 a).2).2.2 ++ pz_pre u a (cu_pre u n 300 a).2 (cu_pre u n 300 a).2).length + a ≤ (bare (cu_pre u n 300 a).2).2.1
      rw [List.length_append]
      omega
  · rw [if_neg h1]; exact ⟨hp2, fun z => by cases z⟩
theorem pz_Tl_good {u : Nat → Int32} {n a : Nat} {fc : Nat → pz_R} (hs : ∀ b, b ≤ n → pz_good n b (fc b)) : ∀ (m : Nat) (x : pz_R), n ≤ m + x.2.1 → pz_good n a x → pz_good n a (pz_Tl u n fc m x) ∧ ((pz_Tl u n fc m x).1 = true → ¬ (cu_c u n (pz_Tl u n fc m x).2.1 = 42 ∨ cu_c u n (pz_Tl u n fc m x).2.1 = 47)) := by
  intro m
  induction m with
  | zero =>
    intro x hm h
    refine ⟨h, fun _ => ?_⟩
    show ¬ (cu_c u n x.2.1 = 42 ∨ cu_c u n x.2.1 = 47)
    rw [show cu_c u n x.2.1 = 0 from if_neg (by omega)]; decide
  | succ m ih =>
    intro x hm h
    unfold pz_Tl
    by_cases h1 : x.1 = false
    · rw [if_pos h1]; exact ⟨h, fun z => by rw [h1] at z; cases z⟩
    rw [if_neg h1]
    have hk : x.1 = true := by cases e : x.1; exact absurd e h1; rfl
    by_cases h2 : cu_c u n x.2.1 = 42 ∨ cu_c u n x.2.1 = 47
    · rw [if_pos h2]
      have hl : x.2.1 < n := by rcases h2 with q | q <;> exact mz_lt q (by decide)
      have h3 := hs (x.2.1 + 1) (by omega)
      have h4 := h.2 hk
      by_cases h5 : (fc (x.2.1 + 1)).1 = true
      · have h6 := h3.2 h5
        apply ih
        · show n ≤ m + (fc (x.2.1 + 1)).2.1; omega
        · refine ⟨h3.1, fun _ => ⟨?_, (by omega : a < (fc (x.2.1 + 1)).2.1)⟩⟩
          show (x.2.2 ++ (fc (x.2.1 + 1)).2.2 ++ [(cu_c u n x.2.1, 0)]).length + a ≤ (fc (x.2.1 + 1)).2.1
          rw [List.length_append, List.length_append, List.length_singleton]; omega
      · have h7 : (fc (x.2.1 + 1)).1 = false := by cases e : (fc (x.2.1 + 1)).1; rfl; exact absurd e h5
        have e : pz_Tl u n fc m ((fc (x.2.1 + 1)).1, (fc (x.2.1 + 1)).2.1, x.2.2 ++ (fc (x.2.1 + 1)).2.2 ++ [(cu_c u n x.2.1, 0)]) = ((fc (x.2.1 + 1)).1, (fc (x.2.1 + 1)).2.1, x.2.2 ++ (fc (x.2.1 + 1)).2.2 ++ [(cu_c u n x.2.1, 0)]) := by
          cases m with
          | zero => rfl
          | succ m => exact if_pos h7
        rw [e]
        exact ⟨⟨h3.1, fun z => absurd z h5⟩, fun z => absurd z h5⟩
    · rw [if_neg h2]; exact ⟨h, fun _ => h2⟩
theorem pz_El_good {u : Nat → Int32} {n a : Nat} {fc : Nat → pz_R} (hs : ∀ b, b ≤ n → pz_good n b (fc b) ∧ ((fc b).1 = true → ¬ (cu_c u n (fc b).2.1 = 42 ∨ cu_c u n (fc b).2.1 = 47))) : ∀ (m : Nat) (x : pz_R), n ≤ m + x.2.1 → pz_good n a x → (x.1 = true → ¬ (cu_c u n x.2.1 = 42 ∨ cu_c u n x.2.1 = 47)) → pz_good n a (pz_El u n fc m x) ∧ ((pz_El u n fc m x).1 = true → ¬ (cu_c u n (pz_El u n fc m x).2.1 = 42 ∨ cu_c u n (pz_El u n fc m x).2.1 = 47) ∧ ¬ (cu_c u n (pz_El u n fc m x).2.1 = 43 ∨ cu_c u n (pz_El u n fc m x).2.1 = 45)) := by
  intro m
  induction m with
  | zero =>
    intro x hm h hx
    refine ⟨h, fun z => ⟨hx z, ?_⟩⟩
    show ¬ (cu_c u n x.2.1 = 43 ∨ cu_c u n x.2.1 = 45)
    rw [show cu_c u n x.2.1 = 0 from if_neg (by omega)]; decide
  | succ m ih =>
    intro x hm h hx
    unfold pz_El
    by_cases h1 : x.1 = false
    · rw [if_pos h1]; exact ⟨h, fun z => by rw [h1] at z; cases z⟩
    rw [if_neg h1]
    have hk : x.1 = true := by cases e : x.1; exact absurd e h1; rfl
    by_cases h2 : cu_c u n x.2.1 = 43 ∨ cu_c u n x.2.1 = 45
    · rw [if_pos h2]
      have hl : x.2.1 < n := by rcases h2 with q | q <;> exact mz_lt q (by decide)
      obtain ⟨h3, h3b⟩ := hs (x.2.1 + 1) (by omega)
      have h4 := h.2 hk
      by_cases h5 : (fc (x.2.1 + 1)).1 = true
      · have h6 := h3.2 h5
        apply ih
        · show n ≤ m + (fc (x.2.1 + 1)).2.1; omega
        · refine ⟨h3.1, fun _ => ⟨?_, (by omega : a < (fc (x.2.1 + 1)).2.1)⟩⟩
          show (x.2.2 ++ (fc (x.2.1 + 1)).2.2 ++ [(cu_c u n x.2.1, 0)]).length + a ≤ (fc (x.2.1 + 1)).2.1
          rw [List.length_append, List.length_append, List.length_singleton]; omega
        · exact h3b
      · have h7 : (fc (x.2.1 + 1)).1 = false := by cases e : (fc (x.2.1 + 1)).1; rfl; exact absurd e h5
        have e : pz_El u n fc m ((fc (x.2.1 + 1)).1, (fc (x.2.1 + 1)).2.1, x.2.2 ++ (fc (x.2.1 + 1)).2.2 ++ [(cu_c u n x.2.1, 0)]) = ((fc (x.2.1 + 1)).1, (fc (x.2.1 + 1)).2.1, x.2.2 ++ (fc (x.2.1 + 1)).2.2 ++ [(cu_c u n x.2.1, 0)]) := by
          cases m with
          | zero => rfl
          | succ m => exact if_pos h7
        rw [e]
        exact ⟨⟨h3.1, fun z => absurd z h5⟩, fun z => absurd z h5⟩
    · rw [if_neg h2]; exact ⟨h, fun z => ⟨hx z, h2⟩⟩
theorem pz_T_good {u : Nat → Int32} {n : Nat} (hn : n ≤ 300) {fc : Nat → pz_R} (hs : ∀ b, b ≤ n → pz_good n b (fc b)) (b : Nat) (hb : b ≤ n) : pz_good n b (pz_T u n fc b) ∧ ((pz_T u n fc b).1 = true → ¬ (cu_c u n (pz_T u n fc b).2.1 = 42 ∨ cu_c u n (pz_T u n fc b).2.1 = 47)) :=
  pz_Tl_good hs 300 (fc b) (by omega) (hs b hb)
theorem pz_E_good {u : Nat → Int32} {n : Nat} (hn : n ≤ 300) {fc : Nat → pz_R} (hs : ∀ b, b ≤ n → pz_good n b (fc b)) (b : Nat) (hb : b ≤ n) : pz_good n b (pz_E u n fc b) ∧ ((pz_E u n fc b).1 = true → ¬ (cu_c u n (pz_E u n fc b).2.1 = 42 ∨ cu_c u n (pz_E u n fc b).2.1 = 47) ∧ ¬ (cu_c u n (pz_E u n fc b).2.1 = 43 ∨ cu_c u n (pz_E u n fc b).2.1 = 45)) :=
  pz_El_good (fun b hb => pz_T_good hn hs b hb) 300 (pz_T u n fc b) (by omega) (pz_T_good hn hs b hb).1 (pz_T_good hn hs b hb).2
theorem pz_X_good {u : Nat → Int32} {n : Nat} (hn : n ≤ 300) : ∀ (k b : Nat), b ≤ n → pz_good n b (pz_X u n k b) ∧ ((pz_X u n k b).1 = true → ¬ (cu_c u n (pz_X u n k b).2.1 = 42 ∨ cu_c u n (pz_X u n k b).2.1 = 47) ∧ ¬ (cu_c u n (pz_X u n k b).2.1 = 43 ∨ cu_c u n (pz_X u n k b).2.1 = 45)) := by
  intro k
  induction k with
  | zero => intro b hb; exact pz_E_good hn (fun b hb => pz_F_good (fun b hb => pz_bare_good (sub := fun a => (false, a, [])) (fun b hb => ⟨hb, fun z => by cases z⟩) true b hb) b hb) b hb
  | succ k ih => intro b hb; exact pz_E_good hn (fun b hb => pz_F_good (fun b hb => pz_bare_good (fun b hb => (ih b hb).1) false b hb) b hb) b hb
