/-! What is kept of a text: characters whose mark is 0 -/
def kpt (f D : Nat → Int32) : Nat → Nat → List Int32
  | _, 0 => []
  | a, n + 1 => if D a = 0 then f a :: kpt f D (a + 1) n else kpt f D (a + 1) n
theorem kpt_app (f D : Nat → Int32) : ∀ (m n a : Nat), kpt f D a (m + n) = kpt f D a m ++ kpt f D (a + m) n := by
  intro m
  induction m with
  | zero => intro n a; rw [Nat.zero_add, Nat.add_zero]; rfl
  | succ m ih =>
    intro n a
    rw [show m + 1 + n = (m + n) + 1 by omega]
    show (if D a = 0 then f a :: kpt f D (a + 1) (m + n) else kpt f D (a + 1) (m + n)) = (if D a = 0 then f a :: kpt f D (a + 1) m else kpt f D (a + 1) m) ++ _
    rw [ih, show a + 1 + m = a + (m + 1) by omega]
    split <;> rfl
theorem kpt_eq {f D D' : Nat → Int32} : ∀ (n a : Nat), (∀ i, a ≤ i → i < a + n → D' i = D i) → kpt f D' a n = kpt f D a n := by
  intro n
  induction n with
  | zero => intro a _; rfl
  | succ n ih =>
    intro a h
    show (if D' a = 0 then f a :: kpt f D' (a + 1) n else kpt f D' (a + 1) n) = (if D a = 0 then f a :: kpt f D (a + 1) n else kpt f D (a + 1) n)
    rw [ih (a + 1) (fun i h1 h2 => h i (by omega) (by omega)), h a (Nat.le_refl _) (by omega)]
theorem kpt_1 {f D : Nat → Int32} {a : Nat} (h : D a = 0) : kpt f D a 1 = [f a] := if_pos h
theorem kpt_d {f D : Nat → Int32} {a : Nat} (h : ¬ D a = 0) : kpt f D a 1 = [] := if_neg h
/-- two stretches, one behind the other -/
theorem kpt_two {f D : Nat → Int32} {a b c : Nat} (h1 : a ≤ b) (h2 : b ≤ c) : kpt f D a (c - a) = kpt f D a (b - a) ++ kpt f D b (c - b) := by
  have := kpt_app f D (b - a) (c - b) a
  rw [show b - a + (c - b) = c - a by omega, show a + (b - a) = b by omega] at this
  exact this
theorem rs_di_n (D : Nat → Int32) {k : Nat} (h : k < 300) (v : Int32) : rs_di D (nI k) v = upd D k v := by
  unfold rs_di
  rw [if_pos ⟨nI_nlt (b := 0) (Nat.zero_le k) (by omega), ni_nge k 300 rfl rfl (by omega) (by decide) h⟩, nI_clamp (by omega)]
theorem rs_kd_n (D : Nat → Int32) {p a : Nat} (hp : p < 300) (ha : a ≤ 300) (h1 : 1 ≤ a) : rs_kd D (nI p) a = upd (upd D p 0) (a - 1) 0 := by
  unfold rs_kd
  rw [rs_di_n D hp, nI_s1 h1, rs_di_n _ (by omega)]
/-- parentheses around, both left out -/
def cl_par (f D : Nat → Int32) (a b : Nat) : Prop := f a = 40 ∧ D a = 1 ∧ f (b - 1) = 41 ∧ D (b - 1) = 1 ∧ a + 1 < b
theorem kpt_kd {f D : Nat → Int32} {a b : Nat} (h : cl_par f D a b) (hb : b ≤ 300) : kpt f (rs_kd D (nI a) b) a (b - a) = 40 :: (kpt f D a (b - a) ++ [41]) ∧ ∀ i, ¬ (a ≤ i ∧ i < b) → rs_kd D (nI a) b i = D i := by
  obtain ⟨h1, h2, h3, h4, h5⟩ := h
  rw [rs_kd_n D (by omega) hb (by omega)]
  constructor
  · have e1 : kpt f (upd (upd D a 0) (b - 1) 0) a (b - a) = kpt f (upd (upd D a 0) (b - 1) 0) a (a + 1 - a) ++ (kpt f (upd (upd D a 0) (b - 1) 0) (a + 1) (b - 1 - (a + 1)) ++ kpt f (upd (upd D a 0) (b - 1) 0) (b - 1) (b - (b - 1))) := by
      rw [kpt_two (b := a + 1) (by omega) (by omega), kpt_two (a := a + 1) (b := b - 1) (c := b) (by omega) (by omega)]
    have e2 : kpt f D a (b - a) = kpt f D a (a + 1 - a) ++ (kpt f D (a + 1) (b - 1 - (a + 1)) ++ kpt f D (b - 1) (b - (b - 1))) := by
      rw [kpt_two (b := a + 1) (by omega) (by omega), kpt_two (a := a + 1) (b := b - 1) (c := b) (by omega) (by omega)]
    rw [e1, e2, show a + 1 - a = 1 by omega, show b - (b - 1) = 1 by omega, kpt_1 (a := a) (by unfold upd; rw [if_neg (by omega), if_pos rfl]), kpt_1 (a := b - 1) (by unfold upd; rw [if_pos rfl]), kpt_d (D := D) (a := a) (by rw [h2]; decide), kpt_d (D := D) (a := b - 1) (by rw [h4]; decide), h1, h3]
    rw [kpt_eq (D := D) (D' := upd (upd D a 0) (b - 1) 0) (b - 1 - (a + 1)) (a + 1) (fun i q1 q2 => by unfold upd; rw [if_neg (by omega), if_neg (by omega)])]
    rw [List.append_nil]; rfl
  · intro i hi
    unfold upd
    rw [if_neg (by omega), if_neg (by omega)]
/-- the zeros that lead a number -/
theorem rs_zer_n {f : Nat → Int32} {e : Nat} (he : e ≤ 300) : ∀ (m i : Nat) (D : Nat → Int32) (l : List Nat), i + l.length = e → ¬ l = [] → l.length ≤ m + 1 → dg_ok l → (∀ j, j < l.length → f (i + j) = nI (48 + l.getD j 0)) → (∀ j, i ≤ j → j < e → D j = 0) → kpt f (rs_zer f e m i D) i (e - i) = dg_c (dg_t l) ∧ ∀ j, ¬ (i ≤ j ∧ j < e) → rs_zer f e m i D j = D j := by
  have all : ∀ (D : Nat → Int32) (l : List Nat) (i : Nat), (∀ j, j < l.length → f (i + j) = nI (48 + l.getD j 0)) → (∀ j, i ≤ j → j < i + l.length → D j = 0) → kpt f D i l.length = dg_c l := by
    intro D l
    induction l with
    | nil => intro i _ _; rfl
    | cons d l ih =>
      intro i hf hD
      show (if D i = 0 then f i :: kpt f D (i + 1) l.length else _) = nI (48 + d) :: dg_c l
      rw [if_pos (hD i (Nat.le_refl _) (by rw [List.length_cons]; omega)), ih (i + 1) (fun j hj => by have := hf (j + 1) (by simp; omega); rw [show i + 1 + j = i + (j + 1) by omega, this]; rfl) (fun j hj hj2 => hD j (by omega) (by rw [List.length_cons]; omega))]
      have := hf 0 (by simp)
      rw [Nat.add_zero] at this
      rw [this]; rfl
  intro m
  induction m with
  | zero =>
    intro i D l hl hne hm hok hf hD
    refine ⟨?_, fun _ _ => rfl⟩
    cases l with
    | nil => exact absurd rfl hne
    | cons d l =>
      have : l = [] := List.eq_nil_of_length_eq_zero (by rw [List.length_cons] at hm; omega)
      subst this
      have z := all D [d] i hf (fun j q1 q2 => hD j q1 (by omega))
      rw [show e - i = [d].length by omega]
      exact z
  | succ m ih =>
    intro i D l hl hne hm hok hf hD
    cases l with
    | nil => exact absurd rfl hne
    | cons d l =>
      unfold rs_zer
      by_cases h1 : i + 1 < e ∧ f i = 48
      · rw [if_pos h1]
        have hd0 : d = 0 := by
          have q := hf 0 (by simp)
          rw [Nat.add_zero, h1.2] at q
          have q2 := (nI_eq (a := 48) (b := 48 + d) (by decide) (by have := hok d List.mem_cons_self; omega)).mp q
          omega
        rw [List.length_cons] at hl hm
        cases l with
        | nil => rw [List.length_nil] at hl; omega
        | cons e2 l =>
          have hi3 : i < 300 := by omega
          rw [rs_di_n D hi3]
          have hD2 : ∀ j, i + 1 ≤ j → j < e → upd D i 1 j = 0 := fun j hj hj2 => by unfold upd; rw [if_neg (by omega)]; exact hD j (by omega) hj2
          obtain ⟨k1, k2⟩ := ih (i + 1) (upd D i 1) (e2 :: l) (by omega) (by intro q; cases q) (by omega) (fun x hx => hok x (List.mem_cons_of_mem _ hx)) (fun j hj => by have := hf (j + 1) (by rw [List.length_cons]; omega); rw [show i + 1 + j = i + (j + 1) by omega, this]; rfl) hD2
          have hdrop : rs_zer f e m (i + 1) (upd D i 1) i = 1 := by rw [k2 i (by omega)]; unfold upd; rw [if_pos rfl]
          refine ⟨?_, fun j hj => ?_⟩
          · rw [kpt_two (a := i) (b := i + 1) (c := e) (by omega) (by omega), show i + 1 - i = 1 by omega, kpt_d (by rw [hdrop]; decide), k1, show dg_t (d :: e2 :: l) = dg_t (e2 :: l) from if_pos hd0]; rfl
          · rw [k2 j (by omega)]; unfold upd; rw [if_neg (by omega)]
      · rw [if_neg h1]
        refine ⟨?_, fun _ _ => rfl⟩
        have z := all D (d :: l) i hf (fun j q1 q2 => hD j q1 (by omega))
        rw [show e - i = (d :: l).length by omega, z]
        cases l with
        | nil => rfl
        | cons e2 l =>
          rw [show dg_t (d :: e2 :: l) = d :: e2 :: l from if_neg (fun q => h1 ⟨by rw [List.length_cons, List.length_cons] at hl; omega, by have := hf 0 (by simp); rw [Nat.add_zero] at this; rw [this, q]; rfl⟩)]
