/-! THE GRAMMAR as a function: whether it was read, the place behind it or of the fault, the steps (acts of the class) -/
abbrev pz_P : Type := List (Int32 × Int32)
abbrev pz_R : Type := Bool × Nat × pz_P
def pz_num (f : Nat → Int32) (len a : Nat) : pz_R := (true, (cu_num f len 6 a 0).2, [(35, (cu_num f len 6 a 0).1)])
def pz_let (f : Nat → Int32) (len a : Nat) : pz_R :=
  if cu_c f len a = 108 ∨ cu_c f len a = 119 ∨ cu_c f len a = 116 then (true, a + 1, [(cu_c f len a, 0)])
  else if cu_c f len a = 110 ∨ cu_c f len a = 97 ∨ cu_c f len a = 115 ∨ cu_c f len a = 101 then
    (if cu_isd (cu_c f len (a + 1)) 8 then (true, a + 1 + 1, [(cu_c f len a, cu_c f len (a + 1) - 48)]) else (false, a + 1, []))
  else (false, a, [])
def pz_par (f : Nat → Int32) (len : Nat) (sub : Nat → pz_R) (deep : Bool) (a : Nat) : pz_R :=
  if deep = true then (false, a, [])
  else if (sub (a + 1)).1 = false ∨ ¬ cu_c f len (sub (a + 1)).2.1 = 41 then (false, (sub (a + 1)).2.1, [])
  else (true, (sub (a + 1)).2.1 + 1, (sub (a + 1)).2.2)
def pz_bare (f : Nat → Int32) (len : Nat) (sub : Nat → pz_R) (deep : Bool) (a : Nat) : pz_R :=
  if cu_c f len a = 40 then pz_par f len sub deep a else if ¬ cu_c f len a < 48 ∧ ¬ 57 < cu_c f len a then pz_num f len a else pz_let f len a
def pz_pre (f : Nat → Int32) (first : Nat) : Nat → Nat → pz_P
  | 0, _ => []
  | m + 1, n => if n ≤ first then [] else if f (n - 1) = 45 then (126, 0) :: pz_pre f first m (n - 1)
      else if f (n - 1) = 102 then (102, 0) :: pz_pre f first m (n - 1)
      else (99, f (n - 1) - 48) :: pz_pre f first m (n - 2)
def pz_F (f : Nat → Int32) (len : Nat) (bare : Nat → pz_R) (a : Nat) : pz_R :=
  if (cu_pre f len 300 a).1 = true then
    (if (bare (cu_pre f len 300 a).2).1 = false ∨ (cu_pre f len 300 a).2 = a then bare (cu_pre f len 300 a).2
     else (true, (bare (cu_pre f len 300 a).2).2.1, (bare (cu_pre f len 300 a).2).2.2 ++ pz_pre f a (cu_pre f len 300 a).2 (cu_pre f len 300 a).2))
  else (false, (cu_pre f len 300 a).2, [])
def pz_Tl (f : Nat → Int32) (len : Nat) (fc : Nat → pz_R) : Nat → pz_R → pz_R
  | 0, x => x
  | m + 1, x => if x.1 = false then x else if cu_c f len x.2.1 = 42 ∨ cu_c f len x.2.1 = 47 then
      pz_Tl f len fc m ((fc (x.2.1 + 1)).1, (fc (x.2.1 + 1)).2.1, x.2.2 ++ (fc (x.2.1 + 1)).2.2 ++ [(cu_c f len x.2.1, 0)]) else x
def pz_T (f : Nat → Int32) (len : Nat) (fc : Nat → pz_R) (a : Nat) : pz_R := pz_Tl f len fc 300 (fc a)
def pz_El (f : Nat → Int32) (len : Nat) (tt : Nat → pz_R) : Nat → pz_R → pz_R
  | 0, x => x
  | m + 1, x => if x.1 = false then x else if cu_c f len x.2.1 = 43 ∨ cu_c f len x.2.1 = 45 then
      pz_El f len tt m ((tt (x.2.1 + 1)).1, (tt (x.2.1 + 1)).2.1, x.2.2 ++ (tt (x.2.1 + 1)).2.2 ++ [(cu_c f len x.2.1, 0)]) else x
def pz_E (f : Nat → Int32) (len : Nat) (fc : Nat → pz_R) (a : Nat) : pz_R := pz_El f len (pz_T f len fc) 300 (pz_T f len fc a)
def pz_X (f : Nat → Int32) (len : Nat) : Nat → Nat → pz_R
  | 0 => pz_E f len (pz_F f len (pz_bare f len (fun a => (false, a, [])) true))
  | k + 1 => pz_E f len (pz_F f len (pz_bare f len (pz_X f len k) false))
/-! The reader reads by it -/
def ru_adds (T : ru_D) (l : pz_P) : ru_D := l.foldl (fun T x => ru_add T x.1 x.2) T
theorem ru_adds_app (T : ru_D) (l m : pz_P) : ru_adds T (l ++ m) = ru_adds (ru_adds T l) m := List.foldl_append
def pz_rel (x : rs_R) (T : ru_D) (y : pz_R) : Prop := (x.1 = -1 ↔ y.1 = false) ∧ x.2.1 = y.2.1 ∧ (y.1 = true → x.2.2.2 = ru_adds T y.2.2)
theorem pz_no {x : rs_R} {T : ru_D} {y : pz_R} (h : pz_rel x T y) (hx : ¬ x.1 = -1) : y.1 = true := by
  cases e : y.1
  · exact absurd (h.1.mpr e) hx
  · rfl
theorem pz_num_rel (f : Nat → Int32) (len : Nat) (s : rs_S) : pz_rel (rs_num f len s) s.2.2 (pz_num f len s.1) :=
  ⟨⟨fun z => absurd z (by show ¬ (0 : Int32) = -1; decide), fun z => by cases z⟩, rfl, fun _ => rfl⟩
theorem pz_let_rel (f : Nat → Int32) (len : Nat) (s : rs_S) : pz_rel (rs_let f len s) s.2.2 (pz_let f len s.1) := by
  unfold rs_let pz_let
  by_cases h1 : cu_c f len s.1 = 108 ∨ cu_c f len s.1 = 119 ∨ cu_c f len s.1 = 116
  · rw [if_pos h1, if_pos h1]
    exact ⟨⟨fun z => absurd z (by show ¬ (0 : Int32) = -1; decide), fun z => by cases z⟩, rfl, fun _ => rfl⟩
  rw [if_neg h1, if_neg h1]
  by_cases h2 : cu_c f len s.1 = 110 ∨ cu_c f len s.1 = 97 ∨ cu_c f len s.1 = 115 ∨ cu_c f len s.1 = 101
  · rw [if_pos h2, if_pos h2]
    by_cases h3 : cu_isd (cu_c f len (s.1 + 1)) 8
    · rw [if_pos h3, if_pos h3]
      exact ⟨⟨fun z => absurd z (by show ¬ (0 : Int32) = -1; decide), fun z => by cases z⟩, rfl, fun _ => rfl⟩
    · rw [if_neg h3, if_neg h3]
      exact ⟨⟨fun _ => rfl, fun _ => rfl⟩, rfl, fun z => by cases z⟩
  · rw [if_neg h2, if_neg h2]
    exact ⟨⟨fun _ => rfl, fun _ => rfl⟩, rfl, fun z => by cases z⟩
theorem pz_par_rel (f : Nat → Int32) (len : Nat) (sub : rs_S → rs_R) (zub : Nat → pz_R) (hs : ∀ s, pz_rel (sub s) s.2.2 (zub s.1)) (deep : Bool) (s : rs_S) : pz_rel (rs_par f len sub deep s) s.2.2 (pz_par f len zub deep s.1) := by
  unfold rs_par pz_par
  by_cases h1 : deep = true
  · rw [if_pos h1, if_pos h1]
    exact ⟨⟨fun _ => rfl, fun _ => rfl⟩, rfl, fun z => by cases z⟩
  rw [if_neg h1, if_neg h1]
  have h := hs (s.1 + 1, s.2.1, s.2.2)
  obtain ⟨X, eX⟩ : ∃ z, z = sub (s.1 + 1, s.2.1, s.2.2) := ⟨_, rfl⟩
  obtain ⟨Y, eY⟩ : ∃ z, z = zub (s.1 + 1) := ⟨_, rfl⟩
  rw [← eX, ← eY]
  replace h : pz_rel X s.2.2 Y := by rw [eX, eY]; exact h
  obtain ⟨a1, a2, a3⟩ := h
  by_cases h2 : X.1 = -1 ∨ ¬ cu_c f len X.2.1 = 41
  · rw [if_pos h2, if_pos (by rw [← a2, ← a1]; exact h2)]
    exact ⟨⟨fun _ => rfl, fun _ => rfl⟩, a2, fun z => by cases z⟩
  · rw [if_neg h2, if_neg (by rw [← a2, ← a1]; exact h2)]
    have h3 : ¬ X.1 = -1 := fun z => h2 (Or.inl z)
    exact ⟨⟨fun z => absurd z h3, fun z => by cases z⟩, by show X.2.1 + 1 = Y.2.1 + 1; rw [a2], fun _ => a3 (pz_no ⟨a1, a2, a3⟩ h3)⟩
theorem pz_bare_rel (f : Nat → Int32) (len : Nat) (sub : rs_S → rs_R) (zub : Nat → pz_R) (hs : ∀ s, pz_rel (sub s) s.2.2 (zub s.1)) (deep : Bool) (s : rs_S) : pz_rel (rs_bare f len sub deep s) s.2.2 (pz_bare f len zub deep s.1) := by
  unfold rs_bare pz_bare
  by_cases h1 : cu_c f len s.1 = 40
  · rw [if_pos h1, if_pos h1]; exact pz_par_rel f len sub zub hs deep s
  rw [if_neg h1, if_neg h1]
  by_cases h2 : ¬ cu_c f len s.1 < 48 ∧ ¬ 57 < cu_c f len s.1
  · rw [if_pos h2, if_pos h2]; exact pz_num_rel f len s
  · rw [if_neg h2, if_neg h2]; exact pz_let_rel f len s
theorem pz_pre_rel (f : Nat → Int32) (first : Nat) : ∀ (m n : Nat) (T : ru_D), rs_pre f first m n T = ru_adds T (pz_pre f first m n) := by
  intro m
  induction m with
  | zero => intro n T; rfl
  | succ m ih =>
    intro n T
    unfold rs_pre pz_pre
    by_cases h1 : n ≤ first
    · rw [if_pos h1, if_pos h1]; rfl
    rw [if_neg h1, if_neg h1]
    by_cases h2 : f (n - 1) = 45
    · rw [if_pos h2, if_pos h2, ih]; rfl
    rw [if_neg h2, if_neg h2]
    by_cases h3 : f (n - 1) = 102
    · rw [if_pos h3, if_pos h3, ih]; rfl
    rw [if_neg h3, if_neg h3, ih]; rfl
theorem pz_F_rel (f : Nat → Int32) (len : Nat) (bare : rs_S → rs_R) (zare : Nat → pz_R) (hs : ∀ s, pz_rel (bare s) s.2.2 (zare s.1)) (s : rs_S) : pz_rel (rs_F f len bare s) s.2.2 (pz_F f len zare s.1) := by
  unfold rs_F pz_F
  by_cases h1 : (cu_pre f len 300 s.1).1 = true
  · rw [if_pos h1, if_pos h1]
    have h := hs ((cu_pre f len 300 s.1).2, s.2.1, s.2.2)
    obtain ⟨X, eX⟩ : ∃ z, z = bare ((cu_pre f len 300 s.1).2, s.2.1, s.2.2) := ⟨_, rfl⟩
    obtain ⟨Y, eY⟩ : ∃ z, z = zare (cu_pre f len 300 s.1).2 := ⟨_, rfl⟩
    rw [← eX, ← eY]
    replace h : pz_rel X s.2.2 Y := by rw [eX, eY]; exact h
    obtain ⟨a1, a2, a3⟩ := h
    by_cases h2 : X.1 = -1 ∨ (cu_pre f len 300 s.1).2 = s.1
    · rw [if_pos h2, if_pos (show Y.1 = false ∨ (cu_pre f len 300 s.1).2 = s.1 by rw [← a1]; exact h2)]
      exact ⟨a1, a2, a3⟩
    · rw [if_neg h2, if_neg (show ¬ (Y.1 = false ∨ (cu_pre f len 300 s.1).2 = s.1) by rw [← a1]; exact h2)]
      have h3 : ¬ X.1 = -1 := fun z => h2 (Or.inl z)
      refine ⟨⟨fun z => absurd z (by show ¬ (0 : Int32) = -1; decide), fun z => by cases z⟩, a2, fun _ => ?_⟩
      show rs_pre f s.1 _ _ X.2.2.2 = _
      rw [pz_pre_rel, ru_adds_app, a3 (pz_no ⟨a1, a2, a3⟩ h3)]
  · rw [if_neg h1, if_neg h1]
    exact ⟨⟨fun _ => rfl, fun _ => rfl⟩, rfl, fun z => by cases z⟩
theorem pz_LF_rel (fc : rs_S → rs_R) (zc : Nat → pz_R) (hs : ∀ s, pz_rel (fc s) s.2.2 (zc s.1)) (s : rs_S) : pz_rel (rs_LF fc s) s.2.2 (zc s.1) := by
  unfold rs_LF
  by_cases h1 : (fc s).1 = 2 ∨ (fc s).1 = 1
  · rw [if_pos h1]; exact hs s
  · rw [if_neg h1]; exact hs s
theorem pz_T1_rel (f : Nat → Int32) (len : Nat) (fc : rs_S → rs_R) (zc : Nat → pz_R) (hs : ∀ s, pz_rel (fc s) s.2.2 (zc s.1)) (bh : Bool) (s : rs_S) : pz_rel (rs_T1 f len fc bh s) s.2.2 (zc s.1) := by
  unfold rs_T1
  have h := hs s
  by_cases h1 : (fc s).1 = 2 ∧ (bh = true ∨ cu_c f len (fc s).2.1 = 42 ∨ cu_c f len (fc s).2.1 = 47)
  · rw [if_pos h1]
    exact ⟨⟨fun z => absurd z (by show ¬ (0 : Int32) = -1; decide), fun z => absurd (h.1.mpr z) (by rw [h1.1]; decide)⟩, h.2.1, h.2.2⟩
  · rw [if_neg h1]; exact h
theorem pz_Tl_rel (f : Nat → Int32) (len : Nat) (T : ru_D) (lf : rs_S → rs_R) (zc : Nat → pz_R) (hs : ∀ s, pz_rel (lf s) s.2.2 (zc s.1)) : ∀ (m : Nat) (x : rs_R) (y : pz_R), pz_rel x T y → pz_rel (rs_Tl f len lf m x) T (pz_Tl f len zc m y) := by
  intro m
  induction m with
  | zero => intro x y h; exact h
  | succ m ih =>
    intro x y h
    have h' := h
    obtain ⟨a1, a2, a3⟩ := h
    unfold rs_Tl pz_Tl
    by_cases h1 : x.1 = -1
    · rw [if_pos h1, if_pos (a1.mp h1)]; exact h'
    have hy : y.1 = true := pz_no h' h1
    rw [if_neg h1, if_neg (show ¬ y.1 = false by rw [hy]; decide)]
    by_cases h2 : cu_c f len x.2.1 = 42 ∨ cu_c f len x.2.1 = 47
    · rw [if_pos h2, if_pos (show cu_c f len y.2.1 = 42 ∨ cu_c f len y.2.1 = 47 by rw [← a2]; exact h2)]
      apply ih
      obtain ⟨b1, b2, b3⟩ := hs (x.2.1 + 1, x.2.2.1, x.2.2.2)
      rw [← a2]
      refine ⟨?_, b2, fun z => ?_⟩
      · show (if (lf (x.2.1 + 1, x.2.2.1, x.2.2.2)).1 = -1 then (-1 : Int32) else 1) = -1 ↔ (zc (x.2.1 + 1)).1 = false
        rw [← b1]
        by_cases h3 : (lf (x.2.1 + 1, x.2.2.1, x.2.2.2)).1 = -1
        · rw [if_pos h3]; exact ⟨fun _ => h3, fun _ => rfl⟩
        · rw [if_neg h3]; exact ⟨fun z => absurd z (by decide), fun z => absurd z h3⟩
      · show ru_add (lf (x.2.1 + 1, x.2.2.1, x.2.2.2)).2.2.2 (cu_c f len x.2.1) 0 = ru_adds T (y.2.2 ++ (zc (x.2.1 + 1)).2.2 ++ [(cu_c f len x.2.1, 0)])
        rw [ru_adds_app, ru_adds_app, ← a3 hy, ← b3 z]; rfl
    · rw [if_neg h2, if_neg (show ¬ (cu_c f len y.2.1 = 42 ∨ cu_c f len y.2.1 = 47) by rw [← a2]; exact h2)]; exact h'
theorem pz_El_rel (f : Nat → Int32) (len : Nat) (T : ru_D) (lf : rs_S → rs_R) (zc : Nat → pz_R) (hs : ∀ s, pz_rel (lf s) s.2.2 (zc s.1)) : ∀ (m : Nat) (x : rs_R) (y : pz_R), pz_rel x T y → pz_rel (rs_El f len lf m x) T (pz_El f len zc m y) := by
  intro m
  induction m with
  | zero => intro x y h; exact h
  | succ m ih =>
    intro x y h
    have h' := h
    obtain ⟨a1, a2, a3⟩ := h
    unfold rs_El pz_El
    by_cases h1 : x.1 = -1
    · rw [if_pos h1, if_pos (a1.mp h1)]; exact h'
    have hy : y.1 = true := pz_no h' h1
    rw [if_neg h1, if_neg (show ¬ y.1 = false by rw [hy]; decide)]
    by_cases h2 : cu_c f len x.2.1 = 43 ∨ cu_c f len x.2.1 = 45
    · rw [if_pos h2, if_pos (show cu_c f len y.2.1 = 43 ∨ cu_c f len y.2.1 = 45 by rw [← a2]; exact h2)]
      apply ih
      obtain ⟨b1, b2, b3⟩ := hs (x.2.1 + 1, x.2.2.1, x.2.2.2)
      rw [← a2]
      refine ⟨?_, b2, fun z => ?_⟩
      · show (if (lf (x.2.1 + 1, x.2.2.1, x.2.2.2)).1 = -1 then (-1 : Int32) else 2) = -1 ↔ (zc (x.2.1 + 1)).1 = false
        rw [← b1]
        by_cases h3 : (lf (x.2.1 + 1, x.2.2.1, x.2.2.2)).1 = -1
        · rw [if_pos h3]; exact ⟨fun _ => h3, fun _ => rfl⟩
        · rw [if_neg h3]; exact ⟨fun z => absurd z (by decide), fun z => absurd z h3⟩
      · show ru_add (lf (x.2.1 + 1, x.2.2.1, x.2.2.2)).2.2.2 (cu_c f len x.2.1) 0 = ru_adds T (y.2.2 ++ (zc (x.2.1 + 1)).2.2 ++ [(cu_c f len x.2.1, 0)])
        rw [ru_adds_app, ru_adds_app, ← a3 hy, ← b3 z]; rfl
    · rw [if_neg h2, if_neg (show ¬ (cu_c f len y.2.1 = 43 ∨ cu_c f len y.2.1 = 45) by rw [← a2]; exact h2)]; exact h'
theorem pz_T_rel (f : Nat → Int32) (len : Nat) (fc : rs_S → rs_R) (zc : Nat → pz_R) (hs : ∀ s, pz_rel (fc s) s.2.2 (zc s.1)) (bh : Bool) (s : rs_S) : pz_rel (rs_T f len fc bh s) s.2.2 (pz_T f len zc s.1) :=
  pz_Tl_rel f len s.2.2 (rs_LF fc) zc (pz_LF_rel fc zc hs) 300 _ _ (pz_T1_rel f len fc zc hs bh s)
theorem pz_E_rel (f : Nat → Int32) (len : Nat) (fc : rs_S → rs_R) (zc : Nat → pz_R) (hs : ∀ s, pz_rel (fc s) s.2.2 (zc s.1)) (s : rs_S) : pz_rel (rs_E f len fc s) s.2.2 (pz_E f len zc s.1) :=
  pz_El_rel f len s.2.2 _ _ (fun s => pz_T_rel f len fc zc hs true s) 300 _ _ (pz_T_rel f len fc zc hs false s)
theorem pz_X_rel (f : Nat → Int32) (len : Nat) : ∀ (k : Nat) (s : rs_S), pz_rel (rs_X f len k s) s.2.2 (pz_X f len k s.1) := by
  intro k
  induction k with
  | zero => intro s; exact pz_E_rel f len _ _ (fun s => pz_F_rel f len _ _ (fun s => pz_bare_rel f len _ _ (fun s => ⟨⟨fun _ => rfl, fun _ => rfl⟩, rfl, fun z => by cases z⟩) true s) s) s
  | succ k ih => intro s; exact pz_E_rel f len _ _ (fun s => pz_F_rel f len _ _ (fun s => pz_bare_rel f len _ _ ih false s) s) s
