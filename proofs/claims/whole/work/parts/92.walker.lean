/-! The walker along the text of an expression -/
section
variable {I : Nat → Int32} {F : Nat → Nat → Int32} {c : Nat} {f : Nat → Int32} {len : Nat}
def tx (f : Nat → Int32) (len a : Nat) (Z : List Int32) : Prop := ∀ i, i < Z.length → a + i < len ∧ f (a + i) = gl Z i
theorem tx_app {a : Nat} {Y Z : List Int32} (h : tx f len a (Y ++ Z)) : tx f len a Y ∧ tx f len (a + Y.length) Z := by
  constructor
  · intro i hi
    have := h i (by rw [List.length_append]; omega)
    refine ⟨this.1, this.2.trans ?_⟩
    unfold gl; rw [List.getD_eq_getElem?_getD, List.getD_eq_getElem?_getD, List.getElem?_append_left hi]
  · intro i hi
    have := h (Y.length + i) (by rw [List.length_append]; omega)
    rw [show a + Y.length + i = a + (Y.length + i) by omega]
    refine ⟨this.1, this.2.trans ?_⟩
    unfold gl; rw [List.getD_eq_getElem?_getD, List.getD_eq_getElem?_getD, List.getElem?_append_right (by omega), show Y.length + i - Y.length = i by omega]
theorem tx_cons {a : Nat} {x : Int32} {Z : List Int32} (h : tx f len a (x :: Z)) : a < len ∧ cu_c f len a = x ∧ tx f len (a + 1) Z := by
  have h0 := h 0 (by simp)
  rw [Nat.add_zero] at h0
  exact ⟨h0.1, (if_pos h0.1).trans h0.2, (tx_app (Y := [x]) h).2⟩
theorem tx_le {a : Nat} {Z : List Int32} (h : tx f len a Z) (ha : a ≤ len) : a + Z.length ≤ len := by
  cases hz : Z.length with
  | zero => omega
  | succ n => have := (h n (by omega)).1; omega
def nd (f : Nat → Int32) (len a : Nat) : Prop := ¬ (¬ cu_c f len a < 48 ∧ ¬ 57 < cu_c f len a)
theorem nd_of {a : Nat} {x : Int32} (h : cu_c f len a = x) (hx : x < 48) : nd f len a := fun z => z.1 (by rw [h]; exact hx)
def wkm (r : Option Int64) (x : wk_R) (lo pl : Nat) : Prop := (∀ v, r = some v → x = (v, pl, false)) ∧ (r = none → x.2.2 = true ∧ lo ≤ x.2.1 ∧ x.2.1 ≤ pl)
theorem wkm_lo {r : Option Int64} {x : wk_R} {lo lo' pl : Nat} (h : wkm r x lo pl) (hl : lo' ≤ lo) : wkm r x lo' pl := ⟨h.1, fun z => ⟨(h.2 z).1, by have := (h.2 z).2.1; omega, (h.2 z).2.2⟩⟩
/-- factors and what is bare, at level k -/
def wbk (I : Nat → Int32) (F : Nat → Nat → Int32) (c : Nat) (f : Nat → Int32) (len : Nat) : Nat → Nat → wk_R
  | 0 => wk_bare I F c f len (fun _ => (0, 0, false)) true
  | k + 1 => wk_bare I F c f len (wk_X I F c f len k) false
def wfk (I : Nat → Int32) (F : Nat → Nat → Int32) (c : Nat) (f : Nat → Int32) (len : Nat) (k a : Nat) : wk_R := wk_fin F c f a (cu_pre f len 300 a).2 (wbk I F c f len k (cu_pre f len 300 a).2)
theorem wk_X_f (k : Nat) : wk_X I F c f len k = wk_E f len (wk_T f len (wfk I F c f len k)) := by
  cases k <;> rfl
def ap1 (F : Nat → Nat → Int32) (c : Nat) (s : Int64 × Bool) (x : Int32 × Int32) : Int64 × Bool := if s.2 = true then s else if x.1 = 126 then (-s.1, s.2) else if x.1 = 102 then ((pl_onF (F 5) s.1.toInt32 0 c).toInt64, decide (¬ (¬ s.1.toInt32 < 0 ∧ ¬ 2 ≤ s.1.toInt32))) else (pl_worst F x.2 s.1 0 0 c c, s.2)
theorem ap1_t (L : pz_P) (v : Int64) : L.foldl (ap1 F c) (v, true) = (v, true) := by
  induction L with
  | nil => rfl
  | cons x L ih => show L.foldl (ap1 F c) (ap1 F c (v, true) x) = _; rw [show ap1 F c (v, true) x = (v, true) from if_pos rfl]; exact ih
theorem wk_app_f (first : Nat) : ∀ (m n : Nat) (v : Int64) (op : Bool), wk_app F c f first m n v op = (pz_pre f first m n).foldl (ap1 F c) (v, op) := by
  intro m
  induction m with
  | zero => intro n v op; rfl
  | succ m ih =>
    intro n v op
    unfold wk_app pz_pre
    by_cases h1 : n ≤ first
    · rw [if_pos h1, if_pos h1]; rfl
    rw [if_neg h1, if_neg h1]
    cases op with
    | true => rw [if_pos rfl, ap1_t]
    | false =>
      rw [if_neg (by decide)]
      by_cases h2 : f (n - 1) = 45
      · rw [if_pos h2, if_pos h2, ih]; rfl
      rw [if_neg h2, if_neg h2]
      by_cases h3 : f (n - 1) = 102
      · rw [if_pos h3, if_pos h3, ih]; rfl
      rw [if_neg h3, if_neg h3, ih]; rfl
/-- a factor's text: what stands before it, what is bare -/
def FR (I : Nat → Int32) (F : Nat → Nat → Int32) (c : Nat) (f : Nat → Int32) (len k : Nat) (Z : List Int32) (r : Option Int64) : Prop := ∀ a, a ≤ len → tx f len a Z → nd f len (a + Z.length) → ∃ (p : Nat) (L : pz_P), a ≤ p ∧ (∀ m, len ≤ m + a → cu_pre f len m a = (true, p)) ∧ (∀ b q, b ≤ a → p ≤ q + b → ∃ q', a ≤ q' + b ∧ pz_pre f b q p = L ++ pz_pre f b q' a) ∧ wkm r ((L.foldl (ap1 F c) ((wbk I F c f len k p).1, (wbk I F c f len k p).2.2)).1, (wbk I F c f len k p).2.1, (L.foldl (ap1 F c) ((wbk I F c f len k p).1, (wbk I F c f len k p).2.2)).2) a (a + Z.length)
theorem FR_use {k : Nat} {Z : List Int32} {r : Option Int64} (hl : len ≤ 300) (h : FR I F c f len k Z r) (a : Nat) (ha : a ≤ len) (ht : tx f len a Z) (hn : nd f len (a + Z.length)) : wkm r (wfk I F c f len k a) a (a + Z.length) := by
  obtain ⟨p, L, h1, h2, h3, h4⟩ := h a ha ht hn
  have e := h2 300 (by omega)
  unfold wfk wk_fin
  rw [e]
  show wkm r ((wk_app F c f a p p (wbk I F c f len k p).1 (wbk I F c f len k p).2.2).1, (wbk I F c f len k p).2.1, (wk_app F c f a p p (wbk I F c f len k p).1 (wbk I F c f len k p).2.2).2) _ _
  rw [wk_app_f]
  obtain ⟨q', _, e2⟩ := h3 a p (Nat.le_refl _) (by omega)
  have eL : pz_pre f a p p = L := by
    rw [e2]
    cases q' with
    | zero => exact List.append_nil L
    | succ q => rw [show pz_pre f a (q + 1) a = [] from if_pos (Nat.le_refl _)]; exact List.append_nil L
  rw [eL]; exact h4
theorem FR_core {k : Nat} {Z : List Int32} {r : Option Int64} (h : ∀ a, a ≤ len → tx f len a Z → nd f len (a + Z.length) → ¬ (cu_c f len a = 45 ∨ cu_c f len a = 102 ∨ cu_c f len a = 99) ∧ wkm r (wbk I F c f len k a) a (a + Z.length)) : FR I F c f len k Z r := by
  intro a ha ht hn
  obtain ⟨h1, h2⟩ := h a ha ht hn
  refine ⟨a, [], Nat.le_refl _, fun m _ => ?_, fun b q hb hq => ⟨q, hq, rfl⟩, h2⟩
  cases m with
  | zero => rfl
  | succ m => exact if_neg h1
theorem ev_ap {x : Int32 × Int32} {r : Option Int64} {y : Int64 × Bool} {pl' lo pl : Nat} (hlo : lo ≤ pl) (h : wkm r (y.1, pl', y.2) lo pl) : wkm (r.bind (ev_un F c 0 x)) ((ap1 F c y x).1, pl', (ap1 F c y x).2) lo pl := by
  cases r with
  | none =>
    have hy : y.2 = true := (h.2 rfl).1
    refine ⟨fun v e => (by cases e), fun _ => ⟨?_, (h.2 rfl).2⟩⟩
    show (ap1 F c y x).2 = true
    rw [show ap1 F c y x = y from if_pos hy]; exact hy
  | some v =>
    have e := h.1 v rfl
    have e1 : y.1 = v := congrArg Prod.fst e
    have e2 : pl' = pl := congrArg (fun z => z.2.1) e
    have e3 : y.2 = false := congrArg (fun z => z.2.2) e
    obtain ⟨y1, y2⟩ := y
    replace e1 : y1 = v := e1
    replace e3 : y2 = false := e3
    subst e1 e2 e3
    show wkm (ev_un F c 0 x y1) _ _ _
    unfold ev_un ap1
    rw [if_neg (show ¬ (y1, false).2 = true from fun z => Bool.false_ne_true z)]
    by_cases h1 : x.1 = 126
    · rw [if_pos h1, if_pos h1]; exact ⟨fun w ew => by rw [← Option.some.inj ew], fun z => by cases z⟩
    rw [if_neg h1, if_neg h1]
    by_cases h2 : x.1 = 102
    · rw [if_pos h2, if_pos h2]
      by_cases h3 : gt_bl y1.toInt32 2
      · rw [if_pos h3]
        refine ⟨fun w ew => ?_, fun z => by cases z⟩
        rw [← Option.some.inj ew, show decide (¬ (¬ y1.toInt32 < 0 ∧ ¬ 2 ≤ y1.toInt32)) = false from decide_eq_false (fun q => q h3)]
      · rw [if_neg h3]
        exact ⟨fun w ew => (by cases ew), fun _ => ⟨decide_eq_true h3, hlo, Nat.le_refl _⟩⟩
    · rw [if_neg h2, if_neg h2]; exact ⟨fun w ew => by rw [← Option.some.inj ew], fun z => by cases z⟩
theorem FR_un {k : Nat} {Z : List Int32} {r : Option Int64} (x : Int32) (hx : x = 126 ∨ x = 102) (h : FR I F c f len k Z r) : FR I F c f len k ((if x = 126 then 45 else 102) :: Z) (r.bind (ev_un F c 0 (x, 0))) := by
  intro a ha ht hn
  obtain ⟨t1, t2, t3⟩ := tx_cons ht
  have hlen : a + ((if x = 126 then (45 : Int32) else 102) :: Z).length = a + 1 + Z.length := by rw [List.length_cons]; omega
  rw [hlen] at hn ⊢
  obtain ⟨p, L, h1, h2, h3, h4⟩ := h (a + 1) (by omega) t3 hn
  have hfa : f a = (if x = 126 then (45 : Int32) else 102) := (if_pos t1).symm.trans t2
  have hpx : ∀ b q, ¬ a + 1 ≤ b → pz_pre f b (q + 1) (a + 1) = (x, 0) :: pz_pre f b q a := by
    intro b q hb
    show (if a + 1 ≤ b then _ else if f (a + 1 - 1) = 45 then _ else if f (a + 1 - 1) = 102 then _ else _) = _
    rw [show a + 1 - 1 = a by omega, if_neg hb, hfa]
    rcases hx with rfl | rfl <;> rfl
  refine ⟨p, L ++ [(x, 0)], by omega, fun m hm => ?_, fun b q hb hq => ?_, ?_⟩
  · obtain ⟨m', rfl⟩ : ∃ z, m = z + 1 := ⟨m - 1, by omega⟩
    have hc : ¬ cu_c f len a = 99 := by rw [t2]; rcases hx with rfl | rfl <;> decide
    show (if cu_c f len a = 45 ∨ cu_c f len a = 102 ∨ cu_c f len a = 99 then (if cu_c f len a = 99 then _ else cu_pre f len m' (a + 1)) else _) = _
    rw [if_pos (by rw [t2]; rcases hx with rfl | rfl <;> decide), if_neg hc]
    exact h2 m' (by omega)
  · obtain ⟨q', e1, e2⟩ := h3 b q (by omega) hq
    obtain ⟨q2, rfl⟩ : ∃ z, q' = z + 1 := ⟨q' - 1, by omega⟩
    exact ⟨q2, by omega, by rw [e2, hpx b q2 (by omega), List.append_assoc]; rfl⟩
  · rw [List.foldl_append]
    exact wkm_lo (ev_ap (x := (x, 0)) (by omega) h4) (by omega)
theorem FR_cc {k : Nat} {Z : List Int32} {r : Option Int64} (x : Int32) (hx : cu_isd x 8) (h : FR I F c f len k Z r) : FR I F c f len k (99 :: x :: Z) (r.bind (ev_un F c 0 (99, x - 48))) := by
  intro a ha ht hn
  obtain ⟨t1, t2, t3⟩ := tx_cons ht
  obtain ⟨t4, t5, t6⟩ := tx_cons t3
  have hlen : a + (99 :: x :: Z).length = a + 1 + 1 + Z.length := by rw [List.length_cons, List.length_cons]; omega
  rw [hlen] at hn ⊢
  obtain ⟨p, L, h1, h2, h3, h4⟩ := h (a + 1 + 1) (by omega) t6 hn
  have hfa : f (a + 1) = x := (if_pos t4).symm.trans t5
  have hpx : ∀ b q, ¬ a + 2 ≤ b → pz_pre f b (q + 1) (a + 2) = (99, x - 48) :: pz_pre f b q a := by
    intro b q hb
    show (if a + 2 ≤ b then _ else if f (a + 2 - 1) = 45 then _ else if f (a + 2 - 1) = 102 then _ else _) = _
    rw [show a + 2 - 1 = a + 1 by omega, if_neg hb, hfa, if_neg (fun q => by rw [q] at hx; exact absurd hx (by decide)), if_neg (fun q => by rw [q] at hx; exact absurd hx (by decide))]
    rfl
  refine ⟨p, L ++ [(99, x - 48)], by omega, fun m hm => ?_, fun b q hb hq => ?_, ?_⟩
  · obtain ⟨m', rfl⟩ : ∃ z, m = z + 1 := ⟨m - 1, by omega⟩
    show (if cu_c f len a = 45 ∨ cu_c f len a = 102 ∨ cu_c f len a = 99 then (if cu_c f len a = 99 then (if cu_isd (cu_c f len (a + 1)) 8 then cu_pre f len m' (a + 2) else _) else _) else _) = _
    rw [if_pos (by rw [t2]; decide), if_pos t2, if_pos (by rw [t5]; exact hx)]
    exact h2 m' (by omega)
  · obtain ⟨q', e1, e2⟩ := h3 b q (by omega) hq
    obtain ⟨q2, rfl⟩ : ∃ z, q' = z + 1 := ⟨q' - 1, by omega⟩
    exact ⟨q2, by omega, by rw [e2, hpx b q2 (by omega), List.append_assoc]; rfl⟩
  · rw [List.foldl_append]
    exact wkm_lo (ev_ap (x := (99, x - 48)) (by omega) h4) (by omega)
/-- a term's text -/
def TR (I : Nat → Int32) (F : Nat → Nat → Int32) (c : Nat) (f : Nat → Int32) (len k : Nat) (Z : List Int32) (r : Option Int64) : Prop := ∀ a, a ≤ len → tx f len a Z → nd f len (a + Z.length) → (∀ v, r = some v → ∃ n, n ≤ Z.length ∧ wk_T f len (wfk I F c f len k) a = wk_Tl f len (wfk I F c f len k) (300 - n) (v, a + Z.length, false)) ∧ (r = none → (wk_T f len (wfk I F c f len k) a).2.2 = true ∧ a ≤ (wk_T f len (wfk I F c f len k) a).2.1 ∧ (wk_T f len (wfk I F c f len k) a).2.1 ≤ a + Z.length)
def ER (I : Nat → Int32) (F : Nat → Nat → Int32) (c : Nat) (f : Nat → Int32) (len k : Nat) (Z : List Int32) (r : Option Int64) : Prop := ∀ a, a ≤ len → tx f len a Z → nd f len (a + Z.length) → ¬ (cu_c f len (a + Z.length) = 42 ∨ cu_c f len (a + Z.length) = 47) → (∀ v, r = some v → ∃ n, n ≤ Z.length ∧ wk_X I F c f len k a = wk_El f len (wk_T f len (wfk I F c f len k)) (300 - n) (v, a + Z.length, false)) ∧ (r = none → (wk_X I F c f len k a).2.2 = true ∧ a ≤ (wk_X I F c f len k a).2.1 ∧ (wk_X I F c f len k a).2.1 ≤ a + Z.length)
theorem wk_Tl_t {fc : Nat → wk_R} : ∀ (m : Nat) (x : wk_R), x.2.2 = true → wk_Tl f len fc m x = x := by
  intro m x h
  cases m with
  | zero => rfl
  | succ m => exact if_pos h
theorem wk_El_t {fc : Nat → wk_R} : ∀ (m : Nat) (x : wk_R), x.2.2 = true → wk_El f len fc m x = x := by
  intro m x h
  cases m with
  | zero => rfl
  | succ m => exact if_pos h
theorem wk_Tl_n {fc : Nat → wk_R} {v : Int64} {p : Nat} (h : ¬ (cu_c f len p = 42 ∨ cu_c f len p = 47)) (m : Nat) : wk_Tl f len fc m (v, p, false) = (v, p, false) := by
  cases m with
  | zero => rfl
  | succ m =>
    show (if false = true then _ else if cu_c f len p = 42 ∨ cu_c f len p = 47 then _ else _) = _
    rw [if_neg (by decide), if_neg h]
theorem wk_El_n {fc : Nat → wk_R} {v : Int64} {p : Nat} (h : ¬ (cu_c f len p = 43 ∨ cu_c f len p = 45)) (m : Nat) : wk_El f len fc m (v, p, false) = (v, p, false) := by
  cases m with
  | zero => rfl
  | succ m =>
    show (if false = true then _ else if cu_c f len p = 43 ∨ cu_c f len p = 45 then _ else _) = _
    rw [if_neg (by decide), if_neg h]
theorem TR_F {k : Nat} {Z : List Int32} {r : Option Int64} (hl : len ≤ 300) (h : FR I F c f len k Z r) : TR I F c f len k Z r := by
  intro a ha ht hn
  obtain ⟨u1, u2⟩ := FR_use hl h a ha ht hn
  refine ⟨fun v e => ⟨0, Nat.zero_le _, ?_⟩, fun e => ?_⟩
  · show wk_Tl f len (wfk I F c f len k) 300 (wfk I F c f len k a) = _
    rw [u1 v e]
  · show (wk_Tl f len (wfk I F c f len k) 300 (wfk I F c f len k a)).2.2 = true ∧ a ≤ (wk_Tl f len (wfk I F c f len k) 300 (wfk I F c f len k a)).2.1 ∧ (wk_Tl f len (wfk I F c f len k) 300 (wfk I F c f len k a)).2.1 ≤ _
    rw [wk_Tl_t _ _ (u2 e).1]; exact u2 e
theorem ER_T {k : Nat} {Z : List Int32} {r : Option Int64} (h : TR I F c f len k Z r) : ER I F c f len k Z r := by
  intro a ha ht hn h42
  obtain ⟨u1, u2⟩ := h a ha ht hn
  rw [wk_X_f]
  refine ⟨fun v e => ⟨0, Nat.zero_le _, ?_⟩, fun e => ?_⟩
  · obtain ⟨n, _, e1⟩ := u1 v e
    show wk_El f len (wk_T f len (wfk I F c f len k)) 300 (wk_T f len (wfk I F c f len k) a) = _
    rw [e1, wk_Tl_n h42]
  · show (wk_El f len (wk_T f len (wfk I F c f len k)) 300 (wk_T f len (wfk I F c f len k) a)).2.2 = true ∧ a ≤ (wk_El f len (wk_T f len (wfk I F c f len k)) 300 (wk_T f len (wfk I F c f len k) a)).2.1 ∧ (wk_El f len (wk_T f len (wfk I F c f len k)) 300 (wk_T f len (wfk I F c f len k) a)).2.1 ≤ _
    rw [wk_El_t _ _ (u2 e).1]; exact u2 e
/-- in parentheses -/
theorem FR_par {k : Nat} {Z : List Int32} {r : Option Int64} (h : ER I F c f len k Z r) : FR I F c f len (k + 1) (40 :: (Z ++ [41])) r := by
  refine FR_core (fun a ha ht hn => ?_)
  obtain ⟨t1, t2, t3⟩ := tx_cons ht
  obtain ⟨t4, t5⟩ := tx_app t3
  obtain ⟨t6, t7, _⟩ := tx_cons t5
  refine ⟨by rw [t2]; decide, ?_⟩
  obtain ⟨u1, u2⟩ := h (a + 1) (by omega) t4 (nd_of t7 (by decide)) (by rw [t7]; decide)
  have eb : wbk I F c f len (k + 1) a = ((wk_X I F c f len k (a + 1)).1, (wk_X I F c f len k (a + 1)).2.1 + 1, (wk_X I F c f len k (a + 1)).2.2) := by
    show wk_bare I F c f len (wk_X I F c f len k) false a = _
    unfold wk_bare; rw [if_pos t2, if_neg (by decide)]
  rw [eb]
  have hlen : a + (40 :: (Z ++ [41])).length = a + 1 + Z.length + 1 := by rw [List.length_cons, List.length_append, List.length_singleton]; omega
  rw [hlen]
  refine ⟨fun v e => ?_, fun e => ⟨(u2 e).1, (by have := (u2 e).2.1; omega : a ≤ (wk_X I F c f len k (a + 1)).2.1 + 1), (by have := (u2 e).2.2; omega : (wk_X I F c f len k (a + 1)).2.1 + 1 ≤ a + 1 + Z.length + 1)⟩⟩
  obtain ⟨n, _, e1⟩ := u1 v e
  rw [e1, wk_El_n (by rw [t7]; decide)]
theorem TR_mul {k : Nat} {Y Z : List Int32} {r s : Option Int64} {x : Int32} (hl : len ≤ 300) (hx : x = 42 ∨ x = 47) (h1 : TR I F c f len k Y r) (h2 : FR I F c f len k Z s) : TR I F c f len k (Y ++ x :: Z) (r.bind (fun v => s.bind (fun w => ev_bin x v w))) := by
  intro a ha ht hn
  obtain ⟨t1, t2⟩ := tx_app ht
  obtain ⟨t3, t4, t5⟩ := tx_cons t2
  have hlen : a + (Y ++ x :: Z).length = a + Y.length + 1 + Z.length := by rw [List.length_append, List.length_cons]; omega
  rw [hlen] at hn ⊢
  obtain ⟨u1, u2⟩ := h1 a ha t1 (nd_of t4 (by rcases hx with rfl | rfl <;> decide))
  obtain ⟨w1, w2⟩ := FR_use hl h2 (a + Y.length + 1) (by omega) t5 hn
  cases r with
  | none => exact ⟨fun v e => (by cases e), fun _ => ⟨(u2 rfl).1, (u2 rfl).2.1, by have := (u2 rfl).2.2; omega⟩⟩
  | some v =>
    obtain ⟨n, hn1, e1⟩ := u1 v rfl
    obtain ⟨m, hm⟩ : ∃ m, 300 - n = m + 1 := ⟨300 - n - 1, by omega⟩
    rw [e1, hm]
    have hm2 : m = 300 - (n + 1) := by omega
    have hnle : n + 1 ≤ (Y ++ x :: Z).length := by rw [List.length_append, List.length_cons]; omega
    obtain ⟨W, eW⟩ : ∃ z, z = wfk I F c f len k (a + Y.length + 1) := ⟨_, rfl⟩
    have es : wk_Tl f len (wfk I F c f len k) (m + 1) (v, a + Y.length, false) = (if x = 42 then wk_Tl f len (wfk I F c f len k) m (v * W.1, W.2.1, W.2.2) else if W.1 = 0 then wk_Tl f len (wfk I F c f len k) m (v, W.2.1, true) else wk_Tl f len (wfk I F c f len k) m (v / W.1, W.2.1, W.2.2)) := by
      show (if false = true then _ else if cu_c f len (a + Y.length) = 42 ∨ cu_c f len (a + Y.length) = 47 then _ else _) = _
      rw [if_neg (by decide), if_pos (by rw [t4]; exact hx), t4, eW]
    rw [es]
    rw [← eW] at w1 w2
    cases s with
    | none =>
      obtain ⟨hf, hb1, hb2⟩ := w2 rfl
      refine ⟨fun z e => (by cases e), fun _ => ?_⟩
      by_cases q : x = 42
      · rw [if_pos q, wk_Tl_t m (v * W.1, W.2.1, W.2.2) hf]; exact ⟨hf, (by omega : a ≤ W.2.1), hb2⟩
      · rw [if_neg q]
        by_cases q2 : W.1 = 0
        · rw [if_pos q2, wk_Tl_t m (v, W.2.1, true) rfl]; exact ⟨rfl, (by omega : a ≤ W.2.1), hb2⟩
        · rw [if_neg q2, wk_Tl_t m (v / W.1, W.2.1, W.2.2) hf]; exact ⟨hf, (by omega : a ≤ W.2.1), hb2⟩
    | some w =>
      have hw := w1 w rfl
      rw [hw]
      show (∀ z, ev_bin x v w = some z → _) ∧ (ev_bin x v w = none → _)
      rcases hx with rfl | rfl
      · refine ⟨fun z e => ⟨n + 1, hnle, ?_⟩, fun e => by cases e⟩
        rw [if_pos rfl, hm2, show v * w = z from Option.some.inj e]
      · rw [show ev_bin 47 v w = (if w = 0 then none else some (v / w)) from rfl, if_neg (show ¬ (47 : Int32) = 42 by decide)]
        by_cases q : w = 0
        · rw [if_pos q, if_pos (show (w, a + Y.length + 1 + Z.length, false).1 = 0 from q)]
          exact ⟨fun z e => (by cases e), fun _ => by rw [wk_Tl_t _ _ rfl]; exact ⟨rfl, (by omega : a ≤ a + Y.length + 1 + Z.length), Nat.le_refl _⟩⟩
        · rw [if_neg q, if_neg (show ¬ (w, a + Y.length + 1 + Z.length, false).1 = 0 from q)]
          exact ⟨fun z e => ⟨n + 1, hnle, by rw [hm2, show v / (w, a + Y.length + 1 + Z.length, false).1 = z from Option.some.inj e]⟩, fun e => (by cases e)⟩
theorem ER_add {k : Nat} {Y Z : List Int32} {r s : Option Int64} {x : Int32} (hl : len ≤ 300) (hx : x = 43 ∨ x = 45) (h1 : ER I F c f len k Y r) (h2 : TR I F c f len k Z s) : ER I F c f len k (Y ++ x :: Z) (r.bind (fun v => s.bind (fun w => ev_bin x v w))) := by
  intro a ha ht hn h42
  obtain ⟨t1, t2⟩ := tx_app ht
  obtain ⟨t3, t4, t5⟩ := tx_cons t2
  have hlen : a + (Y ++ x :: Z).length = a + Y.length + 1 + Z.length := by rw [List.length_append, List.length_cons]; omega
  rw [hlen] at hn h42 ⊢
  obtain ⟨u1, u2⟩ := h1 a ha t1 (nd_of t4 (by rcases hx with rfl | rfl <;> decide)) (by rw [t4]; rcases hx with rfl | rfl <;> decide)
  obtain ⟨w1, w2⟩ := h2 (a + Y.length + 1) (by omega) t5 hn
  cases r with
  | none => exact ⟨fun v e => (by cases e), fun _ => ⟨(u2 rfl).1, (u2 rfl).2.1, by have := (u2 rfl).2.2; omega⟩⟩
  | some v =>
    obtain ⟨n, hn1, e1⟩ := u1 v rfl
    obtain ⟨m, hm⟩ : ∃ m, 300 - n = m + 1 := ⟨300 - n - 1, by omega⟩
    rw [e1, hm]
    have hm2 : m = 300 - (n + 1) := by omega
    have hnle : n + 1 ≤ (Y ++ x :: Z).length := by rw [List.length_append, List.length_cons]; omega
    obtain ⟨W, eW⟩ : ∃ z, z = wk_T f len (wfk I F c f len k) (a + Y.length + 1) := ⟨_, rfl⟩
    have es : wk_El f len (wk_T f len (wfk I F c f len k)) (m + 1) (v, a + Y.length, false) = (if x = 43 then wk_El f len (wk_T f len (wfk I F c f len k)) m (v + W.1, W.2.1, W.2.2) else wk_El f len (wk_T f len (wfk I F c f len k)) m (v - W.1, W.2.1, W.2.2)) := by
      show (if false = true then _ else if cu_c f len (a + Y.length) = 43 ∨ cu_c f len (a + Y.length) = 45 then _ else _) = _
      rw [if_neg (by decide), if_pos (by rw [t4]; exact hx), t4, eW]
    rw [es]
    rw [← eW] at w1 w2
    cases s with
    | none =>
      obtain ⟨hf, hb1, hb2⟩ := w2 rfl
      refine ⟨fun z e => (by cases e), fun _ => ?_⟩
      by_cases q : x = 43
      · rw [if_pos q, wk_El_t m (v + W.1, W.2.1, W.2.2) hf]; exact ⟨hf, (by omega : a ≤ W.2.1), hb2⟩
      · rw [if_neg q, wk_El_t m (v - W.1, W.2.1, W.2.2) hf]; exact ⟨hf, (by omega : a ≤ W.2.1), hb2⟩
    | some w =>
      obtain ⟨n2, _, hw⟩ := w1 w rfl
      rw [wk_Tl_n h42] at hw
      rw [hw]
      show (∀ z, ev_bin x v w = some z → _) ∧ (ev_bin x v w = none → _)
      rcases hx with rfl | rfl
      · refine ⟨fun z e => ⟨n + 1, hnle, ?_⟩, fun e => by cases e⟩
        rw [if_pos rfl, hm2, show v + w = z from Option.some.inj e]
      · refine ⟨fun z e => ⟨n + 1, hnle, ?_⟩, fun e => by cases e⟩
        rw [if_neg (by decide), hm2, show v - w = z from Option.some.inj e]
end
