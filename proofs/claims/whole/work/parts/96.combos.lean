/-! Sets as rising rows of faults, in the class's order -/
def cmb (c sz : Nat) (P : Nat → Nat) : Prop := (∀ i, i < sz → P i < c) ∧ ∀ i, i + 1 < sz → P i < P (i + 1)
def cb (P : Nat → Nat) : Nat → Nat
  | 0 => 0
  | i + 1 => cb P i ||| 2 ^ P i
def lex (sz : Nat) (P R : Nat → Nat) : Prop := ∃ j, j < sz ∧ P j < R j ∧ ∀ i, i < j → P i = R i
theorem cmb_lt {c sz : Nat} {P : Nat → Nat} (h : cmb c sz P) : ∀ (k i : Nat), i + k < sz → P i + k ≤ P (i + k) := by
  intro k
  induction k with
  | zero => intro i _; exact Nat.le_refl _
  | succ k ih =>
    intro i hi
    have h1 := ih i (by omega)
    have h2 := h.2 (i + k) (by omega)
    rw [show i + (k + 1) = i + k + 1 by omega]
    omega
theorem cmb_hi {c sz : Nat} {P : Nat → Nat} (h : cmb c sz P) (i : Nat) (hi : i < sz) : P i + sz ≤ c + i := by
  have h1 := cmb_lt h (sz - 1 - i) i (by omega)
  have h2 := h.1 (i + (sz - 1 - i)) (by omega)
  omega
theorem cb_bit (P : Nat → Nat) : ∀ (n j : Nat), sb (cb P n) j = true ↔ ∃ i, i < n ∧ P i = j := by
  intro n
  induction n with
  | zero =>
    intro j
    refine ⟨fun z => ?_, fun z => ?_⟩
    · have e : sb 0 j = false := Nat.zero_testBit j
      rw [show cb P 0 = 0 from rfl, e] at z; cases z
    · obtain ⟨i, hi, _⟩ := z; omega
  | succ n ih =>
    intro j
    have e : sb (cb P (n + 1)) j = (sb (cb P n) j || decide (P n = j)) := by
      show (cb P n ||| 2 ^ P n).testBit j = _
      rw [Nat.testBit_or, Nat.testBit_two_pow]; rfl
    rw [e, Bool.or_eq_true, ih, decide_eq_true_iff]
    constructor
    · rintro (⟨i, h1, h2⟩ | h)
      · exact ⟨i, by omega, h2⟩
      · exact ⟨n, by omega, h⟩
    · rintro ⟨i, h1, h2⟩
      by_cases z : i = n
      · rw [z] at h2; exact Or.inr h2
      · exact Or.inl ⟨i, by omega, h2⟩
theorem cb_lt {c : Nat} {P : Nat → Nat} : ∀ n, (∀ i, i < n → P i < c) → cb P n < 2 ^ c := by
  intro n
  induction n with
  | zero => intro _; exact Nat.pow_pos (by decide)
  | succ n ih =>
    intro h
    exact Nat.or_lt_two_pow (ih (fun i hi => h i (by omega))) (Nat.pow_lt_pow_right (by decide) (h n (by omega)))
theorem lex_fs {c sz : Nat} {P R : Nat → Nat} (hc : c ≤ 10) (hP : cmb c sz P) (hR : cmb c sz R) (h : lex sz P R) : fs (cb P sz) (cb R sz) := by
  obtain ⟨j, h1, h2, h3⟩ := h
  have up : ∀ {Q : Nat → Nat}, cmb c sz Q → ∀ i, j < i → i < sz → Q j < Q i := fun {Q} hQ i q1 q2 => by
    have := cmb_lt hQ (i - j) j (by omega)
    rw [show j + (i - j) = i by omega] at this; omega
  have dn : ∀ i, i < j → P i < P j := fun i hi => by
    have := cmb_lt hP (j - i) i (by omega)
    rw [show i + (j - i) = j by omega] at this; omega
  have f0 : ∀ {x : Bool}, ¬ x = true → x = false := fun {x} q => by cases x; rfl; exact absurd rfl q
  refine ⟨P j, by have := hP.1 j h1; omega, (cb_bit P sz (P j)).mpr ⟨j, h1, rfl⟩, f0 (fun z => ?_), fun k hk => ?_⟩
  · obtain ⟨i, i1, i2⟩ := (cb_bit R sz (P j)).mp z
    rcases Nat.lt_trichotomy i j with q | q | q
    · have := dn i q; rw [h3 i q] at this; omega
    · rw [q] at i2; omega
    · have := up hR i q i1; omega
  · have key : sb (cb P sz) k = true ↔ sb (cb R sz) k = true := by
      rw [cb_bit, cb_bit]
      constructor
      · rintro ⟨i, i1, i2⟩
        have hij : i < j := by
          rcases Nat.lt_trichotomy i j with q | q | q
          · exact q
          · rw [q] at i2; omega
          · have := up hP i q i1; omega
        exact ⟨i, i1, by rw [← h3 i hij]; exact i2⟩
      · rintro ⟨i, i1, i2⟩
        have hij : i < j := by
          rcases Nat.lt_trichotomy i j with q | q | q
          · exact q
          · rw [q] at i2; omega
          · have := up hR i q i1; omega
        exact ⟨i, i1, by rw [h3 i hij]; exact i2⟩
    cases e1 : sb (cb P sz) k with
    | true => exact (key.mp e1).symm
    | false => exact (f0 (fun z => by rw [key.mpr z] at e1; cases e1)).symm
/-- every set is such a row -/
theorem cmb_of (t : Nat) : ∀ n, ∃ P, cmb n (sc t n) P ∧ (∀ i, i < sc t n → sb t (P i) = true) ∧ ∀ j, j < n → sb t j = true → ∃ i, i < sc t n ∧ P i = j := by
  intro n
  induction n with
  | zero => exact ⟨fun _ => 0, ⟨fun i hi => absurd hi (by show ¬ i < 0; omega), fun i hi => absurd hi (by show ¬ i + 1 < 0; omega)⟩, fun i hi => absurd hi (by show ¬ i < 0; omega), fun j hj => absurd hj (by omega)⟩
  | succ n ih =>
    obtain ⟨P, ⟨p1, p2⟩, p3, p4⟩ := ih
    by_cases z : sb t n = true
    · have e : sc t (n + 1) = sc t n + 1 := if_pos z
      rw [e]
      refine ⟨fun i => if i = sc t n then n else P i, ⟨fun i hi => ?_, fun i hi => ?_⟩, fun i hi => ?_, fun j hj hb => ?_⟩
      · show (if i = sc t n then n else P i) < n + 1
        by_cases q : i = sc t n
        · rw [if_pos q]; omega
        · rw [if_neg q]; have := p1 i (by omega); omega
      · show (if i = sc t n then n else P i) < (if i + 1 = sc t n then n else P (i + 1))
        rw [if_neg (by omega)]
        by_cases q : i + 1 = sc t n
        · rw [if_pos q]; exact p1 i (by omega)
        · rw [if_neg q]; exact p2 i (by omega)
      · show sb t (if i = sc t n then n else P i) = true
        by_cases q : i = sc t n
        · rw [if_pos q]; exact z
        · rw [if_neg q]; exact p3 i (by omega)
      · by_cases q : j = n
        · exact ⟨sc t n, by omega, by show (if sc t n = sc t n then n else _) = j; rw [if_pos rfl, q]⟩
        · obtain ⟨i, i1, i2⟩ := p4 j (by omega) hb
          exact ⟨i, by omega, by show (if i = sc t n then n else P i) = j; rw [if_neg (by omega)]; exact i2⟩
    · have e : sc t (n + 1) = sc t n := if_neg z
      rw [e]
      refine ⟨P, ⟨fun i hi => by have := p1 i hi; omega, p2⟩, p3, fun j hj hb => ?_⟩
      exact p4 j (by have : ¬ j = n := fun q => by rw [q] at hb; exact z hb
                     omega) hb
theorem sc_hi {t c : Nat} (ht : t < 2 ^ c) : ∀ n, c ≤ n → sc t n = sc t c := by
  intro n
  induction n with
  | zero => intro h; rw [show c = 0 by omega]
  | succ n ih =>
    intro h
    by_cases z : c = n + 1
    · rw [z]
    · rw [← ih (by omega)]
      exact if_neg (by unfold sb; rw [Nat.testBit_lt_two_pow (Nat.lt_of_lt_of_le ht (Nat.pow_le_pow_right (by decide) (by omega)))]; decide)
theorem cmb_ex {c t : Nat} (hc : c ≤ 10) (ht : t < 2 ^ c) : ∃ P, cmb c (sc t 10) P ∧ cb P (sc t 10) = t := by
  obtain ⟨P, p1, p2, p3⟩ := cmb_of t c
  have e := sc_hi ht 10 hc
  have h10 : 2 ^ c ≤ 1024 := mo_pow_le hc
  rw [← e] at p1 p2 p3
  refine ⟨P, p1, sb_eq (Nat.lt_of_lt_of_le (cb_lt _ p1.1) h10) (by omega) (fun j hj => ?_)⟩
  have key : sb (cb P (sc t 10)) j = true ↔ sb t j = true := by
    rw [cb_bit]
    constructor
    · rintro ⟨i, i1, i2⟩; rw [← i2]; exact p2 i i1
    · intro h
      have hjc : j < c := Classical.byContradiction fun q => by
        unfold sb at h
        rw [Nat.testBit_lt_two_pow (Nat.lt_of_lt_of_le ht (Nat.pow_le_pow_right (by decide) (by omega)))] at h; cases h
      exact p3 j hjc h
  cases e1 : sb t j with
  | true => exact key.mpr e1
  | false =>
    cases e2 : sb (cb P (sc t 10)) j with
    | true => rw [key.mp e2] at e1; cases e1
    | false => rfl
/-- the set read from its least fault on, as a number: it falls along the order -/
def rv (a : Nat) : Nat → Nat
  | 0 => 0
  | i + 1 => 2 * rv a i + (if sb a i = true then 1 else 0)
theorem rv_lt (a : Nat) : ∀ n, rv a n < 2 ^ n := by
  intro n
  induction n with
  | zero => show 0 < 1; decide
  | succ n ih => unfold rv; rw [Nat.pow_succ]; split <;> omega
theorem rv_fs {a b : Nat} (h : fs a b) : rv b 10 < rv a 10 := by
  obtain ⟨m, m1, m2, m3, m4⟩ := h
  have e : ∀ i, i ≤ m → rv a i = rv b i := by
    intro i
    induction i with
    | zero => intro _; rfl
    | succ i ih => intro hi; unfold rv; rw [ih (by omega), m4 i (by omega)]
  have g : ∀ k, rv b (m + 1 + k) < rv a (m + 1 + k) := by
    intro k
    induction k with
    | zero =>
      show 2 * rv b m + (if sb b m = true then 1 else 0) < 2 * rv a m + (if sb a m = true then 1 else 0)
      rw [e m (Nat.le_refl _), if_pos m2, if_neg (by rw [m3]; decide)]; omega
    | succ k ih =>
      show 2 * rv b (m + 1 + k) + (if sb b (m + 1 + k) = true then 1 else 0) < 2 * rv a (m + 1 + k) + (if sb a (m + 1 + k) = true then 1 else 0)
      split <;> split <;> omega
  have := g (10 - (m + 1))
  rw [show m + 1 + (10 - (m + 1)) = 10 by omega] at this
  exact this
/-- the next row -/
def cnx (P : Nat → Nat) (i : Nat) : Nat → Nat := fun j => if j < i then P j else P i + 1 + (j - i)
theorem cnx_ok {c sz i : Nat} {P : Nat → Nat} (h : cmb c sz P) (hi : i < sz) (hlt : P i + sz < c + i) : cmb c sz (cnx P i) ∧ lex sz P (cnx P i) ∧ ((∀ j, i < j → j < sz → c + j ≤ P j + sz) → ∀ R, cmb c sz R → lex sz P R → (∀ j, j < sz → R j = cnx P i j) ∨ lex sz (cnx P i) R) := by
  refine ⟨⟨fun j hj => ?_, fun j hj => ?_⟩, ⟨i, hi, ?_, fun j hj => ?_⟩, fun hlast R hR hPR => ?_⟩
  · unfold cnx
    by_cases z : j < i
    · rw [if_pos z]; exact h.1 j hj
    · rw [if_neg z]; omega
  · unfold cnx
    by_cases z : j + 1 < i
    · rw [if_pos (by omega), if_pos z]; exact h.2 j hj
    · rw [if_neg z]
      by_cases y : j < i
      · rw [if_pos y]; have := h.2 j hj; rw [show j + 1 = i by omega] at this; rw [show j + 1 - i = 0 by omega]; omega
      · rw [if_neg y]; omega
  · show P i < (if i < i then P i else P i + 1 + (i - i)); rw [if_neg (by omega)]; omega
  · show P j = (if j < i then P j else _); rw [if_pos hj]
  · obtain ⟨j, j1, j2, j3⟩ := hPR
    have hji : j ≤ i := Classical.byContradiction fun z => by
      have a1 := hlast j (by omega) j1
      have a2 := cmb_hi hR j j1
      omega
    by_cases z : j < i
    · exact Or.inr ⟨j, j1, by unfold cnx; rw [if_pos z]; exact j2, fun k hk => by unfold cnx; rw [if_pos (by omega)]; exact j3 k hk⟩
    · have e : j = i := by omega
      subst e
      by_cases hall : ∀ k, k < sz → R k = cnx P j k
      · exact Or.inl hall
      · right
        have hex : ∃ k, k < sz ∧ ¬ R k = cnx P j k := Classical.byContradiction fun q => hall (fun k hk => Classical.byContradiction fun y => q ⟨k, hk, y⟩)
        obtain ⟨k, k1, k2, k3⟩ := first_diff (P := fun k => ¬ R k = cnx P j k) sz hex
        refine ⟨k, k1, ?_, fun i hi => ((Classical.byContradiction fun y => k3 i hi y : R i = cnx P j i)).symm⟩
        have hkj : j ≤ k := Classical.byContradiction fun y => k2 (by unfold cnx; rw [if_pos (by omega)]; exact (j3 k (by omega)).symm)
        have hRk := cmb_lt hR (k - j) j (by omega)
        rw [show j + (k - j) = k by omega] at hRk
        have hc : cnx P j k = P j + 1 + (k - j) := if_neg (by omega)
        rw [hc] at k2 ⊢
        omega
