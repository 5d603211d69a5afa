/-! Sets of faults as numbers below 1024: fewer first, then by the least fault -/
def sb (a i : Nat) : Bool := a.testBit i
theorem sb_bv {a : Nat} (ha : a < 1024) (i : Nat) (hi : i < 10) : (nI a).toBitVec.getLsbD i = sb a i := by
  have e : (nI a).toBitVec = BitVec.ofNat 32 a := rfl
  rw [e, BitVec.getLsbD_ofNat]
  unfold sb
  rw [decide_eq_true (by omega : i < 32), Bool.true_and]
theorem sb_has {a : Nat} (ha : a < 1024) (i : Nat) (hi : i < 10) : ((nI a) >>> (nI i &&& 31) &&& 1 = 1) ↔ sb a i = true := by
  have h2 : ∀ i, i < 10 → (nI i &&& 31).toBitVec.smod 32 = BitVec.ofNat 32 i := by decide
  rw [bt_sh (i := i) (by omega) (h2 i hi), sb_bv ha i hi]
theorem sb_eq {a b : Nat} (ha : a < 1024) (hb : b < 1024) (h : ∀ i, i < 10 → sb a i = sb b i) : a = b := by
  apply Nat.eq_of_testBit_eq
  intro i
  by_cases z : i < 10
  · exact h i z
  · rw [Nat.testBit_lt_two_pow (Nat.lt_of_lt_of_le ha (show 2 ^ 10 ≤ 2 ^ i from Nat.pow_le_pow_right (by decide) (by omega))), Nat.testBit_lt_two_pow (Nat.lt_of_lt_of_le hb (show 2 ^ 10 ≤ 2 ^ i from Nat.pow_le_pow_right (by decide) (by omega)))]
/-- how many are in the set -/
def sc (a : Nat) : Nat → Nat
  | 0 => 0
  | i + 1 => if sb a i = true then sc a i + 1 else sc a i
theorem sc_many {a : Nat} (ha : a < 1024) : ∀ i, i ≤ 10 → mo_many (nI a) i = sc a i := by
  intro i
  induction i with
  | zero => intro _; rfl
  | succ i ih =>
    intro hi
    unfold mo_many sc
    rw [ih (by omega)]
    by_cases z : sb a i = true
    · rw [if_pos ((sb_has ha i (by omega)).mpr z), if_pos z]
    · rw [if_neg (fun q => z ((sb_has ha i (by omega)).mp q)), if_neg z]
theorem sc_le (a : Nat) : ∀ i, sc a i ≤ i := by
  intro i
  induction i with
  | zero => exact Nat.le_refl _
  | succ i ih => unfold sc; split <;> omega
/-- the least fault in which they differ is a's -/
def fs (a b : Nat) : Prop := ∃ m, m < 10 ∧ sb a m = true ∧ sb b m = false ∧ ∀ i, i < m → sb a i = sb b i
def slt (a b : Nat) : Prop := sc a 10 < sc b 10 ∨ (sc a 10 = sc b 10 ∧ fs a b)
theorem fs_tr {a b d : Nat} (h1 : fs a b) (h2 : fs b d) : fs a d := by
  obtain ⟨m, m1, m2, m3, m4⟩ := h1
  obtain ⟨n, n1, n2, n3, n4⟩ := h2
  by_cases z : m < n
  · exact ⟨m, m1, m2, (n4 m z).symm.trans m3, fun i hi => (m4 i hi).trans (n4 i (by omega))⟩
  · have hmn : ¬ m = n := fun q => by rw [q] at m3; rw [m3] at n2; cases n2
    exact ⟨n, n1, (m4 n (by omega)).trans n2, n3, fun i hi => (m4 i (by omega)).trans (n4 i hi)⟩
theorem slt_tr {a b d : Nat} (h1 : slt a b) (h2 : slt b d) : slt a d := by
  rcases h1 with h1 | ⟨h1, f1⟩ <;> rcases h2 with h2 | ⟨h2, f2⟩
  · exact Or.inl (by omega)
  · exact Or.inl (by omega)
  · exact Or.inl (by omega)
  · exact Or.inr ⟨by omega, fs_tr f1 f2⟩
theorem fs_ir {a : Nat} (h : fs a a) : False := by
  obtain ⟨m, _, m2, m3, _⟩ := h
  rw [m2] at m3; cases m3
theorem slt_ir {a : Nat} (h : slt a a) : False := h.elim (fun z => absurd z (Nat.lt_irrefl _)) (fun z => fs_ir z.2)
theorem first_diff {P : Nat → Prop} : ∀ n, (∃ i, i < n ∧ P i) → ∃ m, m < n ∧ P m ∧ ∀ i, i < m → ¬ P i := by
  intro n
  induction n with
  | zero => intro h; obtain ⟨i, hi, _⟩ := h; omega
  | succ n ih =>
    intro h
    by_cases z : ∃ i, i < n ∧ P i
    · obtain ⟨m, h1, h2, h3⟩ := ih z
      exact ⟨m, by omega, h2, h3⟩
    · obtain ⟨i, hi, hp⟩ := h
      have e : i = n := Classical.byContradiction fun q => z ⟨i, by omega, hp⟩
      subst e
      exact ⟨i, by omega, hp, fun j hj q => z ⟨j, hj, q⟩⟩
theorem fs_tot {a b : Nat} (ha : a < 1024) (hb : b < 1024) (h : ¬ a = b) : fs a b ∨ fs b a := by
  have hd : ∃ i, i < 10 ∧ ¬ sb a i = sb b i := Classical.byContradiction fun z => h (sb_eq ha hb (fun i hi => Classical.byContradiction fun q => z ⟨i, hi, q⟩))
  obtain ⟨m, h1, h2, h3⟩ := first_diff (P := fun i => ¬ sb a i = sb b i) 10 hd
  have h4 : ∀ i, i < m → sb a i = sb b i := fun i hi => Classical.byContradiction fun q => h3 i hi q
  cases ea : sb a m with
  | true =>
    cases eb : sb b m with
    | true => exact absurd (ea.trans eb.symm) h2
    | false => exact Or.inl ⟨m, h1, ea, eb, h4⟩
  | false =>
    cases eb : sb b m with
    | true => exact Or.inr ⟨m, h1, eb, ea, fun i hi => (h4 i hi).symm⟩
    | false => exact absurd (ea.trans eb.symm) h2
theorem slt_tot {a b : Nat} (ha : a < 1024) (hb : b < 1024) (h : ¬ a = b) : slt a b ∨ slt b a := by
  rcases Nat.lt_trichotomy (sc a 10) (sc b 10) with z | z | z
  · exact Or.inl (Or.inl z)
  · exact (fs_tot ha hb h).elim (fun q => Or.inl (Or.inr ⟨z, q⟩)) (fun q => Or.inr (Or.inr ⟨z.symm, q⟩))
  · exact Or.inr (Or.inl z)
theorem low_bit : ∀ x, x < 1024 → ¬ x = 0 → ∃ t, t < 10 ∧ sb x t = true ∧ (∀ i, i < t → sb x i = false) ∧ nI x &&& -(nI x) = nI (2 ^ t) := by
  decide +kernel
theorem and_bit : ∀ a, a < 1024 → ∀ t, t < 10 → (nI a &&& nI (2 ^ t) = 0 ↔ sb a t = false) := by
  decide +kernel
theorem nI_xor {a b : Nat} (ha : a < 1024) (hb : b < 1024) : nI a ^^^ nI b = nI (a ^^^ b) := by
  apply Int32.toBitVec_inj.mp
  rw [Int32.toBitVec_xor]
  show BitVec.ofNat 32 a ^^^ BitVec.ofNat 32 b = BitVec.ofNat 32 (a ^^^ b)
  rw [BitVec.ofNat_xor]
theorem fs_first {a b : Nat} (ha : a < 1024) (hb : b < 1024) : (¬ nI a &&& (nI a ^^^ nI b) &&& -(nI a ^^^ nI b) = 0) ↔ fs a b := by
  rw [nI_xor ha hb, Int32.and_assoc]
  have hx : a ^^^ b < 1024 := Nat.xor_lt_two_pow (n := 10) ha hb
  by_cases z : a ^^^ b = 0
  · rw [z]
    refine ⟨fun q => absurd (by show nI a &&& (nI 0 &&& -(nI 0)) = 0; rw [show nI 0 &&& -(nI 0) = 0 from by decide, Int32.and_zero]) q, fun q => ?_⟩
    have hab : a = b := by
      apply Nat.eq_of_testBit_eq
      intro i
      have := congrArg (fun w => w.testBit i) z
      rw [Nat.testBit_xor, Nat.zero_testBit] at this
      cases h1 : a.testBit i <;> cases h2 : b.testBit i <;> rw [h1, h2] at this <;> first | rfl | cases this
    rw [hab] at q
    exact (fs_ir q).elim
  · obtain ⟨t, t1, t2, t3, t4⟩ := low_bit _ hx z
    rw [t4, and_bit a ha t t1]
    have hxor : ∀ i, sb (a ^^^ b) i = (sb a i ^^ sb b i) := fun i => Nat.testBit_xor ..
    have hlow : ∀ i, i < t → sb a i = sb b i := fun i hi => by
      have := t3 i hi
      rw [hxor] at this
      cases h1 : sb a i <;> cases h2 : sb b i <;> rw [h1, h2] at this <;> first | rfl | cases this
    have hdif : ¬ sb a t = sb b t := fun q => by
      rw [hxor, q] at t2
      cases h2 : sb b t <;> rw [h2] at t2 <;> cases t2
    constructor
    · intro q
      have e1 : sb a t = true := by cases e : sb a t; exact absurd e q; rfl
      refine ⟨t, t1, e1, ?_, hlow⟩
      cases e : sb b t
      · rfl
      · exact absurd (e1.trans e.symm) hdif
    · rintro ⟨m, m1, m2, m3, m4⟩ q
      have e : m = t := by
        rcases Nat.lt_trichotomy m t with y | y | y
        · exact absurd (hlow m y) (by rw [m2, m3]; decide)
        · exact y
        · exact absurd (m4 t y) hdif
      rw [← e, m2] at q; cases q
theorem bt_iff {a b : Nat} (ha : a < 1024) (hb : b < 1024) : mo_bt (nI a) (nI b) ↔ slt a b := by
  have h0 : ¬ nI b < 0 := nI_nlt (b := 0) (Nat.zero_le b) (by omega)
  have sa := sc_le a 10
  have sbb := sc_le b 10
  unfold mo_bt slt
  rw [sc_many ha 10 (Nat.le_refl _), sc_many hb 10 (Nat.le_refl _), fs_first ha hb, nI_eq (by omega) (by omega), show (nI (sc a 10) < nI (sc b 10)) ↔ sc a 10 < sc b 10 from by rw [Int32.lt_iff_toInt_lt, nI_toInt (by omega), nI_toInt (by omega)]; omega]
  exact ⟨fun z => z.elim (fun q => absurd q h0) id, Or.inr⟩
/-- the reference's best set -/
theorem mo_rb_min (gr : Int32 → Int32) (g : Int32) : ∀ n, n ≤ 1024 → (mo_rb gr g n = -1 ∧ ∀ t, t < n → ¬ gr (nI t) = g) ∨ ∃ s, s < n ∧ mo_rb gr g n = nI s ∧ gr (nI s) = g ∧ ∀ t, t < n → gr (nI t) = g → t = s ∨ slt s t := by
  intro n
  induction n with
  | zero => intro _; exact Or.inl ⟨rfl, fun t ht => absurd ht (by omega)⟩
  | succ n ih =>
    intro hn
    unfold mo_rb
    rcases ih (by omega) with ⟨h1, h2⟩ | ⟨s, h1, h2, h3, h4⟩
    · rw [h1]
      by_cases z : gr (nI n) = g
      · rw [if_pos ⟨Or.inl (by decide), z⟩]
        refine Or.inr ⟨n, by omega, rfl, z, fun t ht hg => Or.inl (Classical.byContradiction fun q => h2 t (by omega) hg)⟩
      · rw [if_neg (fun q => z q.2)]
        refine Or.inl ⟨rfl, fun t ht hg => ?_⟩
        by_cases e : t = n
        · rw [e] at hg; exact z hg
        · exact h2 t (by omega) hg
    · rw [h2]
      by_cases z : slt n s ∧ gr (nI n) = g
      · rw [if_pos ⟨(bt_iff (by omega) (by omega)).mpr z.1, z.2⟩]
        refine Or.inr ⟨n, by omega, rfl, z.2, fun t ht hg => ?_⟩
        by_cases e : t = n
        · exact Or.inl e
        · rcases h4 t (by omega) hg with q | q
          · rw [q]; exact Or.inr z.1
          · exact Or.inr (slt_tr z.1 q)
      · rw [if_neg (fun q => z ⟨(bt_iff (by omega) (by omega)).mp q.1, q.2⟩)]
        refine Or.inr ⟨s, by omega, rfl, h3, fun t ht hg => ?_⟩
        by_cases e : t = n
        · subst e
          exact Or.inr ((slt_tot (by omega) (by omega) (by omega)).resolve_left (fun q => z ⟨q, hg⟩))
        · exact h4 t (by omega) hg
