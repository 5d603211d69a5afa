/-! Numbers as they are read and printed -/
/-- the value of digits, the first the greatest -/
def dg_v : List Nat → Nat
  | [] => 0
  | d :: l => d * 10 ^ l.length + dg_v l
def dg_ok (l : List Nat) : Prop := ∀ d ∈ l, d < 10
theorem dg_lt : ∀ l : List Nat, dg_ok l → dg_v l < 10 ^ l.length := by
  intro l
  induction l with
  | nil => intro _; decide
  | cons d l ih =>
    intro h
    have h1 := ih (fun x hx => h x (List.mem_cons_of_mem _ hx))
    have h2 := h d List.mem_cons_self
    show d * 10 ^ l.length + dg_v l < 10 ^ (l.length + 1)
    rw [Nat.pow_succ]
    have := Nat.mul_le_mul_right (10 ^ l.length) (show d ≤ 9 by omega)
    omega
theorem dg_d1 {q r p : Nat} (hp : 0 < p) : (p * q + r) / p = q + r / p := by
  rw [Nat.add_comm, Nat.add_mul_div_left _ _ hp, Nat.add_comm]
theorem pr_dg_low (d k r : Nat) : ∀ i, i ≤ k → pr_dg (d * 10 ^ k + r) i = pr_dg r i := by
  intro i
  induction i with
  | zero => intro _; rfl
  | succ i ih =>
    intro hi
    show nI (48 + (d * 10 ^ k + r) / 10 ^ i % 10) :: pr_dg (d * 10 ^ k + r) i = nI (48 + r / 10 ^ i % 10) :: pr_dg r i
    rw [ih (by omega)]
    have e : d * 10 ^ k = 10 ^ i * (10 * (d * 10 ^ (k - i - 1))) := by
      rw [show k = i + (1 + (k - i - 1)) by omega, Nat.pow_add, Nat.pow_add, Nat.pow_one, show i + (1 + (k - i - 1)) - i - 1 = k - i - 1 by omega]
      rw [Nat.mul_left_comm, Nat.mul_left_comm d 10]
    rw [e, dg_d1 (Nat.pow_pos (by decide)), Nat.mul_add_mod]
def dg_c (l : List Nat) : List Int32 := l.map (fun d => nI (48 + d))
theorem pr_dg_v : ∀ l : List Nat, dg_ok l → pr_dg (dg_v l) l.length = dg_c l := by
  intro l
  induction l with
  | nil => intro _; rfl
  | cons d l ih =>
    intro h
    have h1 := dg_lt l (fun x hx => h x (List.mem_cons_of_mem _ hx))
    have h2 := h d List.mem_cons_self
    show nI (48 + (d * 10 ^ l.length + dg_v l) / 10 ^ l.length % 10) :: pr_dg (d * 10 ^ l.length + dg_v l) l.length = nI (48 + d) :: dg_c l
    rw [pr_dg_low _ _ _ _ (Nat.le_refl _), ih (fun x hx => h x (List.mem_cons_of_mem _ hx)), Nat.mul_comm d, dg_d1 (Nat.pow_pos (by decide)), Nat.div_eq_of_lt h1, Nat.add_zero, Nat.mod_eq_of_lt h2]
theorem pr_jj_at {N k : Nat} (hk : N / 10 ^ k ≤ 9) (hlt : ∀ i, i < k → ¬ N / 10 ^ i ≤ 9) : ∀ (m j : Nat), j ≤ k → k < j + m → pr_jj N m j = k := by
  intro m
  induction m with
  | zero => intro j h1 h2; omega
  | succ m ih =>
    intro j h1 h2
    unfold pr_jj
    by_cases z : j = k
    · subst z; rw [if_pos hk]
    · rw [if_neg (hlt j (by omega))]; exact ih (j + 1) (by omega) (by omega)
/-- without the zeros that lead -/
def dg_t : List Nat → List Nat
  | [] => []
  | [d] => [d]
  | d :: e :: l => if d = 0 then dg_t (e :: l) else d :: e :: l
theorem pr_num_v : ∀ l : List Nat, dg_ok l → ¬ l = [] → l.length ≤ 6 → pr_num (dg_v l) = dg_c (dg_t l) := by
  intro l
  induction l with
  | nil => intro _ h; exact absurd rfl h
  | cons d l ih =>
    intro h _ hl
    have hd := h d List.mem_cons_self
    have hok : dg_ok l := fun x hx => h x (List.mem_cons_of_mem _ hx)
    have key : (¬ d = 0 ∨ l = []) → pr_num (dg_v (d :: l)) = dg_c (d :: l) := by
      intro hz
      have h1 := dg_lt l hok
      have e1 : dg_v (d :: l) / 10 ^ l.length = d := by
        show (d * 10 ^ l.length + dg_v l) / 10 ^ l.length = d
        rw [Nat.mul_comm, Nat.add_comm, Nat.add_mul_div_left _ _ (Nat.pow_pos (by decide)), Nat.div_eq_of_lt h1, Nat.zero_add]
      have ej : pr_jj (dg_v (d :: l)) 6 0 = l.length := by
        refine pr_jj_at (by rw [e1]; omega) (fun i hi => ?_) 6 0 (Nat.zero_le _) (by rw [List.length_cons] at hl; omega)
        have hd0 : ¬ d = 0 := hz.resolve_right (fun z => by rw [z] at hi; exact absurd hi (by simp))
        intro z
        have h3 : dg_v (d :: l) < 10 ^ (i + 1) := by
          have := Nat.lt_of_div_lt_div (a := dg_v (d :: l)) (b := 10 * 10 ^ i) (c := 10 ^ i) (by rw [Nat.mul_div_cancel _ (Nat.pow_pos (by decide))]; omega)
          rw [Nat.pow_succ, Nat.mul_comm]; exact this
        have h4 : 10 ^ (i + 1) ≤ 10 ^ l.length := Nat.pow_le_pow_right (by decide) hi
        have h5 : 1 * 10 ^ l.length ≤ d * 10 ^ l.length := Nat.mul_le_mul_right _ (by omega)
        have h6 : dg_v (d :: l) = d * 10 ^ l.length + dg_v l := rfl
        omega
      unfold pr_num
      rw [ej]
      exact pr_dg_v (d :: l) h
    cases l with
    | nil => exact key (Or.inr rfl)
    | cons e l =>
      by_cases z : d = 0
      · rw [show dg_t (d :: e :: l) = dg_t (e :: l) from if_pos z, show dg_v (d :: e :: l) = dg_v (e :: l) from by show d * _ + _ = _; rw [z, Nat.zero_mul, Nat.zero_add]]
        exact ih hok (by intro q; cases q) (by rw [List.length_cons] at hl; omega)
      · rw [show dg_t (d :: e :: l) = d :: e :: l from if_neg z]
        exact key (Or.inl z)
theorem dg_v_app (l : List Nat) (d : Nat) : dg_v (l ++ [d]) = dg_v l * 10 + d := by
  induction l with
  | nil => show d * 10 ^ 0 + 0 = 0 * 10 + d; omega
  | cons x l ih =>
    show x * 10 ^ (l ++ [d]).length + dg_v (l ++ [d]) = (x * 10 ^ l.length + dg_v l) * 10 + d
    rw [ih, List.length_append, List.length_singleton, Nat.pow_succ, Nat.add_mul, Nat.mul_assoc]; omega
/-- the digits that are read at a place -/
theorem cu_num_dg {u : Nat → Int32} {n : Nat} (ht : mz_tx u n) : ∀ (m a : Nat) (l : List Nat), dg_ok l → ∃ l2, dg_ok (l ++ l2) ∧ l2.length ≤ m ∧ (cu_num u n m a (nI (dg_v l))).2 = a + l2.length ∧ (cu_num u n m a (nI (dg_v l))).1 = nI (dg_v (l ++ l2)) ∧ (∀ i, i < l2.length → u (a + i) = nI (48 + l2.getD i 0)) ∧ (a ≤ n → a + l2.length ≤ n) ∧ (¬ cu_c u n a < 48 ∧ ¬ 57 < cu_c u n a → 1 ≤ m → 1 ≤ l2.length) := by
  intro m
  induction m with
  | zero => intro a l hl; exact ⟨[], by rw [List.append_nil]; exact hl, Nat.le_refl _, rfl, by rw [List.append_nil]; rfl, fun i hi => absurd hi (by simp), fun h => h, fun _ h => absurd h (by decide)⟩
  | succ m ih =>
    intro a l hl
    have stop : cu_num u n (m + 1) a (nI (dg_v l)) = (nI (dg_v l), a) → ¬ (¬ cu_c u n a < 48 ∧ ¬ 57 < cu_c u n a) → ∃ l2, dg_ok (l ++ l2) ∧ l2.length ≤ m + 1 ∧ (cu_num u n (m + 1) a (nI (dg_v l))).2 = a + l2.length ∧ (cu_num u n (m + 1) a (nI (dg_v l))).1 = nI (dg_v (l ++ l2)) ∧ (∀ i, i < l2.length → u (a + i) = nI (48 + l2.getD i 0)) ∧ (a ≤ n → a + l2.length ≤ n) ∧ (¬ cu_c u n a < 48 ∧ ¬ 57 < cu_c u n a → 1 ≤ m + 1 → 1 ≤ l2.length) := by
      intro e hd
      rw [e]
      exact ⟨[], by rw [List.append_nil]; exact hl, Nat.zero_le _, rfl, by rw [List.append_nil], fun i hi => absurd hi (by simp), fun h => h, fun q _ => absurd q hd⟩
    by_cases h1 : cu_c u n a < 48
    · exact stop (if_pos h1) (fun q => q.1 h1)
    by_cases h2 : 57 < cu_c u n a
    · exact stop (by show (if cu_c u n a < 48 then _ else if 57 < cu_c u n a then _ else _) = _; rw [if_neg h1, if_pos h2]) (fun q => q.2 h2)
    have e : cu_num u n (m + 1) a (nI (dg_v l)) = cu_num u n m (a + 1) (nI (dg_v l) * 10 + (cu_c u n a - 48)) := by
      show (if cu_c u n a < 48 then _ else if 57 < cu_c u n a then _ else _) = _
      rw [if_neg h1, if_neg h2]
    have han : a < n := by
      by_cases z : a < n
      · exact z
      · rw [show cu_c u n a = 0 from if_neg z] at h1; exact absurd (by decide) h1
    have hb := cu_cb (a := a) ht
    have h1' := h1; have h2' := h2
    rw [Int32.lt_iff_toInt_lt, show Int32.toInt 48 = 48 from rfl] at h1'
    rw [Int32.lt_iff_toInt_lt, show Int32.toInt 57 = 57 from rfl] at h2'
    obtain ⟨d, hd⟩ : ∃ d : Nat, (cu_c u n a).toInt = 48 + d := ⟨((cu_c u n a).toInt - 48).toNat, by omega⟩
    have hd10 : d < 10 := by omega
    have hc : cu_c u n a = nI (48 + d) := by
      apply Int32.toInt_inj.mp
      rw [hd, nI_toInt (by omega)]; omega
    have hv : nI (dg_v l) * 10 + (cu_c u n a - 48) = nI (dg_v (l ++ [d])) := by
      rw [hc, dg_v_app, show (48 : Int32) = nI 48 from rfl, nI_subL (by omega), show 48 + d - 48 = d by omega, show (10 : Int32) = nI 10 from rfl, nI_mul, nI_add]
    have hl2 : dg_ok (l ++ [d]) := fun x hx => by
      rcases List.mem_append.mp hx with q | q
      · exact hl x q
      · rw [List.mem_singleton.mp q]; exact hd10
    rw [e, hv]
    obtain ⟨l2, k1, k2, k3, k4, k5, k6, k7⟩ := ih (a + 1) (l ++ [d]) hl2
    refine ⟨d :: l2, by rw [List.append_assoc] at k1; exact k1, by rw [List.length_cons]; omega, by rw [k3, List.length_cons]; omega, by rw [k4, List.append_assoc]; rfl, fun i hi => ?_, fun _ => by have := k6 (by omega); rw [List.length_cons]; omega, fun _ _ => by rw [List.length_cons]; omega⟩
    cases i with
    | zero => rw [Nat.add_zero, show u a = cu_c u n a from (if_pos han).symm, hc]; rfl
    | succ i =>
      have := k5 i (by rw [List.length_cons] at hi; omega)
      rw [show a + (i + 1) = a + 1 + i by omega, this]; rfl
