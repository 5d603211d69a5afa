/-! The class finds the reference's best set -/
def pkr (sz : Nat) (pk : Nat → Int32) (P : Nat → Nat) : Prop := ∀ i, i < sz → pk i = nI (P i)
theorem nI_or (a b : Nat) : nI a ||| nI b = nI (a ||| b) := by
  apply Int32.toBitVec_inj.mp
  rw [Int32.toBitVec_or]
  show BitVec.ofNat 32 a ||| BitVec.ofNat 32 b = BitVec.ofNat 32 (a ||| b)
  rw [BitVec.ofNat_or]
theorem rz_bits_n {pk : Nat → Int32} {P : Nat → Nat} : ∀ n, pkr n pk P → (∀ i, i < n → P i ≤ 10) → rz_bits pk n = nI (cb P n) := by
  intro n
  induction n with
  | zero => intro _ _; rfl
  | succ n ih =>
    intro h hP
    unfold rz_bits cb
    rw [ih (fun i hi => h i (by omega)) (fun i hi => hP i (by omega)), h n (by omega), mo_pow (hP n (by omega)), nI_or]
theorem rz_fill_n : ∀ (m j : Nat) (pk : Nat → Int32) (v : Nat), 1 ≤ j → pk (j - 1) = nI v → (∀ k, k < m → rz_fill m j pk (j + k) = nI (v + 1 + k)) ∧ ∀ k, k < j → rz_fill m j pk k = pk k := by
  intro m
  induction m with
  | zero => intro j pk v _ _; exact ⟨fun k hk => absurd hk (by omega), fun _ _ => rfl⟩
  | succ m ih =>
    intro j pk v hj hv
    have hn : upd pk j (pk (j - 1) + 1) (j + 1 - 1) = nI (v + 1) := by
      rw [show j + 1 - 1 = j by omega]
      unfold upd; rw [if_pos rfl, hv, nI_1]
    obtain ⟨a1, a2⟩ := ih (j + 1) (upd pk j (pk (j - 1) + 1)) (v + 1) (by omega) hn
    refine ⟨fun k hk => ?_, fun k hk => ?_⟩
    · show rz_fill m (j + 1) (upd pk j (pk (j - 1) + 1)) (j + k) = _
      cases k with
      | zero => rw [a2 (j + 0) (by omega)]; show upd pk j (pk (j - 1) + 1) j = _; unfold upd; rw [if_pos rfl, hv, nI_1]
      | succ k => rw [show j + (k + 1) = j + 1 + k by omega, a1 k (by omega), show v + 1 + 1 + k = v + 1 + (k + 1) by omega]
    · show rz_fill m (j + 1) (upd pk j (pk (j - 1) + 1)) k = _
      rw [a2 k (by omega)]; unfold upd; rw [if_neg (by omega)]
theorem rz_move_n {c sz : Nat} {pk : Nat → Int32} {P : Nat → Nat} (hc : c ≤ 10) (hsz : sz ≤ c) (h : cmb c sz P) (hp : pkr sz pk P) : ∀ i, i ≤ sz → (∀ j, i ≤ j → j < sz → c + j ≤ P j + sz) → ((rz_move c sz pk i).1 = false ∧ ∀ j, j < sz → c + j ≤ P j + sz) ∨ ∃ i0, i0 < sz ∧ (rz_move c sz pk i).1 = true ∧ P i0 + sz < c + i0 ∧ (∀ j, i0 < j → j < sz → c + j ≤ P j + sz) ∧ pkr sz (rz_move c sz pk i).2 (cnx P i0) := by
  intro i
  induction i with
  | zero => intro _ hl; exact Or.inl ⟨rfl, fun j hj => hl j (Nat.zero_le _) hj⟩
  | succ i ih =>
    intro hi hl
    have hPi := h.1 i (by omega)
    unfold rz_move
    have ec : (nI c - nI sz + nI i ≤ pk i) ↔ c + i ≤ P i + sz := by
      rw [hp i (by omega), nI_subL hsz, nI_add, nI_leI (by omega) (by omega)]; omega
    by_cases z : c + i ≤ P i + sz
    · rw [if_pos (ec.mpr z)]
      exact ih (by omega) (fun j q1 q2 => by
        by_cases e : j = i
        · rw [e]; exact z
        · exact hl j (by omega) q2)
    · rw [if_neg (fun q => z (ec.mp q))]
      refine Or.inr ⟨i, by omega, rfl, by omega, fun j q1 q2 => hl j (by omega) q2, fun j hj => ?_⟩
      have hv : upd pk i (pk i + 1) (i + 1 - 1) = nI (P i + 1) := by
        rw [show i + 1 - 1 = i by omega]; unfold upd; rw [if_pos rfl, hp i (by omega), nI_1]
      obtain ⟨a1, a2⟩ := rz_fill_n (sz - (i + 1)) (i + 1) (upd pk i (pk i + 1)) (P i + 1) (by omega) hv
      show rz_fill (sz - (i + 1)) (i + 1) (upd pk i (pk i + 1)) j = nI (cnx P i j)
      unfold cnx
      by_cases q : j < i
      · rw [if_pos q, a2 j (by omega)]; unfold upd; rw [if_neg (by omega)]; exact hp j hj
      · rw [if_neg q]
        by_cases q2 : j = i
        · subst q2
          rw [a2 j (by omega), show P j + 1 + (j - j) = P j + 1 by omega]
          unfold upd; rw [if_pos rfl, hp j hj, nI_1]
        · obtain ⟨k, rfl⟩ : ∃ k, j = i + 1 + k := ⟨j - (i + 1), by omega⟩
          rw [a1 k (by omega), show P i + 1 + (i + 1 + k - i) = P i + 1 + 1 + k by omega]
section
variable {I : Nat → Int32} {F : Nat → Nat → Int32} {c : Nat} {T : ru_D} {grade : Int32}
abbrev gq (I : Nat → Int32) (F : Nat → Nat → Int32) (c : Nat) (T : ru_D) (s : Nat) : Int32 := rz_gr I F c T (nI s) (ru_cnt T) 0
theorem rz_gw_n {s : Nat} (h : s < 1024) : rz_gw I F c T (nI s) = gq I F c T s := by
  unfold rz_gw
  rw [if_pos ⟨nI_nlt (b := 0) (Nat.zero_le s) (by omega), ni_nge s 1024 rfl rfl (by omega) (by decide) h⟩]
theorem cb_eq {P R : Nat → Nat} : ∀ n, (∀ j, j < n → R j = P j) → cb R n = cb P n := by
  intro n
  induction n with
  | zero => intro _; rfl
  | succ n ih => intro h; unfold cb; rw [ih (fun j hj => h j (by omega)), h n (by omega)]
theorem rz_find_f {sz : Nat} : ∀ (m : Nat) (pk : Nat → Int32), rz_find I F c T sz grade m false pk = (false, pk) := by
  intro m pk
  cases m <;> rfl
theorem rz_find_n {sz : Nat} (hc : c ≤ 10) (hsz : sz ≤ c) : ∀ (m : Nat) (pk : Nat → Int32) (P : Nat → Nat), cmb c sz P → pkr sz pk P → rv (cb P sz) 10 < m →
    ((rz_find I F c T sz grade m true pk).1 = true → ∃ Q, cmb c sz Q ∧ pkr sz (rz_find I F c T sz grade m true pk).2 Q ∧ gq I F c T (cb Q sz) = grade ∧ ∀ R, cmb c sz R → ((∀ j, j < sz → R j = P j) ∨ lex sz P R) → lex sz R Q → ¬ gq I F c T (cb R sz) = grade) ∧
    ((rz_find I F c T sz grade m true pk).1 = false → ∀ R, cmb c sz R → ((∀ j, j < sz → R j = P j) ∨ lex sz P R) → ¬ gq I F c T (cb R sz) = grade) := by
  have h10 : 2 ^ c ≤ 1024 := mo_pow_le hc
  intro m
  induction m with
  | zero => intro pk P _ _ h; omega
  | succ m ih =>
    intro pk P hP hp hm
    have hb : rz_bits pk sz = nI (cb P sz) := rz_bits_n sz hp (fun i hi => by have := hP.1 i hi; omega)
    have hcb : cb P sz < 1024 := Nat.lt_of_lt_of_le (cb_lt sz hP.1) h10
    have e : rz_find I F c T sz grade (m + 1) true pk = (if gq I F c T (cb P sz) = grade then (true, pk) else rz_find I F c T sz grade m (rz_move c sz pk sz).1 (rz_move c sz pk sz).2) := by
      show (if rz_gw I F c T (rz_bits pk sz) = grade then _ else _) = _
      rw [hb, rz_gw_n hcb]
    rw [e]
    by_cases z : gq I F c T (cb P sz) = grade
    · rw [if_pos z]
      refine ⟨fun _ => ⟨P, hP, hp, z, fun R hR h1 h2 => ?_⟩, fun q => by cases q⟩
      have f1 := lex_fs hc hR hP h2
      rcases h1 with h1 | h1
      · rw [cb_eq sz h1] at f1; exact (fs_ir f1).elim
      · exact (fs_ir (fs_tr f1 (lex_fs hc hP hR h1))).elim
    · rw [if_neg z]
      rcases rz_move_n hc hsz hP hp sz (Nat.le_refl _) (fun j q1 q2 => absurd q2 (by omega)) with ⟨m1, m2⟩ | ⟨i0, m1, m2, m3, m4, m5⟩
      · rw [m1, rz_find_f]
        refine ⟨fun q => (by cases q), fun _ R hR h1 => ?_⟩
        rcases h1 with h1 | ⟨j, j1, j2, j3⟩
        · rw [cb_eq sz h1]; exact z
        · have a1 := m2 j j1
          have a2 := cmb_hi hR j j1
          omega
      · obtain ⟨n1, n2, n3⟩ := cnx_ok hP m1 m3
        have hrv := rv_fs (lex_fs hc hP n1 n2)
        rw [m2]
        obtain ⟨k1, k2⟩ := ih (rz_move c sz pk sz).2 (cnx P i0) n1 m5 (by omega)
        have key : ∀ R, cmb c sz R → ((∀ j, j < sz → R j = P j) ∨ lex sz P R) → (cb R sz = cb P sz) ∨ ((∀ j, j < sz → R j = cnx P i0 j) ∨ lex sz (cnx P i0) R) := fun R hR h1 => h1.elim (fun q => Or.inl (cb_eq sz q)) (fun q => Or.inr (n3 m4 R hR q))
        refine ⟨fun q => ?_, fun q R hR h1 => ?_⟩
        · obtain ⟨Q, q1, q2, q3, q4⟩ := k1 q
          refine ⟨Q, q1, q2, q3, fun R hR h1 h2 => ?_⟩
          rcases key R hR h1 with w | w
          · rw [w]; exact z
          · exact q4 R hR w h2
        · rcases key R hR h1 with w | w
          · rw [w]; exact z
          · exact k2 q R hR w
theorem rz_start_n : ∀ (m i : Nat) (pk : Nat → Int32), (∀ k, k < i → pk k = nI k) → ∀ k, k < i + m → rz_start m i pk k = nI k := by
  intro m
  induction m with
  | zero => intro i pk h k hk; exact h k (by omega)
  | succ m ih =>
    intro i pk h k hk
    refine ih (i + 1) (upd pk i (nI i)) (fun j hj => ?_) k (by omega)
    unfold upd
    by_cases z : j = i
    · rw [if_pos z, z]
    · rw [if_neg z]; exact h j (by omega)
theorem cmb_id {sz : Nat} (h : sz ≤ c) : cmb c sz (fun i => i) ∧ ∀ R, cmb c sz R → (∀ j, j < sz → R j = j) ∨ lex sz (fun i => i) R := by
  refine ⟨⟨fun i hi => by show i < c; omega, fun i hi => by show i < i + 1; omega⟩, fun R hR => ?_⟩
  by_cases z : ∀ j, j < sz → R j = j
  · exact Or.inl z
  · right
    have hex : ∃ k, k < sz ∧ ¬ R k = k := Classical.byContradiction fun q => z (fun k hk => Classical.byContradiction fun y => q ⟨k, hk, y⟩)
    obtain ⟨k, k1, k2, k3⟩ := first_diff (P := fun k => ¬ R k = k) sz hex
    have h0 := cmb_lt hR k 0 (by omega)
    rw [Nat.zero_add] at h0
    exact ⟨k, k1, (by omega : k < R k), fun i hi => ((Classical.byContradiction fun y => k3 i hi y : R i = i)).symm⟩
theorem lex_tri {sz : Nat} {P R : Nat → Nat} : (∀ j, j < sz → R j = P j) ∨ lex sz P R ∨ lex sz R P := by
  by_cases z : ∀ j, j < sz → R j = P j
  · exact Or.inl z
  · right
    have hex : ∃ k, k < sz ∧ ¬ R k = P k := Classical.byContradiction fun q => z (fun k hk => Classical.byContradiction fun y => q ⟨k, hk, y⟩)
    obtain ⟨k, k1, k2, k3⟩ := first_diff (P := fun k => ¬ R k = P k) sz hex
    have h3 : ∀ i, i < k → R i = P i := fun i hi => Classical.byContradiction fun y => k3 i hi y
    rcases Nat.lt_trichotomy (P k) (R k) with q | q | q
    · exact Or.inl ⟨k, k1, q, fun i hi => (h3 i hi).symm⟩
    · exact absurd q.symm k2
    · exact Or.inr ⟨k, k1, q, h3⟩
theorem sc_cmb {sz : Nat} {Q : Nat → Nat} (h : cmb c sz Q) : ∀ n, ∃ k, k ≤ sz ∧ (∀ i, i < k → Q i < n) ∧ (∀ i, k ≤ i → i < sz → n ≤ Q i) ∧ sc (cb Q sz) n = k := by
  intro n
  induction n with
  | zero => exact ⟨0, Nat.zero_le _, fun i hi => absurd hi (by omega), fun i _ _ => Nat.zero_le _, rfl⟩
  | succ n ih =>
    obtain ⟨k, k1, k2, k3, k4⟩ := ih
    by_cases z : sb (cb Q sz) n = true
    · obtain ⟨i, i1, i2⟩ := (cb_bit Q sz n).mp z
      have hik : i = k := by
        rcases Nat.lt_trichotomy i k with q | q | q
        · have := k2 i q; omega
        · exact q
        · have a1 := k3 k (Nat.le_refl _) (by omega)
          have a2 := cmb_lt h (i - k) k (by omega)
          rw [show k + (i - k) = i by omega] at a2; omega
      subst hik
      refine ⟨i + 1, by omega, fun j hj => ?_, fun j q1 q2 => ?_, by show (if sb (cb Q sz) n = true then _ else _) = _; rw [if_pos z, k4]⟩
      · by_cases e : j = i
        · rw [e, i2]; omega
        · have := k2 j (by omega); omega
      · have a2 := cmb_lt h (j - i) i (by omega)
        rw [show i + (j - i) = j by omega] at a2; omega
    · refine ⟨k, k1, fun j hj => by have := k2 j hj; omega, fun j q1 q2 => ?_, by show (if sb (cb Q sz) n = true then _ else _) = _; rw [if_neg z, k4]⟩
      have a1 := k3 j q1 q2
      have a2 : ¬ Q j = n := fun q => z ((cb_bit Q sz n).mpr ⟨j, q2, q⟩)
      omega
theorem sc_cmb10 {sz : Nat} {Q : Nat → Nat} (hc : c ≤ 10) (h : cmb c sz Q) : sc (cb Q sz) 10 = sz := by
  obtain ⟨k, k1, k2, k3, k4⟩ := sc_cmb h 10
  by_cases z : k = sz
  · rw [k4, z]
  · have a1 := k3 k (Nat.le_refl _) (by omega)
    have a2 := h.1 k (by omega)
    omega
/-- the fewest -/
theorem rz_few_n (hc : c ≤ 10) : ∀ (m sz : Nat) (pk : Nat → Int32), sz + m = c + 1 → (∀ t, t < 2 ^ c → sc t 10 < sz → ¬ gq I F c T t = grade) →
    ((rz_few I F c T grade m sz pk).1 = -1 ∧ ∀ t, t < 2 ^ c → ¬ gq I F c T t = grade) ∨ ∃ z Q, z ≤ c ∧ cmb c z Q ∧ (rz_few I F c T grade m sz pk).1 = nI z ∧ pkr z (rz_few I F c T grade m sz pk).2 Q ∧ gq I F c T (cb Q z) = grade ∧ ∀ t, t < 2 ^ c → gq I F c T t = grade → t = cb Q z ∨ slt (cb Q z) t := by
  have h10 : 2 ^ c ≤ 1024 := mo_pow_le hc
  intro m
  induction m with
  | zero =>
    intro sz pk hm hlow
    refine Or.inl ⟨rfl, fun t ht => hlow t ht ?_⟩
    have := sc_hi ht 10 hc
    have h2 := sc_le t c
    omega
  | succ m ih =>
    intro sz pk hm hlow
    obtain ⟨i1, i2⟩ := cmb_id (c := c) (show sz ≤ c by omega)
    have hst : pkr sz (rz_start sz 0 pk) (fun i => i) := fun i hi => rz_start_n sz 0 pk (fun k hk => absurd hk (by omega)) i (by omega)
    have hrv := rv_lt (cb (fun i => i) sz) 10
    obtain ⟨f1, f2⟩ := rz_find_n (I := I) (F := F) (T := T) (grade := grade) hc (show sz ≤ c by omega) 1024 (rz_start sz 0 pk) (fun i => i) i1 hst (by omega)
    unfold rz_few
    by_cases z : (rz_find I F c T sz grade 1024 true (rz_start sz 0 pk)).1 = true
    · rw [if_pos z]
      obtain ⟨Q, q1, q2, q3, q4⟩ := f1 z
      refine Or.inr ⟨sz, Q, by omega, q1, rfl, q2, q3, fun t ht hg => ?_⟩
      have hsz := sc_cmb10 hc q1
      rcases Nat.lt_trichotomy (sc t 10) sz with w | w | w
      · exact absurd hg (hlow t ht w)
      · obtain ⟨R, r1, r2⟩ := cmb_ex hc ht
        rw [w] at r1 r2
        rcases lex_tri (sz := sz) (P := Q) (R := R) with y | y | y
        · exact Or.inl (by rw [← r2]; exact cb_eq sz y)
        · exact Or.inr (Or.inr ⟨by rw [hsz, w], by rw [← r2]; exact lex_fs hc q1 r1 y⟩)
        · exact absurd (by rw [r2]; exact hg) (q4 R r1 (i2 R r1) y)
      · exact Or.inr (Or.inl (by rw [hsz]; exact w))
    · rw [if_neg z]
      have z' : (rz_find I F c T sz grade 1024 true (rz_start sz 0 pk)).1 = false := by cases e : (rz_find I F c T sz grade 1024 true (rz_start sz 0 pk)).1; rfl; exact absurd e z
      refine ih (sz + 1) _ (by omega) (fun t ht hs => ?_)
      by_cases w : sc t 10 < sz
      · exact hlow t ht w
      · have e : sc t 10 = sz := by omega
        obtain ⟨R, r1, r2⟩ := cmb_ex hc ht
        rw [e] at r1 r2
        rw [← r2]
        exact f2 z' R r1 (i2 R r1)
/-- the k-th of a set -/
theorem mo_kth_n {sz : Nat} {Q : Nat → Nat} (hc : c ≤ 10) (h : cmb c sz Q) : ∀ (m f i kk : Nat), f + m = c → i ≤ sz → (∀ j, j < i → Q j < f) → (∀ j, i ≤ j → j < sz → f ≤ Q j) → kk < 2 ^ 31 → mo_kth (nI (cb Q sz)) m f (nI kk) = if i + kk < sz then nI (Q (i + kk)) else -1 := by
  have hcb : cb Q sz < 1024 := Nat.lt_of_lt_of_le (cb_lt sz h.1) (mo_pow_le hc)
  intro m
  induction m with
  | zero =>
    intro f i kk hf hi h1 h2 hk
    rw [if_neg (fun z => by have a1 := h2 i (Nat.le_refl _) (by omega); have a2 := h.1 i (by omega); omega)]; rfl
  | succ m ih =>
    intro f i kk hf hi h1 h2 hk
    have hbit := sb_has hcb f (by omega)
    unfold mo_kth
    by_cases z : sb (cb Q sz) f = true
    · rw [if_pos (hbit.mpr z)]
      obtain ⟨j, j1, j2⟩ := (cb_bit Q sz f).mp z
      have hji : j = i := by
        rcases Nat.lt_trichotomy j i with q | q | q
        · have := h1 j q; omega
        · exact q
        · have a1 := h2 i (Nat.le_refl _) (by omega)
          have a2 := cmb_lt h (j - i) i (by omega)
          rw [show i + (j - i) = j by omega] at a2; omega
      subst hji
      by_cases hk0 : kk = 0
      · subst hk0
        rw [if_pos (show nI 0 = 0 from rfl), if_pos (by omega), Nat.add_zero, j2]
      · rw [if_neg (show ¬ nI kk = 0 from fun q => hk0 ((nI_eq (a := kk) (b := 0) hk (by decide)).mp q)), nI_pred2 (by omega), ih (f + 1) (j + 1) (kk - 1) (by omega) (by omega) (fun k hk' => by
          by_cases e : k = j
          · rw [e, j2]; omega
          · have := h1 k (by omega); omega) (fun k q1 q2 => by
          have a2 := cmb_lt h (k - j) j (by omega)
          rw [show j + (k - j) = k by omega] at a2; omega) (by omega), show j + 1 + (kk - 1) = j + kk by omega]
    · rw [if_neg (fun q => z (hbit.mp q))]
      exact ih (f + 1) i kk (by omega) hi (fun j hj => by have := h1 j hj; omega) (fun j q1 q2 => by
        have a1 := h2 j q1 q2
        have a2 : ¬ Q j = f := fun q => z ((cb_bit Q sz f).mpr ⟨j, q2, q⟩)
        omega) hk
/-- class and reference: raise -/
theorem rz_raise (hc : c ≤ 10) (pk : Nat → Int32) (kk : Nat) (hk : kk < 2 ^ 31) : mo_raise (fun x => rz_gr I F c T x (ru_cnt T) 0) grade (nI kk) c = (if nI kk < (rz_few I F c T grade (c + 1) 0 pk).1 ∧ kk < 10 then (rz_few I F c T grade (c + 1) 0 pk).2 kk else -1) := by
  have h10 : 2 ^ c ≤ 1024 := mo_pow_le hc
  unfold mo_raise
  rcases mo_rb_min (fun x => rz_gr I F c T x (ru_cnt T) 0) grade (2 ^ c) h10 with ⟨a1, a2⟩ | ⟨s, a1, a2, a3, a4⟩
  · rw [a1, if_pos (by decide)]
    rcases rz_few_n (I := I) (F := F) (T := T) (grade := grade) hc (c + 1) 0 pk (by omega) (fun t _ h => absurd h (by omega)) with ⟨b1, _⟩ | ⟨z, Q, z1, z2, z3, z4, z5, _⟩
    · rw [if_neg (fun q => by rw [b1] at q; exact absurd q.1 (fun y => nI_nlt (b := 0) (Nat.zero_le kk) hk (Int32.lt_trans y (by decide))))]
    · exact absurd z5 (a2 _ (cb_lt z z2.1))
  · rcases rz_few_n (I := I) (F := F) (T := T) (grade := grade) hc (c + 1) 0 pk (by omega) (fun t _ h => absurd h (by omega)) with ⟨_, b2⟩ | ⟨z, Q, z1, z2, z3, z4, z5, z6⟩
    · exact absurd a3 (b2 s a1)
    · have hs : s = cb Q z := by
        rcases z6 s a1 a3 with q | q
        · exact q
        · rcases a4 (cb Q z) (cb_lt z z2.1) z5 with w | w
          · exact w.symm
          · exact (slt_ir (slt_tr q w)).elim
      rw [a2, if_neg (show ¬ nI s < 0 from nI_nlt (b := 0) (Nat.zero_le s) (by omega)), hs, mo_kth_n hc z2 c 0 0 kk (by omega) (Nat.zero_le _) (fun j hj => absurd hj (by omega)) (fun j _ _ => Nat.zero_le _) hk, Nat.zero_add, z3]
      have el : (nI kk < nI z) ↔ kk < z := by rw [Int32.lt_iff_toInt_lt, nI_toInt hk, nI_toInt (by omega)]; omega
      by_cases w : kk < z
      · rw [if_pos w, if_pos ⟨el.mpr w, by omega⟩, z4 kk w]
      · rw [if_neg w, if_neg (fun q => w (el.mp q.1))]
end
