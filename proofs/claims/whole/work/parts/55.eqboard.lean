/-! CLASS AND REFERENCE: the board -/
theorem eq_nL {n : Nat} (h : n < 2 ^ 31) : (nI n).toInt64 = Int64.ofNat n := by
  apply Int64.toInt_inj.mp
  rw [Int32.toInt_toInt64, Int64.toInt_ofNat_of_lt (by omega)]
  exact nI_toInt h
theorem eq_sz {x : Int32} : gt_sz x ↔ 0 ≤ x.toInt ∧ x.toInt ≤ 1000000 := by
  unfold gt_sz
  rw [Int32.lt_iff_toInt_lt, Int32.lt_iff_toInt_lt, show Int32.toInt 0 = 0 from rfl, show Int32.toInt 1000000 = 1000000 from rfl]
  omega
/-- the same board: the plank's numbers I and rows F, the reference's state s; all in their bounds -/
def eq_bd (I : Nat → Int32) (F : Nat → Nat → Int32) (c : Nat) (s : md_S) : Prop :=
  s.1 17 = I 0 ∧ s.1 18 = I 1 ∧ s.1 19 = I 2 ∧ s.1 20 = nI c ∧ c ≤ 10 ∧ (∀ j, j < 6 → ∀ i, i < c → s.2.1 (21 + j) i = F (5 + j) i) ∧ (gt_sz (I 0) ∧ gt_sz (I 1) ∧ gt_sz (I 2)) ∧ ∀ i, i < c → gt_sz (F 7 i) ∧ gt_sz (F 8 i) ∧ gt_sz (F 9 i) ∧ gt_sz (F 10 i)
/-- absent faults ab of the class, present ones e of the reference -/
def eq_bit (ab e : Int32) : Prop := ∀ i, i < 10 → (pl_pres ab i ↔ e >>> (nI i &&& 31) &&& 1 = 1)
theorem eq_bit0 : eq_bit 0 1023 := by
  intro i hi
  have : i = 0 ∨ i = 1 ∨ i = 2 ∨ i = 3 ∨ i = 4 ∨ i = 5 ∨ i = 6 ∨ i = 7 ∨ i = 8 ∨ i = 9 := by omega
  rcases this with z | z | z | z | z | z | z | z | z | z <;> subst z <;> decide
theorem eq_onF {f A : Nat → Int32} {k ab e : Int32} {c : Nat} (hb : eq_bit ab e) (hc : c ≤ 10) (hA : ∀ i, i < c → A i = f i) : ∀ i, i ≤ c → ∃ n, n ≤ i ∧ pl_onF f k ab i = nI n ∧ mo_onF A k e i = Int64.ofNat n := by
  intro i
  induction i with
  | zero => intro _; exact ⟨0, Nat.le_refl _, rfl, rfl⟩
  | succ i ih =>
    intro hi
    obtain ⟨n, h1, h2, h3⟩ := ih (by omega)
    have hz := hb i (by omega)
    have ha := hA i (by omega)
    by_cases z : f i = k ∧ pl_pres ab i
    · refine ⟨n + 1, by omega, ?_, ?_⟩
      · rw [show pl_onF f k ab (i + 1) = pl_onF f k ab i + 1 from if_pos z, h2, nI_1]
      · rw [show mo_onF A k e (i + 1) = mo_onF A k e i + 1 from if_pos ⟨hz.mp z.2, by rw [ha]; exact z.1⟩, h3, Int64.ofNat_add]; rfl
    · refine ⟨n, by omega, ?_, ?_⟩
      · rw [show pl_onF f k ab (i + 1) = pl_onF f k ab i from if_neg z, h2]
      · rw [show mo_onF A k e (i + 1) = mo_onF A k e i from if_neg (fun y => z ⟨by rw [← ha]; exact y.2, hz.mpr y.1⟩), h3]
theorem eq_onF' {I : Nat → Int32} {F : Nat → Nat → Int32} {c : Nat} {s : md_S} {ab e : Int32} (b : eq_bd I F c s) (hb : eq_bit ab e) (k : Int32) : (pl_onF (F 5) k ab c).toInt64 = mo_onF (s.2.1 21) k e c := by
  obtain ⟨n, h1, h2, h3⟩ := eq_onF (f := F 5) (A := s.2.1 21) (k := k) hb b.2.2.2.2.1 (b.2.2.2.2.2.1 0 (by decide)) c (Nat.le_refl _)
  have := b.2.2.2.2.1
  rw [h2, h3, eq_nL (by omega)]
theorem eq_comb {g : Int32} {a b : Int64} {s : md_S} (k : Int32) (hk : (g = 12 ∧ k = 43) ∨ (g = 13 ∧ k = 45) ∨ (g = 14 ∧ k = 42) ∨ (g = 15 ∧ k = 47)) : (mo_bet s g a b).1 = (rk_comb k a b).1 := by
  unfold mo_bet rk_comb
  rcases hk with ⟨rfl, rfl⟩ | ⟨rfl, rfl⟩ | ⟨rfl, rfl⟩ | ⟨rfl, rfl⟩
  · rfl
  · rfl
  · rfl
  · rw [if_pos rfl]
    by_cases z : b = 0
    · rw [if_pos ((lg_cmp_eq _ _).mpr z)]
      show _ = (if b = 0 then ((0 : Int64), true) else (a / b, false)).1
      rw [if_pos z]
    · rw [if_neg (fun y => z ((lg_cmp_eq _ _).mp y))]
      show _ = (if b = 0 then ((0 : Int64), true) else (a / b, false)).1
      rw [if_neg z]
theorem eq_cmp {g : Int32} {a b : Int64} : mo_cmps g a b = pb_b (rk_cmp g a b = true) := by
  unfold mo_cmps rk_cmp
  by_cases h1 : g = 60
  · rw [if_pos h1, if_pos h1]; unfold pb_b; simp [lg_cmp_lt]
  rw [if_neg h1, if_neg h1]
  by_cases h2 : g = 62
  · rw [if_pos h2, if_pos h2]; unfold pb_b; simp [lg_cmp_gt]
  rw [if_neg h2, if_neg h2]
  by_cases h3 : g = 61
  · rw [if_pos h3, if_pos h3]; unfold pb_b; simp [lg_cmp_eq]
  rw [if_neg h3, if_neg h3]; unfold pb_b; simp [lg_cmp_eq]
theorem eq_i32 {x : Int} (h1 : -(2 ^ 31) ≤ x) (h2 : x < 2 ^ 31) : x.bmod (2 ^ 32) = x := by
  rw [Int.bmod_eq_of_le] <;> omega
theorem eq_i64 {x : Int} (h1 : -(2 ^ 63) ≤ x) (h2 : x < 2 ^ 63) : x.bmod (2 ^ 64) = x := by
  rw [Int.bmod_eq_of_le] <;> omega
theorem eq_32 {w y g : Int32} (hw : gt_sz w) (hy : gt_sz y) (hg : gt_sz g) : (w - y - g).toInt = w.toInt - y.toInt - g.toInt := by
  have a := eq_sz.mp hw; have b := eq_sz.mp hy; have c := eq_sz.mp hg
  rw [Int32.toInt_sub, Int32.toInt_sub, eq_i32 (x := w.toInt - y.toInt) (by omega) (by omega), eq_i32 (by omega) (by omega)]
theorem eq_64 {w y g : Int32} (hw : gt_sz w) (hy : gt_sz y) (hg : gt_sz g) : w.toInt64 - y.toInt64 - g.toInt64 = (w - y - g).toInt64 := by
  have a := eq_sz.mp hw; have b := eq_sz.mp hy; have c := eq_sz.mp hg
  apply Int64.toInt_inj.mp
  rw [Int64.toInt_sub, Int64.toInt_sub, Int32.toInt_toInt64, Int32.toInt_toInt64, Int32.toInt_toInt64, Int32.toInt_toInt64, eq_32 hw hy hg, eq_i64 (x := w.toInt - y.toInt) (by omega) (by omega), eq_i64 (by omega) (by omega)]
theorem eq_near {W : Int32} {A : Nat → Nat → Int32} {i : Nat} (hw : gt_sz W) (hy : gt_sz (A 24 i)) (hg : gt_sz (A 26 i)) : mo_near W A i = (mn_i (A 24 i) (W - A 24 i - A 26 i)).toInt64 ∧ mo_near W A i ≤ W.toInt64 := by
  have hn : mo_near W A i = (mn_i (A 24 i) (W - A 24 i - A 26 i)).toInt64 := by
    unfold mo_near mo_far mn_i
    rw [eq_64 hw hy hg]
    by_cases z : W - A 24 i - A 26 i < A 24 i
    · rw [if_pos z, if_pos ((lg_cmp_ge _ _).mpr (by rw [Int64.le_iff_toInt_le, Int32.toInt_toInt64, Int32.toInt_toInt64]; rw [Int32.lt_iff_toInt_lt] at z; omega))]
    · rw [if_neg z]
      by_cases y : 0 ≤ lg_cmp (A 24 i).toInt64 (W - A 24 i - A 26 i).toInt64
      · rw [if_pos y]
        rw [lg_cmp_ge, Int64.le_iff_toInt_le, Int32.toInt_toInt64, Int32.toInt_toInt64] at y
        rw [Int32.lt_iff_toInt_lt] at z
        apply Int64.toInt_inj.mp
        rw [Int32.toInt_toInt64, Int32.toInt_toInt64]; omega
      · rw [if_neg y]
  refine ⟨hn, ?_⟩
  rw [hn, Int64.le_iff_toInt_le, Int32.toInt_toInt64, Int32.toInt_toInt64]
  have a := eq_sz.mp hw; have b := eq_sz.mp hy; have c := eq_sz.mp hg
  have d := eq_32 hw hy hg
  unfold mn_i
  by_cases z : W - A 24 i - A 26 i < A 24 i
  · rw [if_pos z]; omega
  · rw [if_neg z]; rw [Int32.lt_iff_toInt_lt] at z; omega
theorem eq_mx {x y : Int64} : mx_l x y = mo_siz y x := by
  unfold mx_l mo_siz
  by_cases z : x < y
  · rw [if_pos ((lg_cmp_lt _ _).mpr z), if_neg (fun u => by have := (lg_cmp_le _ _).mp u; rw [Int64.le_iff_toInt_le] at this; rw [Int64.lt_iff_toInt_lt] at z; omega)]
  · rw [if_neg (fun u => z ((lg_cmp_lt _ _).mp u)), if_pos ((lg_cmp_le _ _).mpr (by rw [Int64.le_iff_toInt_le]; rw [Int64.lt_iff_toInt_lt] at z; omega))]
theorem eq_gr {A : Nat → Nat → Int32} {i : Nat} : mo_gr A i = mx_i (A 25 i) (A 26 i) := by
  unfold mo_gr mx_i
  by_cases z : A 25 i < A 26 i
  · rw [if_pos z, if_pos (Int32.le_of_lt z)]
  · rw [if_neg z]
    by_cases y : A 25 i ≤ A 26 i
    · rw [if_pos y]; apply Int32.toInt_inj.mp; rw [Int32.lt_iff_toInt_lt] at z; rw [Int32.le_iff_toInt_le] at y; omega
    · rw [if_neg y]
theorem eq_edg {v near n W : Int64} (hw : near ≤ W) (hn : n = 0 → v = W) : mn_l v near = mo_edg n near v := by
  unfold mn_l mo_edg
  rw [Int64.le_iff_toInt_le] at hw
  by_cases z : n = 0
  · rw [if_pos ((lg_cmp_eq _ _).mpr z), hn z]
    by_cases y : near < W
    · rw [if_pos ((lg_cmp_gt _ _).mpr y)]
    · rw [if_neg (fun u => y ((lg_cmp_gt _ _).mp u))]
      apply Int64.toInt_inj.mp; rw [Int64.lt_iff_toInt_lt] at y; omega
  · rw [if_neg (fun u => z ((lg_cmp_eq _ _).mp u))]
    by_cases y : near < v
    · rw [if_pos ((lg_cmp_gt _ _).mpr y), if_neg (fun u => by have := (lg_cmp_ge _ _).mp u; rw [Int64.le_iff_toInt_le] at this; rw [Int64.lt_iff_toInt_lt] at y; omega)]
    · rw [if_neg (fun u => y ((lg_cmp_gt _ _).mp u)), if_pos ((lg_cmp_ge _ _).mpr (by rw [Int64.le_iff_toInt_le]; rw [Int64.lt_iff_toInt_lt] at y; omega))]
theorem eq_meas {I : Nat → Int32} {F : Nat → Nat → Int32} {c : Nat} {s : md_S} {ab e : Int32} (b : eq_bd I F c s) (hb : eq_bit ab e) (kind : Int32) : ∀ i, i ≤ c →
    pl_meas F (I 1) 110 kind ab 0 i = (mo_of (s.1 18) s.2.1 kind e i).1 ∧ pl_meas F (I 1) 97 kind ab 0 i = (mo_of (s.1 18) s.2.1 kind e i).2.1 ∧ pl_meas F (I 1) 115 kind ab 0 i = (mo_of (s.1 18) s.2.1 kind e i).2.2.1 ∧ pl_meas F (I 1) 101 kind ab (I 1).toInt64 i = (mo_of (s.1 18) s.2.1 kind e i).2.2.2 ∧
    (∃ n, n ≤ i ∧ (mo_of (s.1 18) s.2.1 kind e i).1 = Int64.ofNat n) ∧ ((mo_of (s.1 18) s.2.1 kind e i).1 = 0 → (mo_of (s.1 18) s.2.1 kind e i).2.2.2 = (I 1).toInt64) := by
  obtain ⟨b0, b1, b2, b3, b4, b5, b6, b7⟩ := b
  intro i
  induction i with
  | zero => intro _; rw [b1]; exact ⟨rfl, rfl, rfl, rfl, ⟨0, Nat.le_refl _, rfl⟩, fun _ => rfl⟩
  | succ i ih =>
    intro hi
    obtain ⟨h1, h2, h3, h4, ⟨n, h5, h6⟩, h7⟩ := ih (by omega)
    have e2 : s.2.1 22 i = F 6 i := b5 1 (by decide) i (by omega)
    have e4 : s.2.1 24 i = F 8 i := b5 3 (by decide) i (by omega)
    have e5 : s.2.1 25 i = F 9 i := b5 4 (by decide) i (by omega)
    have e6 : s.2.1 26 i = F 10 i := b5 5 (by decide) i (by omega)
    obtain ⟨s1, s2, s3, s4⟩ := b7 i (by omega)
    have hz := hb i (by omega)
    by_cases z : F 6 i = kind ∧ pl_pres ab i
    · rw [show mo_of (s.1 18) s.2.1 kind e (i + 1) = _ from if_pos ⟨hz.mp z.2, by rw [e2]; exact z.1⟩]
      have p1 : ∀ L v, pl_meas F (I 1) L kind ab v (i + 1) = (if L = 110 then pl_meas F (I 1) L kind ab v i + 1 else if L = 97 then pl_meas F (I 1) L kind ab v i + (F 9 i).toInt64 * (F 10 i).toInt64 else if L = 115 then mx_l (pl_meas F (I 1) L kind ab v i) (mx_i (F 9 i) (F 10 i)).toInt64 else mn_l (pl_meas F (I 1) L kind ab v i) (mn_i (F 8 i) (I 1 - F 8 i - F 10 i)).toInt64) := fun L v => if_pos z
      obtain ⟨n1, n2⟩ := eq_near (W := s.1 18) (A := s.2.1) (i := i) (by rw [b1]; exact b6.2.1) (by rw [e4]; exact s2) (by rw [e6]; exact s4)
      refine ⟨?_, ?_, ?_, ?_, ⟨n + 1, by omega, ?_⟩, ?_⟩
      · rw [p1, if_pos rfl, h1]
      · rw [p1, if_neg (by decide), if_pos rfl, h2, e5, e6]
      · rw [p1, if_neg (by decide), if_neg (by decide), if_pos rfl, h3, eq_mx, eq_gr, e5, e6]
      · rw [p1, if_neg (by decide), if_neg (by decide), if_neg (by decide), h4]
        show _ = mo_edg _ _ _
        rw [← e4, ← e6, ← b1, ← n1]
        exact eq_edg n2 (fun y => by rw [h7 y, b1])
      · show (mo_of (s.1 18) s.2.1 kind e i).1 + 1 = _
        rw [h6, Int64.ofNat_add]; rfl
      · intro y
        exfalso
        have y2 : (mo_of (s.1 18) s.2.1 kind e i).1 + 1 = 0 := y
        rw [h6, show (1 : Int64) = Int64.ofNat 1 from rfl, ← Int64.ofNat_add] at y2
        have y3 := congrArg Int64.toInt y2
        rw [Int64.toInt_ofNat_of_lt (by omega)] at y3
        rw [show Int64.toInt 0 = 0 from rfl] at y3
        omega
    · rw [show mo_of (s.1 18) s.2.1 kind e (i + 1) = mo_of (s.1 18) s.2.1 kind e i from if_neg (fun y => z ⟨by rw [← e2]; exact y.2, hz.mpr y.1⟩)]
      have p1 : ∀ L v, pl_meas F (I 1) L kind ab v (i + 1) = pl_meas F (I 1) L kind ab v i := fun L v => if_neg z
      rw [p1, p1, p1, p1]
      exact ⟨h1, h2, h3, h4, ⟨n, by omega, h6⟩, h7⟩
/-- a letter of the class, a sign of the reference -/
def eq_let (k g : Int32) : Prop := (k = 108 ∧ g = 2) ∨ (k = 119 ∧ g = 3) ∨ (k = 116 ∧ g = 4) ∨ (k = 110 ∧ g = 5) ∨ (k = 97 ∧ g = 6) ∨ (k = 115 ∧ g = 7) ∨ (k = 101 ∧ g = 8)
theorem eq_measure {I : Nat → Int32} {F : Nat → Nat → Int32} {c : Nat} {s : md_S} {ab e k g a : Int32} (b : eq_bd I F c s) (hb : eq_bit ab e) (hk : eq_let k g) : pl_measure I F k a ab c = mo_plain s g a e c := by
  obtain ⟨m1, m2, m3, m4, _⟩ := eq_meas b hb a c (Nat.le_refl _)
  obtain ⟨b0, b1, b2, b3, b4, b5, b6, b7⟩ := b
  rcases hk with ⟨rfl, rfl⟩ | ⟨rfl, rfl⟩ | ⟨rfl, rfl⟩ | ⟨rfl, rfl⟩ | ⟨rfl, rfl⟩ | ⟨rfl, rfl⟩ | ⟨rfl, rfl⟩
  · show (I 0).toInt64 = (s.1 17).toInt64; rw [b0]
  · show (I 1).toInt64 = (s.1 18).toInt64; rw [b1]
  · show (I 2).toInt64 = (s.1 19).toInt64; rw [b2]
  · exact m1
  · exact m2
  · exact m3
  · exact m4
/-! The worst window -/
noncomputable def eq_sum (P : Nat → Prop) (wt : Nat → Nat) : Nat → Nat
  | 0 => 0
  | i + 1 => @ite _ (P i) (Classical.propDecidable _) (eq_sum P wt i + wt i) (eq_sum P wt i)
theorem eq_sum_le {P : Nat → Prop} {wt : Nat → Nat} {B : Nat} : ∀ n, (∀ i, i < n → wt i ≤ B) → eq_sum P wt n ≤ n * B := by
  intro n
  induction n with
  | zero => intro _; exact Nat.zero_le _
  | succ n ih =>
    intro h
    have h1 := ih (fun i hi => h i (by omega))
    have h2 := h n (by omega)
    have h3 : (n + 1) * B = n * B + B := Nat.succ_mul n B
    unfold eq_sum
    split <;> omega
theorem eq_sum_mono {P Q : Nat → Prop} {wt : Nat → Nat} : ∀ n, (∀ i, i < n → P i → Q i) → eq_sum P wt n ≤ eq_sum Q wt n := by
  intro n
  induction n with
  | zero => intro _; exact Nat.le_refl _
  | succ n ih =>
    intro h
    have h1 := ih (fun i hi => h i (by omega))
    have h2 := h n (by omega)
    unfold eq_sum
    by_cases z : P n
    · rw [if_pos z, if_pos (h2 z)]; omega
    · rw [if_neg z]; split <;> omega
theorem eq_sum_0 {P : Nat → Prop} {wt : Nat → Nat} : ∀ n, (∀ i, i < n → ¬ P i) → eq_sum P wt n = 0 := by
  intro n
  induction n with
  | zero => intro _; rfl
  | succ n ih =>
    intro h
    unfold eq_sum
    rw [if_neg (h n (by omega))]
    exact ih (fun i hi => h i (by omega))
theorem eq_least {P : Nat → Prop} {x : Nat → Int} : ∀ n, (∀ i, i < n → ¬ P i) ∨ ∃ g, g < n ∧ P g ∧ ∀ i, i < n → P i → x g ≤ x i := by
  intro n
  induction n with
  | zero => exact Or.inl (fun i hi => absurd hi (by omega))
  | succ n ih =>
    by_cases z : P n
    · rcases ih with h | ⟨g, hg, pg, h⟩
      · refine Or.inr ⟨n, by omega, z, fun i hi pi => ?_⟩
        by_cases e : i = n
        · rw [e]; exact Int.le_refl _
        · exact absurd pi (h i (by omega))
      · by_cases y : x g ≤ x n
        · refine Or.inr ⟨g, by omega, pg, fun i hi pi => ?_⟩
          by_cases e : i = n
          · rw [e]; exact y
          · exact h i (by omega) pi
        · refine Or.inr ⟨n, by omega, z, fun i hi pi => ?_⟩
          by_cases e : i = n
          · rw [e]; exact Int.le_refl _
          · have := h i (by omega) pi; omega
    · rcases ih with h | ⟨g, hg, pg, h⟩
      · refine Or.inl (fun i hi => ?_)
        by_cases e : i = n
        · rw [e]; exact z
        · exact h i (by omega)
      · refine Or.inr ⟨g, by omega, pg, fun i hi pi => ?_⟩
        by_cases e : i = n
        · rw [e] at pi; exact absurd pi z
        · exact h i (by omega) pi
theorem eq_L {x : Int32} (h : gt_sz x) : x.toInt64 = Int64.ofNat x.toInt.toNat := by
  have a := eq_sz.mp h
  apply Int64.toInt_inj.mp
  rw [Int32.toInt_toInt64, Int64.toInt_ofNat_of_lt (by omega)]
  omega
theorem eq_Llt {a b : Nat} (ha : a < 2 ^ 63) (hb : b < 2 ^ 63) : Int64.ofNat a < Int64.ofNat b ↔ a < b := by
  rw [Int64.lt_iff_toInt_lt, Int64.toInt_ofNat_of_lt ha, Int64.toInt_ofNat_of_lt hb]; omega
def eq_wt (F : Nat → Nat → Int32) (part : Int32) (i : Nat) : Nat := if part = 0 then 1 else (F 9 i).toInt.toNat * (F 10 i).toInt.toNat
def eq_P (F : Nat → Nat → Int32) (kind : Int32) (sp : Int64) (ab : Int32) (fr : Int) (g : Nat) : Prop := (F 6 g = kind ∧ pl_pres ab g) ∧ fr ≤ (F 7 g).toInt ∧ (F 7 g).toInt - fr < sp.toInt
theorem eq_dif {x y : Int32} (hx : gt_sz x) (hy : gt_sz y) : (x - y).toInt64.toInt = x.toInt - y.toInt := by
  have a := eq_sz.mp hx; have b := eq_sz.mp hy
  rw [Int32.toInt_toInt64, Int32.toInt_sub, eq_i32 (by omega) (by omega)]
theorem eq_wtL {F : Nat → Nat → Int32} {part : Int32} {i : Nat} (h9 : gt_sz (F 9 i)) (h10 : gt_sz (F 10 i)) : (if part = 0 then (1 : Int64) else (F 9 i).toInt64 * (F 10 i).toInt64) = Int64.ofNat (eq_wt F part i) := by
  unfold eq_wt
  by_cases z : part = 0
  · rw [if_pos z, if_pos z]; rfl
  · rw [if_neg z, if_neg z, eq_L h9, eq_L h10, Int64.ofNat_mul]
theorem eq_wtB {F : Nat → Nat → Int32} {part : Int32} {i : Nat} (h9 : gt_sz (F 9 i)) (h10 : gt_sz (F 10 i)) : eq_wt F part i ≤ 1000000000000 := by
  unfold eq_wt
  split
  · decide
  · have a := eq_sz.mp h9; have b := eq_sz.mp h10
    have := Nat.mul_le_mul (show (F 9 i).toInt.toNat ≤ 1000000 by omega) (show (F 10 i).toInt.toNat ≤ 1000000 by omega)
    omega
theorem eq_win {F : Nat → Nat → Int32} {c : Nat} {kind part ab fr : Int32} {sp : Int64} (hf : gt_sz fr) (hF : ∀ i, i < c → gt_sz (F 7 i) ∧ gt_sz (F 8 i) ∧ gt_sz (F 9 i) ∧ gt_sz (F 10 i)) : ∀ i, i ≤ c → pl_win F fr kind sp part ab i = Int64.ofNat (eq_sum (eq_P F kind sp ab fr.toInt) (eq_wt F part) i) := by
  intro i
  induction i with
  | zero => intro _; rfl
  | succ i ih =>
    intro hi
    have h := ih (by omega)
    obtain ⟨s1, s2, s3, s4⟩ := hF i (by omega)
    have q : ((F 6 i = kind ∧ pl_pres ab i) ∧ ¬ F 7 i < fr ∧ ¬ 0 ≤ lg_cmp (F 7 i - fr).toInt64 sp) ↔ eq_P F kind sp ab fr.toInt i := by
      unfold eq_P
      rw [lg_cmp_ge, Int64.le_iff_toInt_le, eq_dif s1 hf, Int32.lt_iff_toInt_lt]
      constructor
      · rintro ⟨x1, x2, x3⟩; exact ⟨x1, by omega, by omega⟩
      · rintro ⟨x1, x2, x3⟩; exact ⟨x1, by omega, by omega⟩
    unfold pl_win eq_sum
    by_cases z : eq_P F kind sp ab fr.toInt i
    · rw [if_pos (q.mpr z), if_pos z, h, eq_wtL s3 s4, Int64.ofNat_add]
    · rw [if_neg (fun y => z (q.mp y)), if_neg z, h]
theorem eq_in {I : Nat → Int32} {F : Nat → Nat → Int32} {c : Nat} {s : md_S} {kind part ar ab e : Int32} {sp : Int64} (b : eq_bd I F c s) (hb : eq_bit ab e) (hp : part = 0 ↔ ar = 0) {f : Nat} (hf : f < c) : ∀ i, i ≤ c → mo_in s.2.1 kind sp ar e f i = Int64.ofNat (eq_sum (eq_P F kind sp ab (F 7 f).toInt) (eq_wt F part) i) := by
  obtain ⟨b0, b1, b2, b3, b4, b5, b6, b7⟩ := b
  intro i
  induction i with
  | zero => intro _; rfl
  | succ i ih =>
    intro hi
    have h := ih (by omega)
    obtain ⟨s1, s2, s3, s4⟩ := b7 i (by omega)
    have e2 : s.2.1 22 i = F 6 i := b5 1 (by decide) i (by omega)
    have e3 : s.2.1 23 i = F 7 i := b5 2 (by decide) i (by omega)
    have e3f : s.2.1 23 f = F 7 f := b5 2 (by decide) f hf
    have e5 : s.2.1 25 i = F 9 i := b5 4 (by decide) i (by omega)
    have e6 : s.2.1 26 i = F 10 i := b5 5 (by decide) i (by omega)
    have hz := hb i (by omega)
    have q : mo_there s.2.1 kind sp e f i ↔ eq_P F kind sp ab (F 7 f).toInt i := by
      unfold eq_P mo_there
      rw [e2, e3, e3f, ← hz, lg_cmp_lt, Int64.lt_iff_toInt_lt, eq_dif s1 (b7 f hf).1, Int32.lt_iff_toInt_lt]
      constructor
      · rintro ⟨x1, x2, x3, x4⟩; exact ⟨⟨x2, x1⟩, by omega, x4⟩
      · rintro ⟨⟨x2, x1⟩, x3, x4⟩; exact ⟨x1, x2, by omega, x4⟩
    have q2 : (if ar = 0 then (1 : Int64) else (s.2.1 25 i).toInt64 * (s.2.1 26 i).toInt64) = Int64.ofNat (eq_wt F part i) := by
      rw [← eq_wtL s3 s4, e5, e6]
      by_cases z : part = 0
      · rw [if_pos z, if_pos (hp.mp z)]
      · rw [if_neg z, if_neg (fun y => z (hp.mpr y))]
    unfold mo_in eq_sum
    by_cases z : eq_P F kind sp ab (F 7 f).toInt i
    · rw [if_pos (q.mpr z), if_pos z, h, q2, Int64.ofNat_add]
    · rw [if_neg (fun y => z (q.mp y)), if_neg z, h]
theorem eq_mxL {a b : Nat} (ha : a < 2 ^ 63) (hb : b < 2 ^ 63) : mx_l (Int64.ofNat a) (Int64.ofNat b) = Int64.ofNat (max a b) := by
  unfold mx_l
  by_cases z : a < b
  · rw [if_pos ((lg_cmp_lt _ _).mpr ((eq_Llt ha hb).mpr z)), Nat.max_eq_right (by omega)]
  · rw [if_neg (fun y => z ((eq_Llt ha hb).mp ((lg_cmp_lt _ _).mp y))), Nat.max_eq_left (by omega)]
theorem eq_moL {a b : Nat} (ha : a < 2 ^ 63) (hb : b < 2 ^ 63) : (if 0 < lg_cmp (Int64.ofNat b) (Int64.ofNat a) then Int64.ofNat b else Int64.ofNat a) = Int64.ofNat (max a b) := by
  by_cases z : a < b
  · rw [if_pos ((lg_cmp_gt _ _).mpr ((eq_Llt ha hb).mpr z)), Nat.max_eq_right (by omega)]
  · rw [if_neg (fun y => z ((eq_Llt ha hb).mp ((lg_cmp_gt _ _).mp y))), Nat.max_eq_left (by omega)]
noncomputable def eq_W1 (F : Nat → Nat → Int32) (kind ab : Int32) (S : Nat → Nat) : Nat → Nat
  | 0 => 0
  | i + 1 => @ite _ (F 6 i = kind ∧ pl_pres ab i) (Classical.propDecidable _) (max (eq_W1 F kind ab S i) (S i)) (eq_W1 F kind ab S i)
def eq_W2 (S : Nat → Nat) : Nat → Nat
  | 0 => 0
  | i + 1 => max (eq_W2 S i) (S i)
theorem eq_W1b {F : Nat → Nat → Int32} {kind ab : Int32} {S : Nat → Nat} {B : Nat} (h : ∀ i, S i ≤ B) : ∀ i, eq_W1 F kind ab S i ≤ B := by
  intro i
  induction i with
  | zero => exact Nat.zero_le _
  | succ i ih => have := h i; unfold eq_W1; split <;> omega
theorem eq_W2b {S : Nat → Nat} {B : Nat} (h : ∀ i, S i ≤ B) : ∀ i, eq_W2 S i ≤ B := by
  intro i
  induction i with
  | zero => exact Nat.zero_le _
  | succ i ih => have := h i; unfold eq_W2; omega
theorem eq_W12 {F : Nat → Nat → Int32} {kind ab : Int32} {S : Nat → Nat} : ∀ i, eq_W1 F kind ab S i ≤ eq_W2 S i := by
  intro i
  induction i with
  | zero => exact Nat.le_refl _
  | succ i ih => unfold eq_W1 eq_W2; split <;> omega
theorem eq_W1g {F : Nat → Nat → Int32} {kind ab : Int32} {S : Nat → Nat} {g : Nat} (hg : F 6 g = kind ∧ pl_pres ab g) : ∀ i, g < i → S g ≤ eq_W1 F kind ab S i := by
  intro i
  induction i with
  | zero => intro z; omega
  | succ i ih =>
    intro z
    unfold eq_W1
    by_cases e : g = i
    · rw [← e, if_pos hg]; omega
    · have := ih (by omega); split <;> omega
theorem eq_W2l {S : Nat → Nat} {B : Nat} : ∀ i, (∀ f, f < i → S f ≤ B) → eq_W2 S i ≤ B := by
  intro i
  induction i with
  | zero => intro _; exact Nat.zero_le _
  | succ i ih => intro h; have := h i (by omega); have := ih (fun f hf => h f (by omega)); unfold eq_W2; omega
theorem eq_worst {I : Nat → Int32} {F : Nat → Nat → Int32} {c : Nat} {s : md_S} {kind part ar ab e : Int32} {sp : Int64} (b : eq_bd I F c s) (hb : eq_bit ab e) (hp : part = 0 ↔ ar = 0) : pl_worst F kind sp part ab c c = mo_worst s.2.1 kind sp ar e c := by
  have b' := b
  obtain ⟨b0, b1, b2, b3, b4, b5, b6, b7⟩ := b
  obtain ⟨S, hS⟩ : ∃ S : Nat → Nat, S = fun f => if f < c then eq_sum (eq_P F kind sp ab (F 7 f).toInt) (eq_wt F part) c else 0 := ⟨_, rfl⟩
  have hSc : ∀ f, f < c → S f = eq_sum (eq_P F kind sp ab (F 7 f).toInt) (eq_wt F part) c := fun f hf => by rw [hS]; exact if_pos hf
  have hB : ∀ f, S f ≤ 10000000000000 := by
    intro f
    by_cases hf : f < c
    · rw [hSc f hf]
      have := eq_sum_le (P := eq_P F kind sp ab (F 7 f).toInt) (wt := eq_wt F part) (B := 1000000000000) c (fun i hi => eq_wtB (b7 i hi).2.2.1 (b7 i hi).2.2.2)
      have := Nat.mul_le_mul_right 1000000000000 b4
      omega
    · rw [hS]; show (if f < c then _ else 0) ≤ _; rw [if_neg hf]; exact Nat.zero_le _
  have w1 : ∀ i, i ≤ c → pl_worst F kind sp part ab c i = Int64.ofNat (eq_W1 F kind ab S i) := by
    intro i
    induction i with
    | zero => intro _; rfl
    | succ i ih =>
      intro hi
      have h := ih (by omega)
      have k1 := eq_W1b (F := F) (kind := kind) (ab := ab) hB i
      have k2 := hB i
      unfold pl_worst eq_W1
      by_cases z : F 6 i = kind ∧ pl_pres ab i
      · rw [if_pos z, if_pos z, h, eq_win (b7 i (by omega)).1 b7 c (Nat.le_refl _), ← hSc i (by omega), eq_mxL (by omega) (by omega)]
      · rw [if_neg z, if_neg z, h]
  have w2 : ∀ i, i ≤ c → mo_most s.2.1 kind sp ar e c i = Int64.ofNat (eq_W2 S i) := by
    intro i
    induction i with
    | zero => intro _; rfl
    | succ i ih =>
      intro hi
      have h := ih (by omega)
      have k1 := eq_W2b hB i
      have k2 := hB i
      unfold mo_most eq_W2
      rw [h, eq_in b' hb hp (show i < c by omega) c (Nat.le_refl _), ← hSc i (by omega), eq_moL (by omega) (by omega)]
  rw [w1 c (Nat.le_refl _)]
  unfold mo_worst
  by_cases z : lg_cmp sp 1 < 0
  · rw [if_pos z]
    rw [lg_cmp_lt, Int64.lt_iff_toInt_lt, show Int64.toInt 1 = 1 from rfl] at z
    have : eq_W1 F kind ab S c ≤ 0 := Nat.le_trans (eq_W12 c) (eq_W2l c (fun f hf => by
      rw [hSc f hf, eq_sum_0 c]
      · exact Nat.le_refl _
      · intro i hi hP; unfold eq_P at hP; omega))
    rw [show eq_W1 F kind ab S c = 0 by omega]; rfl
  · rw [if_neg z, w2 c (Nat.le_refl _)]
    congr 1
    refine Nat.le_antisymm (eq_W12 c) (eq_W2l c (fun f hf => ?_))
    rcases eq_least (P := eq_P F kind sp ab (F 7 f).toInt) (x := fun i => (F 7 i).toInt) c with h | ⟨g, hg, pg, h⟩
    · rw [hSc f hf, eq_sum_0 c h]; exact Nat.zero_le _
    · refine Nat.le_trans ?_ (eq_W1g (g := g) pg.1 c hg)
      rw [hSc f hf, hSc g hg]
      refine eq_sum_mono c (fun i hi pi => ⟨pi.1, h i hi pi, ?_⟩)
      have := pi.2.2; have := pg.2.1
      omega
