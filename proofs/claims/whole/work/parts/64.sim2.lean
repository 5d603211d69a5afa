/-! The turns follow the grammar -/
theorem mz_it0 (u : Nat → Int32) (n dp a : Nat) (U W : pz_P) (fl : Option Nat) : mz_it u n (false, true, dp, (a, U, W, fl)) = ((mz_rf u n dp a U W fl).1, true, (if mz_c u n a = 40 then dp + 1 else dp), (mz_rf u n dp a U W fl).2) := rfl
theorem pz_m126 : pz_m (126, 0) = (11, 0) := by decide
theorem pz_m102 : pz_m (102, 0) = (10, 0) := by decide
theorem pz_m99 (x : Int32) : pz_m (99, x) = (9, x) := rfl
theorem pz_m35 (x : Int32) : pz_m (35, x) = (1, x) := rfl
section
variable {u : Nat → Int32} {n : Nat}
/-- the reference's turn at a place where c stands -/
theorem mz_rf_45 {dp a : Nat} {U W : pz_P} {fl : Option Nat} (h : cu_c u n a = 45) : mz_rf u n dp a U W fl = (false, (a + 1, U, (11, 0) :: W, fl)) ∧ ¬ mz_c u n a = 40 := by
  have e := (mz_ec (u := u) (n := n) (a := a) (k := 45) (by decide) (by decide)).mpr h
  refine ⟨?_, by rw [e]; decide⟩
  unfold mz_rf; rw [e]; rfl
theorem mz_rf_102 {dp a : Nat} {U W : pz_P} {fl : Option Nat} (h : cu_c u n a = 102) : mz_rf u n dp a U W fl = (false, (a + 1, U, (10, 0) :: W, fl)) ∧ ¬ mz_c u n a = 40 := by
  have e := (mz_ec (u := u) (n := n) (a := a) (k := 102) (by decide) (by decide)).mpr h
  refine ⟨?_, by rw [e]; decide⟩
  unfold mz_rf; rw [e]; rfl
theorem mz_rf_99 {dp a : Nat} {U W : pz_P} {fl : Option Nat} (h : cu_c u n a = 99) : mz_rf u n dp a U W fl = (false, (a + 1 + 1, U, (9, mz_c u n (a + 1) - 48) :: W, mz_kf u n a fl)) ∧ ¬ mz_c u n a = 40 := by
  have e := (mz_ec (u := u) (n := n) (a := a) (k := 99) (by decide) (by decide)).mpr h
  refine ⟨?_, by rw [e]; decide⟩
  unfold mz_rf; rw [e]; rfl
theorem mz_isd_lt (ht : mz_tx u n) {a : Nat} (h : cu_isd (cu_c u n a) 8) : a < n ∧ mz_c u n a = cu_c u n a := by
  have hl : a < n := by
    by_cases z : a < n
    · exact z
    · rw [show cu_c u n a = 0 from if_neg z] at h; exact absurd h (by decide)
  exact ⟨hl, mz_same hl⟩
/-- what stands before a factor: turns push it -/
theorem mz_pre_sim (hn : n ≤ 300) (ht : mz_tx u n) {dp : Nat} : ∀ (m a : Nat) (U W : pz_P), n ≤ m + a → mz_ctx n dp a U W →
    ((cu_pre u n m a).1 = true → ∃ L : pz_P, mz_to u n (false, true, dp, (a, U, W, none)) (false, true, dp, ((cu_pre u n m a).2, U, L.map pz_m ++ W, none)) ∧ mz_in 9 11 (L.map pz_m) ∧ L.length + a ≤ (cu_pre u n m a).2 ∧ (∀ b q, b ≤ a → (cu_pre u n m a).2 ≤ q + b → ∃ q', a ≤ q' + b ∧ pz_pre u b q (cu_pre u n m a).2 = L ++ pz_pre u b q' a) ∧ ¬ (cu_c u n (cu_pre u n m a).2 = 45 ∨ cu_c u n (cu_pre u n m a).2 = 102 ∨ cu_c u n (cu_pre u n m a).2 = 99)) ∧
    ((cu_pre u n m a).1 = false → mz_bad u n (false, true, dp, (a, U, W, none)) (cu_pre u n m a).2) := by
  intro m
  induction m with
  | zero =>
    intro a U W hm c
    refine ⟨fun _ => ⟨[], mz_to_rf, fun x hx => (by cases hx), by show 0 + a ≤ a; omega, fun b q hb hq => ⟨q, hq, rfl⟩, ?_⟩, fun z => by cases z⟩
    show ¬ (cu_c u n a = 45 ∨ cu_c u n a = 102 ∨ cu_c u n a = 99)
    rw [show cu_c u n a = 0 from if_neg (by omega)]; decide
  | succ m ih =>
    intro a U W hm c
    unfold cu_pre
    by_cases h1 : cu_c u n a = 45 ∨ cu_c u n a = 102 ∨ cu_c u n a = 99
    · rw [if_pos h1]
      have hl : a < n := by rcases h1 with q | q | q <;> exact mz_lt q (by decide)
      have hua : cu_c u n a = u a := if_pos hl
      obtain ⟨c1, c2, c3, c4⟩ := c
      by_cases h2 : cu_c u n a = 99
      · rw [if_pos h2]
        obtain ⟨r1, r2⟩ := mz_rf_99 (dp := dp) (U := U) (W := W) (fl := none) h2
        have t1 := mz_to_1 (wh := false) hn ⟨c1, c2, c3, c4⟩ (mz_it0 u n dp a U W none)
        rw [r1, if_neg r2] at t1
        by_cases h3 : cu_isd (cu_c u n (a + 1)) 8
        · rw [if_pos h3]
          obtain ⟨d1, d2⟩ := mz_isd_lt ht h3
          have hu1 : cu_c u n (a + 1) = u (a + 1) := if_pos d1
          have hk : mz_kf u n a none = none := by unfold mz_kf; rw [if_neg ((mz_kd ht).mp h3)]
          rw [hk, d2] at t1
          obtain ⟨ih1, ih2⟩ := ih (a + 2) U ((9, cu_c u n (a + 1) - 48) :: W) (by omega) ⟨by simp; omega, by omega, c3, fun q => by obtain ⟨x, hx, ex⟩ := c4 q; exact ⟨x, List.mem_cons_of_mem _ hx, ex⟩⟩
          refine ⟨fun z => ?_, fun z => mz_bad_of t1 (ih2 z)⟩
          obtain ⟨L, l1, l2, l3, l4, l5⟩ := ih1 z
          refine ⟨L ++ [(99, cu_c u n (a + 1) - 48)], ?_, ?_, ?_, ?_, l5⟩
          · rw [List.map_append, List.append_assoc]; exact mz_to_tr t1 l1
          · intro x hx
            rw [List.map_append] at hx
            rcases List.mem_append.mp hx with hx | hx
            · exact l2 x hx
            · rw [List.mem_singleton.mp hx, pz_m99]; show ¬ (9 : Int32) < 9 ∧ ¬ (11 : Int32) < 9; decide
          · rw [List.length_append, List.length_singleton]; omega
          · intro b q hb hq
            obtain ⟨q', e1, e2⟩ := l4 b q (by omega) hq
            obtain ⟨q2, rfl⟩ : ∃ z, q' = z + 1 := ⟨q' - 1, by omega⟩
            refine ⟨q2, by omega, ?_⟩
            have e3 : pz_pre u b (q2 + 1) (a + 2) = (99, u (a + 1) - 48) :: pz_pre u b q2 a := by
              show (if a + 2 ≤ b then _ else if u (a + 2 - 1) = 45 then _ else if u (a + 2 - 1) = 102 then _ else _) = _
              rw [show a + 2 - 1 = a + 1 by omega, if_neg (by omega), ← hu1, if_neg (fun q => by rw [q] at h3; exact absurd h3 (by decide)), if_neg (fun q => by rw [q] at h3; exact absurd h3 (by decide))]
              rfl
            rw [e2, e3, hu1, List.append_assoc]; rfl
        · rw [if_neg h3]
          refine ⟨fun z => (by cases z), fun _ => ?_⟩
          refine ⟨_, t1, ?_, ?_, ?_⟩
          · show mz_kf u n a none = some (a + 1)
            unfold mz_kf; rw [if_pos (Classical.byContradiction fun q => h3 ((mz_kd ht).mpr q))]; rfl
          · show a + 1 + 1 ≤ 310; omega
          · show U.length + (W.length + 1) ≤ 315; omega
      · rw [if_neg h2]
        -- - or f
        have key : ∃ g k : Int32, (k = 126 ∧ g = 11 ∨ k = 102 ∧ g = 10) ∧ mz_rf u n dp a U W none = (false, (a + 1, U, (g, 0) :: W, none)) ∧ ¬ mz_c u n a = 40 ∧ (∀ b q, ¬ a + 1 ≤ b → pz_pre u b (q + 1) (a + 1) = (k, 0) :: pz_pre u b q a) := by
          rcases h1 with h1 | h1 | h1
          · obtain ⟨r1, r2⟩ := mz_rf_45 (dp := dp) (U := U) (W := W) (fl := none) h1
            refine ⟨11, 126, Or.inl ⟨rfl, rfl⟩, r1, r2, fun b q hb => ?_⟩
            show (if a + 1 ≤ b then _ else if u (a + 1 - 1) = 45 then _ else if u (a + 1 - 1) = 102 then _ else _) = _
            rw [show a + 1 - 1 = a by omega, if_neg hb, if_pos (by rw [← hua]; exact h1)]
          · obtain ⟨r1, r2⟩ := mz_rf_102 (dp := dp) (U := U) (W := W) (fl := none) h1
            refine ⟨10, 102, Or.inr ⟨rfl, rfl⟩, r1, r2, fun b q hb => ?_⟩
            show (if a + 1 ≤ b then _ else if u (a + 1 - 1) = 45 then _ else if u (a + 1 - 1) = 102 then _ else _) = _
            rw [show a + 1 - 1 = a by omega, if_neg hb, if_neg (by rw [← hua, h1]; decide), if_pos (by rw [← hua]; exact h1)]
          · exact absurd h1 h2
        obtain ⟨g, k, hgk, r1, r2, r3⟩ := key
        have hgm : pz_m (k, 0) = (g, 0) := by rcases hgk with ⟨rfl, rfl⟩ | ⟨rfl, rfl⟩ <;> decide
        have t1 := mz_to_1 (wh := false) hn ⟨c1, c2, c3, c4⟩ (mz_it0 u n dp a U W none)
        rw [r1, if_neg r2] at t1
        obtain ⟨ih1, ih2⟩ := ih (a + 1) U ((g, 0) :: W) (by omega) ⟨by simp; omega, by omega, c3, fun q => by obtain ⟨x, hx, ex⟩ := c4 q; exact ⟨x, List.mem_cons_of_mem _ hx, ex⟩⟩
        refine ⟨fun z => ?_, fun z => mz_bad_of t1 (ih2 z)⟩
        obtain ⟨L, l1, l2, l3, l4, l5⟩ := ih1 z
        refine ⟨L ++ [(k, 0)], ?_, ?_, ?_, ?_, l5⟩
        · rw [List.map_append, List.append_assoc, List.map_singleton, hgm]; exact mz_to_tr t1 l1
        · intro x hx
          rw [List.map_append] at hx
          rcases List.mem_append.mp hx with hx | hx
          · exact l2 x hx
          · rw [List.mem_singleton.mp hx, hgm]; rcases hgk with ⟨_, rfl⟩ | ⟨_, rfl⟩ <;> decide
        · rw [List.length_append, List.length_singleton]; omega
        · intro b q hb hq
          obtain ⟨q', e1, e2⟩ := l4 b q (by omega) hq
          obtain ⟨q2, rfl⟩ : ∃ z, q' = z + 1 := ⟨q' - 1, by omega⟩
          refine ⟨q2, by omega, ?_⟩
          rw [e2, r3 b q2 (by omega), List.append_assoc]; rfl
    · rw [if_neg h1]
      exact ⟨fun _ => ⟨[], mz_to_rf, fun x hx => (by cases hx), by show 0 + a ≤ a; omega, fun b q hb hq => ⟨q, hq, rfl⟩, h1⟩, fun z => by cases z⟩
end
