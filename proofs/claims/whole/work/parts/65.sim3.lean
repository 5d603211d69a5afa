/-! The turns follow the grammar: factors, terms, expressions -/
section
variable {u : Nat → Int32} {n : Nat}
def sm_F (u : Nat → Int32) (n dp : Nat) (fc : Nat → pz_R) : Prop := ∀ a U W, mz_ctx n dp a U W → mz_out 9 11 W → ((fc a).1 = true → mz_to u n (false, true, dp, (a, U, W, none)) (true, true, dp, ((fc a).2.1, List.reverseAux ((fc a).2.2.map pz_m) U, W, none))) ∧ ((fc a).1 = false → mz_bad u n (false, true, dp, (a, U, W, none)) (fc a).2.1)
def sm_E (u : Nat → Int32) (n dp : Nat) (lo : Int32) (fc : Nat → pz_R) : Prop := ∀ a U W, mz_ctx n dp a U W → mz_out 9 11 W → mz_out lo 15 W → ((fc a).1 = true → ∃ pe U', mz_to u n (false, true, dp, (a, U, W, none)) (true, true, dp, ((fc a).2.1, U', pe ++ W, none)) ∧ mz_in lo 15 pe ∧ List.reverseAux pe U' = List.reverseAux ((fc a).2.2.map pz_m) U) ∧ ((fc a).1 = false → mz_bad u n (false, true, dp, (a, U, W, none)) (fc a).2.1)
def sm_B (u : Nat → Int32) (n dp : Nat) (fc : Nat → pz_R) : Prop := ∀ a U L W, mz_ctx n dp a U (L ++ W) → mz_in 9 11 L → mz_out 9 11 W → ¬ (cu_c u n a = 45 ∨ cu_c u n a = 102 ∨ cu_c u n a = 99) → ((fc a).1 = true → mz_to u n (false, true, dp, (a, U, L ++ W, none)) (true, true, dp, ((fc a).2.1, List.reverseAux L (List.reverseAux ((fc a).2.2.map pz_m) U), W, none))) ∧ ((fc a).1 = false → mz_bad u n (false, true, dp, (a, U, L ++ W, none)) (fc a).2.1)
theorem mz_en_app {a : Nat} {U L W : pz_P} (hl : mz_in 9 11 L) (hw : mz_out 9 11 W) : mz_en a U (L ++ W) none = (a, List.reverseAux L U, W, none) := by
  unfold mz_en; rw [mz_pp_app hw L U hl]
theorem mz_rf_dig {dp a : Nat} {U W : pz_P} (h : ¬ cu_c u n a < 48 ∧ ¬ 57 < cu_c u n a) : mz_rf u n dp a U W none = (true, mz_en (cu_num u n 6 a 0).2 ((1, (cu_num u n 6 a 0).1) :: U) W none) := by
  unfold mz_rf; rw [if_pos (mz_dg.mpr h)]
theorem mz_rf_let {dp a : Nat} {U W : pz_P} (h : cu_c u n a = 108 ∨ cu_c u n a = 119 ∨ cu_c u n a = 116) : mz_rf u n dp a U W none = (true, mz_en (a + 1) (pz_m (cu_c u n a, 0) :: U) W none) ∧ ¬ mz_c u n a = 40 := by
  rcases h with h | h | h
  · have e := (mz_ec (u := u) (n := n) (a := a) (k := 108) (by decide) (by decide)).mpr h
    refine ⟨?_, by rw [e]; decide⟩
    unfold mz_rf; rw [e, h]; rfl
  · have e := (mz_ec (u := u) (n := n) (a := a) (k := 119) (by decide) (by decide)).mpr h
    refine ⟨?_, by rw [e]; decide⟩
    unfold mz_rf; rw [e, h]; rfl
  · have e := (mz_ec (u := u) (n := n) (a := a) (k := 116) (by decide) (by decide)).mpr h
    refine ⟨?_, by rw [e]; decide⟩
    unfold mz_rf; rw [e, h]; rfl
theorem mz_rf_knd {dp a : Nat} {U W : pz_P} (h : cu_c u n a = 110 ∨ cu_c u n a = 97 ∨ cu_c u n a = 115 ∨ cu_c u n a = 101) : mz_rf u n dp a U W none = (true, mz_en (a + 1 + 1) (pz_m (cu_c u n a, mz_c u n (a + 1) - 48) :: U) W (mz_kf u n a none)) ∧ ¬ mz_c u n a = 40 := by
  rcases h with h | h | h | h
  · have e := (mz_ec (u := u) (n := n) (a := a) (k := 110) (by decide) (by decide)).mpr h
    refine ⟨?_, by rw [e]; decide⟩
    unfold mz_rf; rw [e, h]; rfl
  · have e := (mz_ec (u := u) (n := n) (a := a) (k := 97) (by decide) (by decide)).mpr h
    refine ⟨?_, by rw [e]; decide⟩
    unfold mz_rf; rw [e, h]; rfl
  · have e := (mz_ec (u := u) (n := n) (a := a) (k := 115) (by decide) (by decide)).mpr h
    refine ⟨?_, by rw [e]; decide⟩
    unfold mz_rf; rw [e, h]; rfl
  · have e := (mz_ec (u := u) (n := n) (a := a) (k := 101) (by decide) (by decide)).mpr h
    refine ⟨?_, by rw [e]; decide⟩
    unfold mz_rf; rw [e, h]; rfl
theorem mz_rf_40 {dp a : Nat} {U W : pz_P} (h : cu_c u n a = 40) : mz_c u n a = 40 ∧ mz_rf u n dp a U W none = (if dp < 8 then (false, (a + 1, U, (17, 0) :: W, none)) else (false, (a, U, W, some a))) := by
  have e := (mz_ec (u := u) (n := n) (a := a) (k := 40) (by decide) (by decide)).mpr h
  refine ⟨e, ?_⟩
  unfold mz_rf; rw [e]
  by_cases z : dp < 8
  · rw [if_pos z, if_neg (by decide), if_neg (by decide), if_neg (by decide), if_neg (by decide), if_neg (by decide), if_pos ⟨rfl, z⟩]
  · rw [if_neg z, if_neg (by decide), if_neg (by decide), if_neg (by decide), if_neg (by decide), if_neg (by decide), if_neg (fun q => z q.2)]; rfl
theorem mz_rf_no {dp a : Nat} {U W : pz_P} (h1 : ¬ (cu_c u n a = 45 ∨ cu_c u n a = 102 ∨ cu_c u n a = 99)) (h2 : ¬ cu_c u n a = 40) (h3 : ¬ (¬ cu_c u n a < 48 ∧ ¬ 57 < cu_c u n a)) (h4 : ¬ (cu_c u n a = 108 ∨ cu_c u n a = 119 ∨ cu_c u n a = 116)) (h5 : ¬ (cu_c u n a = 110 ∨ cu_c u n a = 97 ∨ cu_c u n a = 115 ∨ cu_c u n a = 101)) : mz_rf u n dp a U W none = (false, (a, U, W, some a)) ∧ ¬ mz_c u n a = 40 := by
  have k : ∀ z : Int32, ¬ z = 0 → ¬ z = -1 → ¬ cu_c u n a = z → ¬ mz_c u n a = z := fun z q1 q2 q3 q4 => q3 ((mz_ec q1 q2).mp q4)
  have k40 := k 40 (by decide) (by decide) h2
  refine ⟨?_, k40⟩
  unfold mz_rf
  rw [if_neg (fun q => h3 (mz_dg.mp q)),
    if_neg (by rintro (q | q | q) <;> exact absurd q (k _ (by decide) (by decide) (fun y => h4 (by rw [y]; decide)))),
    if_neg (by rintro (q | q | q | q) <;> exact absurd q (k _ (by decide) (by decide) (fun y => h5 (by rw [y]; decide)))),
    if_neg (k 99 (by decide) (by decide) (fun y => h1 (by rw [y]; decide))),
    if_neg (by rintro (q | q) <;> exact absurd q (k _ (by decide) (by decide) (fun y => h1 (by rw [y]; decide)))),
    if_neg (fun q => k40 q.1)]
  rfl
theorem sm_bare (hn : n ≤ 300) (ht : mz_tx u n) {dp : Nat} {sub : Nat → pz_R} {deep : Bool} (hd : (deep = true ∧ dp = 8) ∨ (deep = false ∧ dp < 8 ∧ sm_E u n (dp + 1) 12 sub ∧ ∀ b, b ≤ n → pz_good n b (sub b) ∧ ((sub b).1 = true → ¬ (cu_c u n (sub b).2.1 = 42 ∨ cu_c u n (sub b).2.1 = 47) ∧ ¬ (cu_c u n (sub b).2.1 = 43 ∨ cu_c u n (sub b).2.1 = 45)))) : sm_B u n dp (pz_bare u n sub deep) := by
  intro a U L W c hL hW hp
  have t1 := mz_to_1 (wh := false) hn c (mz_it0 u n dp a U (L ++ W) none)
  unfold pz_bare
  by_cases h1 : cu_c u n a = 40
  · rw [if_pos h1]
    have hl : a < n := mz_lt h1 (by decide)
    obtain ⟨e40, r1⟩ := mz_rf_40 (dp := dp) (U := U) (W := L ++ W) h1
    rw [r1, if_pos e40] at t1
    unfold pz_par
    rcases hd with ⟨hd, hdp⟩ | ⟨hd, hdp, hs, hg⟩
    · rw [if_pos hd]
      rw [if_neg (by omega)] at t1
      have c1 := c.1
      exact ⟨fun z => (by cases z), fun _ => ⟨_, t1, rfl, by show a ≤ 310; omega, by show U.length + (L ++ W).length ≤ 315; omega⟩⟩
    · rw [if_neg (by rw [hd]; decide)]
      rw [if_pos hdp] at t1
      have c1 := c.1
      have c' : mz_ctx n (dp + 1) (a + 1) U ((17, 0) :: (L ++ W)) := ⟨by rw [List.length_cons]; omega, by omega, by omega, fun _ => ⟨(17, 0), List.mem_cons_self, rfl⟩⟩
      obtain ⟨s1, s2⟩ := hs (a + 1) U ((17, 0) :: (L ++ W)) c' (fun x r e => by injection e with e1 e2; rw [← e1]; decide) (fun x r e => by injection e with e1 e2; rw [← e1]; decide)
      obtain ⟨g1, g2⟩ := hg (a + 1) (by omega)
      cases hk : (sub (a + 1)).1 with
      | false =>
        rw [if_pos (Or.inl rfl)]
        exact ⟨fun z => (by cases z), fun _ => mz_bad_of t1 (s2 hk)⟩
      | true =>
        obtain ⟨pe, U', k1, k2, k3⟩ := s1 hk
        obtain ⟨g3, g4⟩ := g2 hk
        have g5 := g1.2 hk
        have hlen := congrArg List.length k3
        rw [rv_len, rv_len, List.length_map] at hlen
        have c2 : mz_ctx n (dp + 1) (sub (a + 1)).2.1 U' (pe ++ (17, 0) :: (L ++ W)) := ⟨by have := c'.1; rw [List.length_append]; omega, g1.1, by omega, fun _ => ⟨(17, 0), List.mem_append_right _ List.mem_cons_self, rfl⟩⟩
        have t2 := mz_to_1 (wh := true) hn c2 (mz_it1 u n (dp + 1) (sub (a + 1)).2.1 U' (pe ++ (17, 0) :: (L ++ W)) none)
        have q43 : ¬ (mz_c u n (sub (a + 1)).2.1 = 43 ∨ mz_c u n (sub (a + 1)).2.1 = 45) := by rw [mz_ec (by decide) (by decide), mz_ec (by decide) (by decide)]; exact g4
        have q42 : ¬ (mz_c u n (sub (a + 1)).2.1 = 42 ∨ mz_c u n (sub (a + 1)).2.1 = 47) := by rw [mz_ec (by decide) (by decide), mz_ec (by decide) (by decide)]; exact g3
        rw [if_neg q43, if_neg q42] at t2
        by_cases h41 : cu_c u n (sub (a + 1)).2.1 = 41
        · rw [if_neg (by rintro (q | q); cases q; exact q h41)]
          rw [if_pos ⟨(mz_ec (by decide) (by decide)).mpr h41, by omega⟩, mz_po_app rfl pe U' k2, List.tail_cons, mz_en_app hL hW, k3] at t2
          exact ⟨fun _ => mz_to_tr t1 (mz_to_tr k1 t2), fun z => by cases z⟩
        · rw [if_pos (Or.inr h41)]
          rw [if_neg (fun q => h41 ((mz_ec (by decide) (by decide)).mp q.1)), if_pos (by omega)] at t2
          exact ⟨fun z => (by cases z), fun _ => ⟨_, mz_to_tr t1 (mz_to_tr k1 t2), rfl, by have := g1.1; show (sub (a + 1)).2.1 ≤ 310; omega, by have := c2.1; have := g1.1; show U'.length + (pe ++ (17, 0) :: (L ++ W)).length ≤ 315; omega⟩⟩
  rw [if_neg h1]
  have n40 : ¬ mz_c u n a = 40 := fun q => h1 ((mz_ec (by decide) (by decide)).mp q)
  rw [if_neg n40] at t1
  by_cases h2 : ¬ cu_c u n a < 48 ∧ ¬ 57 < cu_c u n a
  · rw [if_pos h2]
    rw [mz_rf_dig h2, mz_en_app hL hW] at t1
    exact ⟨fun _ => t1, fun z => by cases z⟩
  rw [if_neg h2]
  unfold pz_let
  by_cases h3 : cu_c u n a = 108 ∨ cu_c u n a = 119 ∨ cu_c u n a = 116
  · rw [if_pos h3]
    rw [(mz_rf_let h3).1, mz_en_app hL hW] at t1
    exact ⟨fun _ => t1, fun z => by cases z⟩
  rw [if_neg h3]
  by_cases h4 : cu_c u n a = 110 ∨ cu_c u n a = 97 ∨ cu_c u n a = 115 ∨ cu_c u n a = 101
  · rw [if_pos h4]
    have hl : a < n := by rcases h4 with h | h | h | h <;> exact mz_lt h (by decide)
    rw [(mz_rf_knd h4).1] at t1
    by_cases h5 : cu_isd (cu_c u n (a + 1)) 8
    · rw [if_pos h5]
      have hk : mz_kf u n a none = none := by unfold mz_kf; rw [if_neg ((mz_kd ht).mp h5)]
      rw [hk, mz_en_app hL hW, (mz_isd_lt ht h5).2] at t1
      exact ⟨fun _ => t1, fun z => by cases z⟩
    · rw [if_neg h5]
      refine ⟨fun z => (by cases z), fun _ => ⟨_, t1, ?_, by show a + 1 + 1 ≤ 310; omega, ?_⟩⟩
      · show mz_kf u n a none = some (a + 1)
        unfold mz_kf; rw [if_pos (Classical.byContradiction fun q => h5 ((mz_kd ht).mpr q))]; rfl
      · have := mz_pp_len (lo := 9) (hi := 11) (L ++ W) (pz_m (cu_c u n a, mz_c u n (a + 1) - 48) :: U)
        have c1 := c.1
        rw [List.length_cons] at this
        show (mz_pp 9 11 (L ++ W) (pz_m (cu_c u n a, mz_c u n (a + 1) - 48) :: U)).2.length + (mz_pp 9 11 (L ++ W) (pz_m (cu_c u n a, mz_c u n (a + 1) - 48) :: U)).1.length ≤ 315
        omega
  rw [if_neg h4]
  rw [(mz_rf_no hp h1 h2 h3 h4).1] at t1
  have c1 := c.1
  have c2 := c.2.1
  exact ⟨fun z => (by cases z), fun _ => ⟨_, t1, rfl, by show a ≤ 310; omega, by show U.length + (L ++ W).length ≤ 315; omega⟩⟩
theorem sm_fac (hn : n ≤ 300) (ht : mz_tx u n) {dp : Nat} {bare : Nat → pz_R} (hb : sm_B u n dp bare) : sm_F u n dp (pz_F u n bare) := by
  intro a U W c hW
  obtain ⟨p1, p2⟩ := mz_pre_sim hn ht (dp := dp) 300 a U W (by omega) c
  unfold pz_F
  cases hk : (cu_pre u n 300 a).1 with
  | false =>
    rw [if_neg (by decide)]
    exact ⟨fun z => (by cases z), fun _ => p2 hk⟩
  | true =>
    rw [if_pos rfl]
    obtain ⟨L, l1, l2, l3, l4, l5⟩ := p1 hk
    have hmx := (cu_pre_mx u n 300 a).1
    have c2 := c.2.1
    have c' : mz_ctx n dp (cu_pre u n 300 a).2 U (L.map pz_m ++ W) := ⟨by have := c.1; rw [List.length_append, List.length_map]; omega, by omega, c.2.2.1, fun q => by obtain ⟨x, hx, ex⟩ := c.2.2.2 q; exact ⟨x, List.mem_append_right _ hx, ex⟩⟩
    obtain ⟨b1, b2⟩ := hb (cu_pre u n 300 a).2 U (L.map pz_m) W c' l2 hW l5
    have eL : pz_pre u a (cu_pre u n 300 a).2 (cu_pre u n 300 a).2 = L := by
      obtain ⟨q', _, e⟩ := l4 a (cu_pre u n 300 a).2 (Nat.le_refl _) (by omega)
      rw [e]
      cases q' with
      | zero => exact List.append_nil L
      | succ q => rw [show pz_pre u a (q + 1) a = [] from if_pos (Nat.le_refl _)]; exact List.append_nil L
    by_cases h2 : (bare (cu_pre u n 300 a).2).1 = false ∨ (cu_pre u n 300 a).2 = a
    · rw [if_pos h2]
      refine ⟨fun z => ?_, fun z => mz_bad_of l1 (b2 z)⟩
      rcases h2 with h2 | h2
      · rw [h2] at z; cases z
      · have hL : L = [] := List.eq_nil_of_length_eq_zero (by omega)
        subst hL
        exact mz_to_tr l1 (b1 z)
    · rw [if_neg h2]
      have hk2 : (bare (cu_pre u n 300 a).2).1 = true := by
        cases e : (bare (cu_pre u n 300 a).2).1
        · exact absurd (Or.inl e) h2
        · rfl
      refine ⟨fun _ => ?_, fun z => by cases z⟩
      have t := mz_to_tr l1 (b1 hk2)
      rw [← rv_app, ← List.map_append] at t
      rw [eL]
      exact t
end
