/-! The turns follow the grammar: terms, expressions, levels -/
def pz_L (c1 c2 : Int32) (f : Nat → Int32) (len : Nat) (fc : Nat → pz_R) : Nat → pz_R → pz_R
  | 0, x => x
  | m + 1, x => if x.1 = false then x else if cu_c f len x.2.1 = c1 ∨ cu_c f len x.2.1 = c2 then
      pz_L c1 c2 f len fc m ((fc (x.2.1 + 1)).1, (fc (x.2.1 + 1)).2.1, x.2.2 ++ (fc (x.2.1 + 1)).2.2 ++ [(cu_c f len x.2.1, 0)]) else x
theorem pz_Tl_L (f : Nat → Int32) (len : Nat) (fc : Nat → pz_R) : ∀ (m : Nat) (x : pz_R), pz_Tl f len fc m x = pz_L 42 47 f len fc m x := by
  intro m
  induction m with
  | zero => intro x; rfl
  | succ m ih => intro x; unfold pz_Tl pz_L; rw [ih]
theorem pz_El_L (f : Nat → Int32) (len : Nat) (fc : Nat → pz_R) : ∀ (m : Nat) (x : pz_R), pz_El f len fc m x = pz_L 43 45 f len fc m x := by
  intro m
  induction m with
  | zero => intro x; rfl
  | succ m ih => intro x; unfold pz_El pz_L; rw [ih]
section
variable {u : Nat → Int32} {n : Nat}
def sm_R (u : Nat → Int32) (n dp : Nat) (lo : Int32) (a : Nat) (U W : pz_P) (x : pz_R) : Prop := pz_good n a x ∧ (x.1 = true → ∃ pe U', mz_to u n (false, true, dp, (a, U, W, none)) (true, true, dp, (x.2.1, U', pe ++ W, none)) ∧ mz_in lo 15 pe ∧ List.reverseAux pe U' = List.reverseAux (x.2.2.map pz_m) U) ∧ (x.1 = false → mz_bad u n (false, true, dp, (a, U, W, none)) x.2.1)
theorem sm_L (hn : n ≤ 300) {dp : Nat} {lo lo2 c1 c2 : Int32} {fc : Nat → pz_R} (h0 : ¬ c1 = 0 ∧ ¬ c2 = 0) (hll : ∀ g : Int32, ¬ g < lo2 → ¬ g < lo)
    (hit : ∀ a U W, (cu_c u n a = c1 ∨ cu_c u n a = c2) → ∃ g : Int32, mz_it u n (true, true, dp, (a, U, W, none)) = (false, true, dp, (a + 1, (mz_pp lo 15 W U).2, (g, 0) :: (mz_pp lo 15 W U).1, none)) ∧ pz_m (cu_c u n a, 0) = (g, 0) ∧ (¬ g < lo ∧ ¬ 15 < g) ∧ ¬ (¬ g < 9 ∧ ¬ 11 < g) ∧ ¬ (¬ g < lo2 ∧ ¬ 15 < g))
    (hs : sm_E u n dp lo2 fc) (hg : ∀ b, b ≤ n → pz_good n b (fc b)) {a : Nat} {U W : pz_P} (c : mz_ctx n dp a U W) (hW : mz_out lo 15 W) :
    ∀ (m : Nat) (x : pz_R), sm_R u n dp lo a U W x → sm_R u n dp lo a U W (pz_L c1 c2 u n fc m x) := by
  intro m
  induction m with
  | zero => intro x h; exact h
  | succ m ih =>
    intro x h
    unfold pz_L
    by_cases h1 : x.1 = false
    · rw [if_pos h1]; exact h
    rw [if_neg h1]
    by_cases h2 : cu_c u n x.2.1 = c1 ∨ cu_c u n x.2.1 = c2
    · rw [if_pos h2]
      have hk : x.1 = true := by cases e : x.1; exact absurd e h1; rfl
      apply ih
      obtain ⟨x1, x2, x3⟩ := h
      obtain ⟨pe, U', t, hpe, hrv⟩ := x2 hk
      have hl : x.2.1 < n := by rcases h2 with q | q; exact mz_lt q h0.1; exact mz_lt q h0.2
      have h4 := x1.2 hk
      have hlen := congrArg List.length hrv
      rw [rv_len, rv_len, List.length_map] at hlen
      have c1' := c.1
      have cx : mz_ctx n dp x.2.1 U' (pe ++ W) := ⟨by rw [List.length_append]; omega, by omega, c.2.2.1, fun q => by obtain ⟨z, hz, ez⟩ := c.2.2.2 q; exact ⟨z, List.mem_append_right _ hz, ez⟩⟩
      obtain ⟨g, g1, g2, g3, g4, g5⟩ := hit x.2.1 U' (pe ++ W) h2
      have t2 := mz_to_1 (wh := true) hn cx g1
      rw [mz_pp_app hW pe U' hpe, hrv] at t2
      have cy : mz_ctx n dp (x.2.1 + 1) (List.reverseAux (x.2.2.map pz_m) U) ((g, 0) :: W) := ⟨by rw [rv_len, List.length_map, List.length_cons]; omega, by omega, c.2.2.1, fun q => by obtain ⟨z, hz, ez⟩ := c.2.2.2 q; exact ⟨z, List.mem_cons_of_mem _ hz, ez⟩⟩
      obtain ⟨s1, s2⟩ := hs (x.2.1 + 1) _ ((g, 0) :: W) cy (fun z r e => by injection e with e1 e2; rw [← e1]; exact g4) (fun z r e => by injection e with e1 e2; rw [← e1]; exact g5)
      have gf := hg (x.2.1 + 1) (by omega)
      refine ⟨⟨gf.1, fun z => ?_⟩, fun z => ?_, fun z => mz_bad_of (mz_to_tr t t2) (s2 z)⟩
      · have g6 := gf.2 z
        refine ⟨?_, (by omega : a < (fc (x.2.1 + 1)).2.1)⟩
        show (x.2.2 ++ (fc (x.2.1 + 1)).2.2 ++ [(cu_c u n x.2.1, 0)]).length + a ≤ (fc (x.2.1 + 1)).2.1
        rw [List.length_append, List.length_append, List.length_singleton]; omega
      · obtain ⟨pe2, U2, k1, k2, k3⟩ := s1 z
        refine ⟨pe2 ++ [(g, 0)], U2, ?_, ?_, ?_⟩
        · rw [show pe2 ++ [(g, (0 : Int32))] ++ W = pe2 ++ (g, 0) :: W from by simp]; exact mz_to_tr (mz_to_tr t t2) k1
        · intro y hy
          rcases List.mem_append.mp hy with hy | hy
          · exact ⟨hll _ (k2 y hy).1, (k2 y hy).2⟩
          · rw [List.mem_singleton.mp hy]; exact g3
        · rw [rv_app, k3]
          show _ = List.reverseAux ((x.2.2 ++ (fc (x.2.1 + 1)).2.2 ++ [(cu_c u n x.2.1, 0)]).map pz_m) U
          rw [List.map_append, List.map_append, rv_app, rv_app, List.map_singleton, g2]
    · rw [if_neg h2]; exact h
theorem sm_FE {dp : Nat} {fc : Nat → pz_R} (h : sm_F u n dp fc) : sm_E u n dp 16 fc := by
  intro a U W c hW _
  obtain ⟨h1, h2⟩ := h a U W c hW
  exact ⟨fun z => ⟨[], _, h1 z, fun x hx => (by cases hx), rfl⟩, h2⟩
theorem sm_T (hn : n ≤ 300) {dp : Nat} {fc : Nat → pz_R} (h : sm_F u n dp fc) (hg : ∀ b, b ≤ n → pz_good n b (fc b)) : sm_E u n dp 14 (pz_T u n fc) := by
  intro a U W c hW hW2
  have h' := sm_FE h
  obtain ⟨f1, f2⟩ := h a U W c hW
  have z := sm_L hn (u := u) (n := n) (dp := dp) (lo := 14) (lo2 := 16) (c1 := 42) (c2 := 47) (by decide)
    (fun g hg q => hg (Int32.lt_trans q (by decide)))
    (fun a U W hc => by
      have e1 : ¬ (mz_c u n a = 43 ∨ mz_c u n a = 45) := by
        rw [mz_ec (by decide) (by decide), mz_ec (by decide) (by decide)]
        rcases hc with hc | hc <;> rw [hc] <;> decide
      have e2 : mz_c u n a = 42 ∨ mz_c u n a = 47 := by rw [mz_ec (by decide) (by decide), mz_ec (by decide) (by decide)]; exact hc
      rcases hc with hc | hc
      · refine ⟨14, ?_, by rw [hc]; decide, by decide, by decide, by decide⟩
        rw [mz_it1, if_neg e1, if_pos e2, if_pos ((mz_ec (by decide) (by decide)).mpr hc)]
      · refine ⟨15, ?_, by rw [hc]; decide, by decide, by decide, by decide⟩
        rw [mz_it1, if_neg e1, if_pos e2, if_neg (by rw [mz_ec (by decide) (by decide), hc]; decide)])
    h' hg c hW2 300 (fc a) ⟨hg a c.2.1, fun z => ⟨[], _, f1 z, fun x hx => (by cases hx), rfl⟩, f2⟩
  unfold pz_T
  rw [pz_Tl_L]
  exact ⟨z.2.1, z.2.2⟩
theorem sm_X1 (hn : n ≤ 300) {dp : Nat} {fc : Nat → pz_R} (h : sm_F u n dp fc) (hg : ∀ b, b ≤ n → pz_good n b (fc b)) : sm_E u n dp 12 (pz_E u n fc) := by
  intro a U W c hW hW2
  have h' := sm_T hn h hg
  have hW3 : mz_out 14 15 W := fun x r e q => hW2 x r e ⟨fun y => q.1 (Int32.lt_trans y (by decide)), q.2⟩
  obtain ⟨f1, f2⟩ := h' a U W c hW hW3
  have hg' : ∀ b, b ≤ n → pz_good n b (pz_T u n fc b) := fun b hb => (pz_T_good hn hg b hb).1
  have z := sm_L hn (u := u) (n := n) (dp := dp) (lo := 12) (lo2 := 14) (c1 := 43) (c2 := 45) (by decide)
    (fun g hg q => hg (Int32.lt_trans q (by decide)))
    (fun a U W hc => by
      have e1 : mz_c u n a = 43 ∨ mz_c u n a = 45 := by rw [mz_ec (by decide) (by decide), mz_ec (by decide) (by decide)]; exact hc
      rcases hc with hc | hc
      · refine ⟨12, ?_, by rw [hc]; decide, by decide, by decide, by decide⟩
        rw [mz_it1, if_pos e1, if_pos ((mz_ec (by decide) (by decide)).mpr hc)]
      · refine ⟨13, ?_, by rw [hc]; decide, by decide, by decide, by decide⟩
        rw [mz_it1, if_pos e1, if_neg (by rw [mz_ec (by decide) (by decide), hc]; decide)])
    h' hg' c hW2 300 (pz_T u n fc a) ⟨hg' a c.2.1, fun z => by
      obtain ⟨pe, U', k1, k2, k3⟩ := f1 z
      exact ⟨pe, U', k1, fun x hx => ⟨fun y => (k2 x hx).1 (Int32.lt_trans y (by decide)), (k2 x hx).2⟩, k3⟩, f2⟩
  unfold pz_E
  rw [pz_El_L]
  exact ⟨z.2.1, z.2.2⟩
/-- every level -/
theorem sm_X (hn : n ≤ 300) (ht : mz_tx u n) : ∀ (k : Nat), k ≤ 8 → sm_E u n (8 - k) 12 (pz_X u n k) := by
  intro k
  induction k with
  | zero =>
    intro _
    exact sm_X1 hn (sm_fac hn ht (sm_bare hn ht (Or.inl ⟨rfl, rfl⟩))) (fun b hb => pz_F_good (fun b hb => pz_bare_good (sub := fun a => (false, a, [])) (fun b hb => ⟨hb, fun z => by cases z⟩) true b hb) b hb)
  | succ k ih =>
    intro hk
    have h := ih (by omega)
    rw [show 8 - k = 8 - (k + 1) + 1 by omega] at h
    exact sm_X1 hn (sm_fac hn ht (sm_bare hn ht (Or.inr ⟨rfl, by omega, h, fun b hb => pz_X_good hn k b hb⟩))) (fun b hb => pz_F_good (fun b hb => pz_bare_good (fun b hb => (pz_X_good hn k b hb).1) false b hb) b hb)
/-- the reference's readExpression, by the grammar -/
theorem sm_top (hn : n ≤ 300) (ht : mz_tx u n) (a : Nat) (U : pz_P) (ha : a ≤ n) (hU : U.length ≤ a) :
    ((pz_X u n 8 a).1 = true → ∃ N y, mz_rs u n N (false, true, 0, (a, U, [], none)) y ∧ y.2.1 = false ∧ y.2.2.2.1 ≤ 900 ∧ y.2.2.2.2.1.length + y.2.2.2.2.2.1.length ≤ 320 ∧ mz_fin y.2.2.2 = ((pz_X u n 8 a).2.1, List.reverseAux ((pz_X u n 8 a).2.2.map pz_m) U, [], none)) ∧
    ((pz_X u n 8 a).1 = false → ∃ N y, mz_rs u n N (false, true, 0, (a, U, [], none)) y ∧ y.2.2.2.2.2.2 = some (pz_X u n 8 a).2.1 ∧ y.2.2.2.1 ≤ 310 ∧ y.2.2.2.2.1.length + y.2.2.2.2.2.1.length ≤ 315) := by
  obtain ⟨h1, h2⟩ := sm_X hn ht 8 (Nat.le_refl _) a U [] ⟨by simp; omega, ha, by decide, fun q => absurd q (by decide)⟩ (fun x r e => (by cases e)) (fun x r e => (by cases e))
  obtain ⟨g1, g2⟩ := pz_X_good hn 8 a ha (u := u)
  refine ⟨fun z => ?_, fun z => ?_⟩
  · obtain ⟨pe, U', k1, k2, k3⟩ := h1 z
    obtain ⟨g3, g4⟩ := g2 z
    have g5 := g1.2 z
    have g6 := g1.1
    have hlen := congrArg List.length k3
    rw [rv_len, rv_len, List.length_map] at hlen
    rw [List.append_nil] at k1
    have cx : mz_ctx n 0 (pz_X u n 8 a).2.1 U' pe := ⟨by omega, g6, by decide, fun q => absurd q (by decide)⟩
    have t2 := mz_to_1 (wh := true) hn cx (mz_it1 u n 0 (pz_X u n 8 a).2.1 U' pe none)
    rw [if_neg (by rw [mz_ec (by decide) (by decide), mz_ec (by decide) (by decide)]; exact g4), if_neg (by rw [mz_ec (by decide) (by decide), mz_ec (by decide) (by decide)]; exact g3), if_neg (fun q => absurd q.2 (by decide)), if_neg (by decide)] at t2
    obtain ⟨N, hN⟩ := mz_to_tr k1 t2
    refine ⟨N, _, hN, rfl, by show (pz_X u n 8 a).2.1 ≤ 900; omega, by show U'.length + pe.length ≤ 320; omega, ?_⟩
    show ((pz_X u n 8 a).2.1, List.reverseAux pe U', ([] : pz_P), (none : Option Nat)) = _
    rw [k3]
  · obtain ⟨y, ⟨N, hN⟩, b1, b2, b3⟩ := h2 z
    exact ⟨N, y, hN, b1, b2, b3⟩
end
