/-! The reference's reader: readExpression -/
theorem ml_rs {G : ac_G} {M : ac_M} {o : Nat} {md : Nat → Nat} (hm : md_inj md) {h : ac_H} {d : Nat} {s : md_S} {u : Nat → Int32} {n : Nat} {y : mz_st} (C : ac_MC G RX9 cX9_readExpression 5 none M) (B : ac_Bd M (d + 5) 0 0)
    (kk : ∀ (h2 : ac_H) (s2 : md_S) (v4 : Value), md_ok h2 o md s2 → mz_rep s2 u n y.2.2.2 → mz_fr s s2 → kp h h2 (md_L o md) → aw G 5 M 6 [.ref o, .int (pb_b (y.1 = true)), .int (pb_b (y.2.1 = true)), .int (nI y.2.2.1), v4] [] h2 0 0) :
    ∀ (N : Nat) (x : mz_st) (h1 : ac_H) (s1 : md_S) (v4 : Value), md_ok h1 o md s1 → mz_rep s1 u n x.2.2.2 → mz_fr s s1 → kp h h1 (md_L o md) → mz_rs u n N x y → aw G 5 M 6 [.ref o, .int (pb_b (x.1 = true)), .int (pb_b (x.2.1 = true)), .int (nI x.2.2.1), v4] [] h1 0 0 := by
  intro N
  induction N with
  | zero =>
    intro x h1 s1 v4 K R F kq hr
    have e : y = x := hr
    subst e
    exact kk h1 s1 v4 K R F kq
  | succ N ih =>
    intro x h1 s1 v4 K R F kq hr
    obtain ⟨wh, mo, dp, a, U, W, fl⟩ := x
    obtain ⟨⟨e1, e2⟩, ⟨g1, g2, g3, g4⟩, hr2⟩ := hr
    have e1' : true = mo := Eq.symm e1
    have e2' : none = fl := Eq.symm e2
    subst e1' e2'
    cases wh with
    | false => exact ml_it0 hm g1 g2 g3 C B K R F kq (fun h2 s2 v4 K2 R2 F2 q2 => ih _ h2 s2 v4 K2 R2 F2 q2 hr2)
    | true => exact ml_it1 hm g1 g2 g3 g4 C B K R F kq (fun h2 s2 v4 K2 R2 F2 q2 => ih _ h2 s2 v4 K2 R2 F2 q2 hr2)
def mz_fin (c : mz_C) : mz_C := match c.2.2.2 with
  | none => (c.1, List.reverseAux c.2.2.1 c.2.1, [], none)
  | some _ => c
set_option maxHeartbeats 4000000 in
set_option maxRecDepth 100000 in
theorem ml_fin {G : ac_G} {M : ac_M} {o : Nat} {md : Nat → Nat} (hm : md_inj md) {h : ac_H} {d : Nat} {s : md_S} {u : Nat → Int32} {n a : Nat} {U' : pz_P} {v1 v2 v3 v4 : Value} (ha : a ≤ 900) (C : ac_MC G RX9 cX9_readExpression 5 none M) (B : ac_Bd M (d + 5) 0 0) (E : ac_End G (mz_Q o md h s u n (a, U', [], none) none) 0 0 M) :
    ∀ (W U : pz_P) (h1 : ac_H) (s1 : md_S), md_ok h1 o md s1 → mz_rep s1 u n (a, U, W, none) → mz_fr s s1 → kp h h1 (md_L o md) → U.length + W.length ≤ 320 → List.reverseAux W U = U' → aw G 5 M 260 [.ref o, v1, v2, v3, v4] [] h1 0 0 := by
  intro W
  induction W with
  | nil =>
    intro U h1 s1 K R F kq hb hp
    refine aw_aload_n C dX9_readExpression_260 rfl rfl (q := 261) rfl ?_
    refine gfX9_102_9 (v := .int (s1.1 14)) C dX9_readExpression_261 K.1 rfl (q := 264) rfl ?_
    refine aw_if_le (t := 281) (q := 267) C dX9_readExpression_264 (by decide) rfl (fun c_264 => ?_) (fun c_264 => absurd c_264 (fun z => z (by rw [R.2.2.2.2.1]; exact nI_le (a := 0) (b := 0) (Nat.le_refl _) (by decide))))
    refine aw_vret C E dX9_readExpression_281 (Nat.le_refl _) (Nat.le_refl _) ?_
    have hp2 : U = U' := hp
    subst hp2
    exact ⟨_, rfl, K, R, F, kq⟩
  | cons x r ih =>
    intro U h1 s1 K R F kq hb hp
    have hb2 : U.length + r.length < 320 := by simp at hb; omega
    have hb3 : (x :: r).length ≤ 320 := by omega
    refine aw_aload_n C dX9_readExpression_260 rfl rfl (q := 261) rfl ?_
    refine gfX9_102_9 (v := .int (s1.1 14)) C dX9_readExpression_261 K.1 rfl (q := 264) rfl ?_
    refine aw_if_le (t := 281) (q := 267) C dX9_readExpression_264 (by decide) rfl (fun c_264 => absurd c_264 (by rw [R.2.2.2.2.1]; intro z; exact absurd ((nI_leI (a := (x :: r).length) (b := 0) (by omega) (by decide)).mp z) (by simp))) (fun c_264 => ?_)
    refine aw_aload_n C dX9_readExpression_267 rfl rfl (q := 268) rfl ?_
    refine gfX9_99_9 (v := .int (s1.1 4)) C dX9_readExpression_268 K.1 rfl (q := 271) rfl ?_
    refine aw_if_ge (t := 281) (q := 274) C dX9_readExpression_271 (by decide) rfl (fun c_271 => absurd c_271 (by rw [R.2.2.2.1]; show ¬ (0 : Int32) ≤ -1; decide)) (fun c_271 => ?_)
    refine aw_aload_n C dX9_readExpression_274 rfl rfl (q := 275) rfl ?_
    refine cvX9_113_9 (As := []) (rest := []) C B dX9_readExpression_275 K.1 (p_pop G M.2.1 o md hm h1 d s1 K u n a U r none x R hb2) rfl rfl (Nat.le_of_ble_eq_true rfl) (by omega) (by omega) (by omega) (q := 278) rfl (fun r9 h_1 hr9 => ?_)
    obtain ⟨s_2, er9, K_3, R_4, F_5, kpx_6⟩ := hr9
    subst er9
    show aw G 5 M 278 [.ref o, v1, v2, v3, v4] [] h_1 0 0
    refine aw_goto (q := 260) C dX9_readExpression_278 (by decide) ?_
    exact ih (x :: U) h_1 s_2 K_3 R_4 (mz_fr_tr F F_5) (kp_in kq kpx_6 (fun _ z => z)) (by simp; omega) hp
set_option maxHeartbeats 4000000 in
set_option maxRecDepth 100000 in
theorem ml_fin1 {G : ac_G} {M : ac_M} {o : Nat} {md : Nat → Nat} (hm : md_inj md) {h h1 : ac_H} {s s1 : md_S} {u : Nat → Int32} {n a p : Nat} {U W : pz_P} {v1 v2 v3 v4 : Value} (C : ac_MC G RX9 cX9_readExpression 5 none M) (E : ac_End G (mz_Q o md h s u n (a, U, W, some p) none) 0 0 M) (K : md_ok h1 o md s1) (R : mz_rep s1 u n (a, U, W, some p)) (F : mz_fr s s1) (kq : kp h h1 (md_L o md)) : aw G 5 M 260 [.ref o, v1, v2, v3, v4] [] h1 0 0 := by
  refine aw_aload_n C dX9_readExpression_260 rfl rfl (q := 261) rfl ?_
  refine gfX9_102_9 (v := .int (s1.1 14)) C dX9_readExpression_261 K.1 rfl (q := 264) rfl ?_
  refine aw_if_le (t := 281) (q := 267) C dX9_readExpression_264 (by decide) rfl (fun c_264 => ?_) (fun c_264 => ?_)
  ·
    refine aw_vret C E dX9_readExpression_281 (Nat.le_refl _) (Nat.le_refl _) ?_
    exact ⟨_, rfl, K, R, F, kq⟩
  ·
    refine aw_aload_n C dX9_readExpression_267 rfl rfl (q := 268) rfl ?_
    refine gfX9_99_9 (v := .int (s1.1 4)) C dX9_readExpression_268 K.1 rfl (q := 271) rfl ?_
    refine aw_if_ge (t := 281) (q := 274) C dX9_readExpression_271 (by decide) rfl (fun c_271 => ?_) (fun c_271 => absurd c_271 (fun z => z (by rw [R.2.2.2.1]; exact nI_le (a := 0) (b := p) (Nat.zero_le _) (by have := R.2.2.2.2.2.2.2.2.2 p rfl; omega))))
    refine aw_vret C E dX9_readExpression_281 (Nat.le_refl _) (Nat.le_refl _) ?_
    exact ⟨_, rfl, K, R, F, kq⟩
set_option maxHeartbeats 4000000 in
set_option maxRecDepth 100000 in
theorem ml_stop {G : ac_G} {M : ac_M} {o : Nat} {md : Nat → Nat} (hm : md_inj md) {h h1 : ac_H} {d : Nat} {s s1 : md_S} {u : Nat → Int32} {n a : Nat} {U W : pz_P} {fl : Option Nat} {m0 : Int32} {v1 v3 v4 : Value} (ha : a ≤ 900) (hb : U.length + W.length ≤ 320) (hs : m0 = 0 ∨ ¬ fl = none) (C : ac_MC G RX9 cX9_readExpression 5 none M) (B : ac_Bd M (d + 5) 0 0) (E : ac_End G (mz_Q o md h s u n (mz_fin (a, U, W, fl)) none) 0 0 M) (K : md_ok h1 o md s1) (R : mz_rep s1 u n (a, U, W, fl)) (F : mz_fr s s1) (kq : kp h h1 (md_L o md)) : aw G 5 M 6 [.ref o, v1, .int m0, v3, v4] [] h1 0 0 := by
  cases fl with
  | none =>
    have hm0 : m0 = 0 := hs.elim id (fun z => absurd rfl z)
    refine aw_iload_n C dX9_readExpression_6 rfl rfl (q := 7) rfl ?_
    refine aw_if_eq (t := 260) (q := 10) C dX9_readExpression_7 (by decide) rfl (fun c_7 => ?_) (fun c_7 => absurd c_7 (fun z => z hm0))
    exact ml_fin hm ha C B E W U h1 s1 K R F kq hb rfl
  | some p =>
    refine aw_iload_n C dX9_readExpression_6 rfl rfl (q := 7) rfl ?_
    refine aw_if_eq (t := 260) (q := 10) C dX9_readExpression_7 (by decide) rfl (fun c_7 => ?_) (fun c_7 => ?_)
    ·
      exact ml_fin1 hm C E K R F kq
    ·
      refine aw_aload_n C dX9_readExpression_10 rfl rfl (q := 11) rfl ?_
      refine gfX9_99_9 (v := .int (s1.1 4)) C dX9_readExpression_11 K.1 rfl (q := 14) rfl ?_
      refine aw_if_ge (t := 260) (q := 17) C dX9_readExpression_14 (by decide) rfl (fun c_14 => ?_) (fun c_14 => absurd c_14 (fun z => z (by rw [R.2.2.2.1]; exact nI_le (a := 0) (b := p) (Nat.zero_le _) (by have := R.2.2.2.2.2.2.2.2.2 p rfl; omega))))
      exact ml_fin1 hm C E K R F kq
set_option maxHeartbeats 4000000 in
set_option maxRecDepth 100000 in
theorem p_readExpression (G : ac_G) (l : Launch) (o : Nat) (md : Nat → Nat) (hm : md_inj md) (h : ac_H) (d : Nat) (s : md_S) (K : md_ok h o md s) (u : Nat → Int32) (n a : Nat) (U W : pz_P) (fl : Option Nat) (R : mz_rep s u n (a, U, W, fl)) (ha : a ≤ 900) (hfl : fl = none) (N : Nat) (y : mz_st) (hr : mz_rs u n N (false, true, 0, (a, U, W, fl)) y) (hs : y.2.1 = false ∨ ¬ y.2.2.2.2.2.2 = none) (hy : y.2.2.2.1 ≤ 900) (hb : y.2.2.2.2.1.length + y.2.2.2.2.2.1.length ≤ 320) : ac_Met G l yX9_readExpression cX9_readExpression 5 none (d + 5) 0 0 [.ref o] h (mz_Q o md h s u n (mz_fin y.2.2.2) none) := by
  refine ac_of (ls := [.ref o, .retAddr 0, .retAddr 0, .retAddr 0, .retAddr 0]) (by decide +kernel) rfl (Nat.le_of_ble_eq_true rfl) (fun M hl C B E hnm => ?_)
  refine aw_iconst (v := 0) C dX9_readExpression_0 (by decide) (q := 1) rfl ?_
  refine aw_istore_n (ls' := [.ref o, .int 0, .retAddr 0, .retAddr 0, .retAddr 0]) C dX9_readExpression_1 rfl (by decide) rfl (q := 2) rfl ?_
  refine aw_iconst (v := 1) C dX9_readExpression_2 (by decide) (q := 3) rfl ?_
  refine aw_istore_n (ls' := [.ref o, .int 0, .int 1, .retAddr 0, .retAddr 0]) C dX9_readExpression_3 rfl (by decide) rfl (q := 4) rfl ?_
  refine aw_iconst (v := 0) C dX9_readExpression_4 (by decide) (q := 5) rfl ?_
  refine aw_istore_n (ls' := [.ref o, .int 0, .int 1, .int 0, .retAddr 0]) C dX9_readExpression_5 rfl (by decide) rfl (q := 6) rfl ?_
  subst hfl
  refine ml_rs hm C B (y := y) (fun h2 s2 v4 K2 R2 F2 q2 => ?_) N (false, true, 0, (a, U, W, none)) h s _ K R mz_fr_rf (kp_mono kp_rf (by simp)) hr
  obtain ⟨wh, mo, dp, a2, U2, W2, fl2⟩ := y
  exact ml_stop hm hy hb (hs.elim (fun z => Or.inl (pb_f (fun q => by rw [show mo = false from z] at q; cases q))) Or.inr) C B E K2 R2 F2 q2
