/-! The value of an expression, by its steps -/
section
variable {I : Nat → Int32} {F : Nat → Nat → Int32} {c : Nat} {ab : Int32}
/-- the same stack up to its top -/
def rk_eqv (S S' : rk_S) : Prop := S.2 = S'.2 ∧ ∀ i, i < S.2 → S.1 i = S'.1 i
theorem rk_eqv_rf {S : rk_S} : rk_eqv S S := ⟨rfl, fun _ _ => rfl⟩
theorem rk_eqv_top {S S' : rk_S} (h : rk_eqv S S') : rk_top S = rk_top S' := by
  unfold rk_top
  by_cases z : S.2 < 1
  · rw [if_pos z, if_pos (by rw [← h.1]; exact z)]
  · rw [if_neg z, if_neg (by rw [← h.1]; exact z), ← h.1]; exact h.2 _ (by omega)
theorem rk_eqv_drop {S S' : rk_S} (h : rk_eqv S S') : rk_eqv (rk_drop S) (rk_drop S') := ⟨by show S.2 - 1 = S'.2 - 1; rw [h.1], fun i hi => h.2 i (by have : i < S.2 - 1 := hi; omega)⟩
theorem rk_eqv_push {S S' : rk_S} (h : rk_eqv S S') (v : Int64) : rk_eqv (rk_push S v) (rk_push S' v) := by
  unfold rk_push
  by_cases z : S.2 < 32
  · rw [if_pos z, if_pos (by rw [← h.1]; exact z)]
    refine ⟨by show S.2 + 1 = S'.2 + 1; rw [h.1], fun i hi => ?_⟩
    have hi2 : i < S.2 + 1 := hi
    show vp_updL S.1 S.2 v i = vp_updL S'.1 S'.2 v i
    unfold vp_updL
    rw [← h.1]
    by_cases y : i = S.2
    · rw [if_pos y, if_pos y]
    · rw [if_neg y, if_neg y]; exact h.2 i (by omega)
  · rw [if_neg z, if_neg (by rw [← h.1]; exact z)]; exact h
theorem rk_eqv_step {S S' : rk_S} (h : rk_eqv S S') (act op ca : Int32) : rk_eqv (rk_step I F c act op ab S ca).1 (rk_step I F c act op ab S' ca).1 ∧ (rk_step I F c act op ab S ca).2 = (rk_step I F c act op ab S' ca).2 := by
  have t1 := rk_eqv_top h
  have t2 := rk_eqv_top (rk_eqv_drop h)
  unfold rk_step
  rw [t1, t2]
  by_cases h1 : act = 35
  · rw [if_pos h1, if_pos h1]; exact ⟨rk_eqv_push h _, rfl⟩
  rw [if_neg h1, if_neg h1]
  by_cases h2 : act = 42 ∨ act = 43 ∨ act = 45 ∨ act = 47
  · rw [if_pos h2, if_pos h2]; exact ⟨rk_eqv_push (rk_eqv_drop (rk_eqv_drop h)) _, rfl⟩
  rw [if_neg h2, if_neg h2]
  by_cases h3 : act = 99
  · rw [if_pos h3, if_pos h3]; exact ⟨rk_eqv_push (rk_eqv_drop h) _, rfl⟩
  rw [if_neg h3, if_neg h3]
  by_cases h4 : act = 102
  · rw [if_pos h4, if_pos h4]; exact ⟨rk_eqv_push (rk_eqv_drop h) _, rfl⟩
  rw [if_neg h4, if_neg h4]
  by_cases h5 : act = 126
  · rw [if_pos h5, if_pos h5]; exact ⟨rk_eqv_push (rk_eqv_drop h) _, rfl⟩
  · rw [if_neg h5, if_neg h5]; exact ⟨rk_eqv_push h _, rfl⟩
theorem rk_eqv_hold {af of : Nat → Int32} : ∀ (m i : Nat) (S S' : rk_S) (hd : Int32), rk_eqv S S' → rk_hold I F c ab af of m i S hd = rk_hold I F c ab af of m i S' hd := by
  intro m
  induction m with
  | zero => intro i S S' hd _; rfl
  | succ m ih =>
    intro i S S' hd h
    have t1 := rk_eqv_top h
    have t2 := rk_eqv_top (rk_eqv_drop h)
    have st := rk_eqv_step (I := I) (F := F) (c := c) (ab := ab) h (af i) (of i) 0
    unfold rk_hold
    rw [t1, t2, st.2]
    rw [ih (i + 1) _ _ (hd + 1) (rk_eqv_drop (rk_eqv_drop h)), ih (i + 1) _ _ hd st.1]
theorem rk_pp (S : rk_S) (v : Int64) (h : S.2 < 32) : (rk_push S v).2 = S.2 + 1 ∧ rk_top (rk_push S v) = v ∧ rk_eqv (rk_drop (rk_push S v)) S := by
  have e : rk_push S v = (vp_updL S.1 S.2 v, S.2 + 1) := if_pos h
  rw [e]
  refine ⟨rfl, ?_, rfl, fun i hi => ?_⟩
  · unfold rk_top
    rw [if_neg (by show ¬ S.2 + 1 < 1; omega)]
    show vp_updL S.1 S.2 v (S.2 + 1 - 1) = v
    unfold vp_updL; rw [if_pos (by omega)]
  · have hi2 : i < S.2 + 1 - 1 := hi
    show vp_updL S.1 S.2 v i = S.1 i
    unfold vp_updL; rw [if_neg (by omega)]
/-- what a prefix makes of a value -/
def ev_un (F : Nat → Nat → Int32) (c : Nat) (ab : Int32) (x : Int32 × Int32) (v : Int64) : Option Int64 := if x.1 = 126 then some (-v) else if x.1 = 102 then (if gt_bl v.toInt32 2 then some (pl_onF (F 5) v.toInt32 ab c).toInt64 else none) else some (pl_worst F x.2 v 0 ab c c)
def ev_bin (k : Int32) (v w : Int64) : Option Int64 := if k = 43 then some (v + w) else if k = 45 then some (v - w) else if k = 42 then some (v * w) else if w = 0 then none else some (v / w)
/-- the steps p make r of a stack with room for ht -/
def RK (I : Nat → Int32) (F : Nat → Nat → Int32) (c : Nat) (ab : Int32) (p : pz_P) (ht : Nat) (r : Option Int64) : Prop := ∀ (af of : Nat → Int32) (i m : Nat) (S : rk_S) (hd : Int32), gf_at af of i p → S.2 + ht ≤ 32 → (∀ v, r = some v → rk_hold I F c ab af of (p.length + m) i S hd = rk_hold I F c ab af of m (i + p.length) (rk_push S v) hd) ∧ (r = none → (rk_hold I F c ab af of (p.length + m) i S hd).1 = false ∧ (rk_hold I F c ab af of (p.length + m) i S hd).2.1 = hd)
theorem RK_atom {k a : Int32} {v : Int64} (hk : ¬ eq_isc k) (hs : ∀ S, rk_step I F c k a ab S 0 = (rk_push S v, 0)) : RK I F c ab [(k, a)] 1 (some v) := by
  intro af of i m S hd hg hS
  have hx := hg 0 (by simp)
  rw [Nat.add_zero] at hx
  have h1 : af i = k := congrArg Prod.fst hx
  have h2 : of i = a := congrArg Prod.snd hx
  refine ⟨fun v' e => ?_, fun z => by cases z⟩
  have e' : v = v' := Option.some.inj e
  subst e'
  show rk_hold I F c ab af of (1 + m) i S hd = rk_hold I F c ab af of m (i + 1) (rk_push S v) hd
  rw [Nat.add_comm 1 m]
  exact rk_hold_n (by rw [h1]; exact hk) (by rw [h1, h2]; exact hs S) rfl
theorem RK_un {p : pz_P} {ht : Nat} {r : Option Int64} {x : Int32 × Int32} (hx : x = (126, 0) ∨ x = (102, 0) ∨ x.1 = 99) (hht : 1 ≤ ht) (h : RK I F c ab p ht r) : RK I F c ab (p ++ [x]) ht (r.bind (ev_un F c ab x)) := by
  intro af of i m S hd hg hS
  obtain ⟨g1, g2⟩ := gf_app hg
  obtain ⟨a1, a2⟩ := h af of i (m + 1) S hd g1 hS
  rw [show (p ++ [x]).length + m = p.length + (m + 1) by rw [List.length_append, List.length_singleton]; omega, show i + (p ++ [x]).length = i + p.length + 1 by rw [List.length_append, List.length_singleton]; omega]
  have hy := g2 0 (by simp)
  rw [Nat.add_zero] at hy
  have h1 : af (i + p.length) = x.1 := congrArg Prod.fst hy
  have h2 : of (i + p.length) = x.2 := congrArg Prod.snd hy
  have hnc : ¬ eq_isc x.1 := by rcases hx with rfl | rfl | e; decide; decide; rw [e]; decide
  cases r with
  | none =>
    obtain ⟨b1, b2⟩ := a2 rfl
    exact ⟨fun v e => (by cases e), fun _ => ⟨b1, b2⟩⟩
  | some v =>
    have b := a1 v rfl
    obtain ⟨q1, q2, q3⟩ := rk_pp S v (by omega)
    rw [b]
    rcases hx with rfl | rfl | e
    · refine ⟨fun w e => ?_, fun z => by cases z⟩
      have e' : -v = w := Option.some.inj e
      subst e'
      rw [rk_hold_n (S' := rk_push (rk_drop (rk_push S v)) (-(rk_top (rk_push S v)))) (ca := 0) (by rw [h1]; exact hnc) (by rw [h1, h2]; rfl) rfl, q2]
      exact rk_eqv_hold _ _ _ _ _ (rk_eqv_push q3 _)
    · by_cases z : gt_bl v.toInt32 2
      · have er : (some v).bind (ev_un F c ab (102, 0)) = some (pl_onF (F 5) v.toInt32 ab c).toInt64 := by
          show ev_un F c ab (102, 0) v = _
          unfold ev_un; rw [if_neg (by decide), if_pos rfl, if_pos z]
        rw [er]
        refine ⟨fun w e => ?_, fun y => by cases y⟩
        have e' := Option.some.inj e
        subst e'
        have hs : rk_step I F c 102 0 ab (rk_push S v) 0 = (rk_push (rk_drop (rk_push S v)) (pl_onF (F 5) v.toInt32 ab c).toInt64, 0) := by
          unfold rk_step
          rw [if_neg (by decide), if_neg (by decide), if_neg (by decide), if_pos rfl, q2, show rk_fo F c v ab = ((pl_onF (F 5) v.toInt32 ab c).toInt64, false) from if_pos z]; rfl
        rw [rk_hold_n (by rw [h1]; exact hnc) (by rw [h1, h2]; exact hs) rfl]
        exact rk_eqv_hold _ _ _ _ _ (rk_eqv_push q3 _)
      · have er : (some v).bind (ev_un F c ab (102, 0)) = none := by
          show ev_un F c ab (102, 0) v = _
          unfold ev_un; rw [if_neg (by decide), if_pos rfl, if_neg z]
        rw [er]
        refine ⟨fun w e => (by cases e), fun _ => ?_⟩
        have hs : rk_step I F c 102 0 ab (rk_push S v) 0 = (rk_push (rk_drop (rk_push S v)) 0, 2) := by
          unfold rk_step
          rw [if_neg (by decide), if_neg (by decide), if_neg (by decide), if_pos rfl, q2, show rk_fo F c v ab = (0, true) from if_neg z]; rfl
        rw [rk_hold_o (S' := rk_push (rk_drop (rk_push S v)) 0) (ca := 2) (by rw [h1]; exact hnc) (by rw [h1, h2]; exact hs) (by decide)]
        exact ⟨rfl, rfl⟩
    · have er : (some v).bind (ev_un F c ab x) = some (pl_worst F x.2 v 0 ab c c) := by
        show ev_un F c ab x v = _
        unfold ev_un; rw [if_neg (by rw [e]; decide), if_neg (by rw [e]; decide)]
      rw [er]
      refine ⟨fun w e' => ?_, fun y => by cases y⟩
      have e' := Option.some.inj e'
      subst e'
      have hs : rk_step I F c x.1 x.2 ab (rk_push S v) 0 = (rk_push (rk_drop (rk_push S v)) (pl_worst F x.2 v 0 ab c c), 0) := by
        unfold rk_step
        rw [e, if_neg (by decide), if_neg (by decide), if_pos rfl, q2]
      rw [rk_hold_n (by rw [h1]; exact hnc) (by rw [h1, h2]; exact hs) rfl]
      exact rk_eqv_hold _ _ _ _ _ (rk_eqv_push q3 _)
theorem RK_bin {p1 p2 : pz_P} {h1 h2 : Nat} {r1 r2 : Option Int64} {k : Int32} (hk : k = 42 ∨ k = 47 ∨ k = 43 ∨ k = 45) (e1 : RK I F c ab p1 h1 r1) (e2 : RK I F c ab p2 h2 r2) (hh1 : 1 ≤ h1) (hh2 : 1 ≤ h2) : RK I F c ab (p1 ++ p2 ++ [(k, 0)]) (max h1 (h2 + 1)) (r1.bind (fun v => r2.bind (fun w => ev_bin k v w))) := by
  intro af of i m S hd hg hS
  obtain ⟨g1, g3⟩ := gf_app hg
  obtain ⟨g1, g2⟩ := gf_app g1
  rw [List.length_append] at g3
  obtain ⟨a1, a2⟩ := e1 af of i (p2.length + (m + 1)) S hd g1 (by omega)
  rw [show (p1 ++ p2 ++ [(k, (0 : Int32))]).length + m = p1.length + (p2.length + (m + 1)) by rw [List.length_append, List.length_append, List.length_singleton]; omega, show i + (p1 ++ p2 ++ [(k, (0 : Int32))]).length = i + (p1.length + p2.length) + 1 by rw [List.length_append, List.length_append, List.length_singleton]; omega]
  cases r1 with
  | none => exact ⟨fun v e => (by cases e), fun _ => a2 rfl⟩
  | some v =>
    rw [a1 v rfl]
    obtain ⟨q1, q2, q3⟩ := rk_pp S v (by omega)
    obtain ⟨b1, b2⟩ := e2 af of (i + p1.length) (m + 1) (rk_push S v) hd g2 (by rw [q1]; omega)
    cases r2 with
    | none => exact ⟨fun v e => (by cases e), fun _ => b2 rfl⟩
    | some w =>
      rw [b1 w rfl]
      obtain ⟨s1, s2, s3⟩ := rk_pp (rk_push S v) w (by rw [q1]; omega)
      have hy := g3 0 (by simp)
      rw [Nat.add_zero] at hy
      have f1 : af (i + p1.length + p2.length) = k := by rw [Nat.add_assoc]; exact congrArg Prod.fst hy
      have hnc : ¬ eq_isc k := by rcases hk with rfl | rfl | rfl | rfl <;> decide
      have hd1 : rk_top (rk_drop (rk_push (rk_push S v) w)) = v := (rk_eqv_top s3).trans q2
      have hd2 : rk_eqv (rk_drop (rk_drop (rk_push (rk_push S v) w))) S := by
        have := rk_eqv_drop s3
        exact ⟨this.1.trans q3.1, fun j hj => (this.2 j hj).trans (q3.2 j (by have z := this.1; omega))⟩
      have hs : rk_step I F c k (of (i + p1.length + p2.length)) ab (rk_push (rk_push S v) w) 0 = (rk_push (rk_drop (rk_drop (rk_push (rk_push S v) w))) (rk_comb k v w).1, if (rk_comb k v w).2 then 1 else 0) := by
        unfold rk_step
        rw [s2, hd1]
        rcases hk with rfl | rfl | rfl | rfl <;> rw [if_neg (by decide), if_pos (by decide)]
      have go : ∀ z : Int64, rk_comb k v w = (z, false) → rk_hold I F c ab af of (m + 1) (i + p1.length + p2.length) (rk_push (rk_push S v) w) hd = rk_hold I F c ab af of m (i + (p1.length + p2.length) + 1) (rk_push S z) hd := by
        intro z ez
        rw [ez] at hs
        rw [rk_hold_n (by rw [f1]; exact hnc) (by rw [f1]; exact hs) rfl, show i + p1.length + p2.length + 1 = i + (p1.length + p2.length) + 1 by omega]
        exact rk_eqv_hold _ _ _ _ _ (rk_eqv_push hd2 _)
      show (∀ z, ev_bin k v w = some z → _) ∧ (ev_bin k v w = none → _)
      rcases hk with rfl | rfl | rfl | rfl
      · refine ⟨fun z ez => ?_, fun ez => by cases ez⟩
        have e' : v * w = z := Option.some.inj ez
        subst e'; exact go _ rfl
      · unfold ev_bin
        rw [if_neg (by decide), if_neg (by decide), if_neg (by decide)]
        by_cases y : w = 0
        · rw [if_pos y]
          refine ⟨fun z ez => (by cases ez), fun _ => ?_⟩
          have ec : rk_comb 47 v w = (0, true) := by unfold rk_comb; rw [if_neg (by decide), if_neg (by decide), if_neg (by decide), if_pos y]
          rw [ec] at hs
          rw [rk_hold_o (S' := rk_push (rk_drop (rk_drop (rk_push (rk_push S v) w))) 0) (ca := 1) (by rw [f1]; exact hnc) (by rw [f1]; exact hs) (by decide)]
          exact ⟨rfl, rfl⟩
        · rw [if_neg y]
          refine ⟨fun z ez => ?_, fun ez => by cases ez⟩
          have e' := Option.some.inj ez
          subst e'
          exact go _ (by unfold rk_comb; rw [if_neg (by decide), if_neg (by decide), if_neg (by decide), if_neg y])
      · refine ⟨fun z ez => ?_, fun ez => by cases ez⟩
        have e' : v + w = z := Option.some.inj ez
        subst e'; exact go _ rfl
      · refine ⟨fun z ez => ?_, fun ez => by cases ez⟩
        have e' : v - w = z := Option.some.inj ez
        subst e'; exact go _ rfl
end
