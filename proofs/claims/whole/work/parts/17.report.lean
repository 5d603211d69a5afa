/-! What a rule comes to doesn't depend on what lies above the stack's top -/
def rk_eq (s s' : rk_S) : Prop := s.2 = s'.2 ∧ ∀ i, i < s.2 → s.1 i = s'.1 i
theorem rk_eq.push {s s' : rk_S} (h : rk_eq s s') (v : Int64) : rk_eq (rk_push s v) (rk_push s' v) := by
  obtain ⟨h1, h2⟩ := h
  unfold rk_push
  by_cases hl : s.2 < 32
  · rw [if_pos hl, if_pos (by rw [← h1]; exact hl)]
    refine ⟨by show s.2 + 1 = s'.2 + 1; rw [h1], fun i hi => ?_⟩
    show vp_updL s.1 s.2 v i = vp_updL s'.1 s'.2 v i
    rw [← h1]
    by_cases hi2 : i = s.2
    · rw [hi2, pk_uLs, pk_uLs]
    · rw [pk_uLn hi2, pk_uLn hi2]
      exact h2 i (by have : i < s.2 + 1 := hi; omega)
  · rw [if_neg hl, if_neg (by rw [← h1]; exact hl)]
    exact ⟨h1, h2⟩
theorem rk_eq.top {s s' : rk_S} (h : rk_eq s s') : rk_top s = rk_top s' := by
  obtain ⟨h1, h2⟩ := h
  unfold rk_top
  by_cases hl : s.2 < 1
  · rw [if_pos hl, if_pos (by rw [← h1]; exact hl)]
  · rw [if_neg hl, if_neg (by rw [← h1]; exact hl), ← h1]
    exact h2 _ (by omega)
theorem rk_eq.drop {s s' : rk_S} (h : rk_eq s s') : rk_eq (rk_drop s) (rk_drop s') := ⟨by show s.2 - 1 = s'.2 - 1; rw [h.1], fun i hi => h.2 i (by have : i < s.2 - 1 := hi; omega)⟩
theorem rk_step_eq {I : Nat → Int32} {F : Nat → Nat → Int32} {c : Nat} {act op ab ca : Int32} {s s' : rk_S} (h : rk_eq s s') : rk_eq (rk_step I F c act op ab s ca).1 (rk_step I F c act op ab s' ca).1 ∧ (rk_step I F c act op ab s ca).2 = (rk_step I F c act op ab s' ca).2 := by
  unfold rk_step
  rw [← h.top, ← h.drop.top]
  split
  · exact ⟨h.push _, rfl⟩
  · split
    · exact ⟨h.drop.drop.push _, rfl⟩
    · split
      · exact ⟨h.drop.push _, rfl⟩
      · split
        · exact ⟨h.drop.push _, rfl⟩
        · split
          · exact ⟨h.drop.push _, rfl⟩
          · exact ⟨h.push _, rfl⟩
theorem rk_hold_eq {I : Nat → Int32} {F : Nat → Nat → Int32} {c : Nat} {ab : Int32} {af of : Nat → Int32} : ∀ (m i : Nat) (s s' : rk_S) (hd : Int32), rk_eq s s' → rk_hold I F c ab af of m i s hd = rk_hold I F c ab af of m i s' hd
  | 0, _, _, _, _, _ => rfl
  | m + 1, i, s, s', hd, h => by
    unfold rk_hold
    rw [← h.top, ← h.drop.top, ← (rk_step_eq h).2]
    split
    · split
      · exact rk_hold_eq m _ _ _ _ h.drop.drop
      · rfl
    · split
      · exact rk_hold_eq m _ _ _ _ (rk_step_eq h).1
      · rfl
/-- rule r of the rules T on the board, without the faults of ab: whether it holds, how many conditions held, the cause -/
def rk_rule (I : Nat → Int32) (F : Nat → Nat → Int32) (c : Nat) (ab : Int32) (T : ru_D) (r : Nat) : Bool × Int32 × Int32 := rk_hold I F c ab (ru_a T) (ru_o T) (ru_b T (r + 1) - ru_b T r) (ru_b T r) (fun _ => 0, 0) 0
theorem c_rule (G : ac_G) (l : Launch) (h : ac_H) (d : Nat) (k pl sk : Nat) (s : rk_S) (hd ca : Int32) (A : Nat → Nat) (I : Nat → Int32) (F : Nat → Nat → Int32) (c : Nat) (rd : Nat → Nat) (T : ru_D) (r : Nat) (ab : Int32) (K : rk_ok h k pl sk s hd ca) (Kp : pl_ok h pl A I F c) (U : ru_ok h rd T) (hw : ru_wf T) (hr : r < ru_cnt T) :
    ac_Met G l yX4_holds cX4_holds 9 (some .boolean) (d + 4) 0 0 [.ref k, .ref (rd 0), .int (nI r), .int ab] h (fun r9 h9 => r9 = some (.int (pb_b ((rk_rule I F c ab T r).1 = true))) ∧ (∃ s9, rk_ok h9 k pl sk s9 (rk_rule I F c ab T r).2.1 (rk_rule I F c ab T r).2.2) ∧ kp h h9 [k, sk]) := by
  have e : rk_rule I F c ab T r = rk_hold I F c ab (ru_a T) (ru_o T) (ru_b T (r + 1) - ru_b T r) (ru_b T r) (s.1, 0) 0 := rk_hold_eq _ _ _ _ _ ⟨rfl, fun i hi => by exact absurd hi (Nat.not_lt_zero i)⟩
  rw [e]
  exact c_holds G l h d k pl sk s hd ca A I F c rd T r ab K Kp U hw hr
/-! THE STATIC CELLS of the class, by roles: ad 0 GradeTexts, 1 Plank (rows 2 .. 7), 8 Reader (9 units, 10 dropped), 11 Reckoner (12), 13 Walker, 14 Report (15 openRules, 16 openConditions, 17 openCauses, 18 held), 19 Raiser (20 grades, 21 picks), 22 editions, 23 editionDays, 24 told, 25 beside -/
abbrev pA (ad : Nat → Nat) : Nat → Nat := fun j => ad (j - 3)
abbrev apart (ad rd : Nat → Nat) : Prop := ∀ i j, i < 26 → j < 6 → ad i ≠ rd j
theorem ni_ad {ad : Nat → Nat} (an : inj ad 26) {L : List Nat} {i : Nat} (hi : i < 26) (hL : ∀ x ∈ L, x < 26 ∧ x ≠ i) : ad i ∉ L.map ad := by
  intro z
  obtain ⟨x, hx, e⟩ := List.mem_map.mp z
  exact an x i (hL x hx).1 hi (hL x hx).2 e
theorem ni_rd {ad rd : Nat → Nat} (dj : apart ad rd) {L : List Nat} {j : Nat} (hj : j < 6) (hL : ∀ x ∈ L, x < 26) : rd j ∉ L.map ad := by
  intro z
  obtain ⟨x, hx, e⟩ := List.mem_map.mp z
  exact dj x j (hL x hx) hj e
theorem pl_kpA {h h9 : ac_H} {ad : Nat → Nat} {I : Nat → Int32} {F : Nat → Nat → Int32} {c : Nat} {L : List Nat} (an : inj ad 26) (K : pl_ok h (ad 1) (pA ad) I F c) (kq : kp h h9 (L.map ad)) (hL : ∀ x ∈ L, 8 ≤ x ∧ x < 26) : pl_ok h9 (ad 1) (pA ad) I F c :=
  ⟨kq _ _ K.1 (ni_ad an (by decide) (fun x hx => ⟨(hL x hx).2, by have := (hL x hx).1; omega⟩)), fun j h1 h2 => kq _ _ (K.2.1 j h1 h2) (ni_ad an (by omega) (fun x hx => ⟨(hL x hx).2, by have := (hL x hx).1; omega⟩)), K.2.2⟩
theorem rk_kpA {h h9 : ac_H} {ad : Nat → Nat} {s : rk_S} {hd ca : Int32} {L : List Nat} (an : inj ad 26) (K : rk_ok h (ad 11) (ad 1) (ad 12) s hd ca) (kq : kp h h9 (L.map ad)) (hL : ∀ x ∈ L, x < 26 ∧ x ≠ 11 ∧ x ≠ 12) : rk_ok h9 (ad 11) (ad 1) (ad 12) s hd ca :=
  ⟨kq _ _ K.1 (ni_ad an (by decide) (fun x hx => ⟨(hL x hx).1, (hL x hx).2.1⟩)), kq _ _ K.2.1 (ni_ad an (by decide) (fun x hx => ⟨(hL x hx).1, (hL x hx).2.2⟩)), K.2.2⟩
theorem ru_kpA {h h9 : ac_H} {ad rd : Nat → Nat} {T : ru_D} {L : List Nat} (dj : apart ad rd) (U : ru_ok h rd T) (kq : kp h h9 (L.map ad)) (hL : ∀ x ∈ L, x < 26) : ru_ok h9 rd T := by
  obtain ⟨u0, u1, u2, u3, u4, u5⟩ := U
  exact ⟨kq _ _ u0 (ni_rd dj (by decide) hL), kq _ _ u1 (ni_rd dj (by decide) hL), kq _ _ u2 (ni_rd dj (by decide) hL), kq _ _ u3 (ni_rd dj (by decide) hL), kq _ _ u4 (ni_rd dj (by decide) hL), kq _ _ u5 (ni_rd dj (by decide) hL)⟩
/-- the report: its rules' field, openCount, reached, its rows O 15 .. O 18 -/
abbrev rp_ob (ad : Nat → Nat) (v0 : Value) (oc rc : Nat) : ac_E := .inr (5, [v0, .int (nI oc), .ref (ad 15), .ref (ad 16), .ref (ad 17), .int (nI rc), .ref (ad 18)])
def rp_ok (h : ac_H) (ad : Nat → Nat) (v0 : Value) (oc rc : Nat) (O : Nat → Nat → Int32) : Prop := h (ad 14) = some (rp_ob ad v0 oc rc) ∧ ∀ j, 15 ≤ j → j < 19 → h (ad j) = some (.inl (1, 12, .inl (O j)))
def rp_add (O : Nat → Nat → Int32) (oc : Nat) (a b c : Int32) : Nat → Nat → Int32 := va_up (va_up (va_up O 15 (upd (O 15) oc a)) 16 (upd (O 16) oc b)) 17 (upd (O 17) oc c)
theorem rp_mk {h : ac_H} {ad : Nat → Nat} {v0 : Value} {oc rc : Nat} {O : Nat → Nat → Int32} (h0 : h (ad 14) = some (rp_ob ad v0 oc rc)) (h1 : h (ad 15) = some (.inl (1, 12, .inl (O 15)))) (h2 : h (ad 16) = some (.inl (1, 12, .inl (O 16)))) (h3 : h (ad 17) = some (.inl (1, 12, .inl (O 17)))) (h4 : h (ad 18) = some (.inl (1, 12, .inl (O 18)))) : rp_ok h ad v0 oc rc O := by
  refine ⟨h0, fun j a b => ?_⟩
  rcases (show j = 15 ∨ j = 16 ∨ j = 17 ∨ j = 18 by omega) with rfl | rfl | rfl | rfl
  · exact h1
  · exact h2
  · exact h3
  · exact h4
set_option maxHeartbeats 4000000 in
set_option maxRecDepth 100000 in
theorem c_addOpen (G : ac_G) (l : Launch) (h : ac_H) (d : Nat) (ad : Nat → Nat) (an : inj ad 26) (v0 : Value) (oc rc : Nat) (O : Nat → Nat → Int32) (a b c : Int32) (Rp : rp_ok h ad v0 oc rc O) (hoc : oc < 12) : ac_Met G l yX5_addOpen cX5_addOpen 4 none (d + 1) 0 0 [.ref (ad 14), .int a, .int b, .int c] h (fun r9 h9 => r9 = none ∧ rp_ok h9 ad v0 (oc + 1) rc (rp_add O oc a b c) ∧ kp h h9 ([14, 15, 16, 17].map ad)) := by
  refine ac_of (ls := [.ref (ad 14), .int a, .int b, .int c]) (by decide +kernel) rfl (Nat.le_of_ble_eq_true rfl) (fun M hl C B E hnm => ?_)
  refine aw_aload_n C dX5_addOpen_0 rfl rfl (q := 1) rfl ?_
  refine gfX5_32_5 (v := .int (nI oc)) C dX5_addOpen_1 Rp.1 rfl (q := 4) rfl ?_
  refine aw_bipush (v := 12) C dX5_addOpen_4 (by decide) (q := 6) rfl ?_
  refine csX5_58 (As := [.int (nI oc), .int 12]) (rest := []) C B dX5_addOpen_6 (c_isBelow G M.2.1 h d (nI oc) 12) rfl rfl (Nat.le_of_ble_eq_true rfl) (by omega) (by omega) (by omega) (q := 9) rfl (fun r9 h9 hr9 => ?_)
  obtain ⟨e9, er9⟩ := hr9
  subst er9; rw [e9]
  show aw G 4 M 9 [.ref (ad 14), .int a, .int b, .int c] [.int (pb_b (¬ (nI oc) < 0 ∧ ¬ 12 ≤ (nI oc)))] h 0 0
  refine aw_if_eq (t := 52) (q := 12) C dX5_addOpen_9 (by decide) rfl (fun c_9 => absurd c_9 (fun z => (pb_0.mp z) ⟨nI_pos (by omega), ni_nge oc 12 rfl rfl (by omega) (by decide) (by omega)⟩)) (fun c_9 => ?_)
  refine aw_aload_n C dX5_addOpen_12 rfl rfl (q := 13) rfl ?_
  refine gfX5_9_5 (v := .ref (ad 15)) C dX5_addOpen_13 Rp.1 rfl (q := 16) rfl ?_
  refine aw_aload_n C dX5_addOpen_16 rfl rfl (q := 17) rfl ?_
  refine gfX5_32_5 (v := .int (nI oc)) C dX5_addOpen_17 Rp.1 rfl (q := 20) rfl ?_
  refine aw_iload_n C dX5_addOpen_20 rfl rfl (q := 21) rfl ?_
  refine ay_iast (j := oc) C dX5_addOpen_21 (Rp.2 15 (by decide) (by decide)) (vp_in_nI (by omega) (by decide)) (nI_clamp (by omega)) (q := 22) rfl ?_
  show aw G 4 M 22 [.ref (ad 14), .int a, .int b, .int c] [] (ac_up h (ad 15) (.inl (1, 12, .inl (upd (O 15) oc a)))) 0 0
  obtain ⟨h_1, eh_1⟩ : ∃ z, z = ac_up h (ad 15) (.inl (1, 12, .inl (upd (O 15) oc a))) := ⟨_, rfl⟩
  rw [← eh_1]
  have f_2 : h_1 (ad 14) = some (.inr (5, [v0, .int (nI oc), .ref (ad 15), .ref (ad 16), .ref (ad 17), .int (nI rc), .ref (ad 18)])) := by rw [eh_1, ac_up_n _ _ (an 14 15 (by decide) (by decide) (by decide))]; exact Rp.1
  have f_3 : h_1 (ad 16) = some (.inl (1, 12, .inl (O 16))) := by rw [eh_1, ac_up_n _ _ (an 16 15 (by decide) (by decide) (by decide))]; exact (Rp.2 16 (by decide) (by decide))
  have f_4 : h_1 (ad 17) = some (.inl (1, 12, .inl (O 17))) := by rw [eh_1, ac_up_n _ _ (an 17 15 (by decide) (by decide) (by decide))]; exact (Rp.2 17 (by decide) (by decide))
  have f_5 : h_1 (ad 18) = some (.inl (1, 12, .inl (O 18))) := by rw [eh_1, ac_up_n _ _ (an 18 15 (by decide) (by decide) (by decide))]; exact (Rp.2 18 (by decide) (by decide))
  have f_6 : h_1 (ad 15) = some (.inl (1, 12, .inl (upd (O 15) oc a))) := by rw [eh_1]; exact ac_up_s _ _ _
  have kp_7 : kp h h_1 [ad 15] := by rw [eh_1]; exact kp_up (kp_cons (ad 15) kp_rf) _ _ (by simp)
  refine aw_aload_n C dX5_addOpen_22 rfl rfl (q := 23) rfl ?_
  refine gfX5_15_5 (v := .ref (ad 16)) C dX5_addOpen_23 f_2 rfl (q := 26) rfl ?_
  refine aw_aload_n C dX5_addOpen_26 rfl rfl (q := 27) rfl ?_
  refine gfX5_32_5 (v := .int (nI oc)) C dX5_addOpen_27 f_2 rfl (q := 30) rfl ?_
  refine aw_iload_n C dX5_addOpen_30 rfl rfl (q := 31) rfl ?_
  refine ay_iast (j := oc) C dX5_addOpen_31 f_3 (vp_in_nI (by omega) (by decide)) (nI_clamp (by omega)) (q := 32) rfl ?_
  show aw G 4 M 32 [.ref (ad 14), .int a, .int b, .int c] [] (ac_up h_1 (ad 16) (.inl (1, 12, .inl (upd (O 16) oc b)))) 0 0
  obtain ⟨h_8, eh_8⟩ : ∃ z, z = ac_up h_1 (ad 16) (.inl (1, 12, .inl (upd (O 16) oc b))) := ⟨_, rfl⟩
  rw [← eh_8]
  have f_9 : h_8 (ad 14) = some (.inr (5, [v0, .int (nI oc), .ref (ad 15), .ref (ad 16), .ref (ad 17), .int (nI rc), .ref (ad 18)])) := by rw [eh_8, ac_up_n _ _ (an 14 16 (by decide) (by decide) (by decide))]; exact f_2
  have f_10 : h_8 (ad 15) = some (.inl (1, 12, .inl (upd (O 15) oc a))) := by rw [eh_8, ac_up_n _ _ (an 15 16 (by decide) (by decide) (by decide))]; exact f_6
  have f_11 : h_8 (ad 17) = some (.inl (1, 12, .inl (O 17))) := by rw [eh_8, ac_up_n _ _ (an 17 16 (by decide) (by decide) (by decide))]; exact f_4
  have f_12 : h_8 (ad 18) = some (.inl (1, 12, .inl (O 18))) := by rw [eh_8, ac_up_n _ _ (an 18 16 (by decide) (by decide) (by decide))]; exact f_5
  have f_13 : h_8 (ad 16) = some (.inl (1, 12, .inl (upd (O 16) oc b))) := by rw [eh_8]; exact ac_up_s _ _ _
  have kp_14 : kp h h_8 [ad 16, ad 15] := by rw [eh_8]; exact kp_up (kp_cons (ad 16) kp_7) _ _ (by simp)
  refine aw_aload_n C dX5_addOpen_32 rfl rfl (q := 33) rfl ?_
  refine gfX5_18_5 (v := .ref (ad 17)) C dX5_addOpen_33 f_9 rfl (q := 36) rfl ?_
  refine aw_aload_n C dX5_addOpen_36 rfl rfl (q := 37) rfl ?_
  refine gfX5_32_5 (v := .int (nI oc)) C dX5_addOpen_37 f_9 rfl (q := 40) rfl ?_
  refine aw_iload_n C dX5_addOpen_40 rfl rfl (q := 41) rfl ?_
  refine ay_iast (j := oc) C dX5_addOpen_41 f_11 (vp_in_nI (by omega) (by decide)) (nI_clamp (by omega)) (q := 42) rfl ?_
  show aw G 4 M 42 [.ref (ad 14), .int a, .int b, .int c] [] (ac_up h_8 (ad 17) (.inl (1, 12, .inl (upd (O 17) oc c)))) 0 0
  obtain ⟨h_15, eh_15⟩ : ∃ z, z = ac_up h_8 (ad 17) (.inl (1, 12, .inl (upd (O 17) oc c))) := ⟨_, rfl⟩
  rw [← eh_15]
  have f_16 : h_15 (ad 14) = some (.inr (5, [v0, .int (nI oc), .ref (ad 15), .ref (ad 16), .ref (ad 17), .int (nI rc), .ref (ad 18)])) := by rw [eh_15, ac_up_n _ _ (an 14 17 (by decide) (by decide) (by decide))]; exact f_9
  have f_17 : h_15 (ad 15) = some (.inl (1, 12, .inl (upd (O 15) oc a))) := by rw [eh_15, ac_up_n _ _ (an 15 17 (by decide) (by decide) (by decide))]; exact f_10
  have f_18 : h_15 (ad 16) = some (.inl (1, 12, .inl (upd (O 16) oc b))) := by rw [eh_15, ac_up_n _ _ (an 16 17 (by decide) (by decide) (by decide))]; exact f_13
  have f_19 : h_15 (ad 18) = some (.inl (1, 12, .inl (O 18))) := by rw [eh_15, ac_up_n _ _ (an 18 17 (by decide) (by decide) (by decide))]; exact f_12
  have f_20 : h_15 (ad 17) = some (.inl (1, 12, .inl (upd (O 17) oc c))) := by rw [eh_15]; exact ac_up_s _ _ _
  have kp_21 : kp h h_15 [ad 17, ad 16, ad 15] := by rw [eh_15]; exact kp_up (kp_cons (ad 17) kp_14) _ _ (by simp)
  refine aw_aload_n C dX5_addOpen_42 rfl rfl (q := 43) rfl ?_
  refine aw_dup C dX5_addOpen_43 rfl (q := 44) rfl ?_
  refine gfX5_32_5 (v := .int (nI oc)) C dX5_addOpen_44 f_16 rfl (q := 47) rfl ?_
  refine aw_iconst (v := 1) C dX5_addOpen_47 (by decide) (q := 48) rfl ?_
  refine aw_iadd C dX5_addOpen_48 (q := 49) rfl ?_
  rw [show nI oc + 1 = nI (oc + 1) from nI_1 _]
  refine pfX5_32_5 C dX5_addOpen_49 f_16 rfl rfl (Nat.le_of_ble_eq_true rfl) (q := 52) rfl ?_
  show aw G 4 M 52 [.ref (ad 14), .int a, .int b, .int c] [] (ac_up h_15 (ad 14) (.inr (5, [v0, .int (nI (oc + 1)), .ref (ad 15), .ref (ad 16), .ref (ad 17), .int (nI rc), .ref (ad 18)]))) 0 0
  obtain ⟨h_22, eh_22⟩ : ∃ z, z = ac_up h_15 (ad 14) (.inr (5, [v0, .int (nI (oc + 1)), .ref (ad 15), .ref (ad 16), .ref (ad 17), .int (nI rc), .ref (ad 18)])) := ⟨_, rfl⟩
  rw [← eh_22]
  have f_23 : h_22 (ad 15) = some (.inl (1, 12, .inl (upd (O 15) oc a))) := by rw [eh_22, ac_up_n _ _ (an 15 14 (by decide) (by decide) (by decide))]; exact f_17
  have f_24 : h_22 (ad 16) = some (.inl (1, 12, .inl (upd (O 16) oc b))) := by rw [eh_22, ac_up_n _ _ (an 16 14 (by decide) (by decide) (by decide))]; exact f_18
  have f_25 : h_22 (ad 17) = some (.inl (1, 12, .inl (upd (O 17) oc c))) := by rw [eh_22, ac_up_n _ _ (an 17 14 (by decide) (by decide) (by decide))]; exact f_20
  have f_26 : h_22 (ad 18) = some (.inl (1, 12, .inl (O 18))) := by rw [eh_22, ac_up_n _ _ (an 18 14 (by decide) (by decide) (by decide))]; exact f_19
  have f_27 : h_22 (ad 14) = some (.inr (5, [v0, .int (nI (oc + 1)), .ref (ad 15), .ref (ad 16), .ref (ad 17), .int (nI rc), .ref (ad 18)])) := by rw [eh_22]; exact ac_up_s _ _ _
  have kp_28 : kp h h_22 [ad 14, ad 17, ad 16, ad 15] := by rw [eh_22]; exact kp_up (kp_cons (ad 14) kp_21) _ _ (by simp)
  refine aw_vret C E dX5_addOpen_52 (Nat.le_refl _) (Nat.le_refl _) ?_
  exact ⟨rfl, rp_mk f_27 f_23 f_24 f_25 f_26, kp_mono kp_28 (by simp)⟩
/-- run's rules from r on, m of them: the grade, openCount, reached, the rows -/
def rp_take (I : Nat → Int32) (F : Nat → Nat → Int32) (c : Nat) (T : ru_D) : Nat → Nat → Nat → (Nat → Nat → Int32) → Int32 × Nat × Nat × (Nat → Nat → Int32)
  | 0, r, oc, O => (-1, oc, r, O)
  | m + 1, r, oc, O => if (rk_rule I F c 0 T r).1 = true then (ru_g T r, oc, r + 1, va_up O 18 (upd (O 18) r (rk_rule I F c 0 T r).2.1))
      else if (rk_rule I F c 0 T r).2.2 = 0 then rp_take I F c T m (r + 1) oc (va_up O 18 (upd (O 18) r (rk_rule I F c 0 T r).2.1))
      else rp_take I F c T m (r + 1) (oc + 1) (rp_add (va_up O 18 (upd (O 18) r (rk_rule I F c 0 T r).2.1)) oc (nI r) (rk_rule I F c 0 T r).2.1 (rk_rule I F c 0 T r).2.2)
set_option maxHeartbeats 4000000 in
set_option maxRecDepth 100000 in
theorem lp_take {G : ac_G} {M : ac_M} {h : ac_H} {d : Nat} {ad : Nat → Nat} {I : Nat → Int32} {F : Nat → Nat → Int32} {c : Nat} {rd : Nat → Nat} {T : ru_D} {R : Int32 × Nat × Nat × (Nat → Nat → Int32)} (an : inj ad 26) (dj : apart ad rd) (C : ac_MC G RX5 cX5_take 5 (some .int) M) (B : ac_Bd M (d + 5) 0 0) (E : ac_End G (fun r9 h9 => r9 = some (.int R.1) ∧ rp_ok h9 ad (.ref (rd 0)) R.2.1 R.2.2.1 R.2.2.2 ∧ (∃ s9 hd9 ca9, rk_ok h9 (ad 11) (ad 1) (ad 12) s9 hd9 ca9) ∧ kp h h9 ([14, 15, 16, 17, 18, 11, 12].map ad)) 0 0 M) (Kp0 : pl_ok h (ad 1) (pA ad) I F c) (U0 : ru_ok h rd T) (hw : ru_wf T) :
    ∀ (m r oc : Nat) (O : Nat → Nat → Int32) (h1 : ac_H) (s : rk_S) (hd ca : Int32) (v4 : Value), r + m = ru_cnt T → oc ≤ r → rp_ok h1 ad (.ref (rd 0)) oc r O → rk_ok h1 (ad 11) (ad 1) (ad 12) s hd ca → kp h h1 ([14, 15, 16, 17, 18, 11, 12].map ad) → rp_take I F c T m r oc O = R → aw G 5 M 17 [.ref (ad 14), .ref (rd 0), .ref (ad 11), .int (nI r), v4] [] h1 0 0 := by
  obtain ⟨w1, w2, w3, w4⟩ := id hw
  intro m
  induction m with
  | zero =>
    intro r oc O h1 s hd ca v4 hi hoc Rp1 K1 kq1 hR
    have U1 := ru_kpA (L := [14, 15, 16, 17, 18, 11, 12]) dj U0 kq1 (by decide)
    refine aw_iload_n C dX5_take_17 rfl rfl (q := 18) rfl ?_
    refine aw_aload_n C dX5_take_18 rfl rfl (q := 19) rfl ?_
    refine gfX5_35_6 (v := .int (nI (ru_cnt T))) C dX5_take_19 U1.1 rfl (q := 22) rfl ?_
    refine aw_icmp_ge (t := 95) (q := 25) C dX5_take_22 (by decide) rfl (fun c_22 => ?_) (fun c_22 => absurd c_22 (fun z => z (nI_le (by omega) (by omega))))
    refine aw_iconst (v := (-1)) C dX5_take_95 (by decide) (q := 96) rfl ?_
    refine aw_iret C E dX5_take_96 (Nat.le_refl _) (Nat.le_refl _) ?_
    have hR2 : R = (-1, oc, r, O) := hR.symm
    exact ⟨by rw [hR2], by rw [hR2]; exact Rp1, ⟨_, _, _, K1⟩, kq1⟩
  | succ m ih =>
    intro r oc O h1 s hd ca v4 hi hoc Rp1 K1 kq1 hR
    have U1 := ru_kpA (L := [14, 15, 16, 17, 18, 11, 12]) dj U0 kq1 (by decide)
    refine aw_iload_n C dX5_take_17 rfl rfl (q := 18) rfl ?_
    refine aw_aload_n C dX5_take_18 rfl rfl (q := 19) rfl ?_
    refine gfX5_35_6 (v := .int (nI (ru_cnt T))) C dX5_take_19 U1.1 rfl (q := 22) rfl ?_
    refine aw_icmp_ge (t := 95) (q := 25) C dX5_take_22 (by decide) rfl (fun c_22 => absurd c_22 (ni_nge r (ru_cnt T) rfl rfl (by omega) (by omega) (by omega))) (fun c_22 => ?_)
    refine aw_iload_n C dX5_take_25 rfl rfl (q := 26) rfl ?_
    refine aw_bipush (v := 12) C dX5_take_26 (by decide) (q := 28) rfl ?_
    refine aw_icmp_ge (t := 95) (q := 31) C dX5_take_28 (by decide) rfl (fun c_28 => absurd c_28 (ni_nge r 12 rfl rfl (by omega) (by decide) (by omega))) (fun c_28 => ?_)
    refine aw_aload_n C dX5_take_31 rfl rfl (q := 32) rfl ?_
    refine aw_aload_n C dX5_take_32 rfl rfl (q := 33) rfl ?_
    refine aw_iload_n C dX5_take_33 rfl rfl (q := 34) rfl ?_
    refine aw_iconst (v := 0) C dX5_take_34 (by decide) (q := 35) rfl ?_
    have Kp1 := pl_kpA (L := [14, 15, 16, 17, 18, 11, 12]) an Kp0 kq1 (by decide)
    refine cvX5_40_4 (As := [.ref (rd 0), .int (nI r), .int 0]) (rest := []) C B dX5_take_35 K1.1 (c_rule G M.2.1 h1 d (ad 11) (ad 1) (ad 12) s hd ca (pA ad) I F c rd T r 0 K1 Kp1 U1 hw (by omega)) rfl rfl (Nat.le_of_ble_eq_true rfl) (by omega) (by omega) (by omega) (q := 38) rfl (fun r9 h9 hr9 => ?_)
    obtain ⟨er9, ⟨s9, K9⟩, kp9⟩ := hr9
    subst er9
    have kq9 : kp h h9 ([14, 15, 16, 17, 18, 11, 12].map ad) := kp_mono (kp_tr kq1 kp9) (by intro z hz; simp only [List.mem_append, List.map_cons, List.map_nil, List.mem_cons, List.not_mem_nil, or_false] at hz ⊢; omega)
    have g_14 : h9 (ad 14) = some (.inr (5, [.ref (rd 0), .int (nI oc), .ref (ad 15), .ref (ad 16), .ref (ad 17), .int (nI r), .ref (ad 18)])) := kp9 _ _ Rp1.1 (ni1 (an 14 11 (by decide) (by decide) (by decide)) (ni1 (an 14 12 (by decide) (by decide) (by decide)) ni0))
    have g_15 : h9 (ad 15) = some (.inl (1, 12, .inl (O 15))) := kp9 _ _ (Rp1.2 15 (by decide) (by decide)) (ni1 (an 15 11 (by decide) (by decide) (by decide)) (ni1 (an 15 12 (by decide) (by decide) (by decide)) ni0))
    have g_16 : h9 (ad 16) = some (.inl (1, 12, .inl (O 16))) := kp9 _ _ (Rp1.2 16 (by decide) (by decide)) (ni1 (an 16 11 (by decide) (by decide) (by decide)) (ni1 (an 16 12 (by decide) (by decide) (by decide)) ni0))
    have g_17 : h9 (ad 17) = some (.inl (1, 12, .inl (O 17))) := kp9 _ _ (Rp1.2 17 (by decide) (by decide)) (ni1 (an 17 11 (by decide) (by decide) (by decide)) (ni1 (an 17 12 (by decide) (by decide) (by decide)) ni0))
    have g_18 : h9 (ad 18) = some (.inl (1, 12, .inl (O 18))) := kp9 _ _ (Rp1.2 18 (by decide) (by decide)) (ni1 (an 18 11 (by decide) (by decide) (by decide)) (ni1 (an 18 12 (by decide) (by decide) (by decide)) ni0))
    show aw G 5 M 38 [.ref (ad 14), .ref (rd 0), .ref (ad 11), .int (nI r), v4] [.int (pb_b ((rk_rule I F c 0 T r).1 = true))] h9 0 0
    refine aw_istore (ls' := [.ref (ad 14), .ref (rd 0), .ref (ad 11), .int (nI r), .int (pb_b ((rk_rule I F c 0 T r).1 = true))]) C dX5_take_38 (by decide) rfl (q := 40) rfl ?_
    refine aw_aload_n C dX5_take_40 rfl rfl (q := 41) rfl ?_
    refine gfX5_21_5 (v := .ref (ad 18)) C dX5_take_41 g_14 rfl (q := 44) rfl ?_
    refine aw_iload_n C dX5_take_44 rfl rfl (q := 45) rfl ?_
    refine aw_aload_n C dX5_take_45 rfl rfl (q := 46) rfl ?_
    refine gfX5_46_4 (v := .int ((rk_rule I F c 0 T r).2.1)) C dX5_take_46 K9.1 rfl (q := 49) rfl ?_
    refine ay_iast (j := r) C dX5_take_49 g_18 (vp_in_nI (by omega) (by decide)) (nI_clamp (by omega)) (q := 50) rfl ?_
    show aw G 5 M 50 [.ref (ad 14), .ref (rd 0), .ref (ad 11), .int (nI r), .int (pb_b ((rk_rule I F c 0 T r).1 = true))] [] (ac_up h9 (ad 18) (.inl (1, 12, .inl (upd (O 18) r ((rk_rule I F c 0 T r).2.1))))) 0 0
    obtain ⟨h_1, eh_1⟩ : ∃ z, z = ac_up h9 (ad 18) (.inl (1, 12, .inl (upd (O 18) r ((rk_rule I F c 0 T r).2.1)))) := ⟨_, rfl⟩
    rw [← eh_1]
    have f_2 : h_1 (ad 14) = some (.inr (5, [.ref (rd 0), .int (nI oc), .ref (ad 15), .ref (ad 16), .ref (ad 17), .int (nI r), .ref (ad 18)])) := by rw [eh_1, ac_up_n _ _ (an 14 18 (by decide) (by decide) (by decide))]; exact g_14
    have f_3 : h_1 (ad 15) = some (.inl (1, 12, .inl (O 15))) := by rw [eh_1, ac_up_n _ _ (an 15 18 (by decide) (by decide) (by decide))]; exact g_15
    have f_4 : h_1 (ad 16) = some (.inl (1, 12, .inl (O 16))) := by rw [eh_1, ac_up_n _ _ (an 16 18 (by decide) (by decide) (by decide))]; exact g_16
    have f_5 : h_1 (ad 17) = some (.inl (1, 12, .inl (O 17))) := by rw [eh_1, ac_up_n _ _ (an 17 18 (by decide) (by decide) (by decide))]; exact g_17
    have f_6 : h_1 (ad 11) = some (.inr (4, [.ref (ad 1), .ref (ad 12), .int (nI s9.2), .int (rk_rule I F c 0 T r).2.1, .int (rk_rule I F c 0 T r).2.2])) := by rw [eh_1, ac_up_n _ _ (an 11 18 (by decide) (by decide) (by decide))]; exact K9.1
    have f_7 : h_1 (ad 12) = some (.inl (2, 32, .inr (.inl (s9.1)))) := by rw [eh_1, ac_up_n _ _ (an 12 18 (by decide) (by decide) (by decide))]; exact K9.2.1
    have f_8 : h_1 (ad 18) = some (.inl (1, 12, .inl (upd (O 18) r ((rk_rule I F c 0 T r).2.1)))) := by rw [eh_1]; exact ac_up_s _ _ _
    have kp_9 : kp h h_1 [ad 14, ad 15, ad 16, ad 17, ad 18, ad 11, ad 12] := by rw [eh_1]; exact kp_up kq9 _ _ (by simp)
    refine aw_aload_n C dX5_take_50 rfl rfl (q := 51) rfl ?_
    refine aw_iload_n C dX5_take_51 rfl rfl (q := 52) rfl ?_
    refine aw_iconst (v := 1) C dX5_take_52 (by decide) (q := 53) rfl ?_
    refine aw_iadd C dX5_take_53 (q := 54) rfl ?_
    rw [show nI r + 1 = nI (r + 1) from nI_1 _]
    refine pfX5_28_5 C dX5_take_54 f_2 rfl rfl (Nat.le_of_ble_eq_true rfl) (q := 57) rfl ?_
    show aw G 5 M 57 [.ref (ad 14), .ref (rd 0), .ref (ad 11), .int (nI r), .int (pb_b ((rk_rule I F c 0 T r).1 = true))] [] (ac_up h_1 (ad 14) (.inr (5, [.ref (rd 0), .int (nI oc), .ref (ad 15), .ref (ad 16), .ref (ad 17), .int (nI (r + 1)), .ref (ad 18)]))) 0 0
    obtain ⟨h_10, eh_10⟩ : ∃ z, z = ac_up h_1 (ad 14) (.inr (5, [.ref (rd 0), .int (nI oc), .ref (ad 15), .ref (ad 16), .ref (ad 17), .int (nI (r + 1)), .ref (ad 18)])) := ⟨_, rfl⟩
    rw [← eh_10]
    have f_11 : h_10 (ad 15) = some (.inl (1, 12, .inl (O 15))) := by rw [eh_10, ac_up_n _ _ (an 15 14 (by decide) (by decide) (by decide))]; exact f_3
    have f_12 : h_10 (ad 16) = some (.inl (1, 12, .inl (O 16))) := by rw [eh_10, ac_up_n _ _ (an 16 14 (by decide) (by decide) (by decide))]; exact f_4
    have f_13 : h_10 (ad 17) = some (.inl (1, 12, .inl (O 17))) := by rw [eh_10, ac_up_n _ _ (an 17 14 (by decide) (by decide) (by decide))]; exact f_5
    have f_14 : h_10 (ad 18) = some (.inl (1, 12, .inl (upd (O 18) r ((rk_rule I F c 0 T r).2.1)))) := by rw [eh_10, ac_up_n _ _ (an 18 14 (by decide) (by decide) (by decide))]; exact f_8
    have f_15 : h_10 (ad 11) = some (.inr (4, [.ref (ad 1), .ref (ad 12), .int (nI s9.2), .int (rk_rule I F c 0 T r).2.1, .int (rk_rule I F c 0 T r).2.2])) := by rw [eh_10, ac_up_n _ _ (an 11 14 (by decide) (by decide) (by decide))]; exact f_6
    have f_16 : h_10 (ad 12) = some (.inl (2, 32, .inr (.inl (s9.1)))) := by rw [eh_10, ac_up_n _ _ (an 12 14 (by decide) (by decide) (by decide))]; exact f_7
    have f_17 : h_10 (ad 14) = some (.inr (5, [.ref (rd 0), .int (nI oc), .ref (ad 15), .ref (ad 16), .ref (ad 17), .int (nI (r + 1)), .ref (ad 18)])) := by rw [eh_10]; exact ac_up_s _ _ _
    have kp_18 : kp h h_10 [ad 14, ad 15, ad 16, ad 17, ad 18, ad 11, ad 12] := by rw [eh_10]; exact kp_up kp_9 _ _ (by simp)
    have Rp2 : rp_ok h_10 ad (.ref (rd 0)) oc (r + 1) (va_up O 18 (upd (O 18) r (rk_rule I F c 0 T r).2.1)) := rp_mk f_17 f_11 f_12 f_13 f_14
    have K2 : rk_ok h_10 (ad 11) (ad 1) (ad 12) s9 (rk_rule I F c 0 T r).2.1 (rk_rule I F c 0 T r).2.2 := ⟨f_15, f_16, K9.2.2⟩
    have kq2 : kp h h_10 ([14, 15, 16, 17, 18, 11, 12].map ad) := kp_18
    refine aw_iload C dX5_take_57 rfl (q := 59) rfl ?_
    refine aw_if_eq (t := 69) (q := 62) C dX5_take_59 (by decide) rfl (fun c_59 => ?_) (fun c_59 => ?_)
    ·
      refine aw_aload_n C dX5_take_69 rfl rfl (q := 70) rfl ?_
      refine gfX5_51_4 (v := .int ((rk_rule I F c 0 T r).2.2)) C dX5_take_70 f_15 rfl (q := 73) rfl ?_
      refine aw_if_eq (t := 89) (q := 76) C dX5_take_73 (by decide) rfl (fun c_73 => ?_) (fun c_73 => ?_)
      ·
        refine aw_iinc (v := nI (r + 1)) (ls' := [.ref (ad 14), .ref (rd 0), .ref (ad 11), .int (nI (r + 1)), .int (pb_b ((rk_rule I F c 0 T r).1 = true))]) C dX5_take_89 rfl (nI_1 r) (by decide) rfl (q := 92) rfl ?_
        refine aw_goto (q := 17) C dX5_take_92 (by decide) ?_
        refine ih (r + 1) _ _ h_10 s9 _ _ _ (by omega) (by omega) Rp2 K2 kq2 ?_
        rw [← hR]
        conv => rhs; unfold rp_take
        rw [if_neg (pb_0.mp c_59), if_pos c_73]
      ·
        refine aw_aload_n C dX5_take_76 rfl rfl (q := 77) rfl ?_
        refine aw_iload_n C dX5_take_77 rfl rfl (q := 78) rfl ?_
        refine aw_aload_n C dX5_take_78 rfl rfl (q := 79) rfl ?_
        refine gfX5_46_4 (v := .int ((rk_rule I F c 0 T r).2.1)) C dX5_take_79 f_15 rfl (q := 82) rfl ?_
        refine aw_aload_n C dX5_take_82 rfl rfl (q := 83) rfl ?_
        refine gfX5_51_4 (v := .int ((rk_rule I F c 0 T r).2.2)) C dX5_take_83 f_15 rfl (q := 86) rfl ?_
        refine cvX5_54_5 (As := [.int (nI r), .int ((rk_rule I F c 0 T r).2.1), .int ((rk_rule I F c 0 T r).2.2)]) (rest := []) C B dX5_take_86 Rp2.1 (c_addOpen G M.2.1 h_10 d ad an (.ref (rd 0)) oc (r + 1) (va_up O 18 (upd (O 18) r (rk_rule I F c 0 T r).2.1)) (nI r) ((rk_rule I F c 0 T r).2.1) ((rk_rule I F c 0 T r).2.2) Rp2 (by omega)) rfl rfl (Nat.le_of_ble_eq_true rfl) (by omega) (by omega) (by omega) (q := 89) rfl (fun r9 h8 hr9 => ?_)
        obtain ⟨er9, Rp3, kp8⟩ := hr9
        subst er9
        have kq3 : kp h h8 ([14, 15, 16, 17, 18, 11, 12].map ad) := kp_mono (kp_tr kq2 kp8) (by intro z hz; simp only [List.mem_append, List.map_cons, List.map_nil, List.mem_cons, List.not_mem_nil, or_false] at hz ⊢; omega)
        have K3 := rk_kpA (L := [14, 15, 16, 17]) an K2 kp8 (by decide)
        show aw G 5 M 89 [.ref (ad 14), .ref (rd 0), .ref (ad 11), .int (nI r), .int (pb_b ((rk_rule I F c 0 T r).1 = true))] [] h8 0 0
        refine aw_iinc (v := nI (r + 1)) (ls' := [.ref (ad 14), .ref (rd 0), .ref (ad 11), .int (nI (r + 1)), .int (pb_b ((rk_rule I F c 0 T r).1 = true))]) C dX5_take_89 rfl (nI_1 r) (by decide) rfl (q := 92) rfl ?_
        refine aw_goto (q := 17) C dX5_take_92 (by decide) ?_
        refine ih (r + 1) _ _ h8 s9 _ _ _ (by omega) (by omega) Rp3 K3 kq3 ?_
        rw [← hR]
        conv => rhs; unfold rp_take
        rw [if_neg (pb_0.mp c_59), if_neg c_73]
    ·
      have U2 := ru_kpA (L := [14, 15, 16, 17, 18, 11, 12]) dj U0 kq2 (by decide)
      refine aw_aload_n C dX5_take_62 rfl rfl (q := 63) rfl ?_
      refine gfX5_48_6 (v := .ref (rd 1)) C dX5_take_63 U2.1 rfl (q := 66) rfl ?_
      refine aw_iload_n C dX5_take_66 rfl rfl (q := 67) rfl ?_
      refine ay_iald (j := r) C dX5_take_67 U2.2.1 (vp_in_nI (by omega) (by decide)) (nI_clamp (by omega)) (q := 68) rfl ?_
      refine aw_iret C E dX5_take_68 (Nat.le_refl _) (Nat.le_refl _) ?_
      have hR2 : R = (ru_g T r, oc, r + 1, va_up O 18 (upd (O 18) r (rk_rule I F c 0 T r).2.1)) := by rw [← hR]; unfold rp_take; rw [if_pos (pb_n c_59)]
      exact ⟨by rw [hR2], by rw [hR2]; exact Rp2, ⟨_, _, _, K2⟩, kq2⟩
set_option maxHeartbeats 4000000 in
set_option maxRecDepth 100000 in
theorem c_take (G : ac_G) (l : Launch) (h : ac_H) (d : Nat) (ad : Nat → Nat) (an : inj ad 26) (v0 : Value) (oc rc : Nat) (O : Nat → Nat → Int32) (s : rk_S) (hd ca : Int32) (I : Nat → Int32) (F : Nat → Nat → Int32) (c : Nat) (rd : Nat → Nat) (T : ru_D) (dj : apart ad rd) (Rp : rp_ok h ad v0 oc rc O) (K : rk_ok h (ad 11) (ad 1) (ad 12) s hd ca) (Kp : pl_ok h (ad 1) (pA ad) I F c) (U : ru_ok h rd T) (hw : ru_wf T) : ac_Met G l yX5_take cX5_take 5 (some .int) (d + 5) 0 0 [.ref (ad 14), .ref (rd 0), .ref (ad 11)] h (fun r9 h9 => r9 = some (.int (rp_take I F c T (ru_cnt T) 0 0 O).1) ∧ rp_ok h9 ad (.ref (rd 0)) (rp_take I F c T (ru_cnt T) 0 0 O).2.1 (rp_take I F c T (ru_cnt T) 0 0 O).2.2.1 (rp_take I F c T (ru_cnt T) 0 0 O).2.2.2 ∧ (∃ s9 hd9 ca9, rk_ok h9 (ad 11) (ad 1) (ad 12) s9 hd9 ca9) ∧ kp h h9 ([14, 15, 16, 17, 18, 11, 12].map ad)) := by
  refine ac_of (ls := [.ref (ad 14), .ref (rd 0), .ref (ad 11), .retAddr 0, .retAddr 0]) (by decide +kernel) rfl (Nat.le_of_ble_eq_true rfl) (fun M hl C B E hnm => ?_)
  refine aw_aload_n C dX5_take_0 rfl rfl (q := 1) rfl ?_
  refine aw_aload_n C dX5_take_1 rfl rfl (q := 2) rfl ?_
  refine pfX5_24_5 C dX5_take_2 Rp.1 rfl rfl (Nat.le_of_ble_eq_true rfl) (q := 5) rfl ?_
  show aw G 5 M 5 [.ref (ad 14), .ref (rd 0), .ref (ad 11), .retAddr 0, .retAddr 0] [] (ac_up h (ad 14) (.inr (5, [.ref (rd 0), .int (nI oc), .ref (ad 15), .ref (ad 16), .ref (ad 17), .int (nI rc), .ref (ad 18)]))) 0 0
  obtain ⟨h_1, eh_1⟩ : ∃ z, z = ac_up h (ad 14) (.inr (5, [.ref (rd 0), .int (nI oc), .ref (ad 15), .ref (ad 16), .ref (ad 17), .int (nI rc), .ref (ad 18)])) := ⟨_, rfl⟩
  rw [← eh_1]
  have f_2 : h_1 (ad 15) = some (.inl (1, 12, .inl (O 15))) := by rw [eh_1, ac_up_n _ _ (an 15 14 (by decide) (by decide) (by decide))]; exact (Rp.2 15 (by decide) (by decide))
  have f_3 : h_1 (ad 16) = some (.inl (1, 12, .inl (O 16))) := by rw [eh_1, ac_up_n _ _ (an 16 14 (by decide) (by decide) (by decide))]; exact (Rp.2 16 (by decide) (by decide))
  have f_4 : h_1 (ad 17) = some (.inl (1, 12, .inl (O 17))) := by rw [eh_1, ac_up_n _ _ (an 17 14 (by decide) (by decide) (by decide))]; exact (Rp.2 17 (by decide) (by decide))
  have f_5 : h_1 (ad 18) = some (.inl (1, 12, .inl (O 18))) := by rw [eh_1, ac_up_n _ _ (an 18 14 (by decide) (by decide) (by decide))]; exact (Rp.2 18 (by decide) (by decide))
  have f_6 : h_1 (ad 14) = some (.inr (5, [.ref (rd 0), .int (nI oc), .ref (ad 15), .ref (ad 16), .ref (ad 17), .int (nI rc), .ref (ad 18)])) := by rw [eh_1]; exact ac_up_s _ _ _
  have kp_7 : kp h h_1 [ad 14] := by rw [eh_1]; exact kp_up (kp_cons (ad 14) kp_rf) _ _ (by simp)
  refine aw_aload_n C dX5_take_5 rfl rfl (q := 6) rfl ?_
  refine aw_iconst (v := 0) C dX5_take_6 (by decide) (q := 7) rfl ?_
  refine pfX5_28_5 C dX5_take_7 f_6 rfl rfl (Nat.le_of_ble_eq_true rfl) (q := 10) rfl ?_
  show aw G 5 M 10 [.ref (ad 14), .ref (rd 0), .ref (ad 11), .retAddr 0, .retAddr 0] [] (ac_up h_1 (ad 14) (.inr (5, [.ref (rd 0), .int (nI oc), .ref (ad 15), .ref (ad 16), .ref (ad 17), .int 0, .ref (ad 18)]))) 0 0
  obtain ⟨h_8, eh_8⟩ : ∃ z, z = ac_up h_1 (ad 14) (.inr (5, [.ref (rd 0), .int (nI oc), .ref (ad 15), .ref (ad 16), .ref (ad 17), .int 0, .ref (ad 18)])) := ⟨_, rfl⟩
  rw [← eh_8]
  have f_9 : h_8 (ad 15) = some (.inl (1, 12, .inl (O 15))) := by rw [eh_8, ac_up_n _ _ (an 15 14 (by decide) (by decide) (by decide))]; exact f_2
  have f_10 : h_8 (ad 16) = some (.inl (1, 12, .inl (O 16))) := by rw [eh_8, ac_up_n _ _ (an 16 14 (by decide) (by decide) (by decide))]; exact f_3
  have f_11 : h_8 (ad 17) = some (.inl (1, 12, .inl (O 17))) := by rw [eh_8, ac_up_n _ _ (an 17 14 (by decide) (by decide) (by decide))]; exact f_4
  have f_12 : h_8 (ad 18) = some (.inl (1, 12, .inl (O 18))) := by rw [eh_8, ac_up_n _ _ (an 18 14 (by decide) (by decide) (by decide))]; exact f_5
  have f_13 : h_8 (ad 14) = some (.inr (5, [.ref (rd 0), .int (nI oc), .ref (ad 15), .ref (ad 16), .ref (ad 17), .int 0, .ref (ad 18)])) := by rw [eh_8]; exact ac_up_s _ _ _
  have kp_14 : kp h h_8 [ad 14] := by rw [eh_8]; exact kp_up kp_7 _ _ (by simp)
  refine aw_aload_n C dX5_take_10 rfl rfl (q := 11) rfl ?_
  refine aw_iconst (v := 0) C dX5_take_11 (by decide) (q := 12) rfl ?_
  refine pfX5_32_5 C dX5_take_12 f_13 rfl rfl (Nat.le_of_ble_eq_true rfl) (q := 15) rfl ?_
  show aw G 5 M 15 [.ref (ad 14), .ref (rd 0), .ref (ad 11), .retAddr 0, .retAddr 0] [] (ac_up h_8 (ad 14) (.inr (5, [.ref (rd 0), .int 0, .ref (ad 15), .ref (ad 16), .ref (ad 17), .int 0, .ref (ad 18)]))) 0 0
  obtain ⟨h_15, eh_15⟩ : ∃ z, z = ac_up h_8 (ad 14) (.inr (5, [.ref (rd 0), .int 0, .ref (ad 15), .ref (ad 16), .ref (ad 17), .int 0, .ref (ad 18)])) := ⟨_, rfl⟩
  rw [← eh_15]
  have f_16 : h_15 (ad 15) = some (.inl (1, 12, .inl (O 15))) := by rw [eh_15, ac_up_n _ _ (an 15 14 (by decide) (by decide) (by decide))]; exact f_9
  have f_17 : h_15 (ad 16) = some (.inl (1, 12, .inl (O 16))) := by rw [eh_15, ac_up_n _ _ (an 16 14 (by decide) (by decide) (by decide))]; exact f_10
  have f_18 : h_15 (ad 17) = some (.inl (1, 12, .inl (O 17))) := by rw [eh_15, ac_up_n _ _ (an 17 14 (by decide) (by decide) (by decide))]; exact f_11
  have f_19 : h_15 (ad 18) = some (.inl (1, 12, .inl (O 18))) := by rw [eh_15, ac_up_n _ _ (an 18 14 (by decide) (by decide) (by decide))]; exact f_12
  have f_20 : h_15 (ad 14) = some (.inr (5, [.ref (rd 0), .int 0, .ref (ad 15), .ref (ad 16), .ref (ad 17), .int 0, .ref (ad 18)])) := by rw [eh_15]; exact ac_up_s _ _ _
  have kp_21 : kp h h_15 [ad 14] := by rw [eh_15]; exact kp_up kp_14 _ _ (by simp)
  have Rp1 : rp_ok h_15 ad (.ref (rd 0)) 0 0 O := rp_mk f_20 f_16 f_17 f_18 f_19
  have kq0 : kp h h_15 ([14].map ad) := kp_21
  have kq1 : kp h h_15 ([14, 15, 16, 17, 18, 11, 12].map ad) := kp_mono kq0 (by simp)
  have K1 := rk_kpA (L := [14]) an K kq0 (by decide)
  refine aw_iconst (v := 0) C dX5_take_15 (by decide) (q := 16) rfl ?_
  refine aw_istore_n (ls' := [.ref (ad 14), .ref (rd 0), .ref (ad 11), .int 0, .retAddr 0]) C dX5_take_16 rfl (by decide) rfl (q := 17) rfl ?_
  exact lp_take (R := rp_take I F c T (ru_cnt T) 0 0 O) an dj C B E Kp U hw (ru_cnt T) 0 0 O _ s hd ca _ (by omega) (Nat.le_refl _) Rp1 K1 kq1 rfl
