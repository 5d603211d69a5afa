/-! Report.heldOf; Raiser: class 2, ad 19: 0 plank, 1 reckoner, 2 grades (ad 20, 1024), 3 rules, 4 changes, 5 picks (ad 21, 10) -/
def rp_held (gf hf : Nat → Int32) (grade : Int32) : Nat → Nat → Int32 → Int32
  | 0, _, _ => -1
  | m + 1, r, left => if gf r = grade then (if left = 0 then hf r else rp_held gf hf grade m (r + 1) (left + (-1))) else rp_held gf hf grade m (r + 1) left
/-- the set of the first i picks, a bit each -/
def rz_bits (pk : Nat → Int32) : Nat → Int32
  | 0 => 0
  | i + 1 => rz_bits pk i ||| ((1 : Int32) <<< (pk i &&& 31))
/-- the grade without the faults of ab: the first of m rules from r on that holds -/
def rz_gr (I : Nat → Int32) (F : Nat → Nat → Int32) (c : Nat) (T : ru_D) (ab : Int32) : Nat → Nat → Int32
  | 0, _ => -1
  | m + 1, r => if (rk_rule I F c ab T r).1 = true then ru_g T r else rz_gr I F c T ab m (r + 1)
/-- what is kept of the grades is right -/
def rz_inv (I : Nat → Int32) (F : Nat → Nat → Int32) (c : Nat) (T : ru_D) (g : Nat → Int32) : Prop := ∀ a, a < 1024 → g a = -2 ∨ g a = rz_gr I F c T (nI a) (ru_cnt T) 0
def rz_fill : Nat → Nat → (Nat → Int32) → (Nat → Int32)
  | 0, _, pk => pk
  | m + 1, j, pk => rz_fill m (j + 1) (upd pk j (pk (j - 1) + 1))
/-- the next set of the size sz: from place i - 1 down -/
def rz_move (c sz : Nat) (pk : Nat → Int32) : Nat → Bool × (Nat → Int32)
  | 0 => (false, pk)
  | i + 1 => if nI c - nI sz + nI i ≤ pk i then rz_move c sz pk i else (true, rz_fill (sz - (i + 1)) (i + 1) (upd pk i (pk i + 1)))
abbrev rz_ob (ad : Nat → Nat) (ra : Nat) (chg : Int32) : ac_E := .inr (2, [.ref (ad 1), .ref (ad 11), .ref (ad 20), .ref ra, .int chg, .ref (ad 21)])
def rz_ok (h : ac_H) (ad : Nat → Nat) (ra : Nat) (chg : Int32) (g pk : Nat → Int32) : Prop := h (ad 19) = some (rz_ob ad ra chg) ∧ h (ad 20) = some (.inl (1, 1024, .inl g)) ∧ h (ad 21) = some (.inl (1, 10, .inl pk))
theorem rz_kpA {h h9 : ac_H} {ad : Nat → Nat} {ra : Nat} {chg : Int32} {g pk : Nat → Int32} {L : List Nat} (an : inj ad 26) (Z : rz_ok h ad ra chg g pk) (kq : kp h h9 (L.map ad)) (hL : ∀ x ∈ L, x < 19) : rz_ok h9 ad ra chg g pk :=
  ⟨kq _ _ Z.1 (ni_ad an (by decide) (fun x hx => ⟨by have := hL x hx; omega, by have := hL x hx; omega⟩)), kq _ _ Z.2.1 (ni_ad an (by decide) (fun x hx => ⟨by have := hL x hx; omega, by have := hL x hx; omega⟩)), kq _ _ Z.2.2 (ni_ad an (by decide) (fun x hx => ⟨by have := hL x hx; omega, by have := hL x hx; omega⟩))⟩
theorem ni_m1 (x : Int32) : x + Int32.ofInt (-1) = x - 1 := by rw [Int32.sub_eq_add_neg]; rfl
set_option maxHeartbeats 4000000 in
set_option maxRecDepth 100000 in
theorem lp_heldOf {G : ac_G} {M : ac_M} {h : ac_H} {ad : Nat → Nat} {oc rc : Nat} {O : Nat → Nat → Int32} {rd : Nat → Nat} {T : ru_D} {grade kk R : Int32} (C : ac_MC G RX5 cX5_heldOf 5 (some .int) M) (E : ac_End G (pq h (some (.int R))) 0 0 M) (Rp : rp_ok h ad (.ref (rd 0)) oc rc O) (U : ru_ok h rd T) (hrc : rc ≤ 12) :
    ∀ (m r : Nat) (left : Int32), r + m = rc → rp_held (ru_g T) (O 18) grade m r left = R → aw G 5 M 5 [.ref (ad 14), .int grade, .int kk, .int left, .int (nI r)] [] h 0 0 := by
  intro m
  induction m with
  | zero =>
    intro r left hi hR
    refine aw_aload_n C dX5_heldOf_5 rfl rfl (q := 6) rfl ?_
    refine gfX5_24_5 (v := .ref (rd 0)) C dX5_heldOf_6 Rp.1 rfl (q := 9) rfl ?_
    refine aw_ifnull (r := (some (rd 0))) (t := 66) (q := 12) C dX5_heldOf_9 (by decide) rfl (fun z => nomatch z) (fun _ _ => ?_)
    refine aw_iload C dX5_heldOf_12 rfl (q := 14) rfl ?_
    refine aw_aload_n C dX5_heldOf_14 rfl rfl (q := 15) rfl ?_
    refine gfX5_28_5 (v := .int (nI rc)) C dX5_heldOf_15 Rp.1 rfl (q := 18) rfl ?_
    refine aw_icmp_ge (t := 66) (q := 21) C dX5_heldOf_18 (by decide) rfl (fun c_18 => ?_) (fun c_18 => absurd c_18 (fun z => z (nI_le (by omega) (by omega))))
    refine aw_iconst (v := (-1)) C dX5_heldOf_66 (by decide) (q := 67) rfl ?_
    refine aw_iret C E dX5_heldOf_67 (Nat.le_refl _) (Nat.le_refl _) ?_
    exact ⟨rfl, by rw [← hR]; rfl⟩
  | succ m ih =>
    intro r left hi hR
    refine aw_aload_n C dX5_heldOf_5 rfl rfl (q := 6) rfl ?_
    refine gfX5_24_5 (v := .ref (rd 0)) C dX5_heldOf_6 Rp.1 rfl (q := 9) rfl ?_
    refine aw_ifnull (r := (some (rd 0))) (t := 66) (q := 12) C dX5_heldOf_9 (by decide) rfl (fun z => nomatch z) (fun _ _ => ?_)
    refine aw_iload C dX5_heldOf_12 rfl (q := 14) rfl ?_
    refine aw_aload_n C dX5_heldOf_14 rfl rfl (q := 15) rfl ?_
    refine gfX5_28_5 (v := .int (nI rc)) C dX5_heldOf_15 Rp.1 rfl (q := 18) rfl ?_
    refine aw_icmp_ge (t := 66) (q := 21) C dX5_heldOf_18 (by decide) rfl (fun c_18 => absurd c_18 (ni_nge r rc rfl rfl (by omega) (by omega) (by omega))) (fun c_18 => ?_)
    refine aw_iload C dX5_heldOf_21 rfl (q := 23) rfl ?_
    refine aw_bipush (v := 12) C dX5_heldOf_23 (by decide) (q := 25) rfl ?_
    refine aw_icmp_ge (t := 66) (q := 28) C dX5_heldOf_25 (by decide) rfl (fun c_25 => absurd c_25 (ni_nge r 12 rfl rfl (by omega) (by decide) (by omega))) (fun c_25 => ?_)
    refine aw_aload_n C dX5_heldOf_28 rfl rfl (q := 29) rfl ?_
    refine gfX5_24_5 (v := .ref (rd 0)) C dX5_heldOf_29 Rp.1 rfl (q := 32) rfl ?_
    refine gfX5_48_6 (v := .ref (rd 1)) C dX5_heldOf_32 U.1 rfl (q := 35) rfl ?_
    refine aw_iload C dX5_heldOf_35 rfl (q := 37) rfl ?_
    refine ay_iald (j := r) C dX5_heldOf_37 U.2.1 (vp_in_nI (by omega) (by decide)) (nI_clamp (by omega)) (q := 38) rfl ?_
    refine aw_iload_n C dX5_heldOf_38 rfl rfl (q := 39) rfl ?_
    refine aw_icmp_eq (t := 45) (q := 42) C dX5_heldOf_39 (by decide) rfl (fun c_39 => ?_) (fun c_39 => ?_)
    ·
      refine aw_iload_n C dX5_heldOf_45 rfl rfl (q := 46) rfl ?_
      refine aw_if_ne (t := 57) (q := 49) C dX5_heldOf_46 (by decide) rfl (fun c_46 => ?_) (fun c_46 => ?_)
      ·
        refine aw_iinc (v := left + (-1)) (ls' := [.ref (ad 14), .int grade, .int kk, .int (left + (-1)), .int (nI r)]) C dX5_heldOf_57 rfl rfl (by decide) rfl (q := 60) rfl ?_
        refine aw_iinc (v := nI (r + 1)) (ls' := [.ref (ad 14), .int grade, .int kk, .int (left + (-1)), .int (nI (r + 1))]) C dX5_heldOf_60 rfl (nI_1 r) (by decide) rfl (q := 63) rfl ?_
        refine aw_goto (q := 5) C dX5_heldOf_63 (by decide) ?_
        refine ih (r + 1) _ (by omega) ?_
        rw [← hR]
        conv => rhs; unfold rp_held
        rw [if_pos c_39, if_neg c_46]
      ·
        refine aw_aload_n C dX5_heldOf_49 rfl rfl (q := 50) rfl ?_
        refine gfX5_21_5 (v := .ref (ad 18)) C dX5_heldOf_50 Rp.1 rfl (q := 53) rfl ?_
        refine aw_iload C dX5_heldOf_53 rfl (q := 55) rfl ?_
        refine ay_iald (j := r) C dX5_heldOf_55 (Rp.2 18 (by decide) (by decide)) (vp_in_nI (by omega) (by decide)) (nI_clamp (by omega)) (q := 56) rfl ?_
        refine aw_iret C E dX5_heldOf_56 (Nat.le_refl _) (Nat.le_refl _) ?_
        exact ⟨rfl, by rw [← hR]; unfold rp_held; rw [if_pos c_39, if_pos c_46]⟩
    ·
      refine aw_goto (q := 60) C dX5_heldOf_42 (by decide) ?_
      refine aw_iinc (v := nI (r + 1)) (ls' := [.ref (ad 14), .int grade, .int kk, .int left, .int (nI (r + 1))]) C dX5_heldOf_60 rfl (nI_1 r) (by decide) rfl (q := 63) rfl ?_
      refine aw_goto (q := 5) C dX5_heldOf_63 (by decide) ?_
      refine ih (r + 1) _ (by omega) ?_
      rw [← hR]
      conv => rhs; unfold rp_held
      rw [if_neg c_39]
set_option maxHeartbeats 4000000 in
set_option maxRecDepth 100000 in
theorem c_heldOf (G : ac_G) (l : Launch) (h : ac_H) (d : Nat) (ad : Nat → Nat) (an : inj ad 26) (oc rc : Nat) (O : Nat → Nat → Int32) (rd : Nat → Nat) (T : ru_D) (grade kk : Int32) (Rp : rp_ok h ad (.ref (rd 0)) oc rc O) (U : ru_ok h rd T) (hrc : rc ≤ 12) : ac_Met G l yX5_heldOf cX5_heldOf 5 (some .int) d 0 0 [.ref (ad 14), .int grade, .int kk] h (pq h (some (.int (rp_held (ru_g T) (O 18) grade rc 0 kk)))) := by
  refine ac_of (ls := [.ref (ad 14), .int grade, .int kk, .retAddr 0, .retAddr 0]) (by decide +kernel) rfl (Nat.le_of_ble_eq_true rfl) (fun M hl C B E hnm => ?_)
  refine aw_iload_n C dX5_heldOf_0 rfl rfl (q := 1) rfl ?_
  refine aw_istore_n (ls' := [.ref (ad 14), .int grade, .int kk, .int kk, .retAddr 0]) C dX5_heldOf_1 rfl (by decide) rfl (q := 2) rfl ?_
  refine aw_iconst (v := 0) C dX5_heldOf_2 (by decide) (q := 3) rfl ?_
  refine aw_istore (ls' := [.ref (ad 14), .int grade, .int kk, .int kk, .int 0]) C dX5_heldOf_3 (by decide) rfl (q := 5) rfl ?_
  exact lp_heldOf C E Rp U hrc rc 0 kk (by omega) rfl
set_option maxHeartbeats 4000000 in
set_option maxRecDepth 100000 in
theorem lp_picksAsBits {G : ac_G} {M : ac_M} {h : ac_H} {ad : Nat → Nat} {ra sz : Nat} {chg : Int32} {g pk : Nat → Int32} (C : ac_MC G RX2 cX2_picksAsBits 4 (some .int) M) (E : ac_End G (pq h (some (.int (rz_bits pk sz)))) 0 0 M) (Z : rz_ok h ad ra chg g pk) (hsz : sz ≤ 10) :
    ∀ (m i : Nat) (x : Int32), i + m = sz → x = rz_bits pk i → aw G 4 M 4 [.ref (ad 19), .int (nI sz), .int x, .int (nI i)] [] h 0 0 := by
  intro m
  induction m with
  | zero =>
    intro i x hi hx
    refine aw_iload_n C dX2_picksAsBits_4 rfl rfl (q := 5) rfl ?_
    refine aw_iload_n C dX2_picksAsBits_5 rfl rfl (q := 6) rfl ?_
    refine aw_icmp_ge (t := 32) (q := 9) C dX2_picksAsBits_6 (by decide) rfl (fun c_6 => ?_) (fun c_6 => absurd c_6 (fun z => z (nI_le (by omega) (by omega))))
    refine aw_iload_n C dX2_picksAsBits_32 rfl rfl (q := 33) rfl ?_
    refine aw_iret C E dX2_picksAsBits_33 (Nat.le_refl _) (Nat.le_refl _) ?_
    have e : i = sz := by omega
    exact ⟨rfl, by rw [hx, e]⟩
  | succ m ih =>
    intro i x hi hx
    refine aw_iload_n C dX2_picksAsBits_4 rfl rfl (q := 5) rfl ?_
    refine aw_iload_n C dX2_picksAsBits_5 rfl rfl (q := 6) rfl ?_
    refine aw_icmp_ge (t := 32) (q := 9) C dX2_picksAsBits_6 (by decide) rfl (fun c_6 => absurd c_6 (ni_nge i sz rfl rfl (by omega) (by omega) (by omega))) (fun c_6 => ?_)
    refine aw_iload_n C dX2_picksAsBits_9 rfl rfl (q := 10) rfl ?_
    refine aw_bipush (v := 10) C dX2_picksAsBits_10 (by decide) (q := 12) rfl ?_
    refine aw_icmp_ge (t := 32) (q := 15) C dX2_picksAsBits_12 (by decide) rfl (fun c_12 => absurd c_12 (ni_nge i 10 rfl rfl (by omega) (by decide) (by omega))) (fun c_12 => ?_)
    refine aw_iload_n C dX2_picksAsBits_15 rfl rfl (q := 16) rfl ?_
    refine aw_iconst (v := 1) C dX2_picksAsBits_16 (by decide) (q := 17) rfl ?_
    refine aw_aload_n C dX2_picksAsBits_17 rfl rfl (q := 18) rfl ?_
    refine gfX2_28_2 (v := .ref (ad 21)) C dX2_picksAsBits_18 Z.1 rfl (q := 21) rfl ?_
    refine aw_iload_n C dX2_picksAsBits_21 rfl rfl (q := 22) rfl ?_
    refine ay_iald (j := i) C dX2_picksAsBits_22 Z.2.2 (vp_in_nI (by omega) (by decide)) (nI_clamp (by omega)) (q := 23) rfl ?_
    refine aw_ishl C dX2_picksAsBits_23 (q := 24) rfl ?_
    refine aw_ior C dX2_picksAsBits_24 (q := 25) rfl ?_
    refine aw_istore_n (ls' := [.ref (ad 19), .int (nI sz), .int (x ||| (1 <<< ((pk i) &&& 31))), .int (nI i)]) C dX2_picksAsBits_25 rfl (by decide) rfl (q := 26) rfl ?_
    refine aw_iinc (v := nI (i + 1)) (ls' := [.ref (ad 19), .int (nI sz), .int (x ||| (1 <<< ((pk i) &&& 31))), .int (nI (i + 1))]) C dX2_picksAsBits_26 rfl (nI_1 i) (by decide) rfl (q := 29) rfl ?_
    refine aw_goto (q := 4) C dX2_picksAsBits_29 (by decide) ?_
    exact ih (i + 1) _ (by omega) (by rw [hx]; rfl)
set_option maxHeartbeats 4000000 in
set_option maxRecDepth 100000 in
theorem c_picksAsBits (G : ac_G) (l : Launch) (h : ac_H) (d : Nat) (ad : Nat → Nat) (an : inj ad 26) (ra : Nat) (chg : Int32) (g pk : Nat → Int32) (sz : Nat) (Z : rz_ok h ad ra chg g pk) (hsz : sz ≤ 10) : ac_Met G l yX2_picksAsBits cX2_picksAsBits 4 (some .int) d 0 0 [.ref (ad 19), .int (nI sz)] h (pq h (some (.int (rz_bits pk sz)))) := by
  refine ac_of (ls := [.ref (ad 19), .int (nI sz), .retAddr 0, .retAddr 0]) (by decide +kernel) rfl (Nat.le_of_ble_eq_true rfl) (fun M hl C B E hnm => ?_)
  refine aw_iconst (v := 0) C dX2_picksAsBits_0 (by decide) (q := 1) rfl ?_
  refine aw_istore_n (ls' := [.ref (ad 19), .int (nI sz), .int 0, .retAddr 0]) C dX2_picksAsBits_1 rfl (by decide) rfl (q := 2) rfl ?_
  refine aw_iconst (v := 0) C dX2_picksAsBits_2 (by decide) (q := 3) rfl ?_
  refine aw_istore_n (ls' := [.ref (ad 19), .int (nI sz), .int 0, .int 0]) C dX2_picksAsBits_3 rfl (by decide) rfl (q := 4) rfl ?_
  exact lp_picksAsBits C E Z hsz sz 0 0 (by omega) rfl
set_option maxHeartbeats 4000000 in
set_option maxRecDepth 100000 in
theorem lp_moveFill {G : ac_G} {M : ac_M} {h : ac_H} {ad : Nat → Nat} {ra sz : Nat} {chg : Int32} {g : Nat → Int32} {R : Bool × (Nat → Int32)} (an : inj ad 26) (C : ac_MC G RX2 cX2_moveOn 4 (some .boolean) M) (E : ac_End G (fun r9 h9 => r9 = some (.int (pb_b (R.1 = true))) ∧ rz_ok h9 ad ra chg g R.2 ∧ kp h h9 ([21].map ad)) 0 0 M) (hsz : sz ≤ 10) :
    ∀ (m j : Nat) (pk : Nat → Int32) (h1 : ac_H) (v2 : Int32), j + m = sz → 1 ≤ j → rz_ok h1 ad ra chg g pk → kp h h1 ([21].map ad) → R = (true, rz_fill m j pk) → aw G 4 M 47 [.ref (ad 19), .int (nI sz), .int v2, .int (nI j)] [] h1 0 0 := by
  intro m
  induction m with
  | zero =>
    intro j pk h1 v2 hi hj Z1 kq1 hR
    refine aw_iload_n C dX2_moveOn_47 rfl rfl (q := 48) rfl ?_
    refine aw_iload_n C dX2_moveOn_48 rfl rfl (q := 49) rfl ?_
    refine aw_icmp_ge (t := 80) (q := 52) C dX2_moveOn_49 (by decide) rfl (fun c_49 => ?_) (fun c_49 => absurd c_49 (fun z => z (nI_le (by omega) (by omega))))
    refine aw_iconst (v := 1) C dX2_moveOn_80 (by decide) (q := 81) rfl ?_
    refine aw_zret C E dX2_moveOn_81 (rfl) (Nat.le_refl _) (Nat.le_refl _) ?_
    exact ⟨by rw [hR]; rfl, by rw [hR]; exact Z1, kq1⟩
  | succ m ih =>
    intro j pk h1 v2 hi hj Z1 kq1 hR
    refine aw_iload_n C dX2_moveOn_47 rfl rfl (q := 48) rfl ?_
    refine aw_iload_n C dX2_moveOn_48 rfl rfl (q := 49) rfl ?_
    refine aw_icmp_ge (t := 80) (q := 52) C dX2_moveOn_49 (by decide) rfl (fun c_49 => absurd c_49 (ni_nge j sz rfl rfl (by omega) (by omega) (by omega))) (fun c_49 => ?_)
    refine aw_iload_n C dX2_moveOn_52 rfl rfl (q := 53) rfl ?_
    refine aw_bipush (v := 10) C dX2_moveOn_53 (by decide) (q := 55) rfl ?_
    refine aw_icmp_ge (t := 80) (q := 58) C dX2_moveOn_55 (by decide) rfl (fun c_55 => absurd c_55 (ni_nge j 10 rfl rfl (by omega) (by decide) (by omega))) (fun c_55 => ?_)
    refine aw_aload_n C dX2_moveOn_58 rfl rfl (q := 59) rfl ?_
    refine gfX2_28_2 (v := .ref (ad 21)) C dX2_moveOn_59 Z1.1 rfl (q := 62) rfl ?_
    refine aw_iload_n C dX2_moveOn_62 rfl rfl (q := 63) rfl ?_
    refine aw_aload_n C dX2_moveOn_63 rfl rfl (q := 64) rfl ?_
    refine gfX2_28_2 (v := .ref (ad 21)) C dX2_moveOn_64 Z1.1 rfl (q := 67) rfl ?_
    refine aw_iload_n C dX2_moveOn_67 rfl rfl (q := 68) rfl ?_
    refine aw_iconst (v := 1) C dX2_moveOn_68 (by decide) (q := 69) rfl ?_
    refine aw_isub C dX2_moveOn_69 (q := 70) rfl ?_
    refine ay_iald (j := j - 1) C dX2_moveOn_70 Z1.2.2 (by rw [show nI j - 1 = nI (j - 1) from pk_sub (b := 1) hj]; exact vp_in_nI (by omega) (by decide)) (by rw [show nI j - 1 = nI (j - 1) from pk_sub (b := 1) hj]; exact nI_clamp (by omega)) (q := 71) rfl ?_
    refine aw_iconst (v := 1) C dX2_moveOn_71 (by decide) (q := 72) rfl ?_
    refine aw_iadd C dX2_moveOn_72 (q := 73) rfl ?_
    refine ay_iast (j := j) C dX2_moveOn_73 Z1.2.2 (vp_in_nI (by omega) (by decide)) (nI_clamp (by omega)) (q := 74) rfl ?_
    show aw G 4 M 74 [.ref (ad 19), .int (nI sz), .int v2, .int (nI j)] [] (ac_up h1 (ad 21) (.inl (1, 10, .inl (upd pk j ((pk (j - 1)) + 1))))) 0 0
    obtain ⟨h_1, eh_1⟩ : ∃ z, z = ac_up h1 (ad 21) (.inl (1, 10, .inl (upd pk j ((pk (j - 1)) + 1)))) := ⟨_, rfl⟩
    rw [← eh_1]
    have f_2 : h_1 (ad 19) = some (.inr (2, [.ref (ad 1), .ref (ad 11), .ref (ad 20), .ref (ra), .int (chg), .ref (ad 21)])) := by rw [eh_1, ac_up_n _ _ (an 19 21 (by decide) (by decide) (by decide))]; exact Z1.1
    have f_3 : h_1 (ad 20) = some (.inl (1, 1024, .inl (g))) := by rw [eh_1, ac_up_n _ _ (an 20 21 (by decide) (by decide) (by decide))]; exact Z1.2.1
    have f_4 : h_1 (ad 21) = some (.inl (1, 10, .inl (upd pk j ((pk (j - 1)) + 1)))) := by rw [eh_1]; exact ac_up_s _ _ _
    have kp_5 : kp h h_1 [ad 21] := by rw [eh_1]; exact kp_up kq1 _ _ (by simp)
    refine aw_iinc (v := nI (j + 1)) (ls' := [.ref (ad 19), .int (nI sz), .int v2, .int (nI (j + 1))]) C dX2_moveOn_74 rfl (nI_1 j) (by decide) rfl (q := 77) rfl ?_
    refine aw_goto (q := 47) C dX2_moveOn_77 (by decide) ?_
    exact ih (j + 1) _ h_1 _ (by omega) (by omega) ⟨f_2, f_3, f_4⟩ kp_5 hR
set_option maxHeartbeats 4000000 in
set_option maxRecDepth 100000 in
theorem lp_moveOn {G : ac_G} {M : ac_M} {h : ac_H} {ad : Nat → Nat} {ra sz : Nat} {chg : Int32} {g : Nat → Int32} {R : Bool × (Nat → Int32)} (an : inj ad 26) (C : ac_MC G RX2 cX2_moveOn 4 (some .boolean) M) {d : Nat} {I : Nat → Int32} {F : Nat → Nat → Int32} {c : Nat} {pk : Nat → Int32} (B : ac_Bd M (d + 1) 0 0) (E : ac_End G (fun r9 h9 => r9 = some (.int (pb_b (R.1 = true))) ∧ rz_ok h9 ad ra chg g R.2 ∧ kp h h9 ([21].map ad)) 0 0 M) (Z : rz_ok h ad ra chg g pk) (Kp : pl_ok h (ad 1) (pA ad) I F c) (hsz : sz ≤ 10) :
    ∀ (i : Nat) (v3 : Value), i ≤ sz → rz_move c sz pk i = R → aw G 4 M 4 [.ref (ad 19), .int (nI sz), .int (nI i - 1), v3] [] h 0 0 := by
  intro i
  induction i with
  | zero =>
    intro v3 hi hR
    refine aw_iload_n C dX2_moveOn_4 rfl rfl (q := 5) rfl ?_
    refine aw_bipush (v := 10) C dX2_moveOn_5 (by decide) (q := 7) rfl ?_
    refine csX2_66 (As := [.int (nI 0 - 1), .int 10]) (rest := []) C B dX2_moveOn_7 (c_isBelow G M.2.1 h d (nI 0 - 1) 10) rfl rfl (Nat.le_of_ble_eq_true rfl) (by omega) (by omega) (by omega) (q := 10) rfl (fun r9 h9 hr9 => ?_)
    obtain ⟨e9, er9⟩ := hr9
    subst er9; rw [e9]
    show aw G 4 M 10 [.ref (ad 19), .int (nI sz), .int (nI 0 - 1), v3] [.int (pb_b (¬ (nI 0 - 1) < 0 ∧ ¬ 10 ≤ (nI 0 - 1)))] h 0 0
    refine aw_if_eq (t := 88) (q := 13) C dX2_moveOn_10 (by decide) rfl (fun c_10 => ?_) (fun c_10 => absurd c_10 (fun z => z (pb_f (fun q => q.1 (by decide)))))
    refine aw_iconst (v := 0) C dX2_moveOn_88 (by decide) (q := 89) rfl ?_
    refine aw_zret C E dX2_moveOn_89 (rfl) (Nat.le_refl _) (Nat.le_refl _) ?_
    have e : R = (false, pk) := hR.symm
    exact ⟨by rw [e]; rfl, by rw [e]; exact Z, kp_cons _ kp_rf⟩
  | succ i ih =>
    intro v3 hi hR
    rw [show nI (i + 1) - 1 = nI i from nI_pred i]
    refine aw_iload_n C dX2_moveOn_4 rfl rfl (q := 5) rfl ?_
    refine aw_bipush (v := 10) C dX2_moveOn_5 (by decide) (q := 7) rfl ?_
    refine csX2_66 (As := [.int (nI i), .int 10]) (rest := []) C B dX2_moveOn_7 (c_isBelow G M.2.1 h d (nI i) 10) rfl rfl (Nat.le_of_ble_eq_true rfl) (by omega) (by omega) (by omega) (q := 10) rfl (fun r9 h9 hr9 => ?_)
    obtain ⟨e9, er9⟩ := hr9
    subst er9; rw [e9]
    show aw G 4 M 10 [.ref (ad 19), .int (nI sz), .int (nI i), v3] [.int (pb_b (¬ (nI i) < 0 ∧ ¬ 10 ≤ (nI i)))] h 0 0
    refine aw_if_eq (t := 88) (q := 13) C dX2_moveOn_10 (by decide) rfl (fun c_10 => absurd c_10 (fun z => (pb_0.mp z) ⟨nI_pos (by omega), ni_nge i 10 rfl rfl (by omega) (by decide) (by omega)⟩)) (fun c_10 => ?_)
    refine aw_aload_n C dX2_moveOn_13 rfl rfl (q := 14) rfl ?_
    refine gfX2_28_2 (v := .ref (ad 21)) C dX2_moveOn_14 Z.1 rfl (q := 17) rfl ?_
    refine aw_iload_n C dX2_moveOn_17 rfl rfl (q := 18) rfl ?_
    refine ay_iald (j := i) C dX2_moveOn_18 Z.2.2 (vp_in_nI (by omega) (by decide)) (nI_clamp (by omega)) (q := 19) rfl ?_
    refine aw_aload_n C dX2_moveOn_19 rfl rfl (q := 20) rfl ?_
    refine gfX2_31_2 (v := .ref (ad 1)) C dX2_moveOn_20 Z.1 rfl (q := 23) rfl ?_
    refine gfX2_48_1 (v := .int (I 3)) C dX2_moveOn_23 Kp.1 rfl (q := 26) rfl ?_
    refine aw_iload_n C dX2_moveOn_26 rfl rfl (q := 27) rfl ?_
    refine aw_isub C dX2_moveOn_27 (q := 28) rfl ?_
    refine aw_iload_n C dX2_moveOn_28 rfl rfl (q := 29) rfl ?_
    refine aw_iadd C dX2_moveOn_29 (q := 30) rfl ?_
    refine aw_icmp_ge (t := 82) (q := 33) C dX2_moveOn_30 (by decide) rfl (fun c_30 => ?_) (fun c_30 => ?_)
    ·
      refine aw_iinc (v := nI i - 1) (ls' := [.ref (ad 19), .int (nI sz), .int (nI i - 1), v3]) C dX2_moveOn_82 rfl (ni_m1 _) (by decide) rfl (q := 85) rfl ?_
      refine aw_goto (q := 4) C dX2_moveOn_85 (by decide) ?_
      refine ih _ (by omega) ?_
      rw [← hR]; conv => rhs; unfold rz_move
      rw [if_pos (by rw [← Kp.2.2.1]; exact c_30)]
    ·
      refine aw_aload_n C dX2_moveOn_33 rfl rfl (q := 34) rfl ?_
      refine gfX2_28_2 (v := .ref (ad 21)) C dX2_moveOn_34 Z.1 rfl (q := 37) rfl ?_
      refine aw_iload_n C dX2_moveOn_37 rfl rfl (q := 38) rfl ?_
      refine aw_dup2_11 C dX2_moveOn_38 rfl rfl (q := 39) rfl ?_
      refine ay_iald (j := i) C dX2_moveOn_39 Z.2.2 (vp_in_nI (by omega) (by decide)) (nI_clamp (by omega)) (q := 40) rfl ?_
      refine aw_iconst (v := 1) C dX2_moveOn_40 (by decide) (q := 41) rfl ?_
      refine aw_iadd C dX2_moveOn_41 (q := 42) rfl ?_
      refine ay_iast (j := i) C dX2_moveOn_42 Z.2.2 (vp_in_nI (by omega) (by decide)) (nI_clamp (by omega)) (q := 43) rfl ?_
      show aw G 4 M 43 [.ref (ad 19), .int (nI sz), .int (nI i), v3] [] (ac_up h (ad 21) (.inl (1, 10, .inl (upd pk i ((pk i) + 1))))) 0 0
      obtain ⟨h_1, eh_1⟩ : ∃ z, z = ac_up h (ad 21) (.inl (1, 10, .inl (upd pk i ((pk i) + 1)))) := ⟨_, rfl⟩
      rw [← eh_1]
      have f_2 : h_1 (ad 19) = some (.inr (2, [.ref (ad 1), .ref (ad 11), .ref (ad 20), .ref (ra), .int (chg), .ref (ad 21)])) := by rw [eh_1, ac_up_n _ _ (an 19 21 (by decide) (by decide) (by decide))]; exact Z.1
      have f_3 : h_1 (ad 20) = some (.inl (1, 1024, .inl (g))) := by rw [eh_1, ac_up_n _ _ (an 20 21 (by decide) (by decide) (by decide))]; exact Z.2.1
      have f_4 : h_1 (ad 1) = some (.inr (1, ob1 (pA ad) I)) := by rw [eh_1, ac_up_n _ _ (an 1 21 (by decide) (by decide) (by decide))]; exact Kp.1
      have f_5 : h_1 (ad 21) = some (.inl (1, 10, .inl (upd pk i ((pk i) + 1)))) := by rw [eh_1]; exact ac_up_s _ _ _
      have kp_6 : kp h h_1 [ad 21] := by rw [eh_1]; exact kp_up (kp_cons (ad 21) kp_rf) _ _ (by simp)
      refine aw_iload_n C dX2_moveOn_43 rfl rfl (q := 44) rfl ?_
      refine aw_iconst (v := 1) C dX2_moveOn_44 (by decide) (q := 45) rfl ?_
      refine aw_iadd C dX2_moveOn_45 (q := 46) rfl ?_
      rw [show nI i + 1 = nI (i + 1) from nI_1 i]
      refine aw_istore_n (ls' := [.ref (ad 19), .int (nI sz), .int (nI i), .int (nI (i + 1))]) C dX2_moveOn_46 rfl (by decide) rfl (q := 47) rfl ?_
      refine lp_moveFill an C E hsz (sz - (i + 1)) (i + 1) _ h_1 _ (by omega) (by omega) ⟨f_2, f_3, f_5⟩ kp_6 ?_
      rw [← hR]; unfold rz_move; rw [if_neg (by rw [← Kp.2.2.1]; exact c_30)]
set_option maxHeartbeats 4000000 in
set_option maxRecDepth 100000 in
theorem c_moveOn (G : ac_G) (l : Launch) (h : ac_H) (d : Nat) (ad : Nat → Nat) (an : inj ad 26) (ra : Nat) (chg : Int32) (g pk : Nat → Int32) (I : Nat → Int32) (F : Nat → Nat → Int32) (c : Nat) (sz : Nat) (Z : rz_ok h ad ra chg g pk) (Kp : pl_ok h (ad 1) (pA ad) I F c) (hsz : sz ≤ 10) : ac_Met G l yX2_moveOn cX2_moveOn 4 (some .boolean) (d + 1) 0 0 [.ref (ad 19), .int (nI sz)] h (fun r9 h9 => r9 = some (.int (pb_b ((rz_move c sz pk sz).1 = true))) ∧ rz_ok h9 ad ra chg g (rz_move c sz pk sz).2 ∧ kp h h9 ([21].map ad)) := by
  refine ac_of (ls := [.ref (ad 19), .int (nI sz), .retAddr 0, .retAddr 0]) (by decide +kernel) rfl (Nat.le_of_ble_eq_true rfl) (fun M hl C B E hnm => ?_)
  refine aw_iload_n C dX2_moveOn_0 rfl rfl (q := 1) rfl ?_
  refine aw_iconst (v := 1) C dX2_moveOn_1 (by decide) (q := 2) rfl ?_
  refine aw_isub C dX2_moveOn_2 (q := 3) rfl ?_
  refine aw_istore_n (ls' := [.ref (ad 19), .int (nI sz), .int ((nI sz) - 1), .retAddr 0]) C dX2_moveOn_3 rfl (by decide) rfl (q := 4) rfl ?_
  exact lp_moveOn (R := rz_move c sz pk sz) an C B E Z Kp hsz sz _ (Nat.le_refl _) rfl
