/-! The reference's printing: the text as a list -/
def gl (Bf : List Int32) (i : Nat) : Int32 := Bf.getD i 0
/-- the printed text is Bf -/
def pb_rep (s : md_S) (Bf : List Int32) : Prop := s.1 41 = nI Bf.length ∧ ∀ i, i < Bf.length → s.2.1 40 i = gl Bf i
def pb_Q (o : Nat) (md : Nat → Nat) (h : ac_H) (s : md_S) (Bf : List Int32) (r : Option Value) : Option Value → ac_H → Prop := fun r9 h9 => ∃ s' : md_S, r9 = r ∧ md_ok h9 o md s' ∧ pb_rep s' Bf ∧ md_eq [41] [40] [] s s' ∧ kp h h9 (md_L o md)
theorem gl_app (Bf : List Int32) (c : Int32) (i : Nat) (hi : i < (Bf ++ [c]).length) : gl (Bf ++ [c]) i = if i = Bf.length then c else gl Bf i := by
  rw [List.length_append, List.length_singleton] at hi
  unfold gl
  by_cases z : i = Bf.length
  · rw [if_pos z, z, List.getD_eq_getElem?_getD, List.getElem?_append_right (Nat.le_refl _), Nat.sub_self]; rfl
  · rw [if_neg z, List.getD_eq_getElem?_getD, List.getD_eq_getElem?_getD, List.getElem?_append_left (by omega)]
/-- c put in at place p -/
def pb_ins (Bf : List Int32) (p : Nat) (c : Int32) : List Int32 := Bf.take p ++ c :: Bf.drop p
theorem pb_ins_len (Bf : List Int32) (p : Nat) (c : Int32) (hp : p ≤ Bf.length) : (pb_ins Bf p c).length = Bf.length + 1 := by
  unfold pb_ins
  rw [List.length_append, List.length_cons, List.length_take, List.length_drop]; omega
theorem gl_ins (Bf : List Int32) (p : Nat) (c : Int32) (hp : p ≤ Bf.length) (i : Nat) : gl (pb_ins Bf p c) i = if i < p then gl Bf i else if i = p then c else gl Bf (i - 1) := by
  unfold gl pb_ins
  by_cases z : i < p
  · rw [if_pos z, List.getD_eq_getElem?_getD, List.getD_eq_getElem?_getD, List.getElem?_append_left (by rw [List.length_take]; omega), List.getElem?_take, if_pos z]
  · rw [if_neg z, List.getD_eq_getElem?_getD, List.getElem?_append_right (by rw [List.length_take]; omega), List.length_take, Nat.min_eq_left hp]
    by_cases y : i = p
    · rw [if_pos y, y, Nat.sub_self]; rfl
    · rw [if_neg y, List.getD_eq_getElem?_getD]
      obtain ⟨k, hk⟩ : ∃ k, i - p = k + 1 := ⟨i - p - 1, by omega⟩
      rw [hk, List.getElem?_cons_succ, List.getElem?_drop, show p + k = i - 1 by omega]
/-- the text while the places behind k are moved on -/
def pb_sh (f : Nat → Int32) (L k : Nat) : Nat → Int32 := fun i => if k < i ∧ i ≤ L then f (i - 1) else f i
theorem pb_sh_0 (f : Nat → Int32) (L : Nat) : pb_sh f L L = f := by
  funext i; unfold pb_sh; rw [if_neg (by omega)]
theorem pb_sh_s (f : Nat → Int32) {L k : Nat} (h : k < L) : upd (pb_sh f L (k + 1)) (k + 1) (pb_sh f L (k + 1) k) = pb_sh f L k := by
  funext i
  unfold upd pb_sh
  by_cases z : i = k + 1
  · rw [if_pos z, if_neg (by omega), if_pos (by omega), z, show k + 1 - 1 = k by omega]
  · rw [if_neg z]
    by_cases y : k + 1 < i ∧ i ≤ L
    · rw [if_pos y, if_pos (by omega)]
    · rw [if_neg y, if_neg (by omega)]
theorem nI_div {a b : Nat} (ha : a < 2 ^ 31) (hb : b < 2 ^ 31) (hb0 : 0 < b) : nI a / nI b = nI (a / b) := by
  apply Int32.toInt_inj.mp
  have h1 : a / b ≤ a := Nat.div_le_self a b
  have h0 : (0 : Int) ≤ ((a / b : Nat) : Int) := Int.natCast_nonneg _
  rw [Int32.toInt_div, nI_toInt ha, nI_toInt hb, nI_toInt (by omega), ← Int.ofNat_tdiv, eq_i32 (by omega) (by omega)]
theorem nI_subL {a b : Nat} (h : b ≤ a) : nI a - nI b = nI (a - b) := by
  rw [show nI a = nI (a - b) + nI b from by rw [nI_add, Nat.sub_add_cancel h], Int32.add_sub_cancel]
theorem nI_nz {b : Nat} (h0 : 0 < b) (hb : b < 2 ^ 31) : ¬ nI b = 0 := fun z => absurd ((nI_eq (a := b) (b := 0) hb (by decide)).mp z) (by omega)
theorem nI_mul (a b : Nat) : nI a * nI b = nI (a * b) := (Int32.ofNat_mul a b).symm
theorem nI_rem {a b : Nat} (ha : a < 2 ^ 31) (hb : b < 2 ^ 31) (hb0 : 0 < b) : nI a - nI a / nI b * nI b = nI (a % b) := by
  rw [nI_div ha hb hb0, nI_mul, nI_subL (Nat.div_mul_le_self a b)]
  congr 1
  have := Nat.div_add_mod a b
  rw [Nat.mul_comm] at this
  omega
set_option maxHeartbeats 4000000 in
set_option maxRecDepth 100000 in
theorem m_add (G : ac_G) (l : Launch) (o : Nat) (md : Nat → Nat) (hm : md_inj md) (h : ac_H) (d : Nat) (s : md_S) (K : md_ok h o md s) (Bf : List Int32) (R : pb_rep s Bf) (hB : Bf.length < 800) (c : Int32) : ac_Met G l yX9_add cX9_add 2 none d 0 0 [.ref o, .int c] h (pb_Q o md h s (Bf ++ [c]) none) := by
  refine ac_of (ls := [.ref o, .int c]) (by decide +kernel) rfl (Nat.le_of_ble_eq_true rfl) (fun M hl C B E hnm => ?_)
  refine aw_aload_n C dX9_add_0 rfl rfl (q := 1) rfl ?_
  refine gfX9_80_9 (v := .ref (md 40)) C dX9_add_1 K.1 rfl (q := 4) rfl ?_
  refine aw_aload_n C dX9_add_4 rfl rfl (q := 5) rfl ?_
  refine gfX9_168_9 (v := .int (s.1 41)) C dX9_add_5 K.1 rfl (q := 8) rfl ?_
  refine aw_iload_n C dX9_add_8 rfl rfl (q := 9) rfl ?_
  refine ay_iast (N := 800) (f := s.2.1 40) (j := Bf.length) C dX9_add_9 (K.2.1 40 (by decide)) (by rw [R.1]; exact vp_in_nI (by omega) (by decide)) (by rw [R.1]; exact nI_clamp (by omega)) (q := 10) rfl ?_
  show aw G 2 M 10 [.ref o, .int c] [] (ac_up h (md 40) (.inl (1, 800, .inl (upd (s.2.1 40) Bf.length c)))) 0 0
  obtain ⟨h_1, eh_1⟩ : ∃ z9, z9 = ac_up h (md 40) (.inl (1, 800, .inl (upd (s.2.1 40) Bf.length c))) := ⟨_, rfl⟩
  rw [← eh_1]
  have kpx_4 : kp h h_1 [md 40] := by rw [eh_1]; exact kp_up (kp_cons _ kp_rf) _ _ (by simp)
  have K_2 : md_ok h_1 o md (s.1, va_up s.2.1 40 (upd (s.2.1 40) Bf.length c), s.2.2) := md_A (s := (s.1, s.2.1, s.2.2)) hm K (j := 40) (by decide) (by rw [eh_1]; exact ac_up_s _ _ _) kpx_4
  have kq_3 : kp h h_1 (md_L o md) := kp_mono kpx_4 (md_sj (by decide))
  refine aw_aload_n C dX9_add_10 rfl rfl (q := 11) rfl ?_
  refine aw_dup C dX9_add_11 rfl (q := 12) rfl ?_
  refine gfX9_168_9 (v := .int (s.1 41)) C dX9_add_12 K_2.1 rfl (q := 15) rfl ?_
  refine aw_iconst (v := 1) C dX9_add_15 (by decide) (q := 16) rfl ?_
  refine aw_iadd C dX9_add_16 (q := 17) rfl ?_
  rw [show (s.1 41) + 1 = nI (Bf.length + 1) from by rw [R.1]; exact nI_1 _]
  refine pfX9_168_9 C dX9_add_17 K_2.1 rfl rfl (Nat.le_of_ble_eq_true rfl) (q := 20) rfl ?_
  show aw G 2 M 20 [.ref o, .int c] [] (ac_up h_1 o (.inr (9, md_fs md ((upd s.1 41 (nI (Bf.length + 1)), va_up s.2.1 40 (upd (s.2.1 40) Bf.length c), s.2.2).1)))) 0 0
  obtain ⟨h_5, eh_5⟩ : ∃ z9, z9 = ac_up h_1 o (.inr (9, md_fs md ((upd s.1 41 (nI (Bf.length + 1)), va_up s.2.1 40 (upd (s.2.1 40) Bf.length c), s.2.2).1))) := ⟨_, rfl⟩
  rw [← eh_5]
  have kpx_8 : kp h_1 h_5 [o] := by rw [eh_5]; exact kp_up (kp_cons o kp_rf) _ _ (by simp)
  have K_6 : md_ok h_5 o md (upd s.1 41 (nI (Bf.length + 1)), va_up s.2.1 40 (upd (s.2.1 40) Bf.length c), s.2.2) := md_J (s := (s.1, va_up s.2.1 40 (upd (s.2.1 40) Bf.length c), s.2.2)) K_2 (by rw [eh_5]; exact ac_up_s _ _ _) kpx_8
  have kq_7 : kp h h_5 (md_L o md) := kp_in kq_3 kpx_8 md_s0
  refine aw_vret C E dX9_add_20 (Nat.le_refl _) (Nat.le_refl _) ?_
  refine ⟨_, rfl, K_6, ⟨?_, fun i hi => ?_⟩, md_eq_J (s1 := (s.1, va_up s.2.1 40 (upd (s.2.1 40) Bf.length c), s.2.2)) (md_eq_A md_eq_rf _ (by decide)) _ (by decide), kq_7⟩
  · show nI (Bf.length + 1) = _
    rw [List.length_append]; rfl
  · show upd (s.2.1 40) Bf.length c i = _
    rw [gl_app Bf c i hi]
    unfold upd
    by_cases z : i = Bf.length
    · rw [if_pos z, if_pos z]
    · rw [if_neg z, if_neg z]; exact R.2 i (by rw [List.length_append, List.length_singleton] at hi; omega)
set_option maxHeartbeats 4000000 in
set_option maxRecDepth 100000 in
theorem ml_insert {G : ac_G} {M : ac_M} {o : Nat} {md : Nat → Nat} (hm : md_inj md) {h : ac_H} {s : md_S} {Bf : List Int32} {p : Nat} {c : Int32} (R : pb_rep s Bf) (hB : Bf.length < 800) (hp : p ≤ Bf.length) (C : ac_MC G RX9 cX9_insert 4 none M) (E : ac_End G (pb_Q o md h s (pb_ins Bf p c) none) 0 0 M) :
    ∀ (m k : Nat) (h1 : ac_H) (A1 : Nat → Nat → Int32), k = p + m → k ≤ Bf.length → md_ok h1 o md (s.1, A1, s.2.2) → kp h h1 (md_L o md) → A1 40 = pb_sh (s.2.1 40) Bf.length k → (∀ j, j ∉ [40] → A1 j = s.2.1 j) → aw G 4 M 5 [.ref o, .int (nI p), .int c, .int (nI k)] [] h1 0 0 := by
  intro m
  induction m with
  | zero =>
    intro k h1 A1 hk hkB K kq e1 e2
    have hk2 : k = p := by omega
    subst hk2
    refine aw_iload_n C dX9_insert_5 rfl rfl (q := 6) rfl ?_
    refine aw_iload_n C dX9_insert_6 rfl rfl (q := 7) rfl ?_
    refine aw_icmp_le (t := 30) (q := 10) C dX9_insert_7 (by decide) rfl (fun c_7 => ?_) (fun c_7 => absurd c_7 (fun z => z (nI_le (Nat.le_refl _) (by omega))))
    refine aw_aload_n C dX9_insert_30 rfl rfl (q := 31) rfl ?_
    refine gfX9_80_9 (v := .ref (md 40)) C dX9_insert_31 K.1 rfl (q := 34) rfl ?_
    refine aw_iload_n C dX9_insert_34 rfl rfl (q := 35) rfl ?_
    refine aw_iload_n C dX9_insert_35 rfl rfl (q := 36) rfl ?_
    refine ay_iast (N := 800) (f := A1 40) (j := k) C dX9_insert_36 (K.2.1 40 (by decide)) (vp_in_nI (by omega) (by decide)) (nI_clamp (by omega)) (q := 37) rfl ?_
    show aw G 4 M 37 [.ref o, .int (nI k), .int c, .int (nI k)] [] (ac_up h1 (md 40) (.inl (1, 800, .inl (upd (A1 40) k c)))) 0 0
    obtain ⟨h_1, eh_1⟩ : ∃ z9, z9 = ac_up h1 (md 40) (.inl (1, 800, .inl (upd (A1 40) k c))) := ⟨_, rfl⟩
    rw [← eh_1]
    have kpx_4 : kp h1 h_1 [md 40] := by rw [eh_1]; exact kp_up (kp_cons _ kp_rf) _ _ (by simp)
    have K_2 : md_ok h_1 o md (s.1, va_up A1 40 (upd (A1 40) k c), s.2.2) := md_A (s := (s.1, A1, s.2.2)) hm K (j := 40) (by decide) (by rw [eh_1]; exact ac_up_s _ _ _) kpx_4
    have kq_3 : kp h h_1 (md_L o md) := kp_in kq kpx_4 (md_sj (by decide))
    refine aw_aload_n C dX9_insert_37 rfl rfl (q := 38) rfl ?_
    refine aw_dup C dX9_insert_38 rfl (q := 39) rfl ?_
    refine gfX9_168_9 (v := .int (s.1 41)) C dX9_insert_39 K_2.1 rfl (q := 42) rfl ?_
    refine aw_iconst (v := 1) C dX9_insert_42 (by decide) (q := 43) rfl ?_
    refine aw_iadd C dX9_insert_43 (q := 44) rfl ?_
    rw [show (s.1 41) + 1 = nI (Bf.length + 1) from by rw [R.1]; exact nI_1 _]
    refine pfX9_168_9 C dX9_insert_44 K_2.1 rfl rfl (Nat.le_of_ble_eq_true rfl) (q := 47) rfl ?_
    show aw G 4 M 47 [.ref o, .int (nI k), .int c, .int (nI k)] [] (ac_up h_1 o (.inr (9, md_fs md ((upd s.1 41 (nI (Bf.length + 1)), va_up A1 40 (upd (A1 40) k c), s.2.2).1)))) 0 0
    obtain ⟨h_5, eh_5⟩ : ∃ z9, z9 = ac_up h_1 o (.inr (9, md_fs md ((upd s.1 41 (nI (Bf.length + 1)), va_up A1 40 (upd (A1 40) k c), s.2.2).1))) := ⟨_, rfl⟩
    rw [← eh_5]
    have kpx_8 : kp h_1 h_5 [o] := by rw [eh_5]; exact kp_up (kp_cons o kp_rf) _ _ (by simp)
    have K_6 : md_ok h_5 o md (upd s.1 41 (nI (Bf.length + 1)), va_up A1 40 (upd (A1 40) k c), s.2.2) := md_J (s := (s.1, va_up A1 40 (upd (A1 40) k c), s.2.2)) K_2 (by rw [eh_5]; exact ac_up_s _ _ _) kpx_8
    have kq_7 : kp h h_5 (md_L o md) := kp_in kq_3 kpx_8 md_s0
    refine aw_vret C E dX9_insert_47 (Nat.le_refl _) (Nat.le_refl _) ?_
    refine ⟨_, rfl, K_6, ⟨?_, fun i hi => ?_⟩, ⟨fun j hj => ?_, fun j hj => ?_, fun _ _ => rfl⟩, kq_7⟩
    · show nI (Bf.length + 1) = _
      rw [pb_ins_len Bf k c hp]
    · show upd (A1 40) k c i = _
      rw [gl_ins Bf k c hp i, e1]
      rw [pb_ins_len Bf k c hp] at hi
      unfold upd pb_sh
      by_cases z : i = k
      · rw [if_pos z, if_neg (by omega), if_pos z]
      · rw [if_neg z]
        by_cases y : i < k
        · rw [if_neg (by omega), if_pos y]; exact R.2 i (by omega)
        · rw [if_pos (by omega), if_neg y, if_neg z]; exact R.2 (i - 1) (by omega)
    · show upd s.1 41 _ j = _
      unfold upd; rw [if_neg (fun z => hj (by rw [z]; decide))]
    · show va_up A1 40 _ j = _
      unfold va_up; rw [if_neg (fun z => hj (by rw [z]; decide))]; exact e2 j hj
  | succ m ih =>
    intro k h1 A1 hk hkB K kq e1 e2
    obtain ⟨k', hk'⟩ : ∃ z, k = z + 1 := ⟨p + m, by omega⟩
    subst hk'
    refine aw_iload_n C dX9_insert_5 rfl rfl (q := 6) rfl ?_
    refine aw_iload_n C dX9_insert_6 rfl rfl (q := 7) rfl ?_
    refine aw_icmp_le (t := 30) (q := 10) C dX9_insert_7 (by decide) rfl (fun c_7 => absurd c_7 (fun z => absurd ((nI_leI (a := k' + 1) (b := p) (by omega) (by omega)).mp z) (by omega))) (fun c_7 => ?_)
    refine aw_aload_n C dX9_insert_10 rfl rfl (q := 11) rfl ?_
    refine gfX9_80_9 (v := .ref (md 40)) C dX9_insert_11 K.1 rfl (q := 14) rfl ?_
    refine aw_iload_n C dX9_insert_14 rfl rfl (q := 15) rfl ?_
    refine aw_aload_n C dX9_insert_15 rfl rfl (q := 16) rfl ?_
    refine gfX9_80_9 (v := .ref (md 40)) C dX9_insert_16 K.1 rfl (q := 19) rfl ?_
    refine aw_iload_n C dX9_insert_19 rfl rfl (q := 20) rfl ?_
    refine aw_iconst (v := 1) C dX9_insert_20 (by decide) (q := 21) rfl ?_
    refine aw_isub C dX9_insert_21 (q := 22) rfl ?_
    refine ay_iald (N := 800) (f := A1 40) (j := k') C dX9_insert_22 (K.2.1 40 (by decide)) (by rw [nI_pred]; exact vp_in_nI (by omega) (by decide)) (by rw [nI_pred]; exact nI_clamp (by omega)) (q := 23) rfl ?_
    refine ay_iast (N := 800) (f := A1 40) (j := k' + 1) C dX9_insert_23 (K.2.1 40 (by decide)) (vp_in_nI (by omega) (by decide)) (nI_clamp (by omega)) (q := 24) rfl ?_
    show aw G 4 M 24 [.ref o, .int (nI p), .int c, .int (nI (k' + 1))] [] (ac_up h1 (md 40) (.inl (1, 800, .inl (upd (A1 40) (k' + 1) ((A1 40) k'))))) 0 0
    obtain ⟨h_1, eh_1⟩ : ∃ z9, z9 = ac_up h1 (md 40) (.inl (1, 800, .inl (upd (A1 40) (k' + 1) ((A1 40) k')))) := ⟨_, rfl⟩
    rw [← eh_1]
    have kpx_4 : kp h1 h_1 [md 40] := by rw [eh_1]; exact kp_up (kp_cons _ kp_rf) _ _ (by simp)
    have K_2 : md_ok h_1 o md (s.1, va_up A1 40 (upd (A1 40) (k' + 1) ((A1 40) k')), s.2.2) := md_A (s := (s.1, A1, s.2.2)) hm K (j := 40) (by decide) (by rw [eh_1]; exact ac_up_s _ _ _) kpx_4
    have kq_3 : kp h h_1 (md_L o md) := kp_in kq kpx_4 (md_sj (by decide))
    refine aw_iinc (v := nI k') (ls' := [.ref o, .int (nI p), .int c, .int (nI k')]) C dX9_insert_24 rfl (nI_pred2 (a := k' + 1) (by omega)) (by decide) rfl (q := 27) rfl ?_
    refine aw_goto (q := 5) C dX9_insert_27 (by decide) ?_
    refine ih k' h_1 (va_up A1 40 (upd (A1 40) (k' + 1) (A1 40 k'))) (by omega) (by omega) K_2 kq_3 ?_ (fun j hj => ?_)
    · show upd (A1 40) (k' + 1) (A1 40 k') = _
      rw [e1]; exact pb_sh_s _ (by omega)
    · show va_up A1 40 _ j = _
      unfold va_up; rw [if_neg (fun z => hj (by rw [z]; decide))]; exact e2 j hj
set_option maxHeartbeats 4000000 in
set_option maxRecDepth 100000 in
theorem m_insert (G : ac_G) (l : Launch) (o : Nat) (md : Nat → Nat) (hm : md_inj md) (h : ac_H) (d : Nat) (s : md_S) (K : md_ok h o md s) (Bf : List Int32) (R : pb_rep s Bf) (hB : Bf.length < 800) (p : Nat) (hp : p ≤ Bf.length) (c : Int32) : ac_Met G l yX9_insert cX9_insert 4 none d 0 0 [.ref o, .int (nI p), .int c] h (pb_Q o md h s (pb_ins Bf p c) none) := by
  refine ac_of (ls := [.ref o, .int (nI p), .int c, .retAddr 0]) (by decide +kernel) rfl (Nat.le_of_ble_eq_true rfl) (fun M hl C B E hnm => ?_)
  refine aw_aload_n C dX9_insert_0 rfl rfl (q := 1) rfl ?_
  refine gfX9_168_9 (v := .int (s.1 41)) C dX9_insert_1 K.1 rfl (q := 4) rfl ?_
  rw [R.1]
  refine aw_istore_n (ls' := [.ref o, .int (nI p), .int c, .int (nI Bf.length)]) C dX9_insert_4 rfl (by decide) rfl (q := 5) rfl ?_
  exact ml_insert hm R hB hp C E (Bf.length - p) Bf.length h s.2.1 (by omega) (Nat.le_refl _) K (kp_mono kp_rf (by simp)) (pb_sh_0 _ _).symm (fun _ _ => rfl)
def pb_enc (Bf : List Int32) (p : Nat) : List Int32 := pb_ins Bf p 40 ++ [41]
set_option maxHeartbeats 4000000 in
set_option maxRecDepth 100000 in
theorem m_enclose (G : ac_G) (l : Launch) (o : Nat) (md : Nat → Nat) (hm : md_inj md) (h : ac_H) (d : Nat) (s : md_S) (K : md_ok h o md s) (Bf : List Int32) (R : pb_rep s Bf) (hB : Bf.length < 799) (p : Nat) (hp : p ≤ Bf.length) : ac_Met G l yX9_enclose cX9_enclose 2 none (d + 1) 0 0 [.ref o, .int (nI p)] h (pb_Q o md h s (pb_enc Bf p) none) := by
  refine ac_of (ls := [.ref o, .int (nI p)]) (by decide +kernel) rfl (Nat.le_of_ble_eq_true rfl) (fun M hl C B9 E hnm => ?_)
  refine aw_aload_n C dX9_enclose_0 rfl rfl (q := 1) rfl ?_
  refine aw_iload_n C dX9_enclose_1 rfl rfl (q := 2) rfl ?_
  refine aw_bipush (v := 40) C dX9_enclose_2 (by decide) (q := 4) rfl ?_
  refine cvX9_174_9 (As := [.int (nI p), .int 40]) (rest := []) C B9 dX9_enclose_4 K.1 (m_insert G M.2.1 o md hm h d s K Bf R (by omega) p hp 40) rfl rfl (Nat.le_of_ble_eq_true rfl) (by omega) (by omega) (by omega) (q := 7) rfl (fun r9 h_1 hr9 => ?_)
  obtain ⟨s_2, er9, K_3, R_4, F_5, kpx_7⟩ := hr9
  subst er9
  have F_6 : md_eq [41] [40] [] s s_2 := md_eq_tr md_eq_rf F_5 (by decide) (by decide) (by decide)
  have kq_8 : kp h h_1 (md_L o md) := kpx_7
  show aw G 2 M 7 [.ref o, .int (nI p)] [] h_1 0 0
  refine aw_aload_n C dX9_enclose_7 rfl rfl (q := 8) rfl ?_
  refine aw_bipush (v := 41) C dX9_enclose_8 (by decide) (q := 10) rfl ?_
  refine cvX9_171_9 (As := [.int 41]) (rest := []) C B9 dX9_enclose_10 K_3.1 (m_add G M.2.1 o md hm h_1 d s_2 K_3 (pb_ins Bf p 40) R_4 (by rw [pb_ins_len _ _ _ hp]; omega) 41) rfl rfl (Nat.le_of_ble_eq_true rfl) (by omega) (by omega) (by omega) (q := 13) rfl (fun r9 h_9 hr9 => ?_)
  obtain ⟨s_10, er9, K_11, R_12, F_13, kpx_15⟩ := hr9
  subst er9
  have F_14 : md_eq [41] [40] [] s s_10 := md_eq_tr F_6 F_13 (by decide) (by decide) (by decide)
  have kq_16 : kp h h_9 (md_L o md) := kp_in kq_8 kpx_15 (fun _ z => z)
  show aw G 2 M 13 [.ref o, .int (nI p)] [] h_9 0 0
  refine aw_vret C E dX9_enclose_13 (Nat.le_refl _) (Nat.le_refl _) ?_
  exact ⟨_, rfl, K_11, R_12, F_14, kq_16⟩
/-- the digits of N from place i - 1 down -/
def pr_dg (N : Nat) : Nat → List Int32
  | 0 => []
  | i + 1 => nI (48 + N / 10 ^ i % 10) :: pr_dg N i
/-- the first place j from j on at which one digit is left -/
def pr_jj (N : Nat) : Nat → Nat → Nat
  | 0, j => j
  | m + 1, j => if N / 10 ^ j ≤ 9 then j else pr_jj N m (j + 1)
def pr_num (N : Nat) : List Int32 := pr_dg N (pr_jj N 6 0 + 1)
theorem pr_jj_le {N : Nat} (hN : N < 1000000) : ∀ (m j : Nat), j + m = 6 → pr_jj N m j ≤ 5 ∨ j = 6 := by
  intro m
  induction m with
  | zero => intro j h; exact Or.inr (by omega)
  | succ m ih =>
    intro j h
    unfold pr_jj
    by_cases z : N / 10 ^ j ≤ 9
    · rw [if_pos z]; exact Or.inl (by omega)
    · rw [if_neg z]
      rcases ih (j + 1) (by omega) with y | y
      · exact Or.inl y
      · have e : j = 5 := by omega
        subst e
        exact absurd (by have : N / 10 ^ 5 < 10 := Nat.div_lt_of_lt_mul (by omega); omega) z
theorem pr_dg_len (N : Nat) : ∀ i, (pr_dg N i).length = i := by
  intro i
  induction i with
  | zero => rfl
  | succ i ih => unfold pr_dg; rw [List.length_cons, ih]
theorem pr_pow {j : Nat} (h : j ≤ 5) : 10 ^ j ≤ 100000 ∧ 0 < 10 ^ j := ⟨Nat.pow_le_pow_right (by decide) h, Nat.pow_pos (by decide)⟩
set_option maxHeartbeats 4000000 in
set_option maxRecDepth 100000 in
theorem ml_ten {G : ac_G} {M : ac_M} {o : Nat} {md : Nat → Nat} (hm : md_inj md) {h1 : ac_H} {N : Nat} (hN : N < 1000000) (C : ac_MC G RX9 cX9_addNumber 4 none M) :
    ∀ (m j : Nat) (v3 : Value), j + m = 6 → (kk : aw G 4 M 18 [.ref o, .int (nI N), .int (nI (10 ^ pr_jj N m j)), v3] [] h1 0 0) → aw G 4 M 2 [.ref o, .int (nI N), .int (nI (10 ^ j)), v3] [] h1 0 0 := by
  intro m
  induction m with
  | zero =>
    intro j v3 hj kk
    have hj6 : j = 6 := by omega
    subst hj6
    refine aw_iload_n C dX9_addNumber_2 rfl rfl (q := 3) rfl ?_
    refine aw_iload_n C dX9_addNumber_3 rfl rfl (q := 4) rfl ?_
    refine aw_idiv C dX9_addNumber_4 (by decide) (q := 5) rfl ?_
    rw [nI_div (by omega) (by decide) (by decide)]
    refine aw_bipush (v := 9) C dX9_addNumber_5 (by decide) (q := 7) rfl ?_
    refine aw_icmp_le (t := 18) (q := 10) C dX9_addNumber_7 (by decide) rfl (fun c_7 => ?_) (fun c_7 => absurd c_7 (fun z => z (nI_le (by have : N / 10 ^ 6 < 1 := Nat.div_lt_of_lt_mul (by omega); omega) (by decide))))
    exact kk
  | succ m ih =>
    intro j v3 hj kk
    have hpj := pr_pow (show j ≤ 5 by omega)
    have hd : N / 10 ^ j ≤ N := Nat.div_le_self _ _
    replace kk : aw G 4 M 18 [.ref o, .int (nI N), .int (nI (10 ^ (if N / 10 ^ j ≤ 9 then j else pr_jj N m (j + 1)))), v3] [] h1 0 0 := kk
    refine aw_iload_n C dX9_addNumber_2 rfl rfl (q := 3) rfl ?_
    refine aw_iload_n C dX9_addNumber_3 rfl rfl (q := 4) rfl ?_
    refine aw_idiv C dX9_addNumber_4 (nI_nz hpj.2 (by omega)) (q := 5) rfl ?_
    rw [nI_div (by omega) (by omega) hpj.2]
    refine aw_bipush (v := 9) C dX9_addNumber_5 (by decide) (q := 7) rfl ?_
    refine aw_icmp_le (t := 18) (q := 10) C dX9_addNumber_7 (by decide) rfl (fun c_7 => ?_) (fun c_7 => ?_)
    ·
      rw [if_pos ((nI_leI (a := N / 10 ^ j) (b := 9) (by omega) (by decide)).mp c_7)] at kk
      exact kk
    ·
      refine aw_bipush (v := 10) C dX9_addNumber_10 (by decide) (q := 12) rfl ?_
      refine aw_iload_n C dX9_addNumber_12 rfl rfl (q := 13) rfl ?_
      refine aw_imul C dX9_addNumber_13 (q := 14) rfl ?_
      rw [show (10 : Int32) * nI (10 ^ j) = nI (10 ^ (j + 1)) from by rw [show (10 : Int32) = nI 10 from rfl, nI_mul, Nat.pow_succ, Nat.mul_comm]]
      refine aw_istore_n (ls' := [.ref o, .int (nI N), .int (nI (10 ^ (j + 1))), v3]) C dX9_addNumber_14 rfl (by decide) rfl (q := 15) rfl ?_
      refine aw_goto (q := 2) C dX9_addNumber_15 (by decide) ?_
      rw [if_neg (fun z => c_7 (nI_le z (by decide)))] at kk
      exact ih (j + 1) v3 (by omega) kk
set_option maxHeartbeats 4000000 in
set_option maxRecDepth 100000 in
theorem ml_dig {G : ac_G} {M : ac_M} {o : Nat} {md : Nat → Nat} (hm : md_inj md) {h : ac_H} {d : Nat} {s : md_S} {N : Nat} {x2 : Int32} {Bf' : List Int32} (hN : N < 1000000) (C : ac_MC G RX9 cX9_addNumber 4 none M) (B9 : ac_Bd M (d + 1) 0 0) (E : ac_End G (pb_Q o md h s Bf' none) 0 0 M) :
    ∀ (i : Nat) (Bf : List Int32) (h1 : ac_H) (s1 : md_S), i ≤ 5 → md_ok h1 o md s1 → pb_rep s1 Bf → md_eq [41] [40] [] s s1 → kp h h1 (md_L o md) → Bf.length + i < 799 → Bf ++ pr_dg N (i + 1) = Bf' → aw G 4 M 20 [.ref o, .int (nI N), .int x2, .int (nI (10 ^ i))] [] h1 0 0 := by
  intro i
  induction i with
  | zero =>
    intro Bf h1 s1 hi K R F kq hB hB'
    have hd : N / 10 ^ 0 ≤ N := Nat.div_le_self _ _
    refine aw_iload_n C dX9_addNumber_20 rfl rfl (q := 21) rfl ?_
    refine aw_if_le (t := 45) (q := 24) C dX9_addNumber_21 (by decide) rfl (fun c_21 => absurd c_21 (by decide)) (fun c_21 => ?_)
    refine aw_aload_n C dX9_addNumber_24 rfl rfl (q := 25) rfl ?_
    refine aw_bipush (v := 48) C dX9_addNumber_25 (by decide) (q := 27) rfl ?_
    refine aw_iload_n C dX9_addNumber_27 rfl rfl (q := 28) rfl ?_
    refine aw_iload_n C dX9_addNumber_28 rfl rfl (q := 29) rfl ?_
    refine aw_idiv C dX9_addNumber_29 (by decide) (q := 30) rfl ?_
    refine aw_bipush (v := 10) C dX9_addNumber_30 (by decide) (q := 32) rfl ?_
    rw [nI_div (by omega) (by omega) (by decide)]
    refine aw_irem C dX9_addNumber_32 (by decide) (q := 33) rfl ?_
    rw [show nI (N / 10 ^ 0) - nI (N / 10 ^ 0) / 10 * 10 = nI (N / 10 ^ 0 % 10) from nI_rem (by omega) (by decide) (by decide)]
    refine aw_iadd C dX9_addNumber_33 (q := 34) rfl ?_
    rw [show (48 : Int32) + nI (N / 10 ^ 0 % 10) = nI (48 + N / 10 ^ 0 % 10) from by rw [show (48 : Int32) = nI 48 from rfl, nI_add]]
    refine cvX9_171_9 (As := [.int (nI (48 + N / 10 ^ 0 % 10))]) (rest := []) C B9 dX9_addNumber_34 K.1 (m_add G M.2.1 o md hm h1 d s1 K Bf R (by omega) (nI (48 + N / 10 ^ 0 % 10))) rfl rfl (Nat.le_of_ble_eq_true rfl) (by omega) (by omega) (by omega) (q := 37) rfl (fun r9 h_1 hr9 => ?_)
    obtain ⟨s_2, er9, K_3, R_4, F_5, kpx_7⟩ := hr9
    subst er9
    have F_6 : md_eq [41] [40] [] s s_2 := md_eq_tr F F_5 (by decide) (by decide) (by decide)
    have kq_8 : kp h h_1 (md_L o md) := kp_in kq kpx_7 (fun _ z => z)
    show aw G 4 M 37 [.ref o, .int (nI N), .int x2, .int (nI (10 ^ 0))] [] h_1 0 0
    refine aw_iload_n C dX9_addNumber_37 rfl rfl (q := 38) rfl ?_
    refine aw_bipush (v := 10) C dX9_addNumber_38 (by decide) (q := 40) rfl ?_
    refine aw_idiv C dX9_addNumber_40 (by decide) (q := 41) rfl ?_
    refine aw_istore_n (ls' := [.ref o, .int (nI N), .int x2, .int ((nI (10 ^ 0)) / 10)]) C dX9_addNumber_41 rfl (by decide) rfl (q := 42) rfl ?_
    refine aw_goto (q := 20) C dX9_addNumber_42 (by decide) ?_
    refine aw_iload_n C dX9_addNumber_20 rfl rfl (q := 21) rfl ?_
    refine aw_if_le (t := 45) (q := 24) C dX9_addNumber_21 (by decide) rfl (fun c_21 => ?_) (fun c_21 => absurd c_21 (by decide))
    refine aw_vret C E dX9_addNumber_45 (Nat.le_refl _) (Nat.le_refl _) ?_
    subst hB'
    exact ⟨_, rfl, K_3, R_4, F_6, kq_8⟩
  | succ i ih =>
    intro Bf h1 s1 hi K R F kq hB hB'
    have hpj := pr_pow (show i + 1 ≤ 5 from hi)
    have hd : N / 10 ^ (i + 1) ≤ N := Nat.div_le_self _ _
    refine aw_iload_n C dX9_addNumber_20 rfl rfl (q := 21) rfl ?_
    refine aw_if_le (t := 45) (q := 24) C dX9_addNumber_21 (by decide) rfl (fun c_21 => absurd c_21 (fun z => absurd ((nI_leI (a := 10 ^ (i + 1)) (b := 0) (by omega) (by decide)).mp z) (by omega))) (fun c_21 => ?_)
    refine aw_aload_n C dX9_addNumber_24 rfl rfl (q := 25) rfl ?_
    refine aw_bipush (v := 48) C dX9_addNumber_25 (by decide) (q := 27) rfl ?_
    refine aw_iload_n C dX9_addNumber_27 rfl rfl (q := 28) rfl ?_
    refine aw_iload_n C dX9_addNumber_28 rfl rfl (q := 29) rfl ?_
    refine aw_idiv C dX9_addNumber_29 (nI_nz hpj.2 (by omega)) (q := 30) rfl ?_
    refine aw_bipush (v := 10) C dX9_addNumber_30 (by decide) (q := 32) rfl ?_
    rw [nI_div (by omega) (by omega) hpj.2]
    refine aw_irem C dX9_addNumber_32 (by decide) (q := 33) rfl ?_
    rw [show nI (N / 10 ^ (i + 1)) - nI (N / 10 ^ (i + 1)) / 10 * 10 = nI (N / 10 ^ (i + 1) % 10) from nI_rem (by omega) (by decide) (by decide)]
    refine aw_iadd C dX9_addNumber_33 (q := 34) rfl ?_
    rw [show (48 : Int32) + nI (N / 10 ^ (i + 1) % 10) = nI (48 + N / 10 ^ (i + 1) % 10) from by rw [show (48 : Int32) = nI 48 from rfl, nI_add]]
    refine cvX9_171_9 (As := [.int (nI (48 + N / 10 ^ (i + 1) % 10))]) (rest := []) C B9 dX9_addNumber_34 K.1 (m_add G M.2.1 o md hm h1 d s1 K Bf R (by omega) (nI (48 + N / 10 ^ (i + 1) % 10))) rfl rfl (Nat.le_of_ble_eq_true rfl) (by omega) (by omega) (by omega) (q := 37) rfl (fun r9 h_1 hr9 => ?_)
    obtain ⟨s_2, er9, K_3, R_4, F_5, kpx_7⟩ := hr9
    subst er9
    have F_6 : md_eq [41] [40] [] s s_2 := md_eq_tr F F_5 (by decide) (by decide) (by decide)
    have kq_8 : kp h h_1 (md_L o md) := kp_in kq kpx_7 (fun _ z => z)
    show aw G 4 M 37 [.ref o, .int (nI N), .int x2, .int (nI (10 ^ (i + 1)))] [] h_1 0 0
    refine aw_iload_n C dX9_addNumber_37 rfl rfl (q := 38) rfl ?_
    refine aw_bipush (v := 10) C dX9_addNumber_38 (by decide) (q := 40) rfl ?_
    refine aw_idiv C dX9_addNumber_40 (by decide) (q := 41) rfl ?_
    rw [show nI (10 ^ (i + 1)) / 10 = nI (10 ^ i) from by rw [show (10 : Int32) = nI 10 from rfl, nI_div (by omega) (by decide) (by decide), Nat.pow_succ, Nat.mul_div_cancel _ (by decide)]]
    refine aw_istore_n (ls' := [.ref o, .int (nI N), .int x2, .int (nI (10 ^ i))]) C dX9_addNumber_41 rfl (by decide) rfl (q := 42) rfl ?_
    refine aw_goto (q := 20) C dX9_addNumber_42 (by decide) ?_
    exact ih _ h_1 s_2 (by omega) K_3 R_4 F_6 kq_8 (by rw [List.length_append, List.length_singleton]; omega) (by rw [← hB', List.append_assoc]; rfl)
set_option maxHeartbeats 4000000 in
set_option maxRecDepth 100000 in
theorem m_addNumber (G : ac_G) (l : Launch) (o : Nat) (md : Nat → Nat) (hm : md_inj md) (h : ac_H) (d : Nat) (s : md_S) (K : md_ok h o md s) (Bf : List Int32) (R : pb_rep s Bf) (hB : Bf.length < 780) (N : Nat) (hN : N < 1000000) : ac_Met G l yX9_addNumber cX9_addNumber 4 none (d + 1) 0 0 [.ref o, .int (nI N)] h (pb_Q o md h s (Bf ++ pr_num N) none) := by
  refine ac_of (ls := [.ref o, .int (nI N), .retAddr 0, .retAddr 0]) (by decide +kernel) rfl (Nat.le_of_ble_eq_true rfl) (fun M hl C B9 E hnm => ?_)
  refine aw_iconst (v := 1) C dX9_addNumber_0 (by decide) (q := 1) rfl ?_
  refine aw_istore_n (ls' := [.ref o, .int (nI N), .int 1, .retAddr 0]) C dX9_addNumber_1 rfl (by decide) rfl (q := 2) rfl ?_
  refine ml_ten hm hN C 6 0 _ rfl ?_
  refine aw_iload_n C dX9_addNumber_18 rfl rfl (q := 19) rfl ?_
  refine aw_istore_n (ls' := [.ref o, .int (nI N), .int (nI (10 ^ pr_jj N 6 0)), .int (nI (10 ^ pr_jj N 6 0))]) C dX9_addNumber_19 rfl (by decide) rfl (q := 20) rfl ?_
  exact ml_dig hm hN C B9 E (pr_jj N 6 0) Bf h s ((pr_jj_le hN 6 0 rfl).resolve_right (by decide)) K R md_eq_rf (kp_mono kp_rf (by simp)) (by have := (pr_jj_le hN 6 0 rfl).resolve_right (by decide); omega) rfl
