/-! Raiser.gradeWithout, findSet, fewest; Arrays.fill -/
def rz_gw (I : Nat → Int32) (F : Nat → Nat → Int32) (c : Nat) (T : ru_D) (ab : Int32) : Int32 := if ¬ ab < 0 ∧ ¬ 1024 ≤ ab then rz_gr I F c T ab (ru_cnt T) 0 else -1
abbrev ru_gs (T : ru_D) : Prop := ∀ r, r < ru_cnt T → ru_g T r ≠ -1
def rz_start : Nat → Nat → (Nat → Int32) → (Nat → Int32)
  | 0, _, pk => pk
  | m + 1, i, pk => rz_start m (i + 1) (upd pk i (nI i))
/-- the sets of one size, at most m more -/
def rz_find (I : Nat → Int32) (F : Nat → Nat → Int32) (c : Nat) (T : ru_D) (sz : Nat) (grade : Int32) : Nat → Bool → (Nat → Int32) → Bool × (Nat → Int32)
  | 0, _, pk => (false, pk)
  | _ + 1, false, pk => (false, pk)
  | m + 1, true, pk => if rz_gw I F c T (rz_bits pk sz) = grade then (true, pk) else rz_find I F c T sz grade m (rz_move c sz pk sz).1 (rz_move c sz pk sz).2
/-- the sizes from sz on, m more: the size (or -1), the picks -/
def rz_few (I : Nat → Int32) (F : Nat → Nat → Int32) (c : Nat) (T : ru_D) (grade : Int32) : Nat → Nat → (Nat → Int32) → Int32 × (Nat → Int32)
  | 0, _, pk => (-1, pk)
  | m + 1, sz, pk => if (rz_find I F c T sz grade 1024 true (rz_start sz 0 pk)).1 = true then (nI sz, (rz_find I F c T sz grade 1024 true (rz_start sz 0 pk)).2) else rz_few I F c T grade m (sz + 1) (rz_find I F c T sz grade 1024 true (rz_start sz 0 pk)).2
theorem rz_inv_up {I : Nat → Int32} {F : Nat → Nat → Int32} {c : Nat} {T : ru_D} {g g1 : Nat → Int32} {a : Nat} (hv : rz_inv I F c T g) (ho : ∀ b, b ≠ a → g1 b = g b) (ha : g1 a = rz_gr I F c T (nI a) (ru_cnt T) 0) : rz_inv I F c T g1 := by
  intro b hb
  by_cases e : b = a
  · rw [e]; exact Or.inr ha
  · rw [ho b e]; exact hv b hb
set_option maxHeartbeats 4000000 in
set_option maxRecDepth 100000 in
theorem lp_gwDone {G : ac_G} {M : ac_M} {h : ac_H} {d : Nat} {ad : Nat → Nat} {I : Nat → Int32} {F : Nat → Nat → Int32} {c : Nat} {rd : Nat → Nat} {T : ru_D} {chg : Int32} {g pk : Nat → Int32} {a : Nat} (an : inj ad 26) (dj : apart ad rd) (C : ac_MC G RX2 cX2_gradeWithout 3 (some .int) M) (B : ac_Bd M (d + 5) 0 0) (E : ac_End G (fun r9 h9 => r9 = some (.int (rz_gr I F c T (nI a) (ru_cnt T) 0)) ∧ (∃ g9, rz_ok h9 ad (rd 0) chg g9 pk ∧ rz_inv I F c T g9) ∧ (∃ s9 hd9 ca9, rk_ok h9 (ad 11) (ad 1) (ad 12) s9 hd9 ca9) ∧ kp h h9 ([20, 11, 12].map ad)) 0 0 M) (Kp0 : pl_ok h (ad 1) (pA ad) I F c) (U0 : ru_ok h rd T) (hw : ru_wf T) (hg : ru_gs T) (hv : rz_inv I F c T g) (ha : a < 1024) {h1 : ac_H} {r : Nat} {s : rk_S} {hd ca : Int32} {g1 : Nat → Int32} (hr : r ≤ ru_cnt T) (Z1 : rz_ok h1 ad (rd 0) chg g1 pk) (K1 : rk_ok h1 (ad 11) (ad 1) (ad 12) s hd ca) (kq1 : kp h h1 ([20, 11, 12].map ad)) (ho : ∀ b, b ≠ a → g1 b = g b) (hV : g1 a = rz_gr I F c T (nI a) (ru_cnt T) 0) (hne : g1 a ≠ -1) : aw G 3 M 32 [.ref (ad 19), .int (nI a), .int (nI r)] [] h1 0 0 := by
  obtain ⟨w1, w2, w3, w4⟩ := id hw
  have U1 := ru_kpA (L := [20, 11, 12]) dj U0 kq1 (by decide)
  refine aw_iload_n C dX2_gradeWithout_32 rfl rfl (q := 33) rfl ?_
  refine aw_aload_n C dX2_gradeWithout_33 rfl rfl (q := 34) rfl ?_
  refine gfX2_20_2 (v := .ref (rd 0)) C dX2_gradeWithout_34 Z1.1 rfl (q := 37) rfl ?_
  refine gfX2_69_6 (v := .int (nI (ru_cnt T))) C dX2_gradeWithout_37 U1.1 rfl (q := 40) rfl ?_
  refine aw_icmp_ge (t := 96) (q := 43) C dX2_gradeWithout_40 (by decide) rfl (fun c_40 => ?_) (fun c_40 => ?_)
  ·
    refine aw_aload_n C dX2_gradeWithout_96 rfl rfl (q := 97) rfl ?_
    refine gfX2_9_2 (v := .ref (ad 20)) C dX2_gradeWithout_97 Z1.1 rfl (q := 100) rfl ?_
    refine aw_iload_n C dX2_gradeWithout_100 rfl rfl (q := 101) rfl ?_
    refine ay_iald (j := a) C dX2_gradeWithout_101 Z1.2.1 (vp_in_nI (by omega) (by decide)) (nI_clamp (by omega)) (q := 102) rfl ?_
    refine aw_iret C E dX2_gradeWithout_102 (Nat.le_refl _) (Nat.le_refl _) ?_
    exact ⟨by rw [hV], ⟨g1, Z1, rz_inv_up hv ho hV⟩, ⟨_, _, _, K1⟩, kq1⟩
  ·
    refine aw_iload_n C dX2_gradeWithout_43 rfl rfl (q := 44) rfl ?_
    refine aw_bipush (v := 12) C dX2_gradeWithout_44 (by decide) (q := 46) rfl ?_
    refine aw_icmp_ge (t := 96) (q := 49) C dX2_gradeWithout_46 (by decide) rfl (fun c_46 => absurd c_46 (fun z => by have := ni_nle r (ru_cnt T) rfl rfl (by omega) (by omega) c_40; exact ni_nge r 12 rfl rfl (by omega) (by decide) (by omega) z)) (fun c_46 => ?_)
    refine aw_aload_n C dX2_gradeWithout_49 rfl rfl (q := 50) rfl ?_
    refine gfX2_9_2 (v := .ref (ad 20)) C dX2_gradeWithout_50 Z1.1 rfl (q := 53) rfl ?_
    refine aw_iload_n C dX2_gradeWithout_53 rfl rfl (q := 54) rfl ?_
    refine ay_iald (j := a) C dX2_gradeWithout_54 Z1.2.1 (vp_in_nI (by omega) (by decide)) (nI_clamp (by omega)) (q := 55) rfl ?_
    refine aw_iconst (v := (-1)) C dX2_gradeWithout_55 (by decide) (q := 56) rfl ?_
    refine aw_icmp_ne (t := 96) (q := 59) C dX2_gradeWithout_56 (by decide) rfl (fun c_56 => ?_) (fun c_56 => absurd c_56 (fun z => hne z))
    refine aw_aload_n C dX2_gradeWithout_96 rfl rfl (q := 97) rfl ?_
    refine gfX2_9_2 (v := .ref (ad 20)) C dX2_gradeWithout_97 Z1.1 rfl (q := 100) rfl ?_
    refine aw_iload_n C dX2_gradeWithout_100 rfl rfl (q := 101) rfl ?_
    refine ay_iald (j := a) C dX2_gradeWithout_101 Z1.2.1 (vp_in_nI (by omega) (by decide)) (nI_clamp (by omega)) (q := 102) rfl ?_
    refine aw_iret C E dX2_gradeWithout_102 (Nat.le_refl _) (Nat.le_refl _) ?_
    exact ⟨by rw [hV], ⟨g1, Z1, rz_inv_up hv ho hV⟩, ⟨_, _, _, K1⟩, kq1⟩
set_option maxHeartbeats 4000000 in
set_option maxRecDepth 100000 in
theorem lp_gradeWithout {G : ac_G} {M : ac_M} {h : ac_H} {d : Nat} {ad : Nat → Nat} {I : Nat → Int32} {F : Nat → Nat → Int32} {c : Nat} {rd : Nat → Nat} {T : ru_D} {chg : Int32} {g pk : Nat → Int32} {a : Nat} (an : inj ad 26) (dj : apart ad rd) (C : ac_MC G RX2 cX2_gradeWithout 3 (some .int) M) (B : ac_Bd M (d + 5) 0 0) (E : ac_End G (fun r9 h9 => r9 = some (.int (rz_gr I F c T (nI a) (ru_cnt T) 0)) ∧ (∃ g9, rz_ok h9 ad (rd 0) chg g9 pk ∧ rz_inv I F c T g9) ∧ (∃ s9 hd9 ca9, rk_ok h9 (ad 11) (ad 1) (ad 12) s9 hd9 ca9) ∧ kp h h9 ([20, 11, 12].map ad)) 0 0 M) (Kp0 : pl_ok h (ad 1) (pA ad) I F c) (U0 : ru_ok h rd T) (hw : ru_wf T) (hg : ru_gs T) (hv : rz_inv I F c T g) (ha : a < 1024) :
    ∀ (m r : Nat) (h1 : ac_H) (s : rk_S) (hd ca : Int32) (g1 : Nat → Int32), r + m = ru_cnt T → rz_ok h1 ad (rd 0) chg g1 pk → rk_ok h1 (ad 11) (ad 1) (ad 12) s hd ca → kp h h1 ([20, 11, 12].map ad) → (∀ b, b ≠ a → g1 b = g b) → g1 a = -1 → rz_gr I F c T (nI a) m r = rz_gr I F c T (nI a) (ru_cnt T) 0 → aw G 3 M 32 [.ref (ad 19), .int (nI a), .int (nI r)] [] h1 0 0 := by
  obtain ⟨w1, w2, w3, w4⟩ := id hw
  intro m
  induction m with
  | zero =>
    intro r h1 s hd ca g1 hi Z1 K1 kq1 ho h1a hR
    have U1 := ru_kpA (L := [20, 11, 12]) dj U0 kq1 (by decide)
    have hV : g1 a = rz_gr I F c T (nI a) (ru_cnt T) 0 := by rw [← hR, h1a]; rfl
    refine aw_iload_n C dX2_gradeWithout_32 rfl rfl (q := 33) rfl ?_
    refine aw_aload_n C dX2_gradeWithout_33 rfl rfl (q := 34) rfl ?_
    refine gfX2_20_2 (v := .ref (rd 0)) C dX2_gradeWithout_34 Z1.1 rfl (q := 37) rfl ?_
    refine gfX2_69_6 (v := .int (nI (ru_cnt T))) C dX2_gradeWithout_37 U1.1 rfl (q := 40) rfl ?_
    refine aw_icmp_ge (t := 96) (q := 43) C dX2_gradeWithout_40 (by decide) rfl (fun c_40 => ?_) (fun c_40 => absurd c_40 (fun z => z (nI_le (by omega) (by omega))))
    refine aw_aload_n C dX2_gradeWithout_96 rfl rfl (q := 97) rfl ?_
    refine gfX2_9_2 (v := .ref (ad 20)) C dX2_gradeWithout_97 Z1.1 rfl (q := 100) rfl ?_
    refine aw_iload_n C dX2_gradeWithout_100 rfl rfl (q := 101) rfl ?_
    refine ay_iald (j := a) C dX2_gradeWithout_101 Z1.2.1 (vp_in_nI (by omega) (by decide)) (nI_clamp (by omega)) (q := 102) rfl ?_
    refine aw_iret C E dX2_gradeWithout_102 (Nat.le_refl _) (Nat.le_refl _) ?_
    exact ⟨by rw [hV], ⟨g1, Z1, rz_inv_up hv ho hV⟩, ⟨_, _, _, K1⟩, kq1⟩
  | succ m ih =>
    intro r h1 s hd ca g1 hi Z1 K1 kq1 ho h1a hR
    have U1 := ru_kpA (L := [20, 11, 12]) dj U0 kq1 (by decide)
    refine aw_iload_n C dX2_gradeWithout_32 rfl rfl (q := 33) rfl ?_
    refine aw_aload_n C dX2_gradeWithout_33 rfl rfl (q := 34) rfl ?_
    refine gfX2_20_2 (v := .ref (rd 0)) C dX2_gradeWithout_34 Z1.1 rfl (q := 37) rfl ?_
    refine gfX2_69_6 (v := .int (nI (ru_cnt T))) C dX2_gradeWithout_37 U1.1 rfl (q := 40) rfl ?_
    refine aw_icmp_ge (t := 96) (q := 43) C dX2_gradeWithout_40 (by decide) rfl (fun c_40 => absurd c_40 (ni_nge r (ru_cnt T) rfl rfl (by omega) (by omega) (by omega))) (fun c_40 => ?_)
    refine aw_iload_n C dX2_gradeWithout_43 rfl rfl (q := 44) rfl ?_
    refine aw_bipush (v := 12) C dX2_gradeWithout_44 (by decide) (q := 46) rfl ?_
    refine aw_icmp_ge (t := 96) (q := 49) C dX2_gradeWithout_46 (by decide) rfl (fun c_46 => absurd c_46 (ni_nge r 12 rfl rfl (by omega) (by decide) (by omega))) (fun c_46 => ?_)
    refine aw_aload_n C dX2_gradeWithout_49 rfl rfl (q := 50) rfl ?_
    refine gfX2_9_2 (v := .ref (ad 20)) C dX2_gradeWithout_50 Z1.1 rfl (q := 53) rfl ?_
    refine aw_iload_n C dX2_gradeWithout_53 rfl rfl (q := 54) rfl ?_
    refine ay_iald (j := a) C dX2_gradeWithout_54 Z1.2.1 (vp_in_nI (by omega) (by decide)) (nI_clamp (by omega)) (q := 55) rfl ?_
    refine aw_iconst (v := (-1)) C dX2_gradeWithout_55 (by decide) (q := 56) rfl ?_
    refine aw_icmp_ne (t := 96) (q := 59) C dX2_gradeWithout_56 (by decide) rfl (fun c_56 => absurd c_56 (fun z => z h1a)) (fun c_56 => ?_)
    refine aw_aload_n C dX2_gradeWithout_59 rfl rfl (q := 60) rfl ?_
    refine gfX2_35_2 (v := .ref (ad 11)) C dX2_gradeWithout_60 Z1.1 rfl (q := 63) rfl ?_
    refine aw_aload_n C dX2_gradeWithout_63 rfl rfl (q := 64) rfl ?_
    refine gfX2_20_2 (v := .ref (rd 0)) C dX2_gradeWithout_64 Z1.1 rfl (q := 67) rfl ?_
    refine aw_iload_n C dX2_gradeWithout_67 rfl rfl (q := 68) rfl ?_
    refine aw_iload_n C dX2_gradeWithout_68 rfl rfl (q := 69) rfl ?_
    have Kp1 := pl_kpA (L := [20, 11, 12]) an Kp0 kq1 (by decide)
    refine cvX2_70_4 (As := [.ref (rd 0), .int (nI r), .int (nI a)]) (rest := []) C B dX2_gradeWithout_69 K1.1 (c_rule G M.2.1 h1 d (ad 11) (ad 1) (ad 12) s hd ca (pA ad) I F c rd T r (nI a) K1 Kp1 U1 hw (by omega)) rfl rfl (Nat.le_of_ble_eq_true rfl) (by omega) (by omega) (by omega) (q := 72) rfl (fun r9 h9 hr9 => ?_)
    obtain ⟨er9, ⟨s9, K9⟩, kp9⟩ := hr9
    subst er9
    have kq9 : kp h h9 ([20, 11, 12].map ad) := kp_mono (kp_tr kq1 kp9) (by intro z hz; simp only [List.mem_append, List.map_cons, List.map_nil, List.mem_cons, List.not_mem_nil, or_false] at hz ⊢; omega)
    have Z9 := rz_kpA (L := [11, 12]) an Z1 kp9 (by decide)
    have U9 := ru_kpA (L := [20, 11, 12]) dj U0 kq9 (by decide)
    show aw G 3 M 72 [.ref (ad 19), .int (nI a), .int (nI r)] [.int (pb_b ((rk_rule I F c (nI a) T r).1 = true))] h9 0 0
    refine aw_if_eq (t := 90) (q := 75) C dX2_gradeWithout_72 (by decide) rfl (fun c_72 => ?_) (fun c_72 => ?_)
    ·
      refine aw_iinc (v := nI (r + 1)) (ls' := [.ref (ad 19), .int (nI a), .int (nI (r + 1))]) C dX2_gradeWithout_90 rfl (nI_1 r) (by decide) rfl (q := 93) rfl ?_
      refine aw_goto (q := 32) C dX2_gradeWithout_93 (by decide) ?_
      refine ih (r + 1) h9 s9 _ _ g1 (by omega) Z9 K9 kq9 ho h1a ?_
      rw [← hR]; conv => rhs; unfold rz_gr
      rw [if_neg (pb_0.mp c_72)]
    ·
      refine aw_aload_n C dX2_gradeWithout_75 rfl rfl (q := 76) rfl ?_
      refine gfX2_9_2 (v := .ref (ad 20)) C dX2_gradeWithout_76 Z9.1 rfl (q := 79) rfl ?_
      refine aw_iload_n C dX2_gradeWithout_79 rfl rfl (q := 80) rfl ?_
      refine aw_aload_n C dX2_gradeWithout_80 rfl rfl (q := 81) rfl ?_
      refine gfX2_20_2 (v := .ref (rd 0)) C dX2_gradeWithout_81 Z9.1 rfl (q := 84) rfl ?_
      refine gfX2_76_6 (v := .ref (rd 1)) C dX2_gradeWithout_84 U9.1 rfl (q := 87) rfl ?_
      refine aw_iload_n C dX2_gradeWithout_87 rfl rfl (q := 88) rfl ?_
      refine ay_iald (j := r) C dX2_gradeWithout_88 U9.2.1 (vp_in_nI (by omega) (by decide)) (nI_clamp (by omega)) (q := 89) rfl ?_
      refine ay_iast (j := a) C dX2_gradeWithout_89 Z9.2.1 (vp_in_nI (by omega) (by decide)) (nI_clamp (by omega)) (q := 90) rfl ?_
      show aw G 3 M 90 [.ref (ad 19), .int (nI a), .int (nI r)] [] (ac_up h9 (ad 20) (.inl (1, 1024, .inl (upd g1 a ((ru_g T) r))))) 0 0
      obtain ⟨h_1, eh_1⟩ : ∃ z, z = ac_up h9 (ad 20) (.inl (1, 1024, .inl (upd g1 a ((ru_g T) r)))) := ⟨_, rfl⟩
      rw [← eh_1]
      have f_2 : h_1 (ad 19) = some (.inr (2, [.ref (ad 1), .ref (ad 11), .ref (ad 20), .ref (rd 0), .int (chg), .ref (ad 21)])) := by rw [eh_1, ac_up_n _ _ (an 19 20 (by decide) (by decide) (by decide))]; exact Z9.1
      have f_3 : h_1 (ad 21) = some (.inl (1, 10, .inl (pk))) := by rw [eh_1, ac_up_n _ _ (an 21 20 (by decide) (by decide) (by decide))]; exact Z9.2.2
      have f_4 : h_1 (ad 20) = some (.inl (1, 1024, .inl (upd g1 a ((ru_g T) r)))) := by rw [eh_1]; exact ac_up_s _ _ _
      have kp_5 : kp h h_1 [ad 20, ad 11, ad 12] := by rw [eh_1]; exact kp_up kq9 _ _ (by simp)
      refine aw_iinc (v := nI (r + 1)) (ls' := [.ref (ad 19), .int (nI a), .int (nI (r + 1))]) C dX2_gradeWithout_90 rfl (nI_1 r) (by decide) rfl (q := 93) rfl ?_
      refine aw_goto (q := 32) C dX2_gradeWithout_93 (by decide) ?_
      have hV : ru_g T r = rz_gr I F c T (nI a) (ru_cnt T) 0 := by rw [← hR]; unfold rz_gr; rw [if_pos (pb_n c_72)]
      have K8 := rk_kpA (L := [20]) an K9 (show kp h9 h_1 ([20].map ad) by rw [eh_1]; exact kp_up (kp_cons _ kp_rf) _ _ (by simp)) (by decide)
      refine lp_gwDone (g1 := upd g1 a (ru_g T r)) an dj C B E Kp0 U0 hw hg hv ha (by omega) ⟨f_2, f_4, f_3⟩ K8 kp_5 (fun b hb => by rw [pk_un hb]; exact ho b hb) (by rw [pk_us]; exact hV) (by rw [pk_us]; exact hg r (by omega))
set_option maxHeartbeats 4000000 in
set_option maxRecDepth 100000 in
theorem c_gradeWithout (G : ac_G) (l : Launch) (h : ac_H) (d : Nat) (ad : Nat → Nat) (an : inj ad 26) (chg : Int32) (g pk : Nat → Int32) (s : rk_S) (hd ca : Int32) (I : Nat → Int32) (F : Nat → Nat → Int32) (c : Nat) (rd : Nat → Nat) (T : ru_D) (dj : apart ad rd) (K : rk_ok h (ad 11) (ad 1) (ad 12) s hd ca) (Kp : pl_ok h (ad 1) (pA ad) I F c) (U : ru_ok h rd T) (hw : ru_wf T) (hg : ru_gs T) (Z : rz_ok h ad (rd 0) chg g pk) (hv : rz_inv I F c T g) (ab : Int32) : ac_Met G l yX2_gradeWithout cX2_gradeWithout 3 (some .int) (d + 5) 0 0 [.ref (ad 19), .int ab] h (fun r9 h9 => r9 = some (.int (rz_gw I F c T ab)) ∧ (∃ g9, rz_ok h9 ad (rd 0) chg g9 pk ∧ rz_inv I F c T g9) ∧ (∃ s9 hd9 ca9, rk_ok h9 (ad 11) (ad 1) (ad 12) s9 hd9 ca9) ∧ kp h h9 ([20, 11, 12].map ad)) := by
  refine ac_of (ls := [.ref (ad 19), .int ab, .retAddr 0]) (by decide +kernel) rfl (Nat.le_of_ble_eq_true rfl) (fun M hl C B E hnm => ?_)
  refine aw_iload_n C dX2_gradeWithout_0 rfl rfl (q := 1) rfl ?_
  refine aw_sipush (v := 1024) C dX2_gradeWithout_1 (by decide) (q := 4) rfl ?_
  refine csX2_66 (As := [.int ab, .int 1024]) (rest := []) C B dX2_gradeWithout_4 (c_isBelow G M.2.1 h d ab 1024) rfl rfl (Nat.le_of_ble_eq_true rfl) (by omega) (by omega) (by omega) (q := 7) rfl (fun r9 h9 hr9 => ?_)
  obtain ⟨e9, er9⟩ := hr9
  subst er9; rw [e9]
  show aw G 3 M 7 [.ref (ad 19), .int ab, .retAddr 0] [.int (pb_b (¬ ab < 0 ∧ ¬ 1024 ≤ ab))] h 0 0
  refine aw_if_ne (t := 12) (q := 10) C dX2_gradeWithout_7 (by decide) rfl (fun c_7 => ?_) (fun c_7 => ?_)
  ·
    obtain ⟨a, ha, rfl⟩ : ∃ a, a < 1024 ∧ ab = nI a := by
        have z := pb_n c_7
        obtain ⟨j, hj, e⟩ := nI_of z.1
        rw [e] at z
        exact ⟨j, ni_nle j 1024 rfl rfl hj (by decide) z.2, e⟩
    rw [show rz_gw I F c T (nI a) = rz_gr I F c T (nI a) (ru_cnt T) 0 by unfold rz_gw; rw [if_pos (pb_n c_7)]] at E
    refine aw_aload_n C dX2_gradeWithout_12 rfl rfl (q := 13) rfl ?_
    refine gfX2_9_2 (v := .ref (ad 20)) C dX2_gradeWithout_13 Z.1 rfl (q := 16) rfl ?_
    refine aw_iload_n C dX2_gradeWithout_16 rfl rfl (q := 17) rfl ?_
    refine ay_iald (j := a) C dX2_gradeWithout_17 Z.2.1 (vp_in_nI (by omega) (by decide)) (nI_clamp (by omega)) (q := 18) rfl ?_
    refine aw_bipush (v := (-2)) C dX2_gradeWithout_18 (by decide) (q := 20) rfl ?_
    refine aw_icmp_ne (t := 96) (q := 23) C dX2_gradeWithout_20 (by decide) rfl (fun c_20 => ?_) (fun c_20 => ?_)
    ·
      refine aw_aload_n C dX2_gradeWithout_96 rfl rfl (q := 97) rfl ?_
      refine gfX2_9_2 (v := .ref (ad 20)) C dX2_gradeWithout_97 Z.1 rfl (q := 100) rfl ?_
      refine aw_iload_n C dX2_gradeWithout_100 rfl rfl (q := 101) rfl ?_
      refine ay_iald (j := a) C dX2_gradeWithout_101 Z.2.1 (vp_in_nI (by omega) (by decide)) (nI_clamp (by omega)) (q := 102) rfl ?_
      refine aw_iret C E dX2_gradeWithout_102 (Nat.le_refl _) (Nat.le_refl _) ?_
      exact ⟨by rcases hv a ha with z | z; exact absurd z c_20; rw [z], ⟨g, Z, hv⟩, ⟨_, _, _, K⟩, kp_cons _ (kp_cons _ (kp_cons _ kp_rf))⟩
    ·
      refine aw_aload_n C dX2_gradeWithout_23 rfl rfl (q := 24) rfl ?_
      refine gfX2_9_2 (v := .ref (ad 20)) C dX2_gradeWithout_24 Z.1 rfl (q := 27) rfl ?_
      refine aw_iload_n C dX2_gradeWithout_27 rfl rfl (q := 28) rfl ?_
      refine aw_iconst (v := (-1)) C dX2_gradeWithout_28 (by decide) (q := 29) rfl ?_
      refine ay_iast (j := a) C dX2_gradeWithout_29 Z.2.1 (vp_in_nI (by omega) (by decide)) (nI_clamp (by omega)) (q := 30) rfl ?_
      show aw G 3 M 30 [.ref (ad 19), .int (nI a), .retAddr 0] [] (ac_up h (ad 20) (.inl (1, 1024, .inl (upd g a ((-1)))))) 0 0
      obtain ⟨h_1, eh_1⟩ : ∃ z, z = ac_up h (ad 20) (.inl (1, 1024, .inl (upd g a ((-1))))) := ⟨_, rfl⟩
      rw [← eh_1]
      have f_2 : h_1 (ad 19) = some (.inr (2, [.ref (ad 1), .ref (ad 11), .ref (ad 20), .ref (rd 0), .int (chg), .ref (ad 21)])) := by rw [eh_1, ac_up_n _ _ (an 19 20 (by decide) (by decide) (by decide))]; exact Z.1
      have f_3 : h_1 (ad 21) = some (.inl (1, 10, .inl (pk))) := by rw [eh_1, ac_up_n _ _ (an 21 20 (by decide) (by decide) (by decide))]; exact Z.2.2
      have f_4 : h_1 (ad 20) = some (.inl (1, 1024, .inl (upd g a ((-1))))) := by rw [eh_1]; exact ac_up_s _ _ _
      have kp_5 : kp h h_1 [ad 20] := by rw [eh_1]; exact kp_up (kp_cons (ad 20) kp_rf) _ _ (by simp)
      refine aw_iconst (v := 0) C dX2_gradeWithout_30 (by decide) (q := 31) rfl ?_
      refine aw_istore_n (ls' := [.ref (ad 19), .int (nI a), .int 0]) C dX2_gradeWithout_31 rfl (by decide) rfl (q := 32) rfl ?_
      have K8 := rk_kpA (L := [20]) an K kp_5 (by decide)
      exact lp_gradeWithout an dj C B E Kp U hw hg hv ha (ru_cnt T) 0 h_1 s hd ca _ (by omega) ⟨f_2, f_4, f_3⟩ K8 (kp_mono kp_5 (by simp)) (fun b hb => pk_un hb) pk_us rfl
  ·
    refine aw_iconst (v := (-1)) C dX2_gradeWithout_10 (by decide) (q := 11) rfl ?_
    refine aw_iret C E dX2_gradeWithout_11 (Nat.le_refl _) (Nat.le_refl _) ?_
    exact ⟨by unfold rz_gw; rw [if_neg (pb_0.mp c_7)], ⟨g, Z, hv⟩, ⟨_, _, _, K⟩, kp_cons _ (kp_cons _ (kp_cons _ kp_rf))⟩
