/-! WHAT STAYS: the cells of h that aren't listed are in h' as they were -/
def kp (h h' : ac_H) (L : List Nat) : Prop := ∀ (a : Nat) (e : ac_E), h a = some e → a ∉ L → h' a = some e
theorem kp_rf {h : ac_H} : kp h h [] := fun _ _ h1 _ => h1
theorem kp_cons {h h' : ac_H} {L : List Nat} (x : Nat) (k : kp h h' L) : kp h h' (x :: L) := fun a e h1 h2 => k a e h1 (fun z => h2 (List.mem_cons_of_mem _ z))
theorem kp_up {h h1 : ac_H} {L : List Nat} (k : kp h h1 L) (b : Nat) (e0 : ac_E) (hb : b ∈ L) : kp h (ac_up h1 b e0) L := by
  intro a e h2 h3
  rw [ac_up_n _ _ (fun z => h3 (by rw [z]; exact hb))]
  exact k a e h2 h3
theorem kp_tr {h h1 h2 : ac_H} {L L' : List Nat} (k : kp h h1 L) (k' : kp h1 h2 L') : kp h h2 (L ++ L') := fun a e z1 z2 => k' a e (k a e z1 (fun z => z2 (List.mem_append_left _ z))) (fun z => z2 (List.mem_append_right _ z))
theorem kp_mono {h h' : ac_H} {L L' : List Nat} (k : kp h h' L) (hL : ∀ a ∈ L, a ∈ L') : kp h h' L' := fun a e h1 h2 => k a e h1 (fun z => h2 (hL a z))
theorem ni0 {a : Nat} : a ∉ ([] : List Nat) := List.not_mem_nil
theorem ni1 {a x : Nat} {L : List Nat} (h : a ≠ x) (hL : a ∉ L) : a ∉ x :: L := fun z => (List.mem_cons.mp z).elim h hL
/-- fresh cells: h' may have made some -/
theorem kp_new {h h' : ac_H} {L : List Nat} {a : Nat} {e0 : ac_E} (hn : h a = none) (k : kp h h' L) : kp h (ac_up h' a e0) L := by
  intro b e h1 h2
  rw [ac_up_n _ _ (fun z => by rw [z, hn] at h1; cases h1)]
  exact k b e h1 h2
abbrev inj (ad : Nat → Nat) (N : Nat) : Prop := ∀ i j, i < N → j < N → i ≠ j → ad i ≠ ad j
/-! Math, over ints and longs -/
def mx_i (x y : Int32) : Int32 := if x < y then y else x
def mn_i (x y : Int32) : Int32 := if y < x then y else x
def mx_l (x y : Int64) : Int64 := if lg_cmp x y < 0 then y else x
def mn_l (x y : Int64) : Int64 := if 0 < lg_cmp x y then y else x
set_option maxHeartbeats 4000000 in
set_option maxRecDepth 100000 in
theorem c_maxi (G : ac_G) (l : Launch) (h : ac_H) (d : Nat) (x y : Int32) : ac_Met G l yJ9_max_7cf53 cJ9_max_7cf53 2 (some .int) d 0 0 [.int x, .int y] h (pq h (some (.int (mx_i x y)))) := by
  refine ac_of (ls := [.int x, .int y]) (by decide +kernel) rfl (Nat.le_of_ble_eq_true rfl) (fun M hl C B E hnm => ?_)
  refine aw_iload_n C dJ9_max_7cf53_0 rfl rfl (q := 1) rfl ?_
  refine aw_iload_n C dJ9_max_7cf53_1 rfl rfl (q := 2) rfl ?_
  refine aw_icmp_lt (t := 9) (q := 5) C dJ9_max_7cf53_2 (by decide) rfl (fun c_2 => ?_) (fun c_2 => ?_)
  ·
    refine aw_iload_n C dJ9_max_7cf53_9 rfl rfl (q := 10) rfl ?_
    refine aw_iret C E dJ9_max_7cf53_10 (Nat.le_refl _) (Nat.le_refl _) ?_
    exact ⟨rfl, by unfold mx_i; rw [if_pos c_2]⟩
  ·
    refine aw_iload_n C dJ9_max_7cf53_5 rfl rfl (q := 6) rfl ?_
    refine aw_goto (q := 10) C dJ9_max_7cf53_6 (by decide) ?_
    refine aw_iret C E dJ9_max_7cf53_10 (Nat.le_refl _) (Nat.le_refl _) ?_
    exact ⟨rfl, by unfold mx_i; rw [if_neg c_2]⟩
set_option maxHeartbeats 4000000 in
set_option maxRecDepth 100000 in
theorem c_maxl (G : ac_G) (l : Launch) (h : ac_H) (d : Nat) (x y : Int64) : ac_Met G l yJ9_max_f86c9 cJ9_max_f86c9 4 (some .long) d 0 0 [.long x, .long y] h (pq h (some (.long (mx_l x y)))) := by
  refine ac_of (ls := [.long x, .retAddr 0, .long y, .retAddr 0]) (by decide +kernel) rfl (Nat.le_of_ble_eq_true rfl) (fun M hl C B E hnm => ?_)
  refine aw_lload_n C dJ9_max_f86c9_0 rfl rfl (q := 1) rfl ?_
  refine aw_lload_n C dJ9_max_f86c9_1 rfl rfl (q := 2) rfl ?_
  refine aw_lcmp C dJ9_max_f86c9_2 (q := 3) rfl ?_
  refine aw_if_lt (t := 10) (q := 6) C dJ9_max_f86c9_3 (by decide) rfl (fun c_3 => ?_) (fun c_3 => ?_)
  ·
    refine aw_lload_n C dJ9_max_f86c9_10 rfl rfl (q := 11) rfl ?_
    refine aw_lret C E dJ9_max_f86c9_11 (Nat.le_refl _) (Nat.le_refl _) ?_
    exact ⟨rfl, by unfold mx_l; rw [if_pos c_3]⟩
  ·
    refine aw_lload_n C dJ9_max_f86c9_6 rfl rfl (q := 7) rfl ?_
    refine aw_goto (q := 11) C dJ9_max_f86c9_7 (by decide) ?_
    refine aw_lret C E dJ9_max_f86c9_11 (Nat.le_refl _) (Nat.le_refl _) ?_
    exact ⟨rfl, by unfold mx_l; rw [if_neg c_3]⟩
set_option maxHeartbeats 4000000 in
set_option maxRecDepth 100000 in
theorem c_mini (G : ac_G) (l : Launch) (h : ac_H) (d : Nat) (x y : Int32) : ac_Met G l yJ9_min_7cf53 cJ9_min_7cf53 2 (some .int) d 0 0 [.int x, .int y] h (pq h (some (.int (mn_i x y)))) := by
  refine ac_of (ls := [.int x, .int y]) (by decide +kernel) rfl (Nat.le_of_ble_eq_true rfl) (fun M hl C B E hnm => ?_)
  refine aw_iload_n C dJ9_min_7cf53_0 rfl rfl (q := 1) rfl ?_
  refine aw_iload_n C dJ9_min_7cf53_1 rfl rfl (q := 2) rfl ?_
  refine aw_icmp_gt (t := 9) (q := 5) C dJ9_min_7cf53_2 (by decide) rfl (fun c_2 => ?_) (fun c_2 => ?_)
  ·
    refine aw_iload_n C dJ9_min_7cf53_9 rfl rfl (q := 10) rfl ?_
    refine aw_iret C E dJ9_min_7cf53_10 (Nat.le_refl _) (Nat.le_refl _) ?_
    exact ⟨rfl, by unfold mn_i; rw [if_pos c_2]⟩
  ·
    refine aw_iload_n C dJ9_min_7cf53_5 rfl rfl (q := 6) rfl ?_
    refine aw_goto (q := 10) C dJ9_min_7cf53_6 (by decide) ?_
    refine aw_iret C E dJ9_min_7cf53_10 (Nat.le_refl _) (Nat.le_refl _) ?_
    exact ⟨rfl, by unfold mn_i; rw [if_neg c_2]⟩
set_option maxHeartbeats 4000000 in
set_option maxRecDepth 100000 in
theorem c_minl (G : ac_G) (l : Launch) (h : ac_H) (d : Nat) (x y : Int64) : ac_Met G l yJ9_min_f86c9 cJ9_min_f86c9 4 (some .long) d 0 0 [.long x, .long y] h (pq h (some (.long (mn_l x y)))) := by
  refine ac_of (ls := [.long x, .retAddr 0, .long y, .retAddr 0]) (by decide +kernel) rfl (Nat.le_of_ble_eq_true rfl) (fun M hl C B E hnm => ?_)
  refine aw_lload_n C dJ9_min_f86c9_0 rfl rfl (q := 1) rfl ?_
  refine aw_lload_n C dJ9_min_f86c9_1 rfl rfl (q := 2) rfl ?_
  refine aw_lcmp C dJ9_min_f86c9_2 (q := 3) rfl ?_
  refine aw_if_gt (t := 10) (q := 6) C dJ9_min_f86c9_3 (by decide) rfl (fun c_3 => ?_) (fun c_3 => ?_)
  ·
    refine aw_lload_n C dJ9_min_f86c9_10 rfl rfl (q := 11) rfl ?_
    refine aw_lret C E dJ9_min_f86c9_11 (Nat.le_refl _) (Nat.le_refl _) ?_
    exact ⟨rfl, by unfold mn_l; rw [if_pos c_3]⟩
  ·
    refine aw_lload_n C dJ9_min_f86c9_6 rfl rfl (q := 7) rfl ?_
    refine aw_goto (q := 11) C dJ9_min_f86c9_7 (by decide) ?_
    refine aw_lret C E dJ9_min_f86c9_11 (Nat.le_refl _) (Nat.le_refl _) ?_
    exact ⟨rfl, by unfold mn_l; rw [if_neg c_3]⟩
/-- the worst window, over the first i faults -/
def pl_worst (F : Nat → Nat → Int32) (kind : Int32) (sp : Int64) (part ab : Int32) (c : Nat) : Nat → Int64
  | 0 => 0
  | i + 1 => if F 6 i = kind ∧ pl_pres ab i then mx_l (pl_worst F kind sp part ab c i) (pl_win F (F 7 i) kind sp part ab c) else pl_worst F kind sp part ab c i
/-- n, a, s, e over the first i faults, from v on -/
def pl_meas (F : Nat → Nat → Int32) (w letter kind ab : Int32) (v : Int64) : Nat → Int64
  | 0 => v
  | i + 1 => if F 6 i = kind ∧ pl_pres ab i then (if letter = 110 then pl_meas F w letter kind ab v i + 1 else if letter = 97 then pl_meas F w letter kind ab v i + (F 9 i).toInt64 * (F 10 i).toInt64
      else if letter = 115 then mx_l (pl_meas F w letter kind ab v i) (mx_i (F 9 i) (F 10 i)).toInt64 else mn_l (pl_meas F w letter kind ab v i) (mn_i (F 8 i) (w - F 8 i - F 10 i)).toInt64) else pl_meas F w letter kind ab v i
def pl_measure (I : Nat → Int32) (F : Nat → Nat → Int32) (letter kind ab : Int32) (c : Nat) : Int64 :=
  if letter = 108 then (I 0).toInt64 else if letter = 119 then (I 1).toInt64 else if letter = 116 then (I 2).toInt64 else pl_meas F (I 1) letter kind ab (if letter = 101 then (I 1).toInt64 else 0) c
set_option maxHeartbeats 4000000 in
set_option maxRecDepth 100000 in
theorem lp_worstIn {G : ac_G} {M : ac_M} {p : Nat} {A : Nat → Nat} {I : Nat → Int32} {F : Nat → Nat → Int32} {c d : Nat} {h : ac_H} {kind part ab : Int32} {sp : Int64} (C : ac_MC G RX1 cX1_worstIn 9 (some .long) M) (B : ac_Bd M (d + 1) 0 0) (E : ac_End G (pq h (some (.long (pl_worst F kind sp part ab c c)))) 0 0 M) (K : pl_ok h p A I F c) :
    ∀ (nn i : Nat) (x6 : Int64), i ≤ c → c + 1 ≤ i + nn → x6 = pl_worst F kind sp part ab c i → aw G 9 M 6 [.ref p, .int kind, .long sp, .retAddr 0, .int part, .int ab, .long x6, .retAddr 0, .int (nI i)] [] h 0 0 := by
  obtain ⟨hp, hF, hI3, hc⟩ := id K
  intro nn
  induction nn with
  | zero => intro i x6 h1 h2; omega
  | succ nn ih =>
    intro i x6 hi hin h3
    refine aw_iload C dX1_worstIn_6 rfl (q := 8) rfl ?_
    refine aw_aload_n C dX1_worstIn_8 rfl rfl (q := 9) rfl ?_
    refine gfX1_43_1 (v := .int (I 3)) C dX1_worstIn_9 hp rfl (q := 12) rfl ?_
    refine aw_icmp_ge (t := 73) (q := 15) C dX1_worstIn_12 (by decide) rfl (fun c_12 => ?_) (fun c_12 => ?_)
    ·
      refine aw_lload C dX1_worstIn_73 rfl (q := 75) rfl ?_
      refine aw_lret C E dX1_worstIn_75 (Nat.le_refl _) (Nat.le_refl _) ?_
      have he : i = c := Nat.le_antisymm hi (ni_le i c rfl hI3 (by omega) (by omega) c_12)
      exact ⟨rfl, by rw [h3, he]⟩
    ·
      have hlt : i < c := ni_nle i c rfl hI3 (by omega) (by omega) c_12
      refine aw_iload C dX1_worstIn_15 rfl (q := 17) rfl ?_
      refine aw_bipush (v := 10) C dX1_worstIn_17 (by decide) (q := 19) rfl ?_
      refine aw_icmp_ge (t := 73) (q := 22) C dX1_worstIn_19 (by decide) rfl (fun c_19 => absurd c_19 (ni_nge i 10 rfl rfl (by omega) (by decide) (by omega))) (fun c_19 => ?_)
      refine aw_aload_n C dX1_worstIn_22 rfl rfl (q := 23) rfl ?_
      refine gfX1_15_1 (v := .ref (A 6)) C dX1_worstIn_23 hp rfl (q := 26) rfl ?_
      refine aw_iload C dX1_worstIn_26 rfl (q := 28) rfl ?_
      refine ay_iald (j := i) C dX1_worstIn_28 (hF 6 (by decide) (by decide)) (vp_in_nI (by omega) (by decide)) (nI_clamp (by omega)) (q := 29) rfl ?_
      refine aw_iload_n C dX1_worstIn_29 rfl rfl (q := 30) rfl ?_
      refine aw_icmp_ne (t := 67) (q := 33) C dX1_worstIn_30 (by decide) rfl (fun c_30 => ?_) (fun c_30 => ?_)
      ·
        refine aw_iinc (v := nI (i + 1)) (ls' := [.ref p, .int kind, .long sp, .retAddr 0, .int part, .int ab, .long x6, .retAddr 0, .int (nI (i + 1))]) C dX1_worstIn_67 rfl (nI_1 i) (by decide) rfl (q := 70) rfl ?_
        refine aw_goto (q := 6) C dX1_worstIn_70 (by decide) ?_
        refine ih (i + 1) _ hlt (by omega) ?_
        show _ = ite _ _ _
        rw [if_neg (fun z => c_30 z.1), ← h3]
      ·
        refine aw_iload C dX1_worstIn_33 rfl (q := 35) rfl ?_
        refine aw_iload C dX1_worstIn_35 rfl (q := 37) rfl ?_
        refine aw_iushr C dX1_worstIn_37 (q := 38) rfl ?_
        refine aw_iconst (v := 1) C dX1_worstIn_38 (by decide) (q := 39) rfl ?_
        refine aw_iand C dX1_worstIn_39 (q := 40) rfl ?_
        refine aw_if_ne (t := 67) (q := 43) C dX1_worstIn_40 (by decide) rfl (fun c_40 => ?_) (fun c_40 => ?_)
        ·
          refine aw_iinc (v := nI (i + 1)) (ls' := [.ref p, .int kind, .long sp, .retAddr 0, .int part, .int ab, .long x6, .retAddr 0, .int (nI (i + 1))]) C dX1_worstIn_67 rfl (nI_1 i) (by decide) rfl (q := 70) rfl ?_
          refine aw_goto (q := 6) C dX1_worstIn_70 (by decide) ?_
          refine ih (i + 1) _ hlt (by omega) ?_
          show _ = ite _ _ _
          rw [if_neg (fun z => c_40 z.2), ← h3]
        ·
          refine aw_lload C dX1_worstIn_43 rfl (q := 45) rfl ?_
          refine aw_aload_n C dX1_worstIn_45 rfl rfl (q := 46) rfl ?_
          refine aw_aload_n C dX1_worstIn_46 rfl rfl (q := 47) rfl ?_
          refine gfX1_18_1 (v := .ref (A 7)) C dX1_worstIn_47 hp rfl (q := 50) rfl ?_
          refine aw_iload C dX1_worstIn_50 rfl (q := 52) rfl ?_
          refine ay_iald (j := i) C dX1_worstIn_52 (hF 7 (by decide) (by decide)) (vp_in_nI (by omega) (by decide)) (nI_clamp (by omega)) (q := 53) rfl ?_
          refine aw_iload_n C dX1_worstIn_53 rfl rfl (q := 54) rfl ?_
          refine aw_lload_n C dX1_worstIn_54 rfl rfl (q := 55) rfl ?_
          refine aw_iload C dX1_worstIn_55 rfl (q := 57) rfl ?_
          refine aw_iload C dX1_worstIn_57 rfl (q := 59) rfl ?_
          refine cvX1_64_1 (As := [.int ((F 7) i), .int kind, .long sp, .int part, .int ab]) (rest := [.long x6]) C B dX1_worstIn_59 hp (c_inWindow G M.2.1 h d p A I F c ((F 7) i) kind part ab sp K) rfl rfl (Nat.le_of_ble_eq_true rfl) (by omega) (by omega) (by omega) (q := 62) rfl (fun r9 h9 hr9 => ?_)
          obtain ⟨e9, er9⟩ := hr9
          subst er9; rw [e9]
          show aw G 9 M 62 [.ref p, .int kind, .long sp, .retAddr 0, .int part, .int ab, .long x6, .retAddr 0, .int (nI i)] [.long (pl_win F ((F 7) i) kind sp part ab c), .long x6] h 0 0
          refine csX1_56 (As := [.long x6, .long (pl_win F ((F 7) i) kind sp part ab c)]) (rest := []) C B dX1_worstIn_62 (c_maxl G M.2.1 h d x6 (pl_win F ((F 7) i) kind sp part ab c)) rfl rfl (Nat.le_of_ble_eq_true rfl) (by omega) (by omega) (by omega) (q := 65) rfl (fun r9 h9 hr9 => ?_)
          obtain ⟨e9, er9⟩ := hr9
          subst er9; rw [e9]
          show aw G 9 M 65 [.ref p, .int kind, .long sp, .retAddr 0, .int part, .int ab, .long x6, .retAddr 0, .int (nI i)] [.long (mx_l x6 (pl_win F ((F 7) i) kind sp part ab c))] h 0 0
          refine aw_lstore (ls' := [.ref p, .int kind, .long sp, .retAddr 0, .int part, .int ab, .long (mx_l x6 (pl_win F ((F 7) i) kind sp part ab c)), .retAddr 0, .int (nI i)]) C dX1_worstIn_65 (by decide) rfl (q := 67) rfl ?_
          refine aw_iinc (v := nI (i + 1)) (ls' := [.ref p, .int kind, .long sp, .retAddr 0, .int part, .int ab, .long (mx_l x6 (pl_win F ((F 7) i) kind sp part ab c)), .retAddr 0, .int (nI (i + 1))]) C dX1_worstIn_67 rfl (nI_1 i) (by decide) rfl (q := 70) rfl ?_
          refine aw_goto (q := 6) C dX1_worstIn_70 (by decide) ?_
          refine ih (i + 1) _ hlt (by omega) ?_
          show _ = ite _ _ _
          rw [if_pos ⟨c_30, c_40⟩, ← h3]
set_option maxHeartbeats 4000000 in
set_option maxRecDepth 100000 in
theorem c_worstIn (G : ac_G) (l : Launch) (h : ac_H) (d : Nat) (p : Nat) (A : Nat → Nat) (I : Nat → Int32) (F : Nat → Nat → Int32) (c : Nat) (kind part ab : Int32) (sp : Int64) (K : pl_ok h p A I F c) : ac_Met G l yX1_worstIn cX1_worstIn 9 (some .long) (d + 1) 0 0 [.ref p, .int kind, .long sp, .int part, .int ab] h (pq h (some (.long (pl_worst F kind sp part ab c c)))) := by
  refine ac_of (ls := [.ref p, .int kind, .long sp, .retAddr 0, .int part, .int ab, .retAddr 0, .retAddr 0, .retAddr 0]) (by decide +kernel) rfl (Nat.le_of_ble_eq_true rfl) (fun M hl C B E hnm => ?_)
  refine aw_lconst (v := 0) C dX1_worstIn_0 (by decide) (q := 1) rfl ?_
  refine aw_lstore (ls' := [.ref p, .int kind, .long sp, .retAddr 0, .int part, .int ab, .long 0, .retAddr 0, .retAddr 0]) C dX1_worstIn_1 (by decide) rfl (q := 3) rfl ?_
  refine aw_iconst (v := 0) C dX1_worstIn_3 (by decide) (q := 4) rfl ?_
  refine aw_istore (ls' := [.ref p, .int kind, .long sp, .retAddr 0, .int part, .int ab, .long 0, .retAddr 0, .int 0]) C dX1_worstIn_4 (by decide) rfl (q := 6) rfl ?_
  exact lp_worstIn C B E K (c + 1) 0 0 (Nat.zero_le _) (by omega) rfl
set_option maxHeartbeats 4000000 in
set_option maxRecDepth 100000 in
theorem lp_measure {G : ac_G} {M : ac_M} {p : Nat} {A : Nat → Nat} {I : Nat → Int32} {F : Nat → Nat → Int32} {c d : Nat} {h : ac_H} {letter kind ab : Int32} {v0 : Int64} (C : ac_MC G RX1 cX1_measure 7 (some .long) M) (B : ac_Bd M (d + 1) 0 0) (E : ac_End G (pq h (some (.long (pl_meas F (I 1) letter kind ab v0 c)))) 0 0 M) (K : pl_ok h p A I F c) :
    ∀ (nn i : Nat) (x4 : Int64), i ≤ c → c + 1 ≤ i + nn → x4 = pl_meas F (I 1) letter kind ab v0 i → aw G 7 M 56 [.ref p, .int letter, .int kind, .int ab, .long x4, .retAddr 0, .int (nI i)] [] h 0 0 := by
  obtain ⟨hp, hF, hI3, hc⟩ := id K
  intro nn
  induction nn with
  | zero => intro i x4 h1 h2; omega
  | succ nn ih =>
    intro i x4 hi hin h3
    refine aw_iload C dX1_measure_56 rfl (q := 58) rfl ?_
    refine aw_aload_n C dX1_measure_58 rfl rfl (q := 59) rfl ?_
    refine gfX1_43_1 (v := .int (I 3)) C dX1_measure_59 hp rfl (q := 62) rfl ?_
    refine aw_icmp_ge (t := 219) (q := 65) C dX1_measure_62 (by decide) rfl (fun c_62 => ?_) (fun c_62 => ?_)
    ·
      refine aw_lload C dX1_measure_219 rfl (q := 221) rfl ?_
      refine aw_lret C E dX1_measure_221 (Nat.le_refl _) (Nat.le_refl _) ?_
      have he : i = c := Nat.le_antisymm hi (ni_le i c rfl hI3 (by omega) (by omega) c_62)
      exact ⟨rfl, by rw [h3, he]⟩
    ·
      have hlt : i < c := ni_nle i c rfl hI3 (by omega) (by omega) c_62
      refine aw_iload C dX1_measure_65 rfl (q := 67) rfl ?_
      refine aw_bipush (v := 10) C dX1_measure_67 (by decide) (q := 69) rfl ?_
      refine aw_icmp_ge (t := 219) (q := 72) C dX1_measure_69 (by decide) rfl (fun c_69 => absurd c_69 (ni_nge i 10 rfl rfl (by omega) (by decide) (by omega))) (fun c_69 => ?_)
      refine aw_aload_n C dX1_measure_72 rfl rfl (q := 73) rfl ?_
      refine gfX1_15_1 (v := .ref (A 6)) C dX1_measure_73 hp rfl (q := 76) rfl ?_
      refine aw_iload C dX1_measure_76 rfl (q := 78) rfl ?_
      refine ay_iald (j := i) C dX1_measure_78 (hF 6 (by decide) (by decide)) (vp_in_nI (by omega) (by decide)) (nI_clamp (by omega)) (q := 79) rfl ?_
      refine aw_iload_n C dX1_measure_79 rfl rfl (q := 80) rfl ?_
      refine aw_icmp_ne (t := 213) (q := 83) C dX1_measure_80 (by decide) rfl (fun c_80 => ?_) (fun c_80 => ?_)
      ·
        refine aw_iinc (v := nI (i + 1)) (ls' := [.ref p, .int letter, .int kind, .int ab, .long x4, .retAddr 0, .int (nI (i + 1))]) C dX1_measure_213 rfl (nI_1 i) (by decide) rfl (q := 216) rfl ?_
        refine aw_goto (q := 56) C dX1_measure_216 (by decide) ?_
        refine ih (i + 1) _ hlt (by omega) ?_
        show _ = ite _ _ _
        rw [if_neg (fun z => c_80 z.1), ← h3]
      ·
        refine aw_iload_n C dX1_measure_83 rfl rfl (q := 84) rfl ?_
        refine aw_iload C dX1_measure_84 rfl (q := 86) rfl ?_
        refine aw_iushr C dX1_measure_86 (q := 87) rfl ?_
        refine aw_iconst (v := 1) C dX1_measure_87 (by decide) (q := 88) rfl ?_
        refine aw_iand C dX1_measure_88 (q := 89) rfl ?_
        refine aw_if_eq (t := 95) (q := 92) C dX1_measure_89 (by decide) rfl (fun c_89 => ?_) (fun c_89 => ?_)
        ·
          refine aw_iload_n C dX1_measure_95 rfl rfl (q := 96) rfl ?_
          refine aw_bipush (v := 110) C dX1_measure_96 (by decide) (q := 98) rfl ?_
          refine aw_icmp_ne (t := 110) (q := 101) C dX1_measure_98 (by decide) rfl (fun c_98 => ?_) (fun c_98 => ?_)
          ·
            refine aw_iload_n C dX1_measure_110 rfl rfl (q := 111) rfl ?_
            refine aw_bipush (v := 97) C dX1_measure_111 (by decide) (q := 113) rfl ?_
            refine aw_icmp_ne (t := 141) (q := 116) C dX1_measure_113 (by decide) rfl (fun c_113 => ?_) (fun c_113 => ?_)
            ·
              refine aw_iload_n C dX1_measure_141 rfl rfl (q := 142) rfl ?_
              refine aw_bipush (v := 115) C dX1_measure_142 (by decide) (q := 144) rfl ?_
              refine aw_icmp_ne (t := 175) (q := 147) C dX1_measure_144 (by decide) rfl (fun c_144 => ?_) (fun c_144 => ?_)
              ·
                refine aw_lload C dX1_measure_175 rfl (q := 177) rfl ?_
                refine aw_aload_n C dX1_measure_177 rfl rfl (q := 178) rfl ?_
                refine gfX1_21_1 (v := .ref (A 8)) C dX1_measure_178 hp rfl (q := 181) rfl ?_
                refine aw_iload C dX1_measure_181 rfl (q := 183) rfl ?_
                refine ay_iald (j := i) C dX1_measure_183 (hF 8 (by decide) (by decide)) (vp_in_nI (by omega) (by decide)) (nI_clamp (by omega)) (q := 184) rfl ?_
                refine aw_aload_n C dX1_measure_184 rfl rfl (q := 185) rfl ?_
                refine gfX1_34_1 (v := .int (I 1)) C dX1_measure_185 hp rfl (q := 188) rfl ?_
                refine aw_aload_n C dX1_measure_188 rfl rfl (q := 189) rfl ?_
                refine gfX1_21_1 (v := .ref (A 8)) C dX1_measure_189 hp rfl (q := 192) rfl ?_
                refine aw_iload C dX1_measure_192 rfl (q := 194) rfl ?_
                refine ay_iald (j := i) C dX1_measure_194 (hF 8 (by decide) (by decide)) (vp_in_nI (by omega) (by decide)) (nI_clamp (by omega)) (q := 195) rfl ?_
                refine aw_isub C dX1_measure_195 (q := 196) rfl ?_
                refine aw_aload_n C dX1_measure_196 rfl rfl (q := 197) rfl ?_
                refine gfX1_27_1 (v := .ref (A 10)) C dX1_measure_197 hp rfl (q := 200) rfl ?_
                refine aw_iload C dX1_measure_200 rfl (q := 202) rfl ?_
                refine ay_iald (j := i) C dX1_measure_202 (hF 10 (by decide) (by decide)) (vp_in_nI (by omega) (by decide)) (nI_clamp (by omega)) (q := 203) rfl ?_
                refine aw_isub C dX1_measure_203 (q := 204) rfl ?_
                refine csX1_59 (As := [.int ((F 8) i), .int (((I 1) - ((F 8) i)) - ((F 10) i))]) (rest := [.long x4]) C B dX1_measure_204 (c_mini G M.2.1 h d ((F 8) i) (((I 1) - ((F 8) i)) - ((F 10) i))) rfl rfl (Nat.le_of_ble_eq_true rfl) (by omega) (by omega) (by omega) (q := 207) rfl (fun r9 h9 hr9 => ?_)
                obtain ⟨e9, er9⟩ := hr9
                subst er9; rw [e9]
                show aw G 7 M 207 [.ref p, .int letter, .int kind, .int ab, .long x4, .retAddr 0, .int (nI i)] [.int (mn_i ((F 8) i) (((I 1) - ((F 8) i)) - ((F 10) i))), .long x4] h 0 0
                refine aw_i2l C dX1_measure_207 (q := 208) rfl ?_
                refine csX1_62 (As := [.long x4, .long ((mn_i ((F 8) i) (((I 1) - ((F 8) i)) - ((F 10) i))).toInt64)]) (rest := []) C B dX1_measure_208 (c_minl G M.2.1 h d x4 ((mn_i ((F 8) i) (((I 1) - ((F 8) i)) - ((F 10) i))).toInt64)) rfl rfl (Nat.le_of_ble_eq_true rfl) (by omega) (by omega) (by omega) (q := 211) rfl (fun r9 h9 hr9 => ?_)
                obtain ⟨e9, er9⟩ := hr9
                subst er9; rw [e9]
                show aw G 7 M 211 [.ref p, .int letter, .int kind, .int ab, .long x4, .retAddr 0, .int (nI i)] [.long (mn_l x4 ((mn_i ((F 8) i) (((I 1) - ((F 8) i)) - ((F 10) i))).toInt64))] h 0 0
                refine aw_lstore (ls' := [.ref p, .int letter, .int kind, .int ab, .long (mn_l x4 ((mn_i ((F 8) i) (((I 1) - ((F 8) i)) - ((F 10) i))).toInt64)), .retAddr 0, .int (nI i)]) C dX1_measure_211 (by decide) rfl (q := 213) rfl ?_
                refine aw_iinc (v := nI (i + 1)) (ls' := [.ref p, .int letter, .int kind, .int ab, .long (mn_l x4 ((mn_i ((F 8) i) (((I 1) - ((F 8) i)) - ((F 10) i))).toInt64)), .retAddr 0, .int (nI (i + 1))]) C dX1_measure_213 rfl (nI_1 i) (by decide) rfl (q := 216) rfl ?_
                refine aw_goto (q := 56) C dX1_measure_216 (by decide) ?_
                refine ih (i + 1) _ hlt (by omega) ?_
                show _ = ite _ _ _
                rw [if_pos ⟨c_80, c_89⟩, if_neg c_98, if_neg c_113, if_neg c_144, ← h3]
              ·
                refine aw_lload C dX1_measure_147 rfl (q := 149) rfl ?_
                refine aw_aload_n C dX1_measure_149 rfl rfl (q := 150) rfl ?_
                refine gfX1_24_1 (v := .ref (A 9)) C dX1_measure_150 hp rfl (q := 153) rfl ?_
                refine aw_iload C dX1_measure_153 rfl (q := 155) rfl ?_
                refine ay_iald (j := i) C dX1_measure_155 (hF 9 (by decide) (by decide)) (vp_in_nI (by omega) (by decide)) (nI_clamp (by omega)) (q := 156) rfl ?_
                refine aw_aload_n C dX1_measure_156 rfl rfl (q := 157) rfl ?_
                refine gfX1_27_1 (v := .ref (A 10)) C dX1_measure_157 hp rfl (q := 160) rfl ?_
                refine aw_iload C dX1_measure_160 rfl (q := 162) rfl ?_
                refine ay_iald (j := i) C dX1_measure_162 (hF 10 (by decide) (by decide)) (vp_in_nI (by omega) (by decide)) (nI_clamp (by omega)) (q := 163) rfl ?_
                refine csX1_50 (As := [.int ((F 9) i), .int ((F 10) i)]) (rest := [.long x4]) C B dX1_measure_163 (c_maxi G M.2.1 h d ((F 9) i) ((F 10) i)) rfl rfl (Nat.le_of_ble_eq_true rfl) (by omega) (by omega) (by omega) (q := 166) rfl (fun r9 h9 hr9 => ?_)
                obtain ⟨e9, er9⟩ := hr9
                subst er9; rw [e9]
                show aw G 7 M 166 [.ref p, .int letter, .int kind, .int ab, .long x4, .retAddr 0, .int (nI i)] [.int (mx_i ((F 9) i) ((F 10) i)), .long x4] h 0 0
                refine aw_i2l C dX1_measure_166 (q := 167) rfl ?_
                refine csX1_56 (As := [.long x4, .long ((mx_i ((F 9) i) ((F 10) i)).toInt64)]) (rest := []) C B dX1_measure_167 (c_maxl G M.2.1 h d x4 ((mx_i ((F 9) i) ((F 10) i)).toInt64)) rfl rfl (Nat.le_of_ble_eq_true rfl) (by omega) (by omega) (by omega) (q := 170) rfl (fun r9 h9 hr9 => ?_)
                obtain ⟨e9, er9⟩ := hr9
                subst er9; rw [e9]
                show aw G 7 M 170 [.ref p, .int letter, .int kind, .int ab, .long x4, .retAddr 0, .int (nI i)] [.long (mx_l x4 ((mx_i ((F 9) i) ((F 10) i)).toInt64))] h 0 0
                refine aw_lstore (ls' := [.ref p, .int letter, .int kind, .int ab, .long (mx_l x4 ((mx_i ((F 9) i) ((F 10) i)).toInt64)), .retAddr 0, .int (nI i)]) C dX1_measure_170 (by decide) rfl (q := 172) rfl ?_
                refine aw_goto (q := 213) C dX1_measure_172 (by decide) ?_
                refine aw_iinc (v := nI (i + 1)) (ls' := [.ref p, .int letter, .int kind, .int ab, .long (mx_l x4 ((mx_i ((F 9) i) ((F 10) i)).toInt64)), .retAddr 0, .int (nI (i + 1))]) C dX1_measure_213 rfl (nI_1 i) (by decide) rfl (q := 216) rfl ?_
                refine aw_goto (q := 56) C dX1_measure_216 (by decide) ?_
                refine ih (i + 1) _ hlt (by omega) ?_
                show _ = ite _ _ _
                rw [if_pos ⟨c_80, c_89⟩, if_neg c_98, if_neg c_113, if_pos c_144, ← h3]
            ·
              refine aw_lload C dX1_measure_116 rfl (q := 118) rfl ?_
              refine aw_aload_n C dX1_measure_118 rfl rfl (q := 119) rfl ?_
              refine gfX1_24_1 (v := .ref (A 9)) C dX1_measure_119 hp rfl (q := 122) rfl ?_
              refine aw_iload C dX1_measure_122 rfl (q := 124) rfl ?_
              refine ay_iald (j := i) C dX1_measure_124 (hF 9 (by decide) (by decide)) (vp_in_nI (by omega) (by decide)) (nI_clamp (by omega)) (q := 125) rfl ?_
              refine aw_i2l C dX1_measure_125 (q := 126) rfl ?_
              refine aw_aload_n C dX1_measure_126 rfl rfl (q := 127) rfl ?_
              refine gfX1_27_1 (v := .ref (A 10)) C dX1_measure_127 hp rfl (q := 130) rfl ?_
              refine aw_iload C dX1_measure_130 rfl (q := 132) rfl ?_
              refine ay_iald (j := i) C dX1_measure_132 (hF 10 (by decide) (by decide)) (vp_in_nI (by omega) (by decide)) (nI_clamp (by omega)) (q := 133) rfl ?_
              refine aw_i2l C dX1_measure_133 (q := 134) rfl ?_
              refine aw_lmul C dX1_measure_134 (q := 135) rfl ?_
              refine aw_ladd C dX1_measure_135 (q := 136) rfl ?_
              refine aw_lstore (ls' := [.ref p, .int letter, .int kind, .int ab, .long (x4 + ((((F 9) i).toInt64) * (((F 10) i).toInt64))), .retAddr 0, .int (nI i)]) C dX1_measure_136 (by decide) rfl (q := 138) rfl ?_
              refine aw_goto (q := 213) C dX1_measure_138 (by decide) ?_
              refine aw_iinc (v := nI (i + 1)) (ls' := [.ref p, .int letter, .int kind, .int ab, .long (x4 + ((((F 9) i).toInt64) * (((F 10) i).toInt64))), .retAddr 0, .int (nI (i + 1))]) C dX1_measure_213 rfl (nI_1 i) (by decide) rfl (q := 216) rfl ?_
              refine aw_goto (q := 56) C dX1_measure_216 (by decide) ?_
              refine ih (i + 1) _ hlt (by omega) ?_
              show _ = ite _ _ _
              rw [if_pos ⟨c_80, c_89⟩, if_neg c_98, if_pos c_113, ← h3]
          ·
            refine aw_lload C dX1_measure_101 rfl (q := 103) rfl ?_
            refine aw_lconst (v := 1) C dX1_measure_103 (by decide) (q := 104) rfl ?_
            refine aw_ladd C dX1_measure_104 (q := 105) rfl ?_
            refine aw_lstore (ls' := [.ref p, .int letter, .int kind, .int ab, .long (x4 + 1), .retAddr 0, .int (nI i)]) C dX1_measure_105 (by decide) rfl (q := 107) rfl ?_
            refine aw_goto (q := 213) C dX1_measure_107 (by decide) ?_
            refine aw_iinc (v := nI (i + 1)) (ls' := [.ref p, .int letter, .int kind, .int ab, .long (x4 + 1), .retAddr 0, .int (nI (i + 1))]) C dX1_measure_213 rfl (nI_1 i) (by decide) rfl (q := 216) rfl ?_
            refine aw_goto (q := 56) C dX1_measure_216 (by decide) ?_
            refine ih (i + 1) _ hlt (by omega) ?_
            show _ = ite _ _ _
            rw [if_pos ⟨c_80, c_89⟩, if_pos c_98, ← h3]
        ·
          refine aw_goto (q := 213) C dX1_measure_92 (by decide) ?_
          refine aw_iinc (v := nI (i + 1)) (ls' := [.ref p, .int letter, .int kind, .int ab, .long x4, .retAddr 0, .int (nI (i + 1))]) C dX1_measure_213 rfl (nI_1 i) (by decide) rfl (q := 216) rfl ?_
          refine aw_goto (q := 56) C dX1_measure_216 (by decide) ?_
          refine ih (i + 1) _ hlt (by omega) ?_
          show _ = ite _ _ _
          rw [if_neg (fun z => c_89 z.2), ← h3]
set_option maxHeartbeats 4000000 in
set_option maxRecDepth 100000 in
theorem c_measure (G : ac_G) (l : Launch) (h : ac_H) (d : Nat) (p : Nat) (A : Nat → Nat) (I : Nat → Int32) (F : Nat → Nat → Int32) (c : Nat) (letter kind ab : Int32) (K : pl_ok h p A I F c) : ac_Met G l yX1_measure cX1_measure 7 (some .long) (d + 1) 0 0 [.ref p, .int letter, .int kind, .int ab] h (pq h (some (.long (pl_measure I F letter kind ab c)))) := by
  refine ac_of (ls := [.ref p, .int letter, .int kind, .int ab, .retAddr 0, .retAddr 0, .retAddr 0]) (by decide +kernel) rfl (Nat.le_of_ble_eq_true rfl) (fun M hl C B E hnm => ?_)
  obtain ⟨hp, hF, hI3, hc⟩ := id K
  refine aw_iload_n C dX1_measure_0 rfl rfl (q := 1) rfl ?_
  refine aw_bipush (v := 108) C dX1_measure_1 (by decide) (q := 3) rfl ?_
  refine aw_icmp_ne (t := 12) (q := 6) C dX1_measure_3 (by decide) rfl (fun c_3 => ?_) (fun c_3 => ?_)
  ·
    refine aw_iload_n C dX1_measure_12 rfl rfl (q := 13) rfl ?_
    refine aw_bipush (v := 119) C dX1_measure_13 (by decide) (q := 15) rfl ?_
    refine aw_icmp_ne (t := 24) (q := 18) C dX1_measure_15 (by decide) rfl (fun c_15 => ?_) (fun c_15 => ?_)
    ·
      refine aw_iload_n C dX1_measure_24 rfl rfl (q := 25) rfl ?_
      refine aw_bipush (v := 116) C dX1_measure_25 (by decide) (q := 27) rfl ?_
      refine aw_icmp_ne (t := 36) (q := 30) C dX1_measure_27 (by decide) rfl (fun c_27 => ?_) (fun c_27 => ?_)
      ·
        refine aw_iload_n C dX1_measure_36 rfl rfl (q := 37) rfl ?_
        refine aw_bipush (v := 101) C dX1_measure_37 (by decide) (q := 39) rfl ?_
        refine aw_icmp_ne (t := 50) (q := 42) C dX1_measure_39 (by decide) rfl (fun c_39 => ?_) (fun c_39 => ?_)
        ·
          refine aw_lconst (v := 0) C dX1_measure_50 (by decide) (q := 51) rfl ?_
          refine aw_lstore (ls' := [.ref p, .int letter, .int kind, .int ab, .long 0, .retAddr 0, .retAddr 0]) C dX1_measure_51 (by decide) rfl (q := 53) rfl ?_
          refine aw_iconst (v := 0) C dX1_measure_53 (by decide) (q := 54) rfl ?_
          refine aw_istore (ls' := [.ref p, .int letter, .int kind, .int ab, .long 0, .retAddr 0, .int 0]) C dX1_measure_54 (by decide) rfl (q := 56) rfl ?_
          refine lp_measure C B (v0 := 0) ?_ K (c + 1) 0 _ (Nat.zero_le _) (by omega) rfl
          have he : pl_measure I F letter kind ab c = pl_meas F (I 1) letter kind ab (0) c := by
            unfold pl_measure; rw [if_neg c_3, if_neg c_15, if_neg c_27, if_neg c_39]
          rw [← he]; exact E
        ·
          refine aw_aload_n C dX1_measure_42 rfl rfl (q := 43) rfl ?_
          refine gfX1_34_1 (v := .int (I 1)) C dX1_measure_43 hp rfl (q := 46) rfl ?_
          refine aw_i2l C dX1_measure_46 (q := 47) rfl ?_
          refine aw_goto (q := 51) C dX1_measure_47 (by decide) ?_
          refine aw_lstore (ls' := [.ref p, .int letter, .int kind, .int ab, .long ((I 1).toInt64), .retAddr 0, .retAddr 0]) C dX1_measure_51 (by decide) rfl (q := 53) rfl ?_
          refine aw_iconst (v := 0) C dX1_measure_53 (by decide) (q := 54) rfl ?_
          refine aw_istore (ls' := [.ref p, .int letter, .int kind, .int ab, .long ((I 1).toInt64), .retAddr 0, .int 0]) C dX1_measure_54 (by decide) rfl (q := 56) rfl ?_
          refine lp_measure C B (v0 := (I 1).toInt64) ?_ K (c + 1) 0 _ (Nat.zero_le _) (by omega) rfl
          have he : pl_measure I F letter kind ab c = pl_meas F (I 1) letter kind ab ((I 1).toInt64) c := by
            unfold pl_measure; rw [if_neg c_3, if_neg c_15, if_neg c_27, if_pos c_39]
          rw [← he]; exact E
      ·
        refine aw_aload_n C dX1_measure_30 rfl rfl (q := 31) rfl ?_
        refine gfX1_37_1 (v := .int (I 2)) C dX1_measure_31 hp rfl (q := 34) rfl ?_
        refine aw_i2l C dX1_measure_34 (q := 35) rfl ?_
        refine aw_lret C E dX1_measure_35 (Nat.le_refl _) (Nat.le_refl _) ?_
        exact ⟨rfl, by unfold pl_measure; rw [if_neg c_3, if_neg c_15, if_pos c_27]⟩
    ·
      refine aw_aload_n C dX1_measure_18 rfl rfl (q := 19) rfl ?_
      refine gfX1_34_1 (v := .int (I 1)) C dX1_measure_19 hp rfl (q := 22) rfl ?_
      refine aw_i2l C dX1_measure_22 (q := 23) rfl ?_
      refine aw_lret C E dX1_measure_23 (Nat.le_refl _) (Nat.le_refl _) ?_
      exact ⟨rfl, by unfold pl_measure; rw [if_neg c_3, if_pos c_15]⟩
  ·
    refine aw_aload_n C dX1_measure_6 rfl rfl (q := 7) rfl ?_
    refine gfX1_30_1 (v := .int (I 0)) C dX1_measure_7 hp rfl (q := 10) rfl ?_
    refine aw_i2l C dX1_measure_10 (q := 11) rfl ?_
    refine aw_lret C E dX1_measure_11 (Nat.le_refl _) (Nat.le_refl _) ?_
    exact ⟨rfl, by unfold pl_measure; rw [if_pos c_3]⟩
