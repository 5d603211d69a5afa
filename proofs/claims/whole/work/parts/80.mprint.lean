/-! The reference's printing: print, write -/
abbrev pr_S : Type := List (List Int32 × Int32)
def pr_cat : pr_S → List Int32
  | [] => []
  | x :: r => pr_cat r ++ x.1
def pr_st (f g : Nat → Int32) (P : List Int32) : pr_S → Prop
  | [] => True
  | x :: r => f r.length = nI (P ++ pr_cat r).length ∧ g r.length = x.2 ∧ pr_st f g P r
theorem pr_st_eq {f g f' g' : Nat → Int32} {P : List Int32} : ∀ r : pr_S, pr_st f g P r → (∀ i, i < r.length → f' i = f i ∧ g' i = g i) → pr_st f' g' P r := by
  intro r
  induction r with
  | nil => intro _ _; exact True.intro
  | cons x r ih =>
    intro h e
    have hx := e r.length (by simp)
    exact ⟨hx.1.trans h.1, hx.2.trans h.2.1, ih h.2.2 (fun i hi => e i (by simp; omega))⟩
def pr_rep (s : md_S) (P : List Int32) (Q : pr_S) : Prop := pb_rep s (P ++ pr_cat Q) ∧ pr_st (s.2.1 42) (s.2.1 43) P Q
/-- a step of the printing -/
def pr_ok (g a : Int32) (Q Q' : pr_S) : Prop := (∃ N, N < 1000000 ∧ g = 1 ∧ a = nI N ∧ Q' = (pr_num N, 3) :: Q) ∨ (¬ g = 1 ∧ ¬ 8 < g ∧ Q' = (pr_atom g a, 3) :: Q) ∨ (8 < g ∧ ¬ 11 < g ∧ ∃ x r, Q = x :: r ∧ Q' = (pr_un g a (pr_wr (x.2 < 3) x.1), 3) :: r) ∨ (11 < g ∧ ∃ y x r, Q = y :: x :: r ∧ Q' = (pr_two g a x.2 y.2 x.1 y.1, if g = 14 ∨ g = 15 then 2 else 1) :: r)
def pr_PQ (o : Nat) (md : Nat → Nat) (h : ac_H) (s : md_S) (P : List Int32) (Q : pr_S) : Option Value → ac_H → Prop := fun r9 h9 => ∃ s' : md_S, r9 = some (.int (nI Q.length)) ∧ md_ok h9 o md s' ∧ pr_rep s' P Q ∧ md_eq [41] [40, 42, 43] [] s s' ∧ kp h h9 (md_L o md)
theorem p_sign (G : ac_G) (l : Launch) (o : Nat) (md : Nat → Nat) (hm : md_inj md) (h : ac_H) (d : Nat) (s : md_S) (K : md_ok h o md s) (P : List Int32) (Q Q' : pr_S) (R : pr_rep s P Q) (hB : (P ++ pr_cat Q).length ≤ 700) (hQ : Q.length ≤ 310) (g a : Int32) (hk : pr_ok g a Q Q') : ac_Met G l yX9_printSign cX9_printSign 4 (some .int) (d + 3) 0 0 [.ref o, .int g, .int a, .int (nI Q.length)] h (pr_PQ o md h s P Q') := by
  obtain ⟨R1, R2⟩ := R
  rcases hk with ⟨N, hN, rfl, rfl, rfl⟩ | ⟨h1, h8, rfl⟩ | ⟨h8, h11, x, r, rfl, rfl⟩ | ⟨h11, y, x, r, rfl, rfl⟩
  · refine ac_wk (p_sign1 G l o md hm h d s K (P ++ pr_cat Q) R1 hB Q.length hQ N hN) (fun r9 h9 z => ?_)
    obtain ⟨s', z1, z2, z3, z4, z5, z6, z7⟩ := z
    refine ⟨s', z1, z2, ⟨?_, ?_⟩, z4, z7⟩
    · rw [show P ++ pr_cat ((pr_num N, 3) :: Q) = P ++ pr_cat Q ++ pr_num N from (List.append_assoc _ _ _).symm]; exact z3
    · refine ⟨by rw [z5]; exact if_pos rfl, by rw [z6]; exact if_pos rfl, pr_st_eq Q R2 (fun i hi => ?_)⟩
      rw [z5, z6]; unfold upd; rw [if_neg (by omega), if_neg (by omega)]; exact ⟨rfl, rfl⟩
  · refine ac_wk (p_sign2 G l o md hm h d s K (P ++ pr_cat Q) R1 hB Q.length hQ g a h1 h8) (fun r9 h9 z => ?_)
    obtain ⟨s', z1, z2, z3, z4, z5, z6, z7⟩ := z
    refine ⟨s', z1, z2, ⟨?_, ?_⟩, z4, z7⟩
    · rw [show P ++ pr_cat ((pr_atom g a, 3) :: Q) = P ++ pr_cat Q ++ pr_atom g a from (List.append_assoc _ _ _).symm]; exact z3
    · refine ⟨by rw [z5]; exact if_pos rfl, by rw [z6]; exact if_pos rfl, pr_st_eq Q R2 (fun i hi => ?_)⟩
      rw [z5, z6]; unfold upd; rw [if_neg (by omega), if_neg (by omega)]; exact ⟨rfl, rfl⟩
  · have e : P ++ pr_cat (x :: r) = P ++ pr_cat r ++ x.1 := (List.append_assoc _ _ _).symm
    rw [e] at R1 hB
    rw [List.length_append] at hB
    refine ac_wk (p_sign3 G l o md hm h d s K (P ++ pr_cat r) x.1 R1 hB r.length (by simp at hQ; omega) x.2 R2.1 R2.2.1 g a h8 h11) (fun r9 h9 z => ?_)
    obtain ⟨s', z1, z2, z3, z4, z5, z6, z7⟩ := z
    refine ⟨s', z1, z2, ⟨?_, ?_⟩, z4, z7⟩
    · rw [show P ++ pr_cat ((pr_un g a (pr_wr (x.2 < 3) x.1), 3) :: r) = P ++ pr_cat r ++ pr_un g a (pr_wr (x.2 < 3) x.1) from (List.append_assoc _ _ _).symm]; exact z3
    · refine ⟨by rw [z5]; exact R2.1, by rw [z6]; exact if_pos rfl, pr_st_eq r R2.2.2 (fun i hi => ?_)⟩
      rw [z5, z6]; unfold upd; rw [if_neg (by omega)]; exact ⟨rfl, rfl⟩
  · have e : P ++ pr_cat (y :: x :: r) = P ++ pr_cat r ++ x.1 ++ y.1 := by
      show P ++ ((pr_cat r ++ x.1) ++ y.1) = _
      simp
    rw [e] at R1 hB
    rw [List.length_append, List.length_append] at hB
    have e2 : P ++ pr_cat (x :: r) = P ++ pr_cat r ++ x.1 := (List.append_assoc _ _ _).symm
    obtain ⟨q1, q2, q3, q4, q5⟩ := R2
    rw [e2] at q1
    refine ac_wk (p_sign4 G l o md hm h d s K (P ++ pr_cat r) x.1 y.1 R1 hB r.length (by simp at hQ; omega) x.2 y.2 q3 q1 q4 q2 g a h11) (fun r9 h9 z => ?_)
    obtain ⟨s', z1, z2, z3, z4, z5, z6, z7⟩ := z
    refine ⟨s', z1, z2, ⟨?_, ?_⟩, z4, z7⟩
    · rw [show P ++ pr_cat ((pr_two g a x.2 y.2 x.1 y.1, if g = 14 ∨ g = 15 then (2 : Int32) else 1) :: r) = P ++ pr_cat r ++ pr_two g a x.2 y.2 x.1 y.1 from (List.append_assoc _ _ _).symm]; exact z3
    · refine ⟨by rw [z5]; exact q3, by rw [z6]; exact if_pos rfl, pr_st_eq r q5 (fun i hi => ?_)⟩
      rw [z5, z6]; unfold upd; rw [if_neg (by omega)]; exact ⟨rfl, rfl⟩
/-- the steps of a rule from k on, m of them: the text and the stack before, the text behind -/
def pr_go (gf af : Nat → Int32) (b0 : Nat) : Nat → Nat → List Int32 → pr_S → List Int32 → Prop
  | 0, _, P, Q, P' => P' = P ++ pr_cat Q
  | m + 1, k, P, Q, P' => (P ++ pr_cat Q).length ≤ 690 ∧ Q.length ≤ 310 ∧ ∃ Q', pr_ok (gf k) (af k) Q Q' ∧ ((Q = [] ∧ b0 < k → if gf k = 16 then pr_go gf af b0 m (k + 1) (P ++ [44] ++ pr_cat Q') [] P' else pr_go gf af b0 m (k + 1) (P ++ [44]) Q' P') ∧ (¬ (Q = [] ∧ b0 < k) → if gf k = 16 then pr_go gf af b0 m (k + 1) (P ++ pr_cat Q') [] P' else pr_go gf af b0 m (k + 1) P Q' P'))
def pr_rl (gf af g10 : Nat → Int32) (b : Nat → Nat) : Nat → Nat → List Int32 → List Int32 → Prop
  | 0, _, P, P' => P' = P
  | m + 1, r, P, P' => P.length ≤ 600 ∧ ∃ P2, pr_go gf af (b r) (b (r + 1) - b r) (b r) ((if r = 0 then P else P ++ [59]) ++ [48 + g10 r] ++ [58]) [] P2 ∧ pr_rl gf af g10 b m (r + 1) P2 P'
set_option maxHeartbeats 4000000 in
set_option maxRecDepth 100000 in
theorem ml_pgo {G : ac_G} {M : ac_M} {o : Nat} {md : Nat → Nat} (hm : md_inj md) {h : ac_H} {d : Nat} {s : md_S} {r b0 b1 : Nat} {P' : List Int32} (hr : r < 12) (hb0 : s.2.1 9 r = nI b0) (hb1 : s.2.1 9 (r + 1) = nI b1) (hb4 : b1 ≤ 400) (C : ac_MC G RX9 cX9_print 4 none M) (B9 : ac_Bd M (d + 4) 0 0)
    (kk : ∀ (h2 : ac_H) (s2 : md_S) (v2 : Int32), md_ok h2 o md s2 → pb_rep s2 P' → md_eq [41] [40, 42, 43] [] s s2 → kp h h2 (md_L o md) → aw G 4 M 128 [.ref o, .int (nI r), .int v2, .int (nI b1)] [] h2 0 0) :
    ∀ (m k : Nat) (P : List Int32) (Q : pr_S) (h1 : ac_H) (s1 : md_S), k + m = b1 → b0 ≤ k → md_ok h1 o md s1 → pr_rep s1 P Q → md_eq [41] [40, 42, 43] [] s s1 → kp h h1 (md_L o md) → pr_go (s.2.1 5) (s.2.1 6) b0 m k P Q P' → aw G 4 M 55 [.ref o, .int (nI r), .int (nI Q.length), .int (nI k)] [] h1 0 0 := by
  intro m
  induction m with
  | zero =>
    intro k P Q h1 s1 hk hbk K R F kq hgo
    have hk2 : k = b1 := by omega
    subst hk2
    have e9 : s1.2.1 9 = s.2.1 9 := F.2.1 9 (by decide)
    refine aw_iload_n C dX9_print_55 rfl rfl (q := 56) rfl ?_
    refine aw_aload_n C dX9_print_56 rfl rfl (q := 57) rfl ?_
    refine gfX9_25_9 (v := .ref (md 9)) C dX9_print_57 K.1 rfl (q := 60) rfl ?_
    refine aw_iload_n C dX9_print_60 rfl rfl (q := 61) rfl ?_
    refine aw_iconst (v := 1) C dX9_print_61 (by decide) (q := 62) rfl ?_
    refine aw_iadd C dX9_print_62 (q := 63) rfl ?_
    refine ay_iald (N := 91) (f := s1.2.1 9) (j := r + 1) C dX9_print_63 (K.2.1 9 (by decide)) (by rw [nI_1]; exact vp_in_nI (by omega) (by decide)) (by rw [nI_1]; exact nI_clamp (by omega)) (q := 64) rfl ?_
    refine aw_icmp_ge (t := 128) (q := 67) C dX9_print_64 (by decide) rfl (fun c_64 => ?_) (fun c_64 => absurd c_64 (fun z => z (by rw [e9, hb1]; exact nI_le (Nat.le_refl _) (by omega))))
    have e : P' = P ++ pr_cat Q := hgo
    subst e
    exact kk h1 s1 _ K R.1 F kq
  | succ m ih =>
    intro k P Q h1 s1 hk hbk K R F kq hgo
    obtain ⟨gB, gQ, Q', gok, ga, gb⟩ := hgo
    have e9 : s1.2.1 9 = s.2.1 9 := F.2.1 9 (by decide)
    have e5 : s1.2.1 5 = s.2.1 5 := F.2.1 5 (by decide)
    have e6 : s1.2.1 6 = s.2.1 6 := F.2.1 6 (by decide)
    refine aw_iload_n C dX9_print_55 rfl rfl (q := 56) rfl ?_
    refine aw_aload_n C dX9_print_56 rfl rfl (q := 57) rfl ?_
    refine gfX9_25_9 (v := .ref (md 9)) C dX9_print_57 K.1 rfl (q := 60) rfl ?_
    refine aw_iload_n C dX9_print_60 rfl rfl (q := 61) rfl ?_
    refine aw_iconst (v := 1) C dX9_print_61 (by decide) (q := 62) rfl ?_
    refine aw_iadd C dX9_print_62 (q := 63) rfl ?_
    refine ay_iald (N := 91) (f := s1.2.1 9) (j := r + 1) C dX9_print_63 (K.2.1 9 (by decide)) (by rw [nI_1]; exact vp_in_nI (by omega) (by decide)) (by rw [nI_1]; exact nI_clamp (by omega)) (q := 64) rfl ?_
    refine aw_icmp_ge (t := 128) (q := 67) C dX9_print_64 (by decide) rfl (fun c_64 => absurd c_64 (by rw [e9, hb1]; exact ni_nge k b1 rfl rfl (by omega) (by omega) (by omega))) (fun c_64 => ?_)
    refine aw_iload_n C dX9_print_67 rfl rfl (q := 68) rfl ?_
    refine aw_if_ne (t := 87) (q := 71) C dX9_print_68 (by decide) rfl (fun c_68 => ?_) (fun c_68 => ?_)
    ·
      refine aw_aload_n C dX9_print_87 rfl rfl (q := 88) rfl ?_
      refine aw_aload_n C dX9_print_88 rfl rfl (q := 89) rfl ?_
      refine gfX9_13_9 (v := .ref (md 5)) C dX9_print_89 K.1 rfl (q := 92) rfl ?_
      refine aw_iload_n C dX9_print_92 rfl rfl (q := 93) rfl ?_
      refine ay_iald (N := 2800) (f := s1.2.1 5) (j := k) C dX9_print_93 (K.2.1 5 (by decide)) (vp_in_nI (by omega) (by decide)) (nI_clamp (by omega)) (q := 94) rfl ?_
      rw [show s1.2.1 5 (k) = s.2.1 5 k from by rw [show s1.2.1 5 = s.2.1 5 from F.2.1 5 (by decide)]]
      refine aw_aload_n C dX9_print_94 rfl rfl (q := 95) rfl ?_
      refine gfX9_16_9 (v := .ref (md 6)) C dX9_print_95 K.1 rfl (q := 98) rfl ?_
      refine aw_iload_n C dX9_print_98 rfl rfl (q := 99) rfl ?_
      refine ay_iald (N := 2800) (f := s1.2.1 6) (j := k) C dX9_print_99 (K.2.1 6 (by decide)) (vp_in_nI (by omega) (by decide)) (nI_clamp (by omega)) (q := 100) rfl ?_
      rw [show s1.2.1 6 (k) = s.2.1 6 k from by rw [show s1.2.1 6 = s.2.1 6 from F.2.1 6 (by decide)]]
      refine aw_iload_n C dX9_print_100 rfl rfl (q := 101) rfl ?_
      replace gb := gb (fun z => c_68 (by rw [z.1]; rfl))
      refine cvX9_190_9 (As := [.int (s.2.1 5 k), .int (s.2.1 6 k), .int (nI Q.length)]) (rest := []) C B9 dX9_print_101 K.1 (p_sign G M.2.1 o md hm h1 d s1 K P Q Q' R (by omega) gQ (s.2.1 5 k) (s.2.1 6 k) gok) rfl rfl (Nat.le_of_ble_eq_true rfl) (by omega) (by omega) (by omega) (q := 104) rfl (fun r9 h_1 hr9 => ?_)
      obtain ⟨s4, er9, K4, R4, F4, kp4⟩ := hr9
      subst er9
      have F5 : md_eq [41] [40, 42, 43] [] s s4 := md_eq_tr F F4 (by decide) (by decide) (by decide)
      have kq5 : kp h h_1 (md_L o md) := kp_in kq kp4 (fun _ z => z)
      show aw G 4 M 104 [.ref o, .int (nI r), .int (nI Q.length), .int (nI k)] [.int (nI Q'.length)] h_1 0 0
      refine aw_istore_n (ls' := [.ref o, .int (nI r), .int (nI Q'.length), .int (nI k)]) C dX9_print_104 rfl (by decide) rfl (q := 105) rfl ?_
      refine aw_aload_n C dX9_print_105 rfl rfl (q := 106) rfl ?_
      refine gfX9_13_9 (v := .ref (md 5)) C dX9_print_106 K4.1 rfl (q := 109) rfl ?_
      refine aw_iload_n C dX9_print_109 rfl rfl (q := 110) rfl ?_
      refine ay_iald (N := 2800) (f := s4.2.1 5) (j := k) C dX9_print_110 (K4.2.1 5 (by decide)) (vp_in_nI (by omega) (by decide)) (nI_clamp (by omega)) (q := 111) rfl ?_
      rw [show s4.2.1 5 (k) = s.2.1 5 k from by rw [show s4.2.1 5 = s.2.1 5 from F5.2.1 5 (by decide)]]
      refine aw_bipush (v := 16) C dX9_print_111 (by decide) (q := 113) rfl ?_
      refine aw_icmp_ne (t := 120) (q := 116) C dX9_print_113 (by decide) rfl (fun c_113 => ?_) (fun c_113 => ?_)
      ·
        refine aw_iload_n C dX9_print_120 rfl rfl (q := 121) rfl ?_
        refine aw_istore_n (ls' := [.ref o, .int (nI r), .int (nI Q'.length), .int (nI k)]) C dX9_print_121 rfl (by decide) rfl (q := 122) rfl ?_
        refine aw_iinc (v := nI (k + 1)) (ls' := [.ref o, .int (nI r), .int (nI Q'.length), .int (nI (k + 1))]) C dX9_print_122 rfl (nI_1 k) (by decide) rfl (q := 125) rfl ?_
        refine aw_goto (q := 55) C dX9_print_125 (by decide) ?_
        rw [if_neg c_113] at gb
        exact ih (k + 1) (P) Q' h_1 s4 (by omega) (by omega) K4 R4 F5 kq5 gb
      ·
        refine aw_iconst (v := 0) C dX9_print_116 (by decide) (q := 117) rfl ?_
        refine aw_goto (q := 121) C dX9_print_117 (by decide) ?_
        refine aw_istore_n (ls' := [.ref o, .int (nI r), .int 0, .int (nI k)]) C dX9_print_121 rfl (by decide) rfl (q := 122) rfl ?_
        refine aw_iinc (v := nI (k + 1)) (ls' := [.ref o, .int (nI r), .int 0, .int (nI (k + 1))]) C dX9_print_122 rfl (nI_1 k) (by decide) rfl (q := 125) rfl ?_
        refine aw_goto (q := 55) C dX9_print_125 (by decide) ?_
        rw [if_pos c_113] at gb
        exact ih (k + 1) (P ++ pr_cat Q') [] h_1 s4 (by omega) (by omega) K4 ⟨by rw [show P ++ pr_cat Q' ++ pr_cat [] = P ++ pr_cat Q' from List.append_nil _]; exact R4.1, True.intro⟩ F5 kq5 gb
    ·
      refine aw_iload_n C dX9_print_71 rfl rfl (q := 72) rfl ?_
      refine aw_aload_n C dX9_print_72 rfl rfl (q := 73) rfl ?_
      refine gfX9_25_9 (v := .ref (md 9)) C dX9_print_73 K.1 rfl (q := 76) rfl ?_
      refine aw_iload_n C dX9_print_76 rfl rfl (q := 77) rfl ?_
      refine ay_iald (N := 91) (f := s1.2.1 9) (j := r) C dX9_print_77 (K.2.1 9 (by decide)) (vp_in_nI (by omega) (by decide)) (nI_clamp (by omega)) (q := 78) rfl ?_
      rw [show s1.2.1 9 (r) = nI b0 from by rw [show s1.2.1 9 = s.2.1 9 from F.2.1 9 (by decide)]; exact hb0]
      refine aw_icmp_le (t := 87) (q := 81) C dX9_print_78 (by decide) rfl (fun c_78 => ?_) (fun c_78 => ?_)
      ·
        refine aw_aload_n C dX9_print_87 rfl rfl (q := 88) rfl ?_
        refine aw_aload_n C dX9_print_88 rfl rfl (q := 89) rfl ?_
        refine gfX9_13_9 (v := .ref (md 5)) C dX9_print_89 K.1 rfl (q := 92) rfl ?_
        refine aw_iload_n C dX9_print_92 rfl rfl (q := 93) rfl ?_
        refine ay_iald (N := 2800) (f := s1.2.1 5) (j := k) C dX9_print_93 (K.2.1 5 (by decide)) (vp_in_nI (by omega) (by decide)) (nI_clamp (by omega)) (q := 94) rfl ?_
        rw [show s1.2.1 5 (k) = s.2.1 5 k from by rw [show s1.2.1 5 = s.2.1 5 from F.2.1 5 (by decide)]]
        refine aw_aload_n C dX9_print_94 rfl rfl (q := 95) rfl ?_
        refine gfX9_16_9 (v := .ref (md 6)) C dX9_print_95 K.1 rfl (q := 98) rfl ?_
        refine aw_iload_n C dX9_print_98 rfl rfl (q := 99) rfl ?_
        refine ay_iald (N := 2800) (f := s1.2.1 6) (j := k) C dX9_print_99 (K.2.1 6 (by decide)) (vp_in_nI (by omega) (by decide)) (nI_clamp (by omega)) (q := 100) rfl ?_
        rw [show s1.2.1 6 (k) = s.2.1 6 k from by rw [show s1.2.1 6 = s.2.1 6 from F.2.1 6 (by decide)]]
        refine aw_iload_n C dX9_print_100 rfl rfl (q := 101) rfl ?_
        replace gb := gb (fun z => absurd ((nI_leI (a := k) (b := b0) (by omega) (by omega)).mp c_78) (by omega))
        refine cvX9_190_9 (As := [.int (s.2.1 5 k), .int (s.2.1 6 k), .int (nI Q.length)]) (rest := []) C B9 dX9_print_101 K.1 (p_sign G M.2.1 o md hm h1 d s1 K P Q Q' R (by omega) gQ (s.2.1 5 k) (s.2.1 6 k) gok) rfl rfl (Nat.le_of_ble_eq_true rfl) (by omega) (by omega) (by omega) (q := 104) rfl (fun r9 h_2 hr9 => ?_)
        obtain ⟨s4, er9, K4, R4, F4, kp4⟩ := hr9
        subst er9
        have F5 : md_eq [41] [40, 42, 43] [] s s4 := md_eq_tr F F4 (by decide) (by decide) (by decide)
        have kq5 : kp h h_2 (md_L o md) := kp_in kq kp4 (fun _ z => z)
        show aw G 4 M 104 [.ref o, .int (nI r), .int (nI Q.length), .int (nI k)] [.int (nI Q'.length)] h_2 0 0
        refine aw_istore_n (ls' := [.ref o, .int (nI r), .int (nI Q'.length), .int (nI k)]) C dX9_print_104 rfl (by decide) rfl (q := 105) rfl ?_
        refine aw_aload_n C dX9_print_105 rfl rfl (q := 106) rfl ?_
        refine gfX9_13_9 (v := .ref (md 5)) C dX9_print_106 K4.1 rfl (q := 109) rfl ?_
        refine aw_iload_n C dX9_print_109 rfl rfl (q := 110) rfl ?_
        refine ay_iald (N := 2800) (f := s4.2.1 5) (j := k) C dX9_print_110 (K4.2.1 5 (by decide)) (vp_in_nI (by omega) (by decide)) (nI_clamp (by omega)) (q := 111) rfl ?_
        rw [show s4.2.1 5 (k) = s.2.1 5 k from by rw [show s4.2.1 5 = s.2.1 5 from F5.2.1 5 (by decide)]]
        refine aw_bipush (v := 16) C dX9_print_111 (by decide) (q := 113) rfl ?_
        refine aw_icmp_ne (t := 120) (q := 116) C dX9_print_113 (by decide) rfl (fun c_113 => ?_) (fun c_113 => ?_)
        ·
          refine aw_iload_n C dX9_print_120 rfl rfl (q := 121) rfl ?_
          refine aw_istore_n (ls' := [.ref o, .int (nI r), .int (nI Q'.length), .int (nI k)]) C dX9_print_121 rfl (by decide) rfl (q := 122) rfl ?_
          refine aw_iinc (v := nI (k + 1)) (ls' := [.ref o, .int (nI r), .int (nI Q'.length), .int (nI (k + 1))]) C dX9_print_122 rfl (nI_1 k) (by decide) rfl (q := 125) rfl ?_
          refine aw_goto (q := 55) C dX9_print_125 (by decide) ?_
          rw [if_neg c_113] at gb
          exact ih (k + 1) (P) Q' h_2 s4 (by omega) (by omega) K4 R4 F5 kq5 gb
        ·
          refine aw_iconst (v := 0) C dX9_print_116 (by decide) (q := 117) rfl ?_
          refine aw_goto (q := 121) C dX9_print_117 (by decide) ?_
          refine aw_istore_n (ls' := [.ref o, .int (nI r), .int 0, .int (nI k)]) C dX9_print_121 rfl (by decide) rfl (q := 122) rfl ?_
          refine aw_iinc (v := nI (k + 1)) (ls' := [.ref o, .int (nI r), .int 0, .int (nI (k + 1))]) C dX9_print_122 rfl (nI_1 k) (by decide) rfl (q := 125) rfl ?_
          refine aw_goto (q := 55) C dX9_print_125 (by decide) ?_
          rw [if_pos c_113] at gb
          exact ih (k + 1) (P ++ pr_cat Q') [] h_2 s4 (by omega) (by omega) K4 ⟨by rw [show P ++ pr_cat Q' ++ pr_cat [] = P ++ pr_cat Q' from List.append_nil _]; exact R4.1, True.intro⟩ F5 kq5 gb
      ·
        refine aw_aload_n C dX9_print_81 rfl rfl (q := 82) rfl ?_
        refine aw_bipush (v := 44) C dX9_print_82 (by decide) (q := 84) rfl ?_
        have hQ0 : Q = [] := List.eq_nil_of_length_eq_zero ((nI_eq (a := Q.length) (b := 0) (by omega) (by decide)).mp c_68)
        have hbk2 : b0 < k := Classical.byContradiction fun z => c_78 (nI_le (by omega) (by omega))
        subst hQ0
        replace ga := ga ⟨rfl, hbk2⟩
        have R0 : pb_rep s1 P := by have z := R.1; rw [show P ++ pr_cat [] = P from List.append_nil P] at z; exact z
        have gB0 : P.length ≤ 690 := by rw [show P ++ pr_cat [] = P from List.append_nil P] at gB; exact gB
        refine cvX9_171_9 (As := [.int 44]) (rest := []) C B9 dX9_print_84 K.1 (m_add G M.2.1 o md hm h1 (d + 3) s1 K P R0 (by omega) 44) rfl rfl (Nat.le_of_ble_eq_true rfl) (by omega) (by omega) (by omega) (q := 87) rfl (fun r9 h_3 hr9 => ?_)
        obtain ⟨s2, er9, K2, R2, F2, kp2⟩ := hr9
        subst er9
        have F3 : md_eq [41] [40, 42, 43] [] s s2 := md_eq_tr F F2 (by decide) (by decide) (by decide)
        have kq3 : kp h h_3 (md_L o md) := kp_in kq kp2 (fun _ z => z)
        have R3 : pr_rep s2 (P ++ [44]) [] := ⟨by rw [show P ++ [44] ++ pr_cat [] = P ++ [44] from List.append_nil _]; exact R2, True.intro⟩
        show aw G 4 M 87 [.ref o, .int (nI r), .int (nI ([] : pr_S).length), .int (nI k)] [] h_3 0 0
        refine aw_aload_n C dX9_print_87 rfl rfl (q := 88) rfl ?_
        refine aw_aload_n C dX9_print_88 rfl rfl (q := 89) rfl ?_
        refine gfX9_13_9 (v := .ref (md 5)) C dX9_print_89 K2.1 rfl (q := 92) rfl ?_
        refine aw_iload_n C dX9_print_92 rfl rfl (q := 93) rfl ?_
        refine ay_iald (N := 2800) (f := s2.2.1 5) (j := k) C dX9_print_93 (K2.2.1 5 (by decide)) (vp_in_nI (by omega) (by decide)) (nI_clamp (by omega)) (q := 94) rfl ?_
        rw [show s2.2.1 5 (k) = s.2.1 5 k from by rw [show s2.2.1 5 = s.2.1 5 from F3.2.1 5 (by decide)]]
        refine aw_aload_n C dX9_print_94 rfl rfl (q := 95) rfl ?_
        refine gfX9_16_9 (v := .ref (md 6)) C dX9_print_95 K2.1 rfl (q := 98) rfl ?_
        refine aw_iload_n C dX9_print_98 rfl rfl (q := 99) rfl ?_
        refine ay_iald (N := 2800) (f := s2.2.1 6) (j := k) C dX9_print_99 (K2.2.1 6 (by decide)) (vp_in_nI (by omega) (by decide)) (nI_clamp (by omega)) (q := 100) rfl ?_
        rw [show s2.2.1 6 (k) = s.2.1 6 k from by rw [show s2.2.1 6 = s.2.1 6 from F3.2.1 6 (by decide)]]
        refine aw_iload_n C dX9_print_100 rfl rfl (q := 101) rfl ?_
        refine cvX9_190_9 (As := [.int (s.2.1 5 k), .int (s.2.1 6 k), .int (nI ([] : pr_S).length)]) (rest := []) C B9 dX9_print_101 K2.1 (p_sign G M.2.1 o md hm h_3 d s2 K2 (P ++ [44]) ([]) Q' R3 (by rw [show P ++ [44] ++ pr_cat [] = P ++ [44] from List.append_nil _, List.length_append, List.length_singleton]; omega) (by decide) (s.2.1 5 k) (s.2.1 6 k) gok) rfl rfl (Nat.le_of_ble_eq_true rfl) (by omega) (by omega) (by omega) (q := 104) rfl (fun r9 h_4 hr9 => ?_)
        obtain ⟨s4, er9, K4, R4, F4, kp4⟩ := hr9
        subst er9
        have F5 : md_eq [41] [40, 42, 43] [] s s4 := md_eq_tr F3 F4 (by decide) (by decide) (by decide)
        have kq5 : kp h h_4 (md_L o md) := kp_in kq3 kp4 (fun _ z => z)
        show aw G 4 M 104 [.ref o, .int (nI r), .int (nI ([] : pr_S).length), .int (nI k)] [.int (nI Q'.length)] h_4 0 0
        refine aw_istore_n (ls' := [.ref o, .int (nI r), .int (nI Q'.length), .int (nI k)]) C dX9_print_104 rfl (by decide) rfl (q := 105) rfl ?_
        refine aw_aload_n C dX9_print_105 rfl rfl (q := 106) rfl ?_
        refine gfX9_13_9 (v := .ref (md 5)) C dX9_print_106 K4.1 rfl (q := 109) rfl ?_
        refine aw_iload_n C dX9_print_109 rfl rfl (q := 110) rfl ?_
        refine ay_iald (N := 2800) (f := s4.2.1 5) (j := k) C dX9_print_110 (K4.2.1 5 (by decide)) (vp_in_nI (by omega) (by decide)) (nI_clamp (by omega)) (q := 111) rfl ?_
        rw [show s4.2.1 5 (k) = s.2.1 5 k from by rw [show s4.2.1 5 = s.2.1 5 from F5.2.1 5 (by decide)]]
        refine aw_bipush (v := 16) C dX9_print_111 (by decide) (q := 113) rfl ?_
        refine aw_icmp_ne (t := 120) (q := 116) C dX9_print_113 (by decide) rfl (fun c_113 => ?_) (fun c_113 => ?_)
        ·
          refine aw_iload_n C dX9_print_120 rfl rfl (q := 121) rfl ?_
          refine aw_istore_n (ls' := [.ref o, .int (nI r), .int (nI Q'.length), .int (nI k)]) C dX9_print_121 rfl (by decide) rfl (q := 122) rfl ?_
          refine aw_iinc (v := nI (k + 1)) (ls' := [.ref o, .int (nI r), .int (nI Q'.length), .int (nI (k + 1))]) C dX9_print_122 rfl (nI_1 k) (by decide) rfl (q := 125) rfl ?_
          refine aw_goto (q := 55) C dX9_print_125 (by decide) ?_
          rw [if_neg c_113] at ga
          exact ih (k + 1) (P ++ [44]) Q' h_4 s4 (by omega) (by omega) K4 R4 F5 kq5 ga
        ·
          refine aw_iconst (v := 0) C dX9_print_116 (by decide) (q := 117) rfl ?_
          refine aw_goto (q := 121) C dX9_print_117 (by decide) ?_
          refine aw_istore_n (ls' := [.ref o, .int (nI r), .int 0, .int (nI k)]) C dX9_print_121 rfl (by decide) rfl (q := 122) rfl ?_
          refine aw_iinc (v := nI (k + 1)) (ls' := [.ref o, .int (nI r), .int 0, .int (nI (k + 1))]) C dX9_print_122 rfl (nI_1 k) (by decide) rfl (q := 125) rfl ?_
          refine aw_goto (q := 55) C dX9_print_125 (by decide) ?_
          rw [if_pos c_113] at ga
          exact ih (k + 1) (P ++ [44] ++ pr_cat Q') [] h_4 s4 (by omega) (by omega) K4 ⟨by rw [show P ++ [44] ++ pr_cat Q' ++ pr_cat [] = P ++ [44] ++ pr_cat Q' from List.append_nil _]; exact R4.1, True.intro⟩ F5 kq5 ga
set_option maxHeartbeats 4000000 in
set_option maxRecDepth 100000 in
theorem ml_prl {G : ac_G} {M : ac_M} {o : Nat} {md : Nat → Nat} (hm : md_inj md) {h : ac_H} {d : Nat} {s : md_S} {n : Nat} {b : Nat → Nat} {P' : List Int32} (hn : s.2.1 8 0 = nI n) (hn12 : n ≤ 12) (hb : ∀ r, r ≤ n → s.2.1 9 r = nI (b r)) (hb4 : ∀ r, r < n → b r ≤ b (r + 1) ∧ b (r + 1) ≤ 400) (C : ac_MC G RX9 cX9_print 4 none M) (B9 : ac_Bd M (d + 4) 0 0) (E : ac_End G (fun r9 h9 => ∃ s' : md_S, r9 = none ∧ md_ok h9 o md s' ∧ pb_rep s' P' ∧ md_eq [41] [40, 42, 43] [] s s' ∧ kp h h9 (md_L o md)) 0 0 M) :
    ∀ (m r : Nat) (P : List Int32) (h1 : ac_H) (s1 : md_S) (v2 v3 : Int32), r + m = n → md_ok h1 o md s1 → pb_rep s1 P → md_eq [41] [40, 42, 43] [] s s1 → kp h h1 (md_L o md) → pr_rl (s.2.1 5) (s.2.1 6) (s.2.1 10) b m r P P' → aw G 4 M 7 [.ref o, .int (nI r), .int v2, .int v3] [] h1 0 0 := by
  intro m
  induction m with
  | zero =>
    intro r P h1 s1 v2 v3 hr K R F kq hgo
    have hr2 : r = n := by omega
    have e8 : s1.2.1 8 = s.2.1 8 := F.2.1 8 (by decide)
    refine aw_iload_n C dX9_print_7 rfl rfl (q := 8) rfl ?_
    refine aw_aload_n C dX9_print_8 rfl rfl (q := 9) rfl ?_
    refine gfX9_22_9 (v := .ref (md 8)) C dX9_print_9 K.1 rfl (q := 12) rfl ?_
    refine aw_iconst (v := 0) C dX9_print_12 (by decide) (q := 13) rfl ?_
    refine ay_iald (N := 7) (f := s1.2.1 8) (j := 0) C dX9_print_13 (K.2.1 8 (by decide)) (vp_in_nI (by decide) (by decide)) (rfl) (q := 14) rfl ?_
    refine aw_icmp_ge (t := 134) (q := 17) C dX9_print_14 (by decide) rfl (fun c_14 => ?_) (fun c_14 => absurd c_14 (fun z => z (by rw [e8, hn, hr2]; exact nI_le (Nat.le_refl _) (by omega))))
    refine aw_vret C E dX9_print_134 (Nat.le_refl _) (Nat.le_refl _) ?_
    have e : P' = P := hgo
    subst e
    exact ⟨s1, rfl, K, R, F, kq⟩
  | succ m ih =>
    intro r P h1 s1 v2 v3 hr K R F kq hgo
    obtain ⟨gB, P2, go, gr⟩ := hgo
    have e8 : s1.2.1 8 = s.2.1 8 := F.2.1 8 (by decide)
    refine aw_iload_n C dX9_print_7 rfl rfl (q := 8) rfl ?_
    refine aw_aload_n C dX9_print_8 rfl rfl (q := 9) rfl ?_
    refine gfX9_22_9 (v := .ref (md 8)) C dX9_print_9 K.1 rfl (q := 12) rfl ?_
    refine aw_iconst (v := 0) C dX9_print_12 (by decide) (q := 13) rfl ?_
    refine ay_iald (N := 7) (f := s1.2.1 8) (j := 0) C dX9_print_13 (K.2.1 8 (by decide)) (vp_in_nI (by decide) (by decide)) (rfl) (q := 14) rfl ?_
    refine aw_icmp_ge (t := 134) (q := 17) C dX9_print_14 (by decide) rfl (fun c_14 => absurd c_14 (by rw [e8, hn]; exact ni_nge r n rfl rfl (by omega) (by omega) (by omega))) (fun c_14 => ?_)
    refine aw_iload_n C dX9_print_17 rfl rfl (q := 18) rfl ?_
    refine aw_if_le (t := 27) (q := 21) C dX9_print_18 (by decide) rfl (fun c_18 => ?_) (fun c_18 => ?_)
    ·
      refine aw_aload_n C dX9_print_27 rfl rfl (q := 28) rfl ?_
      refine aw_bipush (v := 48) C dX9_print_28 (by decide) (q := 30) rfl ?_
      refine aw_aload_n C dX9_print_30 rfl rfl (q := 31) rfl ?_
      refine gfX9_28_9 (v := .ref (md 10)) C dX9_print_31 K.1 rfl (q := 34) rfl ?_
      refine aw_iload_n C dX9_print_34 rfl rfl (q := 35) rfl ?_
      refine ay_iald (N := 91) (f := s1.2.1 10) (j := r) C dX9_print_35 (K.2.1 10 (by decide)) (vp_in_nI (by omega) (by decide)) (nI_clamp (by omega)) (q := 36) rfl ?_
      rw [show s1.2.1 10 r = s.2.1 10 r from by rw [show s1.2.1 10 = s.2.1 10 from F.2.1 10 (by decide)]]
      refine aw_iadd C dX9_print_36 (q := 37) rfl ?_
      refine cvX9_171_9 (As := [.int (48 + (s.2.1 10 r))]) (rest := []) C B9 dX9_print_37 K.1 (m_add G M.2.1 o md hm h1 (d + 3) s1 K (P) R (by omega) (48 + (s.2.1 10 r))) rfl rfl (Nat.le_of_ble_eq_true rfl) (by omega) (by omega) (by omega) (q := 40) rfl (fun r9 h_1 hr9 => ?_)
      obtain ⟨s_2, er9, K_3, R_4, F_5, kpx_7⟩ := hr9
      subst er9
      have F_6 : md_eq [41] [40, 42, 43] [] s s_2 := md_eq_tr F F_5 (by decide) (by decide) (by decide)
      have kq_8 : kp h h_1 (md_L o md) := kp_in kq kpx_7 (fun _ z => z)
      show aw G 4 M 40 [.ref o, .int (nI r), .int v2, .int v3] [] h_1 0 0
      refine aw_aload_n C dX9_print_40 rfl rfl (q := 41) rfl ?_
      refine aw_bipush (v := 58) C dX9_print_41 (by decide) (q := 43) rfl ?_
      refine cvX9_171_9 (As := [.int 58]) (rest := []) C B9 dX9_print_43 K_3.1 (m_add G M.2.1 o md hm h_1 (d + 3) s_2 K_3 (P ++ [48 + (s.2.1 10 r)]) R_4 (by simp only [List.length_append, List.length_cons, List.length_nil]; omega) 58) rfl rfl (Nat.le_of_ble_eq_true rfl) (by omega) (by omega) (by omega) (q := 46) rfl (fun r9 h_9 hr9 => ?_)
      obtain ⟨s_10, er9, K_11, R_12, F_13, kpx_15⟩ := hr9
      subst er9
      have F_14 : md_eq [41] [40, 42, 43] [] s s_10 := md_eq_tr F_6 F_13 (by decide) (by decide) (by decide)
      have kq_16 : kp h h_9 (md_L o md) := kp_in kq_8 kpx_15 (fun _ z => z)
      show aw G 4 M 46 [.ref o, .int (nI r), .int v2, .int v3] [] h_9 0 0
      refine aw_iconst (v := 0) C dX9_print_46 (by decide) (q := 47) rfl ?_
      refine aw_istore_n (ls' := [.ref o, .int (nI r), .int 0, .int v3]) C dX9_print_47 rfl (by decide) rfl (q := 48) rfl ?_
      refine aw_aload_n C dX9_print_48 rfl rfl (q := 49) rfl ?_
      refine gfX9_25_9 (v := .ref (md 9)) C dX9_print_49 K_11.1 rfl (q := 52) rfl ?_
      refine aw_iload_n C dX9_print_52 rfl rfl (q := 53) rfl ?_
      refine ay_iald (N := 91) (f := s_10.2.1 9) (j := r) C dX9_print_53 (K_11.2.1 9 (by decide)) (vp_in_nI (by omega) (by decide)) (nI_clamp (by omega)) (q := 54) rfl ?_
      rw [show s_10.2.1 9 r = nI (b r) from by rw [show s_10.2.1 9 = s.2.1 9 from F_14.2.1 9 (by decide)]; exact hb r (by omega)]
      refine aw_istore_n (ls' := [.ref o, .int (nI r), .int 0, .int (nI (b r))]) C dX9_print_54 rfl (by decide) rfl (q := 55) rfl ?_
      rw [if_pos (by have := (nI_leI (a := r) (b := 0) (by omega) (by decide)).mp c_18; omega)] at go
      have hbb := hb4 r (by omega)
      refine ml_pgo hm (r := r) (b0 := b r) (b1 := b (r + 1)) (P' := P2) (s := s) (by omega) (hb r (by omega)) (hb (r + 1) (by omega)) hbb.2 C B9 (fun h2 s2 v2 K2 R2 F2 q2 => ?_) (b (r + 1) - b r) (b r) (P ++ [48 + (s.2.1 10 r)] ++ [58]) [] h_9 s_10 (by omega) (Nat.le_refl _) K_11 ⟨by rw [show P ++ [48 + (s.2.1 10 r)] ++ [58] ++ pr_cat [] = P ++ [48 + (s.2.1 10 r)] ++ [58] from List.append_nil _]; exact R_12, True.intro⟩ F_14 kq_16 go
      refine aw_iinc (v := nI (r + 1)) (ls' := [.ref o, .int (nI (r + 1)), .int v2, .int (nI (b (r + 1)))]) C dX9_print_128 rfl (nI_1 r) (by decide) rfl (q := 131) rfl ?_
      refine aw_goto (q := 7) C dX9_print_131 (by decide) ?_
      exact ih (r + 1) P2 h2 s2 v2 _ (by omega) K2 R2 F2 q2 gr
    ·
      refine aw_aload_n C dX9_print_21 rfl rfl (q := 22) rfl ?_
      refine aw_bipush (v := 59) C dX9_print_22 (by decide) (q := 24) rfl ?_
      refine cvX9_171_9 (As := [.int 59]) (rest := []) C B9 dX9_print_24 K.1 (m_add G M.2.1 o md hm h1 (d + 3) s1 K (P) R (by omega) 59) rfl rfl (Nat.le_of_ble_eq_true rfl) (by omega) (by omega) (by omega) (q := 27) rfl (fun r9 h_17 hr9 => ?_)
      obtain ⟨s_18, er9, K_19, R_20, F_21, kpx_23⟩ := hr9
      subst er9
      have F_22 : md_eq [41] [40, 42, 43] [] s s_18 := md_eq_tr F F_21 (by decide) (by decide) (by decide)
      have kq_24 : kp h h_17 (md_L o md) := kp_in kq kpx_23 (fun _ z => z)
      show aw G 4 M 27 [.ref o, .int (nI r), .int v2, .int v3] [] h_17 0 0
      refine aw_aload_n C dX9_print_27 rfl rfl (q := 28) rfl ?_
      refine aw_bipush (v := 48) C dX9_print_28 (by decide) (q := 30) rfl ?_
      refine aw_aload_n C dX9_print_30 rfl rfl (q := 31) rfl ?_
      refine gfX9_28_9 (v := .ref (md 10)) C dX9_print_31 K_19.1 rfl (q := 34) rfl ?_
      refine aw_iload_n C dX9_print_34 rfl rfl (q := 35) rfl ?_
      refine ay_iald (N := 91) (f := s_18.2.1 10) (j := r) C dX9_print_35 (K_19.2.1 10 (by decide)) (vp_in_nI (by omega) (by decide)) (nI_clamp (by omega)) (q := 36) rfl ?_
      rw [show s_18.2.1 10 r = s.2.1 10 r from by rw [show s_18.2.1 10 = s.2.1 10 from F_22.2.1 10 (by decide)]]
      refine aw_iadd C dX9_print_36 (q := 37) rfl ?_
      refine cvX9_171_9 (As := [.int (48 + (s.2.1 10 r))]) (rest := []) C B9 dX9_print_37 K_19.1 (m_add G M.2.1 o md hm h_17 (d + 3) s_18 K_19 (P ++ [59]) R_20 (by simp only [List.length_append, List.length_cons, List.length_nil]; omega) (48 + (s.2.1 10 r))) rfl rfl (Nat.le_of_ble_eq_true rfl) (by omega) (by omega) (by omega) (q := 40) rfl (fun r9 h_25 hr9 => ?_)
      obtain ⟨s_26, er9, K_27, R_28, F_29, kpx_31⟩ := hr9
      subst er9
      have F_30 : md_eq [41] [40, 42, 43] [] s s_26 := md_eq_tr F_22 F_29 (by decide) (by decide) (by decide)
      have kq_32 : kp h h_25 (md_L o md) := kp_in kq_24 kpx_31 (fun _ z => z)
      show aw G 4 M 40 [.ref o, .int (nI r), .int v2, .int v3] [] h_25 0 0
      refine aw_aload_n C dX9_print_40 rfl rfl (q := 41) rfl ?_
      refine aw_bipush (v := 58) C dX9_print_41 (by decide) (q := 43) rfl ?_
      refine cvX9_171_9 (As := [.int 58]) (rest := []) C B9 dX9_print_43 K_27.1 (m_add G M.2.1 o md hm h_25 (d + 3) s_26 K_27 (P ++ [59] ++ [48 + (s.2.1 10 r)]) R_28 (by simp only [List.length_append, List.length_cons, List.length_nil]; omega) 58) rfl rfl (Nat.le_of_ble_eq_true rfl) (by omega) (by omega) (by omega) (q := 46) rfl (fun r9 h_33 hr9 => ?_)
      obtain ⟨s_34, er9, K_35, R_36, F_37, kpx_39⟩ := hr9
      subst er9
      have F_38 : md_eq [41] [40, 42, 43] [] s s_34 := md_eq_tr F_30 F_37 (by decide) (by decide) (by decide)
      have kq_40 : kp h h_33 (md_L o md) := kp_in kq_32 kpx_39 (fun _ z => z)
      show aw G 4 M 46 [.ref o, .int (nI r), .int v2, .int v3] [] h_33 0 0
      refine aw_iconst (v := 0) C dX9_print_46 (by decide) (q := 47) rfl ?_
      refine aw_istore_n (ls' := [.ref o, .int (nI r), .int 0, .int v3]) C dX9_print_47 rfl (by decide) rfl (q := 48) rfl ?_
      refine aw_aload_n C dX9_print_48 rfl rfl (q := 49) rfl ?_
      refine gfX9_25_9 (v := .ref (md 9)) C dX9_print_49 K_35.1 rfl (q := 52) rfl ?_
      refine aw_iload_n C dX9_print_52 rfl rfl (q := 53) rfl ?_
      refine ay_iald (N := 91) (f := s_34.2.1 9) (j := r) C dX9_print_53 (K_35.2.1 9 (by decide)) (vp_in_nI (by omega) (by decide)) (nI_clamp (by omega)) (q := 54) rfl ?_
      rw [show s_34.2.1 9 r = nI (b r) from by rw [show s_34.2.1 9 = s.2.1 9 from F_38.2.1 9 (by decide)]; exact hb r (by omega)]
      refine aw_istore_n (ls' := [.ref o, .int (nI r), .int 0, .int (nI (b r))]) C dX9_print_54 rfl (by decide) rfl (q := 55) rfl ?_
      rw [if_neg (fun z => by rw [z] at c_18; exact c_18 (by decide))] at go
      have hbb := hb4 r (by omega)
      refine ml_pgo hm (r := r) (b0 := b r) (b1 := b (r + 1)) (P' := P2) (s := s) (by omega) (hb r (by omega)) (hb (r + 1) (by omega)) hbb.2 C B9 (fun h2 s2 v2 K2 R2 F2 q2 => ?_) (b (r + 1) - b r) (b r) (P ++ [59] ++ [48 + (s.2.1 10 r)] ++ [58]) [] h_33 s_34 (by omega) (Nat.le_refl _) K_35 ⟨by rw [show P ++ [59] ++ [48 + (s.2.1 10 r)] ++ [58] ++ pr_cat [] = P ++ [59] ++ [48 + (s.2.1 10 r)] ++ [58] from List.append_nil _]; exact R_36, True.intro⟩ F_38 kq_40 go
      refine aw_iinc (v := nI (r + 1)) (ls' := [.ref o, .int (nI (r + 1)), .int v2, .int (nI (b (r + 1)))]) C dX9_print_128 rfl (nI_1 r) (by decide) rfl (q := 131) rfl ?_
      refine aw_goto (q := 7) C dX9_print_131 (by decide) ?_
      exact ih (r + 1) P2 h2 s2 v2 _ (by omega) K2 R2 F2 q2 gr
set_option maxHeartbeats 4000000 in
set_option maxRecDepth 100000 in
theorem ml_prl0 {G : ac_G} {M : ac_M} {o : Nat} {md : Nat → Nat} (hm : md_inj md) {h h1 : ac_H} {d : Nat} {s : md_S} {n : Nat} {b : Nat → Nat} {P' : List Int32} (hn : s.2.1 8 0 = nI n) (hn12 : n ≤ 12) (hb : ∀ r, r ≤ n → s.2.1 9 r = nI (b r)) (hb4 : ∀ r, r < n → b r ≤ b (r + 1) ∧ b (r + 1) ≤ 400) (C : ac_MC G RX9 cX9_print 4 none M) (B9 : ac_Bd M (d + 4) 0 0) (E : ac_End G (fun r9 h9 => ∃ s' : md_S, r9 = none ∧ md_ok h9 o md s' ∧ pb_rep s' P' ∧ md_eq [41] [40, 42, 43] [] s s' ∧ kp h h9 (md_L o md)) 0 0 M) (K : md_ok h1 o md (upd s.1 41 0, s.2.1, s.2.2)) (kq : kp h h1 (md_L o md)) (hgo : pr_rl (s.2.1 5) (s.2.1 6) (s.2.1 10) b n 0 [] P') : aw G 4 M 7 [.ref o, .int 0, .retAddr 0, .retAddr 0] [] h1 0 0 := by
  have F : md_eq [41] [40, 42, 43] [] s (upd s.1 41 0, s.2.1, s.2.2) := md_eq_J md_eq_rf _ (by decide)
  have R : pb_rep (upd s.1 41 0, s.2.1, s.2.2) [] := ⟨rfl, fun i hi => absurd hi (by simp)⟩
  cases n with
  | zero =>
    refine aw_iload_n C dX9_print_7 rfl rfl (q := 8) rfl ?_
    refine aw_aload_n C dX9_print_8 rfl rfl (q := 9) rfl ?_
    refine gfX9_22_9 (v := .ref (md 8)) C dX9_print_9 K.1 rfl (q := 12) rfl ?_
    refine aw_iconst (v := 0) C dX9_print_12 (by decide) (q := 13) rfl ?_
    refine ay_iald (N := 7) (f := s.2.1 8) (j := 0) C dX9_print_13 (K.2.1 8 (by decide)) (vp_in_nI (by decide) (by decide)) (rfl) (q := 14) rfl ?_
    refine aw_icmp_ge (t := 134) (q := 17) C dX9_print_14 (by decide) rfl (fun c_14 => ?_) (fun c_14 => absurd c_14 (fun z => z (by rw [hn]; decide)))
    refine aw_vret C E dX9_print_134 (Nat.le_refl _) (Nat.le_refl _) ?_
    have e : P' = [] := hgo
    subst e
    exact ⟨_, rfl, K, R, F, kq⟩
  | succ n =>
    obtain ⟨gB, P2, go, gr⟩ := hgo
    obtain ⟨s1, es1⟩ : ∃ z : md_S, z = (upd s.1 41 0, s.2.1, s.2.2) := ⟨_, rfl⟩
    rw [← es1] at K F R
    have e8 : s1.2.1 8 = s.2.1 8 := F.2.1 8 (by decide)
    refine aw_iload_n C dX9_print_7 rfl rfl (q := 8) rfl ?_
    refine aw_aload_n C dX9_print_8 rfl rfl (q := 9) rfl ?_
    refine gfX9_22_9 (v := .ref (md 8)) C dX9_print_9 K.1 rfl (q := 12) rfl ?_
    refine aw_iconst (v := 0) C dX9_print_12 (by decide) (q := 13) rfl ?_
    refine ay_iald (N := 7) (f := s1.2.1 8) (j := 0) C dX9_print_13 (K.2.1 8 (by decide)) (vp_in_nI (by decide) (by decide)) (rfl) (q := 14) rfl ?_
    refine aw_icmp_ge (t := 134) (q := 17) C dX9_print_14 (by decide) rfl (fun c_14 => absurd c_14 (by rw [e8, hn]; exact ni_nge 0 (n + 1) rfl rfl (by omega) (by omega) (by omega))) (fun c_14 => ?_)
    refine aw_iload_n C dX9_print_17 rfl rfl (q := 18) rfl ?_
    refine aw_if_le (t := 27) (q := 21) C dX9_print_18 (by decide) rfl (fun c_18 => ?_) (fun c_18 => absurd c_18 (by decide))
    refine aw_aload_n C dX9_print_27 rfl rfl (q := 28) rfl ?_
    refine aw_bipush (v := 48) C dX9_print_28 (by decide) (q := 30) rfl ?_
    refine aw_aload_n C dX9_print_30 rfl rfl (q := 31) rfl ?_
    refine gfX9_28_9 (v := .ref (md 10)) C dX9_print_31 K.1 rfl (q := 34) rfl ?_
    refine aw_iload_n C dX9_print_34 rfl rfl (q := 35) rfl ?_
    refine ay_iald (N := 91) (f := s1.2.1 10) (j := 0) C dX9_print_35 (K.2.1 10 (by decide)) (vp_in_nI (by decide) (by decide)) (rfl) (q := 36) rfl ?_
    rw [show s1.2.1 10 0 = s.2.1 10 0 from by rw [show s1.2.1 10 = s.2.1 10 from F.2.1 10 (by decide)]]
    refine aw_iadd C dX9_print_36 (q := 37) rfl ?_
    refine cvX9_171_9 (As := [.int (48 + (s.2.1 10 0))]) (rest := []) C B9 dX9_print_37 K.1 (m_add G M.2.1 o md hm h1 (d + 3) s1 K (([] : List Int32)) R (by simp only [List.length_append, List.length_cons, List.length_nil]; omega) (48 + (s.2.1 10 0))) rfl rfl (Nat.le_of_ble_eq_true rfl) (by omega) (by omega) (by omega) (q := 40) rfl (fun r9 h_1 hr9 => ?_)
    obtain ⟨s_2, er9, K_3, R_4, F_5, kpx_7⟩ := hr9
    subst er9
    have F_6 : md_eq [41] [40, 42, 43] [] s s_2 := md_eq_tr F F_5 (by decide) (by decide) (by decide)
    have kq_8 : kp h h_1 (md_L o md) := kp_in kq kpx_7 (fun _ z => z)
    show aw G 4 M 40 [.ref o, .int 0, .retAddr 0, .retAddr 0] [] h_1 0 0
    refine aw_aload_n C dX9_print_40 rfl rfl (q := 41) rfl ?_
    refine aw_bipush (v := 58) C dX9_print_41 (by decide) (q := 43) rfl ?_
    refine cvX9_171_9 (As := [.int 58]) (rest := []) C B9 dX9_print_43 K_3.1 (m_add G M.2.1 o md hm h_1 (d + 3) s_2 K_3 (([] : List Int32) ++ [48 + (s.2.1 10 0)]) R_4 (by simp only [List.length_append, List.length_cons, List.length_nil]; omega) 58) rfl rfl (Nat.le_of_ble_eq_true rfl) (by omega) (by omega) (by omega) (q := 46) rfl (fun r9 h_9 hr9 => ?_)
    obtain ⟨s_10, er9, K_11, R_12, F_13, kpx_15⟩ := hr9
    subst er9
    have F_14 : md_eq [41] [40, 42, 43] [] s s_10 := md_eq_tr F_6 F_13 (by decide) (by decide) (by decide)
    have kq_16 : kp h h_9 (md_L o md) := kp_in kq_8 kpx_15 (fun _ z => z)
    show aw G 4 M 46 [.ref o, .int 0, .retAddr 0, .retAddr 0] [] h_9 0 0
    refine aw_iconst (v := 0) C dX9_print_46 (by decide) (q := 47) rfl ?_
    refine aw_istore_n (ls' := [.ref o, .int 0, .int 0, .retAddr 0]) C dX9_print_47 rfl (by decide) rfl (q := 48) rfl ?_
    refine aw_aload_n C dX9_print_48 rfl rfl (q := 49) rfl ?_
    refine gfX9_25_9 (v := .ref (md 9)) C dX9_print_49 K_11.1 rfl (q := 52) rfl ?_
    refine aw_iload_n C dX9_print_52 rfl rfl (q := 53) rfl ?_
    refine ay_iald (N := 91) (f := s_10.2.1 9) (j := 0) C dX9_print_53 (K_11.2.1 9 (by decide)) (vp_in_nI (by decide) (by decide)) (rfl) (q := 54) rfl ?_
    rw [show s_10.2.1 9 0 = nI (b 0) from by rw [show s_10.2.1 9 = s.2.1 9 from F_14.2.1 9 (by decide)]; exact hb 0 (by omega)]
    refine aw_istore_n (ls' := [.ref o, .int 0, .int 0, .int (nI (b 0))]) C dX9_print_54 rfl (by decide) rfl (q := 55) rfl ?_
    have hbb := hb4 0 (by omega)
    refine ml_pgo hm (r := 0) (b0 := b 0) (b1 := b (0 + 1)) (P' := P2) (s := s) (by omega) (hb 0 (by omega)) (hb (0 + 1) (by omega)) hbb.2 C B9 (fun h2 s2 v2 K2 R2 F2 q2 => ?_) (b (0 + 1) - b 0) (b 0) (([] : List Int32) ++ [48 + (s.2.1 10 0)] ++ [58]) [] h_9 s_10 (by omega) (Nat.le_refl _) K_11 ⟨by rw [show ([] : List Int32) ++ [48 + (s.2.1 10 0)] ++ [58] ++ pr_cat [] = ([] : List Int32) ++ [48 + (s.2.1 10 0)] ++ [58] from List.append_nil _]; exact R_12, True.intro⟩ F_14 kq_16 go
    refine aw_iinc (v := nI (0 + 1)) (ls' := [.ref o, .int (nI (0 + 1)), .int v2, .int (nI (b (0 + 1)))]) C dX9_print_128 rfl (nI_1 0) (by decide) rfl (q := 131) rfl ?_
    refine aw_goto (q := 7) C dX9_print_131 (by decide) ?_
    exact ml_prl hm hn hn12 hb hb4 C B9 E n (0 + 1) P2 h2 s2 v2 _ (by omega) K2 R2 F2 q2 gr
set_option maxHeartbeats 4000000 in
set_option maxRecDepth 100000 in
theorem m_print (G : ac_G) (l : Launch) (o : Nat) (md : Nat → Nat) (hm : md_inj md) (h : ac_H) (d : Nat) (s : md_S) (K : md_ok h o md s) (n : Nat) (b : Nat → Nat) (P' : List Int32) (hn : s.2.1 8 0 = nI n) (hn12 : n ≤ 12) (hb : ∀ r, r ≤ n → s.2.1 9 r = nI (b r)) (hb4 : ∀ r, r < n → b r ≤ b (r + 1) ∧ b (r + 1) ≤ 400) (hgo : pr_rl (s.2.1 5) (s.2.1 6) (s.2.1 10) b n 0 [] P') : ac_Met G l yX9_print cX9_print 4 none (d + 4) 0 0 [.ref o] h (fun r9 h9 => ∃ s' : md_S, r9 = none ∧ md_ok h9 o md s' ∧ pb_rep s' P' ∧ md_eq [41] [40, 42, 43] [] s s' ∧ kp h h9 (md_L o md)) := by
  refine ac_of (ls := [.ref o, .retAddr 0, .retAddr 0, .retAddr 0]) (by decide +kernel) rfl (Nat.le_of_ble_eq_true rfl) (fun M hl C B9 E hnm => ?_)
  skip
  refine aw_aload_n C dX9_print_0 rfl rfl (q := 1) rfl ?_
  refine aw_iconst (v := 0) C dX9_print_1 (by decide) (q := 2) rfl ?_
  refine pfX9_168_9 C dX9_print_2 K.1 rfl rfl (Nat.le_of_ble_eq_true rfl) (q := 5) rfl ?_
  show aw G 4 M 5 [.ref o, .retAddr 0, .retAddr 0, .retAddr 0] [] (ac_up h o (.inr (9, md_fs md ((upd s.1 41 0, s.2.1, s.2.2).1)))) 0 0
  obtain ⟨h_1, eh_1⟩ : ∃ z9, z9 = ac_up h o (.inr (9, md_fs md ((upd s.1 41 0, s.2.1, s.2.2).1))) := ⟨_, rfl⟩
  rw [← eh_1]
  have kpx_4 : kp h h_1 [o] := by rw [eh_1]; exact kp_up (kp_cons o kp_rf) _ _ (by simp)
  have K_2 : md_ok h_1 o md (upd s.1 41 0, s.2.1, s.2.2) := md_J (s := (s.1, s.2.1, s.2.2)) K (by rw [eh_1]; exact ac_up_s _ _ _) kpx_4
  have kq_3 : kp h h_1 (md_L o md) := kp_mono kpx_4 md_s0
  refine aw_iconst (v := 0) C dX9_print_5 (by decide) (q := 6) rfl ?_
  refine aw_istore_n (ls' := [.ref o, .int 0, .retAddr 0, .retAddr 0]) C dX9_print_6 rfl (by decide) rfl (q := 7) rfl ?_
  exact ml_prl0 hm hn hn12 hb hb4 C B9 E K_2 kq_3 hgo
set_option maxHeartbeats 4000000 in
set_option maxRecDepth 100000 in
theorem m_write1 (G : ac_G) (l : Launch) (o : Nat) (md : Nat → Nat) (hm : md_inj md) (h : ac_H) (d : Nat) (s : md_S) (K : md_ok h o md s) (h11 : s.1 11 = 0) (i : Int32) : ac_Met G l yX9_write cX9_write 2 (some .int) d 0 0 [.ref o, .int i] h (fun r9 h9 => r9 = some (.int 0) ∧ md_ok h9 o md (upd s.1 0 1, s.2.1, s.2.2) ∧ kp h h9 (md_L o md)) := by
  refine ac_of (ls := [.ref o, .int i]) (by decide +kernel) rfl (Nat.le_of_ble_eq_true rfl) (fun M hl C B E hnm => ?_)
  refine aw_aload_n C dX9_write_0 rfl rfl (q := 1) rfl ?_
  refine aw_aload_n C dX9_write_1 rfl rfl (q := 2) rfl ?_
  refine gfX9_164_9 (v := .int (s.1 11)) C dX9_write_2 K.1 rfl (q := 5) rfl ?_
  refine aw_if_ne (t := 12) (q := 8) C dX9_write_5 (by decide) rfl (fun c_5 => absurd c_5 (fun z => z h11)) (fun c_5 => ?_)
  refine aw_iconst (v := 1) C dX9_write_8 (by decide) (q := 9) rfl ?_
  refine aw_goto (q := 21) C dX9_write_9 (by decide) ?_
  refine pfX9_89_9 C dX9_write_21 K.1 rfl rfl (Nat.le_of_ble_eq_true rfl) (q := 24) rfl ?_
  show aw G 2 M 24 [.ref o, .int i] [] (ac_up h o (.inr (9, md_fs md ((upd s.1 0 1, s.2.1, s.2.2).1)))) 0 0
  obtain ⟨h_1, eh_1⟩ : ∃ z9, z9 = ac_up h o (.inr (9, md_fs md ((upd s.1 0 1, s.2.1, s.2.2).1))) := ⟨_, rfl⟩
  rw [← eh_1]
  have kpx_4 : kp h h_1 [o] := by rw [eh_1]; exact kp_up (kp_cons o kp_rf) _ _ (by simp)
  have K_2 : md_ok h_1 o md (upd s.1 0 1, s.2.1, s.2.2) := md_J (s := (s.1, s.2.1, s.2.2)) K (by rw [eh_1]; exact ac_up_s _ _ _) kpx_4
  have kq_3 : kp h h_1 (md_L o md) := kp_mono kpx_4 md_s0
  refine aw_aload_n C dX9_write_24 rfl rfl (q := 25) rfl ?_
  refine gfX9_89_9 (v := .int 1) C dX9_write_25 K_2.1 rfl (q := 28) rfl ?_
  refine aw_if_le (t := 33) (q := 31) C dX9_write_28 (by decide) rfl (fun c_28 => absurd c_28 (by decide)) (fun c_28 => ?_)
  refine aw_iconst (v := 0) C dX9_write_31 (by decide) (q := 32) rfl ?_
  refine aw_iret C E dX9_write_32 (Nat.le_refl _) (Nat.le_refl _) ?_
  exact ⟨rfl, K_2, kq_3⟩
set_option maxHeartbeats 4000000 in
set_option maxRecDepth 100000 in
theorem m_write2 (G : ac_G) (l : Launch) (o : Nat) (md : Nat → Nat) (hm : md_inj md) (h : ac_H) (d : Nat) (s : md_S) (K : md_ok h o md s) (h11 : ¬ s.1 11 = 0) (i : Int32) (hi : i < 0) : ac_Met G l yX9_write cX9_write 2 (some .int) d 0 0 [.ref o, .int i] h (fun r9 h9 => r9 = some (.int 0) ∧ md_ok h9 o md (upd s.1 0 2, s.2.1, s.2.2) ∧ kp h h9 (md_L o md)) := by
  refine ac_of (ls := [.ref o, .int i]) (by decide +kernel) rfl (Nat.le_of_ble_eq_true rfl) (fun M hl C B E hnm => ?_)
  refine aw_aload_n C dX9_write_0 rfl rfl (q := 1) rfl ?_
  refine aw_aload_n C dX9_write_1 rfl rfl (q := 2) rfl ?_
  refine gfX9_164_9 (v := .int (s.1 11)) C dX9_write_2 K.1 rfl (q := 5) rfl ?_
  refine aw_if_ne (t := 12) (q := 8) C dX9_write_5 (by decide) rfl (fun c_5 => ?_) (fun c_5 => absurd c_5 (h11))
  refine aw_iload_n C dX9_write_12 rfl rfl (q := 13) rfl ?_
  refine aw_if_ge (t := 20) (q := 16) C dX9_write_13 (by decide) rfl (fun c_13 => absurd c_13 (Int32.not_le.mpr hi)) (fun c_13 => ?_)
  refine aw_iconst (v := 2) C dX9_write_16 (by decide) (q := 17) rfl ?_
  refine aw_goto (q := 21) C dX9_write_17 (by decide) ?_
  refine pfX9_89_9 C dX9_write_21 K.1 rfl rfl (Nat.le_of_ble_eq_true rfl) (q := 24) rfl ?_
  show aw G 2 M 24 [.ref o, .int i] [] (ac_up h o (.inr (9, md_fs md ((upd s.1 0 2, s.2.1, s.2.2).1)))) 0 0
  obtain ⟨h_1, eh_1⟩ : ∃ z9, z9 = ac_up h o (.inr (9, md_fs md ((upd s.1 0 2, s.2.1, s.2.2).1))) := ⟨_, rfl⟩
  rw [← eh_1]
  have kpx_4 : kp h h_1 [o] := by rw [eh_1]; exact kp_up (kp_cons o kp_rf) _ _ (by simp)
  have K_2 : md_ok h_1 o md (upd s.1 0 2, s.2.1, s.2.2) := md_J (s := (s.1, s.2.1, s.2.2)) K (by rw [eh_1]; exact ac_up_s _ _ _) kpx_4
  have kq_3 : kp h h_1 (md_L o md) := kp_mono kpx_4 md_s0
  refine aw_aload_n C dX9_write_24 rfl rfl (q := 25) rfl ?_
  refine gfX9_89_9 (v := .int 2) C dX9_write_25 K_2.1 rfl (q := 28) rfl ?_
  refine aw_if_le (t := 33) (q := 31) C dX9_write_28 (by decide) rfl (fun c_28 => absurd c_28 (by decide)) (fun c_28 => ?_)
  refine aw_iconst (v := 0) C dX9_write_31 (by decide) (q := 32) rfl ?_
  refine aw_iret C E dX9_write_32 (Nat.le_refl _) (Nat.le_refl _) ?_
  exact ⟨rfl, K_2, kq_3⟩
theorem pr_cl {i : Int32} {n : Nat} (h0 : ¬ i < 0) (hn : n ≤ 800) (h : i < nI n) : i.toNatClampNeg < n := by
  rw [Int32.lt_iff_toInt_lt, show Int32.toInt 0 = 0 from rfl] at h0
  rw [Int32.lt_iff_toInt_lt, nI_toInt (by omega)] at h
  show i.toInt.toNat < n
  omega
theorem pr_vin {i : Int32} {n N : Nat} (h0 : ¬ i < 0) (h : i.toNatClampNeg < n) (hn : n ≤ N) : vp_in i N := by
  rintro (z | z)
  · exact h0 z
  · omega
set_option maxHeartbeats 4000000 in
set_option maxRecDepth 100000 in
theorem m_write0 (G : ac_G) (l : Launch) (o : Nat) (md : Nat → Nat) (hm : md_inj md) (h : ac_H) (d : Nat) (s : md_S) (K : md_ok h o md s) (h11 : ¬ s.1 11 = 0) (i : Int32) (hi0 : ¬ i < 0) (n : Nat) (b : Nat → Nat) (P' : List Int32) (hn : s.2.1 8 0 = nI n) (hn12 : n ≤ 12) (hb : ∀ r, r ≤ n → s.2.1 9 r = nI (b r)) (hb4 : ∀ r, r < n → b r ≤ b (r + 1) ∧ b (r + 1) ≤ 400) (hgo : pr_rl (s.2.1 5) (s.2.1 6) (s.2.1 10) b n 0 [] P') (hP : P'.length ≤ 800) : ac_Met G l yX9_write cX9_write 2 (some .int) (d + 5) 0 0 [.ref o, .int i] h (fun r9 h9 => ∃ s' : md_S, r9 = some (.int (if i < nI P'.length then gl P' i.toNatClampNeg else -1)) ∧ md_ok h9 o md s' ∧ md_eq [0, 41] [40, 42, 43] [] s s' ∧ s'.1 0 = 0 ∧ kp h h9 (md_L o md)) := by
  refine ac_of (ls := [.ref o, .int i]) (by decide +kernel) rfl (Nat.le_of_ble_eq_true rfl) (fun M hl C B E hnm => ?_)
  refine aw_aload_n C dX9_write_0 rfl rfl (q := 1) rfl ?_
  refine aw_aload_n C dX9_write_1 rfl rfl (q := 2) rfl ?_
  refine gfX9_164_9 (v := .int (s.1 11)) C dX9_write_2 K.1 rfl (q := 5) rfl ?_
  refine aw_if_ne (t := 12) (q := 8) C dX9_write_5 (by decide) rfl (fun c_5 => ?_) (fun c_5 => absurd c_5 (h11))
  refine aw_iload_n C dX9_write_12 rfl rfl (q := 13) rfl ?_
  refine aw_if_ge (t := 20) (q := 16) C dX9_write_13 (by decide) rfl (fun c_13 => ?_) (fun c_13 => absurd c_13 (fun z => z (Int32.not_lt.mp hi0)))
  refine aw_iconst (v := 0) C dX9_write_20 (by decide) (q := 21) rfl ?_
  refine pfX9_89_9 C dX9_write_21 K.1 rfl rfl (Nat.le_of_ble_eq_true rfl) (q := 24) rfl ?_
  show aw G 2 M 24 [.ref o, .int i] [] (ac_up h o (.inr (9, md_fs md ((upd s.1 0 0, s.2.1, s.2.2).1)))) 0 0
  obtain ⟨h_1, eh_1⟩ : ∃ z9, z9 = ac_up h o (.inr (9, md_fs md ((upd s.1 0 0, s.2.1, s.2.2).1))) := ⟨_, rfl⟩
  rw [← eh_1]
  have kpx_4 : kp h h_1 [o] := by rw [eh_1]; exact kp_up (kp_cons o kp_rf) _ _ (by simp)
  have K_2 : md_ok h_1 o md (upd s.1 0 0, s.2.1, s.2.2) := md_J (s := (s.1, s.2.1, s.2.2)) K (by rw [eh_1]; exact ac_up_s _ _ _) kpx_4
  have kq_3 : kp h h_1 (md_L o md) := kp_mono kpx_4 md_s0
  refine aw_aload_n C dX9_write_24 rfl rfl (q := 25) rfl ?_
  refine gfX9_89_9 (v := .int 0) C dX9_write_25 K_2.1 rfl (q := 28) rfl ?_
  refine aw_if_le (t := 33) (q := 31) C dX9_write_28 (by decide) rfl (fun c_28 => ?_) (fun c_28 => absurd c_28 (by decide))
  refine aw_aload_n C dX9_write_33 rfl rfl (q := 34) rfl ?_
  refine cvX9_194_9 (As := []) (rest := []) C B dX9_write_34 K_2.1 (m_print G M.2.1 o md hm h_1 d (upd s.1 0 0, s.2.1, s.2.2) K_2 n b P' hn hn12 hb hb4 hgo) rfl rfl (Nat.le_of_ble_eq_true rfl) (by omega) (by omega) (by omega) (q := 37) rfl (fun r9 h_5 hr9 => ?_)
  obtain ⟨s2, er9, K2, R2, F2, kp2⟩ := hr9
  subst er9
  have kq2 : kp h h_5 (md_L o md) := kp_in kq_3 kp2 (fun _ z => z)
  show aw G 2 M 37 [.ref o, .int i] [] h_5 0 0
  refine aw_iload_n C dX9_write_37 rfl rfl (q := 38) rfl ?_
  refine aw_aload_n C dX9_write_38 rfl rfl (q := 39) rfl ?_
  refine gfX9_168_9 (v := .int (s2.1 41)) C dX9_write_39 K2.1 rfl (q := 42) rfl ?_
  rw [R2.1]
  refine aw_icmp_ge (t := 54) (q := 45) C dX9_write_42 (by decide) rfl (fun c_42 => ?_) (fun c_42 => ?_)
  ·
    refine aw_iconst (v := (-1)) C dX9_write_54 (by decide) (q := 55) rfl ?_
    refine aw_iret C E dX9_write_55 (Nat.le_refl _) (Nat.le_refl _) ?_
    rw [if_neg (Int32.not_lt.mpr c_42)]
    exact ⟨s2, rfl, K2, md_eq_tr (md_eq_J (s1 := s) (v := 0) (j := 0) md_eq_rf (by decide)) F2 (by decide) (by decide) (by decide), F2.1 0 (by decide), kq2⟩
  ·
    refine aw_aload_n C dX9_write_45 rfl rfl (q := 46) rfl ?_
    refine gfX9_80_9 (v := .ref (md 40)) C dX9_write_46 K2.1 rfl (q := 49) rfl ?_
    refine aw_iload_n C dX9_write_49 rfl rfl (q := 50) rfl ?_
    refine ay_iald (N := 800) (f := s2.2.1 40) (j := i.toNatClampNeg) C dX9_write_50 (K2.2.1 40 (by decide)) (pr_vin hi0 (pr_cl hi0 (by omega) (Int32.not_le.mp c_42)) (by omega)) (rfl) (q := 51) rfl ?_
    refine aw_goto (q := 55) C dX9_write_51 (by decide) ?_
    refine aw_iret C E dX9_write_55 (Nat.le_refl _) (Nat.le_refl _) ?_
    rw [if_pos (Int32.not_le.mp c_42), ← R2.2 _ (pr_cl hi0 (by omega) (Int32.not_le.mp c_42))]
    exact ⟨s2, rfl, K2, md_eq_tr (md_eq_J (s1 := s) (v := 0) (j := 0) md_eq_rf (by decide)) F2 (by decide) (by decide) (by decide), F2.1 0 (by decide), kq2⟩
