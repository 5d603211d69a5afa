/-! The law's loop -/
theorem l7_gt {L a : Nat} (hL : L ≤ 3584) (ha : a ≤ 3584) : (nI L - 7 < nI a) ↔ ¬ a + 7 ≤ L := by
  by_cases h7 : 7 ≤ L
  · rw [show (7 : Int32) = nI 7 from rfl, nI_subL h7, nI_ltI (by omega) (by omega)]
    omega
  · refine ⟨fun _ => by omega, fun _ => ?_⟩
    have h1 : nI L - 7 < 0 := by
      rcases (show L = 0 ∨ L = 1 ∨ L = 2 ∨ L = 3 ∨ L = 4 ∨ L = 5 ∨ L = 6 by omega) with rfl | rfl | rfl | rfl | rfl | rfl | rfl <;> decide
    exact Int32.lt_of_lt_of_le h1 (nI_pos' (by omega))
theorem gJ_nx {h : ac_H} {ad : Nat → Nat} {o : Nat} {md : Nat → Nat} {n : Nat} {s : md_S} (J : gJ h ad o md n s) : gJ h ad o md (n + 1) s := by
  obtain ⟨i1, i2, i3, i4, R, la, ec, E, dy, I, F, c, len, f, D, v0, oc, rc, O, ra, chg, gg, pk, W, B, j1, j2, j3, j4, j5, j6, j7, j8⟩ := J
  exact ⟨i1, i2, i3, i4, R, la, ec, E, dy, I, F, c, len, f, D, v0, oc, rc, O, ra, chg, gg, pk, W, B, j1, j2, j3, j4, j5, j6, j7, gj_z_n j8⟩
section
variable {G : ac_G} {M : ac_M} {ad : Nat → Nat} {o : Nat} {md : Nat → Nat} {b L u : Nat} {xs : Nat → Int32}
theorem law_loop (Z : lz G M ad o md b L u xs) (hend : ∀ (h : ac_H) (k n : Nat) (ls : List Value), k ≤ 4000 → n ≤ 500000 → aw G 8 M 1201 ls [.int 1] h k n) : ∀ (f m : Nat) (h : ac_H) (k n : Nat) (l5 l6 l7 : Value), L ≤ 7 * m + 7 * f → 7 * m ≤ L → li ad o md u m h → k ≤ 80 + 7 * m → n ≤ 12000 + 932 * m → aw G 8 M 23 [.ref b, .ref (ad 0), .ref o, .ref u, .int (nI (7 * m)), l5, l6, l7] [] h k n := by
  have Z0 := Z
  obtain ⟨C, B, hst, hX, hbl, hbA, hL, ua, um⟩ := Z
  intro f
  induction f with
  | zero =>
    intro m h k n l5 l6 l7 hf hm I hk hn
    refine aw_iload C dL_law_23 rfl (q := 25) rfl ?_
    refine aw_aload_n C dL_law_25 rfl rfl (q := 26) rfl ?_
    refine aw_slen C dL_law_26 hX hbl hbA (q := 27) rfl ?_
    refine aw_bipush (v := 7) C dL_law_27 (by decide) (q := 29) rfl ?_
    refine aw_isub C dL_law_29 (q := 30) rfl ?_
    refine aw_icmp_gt (t := 1200) (q := 33) C dL_law_30 (by decide) rfl (fun _ => ?_) (fun c => absurd ((l7_gt hL (by omega)).mpr (by omega)) c)
    refine aw_iconst (v := 1) C dL_law_1200 (by decide) (q := 1201) rfl ?_
    exact hend _ _ _ _ (by omega) (by omega)
  | succ f ih =>
    intro m h k n l5 l6 l7 hf hm I hk hn
    refine aw_iload C dL_law_23 rfl (q := 25) rfl ?_
    refine aw_aload_n C dL_law_25 rfl rfl (q := 26) rfl ?_
    refine aw_slen C dL_law_26 hX hbl hbA (q := 27) rfl ?_
    refine aw_bipush (v := 7) C dL_law_27 (by decide) (q := 29) rfl ?_
    refine aw_isub C dL_law_29 (q := 30) rfl ?_
    refine aw_icmp_gt (t := 1200) (q := 33) C dL_law_30 (by decide) rfl (fun _ => ?_) (fun c => ?_)
    · refine aw_iconst (v := 1) C dL_law_1200 (by decide) (q := 1201) rfl ?_
      exact hend _ _ _ _ (by omega) (by omega)
    · have h7 : 7 * m + 7 ≤ L := Classical.byContradiction fun z => c ((l7_gt hL (by omega)).mpr z)
      have kk : lk G M ad o md b u (7 * m) m k n := by
        intro h' k' n' a5 a6 a7 I' hk' hn'
        refine aw_iinc (v := nI (7 * (m + 1))) (ls' := [.ref b, .ref (ad 0), .ref o, .ref u, .int (nI (7 * (m + 1))), a5, a6, a7]) C dL_law_1194 rfl (by rw [show Int32.ofInt 7 = nI 7 by decide]; exact nI_add (7 * m) 7) (by decide) rfl (q := 1197) rfl ?_
        refine aw_goto (q := 23) C dL_law_1197 (by decide) ?_
        have b1 : k' ≤ 80 + 7 * (m + 1) := by omega
        have b2 : n' ≤ 12000 + 932 * (m + 1) := by
          rw [Nat.mul_succ, ← Nat.add_assoc]
          exact Nat.le_trans hn' (Nat.add_le_add_right hn 932)
        exact ih (m + 1) h' k' n' a5 a6 a7 (by omega) (by omega) I' b1 b2
      have x0 : vp_in (nI (7 * m)) L ∧ (nI (7 * m)).toNatClampNeg = 7 * m := ⟨vp_in_nI (by omega) (by omega), nI_clamp (by omega)⟩
      refine aw_aload_n C dL_law_33 rfl rfl (q := 34) rfl ?_
      refine aw_iload C dL_law_34 rfl (q := 36) rfl ?_
      refine aw_sld (j := 7 * m) C dL_law_36 hX hbl hbA x0 (q := 37) rfl ?_
      refine aw_bipush (v := 31) C dL_law_37 (by decide) (q := 39) rfl ?_
      refine aw_iand C dL_law_39 (q := 40) rfl ?_
      generalize xs (7 * m) &&& 31 = x
      by_cases hx : x.toInt < 0 ∨ 16 < x.toInt
      · refine aw_tableOut (q := 1194) C dL_law_40 hx (by decide) ?_
        obtain ⟨s, w, J, hu⟩ := I
        exact kk h k n l5 l6 l7 ⟨s, w, gJ_nx J, hu⟩ (by omega) (by omega)
      · have h1 : ¬ x.toInt < 0 := fun z => hx (Or.inl z)
        have h2 : ¬ 16 < x.toInt := fun z => hx (Or.inr z)
        have go : ∀ (off : Int) (q : Nat) (j : Nat), x.toInt = (j : Int) → (#[84, 109, 122, 178, 266, 326, 444, 455, 511, 599, 687, 755, 823, 902, 970, 1031, 1086] : Array Int)[j]? = some off → ((40 : Nat) : Int) + off = (q : Int) → aw G 8 M q [.ref b, .ref (ad 0), .ref o, .ref u, .int (nI (7 * m)), l5, l6, l7] [] h k n → aw G 8 M 40 [.ref b, .ref (ad 0), .ref o, .ref u, .int (nI (7 * m)), l5, l6, l7] [.int x] h k n := by
          intro off q j e ho ht ka
          refine aw_tableIn (off := off) (q := q) C dL_law_40 h1 h2 ?_ ht ka
          rw [e]
          show (#[84, 109, 122, 178, 266, 326, 444, 455, 511, 599, 687, 755, 823, 902, 970, 1031, 1086] : Array Int)[((j : Int) - 0).toNat]? = some off
          rw [show ((j : Int) - 0).toNat = j by omega]
          exact ho
        rcases (show x.toInt = 0 ∨ x.toInt = 1 ∨ x.toInt = 2 ∨ x.toInt = 3 ∨ x.toInt = 4 ∨ x.toInt = 5 ∨ x.toInt = 6 ∨ x.toInt = 7 ∨ x.toInt = 8 ∨ x.toInt = 9 ∨ x.toInt = 10 ∨ x.toInt = 11 ∨ x.toInt = 12 ∨ x.toInt = 13 ∨ x.toInt = 14 ∨ x.toInt = 15 ∨ x.toInt = 16 by omega) with e | e | e | e | e | e | e | e | e | e | e | e | e | e | e | e | e
        · exact go 84 124 0 e rfl (by decide) (law_unit Z0 I (by omega) h7 (by omega) (by omega) kk l5 l6 l7)
        · exact go 109 149 1 e rfl (by decide) (law_read Z0 I (by omega) h7 (by omega) (by omega) kk l5 l6 l7)
        · exact go 122 162 2 e rfl (by decide) (law_write Z0 I (by omega) h7 (by omega) (by omega) kk l5 l6 l7)
        · exact go 178 218 3 e rfl (by decide) (law_edition Z0 I (by omega) h7 (by omega) (by omega) kk l5 l6 l7)
        · exact go 266 306 4 e rfl (by decide) (law_board Z0 I (by omega) h7 (by omega) (by omega) kk l5 l6 l7)
        · exact go 326 366 5 e rfl (by decide) (law_fault Z0 I (by omega) h7 (by omega) (by omega) kk l5 l6 l7)
        · exact go 444 484 6 e rfl (by decide) (law_clear Z0 I (by omega) h7 (by omega) (by omega) kk l5 l6 l7)
        · exact go 455 495 7 e rfl (by decide) (law_face Z0 I (by omega) h7 (by omega) (by omega) kk l5 l6 l7)
        · exact go 511 551 8 e rfl (by decide) (law_run Z0 I (by omega) h7 (by omega) (by omega) kk l5 l6 l7)
        · exact go 599 639 9 e rfl (by decide) (law_walk Z0 I (by omega) h7 (by omega) (by omega) kk l5 l6 l7)
        · exact go 687 727 10 e rfl (by decide) (law_why Z0 I (by omega) h7 (by omega) (by omega) kk l5 l6 l7)
        · exact go 755 795 11 e rfl (by decide) (law_open Z0 I (by omega) h7 (by omega) (by omega) kk l5 l6 l7)
        · exact go 823 863 12 e rfl (by decide) (law_worst Z0 I (by omega) h7 (by omega) (by omega) kk l5 l6 l7)
        · exact go 902 942 13 e rfl (by decide) (law_raise Z0 I (by omega) h7 (by omega) (by omega) kk l5 l6 l7)
        · exact go 970 1010 14 e rfl (by decide) (law_appeal Z0 I (by omega) h7 (by omega) (by omega) kk l5 l6 l7)
        · exact go 1031 1071 15 e rfl (by decide) (law_counted Z0 I (by omega) h7 (by omega) (by omega) kk l5 l6 l7)
        · exact go 1086 1126 16 e rfl (by decide) (law_machine Z0 I (by omega) h7 (by omega) (by omega) kk l5 l6 l7)
end
