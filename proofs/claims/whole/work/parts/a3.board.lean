/-! Calls: open, board, clearFaults -/
section
variable {h : ac_H} {ad : Nat → Nat} {o : Nat} {md : Nat → Nat} {n : Nat} {s : md_S}
theorem j_open (J : gJ h ad o md n s) (k wh : Int32) : jc yX8_open cX8_open 3 (some .int) tI 10 1 6 [.ref (ad 0), .int k, .int wh] ad h [(xAIO, 1), (xIAE, 2)] (jm yX9_open cX9_open 3 (some .int) tI [.ref o, .int k, .int wh] ad o md n) := by
  have J0 := J
  obtain ⟨i1, i2, i3, i4, R, la, ec, E, dy, I, F, c, len, f, D, v0, oc, rc, O, ra, chg, gg, pk, W, B, j1, j2, j3, j4, j5, j6, j7, j8⟩ := J
  obtain ⟨k0, k1, k8, k9, k10, k11, k13, k14, k19, k22, k23, k24, k25⟩ := j2
  obtain ⟨a1, a2, a3, a4, ⟨o1, o2, o3, o4⟩, a5⟩ := j6
  have hin : gt_bl k (nI oc) → ¬ s.1 31 = 0 ∧ ¬ k < 0 ∧ k < s.1 34 ∧ vp_in k 12 := fun z => by
    obtain ⟨j, hj, e⟩ := gt_ix (by omega) z
    refine ⟨fun y => ?_, z.1, by rw [a3]; exact Int32.not_le.mp z.2, by rw [e]; exact vp_in2 (by omega) (by decide)⟩
    rcases a5 with ⟨b1, b2, b3⟩ | ⟨b1, _⟩
    · omega
    · exact b1 y
  refine ⟨_, _, fun G l d hst => c_open G l h d (ad 0) _ k0 ad i1 rfl oc rc O _ k14 k wh hst, fun r h1 q => ?_, fun E9 h1 q => ?_⟩
  · obtain ⟨⟨q1, q2⟩, q3, q4⟩ := q
    subst q4
    obtain ⟨y1, y2, y3, y4⟩ := hin q1
    have hr : gt_bl wh 3 ∧ r = some (.int (if wh = 0 then O 15 k.toNatClampNeg else if wh = 1 then O 16 k.toNatClampNeg else O 17 k.toNatClampNeg)) := by
      rcases q3 with ⟨rfl, e⟩ | ⟨rfl, e⟩ | ⟨rfl, e⟩
      · exact ⟨by decide, e⟩
      · exact ⟨by decide, e⟩
      · exact ⟨by decide, e⟩
    refine ⟨kpA_rf, ⟨_, hr.2⟩, fun h' kq => ?_⟩
    have J9 := gJ_kpl J0 kq
    refine ⟨_, fun G l d => m_open0 G l o md i2 h' (d + 10) s J9.2.2.2.1 k wh y1 y2 y3 hr.1 y4, fun r2 h2 w => ?_⟩
    obtain ⟨w1, w2, w3⟩ := w
    refine ⟨fun _ => ?_, ⟨_, w1⟩, _, gJ_irr J9 (md_irr_0 s 0) w2 w3, rfl, w3⟩
    rw [w1, hr.2, o2, o3, o4]
  · rcases q with ⟨q1, q2, q3⟩ | ⟨⟨q1, q0⟩, q2, q3, q4⟩
    · subst q3
      have h9 : s.1 31 = 0 ∨ k < 0 ∨ ¬ k < s.1 34 := by
        by_cases z : k < 0
        · exact Or.inr (Or.inl z)
        · refine Or.inr (Or.inr (fun y => q1 ?_))
          rw [a3] at y
          have b0 : gt_bl k (nI oc) := ⟨z, Int32.not_le.mpr y⟩
          obtain ⟨j, hj, e⟩ := gt_ix (by omega) b0
          refine ⟨b0, z, fun x => ?_⟩
          rw [e] at x
          exact absurd x (Int32.not_le.mpr (nI_lt (a := j) (b := 12) (by omega) (by decide)))
      refine ⟨kpA_rf, 1, by rw [q2]; exact List.mem_cons_self, _, fun G l d => m_open1 G l o md i2 h1 (d + 10) s i4 k wh h9, fun r2 h2 w => ?_⟩
      obtain ⟨w1, w2, w3⟩ := w
      exact ⟨fun q => absurd q (by decide), ⟨_, w1⟩, _, gJ_irr J0 (md_irr_0 s 1) w2 w3, rfl, w3⟩
    · subst q4
      obtain ⟨y1, y2, y3, y4⟩ := hin q1
      have h9 : ¬ gt_bl wh 3 := fun z => by
        obtain ⟨j, hj, e⟩ := gt_ix (b := 3) (by decide) z
        rcases (show j = 0 ∨ j = 1 ∨ j = 2 by omega) with rfl | rfl | rfl
        · exact q2.1 e
        · exact q2.2.1 e
        · exact q2.2.2 e
      refine ⟨kpA_rf, 2, by rw [q3]; exact List.mem_cons_of_mem _ List.mem_cons_self, _, fun G l d => m_open2 G l o md i2 h1 (d + 10) s i4 k wh y1 y2 y3 h9, fun r2 h2 w => ?_⟩
      obtain ⟨w1, w2, w3⟩ := w
      exact ⟨fun q => absurd q (by decide), ⟨_, w1⟩, _, gJ_irr J0 (md_irr_0 s 2) w2 w3, rfl, w3⟩
theorem gc_pl {h1 : ac_H} {la : Option Nat} {ec : Nat} {E : Nat → Option Nat} {dy : Nat → Int64} {I I' : Nat → Int32} {F F' : Nat → Nat → Int32} {c c' len : Nat} {f D : Nat → Int32} {v0 : Option Nat} {oc rc : Nat} {O : Nat → Nat → Int32} {ra : Nat} {chg : Int32} {gg pk : Nat → Int32} {W : Nat → Int64} {B : Nat → Int32} {L : List Nat} (an : inj ad 26) (K : gc h ad la ec E dy I F c len f D v0 oc rc O ra chg gg pk W B) (kq : kp h h1 (L.map ad)) (hL : ∀ x ∈ L, 1 ≤ x ∧ x < 8) (P : pl_ok h1 (ad 1) (pA ad) I' F' c') : gc h1 ad la ec E dy I' F' c' len f D v0 oc rc O ra chg gg pk W B := by
  obtain ⟨k0, k1, ⟨a, v4, k8⟩, k9, k10, ⟨sk, hd, ca, k11⟩, ⟨u, n, a2, op, k13⟩, k14, k19, k22, k23, k24, k25⟩ := K
  have nn : ∀ i, i < 26 → (i = 0 ∨ 8 ≤ i) → ad i ∉ L.map ad := fun i hi h0 => ni_ad an hi (fun x hx => by have := hL x hx; omega)
  exact ⟨kq _ _ k0 (nn 0 (by decide) (by decide)), P, ⟨a, v4, kq _ _ k8 (nn 8 (by decide) (by decide))⟩, kq _ _ k9 (nn 9 (by decide) (by decide)), kq _ _ k10 (nn 10 (by decide) (by decide)), ⟨sk, hd, ca, kq _ _ k11.1 (nn 11 (by decide) (by decide)), kq _ _ k11.2.1 (nn 12 (by decide) (by decide)), k11.2.2⟩, ⟨u, n, a2, op, kq _ _ k13 (nn 13 (by decide) (by decide))⟩, ⟨kq _ _ k14.1 (nn 14 (by decide) (by decide)), fun j j1 j2 => kq _ _ (k14.2 j j1 j2) (nn j (by omega) (by omega))⟩, ⟨kq _ _ k19.1 (nn 19 (by decide) (by decide)), kq _ _ k19.2.1 (nn 20 (by decide) (by decide)), kq _ _ k19.2.2 (nn 21 (by decide) (by decide))⟩, kq _ _ k22 (nn 22 (by decide) (by decide)), kq _ _ k23 (nn 23 (by decide) (by decide)), kq _ _ k24 (nn 24 (by decide) (by decide)), kq _ _ k25 (nn 25 (by decide) (by decide))⟩
theorem kpA_of {h1 : ac_H} {L : List Nat} (kq : kp h h1 (L.map ad)) (hL : ∀ x ∈ L, x < 26) : kpA ad h h1 := fun a e z1 z2 => kq a e z1 (fun q => by
  obtain ⟨i, hi, e2⟩ := List.mem_map.mp q
  exact z2 (List.mem_map.mpr ⟨i, List.mem_range.mpr (hL i hi), e2⟩))
theorem gj_z_ch {R : Nat → Option gk} {I I' : Nat → Int32} {F F' : Nat → Nat → Int32} {c c' ra : Nat} {chg : Int32} {gg : Nat → Int32} {n : Nat} (hn : n < 1000) (h : gj_z R I F c ra chg gg n) (e : I' 4 = I 4 + 1) : gj_z R I' F' c' ra chg gg (n + 1) := by
  obtain ⟨⟨m, a1, a2, a3⟩, _⟩ := h
  have e1 : I' 4 = nI (m + 1) := by rw [e, a1, nI_1]
  refine ⟨⟨m + 1, e1, by omega, ?_⟩, fun z => ?_⟩
  · rcases a3 with z | ⟨q, z1, z2⟩
    · exact Or.inl z
    · exact Or.inr ⟨q, z1, by omega⟩
  · rw [e1] at z
    rcases a3 with y | ⟨q, z1, z2⟩
    · rw [y] at z
      have := congrArg Int32.toInt z
      rw [nI_toInt (by omega)] at this
      have e9 : (-1 : Int32).toInt = -1 := by decide
      rw [e9] at this
      omega
    · rw [z1] at z
      have := (nI_eq (by omega) (by omega)).mp z
      omega
theorem j_clear (J : gJ h ad o md n s) (hn : n < 1000) : ∃ Q : Option Value → ac_H → Prop, (∀ (G : ac_G) (l : Launch) (d : Nat), ac_Met G l yX8_clearFaults cX8_clearFaults 1 none (d + 2) 0 0 [.ref (ad 0)] h Q) ∧ ∀ r h1, Q r h1 → kpA ad h h1 ∧ r = none ∧ jm yX9_clearFaults cX9_clearFaults 1 none tN [.ref o] ad o md n h1 0 none := by
  obtain ⟨i1, i2, i3, i4, R, la, ec, E, dy, I, F, c, len, f, D, v0, oc, rc, O, ra, chg, gg, pk, W, B, j1, j2, j3, j4, j5, j6, j7, j8⟩ := J
  refine ⟨_, fun G l d => c_clearFaults G l h d (ad 0) _ j2.1 (ad 1) (pA ad) I F c rfl j2.2.1, fun r h1 q => ?_⟩
  obtain ⟨q1, q2, q3⟩ := q
  have kq : kp h h1 ([1].map ad) := q3
  have m1 := md_kpA i3 i4 kq (by decide)
  refine ⟨kpA_of kq (by decide), q1, _, fun G l d => m_clearFaults G l o md i2 h1 (d + 10) s m1, fun r2 h2 w => ?_⟩
  obtain ⟨w1, w2, w3⟩ := w
  refine ⟨fun _ => w1, w1, _, ⟨i1, i2, i3, w2, R, la, ec, E, dy, _, F, 0, len, f, D, v0, oc, rc, O, ra, chg, gg, pk, W, B, gd_kpM (gd_kpA j1 kq (by decide)) w3, gc_kpM (gc_pl i1 j2 kq (by decide) q2) w3 i3, gj_t_A rfl rfl rfl j3, ?_, gj_e_A rfl rfl rfl (fun _ _ _ => rfl) j5, gj_r_A rfl rfl rfl (fun _ _ _ => rfl) (fun _ _ _ => rfl) j6, j7, gj_z_ch hn j8 rfl⟩, rfl, w3⟩
  obtain ⟨b1, b2, b3, b4, b5, b6, b7, b8⟩ := j4
  exact ⟨b1, b2, b3, rfl, Nat.zero_le _, fun j _ i hi => absurd hi (by omega), b7, fun i hi => absurd hi (by omega)⟩
theorem j_board (J : gJ h ad o md n s) (hn : n < 1000) (a b t : Int32) : jc yX8_board cX8_board 4 none tN 10 1 6 [.ref (ad 0), .int a, .int b, .int t] ad h [(xIAE, 1)] (jm yX9_board cX9_board 4 none tN [.ref o, .int a, .int b, .int t] ad o md n) := by
  have J0 := J
  obtain ⟨i1, i2, i3, i4, R, la, ec, E, dy, I, F, c, len, f, D, v0, oc, rc, O, ra, chg, gg, pk, W, B, j1, j2, j3, j4, j5, j6, j7, j8⟩ := J
  refine ⟨_, _, fun G l d hst => c_board G l h d (ad 0) _ j2.1 (ad 1) (pA ad) I F c rfl j2.2.1 a b t hst, fun r h1 q => ?_, fun E9 h1 q => ?_⟩
  · obtain ⟨q0, q1, q2, q3⟩ := q
    have kq : kp h h1 ([1].map ad) := q3
    have m1 := md_kpA i3 i4 kq (by decide)
    refine ⟨kpA_of kq (by decide), q1, fun h' kl => ⟨_, fun G l d => m_board G l o md i2 h' (d + 9) s (md_kpl m1 kl) a b t, fun r2 h2 w => ?_⟩⟩
    obtain ⟨w1, w2, w3⟩ := w
    unfold mo_board at w2
    rw [if_pos q0] at w2
    refine ⟨fun _ => w1.trans q1.symm, w1, _, ⟨i1, i2, i3, w2, R, la, ec, E, dy, _, F, c, len, f, D, v0, oc, rc, O, ra, chg, gg, pk, W, B, gd_kpM (gd_kpl (gd_kpA j1 kq (by decide)) kl) w3, gc_kpM (gc_kpl (gc_pl i1 j2 kq (by decide) q2) kl) w3 i3, gj_t_A rfl rfl rfl j3, ?_, gj_e_A rfl rfl rfl (fun _ _ _ => rfl) j5, gj_r_A rfl rfl rfl (fun _ _ _ => rfl) (fun _ _ _ => rfl) j6, j7, gj_z_ch hn j8 rfl⟩, rfl, w3⟩
    obtain ⟨b1, b2, b3, b4, b5, b6, b7, b8⟩ := j4
    exact ⟨rfl, rfl, rfl, b4, b5, b6, q0, b8⟩
  · obtain ⟨q1, q2, q3⟩ := q
    subst q3
    refine ⟨kpA_rf, 1, by rw [q2]; exact List.mem_cons_self, _, fun G l d => m_board G l o md i2 h1 (d + 9) s i4 a b t, fun r2 h2 w => ?_⟩
    obtain ⟨w1, w2, w3⟩ := w
    unfold mo_board at w2
    rw [if_neg q1] at w2
    exact ⟨fun q => absurd q (by decide), w1, _, gJ_irr J0 (md_irr_0 s 1) w2 w3, rfl, w3⟩
end
