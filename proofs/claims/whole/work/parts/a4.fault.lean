/-! Calls: fault, machine -/
section
variable {h : ac_H} {ad : Nat → Nat} {o : Nat} {md : Nat → Nat} {n : Nat} {s : md_S}
theorem eq_bd_app {I : Nat → Int32} {F : Nat → Nat → Int32} {c : Nat} {s : md_S} (K : eq_bd I F c s) (hc : c < 10) {fa ki a b ww hh : Int32} (hs : gt_sz a ∧ gt_sz b ∧ gt_sz ww ∧ gt_sz hh) : eq_bd (pl_cnt I (c + 1)) (pl_app F c (pl_arg fa ki a b ww hh)) (c + 1) (upd (upd s.1 0 0) 20 (nI (c + 1)), va_up (va_up (va_up (va_up (va_up (va_up s.2.1 21 (upd (s.2.1 21) c fa)) 22 (upd (s.2.1 22) c ki)) 23 (upd (s.2.1 23) c a)) 24 (upd (s.2.1 24) c b)) 25 (upd (s.2.1 25) c ww)) 26 (upd (s.2.1 26) c hh), s.2.2) := by
  obtain ⟨b1, b2, b3, b4, b5, b6, b7, b8⟩ := K
  have key : ∀ (f g : Nat → Int32) (v : Int32), (∀ i, i < c → f i = g i) → ∀ i, i < c + 1 → upd f c v i = upd g c v i := fun f g v e i hi => by
    unfold upd
    by_cases z : i = c
    · rw [if_pos z, if_pos z]
    · rw [if_neg z, if_neg z]; exact e i (by omega)
  refine ⟨b1, b2, b3, rfl, by omega, fun j hj i hi => ?_, b7, fun i hi => ?_⟩
  · rcases (show j = 0 ∨ j = 1 ∨ j = 2 ∨ j = 3 ∨ j = 4 ∨ j = 5 by omega) with rfl | rfl | rfl | rfl | rfl | rfl
    · exact key (s.2.1 21) (F 5) fa (b6 0 (by decide)) i hi
    · exact key (s.2.1 22) (F 6) ki (b6 1 (by decide)) i hi
    · exact key (s.2.1 23) (F 7) a (b6 2 (by decide)) i hi
    · exact key (s.2.1 24) (F 8) b (b6 3 (by decide)) i hi
    · exact key (s.2.1 25) (F 9) ww (b6 4 (by decide)) i hi
    · exact key (s.2.1 26) (F 10) hh (b6 5 (by decide)) i hi
  · show gt_sz (upd (F 7) c a i) ∧ gt_sz (upd (F 8) c b i) ∧ gt_sz (upd (F 9) c ww i) ∧ gt_sz (upd (F 10) c hh i)
    unfold upd
    by_cases z : i = c
    · rw [if_pos z, if_pos z, if_pos z, if_pos z]; exact hs
    · rw [if_neg z, if_neg z, if_neg z, if_neg z]; exact b8 i (by omega)
theorem j_fault (J : gJ h ad o md n s) (hn : n < 1000) (fa ki a b ww hh : Int32) : jc yX8_fault cX8_fault 7 (some .int) tI 10 1 6 [.ref (ad 0), .int fa, .int ki, .int a, .int b, .int ww, .int hh] ad h [(xAIO, 1), (xISE, 2), (xIAE, 3)] (jm yX9_fault cX9_fault 8 (some .int) tI [.ref o, .int fa, .int ki, .int a, .int b, .int ww, .int hh] ad o md n) := by
  have J0 := J
  obtain ⟨i1, i2, i3, i4, R, la, ec, E, dy, I, F, c, len, f, D, v0, oc, rc, O, ra, chg, gg, pk, W, B, j1, j2, j3, j4, j5, j6, j7, j8⟩ := J
  have hc := j4.2.2.2.1
  have hc10 := j4.2.2.2.2.1
  refine ⟨_, _, fun G l d hst => c_fault G l h d (ad 0) _ j2.1 (ad 1) (pA ad) I F c rfl j2.2.1 fa ki a b ww hh (fun i j a1 a2 b1 b2 ne => i1 (i - 3) (j - 3) (by omega) (by omega) (by omega)) hst, fun r h1 q => ?_, fun E9 h1 q => ?_⟩
  · obtain ⟨⟨p1, p2, p3⟩, q1, q2, q3⟩ := q
    have kq : kp h h1 ([1, 2, 3, 4, 5, 6, 7].map ad) := q3
    have m1 := md_kpA i3 i4 kq (by decide)
    refine ⟨kpA_of kq (by decide), ⟨_, q1⟩, fun h' kl => ⟨_, fun G l d => m_fault G l o md i2 h' (d + 9) s (md_kpl m1 kl) c hc hc10 fa ki a b ww hh, fun r2 h2 w => ?_⟩⟩
    obtain ⟨w1, w2, w3⟩ := w
    unfold mo_fault at w1 w2
    rw [if_neg (fun z => z p1), if_neg (by omega), if_pos p3] at w1 w2
    refine ⟨fun _ => w1.trans q1.symm, ⟨_, w1⟩, _, ⟨i1, i2, i3, w2, R, la, ec, E, dy, _, _, c + 1, len, f, D, v0, oc, rc, O, ra, chg, gg, pk, W, B, gd_kpM (gd_kpl (gd_kpA j1 kq (by decide)) kl) w3, gc_kpM (gc_kpl (gc_pl i1 j2 kq (by decide) q2) kl) w3 i3, gj_t_A rfl rfl rfl j3, eq_bd_app j4 p2 p3.2, gj_e_A (s := s) rfl rfl rfl ?_ j5, gj_r_A (s := s) rfl rfl rfl ?_ ?_ j6, j7, gj_z_ch hn j8 rfl⟩, rfl, w3⟩
    all_goals
      intro j g1 g2
      show va_up (va_up (va_up (va_up (va_up (va_up s.2.1 21 _) 22 _) 23 _) 24 _) 25 _) 26 _ j = s.2.1 j
      unfold va_up
      rw [if_neg (by omega), if_neg (by omega), if_neg (by omega), if_neg (by omega), if_neg (by omega), if_neg (by omega)]
  · rcases q with ⟨q1, q2, q3⟩ | ⟨q0, q1, q2, q3⟩ | ⟨⟨q0, q1, q4⟩, q2, q3⟩
    · subst q3
      refine ⟨kpA_rf, 1, by rw [q2]; exact List.mem_cons_self, _, fun G l d => m_fault G l o md i2 h1 (d + 9) s i4 c hc hc10 fa ki a b ww hh, fun r2 h2 w => ?_⟩
      obtain ⟨w1, w2, w3⟩ := w
      unfold mo_fault at w1 w2
      rw [if_pos q1] at w1 w2
      exact ⟨fun q => absurd q (by decide), ⟨_, w1⟩, _, gJ_irr J0 (md_irr_0 s 1) w2 w3, rfl, w3⟩
    · subst q3
      refine ⟨kpA_rf, 2, by rw [q2]; exact List.mem_cons_of_mem _ List.mem_cons_self, _, fun G l d => m_fault G l o md i2 h1 (d + 9) s i4 c hc hc10 fa ki a b ww hh, fun r2 h2 w => ?_⟩
      obtain ⟨w1, w2, w3⟩ := w
      unfold mo_fault at w1 w2
      rw [if_neg (fun z => z q0), if_pos (by omega)] at w1 w2
      exact ⟨fun q => absurd q (by decide), ⟨_, w1⟩, _, gJ_irr J0 (md_irr_0 s 2) w2 w3, rfl, w3⟩
    · subst q3
      refine ⟨kpA_rf, 3, by rw [q2]; exact List.mem_cons_of_mem _ (List.mem_cons_of_mem _ List.mem_cons_self), _, fun G l d => m_fault G l o md i2 h1 (d + 9) s i4 c hc hc10 fa ki a b ww hh, fun r2 h2 w => ?_⟩
      obtain ⟨w1, w2, w3⟩ := w
      unfold mo_fault at w1 w2
      rw [if_neg (fun z => z q0), if_neg (by omega), if_neg q4] at w1 w2
      exact ⟨fun q => absurd q (by decide), ⟨_, w1⟩, _, gJ_irr J0 (md_irr_0 s 3) w2 w3, rfl, w3⟩
theorem gc_25 {h1 : ac_H} {la : Option Nat} {ec : Nat} {E : Nat → Option Nat} {dy : Nat → Int64} {I : Nat → Int32} {F : Nat → Nat → Int32} {c len : Nat} {f D : Nat → Int32} {v0 : Option Nat} {oc rc : Nat} {O : Nat → Nat → Int32} {ra : Nat} {chg : Int32} {gg pk : Nat → Int32} {W : Nat → Int64} {B B' : Nat → Int32} (an : inj ad 26) (K : gc h ad la ec E dy I F c len f D v0 oc rc O ra chg gg pk W B) (kq : kp h h1 ([25].map ad)) (P : h1 (ad 25) = some (.inl (1, 100, .inl B'))) : gc h1 ad la ec E dy I F c len f D v0 oc rc O ra chg gg pk W B' := by
  obtain ⟨k0, k1, ⟨a, v4, k8⟩, k9, k10, ⟨sk, hd, ca, k11⟩, ⟨u, n, a2, op, k13⟩, k14, k19, k22, k23, k24, k25⟩ := K
  have nn : ∀ i, i < 25 → ad i ∉ [25].map ad := fun i hi => ni_ad an (by omega) (fun x hx => by have := List.mem_singleton.mp hx; omega)
  exact ⟨kq _ _ k0 (nn 0 (by decide)), pl_kpA an k1 kq (by decide), ⟨a, v4, kq _ _ k8 (nn 8 (by decide))⟩, kq _ _ k9 (nn 9 (by decide)), kq _ _ k10 (nn 10 (by decide)), ⟨sk, hd, ca, kq _ _ k11.1 (nn 11 (by decide)), kq _ _ k11.2.1 (nn 12 (by decide)), k11.2.2⟩, ⟨u, n, a2, op, kq _ _ k13 (nn 13 (by decide))⟩, ⟨kq _ _ k14.1 (nn 14 (by decide)), fun j j1 j2 => kq _ _ (k14.2 j j1 j2) (nn j (by omega))⟩, ⟨kq _ _ k19.1 (nn 19 (by decide)), kq _ _ k19.2.1 (nn 20 (by decide)), kq _ _ k19.2.2 (nn 21 (by decide))⟩, kq _ _ k22 (nn 22 (by decide)), kq _ _ k23 (nn 23 (by decide)), kq _ _ k24 (nn 24 (by decide)), P⟩
theorem j_machine (J : gJ h ad o md n s) (g y : Int32) : jc yX8_machine cX8_machine 4 (some .int) tI 10 1 6 [.ref (ad 0), .int g, .int y] ad h [(xIAE, 1)] (jm yX9_machine cX9_machine 3 (some .int) tI [.ref o, .int g, .int y] ad o md n) := by
  have J0 := J
  obtain ⟨i1, i2, i3, i4, R, la, ec, E, dy, I, F, c, len, f, D, v0, oc, rc, O, ra, chg, gg, pk, W, B, j1, j2, j3, j4, j5, j6, j7, j8⟩ := J
  have k25 := j2.2.2.2.2.2.2.2.2.2.2.2.2
  have eix : (g * 10 + y).toNatClampNeg = mo_ix g y := by unfold mo_ix; rw [Int32.mul_comm]
  refine ⟨_, _, fun G l d hst => c_machine G l h d (ad 0) _ j2.1 (ad 25) B rfl k25 g y hst, fun r h1 q => ?_, fun E9 h1 q => ?_⟩
  · obtain ⟨q0, q1, q2, q3⟩ := q
    rw [eix] at q1 q2
    have kq : kp h h1 ([25].map ad) := q3
    have m1 := md_kpA i3 i4 kq (by decide)
    refine ⟨kpA_of kq (by decide), ⟨_, q1⟩, fun h' kl => ⟨_, fun G l d => m_machine G l o md i2 h' (d + 9) s (md_kpl m1 kl) g y, fun r2 h2 w => ?_⟩⟩
    obtain ⟨w1, w2, w3⟩ := w
    unfold mo_machine at w1 w2
    rw [if_pos q0] at w1 w2
    rw [j7.2] at w1 w2
    refine ⟨fun _ => w1.trans q1.symm, ⟨_, w1⟩, _, ⟨i1, i2, i3, w2, R, la, ec, E, dy, I, F, c, len, f, D, v0, oc, rc, O, ra, chg, gg, pk, W, _, gd_kpM (gd_kpl (gd_kpA j1 kq (by decide)) kl) w3, gc_kpM (gc_kpl (gc_25 i1 j2 kq q2) kl) w3 i3, gj_t_A rfl rfl rfl j3, eq_bd_A (s := s) ?_ ?_ j4, gj_e_A (s := s) rfl rfl rfl ?_ j5, gj_r_A (s := s) rfl rfl rfl ?_ ?_ j6, ⟨j7.1, rfl⟩, gj_z_n j8⟩, rfl, w3⟩
    · intro j g1 g2
      show upd s.1 0 0 j = s.1 j
      unfold upd
      rw [if_neg (by omega)]
    all_goals
      intro j g1 g2
      show va_up s.2.1 39 _ j = s.2.1 j
      unfold va_up
      rw [if_neg (by omega)]
  · obtain ⟨q1, q2, q3⟩ := q
    subst q3
    refine ⟨kpA_rf, 1, by rw [q2]; exact List.mem_cons_self, _, fun G l d => m_machine G l o md i2 h1 (d + 9) s i4 g y, fun r2 h2 w => ?_⟩
    obtain ⟨w1, w2, w3⟩ := w
    unfold mo_machine at w1 w2
    rw [if_neg q1] at w1 w2
    exact ⟨fun q => absurd q (by decide), ⟨_, w1⟩, _, gJ_irr J0 (md_irr_0 s 1) w2 w3, rfl, w3⟩
end
