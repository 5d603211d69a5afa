/-! Calls: unit, walk -/
section
variable {h : ac_H} {ad : Nat → Nat} {o : Nat} {md : Nat → Nat} {n : Nat} {s : md_S}
theorem pb_iff {p q : Prop} [Decidable p] [Decidable q] (e : p ↔ q) : pb_b p = pb_b q := by
  unfold pb_b
  by_cases z : p
  · rw [if_pos z, if_pos (e.mp z)]
  · rw [if_neg z, if_neg (fun y => z (e.mpr y))]
theorem gc_8 {h1 : ac_H} {la : Option Nat} {ec : Nat} {E : Nat → Option Nat} {dy : Nat → Int64} {I : Nat → Int32} {F : Nat → Nat → Int32} {c len len' : Nat} {f D f' D' : Nat → Int32} {v0 : Option Nat} {oc rc : Nat} {O : Nat → Nat → Int32} {ra : Nat} {chg : Int32} {gg pk : Nat → Int32} {W : Nat → Int64} {B : Nat → Int32} (an : inj ad 26) (K : gc h ad la ec E dy I F c len f D v0 oc rc O ra chg gg pk W B) (kq : kp h h1 ([8, 9, 10].map ad)) (p8 : ∃ a v4, h1 (ad 8) = some (cu_ob 3 (ad 9) len' a (.ref (ad 10)) v4)) (p9 : h1 (ad 9) = some (.inl (0, 300, .inl f'))) (p10 : h1 (ad 10) = some (.inl (3, 300, .inl D'))) : gc h1 ad la ec E dy I F c len' f' D' v0 oc rc O ra chg gg pk W B := by
  obtain ⟨k0, k1, ⟨a, v4, k8⟩, k9, k10, ⟨sk, hd, ca, k11⟩, ⟨u, n, a2, op, k13⟩, k14, k19, k22, k23, k24, k25⟩ := K
  have nn : ∀ i, i < 26 → (i = 0 ∨ 11 ≤ i) → ad i ∉ [8, 9, 10].map ad := fun i hi h0 => ni_ad an (by omega) (fun x hx => by
    simp only [List.mem_cons, List.not_mem_nil, or_false] at hx
    omega)
  exact ⟨kq _ _ k0 (nn 0 (by decide) (by decide)), pl_kpA an k1 kq (by decide), p8, p9, p10, ⟨sk, hd, ca, kq _ _ k11.1 (nn 11 (by decide) (by decide)), kq _ _ k11.2.1 (nn 12 (by decide) (by decide)), k11.2.2⟩, ⟨u, n, a2, op, kq _ _ k13 (nn 13 (by decide) (by decide))⟩, ⟨kq _ _ k14.1 (nn 14 (by decide) (by decide)), fun j j1 j2 => kq _ _ (k14.2 j j1 j2) (nn j (by omega) (by omega))⟩, ⟨kq _ _ k19.1 (nn 19 (by decide) (by decide)), kq _ _ k19.2.1 (nn 20 (by decide) (by decide)), kq _ _ k19.2.2 (nn 21 (by decide) (by decide))⟩, kq _ _ k22 (nn 22 (by decide) (by decide)), kq _ _ k23 (nn 23 (by decide) (by decide)), kq _ _ k24 (nn 24 (by decide) (by decide)), kq _ _ k25 (nn 25 (by decide) (by decide))⟩
theorem gc_13 {h1 : ac_H} {la : Option Nat} {ec : Nat} {E : Nat → Option Nat} {dy : Nat → Int64} {I : Nat → Int32} {F : Nat → Nat → Int32} {c len : Nat} {f D : Nat → Int32} {v0 : Option Nat} {oc rc : Nat} {O : Nat → Nat → Int32} {ra : Nat} {chg : Int32} {gg pk : Nat → Int32} {W : Nat → Int64} {B : Nat → Int32} (an : inj ad 26) (K : gc h ad la ec E dy I F c len f D v0 oc rc O ra chg gg pk W B) (kq : kp h h1 ([13].map ad)) (p13 : ∃ u n a op, h1 (ad 13) = some (wk_ob u (ad 1) n a op)) : gc h1 ad la ec E dy I F c len f D v0 oc rc O ra chg gg pk W B := by
  obtain ⟨k0, k1, ⟨a, v4, k8⟩, k9, k10, ⟨sk, hd, ca, k11⟩, k13, k14, k19, k22, k23, k24, k25⟩ := K
  have nn : ∀ i, i < 26 → ¬ i = 13 → ad i ∉ [13].map ad := fun i hi h0 => ni_ad an (by omega) (fun x hx => by
    have := List.mem_singleton.mp hx
    omega)
  exact ⟨kq _ _ k0 (nn 0 (by decide) (by decide)), pl_kpA an k1 kq (by decide), ⟨a, v4, kq _ _ k8 (nn 8 (by decide) (by decide))⟩, kq _ _ k9 (nn 9 (by decide) (by decide)), kq _ _ k10 (nn 10 (by decide) (by decide)), ⟨sk, hd, ca, kq _ _ k11.1 (nn 11 (by decide) (by decide)), kq _ _ k11.2.1 (nn 12 (by decide) (by decide)), k11.2.2⟩, p13, ⟨kq _ _ k14.1 (nn 14 (by decide) (by decide)), fun j j1 j2 => kq _ _ (k14.2 j j1 j2) (nn j (by omega) (by omega))⟩, ⟨kq _ _ k19.1 (nn 19 (by decide) (by decide)), kq _ _ k19.2.1 (nn 20 (by decide) (by decide)), kq _ _ k19.2.2 (nn 21 (by decide) (by decide))⟩, kq _ _ k22 (nn 22 (by decide) (by decide)), kq _ _ k23 (nn 23 (by decide) (by decide)), kq _ _ k24 (nn 24 (by decide) (by decide)), kq _ _ k25 (nn 25 (by decide) (by decide))⟩
/-- the class has walked: nothing that is compared later has changed -/
theorem gJ_13 {h1 : ac_H} (J : gJ h ad o md n s) (kq : kp h h1 ([13].map ad)) (p13 : ∃ u n a op, h1 (ad 13) = some (wk_ob u (ad 1) n a op)) : gJ h1 ad o md n s := by
  obtain ⟨i1, i2, i3, i4, R, la, ec, E, dy, I, F, c, len, f, D, v0, oc, rc, O, ra, chg, gg, pk, W, B, j1, j2, j3⟩ := J
  exact ⟨i1, i2, i3, md_kpA i3 i4 kq (by decide), R, la, ec, E, dy, I, F, c, len, f, D, v0, oc, rc, O, ra, chg, gg, pk, W, B, gd_kpA j1 kq (by decide), gc_13 i1 j2 kq p13, j3⟩
theorem j_walk (J : gJ h ad o md n s) (day : Int64) : jc yX8_walk cX8_walk 5 (some .int) tI 60 1 6 [.ref (ad 0), .long day] ad h [(xISE, 1)] (jm yX9_walk cX9_walk 3 (some .int) tI [.ref o, .long day] ad o md n) := by
  have J0 := J
  obtain ⟨i1, i2, i3, i4, R, la, ec, E, dy, I, F, c, len, f, D, v0, oc, rc, O, ra, chg, gg, pk, W, B, j1, j2, j3, j4, j5, j6, j7, j8⟩ := J
  obtain ⟨k0, k1, k8, k9, k10, k11, ⟨u, m, a2, op, k13⟩, k14, k19, k22, k23, k24, k25⟩ := j2
  rcases gj_on j5 day with ⟨b1, b2⟩ | ⟨b1, a, b2, b5, k, b3, b4⟩
  · refine ⟨_, _, fun G l d hst => c_walk0 G l h (d + 50) ad i1 _ k0 la ec E dy rfl rfl rfl rfl k22 k23 j5.2.1 day b2 hst, fun r h1 q => q.elim, fun E9 h1 q => ?_⟩
    obtain ⟨q1, q2⟩ := q
    subst q2
    refine ⟨kpA_rf, 1, by rw [q1]; exact List.mem_cons_self, _, fun G l d => m_walk0 G l o md i2 h1 (d + 10) s i4 b1 day, fun r2 h2 w => ?_⟩
    obtain ⟨w1, w2, w3⟩ := w
    exact ⟨fun q => absurd q (by decide), ⟨_, w1⟩, _, gJ_irr J0 (md_irr_0 s 1) w2 w3, rfl, w3⟩
  · obtain ⟨r1, r2, r3, r4, r5⟩ := j1 a k b3
    have tx := tz_eq r5 b4
    subst r1
    obtain ⟨⟨z1, z2⟩, z3, z4⟩ := r5.2.2.2.2
    refine ⟨_, _, fun G l d hst => c_walk1 G l h d ad i1 _ k0 la ec E dy rfl rfl rfl rfl k22 k23 j5.2.1 day k.1 k.2.1 r2 r4 (tz_wf r5) b2 I F c k1 z2 z4 u m a2 op k13 rfl hst, fun r h1 q => ?_, fun E9 h1 q => q.elim⟩
    obtain ⟨q1, ⟨a9, op9, q2⟩, q3⟩ := q
    have kq : kp h h1 ([13].map ad) := q3
    have J1 := gJ_13 J0 kq ⟨_, _, a9, op9, q2⟩
    refine ⟨kpA_of kq (by decide), ⟨_, q1⟩, fun h' kl => ?_⟩
    have J9' := gJ_kpl J1 kl
    refine ⟨_, fun G l d => m_walk1 G l o md i2 h' (d + 5) s J9'.2.2.2.1 b1 day ec j5.1 j5.2.1 c I F k.2.1 j4 tx, fun r2 h2 w => ?_⟩
    obtain ⟨J9, L9, w1, w2, w3, w4, w5⟩ := w
    refine ⟨fun _ => ?_, ⟨_, w1⟩, _, gJ_irr J9' (md_irr_of w3 (by decide) (by decide) (by decide)) w2 w5, w4, w5⟩
    rw [w1, q1, tz_walk r5 I F c]
theorem j_unit (J : gJ h ad o md n s) (v : Int32) : ∃ Q : Option Value → ac_H → Prop, (∀ (G : ac_G) (l : Launch) (d : Nat), ac_Met G l yX8_unit cX8_unit 2 (some .boolean) (d + 4) 0 0 [.ref (ad 0), .int v] h Q) ∧ ∀ r h1, Q r h1 → kpA ad h h1 ∧ tI r ∧ jm yX9_unit cX9_unit 3 (some .boolean) tI [.ref o, .int v] ad o md n h1 0 r := by
  have J0 := J
  obtain ⟨i1, i2, i3, i4, R, la, ec, E, dy, I, F, c, len, f, D, v0, oc, rc, O, ra, chg, gg, pk, W, B, j1, j2, j3, j4, j5, j6, j7, j8⟩ := J
  have k2 := j2
  obtain ⟨k0, k1, ⟨a, v4, k8⟩, k9, k10, k11, k13, k14, k19, k22, k23, k24, k25⟩ := k2
  obtain ⟨t1, t2, t3, t4, t5, t6, t7⟩ := j3
  have e9 : (¬ v < 33 ∧ ¬ 126 < v ∧ len < 300) ↔ (len < 300 ∧ ¬ v < 33 ∧ ¬ 126 < v) := ⟨fun z => ⟨z.2.2, z.1, z.2.1⟩, fun z => ⟨z.2.1, z.2.2, z.1⟩⟩
  refine ⟨_, fun G l d => c_unit G l h d (ad 0) _ k0 (ad 8) (ad 9) (ad 10) len a f D v4 rfl k8 k9 k10 t2 v, fun r h1 q => ?_⟩
  obtain ⟨q1, q2, q3⟩ := q
  by_cases z : ¬ v < 33 ∧ ¬ 126 < v ∧ len < 300
  · obtain ⟨p1, p2, p3, p4⟩ := q2 z
    have kq : kp h h1 ([8, 9, 10].map ad) := p4
    have m1 := md_kpA i3 i4 kq (by decide)
    refine ⟨kpA_of kq (by decide), ⟨_, q1⟩, _, fun G l d => m_unit G l o md i2 h1 (d + 10) s m1 len t1 t2 v, fun r2 h2 w => ?_⟩
    obtain ⟨w1, w2, w3⟩ := w
    unfold mo_unit at w2
    rw [if_pos (e9.mp z)] at w2
    refine ⟨fun _ => ?_, ⟨_, w1⟩, _, ⟨i1, i2, i3, w2, R, la, ec, E, dy, I, F, c, len + 1, _, _, v0, oc, rc, O, ra, chg, gg, pk, W, B, gd_kpM (gd_kpA j1 kq (by decide)) w3, gc_kpM (gc_8 i1 j2 kq ⟨a, v4, p1⟩ p2 p3) w3 i3, ⟨rfl, by omega, fun i hi => ?_, fun i hi => ?_, fun i => ?_, fun i hi => ?_, t7⟩, eq_bd_A (s := s) ?_ ?_ j4, gj_e_A (s := s) rfl rfl rfl ?_ j5, gj_r_A (s := s) rfl rfl rfl ?_ ?_ j6, j7, gj_z_n j8⟩, rfl, w3⟩
    · rw [w1, q1, pb_iff e9]
    · show upd (s.2.1 1) len v i = upd f len v i
      unfold upd
      by_cases y : i = len
      · rw [if_pos y, if_pos y]
      · rw [if_neg y, if_neg y]; exact t3 i (by omega)
    · unfold upd
      by_cases y : i = len
      · rw [if_pos y]; exact ⟨z.1, z.2.1⟩
      · rw [if_neg y]; exact t4 i (by omega)
    · unfold upd
      by_cases y : i = len
      · rw [if_pos y]
        obtain ⟨j, hj, rfl⟩ := nI_of (x := v) (fun x => z.1 (Int32.lt_trans x (by decide)))
        have hj2 : j < 127 := by
          have := z.2.1
          rw [Int32.lt_iff_toInt_lt, nI_toInt hj] at this
          have e2 : (126 : Int32).toInt = 126 := by decide
          rw [e2] at this; omega
        have : ∀ j, j < 127 → narrow .char (.int (nI j)) = .int (nI j) := by decide +kernel
        exact this j hj2
      · rw [if_neg y]; exact t5 i
    · rw [rs_di_n D z.2.2]
      unfold upd
      by_cases y : i = len
      · rw [if_pos y]
      · rw [if_neg y]; exact t6 i (by omega)
    · intro j g1 g2
      show upd (upd s.1 0 0) 2 (nI (len + 1)) j = s.1 j
      unfold upd
      rw [if_neg (by omega), if_neg (by omega)]
    all_goals
      intro j g1 g2
      show va_up s.2.1 1 _ j = s.2.1 j
      unfold va_up
      rw [if_neg (by omega)]
  · have e := q3 z
    subst e
    refine ⟨kpA_rf, ⟨_, q1⟩, _, fun G l d => m_unit G l o md i2 h1 (d + 10) s i4 len t1 t2 v, fun r2 h2 w => ?_⟩
    obtain ⟨w1, w2, w3⟩ := w
    unfold mo_unit at w2
    rw [if_neg (fun y => z (e9.mpr y))] at w2
    refine ⟨fun _ => ?_, ⟨_, w1⟩, _, gJ_irr J0 (md_irr_0 s 0) w2 w3, rfl, w3⟩
    rw [w1, q1, pb_iff e9]
end
