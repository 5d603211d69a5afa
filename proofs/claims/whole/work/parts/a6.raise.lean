/-! Calls: raise -/
section
variable {h : ac_H} {ad : Nat → Nat} {o : Nat} {md : Nat → Nat} {n : Nat} {s : md_S}
theorem gc_19 {h1 : ac_H} {la : Option Nat} {ec : Nat} {E : Nat → Option Nat} {dy : Nat → Int64} {I : Nat → Int32} {F : Nat → Nat → Int32} {c len : Nat} {f D : Nat → Int32} {v0 : Option Nat} {oc rc : Nat} {O : Nat → Nat → Int32} {ra ra' : Nat} {chg chg' : Int32} {gg pk gg' pk' : Nat → Int32} {W : Nat → Int64} {B : Nat → Int32} (an : inj ad 26) (K : gc h ad la ec E dy I F c len f D v0 oc rc O ra chg gg pk W B) (kq : kp h h1 ([19, 20, 21, 11, 12].map ad)) (p11 : ∃ s hd ca, rk_ok h1 (ad 11) (ad 1) (ad 12) s hd ca) (p19 : rz_ok h1 ad ra' chg' gg' pk') : gc h1 ad la ec E dy I F c len f D v0 oc rc O ra' chg' gg' pk' W B := by
  obtain ⟨k0, k1, ⟨a, v4, k8⟩, k9, k10, k11, ⟨u, m, a2, op, k13⟩, k14, k19, k22, k23, k24, k25⟩ := K
  have nn : ∀ i, i < 26 → (¬ i = 11 ∧ ¬ i = 12 ∧ ¬ i = 19 ∧ ¬ i = 20 ∧ ¬ i = 21) → ad i ∉ [19, 20, 21, 11, 12].map ad := fun i hi h0 => ni_ad an (by omega) (fun x hx => by
    simp only [List.mem_cons, List.not_mem_nil, or_false] at hx
    omega)
  exact ⟨kq _ _ k0 (nn 0 (by decide) (by decide)), pl_kpA an k1 kq (by decide), ⟨a, v4, kq _ _ k8 (nn 8 (by decide) (by decide))⟩, kq _ _ k9 (nn 9 (by decide) (by decide)), kq _ _ k10 (nn 10 (by decide) (by decide)), p11, ⟨u, m, a2, op, kq _ _ k13 (nn 13 (by decide) (by decide))⟩, ⟨kq _ _ k14.1 (nn 14 (by decide) (by decide)), fun j j1 j2 => kq _ _ (k14.2 j j1 j2) (nn j (by omega) (by omega))⟩, p19, kq _ _ k22 (nn 22 (by decide) (by decide)), kq _ _ k23 (nn 23 (by decide) (by decide)), kq _ _ k24 (nn 24 (by decide) (by decide)), kq _ _ k25 (nn 25 (by decide) (by decide))⟩
theorem j_raise (J : gJ h ad o md n s) (g k : Int32) : jc yX8_raise cX8_raise 5 (some .int) tI 10 1 6 [.ref (ad 0), .int g, .int k] ad h [(xISE, 1), (xIAE, 2)] (jm yX9_raise cX9_raise 6 (some .int) tI [.ref o, .int g, .int k] ad o md n) := by
  have J0 := J
  obtain ⟨i1, i2, i3, i4, R, la, ec, E, dy, I, F, c, len, f, D, v0, oc, rc, O, ra, chg, gg, pk, W, B, j1, j2, j3, j4, j5, j6, j7, j8⟩ := J
  have k2 := j2
  obtain ⟨k0, k1, k8, k9, k10, ⟨sk, hd, ca, k11⟩, k13, k14, k19, k22, k23, k24, k25⟩ := k2
  have g6 := j6
  obtain ⟨a1, a2, a3, a4, ⟨o1, o2, o3, o4⟩, a5⟩ := g6
  rcases a5 with ⟨b1, b2, b3⟩ | ⟨b1, a, kk, b2, b3, b4, b5⟩
  · subst b1
    refine ⟨_, _, fun G l d hst => c_raise0 G l h d ad i1 _ k0 oc rc O rfl k14 g k hst, fun r h1 q => q.elim, fun E9 h1 q => ?_⟩
    obtain ⟨q1, q2⟩ := q
    subst q2
    refine ⟨kpA_rf, 1, by rw [q1]; exact List.mem_cons_self, _, fun G l d => m_raise1 G l o md i2 h1 (d + 10) s i4 b2 g k, fun r2 h2 w => ?_⟩
    obtain ⟨w1, w2, w3⟩ := w
    exact ⟨fun q => absurd q (by decide), ⟨_, w1⟩, _, gJ_irr J0 (md_irr_0 s 1) w2 w3, rfl, w3⟩
  · subst b2
    obtain ⟨r1, r2, r3, r4, r5⟩ := j1 a kk b3
    have tx := tz_eq r5 b4
    subst r1
    have hcache : ra = kk.1 0 → chg = I 4 → rz_inv I F c kk.2.1 gg := fun e1 e2 => by
      obtain ⟨k', y1, y2⟩ := j8.2 e2
      rw [e1, b3] at y1
      rw [Option.some.inj y1]; exact y2
    refine ⟨_, _, fun G l d hst => c_raise1 G l h d ad i1 _ k0 oc rc O rfl kk.1 kk.2.1 r2 r4 (tz_wf r5) (tz_gs r5) k14 I F c k1 sk hd ca k11 ra chg gg pk k19 hcache rfl g k hst, fun r h1 q => ?_, fun E9 h1 q => ?_⟩
    · obtain ⟨q1, q2, ⟨g9, q3, q4⟩, q5, q6⟩ := q
      have kq : kp h h1 ([19, 20, 21, 11, 12].map ad) := q6
      obtain ⟨⟨m, m1, m2, m3⟩, _⟩ := j8
      have J1 : gJ h1 ad o md n s := ⟨i1, i2, i3, md_kpA i3 i4 kq (by decide), R, la, ec, E, dy, I, F, c, len, f, D, _, oc, rc, O, _, _, _, _, W, B, gd_kpA j1 kq (by decide), gc_19 i1 j2 kq q5 q3, j3, j4, j5, j6, j7, ⟨m, m1, m2, Or.inr ⟨m, m1, Nat.le_refl _⟩⟩, fun _ => ⟨kk, b3, q4⟩⟩
      refine ⟨kpA_of kq (by decide), ⟨_, q2⟩, fun h' kl => ?_⟩
      have J9' := gJ_kpl J1 kl
      refine ⟨_, fun G l d => m_raise0 G l o md i2 h' (d + 5) s J9'.2.2.2.1 b1 g k q1 c I F kk.2.1 j4 tx, fun r2 h2 w => ?_⟩
      obtain ⟨J9, L9, w1, w2, w3, w4, w5⟩ := w
      refine ⟨fun _ => ?_, ⟨_, w1⟩, _, gJ_irr J9' (md_irr_of w3 (by decide) (by decide) (by decide)) w2 w5, w4, w5⟩
      rw [w1, q2]
      obtain ⟨j, hj, rfl⟩ := nI_of q1.2
      have el : nI j < 10 ↔ j < 10 := by
        have e2 : (10 : Int32).toInt = 10 := by decide
        rw [Int32.lt_iff_toInt_lt, nI_toInt hj, e2]; omega
      rw [rz_raise j4.2.2.2.2.1 pk j hj, nI_clamp hj]
      by_cases z : nI j < (rz_few I F c kk.2.1 g (c + 1) 0 pk).1 ∧ j < 10
      · rw [if_pos z, if_pos ⟨z.1, el.mpr z.2⟩]
      · rw [if_neg z, if_neg (fun y => z ⟨y.1, el.mp y.2⟩)]
    · obtain ⟨q1, q2, q3⟩ := q
      subst q3
      refine ⟨kpA_rf, 2, by rw [q2]; exact List.mem_cons_of_mem _ List.mem_cons_self, _, fun G l d => m_raise2 G l o md i2 h1 (d + 9) s i4 b1 g k q1, fun r2 h2 w => ?_⟩
      obtain ⟨w1, w2, w3⟩ := w
      exact ⟨fun q => absurd q (by decide), ⟨_, w1⟩, _, gJ_irr J0 (md_irr_0 s 2) w2 w3, rfl, w3⟩
end
