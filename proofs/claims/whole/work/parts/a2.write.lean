/-! Calls: write, open, why -/
section
variable {h : ac_H} {ad : Nat → Nat} {o : Nat} {md : Nat → Nat} {n : Nat} {s : md_S}
abbrev xISE : String := "java/lang/IllegalStateException"
abbrev xIAE : String := "java/lang/IllegalArgumentException"
abbrev xAIO : String := "java/lang/ArrayIndexOutOfBoundsException"
theorem j_write (J : gJ h ad o md n s) (i : Int32) : jc yX8_write cX8_write 3 (some .int) tI 10 1 6 [.ref (ad 0), .int i] ad h [(xISE, 1), (xIAE, 2)] (jm yX9_write cX9_write 2 (some .int) tI [.ref o, .int i] ad o md n) := by
  have J0 := J
  obtain ⟨i1, i2, i3, i4, R, la, ec, E, dy, I, F, c, len, f, D, v0, oc, rc, O, ra, chg, gg, pk, W, B, j1, j2, j3, j4, j5, j6, j7, j8⟩ := J
  rcases j5.2.2.2.1 with ⟨b1, b2, b3⟩ | ⟨b1, a, b2, k, b3, b4⟩
  · subst b1
    refine ⟨_, _, fun G l d hst => c_write0 G l h d (ad 0) _ j2.1 rfl i hst, fun r h1 q => q.elim, fun E9 h1 q => ?_⟩
    obtain ⟨q1, q2⟩ := q
    subst q2
    refine ⟨kpA_rf, 1, by rw [q1]; exact List.mem_cons_self, _, fun G l d => m_write1 G l o md i2 h1 (d + 10) s i4 b2 i, fun r2 h2 w => ?_⟩
    obtain ⟨w1, w2, w3⟩ := w
    exact ⟨fun q => absurd q (by decide), ⟨_, w1⟩, _, gJ_irr J0 (md_irr_0 s 1) w2 w3, rfl, w3⟩
  · subst b2
    obtain ⟨r1, r2, r3, r4, r5⟩ := j1 a k b3
    have tx := tz_eq r5 b4
    have hp := tz_print r5 b4
    obtain ⟨⟨z1, z2⟩, z3, z4⟩ := r5.2.2.2.2
    subst r1
    refine ⟨_, _, fun G l d hst => c_write1 G l h d (ad 0) _ j2.1 (k.1 0) (k.1 5) (ru_np k.2.1) _ (ru_p k.2.1) rfl r4.1 rfl r4.2.2.2.2.2 z2 i hst, fun r h1 q => ?_, fun E9 h1 q => ?_⟩
    · obtain ⟨q1, q2, q3⟩ := q
      subst q3
      refine ⟨kpA_rf, ⟨_, q2⟩, fun h' kq => ?_⟩
      have J9 := gJ_kpl J0 kq
      refine ⟨_, fun G l d => m_write0 G l o md i2 h' (d + 5) s J9.2.2.2.1 b1 i q1 (ru_cnt k.2.1) (ru_b k.2.1) (rl_text k.2.2) tx.1 tx.2.1 (fun r hr => by have := tx.2.2.2.1 r hr; rw [Nat.mul_zero, Nat.zero_add] at this; exact this) (fun r hr => ⟨(tx.2.2.2.2.1 r hr).1, by have := (tx.2.2.2.2.1 r hr).2; omega⟩) hp (by omega), fun r2 h2 w => ?_⟩
      obtain ⟨s', w1, w2, w3, w4, w5⟩ := w
      refine ⟨fun _ => ?_, ⟨_, w1⟩, s', gJ_irr J9 (md_irr_of w3 (by decide) (by decide) (by decide)) w2 w5, w4, w5⟩
      rw [w1, q2, z1]
      by_cases y : i < nI (rl_text k.2.2).length
      · rw [if_pos y, if_pos y]
        obtain ⟨j, hj, rfl⟩ := nI_of q1
        rw [nI_clamp hj]
        have hjl : j < (rl_text k.2.2).length := by
          rw [Int32.lt_iff_toInt_lt, nI_toInt hj, nI_toInt (by omega)] at y
          omega
        rw [z3 j (by omega)]
      · rw [if_neg y, if_neg y]
    · obtain ⟨q1, q2, q3⟩ := q
      subst q3
      refine ⟨kpA_rf, 2, by rw [q2]; exact List.mem_cons_of_mem _ List.mem_cons_self, _, fun G l d => m_write2 G l o md i2 h1 (d + 10) s i4 b1 i q1, fun r2 h2 w => ?_⟩
      obtain ⟨w1, w2, w3⟩ := w
      exact ⟨fun q => absurd q (by decide), ⟨_, w1⟩, _, gJ_irr J0 (md_irr_0 s 2) w2 w3, rfl, w3⟩
theorem j_why (J : gJ h ad o md n s) (g k : Int32) : jc yX8_why cX8_why 3 (some .int) tI 10 1 6 [.ref (ad 0), .int g, .int k] ad h [(xISE, 1), (xIAE, 2)] (jm yX9_why cX9_why 5 (some .int) tI [.ref o, .int g, .int k] ad o md n) := by
  have J0 := J
  obtain ⟨i1, i2, i3, i4, R, la, ec, E, dy, I, F, c, len, f, D, v0, oc, rc, O, ra, chg, gg, pk, W, B, j1, j2, j3, j4, j5, j6, j7, j8⟩ := J
  obtain ⟨k0, k1, k8, k9, k10, k11, k13, k14, k19, k22, k23, k24, k25⟩ := j2
  obtain ⟨a1, a2, a3, a4, ⟨o1, o2, o3, o4⟩, a5⟩ := j6
  rcases a5 with ⟨b1, b2, b3⟩ | ⟨b1, a, kk, b2, b3, b4, b5⟩
  · subst b1
    refine ⟨_, _, fun G l d hst => c_why0 G l h d (ad 0) _ k0 ad i1 rfl oc rc O k14 g k hst, fun r h1 q => q.elim, fun E9 h1 q => ?_⟩
    obtain ⟨q1, q2⟩ := q
    subst q2
    refine ⟨kpA_rf, 1, by rw [q1]; exact List.mem_cons_self, _, fun G l d => m_why1 G l o md i2 h1 (d + 10) s i4 b2 g k, fun r2 h2 w => ?_⟩
    obtain ⟨w1, w2, w3⟩ := w
    exact ⟨fun q => absurd q (by decide), ⟨_, w1⟩, _, gJ_irr J0 (md_irr_0 s 1) w2 w3, rfl, w3⟩
  · subst b2
    obtain ⟨r1, r2, r3, r4, r5⟩ := j1 a kk b3
    have tx := tz_eq r5 b4
    subst r1
    refine ⟨_, _, fun G l d hst => c_why1 G l h d (ad 0) _ k0 ad i1 rfl oc rc O kk.1 kk.2.1 k14 r4 a2 g k hst, fun r h1 q => ?_, fun E9 h1 q => ?_⟩
    · obtain ⟨q1, q2, q3⟩ := q
      subst q3
      refine ⟨kpA_rf, ⟨_, q2⟩, fun h' kq => ?_⟩
      have J9 := gJ_kpl J0 kq
      refine ⟨_, fun G l d => m_why0 G l o md i2 h' (d + 9) s J9.2.2.2.1 b1 g k q1 rc a1 a2 (ru_g kk.2.1) (fun r hr => (tx.2.2.1 r (by omega)).1), fun r2 h2 w => ?_⟩
      obtain ⟨w1, w2, w3⟩ := w
      refine ⟨fun _ => ?_, ⟨_, w1⟩, _, gJ_irr J9 (md_irr_0 s 0) w2 w3, rfl, w3⟩
      rw [w1, q2, o1]
    · obtain ⟨q1, q2, q3⟩ := q
      subst q3
      refine ⟨kpA_rf, 2, by rw [q2]; exact List.mem_cons_of_mem _ List.mem_cons_self, _, fun G l d => m_why2 G l o md i2 h1 (d + 9) s i4 b1 g k q1, fun r2 h2 w => ?_⟩
      obtain ⟨w1, w2, w3⟩ := w
      exact ⟨fun q => absurd q (by decide), ⟨_, w1⟩, _, gJ_irr J0 (md_irr_0 s 2) w2 w3, rfl, w3⟩
end
