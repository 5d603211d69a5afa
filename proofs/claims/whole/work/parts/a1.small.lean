/-! Calls: face, worst, counted -/
section
variable {h : ac_H} {ad : Nat → Nat} {o : Nat} {md : Nat → Nat} {n : Nat} {s : md_S}
theorem j_face (J : gJ h ad o md n s) (k : Int32) : jc yX8_face cX8_face 2 (some .int) tI 10 1 6 [.ref (ad 0), .int k] ad h [("java/lang/ArrayIndexOutOfBoundsException", 1)] (jm yX9_face cX9_face 2 (some .int) tI [.ref o, .int k] ad o md n) := by
  have J0 := J
  obtain ⟨i1, i2, i3, i4, R, la, ec, E, dy, I, F, c, len, f, D, v0, oc, rc, O, ra, chg, gg, pk, W, B, j1, j2, j3, j4, j5, j6, j7, j8⟩ := J
  have hm : ∀ (h' : ac_H), kpl h h' → ∀ (v : Option Value) (cd : Int32), (gt_bl k 2 → cd = 0 ∧ v = some (.int (pl_onF (F 5) k 0 c))) → (¬ gt_bl k 2 → cd = 1) → jm yX9_face cX9_face 2 (some .int) tI [.ref o, .int k] ad o md n h' cd v := by
    intro h' kq v cd h1 h2
    have J9 := gJ_kpl J0 kq
    refine ⟨_, fun G l d => m_face G l o md i2 h' (d + 8) s J9.2.2.2.1 c j4.2.2.2.1 j4.2.2.2.2.1 k, fun r2 h2' w => ?_⟩
    obtain ⟨w1, w2, w3⟩ := w
    by_cases z : gt_bl k 2
    · obtain ⟨e1, e2⟩ := h1 z
      rw [if_pos z] at w1 w2
      refine ⟨fun _ => ?_, ⟨_, w1⟩, _, gJ_irr J9 (md_irr_0 s 0) w2 w3, e1.symm, w3⟩
      rw [w1, e2, ← eq_onF' j4 eq_bit0 k, Int32.toInt32_toInt64]
    · rw [if_neg z] at w1 w2
      have e1 := h2 z
      refine ⟨fun q => ?_, ⟨_, w1⟩, _, gJ_irr J9 (md_irr_0 s 1) w2 w3, e1.symm, w3⟩
      rw [e1] at q; exact absurd q (by decide)
  refine ⟨_, _, fun G l d hst => c_face G l h d (ad 0) _ j2.1 (ad 1) (pA ad) I F c rfl j2.2.1 k hst, fun r h1 q => ?_, fun E9 h1 q => ?_⟩
  · obtain ⟨q1, q2, q3⟩ := q
    subst q3
    exact ⟨kpA_rf, ⟨_, q2⟩, fun h' kq => hm h' kq r 0 (fun _ => ⟨rfl, q2⟩) (fun z => absurd q1 z)⟩
  · obtain ⟨q1, q2, q3⟩ := q
    subst q3
    exact ⟨kpA_rf, 1, by rw [q2]; exact List.mem_cons_self, hm _ kpl_rf none 1 (fun z => absurd z q1) (fun _ => rfl)⟩
theorem bl2 {q : Int32} (h : gt_bl q 2) : q = 0 ↔ (if q = 1 then (1 : Int32) else 0) = 0 := by
  by_cases z : q = 1
  · subst z; decide
  · rw [if_neg z]
    refine ⟨fun _ => rfl, fun _ => ?_⟩
    have h1 := h.1
    have h2 := h.2
    rw [Int32.lt_iff_toInt_lt] at h1
    rw [Int32.le_iff_toInt_le] at h2
    have h3 : ¬ q.toInt = (1 : Int32).toInt := fun y => z (Int32.toInt_inj.mp y)
    have e0 : (0 : Int32).toInt = 0 := by decide
    have e1 : (1 : Int32).toInt = 1 := by decide
    have e2 : (2 : Int32).toInt = 2 := by decide
    rw [e0] at h1; rw [e2] at h2; rw [e1] at h3
    exact Int32.toInt_inj.mp (by rw [e0]; omega)
theorem j_worst (J : gJ h ad o md n s) (k m q : Int32) : jc yX8_worst cX8_worst 4 (some .long) tL 10 1 6 [.ref (ad 0), .int k, .int m, .int q] ad h [("java/lang/IllegalArgumentException", 1)] (jm yX9_worst cX9_worst 4 (some .long) tL [.ref o, .int k, .int m, .int q] ad o md n) := by
  have J0 := J
  obtain ⟨i1, i2, i3, i4, R, la, ec, E, dy, I, F, c, len, f, D, v0, oc, rc, O, ra, chg, gg, pk, W, B, j1, j2, j3, j4, j5, j6, j7, j8⟩ := J
  have hm : ∀ (h' : ac_H), kpl h h' → ∀ (v : Option Value) (cd : Int32), ((gt_bl k 8 ∧ gt_bl q 2) → cd = 0 ∧ v = some (.long (pl_worst F k m.toInt64 q 0 c c))) → (¬ (gt_bl k 8 ∧ gt_bl q 2) → cd = 1) → jm yX9_worst cX9_worst 4 (some .long) tL [.ref o, .int k, .int m, .int q] ad o md n h' cd v := by
    intro h' kq v cd h1 h2
    have J9 := gJ_kpl J0 kq
    refine ⟨_, fun G l d => m_worst G l o md i2 h' (d + 8) s J9.2.2.2.1 c j4.2.2.2.1 j4.2.2.2.2.1 k m q, fun r2 h2' w => ?_⟩
    obtain ⟨w1, w2, w3⟩ := w
    by_cases z : gt_bl k 8 ∧ gt_bl q 2
    · obtain ⟨e1, e2⟩ := h1 z
      rw [if_pos z] at w1 w2
      refine ⟨fun _ => ?_, ⟨_, w1⟩, _, gJ_irr J9 (md_irr_0 s 0) w2 w3, e1.symm, w3⟩
      rw [w1, e2, eq_worst j4 eq_bit0 (bl2 z.2)]
    · rw [if_neg z] at w1 w2
      have e1 := h2 z
      refine ⟨fun q => ?_, ⟨_, w1⟩, _, gJ_irr J9 (md_irr_0 s 1) w2 w3, e1.symm, w3⟩
      rw [e1] at q; exact absurd q (by decide)
  refine ⟨_, _, fun G l d hst => c_worst G l h d (ad 0) _ j2.1 (ad 1) (pA ad) I F c rfl j2.2.1 k m q hst, fun r h1 q => ?_, fun E9 h1 q => ?_⟩
  · obtain ⟨q1, q2, q3⟩ := q
    subst q3
    exact ⟨kpA_rf, ⟨_, q2⟩, fun h' kq => hm h' kq r 0 (fun _ => ⟨rfl, q2⟩) (fun z => absurd q1 z)⟩
  · obtain ⟨q1, q2, q3⟩ := q
    subst q3
    exact ⟨kpA_rf, 1, by rw [q2]; exact List.mem_cons_self, hm _ kpl_rf none 1 (fun z => absurd z q1) (fun _ => rfl)⟩
theorem j_counted (J : gJ h ad o md n s) (g : Int32) : jc yX8_counted cX8_counted 2 (some .long) tL 10 1 6 [.ref (ad 0), .int g] ad h [("java/lang/IllegalArgumentException", 1)] (jm yX9_counted cX9_counted 2 (some .long) tL [.ref o, .int g] ad o md n) := by
  have J0 := J
  obtain ⟨i1, i2, i3, i4, R, la, ec, E, dy, I, F, c, len, f, D, v0, oc, rc, O, ra, chg, gg, pk, W, B, j1, j2, j3, j4, j5, j6, j7, j8⟩ := J
  have hm : ∀ (h' : ac_H), kpl h h' → ∀ (v : Option Value) (cd : Int32), ((¬ g < -1 ∧ g < 10) → cd = 0 ∧ v = some (.long (W (g + 1).toNatClampNeg))) → (¬ (¬ g < -1 ∧ g < 10) → cd = 1) → jm yX9_counted cX9_counted 2 (some .long) tL [.ref o, .int g] ad o md n h' cd v := by
    intro h' kq v cd h1 h2
    have J9 := gJ_kpl J0 kq
    refine ⟨_, fun G l d => m_counted G l o md i2 h' (d + 10) s J9.2.2.2.1 g, fun r2 h2' w => ?_⟩
    obtain ⟨w1, w2, w3⟩ := w
    by_cases z : ¬ g < -1 ∧ g < 10
    · obtain ⟨e1, e2⟩ := h1 z
      rw [if_pos z] at w1 w2
      refine ⟨fun _ => ?_, ⟨_, w1⟩, _, gJ_irr J9 (md_irr_0 s 0) w2 w3, e1.symm, w3⟩
      rw [w1, e2, j7.1]
    · rw [if_neg z] at w1 w2
      have e1 := h2 z
      refine ⟨fun q => ?_, ⟨_, w1⟩, _, gJ_irr J9 (md_irr_0 s 1) w2 w3, e1.symm, w3⟩
      rw [e1] at q; exact absurd q (by decide)
  obtain ⟨k0, k1, k8, k9, k10, k11, k13, k14, k19, k22, k23, k24, k25⟩ := j2
  refine ⟨_, _, fun G l d hst => c_counted G l h d (ad 0) _ k0 (ad 24) W rfl k24 g hst, fun r h1 q => ?_, fun E9 h1 q => ?_⟩
  · obtain ⟨q1, q2, q3⟩ := q
    subst q3
    exact ⟨kpA_rf, ⟨_, q2⟩, fun h' kq => hm h' kq r 0 (fun _ => ⟨rfl, q2⟩) (fun z => absurd q1 z)⟩
  · obtain ⟨q1, q2, q3⟩ := q
    subst q3
    exact ⟨kpA_rf, 1, by rw [q2]; exact List.mem_cons_self, hm _ kpl_rf none 1 (fun z => absurd z q1) (fun _ => rfl)⟩
end
