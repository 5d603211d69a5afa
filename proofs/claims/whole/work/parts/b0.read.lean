/-! Calls: read -/
section
variable {h : ac_H} {ad : Nat → Nat} {o : Nat} {md : Nat → Nat} {n : Nat} {s : md_S}
theorem j_read (J : gJ h ad o md n s) : ∃ (ms : Nat) (Q : Option Value → ac_H → Prop), ms ≤ 932 ∧ (∀ (G : ac_G) (l : Launch) (d : Nat), ac_Met G l yX8_read cX8_read 3 (some .int) (d + 62) 7 ms [.ref (ad 0)] h Q) ∧ ∀ r h1, Q r h1 → kpA ad h h1 ∧ tI r ∧ jm yX9_read cX9_read 1 (some .int) tI [.ref o] ad o md n h1 0 r := by
  obtain ⟨i1, i2, i3, i4, R, la, ec, E, dy, I, F, c, len, f, D, v0, oc, rc, O, ra, chg, gg, pk, W, B, j1, j2, j3, j4, j5, j6, j7, j8⟩ := J
  have k2 := j2
  obtain ⟨k0, k1, ⟨a, v4, k8⟩, k9, k10, k11, k13, k14, k19, k22, k23, k24, k25⟩ := k2
  obtain ⟨t1, t2, t3, t4, t5, t6, w0, t7, t8⟩ := j3
  obtain ⟨y1, y2, y3⟩ := tz_read t4 t2 t6 t5
  refine ⟨332 + 2 * len, _, by omega, fun G l d => c_read G l h d (ad 0) _ k0 (ad 8) (ad 9) (ad 10) len a f D v4 rfl k8 k9 k10 t2 (Nat.le_of_ble_eq_true rfl) t5, fun r h1 q => ?_⟩
  obtain ⟨rd, q1, q2, q3, q4, q5, q6, q7, q8, q9⟩ := q
  have hrd : ∀ j x e, j < 6 → h x = some e → ¬ x = rd j := fun j x e hj hx z => by
    rw [z, q1 j hj] at hx; cases hx
  have hold : ∀ x k, R x = some k → ¬ x = rd 0 := fun x k hk => by
    obtain ⟨r1, r2, r3, r4, r5⟩ := j1 x k hk
    rw [← r1]; exact hrd 0 _ _ (by decide) r4.1
  cases hR : (rs_rules f len 12 (0, D, ru_new len)).1 with
  | false =>
    obtain ⟨p1, p2, p3⟩ := q9 hR
    have kq : kp h h1 ([8, 10, 0].map ad) := fun x e z1 z2 => p3 x e z1 (fun z => z2 (by
      rcases List.mem_cons.mp z with rfl | z
      · exact List.mem_cons_self
      · rw [List.mem_singleton.mp z]; exact List.mem_cons_of_mem _ List.mem_cons_self))
    have m1 := md_kpA i3 i4 kq (by decide)
    refine ⟨kpA_of kq (by decide), ⟨_, p1⟩, _, fun G l d => p_read0 G l o md i2 h1 (d + 2) s m1 f len t2 t1 t4 t3 w0 t8 t7 (y1.symm.trans hR), fun r2 h2 w => ?_⟩
    obtain ⟨s', w1, w2, w3, w4, w5, ⟨wJ, wA, wT, wL⟩, w6, w7, w8⟩ := w
    have hts : ∀ t, t < 6 → mo_ts s s' t := fun t ht => by
      by_cases z : t = 0
      · rw [z]; exact w7
      · exact wT t (by omega) (by simp; omega)
    obtain ⟨e1, e2, e3, e4, e5⟩ := j5
    refine ⟨fun _ => ?_, ⟨_, w1⟩, s', ⟨i1, i2, i3, w2, R, la, ec, E, dy, I, F, c, 0, f, _, v0, oc, rc, O, ra, chg, gg, pk, W, B, gd_kpM (gd_kpA j1 kq (by decide)) w8, gc_kpM (gc_0 (la' := la) i1 j2 kq p2 ⟨_, _, q3⟩ q4 q5) w8 i3, ⟨w4, by decide, fun i hi => absurd hi (by omega), fun i hi => absurd hi (by omega), t5, fun i hi => absurd hi (by omega), w5⟩, eq_bd_A (s := s) (fun j g1 g2 => wJ j (by simp; omega)) (fun j g1 g2 => wA j (by simp; omega)) j4, ⟨(wJ 15 (by decide)).trans e1, e2, by rw [wL]; exact e3, ?_, fun i hi => ?_⟩, ?_, ⟨by rw [wL]; exact j7.1, (wA 39 (by decide)).trans j7.2⟩, gj_z_n j8⟩, w3, w8⟩
    · rw [w1, p1, y2]
    · rcases e4 with ⟨z1, z2, z3⟩ | ⟨z1, a9, z2, z3⟩
      · exact Or.inl ⟨z1, w6.trans z2, z3⟩
      · exact Or.inr ⟨by rw [w6]; exact z1, a9, z2, tr_ts z3 (hts 0 (by decide))⟩
    · obtain ⟨a9, z1, z2⟩ := e5 i hi
      exact ⟨a9, z1, tr_ts z2 (hts (i + 1) (by omega))⟩
    · obtain ⟨a1, a2, a3, a4, ⟨o1, o2, o3, o4⟩, a5⟩ := j6
      refine ⟨(wJ 32 (by decide)).trans a1, a2, (wJ 34 (by decide)).trans a3, a4, ⟨(wA 33 (by decide)).trans o1, (wA 35 (by decide)).trans o2, (wA 36 (by decide)).trans o3, (wA 37 (by decide)).trans o4⟩, ?_⟩
      rcases a5 with ⟨z1, z2, z3⟩ | ⟨z1, a9, k9', z2, z3, z4, z5⟩
      · exact Or.inl ⟨z1, (wJ 31 (by decide)).trans z2, z3⟩
      · exact Or.inr ⟨by rw [wJ 31 (by decide)]; exact z1, a9, k9', z2, z3, mo_txt_ts z4 (hts 5 (by decide)), z5⟩
  | true =>
    obtain ⟨p1, p2, p3, p4⟩ := q8 hR
    obtain ⟨rs, y4, y5⟩ := y3 hR
    have kq : kp h h1 ([8, 10, 0].map ad) := p4
    have m1 := md_kpA i3 i4 kq (by decide)
    refine ⟨kpA_of kq (by decide), ⟨_, p1⟩, _, fun G l d => p_read1 G l o md i2 h1 (d + 2) s m1 f len t2 t1 t4 t3 w0 t8 t7 (y1.symm.trans hR), fun r2 h2 w => ?_⟩
    obtain ⟨s', w1, w2, w3, w4, w11, w5, ⟨wJ, wA, wT, wL⟩, w7, w8⟩ := w
    rw [y4] at w7 w1
    have hts : ∀ t, 1 ≤ t → t < 6 → mo_ts s s' t := fun t h0 ht => wT t (by omega) (by simp; omega)
    obtain ⟨R', eR⟩ : ∃ R' : Nat → Option gk, R' = fun x => if x = rd 0 then some (rd, ru_fin (rs_rules f len 12 (0, D, ru_new len)).2.2.2 (rs_prt f (rs_rules f len 12 (0, D, ru_new len)).2.2.1 len).1 (rs_prt f (rs_rules f len 12 (0, D, ru_new len)).2.2.1 len).2, rs) else R x := ⟨_, rfl⟩
    have hR0 : R' (rd 0) = some (rd, ru_fin (rs_rules f len 12 (0, D, ru_new len)).2.2.2 (rs_prt f (rs_rules f len 12 (0, D, ru_new len)).2.2.1 len).1 (rs_prt f (rs_rules f len 12 (0, D, ru_new len)).2.2.1 len).2, rs) := by rw [eR]; exact if_pos rfl
    have hR1 : ∀ x k, R x = some k → R' x = some k := fun x k hk => by
      rw [eR]; exact (if_neg (hold x k hk)).trans hk
    have htr : ∀ t x, tr R s t x → mo_ts s s' t → tr R' s' t x := fun t x z e => by
      obtain ⟨k, z1, z2⟩ := z
      exact ⟨k, hR1 x k z1, mo_txt_ts z2 e⟩
    have g1 := gd_kpA j1 kq (by decide)
    have hgd : gd h1 ad o md R' := fun x k hk => by
      by_cases z : x = rd 0
      · subst z
        rw [hR0] at hk
        cases hk
        refine ⟨rfl, fun i j hi hj => ?_, fun j hj hm => ?_, p2, y5⟩
        · obtain ⟨e, he⟩ := gc_some j2 i hi
          exact hrd j _ e hj he
        · obtain ⟨e, he⟩ := md_some i4 _ hm
          exact hrd j _ e hj he rfl
      · rw [eR] at hk
        exact g1 x k ((if_neg z).symm.trans hk)
    obtain ⟨e1, e2, e3, e4, e5⟩ := j5
    refine ⟨fun _ => ?_, ⟨_, w1⟩, s', ⟨i1, i2, i3, w2, R', some (rd 0), ec, E, dy, I, F, c, 0, f, _, v0, oc, rc, O, ra, chg, gg, pk, W, B, gd_kpM hgd w8, gc_kpM (gc_0 (la' := some (rd 0)) i1 j2 kq p3 ⟨_, _, q3⟩ q4 q5) w8 i3, ⟨w4, by decide, fun i hi => absurd hi (by omega), fun i hi => absurd hi (by omega), t5, fun i hi => absurd hi (by omega), w5⟩, eq_bd_A (s := s) (fun j g1 g2 => wJ j (by simp; omega)) (fun j g1 g2 => wA j (by simp; omega)) j4, ⟨(wJ 15 (by decide)).trans e1, e2, by rw [wL]; exact e3, Or.inr ⟨by rw [w11]; decide, rd 0, rfl, _, hR0, w7⟩, fun i hi => ?_⟩, ?_, ⟨by rw [wL]; exact j7.1, (wA 39 (by decide)).trans j7.2⟩, ?_⟩, w3, w8⟩
    · rw [w1, p1, rl_rules_len]
      rw [show ru_cnt (rs_rules f len 12 (0, D, ru_new len)).2.2.2 = rs.length from y5.2.1.1]
    · obtain ⟨a9, z1, z2⟩ := e5 i hi
      exact ⟨a9, z1, htr _ _ z2 (hts (i + 1) (by omega) (by omega))⟩
    · obtain ⟨a1, a2, a3, a4, ⟨o1, o2, o3, o4⟩, a5⟩ := j6
      refine ⟨(wJ 32 (by decide)).trans a1, a2, (wJ 34 (by decide)).trans a3, a4, ⟨(wA 33 (by decide)).trans o1, (wA 35 (by decide)).trans o2, (wA 36 (by decide)).trans o3, (wA 37 (by decide)).trans o4⟩, ?_⟩
      rcases a5 with ⟨z1, z2, z3⟩ | ⟨z1, a9, k9', z2, z3, z4, z5⟩
      · exact Or.inl ⟨z1, (wJ 31 (by decide)).trans z2, z3⟩
      · exact Or.inr ⟨by rw [wJ 31 (by decide)]; exact z1, a9, k9', z2, hR1 _ _ z3, mo_txt_ts z4 (hts 5 (by decide) (by decide)), z5⟩
    · obtain ⟨⟨m, z1, z2, z3⟩, z4⟩ := j8
      refine ⟨⟨m, z1, by omega, z3⟩, fun z => ?_⟩
      obtain ⟨k, x1, x2⟩ := z4 z
      exact ⟨k, hR1 _ _ x1, x2⟩
end
