/-! Calls: edition -/
section
variable {h : ac_H} {ad : Nat → Nat} {o : Nat} {md : Nat → Nat} {n : Nat} {s : md_S}
theorem tr_ts {R : Nat → Option gk} {s s' : md_S} {t a : Nat} (h : tr R s t a) (e : mo_ts s s' t) : tr R s' t a := by
  obtain ⟨k, k1, k2⟩ := h
  exact ⟨k, k1, mo_txt_ts k2 e⟩
theorem gc_22 {h1 : ac_H} {la la' : Option Nat} {ec ec' : Nat} {E E' : Nat → Option Nat} {dy dy' : Nat → Int64} {I : Nat → Int32} {F : Nat → Nat → Int32} {c len : Nat} {f D : Nat → Int32} {v0 : Option Nat} {oc rc : Nat} {O : Nat → Nat → Int32} {ra : Nat} {chg : Int32} {gg pk : Nat → Int32} {W : Nat → Int64} {B : Nat → Int32} (an : inj ad 26) (K : gc h ad la ec E dy I F c len f D v0 oc rc O ra chg gg pk W B) (kq : kp h h1 ([0, 22, 23].map ad)) (p0 : h1 (ad 0) = some (.inr (8, gt_fs ad (va_rf la') ec'))) (p22 : h1 (ad 22) = some (.inl (4, 4, .inr (.inr (.inr (.inr E')))))) (p23 : h1 (ad 23) = some (.inl (2, 4, .inr (.inl dy')))) : gc h1 ad la' ec' E' dy' I F c len f D v0 oc rc O ra chg gg pk W B := by
  obtain ⟨k0, k1, ⟨a, v4, k8⟩, k9, k10, ⟨sk, hd, ca, k11⟩, ⟨u, m, a2, op, k13⟩, k14, k19, k22, k23, k24, k25⟩ := K
  have nn : ∀ i, i < 26 → (¬ i = 0 ∧ ¬ i = 22 ∧ ¬ i = 23) → ad i ∉ [0, 22, 23].map ad := fun i hi h0 => ni_ad an (by omega) (fun x hx => by
    simp only [List.mem_cons, List.not_mem_nil, or_false] at hx
    omega)
  exact ⟨p0, ⟨kq _ _ k1.1 (nn 1 (by decide) (by decide)), fun j j1 j2 => kq _ _ (k1.2.1 j j1 j2) (nn (j - 3) (by omega) (by omega)), k1.2.2⟩, ⟨a, v4, kq _ _ k8 (nn 8 (by decide) (by decide))⟩, kq _ _ k9 (nn 9 (by decide) (by decide)), kq _ _ k10 (nn 10 (by decide) (by decide)), ⟨sk, hd, ca, kq _ _ k11.1 (nn 11 (by decide) (by decide)), kq _ _ k11.2.1 (nn 12 (by decide) (by decide)), k11.2.2⟩, ⟨u, m, a2, op, kq _ _ k13 (nn 13 (by decide) (by decide))⟩, ⟨kq _ _ k14.1 (nn 14 (by decide) (by decide)), fun j j1 j2 => kq _ _ (k14.2 j j1 j2) (nn j (by omega) (by omega))⟩, ⟨kq _ _ k19.1 (nn 19 (by decide) (by decide)), kq _ _ k19.2.1 (nn 20 (by decide) (by decide)), kq _ _ k19.2.2 (nn 21 (by decide) (by decide))⟩, p22, p23, kq _ _ k24 (nn 24 (by decide) (by decide)), kq _ _ k25 (nn 25 (by decide) (by decide))⟩
theorem j_edition (J : gJ h ad o md n s) (day : Int64) : jc yX8_edition cX8_edition 4 (some .int) tI 10 1 6 [.ref (ad 0), .long day] ad h [(xISE, 1), (xIAE, 2)] (jm yX9_edition cX9_edition 3 (some .int) tI [.ref o, .long day] ad o md n) := by
  have J0 := J
  obtain ⟨i1, i2, i3, i4, R, la, ec, E, dy, I, F, c, len, f, D, v0, oc, rc, O, ra, chg, gg, pk, W, B, j1, j2, j3, j4, j5, j6, j7, j8⟩ := J
  have k2 := j2
  obtain ⟨k0, k1, k8, k9, k10, k11, k13, k14, k19, k22, k23, k24, k25⟩ := k2
  obtain ⟨e1, e2, e3, e4, e5⟩ := j5
  rcases e4 with ⟨b1, b2, b3⟩ | ⟨b1, a, b2, k, b3, b4⟩
  · subst b1
    refine ⟨_, _, fun G l d hst => c_edition0 G l h d (ad 0) (ad 22) (ad 23) _ ec E dy k0 rfl rfl rfl rfl k22 k23 e2 day hst, fun r h1 q => q.elim, fun E9 h1 q => ?_⟩
    obtain ⟨q1, q2⟩ := q
    subst q2
    refine ⟨kpA_rf, 1, by rw [q1]; exact List.mem_cons_self, _, fun G l d => m_edition1 G l o md i2 h1 (d + 10) s i4 ec e1 e2 (Or.inl b2) day, fun r2 h2 w => ?_⟩
    obtain ⟨w1, w2, w3⟩ := w
    exact ⟨fun q => absurd q (by decide), ⟨_, w1⟩, _, gJ_irr J0 (md_irr_0 s 1) w2 w3, rfl, w3⟩
  · subst b2
    obtain ⟨r1, r2, r3, r4, r5⟩ := j1 a k b3
    subst r1
    have hday : (¬ lg_cmp day 0 < 0 ∧ (ec ≤ 0 ∨ 0 < lg_cmp day (dy (ec - 1)))) ↔ (¬ day < 0 ∧ (ec = 0 ∨ s.2.2 16 (ec - 1) < day)) := by
      rw [lg_cmp_lt]
      constructor
      · rintro ⟨y1, y2⟩
        refine ⟨y1, ?_⟩
        by_cases z : ec = 0
        · exact Or.inl z
        · rcases y2 with y | y
          · exact Or.inl (by omega)
          · rw [e3 (ec - 1) (by omega)]; exact Or.inr ((lg_cmp_gt _ _).mp y)
      · rintro ⟨y1, y2⟩
        refine ⟨y1, ?_⟩
        by_cases z : ec = 0
        · exact Or.inl (by omega)
        · rcases y2 with y | y
          · exact Or.inl (by omega)
          · rw [e3 (ec - 1) (by omega)] at y; exact Or.inr ((lg_cmp_gt _ _).mpr y)
    refine ⟨_, _, fun G l d hst => c_edition1 G l h d (ad 0) (ad 22) (ad 23) _ (k.1 0) _ ec E dy k0 rfl rfl rfl rfl k22 k23 e2 r4.1 (Nat.le_of_ble_eq_true rfl) day hst, fun r h1 q => ?_, fun E9 h1 q => ?_⟩
    · obtain ⟨⟨q0, q1⟩, q2, q3, q4, q5, q6⟩ := q
      have kq : kp h h1 ([0, 22, 23].map ad) := q6
      have m1 := md_kpA i3 i4 kq (by decide)
      refine ⟨kpA_of kq (by decide), ⟨_, q2⟩, fun h' kl => ⟨_, fun G l d => m_edition0 G l o md i2 h' (d + 9) s (md_kpl m1 kl) ec e1 q0 b1 day (hday.mp q1), fun r2 h2 w => ?_⟩⟩
      obtain ⟨A, w1, w2, w5, w6, w9, w10, w7, w8, wA, w3⟩ := w
      have hts : ∀ t', ¬ ec + 1 = t' → mo_ts s (upd (upd s.1 0 0) 15 (nI (ec + 1)), A, va_up s.2.2 16 (vp_updL (s.2.2 16) ec day)) t' := fun t' ht => mo_cp_ts ht w5 w6 w9 w10 w7 w8
      refine ⟨fun _ => w1.trans q2.symm, ⟨_, w1⟩, _, ⟨i1, i2, i3, w2, R, _, ec + 1, _, _, I, F, c, len, f, D, v0, oc, rc, O, ra, chg, gg, pk, W, B, gd_kpM (gd_kpl (gd_kpA j1 kq (by decide)) kl) w3, gc_kpM (gc_kpl (gc_22 (la' := some (k.1 0)) (ec' := ec + 1) i1 j2 kq q3 q4 q5) kl) w3 i3, gj_t_A (s := s) rfl rfl (wA 1 (by decide)) j3, eq_bd_A (s := s) ?_ (fun j g1 g2 => wA j (by simp; omega)) j4, ⟨rfl, by omega, fun i hi => ?_, Or.inr ⟨b1, k.1 0, rfl, tr_ts ⟨k, b3, b4⟩ (hts 0 (by omega))⟩, fun i hi => ?_⟩, ?_, ⟨j7.1, (wA 39 (by decide)).trans j7.2⟩, gj_z_n j8⟩, rfl, w3⟩
      · intro j g1 g2
        show upd (upd s.1 0 0) 15 (nI (ec + 1)) j = s.1 j
        unfold upd
        rw [if_neg (by omega), if_neg (by omega)]
      · show vp_updL (s.2.2 16) ec day i = vp_updL dy ec day i
        unfold vp_updL
        by_cases y : i = ec
        · rw [if_pos y, if_pos y]
        · rw [if_neg y, if_neg y]; exact e3 i (by omega)
      · by_cases y : i = ec
        · subst y
          refine ⟨k.1 0, ?_, k, b3, mo_cp_txt b4 w5 w6 w9 w10 w7 w8⟩
          unfold va_up; rw [if_pos rfl]
        · obtain ⟨a9, y1, y2⟩ := e5 i (by omega)
          refine ⟨a9, ?_, tr_ts y2 (hts (i + 1) (by omega))⟩
          unfold va_up; rw [if_neg y]; exact y1
      · obtain ⟨a1, a2, a3, a4, ⟨o1, o2, o3, o4⟩, a5⟩ := j6
        refine ⟨a1, a2, a3, a4, ⟨(wA 33 (by decide)).trans o1, (wA 35 (by decide)).trans o2, (wA 36 (by decide)).trans o3, (wA 37 (by decide)).trans o4⟩, ?_⟩
        rcases a5 with y | ⟨y1, a9, k9, y2, y3, y4, y5⟩
        · exact Or.inl y
        · exact Or.inr ⟨y1, a9, k9, y2, y3, mo_txt_ts y4 (hts 5 (by omega)), y5⟩
    · rcases q with ⟨q1, q2, q3⟩ | ⟨⟨q0, q1⟩, q2, q3⟩
      · subst q3
        refine ⟨kpA_rf, 1, by rw [q2]; exact List.mem_cons_self, _, fun G l d => m_edition1 G l o md i2 h1 (d + 10) s i4 ec e1 e2 (Or.inr (by omega)) day, fun r2 h2 w => ?_⟩
        obtain ⟨w1, w2, w3⟩ := w
        exact ⟨fun q => absurd q (by decide), ⟨_, w1⟩, _, gJ_irr J0 (md_irr_0 s 1) w2 w3, rfl, w3⟩
      · subst q3
        refine ⟨kpA_rf, 2, by rw [q2]; exact List.mem_cons_of_mem _ List.mem_cons_self, _, fun G l d => m_edition2 G l o md i2 h1 (d + 10) s i4 ec e1 q0 b1 day (fun y => q1 (hday.mpr y)), fun r2 h2 w => ?_⟩
        obtain ⟨w1, w2, w3⟩ := w
        exact ⟨fun q => absurd q (by decide), ⟨_, w1⟩, _, gJ_irr J0 (md_irr_0 s 2) w2 w3, rfl, w3⟩
end
