/-! Calls: run -/
section
variable {h : ac_H} {ad : Nat → Nat} {o : Nat} {md : Nat → Nat} {n : Nat} {s : md_S}
theorem rp_take_b {I : Nat → Int32} {F : Nat → Nat → Int32} {c : Nat} {T : ru_D} : ∀ (m r oc : Nat) (O : Nat → Nat → Int32), (rp_take I F c T m r oc O).2.2.1 ≤ r + m ∧ (rp_take I F c T m r oc O).2.1 ≤ oc + m := by
  intro m
  induction m with
  | zero => intro r oc O; exact ⟨Nat.le_refl _, Nat.le_refl _⟩
  | succ m ih =>
    intro r oc O
    unfold rp_take
    split
    · exact ⟨by show r + 1 ≤ r + (m + 1); omega, by show oc ≤ oc + (m + 1); omega⟩
    · split
      · have := ih (r + 1) oc (va_up O 18 (upd (O 18) r (rk_rule I F c 0 T r).2.1))
        omega
      · have := ih (r + 1) (oc + 1) (rp_add (va_up O 18 (upd (O 18) r (rk_rule I F c 0 T r).2.1)) oc (nI r) (rk_rule I F c 0 T r).2.1 (rk_rule I F c 0 T r).2.2)
        omega
theorem gt_tell_g {W : Nat → Int64} {g : Int32} (h1 : ¬ g < -1) (h2 : g < 10) : gt_tell W g = vp_updL W (g + 1).toNatClampNeg (W (g + 1).toNatClampNeg + 1) := by
  unfold gt_tell
  have h3 := gt_cin h1 h2
  unfold vp_in at h3
  have h4 : ¬ (g + 1) < 0 := fun z => h3 (Or.inl z)
  obtain ⟨j, hj, e⟩ := nI_of h4
  have h5 : j < 11 := by
    rw [e, nI_clamp hj] at h3
    omega
  rw [if_pos ⟨h4, by rw [e]; exact Int32.not_le.mpr (nI_lt (a := j) (b := 11) h5 (by decide))⟩]
theorem gc_14 {h1 : ac_H} {la : Option Nat} {ec : Nat} {E : Nat → Option Nat} {dy : Nat → Int64} {I : Nat → Int32} {F : Nat → Nat → Int32} {c len : Nat} {f D : Nat → Int32} {v0 v0' : Option Nat} {oc rc oc' rc' : Nat} {O O' : Nat → Nat → Int32} {ra : Nat} {chg : Int32} {gg pk : Nat → Int32} {W W' : Nat → Int64} {B : Nat → Int32} (an : inj ad 26) (K : gc h ad la ec E dy I F c len f D v0 oc rc O ra chg gg pk W B) (kq : kp h h1 ([14, 15, 16, 17, 18, 11, 12, 24].map ad)) (p11 : ∃ s hd ca, rk_ok h1 (ad 11) (ad 1) (ad 12) s hd ca) (p14 : rp_ok h1 ad (va_rf v0') oc' rc' O') (p24 : h1 (ad 24) = some (.inl (2, 11, .inr (.inl W')))) : gc h1 ad la ec E dy I F c len f D v0' oc' rc' O' ra chg gg pk W' B := by
  obtain ⟨k0, k1, ⟨a, v4, k8⟩, k9, k10, k11, ⟨u, m, a2, op, k13⟩, k14, k19, k22, k23, k24, k25⟩ := K
  have nn : ∀ i, i < 26 → (¬ i = 11 ∧ ¬ i = 12 ∧ ¬ (14 ≤ i ∧ i ≤ 18) ∧ ¬ i = 24) → ad i ∉ [14, 15, 16, 17, 18, 11, 12, 24].map ad := fun i hi h0 => ni_ad an (by omega) (fun x hx => by
    simp only [List.mem_cons, List.not_mem_nil, or_false] at hx
    omega)
  exact ⟨kq _ _ k0 (nn 0 (by decide) (by decide)), pl_kpA an k1 kq (by decide), ⟨a, v4, kq _ _ k8 (nn 8 (by decide) (by decide))⟩, kq _ _ k9 (nn 9 (by decide) (by decide)), kq _ _ k10 (nn 10 (by decide) (by decide)), p11, ⟨u, m, a2, op, kq _ _ k13 (nn 13 (by decide) (by decide))⟩, p14, ⟨kq _ _ k19.1 (nn 19 (by decide) (by decide)), kq _ _ k19.2.1 (nn 20 (by decide) (by decide)), kq _ _ k19.2.2 (nn 21 (by decide) (by decide))⟩, kq _ _ k22 (nn 22 (by decide) (by decide)), kq _ _ k23 (nn 23 (by decide) (by decide)), p24, kq _ _ k25 (nn 25 (by decide) (by decide))⟩
theorem j_run (J : gJ h ad o md n s) (day : Int64) : jc yX8_run cX8_run 5 (some .int) tI 10 1 6 [.ref (ad 0), .long day] ad h [(xISE, 1)] (jm yX9_run cX9_run 6 (some .int) tI [.ref o, .long day] ad o md n) := by
  have J0 := J
  obtain ⟨i1, i2, i3, i4, R, la, ec, E, dy, I, F, c, len, f, D, v0, oc, rc, O, ra, chg, gg, pk, W, B, j1, j2, j3, j4, j5, j6, j7, j8⟩ := J
  have k2 := j2
  obtain ⟨k0, k1, k8, k9, k10, ⟨sk, hd, ca, k11⟩, k13, k14, k19, k22, k23, k24, k25⟩ := k2
  obtain ⟨a1, a2, a3, a4, ⟨o1, o2, o3, o4⟩, a5⟩ := j6
  rcases gj_on j5 day with ⟨b1, b2⟩ | ⟨b1, a, b2, b5, k, b3, b4⟩
  · refine ⟨_, _, fun G l d hst => c_run0 G l h d ad i1 _ k0 la ec E dy rfl rfl rfl rfl k22 k23 j5.2.1 day b2 hst, fun r h1 q => q.elim, fun E9 h1 q => ?_⟩
    obtain ⟨q1, q2⟩ := q
    subst q2
    refine ⟨kpA_rf, 1, by rw [q1]; exact List.mem_cons_self, _, fun G l d => m_run0 G l o md i2 h1 (d + 10) s i4 b1 day, fun r2 h2 w => ?_⟩
    obtain ⟨w1, w2, w3⟩ := w
    exact ⟨fun q => absurd q (by decide), ⟨_, w1⟩, _, gJ_irr J0 (md_irr_0 s 1) w2 w3, rfl, w3⟩
  · obtain ⟨r1, r2, r3, r4, r5⟩ := j1 a k b3
    have tx := tz_eq r5 b4
    have hg := rp_take_g (I := I) (F := F) (c := c) (tz_gr r5) (ru_cnt k.2.1) 0 0 O (Nat.zero_add _)
    have hb := rp_take_b (I := I) (F := F) (c := c) (T := k.2.1) (ru_cnt k.2.1) 0 0 O
    have h12 := (tz_wf r5).1
    subst r1
    refine ⟨_, _, fun G l d hst => c_run1 G l h d ad i1 _ k0 la ec E dy rfl rfl rfl rfl k22 k23 j5.2.1 day k.1 k.2.1 r2 r4 (tz_wf r5) b2 I F c k1 sk hd ca k11 _ oc rc O k14 W k24 rfl rfl rfl hst, fun r h1 q => ?_, fun E9 h1 q => q.elim⟩
    obtain ⟨q1, q2, q3, q4, q5⟩ := q
    have kq : kp h h1 ([14, 15, 16, 17, 18, 11, 12, 24].map ad) := q5
    have m1 := md_kpA i3 i4 kq (by decide)
    refine ⟨kpA_of kq (by decide), ⟨_, q1⟩, fun h' kl => ⟨_, fun G l d => m_run1 G l o md i2 h' (d + 6) s (md_kpl m1 kl) b1 day ec j5.1 j5.2.1 c I F k.2.1 j4 tx O o1 o2 o3 o4, fun r2' h2 w => ?_⟩⟩
    obtain ⟨J9, A9, L9, w1, w2, w3, w4, w5, w6, ⟨x1, x2, x3, x4⟩, w7, wJ, wA, wL, ⟨c5, c6, c9, c10, c7, c8⟩, w9⟩ := w
    have hts : ∀ t', ¬ 5 = t' → mo_ts s (J9, A9, L9) t' := fun t' ht => mo_cp_ts ht c5 c6 c9 c10 c7 c8
    obtain ⟨e1, e2, e3, e4, e5⟩ := j5
    refine ⟨fun _ => w1.trans q1.symm, ⟨_, w1⟩, _, ⟨i1, i2, i3, w2, R, la, ec, E, dy, I, F, c, len, f, D, some (k.1 0), _, _, _, ra, chg, gg, pk, _, B, gd_kpM (gd_kpl (gd_kpA j1 kq (by decide)) kl) w9, gc_kpM (gc_kpl (gc_14 i1 j2 kq q3 q2 q4) kl) w9 i3, gj_t_A (s := s) (wJ 2 (by decide)) (wJ 14 (by decide)) (wA 1 (by decide)) j3, eq_bd_A (s := s) (fun j g1 g2 => wJ j (by simp; omega)) (fun j g1 g2 => wA j (by simp; omega)) j4, ⟨(wJ 15 (by decide)).trans e1, e2, fun i hi => ?_, ?_, fun i hi => ?_⟩, ⟨w5, by omega, w6, by omega, ⟨x1, x2, x3, x4⟩, Or.inr ⟨?_, k.1 0, k, rfl, b3, mo_cp_txt b4 c5 c6 c9 c10 c7 c8, by omega⟩⟩, ⟨?_, (wA 39 (by decide)).trans j7.2⟩, gj_z_n j8⟩, w3, w9⟩
    · show L9 16 i = dy i
      rw [wL 16 (by decide)]; exact e3 i hi
    · rcases e4 with ⟨y1, y2, y3⟩ | ⟨y1, a9, y2, y3⟩
      · exact Or.inl ⟨y1, (wJ 11 (by decide)).trans y2, y3⟩
      · exact Or.inr ⟨by show ¬ J9 11 = 0; rw [wJ 11 (by decide)]; exact y1, a9, y2, tr_ts y3 (hts 0 (by decide))⟩
    · obtain ⟨a9, y1, y2⟩ := e5 i hi
      exact ⟨a9, y1, tr_ts y2 (hts (i + 1) (by omega))⟩
    · show ¬ J9 31 = 0
      rw [w4]; decide
    · show L9 38 = _
      rw [w7, gt_tell_g hg.1 hg.2, j7.1]
end
