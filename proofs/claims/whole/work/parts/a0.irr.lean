/-! Calls of the reference that change nothing that is compared later -/
theorem mo_txt_A {s s' : md_S} {t : Nat} {l : List (Int32 × pz_P)} (e : ∀ j, 5 ≤ j → j < 11 → s'.2.1 j = s.2.1 j) (h : mo_txt s t l) : mo_txt s' t l := by
  unfold mo_txt at h ⊢
  rw [e 5 (by decide) (by decide), e 6 (by decide) (by decide), e 7 (by decide) (by decide), e 8 (by decide) (by decide), e 9 (by decide) (by decide), e 10 (by decide) (by decide)]
  exact h
theorem tr_A {R : Nat → Option gk} {s s' : md_S} {t a : Nat} (e : ∀ j, 5 ≤ j → j < 11 → s'.2.1 j = s.2.1 j) (h : tr R s t a) : tr R s' t a := by
  obtain ⟨k, k1, k2⟩ := h
  exact ⟨k, k1, mo_txt_A e k2⟩
theorem gj_t_A {s s' : md_S} {len : Nat} {f D : Nat → Int32} (e2 : s'.1 2 = s.1 2) (e14 : s'.1 14 = s.1 14) (e1 : s'.2.1 1 = s.2.1 1) (h : gj_t s len f D) : gj_t s' len f D := by
  unfold gj_t at h ⊢
  rw [e2, e14, e1]
  exact h
theorem eq_bd_A {I : Nat → Int32} {F : Nat → Nat → Int32} {c : Nat} {s s' : md_S} (eJ : ∀ j, 17 ≤ j → j < 21 → s'.1 j = s.1 j) (eA : ∀ j, 21 ≤ j → j < 27 → s'.2.1 j = s.2.1 j) (h : eq_bd I F c s) : eq_bd I F c s' := by
  obtain ⟨a1, a2, a3, a4, a5, a6, a7⟩ := h
  exact ⟨(eJ 17 (by decide) (by decide)).trans a1, (eJ 18 (by decide) (by decide)).trans a2, (eJ 19 (by decide) (by decide)).trans a3, (eJ 20 (by decide) (by decide)).trans a4, a5, fun j hj i hi => by rw [eA (21 + j) (by omega) (by omega)]; exact a6 j hj i hi, a7⟩
theorem gj_e_A {R : Nat → Option gk} {s s' : md_S} {la : Option Nat} {ec : Nat} {E : Nat → Option Nat} {dy : Nat → Int64} (e15 : s'.1 15 = s.1 15) (e11 : s'.1 11 = s.1 11) (e16 : s'.2.2 16 = s.2.2 16) (e : ∀ j, 5 ≤ j → j < 11 → s'.2.1 j = s.2.1 j) (h : gj_e R s la ec E dy) : gj_e R s' la ec E dy := by
  obtain ⟨a1, a2, a3, a4, a5⟩ := h
  refine ⟨e15.trans a1, a2, by rw [e16]; exact a3, ?_, fun i hi => ?_⟩
  · rcases a4 with ⟨b1, b2, b3⟩ | ⟨b1, a, b2, b3⟩
    · exact Or.inl ⟨b1, e11.trans b2, b3⟩
    · exact Or.inr ⟨by rw [e11]; exact b1, a, b2, tr_A e b3⟩
  · obtain ⟨a, b1, b2⟩ := a5 i hi
    exact ⟨a, b1, tr_A e b2⟩
theorem gj_r_A {R : Nat → Option gk} {s s' : md_S} {v0 : Option Nat} {oc rc : Nat} {O : Nat → Nat → Int32} (e31 : s'.1 31 = s.1 31) (e32 : s'.1 32 = s.1 32) (e34 : s'.1 34 = s.1 34) (eO : ∀ j, 33 ≤ j → j < 38 → s'.2.1 j = s.2.1 j) (e : ∀ j, 5 ≤ j → j < 11 → s'.2.1 j = s.2.1 j) (h : gj_r R s v0 oc rc O) : gj_r R s' v0 oc rc O := by
  obtain ⟨a1, a2, a3, a4, ⟨b1, b2, b3, b4⟩, a5⟩ := h
  refine ⟨e32.trans a1, a2, e34.trans a3, a4, ⟨(eO 33 (by decide) (by decide)).trans b1, (eO 35 (by decide) (by decide)).trans b2, (eO 36 (by decide) (by decide)).trans b3, (eO 37 (by decide) (by decide)).trans b4⟩, ?_⟩
  rcases a5 with ⟨b1, b2, b3⟩ | ⟨b1, a, k, b2, b3, b4, b5⟩
  · exact Or.inl ⟨b1, e31.trans b2, b3⟩
  · exact Or.inr ⟨by rw [e31]; exact b1, a, k, b2, b3, mo_txt_A e b4, b5⟩
theorem gj_z_n {R : Nat → Option gk} {I : Nat → Int32} {F : Nat → Nat → Int32} {c ra : Nat} {chg : Int32} {gg : Nat → Int32} {n : Nat} (h : gj_z R I F c ra chg gg n) : gj_z R I F c ra chg gg (n + 1) := by
  obtain ⟨⟨m, a1, a2, a3⟩, b⟩ := h
  exact ⟨⟨m, a1, by omega, a3⟩, b⟩
/-- what a call of the reference may change without a trace -/
def md_irr (s s' : md_S) : Prop := md_eq [0, 3, 4, 28, 29, 30, 41] [12, 13, 40, 42, 43] [27] s s'
theorem gJ_irr {h h2 : ac_H} {ad : Nat → Nat} {o : Nat} {md : Nat → Nat} {n : Nat} {s s' : md_S} (J : gJ h ad o md n s) (e : md_irr s s') (K : md_ok h2 o md s') (kq : kp h h2 (md_L o md)) : gJ h2 ad o md (n + 1) s' := by
  obtain ⟨i1, i2, i3, i4, R, la, ec, E, dy, I, F, c, len, f, D, v0, oc, rc, O, ra, chg, gg, pk, W, B, j1, j2, j3, j4, j5, j6, j7, j8⟩ := J
  obtain ⟨eJ, eA, eL⟩ := e
  have e5 : ∀ j, 5 ≤ j → j < 11 → s'.2.1 j = s.2.1 j := fun j h1 h2 => eA j (by simp; omega)
  refine ⟨i1, i2, i3, K, R, la, ec, E, dy, I, F, c, len, f, D, v0, oc, rc, O, ra, chg, gg, pk, W, B, gd_kpM j1 kq, gc_kpM j2 kq i3, gj_t_A (eJ 2 (by decide)) (eJ 14 (by decide)) (eA 1 (by decide)) j3, eq_bd_A (fun j h1 h2 => eJ j (by simp; omega)) (fun j h1 h2 => eA j (by simp; omega)) j4, gj_e_A (eJ 15 (by decide)) (eJ 11 (by decide)) (eL 16 (by decide)) e5 j5, gj_r_A (eJ 31 (by decide)) (eJ 32 (by decide)) (eJ 34 (by decide)) (fun j h1 h2 => eA j (by simp; omega)) e5 j6, ⟨(eL 38 (by decide)).trans j7.1, (eA 39 (by decide)).trans j7.2⟩, gj_z_n j8⟩
theorem md_irr_0 (s : md_S) (v : Int32) : md_irr s (upd s.1 0 v, s.2.1, s.2.2) := ⟨fun j hj => by
  show upd s.1 0 v j = s.1 j
  unfold upd
  rw [if_neg (fun q => hj (by rw [q]; decide))], fun _ _ => rfl, fun _ _ => rfl⟩
theorem md_irr_of {J A L : List Nat} {s s' : md_S} (h : md_eq J A L s s') (hJ : ∀ j ∈ J, j ∈ [0, 3, 4, 28, 29, 30, 41]) (hA : ∀ j ∈ A, j ∈ [12, 13, 40, 42, 43]) (hL : ∀ j ∈ L, j ∈ [27]) : md_irr s s' :=
  ⟨fun j hj => h.1 j (fun q => hj (hJ j q)), fun j hj => h.2.1 j (fun q => hj (hA j q)), fun j hj => h.2.2 j (fun q => hj (hL j q))⟩
/-! cells beside: arrays of one long may change -/
def nl (e : ac_E) : Prop := ∀ x, e ≠ .inl (2, 1, x)
def kpl (h h2 : ac_H) : Prop := ∀ a e, h a = some e → nl e → h2 a = some e
theorem kpl_rf {h : ac_H} : kpl h h := fun _ _ z _ => z
theorem kpl_up {h : ac_H} {u : Nat} {x} {e : ac_E} (hu : h u = some (.inl (2, 1, x))) : kpl h (ac_up h u e) := fun a e1 ha hn => by
  have hne : a ≠ u := fun z => by
    rw [z, hu] at ha
    exact hn x (Option.some.inj ha).symm
  rw [ac_up_n _ _ hne]
  exact ha
theorem nl_o {x : Nat × List Value} : nl (.inr x) := fun _ z => by cases z
theorem nl_t {t m : Nat} {x} (h : ¬ t = 2) : nl (.inl (t, m, x)) := fun y z => h (congrArg Prod.fst (Sum.inl.inj z))
theorem nl_m {t m : Nat} {x} (h : ¬ m = 1) : nl (.inl (t, m, x)) := fun y z => h (congrArg (fun q => q.2.1) (Sum.inl.inj z))
theorem md_kpl {h h2 : ac_H} {o : Nat} {md : Nat → Nat} {s : md_S} (K : md_ok h o md s) (kq : kpl h h2) : md_ok h2 o md s :=
  ⟨kq _ _ K.1 nl_o, fun j hj => kq _ _ (K.2.1 j hj) (nl_t (by decide)), fun j hj => kq _ _ (K.2.2 j hj) (nl_m (by
    rcases (show j = 16 ∨ j = 27 ∨ j = 38 from by simpa [md_la] using hj) with rfl | rfl | rfl <;> decide))⟩
theorem ru_kpl {h h2 : ac_H} {rd : Nat → Nat} {T : ru_D} (U : ru_ok h rd T) (kq : kpl h h2) : ru_ok h2 rd T :=
  ⟨kq _ _ U.1 nl_o, kq _ _ U.2.1 (nl_t (by decide)), kq _ _ U.2.2.1 (nl_t (by decide)), kq _ _ U.2.2.2.1 (nl_t (by decide)), kq _ _ U.2.2.2.2.1 (nl_t (by decide)), kq _ _ U.2.2.2.2.2 (nl_t (by decide))⟩
theorem gd_kpl {h h2 : ac_H} {ad : Nat → Nat} {o : Nat} {md : Nat → Nat} {R : Nat → Option gk} (K : gd h ad o md R) (kq : kpl h h2) : gd h2 ad o md R := fun a k hk => by
  obtain ⟨e1, e2, e3, e4, e5⟩ := K a k hk
  exact ⟨e1, e2, e3, ru_kpl e4 kq, e5⟩
theorem gc_kpl {h h9 : ac_H} {ad : Nat → Nat} {la : Option Nat} {ec : Nat} {E : Nat → Option Nat} {dy : Nat → Int64} {I : Nat → Int32} {F : Nat → Nat → Int32} {c len : Nat} {f D : Nat → Int32} {v0 : Option Nat} {oc rc : Nat} {O : Nat → Nat → Int32} {ra : Nat} {chg : Int32} {gg pk : Nat → Int32} {W : Nat → Int64} {B : Nat → Int32} (K : gc h ad la ec E dy I F c len f D v0 oc rc O ra chg gg pk W B) (kq : kpl h h9) : gc h9 ad la ec E dy I F c len f D v0 oc rc O ra chg gg pk W B := by
  obtain ⟨k0, k1, ⟨a, v4, k8⟩, k9, k10, ⟨sk, hd, ca, k11⟩, ⟨u, n, a2, op, k13⟩, k14, k19, k22, k23, k24, k25⟩ := K
  exact ⟨kq _ _ k0 nl_o, ⟨kq _ _ k1.1 nl_o, fun j j1 j2 => kq _ _ (k1.2.1 j j1 j2) (nl_t (by decide)), k1.2.2⟩, ⟨a, v4, kq _ _ k8 nl_o⟩, kq _ _ k9 (nl_t (by decide)), kq _ _ k10 (nl_t (by decide)), ⟨sk, hd, ca, kq _ _ k11.1 nl_o, kq _ _ k11.2.1 (nl_m (by decide)), k11.2.2⟩, ⟨u, n, a2, op, kq _ _ k13 nl_o⟩, ⟨kq _ _ k14.1 nl_o, fun j j1 j2 => kq _ _ (k14.2 j j1 j2) (nl_t (by decide))⟩, ⟨kq _ _ k19.1 nl_o, kq _ _ k19.2.1 (nl_t (by decide)), kq _ _ k19.2.2 (nl_t (by decide))⟩, kq _ _ k22 (nl_t (by decide)), kq _ _ k23 (nl_m (by decide)), kq _ _ k24 (nl_m (by decide)), kq _ _ k25 (nl_t (by decide))⟩
theorem gJ_kpl {h h2 : ac_H} {ad : Nat → Nat} {o : Nat} {md : Nat → Nat} {n : Nat} {s : md_S} (J : gJ h ad o md n s) (kq : kpl h h2) : gJ h2 ad o md n s := by
  obtain ⟨i1, i2, i3, i4, R, la, ec, E, dy, I, F, c, len, f, D, v0, oc, rc, O, ra, chg, gg, pk, W, B, j1, j2, j3⟩ := J
  exact ⟨i1, i2, i3, md_kpl i4 kq, R, la, ec, E, dy, I, F, c, len, f, D, v0, oc, rc, O, ra, chg, gg, pk, W, B, gd_kpl j1 kq, gc_kpl j2 kq, j3⟩
def tI (r : Option Value) : Prop := ∃ v, r = some (.int v)
def tL (r : Option Value) : Prop := ∃ v, r = some (.long v)
def tN (r : Option Value) : Prop := r = none
/-- the reference's part of a call: its code, and its answer where it has none -/
def jm (y : MethodName) (cc : ByteArray) (mL : Nat) (ret : Option FieldType) (tp : Option Value → Prop) (av : List Value) (ad : Nat → Nat) (o : Nat) (md : Nat → Nat) (n : Nat) (h1 : ac_H) (code : Int32) (v : Option Value) : Prop := ∃ Q : Option Value → ac_H → Prop, (∀ (G : ac_G) (l : Launch) (d : Nat), ac_Met G l y cc mL ret (d + 10) 0 0 av h1 Q) ∧ ∀ r h2, Q r h2 → (code = 0 → r = v) ∧ tp r ∧ ∃ s', gJ h2 ad o md (n + 1) s' ∧ s'.1 0 = code ∧ kp h1 h2 (md_L o md)
/-- what a call of the class leaves alone -/
abbrev kpA (ad : Nat → Nat) (h h1 : ac_H) : Prop := kp h h1 ((List.range 26).map ad)
theorem kpA_rf {ad : Nat → Nat} {h : ac_H} : kpA ad h h := fun _ _ h1 _ => h1
theorem j_appeal {h : ac_H} {ad : Nat → Nat} {o : Nat} {md : Nat → Nat} {n : Nat} {s : md_S} (J : gJ h ad o md n s) (a b c e : Int32) : ∃ Q : Option Value → ac_H → Prop, (∀ (G : ac_G) (l : Launch) (d : Nat), ac_Met G l yX8_appeal cX8_appeal 5 (some .int) d 0 0 [.ref (ad 0), .int a, .int b, .int c, .int e] h Q) ∧ ∀ r h1, Q r h1 → kpA ad h h1 ∧ ∃ v, r = some (.int v) ∧ jm yX9_appeal cX9_appeal 5 (some .int) tI [.ref o, .int a, .int b, .int c, .int e] ad o md n h1 0 (some (.int v)) := by
  refine ⟨_, fun G l d => c_appeal G l h d (ad 0) a b c e, fun r h1 q => ?_⟩
  obtain ⟨q1, q2⟩ := q
  subst q1
  refine ⟨kpA_rf, _, q2, _, fun G l d => m_appeal G l o md J.2.1 h1 (d + 10) s J.2.2.2.1 a b c e, fun r2 h2 w => ?_⟩
  obtain ⟨w1, w2, w3⟩ := w
  exact ⟨fun _ => w1, ⟨_, w1⟩, _, gJ_irr J (md_irr_0 s 0) w2 w3, rfl, w3⟩
/-- the class's part of a call that may throw: the classes thrown with their codes -/
def jc (y : MethodName) (cc : ByteArray) (mL : Nat) (ret : Option FieldType) (tp : Option Value → Prop) (dep mc ms : Nat) (av : List Value) (ad : Nat → Nat) (h : ac_H) (ex : List (String × Int32)) (P : ac_H → Int32 → Option Value → Prop) : Prop := ∃ (Q : Option Value → ac_H → Prop) (X : String → ac_H → Prop), (∀ (G : ac_G) (l : Launch) (d : Nat), l.stackTraces = false → ac_MetX G l y cc mL ret (d + dep) mc ms av h Q X) ∧ (∀ r h1, Q r h1 → kpA ad h h1 ∧ tp r ∧ ∀ h2, kpl h1 h2 → P h2 0 r) ∧ ∀ E h1, X E h1 → kpA ad h h1 ∧ ∃ k, (E, k) ∈ ex ∧ P h1 k none
