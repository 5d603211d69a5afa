/-! The joint state of the class and the reference in one heap -/
/-- what is kept of a text that was read: its cells, its rules, its rules as a list -/
abbrev gk : Type := (Nat → Nat) × ru_D × rl_L
def gd (h : ac_H) (ad : Nat → Nat) (o : Nat) (md : Nat → Nat) (R : Nat → Option gk) : Prop := ∀ a k, R a = some k → k.1 0 = a ∧ apart ad k.1 ∧ (∀ j, j < 6 → k.1 j ∉ md_L o md) ∧ ru_ok h k.1 k.2.1 ∧ tz k.2.1 k.2.2
def gc (h : ac_H) (ad : Nat → Nat) (la : Option Nat) (ec : Nat) (E : Nat → Option Nat) (dy : Nat → Int64) (I : Nat → Int32) (F : Nat → Nat → Int32) (c len : Nat) (f D : Nat → Int32) (v0 : Option Nat) (oc rc : Nat) (O : Nat → Nat → Int32) (ra : Nat) (chg : Int32) (gg pk : Nat → Int32) (W : Nat → Int64) (B : Nat → Int32) : Prop :=
  h (ad 0) = some (.inr (8, gt_fs ad (va_rf la) ec)) ∧ pl_ok h (ad 1) (pA ad) I F c ∧ (∃ a v4, h (ad 8) = some (cu_ob 3 (ad 9) len a (.ref (ad 10)) v4)) ∧ h (ad 9) = some (.inl (0, 300, .inl f)) ∧ h (ad 10) = some (.inl (3, 300, .inl D)) ∧ (∃ s hd ca, rk_ok h (ad 11) (ad 1) (ad 12) s hd ca) ∧ (∃ u n a op, h (ad 13) = some (wk_ob u (ad 1) n a op)) ∧ rp_ok h ad (va_rf v0) oc rc O ∧ rz_ok h ad ra chg gg pk ∧ h (ad 22) = some (.inl (4, 4, .inr (.inr (.inr (.inr E))))) ∧ h (ad 23) = some (.inl (2, 4, .inr (.inl dy))) ∧ h (ad 24) = some (.inl (2, 11, .inr (.inl W))) ∧ h (ad 25) = some (.inl (1, 100, .inl B))
/-- text t of the reference is the one at a -/
def tr (R : Nat → Option gk) (s : md_S) (t a : Nat) : Prop := ∃ k, R a = some k ∧ mo_txt s t (rl_rules k.2.2)
def gj_t (s : md_S) (len : Nat) (f D : Nat → Int32) : Prop := s.1 2 = nI len ∧ len ≤ 300 ∧ (∀ i, i < len → s.2.1 1 i = f i) ∧ mz_tx f len ∧ cu_ch f ∧ (∀ i, i < len → D i = 0) ∧ ∃ w, w ≤ 330 ∧ s.1 14 = nI w
def gj_e (R : Nat → Option gk) (s : md_S) (la : Option Nat) (ec : Nat) (E : Nat → Option Nat) (dy : Nat → Int64) : Prop := s.1 15 = nI ec ∧ ec ≤ 4 ∧ (∀ i, i < ec → s.2.2 16 i = dy i) ∧ ((la = none ∧ s.1 11 = 0 ∧ ec = 0) ∨ (¬ s.1 11 = 0 ∧ ∃ a, la = some a ∧ tr R s 0 a)) ∧ ∀ i, i < ec → ∃ a, E i = some a ∧ tr R s (i + 1) a
def gj_r (R : Nat → Option gk) (s : md_S) (v0 : Option Nat) (oc rc : Nat) (O : Nat → Nat → Int32) : Prop := s.1 32 = nI rc ∧ rc ≤ 12 ∧ s.1 34 = nI oc ∧ oc ≤ 12 ∧ (s.2.1 33 = O 18 ∧ s.2.1 35 = O 15 ∧ s.2.1 36 = O 16 ∧ s.2.1 37 = O 17) ∧ ((v0 = none ∧ s.1 31 = 0 ∧ oc = 0) ∨ (¬ s.1 31 = 0 ∧ ∃ a k, v0 = some a ∧ R a = some k ∧ mo_txt s 5 (rl_rules k.2.2) ∧ rc ≤ ru_cnt k.2.1))
def gj_z (R : Nat → Option gk) (I : Nat → Int32) (F : Nat → Nat → Int32) (c ra : Nat) (chg : Int32) (gg : Nat → Int32) (n : Nat) : Prop := (∃ m, I 4 = nI m ∧ m ≤ n ∧ (chg = -1 ∨ ∃ q, chg = nI q ∧ q ≤ m)) ∧ (chg = I 4 → ∃ k, R ra = some k ∧ rz_inv I F c k.2.1 gg)
def apm (ad : Nat → Nat) (o : Nat) (md : Nat → Nat) : Prop := ∀ i, i < 26 → ad i ∉ md_L o md
/-- the joint state after n calls -/
def gJ (h : ac_H) (ad : Nat → Nat) (o : Nat) (md : Nat → Nat) (n : Nat) (s : md_S) : Prop := inj ad 26 ∧ md_inj md ∧ apm ad o md ∧ md_ok h o md s ∧ ∃ R la ec E dy I F c len f D v0 oc rc O ra chg gg pk W B, gd h ad o md R ∧ gc h ad la ec E dy I F c len f D v0 oc rc O ra chg gg pk W B ∧ gj_t s len f D ∧ eq_bd I F c s ∧ gj_e R s la ec E dy ∧ gj_r R s v0 oc rc O ∧ (s.2.2 38 = W ∧ s.2.1 39 = B) ∧ gj_z R I F c ra chg gg n
/-! frames -/
theorem md_kpL {h h9 : ac_H} {o : Nat} {md : Nat → Nat} {s : md_S} {L : List Nat} (K : md_ok h o md s) (kq : kp h h9 L) (hL : ∀ x ∈ md_L o md, x ∉ L) : md_ok h9 o md s := by
  refine ⟨kq _ _ K.1 (hL _ List.mem_cons_self), fun j hj => kq _ _ (K.2.1 j hj) (hL _ ?_), fun j hj => kq _ _ (K.2.2 j hj) (hL _ ?_)⟩
  · exact List.mem_cons_of_mem _ (List.mem_map.mpr ⟨j, List.mem_append.mpr (Or.inl hj), rfl⟩)
  · exact List.mem_cons_of_mem _ (List.mem_map.mpr ⟨j, List.mem_append.mpr (Or.inr hj), rfl⟩)
theorem ru_kpL {h h9 : ac_H} {rd : Nat → Nat} {T : ru_D} {L : List Nat} (U : ru_ok h rd T) (kq : kp h h9 L) (hL : ∀ j, j < 6 → rd j ∉ L) : ru_ok h9 rd T :=
  ⟨kq _ _ U.1 (hL 0 (by decide)), kq _ _ U.2.1 (hL 1 (by decide)), kq _ _ U.2.2.1 (hL 2 (by decide)), kq _ _ U.2.2.2.1 (hL 3 (by decide)), kq _ _ U.2.2.2.2.1 (hL 4 (by decide)), kq _ _ U.2.2.2.2.2 (hL 5 (by decide))⟩
theorem gd_kpM {h h9 : ac_H} {ad : Nat → Nat} {o : Nat} {md : Nat → Nat} {R : Nat → Option gk} (K : gd h ad o md R) (kq : kp h h9 (md_L o md)) : gd h9 ad o md R := fun a k hk => by
  obtain ⟨e1, e2, e3, e4, e5⟩ := K a k hk
  exact ⟨e1, e2, e3, ru_kpL e4 kq e3, e5⟩
theorem gd_kpA {h h9 : ac_H} {ad : Nat → Nat} {o : Nat} {md : Nat → Nat} {R : Nat → Option gk} {L : List Nat} (K : gd h ad o md R) (kq : kp h h9 (L.map ad)) (hL : ∀ x ∈ L, x < 26) : gd h9 ad o md R := fun a k hk => by
  obtain ⟨e1, e2, e3, e4, e5⟩ := K a k hk
  exact ⟨e1, e2, e3, ru_kpA e2 e4 kq hL, e5⟩
theorem md_kpA {h h9 : ac_H} {ad : Nat → Nat} {o : Nat} {md : Nat → Nat} {s : md_S} {L : List Nat} (ap : apm ad o md) (K : md_ok h o md s) (kq : kp h h9 (L.map ad)) (hL : ∀ x ∈ L, x < 26) : md_ok h9 o md s :=
  md_kpL K kq (fun x hx q => by
    obtain ⟨i, hi, e⟩ := List.mem_map.mp q
    exact ap i (hL i hi) (by rw [e]; exact hx))
theorem gc_kpM {h h9 : ac_H} {ad : Nat → Nat} {la : Option Nat} {ec : Nat} {E : Nat → Option Nat} {dy : Nat → Int64} {I : Nat → Int32} {F : Nat → Nat → Int32} {c len : Nat} {f D : Nat → Int32} {v0 : Option Nat} {oc rc : Nat} {O : Nat → Nat → Int32} {ra : Nat} {chg : Int32} {gg pk : Nat → Int32} {W : Nat → Int64} {B : Nat → Int32} {L : List Nat} (K : gc h ad la ec E dy I F c len f D v0 oc rc O ra chg gg pk W B) (kq : kp h h9 L) (hL : ∀ i, i < 26 → ad i ∉ L) : gc h9 ad la ec E dy I F c len f D v0 oc rc O ra chg gg pk W B := by
  obtain ⟨k0, k1, ⟨a, v4, k8⟩, k9, k10, ⟨sk, hd, ca, k11⟩, ⟨u, n, a2, op, k13⟩, k14, k19, k22, k23, k24, k25⟩ := K
  refine ⟨kq _ _ k0 (hL 0 (by decide)), ⟨kq _ _ k1.1 (hL 1 (by decide)), fun j j1 j2 => kq _ _ (k1.2.1 j j1 j2) (hL (j - 3) (by omega)), k1.2.2⟩, ⟨a, v4, kq _ _ k8 (hL 8 (by decide))⟩, kq _ _ k9 (hL 9 (by decide)), kq _ _ k10 (hL 10 (by decide)), ⟨sk, hd, ca, kq _ _ k11.1 (hL 11 (by decide)), kq _ _ k11.2.1 (hL 12 (by decide)), k11.2.2⟩, ⟨u, n, a2, op, kq _ _ k13 (hL 13 (by decide))⟩, ⟨kq _ _ k14.1 (hL 14 (by decide)), fun j j1 j2 => kq _ _ (k14.2 j j1 j2) (hL j (by omega))⟩, ⟨kq _ _ k19.1 (hL 19 (by decide)), kq _ _ k19.2.1 (hL 20 (by decide)), kq _ _ k19.2.2 (hL 21 (by decide))⟩, kq _ _ k22 (hL 22 (by decide)), kq _ _ k23 (hL 23 (by decide)), kq _ _ k24 (hL 24 (by decide)), kq _ _ k25 (hL 25 (by decide))⟩
/-! the text for a day -/
theorem on_text {E : Nat → Option Nat} {dy dm : Nat → Int64} {day : Int64} {la : Option Nat} : ∀ i, (∀ j, j < i → dm j = dy j) → (mo_text dm day i = 0 ∧ gt_on E dy day la i = la) ∨ ∃ t, t < i ∧ mo_text dm day i = t + 1 ∧ gt_on E dy day la i = E t := by
  intro i
  induction i with
  | zero => intro _; exact Or.inl ⟨rfl, rfl⟩
  | succ i ih =>
    intro h
    unfold mo_text gt_on
    rw [h i (by omega)]
    by_cases z : 0 < lg_cmp (dy i) day
    · rw [if_pos z, if_pos z]
      rcases ih (fun j hj => h j (by omega)) with q | ⟨t, q1, q2⟩
      · exact Or.inl q
      · exact Or.inr ⟨t, by omega, q2⟩
    · rw [if_neg z, if_neg z]; exact Or.inr ⟨i, by omega, rfl, rfl⟩
theorem gj_on {R : Nat → Option gk} {s : md_S} {la : Option Nat} {ec : Nat} {E : Nat → Option Nat} {dy : Nat → Int64} (K : gj_e R s la ec E dy) (day : Int64) : (s.1 11 = 0 ∧ gt_on E dy day la ec = none) ∨ (¬ s.1 11 = 0 ∧ ∃ a, gt_on E dy day la ec = some a ∧ mo_text (s.2.2 16) day ec < 5 ∧ tr R s (mo_text (s.2.2 16) day ec) a) := by
  obtain ⟨e1, e2, e3, e4, e5⟩ := K
  rcases e4 with ⟨l1, l2, l3⟩ | ⟨l1, a, l2, l3⟩
  · refine Or.inl ⟨l2, ?_⟩
    rw [l3, l1]; rfl
  · refine Or.inr ⟨l1, ?_⟩
    rcases on_text (E := E) (dy := dy) (day := day) (la := la) ec e3 with ⟨q1, q2⟩ | ⟨t, q1, q2, q3⟩
    · exact ⟨a, q2.trans l2, by omega, by rw [q1]; exact l3⟩
    · obtain ⟨b, b1, b2⟩ := e5 t q1
      exact ⟨b, q3.trans b1, by omega, by rw [q2]; exact b2⟩
