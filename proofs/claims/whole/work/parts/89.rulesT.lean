/-! The rules of the class as a list; the same text in the reference -/
def tl_dl (b : Nat → Nat) (g : Nat → Int32) : Nat → Nat → List (Int32 × pz_P) → Prop
  | r, k, [] => b r = k
  | r, k, x :: l => g r = x.1 ∧ b r = k ∧ tl_dl b g (r + 1) (k + x.2.length) l
theorem tl_dl_eq {b b' : Nat → Nat} {g g' : Nat → Int32} : ∀ (l : List (Int32 × pz_P)) (r k : Nat), tl_dl b g r k l → (∀ i, r ≤ i → b' i = b i) → (∀ i, r ≤ i → g' i = g i) → tl_dl b' g' r k l := by
  intro l
  induction l with
  | nil => intro r k h e _; exact (e r (Nat.le_refl _)).trans h
  | cons x l ih => intro r k h e e'; exact ⟨(e' r (Nat.le_refl _)).trans h.1, (e r (Nat.le_refl _)).trans h.2.1, ih (r + 1) _ h.2.2 (fun i hi => e i (by omega)) (fun i hi => e' i (by omega))⟩
/-- steps added where there is room -/
theorem ru_adds_f : ∀ (l : pz_P) (T : ru_D) (U : pz_P), ru_sc T + l.length ≤ ru_n T → ru_b T (ru_cnt T) = ru_sc T → U.length = ru_sc T → pc_l (ru_a T) (ru_o T) U →
    ru_cnt (ru_adds T l) = ru_cnt T ∧ ru_sc (ru_adds T l) = ru_sc T + l.length ∧ ru_n (ru_adds T l) = ru_n T ∧ ru_g (ru_adds T l) = ru_g T ∧ ru_b (ru_adds T l) (ru_cnt T) = ru_sc T + l.length ∧ (∀ j, ¬ j = ru_cnt T → ru_b (ru_adds T l) j = ru_b T j) ∧ pc_l (ru_a (ru_adds T l)) (ru_o (ru_adds T l)) (List.reverseAux l U) := by
  intro l
  induction l with
  | nil => intro T U _ hb _ hp; exact ⟨rfl, rfl, rfl, rfl, hb, fun _ _ => rfl, hp⟩
  | cons x l ih =>
    intro T U hc hb hU hp
    rw [List.length_cons] at hc
    have e : ru_add T x.1 x.2 = (ru_cnt T, ru_sc T + 1, ru_n T, ru_np T, ru_g T, ru_up (ru_b T) (ru_cnt T) (ru_sc T + 1), upd (ru_a T) (ru_sc T) x.1, upd (ru_o T) (ru_sc T) x.2, ru_p T) := if_pos (by omega)
    have hp2 : pc_l (upd (ru_a T) (ru_sc T) x.1) (upd (ru_o T) (ru_sc T) x.2) (x :: U) := by
      have := pc_l_cons hp x.1 x.2
      rw [hU] at this
      exact this
    have hup : ∀ j, ru_up (ru_b T) (ru_cnt T) (ru_sc T + 1) j = if j = ru_cnt T then ru_sc T + 1 else ru_b T j := fun j => rfl
    have h := ih (ru_add T x.1 x.2) (x :: U)
    rw [e] at h
    obtain ⟨a1, a2, a3, a4, a5, a6, a7⟩ := h (by show ru_sc T + 1 + l.length ≤ ru_n T; omega) (by show ru_up (ru_b T) (ru_cnt T) (ru_sc T + 1) (ru_cnt T) = ru_sc T + 1; rw [hup, if_pos rfl]) (by show (x :: U).length = ru_sc T + 1; rw [List.length_cons, hU]) hp2
    have ea : ru_adds T (x :: l) = ru_adds (ru_cnt T, ru_sc T + 1, ru_n T, ru_np T, ru_g T, ru_up (ru_b T) (ru_cnt T) (ru_sc T + 1), upd (ru_a T) (ru_sc T) x.1, upd (ru_o T) (ru_sc T) x.2, ru_p T) l := by
      show ru_adds (ru_add T x.1 x.2) l = _
      rw [e]
    rw [ea]
    refine ⟨a1, ?_, a3, a4, ?_, fun j hj => ?_, a7⟩
    · rw [a2]; show ru_sc T + 1 + l.length = ru_sc T + (l.length + 1); omega
    · rw [a5]; show ru_sc T + 1 + l.length = ru_sc T + (l.length + 1); omega
    · rw [a6 j hj]; show ru_up (ru_b T) (ru_cnt T) (ru_sc T + 1) j = _; rw [hup, if_neg hj]
theorem ru_rules_f : ∀ (l : List (Int32 × pz_P)) (T : ru_D) (U : pz_P), ru_sc T + (pz_all l).length ≤ ru_n T → ru_cnt T + l.length ≤ 12 → ru_b T (ru_cnt T) = ru_sc T → U.length = ru_sc T → pc_l (ru_a T) (ru_o T) U →
    ru_cnt (ru_rules T l) = ru_cnt T + l.length ∧ ru_sc (ru_rules T l) = ru_sc T + (pz_all l).length ∧ ru_n (ru_rules T l) = ru_n T ∧ tl_dl (ru_b (ru_rules T l)) (ru_g (ru_rules T l)) (ru_cnt T) (ru_sc T) l ∧ (∀ j, j < ru_cnt T → ru_b (ru_rules T l) j = ru_b T j ∧ ru_g (ru_rules T l) j = ru_g T j) ∧ pc_l (ru_a (ru_rules T l)) (ru_o (ru_rules T l)) (List.reverseAux (pz_all l) U) := by
  intro l
  induction l with
  | nil => intro T U _ _ hb _ hp; exact ⟨rfl, rfl, rfl, hb, fun _ _ => ⟨rfl, rfl⟩, hp⟩
  | cons x l ih =>
    intro T U hc h12 hb hU hp
    rw [List.length_cons] at h12
    rw [show pz_all (x :: l) = x.2 ++ pz_all l from rfl, List.length_append] at hc
    have e : ru_begin T x.1 = (ru_cnt T + 1, ru_sc T, ru_n T, ru_np T, upd (ru_g T) (ru_cnt T) x.1, ru_up (ru_up (ru_b T) (ru_cnt T) (ru_sc T)) (ru_cnt T + 1) (ru_sc T), ru_a T, ru_o T, ru_p T) := if_pos (by omega)
    have hb1 : ru_b (ru_begin T x.1) (ru_cnt T + 1) = ru_sc T := by rw [e]; exact if_pos rfl
    have hb0 : ru_b (ru_begin T x.1) (ru_cnt T) = ru_sc T := by
      rw [e]
      show (if ru_cnt T = ru_cnt T + 1 then _ else (if ru_cnt T = ru_cnt T then _ else _)) = _
      rw [if_neg (by omega), if_pos rfl]
    have hbj : ∀ j, j < ru_cnt T → ru_b (ru_begin T x.1) j = ru_b T j := fun j hj => by
      rw [e]
      show (if j = ru_cnt T + 1 then _ else (if j = ru_cnt T then _ else _)) = _
      rw [if_neg (by omega), if_neg (by omega)]
    have hg0 : ru_g (ru_begin T x.1) (ru_cnt T) = x.1 := by rw [e]; exact if_pos rfl
    have hgj : ∀ j, j < ru_cnt T → ru_g (ru_begin T x.1) j = ru_g T j := fun j hj => by rw [e]; exact if_neg (by omega)
    have q1 : ru_cnt (ru_begin T x.1) = ru_cnt T + 1 := by rw [e]
    have q2 : ru_sc (ru_begin T x.1) = ru_sc T := by rw [e]
    have q3 : ru_n (ru_begin T x.1) = ru_n T := by rw [e]
    have q4 : ru_a (ru_begin T x.1) = ru_a T := by rw [e]
    have q5 : ru_o (ru_begin T x.1) = ru_o T := by rw [e]
    obtain ⟨a1, a2, a3, a4, a5, a6, a7⟩ := ru_adds_f x.2 (ru_begin T x.1) U (by rw [q2, q3]; omega) (by rw [q1, q2]; exact hb1) (by rw [q2]; exact hU) (by rw [q4, q5]; exact hp)
    rw [q1] at a1 a5 a6
    rw [q2] at a2 a5
    rw [q3] at a3
    obtain ⟨b1, b2, b3, b4, b5, b6⟩ := ih (ru_adds (ru_begin T x.1) x.2) (List.reverseAux x.2 U) (by rw [a2, a3]; omega) (by rw [a1]; omega) (by rw [a1, a2]; exact a5) (by rw [rv_len, a2, hU]; omega) a7
    rw [a1] at b1 b4 b5
    rw [a2] at b2 b4
    show ru_cnt (ru_rules (ru_adds (ru_begin T x.1) x.2) l) = _ ∧ ru_sc (ru_rules (ru_adds (ru_begin T x.1) x.2) l) = _ ∧ ru_n (ru_rules (ru_adds (ru_begin T x.1) x.2) l) = _ ∧ tl_dl (ru_b (ru_rules (ru_adds (ru_begin T x.1) x.2) l)) (ru_g (ru_rules (ru_adds (ru_begin T x.1) x.2) l)) _ _ _ ∧ (∀ j, j < ru_cnt T → ru_b (ru_rules (ru_adds (ru_begin T x.1) x.2) l) j = _ ∧ ru_g (ru_rules (ru_adds (ru_begin T x.1) x.2) l) j = _) ∧ pc_l (ru_a (ru_rules (ru_adds (ru_begin T x.1) x.2) l)) (ru_o (ru_rules (ru_adds (ru_begin T x.1) x.2) l)) _
    refine ⟨by rw [b1, List.length_cons]; omega, by rw [b2]; show _ = ru_sc T + (x.2 ++ pz_all l).length; rw [List.length_append]; omega, by rw [b3, a3], ⟨?_, ?_, b4⟩, fun j hj => ⟨?_, ?_⟩, ?_⟩
    · rw [(b5 (ru_cnt T) (by omega)).2, a4]; exact hg0
    · rw [(b5 (ru_cnt T) (by omega)).1, a6 (ru_cnt T) (by omega)]; exact hb0
    · rw [(b5 j (by omega)).1, a6 j (by omega)]; exact hbj j hj
    · rw [(b5 j (by omega)).2, a4]; exact hgj j hj
    · show pc_l _ _ (List.reverseAux (x.2 ++ pz_all l) U)
      rw [rv_app]; exact b6
/-- what a read text leaves in the class -/
theorem ru_read (l : List (Int32 × pz_P)) (n : Nat) (hn : (pz_all l).length ≤ n) (h12 : l.length ≤ 12) : ru_cnt (ru_rules (ru_new n) l) = l.length ∧ ru_sc (ru_rules (ru_new n) l) = (pz_all l).length ∧ ru_n (ru_rules (ru_new n) l) = n ∧ tl_dl (ru_b (ru_rules (ru_new n) l)) (ru_g (ru_rules (ru_new n) l)) 0 0 l ∧ pc_l (ru_a (ru_rules (ru_new n) l)) (ru_o (ru_rules (ru_new n) l)) (List.reverseAux (pz_all l) []) := by
  obtain ⟨a1, a2, a3, a4, a5, a6⟩ := ru_rules_f l (ru_new n) [] (by show 0 + (pz_all l).length ≤ n; omega) (by show 0 + l.length ≤ 12; omega) rfl rfl True.intro
  exact ⟨by rw [a1]; show 0 + _ = _; omega, by rw [a2]; show 0 + _ = _; omega, a3, a4, a6⟩
/-! places of lists -/
theorem pc_l_get {f g : Nat → Int32} : ∀ (l U : pz_P), pc_l f g (List.reverseAux l U) → ∀ i, i < l.length → (f (U.length + i), g (U.length + i)) = l.getD i (0, 0) := by
  intro l
  induction l with
  | nil => intro U _ i hi; exact absurd hi (by simp)
  | cons x l ih =>
    intro U h i hi
    have key : ∀ (m : pz_P) (V : pz_P), pc_l f g (List.reverseAux m V) → pc_l f g V := by
      intro m
      induction m with
      | nil => intro V h; exact h
      | cons y m ihm => intro V h; exact (ihm (y :: V) h).2.2
    cases i with
    | zero =>
      have hk := key l (x :: U) h
      show (f (U.length + 0), g (U.length + 0)) = x
      rw [Nat.add_zero]
      exact Prod.ext hk.1 hk.2.1
    | succ i =>
      have := ih (x :: U) h i (by rw [List.length_cons] at hi; omega)
      rw [List.length_cons, show U.length + 1 + i = U.length + (i + 1) by omega] at this
      exact this
theorem dl_both {f9 f10 g : Nat → Int32} {b : Nat → Nat} : ∀ (l : List (Int32 × pz_P)) (r k : Nat), mz_dl f9 f10 r k l → tl_dl b g r k l → (∀ i, r ≤ i → i < r + l.length → f10 i = g i ∧ b i ≤ b (i + 1)) ∧ (∀ i, r ≤ i → i ≤ r + l.length → f9 i = nI (b i) ∧ b i ≤ k + (pz_all l).length) ∧ b (r + l.length) = k + (pz_all l).length := by
  intro l
  induction l with
  | nil =>
    intro r k h1 h2
    refine ⟨fun i q1 q2 => absurd q2 (by simp; omega), fun i q1 q2 => ?_, h2⟩
    have : i = r := by simp at q2; omega
    subst this
    exact ⟨by rw [show b i = k from h2]; exact h1, by rw [show b i = k from h2]; exact Nat.le_refl _⟩
  | cons x l ih =>
    intro r k h1 h2
    obtain ⟨a1, a2, a3⟩ := ih (r + 1) (k + x.2.length) h1.2.2 h2.2.2
    have el : (pz_all (x :: l)).length = x.2.length + (pz_all l).length := by show (x.2 ++ pz_all l).length = _; rw [List.length_append]
    have hb1 : b (r + 1) = k + x.2.length := by
      cases l with
      | nil => exact h2.2.2
      | cons y l => exact h2.2.2.2.1
    refine ⟨fun i q1 q2 => ?_, fun i q1 q2 => ?_, ?_⟩
    · rw [List.length_cons] at q2
      by_cases z : i = r
      · subst z; exact ⟨h1.1.trans h2.1.symm, by rw [h2.2.1, hb1]; omega⟩
      · exact a1 i (by omega) (by omega)
    · rw [List.length_cons] at q2
      by_cases z : i = r
      · subst z; exact ⟨by rw [h2.2.1]; exact h1.2.1, by rw [h2.2.1]; omega⟩
      · have := a2 i (by omega) (by omega); exact ⟨this.1, by omega⟩
    · rw [List.length_cons, show r + (l.length + 1) = r + 1 + l.length by omega, a3]; omega
theorem cn_wf {cs : cn_L} (h : cn_ok cs) : (∀ x ∈ cn_steps cs, pz_v x) ∧ eq_wl ((cn_steps cs).map pz_m) 0 0 := by
  induction cs with
  | nil => exact ⟨fun x hx => (by cases hx), rfl⟩
  | cons c cs ih =>
    obtain ⟨i1, i2⟩ := ih (fun x hx => h x (List.mem_cons_of_mem _ hx))
    obtain ⟨p1, p2, q1, q2, s1, s2, h1, d1, h2, d2, k, e1, e2, hk, ⟨b1, b2, b3, b4⟩, e3, e4⟩ := h c List.mem_cons_self
    obtain ⟨v1, _, w1⟩ := ex_wf e1
    obtain ⟨v2, _, w2⟩ := ex_wf e2
    have hkm : pz_m (k, 0) = (16, k) ∧ pz_v (k, 0) := by
      rcases hk with rfl | rfl | rfl | rfl
      · exact ⟨rfl, Or.inr (Or.inr (Or.inr (Or.inr (Or.inr (Or.inr ⟨rfl, rfl, Or.inl rfl⟩)))))⟩
      · exact ⟨rfl, Or.inr (Or.inr (Or.inr (Or.inr (Or.inr (Or.inr ⟨rfl, rfl, Or.inr (Or.inl rfl)⟩)))))⟩
      · exact ⟨rfl, Or.inr (Or.inr (Or.inr (Or.inr (Or.inr (Or.inr ⟨rfl, rfl, Or.inr (Or.inr (Or.inl rfl))⟩)))))⟩
      · exact ⟨rfl, Or.inr (Or.inr (Or.inr (Or.inr (Or.inr (Or.inr ⟨rfl, rfl, Or.inr (Or.inr (Or.inr rfl))⟩)))))⟩
    constructor
    · intro x hx
      rcases List.mem_append.mp hx with z | z
      · rw [e3] at z
        rcases List.mem_append.mp z with z | z
        · rcases List.mem_append.mp z with z | z
          · exact v1 x z
          · exact v2 x z
        · rw [List.mem_singleton.mp z]; exact hkm.2
      · exact i1 x z
    · show eq_wl ((c.1 ++ cn_steps cs).map pz_m) 0 0
      rw [List.map_append, e3, List.map_append, List.map_append]
      refine eq_wl_app _ _ _ _ _ (eq_wl_app _ _ _ _ _ (eq_wl_app _ _ _ _ _ (w1 0 (by omega)) (w2 1 (by omega))) ⟨0, ?_, rfl⟩) i2
      rw [hkm.1]; rfl
theorem eq_wf_of {gf : Nat → Int32} : ∀ (l : pz_P) (i t t' : Nat), eq_wl l t t' → (∀ j, j < l.length → gf (i + j) = (l.getD j (0, 0)).1) → eq_wf gf l.length i t := by
  intro l
  induction l with
  | nil => intro i t t' _ _; exact True.intro
  | cons x l ih =>
    intro i t t' h e
    obtain ⟨u, a, b⟩ := h
    refine ⟨u, ?_, ih (i + 1) u t' b (fun j hj => ?_)⟩
    · have := e 0 (by simp); rw [Nat.add_zero] at this; rw [this]; exact a
    · have := e (j + 1) (by rw [List.length_cons]; omega); rw [show i + 1 + j = i + (j + 1) by omega, this]; rfl
/-- where the steps of a rule stand among all -/
theorem tl_at {b : Nat → Nat} {g : Nat → Int32} : ∀ (l : List (Int32 × pz_P)) (r k : Nat), tl_dl b g r k l → ∀ i, i < l.length → ∃ x ∈ l, g (r + i) = x.1 ∧ b (r + i + 1) - b (r + i) = x.2.length ∧ k ≤ b (r + i) ∧ b (r + i) - k + x.2.length ≤ (pz_all l).length ∧ ∀ j, j < x.2.length → (pz_all l).getD (b (r + i) - k + j) (0, 0) = x.2.getD j (0, 0) := by
  intro l
  induction l with
  | nil => intro r k _ i hi; exact absurd hi (by simp)
  | cons x l ih =>
    intro r k h i hi
    have hb1 : b (r + 1) = k + x.2.length := by
      cases l with
      | nil => exact h.2.2
      | cons y l => exact h.2.2.2.1
    have el : (pz_all (x :: l)) = x.2 ++ pz_all l := rfl
    cases i with
    | zero =>
      refine ⟨x, List.mem_cons_self, by rw [Nat.add_zero]; exact h.1, ?_, ?_, ?_, fun j hj => ?_⟩
      · show b (r + 1) - b r = x.2.length; rw [hb1, h.2.1]; omega
      · rw [Nat.add_zero, h.2.1]; exact Nat.le_refl _
      · rw [Nat.add_zero, h.2.1, el, List.length_append]; omega
      · rw [Nat.add_zero, h.2.1, el, show k - k + j = j by omega, List.getD_eq_getElem?_getD, List.getD_eq_getElem?_getD, List.getElem?_append_left hj]
    | succ i =>
      obtain ⟨y, hy, a1, a2, a3, a4, a5⟩ := ih (r + 1) (k + x.2.length) h.2.2 i (by rw [List.length_cons] at hi; omega)
      rw [show r + 1 + i = r + (i + 1) by omega] at a1 a2 a3 a4 a5
      refine ⟨y, List.mem_cons_of_mem _ hy, a1, a2, by omega, by rw [el, List.length_append]; omega, fun j hj => ?_⟩
      rw [← a5 j hj, el, List.getD_eq_getElem?_getD, List.getD_eq_getElem?_getD, List.getElem?_append_right (by omega)]
      congr 2
      omega
theorem eq_tx_of {s : md_S} {t : Nat} {l : List (Int32 × pz_P)} {T : ru_D} {rs : rl_L} (h : mo_txt s t l) (hrs : rl_ok rs) (el : l = rl_rules rs) (hc : ru_cnt T = l.length) (hd : tl_dl (ru_b T) (ru_g T) 0 0 l) (hp : pc_l (ru_a T) (ru_o T) (List.reverseAux (pz_all l) [])) : eq_tx s.2.1 t T := by
  obtain ⟨a1, a2, a3, a4, a5, a6⟩ := h
  obtain ⟨d1, d2, d3⟩ := dl_both l 0 0 a3 hd
  have hstep : ∀ i, i < (pz_all l).length → (ru_a T i, ru_o T i) = (pz_all l).getD i (0, 0) := fun i hi => by have := pc_l_get _ _ hp i hi; rw [List.length_nil, Nat.zero_add] at this; exact this
  have hmod : ∀ i, i < (pz_all l).length → (s.2.1 5 (400 * t + i), s.2.1 6 (400 * t + i)) = pz_m ((pz_all l).getD i (0, 0)) := fun i hi => by
    have := pc_l_get _ _ a4 i (by rw [List.length_map]; exact hi)
    rw [List.length_nil, Nat.zero_add] at this
    rw [this, List.getD_eq_getElem?_getD, List.getD_eq_getElem?_getD, List.getElem?_map]
    rw [List.getElem?_eq_getElem hi]; rfl
  have hval : ∀ x ∈ pz_all l, pz_v x := by
    rw [el]
    clear el hd hp hc a1 a2 a3 a4 a5 a6 d1 d2 d3 hstep hmod
    induction rs with
    | nil => intro x hx; cases hx
    | cons r rs ih =>
      intro x hx
      rcases List.mem_append.mp (show x ∈ cn_steps r.2 ++ pz_all (rl_rules rs) from hx) with z | z
      · exact (cn_wf (hrs r List.mem_cons_self).2.1).1 x z
      · exact ih (fun y hy => hrs y (List.mem_cons_of_mem _ hy)) x z
  have hrule : ∀ x ∈ l, gt_bl x.1 10 ∧ eq_wl (x.2.map pz_m) 0 0 := by
    rw [el]
    intro x hx
    obtain ⟨r, hr, e⟩ := List.mem_map.mp hx
    obtain ⟨g1, g2, g3⟩ := hrs r hr
    rw [← e]
    refine ⟨?_, (cn_wf g2).2⟩
    have e48 : (48 : Int32) + r.1 - 48 = r.1 := by rw [Int32.add_comm, Int32.add_sub_cancel]
    unfold cu_isd at g1
    rw [e48] at g1
    exact ⟨g1.1, Int32.not_le.mpr g1.2⟩
  refine ⟨by rw [a1, hc], by rw [hc]; exact a5, fun r hr => ?_, fun r hr => ?_, fun r hr => ?_, fun r hr i hi => ?_, fun r hr => ?_⟩
  · rw [hc] at hr
    obtain ⟨x, hx, e1, _⟩ := tl_at l 0 0 hd r hr
    rw [Nat.zero_add] at e1
    exact ⟨(d1 r (Nat.zero_le _) (by omega)).1, by rw [e1]; exact (hrule x hx).1⟩
  · rw [hc] at hr; exact (d2 r (Nat.zero_le _) (by omega)).1
  · rw [hc] at hr
    exact ⟨(d1 r (Nat.zero_le _) (by omega)).2, by have := (d2 (r + 1) (Nat.zero_le _) (by omega)).2; omega⟩
  · rw [hc] at hr
    have hb := (d2 (r + 1) (Nat.zero_le _) (by omega)).2
    have hi2 : i < (pz_all l).length := by omega
    have e1 := hstep i hi2
    have e2 := hmod i hi2
    rw [← e1] at e2
    have hx : (ru_a T i, ru_o T i) ∈ pz_all l := by
      rw [e1, List.getD_eq_getElem?_getD, List.getElem?_eq_getElem hi2]; exact List.getElem_mem hi2
    have hv := hval _ hx
    unfold pz_v at hv
    rw [← e2] at hv
    exact hv
  · rw [hc] at hr
    obtain ⟨x, hx, e1, e2, e3, e4, e5⟩ := tl_at l 0 0 hd r hr
    rw [Nat.zero_add] at e1 e2 e3 e4 e5
    rw [e2, ← List.length_map (f := pz_m)]
    refine eq_wf_of _ _ _ _ (hrule x hx).2 (fun j hj => ?_)
    rw [List.length_map] at hj
    have e6 := hmod (ru_b T r + j) (by omega)
    have e7 := e5 j hj
    rw [Nat.sub_zero] at e7
    rw [e7] at e6
    rw [List.getD_eq_getElem?_getD, List.getElem?_map]
    have e8 : x.2.getD j (0, 0) = x.2[j] := by rw [List.getD_eq_getElem?_getD, List.getElem?_eq_getElem hj]; rfl
    rw [List.getElem?_eq_getElem hj]
    rw [e8] at e6
    exact congrArg Prod.fst e6
