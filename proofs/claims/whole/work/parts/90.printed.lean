/-! The reference prints the text that the class keeps -/
theorem ex_n16 {p : pz_P} {q : List Int32} {sh : Int32} {ht dp : Nat} (e : Ex p q sh ht dp) : (∀ x ∈ p, ¬ (pz_m x).1 = 16) ∧ ¬ p = [] := by
  have ap : ∀ (p1 p2 : pz_P) (x : Int32 × Int32), (∀ y ∈ p1, ¬ (pz_m y).1 = 16) → (∀ y ∈ p2, ¬ (pz_m y).1 = 16) → ¬ (pz_m x).1 = 16 → ∀ y ∈ p1 ++ p2 ++ [x], ¬ (pz_m y).1 = 16 := by
    intro p1 p2 x h1 h2 h3 y hy
    rcases List.mem_append.mp hy with z | z
    · rcases List.mem_append.mp z with z | z
      · exact h1 y z
      · exact h2 y z
    · rw [List.mem_singleton.mp z]; exact h3
  refine e (fun p _ _ _ _ => (∀ x ∈ p, ¬ (pz_m x).1 = 16) ∧ ¬ p = []) ?_ ?_ ?_ ?_ ?_ ?_ ?_
  · intro l _ _ _; exact ⟨fun x hx => by rw [List.mem_singleton.mp hx]; show ¬ (1 : Int32) = 16; decide, by intro z; cases z⟩
  · intro c hc
    obtain ⟨_, g, e1, _, _, e4⟩ := pz_v_let (k := 0) (Or.inl hc)
    exact ⟨fun x hx => by rw [List.mem_singleton.mp hx, e1]; exact e4, by intro z; cases z⟩
  · intro c k hc _ _
    obtain ⟨_, g, e1, _, _, e4⟩ := pz_v_let (k := k - 48) (Or.inr hc)
    exact ⟨fun x hx => by rw [List.mem_singleton.mp hx, e1]; exact e4, by intro z; cases z⟩
  · intro c p q sh ht dp hc ih
    refine ⟨fun x hx => ?_, fun z => by rw [List.append_eq_nil_iff] at z; cases z.2⟩
    rcases List.mem_append.mp hx with z | z
    · exact ih.1 x z
    · rw [List.mem_singleton.mp z]; rcases hc with rfl | rfl <;> decide
  · intro k p q sh ht dp _ _ ih
    refine ⟨fun x hx => ?_, fun z => by rw [List.append_eq_nil_iff] at z; cases z.2⟩
    rcases List.mem_append.mp hx with z | z
    · exact ih.1 x z
    · rw [List.mem_singleton.mp z]; show ¬ (9 : Int32) = 16; decide
  · intro c p1 q1 sh1 ht1 dp1 p2 q2 sh2 ht2 dp2 hc i1 i2
    obtain ⟨_, g, e1, e2, e3, _⟩ := pz_v_bin (hc.elim Or.inl (fun z => Or.inr (Or.inl z)))
    exact ⟨ap _ _ _ i1.1 i2.1 (by rw [e1]; exact e3), fun z => by rw [List.append_eq_nil_iff] at z; cases z.2⟩
  · intro c p1 q1 sh1 ht1 dp1 p2 q2 sh2 ht2 dp2 hc i1 i2
    obtain ⟨_, g, e1, e2, e3, _⟩ := pz_v_bin (hc.elim (fun z => Or.inr (Or.inr (Or.inl z))) (fun z => Or.inr (Or.inr (Or.inr z))))
    exact ⟨ap _ _ _ i1.1 i2.1 (by rw [e1]; exact e3), fun z => by rw [List.append_eq_nil_iff] at z; cases z.2⟩
/-- the rows hold these steps from k on -/
def gf_at (gf af : Nat → Int32) (k : Nat) (l : pz_P) : Prop := ∀ j, j < l.length → (gf (k + j), af (k + j)) = l.getD j (0, 0)
theorem gf_app {gf af : Nat → Int32} {k : Nat} {l m : pz_P} (h : gf_at gf af k (l ++ m)) : gf_at gf af k l ∧ gf_at gf af (k + l.length) m := by
  constructor
  · intro j hj
    rw [h j (by rw [List.length_append]; omega), List.getD_eq_getElem?_getD, List.getD_eq_getElem?_getD, List.getElem?_append_left hj]
  · intro j hj
    have := h (l.length + j) (by rw [List.length_append]; omega)
    rw [show k + l.length + j = k + (l.length + j) by omega, this, List.getD_eq_getElem?_getD, List.getD_eq_getElem?_getD, List.getElem?_append_right (by omega), show l.length + j - l.length = j by omega]
theorem go_seq {gf af : Nat → Int32} {b0 bb nn m : Nat} {P' : List Int32} (hn : nn ≤ 310) : ∀ (l : pz_P) (k : Nat) (P : List Int32) (Q Q1 : pr_S), pr_seq bb nn l Q Q1 → (∀ x ∈ l, ¬ x.1 = 16) → gf_at gf af k l → P.length + bb ≤ 690 → ¬ Q = [] → pr_go gf af b0 m (k + l.length) P Q1 P' → pr_go gf af b0 (l.length + m) k P Q P' := by
  intro l
  induction l with
  | nil =>
    intro k P Q Q1 h _ _ _ _ hg
    have e : Q1 = Q := h
    rw [e, List.length_nil, Nat.add_zero] at hg
    rw [List.length_nil, Nat.zero_add]; exact hg
  | cons x l ih =>
    intro k P Q Q1 h h16 hgf hB hQ hg
    obtain ⟨a1, a2, R, a3, a4, a5⟩ := h
    have hx := hgf 0 (by simp)
    rw [Nat.add_zero] at hx
    have hx1 : gf k = x.1 := congrArg Prod.fst hx
    have hx2 : af k = x.2 := congrArg Prod.snd hx
    rw [show (x :: l).length + m = (l.length + m) + 1 by rw [List.length_cons]; omega]
    refine ⟨by rw [List.length_append]; omega, by omega, R, by rw [hx1, hx2]; exact a3, fun z => absurd z.1 hQ, fun _ => ?_⟩
    rw [if_neg (by rw [hx1]; exact h16 x List.mem_cons_self)]
    refine ih (k + 1) P R Q1 a5 (fun y hy => h16 y (List.mem_cons_of_mem _ hy)) (fun j hj => ?_) hB a4 (by rw [List.length_cons, show k + (l.length + 1) = k + 1 + l.length by omega] at hg; exact hg)
    have := hgf (j + 1) (by rw [List.length_cons]; omega)
    rw [show k + 1 + j = k + (j + 1) by omega, this]; rfl
theorem go_seq0 {gf af : Nat → Int32} {b0 bb nn m : Nat} {P' : List Int32} (hn : nn ≤ 310) (l : pz_P) (k : Nat) (P : List Int32) (Q1 : pr_S) (h : pr_seq bb nn l [] Q1) (h16 : ∀ x ∈ l, ¬ x.1 = 16) (hne : ¬ l = []) (hgf : gf_at gf af k l) (hB : P.length + 1 + bb ≤ 690) (hg : pr_go gf af b0 m (k + l.length) (if b0 < k then P ++ [44] else P) Q1 P') : pr_go gf af b0 (l.length + m) k P [] P' := by
  cases l with
  | nil => exact absurd rfl hne
  | cons x l =>
    obtain ⟨a1, a2, R, a3, a4, a5⟩ := h
    have hx := hgf 0 (by simp)
    rw [Nat.add_zero] at hx
    have hx1 : gf k = x.1 := congrArg Prod.fst hx
    have hx2 : af k = x.2 := congrArg Prod.snd hx
    have hgf2 : gf_at gf af (k + 1) l := fun j hj => by
      have := hgf (j + 1) (by rw [List.length_cons]; omega)
      rw [show k + 1 + j = k + (j + 1) by omega, this]; rfl
    rw [List.length_cons, show k + (l.length + 1) = k + 1 + l.length by omega] at hg
    rw [show (x :: l).length + m = (l.length + m) + 1 by rw [List.length_cons]; omega]
    refine ⟨by rw [show P ++ pr_cat [] = P from List.append_nil P]; omega, by simp, R, by rw [hx1, hx2]; exact a3, fun z => ?_, fun z => ?_⟩
    · rw [if_neg (by rw [hx1]; exact h16 x List.mem_cons_self)]
      rw [if_pos z.2] at hg
      exact go_seq hn l (k + 1) (P ++ [44]) R Q1 a5 (fun y hy => h16 y (List.mem_cons_of_mem _ hy)) hgf2 (by rw [List.length_append, List.length_singleton]; omega) a4 hg
    · rw [if_neg (by rw [hx1]; exact h16 x List.mem_cons_self)]
      rw [if_neg (fun y => z ⟨rfl, y⟩)] at hg
      exact go_seq hn l (k + 1) P R Q1 a5 (fun y hy => h16 y (List.mem_cons_of_mem _ hy)) hgf2 (by omega) a4 hg
/-- a condition -/
theorem cn_go1 {gf af : Nat → Int32} {b0 m : Nat} {P' : List Int32} {post : pz_P} {txt : List Int32} (h : Cn post txt) (k : Nat) (P : List Int32) (hgf : gf_at gf af k (post.map pz_m)) (hB : P.length + txt.length ≤ 600) (hg : pr_go gf af b0 m (k + post.length) ((if b0 < k then P ++ [44] else P) ++ txt) [] P') : pr_go gf af b0 (post.length + m) k P [] P' := by
  obtain ⟨p1, p2, q1, q2, s1, s2, h1, d1, h2, d2, c, e1, e2, hc, ⟨b1, b2, b3, b4⟩, e3, e4⟩ := h
  obtain ⟨x1, x0, y1⟩ := ex_pr e1
  obtain ⟨x2, _, y2⟩ := ex_pr e2
  obtain ⟨n1, m1⟩ := ex_n16 e1
  obtain ⟨n2, m2⟩ := ex_n16 e2
  have hkm : pz_m (c, 0) = (16, c) := by rcases hc with rfl | rfl | rfl | rfl <;> rfl
  have ht : txt.length = q1.length + (q2.length + 1) := by rw [e4, List.length_append, List.length_cons]
  rw [e3, List.map_append, List.map_append] at hgf
  obtain ⟨g1, g3⟩ := gf_app hgf
  obtain ⟨g1, g2⟩ := gf_app g1
  rw [List.length_map] at g2
  rw [List.length_append, List.length_map, List.length_map] at g3
  have nm : ∀ p : pz_P, (∀ x ∈ p, ¬ (pz_m x).1 = 16) → ∀ x ∈ p.map pz_m, ¬ x.1 = 16 := fun p hp x hx => by
    obtain ⟨y, hy, e⟩ := List.mem_map.mp hx
    rw [← e]; exact hp y hy
  have hlast := g3 0 (by simp)
  rw [Nat.add_zero] at hlast
  have hl1 : gf (k + (p1.length + p2.length)) = 16 := (congrArg Prod.fst hlast).trans (by show (pz_m (c, 0)).1 = 16; rw [hkm])
  have hl2 : af (k + (p1.length + p2.length)) = c := (congrArg Prod.snd hlast).trans (by show (pz_m (c, 0)).2 = c; rw [hkm])
  have el : post.length + m = (p1.map pz_m).length + ((p2.map pz_m).length + (m + 1)) := by rw [e3, List.length_append, List.length_append, List.length_map, List.length_map, List.length_singleton]; omega
  rw [el]
  obtain ⟨Pc, ePc⟩ : ∃ z, z = (if b0 < k then P ++ [44] else P) := ⟨_, rfl⟩
  have hPc : Pc.length ≤ P.length + 1 := by rw [ePc]; split; (rw [List.length_append, List.length_singleton]; omega); omega
  rw [← ePc] at hg
  refine go_seq0 (bb := q1.length + q2.length) (nn := 60) (by decide) (p1.map pz_m) k P [(q1, st3 s1)] (y1 _ _ [] (by show 0 + q1.length ≤ _; omega) (by show 0 + h1 ≤ 60; omega)) (nm p1 n1) (fun z => m1 (List.map_eq_nil_iff.mp z)) g1 (by omega) ?_
  rw [← ePc, show k + (p1.map pz_m).length = k + p1.length by rw [List.length_map]]
  refine go_seq (bb := q1.length + q2.length) (nn := 60) (by decide) (p2.map pz_m) (k + p1.length) Pc [(q1, st3 s1)] [(q2, st3 s2), (q1, st3 s1)] (y2 _ _ [(q1, st3 s1)] (by show ([] ++ q1).length + q2.length ≤ _; simp) (by show 1 + h2 ≤ 60; omega)) (nm p2 n2) g2 (by omega) (by intro z; cases z) ?_
  rw [show k + p1.length + (p2.map pz_m).length = k + (p1.length + p2.length) by rw [List.length_map]; omega]
  have hcat : pr_cat [(q2, st3 s2), (q1, st3 s1)] = q1 ++ q2 := by show ([] ++ q1) ++ q2 = _; simp
  have htwo : pr_two 16 c (st3 s1) (st3 s2) q1 q2 = txt := by
    rw [e4]
    unfold pr_two
    rw [show pr_wr (((16 : Int32) = 14 ∨ (16 : Int32) = 15) ∧ st3 s1 = 1) q1 = q1 from if_neg (fun z => absurd z.1 (by decide)), show pr_wr (¬ (16 : Int32) = 16 ∧ (st3 s2 = 1 ∨ ((16 : Int32) = 14 ∨ (16 : Int32) = 15) ∧ st3 s2 = 2)) q2 = q2 from if_neg (fun z => z.1 rfl)]
    rfl
  refine ⟨by rw [hcat, List.length_append, List.length_append]; omega, (by show 2 ≤ 310; decide), [(txt, 1)], ?_, fun z => (by cases z.1), fun _ => ?_⟩
  · rw [hl1, hl2]
    refine Or.inr (Or.inr (Or.inr ⟨by decide, (q2, st3 s2), (q1, st3 s1), [], rfl, ?_⟩))
    show [(txt, (1 : Int32))] = (pr_two 16 c (st3 s1) (st3 s2) q1 q2, if (16 : Int32) = 14 ∨ (16 : Int32) = 15 then (2 : Int32) else 1) :: []
    rw [htwo, if_neg (by decide)]
  · rw [if_pos hl1]
    have ep : k + (p1.length + p2.length) + 1 = k + post.length := by rw [e3, List.length_append, List.length_append, List.length_singleton]; omega
    rw [ep, show Pc ++ pr_cat [(txt, (1 : Int32))] = Pc ++ txt from by show Pc ++ ([] ++ txt) = _; rw [List.nil_append]]
    exact hg
theorem cn_go {gf af : Nat → Int32} {b0 : Nat} : ∀ (cs : cn_L) (k : Nat) (P : List Int32), cn_ok cs → b0 ≤ k → gf_at gf af k ((cn_steps cs).map pz_m) → (¬ cs = [] → P.length + (cn_text cs).length + 1 ≤ 600) → pr_go gf af b0 (cn_steps cs).length k P [] (P ++ (if b0 < k ∧ ¬ cs = [] then 44 :: cn_text cs else cn_text cs)) := by
  intro cs
  induction cs with
  | nil =>
    intro k P _ _ _ _
    show _ = P ++ pr_cat []
    rw [if_neg (fun z => z.2 rfl)]; rfl
  | cons c cs ih =>
    intro k P hok hk hgf hB
    replace hB := hB (by intro z; cases z)
    have hc := hok c List.mem_cons_self
    have hlenpos : 0 < c.1.length := by
      obtain ⟨p1, p2, q1, q2, s1, s2, h1, d1, h2, d2, c', e1, e2, hc', _, e3, e4⟩ := hc
      rw [e3, List.length_append, List.length_singleton]; omega
    rw [show cn_steps (c :: cs) = c.1 ++ cn_steps cs from rfl, List.map_append] at hgf
    obtain ⟨g1, g2⟩ := gf_app hgf
    rw [List.length_map] at g2
    rw [show (cn_steps (c :: cs)).length = c.1.length + (cn_steps cs).length from by show (c.1 ++ cn_steps cs).length = _; rw [List.length_append]]
    have ht : c.2.length + (if cs = [] then 0 else 1 + (cn_text cs).length) = (cn_text (c :: cs)).length := by
      cases cs with
      | nil => rw [if_pos rfl]; rfl
      | cons y l => rw [if_neg (by intro z; cases z)]; show _ = (c.2 ++ 44 :: cn_text (y :: l)).length; rw [List.length_append, List.length_cons]; omega
    refine cn_go1 hc k P g1 (by omega) ?_
    obtain ⟨Pc, ePc⟩ : ∃ z, z = (if b0 < k then P ++ [44] else P) := ⟨_, rfl⟩
    have hPc : Pc.length ≤ P.length + 1 := by rw [ePc]; split; (rw [List.length_append, List.length_singleton]; omega); omega
    rw [← ePc]
    have z := ih (k + c.1.length) (Pc ++ c.2) (fun x hx => hok x (List.mem_cons_of_mem _ hx)) (by omega) g2 (fun hne => by
      rw [List.length_append]
      rw [if_neg hne] at ht; omega)
    have e : Pc ++ c.2 ++ (if b0 < k + c.1.length ∧ ¬ cs = [] then 44 :: cn_text cs else cn_text cs) = P ++ (if b0 < k ∧ ¬ c :: cs = [] then 44 :: cn_text (c :: cs) else cn_text (c :: cs)) := by
      have e2 : c.2 ++ (if b0 < k + c.1.length ∧ ¬ cs = [] then 44 :: cn_text cs else cn_text cs) = cn_text (c :: cs) := by
        cases cs with
        | nil => rw [if_neg (fun z => z.2 rfl)]; show c.2 ++ [] = c.2; rw [List.append_nil]
        | cons y l => rw [if_pos ⟨by omega, by intro z; cases z⟩]; rfl
      rw [List.append_assoc, e2, ePc]
      by_cases q : b0 < k
      · rw [if_pos q, if_pos ⟨q, by intro z; cases z⟩, List.append_assoc]; rfl
      · rw [if_neg q, if_neg (fun z => q z.1)]
    rw [e] at z
    exact z
/-- all rules -/
theorem rl_go {gf af g10 : Nat → Int32} {b : Nat → Nat} : ∀ (rs : rl_L) (r k : Nat) (P : List Int32), rl_ok rs → tl_dl b g10 r k (rl_rules rs) → gf_at gf af k ((pz_all (rl_rules rs)).map pz_m) → (¬ rs = [] → P.length + (rl_text rs).length + 10 ≤ 500) → (¬ rs = [] → (r = 0 ↔ P = [])) → pr_rl gf af g10 b rs.length r P (P ++ (if r = 0 ∨ rs = [] then rl_text rs else 59 :: rl_text rs)) := by
  intro rs
  induction rs with
  | nil => intro r k P _ _ _ _ _; show _ = P; rw [if_pos (Or.inr rfl)]; exact List.append_nil P
  | cons x rs ih =>
    intro r k P hok hd hgf hB hP
    replace hB := hB (by intro z; cases z)
    obtain ⟨o1, o2, o3⟩ := hok x List.mem_cons_self
    have hd1 : g10 r = x.1 := hd.1
    have hd2 : b r = k := hd.2.1
    have hd3 : tl_dl b g10 (r + 1) (k + (cn_steps x.2).length) (rl_rules rs) := hd.2.2
    have hb1 : b (r + 1) = k + (cn_steps x.2).length := by
      cases rs with
      | nil => exact hd3
      | cons y l => exact hd3.2.1
    rw [show pz_all (rl_rules (x :: rs)) = cn_steps x.2 ++ pz_all (rl_rules rs) from rfl, List.map_append] at hgf
    obtain ⟨g1, g2⟩ := gf_app hgf
    rw [List.length_map] at g2
    have ht : 2 + (cn_text x.2).length + (if rs = [] then 0 else 1 + (rl_text rs).length) = (rl_text (x :: rs)).length := by
      cases rs with
      | nil => rw [if_pos rfl]; show _ = ((48 + x.1) :: 58 :: cn_text x.2).length; rw [List.length_cons, List.length_cons]; omega
      | cons y l => rw [if_neg (by intro z; cases z)]; show _ = ((48 + x.1) :: 58 :: (cn_text x.2 ++ 59 :: rl_text (y :: l))).length; rw [List.length_cons, List.length_cons, List.length_append, List.length_cons]; omega
    obtain ⟨P1, eP1⟩ : ∃ z, z = (if r = 0 then P else P ++ [59]) ++ [48 + g10 r] ++ [58] := ⟨_, rfl⟩
    have hP1 : P1.length ≤ P.length + 3 := by rw [eP1, List.length_append, List.length_append, List.length_singleton, List.length_singleton]; split; omega; (rw [List.length_append, List.length_singleton]; omega)
    refine ⟨by omega, P1 ++ cn_text x.2, ?_, ?_⟩
    · rw [hb1, hd2, show k + (cn_steps x.2).length - k = (cn_steps x.2).length by omega, ← eP1]
      have z := cn_go (gf := gf) (af := af) (b0 := k) x.2 k P1 o2 (Nat.le_refl _) g1 (fun _ => by omega)
      rw [if_neg (fun q => absurd q.1 (by omega))] at z
      exact z
    · have z := ih (r + 1) (k + (cn_steps x.2).length) (P1 ++ cn_text x.2) (fun y hy => hok y (List.mem_cons_of_mem _ hy)) hd3 g2 (fun hne => by
        rw [List.length_append]
        rw [if_neg hne] at ht; omega) (fun _ => ⟨fun q => absurd q (by omega), fun q => by
          have := congrArg List.length q
          rw [List.length_append, eP1, List.length_append, List.length_append, List.length_singleton, List.length_nil] at this; omega⟩)
      have e : P1 ++ cn_text x.2 ++ (if r + 1 = 0 ∨ rs = [] then rl_text rs else 59 :: rl_text rs) = P ++ (if r = 0 ∨ x :: rs = [] then rl_text (x :: rs) else 59 :: rl_text (x :: rs)) := by
        have e2 : (48 + x.1) :: 58 :: (cn_text x.2 ++ (if r + 1 = 0 ∨ rs = [] then rl_text rs else 59 :: rl_text rs)) = rl_text (x :: rs) := by
          cases rs with
          | nil => rw [if_pos (Or.inr rfl)]; show (48 + x.1) :: 58 :: (cn_text x.2 ++ []) = _; rw [List.append_nil]; rfl
          | cons y l => rw [if_neg (by rintro (q | q); omega; cases q)]; rfl
        rw [← e2, eP1, hd1]
        by_cases q : r = 0
        · rw [if_pos q, if_pos (show r = 0 ∨ x :: rs = [] from Or.inl q)]; simp
        · rw [if_neg q, if_neg (show ¬ (r = 0 ∨ x :: rs = []) by rintro (y | y); exact q y; cases y)]; simp
      rw [e] at z
      exact z
/-- the class's printed row is what is kept -/
theorem rs_prt_kpt (f D : Nat → Int32) : ∀ n, (rs_prt f D n).1 = (kpt f D 0 n).length ∧ ∀ i, i < (kpt f D 0 n).length → (rs_prt f D n).2 i = gl (kpt f D 0 n) i := by
  intro n
  induction n with
  | zero => exact ⟨rfl, fun i hi => absurd hi (by simp [kpt])⟩
  | succ n ih =>
    obtain ⟨i1, i2⟩ := ih
    have e : kpt f D 0 (n + 1) = kpt f D 0 n ++ kpt f D n 1 := by have := kpt_app f D n 1 0; rw [Nat.zero_add] at this; exact this
    unfold rs_prt
    by_cases h : D n = 0
    · rw [if_pos h, e, kpt_1 h]
      refine ⟨by rw [List.length_append, List.length_singleton, i1], fun i hi => ?_⟩
      rw [gl_app _ _ _ hi]
      show upd (rs_prt f D n).2 (rs_prt f D n).1 (f n) i = _
      unfold upd
      rw [i1]
      by_cases z : i = (kpt f D 0 n).length
      · rw [if_pos z, if_pos z]
      · rw [if_neg z, if_neg z]; exact i2 i (by rw [List.length_append, List.length_singleton] at hi; omega)
    · rw [if_neg h, e, kpt_d h, List.append_nil]; exact ⟨i1, i2⟩
theorem kpt_le (f D : Nat → Int32) : ∀ (n a : Nat), (kpt f D a n).length ≤ n := by
  intro n
  induction n with
  | zero => intro a; exact Nat.le_refl _
  | succ n ih =>
    intro a
    have := ih (a + 1)
    unfold kpt; split
    · rw [List.length_cons]; omega
    · omega
