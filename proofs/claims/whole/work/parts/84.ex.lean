/-! EXPRESSIONS: their steps, their text, their shape (0 factor, 1 product, 2 sum), the height of stack they want, the depth of their text; by its own induction -/
def ex_d (b : Prop) [Decidable b] (n : Nat) : Nat := if b then n + 1 else n
def Ex (post : pz_P) (pp : List Int32) (sh : Int32) (ht dp : Nat) : Prop := ∀ P : pz_P → List Int32 → Int32 → Nat → Nat → Prop,
  (∀ l : List Nat, dg_ok l → ¬ l = [] → l.length ≤ 6 → P [(35, nI (dg_v l))] (dg_c (dg_t l)) 0 1 0) →
  (∀ c : Int32, (c = 108 ∨ c = 119 ∨ c = 116) → P [(c, 0)] [c] 0 1 0) →
  (∀ c k : Int32, (c = 110 ∨ c = 97 ∨ c = 115 ∨ c = 101) → cu_isd k 8 → (0 ≤ k.toInt ∧ k.toInt ≤ 126) → P [(c, k - 48)] [c, k] 0 1 0) →
  (∀ c p q sh ht dp, (c = 126 ∨ c = 102) → P p q sh ht dp → P (p ++ [(c, 0)]) ((if c = 126 then 45 else 102) :: pr_wr (¬ sh = 0) q) 0 ht (ex_d (¬ sh = 0) dp)) →
  (∀ k p q sh ht dp, cu_isd k 8 → (0 ≤ k.toInt ∧ k.toInt ≤ 126) → P p q sh ht dp → P (p ++ [(99, k - 48)]) (99 :: k :: pr_wr (¬ sh = 0) q) 0 ht (ex_d (¬ sh = 0) dp)) →
  (∀ c p1 q1 sh1 ht1 dp1 p2 q2 sh2 ht2 dp2, (c = 42 ∨ c = 47) → P p1 q1 sh1 ht1 dp1 → P p2 q2 sh2 ht2 dp2 → P (p1 ++ p2 ++ [(c, 0)]) (pr_wr (sh1 = 2) q1 ++ c :: pr_wr (¬ sh2 = 0) q2) 1 (max ht1 (ht2 + 1)) (max (ex_d (sh1 = 2) dp1) (ex_d (¬ sh2 = 0) dp2))) →
  (∀ c p1 q1 sh1 ht1 dp1 p2 q2 sh2 ht2 dp2, (c = 43 ∨ c = 45) → P p1 q1 sh1 ht1 dp1 → P p2 q2 sh2 ht2 dp2 → P (p1 ++ p2 ++ [(c, 0)]) (q1 ++ c :: pr_wr (sh2 = 2) q2) 2 (max ht1 (ht2 + 1)) (max dp1 (ex_d (sh2 = 2) dp2))) →
  P post pp sh ht dp
theorem ex_num (l : List Nat) (h1 : dg_ok l) (h2 : ¬ l = []) (h3 : l.length ≤ 6) : Ex [(35, nI (dg_v l))] (dg_c (dg_t l)) 0 1 0 := fun _ a _ _ _ _ _ _ => a l h1 h2 h3
theorem ex_let (c : Int32) (h : c = 108 ∨ c = 119 ∨ c = 116) : Ex [(c, 0)] [c] 0 1 0 := fun _ _ a _ _ _ _ _ => a c h
theorem ex_knd (c k : Int32) (h : c = 110 ∨ c = 97 ∨ c = 115 ∨ c = 101) (hk : cu_isd k 8) (hk2 : 0 ≤ k.toInt ∧ k.toInt ≤ 126) : Ex [(c, k - 48)] [c, k] 0 1 0 := fun _ _ _ a _ _ _ _ => a c k h hk hk2
theorem ex_un {p : pz_P} {q : List Int32} {sh : Int32} {ht dp : Nat} (c : Int32) (h : c = 126 ∨ c = 102) (e : Ex p q sh ht dp) : Ex (p ++ [(c, 0)]) ((if c = 126 then 45 else 102) :: pr_wr (¬ sh = 0) q) 0 ht (ex_d (¬ sh = 0) dp) := fun P a1 a2 a3 a4 a5 a6 a7 => a4 c p q sh ht dp h (e P a1 a2 a3 a4 a5 a6 a7)
theorem ex_cc {p : pz_P} {q : List Int32} {sh : Int32} {ht dp : Nat} (k : Int32) (hk : cu_isd k 8) (hk2 : 0 ≤ k.toInt ∧ k.toInt ≤ 126) (e : Ex p q sh ht dp) : Ex (p ++ [(99, k - 48)]) (99 :: k :: pr_wr (¬ sh = 0) q) 0 ht (ex_d (¬ sh = 0) dp) := fun P a1 a2 a3 a4 a5 a6 a7 => a5 k p q sh ht dp hk hk2 (e P a1 a2 a3 a4 a5 a6 a7)
theorem ex_mul {p1 p2 : pz_P} {q1 q2 : List Int32} {sh1 sh2 : Int32} {ht1 dp1 ht2 dp2 : Nat} (c : Int32) (h : c = 42 ∨ c = 47) (e1 : Ex p1 q1 sh1 ht1 dp1) (e2 : Ex p2 q2 sh2 ht2 dp2) : Ex (p1 ++ p2 ++ [(c, 0)]) (pr_wr (sh1 = 2) q1 ++ c :: pr_wr (¬ sh2 = 0) q2) 1 (max ht1 (ht2 + 1)) (max (ex_d (sh1 = 2) dp1) (ex_d (¬ sh2 = 0) dp2)) := fun P a1 a2 a3 a4 a5 a6 a7 => a6 c _ _ _ _ _ _ _ _ _ _ h (e1 P a1 a2 a3 a4 a5 a6 a7) (e2 P a1 a2 a3 a4 a5 a6 a7)
theorem ex_add {p1 p2 : pz_P} {q1 q2 : List Int32} {sh1 sh2 : Int32} {ht1 dp1 ht2 dp2 : Nat} (c : Int32) (h : c = 43 ∨ c = 45) (e1 : Ex p1 q1 sh1 ht1 dp1) (e2 : Ex p2 q2 sh2 ht2 dp2) : Ex (p1 ++ p2 ++ [(c, 0)]) (q1 ++ c :: pr_wr (sh2 = 2) q2) 2 (max ht1 (ht2 + 1)) (max dp1 (ex_d (sh2 = 2) dp2)) := fun P a1 a2 a3 a4 a5 a6 a7 => a7 c _ _ _ _ _ _ _ _ _ _ h (e1 P a1 a2 a3 a4 a5 a6 a7) (e2 P a1 a2 a3 a4 a5 a6 a7)
theorem ex_sh {p : pz_P} {q : List Int32} {sh : Int32} {ht dp : Nat} (e : Ex p q sh ht dp) : sh = 0 ∨ sh = 1 ∨ sh = 2 :=
  e (fun _ _ sh _ _ => sh = 0 ∨ sh = 1 ∨ sh = 2) (fun _ _ _ _ => Or.inl rfl) (fun _ _ => Or.inl rfl) (fun _ _ _ _ _ => Or.inl rfl) (fun _ _ _ _ _ _ _ _ => Or.inl rfl) (fun _ _ _ _ _ _ _ _ _ => Or.inl rfl) (fun _ _ _ _ _ _ _ _ _ _ _ _ _ _ => Or.inr (Or.inl rfl)) (fun _ _ _ _ _ _ _ _ _ _ _ _ _ _ => Or.inr (Or.inr rfl))
/-! What the reader reads is such an expression, and what it keeps is its text -/
section
variable {f : Nat → Int32} {len : Nat}
/-- the result x of reading from s on: the marks elsewhere stay, the place behind -/
def cl_fr (s : rs_S) (x : rs_R) (len : Nat) : Prop := s.1 < x.2.1 ∧ x.2.1 ≤ len ∧ ∀ i, ¬ (s.1 ≤ i ∧ i < x.2.1) → x.2.2.1 i = s.2.1 i
abbrev cl_new (s : rs_S) (len : Nat) : Prop := s.1 ≤ len ∧ ∀ i, s.1 ≤ i → i < len → s.2.1 i = 0
/-- a factor, whose own parentheses are left out yet -/
def cl_F (f : Nat → Int32) (len : Nat) (x : rs_S → rs_R) (z : Nat → pz_R) (hm dm : Nat) : Prop := ∀ s : rs_S, cl_new s len → ¬ (x s).1 = -1 → ∃ pp ht dp, Ex (z s.1).2.2 pp (x s).1 ht dp ∧ ht ≤ hm ∧ dp ≤ dm ∧ (¬ (x s).1 = 0 → dp + 1 ≤ dm ∧ cl_par f (x s).2.2.1 s.1 (x s).2.1) ∧ cl_fr s (x s) len ∧ kpt f (x s).2.2.1 s.1 ((x s).2.1 - s.1) = pp
def cl_E (f : Nat → Int32) (len : Nat) (x : rs_S → rs_R) (z : Nat → pz_R) (hm dm : Nat) : Prop := ∀ s : rs_S, cl_new s len → ¬ (x s).1 = -1 → ∃ pp ht dp, Ex (z s.1).2.2 pp (x s).1 ht dp ∧ ht ≤ hm ∧ dp ≤ dm ∧ cl_fr s (x s) len ∧ kpt f (x s).2.2.1 s.1 ((x s).2.1 - s.1) = pp
theorem cl_num (ht : mz_tx f len) (hl : len ≤ 300) (s : rs_S) (hn : cl_new s len) (hd : ¬ cu_c f len s.1 < 48 ∧ ¬ 57 < cu_c f len s.1) : ∃ pp, Ex (pz_num f len s.1).2.2 pp 0 1 0 ∧ cl_fr s (rs_num f len s) len ∧ kpt f (rs_num f len s).2.2.1 s.1 ((rs_num f len s).2.1 - s.1) = pp := by
  obtain ⟨l, k1, k2, k3, k4, k5, k6, k7⟩ := cu_num_dg ht 6 s.1 [] (fun x hx => by cases hx)
  rw [List.nil_append] at k1 k4
  have e0 : nI (dg_v []) = 0 := rfl
  rw [e0] at k3 k4
  have h1 := k7 hd (by decide)
  have hne : ¬ l = [] := fun z => by rw [z] at h1; exact absurd h1 (by decide)
  have h6 := k6 hn.1
  obtain ⟨z1, z2⟩ := rs_zer_n (f := f) (e := s.1 + l.length) (by omega) 300 s.1 s.2.1 l rfl hne (by omega) k1 k5 (fun j q1 q2 => hn.2 j q1 (by omega))
  refine ⟨dg_c (dg_t l), ?_, ⟨?_, ?_, ?_⟩, ?_⟩
  · show Ex [(35, (cu_num f len 6 s.1 0).1)] _ 0 1 0
    rw [k4]; exact ex_num l k1 hne k2
  · show s.1 < (cu_num f len 6 s.1 0).2; rw [k3]; omega
  · show (cu_num f len 6 s.1 0).2 ≤ len; rw [k3]; exact h6
  · show ∀ i, ¬ (s.1 ≤ i ∧ i < (cu_num f len 6 s.1 0).2) → rs_zer f (cu_num f len 6 s.1 0).2 300 s.1 s.2.1 i = s.2.1 i
    rw [k3]; exact z2
  · show kpt f (rs_zer f (cu_num f len 6 s.1 0).2 300 s.1 s.2.1) s.1 ((cu_num f len 6 s.1 0).2 - s.1) = _
    rw [k3]; exact z1
theorem cl_let (ht : mz_tx f len) (s : rs_S) (hn : cl_new s len) (hx : ¬ (rs_let f len s).1 = -1) : (rs_let f len s).1 = 0 ∧ ∃ pp, Ex (pz_let f len s.1).2.2 pp 0 1 0 ∧ cl_fr s (rs_let f len s) len ∧ kpt f (rs_let f len s).2.2.1 s.1 ((rs_let f len s).2.1 - s.1) = pp := by
  unfold rs_let at hx ⊢
  unfold pz_let
  by_cases h1 : cu_c f len s.1 = 108 ∨ cu_c f len s.1 = 119 ∨ cu_c f len s.1 = 116
  · rw [if_pos h1, if_pos h1]
    have hl : s.1 < len := by rcases h1 with h | h | h <;> exact mz_lt h (by decide)
    refine ⟨rfl, [cu_c f len s.1], ex_let _ h1, ⟨(by omega : s.1 < s.1 + 1), (by omega : s.1 + 1 ≤ len), fun _ _ => rfl⟩, ?_⟩
    show kpt f s.2.1 s.1 (s.1 + 1 - s.1) = _
    rw [show s.1 + 1 - s.1 = 1 by omega, kpt_1 (hn.2 _ (Nat.le_refl _) hl), show f s.1 = cu_c f len s.1 from (if_pos hl).symm]
  rw [if_neg h1] at hx ⊢
  rw [if_neg h1]
  by_cases h2 : cu_c f len s.1 = 110 ∨ cu_c f len s.1 = 97 ∨ cu_c f len s.1 = 115 ∨ cu_c f len s.1 = 101
  · rw [if_pos h2] at hx ⊢
    rw [if_pos h2]
    have hl : s.1 < len := by rcases h2 with h | h | h | h <;> exact mz_lt h (by decide)
    by_cases h3 : cu_isd (cu_c f len (s.1 + 1)) 8
    · rw [if_pos h3, if_pos h3]
      have hl2 := (mz_isd_lt ht h3).1
      refine ⟨rfl, [cu_c f len s.1, cu_c f len (s.1 + 1)], ex_knd _ _ h2 h3 (cu_cb ht), ⟨(by omega : s.1 < s.1 + 1 + 1), (by omega : s.1 + 1 + 1 ≤ len), fun _ _ => rfl⟩, ?_⟩
      show kpt f s.2.1 s.1 (s.1 + 1 + 1 - s.1) = _
      rw [show s.1 + 1 + 1 - s.1 = 1 + 1 by omega, kpt_app, kpt_1 (hn.2 _ (Nat.le_refl _) hl), kpt_1 (hn.2 _ (by omega) hl2), show f s.1 = cu_c f len s.1 from (if_pos hl).symm, show f (s.1 + 1) = cu_c f len (s.1 + 1) from (if_pos hl2).symm]; rfl
    · rw [if_neg h3] at hx; exact absurd rfl hx
  · rw [if_neg h2] at hx; exact absurd rfl hx
theorem cl_bare (ht : mz_tx f len) (hl : len ≤ 300) {sub : rs_S → rs_R} {zub : Nat → pz_R} {deep : Bool} {hm dm : Nat} (hs : deep = false → cl_E f len sub zub hm dm) (hz : ∀ s, pz_rel (sub s) s.2.2 (zub s.1)) : cl_F f len (rs_bare f len sub deep) (pz_bare f len zub deep) (max 1 hm) (if deep = true then dm else dm + 1) := by
  intro s hn hx
  unfold rs_bare at hx ⊢
  unfold pz_bare
  by_cases h1 : cu_c f len s.1 = 40
  · rw [if_pos h1] at hx ⊢
    rw [if_pos h1]
    have hl1 : s.1 < len := mz_lt h1 (by decide)
    unfold rs_par at hx ⊢
    unfold pz_par
    by_cases hdp : deep = true
    · rw [if_pos hdp] at hx; exact absurd rfl hx
    rw [if_neg hdp] at hx ⊢
    rw [if_neg hdp, if_neg hdp]
    have hn2 : cl_new (s.1 + 1, s.2.1, s.2.2) len := ⟨(by omega : s.1 + 1 ≤ len), fun i hi hi2 => hn.2 i (by have : s.1 + 1 ≤ i := hi; omega) hi2⟩
    have hsub := hs (by cases deep; rfl; exact absurd rfl hdp) (s.1 + 1, s.2.1, s.2.2) hn2
    have hrel := hz (s.1 + 1, s.2.1, s.2.2)
    obtain ⟨X, eX⟩ : ∃ z, z = sub (s.1 + 1, s.2.1, s.2.2) := ⟨_, rfl⟩
    rw [← eX] at hx hsub hrel ⊢
    replace hrel : pz_rel X s.2.2 (zub (s.1 + 1)) := hrel
    by_cases h2 : X.1 = -1 ∨ ¬ cu_c f len X.2.1 = 41
    · rw [if_pos h2] at hx; exact absurd rfl hx
    rw [if_neg h2] at hx ⊢
    have h3 : ¬ X.1 = -1 := fun z => h2 (Or.inl z)
    have h4 : cu_c f len X.2.1 = 41 := Classical.byContradiction fun z => h2 (Or.inr z)
    obtain ⟨r1, r2, r3⟩ := hrel
    rw [if_neg (by rw [← r1, ← r2]; exact h2)]
    obtain ⟨pp, ht', dp, e1, e2, e3, ⟨e4, e5, e6⟩, e7⟩ := hsub h3
    replace e4 : s.1 + 1 < X.2.1 := e4
    have hl2 : X.2.1 < len := mz_lt h4 (by decide)
    have hD : rs_di (rs_di X.2.2.1 (nI s.1) 1) (nI X.2.1) 1 = upd (upd X.2.2.1 s.1 1) X.2.1 1 := by rw [rs_di_n _ (by omega), rs_di_n _ (by omega)]
    rw [hD]
    refine ⟨pp, ht', dp, e1, by omega, by omega, fun _ => ⟨by omega, ?_⟩, ⟨(by omega : s.1 < X.2.1 + 1), (by omega : X.2.1 + 1 ≤ len), fun i hi => ?_⟩, ?_⟩
    · refine ⟨by rw [← h1]; exact (if_pos hl1).symm, ?_, ?_, ?_, (by omega : s.1 + 1 < X.2.1 + 1)⟩
      · show upd (upd X.2.2.1 s.1 1) X.2.1 1 s.1 = 1
        unfold upd; rw [if_neg (by omega), if_pos rfl]
      · show f (X.2.1 + 1 - 1) = 41
        rw [show X.2.1 + 1 - 1 = X.2.1 by omega, ← h4]; exact (if_pos hl2).symm
      · show upd (upd X.2.2.1 s.1 1) X.2.1 1 (X.2.1 + 1 - 1) = 1
        rw [show X.2.1 + 1 - 1 = X.2.1 by omega]; unfold upd; rw [if_pos rfl]
    · show upd (upd X.2.2.1 s.1 1) X.2.1 1 i = s.2.1 i
      have hi2 : ¬ (s.1 ≤ i ∧ i < X.2.1 + 1) := hi
      unfold upd
      rw [if_neg (by omega), if_neg (by omega)]
      exact e6 i (fun q => hi2 ⟨by have : s.1 + 1 ≤ i := q.1; omega, by omega⟩)
    · show kpt f (upd (upd X.2.2.1 s.1 1) X.2.1 1) s.1 (X.2.1 + 1 - s.1) = pp
      rw [kpt_two (b := s.1 + 1) (by omega) (by omega), kpt_two (a := s.1 + 1) (b := X.2.1) (c := X.2.1 + 1) (by omega) (by omega), show s.1 + 1 - s.1 = 1 by omega, show X.2.1 + 1 - X.2.1 = 1 by omega, kpt_d (a := s.1) (by unfold upd; rw [if_neg (by omega), if_pos rfl]; decide), kpt_d (a := X.2.1) (by unfold upd; rw [if_pos rfl]; decide), List.append_nil, List.nil_append]
      rw [kpt_eq (D := X.2.2.1) (X.2.1 - (s.1 + 1)) (s.1 + 1) (fun i q1 q2 => by unfold upd; rw [if_neg (by omega), if_neg (by omega)])]
      exact e7
  rw [if_neg h1] at hx ⊢
  rw [if_neg h1]
  by_cases h2 : ¬ cu_c f len s.1 < 48 ∧ ¬ 57 < cu_c f len s.1
  · rw [if_pos h2, if_pos h2]
    obtain ⟨pp, a1, a2, a3⟩ := cl_num ht hl s hn h2
    exact ⟨pp, 1, 0, a1, by omega, Nat.zero_le _, fun q => absurd rfl q, a2, a3⟩
  · rw [if_neg h2] at hx ⊢
    rw [if_neg h2]
    obtain ⟨b1, pp, a1, a2, a3⟩ := cl_let ht s hn hx
    exact ⟨pp, 1, 0, by rw [b1]; exact a1, by omega, Nat.zero_le _, fun q => absurd b1 q, a2, a3⟩
end
