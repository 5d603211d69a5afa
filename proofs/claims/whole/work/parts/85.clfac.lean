/-! What the reader reads: what stands before a factor -/
section
variable {f : Nat → Int32} {len : Nat}
theorem cl_pre (ht : mz_tx f len) {D : Nat → Int32} : ∀ (m a : Nat), len ≤ m + a → a ≤ len → (∀ i, a ≤ i → i < len → D i = 0) → (cu_pre f len m a).1 = true →
    ∃ L : pz_P, (∀ b q, b ≤ a → (cu_pre f len m a).2 ≤ q + b → ∃ q', a ≤ q' + b ∧ pz_pre f b q (cu_pre f len m a).2 = L ++ pz_pre f b q' a) ∧ (((cu_pre f len m a).2 = a ∧ L = []) ∨ (a < (cu_pre f len m a).2 ∧ ∀ post q sh h dp, Ex post q sh h dp → Ex (post ++ L) (kpt f D a ((cu_pre f len m a).2 - a) ++ pr_wr (¬ sh = 0) q) 0 h (ex_d (¬ sh = 0) dp))) := by
  intro m
  induction m with
  | zero => intro a _ _ _ _; exact ⟨[], fun b q _ hq => ⟨q, hq, rfl⟩, Or.inl ⟨rfl, rfl⟩⟩
  | succ m ih =>
    intro a hm ha hD hk
    unfold cu_pre at hk ⊢
    by_cases h1 : cu_c f len a = 45 ∨ cu_c f len a = 102 ∨ cu_c f len a = 99
    · rw [if_pos h1] at hk ⊢
      have hl : a < len := by rcases h1 with q | q | q <;> exact mz_lt q (by decide)
      have hua : cu_c f len a = f a := if_pos hl
      by_cases h2 : cu_c f len a = 99
      · rw [if_pos h2] at hk ⊢
        by_cases h3 : cu_isd (cu_c f len (a + 1)) 8
        · rw [if_pos h3] at hk ⊢
          obtain ⟨d1, _⟩ := mz_isd_lt ht h3
          have hu1 : cu_c f len (a + 1) = f (a + 1) := if_pos d1
          have hmx := cu_pre_mx f len m (a + 2)
          obtain ⟨L, l1, l2⟩ := ih (a + 2) (by omega) (by omega) (fun i hi hi2 => hD i (by omega) hi2) hk
          have hkp : ∀ n, kpt f D a (n + 2) = 99 :: f (a + 1) :: kpt f D (a + 2) n := fun n => by
            rw [show n + 2 = 1 + (1 + n) by omega, kpt_app, kpt_app, kpt_1 (hD a (Nat.le_refl _) hl), kpt_1 (hD (a + 1) (by omega) d1), ← hua, h2]; rfl
          refine ⟨L ++ [(99, cu_c f len (a + 1) - 48)], fun b q hb hq => ?_, Or.inr ⟨by omega, fun post q sh h dp e => ?_⟩⟩
          · obtain ⟨q', e1, e2⟩ := l1 b q (by omega) hq
            obtain ⟨q2, rfl⟩ : ∃ z, q' = z + 1 := ⟨q' - 1, by omega⟩
            refine ⟨q2, by omega, ?_⟩
            have e3 : pz_pre f b (q2 + 1) (a + 2) = (99, f (a + 1) - 48) :: pz_pre f b q2 a := by
              show (if a + 2 ≤ b then _ else if f (a + 2 - 1) = 45 then _ else if f (a + 2 - 1) = 102 then _ else _) = _
              rw [show a + 2 - 1 = a + 1 by omega, if_neg (by omega), ← hu1, if_neg (fun q => by rw [q] at h3; exact absurd h3 (by decide)), if_neg (fun q => by rw [q] at h3; exact absurd h3 (by decide))]
              rfl
            rw [e2, e3, hu1, List.append_assoc]; rfl
          · rw [← List.append_assoc]
            have hb := cu_cb (a := a + 1) ht
            rcases l2 with ⟨p1, p2⟩ | ⟨p1, p2⟩
            · have := ex_cc (cu_c f len (a + 1)) h3 hb e
              rw [p2, List.append_nil, p1, show a + 2 - a = 0 + 2 by omega, hkp, ← hu1]
              exact this
            · have := ex_cc (cu_c f len (a + 1)) h3 hb (p2 post q sh h dp e)
              rw [show (cu_pre f len m (a + 2)).2 - a = ((cu_pre f len m (a + 2)).2 - (a + 2)) + 2 by omega, hkp, ← hu1]
              exact this
        · rw [if_neg h3] at hk; cases hk
      · rw [if_neg h2] at hk ⊢
        have hmx := cu_pre_mx f len m (a + 1)
        obtain ⟨L, l1, l2⟩ := ih (a + 1) (by omega) (by omega) (fun i hi hi2 => hD i (by omega) hi2) hk
        have key : ∃ k : Int32, (k = 126 ∨ k = 102) ∧ f a = (if k = 126 then 45 else 102) ∧ (∀ b q, ¬ a + 1 ≤ b → pz_pre f b (q + 1) (a + 1) = (k, 0) :: pz_pre f b q a) := by
          rcases h1 with h1 | h1 | h1
          · refine ⟨126, Or.inl rfl, by rw [← hua, h1]; rfl, fun b q hb => ?_⟩
            show (if a + 1 ≤ b then _ else if f (a + 1 - 1) = 45 then _ else if f (a + 1 - 1) = 102 then _ else _) = _
            rw [show a + 1 - 1 = a by omega, if_neg hb, if_pos (by rw [← hua]; exact h1)]
          · refine ⟨102, Or.inr rfl, by rw [← hua, h1]; rfl, fun b q hb => ?_⟩
            show (if a + 1 ≤ b then _ else if f (a + 1 - 1) = 45 then _ else if f (a + 1 - 1) = 102 then _ else _) = _
            rw [show a + 1 - 1 = a by omega, if_neg hb, if_neg (by rw [← hua, h1]; decide), if_pos (by rw [← hua]; exact h1)]
          · exact absurd h1 h2
        obtain ⟨k, hk1, hk2, hk3⟩ := key
        have hkp : ∀ n, kpt f D a (n + 1) = (if k = 126 then 45 else 102) :: kpt f D (a + 1) n := fun n => by
          rw [show n + 1 = 1 + n by omega, kpt_app, kpt_1 (hD a (Nat.le_refl _) hl), hk2]; rfl
        refine ⟨L ++ [(k, 0)], fun b q hb hq => ?_, Or.inr ⟨by omega, fun post q sh h dp e => ?_⟩⟩
        · obtain ⟨q', e1, e2⟩ := l1 b q (by omega) hq
          obtain ⟨q2, rfl⟩ : ∃ z, q' = z + 1 := ⟨q' - 1, by omega⟩
          refine ⟨q2, by omega, ?_⟩
          rw [e2, hk3 b q2 (by omega), List.append_assoc]; rfl
        · rw [← List.append_assoc]
          rcases l2 with ⟨p1, p2⟩ | ⟨p1, p2⟩
          · have := ex_un k hk1 e
            rw [p2, List.append_nil, p1, show a + 1 - a = 0 + 1 by omega, hkp]
            exact this
          · have := ex_un k hk1 (p2 post q sh h dp e)
            rw [show (cu_pre f len m (a + 1)).2 - a = ((cu_pre f len m (a + 1)).2 - (a + 1)) + 1 by omega, hkp]
            exact this
    · rw [if_neg h1]
      exact ⟨[], fun b q _ hq => ⟨q, hq, rfl⟩, Or.inl ⟨rfl, rfl⟩⟩
theorem cl_fac (ht : mz_tx f len) (hl : len ≤ 300) {bare : rs_S → rs_R} {zare : Nat → pz_R} {hm dm : Nat} (hb : cl_F f len bare zare hm dm) (hz : ∀ s, pz_rel (bare s) s.2.2 (zare s.1)) : cl_F f len (rs_F f len bare) (pz_F f len zare) hm dm := by
  intro s hn hx
  unfold rs_F at hx ⊢
  unfold pz_F
  by_cases h1 : (cu_pre f len 300 s.1).1 = true
  · rw [if_pos h1] at hx ⊢
    rw [if_pos h1]
    have hmx := cu_pre_mx f len 300 s.1
    have hn1 := hn.1
    have hn2 : cl_new ((cu_pre f len 300 s.1).2, s.2.1, s.2.2) len := ⟨(by omega : (cu_pre f len 300 s.1).2 ≤ len), fun i hi hi2 => hn.2 i (by have : (cu_pre f len 300 s.1).2 ≤ i := hi; omega) hi2⟩
    have hbb := hb ((cu_pre f len 300 s.1).2, s.2.1, s.2.2) hn2
    have hrel := hz ((cu_pre f len 300 s.1).2, s.2.1, s.2.2)
    obtain ⟨L, l1, l2⟩ := cl_pre (D := s.2.1) ht 300 s.1 (by omega) hn1 hn.2 h1
    have eL : pz_pre f s.1 (cu_pre f len 300 s.1).2 (cu_pre f len 300 s.1).2 = L := by
      obtain ⟨q', _, e⟩ := l1 s.1 (cu_pre f len 300 s.1).2 (Nat.le_refl _) (by omega)
      rw [e]
      cases q' with
      | zero => exact List.append_nil L
      | succ q => rw [show pz_pre f s.1 (q + 1) s.1 = [] from if_pos (Nat.le_refl _)]; exact List.append_nil L
    obtain ⟨p, ep⟩ : ∃ z, z = (cu_pre f len 300 s.1).2 := ⟨_, rfl⟩
    rw [← ep] at hx hbb hrel l2 eL hmx ⊢
    obtain ⟨X, eX⟩ : ∃ z, z = bare (p, s.2.1, s.2.2) := ⟨_, rfl⟩
    rw [← eX] at hx hbb hrel ⊢
    replace hrel : pz_rel X s.2.2 (zare p) := hrel
    by_cases h2 : X.1 = -1 ∨ p = s.1
    · rw [if_pos h2] at hx ⊢
      rw [if_pos (show (zare p).1 = false ∨ p = s.1 by rw [← hrel.1]; exact h2)]
      have h3 : p = s.1 := h2.resolve_left hx
      obtain ⟨pp, h, dp, e1, e2, e3, e4, e5, e6⟩ := hbb hx
      subst h3
      exact ⟨pp, h, dp, e1, e2, e3, e4, e5, e6⟩
    · rw [if_neg h2] at hx ⊢
      rw [if_neg (show ¬ ((zare p).1 = false ∨ p = s.1) by rw [← hrel.1]; exact h2)]
      have h3 : ¬ X.1 = -1 := fun z => h2 (Or.inl z)
      have h4 : ¬ p = s.1 := fun z => h2 (Or.inr z)
      obtain ⟨pp, h, dp, e1, e2, e3, e4, ⟨e5, e6, e7⟩, e8⟩ := hbb h3
      replace e5 : p < X.2.1 := e5
      rcases l2 with ⟨q, _⟩ | ⟨hlt, hex⟩
      · exact absurd q h4
      have e9 := hex _ _ _ _ _ e1
      -- the marks behind
      obtain ⟨D', eD⟩ : ∃ z, z = (if X.1 = 0 then X.2.2.1 else rs_kd X.2.2.1 (nI p) X.2.1) := ⟨_, rfl⟩
      have hD' : kpt f D' p (X.2.1 - p) = pr_wr (¬ X.1 = 0) pp ∧ ∀ i, ¬ (p ≤ i ∧ i < X.2.1) → D' i = X.2.2.1 i := by
        rw [eD]
        by_cases z : X.1 = 0
        · rw [if_pos z, show pr_wr (¬ X.1 = 0) pp = pp from if_neg (fun q => q z)]; exact ⟨e8, fun _ _ => rfl⟩
        · rw [if_neg z, show pr_wr (¬ X.1 = 0) pp = 40 :: (pp ++ [41]) from if_pos z, ← e8]
          exact kpt_kd (e4 z).2 (by omega)
      rw [← eD]
      refine ⟨kpt f s.2.1 s.1 (p - s.1) ++ pr_wr (¬ X.1 = 0) pp, h, ex_d (¬ X.1 = 0) dp, ?_, e2, ?_, fun q => absurd rfl q, ⟨(by omega : s.1 < X.2.1), e6, fun i hi => ?_⟩, ?_⟩
      · show Ex ((zare p).2.2 ++ pz_pre f s.1 p p) _ 0 h _
        rw [eL]; exact e9
      · unfold ex_d
        by_cases z : X.1 = 0
        · rw [if_neg (fun q => q z)]; exact e3
        · rw [if_pos z]; exact (e4 z).1
      · have hi2 : ¬ (s.1 ≤ i ∧ i < X.2.1) := hi
        show D' i = s.2.1 i
        rw [hD'.2 i (by omega)]; exact e7 i (fun q => hi2 ⟨by have : p ≤ i := q.1; omega, q.2⟩)
      · show kpt f D' s.1 (X.2.1 - s.1) = _
        rw [kpt_two (b := p) (by omega) (by omega), hD'.1]
        congr 1
        refine kpt_eq _ _ (fun i q1 q2 => ?_)
        rw [hD'.2 i (by omega)]; exact e7 i (fun q => by have : p ≤ i := q.1; omega)
  · rw [if_neg h1] at hx; exact absurd rfl hx
end
