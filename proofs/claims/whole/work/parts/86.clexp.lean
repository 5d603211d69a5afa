/-! What the reader reads: terms, expressions, levels -/
section
variable {f : Nat → Int32} {len : Nat}
theorem pr_wr_iff {b c : Prop} [Decidable b] [Decidable c] (h : b ↔ c) (q : List Int32) : pr_wr b q = pr_wr c q := by
  unfold pr_wr
  by_cases z : b
  · rw [if_pos z, if_pos (h.mp z)]
  · rw [if_neg z, if_neg (fun y => z (h.mpr y))]
theorem ex_d_iff {b c : Prop} [Decidable b] [Decidable c] (h : b ↔ c) (n : Nat) : ex_d b n = ex_d c n := by
  unfold ex_d
  by_cases z : b
  · rw [if_pos z, if_pos (h.mp z)]
  · rw [if_neg z, if_neg (fun y => z (h.mpr y))]
theorem cl_join {s : rs_S} {x x2 : rs_R} {T : ru_D} (hn : cl_new s len) (h1 : cl_fr s x len) (h2 : cl_fr (x.2.1 + 1, x.2.2.1, T) x2 len) : cl_fr s x2 len ∧ kpt f x2.2.2.1 s.1 (x2.2.1 - s.1) = kpt f x.2.2.1 s.1 (x.2.1 - s.1) ++ f x.2.1 :: kpt f x2.2.2.1 (x.2.1 + 1) (x2.2.1 - (x.2.1 + 1)) := by
  obtain ⟨a1, a2, a3⟩ := h1
  obtain ⟨b1, b2, b3⟩ := h2
  replace b1 : x.2.1 + 1 < x2.2.1 := b1
  replace b3 : ∀ i, ¬ (x.2.1 + 1 ≤ i ∧ i < x2.2.1) → x2.2.2.1 i = x.2.2.1 i := b3
  refine ⟨⟨by omega, b2, fun i hi => ?_⟩, ?_⟩
  · rw [b3 i (by omega)]; exact a3 i (by omega)
  · rw [kpt_two (b := x.2.1) (by omega) (by omega), kpt_two (a := x.2.1) (b := x.2.1 + 1) (c := x2.2.1) (by omega) (by omega), show x.2.1 + 1 - x.2.1 = 1 by omega]
    rw [kpt_1 (a := x.2.1) (by rw [b3 x.2.1 (by omega), a3 x.2.1 (by omega)]; exact hn.2 _ (by omega) (by omega))]
    rw [kpt_eq (D := x.2.2.1) (x.2.1 - s.1) s.1 (fun i q1 q2 => b3 i (by omega))]
    rfl
/-- a factor behind * or / -/
theorem cl_later (hl : len ≤ 300) {fc : rs_S → rs_R} {zc : Nat → pz_R} {hm dm : Nat} (hf : cl_F f len fc zc hm dm) (s : rs_S) (hn : cl_new s len) (hx : ¬ (rs_LF fc s).1 = -1) : ∃ q sh ht dp, Ex (zc s.1).2.2 q sh ht dp ∧ ht ≤ hm ∧ ex_d (¬ sh = 0) dp ≤ dm ∧ cl_fr s (rs_LF fc s) len ∧ kpt f (rs_LF fc s).2.2.1 s.1 ((rs_LF fc s).2.1 - s.1) = pr_wr (¬ sh = 0) q := by
  unfold rs_LF at hx ⊢
  by_cases h1 : (fc s).1 = 2 ∨ (fc s).1 = 1
  · rw [if_pos h1] at hx ⊢
    have hx' : ¬ (fc s).1 = -1 := by rcases h1 with q | q <;> rw [q] <;> decide
    have h0 : ¬ (fc s).1 = 0 := by rcases h1 with q | q <;> rw [q] <;> decide
    obtain ⟨pp, ht, dp, e1, e2, e3, e4, ⟨e5, e6, e7⟩, e8⟩ := hf s hn hx'
    obtain ⟨k1, k2⟩ := kpt_kd (e4 h0).2 (by omega)
    refine ⟨pp, (fc s).1, ht, dp, e1, e2, by unfold ex_d; rw [if_pos h0]; exact (e4 h0).1, ⟨e5, e6, fun i hi => (k2 i hi).trans (e7 i hi)⟩, ?_⟩
    show kpt f (rs_kd (fc s).2.2.1 (nI s.1) (fc s).2.1) s.1 ((fc s).2.1 - s.1) = _
    rw [k1, e8]; exact (if_pos h0).symm
  · rw [if_neg h1] at hx ⊢
    obtain ⟨pp, ht, dp, e1, e2, e3, e4, e5, e6⟩ := hf s hn hx
    have h0 : (fc s).1 = 0 := (ex_sh e1).elim id (fun q => q.elim (fun y => absurd (Or.inr y) h1) (fun y => absurd (Or.inl y) h1))
    exact ⟨pp, (fc s).1, ht, dp, e1, e2, by unfold ex_d; rw [if_neg (fun q => q h0)]; exact e3, e5, by rw [e6]; exact (if_neg (fun q => q h0)).symm⟩
/-- a term so far: its first factor's parentheses stand if they must -/
def cl_J (f : Nat → Int32) (len : Nat) (s : rs_S) (bh : Bool) (hm dm : Nat) (x : rs_R) (y : pz_R) : Prop := ∃ q sh ht dp, Ex y.2.2 q sh ht dp ∧ ht ≤ hm ∧ ex_d (sh = 2 ∧ (bh = true ∨ cu_c f len x.2.1 = 42 ∨ cu_c f len x.2.1 = 47)) dp ≤ dm ∧ x.1 = (if sh = 2 ∧ (bh = true ∨ cu_c f len x.2.1 = 42 ∨ cu_c f len x.2.1 = 47) then 0 else sh) ∧ cl_fr s x len ∧ kpt f x.2.2.1 s.1 (x.2.1 - s.1) = pr_wr (sh = 2 ∧ (bh = true ∨ cu_c f len x.2.1 = 42 ∨ cu_c f len x.2.1 = 47)) q
theorem cl_T1 (hl : len ≤ 300) {fc : rs_S → rs_R} {zc : Nat → pz_R} {hm dm : Nat} (hf : cl_F f len fc zc hm dm) (bh : Bool) (s : rs_S) (hn : cl_new s len) (hx : ¬ (rs_T1 f len fc bh s).1 = -1) : cl_J f len s bh hm dm (rs_T1 f len fc bh s) (zc s.1) := by
  unfold rs_T1 at hx ⊢
  by_cases h1 : (fc s).1 = 2 ∧ (bh = true ∨ cu_c f len (fc s).2.1 = 42 ∨ cu_c f len (fc s).2.1 = 47)
  · rw [if_pos h1] at hx ⊢
    have hx' : ¬ (fc s).1 = -1 := by rw [h1.1]; decide
    have h0 : ¬ (fc s).1 = 0 := by rw [h1.1]; decide
    obtain ⟨pp, ht, dp, e1, e2, e3, e4, ⟨e5, e6, e7⟩, e8⟩ := hf s hn hx'
    obtain ⟨k1, k2⟩ := kpt_kd (e4 h0).2 (by omega)
    refine ⟨pp, (fc s).1, ht, dp, e1, e2, ?_, ?_, ⟨e5, e6, fun i hi => (k2 i hi).trans (e7 i hi)⟩, ?_⟩
    · show ex_d ((fc s).1 = 2 ∧ (bh = true ∨ cu_c f len (fc s).2.1 = 42 ∨ cu_c f len (fc s).2.1 = 47)) dp ≤ dm
      unfold ex_d; rw [if_pos h1]; exact (e4 h0).1
    · show (0 : Int32) = (if (fc s).1 = 2 ∧ (bh = true ∨ cu_c f len (fc s).2.1 = 42 ∨ cu_c f len (fc s).2.1 = 47) then 0 else (fc s).1)
      rw [if_pos h1]
    · show kpt f (rs_kd (fc s).2.2.1 (nI s.1) (fc s).2.1) s.1 ((fc s).2.1 - s.1) = pr_wr ((fc s).1 = 2 ∧ (bh = true ∨ cu_c f len (fc s).2.1 = 42 ∨ cu_c f len (fc s).2.1 = 47)) pp
      rw [k1, e8]; exact (if_pos h1).symm
  · rw [if_neg h1] at hx ⊢
    obtain ⟨pp, ht, dp, e1, e2, e3, e4, e5, e6⟩ := hf s hn hx
    exact ⟨pp, (fc s).1, ht, dp, e1, e2, by unfold ex_d; rw [if_neg h1]; exact e3, by rw [if_neg h1], e5, by rw [e6]; exact (if_neg h1).symm⟩
theorem rs_Tl_1 {lf : rs_S → rs_R} : ∀ (m : Nat) (x : rs_R), x.1 = -1 → rs_Tl f len lf m x = x := by
  intro m x h
  cases m with
  | zero => rfl
  | succ m => exact if_pos h
theorem rs_El_1 {lf : rs_S → rs_R} : ∀ (m : Nat) (x : rs_R), x.1 = -1 → rs_El f len lf m x = x := by
  intro m x h
  cases m with
  | zero => rfl
  | succ m => exact if_pos h
theorem cl_Tl (hl : len ≤ 300) {fc : rs_S → rs_R} {zc : Nat → pz_R} {hm dm : Nat} (hf : cl_F f len fc zc hm dm) (hz : ∀ s, pz_rel (fc s) s.2.2 (zc s.1)) {bh : Bool} {s : rs_S} (hn : cl_new s len) : ∀ (m : Nat) (x : rs_R) (y : pz_R), pz_rel x s.2.2 y → (¬ x.1 = -1 → cl_J f len s bh (hm + 1) dm x y) → ¬ (rs_Tl f len (rs_LF fc) m x).1 = -1 → cl_J f len s bh (hm + 1) dm (rs_Tl f len (rs_LF fc) m x) (pz_Tl f len zc m y) := by
  intro m
  induction m with
  | zero => intro x y _ hJ hx; exact hJ hx
  | succ m ih =>
    intro x y hr hJ hx
    have hx0 : ¬ x.1 = -1 := fun z => hx (by rw [rs_Tl_1 _ _ z]; exact z)
    have hy : y.1 = true := pz_no hr hx0
    unfold rs_Tl at hx ⊢
    unfold pz_Tl
    rw [if_neg hx0] at hx ⊢
    rw [if_neg (show ¬ y.1 = false by rw [hy]; decide)]
    by_cases h2 : cu_c f len x.2.1 = 42 ∨ cu_c f len x.2.1 = 47
    · rw [if_pos h2] at hx ⊢
      rw [if_pos (show cu_c f len y.2.1 = 42 ∨ cu_c f len y.2.1 = 47 by rw [← hr.2.1]; exact h2)]
      obtain ⟨q, sh, ht, dp, e1, e2, e3, e4, e5, e6⟩ := hJ hx0
      have hlt : x.2.1 < len := by rcases h2 with z | z <;> exact mz_lt z (by decide)
      have hrl := pz_LF_rel fc zc hz (x.2.1 + 1, x.2.2.1, x.2.2.2)
      have hn2 : cl_new (x.2.1 + 1, x.2.2.1, x.2.2.2) len := ⟨(by omega : x.2.1 + 1 ≤ len), fun i hi hi3 => by
        have hi2 : x.2.1 + 1 ≤ i := hi
        show x.2.2.1 i = 0
        rw [e5.2.2 i (by omega)]; exact hn.2 i (by have := e5.1; omega) hi3⟩
      obtain ⟨Y, eY⟩ : ∃ z, z = rs_LF fc (x.2.1 + 1, x.2.2.1, x.2.2.2) := ⟨_, rfl⟩
      have hlat := cl_later hl hf (x.2.1 + 1, x.2.2.1, x.2.2.2) hn2
      rw [← eY] at hx hrl hlat ⊢
      replace hrl : pz_rel Y x.2.2.2 (zc (x.2.1 + 1)) := hrl
      obtain ⟨r1, r2, r3⟩ := hr
      rw [← r2]
      have hrel2 : pz_rel ((if Y.1 = -1 then (-1 : Int32) else 1), Y.2.1, Y.2.2.1, ru_add Y.2.2.2 (cu_c f len x.2.1) 0) s.2.2 ((zc (x.2.1 + 1)).1, (zc (x.2.1 + 1)).2.1, y.2.2 ++ (zc (x.2.1 + 1)).2.2 ++ [(cu_c f len x.2.1, 0)]) := by
        refine ⟨?_, hrl.2.1, fun z => ?_⟩
        · show (if Y.1 = -1 then (-1 : Int32) else 1) = -1 ↔ (zc (x.2.1 + 1)).1 = false
          rw [← hrl.1]
          by_cases h3 : Y.1 = -1
          · rw [if_pos h3]; exact ⟨fun _ => h3, fun _ => rfl⟩
          · rw [if_neg h3]; exact ⟨fun z => absurd z (by decide), fun z => absurd z h3⟩
        · show ru_add Y.2.2.2 (cu_c f len x.2.1) 0 = ru_adds s.2.2 (y.2.2 ++ (zc (x.2.1 + 1)).2.2 ++ [(cu_c f len x.2.1, 0)])
          rw [ru_adds_app, ru_adds_app, ← r3 hy, ← hrl.2.2 z]; rfl
      refine ih _ _ hrel2 (fun hne => ?_) hx
      have hY : ¬ Y.1 = -1 := fun z => hne (by show (if Y.1 = -1 then (-1 : Int32) else 1) = -1; rw [if_pos z])
      obtain ⟨q2, sh2, ht2, dp2, g1, g2, g3, g4, g5⟩ := hlat hY
      obtain ⟨j1, j2⟩ := cl_join (f := f) hn e5 g4
      have hW : (sh = 2 ∧ (bh = true ∨ cu_c f len x.2.1 = 42 ∨ cu_c f len x.2.1 = 47)) ↔ sh = 2 := ⟨fun z => z.1, fun z => ⟨z, Or.inr h2⟩⟩
      rw [ex_d_iff hW] at e3
      rw [pr_wr_iff hW] at e6
      have hno : ¬ ((1 : Int32) = 2 ∧ (bh = true ∨ cu_c f len Y.2.1 = 42 ∨ cu_c f len Y.2.1 = 47)) := fun z => absurd z.1 (by decide)
      refine ⟨pr_wr (sh = 2) q ++ cu_c f len x.2.1 :: pr_wr (¬ sh2 = 0) q2, 1, max ht (ht2 + 1), max (ex_d (sh = 2) dp) (ex_d (¬ sh2 = 0) dp2), ex_mul _ h2 e1 g1, by omega, ?_, ?_, j1, ?_⟩
      · show ex_d ((1 : Int32) = 2 ∧ (bh = true ∨ cu_c f len Y.2.1 = 42 ∨ cu_c f len Y.2.1 = 47)) _ ≤ dm
        unfold ex_d; rw [if_neg hno]; unfold ex_d at e3 g3; omega
      · show (if Y.1 = -1 then (-1 : Int32) else 1) = (if (1 : Int32) = 2 ∧ (bh = true ∨ cu_c f len Y.2.1 = 42 ∨ cu_c f len Y.2.1 = 47) then 0 else 1)
        rw [if_neg hY, if_neg hno]
      · show kpt f Y.2.2.1 s.1 (Y.2.1 - s.1) = pr_wr ((1 : Int32) = 2 ∧ (bh = true ∨ cu_c f len Y.2.1 = 42 ∨ cu_c f len Y.2.1 = 47)) _
        rw [show pr_wr ((1 : Int32) = 2 ∧ (bh = true ∨ cu_c f len Y.2.1 = 42 ∨ cu_c f len Y.2.1 = 47)) (pr_wr (sh = 2) q ++ cu_c f len x.2.1 :: pr_wr (¬ sh2 = 0) q2) = _ from if_neg hno, j2, e6, show f x.2.1 = cu_c f len x.2.1 from (if_pos hlt).symm]
        congr 2
    · rw [if_neg h2] at hx ⊢
      rw [if_neg (show ¬ (cu_c f len y.2.1 = 42 ∨ cu_c f len y.2.1 = 47) by rw [← hr.2.1]; exact h2)]
      exact hJ hx
/-- a term -/
theorem cl_T (hl : len ≤ 300) {fc : rs_S → rs_R} {zc : Nat → pz_R} {hm dm : Nat} (hf : cl_F f len fc zc hm dm) (hz : ∀ s, pz_rel (fc s) s.2.2 (zc s.1)) (hg : ∀ b, b ≤ len → pz_good len b (zc b)) (bh : Bool) (s : rs_S) (hn : cl_new s len) (hx : ¬ (rs_T f len fc bh s).1 = -1) : ∃ q sh ht dp, Ex (pz_T f len zc s.1).2.2 q sh ht dp ∧ ht ≤ hm + 1 ∧ ex_d (sh = 2 ∧ bh = true) dp ≤ dm ∧ (rs_T f len fc bh s).1 = (if sh = 2 ∧ bh = true then 0 else sh) ∧ cl_fr s (rs_T f len fc bh s) len ∧ kpt f (rs_T f len fc bh s).2.2.1 s.1 ((rs_T f len fc bh s).2.1 - s.1) = pr_wr (sh = 2 ∧ bh = true) q := by
  have hrel := pz_T_rel f len fc zc hz bh s
  obtain ⟨q, sh, ht, dp, e1, e2, e3, e4, e5, e6⟩ := cl_Tl hl hf hz hn 300 (rs_T1 f len fc bh s) (zc s.1) (pz_T1_rel f len fc zc hz bh s) (fun h => by
    obtain ⟨q, sh, ht, dp, a1, a2, a3⟩ := cl_T1 hl hf bh s hn h
    exact ⟨q, sh, ht, dp, a1, by omega, a3⟩) hx
  have hc := (pz_T_good hl hg s.1 hn.1).2 (pz_no hrel hx)
  rw [← hrel.2.1] at hc
  have hW : (sh = 2 ∧ (bh = true ∨ cu_c f len (rs_T f len fc bh s).2.1 = 42 ∨ cu_c f len (rs_T f len fc bh s).2.1 = 47)) ↔ (sh = 2 ∧ bh = true) := ⟨fun z => ⟨z.1, z.2.elim id (fun y => absurd y hc)⟩, fun z => ⟨z.1, Or.inl z.2⟩⟩
  refine ⟨q, sh, ht, dp, e1, e2, ?_, ?_, e5, ?_⟩
  · rw [← ex_d_iff hW]; exact e3
  · by_cases z : sh = 2 ∧ bh = true
    · rw [if_pos z]; exact e4.trans (if_pos (hW.mpr z))
    · rw [if_neg z]; exact e4.trans (if_neg (fun y => z (hW.mp y)))
  · rw [← pr_wr_iff hW]; exact e6
theorem cl_El (hl : len ≤ 300) {fc : rs_S → rs_R} {zc : Nat → pz_R} {hm dm : Nat} (hf : cl_F f len fc zc hm dm) (hz : ∀ s, pz_rel (fc s) s.2.2 (zc s.1)) (hg : ∀ b, b ≤ len → pz_good len b (zc b)) {s : rs_S} (hn : cl_new s len) : ∀ (m : Nat) (x : rs_R) (y : pz_R), pz_rel x s.2.2 y → (¬ x.1 = -1 → ∃ q ht dp, Ex y.2.2 q x.1 ht dp ∧ ht ≤ hm + 2 ∧ dp ≤ dm ∧ cl_fr s x len ∧ kpt f x.2.2.1 s.1 (x.2.1 - s.1) = q) → ¬ (rs_El f len (rs_T f len fc true) m x).1 = -1 → ∃ q ht dp, Ex (pz_El f len (pz_T f len zc) m y).2.2 q (rs_El f len (rs_T f len fc true) m x).1 ht dp ∧ ht ≤ hm + 2 ∧ dp ≤ dm ∧ cl_fr s (rs_El f len (rs_T f len fc true) m x) len ∧ kpt f (rs_El f len (rs_T f len fc true) m x).2.2.1 s.1 ((rs_El f len (rs_T f len fc true) m x).2.1 - s.1) = q := by
  intro m
  induction m with
  | zero => intro x y _ hJ hx; exact hJ hx
  | succ m ih =>
    intro x y hr hJ hx
    have hx0 : ¬ x.1 = -1 := fun z => hx (by rw [rs_El_1 _ _ z]; exact z)
    have hy : y.1 = true := pz_no hr hx0
    unfold rs_El at hx ⊢
    unfold pz_El
    rw [if_neg hx0] at hx ⊢
    rw [if_neg (show ¬ y.1 = false by rw [hy]; decide)]
    by_cases h2 : cu_c f len x.2.1 = 43 ∨ cu_c f len x.2.1 = 45
    · rw [if_pos h2] at hx ⊢
      rw [if_pos (show cu_c f len y.2.1 = 43 ∨ cu_c f len y.2.1 = 45 by rw [← hr.2.1]; exact h2)]
      obtain ⟨q, ht, dp, e1, e2, e3, e5, e6⟩ := hJ hx0
      have hlt : x.2.1 < len := by rcases h2 with z | z <;> exact mz_lt z (by decide)
      have hrl := pz_T_rel f len fc zc hz true (x.2.1 + 1, x.2.2.1, x.2.2.2)
      have hn2 : cl_new (x.2.1 + 1, x.2.2.1, x.2.2.2) len := ⟨(by omega : x.2.1 + 1 ≤ len), fun i hi hi3 => by
        have hi2 : x.2.1 + 1 ≤ i := hi
        show x.2.2.1 i = 0
        rw [e5.2.2 i (by omega)]; exact hn.2 i (by have := e5.1; omega) hi3⟩
      have hlat := cl_T hl hf hz hg true (x.2.1 + 1, x.2.2.1, x.2.2.2) hn2
      obtain ⟨Y, eY⟩ : ∃ z, z = rs_T f len fc true (x.2.1 + 1, x.2.2.1, x.2.2.2) := ⟨_, rfl⟩
      rw [← eY] at hx hrl hlat ⊢
      replace hrl : pz_rel Y x.2.2.2 (pz_T f len zc (x.2.1 + 1)) := hrl
      obtain ⟨r1, r2, r3⟩ := hr
      rw [← r2]
      have hrel2 : pz_rel ((if Y.1 = -1 then (-1 : Int32) else 2), Y.2.1, Y.2.2.1, ru_add Y.2.2.2 (cu_c f len x.2.1) 0) s.2.2 ((pz_T f len zc (x.2.1 + 1)).1, (pz_T f len zc (x.2.1 + 1)).2.1, y.2.2 ++ (pz_T f len zc (x.2.1 + 1)).2.2 ++ [(cu_c f len x.2.1, 0)]) := by
        refine ⟨?_, hrl.2.1, fun z => ?_⟩
        · show (if Y.1 = -1 then (-1 : Int32) else 2) = -1 ↔ (pz_T f len zc (x.2.1 + 1)).1 = false
          rw [← hrl.1]
          by_cases h3 : Y.1 = -1
          · rw [if_pos h3]; exact ⟨fun _ => h3, fun _ => rfl⟩
          · rw [if_neg h3]; exact ⟨fun z => absurd z (by decide), fun z => absurd z h3⟩
        · show ru_add Y.2.2.2 (cu_c f len x.2.1) 0 = ru_adds s.2.2 (y.2.2 ++ (pz_T f len zc (x.2.1 + 1)).2.2 ++ [(cu_c f len x.2.1, 0)])
          rw [ru_adds_app, ru_adds_app, ← r3 hy, ← hrl.2.2 z]; rfl
      refine ih _ _ hrel2 (fun hne => ?_) hx
      have hY : ¬ Y.1 = -1 := fun z => hne (by show (if Y.1 = -1 then (-1 : Int32) else 2) = -1; rw [if_pos z])
      obtain ⟨q2, sh2, ht2, dp2, g1, g2, g3, g4, g5, g6⟩ := hlat hY
      obtain ⟨j1, j2⟩ := cl_join (f := f) hn e5 g5
      have hW : (sh2 = 2 ∧ true = true) ↔ sh2 = 2 := ⟨fun z => z.1, fun z => ⟨z, rfl⟩⟩
      rw [ex_d_iff hW] at g3
      rw [pr_wr_iff hW] at g6
      refine ⟨q ++ cu_c f len x.2.1 :: pr_wr (sh2 = 2) q2, max ht (ht2 + 1), max dp (ex_d (sh2 = 2) dp2), ?_, by omega, by omega, j1, ?_⟩
      · show Ex (y.2.2 ++ (pz_T f len zc (x.2.1 + 1)).2.2 ++ [(cu_c f len x.2.1, 0)]) _ (if Y.1 = -1 then (-1 : Int32) else 2) _ _
        rw [if_neg hY]
        exact ex_add _ h2 e1 g1
      · show kpt f Y.2.2.1 s.1 (Y.2.1 - s.1) = _
        rw [j2, e6, show f x.2.1 = cu_c f len x.2.1 from (if_pos hlt).symm]
        congr 2
    · rw [if_neg h2] at hx ⊢
      rw [if_neg (show ¬ (cu_c f len y.2.1 = 43 ∨ cu_c f len y.2.1 = 45) by rw [← hr.2.1]; exact h2)]
      exact hJ hx
theorem cl_ex (hl : len ≤ 300) {fc : rs_S → rs_R} {zc : Nat → pz_R} {hm dm : Nat} (hf : cl_F f len fc zc hm dm) (hz : ∀ s, pz_rel (fc s) s.2.2 (zc s.1)) (hg : ∀ b, b ≤ len → pz_good len b (zc b)) : cl_E f len (rs_E f len fc) (pz_E f len zc) (hm + 2) dm := by
  intro s hn hx
  refine cl_El hl hf hz hg hn 300 (rs_T f len fc false s) (pz_T f len zc s.1) (pz_T_rel f len fc zc hz false s) (fun h => ?_) hx
  obtain ⟨q, sh, ht, dp, e1, e2, e3, e4, e5, e6⟩ := cl_T hl hf hz hg false s hn h
  have hno : ¬ (sh = 2 ∧ false = true) := fun z => by cases z.2
  rw [if_neg hno] at e4
  refine ⟨q, ht, dp, by rw [e4]; exact e1, by omega, by unfold ex_d at e3; rw [if_neg hno] at e3; exact e3, e5, by rw [e6]; exact if_neg hno⟩
/-- every level: k levels of parentheses at most -/
theorem cl_X (ht : mz_tx f len) (hl : len ≤ 300) : ∀ k : Nat, cl_E f len (rs_X f len k) (pz_X f len k) (3 + 2 * k) k := by
  intro k
  induction k with
  | zero =>
    have hz : ∀ s : rs_S, pz_rel ((-1 : Int32), s) s.2.2 (false, s.1, []) := fun s => ⟨⟨fun _ => rfl, fun _ => rfl⟩, rfl, fun z => by cases z⟩
    have h1 := cl_bare ht hl (sub := fun s => (-1, s)) (zub := fun a => (false, a, [])) (deep := true) (hm := 1) (dm := 0) (fun z => by cases z) hz
    have h2 := cl_fac ht hl h1 (fun s => pz_bare_rel f len _ _ hz true s)
    exact cl_ex hl h2 (fun s => pz_F_rel f len _ _ (fun s => pz_bare_rel f len _ _ hz true s) s) (fun b hb => pz_F_good (fun b hb => pz_bare_good (sub := fun a => (false, a, [])) (fun b hb => ⟨hb, fun z => by cases z⟩) true b hb) b hb)
  | succ k ih =>
    have h1 := cl_bare ht hl (sub := rs_X f len k) (zub := pz_X f len k) (deep := false) (hm := 3 + 2 * k) (dm := k) (fun _ => ih) (pz_X_rel f len k)
    rw [show max 1 (3 + 2 * k) = 3 + 2 * k by omega] at h1
    have h2 := cl_fac ht hl h1 (fun s => pz_bare_rel f len _ _ (pz_X_rel f len k) false s)
    have h3 := cl_ex hl h2 (fun s => pz_F_rel f len _ _ (fun s => pz_bare_rel f len _ _ (pz_X_rel f len k) false s) s) (fun b hb => pz_F_good (fun b hb => pz_bare_good (fun b hb => (pz_X_good hl k b hb).1) false b hb) b hb)
    exact h3
end
