/-! The reference's reader: configurations (place, steps of the draft, last first; waiting, top first; the fault's place) -/
theorem ac_wk {G : ac_G} {l : Launch} {y : MethodName} {cc : ByteArray} {mL : Nat} {ret : Option FieldType} {d mc ms : Nat} {av : List Value} {h : ac_H} {Q Q' : Option Value → ac_H → Prop} (z : ac_Met G l y cc mL ret d mc ms av h Q) (hq : ∀ r h', Q r h' → Q' r h') : ac_Met G l y cc mL ret d mc ms av h Q' := by
  intro p e ha hc hk s m args below hf happ hP hK
  obtain ⟨n, o, h1, h2, h3, h4⟩ := z p e ha hc hk s m args below hf happ hP hK
  obtain ⟨⟨⟨r, h', a1, a2, a3⟩, a4⟩, L, fe⟩ := h4
  exact ⟨n, o, h1, h2, h3, ⟨⟨r, h', a1, hq _ _ a2, a3⟩, a4⟩, L, fe⟩
abbrev mz_C : Type := Nat × pz_P × pz_P × Option Nat
def pc_l (f g : Nat → Int32) : pz_P → Prop
  | [] => True
  | x :: r => f r.length = x.1 ∧ g r.length = x.2 ∧ pc_l f g r
theorem pc_l_eq {f g f' g' : Nat → Int32} : ∀ r : pz_P, pc_l f g r → (∀ i, i < r.length → f' i = f i ∧ g' i = g i) → pc_l f' g' r := by
  intro r
  induction r with
  | nil => intro _ _; exact True.intro
  | cons x r ih =>
    intro h e
    have hx := e r.length (by simp)
    exact ⟨hx.1.trans h.1, hx.2.trans h.2.1, ih h.2.2 (fun i hi => e i (by simp; omega))⟩
theorem pc_l_cons {f g : Nat → Int32} {r : pz_P} (h : pc_l f g r) (x y : Int32) : pc_l (upd f r.length x) (upd g r.length y) ((x, y) :: r) := by
  refine ⟨?_, ?_, pc_l_eq r h (fun i hi => ?_)⟩
  · unfold upd; rw [if_pos rfl]
  · unfold upd; rw [if_pos rfl]
  · unfold upd; rw [if_neg (by omega), if_neg (by omega)]; exact ⟨rfl, rfl⟩
def mz_f : Option Nat → Int32
  | none => -1
  | some p => nI p
def mz_c (u : Nat → Int32) (n a : Nat) : Int32 := if a < n then u a else -1
def mz_rep (s : md_S) (u : Nat → Int32) (n : Nat) (c : mz_C) : Prop := s.1 2 = nI n ∧ n ≤ 300 ∧ s.1 3 = nI c.1 ∧ s.1 4 = mz_f c.2.2.2 ∧ s.1 14 = nI c.2.2.1.length ∧ s.2.1 7 6 = nI c.2.1.length ∧ pc_l (s.2.1 12) (s.2.1 13) c.2.2.1 ∧ pc_l (fun i => s.2.1 5 (2400 + i)) (fun i => s.2.1 6 (2400 + i)) c.2.1 ∧ (∀ i, i < n → s.2.1 1 i = u i) ∧ ∀ p, c.2.2.2 = some p → p ≤ 2000
def mz_fr (s s' : md_S) : Prop := (∀ j, j ∉ [3, 4, 14] → s'.1 j = s.1 j) ∧ (∀ j, j ∉ [5, 6, 7, 12, 13] → s'.2.1 j = s.2.1 j) ∧ (∀ i, i < 2400 → s'.2.1 5 i = s.2.1 5 i ∧ s'.2.1 6 i = s.2.1 6 i) ∧ (∀ i, ¬ i = 6 → s'.2.1 7 i = s.2.1 7 i) ∧ s'.2.2 = s.2.2
theorem mz_fr_rf {s : md_S} : mz_fr s s := ⟨fun _ _ => rfl, fun _ _ => rfl, fun _ _ => ⟨rfl, rfl⟩, fun _ _ => rfl, rfl⟩
theorem mz_fr_tr {s s1 s2 : md_S} (h : mz_fr s s1) (g : mz_fr s1 s2) : mz_fr s s2 :=
  ⟨fun j hj => (g.1 j hj).trans (h.1 j hj), fun j hj => (g.2.1 j hj).trans (h.2.1 j hj), fun i hi => ⟨(g.2.2.1 i hi).1.trans (h.2.2.1 i hi).1, (g.2.2.1 i hi).2.trans (h.2.2.1 i hi).2⟩, fun i hi => (g.2.2.2.1 i hi).trans (h.2.2.2.1 i hi), g.2.2.2.2.trans h.2.2.2.2⟩
theorem mz_fr_J {s s1 : md_S} (h : mz_fr s s1) {j : Nat} (v : Int32) (hj : j ∈ [3, 4, 14]) : mz_fr s (upd s1.1 j v, s1.2.1, s1.2.2) :=
  ⟨fun i hi => by
    show upd s1.1 j v i = s.1 i
    unfold upd; rw [if_neg (fun z => hi (by rw [z]; exact hj))]; exact h.1 i hi, h.2⟩
theorem mz_fr_at {s s1 : md_S} {v : Int32} (h : mz_fr s s1) : mz_fr s (upd s1.1 3 v, s1.2.1, s1.2.2) := mz_fr_J h v (by decide)
theorem mz_fr_wt {s s1 : md_S} {v : Int32} (h : mz_fr s s1) : mz_fr s (upd s1.1 14 v, s1.2.1, s1.2.2) := mz_fr_J h v (by decide)
def mz_Q (o : Nat) (md : Nat → Nat) (h : ac_H) (s : md_S) (u : Nat → Int32) (n : Nat) (c : mz_C) (r : Option Value) : Option Value → ac_H → Prop := fun r9 h9 => ∃ s' : md_S, r9 = r ∧ md_ok h9 o md s' ∧ mz_rep s' u n c ∧ mz_fr s s' ∧ kp h h9 (md_L o md)
section
variable {s : md_S} {u : Nat → Int32} {n a : Nat} {U W : pz_P} {fl : Option Nat}
theorem mz_at (R : mz_rep s u n (a, U, W, fl)) (b : Nat) : mz_rep (upd s.1 3 (nI b), s.2.1, s.2.2) u n (b, U, W, fl) := ⟨R.1, R.2.1, rfl, R.2.2.2⟩
theorem mz_here (R : mz_rep s u n (a, U, W, fl)) : mo_here s a n = mz_c u n a := by
  unfold mo_here mz_c
  by_cases z : a < n
  · rw [if_pos z, if_pos z]; exact R.2.2.2.2.2.2.2.2.1 a z
  · rw [if_neg z, if_neg z]
theorem mz_emit (R : mz_rep s u n (a, U, W, fl)) (g x : Int32) : mz_rep (mo_emit s U.length g x) u n (a, (g, x) :: U, W, fl) ∧ mz_fr s (mo_emit s U.length g x) := by
  obtain ⟨r1, r2, r3, r4, r5, r6, r7, r8, r9, r10⟩ := R
  refine ⟨⟨r1, r2, r3, r4, r5, ?_, r7, ?_, r9, r10⟩, fun _ _ => rfl, ?_, ?_, ?_, rfl⟩
  · show upd (s.2.1 7) 6 (nI (U.length + 1)) 6 = _
    unfold upd; rw [if_pos rfl]; rfl
  · have z := pc_l_cons r8 g x
    refine pc_l_eq _ z (fun i hi => ?_)
    show upd (s.2.1 5) (2400 + U.length) g (2400 + i) = upd (fun i => s.2.1 5 (2400 + i)) U.length g i ∧ upd (s.2.1 6) (2400 + U.length) x (2400 + i) = upd (fun i => s.2.1 6 (2400 + i)) U.length x i
    unfold upd
    by_cases y : i = U.length
    · rw [if_pos (by omega), if_pos y, if_pos (by omega), if_pos y]; exact ⟨rfl, rfl⟩
    · rw [if_neg (by omega), if_neg y, if_neg (by omega), if_neg y]; exact ⟨rfl, rfl⟩
  · intro j hj
    show va_up (va_up (va_up s.2.1 5 _) 6 _) 7 _ j = s.2.1 j
    unfold va_up
    rw [if_neg (fun z => hj (by rw [z]; decide)), if_neg (fun z => hj (by rw [z]; decide)), if_neg (fun z => hj (by rw [z]; decide))]
  · intro i hi
    show upd (s.2.1 5) (2400 + U.length) g i = _ ∧ upd (s.2.1 6) (2400 + U.length) x i = _
    unfold upd
    rw [if_neg (by omega), if_neg (by omega)]; exact ⟨rfl, rfl⟩
  · intro i hi
    show upd (s.2.1 7) 6 _ i = _
    unfold upd; rw [if_neg hi]
theorem mz_push (R : mz_rep s u n (a, U, W, fl)) (g x : Int32) : mz_rep (mo_push s W.length g x) u n (a, U, (g, x) :: W, fl) ∧ mz_fr s (mo_push s W.length g x) := by
  obtain ⟨r1, r2, r3, r4, r5, r6, r7, r8, r9, r10⟩ := R
  refine ⟨⟨r1, r2, r3, r4, rfl, r6, pc_l_cons r7 g x, r8, r9, r10⟩, ?_, ?_, fun _ _ => ⟨rfl, rfl⟩, fun _ _ => rfl, rfl⟩
  · intro j hj
    show upd s.1 14 _ j = _
    unfold upd; rw [if_neg (fun z => hj (by rw [z]; decide))]
  · intro j hj
    show va_up (va_up s.2.1 12 _) 13 _ j = s.2.1 j
    unfold va_up
    rw [if_neg (fun z => hj (by rw [z]; decide)), if_neg (fun z => hj (by rw [z]; decide))]
theorem mz_drop {x : Int32 × Int32} (R : mz_rep s u n (a, U, x :: W, fl)) : mz_rep (upd s.1 14 (nI W.length), s.2.1, s.2.2) u n (a, U, W, fl) :=
  ⟨R.1, R.2.1, R.2.2.1, R.2.2.2.1, rfl, R.2.2.2.2.2.1, R.2.2.2.2.2.2.1.2.2, R.2.2.2.2.2.2.2⟩
theorem mz_pop {x : Int32 × Int32} (R : mz_rep s u n (a, U, x :: W, fl)) : mz_rep (mo_pop s W.length U.length) u n (a, x :: U, W, fl) ∧ mz_fr s (mo_pop s W.length U.length) := by
  have e1 : s.2.1 12 W.length = x.1 := R.2.2.2.2.2.2.1.1
  have e2 : s.2.1 13 W.length = x.2 := R.2.2.2.2.2.2.1.2.1
  have z := mz_emit (mz_drop R) x.1 x.2
  unfold mo_pop
  rw [e1, e2]
  exact ⟨z.1, mz_fr_tr (mz_fr_wt mz_fr_rf) z.2⟩
def mz_fl (a : Nat) : Option Nat → Option Nat
  | none => some a
  | some p => some p
theorem mz_fail (R : mz_rep s u n (a, U, W, fl)) (ha : a ≤ 2000) : mz_rep (mo_fail s) u n (a, U, W, mz_fl a fl) ∧ mz_fr s (mo_fail s) := by
  obtain ⟨r1, r2, r3, r4, r5, r6, r7, r8, r9, r10⟩ := R
  refine ⟨⟨r1, r2, r3, ?_, r5, r6, r7, r8, r9, ?_⟩, ?_, fun _ _ => rfl, fun _ _ => ⟨rfl, rfl⟩, fun _ _ => rfl, rfl⟩
  · show (if s.1 4 < 0 then s.1 3 else s.1 4) = _
    cases fl with
    | none => rw [if_pos (by rw [r4]; show (-1 : Int32) < 0; decide), r3]; rfl
    | some p => rw [if_neg (by rw [r4]; exact nI_nlt (b := 0) (Nat.zero_le p) (by have := r10 p rfl; omega)), r4]; rfl
  · intro p hp
    cases fl with
    | none => have : a = p := Option.some.inj hp; omega
    | some q => exact r10 p hp
  · intro j hj
    show upd s.1 4 _ j = _
    unfold upd; rw [if_neg (fun z => hj (by rw [z]; decide))]
/-- the topmost of the waiting lies in lo .. hi -/
def mz_wt (W : pz_P) (lo hi : Int32) : Bool := match W with
  | [] => false
  | x :: _ => decide (¬ x.1 < lo ∧ ¬ hi < x.1)
theorem mz_wait (R : mz_rep s u n (a, U, W, fl)) (lo hi : Int32) : (0 < W.length ∧ ¬ s.2.1 12 (W.length - 1) < lo ∧ ¬ hi < s.2.1 12 (W.length - 1)) ↔ mz_wt W lo hi = true := by
  cases W with
  | nil => exact ⟨fun z => absurd z.1 (by decide), fun z => by cases z⟩
  | cons x r =>
    have e1 : s.2.1 12 r.length = x.1 := R.2.2.2.2.2.2.1.1
    unfold mz_wt
    rw [decide_eq_true_iff, show (x :: r).length - 1 = r.length by simp, e1]
    exact ⟨fun z => z.2, fun z => ⟨by simp, z⟩⟩
end
theorem p_emit (G : ac_G) (l : Launch) (o : Nat) (md : Nat → Nat) (hm : md_inj md) (h : ac_H) (d : Nat) (s : md_S) (K : md_ok h o md s) (u : Nat → Int32) (n a : Nat) (U W : pz_P) (fl : Option Nat) (R : mz_rep s u n (a, U, W, fl)) (ha : a ≤ 900) (hb : U.length + W.length < 320) (g x : Int32) : ac_Met G l yX9_emit cX9_emit 3 none d 0 0 [.ref o, .int g, .int x] h (mz_Q o md h s u n (a, (g, x) :: U, W, fl) (none)) :=
  ac_wk (m_emit G l o md hm h d s K U.length R.2.2.2.2.2.1 (by omega) g x) (fun _ _ z => ⟨_, z.1, z.2.1, (mz_emit R g x).1, (mz_emit R g x).2, z.2.2⟩)
theorem p_push (G : ac_G) (l : Launch) (o : Nat) (md : Nat → Nat) (hm : md_inj md) (h : ac_H) (d : Nat) (s : md_S) (K : md_ok h o md s) (u : Nat → Int32) (n a : Nat) (U W : pz_P) (fl : Option Nat) (R : mz_rep s u n (a, U, W, fl)) (ha : a ≤ 900) (hb : U.length + W.length < 320) (g x : Int32) : ac_Met G l yX9_push cX9_push 3 none d 0 0 [.ref o, .int g, .int x] h (mz_Q o md h s u n (a, U, (g, x) :: W, fl) (none)) :=
  ac_wk (m_push G l o md hm h d s K W.length R.2.2.2.2.1 (by omega) g x) (fun _ _ z => ⟨_, z.1, z.2.1, (mz_push R g x).1, (mz_push R g x).2, z.2.2⟩)
theorem p_fail (G : ac_G) (l : Launch) (o : Nat) (md : Nat → Nat) (hm : md_inj md) (h : ac_H) (d : Nat) (s : md_S) (K : md_ok h o md s) (u : Nat → Int32) (n a : Nat) (U W : pz_P) (fl : Option Nat) (R : mz_rep s u n (a, U, W, fl)) (ha : a ≤ 900) : ac_Met G l yX9_fail cX9_fail 1 none d 0 0 [.ref o] h (mz_Q o md h s u n (a, U, W, mz_fl a fl) (none)) :=
  ac_wk (m_fail G l o md hm h d s K) (fun _ _ z => ⟨_, z.1, z.2.1, (mz_fail R (by omega)).1, (mz_fail R (by omega)).2, z.2.2⟩)
theorem p_pop (G : ac_G) (l : Launch) (o : Nat) (md : Nat → Nat) (hm : md_inj md) (h : ac_H) (d : Nat) (s : md_S) (K : md_ok h o md s) (u : Nat → Int32) (n a : Nat) (U W : pz_P) (fl : Option Nat) (x : Int32 × Int32) (R : mz_rep s u n (a, U, x :: W, fl)) (hb : U.length + W.length < 320) : ac_Met G l yX9_pop cX9_pop 1 none (d + 1) 0 0 [.ref o] h (mz_Q o md h s u n (a, x :: U, W, fl) none) :=
  ac_wk (m_pop G l o md hm h d s K W.length U.length R.2.2.2.2.1 (by omega) R.2.2.2.2.2.1 (by omega)) (fun _ _ z => ⟨_, z.1, z.2.1, (mz_pop R).1, (mz_pop R).2, z.2.2⟩)
theorem p_wait (G : ac_G) (l : Launch) (o : Nat) (md : Nat → Nat) (hm : md_inj md) (h : ac_H) (d : Nat) (s : md_S) (K : md_ok h o md s) (u : Nat → Int32) (n a : Nat) (U W : pz_P) (fl : Option Nat) (R : mz_rep s u n (a, U, W, fl)) (ha : a ≤ 900) (hb : W.length ≤ 320) (lo hi : Int32) : ac_Met G l yX9_isWaiting cX9_isWaiting 3 (some .boolean) d 0 0 [.ref o, .int lo, .int hi] h (pq h (some (.int (pb_b (mz_wt W lo hi = true))))) := by
  refine ac_wk (m_isWaiting G l o md hm h d s K W.length R.2.2.2.2.1 hb lo hi) (fun _ _ z => ⟨z.1, ?_⟩)
  rw [z.2]
  congr 2
  unfold pb_b
  by_cases y : mz_wt W lo hi = true
  · rw [if_pos ((mz_wait R lo hi).mpr y), if_pos y]
  · rw [if_neg (fun q => y ((mz_wait R lo hi).mp q)), if_neg y]
/-- pops while the topmost lies in lo .. hi -/
def mz_pp (lo hi : Int32) : pz_P → pz_P → pz_P × pz_P
  | [], U => ([], U)
  | x :: r, U => if ¬ x.1 < lo ∧ ¬ hi < x.1 then mz_pp lo hi r (x :: U) else (x :: r, U)
theorem mz_pp_len {lo hi : Int32} : ∀ (W U : pz_P), (mz_pp lo hi W U).1.length + (mz_pp lo hi W U).2.length = W.length + U.length := by
  intro W
  induction W with
  | nil => intro U; rfl
  | cons x r ih =>
    intro U
    unfold mz_pp
    by_cases z : ¬ x.1 < lo ∧ ¬ hi < x.1
    · rw [if_pos z, ih]; simp; omega
    · rw [if_neg z]
set_option maxHeartbeats 4000000 in
set_option maxRecDepth 100000 in
theorem ml_endFactor {G : ac_G} {M : ac_M} {o : Nat} {md : Nat → Nat} (hm : md_inj md) {h : ac_H} {d : Nat} {s : md_S} {u : Nat → Int32} {n a : Nat} {fl : Option Nat} (ha : a ≤ 900) {W' U' : pz_P} (C : ac_MC G RX9 cX9_endFactor 1 none M) (B : ac_Bd M (d + 2) 0 0) (E : ac_End G (mz_Q o md h s u n (a, U', W', fl) none) 0 0 M) :
    ∀ (W U : pz_P) (h1 : ac_H) (s1 : md_S), md_ok h1 o md s1 → mz_rep s1 u n (a, U, W, fl) → mz_fr s s1 → kp h h1 (md_L o md) → U.length + W.length ≤ 320 → mz_pp 9 11 W U = (W', U') → aw G 1 M 0 [.ref o] [] h1 0 0 := by
  intro W
  induction W with
  | nil =>
    intro U h1 s1 K R F kq hb hp
    refine aw_aload_n C dX9_endFactor_0 rfl rfl (q := 1) rfl ?_
    refine aw_bipush (v := 9) C dX9_endFactor_1 (by decide) (q := 3) rfl ?_
    refine aw_bipush (v := 11) C dX9_endFactor_3 (by decide) (q := 5) rfl ?_
    refine cvX9_109_9 (As := [.int 9, .int 11]) (rest := []) C B dX9_endFactor_5 K.1 (p_wait G M.2.1 o md hm h1 (d + 1) s1 K u n a U ([]) fl R ha (by omega) 9 11) rfl rfl (Nat.le_of_ble_eq_true rfl) (by omega) (by omega) (by omega) (q := 8) rfl (fun r9 h9 hr9 => ?_)
    obtain ⟨e9, er9⟩ := hr9
    subst er9; rw [e9]
    show aw G 1 M 8 [.ref o] [.int (pb_b (mz_wt ([]) 9 11 = true))] h1 0 0
    refine aw_if_eq (t := 18) (q := 11) C dX9_endFactor_8 (by decide) rfl (fun c_8 => ?_) (fun c_8 => absurd c_8 (fun z => z (pb_f (by decide))))
    refine aw_vret C E dX9_endFactor_18 (Nat.le_refl _) (Nat.le_refl _) ?_
    have hp2 : ([], U) = (W', U') := hp
    cases hp2
    exact ⟨_, rfl, K, R, F, kq⟩
  | cons x r ih =>
    intro U h1 s1 K R F kq hb hp
    have hb2 : U.length + r.length < 320 := by simp at hb; omega
    have hb3 : (x :: r).length ≤ 320 := by omega
    refine aw_aload_n C dX9_endFactor_0 rfl rfl (q := 1) rfl ?_
    refine aw_bipush (v := 9) C dX9_endFactor_1 (by decide) (q := 3) rfl ?_
    refine aw_bipush (v := 11) C dX9_endFactor_3 (by decide) (q := 5) rfl ?_
    refine cvX9_109_9 (As := [.int 9, .int 11]) (rest := []) C B dX9_endFactor_5 K.1 (p_wait G M.2.1 o md hm h1 (d + 1) s1 K u n a U (x :: r) fl R ha hb3 9 11) rfl rfl (Nat.le_of_ble_eq_true rfl) (by omega) (by omega) (by omega) (q := 8) rfl (fun r9 h9 hr9 => ?_)
    obtain ⟨e9, er9⟩ := hr9
    subst er9; rw [e9]
    show aw G 1 M 8 [.ref o] [.int (pb_b (mz_wt (x :: r) 9 11 = true))] h1 0 0
    refine aw_if_eq (t := 18) (q := 11) C dX9_endFactor_8 (by decide) rfl (fun c_8 => ?_) (fun c_8 => ?_)
    ·
      refine aw_vret C E dX9_endFactor_18 (Nat.le_refl _) (Nat.le_refl _) ?_
      have hp2 : (x :: r, U) = (W', U') := by rw [← hp]; exact (if_neg (fun z => pb_0.mp c_8 (decide_eq_true z))).symm
      cases hp2
      exact ⟨_, rfl, K, R, F, kq⟩
    ·
      refine aw_aload_n C dX9_endFactor_11 rfl rfl (q := 12) rfl ?_
      refine cvX9_113_9 (As := []) (rest := []) C B dX9_endFactor_12 K.1 (p_pop G M.2.1 o md hm h1 d s1 K u n a U r fl x R hb2) rfl rfl (Nat.le_of_ble_eq_true rfl) (by omega) (by omega) (by omega) (q := 15) rfl (fun r9 h_1 hr9 => ?_)
      obtain ⟨s_2, er9, K_3, R_4, F_5, kpx_6⟩ := hr9
      subst er9
      show aw G 1 M 15 [.ref o] [] h_1 0 0
      refine aw_goto (q := 0) C dX9_endFactor_15 (by decide) ?_
      exact ih (x :: U) h_1 s_2 K_3 R_4 (mz_fr_tr F F_5) (kp_in kq kpx_6 (fun _ z => z)) (by simp; omega) (by rw [← hp]; exact (if_pos (of_decide_eq_true (pb_n c_8))).symm)
set_option maxHeartbeats 4000000 in
set_option maxRecDepth 100000 in
theorem p_endFactor (G : ac_G) (l : Launch) (o : Nat) (md : Nat → Nat) (hm : md_inj md) (h : ac_H) (d : Nat) (s : md_S) (K : md_ok h o md s) (u : Nat → Int32) (n a : Nat) (U W : pz_P) (fl : Option Nat) (R : mz_rep s u n (a, U, W, fl)) (ha : a ≤ 900) (hb : U.length + W.length ≤ 320) : ac_Met G l yX9_endFactor cX9_endFactor 1 none (d + 2) 0 0 [.ref o] h (mz_Q o md h s u n (a, (mz_pp 9 11 W U).2, (mz_pp 9 11 W U).1, fl) none) := by
  refine ac_of (ls := [.ref o]) (by decide +kernel) rfl (Nat.le_of_ble_eq_true rfl) (fun M hl C B E hnm => ?_)
  exact ml_endFactor hm ha C B E W U h s K R mz_fr_rf (kp_mono kp_rf (by simp)) hb rfl
