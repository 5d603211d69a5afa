/-! SMALL METHODS, and rows of arrays with the place as a number -/
section
variable {G : ac_G} {own : String} {cc : ByteArray} {nL : Nat} {ret : Option FieldType} {M : ac_M} {pc q : Nat} {ls st : List Value} {h : ac_H} {k n : Nat}
theorem ay_iald {a N j : Nat} {f : Nat → Int32} {i : Int32} (C : ac_MC G own cc nL ret M) (d : decode cc pc = .ok (.iaload, 1)) (ha : h a = some (.inl (1, N, .inl f))) (hi : vp_in i N) (hj : i.toNatClampNeg = j) (hq : pc + 1 = q) (kk : aw G nL M q ls (.int (f j) :: st) h k n) : aw G nL M pc ls (.int i :: .ref a :: st) h k n := by
  subst hj
  exact aw_iald C d ha hi hq kk
theorem ay_cald {a N j : Nat} {f : Nat → Int32} {i : Int32} (C : ac_MC G own cc nL ret M) (d : decode cc pc = .ok (.caload, 1)) (ha : h a = some (.inl (0, N, .inl f))) (hi : vp_in i N) (hj : i.toNatClampNeg = j) (hq : pc + 1 = q) (kk : aw G nL M q ls (.int (f j) :: st) h k n) : aw G nL M pc ls (.int i :: .ref a :: st) h k n := by
  subst hj
  exact aw_cald C d ha hi hq kk
theorem ay_zald {a N j : Nat} {f : Nat → Int32} {i : Int32} (C : ac_MC G own cc nL ret M) (d : decode cc pc = .ok (.baload, 1)) (ha : h a = some (.inl (3, N, .inl f))) (hi : vp_in i N) (hj : i.toNatClampNeg = j) (hq : pc + 1 = q) (kk : aw G nL M q ls (.int (f j) :: st) h k n) : aw G nL M pc ls (.int i :: .ref a :: st) h k n := by
  subst hj
  exact aw_zald C d ha hi hq kk
theorem ay_lald {a N j : Nat} {f : Nat → Int64} {i : Int32} (C : ac_MC G own cc nL ret M) (d : decode cc pc = .ok (.laload, 1)) (ha : h a = some (.inl (2, N, .inr (.inl f)))) (hi : vp_in i N) (hj : i.toNatClampNeg = j) (hq : pc + 1 = q) (kk : aw G nL M q ls (.long (f j) :: st) h k n) : aw G nL M pc ls (.int i :: .ref a :: st) h k n := by
  subst hj
  exact aw_lald C d ha hi hq kk
theorem ay_iast {a N j : Nat} {f : Nat → Int32} {i : Int32} {x : Int32} (C : ac_MC G own cc nL ret M) (d : decode cc pc = .ok (.iastore, 1)) (ha : h a = some (.inl (1, N, .inl f))) (hi : vp_in i N) (hj : i.toNatClampNeg = j) (hq : pc + 1 = q) (kk : aw G nL M q ls st (ac_up h a (.inl (1, N, .inl (upd f j x)))) k n) : aw G nL M pc ls (.int x :: .int i :: .ref a :: st) h k n := by
  subst hj
  exact aw_iast C d ha hi hq kk
theorem ay_cast {a N j : Nat} {f : Nat → Int32} {i : Int32} {x : Int32} (C : ac_MC G own cc nL ret M) (d : decode cc pc = .ok (.castore, 1)) (ha : h a = some (.inl (0, N, .inl f))) (hi : vp_in i N) (hj : i.toNatClampNeg = j) (hq : pc + 1 = q) (kk : aw G nL M q ls st (ac_up h a (.inl (0, N, .inl (upd f j (vp_nar .char x))))) k n) : aw G nL M pc ls (.int x :: .int i :: .ref a :: st) h k n := by
  subst hj
  exact aw_cast C d ha hi hq kk
theorem ay_zast {a N j : Nat} {f : Nat → Int32} {i : Int32} {x : Int32} (C : ac_MC G own cc nL ret M) (d : decode cc pc = .ok (.bastore, 1)) (ha : h a = some (.inl (3, N, .inl f))) (hi : vp_in i N) (hj : i.toNatClampNeg = j) (hq : pc + 1 = q) (kk : aw G nL M q ls st (ac_up h a (.inl (3, N, .inl (upd f j (vp_nar .boolean x))))) k n) : aw G nL M pc ls (.int x :: .int i :: .ref a :: st) h k n := by
  subst hj
  exact aw_zast C d ha hi hq kk
theorem ay_last {a N j : Nat} {f : Nat → Int64} {i : Int32} {x : Int64} (C : ac_MC G own cc nL ret M) (d : decode cc pc = .ok (.lastore, 1)) (ha : h a = some (.inl (2, N, .inr (.inl f)))) (hi : vp_in i N) (hj : i.toNatClampNeg = j) (hq : pc + 1 = q) (kk : aw G nL M q ls st (ac_up h a (.inl (2, N, .inr (.inl (vp_updL f j x))))) k n) : aw G nL M pc ls (.long x :: .int i :: .ref a :: st) h k n := by
  subst hj
  exact aw_last C d ha hi hq kk
end
/-- a truth value as the machine has it -/
def pb_b (p : Prop) [Decidable p] : Int32 := if p then 1 else 0
theorem pb_t {p : Prop} [Decidable p] (h : p) : pb_b p = 1 := if_pos h
theorem pb_f {p : Prop} [Decidable p] (h : ¬ p) : pb_b p = 0 := if_neg h
theorem pb_0 {p : Prop} [Decidable p] : pb_b p = 0 ↔ ¬ p := by
  constructor
  · intro e h; rw [pb_t h] at e; exact absurd e (by decide)
  · exact pb_f
theorem pb_n {p : Prop} [Decidable p] (h : ¬ pb_b p = 0) : p := Classical.byContradiction fun z => h (pb_f z)
theorem pb_nar (p : Prop) [Decidable p] : narrow .boolean (.int (pb_b p)) = .int (pb_b p) := by
  unfold pb_b; split <;> rfl
/-- nothing is changed, the answer is r0 -/
abbrev pq (h : ac_H) (r0 : Option Value) : Option Value → ac_H → Prop := fun r h9 => h9 = h ∧ r = r0
theorem nI_0' : (0 : Int32) = nI 0 := nI_0.symm
set_option maxHeartbeats 4000000 in
set_option maxRecDepth 100000 in
theorem c_isBelow (G : ac_G) (l : Launch) (h : ac_H) (d : Nat) (x b : Int32) : ac_Met G l yX8_isBelow cX8_isBelow 2 (some .boolean) d 0 0 [.int x, .int b] h (pq h (some (.int (pb_b (¬ x < 0 ∧ ¬ b ≤ x))))) := by
  refine ac_of (ls := [.int x, .int b]) (by decide +kernel) rfl (Nat.le_of_ble_eq_true rfl) (fun M hl C B E hnm => ?_)
  refine aw_iload_n C dX8_isBelow_0 rfl rfl (q := 1) rfl ?_
  refine aw_if_lt (t := 13) (q := 4) C dX8_isBelow_1 (by decide) rfl (fun c_1 => ?_) (fun c_1 => ?_)
  ·
    refine aw_iconst (v := 0) C dX8_isBelow_13 (by decide) (q := 14) rfl ?_
    refine aw_zret C E dX8_isBelow_14 (rfl) (Nat.le_refl _) (Nat.le_refl _) ?_
    exact ⟨rfl, by rw [pb_f (fun z => z.1 c_1)]⟩
  ·
    refine aw_iload_n C dX8_isBelow_4 rfl rfl (q := 5) rfl ?_
    refine aw_iload_n C dX8_isBelow_5 rfl rfl (q := 6) rfl ?_
    refine aw_icmp_ge (t := 13) (q := 9) C dX8_isBelow_6 (by decide) rfl (fun c_6 => ?_) (fun c_6 => ?_)
    ·
      refine aw_iconst (v := 0) C dX8_isBelow_13 (by decide) (q := 14) rfl ?_
      refine aw_zret C E dX8_isBelow_14 (rfl) (Nat.le_refl _) (Nat.le_refl _) ?_
      exact ⟨rfl, by rw [pb_f (fun z => z.2 c_6)]⟩
    ·
      refine aw_iconst (v := 1) C dX8_isBelow_9 (by decide) (q := 10) rfl ?_
      refine aw_goto (q := 14) C dX8_isBelow_10 (by decide) ?_
      refine aw_zret C E dX8_isBelow_14 (rfl) (Nat.le_refl _) (Nat.le_refl _) ?_
      exact ⟨rfl, by rw [pb_t ⟨c_1, c_6⟩]⟩
set_option maxHeartbeats 4000000 in
set_option maxRecDepth 100000 in
theorem c_isSize (G : ac_G) (l : Launch) (h : ac_H) (d : Nat) (x : Int32) : ac_Met G l yX8_isSize cX8_isSize 1 (some .boolean) d 0 0 [.int x] h (pq h (some (.int (pb_b (¬ x < 0 ∧ ¬ 1000000 < x))))) := by
  refine ac_of (ls := [.int x]) (by decide +kernel) rfl (Nat.le_of_ble_eq_true rfl) (fun M hl C B E hnm => ?_)
  refine aw_iload_n C dX8_isSize_0 rfl rfl (q := 1) rfl ?_
  refine aw_if_lt (t := 14) (q := 4) C dX8_isSize_1 (by decide) rfl (fun c_1 => ?_) (fun c_1 => ?_)
  ·
    refine aw_iconst (v := 0) C dX8_isSize_14 (by decide) (q := 15) rfl ?_
    refine aw_zret C E dX8_isSize_15 (rfl) (Nat.le_refl _) (Nat.le_refl _) ?_
    exact ⟨rfl, by rw [pb_f (fun z => z.1 c_1)]⟩
  ·
    refine aw_iload_n C dX8_isSize_4 rfl rfl (q := 5) rfl ?_
    refine lcX8_213 C dX8_isSize_5 (q := 7) rfl ?_
    refine aw_icmp_gt (t := 14) (q := 10) C dX8_isSize_7 (by decide) rfl (fun c_7 => ?_) (fun c_7 => ?_)
    ·
      refine aw_iconst (v := 0) C dX8_isSize_14 (by decide) (q := 15) rfl ?_
      refine aw_zret C E dX8_isSize_15 (rfl) (Nat.le_refl _) (Nat.le_refl _) ?_
      exact ⟨rfl, by rw [pb_f (fun z => z.2 c_7)]⟩
    ·
      refine aw_iconst (v := 1) C dX8_isSize_10 (by decide) (q := 11) rfl ?_
      refine aw_goto (q := 15) C dX8_isSize_11 (by decide) ?_
      refine aw_zret C E dX8_isSize_15 (rfl) (Nat.le_refl _) (Nat.le_refl _) ?_
      exact ⟨rfl, by rw [pb_t ⟨c_1, c_7⟩]⟩
