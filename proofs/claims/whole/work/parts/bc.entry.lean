/-! What holds at the law's entry, lifted -/
theorem in0 : ∀ w ∈ u_ws RJx00060 TJx00060 6, w ∈ ac_ws := ac_sub [625, 626, 627, 628, 629, 638] (by decide +kernel) (by decide +kernel)
theorem s_ar {args : Array Value} {s : State} {ty : FieldType} (h : (Cond.arrayClass ty).before args s = true) (hR : ∀ c, s.vm.findClass ("[" ++ ty.toString) = some c → va_RA s c ty) : ∃ c, ArrOfT s c ty ∧ va_RA s c ty := by
  obtain ⟨c, k, comp, h1, h2, h3⟩ := Cond.arrayClass_spec h
  exact ⟨c, fun n z => ⟨fun k h => (by cases h), k, h2, comp, h3⟩, hR c h1⟩
theorem s_ao {args : Array Value} {s : State} {C : String} (h : (Cond.arrayOver (.object C)).before args s = true) : ∃ c, ArrOfT s c (.object C) ∧ va_RA s c (.object C) := by
  obtain ⟨comp, c, k, h1, h2, h3, h4, h5⟩ := Cond.arrayOver_spec h
  exact ⟨c, fun N z => ⟨(fun k h => by cases h), k, h3, comp, h4⟩, k, comp, h3, h4, h1, h5⟩
theorem s_own : ∀ q ∈ ac_strs, q.1 = RX8 := by decide +kernel
theorem s_str : ∀ q ∈ ac_strs, Cond.stringRef q.1 q.2.1 q.2.2 ∈ tables_1 := fun q hq => by
  obtain ⟨w, hw, e⟩ := List.mem_filterMap.mp hq
  cases w <;> first | exact absurd (show (none : Option (String × Nat × String)) = some q from e) (fun z => nomatch z) | (obtain rfl := Option.some.inj e; exact hw)
theorem s_nc : ∀ q ∈ ac_nc, Cond.not (.castable q.1 q.2) ∈ flatC narrow_1 := fun q hq => by
  obtain ⟨w, hw, e⟩ := List.mem_filterMap.mp hq
  cases w with
  | not v => cases v <;> first | exact absurd (show (none : Option (String × String)) = some q from e) (fun z => nomatch z) | (obtain rfl := Option.some.inj e; exact hw)
  | _ => exact absurd (show (none : Option (String × String)) = some q from e) (fun z => nomatch z)
theorem s_K {args : Array Value} {s : State} (hts : ∀ w ∈ lw_tbl, w.before args s = true) : ∃ (D : va_G) (dA : Nat → ClassId), va_K D vwCl (ac_T dA) s := by
  have hw : ∀ w ∈ ac_ws, w.before args s = true := fun w h => hts w (List.mem_filter.mp h).1
  have H : ∀ k : Nat, ∃ (cC : ClassId) (iS : Nat → Nat), ∀ q : vw_C, vwCl[k]? = some q → u_Kn s q.1 q.2.1 q.2.2 cC iS := by
    intro k
    match k with
    | 0 =>
      obtain ⟨c, iS, h⟩ := u_known (C := RJx00060) (T := TJx00060) (N := 6) (n := 6) hw in0 (hts (.instantiable RJx00060 6) (List.mem_of_getElem? (i := 620) (by decide +kernel)))
      exact ⟨c, iS, fun q hq => by cases hq; exact h⟩
    | 1 =>
      obtain ⟨c, iS, h⟩ := u_known (C := RX1) (T := TX1) (N := 11) (n := 11) hw inX1 (hts (.instantiable RX1 11) (List.mem_of_getElem? (i := 95) (by decide +kernel)))
      exact ⟨c, iS, fun q hq => by cases hq; exact h⟩
    | 2 =>
      obtain ⟨c, iS, h⟩ := u_known (C := RX2) (T := TX2) (N := 6) (n := 6) hw inX2 (hts (.instantiable RX2 6) (List.mem_of_getElem? (i := 298) (by decide +kernel)))
      exact ⟨c, iS, fun q hq => by cases hq; exact h⟩
    | 3 =>
      obtain ⟨c, iS, h⟩ := u_known (C := RX3) (T := TX3) (N := 5) (n := 5) hw inX3 (hts (.instantiable RX3 5) (List.mem_of_getElem? (i := 139) (by decide +kernel)))
      exact ⟨c, iS, fun q hq => by cases hq; exact h⟩
    | 4 =>
      obtain ⟨c, iS, h⟩ := u_known (C := RX4) (T := TX4) (N := 5) (n := 5) hw inX4 (hts (.instantiable RX4 5) (List.mem_of_getElem? (i := 224) (by decide +kernel)))
      exact ⟨c, iS, fun q hq => by cases hq; exact h⟩
    | 5 =>
      obtain ⟨c, iS, h⟩ := u_known (C := RX5) (T := TX5) (N := 7) (n := 7) hw inX5 (hts (.instantiable RX5 7) (List.mem_of_getElem? (i := 265) (by decide +kernel)))
      exact ⟨c, iS, fun q hq => by cases hq; exact h⟩
    | 6 =>
      obtain ⟨c, iS, h⟩ := u_known (C := RX6) (T := TX6) (N := 7) (n := 7) hw inX6 (hts (.instantiable RX6 7) (List.mem_of_getElem? (i := 148) (by decide +kernel)))
      exact ⟨c, iS, fun q hq => by cases hq; exact h⟩
    | 7 =>
      obtain ⟨c, iS, h⟩ := u_known (C := RX7) (T := TX7) (N := 5) (n := 5) hw inX7 (hts (.instantiable RX7 5) (List.mem_of_getElem? (i := 249) (by decide +kernel)))
      exact ⟨c, iS, fun q hq => by cases hq; exact h⟩
    | 8 =>
      obtain ⟨c, iS, h⟩ := u_known (C := RX8) (T := TX8) (N := 12) (n := 12) hw inX8 (hts (.instantiable RX8 12) (List.mem_of_getElem? (i := 87) (by decide +kernel)))
      exact ⟨c, iS, fun q hq => by cases hq; exact h⟩
    | 9 =>
      obtain ⟨c, iS, h⟩ := u_known (C := RX9) (T := TX9) (N := 44) (n := 44) hw inX9 (hts (.instantiable RX9 44) (List.mem_of_getElem? (i := 864) (by decide +kernel)))
      exact ⟨c, iS, fun q hq => by cases hq; exact h⟩
    | k + 10 =>
      obtain ⟨c, iS, h⟩ := u_known (C := RX1) (T := TX1) (N := 11) (n := 11) hw inX1 (hts (.instantiable RX1 11) (List.mem_of_getElem? (i := 95) (by decide +kernel)))
      exact ⟨c, iS, fun q hq => by simp [vwCl] at hq⟩
  obtain ⟨a0, h0⟩ := s_ar (ty := .char) (hts _ (List.mem_of_getElem? (i := 191) (by decide +kernel))) (fun _ h => h)
  obtain ⟨a1, h1⟩ := s_ar (ty := .int) (hts _ (List.mem_of_getElem? (i := 137) (by decide +kernel))) (fun _ h => h)
  obtain ⟨a2, h2⟩ := s_ar (ty := .long) (hts _ (List.mem_of_getElem? (i := 247) (by decide +kernel))) (fun _ h => h)
  obtain ⟨a3, h3⟩ := s_ar (ty := .boolean) (hts _ (List.mem_of_getElem? (i := 192) (by decide +kernel))) (fun _ h => h)
  obtain ⟨a4, h4⟩ := s_ao (C := RX6) (hts _ (List.mem_of_getElem? (i := 326) (by decide +kernel)))
  refine ⟨(fun k => (H k).choose, fun k => (H k).choose_spec.choose), fun t => if t = 0 then a0 else if t = 1 then a1 else if t = 2 then a2 else if t = 3 then a3 else a4, fun k q hq => (H k).choose_spec.choose_spec q hq, fun k q hq => ?_⟩
  match k, hq with
  | 0, hq => cases hq; exact h0
  | 1, hq => cases hq; exact h1
  | 2, hq => cases hq; exact h2
  | 3, hq => cases hq; exact h3
  | 4, hq => cases hq; exact h4
  | k + 5, hq => simp [ac_T] at hq
/-- where the constant texts lie -/
def s_tx (s : State) (i : Nat) : Nat := match (Term.string RX8 i).eval #[] s none [] s with
  | some (.ref a) => a
  | _ => 0
theorem s_tx_eq {s : State} {i a : Nat} (h : (Term.string RX8 i).eval #[] s none [] s = some (.ref a)) : s_tx s i = a := by
  unfold s_tx
  rw [h]
theorem s_U {b : Nat} {s : State} (hts : ∀ w ∈ lw_tbl, w.before #[Value.ref b] s = true) (hgv : (Jvm.Cond.and given_1 narrow_1).before #[Value.ref b] s = true) {D : va_G} {dA : Nat → ClassId} (hK : va_K D vwCl (ac_T dA) s) : ac_U (D, dA, s.heap.size, s_tx s) s := by
  have hT : ∀ w ∈ tables_1, w.before #[Value.ref b] s = true := fun w h => hts w (List.mem_append_right _ h)
  have hN : ∀ w ∈ flatC narrow_1, w.before #[Value.ref b] s = true := fun w h => flat_of_before _ hgv w (List.mem_append_right _ h)
  have hcl : s.vm.findClass RX8 = some (D.1 8) := (hK.1 8 _ rfl).2.1
  have hA : ∀ a : Nat, a < s.heap.size → ¬ ac_A (D, dA, s.heap.size, s_tx s) a := fun a h z => absurd h (Nat.not_lt.mpr z)
  refine ⟨hK, Nat.le_refl _, fun w hw => ?_, fun q hq => ?_, fun q hq => ?_, ?_, ?_, ?_⟩
  · exact va_Nw.of (ac_nest_ot hw) (hT w (List.mem_filter.mp hw).1)
  · obtain ⟨q1, q2, q3⟩ := q
    have e1 : q1 = RX8 := s_own _ hq
    subst e1
    have h1 := hT _ (s_str _ hq)
    obtain ⟨k, cf, i, a, -, -, -, -, -, hev⟩ := Cond.stringRef_spec hcl h1
    have h2 : (Term.string RX8 q2).eval #[] s none [] s = some (.ref a) := hev
    show vk_R RX8 q2 q3 (s_tx s q2) s
    rw [s_tx_eq h2]
    exact vk_R.of h1 hev
  · exact va_Nc.of (hN _ (s_nc q hq))
  · exact vx_Zqof (hts _ (List.mem_of_getElem? (i := 528) (by decide +kernel))) (hts _ (List.mem_of_getElem? (i := 78) (by decide +kernel))) (hN _ (by decide +kernel)) hA
  · exact vx_Zqof (hts _ (List.mem_of_getElem? (i := 530) (by decide +kernel))) (hts _ (List.mem_of_getElem? (i := 78) (by decide +kernel))) (hN _ (by decide +kernel)) hA
  · exact va_AO.of (hts _ (List.mem_of_getElem? (i := 326) (by decide +kernel)))
