/-! Methods with an exception table, lifted -/
def ac_wW (y : MethodName) (cc : ByteArray) (mL : Nat) (ret : Option FieldType) (hh : List (Nat × Nat × Nat × Nat)) : List Cond := Cond.codeWith y cc mL ret hh :: ac_ws
def ac_MetW (G : ac_G) (l : Launch) (y : MethodName) (cc : ByteArray) (mL : Nat) (ret : Option FieldType) (hh : List (Nat × Nat × Nat × Nat)) (d mc ms : Nat) (av : List Value) (h : ac_H) (Q : Option Value → ac_H → Prop) : Prop :=
  Met l y (ac_wW y cc mL ret hh) (ac_rm d mc ms) (ac_Pc G av h) (ac_Q G Q) mc ms (ac_A G)
theorem ac_ofW {G : ac_G} {l : Launch} {y : MethodName} {cc : ByteArray} {mL : Nat} {ret : Option FieldType} {hh : List (Nat × Nat × Nat × Nat)} {d mc ms : Nat} {av ls : List Value} {h : ac_H} {Q : Option Value → ac_H → Prop} (hy : plainName y.cls = true) (hls : ac_ent mL av = ls) (hlen : (lg_sl av).length ≤ mL)
    (body : ∀ M : ac_M, M.2.1 = l → ac_MC G y.cls cc mL ret M → ac_Bd M d mc ms → ac_End G Q mc ms M → (ac_Me M).name = y.name → (ac_Co M).exceptionTable.toList = tableOf hh → aw G mL M 0 ls [] h 0 0) : ac_MetW G l y cc mL ret hh d mc ms av h Q := by
  refine va_MetW (hh := hh) (cc := cc) (maxL := mL) (ret := ret) hy rfl ?_
  intro p e s m args below meth c s₁ B hml hv
  obtain ⟨rfl, hU, hR⟩ := hv
  have hts := atoms_spec (ws := ac_wW y cc mL ret hh) B.pre
  have hown : s.vm.findClass y.cls = some m.cls := findClass_of_methodNamed B.named
  have htb := vx_table (x := y) B (hts _ List.mem_cons_self)
  have hl := lv_entry av (n := mL) hlen
  rw [lg_entry_eq]
  have hL : ac_L ((lg_sl av ++ List.replicate (mL - (lg_sl av).length) Slot.unset).toArray) mL ls := by
    refine ⟨hl.1, hl.2.1, fun q hq => hl.2.2 q ?_⟩
    rw [← hls] at hq
    exact ac_en_in av 0 _ q (fun v hv => (List.mem_replicate.mp hv).2) hq
  exact body (p, l, e, (headSpec (ac_wW y cc mL ret hh) (ac_rm d mc ms)).room, s, m, av.toArray, below, meth, c, MQ below (ac_Q G Q) av.toArray s mc ms (ac_A G)) rfl ⟨B.exec, B.bytes, hml, hown, fun w hw => hts w (List.mem_cons_of_mem _ hw), hU, B.notSynchronized, B.returns⟩
    ⟨Nat.le_refl _, Nat.le_refl _, Nat.le_refl _, Nat.le_refl _⟩ rfl (name_of_methodNamed B.named B.method).1 htb s.heap [] _ hR va_S.rf hL
section
variable {G : ac_G} {own : String} {cc : ByteArray} {nL : Nat} {ret : Option FieldType} {M : ac_M} {pc q : Nat} {ls st rest As : List Value} {h : ac_H} {k n mc ms : Nat} {Q : Option Value → ac_H → Prop}
variable {y : MethodName} {cy : ByteArray} {mL np dd D mc0 ms0 : Nat} {ry : Option FieldType} {hh : List (Nat × Nat × Nat × Nat)} {i : Nat}
/-- what is known of a method with a table by its name -/
def ac_YW (y : MethodName) (cc : ByteArray) (mL : Nat) (ret : Option FieldType) (hh : List (Nat × Nat × Nat × Nat)) (np : Nat) : Prop :=
  Cond.codeWith y cc mL ret hh ∈ ac_ws ∧ Cond.initialized y.cls ∈ ac_ws ∧ (y.cls ≠ "java/lang/invoke/MethodHandle" ∧ y.cls ≠ "java/lang/invoke/VarHandle") ∧ (parseMethodDescriptor y.desc).map (fun d => d.parameters.length) = some np ∧ mL ≤ 60
theorem aw_callSW (C : ac_MC G own cc nL ret M) (B : ac_Bd M D mc0 ms0) (d : decode cc pc = .ok (.invokestatic i, 3)) (Y : ac_YW y cy mL ry hh np) (hw1 : Cond.methodLink own i y ∈ ac_ws) (hw2 : Cond.static y ∈ ac_ws)
    (hM : ac_MetW G M.2.1 y cy mL ry hh dd mc ms As h Q) (hst : st = As.reverse ++ rest) (hn : As.length = np) (hs : (rest.map fun v => v.category).sum ≤ 8) (hD : dd < D) (hk : k + mc ≤ mc0) (hm : n + ms ≤ ms0) (hq : pc + 3 = q)
    (kk : ∀ (r : Option Value) (h' : ac_H), Q r h' → aw G nL M q ls (r.toList ++ rest) h' (k + mc) (n + ms)) : aw G nL M pc ls st h k n := by
  subst hq
  refine aw_go (a := As.toArray) (fun H locs la hR hS hL => ?_) kk
  obtain ⟨y1, y2, y3, y4, y5⟩ := Y
  have hG : GoodIn ac_ws (va_wsS own i y (ac_wW y cy mL ry hh)) := by
    intro w hw
    unfold va_wsS at hw
    rcases List.mem_append.mp hw with hw | hw
    · simp only [List.mem_cons, List.not_mem_nil, or_false] at hw
      rcases hw with rfl | rfl | rfl
      · exact ⟨by first | exact hw1 | exact hw2 | exact y2, ac_ws_good _ (by first | exact hw1 | exact hw2 | exact y2)⟩
      · exact ⟨by first | exact hw1 | exact hw2 | exact y2, ac_ws_good _ (by first | exact hw1 | exact hw2 | exact y2)⟩
      · exact ⟨by first | exact hw1 | exact hw2 | exact y2, ac_ws_good _ (by first | exact hw1 | exact hw2 | exact y2)⟩
    · rcases List.mem_cons.mp hw with rfl | hw
      · exact ⟨y1, ac_ws_good _ y1⟩
      · exact ⟨hw, ac_ws_good w hw⟩
  obtain ⟨b1, b2, b3, b4⟩ := B
  exact vx_runSW (As := As) (ac_fix C) hM (vx_cwSW np C.ws hG rfl rfl rfl ⟨y3.1, y3.2, y4⟩ ⟨by show dd + 1 ≤ _; omega, by show 8 + (mL + 11) + 100 * dd ≤ _; omega⟩) ⟨ac_Pc_blind _ _ _, fun U hU hW => ⟨rfl, C.U.go hS hU hW, by rw [hU]; exact hR⟩⟩ rfl hn hL.1 hst (ac_room hs) d ⟨Nat.le_trans hk b3, Nat.le_trans hm b4⟩
end
