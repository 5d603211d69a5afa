/-! METHODS THAT MAY THROW, lifted: Q what holds at a return, X what holds at a throw (the class's name, our heap) -/
def ac_XC (G : ac_G) (X : String → ac_H → Prop) : String → State → State → Prop := fun E st t => (∃ h' : ac_H, X E h' ∧ ac_R G h' t.heap) ∧ va_F (ac_A G) st t
def ac_MetX (G : ac_G) (l : Launch) (y : MethodName) (cc : ByteArray) (mL : Nat) (ret : Option FieldType) (d mc ms : Nat) (av : List Value) (h : ac_H) (Q : Option Value → ac_H → Prop) (X : String → ac_H → Prop) : Prop :=
  vx_Met l y (ac_w1 y cc mL ret) (ac_rm d mc ms) (ac_Pc G av h) (ac_Q G Q) (ac_XC G X) mc ms (ac_A G)
def ac_EndX (G : ac_G) (Q : Option Value → ac_H → Prop) (X : String → ac_H → Prop) (mc ms : Nat) (M : ac_M) : Prop := ac_Z M = vx_MQ (ac_Be M) (ac_Q G Q) (ac_XC G X) (ac_Ar M) (ac_St M) mc ms (ac_A G) ∧ ∀ x ∈ (ac_Co M).exceptionTable.toList, False
section
variable {G : ac_G} {own : String} {cc : ByteArray} {nL : Nat} {ret : Option FieldType} {M : ac_M} {pc q : Nat} {ls st rest As : List Value} {h : ac_H} {k n mc ms : Nat} {Q : Option Value → ac_H → Prop} {X : String → ac_H → Prop}
theorem aw_iretX {v : Int32} (C : ac_MC G own cc nL (some .int) M) (E : ac_EndX G Q X mc ms M) (d : decode cc pc = .ok (.ireturn, 1)) (hk : k ≤ mc) (hn : n ≤ ms) (hQ : Q (some (.int v)) h) : aw G nL M pc ls [.int v] h k n := by
  intro H locs la hR hS hL
  unfold ac_W
  rw [show M.2.2.2.2.2.2.2.2.2.2 = _ from E.1]
  exact vx_ret (W.widen hk hn (W.iret (Qc := ac_Q G Q) C.x C.b C.rt (ac_q hQ hR hS) hS.2.2 d C.lk))
theorem aw_lretX {v : Int64} (C : ac_MC G own cc nL (some .long) M) (E : ac_EndX G Q X mc ms M) (d : decode cc pc = .ok (.lreturn, 1)) (hk : k ≤ mc) (hn : n ≤ ms) (hQ : Q (some (.long v)) h) : aw G nL M pc ls [.long v] h k n := by
  intro H locs la hR hS hL
  unfold ac_W
  rw [show M.2.2.2.2.2.2.2.2.2.2 = _ from E.1]
  exact vx_ret (W.widen hk hn (W.lret (Qc := ac_Q G Q) C.x C.b C.rt (ac_q hQ hR hS) hS.2.2 d C.lk))
theorem aw_vretX (C : ac_MC G own cc nL none M) (E : ac_EndX G Q X mc ms M) (d : decode cc pc = .ok (.return_, 1)) (hk : k ≤ mc) (hn : n ≤ ms) (hQ : Q none h) : aw G nL M pc ls [] h k n := by
  intro H locs la hR hS hL
  unfold ac_W
  rw [show M.2.2.2.2.2.2.2.2.2.2 = _ from E.1]
  exact vx_ret (W.widen hk hn (W.vret (Qc := ac_Q G Q) C.x C.b C.rt (ac_q hQ hR hS) hS.2.2 d C.lk))
/-- a throw's cell lies beside our heap -/
theorem ac_xc {cls : String} {H : Heap} {locs : List Loc} (hX : X cls h) (hR : ac_R G h H) (hS : va_S (ac_A G) (ac_St M).heap H locs) : ∀ t : State, (ac_St M).vm.Alike t.vm → H.size ≤ t.heap.size → (∀ q : Nat, q < H.size → t.heap[q]? = H[q]?) → ac_XC G X cls (ac_St M) t := by
  intro t _ h1 h2
  obtain ⟨ws, hP, hD, hg⟩ := hR
  refine ⟨⟨h, hX, ws, hP.kept (fun k q hk => h2 q.1 ((hP k q hk).lt)), hD, hg⟩, Nat.le_trans hS.1 h1, fun q hq hA => ?_⟩
  rw [h2 q (Nat.lt_of_lt_of_le hq hS.1)]
  exact hS.2.1 q hq hA
/-- what the tables say of the throwing of a class by own -/
def ac_Th (own : String) (ik ic : Nat) (cls : String) (names : List String) : Prop := Bundle.fit cls = true ∧ (∀ n ∈ names, Bundle.fit n = true) ∧ Cond.classLink own ik cls ∈ ac_ws ∧ Cond.initialized cls ∈ ac_ws ∧ ∀ w ∈ vx_atS own ic cls names, w ∈ ac_ws ∨ w ∈ ac_nest
theorem ac_nest_ot {w : Cond} (hw : w ∈ ac_nest) : w.onTables = true := by
  rcases ac_nest_is hw with ⟨a, i, x, n, rfl⟩ | ⟨a, b, rfl⟩ | ⟨x, rfl⟩ <;> rfl
theorem ac_Th.good {own cls : String} {ik ic : Nat} {names : List String} (h : ac_Th own ik ic cls names) : ∀ w ∈ Cond.classLink own ik cls :: Cond.initialized cls :: vx_atS own ic cls names, vx_ot w = true := by
  have g : ∀ w ∈ ac_ws, vx_ot w = true := fun w hw => by
    unfold vx_ot
    rw [(List.mem_filter.mp hw).2, Bool.or_true]
  intro w hw
  rcases List.mem_cons.mp hw with rfl | hw
  · exact g _ h.2.2.1
  · rcases List.mem_cons.mp hw with rfl | hw
    · exact g _ h.2.2.2.1
    · rcases h.2.2.2.2 w hw with z | z
      · exact g _ z
      · unfold vx_ot
        rw [ac_nest_ot z, Bool.true_or]
theorem ac_MC.th {own' cls : String} {ik ic : Nat} {names : List String} (C : ac_MC G own cc nL ret M) (h : ac_Th own' ik ic cls names) : ∀ w ∈ vx_atS own' ic cls names, w.before (ac_Ar M) (ac_St M) = true := by
  intro w hw
  rcases h.2.2.2.2 w hw with z | z
  · exact C.ws _ z
  · exact va_Nw.use (ac_nest_ot z) (C.U.2.2.1 _ z)
theorem aw_throw {cls text : String} {names : List String} {ik is ic D : Nat} (C : ac_MC G own cc nL ret M) (B : ac_Bd M D mc ms) (E : ac_EndX G Q X mc ms M) (hst : M.2.1.stackTraces = false) (Th : ac_Th own ik ic cls names) (hstr : (own, is, text) ∈ ac_strs)
    (d0 : decode cc pc = .ok (.new ik, 3)) (d3 : decode cc (pc + 3) = .ok (.dup, 1)) (d4 : decode cc (pc + 4) = .ok (.ldc is, 2)) (d6 : decode cc (pc + 6) = .ok (.invokespecial ic, 3)) (d9 : decode cc (pc + 9) = .ok (.athrow, 1))
    (hD : names.length + 3 < D) (hD2 : 13 * (names.length + 1) + 43 ≤ 100 * D) (hk : k + 1 ≤ mc) (hn : n + 6 ≤ ms) (hX : X cls h) : aw G nL M pc ls [] h k n := by
  intro H locs la hR hS hL
  unfold ac_W
  rw [show M.2.2.2.2.2.2.2.2.2.2 = _ from E.1]
  have hsize : la.size = (ac_Co M).maxLocals := by rw [C.ml]; exact hL.1
  have hL9 : (([] : List Value).map fun v => v.category).sum + (13 * (names.length + 1) + 43) ≤ (ac_Rm M).locals := by
    have := B.2.1
    show 0 + _ ≤ _
    omega
  have hF9 : names.length + 3 < (ac_Rm M).frames := Nat.lt_of_lt_of_le hD B.1
  exact vx_throwS C.x C.b hst C.ow Th.1 Th.2.1 (C.ws _ Th.2.2.1) (C.ws _ Th.2.2.2.1) (C.U.2.2.2.1 _ hstr) (C.th Th) Th.good C.U.2.2.2.2.2.1 C.U.2.2.2.2.2.2.1 hS hsize d0 d3 d4 d6 d9 (fun x hx => (E.2 x hx).elim) hF9 hL9 (Nat.le_trans hk B.2.2.1) (Nat.le_trans hn B.2.2.2) C.lk (ac_xc hX hR hS) hS.2.2 hk hn
end
/-- a contract out of the walk of a body that may throw -/
theorem ac_ofX {G : ac_G} {l : Launch} {y : MethodName} {cc : ByteArray} {mL : Nat} {ret : Option FieldType} {d mc ms : Nat} {av ls : List Value} {h : ac_H} {Q : Option Value → ac_H → Prop} {X : String → ac_H → Prop} (hy : plainName y.cls = true) (hls : ac_ent mL av = ls) (hlen : (lg_sl av).length ≤ mL)
    (body : ∀ M : ac_M, M.2.1 = l → ac_MC G y.cls cc mL ret M → ac_Bd M d mc ms → ac_EndX G Q X mc ms M → (ac_Me M).name = y.name → aw G mL M 0 ls [] h 0 0) : ac_MetX G l y cc mL ret d mc ms av h Q X := by
  refine vx_ofW (cc := cc) (maxL := mL) (ret := ret) hy rfl ?_
  intro p e s m args below meth c s₁ B hml ht hv
  obtain ⟨rfl, hU, hR⟩ := hv
  have hts := atoms_spec (ws := ac_w1 y cc mL ret) B.pre
  have hown : s.vm.findClass y.cls = some m.cls := findClass_of_methodNamed B.named
  have hl := lv_entry av (n := mL) hlen
  rw [lg_entry_eq]
  have hL : ac_L ((lg_sl av ++ List.replicate (mL - (lg_sl av).length) Slot.unset).toArray) mL ls := by
    refine ⟨hl.1, hl.2.1, fun q hq => hl.2.2 q ?_⟩
    rw [← hls] at hq
    exact ac_en_in av 0 _ q (fun v hv => (List.mem_replicate.mp hv).2) hq
  exact body (p, l, e, (headSpec (ac_w1 y cc mL ret) (ac_rm d mc ms)).room, s, m, av.toArray, below, meth, c, vx_MQ below (ac_Q G Q) (ac_XC G X) av.toArray s mc ms (ac_A G)) rfl ⟨B.exec, B.bytes, hml, hown, fun w hw => hts w (List.mem_cons_of_mem _ hw), hU, B.notSynchronized, B.returns⟩
    ⟨Nat.le_refl _, Nat.le_refl _, Nat.le_refl _, Nat.le_refl _⟩ ⟨rfl, ht⟩ (name_of_methodNamed B.named B.method).1 s.heap [] _ hR va_S.rf hL
/-! the three classes that GradeTexts throws -/
theorem ac_ths {own cls : String} {ik ic : Nat} {names : List String} (ps : List Nat) (h0 : Bundle.fit cls = true) (hn : names.all Bundle.fit = true) (hk : Cond.classLink own ik cls ∈ ac_ws) (hi : Cond.initialized cls ∈ ac_ws) (hp : vx_atS own ic cls names = ps.filterMap (fun i => lw_tbl[i]?)) (hg : (vx_atS own ic cls names).all (fun w => goodWord w || (match w with | .castable _ _ => true | .declares _ => true | _ => false)) = true) : ac_Th own ik ic cls names := by
  refine ⟨h0, List.all_eq_true.mp hn, hk, hi, fun w hw => ?_⟩
  have h1 : w ∈ lw_tbl := by
    rw [hp] at hw
    obtain ⟨i, -, hi⟩ := List.mem_filterMap.mp hw
    exact List.mem_of_getElem? hi
  have h2 := List.all_eq_true.mp hg w hw
  by_cases hgw : goodWord w = true
  · exact Or.inl (List.mem_filter.mpr ⟨h1, hgw⟩)
  · right
    rw [Bool.or_eq_true] at h2
    rcases h2 with z | z
    · exact absurd z hgw
    · have h3 : w ∈ tables_1 := by
        rcases List.mem_append.mp h1 with y | y
        · exfalso
          unfold k2_sels at y
          obtain ⟨q, -, e⟩ := List.mem_map.mp y
          rw [← e] at z
          exact Bool.false_ne_true z
        · exact y
      refine List.mem_filter.mpr ⟨h3, ?_⟩
      cases w <;> first | rfl | exact absurd z Bool.false_ne_true
theorem ac_str {a t : String} {b : Nat} (i : Nat) (h : tables_1[i]? = some (.stringRef a b t)) : (a, b, t) ∈ ac_strs := List.mem_filterMap.mpr ⟨_, List.mem_of_getElem? h, rfl⟩
