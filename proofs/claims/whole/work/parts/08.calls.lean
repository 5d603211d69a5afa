/-! CONTRACTS AND CALLS over the lifted kit -/
def ac_rm (d mc ms : Nat) : Room := { frames := d, cells := mc, slots := ms, locals := 100 * d }
def ac_Q (G : ac_G) (Q : Option Value → ac_H → Prop) : Array Value → State → Outcome → State → Prop := fun _ st o t => (∃ (r : Option Value) (h' : ac_H), o = .returned r ∧ Q r h' ∧ ac_R G h' t.heap) ∧ va_F (ac_A G) st t
def ac_w1 (y : MethodName) (cc : ByteArray) (mL : Nat) (ret : Option FieldType) : List Cond := Cond.code y cc mL ret :: ac_ws
def ac_Pc (G : ac_G) (av : List Value) (h : ac_H) : Array Value → State → Prop := va_Pc av (fun U => ac_U G U ∧ ac_R G h U.heap)
/-- method y, called with av in the heap h: it returns, and Q holds of its answer and of the heap behind it; at depth d, with at most mc cells of ms slots made -/
def ac_Met (G : ac_G) (l : Launch) (y : MethodName) (cc : ByteArray) (mL : Nat) (ret : Option FieldType) (d mc ms : Nat) (av : List Value) (h : ac_H) (Q : Option Value → ac_H → Prop) : Prop :=
  Met l y (ac_w1 y cc mL ret) (ac_rm d mc ms) (ac_Pc G av h) (ac_Q G Q) mc ms (ac_A G)
theorem ac_Pc_blind (G : ac_G) (av : List Value) (h : ac_H) : FrameBlind (ac_Pc G av h) := fun a U g mk q => ⟨q.1, q.2.1.calling g mk a, q.2.2⟩
theorem ac_good {y : MethodName} {cc : ByteArray} {mL : Nat} {ret : Option FieldType} (hc : Cond.code y cc mL ret ∈ ac_ws) : GoodIn ac_ws (ac_w1 y cc mL ret) := by
  intro w hw
  rcases List.mem_cons.mp hw with rfl | hw
  · exact ⟨hc, ac_ws_good _ hc⟩
  · exact ⟨hw, ac_ws_good w hw⟩
/-- what is known of a method by its name -/
def ac_Y (y : MethodName) (cc : ByteArray) (mL : Nat) (ret : Option FieldType) (np : Nat) : Prop :=
  Cond.code y cc mL ret ∈ ac_ws ∧ Cond.initialized y.cls ∈ ac_ws ∧ (y.cls ≠ "java/lang/invoke/MethodHandle" ∧ y.cls ≠ "java/lang/invoke/VarHandle") ∧ (parseMethodDescriptor y.desc).map (fun d => d.parameters.length) = some np ∧ mL ≤ 60
/-- the room of a body: depth, cells, slots -/
def ac_Bd (M : ac_M) (D mc ms : Nat) : Prop := D ≤ (ac_Rm M).frames ∧ 100 * D ≤ (ac_Rm M).locals ∧ mc ≤ (ac_Rm M).cells ∧ ms ≤ (ac_Rm M).slots
def ac_End (G : ac_G) (Q : Option Value → ac_H → Prop) (mc ms : Nat) (M : ac_M) : Prop := ac_Z M = MQ (ac_Be M) (ac_Q G Q) (ac_Ar M) (ac_St M) mc ms (ac_A G)
section
variable {G : ac_G} {own : String} {cc : ByteArray} {nL : Nat} {ret : Option FieldType} {M : ac_M} {pc q : Nat} {ls st rest As : List Value} {h : ac_H} {k n mc ms : Nat} {Q : Option Value → ac_H → Prop}
theorem aw_go {a : Array Value} (hr : ∀ (H : Heap) (locs : List Loc) (la : Array Slot), ac_R G h H → va_S (ac_A G) (ac_St M).heap H locs → ac_L la nL ls → va_Run M.1 M.2.1 M.2.2.1 (ac_Rm M) (ac_St M) (ac_Id M) (ac_Ar M) (ac_Be M) (ac_Me M) (ac_Co M) H locs k n mc ms (F0 (ac_Id M) pc la st) rest (ac_Q G Q a) (ac_A G))
    (kk : ∀ (r : Option Value) (h' : ac_H), Q r h' → aw G nL M (pc + 3) ls (r.toList ++ rest) h' (k + mc) (n + ms)) : aw G nL M pc ls st h k n := by
  intro H locs la hR hS hL T hT X
  obtain ⟨v, st₀, t, T', L, h0, X', hL9, e1, e2, ⟨⟨r, h', hv, hQ, hR'⟩, hF⟩, stp⟩ := hr H locs la hR hS hL T hT X
  cases hv
  obtain ⟨k1, k2, k3⟩ := vx_keep h0 e1 hS (fun q _ z => z) (fun q z => z) hL9 hF
  obtain ⟨t2, a1, b1⟩ := kk v h' hQ T'.heap (locs ++ L) la (by rw [e1]; exact hR') k3 hL T' rfl X'
  exact ⟨t2, stp t2 a1, b1⟩
theorem ac_fix (C : ac_MC G own cc nL ret M) : CallFix M.1 (ac_Id M) (ac_Co M) cc nL (ac_St M) (ac_Ar M) ac_ws own := ⟨C.x, C.b, C.ml, C.ow, C.ws⟩
variable {y : MethodName} {cy : ByteArray} {mL np dd D mc0 ms0 : Nat} {ry : Option FieldType} {i : Nat}
theorem ac_CallB (C : ac_MC G own cc nL ret M) (Y : ac_Y y cy mL ry np) (B : ac_Bd M D mc0 ms0) (hD : dd < D) (hw1 : Cond.methodLink own i y ∈ ac_ws) : CallB (ac_Rm M) (ac_St M) (ac_Ar M) own i y cy mL ry (ac_w1 y cy mL ry) (ac_rm dd mc ms) mc ms np := by
  obtain ⟨y1, y2, y3, y4, y5⟩ := Y
  obtain ⟨b1, b2, b3, b4⟩ := B
  exact callB_of np C.ws (ac_good y1) rfl rfl rfl (C.ws _ y2) (C.ws _ hw1) ⟨y3.1, y3.2, y4⟩ ⟨by show dd + 1 ≤ _; omega, by show 8 + (mL + 11) + 100 * dd ≤ _; omega⟩
theorem ac_CallN {host : String} (C : ac_MC G own cc nL ret M) (Y : ac_Y y cy mL ry np) (B : ac_Bd M D mc0 ms0) (hD : dd < D) (hw1 : Cond.methodLinkNest own i y host ∈ ac_nest) : va_CN (ac_Rm M) (ac_St M) (ac_Ar M) own i y host cy mL ry (ac_w1 y cy mL ry) (ac_rm dd mc ms) mc ms np := by
  obtain ⟨y1, y2, y3, y4, y5⟩ := Y
  obtain ⟨b1, b2, b3, b4⟩ := B
  exact va_cnB np C.ws (ac_good y1) rfl rfl rfl (C.U.2.2.1 _ hw1) (C.ws _ y2) ⟨y3.1, y3.2, y4⟩ ⟨by show dd + 1 ≤ _; omega, by show 8 + (mL + 11) + 100 * dd ≤ _; omega⟩
theorem ac_room {la : Array Slot} (hs : (rest.map fun v => v.category).sum ≤ 8) : 2 * (F0 (ac_Id M) pc la st).monitorRoom + (rest.map fun v => v.category).sum ≤ 8 := lv_room hs
theorem ac_recv {C0 : String} {T : u_T} {N ci b : Nat} {fs : List Value} {H : Heap} (C : ac_MC G own cc nL ret M) (ha : h b = some (.inr (ci, fs))) (hc : vwCl[ci]? = some (C0, T, N)) (hR : ac_R G h H) : ∃ cell : Cell, H[b]? = some cell ∧ cell.vm.isStatics = false ∧ (ac_St M).vm.findClass C0 = some cell.cls := by
  obtain ⟨ws, hP, hD, hg⟩ := hR
  obtain ⟨z, hz⟩ := hg b _ ha
  exact va_recv C.K hP hc hz
/-- a method of the receiver's class, or inherited by it under its own name -/
theorem aw_callV {C0 : String} {T : u_T} {N ci b : Nat} {fs : List Value} (C : ac_MC G own cc nL ret M) (B : ac_Bd M D mc0 ms0) (d : decode cc pc = .ok (.invokevirtual i, 3)) (Y : ac_Y y cy mL ry np) (hw1 : Cond.methodLink own i y ∈ ac_ws) (hw2 : Cond.instanceMethod y ∈ ac_ws) (hw3 : Cond.selects C0 y y ∈ ac_ws) (ha : h b = some (.inr (ci, fs))) (hc : vwCl[ci]? = some (C0, T, N))
    (hM : ac_Met G M.2.1 y cy mL ry dd mc ms (.ref b :: As) h Q) (hst : st = As.reverse ++ .ref b :: rest) (hn : As.length = np) (hs : (rest.map fun v => v.category).sum ≤ 8) (hD : dd < D) (hk : k + mc ≤ mc0) (hm : n + ms ≤ ms0) (hq : pc + 3 = q)
    (kk : ∀ (r : Option Value) (h' : ac_H), Q r h' → aw G nL M q ls (r.toList ++ rest) h' (k + mc) (n + ms)) : aw G nL M pc ls st h k n := by
  subst hq
  refine aw_go (a := (Value.ref b :: As).toArray) (fun H locs la hR hS hL => ?_) kk
  exact va_runV (C := C0) (b := b) (As := As) (ac_fix C) hM ⟨ac_CallB C Y B hD hw1, C.ws _ hw2, C.ws _ hw3⟩ ⟨ac_Pc_blind _ _ _, ac_recv C ha hc hR, fun U hU hW => ⟨rfl, C.U.go hS hU hW, by rw [hU]; exact hR⟩⟩ rfl hn hL.1 hst (ac_room hs) d ⟨Nat.le_trans hk B.2.2.1, Nat.le_trans hm B.2.2.2⟩
/-- an inherited method, under the heir's name x -/
theorem aw_callU {x : MethodName} {C0 : String} {T : u_T} {N ci b : Nat} {fs : List Value} (C : ac_MC G own cc nL ret M) (B : ac_Bd M D mc0 ms0) (d : decode cc pc = .ok (.invokevirtual i, 3)) (Y : ac_Y y cy mL ry np) (hyx : y = ⟨y.cls, x.name, x.desc⟩) (hw1 : Cond.methodLink own i x ∈ ac_ws) (hw4 : Cond.sameMethod x.cls y.cls x.name x.desc ∈ ac_ws) (hw2 : Cond.instanceMethod y ∈ ac_ws) (hw3 : Cond.selects C0 x y ∈ ac_ws) (ha : h b = some (.inr (ci, fs))) (hc : vwCl[ci]? = some (C0, T, N))
    (hM : ac_Met G M.2.1 y cy mL ry dd mc ms (.ref b :: As) h Q) (hst : st = As.reverse ++ .ref b :: rest) (hn : As.length = np) (hs : (rest.map fun v => v.category).sum ≤ 8) (hD : dd < D) (hk : k + mc ≤ mc0) (hm : n + ms ≤ ms0) (hq : pc + 3 = q)
    (kk : ∀ (r : Option Value) (h' : ac_H), Q r h' → aw G nL M q ls (r.toList ++ rest) h' (k + mc) (n + ms)) : aw G nL M pc ls st h k n := by
  subst hq
  refine aw_go (a := (Value.ref b :: As).toArray) (fun H locs la hR hS hL => ?_) kk
  obtain ⟨y1, y2, y3, y4, y5⟩ := id Y
  have hxd : x.desc = y.desc := by rw [hyx]
  have hG : GoodIn ac_ws (va_wsU own i C0 y.cls x y (ac_w1 y cy mL ry)) := by
    intro w hw
    unfold va_wsU at hw
    rcases List.mem_append.mp hw with hw | hw
    · simp only [List.mem_cons, List.not_mem_nil, or_false] at hw
      rcases hw with rfl | rfl | rfl | rfl | rfl
      · exact ⟨hw1, ac_ws_good _ hw1⟩
      · exact ⟨hw4, ac_ws_good _ hw4⟩
      · exact ⟨hw3, ac_ws_good _ hw3⟩
      · exact ⟨hw2, ac_ws_good _ hw2⟩
      · exact ⟨y2, ac_ws_good _ y2⟩
    · exact ac_good y1 w hw
  exact va_runU (C := C0) (owner := y.cls) (x := x) (b := b) (As := As) (ac_fix C) hM (va_cwU np C.ws hG rfl rfl rfl hyx ⟨y3.1, y3.2, by rw [hxd]; exact y4⟩ ⟨by have := B.1; show dd + 1 ≤ _; omega, by have := B.2.1; show 8 + (mL + 11) + 100 * dd ≤ _; omega⟩) ⟨ac_Pc_blind _ _ _, ac_recv C ha hc hR, fun U hU hW => ⟨rfl, C.U.go hS hU hW, by rw [hU]; exact hR⟩⟩ rfl hn hL.1 hst (ac_room hs) d ⟨Nat.le_trans hk B.2.2.1, Nat.le_trans hm B.2.2.2⟩
/-- a static method -/
theorem aw_callS (C : ac_MC G own cc nL ret M) (B : ac_Bd M D mc0 ms0) (d : decode cc pc = .ok (.invokestatic i, 3)) (Y : ac_Y y cy mL ry np) (hw1 : Cond.methodLink own i y ∈ ac_ws) (hw2 : Cond.static y ∈ ac_ws)
    (hM : ac_Met G M.2.1 y cy mL ry dd mc ms As h Q) (hst : st = As.reverse ++ rest) (hn : As.length = np) (hs : (rest.map fun v => v.category).sum ≤ 8) (hD : dd < D) (hk : k + mc ≤ mc0) (hm : n + ms ≤ ms0) (hq : pc + 3 = q)
    (kk : ∀ (r : Option Value) (h' : ac_H), Q r h' → aw G nL M q ls (r.toList ++ rest) h' (k + mc) (n + ms)) : aw G nL M pc ls st h k n := by
  subst hq
  refine aw_go (a := As.toArray) (fun H locs la hR hS hL => ?_) kk
  exact va_runS (As := As) (ac_fix C) hM ⟨ac_CallB C Y B hD hw1, C.ws _ hw2⟩ ⟨ac_Pc_blind _ _ _, fun U hU hW => ⟨rfl, C.U.go hS hU hW, by rw [hU]; exact hR⟩⟩ rfl hn hL.1 hst (ac_room hs) d ⟨Nat.le_trans hk B.2.2.1, Nat.le_trans hm B.2.2.2⟩
/-- a private static method of a nest mate -/
theorem aw_callSN {host : String} (C : ac_MC G own cc nL ret M) (B : ac_Bd M D mc0 ms0) (d : decode cc pc = .ok (.invokestatic i, 3)) (Y : ac_Y y cy mL ry np) (hw1 : Cond.methodLinkNest own i y host ∈ ac_nest) (hw2 : Cond.static y ∈ ac_ws)
    (hM : ac_Met G M.2.1 y cy mL ry dd mc ms As h Q) (hst : st = As.reverse ++ rest) (hn : As.length = np) (hs : (rest.map fun v => v.category).sum ≤ 8) (hD : dd < D) (hk : k + mc ≤ mc0) (hm : n + ms ≤ ms0) (hq : pc + 3 = q)
    (kk : ∀ (r : Option Value) (h' : ac_H), Q r h' → aw G nL M q ls (r.toList ++ rest) h' (k + mc) (n + ms)) : aw G nL M pc ls st h k n := by
  subst hq
  refine aw_go (a := As.toArray) (fun H locs la hR hS hL => ?_) kk
  exact va_runSN (As := As) (ac_fix C) hM ⟨ac_CallN C Y B hD hw1, C.ws _ hw2, trivial⟩ ⟨ac_Pc_blind _ _ _, fun U hU hW => ⟨rfl, C.U.go hS hU hW, by rw [hU]; exact hR⟩⟩ rfl hn hL.1 hst (ac_room hs) d ⟨Nat.le_trans hk B.2.2.1, Nat.le_trans hm B.2.2.2⟩
/-- a constructor -/
theorem aw_callI {b : Nat} (C : ac_MC G own cc nL ret M) (B : ac_Bd M D mc0 ms0) (d : decode cc pc = .ok (.invokespecial i, 3)) (Y : ac_Y y cy mL none np) (hw1 : Cond.methodLink own i y ∈ ac_ws) (hy : y.name = "<init>") (hw2 : Cond.instanceMethod y ∈ ac_ws)
    (hM : ac_Met G M.2.1 y cy mL none dd mc ms (.ref b :: As) h Q) (hst : st = As.reverse ++ .ref b :: rest) (hn : As.length = np) (hs : (rest.map fun v => v.category).sum ≤ 8) (hD : dd < D) (hk : k + mc ≤ mc0) (hm : n + ms ≤ ms0) (hq : pc + 3 = q)
    (kk : ∀ (r : Option Value) (h' : ac_H), Q r h' → aw G nL M q ls (r.toList ++ rest) h' (k + mc) (n + ms)) : aw G nL M pc ls st h k n := by
  subst hq
  refine aw_go (a := (Value.ref b :: As).toArray) (fun H locs la hR hS hL => ?_) kk
  exact va_runI (b := b) (As := As) (ac_fix C) hM ⟨ac_CallB C Y B hD hw1, hy, C.ws _ hw2⟩ ⟨ac_Pc_blind _ _ _, fun U hU hW => ⟨rfl, C.U.go hS hU hW, by rw [hU]; exact hR⟩⟩ rfl hn hL.1 hst (ac_room hs) d ⟨Nat.le_trans hk B.2.2.1, Nat.le_trans hm B.2.2.2⟩
/-- a private constructor of a nest mate -/
theorem aw_callIN {b : Nat} {host : String} (C : ac_MC G own cc nL ret M) (B : ac_Bd M D mc0 ms0) (d : decode cc pc = .ok (.invokespecial i, 3)) (Y : ac_Y y cy mL none np) (hw1 : Cond.methodLinkNest own i y host ∈ ac_nest) (hy : y.name = "<init>") (hw2 : Cond.instanceMethod y ∈ ac_ws)
    (hM : ac_Met G M.2.1 y cy mL none dd mc ms (.ref b :: As) h Q) (hst : st = As.reverse ++ .ref b :: rest) (hn : As.length = np) (hs : (rest.map fun v => v.category).sum ≤ 8) (hD : dd < D) (hk : k + mc ≤ mc0) (hm : n + ms ≤ ms0) (hq : pc + 3 = q)
    (kk : ∀ (r : Option Value) (h' : ac_H), Q r h' → aw G nL M q ls (r.toList ++ rest) h' (k + mc) (n + ms)) : aw G nL M pc ls st h k n := by
  subst hq
  refine aw_go (a := (Value.ref b :: As).toArray) (fun H locs la hR hS hL => ?_) kk
  exact va_runIN (b := b) (As := As) (ac_fix C) hM ⟨ac_CallN C Y B hD hw1, hy, C.ws _ hw2⟩ ⟨ac_Pc_blind _ _ _, fun U hU hW => ⟨rfl, C.U.go hS hU hW, by rw [hU]; exact hR⟩⟩ rfl hn hL.1 hst (ac_room hs) d ⟨Nat.le_trans hk B.2.2.1, Nat.le_trans hm B.2.2.2⟩
/-- Object's constructor -/
theorem aw_objInit {a : Nat} (C : ac_MC G own cc nL ret M) (B : ac_Bd M D mc0 ms0) (d : decode cc pc = .ok (.invokespecial i, 3)) (hw1 : Cond.methodLink own i Lib.objectInit ∈ ac_ws) (hw2 : Cond.instanceMethod Lib.objectInit ∈ ac_ws) (hw3 : Cond.code Lib.objectInit ⟨#[0xb1]⟩ 1 none ∈ ac_ws) (hs : (rest.map fun v => v.category).sum ≤ 8) (hD : 0 < D) (hq : pc + 3 = q)
    (kk : aw G nL M q ls rest h k n) : aw G nL M pc ls (.ref a :: rest) h k n := by
  subst hq
  intro H locs la hR hS hL
  have b1 := B.1
  have b2 := B.2.1
  have hr := ac_room (M := M) (pc := pc) (la := la) (st := .ref a :: rest) hs
  exact W.objInit C.x C.b C.ow (C.ws _ hw1) (C.ws _ hw2) (C.ws _ hw3) rfl (hL.1.trans C.ml.symm) rfl d (by show 1 ≤ (ac_Rm M).frames; omega) (by show _ ≤ (ac_Rm M).locals; omega) (kk H locs la hR hS hL)
/-- the ends -/
theorem ac_q {r : Option Value} {H : Heap} {locs : List Loc} (hQ : Q r h) (hR : ac_R G h H) (hS : va_S (ac_A G) (ac_St M).heap H locs) : ∀ t : State, t.heap = H → (ac_St M).WarmedH t.vm → ac_Q G Q (ac_Ar M) (ac_St M) (.returned r) t :=
  fun t ht _ => ⟨⟨r, h, rfl, hQ, by rw [ht]; exact hR⟩, hS.F ht⟩
theorem aw_iret {v : Int32} (C : ac_MC G own cc nL (some .int) M) (E : ac_End G Q mc ms M) (d : decode cc pc = .ok (.ireturn, 1)) (hk : k ≤ mc) (hn : n ≤ ms) (hQ : Q (some (.int v)) h) : aw G nL M pc ls [.int v] h k n := by
  intro H locs la hR hS hL
  unfold ac_W
  rw [show M.2.2.2.2.2.2.2.2.2.2 = _ from E]
  exact W.widen hk hn (W.iret (Qc := ac_Q G Q) C.x C.b C.rt (ac_q hQ hR hS) hS.2.2 d C.lk)
theorem aw_zret {v : Int32} {ty : FieldType} (C : ac_MC G own cc nL (some ty) M) (E : ac_End G Q mc ms M) (d : decode cc pc = .ok (.ireturn, 1)) (hty : narrow ty (.int v) = .int v) (hk : k ≤ mc) (hn : n ≤ ms) (hQ : Q (some (.int v)) h) : aw G nL M pc ls [.int v] h k n := by
  intro H locs la hR hS hL
  unfold ac_W
  rw [show M.2.2.2.2.2.2.2.2.2.2 = _ from E]
  exact W.widen hk hn (W.zret (Qc := ac_Q G Q) C.x C.b C.rt hty (ac_q hQ hR hS) hS.2.2 d C.lk)
theorem aw_lret {v : Int64} (C : ac_MC G own cc nL (some .long) M) (E : ac_End G Q mc ms M) (d : decode cc pc = .ok (.lreturn, 1)) (hk : k ≤ mc) (hn : n ≤ ms) (hQ : Q (some (.long v)) h) : aw G nL M pc ls [.long v] h k n := by
  intro H locs la hR hS hL
  unfold ac_W
  rw [show M.2.2.2.2.2.2.2.2.2.2 = _ from E]
  exact W.widen hk hn (W.lret (Qc := ac_Q G Q) C.x C.b C.rt (ac_q hQ hR hS) hS.2.2 d C.lk)
theorem aw_vret (C : ac_MC G own cc nL none M) (E : ac_End G Q mc ms M) (d : decode cc pc = .ok (.return_, 1)) (hk : k ≤ mc) (hn : n ≤ ms) (hQ : Q none h) : aw G nL M pc ls [] h k n := by
  intro H locs la hR hS hL
  unfold ac_W
  rw [show M.2.2.2.2.2.2.2.2.2.2 = _ from E]
  exact W.widen hk hn (W.vret (Qc := ac_Q G Q) C.x C.b C.rt (ac_q hQ hR hS) hS.2.2 d C.lk)
theorem aw_aret {r : Option Nat} {ty : FieldType} (C : ac_MC G own cc nL (some ty) M) (E : ac_End G Q mc ms M) (d : decode cc pc = .ok (.areturn, 1)) (hty : (∃ n, ty = .object n) ∨ ∃ t, ty = .array t) (hk : k ≤ mc) (hn : n ≤ ms) (hQ : Q (some (va_rf r)) h) : aw G nL M pc ls [va_rf r] h k n := by
  intro H locs la hR hS hL
  unfold ac_W
  rw [show M.2.2.2.2.2.2.2.2.2.2 = _ from E]
  exact W.widen hk hn (W.aret (Qc := ac_Q G Q) C.x C.b C.rt hty (va_rf_or r) (ac_q hQ hR hS) hS.2.2 d C.lk)
end
/-- a contract out of the walk of the body -/
theorem ac_of {G : ac_G} {l : Launch} {y : MethodName} {cc : ByteArray} {mL : Nat} {ret : Option FieldType} {d mc ms : Nat} {av ls : List Value} {h : ac_H} {Q : Option Value → ac_H → Prop} (hy : plainFor y = true) (hls : ac_ent mL av = ls) (hlen : (lg_sl av).length ≤ mL)
    (body : ∀ M : ac_M, M.2.1 = l → ac_MC G y.cls cc mL ret M → ac_Bd M d mc ms → ac_End G Q mc ms M → (ac_Me M).name = y.name → aw G mL M 0 ls [] h 0 0) : ac_Met G l y cc mL ret d mc ms av h Q := by
  refine va_MetF (cc := cc) (maxL := mL) (ret := ret) hy rfl ?_
  intro p e s m args below meth c s₁ B hml hv
  obtain ⟨rfl, hU, hR⟩ := hv
  have hts := atoms_spec (ws := ac_w1 y cc mL ret) B.pre
  have hown : s.vm.findClass y.cls = some m.cls := findClass_of_methodNamed B.named
  have hl := lv_entry av (n := mL) hlen
  rw [lg_entry_eq]
  have hL : ac_L ((lg_sl av ++ List.replicate (mL - (lg_sl av).length) Slot.unset).toArray) mL ls := by
    refine ⟨hl.1, hl.2.1, fun q hq => hl.2.2 q ?_⟩
    rw [← hls] at hq
    exact ac_en_in av 0 _ q (fun v hv => (List.mem_replicate.mp hv).2) hq
  exact body (p, l, e, (headSpec (ac_w1 y cc mL ret) (ac_rm d mc ms)).room, s, m, av.toArray, below, meth, c, MQ below (ac_Q G Q) av.toArray s mc ms (ac_A G)) rfl ⟨B.exec, B.bytes, hml, hown, fun w hw => hts w (List.mem_cons_of_mem _ hw), hU, B.notSynchronized, B.returns⟩
    ⟨Nat.le_refl _, Nat.le_refl _, Nat.le_refl _, Nat.le_refl _⟩ rfl (name_of_methodNamed B.named B.method).1 s.heap [] _ hR va_S.rf hL
