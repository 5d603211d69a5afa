/-! A call that may throw, with the handlers of the calling method -/
/-- the handler that takes a throw of E at pc: the table's row, ahead of which none takes it -/
def ac_Ca (own : String) (M : ac_M) (pc : Nat) (E : String) (t : Nat) : Prop := ∃ (pre : List ExceptionTableEntry) (x : ExceptionTableEntry) (suf : List ExceptionTableEntry) (name : String), (ac_Co M).exceptionTable.toList = pre ++ x :: suf ∧ (∀ z ∈ pre, covers z pc = false ∨ (z.catchType ≠ 0 ∧ ∃ nm : String, Cond.classLink own z.catchType nm ∈ ac_ws ∧ (E, nm) ∈ ac_nc)) ∧ covers x pc = true ∧ x.catchType ≠ 0 ∧ Cond.classLink own x.catchType name ∈ ac_ws ∧ (Cond.castable E name ∈ ac_ws ∨ Cond.castable E name ∈ ac_nest) ∧ x.handlerPc = t
section
variable {G : ac_G} {own : String} {cc : ByteArray} {nL : Nat} {ret : Option FieldType} {M : ac_M} {pc q : Nat} {ls st rest As : List Value} {h : ac_H} {k n mc ms : Nat} {Q : Option Value → ac_H → Prop} {X : String → ac_H → Prop}
variable {y : MethodName} {cy : ByteArray} {mL np dd D mc0 ms0 : Nat} {ry : Option FieldType} {i : Nat}
theorem aw_callVX {C0 : String} {T : u_T} {N ci b : Nat} {fs : List Value} (C : ac_MC G own cc nL ret M) (B : ac_Bd M D mc0 ms0) (d : decode cc pc = .ok (.invokevirtual i, 3)) (Y : ac_Y y cy mL ry np) (hw1 : Cond.methodLink own i y ∈ ac_ws) (hw2 : Cond.instanceMethod y ∈ ac_ws) (hw3 : Cond.selects C0 y y ∈ ac_ws) (ha : h b = some (.inr (ci, fs))) (hc : vwCl[ci]? = some (C0, T, N))
    (hM : ac_MetX G M.2.1 y cy mL ry dd mc ms (.ref b :: As) h Q X) (hst : st = As.reverse ++ .ref b :: rest) (hn : As.length = np) (hs : (rest.map fun v => v.category).sum ≤ 8) (hD : dd < D) (hk : k + mc ≤ mc0) (hm : n + ms ≤ ms0) (hq : pc + 3 = q)
    (kk : ∀ (r : Option Value) (h' : ac_H), Q r h' → aw G nL M q ls (r.toList ++ rest) h' (k + mc) (n + ms))
    (kx : ∀ (E : String) (h' : ac_H), X E h' → ∃ t, ac_Ca own M pc E t ∧ ∀ a : Nat, aw G nL M t ls [.ref a] h' (k + mc) (n + ms)) : aw G nL M pc ls st h k n := by
  subst hq
  intro H locs la hR hS hL T9 hT X9
  have hr := vx_runV (p := M.1) (l := M.2.1) (e := M.2.2.1) (R := ac_Rm M) (below := ac_Be M) (meth := ac_Me M) (locs := locs) (cells := k) (slots := n) (g := F0 (ac_Id M) pc la st) (C := C0) (b := b) (As := As) (rest := rest) (ac_fix C) hM ⟨ac_CallB C Y B hD hw1, C.ws _ hw2, C.ws _ hw3⟩ ⟨ac_Pc_blind _ _ _, ac_recv C ha hc hR, fun U hU hW => ⟨rfl, C.U.go hS hU hW, by rw [hU]; exact hR⟩⟩ rfl hn hL.1 hst (ac_room hs) d ⟨Nat.le_trans hk B.2.2.1, Nat.le_trans hm B.2.2.2⟩
  rcases hr T9 hT X9 with ⟨v, st₀, t, T', L, h0, X', hL9, e1, e2, ⟨⟨r, h', hv, hQ, hR'⟩, hF⟩, stp⟩ | ⟨q9, st₀, t, T', L, E, ce, h0, X', hL9, e1, e2, ⟨⟨h', hX, hR'⟩, hF⟩, hce, hcv, hcl, stp⟩
  · cases hv
    obtain ⟨k1, k2, k3⟩ := vx_keep h0 e1 hS (fun q _ z => z) (fun q z => z) hL9 hF
    obtain ⟨t2, a1, b1⟩ := kk v h' hQ T'.heap (locs ++ L) la (by rw [e1]; exact hR') k3 hL T' rfl X'
    exact ⟨t2, stp t2 a1, b1⟩
  · obtain ⟨k1, k2, k3⟩ := vx_keep h0 e1 hS (fun q _ z => z) (fun q z => z) hL9 hF
    obtain ⟨tp, ⟨pre, x, suf, name, c1, c2, c3, c4, c5, c6, c7⟩, kw⟩ := kx E h' hX
    subst c7
    have hcast : (Cond.castable E name).before (ac_Ar M) (ac_St M) = true := by
      rcases c6 with z | z
      · exact C.ws _ z
      · exact va_Nw.use rfl (C.U.2.2.1 _ z)
    have w9 := vx_catch (p := M.1) (l := M.2.1) (e := M.2.2.1) (R := ac_Rm M) (below := ac_Be M) (meth := ac_Me M) (Q := ac_Z M) (rest := rest) C.ow pre x suf c1 (fun z hz => (c2 z hz).imp id (fun w => ⟨w.1, w.2.choose, C.ws _ w.2.choose_spec.1, C.U.2.2.2.2.1 _ w.2.choose_spec.2⟩)) c3 c4 (C.ws _ c5) hcast (by rw [e1]; exact hce) hcv hcl (kw q9 T'.heap (locs ++ L) la (by rw [e1]; exact hR') k3 hL)
    obtain ⟨t2, a1, b1⟩ := w9 T' rfl X'
    exact ⟨t2, stp.trans a1, b1⟩
end
