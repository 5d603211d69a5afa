/-! The wrappers of the law: their contracts -/
theorem vin0 : vp_in 0 1 := vp_in_nI (n := 0) (by decide) (by decide)
def lo : Option Value → Option Int64
  | some (.int x) => some x.toInt64
  | some (.long x) => some x
  | _ => none
/-- what a wrapper with an array for the answer leaves: a code, the answer as a long, the reference's part -/
def jq (ad : Nat → Nat) (u : Nat) (h : ac_H) (P : ac_H → Int32 → Option Value → Prop) : Option Value → ac_H → Prop := fun r h2 => ∃ k : Int32, r = some (.int k) ∧ (∀ a e, h a = some e → a ∉ (List.range 26).map ad → a ≠ u → h2 a = some e) ∧ ∃ (v : Option Value) (w : Nat → Int64), h2 u = some (.inl (2, 1, .inr (.inl w))) ∧ P h2 k v ∧ (k = 0 → lo v = some (w 0))
def jb (ad : Nat → Nat) (h : ac_H) (P : ac_H → Int32 → Option Value → Prop) : Option Value → ac_H → Prop := fun r h2 => ∃ k : Int32, r = some (.int k) ∧ kpA ad h h2 ∧ ∃ v : Option Value, P h2 k v
theorem jq_ret {ad : Nat → Nat} {u : Nat} {h h1 : ac_H} {P : ac_H → Int32 → Option Value → Prop} {w0 : Nat → Int64} (hu : h u = some (.inl (2, 1, .inr (.inl w0)))) (ua : u ∉ (List.range 26).map ad) (k1 : kpA ad h h1) {x : Int64} {v : Option Value} (hv : lo v = some x) (hP : ∀ h2, kpl h1 h2 → P h2 0 v) : jq ad u h P (some (.int 0)) (ac_up h1 u (.inl (2, 1, .inr (.inl (vp_updL w0 0 x))))) :=
  ⟨0, rfl, fun a e ha hn hne => by rw [ac_up_n _ _ hne]; exact k1 a e ha hn, v, _, ac_up_s _ _ _, hP _ (kpl_up (k1 u _ hu ua)), fun _ => by
    rw [hv]
    show some x = some (vp_updL w0 0 x 0)
    unfold vp_updL
    rw [if_pos rfl]⟩
theorem jq_thr {ad : Nat → Nat} {u : Nat} {h h1 : ac_H} {P : ac_H → Int32 → Option Value → Prop} {w0 : Nat → Int64} (hu : h u = some (.inl (2, 1, .inr (.inl w0)))) (ua : u ∉ (List.range 26).map ad) (k1 : kpA ad h h1) {k : Int32} (hk : ¬ k = 0) (hP : P h1 k none) : jq ad u h P (some (.int k)) h1 :=
  ⟨k, rfl, fun a e ha hn _ => k1 a e ha hn, none, w0, k1 u _ hu ua, hP, fun z => absurd z hk⟩
theorem gJ_ob {h : ac_H} {ad : Nat → Nat} {o : Nat} {md : Nat → Nat} {n : Nat} {s : md_S} (J : gJ h ad o md n s) : ∃ fs, h (ad 0) = some (.inr (8, fs)) := by
  obtain ⟨i1, i2, i3, i4, R, la, ec, E, dy, I, F, c, len, f, D, v0, oc, rc, O, ra, chg, gg, pk, W, B, j1, j2, j3⟩ := J
  exact ⟨_, j2.1⟩
section
variable {h : ac_H} {ad : Nat → Nat} {o : Nat} {md : Nat → Nat} {n : Nat} {s : md_S}
theorem w_write (J : gJ h ad o md n s) (i : Int32) (u : Nat) {w0 : Nat → Int64} (hu : h u = some (.inl (2, 1, .inr (.inl w0)))) (ua : u ∉ (List.range 26).map ad) (G : ac_G) (l : Launch) (hst : l.stackTraces = false) (d : Nat) : ac_MetW G l yL_write cL_write 4 (some .int) hL_write (d + 62) 1 6 [.ref (ad 0), .int i, .ref u] h (jq ad u h (jm yX9_write cX9_write 2 (some .int) tI [.ref o, .int i] ad o md n)) := by
  obtain ⟨Q, X, hM, hQ, hX⟩ := j_write J i
  obtain ⟨fs, h0⟩ := gJ_ob J
  refine ac_ofW (ls := [.ref (ad 0), .int i, .ref u, .retAddr 0]) (by decide +kernel) rfl (Nat.le_of_ble_eq_true rfl) (fun M hl C B E hnm ht => ?_)
  subst hl
  refine aw_aload_n C dL_write_0 rfl rfl (q := 1) rfl ?_
  refine aw_iconst (v := 0) C dL_write_1 (by decide) (q := 2) rfl ?_
  refine aw_aload_n C dL_write_2 rfl rfl (q := 3) rfl ?_
  refine aw_iload_n C dL_write_3 rfl rfl (q := 4) rfl ?_
  refine cxL_write (As := [.int i]) (rest := [.int 0, .ref u]) C B dL_write_4 h0 (hM G M.2.1 d hst) rfl rfl (Nat.le_of_ble_eq_true rfl) (by omega) (by omega) (by omega) (q := 7) rfl (fun r h1 q1 => ?_) (fun E9 h1 q1 => ?_)
  · obtain ⟨k1, ⟨v, k2⟩, k3⟩ := hQ r h1 q1
    subst k2
    show aw G 4 M 7 [.ref (ad 0), .int i, .ref u, .retAddr 0] [.int v, .int 0, .ref u] h1 (0 + 1) (0 + 6)
    refine aw_i2l C dL_write_7 (q := 8) rfl ?_
    refine ay_last (N := 1) (j := 0) C dL_write_8 (k1 u _ hu ua) vin0 (by decide) (q := 9) rfl ?_
    refine aw_goto (q := 18) C dL_write_9 (by decide) ?_
    refine aw_iconst (v := 0) C dL_write_18 (by decide) (q := 19) rfl ?_
    exact aw_iret C E dL_write_19 (by omega) (by omega) (jq_ret hu ua k1 rfl k3)
  · obtain ⟨k1, k, hk, hP⟩ := hX E9 h1 q1
    rcases List.mem_cons.mp hk with e | hk
    · obtain ⟨rfl, rfl⟩ := Prod.mk.inj e
      refine ⟨12, ca_write1 ht, fun xa => ?_⟩
      refine aw_astore_n (ls' := [.ref (ad 0), .int i, .ref u, .ref xa]) C dL_write_12 rfl (by decide) rfl (q := 13) rfl ?_
      refine aw_iconst (v := 1) C dL_write_13 (by decide) (q := 14) rfl ?_
      exact aw_iret C E dL_write_14 (by omega) (by omega) (jq_thr hu ua k1 (by decide) hP)
    rcases List.mem_cons.mp hk with e | hk
    · obtain ⟨rfl, rfl⟩ := Prod.mk.inj e
      refine ⟨15, ca_write2 ht, fun xa => ?_⟩
      refine aw_astore_n (ls' := [.ref (ad 0), .int i, .ref u, .ref xa]) C dL_write_15 rfl (by decide) rfl (q := 16) rfl ?_
      refine aw_iconst (v := 2) C dL_write_16 (by decide) (q := 17) rfl ?_
      exact aw_iret C E dL_write_17 (by omega) (by omega) (jq_thr hu ua k1 (by decide) hP)
    cases hk
theorem w_edition (J : gJ h ad o md n s) (day : Int64) (u : Nat) {w0 : Nat → Int64} (hu : h u = some (.inl (2, 1, .inr (.inl w0)))) (ua : u ∉ (List.range 26).map ad) (G : ac_G) (l : Launch) (hst : l.stackTraces = false) (d : Nat) : ac_MetW G l yL_edition cL_edition 5 (some .int) hL_edition (d + 62) 1 6 [.ref (ad 0), .long day, .ref u] h (jq ad u h (jm yX9_edition cX9_edition 3 (some .int) tI [.ref o, .long day] ad o md n)) := by
  obtain ⟨Q, X, hM, hQ, hX⟩ := j_edition J day
  obtain ⟨fs, h0⟩ := gJ_ob J
  refine ac_ofW (ls := [.ref (ad 0), .long day, .retAddr 0, .ref u, .retAddr 0]) (by decide +kernel) rfl (Nat.le_of_ble_eq_true rfl) (fun M hl C B E hnm ht => ?_)
  subst hl
  refine aw_aload_n C dL_edition_0 rfl rfl (q := 1) rfl ?_
  refine aw_iconst (v := 0) C dL_edition_1 (by decide) (q := 2) rfl ?_
  refine aw_aload_n C dL_edition_2 rfl rfl (q := 3) rfl ?_
  refine aw_lload_n C dL_edition_3 rfl rfl (q := 4) rfl ?_
  refine cxL_edition (As := [.long day]) (rest := [.int 0, .ref u]) C B dL_edition_4 h0 (hM G M.2.1 d hst) rfl rfl (Nat.le_of_ble_eq_true rfl) (by omega) (by omega) (by omega) (q := 7) rfl (fun r h1 q1 => ?_) (fun E9 h1 q1 => ?_)
  · obtain ⟨k1, ⟨v, k2⟩, k3⟩ := hQ r h1 q1
    subst k2
    show aw G 5 M 7 [.ref (ad 0), .long day, .retAddr 0, .ref u, .retAddr 0] [.int v, .int 0, .ref u] h1 (0 + 1) (0 + 6)
    refine aw_i2l C dL_edition_7 (q := 8) rfl ?_
    refine ay_last (N := 1) (j := 0) C dL_edition_8 (k1 u _ hu ua) vin0 (by decide) (q := 9) rfl ?_
    refine aw_goto (q := 20) C dL_edition_9 (by decide) ?_
    refine aw_iconst (v := 0) C dL_edition_20 (by decide) (q := 21) rfl ?_
    exact aw_iret C E dL_edition_21 (by omega) (by omega) (jq_ret hu ua k1 rfl k3)
  · obtain ⟨k1, k, hk, hP⟩ := hX E9 h1 q1
    rcases List.mem_cons.mp hk with e | hk
    · obtain ⟨rfl, rfl⟩ := Prod.mk.inj e
      refine ⟨12, ca_edition1 ht, fun xa => ?_⟩
      refine aw_astore (ls' := [.ref (ad 0), .long day, .retAddr 0, .ref u, .ref xa]) C dL_edition_12 (by decide) rfl (q := 14) rfl ?_
      refine aw_iconst (v := 1) C dL_edition_14 (by decide) (q := 15) rfl ?_
      exact aw_iret C E dL_edition_15 (by omega) (by omega) (jq_thr hu ua k1 (by decide) hP)
    rcases List.mem_cons.mp hk with e | hk
    · obtain ⟨rfl, rfl⟩ := Prod.mk.inj e
      refine ⟨16, ca_edition2 ht, fun xa => ?_⟩
      refine aw_astore (ls' := [.ref (ad 0), .long day, .retAddr 0, .ref u, .ref xa]) C dL_edition_16 (by decide) rfl (q := 18) rfl ?_
      refine aw_iconst (v := 2) C dL_edition_18 (by decide) (q := 19) rfl ?_
      exact aw_iret C E dL_edition_19 (by omega) (by omega) (jq_thr hu ua k1 (by decide) hP)
    cases hk
theorem w_board (J : gJ h ad o md n s) (hn : n < 1000) (a b t : Int32) (G : ac_G) (l : Launch) (hst : l.stackTraces = false) (d : Nat) : ac_MetW G l yL_board cL_board 5 (some .int) hL_board (d + 62) 1 6 [.ref (ad 0), .int a, .int b, .int t] h (jb ad h (jm yX9_board cX9_board 4 none tN [.ref o, .int a, .int b, .int t] ad o md n)) := by
  obtain ⟨Q, X, hM, hQ, hX⟩ := j_board J hn a b t
  obtain ⟨fs, h0⟩ := gJ_ob J
  refine ac_ofW (ls := [.ref (ad 0), .int a, .int b, .int t, .retAddr 0]) (by decide +kernel) rfl (Nat.le_of_ble_eq_true rfl) (fun M hl C B E hnm ht => ?_)
  subst hl
  refine aw_aload_n C dL_board_0 rfl rfl (q := 1) rfl ?_
  refine aw_iload_n C dL_board_1 rfl rfl (q := 2) rfl ?_
  refine aw_iload_n C dL_board_2 rfl rfl (q := 3) rfl ?_
  refine aw_iload_n C dL_board_3 rfl rfl (q := 4) rfl ?_
  refine cxL_board (As := [.int a, .int b, .int t]) (rest := []) C B dL_board_4 h0 (hM G M.2.1 d hst) rfl rfl (Nat.le_of_ble_eq_true rfl) (by omega) (by omega) (by omega) (q := 7) rfl (fun r h1 q1 => ?_) (fun E9 h1 q1 => ?_)
  · obtain ⟨k1, k2, k3⟩ := hQ r h1 q1
    cases k2
    show aw G 5 M 7 [.ref (ad 0), .int a, .int b, .int t, .retAddr 0] [] h1 (0 + 1) (0 + 6)
    refine aw_goto (q := 14) C dL_board_7 (by decide) ?_
    refine aw_iconst (v := 0) C dL_board_14 (by decide) (q := 15) rfl ?_
    exact aw_iret C E dL_board_15 (by omega) (by omega) ⟨0, rfl, k1, none, k3 h1 kpl_rf⟩
  · obtain ⟨k1, k, hk, hP⟩ := hX E9 h1 q1
    rcases List.mem_cons.mp hk with e | hk
    · obtain ⟨rfl, rfl⟩ := Prod.mk.inj e
      refine ⟨10, ca_board1 ht, fun xa => ?_⟩
      refine aw_astore (ls' := [.ref (ad 0), .int a, .int b, .int t, .ref xa]) C dL_board_10 (by decide) rfl (q := 12) rfl ?_
      refine aw_iconst (v := 1) C dL_board_12 (by decide) (q := 13) rfl ?_
      exact aw_iret C E dL_board_13 (by omega) (by omega) ⟨_, rfl, k1, none, hP⟩
    cases hk
theorem w_fault (J : gJ h ad o md n s) (hn : n < 1000) (fa ki a b ww hh : Int32) (u : Nat) {w0 : Nat → Int64} (hu : h u = some (.inl (2, 1, .inr (.inl w0)))) (ua : u ∉ (List.range 26).map ad) (G : ac_G) (l : Launch) (hst : l.stackTraces = false) (d : Nat) : ac_MetW G l yL_fault cL_fault 9 (some .int) hL_fault (d + 62) 1 6 [.ref (ad 0), .int fa, .int ki, .int a, .int b, .int ww, .int hh, .ref u] h (jq ad u h (jm yX9_fault cX9_fault 8 (some .int) tI [.ref o, .int fa, .int ki, .int a, .int b, .int ww, .int hh] ad o md n)) := by
  obtain ⟨Q, X, hM, hQ, hX⟩ := j_fault J hn fa ki a b ww hh
  obtain ⟨fs, h0⟩ := gJ_ob J
  refine ac_ofW (ls := [.ref (ad 0), .int fa, .int ki, .int a, .int b, .int ww, .int hh, .ref u, .retAddr 0]) (by decide +kernel) rfl (Nat.le_of_ble_eq_true rfl) (fun M hl C B E hnm ht => ?_)
  subst hl
  refine aw_aload C dL_fault_0 rfl (q := 2) rfl ?_
  refine aw_iconst (v := 0) C dL_fault_2 (by decide) (q := 3) rfl ?_
  refine aw_aload_n C dL_fault_3 rfl rfl (q := 4) rfl ?_
  refine aw_iload_n C dL_fault_4 rfl rfl (q := 5) rfl ?_
  refine aw_iload_n C dL_fault_5 rfl rfl (q := 6) rfl ?_
  refine aw_iload_n C dL_fault_6 rfl rfl (q := 7) rfl ?_
  refine aw_iload C dL_fault_7 rfl (q := 9) rfl ?_
  refine aw_iload C dL_fault_9 rfl (q := 11) rfl ?_
  refine aw_iload C dL_fault_11 rfl (q := 13) rfl ?_
  refine cxL_fault (As := [.int fa, .int ki, .int a, .int b, .int ww, .int hh]) (rest := [.int 0, .ref u]) C B dL_fault_13 h0 (hM G M.2.1 d hst) rfl rfl (Nat.le_of_ble_eq_true rfl) (by omega) (by omega) (by omega) (q := 16) rfl (fun r h1 q1 => ?_) (fun E9 h1 q1 => ?_)
  · obtain ⟨k1, ⟨v, k2⟩, k3⟩ := hQ r h1 q1
    subst k2
    show aw G 9 M 16 [.ref (ad 0), .int fa, .int ki, .int a, .int b, .int ww, .int hh, .ref u, .retAddr 0] [.int v, .int 0, .ref u] h1 (0 + 1) (0 + 6)
    refine aw_i2l C dL_fault_16 (q := 17) rfl ?_
    refine ay_last (N := 1) (j := 0) C dL_fault_17 (k1 u _ hu ua) vin0 (by decide) (q := 18) rfl ?_
    refine aw_goto (q := 33) C dL_fault_18 (by decide) ?_
    refine aw_iconst (v := 0) C dL_fault_33 (by decide) (q := 34) rfl ?_
    exact aw_iret C E dL_fault_34 (by omega) (by omega) (jq_ret hu ua k1 rfl k3)
  · obtain ⟨k1, k, hk, hP⟩ := hX E9 h1 q1
    rcases List.mem_cons.mp hk with e | hk
    · obtain ⟨rfl, rfl⟩ := Prod.mk.inj e
      refine ⟨21, ca_fault1 ht, fun xa => ?_⟩
      refine aw_astore (ls' := [.ref (ad 0), .int fa, .int ki, .int a, .int b, .int ww, .int hh, .ref u, .ref xa]) C dL_fault_21 (by decide) rfl (q := 23) rfl ?_
      refine aw_iconst (v := 1) C dL_fault_23 (by decide) (q := 24) rfl ?_
      exact aw_iret C E dL_fault_24 (by omega) (by omega) (jq_thr hu ua k1 (by decide) hP)
    rcases List.mem_cons.mp hk with e | hk
    · obtain ⟨rfl, rfl⟩ := Prod.mk.inj e
      refine ⟨25, ca_fault2 ht, fun xa => ?_⟩
      refine aw_astore (ls' := [.ref (ad 0), .int fa, .int ki, .int a, .int b, .int ww, .int hh, .ref u, .ref xa]) C dL_fault_25 (by decide) rfl (q := 27) rfl ?_
      refine aw_iconst (v := 2) C dL_fault_27 (by decide) (q := 28) rfl ?_
      exact aw_iret C E dL_fault_28 (by omega) (by omega) (jq_thr hu ua k1 (by decide) hP)
    rcases List.mem_cons.mp hk with e | hk
    · obtain ⟨rfl, rfl⟩ := Prod.mk.inj e
      refine ⟨29, ca_fault3 ht, fun xa => ?_⟩
      refine aw_astore (ls' := [.ref (ad 0), .int fa, .int ki, .int a, .int b, .int ww, .int hh, .ref u, .ref xa]) C dL_fault_29 (by decide) rfl (q := 31) rfl ?_
      refine aw_iconst (v := 3) C dL_fault_31 (by decide) (q := 32) rfl ?_
      exact aw_iret C E dL_fault_32 (by omega) (by omega) (jq_thr hu ua k1 (by decide) hP)
    cases hk
theorem w_face (J : gJ h ad o md n s) (k : Int32) (u : Nat) {w0 : Nat → Int64} (hu : h u = some (.inl (2, 1, .inr (.inl w0)))) (ua : u ∉ (List.range 26).map ad) (G : ac_G) (l : Launch) (hst : l.stackTraces = false) (d : Nat) : ac_MetW G l yL_face cL_face 4 (some .int) hL_face (d + 62) 1 6 [.ref (ad 0), .int k, .ref u] h (jq ad u h (jm yX9_face cX9_face 2 (some .int) tI [.ref o, .int k] ad o md n)) := by
  obtain ⟨Q, X, hM, hQ, hX⟩ := j_face J k
  obtain ⟨fs, h0⟩ := gJ_ob J
  refine ac_ofW (ls := [.ref (ad 0), .int k, .ref u, .retAddr 0]) (by decide +kernel) rfl (Nat.le_of_ble_eq_true rfl) (fun M hl C B E hnm ht => ?_)
  subst hl
  refine aw_aload_n C dL_face_0 rfl rfl (q := 1) rfl ?_
  refine aw_iconst (v := 0) C dL_face_1 (by decide) (q := 2) rfl ?_
  refine aw_aload_n C dL_face_2 rfl rfl (q := 3) rfl ?_
  refine aw_iload_n C dL_face_3 rfl rfl (q := 4) rfl ?_
  refine cxL_face (As := [.int k]) (rest := [.int 0, .ref u]) C B dL_face_4 h0 (hM G M.2.1 d hst) rfl rfl (Nat.le_of_ble_eq_true rfl) (by omega) (by omega) (by omega) (q := 7) rfl (fun r h1 q1 => ?_) (fun E9 h1 q1 => ?_)
  · obtain ⟨k1, ⟨v, k2⟩, k3⟩ := hQ r h1 q1
    subst k2
    show aw G 4 M 7 [.ref (ad 0), .int k, .ref u, .retAddr 0] [.int v, .int 0, .ref u] h1 (0 + 1) (0 + 6)
    refine aw_i2l C dL_face_7 (q := 8) rfl ?_
    refine ay_last (N := 1) (j := 0) C dL_face_8 (k1 u _ hu ua) vin0 (by decide) (q := 9) rfl ?_
    refine aw_goto (q := 15) C dL_face_9 (by decide) ?_
    refine aw_iconst (v := 0) C dL_face_15 (by decide) (q := 16) rfl ?_
    exact aw_iret C E dL_face_16 (by omega) (by omega) (jq_ret hu ua k1 rfl k3)
  · obtain ⟨k1, k, hk, hP⟩ := hX E9 h1 q1
    rcases List.mem_cons.mp hk with e | hk
    · obtain ⟨rfl, rfl⟩ := Prod.mk.inj e
      refine ⟨12, ca_face1 ht, fun xa => ?_⟩
      refine aw_astore_n (ls' := [.ref (ad 0), .int k, .ref u, .ref xa]) C dL_face_12 rfl (by decide) rfl (q := 13) rfl ?_
      refine aw_iconst (v := 1) C dL_face_13 (by decide) (q := 14) rfl ?_
      exact aw_iret C E dL_face_14 (by omega) (by omega) (jq_thr hu ua k1 (by decide) hP)
    cases hk
theorem w_run (J : gJ h ad o md n s) (day : Int64) (u : Nat) {w0 : Nat → Int64} (hu : h u = some (.inl (2, 1, .inr (.inl w0)))) (ua : u ∉ (List.range 26).map ad) (G : ac_G) (l : Launch) (hst : l.stackTraces = false) (d : Nat) : ac_MetW G l yL_run cL_run 5 (some .int) hL_run (d + 62) 1 6 [.ref (ad 0), .long day, .ref u] h (jq ad u h (jm yX9_run cX9_run 6 (some .int) tI [.ref o, .long day] ad o md n)) := by
  obtain ⟨Q, X, hM, hQ, hX⟩ := j_run J day
  obtain ⟨fs, h0⟩ := gJ_ob J
  refine ac_ofW (ls := [.ref (ad 0), .long day, .retAddr 0, .ref u, .retAddr 0]) (by decide +kernel) rfl (Nat.le_of_ble_eq_true rfl) (fun M hl C B E hnm ht => ?_)
  subst hl
  refine aw_aload_n C dL_run_0 rfl rfl (q := 1) rfl ?_
  refine aw_iconst (v := 0) C dL_run_1 (by decide) (q := 2) rfl ?_
  refine aw_aload_n C dL_run_2 rfl rfl (q := 3) rfl ?_
  refine aw_lload_n C dL_run_3 rfl rfl (q := 4) rfl ?_
  refine cxL_run (As := [.long day]) (rest := [.int 0, .ref u]) C B dL_run_4 h0 (hM G M.2.1 d hst) rfl rfl (Nat.le_of_ble_eq_true rfl) (by omega) (by omega) (by omega) (q := 7) rfl (fun r h1 q1 => ?_) (fun E9 h1 q1 => ?_)
  · obtain ⟨k1, ⟨v, k2⟩, k3⟩ := hQ r h1 q1
    subst k2
    show aw G 5 M 7 [.ref (ad 0), .long day, .retAddr 0, .ref u, .retAddr 0] [.int v, .int 0, .ref u] h1 (0 + 1) (0 + 6)
    refine aw_i2l C dL_run_7 (q := 8) rfl ?_
    refine ay_last (N := 1) (j := 0) C dL_run_8 (k1 u _ hu ua) vin0 (by decide) (q := 9) rfl ?_
    refine aw_goto (q := 16) C dL_run_9 (by decide) ?_
    refine aw_iconst (v := 0) C dL_run_16 (by decide) (q := 17) rfl ?_
    exact aw_iret C E dL_run_17 (by omega) (by omega) (jq_ret hu ua k1 rfl k3)
  · obtain ⟨k1, k, hk, hP⟩ := hX E9 h1 q1
    rcases List.mem_cons.mp hk with e | hk
    · obtain ⟨rfl, rfl⟩ := Prod.mk.inj e
      refine ⟨12, ca_run1 ht, fun xa => ?_⟩
      refine aw_astore (ls' := [.ref (ad 0), .long day, .retAddr 0, .ref u, .ref xa]) C dL_run_12 (by decide) rfl (q := 14) rfl ?_
      refine aw_iconst (v := 1) C dL_run_14 (by decide) (q := 15) rfl ?_
      exact aw_iret C E dL_run_15 (by omega) (by omega) (jq_thr hu ua k1 (by decide) hP)
    cases hk
theorem w_walk (J : gJ h ad o md n s) (day : Int64) (u : Nat) {w0 : Nat → Int64} (hu : h u = some (.inl (2, 1, .inr (.inl w0)))) (ua : u ∉ (List.range 26).map ad) (G : ac_G) (l : Launch) (hst : l.stackTraces = false) (d : Nat) : ac_MetW G l yL_walk cL_walk 5 (some .int) hL_walk (d + 62) 1 6 [.ref (ad 0), .long day, .ref u] h (jq ad u h (jm yX9_walk cX9_walk 3 (some .int) tI [.ref o, .long day] ad o md n)) := by
  obtain ⟨Q, X, hM, hQ, hX⟩ := j_walk J day
  obtain ⟨fs, h0⟩ := gJ_ob J
  refine ac_ofW (ls := [.ref (ad 0), .long day, .retAddr 0, .ref u, .retAddr 0]) (by decide +kernel) rfl (Nat.le_of_ble_eq_true rfl) (fun M hl C B E hnm ht => ?_)
  subst hl
  refine aw_aload_n C dL_walk_0 rfl rfl (q := 1) rfl ?_
  refine aw_iconst (v := 0) C dL_walk_1 (by decide) (q := 2) rfl ?_
  refine aw_aload_n C dL_walk_2 rfl rfl (q := 3) rfl ?_
  refine aw_lload_n C dL_walk_3 rfl rfl (q := 4) rfl ?_
  refine cxL_walk (As := [.long day]) (rest := [.int 0, .ref u]) C B dL_walk_4 h0 (hM G M.2.1 d hst) rfl rfl (Nat.le_of_ble_eq_true rfl) (by omega) (by omega) (by omega) (q := 7) rfl (fun r h1 q1 => ?_) (fun E9 h1 q1 => ?_)
  · obtain ⟨k1, ⟨v, k2⟩, k3⟩ := hQ r h1 q1
    subst k2
    show aw G 5 M 7 [.ref (ad 0), .long day, .retAddr 0, .ref u, .retAddr 0] [.int v, .int 0, .ref u] h1 (0 + 1) (0 + 6)
    refine aw_i2l C dL_walk_7 (q := 8) rfl ?_
    refine ay_last (N := 1) (j := 0) C dL_walk_8 (k1 u _ hu ua) vin0 (by decide) (q := 9) rfl ?_
    refine aw_goto (q := 16) C dL_walk_9 (by decide) ?_
    refine aw_iconst (v := 0) C dL_walk_16 (by decide) (q := 17) rfl ?_
    exact aw_iret C E dL_walk_17 (by omega) (by omega) (jq_ret hu ua k1 rfl k3)
  · obtain ⟨k1, k, hk, hP⟩ := hX E9 h1 q1
    rcases List.mem_cons.mp hk with e | hk
    · obtain ⟨rfl, rfl⟩ := Prod.mk.inj e
      refine ⟨12, ca_walk1 ht, fun xa => ?_⟩
      refine aw_astore (ls' := [.ref (ad 0), .long day, .retAddr 0, .ref u, .ref xa]) C dL_walk_12 (by decide) rfl (q := 14) rfl ?_
      refine aw_iconst (v := 1) C dL_walk_14 (by decide) (q := 15) rfl ?_
      exact aw_iret C E dL_walk_15 (by omega) (by omega) (jq_thr hu ua k1 (by decide) hP)
    cases hk
theorem w_why (J : gJ h ad o md n s) (g k : Int32) (u : Nat) {w0 : Nat → Int64} (hu : h u = some (.inl (2, 1, .inr (.inl w0)))) (ua : u ∉ (List.range 26).map ad) (G : ac_G) (l : Launch) (hst : l.stackTraces = false) (d : Nat) : ac_MetW G l yL_why cL_why 5 (some .int) hL_why (d + 62) 1 6 [.ref (ad 0), .int g, .int k, .ref u] h (jq ad u h (jm yX9_why cX9_why 5 (some .int) tI [.ref o, .int g, .int k] ad o md n)) := by
  obtain ⟨Q, X, hM, hQ, hX⟩ := j_why J g k
  obtain ⟨fs, h0⟩ := gJ_ob J
  refine ac_ofW (ls := [.ref (ad 0), .int g, .int k, .ref u, .retAddr 0]) (by decide +kernel) rfl (Nat.le_of_ble_eq_true rfl) (fun M hl C B E hnm ht => ?_)
  subst hl
  refine aw_aload_n C dL_why_0 rfl rfl (q := 1) rfl ?_
  refine aw_iconst (v := 0) C dL_why_1 (by decide) (q := 2) rfl ?_
  refine aw_aload_n C dL_why_2 rfl rfl (q := 3) rfl ?_
  refine aw_iload_n C dL_why_3 rfl rfl (q := 4) rfl ?_
  refine aw_iload_n C dL_why_4 rfl rfl (q := 5) rfl ?_
  refine cxL_why (As := [.int g, .int k]) (rest := [.int 0, .ref u]) C B dL_why_5 h0 (hM G M.2.1 d hst) rfl rfl (Nat.le_of_ble_eq_true rfl) (by omega) (by omega) (by omega) (q := 8) rfl (fun r h1 q1 => ?_) (fun E9 h1 q1 => ?_)
  · obtain ⟨k1, ⟨v, k2⟩, k3⟩ := hQ r h1 q1
    subst k2
    show aw G 5 M 8 [.ref (ad 0), .int g, .int k, .ref u, .retAddr 0] [.int v, .int 0, .ref u] h1 (0 + 1) (0 + 6)
    refine aw_i2l C dL_why_8 (q := 9) rfl ?_
    refine ay_last (N := 1) (j := 0) C dL_why_9 (k1 u _ hu ua) vin0 (by decide) (q := 10) rfl ?_
    refine aw_goto (q := 21) C dL_why_10 (by decide) ?_
    refine aw_iconst (v := 0) C dL_why_21 (by decide) (q := 22) rfl ?_
    exact aw_iret C E dL_why_22 (by omega) (by omega) (jq_ret hu ua k1 rfl k3)
  · obtain ⟨k1, k, hk, hP⟩ := hX E9 h1 q1
    rcases List.mem_cons.mp hk with e | hk
    · obtain ⟨rfl, rfl⟩ := Prod.mk.inj e
      refine ⟨13, ca_why1 ht, fun xa => ?_⟩
      refine aw_astore (ls' := [.ref (ad 0), .int g, .int k, .ref u, .ref xa]) C dL_why_13 (by decide) rfl (q := 15) rfl ?_
      refine aw_iconst (v := 1) C dL_why_15 (by decide) (q := 16) rfl ?_
      exact aw_iret C E dL_why_16 (by omega) (by omega) (jq_thr hu ua k1 (by decide) hP)
    rcases List.mem_cons.mp hk with e | hk
    · obtain ⟨rfl, rfl⟩ := Prod.mk.inj e
      refine ⟨17, ca_why2 ht, fun xa => ?_⟩
      refine aw_astore (ls' := [.ref (ad 0), .int g, .int k, .ref u, .ref xa]) C dL_why_17 (by decide) rfl (q := 19) rfl ?_
      refine aw_iconst (v := 2) C dL_why_19 (by decide) (q := 20) rfl ?_
      exact aw_iret C E dL_why_20 (by omega) (by omega) (jq_thr hu ua k1 (by decide) hP)
    cases hk
theorem w_open (J : gJ h ad o md n s) (k wh : Int32) (u : Nat) {w0 : Nat → Int64} (hu : h u = some (.inl (2, 1, .inr (.inl w0)))) (ua : u ∉ (List.range 26).map ad) (G : ac_G) (l : Launch) (hst : l.stackTraces = false) (d : Nat) : ac_MetW G l yL_open cL_open 5 (some .int) hL_open (d + 62) 1 6 [.ref (ad 0), .int k, .int wh, .ref u] h (jq ad u h (jm yX9_open cX9_open 3 (some .int) tI [.ref o, .int k, .int wh] ad o md n)) := by
  obtain ⟨Q, X, hM, hQ, hX⟩ := j_open J k wh
  obtain ⟨fs, h0⟩ := gJ_ob J
  refine ac_ofW (ls := [.ref (ad 0), .int k, .int wh, .ref u, .retAddr 0]) (by decide +kernel) rfl (Nat.le_of_ble_eq_true rfl) (fun M hl C B E hnm ht => ?_)
  subst hl
  refine aw_aload_n C dL_open_0 rfl rfl (q := 1) rfl ?_
  refine aw_iconst (v := 0) C dL_open_1 (by decide) (q := 2) rfl ?_
  refine aw_aload_n C dL_open_2 rfl rfl (q := 3) rfl ?_
  refine aw_iload_n C dL_open_3 rfl rfl (q := 4) rfl ?_
  refine aw_iload_n C dL_open_4 rfl rfl (q := 5) rfl ?_
  refine cxL_open (As := [.int k, .int wh]) (rest := [.int 0, .ref u]) C B dL_open_5 h0 (hM G M.2.1 d hst) rfl rfl (Nat.le_of_ble_eq_true rfl) (by omega) (by omega) (by omega) (q := 8) rfl (fun r h1 q1 => ?_) (fun E9 h1 q1 => ?_)
  · obtain ⟨k1, ⟨v, k2⟩, k3⟩ := hQ r h1 q1
    subst k2
    show aw G 5 M 8 [.ref (ad 0), .int k, .int wh, .ref u, .retAddr 0] [.int v, .int 0, .ref u] h1 (0 + 1) (0 + 6)
    refine aw_i2l C dL_open_8 (q := 9) rfl ?_
    refine ay_last (N := 1) (j := 0) C dL_open_9 (k1 u _ hu ua) vin0 (by decide) (q := 10) rfl ?_
    refine aw_goto (q := 21) C dL_open_10 (by decide) ?_
    refine aw_iconst (v := 0) C dL_open_21 (by decide) (q := 22) rfl ?_
    exact aw_iret C E dL_open_22 (by omega) (by omega) (jq_ret hu ua k1 rfl k3)
  · obtain ⟨k1, k, hk, hP⟩ := hX E9 h1 q1
    rcases List.mem_cons.mp hk with e | hk
    · obtain ⟨rfl, rfl⟩ := Prod.mk.inj e
      refine ⟨13, ca_open1 ht, fun xa => ?_⟩
      refine aw_astore (ls' := [.ref (ad 0), .int k, .int wh, .ref u, .ref xa]) C dL_open_13 (by decide) rfl (q := 15) rfl ?_
      refine aw_iconst (v := 1) C dL_open_15 (by decide) (q := 16) rfl ?_
      exact aw_iret C E dL_open_16 (by omega) (by omega) (jq_thr hu ua k1 (by decide) hP)
    rcases List.mem_cons.mp hk with e | hk
    · obtain ⟨rfl, rfl⟩ := Prod.mk.inj e
      refine ⟨17, ca_open2 ht, fun xa => ?_⟩
      refine aw_astore (ls' := [.ref (ad 0), .int k, .int wh, .ref u, .ref xa]) C dL_open_17 (by decide) rfl (q := 19) rfl ?_
      refine aw_iconst (v := 2) C dL_open_19 (by decide) (q := 20) rfl ?_
      exact aw_iret C E dL_open_20 (by omega) (by omega) (jq_thr hu ua k1 (by decide) hP)
    cases hk
theorem w_worst (J : gJ h ad o md n s) (k m q : Int32) (u : Nat) {w0 : Nat → Int64} (hu : h u = some (.inl (2, 1, .inr (.inl w0)))) (ua : u ∉ (List.range 26).map ad) (G : ac_G) (l : Launch) (hst : l.stackTraces = false) (d : Nat) : ac_MetW G l yL_worst cL_worst 6 (some .int) hL_worst (d + 62) 1 6 [.ref (ad 0), .int k, .int m, .int q, .ref u] h (jq ad u h (jm yX9_worst cX9_worst 4 (some .long) tL [.ref o, .int k, .int m, .int q] ad o md n)) := by
  obtain ⟨Q, X, hM, hQ, hX⟩ := j_worst J k m q
  obtain ⟨fs, h0⟩ := gJ_ob J
  refine ac_ofW (ls := [.ref (ad 0), .int k, .int m, .int q, .ref u, .retAddr 0]) (by decide +kernel) rfl (Nat.le_of_ble_eq_true rfl) (fun M hl C B E hnm ht => ?_)
  subst hl
  refine aw_aload C dL_worst_0 rfl (q := 2) rfl ?_
  refine aw_iconst (v := 0) C dL_worst_2 (by decide) (q := 3) rfl ?_
  refine aw_aload_n C dL_worst_3 rfl rfl (q := 4) rfl ?_
  refine aw_iload_n C dL_worst_4 rfl rfl (q := 5) rfl ?_
  refine aw_iload_n C dL_worst_5 rfl rfl (q := 6) rfl ?_
  refine aw_iload_n C dL_worst_6 rfl rfl (q := 7) rfl ?_
  refine cxL_worst (As := [.int k, .int m, .int q]) (rest := [.int 0, .ref u]) C B dL_worst_7 h0 (hM G M.2.1 d hst) rfl rfl (Nat.le_of_ble_eq_true rfl) (by omega) (by omega) (by omega) (q := 10) rfl (fun r h1 q1 => ?_) (fun E9 h1 q1 => ?_)
  · obtain ⟨k1, ⟨v, k2⟩, k3⟩ := hQ r h1 q1
    subst k2
    show aw G 6 M 10 [.ref (ad 0), .int k, .int m, .int q, .ref u, .retAddr 0] [.long v, .int 0, .ref u] h1 (0 + 1) (0 + 6)
    refine ay_last (N := 1) (j := 0) C dL_worst_10 (k1 u _ hu ua) vin0 (by decide) (q := 11) rfl ?_
    refine aw_goto (q := 18) C dL_worst_11 (by decide) ?_
    refine aw_iconst (v := 0) C dL_worst_18 (by decide) (q := 19) rfl ?_
    exact aw_iret C E dL_worst_19 (by omega) (by omega) (jq_ret hu ua k1 rfl k3)
  · obtain ⟨k1, k, hk, hP⟩ := hX E9 h1 q1
    rcases List.mem_cons.mp hk with e | hk
    · obtain ⟨rfl, rfl⟩ := Prod.mk.inj e
      refine ⟨14, ca_worst1 ht, fun xa => ?_⟩
      refine aw_astore (ls' := [.ref (ad 0), .int k, .int m, .int q, .ref u, .ref xa]) C dL_worst_14 (by decide) rfl (q := 16) rfl ?_
      refine aw_iconst (v := 1) C dL_worst_16 (by decide) (q := 17) rfl ?_
      exact aw_iret C E dL_worst_17 (by omega) (by omega) (jq_thr hu ua k1 (by decide) hP)
    cases hk
theorem w_raise (J : gJ h ad o md n s) (g k : Int32) (u : Nat) {w0 : Nat → Int64} (hu : h u = some (.inl (2, 1, .inr (.inl w0)))) (ua : u ∉ (List.range 26).map ad) (G : ac_G) (l : Launch) (hst : l.stackTraces = false) (d : Nat) : ac_MetW G l yL_raise cL_raise 5 (some .int) hL_raise (d + 62) 1 6 [.ref (ad 0), .int g, .int k, .ref u] h (jq ad u h (jm yX9_raise cX9_raise 6 (some .int) tI [.ref o, .int g, .int k] ad o md n)) := by
  obtain ⟨Q, X, hM, hQ, hX⟩ := j_raise J g k
  obtain ⟨fs, h0⟩ := gJ_ob J
  refine ac_ofW (ls := [.ref (ad 0), .int g, .int k, .ref u, .retAddr 0]) (by decide +kernel) rfl (Nat.le_of_ble_eq_true rfl) (fun M hl C B E hnm ht => ?_)
  subst hl
  refine aw_aload_n C dL_raise_0 rfl rfl (q := 1) rfl ?_
  refine aw_iconst (v := 0) C dL_raise_1 (by decide) (q := 2) rfl ?_
  refine aw_aload_n C dL_raise_2 rfl rfl (q := 3) rfl ?_
  refine aw_iload_n C dL_raise_3 rfl rfl (q := 4) rfl ?_
  refine aw_iload_n C dL_raise_4 rfl rfl (q := 5) rfl ?_
  refine cxL_raise (As := [.int g, .int k]) (rest := [.int 0, .ref u]) C B dL_raise_5 h0 (hM G M.2.1 d hst) rfl rfl (Nat.le_of_ble_eq_true rfl) (by omega) (by omega) (by omega) (q := 8) rfl (fun r h1 q1 => ?_) (fun E9 h1 q1 => ?_)
  · obtain ⟨k1, ⟨v, k2⟩, k3⟩ := hQ r h1 q1
    subst k2
    show aw G 5 M 8 [.ref (ad 0), .int g, .int k, .ref u, .retAddr 0] [.int v, .int 0, .ref u] h1 (0 + 1) (0 + 6)
    refine aw_i2l C dL_raise_8 (q := 9) rfl ?_
    refine ay_last (N := 1) (j := 0) C dL_raise_9 (k1 u _ hu ua) vin0 (by decide) (q := 10) rfl ?_
    refine aw_goto (q := 21) C dL_raise_10 (by decide) ?_
    refine aw_iconst (v := 0) C dL_raise_21 (by decide) (q := 22) rfl ?_
    exact aw_iret C E dL_raise_22 (by omega) (by omega) (jq_ret hu ua k1 rfl k3)
  · obtain ⟨k1, k, hk, hP⟩ := hX E9 h1 q1
    rcases List.mem_cons.mp hk with e | hk
    · obtain ⟨rfl, rfl⟩ := Prod.mk.inj e
      refine ⟨13, ca_raise1 ht, fun xa => ?_⟩
      refine aw_astore (ls' := [.ref (ad 0), .int g, .int k, .ref u, .ref xa]) C dL_raise_13 (by decide) rfl (q := 15) rfl ?_
      refine aw_iconst (v := 1) C dL_raise_15 (by decide) (q := 16) rfl ?_
      exact aw_iret C E dL_raise_16 (by omega) (by omega) (jq_thr hu ua k1 (by decide) hP)
    rcases List.mem_cons.mp hk with e | hk
    · obtain ⟨rfl, rfl⟩ := Prod.mk.inj e
      refine ⟨17, ca_raise2 ht, fun xa => ?_⟩
      refine aw_astore (ls' := [.ref (ad 0), .int g, .int k, .ref u, .ref xa]) C dL_raise_17 (by decide) rfl (q := 19) rfl ?_
      refine aw_iconst (v := 2) C dL_raise_19 (by decide) (q := 20) rfl ?_
      exact aw_iret C E dL_raise_20 (by omega) (by omega) (jq_thr hu ua k1 (by decide) hP)
    cases hk
theorem w_counted (J : gJ h ad o md n s) (g : Int32) (u : Nat) {w0 : Nat → Int64} (hu : h u = some (.inl (2, 1, .inr (.inl w0)))) (ua : u ∉ (List.range 26).map ad) (G : ac_G) (l : Launch) (hst : l.stackTraces = false) (d : Nat) : ac_MetW G l yL_counted cL_counted 4 (some .int) hL_counted (d + 62) 1 6 [.ref (ad 0), .int g, .ref u] h (jq ad u h (jm yX9_counted cX9_counted 2 (some .long) tL [.ref o, .int g] ad o md n)) := by
  obtain ⟨Q, X, hM, hQ, hX⟩ := j_counted J g
  obtain ⟨fs, h0⟩ := gJ_ob J
  refine ac_ofW (ls := [.ref (ad 0), .int g, .ref u, .retAddr 0]) (by decide +kernel) rfl (Nat.le_of_ble_eq_true rfl) (fun M hl C B E hnm ht => ?_)
  subst hl
  refine aw_aload_n C dL_counted_0 rfl rfl (q := 1) rfl ?_
  refine aw_iconst (v := 0) C dL_counted_1 (by decide) (q := 2) rfl ?_
  refine aw_aload_n C dL_counted_2 rfl rfl (q := 3) rfl ?_
  refine aw_iload_n C dL_counted_3 rfl rfl (q := 4) rfl ?_
  refine cxL_counted (As := [.int g]) (rest := [.int 0, .ref u]) C B dL_counted_4 h0 (hM G M.2.1 d hst) rfl rfl (Nat.le_of_ble_eq_true rfl) (by omega) (by omega) (by omega) (q := 7) rfl (fun r h1 q1 => ?_) (fun E9 h1 q1 => ?_)
  · obtain ⟨k1, ⟨v, k2⟩, k3⟩ := hQ r h1 q1
    subst k2
    show aw G 4 M 7 [.ref (ad 0), .int g, .ref u, .retAddr 0] [.long v, .int 0, .ref u] h1 (0 + 1) (0 + 6)
    refine ay_last (N := 1) (j := 0) C dL_counted_7 (k1 u _ hu ua) vin0 (by decide) (q := 8) rfl ?_
    refine aw_goto (q := 14) C dL_counted_8 (by decide) ?_
    refine aw_iconst (v := 0) C dL_counted_14 (by decide) (q := 15) rfl ?_
    exact aw_iret C E dL_counted_15 (by omega) (by omega) (jq_ret hu ua k1 rfl k3)
  · obtain ⟨k1, k, hk, hP⟩ := hX E9 h1 q1
    rcases List.mem_cons.mp hk with e | hk
    · obtain ⟨rfl, rfl⟩ := Prod.mk.inj e
      refine ⟨11, ca_counted1 ht, fun xa => ?_⟩
      refine aw_astore_n (ls' := [.ref (ad 0), .int g, .ref u, .ref xa]) C dL_counted_11 rfl (by decide) rfl (q := 12) rfl ?_
      refine aw_iconst (v := 1) C dL_counted_12 (by decide) (q := 13) rfl ?_
      exact aw_iret C E dL_counted_13 (by omega) (by omega) (jq_thr hu ua k1 (by decide) hP)
    cases hk
theorem w_machine (J : gJ h ad o md n s) (g y : Int32) (u : Nat) {w0 : Nat → Int64} (hu : h u = some (.inl (2, 1, .inr (.inl w0)))) (ua : u ∉ (List.range 26).map ad) (G : ac_G) (l : Launch) (hst : l.stackTraces = false) (d : Nat) : ac_MetW G l yL_machine cL_machine 5 (some .int) hL_machine (d + 62) 1 6 [.ref (ad 0), .int g, .int y, .ref u] h (jq ad u h (jm yX9_machine cX9_machine 3 (some .int) tI [.ref o, .int g, .int y] ad o md n)) := by
  obtain ⟨Q, X, hM, hQ, hX⟩ := j_machine J g y
  obtain ⟨fs, h0⟩ := gJ_ob J
  refine ac_ofW (ls := [.ref (ad 0), .int g, .int y, .ref u, .retAddr 0]) (by decide +kernel) rfl (Nat.le_of_ble_eq_true rfl) (fun M hl C B E hnm ht => ?_)
  subst hl
  refine aw_aload_n C dL_machine_0 rfl rfl (q := 1) rfl ?_
  refine aw_iconst (v := 0) C dL_machine_1 (by decide) (q := 2) rfl ?_
  refine aw_aload_n C dL_machine_2 rfl rfl (q := 3) rfl ?_
  refine aw_iload_n C dL_machine_3 rfl rfl (q := 4) rfl ?_
  refine aw_iload_n C dL_machine_4 rfl rfl (q := 5) rfl ?_
  refine cxL_machine (As := [.int g, .int y]) (rest := [.int 0, .ref u]) C B dL_machine_5 h0 (hM G M.2.1 d hst) rfl rfl (Nat.le_of_ble_eq_true rfl) (by omega) (by omega) (by omega) (q := 8) rfl (fun r h1 q1 => ?_) (fun E9 h1 q1 => ?_)
  · obtain ⟨k1, ⟨v, k2⟩, k3⟩ := hQ r h1 q1
    subst k2
    show aw G 5 M 8 [.ref (ad 0), .int g, .int y, .ref u, .retAddr 0] [.int v, .int 0, .ref u] h1 (0 + 1) (0 + 6)
    refine aw_i2l C dL_machine_8 (q := 9) rfl ?_
    refine ay_last (N := 1) (j := 0) C dL_machine_9 (k1 u _ hu ua) vin0 (by decide) (q := 10) rfl ?_
    refine aw_goto (q := 17) C dL_machine_10 (by decide) ?_
    refine aw_iconst (v := 0) C dL_machine_17 (by decide) (q := 18) rfl ?_
    exact aw_iret C E dL_machine_18 (by omega) (by omega) (jq_ret hu ua k1 rfl k3)
  · obtain ⟨k1, k, hk, hP⟩ := hX E9 h1 q1
    rcases List.mem_cons.mp hk with e | hk
    · obtain ⟨rfl, rfl⟩ := Prod.mk.inj e
      refine ⟨13, ca_machine1 ht, fun xa => ?_⟩
      refine aw_astore (ls' := [.ref (ad 0), .int g, .int y, .ref u, .ref xa]) C dL_machine_13 (by decide) rfl (q := 15) rfl ?_
      refine aw_iconst (v := 1) C dL_machine_15 (by decide) (q := 16) rfl ?_
      exact aw_iret C E dL_machine_16 (by omega) (by omega) (jq_thr hu ua k1 (by decide) hP)
    cases hk
end
