/-! THE LIFTED KIT. One heap for all our cells, a function from addresses; locals by place; one list of words for all methods. -/
/-- a cell: an array by its type's number, or an object by its class's number in vwCl -/
abbrev ac_E : Type := (Nat × vp_A) ⊕ (Nat × List Value)
abbrev ac_H : Type := Nat → Option ac_E
/-- what is fixed for a whole run: class ids and slots; array class ids by type number; the floor of our addresses; where the constant texts lie -/
abbrev ac_G : Type := va_G × (Nat → ClassId) × Nat × (Nat → Nat)
def ac_x (dA : Nat → ClassId) (e : ac_E) : va_E := match e with
  | .inl y => .inl (dA y.1, y.2)
  | .inr o => .inr o
def ac_A (G : ac_G) : Nat → Prop := fun q => G.2.2.1 ≤ q
def ac_g (G : ac_G) (h : ac_H) (ws : va_W) : Prop := ∀ (a : Nat) (e : ac_E), h a = some e → ∃ k : Nat, ws[k]? = some (a, ac_x G.2.1 e)
/-- the machine's heap holds ours -/
def ac_R (G : ac_G) (h : ac_H) (H : Heap) : Prop := ∃ ws : va_W, va_P G.1 vwCl ws H ∧ va_D (ac_A G) ws ∧ ac_g G h ws
def ac_T (dA : Nat → ClassId) : List (ClassId × FieldType) := [(dA 0, .char), (dA 1, .int), (dA 2, .long), (dA 3, .boolean), (dA 4, .object RX6)]
def ac_up (h : ac_H) (a : Nat) (e : ac_E) : ac_H := fun b => if b = a then some e else h b
theorem ac_up_s (h : ac_H) (a : Nat) (e : ac_E) : ac_up h a e a = some e := if_pos rfl
theorem ac_up_n (h : ac_H) {a b : Nat} (e : ac_E) (hb : b ≠ a) : ac_up h a e b = h b := if_neg hb
theorem ac_up_up (h : ac_H) (a : Nat) (e e' : ac_E) : ac_up (ac_up h a e) a e' = ac_up h a e' := by
  funext b
  unfold ac_up
  split <;> rfl
theorem ac_up_id {h : ac_H} {a : Nat} {e : ac_E} (ha : h a = some e) : ac_up h a e = h := by
  funext b
  unfold ac_up
  split
  · rename_i hb; rw [hb, ha]
  · rfl
theorem ac_g.set {G : ac_G} {h : ac_H} {ws : va_W} {A : Nat → Prop} {k a : Nat} {e0 : va_E} {e : ac_E} (hg : ac_g G h ws) (hD : va_D A ws) (hk : ws[k]? = some (a, e0)) : ac_g G (ac_up h a e) (ws.set k (a, ac_x G.2.1 e)) := by
  have hl := (List.getElem?_eq_some_iff.mp hk).1
  intro b e1 hb
  unfold ac_up at hb
  split at hb
  · rename_i hba
    cases hb
    rw [hba]
    exact ⟨k, List.getElem?_set_self hl⟩
  · rename_i hba
    obtain ⟨j, hj⟩ := hg b e1 hb
    refine ⟨j, ?_⟩
    have hne : k ≠ j := fun z => by
      rw [z] at hk
      cases Option.some.inj (hk.symm.trans hj)
      exact hba rfl
    rw [List.getElem?_set_ne hne]
    exact hj
theorem ac_g.push {G : ac_G} {h : ac_H} {ws : va_W} {a : Nat} {e : ac_E} (hg : ac_g G h ws) : ac_g G (ac_up h a e) (ws ++ [(a, ac_x G.2.1 e)]) := by
  intro b e1 hb
  unfold ac_up at hb
  split at hb
  · rename_i hba
    cases hb
    rw [hba]
    exact ⟨ws.length, by simp⟩
  · obtain ⟨j, hj⟩ := hg b e1 hb
    exact ⟨j, by rw [List.getElem?_append_left (List.getElem?_eq_some_iff.mp hj).1]; exact hj⟩
theorem ac_g.fresh {G : ac_G} {h : ac_H} {ws : va_W} {A : Nat → Prop} {a : Nat} {e0 : va_E} (hg : ac_g G h ws) (hD : va_D A (ws ++ [(a, e0)])) : h a = none := by
  cases hh : h a with
  | none => rfl
  | some e =>
    obtain ⟨j, hj⟩ := hg a e hh
    have hl := (List.getElem?_eq_some_iff.mp hj).1
    have h1 : (ws ++ [(a, e0)])[j]? = some (a, ac_x G.2.1 e) := by rw [List.getElem?_append_left hl]; exact hj
    have h2 : (ws ++ [(a, e0)])[ws.length]? = some (a, e0) := by simp
    have := hD.1 j ws.length _ _ h1 h2 rfl
    omega
theorem ac_R.ne {G : ac_G} {h : ac_H} {H : Heap} (hR : ac_R G h H) {a : Nat} {e : ac_E} (ha : h a = some e) : a < H.size := by
  obtain ⟨ws, hP, -, hg⟩ := hR
  obtain ⟨k, hk⟩ := hg a e ha
  exact (hP k _ hk).lt
/-- the words of the nest, the constant texts, the pairs that aren't castable: what a method can't carry in its list of words -/
def ac_nest : List Cond := tables_1.filter (fun w => match w with | .methodLinkNest _ _ _ _ => true | .castable _ _ => true | .declares _ => true | _ => false)
def ac_strs : List (String × Nat × String) := tables_1.filterMap (fun w => match w with | .stringRef a i t => some (a, i, t) | _ => none)
def ac_nc : List (String × String) := (flatC narrow_1).filterMap (fun w => match w with | .not (.castable a b) => some (a, b) | _ => none)
/-- what holds of every state in which one of our methods begins -/
def ac_U (G : ac_G) (U : State) : Prop := va_K G.1 vwCl (ac_T G.2.1) U ∧ G.2.2.1 ≤ U.heap.size ∧ (∀ w ∈ ac_nest, va_Nw w U) ∧ (∀ q ∈ ac_strs, vk_R q.1 q.2.1 q.2.2 (G.2.2.2 q.2.1) U) ∧ (∀ q ∈ ac_nc, va_Nc q.1 q.2 U) ∧
  vx_Zq Bundle.tN "UNASSIGNED_STACK" Bundle.steD (ac_A G) U U.heap ∧ vx_Zq Bundle.tN "SUPPRESSED_SENTINEL" Bundle.listD (ac_A G) U U.heap ∧ va_AO RX6 U
theorem ac_nest_is {w : Cond} (h : w ∈ ac_nest) : (∃ a i x n, w = .methodLinkNest a i x n) ∨ (∃ a b, w = .castable a b) ∨ ∃ x, w = .declares x := by
  have h1 := (List.mem_filter.mp h).2
  cases w <;> first | exact Or.inl ⟨_, _, _, _, rfl⟩ | exact Or.inr (Or.inl ⟨_, _, rfl⟩) | exact Or.inr (Or.inr ⟨_, rfl⟩) | exact absurd h1 Bool.false_ne_true
theorem ac_U.go {G : ac_G} {s U : State} {H : Heap} {locs : List Loc} (h : ac_U G s) (hS : va_S (ac_A G) s.heap H locs) (hU : U.heap = H) (hW : s.WarmedH U.vm) : ac_U G U := by
  obtain ⟨h1, h2, h3, h4, h5, h6, h7, h8⟩ := h
  refine ⟨va_K.moved hW.alike h1, by rw [hU]; exact Nat.le_trans h2 hS.1, fun w hw => ?_, fun q hq => vk_R.warm hW (h4 q hq), fun q hq => va_Nc.moved hW.alike (h5 q hq), ?_, ?_, va_AO.moved hW.alike h8⟩
  · rcases ac_nest_is hw with ⟨a, i, x, n, rfl⟩ | ⟨a, b, rfl⟩ | ⟨x, rfl⟩
    · exact va_Nw.warmM hW (h3 _ hw)
    · exact va_Nw.warmC hW (h3 _ hw)
    · exact va_Nw.warmD hW (h3 _ hw)
  · rw [hU]; exact vx_Zq.moved hW.alike (h6.kept hS.2.1)
  · rw [hU]; exact vx_Zq.moved hW.alike (h7.kept hS.2.1)
theorem ac_U.calling {G : ac_G} {U : State} (g : JFrame) (mk : MethodId) (a : Array Value) (h : ac_U G U) : ac_U G (U.calling g mk a) :=
  h.go (s := U) (H := U.heap) (locs := []) va_S.rf rfl (State.WarmedH.refl U)
/-- the words that every method carries -/
def ac_ws : List Cond := lw_tbl.filter goodWord
theorem ac_ws_in {w : Cond} (i : Nat) (h : lw_tbl[i]? = some w) (hg : goodWord w = true) : w ∈ ac_ws := List.mem_filter.mpr ⟨List.mem_of_getElem? h, hg⟩
theorem ac_ws_good : ∀ w ∈ ac_ws, (w.onTables && w.keeps) = true ∨ ∃ ty, w = .arrayClass ty := fun w h => good_of_word (List.mem_filter.mp h).2
/-- what a body knows of its machine -/
def ac_C (G : ac_G) (own : String) (cc : ByteArray) (nL : Nat) (ret : Option FieldType) (p : Program) (s : State) (m : MethodId) (args : Array Value) (meth : Method) (c : Code) : Prop :=
  p.tables.exec = Jvm.exec ∧ c.code = cc ∧ c.maxLocals = nL ∧ s.vm.findClass own = some m.cls ∧ (∀ w ∈ ac_ws, w.before args s = true) ∧ ac_U G s ∧ meth.locks = false ∧ meth.sig.returnType = ret
/-- locals by place; a place that holds nothing is .retAddr 0 -/
def ac_al : Nat → List Value → List (Nat × Value)
  | _, [] => []
  | i, v :: t => match v with
    | .retAddr _ => ac_al (i + 1) t
    | w => (i, w) :: ac_al (i + 1) t
def ac_live (v : Value) : Prop := ∀ x, v ≠ .retAddr x
theorem ac_al_in : ∀ (ls : List Value) (k : Nat) (q : Nat × Value), q ∈ ac_al k ls ↔ (k ≤ q.1 ∧ ls[q.1 - k]? = some q.2 ∧ ac_live q.2)
  | [], k, q => by simp [ac_al]
  | v :: t, k, q => by
    have ih := ac_al_in t (k + 1) q
    by_cases hv : ac_live v
    · have e : ac_al k (v :: t) = (k, v) :: ac_al (k + 1) t := by
        cases v <;> first | rfl | exact absurd rfl (hv _)
      rw [e, List.mem_cons, ih]
      constructor
      · rintro (rfl | ⟨h1, h2, h3⟩)
        · exact ⟨Nat.le_refl _, by simp, hv⟩
        · refine ⟨by omega, ?_, h3⟩
          rw [show q.1 - k = (q.1 - (k + 1)) + 1 by omega]
          exact h2
      · rintro ⟨h1, h2, h3⟩
        by_cases hk : q.1 = k
        · left
          rw [hk, Nat.sub_self] at h2
          have : v = q.2 := Option.some.inj h2
          rw [this, ← hk]
        · right
          refine ⟨by omega, ?_, h3⟩
          rw [show q.1 - k = (q.1 - (k + 1)) + 1 by omega] at h2
          exact h2
    · have hr : ∃ x, v = .retAddr x := Classical.byContradiction fun z => hv fun x hx => z ⟨x, hx⟩
      obtain ⟨x, rfl⟩ := hr
      have e : ac_al k (.retAddr x :: t) = ac_al (k + 1) t := rfl
      rw [e, ih]
      constructor
      · rintro ⟨h1, h2, h3⟩
        refine ⟨by omega, ?_, h3⟩
        rw [show q.1 - k = (q.1 - (k + 1)) + 1 by omega]
        exact h2
      · rintro ⟨h1, h2, h3⟩
        by_cases hk : q.1 = k
        · rw [hk, Nat.sub_self] at h2
          exact absurd (Option.some.inj h2).symm (h3 x)
        · refine ⟨by omega, ?_, h3⟩
          rw [show q.1 - k = (q.1 - (k + 1)) + 1 by omega] at h2
          exact h2
def ac_L (la : Array Slot) (nL : Nat) (ls : List Value) : Prop := lv_has la nL (ac_al 0 ls)
theorem ac_L.at {la : Array Slot} {nL : Nat} {ls : List Value} (h : ac_L la nL ls) {i : Nat} {v : Value} (hi : ls[i]? = some v) (hv : ac_live v) : la[i]? = some (.val v) :=
  h.2.2 (i, v) ((ac_al_in ls 0 (i, v)).mpr ⟨Nat.zero_le _, hi, hv⟩)
/-- a store kills a long whose second half it takes -/
def ac_cl (ls : List Value) (i : Nat) : List Value := match i with
  | 0 => ls
  | j + 1 => match ls[j]? with
    | some (.long _) => ls.set j (.retAddr 0)
    | some (.double _) => ls.set j (.retAddr 0)
    | _ => ls
def ac_s1 (ls : List Value) (i : Nat) (v : Value) : List Value := (ac_cl ls i).set i v
def ac_s2 (ls : List Value) (i : Nat) (v : Value) : List Value := ((ac_cl ls i).set i v).set (i + 1) (.retAddr 0)
theorem ac_cl_get {ls : List Value} {i j : Nat} {v : Value} (h : (ac_cl ls i)[j]? = some v) (hv : ac_live v) : ls[j]? = some v ∧ ¬ (j + 1 = i ∧ v.category = 2) := by
  cases i with
  | zero => exact ⟨h, fun z => by omega⟩
  | succ k =>
    by_cases hjk : j = k
    · subst hjk
      unfold ac_cl at h
      dsimp only at h
      split at h
      · rename_i x hx
        have hl : j < ls.length := (List.getElem?_eq_some_iff.mp hx).1
        rw [List.getElem?_set_self hl] at h
        exact absurd (Option.some.inj h).symm (hv 0)
      · rename_i x hx
        have hl : j < ls.length := (List.getElem?_eq_some_iff.mp hx).1
        rw [List.getElem?_set_self hl] at h
        exact absurd (Option.some.inj h).symm (hv 0)
      · rename_i n1 n2
        refine ⟨h, fun z => ?_⟩
        have hc := z.2
        cases v with
        | long x => exact n1 x h
        | double x => exact n2 x h
        | _ => simp [Value.category] at hc
    · refine ⟨?_, fun z => hjk (by omega)⟩
      unfold ac_cl at h
      dsimp only at h
      split at h
      · rw [List.getElem?_set_ne (Ne.symm hjk)] at h; exact h
      · rw [List.getElem?_set_ne (Ne.symm hjk)] at h; exact h
      · exact h
theorem ac_L.s1 {la : Array Slot} {nL i : Nat} {ls : List Value} {v : Value} (h : lv_has la nL ((i, v) :: (ac_al 0 ls).filter (fun q => !(q.1 == i) && !(q.1 + 1 == i && q.2.category == 2)))) : ac_L la nL (ac_s1 ls i v) := by
  refine ⟨h.1, h.2.1, fun q hq => ?_⟩
  obtain ⟨-, h2, h3⟩ := (ac_al_in _ 0 q).mp hq
  rw [Nat.sub_zero] at h2
  unfold ac_s1 at h2
  by_cases hqi : q.1 = i
  · rw [hqi] at h2
    by_cases hl : i < (ac_cl ls i).length
    · rw [List.getElem?_set_self hl] at h2
      have e : q = (i, v) := Prod.ext hqi (Option.some.inj h2).symm
      rw [e]
      exact h.2.2 _ List.mem_cons_self
    · rw [List.getElem?_eq_none (by rw [List.length_set]; omega)] at h2
      cases h2
  · rw [List.getElem?_set_ne (Ne.symm hqi)] at h2
    obtain ⟨h4, h5⟩ := ac_cl_get h2 h3
    refine h.2.2 q (List.mem_cons_of_mem _ (List.mem_filter.mpr ⟨(ac_al_in ls 0 q).mpr ⟨Nat.zero_le _, by rw [Nat.sub_zero]; exact h4, h3⟩, ?_⟩))
    simp only [Bool.and_eq_true, Bool.not_eq_true', beq_eq_false_iff_ne, ne_eq, Bool.and_eq_false_imp, beq_iff_eq]
    exact ⟨hqi, fun z1 z2 => h5 ⟨z1, z2⟩⟩
theorem ac_L.s2 {la : Array Slot} {nL i : Nat} {ls : List Value} {v : Value} (h : lv_has la nL ((i, v) :: (ac_al 0 ls).filter (fun q => !(q.1 == i) && (!(q.1 == i + 1) && !(q.1 + 1 == i && q.2.category == 2))))) : ac_L la nL (ac_s2 ls i v) := by
  refine ⟨h.1, h.2.1, fun q hq => ?_⟩
  obtain ⟨-, h2, h3⟩ := (ac_al_in _ 0 q).mp hq
  rw [Nat.sub_zero] at h2
  unfold ac_s2 at h2
  by_cases hq1 : q.1 = i + 1
  · rw [hq1] at h2
    by_cases hl : i + 1 < ((ac_cl ls i).set i v).length
    · rw [List.getElem?_set_self hl] at h2
      exact absurd (Option.some.inj h2).symm (h3 0)
    · rw [List.getElem?_eq_none (by rw [List.length_set]; omega)] at h2
      cases h2
  · rw [List.getElem?_set_ne (Ne.symm hq1)] at h2
    by_cases hqi : q.1 = i
    · rw [hqi] at h2
      by_cases hl : i < (ac_cl ls i).length
      · rw [List.getElem?_set_self hl] at h2
        have e : q = (i, v) := Prod.ext hqi (Option.some.inj h2).symm
        rw [e]
        exact h.2.2 _ List.mem_cons_self
      · rw [List.getElem?_eq_none (by rw [List.length_set]; omega)] at h2
        cases h2
    · rw [List.getElem?_set_ne (Ne.symm hqi)] at h2
      obtain ⟨h4, h5⟩ := ac_cl_get h2 h3
      refine h.2.2 q (List.mem_cons_of_mem _ (List.mem_filter.mpr ⟨(ac_al_in ls 0 q).mpr ⟨Nat.zero_le _, by rw [Nat.sub_zero]; exact h4, h3⟩, ?_⟩))
      simp only [Bool.and_eq_true, Bool.not_eq_true', beq_eq_false_iff_ne, ne_eq, Bool.and_eq_false_imp, beq_iff_eq]
      exact ⟨hqi, hq1, fun z1 z2 => h5 ⟨z1, z2⟩⟩
/-- at the entry: the arguments at their places, nothing behind -/
def ac_en : List Value → List Value
  | [] => []
  | v :: t => match v with
    | .long x => .long x :: .retAddr 0 :: ac_en t
    | .double x => .double x :: .retAddr 0 :: ac_en t
    | w => w :: ac_en t
def ac_ent (n : Nat) (vs : List Value) : List Value := ac_en vs ++ List.replicate (n - (ac_en vs).length) (.retAddr 0)
theorem ac_en_in : ∀ (vs : List Value) (k : Nat) (r : List Value) (q : Nat × Value), (∀ v ∈ r, v = .retAddr 0) → q ∈ ac_al k (ac_en vs ++ r) → q ∈ lv_args k vs
  | [], k, r, q, hr, h => by
    obtain ⟨-, h2, h3⟩ := (ac_al_in _ k q).mp h
    have h4 : q.2 ∈ r := List.mem_of_getElem? h2
    exact absurd (hr _ h4) (h3 0)
  | v :: t, k, r, q, hr, h => by
    cases v with
    | long x =>
      have h' : q ∈ (k, Value.long x) :: ac_al (k + 1 + 1) (ac_en t ++ r) := h
      rcases List.mem_cons.mp h' with e | h2
      · rw [e]; simp [lv_args]
      · have := ac_en_in t (k + 2) r q hr h2
        simp [lv_args, Value.category]; exact Or.inr this
    | double x =>
      have h' : q ∈ (k, Value.double x) :: ac_al (k + 1 + 1) (ac_en t ++ r) := h
      rcases List.mem_cons.mp h' with e | h2
      · rw [e]; simp [lv_args]
      · have := ac_en_in t (k + 2) r q hr h2
        simp [lv_args, Value.category]; exact Or.inr this
    | int x =>
      have h' : q ∈ (k, Value.int x) :: ac_al (k + 1) (ac_en t ++ r) := h
      rcases List.mem_cons.mp h' with e | h2
      · rw [e]; simp [lv_args]
      · have := ac_en_in t (k + 1) r q hr h2
        simp [lv_args, Value.category]; exact Or.inr this
    | float x =>
      have h' : q ∈ (k, Value.float x) :: ac_al (k + 1) (ac_en t ++ r) := h
      rcases List.mem_cons.mp h' with e | h2
      · rw [e]; simp [lv_args]
      · have := ac_en_in t (k + 1) r q hr h2
        simp [lv_args, Value.category]; exact Or.inr this
    | null =>
      have h' : q ∈ (k, Value.null) :: ac_al (k + 1) (ac_en t ++ r) := h
      rcases List.mem_cons.mp h' with e | h2
      · rw [e]; simp [lv_args]
      · have := ac_en_in t (k + 1) r q hr h2
        simp [lv_args, Value.category]; exact Or.inr this
    | ref x =>
      have h' : q ∈ (k, Value.ref x) :: ac_al (k + 1) (ac_en t ++ r) := h
      rcases List.mem_cons.mp h' with e | h2
      · rw [e]; simp [lv_args]
      · have := ac_en_in t (k + 1) r q hr h2
        simp [lv_args, Value.category]; exact Or.inr this
    | retAddr x =>
      have h' : q ∈ ac_al (k + 1) (ac_en t ++ r) := h
      have := ac_en_in t (k + 1) r q hr h'
      simp [lv_args, Value.category]; exact Or.inr this
