/-! A text that was read: what class and reference keep of it -/
def tz (T : ru_D) (rs : rl_L) : Prop := (rl_ok rs ∧ ¬ rs = [] ∧ rs.length ≤ 12 ∧ (pz_all (rl_rules rs)).length ≤ 300) ∧ (ru_cnt T = rs.length ∧ ru_sc T = (pz_all (rl_rules rs)).length ∧ ru_sc T ≤ ru_n T ∧ ru_n T ≤ 300) ∧ tl_dl (ru_b T) (ru_g T) 0 0 (rl_rules rs) ∧ pc_l (ru_a T) (ru_o T) (List.reverseAux (pz_all (rl_rules rs)) []) ∧ (ru_np T = (rl_text rs).length ∧ ru_np T ≤ 300) ∧ (∀ i, i < ru_np T → ru_p T i = gl (rl_text rs) i) ∧ cu_ch (ru_p T)
theorem rl_rules_len (rs : rl_L) : (rl_rules rs).length = rs.length := List.length_map _
theorem tl_mz {b : Nat → Nat} {g : Nat → Int32} : ∀ (l : List (Int32 × pz_P)) (r k : Nat), tl_dl b g r k l → mz_dl (fun i => nI (b i)) g r k l := by
  intro l
  induction l with
  | nil => intro r k h; show nI (b r) = nI k; rw [show b r = k from h]
  | cons x l ih => intro r k h; exact ⟨h.1, (by show nI (b r) = nI k; rw [h.2.1]), ih (r + 1) _ h.2.2⟩
theorem tl_of {b : Nat → Nat} {g f9 f10 : Nat → Int32} : ∀ (l : List (Int32 × pz_P)) (r k : Nat), tl_dl b g r k l → mz_dl f9 f10 r k l → tl_dl b f10 r k l := by
  intro l
  induction l with
  | nil => intro r k h _; exact h
  | cons x l ih => intro r k h m; exact ⟨m.1, h.2.1, ih (r + 1) _ h.2.2 m.2.2⟩
theorem tz_gr {T : ru_D} {rs : rl_L} (z : tz T rs) (r : Nat) (hr : r < ru_cnt T) : gt_bl (ru_g T r) 10 := by
  obtain ⟨⟨a1, a2, a3, a4⟩, ⟨b1, b2, b3, b4⟩, c, d, e, f, g⟩ := z
  rw [b1] at hr
  obtain ⟨x, hx, e1, _⟩ := tl_at _ 0 0 c r (by rw [rl_rules_len]; exact hr)
  rw [Nat.zero_add] at e1
  obtain ⟨y, hy, ey⟩ := List.mem_map.mp hx
  have g1 := (a1 y hy).1
  have e48 : (48 : Int32) + y.1 - 48 = y.1 := by rw [Int32.add_comm, Int32.add_sub_cancel]
  unfold cu_isd at g1
  rw [e48] at g1
  rw [e1, ← ey]
  exact ⟨g1.1, Int32.not_le.mpr g1.2⟩
theorem tz_gs {T : ru_D} {rs : rl_L} (z : tz T rs) : ru_gs T := fun r hr q => by
  have h := tz_gr z r hr
  rw [q] at h
  exact absurd h (by decide)
theorem tz_wf {T : ru_D} {rs : rl_L} (z : tz T rs) : ru_wf T := by
  obtain ⟨⟨a1, a2, a3, a4⟩, ⟨b1, b2, b3, b4⟩, c, d, e, f, g⟩ := z
  refine ⟨by omega, b3, b4, fun r hr => ?_⟩
  obtain ⟨d1, d2, _⟩ := dl_both _ 0 0 (tl_mz _ 0 0 c) c
  rw [rl_rules_len] at d1 d2
  exact ⟨(d1 r (Nat.zero_le _) (by omega)).2, by have := (d2 (r + 1) (Nat.zero_le _) (by omega)).2; omega⟩
theorem tz_eq {T : ru_D} {rs : rl_L} (z : tz T rs) {s : md_S} {t : Nat} (h : mo_txt s t (rl_rules rs)) : eq_tx s.2.1 t T := by
  obtain ⟨⟨a1, a2, a3, a4⟩, ⟨b1, b2, b3, b4⟩, c, d, e, f, g⟩ := z
  exact eq_tx_of h a1 rfl (by rw [rl_rules_len]; exact b1) c d
theorem tz_walk {T : ru_D} {rs : rl_L} (z : tz T rs) (I : Nat → Int32) (F : Nat → Nat → Int32) (c : Nat) : gt_walk (ru_p T) (ru_np T) (wk_X I F c (ru_p T) (ru_np T) 8) (ru_g T) (ru_cnt T) 0 0 = rz_gr I F c T 0 (ru_cnt T) 0 := by
  obtain ⟨⟨a1, a2, a3, a4⟩, ⟨b1, b2, b3, b4⟩, c, d, ⟨e1, e2⟩, f, g⟩ := z
  rw [b1]
  refine rl_walk e2 rs 0 0 0 a1 c (fun j hj => pc_l_get _ [] d j hj) (fun _ _ _ => rfl) (fun _ => ⟨Nat.zero_le _, fun i hi => ?_, by omega⟩)
  rw [Nat.zero_add]
  exact ⟨by omega, f i (by omega)⟩
theorem tz_print {T : ru_D} {rs : rl_L} (z : tz T rs) {s : md_S} (h : mo_txt s 0 (rl_rules rs)) : pr_rl (s.2.1 5) (s.2.1 6) (s.2.1 10) (ru_b T) (ru_cnt T) 0 [] (rl_text rs) := by
  obtain ⟨⟨a1, a2, a3, a4⟩, ⟨b1, b2, b3, b4⟩, c, d, ⟨e1, e2⟩, f, g⟩ := z
  obtain ⟨h1, h2, h3, h4, h5, h6⟩ := h
  have q10 : (fun i => s.2.1 10 (13 * 0 + i)) = s.2.1 10 := by funext i; rw [Nat.mul_zero, Nat.zero_add]
  have q9 : (fun i => s.2.1 9 (13 * 0 + i)) = s.2.1 9 := by funext i; rw [Nat.mul_zero, Nat.zero_add]
  have q5 : (fun i => s.2.1 5 (400 * 0 + i)) = s.2.1 5 := by funext i; rw [Nat.mul_zero, Nat.zero_add]
  have q6 : (fun i => s.2.1 6 (400 * 0 + i)) = s.2.1 6 := by funext i; rw [Nat.mul_zero, Nat.zero_add]
  rw [q9, q10] at h3
  rw [q5, q6] at h4
  have k := rl_go rs 0 0 [] a1 (tl_of _ 0 0 c h3) (fun j hj => pc_l_get _ [] h4 j hj) (fun _ => by rw [List.length_nil]; omega) (fun _ => ⟨fun _ => rfl, fun _ => rfl⟩)
  rw [if_pos (Or.inl rfl), List.nil_append] at k
  rw [b1]
  exact k
theorem rs_prt_ch {f D : Nat → Int32} (h : cu_ch f) : ∀ n, cu_ch (rs_prt f D n).2 := by
  intro n
  induction n with
  | zero => intro j; rfl
  | succ n ih =>
    intro j
    unfold rs_prt
    by_cases z : D n = 0
    · rw [if_pos z]
      show narrow .char (.int (upd (rs_prt f D n).2 (rs_prt f D n).1 (f n) j)) = .int (upd (rs_prt f D n).2 (rs_prt f D n).1 (f n) j)
      unfold upd
      by_cases q : j = (rs_prt f D n).1
      · rw [if_pos q]; exact h n
      · rw [if_neg q]; exact ih j
    · rw [if_neg z]; exact ih j
theorem tz_read {f D : Nat → Int32} {len : Nat} (ht : mz_tx f len) (hl : len ≤ 300) (hD : ∀ i, i < len → D i = 0) (hch : cu_ch f) : (rs_rules f len 12 (0, D, ru_new len)).1 = (pz_rules f len 12 0).1 ∧ (rs_rules f len 12 (0, D, ru_new len)).2.1 = (pz_rules f len 12 0).2.1 ∧ ((rs_rules f len 12 (0, D, ru_new len)).1 = true → ∃ rs, (pz_rules f len 12 0).2.2 = rl_rules rs ∧ tz (ru_fin (rs_rules f len 12 (0, D, ru_new len)).2.2.2 (rs_prt f (rs_rules f len 12 (0, D, ru_new len)).2.2.1 len).1 (rs_prt f (rs_rules f len 12 (0, D, ru_new len)).2.2.1 len).2) rs) := by
  obtain ⟨k1, k2, k3⟩ := cl_rules ht hl 12 (0, D, ru_new len) ⟨Nat.zero_le _, fun i _ hi => hD i hi⟩
  refine ⟨k1, k2, fun z => ?_⟩
  obtain ⟨t, rs, d1, d2, d3, d4, d5, d6, d7⟩ := k3 z
  replace t : (rs_rules f len 12 (0, D, ru_new len)).2.2.2 = ru_rules (ru_new len) (pz_rules f len 12 0).2.2 := t
  replace d4 : (pz_rules f len 12 0).2.2 = rl_rules rs := d4
  replace d6 : kpt f (rs_rules f len 12 (0, D, ru_new len)).2.2.1 0 len = rl_text rs := d6
  obtain ⟨p1, p2, p3⟩ := (pz_rules_len (u := f) hl 12 0 (Nat.zero_le _)).2 (k1.symm.trans z)
  rw [d4] at p1 p2
  obtain ⟨r1, r2, r3, r4, r5⟩ := ru_read (rl_rules rs) len (by omega) p2
  refine ⟨rs, d4, ⟨d1, d2, d3, by omega⟩, ?_⟩
  rw [t, d4]
  obtain ⟨w1, w2⟩ := rs_prt_kpt f (rs_rules f len 12 (0, D, ru_new len)).2.2.1 len
  rw [d6] at w1 w2
  have w3 : (rl_text rs).length ≤ len := by rw [← d6]; exact kpt_le _ _ _ _
  refine ⟨⟨r1.trans (rl_rules_len rs), r2, ?_, ?_⟩, r4, r5, ⟨w1, ?_⟩, fun i hi => w2 i (by rw [← w1]; exact hi), rs_prt_ch hch len⟩
  · show ru_sc (ru_rules (ru_new len) (rl_rules rs)) ≤ ru_n (ru_rules (ru_new len) (rl_rules rs)); omega
  · show ru_n (ru_rules (ru_new len) (rl_rules rs)) ≤ 300; omega
  · show (rs_prt f (rs_rules f len 12 (0, D, ru_new len)).2.2.1 len).1 ≤ 300; omega
