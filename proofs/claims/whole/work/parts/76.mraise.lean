/-! The reference: raise -/
theorem bt_and (v : BitVec 32) : v &&& 1#32 = (if v.getLsbD 0 = true then 1#32 else 0#32) := by
  apply BitVec.eq_of_getLsbD_eq
  intro i hi
  rw [BitVec.getLsbD_and, BitVec.getLsbD_one]
  by_cases z : i = 0
  · subst z
    cases h : v.getLsbD 0
    · rw [if_neg (by decide)]; rfl
    · rw [if_pos rfl]; rfl
  · rw [show decide (i = 0) = false from decide_eq_false z, Bool.and_false, Bool.and_false]
    cases h : v.getLsbD 0
    · rw [if_neg (by decide), BitVec.getLsbD_zero]
    · rw [if_pos rfl, BitVec.getLsbD_one, show decide (i = 0) = false from decide_eq_false z, Bool.and_false]
theorem bt_1 (x : Int32) : (x &&& 1 = 1) ↔ x.toBitVec.getLsbD 0 = true := by
  rw [← Int32.toBitVec_inj, Int32.toBitVec_and, show Int32.toBitVec 1 = 1#32 from rfl, bt_and]
  cases x.toBitVec.getLsbD 0
  · rw [if_neg (by decide)]; decide
  · rw [if_pos rfl]; exact ⟨fun _ => rfl, fun _ => rfl⟩
theorem bt_0 (x : Int32) : (x &&& 1 = 0) ↔ x.toBitVec.getLsbD 0 = false := by
  rw [← Int32.toBitVec_inj, Int32.toBitVec_and, show Int32.toBitVec 1 = 1#32 from rfl, bt_and]
  cases x.toBitVec.getLsbD 0
  · rw [if_neg (by decide)]; exact ⟨fun _ => rfl, fun _ => rfl⟩
  · rw [if_pos rfl]; decide
theorem bt_sh {e sh : Int32} {i : Nat} (hi : i < 32) (hs : sh.toBitVec.smod 32 = BitVec.ofNat 32 i) : (e >>> sh &&& 1 = 1) ↔ e.toBitVec.getLsbD i = true := by
  rw [bt_1, Int32.toBitVec_shiftRight, hs]
  show (e.toBitVec.sshiftRight (BitVec.ofNat 32 i).toNat).getLsbD 0 = true ↔ _
  rw [BitVec.toNat_ofNat, Nat.mod_eq_of_lt (by omega), BitVec.getLsbD_sshiftRight, if_pos (by omega), Nat.add_zero]
  rfl
theorem bt_us {x : Int32} {sh : UInt32} {i : Nat} (hi : i < 32) (hs : sh.toBitVec % 32 = BitVec.ofNat 32 i) : ((x.toUInt32 >>> sh).toInt32 &&& 1 = 0) ↔ x.toBitVec.getLsbD i = false := by
  rw [bt_0]
  show (x.toUInt32.toBitVec >>> (sh.toBitVec % 32)).getLsbD 0 = false ↔ _
  rw [hs, BitVec.ushiftRight_eq', BitVec.getLsbD_ushiftRight, BitVec.toNat_ofNat, Nat.mod_eq_of_lt (by omega), Nat.add_zero]
  rfl
theorem bt_e {x : Int32} {i : Nat} (hi : i < 10) : (1023 &&& (x ^^^ (-1)) : Int32).toBitVec.getLsbD i = !(x.toBitVec.getLsbD i) := by
  rw [Int32.toBitVec_and, Int32.toBitVec_xor, BitVec.getLsbD_and, BitVec.getLsbD_xor]
  have h1 : ∀ j, j < 10 → (Int32.toBitVec 1023).getLsbD j = true := by decide
  have h2 : ∀ j, j < 10 → (Int32.toBitVec (-1)).getLsbD j = true := by decide
  rw [h1 i hi, h2 i hi, Bool.true_and, Bool.xor_true]
theorem eq_bitR (x : Int32) : eq_bit x (1023 &&& (x ^^^ (-1))) := by
  intro i hi
  have e := bt_e (x := x) hi
  have h1 : ∀ i, i < 10 → ((nI i).toUInt32 &&& Int32.toUInt32 31).toBitVec % 32 = BitVec.ofNat 32 i := by decide
  have h2 : ∀ i, i < 10 → (nI i &&& 31).toBitVec.smod 32 = BitVec.ofNat 32 i := by decide
  unfold pl_pres
  rw [bt_us (i := i) (by omega) (h1 i hi), bt_sh (i := i) (by omega) (h2 i hi), e, Bool.not_eq_true']
theorem mo_pow {c : Nat} (h : c ≤ 10) : (1 : Int32) <<< (nI c &&& 31) = nI (2 ^ c) := by
  have : c = 0 ∨ c = 1 ∨ c = 2 ∨ c = 3 ∨ c = 4 ∨ c = 5 ∨ c = 6 ∨ c = 7 ∨ c = 8 ∨ c = 9 ∨ c = 10 := by omega
  rcases this with z | z | z | z | z | z | z | z | z | z | z <;> subst z <;> decide
theorem mo_pow_le {c : Nat} (h : c ≤ 10) : 2 ^ c ≤ 1024 := Nat.pow_le_pow_right (by decide) h
/-- gone is better than the best so far -/
abbrev mo_bt (x b : Int32) : Prop := b < 0 ∨ nI (mo_many x 10) < nI (mo_many b 10) ∨ (nI (mo_many x 10) = nI (mo_many b 10) ∧ ¬ x &&& (x ^^^ b) &&& -(x ^^^ b) = 0)
def mo_rb (gr : Int32 → Int32) (g : Int32) : Nat → Int32
  | 0 => -1
  | i + 1 => if mo_bt (nI i) (mo_rb gr g i) ∧ gr (nI i) = g then nI i else mo_rb gr g i
def mo_kth (b : Int32) : Nat → Nat → Int32 → Int32
  | 0, _, _ => -1
  | m + 1, f, left => if b >>> (nI f &&& 31) &&& 1 = 1 then (if left = 0 then nI f else mo_kth b m (f + 1) (left + (-1))) else mo_kth b m (f + 1) left
def mo_raise (gr : Int32 → Int32) (g k : Int32) (c : Nat) : Int32 := if mo_rb gr g (2 ^ c) < 0 then -1 else mo_kth (mo_rb gr g (2 ^ c)) c 0 k
set_option maxHeartbeats 4000000 in
set_option maxRecDepth 100000 in
theorem m_raise1 (G : ac_G) (l : Launch) (o : Nat) (md : Nat → Nat) (hm : md_inj md) (h : ac_H) (d : Nat) (s : md_S) (K : md_ok h o md s) (hr : s.1 31 = 0) (g k : Int32) : ac_Met G l yX9_raise cX9_raise 6 (some .int) d 0 0 [.ref o, .int g, .int k] h (fun r9 h9 => r9 = some (.int (0)) ∧ md_ok h9 o md (upd s.1 0 1, s.2.1, s.2.2) ∧ kp h h9 (md_L o md)) := by
  refine ac_of (ls := [.ref o, .int g, .int k, .retAddr 0, .retAddr 0, .retAddr 0]) (by decide +kernel) rfl (Nat.le_of_ble_eq_true rfl) (fun M hl C B E hnm => ?_)
  refine aw_aload_n C dX9_raise_0 rfl rfl (q := 1) rfl ?_
  refine aw_aload_n C dX9_raise_1 rfl rfl (q := 2) rfl ?_
  refine gfX9_267_9 (v := .int (s.1 31)) C dX9_raise_2 K.1 rfl (q := 5) rfl ?_
  refine aw_if_ne (t := 12) (q := 8) C dX9_raise_5 (by decide) rfl (fun c_5 => absurd c_5 (fun z => z hr)) (fun c_5 => ?_)
  refine aw_iconst (v := 1) C dX9_raise_8 (by decide) (q := 9) rfl ?_
  refine aw_goto (q := 28) C dX9_raise_9 (by decide) ?_
  refine pfX9_89_9 C dX9_raise_28 K.1 rfl rfl (Nat.le_of_ble_eq_true rfl) (q := 31) rfl ?_
  show aw G 6 M 31 [.ref o, .int g, .int k, .retAddr 0, .retAddr 0, .retAddr 0] [] (ac_up h o (.inr (9, md_fs md ((upd s.1 0 1, s.2.1, s.2.2).1)))) 0 0
  obtain ⟨h_1, eh_1⟩ : ∃ z9, z9 = ac_up h o (.inr (9, md_fs md ((upd s.1 0 1, s.2.1, s.2.2).1))) := ⟨_, rfl⟩
  rw [← eh_1]
  have kpx_4 : kp h h_1 [o] := by rw [eh_1]; exact kp_up (kp_cons o kp_rf) _ _ (by simp)
  have K_2 : md_ok h_1 o md (upd s.1 0 1, s.2.1, s.2.2) := md_J (s := (s.1, s.2.1, s.2.2)) K (by rw [eh_1]; exact ac_up_s _ _ _) kpx_4
  have kq_3 : kp h h_1 (md_L o md) := kp_mono kpx_4 md_s0
  refine aw_aload_n C dX9_raise_31 rfl rfl (q := 32) rfl ?_
  refine gfX9_89_9 (v := .int 1) C dX9_raise_32 K_2.1 rfl (q := 35) rfl ?_
  refine aw_if_le (t := 40) (q := 38) C dX9_raise_35 (by decide) rfl (fun c_35 => absurd c_35 (by decide)) (fun c_35 => ?_)
  refine aw_iconst (v := 0) C dX9_raise_38 (by decide) (q := 39) rfl ?_
  refine aw_iret C E dX9_raise_39 (Nat.le_refl _) (Nat.le_refl _) ?_
  exact ⟨rfl, K_2, kq_3⟩
set_option maxHeartbeats 4000000 in
set_option maxRecDepth 100000 in
theorem m_raise2 (G : ac_G) (l : Launch) (o : Nat) (md : Nat → Nat) (hm : md_inj md) (h : ac_H) (d : Nat) (s : md_S) (K : md_ok h o md s) (hr : ¬ s.1 31 = 0) (g k : Int32) (hk : ¬ (gt_bl g 10 ∧ ¬ k < 0)) : ac_Met G l yX9_raise cX9_raise 6 (some .int) (d + 1) 0 0 [.ref o, .int g, .int k] h (fun r9 h9 => r9 = some (.int (0)) ∧ md_ok h9 o md (upd s.1 0 2, s.2.1, s.2.2) ∧ kp h h9 (md_L o md)) := by
  refine ac_of (ls := [.ref o, .int g, .int k, .retAddr 0, .retAddr 0, .retAddr 0]) (by decide +kernel) rfl (Nat.le_of_ble_eq_true rfl) (fun M hl C B E hnm => ?_)
  refine aw_aload_n C dX9_raise_0 rfl rfl (q := 1) rfl ?_
  refine aw_aload_n C dX9_raise_1 rfl rfl (q := 2) rfl ?_
  refine gfX9_267_9 (v := .int (s.1 31)) C dX9_raise_2 K.1 rfl (q := 5) rfl ?_
  refine aw_if_ne (t := 12) (q := 8) C dX9_raise_5 (by decide) rfl (fun c_5 => ?_) (fun c_5 => absurd c_5 (hr))
  refine aw_iload_n C dX9_raise_12 rfl rfl (q := 13) rfl ?_
  refine csX9_276 (As := [.int g]) (rest := [.ref o]) C B dX9_raise_13 (m_isGrade G M.2.1 h d g) rfl rfl (Nat.le_of_ble_eq_true rfl) (by omega) (by omega) (by omega) (q := 16) rfl (fun r9 h9 hr9 => ?_)
  obtain ⟨e9, er9⟩ := hr9
  subst er9; rw [e9]
  show aw G 6 M 16 [.ref o, .int g, .int k, .retAddr 0, .retAddr 0, .retAddr 0] [.int (pb_b (¬ g < 0 ∧ ¬ 9 < g)), .ref o] h 0 0
  refine aw_if_eq (t := 23) (q := 19) C dX9_raise_16 (by decide) rfl (fun c_16 => ?_) (fun c_16 => ?_)
  ·
    refine aw_iconst (v := 2) C dX9_raise_23 (by decide) (q := 24) rfl ?_
    refine aw_goto (q := 28) C dX9_raise_24 (by decide) ?_
    refine pfX9_89_9 C dX9_raise_28 K.1 rfl rfl (Nat.le_of_ble_eq_true rfl) (q := 31) rfl ?_
    show aw G 6 M 31 [.ref o, .int g, .int k, .retAddr 0, .retAddr 0, .retAddr 0] [] (ac_up h o (.inr (9, md_fs md ((upd s.1 0 2, s.2.1, s.2.2).1)))) 0 0
    obtain ⟨h_1, eh_1⟩ : ∃ z9, z9 = ac_up h o (.inr (9, md_fs md ((upd s.1 0 2, s.2.1, s.2.2).1))) := ⟨_, rfl⟩
    rw [← eh_1]
    have kpx_4 : kp h h_1 [o] := by rw [eh_1]; exact kp_up (kp_cons o kp_rf) _ _ (by simp)
    have K_2 : md_ok h_1 o md (upd s.1 0 2, s.2.1, s.2.2) := md_J (s := (s.1, s.2.1, s.2.2)) K (by rw [eh_1]; exact ac_up_s _ _ _) kpx_4
    have kq_3 : kp h h_1 (md_L o md) := kp_mono kpx_4 md_s0
    refine aw_aload_n C dX9_raise_31 rfl rfl (q := 32) rfl ?_
    refine gfX9_89_9 (v := .int 2) C dX9_raise_32 K_2.1 rfl (q := 35) rfl ?_
    refine aw_if_le (t := 40) (q := 38) C dX9_raise_35 (by decide) rfl (fun c_35 => absurd c_35 (by decide)) (fun c_35 => ?_)
    refine aw_iconst (v := 0) C dX9_raise_38 (by decide) (q := 39) rfl ?_
    refine aw_iret C E dX9_raise_39 (Nat.le_refl _) (Nat.le_refl _) ?_
    exact ⟨rfl, K_2, kq_3⟩
  ·
    refine aw_iload_n C dX9_raise_19 rfl rfl (q := 20) rfl ?_
    refine aw_if_ge (t := 27) (q := 23) C dX9_raise_20 (by decide) rfl (fun c_20 => absurd c_20 (fun z => hk ⟨mo_g.mp (pb_n c_16), Int32.not_lt.mpr z⟩)) (fun c_20 => ?_)
    refine aw_iconst (v := 2) C dX9_raise_23 (by decide) (q := 24) rfl ?_
    refine aw_goto (q := 28) C dX9_raise_24 (by decide) ?_
    refine pfX9_89_9 C dX9_raise_28 K.1 rfl rfl (Nat.le_of_ble_eq_true rfl) (q := 31) rfl ?_
    show aw G 6 M 31 [.ref o, .int g, .int k, .retAddr 0, .retAddr 0, .retAddr 0] [] (ac_up h o (.inr (9, md_fs md ((upd s.1 0 2, s.2.1, s.2.2).1)))) 0 0
    obtain ⟨h_5, eh_5⟩ : ∃ z9, z9 = ac_up h o (.inr (9, md_fs md ((upd s.1 0 2, s.2.1, s.2.2).1))) := ⟨_, rfl⟩
    rw [← eh_5]
    have kpx_8 : kp h h_5 [o] := by rw [eh_5]; exact kp_up (kp_cons o kp_rf) _ _ (by simp)
    have K_6 : md_ok h_5 o md (upd s.1 0 2, s.2.1, s.2.2) := md_J (s := (s.1, s.2.1, s.2.2)) K (by rw [eh_5]; exact ac_up_s _ _ _) kpx_8
    have kq_7 : kp h h_5 (md_L o md) := kp_mono kpx_8 md_s0
    refine aw_aload_n C dX9_raise_31 rfl rfl (q := 32) rfl ?_
    refine gfX9_89_9 (v := .int 2) C dX9_raise_32 K_6.1 rfl (q := 35) rfl ?_
    refine aw_if_le (t := 40) (q := 38) C dX9_raise_35 (by decide) rfl (fun c_35 => absurd c_35 (by decide)) (fun c_35 => ?_)
    refine aw_iconst (v := 0) C dX9_raise_38 (by decide) (q := 39) rfl ?_
    refine aw_iret C E dX9_raise_39 (Nat.le_refl _) (Nat.le_refl _) ?_
    exact ⟨rfl, K_6, kq_7⟩
set_option maxHeartbeats 4000000 in
set_option maxRecDepth 100000 in
theorem ml_kth {G : ac_G} {M : ac_M} {o : Nat} {md : Nat → Nat} (hm : md_inj md) {h1 : ac_H} {d : Nat} {s1 : md_S} {c : Nat} {g k bs v : Int32} {Q : Option Value → ac_H → Prop} (hc : s1.1 20 = nI c) (hc10 : c ≤ 10) (hbs : ¬ bs < 0) (K : md_ok h1 o md s1) (C : ac_MC G RX9 cX9_raise 6 (some .int) M) (B : ac_Bd M (d + 5) 0 0) (E : ac_End G Q 0 0 M) (hQ : Q (some (.int v)) h1) :
    ∀ (m f : Nat) (left : Int32), f + m = c → mo_kth bs m f left = v → aw G 6 M 137 [.ref o, .int g, .int k, .int bs, .int left, .int (nI f)] [] h1 0 0 := by
  intro m
  induction m with
  | zero =>
    intro f left hf hv
    have hf2 : f = c := by omega
    refine aw_iload_n C dX9_raise_137 rfl rfl (q := 138) rfl ?_
    refine aw_if_lt (t := 176) (q := 141) C dX9_raise_138 (by decide) rfl (fun c_138 => absurd c_138 (hbs)) (fun c_138 => ?_)
    refine aw_iload C dX9_raise_141 rfl (q := 143) rfl ?_
    refine aw_aload_n C dX9_raise_143 rfl rfl (q := 144) rfl ?_
    refine gfX9_213_9 (v := .int (s1.1 20)) C dX9_raise_144 K.1 rfl (q := 147) rfl ?_
    refine aw_icmp_ge (t := 176) (q := 150) C dX9_raise_147 (by decide) rfl (fun c_147 => ?_) (fun c_147 => absurd c_147 (fun z => z (by rw [hc, hf2]; exact nI_le (Nat.le_refl _) (by omega))))
    refine aw_iconst (v := (-1)) C dX9_raise_176 (by decide) (q := 177) rfl ?_
    refine aw_iret C E dX9_raise_177 (Nat.le_refl _) (Nat.le_refl _) ?_
    subst hv
    exact hQ
  | succ m ih =>
    intro f left hf hv
    replace hv : (if bs >>> (nI f &&& 31) &&& 1 = 1 then (if left = 0 then nI f else mo_kth bs m (f + 1) (left + (-1))) else mo_kth bs m (f + 1) left) = v := hv
    refine aw_iload_n C dX9_raise_137 rfl rfl (q := 138) rfl ?_
    refine aw_if_lt (t := 176) (q := 141) C dX9_raise_138 (by decide) rfl (fun c_138 => absurd c_138 (hbs)) (fun c_138 => ?_)
    refine aw_iload C dX9_raise_141 rfl (q := 143) rfl ?_
    refine aw_aload_n C dX9_raise_143 rfl rfl (q := 144) rfl ?_
    refine gfX9_213_9 (v := .int (s1.1 20)) C dX9_raise_144 K.1 rfl (q := 147) rfl ?_
    refine aw_icmp_ge (t := 176) (q := 150) C dX9_raise_147 (by decide) rfl (fun c_147 => absurd c_147 (by rw [hc]; exact ni_nge f c rfl rfl (by omega) (by omega) (by omega))) (fun c_147 => ?_)
    refine aw_iload_n C dX9_raise_150 rfl rfl (q := 151) rfl ?_
    refine aw_iload C dX9_raise_151 rfl (q := 153) rfl ?_
    refine csX9_220 (As := [.int bs, .int (nI f)]) (rest := []) C B dX9_raise_153 (m_has G M.2.1 h1 (d + 4) bs (nI f)) rfl rfl (Nat.le_of_ble_eq_true rfl) (by omega) (by omega) (by omega) (q := 156) rfl (fun r9 h9 hr9 => ?_)
    obtain ⟨e9, er9⟩ := hr9
    subst er9; rw [e9]
    show aw G 6 M 156 [.ref o, .int g, .int k, .int bs, .int left, .int (nI f)] [.int (pb_b (bs >>> (nI f &&& 31) &&& 1 = 1))] h1 0 0
    refine aw_if_eq (t := 170) (q := 159) C dX9_raise_156 (by decide) rfl (fun c_156 => ?_) (fun c_156 => ?_)
    ·
      refine aw_iinc (v := nI (f + 1)) (ls' := [.ref o, .int g, .int k, .int bs, .int left, .int (nI (f + 1))]) C dX9_raise_170 rfl (nI_1 f) (by decide) rfl (q := 173) rfl ?_
      refine aw_goto (q := 137) C dX9_raise_173 (by decide) ?_
      rw [if_neg (pb_0.mp c_156)] at hv
      exact ih (f + 1) left (by omega) hv
    ·
      refine aw_iload C dX9_raise_159 rfl (q := 161) rfl ?_
      refine aw_if_ne (t := 167) (q := 164) C dX9_raise_161 (by decide) rfl (fun c_161 => ?_) (fun c_161 => ?_)
      ·
        refine aw_iinc (v := left + (-1)) (ls' := [.ref o, .int g, .int k, .int bs, .int (left + (-1)), .int (nI f)]) C dX9_raise_167 rfl rfl (by decide) rfl (q := 170) rfl ?_
        refine aw_iinc (v := nI (f + 1)) (ls' := [.ref o, .int g, .int k, .int bs, .int (left + (-1)), .int (nI (f + 1))]) C dX9_raise_170 rfl (nI_1 f) (by decide) rfl (q := 173) rfl ?_
        refine aw_goto (q := 137) C dX9_raise_173 (by decide) ?_
        rw [if_pos (pb_n c_156), if_neg c_161] at hv
        exact ih (f + 1) (left + (-1)) (by omega) hv
      ·
        refine aw_iload C dX9_raise_164 rfl (q := 166) rfl ?_
        refine aw_iret C E dX9_raise_166 (Nat.le_refl _) (Nat.le_refl _) ?_
        rw [if_pos (pb_n c_156), if_pos c_161] at hv
        subst hv
        exact hQ
set_option maxHeartbeats 4000000 in
set_option maxRecDepth 100000 in
theorem ml_raise {G : ac_G} {M : ac_M} {o : Nat} {md : Nat → Nat} (hm : md_inj md) {h : ac_H} {d : Nat} {s : md_S} {c : Nat} {I : Nat → Int32} {F : Nat → Nat → Int32} {T : ru_D} {g k : Int32} (b : eq_bd I F c s) (tx : eq_tx s.2.1 5 T) (C : ac_MC G RX9 cX9_raise 6 (some .int) M) (B : ac_Bd M (d + 5) 0 0) (E : ac_End G (fun r9 h9 => ∃ (J : Nat → Int32) (L : Nat → Nat → Int64), r9 = some (.int (mo_raise (fun x => rz_gr I F c T x (ru_cnt T) 0) g k c)) ∧ md_ok h9 o md (J, s.2.1, L) ∧ md_eq [28, 29, 30] [] [27] s (J, s.2.1, L) ∧ kp h h9 (md_L o md)) 0 0 M) :
    ∀ (m i : Nat) (h1 : ac_H) (J1 : Nat → Int32) (L1 : Nat → Nat → Int64) (v5 : Value), i + m = 2 ^ c → md_ok h1 o md (J1, s.2.1, L1) → kp h h1 (md_L o md) → md_eq [28, 29, 30] [] [27] s (J1, s.2.1, L1) → aw G 6 M 45 [.ref o, .int g, .int k, .int (mo_rb (fun x => rz_gr I F c T x (ru_cnt T) 0) g i), .int (nI i), v5] [] h1 0 0 := by
  have hc10 := b.2.2.2.2.1
  have hp := mo_pow_le hc10
  intro m
  induction m with
  | zero =>
    intro i h1 J1 L1 v5 hi K kq q
    have hi2 : i = 2 ^ c := by omega
    have hc : J1 20 = nI c := (q.1 20 (by decide)).trans b.2.2.2.1
    refine aw_iload C dX9_raise_45 rfl (q := 47) rfl ?_
    refine aw_iconst (v := 1) C dX9_raise_47 (by decide) (q := 48) rfl ?_
    refine aw_aload_n C dX9_raise_48 rfl rfl (q := 49) rfl ?_
    refine gfX9_213_9 (v := .int (J1 20)) C dX9_raise_49 K.1 rfl (q := 52) rfl ?_
    refine aw_ishl C dX9_raise_52 (q := 53) rfl ?_
    rw [hc, mo_pow hc10]
    refine aw_icmp_ge (t := 131) (q := 56) C dX9_raise_53 (by decide) rfl (fun c_53 => ?_) (fun c_53 => absurd c_53 (fun z => z (by rw [hi2]; exact nI_le (Nat.le_refl _) (by omega))))
    refine aw_iload_n C dX9_raise_131 rfl rfl (q := 132) rfl ?_
    refine aw_istore (ls' := [.ref o, .int g, .int k, .int (mo_rb (fun x => rz_gr I F c T x (ru_cnt T) 0) g i), .int k, v5]) C dX9_raise_132 (by decide) rfl (q := 134) rfl ?_
    refine aw_iconst (v := 0) C dX9_raise_134 (by decide) (q := 135) rfl ?_
    refine aw_istore (ls' := [.ref o, .int g, .int k, .int (mo_rb (fun x => rz_gr I F c T x (ru_cnt T) 0) g i), .int k, .int 0]) C dX9_raise_135 (by decide) rfl (q := 137) rfl ?_
    by_cases hneg : mo_rb (fun x => rz_gr I F c T x (ru_cnt T) 0) g (2 ^ c) < 0
    · rw [hi2]
      refine aw_iload_n C dX9_raise_137 rfl rfl (q := 138) rfl ?_
      refine aw_if_lt (t := 176) (q := 141) C dX9_raise_138 (by decide) rfl (fun _ => ?_) (fun z => absurd hneg z)
      refine aw_iconst (v := (-1)) C dX9_raise_176 (by decide) (q := 177) rfl ?_
      refine aw_iret C E dX9_raise_177 (Nat.le_refl _) (Nat.le_refl _) ?_
      exact ⟨J1, L1, by unfold mo_raise; rw [if_pos hneg], K, q, kq⟩
    · rw [hi2]
      exact ml_kth hm hc hc10 hneg K C B E ⟨J1, L1, by unfold mo_raise; rw [if_neg hneg], K, q, kq⟩ c 0 k (by omega) rfl
  | succ m ih =>
    intro i h1 J1 L1 v5 hi K kq q
    have hc : J1 20 = nI c := (q.1 20 (by decide)).trans b.2.2.2.1
    have b' : eq_bd I F c (J1, s.2.1, L1) := eq_bd_eq b q (by decide) (by decide)
    refine aw_iload C dX9_raise_45 rfl (q := 47) rfl ?_
    refine aw_iconst (v := 1) C dX9_raise_47 (by decide) (q := 48) rfl ?_
    refine aw_aload_n C dX9_raise_48 rfl rfl (q := 49) rfl ?_
    refine gfX9_213_9 (v := .int (J1 20)) C dX9_raise_49 K.1 rfl (q := 52) rfl ?_
    refine aw_ishl C dX9_raise_52 (q := 53) rfl ?_
    rw [hc, mo_pow hc10]
    refine aw_icmp_ge (t := 131) (q := 56) C dX9_raise_53 (by decide) rfl (fun c_53 => absurd c_53 (ni_nge i (2 ^ c) rfl rfl (by omega) (by omega) (by omega))) (fun c_53 => ?_)
    refine aw_iload_n C dX9_raise_56 rfl rfl (q := 57) rfl ?_
    refine aw_if_lt (t := 93) (q := 60) C dX9_raise_57 (by decide) rfl (fun c_57 => ?_) (fun c_57 => ?_)
    ·
      refine aw_iconst (v := 1) C dX9_raise_93 (by decide) (q := 94) rfl ?_
      refine aw_goto (q := 98) C dX9_raise_94 (by decide) ?_
      refine aw_istore (ls' := [.ref o, .int g, .int k, .int (mo_rb (fun x => rz_gr I F c T x (ru_cnt T) 0) g i), .int (nI i), .int 1]) C dX9_raise_98 (by decide) rfl (q := 100) rfl ?_
      refine aw_iload C dX9_raise_100 rfl (q := 102) rfl ?_
      refine aw_if_eq (t := 125) (q := 105) C dX9_raise_102 (by decide) rfl (fun c_102 => absurd c_102 (by decide)) (fun c_102 => ?_)
      refine aw_aload_n C dX9_raise_105 rfl rfl (q := 106) rfl ?_
      refine aw_iconst (v := 5) C dX9_raise_106 (by decide) (q := 107) rfl ?_
      refine aw_sipush (v := 1023) C dX9_raise_107 (by decide) (q := 110) rfl ?_
      refine aw_iload C dX9_raise_110 rfl (q := 112) rfl ?_
      refine aw_iconst (v := (-1)) C dX9_raise_112 (by decide) (q := 113) rfl ?_
      refine aw_ixor C dX9_raise_113 (q := 114) rfl ?_
      refine aw_iand C dX9_raise_114 (q := 115) rfl ?_
      refine cvX9_263_9 (As := [.int 5, .int (1023 &&& ((nI i) ^^^ ((-1))))]) (rest := []) C B dX9_raise_115 K.1 (m_gradeBy G M.2.1 o md hm h1 d (J1, s.2.1, L1) K c I F (nI i) (1023 &&& (nI i ^^^ (-1))) 5 T b' (eq_bitR (nI i)) (by decide) tx) rfl rfl (Nat.le_of_ble_eq_true rfl) (by omega) (by omega) (by omega) (q := 118) rfl (fun r9 h_1 hr9 => ?_)
      obtain ⟨J2, L2, er9, K_2, q2, kpx_3⟩ := hr9
      subst er9
      have kq_4 : kp h h_1 (md_L o md) := kp_in kq kpx_3 (fun _ z => z)
      show aw G 6 M 118 [.ref o, .int g, .int k, .int (mo_rb (fun x => rz_gr I F c T x (ru_cnt T) 0) g i), .int (nI i), .int 1] [.int (rz_gr I F c T (nI i) (ru_cnt T) 0)] h_1 0 0
      refine aw_iload_n C dX9_raise_118 rfl rfl (q := 119) rfl ?_
      refine aw_icmp_ne (t := 125) (q := 122) C dX9_raise_119 (by decide) rfl (fun c_119 => ?_) (fun c_119 => ?_)
      ·
        refine aw_iinc (v := nI (i + 1)) (ls' := [.ref o, .int g, .int k, .int (mo_rb (fun x => rz_gr I F c T x (ru_cnt T) 0) g i), .int (nI (i + 1)), .int 1]) C dX9_raise_125 rfl (nI_1 i) (by decide) rfl (q := 128) rfl ?_
        refine aw_goto (q := 45) C dX9_raise_128 (by decide) ?_
        have z := ih (i + 1) h_1 J2 L2 (.int 1) (by omega) K_2 kq_4 (md_eq_tr q q2 (fun _ z => z) (fun _ z => z) (fun _ z => z))
        rw [show mo_rb (fun x => rz_gr I F c T x (ru_cnt T) 0) g (i + 1) = _ from if_neg (fun z => c_119 z.2)] at z
        exact z
      ·
        refine aw_iload C dX9_raise_122 rfl (q := 124) rfl ?_
        refine aw_istore_n (ls' := [.ref o, .int g, .int k, .int (nI i), .int (nI i), .int 1]) C dX9_raise_124 rfl (by decide) rfl (q := 125) rfl ?_
        refine aw_iinc (v := nI (i + 1)) (ls' := [.ref o, .int g, .int k, .int (nI i), .int (nI (i + 1)), .int 1]) C dX9_raise_125 rfl (nI_1 i) (by decide) rfl (q := 128) rfl ?_
        refine aw_goto (q := 45) C dX9_raise_128 (by decide) ?_
        have z := ih (i + 1) h_1 J2 L2 (.int 1) (by omega) K_2 kq_4 (md_eq_tr q q2 (fun _ z => z) (fun _ z => z) (fun _ z => z))
        rw [show mo_rb (fun x => rz_gr I F c T x (ru_cnt T) 0) g (i + 1) = _ from if_pos ⟨Or.inl c_57, c_119⟩] at z
        exact z
    ·
      refine aw_iload C dX9_raise_60 rfl (q := 62) rfl ?_
      refine csX9_279 (As := [.int (nI i)]) (rest := []) C B dX9_raise_62 (m_many G M.2.1 h1 (d + 3) (nI i)) rfl rfl (Nat.le_of_ble_eq_true rfl) (by omega) (by omega) (by omega) (q := 65) rfl (fun r9 h9 hr9 => ?_)
      obtain ⟨e9, er9⟩ := hr9
      subst er9; rw [e9]
      show aw G 6 M 65 [.ref o, .int g, .int k, .int (mo_rb (fun x => rz_gr I F c T x (ru_cnt T) 0) g i), .int (nI i), v5] [.int (nI (mo_many (nI i) 10))] h1 0 0
      refine aw_iload_n C dX9_raise_65 rfl rfl (q := 66) rfl ?_
      refine csX9_279 (As := [.int (mo_rb (fun x => rz_gr I F c T x (ru_cnt T) 0) g i)]) (rest := [.int (nI (mo_many (nI i) 10))]) C B dX9_raise_66 (m_many G M.2.1 h1 (d + 3) (mo_rb (fun x => rz_gr I F c T x (ru_cnt T) 0) g i)) rfl rfl (Nat.le_of_ble_eq_true rfl) (by omega) (by omega) (by omega) (q := 69) rfl (fun r9 h9 hr9 => ?_)
      obtain ⟨e9, er9⟩ := hr9
      subst er9; rw [e9]
      show aw G 6 M 69 [.ref o, .int g, .int k, .int (mo_rb (fun x => rz_gr I F c T x (ru_cnt T) 0) g i), .int (nI i), v5] [.int (nI (mo_many (mo_rb (fun x => rz_gr I F c T x (ru_cnt T) 0) g i) 10)), .int (nI (mo_many (nI i) 10))] h1 0 0
      refine aw_icmp_lt (t := 93) (q := 72) C dX9_raise_69 (by decide) rfl (fun c_69 => ?_) (fun c_69 => ?_)
      ·
        refine aw_iconst (v := 1) C dX9_raise_93 (by decide) (q := 94) rfl ?_
        refine aw_goto (q := 98) C dX9_raise_94 (by decide) ?_
        refine aw_istore (ls' := [.ref o, .int g, .int k, .int (mo_rb (fun x => rz_gr I F c T x (ru_cnt T) 0) g i), .int (nI i), .int 1]) C dX9_raise_98 (by decide) rfl (q := 100) rfl ?_
        refine aw_iload C dX9_raise_100 rfl (q := 102) rfl ?_
        refine aw_if_eq (t := 125) (q := 105) C dX9_raise_102 (by decide) rfl (fun c_102 => absurd c_102 (by decide)) (fun c_102 => ?_)
        refine aw_aload_n C dX9_raise_105 rfl rfl (q := 106) rfl ?_
        refine aw_iconst (v := 5) C dX9_raise_106 (by decide) (q := 107) rfl ?_
        refine aw_sipush (v := 1023) C dX9_raise_107 (by decide) (q := 110) rfl ?_
        refine aw_iload C dX9_raise_110 rfl (q := 112) rfl ?_
        refine aw_iconst (v := (-1)) C dX9_raise_112 (by decide) (q := 113) rfl ?_
        refine aw_ixor C dX9_raise_113 (q := 114) rfl ?_
        refine aw_iand C dX9_raise_114 (q := 115) rfl ?_
        refine cvX9_263_9 (As := [.int 5, .int (1023 &&& ((nI i) ^^^ ((-1))))]) (rest := []) C B dX9_raise_115 K.1 (m_gradeBy G M.2.1 o md hm h1 d (J1, s.2.1, L1) K c I F (nI i) (1023 &&& (nI i ^^^ (-1))) 5 T b' (eq_bitR (nI i)) (by decide) tx) rfl rfl (Nat.le_of_ble_eq_true rfl) (by omega) (by omega) (by omega) (q := 118) rfl (fun r9 h_5 hr9 => ?_)
        obtain ⟨J2, L2, er9, K_6, q2, kpx_7⟩ := hr9
        subst er9
        have kq_8 : kp h h_5 (md_L o md) := kp_in kq kpx_7 (fun _ z => z)
        show aw G 6 M 118 [.ref o, .int g, .int k, .int (mo_rb (fun x => rz_gr I F c T x (ru_cnt T) 0) g i), .int (nI i), .int 1] [.int (rz_gr I F c T (nI i) (ru_cnt T) 0)] h_5 0 0
        refine aw_iload_n C dX9_raise_118 rfl rfl (q := 119) rfl ?_
        refine aw_icmp_ne (t := 125) (q := 122) C dX9_raise_119 (by decide) rfl (fun c_119 => ?_) (fun c_119 => ?_)
        ·
          refine aw_iinc (v := nI (i + 1)) (ls' := [.ref o, .int g, .int k, .int (mo_rb (fun x => rz_gr I F c T x (ru_cnt T) 0) g i), .int (nI (i + 1)), .int 1]) C dX9_raise_125 rfl (nI_1 i) (by decide) rfl (q := 128) rfl ?_
          refine aw_goto (q := 45) C dX9_raise_128 (by decide) ?_
          have z := ih (i + 1) h_5 J2 L2 (.int 1) (by omega) K_6 kq_8 (md_eq_tr q q2 (fun _ z => z) (fun _ z => z) (fun _ z => z))
          rw [show mo_rb (fun x => rz_gr I F c T x (ru_cnt T) 0) g (i + 1) = _ from if_neg (fun z => c_119 z.2)] at z
          exact z
        ·
          refine aw_iload C dX9_raise_122 rfl (q := 124) rfl ?_
          refine aw_istore_n (ls' := [.ref o, .int g, .int k, .int (nI i), .int (nI i), .int 1]) C dX9_raise_124 rfl (by decide) rfl (q := 125) rfl ?_
          refine aw_iinc (v := nI (i + 1)) (ls' := [.ref o, .int g, .int k, .int (nI i), .int (nI (i + 1)), .int 1]) C dX9_raise_125 rfl (nI_1 i) (by decide) rfl (q := 128) rfl ?_
          refine aw_goto (q := 45) C dX9_raise_128 (by decide) ?_
          have z := ih (i + 1) h_5 J2 L2 (.int 1) (by omega) K_6 kq_8 (md_eq_tr q q2 (fun _ z => z) (fun _ z => z) (fun _ z => z))
          rw [show mo_rb (fun x => rz_gr I F c T x (ru_cnt T) 0) g (i + 1) = _ from if_pos ⟨Or.inr (Or.inl c_69), c_119⟩] at z
          exact z
      ·
        refine aw_iload C dX9_raise_72 rfl (q := 74) rfl ?_
        refine csX9_279 (As := [.int (nI i)]) (rest := []) C B dX9_raise_74 (m_many G M.2.1 h1 (d + 3) (nI i)) rfl rfl (Nat.le_of_ble_eq_true rfl) (by omega) (by omega) (by omega) (q := 77) rfl (fun r9 h9 hr9 => ?_)
        obtain ⟨e9, er9⟩ := hr9
        subst er9; rw [e9]
        show aw G 6 M 77 [.ref o, .int g, .int k, .int (mo_rb (fun x => rz_gr I F c T x (ru_cnt T) 0) g i), .int (nI i), v5] [.int (nI (mo_many (nI i) 10))] h1 0 0
        refine aw_iload_n C dX9_raise_77 rfl rfl (q := 78) rfl ?_
        refine csX9_279 (As := [.int (mo_rb (fun x => rz_gr I F c T x (ru_cnt T) 0) g i)]) (rest := [.int (nI (mo_many (nI i) 10))]) C B dX9_raise_78 (m_many G M.2.1 h1 (d + 3) (mo_rb (fun x => rz_gr I F c T x (ru_cnt T) 0) g i)) rfl rfl (Nat.le_of_ble_eq_true rfl) (by omega) (by omega) (by omega) (q := 81) rfl (fun r9 h9 hr9 => ?_)
        obtain ⟨e9, er9⟩ := hr9
        subst er9; rw [e9]
        show aw G 6 M 81 [.ref o, .int g, .int k, .int (mo_rb (fun x => rz_gr I F c T x (ru_cnt T) 0) g i), .int (nI i), v5] [.int (nI (mo_many (mo_rb (fun x => rz_gr I F c T x (ru_cnt T) 0) g i) 10)), .int (nI (mo_many (nI i) 10))] h1 0 0
        refine aw_icmp_ne (t := 97) (q := 84) C dX9_raise_81 (by decide) rfl (fun c_81 => ?_) (fun c_81 => ?_)
        ·
          refine aw_iconst (v := 0) C dX9_raise_97 (by decide) (q := 98) rfl ?_
          refine aw_istore (ls' := [.ref o, .int g, .int k, .int (mo_rb (fun x => rz_gr I F c T x (ru_cnt T) 0) g i), .int (nI i), .int 0]) C dX9_raise_98 (by decide) rfl (q := 100) rfl ?_
          refine aw_iload C dX9_raise_100 rfl (q := 102) rfl ?_
          refine aw_if_eq (t := 125) (q := 105) C dX9_raise_102 (by decide) rfl (fun c_102 => ?_) (fun c_102 => absurd c_102 (by decide))
          refine aw_iinc (v := nI (i + 1)) (ls' := [.ref o, .int g, .int k, .int (mo_rb (fun x => rz_gr I F c T x (ru_cnt T) 0) g i), .int (nI (i + 1)), .int 0]) C dX9_raise_125 rfl (nI_1 i) (by decide) rfl (q := 128) rfl ?_
          refine aw_goto (q := 45) C dX9_raise_128 (by decide) ?_
          have z := ih (i + 1) h1 J1 L1 (.int 0) (by omega) K kq q
          rw [show mo_rb (fun x => rz_gr I F c T x (ru_cnt T) 0) g (i + 1) = _ from if_neg (fun z => (fun z => z.elim c_57 (fun y => y.elim c_69 (fun x => c_81 x.1))) z.1)] at z
          exact z
        ·
          refine aw_iload C dX9_raise_84 rfl (q := 86) rfl ?_
          refine aw_iload_n C dX9_raise_86 rfl rfl (q := 87) rfl ?_
          refine csX9_283 (As := [.int (nI i), .int (mo_rb (fun x => rz_gr I F c T x (ru_cnt T) 0) g i)]) (rest := []) C B dX9_raise_87 (m_isFirst G M.2.1 h1 (d + 4) (nI i) (mo_rb (fun x => rz_gr I F c T x (ru_cnt T) 0) g i)) rfl rfl (Nat.le_of_ble_eq_true rfl) (by omega) (by omega) (by omega) (q := 90) rfl (fun r9 h9 hr9 => ?_)
          obtain ⟨e9, er9⟩ := hr9
          subst er9; rw [e9]
          show aw G 6 M 90 [.ref o, .int g, .int k, .int (mo_rb (fun x => rz_gr I F c T x (ru_cnt T) 0) g i), .int (nI i), v5] [.int (pb_b (¬ (nI i) &&& ((nI i) ^^^ (mo_rb (fun x => rz_gr I F c T x (ru_cnt T) 0) g i)) &&& -((nI i) ^^^ (mo_rb (fun x => rz_gr I F c T x (ru_cnt T) 0) g i)) = 0))] h1 0 0
          refine aw_if_eq (t := 97) (q := 93) C dX9_raise_90 (by decide) rfl (fun c_90 => ?_) (fun c_90 => ?_)
          ·
            refine aw_iconst (v := 0) C dX9_raise_97 (by decide) (q := 98) rfl ?_
            refine aw_istore (ls' := [.ref o, .int g, .int k, .int (mo_rb (fun x => rz_gr I F c T x (ru_cnt T) 0) g i), .int (nI i), .int 0]) C dX9_raise_98 (by decide) rfl (q := 100) rfl ?_
            refine aw_iload C dX9_raise_100 rfl (q := 102) rfl ?_
            refine aw_if_eq (t := 125) (q := 105) C dX9_raise_102 (by decide) rfl (fun c_102 => ?_) (fun c_102 => absurd c_102 (by decide))
            refine aw_iinc (v := nI (i + 1)) (ls' := [.ref o, .int g, .int k, .int (mo_rb (fun x => rz_gr I F c T x (ru_cnt T) 0) g i), .int (nI (i + 1)), .int 0]) C dX9_raise_125 rfl (nI_1 i) (by decide) rfl (q := 128) rfl ?_
            refine aw_goto (q := 45) C dX9_raise_128 (by decide) ?_
            have z := ih (i + 1) h1 J1 L1 (.int 0) (by omega) K kq q
            rw [show mo_rb (fun x => rz_gr I F c T x (ru_cnt T) 0) g (i + 1) = _ from if_neg (fun z => (fun z => z.elim c_57 (fun y => y.elim c_69 (fun x => pb_0.mp c_90 x.2))) z.1)] at z
            exact z
          ·
            refine aw_iconst (v := 1) C dX9_raise_93 (by decide) (q := 94) rfl ?_
            refine aw_goto (q := 98) C dX9_raise_94 (by decide) ?_
            refine aw_istore (ls' := [.ref o, .int g, .int k, .int (mo_rb (fun x => rz_gr I F c T x (ru_cnt T) 0) g i), .int (nI i), .int 1]) C dX9_raise_98 (by decide) rfl (q := 100) rfl ?_
            refine aw_iload C dX9_raise_100 rfl (q := 102) rfl ?_
            refine aw_if_eq (t := 125) (q := 105) C dX9_raise_102 (by decide) rfl (fun c_102 => absurd c_102 (by decide)) (fun c_102 => ?_)
            refine aw_aload_n C dX9_raise_105 rfl rfl (q := 106) rfl ?_
            refine aw_iconst (v := 5) C dX9_raise_106 (by decide) (q := 107) rfl ?_
            refine aw_sipush (v := 1023) C dX9_raise_107 (by decide) (q := 110) rfl ?_
            refine aw_iload C dX9_raise_110 rfl (q := 112) rfl ?_
            refine aw_iconst (v := (-1)) C dX9_raise_112 (by decide) (q := 113) rfl ?_
            refine aw_ixor C dX9_raise_113 (q := 114) rfl ?_
            refine aw_iand C dX9_raise_114 (q := 115) rfl ?_
            refine cvX9_263_9 (As := [.int 5, .int (1023 &&& ((nI i) ^^^ ((-1))))]) (rest := []) C B dX9_raise_115 K.1 (m_gradeBy G M.2.1 o md hm h1 d (J1, s.2.1, L1) K c I F (nI i) (1023 &&& (nI i ^^^ (-1))) 5 T b' (eq_bitR (nI i)) (by decide) tx) rfl rfl (Nat.le_of_ble_eq_true rfl) (by omega) (by omega) (by omega) (q := 118) rfl (fun r9 h_9 hr9 => ?_)
            obtain ⟨J2, L2, er9, K_10, q2, kpx_11⟩ := hr9
            subst er9
            have kq_12 : kp h h_9 (md_L o md) := kp_in kq kpx_11 (fun _ z => z)
            show aw G 6 M 118 [.ref o, .int g, .int k, .int (mo_rb (fun x => rz_gr I F c T x (ru_cnt T) 0) g i), .int (nI i), .int 1] [.int (rz_gr I F c T (nI i) (ru_cnt T) 0)] h_9 0 0
            refine aw_iload_n C dX9_raise_118 rfl rfl (q := 119) rfl ?_
            refine aw_icmp_ne (t := 125) (q := 122) C dX9_raise_119 (by decide) rfl (fun c_119 => ?_) (fun c_119 => ?_)
            ·
              refine aw_iinc (v := nI (i + 1)) (ls' := [.ref o, .int g, .int k, .int (mo_rb (fun x => rz_gr I F c T x (ru_cnt T) 0) g i), .int (nI (i + 1)), .int 1]) C dX9_raise_125 rfl (nI_1 i) (by decide) rfl (q := 128) rfl ?_
              refine aw_goto (q := 45) C dX9_raise_128 (by decide) ?_
              have z := ih (i + 1) h_9 J2 L2 (.int 1) (by omega) K_10 kq_12 (md_eq_tr q q2 (fun _ z => z) (fun _ z => z) (fun _ z => z))
              rw [show mo_rb (fun x => rz_gr I F c T x (ru_cnt T) 0) g (i + 1) = _ from if_neg (fun z => c_119 z.2)] at z
              exact z
            ·
              refine aw_iload C dX9_raise_122 rfl (q := 124) rfl ?_
              refine aw_istore_n (ls' := [.ref o, .int g, .int k, .int (nI i), .int (nI i), .int 1]) C dX9_raise_124 rfl (by decide) rfl (q := 125) rfl ?_
              refine aw_iinc (v := nI (i + 1)) (ls' := [.ref o, .int g, .int k, .int (nI i), .int (nI (i + 1)), .int 1]) C dX9_raise_125 rfl (nI_1 i) (by decide) rfl (q := 128) rfl ?_
              refine aw_goto (q := 45) C dX9_raise_128 (by decide) ?_
              have z := ih (i + 1) h_9 J2 L2 (.int 1) (by omega) K_10 kq_12 (md_eq_tr q q2 (fun _ z => z) (fun _ z => z) (fun _ z => z))
              rw [show mo_rb (fun x => rz_gr I F c T x (ru_cnt T) 0) g (i + 1) = _ from if_pos ⟨Or.inr (Or.inr ⟨c_81, pb_n c_90⟩), c_119⟩] at z
              exact z
set_option maxHeartbeats 4000000 in
set_option maxRecDepth 100000 in
theorem m_raise0 (G : ac_G) (l : Launch) (o : Nat) (md : Nat → Nat) (hm : md_inj md) (h : ac_H) (d : Nat) (s : md_S) (K : md_ok h o md s) (hr : ¬ s.1 31 = 0) (g k : Int32) (hk : gt_bl g 10 ∧ ¬ k < 0) (c : Nat) (I : Nat → Int32) (F : Nat → Nat → Int32) (T : ru_D) (b : eq_bd I F c s) (tx : eq_tx s.2.1 5 T) : ac_Met G l yX9_raise cX9_raise 6 (some .int) (d + 5) 0 0 [.ref o, .int g, .int k] h (fun r9 h9 => ∃ (J : Nat → Int32) (L : Nat → Nat → Int64), r9 = some (.int (mo_raise (fun x => rz_gr I F c T x (ru_cnt T) 0) g k c)) ∧ md_ok h9 o md (J, s.2.1, L) ∧ md_eq [0, 28, 29, 30] [] [27] s (J, s.2.1, L) ∧ J 0 = 0 ∧ kp h h9 (md_L o md)) := by
  have key : ac_Met G l yX9_raise cX9_raise 6 (some .int) (d + 5) 0 0 [.ref o, .int g, .int k] h (fun r9 h9 => ∃ (J : Nat → Int32) (L : Nat → Nat → Int64), r9 = some (.int (mo_raise (fun x => rz_gr I F c T x (ru_cnt T) 0) g k c)) ∧ md_ok h9 o md (J, s.2.1, L) ∧ md_eq [28, 29, 30] [] [27] (upd s.1 0 0, s.2.1, s.2.2) (J, s.2.1, L) ∧ kp h h9 (md_L o md)) := by
    refine ac_of (ls := [.ref o, .int g, .int k, .retAddr 0, .retAddr 0, .retAddr 0]) (by decide +kernel) rfl (Nat.le_of_ble_eq_true rfl) (fun M hl C B E hnm => ?_)
    refine aw_aload_n C dX9_raise_0 rfl rfl (q := 1) rfl ?_
    refine aw_aload_n C dX9_raise_1 rfl rfl (q := 2) rfl ?_
    refine gfX9_267_9 (v := .int (s.1 31)) C dX9_raise_2 K.1 rfl (q := 5) rfl ?_
    refine aw_if_ne (t := 12) (q := 8) C dX9_raise_5 (by decide) rfl (fun c_5 => ?_) (fun c_5 => absurd c_5 (hr))
    refine aw_iload_n C dX9_raise_12 rfl rfl (q := 13) rfl ?_
    refine csX9_276 (As := [.int g]) (rest := [.ref o]) C B dX9_raise_13 (m_isGrade G M.2.1 h (d + 4) g) rfl rfl (Nat.le_of_ble_eq_true rfl) (by omega) (by omega) (by omega) (q := 16) rfl (fun r9 h9 hr9 => ?_)
    obtain ⟨e9, er9⟩ := hr9
    subst er9; rw [e9]
    show aw G 6 M 16 [.ref o, .int g, .int k, .retAddr 0, .retAddr 0, .retAddr 0] [.int (pb_b (¬ g < 0 ∧ ¬ 9 < g)), .ref o] h 0 0
    refine aw_if_eq (t := 23) (q := 19) C dX9_raise_16 (by decide) rfl (fun c_16 => absurd c_16 (by rw [pb_t (mo_g.mpr hk.1)]; decide)) (fun c_16 => ?_)
    refine aw_iload_n C dX9_raise_19 rfl rfl (q := 20) rfl ?_
    refine aw_if_ge (t := 27) (q := 23) C dX9_raise_20 (by decide) rfl (fun c_20 => ?_) (fun c_20 => absurd c_20 (fun z => z (Int32.not_lt.mp hk.2)))
    refine aw_iconst (v := 0) C dX9_raise_27 (by decide) (q := 28) rfl ?_
    refine pfX9_89_9 C dX9_raise_28 K.1 rfl rfl (Nat.le_of_ble_eq_true rfl) (q := 31) rfl ?_
    show aw G 6 M 31 [.ref o, .int g, .int k, .retAddr 0, .retAddr 0, .retAddr 0] [] (ac_up h o (.inr (9, md_fs md ((upd s.1 0 0, s.2.1, s.2.2).1)))) 0 0
    obtain ⟨h_1, eh_1⟩ : ∃ z9, z9 = ac_up h o (.inr (9, md_fs md ((upd s.1 0 0, s.2.1, s.2.2).1))) := ⟨_, rfl⟩
    rw [← eh_1]
    have kpx_4 : kp h h_1 [o] := by rw [eh_1]; exact kp_up (kp_cons o kp_rf) _ _ (by simp)
    have K_2 : md_ok h_1 o md (upd s.1 0 0, s.2.1, s.2.2) := md_J (s := (s.1, s.2.1, s.2.2)) K (by rw [eh_1]; exact ac_up_s _ _ _) kpx_4
    have kq_3 : kp h h_1 (md_L o md) := kp_mono kpx_4 md_s0
    refine aw_aload_n C dX9_raise_31 rfl rfl (q := 32) rfl ?_
    refine gfX9_89_9 (v := .int 0) C dX9_raise_32 K_2.1 rfl (q := 35) rfl ?_
    refine aw_if_le (t := 40) (q := 38) C dX9_raise_35 (by decide) rfl (fun c_35 => ?_) (fun c_35 => absurd c_35 (by decide))
    refine aw_iconst (v := (-1)) C dX9_raise_40 (by decide) (q := 41) rfl ?_
    refine aw_istore_n (ls' := [.ref o, .int g, .int k, .int ((-1)), .retAddr 0, .retAddr 0]) C dX9_raise_41 rfl (by decide) rfl (q := 42) rfl ?_
    refine aw_iconst (v := 0) C dX9_raise_42 (by decide) (q := 43) rfl ?_
    refine aw_istore (ls' := [.ref o, .int g, .int k, .int ((-1)), .int 0, .retAddr 0]) C dX9_raise_43 (by decide) rfl (q := 45) rfl ?_
    exact ml_raise (s := (upd s.1 0 0, s.2.1, s.2.2)) hm b tx C B E (2 ^ c) 0 h_1 (upd s.1 0 0) s.2.2 _ (by omega) K_2 kq_3 md_eq_rf
  refine ac_wk key (fun r9 h9 z => ?_)
  obtain ⟨J, L, z1, z2, z3, z4⟩ := z
  exact ⟨J, L, z1, z2, md_eq_tr (md_eq_J (s1 := s) (v := 0) (j := 0) md_eq_rf (by decide)) z3 (by decide) (by decide) (by decide), z3.1 0 (by decide), z4⟩
