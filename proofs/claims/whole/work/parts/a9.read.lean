/-! Calls: read -/
section
variable {h : ac_H} {ad : Nat → Nat} {o : Nat} {md : Nat → Nat} {n : Nat} {s : md_S}
theorem gc_some {la : Option Nat} {ec : Nat} {E : Nat → Option Nat} {dy : Nat → Int64} {I : Nat → Int32} {F : Nat → Nat → Int32} {c len : Nat} {f D : Nat → Int32} {v0 : Option Nat} {oc rc : Nat} {O : Nat → Nat → Int32} {ra : Nat} {chg : Int32} {gg pk : Nat → Int32} {W : Nat → Int64} {B : Nat → Int32} (K : gc h ad la ec E dy I F c len f D v0 oc rc O ra chg gg pk W B) : ∀ i, i < 26 → ∃ e, h (ad i) = some e := by
  obtain ⟨k0, k1, ⟨a, v4, k8⟩, k9, k10, ⟨sk, hd, ca, k11⟩, ⟨u, m, a2, op, k13⟩, k14, k19, k22, k23, k24, k25⟩ := K
  intro i hi
  by_cases z : 2 ≤ i ∧ i < 8
  · have := k1.2.1 (i + 3) (by omega) (by omega)
    rw [show pA ad (i + 3) = ad i from rfl] at this
    exact ⟨_, this⟩
  by_cases y : 15 ≤ i ∧ i < 19
  · exact ⟨_, k14.2 i y.1 y.2⟩
  rcases (show i = 0 ∨ i = 1 ∨ i = 8 ∨ i = 9 ∨ i = 10 ∨ i = 11 ∨ i = 12 ∨ i = 13 ∨ i = 14 ∨ i = 19 ∨ i = 20 ∨ i = 21 ∨ i = 22 ∨ i = 23 ∨ i = 24 ∨ i = 25 by omega) with rfl | rfl | rfl | rfl | rfl | rfl | rfl | rfl | rfl | rfl | rfl | rfl | rfl | rfl | rfl | rfl
  · exact ⟨_, k0⟩
  · exact ⟨_, k1.1⟩
  · exact ⟨_, k8⟩
  · exact ⟨_, k9⟩
  · exact ⟨_, k10⟩
  · exact ⟨_, k11.1⟩
  · exact ⟨_, k11.2.1⟩
  · exact ⟨_, k13⟩
  · exact ⟨_, k14.1⟩
  · exact ⟨_, k19.1⟩
  · exact ⟨_, k19.2.1⟩
  · exact ⟨_, k19.2.2⟩
  · exact ⟨_, k22⟩
  · exact ⟨_, k23⟩
  · exact ⟨_, k24⟩
  · exact ⟨_, k25⟩
theorem md_some (K : md_ok h o md s) : ∀ x ∈ md_L o md, ∃ e, h x = some e := by
  intro x hx
  rcases List.mem_cons.mp hx with rfl | hx
  · exact ⟨_, K.1⟩
  · obtain ⟨j, hj, rfl⟩ := List.mem_map.mp hx
    rcases List.mem_append.mp hj with z | z
    · exact ⟨_, K.2.1 j z⟩
    · exact ⟨_, K.2.2 j z⟩
theorem gc_0 {h1 : ac_H} {la la' : Option Nat} {ec : Nat} {E : Nat → Option Nat} {dy : Nat → Int64} {I : Nat → Int32} {F : Nat → Nat → Int32} {c len len' : Nat} {f D f' D' : Nat → Int32} {v0 : Option Nat} {oc rc : Nat} {O : Nat → Nat → Int32} {ra : Nat} {chg : Int32} {gg pk : Nat → Int32} {W : Nat → Int64} {B : Nat → Int32} (an : inj ad 26) (K : gc h ad la ec E dy I F c len f D v0 oc rc O ra chg gg pk W B) (kq : kp h h1 ([8, 10, 0].map ad)) (p0 : h1 (ad 0) = some (.inr (8, gt_fs ad (va_rf la') ec))) (p8 : ∃ a v4, h1 (ad 8) = some (cu_ob 3 (ad 9) len' a (.ref (ad 10)) v4)) (p9 : h1 (ad 9) = some (.inl (0, 300, .inl f'))) (p10 : h1 (ad 10) = some (.inl (3, 300, .inl D'))) : gc h1 ad la' ec E dy I F c len' f' D' v0 oc rc O ra chg gg pk W B := by
  obtain ⟨k0, k1, ⟨a, v4, k8⟩, k9, k10, ⟨sk, hd, ca, k11⟩, ⟨u, n, a2, op, k13⟩, k14, k19, k22, k23, k24, k25⟩ := K
  have nn : ∀ i, i < 26 → (¬ i = 0 ∧ ¬ i = 8 ∧ ¬ i = 10) → ad i ∉ [8, 10, 0].map ad := fun i hi h0 => ni_ad an (by omega) (fun x hx => by
    simp only [List.mem_cons, List.not_mem_nil, or_false] at hx
    omega)
  exact ⟨p0, ⟨kq _ _ k1.1 (nn 1 (by decide) (by decide)), fun j j1 j2 => kq _ _ (k1.2.1 j j1 j2) (nn (j - 3) (by omega) (by omega)), k1.2.2⟩, p8, p9, p10, ⟨sk, hd, ca, kq _ _ k11.1 (nn 11 (by decide) (by decide)), kq _ _ k11.2.1 (nn 12 (by decide) (by decide)), k11.2.2⟩, ⟨u, n, a2, op, kq _ _ k13 (nn 13 (by decide) (by decide))⟩, ⟨kq _ _ k14.1 (nn 14 (by decide) (by decide)), fun j j1 j2 => kq _ _ (k14.2 j j1 j2) (nn j (by omega) (by omega))⟩, ⟨kq _ _ k19.1 (nn 19 (by decide) (by decide)), kq _ _ k19.2.1 (nn 20 (by decide) (by decide)), kq _ _ k19.2.2 (nn 21 (by decide) (by decide))⟩, kq _ _ k22 (nn 22 (by decide) (by decide)), kq _ _ k23 (nn 23 (by decide) (by decide)), kq _ _ k24 (nn 24 (by decide) (by decide)), kq _ _ k25 (nn 25 (by decide) (by decide))⟩
end
