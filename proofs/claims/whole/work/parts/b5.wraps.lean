/-! The wrappers of the law: what the tables say of them -/
theorem lk_13 : Cond.classLink RL 13 xISE ∈ ac_ws := ac_ws_in 495 (by decide +kernel) (by decide +kernel)
theorem ck_13 : Cond.castable xISE xISE ∈ ac_ws ∨ Cond.castable xISE xISE ∈ ac_nest := Or.inr (List.mem_filter.mpr ⟨List.mem_of_getElem? (i := 437) (by decide +kernel), by decide +kernel⟩)
theorem lk_15 : Cond.classLink RL 15 xIAE ∈ ac_ws := ac_ws_in 496 (by decide +kernel) (by decide +kernel)
theorem ck_15 : Cond.castable xIAE xIAE ∈ ac_ws ∨ Cond.castable xIAE xIAE ∈ ac_nest := Or.inr (List.mem_filter.mpr ⟨List.mem_of_getElem? (i := 505) (by decide +kernel), by decide +kernel⟩)
theorem lk_29 : Cond.classLink RL 29 xAIO ∈ ac_ws := ac_ws_in 613 (by decide +kernel) (by decide +kernel)
theorem ck_29 : Cond.castable xAIO xAIO ∈ ac_ws ∨ Cond.castable xAIO xAIO ∈ ac_nest := Or.inr (List.mem_filter.mpr ⟨List.mem_of_getElem? (i := 555) (by decide +kernel), by decide +kernel⟩)
