/-! The wrappers of the law: what the tables say of them -/
theorem lk_13 : Cond.classLink RL 13 xISE ∈ ac_ws := ac_ws_in 495 (by decide +kernel) (by decide +kernel)
theorem ck_13 : Cond.castable xISE xISE ∈ ac_ws ∨ Cond.castable xISE xISE ∈ ac_nest := Or.inr (List.mem_filter.mpr ⟨List.mem_of_getElem? (i := 437) (by decide +kernel), by decide +kernel⟩)
theorem lk_15 : Cond.classLink RL 15 xIAE ∈ ac_ws := ac_ws_in 496 (by decide +kernel) (by decide +kernel)
theorem ck_15 : Cond.castable xIAE xIAE ∈ ac_ws ∨ Cond.castable xIAE xIAE ∈ ac_nest := Or.inr (List.mem_filter.mpr ⟨List.mem_of_getElem? (i := 505) (by decide +kernel), by decide +kernel⟩)
theorem lk_29 : Cond.classLink RL 29 xAIO ∈ ac_ws := ac_ws_in 613 (by decide +kernel) (by decide +kernel)
theorem ck_29 : Cond.castable xAIO xAIO ∈ ac_ws ∨ Cond.castable xAIO xAIO ∈ ac_nest := Or.inr (List.mem_filter.mpr ⟨List.mem_of_getElem? (i := 555) (by decide +kernel), by decide +kernel⟩)
theorem nc_xISE_xIAE : (xISE, xIAE) ∈ ac_nc := by decide +kernel
theorem nc_xISE_xAIO : (xISE, xAIO) ∈ ac_nc := by decide +kernel
theorem nc_xIAE_xISE : (xIAE, xISE) ∈ ac_nc := by decide +kernel
theorem nc_xIAE_xAIO : (xIAE, xAIO) ∈ ac_nc := by decide +kernel
theorem nc_xAIO_xISE : (xAIO, xISE) ∈ ac_nc := by decide +kernel
theorem nc_xAIO_xIAE : (xAIO, xIAE) ∈ ac_nc := by decide +kernel
abbrev hL_write : List (Nat × Nat × Nat × Nat) := [(0, 9, 12, 13), (0, 9, 15, 15)]
theorem kyL_write : ac_YW yL_write cL_write 4 (some .int) hL_write 3 := ⟨ac_ws_in 494 (by decide +kernel) (by decide +kernel), ac_ws_in 66 (by decide +kernel) (by decide +kernel), ⟨by decide +kernel, by decide +kernel⟩, by decide +kernel, by decide +kernel⟩
abbrev hL_edition : List (Nat × Nat × Nat × Nat) := [(0, 9, 12, 13), (0, 9, 16, 15)]
theorem kyL_edition : ac_YW yL_edition cL_edition 5 (some .int) hL_edition 3 := ⟨ac_ws_in 587 (by decide +kernel) (by decide +kernel), ac_ws_in 66 (by decide +kernel) (by decide +kernel), ⟨by decide +kernel, by decide +kernel⟩, by decide +kernel, by decide +kernel⟩
abbrev hL_board : List (Nat × Nat × Nat × Nat) := [(0, 7, 10, 15)]
theorem kyL_board : ac_YW yL_board cL_board 5 (some .int) hL_board 4 := ⟨ac_ws_in 596 (by decide +kernel) (by decide +kernel), ac_ws_in 66 (by decide +kernel) (by decide +kernel), ⟨by decide +kernel, by decide +kernel⟩, by decide +kernel, by decide +kernel⟩
abbrev hL_fault : List (Nat × Nat × Nat × Nat) := [(0, 18, 21, 29), (0, 18, 25, 13), (0, 18, 29, 15)]
theorem kyL_fault : ac_YW yL_fault cL_fault 9 (some .int) hL_fault 8 := ⟨ac_ws_in 612 (by decide +kernel) (by decide +kernel), ac_ws_in 66 (by decide +kernel) (by decide +kernel), ⟨by decide +kernel, by decide +kernel⟩, by decide +kernel, by decide +kernel⟩
abbrev hL_face : List (Nat × Nat × Nat × Nat) := [(0, 9, 12, 29)]
theorem kyL_face : ac_YW yL_face cL_face 4 (some .int) hL_face 3 := ⟨ac_ws_in 649 (by decide +kernel) (by decide +kernel), ac_ws_in 66 (by decide +kernel) (by decide +kernel), ⟨by decide +kernel, by decide +kernel⟩, by decide +kernel, by decide +kernel⟩
abbrev hL_run : List (Nat × Nat × Nat × Nat) := [(0, 9, 12, 13)]
theorem kyL_run : ac_YW yL_run cL_run 5 (some .int) hL_run 3 := ⟨ac_ws_in 660 (by decide +kernel) (by decide +kernel), ac_ws_in 66 (by decide +kernel) (by decide +kernel), ⟨by decide +kernel, by decide +kernel⟩, by decide +kernel, by decide +kernel⟩
abbrev hL_walk : List (Nat × Nat × Nat × Nat) := [(0, 9, 12, 13)]
theorem kyL_walk : ac_YW yL_walk cL_walk 5 (some .int) hL_walk 3 := ⟨ac_ws_in 730 (by decide +kernel) (by decide +kernel), ac_ws_in 66 (by decide +kernel) (by decide +kernel), ⟨by decide +kernel, by decide +kernel⟩, by decide +kernel, by decide +kernel⟩
abbrev hL_why : List (Nat × Nat × Nat × Nat) := [(0, 10, 13, 13), (0, 10, 17, 15)]
theorem kyL_why : ac_YW yL_why cL_why 5 (some .int) hL_why 4 := ⟨ac_ws_in 786 (by decide +kernel) (by decide +kernel), ac_ws_in 66 (by decide +kernel) (by decide +kernel), ⟨by decide +kernel, by decide +kernel⟩, by decide +kernel, by decide +kernel⟩
abbrev hL_open : List (Nat × Nat × Nat × Nat) := [(0, 10, 13, 29), (0, 10, 17, 15)]
theorem kyL_open : ac_YW yL_open cL_open 5 (some .int) hL_open 4 := ⟨ac_ws_in 799 (by decide +kernel) (by decide +kernel), ac_ws_in 66 (by decide +kernel) (by decide +kernel), ⟨by decide +kernel, by decide +kernel⟩, by decide +kernel, by decide +kernel⟩
abbrev hL_worst : List (Nat × Nat × Nat × Nat) := [(0, 11, 14, 15)]
theorem kyL_worst : ac_YW yL_worst cL_worst 6 (some .int) hL_worst 5 := ⟨ac_ws_in 808 (by decide +kernel) (by decide +kernel), ac_ws_in 66 (by decide +kernel) (by decide +kernel), ⟨by decide +kernel, by decide +kernel⟩, by decide +kernel, by decide +kernel⟩
abbrev hL_raise : List (Nat × Nat × Nat × Nat) := [(0, 10, 13, 13), (0, 10, 17, 15)]
theorem kyL_raise : ac_YW yL_raise cL_raise 5 (some .int) hL_raise 4 := ⟨ac_ws_in 817 (by decide +kernel) (by decide +kernel), ac_ws_in 66 (by decide +kernel) (by decide +kernel), ⟨by decide +kernel, by decide +kernel⟩, by decide +kernel, by decide +kernel⟩
abbrev hL_counted : List (Nat × Nat × Nat × Nat) := [(0, 8, 11, 15)]
theorem kyL_counted : ac_YW yL_counted cL_counted 4 (some .int) hL_counted 3 := ⟨ac_ws_in 849 (by decide +kernel) (by decide +kernel), ac_ws_in 66 (by decide +kernel) (by decide +kernel), ⟨by decide +kernel, by decide +kernel⟩, by decide +kernel, by decide +kernel⟩
abbrev hL_machine : List (Nat × Nat × Nat × Nat) := [(0, 10, 13, 15)]
theorem kyL_machine : ac_YW yL_machine cL_machine 5 (some .int) hL_machine 4 := ⟨ac_ws_in 857 (by decide +kernel) (by decide +kernel), ac_ws_in 66 (by decide +kernel) (by decide +kernel), ⟨by decide +kernel, by decide +kernel⟩, by decide +kernel, by decide +kernel⟩
