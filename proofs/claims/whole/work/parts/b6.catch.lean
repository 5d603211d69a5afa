/-! Which handler takes which throw -/
theorem ca_write1 {M : ac_M} (ht : (ac_Co M).exceptionTable.toList = tableOf hL_write) : ac_Ca RL M 4 xISE 12 := ⟨[], _, _, xISE, ht, fun z hz => (by cases hz), by decide, by decide, lk_13, ck_13, rfl⟩
theorem ca_write2 {M : ac_M} (ht : (ac_Co M).exceptionTable.toList = tableOf hL_write) : ac_Ca RL M 4 xIAE 15 := ⟨(tableOf hL_write).take 1, _, _, xIAE, ht, fun z hz => Or.inr (by
  rw [List.mem_singleton.mp hz]
  exact ⟨by decide, xISE, lk_13, nc_xIAE_xISE⟩), by decide, by decide, lk_15, ck_15, rfl⟩
