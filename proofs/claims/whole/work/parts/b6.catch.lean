/-! Which handler takes which throw -/
theorem ca_write1 {M : ac_M} (ht : (ac_Co M).exceptionTable.toList = tableOf hL_write) : ac_Ca RL M 4 xISE 12 := ⟨[], _, _, xISE, ht, fun z hz => (by cases hz), by decide, by decide, lk_13, ck_13, rfl⟩
theorem ca_write2 {M : ac_M} (ht : (ac_Co M).exceptionTable.toList = tableOf hL_write) : ac_Ca RL M 4 xIAE 15 := ⟨(tableOf hL_write).take 1, _, _, xIAE, ht, fun z hz => Or.inr (by
  rw [List.mem_singleton.mp hz]
  exact ⟨by decide, xISE, lk_13, nc_xIAE_xISE⟩), by decide, by decide, lk_15, ck_15, rfl⟩
theorem ca_edition1 {M : ac_M} (ht : (ac_Co M).exceptionTable.toList = tableOf hL_edition) : ac_Ca RL M 4 xISE 12 := ⟨[], _, _, xISE, ht, fun z hz => (by cases hz), by decide, by decide, lk_13, ck_13, rfl⟩
theorem ca_edition2 {M : ac_M} (ht : (ac_Co M).exceptionTable.toList = tableOf hL_edition) : ac_Ca RL M 4 xIAE 16 := ⟨(tableOf hL_edition).take 1, _, _, xIAE, ht, fun z hz => Or.inr (by
  rw [List.mem_singleton.mp hz]
  exact ⟨by decide, xISE, lk_13, nc_xIAE_xISE⟩), by decide, by decide, lk_15, ck_15, rfl⟩
theorem ca_board1 {M : ac_M} (ht : (ac_Co M).exceptionTable.toList = tableOf hL_board) : ac_Ca RL M 4 xIAE 10 := ⟨[], _, _, xIAE, ht, fun z hz => (by cases hz), by decide, by decide, lk_15, ck_15, rfl⟩
theorem ca_fault1 {M : ac_M} (ht : (ac_Co M).exceptionTable.toList = tableOf hL_fault) : ac_Ca RL M 13 xAIO 21 := ⟨[], _, _, xAIO, ht, fun z hz => (by cases hz), by decide, by decide, lk_29, ck_29, rfl⟩
theorem ca_fault2 {M : ac_M} (ht : (ac_Co M).exceptionTable.toList = tableOf hL_fault) : ac_Ca RL M 13 xISE 25 := ⟨(tableOf hL_fault).take 1, _, _, xISE, ht, fun z hz => Or.inr (by
  rw [List.mem_singleton.mp hz]
  exact ⟨by decide, xAIO, lk_29, nc_xISE_xAIO⟩), by decide, by decide, lk_13, ck_13, rfl⟩
theorem ca_fault3 {M : ac_M} (ht : (ac_Co M).exceptionTable.toList = tableOf hL_fault) : ac_Ca RL M 13 xIAE 29 := ⟨(tableOf hL_fault).take 2, _, _, xIAE, ht, fun z hz => Or.inr (by
  rcases List.mem_cons.mp hz with rfl | hz
  · exact ⟨by decide, xAIO, lk_29, nc_xIAE_xAIO⟩
  · rw [List.mem_singleton.mp hz]
    exact ⟨by decide, xISE, lk_13, nc_xIAE_xISE⟩), by decide, by decide, lk_15, ck_15, rfl⟩
theorem ca_face1 {M : ac_M} (ht : (ac_Co M).exceptionTable.toList = tableOf hL_face) : ac_Ca RL M 4 xAIO 12 := ⟨[], _, _, xAIO, ht, fun z hz => (by cases hz), by decide, by decide, lk_29, ck_29, rfl⟩
theorem ca_run1 {M : ac_M} (ht : (ac_Co M).exceptionTable.toList = tableOf hL_run) : ac_Ca RL M 4 xISE 12 := ⟨[], _, _, xISE, ht, fun z hz => (by cases hz), by decide, by decide, lk_13, ck_13, rfl⟩
theorem ca_walk1 {M : ac_M} (ht : (ac_Co M).exceptionTable.toList = tableOf hL_walk) : ac_Ca RL M 4 xISE 12 := ⟨[], _, _, xISE, ht, fun z hz => (by cases hz), by decide, by decide, lk_13, ck_13, rfl⟩
theorem ca_why1 {M : ac_M} (ht : (ac_Co M).exceptionTable.toList = tableOf hL_why) : ac_Ca RL M 5 xISE 13 := ⟨[], _, _, xISE, ht, fun z hz => (by cases hz), by decide, by decide, lk_13, ck_13, rfl⟩
theorem ca_why2 {M : ac_M} (ht : (ac_Co M).exceptionTable.toList = tableOf hL_why) : ac_Ca RL M 5 xIAE 17 := ⟨(tableOf hL_why).take 1, _, _, xIAE, ht, fun z hz => Or.inr (by
  rw [List.mem_singleton.mp hz]
  exact ⟨by decide, xISE, lk_13, nc_xIAE_xISE⟩), by decide, by decide, lk_15, ck_15, rfl⟩
theorem ca_open1 {M : ac_M} (ht : (ac_Co M).exceptionTable.toList = tableOf hL_open) : ac_Ca RL M 5 xAIO 13 := ⟨[], _, _, xAIO, ht, fun z hz => (by cases hz), by decide, by decide, lk_29, ck_29, rfl⟩
theorem ca_open2 {M : ac_M} (ht : (ac_Co M).exceptionTable.toList = tableOf hL_open) : ac_Ca RL M 5 xIAE 17 := ⟨(tableOf hL_open).take 1, _, _, xIAE, ht, fun z hz => Or.inr (by
  rw [List.mem_singleton.mp hz]
  exact ⟨by decide, xAIO, lk_29, nc_xIAE_xAIO⟩), by decide, by decide, lk_15, ck_15, rfl⟩
theorem ca_worst1 {M : ac_M} (ht : (ac_Co M).exceptionTable.toList = tableOf hL_worst) : ac_Ca RL M 7 xIAE 14 := ⟨[], _, _, xIAE, ht, fun z hz => (by cases hz), by decide, by decide, lk_15, ck_15, rfl⟩
theorem ca_raise1 {M : ac_M} (ht : (ac_Co M).exceptionTable.toList = tableOf hL_raise) : ac_Ca RL M 5 xISE 13 := ⟨[], _, _, xISE, ht, fun z hz => (by cases hz), by decide, by decide, lk_13, ck_13, rfl⟩
theorem ca_raise2 {M : ac_M} (ht : (ac_Co M).exceptionTable.toList = tableOf hL_raise) : ac_Ca RL M 5 xIAE 17 := ⟨(tableOf hL_raise).take 1, _, _, xIAE, ht, fun z hz => Or.inr (by
  rw [List.mem_singleton.mp hz]
  exact ⟨by decide, xISE, lk_13, nc_xIAE_xISE⟩), by decide, by decide, lk_15, ck_15, rfl⟩
theorem ca_counted1 {M : ac_M} (ht : (ac_Co M).exceptionTable.toList = tableOf hL_counted) : ac_Ca RL M 4 xIAE 11 := ⟨[], _, _, xIAE, ht, fun z hz => (by cases hz), by decide, by decide, lk_15, ck_15, rfl⟩
theorem ca_machine1 {M : ac_M} (ht : (ac_Co M).exceptionTable.toList = tableOf hL_machine) : ac_Ca RL M 5 xIAE 13 := ⟨[], _, _, xIAE, ht, fun z hz => (by cases hz), by decide, by decide, lk_15, ck_15, rfl⟩
