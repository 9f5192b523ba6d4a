theorem am_ok214_64 : am_okR am_N214 64 42 = true := by decide +kernel
theorem am_ok215_0 : am_okR am_N215 0 64 = true := by decide +kernel
theorem am_ok215_64 : am_okR am_N215 64 61 = true := by decide +kernel
theorem am_ok216_0 : am_okR am_N216 0 25 = true := by decide +kernel
theorem am_ok217_0 : am_okR am_N217 0 53 = true := by decide +kernel
theorem am_ok218_0 : am_okR am_N218 0 21 = true := by decide +kernel
