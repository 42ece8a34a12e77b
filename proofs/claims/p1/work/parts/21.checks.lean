theorem mOk_g15 : [mm90, mm91, mm92, mm93, mm94, mm95].all mOkM = true := by decide +kernel
theorem mOk_g16 : [mm96, mm97, mm98, mm99, mm100, mm101].all mOkM = true := by decide +kernel
theorem mOk_g17 : [mm102, mm103, mm104, mm105, mm106, mm107].all mOkM = true := by decide +kernel
theorem mOk_g18 : [mm108, mm109, mm110, mm111, mm112, mm113].all mOkM = true := by decide +kernel
theorem mOk_g19 : [mm114, mm115, mm116, mm117, mm118, mm119].all mOkM = true := by decide +kernel
theorem mOk_g20 : [mm120, mm121, mm122, mm123, mm124, mm125].all mOkM = true := by decide +kernel
theorem mOk_g21 : [mm126, mm127, mm128, mm129, mm130, mm131].all mOkM = true := by decide +kernel
theorem mOk_g22 : [mm132, mm133, mm134, mm135, mm136, mm137].all mOkM = true := by decide +kernel
theorem mOk_g23 : [mm138, mm139, mm140, mm141, mm142, mm143].all mOkM = true := by decide +kernel
theorem mOk_g24 : [mm144, mm145, mm146, mm147, mm148, mm149].all mOkM = true := by decide +kernel
theorem mOk_g25 : [mm150, mm151, mm152, mm153, mm154, mm155].all mOkM = true := by decide +kernel
theorem mOk_g26 : [mm156, mm157, mm158, mm159, mm160, mm161].all mOkM = true := by decide +kernel
theorem mOk_g27 : [mm162].all mOkM = true := by decide +kernel
theorem mOk_gX : mOkM mmX = true := by decide +kernel
