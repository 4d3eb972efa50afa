theorem zK_223_1000 : gCodeF gTT gFt gCn gTb0 zR_223 1000 100 = true := by decide +kernel
theorem zK_223_1100 : gCodeF gTT gFt gCn gTb0 zR_223 1100 100 = true := by decide +kernel
theorem zK_223_1200 : gCodeF gTT gFt gCn gTb0 zR_223 1200 100 = true := by decide +kernel
theorem zK_223_1300 : gCodeF gTT gFt gCn gTb0 zR_223 1300 100 = true := by decide +kernel
theorem zK_223_1400 : gCodeF gTT gFt gCn gTb0 zR_223 1400 100 = true := by decide +kernel
theorem zK_223_1500 : gCodeF gTT gFt gCn gTb0 zR_223 1500 107 = true := by decide +kernel
