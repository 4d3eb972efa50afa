theorem zK_223_200 : gCodeF gTT gFt gCn gTb0 zR_223 200 100 = true := by decide +kernel
theorem zK_223_300 : gCodeF gTT gFt gCn gTb0 zR_223 300 100 = true := by decide +kernel
theorem zK_223_400 : gCodeF gTT gFt gCn gTb0 zR_223 400 100 = true := by decide +kernel
theorem zK_223_500 : gCodeF gTT gFt gCn gTb0 zR_223 500 100 = true := by decide +kernel
theorem zK_223_600 : gCodeF gTT gFt gCn gTb0 zR_223 600 100 = true := by decide +kernel
theorem zK_223_700 : gCodeF gTT gFt gCn gTb0 zR_223 700 100 = true := by decide +kernel
theorem zK_223_800 : gCodeF gTT gFt gCn gTb0 zR_223 800 100 = true := by decide +kernel
theorem zK_223_900 : gCodeF gTT gFt gCn gTb0 zR_223 900 100 = true := by decide +kernel
