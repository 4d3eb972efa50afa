theorem zK_123_800 : gCodeF gTT gFt gCn gTb0 zR_123 800 100 = true := by decide +kernel
theorem zK_123_900 : gCodeF gTT gFt gCn gTb0 zR_123 900 76 = true := by decide +kernel
theorem zK_201_0 : gCodeF gTT gFt gCn gTb0 zR_201 0 100 = true := by decide +kernel
theorem zK_201_100 : gCodeF gTT gFt gCn gTb0 zR_201 100 100 = true := by decide +kernel
theorem zK_201_200 : gCodeF gTT gFt gCn gTb0 zR_201 200 100 = true := by decide +kernel
theorem zK_201_300 : gCodeF gTT gFt gCn gTb0 zR_201 300 56 = true := by decide +kernel
theorem zK_223_0 : gCodeF gTT gFt gCn gTb0 zR_223 0 100 = true := by decide +kernel
theorem zK_223_100 : gCodeF gTT gFt gCn gTb0 zR_223 100 100 = true := by decide +kernel
