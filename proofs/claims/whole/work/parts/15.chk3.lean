theorem zM_146 : ∃ w, gMet gTT gCn zR_146 w = true := ⟨(966, 61, 965, 25), by decide +kernel⟩
theorem zK_147 : gCode gTT gFt gCn gTb0 zR_147 = true := by decide +kernel
theorem zW_147 : (Jvm.Cond.code zR_147.1.1 zR_147.1.2.1 zR_147.1.2.2.1 zR_147.1.2.2.2) ∈ gW := List.mem_filter.mpr ⟨List.mem_of_getElem? (i := 959) (by decide +kernel), rfl⟩
theorem zM_147 : ∃ w, gMet gTT gCn zR_147 w = true := ⟨(959, 61, 957, 958), by decide +kernel⟩
theorem zK_148 : gCode gTT gFt gCn gTb0 zR_148 = true := by decide +kernel
theorem zW_148 : (Jvm.Cond.code zR_148.1.1 zR_148.1.2.1 zR_148.1.2.2.1 zR_148.1.2.2.2) ∈ gW := List.mem_filter.mpr ⟨List.mem_of_getElem? (i := 975) (by decide +kernel), rfl⟩
theorem zM_148 : ∃ w, gMet gTT gCn zR_148 w = true := ⟨(975, 61, 974, 26), by decide +kernel⟩
theorem zK_149 : gCode gTT gFt gCn gTb0 zR_149 = true := by decide +kernel
theorem zW_149 : (Jvm.Cond.code zR_149.1.1 zR_149.1.2.1 zR_149.1.2.2.1 zR_149.1.2.2.2) ∈ gW := List.mem_filter.mpr ⟨List.mem_of_getElem? (i := 970) (by decide +kernel), rfl⟩
theorem zM_149 : ∃ w, gMet gTT gCn zR_149 w = true := ⟨(970, 61, 968, 969), by decide +kernel⟩
theorem zK_150 : gCode gTT gFt gCn gTb0 zR_150 = true := by decide +kernel
theorem zW_150 : (Jvm.Cond.code zR_150.1.1 zR_150.1.2.1 zR_150.1.2.2.1 zR_150.1.2.2.2) ∈ gW := List.mem_filter.mpr ⟨List.mem_of_getElem? (i := 990) (by decide +kernel), rfl⟩
theorem zM_150 : ∃ w, gMet gTT gCn zR_150 w = true := ⟨(990, 61, 988, 989), by decide +kernel⟩
theorem zK_151 : gCode gTT gFt gCn gTb0 zR_151 = true := by decide +kernel
theorem zW_151 : (Jvm.Cond.code zR_151.1.1 zR_151.1.2.1 zR_151.1.2.2.1 zR_151.1.2.2.2) ∈ gW := List.mem_filter.mpr ⟨List.mem_of_getElem? (i := 994) (by decide +kernel), rfl⟩
theorem zM_151 : ∃ w, gMet gTT gCn zR_151 w = true := ⟨(994, 61, 992, 993), by decide +kernel⟩
theorem zK_152 : gCode gTT gFt gCn gTb0 zR_152 = true := by decide +kernel
theorem zW_152 : (Jvm.Cond.code zR_152.1.1 zR_152.1.2.1 zR_152.1.2.2.1 zR_152.1.2.2.2) ∈ gW := List.mem_filter.mpr ⟨List.mem_of_getElem? (i := 1002) (by decide +kernel), rfl⟩
theorem zM_152 : ∃ w, gMet gTT gCn zR_152 w = true := ⟨(1002, 61, 1001, 29), by decide +kernel⟩
theorem zK_153 : gCode gTT gFt gCn gTb0 zR_153 = true := by decide +kernel
theorem zW_153 : (Jvm.Cond.code zR_153.1.1 zR_153.1.2.1 zR_153.1.2.2.1 zR_153.1.2.2.2) ∈ gW := List.mem_filter.mpr ⟨List.mem_of_getElem? (i := 998) (by decide +kernel), rfl⟩
theorem zM_153 : ∃ w, gMet gTT gCn zR_153 w = true := ⟨(998, 61, 996, 997), by decide +kernel⟩
theorem zK_154 : gCode gTT gFt gCn gTb0 zR_154 = true := by decide +kernel
theorem zW_154 : (Jvm.Cond.code zR_154.1.1 zR_154.1.2.1 zR_154.1.2.2.1 zR_154.1.2.2.2) ∈ gW := List.mem_filter.mpr ⟨List.mem_of_getElem? (i := 1006) (by decide +kernel), rfl⟩
theorem zM_154 : ∃ w, gMet gTT gCn zR_154 w = true := ⟨(1006, 61, 1004, 1005), by decide +kernel⟩
theorem zK_155 : gCode gTT gFt gCn gTb0 zR_155 = true := by decide +kernel
theorem zW_155 : (Jvm.Cond.code zR_155.1.1 zR_155.1.2.1 zR_155.1.2.2.1 zR_155.1.2.2.2) ∈ gW := List.mem_filter.mpr ⟨List.mem_of_getElem? (i := 1014) (by decide +kernel), rfl⟩
theorem zM_155 : ∃ w, gMet gTT gCn zR_155 w = true := ⟨(1014, 61, 1012, 1013), by decide +kernel⟩
theorem zK_156 : gCode gTT gFt gCn gTb0 zR_156 = true := by decide +kernel
theorem zW_156 : (Jvm.Cond.code zR_156.1.1 zR_156.1.2.1 zR_156.1.2.2.1 zR_156.1.2.2.2) ∈ gW := List.mem_filter.mpr ⟨List.mem_of_getElem? (i := 1021) (by decide +kernel), rfl⟩
theorem zM_156 : ∃ w, gMet gTT gCn zR_156 w = true := ⟨(1021, 61, 1019, 1020), by decide +kernel⟩
theorem zK_157 : gCode gTT gFt gCn gTb0 zR_157 = true := by decide +kernel
theorem zW_157 : (Jvm.Cond.code zR_157.1.1 zR_157.1.2.1 zR_157.1.2.2.1 zR_157.1.2.2.2) ∈ gW := List.mem_filter.mpr ⟨List.mem_of_getElem? (i := 1025) (by decide +kernel), rfl⟩
theorem zM_157 : ∃ w, gMet gTT gCn zR_157 w = true := ⟨(1025, 61, 1023, 1024), by decide +kernel⟩
theorem zK_158 : gCode gTT gFt gCn gTb0 zR_158 = true := by decide +kernel
theorem zW_158 : (Jvm.Cond.code zR_158.1.1 zR_158.1.2.1 zR_158.1.2.2.1 zR_158.1.2.2.2) ∈ gW := List.mem_filter.mpr ⟨List.mem_of_getElem? (i := 1029) (by decide +kernel), rfl⟩
theorem zM_158 : ∃ w, gMet gTT gCn zR_158 w = true := ⟨(1029, 61, 1027, 1028), by decide +kernel⟩
theorem zK_159 : gCode gTT gFt gCn gTb0 zR_159 = true := by decide +kernel
theorem zW_159 : (Jvm.Cond.code zR_159.1.1 zR_159.1.2.1 zR_159.1.2.2.1 zR_159.1.2.2.2) ∈ gW := List.mem_filter.mpr ⟨List.mem_of_getElem? (i := 1033) (by decide +kernel), rfl⟩
theorem zM_159 : ∃ w, gMet gTT gCn zR_159 w = true := ⟨(1033, 61, 1031, 1032), by decide +kernel⟩
theorem zK_160 : gCode gTT gFt gCn gTb0 zR_160 = true := by decide +kernel
theorem zW_160 : (Jvm.Cond.code zR_160.1.1 zR_160.1.2.1 zR_160.1.2.2.1 zR_160.1.2.2.2) ∈ gW := List.mem_filter.mpr ⟨List.mem_of_getElem? (i := 1045) (by decide +kernel), rfl⟩
theorem zM_160 : ∃ w, gMet gTT gCn zR_160 w = true := ⟨(1045, 61, 1044, 32), by decide +kernel⟩
theorem zK_161 : gCode gTT gFt gCn gTb0 zR_161 = true := by decide +kernel
theorem zW_161 : (Jvm.Cond.code zR_161.1.1 zR_161.1.2.1 zR_161.1.2.2.1 zR_161.1.2.2.2) ∈ gW := List.mem_filter.mpr ⟨List.mem_of_getElem? (i := 1041) (by decide +kernel), rfl⟩
theorem zM_161 : ∃ w, gMet gTT gCn zR_161 w = true := ⟨(1041, 61, 1040, 31), by decide +kernel⟩
theorem zK_162 : gCode gTT gFt gCn gTb0 zR_162 = true := by decide +kernel
theorem zW_162 : (Jvm.Cond.code zR_162.1.1 zR_162.1.2.1 zR_162.1.2.2.1 zR_162.1.2.2.2) ∈ gW := List.mem_filter.mpr ⟨List.mem_of_getElem? (i := 1037) (by decide +kernel), rfl⟩
theorem zM_162 : ∃ w, gMet gTT gCn zR_162 w = true := ⟨(1037, 61, 1035, 1036), by decide +kernel⟩
theorem zK_163 : gCode gTT gFt gCn gTb0 zR_163 = true := by decide +kernel
theorem zW_163 : (Jvm.Cond.code zR_163.1.1 zR_163.1.2.1 zR_163.1.2.2.1 zR_163.1.2.2.2) ∈ gW := List.mem_filter.mpr ⟨List.mem_of_getElem? (i := 1049) (by decide +kernel), rfl⟩
theorem zM_163 : ∃ w, gMet gTT gCn zR_163 w = true := ⟨(1049, 61, 1047, 1048), by decide +kernel⟩
theorem zK_164 : gCode gTT gFt gCn gTb0 zR_164 = true := by decide +kernel
theorem zW_164 : (Jvm.Cond.code zR_164.1.1 zR_164.1.2.1 zR_164.1.2.2.1 zR_164.1.2.2.2) ∈ gW := List.mem_filter.mpr ⟨List.mem_of_getElem? (i := 1053) (by decide +kernel), rfl⟩
theorem zM_164 : ∃ w, gMet gTT gCn zR_164 w = true := ⟨(1053, 61, 1051, 1052), by decide +kernel⟩
theorem zK_165 : gCode gTT gFt gCn gTb0 zR_165 = true := by decide +kernel
theorem zW_165 : (Jvm.Cond.code zR_165.1.1 zR_165.1.2.1 zR_165.1.2.2.1 zR_165.1.2.2.2) ∈ gW := List.mem_filter.mpr ⟨List.mem_of_getElem? (i := 1057) (by decide +kernel), rfl⟩
theorem zM_165 : ∃ w, gMet gTT gCn zR_165 w = true := ⟨(1057, 61, 1055, 1056), by decide +kernel⟩
theorem zK_166 : gCode gTT gFt gCn gTb0 zR_166 = true := by decide +kernel
theorem zW_166 : (Jvm.Cond.code zR_166.1.1 zR_166.1.2.1 zR_166.1.2.2.1 zR_166.1.2.2.2) ∈ gW := List.mem_filter.mpr ⟨List.mem_of_getElem? (i := 1080) (by decide +kernel), rfl⟩
theorem zM_166 : ∃ w, gMet gTT gCn zR_166 w = true := ⟨(1080, 61, 1079, 36), by decide +kernel⟩
theorem zK_167 : gCode gTT gFt gCn gTb0 zR_167 = true := by decide +kernel
theorem zW_167 : (Jvm.Cond.code zR_167.1.1 zR_167.1.2.1 zR_167.1.2.2.1 zR_167.1.2.2.2) ∈ gW := List.mem_filter.mpr ⟨List.mem_of_getElem? (i := 1073) (by decide +kernel), rfl⟩
theorem zM_167 : ∃ w, gMet gTT gCn zR_167 w = true := ⟨(1073, 61, 1072, 35), by decide +kernel⟩
theorem zK_168 : gCode gTT gFt gCn gTb0 zR_168 = true := by decide +kernel
theorem zW_168 : (Jvm.Cond.code zR_168.1.1 zR_168.1.2.1 zR_168.1.2.2.1 zR_168.1.2.2.2) ∈ gW := List.mem_filter.mpr ⟨List.mem_of_getElem? (i := 1069) (by decide +kernel), rfl⟩
theorem zM_168 : ∃ w, gMet gTT gCn zR_168 w = true := ⟨(1069, 61, 1068, 34), by decide +kernel⟩
theorem zK_169 : gCode gTT gFt gCn gTb0 zR_169 = true := by decide +kernel
theorem zW_169 : (Jvm.Cond.code zR_169.1.1 zR_169.1.2.1 zR_169.1.2.2.1 zR_169.1.2.2.2) ∈ gW := List.mem_filter.mpr ⟨List.mem_of_getElem? (i := 1065) (by decide +kernel), rfl⟩
theorem zM_169 : ∃ w, gMet gTT gCn zR_169 w = true := ⟨(1065, 61, 1064, 33), by decide +kernel⟩
theorem zK_170 : gCode gTT gFt gCn gTb0 zR_170 = true := by decide +kernel
theorem zW_170 : (Jvm.Cond.code zR_170.1.1 zR_170.1.2.1 zR_170.1.2.2.1 zR_170.1.2.2.2) ∈ gW := List.mem_filter.mpr ⟨List.mem_of_getElem? (i := 1061) (by decide +kernel), rfl⟩
theorem zM_170 : ∃ w, gMet gTT gCn zR_170 w = true := ⟨(1061, 61, 1059, 1060), by decide +kernel⟩
theorem zK_171 : gCode gTT gFt gCn gTb0 zR_171 = true := by decide +kernel
theorem zW_171 : (Jvm.Cond.code zR_171.1.1 zR_171.1.2.1 zR_171.1.2.2.1 zR_171.1.2.2.2) ∈ gW := List.mem_filter.mpr ⟨List.mem_of_getElem? (i := 1084) (by decide +kernel), rfl⟩
theorem zM_171 : ∃ w, gMet gTT gCn zR_171 w = true := ⟨(1084, 61, 1082, 1083), by decide +kernel⟩
theorem zK_172 : gCode gTT gFt gCn gTb0 zR_172 = true := by decide +kernel
theorem zW_172 : (Jvm.Cond.code zR_172.1.1 zR_172.1.2.1 zR_172.1.2.2.1 zR_172.1.2.2.2) ∈ gW := List.mem_filter.mpr ⟨List.mem_of_getElem? (i := 1088) (by decide +kernel), rfl⟩
theorem zM_172 : ∃ w, gMet gTT gCn zR_172 w = true := ⟨(1088, 61, 1086, 1087), by decide +kernel⟩
theorem zK_173 : gCode gTT gFt gCn gTb0 zR_173 = true := by decide +kernel
theorem zW_173 : (Jvm.Cond.code zR_173.1.1 zR_173.1.2.1 zR_173.1.2.2.1 zR_173.1.2.2.2) ∈ gW := List.mem_filter.mpr ⟨List.mem_of_getElem? (i := 1095) (by decide +kernel), rfl⟩
theorem zM_173 : ∃ w, gMet gTT gCn zR_173 w = true := ⟨(1095, 61, 1094, 0), by decide +kernel⟩
theorem zK_174 : gCode gTT gFt gCn gTb0 zR_174 = true := by decide +kernel
theorem zW_174 : (Jvm.Cond.code zR_174.1.1 zR_174.1.2.1 zR_174.1.2.2.1 zR_174.1.2.2.2) ∈ gW := List.mem_filter.mpr ⟨List.mem_of_getElem? (i := 1092) (by decide +kernel), rfl⟩
theorem zM_174 : ∃ w, gMet gTT gCn zR_174 w = true := ⟨(1092, 61, 1090, 1091), by decide +kernel⟩
theorem zK_175 : gCode gTT gFt gCn gTb0 zR_175 = true := by decide +kernel
theorem zW_175 : (Jvm.Cond.code zR_175.1.1 zR_175.1.2.1 zR_175.1.2.2.1 zR_175.1.2.2.2) ∈ gW := List.mem_filter.mpr ⟨List.mem_of_getElem? (i := 1103) (by decide +kernel), rfl⟩
theorem zM_175 : ∃ w, gMet gTT gCn zR_175 w = true := ⟨(1103, 61, 1102, 37), by decide +kernel⟩
theorem zK_176 : gCode gTT gFt gCn gTb0 zR_176 = true := by decide +kernel
theorem zW_176 : (Jvm.Cond.code zR_176.1.1 zR_176.1.2.1 zR_176.1.2.2.1 zR_176.1.2.2.2) ∈ gW := List.mem_filter.mpr ⟨List.mem_of_getElem? (i := 1107) (by decide +kernel), rfl⟩
theorem zM_176 : ∃ w, gMet gTT gCn zR_176 w = true := ⟨(1107, 61, 1106, 38), by decide +kernel⟩
theorem zK_177 : gCode gTT gFt gCn gTb0 zR_177 = true := by decide +kernel
theorem zW_177 : (Jvm.Cond.code zR_177.1.1 zR_177.1.2.1 zR_177.1.2.2.1 zR_177.1.2.2.2) ∈ gW := List.mem_filter.mpr ⟨List.mem_of_getElem? (i := 1099) (by decide +kernel), rfl⟩
theorem zM_177 : ∃ w, gMet gTT gCn zR_177 w = true := ⟨(1099, 61, 1097, 1098), by decide +kernel⟩
theorem zK_178 : gCode gTT gFt gCn gTb0 zR_178 = true := by decide +kernel
theorem zW_178 : (Jvm.Cond.code zR_178.1.1 zR_178.1.2.1 zR_178.1.2.2.1 zR_178.1.2.2.2) ∈ gW := List.mem_filter.mpr ⟨List.mem_of_getElem? (i := 1111) (by decide +kernel), rfl⟩
theorem zM_178 : ∃ w, gMet gTT gCn zR_178 w = true := ⟨(1111, 61, 1109, 1110), by decide +kernel⟩
theorem zK_179 : gCode gTT gFt gCn gTb0 zR_179 = true := by decide +kernel
theorem zW_179 : (Jvm.Cond.code zR_179.1.1 zR_179.1.2.1 zR_179.1.2.2.1 zR_179.1.2.2.2) ∈ gW := List.mem_filter.mpr ⟨List.mem_of_getElem? (i := 1115) (by decide +kernel), rfl⟩
theorem zM_179 : ∃ w, gMet gTT gCn zR_179 w = true := ⟨(1115, 61, 1113, 1114), by decide +kernel⟩
theorem zK_180 : gCode gTT gFt gCn gTb0 zR_180 = true := by decide +kernel
theorem zW_180 : (Jvm.Cond.code zR_180.1.1 zR_180.1.2.1 zR_180.1.2.2.1 zR_180.1.2.2.2) ∈ gW := List.mem_filter.mpr ⟨List.mem_of_getElem? (i := 1119) (by decide +kernel), rfl⟩
theorem zM_180 : ∃ w, gMet gTT gCn zR_180 w = true := ⟨(1119, 61, 1117, 1118), by decide +kernel⟩
theorem zK_181 : gCode gTT gFt gCn gTb0 zR_181 = true := by decide +kernel
theorem zW_181 : (Jvm.Cond.code zR_181.1.1 zR_181.1.2.1 zR_181.1.2.2.1 zR_181.1.2.2.2) ∈ gW := List.mem_filter.mpr ⟨List.mem_of_getElem? (i := 1127) (by decide +kernel), rfl⟩
theorem zM_181 : ∃ w, gMet gTT gCn zR_181 w = true := ⟨(1127, 61, 1126, 39), by decide +kernel⟩
theorem zK_182 : gCode gTT gFt gCn gTb0 zR_182 = true := by decide +kernel
theorem zW_182 : (Jvm.Cond.code zR_182.1.1 zR_182.1.2.1 zR_182.1.2.2.1 zR_182.1.2.2.2) ∈ gW := List.mem_filter.mpr ⟨List.mem_of_getElem? (i := 1131) (by decide +kernel), rfl⟩
theorem zM_182 : ∃ w, gMet gTT gCn zR_182 w = true := ⟨(1131, 61, 1130, 0), by decide +kernel⟩
theorem zK_183 : gCode gTT gFt gCn gTb0 zR_183 = true := by decide +kernel
theorem zW_183 : (Jvm.Cond.code zR_183.1.1 zR_183.1.2.1 zR_183.1.2.2.1 zR_183.1.2.2.2) ∈ gW := List.mem_filter.mpr ⟨List.mem_of_getElem? (i := 1123) (by decide +kernel), rfl⟩
theorem zM_183 : ∃ w, gMet gTT gCn zR_183 w = true := ⟨(1123, 61, 1121, 1122), by decide +kernel⟩
theorem zK_184 : gCode gTT gFt gCn gTb0 zR_184 = true := by decide +kernel
theorem zW_184 : (Jvm.Cond.code zR_184.1.1 zR_184.1.2.1 zR_184.1.2.2.1 zR_184.1.2.2.2) ∈ gW := List.mem_filter.mpr ⟨List.mem_of_getElem? (i := 1135) (by decide +kernel), rfl⟩
theorem zM_184 : ∃ w, gMet gTT gCn zR_184 w = true := ⟨(1135, 61, 1133, 1134), by decide +kernel⟩
theorem zK_185 : gCode gTT gFt gCn gTb0 zR_185 = true := by decide +kernel
theorem zW_185 : (Jvm.Cond.code zR_185.1.1 zR_185.1.2.1 zR_185.1.2.2.1 zR_185.1.2.2.2) ∈ gW := List.mem_filter.mpr ⟨List.mem_of_getElem? (i := 1150) (by decide +kernel), rfl⟩
theorem zM_185 : ∃ w, gMet gTT gCn zR_185 w = true := ⟨(1150, 61, 1149, 0), by decide +kernel⟩
theorem zK_186 : gCode gTT gFt gCn gTb0 zR_186 = true := by decide +kernel
theorem zW_186 : (Jvm.Cond.code zR_186.1.1 zR_186.1.2.1 zR_186.1.2.2.1 zR_186.1.2.2.2) ∈ gW := List.mem_filter.mpr ⟨List.mem_of_getElem? (i := 1147) (by decide +kernel), rfl⟩
theorem zM_186 : ∃ w, gMet gTT gCn zR_186 w = true := ⟨(1147, 61, 1146, 41), by decide +kernel⟩
theorem zK_187 : gCode gTT gFt gCn gTb0 zR_187 = true := by decide +kernel
theorem zW_187 : (Jvm.Cond.code zR_187.1.1 zR_187.1.2.1 zR_187.1.2.2.1 zR_187.1.2.2.2) ∈ gW := List.mem_filter.mpr ⟨List.mem_of_getElem? (i := 1158) (by decide +kernel), rfl⟩
theorem zM_187 : ∃ w, gMet gTT gCn zR_187 w = true := ⟨(1158, 61, 1157, 43), by decide +kernel⟩
theorem zK_188 : gCode gTT gFt gCn gTb0 zR_188 = true := by decide +kernel
theorem zW_188 : (Jvm.Cond.code zR_188.1.1 zR_188.1.2.1 zR_188.1.2.2.1 zR_188.1.2.2.2) ∈ gW := List.mem_filter.mpr ⟨List.mem_of_getElem? (i := 1154) (by decide +kernel), rfl⟩
theorem zM_188 : ∃ w, gMet gTT gCn zR_188 w = true := ⟨(1154, 61, 1153, 42), by decide +kernel⟩
theorem zK_189 : gCode gTT gFt gCn gTb0 zR_189 = true := by decide +kernel
theorem zW_189 : (Jvm.Cond.code zR_189.1.1 zR_189.1.2.1 zR_189.1.2.2.1 zR_189.1.2.2.2) ∈ gW := List.mem_filter.mpr ⟨List.mem_of_getElem? (i := 1143) (by decide +kernel), rfl⟩
theorem zM_189 : ∃ w, gMet gTT gCn zR_189 w = true := ⟨(1143, 61, 1142, 40), by decide +kernel⟩
theorem zK_190 : gCode gTT gFt gCn gTb0 zR_190 = true := by decide +kernel
theorem zW_190 : (Jvm.Cond.code zR_190.1.1 zR_190.1.2.1 zR_190.1.2.2.1 zR_190.1.2.2.2) ∈ gW := List.mem_filter.mpr ⟨List.mem_of_getElem? (i := 1139) (by decide +kernel), rfl⟩
theorem zM_190 : ∃ w, gMet gTT gCn zR_190 w = true := ⟨(1139, 61, 1137, 1138), by decide +kernel⟩
theorem zK_191 : gCode gTT gFt gCn gTb0 zR_191 = true := by decide +kernel
theorem zW_191 : (Jvm.Cond.code zR_191.1.1 zR_191.1.2.1 zR_191.1.2.2.1 zR_191.1.2.2.2) ∈ gW := List.mem_filter.mpr ⟨List.mem_of_getElem? (i := 1162) (by decide +kernel), rfl⟩
theorem zM_191 : ∃ w, gMet gTT gCn zR_191 w = true := ⟨(1162, 61, 1160, 1161), by decide +kernel⟩
theorem zK_192 : gCode gTT gFt gCn gTb0 zR_192 = true := by decide +kernel
theorem zW_192 : (Jvm.Cond.code zR_192.1.1 zR_192.1.2.1 zR_192.1.2.2.1 zR_192.1.2.2.2) ∈ gW := List.mem_filter.mpr ⟨List.mem_of_getElem? (i := 1170) (by decide +kernel), rfl⟩
theorem zM_192 : ∃ w, gMet gTT gCn zR_192 w = true := ⟨(1170, 61, 1169, 44), by decide +kernel⟩
theorem zK_193 : gCode gTT gFt gCn gTb0 zR_193 = true := by decide +kernel
theorem zW_193 : (Jvm.Cond.code zR_193.1.1 zR_193.1.2.1 zR_193.1.2.2.1 zR_193.1.2.2.2) ∈ gW := List.mem_filter.mpr ⟨List.mem_of_getElem? (i := 1166) (by decide +kernel), rfl⟩
theorem zM_193 : ∃ w, gMet gTT gCn zR_193 w = true := ⟨(1166, 61, 1164, 1165), by decide +kernel⟩
theorem zK_194 : gCode gTT gFt gCn gTb0 zR_194 = true := by decide +kernel
theorem zW_194 : (Jvm.Cond.code zR_194.1.1 zR_194.1.2.1 zR_194.1.2.2.1 zR_194.1.2.2.2) ∈ gW := List.mem_filter.mpr ⟨List.mem_of_getElem? (i := 1175) (by decide +kernel), rfl⟩
theorem zM_194 : ∃ w, gMet gTT gCn zR_194 w = true := ⟨(1175, 61, 1173, 1174), by decide +kernel⟩
theorem zK_195 : gCode gTT gFt gCn gTb0 zR_195 = true := by decide +kernel
theorem zW_195 : (Jvm.Cond.code zR_195.1.1 zR_195.1.2.1 zR_195.1.2.2.1 zR_195.1.2.2.2) ∈ gW := List.mem_filter.mpr ⟨List.mem_of_getElem? (i := 1191) (by decide +kernel), rfl⟩
theorem zM_195 : ∃ w, gMet gTT gCn zR_195 w = true := ⟨(1191, 61, 1190, 45), by decide +kernel⟩
theorem zK_196 : gCode gTT gFt gCn gTb0 zR_196 = true := by decide +kernel
theorem zW_196 : (Jvm.Cond.code zR_196.1.1 zR_196.1.2.1 zR_196.1.2.2.1 zR_196.1.2.2.2) ∈ gW := List.mem_filter.mpr ⟨List.mem_of_getElem? (i := 1235) (by decide +kernel), rfl⟩
theorem zM_196 : ∃ w, gMet gTT gCn zR_196 w = true := ⟨(1235, 61, 1234, 53), by decide +kernel⟩
theorem zK_197 : gCode gTT gFt gCn gTb0 zR_197 = true := by decide +kernel
theorem zW_197 : (Jvm.Cond.code zR_197.1.1 zR_197.1.2.1 zR_197.1.2.2.1 zR_197.1.2.2.2) ∈ gW := List.mem_filter.mpr ⟨List.mem_of_getElem? (i := 1179) (by decide +kernel), rfl⟩
theorem zM_197 : ∃ w, gMet gTT gCn zR_197 w = true := ⟨(1179, 61, 1177, 1178), by decide +kernel⟩
theorem zK_198 : gCode gTT gFt gCn gTb0 zR_198 = true := by decide +kernel
theorem zW_198 : (Jvm.Cond.code zR_198.1.1 zR_198.1.2.1 zR_198.1.2.2.1 zR_198.1.2.2.2) ∈ gW := List.mem_filter.mpr ⟨List.mem_of_getElem? (i := 1183) (by decide +kernel), rfl⟩
theorem zM_198 : ∃ w, gMet gTT gCn zR_198 w = true := ⟨(1183, 61, 1181, 1182), by decide +kernel⟩
theorem zK_199 : gCode gTT gFt gCn gTb0 zR_199 = true := by decide +kernel
theorem zW_199 : (Jvm.Cond.code zR_199.1.1 zR_199.1.2.1 zR_199.1.2.2.1 zR_199.1.2.2.2) ∈ gW := List.mem_filter.mpr ⟨List.mem_of_getElem? (i := 1198) (by decide +kernel), rfl⟩
theorem zM_199 : ∃ w, gMet gTT gCn zR_199 w = true := ⟨(1198, 61, 1197, 0), by decide +kernel⟩
theorem zK_200 : gCode gTT gFt gCn gTb0 zR_200 = true := by decide +kernel
theorem zW_200 : (Jvm.Cond.code zR_200.1.1 zR_200.1.2.1 zR_200.1.2.2.1 zR_200.1.2.2.2) ∈ gW := List.mem_filter.mpr ⟨List.mem_of_getElem? (i := 1204) (by decide +kernel), rfl⟩
theorem zM_200 : ∃ w, gMet gTT gCn zR_200 w = true := ⟨(1204, 61, 1203, 0), by decide +kernel⟩
theorem zK_201 : gCode gTT gFt gCn gTb0 zR_201 = true := gCodeA (gCodeT (gCodeP (zK_201_0)) (gCodeT (gCodeP (zK_201_100)) (gCodeT (gCodeP (zK_201_200)) (gCodeP (zK_201_300)))))
theorem zW_201 : (Jvm.Cond.code zR_201.1.1 zR_201.1.2.1 zR_201.1.2.2.1 zR_201.1.2.2.2) ∈ gW := List.mem_filter.mpr ⟨List.mem_of_getElem? (i := 1195) (by decide +kernel), rfl⟩
theorem zM_201 : ∃ w, gMet gTT gCn zR_201 w = true := ⟨(1195, 61, 1194, 46), by decide +kernel⟩
theorem zK_202 : gCode gTT gFt gCn gTb0 zR_202 = true := by decide +kernel
theorem zW_202 : (Jvm.Cond.code zR_202.1.1 zR_202.1.2.1 zR_202.1.2.2.1 zR_202.1.2.2.2) ∈ gW := List.mem_filter.mpr ⟨List.mem_of_getElem? (i := 1215) (by decide +kernel), rfl⟩
theorem zM_202 : ∃ w, gMet gTT gCn zR_202 w = true := ⟨(1215, 61, 1214, 48), by decide +kernel⟩
theorem zK_203 : gCode gTT gFt gCn gTb0 zR_203 = true := by decide +kernel
theorem zW_203 : (Jvm.Cond.code zR_203.1.1 zR_203.1.2.1 zR_203.1.2.2.1 zR_203.1.2.2.2) ∈ gW := List.mem_filter.mpr ⟨List.mem_of_getElem? (i := 1227) (by decide +kernel), rfl⟩
theorem zM_203 : ∃ w, gMet gTT gCn zR_203 w = true := ⟨(1227, 61, 1226, 51), by decide +kernel⟩
theorem zK_204 : gCode gTT gFt gCn gTb0 zR_204 = true := by decide +kernel
theorem zW_204 : (Jvm.Cond.code zR_204.1.1 zR_204.1.2.1 zR_204.1.2.2.1 zR_204.1.2.2.2) ∈ gW := List.mem_filter.mpr ⟨List.mem_of_getElem? (i := 1223) (by decide +kernel), rfl⟩
theorem zM_204 : ∃ w, gMet gTT gCn zR_204 w = true := ⟨(1223, 61, 1222, 50), by decide +kernel⟩
theorem zK_205 : gCode gTT gFt gCn gTb0 zR_205 = true := by decide +kernel
theorem zW_205 : (Jvm.Cond.code zR_205.1.1 zR_205.1.2.1 zR_205.1.2.2.1 zR_205.1.2.2.2) ∈ gW := List.mem_filter.mpr ⟨List.mem_of_getElem? (i := 1219) (by decide +kernel), rfl⟩
theorem zM_205 : ∃ w, gMet gTT gCn zR_205 w = true := ⟨(1219, 61, 1218, 49), by decide +kernel⟩
theorem zK_206 : gCode gTT gFt gCn gTb0 zR_206 = true := by decide +kernel
theorem zW_206 : (Jvm.Cond.code zR_206.1.1 zR_206.1.2.1 zR_206.1.2.2.1 zR_206.1.2.2.2) ∈ gW := List.mem_filter.mpr ⟨List.mem_of_getElem? (i := 1231) (by decide +kernel), rfl⟩
theorem zM_206 : ∃ w, gMet gTT gCn zR_206 w = true := ⟨(1231, 61, 1230, 52), by decide +kernel⟩
theorem zK_207 : gCode gTT gFt gCn gTb0 zR_207 = true := by decide +kernel
theorem zW_207 : (Jvm.Cond.code zR_207.1.1 zR_207.1.2.1 zR_207.1.2.2.1 zR_207.1.2.2.2) ∈ gW := List.mem_filter.mpr ⟨List.mem_of_getElem? (i := 1211) (by decide +kernel), rfl⟩
theorem zM_207 : ∃ w, gMet gTT gCn zR_207 w = true := ⟨(1211, 61, 1210, 47), by decide +kernel⟩
theorem zK_208 : gCode gTT gFt gCn gTb0 zR_208 = true := by decide +kernel
theorem zW_208 : (Jvm.Cond.code zR_208.1.1 zR_208.1.2.1 zR_208.1.2.2.1 zR_208.1.2.2.2) ∈ gW := List.mem_filter.mpr ⟨List.mem_of_getElem? (i := 1187) (by decide +kernel), rfl⟩
theorem zM_208 : ∃ w, gMet gTT gCn zR_208 w = true := ⟨(1187, 61, 1185, 1186), by decide +kernel⟩
theorem zK_209 : gCode gTT gFt gCn gTb0 zR_209 = true := by decide +kernel
theorem zW_209 : (Jvm.Cond.code zR_209.1.1 zR_209.1.2.1 zR_209.1.2.2.1 zR_209.1.2.2.2) ∈ gW := List.mem_filter.mpr ⟨List.mem_of_getElem? (i := 1242) (by decide +kernel), rfl⟩
theorem zM_209 : ∃ w, gMet gTT gCn zR_209 w = true := ⟨(1242, 61, 1241, 0), by decide +kernel⟩
theorem zK_210 : gCode gTT gFt gCn gTb0 zR_210 = true := by decide +kernel
theorem zW_210 : (Jvm.Cond.code zR_210.1.1 zR_210.1.2.1 zR_210.1.2.2.1 zR_210.1.2.2.2) ∈ gW := List.mem_filter.mpr ⟨List.mem_of_getElem? (i := 1239) (by decide +kernel), rfl⟩
theorem zM_210 : ∃ w, gMet gTT gCn zR_210 w = true := ⟨(1239, 61, 1237, 1238), by decide +kernel⟩
theorem zK_211 : gCode gTT gFt gCn gTb0 zR_211 = true := by decide +kernel
theorem zW_211 : (Jvm.Cond.code zR_211.1.1 zR_211.1.2.1 zR_211.1.2.2.1 zR_211.1.2.2.2) ∈ gW := List.mem_filter.mpr ⟨List.mem_of_getElem? (i := 1249) (by decide +kernel), rfl⟩
theorem zM_211 : ∃ w, gMet gTT gCn zR_211 w = true := ⟨(1249, 61, 1248, 0), by decide +kernel⟩
theorem zK_212 : gCode gTT gFt gCn gTb0 zR_212 = true := by decide +kernel
theorem zW_212 : (Jvm.Cond.code zR_212.1.1 zR_212.1.2.1 zR_212.1.2.2.1 zR_212.1.2.2.2) ∈ gW := List.mem_filter.mpr ⟨List.mem_of_getElem? (i := 1246) (by decide +kernel), rfl⟩
theorem zM_212 : ∃ w, gMet gTT gCn zR_212 w = true := ⟨(1246, 61, 1244, 1245), by decide +kernel⟩
theorem zK_213 : gCode gTT gFt gCn gTb0 zR_213 = true := by decide +kernel
theorem zW_213 : (Jvm.Cond.code zR_213.1.1 zR_213.1.2.1 zR_213.1.2.2.1 zR_213.1.2.2.2) ∈ gW := List.mem_filter.mpr ⟨List.mem_of_getElem? (i := 1253) (by decide +kernel), rfl⟩
theorem zM_213 : ∃ w, gMet gTT gCn zR_213 w = true := ⟨(1253, 61, 1251, 1252), by decide +kernel⟩
theorem zK_214 : gCode gTT gFt gCn gTb0 zR_214 = true := by decide +kernel
theorem zW_214 : (Jvm.Cond.code zR_214.1.1 zR_214.1.2.1 zR_214.1.2.2.1 zR_214.1.2.2.2) ∈ gW := List.mem_filter.mpr ⟨List.mem_of_getElem? (i := 1257) (by decide +kernel), rfl⟩
theorem zM_214 : ∃ w, gMet gTT gCn zR_214 w = true := ⟨(1257, 61, 1255, 1256), by decide +kernel⟩
theorem zK_215 : gCode gTT gFt gCn gTb0 zR_215 = true := by decide +kernel
theorem zW_215 : (Jvm.Cond.code zR_215.1.1 zR_215.1.2.1 zR_215.1.2.2.1 zR_215.1.2.2.2) ∈ gW := List.mem_filter.mpr ⟨List.mem_of_getElem? (i := 1261) (by decide +kernel), rfl⟩
theorem zM_215 : ∃ w, gMet gTT gCn zR_215 w = true := ⟨(1261, 61, 1259, 1260), by decide +kernel⟩
theorem zK_216 : gCode gTT gFt gCn gTb0 zR_216 = true := by decide +kernel
theorem zW_216 : (Jvm.Cond.code zR_216.1.1 zR_216.1.2.1 zR_216.1.2.2.1 zR_216.1.2.2.2) ∈ gW := List.mem_filter.mpr ⟨List.mem_of_getElem? (i := 1265) (by decide +kernel), rfl⟩
theorem zM_216 : ∃ w, gMet gTT gCn zR_216 w = true := ⟨(1265, 61, 1263, 1264), by decide +kernel⟩
theorem zK_217 : gCode gTT gFt gCn gTb0 zR_217 = true := by decide +kernel
theorem zW_217 : (Jvm.Cond.code zR_217.1.1 zR_217.1.2.1 zR_217.1.2.2.1 zR_217.1.2.2.2) ∈ gW := List.mem_filter.mpr ⟨List.mem_of_getElem? (i := 1269) (by decide +kernel), rfl⟩
theorem zM_217 : ∃ w, gMet gTT gCn zR_217 w = true := ⟨(1269, 61, 1267, 1268), by decide +kernel⟩
theorem zK_218 : gCode gTT gFt gCn gTb0 zR_218 = true := by decide +kernel
theorem zW_218 : (Jvm.Cond.code zR_218.1.1 zR_218.1.2.1 zR_218.1.2.2.1 zR_218.1.2.2.2) ∈ gW := List.mem_filter.mpr ⟨List.mem_of_getElem? (i := 1273) (by decide +kernel), rfl⟩
theorem zM_218 : ∃ w, gMet gTT gCn zR_218 w = true := ⟨(1273, 61, 1271, 1272), by decide +kernel⟩
theorem zK_219 : gCode gTT gFt gCn gTb0 zR_219 = true := by decide +kernel
theorem zW_219 : (Jvm.Cond.code zR_219.1.1 zR_219.1.2.1 zR_219.1.2.2.1 zR_219.1.2.2.2) ∈ gW := List.mem_filter.mpr ⟨List.mem_of_getElem? (i := 1277) (by decide +kernel), rfl⟩
theorem zM_219 : ∃ w, gMet gTT gCn zR_219 w = true := ⟨(1277, 61, 1275, 1276), by decide +kernel⟩
theorem zK_220 : gCode gTT gFt gCn gTb0 zR_220 = true := by decide +kernel
theorem zW_220 : (Jvm.Cond.code zR_220.1.1 zR_220.1.2.1 zR_220.1.2.2.1 zR_220.1.2.2.2) ∈ gW := List.mem_filter.mpr ⟨List.mem_of_getElem? (i := 1281) (by decide +kernel), rfl⟩
theorem zM_220 : ∃ w, gMet gTT gCn zR_220 w = true := ⟨(1281, 61, 1279, 1280), by decide +kernel⟩
theorem zK_221 : gCode gTT gFt gCn gTb0 zR_221 = true := by decide +kernel
theorem zW_221 : (Jvm.Cond.code zR_221.1.1 zR_221.1.2.1 zR_221.1.2.2.1 zR_221.1.2.2.2) ∈ gW := List.mem_filter.mpr ⟨List.mem_of_getElem? (i := 1285) (by decide +kernel), rfl⟩
theorem zM_221 : ∃ w, gMet gTT gCn zR_221 w = true := ⟨(1285, 61, 1283, 1284), by decide +kernel⟩
theorem zK_222 : gCode gTT gFt gCn gTb0 zR_222 = true := by decide +kernel
theorem zW_222 : (Jvm.Cond.code zR_222.1.1 zR_222.1.2.1 zR_222.1.2.2.1 zR_222.1.2.2.2) ∈ gW := List.mem_filter.mpr ⟨List.mem_of_getElem? (i := 1289) (by decide +kernel), rfl⟩
theorem zM_222 : ∃ w, gMet gTT gCn zR_222 w = true := ⟨(1289, 61, 1287, 1288), by decide +kernel⟩
theorem zK_223 : gCode gTT gFt gCn gTb0 zR_223 = true := gCodeA (gCodeT (gCodeP (zK_223_0)) (gCodeT (gCodeP (zK_223_100)) (gCodeT (gCodeP (zK_223_200)) (gCodeT (gCodeP (zK_223_300)) (gCodeT (gCodeP (zK_223_400)) (gCodeT (gCodeP (zK_223_500)) (gCodeT (gCodeP (zK_223_600)) (gCodeT (gCodeP (zK_223_700)) (gCodeT (gCodeP (zK_223_800)) (gCodeT (gCodeP (zK_223_900)) (gCodeT (gCodeP (zK_223_1000)) (gCodeT (gCodeP (zK_223_1100)) (gCodeT (gCodeP (zK_223_1200)) (gCodeT (gCodeP (zK_223_1300)) (gCodeT (gCodeP (zK_223_1400)) (gCodeP (zK_223_1500)))))))))))))))))
theorem gcl_ok : ∀ (ci : Nat) (q : vw_C), gTT.1[ci]? = some q → gCls gTT gFt gCn gDf ci = true := by
  intro ci q h
  have hl : ci < 7 := (List.getElem?_eq_some_iff.mp h).1
  have key : (List.range 7).all (fun ci => gCls gTT gFt gCn gDf ci) = true := by decide +kernel
  exact List.all_eq_true.mp key ci (List.mem_range.mpr hl)
def gOKr (r : gR) : Prop := (Jvm.Cond.code r.1.1 r.1.2.1 r.1.2.2.1 r.1.2.2.2) ∈ gW ∧ (∃ w, gMet gTT gCn r w = true) ∧ gCode gTT gFt gCn gTb0 r = true
def gTl_0 : List gR := [zR_0, zR_1, zR_2, zR_3, zR_4, zR_5, zR_6, zR_7, zR_8, zR_9, zR_10, zR_11, zR_12, zR_13, zR_14, zR_15, zR_16, zR_17, zR_18, zR_19]
theorem gTk_0 : ∀ r ∈ gTl_0, gOKr r := List.forall_mem_cons.mpr ⟨⟨zW_0, zM_0, zK_0⟩, List.forall_mem_cons.mpr ⟨⟨zW_1, zM_1, zK_1⟩, List.forall_mem_cons.mpr ⟨⟨zW_2, zM_2, zK_2⟩, List.forall_mem_cons.mpr ⟨⟨zW_3, zM_3, zK_3⟩, List.forall_mem_cons.mpr ⟨⟨zW_4, zM_4, zK_4⟩, List.forall_mem_cons.mpr ⟨⟨zW_5, zM_5, zK_5⟩, List.forall_mem_cons.mpr ⟨⟨zW_6, zM_6, zK_6⟩, List.forall_mem_cons.mpr ⟨⟨zW_7, zM_7, zK_7⟩, List.forall_mem_cons.mpr ⟨⟨zW_8, zM_8, zK_8⟩, List.forall_mem_cons.mpr ⟨⟨zW_9, zM_9, zK_9⟩, List.forall_mem_cons.mpr ⟨⟨zW_10, zM_10, zK_10⟩, List.forall_mem_cons.mpr ⟨⟨zW_11, zM_11, zK_11⟩, List.forall_mem_cons.mpr ⟨⟨zW_12, zM_12, zK_12⟩, List.forall_mem_cons.mpr ⟨⟨zW_13, zM_13, zK_13⟩, List.forall_mem_cons.mpr ⟨⟨zW_14, zM_14, zK_14⟩, List.forall_mem_cons.mpr ⟨⟨zW_15, zM_15, zK_15⟩, List.forall_mem_cons.mpr ⟨⟨zW_16, zM_16, zK_16⟩, List.forall_mem_cons.mpr ⟨⟨zW_17, zM_17, zK_17⟩, List.forall_mem_cons.mpr ⟨⟨zW_18, zM_18, zK_18⟩, List.forall_mem_cons.mpr ⟨⟨zW_19, zM_19, zK_19⟩, fun _ h => absurd h List.not_mem_nil⟩⟩⟩⟩⟩⟩⟩⟩⟩⟩⟩⟩⟩⟩⟩⟩⟩⟩⟩⟩
def gTl_1 : List gR := [zR_20, zR_21, zR_22, zR_23, zR_24, zR_25, zR_26, zR_27, zR_28, zR_29, zR_30, zR_31, zR_32, zR_33, zR_34, zR_35, zR_36, zR_37, zR_38, zR_39]
theorem gTk_1 : ∀ r ∈ gTl_1, gOKr r := List.forall_mem_cons.mpr ⟨⟨zW_20, zM_20, zK_20⟩, List.forall_mem_cons.mpr ⟨⟨zW_21, zM_21, zK_21⟩, List.forall_mem_cons.mpr ⟨⟨zW_22, zM_22, zK_22⟩, List.forall_mem_cons.mpr ⟨⟨zW_23, zM_23, zK_23⟩, List.forall_mem_cons.mpr ⟨⟨zW_24, zM_24, zK_24⟩, List.forall_mem_cons.mpr ⟨⟨zW_25, zM_25, zK_25⟩, List.forall_mem_cons.mpr ⟨⟨zW_26, zM_26, zK_26⟩, List.forall_mem_cons.mpr ⟨⟨zW_27, zM_27, zK_27⟩, List.forall_mem_cons.mpr ⟨⟨zW_28, zM_28, zK_28⟩, List.forall_mem_cons.mpr ⟨⟨zW_29, zM_29, zK_29⟩, List.forall_mem_cons.mpr ⟨⟨zW_30, zM_30, zK_30⟩, List.forall_mem_cons.mpr ⟨⟨zW_31, zM_31, zK_31⟩, List.forall_mem_cons.mpr ⟨⟨zW_32, zM_32, zK_32⟩, List.forall_mem_cons.mpr ⟨⟨zW_33, zM_33, zK_33⟩, List.forall_mem_cons.mpr ⟨⟨zW_34, zM_34, zK_34⟩, List.forall_mem_cons.mpr ⟨⟨zW_35, zM_35, zK_35⟩, List.forall_mem_cons.mpr ⟨⟨zW_36, zM_36, zK_36⟩, List.forall_mem_cons.mpr ⟨⟨zW_37, zM_37, zK_37⟩, List.forall_mem_cons.mpr ⟨⟨zW_38, zM_38, zK_38⟩, List.forall_mem_cons.mpr ⟨⟨zW_39, zM_39, zK_39⟩, fun _ h => absurd h List.not_mem_nil⟩⟩⟩⟩⟩⟩⟩⟩⟩⟩⟩⟩⟩⟩⟩⟩⟩⟩⟩⟩
def gTl_2 : List gR := [zR_40, zR_41, zR_42, zR_43, zR_44, zR_45, zR_46, zR_47, zR_48, zR_49, zR_50, zR_51, zR_52, zR_53, zR_54, zR_55, zR_56, zR_57, zR_58, zR_59]
theorem gTk_2 : ∀ r ∈ gTl_2, gOKr r := List.forall_mem_cons.mpr ⟨⟨zW_40, zM_40, zK_40⟩, List.forall_mem_cons.mpr ⟨⟨zW_41, zM_41, zK_41⟩, List.forall_mem_cons.mpr ⟨⟨zW_42, zM_42, zK_42⟩, List.forall_mem_cons.mpr ⟨⟨zW_43, zM_43, zK_43⟩, List.forall_mem_cons.mpr ⟨⟨zW_44, zM_44, zK_44⟩, List.forall_mem_cons.mpr ⟨⟨zW_45, zM_45, zK_45⟩, List.forall_mem_cons.mpr ⟨⟨zW_46, zM_46, zK_46⟩, List.forall_mem_cons.mpr ⟨⟨zW_47, zM_47, zK_47⟩, List.forall_mem_cons.mpr ⟨⟨zW_48, zM_48, zK_48⟩, List.forall_mem_cons.mpr ⟨⟨zW_49, zM_49, zK_49⟩, List.forall_mem_cons.mpr ⟨⟨zW_50, zM_50, zK_50⟩, List.forall_mem_cons.mpr ⟨⟨zW_51, zM_51, zK_51⟩, List.forall_mem_cons.mpr ⟨⟨zW_52, zM_52, zK_52⟩, List.forall_mem_cons.mpr ⟨⟨zW_53, zM_53, zK_53⟩, List.forall_mem_cons.mpr ⟨⟨zW_54, zM_54, zK_54⟩, List.forall_mem_cons.mpr ⟨⟨zW_55, zM_55, zK_55⟩, List.forall_mem_cons.mpr ⟨⟨zW_56, zM_56, zK_56⟩, List.forall_mem_cons.mpr ⟨⟨zW_57, zM_57, zK_57⟩, List.forall_mem_cons.mpr ⟨⟨zW_58, zM_58, zK_58⟩, List.forall_mem_cons.mpr ⟨⟨zW_59, zM_59, zK_59⟩, fun _ h => absurd h List.not_mem_nil⟩⟩⟩⟩⟩⟩⟩⟩⟩⟩⟩⟩⟩⟩⟩⟩⟩⟩⟩⟩
def gTl_3 : List gR := [zR_60, zR_61, zR_62, zR_63, zR_64, zR_65, zR_66, zR_67, zR_68, zR_69, zR_70, zR_71, zR_72, zR_73, zR_74, zR_75, zR_76, zR_77, zR_78, zR_79]
theorem gTk_3 : ∀ r ∈ gTl_3, gOKr r := List.forall_mem_cons.mpr ⟨⟨zW_60, zM_60, zK_60⟩, List.forall_mem_cons.mpr ⟨⟨zW_61, zM_61, zK_61⟩, List.forall_mem_cons.mpr ⟨⟨zW_62, zM_62, zK_62⟩, List.forall_mem_cons.mpr ⟨⟨zW_63, zM_63, zK_63⟩, List.forall_mem_cons.mpr ⟨⟨zW_64, zM_64, zK_64⟩, List.forall_mem_cons.mpr ⟨⟨zW_65, zM_65, zK_65⟩, List.forall_mem_cons.mpr ⟨⟨zW_66, zM_66, zK_66⟩, List.forall_mem_cons.mpr ⟨⟨zW_67, zM_67, zK_67⟩, List.forall_mem_cons.mpr ⟨⟨zW_68, zM_68, zK_68⟩, List.forall_mem_cons.mpr ⟨⟨zW_69, zM_69, zK_69⟩, List.forall_mem_cons.mpr ⟨⟨zW_70, zM_70, zK_70⟩, List.forall_mem_cons.mpr ⟨⟨zW_71, zM_71, zK_71⟩, List.forall_mem_cons.mpr ⟨⟨zW_72, zM_72, zK_72⟩, List.forall_mem_cons.mpr ⟨⟨zW_73, zM_73, zK_73⟩, List.forall_mem_cons.mpr ⟨⟨zW_74, zM_74, zK_74⟩, List.forall_mem_cons.mpr ⟨⟨zW_75, zM_75, zK_75⟩, List.forall_mem_cons.mpr ⟨⟨zW_76, zM_76, zK_76⟩, List.forall_mem_cons.mpr ⟨⟨zW_77, zM_77, zK_77⟩, List.forall_mem_cons.mpr ⟨⟨zW_78, zM_78, zK_78⟩, List.forall_mem_cons.mpr ⟨⟨zW_79, zM_79, zK_79⟩, fun _ h => absurd h List.not_mem_nil⟩⟩⟩⟩⟩⟩⟩⟩⟩⟩⟩⟩⟩⟩⟩⟩⟩⟩⟩⟩
def gTl_4 : List gR := [zR_80, zR_81, zR_82, zR_83, zR_84, zR_85, zR_86, zR_87, zR_88, zR_89, zR_90, zR_91, zR_92, zR_93, zR_94, zR_95, zR_96, zR_97, zR_98, zR_99]
theorem gTk_4 : ∀ r ∈ gTl_4, gOKr r := List.forall_mem_cons.mpr ⟨⟨zW_80, zM_80, zK_80⟩, List.forall_mem_cons.mpr ⟨⟨zW_81, zM_81, zK_81⟩, List.forall_mem_cons.mpr ⟨⟨zW_82, zM_82, zK_82⟩, List.forall_mem_cons.mpr ⟨⟨zW_83, zM_83, zK_83⟩, List.forall_mem_cons.mpr ⟨⟨zW_84, zM_84, zK_84⟩, List.forall_mem_cons.mpr ⟨⟨zW_85, zM_85, zK_85⟩, List.forall_mem_cons.mpr ⟨⟨zW_86, zM_86, zK_86⟩, List.forall_mem_cons.mpr ⟨⟨zW_87, zM_87, zK_87⟩, List.forall_mem_cons.mpr ⟨⟨zW_88, zM_88, zK_88⟩, List.forall_mem_cons.mpr ⟨⟨zW_89, zM_89, zK_89⟩, List.forall_mem_cons.mpr ⟨⟨zW_90, zM_90, zK_90⟩, List.forall_mem_cons.mpr ⟨⟨zW_91, zM_91, zK_91⟩, List.forall_mem_cons.mpr ⟨⟨zW_92, zM_92, zK_92⟩, List.forall_mem_cons.mpr ⟨⟨zW_93, zM_93, zK_93⟩, List.forall_mem_cons.mpr ⟨⟨zW_94, zM_94, zK_94⟩, List.forall_mem_cons.mpr ⟨⟨zW_95, zM_95, zK_95⟩, List.forall_mem_cons.mpr ⟨⟨zW_96, zM_96, zK_96⟩, List.forall_mem_cons.mpr ⟨⟨zW_97, zM_97, zK_97⟩, List.forall_mem_cons.mpr ⟨⟨zW_98, zM_98, zK_98⟩, List.forall_mem_cons.mpr ⟨⟨zW_99, zM_99, zK_99⟩, fun _ h => absurd h List.not_mem_nil⟩⟩⟩⟩⟩⟩⟩⟩⟩⟩⟩⟩⟩⟩⟩⟩⟩⟩⟩⟩
def gTl_5 : List gR := [zR_100, zR_101, zR_102, zR_103, zR_104, zR_105, zR_106, zR_107, zR_108, zR_109, zR_110, zR_111, zR_112, zR_113, zR_114, zR_115, zR_116, zR_117, zR_118, zR_119]
theorem gTk_5 : ∀ r ∈ gTl_5, gOKr r := List.forall_mem_cons.mpr ⟨⟨zW_100, zM_100, zK_100⟩, List.forall_mem_cons.mpr ⟨⟨zW_101, zM_101, zK_101⟩, List.forall_mem_cons.mpr ⟨⟨zW_102, zM_102, zK_102⟩, List.forall_mem_cons.mpr ⟨⟨zW_103, zM_103, zK_103⟩, List.forall_mem_cons.mpr ⟨⟨zW_104, zM_104, zK_104⟩, List.forall_mem_cons.mpr ⟨⟨zW_105, zM_105, zK_105⟩, List.forall_mem_cons.mpr ⟨⟨zW_106, zM_106, zK_106⟩, List.forall_mem_cons.mpr ⟨⟨zW_107, zM_107, zK_107⟩, List.forall_mem_cons.mpr ⟨⟨zW_108, zM_108, zK_108⟩, List.forall_mem_cons.mpr ⟨⟨zW_109, zM_109, zK_109⟩, List.forall_mem_cons.mpr ⟨⟨zW_110, zM_110, zK_110⟩, List.forall_mem_cons.mpr ⟨⟨zW_111, zM_111, zK_111⟩, List.forall_mem_cons.mpr ⟨⟨zW_112, zM_112, zK_112⟩, List.forall_mem_cons.mpr ⟨⟨zW_113, zM_113, zK_113⟩, List.forall_mem_cons.mpr ⟨⟨zW_114, zM_114, zK_114⟩, List.forall_mem_cons.mpr ⟨⟨zW_115, zM_115, zK_115⟩, List.forall_mem_cons.mpr ⟨⟨zW_116, zM_116, zK_116⟩, List.forall_mem_cons.mpr ⟨⟨zW_117, zM_117, zK_117⟩, List.forall_mem_cons.mpr ⟨⟨zW_118, zM_118, zK_118⟩, List.forall_mem_cons.mpr ⟨⟨zW_119, zM_119, zK_119⟩, fun _ h => absurd h List.not_mem_nil⟩⟩⟩⟩⟩⟩⟩⟩⟩⟩⟩⟩⟩⟩⟩⟩⟩⟩⟩⟩
def gTl_6 : List gR := [zR_120, zR_121, zR_122, zR_123, zR_124, zR_125, zR_126, zR_127, zR_128, zR_129, zR_130, zR_131, zR_132, zR_133, zR_134, zR_135, zR_136, zR_137, zR_138, zR_139]
theorem gTk_6 : ∀ r ∈ gTl_6, gOKr r := List.forall_mem_cons.mpr ⟨⟨zW_120, zM_120, zK_120⟩, List.forall_mem_cons.mpr ⟨⟨zW_121, zM_121, zK_121⟩, List.forall_mem_cons.mpr ⟨⟨zW_122, zM_122, zK_122⟩, List.forall_mem_cons.mpr ⟨⟨zW_123, zM_123, zK_123⟩, List.forall_mem_cons.mpr ⟨⟨zW_124, zM_124, zK_124⟩, List.forall_mem_cons.mpr ⟨⟨zW_125, zM_125, zK_125⟩, List.forall_mem_cons.mpr ⟨⟨zW_126, zM_126, zK_126⟩, List.forall_mem_cons.mpr ⟨⟨zW_127, zM_127, zK_127⟩, List.forall_mem_cons.mpr ⟨⟨zW_128, zM_128, zK_128⟩, List.forall_mem_cons.mpr ⟨⟨zW_129, zM_129, zK_129⟩, List.forall_mem_cons.mpr ⟨⟨zW_130, zM_130, zK_130⟩, List.forall_mem_cons.mpr ⟨⟨zW_131, zM_131, zK_131⟩, List.forall_mem_cons.mpr ⟨⟨zW_132, zM_132, zK_132⟩, List.forall_mem_cons.mpr ⟨⟨zW_133, zM_133, zK_133⟩, List.forall_mem_cons.mpr ⟨⟨zW_134, zM_134, zK_134⟩, List.forall_mem_cons.mpr ⟨⟨zW_135, zM_135, zK_135⟩, List.forall_mem_cons.mpr ⟨⟨zW_136, zM_136, zK_136⟩, List.forall_mem_cons.mpr ⟨⟨zW_137, zM_137, zK_137⟩, List.forall_mem_cons.mpr ⟨⟨zW_138, zM_138, zK_138⟩, List.forall_mem_cons.mpr ⟨⟨zW_139, zM_139, zK_139⟩, fun _ h => absurd h List.not_mem_nil⟩⟩⟩⟩⟩⟩⟩⟩⟩⟩⟩⟩⟩⟩⟩⟩⟩⟩⟩⟩
def gTl_7 : List gR := [zR_140, zR_141, zR_142, zR_143, zR_144, zR_145, zR_146, zR_147, zR_148, zR_149, zR_150, zR_151, zR_152, zR_153, zR_154, zR_155, zR_156, zR_157, zR_158, zR_159]
theorem gTk_7 : ∀ r ∈ gTl_7, gOKr r := List.forall_mem_cons.mpr ⟨⟨zW_140, zM_140, zK_140⟩, List.forall_mem_cons.mpr ⟨⟨zW_141, zM_141, zK_141⟩, List.forall_mem_cons.mpr ⟨⟨zW_142, zM_142, zK_142⟩, List.forall_mem_cons.mpr ⟨⟨zW_143, zM_143, zK_143⟩, List.forall_mem_cons.mpr ⟨⟨zW_144, zM_144, zK_144⟩, List.forall_mem_cons.mpr ⟨⟨zW_145, zM_145, zK_145⟩, List.forall_mem_cons.mpr ⟨⟨zW_146, zM_146, zK_146⟩, List.forall_mem_cons.mpr ⟨⟨zW_147, zM_147, zK_147⟩, List.forall_mem_cons.mpr ⟨⟨zW_148, zM_148, zK_148⟩, List.forall_mem_cons.mpr ⟨⟨zW_149, zM_149, zK_149⟩, List.forall_mem_cons.mpr ⟨⟨zW_150, zM_150, zK_150⟩, List.forall_mem_cons.mpr ⟨⟨zW_151, zM_151, zK_151⟩, List.forall_mem_cons.mpr ⟨⟨zW_152, zM_152, zK_152⟩, List.forall_mem_cons.mpr ⟨⟨zW_153, zM_153, zK_153⟩, List.forall_mem_cons.mpr ⟨⟨zW_154, zM_154, zK_154⟩, List.forall_mem_cons.mpr ⟨⟨zW_155, zM_155, zK_155⟩, List.forall_mem_cons.mpr ⟨⟨zW_156, zM_156, zK_156⟩, List.forall_mem_cons.mpr ⟨⟨zW_157, zM_157, zK_157⟩, List.forall_mem_cons.mpr ⟨⟨zW_158, zM_158, zK_158⟩, List.forall_mem_cons.mpr ⟨⟨zW_159, zM_159, zK_159⟩, fun _ h => absurd h List.not_mem_nil⟩⟩⟩⟩⟩⟩⟩⟩⟩⟩⟩⟩⟩⟩⟩⟩⟩⟩⟩⟩
def gTl_8 : List gR := [zR_160, zR_161, zR_162, zR_163, zR_164, zR_165, zR_166, zR_167, zR_168, zR_169, zR_170, zR_171, zR_172, zR_173, zR_174, zR_175, zR_176, zR_177, zR_178, zR_179]
theorem gTk_8 : ∀ r ∈ gTl_8, gOKr r := List.forall_mem_cons.mpr ⟨⟨zW_160, zM_160, zK_160⟩, List.forall_mem_cons.mpr ⟨⟨zW_161, zM_161, zK_161⟩, List.forall_mem_cons.mpr ⟨⟨zW_162, zM_162, zK_162⟩, List.forall_mem_cons.mpr ⟨⟨zW_163, zM_163, zK_163⟩, List.forall_mem_cons.mpr ⟨⟨zW_164, zM_164, zK_164⟩, List.forall_mem_cons.mpr ⟨⟨zW_165, zM_165, zK_165⟩, List.forall_mem_cons.mpr ⟨⟨zW_166, zM_166, zK_166⟩, List.forall_mem_cons.mpr ⟨⟨zW_167, zM_167, zK_167⟩, List.forall_mem_cons.mpr ⟨⟨zW_168, zM_168, zK_168⟩, List.forall_mem_cons.mpr ⟨⟨zW_169, zM_169, zK_169⟩, List.forall_mem_cons.mpr ⟨⟨zW_170, zM_170, zK_170⟩, List.forall_mem_cons.mpr ⟨⟨zW_171, zM_171, zK_171⟩, List.forall_mem_cons.mpr ⟨⟨zW_172, zM_172, zK_172⟩, List.forall_mem_cons.mpr ⟨⟨zW_173, zM_173, zK_173⟩, List.forall_mem_cons.mpr ⟨⟨zW_174, zM_174, zK_174⟩, List.forall_mem_cons.mpr ⟨⟨zW_175, zM_175, zK_175⟩, List.forall_mem_cons.mpr ⟨⟨zW_176, zM_176, zK_176⟩, List.forall_mem_cons.mpr ⟨⟨zW_177, zM_177, zK_177⟩, List.forall_mem_cons.mpr ⟨⟨zW_178, zM_178, zK_178⟩, List.forall_mem_cons.mpr ⟨⟨zW_179, zM_179, zK_179⟩, fun _ h => absurd h List.not_mem_nil⟩⟩⟩⟩⟩⟩⟩⟩⟩⟩⟩⟩⟩⟩⟩⟩⟩⟩⟩⟩
def gTl_9 : List gR := [zR_180, zR_181, zR_182, zR_183, zR_184, zR_185, zR_186, zR_187, zR_188, zR_189, zR_190, zR_191, zR_192, zR_193, zR_194, zR_195, zR_196, zR_197, zR_198, zR_199]
theorem gTk_9 : ∀ r ∈ gTl_9, gOKr r := List.forall_mem_cons.mpr ⟨⟨zW_180, zM_180, zK_180⟩, List.forall_mem_cons.mpr ⟨⟨zW_181, zM_181, zK_181⟩, List.forall_mem_cons.mpr ⟨⟨zW_182, zM_182, zK_182⟩, List.forall_mem_cons.mpr ⟨⟨zW_183, zM_183, zK_183⟩, List.forall_mem_cons.mpr ⟨⟨zW_184, zM_184, zK_184⟩, List.forall_mem_cons.mpr ⟨⟨zW_185, zM_185, zK_185⟩, List.forall_mem_cons.mpr ⟨⟨zW_186, zM_186, zK_186⟩, List.forall_mem_cons.mpr ⟨⟨zW_187, zM_187, zK_187⟩, List.forall_mem_cons.mpr ⟨⟨zW_188, zM_188, zK_188⟩, List.forall_mem_cons.mpr ⟨⟨zW_189, zM_189, zK_189⟩, List.forall_mem_cons.mpr ⟨⟨zW_190, zM_190, zK_190⟩, List.forall_mem_cons.mpr ⟨⟨zW_191, zM_191, zK_191⟩, List.forall_mem_cons.mpr ⟨⟨zW_192, zM_192, zK_192⟩, List.forall_mem_cons.mpr ⟨⟨zW_193, zM_193, zK_193⟩, List.forall_mem_cons.mpr ⟨⟨zW_194, zM_194, zK_194⟩, List.forall_mem_cons.mpr ⟨⟨zW_195, zM_195, zK_195⟩, List.forall_mem_cons.mpr ⟨⟨zW_196, zM_196, zK_196⟩, List.forall_mem_cons.mpr ⟨⟨zW_197, zM_197, zK_197⟩, List.forall_mem_cons.mpr ⟨⟨zW_198, zM_198, zK_198⟩, List.forall_mem_cons.mpr ⟨⟨zW_199, zM_199, zK_199⟩, fun _ h => absurd h List.not_mem_nil⟩⟩⟩⟩⟩⟩⟩⟩⟩⟩⟩⟩⟩⟩⟩⟩⟩⟩⟩⟩
def gTl_10 : List gR := [zR_200, zR_201, zR_202, zR_203, zR_204, zR_205, zR_206, zR_207, zR_208, zR_209, zR_210, zR_211, zR_212, zR_213, zR_214, zR_215, zR_216, zR_217, zR_218, zR_219]
theorem gTk_10 : ∀ r ∈ gTl_10, gOKr r := List.forall_mem_cons.mpr ⟨⟨zW_200, zM_200, zK_200⟩, List.forall_mem_cons.mpr ⟨⟨zW_201, zM_201, zK_201⟩, List.forall_mem_cons.mpr ⟨⟨zW_202, zM_202, zK_202⟩, List.forall_mem_cons.mpr ⟨⟨zW_203, zM_203, zK_203⟩, List.forall_mem_cons.mpr ⟨⟨zW_204, zM_204, zK_204⟩, List.forall_mem_cons.mpr ⟨⟨zW_205, zM_205, zK_205⟩, List.forall_mem_cons.mpr ⟨⟨zW_206, zM_206, zK_206⟩, List.forall_mem_cons.mpr ⟨⟨zW_207, zM_207, zK_207⟩, List.forall_mem_cons.mpr ⟨⟨zW_208, zM_208, zK_208⟩, List.forall_mem_cons.mpr ⟨⟨zW_209, zM_209, zK_209⟩, List.forall_mem_cons.mpr ⟨⟨zW_210, zM_210, zK_210⟩, List.forall_mem_cons.mpr ⟨⟨zW_211, zM_211, zK_211⟩, List.forall_mem_cons.mpr ⟨⟨zW_212, zM_212, zK_212⟩, List.forall_mem_cons.mpr ⟨⟨zW_213, zM_213, zK_213⟩, List.forall_mem_cons.mpr ⟨⟨zW_214, zM_214, zK_214⟩, List.forall_mem_cons.mpr ⟨⟨zW_215, zM_215, zK_215⟩, List.forall_mem_cons.mpr ⟨⟨zW_216, zM_216, zK_216⟩, List.forall_mem_cons.mpr ⟨⟨zW_217, zM_217, zK_217⟩, List.forall_mem_cons.mpr ⟨⟨zW_218, zM_218, zK_218⟩, List.forall_mem_cons.mpr ⟨⟨zW_219, zM_219, zK_219⟩, fun _ h => absurd h List.not_mem_nil⟩⟩⟩⟩⟩⟩⟩⟩⟩⟩⟩⟩⟩⟩⟩⟩⟩⟩⟩⟩
def gTl_11 : List gR := [zR_220, zR_221, zR_222]
theorem gTk_11 : ∀ r ∈ gTl_11, gOKr r := List.forall_mem_cons.mpr ⟨⟨zW_220, zM_220, zK_220⟩, List.forall_mem_cons.mpr ⟨⟨zW_221, zM_221, zK_221⟩, List.forall_mem_cons.mpr ⟨⟨zW_222, zM_222, zK_222⟩, fun _ h => absurd h List.not_mem_nil⟩⟩⟩
