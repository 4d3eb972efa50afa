theorem zK_0 : gCode gTT gFt gCn gTb0 zR_0 = true := by decide +kernel
theorem zW_0 : (Jvm.Cond.code zR_0.1.1 zR_0.1.2.1 zR_0.1.2.2.1 zR_0.1.2.2.2) ∈ gW := List.mem_filter.mpr ⟨List.mem_of_getElem? (i := 664) (by decide +kernel), rfl⟩
theorem zM_0 : ∃ w, gMet gTT gCn zR_0 w = true := ⟨(664, 65, 662, 663), by decide +kernel⟩
theorem zK_1 : gCode gTT gFt gCn gTb0 zR_1 = true := by decide +kernel
theorem zW_1 : (Jvm.Cond.code zR_1.1.1 zR_1.1.2.1 zR_1.1.2.2.1 zR_1.1.2.2.2) ∈ gW := List.mem_filter.mpr ⟨List.mem_of_getElem? (i := 674) (by decide +kernel), rfl⟩
theorem zM_1 : ∃ w, gMet gTT gCn zR_1 w = true := ⟨(674, 65, 672, 673), by decide +kernel⟩
theorem zK_2 : gCode gTT gFt gCn gTb0 zR_2 = true := by decide +kernel
theorem zW_2 : (Jvm.Cond.code zR_2.1.1 zR_2.1.2.1 zR_2.1.2.2.1 zR_2.1.2.2.2) ∈ gW := List.mem_filter.mpr ⟨List.mem_of_getElem? (i := 668) (by decide +kernel), rfl⟩
theorem zM_2 : ∃ w, gMet gTT gCn zR_2 w = true := ⟨(668, 65, 666, 667), by decide +kernel⟩
theorem zK_3 : gCode gTT gFt gCn gTb0 zR_3 = true := by decide +kernel
theorem zW_3 : (Jvm.Cond.code zR_3.1.1 zR_3.1.2.1 zR_3.1.2.2.1 zR_3.1.2.2.2) ∈ gW := List.mem_filter.mpr ⟨List.mem_of_getElem? (i := 678) (by decide +kernel), rfl⟩
theorem zM_3 : ∃ w, gMet gTT gCn zR_3 w = true := ⟨(678, 65, 676, 677), by decide +kernel⟩
theorem zK_4 : gCode gTT gFt gCn gTb0 zR_4 = true := by decide +kernel
theorem zW_4 : (Jvm.Cond.code zR_4.1.1 zR_4.1.2.1 zR_4.1.2.2.1 zR_4.1.2.2.2) ∈ gW := List.mem_filter.mpr ⟨List.mem_of_getElem? (i := 684) (by decide +kernel), rfl⟩
theorem zM_4 : ∃ w, gMet gTT gCn zR_4 w = true := ⟨(684, 65, 683, 0), by decide +kernel⟩
theorem zK_5 : gCode gTT gFt gCn gTb0 zR_5 = true := by decide +kernel
theorem zW_5 : (Jvm.Cond.code zR_5.1.1 zR_5.1.2.1 zR_5.1.2.2.1 zR_5.1.2.2.2) ∈ gW := List.mem_filter.mpr ⟨List.mem_of_getElem? (i := 681) (by decide +kernel), rfl⟩
theorem zM_5 : ∃ w, gMet gTT gCn zR_5 w = true := ⟨(681, 66, 680, 0), by decide +kernel⟩
theorem zK_6 : gCode gTT gFt gCn gTb0 zR_6 = true := by decide +kernel
theorem zW_6 : (Jvm.Cond.code zR_6.1.1 zR_6.1.2.1 zR_6.1.2.2.1 zR_6.1.2.2.2) ∈ gW := List.mem_filter.mpr ⟨List.mem_of_getElem? (i := 442) (by decide +kernel), rfl⟩
theorem zM_6 : ∃ w, gMet gTT gCn zR_6 w = true := ⟨(442, 63, 441, 0), by decide +kernel⟩
theorem zK_7 : gCode gTT gFt gCn gTb0 zR_7 = true := by decide +kernel
theorem zW_7 : (Jvm.Cond.code zR_7.1.1 zR_7.1.2.1 zR_7.1.2.2.1 zR_7.1.2.2.2) ∈ gW := List.mem_filter.mpr ⟨List.mem_of_getElem? (i := 379) (by decide +kernel), rfl⟩
theorem zM_7 : ∃ w, gMet gTT gCn zR_7 w = true := ⟨(379, 63, 378, 0), by decide +kernel⟩
theorem zK_8 : gCode gTT gFt gCn gTb0 zR_8 = true := by decide +kernel
theorem zW_8 : (Jvm.Cond.code zR_8.1.1 zR_8.1.2.1 zR_8.1.2.2.1 zR_8.1.2.2.2) ∈ gW := List.mem_filter.mpr ⟨List.mem_of_getElem? (i := 689) (by decide +kernel), rfl⟩
theorem zM_8 : ∃ w, gMet gTT gCn zR_8 w = true := ⟨(689, 67, 688, 0), by decide +kernel⟩
theorem zK_9 : gCode gTT gFt gCn gTb0 zR_9 = true := by decide +kernel
theorem zW_9 : (Jvm.Cond.code zR_9.1.1 zR_9.1.2.1 zR_9.1.2.2.1 zR_9.1.2.2.2) ∈ gW := List.mem_filter.mpr ⟨List.mem_of_getElem? (i := 81) (by decide +kernel), rfl⟩
theorem zM_9 : ∃ w, gMet gTT gCn zR_9 w = true := ⟨(81, 56, 80, 0), by decide +kernel⟩
theorem zK_10 : gCode gTT gFt gCn gTb0 zR_10 = true := by decide +kernel
theorem zW_10 : (Jvm.Cond.code zR_10.1.1 zR_10.1.2.1 zR_10.1.2.2.1 zR_10.1.2.2.2) ∈ gW := List.mem_filter.mpr ⟨List.mem_of_getElem? (i := 387) (by decide +kernel), rfl⟩
theorem zM_10 : ∃ w, gMet gTT gCn zR_10 w = true := ⟨(387, 56, 385, 386), by decide +kernel⟩
theorem zK_11 : gCode gTT gFt gCn gTb0 zR_11 = true := by decide +kernel
theorem zW_11 : (Jvm.Cond.code zR_11.1.1 zR_11.1.2.1 zR_11.1.2.2.1 zR_11.1.2.2.2) ∈ gW := List.mem_filter.mpr ⟨List.mem_of_getElem? (i := 438) (by decide +kernel), rfl⟩
theorem zM_11 : ∃ w, gMet gTT gCn zR_11 w = true := ⟨(438, 56, 436, 437), by decide +kernel⟩
theorem zK_12 : gCode gTT gFt gCn gTb0 zR_12 = true := by decide +kernel
theorem zW_12 : (Jvm.Cond.code zR_12.1.1 zR_12.1.2.1 zR_12.1.2.2.1 zR_12.1.2.2.2) ∈ gW := List.mem_filter.mpr ⟨List.mem_of_getElem? (i := 304) (by decide +kernel), rfl⟩
theorem zM_12 : ∃ w, gMet gTT gCn zR_12 w = true := ⟨(304, 56, 302, 303), by decide +kernel⟩
theorem zK_13 : gCode gTT gFt gCn gTb0 zR_13 = true := by decide +kernel
theorem zW_13 : (Jvm.Cond.code zR_13.1.1 zR_13.1.2.1 zR_13.1.2.2.1 zR_13.1.2.2.2) ∈ gW := List.mem_filter.mpr ⟨List.mem_of_getElem? (i := 284) (by decide +kernel), rfl⟩
theorem zM_13 : ∃ w, gMet gTT gCn zR_13 w = true := ⟨(284, 56, 282, 283), by decide +kernel⟩
theorem zK_14 : gCode gTT gFt gCn gTb0 zR_14 = true := by decide +kernel
theorem zW_14 : (Jvm.Cond.code zR_14.1.1 zR_14.1.2.1 zR_14.1.2.2.1 zR_14.1.2.2.2) ∈ gW := List.mem_filter.mpr ⟨List.mem_of_getElem? (i := 339) (by decide +kernel), rfl⟩
theorem zM_14 : ∃ w, gMet gTT gCn zR_14 w = true := ⟨(339, 56, 337, 338), by decide +kernel⟩
theorem zK_15 : gCode gTT gFt gCn gTb0 zR_15 = true := by decide +kernel
theorem zW_15 : (Jvm.Cond.code zR_15.1.1 zR_15.1.2.1 zR_15.1.2.2.1 zR_15.1.2.2.2) ∈ gW := List.mem_filter.mpr ⟨List.mem_of_getElem? (i := 402) (by decide +kernel), rfl⟩
theorem zM_15 : ∃ w, gMet gTT gCn zR_15 w = true := ⟨(402, 56, 400, 401), by decide +kernel⟩
theorem zK_16 : gCode gTT gFt gCn gTb0 zR_16 = true := by decide +kernel
theorem zW_16 : (Jvm.Cond.code zR_16.1.1 zR_16.1.2.1 zR_16.1.2.2.1 zR_16.1.2.2.2) ∈ gW := List.mem_filter.mpr ⟨List.mem_of_getElem? (i := 296) (by decide +kernel), rfl⟩
theorem zM_16 : ∃ w, gMet gTT gCn zR_16 w = true := ⟨(296, 56, 294, 295), by decide +kernel⟩
theorem zK_17 : gCode gTT gFt gCn gTb0 zR_17 = true := by decide +kernel
theorem zW_17 : (Jvm.Cond.code zR_17.1.1 zR_17.1.2.1 zR_17.1.2.2.1 zR_17.1.2.2.2) ∈ gW := List.mem_filter.mpr ⟨List.mem_of_getElem? (i := 300) (by decide +kernel), rfl⟩
theorem zM_17 : ∃ w, gMet gTT gCn zR_17 w = true := ⟨(300, 56, 298, 299), by decide +kernel⟩
theorem zK_18 : gCode gTT gFt gCn gTb0 zR_18 = true := by decide +kernel
theorem zW_18 : (Jvm.Cond.code zR_18.1.1 zR_18.1.2.1 zR_18.1.2.2.1 zR_18.1.2.2.2) ∈ gW := List.mem_filter.mpr ⟨List.mem_of_getElem? (i := 355) (by decide +kernel), rfl⟩
theorem zM_18 : ∃ w, gMet gTT gCn zR_18 w = true := ⟨(355, 56, 353, 354), by decide +kernel⟩
theorem zK_19 : gCode gTT gFt gCn gTb0 zR_19 = true := by decide +kernel
theorem zW_19 : (Jvm.Cond.code zR_19.1.1 zR_19.1.2.1 zR_19.1.2.2.1 zR_19.1.2.2.2) ∈ gW := List.mem_filter.mpr ⟨List.mem_of_getElem? (i := 394) (by decide +kernel), rfl⟩
theorem zM_19 : ∃ w, gMet gTT gCn zR_19 w = true := ⟨(394, 56, 392, 393), by decide +kernel⟩
theorem zK_20 : gCode gTT gFt gCn gTb0 zR_20 = true := by decide +kernel
theorem zW_20 : (Jvm.Cond.code zR_20.1.1 zR_20.1.2.1 zR_20.1.2.2.1 zR_20.1.2.2.2) ∈ gW := List.mem_filter.mpr ⟨List.mem_of_getElem? (i := 348) (by decide +kernel), rfl⟩
theorem zM_20 : ∃ w, gMet gTT gCn zR_20 w = true := ⟨(348, 56, 346, 347), by decide +kernel⟩
theorem zK_21 : gCode gTT gFt gCn gTb0 zR_21 = true := by decide +kernel
theorem zW_21 : (Jvm.Cond.code zR_21.1.1 zR_21.1.2.1 zR_21.1.2.2.1 zR_21.1.2.2.2) ∈ gW := List.mem_filter.mpr ⟨List.mem_of_getElem? (i := 376) (by decide +kernel), rfl⟩
theorem zM_21 : ∃ w, gMet gTT gCn zR_21 w = true := ⟨(376, 56, 374, 375), by decide +kernel⟩
theorem zK_22 : gCode gTT gFt gCn gTb0 zR_22 = true := by decide +kernel
theorem zW_22 : (Jvm.Cond.code zR_22.1.1 zR_22.1.2.1 zR_22.1.2.2.1 zR_22.1.2.2.2) ∈ gW := List.mem_filter.mpr ⟨List.mem_of_getElem? (i := 503) (by decide +kernel), rfl⟩
theorem zM_22 : ∃ w, gMet gTT gCn zR_22 w = true := ⟨(503, 56, 501, 502), by decide +kernel⟩
theorem zK_23 : gCode gTT gFt gCn gTb0 zR_23 = true := by decide +kernel
theorem zW_23 : (Jvm.Cond.code zR_23.1.1 zR_23.1.2.1 zR_23.1.2.2.1 zR_23.1.2.2.2) ∈ gW := List.mem_filter.mpr ⟨List.mem_of_getElem? (i := 499) (by decide +kernel), rfl⟩
theorem zM_23 : ∃ w, gMet gTT gCn zR_23 w = true := ⟨(499, 56, 497, 498), by decide +kernel⟩
theorem zK_24 : gCode gTT gFt gCn gTb0 zR_24 = true := by decide +kernel
theorem zW_24 : (Jvm.Cond.code zR_24.1.1 zR_24.1.2.1 zR_24.1.2.2.1 zR_24.1.2.2.2) ∈ gW := List.mem_filter.mpr ⟨List.mem_of_getElem? (i := 523) (by decide +kernel), rfl⟩
theorem zM_24 : ∃ w, gMet gTT gCn zR_24 w = true := ⟨(523, 56, 521, 522), by decide +kernel⟩
theorem zK_25 : gCode gTT gFt gCn gTb0 zR_25 = true := by decide +kernel
theorem zW_25 : (Jvm.Cond.code zR_25.1.1 zR_25.1.2.1 zR_25.1.2.2.1 zR_25.1.2.2.2) ∈ gW := List.mem_filter.mpr ⟨List.mem_of_getElem? (i := 527) (by decide +kernel), rfl⟩
theorem zM_25 : ∃ w, gMet gTT gCn zR_25 w = true := ⟨(527, 56, 525, 526), by decide +kernel⟩
theorem zK_26 : gCode gTT gFt gCn gTb0 zR_26 = true := by decide +kernel
theorem zW_26 : (Jvm.Cond.code zR_26.1.1 zR_26.1.2.1 zR_26.1.2.2.1 zR_26.1.2.2.2) ∈ gW := List.mem_filter.mpr ⟨List.mem_of_getElem? (i := 539) (by decide +kernel), rfl⟩
theorem zM_26 : ∃ w, gMet gTT gCn zR_26 w = true := ⟨(539, 56, 537, 538), by decide +kernel⟩
theorem zK_27 : gCode gTT gFt gCn gTb0 zR_27 = true := by decide +kernel
theorem zW_27 : (Jvm.Cond.code zR_27.1.1 zR_27.1.2.1 zR_27.1.2.2.1 zR_27.1.2.2.2) ∈ gW := List.mem_filter.mpr ⟨List.mem_of_getElem? (i := 553) (by decide +kernel), rfl⟩
theorem zM_27 : ∃ w, gMet gTT gCn zR_27 w = true := ⟨(553, 56, 551, 552), by decide +kernel⟩
theorem zK_28 : gCode gTT gFt gCn gTb0 zR_28 = true := by decide +kernel
theorem zW_28 : (Jvm.Cond.code zR_28.1.1 zR_28.1.2.1 zR_28.1.2.2.1 zR_28.1.2.2.2) ∈ gW := List.mem_filter.mpr ⟨List.mem_of_getElem? (i := 599) (by decide +kernel), rfl⟩
theorem zM_28 : ∃ w, gMet gTT gCn zR_28 w = true := ⟨(599, 56, 597, 598), by decide +kernel⟩
theorem zK_29 : gCode gTT gFt gCn gTb0 zR_29 = true := by decide +kernel
theorem zW_29 : (Jvm.Cond.code zR_29.1.1 zR_29.1.2.1 zR_29.1.2.2.1 zR_29.1.2.2.2) ∈ gW := List.mem_filter.mpr ⟨List.mem_of_getElem? (i := 806) (by decide +kernel), rfl⟩
theorem zM_29 : ∃ w, gMet gTT gCn zR_29 w = true := ⟨(806, 56, 804, 805), by decide +kernel⟩
theorem zK_30 : gCode gTT gFt gCn gTb0 zR_30 = true := by decide +kernel
theorem zW_30 : (Jvm.Cond.code zR_30.1.1 zR_30.1.2.1 zR_30.1.2.2.1 zR_30.1.2.2.2) ∈ gW := List.mem_filter.mpr ⟨List.mem_of_getElem? (i := 197) (by decide +kernel), rfl⟩
theorem zM_30 : ∃ w, gMet gTT gCn zR_30 w = true := ⟨(197, 59, 196, 0), by decide +kernel⟩
theorem zK_31 : gCode gTT gFt gCn gTb0 zR_31 = true := by decide +kernel
theorem zW_31 : (Jvm.Cond.code zR_31.1.1 zR_31.1.2.1 zR_31.1.2.2.1 zR_31.1.2.2.2) ∈ gW := List.mem_filter.mpr ⟨List.mem_of_getElem? (i := 624) (by decide +kernel), rfl⟩
theorem zM_31 : ∃ w, gMet gTT gCn zR_31 w = true := ⟨(624, 59, 622, 623), by decide +kernel⟩
theorem zK_32 : gCode gTT gFt gCn gTb0 zR_32 = true := by decide +kernel
theorem zW_32 : (Jvm.Cond.code zR_32.1.1 zR_32.1.2.1 zR_32.1.2.2.1 zR_32.1.2.2.2) ∈ gW := List.mem_filter.mpr ⟨List.mem_of_getElem? (i := 642) (by decide +kernel), rfl⟩
theorem zM_32 : ∃ w, gMet gTT gCn zR_32 w = true := ⟨(642, 59, 641, 11), by decide +kernel⟩
theorem zK_33 : gCode gTT gFt gCn gTb0 zR_33 = true := by decide +kernel
theorem zW_33 : (Jvm.Cond.code zR_33.1.1 zR_33.1.2.1 zR_33.1.2.2.1 zR_33.1.2.2.2) ∈ gW := List.mem_filter.mpr ⟨List.mem_of_getElem? (i := 712) (by decide +kernel), rfl⟩
theorem zM_33 : ∃ w, gMet gTT gCn zR_33 w = true := ⟨(712, 59, 711, 14), by decide +kernel⟩
theorem zK_34 : gCode gTT gFt gCn gTb0 zR_34 = true := by decide +kernel
theorem zW_34 : (Jvm.Cond.code zR_34.1.1 zR_34.1.2.1 zR_34.1.2.2.1 zR_34.1.2.2.2) ∈ gW := List.mem_filter.mpr ⟨List.mem_of_getElem? (i := 730) (by decide +kernel), rfl⟩
theorem zM_34 : ∃ w, gMet gTT gCn zR_34 w = true := ⟨(730, 59, 729, 17), by decide +kernel⟩
theorem zK_35 : gCode gTT gFt gCn gTb0 zR_35 = true := by decide +kernel
theorem zW_35 : (Jvm.Cond.code zR_35.1.1 zR_35.1.2.1 zR_35.1.2.2.1 zR_35.1.2.2.2) ∈ gW := List.mem_filter.mpr ⟨List.mem_of_getElem? (i := 723) (by decide +kernel), rfl⟩
theorem zM_35 : ∃ w, gMet gTT gCn zR_35 w = true := ⟨(723, 59, 722, 16), by decide +kernel⟩
theorem zK_36 : gCode gTT gFt gCn gTb0 zR_36 = true := by decide +kernel
theorem zW_36 : (Jvm.Cond.code zR_36.1.1 zR_36.1.2.1 zR_36.1.2.2.1 zR_36.1.2.2.2) ∈ gW := List.mem_filter.mpr ⟨List.mem_of_getElem? (i := 646) (by decide +kernel), rfl⟩
theorem zM_36 : ∃ w, gMet gTT gCn zR_36 w = true := ⟨(646, 59, 645, 12), by decide +kernel⟩
theorem zK_37 : gCode gTT gFt gCn gTb0 zR_37 = true := by decide +kernel
theorem zW_37 : (Jvm.Cond.code zR_37.1.1 zR_37.1.2.1 zR_37.1.2.2.1 zR_37.1.2.2.2) ∈ gW := List.mem_filter.mpr ⟨List.mem_of_getElem? (i := 649) (by decide +kernel), rfl⟩
theorem zM_37 : ∃ w, gMet gTT gCn zR_37 w = true := ⟨(649, 59, 648, 0), by decide +kernel⟩
theorem zK_38 : gCode gTT gFt gCn gTb0 zR_38 = true := by decide +kernel
theorem zW_38 : (Jvm.Cond.code zR_38.1.1 zR_38.1.2.1 zR_38.1.2.2.1 zR_38.1.2.2.2) ∈ gW := List.mem_filter.mpr ⟨List.mem_of_getElem? (i := 660) (by decide +kernel), rfl⟩
theorem zM_38 : ∃ w, gMet gTT gCn zR_38 w = true := ⟨(660, 59, 659, 13), by decide +kernel⟩
theorem zK_39 : gCode gTT gFt gCn gTb0 zR_39 = true := by decide +kernel
theorem zW_39 : (Jvm.Cond.code zR_39.1.1 zR_39.1.2.1 zR_39.1.2.2.1 zR_39.1.2.2.2) ∈ gW := List.mem_filter.mpr ⟨List.mem_of_getElem? (i := 716) (by decide +kernel), rfl⟩
theorem zM_39 : ∃ w, gMet gTT gCn zR_39 w = true := ⟨(716, 59, 715, 15), by decide +kernel⟩
theorem zK_40 : gCode gTT gFt gCn gTb0 zR_40 = true := by decide +kernel
theorem zW_40 : (Jvm.Cond.code zR_40.1.1 zR_40.1.2.1 zR_40.1.2.2.1 zR_40.1.2.2.2) ∈ gW := List.mem_filter.mpr ⟨List.mem_of_getElem? (i := 628) (by decide +kernel), rfl⟩
theorem zM_40 : ∃ w, gMet gTT gCn zR_40 w = true := ⟨(628, 59, 627, 10), by decide +kernel⟩
theorem zK_41 : gCode gTT gFt gCn gTb0 zR_41 = true := by decide +kernel
theorem zW_41 : (Jvm.Cond.code zR_41.1.1 zR_41.1.2.1 zR_41.1.2.2.1 zR_41.1.2.2.2) ∈ gW := List.mem_filter.mpr ⟨List.mem_of_getElem? (i := 638) (by decide +kernel), rfl⟩
theorem zM_41 : ∃ w, gMet gTT gCn zR_41 w = true := ⟨(638, 59, 637, 0), by decide +kernel⟩
theorem zK_42 : gCode gTT gFt gCn gTb0 zR_42 = true := by decide +kernel
theorem zW_42 : (Jvm.Cond.code zR_42.1.1 zR_42.1.2.1 zR_42.1.2.2.1 zR_42.1.2.2.2) ∈ gW := List.mem_filter.mpr ⟨List.mem_of_getElem? (i := 631) (by decide +kernel), rfl⟩
theorem zM_42 : ∃ w, gMet gTT gCn zR_42 w = true := ⟨(631, 59, 630, 0), by decide +kernel⟩
theorem zK_43 : gCode gTT gFt gCn gTb0 zR_43 = true := by decide +kernel
theorem zW_43 : (Jvm.Cond.code zR_43.1.1 zR_43.1.2.1 zR_43.1.2.2.1 zR_43.1.2.2.2) ∈ gW := List.mem_filter.mpr ⟨List.mem_of_getElem? (i := 634) (by decide +kernel), rfl⟩
theorem zM_43 : ∃ w, gMet gTT gCn zR_43 w = true := ⟨(634, 59, 633, 0), by decide +kernel⟩
theorem zK_44 : gCode gTT gFt gCn gTb0 zR_44 = true := by decide +kernel
theorem zW_44 : (Jvm.Cond.code zR_44.1.1 zR_44.1.2.1 zR_44.1.2.2.1 zR_44.1.2.2.2) ∈ gW := List.mem_filter.mpr ⟨List.mem_of_getElem? (i := 147) (by decide +kernel), rfl⟩
theorem zM_44 : ∃ w, gMet gTT gCn zR_44 w = true := ⟨(147, 57, 146, 0), by decide +kernel⟩
theorem zK_45 : gCode gTT gFt gCn gTb0 zR_45 = true := by decide +kernel
theorem zW_45 : (Jvm.Cond.code zR_45.1.1 zR_45.1.2.1 zR_45.1.2.2.1 zR_45.1.2.2.2) ∈ gW := List.mem_filter.mpr ⟨List.mem_of_getElem? (i := 434) (by decide +kernel), rfl⟩
theorem zM_45 : ∃ w, gMet gTT gCn zR_45 w = true := ⟨(434, 57, 432, 433), by decide +kernel⟩
theorem zK_46 : gCode gTT gFt gCn gTb0 zR_46 = true := by decide +kernel
theorem zW_46 : (Jvm.Cond.code zR_46.1.1 zR_46.1.2.1 zR_46.1.2.2.1 zR_46.1.2.2.2) ∈ gW := List.mem_filter.mpr ⟨List.mem_of_getElem? (i := 446) (by decide +kernel), rfl⟩
theorem zM_46 : ∃ w, gMet gTT gCn zR_46 w = true := ⟨(446, 57, 445, 3), by decide +kernel⟩
theorem zK_47 : gCode gTT gFt gCn gTb0 zR_47 = true := by decide +kernel
theorem zW_47 : (Jvm.Cond.code zR_47.1.1 zR_47.1.2.1 zR_47.1.2.2.1 zR_47.1.2.2.2) ∈ gW := List.mem_filter.mpr ⟨List.mem_of_getElem? (i := 452) (by decide +kernel), rfl⟩
theorem zM_47 : ∃ w, gMet gTT gCn zR_47 w = true := ⟨(452, 57, 451, 4), by decide +kernel⟩
theorem zK_48 : gCode gTT gFt gCn gTb0 zR_48 = true := by decide +kernel
theorem zW_48 : (Jvm.Cond.code zR_48.1.1 zR_48.1.2.1 zR_48.1.2.2.1 zR_48.1.2.2.2) ∈ gW := List.mem_filter.mpr ⟨List.mem_of_getElem? (i := 456) (by decide +kernel), rfl⟩
theorem zM_48 : ∃ w, gMet gTT gCn zR_48 w = true := ⟨(456, 57, 455, 5), by decide +kernel⟩
theorem zK_49 : gCode gTT gFt gCn gTb0 zR_49 = true := by decide +kernel
theorem zW_49 : (Jvm.Cond.code zR_49.1.1 zR_49.1.2.1 zR_49.1.2.2.1 zR_49.1.2.2.2) ∈ gW := List.mem_filter.mpr ⟨List.mem_of_getElem? (i := 465) (by decide +kernel), rfl⟩
theorem zM_49 : ∃ w, gMet gTT gCn zR_49 w = true := ⟨(465, 57, 463, 464), by decide +kernel⟩
theorem zK_50 : gCode gTT gFt gCn gTb0 zR_50 = true := by decide +kernel
theorem zW_50 : (Jvm.Cond.code zR_50.1.1 zR_50.1.2.1 zR_50.1.2.2.1 zR_50.1.2.2.2) ∈ gW := List.mem_filter.mpr ⟨List.mem_of_getElem? (i := 461) (by decide +kernel), rfl⟩
theorem zM_50 : ∃ w, gMet gTT gCn zR_50 w = true := ⟨(461, 57, 459, 460), by decide +kernel⟩
theorem zK_51 : gCode gTT gFt gCn gTb0 zR_51 = true := by decide +kernel
theorem zW_51 : (Jvm.Cond.code zR_51.1.1 zR_51.1.2.1 zR_51.1.2.2.1 zR_51.1.2.2.2) ∈ gW := List.mem_filter.mpr ⟨List.mem_of_getElem? (i := 469) (by decide +kernel), rfl⟩
theorem zM_51 : ∃ w, gMet gTT gCn zR_51 w = true := ⟨(469, 57, 467, 468), by decide +kernel⟩
theorem zK_52 : gCode gTT gFt gCn gTb0 zR_52 = true := by decide +kernel
theorem zW_52 : (Jvm.Cond.code zR_52.1.1 zR_52.1.2.1 zR_52.1.2.2.1 zR_52.1.2.2.2) ∈ gW := List.mem_filter.mpr ⟨List.mem_of_getElem? (i := 226) (by decide +kernel), rfl⟩
theorem zM_52 : ∃ w, gMet gTT gCn zR_52 w = true := ⟨(226, 60, 225, 0), by decide +kernel⟩
theorem zK_53 : gCode gTT gFt gCn gTb0 zR_53 = true := by decide +kernel
theorem zW_53 : (Jvm.Cond.code zR_53.1.1 zR_53.1.2.1 zR_53.1.2.2.1 zR_53.1.2.2.2) ∈ gW := List.mem_filter.mpr ⟨List.mem_of_getElem? (i := 579) (by decide +kernel), rfl⟩
theorem zM_53 : ∃ w, gMet gTT gCn zR_53 w = true := ⟨(579, 60, 577, 578), by decide +kernel⟩
theorem zK_54 : gCode gTT gFt gCn gTb0 zR_54 = true := by decide +kernel
theorem zW_54 : (Jvm.Cond.code zR_54.1.1 zR_54.1.2.1 zR_54.1.2.2.1 zR_54.1.2.2.2) ∈ gW := List.mem_filter.mpr ⟨List.mem_of_getElem? (i := 759) (by decide +kernel), rfl⟩
theorem zM_54 : ∃ w, gMet gTT gCn zR_54 w = true := ⟨(759, 60, 757, 758), by decide +kernel⟩
theorem zK_55 : gCode gTT gFt gCn gTb0 zR_55 = true := by decide +kernel
theorem zW_55 : (Jvm.Cond.code zR_55.1.1 zR_55.1.2.1 zR_55.1.2.2.1 zR_55.1.2.2.2) ∈ gW := List.mem_filter.mpr ⟨List.mem_of_getElem? (i := 768) (by decide +kernel), rfl⟩
theorem zM_55 : ∃ w, gMet gTT gCn zR_55 w = true := ⟨(768, 60, 766, 767), by decide +kernel⟩
theorem zK_56 : gCode gTT gFt gCn gTb0 zR_56 = true := by decide +kernel
theorem zW_56 : (Jvm.Cond.code zR_56.1.1 zR_56.1.2.1 zR_56.1.2.2.1 zR_56.1.2.2.2) ∈ gW := List.mem_filter.mpr ⟨List.mem_of_getElem? (i := 776) (by decide +kernel), rfl⟩
theorem zM_56 : ∃ w, gMet gTT gCn zR_56 w = true := ⟨(776, 60, 774, 775), by decide +kernel⟩
theorem zK_57 : gCode gTT gFt gCn gTb0 zR_57 = true := by decide +kernel
theorem zW_57 : (Jvm.Cond.code zR_57.1.1 zR_57.1.2.1 zR_57.1.2.2.1 zR_57.1.2.2.2) ∈ gW := List.mem_filter.mpr ⟨List.mem_of_getElem? (i := 587) (by decide +kernel), rfl⟩
theorem zM_57 : ∃ w, gMet gTT gCn zR_57 w = true := ⟨(587, 60, 585, 586), by decide +kernel⟩
theorem zK_58 : gCode gTT gFt gCn gTb0 zR_58 = true := by decide +kernel
theorem zW_58 : (Jvm.Cond.code zR_58.1.1 zR_58.1.2.1 zR_58.1.2.2.1 zR_58.1.2.2.2) ∈ gW := List.mem_filter.mpr ⟨List.mem_of_getElem? (i := 180) (by decide +kernel), rfl⟩
theorem zM_58 : ∃ w, gMet gTT gCn zR_58 w = true := ⟨(180, 58, 179, 0), by decide +kernel⟩
theorem zK_59 : gCode gTT gFt gCn gTb0 zR_59 = true := by decide +kernel
theorem zW_59 : (Jvm.Cond.code zR_59.1.1 zR_59.1.2.1 zR_59.1.2.2.1 zR_59.1.2.2.2) ∈ gW := List.mem_filter.mpr ⟨List.mem_of_getElem? (i := 612) (by decide +kernel), rfl⟩
theorem zM_59 : ∃ w, gMet gTT gCn zR_59 w = true := ⟨(612, 58, 610, 611), by decide +kernel⟩
theorem zK_60 : gCode gTT gFt gCn gTb0 zR_60 = true := by decide +kernel
theorem zW_60 : (Jvm.Cond.code zR_60.1.1 zR_60.1.2.1 zR_60.1.2.2.1 zR_60.1.2.2.2) ∈ gW := List.mem_filter.mpr ⟨List.mem_of_getElem? (i := 73) (by decide +kernel), rfl⟩
theorem zM_60 : ∃ w, gMet gTT gCn zR_60 w = true := ⟨(73, 55, 72, 0), by decide +kernel⟩
theorem zK_61 : gCode gTT gFt gCn gTb0 zR_61 = true := by decide +kernel
theorem zW_61 : (Jvm.Cond.code zR_61.1.1 zR_61.1.2.1 zR_61.1.2.2.1 zR_61.1.2.2.2) ∈ gW := List.mem_filter.mpr ⟨List.mem_of_getElem? (i := 272) (by decide +kernel), rfl⟩
theorem zM_61 : ∃ w, gMet gTT gCn zR_61 w = true := ⟨(272, 55, 270, 271), by decide +kernel⟩
theorem zK_62 : gCode gTT gFt gCn gTb0 zR_62 = true := by decide +kernel
theorem zW_62 : (Jvm.Cond.code zR_62.1.1 zR_62.1.2.1 zR_62.1.2.2.1 zR_62.1.2.2.2) ∈ gW := List.mem_filter.mpr ⟨List.mem_of_getElem? (i := 288) (by decide +kernel), rfl⟩
theorem zM_62 : ∃ w, gMet gTT gCn zR_62 w = true := ⟨(288, 55, 286, 287), by decide +kernel⟩
theorem zK_63 : gCode gTT gFt gCn gTb0 zR_63 = true := by decide +kernel
theorem zW_63 : (Jvm.Cond.code zR_63.1.1 zR_63.1.2.1 zR_63.1.2.2.1 zR_63.1.2.2.2) ∈ gW := List.mem_filter.mpr ⟨List.mem_of_getElem? (i := 308) (by decide +kernel), rfl⟩
theorem zM_63 : ∃ w, gMet gTT gCn zR_63 w = true := ⟨(308, 55, 306, 307), by decide +kernel⟩
theorem zK_64 : gCode gTT gFt gCn gTb0 zR_64 = true := by decide +kernel
theorem zW_64 : (Jvm.Cond.code zR_64.1.1 zR_64.1.2.1 zR_64.1.2.2.1 zR_64.1.2.2.2) ∈ gW := List.mem_filter.mpr ⟨List.mem_of_getElem? (i := 319) (by decide +kernel), rfl⟩
theorem zM_64 : ∃ w, gMet gTT gCn zR_64 w = true := ⟨(319, 55, 317, 318), by decide +kernel⟩
theorem zK_65 : gCode gTT gFt gCn gTb0 zR_65 = true := by decide +kernel
theorem zW_65 : (Jvm.Cond.code zR_65.1.1 zR_65.1.2.1 zR_65.1.2.2.1 zR_65.1.2.2.2) ∈ gW := List.mem_filter.mpr ⟨List.mem_of_getElem? (i := 327) (by decide +kernel), rfl⟩
theorem zM_65 : ∃ w, gMet gTT gCn zR_65 w = true := ⟨(327, 55, 325, 326), by decide +kernel⟩
theorem zK_66 : gCode gTT gFt gCn gTb0 zR_66 = true := by decide +kernel
theorem zW_66 : (Jvm.Cond.code zR_66.1.1 zR_66.1.2.1 zR_66.1.2.2.1 zR_66.1.2.2.2) ∈ gW := List.mem_filter.mpr ⟨List.mem_of_getElem? (i := 331) (by decide +kernel), rfl⟩
theorem zM_66 : ∃ w, gMet gTT gCn zR_66 w = true := ⟨(331, 55, 329, 330), by decide +kernel⟩
theorem zK_67 : gCode gTT gFt gCn gTb0 zR_67 = true := by decide +kernel
theorem zW_67 : (Jvm.Cond.code zR_67.1.1 zR_67.1.2.1 zR_67.1.2.2.1 zR_67.1.2.2.2) ∈ gW := List.mem_filter.mpr ⟨List.mem_of_getElem? (i := 335) (by decide +kernel), rfl⟩
theorem zM_67 : ∃ w, gMet gTT gCn zR_67 w = true := ⟨(335, 55, 333, 334), by decide +kernel⟩
theorem zK_68 : gCode gTT gFt gCn gTb0 zR_68 = true := by decide +kernel
theorem zW_68 : (Jvm.Cond.code zR_68.1.1 zR_68.1.2.1 zR_68.1.2.2.1 zR_68.1.2.2.2) ∈ gW := List.mem_filter.mpr ⟨List.mem_of_getElem? (i := 343) (by decide +kernel), rfl⟩
theorem zM_68 : ∃ w, gMet gTT gCn zR_68 w = true := ⟨(343, 55, 341, 342), by decide +kernel⟩
theorem zK_69 : gCode gTT gFt gCn gTb0 zR_69 = true := by decide +kernel
theorem zW_69 : (Jvm.Cond.code zR_69.1.1 zR_69.1.2.1 zR_69.1.2.2.1 zR_69.1.2.2.2) ∈ gW := List.mem_filter.mpr ⟨List.mem_of_getElem? (i := 364) (by decide +kernel), rfl⟩
theorem zM_69 : ∃ w, gMet gTT gCn zR_69 w = true := ⟨(364, 55, 362, 363), by decide +kernel⟩
theorem zK_70 : gCode gTT gFt gCn gTb0 zR_70 = true := by decide +kernel
theorem zW_70 : (Jvm.Cond.code zR_70.1.1 zR_70.1.2.1 zR_70.1.2.2.1 zR_70.1.2.2.2) ∈ gW := List.mem_filter.mpr ⟨List.mem_of_getElem? (i := 368) (by decide +kernel), rfl⟩
theorem zM_70 : ∃ w, gMet gTT gCn zR_70 w = true := ⟨(368, 55, 366, 367), by decide +kernel⟩
theorem zK_71 : gCode gTT gFt gCn gTb0 zR_71 = true := by decide +kernel
theorem zW_71 : (Jvm.Cond.code zR_71.1.1 zR_71.1.2.1 zR_71.1.2.2.1 zR_71.1.2.2.2) ∈ gW := List.mem_filter.mpr ⟨List.mem_of_getElem? (i := 372) (by decide +kernel), rfl⟩
theorem zM_71 : ∃ w, gMet gTT gCn zR_71 w = true := ⟨(372, 55, 370, 371), by decide +kernel⟩
theorem zK_72 : gCode gTT gFt gCn gTb0 zR_72 = true := by decide +kernel
theorem zW_72 : (Jvm.Cond.code zR_72.1.1 zR_72.1.2.1 zR_72.1.2.2.1 zR_72.1.2.2.2) ∈ gW := List.mem_filter.mpr ⟨List.mem_of_getElem? (i := 383) (by decide +kernel), rfl⟩
theorem zM_72 : ∃ w, gMet gTT gCn zR_72 w = true := ⟨(383, 55, 381, 382), by decide +kernel⟩
theorem zK_73 : gCode gTT gFt gCn gTb0 zR_73 = true := by decide +kernel
