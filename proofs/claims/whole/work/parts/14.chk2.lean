theorem zW_73 : (Jvm.Cond.code zR_73.1.1 zR_73.1.2.1 zR_73.1.2.2.1 zR_73.1.2.2.2) ∈ gW := List.mem_filter.mpr ⟨List.mem_of_getElem? (i := 398) (by decide +kernel), rfl⟩
theorem zM_73 : ∃ w, gMet gTT gCn zR_73 w = true := ⟨(398, 55, 396, 397), by decide +kernel⟩
theorem zK_74 : gCode gTT gFt gCn gTb0 zR_74 = true := by decide +kernel
theorem zW_74 : (Jvm.Cond.code zR_74.1.1 zR_74.1.2.1 zR_74.1.2.2.1 zR_74.1.2.2.2) ∈ gW := List.mem_filter.mpr ⟨List.mem_of_getElem? (i := 409) (by decide +kernel), rfl⟩
theorem zM_74 : ∃ w, gMet gTT gCn zR_74 w = true := ⟨(409, 55, 407, 408), by decide +kernel⟩
theorem zK_75 : gCode gTT gFt gCn gTb0 zR_75 = true := by decide +kernel
theorem zW_75 : (Jvm.Cond.code zR_75.1.1 zR_75.1.2.1 zR_75.1.2.2.1 zR_75.1.2.2.2) ∈ gW := List.mem_filter.mpr ⟨List.mem_of_getElem? (i := 414) (by decide +kernel), rfl⟩
theorem zM_75 : ∃ w, gMet gTT gCn zR_75 w = true := ⟨(414, 55, 412, 413), by decide +kernel⟩
theorem zK_76 : gCode gTT gFt gCn gTb0 zR_76 = true := by decide +kernel
theorem zW_76 : (Jvm.Cond.code zR_76.1.1 zR_76.1.2.1 zR_76.1.2.2.1 zR_76.1.2.2.2) ∈ gW := List.mem_filter.mpr ⟨List.mem_of_getElem? (i := 418) (by decide +kernel), rfl⟩
theorem zM_76 : ∃ w, gMet gTT gCn zR_76 w = true := ⟨(418, 55, 416, 417), by decide +kernel⟩
theorem zK_77 : gCode gTT gFt gCn gTb0 zR_77 = true := by decide +kernel
theorem zW_77 : (Jvm.Cond.code zR_77.1.1 zR_77.1.2.1 zR_77.1.2.2.1 zR_77.1.2.2.2) ∈ gW := List.mem_filter.mpr ⟨List.mem_of_getElem? (i := 426) (by decide +kernel), rfl⟩
theorem zM_77 : ∃ w, gMet gTT gCn zR_77 w = true := ⟨(426, 55, 424, 425), by decide +kernel⟩
theorem zK_78 : gCode gTT gFt gCn gTb0 zR_78 = true := by decide +kernel
theorem zW_78 : (Jvm.Cond.code zR_78.1.1 zR_78.1.2.1 zR_78.1.2.2.1 zR_78.1.2.2.2) ∈ gW := List.mem_filter.mpr ⟨List.mem_of_getElem? (i := 430) (by decide +kernel), rfl⟩
theorem zM_78 : ∃ w, gMet gTT gCn zR_78 w = true := ⟨(430, 55, 428, 429), by decide +kernel⟩
theorem zK_79 : gCode gTT gFt gCn gTb0 zR_79 = true := by decide +kernel
theorem zW_79 : (Jvm.Cond.code zR_79.1.1 zR_79.1.2.1 zR_79.1.2.2.1 zR_79.1.2.2.2) ∈ gW := List.mem_filter.mpr ⟨List.mem_of_getElem? (i := 474) (by decide +kernel), rfl⟩
theorem zM_79 : ∃ w, gMet gTT gCn zR_79 w = true := ⟨(474, 55, 472, 473), by decide +kernel⟩
theorem zK_80 : gCode gTT gFt gCn gTb0 zR_80 = true := by decide +kernel
theorem zW_80 : (Jvm.Cond.code zR_80.1.1 zR_80.1.2.1 zR_80.1.2.2.1 zR_80.1.2.2.2) ∈ gW := List.mem_filter.mpr ⟨List.mem_of_getElem? (i := 479) (by decide +kernel), rfl⟩
theorem zM_80 : ∃ w, gMet gTT gCn zR_80 w = true := ⟨(479, 55, 477, 478), by decide +kernel⟩
theorem zK_81 : gCode gTT gFt gCn gTb0 zR_81 = true := by decide +kernel
theorem zW_81 : (Jvm.Cond.code zR_81.1.1 zR_81.1.2.1 zR_81.1.2.2.1 zR_81.1.2.2.2) ∈ gW := List.mem_filter.mpr ⟨List.mem_of_getElem? (i := 483) (by decide +kernel), rfl⟩
theorem zM_81 : ∃ w, gMet gTT gCn zR_81 w = true := ⟨(483, 55, 481, 482), by decide +kernel⟩
theorem zK_82 : gCode gTT gFt gCn gTb0 zR_82 = true := by decide +kernel
theorem zW_82 : (Jvm.Cond.code zR_82.1.1 zR_82.1.2.1 zR_82.1.2.2.1 zR_82.1.2.2.2) ∈ gW := List.mem_filter.mpr ⟨List.mem_of_getElem? (i := 487) (by decide +kernel), rfl⟩
theorem zM_82 : ∃ w, gMet gTT gCn zR_82 w = true := ⟨(487, 55, 485, 486), by decide +kernel⟩
theorem zK_83 : gCode gTT gFt gCn gTb0 zR_83 = true := by decide +kernel
theorem zW_83 : (Jvm.Cond.code zR_83.1.1 zR_83.1.2.1 zR_83.1.2.2.1 zR_83.1.2.2.2) ∈ gW := List.mem_filter.mpr ⟨List.mem_of_getElem? (i := 507) (by decide +kernel), rfl⟩
theorem zM_83 : ∃ w, gMet gTT gCn zR_83 w = true := ⟨(507, 55, 505, 506), by decide +kernel⟩
theorem zK_84 : gCode gTT gFt gCn gTb0 zR_84 = true := by decide +kernel
theorem zW_84 : (Jvm.Cond.code zR_84.1.1 zR_84.1.2.1 zR_84.1.2.2.1 zR_84.1.2.2.2) ∈ gW := List.mem_filter.mpr ⟨List.mem_of_getElem? (i := 511) (by decide +kernel), rfl⟩
theorem zM_84 : ∃ w, gMet gTT gCn zR_84 w = true := ⟨(511, 55, 509, 510), by decide +kernel⟩
theorem zK_85 : gCode gTT gFt gCn gTb0 zR_85 = true := by decide +kernel
theorem zW_85 : (Jvm.Cond.code zR_85.1.1 zR_85.1.2.1 zR_85.1.2.2.1 zR_85.1.2.2.2) ∈ gW := List.mem_filter.mpr ⟨List.mem_of_getElem? (i := 515) (by decide +kernel), rfl⟩
theorem zM_85 : ∃ w, gMet gTT gCn zR_85 w = true := ⟨(515, 55, 513, 514), by decide +kernel⟩
theorem zK_86 : gCode gTT gFt gCn gTb0 zR_86 = true := by decide +kernel
theorem zW_86 : (Jvm.Cond.code zR_86.1.1 zR_86.1.2.1 zR_86.1.2.2.1 zR_86.1.2.2.2) ∈ gW := List.mem_filter.mpr ⟨List.mem_of_getElem? (i := 519) (by decide +kernel), rfl⟩
theorem zM_86 : ∃ w, gMet gTT gCn zR_86 w = true := ⟨(519, 55, 517, 518), by decide +kernel⟩
theorem zK_87 : gCode gTT gFt gCn gTb0 zR_87 = true := by decide +kernel
theorem zW_87 : (Jvm.Cond.code zR_87.1.1 zR_87.1.2.1 zR_87.1.2.2.1 zR_87.1.2.2.2) ∈ gW := List.mem_filter.mpr ⟨List.mem_of_getElem? (i := 531) (by decide +kernel), rfl⟩
theorem zM_87 : ∃ w, gMet gTT gCn zR_87 w = true := ⟨(531, 55, 529, 530), by decide +kernel⟩
theorem zK_88 : gCode gTT gFt gCn gTb0 zR_88 = true := by decide +kernel
theorem zW_88 : (Jvm.Cond.code zR_88.1.1 zR_88.1.2.1 zR_88.1.2.2.1 zR_88.1.2.2.2) ∈ gW := List.mem_filter.mpr ⟨List.mem_of_getElem? (i := 535) (by decide +kernel), rfl⟩
theorem zM_88 : ∃ w, gMet gTT gCn zR_88 w = true := ⟨(535, 55, 533, 534), by decide +kernel⟩
theorem zK_89 : gCode gTT gFt gCn gTb0 zR_89 = true := by decide +kernel
theorem zW_89 : (Jvm.Cond.code zR_89.1.1 zR_89.1.2.1 zR_89.1.2.2.1 zR_89.1.2.2.2) ∈ gW := List.mem_filter.mpr ⟨List.mem_of_getElem? (i := 545) (by decide +kernel), rfl⟩
theorem zM_89 : ∃ w, gMet gTT gCn zR_89 w = true := ⟨(545, 55, 543, 544), by decide +kernel⟩
theorem zK_90 : gCode gTT gFt gCn gTb0 zR_90 = true := by decide +kernel
theorem zW_90 : (Jvm.Cond.code zR_90.1.1 zR_90.1.2.1 zR_90.1.2.2.1 zR_90.1.2.2.2) ∈ gW := List.mem_filter.mpr ⟨List.mem_of_getElem? (i := 549) (by decide +kernel), rfl⟩
theorem zM_90 : ∃ w, gMet gTT gCn zR_90 w = true := ⟨(549, 55, 547, 548), by decide +kernel⟩
theorem zK_91 : gCode gTT gFt gCn gTb0 zR_91 = true := by decide +kernel
theorem zW_91 : (Jvm.Cond.code zR_91.1.1 zR_91.1.2.1 zR_91.1.2.2.1 zR_91.1.2.2.2) ∈ gW := List.mem_filter.mpr ⟨List.mem_of_getElem? (i := 567) (by decide +kernel), rfl⟩
theorem zM_91 : ∃ w, gMet gTT gCn zR_91 w = true := ⟨(567, 55, 565, 566), by decide +kernel⟩
theorem zK_92 : gCode gTT gFt gCn gTb0 zR_92 = true := by decide +kernel
theorem zW_92 : (Jvm.Cond.code zR_92.1.1 zR_92.1.2.1 zR_92.1.2.2.1 zR_92.1.2.2.2) ∈ gW := List.mem_filter.mpr ⟨List.mem_of_getElem? (i := 571) (by decide +kernel), rfl⟩
theorem zM_92 : ∃ w, gMet gTT gCn zR_92 w = true := ⟨(571, 55, 569, 570), by decide +kernel⟩
theorem zK_93 : gCode gTT gFt gCn gTb0 zR_93 = true := by decide +kernel
theorem zW_93 : (Jvm.Cond.code zR_93.1.1 zR_93.1.2.1 zR_93.1.2.2.1 zR_93.1.2.2.2) ∈ gW := List.mem_filter.mpr ⟨List.mem_of_getElem? (i := 591) (by decide +kernel), rfl⟩
theorem zM_93 : ∃ w, gMet gTT gCn zR_93 w = true := ⟨(591, 55, 589, 590), by decide +kernel⟩
theorem zK_94 : gCode gTT gFt gCn gTb0 zR_94 = true := by decide +kernel
theorem zW_94 : (Jvm.Cond.code zR_94.1.1 zR_94.1.2.1 zR_94.1.2.2.1 zR_94.1.2.2.2) ∈ gW := List.mem_filter.mpr ⟨List.mem_of_getElem? (i := 595) (by decide +kernel), rfl⟩
theorem zM_94 : ∃ w, gMet gTT gCn zR_94 w = true := ⟨(595, 55, 593, 594), by decide +kernel⟩
theorem zK_95 : gCode gTT gFt gCn gTb0 zR_95 = true := by decide +kernel
theorem zW_95 : (Jvm.Cond.code zR_95.1.1 zR_95.1.2.1 zR_95.1.2.2.1 zR_95.1.2.2.2) ∈ gW := List.mem_filter.mpr ⟨List.mem_of_getElem? (i := 604) (by decide +kernel), rfl⟩
theorem zM_95 : ∃ w, gMet gTT gCn zR_95 w = true := ⟨(604, 55, 602, 603), by decide +kernel⟩
theorem zK_96 : gCode gTT gFt gCn gTb0 zR_96 = true := by decide +kernel
theorem zW_96 : (Jvm.Cond.code zR_96.1.1 zR_96.1.2.1 zR_96.1.2.2.1 zR_96.1.2.2.2) ∈ gW := List.mem_filter.mpr ⟨List.mem_of_getElem? (i := 608) (by decide +kernel), rfl⟩
theorem zM_96 : ∃ w, gMet gTT gCn zR_96 w = true := ⟨(608, 55, 606, 607), by decide +kernel⟩
theorem zK_97 : gCode gTT gFt gCn gTb0 zR_97 = true := by decide +kernel
theorem zW_97 : (Jvm.Cond.code zR_97.1.1 zR_97.1.2.1 zR_97.1.2.2.1 zR_97.1.2.2.2) ∈ gW := List.mem_filter.mpr ⟨List.mem_of_getElem? (i := 616) (by decide +kernel), rfl⟩
theorem zM_97 : ∃ w, gMet gTT gCn zR_97 w = true := ⟨(616, 55, 614, 615), by decide +kernel⟩
theorem zK_98 : gCode gTT gFt gCn gTb0 zR_98 = true := by decide +kernel
theorem zW_98 : (Jvm.Cond.code zR_98.1.1 zR_98.1.2.1 zR_98.1.2.2.1 zR_98.1.2.2.2) ∈ gW := List.mem_filter.mpr ⟨List.mem_of_getElem? (i := 620) (by decide +kernel), rfl⟩
theorem zM_98 : ∃ w, gMet gTT gCn zR_98 w = true := ⟨(620, 55, 618, 619), by decide +kernel⟩
theorem zK_99 : gCode gTT gFt gCn gTb0 zR_99 = true := by decide +kernel
theorem zW_99 : (Jvm.Cond.code zR_99.1.1 zR_99.1.2.1 zR_99.1.2.2.1 zR_99.1.2.2.2) ∈ gW := List.mem_filter.mpr ⟨List.mem_of_getElem? (i := 742) (by decide +kernel), rfl⟩
theorem zM_99 : ∃ w, gMet gTT gCn zR_99 w = true := ⟨(742, 55, 740, 741), by decide +kernel⟩
theorem zK_100 : gCode gTT gFt gCn gTb0 zR_100 = true := by decide +kernel
theorem zW_100 : (Jvm.Cond.code zR_100.1.1 zR_100.1.2.1 zR_100.1.2.2.1 zR_100.1.2.2.2) ∈ gW := List.mem_filter.mpr ⟨List.mem_of_getElem? (i := 746) (by decide +kernel), rfl⟩
theorem zM_100 : ∃ w, gMet gTT gCn zR_100 w = true := ⟨(746, 55, 744, 745), by decide +kernel⟩
theorem zK_101 : gCode gTT gFt gCn gTb0 zR_101 = true := by decide +kernel
theorem zW_101 : (Jvm.Cond.code zR_101.1.1 zR_101.1.2.1 zR_101.1.2.2.1 zR_101.1.2.2.2) ∈ gW := List.mem_filter.mpr ⟨List.mem_of_getElem? (i := 755) (by decide +kernel), rfl⟩
theorem zM_101 : ∃ w, gMet gTT gCn zR_101 w = true := ⟨(755, 55, 753, 754), by decide +kernel⟩
theorem zK_102 : gCode gTT gFt gCn gTb0 zR_102 = true := by decide +kernel
theorem zW_102 : (Jvm.Cond.code zR_102.1.1 zR_102.1.2.1 zR_102.1.2.2.1 zR_102.1.2.2.2) ∈ gW := List.mem_filter.mpr ⟨List.mem_of_getElem? (i := 764) (by decide +kernel), rfl⟩
theorem zM_102 : ∃ w, gMet gTT gCn zR_102 w = true := ⟨(764, 55, 762, 763), by decide +kernel⟩
theorem zK_103 : gCode gTT gFt gCn gTb0 zR_103 = true := by decide +kernel
theorem zW_103 : (Jvm.Cond.code zR_103.1.1 zR_103.1.2.1 zR_103.1.2.2.1 zR_103.1.2.2.2) ∈ gW := List.mem_filter.mpr ⟨List.mem_of_getElem? (i := 772) (by decide +kernel), rfl⟩
theorem zM_103 : ∃ w, gMet gTT gCn zR_103 w = true := ⟨(772, 55, 770, 771), by decide +kernel⟩
theorem zK_104 : gCode gTT gFt gCn gTb0 zR_104 = true := by decide +kernel
theorem zW_104 : (Jvm.Cond.code zR_104.1.1 zR_104.1.2.1 zR_104.1.2.2.1 zR_104.1.2.2.2) ∈ gW := List.mem_filter.mpr ⟨List.mem_of_getElem? (i := 781) (by decide +kernel), rfl⟩
theorem zM_104 : ∃ w, gMet gTT gCn zR_104 w = true := ⟨(781, 55, 779, 780), by decide +kernel⟩
theorem zK_105 : gCode gTT gFt gCn gTb0 zR_105 = true := by decide +kernel
theorem zW_105 : (Jvm.Cond.code zR_105.1.1 zR_105.1.2.1 zR_105.1.2.2.1 zR_105.1.2.2.2) ∈ gW := List.mem_filter.mpr ⟨List.mem_of_getElem? (i := 785) (by decide +kernel), rfl⟩
theorem zM_105 : ∃ w, gMet gTT gCn zR_105 w = true := ⟨(785, 55, 783, 784), by decide +kernel⟩
theorem zK_106 : gCode gTT gFt gCn gTb0 zR_106 = true := by decide +kernel
theorem zW_106 : (Jvm.Cond.code zR_106.1.1 zR_106.1.2.1 zR_106.1.2.2.1 zR_106.1.2.2.2) ∈ gW := List.mem_filter.mpr ⟨List.mem_of_getElem? (i := 790) (by decide +kernel), rfl⟩
theorem zM_106 : ∃ w, gMet gTT gCn zR_106 w = true := ⟨(790, 55, 788, 789), by decide +kernel⟩
theorem zK_107 : gCode gTT gFt gCn gTb0 zR_107 = true := by decide +kernel
theorem zW_107 : (Jvm.Cond.code zR_107.1.1 zR_107.1.2.1 zR_107.1.2.2.1 zR_107.1.2.2.2) ∈ gW := List.mem_filter.mpr ⟨List.mem_of_getElem? (i := 794) (by decide +kernel), rfl⟩
theorem zM_107 : ∃ w, gMet gTT gCn zR_107 w = true := ⟨(794, 55, 792, 793), by decide +kernel⟩
theorem zK_108 : gCode gTT gFt gCn gTb0 zR_108 = true := by decide +kernel
theorem zW_108 : (Jvm.Cond.code zR_108.1.1 zR_108.1.2.1 zR_108.1.2.2.1 zR_108.1.2.2.2) ∈ gW := List.mem_filter.mpr ⟨List.mem_of_getElem? (i := 798) (by decide +kernel), rfl⟩
theorem zM_108 : ∃ w, gMet gTT gCn zR_108 w = true := ⟨(798, 55, 796, 797), by decide +kernel⟩
theorem zK_109 : gCode gTT gFt gCn gTb0 zR_109 = true := by decide +kernel
theorem zW_109 : (Jvm.Cond.code zR_109.1.1 zR_109.1.2.1 zR_109.1.2.2.1 zR_109.1.2.2.2) ∈ gW := List.mem_filter.mpr ⟨List.mem_of_getElem? (i := 802) (by decide +kernel), rfl⟩
theorem zM_109 : ∃ w, gMet gTT gCn zR_109 w = true := ⟨(802, 55, 800, 801), by decide +kernel⟩
theorem zK_110 : gCode gTT gFt gCn gTb0 zR_110 = true := by decide +kernel
theorem zW_110 : (Jvm.Cond.code zR_110.1.1 zR_110.1.2.1 zR_110.1.2.2.1 zR_110.1.2.2.2) ∈ gW := List.mem_filter.mpr ⟨List.mem_of_getElem? (i := 810) (by decide +kernel), rfl⟩
theorem zM_110 : ∃ w, gMet gTT gCn zR_110 w = true := ⟨(810, 55, 808, 809), by decide +kernel⟩
theorem zK_111 : gCode gTT gFt gCn gTb0 zR_111 = true := by decide +kernel
theorem zW_111 : (Jvm.Cond.code zR_111.1.1 zR_111.1.2.1 zR_111.1.2.2.1 zR_111.1.2.2.2) ∈ gW := List.mem_filter.mpr ⟨List.mem_of_getElem? (i := 279) (by decide +kernel), rfl⟩
theorem zM_111 : ∃ w, gMet gTT gCn zR_111 w = true := ⟨(279, 55, 278, 0), by decide +kernel⟩
theorem zK_112 : gCode gTT gFt gCn gTb0 zR_112 = true := by decide +kernel
theorem zW_112 : (Jvm.Cond.code zR_112.1.1 zR_112.1.2.1 zR_112.1.2.2.1 zR_112.1.2.2.2) ∈ gW := List.mem_filter.mpr ⟨List.mem_of_getElem? (i := 275) (by decide +kernel), rfl⟩
theorem zM_112 : ∃ w, gMet gTT gCn zR_112 w = true := ⟨(275, 55, 274, 0), by decide +kernel⟩
theorem zK_113 : gCode gTT gFt gCn gTb0 zR_113 = true := by decide +kernel
theorem zW_113 : (Jvm.Cond.code zR_113.1.1 zR_113.1.2.1 zR_113.1.2.2.1 zR_113.1.2.2.2) ∈ gW := List.mem_filter.mpr ⟨List.mem_of_getElem? (i := 292) (by decide +kernel), rfl⟩
theorem zM_113 : ∃ w, gMet gTT gCn zR_113 w = true := ⟨(292, 55, 291, 1), by decide +kernel⟩
theorem zK_114 : gCode gTT gFt gCn gTb0 zR_114 = true := by decide +kernel
theorem zW_114 : (Jvm.Cond.code zR_114.1.1 zR_114.1.2.1 zR_114.1.2.2.1 zR_114.1.2.2.2) ∈ gW := List.mem_filter.mpr ⟨List.mem_of_getElem? (i := 575) (by decide +kernel), rfl⟩
theorem zM_114 : ∃ w, gMet gTT gCn zR_114 w = true := ⟨(575, 55, 574, 8), by decide +kernel⟩
theorem zK_115 : gCode gTT gFt gCn gTb0 zR_115 = true := by decide +kernel
theorem zW_115 : (Jvm.Cond.code zR_115.1.1 zR_115.1.2.1 zR_115.1.2.2.1 zR_115.1.2.2.2) ∈ gW := List.mem_filter.mpr ⟨List.mem_of_getElem? (i := 315) (by decide +kernel), rfl⟩
theorem zM_115 : ∃ w, gMet gTT gCn zR_115 w = true := ⟨(315, 55, 314, 0), by decide +kernel⟩
theorem zK_116 : gCode gTT gFt gCn gTb0 zR_116 = true := by decide +kernel
theorem zW_116 : (Jvm.Cond.code zR_116.1.1 zR_116.1.2.1 zR_116.1.2.2.1 zR_116.1.2.2.2) ∈ gW := List.mem_filter.mpr ⟨List.mem_of_getElem? (i := 422) (by decide +kernel), rfl⟩
theorem zM_116 : ∃ w, gMet gTT gCn zR_116 w = true := ⟨(422, 55, 421, 2), by decide +kernel⟩
theorem zK_117 : gCode gTT gFt gCn gTb0 zR_117 = true := by decide +kernel
theorem zW_117 : (Jvm.Cond.code zR_117.1.1 zR_117.1.2.1 zR_117.1.2.2.1 zR_117.1.2.2.2) ∈ gW := List.mem_filter.mpr ⟨List.mem_of_getElem? (i := 491) (by decide +kernel), rfl⟩
theorem zM_117 : ∃ w, gMet gTT gCn zR_117 w = true := ⟨(491, 55, 490, 6), by decide +kernel⟩
theorem zK_118 : gCode gTT gFt gCn gTb0 zR_118 = true := by decide +kernel
theorem zW_118 : (Jvm.Cond.code zR_118.1.1 zR_118.1.2.1 zR_118.1.2.2.1 zR_118.1.2.2.2) ∈ gW := List.mem_filter.mpr ⟨List.mem_of_getElem? (i := 495) (by decide +kernel), rfl⟩
theorem zM_118 : ∃ w, gMet gTT gCn zR_118 w = true := ⟨(495, 55, 494, 7), by decide +kernel⟩
theorem zK_119 : gCode gTT gFt gCn gTb0 zR_119 = true := by decide +kernel
theorem zW_119 : (Jvm.Cond.code zR_119.1.1 zR_119.1.2.1 zR_119.1.2.2.1 zR_119.1.2.2.2) ∈ gW := List.mem_filter.mpr ⟨List.mem_of_getElem? (i := 583) (by decide +kernel), rfl⟩
theorem zM_119 : ∃ w, gMet gTT gCn zR_119 w = true := ⟨(583, 55, 582, 9), by decide +kernel⟩
theorem zK_120 : gCode gTT gFt gCn gTb0 zR_120 = true := by decide +kernel
theorem zW_120 : (Jvm.Cond.code zR_120.1.1 zR_120.1.2.1 zR_120.1.2.2.1 zR_120.1.2.2.2) ∈ gW := List.mem_filter.mpr ⟨List.mem_of_getElem? (i := 749) (by decide +kernel), rfl⟩
theorem zM_120 : ∃ w, gMet gTT gCn zR_120 w = true := ⟨(749, 55, 748, 0), by decide +kernel⟩
theorem zK_121 : gCode gTT gFt gCn gTb0 zR_121 = true := by decide +kernel
theorem zW_121 : (Jvm.Cond.code zR_121.1.1 zR_121.1.2.1 zR_121.1.2.2.1 zR_121.1.2.2.2) ∈ gW := List.mem_filter.mpr ⟨List.mem_of_getElem? (i := 557) (by decide +kernel), rfl⟩
theorem zM_121 : ∃ w, gMet gTT gCn zR_121 w = true := ⟨(557, 55, 556, 0), by decide +kernel⟩
theorem zK_122 : gCode gTT gFt gCn gTb0 zR_122 = true := by decide +kernel
theorem zW_122 : (Jvm.Cond.code zR_122.1.1 zR_122.1.2.1 zR_122.1.2.2.1 zR_122.1.2.2.2) ∈ gW := List.mem_filter.mpr ⟨List.mem_of_getElem? (i := 560) (by decide +kernel), rfl⟩
theorem zM_122 : ∃ w, gMet gTT gCn zR_122 w = true := ⟨(560, 55, 559, 0), by decide +kernel⟩
theorem zK_123 : gCode gTT gFt gCn gTb0 zR_123 = true := gCodeA (gCodeT (gCodeP (zK_123_0)) (gCodeT (gCodeP (zK_123_100)) (gCodeT (gCodeP (zK_123_200)) (gCodeT (gCodeP (zK_123_300)) (gCodeT (gCodeP (zK_123_400)) (gCodeT (gCodeP (zK_123_500)) (gCodeT (gCodeP (zK_123_600)) (gCodeT (gCodeP (zK_123_700)) (gCodeT (gCodeP (zK_123_800)) (gCodeP (zK_123_900)))))))))))
set_option maxRecDepth 100000 in
theorem zW_123 : (Jvm.Cond.code zR_123.1.1 zR_123.1.2.1 zR_123.1.2.2.1 zR_123.1.2.2.2) ∈ gW := List.mem_filter.mpr ⟨List.mem_of_getElem? (i := 815) (rfl), rfl⟩
theorem zM_123 : ∃ w, gMet gTT gCn zR_123 w = true := ⟨(815, 61, 814, 0), by decide +kernel⟩
theorem zK_124 : gCode gTT gFt gCn gTb0 zR_124 = true := by decide +kernel
theorem zW_124 : (Jvm.Cond.code zR_124.1.1 zR_124.1.2.1 zR_124.1.2.2.1 zR_124.1.2.2.2) ∈ gW := List.mem_filter.mpr ⟨List.mem_of_getElem? (i := 907) (by decide +kernel), rfl⟩
theorem zM_124 : ∃ w, gMet gTT gCn zR_124 w = true := ⟨(907, 61, 906, 18), by decide +kernel⟩
theorem zK_125 : gCode gTT gFt gCn gTb0 zR_125 = true := by decide +kernel
theorem zW_125 : (Jvm.Cond.code zR_125.1.1 zR_125.1.2.1 zR_125.1.2.2.1 zR_125.1.2.2.2) ∈ gW := List.mem_filter.mpr ⟨List.mem_of_getElem? (i := 903) (by decide +kernel), rfl⟩
theorem zM_125 : ∃ w, gMet gTT gCn zR_125 w = true := ⟨(903, 61, 902, 0), by decide +kernel⟩
theorem zK_126 : gCode gTT gFt gCn gTb0 zR_126 = true := by decide +kernel
theorem zW_126 : (Jvm.Cond.code zR_126.1.1 zR_126.1.2.1 zR_126.1.2.2.1 zR_126.1.2.2.2) ∈ gW := List.mem_filter.mpr ⟨List.mem_of_getElem? (i := 1017) (by decide +kernel), rfl⟩
theorem zM_126 : ∃ w, gMet gTT gCn zR_126 w = true := ⟨(1017, 61, 1016, 0), by decide +kernel⟩
theorem zK_127 : gCode gTT gFt gCn gTb0 zR_127 = true := by decide +kernel
theorem zW_127 : (Jvm.Cond.code zR_127.1.1 zR_127.1.2.1 zR_127.1.2.2.1 zR_127.1.2.2.2) ∈ gW := List.mem_filter.mpr ⟨List.mem_of_getElem? (i := 986) (by decide +kernel), rfl⟩
theorem zM_127 : ∃ w, gMet gTT gCn zR_127 w = true := ⟨(986, 61, 985, 0), by decide +kernel⟩
theorem zK_128 : gCode gTT gFt gCn gTb0 zR_128 = true := by decide +kernel
theorem zW_128 : (Jvm.Cond.code zR_128.1.1 zR_128.1.2.1 zR_128.1.2.2.1 zR_128.1.2.2.2) ∈ gW := List.mem_filter.mpr ⟨List.mem_of_getElem? (i := 1076) (by decide +kernel), rfl⟩
theorem zM_128 : ∃ w, gMet gTT gCn zR_128 w = true := ⟨(1076, 61, 1075, 0), by decide +kernel⟩
theorem zK_129 : gCode gTT gFt gCn gTb0 zR_129 = true := by decide +kernel
theorem zW_129 : (Jvm.Cond.code zR_129.1.1 zR_129.1.2.1 zR_129.1.2.2.1 zR_129.1.2.2.2) ∈ gW := List.mem_filter.mpr ⟨List.mem_of_getElem? (i := 924) (by decide +kernel), rfl⟩
theorem zM_129 : ∃ w, gMet gTT gCn zR_129 w = true := ⟨(924, 61, 923, 21), by decide +kernel⟩
theorem zK_130 : gCode gTT gFt gCn gTb0 zR_130 = true := by decide +kernel
theorem zW_130 : (Jvm.Cond.code zR_130.1.1 zR_130.1.2.1 zR_130.1.2.2.1 zR_130.1.2.2.2) ∈ gW := List.mem_filter.mpr ⟨List.mem_of_getElem? (i := 962) (by decide +kernel), rfl⟩
theorem zM_130 : ∃ w, gMet gTT gCn zR_130 w = true := ⟨(962, 61, 961, 0), by decide +kernel⟩
theorem zK_131 : gCode gTT gFt gCn gTb0 zR_131 = true := by decide +kernel
theorem zW_131 : (Jvm.Cond.code zR_131.1.1 zR_131.1.2.1 zR_131.1.2.2.1 zR_131.1.2.2.2) ∈ gW := List.mem_filter.mpr ⟨List.mem_of_getElem? (i := 928) (by decide +kernel), rfl⟩
theorem zM_131 : ∃ w, gMet gTT gCn zR_131 w = true := ⟨(928, 61, 927, 22), by decide +kernel⟩
theorem zK_132 : gCode gTT gFt gCn gTb0 zR_132 = true := by decide +kernel
theorem zW_132 : (Jvm.Cond.code zR_132.1.1 zR_132.1.2.1 zR_132.1.2.2.1 zR_132.1.2.2.2) ∈ gW := List.mem_filter.mpr ⟨List.mem_of_getElem? (i := 916) (by decide +kernel), rfl⟩
theorem zM_132 : ∃ w, gMet gTT gCn zR_132 w = true := ⟨(916, 61, 915, 20), by decide +kernel⟩
theorem zK_133 : gCode gTT gFt gCn gTb0 zR_133 = true := by decide +kernel
theorem zW_133 : (Jvm.Cond.code zR_133.1.1 zR_133.1.2.1 zR_133.1.2.2.1 zR_133.1.2.2.2) ∈ gW := List.mem_filter.mpr ⟨List.mem_of_getElem? (i := 932) (by decide +kernel), rfl⟩
theorem zM_133 : ∃ w, gMet gTT gCn zR_133 w = true := ⟨(932, 61, 931, 23), by decide +kernel⟩
theorem zK_134 : gCode gTT gFt gCn gTb0 zR_134 = true := by decide +kernel
theorem zW_134 : (Jvm.Cond.code zR_134.1.1 zR_134.1.2.1 zR_134.1.2.2.1 zR_134.1.2.2.2) ∈ gW := List.mem_filter.mpr ⟨List.mem_of_getElem? (i := 936) (by decide +kernel), rfl⟩
theorem zM_134 : ∃ w, gMet gTT gCn zR_134 w = true := ⟨(936, 61, 935, 24), by decide +kernel⟩
theorem zK_135 : gCode gTT gFt gCn gTb0 zR_135 = true := by decide +kernel
theorem zW_135 : (Jvm.Cond.code zR_135.1.1 zR_135.1.2.1 zR_135.1.2.2.1 zR_135.1.2.2.2) ∈ gW := List.mem_filter.mpr ⟨List.mem_of_getElem? (i := 979) (by decide +kernel), rfl⟩
theorem zM_135 : ∃ w, gMet gTT gCn zR_135 w = true := ⟨(979, 61, 978, 27), by decide +kernel⟩
theorem zK_136 : gCode gTT gFt gCn gTb0 zR_136 = true := by decide +kernel
theorem zW_136 : (Jvm.Cond.code zR_136.1.1 zR_136.1.2.1 zR_136.1.2.2.1 zR_136.1.2.2.2) ∈ gW := List.mem_filter.mpr ⟨List.mem_of_getElem? (i := 983) (by decide +kernel), rfl⟩
theorem zM_136 : ∃ w, gMet gTT gCn zR_136 w = true := ⟨(983, 61, 982, 28), by decide +kernel⟩
theorem zK_137 : gCode gTT gFt gCn gTb0 zR_137 = true := by decide +kernel
theorem zW_137 : (Jvm.Cond.code zR_137.1.1 zR_137.1.2.1 zR_137.1.2.2.1 zR_137.1.2.2.2) ∈ gW := List.mem_filter.mpr ⟨List.mem_of_getElem? (i := 1010) (by decide +kernel), rfl⟩
theorem zM_137 : ∃ w, gMet gTT gCn zR_137 w = true := ⟨(1010, 61, 1009, 30), by decide +kernel⟩
theorem zK_138 : gCode gTT gFt gCn gTb0 zR_138 = true := by decide +kernel
theorem zW_138 : (Jvm.Cond.code zR_138.1.1 zR_138.1.2.1 zR_138.1.2.2.1 zR_138.1.2.2.2) ∈ gW := List.mem_filter.mpr ⟨List.mem_of_getElem? (i := 912) (by decide +kernel), rfl⟩
theorem zM_138 : ∃ w, gMet gTT gCn zR_138 w = true := ⟨(912, 61, 911, 19), by decide +kernel⟩
theorem zK_139 : gCode gTT gFt gCn gTb0 zR_139 = true := by decide +kernel
theorem zW_139 : (Jvm.Cond.code zR_139.1.1 zR_139.1.2.1 zR_139.1.2.2.1 zR_139.1.2.2.2) ∈ gW := List.mem_filter.mpr ⟨List.mem_of_getElem? (i := 900) (by decide +kernel), rfl⟩
theorem zM_139 : ∃ w, gMet gTT gCn zR_139 w = true := ⟨(900, 61, 898, 899), by decide +kernel⟩
theorem zK_140 : gCode gTT gFt gCn gTb0 zR_140 = true := by decide +kernel
theorem zW_140 : (Jvm.Cond.code zR_140.1.1 zR_140.1.2.1 zR_140.1.2.2.1 zR_140.1.2.2.2) ∈ gW := List.mem_filter.mpr ⟨List.mem_of_getElem? (i := 920) (by decide +kernel), rfl⟩
theorem zM_140 : ∃ w, gMet gTT gCn zR_140 w = true := ⟨(920, 61, 918, 919), by decide +kernel⟩
theorem zK_141 : gCode gTT gFt gCn gTb0 zR_141 = true := by decide +kernel
theorem zW_141 : (Jvm.Cond.code zR_141.1.1 zR_141.1.2.1 zR_141.1.2.2.1 zR_141.1.2.2.2) ∈ gW := List.mem_filter.mpr ⟨List.mem_of_getElem? (i := 940) (by decide +kernel), rfl⟩
theorem zM_141 : ∃ w, gMet gTT gCn zR_141 w = true := ⟨(940, 61, 938, 939), by decide +kernel⟩
theorem zK_142 : gCode gTT gFt gCn gTb0 zR_142 = true := by decide +kernel
theorem zW_142 : (Jvm.Cond.code zR_142.1.1 zR_142.1.2.1 zR_142.1.2.2.1 zR_142.1.2.2.2) ∈ gW := List.mem_filter.mpr ⟨List.mem_of_getElem? (i := 947) (by decide +kernel), rfl⟩
theorem zM_142 : ∃ w, gMet gTT gCn zR_142 w = true := ⟨(947, 61, 946, 0), by decide +kernel⟩
theorem zK_143 : gCode gTT gFt gCn gTb0 zR_143 = true := by decide +kernel
theorem zW_143 : (Jvm.Cond.code zR_143.1.1 zR_143.1.2.1 zR_143.1.2.2.1 zR_143.1.2.2.2) ∈ gW := List.mem_filter.mpr ⟨List.mem_of_getElem? (i := 944) (by decide +kernel), rfl⟩
theorem zM_143 : ∃ w, gMet gTT gCn zR_143 w = true := ⟨(944, 61, 942, 943), by decide +kernel⟩
theorem zK_144 : gCode gTT gFt gCn gTb0 zR_144 = true := by decide +kernel
theorem zW_144 : (Jvm.Cond.code zR_144.1.1 zR_144.1.2.1 zR_144.1.2.2.1 zR_144.1.2.2.2) ∈ gW := List.mem_filter.mpr ⟨List.mem_of_getElem? (i := 951) (by decide +kernel), rfl⟩
theorem zM_144 : ∃ w, gMet gTT gCn zR_144 w = true := ⟨(951, 61, 949, 950), by decide +kernel⟩
theorem zK_145 : gCode gTT gFt gCn gTb0 zR_145 = true := by decide +kernel
theorem zW_145 : (Jvm.Cond.code zR_145.1.1 zR_145.1.2.1 zR_145.1.2.2.1 zR_145.1.2.2.2) ∈ gW := List.mem_filter.mpr ⟨List.mem_of_getElem? (i := 955) (by decide +kernel), rfl⟩
theorem zM_145 : ∃ w, gMet gTT gCn zR_145 w = true := ⟨(955, 61, 953, 954), by decide +kernel⟩
theorem zK_146 : gCode gTT gFt gCn gTb0 zR_146 = true := by decide +kernel
theorem zW_146 : (Jvm.Cond.code zR_146.1.1 zR_146.1.2.1 zR_146.1.2.2.1 zR_146.1.2.2.2) ∈ gW := List.mem_filter.mpr ⟨List.mem_of_getElem? (i := 966) (by decide +kernel), rfl⟩
