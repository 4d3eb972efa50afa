set_option maxRecDepth 100000 in
theorem gTbl_eq : gTbl = gTl_0 ++ (gTl_1 ++ (gTl_2 ++ (gTl_3 ++ (gTl_4 ++ (gTl_5 ++ (gTl_6 ++ (gTl_7 ++ (gTl_8 ++ (gTl_9 ++ (gTl_10 ++ (gTl_11))))))))))) := rfl
theorem gTbl_ok : ∀ r ∈ gTbl, gOKr r := by
  rw [gTbl_eq]
  exact List.forall_mem_append.mpr ⟨gTk_0, List.forall_mem_append.mpr ⟨gTk_1, List.forall_mem_append.mpr ⟨gTk_2, List.forall_mem_append.mpr ⟨gTk_3, List.forall_mem_append.mpr ⟨gTk_4, List.forall_mem_append.mpr ⟨gTk_5, List.forall_mem_append.mpr ⟨gTk_6, List.forall_mem_append.mpr ⟨gTk_7, List.forall_mem_append.mpr ⟨gTk_8, List.forall_mem_append.mpr ⟨gTk_9, List.forall_mem_append.mpr ⟨gTk_10, gTk_11⟩⟩⟩⟩⟩⟩⟩⟩⟩⟩⟩
theorem gTb_ok : gTb gTT gFt gCn gDf gTb0 := ⟨gcl_ok, fun i r h => gTbl_ok r (List.mem_of_getElem? h)⟩
