/-! THE START IS A STATE -/
def zb_b : hB := ((0, 0, 0, 1, 0, (fun _ => 0), (fun _ => 0), (fun _ => 0), zf_2, zf_3, (fun _ => 0), (fun _ => 0), zf_6) : hB)
def zb_d : hB := ((0, 0, 0, 1, 0, (fun _ => 0), (fun _ => 0), (fun _ => 0), zf_8, zf_9, (fun _ => 0), (fun _ => 0), zf_12) : hB)
def zb_k : hB := ((0, 0, 0, 1, 0, (fun _ => 0), (fun _ => 0), (fun _ => 0), zf_14, zf_15, (fun _ => 0), (fun _ => 0), zf_18) : hB)
def zb_s : hB := ((0, 0, 0, 1, 0, (fun _ => 0), (fun _ => 0), (fun _ => 0), zf_20, zf_21, (fun _ => 0), (fun _ => 0), zf_24) : hB)
def zb_w : hB := ((0, 0, 0, 1, 0, (fun _ => 0), (fun _ => 0), (fun _ => 0), zf_26, zf_27, (fun _ => 0), (fun _ => 0), zf_30) : hB)
theorem zfz (f : Nat → Int32) (n : Nat) (l : List Int32) (hl : l.length = n) (h1 : ∀ j, j < n → f j = l.getD j 0) (h2 : ∀ j, n ≤ j → f j = 0) : f = hTab l := by
  funext j
  by_cases h : j < n
  · exact h1 j h
  · rw [h2 j (by omega)]
    unfold hTab
    rw [List.getD_eq_getElem?_getD, List.getElem?_eq_none (by omega)]
    rfl
theorem zup {f : Nat → Int32} {i j n : Nat} {x : Int32} (hi : i < n) (hj : n ≤ j) (h : f j = 0) : upd f i x j = 0 := by
  unfold upd
  rw [if_neg (by omega)]
  exact h
theorem zf_31_z : ∀ j, 56 ≤ j → zf_31 j = 0 := fun j hj => by
  unfold zf_31
  exact (zup (n := 56) (by decide) hj (zup (n := 56) (by decide) hj (zup (n := 56) (by decide) hj (zup (n := 56) (by decide) hj rfl))))
theorem zf_32_z : ∀ j, 56 ≤ j → zf_32 j = 0 := fun j hj => by
  unfold zf_32
  exact (zup (n := 56) (by decide) hj (zup (n := 56) (by decide) hj (zup (n := 56) (by decide) hj (zup (n := 56) (by decide) hj (zf_31_z j hj)))))
theorem zf_33_z : ∀ j, 56 ≤ j → zf_33 j = 0 := fun j hj => by
  unfold zf_33
  exact (zup (n := 56) (by decide) hj (zup (n := 56) (by decide) hj (zup (n := 56) (by decide) hj (zup (n := 56) (by decide) hj (zf_32_z j hj)))))
theorem zf_34_z : ∀ j, 56 ≤ j → zf_34 j = 0 := fun j hj => by
  unfold zf_34
  exact (zup (n := 56) (by decide) hj (zup (n := 56) (by decide) hj (zup (n := 56) (by decide) hj (zup (n := 56) (by decide) hj (zf_33_z j hj)))))
theorem zf_35_z : ∀ j, 56 ≤ j → zf_35 j = 0 := fun j hj => by
  unfold zf_35
  exact (zup (n := 56) (by decide) hj (zup (n := 56) (by decide) hj (zup (n := 56) (by decide) hj (zup (n := 56) (by decide) hj (zf_34_z j hj)))))
theorem zf_36_z : ∀ j, 56 ≤ j → zf_36 j = 0 := fun j hj => by
  unfold zf_36
  exact (zup (n := 56) (by decide) hj (zup (n := 56) (by decide) hj (zup (n := 56) (by decide) hj (zup (n := 56) (by decide) hj (zf_35_z j hj)))))
theorem zf_37_z : ∀ j, 56 ≤ j → zf_37 j = 0 := fun j hj => by
  unfold zf_37
  exact (zup (n := 56) (by decide) hj (zup (n := 56) (by decide) hj (zup (n := 56) (by decide) hj (zup (n := 56) (by decide) hj (zf_36_z j hj)))))
theorem zf_38_z : ∀ j, 56 ≤ j → zf_38 j = 0 := fun j hj => by
  unfold zf_38
  exact (zup (n := 56) (by decide) hj (zup (n := 56) (by decide) hj (zup (n := 56) (by decide) hj (zup (n := 56) (by decide) hj (zf_37_z j hj)))))
theorem zf_39_z : ∀ j, 56 ≤ j → zf_39 j = 0 := fun j hj => by
  unfold zf_39
  exact (zup (n := 56) (by decide) hj (zup (n := 56) (by decide) hj (zup (n := 56) (by decide) hj (zup (n := 56) (by decide) hj (zf_38_z j hj)))))
theorem zf_40_z : ∀ j, 56 ≤ j → zf_40 j = 0 := fun j hj => by
  unfold zf_40
  exact (zup (n := 56) (by decide) hj (zup (n := 56) (by decide) hj (zup (n := 56) (by decide) hj (zup (n := 56) (by decide) hj (zf_39_z j hj)))))
theorem zf_41_z : ∀ j, 56 ≤ j → zf_41 j = 0 := fun j hj => by
  unfold zf_41
  exact (zup (n := 56) (by decide) hj (zup (n := 56) (by decide) hj (zup (n := 56) (by decide) hj (zup (n := 56) (by decide) hj (zf_40_z j hj)))))
theorem zf_42_z : ∀ j, 56 ≤ j → zf_42 j = 0 := fun j hj => by
  unfold zf_42
  exact (zup (n := 56) (by decide) hj (zup (n := 56) (by decide) hj (zup (n := 56) (by decide) hj (zup (n := 56) (by decide) hj (zf_41_z j hj)))))
theorem zf_43_z : ∀ j, 56 ≤ j → zf_43 j = 0 := fun j hj => by
  unfold zf_43
  exact (zup (n := 56) (by decide) hj (zup (n := 56) (by decide) hj (zup (n := 56) (by decide) hj (zup (n := 56) (by decide) hj (zf_42_z j hj)))))
theorem zf_44_z : ∀ j, 56 ≤ j → zf_44 j = 0 := fun j hj => by
  unfold zf_44
  exact (zup (n := 56) (by decide) hj (zup (n := 56) (by decide) hj (zup (n := 56) (by decide) hj (zup (n := 56) (by decide) hj (zf_43_z j hj)))))
theorem zf_44_q : zf_44 = hLe := zfz zf_44 56 hLeL rfl (by decide +kernel) zf_44_z
theorem zc_72_14_c : zc_72_14 = .inl (.char, 56, .inl hLe) := by
  unfold zc_72_14
  rw [zf_44_q]
theorem zf_45_z : ∀ j, 56 ≤ j → zf_45 j = 0 := fun j hj => by
  unfold zf_45
  exact (zup (n := 56) (by decide) hj (zup (n := 56) (by decide) hj (zup (n := 56) (by decide) hj (zup (n := 56) (by decide) hj rfl))))
theorem zf_46_z : ∀ j, 56 ≤ j → zf_46 j = 0 := fun j hj => by
  unfold zf_46
  exact (zup (n := 56) (by decide) hj (zup (n := 56) (by decide) hj (zup (n := 56) (by decide) hj (zup (n := 56) (by decide) hj (zf_45_z j hj)))))
theorem zf_47_z : ∀ j, 56 ≤ j → zf_47 j = 0 := fun j hj => by
  unfold zf_47
  exact (zup (n := 56) (by decide) hj (zup (n := 56) (by decide) hj (zup (n := 56) (by decide) hj (zup (n := 56) (by decide) hj (zf_46_z j hj)))))
theorem zf_48_z : ∀ j, 56 ≤ j → zf_48 j = 0 := fun j hj => by
  unfold zf_48
  exact (zup (n := 56) (by decide) hj (zup (n := 56) (by decide) hj (zup (n := 56) (by decide) hj (zup (n := 56) (by decide) hj (zf_47_z j hj)))))
theorem zf_49_z : ∀ j, 56 ≤ j → zf_49 j = 0 := fun j hj => by
  unfold zf_49
  exact (zup (n := 56) (by decide) hj (zup (n := 56) (by decide) hj (zup (n := 56) (by decide) hj (zup (n := 56) (by decide) hj (zf_48_z j hj)))))
theorem zf_50_z : ∀ j, 56 ≤ j → zf_50 j = 0 := fun j hj => by
  unfold zf_50
  exact (zup (n := 56) (by decide) hj (zup (n := 56) (by decide) hj (zup (n := 56) (by decide) hj (zup (n := 56) (by decide) hj (zf_49_z j hj)))))
theorem zf_51_z : ∀ j, 56 ≤ j → zf_51 j = 0 := fun j hj => by
  unfold zf_51
  exact (zup (n := 56) (by decide) hj (zup (n := 56) (by decide) hj (zup (n := 56) (by decide) hj (zup (n := 56) (by decide) hj (zf_50_z j hj)))))
theorem zf_52_z : ∀ j, 56 ≤ j → zf_52 j = 0 := fun j hj => by
  unfold zf_52
  exact (zup (n := 56) (by decide) hj (zup (n := 56) (by decide) hj (zup (n := 56) (by decide) hj (zup (n := 56) (by decide) hj (zf_51_z j hj)))))
theorem zf_53_z : ∀ j, 56 ≤ j → zf_53 j = 0 := fun j hj => by
  unfold zf_53
  exact (zup (n := 56) (by decide) hj (zup (n := 56) (by decide) hj (zup (n := 56) (by decide) hj (zup (n := 56) (by decide) hj (zf_52_z j hj)))))
theorem zf_54_z : ∀ j, 56 ≤ j → zf_54 j = 0 := fun j hj => by
  unfold zf_54
  exact (zup (n := 56) (by decide) hj (zup (n := 56) (by decide) hj (zup (n := 56) (by decide) hj (zup (n := 56) (by decide) hj (zf_53_z j hj)))))
theorem zf_55_z : ∀ j, 56 ≤ j → zf_55 j = 0 := fun j hj => by
  unfold zf_55
  exact (zup (n := 56) (by decide) hj (zup (n := 56) (by decide) hj (zup (n := 56) (by decide) hj (zup (n := 56) (by decide) hj (zf_54_z j hj)))))
theorem zf_56_z : ∀ j, 56 ≤ j → zf_56 j = 0 := fun j hj => by
  unfold zf_56
  exact (zup (n := 56) (by decide) hj (zup (n := 56) (by decide) hj (zup (n := 56) (by decide) hj (zup (n := 56) (by decide) hj (zf_55_z j hj)))))
theorem zf_57_z : ∀ j, 56 ≤ j → zf_57 j = 0 := fun j hj => by
  unfold zf_57
  exact (zup (n := 56) (by decide) hj (zup (n := 56) (by decide) hj (zup (n := 56) (by decide) hj (zup (n := 56) (by decide) hj (zf_56_z j hj)))))
theorem zf_58_z : ∀ j, 56 ≤ j → zf_58 j = 0 := fun j hj => by
  unfold zf_58
  exact (zup (n := 56) (by decide) hj (zup (n := 56) (by decide) hj (zup (n := 56) (by decide) hj (zup (n := 56) (by decide) hj (zf_57_z j hj)))))
theorem zf_58_q : zf_58 = hOt := zfz zf_58 56 hOtL rfl (by decide +kernel) zf_58_z
theorem zc_73_14_c : zc_73_14 = .inl (.char, 56, .inl hOt) := by
  unfold zc_73_14
  rw [zf_58_q]
theorem zf_59_z : ∀ j, 16 ≤ j → zf_59 j = 0 := fun j hj => by
  unfold zf_59
  exact (zup (n := 16) (by decide) hj (zup (n := 16) (by decide) hj (zup (n := 16) (by decide) hj (zup (n := 16) (by decide) hj rfl))))
theorem zf_60_z : ∀ j, 16 ≤ j → zf_60 j = 0 := fun j hj => by
  unfold zf_60
  exact (zup (n := 16) (by decide) hj (zup (n := 16) (by decide) hj (zup (n := 16) (by decide) hj (zup (n := 16) (by decide) hj (zf_59_z j hj)))))
theorem zf_61_z : ∀ j, 16 ≤ j → zf_61 j = 0 := fun j hj => by
  unfold zf_61
  exact (zup (n := 16) (by decide) hj (zup (n := 16) (by decide) hj (zup (n := 16) (by decide) hj (zup (n := 16) (by decide) hj (zf_60_z j hj)))))
theorem zf_62_z : ∀ j, 16 ≤ j → zf_62 j = 0 := fun j hj => by
  unfold zf_62
  exact (zup (n := 16) (by decide) hj (zup (n := 16) (by decide) hj (zup (n := 16) (by decide) hj (zup (n := 16) (by decide) hj (zf_61_z j hj)))))
theorem zf_62_q : zf_62 = hMo := zfz zf_62 16 hMoL rfl (by decide +kernel) zf_62_z
theorem zc_74_4_c : zc_74_4 = .inl (.char, 16, .inl hMo) := by
  unfold zc_74_4
  rw [zf_62_q]
theorem zJB : jB zb_b zf_73 := by
  unfold jB jC jG jR
  refine ⟨?_, ⟨?_, ?_, ?_, ?_, ?_, ?_, ?_⟩, ⟨?_, ?_, ?_, ?_, ?_, ?_, ?_⟩⟩ <;> decide +kernel
theorem zM0 : zm_224 = hCm zb_b zb_d zb_k zb_s zb_w 0 0 0 0 (fun _ => 0) (fun _ => 0) (fun _ => 0) 0 (.ref 52, 0, 0, 0, 0, 0, -1) ((fun _ => 0, 0, 0) : hSt) ((fun _ => 0, 0, 0) : hSt) ((fun _ => 0, 0, 0) : hSt) ((fun _ => 0, 0, 0) : hSt) (fun _ => 0) (zMc zf_73 (fun _ => 0) (fun _ => 0) 0 (fun _ => 0) 0 0 (fun _ => 0) (fun _ => 0) 0 (fun _ => 0) 0 (fun _ => 0) 0 0 0 0 0 0 (fun _ => 0) (fun _ => 0) (fun _ => 0) (fun _ => 0)) := by
  unfold zm_224
  rw [zc_72_14_c, zc_73_14_c, zc_74_4_c]
  rfl
theorem zZ0 : jZ zm_224 := by
  have hB := zJB
  refine ⟨zb_b, zb_d, zb_k, zb_s, zb_w, 0, 0, 0, 0, (fun _ => 0), (fun _ => 0), (fun _ => 0), 0, .ref 52, (0, 0, 0, 0, 0, -1), ((fun _ => 0, 0, 0) : hSt), ((fun _ => 0, 0, 0) : hSt), ((fun _ => 0, 0, 0) : hSt), ((fun _ => 0, 0, 0) : hSt), (fun _ => 0), zf_73, (fun _ => 0), (fun _ => 0), 0, (fun _ => 0), 0, 0, (fun _ => 0), (fun _ => 0), 0, (fun _ => 0), 0, (fun _ => 0), 0, 0, 0, 0, 0, 0, (fun _ => 0), (fun _ => 0), (fun _ => 0), (fun _ => 0), zM0, hB, ?_, ?_, ?_, ?_, ?_⟩
  · intro i hi; rfl
  · exact ⟨rfl, .inl rfl⟩
  · exact .inl rfl
  · exact ⟨0, by decide, rfl, rfl, fun i hi => absurd hi (by omega)⟩
  · unfold jH4 jH jR
    refine ⟨?_, ?_, ?_, ?_⟩ <;> decide +kernel
