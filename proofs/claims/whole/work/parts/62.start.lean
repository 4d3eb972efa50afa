/-! THE START: the two objects and theirs are made -/
def zm_0 : List gE := []
def zc_0_0 : gE := .inr (5, [.null, .null, .null, .int 0, .null, .null, .null, .null, .null])
def zm_1 : List gE := [zc_0_0]
def zc_1_0 : gE := .inr (0, [.int 0, .int 0, .int 0, .int 0, .int 0, .null, .null, .null, .null, .null, .null, .null, .null])
def zm_2 : List gE := [zc_0_0, zc_1_0]
def zc_1_1 : gE := .inr (0, [.int 0, .int 0, .int 0, .int 1, .int 0, .null, .null, .null, .null, .null, .null, .null, .null])
def zm_3 : List gE := [zc_0_0, zc_1_1]
def zc_2_0 : gE := .inl (.int, 8, .inl (fun _ => 0))
def zm_4 : List gE := [zc_0_0, zc_1_1, zc_2_0]
def zc_1_2 : gE := .inr (0, [.int 0, .int 0, .int 0, .int 1, .int 0, .ref 2, .null, .null, .null, .null, .null, .null, .null])
def zm_5 : List gE := [zc_0_0, zc_1_2, zc_2_0]
def zc_3_0 : gE := .inl (.int, 8, .inl (fun _ => 0))
def zm_6 : List gE := [zc_0_0, zc_1_2, zc_2_0, zc_3_0]
def zc_1_3 : gE := .inr (0, [.int 0, .int 0, .int 0, .int 1, .int 0, .ref 2, .ref 3, .null, .null, .null, .null, .null, .null])
def zm_7 : List gE := [zc_0_0, zc_1_3, zc_2_0, zc_3_0]
def zc_4_0 : gE := .inl (.int, 8, .inl (fun _ => 0))
def zm_8 : List gE := [zc_0_0, zc_1_3, zc_2_0, zc_3_0, zc_4_0]
def zc_1_4 : gE := .inr (0, [.int 0, .int 0, .int 0, .int 1, .int 0, .ref 2, .ref 3, .ref 4, .null, .null, .null, .null, .null])
def zm_9 : List gE := [zc_0_0, zc_1_4, zc_2_0, zc_3_0, zc_4_0]
def zc_5_0 : gE := .inl (.int, 6, .inl (fun _ => 0))
def zm_10 : List gE := [zc_0_0, zc_1_4, zc_2_0, zc_3_0, zc_4_0, zc_5_0]
def zf_1 : Nat → Int32 := upd (upd (upd (upd (fun _ => 0) 0 0) 1 1) 2 0) 3 60
def zc_5_1 : gE := .inl (.int, 6, .inl zf_1)
def zm_11 : List gE := [zc_0_0, zc_1_4, zc_2_0, zc_3_0, zc_4_0, zc_5_1]
def zc_1_5 : gE := .inr (0, [.int 0, .int 0, .int 0, .int 1, .int 0, .ref 2, .ref 3, .ref 4, .ref 5, .null, .null, .null, .null])
def zf_2 : Nat → Int32 := upd (upd zf_1 4 1) 5 20
def zc_5_2 : gE := .inl (.int, 6, .inl zf_2)
def zm_12 : List gE := [zc_0_0, zc_1_5, zc_2_0, zc_3_0, zc_4_0, zc_5_2]
def zc_6_0 : gE := .inl (.int, 4, .inl (fun _ => 0))
def zm_13 : List gE := [zc_0_0, zc_1_5, zc_2_0, zc_3_0, zc_4_0, zc_5_2, zc_6_0]
def zf_3 : Nat → Int32 := upd (upd (upd (upd (fun _ => 0) 0 1) 1 4) 2 30) 3 2
def zc_6_1 : gE := .inl (.int, 4, .inl zf_3)
def zm_14 : List gE := [zc_0_0, zc_1_5, zc_2_0, zc_3_0, zc_4_0, zc_5_2, zc_6_1]
def zc_1_6 : gE := .inr (0, [.int 0, .int 0, .int 0, .int 1, .int 0, .ref 2, .ref 3, .ref 4, .ref 5, .ref 6, .null, .null, .null])
def zm_15 : List gE := [zc_0_0, zc_1_6, zc_2_0, zc_3_0, zc_4_0, zc_5_2, zc_6_1]
def zc_7_0 : gE := .inl (.int, 61, .inl (fun _ => 0))
def zm_16 : List gE := [zc_0_0, zc_1_6, zc_2_0, zc_3_0, zc_4_0, zc_5_2, zc_6_1, zc_7_0]
def zc_1_7 : gE := .inr (0, [.int 0, .int 0, .int 0, .int 1, .int 0, .ref 2, .ref 3, .ref 4, .ref 5, .ref 6, .ref 7, .null, .null])
def zm_17 : List gE := [zc_0_0, zc_1_7, zc_2_0, zc_3_0, zc_4_0, zc_5_2, zc_6_1, zc_7_0]
def zc_8_0 : gE := .inl (.int, 24, .inl (fun _ => 0))
def zm_18 : List gE := [zc_0_0, zc_1_7, zc_2_0, zc_3_0, zc_4_0, zc_5_2, zc_6_1, zc_7_0, zc_8_0]
def zc_1_8 : gE := .inr (0, [.int 0, .int 0, .int 0, .int 1, .int 0, .ref 2, .ref 3, .ref 4, .ref 5, .ref 6, .ref 7, .ref 8, .null])
def zm_19 : List gE := [zc_0_0, zc_1_8, zc_2_0, zc_3_0, zc_4_0, zc_5_2, zc_6_1, zc_7_0, zc_8_0]
def zc_9_0 : gE := .inl (.int, 10, .inl (fun _ => 0))
def zm_20 : List gE := [zc_0_0, zc_1_8, zc_2_0, zc_3_0, zc_4_0, zc_5_2, zc_6_1, zc_7_0, zc_8_0, zc_9_0]
def zf_4 : Nat → Int32 := upd (upd (upd (upd (fun _ => 0) 0 (-1)) 1 (-1)) 2 (-1)) 3 (-1)
def zc_9_1 : gE := .inl (.int, 10, .inl zf_4)
def zm_21 : List gE := [zc_0_0, zc_1_8, zc_2_0, zc_3_0, zc_4_0, zc_5_2, zc_6_1, zc_7_0, zc_8_0, zc_9_1]
def zf_5 : Nat → Int32 := upd (upd (upd (upd zf_4 4 (-1)) 5 (-1)) 6 (-1)) 7 (-1)
def zc_9_2 : gE := .inl (.int, 10, .inl zf_5)
def zm_22 : List gE := [zc_0_0, zc_1_8, zc_2_0, zc_3_0, zc_4_0, zc_5_2, zc_6_1, zc_7_0, zc_8_0, zc_9_2]
def zc_1_9 : gE := .inr (0, [.int 0, .int 0, .int 0, .int 1, .int 0, .ref 2, .ref 3, .ref 4, .ref 5, .ref 6, .ref 7, .ref 8, .ref 9])
def zf_6 : Nat → Int32 := upd (upd zf_5 8 (-1)) 9 (-1)
def zc_9_3 : gE := .inl (.int, 10, .inl zf_6)
def zm_23 : List gE := [zc_0_0, zc_1_9, zc_2_0, zc_3_0, zc_4_0, zc_5_2, zc_6_1, zc_7_0, zc_8_0, zc_9_3]
def zc_0_1 : gE := .inr (5, [.ref 1, .null, .null, .int 0, .null, .null, .null, .null, .null])
def zm_24 : List gE := [zc_0_1, zc_1_9, zc_2_0, zc_3_0, zc_4_0, zc_5_2, zc_6_1, zc_7_0, zc_8_0, zc_9_3]
def zc_10_0 : gE := .inr (0, [.int 0, .int 0, .int 0, .int 0, .int 0, .null, .null, .null, .null, .null, .null, .null, .null])
def zm_25 : List gE := [zc_0_1, zc_1_9, zc_2_0, zc_3_0, zc_4_0, zc_5_2, zc_6_1, zc_7_0, zc_8_0, zc_9_3, zc_10_0]
def zc_10_1 : gE := .inr (0, [.int 0, .int 0, .int 0, .int 1, .int 0, .null, .null, .null, .null, .null, .null, .null, .null])
def zm_26 : List gE := [zc_0_1, zc_1_9, zc_2_0, zc_3_0, zc_4_0, zc_5_2, zc_6_1, zc_7_0, zc_8_0, zc_9_3, zc_10_1]
def zc_11_0 : gE := .inl (.int, 8, .inl (fun _ => 0))
def zm_27 : List gE := [zc_0_1, zc_1_9, zc_2_0, zc_3_0, zc_4_0, zc_5_2, zc_6_1, zc_7_0, zc_8_0, zc_9_3, zc_10_1, zc_11_0]
def zc_10_2 : gE := .inr (0, [.int 0, .int 0, .int 0, .int 1, .int 0, .ref 11, .null, .null, .null, .null, .null, .null, .null])
def zm_28 : List gE := [zc_0_1, zc_1_9, zc_2_0, zc_3_0, zc_4_0, zc_5_2, zc_6_1, zc_7_0, zc_8_0, zc_9_3, zc_10_2, zc_11_0]
def zc_12_0 : gE := .inl (.int, 8, .inl (fun _ => 0))
def zm_29 : List gE := [zc_0_1, zc_1_9, zc_2_0, zc_3_0, zc_4_0, zc_5_2, zc_6_1, zc_7_0, zc_8_0, zc_9_3, zc_10_2, zc_11_0, zc_12_0]
def zc_10_3 : gE := .inr (0, [.int 0, .int 0, .int 0, .int 1, .int 0, .ref 11, .ref 12, .null, .null, .null, .null, .null, .null])
def zm_30 : List gE := [zc_0_1, zc_1_9, zc_2_0, zc_3_0, zc_4_0, zc_5_2, zc_6_1, zc_7_0, zc_8_0, zc_9_3, zc_10_3, zc_11_0, zc_12_0]
def zc_13_0 : gE := .inl (.int, 8, .inl (fun _ => 0))
def zm_31 : List gE := [zc_0_1, zc_1_9, zc_2_0, zc_3_0, zc_4_0, zc_5_2, zc_6_1, zc_7_0, zc_8_0, zc_9_3, zc_10_3, zc_11_0, zc_12_0, zc_13_0]
def zc_10_4 : gE := .inr (0, [.int 0, .int 0, .int 0, .int 1, .int 0, .ref 11, .ref 12, .ref 13, .null, .null, .null, .null, .null])
def zm_32 : List gE := [zc_0_1, zc_1_9, zc_2_0, zc_3_0, zc_4_0, zc_5_2, zc_6_1, zc_7_0, zc_8_0, zc_9_3, zc_10_4, zc_11_0, zc_12_0, zc_13_0]
def zc_14_0 : gE := .inl (.int, 6, .inl (fun _ => 0))
def zm_33 : List gE := [zc_0_1, zc_1_9, zc_2_0, zc_3_0, zc_4_0, zc_5_2, zc_6_1, zc_7_0, zc_8_0, zc_9_3, zc_10_4, zc_11_0, zc_12_0, zc_13_0, zc_14_0]
def zf_7 : Nat → Int32 := upd (upd (upd (upd (fun _ => 0) 0 0) 1 1) 2 0) 3 60
def zc_14_1 : gE := .inl (.int, 6, .inl zf_7)
def zm_34 : List gE := [zc_0_1, zc_1_9, zc_2_0, zc_3_0, zc_4_0, zc_5_2, zc_6_1, zc_7_0, zc_8_0, zc_9_3, zc_10_4, zc_11_0, zc_12_0, zc_13_0, zc_14_1]
def zc_10_5 : gE := .inr (0, [.int 0, .int 0, .int 0, .int 1, .int 0, .ref 11, .ref 12, .ref 13, .ref 14, .null, .null, .null, .null])
def zf_8 : Nat → Int32 := upd (upd zf_7 4 1) 5 20
def zc_14_2 : gE := .inl (.int, 6, .inl zf_8)
def zm_35 : List gE := [zc_0_1, zc_1_9, zc_2_0, zc_3_0, zc_4_0, zc_5_2, zc_6_1, zc_7_0, zc_8_0, zc_9_3, zc_10_5, zc_11_0, zc_12_0, zc_13_0, zc_14_2]
def zc_15_0 : gE := .inl (.int, 4, .inl (fun _ => 0))
def zm_36 : List gE := [zc_0_1, zc_1_9, zc_2_0, zc_3_0, zc_4_0, zc_5_2, zc_6_1, zc_7_0, zc_8_0, zc_9_3, zc_10_5, zc_11_0, zc_12_0, zc_13_0, zc_14_2, zc_15_0]
def zf_9 : Nat → Int32 := upd (upd (upd (upd (fun _ => 0) 0 1) 1 4) 2 30) 3 2
def zc_15_1 : gE := .inl (.int, 4, .inl zf_9)
def zm_37 : List gE := [zc_0_1, zc_1_9, zc_2_0, zc_3_0, zc_4_0, zc_5_2, zc_6_1, zc_7_0, zc_8_0, zc_9_3, zc_10_5, zc_11_0, zc_12_0, zc_13_0, zc_14_2, zc_15_1]
def zc_10_6 : gE := .inr (0, [.int 0, .int 0, .int 0, .int 1, .int 0, .ref 11, .ref 12, .ref 13, .ref 14, .ref 15, .null, .null, .null])
def zm_38 : List gE := [zc_0_1, zc_1_9, zc_2_0, zc_3_0, zc_4_0, zc_5_2, zc_6_1, zc_7_0, zc_8_0, zc_9_3, zc_10_6, zc_11_0, zc_12_0, zc_13_0, zc_14_2, zc_15_1]
def zc_16_0 : gE := .inl (.int, 61, .inl (fun _ => 0))
def zm_39 : List gE := [zc_0_1, zc_1_9, zc_2_0, zc_3_0, zc_4_0, zc_5_2, zc_6_1, zc_7_0, zc_8_0, zc_9_3, zc_10_6, zc_11_0, zc_12_0, zc_13_0, zc_14_2, zc_15_1, zc_16_0]
def zc_10_7 : gE := .inr (0, [.int 0, .int 0, .int 0, .int 1, .int 0, .ref 11, .ref 12, .ref 13, .ref 14, .ref 15, .ref 16, .null, .null])
def zm_40 : List gE := [zc_0_1, zc_1_9, zc_2_0, zc_3_0, zc_4_0, zc_5_2, zc_6_1, zc_7_0, zc_8_0, zc_9_3, zc_10_7, zc_11_0, zc_12_0, zc_13_0, zc_14_2, zc_15_1, zc_16_0]
def zc_17_0 : gE := .inl (.int, 24, .inl (fun _ => 0))
def zm_41 : List gE := [zc_0_1, zc_1_9, zc_2_0, zc_3_0, zc_4_0, zc_5_2, zc_6_1, zc_7_0, zc_8_0, zc_9_3, zc_10_7, zc_11_0, zc_12_0, zc_13_0, zc_14_2, zc_15_1, zc_16_0, zc_17_0]
def zc_10_8 : gE := .inr (0, [.int 0, .int 0, .int 0, .int 1, .int 0, .ref 11, .ref 12, .ref 13, .ref 14, .ref 15, .ref 16, .ref 17, .null])
def zm_42 : List gE := [zc_0_1, zc_1_9, zc_2_0, zc_3_0, zc_4_0, zc_5_2, zc_6_1, zc_7_0, zc_8_0, zc_9_3, zc_10_8, zc_11_0, zc_12_0, zc_13_0, zc_14_2, zc_15_1, zc_16_0, zc_17_0]
def zc_18_0 : gE := .inl (.int, 10, .inl (fun _ => 0))
def zm_43 : List gE := [zc_0_1, zc_1_9, zc_2_0, zc_3_0, zc_4_0, zc_5_2, zc_6_1, zc_7_0, zc_8_0, zc_9_3, zc_10_8, zc_11_0, zc_12_0, zc_13_0, zc_14_2, zc_15_1, zc_16_0, zc_17_0, zc_18_0]
def zf_10 : Nat → Int32 := upd (upd (upd (upd (fun _ => 0) 0 (-1)) 1 (-1)) 2 (-1)) 3 (-1)
def zc_18_1 : gE := .inl (.int, 10, .inl zf_10)
def zm_44 : List gE := [zc_0_1, zc_1_9, zc_2_0, zc_3_0, zc_4_0, zc_5_2, zc_6_1, zc_7_0, zc_8_0, zc_9_3, zc_10_8, zc_11_0, zc_12_0, zc_13_0, zc_14_2, zc_15_1, zc_16_0, zc_17_0, zc_18_1]
def zf_11 : Nat → Int32 := upd (upd (upd (upd zf_10 4 (-1)) 5 (-1)) 6 (-1)) 7 (-1)
def zc_18_2 : gE := .inl (.int, 10, .inl zf_11)
def zm_45 : List gE := [zc_0_1, zc_1_9, zc_2_0, zc_3_0, zc_4_0, zc_5_2, zc_6_1, zc_7_0, zc_8_0, zc_9_3, zc_10_8, zc_11_0, zc_12_0, zc_13_0, zc_14_2, zc_15_1, zc_16_0, zc_17_0, zc_18_2]
def zc_10_9 : gE := .inr (0, [.int 0, .int 0, .int 0, .int 1, .int 0, .ref 11, .ref 12, .ref 13, .ref 14, .ref 15, .ref 16, .ref 17, .ref 18])
def zf_12 : Nat → Int32 := upd (upd zf_11 8 (-1)) 9 (-1)
def zc_18_3 : gE := .inl (.int, 10, .inl zf_12)
def zm_46 : List gE := [zc_0_1, zc_1_9, zc_2_0, zc_3_0, zc_4_0, zc_5_2, zc_6_1, zc_7_0, zc_8_0, zc_9_3, zc_10_9, zc_11_0, zc_12_0, zc_13_0, zc_14_2, zc_15_1, zc_16_0, zc_17_0, zc_18_3]
def zc_0_2 : gE := .inr (5, [.ref 1, .ref 10, .null, .int 0, .null, .null, .null, .null, .null])
def zm_47 : List gE := [zc_0_2, zc_1_9, zc_2_0, zc_3_0, zc_4_0, zc_5_2, zc_6_1, zc_7_0, zc_8_0, zc_9_3, zc_10_9, zc_11_0, zc_12_0, zc_13_0, zc_14_2, zc_15_1, zc_16_0, zc_17_0, zc_18_3]
def zc_19_0 : gE := .inr (0, [.int 0, .int 0, .int 0, .int 0, .int 0, .null, .null, .null, .null, .null, .null, .null, .null])
def zm_48 : List gE := [zc_0_2, zc_1_9, zc_2_0, zc_3_0, zc_4_0, zc_5_2, zc_6_1, zc_7_0, zc_8_0, zc_9_3, zc_10_9, zc_11_0, zc_12_0, zc_13_0, zc_14_2, zc_15_1, zc_16_0, zc_17_0, zc_18_3, zc_19_0]
def zc_19_1 : gE := .inr (0, [.int 0, .int 0, .int 0, .int 1, .int 0, .null, .null, .null, .null, .null, .null, .null, .null])
def zm_49 : List gE := [zc_0_2, zc_1_9, zc_2_0, zc_3_0, zc_4_0, zc_5_2, zc_6_1, zc_7_0, zc_8_0, zc_9_3, zc_10_9, zc_11_0, zc_12_0, zc_13_0, zc_14_2, zc_15_1, zc_16_0, zc_17_0, zc_18_3, zc_19_1]
def zc_20_0 : gE := .inl (.int, 8, .inl (fun _ => 0))
def zm_50 : List gE := [zc_0_2, zc_1_9, zc_2_0, zc_3_0, zc_4_0, zc_5_2, zc_6_1, zc_7_0, zc_8_0, zc_9_3, zc_10_9, zc_11_0, zc_12_0, zc_13_0, zc_14_2, zc_15_1, zc_16_0, zc_17_0, zc_18_3, zc_19_1, zc_20_0]
def zc_19_2 : gE := .inr (0, [.int 0, .int 0, .int 0, .int 1, .int 0, .ref 20, .null, .null, .null, .null, .null, .null, .null])
def zm_51 : List gE := [zc_0_2, zc_1_9, zc_2_0, zc_3_0, zc_4_0, zc_5_2, zc_6_1, zc_7_0, zc_8_0, zc_9_3, zc_10_9, zc_11_0, zc_12_0, zc_13_0, zc_14_2, zc_15_1, zc_16_0, zc_17_0, zc_18_3, zc_19_2, zc_20_0]
def zc_21_0 : gE := .inl (.int, 8, .inl (fun _ => 0))
def zm_52 : List gE := [zc_0_2, zc_1_9, zc_2_0, zc_3_0, zc_4_0, zc_5_2, zc_6_1, zc_7_0, zc_8_0, zc_9_3, zc_10_9, zc_11_0, zc_12_0, zc_13_0, zc_14_2, zc_15_1, zc_16_0, zc_17_0, zc_18_3, zc_19_2, zc_20_0, zc_21_0]
def zc_19_3 : gE := .inr (0, [.int 0, .int 0, .int 0, .int 1, .int 0, .ref 20, .ref 21, .null, .null, .null, .null, .null, .null])
def zm_53 : List gE := [zc_0_2, zc_1_9, zc_2_0, zc_3_0, zc_4_0, zc_5_2, zc_6_1, zc_7_0, zc_8_0, zc_9_3, zc_10_9, zc_11_0, zc_12_0, zc_13_0, zc_14_2, zc_15_1, zc_16_0, zc_17_0, zc_18_3, zc_19_3, zc_20_0, zc_21_0]
def zc_22_0 : gE := .inl (.int, 8, .inl (fun _ => 0))
def zm_54 : List gE := [zc_0_2, zc_1_9, zc_2_0, zc_3_0, zc_4_0, zc_5_2, zc_6_1, zc_7_0, zc_8_0, zc_9_3, zc_10_9, zc_11_0, zc_12_0, zc_13_0, zc_14_2, zc_15_1, zc_16_0, zc_17_0, zc_18_3, zc_19_3, zc_20_0, zc_21_0, zc_22_0]
def zc_19_4 : gE := .inr (0, [.int 0, .int 0, .int 0, .int 1, .int 0, .ref 20, .ref 21, .ref 22, .null, .null, .null, .null, .null])
def zm_55 : List gE := [zc_0_2, zc_1_9, zc_2_0, zc_3_0, zc_4_0, zc_5_2, zc_6_1, zc_7_0, zc_8_0, zc_9_3, zc_10_9, zc_11_0, zc_12_0, zc_13_0, zc_14_2, zc_15_1, zc_16_0, zc_17_0, zc_18_3, zc_19_4, zc_20_0, zc_21_0, zc_22_0]
def zc_23_0 : gE := .inl (.int, 6, .inl (fun _ => 0))
def zm_56 : List gE := [zc_0_2, zc_1_9, zc_2_0, zc_3_0, zc_4_0, zc_5_2, zc_6_1, zc_7_0, zc_8_0, zc_9_3, zc_10_9, zc_11_0, zc_12_0, zc_13_0, zc_14_2, zc_15_1, zc_16_0, zc_17_0, zc_18_3, zc_19_4, zc_20_0, zc_21_0, zc_22_0, zc_23_0]
def zf_13 : Nat → Int32 := upd (upd (upd (upd (fun _ => 0) 0 0) 1 1) 2 0) 3 60
def zc_23_1 : gE := .inl (.int, 6, .inl zf_13)
def zm_57 : List gE := [zc_0_2, zc_1_9, zc_2_0, zc_3_0, zc_4_0, zc_5_2, zc_6_1, zc_7_0, zc_8_0, zc_9_3, zc_10_9, zc_11_0, zc_12_0, zc_13_0, zc_14_2, zc_15_1, zc_16_0, zc_17_0, zc_18_3, zc_19_4, zc_20_0, zc_21_0, zc_22_0, zc_23_1]
def zc_19_5 : gE := .inr (0, [.int 0, .int 0, .int 0, .int 1, .int 0, .ref 20, .ref 21, .ref 22, .ref 23, .null, .null, .null, .null])
def zf_14 : Nat → Int32 := upd (upd zf_13 4 1) 5 20
def zc_23_2 : gE := .inl (.int, 6, .inl zf_14)
def zm_58 : List gE := [zc_0_2, zc_1_9, zc_2_0, zc_3_0, zc_4_0, zc_5_2, zc_6_1, zc_7_0, zc_8_0, zc_9_3, zc_10_9, zc_11_0, zc_12_0, zc_13_0, zc_14_2, zc_15_1, zc_16_0, zc_17_0, zc_18_3, zc_19_5, zc_20_0, zc_21_0, zc_22_0, zc_23_2]
def zc_24_0 : gE := .inl (.int, 4, .inl (fun _ => 0))
def zm_59 : List gE := [zc_0_2, zc_1_9, zc_2_0, zc_3_0, zc_4_0, zc_5_2, zc_6_1, zc_7_0, zc_8_0, zc_9_3, zc_10_9, zc_11_0, zc_12_0, zc_13_0, zc_14_2, zc_15_1, zc_16_0, zc_17_0, zc_18_3, zc_19_5, zc_20_0, zc_21_0, zc_22_0, zc_23_2, zc_24_0]
def zf_15 : Nat → Int32 := upd (upd (upd (upd (fun _ => 0) 0 1) 1 4) 2 30) 3 2
def zc_24_1 : gE := .inl (.int, 4, .inl zf_15)
def zm_60 : List gE := [zc_0_2, zc_1_9, zc_2_0, zc_3_0, zc_4_0, zc_5_2, zc_6_1, zc_7_0, zc_8_0, zc_9_3, zc_10_9, zc_11_0, zc_12_0, zc_13_0, zc_14_2, zc_15_1, zc_16_0, zc_17_0, zc_18_3, zc_19_5, zc_20_0, zc_21_0, zc_22_0, zc_23_2, zc_24_1]
def zc_19_6 : gE := .inr (0, [.int 0, .int 0, .int 0, .int 1, .int 0, .ref 20, .ref 21, .ref 22, .ref 23, .ref 24, .null, .null, .null])
def zm_61 : List gE := [zc_0_2, zc_1_9, zc_2_0, zc_3_0, zc_4_0, zc_5_2, zc_6_1, zc_7_0, zc_8_0, zc_9_3, zc_10_9, zc_11_0, zc_12_0, zc_13_0, zc_14_2, zc_15_1, zc_16_0, zc_17_0, zc_18_3, zc_19_6, zc_20_0, zc_21_0, zc_22_0, zc_23_2, zc_24_1]
def zc_25_0 : gE := .inl (.int, 61, .inl (fun _ => 0))
def zm_62 : List gE := [zc_0_2, zc_1_9, zc_2_0, zc_3_0, zc_4_0, zc_5_2, zc_6_1, zc_7_0, zc_8_0, zc_9_3, zc_10_9, zc_11_0, zc_12_0, zc_13_0, zc_14_2, zc_15_1, zc_16_0, zc_17_0, zc_18_3, zc_19_6, zc_20_0, zc_21_0, zc_22_0, zc_23_2, zc_24_1, zc_25_0]
def zc_19_7 : gE := .inr (0, [.int 0, .int 0, .int 0, .int 1, .int 0, .ref 20, .ref 21, .ref 22, .ref 23, .ref 24, .ref 25, .null, .null])
def zm_63 : List gE := [zc_0_2, zc_1_9, zc_2_0, zc_3_0, zc_4_0, zc_5_2, zc_6_1, zc_7_0, zc_8_0, zc_9_3, zc_10_9, zc_11_0, zc_12_0, zc_13_0, zc_14_2, zc_15_1, zc_16_0, zc_17_0, zc_18_3, zc_19_7, zc_20_0, zc_21_0, zc_22_0, zc_23_2, zc_24_1, zc_25_0]
def zc_26_0 : gE := .inl (.int, 24, .inl (fun _ => 0))
def zm_64 : List gE := [zc_0_2, zc_1_9, zc_2_0, zc_3_0, zc_4_0, zc_5_2, zc_6_1, zc_7_0, zc_8_0, zc_9_3, zc_10_9, zc_11_0, zc_12_0, zc_13_0, zc_14_2, zc_15_1, zc_16_0, zc_17_0, zc_18_3, zc_19_7, zc_20_0, zc_21_0, zc_22_0, zc_23_2, zc_24_1, zc_25_0, zc_26_0]
def zc_19_8 : gE := .inr (0, [.int 0, .int 0, .int 0, .int 1, .int 0, .ref 20, .ref 21, .ref 22, .ref 23, .ref 24, .ref 25, .ref 26, .null])
def zm_65 : List gE := [zc_0_2, zc_1_9, zc_2_0, zc_3_0, zc_4_0, zc_5_2, zc_6_1, zc_7_0, zc_8_0, zc_9_3, zc_10_9, zc_11_0, zc_12_0, zc_13_0, zc_14_2, zc_15_1, zc_16_0, zc_17_0, zc_18_3, zc_19_8, zc_20_0, zc_21_0, zc_22_0, zc_23_2, zc_24_1, zc_25_0, zc_26_0]
def zc_27_0 : gE := .inl (.int, 10, .inl (fun _ => 0))
def zm_66 : List gE := [zc_0_2, zc_1_9, zc_2_0, zc_3_0, zc_4_0, zc_5_2, zc_6_1, zc_7_0, zc_8_0, zc_9_3, zc_10_9, zc_11_0, zc_12_0, zc_13_0, zc_14_2, zc_15_1, zc_16_0, zc_17_0, zc_18_3, zc_19_8, zc_20_0, zc_21_0, zc_22_0, zc_23_2, zc_24_1, zc_25_0, zc_26_0, zc_27_0]
def zf_16 : Nat → Int32 := upd (upd (upd (upd (fun _ => 0) 0 (-1)) 1 (-1)) 2 (-1)) 3 (-1)
def zc_27_1 : gE := .inl (.int, 10, .inl zf_16)
def zm_67 : List gE := [zc_0_2, zc_1_9, zc_2_0, zc_3_0, zc_4_0, zc_5_2, zc_6_1, zc_7_0, zc_8_0, zc_9_3, zc_10_9, zc_11_0, zc_12_0, zc_13_0, zc_14_2, zc_15_1, zc_16_0, zc_17_0, zc_18_3, zc_19_8, zc_20_0, zc_21_0, zc_22_0, zc_23_2, zc_24_1, zc_25_0, zc_26_0, zc_27_1]
def zf_17 : Nat → Int32 := upd (upd (upd (upd zf_16 4 (-1)) 5 (-1)) 6 (-1)) 7 (-1)
def zc_27_2 : gE := .inl (.int, 10, .inl zf_17)
def zm_68 : List gE := [zc_0_2, zc_1_9, zc_2_0, zc_3_0, zc_4_0, zc_5_2, zc_6_1, zc_7_0, zc_8_0, zc_9_3, zc_10_9, zc_11_0, zc_12_0, zc_13_0, zc_14_2, zc_15_1, zc_16_0, zc_17_0, zc_18_3, zc_19_8, zc_20_0, zc_21_0, zc_22_0, zc_23_2, zc_24_1, zc_25_0, zc_26_0, zc_27_2]
def zc_19_9 : gE := .inr (0, [.int 0, .int 0, .int 0, .int 1, .int 0, .ref 20, .ref 21, .ref 22, .ref 23, .ref 24, .ref 25, .ref 26, .ref 27])
def zf_18 : Nat → Int32 := upd (upd zf_17 8 (-1)) 9 (-1)
def zc_27_3 : gE := .inl (.int, 10, .inl zf_18)
def zm_69 : List gE := [zc_0_2, zc_1_9, zc_2_0, zc_3_0, zc_4_0, zc_5_2, zc_6_1, zc_7_0, zc_8_0, zc_9_3, zc_10_9, zc_11_0, zc_12_0, zc_13_0, zc_14_2, zc_15_1, zc_16_0, zc_17_0, zc_18_3, zc_19_9, zc_20_0, zc_21_0, zc_22_0, zc_23_2, zc_24_1, zc_25_0, zc_26_0, zc_27_3]
def zc_0_3 : gE := .inr (5, [.ref 1, .ref 10, .ref 19, .int 0, .null, .null, .null, .null, .null])
def zm_70 : List gE := [zc_0_3, zc_1_9, zc_2_0, zc_3_0, zc_4_0, zc_5_2, zc_6_1, zc_7_0, zc_8_0, zc_9_3, zc_10_9, zc_11_0, zc_12_0, zc_13_0, zc_14_2, zc_15_1, zc_16_0, zc_17_0, zc_18_3, zc_19_9, zc_20_0, zc_21_0, zc_22_0, zc_23_2, zc_24_1, zc_25_0, zc_26_0, zc_27_3]
def zc_28_0 : gE := .inr (2, [.null, .null, .null, .null, .int 0, .int 0, .int 0])
def zm_71 : List gE := [zc_0_3, zc_1_9, zc_2_0, zc_3_0, zc_4_0, zc_5_2, zc_6_1, zc_7_0, zc_8_0, zc_9_3, zc_10_9, zc_11_0, zc_12_0, zc_13_0, zc_14_2, zc_15_1, zc_16_0, zc_17_0, zc_18_3, zc_19_9, zc_20_0, zc_21_0, zc_22_0, zc_23_2, zc_24_1, zc_25_0, zc_26_0, zc_27_3, zc_28_0]
def zc_29_0 : gE := .inl (.long, 61, .inr (.inl (fun _ => 0)))
def zm_72 : List gE := [zc_0_3, zc_1_9, zc_2_0, zc_3_0, zc_4_0, zc_5_2, zc_6_1, zc_7_0, zc_8_0, zc_9_3, zc_10_9, zc_11_0, zc_12_0, zc_13_0, zc_14_2, zc_15_1, zc_16_0, zc_17_0, zc_18_3, zc_19_9, zc_20_0, zc_21_0, zc_22_0, zc_23_2, zc_24_1, zc_25_0, zc_26_0, zc_27_3, zc_28_0, zc_29_0]
def zc_28_1 : gE := .inr (2, [.ref 29, .null, .null, .null, .int 0, .int 0, .int 0])
def zm_73 : List gE := [zc_0_3, zc_1_9, zc_2_0, zc_3_0, zc_4_0, zc_5_2, zc_6_1, zc_7_0, zc_8_0, zc_9_3, zc_10_9, zc_11_0, zc_12_0, zc_13_0, zc_14_2, zc_15_1, zc_16_0, zc_17_0, zc_18_3, zc_19_9, zc_20_0, zc_21_0, zc_22_0, zc_23_2, zc_24_1, zc_25_0, zc_26_0, zc_27_3, zc_28_1, zc_29_0]
def zc_30_0 : gE := .inl (.int, 3721, .inl (fun _ => 0))
def zm_74 : List gE := [zc_0_3, zc_1_9, zc_2_0, zc_3_0, zc_4_0, zc_5_2, zc_6_1, zc_7_0, zc_8_0, zc_9_3, zc_10_9, zc_11_0, zc_12_0, zc_13_0, zc_14_2, zc_15_1, zc_16_0, zc_17_0, zc_18_3, zc_19_9, zc_20_0, zc_21_0, zc_22_0, zc_23_2, zc_24_1, zc_25_0, zc_26_0, zc_27_3, zc_28_1, zc_29_0, zc_30_0]
def zc_28_2 : gE := .inr (2, [.ref 29, .ref 30, .null, .null, .int 0, .int 0, .int 0])
def zm_75 : List gE := [zc_0_3, zc_1_9, zc_2_0, zc_3_0, zc_4_0, zc_5_2, zc_6_1, zc_7_0, zc_8_0, zc_9_3, zc_10_9, zc_11_0, zc_12_0, zc_13_0, zc_14_2, zc_15_1, zc_16_0, zc_17_0, zc_18_3, zc_19_9, zc_20_0, zc_21_0, zc_22_0, zc_23_2, zc_24_1, zc_25_0, zc_26_0, zc_27_3, zc_28_2, zc_29_0, zc_30_0]
def zc_31_0 : gE := .inr (0, [.int 0, .int 0, .int 0, .int 0, .int 0, .null, .null, .null, .null, .null, .null, .null, .null])
def zm_76 : List gE := [zc_0_3, zc_1_9, zc_2_0, zc_3_0, zc_4_0, zc_5_2, zc_6_1, zc_7_0, zc_8_0, zc_9_3, zc_10_9, zc_11_0, zc_12_0, zc_13_0, zc_14_2, zc_15_1, zc_16_0, zc_17_0, zc_18_3, zc_19_9, zc_20_0, zc_21_0, zc_22_0, zc_23_2, zc_24_1, zc_25_0, zc_26_0, zc_27_3, zc_28_2, zc_29_0, zc_30_0, zc_31_0]
def zc_31_1 : gE := .inr (0, [.int 0, .int 0, .int 0, .int 1, .int 0, .null, .null, .null, .null, .null, .null, .null, .null])
def zm_77 : List gE := [zc_0_3, zc_1_9, zc_2_0, zc_3_0, zc_4_0, zc_5_2, zc_6_1, zc_7_0, zc_8_0, zc_9_3, zc_10_9, zc_11_0, zc_12_0, zc_13_0, zc_14_2, zc_15_1, zc_16_0, zc_17_0, zc_18_3, zc_19_9, zc_20_0, zc_21_0, zc_22_0, zc_23_2, zc_24_1, zc_25_0, zc_26_0, zc_27_3, zc_28_2, zc_29_0, zc_30_0, zc_31_1]
def zc_32_0 : gE := .inl (.int, 8, .inl (fun _ => 0))
def zm_78 : List gE := [zc_0_3, zc_1_9, zc_2_0, zc_3_0, zc_4_0, zc_5_2, zc_6_1, zc_7_0, zc_8_0, zc_9_3, zc_10_9, zc_11_0, zc_12_0, zc_13_0, zc_14_2, zc_15_1, zc_16_0, zc_17_0, zc_18_3, zc_19_9, zc_20_0, zc_21_0, zc_22_0, zc_23_2, zc_24_1, zc_25_0, zc_26_0, zc_27_3, zc_28_2, zc_29_0, zc_30_0, zc_31_1, zc_32_0]
def zc_31_2 : gE := .inr (0, [.int 0, .int 0, .int 0, .int 1, .int 0, .ref 32, .null, .null, .null, .null, .null, .null, .null])
def zm_79 : List gE := [zc_0_3, zc_1_9, zc_2_0, zc_3_0, zc_4_0, zc_5_2, zc_6_1, zc_7_0, zc_8_0, zc_9_3, zc_10_9, zc_11_0, zc_12_0, zc_13_0, zc_14_2, zc_15_1, zc_16_0, zc_17_0, zc_18_3, zc_19_9, zc_20_0, zc_21_0, zc_22_0, zc_23_2, zc_24_1, zc_25_0, zc_26_0, zc_27_3, zc_28_2, zc_29_0, zc_30_0, zc_31_2, zc_32_0]
def zc_33_0 : gE := .inl (.int, 8, .inl (fun _ => 0))
def zm_80 : List gE := [zc_0_3, zc_1_9, zc_2_0, zc_3_0, zc_4_0, zc_5_2, zc_6_1, zc_7_0, zc_8_0, zc_9_3, zc_10_9, zc_11_0, zc_12_0, zc_13_0, zc_14_2, zc_15_1, zc_16_0, zc_17_0, zc_18_3, zc_19_9, zc_20_0, zc_21_0, zc_22_0, zc_23_2, zc_24_1, zc_25_0, zc_26_0, zc_27_3, zc_28_2, zc_29_0, zc_30_0, zc_31_2, zc_32_0, zc_33_0]
def zc_31_3 : gE := .inr (0, [.int 0, .int 0, .int 0, .int 1, .int 0, .ref 32, .ref 33, .null, .null, .null, .null, .null, .null])
def zm_81 : List gE := [zc_0_3, zc_1_9, zc_2_0, zc_3_0, zc_4_0, zc_5_2, zc_6_1, zc_7_0, zc_8_0, zc_9_3, zc_10_9, zc_11_0, zc_12_0, zc_13_0, zc_14_2, zc_15_1, zc_16_0, zc_17_0, zc_18_3, zc_19_9, zc_20_0, zc_21_0, zc_22_0, zc_23_2, zc_24_1, zc_25_0, zc_26_0, zc_27_3, zc_28_2, zc_29_0, zc_30_0, zc_31_3, zc_32_0, zc_33_0]
def zc_34_0 : gE := .inl (.int, 8, .inl (fun _ => 0))
def zm_82 : List gE := [zc_0_3, zc_1_9, zc_2_0, zc_3_0, zc_4_0, zc_5_2, zc_6_1, zc_7_0, zc_8_0, zc_9_3, zc_10_9, zc_11_0, zc_12_0, zc_13_0, zc_14_2, zc_15_1, zc_16_0, zc_17_0, zc_18_3, zc_19_9, zc_20_0, zc_21_0, zc_22_0, zc_23_2, zc_24_1, zc_25_0, zc_26_0, zc_27_3, zc_28_2, zc_29_0, zc_30_0, zc_31_3, zc_32_0, zc_33_0, zc_34_0]
def zc_31_4 : gE := .inr (0, [.int 0, .int 0, .int 0, .int 1, .int 0, .ref 32, .ref 33, .ref 34, .null, .null, .null, .null, .null])
def zm_83 : List gE := [zc_0_3, zc_1_9, zc_2_0, zc_3_0, zc_4_0, zc_5_2, zc_6_1, zc_7_0, zc_8_0, zc_9_3, zc_10_9, zc_11_0, zc_12_0, zc_13_0, zc_14_2, zc_15_1, zc_16_0, zc_17_0, zc_18_3, zc_19_9, zc_20_0, zc_21_0, zc_22_0, zc_23_2, zc_24_1, zc_25_0, zc_26_0, zc_27_3, zc_28_2, zc_29_0, zc_30_0, zc_31_4, zc_32_0, zc_33_0, zc_34_0]
def zc_35_0 : gE := .inl (.int, 6, .inl (fun _ => 0))
def zm_84 : List gE := [zc_0_3, zc_1_9, zc_2_0, zc_3_0, zc_4_0, zc_5_2, zc_6_1, zc_7_0, zc_8_0, zc_9_3, zc_10_9, zc_11_0, zc_12_0, zc_13_0, zc_14_2, zc_15_1, zc_16_0, zc_17_0, zc_18_3, zc_19_9, zc_20_0, zc_21_0, zc_22_0, zc_23_2, zc_24_1, zc_25_0, zc_26_0, zc_27_3, zc_28_2, zc_29_0, zc_30_0, zc_31_4, zc_32_0, zc_33_0, zc_34_0, zc_35_0]
def zf_19 : Nat → Int32 := upd (upd (upd (upd (fun _ => 0) 0 0) 1 1) 2 0) 3 60
def zc_35_1 : gE := .inl (.int, 6, .inl zf_19)
def zm_85 : List gE := [zc_0_3, zc_1_9, zc_2_0, zc_3_0, zc_4_0, zc_5_2, zc_6_1, zc_7_0, zc_8_0, zc_9_3, zc_10_9, zc_11_0, zc_12_0, zc_13_0, zc_14_2, zc_15_1, zc_16_0, zc_17_0, zc_18_3, zc_19_9, zc_20_0, zc_21_0, zc_22_0, zc_23_2, zc_24_1, zc_25_0, zc_26_0, zc_27_3, zc_28_2, zc_29_0, zc_30_0, zc_31_4, zc_32_0, zc_33_0, zc_34_0, zc_35_1]
def zc_31_5 : gE := .inr (0, [.int 0, .int 0, .int 0, .int 1, .int 0, .ref 32, .ref 33, .ref 34, .ref 35, .null, .null, .null, .null])
def zf_20 : Nat → Int32 := upd (upd zf_19 4 1) 5 20
def zc_35_2 : gE := .inl (.int, 6, .inl zf_20)
def zm_86 : List gE := [zc_0_3, zc_1_9, zc_2_0, zc_3_0, zc_4_0, zc_5_2, zc_6_1, zc_7_0, zc_8_0, zc_9_3, zc_10_9, zc_11_0, zc_12_0, zc_13_0, zc_14_2, zc_15_1, zc_16_0, zc_17_0, zc_18_3, zc_19_9, zc_20_0, zc_21_0, zc_22_0, zc_23_2, zc_24_1, zc_25_0, zc_26_0, zc_27_3, zc_28_2, zc_29_0, zc_30_0, zc_31_5, zc_32_0, zc_33_0, zc_34_0, zc_35_2]
def zc_36_0 : gE := .inl (.int, 4, .inl (fun _ => 0))
def zm_87 : List gE := [zc_0_3, zc_1_9, zc_2_0, zc_3_0, zc_4_0, zc_5_2, zc_6_1, zc_7_0, zc_8_0, zc_9_3, zc_10_9, zc_11_0, zc_12_0, zc_13_0, zc_14_2, zc_15_1, zc_16_0, zc_17_0, zc_18_3, zc_19_9, zc_20_0, zc_21_0, zc_22_0, zc_23_2, zc_24_1, zc_25_0, zc_26_0, zc_27_3, zc_28_2, zc_29_0, zc_30_0, zc_31_5, zc_32_0, zc_33_0, zc_34_0, zc_35_2, zc_36_0]
def zf_21 : Nat → Int32 := upd (upd (upd (upd (fun _ => 0) 0 1) 1 4) 2 30) 3 2
def zc_36_1 : gE := .inl (.int, 4, .inl zf_21)
def zm_88 : List gE := [zc_0_3, zc_1_9, zc_2_0, zc_3_0, zc_4_0, zc_5_2, zc_6_1, zc_7_0, zc_8_0, zc_9_3, zc_10_9, zc_11_0, zc_12_0, zc_13_0, zc_14_2, zc_15_1, zc_16_0, zc_17_0, zc_18_3, zc_19_9, zc_20_0, zc_21_0, zc_22_0, zc_23_2, zc_24_1, zc_25_0, zc_26_0, zc_27_3, zc_28_2, zc_29_0, zc_30_0, zc_31_5, zc_32_0, zc_33_0, zc_34_0, zc_35_2, zc_36_1]
def zc_31_6 : gE := .inr (0, [.int 0, .int 0, .int 0, .int 1, .int 0, .ref 32, .ref 33, .ref 34, .ref 35, .ref 36, .null, .null, .null])
def zm_89 : List gE := [zc_0_3, zc_1_9, zc_2_0, zc_3_0, zc_4_0, zc_5_2, zc_6_1, zc_7_0, zc_8_0, zc_9_3, zc_10_9, zc_11_0, zc_12_0, zc_13_0, zc_14_2, zc_15_1, zc_16_0, zc_17_0, zc_18_3, zc_19_9, zc_20_0, zc_21_0, zc_22_0, zc_23_2, zc_24_1, zc_25_0, zc_26_0, zc_27_3, zc_28_2, zc_29_0, zc_30_0, zc_31_6, zc_32_0, zc_33_0, zc_34_0, zc_35_2, zc_36_1]
def zc_37_0 : gE := .inl (.int, 61, .inl (fun _ => 0))
def zm_90 : List gE := [zc_0_3, zc_1_9, zc_2_0, zc_3_0, zc_4_0, zc_5_2, zc_6_1, zc_7_0, zc_8_0, zc_9_3, zc_10_9, zc_11_0, zc_12_0, zc_13_0, zc_14_2, zc_15_1, zc_16_0, zc_17_0, zc_18_3, zc_19_9, zc_20_0, zc_21_0, zc_22_0, zc_23_2, zc_24_1, zc_25_0, zc_26_0, zc_27_3, zc_28_2, zc_29_0, zc_30_0, zc_31_6, zc_32_0, zc_33_0, zc_34_0, zc_35_2, zc_36_1, zc_37_0]
def zc_31_7 : gE := .inr (0, [.int 0, .int 0, .int 0, .int 1, .int 0, .ref 32, .ref 33, .ref 34, .ref 35, .ref 36, .ref 37, .null, .null])
def zm_91 : List gE := [zc_0_3, zc_1_9, zc_2_0, zc_3_0, zc_4_0, zc_5_2, zc_6_1, zc_7_0, zc_8_0, zc_9_3, zc_10_9, zc_11_0, zc_12_0, zc_13_0, zc_14_2, zc_15_1, zc_16_0, zc_17_0, zc_18_3, zc_19_9, zc_20_0, zc_21_0, zc_22_0, zc_23_2, zc_24_1, zc_25_0, zc_26_0, zc_27_3, zc_28_2, zc_29_0, zc_30_0, zc_31_7, zc_32_0, zc_33_0, zc_34_0, zc_35_2, zc_36_1, zc_37_0]
def zc_38_0 : gE := .inl (.int, 24, .inl (fun _ => 0))
def zm_92 : List gE := [zc_0_3, zc_1_9, zc_2_0, zc_3_0, zc_4_0, zc_5_2, zc_6_1, zc_7_0, zc_8_0, zc_9_3, zc_10_9, zc_11_0, zc_12_0, zc_13_0, zc_14_2, zc_15_1, zc_16_0, zc_17_0, zc_18_3, zc_19_9, zc_20_0, zc_21_0, zc_22_0, zc_23_2, zc_24_1, zc_25_0, zc_26_0, zc_27_3, zc_28_2, zc_29_0, zc_30_0, zc_31_7, zc_32_0, zc_33_0, zc_34_0, zc_35_2, zc_36_1, zc_37_0, zc_38_0]
def zc_31_8 : gE := .inr (0, [.int 0, .int 0, .int 0, .int 1, .int 0, .ref 32, .ref 33, .ref 34, .ref 35, .ref 36, .ref 37, .ref 38, .null])
def zm_93 : List gE := [zc_0_3, zc_1_9, zc_2_0, zc_3_0, zc_4_0, zc_5_2, zc_6_1, zc_7_0, zc_8_0, zc_9_3, zc_10_9, zc_11_0, zc_12_0, zc_13_0, zc_14_2, zc_15_1, zc_16_0, zc_17_0, zc_18_3, zc_19_9, zc_20_0, zc_21_0, zc_22_0, zc_23_2, zc_24_1, zc_25_0, zc_26_0, zc_27_3, zc_28_2, zc_29_0, zc_30_0, zc_31_8, zc_32_0, zc_33_0, zc_34_0, zc_35_2, zc_36_1, zc_37_0, zc_38_0]
def zc_39_0 : gE := .inl (.int, 10, .inl (fun _ => 0))
def zm_94 : List gE := [zc_0_3, zc_1_9, zc_2_0, zc_3_0, zc_4_0, zc_5_2, zc_6_1, zc_7_0, zc_8_0, zc_9_3, zc_10_9, zc_11_0, zc_12_0, zc_13_0, zc_14_2, zc_15_1, zc_16_0, zc_17_0, zc_18_3, zc_19_9, zc_20_0, zc_21_0, zc_22_0, zc_23_2, zc_24_1, zc_25_0, zc_26_0, zc_27_3, zc_28_2, zc_29_0, zc_30_0, zc_31_8, zc_32_0, zc_33_0, zc_34_0, zc_35_2, zc_36_1, zc_37_0, zc_38_0, zc_39_0]
def zf_22 : Nat → Int32 := upd (upd (upd (upd (fun _ => 0) 0 (-1)) 1 (-1)) 2 (-1)) 3 (-1)
def zc_39_1 : gE := .inl (.int, 10, .inl zf_22)
def zm_95 : List gE := [zc_0_3, zc_1_9, zc_2_0, zc_3_0, zc_4_0, zc_5_2, zc_6_1, zc_7_0, zc_8_0, zc_9_3, zc_10_9, zc_11_0, zc_12_0, zc_13_0, zc_14_2, zc_15_1, zc_16_0, zc_17_0, zc_18_3, zc_19_9, zc_20_0, zc_21_0, zc_22_0, zc_23_2, zc_24_1, zc_25_0, zc_26_0, zc_27_3, zc_28_2, zc_29_0, zc_30_0, zc_31_8, zc_32_0, zc_33_0, zc_34_0, zc_35_2, zc_36_1, zc_37_0, zc_38_0, zc_39_1]
def zf_23 : Nat → Int32 := upd (upd (upd (upd zf_22 4 (-1)) 5 (-1)) 6 (-1)) 7 (-1)
def zc_39_2 : gE := .inl (.int, 10, .inl zf_23)
def zm_96 : List gE := [zc_0_3, zc_1_9, zc_2_0, zc_3_0, zc_4_0, zc_5_2, zc_6_1, zc_7_0, zc_8_0, zc_9_3, zc_10_9, zc_11_0, zc_12_0, zc_13_0, zc_14_2, zc_15_1, zc_16_0, zc_17_0, zc_18_3, zc_19_9, zc_20_0, zc_21_0, zc_22_0, zc_23_2, zc_24_1, zc_25_0, zc_26_0, zc_27_3, zc_28_2, zc_29_0, zc_30_0, zc_31_8, zc_32_0, zc_33_0, zc_34_0, zc_35_2, zc_36_1, zc_37_0, zc_38_0, zc_39_2]
def zc_31_9 : gE := .inr (0, [.int 0, .int 0, .int 0, .int 1, .int 0, .ref 32, .ref 33, .ref 34, .ref 35, .ref 36, .ref 37, .ref 38, .ref 39])
def zf_24 : Nat → Int32 := upd (upd zf_23 8 (-1)) 9 (-1)
def zc_39_3 : gE := .inl (.int, 10, .inl zf_24)
def zm_97 : List gE := [zc_0_3, zc_1_9, zc_2_0, zc_3_0, zc_4_0, zc_5_2, zc_6_1, zc_7_0, zc_8_0, zc_9_3, zc_10_9, zc_11_0, zc_12_0, zc_13_0, zc_14_2, zc_15_1, zc_16_0, zc_17_0, zc_18_3, zc_19_9, zc_20_0, zc_21_0, zc_22_0, zc_23_2, zc_24_1, zc_25_0, zc_26_0, zc_27_3, zc_28_2, zc_29_0, zc_30_0, zc_31_9, zc_32_0, zc_33_0, zc_34_0, zc_35_2, zc_36_1, zc_37_0, zc_38_0, zc_39_3]
def zc_28_3 : gE := .inr (2, [.ref 29, .ref 30, .ref 31, .null, .int 0, .int 0, .int 0])
def zm_98 : List gE := [zc_0_3, zc_1_9, zc_2_0, zc_3_0, zc_4_0, zc_5_2, zc_6_1, zc_7_0, zc_8_0, zc_9_3, zc_10_9, zc_11_0, zc_12_0, zc_13_0, zc_14_2, zc_15_1, zc_16_0, zc_17_0, zc_18_3, zc_19_9, zc_20_0, zc_21_0, zc_22_0, zc_23_2, zc_24_1, zc_25_0, zc_26_0, zc_27_3, zc_28_3, zc_29_0, zc_30_0, zc_31_9, zc_32_0, zc_33_0, zc_34_0, zc_35_2, zc_36_1, zc_37_0, zc_38_0, zc_39_3]
def zc_40_0 : gE := .inr (0, [.int 0, .int 0, .int 0, .int 0, .int 0, .null, .null, .null, .null, .null, .null, .null, .null])
def zm_99 : List gE := [zc_0_3, zc_1_9, zc_2_0, zc_3_0, zc_4_0, zc_5_2, zc_6_1, zc_7_0, zc_8_0, zc_9_3, zc_10_9, zc_11_0, zc_12_0, zc_13_0, zc_14_2, zc_15_1, zc_16_0, zc_17_0, zc_18_3, zc_19_9, zc_20_0, zc_21_0, zc_22_0, zc_23_2, zc_24_1, zc_25_0, zc_26_0, zc_27_3, zc_28_3, zc_29_0, zc_30_0, zc_31_9, zc_32_0, zc_33_0, zc_34_0, zc_35_2, zc_36_1, zc_37_0, zc_38_0, zc_39_3, zc_40_0]
def zc_40_1 : gE := .inr (0, [.int 0, .int 0, .int 0, .int 1, .int 0, .null, .null, .null, .null, .null, .null, .null, .null])
def zm_100 : List gE := [zc_0_3, zc_1_9, zc_2_0, zc_3_0, zc_4_0, zc_5_2, zc_6_1, zc_7_0, zc_8_0, zc_9_3, zc_10_9, zc_11_0, zc_12_0, zc_13_0, zc_14_2, zc_15_1, zc_16_0, zc_17_0, zc_18_3, zc_19_9, zc_20_0, zc_21_0, zc_22_0, zc_23_2, zc_24_1, zc_25_0, zc_26_0, zc_27_3, zc_28_3, zc_29_0, zc_30_0, zc_31_9, zc_32_0, zc_33_0, zc_34_0, zc_35_2, zc_36_1, zc_37_0, zc_38_0, zc_39_3, zc_40_1]
def zc_41_0 : gE := .inl (.int, 8, .inl (fun _ => 0))
def zm_101 : List gE := [zc_0_3, zc_1_9, zc_2_0, zc_3_0, zc_4_0, zc_5_2, zc_6_1, zc_7_0, zc_8_0, zc_9_3, zc_10_9, zc_11_0, zc_12_0, zc_13_0, zc_14_2, zc_15_1, zc_16_0, zc_17_0, zc_18_3, zc_19_9, zc_20_0, zc_21_0, zc_22_0, zc_23_2, zc_24_1, zc_25_0, zc_26_0, zc_27_3, zc_28_3, zc_29_0, zc_30_0, zc_31_9, zc_32_0, zc_33_0, zc_34_0, zc_35_2, zc_36_1, zc_37_0, zc_38_0, zc_39_3, zc_40_1, zc_41_0]
def zc_40_2 : gE := .inr (0, [.int 0, .int 0, .int 0, .int 1, .int 0, .ref 41, .null, .null, .null, .null, .null, .null, .null])
def zm_102 : List gE := [zc_0_3, zc_1_9, zc_2_0, zc_3_0, zc_4_0, zc_5_2, zc_6_1, zc_7_0, zc_8_0, zc_9_3, zc_10_9, zc_11_0, zc_12_0, zc_13_0, zc_14_2, zc_15_1, zc_16_0, zc_17_0, zc_18_3, zc_19_9, zc_20_0, zc_21_0, zc_22_0, zc_23_2, zc_24_1, zc_25_0, zc_26_0, zc_27_3, zc_28_3, zc_29_0, zc_30_0, zc_31_9, zc_32_0, zc_33_0, zc_34_0, zc_35_2, zc_36_1, zc_37_0, zc_38_0, zc_39_3, zc_40_2, zc_41_0]
def zc_42_0 : gE := .inl (.int, 8, .inl (fun _ => 0))
def zm_103 : List gE := [zc_0_3, zc_1_9, zc_2_0, zc_3_0, zc_4_0, zc_5_2, zc_6_1, zc_7_0, zc_8_0, zc_9_3, zc_10_9, zc_11_0, zc_12_0, zc_13_0, zc_14_2, zc_15_1, zc_16_0, zc_17_0, zc_18_3, zc_19_9, zc_20_0, zc_21_0, zc_22_0, zc_23_2, zc_24_1, zc_25_0, zc_26_0, zc_27_3, zc_28_3, zc_29_0, zc_30_0, zc_31_9, zc_32_0, zc_33_0, zc_34_0, zc_35_2, zc_36_1, zc_37_0, zc_38_0, zc_39_3, zc_40_2, zc_41_0, zc_42_0]
def zc_40_3 : gE := .inr (0, [.int 0, .int 0, .int 0, .int 1, .int 0, .ref 41, .ref 42, .null, .null, .null, .null, .null, .null])
def zm_104 : List gE := [zc_0_3, zc_1_9, zc_2_0, zc_3_0, zc_4_0, zc_5_2, zc_6_1, zc_7_0, zc_8_0, zc_9_3, zc_10_9, zc_11_0, zc_12_0, zc_13_0, zc_14_2, zc_15_1, zc_16_0, zc_17_0, zc_18_3, zc_19_9, zc_20_0, zc_21_0, zc_22_0, zc_23_2, zc_24_1, zc_25_0, zc_26_0, zc_27_3, zc_28_3, zc_29_0, zc_30_0, zc_31_9, zc_32_0, zc_33_0, zc_34_0, zc_35_2, zc_36_1, zc_37_0, zc_38_0, zc_39_3, zc_40_3, zc_41_0, zc_42_0]
def zc_43_0 : gE := .inl (.int, 8, .inl (fun _ => 0))
def zm_105 : List gE := [zc_0_3, zc_1_9, zc_2_0, zc_3_0, zc_4_0, zc_5_2, zc_6_1, zc_7_0, zc_8_0, zc_9_3, zc_10_9, zc_11_0, zc_12_0, zc_13_0, zc_14_2, zc_15_1, zc_16_0, zc_17_0, zc_18_3, zc_19_9, zc_20_0, zc_21_0, zc_22_0, zc_23_2, zc_24_1, zc_25_0, zc_26_0, zc_27_3, zc_28_3, zc_29_0, zc_30_0, zc_31_9, zc_32_0, zc_33_0, zc_34_0, zc_35_2, zc_36_1, zc_37_0, zc_38_0, zc_39_3, zc_40_3, zc_41_0, zc_42_0, zc_43_0]
def zc_40_4 : gE := .inr (0, [.int 0, .int 0, .int 0, .int 1, .int 0, .ref 41, .ref 42, .ref 43, .null, .null, .null, .null, .null])
def zm_106 : List gE := [zc_0_3, zc_1_9, zc_2_0, zc_3_0, zc_4_0, zc_5_2, zc_6_1, zc_7_0, zc_8_0, zc_9_3, zc_10_9, zc_11_0, zc_12_0, zc_13_0, zc_14_2, zc_15_1, zc_16_0, zc_17_0, zc_18_3, zc_19_9, zc_20_0, zc_21_0, zc_22_0, zc_23_2, zc_24_1, zc_25_0, zc_26_0, zc_27_3, zc_28_3, zc_29_0, zc_30_0, zc_31_9, zc_32_0, zc_33_0, zc_34_0, zc_35_2, zc_36_1, zc_37_0, zc_38_0, zc_39_3, zc_40_4, zc_41_0, zc_42_0, zc_43_0]
def zc_44_0 : gE := .inl (.int, 6, .inl (fun _ => 0))
def zm_107 : List gE := [zc_0_3, zc_1_9, zc_2_0, zc_3_0, zc_4_0, zc_5_2, zc_6_1, zc_7_0, zc_8_0, zc_9_3, zc_10_9, zc_11_0, zc_12_0, zc_13_0, zc_14_2, zc_15_1, zc_16_0, zc_17_0, zc_18_3, zc_19_9, zc_20_0, zc_21_0, zc_22_0, zc_23_2, zc_24_1, zc_25_0, zc_26_0, zc_27_3, zc_28_3, zc_29_0, zc_30_0, zc_31_9, zc_32_0, zc_33_0, zc_34_0, zc_35_2, zc_36_1, zc_37_0, zc_38_0, zc_39_3, zc_40_4, zc_41_0, zc_42_0, zc_43_0, zc_44_0]
def zf_25 : Nat → Int32 := upd (upd (upd (upd (fun _ => 0) 0 0) 1 1) 2 0) 3 60
def zc_44_1 : gE := .inl (.int, 6, .inl zf_25)
def zm_108 : List gE := [zc_0_3, zc_1_9, zc_2_0, zc_3_0, zc_4_0, zc_5_2, zc_6_1, zc_7_0, zc_8_0, zc_9_3, zc_10_9, zc_11_0, zc_12_0, zc_13_0, zc_14_2, zc_15_1, zc_16_0, zc_17_0, zc_18_3, zc_19_9, zc_20_0, zc_21_0, zc_22_0, zc_23_2, zc_24_1, zc_25_0, zc_26_0, zc_27_3, zc_28_3, zc_29_0, zc_30_0, zc_31_9, zc_32_0, zc_33_0, zc_34_0, zc_35_2, zc_36_1, zc_37_0, zc_38_0, zc_39_3, zc_40_4, zc_41_0, zc_42_0, zc_43_0, zc_44_1]
def zc_40_5 : gE := .inr (0, [.int 0, .int 0, .int 0, .int 1, .int 0, .ref 41, .ref 42, .ref 43, .ref 44, .null, .null, .null, .null])
def zf_26 : Nat → Int32 := upd (upd zf_25 4 1) 5 20
def zc_44_2 : gE := .inl (.int, 6, .inl zf_26)
def zm_109 : List gE := [zc_0_3, zc_1_9, zc_2_0, zc_3_0, zc_4_0, zc_5_2, zc_6_1, zc_7_0, zc_8_0, zc_9_3, zc_10_9, zc_11_0, zc_12_0, zc_13_0, zc_14_2, zc_15_1, zc_16_0, zc_17_0, zc_18_3, zc_19_9, zc_20_0, zc_21_0, zc_22_0, zc_23_2, zc_24_1, zc_25_0, zc_26_0, zc_27_3, zc_28_3, zc_29_0, zc_30_0, zc_31_9, zc_32_0, zc_33_0, zc_34_0, zc_35_2, zc_36_1, zc_37_0, zc_38_0, zc_39_3, zc_40_5, zc_41_0, zc_42_0, zc_43_0, zc_44_2]
def zc_45_0 : gE := .inl (.int, 4, .inl (fun _ => 0))
def zm_110 : List gE := [zc_0_3, zc_1_9, zc_2_0, zc_3_0, zc_4_0, zc_5_2, zc_6_1, zc_7_0, zc_8_0, zc_9_3, zc_10_9, zc_11_0, zc_12_0, zc_13_0, zc_14_2, zc_15_1, zc_16_0, zc_17_0, zc_18_3, zc_19_9, zc_20_0, zc_21_0, zc_22_0, zc_23_2, zc_24_1, zc_25_0, zc_26_0, zc_27_3, zc_28_3, zc_29_0, zc_30_0, zc_31_9, zc_32_0, zc_33_0, zc_34_0, zc_35_2, zc_36_1, zc_37_0, zc_38_0, zc_39_3, zc_40_5, zc_41_0, zc_42_0, zc_43_0, zc_44_2, zc_45_0]
def zf_27 : Nat → Int32 := upd (upd (upd (upd (fun _ => 0) 0 1) 1 4) 2 30) 3 2
def zc_45_1 : gE := .inl (.int, 4, .inl zf_27)
def zm_111 : List gE := [zc_0_3, zc_1_9, zc_2_0, zc_3_0, zc_4_0, zc_5_2, zc_6_1, zc_7_0, zc_8_0, zc_9_3, zc_10_9, zc_11_0, zc_12_0, zc_13_0, zc_14_2, zc_15_1, zc_16_0, zc_17_0, zc_18_3, zc_19_9, zc_20_0, zc_21_0, zc_22_0, zc_23_2, zc_24_1, zc_25_0, zc_26_0, zc_27_3, zc_28_3, zc_29_0, zc_30_0, zc_31_9, zc_32_0, zc_33_0, zc_34_0, zc_35_2, zc_36_1, zc_37_0, zc_38_0, zc_39_3, zc_40_5, zc_41_0, zc_42_0, zc_43_0, zc_44_2, zc_45_1]
def zc_40_6 : gE := .inr (0, [.int 0, .int 0, .int 0, .int 1, .int 0, .ref 41, .ref 42, .ref 43, .ref 44, .ref 45, .null, .null, .null])
def zm_112 : List gE := [zc_0_3, zc_1_9, zc_2_0, zc_3_0, zc_4_0, zc_5_2, zc_6_1, zc_7_0, zc_8_0, zc_9_3, zc_10_9, zc_11_0, zc_12_0, zc_13_0, zc_14_2, zc_15_1, zc_16_0, zc_17_0, zc_18_3, zc_19_9, zc_20_0, zc_21_0, zc_22_0, zc_23_2, zc_24_1, zc_25_0, zc_26_0, zc_27_3, zc_28_3, zc_29_0, zc_30_0, zc_31_9, zc_32_0, zc_33_0, zc_34_0, zc_35_2, zc_36_1, zc_37_0, zc_38_0, zc_39_3, zc_40_6, zc_41_0, zc_42_0, zc_43_0, zc_44_2, zc_45_1]
def zc_46_0 : gE := .inl (.int, 61, .inl (fun _ => 0))
def zm_113 : List gE := [zc_0_3, zc_1_9, zc_2_0, zc_3_0, zc_4_0, zc_5_2, zc_6_1, zc_7_0, zc_8_0, zc_9_3, zc_10_9, zc_11_0, zc_12_0, zc_13_0, zc_14_2, zc_15_1, zc_16_0, zc_17_0, zc_18_3, zc_19_9, zc_20_0, zc_21_0, zc_22_0, zc_23_2, zc_24_1, zc_25_0, zc_26_0, zc_27_3, zc_28_3, zc_29_0, zc_30_0, zc_31_9, zc_32_0, zc_33_0, zc_34_0, zc_35_2, zc_36_1, zc_37_0, zc_38_0, zc_39_3, zc_40_6, zc_41_0, zc_42_0, zc_43_0, zc_44_2, zc_45_1, zc_46_0]
def zc_40_7 : gE := .inr (0, [.int 0, .int 0, .int 0, .int 1, .int 0, .ref 41, .ref 42, .ref 43, .ref 44, .ref 45, .ref 46, .null, .null])
def zm_114 : List gE := [zc_0_3, zc_1_9, zc_2_0, zc_3_0, zc_4_0, zc_5_2, zc_6_1, zc_7_0, zc_8_0, zc_9_3, zc_10_9, zc_11_0, zc_12_0, zc_13_0, zc_14_2, zc_15_1, zc_16_0, zc_17_0, zc_18_3, zc_19_9, zc_20_0, zc_21_0, zc_22_0, zc_23_2, zc_24_1, zc_25_0, zc_26_0, zc_27_3, zc_28_3, zc_29_0, zc_30_0, zc_31_9, zc_32_0, zc_33_0, zc_34_0, zc_35_2, zc_36_1, zc_37_0, zc_38_0, zc_39_3, zc_40_7, zc_41_0, zc_42_0, zc_43_0, zc_44_2, zc_45_1, zc_46_0]
def zc_47_0 : gE := .inl (.int, 24, .inl (fun _ => 0))
def zm_115 : List gE := [zc_0_3, zc_1_9, zc_2_0, zc_3_0, zc_4_0, zc_5_2, zc_6_1, zc_7_0, zc_8_0, zc_9_3, zc_10_9, zc_11_0, zc_12_0, zc_13_0, zc_14_2, zc_15_1, zc_16_0, zc_17_0, zc_18_3, zc_19_9, zc_20_0, zc_21_0, zc_22_0, zc_23_2, zc_24_1, zc_25_0, zc_26_0, zc_27_3, zc_28_3, zc_29_0, zc_30_0, zc_31_9, zc_32_0, zc_33_0, zc_34_0, zc_35_2, zc_36_1, zc_37_0, zc_38_0, zc_39_3, zc_40_7, zc_41_0, zc_42_0, zc_43_0, zc_44_2, zc_45_1, zc_46_0, zc_47_0]
def zc_40_8 : gE := .inr (0, [.int 0, .int 0, .int 0, .int 1, .int 0, .ref 41, .ref 42, .ref 43, .ref 44, .ref 45, .ref 46, .ref 47, .null])
def zm_116 : List gE := [zc_0_3, zc_1_9, zc_2_0, zc_3_0, zc_4_0, zc_5_2, zc_6_1, zc_7_0, zc_8_0, zc_9_3, zc_10_9, zc_11_0, zc_12_0, zc_13_0, zc_14_2, zc_15_1, zc_16_0, zc_17_0, zc_18_3, zc_19_9, zc_20_0, zc_21_0, zc_22_0, zc_23_2, zc_24_1, zc_25_0, zc_26_0, zc_27_3, zc_28_3, zc_29_0, zc_30_0, zc_31_9, zc_32_0, zc_33_0, zc_34_0, zc_35_2, zc_36_1, zc_37_0, zc_38_0, zc_39_3, zc_40_8, zc_41_0, zc_42_0, zc_43_0, zc_44_2, zc_45_1, zc_46_0, zc_47_0]
def zc_48_0 : gE := .inl (.int, 10, .inl (fun _ => 0))
def zm_117 : List gE := [zc_0_3, zc_1_9, zc_2_0, zc_3_0, zc_4_0, zc_5_2, zc_6_1, zc_7_0, zc_8_0, zc_9_3, zc_10_9, zc_11_0, zc_12_0, zc_13_0, zc_14_2, zc_15_1, zc_16_0, zc_17_0, zc_18_3, zc_19_9, zc_20_0, zc_21_0, zc_22_0, zc_23_2, zc_24_1, zc_25_0, zc_26_0, zc_27_3, zc_28_3, zc_29_0, zc_30_0, zc_31_9, zc_32_0, zc_33_0, zc_34_0, zc_35_2, zc_36_1, zc_37_0, zc_38_0, zc_39_3, zc_40_8, zc_41_0, zc_42_0, zc_43_0, zc_44_2, zc_45_1, zc_46_0, zc_47_0, zc_48_0]
def zf_28 : Nat → Int32 := upd (upd (upd (upd (fun _ => 0) 0 (-1)) 1 (-1)) 2 (-1)) 3 (-1)
def zc_48_1 : gE := .inl (.int, 10, .inl zf_28)
def zm_118 : List gE := [zc_0_3, zc_1_9, zc_2_0, zc_3_0, zc_4_0, zc_5_2, zc_6_1, zc_7_0, zc_8_0, zc_9_3, zc_10_9, zc_11_0, zc_12_0, zc_13_0, zc_14_2, zc_15_1, zc_16_0, zc_17_0, zc_18_3, zc_19_9, zc_20_0, zc_21_0, zc_22_0, zc_23_2, zc_24_1, zc_25_0, zc_26_0, zc_27_3, zc_28_3, zc_29_0, zc_30_0, zc_31_9, zc_32_0, zc_33_0, zc_34_0, zc_35_2, zc_36_1, zc_37_0, zc_38_0, zc_39_3, zc_40_8, zc_41_0, zc_42_0, zc_43_0, zc_44_2, zc_45_1, zc_46_0, zc_47_0, zc_48_1]
def zf_29 : Nat → Int32 := upd (upd (upd (upd zf_28 4 (-1)) 5 (-1)) 6 (-1)) 7 (-1)
def zc_48_2 : gE := .inl (.int, 10, .inl zf_29)
def zm_119 : List gE := [zc_0_3, zc_1_9, zc_2_0, zc_3_0, zc_4_0, zc_5_2, zc_6_1, zc_7_0, zc_8_0, zc_9_3, zc_10_9, zc_11_0, zc_12_0, zc_13_0, zc_14_2, zc_15_1, zc_16_0, zc_17_0, zc_18_3, zc_19_9, zc_20_0, zc_21_0, zc_22_0, zc_23_2, zc_24_1, zc_25_0, zc_26_0, zc_27_3, zc_28_3, zc_29_0, zc_30_0, zc_31_9, zc_32_0, zc_33_0, zc_34_0, zc_35_2, zc_36_1, zc_37_0, zc_38_0, zc_39_3, zc_40_8, zc_41_0, zc_42_0, zc_43_0, zc_44_2, zc_45_1, zc_46_0, zc_47_0, zc_48_2]
def zc_40_9 : gE := .inr (0, [.int 0, .int 0, .int 0, .int 1, .int 0, .ref 41, .ref 42, .ref 43, .ref 44, .ref 45, .ref 46, .ref 47, .ref 48])
def zf_30 : Nat → Int32 := upd (upd zf_29 8 (-1)) 9 (-1)
def zc_48_3 : gE := .inl (.int, 10, .inl zf_30)
def zm_120 : List gE := [zc_0_3, zc_1_9, zc_2_0, zc_3_0, zc_4_0, zc_5_2, zc_6_1, zc_7_0, zc_8_0, zc_9_3, zc_10_9, zc_11_0, zc_12_0, zc_13_0, zc_14_2, zc_15_1, zc_16_0, zc_17_0, zc_18_3, zc_19_9, zc_20_0, zc_21_0, zc_22_0, zc_23_2, zc_24_1, zc_25_0, zc_26_0, zc_27_3, zc_28_3, zc_29_0, zc_30_0, zc_31_9, zc_32_0, zc_33_0, zc_34_0, zc_35_2, zc_36_1, zc_37_0, zc_38_0, zc_39_3, zc_40_9, zc_41_0, zc_42_0, zc_43_0, zc_44_2, zc_45_1, zc_46_0, zc_47_0, zc_48_3]
def zc_28_4 : gE := .inr (2, [.ref 29, .ref 30, .ref 31, .ref 40, .int 0, .int 0, .int 0])
def zm_121 : List gE := [zc_0_3, zc_1_9, zc_2_0, zc_3_0, zc_4_0, zc_5_2, zc_6_1, zc_7_0, zc_8_0, zc_9_3, zc_10_9, zc_11_0, zc_12_0, zc_13_0, zc_14_2, zc_15_1, zc_16_0, zc_17_0, zc_18_3, zc_19_9, zc_20_0, zc_21_0, zc_22_0, zc_23_2, zc_24_1, zc_25_0, zc_26_0, zc_27_3, zc_28_4, zc_29_0, zc_30_0, zc_31_9, zc_32_0, zc_33_0, zc_34_0, zc_35_2, zc_36_1, zc_37_0, zc_38_0, zc_39_3, zc_40_9, zc_41_0, zc_42_0, zc_43_0, zc_44_2, zc_45_1, zc_46_0, zc_47_0, zc_48_3]
def zc_0_4 : gE := .inr (5, [.ref 1, .ref 10, .ref 19, .int 0, .ref 28, .null, .null, .null, .null])
def zm_122 : List gE := [zc_0_4, zc_1_9, zc_2_0, zc_3_0, zc_4_0, zc_5_2, zc_6_1, zc_7_0, zc_8_0, zc_9_3, zc_10_9, zc_11_0, zc_12_0, zc_13_0, zc_14_2, zc_15_1, zc_16_0, zc_17_0, zc_18_3, zc_19_9, zc_20_0, zc_21_0, zc_22_0, zc_23_2, zc_24_1, zc_25_0, zc_26_0, zc_27_3, zc_28_4, zc_29_0, zc_30_0, zc_31_9, zc_32_0, zc_33_0, zc_34_0, zc_35_2, zc_36_1, zc_37_0, zc_38_0, zc_39_3, zc_40_9, zc_41_0, zc_42_0, zc_43_0, zc_44_2, zc_45_1, zc_46_0, zc_47_0, zc_48_3]
def zc_49_0 : gE := .inr (4, [.null, .int 0])
def zm_123 : List gE := [zc_0_4, zc_1_9, zc_2_0, zc_3_0, zc_4_0, zc_5_2, zc_6_1, zc_7_0, zc_8_0, zc_9_3, zc_10_9, zc_11_0, zc_12_0, zc_13_0, zc_14_2, zc_15_1, zc_16_0, zc_17_0, zc_18_3, zc_19_9, zc_20_0, zc_21_0, zc_22_0, zc_23_2, zc_24_1, zc_25_0, zc_26_0, zc_27_3, zc_28_4, zc_29_0, zc_30_0, zc_31_9, zc_32_0, zc_33_0, zc_34_0, zc_35_2, zc_36_1, zc_37_0, zc_38_0, zc_39_3, zc_40_9, zc_41_0, zc_42_0, zc_43_0, zc_44_2, zc_45_1, zc_46_0, zc_47_0, zc_48_3, zc_49_0]
def zc_50_0 : gE := .inl (.byte, 120, .inl (fun _ => 0))
def zm_124 : List gE := [zc_0_4, zc_1_9, zc_2_0, zc_3_0, zc_4_0, zc_5_2, zc_6_1, zc_7_0, zc_8_0, zc_9_3, zc_10_9, zc_11_0, zc_12_0, zc_13_0, zc_14_2, zc_15_1, zc_16_0, zc_17_0, zc_18_3, zc_19_9, zc_20_0, zc_21_0, zc_22_0, zc_23_2, zc_24_1, zc_25_0, zc_26_0, zc_27_3, zc_28_4, zc_29_0, zc_30_0, zc_31_9, zc_32_0, zc_33_0, zc_34_0, zc_35_2, zc_36_1, zc_37_0, zc_38_0, zc_39_3, zc_40_9, zc_41_0, zc_42_0, zc_43_0, zc_44_2, zc_45_1, zc_46_0, zc_47_0, zc_48_3, zc_49_0, zc_50_0]
def zc_49_1 : gE := .inr (4, [.ref 50, .int 0])
def zm_125 : List gE := [zc_0_4, zc_1_9, zc_2_0, zc_3_0, zc_4_0, zc_5_2, zc_6_1, zc_7_0, zc_8_0, zc_9_3, zc_10_9, zc_11_0, zc_12_0, zc_13_0, zc_14_2, zc_15_1, zc_16_0, zc_17_0, zc_18_3, zc_19_9, zc_20_0, zc_21_0, zc_22_0, zc_23_2, zc_24_1, zc_25_0, zc_26_0, zc_27_3, zc_28_4, zc_29_0, zc_30_0, zc_31_9, zc_32_0, zc_33_0, zc_34_0, zc_35_2, zc_36_1, zc_37_0, zc_38_0, zc_39_3, zc_40_9, zc_41_0, zc_42_0, zc_43_0, zc_44_2, zc_45_1, zc_46_0, zc_47_0, zc_48_3, zc_49_1, zc_50_0]
def zc_0_5 : gE := .inr (5, [.ref 1, .ref 10, .ref 19, .int 0, .ref 28, .ref 49, .null, .null, .null])
def zm_126 : List gE := [zc_0_5, zc_1_9, zc_2_0, zc_3_0, zc_4_0, zc_5_2, zc_6_1, zc_7_0, zc_8_0, zc_9_3, zc_10_9, zc_11_0, zc_12_0, zc_13_0, zc_14_2, zc_15_1, zc_16_0, zc_17_0, zc_18_3, zc_19_9, zc_20_0, zc_21_0, zc_22_0, zc_23_2, zc_24_1, zc_25_0, zc_26_0, zc_27_3, zc_28_4, zc_29_0, zc_30_0, zc_31_9, zc_32_0, zc_33_0, zc_34_0, zc_35_2, zc_36_1, zc_37_0, zc_38_0, zc_39_3, zc_40_9, zc_41_0, zc_42_0, zc_43_0, zc_44_2, zc_45_1, zc_46_0, zc_47_0, zc_48_3, zc_49_1, zc_50_0]
def zc_51_0 : gE := .inr (1, [.null, .int 0, .int 0, .int 0, .int 0, .int 0, .int 0])
def zm_127 : List gE := [zc_0_5, zc_1_9, zc_2_0, zc_3_0, zc_4_0, zc_5_2, zc_6_1, zc_7_0, zc_8_0, zc_9_3, zc_10_9, zc_11_0, zc_12_0, zc_13_0, zc_14_2, zc_15_1, zc_16_0, zc_17_0, zc_18_3, zc_19_9, zc_20_0, zc_21_0, zc_22_0, zc_23_2, zc_24_1, zc_25_0, zc_26_0, zc_27_3, zc_28_4, zc_29_0, zc_30_0, zc_31_9, zc_32_0, zc_33_0, zc_34_0, zc_35_2, zc_36_1, zc_37_0, zc_38_0, zc_39_3, zc_40_9, zc_41_0, zc_42_0, zc_43_0, zc_44_2, zc_45_1, zc_46_0, zc_47_0, zc_48_3, zc_49_1, zc_50_0, zc_51_0]
def zc_52_0 : gE := .inl (.byte, 0, .inl (fun _ => 0))
def zm_128 : List gE := [zc_0_5, zc_1_9, zc_2_0, zc_3_0, zc_4_0, zc_5_2, zc_6_1, zc_7_0, zc_8_0, zc_9_3, zc_10_9, zc_11_0, zc_12_0, zc_13_0, zc_14_2, zc_15_1, zc_16_0, zc_17_0, zc_18_3, zc_19_9, zc_20_0, zc_21_0, zc_22_0, zc_23_2, zc_24_1, zc_25_0, zc_26_0, zc_27_3, zc_28_4, zc_29_0, zc_30_0, zc_31_9, zc_32_0, zc_33_0, zc_34_0, zc_35_2, zc_36_1, zc_37_0, zc_38_0, zc_39_3, zc_40_9, zc_41_0, zc_42_0, zc_43_0, zc_44_2, zc_45_1, zc_46_0, zc_47_0, zc_48_3, zc_49_1, zc_50_0, zc_51_0, zc_52_0]
def zc_51_1 : gE := .inr (1, [.ref 52, .int 0, .int 0, .int 0, .int 0, .int 0, .int 0])
def zm_129 : List gE := [zc_0_5, zc_1_9, zc_2_0, zc_3_0, zc_4_0, zc_5_2, zc_6_1, zc_7_0, zc_8_0, zc_9_3, zc_10_9, zc_11_0, zc_12_0, zc_13_0, zc_14_2, zc_15_1, zc_16_0, zc_17_0, zc_18_3, zc_19_9, zc_20_0, zc_21_0, zc_22_0, zc_23_2, zc_24_1, zc_25_0, zc_26_0, zc_27_3, zc_28_4, zc_29_0, zc_30_0, zc_31_9, zc_32_0, zc_33_0, zc_34_0, zc_35_2, zc_36_1, zc_37_0, zc_38_0, zc_39_3, zc_40_9, zc_41_0, zc_42_0, zc_43_0, zc_44_2, zc_45_1, zc_46_0, zc_47_0, zc_48_3, zc_49_1, zc_50_0, zc_51_1, zc_52_0]
def zc_51_2 : gE := .inr (1, [.ref 52, .int 0, .int 0, .int 0, .int 0, .int 0, .int (-1)])
def zm_130 : List gE := [zc_0_5, zc_1_9, zc_2_0, zc_3_0, zc_4_0, zc_5_2, zc_6_1, zc_7_0, zc_8_0, zc_9_3, zc_10_9, zc_11_0, zc_12_0, zc_13_0, zc_14_2, zc_15_1, zc_16_0, zc_17_0, zc_18_3, zc_19_9, zc_20_0, zc_21_0, zc_22_0, zc_23_2, zc_24_1, zc_25_0, zc_26_0, zc_27_3, zc_28_4, zc_29_0, zc_30_0, zc_31_9, zc_32_0, zc_33_0, zc_34_0, zc_35_2, zc_36_1, zc_37_0, zc_38_0, zc_39_3, zc_40_9, zc_41_0, zc_42_0, zc_43_0, zc_44_2, zc_45_1, zc_46_0, zc_47_0, zc_48_3, zc_49_1, zc_50_0, zc_51_2, zc_52_0]
def zc_0_6 : gE := .inr (5, [.ref 1, .ref 10, .ref 19, .int 0, .ref 28, .ref 49, .ref 51, .null, .null])
def zm_131 : List gE := [zc_0_6, zc_1_9, zc_2_0, zc_3_0, zc_4_0, zc_5_2, zc_6_1, zc_7_0, zc_8_0, zc_9_3, zc_10_9, zc_11_0, zc_12_0, zc_13_0, zc_14_2, zc_15_1, zc_16_0, zc_17_0, zc_18_3, zc_19_9, zc_20_0, zc_21_0, zc_22_0, zc_23_2, zc_24_1, zc_25_0, zc_26_0, zc_27_3, zc_28_4, zc_29_0, zc_30_0, zc_31_9, zc_32_0, zc_33_0, zc_34_0, zc_35_2, zc_36_1, zc_37_0, zc_38_0, zc_39_3, zc_40_9, zc_41_0, zc_42_0, zc_43_0, zc_44_2, zc_45_1, zc_46_0, zc_47_0, zc_48_3, zc_49_1, zc_50_0, zc_51_2, zc_52_0]
def zc_53_0 : gE := .inl (.object "UpOneSide$Sheet", 4, .inr (.inr (.inr (.inr (fun _ => none)))))
def zm_132 : List gE := [zc_0_6, zc_1_9, zc_2_0, zc_3_0, zc_4_0, zc_5_2, zc_6_1, zc_7_0, zc_8_0, zc_9_3, zc_10_9, zc_11_0, zc_12_0, zc_13_0, zc_14_2, zc_15_1, zc_16_0, zc_17_0, zc_18_3, zc_19_9, zc_20_0, zc_21_0, zc_22_0, zc_23_2, zc_24_1, zc_25_0, zc_26_0, zc_27_3, zc_28_4, zc_29_0, zc_30_0, zc_31_9, zc_32_0, zc_33_0, zc_34_0, zc_35_2, zc_36_1, zc_37_0, zc_38_0, zc_39_3, zc_40_9, zc_41_0, zc_42_0, zc_43_0, zc_44_2, zc_45_1, zc_46_0, zc_47_0, zc_48_3, zc_49_1, zc_50_0, zc_51_2, zc_52_0, zc_53_0]
def zc_0_7 : gE := .inr (5, [.ref 1, .ref 10, .ref 19, .int 0, .ref 28, .ref 49, .ref 51, .ref 53, .null])
def zm_133 : List gE := [zc_0_7, zc_1_9, zc_2_0, zc_3_0, zc_4_0, zc_5_2, zc_6_1, zc_7_0, zc_8_0, zc_9_3, zc_10_9, zc_11_0, zc_12_0, zc_13_0, zc_14_2, zc_15_1, zc_16_0, zc_17_0, zc_18_3, zc_19_9, zc_20_0, zc_21_0, zc_22_0, zc_23_2, zc_24_1, zc_25_0, zc_26_0, zc_27_3, zc_28_4, zc_29_0, zc_30_0, zc_31_9, zc_32_0, zc_33_0, zc_34_0, zc_35_2, zc_36_1, zc_37_0, zc_38_0, zc_39_3, zc_40_9, zc_41_0, zc_42_0, zc_43_0, zc_44_2, zc_45_1, zc_46_0, zc_47_0, zc_48_3, zc_49_1, zc_50_0, zc_51_2, zc_52_0, zc_53_0]
def zc_54_0 : gE := .inl (.int, 7, .inl (fun _ => 0))
def zm_134 : List gE := [zc_0_7, zc_1_9, zc_2_0, zc_3_0, zc_4_0, zc_5_2, zc_6_1, zc_7_0, zc_8_0, zc_9_3, zc_10_9, zc_11_0, zc_12_0, zc_13_0, zc_14_2, zc_15_1, zc_16_0, zc_17_0, zc_18_3, zc_19_9, zc_20_0, zc_21_0, zc_22_0, zc_23_2, zc_24_1, zc_25_0, zc_26_0, zc_27_3, zc_28_4, zc_29_0, zc_30_0, zc_31_9, zc_32_0, zc_33_0, zc_34_0, zc_35_2, zc_36_1, zc_37_0, zc_38_0, zc_39_3, zc_40_9, zc_41_0, zc_42_0, zc_43_0, zc_44_2, zc_45_1, zc_46_0, zc_47_0, zc_48_3, zc_49_1, zc_50_0, zc_51_2, zc_52_0, zc_53_0, zc_54_0]
def zc_0_8 : gE := .inr (5, [.ref 1, .ref 10, .ref 19, .int 0, .ref 28, .ref 49, .ref 51, .ref 53, .ref 54])
def zm_135 : List gE := [zc_0_8, zc_1_9, zc_2_0, zc_3_0, zc_4_0, zc_5_2, zc_6_1, zc_7_0, zc_8_0, zc_9_3, zc_10_9, zc_11_0, zc_12_0, zc_13_0, zc_14_2, zc_15_1, zc_16_0, zc_17_0, zc_18_3, zc_19_9, zc_20_0, zc_21_0, zc_22_0, zc_23_2, zc_24_1, zc_25_0, zc_26_0, zc_27_3, zc_28_4, zc_29_0, zc_30_0, zc_31_9, zc_32_0, zc_33_0, zc_34_0, zc_35_2, zc_36_1, zc_37_0, zc_38_0, zc_39_3, zc_40_9, zc_41_0, zc_42_0, zc_43_0, zc_44_2, zc_45_1, zc_46_0, zc_47_0, zc_48_3, zc_49_1, zc_50_0, zc_51_2, zc_52_0, zc_53_0, zc_54_0]
def zc_55_0 : gE := .inr (3, [.null, .int 0, .int 0])
def zm_136 : List gE := [zc_0_8, zc_1_9, zc_2_0, zc_3_0, zc_4_0, zc_5_2, zc_6_1, zc_7_0, zc_8_0, zc_9_3, zc_10_9, zc_11_0, zc_12_0, zc_13_0, zc_14_2, zc_15_1, zc_16_0, zc_17_0, zc_18_3, zc_19_9, zc_20_0, zc_21_0, zc_22_0, zc_23_2, zc_24_1, zc_25_0, zc_26_0, zc_27_3, zc_28_4, zc_29_0, zc_30_0, zc_31_9, zc_32_0, zc_33_0, zc_34_0, zc_35_2, zc_36_1, zc_37_0, zc_38_0, zc_39_3, zc_40_9, zc_41_0, zc_42_0, zc_43_0, zc_44_2, zc_45_1, zc_46_0, zc_47_0, zc_48_3, zc_49_1, zc_50_0, zc_51_2, zc_52_0, zc_53_0, zc_54_0, zc_55_0]
def zc_56_0 : gE := .inl (.int, 40, .inl (fun _ => 0))
def zm_137 : List gE := [zc_0_8, zc_1_9, zc_2_0, zc_3_0, zc_4_0, zc_5_2, zc_6_1, zc_7_0, zc_8_0, zc_9_3, zc_10_9, zc_11_0, zc_12_0, zc_13_0, zc_14_2, zc_15_1, zc_16_0, zc_17_0, zc_18_3, zc_19_9, zc_20_0, zc_21_0, zc_22_0, zc_23_2, zc_24_1, zc_25_0, zc_26_0, zc_27_3, zc_28_4, zc_29_0, zc_30_0, zc_31_9, zc_32_0, zc_33_0, zc_34_0, zc_35_2, zc_36_1, zc_37_0, zc_38_0, zc_39_3, zc_40_9, zc_41_0, zc_42_0, zc_43_0, zc_44_2, zc_45_1, zc_46_0, zc_47_0, zc_48_3, zc_49_1, zc_50_0, zc_51_2, zc_52_0, zc_53_0, zc_54_0, zc_55_0, zc_56_0]
def zc_55_1 : gE := .inr (3, [.ref 56, .int 0, .int 0])
def zm_138 : List gE := [zc_0_8, zc_1_9, zc_2_0, zc_3_0, zc_4_0, zc_5_2, zc_6_1, zc_7_0, zc_8_0, zc_9_3, zc_10_9, zc_11_0, zc_12_0, zc_13_0, zc_14_2, zc_15_1, zc_16_0, zc_17_0, zc_18_3, zc_19_9, zc_20_0, zc_21_0, zc_22_0, zc_23_2, zc_24_1, zc_25_0, zc_26_0, zc_27_3, zc_28_4, zc_29_0, zc_30_0, zc_31_9, zc_32_0, zc_33_0, zc_34_0, zc_35_2, zc_36_1, zc_37_0, zc_38_0, zc_39_3, zc_40_9, zc_41_0, zc_42_0, zc_43_0, zc_44_2, zc_45_1, zc_46_0, zc_47_0, zc_48_3, zc_49_1, zc_50_0, zc_51_2, zc_52_0, zc_53_0, zc_54_0, zc_55_1, zc_56_0]
def zc_53_1 : gE := .inl (.object "UpOneSide$Sheet", 4, .inr (.inr (.inr (.inr (va_up (fun _ => none) 0 (some 55))))))
def zm_139 : List gE := [zc_0_8, zc_1_9, zc_2_0, zc_3_0, zc_4_0, zc_5_2, zc_6_1, zc_7_0, zc_8_0, zc_9_3, zc_10_9, zc_11_0, zc_12_0, zc_13_0, zc_14_2, zc_15_1, zc_16_0, zc_17_0, zc_18_3, zc_19_9, zc_20_0, zc_21_0, zc_22_0, zc_23_2, zc_24_1, zc_25_0, zc_26_0, zc_27_3, zc_28_4, zc_29_0, zc_30_0, zc_31_9, zc_32_0, zc_33_0, zc_34_0, zc_35_2, zc_36_1, zc_37_0, zc_38_0, zc_39_3, zc_40_9, zc_41_0, zc_42_0, zc_43_0, zc_44_2, zc_45_1, zc_46_0, zc_47_0, zc_48_3, zc_49_1, zc_50_0, zc_51_2, zc_52_0, zc_53_1, zc_54_0, zc_55_1, zc_56_0]
def zc_57_0 : gE := .inr (3, [.null, .int 0, .int 0])
def zm_140 : List gE := [zc_0_8, zc_1_9, zc_2_0, zc_3_0, zc_4_0, zc_5_2, zc_6_1, zc_7_0, zc_8_0, zc_9_3, zc_10_9, zc_11_0, zc_12_0, zc_13_0, zc_14_2, zc_15_1, zc_16_0, zc_17_0, zc_18_3, zc_19_9, zc_20_0, zc_21_0, zc_22_0, zc_23_2, zc_24_1, zc_25_0, zc_26_0, zc_27_3, zc_28_4, zc_29_0, zc_30_0, zc_31_9, zc_32_0, zc_33_0, zc_34_0, zc_35_2, zc_36_1, zc_37_0, zc_38_0, zc_39_3, zc_40_9, zc_41_0, zc_42_0, zc_43_0, zc_44_2, zc_45_1, zc_46_0, zc_47_0, zc_48_3, zc_49_1, zc_50_0, zc_51_2, zc_52_0, zc_53_1, zc_54_0, zc_55_1, zc_56_0, zc_57_0]
def zc_58_0 : gE := .inl (.int, 40, .inl (fun _ => 0))
def zm_141 : List gE := [zc_0_8, zc_1_9, zc_2_0, zc_3_0, zc_4_0, zc_5_2, zc_6_1, zc_7_0, zc_8_0, zc_9_3, zc_10_9, zc_11_0, zc_12_0, zc_13_0, zc_14_2, zc_15_1, zc_16_0, zc_17_0, zc_18_3, zc_19_9, zc_20_0, zc_21_0, zc_22_0, zc_23_2, zc_24_1, zc_25_0, zc_26_0, zc_27_3, zc_28_4, zc_29_0, zc_30_0, zc_31_9, zc_32_0, zc_33_0, zc_34_0, zc_35_2, zc_36_1, zc_37_0, zc_38_0, zc_39_3, zc_40_9, zc_41_0, zc_42_0, zc_43_0, zc_44_2, zc_45_1, zc_46_0, zc_47_0, zc_48_3, zc_49_1, zc_50_0, zc_51_2, zc_52_0, zc_53_1, zc_54_0, zc_55_1, zc_56_0, zc_57_0, zc_58_0]
def zc_57_1 : gE := .inr (3, [.ref 58, .int 0, .int 0])
def zm_142 : List gE := [zc_0_8, zc_1_9, zc_2_0, zc_3_0, zc_4_0, zc_5_2, zc_6_1, zc_7_0, zc_8_0, zc_9_3, zc_10_9, zc_11_0, zc_12_0, zc_13_0, zc_14_2, zc_15_1, zc_16_0, zc_17_0, zc_18_3, zc_19_9, zc_20_0, zc_21_0, zc_22_0, zc_23_2, zc_24_1, zc_25_0, zc_26_0, zc_27_3, zc_28_4, zc_29_0, zc_30_0, zc_31_9, zc_32_0, zc_33_0, zc_34_0, zc_35_2, zc_36_1, zc_37_0, zc_38_0, zc_39_3, zc_40_9, zc_41_0, zc_42_0, zc_43_0, zc_44_2, zc_45_1, zc_46_0, zc_47_0, zc_48_3, zc_49_1, zc_50_0, zc_51_2, zc_52_0, zc_53_1, zc_54_0, zc_55_1, zc_56_0, zc_57_1, zc_58_0]
def zc_53_2 : gE := .inl (.object "UpOneSide$Sheet", 4, .inr (.inr (.inr (.inr (va_up (va_up (fun _ => none) 0 (some 55)) 1 (some 57))))))
def zm_143 : List gE := [zc_0_8, zc_1_9, zc_2_0, zc_3_0, zc_4_0, zc_5_2, zc_6_1, zc_7_0, zc_8_0, zc_9_3, zc_10_9, zc_11_0, zc_12_0, zc_13_0, zc_14_2, zc_15_1, zc_16_0, zc_17_0, zc_18_3, zc_19_9, zc_20_0, zc_21_0, zc_22_0, zc_23_2, zc_24_1, zc_25_0, zc_26_0, zc_27_3, zc_28_4, zc_29_0, zc_30_0, zc_31_9, zc_32_0, zc_33_0, zc_34_0, zc_35_2, zc_36_1, zc_37_0, zc_38_0, zc_39_3, zc_40_9, zc_41_0, zc_42_0, zc_43_0, zc_44_2, zc_45_1, zc_46_0, zc_47_0, zc_48_3, zc_49_1, zc_50_0, zc_51_2, zc_52_0, zc_53_2, zc_54_0, zc_55_1, zc_56_0, zc_57_1, zc_58_0]
def zc_59_0 : gE := .inr (3, [.null, .int 0, .int 0])
def zm_144 : List gE := [zc_0_8, zc_1_9, zc_2_0, zc_3_0, zc_4_0, zc_5_2, zc_6_1, zc_7_0, zc_8_0, zc_9_3, zc_10_9, zc_11_0, zc_12_0, zc_13_0, zc_14_2, zc_15_1, zc_16_0, zc_17_0, zc_18_3, zc_19_9, zc_20_0, zc_21_0, zc_22_0, zc_23_2, zc_24_1, zc_25_0, zc_26_0, zc_27_3, zc_28_4, zc_29_0, zc_30_0, zc_31_9, zc_32_0, zc_33_0, zc_34_0, zc_35_2, zc_36_1, zc_37_0, zc_38_0, zc_39_3, zc_40_9, zc_41_0, zc_42_0, zc_43_0, zc_44_2, zc_45_1, zc_46_0, zc_47_0, zc_48_3, zc_49_1, zc_50_0, zc_51_2, zc_52_0, zc_53_2, zc_54_0, zc_55_1, zc_56_0, zc_57_1, zc_58_0, zc_59_0]
def zc_60_0 : gE := .inl (.int, 40, .inl (fun _ => 0))
def zm_145 : List gE := [zc_0_8, zc_1_9, zc_2_0, zc_3_0, zc_4_0, zc_5_2, zc_6_1, zc_7_0, zc_8_0, zc_9_3, zc_10_9, zc_11_0, zc_12_0, zc_13_0, zc_14_2, zc_15_1, zc_16_0, zc_17_0, zc_18_3, zc_19_9, zc_20_0, zc_21_0, zc_22_0, zc_23_2, zc_24_1, zc_25_0, zc_26_0, zc_27_3, zc_28_4, zc_29_0, zc_30_0, zc_31_9, zc_32_0, zc_33_0, zc_34_0, zc_35_2, zc_36_1, zc_37_0, zc_38_0, zc_39_3, zc_40_9, zc_41_0, zc_42_0, zc_43_0, zc_44_2, zc_45_1, zc_46_0, zc_47_0, zc_48_3, zc_49_1, zc_50_0, zc_51_2, zc_52_0, zc_53_2, zc_54_0, zc_55_1, zc_56_0, zc_57_1, zc_58_0, zc_59_0, zc_60_0]
def zc_59_1 : gE := .inr (3, [.ref 60, .int 0, .int 0])
def zm_146 : List gE := [zc_0_8, zc_1_9, zc_2_0, zc_3_0, zc_4_0, zc_5_2, zc_6_1, zc_7_0, zc_8_0, zc_9_3, zc_10_9, zc_11_0, zc_12_0, zc_13_0, zc_14_2, zc_15_1, zc_16_0, zc_17_0, zc_18_3, zc_19_9, zc_20_0, zc_21_0, zc_22_0, zc_23_2, zc_24_1, zc_25_0, zc_26_0, zc_27_3, zc_28_4, zc_29_0, zc_30_0, zc_31_9, zc_32_0, zc_33_0, zc_34_0, zc_35_2, zc_36_1, zc_37_0, zc_38_0, zc_39_3, zc_40_9, zc_41_0, zc_42_0, zc_43_0, zc_44_2, zc_45_1, zc_46_0, zc_47_0, zc_48_3, zc_49_1, zc_50_0, zc_51_2, zc_52_0, zc_53_2, zc_54_0, zc_55_1, zc_56_0, zc_57_1, zc_58_0, zc_59_1, zc_60_0]
def zc_53_3 : gE := .inl (.object "UpOneSide$Sheet", 4, .inr (.inr (.inr (.inr (va_up (va_up (va_up (fun _ => none) 0 (some 55)) 1 (some 57)) 2 (some 59))))))
def zm_147 : List gE := [zc_0_8, zc_1_9, zc_2_0, zc_3_0, zc_4_0, zc_5_2, zc_6_1, zc_7_0, zc_8_0, zc_9_3, zc_10_9, zc_11_0, zc_12_0, zc_13_0, zc_14_2, zc_15_1, zc_16_0, zc_17_0, zc_18_3, zc_19_9, zc_20_0, zc_21_0, zc_22_0, zc_23_2, zc_24_1, zc_25_0, zc_26_0, zc_27_3, zc_28_4, zc_29_0, zc_30_0, zc_31_9, zc_32_0, zc_33_0, zc_34_0, zc_35_2, zc_36_1, zc_37_0, zc_38_0, zc_39_3, zc_40_9, zc_41_0, zc_42_0, zc_43_0, zc_44_2, zc_45_1, zc_46_0, zc_47_0, zc_48_3, zc_49_1, zc_50_0, zc_51_2, zc_52_0, zc_53_3, zc_54_0, zc_55_1, zc_56_0, zc_57_1, zc_58_0, zc_59_1, zc_60_0]
def zc_61_0 : gE := .inr (3, [.null, .int 0, .int 0])
def zm_148 : List gE := [zc_0_8, zc_1_9, zc_2_0, zc_3_0, zc_4_0, zc_5_2, zc_6_1, zc_7_0, zc_8_0, zc_9_3, zc_10_9, zc_11_0, zc_12_0, zc_13_0, zc_14_2, zc_15_1, zc_16_0, zc_17_0, zc_18_3, zc_19_9, zc_20_0, zc_21_0, zc_22_0, zc_23_2, zc_24_1, zc_25_0, zc_26_0, zc_27_3, zc_28_4, zc_29_0, zc_30_0, zc_31_9, zc_32_0, zc_33_0, zc_34_0, zc_35_2, zc_36_1, zc_37_0, zc_38_0, zc_39_3, zc_40_9, zc_41_0, zc_42_0, zc_43_0, zc_44_2, zc_45_1, zc_46_0, zc_47_0, zc_48_3, zc_49_1, zc_50_0, zc_51_2, zc_52_0, zc_53_3, zc_54_0, zc_55_1, zc_56_0, zc_57_1, zc_58_0, zc_59_1, zc_60_0, zc_61_0]
def zc_62_0 : gE := .inl (.int, 40, .inl (fun _ => 0))
def zm_149 : List gE := [zc_0_8, zc_1_9, zc_2_0, zc_3_0, zc_4_0, zc_5_2, zc_6_1, zc_7_0, zc_8_0, zc_9_3, zc_10_9, zc_11_0, zc_12_0, zc_13_0, zc_14_2, zc_15_1, zc_16_0, zc_17_0, zc_18_3, zc_19_9, zc_20_0, zc_21_0, zc_22_0, zc_23_2, zc_24_1, zc_25_0, zc_26_0, zc_27_3, zc_28_4, zc_29_0, zc_30_0, zc_31_9, zc_32_0, zc_33_0, zc_34_0, zc_35_2, zc_36_1, zc_37_0, zc_38_0, zc_39_3, zc_40_9, zc_41_0, zc_42_0, zc_43_0, zc_44_2, zc_45_1, zc_46_0, zc_47_0, zc_48_3, zc_49_1, zc_50_0, zc_51_2, zc_52_0, zc_53_3, zc_54_0, zc_55_1, zc_56_0, zc_57_1, zc_58_0, zc_59_1, zc_60_0, zc_61_0, zc_62_0]
def zc_61_1 : gE := .inr (3, [.ref 62, .int 0, .int 0])
def zm_150 : List gE := [zc_0_8, zc_1_9, zc_2_0, zc_3_0, zc_4_0, zc_5_2, zc_6_1, zc_7_0, zc_8_0, zc_9_3, zc_10_9, zc_11_0, zc_12_0, zc_13_0, zc_14_2, zc_15_1, zc_16_0, zc_17_0, zc_18_3, zc_19_9, zc_20_0, zc_21_0, zc_22_0, zc_23_2, zc_24_1, zc_25_0, zc_26_0, zc_27_3, zc_28_4, zc_29_0, zc_30_0, zc_31_9, zc_32_0, zc_33_0, zc_34_0, zc_35_2, zc_36_1, zc_37_0, zc_38_0, zc_39_3, zc_40_9, zc_41_0, zc_42_0, zc_43_0, zc_44_2, zc_45_1, zc_46_0, zc_47_0, zc_48_3, zc_49_1, zc_50_0, zc_51_2, zc_52_0, zc_53_3, zc_54_0, zc_55_1, zc_56_0, zc_57_1, zc_58_0, zc_59_1, zc_60_0, zc_61_1, zc_62_0]
def zc_53_4 : gE := .inl (.object "UpOneSide$Sheet", 4, .inr (.inr (.inr (.inr (va_up (va_up (va_up (va_up (fun _ => none) 0 (some 55)) 1 (some 57)) 2 (some 59)) 3 (some 61))))))
def zm_151 : List gE := [zc_0_8, zc_1_9, zc_2_0, zc_3_0, zc_4_0, zc_5_2, zc_6_1, zc_7_0, zc_8_0, zc_9_3, zc_10_9, zc_11_0, zc_12_0, zc_13_0, zc_14_2, zc_15_1, zc_16_0, zc_17_0, zc_18_3, zc_19_9, zc_20_0, zc_21_0, zc_22_0, zc_23_2, zc_24_1, zc_25_0, zc_26_0, zc_27_3, zc_28_4, zc_29_0, zc_30_0, zc_31_9, zc_32_0, zc_33_0, zc_34_0, zc_35_2, zc_36_1, zc_37_0, zc_38_0, zc_39_3, zc_40_9, zc_41_0, zc_42_0, zc_43_0, zc_44_2, zc_45_1, zc_46_0, zc_47_0, zc_48_3, zc_49_1, zc_50_0, zc_51_2, zc_52_0, zc_53_4, zc_54_0, zc_55_1, zc_56_0, zc_57_1, zc_58_0, zc_59_1, zc_60_0, zc_61_1, zc_62_0]
def zc_63_0 : gE := .inr (6, [.null, .null, .null, .int 0, .null, .int 0, .int 0, .null, .null, .int 0, .null, .int 0, .null, .int 0, .int 0, .int 0, .int 0, .long 0, .null, .null, .null, .int 0, .null, .null, .null, .null])
def zm_152 : List gE := [zc_0_8, zc_1_9, zc_2_0, zc_3_0, zc_4_0, zc_5_2, zc_6_1, zc_7_0, zc_8_0, zc_9_3, zc_10_9, zc_11_0, zc_12_0, zc_13_0, zc_14_2, zc_15_1, zc_16_0, zc_17_0, zc_18_3, zc_19_9, zc_20_0, zc_21_0, zc_22_0, zc_23_2, zc_24_1, zc_25_0, zc_26_0, zc_27_3, zc_28_4, zc_29_0, zc_30_0, zc_31_9, zc_32_0, zc_33_0, zc_34_0, zc_35_2, zc_36_1, zc_37_0, zc_38_0, zc_39_3, zc_40_9, zc_41_0, zc_42_0, zc_43_0, zc_44_2, zc_45_1, zc_46_0, zc_47_0, zc_48_3, zc_49_1, zc_50_0, zc_51_2, zc_52_0, zc_53_4, zc_54_0, zc_55_1, zc_56_0, zc_57_1, zc_58_0, zc_59_1, zc_60_0, zc_61_1, zc_62_0, zc_63_0]
def zc_64_0 : gE := .inl (.int, 134, .inl (fun _ => 0))
def zm_153 : List gE := [zc_0_8, zc_1_9, zc_2_0, zc_3_0, zc_4_0, zc_5_2, zc_6_1, zc_7_0, zc_8_0, zc_9_3, zc_10_9, zc_11_0, zc_12_0, zc_13_0, zc_14_2, zc_15_1, zc_16_0, zc_17_0, zc_18_3, zc_19_9, zc_20_0, zc_21_0, zc_22_0, zc_23_2, zc_24_1, zc_25_0, zc_26_0, zc_27_3, zc_28_4, zc_29_0, zc_30_0, zc_31_9, zc_32_0, zc_33_0, zc_34_0, zc_35_2, zc_36_1, zc_37_0, zc_38_0, zc_39_3, zc_40_9, zc_41_0, zc_42_0, zc_43_0, zc_44_2, zc_45_1, zc_46_0, zc_47_0, zc_48_3, zc_49_1, zc_50_0, zc_51_2, zc_52_0, zc_53_4, zc_54_0, zc_55_1, zc_56_0, zc_57_1, zc_58_0, zc_59_1, zc_60_0, zc_61_1, zc_62_0, zc_63_0, zc_64_0]
def zc_63_1 : gE := .inr (6, [.ref 64, .null, .null, .int 0, .null, .int 0, .int 0, .null, .null, .int 0, .null, .int 0, .null, .int 0, .int 0, .int 0, .int 0, .long 0, .null, .null, .null, .int 0, .null, .null, .null, .null])
def zm_154 : List gE := [zc_0_8, zc_1_9, zc_2_0, zc_3_0, zc_4_0, zc_5_2, zc_6_1, zc_7_0, zc_8_0, zc_9_3, zc_10_9, zc_11_0, zc_12_0, zc_13_0, zc_14_2, zc_15_1, zc_16_0, zc_17_0, zc_18_3, zc_19_9, zc_20_0, zc_21_0, zc_22_0, zc_23_2, zc_24_1, zc_25_0, zc_26_0, zc_27_3, zc_28_4, zc_29_0, zc_30_0, zc_31_9, zc_32_0, zc_33_0, zc_34_0, zc_35_2, zc_36_1, zc_37_0, zc_38_0, zc_39_3, zc_40_9, zc_41_0, zc_42_0, zc_43_0, zc_44_2, zc_45_1, zc_46_0, zc_47_0, zc_48_3, zc_49_1, zc_50_0, zc_51_2, zc_52_0, zc_53_4, zc_54_0, zc_55_1, zc_56_0, zc_57_1, zc_58_0, zc_59_1, zc_60_0, zc_61_1, zc_62_0, zc_63_1, zc_64_0]
def zc_65_0 : gE := .inl (.int, 134, .inl (fun _ => 0))
def zm_155 : List gE := [zc_0_8, zc_1_9, zc_2_0, zc_3_0, zc_4_0, zc_5_2, zc_6_1, zc_7_0, zc_8_0, zc_9_3, zc_10_9, zc_11_0, zc_12_0, zc_13_0, zc_14_2, zc_15_1, zc_16_0, zc_17_0, zc_18_3, zc_19_9, zc_20_0, zc_21_0, zc_22_0, zc_23_2, zc_24_1, zc_25_0, zc_26_0, zc_27_3, zc_28_4, zc_29_0, zc_30_0, zc_31_9, zc_32_0, zc_33_0, zc_34_0, zc_35_2, zc_36_1, zc_37_0, zc_38_0, zc_39_3, zc_40_9, zc_41_0, zc_42_0, zc_43_0, zc_44_2, zc_45_1, zc_46_0, zc_47_0, zc_48_3, zc_49_1, zc_50_0, zc_51_2, zc_52_0, zc_53_4, zc_54_0, zc_55_1, zc_56_0, zc_57_1, zc_58_0, zc_59_1, zc_60_0, zc_61_1, zc_62_0, zc_63_1, zc_64_0, zc_65_0]
def zc_63_2 : gE := .inr (6, [.ref 64, .ref 65, .null, .int 0, .null, .int 0, .int 0, .null, .null, .int 0, .null, .int 0, .null, .int 0, .int 0, .int 0, .int 0, .long 0, .null, .null, .null, .int 0, .null, .null, .null, .null])
def zm_156 : List gE := [zc_0_8, zc_1_9, zc_2_0, zc_3_0, zc_4_0, zc_5_2, zc_6_1, zc_7_0, zc_8_0, zc_9_3, zc_10_9, zc_11_0, zc_12_0, zc_13_0, zc_14_2, zc_15_1, zc_16_0, zc_17_0, zc_18_3, zc_19_9, zc_20_0, zc_21_0, zc_22_0, zc_23_2, zc_24_1, zc_25_0, zc_26_0, zc_27_3, zc_28_4, zc_29_0, zc_30_0, zc_31_9, zc_32_0, zc_33_0, zc_34_0, zc_35_2, zc_36_1, zc_37_0, zc_38_0, zc_39_3, zc_40_9, zc_41_0, zc_42_0, zc_43_0, zc_44_2, zc_45_1, zc_46_0, zc_47_0, zc_48_3, zc_49_1, zc_50_0, zc_51_2, zc_52_0, zc_53_4, zc_54_0, zc_55_1, zc_56_0, zc_57_1, zc_58_0, zc_59_1, zc_60_0, zc_61_1, zc_62_0, zc_63_2, zc_64_0, zc_65_0]
def zc_66_0 : gE := .inl (.int, 134, .inl (fun _ => 0))
def zm_157 : List gE := [zc_0_8, zc_1_9, zc_2_0, zc_3_0, zc_4_0, zc_5_2, zc_6_1, zc_7_0, zc_8_0, zc_9_3, zc_10_9, zc_11_0, zc_12_0, zc_13_0, zc_14_2, zc_15_1, zc_16_0, zc_17_0, zc_18_3, zc_19_9, zc_20_0, zc_21_0, zc_22_0, zc_23_2, zc_24_1, zc_25_0, zc_26_0, zc_27_3, zc_28_4, zc_29_0, zc_30_0, zc_31_9, zc_32_0, zc_33_0, zc_34_0, zc_35_2, zc_36_1, zc_37_0, zc_38_0, zc_39_3, zc_40_9, zc_41_0, zc_42_0, zc_43_0, zc_44_2, zc_45_1, zc_46_0, zc_47_0, zc_48_3, zc_49_1, zc_50_0, zc_51_2, zc_52_0, zc_53_4, zc_54_0, zc_55_1, zc_56_0, zc_57_1, zc_58_0, zc_59_1, zc_60_0, zc_61_1, zc_62_0, zc_63_2, zc_64_0, zc_65_0, zc_66_0]
def zc_63_3 : gE := .inr (6, [.ref 64, .ref 65, .ref 66, .int 0, .null, .int 0, .int 0, .null, .null, .int 0, .null, .int 0, .null, .int 0, .int 0, .int 0, .int 0, .long 0, .null, .null, .null, .int 0, .null, .null, .null, .null])
def zm_158 : List gE := [zc_0_8, zc_1_9, zc_2_0, zc_3_0, zc_4_0, zc_5_2, zc_6_1, zc_7_0, zc_8_0, zc_9_3, zc_10_9, zc_11_0, zc_12_0, zc_13_0, zc_14_2, zc_15_1, zc_16_0, zc_17_0, zc_18_3, zc_19_9, zc_20_0, zc_21_0, zc_22_0, zc_23_2, zc_24_1, zc_25_0, zc_26_0, zc_27_3, zc_28_4, zc_29_0, zc_30_0, zc_31_9, zc_32_0, zc_33_0, zc_34_0, zc_35_2, zc_36_1, zc_37_0, zc_38_0, zc_39_3, zc_40_9, zc_41_0, zc_42_0, zc_43_0, zc_44_2, zc_45_1, zc_46_0, zc_47_0, zc_48_3, zc_49_1, zc_50_0, zc_51_2, zc_52_0, zc_53_4, zc_54_0, zc_55_1, zc_56_0, zc_57_1, zc_58_0, zc_59_1, zc_60_0, zc_61_1, zc_62_0, zc_63_3, zc_64_0, zc_65_0, zc_66_0]
def zc_67_0 : gE := .inl (.int, 7, .inl (fun _ => 0))
def zm_159 : List gE := [zc_0_8, zc_1_9, zc_2_0, zc_3_0, zc_4_0, zc_5_2, zc_6_1, zc_7_0, zc_8_0, zc_9_3, zc_10_9, zc_11_0, zc_12_0, zc_13_0, zc_14_2, zc_15_1, zc_16_0, zc_17_0, zc_18_3, zc_19_9, zc_20_0, zc_21_0, zc_22_0, zc_23_2, zc_24_1, zc_25_0, zc_26_0, zc_27_3, zc_28_4, zc_29_0, zc_30_0, zc_31_9, zc_32_0, zc_33_0, zc_34_0, zc_35_2, zc_36_1, zc_37_0, zc_38_0, zc_39_3, zc_40_9, zc_41_0, zc_42_0, zc_43_0, zc_44_2, zc_45_1, zc_46_0, zc_47_0, zc_48_3, zc_49_1, zc_50_0, zc_51_2, zc_52_0, zc_53_4, zc_54_0, zc_55_1, zc_56_0, zc_57_1, zc_58_0, zc_59_1, zc_60_0, zc_61_1, zc_62_0, zc_63_3, zc_64_0, zc_65_0, zc_66_0, zc_67_0]
def zc_63_4 : gE := .inr (6, [.ref 64, .ref 65, .ref 66, .int 0, .ref 67, .int 0, .int 0, .null, .null, .int 0, .null, .int 0, .null, .int 0, .int 0, .int 0, .int 0, .long 0, .null, .null, .null, .int 0, .null, .null, .null, .null])
def zm_160 : List gE := [zc_0_8, zc_1_9, zc_2_0, zc_3_0, zc_4_0, zc_5_2, zc_6_1, zc_7_0, zc_8_0, zc_9_3, zc_10_9, zc_11_0, zc_12_0, zc_13_0, zc_14_2, zc_15_1, zc_16_0, zc_17_0, zc_18_3, zc_19_9, zc_20_0, zc_21_0, zc_22_0, zc_23_2, zc_24_1, zc_25_0, zc_26_0, zc_27_3, zc_28_4, zc_29_0, zc_30_0, zc_31_9, zc_32_0, zc_33_0, zc_34_0, zc_35_2, zc_36_1, zc_37_0, zc_38_0, zc_39_3, zc_40_9, zc_41_0, zc_42_0, zc_43_0, zc_44_2, zc_45_1, zc_46_0, zc_47_0, zc_48_3, zc_49_1, zc_50_0, zc_51_2, zc_52_0, zc_53_4, zc_54_0, zc_55_1, zc_56_0, zc_57_1, zc_58_0, zc_59_1, zc_60_0, zc_61_1, zc_62_0, zc_63_4, zc_64_0, zc_65_0, zc_66_0, zc_67_0]
def zc_68_0 : gE := .inl (.int, 3721, .inl (fun _ => 0))
def zm_161 : List gE := [zc_0_8, zc_1_9, zc_2_0, zc_3_0, zc_4_0, zc_5_2, zc_6_1, zc_7_0, zc_8_0, zc_9_3, zc_10_9, zc_11_0, zc_12_0, zc_13_0, zc_14_2, zc_15_1, zc_16_0, zc_17_0, zc_18_3, zc_19_9, zc_20_0, zc_21_0, zc_22_0, zc_23_2, zc_24_1, zc_25_0, zc_26_0, zc_27_3, zc_28_4, zc_29_0, zc_30_0, zc_31_9, zc_32_0, zc_33_0, zc_34_0, zc_35_2, zc_36_1, zc_37_0, zc_38_0, zc_39_3, zc_40_9, zc_41_0, zc_42_0, zc_43_0, zc_44_2, zc_45_1, zc_46_0, zc_47_0, zc_48_3, zc_49_1, zc_50_0, zc_51_2, zc_52_0, zc_53_4, zc_54_0, zc_55_1, zc_56_0, zc_57_1, zc_58_0, zc_59_1, zc_60_0, zc_61_1, zc_62_0, zc_63_4, zc_64_0, zc_65_0, zc_66_0, zc_67_0, zc_68_0]
def zc_63_5 : gE := .inr (6, [.ref 64, .ref 65, .ref 66, .int 0, .ref 67, .int 0, .int 0, .ref 68, .null, .int 0, .null, .int 0, .null, .int 0, .int 0, .int 0, .int 0, .long 0, .null, .null, .null, .int 0, .null, .null, .null, .null])
def zm_162 : List gE := [zc_0_8, zc_1_9, zc_2_0, zc_3_0, zc_4_0, zc_5_2, zc_6_1, zc_7_0, zc_8_0, zc_9_3, zc_10_9, zc_11_0, zc_12_0, zc_13_0, zc_14_2, zc_15_1, zc_16_0, zc_17_0, zc_18_3, zc_19_9, zc_20_0, zc_21_0, zc_22_0, zc_23_2, zc_24_1, zc_25_0, zc_26_0, zc_27_3, zc_28_4, zc_29_0, zc_30_0, zc_31_9, zc_32_0, zc_33_0, zc_34_0, zc_35_2, zc_36_1, zc_37_0, zc_38_0, zc_39_3, zc_40_9, zc_41_0, zc_42_0, zc_43_0, zc_44_2, zc_45_1, zc_46_0, zc_47_0, zc_48_3, zc_49_1, zc_50_0, zc_51_2, zc_52_0, zc_53_4, zc_54_0, zc_55_1, zc_56_0, zc_57_1, zc_58_0, zc_59_1, zc_60_0, zc_61_1, zc_62_0, zc_63_5, zc_64_0, zc_65_0, zc_66_0, zc_67_0, zc_68_0]
def zc_69_0 : gE := .inl (.int, 3721, .inl (fun _ => 0))
def zm_163 : List gE := [zc_0_8, zc_1_9, zc_2_0, zc_3_0, zc_4_0, zc_5_2, zc_6_1, zc_7_0, zc_8_0, zc_9_3, zc_10_9, zc_11_0, zc_12_0, zc_13_0, zc_14_2, zc_15_1, zc_16_0, zc_17_0, zc_18_3, zc_19_9, zc_20_0, zc_21_0, zc_22_0, zc_23_2, zc_24_1, zc_25_0, zc_26_0, zc_27_3, zc_28_4, zc_29_0, zc_30_0, zc_31_9, zc_32_0, zc_33_0, zc_34_0, zc_35_2, zc_36_1, zc_37_0, zc_38_0, zc_39_3, zc_40_9, zc_41_0, zc_42_0, zc_43_0, zc_44_2, zc_45_1, zc_46_0, zc_47_0, zc_48_3, zc_49_1, zc_50_0, zc_51_2, zc_52_0, zc_53_4, zc_54_0, zc_55_1, zc_56_0, zc_57_1, zc_58_0, zc_59_1, zc_60_0, zc_61_1, zc_62_0, zc_63_5, zc_64_0, zc_65_0, zc_66_0, zc_67_0, zc_68_0, zc_69_0]
def zc_63_6 : gE := .inr (6, [.ref 64, .ref 65, .ref 66, .int 0, .ref 67, .int 0, .int 0, .ref 68, .ref 69, .int 0, .null, .int 0, .null, .int 0, .int 0, .int 0, .int 0, .long 0, .null, .null, .null, .int 0, .null, .null, .null, .null])
def zm_164 : List gE := [zc_0_8, zc_1_9, zc_2_0, zc_3_0, zc_4_0, zc_5_2, zc_6_1, zc_7_0, zc_8_0, zc_9_3, zc_10_9, zc_11_0, zc_12_0, zc_13_0, zc_14_2, zc_15_1, zc_16_0, zc_17_0, zc_18_3, zc_19_9, zc_20_0, zc_21_0, zc_22_0, zc_23_2, zc_24_1, zc_25_0, zc_26_0, zc_27_3, zc_28_4, zc_29_0, zc_30_0, zc_31_9, zc_32_0, zc_33_0, zc_34_0, zc_35_2, zc_36_1, zc_37_0, zc_38_0, zc_39_3, zc_40_9, zc_41_0, zc_42_0, zc_43_0, zc_44_2, zc_45_1, zc_46_0, zc_47_0, zc_48_3, zc_49_1, zc_50_0, zc_51_2, zc_52_0, zc_53_4, zc_54_0, zc_55_1, zc_56_0, zc_57_1, zc_58_0, zc_59_1, zc_60_0, zc_61_1, zc_62_0, zc_63_6, zc_64_0, zc_65_0, zc_66_0, zc_67_0, zc_68_0, zc_69_0]
def zc_70_0 : gE := .inl (.int, 4, .inl (fun _ => 0))
def zm_165 : List gE := [zc_0_8, zc_1_9, zc_2_0, zc_3_0, zc_4_0, zc_5_2, zc_6_1, zc_7_0, zc_8_0, zc_9_3, zc_10_9, zc_11_0, zc_12_0, zc_13_0, zc_14_2, zc_15_1, zc_16_0, zc_17_0, zc_18_3, zc_19_9, zc_20_0, zc_21_0, zc_22_0, zc_23_2, zc_24_1, zc_25_0, zc_26_0, zc_27_3, zc_28_4, zc_29_0, zc_30_0, zc_31_9, zc_32_0, zc_33_0, zc_34_0, zc_35_2, zc_36_1, zc_37_0, zc_38_0, zc_39_3, zc_40_9, zc_41_0, zc_42_0, zc_43_0, zc_44_2, zc_45_1, zc_46_0, zc_47_0, zc_48_3, zc_49_1, zc_50_0, zc_51_2, zc_52_0, zc_53_4, zc_54_0, zc_55_1, zc_56_0, zc_57_1, zc_58_0, zc_59_1, zc_60_0, zc_61_1, zc_62_0, zc_63_6, zc_64_0, zc_65_0, zc_66_0, zc_67_0, zc_68_0, zc_69_0, zc_70_0]
def zc_63_7 : gE := .inr (6, [.ref 64, .ref 65, .ref 66, .int 0, .ref 67, .int 0, .int 0, .ref 68, .ref 69, .int 0, .ref 70, .int 0, .null, .int 0, .int 0, .int 0, .int 0, .long 0, .null, .null, .null, .int 0, .null, .null, .null, .null])
def zm_166 : List gE := [zc_0_8, zc_1_9, zc_2_0, zc_3_0, zc_4_0, zc_5_2, zc_6_1, zc_7_0, zc_8_0, zc_9_3, zc_10_9, zc_11_0, zc_12_0, zc_13_0, zc_14_2, zc_15_1, zc_16_0, zc_17_0, zc_18_3, zc_19_9, zc_20_0, zc_21_0, zc_22_0, zc_23_2, zc_24_1, zc_25_0, zc_26_0, zc_27_3, zc_28_4, zc_29_0, zc_30_0, zc_31_9, zc_32_0, zc_33_0, zc_34_0, zc_35_2, zc_36_1, zc_37_0, zc_38_0, zc_39_3, zc_40_9, zc_41_0, zc_42_0, zc_43_0, zc_44_2, zc_45_1, zc_46_0, zc_47_0, zc_48_3, zc_49_1, zc_50_0, zc_51_2, zc_52_0, zc_53_4, zc_54_0, zc_55_1, zc_56_0, zc_57_1, zc_58_0, zc_59_1, zc_60_0, zc_61_1, zc_62_0, zc_63_7, zc_64_0, zc_65_0, zc_66_0, zc_67_0, zc_68_0, zc_69_0, zc_70_0]
def zc_71_0 : gE := .inl (.int, 120, .inl (fun _ => 0))
def zm_167 : List gE := [zc_0_8, zc_1_9, zc_2_0, zc_3_0, zc_4_0, zc_5_2, zc_6_1, zc_7_0, zc_8_0, zc_9_3, zc_10_9, zc_11_0, zc_12_0, zc_13_0, zc_14_2, zc_15_1, zc_16_0, zc_17_0, zc_18_3, zc_19_9, zc_20_0, zc_21_0, zc_22_0, zc_23_2, zc_24_1, zc_25_0, zc_26_0, zc_27_3, zc_28_4, zc_29_0, zc_30_0, zc_31_9, zc_32_0, zc_33_0, zc_34_0, zc_35_2, zc_36_1, zc_37_0, zc_38_0, zc_39_3, zc_40_9, zc_41_0, zc_42_0, zc_43_0, zc_44_2, zc_45_1, zc_46_0, zc_47_0, zc_48_3, zc_49_1, zc_50_0, zc_51_2, zc_52_0, zc_53_4, zc_54_0, zc_55_1, zc_56_0, zc_57_1, zc_58_0, zc_59_1, zc_60_0, zc_61_1, zc_62_0, zc_63_7, zc_64_0, zc_65_0, zc_66_0, zc_67_0, zc_68_0, zc_69_0, zc_70_0, zc_71_0]
def zc_63_8 : gE := .inr (6, [.ref 64, .ref 65, .ref 66, .int 0, .ref 67, .int 0, .int 0, .ref 68, .ref 69, .int 0, .ref 70, .int 0, .ref 71, .int 0, .int 0, .int 0, .int 0, .long 0, .null, .null, .null, .int 0, .null, .null, .null, .null])
def zm_168 : List gE := [zc_0_8, zc_1_9, zc_2_0, zc_3_0, zc_4_0, zc_5_2, zc_6_1, zc_7_0, zc_8_0, zc_9_3, zc_10_9, zc_11_0, zc_12_0, zc_13_0, zc_14_2, zc_15_1, zc_16_0, zc_17_0, zc_18_3, zc_19_9, zc_20_0, zc_21_0, zc_22_0, zc_23_2, zc_24_1, zc_25_0, zc_26_0, zc_27_3, zc_28_4, zc_29_0, zc_30_0, zc_31_9, zc_32_0, zc_33_0, zc_34_0, zc_35_2, zc_36_1, zc_37_0, zc_38_0, zc_39_3, zc_40_9, zc_41_0, zc_42_0, zc_43_0, zc_44_2, zc_45_1, zc_46_0, zc_47_0, zc_48_3, zc_49_1, zc_50_0, zc_51_2, zc_52_0, zc_53_4, zc_54_0, zc_55_1, zc_56_0, zc_57_1, zc_58_0, zc_59_1, zc_60_0, zc_61_1, zc_62_0, zc_63_8, zc_64_0, zc_65_0, zc_66_0, zc_67_0, zc_68_0, zc_69_0, zc_70_0, zc_71_0]
def zc_72_0 : gE := .inl (.char, 56, .inl (fun _ => 0))
def zm_169 : List gE := [zc_0_8, zc_1_9, zc_2_0, zc_3_0, zc_4_0, zc_5_2, zc_6_1, zc_7_0, zc_8_0, zc_9_3, zc_10_9, zc_11_0, zc_12_0, zc_13_0, zc_14_2, zc_15_1, zc_16_0, zc_17_0, zc_18_3, zc_19_9, zc_20_0, zc_21_0, zc_22_0, zc_23_2, zc_24_1, zc_25_0, zc_26_0, zc_27_3, zc_28_4, zc_29_0, zc_30_0, zc_31_9, zc_32_0, zc_33_0, zc_34_0, zc_35_2, zc_36_1, zc_37_0, zc_38_0, zc_39_3, zc_40_9, zc_41_0, zc_42_0, zc_43_0, zc_44_2, zc_45_1, zc_46_0, zc_47_0, zc_48_3, zc_49_1, zc_50_0, zc_51_2, zc_52_0, zc_53_4, zc_54_0, zc_55_1, zc_56_0, zc_57_1, zc_58_0, zc_59_1, zc_60_0, zc_61_1, zc_62_0, zc_63_8, zc_64_0, zc_65_0, zc_66_0, zc_67_0, zc_68_0, zc_69_0, zc_70_0, zc_71_0, zc_72_0]
def zf_31 : Nat → Int32 := upd (upd (upd (upd (fun _ => 0) 0 112) 1 117) 2 108) 3 108
def zc_72_1 : gE := .inl (.char, 56, .inl zf_31)
def zm_170 : List gE := [zc_0_8, zc_1_9, zc_2_0, zc_3_0, zc_4_0, zc_5_2, zc_6_1, zc_7_0, zc_8_0, zc_9_3, zc_10_9, zc_11_0, zc_12_0, zc_13_0, zc_14_2, zc_15_1, zc_16_0, zc_17_0, zc_18_3, zc_19_9, zc_20_0, zc_21_0, zc_22_0, zc_23_2, zc_24_1, zc_25_0, zc_26_0, zc_27_3, zc_28_4, zc_29_0, zc_30_0, zc_31_9, zc_32_0, zc_33_0, zc_34_0, zc_35_2, zc_36_1, zc_37_0, zc_38_0, zc_39_3, zc_40_9, zc_41_0, zc_42_0, zc_43_0, zc_44_2, zc_45_1, zc_46_0, zc_47_0, zc_48_3, zc_49_1, zc_50_0, zc_51_2, zc_52_0, zc_53_4, zc_54_0, zc_55_1, zc_56_0, zc_57_1, zc_58_0, zc_59_1, zc_60_0, zc_61_1, zc_62_0, zc_63_8, zc_64_0, zc_65_0, zc_66_0, zc_67_0, zc_68_0, zc_69_0, zc_70_0, zc_71_0, zc_72_1]
def zf_32 : Nat → Int32 := upd (upd (upd (upd zf_31 4 32) 5 32) 6 32) 7 32
def zc_72_2 : gE := .inl (.char, 56, .inl zf_32)
def zm_171 : List gE := [zc_0_8, zc_1_9, zc_2_0, zc_3_0, zc_4_0, zc_5_2, zc_6_1, zc_7_0, zc_8_0, zc_9_3, zc_10_9, zc_11_0, zc_12_0, zc_13_0, zc_14_2, zc_15_1, zc_16_0, zc_17_0, zc_18_3, zc_19_9, zc_20_0, zc_21_0, zc_22_0, zc_23_2, zc_24_1, zc_25_0, zc_26_0, zc_27_3, zc_28_4, zc_29_0, zc_30_0, zc_31_9, zc_32_0, zc_33_0, zc_34_0, zc_35_2, zc_36_1, zc_37_0, zc_38_0, zc_39_3, zc_40_9, zc_41_0, zc_42_0, zc_43_0, zc_44_2, zc_45_1, zc_46_0, zc_47_0, zc_48_3, zc_49_1, zc_50_0, zc_51_2, zc_52_0, zc_53_4, zc_54_0, zc_55_1, zc_56_0, zc_57_1, zc_58_0, zc_59_1, zc_60_0, zc_61_1, zc_62_0, zc_63_8, zc_64_0, zc_65_0, zc_66_0, zc_67_0, zc_68_0, zc_69_0, zc_70_0, zc_71_0, zc_72_2]
def zf_33 : Nat → Int32 := upd (upd (upd (upd zf_32 8 101) 9 118) 10 101) 11 110
def zc_72_3 : gE := .inl (.char, 56, .inl zf_33)
def zm_172 : List gE := [zc_0_8, zc_1_9, zc_2_0, zc_3_0, zc_4_0, zc_5_2, zc_6_1, zc_7_0, zc_8_0, zc_9_3, zc_10_9, zc_11_0, zc_12_0, zc_13_0, zc_14_2, zc_15_1, zc_16_0, zc_17_0, zc_18_3, zc_19_9, zc_20_0, zc_21_0, zc_22_0, zc_23_2, zc_24_1, zc_25_0, zc_26_0, zc_27_3, zc_28_4, zc_29_0, zc_30_0, zc_31_9, zc_32_0, zc_33_0, zc_34_0, zc_35_2, zc_36_1, zc_37_0, zc_38_0, zc_39_3, zc_40_9, zc_41_0, zc_42_0, zc_43_0, zc_44_2, zc_45_1, zc_46_0, zc_47_0, zc_48_3, zc_49_1, zc_50_0, zc_51_2, zc_52_0, zc_53_4, zc_54_0, zc_55_1, zc_56_0, zc_57_1, zc_58_0, zc_59_1, zc_60_0, zc_61_1, zc_62_0, zc_63_8, zc_64_0, zc_65_0, zc_66_0, zc_67_0, zc_68_0, zc_69_0, zc_70_0, zc_71_0, zc_72_3]
def zf_34 : Nat → Int32 := upd (upd (upd (upd zf_33 12 32) 13 32) 14 32) 15 32
def zc_72_4 : gE := .inl (.char, 56, .inl zf_34)
def zm_173 : List gE := [zc_0_8, zc_1_9, zc_2_0, zc_3_0, zc_4_0, zc_5_2, zc_6_1, zc_7_0, zc_8_0, zc_9_3, zc_10_9, zc_11_0, zc_12_0, zc_13_0, zc_14_2, zc_15_1, zc_16_0, zc_17_0, zc_18_3, zc_19_9, zc_20_0, zc_21_0, zc_22_0, zc_23_2, zc_24_1, zc_25_0, zc_26_0, zc_27_3, zc_28_4, zc_29_0, zc_30_0, zc_31_9, zc_32_0, zc_33_0, zc_34_0, zc_35_2, zc_36_1, zc_37_0, zc_38_0, zc_39_3, zc_40_9, zc_41_0, zc_42_0, zc_43_0, zc_44_2, zc_45_1, zc_46_0, zc_47_0, zc_48_3, zc_49_1, zc_50_0, zc_51_2, zc_52_0, zc_53_4, zc_54_0, zc_55_1, zc_56_0, zc_57_1, zc_58_0, zc_59_1, zc_60_0, zc_61_1, zc_62_0, zc_63_8, zc_64_0, zc_65_0, zc_66_0, zc_67_0, zc_68_0, zc_69_0, zc_70_0, zc_71_0, zc_72_4]
def zf_35 : Nat → Int32 := upd (upd (upd (upd zf_34 16 115) 17 108) 18 97) 19 110
def zc_72_5 : gE := .inl (.char, 56, .inl zf_35)
def zm_174 : List gE := [zc_0_8, zc_1_9, zc_2_0, zc_3_0, zc_4_0, zc_5_2, zc_6_1, zc_7_0, zc_8_0, zc_9_3, zc_10_9, zc_11_0, zc_12_0, zc_13_0, zc_14_2, zc_15_1, zc_16_0, zc_17_0, zc_18_3, zc_19_9, zc_20_0, zc_21_0, zc_22_0, zc_23_2, zc_24_1, zc_25_0, zc_26_0, zc_27_3, zc_28_4, zc_29_0, zc_30_0, zc_31_9, zc_32_0, zc_33_0, zc_34_0, zc_35_2, zc_36_1, zc_37_0, zc_38_0, zc_39_3, zc_40_9, zc_41_0, zc_42_0, zc_43_0, zc_44_2, zc_45_1, zc_46_0, zc_47_0, zc_48_3, zc_49_1, zc_50_0, zc_51_2, zc_52_0, zc_53_4, zc_54_0, zc_55_1, zc_56_0, zc_57_1, zc_58_0, zc_59_1, zc_60_0, zc_61_1, zc_62_0, zc_63_8, zc_64_0, zc_65_0, zc_66_0, zc_67_0, zc_68_0, zc_69_0, zc_70_0, zc_71_0, zc_72_5]
def zf_36 : Nat → Int32 := upd (upd (upd (upd zf_35 20 116) 21 105) 22 110) 23 103
def zc_72_6 : gE := .inl (.char, 56, .inl zf_36)
def zm_175 : List gE := [zc_0_8, zc_1_9, zc_2_0, zc_3_0, zc_4_0, zc_5_2, zc_6_1, zc_7_0, zc_8_0, zc_9_3, zc_10_9, zc_11_0, zc_12_0, zc_13_0, zc_14_2, zc_15_1, zc_16_0, zc_17_0, zc_18_3, zc_19_9, zc_20_0, zc_21_0, zc_22_0, zc_23_2, zc_24_1, zc_25_0, zc_26_0, zc_27_3, zc_28_4, zc_29_0, zc_30_0, zc_31_9, zc_32_0, zc_33_0, zc_34_0, zc_35_2, zc_36_1, zc_37_0, zc_38_0, zc_39_3, zc_40_9, zc_41_0, zc_42_0, zc_43_0, zc_44_2, zc_45_1, zc_46_0, zc_47_0, zc_48_3, zc_49_1, zc_50_0, zc_51_2, zc_52_0, zc_53_4, zc_54_0, zc_55_1, zc_56_0, zc_57_1, zc_58_0, zc_59_1, zc_60_0, zc_61_1, zc_62_0, zc_63_8, zc_64_0, zc_65_0, zc_66_0, zc_67_0, zc_68_0, zc_69_0, zc_70_0, zc_71_0, zc_72_6]
def zf_37 : Nat → Int32 := upd (upd (upd (upd zf_36 24 115) 25 108) 26 105) 27 112
def zc_72_7 : gE := .inl (.char, 56, .inl zf_37)
def zm_176 : List gE := [zc_0_8, zc_1_9, zc_2_0, zc_3_0, zc_4_0, zc_5_2, zc_6_1, zc_7_0, zc_8_0, zc_9_3, zc_10_9, zc_11_0, zc_12_0, zc_13_0, zc_14_2, zc_15_1, zc_16_0, zc_17_0, zc_18_3, zc_19_9, zc_20_0, zc_21_0, zc_22_0, zc_23_2, zc_24_1, zc_25_0, zc_26_0, zc_27_3, zc_28_4, zc_29_0, zc_30_0, zc_31_9, zc_32_0, zc_33_0, zc_34_0, zc_35_2, zc_36_1, zc_37_0, zc_38_0, zc_39_3, zc_40_9, zc_41_0, zc_42_0, zc_43_0, zc_44_2, zc_45_1, zc_46_0, zc_47_0, zc_48_3, zc_49_1, zc_50_0, zc_51_2, zc_52_0, zc_53_4, zc_54_0, zc_55_1, zc_56_0, zc_57_1, zc_58_0, zc_59_1, zc_60_0, zc_61_1, zc_62_0, zc_63_8, zc_64_0, zc_65_0, zc_66_0, zc_67_0, zc_68_0, zc_69_0, zc_70_0, zc_71_0, zc_72_7]
def zf_38 : Nat → Int32 := upd (upd (upd (upd zf_37 28 112) 29 105) 30 110) 31 103
def zc_72_8 : gE := .inl (.char, 56, .inl zf_38)
def zm_177 : List gE := [zc_0_8, zc_1_9, zc_2_0, zc_3_0, zc_4_0, zc_5_2, zc_6_1, zc_7_0, zc_8_0, zc_9_3, zc_10_9, zc_11_0, zc_12_0, zc_13_0, zc_14_2, zc_15_1, zc_16_0, zc_17_0, zc_18_3, zc_19_9, zc_20_0, zc_21_0, zc_22_0, zc_23_2, zc_24_1, zc_25_0, zc_26_0, zc_27_3, zc_28_4, zc_29_0, zc_30_0, zc_31_9, zc_32_0, zc_33_0, zc_34_0, zc_35_2, zc_36_1, zc_37_0, zc_38_0, zc_39_3, zc_40_9, zc_41_0, zc_42_0, zc_43_0, zc_44_2, zc_45_1, zc_46_0, zc_47_0, zc_48_3, zc_49_1, zc_50_0, zc_51_2, zc_52_0, zc_53_4, zc_54_0, zc_55_1, zc_56_0, zc_57_1, zc_58_0, zc_59_1, zc_60_0, zc_61_1, zc_62_0, zc_63_8, zc_64_0, zc_65_0, zc_66_0, zc_67_0, zc_68_0, zc_69_0, zc_70_0, zc_71_0, zc_72_8]
def zf_39 : Nat → Int32 := upd (upd (upd (upd zf_38 32 102) 33 97) 34 110) 35 110
def zc_72_9 : gE := .inl (.char, 56, .inl zf_39)
def zm_178 : List gE := [zc_0_8, zc_1_9, zc_2_0, zc_3_0, zc_4_0, zc_5_2, zc_6_1, zc_7_0, zc_8_0, zc_9_3, zc_10_9, zc_11_0, zc_12_0, zc_13_0, zc_14_2, zc_15_1, zc_16_0, zc_17_0, zc_18_3, zc_19_9, zc_20_0, zc_21_0, zc_22_0, zc_23_2, zc_24_1, zc_25_0, zc_26_0, zc_27_3, zc_28_4, zc_29_0, zc_30_0, zc_31_9, zc_32_0, zc_33_0, zc_34_0, zc_35_2, zc_36_1, zc_37_0, zc_38_0, zc_39_3, zc_40_9, zc_41_0, zc_42_0, zc_43_0, zc_44_2, zc_45_1, zc_46_0, zc_47_0, zc_48_3, zc_49_1, zc_50_0, zc_51_2, zc_52_0, zc_53_4, zc_54_0, zc_55_1, zc_56_0, zc_57_1, zc_58_0, zc_59_1, zc_60_0, zc_61_1, zc_62_0, zc_63_8, zc_64_0, zc_65_0, zc_66_0, zc_67_0, zc_68_0, zc_69_0, zc_70_0, zc_71_0, zc_72_9]
def zf_40 : Nat → Int32 := upd (upd (upd (upd zf_39 36 101) 37 100) 38 32) 39 32
def zc_72_10 : gE := .inl (.char, 56, .inl zf_40)
def zm_179 : List gE := [zc_0_8, zc_1_9, zc_2_0, zc_3_0, zc_4_0, zc_5_2, zc_6_1, zc_7_0, zc_8_0, zc_9_3, zc_10_9, zc_11_0, zc_12_0, zc_13_0, zc_14_2, zc_15_1, zc_16_0, zc_17_0, zc_18_3, zc_19_9, zc_20_0, zc_21_0, zc_22_0, zc_23_2, zc_24_1, zc_25_0, zc_26_0, zc_27_3, zc_28_4, zc_29_0, zc_30_0, zc_31_9, zc_32_0, zc_33_0, zc_34_0, zc_35_2, zc_36_1, zc_37_0, zc_38_0, zc_39_3, zc_40_9, zc_41_0, zc_42_0, zc_43_0, zc_44_2, zc_45_1, zc_46_0, zc_47_0, zc_48_3, zc_49_1, zc_50_0, zc_51_2, zc_52_0, zc_53_4, zc_54_0, zc_55_1, zc_56_0, zc_57_1, zc_58_0, zc_59_1, zc_60_0, zc_61_1, zc_62_0, zc_63_8, zc_64_0, zc_65_0, zc_66_0, zc_67_0, zc_68_0, zc_69_0, zc_70_0, zc_71_0, zc_72_10]
def zf_41 : Nat → Int32 := upd (upd (upd (upd zf_40 40 99) 41 97) 42 117) 43 103
def zc_72_11 : gE := .inl (.char, 56, .inl zf_41)
def zm_180 : List gE := [zc_0_8, zc_1_9, zc_2_0, zc_3_0, zc_4_0, zc_5_2, zc_6_1, zc_7_0, zc_8_0, zc_9_3, zc_10_9, zc_11_0, zc_12_0, zc_13_0, zc_14_2, zc_15_1, zc_16_0, zc_17_0, zc_18_3, zc_19_9, zc_20_0, zc_21_0, zc_22_0, zc_23_2, zc_24_1, zc_25_0, zc_26_0, zc_27_3, zc_28_4, zc_29_0, zc_30_0, zc_31_9, zc_32_0, zc_33_0, zc_34_0, zc_35_2, zc_36_1, zc_37_0, zc_38_0, zc_39_3, zc_40_9, zc_41_0, zc_42_0, zc_43_0, zc_44_2, zc_45_1, zc_46_0, zc_47_0, zc_48_3, zc_49_1, zc_50_0, zc_51_2, zc_52_0, zc_53_4, zc_54_0, zc_55_1, zc_56_0, zc_57_1, zc_58_0, zc_59_1, zc_60_0, zc_61_1, zc_62_0, zc_63_8, zc_64_0, zc_65_0, zc_66_0, zc_67_0, zc_68_0, zc_69_0, zc_70_0, zc_71_0, zc_72_11]
def zf_42 : Nat → Int32 := upd (upd (upd (upd zf_41 44 104) 45 116) 46 32) 47 32
def zc_72_12 : gE := .inl (.char, 56, .inl zf_42)
def zm_181 : List gE := [zc_0_8, zc_1_9, zc_2_0, zc_3_0, zc_4_0, zc_5_2, zc_6_1, zc_7_0, zc_8_0, zc_9_3, zc_10_9, zc_11_0, zc_12_0, zc_13_0, zc_14_2, zc_15_1, zc_16_0, zc_17_0, zc_18_3, zc_19_9, zc_20_0, zc_21_0, zc_22_0, zc_23_2, zc_24_1, zc_25_0, zc_26_0, zc_27_3, zc_28_4, zc_29_0, zc_30_0, zc_31_9, zc_32_0, zc_33_0, zc_34_0, zc_35_2, zc_36_1, zc_37_0, zc_38_0, zc_39_3, zc_40_9, zc_41_0, zc_42_0, zc_43_0, zc_44_2, zc_45_1, zc_46_0, zc_47_0, zc_48_3, zc_49_1, zc_50_0, zc_51_2, zc_52_0, zc_53_4, zc_54_0, zc_55_1, zc_56_0, zc_57_1, zc_58_0, zc_59_1, zc_60_0, zc_61_1, zc_62_0, zc_63_8, zc_64_0, zc_65_0, zc_66_0, zc_67_0, zc_68_0, zc_69_0, zc_70_0, zc_71_0, zc_72_12]
def zf_43 : Nat → Int32 := upd (upd (upd (upd zf_42 48 106) 49 97) 50 109) 51 109
def zc_72_13 : gE := .inl (.char, 56, .inl zf_43)
def zm_182 : List gE := [zc_0_8, zc_1_9, zc_2_0, zc_3_0, zc_4_0, zc_5_2, zc_6_1, zc_7_0, zc_8_0, zc_9_3, zc_10_9, zc_11_0, zc_12_0, zc_13_0, zc_14_2, zc_15_1, zc_16_0, zc_17_0, zc_18_3, zc_19_9, zc_20_0, zc_21_0, zc_22_0, zc_23_2, zc_24_1, zc_25_0, zc_26_0, zc_27_3, zc_28_4, zc_29_0, zc_30_0, zc_31_9, zc_32_0, zc_33_0, zc_34_0, zc_35_2, zc_36_1, zc_37_0, zc_38_0, zc_39_3, zc_40_9, zc_41_0, zc_42_0, zc_43_0, zc_44_2, zc_45_1, zc_46_0, zc_47_0, zc_48_3, zc_49_1, zc_50_0, zc_51_2, zc_52_0, zc_53_4, zc_54_0, zc_55_1, zc_56_0, zc_57_1, zc_58_0, zc_59_1, zc_60_0, zc_61_1, zc_62_0, zc_63_8, zc_64_0, zc_65_0, zc_66_0, zc_67_0, zc_68_0, zc_69_0, zc_70_0, zc_71_0, zc_72_13]
def zf_44 : Nat → Int32 := upd (upd (upd (upd zf_43 52 101) 53 100) 54 32) 55 32
def zc_72_14 : gE := .inl (.char, 56, .inl zf_44)
def zm_183 : List gE := [zc_0_8, zc_1_9, zc_2_0, zc_3_0, zc_4_0, zc_5_2, zc_6_1, zc_7_0, zc_8_0, zc_9_3, zc_10_9, zc_11_0, zc_12_0, zc_13_0, zc_14_2, zc_15_1, zc_16_0, zc_17_0, zc_18_3, zc_19_9, zc_20_0, zc_21_0, zc_22_0, zc_23_2, zc_24_1, zc_25_0, zc_26_0, zc_27_3, zc_28_4, zc_29_0, zc_30_0, zc_31_9, zc_32_0, zc_33_0, zc_34_0, zc_35_2, zc_36_1, zc_37_0, zc_38_0, zc_39_3, zc_40_9, zc_41_0, zc_42_0, zc_43_0, zc_44_2, zc_45_1, zc_46_0, zc_47_0, zc_48_3, zc_49_1, zc_50_0, zc_51_2, zc_52_0, zc_53_4, zc_54_0, zc_55_1, zc_56_0, zc_57_1, zc_58_0, zc_59_1, zc_60_0, zc_61_1, zc_62_0, zc_63_8, zc_64_0, zc_65_0, zc_66_0, zc_67_0, zc_68_0, zc_69_0, zc_70_0, zc_71_0, zc_72_14]
def zc_63_9 : gE := .inr (6, [.ref 64, .ref 65, .ref 66, .int 0, .ref 67, .int 0, .int 0, .ref 68, .ref 69, .int 0, .ref 70, .int 0, .ref 71, .int 0, .int 0, .int 0, .int 0, .long 0, .ref 72, .null, .null, .int 0, .null, .null, .null, .null])
def zm_184 : List gE := [zc_0_8, zc_1_9, zc_2_0, zc_3_0, zc_4_0, zc_5_2, zc_6_1, zc_7_0, zc_8_0, zc_9_3, zc_10_9, zc_11_0, zc_12_0, zc_13_0, zc_14_2, zc_15_1, zc_16_0, zc_17_0, zc_18_3, zc_19_9, zc_20_0, zc_21_0, zc_22_0, zc_23_2, zc_24_1, zc_25_0, zc_26_0, zc_27_3, zc_28_4, zc_29_0, zc_30_0, zc_31_9, zc_32_0, zc_33_0, zc_34_0, zc_35_2, zc_36_1, zc_37_0, zc_38_0, zc_39_3, zc_40_9, zc_41_0, zc_42_0, zc_43_0, zc_44_2, zc_45_1, zc_46_0, zc_47_0, zc_48_3, zc_49_1, zc_50_0, zc_51_2, zc_52_0, zc_53_4, zc_54_0, zc_55_1, zc_56_0, zc_57_1, zc_58_0, zc_59_1, zc_60_0, zc_61_1, zc_62_0, zc_63_9, zc_64_0, zc_65_0, zc_66_0, zc_67_0, zc_68_0, zc_69_0, zc_70_0, zc_71_0, zc_72_14]
def zc_73_0 : gE := .inl (.char, 56, .inl (fun _ => 0))
def zm_185 : List gE := [zc_0_8, zc_1_9, zc_2_0, zc_3_0, zc_4_0, zc_5_2, zc_6_1, zc_7_0, zc_8_0, zc_9_3, zc_10_9, zc_11_0, zc_12_0, zc_13_0, zc_14_2, zc_15_1, zc_16_0, zc_17_0, zc_18_3, zc_19_9, zc_20_0, zc_21_0, zc_22_0, zc_23_2, zc_24_1, zc_25_0, zc_26_0, zc_27_3, zc_28_4, zc_29_0, zc_30_0, zc_31_9, zc_32_0, zc_33_0, zc_34_0, zc_35_2, zc_36_1, zc_37_0, zc_38_0, zc_39_3, zc_40_9, zc_41_0, zc_42_0, zc_43_0, zc_44_2, zc_45_1, zc_46_0, zc_47_0, zc_48_3, zc_49_1, zc_50_0, zc_51_2, zc_52_0, zc_53_4, zc_54_0, zc_55_1, zc_56_0, zc_57_1, zc_58_0, zc_59_1, zc_60_0, zc_61_1, zc_62_0, zc_63_9, zc_64_0, zc_65_0, zc_66_0, zc_67_0, zc_68_0, zc_69_0, zc_70_0, zc_71_0, zc_72_14, zc_73_0]
def zf_45 : Nat → Int32 := upd (upd (upd (upd (fun _ => 0) 0 107) 1 110) 2 111) 3 116
def zc_73_1 : gE := .inl (.char, 56, .inl zf_45)
def zm_186 : List gE := [zc_0_8, zc_1_9, zc_2_0, zc_3_0, zc_4_0, zc_5_2, zc_6_1, zc_7_0, zc_8_0, zc_9_3, zc_10_9, zc_11_0, zc_12_0, zc_13_0, zc_14_2, zc_15_1, zc_16_0, zc_17_0, zc_18_3, zc_19_9, zc_20_0, zc_21_0, zc_22_0, zc_23_2, zc_24_1, zc_25_0, zc_26_0, zc_27_3, zc_28_4, zc_29_0, zc_30_0, zc_31_9, zc_32_0, zc_33_0, zc_34_0, zc_35_2, zc_36_1, zc_37_0, zc_38_0, zc_39_3, zc_40_9, zc_41_0, zc_42_0, zc_43_0, zc_44_2, zc_45_1, zc_46_0, zc_47_0, zc_48_3, zc_49_1, zc_50_0, zc_51_2, zc_52_0, zc_53_4, zc_54_0, zc_55_1, zc_56_0, zc_57_1, zc_58_0, zc_59_1, zc_60_0, zc_61_1, zc_62_0, zc_63_9, zc_64_0, zc_65_0, zc_66_0, zc_67_0, zc_68_0, zc_69_0, zc_70_0, zc_71_0, zc_72_14, zc_73_1]
def zf_46 : Nat → Int32 := upd (upd (upd (upd zf_45 4 32) 5 32) 6 32) 7 32
def zc_73_2 : gE := .inl (.char, 56, .inl zf_46)
def zm_187 : List gE := [zc_0_8, zc_1_9, zc_2_0, zc_3_0, zc_4_0, zc_5_2, zc_6_1, zc_7_0, zc_8_0, zc_9_3, zc_10_9, zc_11_0, zc_12_0, zc_13_0, zc_14_2, zc_15_1, zc_16_0, zc_17_0, zc_18_3, zc_19_9, zc_20_0, zc_21_0, zc_22_0, zc_23_2, zc_24_1, zc_25_0, zc_26_0, zc_27_3, zc_28_4, zc_29_0, zc_30_0, zc_31_9, zc_32_0, zc_33_0, zc_34_0, zc_35_2, zc_36_1, zc_37_0, zc_38_0, zc_39_3, zc_40_9, zc_41_0, zc_42_0, zc_43_0, zc_44_2, zc_45_1, zc_46_0, zc_47_0, zc_48_3, zc_49_1, zc_50_0, zc_51_2, zc_52_0, zc_53_4, zc_54_0, zc_55_1, zc_56_0, zc_57_1, zc_58_0, zc_59_1, zc_60_0, zc_61_1, zc_62_0, zc_63_9, zc_64_0, zc_65_0, zc_66_0, zc_67_0, zc_68_0, zc_69_0, zc_70_0, zc_71_0, zc_72_14, zc_73_2]
def zf_47 : Nat → Int32 := upd (upd (upd (upd zf_46 8 115) 9 108) 10 105) 11 112
def zc_73_3 : gE := .inl (.char, 56, .inl zf_47)
def zm_188 : List gE := [zc_0_8, zc_1_9, zc_2_0, zc_3_0, zc_4_0, zc_5_2, zc_6_1, zc_7_0, zc_8_0, zc_9_3, zc_10_9, zc_11_0, zc_12_0, zc_13_0, zc_14_2, zc_15_1, zc_16_0, zc_17_0, zc_18_3, zc_19_9, zc_20_0, zc_21_0, zc_22_0, zc_23_2, zc_24_1, zc_25_0, zc_26_0, zc_27_3, zc_28_4, zc_29_0, zc_30_0, zc_31_9, zc_32_0, zc_33_0, zc_34_0, zc_35_2, zc_36_1, zc_37_0, zc_38_0, zc_39_3, zc_40_9, zc_41_0, zc_42_0, zc_43_0, zc_44_2, zc_45_1, zc_46_0, zc_47_0, zc_48_3, zc_49_1, zc_50_0, zc_51_2, zc_52_0, zc_53_4, zc_54_0, zc_55_1, zc_56_0, zc_57_1, zc_58_0, zc_59_1, zc_60_0, zc_61_1, zc_62_0, zc_63_9, zc_64_0, zc_65_0, zc_66_0, zc_67_0, zc_68_0, zc_69_0, zc_70_0, zc_71_0, zc_72_14, zc_73_3]
def zf_48 : Nat → Int32 := upd (upd (upd (upd zf_47 12 32) 13 32) 14 32) 15 32
def zc_73_4 : gE := .inl (.char, 56, .inl zf_48)
def zm_189 : List gE := [zc_0_8, zc_1_9, zc_2_0, zc_3_0, zc_4_0, zc_5_2, zc_6_1, zc_7_0, zc_8_0, zc_9_3, zc_10_9, zc_11_0, zc_12_0, zc_13_0, zc_14_2, zc_15_1, zc_16_0, zc_17_0, zc_18_3, zc_19_9, zc_20_0, zc_21_0, zc_22_0, zc_23_2, zc_24_1, zc_25_0, zc_26_0, zc_27_3, zc_28_4, zc_29_0, zc_30_0, zc_31_9, zc_32_0, zc_33_0, zc_34_0, zc_35_2, zc_36_1, zc_37_0, zc_38_0, zc_39_3, zc_40_9, zc_41_0, zc_42_0, zc_43_0, zc_44_2, zc_45_1, zc_46_0, zc_47_0, zc_48_3, zc_49_1, zc_50_0, zc_51_2, zc_52_0, zc_53_4, zc_54_0, zc_55_1, zc_56_0, zc_57_1, zc_58_0, zc_59_1, zc_60_0, zc_61_1, zc_62_0, zc_63_9, zc_64_0, zc_65_0, zc_66_0, zc_67_0, zc_68_0, zc_69_0, zc_70_0, zc_71_0, zc_72_14, zc_73_4]
def zf_49 : Nat → Int32 := upd (upd (upd (upd zf_48 16 119) 17 105) 18 110) 19 100
def zc_73_5 : gE := .inl (.char, 56, .inl zf_49)
def zm_190 : List gE := [zc_0_8, zc_1_9, zc_2_0, zc_3_0, zc_4_0, zc_5_2, zc_6_1, zc_7_0, zc_8_0, zc_9_3, zc_10_9, zc_11_0, zc_12_0, zc_13_0, zc_14_2, zc_15_1, zc_16_0, zc_17_0, zc_18_3, zc_19_9, zc_20_0, zc_21_0, zc_22_0, zc_23_2, zc_24_1, zc_25_0, zc_26_0, zc_27_3, zc_28_4, zc_29_0, zc_30_0, zc_31_9, zc_32_0, zc_33_0, zc_34_0, zc_35_2, zc_36_1, zc_37_0, zc_38_0, zc_39_3, zc_40_9, zc_41_0, zc_42_0, zc_43_0, zc_44_2, zc_45_1, zc_46_0, zc_47_0, zc_48_3, zc_49_1, zc_50_0, zc_51_2, zc_52_0, zc_53_4, zc_54_0, zc_55_1, zc_56_0, zc_57_1, zc_58_0, zc_59_1, zc_60_0, zc_61_1, zc_62_0, zc_63_9, zc_64_0, zc_65_0, zc_66_0, zc_67_0, zc_68_0, zc_69_0, zc_70_0, zc_71_0, zc_72_14, zc_73_5]
def zf_50 : Nat → Int32 := upd (upd (upd (upd zf_49 20 32) 21 32) 22 32) 23 32
def zc_73_6 : gE := .inl (.char, 56, .inl zf_50)
def zm_191 : List gE := [zc_0_8, zc_1_9, zc_2_0, zc_3_0, zc_4_0, zc_5_2, zc_6_1, zc_7_0, zc_8_0, zc_9_3, zc_10_9, zc_11_0, zc_12_0, zc_13_0, zc_14_2, zc_15_1, zc_16_0, zc_17_0, zc_18_3, zc_19_9, zc_20_0, zc_21_0, zc_22_0, zc_23_2, zc_24_1, zc_25_0, zc_26_0, zc_27_3, zc_28_4, zc_29_0, zc_30_0, zc_31_9, zc_32_0, zc_33_0, zc_34_0, zc_35_2, zc_36_1, zc_37_0, zc_38_0, zc_39_3, zc_40_9, zc_41_0, zc_42_0, zc_43_0, zc_44_2, zc_45_1, zc_46_0, zc_47_0, zc_48_3, zc_49_1, zc_50_0, zc_51_2, zc_52_0, zc_53_4, zc_54_0, zc_55_1, zc_56_0, zc_57_1, zc_58_0, zc_59_1, zc_60_0, zc_61_1, zc_62_0, zc_63_9, zc_64_0, zc_65_0, zc_66_0, zc_67_0, zc_68_0, zc_69_0, zc_70_0, zc_71_0, zc_72_14, zc_73_6]
def zf_51 : Nat → Int32 := upd (upd (upd (upd zf_50 24 99) 25 117) 26 114) 27 116
def zc_73_7 : gE := .inl (.char, 56, .inl zf_51)
def zm_192 : List gE := [zc_0_8, zc_1_9, zc_2_0, zc_3_0, zc_4_0, zc_5_2, zc_6_1, zc_7_0, zc_8_0, zc_9_3, zc_10_9, zc_11_0, zc_12_0, zc_13_0, zc_14_2, zc_15_1, zc_16_0, zc_17_0, zc_18_3, zc_19_9, zc_20_0, zc_21_0, zc_22_0, zc_23_2, zc_24_1, zc_25_0, zc_26_0, zc_27_3, zc_28_4, zc_29_0, zc_30_0, zc_31_9, zc_32_0, zc_33_0, zc_34_0, zc_35_2, zc_36_1, zc_37_0, zc_38_0, zc_39_3, zc_40_9, zc_41_0, zc_42_0, zc_43_0, zc_44_2, zc_45_1, zc_46_0, zc_47_0, zc_48_3, zc_49_1, zc_50_0, zc_51_2, zc_52_0, zc_53_4, zc_54_0, zc_55_1, zc_56_0, zc_57_1, zc_58_0, zc_59_1, zc_60_0, zc_61_1, zc_62_0, zc_63_9, zc_64_0, zc_65_0, zc_66_0, zc_67_0, zc_68_0, zc_69_0, zc_70_0, zc_71_0, zc_72_14, zc_73_7]
def zf_52 : Nat → Int32 := upd (upd (upd (upd zf_51 28 97) 29 105) 30 110) 31 32
def zc_73_8 : gE := .inl (.char, 56, .inl zf_52)
def zm_193 : List gE := [zc_0_8, zc_1_9, zc_2_0, zc_3_0, zc_4_0, zc_5_2, zc_6_1, zc_7_0, zc_8_0, zc_9_3, zc_10_9, zc_11_0, zc_12_0, zc_13_0, zc_14_2, zc_15_1, zc_16_0, zc_17_0, zc_18_3, zc_19_9, zc_20_0, zc_21_0, zc_22_0, zc_23_2, zc_24_1, zc_25_0, zc_26_0, zc_27_3, zc_28_4, zc_29_0, zc_30_0, zc_31_9, zc_32_0, zc_33_0, zc_34_0, zc_35_2, zc_36_1, zc_37_0, zc_38_0, zc_39_3, zc_40_9, zc_41_0, zc_42_0, zc_43_0, zc_44_2, zc_45_1, zc_46_0, zc_47_0, zc_48_3, zc_49_1, zc_50_0, zc_51_2, zc_52_0, zc_53_4, zc_54_0, zc_55_1, zc_56_0, zc_57_1, zc_58_0, zc_59_1, zc_60_0, zc_61_1, zc_62_0, zc_63_9, zc_64_0, zc_65_0, zc_66_0, zc_67_0, zc_68_0, zc_69_0, zc_70_0, zc_71_0, zc_72_14, zc_73_8]
def zf_53 : Nat → Int32 := upd (upd (upd (upd zf_52 32 99) 33 104) 34 97) 35 105
def zc_73_9 : gE := .inl (.char, 56, .inl zf_53)
def zm_194 : List gE := [zc_0_8, zc_1_9, zc_2_0, zc_3_0, zc_4_0, zc_5_2, zc_6_1, zc_7_0, zc_8_0, zc_9_3, zc_10_9, zc_11_0, zc_12_0, zc_13_0, zc_14_2, zc_15_1, zc_16_0, zc_17_0, zc_18_3, zc_19_9, zc_20_0, zc_21_0, zc_22_0, zc_23_2, zc_24_1, zc_25_0, zc_26_0, zc_27_3, zc_28_4, zc_29_0, zc_30_0, zc_31_9, zc_32_0, zc_33_0, zc_34_0, zc_35_2, zc_36_1, zc_37_0, zc_38_0, zc_39_3, zc_40_9, zc_41_0, zc_42_0, zc_43_0, zc_44_2, zc_45_1, zc_46_0, zc_47_0, zc_48_3, zc_49_1, zc_50_0, zc_51_2, zc_52_0, zc_53_4, zc_54_0, zc_55_1, zc_56_0, zc_57_1, zc_58_0, zc_59_1, zc_60_0, zc_61_1, zc_62_0, zc_63_9, zc_64_0, zc_65_0, zc_66_0, zc_67_0, zc_68_0, zc_69_0, zc_70_0, zc_71_0, zc_72_14, zc_73_9]
def zf_54 : Nat → Int32 := upd (upd (upd (upd zf_53 36 114) 37 32) 38 32) 39 32
def zc_73_10 : gE := .inl (.char, 56, .inl zf_54)
def zm_195 : List gE := [zc_0_8, zc_1_9, zc_2_0, zc_3_0, zc_4_0, zc_5_2, zc_6_1, zc_7_0, zc_8_0, zc_9_3, zc_10_9, zc_11_0, zc_12_0, zc_13_0, zc_14_2, zc_15_1, zc_16_0, zc_17_0, zc_18_3, zc_19_9, zc_20_0, zc_21_0, zc_22_0, zc_23_2, zc_24_1, zc_25_0, zc_26_0, zc_27_3, zc_28_4, zc_29_0, zc_30_0, zc_31_9, zc_32_0, zc_33_0, zc_34_0, zc_35_2, zc_36_1, zc_37_0, zc_38_0, zc_39_3, zc_40_9, zc_41_0, zc_42_0, zc_43_0, zc_44_2, zc_45_1, zc_46_0, zc_47_0, zc_48_3, zc_49_1, zc_50_0, zc_51_2, zc_52_0, zc_53_4, zc_54_0, zc_55_1, zc_56_0, zc_57_1, zc_58_0, zc_59_1, zc_60_0, zc_61_1, zc_62_0, zc_63_9, zc_64_0, zc_65_0, zc_66_0, zc_67_0, zc_68_0, zc_69_0, zc_70_0, zc_71_0, zc_72_14, zc_73_10]
def zf_55 : Nat → Int32 := upd (upd (upd (upd zf_54 40 115) 41 117) 42 110) 43 32
def zc_73_11 : gE := .inl (.char, 56, .inl zf_55)
def zm_196 : List gE := [zc_0_8, zc_1_9, zc_2_0, zc_3_0, zc_4_0, zc_5_2, zc_6_1, zc_7_0, zc_8_0, zc_9_3, zc_10_9, zc_11_0, zc_12_0, zc_13_0, zc_14_2, zc_15_1, zc_16_0, zc_17_0, zc_18_3, zc_19_9, zc_20_0, zc_21_0, zc_22_0, zc_23_2, zc_24_1, zc_25_0, zc_26_0, zc_27_3, zc_28_4, zc_29_0, zc_30_0, zc_31_9, zc_32_0, zc_33_0, zc_34_0, zc_35_2, zc_36_1, zc_37_0, zc_38_0, zc_39_3, zc_40_9, zc_41_0, zc_42_0, zc_43_0, zc_44_2, zc_45_1, zc_46_0, zc_47_0, zc_48_3, zc_49_1, zc_50_0, zc_51_2, zc_52_0, zc_53_4, zc_54_0, zc_55_1, zc_56_0, zc_57_1, zc_58_0, zc_59_1, zc_60_0, zc_61_1, zc_62_0, zc_63_9, zc_64_0, zc_65_0, zc_66_0, zc_67_0, zc_68_0, zc_69_0, zc_70_0, zc_71_0, zc_72_14, zc_73_11]
def zf_56 : Nat → Int32 := upd (upd (upd (upd zf_55 44 32) 45 32) 46 32) 47 32
def zc_73_12 : gE := .inl (.char, 56, .inl zf_56)
def zm_197 : List gE := [zc_0_8, zc_1_9, zc_2_0, zc_3_0, zc_4_0, zc_5_2, zc_6_1, zc_7_0, zc_8_0, zc_9_3, zc_10_9, zc_11_0, zc_12_0, zc_13_0, zc_14_2, zc_15_1, zc_16_0, zc_17_0, zc_18_3, zc_19_9, zc_20_0, zc_21_0, zc_22_0, zc_23_2, zc_24_1, zc_25_0, zc_26_0, zc_27_3, zc_28_4, zc_29_0, zc_30_0, zc_31_9, zc_32_0, zc_33_0, zc_34_0, zc_35_2, zc_36_1, zc_37_0, zc_38_0, zc_39_3, zc_40_9, zc_41_0, zc_42_0, zc_43_0, zc_44_2, zc_45_1, zc_46_0, zc_47_0, zc_48_3, zc_49_1, zc_50_0, zc_51_2, zc_52_0, zc_53_4, zc_54_0, zc_55_1, zc_56_0, zc_57_1, zc_58_0, zc_59_1, zc_60_0, zc_61_1, zc_62_0, zc_63_9, zc_64_0, zc_65_0, zc_66_0, zc_67_0, zc_68_0, zc_69_0, zc_70_0, zc_71_0, zc_72_14, zc_73_12]
def zf_57 : Nat → Int32 := upd (upd (upd (upd zf_56 48 117) 49 112) 50 32) 51 32
def zc_73_13 : gE := .inl (.char, 56, .inl zf_57)
def zm_198 : List gE := [zc_0_8, zc_1_9, zc_2_0, zc_3_0, zc_4_0, zc_5_2, zc_6_1, zc_7_0, zc_8_0, zc_9_3, zc_10_9, zc_11_0, zc_12_0, zc_13_0, zc_14_2, zc_15_1, zc_16_0, zc_17_0, zc_18_3, zc_19_9, zc_20_0, zc_21_0, zc_22_0, zc_23_2, zc_24_1, zc_25_0, zc_26_0, zc_27_3, zc_28_4, zc_29_0, zc_30_0, zc_31_9, zc_32_0, zc_33_0, zc_34_0, zc_35_2, zc_36_1, zc_37_0, zc_38_0, zc_39_3, zc_40_9, zc_41_0, zc_42_0, zc_43_0, zc_44_2, zc_45_1, zc_46_0, zc_47_0, zc_48_3, zc_49_1, zc_50_0, zc_51_2, zc_52_0, zc_53_4, zc_54_0, zc_55_1, zc_56_0, zc_57_1, zc_58_0, zc_59_1, zc_60_0, zc_61_1, zc_62_0, zc_63_9, zc_64_0, zc_65_0, zc_66_0, zc_67_0, zc_68_0, zc_69_0, zc_70_0, zc_71_0, zc_72_14, zc_73_13]
def zf_58 : Nat → Int32 := upd (upd (upd (upd zf_57 52 32) 53 32) 54 32) 55 32
def zc_73_14 : gE := .inl (.char, 56, .inl zf_58)
def zm_199 : List gE := [zc_0_8, zc_1_9, zc_2_0, zc_3_0, zc_4_0, zc_5_2, zc_6_1, zc_7_0, zc_8_0, zc_9_3, zc_10_9, zc_11_0, zc_12_0, zc_13_0, zc_14_2, zc_15_1, zc_16_0, zc_17_0, zc_18_3, zc_19_9, zc_20_0, zc_21_0, zc_22_0, zc_23_2, zc_24_1, zc_25_0, zc_26_0, zc_27_3, zc_28_4, zc_29_0, zc_30_0, zc_31_9, zc_32_0, zc_33_0, zc_34_0, zc_35_2, zc_36_1, zc_37_0, zc_38_0, zc_39_3, zc_40_9, zc_41_0, zc_42_0, zc_43_0, zc_44_2, zc_45_1, zc_46_0, zc_47_0, zc_48_3, zc_49_1, zc_50_0, zc_51_2, zc_52_0, zc_53_4, zc_54_0, zc_55_1, zc_56_0, zc_57_1, zc_58_0, zc_59_1, zc_60_0, zc_61_1, zc_62_0, zc_63_9, zc_64_0, zc_65_0, zc_66_0, zc_67_0, zc_68_0, zc_69_0, zc_70_0, zc_71_0, zc_72_14, zc_73_14]
def zc_63_10 : gE := .inr (6, [.ref 64, .ref 65, .ref 66, .int 0, .ref 67, .int 0, .int 0, .ref 68, .ref 69, .int 0, .ref 70, .int 0, .ref 71, .int 0, .int 0, .int 0, .int 0, .long 0, .ref 72, .ref 73, .null, .int 0, .null, .null, .null, .null])
def zm_200 : List gE := [zc_0_8, zc_1_9, zc_2_0, zc_3_0, zc_4_0, zc_5_2, zc_6_1, zc_7_0, zc_8_0, zc_9_3, zc_10_9, zc_11_0, zc_12_0, zc_13_0, zc_14_2, zc_15_1, zc_16_0, zc_17_0, zc_18_3, zc_19_9, zc_20_0, zc_21_0, zc_22_0, zc_23_2, zc_24_1, zc_25_0, zc_26_0, zc_27_3, zc_28_4, zc_29_0, zc_30_0, zc_31_9, zc_32_0, zc_33_0, zc_34_0, zc_35_2, zc_36_1, zc_37_0, zc_38_0, zc_39_3, zc_40_9, zc_41_0, zc_42_0, zc_43_0, zc_44_2, zc_45_1, zc_46_0, zc_47_0, zc_48_3, zc_49_1, zc_50_0, zc_51_2, zc_52_0, zc_53_4, zc_54_0, zc_55_1, zc_56_0, zc_57_1, zc_58_0, zc_59_1, zc_60_0, zc_61_1, zc_62_0, zc_63_10, zc_64_0, zc_65_0, zc_66_0, zc_67_0, zc_68_0, zc_69_0, zc_70_0, zc_71_0, zc_72_14, zc_73_14]
def zc_74_0 : gE := .inl (.char, 16, .inl (fun _ => 0))
def zm_201 : List gE := [zc_0_8, zc_1_9, zc_2_0, zc_3_0, zc_4_0, zc_5_2, zc_6_1, zc_7_0, zc_8_0, zc_9_3, zc_10_9, zc_11_0, zc_12_0, zc_13_0, zc_14_2, zc_15_1, zc_16_0, zc_17_0, zc_18_3, zc_19_9, zc_20_0, zc_21_0, zc_22_0, zc_23_2, zc_24_1, zc_25_0, zc_26_0, zc_27_3, zc_28_4, zc_29_0, zc_30_0, zc_31_9, zc_32_0, zc_33_0, zc_34_0, zc_35_2, zc_36_1, zc_37_0, zc_38_0, zc_39_3, zc_40_9, zc_41_0, zc_42_0, zc_43_0, zc_44_2, zc_45_1, zc_46_0, zc_47_0, zc_48_3, zc_49_1, zc_50_0, zc_51_2, zc_52_0, zc_53_4, zc_54_0, zc_55_1, zc_56_0, zc_57_1, zc_58_0, zc_59_1, zc_60_0, zc_61_1, zc_62_0, zc_63_10, zc_64_0, zc_65_0, zc_66_0, zc_67_0, zc_68_0, zc_69_0, zc_70_0, zc_71_0, zc_72_14, zc_73_14, zc_74_0]
def zf_59 : Nat → Int32 := upd (upd (upd (upd (fun _ => 0) 0 98) 1 121) 2 32) 3 32
def zc_74_1 : gE := .inl (.char, 16, .inl zf_59)
def zm_202 : List gE := [zc_0_8, zc_1_9, zc_2_0, zc_3_0, zc_4_0, zc_5_2, zc_6_1, zc_7_0, zc_8_0, zc_9_3, zc_10_9, zc_11_0, zc_12_0, zc_13_0, zc_14_2, zc_15_1, zc_16_0, zc_17_0, zc_18_3, zc_19_9, zc_20_0, zc_21_0, zc_22_0, zc_23_2, zc_24_1, zc_25_0, zc_26_0, zc_27_3, zc_28_4, zc_29_0, zc_30_0, zc_31_9, zc_32_0, zc_33_0, zc_34_0, zc_35_2, zc_36_1, zc_37_0, zc_38_0, zc_39_3, zc_40_9, zc_41_0, zc_42_0, zc_43_0, zc_44_2, zc_45_1, zc_46_0, zc_47_0, zc_48_3, zc_49_1, zc_50_0, zc_51_2, zc_52_0, zc_53_4, zc_54_0, zc_55_1, zc_56_0, zc_57_1, zc_58_0, zc_59_1, zc_60_0, zc_61_1, zc_62_0, zc_63_10, zc_64_0, zc_65_0, zc_66_0, zc_67_0, zc_68_0, zc_69_0, zc_70_0, zc_71_0, zc_72_14, zc_73_14, zc_74_1]
def zf_60 : Nat → Int32 := upd (upd (upd (upd zf_59 4 32) 5 32) 6 32) 7 32
def zc_74_2 : gE := .inl (.char, 16, .inl zf_60)
def zm_203 : List gE := [zc_0_8, zc_1_9, zc_2_0, zc_3_0, zc_4_0, zc_5_2, zc_6_1, zc_7_0, zc_8_0, zc_9_3, zc_10_9, zc_11_0, zc_12_0, zc_13_0, zc_14_2, zc_15_1, zc_16_0, zc_17_0, zc_18_3, zc_19_9, zc_20_0, zc_21_0, zc_22_0, zc_23_2, zc_24_1, zc_25_0, zc_26_0, zc_27_3, zc_28_4, zc_29_0, zc_30_0, zc_31_9, zc_32_0, zc_33_0, zc_34_0, zc_35_2, zc_36_1, zc_37_0, zc_38_0, zc_39_3, zc_40_9, zc_41_0, zc_42_0, zc_43_0, zc_44_2, zc_45_1, zc_46_0, zc_47_0, zc_48_3, zc_49_1, zc_50_0, zc_51_2, zc_52_0, zc_53_4, zc_54_0, zc_55_1, zc_56_0, zc_57_1, zc_58_0, zc_59_1, zc_60_0, zc_61_1, zc_62_0, zc_63_10, zc_64_0, zc_65_0, zc_66_0, zc_67_0, zc_68_0, zc_69_0, zc_70_0, zc_71_0, zc_72_14, zc_73_14, zc_74_2]
def zf_61 : Nat → Int32 := upd (upd (upd (upd zf_60 8 108) 9 101) 10 97) 11 110
def zc_74_3 : gE := .inl (.char, 16, .inl zf_61)
def zm_204 : List gE := [zc_0_8, zc_1_9, zc_2_0, zc_3_0, zc_4_0, zc_5_2, zc_6_1, zc_7_0, zc_8_0, zc_9_3, zc_10_9, zc_11_0, zc_12_0, zc_13_0, zc_14_2, zc_15_1, zc_16_0, zc_17_0, zc_18_3, zc_19_9, zc_20_0, zc_21_0, zc_22_0, zc_23_2, zc_24_1, zc_25_0, zc_26_0, zc_27_3, zc_28_4, zc_29_0, zc_30_0, zc_31_9, zc_32_0, zc_33_0, zc_34_0, zc_35_2, zc_36_1, zc_37_0, zc_38_0, zc_39_3, zc_40_9, zc_41_0, zc_42_0, zc_43_0, zc_44_2, zc_45_1, zc_46_0, zc_47_0, zc_48_3, zc_49_1, zc_50_0, zc_51_2, zc_52_0, zc_53_4, zc_54_0, zc_55_1, zc_56_0, zc_57_1, zc_58_0, zc_59_1, zc_60_0, zc_61_1, zc_62_0, zc_63_10, zc_64_0, zc_65_0, zc_66_0, zc_67_0, zc_68_0, zc_69_0, zc_70_0, zc_71_0, zc_72_14, zc_73_14, zc_74_3]
def zf_62 : Nat → Int32 := upd (upd (upd (upd zf_61 12 32) 13 32) 14 32) 15 32
def zc_74_4 : gE := .inl (.char, 16, .inl zf_62)
def zm_205 : List gE := [zc_0_8, zc_1_9, zc_2_0, zc_3_0, zc_4_0, zc_5_2, zc_6_1, zc_7_0, zc_8_0, zc_9_3, zc_10_9, zc_11_0, zc_12_0, zc_13_0, zc_14_2, zc_15_1, zc_16_0, zc_17_0, zc_18_3, zc_19_9, zc_20_0, zc_21_0, zc_22_0, zc_23_2, zc_24_1, zc_25_0, zc_26_0, zc_27_3, zc_28_4, zc_29_0, zc_30_0, zc_31_9, zc_32_0, zc_33_0, zc_34_0, zc_35_2, zc_36_1, zc_37_0, zc_38_0, zc_39_3, zc_40_9, zc_41_0, zc_42_0, zc_43_0, zc_44_2, zc_45_1, zc_46_0, zc_47_0, zc_48_3, zc_49_1, zc_50_0, zc_51_2, zc_52_0, zc_53_4, zc_54_0, zc_55_1, zc_56_0, zc_57_1, zc_58_0, zc_59_1, zc_60_0, zc_61_1, zc_62_0, zc_63_10, zc_64_0, zc_65_0, zc_66_0, zc_67_0, zc_68_0, zc_69_0, zc_70_0, zc_71_0, zc_72_14, zc_73_14, zc_74_4]
def zc_63_11 : gE := .inr (6, [.ref 64, .ref 65, .ref 66, .int 0, .ref 67, .int 0, .int 0, .ref 68, .ref 69, .int 0, .ref 70, .int 0, .ref 71, .int 0, .int 0, .int 0, .int 0, .long 0, .ref 72, .ref 73, .ref 74, .int 0, .null, .null, .null, .null])
def zm_206 : List gE := [zc_0_8, zc_1_9, zc_2_0, zc_3_0, zc_4_0, zc_5_2, zc_6_1, zc_7_0, zc_8_0, zc_9_3, zc_10_9, zc_11_0, zc_12_0, zc_13_0, zc_14_2, zc_15_1, zc_16_0, zc_17_0, zc_18_3, zc_19_9, zc_20_0, zc_21_0, zc_22_0, zc_23_2, zc_24_1, zc_25_0, zc_26_0, zc_27_3, zc_28_4, zc_29_0, zc_30_0, zc_31_9, zc_32_0, zc_33_0, zc_34_0, zc_35_2, zc_36_1, zc_37_0, zc_38_0, zc_39_3, zc_40_9, zc_41_0, zc_42_0, zc_43_0, zc_44_2, zc_45_1, zc_46_0, zc_47_0, zc_48_3, zc_49_1, zc_50_0, zc_51_2, zc_52_0, zc_53_4, zc_54_0, zc_55_1, zc_56_0, zc_57_1, zc_58_0, zc_59_1, zc_60_0, zc_61_1, zc_62_0, zc_63_11, zc_64_0, zc_65_0, zc_66_0, zc_67_0, zc_68_0, zc_69_0, zc_70_0, zc_71_0, zc_72_14, zc_73_14, zc_74_4]
def zc_75_0 : gE := .inl (.int, 4, .inl (fun _ => 0))
def zm_207 : List gE := [zc_0_8, zc_1_9, zc_2_0, zc_3_0, zc_4_0, zc_5_2, zc_6_1, zc_7_0, zc_8_0, zc_9_3, zc_10_9, zc_11_0, zc_12_0, zc_13_0, zc_14_2, zc_15_1, zc_16_0, zc_17_0, zc_18_3, zc_19_9, zc_20_0, zc_21_0, zc_22_0, zc_23_2, zc_24_1, zc_25_0, zc_26_0, zc_27_3, zc_28_4, zc_29_0, zc_30_0, zc_31_9, zc_32_0, zc_33_0, zc_34_0, zc_35_2, zc_36_1, zc_37_0, zc_38_0, zc_39_3, zc_40_9, zc_41_0, zc_42_0, zc_43_0, zc_44_2, zc_45_1, zc_46_0, zc_47_0, zc_48_3, zc_49_1, zc_50_0, zc_51_2, zc_52_0, zc_53_4, zc_54_0, zc_55_1, zc_56_0, zc_57_1, zc_58_0, zc_59_1, zc_60_0, zc_61_1, zc_62_0, zc_63_11, zc_64_0, zc_65_0, zc_66_0, zc_67_0, zc_68_0, zc_69_0, zc_70_0, zc_71_0, zc_72_14, zc_73_14, zc_74_4, zc_75_0]
def zc_63_12 : gE := .inr (6, [.ref 64, .ref 65, .ref 66, .int 0, .ref 67, .int 0, .int 0, .ref 68, .ref 69, .int 0, .ref 70, .int 0, .ref 71, .int 0, .int 0, .int 0, .int 0, .long 0, .ref 72, .ref 73, .ref 74, .int 0, .ref 75, .null, .null, .null])
def zm_208 : List gE := [zc_0_8, zc_1_9, zc_2_0, zc_3_0, zc_4_0, zc_5_2, zc_6_1, zc_7_0, zc_8_0, zc_9_3, zc_10_9, zc_11_0, zc_12_0, zc_13_0, zc_14_2, zc_15_1, zc_16_0, zc_17_0, zc_18_3, zc_19_9, zc_20_0, zc_21_0, zc_22_0, zc_23_2, zc_24_1, zc_25_0, zc_26_0, zc_27_3, zc_28_4, zc_29_0, zc_30_0, zc_31_9, zc_32_0, zc_33_0, zc_34_0, zc_35_2, zc_36_1, zc_37_0, zc_38_0, zc_39_3, zc_40_9, zc_41_0, zc_42_0, zc_43_0, zc_44_2, zc_45_1, zc_46_0, zc_47_0, zc_48_3, zc_49_1, zc_50_0, zc_51_2, zc_52_0, zc_53_4, zc_54_0, zc_55_1, zc_56_0, zc_57_1, zc_58_0, zc_59_1, zc_60_0, zc_61_1, zc_62_0, zc_63_12, zc_64_0, zc_65_0, zc_66_0, zc_67_0, zc_68_0, zc_69_0, zc_70_0, zc_71_0, zc_72_14, zc_73_14, zc_74_4, zc_75_0]
def zc_76_0 : gE := .inl (.int, 4, .inl (fun _ => 0))
def zm_209 : List gE := [zc_0_8, zc_1_9, zc_2_0, zc_3_0, zc_4_0, zc_5_2, zc_6_1, zc_7_0, zc_8_0, zc_9_3, zc_10_9, zc_11_0, zc_12_0, zc_13_0, zc_14_2, zc_15_1, zc_16_0, zc_17_0, zc_18_3, zc_19_9, zc_20_0, zc_21_0, zc_22_0, zc_23_2, zc_24_1, zc_25_0, zc_26_0, zc_27_3, zc_28_4, zc_29_0, zc_30_0, zc_31_9, zc_32_0, zc_33_0, zc_34_0, zc_35_2, zc_36_1, zc_37_0, zc_38_0, zc_39_3, zc_40_9, zc_41_0, zc_42_0, zc_43_0, zc_44_2, zc_45_1, zc_46_0, zc_47_0, zc_48_3, zc_49_1, zc_50_0, zc_51_2, zc_52_0, zc_53_4, zc_54_0, zc_55_1, zc_56_0, zc_57_1, zc_58_0, zc_59_1, zc_60_0, zc_61_1, zc_62_0, zc_63_12, zc_64_0, zc_65_0, zc_66_0, zc_67_0, zc_68_0, zc_69_0, zc_70_0, zc_71_0, zc_72_14, zc_73_14, zc_74_4, zc_75_0, zc_76_0]
def zc_63_13 : gE := .inr (6, [.ref 64, .ref 65, .ref 66, .int 0, .ref 67, .int 0, .int 0, .ref 68, .ref 69, .int 0, .ref 70, .int 0, .ref 71, .int 0, .int 0, .int 0, .int 0, .long 0, .ref 72, .ref 73, .ref 74, .int 0, .ref 75, .ref 76, .null, .null])
def zm_210 : List gE := [zc_0_8, zc_1_9, zc_2_0, zc_3_0, zc_4_0, zc_5_2, zc_6_1, zc_7_0, zc_8_0, zc_9_3, zc_10_9, zc_11_0, zc_12_0, zc_13_0, zc_14_2, zc_15_1, zc_16_0, zc_17_0, zc_18_3, zc_19_9, zc_20_0, zc_21_0, zc_22_0, zc_23_2, zc_24_1, zc_25_0, zc_26_0, zc_27_3, zc_28_4, zc_29_0, zc_30_0, zc_31_9, zc_32_0, zc_33_0, zc_34_0, zc_35_2, zc_36_1, zc_37_0, zc_38_0, zc_39_3, zc_40_9, zc_41_0, zc_42_0, zc_43_0, zc_44_2, zc_45_1, zc_46_0, zc_47_0, zc_48_3, zc_49_1, zc_50_0, zc_51_2, zc_52_0, zc_53_4, zc_54_0, zc_55_1, zc_56_0, zc_57_1, zc_58_0, zc_59_1, zc_60_0, zc_61_1, zc_62_0, zc_63_13, zc_64_0, zc_65_0, zc_66_0, zc_67_0, zc_68_0, zc_69_0, zc_70_0, zc_71_0, zc_72_14, zc_73_14, zc_74_4, zc_75_0, zc_76_0]
def zc_77_0 : gE := .inl (.int, 160, .inl (fun _ => 0))
def zm_211 : List gE := [zc_0_8, zc_1_9, zc_2_0, zc_3_0, zc_4_0, zc_5_2, zc_6_1, zc_7_0, zc_8_0, zc_9_3, zc_10_9, zc_11_0, zc_12_0, zc_13_0, zc_14_2, zc_15_1, zc_16_0, zc_17_0, zc_18_3, zc_19_9, zc_20_0, zc_21_0, zc_22_0, zc_23_2, zc_24_1, zc_25_0, zc_26_0, zc_27_3, zc_28_4, zc_29_0, zc_30_0, zc_31_9, zc_32_0, zc_33_0, zc_34_0, zc_35_2, zc_36_1, zc_37_0, zc_38_0, zc_39_3, zc_40_9, zc_41_0, zc_42_0, zc_43_0, zc_44_2, zc_45_1, zc_46_0, zc_47_0, zc_48_3, zc_49_1, zc_50_0, zc_51_2, zc_52_0, zc_53_4, zc_54_0, zc_55_1, zc_56_0, zc_57_1, zc_58_0, zc_59_1, zc_60_0, zc_61_1, zc_62_0, zc_63_13, zc_64_0, zc_65_0, zc_66_0, zc_67_0, zc_68_0, zc_69_0, zc_70_0, zc_71_0, zc_72_14, zc_73_14, zc_74_4, zc_75_0, zc_76_0, zc_77_0]
def zc_63_14 : gE := .inr (6, [.ref 64, .ref 65, .ref 66, .int 0, .ref 67, .int 0, .int 0, .ref 68, .ref 69, .int 0, .ref 70, .int 0, .ref 71, .int 0, .int 0, .int 0, .int 0, .long 0, .ref 72, .ref 73, .ref 74, .int 0, .ref 75, .ref 76, .ref 77, .null])
def zm_212 : List gE := [zc_0_8, zc_1_9, zc_2_0, zc_3_0, zc_4_0, zc_5_2, zc_6_1, zc_7_0, zc_8_0, zc_9_3, zc_10_9, zc_11_0, zc_12_0, zc_13_0, zc_14_2, zc_15_1, zc_16_0, zc_17_0, zc_18_3, zc_19_9, zc_20_0, zc_21_0, zc_22_0, zc_23_2, zc_24_1, zc_25_0, zc_26_0, zc_27_3, zc_28_4, zc_29_0, zc_30_0, zc_31_9, zc_32_0, zc_33_0, zc_34_0, zc_35_2, zc_36_1, zc_37_0, zc_38_0, zc_39_3, zc_40_9, zc_41_0, zc_42_0, zc_43_0, zc_44_2, zc_45_1, zc_46_0, zc_47_0, zc_48_3, zc_49_1, zc_50_0, zc_51_2, zc_52_0, zc_53_4, zc_54_0, zc_55_1, zc_56_0, zc_57_1, zc_58_0, zc_59_1, zc_60_0, zc_61_1, zc_62_0, zc_63_14, zc_64_0, zc_65_0, zc_66_0, zc_67_0, zc_68_0, zc_69_0, zc_70_0, zc_71_0, zc_72_14, zc_73_14, zc_74_4, zc_75_0, zc_76_0, zc_77_0]
def zc_78_0 : gE := .inl (.int, 40, .inl (fun _ => 0))
def zm_213 : List gE := [zc_0_8, zc_1_9, zc_2_0, zc_3_0, zc_4_0, zc_5_2, zc_6_1, zc_7_0, zc_8_0, zc_9_3, zc_10_9, zc_11_0, zc_12_0, zc_13_0, zc_14_2, zc_15_1, zc_16_0, zc_17_0, zc_18_3, zc_19_9, zc_20_0, zc_21_0, zc_22_0, zc_23_2, zc_24_1, zc_25_0, zc_26_0, zc_27_3, zc_28_4, zc_29_0, zc_30_0, zc_31_9, zc_32_0, zc_33_0, zc_34_0, zc_35_2, zc_36_1, zc_37_0, zc_38_0, zc_39_3, zc_40_9, zc_41_0, zc_42_0, zc_43_0, zc_44_2, zc_45_1, zc_46_0, zc_47_0, zc_48_3, zc_49_1, zc_50_0, zc_51_2, zc_52_0, zc_53_4, zc_54_0, zc_55_1, zc_56_0, zc_57_1, zc_58_0, zc_59_1, zc_60_0, zc_61_1, zc_62_0, zc_63_14, zc_64_0, zc_65_0, zc_66_0, zc_67_0, zc_68_0, zc_69_0, zc_70_0, zc_71_0, zc_72_14, zc_73_14, zc_74_4, zc_75_0, zc_76_0, zc_77_0, zc_78_0]
def zc_63_15 : gE := .inr (6, [.ref 64, .ref 65, .ref 66, .int 0, .ref 67, .int 0, .int 0, .ref 68, .ref 69, .int 0, .ref 70, .int 0, .ref 71, .int 0, .int 0, .int 0, .int 0, .long 0, .ref 72, .ref 73, .ref 74, .int 0, .ref 75, .ref 76, .ref 77, .ref 78])
def zf_63 : Nat → Int32 := upd (upd (upd (fun _ => 0) 4 1) 6 1) 8 60
def zc_64_1 : gE := .inl (.int, 134, .inl zf_63)
def zm_214 : List gE := [zc_0_8, zc_1_9, zc_2_0, zc_3_0, zc_4_0, zc_5_2, zc_6_1, zc_7_0, zc_8_0, zc_9_3, zc_10_9, zc_11_0, zc_12_0, zc_13_0, zc_14_2, zc_15_1, zc_16_0, zc_17_0, zc_18_3, zc_19_9, zc_20_0, zc_21_0, zc_22_0, zc_23_2, zc_24_1, zc_25_0, zc_26_0, zc_27_3, zc_28_4, zc_29_0, zc_30_0, zc_31_9, zc_32_0, zc_33_0, zc_34_0, zc_35_2, zc_36_1, zc_37_0, zc_38_0, zc_39_3, zc_40_9, zc_41_0, zc_42_0, zc_43_0, zc_44_2, zc_45_1, zc_46_0, zc_47_0, zc_48_3, zc_49_1, zc_50_0, zc_51_2, zc_52_0, zc_53_4, zc_54_0, zc_55_1, zc_56_0, zc_57_1, zc_58_0, zc_59_1, zc_60_0, zc_61_1, zc_62_0, zc_63_15, zc_64_1, zc_65_0, zc_66_0, zc_67_0, zc_68_0, zc_69_0, zc_70_0, zc_71_0, zc_72_14, zc_73_14, zc_74_4, zc_75_0, zc_76_0, zc_77_0, zc_78_0]
def zf_64 : Nat → Int32 := upd (upd (upd zf_63 9 1) 10 20) 11 1
def zc_64_2 : gE := .inl (.int, 134, .inl zf_64)
def zm_215 : List gE := [zc_0_8, zc_1_9, zc_2_0, zc_3_0, zc_4_0, zc_5_2, zc_6_1, zc_7_0, zc_8_0, zc_9_3, zc_10_9, zc_11_0, zc_12_0, zc_13_0, zc_14_2, zc_15_1, zc_16_0, zc_17_0, zc_18_3, zc_19_9, zc_20_0, zc_21_0, zc_22_0, zc_23_2, zc_24_1, zc_25_0, zc_26_0, zc_27_3, zc_28_4, zc_29_0, zc_30_0, zc_31_9, zc_32_0, zc_33_0, zc_34_0, zc_35_2, zc_36_1, zc_37_0, zc_38_0, zc_39_3, zc_40_9, zc_41_0, zc_42_0, zc_43_0, zc_44_2, zc_45_1, zc_46_0, zc_47_0, zc_48_3, zc_49_1, zc_50_0, zc_51_2, zc_52_0, zc_53_4, zc_54_0, zc_55_1, zc_56_0, zc_57_1, zc_58_0, zc_59_1, zc_60_0, zc_61_1, zc_62_0, zc_63_15, zc_64_2, zc_65_0, zc_66_0, zc_67_0, zc_68_0, zc_69_0, zc_70_0, zc_71_0, zc_72_14, zc_73_14, zc_74_4, zc_75_0, zc_76_0, zc_77_0, zc_78_0]
def zf_65 : Nat → Int32 := upd (upd (upd zf_64 12 4) 13 30) 14 2
def zc_64_3 : gE := .inl (.int, 134, .inl zf_65)
def zm_216 : List gE := [zc_0_8, zc_1_9, zc_2_0, zc_3_0, zc_4_0, zc_5_2, zc_6_1, zc_7_0, zc_8_0, zc_9_3, zc_10_9, zc_11_0, zc_12_0, zc_13_0, zc_14_2, zc_15_1, zc_16_0, zc_17_0, zc_18_3, zc_19_9, zc_20_0, zc_21_0, zc_22_0, zc_23_2, zc_24_1, zc_25_0, zc_26_0, zc_27_3, zc_28_4, zc_29_0, zc_30_0, zc_31_9, zc_32_0, zc_33_0, zc_34_0, zc_35_2, zc_36_1, zc_37_0, zc_38_0, zc_39_3, zc_40_9, zc_41_0, zc_42_0, zc_43_0, zc_44_2, zc_45_1, zc_46_0, zc_47_0, zc_48_3, zc_49_1, zc_50_0, zc_51_2, zc_52_0, zc_53_4, zc_54_0, zc_55_1, zc_56_0, zc_57_1, zc_58_0, zc_59_1, zc_60_0, zc_61_1, zc_62_0, zc_63_15, zc_64_3, zc_65_0, zc_66_0, zc_67_0, zc_68_0, zc_69_0, zc_70_0, zc_71_0, zc_72_14, zc_73_14, zc_74_4, zc_75_0, zc_76_0, zc_77_0, zc_78_0]
def zf_66 : Nat → Int32 := upd zf_65 124 (-1)
def zc_64_4 : gE := .inl (.int, 134, .inl zf_66)
def zm_217 : List gE := [zc_0_8, zc_1_9, zc_2_0, zc_3_0, zc_4_0, zc_5_2, zc_6_1, zc_7_0, zc_8_0, zc_9_3, zc_10_9, zc_11_0, zc_12_0, zc_13_0, zc_14_2, zc_15_1, zc_16_0, zc_17_0, zc_18_3, zc_19_9, zc_20_0, zc_21_0, zc_22_0, zc_23_2, zc_24_1, zc_25_0, zc_26_0, zc_27_3, zc_28_4, zc_29_0, zc_30_0, zc_31_9, zc_32_0, zc_33_0, zc_34_0, zc_35_2, zc_36_1, zc_37_0, zc_38_0, zc_39_3, zc_40_9, zc_41_0, zc_42_0, zc_43_0, zc_44_2, zc_45_1, zc_46_0, zc_47_0, zc_48_3, zc_49_1, zc_50_0, zc_51_2, zc_52_0, zc_53_4, zc_54_0, zc_55_1, zc_56_0, zc_57_1, zc_58_0, zc_59_1, zc_60_0, zc_61_1, zc_62_0, zc_63_15, zc_64_4, zc_65_0, zc_66_0, zc_67_0, zc_68_0, zc_69_0, zc_70_0, zc_71_0, zc_72_14, zc_73_14, zc_74_4, zc_75_0, zc_76_0, zc_77_0, zc_78_0]
def zf_67 : Nat → Int32 := upd zf_66 125 (-1)
def zc_64_5 : gE := .inl (.int, 134, .inl zf_67)
def zm_218 : List gE := [zc_0_8, zc_1_9, zc_2_0, zc_3_0, zc_4_0, zc_5_2, zc_6_1, zc_7_0, zc_8_0, zc_9_3, zc_10_9, zc_11_0, zc_12_0, zc_13_0, zc_14_2, zc_15_1, zc_16_0, zc_17_0, zc_18_3, zc_19_9, zc_20_0, zc_21_0, zc_22_0, zc_23_2, zc_24_1, zc_25_0, zc_26_0, zc_27_3, zc_28_4, zc_29_0, zc_30_0, zc_31_9, zc_32_0, zc_33_0, zc_34_0, zc_35_2, zc_36_1, zc_37_0, zc_38_0, zc_39_3, zc_40_9, zc_41_0, zc_42_0, zc_43_0, zc_44_2, zc_45_1, zc_46_0, zc_47_0, zc_48_3, zc_49_1, zc_50_0, zc_51_2, zc_52_0, zc_53_4, zc_54_0, zc_55_1, zc_56_0, zc_57_1, zc_58_0, zc_59_1, zc_60_0, zc_61_1, zc_62_0, zc_63_15, zc_64_5, zc_65_0, zc_66_0, zc_67_0, zc_68_0, zc_69_0, zc_70_0, zc_71_0, zc_72_14, zc_73_14, zc_74_4, zc_75_0, zc_76_0, zc_77_0, zc_78_0]
def zf_68 : Nat → Int32 := upd (upd zf_67 126 (-1)) 127 (-1)
def zc_64_6 : gE := .inl (.int, 134, .inl zf_68)
def zm_219 : List gE := [zc_0_8, zc_1_9, zc_2_0, zc_3_0, zc_4_0, zc_5_2, zc_6_1, zc_7_0, zc_8_0, zc_9_3, zc_10_9, zc_11_0, zc_12_0, zc_13_0, zc_14_2, zc_15_1, zc_16_0, zc_17_0, zc_18_3, zc_19_9, zc_20_0, zc_21_0, zc_22_0, zc_23_2, zc_24_1, zc_25_0, zc_26_0, zc_27_3, zc_28_4, zc_29_0, zc_30_0, zc_31_9, zc_32_0, zc_33_0, zc_34_0, zc_35_2, zc_36_1, zc_37_0, zc_38_0, zc_39_3, zc_40_9, zc_41_0, zc_42_0, zc_43_0, zc_44_2, zc_45_1, zc_46_0, zc_47_0, zc_48_3, zc_49_1, zc_50_0, zc_51_2, zc_52_0, zc_53_4, zc_54_0, zc_55_1, zc_56_0, zc_57_1, zc_58_0, zc_59_1, zc_60_0, zc_61_1, zc_62_0, zc_63_15, zc_64_6, zc_65_0, zc_66_0, zc_67_0, zc_68_0, zc_69_0, zc_70_0, zc_71_0, zc_72_14, zc_73_14, zc_74_4, zc_75_0, zc_76_0, zc_77_0, zc_78_0]
def zf_69 : Nat → Int32 := upd zf_68 128 (-1)
def zc_64_7 : gE := .inl (.int, 134, .inl zf_69)
def zm_220 : List gE := [zc_0_8, zc_1_9, zc_2_0, zc_3_0, zc_4_0, zc_5_2, zc_6_1, zc_7_0, zc_8_0, zc_9_3, zc_10_9, zc_11_0, zc_12_0, zc_13_0, zc_14_2, zc_15_1, zc_16_0, zc_17_0, zc_18_3, zc_19_9, zc_20_0, zc_21_0, zc_22_0, zc_23_2, zc_24_1, zc_25_0, zc_26_0, zc_27_3, zc_28_4, zc_29_0, zc_30_0, zc_31_9, zc_32_0, zc_33_0, zc_34_0, zc_35_2, zc_36_1, zc_37_0, zc_38_0, zc_39_3, zc_40_9, zc_41_0, zc_42_0, zc_43_0, zc_44_2, zc_45_1, zc_46_0, zc_47_0, zc_48_3, zc_49_1, zc_50_0, zc_51_2, zc_52_0, zc_53_4, zc_54_0, zc_55_1, zc_56_0, zc_57_1, zc_58_0, zc_59_1, zc_60_0, zc_61_1, zc_62_0, zc_63_15, zc_64_7, zc_65_0, zc_66_0, zc_67_0, zc_68_0, zc_69_0, zc_70_0, zc_71_0, zc_72_14, zc_73_14, zc_74_4, zc_75_0, zc_76_0, zc_77_0, zc_78_0]
def zf_70 : Nat → Int32 := upd zf_69 129 (-1)
def zc_64_8 : gE := .inl (.int, 134, .inl zf_70)
def zm_221 : List gE := [zc_0_8, zc_1_9, zc_2_0, zc_3_0, zc_4_0, zc_5_2, zc_6_1, zc_7_0, zc_8_0, zc_9_3, zc_10_9, zc_11_0, zc_12_0, zc_13_0, zc_14_2, zc_15_1, zc_16_0, zc_17_0, zc_18_3, zc_19_9, zc_20_0, zc_21_0, zc_22_0, zc_23_2, zc_24_1, zc_25_0, zc_26_0, zc_27_3, zc_28_4, zc_29_0, zc_30_0, zc_31_9, zc_32_0, zc_33_0, zc_34_0, zc_35_2, zc_36_1, zc_37_0, zc_38_0, zc_39_3, zc_40_9, zc_41_0, zc_42_0, zc_43_0, zc_44_2, zc_45_1, zc_46_0, zc_47_0, zc_48_3, zc_49_1, zc_50_0, zc_51_2, zc_52_0, zc_53_4, zc_54_0, zc_55_1, zc_56_0, zc_57_1, zc_58_0, zc_59_1, zc_60_0, zc_61_1, zc_62_0, zc_63_15, zc_64_8, zc_65_0, zc_66_0, zc_67_0, zc_68_0, zc_69_0, zc_70_0, zc_71_0, zc_72_14, zc_73_14, zc_74_4, zc_75_0, zc_76_0, zc_77_0, zc_78_0]
def zf_71 : Nat → Int32 := upd (upd zf_70 130 (-1)) 131 (-1)
def zc_64_9 : gE := .inl (.int, 134, .inl zf_71)
def zm_222 : List gE := [zc_0_8, zc_1_9, zc_2_0, zc_3_0, zc_4_0, zc_5_2, zc_6_1, zc_7_0, zc_8_0, zc_9_3, zc_10_9, zc_11_0, zc_12_0, zc_13_0, zc_14_2, zc_15_1, zc_16_0, zc_17_0, zc_18_3, zc_19_9, zc_20_0, zc_21_0, zc_22_0, zc_23_2, zc_24_1, zc_25_0, zc_26_0, zc_27_3, zc_28_4, zc_29_0, zc_30_0, zc_31_9, zc_32_0, zc_33_0, zc_34_0, zc_35_2, zc_36_1, zc_37_0, zc_38_0, zc_39_3, zc_40_9, zc_41_0, zc_42_0, zc_43_0, zc_44_2, zc_45_1, zc_46_0, zc_47_0, zc_48_3, zc_49_1, zc_50_0, zc_51_2, zc_52_0, zc_53_4, zc_54_0, zc_55_1, zc_56_0, zc_57_1, zc_58_0, zc_59_1, zc_60_0, zc_61_1, zc_62_0, zc_63_15, zc_64_9, zc_65_0, zc_66_0, zc_67_0, zc_68_0, zc_69_0, zc_70_0, zc_71_0, zc_72_14, zc_73_14, zc_74_4, zc_75_0, zc_76_0, zc_77_0, zc_78_0]
def zf_72 : Nat → Int32 := upd zf_71 132 (-1)
def zc_64_10 : gE := .inl (.int, 134, .inl zf_72)
def zm_223 : List gE := [zc_0_8, zc_1_9, zc_2_0, zc_3_0, zc_4_0, zc_5_2, zc_6_1, zc_7_0, zc_8_0, zc_9_3, zc_10_9, zc_11_0, zc_12_0, zc_13_0, zc_14_2, zc_15_1, zc_16_0, zc_17_0, zc_18_3, zc_19_9, zc_20_0, zc_21_0, zc_22_0, zc_23_2, zc_24_1, zc_25_0, zc_26_0, zc_27_3, zc_28_4, zc_29_0, zc_30_0, zc_31_9, zc_32_0, zc_33_0, zc_34_0, zc_35_2, zc_36_1, zc_37_0, zc_38_0, zc_39_3, zc_40_9, zc_41_0, zc_42_0, zc_43_0, zc_44_2, zc_45_1, zc_46_0, zc_47_0, zc_48_3, zc_49_1, zc_50_0, zc_51_2, zc_52_0, zc_53_4, zc_54_0, zc_55_1, zc_56_0, zc_57_1, zc_58_0, zc_59_1, zc_60_0, zc_61_1, zc_62_0, zc_63_15, zc_64_10, zc_65_0, zc_66_0, zc_67_0, zc_68_0, zc_69_0, zc_70_0, zc_71_0, zc_72_14, zc_73_14, zc_74_4, zc_75_0, zc_76_0, zc_77_0, zc_78_0]
def zf_73 : Nat → Int32 := upd zf_72 133 (-1)
def zc_64_11 : gE := .inl (.int, 134, .inl zf_73)
def zm_224 : List gE := [zc_0_8, zc_1_9, zc_2_0, zc_3_0, zc_4_0, zc_5_2, zc_6_1, zc_7_0, zc_8_0, zc_9_3, zc_10_9, zc_11_0, zc_12_0, zc_13_0, zc_14_2, zc_15_1, zc_16_0, zc_17_0, zc_18_3, zc_19_9, zc_20_0, zc_21_0, zc_22_0, zc_23_2, zc_24_1, zc_25_0, zc_26_0, zc_27_3, zc_28_4, zc_29_0, zc_30_0, zc_31_9, zc_32_0, zc_33_0, zc_34_0, zc_35_2, zc_36_1, zc_37_0, zc_38_0, zc_39_3, zc_40_9, zc_41_0, zc_42_0, zc_43_0, zc_44_2, zc_45_1, zc_46_0, zc_47_0, zc_48_3, zc_49_1, zc_50_0, zc_51_2, zc_52_0, zc_53_4, zc_54_0, zc_55_1, zc_56_0, zc_57_1, zc_58_0, zc_59_1, zc_60_0, zc_61_1, zc_62_0, zc_63_15, zc_64_11, zc_65_0, zc_66_0, zc_67_0, zc_68_0, zc_69_0, zc_70_0, zc_71_0, zc_72_14, zc_73_14, zc_74_4, zc_75_0, zc_76_0, zc_77_0, zc_78_0]
theorem zt_1 {L : Nat} {xs : Nat → Int32} {D : Nat} : hY (gO L xs) (D + 1) zR_9 0 (gIni 1 [.ref 1]) [] zm_2 none zm_23 8 129 := by
  refine hY_go 16 26 [some (.ref 1)] [.int 0, .ref 1] zm_3 rfl ?_
  refine hY_go 3 32 [some (.ref 1)] [.int 8, .ref 1] zm_3 rfl ?_
  refine hY_new (x := 7) (y := 121) 34 zc_2_0 [.ref 1] 8 2 rfl rfl ?_
  refine hY_go 0 34 [some (.ref 1)] [.ref 2, .ref 1] zm_4 rfl ?_
  refine hY_go 3 40 [some (.ref 1)] [.int 8, .ref 1] zm_5 rfl ?_
  refine hY_new (x := 6) (y := 113) 42 zc_3_0 [.ref 1] 8 3 rfl rfl ?_
  refine hY_go 0 42 [some (.ref 1)] [.ref 3, .ref 1] zm_6 rfl ?_
  refine hY_go 3 48 [some (.ref 1)] [.int 8, .ref 1] zm_7 rfl ?_
  refine hY_new (x := 5) (y := 105) 50 zc_4_0 [.ref 1] 8 4 rfl rfl ?_
  refine hY_go 0 50 [some (.ref 1)] [.ref 4, .ref 1] zm_8 rfl ?_
  refine hY_go 3 56 [some (.ref 1)] [.int 6, .ref 1] zm_9 rfl ?_
  refine hY_new (x := 4) (y := 99) 58 zc_5_0 [.ref 1] 6 5 rfl rfl ?_
  refine hY_go 0 58 [some (.ref 1)] [.ref 5, .ref 1] zm_10 rfl ?_
  refine hY_go 16 75 [some (.ref 1)] [.ref 5, .ref 1] zm_11 rfl ?_
  refine hY_go 11 89 [some (.ref 1)] [.int 4, .ref 1] zm_12 rfl ?_
  refine hY_new (x := 3) (y := 95) 91 zc_6_0 [.ref 1] 4 6 rfl rfl ?_
  refine hY_go 0 91 [some (.ref 1)] [.ref 6, .ref 1] zm_13 rfl ?_
  refine hY_go 16 108 [some (.ref 1)] [.ref 6, .ref 1] zm_14 rfl ?_
  refine hY_go 3 114 [some (.ref 1)] [.int 61, .ref 1] zm_15 rfl ?_
  refine hY_new (x := 2) (y := 34) 116 zc_7_0 [.ref 1] 61 7 rfl rfl ?_
  refine hY_go 0 116 [some (.ref 1)] [.ref 7, .ref 1] zm_16 rfl ?_
  refine hY_go 3 122 [some (.ref 1)] [.int 24, .ref 1] zm_17 rfl ?_
  refine hY_new (x := 1) (y := 10) 124 zc_8_0 [.ref 1] 24 8 rfl rfl ?_
  refine hY_go 0 124 [some (.ref 1)] [.ref 8, .ref 1] zm_18 rfl ?_
  refine hY_go 3 130 [some (.ref 1)] [.int 10, .ref 1] zm_19 rfl ?_
  refine hY_new (x := 0) (y := 0) 132 zc_9_0 [.ref 1] 10 9 rfl rfl ?_
  refine hY_go 0 132 [some (.ref 1)] [.ref 9, .ref 1] zm_20 rfl ?_
  refine hY_go 16 148 [some (.ref 1)] [.ref 9, .ref 1] zm_21 rfl ?_
  refine hY_go 16 166 [some (.ref 1)] [.ref 9, .ref 1] zm_22 rfl ?_
  refine hY_go 9 179 [some (.ref 1)] [] zm_23 rfl ?_
  exact hY_end rfl rfl
theorem zt_2 {L : Nat} {xs : Nat → Int32} {D : Nat} : hY (gO L xs) (D + 1) zR_9 0 (gIni 1 [.ref 10]) [] zm_25 none zm_46 8 129 := by
  refine hY_go 16 26 [some (.ref 10)] [.int 0, .ref 10] zm_26 rfl ?_
  refine hY_go 3 32 [some (.ref 10)] [.int 8, .ref 10] zm_26 rfl ?_
  refine hY_new (x := 7) (y := 121) 34 zc_11_0 [.ref 10] 8 11 rfl rfl ?_
  refine hY_go 0 34 [some (.ref 10)] [.ref 11, .ref 10] zm_27 rfl ?_
  refine hY_go 3 40 [some (.ref 10)] [.int 8, .ref 10] zm_28 rfl ?_
  refine hY_new (x := 6) (y := 113) 42 zc_12_0 [.ref 10] 8 12 rfl rfl ?_
  refine hY_go 0 42 [some (.ref 10)] [.ref 12, .ref 10] zm_29 rfl ?_
  refine hY_go 3 48 [some (.ref 10)] [.int 8, .ref 10] zm_30 rfl ?_
  refine hY_new (x := 5) (y := 105) 50 zc_13_0 [.ref 10] 8 13 rfl rfl ?_
  refine hY_go 0 50 [some (.ref 10)] [.ref 13, .ref 10] zm_31 rfl ?_
  refine hY_go 3 56 [some (.ref 10)] [.int 6, .ref 10] zm_32 rfl ?_
  refine hY_new (x := 4) (y := 99) 58 zc_14_0 [.ref 10] 6 14 rfl rfl ?_
  refine hY_go 0 58 [some (.ref 10)] [.ref 14, .ref 10] zm_33 rfl ?_
  refine hY_go 16 75 [some (.ref 10)] [.ref 14, .ref 10] zm_34 rfl ?_
  refine hY_go 11 89 [some (.ref 10)] [.int 4, .ref 10] zm_35 rfl ?_
  refine hY_new (x := 3) (y := 95) 91 zc_15_0 [.ref 10] 4 15 rfl rfl ?_
  refine hY_go 0 91 [some (.ref 10)] [.ref 15, .ref 10] zm_36 rfl ?_
  refine hY_go 16 108 [some (.ref 10)] [.ref 15, .ref 10] zm_37 rfl ?_
  refine hY_go 3 114 [some (.ref 10)] [.int 61, .ref 10] zm_38 rfl ?_
  refine hY_new (x := 2) (y := 34) 116 zc_16_0 [.ref 10] 61 16 rfl rfl ?_
  refine hY_go 0 116 [some (.ref 10)] [.ref 16, .ref 10] zm_39 rfl ?_
  refine hY_go 3 122 [some (.ref 10)] [.int 24, .ref 10] zm_40 rfl ?_
  refine hY_new (x := 1) (y := 10) 124 zc_17_0 [.ref 10] 24 17 rfl rfl ?_
  refine hY_go 0 124 [some (.ref 10)] [.ref 17, .ref 10] zm_41 rfl ?_
  refine hY_go 3 130 [some (.ref 10)] [.int 10, .ref 10] zm_42 rfl ?_
  refine hY_new (x := 0) (y := 0) 132 zc_18_0 [.ref 10] 10 18 rfl rfl ?_
  refine hY_go 0 132 [some (.ref 10)] [.ref 18, .ref 10] zm_43 rfl ?_
  refine hY_go 16 148 [some (.ref 10)] [.ref 18, .ref 10] zm_44 rfl ?_
  refine hY_go 16 166 [some (.ref 10)] [.ref 18, .ref 10] zm_45 rfl ?_
  refine hY_go 9 179 [some (.ref 10)] [] zm_46 rfl ?_
  exact hY_end rfl rfl
theorem zt_3 {L : Nat} {xs : Nat → Int32} {D : Nat} : hY (gO L xs) (D + 1) zR_9 0 (gIni 1 [.ref 19]) [] zm_48 none zm_69 8 129 := by
  refine hY_go 16 26 [some (.ref 19)] [.int 0, .ref 19] zm_49 rfl ?_
  refine hY_go 3 32 [some (.ref 19)] [.int 8, .ref 19] zm_49 rfl ?_
  refine hY_new (x := 7) (y := 121) 34 zc_20_0 [.ref 19] 8 20 rfl rfl ?_
  refine hY_go 0 34 [some (.ref 19)] [.ref 20, .ref 19] zm_50 rfl ?_
  refine hY_go 3 40 [some (.ref 19)] [.int 8, .ref 19] zm_51 rfl ?_
  refine hY_new (x := 6) (y := 113) 42 zc_21_0 [.ref 19] 8 21 rfl rfl ?_
  refine hY_go 0 42 [some (.ref 19)] [.ref 21, .ref 19] zm_52 rfl ?_
  refine hY_go 3 48 [some (.ref 19)] [.int 8, .ref 19] zm_53 rfl ?_
  refine hY_new (x := 5) (y := 105) 50 zc_22_0 [.ref 19] 8 22 rfl rfl ?_
  refine hY_go 0 50 [some (.ref 19)] [.ref 22, .ref 19] zm_54 rfl ?_
  refine hY_go 3 56 [some (.ref 19)] [.int 6, .ref 19] zm_55 rfl ?_
  refine hY_new (x := 4) (y := 99) 58 zc_23_0 [.ref 19] 6 23 rfl rfl ?_
  refine hY_go 0 58 [some (.ref 19)] [.ref 23, .ref 19] zm_56 rfl ?_
  refine hY_go 16 75 [some (.ref 19)] [.ref 23, .ref 19] zm_57 rfl ?_
  refine hY_go 11 89 [some (.ref 19)] [.int 4, .ref 19] zm_58 rfl ?_
  refine hY_new (x := 3) (y := 95) 91 zc_24_0 [.ref 19] 4 24 rfl rfl ?_
  refine hY_go 0 91 [some (.ref 19)] [.ref 24, .ref 19] zm_59 rfl ?_
  refine hY_go 16 108 [some (.ref 19)] [.ref 24, .ref 19] zm_60 rfl ?_
  refine hY_go 3 114 [some (.ref 19)] [.int 61, .ref 19] zm_61 rfl ?_
  refine hY_new (x := 2) (y := 34) 116 zc_25_0 [.ref 19] 61 25 rfl rfl ?_
  refine hY_go 0 116 [some (.ref 19)] [.ref 25, .ref 19] zm_62 rfl ?_
  refine hY_go 3 122 [some (.ref 19)] [.int 24, .ref 19] zm_63 rfl ?_
  refine hY_new (x := 1) (y := 10) 124 zc_26_0 [.ref 19] 24 26 rfl rfl ?_
  refine hY_go 0 124 [some (.ref 19)] [.ref 26, .ref 19] zm_64 rfl ?_
  refine hY_go 3 130 [some (.ref 19)] [.int 10, .ref 19] zm_65 rfl ?_
  refine hY_new (x := 0) (y := 0) 132 zc_27_0 [.ref 19] 10 27 rfl rfl ?_
  refine hY_go 0 132 [some (.ref 19)] [.ref 27, .ref 19] zm_66 rfl ?_
  refine hY_go 16 148 [some (.ref 19)] [.ref 27, .ref 19] zm_67 rfl ?_
  refine hY_go 16 166 [some (.ref 19)] [.ref 27, .ref 19] zm_68 rfl ?_
  refine hY_go 9 179 [some (.ref 19)] [] zm_69 rfl ?_
  exact hY_end rfl rfl
theorem zt_4 {L : Nat} {xs : Nat → Int32} {D : Nat} : hY (gO L xs) (D + 1) zR_9 0 (gIni 1 [.ref 31]) [] zm_76 none zm_97 8 129 := by
  refine hY_go 16 26 [some (.ref 31)] [.int 0, .ref 31] zm_77 rfl ?_
  refine hY_go 3 32 [some (.ref 31)] [.int 8, .ref 31] zm_77 rfl ?_
  refine hY_new (x := 7) (y := 121) 34 zc_32_0 [.ref 31] 8 32 rfl rfl ?_
  refine hY_go 0 34 [some (.ref 31)] [.ref 32, .ref 31] zm_78 rfl ?_
  refine hY_go 3 40 [some (.ref 31)] [.int 8, .ref 31] zm_79 rfl ?_
  refine hY_new (x := 6) (y := 113) 42 zc_33_0 [.ref 31] 8 33 rfl rfl ?_
  refine hY_go 0 42 [some (.ref 31)] [.ref 33, .ref 31] zm_80 rfl ?_
  refine hY_go 3 48 [some (.ref 31)] [.int 8, .ref 31] zm_81 rfl ?_
  refine hY_new (x := 5) (y := 105) 50 zc_34_0 [.ref 31] 8 34 rfl rfl ?_
  refine hY_go 0 50 [some (.ref 31)] [.ref 34, .ref 31] zm_82 rfl ?_
  refine hY_go 3 56 [some (.ref 31)] [.int 6, .ref 31] zm_83 rfl ?_
  refine hY_new (x := 4) (y := 99) 58 zc_35_0 [.ref 31] 6 35 rfl rfl ?_
  refine hY_go 0 58 [some (.ref 31)] [.ref 35, .ref 31] zm_84 rfl ?_
  refine hY_go 16 75 [some (.ref 31)] [.ref 35, .ref 31] zm_85 rfl ?_
  refine hY_go 11 89 [some (.ref 31)] [.int 4, .ref 31] zm_86 rfl ?_
  refine hY_new (x := 3) (y := 95) 91 zc_36_0 [.ref 31] 4 36 rfl rfl ?_
  refine hY_go 0 91 [some (.ref 31)] [.ref 36, .ref 31] zm_87 rfl ?_
  refine hY_go 16 108 [some (.ref 31)] [.ref 36, .ref 31] zm_88 rfl ?_
  refine hY_go 3 114 [some (.ref 31)] [.int 61, .ref 31] zm_89 rfl ?_
  refine hY_new (x := 2) (y := 34) 116 zc_37_0 [.ref 31] 61 37 rfl rfl ?_
  refine hY_go 0 116 [some (.ref 31)] [.ref 37, .ref 31] zm_90 rfl ?_
  refine hY_go 3 122 [some (.ref 31)] [.int 24, .ref 31] zm_91 rfl ?_
  refine hY_new (x := 1) (y := 10) 124 zc_38_0 [.ref 31] 24 38 rfl rfl ?_
  refine hY_go 0 124 [some (.ref 31)] [.ref 38, .ref 31] zm_92 rfl ?_
  refine hY_go 3 130 [some (.ref 31)] [.int 10, .ref 31] zm_93 rfl ?_
  refine hY_new (x := 0) (y := 0) 132 zc_39_0 [.ref 31] 10 39 rfl rfl ?_
  refine hY_go 0 132 [some (.ref 31)] [.ref 39, .ref 31] zm_94 rfl ?_
  refine hY_go 16 148 [some (.ref 31)] [.ref 39, .ref 31] zm_95 rfl ?_
  refine hY_go 16 166 [some (.ref 31)] [.ref 39, .ref 31] zm_96 rfl ?_
  refine hY_go 9 179 [some (.ref 31)] [] zm_97 rfl ?_
  exact hY_end rfl rfl
theorem zt_5 {L : Nat} {xs : Nat → Int32} {D : Nat} : hY (gO L xs) (D + 1) zR_9 0 (gIni 1 [.ref 40]) [] zm_99 none zm_120 8 129 := by
  refine hY_go 16 26 [some (.ref 40)] [.int 0, .ref 40] zm_100 rfl ?_
  refine hY_go 3 32 [some (.ref 40)] [.int 8, .ref 40] zm_100 rfl ?_
  refine hY_new (x := 7) (y := 121) 34 zc_41_0 [.ref 40] 8 41 rfl rfl ?_
  refine hY_go 0 34 [some (.ref 40)] [.ref 41, .ref 40] zm_101 rfl ?_
  refine hY_go 3 40 [some (.ref 40)] [.int 8, .ref 40] zm_102 rfl ?_
  refine hY_new (x := 6) (y := 113) 42 zc_42_0 [.ref 40] 8 42 rfl rfl ?_
  refine hY_go 0 42 [some (.ref 40)] [.ref 42, .ref 40] zm_103 rfl ?_
  refine hY_go 3 48 [some (.ref 40)] [.int 8, .ref 40] zm_104 rfl ?_
  refine hY_new (x := 5) (y := 105) 50 zc_43_0 [.ref 40] 8 43 rfl rfl ?_
  refine hY_go 0 50 [some (.ref 40)] [.ref 43, .ref 40] zm_105 rfl ?_
  refine hY_go 3 56 [some (.ref 40)] [.int 6, .ref 40] zm_106 rfl ?_
  refine hY_new (x := 4) (y := 99) 58 zc_44_0 [.ref 40] 6 44 rfl rfl ?_
  refine hY_go 0 58 [some (.ref 40)] [.ref 44, .ref 40] zm_107 rfl ?_
  refine hY_go 16 75 [some (.ref 40)] [.ref 44, .ref 40] zm_108 rfl ?_
  refine hY_go 11 89 [some (.ref 40)] [.int 4, .ref 40] zm_109 rfl ?_
  refine hY_new (x := 3) (y := 95) 91 zc_45_0 [.ref 40] 4 45 rfl rfl ?_
  refine hY_go 0 91 [some (.ref 40)] [.ref 45, .ref 40] zm_110 rfl ?_
  refine hY_go 16 108 [some (.ref 40)] [.ref 45, .ref 40] zm_111 rfl ?_
  refine hY_go 3 114 [some (.ref 40)] [.int 61, .ref 40] zm_112 rfl ?_
  refine hY_new (x := 2) (y := 34) 116 zc_46_0 [.ref 40] 61 46 rfl rfl ?_
  refine hY_go 0 116 [some (.ref 40)] [.ref 46, .ref 40] zm_113 rfl ?_
  refine hY_go 3 122 [some (.ref 40)] [.int 24, .ref 40] zm_114 rfl ?_
  refine hY_new (x := 1) (y := 10) 124 zc_47_0 [.ref 40] 24 47 rfl rfl ?_
  refine hY_go 0 124 [some (.ref 40)] [.ref 47, .ref 40] zm_115 rfl ?_
  refine hY_go 3 130 [some (.ref 40)] [.int 10, .ref 40] zm_116 rfl ?_
  refine hY_new (x := 0) (y := 0) 132 zc_48_0 [.ref 40] 10 48 rfl rfl ?_
  refine hY_go 0 132 [some (.ref 40)] [.ref 48, .ref 40] zm_117 rfl ?_
  refine hY_go 16 148 [some (.ref 40)] [.ref 48, .ref 40] zm_118 rfl ?_
  refine hY_go 16 166 [some (.ref 40)] [.ref 48, .ref 40] zm_119 rfl ?_
  refine hY_go 9 179 [some (.ref 40)] [] zm_120 rfl ?_
  exact hY_end rfl rfl
theorem zt_6 {L : Nat} {xs : Nat → Int32} {D : Nat} : hY (gO L xs) (D + 2) zR_44 0 (gIni 1 [.ref 28]) [] zm_71 none zm_121 20 4066 := by
  refine hY_go 4 7 [some (.ref 28)] [.int 61, .ref 28] zm_71 rfl ?_
  refine hY_new (x := 19) (y := 4005) 9 zc_29_0 [.ref 28] 61 29 rfl rfl ?_
  refine hY_go 0 9 [some (.ref 28)] [.ref 29, .ref 28] zm_72 rfl ?_
  refine hY_go 3 16 [some (.ref 28)] [.int 3721, .ref 28] zm_73 rfl ?_
  refine hY_new (x := 18) (y := 284) 18 zc_30_0 [.ref 28] 3721 30 rfl rfl ?_
  refine hY_go 0 18 [some (.ref 28)] [.ref 30, .ref 28] zm_74 rfl ?_
  refine hY_go 2 22 [some (.ref 28)] [.ref 28] zm_75 rfl ?_
  refine hY_new (x := 17) (y := 271) 25 zc_31_0 [.ref 28] 13 31 rfl rfl ?_
  refine hY_go 0 25 [some (.ref 28)] [.ref 31, .ref 28] zm_76 rfl ?_
  refine hY_go 1 26 [some (.ref 28)] [.ref 31, .ref 31, .ref 28] zm_76 rfl ?_
  refine hY_call (x1 := 8) (y1 := 129) (x := 9) (y := 142) (r' := zR_9) (vals := [.ref 31]) (rest := [.ref 31, .ref 28]) (M1 := zm_97) (v1 := none) rfl (zt_4 (D := D)) ?_
  refine hY_go 0 29 [some (.ref 28)] [.ref 31, .ref 28] zm_97 rfl ?_
  refine hY_go 2 33 [some (.ref 28)] [.ref 28] zm_98 rfl ?_
  refine hY_new (x := 8) (y := 129) 36 zc_40_0 [.ref 28] 13 40 rfl rfl ?_
  refine hY_go 0 36 [some (.ref 28)] [.ref 40, .ref 28] zm_99 rfl ?_
  refine hY_go 1 37 [some (.ref 28)] [.ref 40, .ref 40, .ref 28] zm_99 rfl ?_
  refine hY_call (x1 := 8) (y1 := 129) (x := 0) (y := 0) (r' := zR_9) (vals := [.ref 40]) (rest := [.ref 40, .ref 28]) (M1 := zm_120) (v1 := none) rfl (zt_5 (D := D)) ?_
  refine hY_go 0 40 [some (.ref 28)] [.ref 40, .ref 28] zm_120 rfl ?_
  refine hY_go 10 58 [some (.ref 28)] [] zm_121 rfl ?_
  exact hY_end rfl rfl
theorem zt_7 {L : Nat} {xs : Nat → Int32} {D : Nat} : hY (gO L xs) (D + 1) zR_58 0 (gIni 1 [.ref 49]) [] zm_123 none zm_125 1 120 := by
  refine hY_go 4 7 [some (.ref 49)] [.int 120, .ref 49] zm_123 rfl ?_
  refine hY_new (x := 0) (y := 0) 9 zc_50_0 [.ref 49] 120 50 rfl rfl ?_
  refine hY_go 0 9 [some (.ref 49)] [.ref 50, .ref 49] zm_124 rfl ?_
  refine hY_go 4 17 [some (.ref 49)] [] zm_125 rfl ?_
  exact hY_end rfl rfl
theorem zt_8 {L : Nat} {xs : Nat → Int32} {D : Nat} : hY (gO L xs) (D + 1) zR_30 0 (gIni 1 [.ref 51]) [] zm_127 none zm_130 1 0 := by
  refine hY_go 4 6 [some (.ref 51)] [.int 0, .ref 51] zm_127 rfl ?_
  refine hY_new (x := 0) (y := 0) 8 zc_52_0 [.ref 51] 0 52 rfl rfl ?_
  refine hY_go 0 8 [some (.ref 51)] [.ref 52, .ref 51] zm_128 rfl ?_
  refine hY_go 16 36 [some (.ref 51)] [] zm_129 rfl ?_
  refine hY_go 3 41 [some (.ref 51)] [] zm_130 rfl ?_
  exact hY_end rfl rfl
theorem zt_9 {L : Nat} {xs : Nat → Int32} {D : Nat} : hY (gO L xs) (D + 1) zR_52 0 (gIni 1 [.ref 55]) [] zm_136 none zm_138 1 40 := by
  refine hY_go 4 7 [some (.ref 55)] [.int 40, .ref 55] zm_136 rfl ?_
  refine hY_new (x := 0) (y := 0) 9 zc_56_0 [.ref 55] 40 56 rfl rfl ?_
  refine hY_go 0 9 [some (.ref 55)] [.ref 56, .ref 55] zm_137 rfl ?_
  refine hY_go 7 22 [some (.ref 55)] [] zm_138 rfl ?_
  exact hY_end rfl rfl
theorem zt_10 {L : Nat} {xs : Nat → Int32} {D : Nat} : hY (gO L xs) (D + 1) zR_52 0 (gIni 1 [.ref 57]) [] zm_140 none zm_142 1 40 := by
  refine hY_go 4 7 [some (.ref 57)] [.int 40, .ref 57] zm_140 rfl ?_
  refine hY_new (x := 0) (y := 0) 9 zc_58_0 [.ref 57] 40 58 rfl rfl ?_
  refine hY_go 0 9 [some (.ref 57)] [.ref 58, .ref 57] zm_141 rfl ?_
  refine hY_go 7 22 [some (.ref 57)] [] zm_142 rfl ?_
  exact hY_end rfl rfl
theorem zt_11 {L : Nat} {xs : Nat → Int32} {D : Nat} : hY (gO L xs) (D + 1) zR_52 0 (gIni 1 [.ref 59]) [] zm_144 none zm_146 1 40 := by
  refine hY_go 4 7 [some (.ref 59)] [.int 40, .ref 59] zm_144 rfl ?_
  refine hY_new (x := 0) (y := 0) 9 zc_60_0 [.ref 59] 40 60 rfl rfl ?_
  refine hY_go 0 9 [some (.ref 59)] [.ref 60, .ref 59] zm_145 rfl ?_
  refine hY_go 7 22 [some (.ref 59)] [] zm_146 rfl ?_
  exact hY_end rfl rfl
theorem zt_12 {L : Nat} {xs : Nat → Int32} {D : Nat} : hY (gO L xs) (D + 1) zR_52 0 (gIni 1 [.ref 61]) [] zm_148 none zm_150 1 40 := by
  refine hY_go 4 7 [some (.ref 61)] [.int 40, .ref 61] zm_148 rfl ?_
  refine hY_new (x := 0) (y := 0) 9 zc_62_0 [.ref 61] 40 62 rfl rfl ?_
  refine hY_go 0 9 [some (.ref 61)] [.ref 62, .ref 61] zm_149 rfl ?_
  refine hY_go 7 22 [some (.ref 61)] [] zm_150 rfl ?_
  exact hY_end rfl rfl
theorem zt_13 {L : Nat} {xs : Nat → Int32} {D : Nat} : hY (gO L xs) (D + 3) zR_60 0 (gIni 2 [.ref 0]) [] zm_1 none zm_151 62 4811 := by
  refine hY_go 3 5 [some (.ref 0), none] [.ref 0] zm_1 rfl ?_
  refine hY_new (x := 61) (y := 4798) 8 zc_1_0 [.ref 0] 13 1 rfl rfl ?_
  refine hY_go 0 8 [some (.ref 0), none] [.ref 1, .ref 0] zm_2 rfl ?_
  refine hY_go 1 9 [some (.ref 0), none] [.ref 1, .ref 1, .ref 0] zm_2 rfl ?_
  refine hY_call (x1 := 8) (y1 := 129) (x := 53) (y := 4669) (r' := zR_9) (vals := [.ref 1]) (rest := [.ref 1, .ref 0]) (M1 := zm_23) (v1 := none) rfl (zt_1 (D := D + 1)) ?_
  refine hY_go 0 12 [some (.ref 0), none] [.ref 1, .ref 0] zm_23 rfl ?_
  refine hY_go 2 16 [some (.ref 0), none] [.ref 0] zm_24 rfl ?_
  refine hY_new (x := 52) (y := 4656) 19 zc_10_0 [.ref 0] 13 10 rfl rfl ?_
  refine hY_go 0 19 [some (.ref 0), none] [.ref 10, .ref 0] zm_25 rfl ?_
  refine hY_go 1 20 [some (.ref 0), none] [.ref 10, .ref 10, .ref 0] zm_25 rfl ?_
  refine hY_call (x1 := 8) (y1 := 129) (x := 44) (y := 4527) (r' := zR_9) (vals := [.ref 10]) (rest := [.ref 10, .ref 0]) (M1 := zm_46) (v1 := none) rfl (zt_2 (D := D + 1)) ?_
  refine hY_go 0 23 [some (.ref 0), none] [.ref 10, .ref 0] zm_46 rfl ?_
  refine hY_go 2 27 [some (.ref 0), none] [.ref 0] zm_47 rfl ?_
  refine hY_new (x := 43) (y := 4514) 30 zc_19_0 [.ref 0] 13 19 rfl rfl ?_
  refine hY_go 0 30 [some (.ref 0), none] [.ref 19, .ref 0] zm_48 rfl ?_
  refine hY_go 1 31 [some (.ref 0), none] [.ref 19, .ref 19, .ref 0] zm_48 rfl ?_
  refine hY_call (x1 := 8) (y1 := 129) (x := 35) (y := 4385) (r' := zR_9) (vals := [.ref 19]) (rest := [.ref 19, .ref 0]) (M1 := zm_69) (v1 := none) rfl (zt_3 (D := D + 1)) ?_
  refine hY_go 0 34 [some (.ref 0), none] [.ref 19, .ref 0] zm_69 rfl ?_
  refine hY_go 5 43 [some (.ref 0), none] [.ref 0] zm_70 rfl ?_
  refine hY_new (x := 34) (y := 4378) 46 zc_28_0 [.ref 0] 7 28 rfl rfl ?_
  refine hY_go 0 46 [some (.ref 0), none] [.ref 28, .ref 0] zm_71 rfl ?_
  refine hY_go 1 47 [some (.ref 0), none] [.ref 28, .ref 28, .ref 0] zm_71 rfl ?_
  refine hY_call (x1 := 20) (y1 := 4066) (x := 14) (y := 312) (r' := zR_44) (vals := [.ref 28]) (rest := [.ref 28, .ref 0]) (M1 := zm_121) (v1 := none) rfl (zt_6 (D := D)) ?_
  refine hY_go 0 50 [some (.ref 0), none] [.ref 28, .ref 0] zm_121 rfl ?_
  refine hY_go 2 54 [some (.ref 0), none] [.ref 0] zm_122 rfl ?_
  refine hY_new (x := 13) (y := 310) 57 zc_49_0 [.ref 0] 2 49 rfl rfl ?_
  refine hY_go 0 57 [some (.ref 0), none] [.ref 49, .ref 0] zm_123 rfl ?_
  refine hY_go 1 58 [some (.ref 0), none] [.ref 49, .ref 49, .ref 0] zm_123 rfl ?_
  refine hY_call (x1 := 1) (y1 := 120) (x := 12) (y := 190) (r' := zR_58) (vals := [.ref 49]) (rest := [.ref 49, .ref 0]) (M1 := zm_125) (v1 := none) rfl (zt_7 (D := D + 1)) ?_
  refine hY_go 0 61 [some (.ref 0), none] [.ref 49, .ref 0] zm_125 rfl ?_
  refine hY_go 2 65 [some (.ref 0), none] [.ref 0] zm_126 rfl ?_
  refine hY_new (x := 11) (y := 183) 68 zc_51_0 [.ref 0] 7 51 rfl rfl ?_
  refine hY_go 0 68 [some (.ref 0), none] [.ref 51, .ref 0] zm_127 rfl ?_
  refine hY_go 1 69 [some (.ref 0), none] [.ref 51, .ref 51, .ref 0] zm_127 rfl ?_
  refine hY_call (x1 := 1) (y1 := 0) (x := 10) (y := 183) (r' := zR_30) (vals := [.ref 51]) (rest := [.ref 51, .ref 0]) (M1 := zm_130) (v1 := none) rfl (zt_8 (D := D + 1)) ?_
  refine hY_go 0 72 [some (.ref 0), none] [.ref 51, .ref 0] zm_130 rfl ?_
  refine hY_go 3 77 [some (.ref 0), none] [.int 4, .ref 0] zm_131 rfl ?_
  refine hY_new (x := 9) (y := 179) 80 zc_53_0 [.ref 0] 4 53 rfl rfl ?_
  refine hY_go 0 80 [some (.ref 0), none] [.ref 53, .ref 0] zm_132 rfl ?_
  refine hY_go 3 86 [some (.ref 0), none] [.int 7, .ref 0] zm_133 rfl ?_
  refine hY_new (x := 8) (y := 172) 88 zc_54_0 [.ref 0] 7 54 rfl rfl ?_
  refine hY_go 0 88 [some (.ref 0), none] [.ref 54, .ref 0] zm_134 rfl ?_
  refine hY_go 11 107 [some (.ref 0), some (.int 0)] [.int 0, .ref 53] zm_135 rfl ?_
  refine hY_new (x := 7) (y := 169) 110 zc_55_0 [.int 0, .ref 53] 3 55 rfl rfl ?_
  refine hY_go 0 110 [some (.ref 0), some (.int 0)] [.ref 55, .int 0, .ref 53] zm_136 rfl ?_
  refine hY_go 1 111 [some (.ref 0), some (.int 0)] [.ref 55, .ref 55, .int 0, .ref 53] zm_136 rfl ?_
  refine hY_call (x1 := 1) (y1 := 40) (x := 6) (y := 129) (r' := zR_52) (vals := [.ref 55]) (rest := [.ref 55, .int 0, .ref 53]) (M1 := zm_138) (v1 := none) rfl (zt_9 (D := D + 1)) ?_
  refine hY_go 0 114 [some (.ref 0), some (.int 0)] [.ref 55, .int 0, .ref 53] zm_138 rfl ?_
  refine hY_go 11 107 [some (.ref 0), some (.int 1)] [.int 1, .ref 53] zm_139 rfl ?_
  refine hY_new (x := 5) (y := 126) 110 zc_57_0 [.int 1, .ref 53] 3 57 rfl rfl ?_
  refine hY_go 0 110 [some (.ref 0), some (.int 1)] [.ref 57, .int 1, .ref 53] zm_140 rfl ?_
  refine hY_go 1 111 [some (.ref 0), some (.int 1)] [.ref 57, .ref 57, .int 1, .ref 53] zm_140 rfl ?_
  refine hY_call (x1 := 1) (y1 := 40) (x := 4) (y := 86) (r' := zR_52) (vals := [.ref 57]) (rest := [.ref 57, .int 1, .ref 53]) (M1 := zm_142) (v1 := none) rfl (zt_10 (D := D + 1)) ?_
  refine hY_go 0 114 [some (.ref 0), some (.int 1)] [.ref 57, .int 1, .ref 53] zm_142 rfl ?_
  refine hY_go 11 107 [some (.ref 0), some (.int 2)] [.int 2, .ref 53] zm_143 rfl ?_
  refine hY_new (x := 3) (y := 83) 110 zc_59_0 [.int 2, .ref 53] 3 59 rfl rfl ?_
  refine hY_go 0 110 [some (.ref 0), some (.int 2)] [.ref 59, .int 2, .ref 53] zm_144 rfl ?_
  refine hY_go 1 111 [some (.ref 0), some (.int 2)] [.ref 59, .ref 59, .int 2, .ref 53] zm_144 rfl ?_
  refine hY_call (x1 := 1) (y1 := 40) (x := 2) (y := 43) (r' := zR_52) (vals := [.ref 59]) (rest := [.ref 59, .int 2, .ref 53]) (M1 := zm_146) (v1 := none) rfl (zt_11 (D := D + 1)) ?_
  refine hY_go 0 114 [some (.ref 0), some (.int 2)] [.ref 59, .int 2, .ref 53] zm_146 rfl ?_
  refine hY_go 11 107 [some (.ref 0), some (.int 3)] [.int 3, .ref 53] zm_147 rfl ?_
  refine hY_new (x := 1) (y := 40) 110 zc_61_0 [.int 3, .ref 53] 3 61 rfl rfl ?_
  refine hY_go 0 110 [some (.ref 0), some (.int 3)] [.ref 61, .int 3, .ref 53] zm_148 rfl ?_
  refine hY_go 1 111 [some (.ref 0), some (.int 3)] [.ref 61, .ref 61, .int 3, .ref 53] zm_148 rfl ?_
  refine hY_call (x1 := 1) (y1 := 40) (x := 0) (y := 0) (r' := zR_52) (vals := [.ref 61]) (rest := [.ref 61, .int 3, .ref 53]) (M1 := zm_150) (v1 := none) rfl (zt_12 (D := D + 1)) ?_
  refine hY_go 0 114 [some (.ref 0), some (.int 3)] [.ref 61, .int 3, .ref 53] zm_150 rfl ?_
  refine hY_go 8 121 [some (.ref 0), some (.int 4)] [] zm_151 rfl ?_
  exact hY_end rfl rfl
theorem zt_14 {L : Nat} {xs : Nat → Int32} {D : Nat} : hY (gO L xs) (D + 1) zR_123 0 (gIni 2 [.ref 63]) [] zm_152 none zm_224 15 8311 := by
  refine hY_go 4 8 [some (.ref 63), none] [.int 134, .ref 63] zm_152 rfl ?_
  refine hY_new (x := 14) (y := 8177) 10 zc_64_0 [.ref 63] 134 64 rfl rfl ?_
  refine hY_go 0 10 [some (.ref 63), none] [.ref 64, .ref 63] zm_153 rfl ?_
  refine hY_go 3 17 [some (.ref 63), none] [.int 134, .ref 63] zm_154 rfl ?_
  refine hY_new (x := 13) (y := 8043) 19 zc_65_0 [.ref 63] 134 65 rfl rfl ?_
  refine hY_go 0 19 [some (.ref 63), none] [.ref 65, .ref 63] zm_155 rfl ?_
  refine hY_go 3 26 [some (.ref 63), none] [.int 134, .ref 63] zm_156 rfl ?_
  refine hY_new (x := 12) (y := 7909) 28 zc_66_0 [.ref 63] 134 66 rfl rfl ?_
  refine hY_go 0 28 [some (.ref 63), none] [.ref 66, .ref 63] zm_157 rfl ?_
  refine hY_go 3 34 [some (.ref 63), none] [.int 7, .ref 63] zm_158 rfl ?_
  refine hY_new (x := 11) (y := 7902) 36 zc_67_0 [.ref 63] 7 67 rfl rfl ?_
  refine hY_go 0 36 [some (.ref 63), none] [.ref 67, .ref 63] zm_159 rfl ?_
  refine hY_go 3 43 [some (.ref 63), none] [.int 3721, .ref 63] zm_160 rfl ?_
  refine hY_new (x := 10) (y := 4181) 45 zc_68_0 [.ref 63] 3721 68 rfl rfl ?_
  refine hY_go 0 45 [some (.ref 63), none] [.ref 68, .ref 63] zm_161 rfl ?_
  refine hY_go 3 52 [some (.ref 63), none] [.int 3721, .ref 63] zm_162 rfl ?_
  refine hY_new (x := 9) (y := 460) 54 zc_69_0 [.ref 63] 3721 69 rfl rfl ?_
  refine hY_go 0 54 [some (.ref 63), none] [.ref 69, .ref 63] zm_163 rfl ?_
  refine hY_go 3 59 [some (.ref 63), none] [.int 4, .ref 63] zm_164 rfl ?_
  refine hY_new (x := 8) (y := 456) 61 zc_70_0 [.ref 63] 4 70 rfl rfl ?_
  refine hY_go 0 61 [some (.ref 63), none] [.ref 70, .ref 63] zm_165 rfl ?_
  refine hY_go 3 67 [some (.ref 63), none] [.int 120, .ref 63] zm_166 rfl ?_
  refine hY_new (x := 7) (y := 336) 69 zc_71_0 [.ref 63] 120 71 rfl rfl ?_
  refine hY_go 0 69 [some (.ref 63), none] [.ref 71, .ref 63] zm_167 rfl ?_
  refine hY_go 3 75 [some (.ref 63), none] [.int 56, .ref 63] zm_168 rfl ?_
  refine hY_new (x := 6) (y := 280) 77 zc_72_0 [.ref 63] 56 72 rfl rfl ?_
  refine hY_go 0 77 [some (.ref 63), none] [.ref 72, .ref 63] zm_169 rfl ?_
  refine hY_go 16 97 [some (.ref 63), none] [.ref 72, .ref 63] zm_170 rfl ?_
  refine hY_go 16 119 [some (.ref 63), none] [.ref 72, .ref 63] zm_171 rfl ?_
  refine hY_go 16 143 [some (.ref 63), none] [.ref 72, .ref 63] zm_172 rfl ?_
  refine hY_go 16 167 [some (.ref 63), none] [.ref 72, .ref 63] zm_173 rfl ?_
  refine hY_go 16 191 [some (.ref 63), none] [.ref 72, .ref 63] zm_174 rfl ?_
  refine hY_go 16 215 [some (.ref 63), none] [.ref 72, .ref 63] zm_175 rfl ?_
  refine hY_go 16 239 [some (.ref 63), none] [.ref 72, .ref 63] zm_176 rfl ?_
  refine hY_go 16 263 [some (.ref 63), none] [.ref 72, .ref 63] zm_177 rfl ?_
  refine hY_go 16 287 [some (.ref 63), none] [.ref 72, .ref 63] zm_178 rfl ?_
  refine hY_go 16 311 [some (.ref 63), none] [.ref 72, .ref 63] zm_179 rfl ?_
  refine hY_go 16 335 [some (.ref 63), none] [.ref 72, .ref 63] zm_180 rfl ?_
  refine hY_go 16 359 [some (.ref 63), none] [.ref 72, .ref 63] zm_181 rfl ?_
  refine hY_go 16 383 [some (.ref 63), none] [.ref 72, .ref 63] zm_182 rfl ?_
  refine hY_go 16 407 [some (.ref 63), none] [.ref 72, .ref 63] zm_183 rfl ?_
  refine hY_go 3 413 [some (.ref 63), none] [.int 56, .ref 63] zm_184 rfl ?_
  refine hY_new (x := 5) (y := 224) 415 zc_73_0 [.ref 63] 56 73 rfl rfl ?_
  refine hY_go 0 415 [some (.ref 63), none] [.ref 73, .ref 63] zm_185 rfl ?_
  refine hY_go 16 435 [some (.ref 63), none] [.ref 73, .ref 63] zm_186 rfl ?_
  refine hY_go 16 457 [some (.ref 63), none] [.ref 73, .ref 63] zm_187 rfl ?_
  refine hY_go 16 481 [some (.ref 63), none] [.ref 73, .ref 63] zm_188 rfl ?_
  refine hY_go 16 505 [some (.ref 63), none] [.ref 73, .ref 63] zm_189 rfl ?_
  refine hY_go 16 529 [some (.ref 63), none] [.ref 73, .ref 63] zm_190 rfl ?_
  refine hY_go 16 553 [some (.ref 63), none] [.ref 73, .ref 63] zm_191 rfl ?_
  refine hY_go 16 577 [some (.ref 63), none] [.ref 73, .ref 63] zm_192 rfl ?_
  refine hY_go 16 601 [some (.ref 63), none] [.ref 73, .ref 63] zm_193 rfl ?_
  refine hY_go 16 625 [some (.ref 63), none] [.ref 73, .ref 63] zm_194 rfl ?_
  refine hY_go 16 649 [some (.ref 63), none] [.ref 73, .ref 63] zm_195 rfl ?_
  refine hY_go 16 673 [some (.ref 63), none] [.ref 73, .ref 63] zm_196 rfl ?_
  refine hY_go 16 697 [some (.ref 63), none] [.ref 73, .ref 63] zm_197 rfl ?_
  refine hY_go 16 721 [some (.ref 63), none] [.ref 73, .ref 63] zm_198 rfl ?_
  refine hY_go 16 745 [some (.ref 63), none] [.ref 73, .ref 63] zm_199 rfl ?_
  refine hY_go 3 751 [some (.ref 63), none] [.int 16, .ref 63] zm_200 rfl ?_
  refine hY_new (x := 4) (y := 208) 753 zc_74_0 [.ref 63] 16 74 rfl rfl ?_
  refine hY_go 0 753 [some (.ref 63), none] [.ref 74, .ref 63] zm_201 rfl ?_
  refine hY_go 16 773 [some (.ref 63), none] [.ref 74, .ref 63] zm_202 rfl ?_
  refine hY_go 16 795 [some (.ref 63), none] [.ref 74, .ref 63] zm_203 rfl ?_
  refine hY_go 16 819 [some (.ref 63), none] [.ref 74, .ref 63] zm_204 rfl ?_
  refine hY_go 16 843 [some (.ref 63), none] [.ref 74, .ref 63] zm_205 rfl ?_
  refine hY_go 3 848 [some (.ref 63), none] [.int 4, .ref 63] zm_206 rfl ?_
  refine hY_new (x := 3) (y := 204) 850 zc_75_0 [.ref 63] 4 75 rfl rfl ?_
  refine hY_go 0 850 [some (.ref 63), none] [.ref 75, .ref 63] zm_207 rfl ?_
  refine hY_go 3 855 [some (.ref 63), none] [.int 4, .ref 63] zm_208 rfl ?_
  refine hY_new (x := 2) (y := 200) 857 zc_76_0 [.ref 63] 4 76 rfl rfl ?_
  refine hY_go 0 857 [some (.ref 63), none] [.ref 76, .ref 63] zm_209 rfl ?_
  refine hY_go 3 864 [some (.ref 63), none] [.int 160, .ref 63] zm_210 rfl ?_
  refine hY_new (x := 1) (y := 40) 866 zc_77_0 [.ref 63] 160 77 rfl rfl ?_
  refine hY_go 0 866 [some (.ref 63), none] [.ref 77, .ref 63] zm_211 rfl ?_
  refine hY_go 3 872 [some (.ref 63), none] [.int 40, .ref 63] zm_212 rfl ?_
  refine hY_new (x := 0) (y := 0) 874 zc_78_0 [.ref 63] 40 78 rfl rfl ?_
  refine hY_go 0 874 [some (.ref 63), none] [.ref 78, .ref 63] zm_213 rfl ?_
  refine hY_go 16 901 [some (.ref 63), none] [] zm_214 rfl ?_
  refine hY_go 16 927 [some (.ref 63), none] [.ref 63] zm_215 rfl ?_
  refine hY_go 16 953 [some (.ref 63), some (.int 0)] [] zm_216 rfl ?_
  refine hY_go 16 960 [some (.ref 63), some (.int 1)] [.ref 63] zm_217 rfl ?_
  refine hY_go 16 967 [some (.ref 63), some (.int 2)] [.int 126, .ref 64] zm_218 rfl ?_
  refine hY_go 16 953 [some (.ref 63), some (.int 4)] [] zm_219 rfl ?_
  refine hY_go 16 960 [some (.ref 63), some (.int 5)] [.ref 63] zm_220 rfl ?_
  refine hY_go 16 967 [some (.ref 63), some (.int 6)] [.int 130, .ref 64] zm_221 rfl ?_
  refine hY_go 16 953 [some (.ref 63), some (.int 8)] [] zm_222 rfl ?_
  refine hY_go 16 960 [some (.ref 63), some (.int 9)] [.ref 63] zm_223 rfl ?_
  refine hY_go 11 975 [some (.ref 63), some (.int 10)] [] zm_224 rfl ?_
  exact hY_end rfl rfl
theorem zt_law {L : Nat} {xs : Nat → Int32} {M' : List gE} (h : hX (gO L xs) 12 zR_223 16 [some (.ref 1000), some (.ref 0), some (.ref 63), none] [] zm_224 (some (.int 1)) M') : hY (gO L xs) 12 zR_223 0 (gIni 4 [.ref 1000]) [] [] (some (.int 1)) M' 79 13157 := by
  refine hY_new (x := 78) (y := 13148) 3 zc_0_0 [] 9 0 rfl rfl ?_
  refine hY_go 0 3 [some (.ref 1000), none, none, none] [.ref 0] zm_1 rfl ?_
  refine hY_go 1 4 [some (.ref 1000), none, none, none] [.ref 0, .ref 0] zm_1 rfl ?_
  refine hY_call (x1 := 62) (y1 := 4811) (x := 16) (y := 8337) (r' := zR_60) (vals := [.ref 0]) (rest := [.ref 0]) (M1 := zm_151) (v1 := none) rfl (zt_13 (D := 8)) ?_
  refine hY_go 0 7 [some (.ref 1000), none, none, none] [.ref 0] zm_151 rfl ?_
  refine hY_go 1 8 [some (.ref 1000), some (.ref 0), none, none] [] zm_151 rfl ?_
  refine hY_new (x := 15) (y := 8311) 11 zc_63_0 [] 26 63 rfl rfl ?_
  refine hY_go 0 11 [some (.ref 1000), some (.ref 0), none, none] [.ref 63] zm_152 rfl ?_
  refine hY_go 1 12 [some (.ref 1000), some (.ref 0), none, none] [.ref 63, .ref 63] zm_152 rfl ?_
  refine hY_call (x1 := 15) (y1 := 8311) (x := 0) (y := 0) (r' := zR_123) (vals := [.ref 63]) (rest := [.ref 63]) (M1 := zm_224) (v1 := none) rfl (zt_14 (D := 10)) ?_
  refine hY_go 0 15 [some (.ref 1000), some (.ref 0), none, none] [.ref 63] zm_224 rfl ?_
  refine hY_go 1 16 [some (.ref 1000), some (.ref 0), some (.ref 63), none] [] zm_224 rfl ?_
  exact hY_X h
