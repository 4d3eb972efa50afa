/-! TEXTS: which word -/
theorem w_72 {N : Nat} (hN : 4000 ≤ N) {tb tp : Nat → Int32} {t b e : Nat} {rq : hRq} {tk bg en : Int32} {vl : Int64} (ht : t ≤ 120) (hK : jTk tb tp t rq tk bg en vl b e) : ∃ r, me_202_63_72 N tk vl = some r ∧ ((r = -1 ∧ me_38_51_1016 N tb rq = some 0 ∧ me_38_51_1010 N tb rq = some 0 ∧ me_38_51_1011 N tb rq = some 0 ∧ me_38_51_1012 N tb rq = some 0 ∧ me_38_51_1013 N tb rq = some 0 ∧ me_38_51_1014 N tb rq = some 0 ∧ me_38_51_1015 N tb rq = some 0) ∨ (r = nI 0 ∧ me_38_51_1016 N tb rq = some 1 ∧ me_38_51_1010 N tb rq = some 0 ∧ me_38_51_1011 N tb rq = some 0 ∧ me_38_51_1012 N tb rq = some 0 ∧ me_38_51_1013 N tb rq = some 0 ∧ me_38_51_1014 N tb rq = some 0 ∧ me_38_51_1015 N tb rq = some 0) ∨ (r = nI 1 ∧ me_38_51_1016 N tb rq = some 0 ∧ me_38_51_1010 N tb rq = some 1 ∧ me_38_51_1011 N tb rq = some 0 ∧ me_38_51_1012 N tb rq = some 0 ∧ me_38_51_1013 N tb rq = some 0 ∧ me_38_51_1014 N tb rq = some 0 ∧ me_38_51_1015 N tb rq = some 0) ∨ (r = nI 2 ∧ me_38_51_1016 N tb rq = some 0 ∧ me_38_51_1010 N tb rq = some 0 ∧ me_38_51_1011 N tb rq = some 1 ∧ me_38_51_1012 N tb rq = some 0 ∧ me_38_51_1013 N tb rq = some 0 ∧ me_38_51_1014 N tb rq = some 0 ∧ me_38_51_1015 N tb rq = some 0) ∨ (r = nI 3 ∧ me_38_51_1016 N tb rq = some 0 ∧ me_38_51_1010 N tb rq = some 0 ∧ me_38_51_1011 N tb rq = some 0 ∧ me_38_51_1012 N tb rq = some 1 ∧ me_38_51_1013 N tb rq = some 0 ∧ me_38_51_1014 N tb rq = some 0 ∧ me_38_51_1015 N tb rq = some 0) ∨ (r = nI 4 ∧ me_38_51_1016 N tb rq = some 0 ∧ me_38_51_1010 N tb rq = some 0 ∧ me_38_51_1011 N tb rq = some 0 ∧ me_38_51_1012 N tb rq = some 0 ∧ me_38_51_1013 N tb rq = some 1 ∧ me_38_51_1014 N tb rq = some 0 ∧ me_38_51_1015 N tb rq = some 0) ∨ (r = nI 5 ∧ me_38_51_1016 N tb rq = some 0 ∧ me_38_51_1010 N tb rq = some 0 ∧ me_38_51_1011 N tb rq = some 0 ∧ me_38_51_1012 N tb rq = some 0 ∧ me_38_51_1013 N tb rq = some 0 ∧ me_38_51_1014 N tb rq = some 1 ∧ me_38_51_1015 N tb rq = some 0) ∨ (r = nI 6 ∧ me_38_51_1016 N tb rq = some 0 ∧ me_38_51_1010 N tb rq = some 0 ∧ me_38_51_1011 N tb rq = some 0 ∧ me_38_51_1012 N tb rq = some 0 ∧ me_38_51_1013 N tb rq = some 0 ∧ me_38_51_1014 N tb rq = some 0 ∧ me_38_51_1015 N tb rq = some 1)) := by
  have a0 := jw_1016 hN ht hK
  have a1 := jw_1010 hN ht hK
  have a2 := jw_1011 hN ht hK
  have a3 := jw_1012 hN ht hK
  have a4 := jw_1013 hN ht hK
  have a5 := jw_1014 hN ht hK
  have a6 := jw_1015 hN ht hK
  have m := m_72 hN tk vl
  clear hK
  refine ⟨_, m, ?_⟩
  by_cases h1 : tk = 1
  · subst h1
    by_cases h10 : vl = lN 330573
    · subst h10
      refine .inr (.inl ⟨by decide, ?_, ?_, ?_, ?_, ?_, ?_, ?_⟩)
      · rw [a0]; decide
      · rw [a1]; decide
      · rw [a2]; decide
      · rw [a3]; decide
      · rw [a4]; decide
      · rw [a5]; decide
      · rw [a6]; decide
    by_cases h11 : vl = lN 114602
    · subst h11
      refine .inr (.inr (.inl ⟨by decide, ?_, ?_, ?_, ?_, ?_, ?_, ?_⟩))
      · rw [a0]; decide
      · rw [a1]; decide
      · rw [a2]; decide
      · rw [a3]; decide
      · rw [a4]; decide
      · rw [a5]; decide
      · rw [a6]; decide
    by_cases h12 : vl = lN 203417946412
    · subst h12
      refine .inr (.inr (.inr (.inl ⟨by decide, ?_, ?_, ?_, ?_, ?_, ?_, ?_⟩)))
      · rw [a0]; decide
      · rw [a1]; decide
      · rw [a2]; decide
      · rw [a3]; decide
      · rw [a4]; decide
      · rw [a5]; decide
      · rw [a6]; decide
    by_cases h13 : vl = lN 203533721818
    · subst h13
      refine .inr (.inr (.inr (.inr (.inl ⟨by decide, ?_, ?_, ?_, ?_, ?_, ?_, ?_⟩))))
      · rw [a0]; decide
      · rw [a1]; decide
      · rw [a2]; decide
      · rw [a3]; decide
      · rw [a4]; decide
      · rw [a5]; decide
      · rw [a6]; decide
    by_cases h14 : vl = lN 86910790
    · subst h14
      refine .inr (.inr (.inr (.inr (.inr (.inl ⟨by decide, ?_, ?_, ?_, ?_, ?_, ?_, ?_⟩)))))
      · rw [a0]; decide
      · rw [a1]; decide
      · rw [a2]; decide
      · rw [a3]; decide
      · rw [a4]; decide
      · rw [a5]; decide
      · rw [a6]; decide
    by_cases h15 : vl = lN 43996844
    · subst h15
      refine .inr (.inr (.inr (.inr (.inr (.inr (.inl ⟨by decide, ?_, ?_, ?_, ?_, ?_, ?_, ?_⟩))))))
      · rw [a0]; decide
      · rw [a1]; decide
      · rw [a2]; decide
      · rw [a3]; decide
      · rw [a4]; decide
      · rw [a5]; decide
      · rw [a6]; decide
    by_cases h16 : vl = lN 144286006
    · subst h16
      refine .inr (.inr (.inr (.inr (.inr (.inr (.inr (⟨by decide, ?_, ?_, ?_, ?_, ?_, ?_, ?_⟩)))))))
      · rw [a0]; decide
      · rw [a1]; decide
      · rw [a2]; decide
      · rw [a3]; decide
      · rw [a4]; decide
      · rw [a5]; decide
      · rw [a6]; decide
    refine .inl ⟨?_, ?_, ?_, ?_, ?_, ?_, ?_, ?_⟩
    · unfold jr_72
      rw [decide_eq_false h16, decide_eq_false h15, decide_eq_false h14, decide_eq_false h13, decide_eq_false h12, decide_eq_false h11, decide_eq_false h10]
      rfl
    · rw [a0, decide_eq_false h10]; rfl
    · rw [a1, decide_eq_false h11]; rfl
    · rw [a2, decide_eq_false h12]; rfl
    · rw [a3, decide_eq_false h13]; rfl
    · rw [a4, decide_eq_false h14]; rfl
    · rw [a5, decide_eq_false h15]; rfl
    · rw [a6, decide_eq_false h16]; rfl
  · have h2 : hEq tk 1 = false := decide_eq_false h1
    rw [h2] at a0 a1 a2 a3 a4 a5 a6 ⊢
    exact .inl ⟨rfl, a0, a1, a2, a3, a4, a5, a6⟩
theorem w_73 {N : Nat} (hN : 4000 ≤ N) {tb tp : Nat → Int32} {t b e : Nat} {rq : hRq} {tk bg en : Int32} {vl : Int64} (ht : t ≤ 120) (hK : jTk tb tp t rq tk bg en vl b e) : ∃ r, me_202_63_73 N tk vl = some r ∧ ((r = -1 ∧ me_38_51_1019 N tb rq = some 0 ∧ me_38_51_1020 N tb rq = some 0 ∧ me_38_51_1021 N tb rq = some 0 ∧ me_38_51_1022 N tb rq = some 0 ∧ me_38_51_1023 N tb rq = some 0 ∧ me_38_51_1024 N tb rq = some 0 ∧ me_38_51_1025 N tb rq = some 0) ∨ (r = nI 0 ∧ me_38_51_1019 N tb rq = some 1 ∧ me_38_51_1020 N tb rq = some 0 ∧ me_38_51_1021 N tb rq = some 0 ∧ me_38_51_1022 N tb rq = some 0 ∧ me_38_51_1023 N tb rq = some 0 ∧ me_38_51_1024 N tb rq = some 0 ∧ me_38_51_1025 N tb rq = some 0) ∨ (r = nI 1 ∧ me_38_51_1019 N tb rq = some 0 ∧ me_38_51_1020 N tb rq = some 1 ∧ me_38_51_1021 N tb rq = some 0 ∧ me_38_51_1022 N tb rq = some 0 ∧ me_38_51_1023 N tb rq = some 0 ∧ me_38_51_1024 N tb rq = some 0 ∧ me_38_51_1025 N tb rq = some 0) ∨ (r = nI 2 ∧ me_38_51_1019 N tb rq = some 0 ∧ me_38_51_1020 N tb rq = some 0 ∧ me_38_51_1021 N tb rq = some 1 ∧ me_38_51_1022 N tb rq = some 0 ∧ me_38_51_1023 N tb rq = some 0 ∧ me_38_51_1024 N tb rq = some 0 ∧ me_38_51_1025 N tb rq = some 0) ∨ (r = nI 3 ∧ me_38_51_1019 N tb rq = some 0 ∧ me_38_51_1020 N tb rq = some 0 ∧ me_38_51_1021 N tb rq = some 0 ∧ me_38_51_1022 N tb rq = some 1 ∧ me_38_51_1023 N tb rq = some 0 ∧ me_38_51_1024 N tb rq = some 0 ∧ me_38_51_1025 N tb rq = some 0) ∨ (r = nI 4 ∧ me_38_51_1019 N tb rq = some 0 ∧ me_38_51_1020 N tb rq = some 0 ∧ me_38_51_1021 N tb rq = some 0 ∧ me_38_51_1022 N tb rq = some 0 ∧ me_38_51_1023 N tb rq = some 1 ∧ me_38_51_1024 N tb rq = some 0 ∧ me_38_51_1025 N tb rq = some 0) ∨ (r = nI 5 ∧ me_38_51_1019 N tb rq = some 0 ∧ me_38_51_1020 N tb rq = some 0 ∧ me_38_51_1021 N tb rq = some 0 ∧ me_38_51_1022 N tb rq = some 0 ∧ me_38_51_1023 N tb rq = some 0 ∧ me_38_51_1024 N tb rq = some 1 ∧ me_38_51_1025 N tb rq = some 0) ∨ (r = nI 6 ∧ me_38_51_1019 N tb rq = some 0 ∧ me_38_51_1020 N tb rq = some 0 ∧ me_38_51_1021 N tb rq = some 0 ∧ me_38_51_1022 N tb rq = some 0 ∧ me_38_51_1023 N tb rq = some 0 ∧ me_38_51_1024 N tb rq = some 0 ∧ me_38_51_1025 N tb rq = some 1)) := by
  have a0 := jw_1019 hN ht hK
  have a1 := jw_1020 hN ht hK
  have a2 := jw_1021 hN ht hK
  have a3 := jw_1022 hN ht hK
  have a4 := jw_1023 hN ht hK
  have a5 := jw_1024 hN ht hK
  have a6 := jw_1025 hN ht hK
  have m := m_73 hN tk vl
  clear hK
  refine ⟨_, m, ?_⟩
  by_cases h1 : tk = 1
  · subst h1
    by_cases h10 : vl = lN 227144
    · subst h10
      refine .inr (.inl ⟨by decide, ?_, ?_, ?_, ?_, ?_, ?_, ?_⟩)
      · rw [a0]; decide
      · rw [a1]; decide
      · rw [a2]; decide
      · rw [a3]; decide
      · rw [a4]; decide
      · rw [a5]; decide
      · rw [a6]; decide
    by_cases h11 : vl = lN 382984
    · subst h11
      refine .inr (.inr (.inl ⟨by decide, ?_, ?_, ?_, ?_, ?_, ?_, ?_⟩))
      · rw [a0]; decide
      · rw [a1]; decide
      · rw [a2]; decide
      · rw [a3]; decide
      · rw [a4]; decide
      · rw [a5]; decide
      · rw [a6]; decide
    by_cases h12 : vl = lN 459652
    · subst h12
      refine .inr (.inr (.inr (.inl ⟨by decide, ?_, ?_, ?_, ?_, ?_, ?_, ?_⟩)))
      · rw [a0]; decide
      · rw [a1]; decide
      · rw [a2]; decide
      · rw [a3]; decide
      · rw [a4]; decide
      · rw [a5]; decide
      · rw [a6]; decide
    by_cases h13 : vl = lN 1473549098
    · subst h13
      refine .inr (.inr (.inr (.inr (.inl ⟨by decide, ?_, ?_, ?_, ?_, ?_, ?_, ?_⟩))))
      · rw [a0]; decide
      · rw [a1]; decide
      · rw [a2]; decide
      · rw [a3]; decide
      · rw [a4]; decide
      · rw [a5]; decide
      · rw [a6]; decide
    by_cases h14 : vl = lN 1752777
    · subst h14
      refine .inr (.inr (.inr (.inr (.inr (.inl ⟨by decide, ?_, ?_, ?_, ?_, ?_, ?_, ?_⟩)))))
      · rw [a0]; decide
      · rw [a1]; decide
      · rw [a2]; decide
      · rw [a3]; decide
      · rw [a4]; decide
      · rw [a5]; decide
      · rw [a6]; decide
    by_cases h15 : vl = lN 14432
    · subst h15
      refine .inr (.inr (.inr (.inr (.inr (.inr (.inl ⟨by decide, ?_, ?_, ?_, ?_, ?_, ?_, ?_⟩))))))
      · rw [a0]; decide
      · rw [a1]; decide
      · rw [a2]; decide
      · rw [a3]; decide
      · rw [a4]; decide
      · rw [a5]; decide
      · rw [a6]; decide
    by_cases h16 : vl = lN 583
    · subst h16
      refine .inr (.inr (.inr (.inr (.inr (.inr (.inr (⟨by decide, ?_, ?_, ?_, ?_, ?_, ?_, ?_⟩)))))))
      · rw [a0]; decide
      · rw [a1]; decide
      · rw [a2]; decide
      · rw [a3]; decide
      · rw [a4]; decide
      · rw [a5]; decide
      · rw [a6]; decide
    refine .inl ⟨?_, ?_, ?_, ?_, ?_, ?_, ?_, ?_⟩
    · unfold jr_73
      rw [decide_eq_false h16, decide_eq_false h15, decide_eq_false h14, decide_eq_false h13, decide_eq_false h12, decide_eq_false h11, decide_eq_false h10]
      rfl
    · rw [a0, decide_eq_false h10]; rfl
    · rw [a1, decide_eq_false h11]; rfl
    · rw [a2, decide_eq_false h12]; rfl
    · rw [a3, decide_eq_false h13]; rfl
    · rw [a4, decide_eq_false h14]; rfl
    · rw [a5, decide_eq_false h15]; rfl
    · rw [a6, decide_eq_false h16]; rfl
  · have h2 : hEq tk 1 = false := decide_eq_false h1
    rw [h2] at a0 a1 a2 a3 a4 a5 a6 ⊢
    exact .inl ⟨rfl, a0, a1, a2, a3, a4, a5, a6⟩
theorem w_74 {N : Nat} (hN : 4000 ≤ N) {tb tp : Nat → Int32} {t b e : Nat} {rq : hRq} {tk bg en : Int32} {vl : Int64} (ht : t ≤ 120) (hK : jTk tb tp t rq tk bg en vl b e) : ∃ r, me_202_63_74 N tk vl = some r ∧ ((r = -1 ∧ me_38_51_1017 N tb rq = some 0 ∧ me_38_51_1018 N tb rq = some 0) ∨ (r = nI 0 ∧ me_38_51_1017 N tb rq = some 1 ∧ me_38_51_1018 N tb rq = some 0) ∨ (r = nI 1 ∧ me_38_51_1017 N tb rq = some 0 ∧ me_38_51_1018 N tb rq = some 1)) := by
  have a0 := jw_1017 hN ht hK
  have a1 := jw_1018 hN ht hK
  have m := m_74 hN tk vl
  clear hK
  refine ⟨_, m, ?_⟩
  by_cases h1 : tk = 1
  · subst h1
    by_cases h10 : vl = lN 79
    · subst h10
      refine .inr (.inl ⟨by decide, ?_, ?_⟩)
      · rw [a0]; decide
      · rw [a1]; decide
    by_cases h11 : vl = lN 239882
    · subst h11
      refine .inr (.inr (⟨by decide, ?_, ?_⟩))
      · rw [a0]; decide
      · rw [a1]; decide
    refine .inl ⟨?_, ?_, ?_⟩
    · unfold jr_74
      rw [decide_eq_false h11, decide_eq_false h10]
      rfl
    · rw [a0, decide_eq_false h10]; rfl
    · rw [a1, decide_eq_false h11]; rfl
  · have h2 : hEq tk 1 = false := decide_eq_false h1
    rw [h2] at a0 a1 ⊢
    exact .inl ⟨rfl, a0, a1⟩
theorem s36_0 {N : Nat} {tb : Nat → Int32} {rq : hRq} {v : Int32} (h : me_38_51_1016 N tb rq = some v) (n : Nat) : lp_36_51_2 N tb rq (n + 1) (nI 0) = bif gCmp .eq v 0 then lp_36_51_2 N tb rq n (nI 1) else some (nI 0) := by
  rw [lp_36_51_2, show gCmp .ge (nI 0) 7 = false from by decide, show hEq (nI 0) 1 = false from by decide, show hEq (nI 0) 2 = false from by decide, show hEq (nI 0) 3 = false from by decide, show hEq (nI 0) 4 = false from by decide, show hEq (nI 0) 5 = false from by decide, show hEq (nI 0) 6 = false from by decide, h, nI_1]
  rfl
theorem s36_1 {N : Nat} {tb : Nat → Int32} {rq : hRq} {v : Int32} (h : me_38_51_1010 N tb rq = some v) (n : Nat) : lp_36_51_2 N tb rq (n + 1) (nI 1) = bif gCmp .eq v 0 then lp_36_51_2 N tb rq n (nI 2) else some (nI 1) := by
  rw [lp_36_51_2, show gCmp .ge (nI 1) 7 = false from by decide, show hEq (nI 1) 1 = true from by decide, h, nI_1]
  rfl
theorem s36_2 {N : Nat} {tb : Nat → Int32} {rq : hRq} {v : Int32} (h : me_38_51_1011 N tb rq = some v) (n : Nat) : lp_36_51_2 N tb rq (n + 1) (nI 2) = bif gCmp .eq v 0 then lp_36_51_2 N tb rq n (nI 3) else some (nI 2) := by
  rw [lp_36_51_2, show gCmp .ge (nI 2) 7 = false from by decide, show hEq (nI 2) 1 = false from by decide, show hEq (nI 2) 2 = true from by decide, h, nI_1]
  rfl
theorem s36_3 {N : Nat} {tb : Nat → Int32} {rq : hRq} {v : Int32} (h : me_38_51_1012 N tb rq = some v) (n : Nat) : lp_36_51_2 N tb rq (n + 1) (nI 3) = bif gCmp .eq v 0 then lp_36_51_2 N tb rq n (nI 4) else some (nI 3) := by
  rw [lp_36_51_2, show gCmp .ge (nI 3) 7 = false from by decide, show hEq (nI 3) 1 = false from by decide, show hEq (nI 3) 2 = false from by decide, show hEq (nI 3) 3 = true from by decide, h, nI_1]
  rfl
theorem s36_4 {N : Nat} {tb : Nat → Int32} {rq : hRq} {v : Int32} (h : me_38_51_1013 N tb rq = some v) (n : Nat) : lp_36_51_2 N tb rq (n + 1) (nI 4) = bif gCmp .eq v 0 then lp_36_51_2 N tb rq n (nI 5) else some (nI 4) := by
  rw [lp_36_51_2, show gCmp .ge (nI 4) 7 = false from by decide, show hEq (nI 4) 1 = false from by decide, show hEq (nI 4) 2 = false from by decide, show hEq (nI 4) 3 = false from by decide, show hEq (nI 4) 4 = true from by decide, h, nI_1]
  rfl
theorem s36_5 {N : Nat} {tb : Nat → Int32} {rq : hRq} {v : Int32} (h : me_38_51_1014 N tb rq = some v) (n : Nat) : lp_36_51_2 N tb rq (n + 1) (nI 5) = bif gCmp .eq v 0 then lp_36_51_2 N tb rq n (nI 6) else some (nI 5) := by
  rw [lp_36_51_2, show gCmp .ge (nI 5) 7 = false from by decide, show hEq (nI 5) 1 = false from by decide, show hEq (nI 5) 2 = false from by decide, show hEq (nI 5) 3 = false from by decide, show hEq (nI 5) 4 = false from by decide, show hEq (nI 5) 5 = true from by decide, h, nI_1]
  rfl
theorem s36_6 {N : Nat} {tb : Nat → Int32} {rq : hRq} {v : Int32} (h : me_38_51_1015 N tb rq = some v) (n : Nat) : lp_36_51_2 N tb rq (n + 1) (nI 6) = bif gCmp .eq v 0 then lp_36_51_2 N tb rq n (nI 7) else some (nI 6) := by
  rw [lp_36_51_2, show gCmp .ge (nI 6) 7 = false from by decide, show hEq (nI 6) 1 = false from by decide, show hEq (nI 6) 2 = false from by decide, show hEq (nI 6) 3 = false from by decide, show hEq (nI 6) 4 = false from by decide, show hEq (nI 6) 5 = false from by decide, show hEq (nI 6) 6 = true from by decide, h, nI_1]
  rfl
theorem gsome {c : Bool} {a b : Int32} : (bif c then some a else some b) = some (bif c then a else b) := by cases c <;> rfl
theorem s36_end {N : Nat} {tb : Nat → Int32} {rq : hRq} (n : Nat) : lp_36_51_2 N tb rq (n + 1) (nI 7) = some (-1) := by
  rw [lp_36_51_2, show gCmp .ge (nI 7) 7 = true from by decide]
  rfl
theorem t36_6 {N : Nat} {tb : Nat → Int32} {rq : hRq} {v6 : Int32} (h6 : me_38_51_1015 N tb rq = some v6) (n : Nat) : lp_36_51_2 N tb rq (n + 1 + 1) (nI 6) = some (bif gCmp .eq v6 0 then (-1) else nI 6) := by
  rw [s36_6 h6 (n + 1), s36_end n, gsome]
theorem t36_5 {N : Nat} {tb : Nat → Int32} {rq : hRq} {v5 v6 : Int32} (h5 : me_38_51_1014 N tb rq = some v5) (h6 : me_38_51_1015 N tb rq = some v6) (n : Nat) : lp_36_51_2 N tb rq (n + 1 + 1 + 1) (nI 5) = some (bif gCmp .eq v5 0 then (bif gCmp .eq v6 0 then (-1) else nI 6) else nI 5) := by
  rw [s36_5 h5 (n + 1 + 1), t36_6 h6 n, gsome]
theorem t36_4 {N : Nat} {tb : Nat → Int32} {rq : hRq} {v4 v5 v6 : Int32} (h4 : me_38_51_1013 N tb rq = some v4) (h5 : me_38_51_1014 N tb rq = some v5) (h6 : me_38_51_1015 N tb rq = some v6) (n : Nat) : lp_36_51_2 N tb rq (n + 1 + 1 + 1 + 1) (nI 4) = some (bif gCmp .eq v4 0 then (bif gCmp .eq v5 0 then (bif gCmp .eq v6 0 then (-1) else nI 6) else nI 5) else nI 4) := by
  rw [s36_4 h4 (n + 1 + 1 + 1), t36_5 h5 h6 n, gsome]
theorem t36_3 {N : Nat} {tb : Nat → Int32} {rq : hRq} {v3 v4 v5 v6 : Int32} (h3 : me_38_51_1012 N tb rq = some v3) (h4 : me_38_51_1013 N tb rq = some v4) (h5 : me_38_51_1014 N tb rq = some v5) (h6 : me_38_51_1015 N tb rq = some v6) (n : Nat) : lp_36_51_2 N tb rq (n + 1 + 1 + 1 + 1 + 1) (nI 3) = some (bif gCmp .eq v3 0 then (bif gCmp .eq v4 0 then (bif gCmp .eq v5 0 then (bif gCmp .eq v6 0 then (-1) else nI 6) else nI 5) else nI 4) else nI 3) := by
  rw [s36_3 h3 (n + 1 + 1 + 1 + 1), t36_4 h4 h5 h6 n, gsome]
theorem t36_2 {N : Nat} {tb : Nat → Int32} {rq : hRq} {v2 v3 v4 v5 v6 : Int32} (h2 : me_38_51_1011 N tb rq = some v2) (h3 : me_38_51_1012 N tb rq = some v3) (h4 : me_38_51_1013 N tb rq = some v4) (h5 : me_38_51_1014 N tb rq = some v5) (h6 : me_38_51_1015 N tb rq = some v6) (n : Nat) : lp_36_51_2 N tb rq (n + 1 + 1 + 1 + 1 + 1 + 1) (nI 2) = some (bif gCmp .eq v2 0 then (bif gCmp .eq v3 0 then (bif gCmp .eq v4 0 then (bif gCmp .eq v5 0 then (bif gCmp .eq v6 0 then (-1) else nI 6) else nI 5) else nI 4) else nI 3) else nI 2) := by
  rw [s36_2 h2 (n + 1 + 1 + 1 + 1 + 1), t36_3 h3 h4 h5 h6 n, gsome]
theorem t36_1 {N : Nat} {tb : Nat → Int32} {rq : hRq} {v1 v2 v3 v4 v5 v6 : Int32} (h1 : me_38_51_1010 N tb rq = some v1) (h2 : me_38_51_1011 N tb rq = some v2) (h3 : me_38_51_1012 N tb rq = some v3) (h4 : me_38_51_1013 N tb rq = some v4) (h5 : me_38_51_1014 N tb rq = some v5) (h6 : me_38_51_1015 N tb rq = some v6) (n : Nat) : lp_36_51_2 N tb rq (n + 1 + 1 + 1 + 1 + 1 + 1 + 1) (nI 1) = some (bif gCmp .eq v1 0 then (bif gCmp .eq v2 0 then (bif gCmp .eq v3 0 then (bif gCmp .eq v4 0 then (bif gCmp .eq v5 0 then (bif gCmp .eq v6 0 then (-1) else nI 6) else nI 5) else nI 4) else nI 3) else nI 2) else nI 1) := by
  rw [s36_1 h1 (n + 1 + 1 + 1 + 1 + 1 + 1), t36_2 h2 h3 h4 h5 h6 n, gsome]
theorem t36_0 {N : Nat} {tb : Nat → Int32} {rq : hRq} {v0 v1 v2 v3 v4 v5 v6 : Int32} (h0 : me_38_51_1016 N tb rq = some v0) (h1 : me_38_51_1010 N tb rq = some v1) (h2 : me_38_51_1011 N tb rq = some v2) (h3 : me_38_51_1012 N tb rq = some v3) (h4 : me_38_51_1013 N tb rq = some v4) (h5 : me_38_51_1014 N tb rq = some v5) (h6 : me_38_51_1015 N tb rq = some v6) (n : Nat) : lp_36_51_2 N tb rq (n + 1 + 1 + 1 + 1 + 1 + 1 + 1 + 1) (nI 0) = some (bif gCmp .eq v0 0 then (bif gCmp .eq v1 0 then (bif gCmp .eq v2 0 then (bif gCmp .eq v3 0 then (bif gCmp .eq v4 0 then (bif gCmp .eq v5 0 then (bif gCmp .eq v6 0 then (-1) else nI 6) else nI 5) else nI 4) else nI 3) else nI 2) else nI 1) else nI 0) := by
  rw [s36_0 h0 (n + 1 + 1 + 1 + 1 + 1 + 1 + 1), t36_1 h1 h2 h3 h4 h5 h6 n, gsome]
/-- the kind that is told -/
theorem m_kind {N : Nat} (hN : 4000 ≤ N) {tb tp : Nat → Int32} {t b e : Nat} {rq : hRq} {tk bg en : Int32} {vl : Int64} (ht : t ≤ 120) (hK : jTk tb tp t rq tk bg en vl b e) : ∃ r, me_36_51 N tb rq = some r ∧ me_202_63_72 N tk vl = some r ∧ (r = -1 ∨ ∃ k : Nat, k < 7 ∧ r = nI k) := by
  obtain ⟨r, h1, h2⟩ := w_72 hN ht hK
  refine ⟨r, ?_, h1, ?_⟩
  · obtain ⟨M, hM⟩ : ∃ M, N = M + 1 + 1 + 1 + 1 + 1 + 1 + 1 + 1 := ⟨N - 8, by omega⟩
    have h0 : lp_36_51_2 N tb rq N 0 = lp_36_51_2 N tb rq (M + 1 + 1 + 1 + 1 + 1 + 1 + 1 + 1) (nI 0) := by
      rw [← hM]
      rfl
    unfold me_36_51
    rw [h0]
    clear h0 hM h1 hK
    rcases h2 with ⟨rfl, a0, a1, a2, a3, a4, a5, a6⟩ | ⟨rfl, a0, a1, a2, a3, a4, a5, a6⟩ | ⟨rfl, a0, a1, a2, a3, a4, a5, a6⟩ | ⟨rfl, a0, a1, a2, a3, a4, a5, a6⟩ | ⟨rfl, a0, a1, a2, a3, a4, a5, a6⟩ | ⟨rfl, a0, a1, a2, a3, a4, a5, a6⟩ | ⟨rfl, a0, a1, a2, a3, a4, a5, a6⟩ | ⟨rfl, a0, a1, a2, a3, a4, a5, a6⟩
    · rw [t36_0 a0 a1 a2 a3 a4 a5 a6 M]; decide
    · rw [t36_0 a0 a1 a2 a3 a4 a5 a6 M]; decide
    · rw [t36_0 a0 a1 a2 a3 a4 a5 a6 M]; decide
    · rw [t36_0 a0 a1 a2 a3 a4 a5 a6 M]; decide
    · rw [t36_0 a0 a1 a2 a3 a4 a5 a6 M]; decide
    · rw [t36_0 a0 a1 a2 a3 a4 a5 a6 M]; decide
    · rw [t36_0 a0 a1 a2 a3 a4 a5 a6 M]; decide
    · rw [t36_0 a0 a1 a2 a3 a4 a5 a6 M]; decide
  · rcases h2 with ⟨rfl, _⟩ | ⟨rfl, _⟩ | ⟨rfl, _⟩ | ⟨rfl, _⟩ | ⟨rfl, _⟩ | ⟨rfl, _⟩ | ⟨rfl, _⟩ | ⟨rfl, _⟩
    · exact .inl rfl
    · exact .inr ⟨0, by decide, rfl⟩
    · exact .inr ⟨1, by decide, rfl⟩
    · exact .inr ⟨2, by decide, rfl⟩
    · exact .inr ⟨3, by decide, rfl⟩
    · exact .inr ⟨4, by decide, rfl⟩
    · exact .inr ⟨5, by decide, rfl⟩
    · exact .inr ⟨6, by decide, rfl⟩
/-! TEXTS: numbers -/
theorem f39_k {tb tp : Nat → Int32} {t b e : Nat} {rq : hRq} {tk bg en : Int32} {vl : Int64} (h : jTk tb tp t rq tk bg en vl b e) : jTk tb tp t (f_39_51_rq rq) tk bg en vl b e := h
theorem f39_f {rq : hRq} {b : Nat} (h : rq.2.2.2.2.2 = -1) (hb : rq.2.2.1 = nI b) : (f_39_51_rq rq).2.2.2.2.2 = nI b := by
  unfold f_39_51_rq
  dsimp only
  rw [h, hb]
  rfl
theorem f39_s {rq : hRq} {b : Nat} (hb : b < 2 ^ 31) (h : rq.2.2.2.2.2 = nI b) : (f_39_51_rq rq).2.2.2.2.2 = nI b := by
  unfold f_39_51_rq
  dsimp only
  rw [h, show gCmp .ne (nI b) (-1) = true from by
    show (!decide (nI b = -1)) = true
    rw [decide_eq_false (fun h => absurd (congrArg Int32.toInt h) (by rw [nI_toInt hb]; show ¬ _ = (-1 : Int); omega))]
    rfl]
  rfl
theorem jtoI {v : Nat} : Int64.toInt32 (lN v) = nI v := lN_i v
/-- a number that isn't below 0 -/
theorem m_num {N : Nat} (hN : 4000 ≤ N) {tb tp : Nat → Int32} {t b e X : Nat} {rq : hRq} {tk bg en : Int32} {vl : Int64} (ht : t ≤ 120) (hT : jTp tb tp t) (hX : X ≤ 60) (x0 : Int32) (hx0 : gCmp .ge x0 0 = true ∨ gCmp .ne rq.2.1 4 = true) (hK : jTk tb tp t rq tk bg en vl b e) :
    (me_35_51 N x0 (nI X) tb rq = some (0, f_39_51_rq rq) ∧ me_203_63 N 0 (nI X) tp (nI t) tk bg en vl = some (-1, tk, bg, en, vl)) ∨
    (∃ v rq' tk' bg' en' vl' b' e', v ≤ X ∧ me_35_51 N x0 (nI X) tb rq = some (nI v, rq') ∧ me_203_63 N 0 (nI X) tp (nI t) tk bg en vl = some (nI v, tk', bg', en', vl') ∧ jTk tb tp t rq' tk' bg' en' vl' b' e' ∧ rq'.2.2.2.2.2 = rq.2.2.2.2.2 ∧ e ≤ b') := by
  have hmin : (bif gCmp .ge x0 0 then (0 : Int32) else (bif gCmp .ne rq.2.1 4 then 0 else 1)) = 0 := by
    rcases hx0 with h | h
    · rw [h]; rfl
    · rw [h]; cases gCmp .ge x0 0 <;> rfl
  unfold me_35_51 me_203_63
  rw [hmin, je0]
  simp only [cond_true]
  obtain ⟨⟨g1, g2, g3, g4, g5, g6, g7⟩, h⟩ := id hK
  have hno : ∀ k : Int32, rq.2.1 = k → gCmp .ne k 2 = true → gCmp .ne tk 2 = true → ((bif gCmp .ne rq.2.1 2 then some (0, f_39_51_rq rq) else (bif gCmp .le rq.2.2.2.2.1 (nI X) then (Option.bind (me_40_51 N tb rq) fun q10 => some (rq.2.2.2.2.1, q10)) else some (0, f_39_51_rq rq))) = some (0, f_39_51_rq rq) ∧ (bif gCmp .lt (bif gCmp .ne tk 2 then (-1 : Int32) else (bif gCmp .eq (v_125 (Int64.toInt32 vl) 0 (nI X)) 0 then (-1) else (Int64.toInt32 vl))) 0 then some ((bif gCmp .ne tk 2 then (-1 : Int32) else (bif gCmp .eq (v_125 (Int64.toInt32 vl) 0 (nI X)) 0 then (-1) else (Int64.toInt32 vl))), tk, bg, en, vl) else (Option.bind (me_201_63 N tp (nI t) en) fun q6 => some ((bif gCmp .ne tk 2 then (-1 : Int32) else (bif gCmp .eq (v_125 (Int64.toInt32 vl) 0 (nI X)) 0 then (-1) else (Int64.toInt32 vl))), q6.1, q6.2.1, q6.2.2.1, q6.2.2.2))) = some (-1, tk, bg, en, vl)) := by
    intro k e1 e2 e3
    rw [e1, e2, e3]
    exact ⟨rfl, rfl⟩
  rcases h with ⟨k1, rfl⟩ | ⟨k1, rfl, k2, k3, k4⟩ | ⟨k1, k2, v, k3, k4, k5⟩ | ⟨k1, rfl, k2⟩ | ⟨k1, rfl, k2⟩ | ⟨k1, rfl, k2⟩
  · exact .inl (hno 0 k1 (by decide) (by decide))
  · exact .inl (hno 1 k1 (by decide) (by decide))
  · rw [k1, show gCmp .ne (2 : Int32) 2 = false from by decide, k4, jle v X rfl rfl (by omega) (by omega)]
    rcases k5 with ⟨rfl, k6, rfl⟩ | ⟨rfl, k6⟩
    · rw [show gCmp .ne (2 : Int32) 2 = false from by decide, jtoI]
      unfold v_125
      rw [jltl v 0 rfl (by omega) (by decide), decide_eq_false (Nat.not_lt_zero v), jgt v X rfl rfl (by omega) (by omega)]
      by_cases hvX : v ≤ X
      · right
        obtain ⟨rq', tk', bg', en', vl', b', e', h1, h2, h3, h4, h5⟩ := m_adv hN ht hT g1 g4 g7
        rw [decide_eq_true hvX, decide_eq_false (show ¬ X < v by omega), h1, g5, h2]
        simp only [cond_true, cond_false, Option.bind_some]
        rw [je1]
        simp only [cond_false]
        rw [jltl v 0 rfl (by omega) (by decide), decide_eq_false (Nat.not_lt_zero v)]
        exact ⟨v, rq', tk', bg', en', vl', b', e', hvX, rfl, rfl, h3, h4, h5⟩
      · left
        rw [decide_eq_false hvX, decide_eq_true (show X < v by omega)]
        exact ⟨rfl, rfl⟩
    · left
      rw [decide_eq_false (show ¬ v ≤ X by omega), show gCmp .ne (4 : Int32) 2 = true from by decide]
      exact ⟨rfl, rfl⟩
  · exact .inl (hno 3 k1 (by decide) (by decide))
  · exact .inl (hno 4 k1 (by decide) (by decide))
  · exact .inl (hno 5 k1 (by decide) (by decide))
