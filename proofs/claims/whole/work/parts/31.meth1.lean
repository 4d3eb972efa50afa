theorem jlt {x y : Int32} (a b : Nat) (hx : x = nI a) (hy : y = nI b) (ha : a < 2 ^ 31) (hb : b < 2 ^ 31) : gCmp .lt x y = decide (a < b) := by
  subst hx; subst hy
  unfold gCmp
  exact decide_eq_decide.mpr (nI_ltI ha hb)
theorem jge {x y : Int32} (a b : Nat) (hx : x = nI a) (hy : y = nI b) (ha : a < 2 ^ 31) (hb : b < 2 ^ 31) : gCmp .ge x y = decide (b ≤ a) := by
  subst hx; subst hy
  unfold gCmp
  exact decide_eq_decide.mpr (nI_leI hb ha)
theorem jgt {x y : Int32} (a b : Nat) (hx : x = nI a) (hy : y = nI b) (ha : a < 2 ^ 31) (hb : b < 2 ^ 31) : gCmp .gt x y = decide (b < a) := by
  subst hx; subst hy
  unfold gCmp
  exact decide_eq_decide.mpr (nI_ltI hb ha)
theorem jle {x y : Int32} (a b : Nat) (hx : x = nI a) (hy : y = nI b) (ha : a < 2 ^ 31) (hb : b < 2 ^ 31) : gCmp .le x y = decide (a ≤ b) := by
  subst hx; subst hy
  unfold gCmp
  exact decide_eq_decide.mpr (nI_leI ha hb)
theorem jne {x y : Int32} (a b : Nat) (hx : x = nI a) (hy : y = nI b) (ha : a < 2 ^ 31) (hb : b < 2 ^ 31) : gCmp .ne x y = !decide (a = b) := by
  subst hx; subst hy
  unfold gCmp
  rw [decide_eq_decide.mpr (nI_eq ha hb)]
theorem jeq {x y : Int32} (a b : Nat) (hx : x = nI a) (hy : y = nI b) (ha : a < 2 ^ 31) (hb : b < 2 ^ 31) : gCmp .eq x y = decide (a = b) := by
  subst hx; subst hy
  unfold gCmp
  exact decide_eq_decide.mpr (nI_eq ha hb)
theorem jltl {x : Int32} (a b : Nat) (hx : x = nI a) (ha : a < 2 ^ 31) (hb : b < 2 ^ 31) : gCmp .lt x (OfNat.ofNat b) = decide (a < b) := jlt a b hx rfl ha hb
theorem jgel {x : Int32} (a b : Nat) (hx : x = nI a) (ha : a < 2 ^ 31) (hb : b < 2 ^ 31) : gCmp .ge x (OfNat.ofNat b) = decide (b ≤ a) := jge a b hx rfl ha hb
theorem jgtl {x : Int32} (a b : Nat) (hx : x = nI a) (ha : a < 2 ^ 31) (hb : b < 2 ^ 31) : gCmp .gt x (OfNat.ofNat b) = decide (b < a) := jgt a b hx rfl ha hb
theorem jlel {x : Int32} (a b : Nat) (hx : x = nI a) (ha : a < 2 ^ 31) (hb : b < 2 ^ 31) : gCmp .le x (OfNat.ofNat b) = decide (a ≤ b) := jle a b hx rfl ha hb
theorem jnel {x : Int32} (a b : Nat) (hx : x = nI a) (ha : a < 2 ^ 31) (hb : b < 2 ^ 31) : gCmp .ne x (OfNat.ofNat b) = (!decide (a = b)) := jne a b hx rfl ha hb
theorem jeql {x : Int32} (a b : Nat) (hx : x = nI a) (ha : a < 2 ^ 31) (hb : b < 2 ^ 31) : gCmp .eq x (OfNat.ofNat b) = decide (a = b) := jeq a b hx rfl ha hb
theorem joff {k : Nat} (a : Nat) {x : Int32} (hx : x = nI k) (h : a + k < 134) : gIn ((OfNat.ofNat a : Int32) + x) 134 = true ∧ Int32.toNatClampNeg ((OfNat.ofNat a : Int32) + x) = a + k := by
  subst hx
  rw [show ((OfNat.ofNat a : Int32) + nI k) = nI (a + k) from by rw [show (OfNat.ofNat a : Int32) = nI a from rfl, nI_add]]
  exact ⟨jin h (by decide), jcl (by omega)⟩
theorem jR_u {x : Int32} (n : Nat) (h : jR 0 n x) (hn : n < 2 ^ 31) : ∃ k : Nat, k ≤ n ∧ x = nI k := by
  obtain ⟨k, h1, h2, h3⟩ := jR_n h
  exact ⟨k, by omega, h3⟩
/-- pull -/
theorem q_pull (N : Nat) {b : hB} {s fi fo : Nat → Int32} (x0 : Int32) (hB : jB b s) (hF : jF fi fo) : ∃ qc qm, me_61_0 N x0 b fi = some qc ∧ me_139_63 N x0 s fo = some qm ∧ qc.1 = qm.1 ∧ jB qc.2.1 qm.2.1 ∧ jF qc.2.2 qm.2.2 := by
  obtain ⟨⟨hl, hr⟩, hC, hG⟩ := id hB
  unfold me_61_0 me_139_63
  rcases jw x0 0 6 with ⟨h1, h2, h3⟩ | ⟨h1, h2⟩
  · obtain ⟨n, hn, e⟩ := jR_u 8 hG.1.2.2.2 (by decide)
    have eb : b.2.2.2.2.1 = nI n := by rw [← hC.1.2.2]; exact e
    simp only [h1, h2, jn1, cond_true, eb, e]
    rw [jltl n 8 rfl (by omega) (by decide), jgel n 8 rfl (by omega) (by decide), jnel n 8 rfl (by omega) (by decide)]
    by_cases hn8 : n < 8
    · rw [decide_eq_true hn8, decide_eq_false (show ¬ 8 ≤ n by omega), decide_eq_false (show ¬ n = 8 by omega), jin hn8 (by decide), (j153_0 hn8).1, (j153_1 hn8).1, (j153_2 hn8).1]
      refine ⟨_, _, rfl, rfl, ?_, ?_⟩
      · unfold f_13_1_b f_138_63_m_s f_132_63_m_s
        rw [e, eb, (j153_0 hn8).2, (j153_1 hn8).2, (j153_2 hn8).2, jgel n 8 rfl (by omega) (by decide), decide_eq_false (show ¬ 8 ≤ n by omega), jcl (by omega), pk_us, pk_un (by omega), pk_un (by omega), pk_un (by omega), e]
        rfl
      · refine ⟨?_, hF⟩
        unfold f_13_1_b f_138_63_m_s f_132_63_m_s
        rw [e, eb, (j153_0 hn8).2, (j153_1 hn8).2, (j153_2 hn8).2, jgel n 8 rfl (by omega) (by decide), decide_eq_false (show ¬ 8 ≤ n by omega), jcl (by omega)]
        simp only [cond_false]
        refine ⟨⟨?_, ?_⟩, ?_, ?_⟩
        · rw [pk_un (by omega), pk_un (by omega), pk_un (by omega), pk_un (by omega)]; exact hl
        · rw [pk_un (by omega), pk_un (by omega), pk_un (by omega), pk_un (by omega)]; exact hr
        · rw [pk_un (j := 3) (by omega), pk_un (j := 3) (by omega), pk_un (j := 3) (by omega), e]
          exact jC_pulls (jC_lean (jC_by (jC_kind hC hn8) hn8) hn8)
        · rw [pk_un (j := 3) (by omega), pk_un (j := 3) (by omega), pk_un (j := 3) (by omega), e, nI_1]
          refine jG_pulls (jG_lean (jG_by (jG_kind hG hn8 h3) hn8 ⟨by decide, by decide⟩) hn8 ⟨by decide, by decide⟩) (jR_nI (by omega) (by omega) (by omega)) ?_
          rw [pk_un (j := 3) (by omega), pk_un (j := 3) (by omega), pk_un (j := 3) (by omega), e, nI_toInt (by omega), nI_toInt (by omega)]
          omega
    · rw [decide_eq_false hn8, decide_eq_true (show n = 8 by omega)]
      exact ⟨_, _, rfl, rfl, rfl, hB, jF_no 1 hF (by decide)⟩
  · simp only [h1, h2, jn0, cond_false]
    exact ⟨_, _, rfl, rfl, rfl, hB, jF_no 0 hF (by decide)⟩
theorem jR_5 {x : Int32} (h : jR 0 4 x) : x = 0 ∨ x = 1 ∨ x = 2 ∨ x = 3 ∨ x = 4 := by
  obtain ⟨k, hk, rfl⟩ := jR_u 4 h (by decide)
  match k, hk with
  | 0, _ => exact .inl rfl
  | 1, _ => exact .inr (.inl rfl)
  | 2, _ => exact .inr (.inr (.inl rfl))
  | 3, _ => exact .inr (.inr (.inr (.inl rfl)))
  | 4, _ => exact .inr (.inr (.inr (.inr rfl)))
theorem jR_3 {x : Int32} (h : jR 0 2 x) : x = 0 ∨ x = 1 ∨ x = 2 := by
  obtain ⟨k, hk, rfl⟩ := jR_u 2 h (by decide)
  match k, hk with
  | 0, _ => exact .inl rfl
  | 1, _ => exact .inr (.inl rfl)
  | 2, _ => exact .inr (.inr rfl)
/-- of -/
theorem q_of (N : Nat) {b : hB} {s fi fo : Nat → Int32} (x0 x1 : Int32) (hB : jB b s) (hF : jF fi fo) : ∃ qc qm, me_62_0 N x0 x1 b fi = some qc ∧ me_140_63 N x0 x1 s fo = some qm ∧ qc.1 = qm.1 ∧ jF qc.2 qm.2 := by
  obtain ⟨⟨hl, hr⟩, hC, hG⟩ := id hB
  unfold me_62_0 me_140_63
  rcases jp hC.1.2.2 hG.1.2.2.2 x0 with ⟨h1, h2, k, hk, hkp, rfl⟩ | ⟨h1, h2⟩
  · rw [h1, h2, jn0, je1]
    rcases jw x1 0 4 with ⟨h3, h4, h5⟩ | ⟨h3, h4⟩
    · rw [h3, h4, jn1, jin (n := 8) hk (by decide), (j153_0 hk).1, (j153_1 hk).1, (j153_2 hk).1, j16 hC hG hk, j17 hC hG hk, ← hl, ← hr]
      obtain ⟨g1, g2, g3⟩ := hC.2.1 k hk
      rcases jR_5 h5 with rfl | rfl | rfl | rfl | rfl
      · rw [(j153_0 hk).1]
        refine ⟨_, _, rfl, rfl, ?_, hF⟩
        show b.2.2.2.2.2.1 (Int32.toNatClampNeg (nI k)) = v_131_63 (nI k) 0 s
        unfold v_131_63
        rw [(j153_0 hk).2, jcl (by omega), g1]
      · rw [(j153_1 hk).1]
        refine ⟨_, _, rfl, rfl, ?_, hF⟩
        show b.2.2.2.2.2.2.1 (Int32.toNatClampNeg (nI k)) = v_131_63 (nI k) 1 s
        unfold v_131_63
        rw [(j153_1 hk).2, jcl (by omega), g2]
      · rw [(j153_2 hk).1]
        refine ⟨_, _, rfl, rfl, ?_, hF⟩
        show b.2.2.2.2.2.2.2.1 (Int32.toNatClampNeg (nI k)) = v_131_63 (nI k) 2 s
        unfold v_131_63
        rw [(j153_2 hk).2, jcl (by omega), g3]
      · exact ⟨_, _, rfl, rfl, rfl, hF⟩
      · exact ⟨_, _, rfl, rfl, rfl, hF⟩
    · rw [h3, h4, jn0]
      exact ⟨_, _, rfl, rfl, rfl, jF_no 0 hF (by decide)⟩
  · rw [h1, h2, jn1, je0]
    exact ⟨_, _, rfl, rfl, rfl, jF_no 0 hF (by decide)⟩
/-- change -/
theorem q_change (N : Nat) {b : hB} {s fi fo : Nat → Int32} (x0 x1 x2 : Int32) (hB : jB b s) (hF : jF fi fo) : ∃ qc qm, me_63_0 N x0 x1 x2 b fi = some qc ∧ me_141_63 N x0 x1 x2 s fo = some qm ∧ qc.1 = qm.1 ∧ jB qc.2.1 qm.2.1 ∧ jF qc.2.2 qm.2.2 := by
  obtain ⟨⟨hl, hr⟩, hC, hG⟩ := id hB
  unfold me_63_0 me_141_63
  rcases jp hC.1.2.2 hG.1.2.2.2 x0 with ⟨h1, h2, k, hk, hkp, rfl⟩ | ⟨h1, h2⟩
  · rw [h1, h2, jn0, je1]
    rcases jw x1 0 2 with ⟨h3, h4, h5⟩ | ⟨h3, h4⟩
    · rw [h3, h4, je1]
      obtain ⟨g1, g2, g3⟩ := hC.2.1 k hk
      rcases jR_3 h5 with rfl | rfl | rfl
      · rw [show gIn (0 : Int32) 3 = true from by decide, (j153_0 hk).1]
        rcases jw x2 0 6 with ⟨h6, h7, h8⟩ | ⟨h6, h7⟩
        · rw [show v_112 x2 ((gSa 1).getD (Int32.toNatClampNeg 0) 0) ((gSa 2).getD (Int32.toNatClampNeg 0) 0) = 1 from h6, show v_125 x2 (bif gCmp .ne (0 : Int32) 0 then (-(bif gCmp .ne (0 : Int32) 0 then (bif gCmp .ne (0 : Int32) 1 then 9 else 30) else 6)) else 0) (bif gCmp .ne (0 : Int32) 0 then (bif gCmp .ne (0 : Int32) 1 then 9 else 30) else 6) = 1 from h7, jn1, jin (n := 8) hk (by decide)]
          refine ⟨_, _, rfl, rfl, ?_, ?_, hF⟩
          · show v_115_2 (nI k) b = v_131_63 (nI k) 0 s
            unfold v_115_2 v_131_63
            rw [(j153_0 hk).2, jcl (by omega), g1]
          · show jB (f_115_2_b (nI k) x2 b) (f_132_63_m_s (nI k) 0 x2 s)
            unfold f_115_2_b f_132_63_m_s
            rw [(j153_0 hk).2, jcl (by omega)]
            exact ⟨⟨(pk_un (by omega)).trans hl, (pk_un (by omega)).trans hr⟩, jC_kind hC hk, jG_kind hG hk h8⟩
        · rw [show v_112 x2 ((gSa 1).getD (Int32.toNatClampNeg 0) 0) ((gSa 2).getD (Int32.toNatClampNeg 0) 0) = 0 from h6, show v_125 x2 (bif gCmp .ne (0 : Int32) 0 then (-(bif gCmp .ne (0 : Int32) 0 then (bif gCmp .ne (0 : Int32) 1 then 9 else 30) else 6)) else 0) (bif gCmp .ne (0 : Int32) 0 then (bif gCmp .ne (0 : Int32) 1 then 9 else 30) else 6) = 0 from h7, jn0]
          exact ⟨_, _, rfl, rfl, rfl, hB, jF_no 0 hF (by decide)⟩
      · rw [show gIn (1 : Int32) 3 = true from by decide, (j153_1 hk).1]
        rcases jw x2 (-30) 30 with ⟨h6, h7, h8⟩ | ⟨h6, h7⟩
        · rw [show v_112 x2 ((gSa 1).getD (Int32.toNatClampNeg 1) 0) ((gSa 2).getD (Int32.toNatClampNeg 1) 0) = 1 from h6, show v_125 x2 (bif gCmp .ne (1 : Int32) 0 then (-(bif gCmp .ne (1 : Int32) 0 then (bif gCmp .ne (1 : Int32) 1 then 9 else 30) else 6)) else 0) (bif gCmp .ne (1 : Int32) 0 then (bif gCmp .ne (1 : Int32) 1 then 9 else 30) else 6) = 1 from h7, jn1, jin (n := 8) hk (by decide)]
          refine ⟨_, _, rfl, rfl, ?_, ?_, hF⟩
          · show v_115_3 (nI k) b = v_131_63 (nI k) 1 s
            unfold v_115_3 v_131_63
            rw [(j153_1 hk).2, jcl (by omega), g2]
          · show jB (f_115_3_b (nI k) x2 b) (f_132_63_m_s (nI k) 1 x2 s)
            unfold f_115_3_b f_132_63_m_s
            rw [(j153_1 hk).2, jcl (by omega)]
            exact ⟨⟨(pk_un (by omega)).trans hl, (pk_un (by omega)).trans hr⟩, jC_by hC hk, jG_by hG hk h8⟩
        · rw [show v_112 x2 ((gSa 1).getD (Int32.toNatClampNeg 1) 0) ((gSa 2).getD (Int32.toNatClampNeg 1) 0) = 0 from h6, show v_125 x2 (bif gCmp .ne (1 : Int32) 0 then (-(bif gCmp .ne (1 : Int32) 0 then (bif gCmp .ne (1 : Int32) 1 then 9 else 30) else 6)) else 0) (bif gCmp .ne (1 : Int32) 0 then (bif gCmp .ne (1 : Int32) 1 then 9 else 30) else 6) = 0 from h7, jn0]
          exact ⟨_, _, rfl, rfl, rfl, hB, jF_no 0 hF (by decide)⟩
      · rw [show gIn (2 : Int32) 3 = true from by decide, (j153_2 hk).1]
        rcases jw x2 (-9) 9 with ⟨h6, h7, h8⟩ | ⟨h6, h7⟩
        · rw [show v_112 x2 ((gSa 1).getD (Int32.toNatClampNeg 2) 0) ((gSa 2).getD (Int32.toNatClampNeg 2) 0) = 1 from h6, show v_125 x2 (bif gCmp .ne (2 : Int32) 0 then (-(bif gCmp .ne (2 : Int32) 0 then (bif gCmp .ne (2 : Int32) 1 then 9 else 30) else 6)) else 0) (bif gCmp .ne (2 : Int32) 0 then (bif gCmp .ne (2 : Int32) 1 then 9 else 30) else 6) = 1 from h7, jn1, jin (n := 8) hk (by decide)]
          refine ⟨_, _, rfl, rfl, ?_, ?_, hF⟩
          · show v_115_4 (nI k) b = v_131_63 (nI k) 2 s
            unfold v_115_4 v_131_63
            rw [(j153_2 hk).2, jcl (by omega), g3]
          · show jB (f_115_4_b (nI k) x2 b) (f_132_63_m_s (nI k) 2 x2 s)
            unfold f_115_4_b f_132_63_m_s
            rw [(j153_2 hk).2, jcl (by omega)]
            exact ⟨⟨(pk_un (by omega)).trans hl, (pk_un (by omega)).trans hr⟩, jC_lean hC hk, jG_lean hG hk h8⟩
        · rw [show v_112 x2 ((gSa 1).getD (Int32.toNatClampNeg 2) 0) ((gSa 2).getD (Int32.toNatClampNeg 2) 0) = 0 from h6, show v_125 x2 (bif gCmp .ne (2 : Int32) 0 then (-(bif gCmp .ne (2 : Int32) 0 then (bif gCmp .ne (2 : Int32) 1 then 9 else 30) else 6)) else 0) (bif gCmp .ne (2 : Int32) 0 then (bif gCmp .ne (2 : Int32) 1 then 9 else 30) else 6) = 0 from h7, jn0]
          exact ⟨_, _, rfl, rfl, rfl, hB, jF_no 0 hF (by decide)⟩
    · rw [h3, h4, je0]
      exact ⟨_, _, rfl, rfl, rfl, hB, jF_no 0 hF (by decide)⟩
  · rw [h1, h2, jn1, je0]
    exact ⟨_, _, rfl, rfl, rfl, hB, jF_no 0 hF (by decide)⟩
theorem jR_6 {x : Int32} (h : jR 0 5 x) : x = 0 ∨ x = 1 ∨ x = 2 ∨ x = 3 ∨ x = 4 ∨ x = 5 := by
  obtain ⟨k, hk, rfl⟩ := jR_u 5 h (by decide)
  match k, hk with
  | 0, _ => exact .inl rfl
  | 1, _ => exact .inr (.inl rfl)
  | 2, _ => exact .inr (.inr (.inl rfl))
  | 3, _ => exact .inr (.inr (.inr (.inl rfl)))
  | 4, _ => exact .inr (.inr (.inr (.inr (.inl rfl))))
  | 5, _ => exact .inr (.inr (.inr (.inr (.inr rfl))))
/-- rule -/
theorem q_rule (N : Nat) {b : hB} {s fi fo : Nat → Int32} (x0 x1 : Int32) (hB : jB b s) (hF : jF fi fo) : ∃ qc qm, me_64_0 N x0 x1 b fi = some qc ∧ me_143_63 N x0 x1 s fo = some qm ∧ qc.1 = qm.1 ∧ jB qc.2.1 qm.2.1 ∧ jF qc.2.2 qm.2.2 := by
  obtain ⟨⟨hl, hr⟩, hC, hG⟩ := id hB
  unfold me_64_0 me_143_63
  rcases jw x0 0 5 with ⟨h1, h2, h3⟩ | ⟨h1, h2⟩
  · rw [h1, h2, je1]
    have h5 := hC.2.2.1
    rcases jR_6 h3 with rfl | rfl | rfl | rfl | rfl | rfl
    · rw [show gIn (0 : Int32) 6 = true from by decide, show gIn (5 + (0 : Int32)) 134 = true from by decide]
      rcases jw x1 (-9) 9 with ⟨h6, h7, h8⟩ | ⟨h6, h7⟩
      · rw [show v_112 x1 ((gSa 3).getD (Int32.toNatClampNeg 0) 0) ((gSa 4).getD (Int32.toNatClampNeg 0) 0) = 1 from h6, show v_125 x1 (bif gCmp .ne (0 : Int32) 0 then 0 else (-9)) (v_142 0) = 1 from h7, jn1]
        exact ⟨_, _, rfl, rfl, (h5 0 (by decide)).symm, ⟨⟨hl, hr⟩, jC_rule (k := 0) hC (by decide), jG_r0 hG h8⟩, hF⟩
      · rw [show v_112 x1 ((gSa 3).getD (Int32.toNatClampNeg 0) 0) ((gSa 4).getD (Int32.toNatClampNeg 0) 0) = 0 from h6, show v_125 x1 (bif gCmp .ne (0 : Int32) 0 then 0 else (-9)) (v_142 0) = 0 from h7, jn0]
        exact ⟨_, _, rfl, rfl, rfl, hB, jF_no 0 hF (by decide)⟩
    · rw [show gIn (1 : Int32) 6 = true from by decide, show gIn (5 + (1 : Int32)) 134 = true from by decide]
      rcases jw x1 0 9 with ⟨h6, h7, h8⟩ | ⟨h6, h7⟩
      · rw [show v_112 x1 ((gSa 3).getD (Int32.toNatClampNeg 1) 0) ((gSa 4).getD (Int32.toNatClampNeg 1) 0) = 1 from h6, show v_125 x1 (bif gCmp .ne (1 : Int32) 0 then 0 else (-9)) (v_142 1) = 1 from h7, jn1]
        exact ⟨_, _, rfl, rfl, (h5 1 (by decide)).symm, ⟨⟨hl, hr⟩, jC_rule (k := 1) hC (by decide), jG_r1 hG h8⟩, hF⟩
      · rw [show v_112 x1 ((gSa 3).getD (Int32.toNatClampNeg 1) 0) ((gSa 4).getD (Int32.toNatClampNeg 1) 0) = 0 from h6, show v_125 x1 (bif gCmp .ne (1 : Int32) 0 then 0 else (-9)) (v_142 1) = 0 from h7, jn0]
        exact ⟨_, _, rfl, rfl, rfl, hB, jF_no 0 hF (by decide)⟩
    · rw [show gIn (2 : Int32) 6 = true from by decide, show gIn (5 + (2 : Int32)) 134 = true from by decide]
      rcases jw x1 0 9 with ⟨h6, h7, h8⟩ | ⟨h6, h7⟩
      · rw [show v_112 x1 ((gSa 3).getD (Int32.toNatClampNeg 2) 0) ((gSa 4).getD (Int32.toNatClampNeg 2) 0) = 1 from h6, show v_125 x1 (bif gCmp .ne (2 : Int32) 0 then 0 else (-9)) (v_142 2) = 1 from h7, jn1]
        exact ⟨_, _, rfl, rfl, (h5 2 (by decide)).symm, ⟨⟨hl, hr⟩, jC_rule (k := 2) hC (by decide), jG_r2 hG h8⟩, hF⟩
      · rw [show v_112 x1 ((gSa 3).getD (Int32.toNatClampNeg 2) 0) ((gSa 4).getD (Int32.toNatClampNeg 2) 0) = 0 from h6, show v_125 x1 (bif gCmp .ne (2 : Int32) 0 then 0 else (-9)) (v_142 2) = 0 from h7, jn0]
        exact ⟨_, _, rfl, rfl, rfl, hB, jF_no 0 hF (by decide)⟩
    · rw [show gIn (3 : Int32) 6 = true from by decide, show gIn (5 + (3 : Int32)) 134 = true from by decide]
      rcases jw x1 0 60 with ⟨h6, h7, h8⟩ | ⟨h6, h7⟩
      · rw [show v_112 x1 ((gSa 3).getD (Int32.toNatClampNeg 3) 0) ((gSa 4).getD (Int32.toNatClampNeg 3) 0) = 1 from h6, show v_125 x1 (bif gCmp .ne (3 : Int32) 0 then 0 else (-9)) (v_142 3) = 1 from h7, jn1]
        exact ⟨_, _, rfl, rfl, (h5 3 (by decide)).symm, ⟨⟨hl, hr⟩, jC_rule (k := 3) hC (by decide), jG_r3 hG h8⟩, hF⟩
      · rw [show v_112 x1 ((gSa 3).getD (Int32.toNatClampNeg 3) 0) ((gSa 4).getD (Int32.toNatClampNeg 3) 0) = 0 from h6, show v_125 x1 (bif gCmp .ne (3 : Int32) 0 then 0 else (-9)) (v_142 3) = 0 from h7, jn0]
        exact ⟨_, _, rfl, rfl, rfl, hB, jF_no 0 hF (by decide)⟩
    · rw [show gIn (4 : Int32) 6 = true from by decide, show gIn (5 + (4 : Int32)) 134 = true from by decide]
      rcases jw x1 0 99 with ⟨h6, h7, h8⟩ | ⟨h6, h7⟩
      · rw [show v_112 x1 ((gSa 3).getD (Int32.toNatClampNeg 4) 0) ((gSa 4).getD (Int32.toNatClampNeg 4) 0) = 1 from h6, show v_125 x1 (bif gCmp .ne (4 : Int32) 0 then 0 else (-9)) (v_142 4) = 1 from h7, jn1]
        exact ⟨_, _, rfl, rfl, (h5 4 (by decide)).symm, ⟨⟨hl, hr⟩, jC_rule (k := 4) hC (by decide), jG_r4 hG h8⟩, hF⟩
      · rw [show v_112 x1 ((gSa 3).getD (Int32.toNatClampNeg 4) 0) ((gSa 4).getD (Int32.toNatClampNeg 4) 0) = 0 from h6, show v_125 x1 (bif gCmp .ne (4 : Int32) 0 then 0 else (-9)) (v_142 4) = 0 from h7, jn0]
        exact ⟨_, _, rfl, rfl, rfl, hB, jF_no 0 hF (by decide)⟩
    · rw [show gIn (5 : Int32) 6 = true from by decide, show gIn (5 + (5 : Int32)) 134 = true from by decide]
      rcases jw x1 0 60 with ⟨h6, h7, h8⟩ | ⟨h6, h7⟩
      · rw [show v_112 x1 ((gSa 3).getD (Int32.toNatClampNeg 5) 0) ((gSa 4).getD (Int32.toNatClampNeg 5) 0) = 1 from h6, show v_125 x1 (bif gCmp .ne (5 : Int32) 0 then 0 else (-9)) (v_142 5) = 1 from h7, jn1]
        exact ⟨_, _, rfl, rfl, (h5 5 (by decide)).symm, ⟨⟨hl, hr⟩, jC_rule (k := 5) hC (by decide), jG_r5 hG h8⟩, hF⟩
      · rw [show v_112 x1 ((gSa 3).getD (Int32.toNatClampNeg 5) 0) ((gSa 4).getD (Int32.toNatClampNeg 5) 0) = 0 from h6, show v_125 x1 (bif gCmp .ne (5 : Int32) 0 then 0 else (-9)) (v_142 5) = 0 from h7, jn0]
        exact ⟨_, _, rfl, rfl, rfl, hB, jF_no 0 hF (by decide)⟩
  · rw [h1, h2, je0]
    exact ⟨_, _, rfl, rfl, rfl, hB, jF_no 0 hF (by decide)⟩
/-- ruled -/
theorem q_ruled (N : Nat) {b : hB} {s fi fo : Nat → Int32} (x0 : Int32) (hB : jB b s) (hF : jF fi fo) : ∃ qc qm, me_65_0 N x0 b fi = some qc ∧ me_144_63 N x0 s fo = some qm ∧ qc.1 = qm.1 ∧ jF qc.2 qm.2 := by
  obtain ⟨⟨hl, hr⟩, hC, hG⟩ := id hB
  unfold me_65_0 me_144_63
  rcases jw x0 0 5 with ⟨h1, h2, h3⟩ | ⟨h1, h2⟩
  · obtain ⟨k, hk, rfl⟩ := jR_u 5 h3 (by decide)
    rw [h1, h2, jn1, je1, jin (show k < 6 by omega) (by decide), (joff 5 rfl (show 5 + k < 134 by omega)).1, (joff 5 rfl (show 5 + k < 134 by omega)).2, jcl (by omega)]
    exact ⟨_, _, rfl, rfl, (hC.2.2.1 k (by omega)).symm, hF⟩
  · rw [h1, h2, jn0, je0]
    exact ⟨_, _, rfl, rfl, rfl, jF_no 0 hF (by decide)⟩
/-- price -/
theorem q_price (N : Nat) {b : hB} {s fi fo : Nat → Int32} (x0 x1 : Int32) (hB : jB b s) (hF : jF fi fo) : ∃ qc qm, me_66_0 N x0 x1 b fi = some qc ∧ me_145_63 N x0 x1 s fo = some qm ∧ qc.1 = qm.1 ∧ jB qc.2.1 qm.2.1 ∧ jF qc.2.2 qm.2.2 := by
  obtain ⟨⟨hl, hr⟩, hC, hG⟩ := id hB
  unfold me_66_0 me_145_63
  rcases jw x0 0 3 with ⟨h1, h2, h3⟩ | ⟨h1, h2⟩
  · obtain ⟨k, hk, rfl⟩ := jR_u 3 h3 (by decide)
    rcases jw x1 0 99 with ⟨h4, h5, h6⟩ | ⟨h4, h5⟩
    · rw [h1, h2, h4, h5, jn1, je1, jin (show k < 4 by omega) (by decide), (joff 11 rfl (show 11 + k < 134 by omega)).1, (joff 11 rfl (show 11 + k < 134 by omega)).2]
      unfold v_115_6 f_115_6_b
      rw [jcl (by omega)]
      exact ⟨_, _, rfl, rfl, (hC.2.2.2.1 k (by omega)).symm, ⟨⟨(pk_un (by omega)).trans hl, (pk_un (by omega)).trans hr⟩, jC_price hC (by omega), jG_price hG (by omega) h6⟩, hF⟩
    · rw [h1, h2, h4, h5, jn0, je1]
      exact ⟨_, _, rfl, rfl, rfl, hB, jF_no 0 hF (by decide)⟩
  · rw [h1, h2, je0]
    exact ⟨_, _, rfl, rfl, rfl, hB, jF_no 0 hF (by decide)⟩
/-- up -/
theorem q_up (N : Nat) {b : hB} {s fi fo : Nat → Int32} (x0 x1 : Int32) (hB : jB b s) (hF : jF fi fo) : ∃ qc qm, me_67_0 N x0 x1 b fi = some qc ∧ me_147_63 N x0 x1 s fo = some qm ∧ qc.1 = qm.1 ∧ jB qc.2.1 qm.2.1 ∧ jF qc.2.2 qm.2.2 := by
  obtain ⟨⟨hl, hr⟩, hC, hG⟩ := id hB
  unfold me_67_0 me_147_63 v_130
  rcases jw x0 0 60 with ⟨h1, h2, h3⟩ | ⟨h1, h2⟩
  · rcases jw x1 0 60 with ⟨h4, h5, h6⟩ | ⟨h4, h5⟩
    · rw [h1, h2, h4, h5, jn1, je1]
      exact ⟨_, _, rfl, rfl, rfl, ⟨⟨rfl, rfl⟩, jC_rr (jC_l hC), jG_rr (jG_l hG h3) h6⟩, hF⟩
    · rw [h1, h2, h4, h5, jn0, je1]
      exact ⟨_, _, rfl, rfl, rfl, hB, jF_no 0 hF (by decide)⟩
  · rw [h1, h2, je0]
    exact ⟨_, _, rfl, rfl, rfl, hB, jF_no 0 hF (by decide)⟩
theorem jw9 {w : Nat} (hw : w ≤ 9999) : (if nI w + 1 < 9999 then nI w + 1 else 9999) = nI (if w < 9999 then w + 1 else w) ∧ nI w + (bif gCmp .ge (nI w) 9999 then 0 else 1) = nI (if w < 9999 then w + 1 else w) := by
  rw [jgel w 9999 rfl (by omega) (by decide), nI_1, show (9999 : Int32) = nI 9999 from rfl]
  by_cases h : w < 9999
  · rw [if_pos h, decide_eq_false (show ¬ 9999 ≤ w by omega)]
    refine ⟨?_, nI_1 w⟩
    by_cases h2 : w + 1 < 9999
    · rw [if_pos ((nI_ltI (a := w + 1) (b := 9999) (by omega) (by decide)).mpr h2)]
    · rw [if_neg (fun h3 => h2 ((nI_ltI (a := w + 1) (b := 9999) (by omega) (by decide)).mp h3))]
      rw [show w + 1 = 9999 by omega]
  · rw [if_neg h, decide_eq_true (show 9999 ≤ w by omega)]
    refine ⟨?_, ?_⟩
    · rw [if_neg (fun h3 => by have := (nI_ltI (a := w + 1) (b := 9999) (by omega) (by decide)).mp h3; omega)]
      rw [show w = 9999 by omega]
    · show nI w + 0 = _
      rw [Int32.add_zero]
/-- a pull is done -/
theorem j20 {b : hB} {s : Nat → Int32} {k : Nat} (hB : jB b s) (hk : k < 8) (hd : (s 2).toInt < 99999) : jB (f_20_1_b (nI k) b) (f_148_63_m_s (nI k) s) := by
  obtain ⟨⟨hl, hr⟩, hC, hG⟩ := id hB
  obtain ⟨p, hp, ep⟩ := jR_u 60 hG.1.1 (by decide)
  obtain ⟨dn, hdn, edn⟩ := jR_u 99999 hG.1.2.2.1 (by decide)
  rw [edn, nI_toInt (by omega)] at hd
  obtain ⟨w, hw, ew⟩ := jR_u 9999 (hG.2.2.2.2.1 p (by omega)) (by decide)
  have ewb : b.2.2.2.2.2.2.2.2.2.2.1 p = nI w := by rw [← hC.2.2.2.2.1 p (by omega)]; exact ew
  have edb : b.2.2.1 = nI dn := by rw [← hC.1.1]; exact edn
  have elb : b.1 = nI p := by rw [← hl]; exact ep
  unfold f_20_1_b f_148_63_m_s
  rw [ep, elb, jcl (by omega), (joff 39 rfl (show 39 + p < 134 by omega)).2, ew, ewb, edb]
  have hw2 := jw9 hw
  rw [hw2.1, hw2.2]
  have hwv : jR 0 9999 (nI (if w < 9999 then w + 1 else w)) := jR_nI (by split <;> omega) (by split <;> omega) (by split <;> omega)
  have hC1 : jC (b.1, b.2.1, nI dn + 1, b.2.2.2.1, b.2.2.2.2.1, b.2.2.2.2.2.1, b.2.2.2.2.2.2.1, b.2.2.2.2.2.2.2.1, b.2.2.2.2.2.2.2.2.1, b.2.2.2.2.2.2.2.2.2.1, upd b.2.2.2.2.2.2.2.2.2.2.1 p (nI (if w < 9999 then w + 1 else w)), b.2.2.2.2.2.2.2.2.2.2.2) (upd (upd (upd (upd s (39 + p) (nI (if w < 9999 then w + 1 else w))) 0 (f_136_63_m_tl (nI k) s (f_135_63_m_tl s) (f_135_63_m_tr s))) 1 (f_136_63_m_tr (nI k) s (f_135_63_m_tl s) (f_135_63_m_tr s))) 2 (nI dn + 1)) := jC_done (jC_rr (jC_l (jC_wear hC (by omega))))
  have e2 : upd (upd (upd s (39 + p) (nI (if w < 9999 then w + 1 else w))) 0 (f_136_63_m_tl (nI k) s (f_135_63_m_tl s) (f_135_63_m_tr s))) 1 (f_136_63_m_tr (nI k) s (f_135_63_m_tl s) (f_135_63_m_tr s)) 2 = nI dn := by
    rw [pk_un (by omega), pk_un (by omega), pk_un (by omega)]; exact edn
  rw [e2]
  have hCs : jC (b.1, b.2.1, nI dn + 1, b.2.2.2.1, b.2.2.2.2.1, b.2.2.2.2.2.1, b.2.2.2.2.2.2.1, b.2.2.2.2.2.2.2.1, b.2.2.2.2.2.2.2.2.1, b.2.2.2.2.2.2.2.2.2.1, upd b.2.2.2.2.2.2.2.2.2.2.1 p (nI (if w < 9999 then w + 1 else w)), b.2.2.2.2.2.2.2.2.2.2.2) (upd (upd s (39 + p) (nI (if w < 9999 then w + 1 else w))) 2 (nI dn + 1)) := jC_done (jC_wear hC (by omega))
  have hGs : jG (upd (upd s (39 + p) (nI (if w < 9999 then w + 1 else w))) 2 (nI dn + 1)) := jG_done (jG_wear hG (by omega) hwv) (by rw [nI_1]; exact jR_nI (by omega) (by omega) (by omega))
  have hM : ∀ x y : Int32, jM (upd (upd s (39 + p) (nI (if w < 9999 then w + 1 else w))) 2 (nI dn + 1)) (nI k) (x, y) = jM s (nI k) (x, y) := by
    intro x y
    unfold jM f_136_63_m_tl f_136_63_m_tr v_133_63 v_134_63 v_131_63
    rw [(j153_0 hk).2, (j153_1 hk).2, (j153_2 hk).2]
    rw [pk_un (j := 15 + 3 * k) (by omega), pk_un (j := 16 + 3 * k) (by omega), pk_un (j := 17 + 3 * k) (by omega), pk_un (j := 5) (by omega), pk_un (j := 6) (by omega), pk_un (j := 7) (by omega), pk_un (j := 8) (by omega)]
    rw [pk_un (j := 15 + 3 * k) (by omega), pk_un (j := 16 + 3 * k) (by omega), pk_un (j := 17 + 3 * k) (by omega), pk_un (j := 5) (by omega), pk_un (j := 6) (by omega), pk_un (j := 7) (by omega), pk_un (j := 8) (by omega)]
  have h18 := j18 (k := k) hCs hGs hk
  rw [hM] at h18
  rw [← elb, h18]
  refine ⟨⟨?_, ?_⟩, ?_, ?_⟩
  · rw [pk_un (by omega), pk_un (by omega), pk_us]
    unfold jM f_135_63_m_tl f_135_63_m_tr
    rw [hl, hr]
  · rw [pk_un (by omega), pk_us]
    unfold jM f_135_63_m_tl f_135_63_m_tr
    rw [hl, hr]
  · exact hC1
  · refine jG_done (jG_rr (jG_l (jG_wear hG (by omega) hwv) (jR_127 _)) (jR_127 _)) ?_
    rw [nI_1]; exact jR_nI (by omega) (by omega) (by omega)
