/-- does -/
theorem q_does (N : Nat) {b : hB} {s fi fo : Nat → Int32} (x0 tl tr : Int32) (hB : jB b s) (hF : jF fi fo) : ∃ qc qm, me_68_0 N x0 b fi = some qc ∧ me_149_63 N x0 s fo tl tr = some qm ∧ qc.1 = qm.1 ∧ jB qc.2.1 qm.2.1 ∧ jF qc.2.2 qm.2.2.1 := by
  obtain ⟨⟨hl, hr⟩, hC, hG⟩ := id hB
  unfold me_68_0 me_149_63
  rcases jp hC.1.2.2 hG.1.2.2.2 x0 with ⟨h1, h2, k, hk, hkp, rfl⟩ | ⟨h1, h2⟩
  · obtain ⟨dn, hdn, edn⟩ := jR_u 99999 hG.1.2.2.1 (by decide)
    obtain ⟨p, hp, ep⟩ := jR_u 60 hG.1.1 (by decide)
    have edb : b.2.2.1 = nI dn := by rw [← hC.1.1]; exact edn
    have elb : b.1 = nI p := by rw [← hl]; exact ep
    rw [h1, h2, je0, jn1, edb, edn, elb, ep, nI_1, jlel (dn + 1) 99999 rfl (by omega) (by decide), jnel dn 99999 rfl (by omega) (by decide)]
    by_cases hd : dn < 99999
    · rw [decide_eq_true (show dn + 1 ≤ 99999 by omega), decide_eq_false (show ¬ dn = 99999 by omega), jin (show p < 61 by omega) (by decide), jin (n := 8) hk (by decide), (j153_0 hk).1, (j153_1 hk).1, (j153_2 hk).1, (joff 39 rfl (show 39 + p < 134 by omega)).1]
      have hJ := j20 hB hk (by rw [edn, nI_toInt (by omega)]; omega)
      refine ⟨_, _, rfl, rfl, ?_, hJ, hF⟩
      show v_14_1 (f_20_1_b (nI k) b) = v_146_63 (f_148_63_m_s (nI k) s)
      unfold v_14_1 v_146_63
      rw [hJ.1.1, hJ.1.2]
    · rw [decide_eq_false (show ¬ dn + 1 ≤ 99999 by omega), decide_eq_true (show dn = 99999 by omega)]
      exact ⟨_, _, rfl, rfl, rfl, hB, jF_no 4 hF (by decide)⟩
  · rw [h1, h2, jn0, je1]
    exact ⟨_, _, rfl, rfl, rfl, hB, jF_no 0 hF (by decide)⟩
/-- now -/
theorem q_now (N : Nat) {b : hB} {s fi fo : Nat → Int32} (x0 : Int32) (hB : jB b s) (hF : jF fi fo) : ∃ qc qm, me_69_0 N x0 b fi = some qc ∧ me_150_63 N x0 s fo = some qm ∧ qc.1 = qm.1 ∧ jF qc.2 qm.2 := by
  obtain ⟨⟨hl, hr⟩, hC, hG⟩ := id hB
  obtain ⟨p, hp, ep⟩ := jR_u 60 hG.1.1 (by decide)
  have elb : b.1 = nI p := by rw [← hl]; exact ep
  unfold me_69_0 me_150_63
  cases hEq x0 0
  · cases hEq x0 1
    · cases hEq x0 2
      · cases hEq x0 3
        · cases hEq x0 4
          · exact ⟨_, _, rfl, rfl, rfl, jF_no 0 hF (by decide)⟩
          · rw [elb, ep, jin (show p < 61 by omega) (by decide), (joff 39 rfl (show 39 + p < 134 by omega)).1, (joff 39 rfl (show 39 + p < 134 by omega)).2, jcl (by omega)]
            exact ⟨_, _, rfl, rfl, (hC.2.2.2.2.1 p (by omega)).symm, hF⟩
        · exact ⟨_, _, rfl, rfl, hC.1.1.symm, hF⟩
      · refine ⟨_, _, rfl, rfl, ?_, hF⟩
        show b.1 - b.2.1 = s 0 - s 1
        rw [hl, hr]
    · exact ⟨_, _, rfl, rfl, hr.symm, hF⟩
  · exact ⟨_, _, rfl, rfl, hl.symm, hF⟩
/-- wear -/
theorem q_wear (N : Nat) {b : hB} {s fi fo : Nat → Int32} (x0 : Int32) (hB : jB b s) (hF : jF fi fo) : ∃ qc qm, me_70_0 N x0 b fi = some qc ∧ me_151_63 N x0 s fo = some qm ∧ qc.1 = qm.1 ∧ jF qc.2 qm.2 := by
  obtain ⟨⟨hl, hr⟩, hC, hG⟩ := id hB
  unfold me_70_0 me_151_63 v_130
  rcases jw x0 0 60 with ⟨h1, h2, h3⟩ | ⟨h1, h2⟩
  · obtain ⟨k, hk, rfl⟩ := jR_u 60 h3 (by decide)
    rw [h1, h2, jn1, je1, jin (show k < 61 by omega) (by decide), (joff 39 rfl (show 39 + k < 134 by omega)).1, (joff 39 rfl (show 39 + k < 134 by omega)).2, jcl (by omega)]
    exact ⟨_, _, rfl, rfl, (hC.2.2.2.2.1 k (by omega)).symm, hF⟩
  · rw [h1, h2, jn0, je0]
    exact ⟨_, _, rfl, rfl, rfl, jF_no 0 hF (by decide)⟩
/-- all wear together -/
theorem l_wear {N : Nat} {b : hB} {s : Nat → Int32} (hC : jC b s) : ∀ (m i n : Nat) (y : Int32), i + m = 61 → m < n → ∃ v, lp_21_1_4 N b n y (nI i) = some (v, nI 61) ∧ lp_152_63_4 N s n y (nI i) = some (v, nI 61) := by
  intro m
  induction m with
  | zero =>
    intro i n y hi hn
    obtain rfl : i = 61 := by omega
    cases n with
    | zero => exact absurd hn (by omega)
    | succ n => exact ⟨y, rfl, rfl⟩
  | succ m ih =>
    intro i n y hi hn
    cases n with
    | zero => exact absurd hn (by omega)
    | succ n =>
      rw [lp_21_1_4, lp_152_63_4, jgel i 61 rfl (by omega) (by decide), decide_eq_false (show ¬ 61 ≤ i by omega), jin (show i < 61 by omega) (by decide), (joff 39 rfl (show 39 + i < 134 by omega)).1, (joff 39 rfl (show 39 + i < 134 by omega)).2, jcl (by omega), nI_1, hC.2.2.2.2.1 i (by omega)]
      exact ih (i + 1) n _ (by omega) (by omega)
theorem l_wear0 {N : Nat} (hN : 4000 ≤ N) {b : hB} {s : Nat → Int32} (hC : jC b s) : ∃ v, me_21_1 N b = some v ∧ me_152_63 N s = some v := by
  obtain ⟨v, h1, h2⟩ := l_wear (N := N) hC 61 0 N 0 rfl (by omega)
  refine ⟨v, ?_, ?_⟩
  · unfold me_21_1
    rw [show (0 : Int32) = nI 0 from rfl] at h1 ⊢
    rw [h1]; rfl
  · unfold me_152_63
    rw [show (0 : Int32) = nI 0 from rfl] at h2 ⊢
    rw [h2]; rfl
theorem l_cord {N : Nat} : ∀ (m i n : Nat) (b : hB) (s : Nat → Int32), jB b s → i + m = 61 → m < n → ∃ b' s', lp_7_7_5 N 0 61 n (nI i) b = some (nI 61, b') ∧ lp_153_63_7 N n (nI i) s = some (nI 61, s') ∧ jB b' s' := by
  intro m
  induction m with
  | zero =>
    intro i n b s hB hi hn
    obtain rfl : i = 61 := by omega
    cases n with
    | zero => exact absurd hn (by omega)
    | succ n => exact ⟨b, s, rfl, rfl, hB⟩
  | succ m ih =>
    intro i n b s hB hi hn
    obtain ⟨⟨hl, hr⟩, hC, hG⟩ := id hB
    cases n with
    | zero => exact absurd hn (by omega)
    | succ n =>
      rw [lp_7_7_5, lp_153_63_7, jgel i 61 rfl (by omega) (by decide), decide_eq_false (show ¬ 61 ≤ i by omega), jin (show i < 61 by omega) (by decide), (joff 39 rfl (show 39 + i < 134 by omega)).1, (joff 39 rfl (show 39 + i < 134 by omega)).2, jcl (by omega), nI_1]
      refine ih (i + 1) n _ _ ⟨⟨?_, ?_⟩, jC_wear hC (by omega), jG_wear hG (by omega) ⟨by decide, by decide⟩⟩ (by omega) (by omega)
      · rw [pk_un (by omega)]; exact hl
      · rw [pk_un (by omega)]; exact hr
/-- cord -/
theorem q_cord {N : Nat} (hN : 4000 ≤ N) {b : hB} {s : Nat → Int32} (hB : jB b s) : ∃ qc qm, me_71_0 N b = some qc ∧ me_153_63 N s = some qm ∧ qc.1 = qm.1 ∧ jB qc.2 qm.2 := by
  obtain ⟨v, h1, h2⟩ := l_wear0 hN hB.2.1
  obtain ⟨b', s', h3, h4, h5⟩ := l_cord (N := N) 61 0 N b s hB rfl (by omega)
  unfold me_71_0 me_153_63 me_7_7
  rw [h1, h2, show (0 : Int32) = nI 0 from rfl]
  rw [show (0 : Int32) = nI 0 from rfl] at h3
  simp only [Option.bind_some]
  rw [h3, h4]
  exact ⟨_, _, rfl, rfl, rfl, h5⟩
/-- mends for good -/
theorem j22a {b : hB} {s : Nat → Int32} (h5 : ∀ i, i < 6 → s (5 + i) = b.2.2.2.2.2.2.2.2.1 i) (m : Nat) (hm : m < 16) : ∀ i, i < 6 → f_167_63_m_s (nI m) s (5 + i) = (f_22_1_b (nI m) b).2.2.2.2.2.2.2.2.1 i := by
  have e0 : s 5 = b.2.2.2.2.2.2.2.2.1 0 := h5 0 (by decide)
  have e1 : s 6 = b.2.2.2.2.2.2.2.2.1 1 := h5 1 (by decide)
  have e2 : s 7 = b.2.2.2.2.2.2.2.2.1 2 := h5 2 (by decide)
  have e3 : s 8 = b.2.2.2.2.2.2.2.2.1 3 := h5 3 (by decide)
  have e4 : s 9 = b.2.2.2.2.2.2.2.2.1 4 := h5 4 (by decide)
  have e5 : s 10 = b.2.2.2.2.2.2.2.2.1 5 := h5 5 (by decide)
  have key : ∀ m, m < 16 → (∀ i, i < 6 → f_167_63_m_s (nI m) s (5 + i) = (f_22_1_b (nI m) b).2.2.2.2.2.2.2.2.1 i) := by
    refine lt_s (lt_s (lt_s (lt_s (lt_s (lt_s (lt_s (lt_s (lt_s (lt_s (lt_s (lt_s (lt_s (lt_s (lt_s (lt_s lt_0 ?_) ?_) ?_) ?_) ?_) ?_) ?_) ?_) ?_) ?_) ?_) ?_) ?_) ?_) ?_) ?_
    all_goals
      refine lt_s (lt_s (lt_s (lt_s (lt_s (lt_s lt_0 ?_) ?_) ?_) ?_) ?_) ?_
      · first | exact e0 | rfl
      · first | exact e1 | rfl
      · first | exact e2 | rfl
      · first | exact e3 | rfl
      · exact e4
      · exact e5
  exact key m hm
theorem j22b {s : Nat → Int32} (x : Int32) {j : Nat} (h : j < 5 ∨ 8 < j) : f_167_63_m_s x s j = s j := by
  unfold f_167_63_m_s
  rw [pk_un (j := j) (by omega), pk_un (j := j) (by omega), pk_un (j := j) (by omega), pk_un (j := j) (by omega)]
theorem j22 {b : hB} {s : Nat → Int32} (hC : jC b s) (m : Nat) (hm : m < 16) : jC (f_22_1_b (nI m) b) (f_167_63_m_s (nI m) s) := by
  obtain ⟨⟨h1, h2, h3⟩, h4, h5, h6, h7, h8, h9⟩ := hC
  refine ⟨⟨?_, ?_, ?_⟩, ?_, j22a h5 m hm, ?_, ?_, ?_, ?_⟩
  · rw [j22b _ (by omega)]; exact h1
  · rw [j22b _ (by omega)]; exact h2
  · rw [j22b _ (by omega)]; exact h3
  · intro i hi
    rw [j22b _ (by omega), j22b _ (by omega), j22b _ (by omega)]; exact h4 i hi
  · intro i hi; rw [j22b _ (by omega)]; exact h6 i hi
  · intro i hi; rw [j22b _ (by omega)]; exact h7 i hi
  · intro i hi; rw [j22b _ (by omega)]; exact h8 i hi
  · intro i hi; rw [j22b _ (by omega)]; exact h9 i hi
theorem jG_22 {s : Nat → Int32} (hG : jG s) (x : Int32) : jG (f_167_63_m_s x s) := by
  have g := hG.2.2.1
  unfold f_167_63_m_s
  refine jG_r3 (jG_r2 (jG_r0 (jG_r1 hG ?_) ?_) ?_) ?_
  · cases gCmp .eq (v_128 x 0) 0
    · show jR 0 9 0
      exact ⟨by decide, by decide⟩
    · exact g.2.1
  · cases gCmp .eq (v_128 x 1) 0
    · show jR (-9) 9 0
      exact ⟨by decide, by decide⟩
    · rw [pk_un (j := 5) (by omega)]; exact g.1
  · cases gCmp .eq (v_128 x 2) 0
    · show jR 0 9 0
      exact ⟨by decide, by decide⟩
    · rw [pk_un (j := 7) (by omega), pk_un (j := 7) (by omega)]; exact g.2.2.1
  · cases gCmp .eq (v_128 x 3) 0
    · show jR 0 60 60
      exact ⟨by decide, by decide⟩
    · rw [pk_un (j := 8) (by omega), pk_un (j := 8) (by omega), pk_un (j := 8) (by omega)]; exact g.2.2.2.1
theorem j128 (y x : Int32) : gCmp .eq (v_128 y x) 0 = gCmp .eq ((y >>> (x &&& 31)) &&& 1) 0 := by
  unfold v_128
  obtain ⟨j, hj, e⟩ := pk_andE (y >>> (x &&& 31)) (m := 1) 1 rfl
  rw [e]
  match j, hj with
  | 0, _ => rfl
  | 1, _ => rfl
theorem l_cost {N : Nat} {b : hB} {s : Nat → Int32} (hC : ∀ i, i < 4 → s (11 + i) = b.2.2.2.2.2.2.2.2.2.1 i) (y1 : Int32) : ∀ (m i n : Nat) (y : Int32), i + m = 4 → m < n → ∃ v, lp_23_1_4 N y1 b n y (nI i) = some (v, nI 4) ∧ lp_166_63_4 N y1 s n y (nI i) = some (v, nI 4) := by
  intro m
  induction m with
  | zero =>
    intro i n y hi hn
    obtain rfl : i = 4 := by omega
    cases n with
    | zero => exact absurd hn (by omega)
    | succ n => exact ⟨y, rfl, rfl⟩
  | succ m ih =>
    intro i n y hi hn
    cases n with
    | zero => exact absurd hn (by omega)
    | succ n =>
      rw [lp_23_1_4, lp_166_63_4, jgel i 4 rfl (by omega) (by decide), decide_eq_false (show ¬ 4 ≤ i by omega), jin (show i < 4 by omega) (by decide), (joff 11 rfl (show 11 + i < 134 by omega)).1, (joff 11 rfl (show 11 + i < 134 by omega)).2, jcl (by omega), nI_1, hC i (by omega), j128, Bool.or_true]
      cases gCmp .eq ((y1 >>> (nI i &&& 31)) &&& 1) 0
      · exact ih (i + 1) n _ (by omega) (by omega)
      · simp only [cond_true, cond_false, Int32.add_zero]
        exact ih (i + 1) n _ (by omega) (by omega)
theorem l_cost0 {N : Nat} (hN : 4000 ≤ N) {b : hB} {s : Nat → Int32} (hC : ∀ i, i < 4 → s (11 + i) = b.2.2.2.2.2.2.2.2.2.1 i) (x : Int32) : ∃ v, me_23_1 N x b = some v ∧ me_166_63 N x s = some v := by
  obtain ⟨v, h1, h2⟩ := l_cost (N := N) hC x 4 0 N 0 rfl (by omega)
  refine ⟨v, ?_, ?_⟩
  · unfold me_23_1
    rw [show (0 : Int32) = nI 0 from rfl] at h1 ⊢
    rw [h1]; rfl
  · unfold me_166_63
    rw [show (0 : Int32) = nI 0 from rfl] at h2 ⊢
    rw [h2]; rfl
/-- mended -/
theorem q_mended {N : Nat} (hN : 4000 ≤ N) {b : hB} {s fi fo : Nat → Int32} (x0 : Int32) (hB : jB b s) (hF : jF fi fo) : ∃ qc qm, me_84_0 N x0 b fi = some qc ∧ me_172_63 N x0 s fo = some qm ∧ qc.1 = qm.1 ∧ jB qc.2.1 qm.2.1 ∧ jF qc.2.2 qm.2.2 := by
  obtain ⟨⟨hl, hr⟩, hC, hG⟩ := id hB
  unfold me_84_0 me_172_63
  rcases jw x0 0 15 with ⟨h1, h2, h3⟩ | ⟨h1, h2⟩
  · obtain ⟨k, hk, rfl⟩ := jR_u 15 h3 (by decide)
    have hC2 := j22 hC k (by omega)
    obtain ⟨v, h4, h5⟩ := l_cost0 hN hC2.2.2.2.1 (nI k)
    rw [h1, h2, jn1, h4, h5]
    refine ⟨_, _, rfl, rfl, rfl, ⟨⟨?_, ?_⟩, hC2, jG_22 hG _⟩, hF⟩
    · show f_167_63_m_s (nI k) s 0 = _
      rw [j22b _ (by omega)]; exact hl
    · show f_167_63_m_s (nI k) s 1 = _
      rw [j22b _ (by omega)]; exact hr
  · rw [h1, h2, jn0]
    exact ⟨_, _, rfl, rfl, rfl, hB, jF_no 0 hF (by decide)⟩
/-- sun -/
theorem q_sun (N : Nat) {b : hB} {s fi fo : Nat → Int32} (x0 x1 : Int32) (hB : jB b s) (hF : jF fi fo) : ∃ qc qm, me_85_0 N x0 x1 b fi = some qc ∧ me_174_63 N x0 x1 s fo = some qm ∧ qc.1 = qm.1 ∧ jB qc.2.1 qm.2.1 ∧ jF qc.2.2 qm.2.2 := by
  obtain ⟨⟨hl, hr⟩, hC, hG⟩ := id hB
  unfold me_85_0 me_174_63 v_173 v_130
  rcases jw x0 0 23 with ⟨h1, h2, h3⟩ | ⟨h1, h2⟩
  · obtain ⟨k, hk, rfl⟩ := jR_u 23 h3 (by decide)
    rcases jw x1 0 60 with ⟨h4, h5, h6⟩ | ⟨h4, h5⟩
    · rw [h1, h2, h4, h5, jn1, je1, jin (show k < 24 by omega) (by decide), (joff 100 rfl (show 100 + k < 134 by omega)).1, (joff 100 rfl (show 100 + k < 134 by omega)).2]
      unfold v_115_8 f_115_8_b
      rw [jcl (by omega)]
      exact ⟨_, _, rfl, rfl, (hC.2.2.2.2.2.1 k (by omega)).symm, ⟨⟨(pk_un (by omega)).trans hl, (pk_un (by omega)).trans hr⟩, jC_sun hC (by omega), jG_sun hG (by omega) h6⟩, hF⟩
    · rw [h1, h2, h4, h5, jn0, je1]
      exact ⟨_, _, rfl, rfl, rfl, hB, jF_no 0 hF (by decide)⟩
  · rw [h1, h2, je0]
    exact ⟨_, _, rfl, rfl, rfl, hB, jF_no 0 hF (by decide)⟩
theorem jmax0 (x : Int32) : (if 0 < x then x else 0) = (bif gCmp .le x 0 then 0 else x) := by
  show _ = bif decide (x ≤ 0) then 0 else x
  by_cases h : 0 < x
  · rw [if_pos h, decide_eq_false (show ¬ x ≤ 0 by rw [Int32.le_iff_toInt_le]; rw [Int32.lt_iff_toInt_lt] at h; omega)]; rfl
  · rw [if_neg h, decide_eq_true (show x ≤ 0 by rw [Int32.le_iff_toInt_le]; rw [Int32.lt_iff_toInt_lt] at h; omega)]; rfl
theorem j24 {b : hB} {s : Nat → Int32} (hC : jC b s) {k : Nat} (hk : k < 24) : v_24_1 (nI k) b = v_175_63 (nI k) b.2.1 s := by
  unfold v_24_1 v_175_63
  rw [(joff 100 rfl (show 100 + k < 134 by omega)).2, jcl (by omega), hC.2.2.2.2.2.1 k hk, show s 10 = b.2.2.2.2.2.2.2.2.1 5 from hC.2.2.1 5 (by decide)]
theorem j25 {b : hB} {s : Nat → Int32} (hC : jC b s) {k : Nat} (hk : k < 24) : v_25_1 (nI k) b = v_176_63 (nI k) b.1 b.2.1 s := by
  unfold v_25_1 v_176_63
  rw [(joff 100 rfl (show 100 + k < 134 by omega)).2, jcl (by omega), hC.2.2.2.2.2.1 k hk, jmax0, jmax0]
/-- hour -/
theorem q_hour (N : Nat) {b : hB} {s fi fo : Nat → Int32} (x0 x1 : Int32) (hB : jB b s) (hF : jF fi fo) : ∃ qc qm, me_86_0 N x0 x1 b fi = some qc ∧ me_177_63 N x0 x1 s fo = some qm ∧ qc.1 = qm.1 ∧ jF qc.2 qm.2 := by
  obtain ⟨⟨hl, hr⟩, hC, hG⟩ := id hB
  unfold me_86_0 me_177_63 v_173
  rcases jw x0 0 23 with ⟨h1, h2, h3⟩ | ⟨h1, h2⟩
  · obtain ⟨k, hk, rfl⟩ := jR_u 23 h3 (by decide)
    rcases jw x1 0 2 with ⟨h4, h5, h6⟩ | ⟨h4, h5⟩
    · rw [h1, h2, h4, h5, jn1, je1, jin (show k < 24 by omega) (by decide), (joff 100 rfl (show 100 + k < 134 by omega)).1, (joff 100 rfl (show 100 + k < 134 by omega)).2, jcl (by omega), j24 hC (by omega), j25 hC (by omega), hl, hr]
      rcases jR_3 h6 with rfl | rfl | rfl
      · exact ⟨_, _, rfl, rfl, (hC.2.2.2.2.2.1 k (by omega)).symm, hF⟩
      · exact ⟨_, _, rfl, rfl, rfl, hF⟩
      · exact ⟨_, _, rfl, rfl, rfl, hF⟩
    · rw [h1, h2, h4, h5, jn0, je1]
      exact ⟨_, _, rfl, rfl, rfl, jF_no 0 hF (by decide)⟩
  · rw [h1, h2, je0]
    exact ⟨_, _, rfl, rfl, rfl, jF_no 0 hF (by decide)⟩
theorem l_eyes {N : Nat} {b : hB} {s : Nat → Int32} (hC : jC b s) (hr : s 1 = b.2.1) : ∀ (m i n : Nat) (y : Int32), i + m = 24 → m < n → ∃ v, lp_87_0_4 N b n y (nI i) = some (v, nI 24) ∧ lp_178_63_4 N s n y (nI i) = some (v, nI 24) := by
  intro m
  induction m with
  | zero =>
    intro i n y hi hn
    obtain rfl : i = 24 := by omega
    cases n with
    | zero => exact absurd hn (by omega)
    | succ n => exact ⟨y, rfl, rfl⟩
  | succ m ih =>
    intro i n y hi hn
    cases n with
    | zero => exact absurd hn (by omega)
    | succ n =>
      rw [lp_87_0_4, lp_178_63_4, jgel i 24 rfl (by omega) (by decide), decide_eq_false (show ¬ 24 ≤ i by omega), jin (show i < 24 by omega) (by decide), (joff 100 rfl (show 100 + i < 134 by omega)).1, nI_1, j24 hC (by omega), hr]
      cases gCmp .eq (v_175_63 (nI i) b.2.1 s) 0
      · exact ih (i + 1) n _ (by omega) (by omega)
      · simp only [cond_true, cond_false, Int32.or_zero]
        exact ih (i + 1) n _ (by omega) (by omega)
/-- eyes -/
theorem q_eyes {N : Nat} (hN : 4000 ≤ N) {b : hB} {s : Nat → Int32} (hB : jB b s) : ∃ qc qm, me_87_0 N b = some qc ∧ me_178_63 N s = some qm ∧ qc = qm := by
  obtain ⟨v, h1, h2⟩ := l_eyes (N := N) hB.2.1 hB.1.2 24 0 N 0 rfl (by omega)
  refine ⟨v, v, ?_, ?_, rfl⟩
  · unfold me_87_0
    rw [show (0 : Int32) = nI 0 from rfl] at h1 ⊢
    rw [h1]; rfl
  · unfold me_178_63
    rw [show (0 : Int32) = nI 0 from rfl] at h2 ⊢
    rw [h2]; rfl
theorem l_where {N : Nat} {b : hB} {s : Nat → Int32} (hC : jC b s) : ∀ (m i n j : Nat), j < 61 → i + m = 61 → m < n → ∃ v, lp_89_0_4 N b n (nI j) (nI i) = some (v, nI 61) ∧ lp_180_63_4 N s n (nI j) (nI i) = some (v, nI 61) := by
  intro m
  induction m with
  | zero =>
    intro i n j hj hi hn
    obtain rfl : i = 61 := by omega
    cases n with
    | zero => exact absurd hn (by omega)
    | succ n => exact ⟨nI j, rfl, rfl⟩
  | succ m ih =>
    intro i n j hj hi hn
    cases n with
    | zero => exact absurd hn (by omega)
    | succ n =>
      rw [lp_89_0_4, lp_180_63_4, jgel i 61 rfl (by omega) (by decide), decide_eq_false (show ¬ 61 ≤ i by omega), jin (show i < 61 by omega) (by decide), jin (show j < 61 by omega) (by decide), (joff 39 rfl (show 39 + i < 134 by omega)).1, (joff 39 rfl (show 39 + i < 134 by omega)).2, (joff 39 rfl (show 39 + j < 134 by omega)).1, (joff 39 rfl (show 39 + j < 134 by omega)).2, jcl (by omega), jcl (by omega), nI_1, hC.2.2.2.2.1 i (by omega), hC.2.2.2.2.1 j (by omega)]
      cases gCmp .le (b.2.2.2.2.2.2.2.2.2.2.1 i) (b.2.2.2.2.2.2.2.2.2.2.1 j)
      · exact ih (i + 1) n i (by omega) (by omega) (by omega)
      · exact ih (i + 1) n j (by omega) (by omega) (by omega)
/-- where -/
theorem q_where {N : Nat} (hN : 4000 ≤ N) {b : hB} {s : Nat → Int32} (hB : jB b s) : ∃ qc qm, me_89_0 N b = some qc ∧ me_180_63 N s = some qm ∧ qc = qm := by
  obtain ⟨v, h1, h2⟩ := l_where (N := N) hB.2.1 60 1 N 0 (by omega) rfl (by omega)
  refine ⟨v, v, ?_, ?_, rfl⟩
  · unfold me_89_0
    rw [show lp_89_0_4 N b N 0 1 = some (v, nI 61) from h1]; rfl
  · unfold me_180_63
    rw [show lp_180_63_4 N s N 0 1 = some (v, nI 61) from h2]; rfl
/-- seed -/
theorem q_seed (N : Nat) {b : hB} {s : Nat → Int32} (x0 : Int32) (hB : jB b s) : ∃ qc qm, me_95_0 N x0 b = some qc ∧ me_194_63 N x0 s = some qm ∧ qc.1 = qm.1 ∧ jB qc.2 qm.2 := by
  obtain ⟨⟨hl, hr⟩, hC, hG⟩ := id hB
  exact ⟨_, _, rfl, rfl, hC.1.2.1.symm, ⟨hl, hr⟩, jC_z hC, jG_z hG⟩
theorem jsp {x : Int32} {p : Nat} (hp : p < 2 ^ 31) (h : jR (-1) ((p : Int) - 1) x) : x = -1 ∨ ∃ k : Nat, k < p ∧ x = nI k := by
  by_cases h0 : x.toInt = -1
  · left
    exact Int32.toInt_inj.mp h0
  · right
    have h1 := h.1
    have h2 := h.2
    obtain ⟨k, hk, e⟩ := jR_n (x := x) (n := (p : Int) - 1) ⟨by omega, h2⟩
    exact ⟨k, by omega, e.2⟩
/-- hold -/
theorem q_hold (N : Nat) {b : hB} {s fi fo : Nat → Int32} (x0 x1 : Int32) (hB : jB b s) (hF : jF fi fo) : ∃ qc qm, me_99_0 N x0 x1 b fi = some qc ∧ me_210_63 N x0 x1 s fo = some qm ∧ qc.1 = qm.1 ∧ jB qc.2.1 qm.2.1 ∧ jF qc.2.2 qm.2.2 := by
  obtain ⟨⟨hl, hr⟩, hC, hG⟩ := id hB
  unfold me_99_0 me_210_63 v_209
  rcases jw x0 0 9 with ⟨h1, h2, h3⟩ | ⟨h1, h2⟩
  · obtain ⟨k, hk, rfl⟩ := jR_u 9 h3 (by decide)
    rw [h1, h2, je1, jin (show k < 10 by omega) (by decide), (joff 124 rfl (show 124 + k < 134 by omega)).1, (joff 124 rfl (show 124 + k < 134 by omega)).2, jcl (by omega)]
    obtain ⟨p, hp, hp2, ep⟩ := jR_n hG.1.2.2.2
    have h30 : (s 3).toInt = (p : Int) := by rw [ep, nI_toInt hp2]
    have hput : ∀ v, jR (-1) ((s 3).toInt - 1) v → jB (b.1, b.2.1, b.2.2.1, b.2.2.2.1, b.2.2.2.2.1, b.2.2.2.2.2.1, b.2.2.2.2.2.2.1, b.2.2.2.2.2.2.2.1, b.2.2.2.2.2.2.2.2.1, b.2.2.2.2.2.2.2.2.2.1, b.2.2.2.2.2.2.2.2.2.2.1, b.2.2.2.2.2.2.2.2.2.2.2.1, upd b.2.2.2.2.2.2.2.2.2.2.2.2 k v) (upd s (124 + k) v) := fun v hv =>
      ⟨⟨(pk_un (by omega)).trans hl, (pk_un (by omega)).trans hr⟩, jC_spot hC (by omega), jG_spot hG (by omega) hv⟩
    by_cases h4 : x1 = -1
    · subst h4
      exact ⟨_, _, rfl, rfl, rfl, hput _ ⟨by decide, by rw [h30]; show (-1 : Int) ≤ _; omega⟩, hF⟩
    · have h5 : gCmp .eq x1 (-1) = false := decide_eq_false h4
      rw [h5]
      rcases jp hC.1.2.2 hG.1.2.2.2 x1 with ⟨h6, h7, q, hq, hqp, rfl⟩ | ⟨h6, h7⟩
      · rw [h6, h7, jn1, je0]
        exact ⟨_, _, rfl, rfl, rfl, hput _ (jR_nI (by omega) (by omega) (by omega)), hF⟩
      · rw [h6, h7, jn0, je1]
        exact ⟨_, _, rfl, rfl, rfl, hB, jF_no 0 hF (by decide)⟩
  · rw [h1, h2, je0]
    exact ⟨_, _, rfl, rfl, rfl, hB, jF_no 0 hF (by decide)⟩
set_option maxRecDepth 4000 in
theorem l_as (n : Nat) {x y : Int32} (hx : jR 0 6 x) (hy : jR 0 6 y) : ∃ a c, me_120 (n + 10) x y = some a ∧ lp_212_63_51 (n + 10) y (n + 10) x = some c ∧ gCmp .eq a 0 = gCmp .ne c y := by
  rcases jR_7 hx with rfl | rfl | rfl | rfl | rfl | rfl | rfl <;> rcases jR_7 hy with rfl | rfl | rfl | rfl | rfl | rfl | rfl <;> exact ⟨_, _, rfl, rfl, rfl⟩
/-- as -/
theorem q_as {N : Nat} (hN : 4000 ≤ N) {b : hB} {s fi fo : Nat → Int32} (x0 x1 : Int32) (hB : jB b s) (hF : jF fi fo) : ∃ qc qm, me_100_0 N x0 x1 b fi = some qc ∧ me_212_63 N x0 x1 s fo = some qm ∧ qc.1 = qm.1 ∧ jF qc.2 qm.2 := by
  obtain ⟨⟨hl, hr⟩, hC, hG⟩ := id hB
  unfold me_100_0 me_212_63 v_209
  rcases jw x0 0 9 with ⟨h1, h2, h3⟩ | ⟨h1, h2⟩
  · obtain ⟨k, hk, rfl⟩ := jR_u 9 h3 (by decide)
    rcases jw x1 0 6 with ⟨h4, h5, h6⟩ | ⟨h4, h5⟩
    · obtain ⟨p, hp, hp2, ep⟩ := jR_n hG.1.2.2.2
      have h30 : (s 3).toInt = (p : Int) := by rw [ep, nI_toInt hp2]
      have hs := hG.2.2.2.2.2.2 k (by omega)
      rw [h1, h2, je1, h4, h5, jn1, jin (show k < 10 by omega) (by decide), (joff 124 rfl (show 124 + k < 134 by omega)).1, (joff 124 rfl (show 124 + k < 134 by omega)).2, jcl (by omega), ← hC.2.2.2.2.2.2 k (by omega)]
      rw [h30] at hs
      rcases jsp hp2 hs with e | ⟨q, hq, e⟩
      · rw [e]
        rcases jp hC.1.2.2 hG.1.2.2.2 (-1) with ⟨_, _, z, hz, _, hz2⟩ | ⟨h7, h8⟩
        · exact absurd (congrArg Int32.toInt hz2) (by rw [nI_toInt (by omega)]; show ¬ (-1 : Int) = _; omega)
        · rw [h7, je1, show gCmp .ge (-1 : Int32) 0 = false from by decide]
          exact ⟨_, _, rfl, rfl, rfl, jF_no 5 hF (by decide)⟩
      · rw [e]
        rcases jp hC.1.2.2 hG.1.2.2.2 (nI q) with ⟨h7, h8, _⟩ | ⟨h7, h8⟩
        · have hq8 : q < 8 := by omega
          have hkk := (hG.2.1 q hq8).1
          obtain ⟨M, rfl⟩ : ∃ M, N = M + 10 := ⟨N - 10, by omega⟩
          obtain ⟨a, c, h9, h10, h11⟩ := l_as M hkk h6
          rw [h7, je0, jgel q 0 rfl (by omega) (by decide), decide_eq_true (Nat.zero_le q), jin hq8 (by decide), (j153_0 hq8).1, jcl (by omega)]
          unfold v_131_63
          rw [(j153_0 hq8).2, ← (hC.2.1 q hq8).1, h9, h10]
          simp only [cond_true, Option.bind_some]
          rw [h11]
          refine ⟨_, _, rfl, rfl, rfl, ?_⟩
          show jF (bif gCmp .ne c x1 then _ else _) (bif gCmp .ne c x1 then _ else _)
          cases gCmp .ne c x1
          · exact hF
          · exact jF_no 2 hF (by decide)
        · exfalso
          have h9 : v_129_63 (nI q) s = 1 := by
            unfold v_129_63 v_125
            rw [ep, jltl q 0 rfl (by omega) (by decide), decide_eq_false (by omega), show (1 : Int32) = nI 1 from rfl, pk_sub (show 1 ≤ p by omega), jgt q (p - 1) rfl rfl (by omega) (by omega), decide_eq_false (by omega)]
            rfl
          rw [h9] at h8
          exact absurd h8 (by decide)
    · rw [h1, h2, je1, h4, h5, jn0]
      exact ⟨_, _, rfl, rfl, rfl, jF_no 0 hF (by decide)⟩
  · rw [h1, h2, je0]
    exact ⟨_, _, rfl, rfl, rfl, jF_no 0 hF (by decide)⟩
