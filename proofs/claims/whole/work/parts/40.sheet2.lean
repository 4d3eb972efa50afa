theorem jmaxl (y v : Int32) : (if y < v then v else y) = (bif gCmp .le v y then y else v) := by
  show _ = bif decide (v ≤ y) then y else v
  by_cases h : y < v
  · rw [if_pos h, decide_eq_false (show ¬ v ≤ y by rw [Int32.le_iff_toInt_le]; rw [Int32.lt_iff_toInt_lt] at h; omega)]; rfl
  · rw [if_neg h, decide_eq_true (show v ≤ y by rw [Int32.le_iff_toInt_le]; rw [Int32.lt_iff_toInt_lt] at h; omega)]; rfl
theorem j173 {i : Nat} (hi : i < 100) : gCmp .eq (v_173 (nI i)) 0 = decide (24 ≤ i) := by
  unfold v_173 v_125
  rw [jltl i 0 rfl (by omega) (by decide), decide_eq_false (Nat.not_lt_zero i), jgtl i 23 rfl (by omega) (by decide)]
  by_cases h : 24 ≤ i
  · rw [decide_eq_true h, decide_eq_true (show 23 < i by omega)]; rfl
  · rw [decide_eq_false h, decide_eq_false (show ¬ 23 < i by omega)]; rfl
theorem l_load_55 {N : Nat} {q z : Nat} {h : hSt} {wi si ce : Nat → Int32} (hH : jH q h wi si ce) (hq : q < 4) (ez : h.2.2 = nI z) (hz : z ≤ 40) : ∀ (m i n : Nat) (b : hB) (s : Nat → Int32), jB b s → i + m = 24 → m < n → ∃ w b' s', lp_104_0_31_55 N h n (nI i) b = some (w, b') ∧ lp_216_63_18 N (nI q) si ce n (nI i) s = some (w, s') ∧ jB b' s' := by
  intro m
  induction m with
  | zero =>
    intro i n b s hJ hi hn
    obtain rfl : i = 24 := by omega
    cases n with
    | zero => exact absurd hn (by omega)
    | succ n =>
      rw [lp_104_0_31_55, lp_216_63_18, jin (show q < 4 by omega) (by decide), jcl (show q < 2 ^ 31 by omega), hH.2.1, ez, jge 24 z rfl rfl (by decide) (by omega), j173 (by decide)]
      cases decide (z ≤ 24)
      · exact ⟨_, _, _, rfl, rfl, hJ⟩
      · exact ⟨_, _, _, rfl, rfl, hJ⟩
  | succ m ih =>
    intro i n b s hJ hi hn
    obtain ⟨⟨hl, hr⟩, hC, hG⟩ := id hJ
    cases n with
    | zero => exact absurd hn (by omega)
    | succ n =>
      rw [lp_104_0_31_55, lp_216_63_18, jin (show q < 4 by omega) (by decide), jcl (show q < 2 ^ 31 by omega), hH.2.1, ez, jge i z rfl rfl (by omega) (by omega), jgel i 24 rfl (by omega) (by decide), decide_eq_false (show ¬ 24 ≤ i by omega), j173 (by omega), decide_eq_false (show ¬ 24 ≤ i by omega)]
      by_cases hiz : z ≤ i
      · rw [decide_eq_true hiz]
        exact ⟨_, _, _, rfl, rfl, hJ⟩
      · rw [decide_eq_false hiz, (j40g hq (show i < 40 by omega)).1, (j40g hq (show i < 40 by omega)).2, jin (show i < 40 by omega) (by decide), jin (show i < 24 by omega) (by decide), jcl (show i < 2 ^ 31 by omega), hH.2.2.1 i (by omega), (joff 100 rfl (show 100 + i < 134 by omega)).1, (joff 100 rfl (show 100 + i < 134 by omega)).2, nI_1]
        unfold v_130
        rcases jw (h.1 i) 0 60 with ⟨h1, h2, h3⟩ | ⟨h1, h2⟩
        · rw [h1, h2, je1]
          exact ih (i + 1) n _ _ ⟨⟨(pk_un (by omega)).trans hl, (pk_un (by omega)).trans hr⟩, jC_sun hC (by omega), jG_sun hG (by omega) h3⟩ (by omega) (by omega)
        · rw [h1, h2, je0]
          exact ⟨_, _, _, rfl, rfl, hJ⟩
theorem l_load_57 {N : Nat} {q z : Nat} {h : hSt} {wi si ce : Nat → Int32} (hH : jH q h wi si ce) (hq : q < 4) (ez : h.2.2 = nI z) (hz : z ≤ 40) : ∀ (m i n : Nat) (b : hB) (s : Nat → Int32), jB b s → i + m = 24 → m < n → ∃ w b' s', lp_104_0_31_57 N h n (nI i) b = some (w, b') ∧ lp_216_63_18 N (nI q) si ce n (nI i) s = some (w, s') ∧ jB b' s' := by
  intro m
  induction m with
  | zero =>
    intro i n b s hJ hi hn
    obtain rfl : i = 24 := by omega
    cases n with
    | zero => exact absurd hn (by omega)
    | succ n =>
      rw [lp_104_0_31_57, lp_216_63_18, jin (show q < 4 by omega) (by decide), jcl (show q < 2 ^ 31 by omega), hH.2.1, ez, jge 24 z rfl rfl (by decide) (by omega), j173 (by decide)]
      cases decide (z ≤ 24)
      · exact ⟨_, _, _, rfl, rfl, hJ⟩
      · exact ⟨_, _, _, rfl, rfl, hJ⟩
  | succ m ih =>
    intro i n b s hJ hi hn
    obtain ⟨⟨hl, hr⟩, hC, hG⟩ := id hJ
    cases n with
    | zero => exact absurd hn (by omega)
    | succ n =>
      rw [lp_104_0_31_57, lp_216_63_18, jin (show q < 4 by omega) (by decide), jcl (show q < 2 ^ 31 by omega), hH.2.1, ez, jge i z rfl rfl (by omega) (by omega), jgel i 24 rfl (by omega) (by decide), decide_eq_false (show ¬ 24 ≤ i by omega), j173 (by omega), decide_eq_false (show ¬ 24 ≤ i by omega)]
      by_cases hiz : z ≤ i
      · rw [decide_eq_true hiz]
        exact ⟨_, _, _, rfl, rfl, hJ⟩
      · rw [decide_eq_false hiz, (j40g hq (show i < 40 by omega)).1, (j40g hq (show i < 40 by omega)).2, jin (show i < 40 by omega) (by decide), jin (show i < 24 by omega) (by decide), jcl (show i < 2 ^ 31 by omega), hH.2.2.1 i (by omega), (joff 100 rfl (show 100 + i < 134 by omega)).1, (joff 100 rfl (show 100 + i < 134 by omega)).2, nI_1]
        unfold v_130
        rcases jw (h.1 i) 0 60 with ⟨h1, h2, h3⟩ | ⟨h1, h2⟩
        · rw [h1, h2, je1]
          exact ih (i + 1) n _ _ ⟨⟨(pk_un (by omega)).trans hl, (pk_un (by omega)).trans hr⟩, jC_sun hC (by omega), jG_sun hG (by omega) h3⟩ (by omega) (by omega)
        · rw [h1, h2, je0]
          exact ⟨_, _, _, rfl, rfl, hJ⟩
theorem l_load_59 {N : Nat} {q z : Nat} {h : hSt} {wi si ce : Nat → Int32} (hH : jH q h wi si ce) (hq : q < 4) (ez : h.2.2 = nI z) (hz : z ≤ 40) : ∀ (m i n : Nat) (b : hB) (s : Nat → Int32), jB b s → i + m = 24 → m < n → ∃ w b' s', lp_104_0_31_59 N h n (nI i) b = some (w, b') ∧ lp_216_63_18 N (nI q) si ce n (nI i) s = some (w, s') ∧ jB b' s' := by
  intro m
  induction m with
  | zero =>
    intro i n b s hJ hi hn
    obtain rfl : i = 24 := by omega
    cases n with
    | zero => exact absurd hn (by omega)
    | succ n =>
      rw [lp_104_0_31_59, lp_216_63_18, jin (show q < 4 by omega) (by decide), jcl (show q < 2 ^ 31 by omega), hH.2.1, ez, jge 24 z rfl rfl (by decide) (by omega), j173 (by decide)]
      cases decide (z ≤ 24)
      · exact ⟨_, _, _, rfl, rfl, hJ⟩
      · exact ⟨_, _, _, rfl, rfl, hJ⟩
  | succ m ih =>
    intro i n b s hJ hi hn
    obtain ⟨⟨hl, hr⟩, hC, hG⟩ := id hJ
    cases n with
    | zero => exact absurd hn (by omega)
    | succ n =>
      rw [lp_104_0_31_59, lp_216_63_18, jin (show q < 4 by omega) (by decide), jcl (show q < 2 ^ 31 by omega), hH.2.1, ez, jge i z rfl rfl (by omega) (by omega), jgel i 24 rfl (by omega) (by decide), decide_eq_false (show ¬ 24 ≤ i by omega), j173 (by omega), decide_eq_false (show ¬ 24 ≤ i by omega)]
      by_cases hiz : z ≤ i
      · rw [decide_eq_true hiz]
        exact ⟨_, _, _, rfl, rfl, hJ⟩
      · rw [decide_eq_false hiz, (j40g hq (show i < 40 by omega)).1, (j40g hq (show i < 40 by omega)).2, jin (show i < 40 by omega) (by decide), jin (show i < 24 by omega) (by decide), jcl (show i < 2 ^ 31 by omega), hH.2.2.1 i (by omega), (joff 100 rfl (show 100 + i < 134 by omega)).1, (joff 100 rfl (show 100 + i < 134 by omega)).2, nI_1]
        unfold v_130
        rcases jw (h.1 i) 0 60 with ⟨h1, h2, h3⟩ | ⟨h1, h2⟩
        · rw [h1, h2, je1]
          exact ih (i + 1) n _ _ ⟨⟨(pk_un (by omega)).trans hl, (pk_un (by omega)).trans hr⟩, jC_sun hC (by omega), jG_sun hG (by omega) h3⟩ (by omega) (by omega)
        · rw [h1, h2, je0]
          exact ⟨_, _, _, rfl, rfl, hJ⟩
theorem l_load_61 {N : Nat} {q z : Nat} {h : hSt} {wi si ce : Nat → Int32} (hH : jH q h wi si ce) (hq : q < 4) (ez : h.2.2 = nI z) (hz : z ≤ 40) : ∀ (m i n : Nat) (b : hB) (s : Nat → Int32), jB b s → i + m = 24 → m < n → ∃ w b' s', lp_104_0_31_61 N h n (nI i) b = some (w, b') ∧ lp_216_63_18 N (nI q) si ce n (nI i) s = some (w, s') ∧ jB b' s' := by
  intro m
  induction m with
  | zero =>
    intro i n b s hJ hi hn
    obtain rfl : i = 24 := by omega
    cases n with
    | zero => exact absurd hn (by omega)
    | succ n =>
      rw [lp_104_0_31_61, lp_216_63_18, jin (show q < 4 by omega) (by decide), jcl (show q < 2 ^ 31 by omega), hH.2.1, ez, jge 24 z rfl rfl (by decide) (by omega), j173 (by decide)]
      cases decide (z ≤ 24)
      · exact ⟨_, _, _, rfl, rfl, hJ⟩
      · exact ⟨_, _, _, rfl, rfl, hJ⟩
  | succ m ih =>
    intro i n b s hJ hi hn
    obtain ⟨⟨hl, hr⟩, hC, hG⟩ := id hJ
    cases n with
    | zero => exact absurd hn (by omega)
    | succ n =>
      rw [lp_104_0_31_61, lp_216_63_18, jin (show q < 4 by omega) (by decide), jcl (show q < 2 ^ 31 by omega), hH.2.1, ez, jge i z rfl rfl (by omega) (by omega), jgel i 24 rfl (by omega) (by decide), decide_eq_false (show ¬ 24 ≤ i by omega), j173 (by omega), decide_eq_false (show ¬ 24 ≤ i by omega)]
      by_cases hiz : z ≤ i
      · rw [decide_eq_true hiz]
        exact ⟨_, _, _, rfl, rfl, hJ⟩
      · rw [decide_eq_false hiz, (j40g hq (show i < 40 by omega)).1, (j40g hq (show i < 40 by omega)).2, jin (show i < 40 by omega) (by decide), jin (show i < 24 by omega) (by decide), jcl (show i < 2 ^ 31 by omega), hH.2.2.1 i (by omega), (joff 100 rfl (show 100 + i < 134 by omega)).1, (joff 100 rfl (show 100 + i < 134 by omega)).2, nI_1]
        unfold v_130
        rcases jw (h.1 i) 0 60 with ⟨h1, h2, h3⟩ | ⟨h1, h2⟩
        · rw [h1, h2, je1]
          exact ih (i + 1) n _ _ ⟨⟨(pk_un (by omega)).trans hl, (pk_un (by omega)).trans hr⟩, jC_sun hC (by omega), jG_sun hG (by omega) h3⟩ (by omega) (by omega)
        · rw [h1, h2, je0]
          exact ⟨_, _, _, rfl, rfl, hJ⟩
theorem l_judge_55 {N : Nat} {q z : Nat} {b : hB} {e : jE} {h : hSt} {wi si ce s fi fo : Nat → Int32} {u v : Int32} (hH : jH q h wi si ce) (hq : q < 4) (ez : h.2.2 = nI z) (hz : z ≤ 40) (hC : jC (u, v, e) s) (hG : jG s) (hp3 : s 3 = b.2.2.2.2.1) (hF : jF fi fo) : ∀ (m i n : Nat) (y : Int32) (p : Int32 × Int32), i + m = z → m < n → ∃ w d' f' f'' r, lp_105_0_51_55 N b h fi n y (nI i) (p.1, p.2, e) = some (w, d', f') ∧ lp_217_63_36 N (nI q) s fo si ce n y (nI i) p.1 p.2 = some (w, f'', r) ∧ jF f' f'' := by
  intro m
  induction m with
  | zero =>
    intro i n y p hi hn
    obtain rfl : i = z := by omega
    cases n with
    | zero => exact absurd hn (by omega)
    | succ n =>
      rw [lp_105_0_51_55, lp_217_63_36, jin (show q < 4 by omega) (by decide), jcl (show q < 2 ^ 31 by omega), hH.2.1, ez, jge i i rfl rfl (by omega) (by omega), decide_eq_true (Nat.le_refl i)]
      exact ⟨_, _, _, _, _, rfl, rfl, hF⟩
  | succ m ih =>
    intro i n y p hi hn
    cases n with
    | zero => exact absurd hn (by omega)
    | succ n =>
      rw [lp_105_0_51_55, lp_217_63_36, jin (show q < 4 by omega) (by decide), jcl (show q < 2 ^ 31 by omega), hH.2.1, ez, jge i z rfl rfl (by omega) (by omega), decide_eq_false (show ¬ z ≤ i by omega), (j40g hq (show i < 40 by omega)).1, (j40g hq (show i < 40 by omega)).2, jin (show i < 40 by omega) (by decide), jcl (show i < 2 ^ 31 by omega), hH.2.2.1 i (by omega), nI_1]
      rcases jp hp3 hG.1.2.2.2 (h.1 i) with ⟨h1, h2, k, hk, hkp, ek⟩ | ⟨h1, h2⟩
      · rw [h1, h2, je0, jn1, ek, jin (n := 8) hk (by decide), (j153_0 hk).1, (j153_1 hk).1, (j153_2 hk).1, j18d hC hG hk]
        unfold v_15_10
        rw [j126, jmaxl]
        exact ih (i + 1) n _ (jM s (nI k) p) (by omega) (by omega)
      · rw [h1, h2, jn0, je1]
        exact ⟨_, _, _, _, _, rfl, rfl, jF_no 4 hF (by decide)⟩
theorem l_judge_57 {N : Nat} {q z : Nat} {b : hB} {e : jE} {h : hSt} {wi si ce s fi fo : Nat → Int32} {u v : Int32} (hH : jH q h wi si ce) (hq : q < 4) (ez : h.2.2 = nI z) (hz : z ≤ 40) (hC : jC (u, v, e) s) (hG : jG s) (hp3 : s 3 = b.2.2.2.2.1) (hF : jF fi fo) : ∀ (m i n : Nat) (y : Int32) (p : Int32 × Int32), i + m = z → m < n → ∃ w d' f' f'' r, lp_105_0_51_57 N b h fi n y (nI i) (p.1, p.2, e) = some (w, d', f') ∧ lp_217_63_36 N (nI q) s fo si ce n y (nI i) p.1 p.2 = some (w, f'', r) ∧ jF f' f'' := by
  intro m
  induction m with
  | zero =>
    intro i n y p hi hn
    obtain rfl : i = z := by omega
    cases n with
    | zero => exact absurd hn (by omega)
    | succ n =>
      rw [lp_105_0_51_57, lp_217_63_36, jin (show q < 4 by omega) (by decide), jcl (show q < 2 ^ 31 by omega), hH.2.1, ez, jge i i rfl rfl (by omega) (by omega), decide_eq_true (Nat.le_refl i)]
      exact ⟨_, _, _, _, _, rfl, rfl, hF⟩
  | succ m ih =>
    intro i n y p hi hn
    cases n with
    | zero => exact absurd hn (by omega)
    | succ n =>
      rw [lp_105_0_51_57, lp_217_63_36, jin (show q < 4 by omega) (by decide), jcl (show q < 2 ^ 31 by omega), hH.2.1, ez, jge i z rfl rfl (by omega) (by omega), decide_eq_false (show ¬ z ≤ i by omega), (j40g hq (show i < 40 by omega)).1, (j40g hq (show i < 40 by omega)).2, jin (show i < 40 by omega) (by decide), jcl (show i < 2 ^ 31 by omega), hH.2.2.1 i (by omega), nI_1]
      rcases jp hp3 hG.1.2.2.2 (h.1 i) with ⟨h1, h2, k, hk, hkp, ek⟩ | ⟨h1, h2⟩
      · rw [h1, h2, je0, jn1, ek, jin (n := 8) hk (by decide), (j153_0 hk).1, (j153_1 hk).1, (j153_2 hk).1, j18d hC hG hk]
        unfold v_15_10
        rw [j126, jmaxl]
        exact ih (i + 1) n _ (jM s (nI k) p) (by omega) (by omega)
      · rw [h1, h2, jn0, je1]
        exact ⟨_, _, _, _, _, rfl, rfl, jF_no 4 hF (by decide)⟩
theorem l_judge_59 {N : Nat} {q z : Nat} {b : hB} {e : jE} {h : hSt} {wi si ce s fi fo : Nat → Int32} {u v : Int32} (hH : jH q h wi si ce) (hq : q < 4) (ez : h.2.2 = nI z) (hz : z ≤ 40) (hC : jC (u, v, e) s) (hG : jG s) (hp3 : s 3 = b.2.2.2.2.1) (hF : jF fi fo) : ∀ (m i n : Nat) (y : Int32) (p : Int32 × Int32), i + m = z → m < n → ∃ w d' f' f'' r, lp_105_0_51_59 N b h fi n y (nI i) (p.1, p.2, e) = some (w, d', f') ∧ lp_217_63_36 N (nI q) s fo si ce n y (nI i) p.1 p.2 = some (w, f'', r) ∧ jF f' f'' := by
  intro m
  induction m with
  | zero =>
    intro i n y p hi hn
    obtain rfl : i = z := by omega
    cases n with
    | zero => exact absurd hn (by omega)
    | succ n =>
      rw [lp_105_0_51_59, lp_217_63_36, jin (show q < 4 by omega) (by decide), jcl (show q < 2 ^ 31 by omega), hH.2.1, ez, jge i i rfl rfl (by omega) (by omega), decide_eq_true (Nat.le_refl i)]
      exact ⟨_, _, _, _, _, rfl, rfl, hF⟩
  | succ m ih =>
    intro i n y p hi hn
    cases n with
    | zero => exact absurd hn (by omega)
    | succ n =>
      rw [lp_105_0_51_59, lp_217_63_36, jin (show q < 4 by omega) (by decide), jcl (show q < 2 ^ 31 by omega), hH.2.1, ez, jge i z rfl rfl (by omega) (by omega), decide_eq_false (show ¬ z ≤ i by omega), (j40g hq (show i < 40 by omega)).1, (j40g hq (show i < 40 by omega)).2, jin (show i < 40 by omega) (by decide), jcl (show i < 2 ^ 31 by omega), hH.2.2.1 i (by omega), nI_1]
      rcases jp hp3 hG.1.2.2.2 (h.1 i) with ⟨h1, h2, k, hk, hkp, ek⟩ | ⟨h1, h2⟩
      · rw [h1, h2, je0, jn1, ek, jin (n := 8) hk (by decide), (j153_0 hk).1, (j153_1 hk).1, (j153_2 hk).1, j18d hC hG hk]
        unfold v_15_10
        rw [j126, jmaxl]
        exact ih (i + 1) n _ (jM s (nI k) p) (by omega) (by omega)
      · rw [h1, h2, jn0, je1]
        exact ⟨_, _, _, _, _, rfl, rfl, jF_no 4 hF (by decide)⟩
theorem l_judge_61 {N : Nat} {q z : Nat} {b : hB} {e : jE} {h : hSt} {wi si ce s fi fo : Nat → Int32} {u v : Int32} (hH : jH q h wi si ce) (hq : q < 4) (ez : h.2.2 = nI z) (hz : z ≤ 40) (hC : jC (u, v, e) s) (hG : jG s) (hp3 : s 3 = b.2.2.2.2.1) (hF : jF fi fo) : ∀ (m i n : Nat) (y : Int32) (p : Int32 × Int32), i + m = z → m < n → ∃ w d' f' f'' r, lp_105_0_51_61 N b h fi n y (nI i) (p.1, p.2, e) = some (w, d', f') ∧ lp_217_63_36 N (nI q) s fo si ce n y (nI i) p.1 p.2 = some (w, f'', r) ∧ jF f' f'' := by
  intro m
  induction m with
  | zero =>
    intro i n y p hi hn
    obtain rfl : i = z := by omega
    cases n with
    | zero => exact absurd hn (by omega)
    | succ n =>
      rw [lp_105_0_51_61, lp_217_63_36, jin (show q < 4 by omega) (by decide), jcl (show q < 2 ^ 31 by omega), hH.2.1, ez, jge i i rfl rfl (by omega) (by omega), decide_eq_true (Nat.le_refl i)]
      exact ⟨_, _, _, _, _, rfl, rfl, hF⟩
  | succ m ih =>
    intro i n y p hi hn
    cases n with
    | zero => exact absurd hn (by omega)
    | succ n =>
      rw [lp_105_0_51_61, lp_217_63_36, jin (show q < 4 by omega) (by decide), jcl (show q < 2 ^ 31 by omega), hH.2.1, ez, jge i z rfl rfl (by omega) (by omega), decide_eq_false (show ¬ z ≤ i by omega), (j40g hq (show i < 40 by omega)).1, (j40g hq (show i < 40 by omega)).2, jin (show i < 40 by omega) (by decide), jcl (show i < 2 ^ 31 by omega), hH.2.2.1 i (by omega), nI_1]
      rcases jp hp3 hG.1.2.2.2 (h.1 i) with ⟨h1, h2, k, hk, hkp, ek⟩ | ⟨h1, h2⟩
      · rw [h1, h2, je0, jn1, ek, jin (n := 8) hk (by decide), (j153_0 hk).1, (j153_1 hk).1, (j153_2 hk).1, j18d hC hG hk]
        unfold v_15_10
        rw [j126, jmaxl]
        exact ih (i + 1) n _ (jM s (nI k) p) (by omega) (by omega)
      · rw [h1, h2, jn0, je1]
        exact ⟨_, _, _, _, _, rfl, rfl, jF_no 4 hF (by decide)⟩
/-- load -/
theorem q_load {N : Nat} (hN : 4000 ≤ N) {b : hB} {h0 h1 h2 h3 : hSt} {s wi si ce fi fo : Nat → Int32} (x0 : Int32) (hB : jB b s) (hH : jH4 h0 h1 h2 h3 wi si ce) (hF : jF fi fo) : ∃ qc qm, me_104_0 N x0 b h0 h1 h2 h3 fi = some qc ∧ me_216_63 N x0 s fo wi si ce = some qm ∧ qc.1 = qm.1 ∧ jB qc.2.1 qm.2.1 ∧ jF qc.2.2 qm.2.2 := by
  unfold me_104_0 me_216_63
  rcases jx0 x0 with ⟨e1, e2⟩ | ⟨e1, e2, e3⟩ | ⟨q, hq, rfl, e1, e2, e3⟩
  · rw [e1, j186_0 e2, e2, jn0]
    exact ⟨_, _, rfl, rfl, rfl, hB, jF_no 0 hF (by decide)⟩
  · rw [e1, e2, j186_0 e3, e3, jn0]
    exact ⟨_, _, rfl, rfl, rfl, hB, jF_no 0 hF (by decide)⟩
  · rw [e1, e2, e3, jn1, jin (show q < 4 by omega) (by decide)]
    simp only [cond_true, cond_false, Bool.or_true]
    rcases (show q = 0 ∨ q = 1 ∨ q = 2 ∨ q = 3 by omega) with rfl | rfl | rfl | rfl
    · rw [show hEq (nI 0) 0 = true from by decide]
      simp only [cond_true, cond_false]
      rcases jmiss_55 hH.1 (by decide) e3 with ⟨k1, k2⟩ | ⟨k1, k2⟩
      · rw [k1, k2, je1]
        exact ⟨_, _, rfl, rfl, rfl, hB, jF_no 5 hF (by decide)⟩
      · obtain ⟨z, hz, ez⟩ := jR_u 40 hH.1.2.2.2 (by decide)
        rw [k1, k2, je0, show gCmp .lt (-1 : Int32) 0 = true from by decide]
        simp only [cond_true, cond_false]
        obtain ⟨w, b', s', g1, g2, g3⟩ := l_load_55 (N := N) hH.1 (by decide) ez hz 24 0 N b s hB rfl (by omega)
        rw [show lp_104_0_31_55 N h0 N 0 b = _ from g1, show lp_216_63_18 N (nI 0) si ce N 0 s = _ from g2]
        exact ⟨_, _, rfl, rfl, rfl, g3, hF⟩
    · rw [show hEq (nI 1) 0 = false from by decide, show hEq (nI 1) 1 = true from by decide]
      simp only [cond_true, cond_false]
      rcases jmiss_57 hH.2.1 (by decide) e3 with ⟨k1, k2⟩ | ⟨k1, k2⟩
      · rw [k1, k2, je1]
        exact ⟨_, _, rfl, rfl, rfl, hB, jF_no 5 hF (by decide)⟩
      · obtain ⟨z, hz, ez⟩ := jR_u 40 hH.2.1.2.2.2 (by decide)
        rw [k1, k2, je0, show gCmp .lt (-1 : Int32) 0 = true from by decide]
        simp only [cond_true, cond_false]
        obtain ⟨w, b', s', g1, g2, g3⟩ := l_load_57 (N := N) hH.2.1 (by decide) ez hz 24 0 N b s hB rfl (by omega)
        rw [show lp_104_0_31_57 N h1 N 0 b = _ from g1, show lp_216_63_18 N (nI 1) si ce N 0 s = _ from g2]
        exact ⟨_, _, rfl, rfl, rfl, g3, hF⟩
    · rw [show hEq (nI 2) 0 = false from by decide, show hEq (nI 2) 1 = false from by decide, show hEq (nI 2) 2 = true from by decide]
      simp only [cond_true, cond_false]
      rcases jmiss_59 hH.2.2.1 (by decide) e3 with ⟨k1, k2⟩ | ⟨k1, k2⟩
      · rw [k1, k2, je1]
        exact ⟨_, _, rfl, rfl, rfl, hB, jF_no 5 hF (by decide)⟩
      · obtain ⟨z, hz, ez⟩ := jR_u 40 hH.2.2.1.2.2.2 (by decide)
        rw [k1, k2, je0, show gCmp .lt (-1 : Int32) 0 = true from by decide]
        simp only [cond_true, cond_false]
        obtain ⟨w, b', s', g1, g2, g3⟩ := l_load_59 (N := N) hH.2.2.1 (by decide) ez hz 24 0 N b s hB rfl (by omega)
        rw [show lp_104_0_31_59 N h2 N 0 b = _ from g1, show lp_216_63_18 N (nI 2) si ce N 0 s = _ from g2]
        exact ⟨_, _, rfl, rfl, rfl, g3, hF⟩
    · rw [show hEq (nI 3) 0 = false from by decide, show hEq (nI 3) 1 = false from by decide, show hEq (nI 3) 2 = false from by decide]
      simp only [cond_true, cond_false]
      rcases jmiss_61 hH.2.2.2 (by decide) e3 with ⟨k1, k2⟩ | ⟨k1, k2⟩
      · rw [k1, k2, je1]
        exact ⟨_, _, rfl, rfl, rfl, hB, jF_no 5 hF (by decide)⟩
      · obtain ⟨z, hz, ez⟩ := jR_u 40 hH.2.2.2.2.2.2 (by decide)
        rw [k1, k2, je0, show gCmp .lt (-1 : Int32) 0 = true from by decide]
        simp only [cond_true, cond_false]
        obtain ⟨w, b', s', g1, g2, g3⟩ := l_load_61 (N := N) hH.2.2.2 (by decide) ez hz 24 0 N b s hB rfl (by omega)
        rw [show lp_104_0_31_61 N h3 N 0 b = _ from g1, show lp_216_63_18 N (nI 3) si ce N 0 s = _ from g2]
        exact ⟨_, _, rfl, rfl, rfl, g3, hF⟩
/-- judge -/
theorem q_judge {N : Nat} (hN : 4000 ≤ N) {b d : hB} {h0 h1 h2 h3 : hSt} {s wi si ce fi fo : Nat → Int32} (x0 tl tr : Int32) (hB : jB b s) (hH : jH4 h0 h1 h2 h3 wi si ce) (hF : jF fi fo) : ∃ qc qm, me_105_0 N x0 b d h0 h1 h2 h3 fi = some qc ∧ me_217_63 N x0 s fo tl tr wi si ce = some qm ∧ qc.1 = qm.1 ∧ jF qc.2.2 qm.2.1 := by
  obtain ⟨⟨hl, hr⟩, hC, hG⟩ := id hB
  unfold me_105_0 me_217_63
  rcases jx0 x0 with ⟨e1, e2⟩ | ⟨e1, e2, e3⟩ | ⟨q, hq, rfl, e1, e2, e3⟩
  · rw [e1, j186_0 e2, e2, jn0]
    exact ⟨_, _, rfl, rfl, rfl, jF_no 0 hF (by decide)⟩
  · rw [e1, e2, j186_0 e3, e3, jn0]
    exact ⟨_, _, rfl, rfl, rfl, jF_no 0 hF (by decide)⟩
  · rw [e1, e2, e3, jn1, jin (show q < 4 by omega) (by decide)]
    simp only [cond_true, cond_false, Bool.or_true]
    rcases (show q = 0 ∨ q = 1 ∨ q = 2 ∨ q = 3 by omega) with rfl | rfl | rfl | rfl
    · rw [show hEq (nI 0) 0 = true from by decide]
      simp only [cond_true, cond_false]
      rcases jmiss_55 hH.1 (by decide) e3 with ⟨k1, k2⟩ | ⟨k1, k2⟩
      · rw [k1, k2, je1]
        exact ⟨_, _, rfl, rfl, rfl, jF_no 5 hF (by decide)⟩
      · obtain ⟨z, hz, ez⟩ := jR_u 40 hH.1.2.2.2 (by decide)
        rw [k1, k2, je0, show gCmp .lt (-1 : Int32) 0 = true from by decide]
        simp only [cond_true, cond_false]
        obtain ⟨w, d', f', f'', r, g1, g2, g3⟩ := l_judge_55 (N := N) (b := b) (e := (f_10_10_1_d b d).2.2) (u := b.1) (v := b.2.1) (fi := fi) (fo := fo) hH.1 (by decide) ez hz (jC_take hC) hG hC.1.2.2 hF z 0 N (v_126 (s 0 - s 1)) (s 0, s 1) (by omega) (by omega)
        rw [show lp_105_0_51_55 N b h0 fi N (v_15_10 (f_10_10_1_d b d)) 0 (f_10_10_1_d b d) = some (w, d', f') from by
          rw [← g1]
          unfold v_15_10
          rw [j126, hl, hr]
          rfl, show lp_217_63_36 N (nI 0) s fo si ce N (v_126 ((f_135_63_m_tl s) - (f_135_63_m_tr s))) 0 (f_135_63_m_tl s) (f_135_63_m_tr s) = _ from g2]
        exact ⟨_, _, rfl, rfl, rfl, g3⟩
    · rw [show hEq (nI 1) 0 = false from by decide, show hEq (nI 1) 1 = true from by decide]
      simp only [cond_true, cond_false]
      rcases jmiss_57 hH.2.1 (by decide) e3 with ⟨k1, k2⟩ | ⟨k1, k2⟩
      · rw [k1, k2, je1]
        exact ⟨_, _, rfl, rfl, rfl, jF_no 5 hF (by decide)⟩
      · obtain ⟨z, hz, ez⟩ := jR_u 40 hH.2.1.2.2.2 (by decide)
        rw [k1, k2, je0, show gCmp .lt (-1 : Int32) 0 = true from by decide]
        simp only [cond_true, cond_false]
        obtain ⟨w, d', f', f'', r, g1, g2, g3⟩ := l_judge_57 (N := N) (b := b) (e := (f_10_10_1_d b d).2.2) (u := b.1) (v := b.2.1) (fi := fi) (fo := fo) hH.2.1 (by decide) ez hz (jC_take hC) hG hC.1.2.2 hF z 0 N (v_126 (s 0 - s 1)) (s 0, s 1) (by omega) (by omega)
        rw [show lp_105_0_51_57 N b h1 fi N (v_15_10 (f_10_10_1_d b d)) 0 (f_10_10_1_d b d) = some (w, d', f') from by
          rw [← g1]
          unfold v_15_10
          rw [j126, hl, hr]
          rfl, show lp_217_63_36 N (nI 1) s fo si ce N (v_126 ((f_135_63_m_tl s) - (f_135_63_m_tr s))) 0 (f_135_63_m_tl s) (f_135_63_m_tr s) = _ from g2]
        exact ⟨_, _, rfl, rfl, rfl, g3⟩
    · rw [show hEq (nI 2) 0 = false from by decide, show hEq (nI 2) 1 = false from by decide, show hEq (nI 2) 2 = true from by decide]
      simp only [cond_true, cond_false]
      rcases jmiss_59 hH.2.2.1 (by decide) e3 with ⟨k1, k2⟩ | ⟨k1, k2⟩
      · rw [k1, k2, je1]
        exact ⟨_, _, rfl, rfl, rfl, jF_no 5 hF (by decide)⟩
      · obtain ⟨z, hz, ez⟩ := jR_u 40 hH.2.2.1.2.2.2 (by decide)
        rw [k1, k2, je0, show gCmp .lt (-1 : Int32) 0 = true from by decide]
        simp only [cond_true, cond_false]
        obtain ⟨w, d', f', f'', r, g1, g2, g3⟩ := l_judge_59 (N := N) (b := b) (e := (f_10_10_1_d b d).2.2) (u := b.1) (v := b.2.1) (fi := fi) (fo := fo) hH.2.2.1 (by decide) ez hz (jC_take hC) hG hC.1.2.2 hF z 0 N (v_126 (s 0 - s 1)) (s 0, s 1) (by omega) (by omega)
        rw [show lp_105_0_51_59 N b h2 fi N (v_15_10 (f_10_10_1_d b d)) 0 (f_10_10_1_d b d) = some (w, d', f') from by
          rw [← g1]
          unfold v_15_10
          rw [j126, hl, hr]
          rfl, show lp_217_63_36 N (nI 2) s fo si ce N (v_126 ((f_135_63_m_tl s) - (f_135_63_m_tr s))) 0 (f_135_63_m_tl s) (f_135_63_m_tr s) = _ from g2]
        exact ⟨_, _, rfl, rfl, rfl, g3⟩
    · rw [show hEq (nI 3) 0 = false from by decide, show hEq (nI 3) 1 = false from by decide, show hEq (nI 3) 2 = false from by decide]
      simp only [cond_true, cond_false]
      rcases jmiss_61 hH.2.2.2 (by decide) e3 with ⟨k1, k2⟩ | ⟨k1, k2⟩
      · rw [k1, k2, je1]
        exact ⟨_, _, rfl, rfl, rfl, jF_no 5 hF (by decide)⟩
      · obtain ⟨z, hz, ez⟩ := jR_u 40 hH.2.2.2.2.2.2 (by decide)
        rw [k1, k2, je0, show gCmp .lt (-1 : Int32) 0 = true from by decide]
        simp only [cond_true, cond_false]
        obtain ⟨w, d', f', f'', r, g1, g2, g3⟩ := l_judge_61 (N := N) (b := b) (e := (f_10_10_1_d b d).2.2) (u := b.1) (v := b.2.1) (fi := fi) (fo := fo) hH.2.2.2 (by decide) ez hz (jC_take hC) hG hC.1.2.2 hF z 0 N (v_126 (s 0 - s 1)) (s 0, s 1) (by omega) (by omega)
        rw [show lp_105_0_51_61 N b h3 fi N (v_15_10 (f_10_10_1_d b d)) 0 (f_10_10_1_d b d) = some (w, d', f') from by
          rw [← g1]
          unfold v_15_10
          rw [j126, hl, hr]
          rfl, show lp_217_63_36 N (nI 3) s fo si ce N (v_126 ((f_135_63_m_tl s) - (f_135_63_m_tr s))) 0 (f_135_63_m_tl s) (f_135_63_m_tr s) = _ from g2]
        exact ⟨_, _, rfl, rfl, rfl, g3⟩
