theorem jC_ext {b : hB} {s t : Nat → Int32} (h : jC b s) (e : ∀ i, i < 134 → t i = s i) : jC b t := by
  obtain ⟨⟨h1, h2, h3⟩, h4, h5, h6, h7, h8, h9⟩ := h
  refine ⟨⟨?_, ?_, ?_⟩, ?_, ?_, ?_, ?_, ?_, ?_⟩
  · rw [e _ (by omega)]; exact h1
  · rw [e _ (by omega)]; exact h2
  · rw [e _ (by omega)]; exact h3
  · intro i hi; rw [e _ (by omega), e _ (by omega), e _ (by omega)]; exact h4 i hi
  · intro i hi; rw [e _ (by omega)]; exact h5 i hi
  · intro i hi; rw [e _ (by omega)]; exact h6 i hi
  · intro i hi; rw [e _ (by omega)]; exact h7 i hi
  · intro i hi; rw [e _ (by omega)]; exact h8 i hi
  · intro i hi; rw [e _ (by omega)]; exact h9 i hi
theorem jG_ext {s t : Nat → Int32} (h : jG s) (e : ∀ i, i < 134 → t i = s i) : jG t := by
  obtain ⟨⟨h0, h1, h2, h3⟩, h4, ⟨h5, h6, h7, h8, h9, h10⟩, h11, h12, h13, h14⟩ := h
  refine ⟨⟨?_, ?_, ?_, ?_⟩, ?_, ⟨?_, ?_, ?_, ?_, ?_, ?_⟩, ?_, ?_, ?_, ?_⟩
  · rw [e _ (by omega)]; exact h0
  · rw [e _ (by omega)]; exact h1
  · rw [e _ (by omega)]; exact h2
  · rw [e _ (by omega)]; exact h3
  · intro i hi; rw [e _ (by omega), e _ (by omega), e _ (by omega)]; exact h4 i hi
  · rw [e _ (by omega)]; exact h5
  · rw [e _ (by omega)]; exact h6
  · rw [e _ (by omega)]; exact h7
  · rw [e _ (by omega)]; exact h8
  · rw [e _ (by omega)]; exact h9
  · rw [e _ (by omega)]; exact h10
  · intro i hi; rw [e _ (by omega)]; exact h11 i hi
  · intro i hi; rw [e _ (by omega)]; exact h12 i hi
  · intro i hi; rw [e _ (by omega)]; exact h13 i hi
  · intro i hi; rw [e 3 (by omega), e _ (by omega)]; exact h14 i hi
theorem jB_ext {b : hB} {s t : Nat → Int32} (h : jB b s) (e : ∀ i, i < 134 → t i = s i) : jB b t :=
  ⟨⟨by rw [e _ (by omega)]; exact h.1.1, by rw [e _ (by omega)]; exact h.1.2⟩, jC_ext h.2.1 e, jG_ext h.2.2 e⟩
theorem jB_take {b d : hB} {s : Nat → Int32} (h : jB b s) : jB (f_10_10_1_d b d) s := ⟨h.1, jC_take h.2.1, h.2.2⟩
/-- the model's copies of its row -/
theorem l_copy218 {N : Nat} (s : Nat → Int32) : ∀ (m i n : Nat) (t : Nat → Int32), (∀ j, j < i → t j = s j) → i + m = 134 → m < n → ∃ t', lp_218_63_2 N s n (nI i) t = some (nI 134, t') ∧ ∀ j, j < 134 → t' j = s j := by
  intro m
  induction m with
  | zero =>
    intro i n t ht hi hn
    obtain rfl : i = 134 := by omega
    cases n with
    | zero => exact absurd hn (by omega)
    | succ n => exact ⟨t, rfl, ht⟩
  | succ m ih =>
    intro i n t ht hi hn
    cases n with
    | zero => exact absurd hn (by omega)
    | succ n =>
      rw [lp_218_63_2, jgel i 134 rfl (by omega) (by decide), decide_eq_false (show ¬ 134 ≤ i by omega), jin (show i < 134 by omega) (by decide), jcl (by omega), nI_1]
      refine ih (i + 1) n _ ?_ (by omega) (by omega)
      intro j hj
      by_cases e : j = i
      · subst e; exact pk_us
      · rw [pk_un e]; exact ht j (by omega)
theorem l_copy219 {N : Nat} (s : Nat → Int32) : ∀ (m i n : Nat) (t : Nat → Int32), (∀ j, j < i → t j = s j) → i + m = 134 → m < n → ∃ t', lp_219_63_15 N s n (nI i) t = some (nI 134, t') ∧ ∀ j, j < 134 → t' j = s j := by
  intro m
  induction m with
  | zero =>
    intro i n t ht hi hn
    obtain rfl : i = 134 := by omega
    cases n with
    | zero => exact absurd hn (by omega)
    | succ n => exact ⟨t, rfl, ht⟩
  | succ m ih =>
    intro i n t ht hi hn
    cases n with
    | zero => exact absurd hn (by omega)
    | succ n =>
      rw [lp_219_63_15, jgel i 134 rfl (by omega) (by decide), decide_eq_false (show ¬ 134 ≤ i by omega), jin (show i < 134 by omega) (by decide), jcl (by omega), nI_1]
      refine ih (i + 1) n _ ?_ (by omega) (by omega)
      intro j hj
      by_cases e : j = i
      · subst e; exact pk_us
      · rw [pk_un e]; exact ht j (by omega)
/-- what is kept -/
def jK (ik mk : Int32) (k : hB) (kp : Nat → Int32) : Prop := ik = mk ∧ (ik = 0 ∨ ik = 1 ∧ jB k kp)
/-- image -/
theorem q_image {N : Nat} (hN : 4000 ≤ N) {b k : hB} {s kp : Nat → Int32} (hB : jB b s) : ∃ qc qm, me_106_0 N b k = some qc ∧ me_218_63 N s kp = some qm ∧ qc.1 = qm.1 ∧ jK qc.2.2 qm.2.2 qc.2.1 qm.2.1 := by
  obtain ⟨t', h1, h2⟩ := l_copy218 (N := N) s 134 0 N kp (fun j hj => absurd hj (by omega)) rfl (by omega)
  unfold me_218_63
  rw [show lp_218_63_2 N s N 0 kp = some (nI 134, t') from h1]
  exact ⟨_, _, rfl, rfl, rfl, rfl, .inr ⟨rfl, jB_ext (b := f_10_10_1_d b k) (jB_take hB) h2⟩⟩
/-- undo -/
theorem q_undo {N : Nat} (hN : 4000 ≤ N) {b k : hB} {s kp fi fo : Nat → Int32} {ik mk : Int32} (hB : jB b s) (hK : jK ik mk k kp) (hF : jF fi fo) : ∃ qc qm, me_107_0 N b k ik fi = some qc ∧ me_219_63 N s kp mk fo = some qm ∧ qc.1 = qm.1 ∧ jB qc.2.1 qm.2.1 ∧ jF qc.2.2 qm.2.2 := by
  obtain ⟨rfl, h⟩ := hK
  unfold me_107_0 me_219_63
  rcases h with rfl | ⟨rfl, h⟩
  · rw [jn0]
    exact ⟨_, _, rfl, rfl, rfl, hB, jF_no 3 hF (by decide)⟩
  · obtain ⟨t', h1, h2⟩ := l_copy219 (N := N) kp 134 0 N s (fun j hj => absurd hj (by omega)) rfl (by omega)
    rw [jn1, show lp_219_63_15 N kp N 0 s = some (nI 134, t') from h1]
    have hJ : jB (f_10_1_19_b b k) t' := jB_ext (b := f_10_10_1_d k b) (jB_take h) h2
    exact ⟨_, _, rfl, rfl, hJ.1.1.symm, hJ, hF⟩
/-- tear -/
theorem q_tear (N : Nat) {k : hB} {kp : Nat → Int32} {ik mk : Int32} (hK : jK ik mk k kp) : ∃ qc qm, me_108_0 N ik = some qc ∧ me_220_63 N mk = some qm ∧ qc.1 = qm.1 ∧ jK qc.2 qm.2 k kp := by
  obtain ⟨rfl, h⟩ := hK
  exact ⟨_, _, rfl, rfl, rfl, rfl, .inl rfl⟩
theorem l_spots {N : Nat} {b : hB} {s : Nat → Int32} (hC : jC b s) (hG : jG s) : ∀ (m i n : Nat) (y : Int32), i + m = 10 → m < n → ∃ v, lp_29_1_4 N b n y (nI i) = some (v, nI 10) ∧ lp_221_63_95 N s n y (nI i) = some (v, nI 10) := by
  intro m
  induction m with
  | zero =>
    intro i n y hi hn
    obtain rfl : i = 10 := by omega
    cases n with
    | zero => exact absurd hn (by omega)
    | succ n => exact ⟨y, rfl, rfl⟩
  | succ m ih =>
    intro i n y hi hn
    cases n with
    | zero => exact absurd hn (by omega)
    | succ n =>
      obtain ⟨p, hp, hp2, ep⟩ := jR_n hG.1.2.2.2
      have h30 : (s 3).toInt = (p : Int) := by rw [ep, nI_toInt hp2]
      have hs := hG.2.2.2.2.2.2 i (by omega)
      rw [h30] at hs
      rw [lp_29_1_4, lp_221_63_95, jgel i 10 rfl (by omega) (by decide), decide_eq_false (show ¬ 10 ≤ i by omega), jin (show i < 10 by omega) (by decide), (joff 124 rfl (show 124 + i < 134 by omega)).1, (joff 124 rfl (show 124 + i < 134 by omega)).2, jcl (by omega), nI_1, ← hC.2.2.2.2.2.2 i (by omega)]
      rcases jsp hp2 hs with e | ⟨q, hq, e⟩
      · rw [e, show gCmp .eq (-1 : Int32) (-1) = true from by decide]
        first
          | (rw [show gCmp .lt (-1 : Int32) 0 = true from by decide]; simp only [cond_true, cond_false, Int32.add_zero]; exact ih (i + 1) n _ (by omega) (by omega))
          | (rw [show gCmp .ge (-1 : Int32) 0 = false from by decide]; simp only [cond_true, cond_false, Int32.add_zero]; exact ih (i + 1) n _ (by omega) (by omega))
      · have h5 : gCmp .eq (nI q) (-1) = false := decide_eq_false (fun h => absurd (congrArg Int32.toInt h) (by rw [nI_toInt (by omega)]; show ¬ _ = (-1 : Int); omega))
        rw [e, h5]
        first
          | (rw [jltl q 0 rfl (by omega) (by decide), decide_eq_false (Nat.not_lt_zero q)]; exact ih (i + 1) n _ (by omega) (by omega))
          | (rw [jgel q 0 rfl (by omega) (by decide), decide_eq_true (Nat.zero_le q)]; exact ih (i + 1) n _ (by omega) (by omega))
/-- count -/
theorem q_count {N : Nat} (hN : 4000 ≤ N) {b : hB} {s fi fo : Nat → Int32} (x0 ts : Int32) (hB : jB b s) (hF : jF fi fo) : ∃ qc qm, me_109_0 N x0 b ts fi = some qc ∧ me_221_63 N x0 s fo ts = some qm ∧ qc.1 = qm.1 ∧ jF qc.2 qm.2 := by
  obtain ⟨⟨hl, hr⟩, hC, hG⟩ := id hB
  obtain ⟨v, h1, h2⟩ := l_wear0 hN hC
  obtain ⟨v2, h3, h4⟩ := l_spots (N := N) hC hG 10 0 N 0 rfl (by omega)
  unfold me_109_0 me_221_63 me_29_1
  rw [h1, h2, show lp_29_1_4 N b N 0 0 = some (v2, nI 10) from h3, show lp_221_63_95 N s N 0 0 = some (v2, nI 10) from h4]
  cases hEq x0 0
  · cases hEq x0 1
    · cases hEq x0 2
      · cases hEq x0 3
        · cases hEq x0 4
          · cases hEq x0 5
            · cases hEq x0 6
              · cases hEq x0 7
                · exact ⟨_, _, rfl, rfl, rfl, jF_no 0 hF (by decide)⟩
                · exact ⟨_, _, rfl, rfl, rfl, hF⟩
              · exact ⟨_, _, rfl, rfl, hC.1.2.1.symm, hF⟩
            · exact ⟨_, _, rfl, rfl, rfl, hF⟩
          · exact ⟨_, _, rfl, rfl, rfl, hF⟩
        · exact ⟨_, _, rfl, rfl, hC.1.1.symm, hF⟩
      · exact ⟨_, _, rfl, rfl, hr.symm, hF⟩
    · exact ⟨_, _, rfl, rfl, hC.1.2.2.symm, hF⟩
  · exact ⟨_, _, rfl, rfl, hl.symm, hF⟩
theorem l_stA {N : Nat} {fi fo : Nat → Int32} (hF : jF fi fo) : ∀ (m i n : Nat) (y : Int32), i + m = 7 → m < n → ∃ v, lp_110_0_31 N fi n y (nI i) = some (v, nI 7) ∧ lp_222_63_20 N (-1) fo n y (nI i) = some (v, nI 7) := by
  intro m
  induction m with
  | zero =>
    intro i n y hi hn
    obtain rfl : i = 7 := by omega
    cases n with
    | zero => exact absurd hn (by omega)
    | succ n => exact ⟨y, rfl, rfl⟩
  | succ m ih =>
    intro i n y hi hn
    cases n with
    | zero => exact absurd hn (by omega)
    | succ n =>
      rw [lp_110_0_31, lp_222_63_20, jgel i 7 rfl (by omega) (by decide), decide_eq_false (show ¬ 7 ≤ i by omega), jin (show i < 7 by omega) (by decide), jcl (by omega), nI_1, show gCmp .eq (-1 : Int32) (-1) = true from by decide, hF i (by omega)]
      exact ih (i + 1) n _ (by omega) (by omega)
theorem l_stK {N : Nat} {fo : Nat → Int32} {k : Nat} (hk : k < 7) : ∀ (m i n : Nat) (y : Int32), i + m = 7 → m < n → lp_222_63_20 N (nI k) fo n y (nI i) = some (y + (if i ≤ k then fo k else 0), nI 7) := by
  intro m
  induction m with
  | zero =>
    intro i n y hi hn
    obtain rfl : i = 7 := by omega
    cases n with
    | zero => exact absurd hn (by omega)
    | succ n =>
      rw [if_neg (by omega), Int32.add_zero]
      rfl
  | succ m ih =>
    intro i n y hi hn
    cases n with
    | zero => exact absurd hn (by omega)
    | succ n =>
      have h5 : gCmp .eq (nI k) (-1) = false := decide_eq_false (fun h => absurd (congrArg Int32.toInt h) (by rw [nI_toInt (by omega)]; show ¬ _ = (-1 : Int); omega))
      rw [lp_222_63_20, jgel i 7 rfl (by omega) (by decide), decide_eq_false (show ¬ 7 ≤ i by omega), jin (show i < 7 by omega) (by decide), jcl (by omega), nI_1, h5, jne k i rfl rfl (by omega) (by omega)]
      by_cases e : k = i
      · subst e
        rw [decide_eq_true rfl, if_pos (Nat.le_refl k)]
        show lp_222_63_20 N (nI k) fo n (y + fo k) (nI (k + 1)) = _
        rw [ih (k + 1) n _ (by omega) (by omega), if_neg (by omega), Int32.add_zero]
      · rw [decide_eq_false e]
        show lp_222_63_20 N (nI k) fo n (y + 0) (nI (i + 1)) = _
        rw [ih (i + 1) n _ (by omega) (by omega), Int32.add_zero]
        by_cases h : i ≤ k
        · rw [if_pos h, if_pos (by omega)]
        · rw [if_neg h, if_neg (by omega)]
/-- status -/
theorem q_status {N : Nat} (hN : 4000 ≤ N) {fi fo : Nat → Int32} (x0 : Int32) (hF : jF fi fo) : ∃ qc qm, me_110_0 N x0 fi = some qc ∧ me_222_63 N x0 fo = some qm ∧ qc.1 = qm.1 ∧ jF qc.2 qm.2 := by
  unfold me_110_0 me_222_63
  rcases jw x0 (-1) 6 with ⟨h1, h2, h3⟩ | ⟨h1, h2⟩
  · rw [h1, h2, jn1]
    rcases jsp (p := 7) (by decide) h3 with rfl | ⟨k, hk, rfl⟩
    · obtain ⟨v, h4, h5⟩ := l_stA (N := N) hF 7 0 N 0 rfl (by omega)
      rw [show gCmp .lt (-1 : Int32) 0 = true from by decide, show lp_110_0_31 N fi N 0 0 = some (v, nI 7) from h4, show lp_222_63_20 N (-1) fo N 0 0 = some (v, nI 7) from h5]
      exact ⟨_, _, rfl, rfl, rfl, hF⟩
    · have h4 := l_stK (N := N) (fo := fo) hk 7 0 N 0 rfl (by omega)
      rw [if_pos (Nat.zero_le k), Int32.zero_add] at h4
      rw [jltl k 0 rfl (by omega) (by decide), decide_eq_false (Nat.not_lt_zero k), jin hk (by decide), jcl (by omega), show lp_222_63_20 N (nI k) fo N 0 0 = some (fo k, nI 7) from h4]
      exact ⟨_, _, rfl, rfl, hF k hk, hF⟩
  · rw [h1, h2, jn0]
    exact ⟨_, _, rfl, rfl, rfl, jF_no 0 hF (by decide)⟩
