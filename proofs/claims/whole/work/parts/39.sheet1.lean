/-! SHEETS -/
def jH (q : Nat) (h : hSt) (wi si ce : Nat → Int32) : Prop := wi q = h.2.1 ∧ si q = h.2.2 ∧ (∀ i, i < 40 → ce (40 * q + i) = h.1 i) ∧ jR 0 40 h.2.2
def jH4 (h0 h1 h2 h3 : hSt) (wi si ce : Nat → Int32) : Prop := jH 0 h0 wi si ce ∧ jH 1 h1 wi si ce ∧ jH 2 h2 wi si ce ∧ jH 3 h3 wi si ce
theorem jx0 (x : Int32) : (gCmp .lt x 0 = true ∧ v_185 x = 0) ∨ (gCmp .lt x 0 = false ∧ gCmp .lt x 4 = false ∧ v_185 x = 0) ∨ (∃ q : Nat, q < 4 ∧ x = nI q ∧ gCmp .lt x 0 = false ∧ gCmp .lt x 4 = true ∧ v_185 x = 1) := by
  rcases jw x 0 3 with ⟨h1, h2, h3⟩ | ⟨h1, h2⟩
  · obtain ⟨q, hq, rfl⟩ := jR_u 3 h3 (by decide)
    refine .inr (.inr ⟨q, by omega, rfl, ?_, ?_, h2⟩)
    · rw [jltl q 0 rfl (by omega) (by decide)]; exact decide_eq_false (Nat.not_lt_zero q)
    · rw [jltl q 4 rfl (by omega) (by decide)]; exact decide_eq_true (by omega)
  · by_cases h3 : x < 0
    · exact .inl ⟨decide_eq_true h3, h2⟩
    · refine .inr (.inl ⟨decide_eq_false h3, ?_, h2⟩)
      obtain ⟨q, hq, rfl⟩ := nI_of h3
      rw [jltl q 4 rfl (by omega) (by decide)]
      refine decide_eq_false (fun h4 => ?_)
      have h5 : v_112 (nI q) 0 3 = 1 := by
        unfold v_112
        rw [jltl q 0 rfl (by omega) (by decide), decide_eq_false (Nat.not_lt_zero q), jgtl q 3 rfl (by omega) (by decide), decide_eq_false (by omega)]
        rfl
      rw [h5] at h1
      exact absurd h1 (by decide)
theorem j40 (q i : Nat) : 40 * nI q + nI i = nI (40 * q + i) := by
  rw [show (40 : Int32) = nI 40 from rfl, pk_mul, nI_add]
theorem j40g {q i : Nat} (hq : q < 4) (hi : i < 40) : gIn (40 * nI q + nI i) 160 = true ∧ Int32.toNatClampNeg (40 * nI q + nI i) = 40 * q + i := by
  rw [j40]
  exact ⟨jin (by omega) (by decide), jcl (by omega)⟩
theorem j186_0 {x : Int32} {wi : Nat → Int32} (h : v_185 x = 0) : v_186_63 x wi = 0 := by
  unfold v_186_63
  rw [h, jn0]
  rfl
theorem jmiss_55 {q : Nat} {h : hSt} {wi si ce : Nat → Int32} (hH : jH q h wi si ce) (hq : q < 4) (h185 : v_185 (nI q) = 1) : (v_53_55 h = 1 ∧ v_186_63 (nI q) wi = 5) ∨ (v_53_55 h = 0 ∧ v_186_63 (nI q) wi = -1) := by
  unfold v_53_55 v_186_63
  rw [h185, jn1, jcl (by omega), hH.1]
  cases gCmp .ne h.2.1 0
  · exact .inl ⟨rfl, rfl⟩
  · exact .inr ⟨rfl, rfl⟩
theorem jix {z : Nat} {y : Int32} (hy : y = nI z) (hz : z ≤ 40) (x : Int32) : (v_112 x 0 (y - 1) = 1 ∧ v_125 x 0 (y - 1) = 1 ∧ ∃ i : Nat, i < z ∧ x = nI i) ∨ (v_112 x 0 (y - 1) = 0 ∧ v_125 x 0 (y - 1) = 0) := by
  subst hy
  rcases jw x 0 (nI z - 1) with ⟨h1, h2, h3⟩ | h
  · refine .inl ⟨h1, h2, ?_⟩
    have hs : (nI z - 1).toInt = (z : Int) - 1 := by
      rw [show (1 : Int32) = nI 1 from rfl, pk_sub_toInt (by omega) (by decide)]; rfl
    rw [hs] at h3
    obtain ⟨i, h4, h5, h6⟩ := jR_n h3
    exact ⟨i, by omega, h6⟩
  · exact .inr h
theorem jH_put {q i : Nat} {h : hSt} {wi si ce : Nat → Int32} (hH : jH q h wi si ce) (hi : i < 40) (v : Int32) : jH q (upd h.1 i v, h.2) wi si (upd ce (40 * q + i) v) := by
  refine ⟨hH.1, hH.2.1, ?_, hH.2.2.2⟩
  intro j hj
  dsimp only
  by_cases e : j = i
  · subst e; rw [pk_us, pk_us]
  · rw [pk_un (by omega), pk_un e]; exact hH.2.2.1 j hj
theorem jH_oth {q r i : Nat} {h : hSt} {wi si ce : Nat → Int32} (hH : jH r h wi si ce) (hr : r ≠ q) (hi : i < 40) (v : Int32) : jH r h wi si (upd ce (40 * q + i) v) := by
  refine ⟨hH.1, hH.2.1, ?_, hH.2.2.2⟩
  intro j hj
  rw [pk_un (by omega)]; exact hH.2.2.1 j hj
/-- a blank sheet -/
theorem l_213 {N : Nat} {q : Nat} (hq : q < 4) : ∀ (m i n : Nat) (ce : Nat → Int32), i + m = 40 → m < n → ∃ ce', lp_213_63_83 N (nI q) n (nI i) ce = some (nI 40, ce') ∧ (∀ j, i ≤ j → j < 40 → ce' (40 * q + j) = 0) ∧ (∀ j, j < 40 * q + i ∨ 40 * q + 40 ≤ j → ce' j = ce j) := by
  intro m
  induction m with
  | zero =>
    intro i n ce hi hn
    obtain rfl : i = 40 := by omega
    cases n with
    | zero => exact absurd hn (by omega)
    | succ n => exact ⟨ce, rfl, fun j h1 h2 => absurd h2 (by omega), fun j _ => rfl⟩
  | succ m ih =>
    intro i n ce hi hn
    cases n with
    | zero => exact absurd hn (by omega)
    | succ n =>
      obtain ⟨ce', h1, h2, h3⟩ := ih (i + 1) n (upd ce (40 * q + i) 0) (by omega) (by omega)
      refine ⟨ce', ?_, ?_, ?_⟩
      · rw [lp_213_63_83, jgel i 40 rfl (by omega) (by decide), decide_eq_false (show ¬ 40 ≤ i by omega), (j40g hq (show i < 40 by omega)).1, (j40g hq (show i < 40 by omega)).2, nI_1]
        exact h1
      · intro j hj1 hj2
        by_cases e : j = i
        · subst e
          rw [h3 _ (by omega)]; exact pk_us
        · exact h2 j (by omega) hj2
      · intro j hj
        rw [h3 j (by omega)]
        exact pk_un (by omega)
theorem l_7_55 {N : Nat} : ∀ (m i n : Nat) (h : hSt), i + m = 40 → m < n → (∀ j, j < i → h.1 j = 0) → ∃ f, lp_7_56_5 N 0 40 n (nI i) h = some (nI 40, (f, h.2)) ∧ (∀ j, j < 40 → f j = 0) := by
  intro m
  induction m with
  | zero =>
    intro i n h hi hn h0
    obtain rfl : i = 40 := by omega
    cases n with
    | zero => exact absurd hn (by omega)
    | succ n => exact ⟨h.1, rfl, h0⟩
  | succ m ih =>
    intro i n h hi hn h0
    cases n with
    | zero => exact absurd hn (by omega)
    | succ n =>
      rw [lp_7_56_5, jgel i 40 rfl (by omega) (by decide), decide_eq_false (show ¬ 40 ≤ i by omega), jin (show i < 40 by omega) (by decide), jcl (by omega), nI_1]
      refine ih (i + 1) n (upd h.1 i 0, h.2) (by omega) (by omega) ?_
      intro j hj
      dsimp only
      by_cases e : j = i
      · subst e; exact pk_us
      · rw [pk_un e]; exact h0 j (by omega)
theorem m_54_55 {N : Nat} (hN : 4000 ≤ N) (x0 x1 : Int32) (h : hSt) : ∃ f, me_54_55 N x0 x1 h = some (f, x0, bif gCmp .ne x0 0 then x1 else 0) ∧ (∀ j, j < 40 → f j = 0) := by
  obtain ⟨f, h1, h2⟩ := l_7_55 (N := N) 40 0 N (h.1, x0, bif gCmp .ne x0 0 then x1 else 0) rfl (by omega) (fun j hj => absurd hj (by omega))
  refine ⟨f, ?_, h2⟩
  unfold me_54_55 me_7_56
  rw [show lp_7_56_5 N 0 40 N 0 (h.1, x0, bif gCmp .ne x0 0 then x1 else 0) = _ from h1]
  rfl
theorem l_7_57 {N : Nat} : ∀ (m i n : Nat) (h : hSt), i + m = 40 → m < n → (∀ j, j < i → h.1 j = 0) → ∃ f, lp_7_58_5 N 0 40 n (nI i) h = some (nI 40, (f, h.2)) ∧ (∀ j, j < 40 → f j = 0) := by
  intro m
  induction m with
  | zero =>
    intro i n h hi hn h0
    obtain rfl : i = 40 := by omega
    cases n with
    | zero => exact absurd hn (by omega)
    | succ n => exact ⟨h.1, rfl, h0⟩
  | succ m ih =>
    intro i n h hi hn h0
    cases n with
    | zero => exact absurd hn (by omega)
    | succ n =>
      rw [lp_7_58_5, jgel i 40 rfl (by omega) (by decide), decide_eq_false (show ¬ 40 ≤ i by omega), jin (show i < 40 by omega) (by decide), jcl (by omega), nI_1]
      refine ih (i + 1) n (upd h.1 i 0, h.2) (by omega) (by omega) ?_
      intro j hj
      dsimp only
      by_cases e : j = i
      · subst e; exact pk_us
      · rw [pk_un e]; exact h0 j (by omega)
theorem m_54_57 {N : Nat} (hN : 4000 ≤ N) (x0 x1 : Int32) (h : hSt) : ∃ f, me_54_57 N x0 x1 h = some (f, x0, bif gCmp .ne x0 0 then x1 else 0) ∧ (∀ j, j < 40 → f j = 0) := by
  obtain ⟨f, h1, h2⟩ := l_7_57 (N := N) 40 0 N (h.1, x0, bif gCmp .ne x0 0 then x1 else 0) rfl (by omega) (fun j hj => absurd hj (by omega))
  refine ⟨f, ?_, h2⟩
  unfold me_54_57 me_7_58
  rw [show lp_7_58_5 N 0 40 N 0 (h.1, x0, bif gCmp .ne x0 0 then x1 else 0) = _ from h1]
  rfl
theorem l_7_59 {N : Nat} : ∀ (m i n : Nat) (h : hSt), i + m = 40 → m < n → (∀ j, j < i → h.1 j = 0) → ∃ f, lp_7_60_5 N 0 40 n (nI i) h = some (nI 40, (f, h.2)) ∧ (∀ j, j < 40 → f j = 0) := by
  intro m
  induction m with
  | zero =>
    intro i n h hi hn h0
    obtain rfl : i = 40 := by omega
    cases n with
    | zero => exact absurd hn (by omega)
    | succ n => exact ⟨h.1, rfl, h0⟩
  | succ m ih =>
    intro i n h hi hn h0
    cases n with
    | zero => exact absurd hn (by omega)
    | succ n =>
      rw [lp_7_60_5, jgel i 40 rfl (by omega) (by decide), decide_eq_false (show ¬ 40 ≤ i by omega), jin (show i < 40 by omega) (by decide), jcl (by omega), nI_1]
      refine ih (i + 1) n (upd h.1 i 0, h.2) (by omega) (by omega) ?_
      intro j hj
      dsimp only
      by_cases e : j = i
      · subst e; exact pk_us
      · rw [pk_un e]; exact h0 j (by omega)
theorem m_54_59 {N : Nat} (hN : 4000 ≤ N) (x0 x1 : Int32) (h : hSt) : ∃ f, me_54_59 N x0 x1 h = some (f, x0, bif gCmp .ne x0 0 then x1 else 0) ∧ (∀ j, j < 40 → f j = 0) := by
  obtain ⟨f, h1, h2⟩ := l_7_59 (N := N) 40 0 N (h.1, x0, bif gCmp .ne x0 0 then x1 else 0) rfl (by omega) (fun j hj => absurd hj (by omega))
  refine ⟨f, ?_, h2⟩
  unfold me_54_59 me_7_60
  rw [show lp_7_60_5 N 0 40 N 0 (h.1, x0, bif gCmp .ne x0 0 then x1 else 0) = _ from h1]
  rfl
theorem l_7_61 {N : Nat} : ∀ (m i n : Nat) (h : hSt), i + m = 40 → m < n → (∀ j, j < i → h.1 j = 0) → ∃ f, lp_7_62_5 N 0 40 n (nI i) h = some (nI 40, (f, h.2)) ∧ (∀ j, j < 40 → f j = 0) := by
  intro m
  induction m with
  | zero =>
    intro i n h hi hn h0
    obtain rfl : i = 40 := by omega
    cases n with
    | zero => exact absurd hn (by omega)
    | succ n => exact ⟨h.1, rfl, h0⟩
  | succ m ih =>
    intro i n h hi hn h0
    cases n with
    | zero => exact absurd hn (by omega)
    | succ n =>
      rw [lp_7_62_5, jgel i 40 rfl (by omega) (by decide), decide_eq_false (show ¬ 40 ≤ i by omega), jin (show i < 40 by omega) (by decide), jcl (by omega), nI_1]
      refine ih (i + 1) n (upd h.1 i 0, h.2) (by omega) (by omega) ?_
      intro j hj
      dsimp only
      by_cases e : j = i
      · subst e; exact pk_us
      · rw [pk_un e]; exact h0 j (by omega)
theorem m_54_61 {N : Nat} (hN : 4000 ≤ N) (x0 x1 : Int32) (h : hSt) : ∃ f, me_54_61 N x0 x1 h = some (f, x0, bif gCmp .ne x0 0 then x1 else 0) ∧ (∀ j, j < 40 → f j = 0) := by
  obtain ⟨f, h1, h2⟩ := l_7_61 (N := N) 40 0 N (h.1, x0, bif gCmp .ne x0 0 then x1 else 0) rfl (by omega) (fun j hj => absurd hj (by omega))
  refine ⟨f, ?_, h2⟩
  unfold me_54_61 me_7_62
  rw [show lp_7_62_5 N 0 40 N 0 (h.1, x0, bif gCmp .ne x0 0 then x1 else 0) = _ from h1]
  rfl
theorem jmiss_57 {q : Nat} {h : hSt} {wi si ce : Nat → Int32} (hH : jH q h wi si ce) (hq : q < 4) (h185 : v_185 (nI q) = 1) : (v_53_57 h = 1 ∧ v_186_63 (nI q) wi = 5) ∨ (v_53_57 h = 0 ∧ v_186_63 (nI q) wi = -1) := jmiss_55 hH hq h185
theorem jmiss_59 {q : Nat} {h : hSt} {wi si ce : Nat → Int32} (hH : jH q h wi si ce) (hq : q < 4) (h185 : v_185 (nI q) = 1) : (v_53_59 h = 1 ∧ v_186_63 (nI q) wi = 5) ∨ (v_53_59 h = 0 ∧ v_186_63 (nI q) wi = -1) := jmiss_55 hH hq h185
theorem jmiss_61 {q : Nat} {h : hSt} {wi si ce : Nat → Int32} (hH : jH q h wi si ce) (hq : q < 4) (h185 : v_185 (nI q) = 1) : (v_53_61 h = 1 ∧ v_186_63 (nI q) wi = 5) ∨ (v_53_61 h = 0 ∧ v_186_63 (nI q) wi = -1) := jmiss_55 hH hq h185
theorem jH_new {q : Nat} {h : hSt} {wi si ce ce' f : Nat → Int32} {x z : Int32} (hz : jR 0 40 z) (hf : ∀ j, j < 40 → f j = 0) (hc : ∀ j, 0 ≤ j → j < 40 → ce' (40 * q + j) = 0) : jH q (f, x, z) (upd wi q x) (upd si q z) ce' := ⟨pk_us, pk_us, fun i hi => (hc i (Nat.zero_le i) hi).trans (hf i hi).symm, hz⟩
theorem jH_newo {q r : Nat} {h : hSt} {wi si ce ce' : Nat → Int32} {x z : Int32} (hH : jH r h wi si ce) (hr : r ≠ q) (hc : ∀ j, j < 40 * q + 0 ∨ 40 * q + 40 ≤ j → ce' j = ce j) : jH r h (upd wi q x) (upd si q z) ce' :=
  ⟨(pk_un hr).trans hH.1, (pk_un hr).trans hH.2.1, fun i hi => (hc _ (by omega)).trans (hH.2.2.1 i hi), hH.2.2.2⟩
theorem jz40 {x y : Int32} (h0 : gCmp .ge y 0 = true) (h1 : gCmp .le y 40 = true) : jR 0 40 (bif gCmp .ne x 0 then y else 0) := by
  have g0 : (0 : Int32) ≤ y := of_decide_eq_true h0
  have g1 : y ≤ 40 := of_decide_eq_true h1
  rw [Int32.le_iff_toInt_le] at g0 g1
  cases gCmp .ne x 0
  · show jR 0 40 0
    exact ⟨by decide, by decide⟩
  · exact ⟨g0, g1⟩
/-- sheet -/
theorem q_sheet {N : Nat} (hN : 4000 ≤ N) {h0 h1 h2 h3 : hSt} {wi si ce fi fo : Nat → Int32} (x0 x1 x2 : Int32) (hH : jH4 h0 h1 h2 h3 wi si ce) (hF : jF fi fo) : ∃ qc qm, me_101_0 N x0 x1 x2 h0 h1 h2 h3 fi = some qc ∧ me_213_63 N x0 x1 x2 fo wi si ce = some qm ∧ qc.1 = qm.1 ∧ jH4 qc.2.1 qc.2.2.1 qc.2.2.2.1 qc.2.2.2.2.1 qm.2.2.1 qm.2.2.2.1 qm.2.2.2.2 ∧ jF qc.2.2.2.2.2 qm.2.1 := by
  unfold me_101_0 me_213_63
  rcases jx0 x0 with ⟨e1, e2⟩ | ⟨e1, e2, e3⟩ | ⟨q, hq, rfl, e1, e2, e3⟩
  · rw [e1, e2, je0]
    exact ⟨_, _, rfl, rfl, rfl, hH, jF_no 0 hF (by decide)⟩
  · rw [e1, e2, e3, je0]
    exact ⟨_, _, rfl, rfl, rfl, hH, jF_no 0 hF (by decide)⟩
  · obtain ⟨ce', g1, g2, g3⟩ := l_213 (N := N) hq 40 0 N ce rfl (by omega)
    have g1' : lp_213_63_83 N (nI q) N 0 ce = some (nI 40, ce') := g1
    rw [e1, e2, e3, je1, jin (show q < 4 by omega) (by decide), jcl (show q < 2 ^ 31 by omega), g1']
    simp only [cond_true, cond_false, Option.bind_some]
    rw [pk_us]
    rcases (show q = 0 ∨ q = 1 ∨ q = 2 ∨ q = 3 by omega) with rfl | rfl | rfl | rfl
    · rw [show hEq (nI 0) 0 = true from by decide]
      simp only [cond_true, cond_false]
      obtain ⟨f, k1, k2⟩ := m_54_55 hN x1 x2 h0
      rw [k1]
      simp only [Option.bind_some]
      cases c3 : gCmp .ge x2 0
      · cases gCmp .eq x1 0 <;> cases gCmp .eq x1 8 <;> cases gCmp .eq x1 16 <;> cases gCmp .eq x1 32 <;> first | exact ⟨_, _, rfl, rfl, rfl, hH, jF_no 6 hF (by decide)⟩ | exact ⟨_, _, rfl, rfl, rfl, hH, jF_no 0 hF (by decide)⟩
      · cases c4 : gCmp .le x2 40
        · cases gCmp .eq x1 0 <;> cases gCmp .eq x1 8 <;> cases gCmp .eq x1 16 <;> cases gCmp .eq x1 32 <;> exact ⟨_, _, rfl, rfl, rfl, hH, jF_no 0 hF (by decide)⟩
        · have hn : jH4 (f, x1, bif gCmp .ne x1 0 then x2 else 0) h1 h2 h3 (upd wi 0 x1) (upd si 0 (bif gCmp .ne x1 0 then x2 else 0)) ce' := ⟨jH_new (h := h0) (ce := ce) (jz40 c3 c4) k2 g2, jH_newo hH.2.1 (by decide) g3, jH_newo hH.2.2.1 (by decide) g3, jH_newo hH.2.2.2 (by decide) g3⟩
          cases gCmp .eq x1 0 <;> cases gCmp .eq x1 8 <;> cases gCmp .eq x1 16 <;> cases gCmp .eq x1 32 <;> first | exact ⟨_, _, rfl, rfl, rfl, hn, hF⟩ | exact ⟨_, _, rfl, rfl, rfl, hH, jF_no 0 hF (by decide)⟩
    · rw [show hEq (nI 1) 0 = false from by decide, show hEq (nI 1) 1 = true from by decide]
      simp only [cond_true, cond_false]
      obtain ⟨f, k1, k2⟩ := m_54_57 hN x1 x2 h1
      rw [k1]
      simp only [Option.bind_some]
      cases c3 : gCmp .ge x2 0
      · cases gCmp .eq x1 0 <;> cases gCmp .eq x1 8 <;> cases gCmp .eq x1 16 <;> cases gCmp .eq x1 32 <;> first | exact ⟨_, _, rfl, rfl, rfl, hH, jF_no 6 hF (by decide)⟩ | exact ⟨_, _, rfl, rfl, rfl, hH, jF_no 0 hF (by decide)⟩
      · cases c4 : gCmp .le x2 40
        · cases gCmp .eq x1 0 <;> cases gCmp .eq x1 8 <;> cases gCmp .eq x1 16 <;> cases gCmp .eq x1 32 <;> exact ⟨_, _, rfl, rfl, rfl, hH, jF_no 0 hF (by decide)⟩
        · have hn : jH4 h0 (f, x1, bif gCmp .ne x1 0 then x2 else 0) h2 h3 (upd wi 1 x1) (upd si 1 (bif gCmp .ne x1 0 then x2 else 0)) ce' := ⟨jH_newo hH.1 (by decide) g3, jH_new (h := h1) (ce := ce) (jz40 c3 c4) k2 g2, jH_newo hH.2.2.1 (by decide) g3, jH_newo hH.2.2.2 (by decide) g3⟩
          cases gCmp .eq x1 0 <;> cases gCmp .eq x1 8 <;> cases gCmp .eq x1 16 <;> cases gCmp .eq x1 32 <;> first | exact ⟨_, _, rfl, rfl, rfl, hn, hF⟩ | exact ⟨_, _, rfl, rfl, rfl, hH, jF_no 0 hF (by decide)⟩
    · rw [show hEq (nI 2) 0 = false from by decide, show hEq (nI 2) 1 = false from by decide, show hEq (nI 2) 2 = true from by decide]
      simp only [cond_true, cond_false]
      obtain ⟨f, k1, k2⟩ := m_54_59 hN x1 x2 h2
      rw [k1]
      simp only [Option.bind_some]
      cases c3 : gCmp .ge x2 0
      · cases gCmp .eq x1 0 <;> cases gCmp .eq x1 8 <;> cases gCmp .eq x1 16 <;> cases gCmp .eq x1 32 <;> first | exact ⟨_, _, rfl, rfl, rfl, hH, jF_no 6 hF (by decide)⟩ | exact ⟨_, _, rfl, rfl, rfl, hH, jF_no 0 hF (by decide)⟩
      · cases c4 : gCmp .le x2 40
        · cases gCmp .eq x1 0 <;> cases gCmp .eq x1 8 <;> cases gCmp .eq x1 16 <;> cases gCmp .eq x1 32 <;> exact ⟨_, _, rfl, rfl, rfl, hH, jF_no 0 hF (by decide)⟩
        · have hn : jH4 h0 h1 (f, x1, bif gCmp .ne x1 0 then x2 else 0) h3 (upd wi 2 x1) (upd si 2 (bif gCmp .ne x1 0 then x2 else 0)) ce' := ⟨jH_newo hH.1 (by decide) g3, jH_newo hH.2.1 (by decide) g3, jH_new (h := h2) (ce := ce) (jz40 c3 c4) k2 g2, jH_newo hH.2.2.2 (by decide) g3⟩
          cases gCmp .eq x1 0 <;> cases gCmp .eq x1 8 <;> cases gCmp .eq x1 16 <;> cases gCmp .eq x1 32 <;> first | exact ⟨_, _, rfl, rfl, rfl, hn, hF⟩ | exact ⟨_, _, rfl, rfl, rfl, hH, jF_no 0 hF (by decide)⟩
    · rw [show hEq (nI 3) 0 = false from by decide, show hEq (nI 3) 1 = false from by decide, show hEq (nI 3) 2 = false from by decide]
      simp only [cond_true, cond_false]
      obtain ⟨f, k1, k2⟩ := m_54_61 hN x1 x2 h3
      rw [k1]
      simp only [Option.bind_some]
      cases c3 : gCmp .ge x2 0
      · cases gCmp .eq x1 0 <;> cases gCmp .eq x1 8 <;> cases gCmp .eq x1 16 <;> cases gCmp .eq x1 32 <;> first | exact ⟨_, _, rfl, rfl, rfl, hH, jF_no 6 hF (by decide)⟩ | exact ⟨_, _, rfl, rfl, rfl, hH, jF_no 0 hF (by decide)⟩
      · cases c4 : gCmp .le x2 40
        · cases gCmp .eq x1 0 <;> cases gCmp .eq x1 8 <;> cases gCmp .eq x1 16 <;> cases gCmp .eq x1 32 <;> exact ⟨_, _, rfl, rfl, rfl, hH, jF_no 0 hF (by decide)⟩
        · have hn : jH4 h0 h1 h2 (f, x1, bif gCmp .ne x1 0 then x2 else 0) (upd wi 3 x1) (upd si 3 (bif gCmp .ne x1 0 then x2 else 0)) ce' := ⟨jH_newo hH.1 (by decide) g3, jH_newo hH.2.1 (by decide) g3, jH_newo hH.2.2.1 (by decide) g3, jH_new (h := h3) (ce := ce) (jz40 c3 c4) k2 g2⟩
          cases gCmp .eq x1 0 <;> cases gCmp .eq x1 8 <;> cases gCmp .eq x1 16 <;> cases gCmp .eq x1 32 <;> first | exact ⟨_, _, rfl, rfl, rfl, hn, hF⟩ | exact ⟨_, _, rfl, rfl, rfl, hH, jF_no 0 hF (by decide)⟩
theorem jw_55 {q i z : Nat} {h : hSt} {wi si ce : Nat → Int32} (hH : jH q h wi si ce) (hi : i < 40) (x : Int32) : jH q (f_55_55_h0 (nI i) x h) wi si (upd ce (40 * q + i) (bif gCmp .ne (wi q) 8 then (bif gCmp .ne (wi q) 16 then x else ((Int32.toInt16 x).toInt32)) else ((Int32.toInt8 x).toInt32))) := by
  unfold f_55_55_h0
  rw [hH.1, jcl (by omega)]
  cases gCmp .ne h.2.1 8
  · exact jH_put hH hi _
  · cases gCmp .ne h.2.1 16
    · exact jH_put hH hi _
    · exact jH_put hH hi _
/-- write -/
theorem q_write {N : Nat} (hN : 4000 ≤ N) {h0 h1 h2 h3 : hSt} {wi si ce fi fo : Nat → Int32} (x0 x1 x2 : Int32) (hH : jH4 h0 h1 h2 h3 wi si ce) (hF : jF fi fo) : ∃ qc qm, me_102_0 N x0 x1 x2 h0 h1 h2 h3 fi = some qc ∧ me_214_63 N x0 x1 x2 fo wi si ce = some qm ∧ qc.1 = qm.1 ∧ jH4 qc.2.1 qc.2.2.1 qc.2.2.2.1 qc.2.2.2.2.1 wi si qm.2.2 ∧ jF qc.2.2.2.2.2 qm.2.1 := by
  unfold me_102_0 me_214_63
  rcases jx0 x0 with ⟨e1, e2⟩ | ⟨e1, e2, e3⟩ | ⟨q, hq, rfl, e1, e2, e3⟩
  · rw [e1, j186_0 e2, e2, jn0]
    exact ⟨_, _, rfl, rfl, rfl, hH, jF_no 0 hF (by decide)⟩
  · rw [e1, e2, j186_0 e3, e3, jn0]
    exact ⟨_, _, rfl, rfl, rfl, hH, jF_no 0 hF (by decide)⟩
  · rw [e1, e2, e3, jn1, jin (show q < 4 by omega) (by decide), jcl (show q < 2 ^ 31 by omega)]
    simp only [cond_true, cond_false, Bool.or_true]
    rcases (show q = 0 ∨ q = 1 ∨ q = 2 ∨ q = 3 by omega) with rfl | rfl | rfl | rfl
    · rw [show hEq (nI 0) 0 = true from by decide]
      simp only [cond_true, cond_false]
      rcases jmiss_55 hH.1 (by decide) e3 with ⟨k1, k2⟩ | ⟨k1, k2⟩
      · rw [k1, k2, je1]
        exact ⟨_, _, rfl, rfl, rfl, hH, jF_no 5 hF (by decide)⟩
      · obtain ⟨z, hz, ez⟩ := jR_u 40 hH.1.2.2.2 (by decide)
        rw [k1, k2, je0, hH.1.2.1, show gCmp .ge (-1 : Int32) 0 = false from by decide]
        simp only [cond_true, cond_false]
        rcases jix ez hz x1 with ⟨k3, k4, i, hi, rfl⟩ | ⟨k3, k4⟩
        · rw [k3, k4, jn1, jin (show i < 40 by omega) (by decide), (j40g (q := 0) (by decide) (show i < 40 by omega)).1, (j40g (q := 0) (by decide) (show i < 40 by omega)).2]
          simp only [Bool.or_true, cond_true, show gCmp .lt (-1 : Int32) 0 = true from by decide]
          exact ⟨_, _, rfl, rfl, rfl, ⟨jw_55 (z := z) hH.1 (show i < 40 by omega) x2, jH_oth (q := 0) hH.2.1 (by decide) (show i < 40 by omega) _, jH_oth (q := 0) hH.2.2.1 (by decide) (show i < 40 by omega) _, jH_oth (q := 0) hH.2.2.2 (by decide) (show i < 40 by omega) _⟩, hF⟩
        · rw [k3, k4, jn0]
          exact ⟨_, _, rfl, rfl, rfl, hH, jF_no 0 hF (by decide)⟩
    · rw [show hEq (nI 1) 0 = false from by decide, show hEq (nI 1) 1 = true from by decide]
      simp only [cond_true, cond_false]
      rcases jmiss_57 hH.2.1 (by decide) e3 with ⟨k1, k2⟩ | ⟨k1, k2⟩
      · rw [k1, k2, je1]
        exact ⟨_, _, rfl, rfl, rfl, hH, jF_no 5 hF (by decide)⟩
      · obtain ⟨z, hz, ez⟩ := jR_u 40 hH.2.1.2.2.2 (by decide)
        rw [k1, k2, je0, hH.2.1.2.1, show gCmp .ge (-1 : Int32) 0 = false from by decide]
        simp only [cond_true, cond_false]
        rcases jix ez hz x1 with ⟨k3, k4, i, hi, rfl⟩ | ⟨k3, k4⟩
        · rw [k3, k4, jn1, jin (show i < 40 by omega) (by decide), (j40g (q := 1) (by decide) (show i < 40 by omega)).1, (j40g (q := 1) (by decide) (show i < 40 by omega)).2]
          simp only [Bool.or_true, cond_true, show gCmp .lt (-1 : Int32) 0 = true from by decide]
          exact ⟨_, _, rfl, rfl, rfl, ⟨jH_oth (q := 1) hH.1 (by decide) (show i < 40 by omega) _, jw_55 (z := z) hH.2.1 (show i < 40 by omega) x2, jH_oth (q := 1) hH.2.2.1 (by decide) (show i < 40 by omega) _, jH_oth (q := 1) hH.2.2.2 (by decide) (show i < 40 by omega) _⟩, hF⟩
        · rw [k3, k4, jn0]
          exact ⟨_, _, rfl, rfl, rfl, hH, jF_no 0 hF (by decide)⟩
    · rw [show hEq (nI 2) 0 = false from by decide, show hEq (nI 2) 1 = false from by decide, show hEq (nI 2) 2 = true from by decide]
      simp only [cond_true, cond_false]
      rcases jmiss_59 hH.2.2.1 (by decide) e3 with ⟨k1, k2⟩ | ⟨k1, k2⟩
      · rw [k1, k2, je1]
        exact ⟨_, _, rfl, rfl, rfl, hH, jF_no 5 hF (by decide)⟩
      · obtain ⟨z, hz, ez⟩ := jR_u 40 hH.2.2.1.2.2.2 (by decide)
        rw [k1, k2, je0, hH.2.2.1.2.1, show gCmp .ge (-1 : Int32) 0 = false from by decide]
        simp only [cond_true, cond_false]
        rcases jix ez hz x1 with ⟨k3, k4, i, hi, rfl⟩ | ⟨k3, k4⟩
        · rw [k3, k4, jn1, jin (show i < 40 by omega) (by decide), (j40g (q := 2) (by decide) (show i < 40 by omega)).1, (j40g (q := 2) (by decide) (show i < 40 by omega)).2]
          simp only [Bool.or_true, cond_true, show gCmp .lt (-1 : Int32) 0 = true from by decide]
          exact ⟨_, _, rfl, rfl, rfl, ⟨jH_oth (q := 2) hH.1 (by decide) (show i < 40 by omega) _, jH_oth (q := 2) hH.2.1 (by decide) (show i < 40 by omega) _, jw_55 (z := z) hH.2.2.1 (show i < 40 by omega) x2, jH_oth (q := 2) hH.2.2.2 (by decide) (show i < 40 by omega) _⟩, hF⟩
        · rw [k3, k4, jn0]
          exact ⟨_, _, rfl, rfl, rfl, hH, jF_no 0 hF (by decide)⟩
    · rw [show hEq (nI 3) 0 = false from by decide, show hEq (nI 3) 1 = false from by decide, show hEq (nI 3) 2 = false from by decide]
      simp only [cond_true, cond_false]
      rcases jmiss_61 hH.2.2.2 (by decide) e3 with ⟨k1, k2⟩ | ⟨k1, k2⟩
      · rw [k1, k2, je1]
        exact ⟨_, _, rfl, rfl, rfl, hH, jF_no 5 hF (by decide)⟩
      · obtain ⟨z, hz, ez⟩ := jR_u 40 hH.2.2.2.2.2.2 (by decide)
        rw [k1, k2, je0, hH.2.2.2.2.1, show gCmp .ge (-1 : Int32) 0 = false from by decide]
        simp only [cond_true, cond_false]
        rcases jix ez hz x1 with ⟨k3, k4, i, hi, rfl⟩ | ⟨k3, k4⟩
        · rw [k3, k4, jn1, jin (show i < 40 by omega) (by decide), (j40g (q := 3) (by decide) (show i < 40 by omega)).1, (j40g (q := 3) (by decide) (show i < 40 by omega)).2]
          simp only [Bool.or_true, cond_true, show gCmp .lt (-1 : Int32) 0 = true from by decide]
          exact ⟨_, _, rfl, rfl, rfl, ⟨jH_oth (q := 3) hH.1 (by decide) (show i < 40 by omega) _, jH_oth (q := 3) hH.2.1 (by decide) (show i < 40 by omega) _, jH_oth (q := 3) hH.2.2.1 (by decide) (show i < 40 by omega) _, jw_55 (z := z) hH.2.2.2 (show i < 40 by omega) x2⟩, hF⟩
        · rw [k3, k4, jn0]
          exact ⟨_, _, rfl, rfl, rfl, hH, jF_no 0 hF (by decide)⟩
