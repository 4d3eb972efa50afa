theorem l_115 {N : Nat} {q f c : Nat} {ce : Nat → Int32} (hq : q < 4) (hf : f + c ≤ 40) : ∀ (m i n : Nat) (ca : Nat → Int32), i + m = c → m < n → (∀ j, j < i → ca j = ce (40 * q + f + j)) → ∃ ca', lp_215_63_115 N (nI q) (nI f) (nI c) ce n (nI i) ca = some (nI c, ca') ∧ ∀ j, j < c → ca' j = ce (40 * q + f + j) := by
  intro m
  induction m with
  | zero =>
    intro i n ca hi hn h
    obtain rfl : i = c := by omega
    cases n with
    | zero => exact absurd hn (by omega)
    | succ n =>
      rw [lp_215_63_115, jge i i rfl rfl (by omega) (by omega), decide_eq_true (Nat.le_refl i)]
      exact ⟨_, rfl, h⟩
  | succ m ih =>
    intro i n ca hi hn h
    cases n with
    | zero => exact absurd hn (by omega)
    | succ n =>
      rw [lp_215_63_115, jge i c rfl rfl (by omega) (by omega), decide_eq_false (show ¬ c ≤ i by omega), j40, nI_add, jin (show 40 * q + f + i < 160 by omega) (by decide), jin (show i < 40 by omega) (by decide), jcl (show i < 2 ^ 31 by omega), jcl (show 40 * q + f + i < 2 ^ 31 by omega), nI_1]
      refine ih (i + 1) n _ (by omega) (by omega) ?_
      intro j hj
      by_cases e : j = i
      · subst e; exact pk_us
      · rw [pk_un e]; exact h j (by omega)
theorem l_152 {N : Nat} {q g c : Nat} {ca ce0 : Nat → Int32} (hq : q < 4) (hg : g + c ≤ 40) : ∀ (m i n : Nat) (ce : Nat → Int32), i + m = c → m < n → (∀ j, ce j = if 40 * q + g ≤ j ∧ j < 40 * q + g + i then ca (j - (40 * q + g)) else ce0 j) → ∃ ce', lp_215_63_152 N (nI q) (nI g) (nI c) ca n (nI i) ce = some (nI c, ce') ∧ ∀ j, ce' j = if 40 * q + g ≤ j ∧ j < 40 * q + g + c then ca (j - (40 * q + g)) else ce0 j := by
  intro m
  induction m with
  | zero =>
    intro i n ce hi hn h
    obtain rfl : i = c := by omega
    cases n with
    | zero => exact absurd hn (by omega)
    | succ n =>
      rw [lp_215_63_152, jge i i rfl rfl (by omega) (by omega), decide_eq_true (Nat.le_refl i)]
      exact ⟨_, rfl, h⟩
  | succ m ih =>
    intro i n ce hi hn h
    cases n with
    | zero => exact absurd hn (by omega)
    | succ n =>
      rw [lp_215_63_152, jge i c rfl rfl (by omega) (by omega), decide_eq_false (show ¬ c ≤ i by omega), j40, nI_add, jin (show 40 * q + g + i < 160 by omega) (by decide), jin (show i < 40 by omega) (by decide), jcl (show i < 2 ^ 31 by omega), jcl (show 40 * q + g + i < 2 ^ 31 by omega), nI_1]
      refine ih (i + 1) n _ (by omega) (by omega) ?_
      intro j
      by_cases e : j = 40 * q + g + i
      · rw [e, pk_us, if_pos (by omega)]
        congr 1
        omega
      · rw [pk_un e, h j]
        by_cases h2 : 40 * q + g ≤ j ∧ j < 40 * q + g + i
        · rw [if_pos h2, if_pos (by omega)]
        · rw [if_neg h2, if_neg (by omega)]
theorem jsubT {z n : Nat} (hz : z ≤ 40) (hn : n < 2 ^ 31) : (nI z - nI n).toInt = (z : Int) - n := by
  by_cases h : n ≤ z
  · rw [pk_sub h, nI_toInt (by omega)]; omega
  · rw [← Int32.neg_sub, pk_sub (show z ≤ n by omega), sb_negT (by omega)]; omega
theorem jv56 {z f n : Nat} {h : hSt} (ez : h.2.2 = nI z) (hz : z ≤ 40) (hf : f < 2 ^ 31) (hn : n < 2 ^ 31) : v_56_55 (nI f) (nI n) h = (bif decide (f + n ≤ z) then 1 else 0) := by
  unfold v_56_55
  rw [ez, jltl f 0 rfl hf (by decide), decide_eq_false (Nat.not_lt_zero f), jltl n 0 rfl hn (by decide), decide_eq_false (Nat.not_lt_zero n), jgt f z rfl rfl hf (by omega)]
  by_cases h1 : z < f
  · rw [decide_eq_true h1, decide_eq_false (show ¬ f + n ≤ z by omega)]; rfl
  · rw [decide_eq_false h1, pk_sub (show f ≤ z by omega), jgt n (z - f) rfl rfl hn (by omega)]
    by_cases h2 : z - f < n
    · rw [decide_eq_true h2, decide_eq_false (show ¬ f + n ≤ z by omega)]; rfl
    · rw [decide_eq_false h2, decide_eq_true (show f + n ≤ z by omega)]; rfl
theorem jcp_55_55 {za zb : Nat} {ha hb : hSt} (ea : ha.2.2 = nI za) (hza : za ≤ 40) (eb : hb.2.2 = nI zb) (hzb : zb ≤ 40) (x1 x3 x4 : Int32) :
    (∃ f g n : Nat, x1 = nI f ∧ x3 = nI g ∧ x4 = nI n ∧ f + n ≤ za ∧ g + n ≤ zb ∧ v_56_55 x1 x4 ha = 1 ∧ v_56_55 x3 x4 hb = 1 ∧ gCmp .lt x4 0 = false ∧ gCmp .lt x1 0 = false ∧ gCmp .lt x3 0 = false ∧ gCmp .gt x1 (nI za - x4) = false ∧ gCmp .le x3 (nI zb - x4) = true) ∨
    ((v_56_55 x1 x4 ha = 0 ∨ (v_56_55 x1 x4 ha = 1 ∧ v_56_55 x3 x4 hb = 0)) ∧ (gCmp .lt x4 0 = true ∨ (gCmp .lt x4 0 = false ∧ (gCmp .lt x1 0 = true ∨ (gCmp .lt x1 0 = false ∧ (gCmp .lt x3 0 = true ∨ (gCmp .lt x3 0 = false ∧ (gCmp .gt x1 (nI za - x4) = true ∨ (gCmp .gt x1 (nI za - x4) = false ∧ gCmp .le x3 (nI zb - x4) = false))))))))) := by
  have hv : ∀ x y (h : hSt), v_56_55 x y h = 0 ∨ v_56_55 x y h = 1 := by
    intro x y h
    unfold v_56_55
    cases gCmp .lt x 0
    · cases gCmp .lt y 0
      · cases gCmp .gt x h.2.2
        · cases gCmp .gt y (h.2.2 - x)
          · exact .inr rfl
          · exact .inl rfl
        · exact .inl rfl
      · exact .inl rfl
    · exact .inl rfl
  by_cases h4 : x4 < 0
  · refine .inr ⟨.inl ?_, .inl (decide_eq_true h4)⟩
    unfold v_56_55
    rw [show gCmp .lt x4 0 = true from decide_eq_true h4]
    cases gCmp .lt x1 0 <;> rfl
  · obtain ⟨n, hn, rfl⟩ := nI_of h4
    have g4 : gCmp .lt (nI n) 0 = false := decide_eq_false h4
    by_cases h1 : x1 < 0
    · refine .inr ⟨.inl ?_, .inr ⟨g4, .inl (decide_eq_true h1)⟩⟩
      unfold v_56_55
      rw [show gCmp .lt x1 0 = true from decide_eq_true h1]
      rfl
    · obtain ⟨f, hf, rfl⟩ := nI_of h1
      have g1 : gCmp .lt (nI f) 0 = false := decide_eq_false h1
      by_cases h3 : x3 < 0
      · refine .inr ⟨?_, .inr ⟨g4, .inr ⟨g1, .inl (decide_eq_true h3)⟩⟩⟩
        rcases hv (nI f) (nI n) ha with k | k
        · exact .inl k
        · refine .inr ⟨k, ?_⟩
          unfold v_56_55
          rw [show gCmp .lt x3 0 = true from decide_eq_true h3]
          rfl
      · obtain ⟨g, hg, rfl⟩ := nI_of h3
        have g3 : gCmp .lt (nI g) 0 = false := decide_eq_false h3
        have ga : gCmp .gt (nI f) (nI za - nI n) = decide (za < f + n) := by
          show decide (nI za - nI n < nI f) = _
          refine decide_eq_decide.mpr ?_
          rw [Int32.lt_iff_toInt_lt, jsubT hza hn, nI_toInt hf]
          omega
        have gb : gCmp .le (nI g) (nI zb - nI n) = decide (g + n ≤ zb) := by
          show decide (nI g ≤ nI zb - nI n) = _
          refine decide_eq_decide.mpr ?_
          rw [Int32.le_iff_toInt_le, jsubT hzb hn, nI_toInt hg]
          omega
        rw [jv56 ea hza hf hn, jv56 eb hzb hg hn, ga, gb, g1, g3, g4]
        by_cases k1 : f + n ≤ za
        · by_cases k2 : g + n ≤ zb
          · rw [decide_eq_true k1, decide_eq_true k2, decide_eq_false (show ¬ za < f + n by omega)]
            exact .inl ⟨f, g, n, rfl, rfl, rfl, k1, k2, rfl, rfl, rfl, rfl, rfl, rfl, rfl⟩
          · rw [decide_eq_true k1, decide_eq_false k2, decide_eq_false (show ¬ za < f + n by omega)]
            exact .inr ⟨.inr ⟨rfl, rfl⟩, .inr ⟨rfl, .inr ⟨rfl, .inr ⟨rfl, .inr ⟨rfl, rfl⟩⟩⟩⟩⟩
        · rw [decide_eq_false k1, decide_eq_true (show za < f + n by omega)]
          exact .inr ⟨.inl rfl, .inr ⟨rfl, .inr ⟨rfl, .inr ⟨rfl, .inl rfl⟩⟩⟩⟩
theorem jble {a b : Nat} (h : a ≤ b) : Nat.ble a b = true := by rw [Nat.ble_eq]; exact h
theorem jH_cpy {q r f g n : Nat} {ha hb : hSt} {wi si ce ce' ca : Nat → Int32} (hA : jH q ha wi si ce) (hB : jH r hb wi si ce) (hq : q < 4) (hf : f + n ≤ 40) (hg : g + n ≤ 40) (h1 : ∀ j, j < n → ca j = ce (40 * q + f + j)) (h2 : ∀ j, ce' j = if 40 * r + g ≤ j ∧ j < 40 * r + g + n then ca (j - (40 * r + g)) else ce j) : jH r (va_cpy ha.1 hb.1 f g n, hb.2) wi si ce' := by
  refine ⟨hB.1, hB.2.1, ?_, hB.2.2.2⟩
  intro i hi
  dsimp only
  rw [h2]
  by_cases h3 : g ≤ i ∧ i < g + n
  · rw [if_pos (by omega), pk_cpy_in h3.1 h3.2, h1 _ (by omega), ← hA.2.2.1 (f + (i - g)) (by omega)]
    congr 1
    omega
  · rw [if_neg (by omega), pk_cpy_out (by omega)]
    exact hB.2.2.1 i hi
theorem jH_cpyo {r r2 g n : Nat} {hb : hSt} {wi si ce ce' ca : Nat → Int32} (hB : jH r2 hb wi si ce) (hr : r2 ≠ r) (hg : g + n ≤ 40) (h2 : ∀ j, ce' j = if 40 * r + g ≤ j ∧ j < 40 * r + g + n then ca (j - (40 * r + g)) else ce j) : jH r2 hb wi si ce' := by
  refine ⟨hB.1, hB.2.1, ?_, hB.2.2.2⟩
  intro i hi
  rw [h2, if_neg (by omega)]
  exact hB.2.2.1 i hi
theorem jcp_55_57 {za zb : Nat} {ha hb : hSt} (ea : ha.2.2 = nI za) (hza : za ≤ 40) (eb : hb.2.2 = nI zb) (hzb : zb ≤ 40) (x1 x3 x4 : Int32) :
    (∃ f g n : Nat, x1 = nI f ∧ x3 = nI g ∧ x4 = nI n ∧ f + n ≤ za ∧ g + n ≤ zb ∧ v_56_55 x1 x4 ha = 1 ∧ v_56_57 x3 x4 hb = 1 ∧ gCmp .lt x4 0 = false ∧ gCmp .lt x1 0 = false ∧ gCmp .lt x3 0 = false ∧ gCmp .gt x1 (nI za - x4) = false ∧ gCmp .le x3 (nI zb - x4) = true) ∨
    ((v_56_55 x1 x4 ha = 0 ∨ (v_56_55 x1 x4 ha = 1 ∧ v_56_57 x3 x4 hb = 0)) ∧ (gCmp .lt x4 0 = true ∨ (gCmp .lt x4 0 = false ∧ (gCmp .lt x1 0 = true ∨ (gCmp .lt x1 0 = false ∧ (gCmp .lt x3 0 = true ∨ (gCmp .lt x3 0 = false ∧ (gCmp .gt x1 (nI za - x4) = true ∨ (gCmp .gt x1 (nI za - x4) = false ∧ gCmp .le x3 (nI zb - x4) = false))))))))) := jcp_55_55 ea hza eb hzb x1 x3 x4
theorem jcp_55_59 {za zb : Nat} {ha hb : hSt} (ea : ha.2.2 = nI za) (hza : za ≤ 40) (eb : hb.2.2 = nI zb) (hzb : zb ≤ 40) (x1 x3 x4 : Int32) :
    (∃ f g n : Nat, x1 = nI f ∧ x3 = nI g ∧ x4 = nI n ∧ f + n ≤ za ∧ g + n ≤ zb ∧ v_56_55 x1 x4 ha = 1 ∧ v_56_59 x3 x4 hb = 1 ∧ gCmp .lt x4 0 = false ∧ gCmp .lt x1 0 = false ∧ gCmp .lt x3 0 = false ∧ gCmp .gt x1 (nI za - x4) = false ∧ gCmp .le x3 (nI zb - x4) = true) ∨
    ((v_56_55 x1 x4 ha = 0 ∨ (v_56_55 x1 x4 ha = 1 ∧ v_56_59 x3 x4 hb = 0)) ∧ (gCmp .lt x4 0 = true ∨ (gCmp .lt x4 0 = false ∧ (gCmp .lt x1 0 = true ∨ (gCmp .lt x1 0 = false ∧ (gCmp .lt x3 0 = true ∨ (gCmp .lt x3 0 = false ∧ (gCmp .gt x1 (nI za - x4) = true ∨ (gCmp .gt x1 (nI za - x4) = false ∧ gCmp .le x3 (nI zb - x4) = false))))))))) := jcp_55_55 ea hza eb hzb x1 x3 x4
theorem jcp_55_61 {za zb : Nat} {ha hb : hSt} (ea : ha.2.2 = nI za) (hza : za ≤ 40) (eb : hb.2.2 = nI zb) (hzb : zb ≤ 40) (x1 x3 x4 : Int32) :
    (∃ f g n : Nat, x1 = nI f ∧ x3 = nI g ∧ x4 = nI n ∧ f + n ≤ za ∧ g + n ≤ zb ∧ v_56_55 x1 x4 ha = 1 ∧ v_56_61 x3 x4 hb = 1 ∧ gCmp .lt x4 0 = false ∧ gCmp .lt x1 0 = false ∧ gCmp .lt x3 0 = false ∧ gCmp .gt x1 (nI za - x4) = false ∧ gCmp .le x3 (nI zb - x4) = true) ∨
    ((v_56_55 x1 x4 ha = 0 ∨ (v_56_55 x1 x4 ha = 1 ∧ v_56_61 x3 x4 hb = 0)) ∧ (gCmp .lt x4 0 = true ∨ (gCmp .lt x4 0 = false ∧ (gCmp .lt x1 0 = true ∨ (gCmp .lt x1 0 = false ∧ (gCmp .lt x3 0 = true ∨ (gCmp .lt x3 0 = false ∧ (gCmp .gt x1 (nI za - x4) = true ∨ (gCmp .gt x1 (nI za - x4) = false ∧ gCmp .le x3 (nI zb - x4) = false))))))))) := jcp_55_55 ea hza eb hzb x1 x3 x4
theorem jcp_57_55 {za zb : Nat} {ha hb : hSt} (ea : ha.2.2 = nI za) (hza : za ≤ 40) (eb : hb.2.2 = nI zb) (hzb : zb ≤ 40) (x1 x3 x4 : Int32) :
    (∃ f g n : Nat, x1 = nI f ∧ x3 = nI g ∧ x4 = nI n ∧ f + n ≤ za ∧ g + n ≤ zb ∧ v_56_57 x1 x4 ha = 1 ∧ v_56_55 x3 x4 hb = 1 ∧ gCmp .lt x4 0 = false ∧ gCmp .lt x1 0 = false ∧ gCmp .lt x3 0 = false ∧ gCmp .gt x1 (nI za - x4) = false ∧ gCmp .le x3 (nI zb - x4) = true) ∨
    ((v_56_57 x1 x4 ha = 0 ∨ (v_56_57 x1 x4 ha = 1 ∧ v_56_55 x3 x4 hb = 0)) ∧ (gCmp .lt x4 0 = true ∨ (gCmp .lt x4 0 = false ∧ (gCmp .lt x1 0 = true ∨ (gCmp .lt x1 0 = false ∧ (gCmp .lt x3 0 = true ∨ (gCmp .lt x3 0 = false ∧ (gCmp .gt x1 (nI za - x4) = true ∨ (gCmp .gt x1 (nI za - x4) = false ∧ gCmp .le x3 (nI zb - x4) = false))))))))) := jcp_55_55 ea hza eb hzb x1 x3 x4
theorem jcp_57_57 {za zb : Nat} {ha hb : hSt} (ea : ha.2.2 = nI za) (hza : za ≤ 40) (eb : hb.2.2 = nI zb) (hzb : zb ≤ 40) (x1 x3 x4 : Int32) :
    (∃ f g n : Nat, x1 = nI f ∧ x3 = nI g ∧ x4 = nI n ∧ f + n ≤ za ∧ g + n ≤ zb ∧ v_56_57 x1 x4 ha = 1 ∧ v_56_57 x3 x4 hb = 1 ∧ gCmp .lt x4 0 = false ∧ gCmp .lt x1 0 = false ∧ gCmp .lt x3 0 = false ∧ gCmp .gt x1 (nI za - x4) = false ∧ gCmp .le x3 (nI zb - x4) = true) ∨
    ((v_56_57 x1 x4 ha = 0 ∨ (v_56_57 x1 x4 ha = 1 ∧ v_56_57 x3 x4 hb = 0)) ∧ (gCmp .lt x4 0 = true ∨ (gCmp .lt x4 0 = false ∧ (gCmp .lt x1 0 = true ∨ (gCmp .lt x1 0 = false ∧ (gCmp .lt x3 0 = true ∨ (gCmp .lt x3 0 = false ∧ (gCmp .gt x1 (nI za - x4) = true ∨ (gCmp .gt x1 (nI za - x4) = false ∧ gCmp .le x3 (nI zb - x4) = false))))))))) := jcp_55_55 ea hza eb hzb x1 x3 x4
theorem jcp_57_59 {za zb : Nat} {ha hb : hSt} (ea : ha.2.2 = nI za) (hza : za ≤ 40) (eb : hb.2.2 = nI zb) (hzb : zb ≤ 40) (x1 x3 x4 : Int32) :
    (∃ f g n : Nat, x1 = nI f ∧ x3 = nI g ∧ x4 = nI n ∧ f + n ≤ za ∧ g + n ≤ zb ∧ v_56_57 x1 x4 ha = 1 ∧ v_56_59 x3 x4 hb = 1 ∧ gCmp .lt x4 0 = false ∧ gCmp .lt x1 0 = false ∧ gCmp .lt x3 0 = false ∧ gCmp .gt x1 (nI za - x4) = false ∧ gCmp .le x3 (nI zb - x4) = true) ∨
    ((v_56_57 x1 x4 ha = 0 ∨ (v_56_57 x1 x4 ha = 1 ∧ v_56_59 x3 x4 hb = 0)) ∧ (gCmp .lt x4 0 = true ∨ (gCmp .lt x4 0 = false ∧ (gCmp .lt x1 0 = true ∨ (gCmp .lt x1 0 = false ∧ (gCmp .lt x3 0 = true ∨ (gCmp .lt x3 0 = false ∧ (gCmp .gt x1 (nI za - x4) = true ∨ (gCmp .gt x1 (nI za - x4) = false ∧ gCmp .le x3 (nI zb - x4) = false))))))))) := jcp_55_55 ea hza eb hzb x1 x3 x4
theorem jcp_57_61 {za zb : Nat} {ha hb : hSt} (ea : ha.2.2 = nI za) (hza : za ≤ 40) (eb : hb.2.2 = nI zb) (hzb : zb ≤ 40) (x1 x3 x4 : Int32) :
    (∃ f g n : Nat, x1 = nI f ∧ x3 = nI g ∧ x4 = nI n ∧ f + n ≤ za ∧ g + n ≤ zb ∧ v_56_57 x1 x4 ha = 1 ∧ v_56_61 x3 x4 hb = 1 ∧ gCmp .lt x4 0 = false ∧ gCmp .lt x1 0 = false ∧ gCmp .lt x3 0 = false ∧ gCmp .gt x1 (nI za - x4) = false ∧ gCmp .le x3 (nI zb - x4) = true) ∨
    ((v_56_57 x1 x4 ha = 0 ∨ (v_56_57 x1 x4 ha = 1 ∧ v_56_61 x3 x4 hb = 0)) ∧ (gCmp .lt x4 0 = true ∨ (gCmp .lt x4 0 = false ∧ (gCmp .lt x1 0 = true ∨ (gCmp .lt x1 0 = false ∧ (gCmp .lt x3 0 = true ∨ (gCmp .lt x3 0 = false ∧ (gCmp .gt x1 (nI za - x4) = true ∨ (gCmp .gt x1 (nI za - x4) = false ∧ gCmp .le x3 (nI zb - x4) = false))))))))) := jcp_55_55 ea hza eb hzb x1 x3 x4
theorem jcp_59_55 {za zb : Nat} {ha hb : hSt} (ea : ha.2.2 = nI za) (hza : za ≤ 40) (eb : hb.2.2 = nI zb) (hzb : zb ≤ 40) (x1 x3 x4 : Int32) :
    (∃ f g n : Nat, x1 = nI f ∧ x3 = nI g ∧ x4 = nI n ∧ f + n ≤ za ∧ g + n ≤ zb ∧ v_56_59 x1 x4 ha = 1 ∧ v_56_55 x3 x4 hb = 1 ∧ gCmp .lt x4 0 = false ∧ gCmp .lt x1 0 = false ∧ gCmp .lt x3 0 = false ∧ gCmp .gt x1 (nI za - x4) = false ∧ gCmp .le x3 (nI zb - x4) = true) ∨
    ((v_56_59 x1 x4 ha = 0 ∨ (v_56_59 x1 x4 ha = 1 ∧ v_56_55 x3 x4 hb = 0)) ∧ (gCmp .lt x4 0 = true ∨ (gCmp .lt x4 0 = false ∧ (gCmp .lt x1 0 = true ∨ (gCmp .lt x1 0 = false ∧ (gCmp .lt x3 0 = true ∨ (gCmp .lt x3 0 = false ∧ (gCmp .gt x1 (nI za - x4) = true ∨ (gCmp .gt x1 (nI za - x4) = false ∧ gCmp .le x3 (nI zb - x4) = false))))))))) := jcp_55_55 ea hza eb hzb x1 x3 x4
theorem jcp_59_57 {za zb : Nat} {ha hb : hSt} (ea : ha.2.2 = nI za) (hza : za ≤ 40) (eb : hb.2.2 = nI zb) (hzb : zb ≤ 40) (x1 x3 x4 : Int32) :
    (∃ f g n : Nat, x1 = nI f ∧ x3 = nI g ∧ x4 = nI n ∧ f + n ≤ za ∧ g + n ≤ zb ∧ v_56_59 x1 x4 ha = 1 ∧ v_56_57 x3 x4 hb = 1 ∧ gCmp .lt x4 0 = false ∧ gCmp .lt x1 0 = false ∧ gCmp .lt x3 0 = false ∧ gCmp .gt x1 (nI za - x4) = false ∧ gCmp .le x3 (nI zb - x4) = true) ∨
    ((v_56_59 x1 x4 ha = 0 ∨ (v_56_59 x1 x4 ha = 1 ∧ v_56_57 x3 x4 hb = 0)) ∧ (gCmp .lt x4 0 = true ∨ (gCmp .lt x4 0 = false ∧ (gCmp .lt x1 0 = true ∨ (gCmp .lt x1 0 = false ∧ (gCmp .lt x3 0 = true ∨ (gCmp .lt x3 0 = false ∧ (gCmp .gt x1 (nI za - x4) = true ∨ (gCmp .gt x1 (nI za - x4) = false ∧ gCmp .le x3 (nI zb - x4) = false))))))))) := jcp_55_55 ea hza eb hzb x1 x3 x4
theorem jcp_59_59 {za zb : Nat} {ha hb : hSt} (ea : ha.2.2 = nI za) (hza : za ≤ 40) (eb : hb.2.2 = nI zb) (hzb : zb ≤ 40) (x1 x3 x4 : Int32) :
    (∃ f g n : Nat, x1 = nI f ∧ x3 = nI g ∧ x4 = nI n ∧ f + n ≤ za ∧ g + n ≤ zb ∧ v_56_59 x1 x4 ha = 1 ∧ v_56_59 x3 x4 hb = 1 ∧ gCmp .lt x4 0 = false ∧ gCmp .lt x1 0 = false ∧ gCmp .lt x3 0 = false ∧ gCmp .gt x1 (nI za - x4) = false ∧ gCmp .le x3 (nI zb - x4) = true) ∨
    ((v_56_59 x1 x4 ha = 0 ∨ (v_56_59 x1 x4 ha = 1 ∧ v_56_59 x3 x4 hb = 0)) ∧ (gCmp .lt x4 0 = true ∨ (gCmp .lt x4 0 = false ∧ (gCmp .lt x1 0 = true ∨ (gCmp .lt x1 0 = false ∧ (gCmp .lt x3 0 = true ∨ (gCmp .lt x3 0 = false ∧ (gCmp .gt x1 (nI za - x4) = true ∨ (gCmp .gt x1 (nI za - x4) = false ∧ gCmp .le x3 (nI zb - x4) = false))))))))) := jcp_55_55 ea hza eb hzb x1 x3 x4
theorem jcp_59_61 {za zb : Nat} {ha hb : hSt} (ea : ha.2.2 = nI za) (hza : za ≤ 40) (eb : hb.2.2 = nI zb) (hzb : zb ≤ 40) (x1 x3 x4 : Int32) :
    (∃ f g n : Nat, x1 = nI f ∧ x3 = nI g ∧ x4 = nI n ∧ f + n ≤ za ∧ g + n ≤ zb ∧ v_56_59 x1 x4 ha = 1 ∧ v_56_61 x3 x4 hb = 1 ∧ gCmp .lt x4 0 = false ∧ gCmp .lt x1 0 = false ∧ gCmp .lt x3 0 = false ∧ gCmp .gt x1 (nI za - x4) = false ∧ gCmp .le x3 (nI zb - x4) = true) ∨
    ((v_56_59 x1 x4 ha = 0 ∨ (v_56_59 x1 x4 ha = 1 ∧ v_56_61 x3 x4 hb = 0)) ∧ (gCmp .lt x4 0 = true ∨ (gCmp .lt x4 0 = false ∧ (gCmp .lt x1 0 = true ∨ (gCmp .lt x1 0 = false ∧ (gCmp .lt x3 0 = true ∨ (gCmp .lt x3 0 = false ∧ (gCmp .gt x1 (nI za - x4) = true ∨ (gCmp .gt x1 (nI za - x4) = false ∧ gCmp .le x3 (nI zb - x4) = false))))))))) := jcp_55_55 ea hza eb hzb x1 x3 x4
theorem jcp_61_55 {za zb : Nat} {ha hb : hSt} (ea : ha.2.2 = nI za) (hza : za ≤ 40) (eb : hb.2.2 = nI zb) (hzb : zb ≤ 40) (x1 x3 x4 : Int32) :
    (∃ f g n : Nat, x1 = nI f ∧ x3 = nI g ∧ x4 = nI n ∧ f + n ≤ za ∧ g + n ≤ zb ∧ v_56_61 x1 x4 ha = 1 ∧ v_56_55 x3 x4 hb = 1 ∧ gCmp .lt x4 0 = false ∧ gCmp .lt x1 0 = false ∧ gCmp .lt x3 0 = false ∧ gCmp .gt x1 (nI za - x4) = false ∧ gCmp .le x3 (nI zb - x4) = true) ∨
    ((v_56_61 x1 x4 ha = 0 ∨ (v_56_61 x1 x4 ha = 1 ∧ v_56_55 x3 x4 hb = 0)) ∧ (gCmp .lt x4 0 = true ∨ (gCmp .lt x4 0 = false ∧ (gCmp .lt x1 0 = true ∨ (gCmp .lt x1 0 = false ∧ (gCmp .lt x3 0 = true ∨ (gCmp .lt x3 0 = false ∧ (gCmp .gt x1 (nI za - x4) = true ∨ (gCmp .gt x1 (nI za - x4) = false ∧ gCmp .le x3 (nI zb - x4) = false))))))))) := jcp_55_55 ea hza eb hzb x1 x3 x4
theorem jcp_61_57 {za zb : Nat} {ha hb : hSt} (ea : ha.2.2 = nI za) (hza : za ≤ 40) (eb : hb.2.2 = nI zb) (hzb : zb ≤ 40) (x1 x3 x4 : Int32) :
    (∃ f g n : Nat, x1 = nI f ∧ x3 = nI g ∧ x4 = nI n ∧ f + n ≤ za ∧ g + n ≤ zb ∧ v_56_61 x1 x4 ha = 1 ∧ v_56_57 x3 x4 hb = 1 ∧ gCmp .lt x4 0 = false ∧ gCmp .lt x1 0 = false ∧ gCmp .lt x3 0 = false ∧ gCmp .gt x1 (nI za - x4) = false ∧ gCmp .le x3 (nI zb - x4) = true) ∨
    ((v_56_61 x1 x4 ha = 0 ∨ (v_56_61 x1 x4 ha = 1 ∧ v_56_57 x3 x4 hb = 0)) ∧ (gCmp .lt x4 0 = true ∨ (gCmp .lt x4 0 = false ∧ (gCmp .lt x1 0 = true ∨ (gCmp .lt x1 0 = false ∧ (gCmp .lt x3 0 = true ∨ (gCmp .lt x3 0 = false ∧ (gCmp .gt x1 (nI za - x4) = true ∨ (gCmp .gt x1 (nI za - x4) = false ∧ gCmp .le x3 (nI zb - x4) = false))))))))) := jcp_55_55 ea hza eb hzb x1 x3 x4
theorem jcp_61_59 {za zb : Nat} {ha hb : hSt} (ea : ha.2.2 = nI za) (hza : za ≤ 40) (eb : hb.2.2 = nI zb) (hzb : zb ≤ 40) (x1 x3 x4 : Int32) :
    (∃ f g n : Nat, x1 = nI f ∧ x3 = nI g ∧ x4 = nI n ∧ f + n ≤ za ∧ g + n ≤ zb ∧ v_56_61 x1 x4 ha = 1 ∧ v_56_59 x3 x4 hb = 1 ∧ gCmp .lt x4 0 = false ∧ gCmp .lt x1 0 = false ∧ gCmp .lt x3 0 = false ∧ gCmp .gt x1 (nI za - x4) = false ∧ gCmp .le x3 (nI zb - x4) = true) ∨
    ((v_56_61 x1 x4 ha = 0 ∨ (v_56_61 x1 x4 ha = 1 ∧ v_56_59 x3 x4 hb = 0)) ∧ (gCmp .lt x4 0 = true ∨ (gCmp .lt x4 0 = false ∧ (gCmp .lt x1 0 = true ∨ (gCmp .lt x1 0 = false ∧ (gCmp .lt x3 0 = true ∨ (gCmp .lt x3 0 = false ∧ (gCmp .gt x1 (nI za - x4) = true ∨ (gCmp .gt x1 (nI za - x4) = false ∧ gCmp .le x3 (nI zb - x4) = false))))))))) := jcp_55_55 ea hza eb hzb x1 x3 x4
theorem jcp_61_61 {za zb : Nat} {ha hb : hSt} (ea : ha.2.2 = nI za) (hza : za ≤ 40) (eb : hb.2.2 = nI zb) (hzb : zb ≤ 40) (x1 x3 x4 : Int32) :
    (∃ f g n : Nat, x1 = nI f ∧ x3 = nI g ∧ x4 = nI n ∧ f + n ≤ za ∧ g + n ≤ zb ∧ v_56_61 x1 x4 ha = 1 ∧ v_56_61 x3 x4 hb = 1 ∧ gCmp .lt x4 0 = false ∧ gCmp .lt x1 0 = false ∧ gCmp .lt x3 0 = false ∧ gCmp .gt x1 (nI za - x4) = false ∧ gCmp .le x3 (nI zb - x4) = true) ∨
    ((v_56_61 x1 x4 ha = 0 ∨ (v_56_61 x1 x4 ha = 1 ∧ v_56_61 x3 x4 hb = 0)) ∧ (gCmp .lt x4 0 = true ∨ (gCmp .lt x4 0 = false ∧ (gCmp .lt x1 0 = true ∨ (gCmp .lt x1 0 = false ∧ (gCmp .lt x3 0 = true ∨ (gCmp .lt x3 0 = false ∧ (gCmp .gt x1 (nI za - x4) = true ∨ (gCmp .gt x1 (nI za - x4) = false ∧ gCmp .le x3 (nI zb - x4) = false))))))))) := jcp_55_55 ea hza eb hzb x1 x3 x4
/-- copy -/
theorem q_copy {N : Nat} (hN : 4000 ≤ N) {h0 h1 h2 h3 : hSt} {wi si ce ca fi fo : Nat → Int32} (x0 x1 x2 x3 x4 : Int32) (hH : jH4 h0 h1 h2 h3 wi si ce) (hF : jF fi fo) : ∃ qc qm, me_103_0 N x0 x1 x2 x3 x4 h0 h1 h2 h3 fi = some qc ∧ me_215_63 N x0 x1 x2 x3 x4 fo wi si ce ca = some qm ∧ qc.1 = qm.1 ∧ jH4 qc.2.1 qc.2.2.1 qc.2.2.2.1 qc.2.2.2.2.1 wi si qm.2.2.1 ∧ jF qc.2.2.2.2.2 qm.2.1 := by
  unfold me_103_0 me_215_63
  rcases jx0 x0 with ⟨e1, e2⟩ | ⟨e1, e2, e3⟩ | ⟨q, hq, rfl, e1, e2, e3⟩
  · rw [e1, e2, je0]
    cases gCmp .lt x2 0 <;> cases gCmp .lt x2 4 <;> cases hEq x2 0 <;> cases hEq x2 1 <;> cases hEq x2 2 <;> exact ⟨_, _, rfl, rfl, rfl, hH, jF_no 0 hF (by decide)⟩
  · rw [e1, e2, e3, je0]
    cases gCmp .lt x2 0 <;> cases gCmp .lt x2 4 <;> cases hEq x2 0 <;> cases hEq x2 1 <;> cases hEq x2 2 <;> exact ⟨_, _, rfl, rfl, rfl, hH, jF_no 0 hF (by decide)⟩
  · rw [e1, e2, e3, je1]
    rcases jx0 x2 with ⟨f1, f2⟩ | ⟨f1, f2, f3⟩ | ⟨r, hr, rfl, f1, f2, f3⟩
    · rw [f1, f2, jn0]
      simp only [cond_true, cond_false]
      rcases (show q = 0 ∨ q = 1 ∨ q = 2 ∨ q = 3 by omega) with rfl | rfl | rfl | rfl <;> exact ⟨_, _, rfl, rfl, rfl, hH, jF_no 0 hF (by decide)⟩
    · rw [f1, f2, f3, jn0]
      simp only [cond_true, cond_false]
      rcases (show q = 0 ∨ q = 1 ∨ q = 2 ∨ q = 3 by omega) with rfl | rfl | rfl | rfl <;> exact ⟨_, _, rfl, rfl, rfl, hH, jF_no 0 hF (by decide)⟩
    · rw [f1, f2, f3, jn1, jin (show q < 4 by omega) (by decide), jin (show r < 4 by omega) (by decide), jcl (show q < 2 ^ 31 by omega), jcl (show r < 2 ^ 31 by omega)]
      simp only [cond_true, cond_false]
      clear e1 e2 e3 f1 f2 f3
      rcases (show q = 0 ∨ q = 1 ∨ q = 2 ∨ q = 3 by omega) with rfl | rfl | rfl | rfl
      · rw [show hEq (nI 0) 0 = true from by decide]
        simp only [cond_true, cond_false]
        rcases (show r = 0 ∨ r = 1 ∨ r = 2 ∨ r = 3 by omega) with rfl | rfl | rfl | rfl
        · rw [show hEq (nI 0) 0 = true from by decide]
          simp only [cond_true, cond_false]
          unfold v_53_55
          obtain ⟨za, hza, ea⟩ := jR_u 40 hH.1.2.2.2 (by decide)
          rw [hH.1.1, hH.1.2.1, ea, show gCmp .ne h0.2.1 0 = !gCmp .eq h0.2.1 0 from rfl]
          cases gCmp .eq h0.2.1 0
          · cases gCmp .eq h0.2.1 h0.2.1
            · exact ⟨_, _, rfl, rfl, rfl, hH, jF_no 2 hF (by decide)⟩
            · rcases jcp_55_55 ea hza ea hza x1 x3 x4 with ⟨f, g, n, rfl, rfl, rfl, k1, k2, k3, k4, k5, k6, k7, k8, k9⟩ | ⟨k1, k2⟩
              · obtain ⟨ca', m1, m2⟩ := l_115 (N := N) (q := 0) (f := f) (c := n) (ce := ce) (by decide) (by omega) n 0 N ca (by omega) (by omega) (fun j hj => absurd hj (by omega))
                obtain ⟨ce', m3, m4⟩ := l_152 (N := N) (q := 0) (g := g) (c := n) (ca := ca') (ce0 := ce) (by decide) (by omega) n 0 N ce (by omega) (by omega) (fun j => by rw [if_neg (by omega)])
                rw [k3, k4, k5, k6, k7, k8, k9, jn1, je1, show lp_215_63_115 N (nI 0) (nI f) (nI n) ce N 0 ca = _ from m1]
                simp only [cond_true, cond_false, Option.bind_some]
                rw [show lp_215_63_152 N (nI 0) (nI g) (nI n) ca' N 0 ce = _ from m3]
                rw [show decide (nI f < 0) = false from decide_eq_false (nI_pos (by omega)), show decide (nI g < 0) = false from decide_eq_false (nI_pos (by omega)), show decide (nI n < 0) = false from decide_eq_false (nI_pos (by omega)), jcl (show f < 2 ^ 31 by omega), jcl (show g < 2 ^ 31 by omega), jcl (show n < 2 ^ 31 by omega), jble (show f + n ≤ 40 by omega), jble (show g + n ≤ 40 by omega)]
                exact ⟨_, _, rfl, rfl, rfl, ⟨jH_cpy hH.1 hH.1 (by decide) (by omega) (by omega) m2 m4, jH_cpyo hH.2.1 (by decide) (by omega) m4, jH_cpyo hH.2.2.1 (by decide) (by omega) m4, jH_cpyo hH.2.2.2 (by decide) (by omega) m4⟩, hF⟩
              · rcases k1 with k1 | ⟨k1, k3⟩
                · rw [k1, je0]
                  rcases k2 with k2 | ⟨k4, k2 | ⟨k5, k2 | ⟨k6, k2 | ⟨k7, k2⟩⟩⟩⟩
                  · rw [k2]; exact ⟨_, _, rfl, rfl, rfl, hH, jF_no 0 hF (by decide)⟩
                  · rw [k4, k2]; exact ⟨_, _, rfl, rfl, rfl, hH, jF_no 0 hF (by decide)⟩
                  · rw [k4, k5, k2]; exact ⟨_, _, rfl, rfl, rfl, hH, jF_no 0 hF (by decide)⟩
                  · rw [k4, k5, k6, k2]; exact ⟨_, _, rfl, rfl, rfl, hH, jF_no 0 hF (by decide)⟩
                  · rw [k4, k5, k6, k7, k2]; exact ⟨_, _, rfl, rfl, rfl, hH, jF_no 0 hF (by decide)⟩
                · rw [k1, k3, je1, jn0]
                  rcases k2 with k2 | ⟨k4, k2 | ⟨k5, k2 | ⟨k6, k2 | ⟨k7, k2⟩⟩⟩⟩
                  · rw [k2]; exact ⟨_, _, rfl, rfl, rfl, hH, jF_no 0 hF (by decide)⟩
                  · rw [k4, k2]; exact ⟨_, _, rfl, rfl, rfl, hH, jF_no 0 hF (by decide)⟩
                  · rw [k4, k5, k2]; exact ⟨_, _, rfl, rfl, rfl, hH, jF_no 0 hF (by decide)⟩
                  · rw [k4, k5, k6, k2]; exact ⟨_, _, rfl, rfl, rfl, hH, jF_no 0 hF (by decide)⟩
                  · rw [k4, k5, k6, k7, k2]; exact ⟨_, _, rfl, rfl, rfl, hH, jF_no 0 hF (by decide)⟩
          · exact ⟨_, _, rfl, rfl, rfl, hH, jF_no 5 hF (by decide)⟩
        · rw [show hEq (nI 1) 0 = false from by decide, show hEq (nI 1) 1 = true from by decide]
          simp only [cond_true, cond_false]
          unfold v_53_55
          unfold v_53_57
          obtain ⟨za, hza, ea⟩ := jR_u 40 hH.1.2.2.2 (by decide)
          obtain ⟨zb, hzb, eb⟩ := jR_u 40 hH.2.1.2.2.2 (by decide)
          rw [hH.1.1, hH.1.2.1, ea, hH.2.1.1, hH.2.1.2.1, eb, show gCmp .ne h0.2.1 0 = !gCmp .eq h0.2.1 0 from rfl, show gCmp .ne h1.2.1 0 = !gCmp .eq h1.2.1 0 from rfl]
          cases gCmp .eq h0.2.1 0
          · cases gCmp .eq h1.2.1 0
            · cases gCmp .eq h0.2.1 h1.2.1
              · exact ⟨_, _, rfl, rfl, rfl, hH, jF_no 2 hF (by decide)⟩
              · rcases jcp_55_57 ea hza eb hzb x1 x3 x4 with ⟨f, g, n, rfl, rfl, rfl, k1, k2, k3, k4, k5, k6, k7, k8, k9⟩ | ⟨k1, k2⟩
                · obtain ⟨ca', m1, m2⟩ := l_115 (N := N) (q := 0) (f := f) (c := n) (ce := ce) (by decide) (by omega) n 0 N ca (by omega) (by omega) (fun j hj => absurd hj (by omega))
                  obtain ⟨ce', m3, m4⟩ := l_152 (N := N) (q := 1) (g := g) (c := n) (ca := ca') (ce0 := ce) (by decide) (by omega) n 0 N ce (by omega) (by omega) (fun j => by rw [if_neg (by omega)])
                  rw [k3, k4, k5, k6, k7, k8, k9, jn1, je1, show lp_215_63_115 N (nI 0) (nI f) (nI n) ce N 0 ca = _ from m1]
                  simp only [cond_true, cond_false, Option.bind_some]
                  rw [show lp_215_63_152 N (nI 1) (nI g) (nI n) ca' N 0 ce = _ from m3]
                  rw [show decide (nI f < 0) = false from decide_eq_false (nI_pos (by omega)), show decide (nI g < 0) = false from decide_eq_false (nI_pos (by omega)), show decide (nI n < 0) = false from decide_eq_false (nI_pos (by omega)), jcl (show f < 2 ^ 31 by omega), jcl (show g < 2 ^ 31 by omega), jcl (show n < 2 ^ 31 by omega), jble (show f + n ≤ 40 by omega), jble (show g + n ≤ 40 by omega)]
                  exact ⟨_, _, rfl, rfl, rfl, ⟨jH_cpyo hH.1 (by decide) (by omega) m4, jH_cpy hH.1 hH.2.1 (by decide) (by omega) (by omega) m2 m4, jH_cpyo hH.2.2.1 (by decide) (by omega) m4, jH_cpyo hH.2.2.2 (by decide) (by omega) m4⟩, hF⟩
                · rcases k1 with k1 | ⟨k1, k3⟩
                  · rw [k1, je0]
                    rcases k2 with k2 | ⟨k4, k2 | ⟨k5, k2 | ⟨k6, k2 | ⟨k7, k2⟩⟩⟩⟩
                    · rw [k2]; exact ⟨_, _, rfl, rfl, rfl, hH, jF_no 0 hF (by decide)⟩
                    · rw [k4, k2]; exact ⟨_, _, rfl, rfl, rfl, hH, jF_no 0 hF (by decide)⟩
                    · rw [k4, k5, k2]; exact ⟨_, _, rfl, rfl, rfl, hH, jF_no 0 hF (by decide)⟩
                    · rw [k4, k5, k6, k2]; exact ⟨_, _, rfl, rfl, rfl, hH, jF_no 0 hF (by decide)⟩
                    · rw [k4, k5, k6, k7, k2]; exact ⟨_, _, rfl, rfl, rfl, hH, jF_no 0 hF (by decide)⟩
                  · rw [k1, k3, je1, jn0]
                    rcases k2 with k2 | ⟨k4, k2 | ⟨k5, k2 | ⟨k6, k2 | ⟨k7, k2⟩⟩⟩⟩
                    · rw [k2]; exact ⟨_, _, rfl, rfl, rfl, hH, jF_no 0 hF (by decide)⟩
                    · rw [k4, k2]; exact ⟨_, _, rfl, rfl, rfl, hH, jF_no 0 hF (by decide)⟩
                    · rw [k4, k5, k2]; exact ⟨_, _, rfl, rfl, rfl, hH, jF_no 0 hF (by decide)⟩
                    · rw [k4, k5, k6, k2]; exact ⟨_, _, rfl, rfl, rfl, hH, jF_no 0 hF (by decide)⟩
                    · rw [k4, k5, k6, k7, k2]; exact ⟨_, _, rfl, rfl, rfl, hH, jF_no 0 hF (by decide)⟩
            · exact ⟨_, _, rfl, rfl, rfl, hH, jF_no 5 hF (by decide)⟩
          · cases gCmp .eq h1.2.1 0
            · exact ⟨_, _, rfl, rfl, rfl, hH, jF_no 5 hF (by decide)⟩
            · exact ⟨_, _, rfl, rfl, rfl, hH, jF_no 5 hF (by decide)⟩
        · rw [show hEq (nI 2) 0 = false from by decide, show hEq (nI 2) 1 = false from by decide, show hEq (nI 2) 2 = true from by decide]
          simp only [cond_true, cond_false]
          unfold v_53_55
          unfold v_53_59
          obtain ⟨za, hza, ea⟩ := jR_u 40 hH.1.2.2.2 (by decide)
          obtain ⟨zb, hzb, eb⟩ := jR_u 40 hH.2.2.1.2.2.2 (by decide)
          rw [hH.1.1, hH.1.2.1, ea, hH.2.2.1.1, hH.2.2.1.2.1, eb, show gCmp .ne h0.2.1 0 = !gCmp .eq h0.2.1 0 from rfl, show gCmp .ne h2.2.1 0 = !gCmp .eq h2.2.1 0 from rfl]
          cases gCmp .eq h0.2.1 0
          · cases gCmp .eq h2.2.1 0
            · cases gCmp .eq h0.2.1 h2.2.1
              · exact ⟨_, _, rfl, rfl, rfl, hH, jF_no 2 hF (by decide)⟩
              · rcases jcp_55_59 ea hza eb hzb x1 x3 x4 with ⟨f, g, n, rfl, rfl, rfl, k1, k2, k3, k4, k5, k6, k7, k8, k9⟩ | ⟨k1, k2⟩
                · obtain ⟨ca', m1, m2⟩ := l_115 (N := N) (q := 0) (f := f) (c := n) (ce := ce) (by decide) (by omega) n 0 N ca (by omega) (by omega) (fun j hj => absurd hj (by omega))
                  obtain ⟨ce', m3, m4⟩ := l_152 (N := N) (q := 2) (g := g) (c := n) (ca := ca') (ce0 := ce) (by decide) (by omega) n 0 N ce (by omega) (by omega) (fun j => by rw [if_neg (by omega)])
                  rw [k3, k4, k5, k6, k7, k8, k9, jn1, je1, show lp_215_63_115 N (nI 0) (nI f) (nI n) ce N 0 ca = _ from m1]
                  simp only [cond_true, cond_false, Option.bind_some]
                  rw [show lp_215_63_152 N (nI 2) (nI g) (nI n) ca' N 0 ce = _ from m3]
                  rw [show decide (nI f < 0) = false from decide_eq_false (nI_pos (by omega)), show decide (nI g < 0) = false from decide_eq_false (nI_pos (by omega)), show decide (nI n < 0) = false from decide_eq_false (nI_pos (by omega)), jcl (show f < 2 ^ 31 by omega), jcl (show g < 2 ^ 31 by omega), jcl (show n < 2 ^ 31 by omega), jble (show f + n ≤ 40 by omega), jble (show g + n ≤ 40 by omega)]
                  exact ⟨_, _, rfl, rfl, rfl, ⟨jH_cpyo hH.1 (by decide) (by omega) m4, jH_cpyo hH.2.1 (by decide) (by omega) m4, jH_cpy hH.1 hH.2.2.1 (by decide) (by omega) (by omega) m2 m4, jH_cpyo hH.2.2.2 (by decide) (by omega) m4⟩, hF⟩
                · rcases k1 with k1 | ⟨k1, k3⟩
                  · rw [k1, je0]
                    rcases k2 with k2 | ⟨k4, k2 | ⟨k5, k2 | ⟨k6, k2 | ⟨k7, k2⟩⟩⟩⟩
                    · rw [k2]; exact ⟨_, _, rfl, rfl, rfl, hH, jF_no 0 hF (by decide)⟩
                    · rw [k4, k2]; exact ⟨_, _, rfl, rfl, rfl, hH, jF_no 0 hF (by decide)⟩
                    · rw [k4, k5, k2]; exact ⟨_, _, rfl, rfl, rfl, hH, jF_no 0 hF (by decide)⟩
                    · rw [k4, k5, k6, k2]; exact ⟨_, _, rfl, rfl, rfl, hH, jF_no 0 hF (by decide)⟩
                    · rw [k4, k5, k6, k7, k2]; exact ⟨_, _, rfl, rfl, rfl, hH, jF_no 0 hF (by decide)⟩
                  · rw [k1, k3, je1, jn0]
                    rcases k2 with k2 | ⟨k4, k2 | ⟨k5, k2 | ⟨k6, k2 | ⟨k7, k2⟩⟩⟩⟩
                    · rw [k2]; exact ⟨_, _, rfl, rfl, rfl, hH, jF_no 0 hF (by decide)⟩
                    · rw [k4, k2]; exact ⟨_, _, rfl, rfl, rfl, hH, jF_no 0 hF (by decide)⟩
                    · rw [k4, k5, k2]; exact ⟨_, _, rfl, rfl, rfl, hH, jF_no 0 hF (by decide)⟩
                    · rw [k4, k5, k6, k2]; exact ⟨_, _, rfl, rfl, rfl, hH, jF_no 0 hF (by decide)⟩
                    · rw [k4, k5, k6, k7, k2]; exact ⟨_, _, rfl, rfl, rfl, hH, jF_no 0 hF (by decide)⟩
            · exact ⟨_, _, rfl, rfl, rfl, hH, jF_no 5 hF (by decide)⟩
          · cases gCmp .eq h2.2.1 0
            · exact ⟨_, _, rfl, rfl, rfl, hH, jF_no 5 hF (by decide)⟩
            · exact ⟨_, _, rfl, rfl, rfl, hH, jF_no 5 hF (by decide)⟩
        · rw [show hEq (nI 3) 0 = false from by decide, show hEq (nI 3) 1 = false from by decide, show hEq (nI 3) 2 = false from by decide]
          simp only [cond_true, cond_false]
          unfold v_53_55
          unfold v_53_61
          obtain ⟨za, hza, ea⟩ := jR_u 40 hH.1.2.2.2 (by decide)
          obtain ⟨zb, hzb, eb⟩ := jR_u 40 hH.2.2.2.2.2.2 (by decide)
          rw [hH.1.1, hH.1.2.1, ea, hH.2.2.2.1, hH.2.2.2.2.1, eb, show gCmp .ne h0.2.1 0 = !gCmp .eq h0.2.1 0 from rfl, show gCmp .ne h3.2.1 0 = !gCmp .eq h3.2.1 0 from rfl]
          cases gCmp .eq h0.2.1 0
          · cases gCmp .eq h3.2.1 0
            · cases gCmp .eq h0.2.1 h3.2.1
              · exact ⟨_, _, rfl, rfl, rfl, hH, jF_no 2 hF (by decide)⟩
              · rcases jcp_55_61 ea hza eb hzb x1 x3 x4 with ⟨f, g, n, rfl, rfl, rfl, k1, k2, k3, k4, k5, k6, k7, k8, k9⟩ | ⟨k1, k2⟩
                · obtain ⟨ca', m1, m2⟩ := l_115 (N := N) (q := 0) (f := f) (c := n) (ce := ce) (by decide) (by omega) n 0 N ca (by omega) (by omega) (fun j hj => absurd hj (by omega))
                  obtain ⟨ce', m3, m4⟩ := l_152 (N := N) (q := 3) (g := g) (c := n) (ca := ca') (ce0 := ce) (by decide) (by omega) n 0 N ce (by omega) (by omega) (fun j => by rw [if_neg (by omega)])
                  rw [k3, k4, k5, k6, k7, k8, k9, jn1, je1, show lp_215_63_115 N (nI 0) (nI f) (nI n) ce N 0 ca = _ from m1]
                  simp only [cond_true, cond_false, Option.bind_some]
                  rw [show lp_215_63_152 N (nI 3) (nI g) (nI n) ca' N 0 ce = _ from m3]
                  rw [show decide (nI f < 0) = false from decide_eq_false (nI_pos (by omega)), show decide (nI g < 0) = false from decide_eq_false (nI_pos (by omega)), show decide (nI n < 0) = false from decide_eq_false (nI_pos (by omega)), jcl (show f < 2 ^ 31 by omega), jcl (show g < 2 ^ 31 by omega), jcl (show n < 2 ^ 31 by omega), jble (show f + n ≤ 40 by omega), jble (show g + n ≤ 40 by omega)]
                  exact ⟨_, _, rfl, rfl, rfl, ⟨jH_cpyo hH.1 (by decide) (by omega) m4, jH_cpyo hH.2.1 (by decide) (by omega) m4, jH_cpyo hH.2.2.1 (by decide) (by omega) m4, jH_cpy hH.1 hH.2.2.2 (by decide) (by omega) (by omega) m2 m4⟩, hF⟩
                · rcases k1 with k1 | ⟨k1, k3⟩
                  · rw [k1, je0]
                    rcases k2 with k2 | ⟨k4, k2 | ⟨k5, k2 | ⟨k6, k2 | ⟨k7, k2⟩⟩⟩⟩
                    · rw [k2]; exact ⟨_, _, rfl, rfl, rfl, hH, jF_no 0 hF (by decide)⟩
                    · rw [k4, k2]; exact ⟨_, _, rfl, rfl, rfl, hH, jF_no 0 hF (by decide)⟩
                    · rw [k4, k5, k2]; exact ⟨_, _, rfl, rfl, rfl, hH, jF_no 0 hF (by decide)⟩
                    · rw [k4, k5, k6, k2]; exact ⟨_, _, rfl, rfl, rfl, hH, jF_no 0 hF (by decide)⟩
                    · rw [k4, k5, k6, k7, k2]; exact ⟨_, _, rfl, rfl, rfl, hH, jF_no 0 hF (by decide)⟩
                  · rw [k1, k3, je1, jn0]
                    rcases k2 with k2 | ⟨k4, k2 | ⟨k5, k2 | ⟨k6, k2 | ⟨k7, k2⟩⟩⟩⟩
                    · rw [k2]; exact ⟨_, _, rfl, rfl, rfl, hH, jF_no 0 hF (by decide)⟩
                    · rw [k4, k2]; exact ⟨_, _, rfl, rfl, rfl, hH, jF_no 0 hF (by decide)⟩
                    · rw [k4, k5, k2]; exact ⟨_, _, rfl, rfl, rfl, hH, jF_no 0 hF (by decide)⟩
                    · rw [k4, k5, k6, k2]; exact ⟨_, _, rfl, rfl, rfl, hH, jF_no 0 hF (by decide)⟩
                    · rw [k4, k5, k6, k7, k2]; exact ⟨_, _, rfl, rfl, rfl, hH, jF_no 0 hF (by decide)⟩
            · exact ⟨_, _, rfl, rfl, rfl, hH, jF_no 5 hF (by decide)⟩
          · cases gCmp .eq h3.2.1 0
            · exact ⟨_, _, rfl, rfl, rfl, hH, jF_no 5 hF (by decide)⟩
            · exact ⟨_, _, rfl, rfl, rfl, hH, jF_no 5 hF (by decide)⟩
      · rw [show hEq (nI 1) 0 = false from by decide, show hEq (nI 1) 1 = true from by decide]
        simp only [cond_true, cond_false]
        rcases (show r = 0 ∨ r = 1 ∨ r = 2 ∨ r = 3 by omega) with rfl | rfl | rfl | rfl
        · rw [show hEq (nI 0) 0 = true from by decide]
          simp only [cond_true, cond_false]
          unfold v_53_57
          unfold v_53_55
          obtain ⟨za, hza, ea⟩ := jR_u 40 hH.2.1.2.2.2 (by decide)
          obtain ⟨zb, hzb, eb⟩ := jR_u 40 hH.1.2.2.2 (by decide)
          rw [hH.2.1.1, hH.2.1.2.1, ea, hH.1.1, hH.1.2.1, eb, show gCmp .ne h1.2.1 0 = !gCmp .eq h1.2.1 0 from rfl, show gCmp .ne h0.2.1 0 = !gCmp .eq h0.2.1 0 from rfl]
          cases gCmp .eq h1.2.1 0
          · cases gCmp .eq h0.2.1 0
            · cases gCmp .eq h1.2.1 h0.2.1
              · exact ⟨_, _, rfl, rfl, rfl, hH, jF_no 2 hF (by decide)⟩
              · rcases jcp_57_55 ea hza eb hzb x1 x3 x4 with ⟨f, g, n, rfl, rfl, rfl, k1, k2, k3, k4, k5, k6, k7, k8, k9⟩ | ⟨k1, k2⟩
                · obtain ⟨ca', m1, m2⟩ := l_115 (N := N) (q := 1) (f := f) (c := n) (ce := ce) (by decide) (by omega) n 0 N ca (by omega) (by omega) (fun j hj => absurd hj (by omega))
                  obtain ⟨ce', m3, m4⟩ := l_152 (N := N) (q := 0) (g := g) (c := n) (ca := ca') (ce0 := ce) (by decide) (by omega) n 0 N ce (by omega) (by omega) (fun j => by rw [if_neg (by omega)])
                  rw [k3, k4, k5, k6, k7, k8, k9, jn1, je1, show lp_215_63_115 N (nI 1) (nI f) (nI n) ce N 0 ca = _ from m1]
                  simp only [cond_true, cond_false, Option.bind_some]
                  rw [show lp_215_63_152 N (nI 0) (nI g) (nI n) ca' N 0 ce = _ from m3]
                  rw [show decide (nI f < 0) = false from decide_eq_false (nI_pos (by omega)), show decide (nI g < 0) = false from decide_eq_false (nI_pos (by omega)), show decide (nI n < 0) = false from decide_eq_false (nI_pos (by omega)), jcl (show f < 2 ^ 31 by omega), jcl (show g < 2 ^ 31 by omega), jcl (show n < 2 ^ 31 by omega), jble (show f + n ≤ 40 by omega), jble (show g + n ≤ 40 by omega)]
                  exact ⟨_, _, rfl, rfl, rfl, ⟨jH_cpy hH.2.1 hH.1 (by decide) (by omega) (by omega) m2 m4, jH_cpyo hH.2.1 (by decide) (by omega) m4, jH_cpyo hH.2.2.1 (by decide) (by omega) m4, jH_cpyo hH.2.2.2 (by decide) (by omega) m4⟩, hF⟩
                · rcases k1 with k1 | ⟨k1, k3⟩
                  · rw [k1, je0]
                    rcases k2 with k2 | ⟨k4, k2 | ⟨k5, k2 | ⟨k6, k2 | ⟨k7, k2⟩⟩⟩⟩
                    · rw [k2]; exact ⟨_, _, rfl, rfl, rfl, hH, jF_no 0 hF (by decide)⟩
                    · rw [k4, k2]; exact ⟨_, _, rfl, rfl, rfl, hH, jF_no 0 hF (by decide)⟩
                    · rw [k4, k5, k2]; exact ⟨_, _, rfl, rfl, rfl, hH, jF_no 0 hF (by decide)⟩
                    · rw [k4, k5, k6, k2]; exact ⟨_, _, rfl, rfl, rfl, hH, jF_no 0 hF (by decide)⟩
                    · rw [k4, k5, k6, k7, k2]; exact ⟨_, _, rfl, rfl, rfl, hH, jF_no 0 hF (by decide)⟩
                  · rw [k1, k3, je1, jn0]
                    rcases k2 with k2 | ⟨k4, k2 | ⟨k5, k2 | ⟨k6, k2 | ⟨k7, k2⟩⟩⟩⟩
                    · rw [k2]; exact ⟨_, _, rfl, rfl, rfl, hH, jF_no 0 hF (by decide)⟩
                    · rw [k4, k2]; exact ⟨_, _, rfl, rfl, rfl, hH, jF_no 0 hF (by decide)⟩
                    · rw [k4, k5, k2]; exact ⟨_, _, rfl, rfl, rfl, hH, jF_no 0 hF (by decide)⟩
                    · rw [k4, k5, k6, k2]; exact ⟨_, _, rfl, rfl, rfl, hH, jF_no 0 hF (by decide)⟩
                    · rw [k4, k5, k6, k7, k2]; exact ⟨_, _, rfl, rfl, rfl, hH, jF_no 0 hF (by decide)⟩
            · exact ⟨_, _, rfl, rfl, rfl, hH, jF_no 5 hF (by decide)⟩
          · cases gCmp .eq h0.2.1 0
            · exact ⟨_, _, rfl, rfl, rfl, hH, jF_no 5 hF (by decide)⟩
            · exact ⟨_, _, rfl, rfl, rfl, hH, jF_no 5 hF (by decide)⟩
        · rw [show hEq (nI 1) 0 = false from by decide, show hEq (nI 1) 1 = true from by decide]
          simp only [cond_true, cond_false]
          unfold v_53_57
          obtain ⟨za, hza, ea⟩ := jR_u 40 hH.2.1.2.2.2 (by decide)
          rw [hH.2.1.1, hH.2.1.2.1, ea, show gCmp .ne h1.2.1 0 = !gCmp .eq h1.2.1 0 from rfl]
          cases gCmp .eq h1.2.1 0
          · cases gCmp .eq h1.2.1 h1.2.1
            · exact ⟨_, _, rfl, rfl, rfl, hH, jF_no 2 hF (by decide)⟩
            · rcases jcp_57_57 ea hza ea hza x1 x3 x4 with ⟨f, g, n, rfl, rfl, rfl, k1, k2, k3, k4, k5, k6, k7, k8, k9⟩ | ⟨k1, k2⟩
              · obtain ⟨ca', m1, m2⟩ := l_115 (N := N) (q := 1) (f := f) (c := n) (ce := ce) (by decide) (by omega) n 0 N ca (by omega) (by omega) (fun j hj => absurd hj (by omega))
                obtain ⟨ce', m3, m4⟩ := l_152 (N := N) (q := 1) (g := g) (c := n) (ca := ca') (ce0 := ce) (by decide) (by omega) n 0 N ce (by omega) (by omega) (fun j => by rw [if_neg (by omega)])
                rw [k3, k4, k5, k6, k7, k8, k9, jn1, je1, show lp_215_63_115 N (nI 1) (nI f) (nI n) ce N 0 ca = _ from m1]
                simp only [cond_true, cond_false, Option.bind_some]
                rw [show lp_215_63_152 N (nI 1) (nI g) (nI n) ca' N 0 ce = _ from m3]
                rw [show decide (nI f < 0) = false from decide_eq_false (nI_pos (by omega)), show decide (nI g < 0) = false from decide_eq_false (nI_pos (by omega)), show decide (nI n < 0) = false from decide_eq_false (nI_pos (by omega)), jcl (show f < 2 ^ 31 by omega), jcl (show g < 2 ^ 31 by omega), jcl (show n < 2 ^ 31 by omega), jble (show f + n ≤ 40 by omega), jble (show g + n ≤ 40 by omega)]
                exact ⟨_, _, rfl, rfl, rfl, ⟨jH_cpyo hH.1 (by decide) (by omega) m4, jH_cpy hH.2.1 hH.2.1 (by decide) (by omega) (by omega) m2 m4, jH_cpyo hH.2.2.1 (by decide) (by omega) m4, jH_cpyo hH.2.2.2 (by decide) (by omega) m4⟩, hF⟩
              · rcases k1 with k1 | ⟨k1, k3⟩
                · rw [k1, je0]
                  rcases k2 with k2 | ⟨k4, k2 | ⟨k5, k2 | ⟨k6, k2 | ⟨k7, k2⟩⟩⟩⟩
                  · rw [k2]; exact ⟨_, _, rfl, rfl, rfl, hH, jF_no 0 hF (by decide)⟩
                  · rw [k4, k2]; exact ⟨_, _, rfl, rfl, rfl, hH, jF_no 0 hF (by decide)⟩
                  · rw [k4, k5, k2]; exact ⟨_, _, rfl, rfl, rfl, hH, jF_no 0 hF (by decide)⟩
                  · rw [k4, k5, k6, k2]; exact ⟨_, _, rfl, rfl, rfl, hH, jF_no 0 hF (by decide)⟩
                  · rw [k4, k5, k6, k7, k2]; exact ⟨_, _, rfl, rfl, rfl, hH, jF_no 0 hF (by decide)⟩
                · rw [k1, k3, je1, jn0]
                  rcases k2 with k2 | ⟨k4, k2 | ⟨k5, k2 | ⟨k6, k2 | ⟨k7, k2⟩⟩⟩⟩
                  · rw [k2]; exact ⟨_, _, rfl, rfl, rfl, hH, jF_no 0 hF (by decide)⟩
                  · rw [k4, k2]; exact ⟨_, _, rfl, rfl, rfl, hH, jF_no 0 hF (by decide)⟩
                  · rw [k4, k5, k2]; exact ⟨_, _, rfl, rfl, rfl, hH, jF_no 0 hF (by decide)⟩
                  · rw [k4, k5, k6, k2]; exact ⟨_, _, rfl, rfl, rfl, hH, jF_no 0 hF (by decide)⟩
                  · rw [k4, k5, k6, k7, k2]; exact ⟨_, _, rfl, rfl, rfl, hH, jF_no 0 hF (by decide)⟩
          · exact ⟨_, _, rfl, rfl, rfl, hH, jF_no 5 hF (by decide)⟩
        · rw [show hEq (nI 2) 0 = false from by decide, show hEq (nI 2) 1 = false from by decide, show hEq (nI 2) 2 = true from by decide]
          simp only [cond_true, cond_false]
          unfold v_53_57
          unfold v_53_59
          obtain ⟨za, hza, ea⟩ := jR_u 40 hH.2.1.2.2.2 (by decide)
          obtain ⟨zb, hzb, eb⟩ := jR_u 40 hH.2.2.1.2.2.2 (by decide)
          rw [hH.2.1.1, hH.2.1.2.1, ea, hH.2.2.1.1, hH.2.2.1.2.1, eb, show gCmp .ne h1.2.1 0 = !gCmp .eq h1.2.1 0 from rfl, show gCmp .ne h2.2.1 0 = !gCmp .eq h2.2.1 0 from rfl]
          cases gCmp .eq h1.2.1 0
          · cases gCmp .eq h2.2.1 0
            · cases gCmp .eq h1.2.1 h2.2.1
              · exact ⟨_, _, rfl, rfl, rfl, hH, jF_no 2 hF (by decide)⟩
              · rcases jcp_57_59 ea hza eb hzb x1 x3 x4 with ⟨f, g, n, rfl, rfl, rfl, k1, k2, k3, k4, k5, k6, k7, k8, k9⟩ | ⟨k1, k2⟩
                · obtain ⟨ca', m1, m2⟩ := l_115 (N := N) (q := 1) (f := f) (c := n) (ce := ce) (by decide) (by omega) n 0 N ca (by omega) (by omega) (fun j hj => absurd hj (by omega))
                  obtain ⟨ce', m3, m4⟩ := l_152 (N := N) (q := 2) (g := g) (c := n) (ca := ca') (ce0 := ce) (by decide) (by omega) n 0 N ce (by omega) (by omega) (fun j => by rw [if_neg (by omega)])
                  rw [k3, k4, k5, k6, k7, k8, k9, jn1, je1, show lp_215_63_115 N (nI 1) (nI f) (nI n) ce N 0 ca = _ from m1]
                  simp only [cond_true, cond_false, Option.bind_some]
                  rw [show lp_215_63_152 N (nI 2) (nI g) (nI n) ca' N 0 ce = _ from m3]
                  rw [show decide (nI f < 0) = false from decide_eq_false (nI_pos (by omega)), show decide (nI g < 0) = false from decide_eq_false (nI_pos (by omega)), show decide (nI n < 0) = false from decide_eq_false (nI_pos (by omega)), jcl (show f < 2 ^ 31 by omega), jcl (show g < 2 ^ 31 by omega), jcl (show n < 2 ^ 31 by omega), jble (show f + n ≤ 40 by omega), jble (show g + n ≤ 40 by omega)]
                  exact ⟨_, _, rfl, rfl, rfl, ⟨jH_cpyo hH.1 (by decide) (by omega) m4, jH_cpyo hH.2.1 (by decide) (by omega) m4, jH_cpy hH.2.1 hH.2.2.1 (by decide) (by omega) (by omega) m2 m4, jH_cpyo hH.2.2.2 (by decide) (by omega) m4⟩, hF⟩
                · rcases k1 with k1 | ⟨k1, k3⟩
                  · rw [k1, je0]
                    rcases k2 with k2 | ⟨k4, k2 | ⟨k5, k2 | ⟨k6, k2 | ⟨k7, k2⟩⟩⟩⟩
                    · rw [k2]; exact ⟨_, _, rfl, rfl, rfl, hH, jF_no 0 hF (by decide)⟩
                    · rw [k4, k2]; exact ⟨_, _, rfl, rfl, rfl, hH, jF_no 0 hF (by decide)⟩
                    · rw [k4, k5, k2]; exact ⟨_, _, rfl, rfl, rfl, hH, jF_no 0 hF (by decide)⟩
                    · rw [k4, k5, k6, k2]; exact ⟨_, _, rfl, rfl, rfl, hH, jF_no 0 hF (by decide)⟩
                    · rw [k4, k5, k6, k7, k2]; exact ⟨_, _, rfl, rfl, rfl, hH, jF_no 0 hF (by decide)⟩
                  · rw [k1, k3, je1, jn0]
                    rcases k2 with k2 | ⟨k4, k2 | ⟨k5, k2 | ⟨k6, k2 | ⟨k7, k2⟩⟩⟩⟩
                    · rw [k2]; exact ⟨_, _, rfl, rfl, rfl, hH, jF_no 0 hF (by decide)⟩
                    · rw [k4, k2]; exact ⟨_, _, rfl, rfl, rfl, hH, jF_no 0 hF (by decide)⟩
                    · rw [k4, k5, k2]; exact ⟨_, _, rfl, rfl, rfl, hH, jF_no 0 hF (by decide)⟩
                    · rw [k4, k5, k6, k2]; exact ⟨_, _, rfl, rfl, rfl, hH, jF_no 0 hF (by decide)⟩
                    · rw [k4, k5, k6, k7, k2]; exact ⟨_, _, rfl, rfl, rfl, hH, jF_no 0 hF (by decide)⟩
            · exact ⟨_, _, rfl, rfl, rfl, hH, jF_no 5 hF (by decide)⟩
          · cases gCmp .eq h2.2.1 0
            · exact ⟨_, _, rfl, rfl, rfl, hH, jF_no 5 hF (by decide)⟩
            · exact ⟨_, _, rfl, rfl, rfl, hH, jF_no 5 hF (by decide)⟩
        · rw [show hEq (nI 3) 0 = false from by decide, show hEq (nI 3) 1 = false from by decide, show hEq (nI 3) 2 = false from by decide]
          simp only [cond_true, cond_false]
          unfold v_53_57
          unfold v_53_61
          obtain ⟨za, hza, ea⟩ := jR_u 40 hH.2.1.2.2.2 (by decide)
          obtain ⟨zb, hzb, eb⟩ := jR_u 40 hH.2.2.2.2.2.2 (by decide)
          rw [hH.2.1.1, hH.2.1.2.1, ea, hH.2.2.2.1, hH.2.2.2.2.1, eb, show gCmp .ne h1.2.1 0 = !gCmp .eq h1.2.1 0 from rfl, show gCmp .ne h3.2.1 0 = !gCmp .eq h3.2.1 0 from rfl]
          cases gCmp .eq h1.2.1 0
          · cases gCmp .eq h3.2.1 0
            · cases gCmp .eq h1.2.1 h3.2.1
              · exact ⟨_, _, rfl, rfl, rfl, hH, jF_no 2 hF (by decide)⟩
              · rcases jcp_57_61 ea hza eb hzb x1 x3 x4 with ⟨f, g, n, rfl, rfl, rfl, k1, k2, k3, k4, k5, k6, k7, k8, k9⟩ | ⟨k1, k2⟩
                · obtain ⟨ca', m1, m2⟩ := l_115 (N := N) (q := 1) (f := f) (c := n) (ce := ce) (by decide) (by omega) n 0 N ca (by omega) (by omega) (fun j hj => absurd hj (by omega))
                  obtain ⟨ce', m3, m4⟩ := l_152 (N := N) (q := 3) (g := g) (c := n) (ca := ca') (ce0 := ce) (by decide) (by omega) n 0 N ce (by omega) (by omega) (fun j => by rw [if_neg (by omega)])
                  rw [k3, k4, k5, k6, k7, k8, k9, jn1, je1, show lp_215_63_115 N (nI 1) (nI f) (nI n) ce N 0 ca = _ from m1]
                  simp only [cond_true, cond_false, Option.bind_some]
                  rw [show lp_215_63_152 N (nI 3) (nI g) (nI n) ca' N 0 ce = _ from m3]
                  rw [show decide (nI f < 0) = false from decide_eq_false (nI_pos (by omega)), show decide (nI g < 0) = false from decide_eq_false (nI_pos (by omega)), show decide (nI n < 0) = false from decide_eq_false (nI_pos (by omega)), jcl (show f < 2 ^ 31 by omega), jcl (show g < 2 ^ 31 by omega), jcl (show n < 2 ^ 31 by omega), jble (show f + n ≤ 40 by omega), jble (show g + n ≤ 40 by omega)]
                  exact ⟨_, _, rfl, rfl, rfl, ⟨jH_cpyo hH.1 (by decide) (by omega) m4, jH_cpyo hH.2.1 (by decide) (by omega) m4, jH_cpyo hH.2.2.1 (by decide) (by omega) m4, jH_cpy hH.2.1 hH.2.2.2 (by decide) (by omega) (by omega) m2 m4⟩, hF⟩
                · rcases k1 with k1 | ⟨k1, k3⟩
                  · rw [k1, je0]
                    rcases k2 with k2 | ⟨k4, k2 | ⟨k5, k2 | ⟨k6, k2 | ⟨k7, k2⟩⟩⟩⟩
                    · rw [k2]; exact ⟨_, _, rfl, rfl, rfl, hH, jF_no 0 hF (by decide)⟩
                    · rw [k4, k2]; exact ⟨_, _, rfl, rfl, rfl, hH, jF_no 0 hF (by decide)⟩
                    · rw [k4, k5, k2]; exact ⟨_, _, rfl, rfl, rfl, hH, jF_no 0 hF (by decide)⟩
                    · rw [k4, k5, k6, k2]; exact ⟨_, _, rfl, rfl, rfl, hH, jF_no 0 hF (by decide)⟩
                    · rw [k4, k5, k6, k7, k2]; exact ⟨_, _, rfl, rfl, rfl, hH, jF_no 0 hF (by decide)⟩
                  · rw [k1, k3, je1, jn0]
                    rcases k2 with k2 | ⟨k4, k2 | ⟨k5, k2 | ⟨k6, k2 | ⟨k7, k2⟩⟩⟩⟩
                    · rw [k2]; exact ⟨_, _, rfl, rfl, rfl, hH, jF_no 0 hF (by decide)⟩
                    · rw [k4, k2]; exact ⟨_, _, rfl, rfl, rfl, hH, jF_no 0 hF (by decide)⟩
                    · rw [k4, k5, k2]; exact ⟨_, _, rfl, rfl, rfl, hH, jF_no 0 hF (by decide)⟩
                    · rw [k4, k5, k6, k2]; exact ⟨_, _, rfl, rfl, rfl, hH, jF_no 0 hF (by decide)⟩
                    · rw [k4, k5, k6, k7, k2]; exact ⟨_, _, rfl, rfl, rfl, hH, jF_no 0 hF (by decide)⟩
            · exact ⟨_, _, rfl, rfl, rfl, hH, jF_no 5 hF (by decide)⟩
          · cases gCmp .eq h3.2.1 0
            · exact ⟨_, _, rfl, rfl, rfl, hH, jF_no 5 hF (by decide)⟩
            · exact ⟨_, _, rfl, rfl, rfl, hH, jF_no 5 hF (by decide)⟩
      · rw [show hEq (nI 2) 0 = false from by decide, show hEq (nI 2) 1 = false from by decide, show hEq (nI 2) 2 = true from by decide]
        simp only [cond_true, cond_false]
        rcases (show r = 0 ∨ r = 1 ∨ r = 2 ∨ r = 3 by omega) with rfl | rfl | rfl | rfl
        · rw [show hEq (nI 0) 0 = true from by decide]
          simp only [cond_true, cond_false]
          unfold v_53_59
          unfold v_53_55
          obtain ⟨za, hza, ea⟩ := jR_u 40 hH.2.2.1.2.2.2 (by decide)
          obtain ⟨zb, hzb, eb⟩ := jR_u 40 hH.1.2.2.2 (by decide)
          rw [hH.2.2.1.1, hH.2.2.1.2.1, ea, hH.1.1, hH.1.2.1, eb, show gCmp .ne h2.2.1 0 = !gCmp .eq h2.2.1 0 from rfl, show gCmp .ne h0.2.1 0 = !gCmp .eq h0.2.1 0 from rfl]
          cases gCmp .eq h2.2.1 0
          · cases gCmp .eq h0.2.1 0
            · cases gCmp .eq h2.2.1 h0.2.1
              · exact ⟨_, _, rfl, rfl, rfl, hH, jF_no 2 hF (by decide)⟩
              · rcases jcp_59_55 ea hza eb hzb x1 x3 x4 with ⟨f, g, n, rfl, rfl, rfl, k1, k2, k3, k4, k5, k6, k7, k8, k9⟩ | ⟨k1, k2⟩
                · obtain ⟨ca', m1, m2⟩ := l_115 (N := N) (q := 2) (f := f) (c := n) (ce := ce) (by decide) (by omega) n 0 N ca (by omega) (by omega) (fun j hj => absurd hj (by omega))
                  obtain ⟨ce', m3, m4⟩ := l_152 (N := N) (q := 0) (g := g) (c := n) (ca := ca') (ce0 := ce) (by decide) (by omega) n 0 N ce (by omega) (by omega) (fun j => by rw [if_neg (by omega)])
                  rw [k3, k4, k5, k6, k7, k8, k9, jn1, je1, show lp_215_63_115 N (nI 2) (nI f) (nI n) ce N 0 ca = _ from m1]
                  simp only [cond_true, cond_false, Option.bind_some]
                  rw [show lp_215_63_152 N (nI 0) (nI g) (nI n) ca' N 0 ce = _ from m3]
                  rw [show decide (nI f < 0) = false from decide_eq_false (nI_pos (by omega)), show decide (nI g < 0) = false from decide_eq_false (nI_pos (by omega)), show decide (nI n < 0) = false from decide_eq_false (nI_pos (by omega)), jcl (show f < 2 ^ 31 by omega), jcl (show g < 2 ^ 31 by omega), jcl (show n < 2 ^ 31 by omega), jble (show f + n ≤ 40 by omega), jble (show g + n ≤ 40 by omega)]
                  exact ⟨_, _, rfl, rfl, rfl, ⟨jH_cpy hH.2.2.1 hH.1 (by decide) (by omega) (by omega) m2 m4, jH_cpyo hH.2.1 (by decide) (by omega) m4, jH_cpyo hH.2.2.1 (by decide) (by omega) m4, jH_cpyo hH.2.2.2 (by decide) (by omega) m4⟩, hF⟩
                · rcases k1 with k1 | ⟨k1, k3⟩
                  · rw [k1, je0]
                    rcases k2 with k2 | ⟨k4, k2 | ⟨k5, k2 | ⟨k6, k2 | ⟨k7, k2⟩⟩⟩⟩
                    · rw [k2]; exact ⟨_, _, rfl, rfl, rfl, hH, jF_no 0 hF (by decide)⟩
                    · rw [k4, k2]; exact ⟨_, _, rfl, rfl, rfl, hH, jF_no 0 hF (by decide)⟩
                    · rw [k4, k5, k2]; exact ⟨_, _, rfl, rfl, rfl, hH, jF_no 0 hF (by decide)⟩
                    · rw [k4, k5, k6, k2]; exact ⟨_, _, rfl, rfl, rfl, hH, jF_no 0 hF (by decide)⟩
                    · rw [k4, k5, k6, k7, k2]; exact ⟨_, _, rfl, rfl, rfl, hH, jF_no 0 hF (by decide)⟩
                  · rw [k1, k3, je1, jn0]
                    rcases k2 with k2 | ⟨k4, k2 | ⟨k5, k2 | ⟨k6, k2 | ⟨k7, k2⟩⟩⟩⟩
                    · rw [k2]; exact ⟨_, _, rfl, rfl, rfl, hH, jF_no 0 hF (by decide)⟩
                    · rw [k4, k2]; exact ⟨_, _, rfl, rfl, rfl, hH, jF_no 0 hF (by decide)⟩
                    · rw [k4, k5, k2]; exact ⟨_, _, rfl, rfl, rfl, hH, jF_no 0 hF (by decide)⟩
                    · rw [k4, k5, k6, k2]; exact ⟨_, _, rfl, rfl, rfl, hH, jF_no 0 hF (by decide)⟩
                    · rw [k4, k5, k6, k7, k2]; exact ⟨_, _, rfl, rfl, rfl, hH, jF_no 0 hF (by decide)⟩
            · exact ⟨_, _, rfl, rfl, rfl, hH, jF_no 5 hF (by decide)⟩
          · cases gCmp .eq h0.2.1 0
            · exact ⟨_, _, rfl, rfl, rfl, hH, jF_no 5 hF (by decide)⟩
            · exact ⟨_, _, rfl, rfl, rfl, hH, jF_no 5 hF (by decide)⟩
        · rw [show hEq (nI 1) 0 = false from by decide, show hEq (nI 1) 1 = true from by decide]
          simp only [cond_true, cond_false]
          unfold v_53_59
          unfold v_53_57
          obtain ⟨za, hza, ea⟩ := jR_u 40 hH.2.2.1.2.2.2 (by decide)
          obtain ⟨zb, hzb, eb⟩ := jR_u 40 hH.2.1.2.2.2 (by decide)
          rw [hH.2.2.1.1, hH.2.2.1.2.1, ea, hH.2.1.1, hH.2.1.2.1, eb, show gCmp .ne h2.2.1 0 = !gCmp .eq h2.2.1 0 from rfl, show gCmp .ne h1.2.1 0 = !gCmp .eq h1.2.1 0 from rfl]
          cases gCmp .eq h2.2.1 0
          · cases gCmp .eq h1.2.1 0
            · cases gCmp .eq h2.2.1 h1.2.1
              · exact ⟨_, _, rfl, rfl, rfl, hH, jF_no 2 hF (by decide)⟩
              · rcases jcp_59_57 ea hza eb hzb x1 x3 x4 with ⟨f, g, n, rfl, rfl, rfl, k1, k2, k3, k4, k5, k6, k7, k8, k9⟩ | ⟨k1, k2⟩
                · obtain ⟨ca', m1, m2⟩ := l_115 (N := N) (q := 2) (f := f) (c := n) (ce := ce) (by decide) (by omega) n 0 N ca (by omega) (by omega) (fun j hj => absurd hj (by omega))
                  obtain ⟨ce', m3, m4⟩ := l_152 (N := N) (q := 1) (g := g) (c := n) (ca := ca') (ce0 := ce) (by decide) (by omega) n 0 N ce (by omega) (by omega) (fun j => by rw [if_neg (by omega)])
                  rw [k3, k4, k5, k6, k7, k8, k9, jn1, je1, show lp_215_63_115 N (nI 2) (nI f) (nI n) ce N 0 ca = _ from m1]
                  simp only [cond_true, cond_false, Option.bind_some]
                  rw [show lp_215_63_152 N (nI 1) (nI g) (nI n) ca' N 0 ce = _ from m3]
                  rw [show decide (nI f < 0) = false from decide_eq_false (nI_pos (by omega)), show decide (nI g < 0) = false from decide_eq_false (nI_pos (by omega)), show decide (nI n < 0) = false from decide_eq_false (nI_pos (by omega)), jcl (show f < 2 ^ 31 by omega), jcl (show g < 2 ^ 31 by omega), jcl (show n < 2 ^ 31 by omega), jble (show f + n ≤ 40 by omega), jble (show g + n ≤ 40 by omega)]
                  exact ⟨_, _, rfl, rfl, rfl, ⟨jH_cpyo hH.1 (by decide) (by omega) m4, jH_cpy hH.2.2.1 hH.2.1 (by decide) (by omega) (by omega) m2 m4, jH_cpyo hH.2.2.1 (by decide) (by omega) m4, jH_cpyo hH.2.2.2 (by decide) (by omega) m4⟩, hF⟩
                · rcases k1 with k1 | ⟨k1, k3⟩
                  · rw [k1, je0]
                    rcases k2 with k2 | ⟨k4, k2 | ⟨k5, k2 | ⟨k6, k2 | ⟨k7, k2⟩⟩⟩⟩
                    · rw [k2]; exact ⟨_, _, rfl, rfl, rfl, hH, jF_no 0 hF (by decide)⟩
                    · rw [k4, k2]; exact ⟨_, _, rfl, rfl, rfl, hH, jF_no 0 hF (by decide)⟩
                    · rw [k4, k5, k2]; exact ⟨_, _, rfl, rfl, rfl, hH, jF_no 0 hF (by decide)⟩
                    · rw [k4, k5, k6, k2]; exact ⟨_, _, rfl, rfl, rfl, hH, jF_no 0 hF (by decide)⟩
                    · rw [k4, k5, k6, k7, k2]; exact ⟨_, _, rfl, rfl, rfl, hH, jF_no 0 hF (by decide)⟩
                  · rw [k1, k3, je1, jn0]
                    rcases k2 with k2 | ⟨k4, k2 | ⟨k5, k2 | ⟨k6, k2 | ⟨k7, k2⟩⟩⟩⟩
                    · rw [k2]; exact ⟨_, _, rfl, rfl, rfl, hH, jF_no 0 hF (by decide)⟩
                    · rw [k4, k2]; exact ⟨_, _, rfl, rfl, rfl, hH, jF_no 0 hF (by decide)⟩
                    · rw [k4, k5, k2]; exact ⟨_, _, rfl, rfl, rfl, hH, jF_no 0 hF (by decide)⟩
                    · rw [k4, k5, k6, k2]; exact ⟨_, _, rfl, rfl, rfl, hH, jF_no 0 hF (by decide)⟩
                    · rw [k4, k5, k6, k7, k2]; exact ⟨_, _, rfl, rfl, rfl, hH, jF_no 0 hF (by decide)⟩
            · exact ⟨_, _, rfl, rfl, rfl, hH, jF_no 5 hF (by decide)⟩
          · cases gCmp .eq h1.2.1 0
            · exact ⟨_, _, rfl, rfl, rfl, hH, jF_no 5 hF (by decide)⟩
            · exact ⟨_, _, rfl, rfl, rfl, hH, jF_no 5 hF (by decide)⟩
        · rw [show hEq (nI 2) 0 = false from by decide, show hEq (nI 2) 1 = false from by decide, show hEq (nI 2) 2 = true from by decide]
          simp only [cond_true, cond_false]
          unfold v_53_59
          obtain ⟨za, hza, ea⟩ := jR_u 40 hH.2.2.1.2.2.2 (by decide)
          rw [hH.2.2.1.1, hH.2.2.1.2.1, ea, show gCmp .ne h2.2.1 0 = !gCmp .eq h2.2.1 0 from rfl]
          cases gCmp .eq h2.2.1 0
          · cases gCmp .eq h2.2.1 h2.2.1
            · exact ⟨_, _, rfl, rfl, rfl, hH, jF_no 2 hF (by decide)⟩
            · rcases jcp_59_59 ea hza ea hza x1 x3 x4 with ⟨f, g, n, rfl, rfl, rfl, k1, k2, k3, k4, k5, k6, k7, k8, k9⟩ | ⟨k1, k2⟩
              · obtain ⟨ca', m1, m2⟩ := l_115 (N := N) (q := 2) (f := f) (c := n) (ce := ce) (by decide) (by omega) n 0 N ca (by omega) (by omega) (fun j hj => absurd hj (by omega))
                obtain ⟨ce', m3, m4⟩ := l_152 (N := N) (q := 2) (g := g) (c := n) (ca := ca') (ce0 := ce) (by decide) (by omega) n 0 N ce (by omega) (by omega) (fun j => by rw [if_neg (by omega)])
                rw [k3, k4, k5, k6, k7, k8, k9, jn1, je1, show lp_215_63_115 N (nI 2) (nI f) (nI n) ce N 0 ca = _ from m1]
                simp only [cond_true, cond_false, Option.bind_some]
                rw [show lp_215_63_152 N (nI 2) (nI g) (nI n) ca' N 0 ce = _ from m3]
                rw [show decide (nI f < 0) = false from decide_eq_false (nI_pos (by omega)), show decide (nI g < 0) = false from decide_eq_false (nI_pos (by omega)), show decide (nI n < 0) = false from decide_eq_false (nI_pos (by omega)), jcl (show f < 2 ^ 31 by omega), jcl (show g < 2 ^ 31 by omega), jcl (show n < 2 ^ 31 by omega), jble (show f + n ≤ 40 by omega), jble (show g + n ≤ 40 by omega)]
                exact ⟨_, _, rfl, rfl, rfl, ⟨jH_cpyo hH.1 (by decide) (by omega) m4, jH_cpyo hH.2.1 (by decide) (by omega) m4, jH_cpy hH.2.2.1 hH.2.2.1 (by decide) (by omega) (by omega) m2 m4, jH_cpyo hH.2.2.2 (by decide) (by omega) m4⟩, hF⟩
              · rcases k1 with k1 | ⟨k1, k3⟩
                · rw [k1, je0]
                  rcases k2 with k2 | ⟨k4, k2 | ⟨k5, k2 | ⟨k6, k2 | ⟨k7, k2⟩⟩⟩⟩
                  · rw [k2]; exact ⟨_, _, rfl, rfl, rfl, hH, jF_no 0 hF (by decide)⟩
                  · rw [k4, k2]; exact ⟨_, _, rfl, rfl, rfl, hH, jF_no 0 hF (by decide)⟩
                  · rw [k4, k5, k2]; exact ⟨_, _, rfl, rfl, rfl, hH, jF_no 0 hF (by decide)⟩
                  · rw [k4, k5, k6, k2]; exact ⟨_, _, rfl, rfl, rfl, hH, jF_no 0 hF (by decide)⟩
                  · rw [k4, k5, k6, k7, k2]; exact ⟨_, _, rfl, rfl, rfl, hH, jF_no 0 hF (by decide)⟩
                · rw [k1, k3, je1, jn0]
                  rcases k2 with k2 | ⟨k4, k2 | ⟨k5, k2 | ⟨k6, k2 | ⟨k7, k2⟩⟩⟩⟩
                  · rw [k2]; exact ⟨_, _, rfl, rfl, rfl, hH, jF_no 0 hF (by decide)⟩
                  · rw [k4, k2]; exact ⟨_, _, rfl, rfl, rfl, hH, jF_no 0 hF (by decide)⟩
                  · rw [k4, k5, k2]; exact ⟨_, _, rfl, rfl, rfl, hH, jF_no 0 hF (by decide)⟩
                  · rw [k4, k5, k6, k2]; exact ⟨_, _, rfl, rfl, rfl, hH, jF_no 0 hF (by decide)⟩
                  · rw [k4, k5, k6, k7, k2]; exact ⟨_, _, rfl, rfl, rfl, hH, jF_no 0 hF (by decide)⟩
          · exact ⟨_, _, rfl, rfl, rfl, hH, jF_no 5 hF (by decide)⟩
        · rw [show hEq (nI 3) 0 = false from by decide, show hEq (nI 3) 1 = false from by decide, show hEq (nI 3) 2 = false from by decide]
          simp only [cond_true, cond_false]
          unfold v_53_59
          unfold v_53_61
          obtain ⟨za, hza, ea⟩ := jR_u 40 hH.2.2.1.2.2.2 (by decide)
          obtain ⟨zb, hzb, eb⟩ := jR_u 40 hH.2.2.2.2.2.2 (by decide)
          rw [hH.2.2.1.1, hH.2.2.1.2.1, ea, hH.2.2.2.1, hH.2.2.2.2.1, eb, show gCmp .ne h2.2.1 0 = !gCmp .eq h2.2.1 0 from rfl, show gCmp .ne h3.2.1 0 = !gCmp .eq h3.2.1 0 from rfl]
          cases gCmp .eq h2.2.1 0
          · cases gCmp .eq h3.2.1 0
            · cases gCmp .eq h2.2.1 h3.2.1
              · exact ⟨_, _, rfl, rfl, rfl, hH, jF_no 2 hF (by decide)⟩
              · rcases jcp_59_61 ea hza eb hzb x1 x3 x4 with ⟨f, g, n, rfl, rfl, rfl, k1, k2, k3, k4, k5, k6, k7, k8, k9⟩ | ⟨k1, k2⟩
                · obtain ⟨ca', m1, m2⟩ := l_115 (N := N) (q := 2) (f := f) (c := n) (ce := ce) (by decide) (by omega) n 0 N ca (by omega) (by omega) (fun j hj => absurd hj (by omega))
                  obtain ⟨ce', m3, m4⟩ := l_152 (N := N) (q := 3) (g := g) (c := n) (ca := ca') (ce0 := ce) (by decide) (by omega) n 0 N ce (by omega) (by omega) (fun j => by rw [if_neg (by omega)])
                  rw [k3, k4, k5, k6, k7, k8, k9, jn1, je1, show lp_215_63_115 N (nI 2) (nI f) (nI n) ce N 0 ca = _ from m1]
                  simp only [cond_true, cond_false, Option.bind_some]
                  rw [show lp_215_63_152 N (nI 3) (nI g) (nI n) ca' N 0 ce = _ from m3]
                  rw [show decide (nI f < 0) = false from decide_eq_false (nI_pos (by omega)), show decide (nI g < 0) = false from decide_eq_false (nI_pos (by omega)), show decide (nI n < 0) = false from decide_eq_false (nI_pos (by omega)), jcl (show f < 2 ^ 31 by omega), jcl (show g < 2 ^ 31 by omega), jcl (show n < 2 ^ 31 by omega), jble (show f + n ≤ 40 by omega), jble (show g + n ≤ 40 by omega)]
                  exact ⟨_, _, rfl, rfl, rfl, ⟨jH_cpyo hH.1 (by decide) (by omega) m4, jH_cpyo hH.2.1 (by decide) (by omega) m4, jH_cpyo hH.2.2.1 (by decide) (by omega) m4, jH_cpy hH.2.2.1 hH.2.2.2 (by decide) (by omega) (by omega) m2 m4⟩, hF⟩
                · rcases k1 with k1 | ⟨k1, k3⟩
                  · rw [k1, je0]
                    rcases k2 with k2 | ⟨k4, k2 | ⟨k5, k2 | ⟨k6, k2 | ⟨k7, k2⟩⟩⟩⟩
                    · rw [k2]; exact ⟨_, _, rfl, rfl, rfl, hH, jF_no 0 hF (by decide)⟩
                    · rw [k4, k2]; exact ⟨_, _, rfl, rfl, rfl, hH, jF_no 0 hF (by decide)⟩
                    · rw [k4, k5, k2]; exact ⟨_, _, rfl, rfl, rfl, hH, jF_no 0 hF (by decide)⟩
                    · rw [k4, k5, k6, k2]; exact ⟨_, _, rfl, rfl, rfl, hH, jF_no 0 hF (by decide)⟩
                    · rw [k4, k5, k6, k7, k2]; exact ⟨_, _, rfl, rfl, rfl, hH, jF_no 0 hF (by decide)⟩
                  · rw [k1, k3, je1, jn0]
                    rcases k2 with k2 | ⟨k4, k2 | ⟨k5, k2 | ⟨k6, k2 | ⟨k7, k2⟩⟩⟩⟩
                    · rw [k2]; exact ⟨_, _, rfl, rfl, rfl, hH, jF_no 0 hF (by decide)⟩
                    · rw [k4, k2]; exact ⟨_, _, rfl, rfl, rfl, hH, jF_no 0 hF (by decide)⟩
                    · rw [k4, k5, k2]; exact ⟨_, _, rfl, rfl, rfl, hH, jF_no 0 hF (by decide)⟩
                    · rw [k4, k5, k6, k2]; exact ⟨_, _, rfl, rfl, rfl, hH, jF_no 0 hF (by decide)⟩
                    · rw [k4, k5, k6, k7, k2]; exact ⟨_, _, rfl, rfl, rfl, hH, jF_no 0 hF (by decide)⟩
            · exact ⟨_, _, rfl, rfl, rfl, hH, jF_no 5 hF (by decide)⟩
          · cases gCmp .eq h3.2.1 0
            · exact ⟨_, _, rfl, rfl, rfl, hH, jF_no 5 hF (by decide)⟩
            · exact ⟨_, _, rfl, rfl, rfl, hH, jF_no 5 hF (by decide)⟩
      · rw [show hEq (nI 3) 0 = false from by decide, show hEq (nI 3) 1 = false from by decide, show hEq (nI 3) 2 = false from by decide]
        simp only [cond_true, cond_false]
        rcases (show r = 0 ∨ r = 1 ∨ r = 2 ∨ r = 3 by omega) with rfl | rfl | rfl | rfl
        · rw [show hEq (nI 0) 0 = true from by decide]
          simp only [cond_true, cond_false]
          unfold v_53_61
          unfold v_53_55
          obtain ⟨za, hza, ea⟩ := jR_u 40 hH.2.2.2.2.2.2 (by decide)
          obtain ⟨zb, hzb, eb⟩ := jR_u 40 hH.1.2.2.2 (by decide)
          rw [hH.2.2.2.1, hH.2.2.2.2.1, ea, hH.1.1, hH.1.2.1, eb, show gCmp .ne h3.2.1 0 = !gCmp .eq h3.2.1 0 from rfl, show gCmp .ne h0.2.1 0 = !gCmp .eq h0.2.1 0 from rfl]
          cases gCmp .eq h3.2.1 0
          · cases gCmp .eq h0.2.1 0
            · cases gCmp .eq h3.2.1 h0.2.1
              · exact ⟨_, _, rfl, rfl, rfl, hH, jF_no 2 hF (by decide)⟩
              · rcases jcp_61_55 ea hza eb hzb x1 x3 x4 with ⟨f, g, n, rfl, rfl, rfl, k1, k2, k3, k4, k5, k6, k7, k8, k9⟩ | ⟨k1, k2⟩
                · obtain ⟨ca', m1, m2⟩ := l_115 (N := N) (q := 3) (f := f) (c := n) (ce := ce) (by decide) (by omega) n 0 N ca (by omega) (by omega) (fun j hj => absurd hj (by omega))
                  obtain ⟨ce', m3, m4⟩ := l_152 (N := N) (q := 0) (g := g) (c := n) (ca := ca') (ce0 := ce) (by decide) (by omega) n 0 N ce (by omega) (by omega) (fun j => by rw [if_neg (by omega)])
                  rw [k3, k4, k5, k6, k7, k8, k9, jn1, je1, show lp_215_63_115 N (nI 3) (nI f) (nI n) ce N 0 ca = _ from m1]
                  simp only [cond_true, cond_false, Option.bind_some]
                  rw [show lp_215_63_152 N (nI 0) (nI g) (nI n) ca' N 0 ce = _ from m3]
                  rw [show decide (nI f < 0) = false from decide_eq_false (nI_pos (by omega)), show decide (nI g < 0) = false from decide_eq_false (nI_pos (by omega)), show decide (nI n < 0) = false from decide_eq_false (nI_pos (by omega)), jcl (show f < 2 ^ 31 by omega), jcl (show g < 2 ^ 31 by omega), jcl (show n < 2 ^ 31 by omega), jble (show f + n ≤ 40 by omega), jble (show g + n ≤ 40 by omega)]
                  exact ⟨_, _, rfl, rfl, rfl, ⟨jH_cpy hH.2.2.2 hH.1 (by decide) (by omega) (by omega) m2 m4, jH_cpyo hH.2.1 (by decide) (by omega) m4, jH_cpyo hH.2.2.1 (by decide) (by omega) m4, jH_cpyo hH.2.2.2 (by decide) (by omega) m4⟩, hF⟩
                · rcases k1 with k1 | ⟨k1, k3⟩
                  · rw [k1, je0]
                    rcases k2 with k2 | ⟨k4, k2 | ⟨k5, k2 | ⟨k6, k2 | ⟨k7, k2⟩⟩⟩⟩
                    · rw [k2]; exact ⟨_, _, rfl, rfl, rfl, hH, jF_no 0 hF (by decide)⟩
                    · rw [k4, k2]; exact ⟨_, _, rfl, rfl, rfl, hH, jF_no 0 hF (by decide)⟩
                    · rw [k4, k5, k2]; exact ⟨_, _, rfl, rfl, rfl, hH, jF_no 0 hF (by decide)⟩
                    · rw [k4, k5, k6, k2]; exact ⟨_, _, rfl, rfl, rfl, hH, jF_no 0 hF (by decide)⟩
                    · rw [k4, k5, k6, k7, k2]; exact ⟨_, _, rfl, rfl, rfl, hH, jF_no 0 hF (by decide)⟩
                  · rw [k1, k3, je1, jn0]
                    rcases k2 with k2 | ⟨k4, k2 | ⟨k5, k2 | ⟨k6, k2 | ⟨k7, k2⟩⟩⟩⟩
                    · rw [k2]; exact ⟨_, _, rfl, rfl, rfl, hH, jF_no 0 hF (by decide)⟩
                    · rw [k4, k2]; exact ⟨_, _, rfl, rfl, rfl, hH, jF_no 0 hF (by decide)⟩
                    · rw [k4, k5, k2]; exact ⟨_, _, rfl, rfl, rfl, hH, jF_no 0 hF (by decide)⟩
                    · rw [k4, k5, k6, k2]; exact ⟨_, _, rfl, rfl, rfl, hH, jF_no 0 hF (by decide)⟩
                    · rw [k4, k5, k6, k7, k2]; exact ⟨_, _, rfl, rfl, rfl, hH, jF_no 0 hF (by decide)⟩
            · exact ⟨_, _, rfl, rfl, rfl, hH, jF_no 5 hF (by decide)⟩
          · cases gCmp .eq h0.2.1 0
            · exact ⟨_, _, rfl, rfl, rfl, hH, jF_no 5 hF (by decide)⟩
            · exact ⟨_, _, rfl, rfl, rfl, hH, jF_no 5 hF (by decide)⟩
        · rw [show hEq (nI 1) 0 = false from by decide, show hEq (nI 1) 1 = true from by decide]
          simp only [cond_true, cond_false]
          unfold v_53_61
          unfold v_53_57
          obtain ⟨za, hza, ea⟩ := jR_u 40 hH.2.2.2.2.2.2 (by decide)
          obtain ⟨zb, hzb, eb⟩ := jR_u 40 hH.2.1.2.2.2 (by decide)
          rw [hH.2.2.2.1, hH.2.2.2.2.1, ea, hH.2.1.1, hH.2.1.2.1, eb, show gCmp .ne h3.2.1 0 = !gCmp .eq h3.2.1 0 from rfl, show gCmp .ne h1.2.1 0 = !gCmp .eq h1.2.1 0 from rfl]
          cases gCmp .eq h3.2.1 0
          · cases gCmp .eq h1.2.1 0
            · cases gCmp .eq h3.2.1 h1.2.1
              · exact ⟨_, _, rfl, rfl, rfl, hH, jF_no 2 hF (by decide)⟩
              · rcases jcp_61_57 ea hza eb hzb x1 x3 x4 with ⟨f, g, n, rfl, rfl, rfl, k1, k2, k3, k4, k5, k6, k7, k8, k9⟩ | ⟨k1, k2⟩
                · obtain ⟨ca', m1, m2⟩ := l_115 (N := N) (q := 3) (f := f) (c := n) (ce := ce) (by decide) (by omega) n 0 N ca (by omega) (by omega) (fun j hj => absurd hj (by omega))
                  obtain ⟨ce', m3, m4⟩ := l_152 (N := N) (q := 1) (g := g) (c := n) (ca := ca') (ce0 := ce) (by decide) (by omega) n 0 N ce (by omega) (by omega) (fun j => by rw [if_neg (by omega)])
                  rw [k3, k4, k5, k6, k7, k8, k9, jn1, je1, show lp_215_63_115 N (nI 3) (nI f) (nI n) ce N 0 ca = _ from m1]
                  simp only [cond_true, cond_false, Option.bind_some]
                  rw [show lp_215_63_152 N (nI 1) (nI g) (nI n) ca' N 0 ce = _ from m3]
                  rw [show decide (nI f < 0) = false from decide_eq_false (nI_pos (by omega)), show decide (nI g < 0) = false from decide_eq_false (nI_pos (by omega)), show decide (nI n < 0) = false from decide_eq_false (nI_pos (by omega)), jcl (show f < 2 ^ 31 by omega), jcl (show g < 2 ^ 31 by omega), jcl (show n < 2 ^ 31 by omega), jble (show f + n ≤ 40 by omega), jble (show g + n ≤ 40 by omega)]
                  exact ⟨_, _, rfl, rfl, rfl, ⟨jH_cpyo hH.1 (by decide) (by omega) m4, jH_cpy hH.2.2.2 hH.2.1 (by decide) (by omega) (by omega) m2 m4, jH_cpyo hH.2.2.1 (by decide) (by omega) m4, jH_cpyo hH.2.2.2 (by decide) (by omega) m4⟩, hF⟩
                · rcases k1 with k1 | ⟨k1, k3⟩
                  · rw [k1, je0]
                    rcases k2 with k2 | ⟨k4, k2 | ⟨k5, k2 | ⟨k6, k2 | ⟨k7, k2⟩⟩⟩⟩
                    · rw [k2]; exact ⟨_, _, rfl, rfl, rfl, hH, jF_no 0 hF (by decide)⟩
                    · rw [k4, k2]; exact ⟨_, _, rfl, rfl, rfl, hH, jF_no 0 hF (by decide)⟩
                    · rw [k4, k5, k2]; exact ⟨_, _, rfl, rfl, rfl, hH, jF_no 0 hF (by decide)⟩
                    · rw [k4, k5, k6, k2]; exact ⟨_, _, rfl, rfl, rfl, hH, jF_no 0 hF (by decide)⟩
                    · rw [k4, k5, k6, k7, k2]; exact ⟨_, _, rfl, rfl, rfl, hH, jF_no 0 hF (by decide)⟩
                  · rw [k1, k3, je1, jn0]
                    rcases k2 with k2 | ⟨k4, k2 | ⟨k5, k2 | ⟨k6, k2 | ⟨k7, k2⟩⟩⟩⟩
                    · rw [k2]; exact ⟨_, _, rfl, rfl, rfl, hH, jF_no 0 hF (by decide)⟩
                    · rw [k4, k2]; exact ⟨_, _, rfl, rfl, rfl, hH, jF_no 0 hF (by decide)⟩
                    · rw [k4, k5, k2]; exact ⟨_, _, rfl, rfl, rfl, hH, jF_no 0 hF (by decide)⟩
                    · rw [k4, k5, k6, k2]; exact ⟨_, _, rfl, rfl, rfl, hH, jF_no 0 hF (by decide)⟩
                    · rw [k4, k5, k6, k7, k2]; exact ⟨_, _, rfl, rfl, rfl, hH, jF_no 0 hF (by decide)⟩
            · exact ⟨_, _, rfl, rfl, rfl, hH, jF_no 5 hF (by decide)⟩
          · cases gCmp .eq h1.2.1 0
            · exact ⟨_, _, rfl, rfl, rfl, hH, jF_no 5 hF (by decide)⟩
            · exact ⟨_, _, rfl, rfl, rfl, hH, jF_no 5 hF (by decide)⟩
        · rw [show hEq (nI 2) 0 = false from by decide, show hEq (nI 2) 1 = false from by decide, show hEq (nI 2) 2 = true from by decide]
          simp only [cond_true, cond_false]
          unfold v_53_61
          unfold v_53_59
          obtain ⟨za, hza, ea⟩ := jR_u 40 hH.2.2.2.2.2.2 (by decide)
          obtain ⟨zb, hzb, eb⟩ := jR_u 40 hH.2.2.1.2.2.2 (by decide)
          rw [hH.2.2.2.1, hH.2.2.2.2.1, ea, hH.2.2.1.1, hH.2.2.1.2.1, eb, show gCmp .ne h3.2.1 0 = !gCmp .eq h3.2.1 0 from rfl, show gCmp .ne h2.2.1 0 = !gCmp .eq h2.2.1 0 from rfl]
          cases gCmp .eq h3.2.1 0
          · cases gCmp .eq h2.2.1 0
            · cases gCmp .eq h3.2.1 h2.2.1
              · exact ⟨_, _, rfl, rfl, rfl, hH, jF_no 2 hF (by decide)⟩
              · rcases jcp_61_59 ea hza eb hzb x1 x3 x4 with ⟨f, g, n, rfl, rfl, rfl, k1, k2, k3, k4, k5, k6, k7, k8, k9⟩ | ⟨k1, k2⟩
                · obtain ⟨ca', m1, m2⟩ := l_115 (N := N) (q := 3) (f := f) (c := n) (ce := ce) (by decide) (by omega) n 0 N ca (by omega) (by omega) (fun j hj => absurd hj (by omega))
                  obtain ⟨ce', m3, m4⟩ := l_152 (N := N) (q := 2) (g := g) (c := n) (ca := ca') (ce0 := ce) (by decide) (by omega) n 0 N ce (by omega) (by omega) (fun j => by rw [if_neg (by omega)])
                  rw [k3, k4, k5, k6, k7, k8, k9, jn1, je1, show lp_215_63_115 N (nI 3) (nI f) (nI n) ce N 0 ca = _ from m1]
                  simp only [cond_true, cond_false, Option.bind_some]
                  rw [show lp_215_63_152 N (nI 2) (nI g) (nI n) ca' N 0 ce = _ from m3]
                  rw [show decide (nI f < 0) = false from decide_eq_false (nI_pos (by omega)), show decide (nI g < 0) = false from decide_eq_false (nI_pos (by omega)), show decide (nI n < 0) = false from decide_eq_false (nI_pos (by omega)), jcl (show f < 2 ^ 31 by omega), jcl (show g < 2 ^ 31 by omega), jcl (show n < 2 ^ 31 by omega), jble (show f + n ≤ 40 by omega), jble (show g + n ≤ 40 by omega)]
                  exact ⟨_, _, rfl, rfl, rfl, ⟨jH_cpyo hH.1 (by decide) (by omega) m4, jH_cpyo hH.2.1 (by decide) (by omega) m4, jH_cpy hH.2.2.2 hH.2.2.1 (by decide) (by omega) (by omega) m2 m4, jH_cpyo hH.2.2.2 (by decide) (by omega) m4⟩, hF⟩
                · rcases k1 with k1 | ⟨k1, k3⟩
                  · rw [k1, je0]
                    rcases k2 with k2 | ⟨k4, k2 | ⟨k5, k2 | ⟨k6, k2 | ⟨k7, k2⟩⟩⟩⟩
                    · rw [k2]; exact ⟨_, _, rfl, rfl, rfl, hH, jF_no 0 hF (by decide)⟩
                    · rw [k4, k2]; exact ⟨_, _, rfl, rfl, rfl, hH, jF_no 0 hF (by decide)⟩
                    · rw [k4, k5, k2]; exact ⟨_, _, rfl, rfl, rfl, hH, jF_no 0 hF (by decide)⟩
                    · rw [k4, k5, k6, k2]; exact ⟨_, _, rfl, rfl, rfl, hH, jF_no 0 hF (by decide)⟩
                    · rw [k4, k5, k6, k7, k2]; exact ⟨_, _, rfl, rfl, rfl, hH, jF_no 0 hF (by decide)⟩
                  · rw [k1, k3, je1, jn0]
                    rcases k2 with k2 | ⟨k4, k2 | ⟨k5, k2 | ⟨k6, k2 | ⟨k7, k2⟩⟩⟩⟩
                    · rw [k2]; exact ⟨_, _, rfl, rfl, rfl, hH, jF_no 0 hF (by decide)⟩
                    · rw [k4, k2]; exact ⟨_, _, rfl, rfl, rfl, hH, jF_no 0 hF (by decide)⟩
                    · rw [k4, k5, k2]; exact ⟨_, _, rfl, rfl, rfl, hH, jF_no 0 hF (by decide)⟩
                    · rw [k4, k5, k6, k2]; exact ⟨_, _, rfl, rfl, rfl, hH, jF_no 0 hF (by decide)⟩
                    · rw [k4, k5, k6, k7, k2]; exact ⟨_, _, rfl, rfl, rfl, hH, jF_no 0 hF (by decide)⟩
            · exact ⟨_, _, rfl, rfl, rfl, hH, jF_no 5 hF (by decide)⟩
          · cases gCmp .eq h2.2.1 0
            · exact ⟨_, _, rfl, rfl, rfl, hH, jF_no 5 hF (by decide)⟩
            · exact ⟨_, _, rfl, rfl, rfl, hH, jF_no 5 hF (by decide)⟩
        · rw [show hEq (nI 3) 0 = false from by decide, show hEq (nI 3) 1 = false from by decide, show hEq (nI 3) 2 = false from by decide]
          simp only [cond_true, cond_false]
          unfold v_53_61
          obtain ⟨za, hza, ea⟩ := jR_u 40 hH.2.2.2.2.2.2 (by decide)
          rw [hH.2.2.2.1, hH.2.2.2.2.1, ea, show gCmp .ne h3.2.1 0 = !gCmp .eq h3.2.1 0 from rfl]
          cases gCmp .eq h3.2.1 0
          · cases gCmp .eq h3.2.1 h3.2.1
            · exact ⟨_, _, rfl, rfl, rfl, hH, jF_no 2 hF (by decide)⟩
            · rcases jcp_61_61 ea hza ea hza x1 x3 x4 with ⟨f, g, n, rfl, rfl, rfl, k1, k2, k3, k4, k5, k6, k7, k8, k9⟩ | ⟨k1, k2⟩
              · obtain ⟨ca', m1, m2⟩ := l_115 (N := N) (q := 3) (f := f) (c := n) (ce := ce) (by decide) (by omega) n 0 N ca (by omega) (by omega) (fun j hj => absurd hj (by omega))
                obtain ⟨ce', m3, m4⟩ := l_152 (N := N) (q := 3) (g := g) (c := n) (ca := ca') (ce0 := ce) (by decide) (by omega) n 0 N ce (by omega) (by omega) (fun j => by rw [if_neg (by omega)])
                rw [k3, k4, k5, k6, k7, k8, k9, jn1, je1, show lp_215_63_115 N (nI 3) (nI f) (nI n) ce N 0 ca = _ from m1]
                simp only [cond_true, cond_false, Option.bind_some]
                rw [show lp_215_63_152 N (nI 3) (nI g) (nI n) ca' N 0 ce = _ from m3]
                rw [show decide (nI f < 0) = false from decide_eq_false (nI_pos (by omega)), show decide (nI g < 0) = false from decide_eq_false (nI_pos (by omega)), show decide (nI n < 0) = false from decide_eq_false (nI_pos (by omega)), jcl (show f < 2 ^ 31 by omega), jcl (show g < 2 ^ 31 by omega), jcl (show n < 2 ^ 31 by omega), jble (show f + n ≤ 40 by omega), jble (show g + n ≤ 40 by omega)]
                exact ⟨_, _, rfl, rfl, rfl, ⟨jH_cpyo hH.1 (by decide) (by omega) m4, jH_cpyo hH.2.1 (by decide) (by omega) m4, jH_cpyo hH.2.2.1 (by decide) (by omega) m4, jH_cpy hH.2.2.2 hH.2.2.2 (by decide) (by omega) (by omega) m2 m4⟩, hF⟩
              · rcases k1 with k1 | ⟨k1, k3⟩
                · rw [k1, je0]
                  rcases k2 with k2 | ⟨k4, k2 | ⟨k5, k2 | ⟨k6, k2 | ⟨k7, k2⟩⟩⟩⟩
                  · rw [k2]; exact ⟨_, _, rfl, rfl, rfl, hH, jF_no 0 hF (by decide)⟩
                  · rw [k4, k2]; exact ⟨_, _, rfl, rfl, rfl, hH, jF_no 0 hF (by decide)⟩
                  · rw [k4, k5, k2]; exact ⟨_, _, rfl, rfl, rfl, hH, jF_no 0 hF (by decide)⟩
                  · rw [k4, k5, k6, k2]; exact ⟨_, _, rfl, rfl, rfl, hH, jF_no 0 hF (by decide)⟩
                  · rw [k4, k5, k6, k7, k2]; exact ⟨_, _, rfl, rfl, rfl, hH, jF_no 0 hF (by decide)⟩
                · rw [k1, k3, je1, jn0]
                  rcases k2 with k2 | ⟨k4, k2 | ⟨k5, k2 | ⟨k6, k2 | ⟨k7, k2⟩⟩⟩⟩
                  · rw [k2]; exact ⟨_, _, rfl, rfl, rfl, hH, jF_no 0 hF (by decide)⟩
                  · rw [k4, k2]; exact ⟨_, _, rfl, rfl, rfl, hH, jF_no 0 hF (by decide)⟩
                  · rw [k4, k5, k2]; exact ⟨_, _, rfl, rfl, rfl, hH, jF_no 0 hF (by decide)⟩
                  · rw [k4, k5, k6, k2]; exact ⟨_, _, rfl, rfl, rfl, hH, jF_no 0 hF (by decide)⟩
                  · rw [k4, k5, k6, k7, k2]; exact ⟨_, _, rfl, rfl, rfl, hH, jF_no 0 hF (by decide)⟩
          · exact ⟨_, _, rfl, rfl, rfl, hH, jF_no 5 hF (by decide)⟩
