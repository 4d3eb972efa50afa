/-! TEXTS: words -/
theorem jcap_inj {c W : Nat → Nat} {b : Nat} : ∀ n l, (∀ i, i < n → 97 ≤ c (b + i) ∧ c (b + i) ≤ 122) → (∀ i, i < l → 97 ≤ W i ∧ W i ≤ 122) → jcap c b n ≤ 9999999999999 → jcap c b n = jcap W 0 l → n = l ∧ ∀ i, i < l → c (b + i) = W i := by
  intro n
  induction n with
  | zero =>
    intro l hc hW hle he
    cases l with
    | zero => exact ⟨rfl, fun i hi => absurd hi (by omega)⟩
    | succ l =>
      have h := hW l (by omega)
      rw [jcap, jcap, Nat.zero_add] at he
      split at he <;> omega
  | succ n ih =>
    intro l hc hW hle he
    have h1 := hc n (by omega)
    rw [jcap] at hle he
    by_cases hJ : jcap c b n ≤ 9999999999999
    · rw [if_pos hJ] at hle he
      cases l with
      | zero =>
        rw [jcap] at he
        omega
      | succ l =>
        have h2 := hW l (by omega)
        rw [jcap, Nat.zero_add] at he
        by_cases hJ2 : jcap W 0 l ≤ 9999999999999
        · rw [if_pos hJ2] at he
          obtain ⟨k1, k2⟩ := ih l (fun i hi => hc i (by omega)) (fun i hi => hW i (by omega)) hJ (by omega)
          refine ⟨by omega, fun i hi => ?_⟩
          by_cases ei : i = l
          · subst ei
            subst k1
            omega
          · exact k2 i (by omega)
        · rw [if_neg hJ2] at he
          omega
    · rw [if_neg hJ] at hle
      exact absurd hle hJ
theorem jcap_ext {c W : Nat → Nat} {b : Nat} : ∀ n, (∀ i, i < n → c (b + i) = W i) → jcap c b n = jcap W 0 n := by
  intro n
  induction n with
  | zero => intro _; rfl
  | succ n ih =>
    intro h
    rw [jcap, jcap, ih (fun i hi => h i (by omega)), h n (by omega), Nat.zero_add]
def jall (c : Nat → Nat) (b : Nat) (W : Nat → Nat) : Nat → Nat → Bool
  | _, 0 => true
  | i, m + 1 => decide (c (b + i) = W i) && jall c b W (i + 1) m
theorem jall_t {c W : Nat → Nat} {b : Nat} : ∀ m i, jall c b W i m = true ↔ ∀ j, i ≤ j → j < i + m → c (b + j) = W j := by
  intro m
  induction m with
  | zero =>
    intro i
    constructor
    · intro _ j h1 h2; exact absurd h1 (by omega)
    · intro _; rfl
  | succ m ih =>
    intro i
    rw [jall, Bool.and_eq_true, decide_eq_true_eq, ih]
    constructor
    · rintro ⟨h1, h2⟩ j hj1 hj2
      by_cases e : j = i
      · subst e; exact h1
      · exact h2 j (by omega) (by omega)
    · intro h
      exact ⟨h i (by omega) (by omega), fun j hj1 hj2 => h j (by omega) (by omega)⟩
theorem jcmp2 (a b : Int64) : gCmp .ne (lg_cmp a b) 0 = !decide (a = b) := by
  unfold lg_cmp
  by_cases h1 : a > b
  · rw [if_pos h1, decide_eq_false (show ¬ a = b from fun e => by subst e; exact absurd (Int64.lt_iff_toInt_lt.mp h1) (by omega))]
    rfl
  · rw [if_neg h1]
    by_cases h2 : a = b
    · rw [if_pos h2, decide_eq_true h2]; rfl
    · rw [if_neg h2, decide_eq_false h2]; rfl
def jW_1010 (i : Nat) : Nat := [101, 118, 101, 110].getD i 0
theorem jl_1010 (N : Nat) : me_0_1010 N = some (nI 4) := rfl
theorem jc_1010 (N : Nat) : ∀ i, i < 4 → me_1_1010 N (nI i) = some (nI (jW_1010 i)) := by
  refine lt_s (lt_s (lt_s (lt_s lt_0 ?_) ?_) ?_) ?_
  all_goals rfl
theorem l_38_1010 {N : Nat} {tb tp : Nat → Int32} {rq : hRq} {t b : Nat} (h1 : rq.1 = nI t) (h2 : rq.2.2.1 = nI b) (ht : t ≤ 120) (hb : b + 4 ≤ t) (hL : ∀ i, b ≤ i → i < b + 4 → 97 ≤ jby tp i ∧ jby tp i ≤ 122 ∧ tb i = nI (jby tp i)) : ∀ (m i n : Nat), i + m = 4 → m < n → lp_38_51_1010_28 N tb rq n (nI i) = some (bif jall (jby tp) b jW_1010 i m then 1 else 0) := by
  intro m
  induction m with
  | zero =>
    intro i n hi hn
    obtain rfl : i = 4 := by omega
    cases n with
    | zero => exact absurd hn (by omega)
    | succ n => rfl
  | succ m ih =>
    intro i n hi hn
    cases n with
    | zero => exact absurd hn (by omega)
    | succ n =>
      obtain ⟨k1, k2, k3⟩ := hL (b + i) (by omega) (by omega)
      have hW : jW_1010 i < 2 ^ 31 := (show ∀ i, i < 4 → jW_1010 i < 2 ^ 31 from by decide) i (by omega)
      rw [lp_38_51_1010_28, jl_1010, jall]
      simp only [Option.bind_some]
      rw [jge i 4 rfl rfl (by omega) (by decide), decide_eq_false (show ¬ 4 ≤ i by omega), h2, h1, nI_add, jge (b + i) t rfl rfl (by omega) (by omega), decide_eq_false (show ¬ t ≤ b + i by omega), jin (show b + i < 120 by omega) (by decide), jc_1010 N i (by omega), jcl (show b + i < 2 ^ 31 by omega), k3, nI_1]
      simp only [Option.bind_some, cond_true, cond_false]
      rw [jeq _ _ rfl rfl (show jby tp (b + i) < 2 ^ 31 by omega) hW]
      by_cases h : jby tp (b + i) = jW_1010 i
      · rw [decide_eq_true h]
        exact ih (i + 1) n (by omega) (by omega)
      · rw [decide_eq_false h]
        rfl
theorem jw_1010 {N : Nat} (hN : 4000 ≤ N) {tb tp : Nat → Int32} {t b e : Nat} {rq : hRq} {tk bg en : Int32} {vl : Int64} (ht : t ≤ 120) (hK : jTk tb tp t rq tk bg en vl b e) : me_38_51_1010 N tb rq = some (bif hEq tk 1 && decide (vl = lN 114602) then 1 else 0) := by
  obtain ⟨⟨g1, g2, g3, g4, g5, g6, g7⟩, h⟩ := hK
  unfold me_38_51_1010
  have hno : ∀ k : Int32, rq.2.1 = k → gCmp .ne k 1 = true → hEq tk 1 = false → (bif gCmp .ne rq.2.1 1 then some (0 : Int32) else (Option.bind (me_0_1010 N) fun q2 => (bif gCmp .eq (rq.2.2.2.1 - rq.2.2.1) q2 then lp_38_51_1010_28 N tb rq N 0 else some (0)))) = some (bif hEq tk 1 && decide (vl = lN 114602) then 1 else 0) := by
    intro k e1 e2 e3
    rw [e1, e2, e3]
    rfl
  rcases h with ⟨k1, rfl⟩ | ⟨k1, rfl, k2, k3, rfl⟩ | ⟨k1, k2, v, k3, k4, ⟨rfl, _⟩ | ⟨rfl, _⟩⟩ | ⟨k1, rfl, k2⟩ | ⟨k1, rfl, k2⟩ | ⟨k1, rfl, k2⟩
  · exact hno 0 k1 (by decide) (by decide)
  · rw [k1, show gCmp .ne (1 : Int32) 1 = false from by decide, show hEq (1 : Int32) 1 = true from by decide, jl_1010, g4, g2, pk_sub g6]
    simp only [Option.bind_some, cond_false, Bool.true_and]
    rw [jeq (e - b) 4 rfl rfl (by omega) (by decide)]
    have hcap := jcap_lt (c := jby tp) (b := b) (e - b) (fun i hi => (k3 (b + i) (by omega) (by omega)).2.1)
    have hE : jcap jW_1010 0 4 = 114602 := by decide
    have hWl : ∀ i, i < 4 → 97 ≤ jW_1010 i ∧ jW_1010 i ≤ 122 := by decide
    by_cases hlen : e - b = 4
    · rw [decide_eq_true hlen]
      simp only [cond_true]
      rw [show lp_38_51_1010_28 N tb rq N 0 = _ from l_38_1010 (N := N) g1 g2 ht (by omega) (fun i hi1 hi2 => k3 i hi1 (by omega)) 4 0 N (by omega) (by omega)]
      congr 2
      rw [Bool.eq_iff_iff, jall_t, decide_eq_true_eq, pk_lEQ (by omega) (by decide)]
      constructor
      · intro h
        rw [hlen, jcap_ext 4 (fun i hi => h i (Nat.zero_le i) (by omega)), hE]
      · intro h
        obtain ⟨_, h3⟩ := jcap_inj (c := jby tp) (W := jW_1010) (b := b) (e - b) 4 (fun i hi => ⟨(k3 (b + i) (by omega) (by omega)).1, (k3 (b + i) (by omega) (by omega)).2.1⟩) hWl (by rw [h]; decide) (by rw [h, hE])
        exact fun j _ hj => h3 j (by omega)
    · rw [decide_eq_false hlen, decide_eq_false (show ¬ lN (jcap (jby tp) b (e - b)) = lN 114602 from fun h => hlen (by
        have h2 := (pk_lEQ (by omega) (by decide)).mp h
        exact (jcap_inj (c := jby tp) (W := jW_1010) (b := b) (e - b) 4 (fun i hi => ⟨(k3 (b + i) (by omega) (by omega)).1, (k3 (b + i) (by omega) (by omega)).2.1⟩) hWl (by rw [h2]; decide) (by rw [h2, hE])).1))]
      rfl
  · exact hno 2 k1 (by decide) (by decide)
  · exact hno 2 k1 (by decide) (by decide)
  · exact hno 3 k1 (by decide) (by decide)
  · exact hno 4 k1 (by decide) (by decide)
  · exact hno 5 k1 (by decide) (by decide)
def jW_1011 (i : Nat) : Nat := [115, 108, 97, 110, 116, 105, 110, 103].getD i 0
theorem jl_1011 (N : Nat) : me_0_1011 N = some (nI 8) := rfl
theorem jc_1011 (N : Nat) : ∀ i, i < 8 → me_1_1011 N (nI i) = some (nI (jW_1011 i)) := by
  refine lt_s (lt_s (lt_s (lt_s (lt_s (lt_s (lt_s (lt_s lt_0 ?_) ?_) ?_) ?_) ?_) ?_) ?_) ?_
  all_goals rfl
theorem l_38_1011 {N : Nat} {tb tp : Nat → Int32} {rq : hRq} {t b : Nat} (h1 : rq.1 = nI t) (h2 : rq.2.2.1 = nI b) (ht : t ≤ 120) (hb : b + 8 ≤ t) (hL : ∀ i, b ≤ i → i < b + 8 → 97 ≤ jby tp i ∧ jby tp i ≤ 122 ∧ tb i = nI (jby tp i)) : ∀ (m i n : Nat), i + m = 8 → m < n → lp_38_51_1011_28 N tb rq n (nI i) = some (bif jall (jby tp) b jW_1011 i m then 1 else 0) := by
  intro m
  induction m with
  | zero =>
    intro i n hi hn
    obtain rfl : i = 8 := by omega
    cases n with
    | zero => exact absurd hn (by omega)
    | succ n => rfl
  | succ m ih =>
    intro i n hi hn
    cases n with
    | zero => exact absurd hn (by omega)
    | succ n =>
      obtain ⟨k1, k2, k3⟩ := hL (b + i) (by omega) (by omega)
      have hW : jW_1011 i < 2 ^ 31 := (show ∀ i, i < 8 → jW_1011 i < 2 ^ 31 from by decide) i (by omega)
      rw [lp_38_51_1011_28, jl_1011, jall]
      simp only [Option.bind_some]
      rw [jge i 8 rfl rfl (by omega) (by decide), decide_eq_false (show ¬ 8 ≤ i by omega), h2, h1, nI_add, jge (b + i) t rfl rfl (by omega) (by omega), decide_eq_false (show ¬ t ≤ b + i by omega), jin (show b + i < 120 by omega) (by decide), jc_1011 N i (by omega), jcl (show b + i < 2 ^ 31 by omega), k3, nI_1]
      simp only [Option.bind_some, cond_true, cond_false]
      rw [jeq _ _ rfl rfl (show jby tp (b + i) < 2 ^ 31 by omega) hW]
      by_cases h : jby tp (b + i) = jW_1011 i
      · rw [decide_eq_true h]
        exact ih (i + 1) n (by omega) (by omega)
      · rw [decide_eq_false h]
        rfl
theorem jw_1011 {N : Nat} (hN : 4000 ≤ N) {tb tp : Nat → Int32} {t b e : Nat} {rq : hRq} {tk bg en : Int32} {vl : Int64} (ht : t ≤ 120) (hK : jTk tb tp t rq tk bg en vl b e) : me_38_51_1011 N tb rq = some (bif hEq tk 1 && decide (vl = lN 203417946412) then 1 else 0) := by
  obtain ⟨⟨g1, g2, g3, g4, g5, g6, g7⟩, h⟩ := hK
  unfold me_38_51_1011
  have hno : ∀ k : Int32, rq.2.1 = k → gCmp .ne k 1 = true → hEq tk 1 = false → (bif gCmp .ne rq.2.1 1 then some (0 : Int32) else (Option.bind (me_0_1011 N) fun q2 => (bif gCmp .eq (rq.2.2.2.1 - rq.2.2.1) q2 then lp_38_51_1011_28 N tb rq N 0 else some (0)))) = some (bif hEq tk 1 && decide (vl = lN 203417946412) then 1 else 0) := by
    intro k e1 e2 e3
    rw [e1, e2, e3]
    rfl
  rcases h with ⟨k1, rfl⟩ | ⟨k1, rfl, k2, k3, rfl⟩ | ⟨k1, k2, v, k3, k4, ⟨rfl, _⟩ | ⟨rfl, _⟩⟩ | ⟨k1, rfl, k2⟩ | ⟨k1, rfl, k2⟩ | ⟨k1, rfl, k2⟩
  · exact hno 0 k1 (by decide) (by decide)
  · rw [k1, show gCmp .ne (1 : Int32) 1 = false from by decide, show hEq (1 : Int32) 1 = true from by decide, jl_1011, g4, g2, pk_sub g6]
    simp only [Option.bind_some, cond_false, Bool.true_and]
    rw [jeq (e - b) 8 rfl rfl (by omega) (by decide)]
    have hcap := jcap_lt (c := jby tp) (b := b) (e - b) (fun i hi => (k3 (b + i) (by omega) (by omega)).2.1)
    have hE : jcap jW_1011 0 8 = 203417946412 := by decide
    have hWl : ∀ i, i < 8 → 97 ≤ jW_1011 i ∧ jW_1011 i ≤ 122 := by decide
    by_cases hlen : e - b = 8
    · rw [decide_eq_true hlen]
      simp only [cond_true]
      rw [show lp_38_51_1011_28 N tb rq N 0 = _ from l_38_1011 (N := N) g1 g2 ht (by omega) (fun i hi1 hi2 => k3 i hi1 (by omega)) 8 0 N (by omega) (by omega)]
      congr 2
      rw [Bool.eq_iff_iff, jall_t, decide_eq_true_eq, pk_lEQ (by omega) (by decide)]
      constructor
      · intro h
        rw [hlen, jcap_ext 8 (fun i hi => h i (Nat.zero_le i) (by omega)), hE]
      · intro h
        obtain ⟨_, h3⟩ := jcap_inj (c := jby tp) (W := jW_1011) (b := b) (e - b) 8 (fun i hi => ⟨(k3 (b + i) (by omega) (by omega)).1, (k3 (b + i) (by omega) (by omega)).2.1⟩) hWl (by rw [h]; decide) (by rw [h, hE])
        exact fun j _ hj => h3 j (by omega)
    · rw [decide_eq_false hlen, decide_eq_false (show ¬ lN (jcap (jby tp) b (e - b)) = lN 203417946412 from fun h => hlen (by
        have h2 := (pk_lEQ (by omega) (by decide)).mp h
        exact (jcap_inj (c := jby tp) (W := jW_1011) (b := b) (e - b) 8 (fun i hi => ⟨(k3 (b + i) (by omega) (by omega)).1, (k3 (b + i) (by omega) (by omega)).2.1⟩) hWl (by rw [h2]; decide) (by rw [h2, hE])).1))]
      rfl
  · exact hno 2 k1 (by decide) (by decide)
  · exact hno 2 k1 (by decide) (by decide)
  · exact hno 3 k1 (by decide) (by decide)
  · exact hno 4 k1 (by decide) (by decide)
  · exact hno 5 k1 (by decide) (by decide)
def jW_1012 (i : Nat) : Nat := [115, 108, 105, 112, 112, 105, 110, 103].getD i 0
theorem jl_1012 (N : Nat) : me_0_1012 N = some (nI 8) := rfl
theorem jc_1012 (N : Nat) : ∀ i, i < 8 → me_1_1012 N (nI i) = some (nI (jW_1012 i)) := by
  refine lt_s (lt_s (lt_s (lt_s (lt_s (lt_s (lt_s (lt_s lt_0 ?_) ?_) ?_) ?_) ?_) ?_) ?_) ?_
  all_goals rfl
theorem l_38_1012 {N : Nat} {tb tp : Nat → Int32} {rq : hRq} {t b : Nat} (h1 : rq.1 = nI t) (h2 : rq.2.2.1 = nI b) (ht : t ≤ 120) (hb : b + 8 ≤ t) (hL : ∀ i, b ≤ i → i < b + 8 → 97 ≤ jby tp i ∧ jby tp i ≤ 122 ∧ tb i = nI (jby tp i)) : ∀ (m i n : Nat), i + m = 8 → m < n → lp_38_51_1012_28 N tb rq n (nI i) = some (bif jall (jby tp) b jW_1012 i m then 1 else 0) := by
  intro m
  induction m with
  | zero =>
    intro i n hi hn
    obtain rfl : i = 8 := by omega
    cases n with
    | zero => exact absurd hn (by omega)
    | succ n => rfl
  | succ m ih =>
    intro i n hi hn
    cases n with
    | zero => exact absurd hn (by omega)
    | succ n =>
      obtain ⟨k1, k2, k3⟩ := hL (b + i) (by omega) (by omega)
      have hW : jW_1012 i < 2 ^ 31 := (show ∀ i, i < 8 → jW_1012 i < 2 ^ 31 from by decide) i (by omega)
      rw [lp_38_51_1012_28, jl_1012, jall]
      simp only [Option.bind_some]
      rw [jge i 8 rfl rfl (by omega) (by decide), decide_eq_false (show ¬ 8 ≤ i by omega), h2, h1, nI_add, jge (b + i) t rfl rfl (by omega) (by omega), decide_eq_false (show ¬ t ≤ b + i by omega), jin (show b + i < 120 by omega) (by decide), jc_1012 N i (by omega), jcl (show b + i < 2 ^ 31 by omega), k3, nI_1]
      simp only [Option.bind_some, cond_true, cond_false]
      rw [jeq _ _ rfl rfl (show jby tp (b + i) < 2 ^ 31 by omega) hW]
      by_cases h : jby tp (b + i) = jW_1012 i
      · rw [decide_eq_true h]
        exact ih (i + 1) n (by omega) (by omega)
      · rw [decide_eq_false h]
        rfl
theorem jw_1012 {N : Nat} (hN : 4000 ≤ N) {tb tp : Nat → Int32} {t b e : Nat} {rq : hRq} {tk bg en : Int32} {vl : Int64} (ht : t ≤ 120) (hK : jTk tb tp t rq tk bg en vl b e) : me_38_51_1012 N tb rq = some (bif hEq tk 1 && decide (vl = lN 203533721818) then 1 else 0) := by
  obtain ⟨⟨g1, g2, g3, g4, g5, g6, g7⟩, h⟩ := hK
  unfold me_38_51_1012
  have hno : ∀ k : Int32, rq.2.1 = k → gCmp .ne k 1 = true → hEq tk 1 = false → (bif gCmp .ne rq.2.1 1 then some (0 : Int32) else (Option.bind (me_0_1012 N) fun q2 => (bif gCmp .eq (rq.2.2.2.1 - rq.2.2.1) q2 then lp_38_51_1012_28 N tb rq N 0 else some (0)))) = some (bif hEq tk 1 && decide (vl = lN 203533721818) then 1 else 0) := by
    intro k e1 e2 e3
    rw [e1, e2, e3]
    rfl
  rcases h with ⟨k1, rfl⟩ | ⟨k1, rfl, k2, k3, rfl⟩ | ⟨k1, k2, v, k3, k4, ⟨rfl, _⟩ | ⟨rfl, _⟩⟩ | ⟨k1, rfl, k2⟩ | ⟨k1, rfl, k2⟩ | ⟨k1, rfl, k2⟩
  · exact hno 0 k1 (by decide) (by decide)
  · rw [k1, show gCmp .ne (1 : Int32) 1 = false from by decide, show hEq (1 : Int32) 1 = true from by decide, jl_1012, g4, g2, pk_sub g6]
    simp only [Option.bind_some, cond_false, Bool.true_and]
    rw [jeq (e - b) 8 rfl rfl (by omega) (by decide)]
    have hcap := jcap_lt (c := jby tp) (b := b) (e - b) (fun i hi => (k3 (b + i) (by omega) (by omega)).2.1)
    have hE : jcap jW_1012 0 8 = 203533721818 := by decide
    have hWl : ∀ i, i < 8 → 97 ≤ jW_1012 i ∧ jW_1012 i ≤ 122 := by decide
    by_cases hlen : e - b = 8
    · rw [decide_eq_true hlen]
      simp only [cond_true]
      rw [show lp_38_51_1012_28 N tb rq N 0 = _ from l_38_1012 (N := N) g1 g2 ht (by omega) (fun i hi1 hi2 => k3 i hi1 (by omega)) 8 0 N (by omega) (by omega)]
      congr 2
      rw [Bool.eq_iff_iff, jall_t, decide_eq_true_eq, pk_lEQ (by omega) (by decide)]
      constructor
      · intro h
        rw [hlen, jcap_ext 8 (fun i hi => h i (Nat.zero_le i) (by omega)), hE]
      · intro h
        obtain ⟨_, h3⟩ := jcap_inj (c := jby tp) (W := jW_1012) (b := b) (e - b) 8 (fun i hi => ⟨(k3 (b + i) (by omega) (by omega)).1, (k3 (b + i) (by omega) (by omega)).2.1⟩) hWl (by rw [h]; decide) (by rw [h, hE])
        exact fun j _ hj => h3 j (by omega)
    · rw [decide_eq_false hlen, decide_eq_false (show ¬ lN (jcap (jby tp) b (e - b)) = lN 203533721818 from fun h => hlen (by
        have h2 := (pk_lEQ (by omega) (by decide)).mp h
        exact (jcap_inj (c := jby tp) (W := jW_1012) (b := b) (e - b) 8 (fun i hi => ⟨(k3 (b + i) (by omega) (by omega)).1, (k3 (b + i) (by omega) (by omega)).2.1⟩) hWl (by rw [h2]; decide) (by rw [h2, hE])).1))]
      rfl
  · exact hno 2 k1 (by decide) (by decide)
  · exact hno 2 k1 (by decide) (by decide)
  · exact hno 3 k1 (by decide) (by decide)
  · exact hno 4 k1 (by decide) (by decide)
  · exact hno 5 k1 (by decide) (by decide)
def jW_1013 (i : Nat) : Nat := [102, 97, 110, 110, 101, 100].getD i 0
theorem jl_1013 (N : Nat) : me_0_1013 N = some (nI 6) := rfl
theorem jc_1013 (N : Nat) : ∀ i, i < 6 → me_1_1013 N (nI i) = some (nI (jW_1013 i)) := by
  refine lt_s (lt_s (lt_s (lt_s (lt_s (lt_s lt_0 ?_) ?_) ?_) ?_) ?_) ?_
  all_goals rfl
theorem l_38_1013 {N : Nat} {tb tp : Nat → Int32} {rq : hRq} {t b : Nat} (h1 : rq.1 = nI t) (h2 : rq.2.2.1 = nI b) (ht : t ≤ 120) (hb : b + 6 ≤ t) (hL : ∀ i, b ≤ i → i < b + 6 → 97 ≤ jby tp i ∧ jby tp i ≤ 122 ∧ tb i = nI (jby tp i)) : ∀ (m i n : Nat), i + m = 6 → m < n → lp_38_51_1013_28 N tb rq n (nI i) = some (bif jall (jby tp) b jW_1013 i m then 1 else 0) := by
  intro m
  induction m with
  | zero =>
    intro i n hi hn
    obtain rfl : i = 6 := by omega
    cases n with
    | zero => exact absurd hn (by omega)
    | succ n => rfl
  | succ m ih =>
    intro i n hi hn
    cases n with
    | zero => exact absurd hn (by omega)
    | succ n =>
      obtain ⟨k1, k2, k3⟩ := hL (b + i) (by omega) (by omega)
      have hW : jW_1013 i < 2 ^ 31 := (show ∀ i, i < 6 → jW_1013 i < 2 ^ 31 from by decide) i (by omega)
      rw [lp_38_51_1013_28, jl_1013, jall]
      simp only [Option.bind_some]
      rw [jge i 6 rfl rfl (by omega) (by decide), decide_eq_false (show ¬ 6 ≤ i by omega), h2, h1, nI_add, jge (b + i) t rfl rfl (by omega) (by omega), decide_eq_false (show ¬ t ≤ b + i by omega), jin (show b + i < 120 by omega) (by decide), jc_1013 N i (by omega), jcl (show b + i < 2 ^ 31 by omega), k3, nI_1]
      simp only [Option.bind_some, cond_true, cond_false]
      rw [jeq _ _ rfl rfl (show jby tp (b + i) < 2 ^ 31 by omega) hW]
      by_cases h : jby tp (b + i) = jW_1013 i
      · rw [decide_eq_true h]
        exact ih (i + 1) n (by omega) (by omega)
      · rw [decide_eq_false h]
        rfl
theorem jw_1013 {N : Nat} (hN : 4000 ≤ N) {tb tp : Nat → Int32} {t b e : Nat} {rq : hRq} {tk bg en : Int32} {vl : Int64} (ht : t ≤ 120) (hK : jTk tb tp t rq tk bg en vl b e) : me_38_51_1013 N tb rq = some (bif hEq tk 1 && decide (vl = lN 86910790) then 1 else 0) := by
  obtain ⟨⟨g1, g2, g3, g4, g5, g6, g7⟩, h⟩ := hK
  unfold me_38_51_1013
  have hno : ∀ k : Int32, rq.2.1 = k → gCmp .ne k 1 = true → hEq tk 1 = false → (bif gCmp .ne rq.2.1 1 then some (0 : Int32) else (Option.bind (me_0_1013 N) fun q2 => (bif gCmp .eq (rq.2.2.2.1 - rq.2.2.1) q2 then lp_38_51_1013_28 N tb rq N 0 else some (0)))) = some (bif hEq tk 1 && decide (vl = lN 86910790) then 1 else 0) := by
    intro k e1 e2 e3
    rw [e1, e2, e3]
    rfl
  rcases h with ⟨k1, rfl⟩ | ⟨k1, rfl, k2, k3, rfl⟩ | ⟨k1, k2, v, k3, k4, ⟨rfl, _⟩ | ⟨rfl, _⟩⟩ | ⟨k1, rfl, k2⟩ | ⟨k1, rfl, k2⟩ | ⟨k1, rfl, k2⟩
  · exact hno 0 k1 (by decide) (by decide)
  · rw [k1, show gCmp .ne (1 : Int32) 1 = false from by decide, show hEq (1 : Int32) 1 = true from by decide, jl_1013, g4, g2, pk_sub g6]
    simp only [Option.bind_some, cond_false, Bool.true_and]
    rw [jeq (e - b) 6 rfl rfl (by omega) (by decide)]
    have hcap := jcap_lt (c := jby tp) (b := b) (e - b) (fun i hi => (k3 (b + i) (by omega) (by omega)).2.1)
    have hE : jcap jW_1013 0 6 = 86910790 := by decide
    have hWl : ∀ i, i < 6 → 97 ≤ jW_1013 i ∧ jW_1013 i ≤ 122 := by decide
    by_cases hlen : e - b = 6
    · rw [decide_eq_true hlen]
      simp only [cond_true]
      rw [show lp_38_51_1013_28 N tb rq N 0 = _ from l_38_1013 (N := N) g1 g2 ht (by omega) (fun i hi1 hi2 => k3 i hi1 (by omega)) 6 0 N (by omega) (by omega)]
      congr 2
      rw [Bool.eq_iff_iff, jall_t, decide_eq_true_eq, pk_lEQ (by omega) (by decide)]
      constructor
      · intro h
        rw [hlen, jcap_ext 6 (fun i hi => h i (Nat.zero_le i) (by omega)), hE]
      · intro h
        obtain ⟨_, h3⟩ := jcap_inj (c := jby tp) (W := jW_1013) (b := b) (e - b) 6 (fun i hi => ⟨(k3 (b + i) (by omega) (by omega)).1, (k3 (b + i) (by omega) (by omega)).2.1⟩) hWl (by rw [h]; decide) (by rw [h, hE])
        exact fun j _ hj => h3 j (by omega)
    · rw [decide_eq_false hlen, decide_eq_false (show ¬ lN (jcap (jby tp) b (e - b)) = lN 86910790 from fun h => hlen (by
        have h2 := (pk_lEQ (by omega) (by decide)).mp h
        exact (jcap_inj (c := jby tp) (W := jW_1013) (b := b) (e - b) 6 (fun i hi => ⟨(k3 (b + i) (by omega) (by omega)).1, (k3 (b + i) (by omega) (by omega)).2.1⟩) hWl (by rw [h2]; decide) (by rw [h2, hE])).1))]
      rfl
  · exact hno 2 k1 (by decide) (by decide)
  · exact hno 2 k1 (by decide) (by decide)
  · exact hno 3 k1 (by decide) (by decide)
  · exact hno 4 k1 (by decide) (by decide)
  · exact hno 5 k1 (by decide) (by decide)
def jW_1014 (i : Nat) : Nat := [99, 97, 117, 103, 104, 116].getD i 0
theorem jl_1014 (N : Nat) : me_0_1014 N = some (nI 6) := rfl
theorem jc_1014 (N : Nat) : ∀ i, i < 6 → me_1_1014 N (nI i) = some (nI (jW_1014 i)) := by
  refine lt_s (lt_s (lt_s (lt_s (lt_s (lt_s lt_0 ?_) ?_) ?_) ?_) ?_) ?_
  all_goals rfl
theorem l_38_1014 {N : Nat} {tb tp : Nat → Int32} {rq : hRq} {t b : Nat} (h1 : rq.1 = nI t) (h2 : rq.2.2.1 = nI b) (ht : t ≤ 120) (hb : b + 6 ≤ t) (hL : ∀ i, b ≤ i → i < b + 6 → 97 ≤ jby tp i ∧ jby tp i ≤ 122 ∧ tb i = nI (jby tp i)) : ∀ (m i n : Nat), i + m = 6 → m < n → lp_38_51_1014_28 N tb rq n (nI i) = some (bif jall (jby tp) b jW_1014 i m then 1 else 0) := by
  intro m
  induction m with
  | zero =>
    intro i n hi hn
    obtain rfl : i = 6 := by omega
    cases n with
    | zero => exact absurd hn (by omega)
    | succ n => rfl
  | succ m ih =>
    intro i n hi hn
    cases n with
    | zero => exact absurd hn (by omega)
    | succ n =>
      obtain ⟨k1, k2, k3⟩ := hL (b + i) (by omega) (by omega)
      have hW : jW_1014 i < 2 ^ 31 := (show ∀ i, i < 6 → jW_1014 i < 2 ^ 31 from by decide) i (by omega)
      rw [lp_38_51_1014_28, jl_1014, jall]
      simp only [Option.bind_some]
      rw [jge i 6 rfl rfl (by omega) (by decide), decide_eq_false (show ¬ 6 ≤ i by omega), h2, h1, nI_add, jge (b + i) t rfl rfl (by omega) (by omega), decide_eq_false (show ¬ t ≤ b + i by omega), jin (show b + i < 120 by omega) (by decide), jc_1014 N i (by omega), jcl (show b + i < 2 ^ 31 by omega), k3, nI_1]
      simp only [Option.bind_some, cond_true, cond_false]
      rw [jeq _ _ rfl rfl (show jby tp (b + i) < 2 ^ 31 by omega) hW]
      by_cases h : jby tp (b + i) = jW_1014 i
      · rw [decide_eq_true h]
        exact ih (i + 1) n (by omega) (by omega)
      · rw [decide_eq_false h]
        rfl
theorem jw_1014 {N : Nat} (hN : 4000 ≤ N) {tb tp : Nat → Int32} {t b e : Nat} {rq : hRq} {tk bg en : Int32} {vl : Int64} (ht : t ≤ 120) (hK : jTk tb tp t rq tk bg en vl b e) : me_38_51_1014 N tb rq = some (bif hEq tk 1 && decide (vl = lN 43996844) then 1 else 0) := by
  obtain ⟨⟨g1, g2, g3, g4, g5, g6, g7⟩, h⟩ := hK
  unfold me_38_51_1014
  have hno : ∀ k : Int32, rq.2.1 = k → gCmp .ne k 1 = true → hEq tk 1 = false → (bif gCmp .ne rq.2.1 1 then some (0 : Int32) else (Option.bind (me_0_1014 N) fun q2 => (bif gCmp .eq (rq.2.2.2.1 - rq.2.2.1) q2 then lp_38_51_1014_28 N tb rq N 0 else some (0)))) = some (bif hEq tk 1 && decide (vl = lN 43996844) then 1 else 0) := by
    intro k e1 e2 e3
    rw [e1, e2, e3]
    rfl
  rcases h with ⟨k1, rfl⟩ | ⟨k1, rfl, k2, k3, rfl⟩ | ⟨k1, k2, v, k3, k4, ⟨rfl, _⟩ | ⟨rfl, _⟩⟩ | ⟨k1, rfl, k2⟩ | ⟨k1, rfl, k2⟩ | ⟨k1, rfl, k2⟩
  · exact hno 0 k1 (by decide) (by decide)
  · rw [k1, show gCmp .ne (1 : Int32) 1 = false from by decide, show hEq (1 : Int32) 1 = true from by decide, jl_1014, g4, g2, pk_sub g6]
    simp only [Option.bind_some, cond_false, Bool.true_and]
    rw [jeq (e - b) 6 rfl rfl (by omega) (by decide)]
    have hcap := jcap_lt (c := jby tp) (b := b) (e - b) (fun i hi => (k3 (b + i) (by omega) (by omega)).2.1)
    have hE : jcap jW_1014 0 6 = 43996844 := by decide
    have hWl : ∀ i, i < 6 → 97 ≤ jW_1014 i ∧ jW_1014 i ≤ 122 := by decide
    by_cases hlen : e - b = 6
    · rw [decide_eq_true hlen]
      simp only [cond_true]
      rw [show lp_38_51_1014_28 N tb rq N 0 = _ from l_38_1014 (N := N) g1 g2 ht (by omega) (fun i hi1 hi2 => k3 i hi1 (by omega)) 6 0 N (by omega) (by omega)]
      congr 2
      rw [Bool.eq_iff_iff, jall_t, decide_eq_true_eq, pk_lEQ (by omega) (by decide)]
      constructor
      · intro h
        rw [hlen, jcap_ext 6 (fun i hi => h i (Nat.zero_le i) (by omega)), hE]
      · intro h
        obtain ⟨_, h3⟩ := jcap_inj (c := jby tp) (W := jW_1014) (b := b) (e - b) 6 (fun i hi => ⟨(k3 (b + i) (by omega) (by omega)).1, (k3 (b + i) (by omega) (by omega)).2.1⟩) hWl (by rw [h]; decide) (by rw [h, hE])
        exact fun j _ hj => h3 j (by omega)
    · rw [decide_eq_false hlen, decide_eq_false (show ¬ lN (jcap (jby tp) b (e - b)) = lN 43996844 from fun h => hlen (by
        have h2 := (pk_lEQ (by omega) (by decide)).mp h
        exact (jcap_inj (c := jby tp) (W := jW_1014) (b := b) (e - b) 6 (fun i hi => ⟨(k3 (b + i) (by omega) (by omega)).1, (k3 (b + i) (by omega) (by omega)).2.1⟩) hWl (by rw [h2]; decide) (by rw [h2, hE])).1))]
      rfl
  · exact hno 2 k1 (by decide) (by decide)
  · exact hno 2 k1 (by decide) (by decide)
  · exact hno 3 k1 (by decide) (by decide)
  · exact hno 4 k1 (by decide) (by decide)
  · exact hno 5 k1 (by decide) (by decide)
def jW_1015 (i : Nat) : Nat := [106, 97, 109, 109, 101, 100].getD i 0
theorem jl_1015 (N : Nat) : me_0_1015 N = some (nI 6) := rfl
theorem jc_1015 (N : Nat) : ∀ i, i < 6 → me_1_1015 N (nI i) = some (nI (jW_1015 i)) := by
  refine lt_s (lt_s (lt_s (lt_s (lt_s (lt_s lt_0 ?_) ?_) ?_) ?_) ?_) ?_
  all_goals rfl
theorem l_38_1015 {N : Nat} {tb tp : Nat → Int32} {rq : hRq} {t b : Nat} (h1 : rq.1 = nI t) (h2 : rq.2.2.1 = nI b) (ht : t ≤ 120) (hb : b + 6 ≤ t) (hL : ∀ i, b ≤ i → i < b + 6 → 97 ≤ jby tp i ∧ jby tp i ≤ 122 ∧ tb i = nI (jby tp i)) : ∀ (m i n : Nat), i + m = 6 → m < n → lp_38_51_1015_28 N tb rq n (nI i) = some (bif jall (jby tp) b jW_1015 i m then 1 else 0) := by
  intro m
  induction m with
  | zero =>
    intro i n hi hn
    obtain rfl : i = 6 := by omega
    cases n with
    | zero => exact absurd hn (by omega)
    | succ n => rfl
  | succ m ih =>
    intro i n hi hn
    cases n with
    | zero => exact absurd hn (by omega)
    | succ n =>
      obtain ⟨k1, k2, k3⟩ := hL (b + i) (by omega) (by omega)
      have hW : jW_1015 i < 2 ^ 31 := (show ∀ i, i < 6 → jW_1015 i < 2 ^ 31 from by decide) i (by omega)
      rw [lp_38_51_1015_28, jl_1015, jall]
      simp only [Option.bind_some]
      rw [jge i 6 rfl rfl (by omega) (by decide), decide_eq_false (show ¬ 6 ≤ i by omega), h2, h1, nI_add, jge (b + i) t rfl rfl (by omega) (by omega), decide_eq_false (show ¬ t ≤ b + i by omega), jin (show b + i < 120 by omega) (by decide), jc_1015 N i (by omega), jcl (show b + i < 2 ^ 31 by omega), k3, nI_1]
      simp only [Option.bind_some, cond_true, cond_false]
      rw [jeq _ _ rfl rfl (show jby tp (b + i) < 2 ^ 31 by omega) hW]
      by_cases h : jby tp (b + i) = jW_1015 i
      · rw [decide_eq_true h]
        exact ih (i + 1) n (by omega) (by omega)
      · rw [decide_eq_false h]
        rfl
theorem jw_1015 {N : Nat} (hN : 4000 ≤ N) {tb tp : Nat → Int32} {t b e : Nat} {rq : hRq} {tk bg en : Int32} {vl : Int64} (ht : t ≤ 120) (hK : jTk tb tp t rq tk bg en vl b e) : me_38_51_1015 N tb rq = some (bif hEq tk 1 && decide (vl = lN 144286006) then 1 else 0) := by
  obtain ⟨⟨g1, g2, g3, g4, g5, g6, g7⟩, h⟩ := hK
  unfold me_38_51_1015
  have hno : ∀ k : Int32, rq.2.1 = k → gCmp .ne k 1 = true → hEq tk 1 = false → (bif gCmp .ne rq.2.1 1 then some (0 : Int32) else (Option.bind (me_0_1015 N) fun q2 => (bif gCmp .eq (rq.2.2.2.1 - rq.2.2.1) q2 then lp_38_51_1015_28 N tb rq N 0 else some (0)))) = some (bif hEq tk 1 && decide (vl = lN 144286006) then 1 else 0) := by
    intro k e1 e2 e3
    rw [e1, e2, e3]
    rfl
  rcases h with ⟨k1, rfl⟩ | ⟨k1, rfl, k2, k3, rfl⟩ | ⟨k1, k2, v, k3, k4, ⟨rfl, _⟩ | ⟨rfl, _⟩⟩ | ⟨k1, rfl, k2⟩ | ⟨k1, rfl, k2⟩ | ⟨k1, rfl, k2⟩
  · exact hno 0 k1 (by decide) (by decide)
  · rw [k1, show gCmp .ne (1 : Int32) 1 = false from by decide, show hEq (1 : Int32) 1 = true from by decide, jl_1015, g4, g2, pk_sub g6]
    simp only [Option.bind_some, cond_false, Bool.true_and]
    rw [jeq (e - b) 6 rfl rfl (by omega) (by decide)]
    have hcap := jcap_lt (c := jby tp) (b := b) (e - b) (fun i hi => (k3 (b + i) (by omega) (by omega)).2.1)
    have hE : jcap jW_1015 0 6 = 144286006 := by decide
    have hWl : ∀ i, i < 6 → 97 ≤ jW_1015 i ∧ jW_1015 i ≤ 122 := by decide
    by_cases hlen : e - b = 6
    · rw [decide_eq_true hlen]
      simp only [cond_true]
      rw [show lp_38_51_1015_28 N tb rq N 0 = _ from l_38_1015 (N := N) g1 g2 ht (by omega) (fun i hi1 hi2 => k3 i hi1 (by omega)) 6 0 N (by omega) (by omega)]
      congr 2
      rw [Bool.eq_iff_iff, jall_t, decide_eq_true_eq, pk_lEQ (by omega) (by decide)]
      constructor
      · intro h
        rw [hlen, jcap_ext 6 (fun i hi => h i (Nat.zero_le i) (by omega)), hE]
      · intro h
        obtain ⟨_, h3⟩ := jcap_inj (c := jby tp) (W := jW_1015) (b := b) (e - b) 6 (fun i hi => ⟨(k3 (b + i) (by omega) (by omega)).1, (k3 (b + i) (by omega) (by omega)).2.1⟩) hWl (by rw [h]; decide) (by rw [h, hE])
        exact fun j _ hj => h3 j (by omega)
    · rw [decide_eq_false hlen, decide_eq_false (show ¬ lN (jcap (jby tp) b (e - b)) = lN 144286006 from fun h => hlen (by
        have h2 := (pk_lEQ (by omega) (by decide)).mp h
        exact (jcap_inj (c := jby tp) (W := jW_1015) (b := b) (e - b) 6 (fun i hi => ⟨(k3 (b + i) (by omega) (by omega)).1, (k3 (b + i) (by omega) (by omega)).2.1⟩) hWl (by rw [h2]; decide) (by rw [h2, hE])).1))]
      rfl
  · exact hno 2 k1 (by decide) (by decide)
  · exact hno 2 k1 (by decide) (by decide)
  · exact hno 3 k1 (by decide) (by decide)
  · exact hno 4 k1 (by decide) (by decide)
  · exact hno 5 k1 (by decide) (by decide)
def jW_1016 (i : Nat) : Nat := [112, 117, 108, 108].getD i 0
theorem jl_1016 (N : Nat) : me_0_1016 N = some (nI 4) := rfl
theorem jc_1016 (N : Nat) : ∀ i, i < 4 → me_1_1016 N (nI i) = some (nI (jW_1016 i)) := by
  refine lt_s (lt_s (lt_s (lt_s lt_0 ?_) ?_) ?_) ?_
  all_goals rfl
theorem l_38_1016 {N : Nat} {tb tp : Nat → Int32} {rq : hRq} {t b : Nat} (h1 : rq.1 = nI t) (h2 : rq.2.2.1 = nI b) (ht : t ≤ 120) (hb : b + 4 ≤ t) (hL : ∀ i, b ≤ i → i < b + 4 → 97 ≤ jby tp i ∧ jby tp i ≤ 122 ∧ tb i = nI (jby tp i)) : ∀ (m i n : Nat), i + m = 4 → m < n → lp_38_51_1016_28 N tb rq n (nI i) = some (bif jall (jby tp) b jW_1016 i m then 1 else 0) := by
  intro m
  induction m with
  | zero =>
    intro i n hi hn
    obtain rfl : i = 4 := by omega
    cases n with
    | zero => exact absurd hn (by omega)
    | succ n => rfl
  | succ m ih =>
    intro i n hi hn
    cases n with
    | zero => exact absurd hn (by omega)
    | succ n =>
      obtain ⟨k1, k2, k3⟩ := hL (b + i) (by omega) (by omega)
      have hW : jW_1016 i < 2 ^ 31 := (show ∀ i, i < 4 → jW_1016 i < 2 ^ 31 from by decide) i (by omega)
      rw [lp_38_51_1016_28, jl_1016, jall]
      simp only [Option.bind_some]
      rw [jge i 4 rfl rfl (by omega) (by decide), decide_eq_false (show ¬ 4 ≤ i by omega), h2, h1, nI_add, jge (b + i) t rfl rfl (by omega) (by omega), decide_eq_false (show ¬ t ≤ b + i by omega), jin (show b + i < 120 by omega) (by decide), jc_1016 N i (by omega), jcl (show b + i < 2 ^ 31 by omega), k3, nI_1]
      simp only [Option.bind_some, cond_true, cond_false]
      rw [jeq _ _ rfl rfl (show jby tp (b + i) < 2 ^ 31 by omega) hW]
      by_cases h : jby tp (b + i) = jW_1016 i
      · rw [decide_eq_true h]
        exact ih (i + 1) n (by omega) (by omega)
      · rw [decide_eq_false h]
        rfl
theorem jw_1016 {N : Nat} (hN : 4000 ≤ N) {tb tp : Nat → Int32} {t b e : Nat} {rq : hRq} {tk bg en : Int32} {vl : Int64} (ht : t ≤ 120) (hK : jTk tb tp t rq tk bg en vl b e) : me_38_51_1016 N tb rq = some (bif hEq tk 1 && decide (vl = lN 330573) then 1 else 0) := by
  obtain ⟨⟨g1, g2, g3, g4, g5, g6, g7⟩, h⟩ := hK
  unfold me_38_51_1016
  have hno : ∀ k : Int32, rq.2.1 = k → gCmp .ne k 1 = true → hEq tk 1 = false → (bif gCmp .ne rq.2.1 1 then some (0 : Int32) else (Option.bind (me_0_1016 N) fun q2 => (bif gCmp .eq (rq.2.2.2.1 - rq.2.2.1) q2 then lp_38_51_1016_28 N tb rq N 0 else some (0)))) = some (bif hEq tk 1 && decide (vl = lN 330573) then 1 else 0) := by
    intro k e1 e2 e3
    rw [e1, e2, e3]
    rfl
  rcases h with ⟨k1, rfl⟩ | ⟨k1, rfl, k2, k3, rfl⟩ | ⟨k1, k2, v, k3, k4, ⟨rfl, _⟩ | ⟨rfl, _⟩⟩ | ⟨k1, rfl, k2⟩ | ⟨k1, rfl, k2⟩ | ⟨k1, rfl, k2⟩
  · exact hno 0 k1 (by decide) (by decide)
  · rw [k1, show gCmp .ne (1 : Int32) 1 = false from by decide, show hEq (1 : Int32) 1 = true from by decide, jl_1016, g4, g2, pk_sub g6]
    simp only [Option.bind_some, cond_false, Bool.true_and]
    rw [jeq (e - b) 4 rfl rfl (by omega) (by decide)]
    have hcap := jcap_lt (c := jby tp) (b := b) (e - b) (fun i hi => (k3 (b + i) (by omega) (by omega)).2.1)
    have hE : jcap jW_1016 0 4 = 330573 := by decide
    have hWl : ∀ i, i < 4 → 97 ≤ jW_1016 i ∧ jW_1016 i ≤ 122 := by decide
    by_cases hlen : e - b = 4
    · rw [decide_eq_true hlen]
      simp only [cond_true]
      rw [show lp_38_51_1016_28 N tb rq N 0 = _ from l_38_1016 (N := N) g1 g2 ht (by omega) (fun i hi1 hi2 => k3 i hi1 (by omega)) 4 0 N (by omega) (by omega)]
      congr 2
      rw [Bool.eq_iff_iff, jall_t, decide_eq_true_eq, pk_lEQ (by omega) (by decide)]
      constructor
      · intro h
        rw [hlen, jcap_ext 4 (fun i hi => h i (Nat.zero_le i) (by omega)), hE]
      · intro h
        obtain ⟨_, h3⟩ := jcap_inj (c := jby tp) (W := jW_1016) (b := b) (e - b) 4 (fun i hi => ⟨(k3 (b + i) (by omega) (by omega)).1, (k3 (b + i) (by omega) (by omega)).2.1⟩) hWl (by rw [h]; decide) (by rw [h, hE])
        exact fun j _ hj => h3 j (by omega)
    · rw [decide_eq_false hlen, decide_eq_false (show ¬ lN (jcap (jby tp) b (e - b)) = lN 330573 from fun h => hlen (by
        have h2 := (pk_lEQ (by omega) (by decide)).mp h
        exact (jcap_inj (c := jby tp) (W := jW_1016) (b := b) (e - b) 4 (fun i hi => ⟨(k3 (b + i) (by omega) (by omega)).1, (k3 (b + i) (by omega) (by omega)).2.1⟩) hWl (by rw [h2]; decide) (by rw [h2, hE])).1))]
      rfl
  · exact hno 2 k1 (by decide) (by decide)
  · exact hno 2 k1 (by decide) (by decide)
  · exact hno 3 k1 (by decide) (by decide)
  · exact hno 4 k1 (by decide) (by decide)
  · exact hno 5 k1 (by decide) (by decide)
def jW_1017 (i : Nat) : Nat := [98, 121].getD i 0
theorem jl_1017 (N : Nat) : me_0_1017 N = some (nI 2) := rfl
theorem jc_1017 (N : Nat) : ∀ i, i < 2 → me_1_1017 N (nI i) = some (nI (jW_1017 i)) := by
  refine lt_s (lt_s lt_0 ?_) ?_
  all_goals rfl
theorem l_38_1017 {N : Nat} {tb tp : Nat → Int32} {rq : hRq} {t b : Nat} (h1 : rq.1 = nI t) (h2 : rq.2.2.1 = nI b) (ht : t ≤ 120) (hb : b + 2 ≤ t) (hL : ∀ i, b ≤ i → i < b + 2 → 97 ≤ jby tp i ∧ jby tp i ≤ 122 ∧ tb i = nI (jby tp i)) : ∀ (m i n : Nat), i + m = 2 → m < n → lp_38_51_1017_28 N tb rq n (nI i) = some (bif jall (jby tp) b jW_1017 i m then 1 else 0) := by
  intro m
  induction m with
  | zero =>
    intro i n hi hn
    obtain rfl : i = 2 := by omega
    cases n with
    | zero => exact absurd hn (by omega)
    | succ n => rfl
  | succ m ih =>
    intro i n hi hn
    cases n with
    | zero => exact absurd hn (by omega)
    | succ n =>
      obtain ⟨k1, k2, k3⟩ := hL (b + i) (by omega) (by omega)
      have hW : jW_1017 i < 2 ^ 31 := (show ∀ i, i < 2 → jW_1017 i < 2 ^ 31 from by decide) i (by omega)
      rw [lp_38_51_1017_28, jl_1017, jall]
      simp only [Option.bind_some]
      rw [jge i 2 rfl rfl (by omega) (by decide), decide_eq_false (show ¬ 2 ≤ i by omega), h2, h1, nI_add, jge (b + i) t rfl rfl (by omega) (by omega), decide_eq_false (show ¬ t ≤ b + i by omega), jin (show b + i < 120 by omega) (by decide), jc_1017 N i (by omega), jcl (show b + i < 2 ^ 31 by omega), k3, nI_1]
      simp only [Option.bind_some, cond_true, cond_false]
      rw [jeq _ _ rfl rfl (show jby tp (b + i) < 2 ^ 31 by omega) hW]
      by_cases h : jby tp (b + i) = jW_1017 i
      · rw [decide_eq_true h]
        exact ih (i + 1) n (by omega) (by omega)
      · rw [decide_eq_false h]
        rfl
theorem jw_1017 {N : Nat} (hN : 4000 ≤ N) {tb tp : Nat → Int32} {t b e : Nat} {rq : hRq} {tk bg en : Int32} {vl : Int64} (ht : t ≤ 120) (hK : jTk tb tp t rq tk bg en vl b e) : me_38_51_1017 N tb rq = some (bif hEq tk 1 && decide (vl = lN 79) then 1 else 0) := by
  obtain ⟨⟨g1, g2, g3, g4, g5, g6, g7⟩, h⟩ := hK
  unfold me_38_51_1017
  have hno : ∀ k : Int32, rq.2.1 = k → gCmp .ne k 1 = true → hEq tk 1 = false → (bif gCmp .ne rq.2.1 1 then some (0 : Int32) else (Option.bind (me_0_1017 N) fun q2 => (bif gCmp .eq (rq.2.2.2.1 - rq.2.2.1) q2 then lp_38_51_1017_28 N tb rq N 0 else some (0)))) = some (bif hEq tk 1 && decide (vl = lN 79) then 1 else 0) := by
    intro k e1 e2 e3
    rw [e1, e2, e3]
    rfl
  rcases h with ⟨k1, rfl⟩ | ⟨k1, rfl, k2, k3, rfl⟩ | ⟨k1, k2, v, k3, k4, ⟨rfl, _⟩ | ⟨rfl, _⟩⟩ | ⟨k1, rfl, k2⟩ | ⟨k1, rfl, k2⟩ | ⟨k1, rfl, k2⟩
  · exact hno 0 k1 (by decide) (by decide)
  · rw [k1, show gCmp .ne (1 : Int32) 1 = false from by decide, show hEq (1 : Int32) 1 = true from by decide, jl_1017, g4, g2, pk_sub g6]
    simp only [Option.bind_some, cond_false, Bool.true_and]
    rw [jeq (e - b) 2 rfl rfl (by omega) (by decide)]
    have hcap := jcap_lt (c := jby tp) (b := b) (e - b) (fun i hi => (k3 (b + i) (by omega) (by omega)).2.1)
    have hE : jcap jW_1017 0 2 = 79 := by decide
    have hWl : ∀ i, i < 2 → 97 ≤ jW_1017 i ∧ jW_1017 i ≤ 122 := by decide
    by_cases hlen : e - b = 2
    · rw [decide_eq_true hlen]
      simp only [cond_true]
      rw [show lp_38_51_1017_28 N tb rq N 0 = _ from l_38_1017 (N := N) g1 g2 ht (by omega) (fun i hi1 hi2 => k3 i hi1 (by omega)) 2 0 N (by omega) (by omega)]
      congr 2
      rw [Bool.eq_iff_iff, jall_t, decide_eq_true_eq, pk_lEQ (by omega) (by decide)]
      constructor
      · intro h
        rw [hlen, jcap_ext 2 (fun i hi => h i (Nat.zero_le i) (by omega)), hE]
      · intro h
        obtain ⟨_, h3⟩ := jcap_inj (c := jby tp) (W := jW_1017) (b := b) (e - b) 2 (fun i hi => ⟨(k3 (b + i) (by omega) (by omega)).1, (k3 (b + i) (by omega) (by omega)).2.1⟩) hWl (by rw [h]; decide) (by rw [h, hE])
        exact fun j _ hj => h3 j (by omega)
    · rw [decide_eq_false hlen, decide_eq_false (show ¬ lN (jcap (jby tp) b (e - b)) = lN 79 from fun h => hlen (by
        have h2 := (pk_lEQ (by omega) (by decide)).mp h
        exact (jcap_inj (c := jby tp) (W := jW_1017) (b := b) (e - b) 2 (fun i hi => ⟨(k3 (b + i) (by omega) (by omega)).1, (k3 (b + i) (by omega) (by omega)).2.1⟩) hWl (by rw [h2]; decide) (by rw [h2, hE])).1))]
      rfl
  · exact hno 2 k1 (by decide) (by decide)
  · exact hno 2 k1 (by decide) (by decide)
  · exact hno 3 k1 (by decide) (by decide)
  · exact hno 4 k1 (by decide) (by decide)
  · exact hno 5 k1 (by decide) (by decide)
def jW_1018 (i : Nat) : Nat := [108, 101, 97, 110].getD i 0
theorem jl_1018 (N : Nat) : me_0_1018 N = some (nI 4) := rfl
theorem jc_1018 (N : Nat) : ∀ i, i < 4 → me_1_1018 N (nI i) = some (nI (jW_1018 i)) := by
  refine lt_s (lt_s (lt_s (lt_s lt_0 ?_) ?_) ?_) ?_
  all_goals rfl
theorem l_38_1018 {N : Nat} {tb tp : Nat → Int32} {rq : hRq} {t b : Nat} (h1 : rq.1 = nI t) (h2 : rq.2.2.1 = nI b) (ht : t ≤ 120) (hb : b + 4 ≤ t) (hL : ∀ i, b ≤ i → i < b + 4 → 97 ≤ jby tp i ∧ jby tp i ≤ 122 ∧ tb i = nI (jby tp i)) : ∀ (m i n : Nat), i + m = 4 → m < n → lp_38_51_1018_28 N tb rq n (nI i) = some (bif jall (jby tp) b jW_1018 i m then 1 else 0) := by
  intro m
  induction m with
  | zero =>
    intro i n hi hn
    obtain rfl : i = 4 := by omega
    cases n with
    | zero => exact absurd hn (by omega)
    | succ n => rfl
  | succ m ih =>
    intro i n hi hn
    cases n with
    | zero => exact absurd hn (by omega)
    | succ n =>
      obtain ⟨k1, k2, k3⟩ := hL (b + i) (by omega) (by omega)
      have hW : jW_1018 i < 2 ^ 31 := (show ∀ i, i < 4 → jW_1018 i < 2 ^ 31 from by decide) i (by omega)
      rw [lp_38_51_1018_28, jl_1018, jall]
      simp only [Option.bind_some]
      rw [jge i 4 rfl rfl (by omega) (by decide), decide_eq_false (show ¬ 4 ≤ i by omega), h2, h1, nI_add, jge (b + i) t rfl rfl (by omega) (by omega), decide_eq_false (show ¬ t ≤ b + i by omega), jin (show b + i < 120 by omega) (by decide), jc_1018 N i (by omega), jcl (show b + i < 2 ^ 31 by omega), k3, nI_1]
      simp only [Option.bind_some, cond_true, cond_false]
      rw [jeq _ _ rfl rfl (show jby tp (b + i) < 2 ^ 31 by omega) hW]
      by_cases h : jby tp (b + i) = jW_1018 i
      · rw [decide_eq_true h]
        exact ih (i + 1) n (by omega) (by omega)
      · rw [decide_eq_false h]
        rfl
theorem jw_1018 {N : Nat} (hN : 4000 ≤ N) {tb tp : Nat → Int32} {t b e : Nat} {rq : hRq} {tk bg en : Int32} {vl : Int64} (ht : t ≤ 120) (hK : jTk tb tp t rq tk bg en vl b e) : me_38_51_1018 N tb rq = some (bif hEq tk 1 && decide (vl = lN 239882) then 1 else 0) := by
  obtain ⟨⟨g1, g2, g3, g4, g5, g6, g7⟩, h⟩ := hK
  unfold me_38_51_1018
  have hno : ∀ k : Int32, rq.2.1 = k → gCmp .ne k 1 = true → hEq tk 1 = false → (bif gCmp .ne rq.2.1 1 then some (0 : Int32) else (Option.bind (me_0_1018 N) fun q2 => (bif gCmp .eq (rq.2.2.2.1 - rq.2.2.1) q2 then lp_38_51_1018_28 N tb rq N 0 else some (0)))) = some (bif hEq tk 1 && decide (vl = lN 239882) then 1 else 0) := by
    intro k e1 e2 e3
    rw [e1, e2, e3]
    rfl
  rcases h with ⟨k1, rfl⟩ | ⟨k1, rfl, k2, k3, rfl⟩ | ⟨k1, k2, v, k3, k4, ⟨rfl, _⟩ | ⟨rfl, _⟩⟩ | ⟨k1, rfl, k2⟩ | ⟨k1, rfl, k2⟩ | ⟨k1, rfl, k2⟩
  · exact hno 0 k1 (by decide) (by decide)
  · rw [k1, show gCmp .ne (1 : Int32) 1 = false from by decide, show hEq (1 : Int32) 1 = true from by decide, jl_1018, g4, g2, pk_sub g6]
    simp only [Option.bind_some, cond_false, Bool.true_and]
    rw [jeq (e - b) 4 rfl rfl (by omega) (by decide)]
    have hcap := jcap_lt (c := jby tp) (b := b) (e - b) (fun i hi => (k3 (b + i) (by omega) (by omega)).2.1)
    have hE : jcap jW_1018 0 4 = 239882 := by decide
    have hWl : ∀ i, i < 4 → 97 ≤ jW_1018 i ∧ jW_1018 i ≤ 122 := by decide
    by_cases hlen : e - b = 4
    · rw [decide_eq_true hlen]
      simp only [cond_true]
      rw [show lp_38_51_1018_28 N tb rq N 0 = _ from l_38_1018 (N := N) g1 g2 ht (by omega) (fun i hi1 hi2 => k3 i hi1 (by omega)) 4 0 N (by omega) (by omega)]
      congr 2
      rw [Bool.eq_iff_iff, jall_t, decide_eq_true_eq, pk_lEQ (by omega) (by decide)]
      constructor
      · intro h
        rw [hlen, jcap_ext 4 (fun i hi => h i (Nat.zero_le i) (by omega)), hE]
      · intro h
        obtain ⟨_, h3⟩ := jcap_inj (c := jby tp) (W := jW_1018) (b := b) (e - b) 4 (fun i hi => ⟨(k3 (b + i) (by omega) (by omega)).1, (k3 (b + i) (by omega) (by omega)).2.1⟩) hWl (by rw [h]; decide) (by rw [h, hE])
        exact fun j _ hj => h3 j (by omega)
    · rw [decide_eq_false hlen, decide_eq_false (show ¬ lN (jcap (jby tp) b (e - b)) = lN 239882 from fun h => hlen (by
        have h2 := (pk_lEQ (by omega) (by decide)).mp h
        exact (jcap_inj (c := jby tp) (W := jW_1018) (b := b) (e - b) 4 (fun i hi => ⟨(k3 (b + i) (by omega) (by omega)).1, (k3 (b + i) (by omega) (by omega)).2.1⟩) hWl (by rw [h2]; decide) (by rw [h2, hE])).1))]
      rfl
  · exact hno 2 k1 (by decide) (by decide)
  · exact hno 2 k1 (by decide) (by decide)
  · exact hno 3 k1 (by decide) (by decide)
  · exact hno 4 k1 (by decide) (by decide)
  · exact hno 5 k1 (by decide) (by decide)
def jW_1019 (i : Nat) : Nat := [107, 110, 111, 116].getD i 0
theorem jl_1019 (N : Nat) : me_0_1019 N = some (nI 4) := rfl
theorem jc_1019 (N : Nat) : ∀ i, i < 4 → me_1_1019 N (nI i) = some (nI (jW_1019 i)) := by
  refine lt_s (lt_s (lt_s (lt_s lt_0 ?_) ?_) ?_) ?_
  all_goals rfl
theorem l_38_1019 {N : Nat} {tb tp : Nat → Int32} {rq : hRq} {t b : Nat} (h1 : rq.1 = nI t) (h2 : rq.2.2.1 = nI b) (ht : t ≤ 120) (hb : b + 4 ≤ t) (hL : ∀ i, b ≤ i → i < b + 4 → 97 ≤ jby tp i ∧ jby tp i ≤ 122 ∧ tb i = nI (jby tp i)) : ∀ (m i n : Nat), i + m = 4 → m < n → lp_38_51_1019_28 N tb rq n (nI i) = some (bif jall (jby tp) b jW_1019 i m then 1 else 0) := by
  intro m
  induction m with
  | zero =>
    intro i n hi hn
    obtain rfl : i = 4 := by omega
    cases n with
    | zero => exact absurd hn (by omega)
    | succ n => rfl
  | succ m ih =>
    intro i n hi hn
    cases n with
    | zero => exact absurd hn (by omega)
    | succ n =>
      obtain ⟨k1, k2, k3⟩ := hL (b + i) (by omega) (by omega)
      have hW : jW_1019 i < 2 ^ 31 := (show ∀ i, i < 4 → jW_1019 i < 2 ^ 31 from by decide) i (by omega)
      rw [lp_38_51_1019_28, jl_1019, jall]
      simp only [Option.bind_some]
      rw [jge i 4 rfl rfl (by omega) (by decide), decide_eq_false (show ¬ 4 ≤ i by omega), h2, h1, nI_add, jge (b + i) t rfl rfl (by omega) (by omega), decide_eq_false (show ¬ t ≤ b + i by omega), jin (show b + i < 120 by omega) (by decide), jc_1019 N i (by omega), jcl (show b + i < 2 ^ 31 by omega), k3, nI_1]
      simp only [Option.bind_some, cond_true, cond_false]
      rw [jeq _ _ rfl rfl (show jby tp (b + i) < 2 ^ 31 by omega) hW]
      by_cases h : jby tp (b + i) = jW_1019 i
      · rw [decide_eq_true h]
        exact ih (i + 1) n (by omega) (by omega)
      · rw [decide_eq_false h]
        rfl
theorem jw_1019 {N : Nat} (hN : 4000 ≤ N) {tb tp : Nat → Int32} {t b e : Nat} {rq : hRq} {tk bg en : Int32} {vl : Int64} (ht : t ≤ 120) (hK : jTk tb tp t rq tk bg en vl b e) : me_38_51_1019 N tb rq = some (bif hEq tk 1 && decide (vl = lN 227144) then 1 else 0) := by
  obtain ⟨⟨g1, g2, g3, g4, g5, g6, g7⟩, h⟩ := hK
  unfold me_38_51_1019
  have hno : ∀ k : Int32, rq.2.1 = k → gCmp .ne k 1 = true → hEq tk 1 = false → (bif gCmp .ne rq.2.1 1 then some (0 : Int32) else (Option.bind (me_0_1019 N) fun q2 => (bif gCmp .eq (rq.2.2.2.1 - rq.2.2.1) q2 then lp_38_51_1019_28 N tb rq N 0 else some (0)))) = some (bif hEq tk 1 && decide (vl = lN 227144) then 1 else 0) := by
    intro k e1 e2 e3
    rw [e1, e2, e3]
    rfl
  rcases h with ⟨k1, rfl⟩ | ⟨k1, rfl, k2, k3, rfl⟩ | ⟨k1, k2, v, k3, k4, ⟨rfl, _⟩ | ⟨rfl, _⟩⟩ | ⟨k1, rfl, k2⟩ | ⟨k1, rfl, k2⟩ | ⟨k1, rfl, k2⟩
  · exact hno 0 k1 (by decide) (by decide)
  · rw [k1, show gCmp .ne (1 : Int32) 1 = false from by decide, show hEq (1 : Int32) 1 = true from by decide, jl_1019, g4, g2, pk_sub g6]
    simp only [Option.bind_some, cond_false, Bool.true_and]
    rw [jeq (e - b) 4 rfl rfl (by omega) (by decide)]
    have hcap := jcap_lt (c := jby tp) (b := b) (e - b) (fun i hi => (k3 (b + i) (by omega) (by omega)).2.1)
    have hE : jcap jW_1019 0 4 = 227144 := by decide
    have hWl : ∀ i, i < 4 → 97 ≤ jW_1019 i ∧ jW_1019 i ≤ 122 := by decide
    by_cases hlen : e - b = 4
    · rw [decide_eq_true hlen]
      simp only [cond_true]
      rw [show lp_38_51_1019_28 N tb rq N 0 = _ from l_38_1019 (N := N) g1 g2 ht (by omega) (fun i hi1 hi2 => k3 i hi1 (by omega)) 4 0 N (by omega) (by omega)]
      congr 2
      rw [Bool.eq_iff_iff, jall_t, decide_eq_true_eq, pk_lEQ (by omega) (by decide)]
      constructor
      · intro h
        rw [hlen, jcap_ext 4 (fun i hi => h i (Nat.zero_le i) (by omega)), hE]
      · intro h
        obtain ⟨_, h3⟩ := jcap_inj (c := jby tp) (W := jW_1019) (b := b) (e - b) 4 (fun i hi => ⟨(k3 (b + i) (by omega) (by omega)).1, (k3 (b + i) (by omega) (by omega)).2.1⟩) hWl (by rw [h]; decide) (by rw [h, hE])
        exact fun j _ hj => h3 j (by omega)
    · rw [decide_eq_false hlen, decide_eq_false (show ¬ lN (jcap (jby tp) b (e - b)) = lN 227144 from fun h => hlen (by
        have h2 := (pk_lEQ (by omega) (by decide)).mp h
        exact (jcap_inj (c := jby tp) (W := jW_1019) (b := b) (e - b) 4 (fun i hi => ⟨(k3 (b + i) (by omega) (by omega)).1, (k3 (b + i) (by omega) (by omega)).2.1⟩) hWl (by rw [h2]; decide) (by rw [h2, hE])).1))]
      rfl
  · exact hno 2 k1 (by decide) (by decide)
  · exact hno 2 k1 (by decide) (by decide)
  · exact hno 3 k1 (by decide) (by decide)
  · exact hno 4 k1 (by decide) (by decide)
  · exact hno 5 k1 (by decide) (by decide)
def jW_1020 (i : Nat) : Nat := [115, 108, 105, 112].getD i 0
theorem jl_1020 (N : Nat) : me_0_1020 N = some (nI 4) := rfl
theorem jc_1020 (N : Nat) : ∀ i, i < 4 → me_1_1020 N (nI i) = some (nI (jW_1020 i)) := by
  refine lt_s (lt_s (lt_s (lt_s lt_0 ?_) ?_) ?_) ?_
  all_goals rfl
theorem l_38_1020 {N : Nat} {tb tp : Nat → Int32} {rq : hRq} {t b : Nat} (h1 : rq.1 = nI t) (h2 : rq.2.2.1 = nI b) (ht : t ≤ 120) (hb : b + 4 ≤ t) (hL : ∀ i, b ≤ i → i < b + 4 → 97 ≤ jby tp i ∧ jby tp i ≤ 122 ∧ tb i = nI (jby tp i)) : ∀ (m i n : Nat), i + m = 4 → m < n → lp_38_51_1020_28 N tb rq n (nI i) = some (bif jall (jby tp) b jW_1020 i m then 1 else 0) := by
  intro m
  induction m with
  | zero =>
    intro i n hi hn
    obtain rfl : i = 4 := by omega
    cases n with
    | zero => exact absurd hn (by omega)
    | succ n => rfl
  | succ m ih =>
    intro i n hi hn
    cases n with
    | zero => exact absurd hn (by omega)
    | succ n =>
      obtain ⟨k1, k2, k3⟩ := hL (b + i) (by omega) (by omega)
      have hW : jW_1020 i < 2 ^ 31 := (show ∀ i, i < 4 → jW_1020 i < 2 ^ 31 from by decide) i (by omega)
      rw [lp_38_51_1020_28, jl_1020, jall]
      simp only [Option.bind_some]
      rw [jge i 4 rfl rfl (by omega) (by decide), decide_eq_false (show ¬ 4 ≤ i by omega), h2, h1, nI_add, jge (b + i) t rfl rfl (by omega) (by omega), decide_eq_false (show ¬ t ≤ b + i by omega), jin (show b + i < 120 by omega) (by decide), jc_1020 N i (by omega), jcl (show b + i < 2 ^ 31 by omega), k3, nI_1]
      simp only [Option.bind_some, cond_true, cond_false]
      rw [jeq _ _ rfl rfl (show jby tp (b + i) < 2 ^ 31 by omega) hW]
      by_cases h : jby tp (b + i) = jW_1020 i
      · rw [decide_eq_true h]
        exact ih (i + 1) n (by omega) (by omega)
      · rw [decide_eq_false h]
        rfl
theorem jw_1020 {N : Nat} (hN : 4000 ≤ N) {tb tp : Nat → Int32} {t b e : Nat} {rq : hRq} {tk bg en : Int32} {vl : Int64} (ht : t ≤ 120) (hK : jTk tb tp t rq tk bg en vl b e) : me_38_51_1020 N tb rq = some (bif hEq tk 1 && decide (vl = lN 382984) then 1 else 0) := by
  obtain ⟨⟨g1, g2, g3, g4, g5, g6, g7⟩, h⟩ := hK
  unfold me_38_51_1020
  have hno : ∀ k : Int32, rq.2.1 = k → gCmp .ne k 1 = true → hEq tk 1 = false → (bif gCmp .ne rq.2.1 1 then some (0 : Int32) else (Option.bind (me_0_1020 N) fun q2 => (bif gCmp .eq (rq.2.2.2.1 - rq.2.2.1) q2 then lp_38_51_1020_28 N tb rq N 0 else some (0)))) = some (bif hEq tk 1 && decide (vl = lN 382984) then 1 else 0) := by
    intro k e1 e2 e3
    rw [e1, e2, e3]
    rfl
  rcases h with ⟨k1, rfl⟩ | ⟨k1, rfl, k2, k3, rfl⟩ | ⟨k1, k2, v, k3, k4, ⟨rfl, _⟩ | ⟨rfl, _⟩⟩ | ⟨k1, rfl, k2⟩ | ⟨k1, rfl, k2⟩ | ⟨k1, rfl, k2⟩
  · exact hno 0 k1 (by decide) (by decide)
  · rw [k1, show gCmp .ne (1 : Int32) 1 = false from by decide, show hEq (1 : Int32) 1 = true from by decide, jl_1020, g4, g2, pk_sub g6]
    simp only [Option.bind_some, cond_false, Bool.true_and]
    rw [jeq (e - b) 4 rfl rfl (by omega) (by decide)]
    have hcap := jcap_lt (c := jby tp) (b := b) (e - b) (fun i hi => (k3 (b + i) (by omega) (by omega)).2.1)
    have hE : jcap jW_1020 0 4 = 382984 := by decide
    have hWl : ∀ i, i < 4 → 97 ≤ jW_1020 i ∧ jW_1020 i ≤ 122 := by decide
    by_cases hlen : e - b = 4
    · rw [decide_eq_true hlen]
      simp only [cond_true]
      rw [show lp_38_51_1020_28 N tb rq N 0 = _ from l_38_1020 (N := N) g1 g2 ht (by omega) (fun i hi1 hi2 => k3 i hi1 (by omega)) 4 0 N (by omega) (by omega)]
      congr 2
      rw [Bool.eq_iff_iff, jall_t, decide_eq_true_eq, pk_lEQ (by omega) (by decide)]
      constructor
      · intro h
        rw [hlen, jcap_ext 4 (fun i hi => h i (Nat.zero_le i) (by omega)), hE]
      · intro h
        obtain ⟨_, h3⟩ := jcap_inj (c := jby tp) (W := jW_1020) (b := b) (e - b) 4 (fun i hi => ⟨(k3 (b + i) (by omega) (by omega)).1, (k3 (b + i) (by omega) (by omega)).2.1⟩) hWl (by rw [h]; decide) (by rw [h, hE])
        exact fun j _ hj => h3 j (by omega)
    · rw [decide_eq_false hlen, decide_eq_false (show ¬ lN (jcap (jby tp) b (e - b)) = lN 382984 from fun h => hlen (by
        have h2 := (pk_lEQ (by omega) (by decide)).mp h
        exact (jcap_inj (c := jby tp) (W := jW_1020) (b := b) (e - b) 4 (fun i hi => ⟨(k3 (b + i) (by omega) (by omega)).1, (k3 (b + i) (by omega) (by omega)).2.1⟩) hWl (by rw [h2]; decide) (by rw [h2, hE])).1))]
      rfl
  · exact hno 2 k1 (by decide) (by decide)
  · exact hno 2 k1 (by decide) (by decide)
  · exact hno 3 k1 (by decide) (by decide)
  · exact hno 4 k1 (by decide) (by decide)
  · exact hno 5 k1 (by decide) (by decide)
def jW_1021 (i : Nat) : Nat := [119, 105, 110, 100].getD i 0
theorem jl_1021 (N : Nat) : me_0_1021 N = some (nI 4) := rfl
theorem jc_1021 (N : Nat) : ∀ i, i < 4 → me_1_1021 N (nI i) = some (nI (jW_1021 i)) := by
  refine lt_s (lt_s (lt_s (lt_s lt_0 ?_) ?_) ?_) ?_
  all_goals rfl
theorem l_38_1021 {N : Nat} {tb tp : Nat → Int32} {rq : hRq} {t b : Nat} (h1 : rq.1 = nI t) (h2 : rq.2.2.1 = nI b) (ht : t ≤ 120) (hb : b + 4 ≤ t) (hL : ∀ i, b ≤ i → i < b + 4 → 97 ≤ jby tp i ∧ jby tp i ≤ 122 ∧ tb i = nI (jby tp i)) : ∀ (m i n : Nat), i + m = 4 → m < n → lp_38_51_1021_28 N tb rq n (nI i) = some (bif jall (jby tp) b jW_1021 i m then 1 else 0) := by
  intro m
  induction m with
  | zero =>
    intro i n hi hn
    obtain rfl : i = 4 := by omega
    cases n with
    | zero => exact absurd hn (by omega)
    | succ n => rfl
  | succ m ih =>
    intro i n hi hn
    cases n with
    | zero => exact absurd hn (by omega)
    | succ n =>
      obtain ⟨k1, k2, k3⟩ := hL (b + i) (by omega) (by omega)
      have hW : jW_1021 i < 2 ^ 31 := (show ∀ i, i < 4 → jW_1021 i < 2 ^ 31 from by decide) i (by omega)
      rw [lp_38_51_1021_28, jl_1021, jall]
      simp only [Option.bind_some]
      rw [jge i 4 rfl rfl (by omega) (by decide), decide_eq_false (show ¬ 4 ≤ i by omega), h2, h1, nI_add, jge (b + i) t rfl rfl (by omega) (by omega), decide_eq_false (show ¬ t ≤ b + i by omega), jin (show b + i < 120 by omega) (by decide), jc_1021 N i (by omega), jcl (show b + i < 2 ^ 31 by omega), k3, nI_1]
      simp only [Option.bind_some, cond_true, cond_false]
      rw [jeq _ _ rfl rfl (show jby tp (b + i) < 2 ^ 31 by omega) hW]
      by_cases h : jby tp (b + i) = jW_1021 i
      · rw [decide_eq_true h]
        exact ih (i + 1) n (by omega) (by omega)
      · rw [decide_eq_false h]
        rfl
theorem jw_1021 {N : Nat} (hN : 4000 ≤ N) {tb tp : Nat → Int32} {t b e : Nat} {rq : hRq} {tk bg en : Int32} {vl : Int64} (ht : t ≤ 120) (hK : jTk tb tp t rq tk bg en vl b e) : me_38_51_1021 N tb rq = some (bif hEq tk 1 && decide (vl = lN 459652) then 1 else 0) := by
  obtain ⟨⟨g1, g2, g3, g4, g5, g6, g7⟩, h⟩ := hK
  unfold me_38_51_1021
  have hno : ∀ k : Int32, rq.2.1 = k → gCmp .ne k 1 = true → hEq tk 1 = false → (bif gCmp .ne rq.2.1 1 then some (0 : Int32) else (Option.bind (me_0_1021 N) fun q2 => (bif gCmp .eq (rq.2.2.2.1 - rq.2.2.1) q2 then lp_38_51_1021_28 N tb rq N 0 else some (0)))) = some (bif hEq tk 1 && decide (vl = lN 459652) then 1 else 0) := by
    intro k e1 e2 e3
    rw [e1, e2, e3]
    rfl
  rcases h with ⟨k1, rfl⟩ | ⟨k1, rfl, k2, k3, rfl⟩ | ⟨k1, k2, v, k3, k4, ⟨rfl, _⟩ | ⟨rfl, _⟩⟩ | ⟨k1, rfl, k2⟩ | ⟨k1, rfl, k2⟩ | ⟨k1, rfl, k2⟩
  · exact hno 0 k1 (by decide) (by decide)
  · rw [k1, show gCmp .ne (1 : Int32) 1 = false from by decide, show hEq (1 : Int32) 1 = true from by decide, jl_1021, g4, g2, pk_sub g6]
    simp only [Option.bind_some, cond_false, Bool.true_and]
    rw [jeq (e - b) 4 rfl rfl (by omega) (by decide)]
    have hcap := jcap_lt (c := jby tp) (b := b) (e - b) (fun i hi => (k3 (b + i) (by omega) (by omega)).2.1)
    have hE : jcap jW_1021 0 4 = 459652 := by decide
    have hWl : ∀ i, i < 4 → 97 ≤ jW_1021 i ∧ jW_1021 i ≤ 122 := by decide
    by_cases hlen : e - b = 4
    · rw [decide_eq_true hlen]
      simp only [cond_true]
      rw [show lp_38_51_1021_28 N tb rq N 0 = _ from l_38_1021 (N := N) g1 g2 ht (by omega) (fun i hi1 hi2 => k3 i hi1 (by omega)) 4 0 N (by omega) (by omega)]
      congr 2
      rw [Bool.eq_iff_iff, jall_t, decide_eq_true_eq, pk_lEQ (by omega) (by decide)]
      constructor
      · intro h
        rw [hlen, jcap_ext 4 (fun i hi => h i (Nat.zero_le i) (by omega)), hE]
      · intro h
        obtain ⟨_, h3⟩ := jcap_inj (c := jby tp) (W := jW_1021) (b := b) (e - b) 4 (fun i hi => ⟨(k3 (b + i) (by omega) (by omega)).1, (k3 (b + i) (by omega) (by omega)).2.1⟩) hWl (by rw [h]; decide) (by rw [h, hE])
        exact fun j _ hj => h3 j (by omega)
    · rw [decide_eq_false hlen, decide_eq_false (show ¬ lN (jcap (jby tp) b (e - b)) = lN 459652 from fun h => hlen (by
        have h2 := (pk_lEQ (by omega) (by decide)).mp h
        exact (jcap_inj (c := jby tp) (W := jW_1021) (b := b) (e - b) 4 (fun i hi => ⟨(k3 (b + i) (by omega) (by omega)).1, (k3 (b + i) (by omega) (by omega)).2.1⟩) hWl (by rw [h2]; decide) (by rw [h2, hE])).1))]
      rfl
  · exact hno 2 k1 (by decide) (by decide)
  · exact hno 2 k1 (by decide) (by decide)
  · exact hno 3 k1 (by decide) (by decide)
  · exact hno 4 k1 (by decide) (by decide)
  · exact hno 5 k1 (by decide) (by decide)
def jW_1022 (i : Nat) : Nat := [99, 117, 114, 116, 97, 105, 110].getD i 0
theorem jl_1022 (N : Nat) : me_0_1022 N = some (nI 7) := rfl
theorem jc_1022 (N : Nat) : ∀ i, i < 7 → me_1_1022 N (nI i) = some (nI (jW_1022 i)) := by
  refine lt_s (lt_s (lt_s (lt_s (lt_s (lt_s (lt_s lt_0 ?_) ?_) ?_) ?_) ?_) ?_) ?_
  all_goals rfl
theorem l_38_1022 {N : Nat} {tb tp : Nat → Int32} {rq : hRq} {t b : Nat} (h1 : rq.1 = nI t) (h2 : rq.2.2.1 = nI b) (ht : t ≤ 120) (hb : b + 7 ≤ t) (hL : ∀ i, b ≤ i → i < b + 7 → 97 ≤ jby tp i ∧ jby tp i ≤ 122 ∧ tb i = nI (jby tp i)) : ∀ (m i n : Nat), i + m = 7 → m < n → lp_38_51_1022_28 N tb rq n (nI i) = some (bif jall (jby tp) b jW_1022 i m then 1 else 0) := by
  intro m
  induction m with
  | zero =>
    intro i n hi hn
    obtain rfl : i = 7 := by omega
    cases n with
    | zero => exact absurd hn (by omega)
    | succ n => rfl
  | succ m ih =>
    intro i n hi hn
    cases n with
    | zero => exact absurd hn (by omega)
    | succ n =>
      obtain ⟨k1, k2, k3⟩ := hL (b + i) (by omega) (by omega)
      have hW : jW_1022 i < 2 ^ 31 := (show ∀ i, i < 7 → jW_1022 i < 2 ^ 31 from by decide) i (by omega)
      rw [lp_38_51_1022_28, jl_1022, jall]
      simp only [Option.bind_some]
      rw [jge i 7 rfl rfl (by omega) (by decide), decide_eq_false (show ¬ 7 ≤ i by omega), h2, h1, nI_add, jge (b + i) t rfl rfl (by omega) (by omega), decide_eq_false (show ¬ t ≤ b + i by omega), jin (show b + i < 120 by omega) (by decide), jc_1022 N i (by omega), jcl (show b + i < 2 ^ 31 by omega), k3, nI_1]
      simp only [Option.bind_some, cond_true, cond_false]
      rw [jeq _ _ rfl rfl (show jby tp (b + i) < 2 ^ 31 by omega) hW]
      by_cases h : jby tp (b + i) = jW_1022 i
      · rw [decide_eq_true h]
        exact ih (i + 1) n (by omega) (by omega)
      · rw [decide_eq_false h]
        rfl
theorem jw_1022 {N : Nat} (hN : 4000 ≤ N) {tb tp : Nat → Int32} {t b e : Nat} {rq : hRq} {tk bg en : Int32} {vl : Int64} (ht : t ≤ 120) (hK : jTk tb tp t rq tk bg en vl b e) : me_38_51_1022 N tb rq = some (bif hEq tk 1 && decide (vl = lN 1473549098) then 1 else 0) := by
  obtain ⟨⟨g1, g2, g3, g4, g5, g6, g7⟩, h⟩ := hK
  unfold me_38_51_1022
  have hno : ∀ k : Int32, rq.2.1 = k → gCmp .ne k 1 = true → hEq tk 1 = false → (bif gCmp .ne rq.2.1 1 then some (0 : Int32) else (Option.bind (me_0_1022 N) fun q2 => (bif gCmp .eq (rq.2.2.2.1 - rq.2.2.1) q2 then lp_38_51_1022_28 N tb rq N 0 else some (0)))) = some (bif hEq tk 1 && decide (vl = lN 1473549098) then 1 else 0) := by
    intro k e1 e2 e3
    rw [e1, e2, e3]
    rfl
  rcases h with ⟨k1, rfl⟩ | ⟨k1, rfl, k2, k3, rfl⟩ | ⟨k1, k2, v, k3, k4, ⟨rfl, _⟩ | ⟨rfl, _⟩⟩ | ⟨k1, rfl, k2⟩ | ⟨k1, rfl, k2⟩ | ⟨k1, rfl, k2⟩
  · exact hno 0 k1 (by decide) (by decide)
  · rw [k1, show gCmp .ne (1 : Int32) 1 = false from by decide, show hEq (1 : Int32) 1 = true from by decide, jl_1022, g4, g2, pk_sub g6]
    simp only [Option.bind_some, cond_false, Bool.true_and]
    rw [jeq (e - b) 7 rfl rfl (by omega) (by decide)]
    have hcap := jcap_lt (c := jby tp) (b := b) (e - b) (fun i hi => (k3 (b + i) (by omega) (by omega)).2.1)
    have hE : jcap jW_1022 0 7 = 1473549098 := by decide
    have hWl : ∀ i, i < 7 → 97 ≤ jW_1022 i ∧ jW_1022 i ≤ 122 := by decide
    by_cases hlen : e - b = 7
    · rw [decide_eq_true hlen]
      simp only [cond_true]
      rw [show lp_38_51_1022_28 N tb rq N 0 = _ from l_38_1022 (N := N) g1 g2 ht (by omega) (fun i hi1 hi2 => k3 i hi1 (by omega)) 7 0 N (by omega) (by omega)]
      congr 2
      rw [Bool.eq_iff_iff, jall_t, decide_eq_true_eq, pk_lEQ (by omega) (by decide)]
      constructor
      · intro h
        rw [hlen, jcap_ext 7 (fun i hi => h i (Nat.zero_le i) (by omega)), hE]
      · intro h
        obtain ⟨_, h3⟩ := jcap_inj (c := jby tp) (W := jW_1022) (b := b) (e - b) 7 (fun i hi => ⟨(k3 (b + i) (by omega) (by omega)).1, (k3 (b + i) (by omega) (by omega)).2.1⟩) hWl (by rw [h]; decide) (by rw [h, hE])
        exact fun j _ hj => h3 j (by omega)
    · rw [decide_eq_false hlen, decide_eq_false (show ¬ lN (jcap (jby tp) b (e - b)) = lN 1473549098 from fun h => hlen (by
        have h2 := (pk_lEQ (by omega) (by decide)).mp h
        exact (jcap_inj (c := jby tp) (W := jW_1022) (b := b) (e - b) 7 (fun i hi => ⟨(k3 (b + i) (by omega) (by omega)).1, (k3 (b + i) (by omega) (by omega)).2.1⟩) hWl (by rw [h2]; decide) (by rw [h2, hE])).1))]
      rfl
  · exact hno 2 k1 (by decide) (by decide)
  · exact hno 2 k1 (by decide) (by decide)
  · exact hno 3 k1 (by decide) (by decide)
  · exact hno 4 k1 (by decide) (by decide)
  · exact hno 5 k1 (by decide) (by decide)
def jW_1023 (i : Nat) : Nat := [99, 104, 97, 105, 114].getD i 0
theorem jl_1023 (N : Nat) : me_0_1023 N = some (nI 5) := rfl
theorem jc_1023 (N : Nat) : ∀ i, i < 5 → me_1_1023 N (nI i) = some (nI (jW_1023 i)) := by
  refine lt_s (lt_s (lt_s (lt_s (lt_s lt_0 ?_) ?_) ?_) ?_) ?_
  all_goals rfl
theorem l_38_1023 {N : Nat} {tb tp : Nat → Int32} {rq : hRq} {t b : Nat} (h1 : rq.1 = nI t) (h2 : rq.2.2.1 = nI b) (ht : t ≤ 120) (hb : b + 5 ≤ t) (hL : ∀ i, b ≤ i → i < b + 5 → 97 ≤ jby tp i ∧ jby tp i ≤ 122 ∧ tb i = nI (jby tp i)) : ∀ (m i n : Nat), i + m = 5 → m < n → lp_38_51_1023_28 N tb rq n (nI i) = some (bif jall (jby tp) b jW_1023 i m then 1 else 0) := by
  intro m
  induction m with
  | zero =>
    intro i n hi hn
    obtain rfl : i = 5 := by omega
    cases n with
    | zero => exact absurd hn (by omega)
    | succ n => rfl
  | succ m ih =>
    intro i n hi hn
    cases n with
    | zero => exact absurd hn (by omega)
    | succ n =>
      obtain ⟨k1, k2, k3⟩ := hL (b + i) (by omega) (by omega)
      have hW : jW_1023 i < 2 ^ 31 := (show ∀ i, i < 5 → jW_1023 i < 2 ^ 31 from by decide) i (by omega)
      rw [lp_38_51_1023_28, jl_1023, jall]
      simp only [Option.bind_some]
      rw [jge i 5 rfl rfl (by omega) (by decide), decide_eq_false (show ¬ 5 ≤ i by omega), h2, h1, nI_add, jge (b + i) t rfl rfl (by omega) (by omega), decide_eq_false (show ¬ t ≤ b + i by omega), jin (show b + i < 120 by omega) (by decide), jc_1023 N i (by omega), jcl (show b + i < 2 ^ 31 by omega), k3, nI_1]
      simp only [Option.bind_some, cond_true, cond_false]
      rw [jeq _ _ rfl rfl (show jby tp (b + i) < 2 ^ 31 by omega) hW]
      by_cases h : jby tp (b + i) = jW_1023 i
      · rw [decide_eq_true h]
        exact ih (i + 1) n (by omega) (by omega)
      · rw [decide_eq_false h]
        rfl
theorem jw_1023 {N : Nat} (hN : 4000 ≤ N) {tb tp : Nat → Int32} {t b e : Nat} {rq : hRq} {tk bg en : Int32} {vl : Int64} (ht : t ≤ 120) (hK : jTk tb tp t rq tk bg en vl b e) : me_38_51_1023 N tb rq = some (bif hEq tk 1 && decide (vl = lN 1752777) then 1 else 0) := by
  obtain ⟨⟨g1, g2, g3, g4, g5, g6, g7⟩, h⟩ := hK
  unfold me_38_51_1023
  have hno : ∀ k : Int32, rq.2.1 = k → gCmp .ne k 1 = true → hEq tk 1 = false → (bif gCmp .ne rq.2.1 1 then some (0 : Int32) else (Option.bind (me_0_1023 N) fun q2 => (bif gCmp .eq (rq.2.2.2.1 - rq.2.2.1) q2 then lp_38_51_1023_28 N tb rq N 0 else some (0)))) = some (bif hEq tk 1 && decide (vl = lN 1752777) then 1 else 0) := by
    intro k e1 e2 e3
    rw [e1, e2, e3]
    rfl
  rcases h with ⟨k1, rfl⟩ | ⟨k1, rfl, k2, k3, rfl⟩ | ⟨k1, k2, v, k3, k4, ⟨rfl, _⟩ | ⟨rfl, _⟩⟩ | ⟨k1, rfl, k2⟩ | ⟨k1, rfl, k2⟩ | ⟨k1, rfl, k2⟩
  · exact hno 0 k1 (by decide) (by decide)
  · rw [k1, show gCmp .ne (1 : Int32) 1 = false from by decide, show hEq (1 : Int32) 1 = true from by decide, jl_1023, g4, g2, pk_sub g6]
    simp only [Option.bind_some, cond_false, Bool.true_and]
    rw [jeq (e - b) 5 rfl rfl (by omega) (by decide)]
    have hcap := jcap_lt (c := jby tp) (b := b) (e - b) (fun i hi => (k3 (b + i) (by omega) (by omega)).2.1)
    have hE : jcap jW_1023 0 5 = 1752777 := by decide
    have hWl : ∀ i, i < 5 → 97 ≤ jW_1023 i ∧ jW_1023 i ≤ 122 := by decide
    by_cases hlen : e - b = 5
    · rw [decide_eq_true hlen]
      simp only [cond_true]
      rw [show lp_38_51_1023_28 N tb rq N 0 = _ from l_38_1023 (N := N) g1 g2 ht (by omega) (fun i hi1 hi2 => k3 i hi1 (by omega)) 5 0 N (by omega) (by omega)]
      congr 2
      rw [Bool.eq_iff_iff, jall_t, decide_eq_true_eq, pk_lEQ (by omega) (by decide)]
      constructor
      · intro h
        rw [hlen, jcap_ext 5 (fun i hi => h i (Nat.zero_le i) (by omega)), hE]
      · intro h
        obtain ⟨_, h3⟩ := jcap_inj (c := jby tp) (W := jW_1023) (b := b) (e - b) 5 (fun i hi => ⟨(k3 (b + i) (by omega) (by omega)).1, (k3 (b + i) (by omega) (by omega)).2.1⟩) hWl (by rw [h]; decide) (by rw [h, hE])
        exact fun j _ hj => h3 j (by omega)
    · rw [decide_eq_false hlen, decide_eq_false (show ¬ lN (jcap (jby tp) b (e - b)) = lN 1752777 from fun h => hlen (by
        have h2 := (pk_lEQ (by omega) (by decide)).mp h
        exact (jcap_inj (c := jby tp) (W := jW_1023) (b := b) (e - b) 5 (fun i hi => ⟨(k3 (b + i) (by omega) (by omega)).1, (k3 (b + i) (by omega) (by omega)).2.1⟩) hWl (by rw [h2]; decide) (by rw [h2, hE])).1))]
      rfl
  · exact hno 2 k1 (by decide) (by decide)
  · exact hno 2 k1 (by decide) (by decide)
  · exact hno 3 k1 (by decide) (by decide)
  · exact hno 4 k1 (by decide) (by decide)
  · exact hno 5 k1 (by decide) (by decide)
def jW_1024 (i : Nat) : Nat := [115, 117, 110].getD i 0
theorem jl_1024 (N : Nat) : me_0_1024 N = some (nI 3) := rfl
theorem jc_1024 (N : Nat) : ∀ i, i < 3 → me_1_1024 N (nI i) = some (nI (jW_1024 i)) := by
  refine lt_s (lt_s (lt_s lt_0 ?_) ?_) ?_
  all_goals rfl
theorem l_38_1024 {N : Nat} {tb tp : Nat → Int32} {rq : hRq} {t b : Nat} (h1 : rq.1 = nI t) (h2 : rq.2.2.1 = nI b) (ht : t ≤ 120) (hb : b + 3 ≤ t) (hL : ∀ i, b ≤ i → i < b + 3 → 97 ≤ jby tp i ∧ jby tp i ≤ 122 ∧ tb i = nI (jby tp i)) : ∀ (m i n : Nat), i + m = 3 → m < n → lp_38_51_1024_28 N tb rq n (nI i) = some (bif jall (jby tp) b jW_1024 i m then 1 else 0) := by
  intro m
  induction m with
  | zero =>
    intro i n hi hn
    obtain rfl : i = 3 := by omega
    cases n with
    | zero => exact absurd hn (by omega)
    | succ n => rfl
  | succ m ih =>
    intro i n hi hn
    cases n with
    | zero => exact absurd hn (by omega)
    | succ n =>
      obtain ⟨k1, k2, k3⟩ := hL (b + i) (by omega) (by omega)
      have hW : jW_1024 i < 2 ^ 31 := (show ∀ i, i < 3 → jW_1024 i < 2 ^ 31 from by decide) i (by omega)
      rw [lp_38_51_1024_28, jl_1024, jall]
      simp only [Option.bind_some]
      rw [jge i 3 rfl rfl (by omega) (by decide), decide_eq_false (show ¬ 3 ≤ i by omega), h2, h1, nI_add, jge (b + i) t rfl rfl (by omega) (by omega), decide_eq_false (show ¬ t ≤ b + i by omega), jin (show b + i < 120 by omega) (by decide), jc_1024 N i (by omega), jcl (show b + i < 2 ^ 31 by omega), k3, nI_1]
      simp only [Option.bind_some, cond_true, cond_false]
      rw [jeq _ _ rfl rfl (show jby tp (b + i) < 2 ^ 31 by omega) hW]
      by_cases h : jby tp (b + i) = jW_1024 i
      · rw [decide_eq_true h]
        exact ih (i + 1) n (by omega) (by omega)
      · rw [decide_eq_false h]
        rfl
theorem jw_1024 {N : Nat} (hN : 4000 ≤ N) {tb tp : Nat → Int32} {t b e : Nat} {rq : hRq} {tk bg en : Int32} {vl : Int64} (ht : t ≤ 120) (hK : jTk tb tp t rq tk bg en vl b e) : me_38_51_1024 N tb rq = some (bif hEq tk 1 && decide (vl = lN 14432) then 1 else 0) := by
  obtain ⟨⟨g1, g2, g3, g4, g5, g6, g7⟩, h⟩ := hK
  unfold me_38_51_1024
  have hno : ∀ k : Int32, rq.2.1 = k → gCmp .ne k 1 = true → hEq tk 1 = false → (bif gCmp .ne rq.2.1 1 then some (0 : Int32) else (Option.bind (me_0_1024 N) fun q2 => (bif gCmp .eq (rq.2.2.2.1 - rq.2.2.1) q2 then lp_38_51_1024_28 N tb rq N 0 else some (0)))) = some (bif hEq tk 1 && decide (vl = lN 14432) then 1 else 0) := by
    intro k e1 e2 e3
    rw [e1, e2, e3]
    rfl
  rcases h with ⟨k1, rfl⟩ | ⟨k1, rfl, k2, k3, rfl⟩ | ⟨k1, k2, v, k3, k4, ⟨rfl, _⟩ | ⟨rfl, _⟩⟩ | ⟨k1, rfl, k2⟩ | ⟨k1, rfl, k2⟩ | ⟨k1, rfl, k2⟩
  · exact hno 0 k1 (by decide) (by decide)
  · rw [k1, show gCmp .ne (1 : Int32) 1 = false from by decide, show hEq (1 : Int32) 1 = true from by decide, jl_1024, g4, g2, pk_sub g6]
    simp only [Option.bind_some, cond_false, Bool.true_and]
    rw [jeq (e - b) 3 rfl rfl (by omega) (by decide)]
    have hcap := jcap_lt (c := jby tp) (b := b) (e - b) (fun i hi => (k3 (b + i) (by omega) (by omega)).2.1)
    have hE : jcap jW_1024 0 3 = 14432 := by decide
    have hWl : ∀ i, i < 3 → 97 ≤ jW_1024 i ∧ jW_1024 i ≤ 122 := by decide
    by_cases hlen : e - b = 3
    · rw [decide_eq_true hlen]
      simp only [cond_true]
      rw [show lp_38_51_1024_28 N tb rq N 0 = _ from l_38_1024 (N := N) g1 g2 ht (by omega) (fun i hi1 hi2 => k3 i hi1 (by omega)) 3 0 N (by omega) (by omega)]
      congr 2
      rw [Bool.eq_iff_iff, jall_t, decide_eq_true_eq, pk_lEQ (by omega) (by decide)]
      constructor
      · intro h
        rw [hlen, jcap_ext 3 (fun i hi => h i (Nat.zero_le i) (by omega)), hE]
      · intro h
        obtain ⟨_, h3⟩ := jcap_inj (c := jby tp) (W := jW_1024) (b := b) (e - b) 3 (fun i hi => ⟨(k3 (b + i) (by omega) (by omega)).1, (k3 (b + i) (by omega) (by omega)).2.1⟩) hWl (by rw [h]; decide) (by rw [h, hE])
        exact fun j _ hj => h3 j (by omega)
    · rw [decide_eq_false hlen, decide_eq_false (show ¬ lN (jcap (jby tp) b (e - b)) = lN 14432 from fun h => hlen (by
        have h2 := (pk_lEQ (by omega) (by decide)).mp h
        exact (jcap_inj (c := jby tp) (W := jW_1024) (b := b) (e - b) 3 (fun i hi => ⟨(k3 (b + i) (by omega) (by omega)).1, (k3 (b + i) (by omega) (by omega)).2.1⟩) hWl (by rw [h2]; decide) (by rw [h2, hE])).1))]
      rfl
  · exact hno 2 k1 (by decide) (by decide)
  · exact hno 2 k1 (by decide) (by decide)
  · exact hno 3 k1 (by decide) (by decide)
  · exact hno 4 k1 (by decide) (by decide)
  · exact hno 5 k1 (by decide) (by decide)
def jW_1025 (i : Nat) : Nat := [117, 112].getD i 0
theorem jl_1025 (N : Nat) : me_0_1025 N = some (nI 2) := rfl
theorem jc_1025 (N : Nat) : ∀ i, i < 2 → me_1_1025 N (nI i) = some (nI (jW_1025 i)) := by
  refine lt_s (lt_s lt_0 ?_) ?_
  all_goals rfl
theorem l_38_1025 {N : Nat} {tb tp : Nat → Int32} {rq : hRq} {t b : Nat} (h1 : rq.1 = nI t) (h2 : rq.2.2.1 = nI b) (ht : t ≤ 120) (hb : b + 2 ≤ t) (hL : ∀ i, b ≤ i → i < b + 2 → 97 ≤ jby tp i ∧ jby tp i ≤ 122 ∧ tb i = nI (jby tp i)) : ∀ (m i n : Nat), i + m = 2 → m < n → lp_38_51_1025_28 N tb rq n (nI i) = some (bif jall (jby tp) b jW_1025 i m then 1 else 0) := by
  intro m
  induction m with
  | zero =>
    intro i n hi hn
    obtain rfl : i = 2 := by omega
    cases n with
    | zero => exact absurd hn (by omega)
    | succ n => rfl
  | succ m ih =>
    intro i n hi hn
    cases n with
    | zero => exact absurd hn (by omega)
    | succ n =>
      obtain ⟨k1, k2, k3⟩ := hL (b + i) (by omega) (by omega)
      have hW : jW_1025 i < 2 ^ 31 := (show ∀ i, i < 2 → jW_1025 i < 2 ^ 31 from by decide) i (by omega)
      rw [lp_38_51_1025_28, jl_1025, jall]
      simp only [Option.bind_some]
      rw [jge i 2 rfl rfl (by omega) (by decide), decide_eq_false (show ¬ 2 ≤ i by omega), h2, h1, nI_add, jge (b + i) t rfl rfl (by omega) (by omega), decide_eq_false (show ¬ t ≤ b + i by omega), jin (show b + i < 120 by omega) (by decide), jc_1025 N i (by omega), jcl (show b + i < 2 ^ 31 by omega), k3, nI_1]
      simp only [Option.bind_some, cond_true, cond_false]
      rw [jeq _ _ rfl rfl (show jby tp (b + i) < 2 ^ 31 by omega) hW]
      by_cases h : jby tp (b + i) = jW_1025 i
      · rw [decide_eq_true h]
        exact ih (i + 1) n (by omega) (by omega)
      · rw [decide_eq_false h]
        rfl
theorem jw_1025 {N : Nat} (hN : 4000 ≤ N) {tb tp : Nat → Int32} {t b e : Nat} {rq : hRq} {tk bg en : Int32} {vl : Int64} (ht : t ≤ 120) (hK : jTk tb tp t rq tk bg en vl b e) : me_38_51_1025 N tb rq = some (bif hEq tk 1 && decide (vl = lN 583) then 1 else 0) := by
  obtain ⟨⟨g1, g2, g3, g4, g5, g6, g7⟩, h⟩ := hK
  unfold me_38_51_1025
  have hno : ∀ k : Int32, rq.2.1 = k → gCmp .ne k 1 = true → hEq tk 1 = false → (bif gCmp .ne rq.2.1 1 then some (0 : Int32) else (Option.bind (me_0_1025 N) fun q2 => (bif gCmp .eq (rq.2.2.2.1 - rq.2.2.1) q2 then lp_38_51_1025_28 N tb rq N 0 else some (0)))) = some (bif hEq tk 1 && decide (vl = lN 583) then 1 else 0) := by
    intro k e1 e2 e3
    rw [e1, e2, e3]
    rfl
  rcases h with ⟨k1, rfl⟩ | ⟨k1, rfl, k2, k3, rfl⟩ | ⟨k1, k2, v, k3, k4, ⟨rfl, _⟩ | ⟨rfl, _⟩⟩ | ⟨k1, rfl, k2⟩ | ⟨k1, rfl, k2⟩ | ⟨k1, rfl, k2⟩
  · exact hno 0 k1 (by decide) (by decide)
  · rw [k1, show gCmp .ne (1 : Int32) 1 = false from by decide, show hEq (1 : Int32) 1 = true from by decide, jl_1025, g4, g2, pk_sub g6]
    simp only [Option.bind_some, cond_false, Bool.true_and]
    rw [jeq (e - b) 2 rfl rfl (by omega) (by decide)]
    have hcap := jcap_lt (c := jby tp) (b := b) (e - b) (fun i hi => (k3 (b + i) (by omega) (by omega)).2.1)
    have hE : jcap jW_1025 0 2 = 583 := by decide
    have hWl : ∀ i, i < 2 → 97 ≤ jW_1025 i ∧ jW_1025 i ≤ 122 := by decide
    by_cases hlen : e - b = 2
    · rw [decide_eq_true hlen]
      simp only [cond_true]
      rw [show lp_38_51_1025_28 N tb rq N 0 = _ from l_38_1025 (N := N) g1 g2 ht (by omega) (fun i hi1 hi2 => k3 i hi1 (by omega)) 2 0 N (by omega) (by omega)]
      congr 2
      rw [Bool.eq_iff_iff, jall_t, decide_eq_true_eq, pk_lEQ (by omega) (by decide)]
      constructor
      · intro h
        rw [hlen, jcap_ext 2 (fun i hi => h i (Nat.zero_le i) (by omega)), hE]
      · intro h
        obtain ⟨_, h3⟩ := jcap_inj (c := jby tp) (W := jW_1025) (b := b) (e - b) 2 (fun i hi => ⟨(k3 (b + i) (by omega) (by omega)).1, (k3 (b + i) (by omega) (by omega)).2.1⟩) hWl (by rw [h]; decide) (by rw [h, hE])
        exact fun j _ hj => h3 j (by omega)
    · rw [decide_eq_false hlen, decide_eq_false (show ¬ lN (jcap (jby tp) b (e - b)) = lN 583 from fun h => hlen (by
        have h2 := (pk_lEQ (by omega) (by decide)).mp h
        exact (jcap_inj (c := jby tp) (W := jW_1025) (b := b) (e - b) 2 (fun i hi => ⟨(k3 (b + i) (by omega) (by omega)).1, (k3 (b + i) (by omega) (by omega)).2.1⟩) hWl (by rw [h2]; decide) (by rw [h2, hE])).1))]
      rfl
  · exact hno 2 k1 (by decide) (by decide)
  · exact hno 2 k1 (by decide) (by decide)
  · exact hno 3 k1 (by decide) (by decide)
  · exact hno 4 k1 (by decide) (by decide)
  · exact hno 5 k1 (by decide) (by decide)
def je_72 (w : Nat) : Nat → Nat → Int64 → Int64
  | 0, _, y => y
  | m + 1, i, y => je_72 w m (i + 1) (bif gCmp .ne (hLe (8 * w + i)) 32 then (((y * 27) + (Int32.toInt64 (hLe (8 * w + i)))) - 96) else y)
theorem l_27_72 {N w : Nat} (hw : w < 7) : ∀ (m i n : Nat) (y : Int64), i + m = 8 → m < n → lp_202_63_72_27 N (nI w) n y (nI i) = some (je_72 w m i y, nI 8) := by
  intro m
  induction m with
  | zero =>
    intro i n y hi hn
    obtain rfl : i = 8 := by omega
    cases n with
    | zero => exact absurd hn (by omega)
    | succ n => rfl
  | succ m ih =>
    intro i n y hi hn
    cases n with
    | zero => exact absurd hn (by omega)
    | succ n =>
      rw [lp_202_63_72_27, jgel i 8 rfl (by omega) (by decide), decide_eq_false (show ¬ 8 ≤ i by omega), show (8 : Int32) * nI w + nI i = nI (8 * w + i) from by rw [show (8 : Int32) = nI 8 from rfl, pk_mul, nI_add], jin (show 8 * w + i < 56 by omega) (by decide), jcl (show 8 * w + i < 2 ^ 31 by omega), nI_1, Bool.or_true]
      exact ih (i + 1) n _ (by omega) (by omega)
theorem jE_72 : je_72 0 8 0 0 = lN 330573 ∧ je_72 1 8 0 0 = lN 114602 ∧ je_72 2 8 0 0 = lN 203417946412 ∧ je_72 3 8 0 0 = lN 203533721818 ∧ je_72 4 8 0 0 = lN 86910790 ∧ je_72 5 8 0 0 = lN 43996844 ∧ je_72 6 8 0 0 = lN 144286006 := by decide +kernel
def jr_72 (vl : Int64) : Int32 := (bif decide (vl = lN 144286006) then nI 6 else (bif decide (vl = lN 43996844) then nI 5 else (bif decide (vl = lN 86910790) then nI 4 else (bif decide (vl = lN 203533721818) then nI 3 else (bif decide (vl = lN 203417946412) then nI 2 else (bif decide (vl = lN 114602) then nI 1 else (bif decide (vl = lN 330573) then nI 0 else (-1))))))))
theorem m_72 {N : Nat} (hN : 4000 ≤ N) (tk : Int32) (vl : Int64) : me_202_63_72 N tk vl = some (bif hEq tk 1 then jr_72 vl else (-1)) := by
  obtain ⟨e0, e1, e2, e3, e4, e5, e6⟩ := jE_72
  have f0 : lp_202_63_72_27 N (nI 0) N 0 0 = some (lN 330573, nI 8) := by rw [← e0]; exact l_27_72 (N := N) (by decide) 8 0 N 0 rfl (by omega)
  have f1 : lp_202_63_72_27 N (nI 1) N 0 0 = some (lN 114602, nI 8) := by rw [← e1]; exact l_27_72 (N := N) (by decide) 8 0 N 0 rfl (by omega)
  have f2 : lp_202_63_72_27 N (nI 2) N 0 0 = some (lN 203417946412, nI 8) := by rw [← e2]; exact l_27_72 (N := N) (by decide) 8 0 N 0 rfl (by omega)
  have f3 : lp_202_63_72_27 N (nI 3) N 0 0 = some (lN 203533721818, nI 8) := by rw [← e3]; exact l_27_72 (N := N) (by decide) 8 0 N 0 rfl (by omega)
  have f4 : lp_202_63_72_27 N (nI 4) N 0 0 = some (lN 86910790, nI 8) := by rw [← e4]; exact l_27_72 (N := N) (by decide) 8 0 N 0 rfl (by omega)
  have f5 : lp_202_63_72_27 N (nI 5) N 0 0 = some (lN 43996844, nI 8) := by rw [← e5]; exact l_27_72 (N := N) (by decide) 8 0 N 0 rfl (by omega)
  have f6 : lp_202_63_72_27 N (nI 6) N 0 0 = some (lN 144286006, nI 8) := by rw [← e6]; exact l_27_72 (N := N) (by decide) 8 0 N 0 rfl (by omega)
  have hc : ∀ (E : Nat) (a b : Int32), (bif gCmp .ne (lg_cmp (lN E) vl) 0 then a else b) = (bif decide (vl = lN E) then b else a) := by
    intro E a b
    rw [jcmp2, decide_eq_decide.mpr (show lN E = vl ↔ vl = lN E from ⟨Eq.symm, Eq.symm⟩)]
    cases decide (vl = lN E) <;> rfl
  unfold me_202_63_72
  by_cases h : tk = 1
  · subst h
    rw [show hEq (1 : Int32) 1 = true from by decide]
    unfold jr_72
    have k : ∀ (w : Nat) (n : Nat) (y : Int32) (E : Nat), w < 7 → lp_202_63_72_27 N (nI w) N 0 0 = some (lN E, nI 8) → lp_202_63_72_4 N 1 vl (n + 1) y (nI w) = lp_202_63_72_4 N 1 vl n (bif decide (vl = lN E) then nI w else y) (nI (w + 1)) := by
      intro w n y E hw he
      rw [lp_202_63_72_4, show gCmp .ge (nI w) (56 / 8) = false from by rw [show ((56 : Int32) / 8) = nI 7 from by decide, jge w 7 rfl rfl (by omega) (by decide)]; exact decide_eq_false (by omega), show gCmp .ne (1 : Int32) 1 = false from by decide, he, nI_1]
      simp only [cond_false, Option.bind_some]
      rw [hc]
    obtain ⟨M, hM⟩ : ∃ M, N = M + 8 := ⟨N - 8, by omega⟩
    have hgo : lp_202_63_72_4 N 1 vl N (-1) 0 = some ((bif decide (vl = lN 144286006) then nI 6 else (bif decide (vl = lN 43996844) then nI 5 else (bif decide (vl = lN 86910790) then nI 4 else (bif decide (vl = lN 203533721818) then nI 3 else (bif decide (vl = lN 203417946412) then nI 2 else (bif decide (vl = lN 114602) then nI 1 else (bif decide (vl = lN 330573) then nI 0 else (-1)))))))), nI 7) := by
      rw [show lp_202_63_72_4 N 1 vl N (-1) 0 = lp_202_63_72_4 N 1 vl (M + 8) (-1) (nI 0) from by rw [← hM]; rfl]
      rw [k 0 (M + 7) _ _ (by decide) f0, k 1 (M + 6) _ _ (by decide) f1, k 2 (M + 5) _ _ (by decide) f2, k 3 (M + 4) _ _ (by decide) f3, k 4 (M + 3) _ _ (by decide) f4, k 5 (M + 2) _ _ (by decide) f5, k 6 (M + 1) _ _ (by decide) f6]
      rw [lp_202_63_72_4, show gCmp .ge (nI 7) (56 / 8) = true from by decide]
      rfl
    rw [hgo]
    rfl
  · rw [show hEq tk 1 = false from decide_eq_false h]
    obtain ⟨M, hM⟩ : ∃ M, N = M + 1 := ⟨N - 1, by omega⟩
    have hgo : lp_202_63_72_4 N tk vl N (-1) 0 = some (-1, 0) := by
      rw [show lp_202_63_72_4 N tk vl N (-1) 0 = lp_202_63_72_4 N tk vl (M + 1) (-1) (nI 0) from by rw [← hM]; rfl]
      rw [lp_202_63_72_4, show gCmp .ge (nI 0) (56 / 8) = false from by decide, show gCmp .ne tk 1 = true from by show (!decide (tk = 1)) = true; rw [decide_eq_false h]; rfl]
      rfl
    rw [hgo]
    rfl
def je_73 (w : Nat) : Nat → Nat → Int64 → Int64
  | 0, _, y => y
  | m + 1, i, y => je_73 w m (i + 1) (bif gCmp .ne (hOt (8 * w + i)) 32 then (((y * 27) + (Int32.toInt64 (hOt (8 * w + i)))) - 96) else y)
theorem l_27_73 {N w : Nat} (hw : w < 7) : ∀ (m i n : Nat) (y : Int64), i + m = 8 → m < n → lp_202_63_73_27 N (nI w) n y (nI i) = some (je_73 w m i y, nI 8) := by
  intro m
  induction m with
  | zero =>
    intro i n y hi hn
    obtain rfl : i = 8 := by omega
    cases n with
    | zero => exact absurd hn (by omega)
    | succ n => rfl
  | succ m ih =>
    intro i n y hi hn
    cases n with
    | zero => exact absurd hn (by omega)
    | succ n =>
      rw [lp_202_63_73_27, jgel i 8 rfl (by omega) (by decide), decide_eq_false (show ¬ 8 ≤ i by omega), show (8 : Int32) * nI w + nI i = nI (8 * w + i) from by rw [show (8 : Int32) = nI 8 from rfl, pk_mul, nI_add], jin (show 8 * w + i < 56 by omega) (by decide), jcl (show 8 * w + i < 2 ^ 31 by omega), nI_1, Bool.or_true]
      exact ih (i + 1) n _ (by omega) (by omega)
theorem jE_73 : je_73 0 8 0 0 = lN 227144 ∧ je_73 1 8 0 0 = lN 382984 ∧ je_73 2 8 0 0 = lN 459652 ∧ je_73 3 8 0 0 = lN 1473549098 ∧ je_73 4 8 0 0 = lN 1752777 ∧ je_73 5 8 0 0 = lN 14432 ∧ je_73 6 8 0 0 = lN 583 := by decide +kernel
def jr_73 (vl : Int64) : Int32 := (bif decide (vl = lN 583) then nI 6 else (bif decide (vl = lN 14432) then nI 5 else (bif decide (vl = lN 1752777) then nI 4 else (bif decide (vl = lN 1473549098) then nI 3 else (bif decide (vl = lN 459652) then nI 2 else (bif decide (vl = lN 382984) then nI 1 else (bif decide (vl = lN 227144) then nI 0 else (-1))))))))
theorem m_73 {N : Nat} (hN : 4000 ≤ N) (tk : Int32) (vl : Int64) : me_202_63_73 N tk vl = some (bif hEq tk 1 then jr_73 vl else (-1)) := by
  obtain ⟨e0, e1, e2, e3, e4, e5, e6⟩ := jE_73
  have f0 : lp_202_63_73_27 N (nI 0) N 0 0 = some (lN 227144, nI 8) := by rw [← e0]; exact l_27_73 (N := N) (by decide) 8 0 N 0 rfl (by omega)
  have f1 : lp_202_63_73_27 N (nI 1) N 0 0 = some (lN 382984, nI 8) := by rw [← e1]; exact l_27_73 (N := N) (by decide) 8 0 N 0 rfl (by omega)
  have f2 : lp_202_63_73_27 N (nI 2) N 0 0 = some (lN 459652, nI 8) := by rw [← e2]; exact l_27_73 (N := N) (by decide) 8 0 N 0 rfl (by omega)
  have f3 : lp_202_63_73_27 N (nI 3) N 0 0 = some (lN 1473549098, nI 8) := by rw [← e3]; exact l_27_73 (N := N) (by decide) 8 0 N 0 rfl (by omega)
  have f4 : lp_202_63_73_27 N (nI 4) N 0 0 = some (lN 1752777, nI 8) := by rw [← e4]; exact l_27_73 (N := N) (by decide) 8 0 N 0 rfl (by omega)
  have f5 : lp_202_63_73_27 N (nI 5) N 0 0 = some (lN 14432, nI 8) := by rw [← e5]; exact l_27_73 (N := N) (by decide) 8 0 N 0 rfl (by omega)
  have f6 : lp_202_63_73_27 N (nI 6) N 0 0 = some (lN 583, nI 8) := by rw [← e6]; exact l_27_73 (N := N) (by decide) 8 0 N 0 rfl (by omega)
  have hc : ∀ (E : Nat) (a b : Int32), (bif gCmp .ne (lg_cmp (lN E) vl) 0 then a else b) = (bif decide (vl = lN E) then b else a) := by
    intro E a b
    rw [jcmp2, decide_eq_decide.mpr (show lN E = vl ↔ vl = lN E from ⟨Eq.symm, Eq.symm⟩)]
    cases decide (vl = lN E) <;> rfl
  unfold me_202_63_73
  by_cases h : tk = 1
  · subst h
    rw [show hEq (1 : Int32) 1 = true from by decide]
    unfold jr_73
    have k : ∀ (w : Nat) (n : Nat) (y : Int32) (E : Nat), w < 7 → lp_202_63_73_27 N (nI w) N 0 0 = some (lN E, nI 8) → lp_202_63_73_4 N 1 vl (n + 1) y (nI w) = lp_202_63_73_4 N 1 vl n (bif decide (vl = lN E) then nI w else y) (nI (w + 1)) := by
      intro w n y E hw he
      rw [lp_202_63_73_4, show gCmp .ge (nI w) (56 / 8) = false from by rw [show ((56 : Int32) / 8) = nI 7 from by decide, jge w 7 rfl rfl (by omega) (by decide)]; exact decide_eq_false (by omega), show gCmp .ne (1 : Int32) 1 = false from by decide, he, nI_1]
      simp only [cond_false, Option.bind_some]
      rw [hc]
    obtain ⟨M, hM⟩ : ∃ M, N = M + 8 := ⟨N - 8, by omega⟩
    have hgo : lp_202_63_73_4 N 1 vl N (-1) 0 = some ((bif decide (vl = lN 583) then nI 6 else (bif decide (vl = lN 14432) then nI 5 else (bif decide (vl = lN 1752777) then nI 4 else (bif decide (vl = lN 1473549098) then nI 3 else (bif decide (vl = lN 459652) then nI 2 else (bif decide (vl = lN 382984) then nI 1 else (bif decide (vl = lN 227144) then nI 0 else (-1)))))))), nI 7) := by
      rw [show lp_202_63_73_4 N 1 vl N (-1) 0 = lp_202_63_73_4 N 1 vl (M + 8) (-1) (nI 0) from by rw [← hM]; rfl]
      rw [k 0 (M + 7) _ _ (by decide) f0, k 1 (M + 6) _ _ (by decide) f1, k 2 (M + 5) _ _ (by decide) f2, k 3 (M + 4) _ _ (by decide) f3, k 4 (M + 3) _ _ (by decide) f4, k 5 (M + 2) _ _ (by decide) f5, k 6 (M + 1) _ _ (by decide) f6]
      rw [lp_202_63_73_4, show gCmp .ge (nI 7) (56 / 8) = true from by decide]
      rfl
    rw [hgo]
    rfl
  · rw [show hEq tk 1 = false from decide_eq_false h]
    obtain ⟨M, hM⟩ : ∃ M, N = M + 1 := ⟨N - 1, by omega⟩
    have hgo : lp_202_63_73_4 N tk vl N (-1) 0 = some (-1, 0) := by
      rw [show lp_202_63_73_4 N tk vl N (-1) 0 = lp_202_63_73_4 N tk vl (M + 1) (-1) (nI 0) from by rw [← hM]; rfl]
      rw [lp_202_63_73_4, show gCmp .ge (nI 0) (56 / 8) = false from by decide, show gCmp .ne tk 1 = true from by show (!decide (tk = 1)) = true; rw [decide_eq_false h]; rfl]
      rfl
    rw [hgo]
    rfl
def je_74 (w : Nat) : Nat → Nat → Int64 → Int64
  | 0, _, y => y
  | m + 1, i, y => je_74 w m (i + 1) (bif gCmp .ne (hMo (8 * w + i)) 32 then (((y * 27) + (Int32.toInt64 (hMo (8 * w + i)))) - 96) else y)
theorem l_27_74 {N w : Nat} (hw : w < 2) : ∀ (m i n : Nat) (y : Int64), i + m = 8 → m < n → lp_202_63_74_27 N (nI w) n y (nI i) = some (je_74 w m i y, nI 8) := by
  intro m
  induction m with
  | zero =>
    intro i n y hi hn
    obtain rfl : i = 8 := by omega
    cases n with
    | zero => exact absurd hn (by omega)
    | succ n => rfl
  | succ m ih =>
    intro i n y hi hn
    cases n with
    | zero => exact absurd hn (by omega)
    | succ n =>
      rw [lp_202_63_74_27, jgel i 8 rfl (by omega) (by decide), decide_eq_false (show ¬ 8 ≤ i by omega), show (8 : Int32) * nI w + nI i = nI (8 * w + i) from by rw [show (8 : Int32) = nI 8 from rfl, pk_mul, nI_add], jin (show 8 * w + i < 16 by omega) (by decide), jcl (show 8 * w + i < 2 ^ 31 by omega), nI_1, Bool.or_true]
      exact ih (i + 1) n _ (by omega) (by omega)
theorem jE_74 : je_74 0 8 0 0 = lN 79 ∧ je_74 1 8 0 0 = lN 239882 := by decide +kernel
def jr_74 (vl : Int64) : Int32 := (bif decide (vl = lN 239882) then nI 1 else (bif decide (vl = lN 79) then nI 0 else (-1)))
theorem m_74 {N : Nat} (hN : 4000 ≤ N) (tk : Int32) (vl : Int64) : me_202_63_74 N tk vl = some (bif hEq tk 1 then jr_74 vl else (-1)) := by
  obtain ⟨e0, e1⟩ := jE_74
  have f0 : lp_202_63_74_27 N (nI 0) N 0 0 = some (lN 79, nI 8) := by rw [← e0]; exact l_27_74 (N := N) (by decide) 8 0 N 0 rfl (by omega)
  have f1 : lp_202_63_74_27 N (nI 1) N 0 0 = some (lN 239882, nI 8) := by rw [← e1]; exact l_27_74 (N := N) (by decide) 8 0 N 0 rfl (by omega)
  have hc : ∀ (E : Nat) (a b : Int32), (bif gCmp .ne (lg_cmp (lN E) vl) 0 then a else b) = (bif decide (vl = lN E) then b else a) := by
    intro E a b
    rw [jcmp2, decide_eq_decide.mpr (show lN E = vl ↔ vl = lN E from ⟨Eq.symm, Eq.symm⟩)]
    cases decide (vl = lN E) <;> rfl
  unfold me_202_63_74
  by_cases h : tk = 1
  · subst h
    rw [show hEq (1 : Int32) 1 = true from by decide]
    unfold jr_74
    have k : ∀ (w : Nat) (n : Nat) (y : Int32) (E : Nat), w < 2 → lp_202_63_74_27 N (nI w) N 0 0 = some (lN E, nI 8) → lp_202_63_74_4 N 1 vl (n + 1) y (nI w) = lp_202_63_74_4 N 1 vl n (bif decide (vl = lN E) then nI w else y) (nI (w + 1)) := by
      intro w n y E hw he
      rw [lp_202_63_74_4, show gCmp .ge (nI w) (16 / 8) = false from by rw [show ((16 : Int32) / 8) = nI 2 from by decide, jge w 2 rfl rfl (by omega) (by decide)]; exact decide_eq_false (by omega), show gCmp .ne (1 : Int32) 1 = false from by decide, he, nI_1]
      simp only [cond_false, Option.bind_some]
      rw [hc]
    obtain ⟨M, hM⟩ : ∃ M, N = M + 3 := ⟨N - 3, by omega⟩
    have hgo : lp_202_63_74_4 N 1 vl N (-1) 0 = some ((bif decide (vl = lN 239882) then nI 1 else (bif decide (vl = lN 79) then nI 0 else (-1))), nI 2) := by
      rw [show lp_202_63_74_4 N 1 vl N (-1) 0 = lp_202_63_74_4 N 1 vl (M + 3) (-1) (nI 0) from by rw [← hM]; rfl]
      rw [k 0 (M + 2) _ _ (by decide) f0, k 1 (M + 1) _ _ (by decide) f1]
      rw [lp_202_63_74_4, show gCmp .ge (nI 2) (16 / 8) = true from by decide]
      rfl
    rw [hgo]
    rfl
  · rw [show hEq tk 1 = false from decide_eq_false h]
    obtain ⟨M, hM⟩ : ∃ M, N = M + 1 := ⟨N - 1, by omega⟩
    have hgo : lp_202_63_74_4 N tk vl N (-1) 0 = some (-1, 0) := by
      rw [show lp_202_63_74_4 N tk vl N (-1) 0 = lp_202_63_74_4 N tk vl (M + 1) (-1) (nI 0) from by rw [← hM]; rfl]
      rw [lp_202_63_74_4, show gCmp .ge (nI 0) (16 / 8) = false from by decide, show gCmp .ne tk 1 = true from by show (!decide (tk = 1)) = true; rw [decide_eq_false h]; rfl]
      rfl
    rw [hgo]
    rfl
