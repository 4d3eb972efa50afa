/-! THE PURE SIDE: class and model hold the same -/
def jR (a b : Int) (x : Int32) : Prop := a ≤ x.toInt ∧ x.toInt ≤ b
theorem jR_n {x : Int32} {n : Int} (h : jR 0 n x) : ∃ k : Nat, (k : Int) ≤ n ∧ k < 2 ^ 31 ∧ x = nI k := by
  obtain ⟨k, hk, rfl⟩ := nI_of (x := x) (by rw [Int32.lt_iff_toInt_lt]; have := h.1; show ¬ _ < (0 : Int); omega)
  have h2 := h.2
  rw [nI_toInt hk] at h2
  exact ⟨k, h2, hk, rfl⟩
theorem jR_nI {k : Nat} {a b : Int} (hk : k < 2 ^ 31) (h1 : a ≤ (k : Int)) (h2 : (k : Int) ≤ b) : jR a b (nI k) := by
  unfold jR
  rw [nI_toInt hk]
  exact ⟨h1, h2⟩
theorem jR_w {a b a' b' : Int} {x : Int32} (h : jR a b x) (h1 : a' ≤ a) (h2 : b ≤ b') : jR a' b' x := ⟨Int.le_trans h1 h.1, Int.le_trans h.2 h2⟩
/-- all but L and R are alike: the class's blind, the model's row -/
def jC (b : hB) (s : Nat → Int32) : Prop :=
  (s 2 = b.2.2.1 ∧ s 4 = b.2.2.2.1 ∧ s 3 = b.2.2.2.2.1) ∧
  (∀ i, i < 8 → s (15 + 3 * i) = b.2.2.2.2.2.1 i ∧ s (16 + 3 * i) = b.2.2.2.2.2.2.1 i ∧ s (17 + 3 * i) = b.2.2.2.2.2.2.2.1 i) ∧
  (∀ i, i < 6 → s (5 + i) = b.2.2.2.2.2.2.2.2.1 i) ∧
  (∀ i, i < 4 → s (11 + i) = b.2.2.2.2.2.2.2.2.2.1 i) ∧
  (∀ i, i < 61 → s (39 + i) = b.2.2.2.2.2.2.2.2.2.2.1 i) ∧
  (∀ i, i < 24 → s (100 + i) = b.2.2.2.2.2.2.2.2.2.2.2.1 i) ∧
  (∀ i, i < 10 → s (124 + i) = b.2.2.2.2.2.2.2.2.2.2.2.2 i)
/-- all is within its bounds -/
def jG (s : Nat → Int32) : Prop :=
  (jR 0 60 (s 0) ∧ jR 0 60 (s 1) ∧ jR 0 99999 (s 2) ∧ jR 0 8 (s 3)) ∧
  (∀ i, i < 8 → jR 0 6 (s (15 + 3 * i)) ∧ jR (-30) 30 (s (16 + 3 * i)) ∧ jR (-9) 9 (s (17 + 3 * i))) ∧
  (jR (-9) 9 (s 5) ∧ jR 0 9 (s 6) ∧ jR 0 9 (s 7) ∧ jR 0 60 (s 8) ∧ jR 0 99 (s 9) ∧ jR 0 60 (s 10)) ∧
  (∀ i, i < 4 → jR 0 99 (s (11 + i))) ∧ (∀ i, i < 61 → jR 0 9999 (s (39 + i))) ∧ (∀ i, i < 24 → jR 0 60 (s (100 + i))) ∧
  (∀ i, i < 10 → jR (-1) ((s 3).toInt - 1) (s (124 + i)))
def jB (b : hB) (s : Nat → Int32) : Prop := (s 0 = b.1 ∧ s 1 = b.2.1) ∧ jC b s ∧ jG s
def jF (fi fo : Nat → Int32) : Prop := ∀ i, i < 7 → fi i = fo i
theorem jC_kind {b : hB} {s : Nat → Int32} {k : Nat} {v : Int32} (h : jC b s) (hk : k < 8) : jC (b.1, b.2.1, b.2.2.1, b.2.2.2.1, b.2.2.2.2.1, upd b.2.2.2.2.2.1 k v, b.2.2.2.2.2.2) (upd s (15 + 3 * k) v) := by
  obtain ⟨⟨h1, h2, h3⟩, h4, h5, h6, h7, h8, h9⟩ := h
  refine ⟨⟨?_, ?_, ?_⟩, ?_, ?_, ?_, ?_, ?_, ?_⟩
  · rw [pk_un (by omega)]; exact h1
  · rw [pk_un (by omega)]; exact h2
  · rw [pk_un (by omega)]; exact h3
  · intro i hi
    obtain ⟨g1, g2, g3⟩ := h4 i hi
    dsimp only
    refine ⟨?_, ?_, ?_⟩
    · by_cases e : i = k
      · subst e; rw [pk_us, pk_us]
      · rw [pk_un (by omega), pk_un e]; exact g1
    · rw [pk_un (by omega)]; exact g2
    · rw [pk_un (by omega)]; exact g3
  · intro i hi; dsimp only; rw [pk_un (by omega)]; exact h5 i hi
  · intro i hi; dsimp only; rw [pk_un (by omega)]; exact h6 i hi
  · intro i hi; dsimp only; rw [pk_un (by omega)]; exact h7 i hi
  · intro i hi; dsimp only; rw [pk_un (by omega)]; exact h8 i hi
  · intro i hi; dsimp only; rw [pk_un (by omega)]; exact h9 i hi
theorem jC_by {b : hB} {s : Nat → Int32} {k : Nat} {v : Int32} (h : jC b s) (hk : k < 8) : jC (b.1, b.2.1, b.2.2.1, b.2.2.2.1, b.2.2.2.2.1, b.2.2.2.2.2.1, upd b.2.2.2.2.2.2.1 k v, b.2.2.2.2.2.2.2) (upd s (16 + 3 * k) v) := by
  obtain ⟨⟨h1, h2, h3⟩, h4, h5, h6, h7, h8, h9⟩ := h
  refine ⟨⟨?_, ?_, ?_⟩, ?_, ?_, ?_, ?_, ?_, ?_⟩
  · rw [pk_un (by omega)]; exact h1
  · rw [pk_un (by omega)]; exact h2
  · rw [pk_un (by omega)]; exact h3
  · intro i hi
    obtain ⟨g1, g2, g3⟩ := h4 i hi
    dsimp only
    refine ⟨?_, ?_, ?_⟩
    · rw [pk_un (by omega)]; exact g1
    · by_cases e : i = k
      · subst e; rw [pk_us, pk_us]
      · rw [pk_un (by omega), pk_un e]; exact g2
    · rw [pk_un (by omega)]; exact g3
  · intro i hi; dsimp only; rw [pk_un (by omega)]; exact h5 i hi
  · intro i hi; dsimp only; rw [pk_un (by omega)]; exact h6 i hi
  · intro i hi; dsimp only; rw [pk_un (by omega)]; exact h7 i hi
  · intro i hi; dsimp only; rw [pk_un (by omega)]; exact h8 i hi
  · intro i hi; dsimp only; rw [pk_un (by omega)]; exact h9 i hi
theorem jC_lean {b : hB} {s : Nat → Int32} {k : Nat} {v : Int32} (h : jC b s) (hk : k < 8) : jC (b.1, b.2.1, b.2.2.1, b.2.2.2.1, b.2.2.2.2.1, b.2.2.2.2.2.1, b.2.2.2.2.2.2.1, upd b.2.2.2.2.2.2.2.1 k v, b.2.2.2.2.2.2.2.2) (upd s (17 + 3 * k) v) := by
  obtain ⟨⟨h1, h2, h3⟩, h4, h5, h6, h7, h8, h9⟩ := h
  refine ⟨⟨?_, ?_, ?_⟩, ?_, ?_, ?_, ?_, ?_, ?_⟩
  · rw [pk_un (by omega)]; exact h1
  · rw [pk_un (by omega)]; exact h2
  · rw [pk_un (by omega)]; exact h3
  · intro i hi
    obtain ⟨g1, g2, g3⟩ := h4 i hi
    dsimp only
    refine ⟨?_, ?_, ?_⟩
    · rw [pk_un (by omega)]; exact g1
    · rw [pk_un (by omega)]; exact g2
    · by_cases e : i = k
      · subst e; rw [pk_us, pk_us]
      · rw [pk_un (by omega), pk_un e]; exact g3
  · intro i hi; dsimp only; rw [pk_un (by omega)]; exact h5 i hi
  · intro i hi; dsimp only; rw [pk_un (by omega)]; exact h6 i hi
  · intro i hi; dsimp only; rw [pk_un (by omega)]; exact h7 i hi
  · intro i hi; dsimp only; rw [pk_un (by omega)]; exact h8 i hi
  · intro i hi; dsimp only; rw [pk_un (by omega)]; exact h9 i hi
theorem jC_rule {b : hB} {s : Nat → Int32} {k : Nat} {v : Int32} (h : jC b s) (hk : k < 6) : jC (b.1, b.2.1, b.2.2.1, b.2.2.2.1, b.2.2.2.2.1, b.2.2.2.2.2.1, b.2.2.2.2.2.2.1, b.2.2.2.2.2.2.2.1, upd b.2.2.2.2.2.2.2.2.1 k v, b.2.2.2.2.2.2.2.2.2) (upd s (5 + k) v) := by
  obtain ⟨⟨h1, h2, h3⟩, h4, h5, h6, h7, h8, h9⟩ := h
  refine ⟨⟨?_, ?_, ?_⟩, ?_, ?_, ?_, ?_, ?_, ?_⟩
  · rw [pk_un (by omega)]; exact h1
  · rw [pk_un (by omega)]; exact h2
  · rw [pk_un (by omega)]; exact h3
  · intro i hi
    obtain ⟨g1, g2, g3⟩ := h4 i hi
    dsimp only
    refine ⟨?_, ?_, ?_⟩
    · rw [pk_un (by omega)]; exact g1
    · rw [pk_un (by omega)]; exact g2
    · rw [pk_un (by omega)]; exact g3
  · intro i hi
    dsimp only
    by_cases e : i = k
    · subst e; rw [pk_us, pk_us]
    · rw [pk_un (by omega), pk_un e]; exact h5 i hi
  · intro i hi; dsimp only; rw [pk_un (by omega)]; exact h6 i hi
  · intro i hi; dsimp only; rw [pk_un (by omega)]; exact h7 i hi
  · intro i hi; dsimp only; rw [pk_un (by omega)]; exact h8 i hi
  · intro i hi; dsimp only; rw [pk_un (by omega)]; exact h9 i hi
theorem jC_price {b : hB} {s : Nat → Int32} {k : Nat} {v : Int32} (h : jC b s) (hk : k < 4) : jC (b.1, b.2.1, b.2.2.1, b.2.2.2.1, b.2.2.2.2.1, b.2.2.2.2.2.1, b.2.2.2.2.2.2.1, b.2.2.2.2.2.2.2.1, b.2.2.2.2.2.2.2.2.1, upd b.2.2.2.2.2.2.2.2.2.1 k v, b.2.2.2.2.2.2.2.2.2.2) (upd s (11 + k) v) := by
  obtain ⟨⟨h1, h2, h3⟩, h4, h5, h6, h7, h8, h9⟩ := h
  refine ⟨⟨?_, ?_, ?_⟩, ?_, ?_, ?_, ?_, ?_, ?_⟩
  · rw [pk_un (by omega)]; exact h1
  · rw [pk_un (by omega)]; exact h2
  · rw [pk_un (by omega)]; exact h3
  · intro i hi
    obtain ⟨g1, g2, g3⟩ := h4 i hi
    dsimp only
    refine ⟨?_, ?_, ?_⟩
    · rw [pk_un (by omega)]; exact g1
    · rw [pk_un (by omega)]; exact g2
    · rw [pk_un (by omega)]; exact g3
  · intro i hi; dsimp only; rw [pk_un (by omega)]; exact h5 i hi
  · intro i hi
    dsimp only
    by_cases e : i = k
    · subst e; rw [pk_us, pk_us]
    · rw [pk_un (by omega), pk_un e]; exact h6 i hi
  · intro i hi; dsimp only; rw [pk_un (by omega)]; exact h7 i hi
  · intro i hi; dsimp only; rw [pk_un (by omega)]; exact h8 i hi
  · intro i hi; dsimp only; rw [pk_un (by omega)]; exact h9 i hi
theorem jC_wear {b : hB} {s : Nat → Int32} {k : Nat} {v : Int32} (h : jC b s) (hk : k < 61) : jC (b.1, b.2.1, b.2.2.1, b.2.2.2.1, b.2.2.2.2.1, b.2.2.2.2.2.1, b.2.2.2.2.2.2.1, b.2.2.2.2.2.2.2.1, b.2.2.2.2.2.2.2.2.1, b.2.2.2.2.2.2.2.2.2.1, upd b.2.2.2.2.2.2.2.2.2.2.1 k v, b.2.2.2.2.2.2.2.2.2.2.2) (upd s (39 + k) v) := by
  obtain ⟨⟨h1, h2, h3⟩, h4, h5, h6, h7, h8, h9⟩ := h
  refine ⟨⟨?_, ?_, ?_⟩, ?_, ?_, ?_, ?_, ?_, ?_⟩
  · rw [pk_un (by omega)]; exact h1
  · rw [pk_un (by omega)]; exact h2
  · rw [pk_un (by omega)]; exact h3
  · intro i hi
    obtain ⟨g1, g2, g3⟩ := h4 i hi
    dsimp only
    refine ⟨?_, ?_, ?_⟩
    · rw [pk_un (by omega)]; exact g1
    · rw [pk_un (by omega)]; exact g2
    · rw [pk_un (by omega)]; exact g3
  · intro i hi; dsimp only; rw [pk_un (by omega)]; exact h5 i hi
  · intro i hi; dsimp only; rw [pk_un (by omega)]; exact h6 i hi
  · intro i hi
    dsimp only
    by_cases e : i = k
    · subst e; rw [pk_us, pk_us]
    · rw [pk_un (by omega), pk_un e]; exact h7 i hi
  · intro i hi; dsimp only; rw [pk_un (by omega)]; exact h8 i hi
  · intro i hi; dsimp only; rw [pk_un (by omega)]; exact h9 i hi
theorem jC_sun {b : hB} {s : Nat → Int32} {k : Nat} {v : Int32} (h : jC b s) (hk : k < 24) : jC (b.1, b.2.1, b.2.2.1, b.2.2.2.1, b.2.2.2.2.1, b.2.2.2.2.2.1, b.2.2.2.2.2.2.1, b.2.2.2.2.2.2.2.1, b.2.2.2.2.2.2.2.2.1, b.2.2.2.2.2.2.2.2.2.1, b.2.2.2.2.2.2.2.2.2.2.1, upd b.2.2.2.2.2.2.2.2.2.2.2.1 k v, b.2.2.2.2.2.2.2.2.2.2.2.2) (upd s (100 + k) v) := by
  obtain ⟨⟨h1, h2, h3⟩, h4, h5, h6, h7, h8, h9⟩ := h
  refine ⟨⟨?_, ?_, ?_⟩, ?_, ?_, ?_, ?_, ?_, ?_⟩
  · rw [pk_un (by omega)]; exact h1
  · rw [pk_un (by omega)]; exact h2
  · rw [pk_un (by omega)]; exact h3
  · intro i hi
    obtain ⟨g1, g2, g3⟩ := h4 i hi
    dsimp only
    refine ⟨?_, ?_, ?_⟩
    · rw [pk_un (by omega)]; exact g1
    · rw [pk_un (by omega)]; exact g2
    · rw [pk_un (by omega)]; exact g3
  · intro i hi; dsimp only; rw [pk_un (by omega)]; exact h5 i hi
  · intro i hi; dsimp only; rw [pk_un (by omega)]; exact h6 i hi
  · intro i hi; dsimp only; rw [pk_un (by omega)]; exact h7 i hi
  · intro i hi
    dsimp only
    by_cases e : i = k
    · subst e; rw [pk_us, pk_us]
    · rw [pk_un (by omega), pk_un e]; exact h8 i hi
  · intro i hi; dsimp only; rw [pk_un (by omega)]; exact h9 i hi
theorem jC_spot {b : hB} {s : Nat → Int32} {k : Nat} {v : Int32} (h : jC b s) (hk : k < 10) : jC (b.1, b.2.1, b.2.2.1, b.2.2.2.1, b.2.2.2.2.1, b.2.2.2.2.2.1, b.2.2.2.2.2.2.1, b.2.2.2.2.2.2.2.1, b.2.2.2.2.2.2.2.2.1, b.2.2.2.2.2.2.2.2.2.1, b.2.2.2.2.2.2.2.2.2.2.1, b.2.2.2.2.2.2.2.2.2.2.2.1, upd b.2.2.2.2.2.2.2.2.2.2.2.2 k v) (upd s (124 + k) v) := by
  obtain ⟨⟨h1, h2, h3⟩, h4, h5, h6, h7, h8, h9⟩ := h
  refine ⟨⟨?_, ?_, ?_⟩, ?_, ?_, ?_, ?_, ?_, ?_⟩
  · rw [pk_un (by omega)]; exact h1
  · rw [pk_un (by omega)]; exact h2
  · rw [pk_un (by omega)]; exact h3
  · intro i hi
    obtain ⟨g1, g2, g3⟩ := h4 i hi
    dsimp only
    refine ⟨?_, ?_, ?_⟩
    · rw [pk_un (by omega)]; exact g1
    · rw [pk_un (by omega)]; exact g2
    · rw [pk_un (by omega)]; exact g3
  · intro i hi; dsimp only; rw [pk_un (by omega)]; exact h5 i hi
  · intro i hi; dsimp only; rw [pk_un (by omega)]; exact h6 i hi
  · intro i hi; dsimp only; rw [pk_un (by omega)]; exact h7 i hi
  · intro i hi; dsimp only; rw [pk_un (by omega)]; exact h8 i hi
  · intro i hi
    dsimp only
    by_cases e : i = k
    · subst e; rw [pk_us, pk_us]
    · rw [pk_un (by omega), pk_un e]; exact h9 i hi
theorem jC_done {b : hB} {s : Nat → Int32} {v : Int32} (h : jC b s) : jC (b.1, b.2.1, v, b.2.2.2) (upd s 2 v) := by
  obtain ⟨⟨h1, h2, h3⟩, h4, h5, h6, h7, h8, h9⟩ := h
  refine ⟨⟨?_, ?_, ?_⟩, ?_, ?_, ?_, ?_, ?_, ?_⟩
  · rw [pk_us]
  · rw [pk_un (by omega)]; exact h2
  · rw [pk_un (by omega)]; exact h3
  · intro i hi
    obtain ⟨g1, g2, g3⟩ := h4 i hi
    dsimp only
    refine ⟨?_, ?_, ?_⟩
    · rw [pk_un (by omega)]; exact g1
    · rw [pk_un (by omega)]; exact g2
    · rw [pk_un (by omega)]; exact g3
  · intro i hi; dsimp only; rw [pk_un (by omega)]; exact h5 i hi
  · intro i hi; dsimp only; rw [pk_un (by omega)]; exact h6 i hi
  · intro i hi; dsimp only; rw [pk_un (by omega)]; exact h7 i hi
  · intro i hi; dsimp only; rw [pk_un (by omega)]; exact h8 i hi
  · intro i hi; dsimp only; rw [pk_un (by omega)]; exact h9 i hi
theorem jC_z {b : hB} {s : Nat → Int32} {v : Int32} (h : jC b s) : jC (b.1, b.2.1, b.2.2.1, v, b.2.2.2.2) (upd s 4 v) := by
  obtain ⟨⟨h1, h2, h3⟩, h4, h5, h6, h7, h8, h9⟩ := h
  refine ⟨⟨?_, ?_, ?_⟩, ?_, ?_, ?_, ?_, ?_, ?_⟩
  · rw [pk_un (by omega)]; exact h1
  · rw [pk_us]
  · rw [pk_un (by omega)]; exact h3
  · intro i hi
    obtain ⟨g1, g2, g3⟩ := h4 i hi
    dsimp only
    refine ⟨?_, ?_, ?_⟩
    · rw [pk_un (by omega)]; exact g1
    · rw [pk_un (by omega)]; exact g2
    · rw [pk_un (by omega)]; exact g3
  · intro i hi; dsimp only; rw [pk_un (by omega)]; exact h5 i hi
  · intro i hi; dsimp only; rw [pk_un (by omega)]; exact h6 i hi
  · intro i hi; dsimp only; rw [pk_un (by omega)]; exact h7 i hi
  · intro i hi; dsimp only; rw [pk_un (by omega)]; exact h8 i hi
  · intro i hi; dsimp only; rw [pk_un (by omega)]; exact h9 i hi
theorem jC_pulls {b : hB} {s : Nat → Int32} {v : Int32} (h : jC b s) : jC (b.1, b.2.1, b.2.2.1, b.2.2.2.1, v, b.2.2.2.2.2) (upd s 3 v) := by
  obtain ⟨⟨h1, h2, h3⟩, h4, h5, h6, h7, h8, h9⟩ := h
  refine ⟨⟨?_, ?_, ?_⟩, ?_, ?_, ?_, ?_, ?_, ?_⟩
  · rw [pk_un (by omega)]; exact h1
  · rw [pk_un (by omega)]; exact h2
  · rw [pk_us]
  · intro i hi
    obtain ⟨g1, g2, g3⟩ := h4 i hi
    dsimp only
    refine ⟨?_, ?_, ?_⟩
    · rw [pk_un (by omega)]; exact g1
    · rw [pk_un (by omega)]; exact g2
    · rw [pk_un (by omega)]; exact g3
  · intro i hi; dsimp only; rw [pk_un (by omega)]; exact h5 i hi
  · intro i hi; dsimp only; rw [pk_un (by omega)]; exact h6 i hi
  · intro i hi; dsimp only; rw [pk_un (by omega)]; exact h7 i hi
  · intro i hi; dsimp only; rw [pk_un (by omega)]; exact h8 i hi
  · intro i hi; dsimp only; rw [pk_un (by omega)]; exact h9 i hi
theorem jC_l {b : hB} {s : Nat → Int32} {v : Int32} (h : jC b s) : jC b (upd s 0 v) := by
  obtain ⟨⟨h1, h2, h3⟩, h4, h5, h6, h7, h8, h9⟩ := h
  refine ⟨⟨?_, ?_, ?_⟩, ?_, ?_, ?_, ?_, ?_, ?_⟩
  · rw [pk_un (by omega)]; exact h1
  · rw [pk_un (by omega)]; exact h2
  · rw [pk_un (by omega)]; exact h3
  · intro i hi
    obtain ⟨g1, g2, g3⟩ := h4 i hi
    refine ⟨?_, ?_, ?_⟩
    · rw [pk_un (by omega)]; exact g1
    · rw [pk_un (by omega)]; exact g2
    · rw [pk_un (by omega)]; exact g3
  · intro i hi; rw [pk_un (by omega)]; exact h5 i hi
  · intro i hi; rw [pk_un (by omega)]; exact h6 i hi
  · intro i hi; rw [pk_un (by omega)]; exact h7 i hi
  · intro i hi; rw [pk_un (by omega)]; exact h8 i hi
  · intro i hi; rw [pk_un (by omega)]; exact h9 i hi
theorem jC_rr {b : hB} {s : Nat → Int32} {v : Int32} (h : jC b s) : jC b (upd s 1 v) := by
  obtain ⟨⟨h1, h2, h3⟩, h4, h5, h6, h7, h8, h9⟩ := h
  refine ⟨⟨?_, ?_, ?_⟩, ?_, ?_, ?_, ?_, ?_, ?_⟩
  · rw [pk_un (by omega)]; exact h1
  · rw [pk_un (by omega)]; exact h2
  · rw [pk_un (by omega)]; exact h3
  · intro i hi
    obtain ⟨g1, g2, g3⟩ := h4 i hi
    refine ⟨?_, ?_, ?_⟩
    · rw [pk_un (by omega)]; exact g1
    · rw [pk_un (by omega)]; exact g2
    · rw [pk_un (by omega)]; exact g3
  · intro i hi; rw [pk_un (by omega)]; exact h5 i hi
  · intro i hi; rw [pk_un (by omega)]; exact h6 i hi
  · intro i hi; rw [pk_un (by omega)]; exact h7 i hi
  · intro i hi; rw [pk_un (by omega)]; exact h8 i hi
  · intro i hi; rw [pk_un (by omega)]; exact h9 i hi
theorem jG_l {s : Nat → Int32} {v : Int32} (h : jG s) (hv : jR 0 60 v) : jG (upd s (0) v) := by
  obtain ⟨⟨h0, h1, h2, h3⟩, h4, ⟨h5, h6, h7, h8, h9, h10⟩, h11, h12, h13, h14⟩ := h
  refine ⟨⟨?_, ?_, ?_, ?_⟩, ?_, ⟨?_, ?_, ?_, ?_, ?_, ?_⟩, ?_, ?_, ?_, ?_⟩
  · rw [pk_us]; exact hv
  · rw [pk_un (by omega)]; exact h1
  · rw [pk_un (by omega)]; exact h2
  · rw [pk_un (by omega)]; exact h3
  · intro i hi
    obtain ⟨g1, g2, g3⟩ := h4 i hi
    refine ⟨?_, ?_, ?_⟩
    · rw [pk_un (by omega)]; exact g1
    · rw [pk_un (by omega)]; exact g2
    · rw [pk_un (by omega)]; exact g3
  · rw [pk_un (by omega)]; exact h5
  · rw [pk_un (by omega)]; exact h6
  · rw [pk_un (by omega)]; exact h7
  · rw [pk_un (by omega)]; exact h8
  · rw [pk_un (by omega)]; exact h9
  · rw [pk_un (by omega)]; exact h10
  · intro i hi; rw [pk_un (by omega)]; exact h11 i hi
  · intro i hi; rw [pk_un (by omega)]; exact h12 i hi
  · intro i hi; rw [pk_un (by omega)]; exact h13 i hi
  · intro i hi
    rw [pk_un (j := 3) (by omega), pk_un (by omega)]; exact h14 i hi
theorem jG_rr {s : Nat → Int32} {v : Int32} (h : jG s) (hv : jR 0 60 v) : jG (upd s (1) v) := by
  obtain ⟨⟨h0, h1, h2, h3⟩, h4, ⟨h5, h6, h7, h8, h9, h10⟩, h11, h12, h13, h14⟩ := h
  refine ⟨⟨?_, ?_, ?_, ?_⟩, ?_, ⟨?_, ?_, ?_, ?_, ?_, ?_⟩, ?_, ?_, ?_, ?_⟩
  · rw [pk_un (by omega)]; exact h0
  · rw [pk_us]; exact hv
  · rw [pk_un (by omega)]; exact h2
  · rw [pk_un (by omega)]; exact h3
  · intro i hi
    obtain ⟨g1, g2, g3⟩ := h4 i hi
    refine ⟨?_, ?_, ?_⟩
    · rw [pk_un (by omega)]; exact g1
    · rw [pk_un (by omega)]; exact g2
    · rw [pk_un (by omega)]; exact g3
  · rw [pk_un (by omega)]; exact h5
  · rw [pk_un (by omega)]; exact h6
  · rw [pk_un (by omega)]; exact h7
  · rw [pk_un (by omega)]; exact h8
  · rw [pk_un (by omega)]; exact h9
  · rw [pk_un (by omega)]; exact h10
  · intro i hi; rw [pk_un (by omega)]; exact h11 i hi
  · intro i hi; rw [pk_un (by omega)]; exact h12 i hi
  · intro i hi; rw [pk_un (by omega)]; exact h13 i hi
  · intro i hi
    rw [pk_un (j := 3) (by omega), pk_un (by omega)]; exact h14 i hi
theorem jG_done {s : Nat → Int32} {v : Int32} (h : jG s) (hv : jR 0 99999 v) : jG (upd s (2) v) := by
  obtain ⟨⟨h0, h1, h2, h3⟩, h4, ⟨h5, h6, h7, h8, h9, h10⟩, h11, h12, h13, h14⟩ := h
  refine ⟨⟨?_, ?_, ?_, ?_⟩, ?_, ⟨?_, ?_, ?_, ?_, ?_, ?_⟩, ?_, ?_, ?_, ?_⟩
  · rw [pk_un (by omega)]; exact h0
  · rw [pk_un (by omega)]; exact h1
  · rw [pk_us]; exact hv
  · rw [pk_un (by omega)]; exact h3
  · intro i hi
    obtain ⟨g1, g2, g3⟩ := h4 i hi
    refine ⟨?_, ?_, ?_⟩
    · rw [pk_un (by omega)]; exact g1
    · rw [pk_un (by omega)]; exact g2
    · rw [pk_un (by omega)]; exact g3
  · rw [pk_un (by omega)]; exact h5
  · rw [pk_un (by omega)]; exact h6
  · rw [pk_un (by omega)]; exact h7
  · rw [pk_un (by omega)]; exact h8
  · rw [pk_un (by omega)]; exact h9
  · rw [pk_un (by omega)]; exact h10
  · intro i hi; rw [pk_un (by omega)]; exact h11 i hi
  · intro i hi; rw [pk_un (by omega)]; exact h12 i hi
  · intro i hi; rw [pk_un (by omega)]; exact h13 i hi
  · intro i hi
    rw [pk_un (j := 3) (by omega), pk_un (by omega)]; exact h14 i hi
theorem jG_z {s : Nat → Int32} {v : Int32} (h : jG s) : jG (upd s (4) v) := by
  obtain ⟨⟨h0, h1, h2, h3⟩, h4, ⟨h5, h6, h7, h8, h9, h10⟩, h11, h12, h13, h14⟩ := h
  refine ⟨⟨?_, ?_, ?_, ?_⟩, ?_, ⟨?_, ?_, ?_, ?_, ?_, ?_⟩, ?_, ?_, ?_, ?_⟩
  · rw [pk_un (by omega)]; exact h0
  · rw [pk_un (by omega)]; exact h1
  · rw [pk_un (by omega)]; exact h2
  · rw [pk_un (by omega)]; exact h3
  · intro i hi
    obtain ⟨g1, g2, g3⟩ := h4 i hi
    refine ⟨?_, ?_, ?_⟩
    · rw [pk_un (by omega)]; exact g1
    · rw [pk_un (by omega)]; exact g2
    · rw [pk_un (by omega)]; exact g3
  · rw [pk_un (by omega)]; exact h5
  · rw [pk_un (by omega)]; exact h6
  · rw [pk_un (by omega)]; exact h7
  · rw [pk_un (by omega)]; exact h8
  · rw [pk_un (by omega)]; exact h9
  · rw [pk_un (by omega)]; exact h10
  · intro i hi; rw [pk_un (by omega)]; exact h11 i hi
  · intro i hi; rw [pk_un (by omega)]; exact h12 i hi
  · intro i hi; rw [pk_un (by omega)]; exact h13 i hi
  · intro i hi
    rw [pk_un (j := 3) (by omega), pk_un (by omega)]; exact h14 i hi
theorem jG_kind {s : Nat → Int32} {k : Nat} {v : Int32} (h : jG s) (hk : k < 8) (hv : jR 0 6 v) : jG (upd s (15 + 3 * k) v) := by
  obtain ⟨⟨h0, h1, h2, h3⟩, h4, ⟨h5, h6, h7, h8, h9, h10⟩, h11, h12, h13, h14⟩ := h
  refine ⟨⟨?_, ?_, ?_, ?_⟩, ?_, ⟨?_, ?_, ?_, ?_, ?_, ?_⟩, ?_, ?_, ?_, ?_⟩
  · rw [pk_un (by omega)]; exact h0
  · rw [pk_un (by omega)]; exact h1
  · rw [pk_un (by omega)]; exact h2
  · rw [pk_un (by omega)]; exact h3
  · intro i hi
    obtain ⟨g1, g2, g3⟩ := h4 i hi
    refine ⟨?_, ?_, ?_⟩
    · by_cases e : i = k
      · subst e; rw [pk_us]; exact hv
      · rw [pk_un (by omega)]; exact g1
    · rw [pk_un (by omega)]; exact g2
    · rw [pk_un (by omega)]; exact g3
  · rw [pk_un (by omega)]; exact h5
  · rw [pk_un (by omega)]; exact h6
  · rw [pk_un (by omega)]; exact h7
  · rw [pk_un (by omega)]; exact h8
  · rw [pk_un (by omega)]; exact h9
  · rw [pk_un (by omega)]; exact h10
  · intro i hi; rw [pk_un (by omega)]; exact h11 i hi
  · intro i hi; rw [pk_un (by omega)]; exact h12 i hi
  · intro i hi; rw [pk_un (by omega)]; exact h13 i hi
  · intro i hi
    rw [pk_un (j := 3) (by omega), pk_un (by omega)]; exact h14 i hi
theorem jG_by {s : Nat → Int32} {k : Nat} {v : Int32} (h : jG s) (hk : k < 8) (hv : jR (-30) 30 v) : jG (upd s (16 + 3 * k) v) := by
  obtain ⟨⟨h0, h1, h2, h3⟩, h4, ⟨h5, h6, h7, h8, h9, h10⟩, h11, h12, h13, h14⟩ := h
  refine ⟨⟨?_, ?_, ?_, ?_⟩, ?_, ⟨?_, ?_, ?_, ?_, ?_, ?_⟩, ?_, ?_, ?_, ?_⟩
  · rw [pk_un (by omega)]; exact h0
  · rw [pk_un (by omega)]; exact h1
  · rw [pk_un (by omega)]; exact h2
  · rw [pk_un (by omega)]; exact h3
  · intro i hi
    obtain ⟨g1, g2, g3⟩ := h4 i hi
    refine ⟨?_, ?_, ?_⟩
    · rw [pk_un (by omega)]; exact g1
    · by_cases e : i = k
      · subst e; rw [pk_us]; exact hv
      · rw [pk_un (by omega)]; exact g2
    · rw [pk_un (by omega)]; exact g3
  · rw [pk_un (by omega)]; exact h5
  · rw [pk_un (by omega)]; exact h6
  · rw [pk_un (by omega)]; exact h7
  · rw [pk_un (by omega)]; exact h8
  · rw [pk_un (by omega)]; exact h9
  · rw [pk_un (by omega)]; exact h10
  · intro i hi; rw [pk_un (by omega)]; exact h11 i hi
  · intro i hi; rw [pk_un (by omega)]; exact h12 i hi
  · intro i hi; rw [pk_un (by omega)]; exact h13 i hi
  · intro i hi
    rw [pk_un (j := 3) (by omega), pk_un (by omega)]; exact h14 i hi
theorem jG_lean {s : Nat → Int32} {k : Nat} {v : Int32} (h : jG s) (hk : k < 8) (hv : jR (-9) 9 v) : jG (upd s (17 + 3 * k) v) := by
  obtain ⟨⟨h0, h1, h2, h3⟩, h4, ⟨h5, h6, h7, h8, h9, h10⟩, h11, h12, h13, h14⟩ := h
  refine ⟨⟨?_, ?_, ?_, ?_⟩, ?_, ⟨?_, ?_, ?_, ?_, ?_, ?_⟩, ?_, ?_, ?_, ?_⟩
  · rw [pk_un (by omega)]; exact h0
  · rw [pk_un (by omega)]; exact h1
  · rw [pk_un (by omega)]; exact h2
  · rw [pk_un (by omega)]; exact h3
  · intro i hi
    obtain ⟨g1, g2, g3⟩ := h4 i hi
    refine ⟨?_, ?_, ?_⟩
    · rw [pk_un (by omega)]; exact g1
    · rw [pk_un (by omega)]; exact g2
    · by_cases e : i = k
      · subst e; rw [pk_us]; exact hv
      · rw [pk_un (by omega)]; exact g3
  · rw [pk_un (by omega)]; exact h5
  · rw [pk_un (by omega)]; exact h6
  · rw [pk_un (by omega)]; exact h7
  · rw [pk_un (by omega)]; exact h8
  · rw [pk_un (by omega)]; exact h9
  · rw [pk_un (by omega)]; exact h10
  · intro i hi; rw [pk_un (by omega)]; exact h11 i hi
  · intro i hi; rw [pk_un (by omega)]; exact h12 i hi
  · intro i hi; rw [pk_un (by omega)]; exact h13 i hi
  · intro i hi
    rw [pk_un (j := 3) (by omega), pk_un (by omega)]; exact h14 i hi
theorem jG_price {s : Nat → Int32} {k : Nat} {v : Int32} (h : jG s) (hk : k < 4) (hv : jR 0 99 v) : jG (upd s (11 + k) v) := by
  obtain ⟨⟨h0, h1, h2, h3⟩, h4, ⟨h5, h6, h7, h8, h9, h10⟩, h11, h12, h13, h14⟩ := h
  refine ⟨⟨?_, ?_, ?_, ?_⟩, ?_, ⟨?_, ?_, ?_, ?_, ?_, ?_⟩, ?_, ?_, ?_, ?_⟩
  · rw [pk_un (by omega)]; exact h0
  · rw [pk_un (by omega)]; exact h1
  · rw [pk_un (by omega)]; exact h2
  · rw [pk_un (by omega)]; exact h3
  · intro i hi
    obtain ⟨g1, g2, g3⟩ := h4 i hi
    refine ⟨?_, ?_, ?_⟩
    · rw [pk_un (by omega)]; exact g1
    · rw [pk_un (by omega)]; exact g2
    · rw [pk_un (by omega)]; exact g3
  · rw [pk_un (by omega)]; exact h5
  · rw [pk_un (by omega)]; exact h6
  · rw [pk_un (by omega)]; exact h7
  · rw [pk_un (by omega)]; exact h8
  · rw [pk_un (by omega)]; exact h9
  · rw [pk_un (by omega)]; exact h10
  · intro i hi
    by_cases e : i = k
    · subst e; rw [pk_us]; exact hv
    · rw [pk_un (by omega)]; exact h11 i hi
  · intro i hi; rw [pk_un (by omega)]; exact h12 i hi
  · intro i hi; rw [pk_un (by omega)]; exact h13 i hi
  · intro i hi
    rw [pk_un (j := 3) (by omega), pk_un (by omega)]; exact h14 i hi
theorem jG_wear {s : Nat → Int32} {k : Nat} {v : Int32} (h : jG s) (hk : k < 61) (hv : jR 0 9999 v) : jG (upd s (39 + k) v) := by
  obtain ⟨⟨h0, h1, h2, h3⟩, h4, ⟨h5, h6, h7, h8, h9, h10⟩, h11, h12, h13, h14⟩ := h
  refine ⟨⟨?_, ?_, ?_, ?_⟩, ?_, ⟨?_, ?_, ?_, ?_, ?_, ?_⟩, ?_, ?_, ?_, ?_⟩
  · rw [pk_un (by omega)]; exact h0
  · rw [pk_un (by omega)]; exact h1
  · rw [pk_un (by omega)]; exact h2
  · rw [pk_un (by omega)]; exact h3
  · intro i hi
    obtain ⟨g1, g2, g3⟩ := h4 i hi
    refine ⟨?_, ?_, ?_⟩
    · rw [pk_un (by omega)]; exact g1
    · rw [pk_un (by omega)]; exact g2
    · rw [pk_un (by omega)]; exact g3
  · rw [pk_un (by omega)]; exact h5
  · rw [pk_un (by omega)]; exact h6
  · rw [pk_un (by omega)]; exact h7
  · rw [pk_un (by omega)]; exact h8
  · rw [pk_un (by omega)]; exact h9
  · rw [pk_un (by omega)]; exact h10
  · intro i hi; rw [pk_un (by omega)]; exact h11 i hi
  · intro i hi
    by_cases e : i = k
    · subst e; rw [pk_us]; exact hv
    · rw [pk_un (by omega)]; exact h12 i hi
  · intro i hi; rw [pk_un (by omega)]; exact h13 i hi
  · intro i hi
    rw [pk_un (j := 3) (by omega), pk_un (by omega)]; exact h14 i hi
theorem jG_sun {s : Nat → Int32} {k : Nat} {v : Int32} (h : jG s) (hk : k < 24) (hv : jR 0 60 v) : jG (upd s (100 + k) v) := by
  obtain ⟨⟨h0, h1, h2, h3⟩, h4, ⟨h5, h6, h7, h8, h9, h10⟩, h11, h12, h13, h14⟩ := h
  refine ⟨⟨?_, ?_, ?_, ?_⟩, ?_, ⟨?_, ?_, ?_, ?_, ?_, ?_⟩, ?_, ?_, ?_, ?_⟩
  · rw [pk_un (by omega)]; exact h0
  · rw [pk_un (by omega)]; exact h1
  · rw [pk_un (by omega)]; exact h2
  · rw [pk_un (by omega)]; exact h3
  · intro i hi
    obtain ⟨g1, g2, g3⟩ := h4 i hi
    refine ⟨?_, ?_, ?_⟩
    · rw [pk_un (by omega)]; exact g1
    · rw [pk_un (by omega)]; exact g2
    · rw [pk_un (by omega)]; exact g3
  · rw [pk_un (by omega)]; exact h5
  · rw [pk_un (by omega)]; exact h6
  · rw [pk_un (by omega)]; exact h7
  · rw [pk_un (by omega)]; exact h8
  · rw [pk_un (by omega)]; exact h9
  · rw [pk_un (by omega)]; exact h10
  · intro i hi; rw [pk_un (by omega)]; exact h11 i hi
  · intro i hi; rw [pk_un (by omega)]; exact h12 i hi
  · intro i hi
    by_cases e : i = k
    · subst e; rw [pk_us]; exact hv
    · rw [pk_un (by omega)]; exact h13 i hi
  · intro i hi
    rw [pk_un (j := 3) (by omega), pk_un (by omega)]; exact h14 i hi
theorem jG_spot {s : Nat → Int32} {k : Nat} {v : Int32} (h : jG s) (hk : k < 10) (hv : jR (-1) ((s 3).toInt - 1) v) : jG (upd s (124 + k) v) := by
  obtain ⟨⟨h0, h1, h2, h3⟩, h4, ⟨h5, h6, h7, h8, h9, h10⟩, h11, h12, h13, h14⟩ := h
  refine ⟨⟨?_, ?_, ?_, ?_⟩, ?_, ⟨?_, ?_, ?_, ?_, ?_, ?_⟩, ?_, ?_, ?_, ?_⟩
  · rw [pk_un (by omega)]; exact h0
  · rw [pk_un (by omega)]; exact h1
  · rw [pk_un (by omega)]; exact h2
  · rw [pk_un (by omega)]; exact h3
  · intro i hi
    obtain ⟨g1, g2, g3⟩ := h4 i hi
    refine ⟨?_, ?_, ?_⟩
    · rw [pk_un (by omega)]; exact g1
    · rw [pk_un (by omega)]; exact g2
    · rw [pk_un (by omega)]; exact g3
  · rw [pk_un (by omega)]; exact h5
  · rw [pk_un (by omega)]; exact h6
  · rw [pk_un (by omega)]; exact h7
  · rw [pk_un (by omega)]; exact h8
  · rw [pk_un (by omega)]; exact h9
  · rw [pk_un (by omega)]; exact h10
  · intro i hi; rw [pk_un (by omega)]; exact h11 i hi
  · intro i hi; rw [pk_un (by omega)]; exact h12 i hi
  · intro i hi; rw [pk_un (by omega)]; exact h13 i hi
  · intro i hi
    rw [pk_un (j := 3) (by omega)]
    by_cases e : i = k
    · subst e; rw [pk_us]; exact hv
    · rw [pk_un (by omega)]; exact h14 i hi
theorem jG_pulls {s : Nat → Int32} {v : Int32} (h : jG s) (hv : jR 0 8 v) (hm : (s 3).toInt ≤ v.toInt) : jG (upd s (3) v) := by
  obtain ⟨⟨h0, h1, h2, h3⟩, h4, ⟨h5, h6, h7, h8, h9, h10⟩, h11, h12, h13, h14⟩ := h
  refine ⟨⟨?_, ?_, ?_, ?_⟩, ?_, ⟨?_, ?_, ?_, ?_, ?_, ?_⟩, ?_, ?_, ?_, ?_⟩
  · rw [pk_un (by omega)]; exact h0
  · rw [pk_un (by omega)]; exact h1
  · rw [pk_un (by omega)]; exact h2
  · rw [pk_us]; exact hv
  · intro i hi
    obtain ⟨g1, g2, g3⟩ := h4 i hi
    refine ⟨?_, ?_, ?_⟩
    · rw [pk_un (by omega)]; exact g1
    · rw [pk_un (by omega)]; exact g2
    · rw [pk_un (by omega)]; exact g3
  · rw [pk_un (by omega)]; exact h5
  · rw [pk_un (by omega)]; exact h6
  · rw [pk_un (by omega)]; exact h7
  · rw [pk_un (by omega)]; exact h8
  · rw [pk_un (by omega)]; exact h9
  · rw [pk_un (by omega)]; exact h10
  · intro i hi; rw [pk_un (by omega)]; exact h11 i hi
  · intro i hi; rw [pk_un (by omega)]; exact h12 i hi
  · intro i hi; rw [pk_un (by omega)]; exact h13 i hi
  · intro i hi
    rw [pk_us, pk_un (by omega)]
    exact ⟨(h14 i hi).1, by have := (h14 i hi).2; omega⟩
theorem jG_r0 {s : Nat → Int32} {v : Int32} (h : jG s) (hv : jR (-9) 9 v) : jG (upd s (5) v) := by
  obtain ⟨⟨h0, h1, h2, h3⟩, h4, ⟨h5, h6, h7, h8, h9, h10⟩, h11, h12, h13, h14⟩ := h
  refine ⟨⟨?_, ?_, ?_, ?_⟩, ?_, ⟨?_, ?_, ?_, ?_, ?_, ?_⟩, ?_, ?_, ?_, ?_⟩
  · rw [pk_un (by omega)]; exact h0
  · rw [pk_un (by omega)]; exact h1
  · rw [pk_un (by omega)]; exact h2
  · rw [pk_un (by omega)]; exact h3
  · intro i hi
    obtain ⟨g1, g2, g3⟩ := h4 i hi
    refine ⟨?_, ?_, ?_⟩
    · rw [pk_un (by omega)]; exact g1
    · rw [pk_un (by omega)]; exact g2
    · rw [pk_un (by omega)]; exact g3
  · rw [pk_us]; exact hv
  · rw [pk_un (by omega)]; exact h6
  · rw [pk_un (by omega)]; exact h7
  · rw [pk_un (by omega)]; exact h8
  · rw [pk_un (by omega)]; exact h9
  · rw [pk_un (by omega)]; exact h10
  · intro i hi; rw [pk_un (by omega)]; exact h11 i hi
  · intro i hi; rw [pk_un (by omega)]; exact h12 i hi
  · intro i hi; rw [pk_un (by omega)]; exact h13 i hi
  · intro i hi
    rw [pk_un (j := 3) (by omega), pk_un (by omega)]; exact h14 i hi
theorem jG_r1 {s : Nat → Int32} {v : Int32} (h : jG s) (hv : jR 0 9 v) : jG (upd s (6) v) := by
  obtain ⟨⟨h0, h1, h2, h3⟩, h4, ⟨h5, h6, h7, h8, h9, h10⟩, h11, h12, h13, h14⟩ := h
  refine ⟨⟨?_, ?_, ?_, ?_⟩, ?_, ⟨?_, ?_, ?_, ?_, ?_, ?_⟩, ?_, ?_, ?_, ?_⟩
  · rw [pk_un (by omega)]; exact h0
  · rw [pk_un (by omega)]; exact h1
  · rw [pk_un (by omega)]; exact h2
  · rw [pk_un (by omega)]; exact h3
  · intro i hi
    obtain ⟨g1, g2, g3⟩ := h4 i hi
    refine ⟨?_, ?_, ?_⟩
    · rw [pk_un (by omega)]; exact g1
    · rw [pk_un (by omega)]; exact g2
    · rw [pk_un (by omega)]; exact g3
  · rw [pk_un (by omega)]; exact h5
  · rw [pk_us]; exact hv
  · rw [pk_un (by omega)]; exact h7
  · rw [pk_un (by omega)]; exact h8
  · rw [pk_un (by omega)]; exact h9
  · rw [pk_un (by omega)]; exact h10
  · intro i hi; rw [pk_un (by omega)]; exact h11 i hi
  · intro i hi; rw [pk_un (by omega)]; exact h12 i hi
  · intro i hi; rw [pk_un (by omega)]; exact h13 i hi
  · intro i hi
    rw [pk_un (j := 3) (by omega), pk_un (by omega)]; exact h14 i hi
theorem jG_r2 {s : Nat → Int32} {v : Int32} (h : jG s) (hv : jR 0 9 v) : jG (upd s (7) v) := by
  obtain ⟨⟨h0, h1, h2, h3⟩, h4, ⟨h5, h6, h7, h8, h9, h10⟩, h11, h12, h13, h14⟩ := h
  refine ⟨⟨?_, ?_, ?_, ?_⟩, ?_, ⟨?_, ?_, ?_, ?_, ?_, ?_⟩, ?_, ?_, ?_, ?_⟩
  · rw [pk_un (by omega)]; exact h0
  · rw [pk_un (by omega)]; exact h1
  · rw [pk_un (by omega)]; exact h2
  · rw [pk_un (by omega)]; exact h3
  · intro i hi
    obtain ⟨g1, g2, g3⟩ := h4 i hi
    refine ⟨?_, ?_, ?_⟩
    · rw [pk_un (by omega)]; exact g1
    · rw [pk_un (by omega)]; exact g2
    · rw [pk_un (by omega)]; exact g3
  · rw [pk_un (by omega)]; exact h5
  · rw [pk_un (by omega)]; exact h6
  · rw [pk_us]; exact hv
  · rw [pk_un (by omega)]; exact h8
  · rw [pk_un (by omega)]; exact h9
  · rw [pk_un (by omega)]; exact h10
  · intro i hi; rw [pk_un (by omega)]; exact h11 i hi
  · intro i hi; rw [pk_un (by omega)]; exact h12 i hi
  · intro i hi; rw [pk_un (by omega)]; exact h13 i hi
  · intro i hi
    rw [pk_un (j := 3) (by omega), pk_un (by omega)]; exact h14 i hi
theorem jG_r3 {s : Nat → Int32} {v : Int32} (h : jG s) (hv : jR 0 60 v) : jG (upd s (8) v) := by
  obtain ⟨⟨h0, h1, h2, h3⟩, h4, ⟨h5, h6, h7, h8, h9, h10⟩, h11, h12, h13, h14⟩ := h
  refine ⟨⟨?_, ?_, ?_, ?_⟩, ?_, ⟨?_, ?_, ?_, ?_, ?_, ?_⟩, ?_, ?_, ?_, ?_⟩
  · rw [pk_un (by omega)]; exact h0
  · rw [pk_un (by omega)]; exact h1
  · rw [pk_un (by omega)]; exact h2
  · rw [pk_un (by omega)]; exact h3
  · intro i hi
    obtain ⟨g1, g2, g3⟩ := h4 i hi
    refine ⟨?_, ?_, ?_⟩
    · rw [pk_un (by omega)]; exact g1
    · rw [pk_un (by omega)]; exact g2
    · rw [pk_un (by omega)]; exact g3
  · rw [pk_un (by omega)]; exact h5
  · rw [pk_un (by omega)]; exact h6
  · rw [pk_un (by omega)]; exact h7
  · rw [pk_us]; exact hv
  · rw [pk_un (by omega)]; exact h9
  · rw [pk_un (by omega)]; exact h10
  · intro i hi; rw [pk_un (by omega)]; exact h11 i hi
  · intro i hi; rw [pk_un (by omega)]; exact h12 i hi
  · intro i hi; rw [pk_un (by omega)]; exact h13 i hi
  · intro i hi
    rw [pk_un (j := 3) (by omega), pk_un (by omega)]; exact h14 i hi
theorem jG_r4 {s : Nat → Int32} {v : Int32} (h : jG s) (hv : jR 0 99 v) : jG (upd s (9) v) := by
  obtain ⟨⟨h0, h1, h2, h3⟩, h4, ⟨h5, h6, h7, h8, h9, h10⟩, h11, h12, h13, h14⟩ := h
  refine ⟨⟨?_, ?_, ?_, ?_⟩, ?_, ⟨?_, ?_, ?_, ?_, ?_, ?_⟩, ?_, ?_, ?_, ?_⟩
  · rw [pk_un (by omega)]; exact h0
  · rw [pk_un (by omega)]; exact h1
  · rw [pk_un (by omega)]; exact h2
  · rw [pk_un (by omega)]; exact h3
  · intro i hi
    obtain ⟨g1, g2, g3⟩ := h4 i hi
    refine ⟨?_, ?_, ?_⟩
    · rw [pk_un (by omega)]; exact g1
    · rw [pk_un (by omega)]; exact g2
    · rw [pk_un (by omega)]; exact g3
  · rw [pk_un (by omega)]; exact h5
  · rw [pk_un (by omega)]; exact h6
  · rw [pk_un (by omega)]; exact h7
  · rw [pk_un (by omega)]; exact h8
  · rw [pk_us]; exact hv
  · rw [pk_un (by omega)]; exact h10
  · intro i hi; rw [pk_un (by omega)]; exact h11 i hi
  · intro i hi; rw [pk_un (by omega)]; exact h12 i hi
  · intro i hi; rw [pk_un (by omega)]; exact h13 i hi
  · intro i hi
    rw [pk_un (j := 3) (by omega), pk_un (by omega)]; exact h14 i hi
theorem jG_r5 {s : Nat → Int32} {v : Int32} (h : jG s) (hv : jR 0 60 v) : jG (upd s (10) v) := by
  obtain ⟨⟨h0, h1, h2, h3⟩, h4, ⟨h5, h6, h7, h8, h9, h10⟩, h11, h12, h13, h14⟩ := h
  refine ⟨⟨?_, ?_, ?_, ?_⟩, ?_, ⟨?_, ?_, ?_, ?_, ?_, ?_⟩, ?_, ?_, ?_, ?_⟩
  · rw [pk_un (by omega)]; exact h0
  · rw [pk_un (by omega)]; exact h1
  · rw [pk_un (by omega)]; exact h2
  · rw [pk_un (by omega)]; exact h3
  · intro i hi
    obtain ⟨g1, g2, g3⟩ := h4 i hi
    refine ⟨?_, ?_, ?_⟩
    · rw [pk_un (by omega)]; exact g1
    · rw [pk_un (by omega)]; exact g2
    · rw [pk_un (by omega)]; exact g3
  · rw [pk_un (by omega)]; exact h5
  · rw [pk_un (by omega)]; exact h6
  · rw [pk_un (by omega)]; exact h7
  · rw [pk_un (by omega)]; exact h8
  · rw [pk_un (by omega)]; exact h9
  · rw [pk_us]; exact hv
  · intro i hi; rw [pk_un (by omega)]; exact h11 i hi
  · intro i hi; rw [pk_un (by omega)]; exact h12 i hi
  · intro i hi; rw [pk_un (by omega)]; exact h13 i hi
  · intro i hi
    rw [pk_un (j := 3) (by omega), pk_un (by omega)]; exact h14 i hi
theorem jF_no {fi fo : Nat → Int32} (x : Int32) (h : jF fi fo) (hx : x.toNatClampNeg < 7) : jF (f_111_0_fi x fi) (f_124_63_m_fo x fo) := by
  intro i hi
  unfold f_111_0_fi f_124_63_m_fo upd
  by_cases e : i = x.toNatClampNeg
  · rw [if_pos e, if_pos e, h _ hx]
  · rw [if_neg e, if_neg e]; exact h i hi
theorem jw (x a b : Int32) : (v_112 x a b = 1 ∧ v_125 x a b = 1 ∧ jR a.toInt b.toInt x) ∨ (v_112 x a b = 0 ∧ v_125 x a b = 0) := by
  unfold v_112 v_125 gCmp
  by_cases h1 : x < a
  · right
    rw [decide_eq_true h1]
    exact ⟨rfl, rfl⟩
  · rw [decide_eq_false h1]
    by_cases h2 : b < x
    · right
      rw [decide_eq_true h2]
      exact ⟨rfl, rfl⟩
    · left
      rw [decide_eq_false h2]
      rw [Int32.lt_iff_toInt_lt] at h1 h2
      exact ⟨rfl, rfl, by omega, by omega⟩
theorem jp {b : hB} {s : Nat → Int32} (hs : s 3 = b.2.2.2.2.1) (hg : jR 0 8 (s 3)) (x : Int32) : (v_113_0 x b = 0 ∧ v_129_63 x s = 1 ∧ ∃ k : Nat, k < 8 ∧ (k : Int) < (s 3).toInt ∧ x = nI k) ∨ (v_113_0 x b = 1 ∧ v_129_63 x s = 0) := by
  unfold v_113_0 v_129_63 v_125 gCmp
  rw [← hs]
  obtain ⟨n, hn, hn2, hs3⟩ := jR_n hg
  rw [hs3, show (1 : Int32) = nI 1 from rfl]
  have hn8 : n ≤ 8 := by omega
  have hsub : (nI n - nI 1).toInt = (n : Int) - 1 := by
    rw [pk_sub_toInt (by omega) (by decide)]; rfl
  have h00 : (0 : Int32).toInt = 0 := rfl
  by_cases h1 : x < 0
  · right
    simp only [decide_eq_true h1, cond_true]
    exact ⟨trivial, trivial⟩
  · simp only [decide_eq_false h1, cond_false]
    by_cases h2 : x < nI n
    · left
      have h3 : ¬ (nI n - nI 1) < x := by
        rw [Int32.lt_iff_toInt_lt, hsub]
        rw [Int32.lt_iff_toInt_lt, nI_toInt hn2] at h2
        omega
      simp only [decide_eq_true h2, decide_eq_false h3, cond_true, cond_false]
      obtain ⟨k, hk, rfl⟩ := nI_of h1
      rw [nI_ltI hk hn2] at h2
      refine ⟨trivial, trivial, k, by omega, ?_, rfl⟩
      rw [nI_toInt hn2]; omega
    · right
      have h3 : (nI n - nI 1) < x := by
        rw [Int32.lt_iff_toInt_lt, hsub]
        rw [Int32.lt_iff_toInt_lt, nI_toInt hn2] at h2
        omega
      simp only [decide_eq_false h2, decide_eq_true h3, cond_true, cond_false]
      exact ⟨trivial, trivial⟩
theorem jn1 : gCmp .ne (1 : Int32) 0 = true := by decide
theorem jn0 : gCmp .ne (0 : Int32) 0 = false := by decide
theorem je1 : gCmp .eq (1 : Int32) 0 = false := by decide
theorem je0 : gCmp .eq (0 : Int32) 0 = true := by decide
theorem jin {k n : Nat} (h : k < n) (hn : n < 2 ^ 31) : gIn (nI k) n = true := by
  unfold gIn
  rw [nI_clamp (by omega)]
  have h1 : ¬ nI k < 0 := nI_pos (by omega)
  have h2 : Nat.blt k n = true := by rw [Nat.blt_eq]; exact h
  rw [decide_eq_false h1, h2]
  rfl
theorem jcl {k : Nat} (h : k < 2 ^ 31) : Int32.toNatClampNeg (nI k) = k := nI_clamp h
theorem j153 (k : Nat) (a : Nat) : 15 + 3 * nI k + nI a = nI (15 + 3 * k + a) := by
  rw [show (15 : Int32) = nI 15 from rfl, show (3 : Int32) = nI 3 from rfl, pk_mul, nI_add, nI_add]
theorem j153_0 {k : Nat} (h : k < 8) : gIn (15 + 3 * nI k + 0) 134 = true ∧ Int32.toNatClampNeg (15 + 3 * nI k + 0) = 15 + 3 * k := by
  rw [show (0 : Int32) = nI 0 from rfl, j153]
  exact ⟨jin (by omega) (by decide), jcl (by omega)⟩
theorem j153_1 {k : Nat} (h : k < 8) : gIn (15 + 3 * nI k + 1) 134 = true ∧ Int32.toNatClampNeg (15 + 3 * nI k + 1) = 16 + 3 * k := by
  rw [show (1 : Int32) = nI 1 from rfl, j153, show 15 + 3 * k + 1 = 16 + 3 * k by omega]
  exact ⟨jin (by omega) (by decide), jcl (by omega)⟩
theorem j153_2 {k : Nat} (h : k < 8) : gIn (15 + 3 * nI k + 2) 134 = true ∧ Int32.toNatClampNeg (15 + 3 * nI k + 2) = 17 + 3 * k := by
  rw [show (2 : Int32) = nI 2 from rfl, j153, show 15 + 3 * k + 2 = 17 + 3 * k by omega]
  exact ⟨jin (by omega) (by decide), jcl (by omega)⟩
theorem jR_7 {x : Int32} (h : jR 0 6 x) : x = 0 ∨ x = 1 ∨ x = 2 ∨ x = 3 ∨ x = 4 ∨ x = 5 ∨ x = 6 := by
  obtain ⟨k, hk, _, rfl⟩ := jR_n h
  have h7 : k < 7 := by omega
  clear h hk
  match k, h7 with
  | 0, _ => exact .inl rfl
  | 1, _ => exact .inr (.inl rfl)
  | 2, _ => exact .inr (.inr (.inl rfl))
  | 3, _ => exact .inr (.inr (.inr (.inl rfl)))
  | 4, _ => exact .inr (.inr (.inr (.inr (.inl rfl))))
  | 5, _ => exact .inr (.inr (.inr (.inr (.inr (.inl rfl)))))
  | 6, _ => exact .inr (.inr (.inr (.inr (.inr (.inr rfl)))))
theorem jsub2 (x y z : Int32) : x - y - z = x - (y + z) := by
  rw [Int32.sub_eq_add_neg, Int32.sub_eq_add_neg, Int32.sub_eq_add_neg, Int32.neg_add, Int32.add_assoc, Int32.sub_eq_add_neg]
/-- what a pull lifts -/
theorem j16 {b : hB} {s : Nat → Int32} {k : Nat} (h : jC b s) (hG : jG s) (hk : k < 8) : v_16_1 (nI k) b = v_133_63 (nI k) b.1 b.2.1 s := by
  obtain ⟨-, h4, h5, -⟩ := h
  obtain ⟨g1, g2, g3⟩ := h4 k hk
  have hr2 : s 7 = b.2.2.2.2.2.2.2.2.1 2 := h5 2 (by decide)
  have hr3 : s 8 = b.2.2.2.2.2.2.2.2.1 3 := h5 3 (by decide)
  have hkk := (hG.2.1 k hk).1
  unfold v_16_1 v_133_63 v_131_63
  rw [(j153_0 hk).2, (j153_1 hk).2, (j153_2 hk).2, jcl (by omega), ← g1, ← g2, ← g3, ← hr2, ← hr3]
  rcases jR_7 hkk with e | e | e | e | e | e | e <;> rw [e] <;> rfl
theorem j17 {b : hB} {s : Nat → Int32} {k : Nat} (h : jC b s) (hG : jG s) (hk : k < 8) : v_17_1 (nI k) b = v_134_63 (nI k) b.1 b.2.1 s := by
  obtain ⟨-, h4, h5, -⟩ := h
  obtain ⟨g1, g2, g3⟩ := h4 k hk
  have hr2 : s 5 = b.2.2.2.2.2.2.2.2.1 0 := h5 0 (by decide)
  have hr3 : s 6 = b.2.2.2.2.2.2.2.2.1 1 := h5 1 (by decide)
  have hkk := (hG.2.1 k hk).1
  unfold v_17_1 v_134_63 v_131_63
  rw [(j153_0 hk).2, (j153_1 hk).2, (j153_2 hk).2, jcl (by omega), ← g1, ← g2, ← g3, ← hr2, ← hr3]
  have e2 : ∀ x : Int32, 2 * x = x + x := fun x => by
    rw [show (2 : Int32) = 1 + 1 from rfl, Int32.add_mul, Int32.one_mul]
  have e3 : ∀ x y z : Int32, x - y - z - y = x - (2 * y + z) := fun x y z => by
    rw [e2, jsub2, jsub2, Int32.add_assoc, Int32.add_comm z y]
  have e4 : ∀ x y z : Int32, x - y - z = x - (y + z) := jsub2
  cases hr : gCmp .lt b.2.1 30
  · rcases jR_7 hkk with e | e | e | e | e | e | e <;> rw [e] <;> first | rfl | exact congrArg (fun x => x + s 5) (e4 _ _ _).symm | exact congrArg (fun x => x + s 5) (e3 _ _ _).symm
  · rcases jR_7 hkk with e | e | e | e | e | e | e <;> rw [e] <;> refine Eq.trans ?_ (Int32.add_zero _).symm <;> first | rfl | exact (e4 _ _ _).symm | exact (e3 _ _ _).symm
/-- a height after a move -/
theorem jhe (x : Int32) : (if 0 < (if x < 60 then x else 60) then (if x < 60 then x else 60) else 0) = v_127 x := by
  unfold v_127 gCmp
  by_cases h1 : x < 60
  · rw [if_pos h1]
    have h2 : x ≤ 60 := by rw [Int32.lt_iff_toInt_lt] at h1; rw [Int32.le_iff_toInt_le]; omega
    rw [decide_eq_true h2]
    by_cases h3 : 0 < x
    · have h4 : 0 ≤ x := by rw [Int32.lt_iff_toInt_lt] at h3; rw [Int32.le_iff_toInt_le]; omega
      rw [if_pos h3, decide_eq_true h4]; rfl
    · rw [if_neg h3]
      by_cases h4 : 0 ≤ x
      · have h5 : x = 0 := Int32.toInt_inj.mp (by rw [Int32.lt_iff_toInt_lt] at h3; rw [Int32.le_iff_toInt_le] at h4; omega)
        rw [h5]; rfl
      · rw [decide_eq_false h4]; rfl
  · rw [if_neg h1]
    have h4 : (0 : Int32) ≤ x := by
      rw [Int32.lt_iff_toInt_lt] at h1; rw [Int32.le_iff_toInt_le]
      have e0 : (0 : Int32).toInt = 0 := rfl
      have e6 : (60 : Int32).toInt = 60 := rfl
      omega
    rw [decide_eq_true h4]
    by_cases h5 : x ≤ 60
    · have h6 : x = 60 := Int32.toInt_inj.mp (by rw [Int32.lt_iff_toInt_lt] at h1; rw [Int32.le_iff_toInt_le] at h5; omega)
      rw [h6]; rfl
    · rw [decide_eq_false h5]; rfl
theorem jR_127 (x : Int32) : jR 0 60 (v_127 x) := by
  unfold v_127 gCmp
  have e0 : (0 : Int32).toInt = 0 := rfl
  have e6 : (60 : Int32).toInt = 60 := rfl
  by_cases h4 : (0 : Int32) ≤ x
  · rw [decide_eq_true h4]
    by_cases h5 : x ≤ 60
    · rw [decide_eq_true h5]
      rw [Int32.le_iff_toInt_le] at h4 h5
      exact ⟨by show 0 ≤ x.toInt; omega, by show x.toInt ≤ 60; omega⟩
    · rw [decide_eq_false h5]
      show jR 0 60 60
      exact ⟨by decide, by decide⟩
  · rw [decide_eq_false h4]
    show jR 0 60 0
    exact ⟨by decide, by decide⟩
/-- a move of the model, over L and R -/
def jM (s : Nat → Int32) (x : Int32) (p : Int32 × Int32) : Int32 × Int32 := (f_136_63_m_tl x s p.1 p.2, f_136_63_m_tr x s p.1 p.2)
def jI (s : Nat → Int32) (x : Int32) : Nat → Int32 × Int32 → Int32 × Int32
  | 0, p => p
  | n + 1, p => jI s x n (jM s x p)
theorem j18 {d : hB} {s : Nat → Int32} {k : Nat} (h : jC d s) (hG : jG s) (hk : k < 8) : f_18_1_b (nI k) d = ((jM s (nI k) (d.1, d.2.1)).1, (jM s (nI k) (d.1, d.2.1)).2, d.2.2) := by
  unfold f_18_1_b jM f_136_63_m_tl f_136_63_m_tr
  rw [j16 h hG hk, j17 h hG hk, jhe, jhe]
theorem jM_R (s : Nat → Int32) (x : Int32) (p : Int32 × Int32) : jR 0 60 (jM s x p).1 ∧ jR 0 60 (jM s x p).2 := ⟨jR_127 _, jR_127 _⟩
theorem jI_R (s : Nat → Int32) (x : Int32) : ∀ (n : Nat) (p : Int32 × Int32), jR 0 60 p.1 ∧ jR 0 60 p.2 → jR 0 60 (jI s x n p).1 ∧ jR 0 60 (jI s x n p).2 := by
  intro n
  induction n with
  | zero => intro p h; exact h
  | succ n ih => intro p h; exact ih _ (jM_R s x p)
theorem jC_take {b d : hB} {s : Nat → Int32} (h : jC b s) : jC (f_10_10_1_d b d) s := by
  obtain ⟨h1, h4, h5, h6, h7, h8, h9⟩ := h
  have e : ∀ (f g : Nat → Int32) (n i : Nat), i < n → va_cpy f g 0 0 n i = f i := fun f g n i hi => by
    rw [pk_cpy_in (by omega) (by omega)]
    congr 1
    omega
  refine ⟨h1, ?_, ?_, ?_, ?_, ?_, ?_⟩
  · intro i hi
    obtain ⟨g1, g2, g3⟩ := h4 i hi
    unfold f_10_10_1_d
    dsimp only
    rw [e _ _ _ _ hi, e _ _ _ _ hi, e _ _ _ _ hi]
    exact ⟨g1, g2, g3⟩
  · intro i hi
    unfold f_10_10_1_d
    dsimp only
    rw [e _ _ _ _ hi]; exact h5 i hi
  · intro i hi
    unfold f_10_10_1_d
    dsimp only
    rw [e _ _ _ _ hi]; exact h6 i hi
  · intro i hi
    unfold f_10_10_1_d
    dsimp only
    rw [e _ _ _ _ hi]; exact h7 i hi
  · intro i hi
    unfold f_10_10_1_d
    dsimp only
    rw [e _ _ _ _ hi]; exact h8 i hi
  · intro i hi
    unfold f_10_10_1_d
    dsimp only
    rw [e _ _ _ _ hi]; exact h9 i hi
