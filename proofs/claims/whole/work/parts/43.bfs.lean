/-! THE SEARCH, pure: places in the order in which they are come to: place, pulls, first pull, when (8 times the elder's index, and the pull) -/
abbrev jQ : Type := Nat × (Nat → Nat × Nat × Nat × Nat)
def jhas (Q : jQ) (a : Nat) : Bool := (List.range Q.1).any fun j => Nat.beq (Q.2 j).1 a
theorem jhas_t {Q : jQ} {a : Nat} : jhas Q a = true ↔ ∃ j, j < Q.1 ∧ (Q.2 j).1 = a := by
  unfold jhas
  rw [List.any_eq_true]
  constructor
  · rintro ⟨j, h1, h2⟩
    exact ⟨j, List.mem_range.mp h1, Nat.eq_of_beq_eq_true h2⟩
  · rintro ⟨j, h1, h2⟩
    exact ⟨j, List.mem_range.mpr h1, by rw [h2]; exact Nat.beq_refl a⟩
theorem jhas_f {Q : jQ} {a : Nat} (h : jhas Q a = false) : ∀ j, j < Q.1 → (Q.2 j).1 ≠ a := by
  intro j hj e
  rw [jhas_t.mpr ⟨j, hj, e⟩] at h
  cases h
def jvis (Q : jQ) (e : Nat × Nat × Nat × Nat) : jQ := bif jhas Q e.1 then Q else (Q.1 + 1, fun j => if j = Q.1 then e else Q.2 j)
theorem jbt {α : Type} {n : Nat} {a b : α} (h : n = 0) : (bif Nat.beq n 0 then a else b) = a := by subst h; rfl
theorem jbn {α : Type} {n : Nat} {a b : α} (h : ¬ n = 0) : (bif Nat.beq n 0 then a else b) = b := by
  cases n with
  | zero => exact absurd rfl h
  | succ n => rfl
def jnx (mv : Nat → Nat → Nat) (i k : Nat) (Q : jQ) : Nat × Nat × Nat × Nat := (mv k (Q.2 i).1, (Q.2 i).2.1 + 1, bif Nat.beq i 0 then k else (Q.2 i).2.2.1, 8 * i + k)
def jex (mv : Nat → Nat → Nat) (i : Nat) : Nat → Nat → jQ → jQ
  | 0, _, Q => Q
  | m + 1, k, Q => jex mv i m (k + 1) (jvis Q (jnx mv i k Q))
def jbf (mv : Nat → Nat → Nat) (P : Nat) : Nat → Nat → jQ → jQ
  | 0, _, Q => Q
  | f + 1, i, Q => if i < Q.1 then jbf mv P f (i + 1) (jex mv i P 0 Q) else Q
def jInv (mv : Nat → Nat → Nat) (P a0 T : Nat) (Q : jQ) : Prop :=
  (0 < Q.1 ∧ Q.2 0 = (a0, 0, 0, 0)) ∧
  (∀ j, 0 < j → j < Q.1 → (Q.2 j).2.2.2 < T ∧ (Q.2 j).2.2.2 % 8 < P ∧ (Q.2 j).2.2.2 / 8 < j ∧ (Q.2 j).1 = mv ((Q.2 j).2.2.2 % 8) (Q.2 ((Q.2 j).2.2.2 / 8)).1 ∧ (Q.2 j).2.1 = (Q.2 ((Q.2 j).2.2.2 / 8)).2.1 + 1 ∧ (Q.2 j).2.2.1 = (bif Nat.beq ((Q.2 j).2.2.2 / 8) 0 then (Q.2 j).2.2.2 % 8 else (Q.2 ((Q.2 j).2.2.2 / 8)).2.2.1) ∧ (Q.2 j).1 ≠ a0) ∧
  (∀ j, 0 < j → j < Q.1 → ∀ t, t < (Q.2 j).2.2.2 → t % 8 < P → mv (t % 8) (Q.2 (t / 8)).1 ≠ (Q.2 j).1) ∧
  (∀ i j, 0 < i → i < j → j < Q.1 → (Q.2 i).2.2.2 < (Q.2 j).2.2.2) ∧
  (∀ t, t < T → t % 8 < P → t / 8 < Q.1 ∧ ∃ j, j < Q.1 ∧ (Q.2 j).1 = mv (t % 8) (Q.2 (t / 8)).1)
theorem jInv_s {mv : Nat → Nat → Nat} {P a0 i k : Nat} {Q : jQ} (h : jInv mv P a0 (8 * i + k) Q) (hi : i < Q.1) (hk : k < P) (hP : P ≤ 8) : jInv mv P a0 (8 * i + (k + 1)) (jvis Q (jnx mv i k Q)) := by
  obtain ⟨⟨h0, h00⟩, h1, h2, h3, h4⟩ := h
  have hd : (8 * i + k) / 8 = i := by omega
  have hm : (8 * i + k) % 8 = k := by omega
  unfold jvis
  cases hq : jhas Q (jnx mv i k Q).1
  · have hn := jhas_f hq
    simp only [cond_false]
    obtain ⟨F, hF, eo, en⟩ : ∃ F : Nat → Nat × Nat × Nat × Nat, (fun j => if j = Q.1 then jnx mv i k Q else Q.2 j) = F ∧ (∀ j, j < Q.1 → F j = Q.2 j) ∧ F Q.1 = jnx mv i k Q := ⟨_, rfl, fun j hj => if_neg (by omega), if_pos rfl⟩
    rw [hF]
    refine ⟨⟨by omega, ?_⟩, ?_, ?_, ?_, ?_⟩
    · dsimp only
      rw [eo 0 h0]; exact h00
    · intro j hj0 hj
      dsimp only at hj ⊢
      by_cases e : j = Q.1
      · subst e
        generalize F Q.1 = x at en ⊢
        subst en
        unfold jnx
        dsimp only
        rw [hd, hm, eo i hi]
        refine ⟨by omega, hk, hi, rfl, rfl, rfl, ?_⟩
        have := hn 0 h0
        rw [h00] at this
        exact fun h => this h.symm
      · have hj2 : j < Q.1 := by omega
        have ej := eo j hj2
        generalize F j = x at ej ⊢
        subst ej
        obtain ⟨g1, g2, g3, g4, g5, g6, g7⟩ := h1 j hj0 hj2
        rw [eo _ (by omega)]
        exact ⟨by omega, g2, g3, g4, g5, g6, g7⟩
    · intro j hj0 hj t ht htP
      dsimp only at hj ht ⊢
      by_cases e : j = Q.1
      · subst e
        rw [en] at ht ⊢
        have ht2 : t < 8 * i + k := ht
        obtain ⟨g1, q, g2, g3⟩ := h4 t ht2 htP
        rw [eo _ g1, ← g3]
        exact hn q g2
      · have hj2 : j < Q.1 := by omega
        rw [eo j hj2] at ht ⊢
        have := (h1 j hj0 hj2).2.2.1
        rw [eo _ (by omega)]
        exact h2 j hj0 hj2 t ht htP
    · intro p j hp hpj hj
      dsimp only at hj ⊢
      rw [eo p (by omega)]
      by_cases e : j = Q.1
      · subst e
        rw [en]
        exact (h1 p hp hpj).1
      · rw [eo j (by omega)]
        exact h3 p j hp hpj (by omega)
    · intro t ht htP
      dsimp only
      by_cases e : t = 8 * i + k
      · subst e
        rw [hd, hm]
        refine ⟨by omega, Q.1, by omega, ?_⟩
        rw [en, eo i hi]
        rfl
      · obtain ⟨g1, q, g2, g3⟩ := h4 t (by omega) htP
        refine ⟨by omega, q, by omega, ?_⟩
        rw [eo q g2, eo _ g1]
        exact g3
  · obtain ⟨q, g1, g2⟩ := jhas_t.mp hq
    simp only [cond_true]
    refine ⟨⟨h0, h00⟩, ?_, h2, h3, ?_⟩
    · intro j hj0 hj
      obtain ⟨g1, g⟩ := h1 j hj0 hj
      exact ⟨by omega, g⟩
    · intro t ht htP
      by_cases e : t = 8 * i + k
      · subst e
        rw [hd, hm]
        exact ⟨hi, q, g1, g2⟩
      · exact h4 t (by omega) htP
theorem jvis_old (Q : jQ) (e : Nat × Nat × Nat × Nat) : Q.1 ≤ (jvis Q e).1 ∧ ∀ j, j < Q.1 → (jvis Q e).2 j = Q.2 j := by
  unfold jvis
  cases jhas Q e.1
  · simp only [cond_false]
    exact ⟨by omega, fun j hj => if_neg (by omega)⟩
  · simp only [cond_true]
    exact ⟨Nat.le_refl _, fun j _ => trivial⟩
theorem jex_Inv {mv : Nat → Nat → Nat} {P a0 i : Nat} (hP : P ≤ 8) : ∀ (m k : Nat) (Q : jQ), k + m = P → i < Q.1 → jInv mv P a0 (8 * i + k) Q → jInv mv P a0 (8 * i + P) (jex mv i m k Q) ∧ Q.1 ≤ (jex mv i m k Q).1 := by
  intro m
  induction m with
  | zero =>
    intro k Q hk hi h
    obtain rfl : k = P := by omega
    exact ⟨h, Nat.le_refl _⟩
  | succ m ih =>
    intro k Q hk hi h
    have h1 := jInv_s h hi (by omega) hP
    have h2 := (jvis_old Q (jnx mv i k Q)).1
    obtain ⟨h3, h4⟩ := ih (k + 1) _ (by omega) (by omega) h1
    exact ⟨h3, by show Q.1 ≤ (jex mv i m (k + 1) (jvis Q (jnx mv i k Q))).1; omega⟩
theorem jInv_n {mv : Nat → Nat → Nat} {P a0 i : Nat} {Q : jQ} (hP : P ≤ 8) (h : jInv mv P a0 (8 * i + P) Q) : jInv mv P a0 (8 * (i + 1) + 0) Q := by
  obtain ⟨h0, h1, h2, h3, h4⟩ := h
  refine ⟨h0, ?_, h2, h3, ?_⟩
  · intro j hj0 hj
    obtain ⟨g1, g⟩ := h1 j hj0 hj
    exact ⟨by omega, g⟩
  · intro t ht htP
    exact h4 t (by omega) htP
/-- as many at most as there are places -/
theorem jpig : ∀ (M n : Nat) (f : Nat → Nat), (∀ j, j < n → f j < M) → (∀ i j, i < j → j < n → f i ≠ f j) → n ≤ M := by
  intro M
  induction M with
  | zero =>
    intro n f h1 h2
    cases n with
    | zero => exact Nat.le_refl 0
    | succ n => exact absurd (h1 0 (by omega)) (by omega)
  | succ M ih =>
    intro n f h1 h2
    by_cases h : ∃ j, j < n ∧ f j = M
    · obtain ⟨q, hq, e⟩ := h
      have h3 := ih (n - 1) (fun j => if j < q then f j else f (j + 1)) (by
        intro j hj
        show (if j < q then f j else f (j + 1)) < M
        by_cases hjq : j < q
        · rw [if_pos hjq]
          have g1 := h1 j (by omega)
          have g2 := h2 j q hjq hq
          omega
        · rw [if_neg hjq]
          have g1 := h1 (j + 1) (by omega)
          have g2 := h2 q (j + 1) (by omega) (by omega)
          omega) (by
        intro i j hij hj
        show (if i < q then f i else f (i + 1)) ≠ (if j < q then f j else f (j + 1))
        by_cases hjq : j < q
        · rw [if_pos hjq, if_pos (by omega)]
          exact h2 i j hij (by omega)
        · rw [if_neg hjq]
          by_cases hiq : i < q
          · rw [if_pos hiq]
            exact h2 i (j + 1) (by omega) (by omega)
          · rw [if_neg hiq]
            exact h2 (i + 1) (j + 1) (by omega) (by omega))
      omega
    · have h3 := ih n f (fun j hj => by
        have g1 := h1 j hj
        have g2 : f j ≠ M := fun e => h ⟨j, hj, e⟩
        omega) h2
      omega
theorem jInv_nd {mv : Nat → Nat → Nat} {P a0 T : Nat} {Q : jQ} (h : jInv mv P a0 T Q) : ∀ i j, i < j → j < Q.1 → (Q.2 i).1 ≠ (Q.2 j).1 := by
  obtain ⟨⟨h0, h00⟩, h1, h2, h3, h4⟩ := h
  intro i j hij hj
  by_cases hi : i = 0
  · subst hi
    rw [h00]
    exact fun e => (h1 j (by omega) hj).2.2.2.2.2.2 e.symm
  · have hc := h3 i j (by omega) hij hj
    have g := h1 i (by omega) (by omega)
    rw [g.2.2.2.1]
    exact h2 j (by omega) hj _ hc g.2.1
theorem jInv_b {mv : Nat → Nat → Nat} {P a0 T : Nat} {Q : jQ} (h : jInv mv P a0 T Q) (ha : a0 < 3721) (hmv : ∀ k a, mv k a < 3721) : (∀ j, j < Q.1 → (Q.2 j).1 < 3721) ∧ Q.1 ≤ 3721 := by
  have hb : ∀ j, j < Q.1 → (Q.2 j).1 < 3721 := by
    intro j hj
    by_cases hj0 : j = 0
    · subst hj0
      rw [h.1.2]; exact ha
    · rw [(h.2.1 j (by omega) hj).2.2.2.1]
      exact hmv _ _
  exact ⟨hb, jpig 3721 Q.1 (fun j => (Q.2 j).1) hb (jInv_nd h)⟩
theorem jbf_Inv {mv : Nat → Nat → Nat} {P a0 : Nat} (hP : P ≤ 8) (ha : a0 < 3721) (hmv : ∀ k a, mv k a < 3721) : ∀ (m i f : Nat) (Q : jQ), i + m = 3722 → m ≤ f → jInv mv P a0 (8 * i + 0) Q → i ≤ Q.1 → ∃ T, jInv mv P a0 T (jbf mv P f i Q) ∧ T = 8 * (jbf mv P f i Q).1 := by
  intro m
  induction m with
  | zero =>
    intro i f Q hi hf h hiQ
    have := (jInv_b h ha hmv).2
    omega
  | succ m ih =>
    intro i f Q hi hf h hiQ
    cases f with
    | zero => exact absurd hf (by omega)
    | succ f =>
      rw [jbf]
      by_cases hlt : i < Q.1
      · rw [if_pos hlt]
        obtain ⟨h1, h2⟩ := jex_Inv hP P 0 Q (by omega) hlt h
        exact ih (i + 1) f _ (by omega) (by omega) (jInv_n hP h1) (by omega)
      · rw [if_neg hlt]
        have : i = Q.1 := by omega
        subst this
        exact ⟨_, h, rfl⟩
/-- rows of pulls from a place to a place -/
def jrch (mv : Nat → Nat → Nat) (P : Nat) : Nat → Nat → Nat → Prop
  | 0, a, b => a = b
  | n + 1, a, b => ∃ k, k < P ∧ jrch mv P n (mv k a) b
theorem jrch_l {mv : Nat → Nat → Nat} {P : Nat} : ∀ (n a b : Nat), jrch mv P (n + 1) a b ↔ ∃ c k, k < P ∧ jrch mv P n a c ∧ b = mv k c := by
  intro n
  induction n with
  | zero =>
    intro a b
    constructor
    · rintro ⟨k, hk, h⟩
      exact ⟨a, k, hk, rfl, Eq.symm h⟩
    · rintro ⟨c, k, hk, h1, h2⟩
      cases h1
      exact ⟨k, hk, h2.symm⟩
  | succ n ih =>
    intro a b
    constructor
    · rintro ⟨k, hk, h⟩
      obtain ⟨c, k', hk', h1, h2⟩ := (ih _ _).mp h
      exact ⟨c, k', hk', ⟨k, hk, h1⟩, h2⟩
    · rintro ⟨c, k', hk', ⟨k, hk, h1⟩, h2⟩
      exact ⟨k, hk, (ih _ _).mpr ⟨c, k', hk', h1, h2⟩⟩
/-- what a whole search knows -/
theorem jT_mono {mv : Nat → Nat → Nat} {P a0 T : Nat} {Q : jQ} (h : jInv mv P a0 T Q) : ∀ j i, i ≤ j → j < Q.1 → (Q.2 i).2.1 ≤ (Q.2 j).2.1 := by
  intro j
  induction j using Nat.strongRecOn with
  | ind j ih =>
    intro i hij hj
    by_cases hi : i = 0
    · subst hi
      rw [h.1.2]
      exact Nat.zero_le _
    · by_cases e : i = j
      · subst e; exact Nat.le_refl _
      · obtain ⟨g1, g2, g3, g4, g5, g6, g7⟩ := h.2.1 j (by omega) hj
        obtain ⟨k1, k2, k3, k4, k5, k6, k7⟩ := h.2.1 i (by omega) (by omega)
        have hc := h.2.2.2.1 i j (by omega) (by omega) hj
        have := ih ((Q.2 j).2.2.2 / 8) g3 ((Q.2 i).2.2.2 / 8) (by omega) (by omega)
        omega
theorem jT_d0 {mv : Nat → Nat → Nat} {P a0 T : Nat} {Q : jQ} (h : jInv mv P a0 T Q) {j : Nat} (hj0 : 0 < j) (hj : j < Q.1) : 0 < (Q.2 j).2.1 := by
  rw [(h.2.1 j hj0 hj).2.2.2.2.1]
  omega
theorem jT_reach {mv : Nat → Nat → Nat} {P a0 T : Nat} {Q : jQ} (h : jInv mv P a0 T Q) : ∀ j, j < Q.1 → jrch mv P (Q.2 j).2.1 a0 (Q.2 j).1 := by
  intro j
  induction j using Nat.strongRecOn with
  | ind j ih =>
    intro hj
    by_cases hj0 : j = 0
    · subst hj0
      rw [h.1.2]
      rfl
    · obtain ⟨g1, g2, g3, g4, g5, g6, g7⟩ := h.2.1 j (by omega) hj
      rw [g5]
      exact (jrch_l _ _ _).mpr ⟨_, _, g2, ih _ g3 (by omega), g4⟩
theorem jT_par {mv : Nat → Nat → Nat} {P a0 : Nat} {Q : jQ} (h : jInv mv P a0 (8 * Q.1) Q) (hP : P ≤ 8) {i k j : Nat} (hi : i < Q.1) (hk : k < P) (hj0 : 0 < j) (hj : j < Q.1) (e : (Q.2 j).1 = mv k (Q.2 i).1) : (Q.2 j).2.2.2 ≤ 8 * i + k := by
  by_cases hlt : 8 * i + k < (Q.2 j).2.2.2
  · exfalso
    have := h.2.2.1 j hj0 hj (8 * i + k) hlt (by omega)
    rw [show (8 * i + k) / 8 = i by omega, show (8 * i + k) % 8 = k by omega] at this
    exact this e.symm
  · omega
theorem jT_min {mv : Nat → Nat → Nat} {P a0 : Nat} {Q : jQ} (h : jInv mv P a0 (8 * Q.1) Q) (hP : P ≤ 8) : ∀ (m b : Nat), jrch mv P m a0 b → ∃ j, j < Q.1 ∧ (Q.2 j).1 = b ∧ (Q.2 j).2.1 ≤ m := by
  intro m
  induction m with
  | zero =>
    intro b hb
    cases hb
    exact ⟨0, h.1.1, by rw [h.1.2], by rw [h.1.2]; exact Nat.le_refl _⟩
  | succ m ih =>
    intro b hb
    obtain ⟨c, k, hk, h1, h2⟩ := (jrch_l _ _ _).mp hb
    obtain ⟨i, hi, e, hd⟩ := ih c h1
    obtain ⟨g1, j, hj, g3⟩ := h.2.2.2.2 (8 * i + k) (by omega) (by omega)
    rw [show (8 * i + k) / 8 = i by omega, show (8 * i + k) % 8 = k by omega, e, ← h2] at g3
    refine ⟨j, hj, g3, ?_⟩
    by_cases hj0 : j = 0
    · subst hj0
      rw [h.1.2]
      exact Nat.zero_le _
    · have hp := jT_par h hP hi hk (by omega) hj (by rw [g3, h2, e])
      have g5 := (h.2.1 j (by omega) hj).2.2.2.2.1
      have := jT_mono h i ((Q.2 j).2.2.2 / 8) (by omega) hi
      omega
theorem jT_p0 {mv : Nat → Nat → Nat} {P a0 T : Nat} {Q : jQ} (h : jInv mv P a0 T Q) {j : Nat} (hj0 : 0 < j) (hj : j < Q.1) : (Q.2 j).2.1 = 1 ↔ (Q.2 j).2.2.2 / 8 = 0 := by
  obtain ⟨g1, g2, g3, g4, g5, g6, g7⟩ := h.2.1 j hj0 hj
  constructor
  · intro e
    by_cases hp : (Q.2 j).2.2.2 / 8 = 0
    · exact hp
    · have := jT_d0 h (j := (Q.2 j).2.2.2 / 8) (by omega) (by omega)
      omega
  · intro e
    rw [g5, e, h.1.2]
theorem jT_om {mv : Nat → Nat → Nat} {P a0 T : Nat} {Q : jQ} (h : jInv mv P a0 T Q) : ∀ j i, 0 < i → i ≤ j → j < Q.1 → (Q.2 i).2.1 = (Q.2 j).2.1 → (Q.2 i).2.2.1 ≤ (Q.2 j).2.2.1 := by
  intro j
  induction j using Nat.strongRecOn with
  | ind j ih =>
    intro i hi hij hj hd
    by_cases e : i = j
    · subst e; exact Nat.le_refl _
    · obtain ⟨g1, g2, g3, g4, g5, g6, g7⟩ := h.2.1 j (by omega) hj
      obtain ⟨k1, k2, k3, k4, k5, k6, k7⟩ := h.2.1 i (by omega) (by omega)
      have hc := h.2.2.2.1 i j (by omega) (by omega) hj
      have p1 := jT_p0 h hi (show i < Q.1 by omega)
      have p2 := jT_p0 h (show 0 < j by omega) hj
      rw [g6, k6]
      by_cases hp : (Q.2 i).2.2.2 / 8 = 0
      · have hd1 := p1.mpr hp
        have hp2 := p2.mp (by omega)
        rw [jbt hp, jbt hp2]
        omega
      · have hp2 : ¬ (Q.2 j).2.2.2 / 8 = 0 := fun e => hp (p1.mp (by have := p2.mpr e; omega))
        rw [jbn hp, jbn hp2]
        exact ih _ g3 _ (by omega) (by omega) (by omega) (by omega)
theorem jT_op {mv : Nat → Nat → Nat} {P a0 T : Nat} {Q : jQ} (h : jInv mv P a0 T Q) : ∀ j, 0 < j → j < Q.1 → (Q.2 j).2.2.1 < P ∧ jrch mv P ((Q.2 j).2.1 - 1) (mv (Q.2 j).2.2.1 a0) (Q.2 j).1 := by
  intro j
  induction j using Nat.strongRecOn with
  | ind j ih =>
    intro hj0 hj
    obtain ⟨g1, g2, g3, g4, g5, g6, g7⟩ := h.2.1 j hj0 hj
    by_cases hp : (Q.2 j).2.2.2 / 8 = 0
    · rw [g6, jbt hp]
      refine ⟨g2, ?_⟩
      rw [(jT_p0 h hj0 hj).mpr hp, g4, hp, h.1.2]
      rfl
    · rw [g6, jbn hp]
      obtain ⟨k1, k2⟩ := ih _ g3 (by omega) (by omega)
      refine ⟨k1, ?_⟩
      have hd := jT_d0 h (j := (Q.2 j).2.2.2 / 8) (by omega) (by omega)
      rw [show (Q.2 j).2.1 - 1 = ((Q.2 ((Q.2 j).2.2.2 / 8)).2.1 - 1) + 1 by omega]
      exact (jrch_l _ _ _).mpr ⟨_, _, g2, k2, g4⟩
theorem jT_ol {mv : Nat → Nat → Nat} {P a0 : Nat} {Q : jQ} (h : jInv mv P a0 (8 * Q.1) Q) (hP : P ≤ 8) : ∀ (d j k : Nat), 0 < j → j < Q.1 → (Q.2 j).2.1 = d + 1 → k < P → jrch mv P d (mv k a0) (Q.2 j).1 → (Q.2 j).2.2.1 ≤ k := by
  intro d
  induction d with
  | zero =>
    intro j k hj0 hj hd hk hr
    have hp := jT_par h hP h.1.1 hk hj0 hj (by rw [h.1.2]; exact Eq.symm hr)
    obtain ⟨g1, g2, g3, g4, g5, g6, g7⟩ := h.2.1 j hj0 hj
    have hp0 := (jT_p0 h hj0 hj).mp hd
    rw [g6, jbt hp0]
    omega
  | succ d ih =>
    intro j k hj0 hj hd hk hr
    obtain ⟨c, k', hk', h1, h2⟩ := (jrch_l _ _ _).mp hr
    obtain ⟨i, hi, e, hdi⟩ := jT_min h hP (d + 1) c ⟨k, hk, h1⟩
    have hp := jT_par h hP hi hk' hj0 hj (by rw [h2, e])
    obtain ⟨g1, g2, g3, g4, g5, g6, g7⟩ := h.2.1 j hj0 hj
    have hmo := jT_mono h i ((Q.2 j).2.2.2 / 8) (by omega) hi
    have hdi2 : (Q.2 i).2.1 = d + 1 := by omega
    have hi0 : 0 < i := by
      by_cases h0 : i = 0
      · subst h0
        rw [h.1.2] at hdi2
        cases hdi2
      · omega
    have ho := ih i k hi0 hi hdi2 hk (by rw [e]; exact h1)
    have hp0 : ¬ (Q.2 j).2.2.2 / 8 = 0 := fun e0 => by
      have := (jT_p0 h hj0 hj).mpr e0
      omega
    rw [g6, jbn hp0]
    have := jT_om h i ((Q.2 j).2.2.2 / 8) (by omega) (by omega) hi (by omega)
    omega
/-- the first place that is as wanted -/
theorem jT_first {mv : Nat → Nat → Nat} {P a0 : Nat} {Q : jQ} (h : jInv mv P a0 (8 * Q.1) Q) (hP : P ≤ 8) {G : Nat → Prop} {f : Nat} (hf : f < Q.1) (hG : G (Q.2 f).1) (hno : ∀ j, j < f → ¬ G (Q.2 j).1) :
    (∀ m b, G b → jrch mv P m a0 b → (Q.2 f).2.1 ≤ m) ∧ (0 < f → (Q.2 f).2.2.1 < P ∧ (∃ b, G b ∧ jrch mv P ((Q.2 f).2.1 - 1) (mv (Q.2 f).2.2.1 a0) b) ∧ ∀ k b, k < P → G b → jrch mv P ((Q.2 f).2.1 - 1) (mv k a0) b → (Q.2 f).2.2.1 ≤ k) := by
  have hmin : ∀ m b, G b → jrch mv P m a0 b → (Q.2 f).2.1 ≤ m := by
    intro m b hb hr
    obtain ⟨j, hj, e, hd⟩ := jT_min h hP m b hr
    have hfj : f ≤ j := by
      by_cases hlt : j < f
      · exact absurd (by rw [e]; exact hb) (hno j hlt)
      · omega
    have := jT_mono h j f hfj hj
    omega
  refine ⟨hmin, fun hf0 => ?_⟩
  obtain ⟨h1, h2⟩ := jT_op h f hf0 hf
  refine ⟨h1, ⟨_, hG, h2⟩, ?_⟩
  intro k b hk hb hr
  have hd0 := jT_d0 h hf0 hf
  have hr2 : jrch mv P (((Q.2 f).2.1 - 1) + 1) a0 b := ⟨k, hk, hr⟩
  obtain ⟨j, hj, e, hd⟩ := jT_min h hP _ b hr2
  have hfj : f ≤ j := by
    by_cases hlt : j < f
    · exact absurd (by rw [e]; exact hb) (hno j hlt)
    · omega
  have hmo := jT_mono h j f hfj hj
  have hdj : (Q.2 j).2.1 = ((Q.2 f).2.1 - 1) + 1 := by omega
  have ho := jT_ol h hP _ j k (by omega) hj hdj hk (by rw [e]; exact hr)
  have := jT_om h j f hf0 hfj hj (by omega)
  omega
