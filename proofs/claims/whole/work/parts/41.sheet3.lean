/-! TOLD HEIGHTS -/
/-- if a pull goes as a sheet tells -/
def jfol (t si ce : Nat → Int32) (x : Int32) (q z : Nat) : Nat → Nat → Int32 × Int32 → Bool
  | 0, _, _ => true
  | m + 1, i, p => if z ≤ i then true else
    bif gCmp .eq (v_187_63 (nI q) (nI i) (jM t x p).1 si ce) 0 then false else bif gCmp .eq (v_187_63 (nI q) (nI (i + 1)) (jM t x p).2 si ce) 0 then false else jfol t si ce x q z m (i + 2) (jM t x p)
theorem j57_55 {q z i : Nat} {h : hSt} {wi si ce : Nat → Int32} (hH : jH q h wi si ce) (hq : q < 4) (ez : h.2.2 = nI z) (hz : z ≤ 40) (hi : i < 100) (x : Int32) : v_57_55 (nI i) x h = v_187_63 (nI q) (nI i) x si ce := by
  unfold v_57_55 v_187_63
  rw [jcl (show q < 2 ^ 31 by omega), hH.2.1, ez, jge i z rfl rfl (by omega) (by omega)]
  by_cases h1 : z ≤ i
  · rw [decide_eq_true h1]; rfl
  · rw [decide_eq_false h1, (j40g hq (show i < 40 by omega)).2, jcl (show i < 2 ^ 31 by omega), hH.2.2.1 i (by omega)]
theorem j57_57 {q z i : Nat} {h : hSt} {wi si ce : Nat → Int32} (hH : jH q h wi si ce) (hq : q < 4) (ez : h.2.2 = nI z) (hz : z ≤ 40) (hi : i < 100) (x : Int32) : v_57_57 (nI i) x h = v_187_63 (nI q) (nI i) x si ce := j57_55 hH hq ez hz hi x
theorem j57_59 {q z i : Nat} {h : hSt} {wi si ce : Nat → Int32} (hH : jH q h wi si ce) (hq : q < 4) (ez : h.2.2 = nI z) (hz : z ≤ 40) (hi : i < 100) (x : Int32) : v_57_59 (nI i) x h = v_187_63 (nI q) (nI i) x si ce := j57_55 hH hq ez hz hi x
theorem j57_61 {q z i : Nat} {h : hSt} {wi si ce : Nat → Int32} (hH : jH q h wi si ce) (hq : q < 4) (ez : h.2.2 = nI z) (hz : z ≤ 40) (hi : i < 100) (x : Int32) : v_57_61 (nI i) x h = v_187_63 (nI q) (nI i) x si ce := j57_55 hH hq ez hz hi x
/-- the guards at a place of a sheet -/
theorem jg187 {q z i : Nat} {h : hSt} {wi si ce : Nat → Int32} (hH : jH q h wi si ce) (hq : q < 4) (ez : h.2.2 = nI z) (hz : z ≤ 40) (hi : i < 100) : (gCmp .ge (nI i) h.2.2 || gIn (nI i) 40) = true ∧ (gCmp .ge (nI i) (si q) || gIn (40 * nI q + nI i) 160) = true := by
  rw [hH.2.1, ez, jge i z rfl rfl (by omega) (by omega)]
  by_cases h1 : z ≤ i
  · rw [decide_eq_true h1]; exact ⟨rfl, rfl⟩
  · rw [decide_eq_false h1, (j40g hq (show i < 40 by omega)).1, jin (show i < 40 by omega) (by decide)]; exact ⟨rfl, rfl⟩
theorem l_188_0 {N : Nat} {q z k i : Nat} {t si ce : Nat → Int32} (hq : q < 4) (ez : si q = nI z) (hz : z ≤ 40) (hi : i < 100) (n : Nat) (x y : Int32) : lp_188_63_68 N (nI q) (nI k) t si ce (n + 1) 0 (nI i) x y = some (0, nI i, x, y) := by
  rw [lp_188_63_68, jin (show q < 4 by omega) (by decide), jcl (show q < 2 ^ 31 by omega), ez, jge i z rfl rfl (by omega) (by omega)]
  cases decide (z ≤ i) <;> rfl
/-- the model's -/
theorem l_188 {N : Nat} {q z k : Nat} {h : hSt} {t wi si ce : Nat → Int32} (hH : jH q h wi si ce) (hq : q < 4) (hk : k < 8) (ez : h.2.2 = nI z) (hz : z ≤ 40) : ∀ (m i n : Nat) (p : Int32 × Int32), z ≤ i + 2 * m → i + 2 * m ≤ 60 → m + 1 < n → ∃ w x y, lp_188_63_68 N (nI q) (nI k) t si ce n 1 (nI i) p.1 p.2 = some (bif jfol t si ce (nI k) q z m i p then 1 else 0, w, x, y) := by
  intro m
  induction m with
  | zero =>
    intro i n p hi hi2 hn
    cases n with
    | zero => exact absurd hn (by omega)
    | succ n =>
      rw [lp_188_63_68, jin (show q < 4 by omega) (by decide), jcl (show q < 2 ^ 31 by omega), hH.2.1, ez, jge i z rfl rfl (by omega) (by omega), decide_eq_true (show z ≤ i by omega)]
      exact ⟨_, _, _, rfl⟩
  | succ m ih =>
    intro i n p hi hi2 hn
    cases n with
    | zero => exact absurd hn (by omega)
    | succ n =>
      cases n with
      | zero => exact absurd hn (by omega)
      | succ n =>
        rw [lp_188_63_68, jin (show q < 4 by omega) (by decide), jcl (show q < 2 ^ 31 by omega), (j153_0 hk).1, (j153_1 hk).1, (j153_2 hk).1]
        have hg1 := (jg187 hH hq ez hz (show i < 100 by omega)).2
        have hg2 := (jg187 hH hq ez hz (show i + 1 < 100 by omega)).2
        rw [nI_1, hg1, hg2, hH.2.1, ez, jge i z rfl rfl (by omega) (by omega), jfol, Bool.or_true, show nI i + 2 = nI (i + 2) from by rw [show (2 : Int32) = nI 2 from rfl, nI_add]]
        by_cases hzi : z ≤ i
        · rw [decide_eq_true hzi, if_pos hzi]
          exact ⟨_, _, _, rfl⟩
        · rw [decide_eq_false hzi, if_neg hzi]
          show ∃ w x y, lp_188_63_68 N (nI q) (nI k) t si ce (n + 1) (bif gCmp .eq (v_187_63 (nI q) (nI i) (jM t (nI k) p).1 si ce) 0 then 0 else (bif gCmp .eq (v_187_63 (nI q) (nI (i + 1)) (jM t (nI k) p).2 si ce) 0 then 0 else 1)) (nI (i + 2)) (jM t (nI k) p).1 (jM t (nI k) p).2 = _
          cases gCmp .eq (v_187_63 (nI q) (nI i) (jM t (nI k) p).1 si ce) 0
          · cases gCmp .eq (v_187_63 (nI q) (nI (i + 1)) (jM t (nI k) p).2 si ce) 0
            · exact ih (i + 2) (n + 1) (jM t (nI k) p) (by omega) (by omega) (by omega)
            · exact ⟨_, _, _, l_188_0 hq (hH.2.1.trans ez) hz (by omega) n _ _⟩
          · exact ⟨_, _, _, l_188_0 hq (hH.2.1.trans ez) hz (by omega) n _ _⟩
/-- the row of a slip and wind -/
def jrow (s : Nat → Int32) (c : Nat) : Nat → Int32 := upd (upd s 6 (nI (c / 10))) 7 (nI (c % 10))
theorem jrow_of {s t : Nat → Int32} (h : ∀ j, j ≠ 6 → j ≠ 7 → t j = s j) (c : Nat) : upd (upd t 6 (nI (c / 10))) 7 (nI (c % 10)) = jrow s c := by
  unfold jrow
  funext j
  by_cases e7 : j = 7
  · subst e7; rw [pk_us, pk_us]
  · rw [pk_un e7, pk_un e7]
    by_cases e6 : j = 6
    · subst e6; rw [pk_us, pk_us]
    · rw [pk_un e6, pk_un e6]; exact h j e6 e7
theorem jrow_G {s : Nat → Int32} (hG : jG s) {c : Nat} (hc : c < 100) : jG (jrow s c) := jG_r2 (jG_r1 hG (jR_nI (by omega) (by omega) (by omega))) (jR_nI (by omega) (by omega) (by omega))
theorem jrow_n (s : Nat → Int32) (c : Nat) : ∀ j, j ≠ 6 → j ≠ 7 → jrow s c j = s j := fun j h6 h7 => by unfold jrow; rw [pk_un h7, pk_un h6]
theorem jd10 {c : Nat} (hc : c < 100) : nI c / 10 = nI (c / 10) ∧ nI c - nI c / 10 * 10 = nI (c % 10) := ⟨pk_div (by omega) (by decide) (by decide), pk_rem (by omega) (by decide) (by decide)⟩
/-- if that slip and wind fit -/
def jP (s si ce : Nat → Int32) (x : Int32) (q z c : Nat) : Bool := jfol (jrow s c) si ce x q z 21 0 (s 0, s 1)
def jct (P : Nat → Bool) : Nat → Nat
  | 0 => 0
  | n + 1 => jct P n + (bif P n then 1 else 0)
theorem jct_le (P : Nat → Bool) : ∀ n, jct P n ≤ n := by
  intro n
  induction n with
  | zero => exact Nat.le_refl 0
  | succ n ih =>
    rw [jct]
    cases P n
    · show jct P n + 0 ≤ n + 1; omega
    · show jct P n + 1 ≤ n + 1; omega
theorem jct_0 (P : Nat → Bool) : ∀ n, (∀ c, c < n → P c = false) → jct P n = 0 := by
  intro n
  induction n with
  | zero => intro _; rfl
  | succ n ih => intro h; rw [jct, ih (fun c hc => h c (by omega)), h n (by omega)]; rfl
/-- the model's search: downwards -/
theorem l_188b {N : Nat} (hN : 4000 ≤ N) {q z k : Nat} {h : hSt} {s wi si ce : Nat → Int32} (hH : jH q h wi si ce) (hq : q < 4) (hk : k < 8) (ez : h.2.2 = nI z) (hz : z ≤ 40) : ∀ (j n g : Nat) (y : Int32) (t : Nat → Int32) (tl tr : Int32), j ≤ 100 → j < n → g + jct (jP s si ce (nI k) q z) j = jct (jP s si ce (nI k) q z) 100 → (∀ i, i ≠ 6 → i ≠ 7 → t i = s i) → ((y = -1 ∧ ∀ c, j ≤ c → c < 100 → jP s si ce (nI k) q z c = false) ∨ (∃ f, f < 100 ∧ y = nI f ∧ jP s si ce (nI k) q z f = true ∧ ∀ c, j ≤ c → c < f → jP s si ce (nI k) q z c = false)) → ∃ y' w t' tl' tr', lp_188_63_29 N (nI q) (nI k) si ce n y (jm j) t tl tr (nI g) = some (y', w, t', tl', tr', nI (jct (jP s si ce (nI k) q z) 100)) ∧ (∀ i, i ≠ 6 → i ≠ 7 → t' i = s i) ∧ ((y' = -1 ∧ ∀ c, c < 100 → jP s si ce (nI k) q z c = false) ∨ (∃ f, f < 100 ∧ y' = nI f ∧ jP s si ce (nI k) q z f = true ∧ ∀ c, c < f → jP s si ce (nI k) q z c = false)) := by
  intro j
  induction j with
  | zero =>
    intro n g y t tl tr hj hn hg ht hy
    cases n with
    | zero => exact absurd hn (by omega)
    | succ n =>
      have hg2 : g = jct (jP s si ce (nI k) q z) 100 := by rw [← hg]; rfl
      subst hg2
      refine ⟨y, _, t, tl, tr, rfl, ht, ?_⟩
      rcases hy with ⟨h1, h2⟩ | ⟨f, h1, h2, h3, h4⟩
      · exact .inl ⟨h1, fun c hc => h2 c (Nat.zero_le c) hc⟩
      · exact .inr ⟨f, h1, h2, h3, fun c hc => h4 c (Nat.zero_le c) hc⟩
  | succ j ih =>
    intro n g y t tl tr hj hn hg ht hy
    cases n with
    | zero => exact absurd hn (by omega)
    | succ n =>
      show ∃ y' w t' tl' tr', lp_188_63_29 N (nI q) (nI k) si ce (n + 1) y (nI j) t tl tr (nI g) = some (y', w, t', tl', tr', nI (jct (jP s si ce (nI k) q z) 100)) ∧ _
      obtain ⟨w1, x1, y1, h1⟩ := l_188 (N := N) (t := jrow s j) hH hq hk ez hz 21 0 N (s 0, s 1) (by omega) (by omega) (by omega)
      have h1' : lp_188_63_68 N (nI q) (nI k) (jrow s j) si ce N 1 0 (f_135_63_m_tl (jrow s j)) (f_135_63_m_tr (jrow s j)) = some (bif jP s si ce (nI k) q z j then 1 else 0, w1, x1, y1) := by
        unfold f_135_63_m_tl f_135_63_m_tr
        rw [jrow_n s j 0 (by omega) (by omega), jrow_n s j 1 (by omega) (by omega)]
        exact h1
      rw [lp_188_63_29, jltl j 0 rfl (by omega) (by decide), decide_eq_false (Nat.not_lt_zero j), (jd10 (show j < 100 by omega)).2, (jd10 (show j < 100 by omega)).1, jrow_of ht j, h1', jm_s]
      simp only [cond_false, Option.bind_some]
      rw [jct] at hg
      cases hP : jP s si ce (nI k) q z j
      · rw [hP] at hg
        simp only [cond_false]
        rw [je0]
        simp only [cond_true, Int32.add_zero]
        refine ih n g y _ _ _ (by omega) (by omega) (by simp only [cond_false] at hg; omega) (jrow_n s j) ?_
        rcases hy with ⟨h2, h3⟩ | ⟨f, h2, h3, h4, h5⟩
        · refine .inl ⟨h2, fun c hc1 hc2 => ?_⟩
          by_cases e : c = j
          · subst e; exact hP
          · exact h3 c (by omega) hc2
        · refine .inr ⟨f, h2, h3, h4, fun c hc1 hc2 => ?_⟩
          by_cases e : c = j
          · subst e; exact hP
          · exact h5 c (by omega) hc2
      · rw [hP] at hg
        simp only [cond_true]
        rw [je1]
        simp only [cond_false]
        rw [nI_1]
        exact ih n (g + 1) (nI j) _ _ _ (by omega) (by omega) (by simp only [cond_true] at hg; omega) (jrow_n s j) (.inr ⟨j, by omega, rfl, hP, fun c hc1 hc2 => absurd hc1 (by omega)⟩)
theorem m_188 {N : Nat} (hN : 4000 ≤ N) {q z k : Nat} {h : hSt} {s wi si ce : Nat → Int32} (hH : jH q h wi si ce) (hq : q < 4) (hk : k < 8) (ez : h.2.2 = nI z) (hz : z ≤ 40) (tl tr : Int32) : ∃ y' tl' tr', me_188_63 N (nI q) (nI k) s tl tr si ce = some (y', s, tl', tr', nI (jct (jP s si ce (nI k) q z) 100)) ∧ ((y' = -1 ∧ ∀ c, c < 100 → jP s si ce (nI k) q z c = false) ∨ (∃ f, f < 100 ∧ y' = nI f ∧ jP s si ce (nI k) q z f = true ∧ ∀ c, c < f → jP s si ce (nI k) q z c = false)) := by
  obtain ⟨y', w, t', tl', tr', h1, h2, h3⟩ := l_188b hN (s := s) hH hq hk ez hz 100 N 0 (-1) s tl tr (by omega) (by omega) (by omega) (fun _ _ _ => rfl) (.inl ⟨rfl, fun c h1 h2 => absurd h2 (by omega)⟩)
  refine ⟨y', tl', tr', ?_, h3⟩
  unfold me_188_63
  rw [show lp_188_63_29 N (nI q) (nI k) si ce N (-1) 99 s tl tr 0 = _ from h1]
  show some (y', upd (upd t' 6 (s 6)) 7 (s 7), tl', tr', nI (jct (jP s si ce (nI k) q z) 100)) = _
  have e : upd (upd t' 6 (s 6)) 7 (s 7) = s := by
    funext j
    by_cases e7 : j = 7
    · subst e7; exact pk_us
    · rw [pk_un e7]
      by_cases e6 : j = 6
      · subst e6; exact pk_us
      · rw [pk_un e6]; exact h2 j e6 e7
  rw [e]
/-- the class's -/
theorem l_119_55 {N : Nat} {q z k : Nat} {e : jE} {u v : Int32} {h : hSt} {t wi si ce : Nat → Int32} (hH : jH q h wi si ce) (hq : q < 4) (hk : k < 8) (ez : h.2.2 = nI z) (hz : z ≤ 40) (hC : jC (u, v, e) t) (hG : jG t) : ∀ (m i n : Nat) (p : Int32 × Int32), z ≤ i + 2 * m → i + 2 * m ≤ 60 → m < n → ∃ x y, lp_119_0_55_57 N (nI k) h n (nI i) (p.1, p.2, e) = some (bif jfol t si ce (nI k) q z m i p then 1 else 0, (x, y, e)) := by
  intro m
  induction m with
  | zero =>
    intro i n p hi hi2 hn
    cases n with
    | zero => exact absurd hn (by omega)
    | succ n =>
      rw [lp_119_0_55_57, ez, jge i z rfl rfl (by omega) (by omega), decide_eq_true (show z ≤ i by omega)]
      exact ⟨_, _, rfl⟩
  | succ m ih =>
    intro i n p hi hi2 hn
    cases n with
    | zero => exact absurd hn (by omega)
    | succ n =>
      have hg1 := (jg187 hH hq ez hz (show i < 100 by omega)).1
      have hg2 := (jg187 hH hq ez hz (show i + 1 < 100 by omega)).1
      rw [lp_119_0_55_57, nI_1, hg1, hg2, ez, jge i z rfl rfl (by omega) (by omega), jfol, show nI i + 2 = nI (i + 2) from by rw [show (2 : Int32) = nI 2 from rfl, nI_add], jin (n := 8) hk (by decide), j18d hC hG hk]
      dsimp only
      rw [j57_55 hH hq ez hz (show i < 100 by omega), j57_55 hH hq ez hz (show i + 1 < 100 by omega)]
      by_cases hzi : z ≤ i
      · rw [decide_eq_true hzi, if_pos hzi]
        exact ⟨_, _, rfl⟩
      · rw [decide_eq_false hzi, if_neg hzi]
        have hne : gCmp .ne (v_187_63 (nI q) (nI (i + 1)) (jM t (nI k) p).2 si ce) 0 = !gCmp .eq (v_187_63 (nI q) (nI (i + 1)) (jM t (nI k) p).2 si ce) 0 := rfl
        rw [hne]
        cases gCmp .eq (v_187_63 (nI q) (nI i) (jM t (nI k) p).1 si ce) 0
        · cases gCmp .eq (v_187_63 (nI q) (nI (i + 1)) (jM t (nI k) p).2 si ce) 0
          · exact ih (i + 2) n (jM t (nI k) p) (by omega) (by omega) (by omega)
          · exact ⟨_, _, rfl⟩
        · exact ⟨_, _, rfl⟩
theorem m_119_55 {N : Nat} (hN : 4000 ≤ N) {q z k c : Nat} {b d : hB} {h : hSt} {s t wi si ce : Nat → Int32} (hH : jH q h wi si ce) (hq : q < 4) (hk : k < 8) (ez : h.2.2 = nI z) (hz : z ≤ 40) (hc : c < 100) (hl : s 0 = b.1) (hr : s 1 = b.2.1) (hG : jG s) (ht : ∀ j, j ≠ 6 → j ≠ 7 → t j = s j) (hC : jC d t) : ∃ d', me_119_0_55 N (nI k) (nI c) b d h = some (bif jP s si ce (nI k) q z c then 1 else 0, d') ∧ jC d' (jrow s c) := by
  have hC2 : jC (b.1, b.2.1, d.2.2.1, d.2.2.2.1, d.2.2.2.2.1, d.2.2.2.2.2.1, d.2.2.2.2.2.2.1, d.2.2.2.2.2.2.2.1, upd (upd d.2.2.2.2.2.2.2.2.1 1 (nI (c / 10))) 2 (nI (c % 10)), d.2.2.2.2.2.2.2.2.2) (upd (upd t 6 (nI (c / 10))) 7 (nI (c % 10))) := jC_rule (k := 2) (jC_rule (k := 1) hC (by decide)) (by decide)
  rw [jrow_of ht c] at hC2
  obtain ⟨x, y, h1⟩ := l_119_55 (N := N) (e := (d.2.2.1, d.2.2.2.1, d.2.2.2.2.1, d.2.2.2.2.2.1, d.2.2.2.2.2.2.1, d.2.2.2.2.2.2.2.1, upd (upd d.2.2.2.2.2.2.2.2.1 1 (nI (c / 10))) 2 (nI (c % 10)), d.2.2.2.2.2.2.2.2.2)) (u := b.1) (v := b.2.1) hH hq hk ez hz hC2 (jrow_G hG hc) 21 0 N (s 0, s 1) (by omega) (by omega) (by omega)
  refine ⟨(x, y, d.2.2.1, d.2.2.2.1, d.2.2.2.2.1, d.2.2.2.2.2.1, d.2.2.2.2.2.2.1, d.2.2.2.2.2.2.2.1, upd (upd d.2.2.2.2.2.2.2.2.1 1 (nI (c / 10))) 2 (nI (c % 10)), d.2.2.2.2.2.2.2.2.2), ?_, hC2⟩
  unfold me_119_0_55
  rw [(jd10 hc).2, (jd10 hc).1, ← hl, ← hr]
  exact h1
theorem l_92_55 {N : Nat} (hN : 4000 ≤ N) {q z k : Nat} {b : hB} {h : hSt} {s wi si ce : Nat → Int32} (hH : jH q h wi si ce) (hq : q < 4) (hk : k < 8) (ez : h.2.2 = nI z) (hz : z ≤ 40) (hl : s 0 = b.1) (hr : s 1 = b.2.1) (hG : jG s) : ∀ (m i n : Nat) (d : hB) (t : Nat → Int32), i + m = 100 → m < n → (∀ j, j ≠ 6 → j ≠ 7 → t j = s j) → jC d t → ∃ w d', lp_92_0_60_55 N (nI k) b h n (nI (jct (jP s si ce (nI k) q z) i)) (nI i) d = some (nI (jct (jP s si ce (nI k) q z) 100), w, d') := by
  intro m
  induction m with
  | zero =>
    intro i n d t hi hn ht hC
    obtain rfl : i = 100 := by omega
    cases n with
    | zero => exact absurd hn (by omega)
    | succ n => exact ⟨_, _, rfl⟩
  | succ m ih =>
    intro i n d t hi hn ht hC
    cases n with
    | zero => exact absurd hn (by omega)
    | succ n =>
      obtain ⟨d', h1, h2⟩ := m_119_55 hN (c := i) hH hq hk ez hz (by omega) hl hr hG ht hC
      rw [lp_92_0_60_55, jgel i 100 rfl (by omega) (by decide), decide_eq_false (show ¬ 100 ≤ i by omega), h1]
      simp only [cond_false, Option.bind_some]
      have h3 : (bif gCmp .eq (bif jP s si ce (nI k) q z i then (1 : Int32) else 0) 0 then nI (jct (jP s si ce (nI k) q z) i) else nI (jct (jP s si ce (nI k) q z) i) + 1) = nI (jct (jP s si ce (nI k) q z) (i + 1)) := by
        rw [jct]
        cases jP s si ce (nI k) q z i
        · rfl
        · exact nI_1 _
      rw [h3, nI_1]
      exact ih (i + 1) n d' _ (by omega) (by omega) (jrow_n s i) h2
theorem l_93_55 {N : Nat} (hN : 4000 ≤ N) {q z k : Nat} {b : hB} {h : hSt} {s wi si ce fi : Nat → Int32} (hH : jH q h wi si ce) (hq : q < 4) (hk : k < 8) (ez : h.2.2 = nI z) (hz : z ≤ 40) (hl : s 0 = b.1) (hr : s 1 = b.2.1) (hG : jG s) : ∀ (m i n : Nat) (d : hB) (t : Nat → Int32), i + m = 100 → m < n → (∀ j, j ≠ 6 → j ≠ 7 → t j = s j) → jC d t → (∀ c, c < i → jP s si ce (nI k) q z c = false) → (∃ d', lp_93_0_57_55 N (nI k) b h fi n (nI i) d = some (v_111_0 3, d', f_111_0_fi 3 fi) ∧ ∀ c, c < 100 → jP s si ce (nI k) q z c = false) ∨ (∃ f d', lp_93_0_57_55 N (nI k) b h fi n (nI i) d = some (nI f, d', fi) ∧ f < 100 ∧ jP s si ce (nI k) q z f = true ∧ ∀ c, c < f → jP s si ce (nI k) q z c = false) := by
  intro m
  induction m with
  | zero =>
    intro i n d t hi hn ht hC hno
    obtain rfl : i = 100 := by omega
    cases n with
    | zero => exact absurd hn (by omega)
    | succ n => exact .inl ⟨_, rfl, hno⟩
  | succ m ih =>
    intro i n d t hi hn ht hC hno
    cases n with
    | zero => exact absurd hn (by omega)
    | succ n =>
      obtain ⟨d', h1, h2⟩ := m_119_55 hN (c := i) hH hq hk ez hz (by omega) hl hr hG ht hC
      rw [lp_93_0_57_55, jgel i 100 rfl (by omega) (by decide), decide_eq_false (show ¬ 100 ≤ i by omega), h1]
      simp only [cond_false, Option.bind_some]
      cases hP : jP s si ce (nI k) q z i
      · simp only [cond_false]
        rw [je0, nI_1]
        exact ih (i + 1) n d' _ (by omega) (by omega) (jrow_n s i) h2 (fun c hc => by
          by_cases e : c = i
          · subst e; exact hP
          · exact hno c (by omega))
      · exact .inr ⟨i, d', rfl, by omega, hP, hno⟩
/-- the class's -/
theorem l_119_57 {N : Nat} {q z k : Nat} {e : jE} {u v : Int32} {h : hSt} {t wi si ce : Nat → Int32} (hH : jH q h wi si ce) (hq : q < 4) (hk : k < 8) (ez : h.2.2 = nI z) (hz : z ≤ 40) (hC : jC (u, v, e) t) (hG : jG t) : ∀ (m i n : Nat) (p : Int32 × Int32), z ≤ i + 2 * m → i + 2 * m ≤ 60 → m < n → ∃ x y, lp_119_0_57_57 N (nI k) h n (nI i) (p.1, p.2, e) = some (bif jfol t si ce (nI k) q z m i p then 1 else 0, (x, y, e)) := by
  intro m
  induction m with
  | zero =>
    intro i n p hi hi2 hn
    cases n with
    | zero => exact absurd hn (by omega)
    | succ n =>
      rw [lp_119_0_57_57, ez, jge i z rfl rfl (by omega) (by omega), decide_eq_true (show z ≤ i by omega)]
      exact ⟨_, _, rfl⟩
  | succ m ih =>
    intro i n p hi hi2 hn
    cases n with
    | zero => exact absurd hn (by omega)
    | succ n =>
      have hg1 := (jg187 hH hq ez hz (show i < 100 by omega)).1
      have hg2 := (jg187 hH hq ez hz (show i + 1 < 100 by omega)).1
      rw [lp_119_0_57_57, nI_1, hg1, hg2, ez, jge i z rfl rfl (by omega) (by omega), jfol, show nI i + 2 = nI (i + 2) from by rw [show (2 : Int32) = nI 2 from rfl, nI_add], jin (n := 8) hk (by decide), j18d hC hG hk]
      dsimp only
      rw [j57_57 hH hq ez hz (show i < 100 by omega), j57_57 hH hq ez hz (show i + 1 < 100 by omega)]
      by_cases hzi : z ≤ i
      · rw [decide_eq_true hzi, if_pos hzi]
        exact ⟨_, _, rfl⟩
      · rw [decide_eq_false hzi, if_neg hzi]
        have hne : gCmp .ne (v_187_63 (nI q) (nI (i + 1)) (jM t (nI k) p).2 si ce) 0 = !gCmp .eq (v_187_63 (nI q) (nI (i + 1)) (jM t (nI k) p).2 si ce) 0 := rfl
        rw [hne]
        cases gCmp .eq (v_187_63 (nI q) (nI i) (jM t (nI k) p).1 si ce) 0
        · cases gCmp .eq (v_187_63 (nI q) (nI (i + 1)) (jM t (nI k) p).2 si ce) 0
          · exact ih (i + 2) n (jM t (nI k) p) (by omega) (by omega) (by omega)
          · exact ⟨_, _, rfl⟩
        · exact ⟨_, _, rfl⟩
theorem m_119_57 {N : Nat} (hN : 4000 ≤ N) {q z k c : Nat} {b d : hB} {h : hSt} {s t wi si ce : Nat → Int32} (hH : jH q h wi si ce) (hq : q < 4) (hk : k < 8) (ez : h.2.2 = nI z) (hz : z ≤ 40) (hc : c < 100) (hl : s 0 = b.1) (hr : s 1 = b.2.1) (hG : jG s) (ht : ∀ j, j ≠ 6 → j ≠ 7 → t j = s j) (hC : jC d t) : ∃ d', me_119_0_57 N (nI k) (nI c) b d h = some (bif jP s si ce (nI k) q z c then 1 else 0, d') ∧ jC d' (jrow s c) := by
  have hC2 : jC (b.1, b.2.1, d.2.2.1, d.2.2.2.1, d.2.2.2.2.1, d.2.2.2.2.2.1, d.2.2.2.2.2.2.1, d.2.2.2.2.2.2.2.1, upd (upd d.2.2.2.2.2.2.2.2.1 1 (nI (c / 10))) 2 (nI (c % 10)), d.2.2.2.2.2.2.2.2.2) (upd (upd t 6 (nI (c / 10))) 7 (nI (c % 10))) := jC_rule (k := 2) (jC_rule (k := 1) hC (by decide)) (by decide)
  rw [jrow_of ht c] at hC2
  obtain ⟨x, y, h1⟩ := l_119_57 (N := N) (e := (d.2.2.1, d.2.2.2.1, d.2.2.2.2.1, d.2.2.2.2.2.1, d.2.2.2.2.2.2.1, d.2.2.2.2.2.2.2.1, upd (upd d.2.2.2.2.2.2.2.2.1 1 (nI (c / 10))) 2 (nI (c % 10)), d.2.2.2.2.2.2.2.2.2)) (u := b.1) (v := b.2.1) hH hq hk ez hz hC2 (jrow_G hG hc) 21 0 N (s 0, s 1) (by omega) (by omega) (by omega)
  refine ⟨(x, y, d.2.2.1, d.2.2.2.1, d.2.2.2.2.1, d.2.2.2.2.2.1, d.2.2.2.2.2.2.1, d.2.2.2.2.2.2.2.1, upd (upd d.2.2.2.2.2.2.2.2.1 1 (nI (c / 10))) 2 (nI (c % 10)), d.2.2.2.2.2.2.2.2.2), ?_, hC2⟩
  unfold me_119_0_57
  rw [(jd10 hc).2, (jd10 hc).1, ← hl, ← hr]
  exact h1
theorem l_92_57 {N : Nat} (hN : 4000 ≤ N) {q z k : Nat} {b : hB} {h : hSt} {s wi si ce : Nat → Int32} (hH : jH q h wi si ce) (hq : q < 4) (hk : k < 8) (ez : h.2.2 = nI z) (hz : z ≤ 40) (hl : s 0 = b.1) (hr : s 1 = b.2.1) (hG : jG s) : ∀ (m i n : Nat) (d : hB) (t : Nat → Int32), i + m = 100 → m < n → (∀ j, j ≠ 6 → j ≠ 7 → t j = s j) → jC d t → ∃ w d', lp_92_0_60_57 N (nI k) b h n (nI (jct (jP s si ce (nI k) q z) i)) (nI i) d = some (nI (jct (jP s si ce (nI k) q z) 100), w, d') := by
  intro m
  induction m with
  | zero =>
    intro i n d t hi hn ht hC
    obtain rfl : i = 100 := by omega
    cases n with
    | zero => exact absurd hn (by omega)
    | succ n => exact ⟨_, _, rfl⟩
  | succ m ih =>
    intro i n d t hi hn ht hC
    cases n with
    | zero => exact absurd hn (by omega)
    | succ n =>
      obtain ⟨d', h1, h2⟩ := m_119_57 hN (c := i) hH hq hk ez hz (by omega) hl hr hG ht hC
      rw [lp_92_0_60_57, jgel i 100 rfl (by omega) (by decide), decide_eq_false (show ¬ 100 ≤ i by omega), h1]
      simp only [cond_false, Option.bind_some]
      have h3 : (bif gCmp .eq (bif jP s si ce (nI k) q z i then (1 : Int32) else 0) 0 then nI (jct (jP s si ce (nI k) q z) i) else nI (jct (jP s si ce (nI k) q z) i) + 1) = nI (jct (jP s si ce (nI k) q z) (i + 1)) := by
        rw [jct]
        cases jP s si ce (nI k) q z i
        · rfl
        · exact nI_1 _
      rw [h3, nI_1]
      exact ih (i + 1) n d' _ (by omega) (by omega) (jrow_n s i) h2
theorem l_93_57 {N : Nat} (hN : 4000 ≤ N) {q z k : Nat} {b : hB} {h : hSt} {s wi si ce fi : Nat → Int32} (hH : jH q h wi si ce) (hq : q < 4) (hk : k < 8) (ez : h.2.2 = nI z) (hz : z ≤ 40) (hl : s 0 = b.1) (hr : s 1 = b.2.1) (hG : jG s) : ∀ (m i n : Nat) (d : hB) (t : Nat → Int32), i + m = 100 → m < n → (∀ j, j ≠ 6 → j ≠ 7 → t j = s j) → jC d t → (∀ c, c < i → jP s si ce (nI k) q z c = false) → (∃ d', lp_93_0_57_57 N (nI k) b h fi n (nI i) d = some (v_111_0 3, d', f_111_0_fi 3 fi) ∧ ∀ c, c < 100 → jP s si ce (nI k) q z c = false) ∨ (∃ f d', lp_93_0_57_57 N (nI k) b h fi n (nI i) d = some (nI f, d', fi) ∧ f < 100 ∧ jP s si ce (nI k) q z f = true ∧ ∀ c, c < f → jP s si ce (nI k) q z c = false) := by
  intro m
  induction m with
  | zero =>
    intro i n d t hi hn ht hC hno
    obtain rfl : i = 100 := by omega
    cases n with
    | zero => exact absurd hn (by omega)
    | succ n => exact .inl ⟨_, rfl, hno⟩
  | succ m ih =>
    intro i n d t hi hn ht hC hno
    cases n with
    | zero => exact absurd hn (by omega)
    | succ n =>
      obtain ⟨d', h1, h2⟩ := m_119_57 hN (c := i) hH hq hk ez hz (by omega) hl hr hG ht hC
      rw [lp_93_0_57_57, jgel i 100 rfl (by omega) (by decide), decide_eq_false (show ¬ 100 ≤ i by omega), h1]
      simp only [cond_false, Option.bind_some]
      cases hP : jP s si ce (nI k) q z i
      · simp only [cond_false]
        rw [je0, nI_1]
        exact ih (i + 1) n d' _ (by omega) (by omega) (jrow_n s i) h2 (fun c hc => by
          by_cases e : c = i
          · subst e; exact hP
          · exact hno c (by omega))
      · exact .inr ⟨i, d', rfl, by omega, hP, hno⟩
/-- the class's -/
theorem l_119_59 {N : Nat} {q z k : Nat} {e : jE} {u v : Int32} {h : hSt} {t wi si ce : Nat → Int32} (hH : jH q h wi si ce) (hq : q < 4) (hk : k < 8) (ez : h.2.2 = nI z) (hz : z ≤ 40) (hC : jC (u, v, e) t) (hG : jG t) : ∀ (m i n : Nat) (p : Int32 × Int32), z ≤ i + 2 * m → i + 2 * m ≤ 60 → m < n → ∃ x y, lp_119_0_59_57 N (nI k) h n (nI i) (p.1, p.2, e) = some (bif jfol t si ce (nI k) q z m i p then 1 else 0, (x, y, e)) := by
  intro m
  induction m with
  | zero =>
    intro i n p hi hi2 hn
    cases n with
    | zero => exact absurd hn (by omega)
    | succ n =>
      rw [lp_119_0_59_57, ez, jge i z rfl rfl (by omega) (by omega), decide_eq_true (show z ≤ i by omega)]
      exact ⟨_, _, rfl⟩
  | succ m ih =>
    intro i n p hi hi2 hn
    cases n with
    | zero => exact absurd hn (by omega)
    | succ n =>
      have hg1 := (jg187 hH hq ez hz (show i < 100 by omega)).1
      have hg2 := (jg187 hH hq ez hz (show i + 1 < 100 by omega)).1
      rw [lp_119_0_59_57, nI_1, hg1, hg2, ez, jge i z rfl rfl (by omega) (by omega), jfol, show nI i + 2 = nI (i + 2) from by rw [show (2 : Int32) = nI 2 from rfl, nI_add], jin (n := 8) hk (by decide), j18d hC hG hk]
      dsimp only
      rw [j57_59 hH hq ez hz (show i < 100 by omega), j57_59 hH hq ez hz (show i + 1 < 100 by omega)]
      by_cases hzi : z ≤ i
      · rw [decide_eq_true hzi, if_pos hzi]
        exact ⟨_, _, rfl⟩
      · rw [decide_eq_false hzi, if_neg hzi]
        have hne : gCmp .ne (v_187_63 (nI q) (nI (i + 1)) (jM t (nI k) p).2 si ce) 0 = !gCmp .eq (v_187_63 (nI q) (nI (i + 1)) (jM t (nI k) p).2 si ce) 0 := rfl
        rw [hne]
        cases gCmp .eq (v_187_63 (nI q) (nI i) (jM t (nI k) p).1 si ce) 0
        · cases gCmp .eq (v_187_63 (nI q) (nI (i + 1)) (jM t (nI k) p).2 si ce) 0
          · exact ih (i + 2) n (jM t (nI k) p) (by omega) (by omega) (by omega)
          · exact ⟨_, _, rfl⟩
        · exact ⟨_, _, rfl⟩
theorem m_119_59 {N : Nat} (hN : 4000 ≤ N) {q z k c : Nat} {b d : hB} {h : hSt} {s t wi si ce : Nat → Int32} (hH : jH q h wi si ce) (hq : q < 4) (hk : k < 8) (ez : h.2.2 = nI z) (hz : z ≤ 40) (hc : c < 100) (hl : s 0 = b.1) (hr : s 1 = b.2.1) (hG : jG s) (ht : ∀ j, j ≠ 6 → j ≠ 7 → t j = s j) (hC : jC d t) : ∃ d', me_119_0_59 N (nI k) (nI c) b d h = some (bif jP s si ce (nI k) q z c then 1 else 0, d') ∧ jC d' (jrow s c) := by
  have hC2 : jC (b.1, b.2.1, d.2.2.1, d.2.2.2.1, d.2.2.2.2.1, d.2.2.2.2.2.1, d.2.2.2.2.2.2.1, d.2.2.2.2.2.2.2.1, upd (upd d.2.2.2.2.2.2.2.2.1 1 (nI (c / 10))) 2 (nI (c % 10)), d.2.2.2.2.2.2.2.2.2) (upd (upd t 6 (nI (c / 10))) 7 (nI (c % 10))) := jC_rule (k := 2) (jC_rule (k := 1) hC (by decide)) (by decide)
  rw [jrow_of ht c] at hC2
  obtain ⟨x, y, h1⟩ := l_119_59 (N := N) (e := (d.2.2.1, d.2.2.2.1, d.2.2.2.2.1, d.2.2.2.2.2.1, d.2.2.2.2.2.2.1, d.2.2.2.2.2.2.2.1, upd (upd d.2.2.2.2.2.2.2.2.1 1 (nI (c / 10))) 2 (nI (c % 10)), d.2.2.2.2.2.2.2.2.2)) (u := b.1) (v := b.2.1) hH hq hk ez hz hC2 (jrow_G hG hc) 21 0 N (s 0, s 1) (by omega) (by omega) (by omega)
  refine ⟨(x, y, d.2.2.1, d.2.2.2.1, d.2.2.2.2.1, d.2.2.2.2.2.1, d.2.2.2.2.2.2.1, d.2.2.2.2.2.2.2.1, upd (upd d.2.2.2.2.2.2.2.2.1 1 (nI (c / 10))) 2 (nI (c % 10)), d.2.2.2.2.2.2.2.2.2), ?_, hC2⟩
  unfold me_119_0_59
  rw [(jd10 hc).2, (jd10 hc).1, ← hl, ← hr]
  exact h1
theorem l_92_59 {N : Nat} (hN : 4000 ≤ N) {q z k : Nat} {b : hB} {h : hSt} {s wi si ce : Nat → Int32} (hH : jH q h wi si ce) (hq : q < 4) (hk : k < 8) (ez : h.2.2 = nI z) (hz : z ≤ 40) (hl : s 0 = b.1) (hr : s 1 = b.2.1) (hG : jG s) : ∀ (m i n : Nat) (d : hB) (t : Nat → Int32), i + m = 100 → m < n → (∀ j, j ≠ 6 → j ≠ 7 → t j = s j) → jC d t → ∃ w d', lp_92_0_60_59 N (nI k) b h n (nI (jct (jP s si ce (nI k) q z) i)) (nI i) d = some (nI (jct (jP s si ce (nI k) q z) 100), w, d') := by
  intro m
  induction m with
  | zero =>
    intro i n d t hi hn ht hC
    obtain rfl : i = 100 := by omega
    cases n with
    | zero => exact absurd hn (by omega)
    | succ n => exact ⟨_, _, rfl⟩
  | succ m ih =>
    intro i n d t hi hn ht hC
    cases n with
    | zero => exact absurd hn (by omega)
    | succ n =>
      obtain ⟨d', h1, h2⟩ := m_119_59 hN (c := i) hH hq hk ez hz (by omega) hl hr hG ht hC
      rw [lp_92_0_60_59, jgel i 100 rfl (by omega) (by decide), decide_eq_false (show ¬ 100 ≤ i by omega), h1]
      simp only [cond_false, Option.bind_some]
      have h3 : (bif gCmp .eq (bif jP s si ce (nI k) q z i then (1 : Int32) else 0) 0 then nI (jct (jP s si ce (nI k) q z) i) else nI (jct (jP s si ce (nI k) q z) i) + 1) = nI (jct (jP s si ce (nI k) q z) (i + 1)) := by
        rw [jct]
        cases jP s si ce (nI k) q z i
        · rfl
        · exact nI_1 _
      rw [h3, nI_1]
      exact ih (i + 1) n d' _ (by omega) (by omega) (jrow_n s i) h2
theorem l_93_59 {N : Nat} (hN : 4000 ≤ N) {q z k : Nat} {b : hB} {h : hSt} {s wi si ce fi : Nat → Int32} (hH : jH q h wi si ce) (hq : q < 4) (hk : k < 8) (ez : h.2.2 = nI z) (hz : z ≤ 40) (hl : s 0 = b.1) (hr : s 1 = b.2.1) (hG : jG s) : ∀ (m i n : Nat) (d : hB) (t : Nat → Int32), i + m = 100 → m < n → (∀ j, j ≠ 6 → j ≠ 7 → t j = s j) → jC d t → (∀ c, c < i → jP s si ce (nI k) q z c = false) → (∃ d', lp_93_0_57_59 N (nI k) b h fi n (nI i) d = some (v_111_0 3, d', f_111_0_fi 3 fi) ∧ ∀ c, c < 100 → jP s si ce (nI k) q z c = false) ∨ (∃ f d', lp_93_0_57_59 N (nI k) b h fi n (nI i) d = some (nI f, d', fi) ∧ f < 100 ∧ jP s si ce (nI k) q z f = true ∧ ∀ c, c < f → jP s si ce (nI k) q z c = false) := by
  intro m
  induction m with
  | zero =>
    intro i n d t hi hn ht hC hno
    obtain rfl : i = 100 := by omega
    cases n with
    | zero => exact absurd hn (by omega)
    | succ n => exact .inl ⟨_, rfl, hno⟩
  | succ m ih =>
    intro i n d t hi hn ht hC hno
    cases n with
    | zero => exact absurd hn (by omega)
    | succ n =>
      obtain ⟨d', h1, h2⟩ := m_119_59 hN (c := i) hH hq hk ez hz (by omega) hl hr hG ht hC
      rw [lp_93_0_57_59, jgel i 100 rfl (by omega) (by decide), decide_eq_false (show ¬ 100 ≤ i by omega), h1]
      simp only [cond_false, Option.bind_some]
      cases hP : jP s si ce (nI k) q z i
      · simp only [cond_false]
        rw [je0, nI_1]
        exact ih (i + 1) n d' _ (by omega) (by omega) (jrow_n s i) h2 (fun c hc => by
          by_cases e : c = i
          · subst e; exact hP
          · exact hno c (by omega))
      · exact .inr ⟨i, d', rfl, by omega, hP, hno⟩
/-- the class's -/
theorem l_119_61 {N : Nat} {q z k : Nat} {e : jE} {u v : Int32} {h : hSt} {t wi si ce : Nat → Int32} (hH : jH q h wi si ce) (hq : q < 4) (hk : k < 8) (ez : h.2.2 = nI z) (hz : z ≤ 40) (hC : jC (u, v, e) t) (hG : jG t) : ∀ (m i n : Nat) (p : Int32 × Int32), z ≤ i + 2 * m → i + 2 * m ≤ 60 → m < n → ∃ x y, lp_119_0_61_57 N (nI k) h n (nI i) (p.1, p.2, e) = some (bif jfol t si ce (nI k) q z m i p then 1 else 0, (x, y, e)) := by
  intro m
  induction m with
  | zero =>
    intro i n p hi hi2 hn
    cases n with
    | zero => exact absurd hn (by omega)
    | succ n =>
      rw [lp_119_0_61_57, ez, jge i z rfl rfl (by omega) (by omega), decide_eq_true (show z ≤ i by omega)]
      exact ⟨_, _, rfl⟩
  | succ m ih =>
    intro i n p hi hi2 hn
    cases n with
    | zero => exact absurd hn (by omega)
    | succ n =>
      have hg1 := (jg187 hH hq ez hz (show i < 100 by omega)).1
      have hg2 := (jg187 hH hq ez hz (show i + 1 < 100 by omega)).1
      rw [lp_119_0_61_57, nI_1, hg1, hg2, ez, jge i z rfl rfl (by omega) (by omega), jfol, show nI i + 2 = nI (i + 2) from by rw [show (2 : Int32) = nI 2 from rfl, nI_add], jin (n := 8) hk (by decide), j18d hC hG hk]
      dsimp only
      rw [j57_61 hH hq ez hz (show i < 100 by omega), j57_61 hH hq ez hz (show i + 1 < 100 by omega)]
      by_cases hzi : z ≤ i
      · rw [decide_eq_true hzi, if_pos hzi]
        exact ⟨_, _, rfl⟩
      · rw [decide_eq_false hzi, if_neg hzi]
        have hne : gCmp .ne (v_187_63 (nI q) (nI (i + 1)) (jM t (nI k) p).2 si ce) 0 = !gCmp .eq (v_187_63 (nI q) (nI (i + 1)) (jM t (nI k) p).2 si ce) 0 := rfl
        rw [hne]
        cases gCmp .eq (v_187_63 (nI q) (nI i) (jM t (nI k) p).1 si ce) 0
        · cases gCmp .eq (v_187_63 (nI q) (nI (i + 1)) (jM t (nI k) p).2 si ce) 0
          · exact ih (i + 2) n (jM t (nI k) p) (by omega) (by omega) (by omega)
          · exact ⟨_, _, rfl⟩
        · exact ⟨_, _, rfl⟩
theorem m_119_61 {N : Nat} (hN : 4000 ≤ N) {q z k c : Nat} {b d : hB} {h : hSt} {s t wi si ce : Nat → Int32} (hH : jH q h wi si ce) (hq : q < 4) (hk : k < 8) (ez : h.2.2 = nI z) (hz : z ≤ 40) (hc : c < 100) (hl : s 0 = b.1) (hr : s 1 = b.2.1) (hG : jG s) (ht : ∀ j, j ≠ 6 → j ≠ 7 → t j = s j) (hC : jC d t) : ∃ d', me_119_0_61 N (nI k) (nI c) b d h = some (bif jP s si ce (nI k) q z c then 1 else 0, d') ∧ jC d' (jrow s c) := by
  have hC2 : jC (b.1, b.2.1, d.2.2.1, d.2.2.2.1, d.2.2.2.2.1, d.2.2.2.2.2.1, d.2.2.2.2.2.2.1, d.2.2.2.2.2.2.2.1, upd (upd d.2.2.2.2.2.2.2.2.1 1 (nI (c / 10))) 2 (nI (c % 10)), d.2.2.2.2.2.2.2.2.2) (upd (upd t 6 (nI (c / 10))) 7 (nI (c % 10))) := jC_rule (k := 2) (jC_rule (k := 1) hC (by decide)) (by decide)
  rw [jrow_of ht c] at hC2
  obtain ⟨x, y, h1⟩ := l_119_61 (N := N) (e := (d.2.2.1, d.2.2.2.1, d.2.2.2.2.1, d.2.2.2.2.2.1, d.2.2.2.2.2.2.1, d.2.2.2.2.2.2.2.1, upd (upd d.2.2.2.2.2.2.2.2.1 1 (nI (c / 10))) 2 (nI (c % 10)), d.2.2.2.2.2.2.2.2.2)) (u := b.1) (v := b.2.1) hH hq hk ez hz hC2 (jrow_G hG hc) 21 0 N (s 0, s 1) (by omega) (by omega) (by omega)
  refine ⟨(x, y, d.2.2.1, d.2.2.2.1, d.2.2.2.2.1, d.2.2.2.2.2.1, d.2.2.2.2.2.2.1, d.2.2.2.2.2.2.2.1, upd (upd d.2.2.2.2.2.2.2.2.1 1 (nI (c / 10))) 2 (nI (c % 10)), d.2.2.2.2.2.2.2.2.2), ?_, hC2⟩
  unfold me_119_0_61
  rw [(jd10 hc).2, (jd10 hc).1, ← hl, ← hr]
  exact h1
theorem l_92_61 {N : Nat} (hN : 4000 ≤ N) {q z k : Nat} {b : hB} {h : hSt} {s wi si ce : Nat → Int32} (hH : jH q h wi si ce) (hq : q < 4) (hk : k < 8) (ez : h.2.2 = nI z) (hz : z ≤ 40) (hl : s 0 = b.1) (hr : s 1 = b.2.1) (hG : jG s) : ∀ (m i n : Nat) (d : hB) (t : Nat → Int32), i + m = 100 → m < n → (∀ j, j ≠ 6 → j ≠ 7 → t j = s j) → jC d t → ∃ w d', lp_92_0_60_61 N (nI k) b h n (nI (jct (jP s si ce (nI k) q z) i)) (nI i) d = some (nI (jct (jP s si ce (nI k) q z) 100), w, d') := by
  intro m
  induction m with
  | zero =>
    intro i n d t hi hn ht hC
    obtain rfl : i = 100 := by omega
    cases n with
    | zero => exact absurd hn (by omega)
    | succ n => exact ⟨_, _, rfl⟩
  | succ m ih =>
    intro i n d t hi hn ht hC
    cases n with
    | zero => exact absurd hn (by omega)
    | succ n =>
      obtain ⟨d', h1, h2⟩ := m_119_61 hN (c := i) hH hq hk ez hz (by omega) hl hr hG ht hC
      rw [lp_92_0_60_61, jgel i 100 rfl (by omega) (by decide), decide_eq_false (show ¬ 100 ≤ i by omega), h1]
      simp only [cond_false, Option.bind_some]
      have h3 : (bif gCmp .eq (bif jP s si ce (nI k) q z i then (1 : Int32) else 0) 0 then nI (jct (jP s si ce (nI k) q z) i) else nI (jct (jP s si ce (nI k) q z) i) + 1) = nI (jct (jP s si ce (nI k) q z) (i + 1)) := by
        rw [jct]
        cases jP s si ce (nI k) q z i
        · rfl
        · exact nI_1 _
      rw [h3, nI_1]
      exact ih (i + 1) n d' _ (by omega) (by omega) (jrow_n s i) h2
theorem l_93_61 {N : Nat} (hN : 4000 ≤ N) {q z k : Nat} {b : hB} {h : hSt} {s wi si ce fi : Nat → Int32} (hH : jH q h wi si ce) (hq : q < 4) (hk : k < 8) (ez : h.2.2 = nI z) (hz : z ≤ 40) (hl : s 0 = b.1) (hr : s 1 = b.2.1) (hG : jG s) : ∀ (m i n : Nat) (d : hB) (t : Nat → Int32), i + m = 100 → m < n → (∀ j, j ≠ 6 → j ≠ 7 → t j = s j) → jC d t → (∀ c, c < i → jP s si ce (nI k) q z c = false) → (∃ d', lp_93_0_57_61 N (nI k) b h fi n (nI i) d = some (v_111_0 3, d', f_111_0_fi 3 fi) ∧ ∀ c, c < 100 → jP s si ce (nI k) q z c = false) ∨ (∃ f d', lp_93_0_57_61 N (nI k) b h fi n (nI i) d = some (nI f, d', fi) ∧ f < 100 ∧ jP s si ce (nI k) q z f = true ∧ ∀ c, c < f → jP s si ce (nI k) q z c = false) := by
  intro m
  induction m with
  | zero =>
    intro i n d t hi hn ht hC hno
    obtain rfl : i = 100 := by omega
    cases n with
    | zero => exact absurd hn (by omega)
    | succ n => exact .inl ⟨_, rfl, hno⟩
  | succ m ih =>
    intro i n d t hi hn ht hC hno
    cases n with
    | zero => exact absurd hn (by omega)
    | succ n =>
      obtain ⟨d', h1, h2⟩ := m_119_61 hN (c := i) hH hq hk ez hz (by omega) hl hr hG ht hC
      rw [lp_93_0_57_61, jgel i 100 rfl (by omega) (by decide), decide_eq_false (show ¬ 100 ≤ i by omega), h1]
      simp only [cond_false, Option.bind_some]
      cases hP : jP s si ce (nI k) q z i
      · simp only [cond_false]
        rw [je0, nI_1]
        exact ih (i + 1) n d' _ (by omega) (by omega) (jrow_n s i) h2 (fun c hc => by
          by_cases e : c = i
          · subst e; exact hP
          · exact hno c (by omega))
      · exact .inr ⟨i, d', rfl, by omega, hP, hno⟩
/-- fits -/
theorem q_fits {N : Nat} (hN : 4000 ≤ N) {b d : hB} {h0 h1 h2 h3 : hSt} {s wi si ce fi fo : Nat → Int32} (x0 x1 tl tr ft : Int32) (hB : jB b s) (hH : jH4 h0 h1 h2 h3 wi si ce) (hF : jF fi fo) : ∃ qc qm, me_92_0 N x0 x1 b d h0 h1 h2 h3 fi = some qc ∧ me_190_63 N x0 x1 s fo tl tr ft wi si ce = some qm ∧ qc.1 = qm.1 ∧ qm.2.1 = s ∧ jF qc.2.2 qm.2.2.1 := by
  obtain ⟨⟨hl, hr⟩, hC, hG⟩ := id hB
  unfold me_92_0 me_190_63
  rcases jx0 x0 with ⟨e1, e2⟩ | ⟨e1, e2, e3⟩ | ⟨q, hq, rfl, e1, e2, e3⟩
  · rw [e1, show v_189_63 x0 x1 s wi = 0 from by unfold v_189_63; rw [j186_0 e2]; rfl, e2, jn0]
    exact ⟨_, _, rfl, rfl, rfl, rfl, jF_no 0 hF (by decide)⟩
  · rw [e1, e2, show v_189_63 x0 x1 s wi = 0 from by unfold v_189_63; rw [j186_0 e3]; rfl, e3, jn0]
    exact ⟨_, _, rfl, rfl, rfl, rfl, jF_no 0 hF (by decide)⟩
  · rw [e1, e2, e3, jn1, jin (show q < 4 by omega) (by decide)]
    simp only [cond_true, cond_false, Bool.or_true]
    unfold v_189_63
    rcases (show q = 0 ∨ q = 1 ∨ q = 2 ∨ q = 3 by omega) with rfl | rfl | rfl | rfl
    · rw [show hEq (nI 0) 0 = true from by decide]
      simp only [cond_true, cond_false]
      rcases jmiss_55 hH.1 (by decide) e3 with ⟨k1, k2⟩ | ⟨k1, k2⟩
      · rw [k1, k2, je1]
        exact ⟨_, _, rfl, rfl, rfl, rfl, jF_no 5 hF (by decide)⟩
      · obtain ⟨z, hz, ez⟩ := jR_u 40 hH.1.2.2.2 (by decide)
        rw [k1, k2, je0, show gCmp .lt (-1 : Int32) 0 = true from by decide]
        simp only [cond_true, cond_false]
        rcases jp hC.1.2.2 hG.1.2.2.2 x1 with ⟨n1, n2, k, hk, hkp, rfl⟩ | ⟨n1, n2⟩
        · rw [n1, n2, je0, je1, show gCmp .lt (bif false then (0 : Int32) else -1) 0 = true from by decide]
          obtain ⟨y', tl', tr', g1, g2⟩ := m_188 hN (s := s) hH.1 (by decide) hk ez hz tl tr
          rw [g1]
          simp only [cond_true, Option.bind_some]
          obtain ⟨w, d', g3⟩ := l_92_55 hN hH.1 (by decide) hk ez hz hl hr hG 100 0 N (f_10_10_1_d b d) s rfl (by omega) (fun _ _ _ => rfl) (jC_take hC)
          rw [show lp_92_0_60_55 N (nI k) b h0 N 0 0 (f_10_10_1_d b d) = _ from g3]
          refine ⟨_, _, rfl, rfl, ?_, rfl, hF⟩
          show nI (jct (jP s si ce (nI k) 0 z) 100) = bif gCmp .ge y' 0 then nI (jct (jP s si ce (nI k) 0 z) 100) else 0
          rcases g2 with ⟨rfl, g4⟩ | ⟨f, hf, rfl, g4, g5⟩
          · rw [jct_0 _ 100 g4]; rfl
          · rw [jgel f 0 rfl (by omega) (by decide), decide_eq_true (Nat.zero_le f)]; rfl
        · rw [n1, n2, je0, je1]
          exact ⟨_, _, rfl, rfl, rfl, rfl, jF_no 0 hF (by decide)⟩
    · rw [show hEq (nI 1) 0 = false from by decide, show hEq (nI 1) 1 = true from by decide]
      simp only [cond_true, cond_false]
      rcases jmiss_57 hH.2.1 (by decide) e3 with ⟨k1, k2⟩ | ⟨k1, k2⟩
      · rw [k1, k2, je1]
        exact ⟨_, _, rfl, rfl, rfl, rfl, jF_no 5 hF (by decide)⟩
      · obtain ⟨z, hz, ez⟩ := jR_u 40 hH.2.1.2.2.2 (by decide)
        rw [k1, k2, je0, show gCmp .lt (-1 : Int32) 0 = true from by decide]
        simp only [cond_true, cond_false]
        rcases jp hC.1.2.2 hG.1.2.2.2 x1 with ⟨n1, n2, k, hk, hkp, rfl⟩ | ⟨n1, n2⟩
        · rw [n1, n2, je0, je1, show gCmp .lt (bif false then (0 : Int32) else -1) 0 = true from by decide]
          obtain ⟨y', tl', tr', g1, g2⟩ := m_188 hN (s := s) hH.2.1 (by decide) hk ez hz tl tr
          rw [g1]
          simp only [cond_true, Option.bind_some]
          obtain ⟨w, d', g3⟩ := l_92_57 hN hH.2.1 (by decide) hk ez hz hl hr hG 100 0 N (f_10_10_1_d b d) s rfl (by omega) (fun _ _ _ => rfl) (jC_take hC)
          rw [show lp_92_0_60_57 N (nI k) b h1 N 0 0 (f_10_10_1_d b d) = _ from g3]
          refine ⟨_, _, rfl, rfl, ?_, rfl, hF⟩
          show nI (jct (jP s si ce (nI k) 1 z) 100) = bif gCmp .ge y' 0 then nI (jct (jP s si ce (nI k) 1 z) 100) else 0
          rcases g2 with ⟨rfl, g4⟩ | ⟨f, hf, rfl, g4, g5⟩
          · rw [jct_0 _ 100 g4]; rfl
          · rw [jgel f 0 rfl (by omega) (by decide), decide_eq_true (Nat.zero_le f)]; rfl
        · rw [n1, n2, je0, je1]
          exact ⟨_, _, rfl, rfl, rfl, rfl, jF_no 0 hF (by decide)⟩
    · rw [show hEq (nI 2) 0 = false from by decide, show hEq (nI 2) 1 = false from by decide, show hEq (nI 2) 2 = true from by decide]
      simp only [cond_true, cond_false]
      rcases jmiss_59 hH.2.2.1 (by decide) e3 with ⟨k1, k2⟩ | ⟨k1, k2⟩
      · rw [k1, k2, je1]
        exact ⟨_, _, rfl, rfl, rfl, rfl, jF_no 5 hF (by decide)⟩
      · obtain ⟨z, hz, ez⟩ := jR_u 40 hH.2.2.1.2.2.2 (by decide)
        rw [k1, k2, je0, show gCmp .lt (-1 : Int32) 0 = true from by decide]
        simp only [cond_true, cond_false]
        rcases jp hC.1.2.2 hG.1.2.2.2 x1 with ⟨n1, n2, k, hk, hkp, rfl⟩ | ⟨n1, n2⟩
        · rw [n1, n2, je0, je1, show gCmp .lt (bif false then (0 : Int32) else -1) 0 = true from by decide]
          obtain ⟨y', tl', tr', g1, g2⟩ := m_188 hN (s := s) hH.2.2.1 (by decide) hk ez hz tl tr
          rw [g1]
          simp only [cond_true, Option.bind_some]
          obtain ⟨w, d', g3⟩ := l_92_59 hN hH.2.2.1 (by decide) hk ez hz hl hr hG 100 0 N (f_10_10_1_d b d) s rfl (by omega) (fun _ _ _ => rfl) (jC_take hC)
          rw [show lp_92_0_60_59 N (nI k) b h2 N 0 0 (f_10_10_1_d b d) = _ from g3]
          refine ⟨_, _, rfl, rfl, ?_, rfl, hF⟩
          show nI (jct (jP s si ce (nI k) 2 z) 100) = bif gCmp .ge y' 0 then nI (jct (jP s si ce (nI k) 2 z) 100) else 0
          rcases g2 with ⟨rfl, g4⟩ | ⟨f, hf, rfl, g4, g5⟩
          · rw [jct_0 _ 100 g4]; rfl
          · rw [jgel f 0 rfl (by omega) (by decide), decide_eq_true (Nat.zero_le f)]; rfl
        · rw [n1, n2, je0, je1]
          exact ⟨_, _, rfl, rfl, rfl, rfl, jF_no 0 hF (by decide)⟩
    · rw [show hEq (nI 3) 0 = false from by decide, show hEq (nI 3) 1 = false from by decide, show hEq (nI 3) 2 = false from by decide]
      simp only [cond_true, cond_false]
      rcases jmiss_61 hH.2.2.2 (by decide) e3 with ⟨k1, k2⟩ | ⟨k1, k2⟩
      · rw [k1, k2, je1]
        exact ⟨_, _, rfl, rfl, rfl, rfl, jF_no 5 hF (by decide)⟩
      · obtain ⟨z, hz, ez⟩ := jR_u 40 hH.2.2.2.2.2.2 (by decide)
        rw [k1, k2, je0, show gCmp .lt (-1 : Int32) 0 = true from by decide]
        simp only [cond_true, cond_false]
        rcases jp hC.1.2.2 hG.1.2.2.2 x1 with ⟨n1, n2, k, hk, hkp, rfl⟩ | ⟨n1, n2⟩
        · rw [n1, n2, je0, je1, show gCmp .lt (bif false then (0 : Int32) else -1) 0 = true from by decide]
          obtain ⟨y', tl', tr', g1, g2⟩ := m_188 hN (s := s) hH.2.2.2 (by decide) hk ez hz tl tr
          rw [g1]
          simp only [cond_true, Option.bind_some]
          obtain ⟨w, d', g3⟩ := l_92_61 hN hH.2.2.2 (by decide) hk ez hz hl hr hG 100 0 N (f_10_10_1_d b d) s rfl (by omega) (fun _ _ _ => rfl) (jC_take hC)
          rw [show lp_92_0_60_61 N (nI k) b h3 N 0 0 (f_10_10_1_d b d) = _ from g3]
          refine ⟨_, _, rfl, rfl, ?_, rfl, hF⟩
          show nI (jct (jP s si ce (nI k) 3 z) 100) = bif gCmp .ge y' 0 then nI (jct (jP s si ce (nI k) 3 z) 100) else 0
          rcases g2 with ⟨rfl, g4⟩ | ⟨f, hf, rfl, g4, g5⟩
          · rw [jct_0 _ 100 g4]; rfl
          · rw [jgel f 0 rfl (by omega) (by decide), decide_eq_true (Nat.zero_le f)]; rfl
        · rw [n1, n2, je0, je1]
          exact ⟨_, _, rfl, rfl, rfl, rfl, jF_no 0 hF (by decide)⟩
/-- slips -/
theorem q_slips {N : Nat} (hN : 4000 ≤ N) {b d : hB} {h0 h1 h2 h3 : hSt} {s wi si ce fi fo : Nat → Int32} (x0 x1 tl tr ft : Int32) (hB : jB b s) (hH : jH4 h0 h1 h2 h3 wi si ce) (hF : jF fi fo) : ∃ qc qm, me_93_0 N x0 x1 b d h0 h1 h2 h3 fi = some qc ∧ me_191_63 N x0 x1 s fo tl tr ft wi si ce = some qm ∧ qc.1 = qm.1 ∧ qm.2.1 = s ∧ jF qc.2.2 qm.2.2.1 := by
  obtain ⟨⟨hl, hr⟩, hC, hG⟩ := id hB
  unfold me_93_0 me_191_63
  rcases jx0 x0 with ⟨e1, e2⟩ | ⟨e1, e2, e3⟩ | ⟨q, hq, rfl, e1, e2, e3⟩
  · rw [e1, show v_189_63 x0 x1 s wi = 0 from by unfold v_189_63; rw [j186_0 e2]; rfl, e2, jn0]
    exact ⟨_, _, rfl, rfl, rfl, rfl, jF_no 0 hF (by decide)⟩
  · rw [e1, e2, show v_189_63 x0 x1 s wi = 0 from by unfold v_189_63; rw [j186_0 e3]; rfl, e3, jn0]
    exact ⟨_, _, rfl, rfl, rfl, rfl, jF_no 0 hF (by decide)⟩
  · rw [e1, e2, e3, jn1, jin (show q < 4 by omega) (by decide)]
    simp only [cond_true, cond_false, Bool.or_true]
    unfold v_189_63
    rcases (show q = 0 ∨ q = 1 ∨ q = 2 ∨ q = 3 by omega) with rfl | rfl | rfl | rfl
    · rw [show hEq (nI 0) 0 = true from by decide]
      simp only [cond_true, cond_false]
      rcases jmiss_55 hH.1 (by decide) e3 with ⟨k1, k2⟩ | ⟨k1, k2⟩
      · rw [k1, k2, je1]
        exact ⟨_, _, rfl, rfl, rfl, rfl, jF_no 5 hF (by decide)⟩
      · obtain ⟨z, hz, ez⟩ := jR_u 40 hH.1.2.2.2 (by decide)
        rw [k1, k2, je0, show gCmp .lt (-1 : Int32) 0 = true from by decide]
        simp only [cond_true, cond_false]
        rcases jp hC.1.2.2 hG.1.2.2.2 x1 with ⟨n1, n2, k, hk, hkp, rfl⟩ | ⟨n1, n2⟩
        · rw [n1, n2, je0, je1, show gCmp .lt (bif false then (0 : Int32) else -1) 0 = true from by decide]
          obtain ⟨y', tl', tr', g1, g2⟩ := m_188 hN (s := s) hH.1 (by decide) hk ez hz tl tr
          rw [g1]
          simp only [cond_true, Option.bind_some]
          rcases l_93_55 hN (fi := fi) hH.1 (by decide) hk ez hz hl hr hG 100 0 N (f_10_10_1_d b d) s rfl (by omega) (fun _ _ _ => rfl) (jC_take hC) (fun c hc => absurd hc (by omega)) with ⟨d', g3, g4⟩ | ⟨f, d', g3, g4, g5, g6⟩
          · rw [show lp_93_0_57_55 N (nI k) b h0 fi N 0 (f_10_10_1_d b d) = _ from g3]
            rcases g2 with ⟨rfl, g7⟩ | ⟨f2, hf2, rfl, g7, g8⟩
            · exact ⟨_, _, rfl, rfl, rfl, rfl, jF_no 3 hF (by decide)⟩
            · rw [g4 f2 hf2] at g7; cases g7
          · rw [show lp_93_0_57_55 N (nI k) b h0 fi N 0 (f_10_10_1_d b d) = _ from g3]
            rcases g2 with ⟨rfl, g7⟩ | ⟨f2, hf2, rfl, g7, g8⟩
            · rw [g7 f g4] at g5; cases g5
            · have hff : f = f2 := by
                rcases Nat.lt_trichotomy f f2 with h | h | h
                · rw [g8 f h] at g5; cases g5
                · exact h
                · rw [g6 f2 h] at g7; cases g7
              subst hff
              rw [jgel f 0 rfl (by omega) (by decide), decide_eq_true (Nat.zero_le f)]
              exact ⟨_, _, rfl, rfl, rfl, rfl, hF⟩
        · rw [n1, n2, je0, je1]
          exact ⟨_, _, rfl, rfl, rfl, rfl, jF_no 0 hF (by decide)⟩
    · rw [show hEq (nI 1) 0 = false from by decide, show hEq (nI 1) 1 = true from by decide]
      simp only [cond_true, cond_false]
      rcases jmiss_57 hH.2.1 (by decide) e3 with ⟨k1, k2⟩ | ⟨k1, k2⟩
      · rw [k1, k2, je1]
        exact ⟨_, _, rfl, rfl, rfl, rfl, jF_no 5 hF (by decide)⟩
      · obtain ⟨z, hz, ez⟩ := jR_u 40 hH.2.1.2.2.2 (by decide)
        rw [k1, k2, je0, show gCmp .lt (-1 : Int32) 0 = true from by decide]
        simp only [cond_true, cond_false]
        rcases jp hC.1.2.2 hG.1.2.2.2 x1 with ⟨n1, n2, k, hk, hkp, rfl⟩ | ⟨n1, n2⟩
        · rw [n1, n2, je0, je1, show gCmp .lt (bif false then (0 : Int32) else -1) 0 = true from by decide]
          obtain ⟨y', tl', tr', g1, g2⟩ := m_188 hN (s := s) hH.2.1 (by decide) hk ez hz tl tr
          rw [g1]
          simp only [cond_true, Option.bind_some]
          rcases l_93_57 hN (fi := fi) hH.2.1 (by decide) hk ez hz hl hr hG 100 0 N (f_10_10_1_d b d) s rfl (by omega) (fun _ _ _ => rfl) (jC_take hC) (fun c hc => absurd hc (by omega)) with ⟨d', g3, g4⟩ | ⟨f, d', g3, g4, g5, g6⟩
          · rw [show lp_93_0_57_57 N (nI k) b h1 fi N 0 (f_10_10_1_d b d) = _ from g3]
            rcases g2 with ⟨rfl, g7⟩ | ⟨f2, hf2, rfl, g7, g8⟩
            · exact ⟨_, _, rfl, rfl, rfl, rfl, jF_no 3 hF (by decide)⟩
            · rw [g4 f2 hf2] at g7; cases g7
          · rw [show lp_93_0_57_57 N (nI k) b h1 fi N 0 (f_10_10_1_d b d) = _ from g3]
            rcases g2 with ⟨rfl, g7⟩ | ⟨f2, hf2, rfl, g7, g8⟩
            · rw [g7 f g4] at g5; cases g5
            · have hff : f = f2 := by
                rcases Nat.lt_trichotomy f f2 with h | h | h
                · rw [g8 f h] at g5; cases g5
                · exact h
                · rw [g6 f2 h] at g7; cases g7
              subst hff
              rw [jgel f 0 rfl (by omega) (by decide), decide_eq_true (Nat.zero_le f)]
              exact ⟨_, _, rfl, rfl, rfl, rfl, hF⟩
        · rw [n1, n2, je0, je1]
          exact ⟨_, _, rfl, rfl, rfl, rfl, jF_no 0 hF (by decide)⟩
    · rw [show hEq (nI 2) 0 = false from by decide, show hEq (nI 2) 1 = false from by decide, show hEq (nI 2) 2 = true from by decide]
      simp only [cond_true, cond_false]
      rcases jmiss_59 hH.2.2.1 (by decide) e3 with ⟨k1, k2⟩ | ⟨k1, k2⟩
      · rw [k1, k2, je1]
        exact ⟨_, _, rfl, rfl, rfl, rfl, jF_no 5 hF (by decide)⟩
      · obtain ⟨z, hz, ez⟩ := jR_u 40 hH.2.2.1.2.2.2 (by decide)
        rw [k1, k2, je0, show gCmp .lt (-1 : Int32) 0 = true from by decide]
        simp only [cond_true, cond_false]
        rcases jp hC.1.2.2 hG.1.2.2.2 x1 with ⟨n1, n2, k, hk, hkp, rfl⟩ | ⟨n1, n2⟩
        · rw [n1, n2, je0, je1, show gCmp .lt (bif false then (0 : Int32) else -1) 0 = true from by decide]
          obtain ⟨y', tl', tr', g1, g2⟩ := m_188 hN (s := s) hH.2.2.1 (by decide) hk ez hz tl tr
          rw [g1]
          simp only [cond_true, Option.bind_some]
          rcases l_93_59 hN (fi := fi) hH.2.2.1 (by decide) hk ez hz hl hr hG 100 0 N (f_10_10_1_d b d) s rfl (by omega) (fun _ _ _ => rfl) (jC_take hC) (fun c hc => absurd hc (by omega)) with ⟨d', g3, g4⟩ | ⟨f, d', g3, g4, g5, g6⟩
          · rw [show lp_93_0_57_59 N (nI k) b h2 fi N 0 (f_10_10_1_d b d) = _ from g3]
            rcases g2 with ⟨rfl, g7⟩ | ⟨f2, hf2, rfl, g7, g8⟩
            · exact ⟨_, _, rfl, rfl, rfl, rfl, jF_no 3 hF (by decide)⟩
            · rw [g4 f2 hf2] at g7; cases g7
          · rw [show lp_93_0_57_59 N (nI k) b h2 fi N 0 (f_10_10_1_d b d) = _ from g3]
            rcases g2 with ⟨rfl, g7⟩ | ⟨f2, hf2, rfl, g7, g8⟩
            · rw [g7 f g4] at g5; cases g5
            · have hff : f = f2 := by
                rcases Nat.lt_trichotomy f f2 with h | h | h
                · rw [g8 f h] at g5; cases g5
                · exact h
                · rw [g6 f2 h] at g7; cases g7
              subst hff
              rw [jgel f 0 rfl (by omega) (by decide), decide_eq_true (Nat.zero_le f)]
              exact ⟨_, _, rfl, rfl, rfl, rfl, hF⟩
        · rw [n1, n2, je0, je1]
          exact ⟨_, _, rfl, rfl, rfl, rfl, jF_no 0 hF (by decide)⟩
    · rw [show hEq (nI 3) 0 = false from by decide, show hEq (nI 3) 1 = false from by decide, show hEq (nI 3) 2 = false from by decide]
      simp only [cond_true, cond_false]
      rcases jmiss_61 hH.2.2.2 (by decide) e3 with ⟨k1, k2⟩ | ⟨k1, k2⟩
      · rw [k1, k2, je1]
        exact ⟨_, _, rfl, rfl, rfl, rfl, jF_no 5 hF (by decide)⟩
      · obtain ⟨z, hz, ez⟩ := jR_u 40 hH.2.2.2.2.2.2 (by decide)
        rw [k1, k2, je0, show gCmp .lt (-1 : Int32) 0 = true from by decide]
        simp only [cond_true, cond_false]
        rcases jp hC.1.2.2 hG.1.2.2.2 x1 with ⟨n1, n2, k, hk, hkp, rfl⟩ | ⟨n1, n2⟩
        · rw [n1, n2, je0, je1, show gCmp .lt (bif false then (0 : Int32) else -1) 0 = true from by decide]
          obtain ⟨y', tl', tr', g1, g2⟩ := m_188 hN (s := s) hH.2.2.2 (by decide) hk ez hz tl tr
          rw [g1]
          simp only [cond_true, Option.bind_some]
          rcases l_93_61 hN (fi := fi) hH.2.2.2 (by decide) hk ez hz hl hr hG 100 0 N (f_10_10_1_d b d) s rfl (by omega) (fun _ _ _ => rfl) (jC_take hC) (fun c hc => absurd hc (by omega)) with ⟨d', g3, g4⟩ | ⟨f, d', g3, g4, g5, g6⟩
          · rw [show lp_93_0_57_61 N (nI k) b h3 fi N 0 (f_10_10_1_d b d) = _ from g3]
            rcases g2 with ⟨rfl, g7⟩ | ⟨f2, hf2, rfl, g7, g8⟩
            · exact ⟨_, _, rfl, rfl, rfl, rfl, jF_no 3 hF (by decide)⟩
            · rw [g4 f2 hf2] at g7; cases g7
          · rw [show lp_93_0_57_61 N (nI k) b h3 fi N 0 (f_10_10_1_d b d) = _ from g3]
            rcases g2 with ⟨rfl, g7⟩ | ⟨f2, hf2, rfl, g7, g8⟩
            · rw [g7 f g4] at g5; cases g5
            · have hff : f = f2 := by
                rcases Nat.lt_trichotomy f f2 with h | h | h
                · rw [g8 f h] at g5; cases g5
                · exact h
                · rw [g6 f2 h] at g7; cases g7
              subst hff
              rw [jgel f 0 rfl (by omega) (by decide), decide_eq_true (Nat.zero_le f)]
              exact ⟨_, _, rfl, rfl, rfl, rfl, hF⟩
        · rw [n1, n2, je0, je1]
          exact ⟨_, _, rfl, rfl, rfl, rfl, jF_no 0 hF (by decide)⟩
