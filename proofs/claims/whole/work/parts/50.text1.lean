/-! TEXTS: tokens -/
theorem jbc0 : ∀ c : Fin 256, gCmp .ne (nI c.val).toInt8.toInt32 32 = gCmp .ne (nI c.val) 32 ∧ v_42 (nI c.val).toInt8.toInt32 = v_199 (nI c.val) ∧ v_43 (nI c.val).toInt8.toInt32 = v_200 (nI c.val) ∧ ((v_199 (nI c.val) = 1 ∧ 97 ≤ c.val ∧ c.val ≤ 122 ∧ (nI c.val).toInt8.toInt32 = nI c.val) ∨ v_199 (nI c.val) = 0) ∧ ((v_200 (nI c.val) = 1 ∧ 48 ≤ c.val ∧ c.val ≤ 57 ∧ (nI c.val).toInt8.toInt32 = nI c.val) ∨ v_200 (nI c.val) = 0) ∧ ((v_41 (nI c.val).toInt8.toInt32 = 3 ∧ (bif gCmp .ne (nI c.val) 59 then (bif gCmp .ne (nI c.val) 45 then (4 : Int32) else 5) else 3) = 3) ∨ (v_41 (nI c.val).toInt8.toInt32 = 4 ∧ (bif gCmp .ne (nI c.val) 59 then (bif gCmp .ne (nI c.val) 45 then (4 : Int32) else 5) else 3) = 5) ∨ (v_41 (nI c.val).toInt8.toInt32 = 5 ∧ (bif gCmp .ne (nI c.val) 59 then (bif gCmp .ne (nI c.val) 45 then (4 : Int32) else 5) else 3) = 4)) := by decide +kernel
def jTp (tb tp : Nat → Int32) (t : Nat) : Prop := ∀ i, i < t → ∃ c : Nat, c < 256 ∧ tp i = nI c ∧ tb i = (nI c).toInt8.toInt32
def jby (tp : Nat → Int32) (i : Nat) : Nat := (tp i).toNatClampNeg
def jcap (c : Nat → Nat) (b : Nat) : Nat → Nat
  | 0 => 0
  | n + 1 => if jcap c b n ≤ 9999999999999 then jcap c b n * 27 + c (b + n) - 96 else jcap c b n
theorem jcap_lt {c : Nat → Nat} {b : Nat} : ∀ n, (∀ i, i < n → c (b + i) ≤ 122) → jcap c b n ≤ 269999999999999 := by
  intro n
  induction n with
  | zero => intro _; exact Nat.zero_le _
  | succ n ih =>
    intro h
    have h1 := ih (fun i hi => h i (by omega))
    have h2 := h n (by omega)
    rw [jcap]
    split <;> omega
theorem jcmpL {v k : Nat} (hv : v < 2 ^ 63) (hk : k < 2 ^ 63) : gCmp .le (lg_cmp (lN v) (lN k)) 0 = decide (v ≤ k) := by
  unfold lg_cmp
  by_cases h : v ≤ k
  · rw [decide_eq_true h, if_neg (show ¬ lN v > lN k from fun h2 => by have := (pk_lLT hk hv).mp h2; omega)]
    by_cases h3 : lN v = lN k
    · rw [if_pos h3]; decide
    · rw [if_neg h3]; decide
  · rw [decide_eq_false h, if_pos (show lN v > lN k from (pk_lLT hk hv).mpr (by omega))]
    decide
theorem l_skip {N : Nat} {tb tp : Nat → Int32} {t : Nat} (ht : t ≤ 120) (hT : jTp tb tp t) (k st : Int32) (w : Int32 × Int32) : ∀ (m e n : Nat), e + m = t → m < n → ∃ q, e ≤ q ∧ q ≤ t ∧ lp_40_51_0 N tb n (nI t, k, st, nI e, w) = some (nI t, k, st, nI q, w) ∧ lp_201_63_8 N tp (nI t) n (nI e) = some (nI q) := by
  intro m
  induction m with
  | zero =>
    intro e n he hn
    obtain rfl : e = t := by omega
    cases n with
    | zero => exact absurd hn (by omega)
    | succ n =>
      rw [lp_40_51_0, lp_201_63_8]
      dsimp only
      rw [jge e e rfl rfl (by omega) (by omega), decide_eq_true (Nat.le_refl e)]
      exact ⟨e, Nat.le_refl e, Nat.le_refl e, rfl, rfl⟩
  | succ m ih =>
    intro e n he hn
    cases n with
    | zero => exact absurd hn (by omega)
    | succ n =>
      obtain ⟨c, hc, e1, e2⟩ := hT e (by omega)
      have hb := (jbc0 ⟨c, hc⟩).1
      rw [lp_40_51_0, lp_201_63_8]
      dsimp only
      rw [jge e t rfl rfl (by omega) (by omega), decide_eq_false (show ¬ t ≤ e by omega), jin (show e < 120 by omega) (by decide), jcl (show e < 2 ^ 31 by omega), e1, e2, hb, nI_1]
      cases gCmp .ne (nI c) 32
      · obtain ⟨q, h1, h2, h3, h4⟩ := ih (e + 1) n (by omega) (by omega)
        exact ⟨q, by omega, h2, h3, h4⟩
      · exact ⟨e, Nat.le_refl e, by omega, rfl, rfl⟩
theorem l_wordtok {N : Nat} {tb tp : Nat → Int32} {t b : Nat} (ht : t ≤ 120) (hT : jTp tb tp t) (k st : Int32) (w : Int32 × Int32) : ∀ (m e n : Nat), e + m = t → m < n → b ≤ e → (∀ i, b ≤ i → i < e → 97 ≤ jby tp i ∧ jby tp i ≤ 122 ∧ tb i = nI (jby tp i)) → ∃ q, e ≤ q ∧ q ≤ t ∧ lp_40_51_85 N tb n (nI t, k, st, nI e, w) = some (nI t, k, st, nI q, w) ∧ lp_201_63_98 N tp (nI t) n (nI e) (lN (jcap (jby tp) b (e - b))) = some (nI q, lN (jcap (jby tp) b (q - b))) ∧ (∀ i, b ≤ i → i < q → 97 ≤ jby tp i ∧ jby tp i ≤ 122 ∧ tb i = nI (jby tp i)) ∧ (e < t → v_199 (tp e) = 1 → e < q) := by
  intro m
  induction m with
  | zero =>
    intro e n he hn hbe hL
    obtain rfl : e = t := by omega
    cases n with
    | zero => exact absurd hn (by omega)
    | succ n =>
      rw [lp_40_51_85, lp_201_63_98]
      dsimp only
      rw [jge e e rfl rfl (by omega) (by omega), decide_eq_true (Nat.le_refl e)]
      exact ⟨e, Nat.le_refl e, Nat.le_refl e, rfl, rfl, hL, fun h => absurd h (by omega)⟩
  | succ m ih =>
    intro e n he hn hbe hL
    cases n with
    | zero => exact absurd hn (by omega)
    | succ n =>
      obtain ⟨c, hc, e1, e2⟩ := hT e (by omega)
      obtain ⟨-, hb, -, hv, -⟩ := jbc0 ⟨c, hc⟩
      have hj := jcap_lt (c := jby tp) (b := b) (e - b) (fun i hi => (hL (b + i) (by omega) (by omega)).2.1)
      rw [lp_40_51_85, lp_201_63_98]
      dsimp only at hb hv ⊢
      rw [jge e t rfl rfl (by omega) (by omega), decide_eq_false (show ¬ t ≤ e by omega), jin (show e < 120 by omega) (by decide), jcl (show e < 2 ^ 31 by omega), e1, e2, hb, nI_1, show (9999999999999 : Int64) = lN 9999999999999 from rfl, jcmpL (by omega) (by decide)]
      rcases hv with ⟨hv, h97, h122, hbc⟩ | hv
      · rw [hv, je1, Bool.or_true]
        have hby : jby tp e = c := by unfold jby; rw [e1, jcl (by omega)]
        have hval : (bif decide (jcap (jby tp) b (e - b) ≤ 9999999999999) then (((lN (jcap (jby tp) b (e - b)) * 27) + (Int32.toInt64 (nI c))) - 96) else lN (jcap (jby tp) b (e - b))) = lN (jcap (jby tp) b (e + 1 - b)) := by
          rw [show e + 1 - b = (e - b) + 1 by omega, jcap, show b + (e - b) = e by omega, hby]
          by_cases h : jcap (jby tp) b (e - b) ≤ 9999999999999
          · rw [decide_eq_true h, if_pos h, nI_l (by omega), show (27 : Int64) = lN 27 from rfl, lN_mul, lN_add, show (96 : Int64) = lN 96 from rfl, lN_sub (by omega)]
            rfl
          · rw [decide_eq_false h, if_neg h]
            rfl
        rw [hval]
        obtain ⟨q, h1, h2, h3, h4, h5, h6⟩ := ih (e + 1) n (by omega) (by omega) (by omega) (fun i hi1 hi2 => by
          by_cases ei : i = e
          · subst ei
            rw [hby]
            exact ⟨h97, h122, by rw [e2]; exact hbc⟩
          · exact hL i hi1 (by omega))
        exact ⟨q, by omega, h2, h3, h4, h5, fun _ _ => by omega⟩
      · rw [hv, je0]
        exact ⟨e, Nat.le_refl e, by omega, rfl, rfl, hL, fun _ h => absurd h (by decide)⟩
def jNv (v u : Nat) : Prop := (u = v ∧ v ≤ 999) ∨ (v = 1000 ∧ 1000 ≤ u ∧ u ≤ 9999)
theorem l_numtok {N : Nat} {tb tp : Nat → Int32} {t : Nat} (ht : t ≤ 120) (hT : jTp tb tp t) (k st f : Int32) : ∀ (m e n v u : Nat), e + m = t → m < n → jNv v u → ∃ q v' u', e ≤ q ∧ q ≤ t ∧ lp_40_51_149 N tb n (nI t, k, st, nI e, nI v, f) = some (nI t, k, st, nI q, nI v', f) ∧ lp_201_63_197 N tp (nI t) n (nI e) (lN u) = some (nI q, lN u') ∧ jNv v' u' ∧ (e < t → v_200 (tp e) = 1 → e < q) := by
  intro m
  induction m with
  | zero =>
    intro e n v u he hn hv
    obtain rfl : e = t := by omega
    cases n with
    | zero => exact absurd hn (by omega)
    | succ n =>
      rw [lp_40_51_149, lp_201_63_197]
      dsimp only
      rw [jge e e rfl rfl (by omega) (by omega), decide_eq_true (Nat.le_refl e)]
      exact ⟨e, v, u, Nat.le_refl e, Nat.le_refl e, rfl, rfl, hv, fun h => absurd h (by omega)⟩
  | succ m ih =>
    intro e n v u he hn hvu
    cases n with
    | zero => exact absurd hn (by omega)
    | succ n =>
      obtain ⟨c, hc, e1, e2⟩ := hT e (by omega)
      obtain ⟨-, -, hb, -, hv, -⟩ := jbc0 ⟨c, hc⟩
      have hu : u ≤ 9999 := by rcases hvu with h | h <;> omega
      have hv1 : v ≤ 1000 := by rcases hvu with h | h <;> omega
      rw [lp_40_51_149, lp_201_63_197]
      dsimp only at hb hv ⊢
      rw [jge e t rfl rfl (by omega) (by omega), decide_eq_false (show ¬ t ≤ e by omega), jin (show e < 120 by omega) (by decide), jcl (show e < 2 ^ 31 by omega), e1, e2, hb, nI_1, show (999 : Int64) = lN 999 from rfl, jcmpL (by omega) (by decide)]
      rcases hv with ⟨hv, h48, h57, hbc⟩ | hv
      · rw [hv, je1, Bool.or_true, hbc]
        have hval : (if nI v * 10 + nI c - 48 < 1000 then nI v * 10 + nI c - 48 else 1000) = nI (if v * 10 + c - 48 < 1000 then v * 10 + c - 48 else 1000) := by
          rw [show (10 : Int32) = nI 10 from rfl, pk_mul, nI_add, show (48 : Int32) = nI 48 from rfl, pk_sub (by omega), show (1000 : Int32) = nI 1000 from rfl]
          by_cases h : v * 10 + c - 48 < 1000
          · rw [if_pos h, if_pos ((nI_ltI (by omega) (by decide)).mpr h)]
          · rw [if_neg h, if_neg (fun h2 => h ((nI_ltI (by omega) (by decide)).mp h2))]
        have hval2 : (bif decide (u ≤ 999) then (((lN u * 10) + (Int32.toInt64 (nI c))) - 48) else lN u) = lN (if u ≤ 999 then u * 10 + c - 48 else u) := by
          by_cases h : u ≤ 999
          · rw [decide_eq_true h, if_pos h, nI_l (by omega), show (10 : Int64) = lN 10 from rfl, lN_mul, lN_add, show (48 : Int64) = lN 48 from rfl, lN_sub (by omega)]
            rfl
          · rw [decide_eq_false h, if_neg h]; rfl
        rw [hval, hval2]
        obtain ⟨q, v', u', h1, h2, h3, h4, h5, h6⟩ := ih (e + 1) n (if v * 10 + c - 48 < 1000 then v * 10 + c - 48 else 1000) (if u ≤ 999 then u * 10 + c - 48 else u) (by omega) (by omega) (by
          rcases hvu with ⟨rfl, h⟩ | ⟨rfl, h, h'⟩
          · rw [if_pos h]
            by_cases h2 : u * 10 + c - 48 < 1000
            · rw [if_pos h2]; exact .inl ⟨rfl, by omega⟩
            · rw [if_neg h2]; exact .inr ⟨rfl, by omega, by omega⟩
          · rw [if_neg (show ¬ u ≤ 999 by omega), if_neg (by omega)]
            exact .inr ⟨rfl, h, h'⟩)
        exact ⟨q, v', u', by omega, h2, h3, h4, h5, fun _ _ => by omega⟩
      · rw [hv, je0]
        exact ⟨e, v, u, Nat.le_refl e, by omega, rfl, rfl, hvu, fun _ h => absurd h (by decide)⟩
/-- the same token stands in class and model -/
def jTk (tb tp : Nat → Int32) (t : Nat) (rq : hRq) (tk bg en : Int32) (vl : Int64) (b e : Nat) : Prop :=
  (rq.1 = nI t ∧ rq.2.2.1 = nI b ∧ bg = nI b ∧ rq.2.2.2.1 = nI e ∧ en = nI e ∧ b ≤ e ∧ e ≤ t) ∧
  ((rq.2.1 = 0 ∧ tk = 0) ∨
   (rq.2.1 = 1 ∧ tk = 1 ∧ b < e ∧ (∀ i, b ≤ i → i < e → 97 ≤ jby tp i ∧ jby tp i ≤ 122 ∧ tb i = nI (jby tp i)) ∧ vl = lN (jcap (jby tp) b (e - b))) ∨
   (rq.2.1 = 2 ∧ b < e ∧ ∃ v : Nat, v ≤ 1000 ∧ rq.2.2.2.2.1 = nI v ∧ ((tk = 2 ∧ v ≤ 999 ∧ vl = lN v) ∨ (tk = 4 ∧ v = 1000))) ∨
   (rq.2.1 = 3 ∧ tk = 3 ∧ b < e) ∨ (rq.2.1 = 4 ∧ tk = 5 ∧ b < e) ∨ (rq.2.1 = 5 ∧ tk = 4 ∧ b < e))
/-- to the next token -/
theorem m_adv {N : Nat} (hN : 4000 ≤ N) {tb tp : Nat → Int32} {t e0 : Nat} {rq : hRq} (ht : t ≤ 120) (hT : jTp tb tp t) (h1 : rq.1 = nI t) (h2 : rq.2.2.2.1 = nI e0) (h3 : e0 ≤ t) : ∃ rq' tk bg en vl b e, me_40_51 N tb rq = some rq' ∧ me_201_63 N tp (nI t) (nI e0) = some (tk, bg, en, vl) ∧ jTk tb tp t rq' tk bg en vl b e ∧ rq'.2.2.2.2.2 = rq.2.2.2.2.2 ∧ e0 ≤ b := by
  obtain ⟨a, k, st, nx, vl0, ft⟩ := rq
  dsimp only at h1 h2
  subst h1
  subst h2
  obtain ⟨q, g1, g2, g3, g4⟩ := l_skip (N := N) ht hT k st (vl0, ft) (t - e0) e0 N (by omega) (by omega)
  unfold me_40_51 me_201_63
  rw [g3, g4]
  simp only [Option.bind_some]
  by_cases hq : q < t
  · obtain ⟨c, hc, e1, e2⟩ := hT q hq
    obtain ⟨-, hb42, hb43, hv, hw, hs⟩ := jbc0 ⟨c, hc⟩
    dsimp only at hb42 hb43 hv hw hs
    rw [jlt q t rfl rfl (by omega) (by omega), decide_eq_true hq, jne q t rfl rfl (by omega) (by omega), decide_eq_false (show ¬ q = t by omega), jin (show q < 120 by omega) (by decide), jcl (show q < 2 ^ 31 by omega), e1, e2, hb42, hb43]
    simp only [Bool.or_true, Bool.not_false, cond_true]
    rcases hv with ⟨hv, -⟩ | hv
    · rw [hv, je1]
      obtain ⟨p, k1, k2, k3, k4, k5, k6⟩ := l_wordtok (N := N) (b := q) ht hT 1 (nI q) (vl0, ft) (t - q) q N (by omega) (by omega) (Nat.le_refl q) (fun i hi1 hi2 => absurd hi1 (by omega))
      have hlt := k6 hq (by rw [e1]; exact hv)
      rw [Nat.sub_self] at k4
      have k4' : lp_201_63_98 N tp (nI t) N (nI q) 0 = some (nI p, lN (jcap (jby tp) q (p - q))) := k4
      rw [k3, k4']
      exact ⟨_, _, _, _, _, q, p, rfl, rfl, ⟨⟨rfl, rfl, rfl, rfl, rfl, by omega, k2⟩, .inr (.inl ⟨rfl, rfl, hlt, k5, rfl⟩)⟩, rfl, g1⟩
    · rw [hv, je0]
      simp only [cond_true]
      rcases hw with ⟨hw, -⟩ | hw
      · rw [hw, je1]
        obtain ⟨p, v', u', k1, k2, k3, k4, k5, k6⟩ := l_numtok (N := N) ht hT 2 (nI q) ft (t - q) q N 0 0 (by omega) (by omega) (.inl ⟨rfl, by omega⟩)
        have hlt := k6 hq (by rw [e1]; exact hw)
        have hu' : u' ≤ 9999 := by rcases k5 with h | h <;> omega
        rw [show lp_40_51_149 N tb N (nI t, 2, nI q, nI q, 0, ft) = _ from k3, show lp_201_63_197 N tp (nI t) N (nI q) 0 = _ from k4]
        simp only [Option.bind_some, cond_false]
        rw [show (999 : Int64) = lN 999 from rfl, jcmpL (by omega) (by decide)]
        refine ⟨_, _, _, _, _, q, p, rfl, rfl, ⟨⟨rfl, rfl, rfl, rfl, rfl, by omega, k2⟩, .inr (.inr (.inl ⟨rfl, hlt, v', ?_, rfl, ?_⟩))⟩, rfl, g1⟩
        · rcases k5 with h | h <;> omega
        · rcases k5 with ⟨h5, h6⟩ | ⟨h5, h6, _⟩
          · left
            subst h5
            exact ⟨by rw [decide_eq_true h6]; rfl, h6, rfl⟩
          · right
            exact ⟨by rw [decide_eq_false (show ¬ u' ≤ 999 by omega)]; rfl, h5⟩
      · rw [hw, je0, nI_1]
        simp only [cond_true]
        rcases hs with ⟨s1, s2⟩ | ⟨s1, s2⟩ | ⟨s1, s2⟩
        · rw [s1, s2]
          exact ⟨_, _, _, _, _, q, q + 1, rfl, rfl, ⟨⟨rfl, rfl, rfl, rfl, rfl, by omega, by omega⟩, .inr (.inr (.inr (.inl ⟨rfl, rfl, by omega⟩)))⟩, rfl, g1⟩
        · rw [s1, s2]
          exact ⟨_, _, _, _, _, q, q + 1, rfl, rfl, ⟨⟨rfl, rfl, rfl, rfl, rfl, by omega, by omega⟩, .inr (.inr (.inr (.inr (.inl ⟨rfl, rfl, by omega⟩))))⟩, rfl, g1⟩
        · rw [s1, s2]
          exact ⟨_, _, _, _, _, q, q + 1, rfl, rfl, ⟨⟨rfl, rfl, rfl, rfl, rfl, by omega, by omega⟩, .inr (.inr (.inr (.inr (.inr ⟨rfl, rfl, by omega⟩))))⟩, rfl, g1⟩
  · obtain rfl : q = t := by omega
    rw [jlt q q rfl rfl (by omega) (by omega), decide_eq_false (show ¬ q < q by omega), jne q q rfl rfl (by omega) (by omega), decide_eq_true rfl]
    exact ⟨_, _, _, _, _, q, q, rfl, rfl, ⟨⟨rfl, rfl, rfl, rfl, rfl, by omega, by omega⟩, .inl ⟨rfl, rfl⟩⟩, rfl, g1⟩
