/-! THE SEARCH: the model's -/
def jmv (s : Nat → Int32) (k a : Nat) : Nat := if k < (s 3).toNatClampNeg then 61 * (jM s (nI k) (nI (a / 61), nI (a % 61))).1.toNatClampNeg + (jM s (nI k) (nI (a / 61), nI (a % 61))).2.toNatClampNeg else 0
def jQ0 (a : Nat) : jQ := (1, fun _ => (a, 0, 0, 0))
def jfull (s : Nat → Int32) (a : Nat) : jQ := jbf (jmv s) (s 3).toNatClampNeg 3722 0 (jQ0 a)
theorem jM_n (s : Nat → Int32) (x : Int32) (p : Int32 × Int32) : ∃ l r : Nat, l ≤ 60 ∧ r ≤ 60 ∧ jM s x p = (nI l, nI r) := by
  obtain ⟨h1, h2⟩ := jM_R s x p
  obtain ⟨l, hl, e1⟩ := jR_u 60 h1 (by decide)
  obtain ⟨r, hr, e2⟩ := jR_u 60 h2 (by decide)
  exact ⟨l, r, hl, hr, Prod.ext e1 e2⟩
theorem jmv_lt (s : Nat → Int32) : ∀ k a, jmv s k a < 3721 := by
  intro k a
  unfold jmv
  obtain ⟨l, r, hl, hr, e⟩ := jM_n s (nI k) (nI (a / 61), nI (a % 61))
  rw [e]
  dsimp only
  rw [jcl (by omega), jcl (by omega)]
  split <;> omega
theorem jmv_e {s : Nat → Int32} {k P : Nat} (h3 : s 3 = nI P) (hP : P ≤ 8) (hk : k < P) {a : Nat} : ∃ l r : Nat, l ≤ 60 ∧ r ≤ 60 ∧ jM s (nI k) (nI (a / 61), nI (a % 61)) = (nI l, nI r) ∧ jmv s k a = 61 * l + r := by
  obtain ⟨l, r, hl, hr, e⟩ := jM_n s (nI k) (nI (a / 61), nI (a % 61))
  refine ⟨l, r, hl, hr, e, ?_⟩
  unfold jmv
  rw [h3, jcl (show P < 2 ^ 31 by omega), if_pos hk, e]
  dsimp only
  rw [jcl (by omega), jcl (by omega)]
theorem jQ0_Inv (mv : Nat → Nat → Nat) (P a : Nat) : jInv mv P a (8 * 0 + 0) (jQ0 a) := by
  refine ⟨⟨Nat.one_pos, rfl⟩, ?_, ?_, ?_, ?_⟩
  · intro j h1 h2; exact absurd (show j < 1 from h2) (by omega)
  · intro j h1 h2; exact absurd (show j < 1 from h2) (by omega)
  · intro i j h1 h2 h3; exact absurd (show j < 1 from h3) (by omega)
  · intro t ht; exact absurd ht (by omega)
theorem jfull_Inv {s : Nat → Int32} {P a : Nat} (h3 : s 3 = nI P) (hP : P ≤ 8) (ha : a < 3721) : jInv (jmv s) P a (8 * (jfull s a).1) (jfull s a) := by
  obtain ⟨T, h1, h2⟩ := jbf_Inv (mv := jmv s) hP ha (jmv_lt s) 3722 0 3722 (jQ0 a) rfl (Nat.le_refl _) (jQ0_Inv _ _ _) (Nat.zero_le _)
  unfold jfull
  rw [h3, jcl (show P < 2 ^ 31 by omega)]
  rw [h2] at h1
  exact h1
theorem jT_dle {mv : Nat → Nat → Nat} {P a0 T : Nat} {Q : jQ} (h : jInv mv P a0 T Q) : ∀ j, j < Q.1 → (Q.2 j).2.1 ≤ j := by
  intro j
  induction j using Nat.strongRecOn with
  | ind j ih =>
    intro hj
    by_cases hj0 : j = 0
    · subst hj0
      rw [h.1.2]
      exact Nat.le_refl _
    · obtain ⟨g1, g2, g3, g4, g5, g6, g7⟩ := h.2.1 j (by omega) hj
      have := ih _ g3 (by omega)
      omega
theorem jT_ole {mv : Nat → Nat → Nat} {P a0 T : Nat} {Q : jQ} (h : jInv mv P a0 T Q) (hP : P ≤ 8) : ∀ j, j < Q.1 → (Q.2 j).2.2.1 < 8 := by
  intro j hj
  by_cases hj0 : j = 0
  · subst hj0
    rw [h.1.2]
    exact Nat.succ_pos 7
  · have := (jT_op h j (by omega) hj).1
    omega
theorem jex_old (mv : Nat → Nat → Nat) (i : Nat) : ∀ (m k : Nat) (Q : jQ), Q.1 ≤ (jex mv i m k Q).1 ∧ ∀ j, j < Q.1 → (jex mv i m k Q).2 j = Q.2 j := by
  intro m
  induction m with
  | zero => intro k Q; exact ⟨Nat.le_refl _, fun j _ => rfl⟩
  | succ m ih =>
    intro k Q
    obtain ⟨h1, h2⟩ := jvis_old Q (jnx mv i k Q)
    obtain ⟨h3, h4⟩ := ih (k + 1) (jvis Q (jnx mv i k Q))
    refine ⟨Nat.le_trans h1 h3, fun j hj => ?_⟩
    show (jex mv i m (k + 1) (jvis Q (jnx mv i k Q))).2 j = Q.2 j
    rw [h4 j (by omega), h2 j hj]
def jRm (Q : jQ) (fa od : Nat → Int32) (rc : Int32) : Prop := rc = nI Q.1 ∧ (∀ j, j < Q.1 → od j = nI (Q.2 j).1 ∧ fa (Q.2 j).1 = nI (Q.2 j).2.1) ∧ (∀ a, a < 3721 → (∀ j, j < Q.1 → (Q.2 j).1 ≠ a) → fa a = -1)
theorem j61 (l r : Nat) : 61 * nI l + nI r = nI (61 * l + r) := by
  rw [show (61 : Int32) = nI 61 from rfl, pk_mul, nI_add]
theorem jneg1 : gCmp .ge (-1 : Int32) 0 = false := by decide
/-- a place is come to -/
theorem jRm_vis {Q : jQ} {fa od : Nat → Int32} {rc : Int32} {l r d o c : Nat} (h : jRm Q fa od rc) (hl : l ≤ 60) (hr : r ≤ 60) (hd : ∀ j, j < Q.1 → (Q.2 j).2.1 ≤ j) (hn : (jvis Q (61 * l + r, d, o, c)).1 ≤ 3721) : jRm (jvis Q (61 * l + r, d, o, c)) (f_160_63_m_fa (nI l) (nI r) (nI d) fa) (f_160_63_m_od (nI l) (nI r) fa od rc) (f_160_63_m_rc (nI l) (nI r) fa rc) ∧ (gCmp .ge (fa (Int32.toNatClampNeg (61 * nI l + nI r))) 0 || gIn rc 3721) = true := by
  obtain ⟨rfl, h1, h2⟩ := h
  unfold f_160_63_m_fa f_160_63_m_od f_160_63_m_rc
  rw [j61, jcl (show 61 * l + r < 2 ^ 31 by omega)]
  unfold jvis at hn ⊢
  cases hq : jhas Q (61 * l + r)
  · simp only [hq, cond_false] at hn ⊢
    have hno := jhas_f hq
    rw [h2 _ (by omega) hno, jneg1, jcl (show Q.1 < 2 ^ 31 by omega), jin (show Q.1 < 3721 by omega) (by decide)]
    simp only [cond_false, nI_1]
    refine ⟨⟨rfl, ?_, ?_⟩, rfl⟩
    · intro j hj
      dsimp only at hj ⊢
      by_cases e : j = Q.1
      · subst e
        rw [if_pos rfl, pk_us, pk_us]
        exact ⟨rfl, rfl⟩
      · rw [if_neg e, pk_un e, pk_un (hno j (by omega))]
        exact h1 j (by omega)
    · intro a ha hne
      dsimp only at hne
      have hna : a ≠ 61 * l + r := by
        have := hne Q.1 (by omega)
        rw [if_pos rfl] at this
        exact fun e => this e.symm
      rw [pk_un hna]
      refine h2 a ha (fun j hj => ?_)
      have := hne j (by omega)
      rw [if_neg (by omega)] at this
      exact this
  · simp only [hq, cond_true] at hn ⊢
    obtain ⟨j, hj, e⟩ := jhas_t.mp hq
    have hdj := hd j hj
    have hge : gCmp .ge (fa (61 * l + r)) 0 = true := by
      rw [← e, (h1 j hj).2, jgel _ 0 rfl (by omega) (by decide)]
      exact decide_eq_true (Nat.zero_le _)
    rw [hge]
    exact ⟨⟨rfl, h1, h2⟩, rfl⟩
theorem l_112 {N : Nat} {s : Nat → Int32} {P a0 i a : Nat} (h3 : s 3 = nI P) (hP : P ≤ 8) (ha0 : a0 < 3721) (ha : a < 3721) : ∀ (m k n : Nat) (Q : jQ) (tl tr : Int32) (fa od : Nat → Int32) (rc : Int32), k + m = P → m < n → jInv (jmv s) P a0 (8 * i + k) Q → i < Q.1 → (Q.2 i).1 = a → jRm Q fa od rc → ∃ tl' tr' fa' od' rc', lp_161_63_112 N (nI a) (nI (a / 61)) (nI (a % 61)) s n (nI k) tl tr fa od rc = some (nI P, tl', tr', fa', od', rc') ∧ jRm (jex (jmv s) i m k Q) fa' od' rc' := by
  intro m
  induction m with
  | zero =>
    intro k n Q tl tr fa od rc hk hn hI hi hia hR
    obtain rfl : k = P := by omega
    cases n with
    | zero => exact absurd hn (by omega)
    | succ n =>
      rw [lp_161_63_112, h3, jge k k rfl rfl (by omega) (by omega), decide_eq_true (Nat.le_refl k)]
      exact ⟨_, _, _, _, _, rfl, hR⟩
  | succ m ih =>
    intro k n Q tl tr fa od rc hk hn hI hi hia hR
    cases n with
    | zero => exact absurd hn (by omega)
    | succ n =>
      obtain ⟨l, r, hl, hr, e1, e2⟩ := jmv_e h3 hP (show k < P by omega) (a := a)
      have e3 : f_136_63_m_tl (nI k) s (nI (a / 61)) (nI (a % 61)) = nI l := congrArg Prod.fst e1
      have e4 : f_136_63_m_tr (nI k) s (nI (a / 61)) (nI (a % 61)) = nI r := congrArg Prod.snd e1
      have hI2 := jInv_s hI hi (show k < P by omega) hP
      have hnx : jnx (jmv s) i k Q = (61 * l + r, (Q.2 i).2.1 + 1, bif Nat.beq i 0 then k else (Q.2 i).2.2.1, 8 * i + k) := by
        unfold jnx
        rw [hia, e2]
      have hb := (jInv_b hI2 ha0 (jmv_lt s)).2
      rw [hnx] at hb
      obtain ⟨hR2, hg⟩ := jRm_vis (o := bif Nat.beq i 0 then k else (Q.2 i).2.2.1) (c := 8 * i + k) hR hl hr (jT_dle hI) hb
      have hfa : fa (Int32.toNatClampNeg (nI a)) = nI (Q.2 i).2.1 := by rw [jcl (by omega), ← hia]; exact (hR.2.1 i hi).2
      have hk8 : k < 8 := by omega
      rw [lp_161_63_112, h3, jge k P rfl rfl (by omega) (by omega), decide_eq_false (show ¬ P ≤ k by omega), (j153_0 hk8).1, (j153_1 hk8).1, (j153_2 hk8).1, jin ha (by decide), e3, e4, hg, j61, jin (show 61 * l + r < 3721 by omega) (by decide), hfa, nI_1, nI_1]
      rw [← hnx] at hR2
      have hold := jvis_old Q (jnx (jmv s) i k Q)
      have := ih (k + 1) n (jvis Q (jnx (jmv s) i k Q)) (nI l) (nI r) _ _ _ (by omega) (by omega) hI2 (by omega) (by rw [hold.2 i hi]; exact hia) hR2
      exact this
/-- level, and so high -/
def jgl (h a : Nat) : Prop := a / 61 = a % 61 ∧ h ≤ a / 61
def jbest (h : Nat) (Q : jQ) (i : Nat) (y : Int32) : Prop := (y = -1 ∧ ∀ j, j < i → ¬ jgl h (Q.2 j).1) ∨ (∃ f, f < i ∧ y = nI (Q.2 f).2.1 ∧ jgl h (Q.2 f).1 ∧ ∀ j, j < f → ¬ jgl h (Q.2 j).1)
theorem jdm {a : Nat} (ha : a < 3721) : nI a / 61 = nI (a / 61) ∧ nI a - nI a / 61 * 61 = nI (a % 61) := ⟨pk_div (by omega) (by decide) (by decide), pk_rem (by omega) (by decide) (by decide)⟩
theorem l_45 {N : Nat} (hN : 4000 ≤ N) {s : Nat → Int32} {P a0 hh : Nat} (h3 : s 3 = nI P) (hP : P ≤ 8) (ha0 : a0 < 3721) (hh60 : hh ≤ 60) : ∀ (m i n : Nat) (Q : jQ) (y4 tl tr : Int32) (fa od : Nat → Int32) (rc : Int32), i + m = 3722 → m < n → jInv (jmv s) P a0 (8 * i + 0) Q → i ≤ Q.1 → jRm Q fa od rc → jbest hh Q i y4 → ∃ y4' w tl' tr' fa' od' rc', lp_161_63_45 N (nI hh) s n y4 (nI i) tl tr fa od rc = some (y4', w, tl', tr', fa', od', rc') ∧ jRm (jbf (jmv s) P m i Q) fa' od' rc' ∧ jbest hh (jbf (jmv s) P m i Q) (jbf (jmv s) P m i Q).1 y4' := by
  intro m
  induction m with
  | zero =>
    intro i n Q y4 tl tr fa od rc hi hn hI hiQ
    have := (jInv_b hI ha0 (jmv_lt s)).2
    omega
  | succ m ih =>
    intro i n Q y4 tl tr fa od rc hi hn hI hiQ hR hB
    cases n with
    | zero => exact absurd hn (by omega)
    | succ n =>
      obtain ⟨hb, hQ⟩ := jInv_b hI ha0 (jmv_lt s)
      have erc := hR.1
      rw [lp_161_63_45, jbf, erc, jge i Q.1 rfl rfl (by omega) (by omega)]
      by_cases hlt : i < Q.1
      · rw [if_pos hlt, decide_eq_false (show ¬ Q.1 ≤ i by omega)]
        have ha := hb i hlt
        obtain ⟨e1, e2⟩ := jdm ha
        obtain ⟨tl', tr', fa', od', rc', g1, g2⟩ := l_112 (N := N) h3 hP ha0 ha P 0 N Q tl tr fa od rc (by omega) (by omega) hI hlt rfl hR
        have hod := (hR.2.1 i hlt).1
        have hfa := (hR.2.1 i hlt).2
        have hd := jT_dle hI i hlt
        rw [erc] at g1
        have g1' : lp_161_63_112 N (nI (Q.2 i).1) (nI ((Q.2 i).1 / 61)) (nI ((Q.2 i).1 % 61)) s N 0 tl tr fa od (nI Q.1) = some (nI P, tl', tr', fa', od', rc') := g1
        rw [jcl (show i < 2 ^ 31 by omega), hod, e2, e1, jin (show i < 3721 by omega) (by decide), jin ha (by decide), g1', nI_1, jcl (show (Q.2 i).1 < 2 ^ 31 by omega), hfa, jne _ _ rfl rfl (show (Q.2 i).1 / 61 < 2 ^ 31 by omega) (show (Q.2 i).1 % 61 < 2 ^ 31 by omega), jlt _ _ rfl rfl (show (Q.2 i).1 / 61 < 2 ^ 31 by omega) (show hh < 2 ^ 31 by omega)]
        simp only [cond_false, cond_true, Bool.or_true, Option.bind_some]
        obtain ⟨hI2, hle⟩ := jex_Inv hP P 0 Q (by omega) hlt hI
        have hold := (jex_old (jmv s) i P 0 Q).2
        refine ih (i + 1) n _ _ _ _ _ _ _ (by omega) (by omega) (jInv_n hP hI2) (by omega) g2 ?_
        rcases hB with ⟨rfl, b1⟩ | ⟨f, b1, rfl, b2, b3⟩
        · rw [jneg1]
          simp only [cond_false]
          by_cases hg : jgl hh (Q.2 i).1
          · right
            refine ⟨i, by omega, ?_, ?_, ?_⟩
            · rw [hold i hlt, decide_eq_true hg.1, decide_eq_false (show ¬ (Q.2 i).1 / 61 < hh by have := hg.2; omega)]
              rfl
            · rw [hold i hlt]; exact hg
            · intro j hj
              rw [hold j (by omega)]
              exact b1 j hj
          · left
            refine ⟨?_, ?_⟩
            · by_cases k1 : (Q.2 i).1 / 61 = (Q.2 i).1 % 61
              · have k2 : (Q.2 i).1 / 61 < hh := by
                  by_cases k : (Q.2 i).1 / 61 < hh
                  · exact k
                  · exact absurd ⟨k1, by omega⟩ hg
                rw [decide_eq_true k1, decide_eq_true k2]
                rfl
              · rw [decide_eq_false k1]
                rfl
            · intro j hj
              rw [hold j (by omega)]
              by_cases e : j = i
              · subst e; exact hg
              · exact b1 j (by omega)
        · have hdf := jT_dle hI f (by omega)
          rw [jgel _ 0 rfl (show (Q.2 f).2.1 < 2 ^ 31 by omega) (by decide), decide_eq_true (Nat.zero_le _)]
          right
          refine ⟨f, by omega, ?_, ?_, ?_⟩
          · rw [hold f (by omega)]; rfl
          · rw [hold f (by omega)]; exact b2
          · intro j hj
            rw [hold j (by omega)]
            exact b3 j hj
      · rw [if_neg hlt, decide_eq_true (show Q.1 ≤ i by omega)]
        have : i = Q.1 := by omega
        subst this
        exact ⟨_, _, _, _, _, _, _, rfl, by rw [← erc]; exact hR, hB⟩
theorem l_fill161 {N : Nat} : ∀ (m i n : Nat) (fa : Nat → Int32), i + m = 3721 → m < n → (∀ j, j < i → fa j = -1) → ∃ fa', lp_161_63_3 N n (nI i) fa = some (nI 3721, fa') ∧ ∀ j, j < 3721 → fa' j = -1 := by
  intro m
  induction m with
  | zero =>
    intro i n fa hi hn h
    obtain rfl : i = 3721 := by omega
    cases n with
    | zero => exact absurd hn (by omega)
    | succ n =>
      rw [lp_161_63_3, jgel 3721 3721 rfl (by omega) (by omega)]
      exact ⟨_, rfl, h⟩
  | succ m ih =>
    intro i n fa hi hn h
    cases n with
    | zero => exact absurd hn (by omega)
    | succ n =>
      rw [lp_161_63_3, jgel i 3721 rfl (by omega) (by decide), decide_eq_false (show ¬ 3721 ≤ i by omega), jin (show i < 3721 by omega) (by decide), jcl (by omega), nI_1]
      refine ih (i + 1) n _ (by omega) (by omega) ?_
      intro j hj
      by_cases e : j = i
      · subst e; exact pk_us
      · rw [pk_un e]; exact h j (by omega)
/-- the model's search -/
theorem m_161 {N : Nat} (hN : 4000 ≤ N) {s : Nat → Int32} {P l r hh : Nat} (h3 : s 3 = nI P) (hP : P ≤ 8) (hl : l ≤ 60) (hr : r ≤ 60) (hh60 : hh ≤ 60) (tl tr : Int32) (fa od : Nat → Int32) : ∃ y tl' tr' fa' od' rc', me_161_63 N (nI l) (nI r) (nI hh) s tl tr fa od = some (y, tl', tr', fa', od', rc') ∧ jRm (jfull s (61 * l + r)) fa' od' rc' ∧ jbest hh (jfull s (61 * l + r)) (jfull s (61 * l + r)).1 y := by
  obtain ⟨fa1, g1, g2⟩ := l_fill161 (N := N) 3721 0 N fa rfl (by omega) (fun j hj => absurd hj (by omega))
  have hR0 : jRm (0, fun _ => (0, 0, 0, 0)) fa1 od 0 := ⟨rfl, fun j hj => absurd (show j < 0 from hj) (by omega), fun a ha _ => g2 a ha⟩
  have hv : jvis (0, fun _ => (0, 0, 0, 0)) (61 * l + r, 0, 0, 0) = (1, fun j => if j = 0 then (61 * l + r, 0, 0, 0) else (0, 0, 0, 0)) := rfl
  obtain ⟨hR1, hg⟩ := jRm_vis (l := l) (r := r) (d := 0) (o := 0) (c := 0) hR0 hl hr (fun j hj => absurd (show j < 0 from hj) (by omega)) (by rw [hv]; show 1 ≤ 3721; decide)
  have hR2 : jRm (jQ0 (61 * l + r)) (f_160_63_m_fa (nI l) (nI r) 0 fa1) (f_160_63_m_od (nI l) (nI r) fa1 od 0) (f_160_63_m_rc (nI l) (nI r) fa1 0) := by
    rw [hv] at hR1
    obtain ⟨k1, k2, k3⟩ := hR1
    refine ⟨k1, ?_, ?_⟩
    · intro j hj
      obtain rfl : j = 0 := by have : j < 1 := hj; omega
      exact k2 0 (show 0 < 1 by omega)
    · intro a ha hne
      refine k3 a ha (fun j hj => ?_)
      obtain rfl : j = 0 := by have : j < 1 := hj; omega
      exact hne 0 (show 0 < 1 by omega)
  obtain ⟨y, w, tl', tr', fa', od', rc', g3, g4, g5⟩ := l_45 hN (s := s) (hh := hh) h3 hP (show 61 * l + r < 3721 by omega) hh60 3722 0 N (jQ0 (61 * l + r)) (-1) tl tr _ _ _ rfl (by omega) (jQ0_Inv _ _ _) (Nat.zero_le _) hR2 (.inl ⟨rfl, fun j hj => absurd hj (by omega)⟩)
  refine ⟨y, tl', tr', fa', od', rc', ?_, ?_, ?_⟩
  · unfold me_161_63
    rw [show lp_161_63_3 N N 0 fa = _ from g1]
    simp only [Option.bind_some]
    rw [show (gCmp .ge (fa1 (Int32.toNatClampNeg (61 * nI l + nI r))) 0 || gIn 0 3721) = true from hg, j61, jin (show 61 * l + r < 3721 by omega) (by decide), show lp_161_63_45 N (nI hh) s N (-1) 0 tl tr (f_160_63_m_fa (nI l) (nI r) 0 fa1) (f_160_63_m_od (nI l) (nI r) fa1 od 0) (f_160_63_m_rc (nI l) (nI r) fa1 0) = _ from g3]
    rfl
  · unfold jfull
    rw [h3, jcl (show P < 2 ^ 31 by omega)]
    exact g4
  · unfold jfull
    rw [h3, jcl (show P < 2 ^ 31 by omega)]
    exact g5
