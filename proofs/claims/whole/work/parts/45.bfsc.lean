/-! THE SEARCH: the class's -/
def jab (a : Nat) : Nat := (a / 61 - a % 61) + (a % 61 - a / 61)
def jwd (F : Nat → Nat × Nat × Nat × Nat) : Nat → Nat
  | 0 => 0
  | n + 1 => if jwd F n < jab (F n).1 then jab (F n).1 else jwd F n
theorem jwd_le {F : Nat → Nat × Nat × Nat × Nat} : ∀ n, (∀ j, j < n → (F j).1 < 3721) → jwd F n ≤ 60 := by
  intro n
  induction n with
  | zero => intro _; exact Nat.zero_le _
  | succ n ih =>
    intro h
    have h1 := ih (fun j hj => h j (by omega))
    have h2 := h n (by omega)
    rw [jwd]
    unfold jab
    split <;> omega
theorem jwd_ext {F G : Nat → Nat × Nat × Nat × Nat} : ∀ n, (∀ j, j < n → F j = G j) → jwd F n = jwd G n := by
  intro n
  induction n with
  | zero => intro _; rfl
  | succ n ih =>
    intro h
    rw [jwd, jwd, ih (fun j hj => h j (by omega)), h n (by omega)]
def jpk (e : Nat × Nat × Nat × Nat) : Nat := 32768 * e.2.1 + 4096 * e.2.2.1 + 64 * (e.1 / 61) + e.1 % 61
def jRc (Q : jQ) (pr wd : Int32) (sn : Nat → Int64) (qu : Nat → Int32) : Prop := pr = nI Q.1 ∧ (∀ j, j < Q.1 → qu j = nI (jpk (Q.2 j))) ∧ (∀ l r, l < 61 → r < 61 → ((sn l).toBitVec.getLsbD r = true ↔ ∃ j, j < Q.1 ∧ (Q.2 j).1 = 61 * l + r)) ∧ wd = nI (jwd Q.2 Q.1)
theorem jsh1 : ∀ r, r < 61 → ((1 : Int64) <<< (Int32.toInt64 (nI r) &&& 63)).toBitVec = BitVec.twoPow 64 r := by
  have : ∀ r : Fin 61, ((1 : Int64) <<< (Int32.toInt64 (nI r.val) &&& 63)).toBitVec = BitVec.twoPow 64 r.val := by decide +kernel
  exact fun r hr => this ⟨r, hr⟩
theorem jcmp (v : Int64) : gCmp .ne (lg_cmp v 0) 0 = !decide (v = 0) := by
  unfold lg_cmp
  by_cases h1 : v > 0
  · rw [if_pos h1, decide_eq_false (show ¬ v = 0 from fun e => by subst e; exact absurd h1 (by decide))]
    rfl
  · rw [if_neg h1]
    by_cases h2 : v = 0
    · rw [if_pos h2, decide_eq_true h2]; rfl
    · rw [if_neg h2, decide_eq_false h2]; rfl
theorem jbit (x : Int64) {r : Nat} (hr : r < 61) : gCmp .ne (lg_cmp (x &&& ((1 : Int64) <<< (Int32.toInt64 (nI r) &&& 63))) 0) 0 = x.toBitVec.getLsbD r := by
  rw [jcmp]
  have e : (x &&& ((1 : Int64) <<< (Int32.toInt64 (nI r) &&& 63))).toBitVec = x.toBitVec &&& BitVec.twoPow 64 r := by
    rw [← jsh1 r hr]; rfl
  rw [BitVec.and_twoPow] at e
  cases hx : x.toBitVec.getLsbD r
  · rw [hx] at e
    have : x &&& ((1 : Int64) <<< (Int32.toInt64 (nI r) &&& 63)) = 0 := Int64.toBitVec.inj e
    rw [decide_eq_true this]; rfl
  · rw [hx] at e
    have : ¬ x &&& ((1 : Int64) <<< (Int32.toInt64 (nI r) &&& 63)) = 0 := by
      intro h
      rw [h] at e
      have h2 := congrArg (fun v => v.getLsbD r) e
      rw [if_pos rfl] at h2
      have h3 : (BitVec.twoPow 64 r).getLsbD r = true := by
        rw [BitVec.getLsbD_twoPow]
        simp only [decide_true, Bool.and_true, decide_eq_true_eq]
        omega
      rw [h3] at h2
      exact absurd h2 (by
        show ¬ (0#64).getLsbD r = true
        rw [BitVec.getLsbD_zero]
        decide)
    rw [decide_eq_false this]; rfl
theorem jbor (x : Int64) {r q : Nat} (hr : r < 61) (hq : q < 61) : (x ||| ((1 : Int64) <<< (Int32.toInt64 (nI r) &&& 63))).toBitVec.getLsbD q = true ↔ (x.toBitVec.getLsbD q = true ∨ r = q) := by
  have e : (x ||| ((1 : Int64) <<< (Int32.toInt64 (nI r) &&& 63))).toBitVec = x.toBitVec ||| BitVec.twoPow 64 r := by
    rw [← jsh1 r hr]; rfl
  rw [e, BitVec.getLsbD_or, BitVec.getLsbD_twoPow, Bool.or_eq_true, Bool.and_eq_true, decide_eq_true_eq, decide_eq_true_eq]
  constructor
  · rintro (h | ⟨_, h⟩)
    · exact .inl h
    · exact .inr h
  · rintro (h | h)
    · exact .inl h
    · exact .inr ⟨by omega, h⟩
theorem jor (a b k : Nat) (h : a < 2 ^ k) : nI (2 ^ k * b) ||| nI a = nI (2 ^ k * b + a) := by
  have e : nI (2 ^ k * b) ||| nI a = nI (2 ^ k * b ||| a) := by
    apply Int32.toBitVec.inj
    show BitVec.ofNat 32 (2 ^ k * b) ||| BitVec.ofNat 32 a = BitVec.ofNat 32 (2 ^ k * b ||| a)
    apply BitVec.eq_of_toNat_eq
    simp only [BitVec.toNat_or, BitVec.toNat_ofNat, Nat.or_mod_two_pow]
  rw [e, Nat.two_pow_add_eq_or_of_lt h]
theorem jpack {d o l r : Nat} (hd : d ≤ 3721) (ho : o < 8) (hl : l < 61) (hr : r < 61) : (((nI d <<< ((15 : Int32) &&& 31)) ||| (nI o <<< ((12 : Int32) &&& 31))) ||| (nI l <<< ((6 : Int32) &&& 31))) ||| nI r = nI (32768 * d + 4096 * o + 64 * l + r) := by
  rw [pk_shlN (n := d) ((15 : Int32) &&& 31) 15 (by decide) (by omega), pk_shlN (n := o) ((12 : Int32) &&& 31) 12 (by decide) (by omega), pk_shlN (n := l) ((6 : Int32) &&& 31) 6 (by decide) (by omega)]
  rw [show d * 2 ^ 15 = 2 ^ 15 * d by omega, jor _ d 15 (by omega), show 2 ^ 15 * d + o * 2 ^ 12 = 2 ^ 12 * (8 * d + o) by omega, jor _ _ 12 (by omega), show 2 ^ 12 * (8 * d + o) + l * 2 ^ 6 = 2 ^ 6 * (64 * (8 * d + o) + l) by omega, jor _ _ 6 (by omega)]
  congr 1
  omega
theorem jupk {qu : Nat → Int32} {j : Nat} {e : Nat × Nat × Nat × Nat} (hj : j < 3721) (h : qu j = nI (jpk e)) (hd : e.2.1 ≤ 3721) (ho : e.2.2.1 < 8) (ha : e.1 < 3721) : v_47_28 (nI j) qu = nI (e.1 / 61) ∧ v_48_28 (nI j) qu = nI (e.1 % 61) ∧ v_49_28 (nI j) qu = nI e.2.2.1 ∧ v_50_28 (nI j) qu = nI e.2.1 := by
  unfold v_47_28 v_48_28 v_49_28 v_50_28
  unfold jpk at h
  rw [jcl (by omega), h]
  rw [pk_shrN (n := 32768 * e.2.1 + 4096 * e.2.2.1 + 64 * (e.1 / 61) + e.1 % 61) (by omega) ((6 : Int32) &&& 31) 6 (by decide), pk_shrN (n := 32768 * e.2.1 + 4096 * e.2.2.1 + 64 * (e.1 / 61) + e.1 % 61) (by omega) ((12 : Int32) &&& 31) 12 (by decide), pk_shrN (n := 32768 * e.2.1 + 4096 * e.2.2.1 + 64 * (e.1 / 61) + e.1 % 61) (by omega) ((15 : Int32) &&& 31) 15 (by decide)]
  rw [pk_andN (m := 63) (by omega) 6 rfl, pk_andN (m := 63) (by omega) 6 rfl, pk_andN (m := 7) (by omega) 3 rfl]
  have hx : e.1 / 61 ≤ 60 := by omega
  have hy : e.1 % 61 < 61 := by omega
  generalize e.1 / 61 = x at hx ⊢
  generalize e.1 % 61 = y at hy ⊢
  have q3 : (32768 * e.2.1 + 4096 * e.2.2.1 + 64 * x + y) / 2 ^ 12 = 8 * e.2.1 + e.2.2.1 := by omega
  have q1 : (32768 * e.2.1 + 4096 * e.2.2.1 + 64 * x + y) / 2 ^ 6 = 512 * e.2.1 + 64 * e.2.2.1 + x := by omega
  rw [q3, q1]
  refine ⟨?_, ?_, ?_, ?_⟩
  · congr 1; omega
  · congr 1; omega
  · congr 1; omega
  · congr 1; omega
theorem j15n {l r : Nat} (hl : l ≤ 60) (hr : r ≤ 60) (e : jE) : v_15_40 (nI l, nI r, e) = nI (jab (61 * l + r)) := by
  show (if 0 ≤ nI l - nI r then nI l - nI r else 0 - (nI l - nI r)) = _
  unfold jab
  rw [show (61 * l + r) / 61 = l by omega, show (61 * l + r) % 61 = r by omega, j126]
  unfold v_126 gCmp
  have hs := pk_sub_toInt (a := l) (b := r) (by omega) (by omega)
  have e0 : (0 : Int32).toInt = 0 := rfl
  by_cases h : r ≤ l
  · rw [show decide (0 ≤ nI l - nI r) = true from decide_eq_true (by rw [Int32.le_iff_toInt_le, e0, hs]; omega), show r - l = 0 by omega]
    exact pk_sub h
  · rw [show decide (0 ≤ nI l - nI r) = false from decide_eq_false (by rw [Int32.le_iff_toInt_le, e0, hs]; omega), show l - r = 0 by omega, Nat.zero_add]
    show -(nI l - nI r) = _
    rw [Int32.neg_sub]
    exact pk_sub (by omega)
theorem jRc_vis {Q : jQ} {pr wd : Int32} {sn : Nat → Int64} {qu : Nat → Int32} {l r d o c : Nat} (e : jE) (h : jRc Q pr wd sn qu) (hl : l ≤ 60) (hr : r ≤ 60) (hd : d ≤ 3721) (ho : o < 8) (hn : (jvis Q (61 * l + r, d, o, c)).1 ≤ 3721) (hb : ∀ j, j < Q.1 → (Q.2 j).1 < 3721) : jRc (jvis Q (61 * l + r, d, o, c)) (f_46_28_pr (nI l, nI r, e) pr sn) (f_46_28_wd (nI l, nI r, e) pr wd sn) (f_46_28_sn (nI l, nI r, e) pr sn) (f_46_28_qu (nI d) (nI o) (nI l, nI r, e) pr sn qu) ∧ (gCmp .ne (lg_cmp ((sn (Int32.toNatClampNeg (nI l))) &&& ((1 : Int64) <<< (Int32.toInt64 (nI r) &&& 63))) 0) 0 || (!(gCmp .lt pr 3721) || gIn pr 3721)) = true := by
  obtain ⟨rfl, h1, h2, rfl⟩ := h
  unfold f_46_28_pr f_46_28_wd f_46_28_sn f_46_28_qu
  dsimp only
  rw [jcl (show l < 2 ^ 31 by omega), jbit _ (show r < 61 by omega), j15n hl hr e]
  have hbit := h2 l r (by omega) (by omega)
  unfold jvis at hn ⊢
  cases hq : jhas Q (61 * l + r)
  · simp only [hq, cond_false] at hn ⊢
    have hno := jhas_f hq
    have hg : (sn l).toBitVec.getLsbD r = false := by
      cases hx : (sn l).toBitVec.getLsbD r
      · rfl
      · obtain ⟨j, hj, ej⟩ := hbit.mp hx
        exact absurd ej (hno j hj)
    rw [hg, jltl Q.1 3721 rfl (by omega) (by decide), decide_eq_true (show Q.1 < 3721 by omega), jin (show Q.1 < 3721 by omega) (by decide), jcl (show Q.1 < 2 ^ 31 by omega), jpack hd ho (by omega) (by omega), nI_1]
    simp only [cond_false, cond_true]
    refine ⟨⟨rfl, ?_, ?_, ?_⟩, rfl⟩
    · intro j hj
      dsimp only at hj ⊢
      by_cases ej : j = Q.1
      · subst ej
        rw [if_pos rfl, pk_us]
        unfold jpk
        dsimp only
        rw [show (61 * l + r) / 61 = l by omega, show (61 * l + r) % 61 = r by omega]
      · rw [if_neg ej, pk_un ej]
        exact h1 j (by omega)
    · intro l' r' hl' hr'
      dsimp only
      by_cases el : l' = l
      · subst el
        rw [pk_uLs, jbor _ (by omega) hr', h2 l' r' hl' hr']
        constructor
        · rintro (⟨j, hj, ej⟩ | rfl)
          · exact ⟨j, by omega, by rw [if_neg (by omega)]; exact ej⟩
          · exact ⟨Q.1, by omega, by rw [if_pos rfl]⟩
        · rintro ⟨j, hj, ej⟩
          by_cases eq : j = Q.1
          · rw [if_pos eq] at ej
            right
            dsimp only at ej
            omega
          · rw [if_neg eq] at ej
            exact .inl ⟨j, by omega, ej⟩
      · rw [pk_uLn el, h2 l' r' hl' hr']
        constructor
        · rintro ⟨j, hj, ej⟩
          exact ⟨j, by omega, by rw [if_neg (by omega)]; exact ej⟩
        · rintro ⟨j, hj, ej⟩
          by_cases eq : j = Q.1
          · rw [if_pos eq] at ej
            dsimp only at ej
            omega
          · rw [if_neg eq] at ej
            exact ⟨j, by omega, ej⟩
    · have hw := jwd_le (F := Q.2) Q.1 hb
      show (if nI (jwd Q.2 Q.1) < nI (jab (61 * l + r)) then nI (jab (61 * l + r)) else nI (jwd Q.2 Q.1)) = nI (jwd (fun j => if j = Q.1 then (61 * l + r, d, o, c) else Q.2 j) (Q.1 + 1))
      have hja : jab (61 * l + r) ≤ 60 := by unfold jab; omega
      rw [jwd, if_pos rfl, jwd_ext (G := Q.2) Q.1 (fun j hj => if_neg (by omega))]
      by_cases hlt : jwd Q.2 Q.1 < jab (61 * l + r)
      · rw [if_pos hlt, if_pos ((nI_ltI (by omega) (by omega)).mpr hlt)]
      · rw [if_neg hlt, if_neg (fun h3 => hlt ((nI_ltI (by omega) (by omega)).mp h3))]
  · simp only [hq, cond_true] at hn ⊢
    obtain ⟨j, hj, ej⟩ := jhas_t.mp hq
    rw [hbit.mpr ⟨j, hj, ej⟩]
    exact ⟨⟨rfl, h1, h2, rfl⟩, rfl⟩
theorem l_85 {N : Nat} {b : hB} {e : jE} {s : Nat → Int32} {P a0 i a : Nat} {u v : Int32} (hC : jC (u, v, e) s) (hG : jG s) (h3 : s 3 = nI P) (hb3 : b.2.2.2.2.1 = nI P) (hP : P ≤ 8) (ha0 : a0 < 3721) (ha : a < 3721) (hi37 : i < 3721) : ∀ (m k n : Nat) (Q : jQ) (w : hB) (pr wd : Int32) (sn : Nat → Int64) (qu : Nat → Int32), k + m = P → m < n → w.2.2 = e → jInv (jmv s) P a0 (8 * i + k) Q → i < Q.1 → (Q.2 i).1 = a → jRc Q pr wd sn qu → ∃ w' pr' wd' sn' qu', lp_45_28_1_85 N (nI i) b n (nI k) w pr wd sn qu = some (nI P, w', pr', wd', sn', qu') ∧ w'.2.2 = e ∧ jRc (jex (jmv s) i m k Q) pr' wd' sn' qu' := by
  intro m
  induction m with
  | zero =>
    intro k n Q w pr wd sn qu hk hn hw hI hi hia hR
    obtain rfl : k = P := by omega
    cases n with
    | zero => exact absurd hn (by omega)
    | succ n =>
      rw [lp_45_28_1_85, hb3, jge k k rfl rfl (by omega) (by omega), decide_eq_true (Nat.le_refl k)]
      exact ⟨_, _, _, _, _, rfl, hw, hR⟩
  | succ m ih =>
    intro k n Q w pr wd sn qu hk hn hw hI hi hia hR
    cases n with
    | zero => exact absurd hn (by omega)
    | succ n =>
      obtain ⟨l, r, hl, hr, e1, e2⟩ := jmv_e h3 hP (show k < P by omega) (a := a)
      have hI2 := jInv_s hI hi (show k < P by omega) hP
      have hdi := jT_dle hI i hi
      have hoi := jT_ole hI hP i hi
      obtain ⟨d1, d2, d3, d4⟩ := jupk hi37 (hR.2.1 i hi) (by omega) hoi (by rw [hia]; exact ha)
      have hnx : jnx (jmv s) i k Q = (61 * l + r, (Q.2 i).2.1 + 1, bif Nat.beq i 0 then k else (Q.2 i).2.2.1, 8 * i + k) := by
        unfold jnx
        rw [hia, e2]
      have hb := (jInv_b hI2 ha0 (jmv_lt s)).2
      rw [hnx] at hb
      have hk8 : k < 8 := by omega
      have hop : (bif Nat.beq i 0 then k else (Q.2 i).2.2.1) < 8 := by
        cases Nat.beq i 0
        · exact hoi
        · exact hk8
      obtain ⟨hR2, hg⟩ := jRc_vis (d := (Q.2 i).2.1 + 1) (o := bif Nat.beq i 0 then k else (Q.2 i).2.2.1) (c := 8 * i + k) e hR hl hr (by omega) hop hb (jInv_b hI ha0 (jmv_lt s)).1
      have h18 : f_18_40_w (nI k) (v_47_28 (nI i) qu, v_48_28 (nI i) qu, w.2.2) = (nI l, nI r, e) := by
        rw [d1, d2, hia, hw]
        have h := j18d hC hG hk8 (nI (a / 61), nI (a % 61))
        rw [e1] at h
        exact h
      have hbe : (bif gCmp .ne (nI i) 0 then nI (Q.2 i).2.2.1 else nI k) = nI (bif Nat.beq i 0 then k else (Q.2 i).2.2.1) := by
        rw [jnel i 0 rfl (by omega) (by decide)]
        by_cases h0 : i = 0
        · rw [jbt h0, decide_eq_true h0]; rfl
        · rw [jbn h0, decide_eq_false h0]; rfl
      rw [lp_45_28_1_85, hb3, jge k P rfl rfl (by omega) (by omega), decide_eq_false (show ¬ P ≤ k by omega), jin (show i < 3721 by omega) (by decide), jin (n := 8) hk8 (by decide), h18, d3, d4, hbe, nI_1, nI_1, jin (show l < 61 by omega) (by decide), hg, Bool.or_true]
      rw [← hnx] at hR2
      have hold := jvis_old Q (jnx (jmv s) i k Q)
      exact ih (k + 1) n (jvis Q (jnx (jmv s) i k Q)) (nI l, nI r, e) _ _ _ _ (by omega) (by omega) rfl hI2 (by omega) (by rw [hold.2 i hi]; exact hia) hR2
theorem l_66 {N : Nat} (hN : 4000 ≤ N) {b : hB} {e : jE} {s : Nat → Int32} {P a0 : Nat} {u v : Int32} (hC : jC (u, v, e) s) (hG : jG s) (h3 : s 3 = nI P) (hb3 : b.2.2.2.2.1 = nI P) (hP : P ≤ 8) (ha0 : a0 < 3721) : ∀ (m i n : Nat) (Q : jQ) (w : hB) (pr wd : Int32) (sn : Nat → Int64) (qu : Nat → Int32), i + m = 3722 → m < n → w.2.2 = e → jInv (jmv s) P a0 (8 * i + 0) Q → i ≤ Q.1 → jRc Q pr wd sn qu → ∃ y w' pr' wd' sn' qu', lp_45_28_1_66 N b n (nI i) w pr wd sn qu = some (y, w', pr', wd', sn', qu') ∧ jRc (jbf (jmv s) P m i Q) pr' wd' sn' qu' := by
  intro m
  induction m with
  | zero =>
    intro i n Q w pr wd sn qu hi hn hw hI hiQ
    have := (jInv_b hI ha0 (jmv_lt s)).2
    omega
  | succ m ih =>
    intro i n Q w pr wd sn qu hi hn hw hI hiQ hR
    cases n with
    | zero => exact absurd hn (by omega)
    | succ n =>
      obtain ⟨hb, hQ⟩ := jInv_b hI ha0 (jmv_lt s)
      have epr := hR.1
      rw [lp_45_28_1_66, jbf, epr, jge i Q.1 rfl rfl (by omega) (by omega), jgel i 3721 rfl (by omega) (by decide)]
      by_cases hlt : i < Q.1
      · rw [if_pos hlt, decide_eq_false (show ¬ Q.1 ≤ i by omega), decide_eq_false (show ¬ 3721 ≤ i by omega)]
        obtain ⟨w', pr', wd', sn', qu', g1, g2, g3⟩ := l_85 (N := N) hC hG h3 hb3 hP ha0 (hb i hlt) (show i < 3721 by omega) P 0 N Q w pr wd sn qu (by omega) (by omega) hw hI hlt rfl hR
        rw [epr] at g1
        have g1' : lp_45_28_1_85 N (nI i) b N 0 w (nI Q.1) wd sn qu = some (nI P, w', pr', wd', sn', qu') := g1
        rw [g1', nI_1]
        simp only [cond_false, Option.bind_some]
        obtain ⟨hI2, hle⟩ := jex_Inv hP P 0 Q (by omega) hlt hI
        exact ih (i + 1) n _ _ _ _ _ _ (by omega) (by omega) g2 (jInv_n hP hI2) (by omega) g3
      · rw [if_neg hlt, decide_eq_true (show Q.1 ≤ i by omega)]
        exact ⟨_, _, _, _, _, _, rfl, by rw [← epr]; exact hR⟩
theorem l_fill6 {N : Nat} : ∀ (m i n : Nat) (sn : Nat → Int64), i + m = 61 → m < n → (∀ j, j < i → sn j = 0) → ∃ sn', lp_6_29_6 N 0 61 n (nI i) sn = some (nI 61, sn') ∧ ∀ j, j < 61 → sn' j = 0 := by
  intro m
  induction m with
  | zero =>
    intro i n sn hi hn h
    obtain rfl : i = 61 := by omega
    cases n with
    | zero => exact absurd hn (by omega)
    | succ n => exact ⟨_, rfl, h⟩
  | succ m ih =>
    intro i n sn hi hn h
    cases n with
    | zero => exact absurd hn (by omega)
    | succ n =>
      rw [lp_6_29_6, jgel i 61 rfl (by omega) (by decide), decide_eq_false (show ¬ 61 ≤ i by omega), jin (show i < 61 by omega) (by decide), jcl (by omega), nI_1]
      refine ih (i + 1) n _ (by omega) (by omega) ?_
      intro j hj
      by_cases e : j = i
      · subst e; exact pk_uLs
      · rw [pk_uLn e]; exact h j (by omega)
