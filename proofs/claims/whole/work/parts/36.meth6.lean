theorem l_light0 {N : Nat} {s : Nat → Int32} (hG : jG s) (u : Int32) : ∀ (m i n : Nat) (y : Int32), i + m = 24 → m < n → ∃ w, lp_179_63_21 N u s n y 0 (nI i) = some (w, 0, nI 24) := by
  intro m
  induction m with
  | zero =>
    intro i n y hi hn
    obtain rfl : i = 24 := by omega
    cases n with
    | zero => exact absurd hn (by omega)
    | succ n => exact ⟨y, rfl⟩
  | succ m ih =>
    intro i n y hi hn
    cases n with
    | zero => exact absurd hn (by omega)
    | succ n =>
      rw [lp_179_63_21, jgel i 24 rfl (by omega) (by decide), decide_eq_false (show ¬ 24 ≤ i by omega), (joff 100 rfl (show 100 + i < 134 by omega)).1, nI_1]
      exact ih (i + 1) n _ (by omega) (by omega)
theorem jcut {a c : Nat} (ha : a ≤ 60) (hc : c ≤ 60) : (bif gCmp .le (nI a - nI c) 0 then 0 else (nI a - nI c)) = nI (a - c) := by
  by_cases h : c ≤ a
  · rw [pk_sub h, jlel (a - c) 0 rfl (by omega) (by decide)]
    by_cases h2 : a - c ≤ 0
    · rw [decide_eq_true h2, show a - c = 0 by omega]; rfl
    · rw [decide_eq_false h2]; rfl
  · have h2 : gCmp .le (nI a - nI c) 0 = true := by
      refine decide_eq_true ?_
      rw [Int32.le_iff_toInt_le, pk_sub_toInt (by omega) (by omega)]
      show (a : Int) - c ≤ 0
      omega
    rw [h2, show a - c = 0 by omega]; rfl
theorem l_light {N : Nat} {e : jE} {s : Nat → Int32} {x y : Int32} (hC : jC (x, y, e) s) (hG : jG s) {h : Nat} (hh : h ≤ 60) : ∀ (m i n t : Nat), t ≤ 120 * i → i + m = 24 → m < n → ∃ q w g, lp_26_10_4 N (nI h, nI h, e) n (nI t) (nI i) = some q ∧ lp_179_63_21 N (nI h) s n (nI t) 1 (nI i) = some (w, g, nI 24) ∧ ((g = 0 ∧ q = -1) ∨ (g = 1 ∧ q = w ∧ ∃ t' : Nat, t' ≤ 2880 ∧ w = nI t')) := by
  intro m
  induction m with
  | zero =>
    intro i n t ht hi hn
    obtain rfl : i = 24 := by omega
    cases n with
    | zero => exact absurd hn (by omega)
    | succ n => exact ⟨_, _, _, rfl, rfl, .inr ⟨rfl, rfl, t, by omega, rfl⟩⟩
  | succ m ih =>
    intro i n t ht hi hn
    cases n with
    | zero => exact absurd hn (by omega)
    | succ n =>
      obtain ⟨c, hc, ec⟩ := jR_u 60 (hG.2.2.2.2.2.1 i (by omega)) (by decide)
      have h24 : v_24_10 (nI i) (nI h, nI h, e) = v_175_63 (nI i) (nI h) s := j24 (b := (nI h, nI h, e)) hC (by omega)
      have h25 : v_25_10 (nI i) (nI h, nI h, e) = v_176_63 (nI i) (nI h) (nI h) s := j25 (b := (nI h, nI h, e)) hC (by omega)
      have h26 : v_176_63 (nI i) (nI h) (nI h) s = nI ((h - c) + (h - c)) := by
        unfold v_176_63
        rw [(joff 100 rfl (show 100 + i < 134 by omega)).2, ec, jcut hh hc, nI_add]
      rw [lp_26_10_4, lp_179_63_21, jgel i 24 rfl (by omega) (by decide), decide_eq_false (show ¬ 24 ≤ i by omega), (joff 100 rfl (show 100 + i < 134 by omega)).1, nI_1, h24, h25, h26, jin (show i < 24 by omega) (by decide), nI_add]
      rcases (show v_175_63 (nI i) (nI h) s = 0 ∨ v_175_63 (nI i) (nI h) s = 1 from by
        unfold v_175_63
        cases gCmp .le (nI h) (s (Int32.toNatClampNeg (100 + nI i)))
        · cases gCmp .lt (s (Int32.toNatClampNeg (100 + nI i))) (s 10)
          · exact .inr rfl
          · exact .inl rfl
        · exact .inl rfl) with hv | hv
      · rw [hv]
        exact ih (i + 1) n _ (by omega) (by omega) (by omega)
      · rw [hv]
        obtain ⟨w, hw⟩ := l_light0 (N := N) hG (nI h) m (i + 1) n (nI (t + ((h - c) + (h - c)))) (by omega) (by omega)
        exact ⟨-1, w, 0, rfl, hw, .inl ⟨rfl, rfl⟩⟩
theorem l_best {N : Nat} (hN : 4000 ≤ N) {e : jE} {s : Nat → Int32} {x y : Int32} (hC : jC (x, y, e) s) (hG : jG s) : ∀ (m i n : Nat) (y1 y2 : Int32) (d : hB), d.2.2 = e → (y1 = -1 ∨ ∃ t : Nat, t ≤ 2880 ∧ y1 = nI t) → i + m = 61 → m < n → ∃ w1 w2 w3 d' , lp_88_0_17 N n y1 y2 (nI i) d = some (w1, w2, w3, d') ∧ lp_179_63_6 N s n y2 y1 (nI i) = some (w2, w1, w3) := by
  intro m
  induction m with
  | zero =>
    intro i n y1 y2 d hd hy hi hn
    obtain rfl : i = 61 := by omega
    cases n with
    | zero => exact absurd hn (by omega)
    | succ n => exact ⟨_, _, _, _, rfl, rfl⟩
  | succ m ih =>
    intro i n y1 y2 d hd hy hi hn
    cases n with
    | zero => exact absurd hn (by omega)
    | succ n =>
      subst hd
      obtain ⟨q, w, g, g1, g2, g3⟩ := l_light (N := N) hC hG (show i ≤ 60 by omega) 24 0 N 0 (by omega) rfl (by omega)
      rw [lp_88_0_17, lp_179_63_6, jgtl i 60 rfl (by omega) (by decide), decide_eq_false (show ¬ 60 < i by omega), show me_26_10 N (nI i, nI i, d.2.2) = some q from g1, show lp_179_63_21 N (nI i) s N 0 1 0 = some (w, g, nI 24) from g2, nI_1]
      simp only [cond_false, Option.bind_some]
      rcases g3 with ⟨rfl, rfl⟩ | ⟨rfl, rfl, t, ht, rfl⟩
      · have hle : gCmp .le (-1 : Int32) y1 = true := by
          rcases hy with rfl | ⟨t, ht, rfl⟩
          · decide
          · refine decide_eq_true ?_
            rw [Int32.le_iff_toInt_le, nI_toInt (by omega)]
            show (-1 : Int) ≤ t
            omega
        rw [hle, je0]
        exact ih (i + 1) n y1 y2 _ rfl hy (by omega) (by omega)
      · rw [je1]
        simp only [cond_false]
        cases gCmp .le (nI t) y1
        · exact ih (i + 1) n (nI t) (nI i) _ rfl (.inr ⟨t, ht, rfl⟩) (by omega) (by omega)
        · exact ih (i + 1) n y1 y2 _ rfl hy (by omega) (by omega)
/-- best -/
theorem q_best {N : Nat} (hN : 4000 ≤ N) {b d : hB} {s : Nat → Int32} (hB : jB b s) : ∃ qc qm, me_88_0 N b d = some qc ∧ me_179_63 N s = some qm ∧ qc.1 = qm := by
  obtain ⟨⟨hl, hr⟩, hC, hG⟩ := id hB
  obtain ⟨w1, w2, w3, d', h1, h2⟩ := l_best hN (e := (f_10_10_1_d b d).2.2) (x := b.1) (y := b.2.1) (jC_take hC) hG 61 0 N (-1) 0 (f_10_10_1_d b d) rfl (.inl rfl) rfl (by omega)
  unfold me_88_0 me_179_63
  rw [show lp_88_0_17 N N (-1) 0 0 (f_10_10_1_d b d) = _ from h1, show lp_179_63_6 N s N 0 (-1) 0 = _ from h2]
  exact ⟨_, _, rfl, rfl, rfl⟩
theorem jcmp0 {c : Nat} (hc : c < 2 ^ 63) : gCmp .eq (lg_cmp (lN c) 0) 0 = decide (c = 0) := by
  unfold gCmp lg_cmp
  by_cases h : c = 0
  · subst h
    decide
  · rw [decide_eq_false h, if_pos (show lN c > 0 from (pk_lLT (a := 0) (b := c) (by decide) hc).mpr (by omega))]
    decide
theorem jl0 {c : Nat} (hc : c < 2 ^ 63) (h : c ≠ 0) : (decide (lN c = 0)) = false := decide_eq_false (fun h2 => h ((pk_lEQ (a := c) (b := 0) hc (by decide)).mp h2))
/-- the greatest common part -/
theorem l_gcd {N : Nat} : ∀ (m a c i n1 n2 : Nat), a < 2 ^ 63 → c < 2 ^ 63 → c < 2 ^ m → i + 2 * m < 200 → 2 * m < n1 → 2 * m < n2 → (∃ w, lp_122_9 N n1 (lN a) (lN c) (nI i) = some (lN (Nat.gcd a c), w)) ∧ (∃ w, lp_182_6 N n2 (lN a) (lN c) = some (lN (Nat.gcd a c), w)) := by
  intro m
  induction m with
  | zero =>
    intro a c i n1 n2 ha hc hm hi h1 h2
    obtain rfl : c = 0 := by omega
    cases n1 with
    | zero => exact absurd h1 (by omega)
    | succ n1 =>
      cases n2 with
      | zero => exact absurd h2 (by omega)
      | succ n2 =>
        rw [lp_122_9, lp_182_6, jcmp0 hc, jgel i 200 rfl (by omega) (by decide), decide_eq_false (show ¬ 200 ≤ i by omega), Nat.gcd_zero_right]
        exact ⟨⟨_, rfl⟩, ⟨_, rfl⟩⟩
  | succ m ih =>
    intro a c i n1 n2 ha hc hm hi h1 h2
    cases n1 with
    | zero => exact absurd h1 (by omega)
    | succ n1 =>
      cases n2 with
      | zero => exact absurd h2 (by omega)
      | succ n2 =>
        rw [lp_122_9, lp_182_6, jcmp0 hc, jgel i 200 rfl (by omega) (by decide), decide_eq_false (show ¬ 200 ≤ i by omega)]
        by_cases h0 : c = 0
        · subst h0
          rw [Nat.gcd_zero_right]
          exact ⟨⟨_, rfl⟩, ⟨_, rfl⟩⟩
        · rw [decide_eq_false h0, jl0 hc h0, pk_lRem ha (by omega) hc, nI_1]
          have hr : a % c < c := Nat.mod_lt _ (by omega)
          have hg1 : Nat.gcd a c = Nat.gcd c (a % c) := by rw [Nat.gcd_comm a c, Nat.gcd_rec c a, Nat.gcd_comm]
          show (∃ w, lp_122_9 N n1 (lN c) (lN (a % c)) (nI (i + 1)) = some (lN (Nat.gcd a c), w)) ∧ (∃ w, lp_182_6 N n2 (lN c) (lN (a % c)) = some (lN (Nat.gcd a c), w))
          cases n1 with
          | zero => exact absurd h1 (by omega)
          | succ n1 =>
            cases n2 with
            | zero => exact absurd h2 (by omega)
            | succ n2 =>
              rw [hg1, lp_122_9, lp_182_6, jcmp0 (show a % c < 2 ^ 63 by omega), jgel (i + 1) 200 rfl (by omega) (by decide), decide_eq_false (show ¬ 200 ≤ i + 1 by omega)]
              by_cases h3 : a % c = 0
              · rw [h3, Nat.gcd_zero_right]
                exact ⟨⟨_, rfl⟩, ⟨_, rfl⟩⟩
              · rw [decide_eq_false h3, jl0 (show a % c < 2 ^ 63 by omega) h3, pk_lRem hc (by omega) (by omega), nI_1]
                have hr2 : c % (a % c) < a % c := Nat.mod_lt _ (by omega)
                have hg2 : Nat.gcd c (a % c) = Nat.gcd (a % c) (c % (a % c)) := by rw [Nat.gcd_comm c, Nat.gcd_rec (a % c) c, Nat.gcd_comm]
                rw [hg2]
                have hle : a % c + c % (a % c) ≤ c := by
                  have hd : 1 ≤ c / (a % c) := by
                    rw [Nat.le_div_iff_mul_le (by omega)]
                    omega
                  have hmm := Nat.div_add_mod c (a % c)
                  have hm2 : a % c ≤ (a % c) * (c / (a % c)) := Nat.le_mul_of_pos_right _ hd
                  omega
                have hp : 2 ^ (m + 1) = 2 * 2 ^ m := by rw [Nat.pow_succ, Nat.mul_comm]
                exact ih (a % c) (c % (a % c)) (i + 1 + 1) n1 n2 (by omega) (by omega) (by omega) (by omega) (by omega) (by omega)
theorem m_gcd {N : Nat} (hN : 4000 ≤ N) {a c : Nat} (ha : a < 2 ^ 63) (hc : c < 2 ^ 63) (h0 : 0 < c) (x : Int32) : me_121 N (lN a) (lN c) x = some (bif gCmp .ne x 0 then lN (c / Nat.gcd a c) else lN (a / Nat.gcd a c)) ∧ me_182 N (lN a) (lN c) = some (lN (Nat.gcd a c)) := by
  obtain ⟨⟨w, h1⟩, ⟨w2, h2⟩⟩ := l_gcd (N := N) 63 a c 0 N N ha hc hc (by decide) (by omega) (by omega)
  have hg : 0 < Nat.gcd a c := Nat.gcd_pos_of_pos_right _ h0
  have hgl : Nat.gcd a c < 2 ^ 63 := Nat.lt_of_le_of_lt (Nat.gcd_le_right _ h0) hc
  constructor
  · unfold me_121 me_122
    rw [show lp_122_9 N N (lN a) (lN c) 0 = _ from h1]
    simp only [Option.bind_some]
    rw [if_neg (show ¬ lN (Nat.gcd a c) < 1 from fun h => absurd ((pk_lLT (a := Nat.gcd a c) (b := 1) hgl (by decide)).mp h) (by omega)), jl0 hgl (by omega), pk_lDiv ha hg hgl, pk_lDiv hc hg hgl]
    simp only [Bool.not_false, Bool.or_true, cond_true]
  · unfold me_182
    rw [h2]
    rfl
theorem jodds {q : Nat} (hq : q < 2 ^ 30) : (if 0 < 10000 - nI q then 10000 - nI q else 0) = nI (10000 - q) ∧ (bif gCmp .le (nI q) 10000 then (10000 - nI q) else 0) = nI (10000 - q) := by
  rw [show (10000 : Int32) = nI 10000 from rfl, jle q 10000 rfl rfl (by omega) (by decide)]
  by_cases h : q ≤ 10000
  · rw [decide_eq_true h, pk_sub h]
    refine ⟨?_, rfl⟩
    show (if nI 0 < nI (10000 - q) then nI (10000 - q) else nI 0) = _
    by_cases h2 : 0 < 10000 - q
    · rw [if_pos ((nI_ltI (a := 0) (b := 10000 - q) (by decide) (by omega)).mpr h2)]
    · rw [if_neg (fun h3 => h2 ((nI_ltI (a := 0) (b := 10000 - q) (by decide) (by omega)).mp h3)), show 10000 - q = 0 by omega]
  · rw [decide_eq_false h, show 10000 - q = 0 by omega]
    refine ⟨?_, rfl⟩
    rw [if_neg]
    · rfl
    · rw [Int32.lt_iff_toInt_lt, pk_sub_toInt (by decide) (by omega)]
      show ¬ (0 : Int) < _
      omega
theorem j27 {b : hB} {s : Nat → Int32} (hC : jC b s) (hG : jG s) {p : Nat} (hp : p ≤ 60) (hl : b.1 = nI p) : ∃ t : Nat, t ≤ 10000 ∧ v_27_1 b = nI t ∧ v_181_63 (s (39 + p)) s = nI t := by
  obtain ⟨k, hk, ek⟩ := jR_u 99 hG.2.2.1.2.2.2.2.1 (by decide)
  obtain ⟨w, hw, ew⟩ := jR_u 9999 (hG.2.2.2.2.1 p (by omega)) (by decide)
  have hq : k * w < 2 ^ 30 := by
    have := Nat.mul_le_mul hk hw
    omega
  unfold v_27_1 v_181_63
  rw [hl, jcl (by omega), ← hC.2.2.2.2.1 p (by omega), show b.2.2.2.2.2.2.2.2.1 4 = s 9 from (hC.2.2.1 4 (by decide)).symm, ek, ew, pk_mul]
  obtain ⟨h1, h2⟩ := jodds hq
  exact ⟨10000 - k * w, by omega, h1, h2⟩
/-- holds -/
theorem q_holds {N : Nat} (hN : 4000 ≤ N) {b : hB} {s fi fo : Nat → Int32} (x0 : Int32) (hB : jB b s) (hF : jF fi fo) : ∃ qc qm, me_90_0 N x0 b fi = some qc ∧ me_183_63 N x0 s fo = some qm ∧ qc.1 = qm.1 ∧ jF qc.2 qm.2 := by
  obtain ⟨⟨hl, hr⟩, hC, hG⟩ := id hB
  unfold me_90_0 me_183_63
  rcases jw x0 0 1 with ⟨h1, h2, h3⟩ | ⟨h1, h2⟩
  · obtain ⟨p, hp, ep⟩ := jR_u 60 hG.1.1 (by decide)
    have elb : b.1 = nI p := by rw [← hl]; exact ep
    obtain ⟨t, ht, e1, e2⟩ := j27 hC hG hp elb
    have hg := m_gcd hN (a := t) (c := 10000) (by omega) (by decide) (by decide) x0
    have hg0 : 0 < Nat.gcd t 10000 := Nat.gcd_pos_of_pos_right _ (by decide)
    have hgl : Nat.gcd t 10000 ≤ 10000 := Nat.gcd_le_right _ (by decide)
    rw [h1, h2, jn1, elb, ep, jin (show p < 61 by omega) (by decide), (joff 39 rfl (show 39 + p < 134 by omega)).1, (joff 39 rfl (show 39 + p < 134 by omega)).2, e1, e2, nI_l (by omega), show (10000 : Int64) = lN 10000 from rfl, hg.1, hg.2]
    simp only [cond_true, Option.bind_some]
    rw [lN_i, show (decide (nI (Nat.gcd t 10000) = 0)) = false from decide_eq_false (nI_ne0 hg0 (by omega)), pk_div (by omega) hg0 (by omega), show (10000 : Int32) = nI 10000 from rfl, pk_div (by decide) hg0 (by omega)]
    simp only [Bool.not_false, Bool.or_true, cond_true]
    refine ⟨_, _, rfl, rfl, ?_, hF⟩
    cases gCmp .ne x0 0
    · exact lN_i _
    · exact lN_i _
  · rw [h1, h2, jn0]
    exact ⟨_, _, rfl, rfl, rfl, jF_no 0 hF (by decide)⟩
