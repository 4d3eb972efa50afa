/-- the knots tried, in their order -/
def jkv (i : Nat) : Int32 := bif gCmp .ne (nI i - nI i / 2 * 2) 1 then (nI i / 2) else ((-(nI (i + 1))) / 2)
theorem jkv_ok : ∀ i, i < 19 → (bif gCmp .ne (nI i - nI i / 2 * 2) 0 then ((-(nI (i + 1))) / 2) else (nI i / 2)) = jkv i ∧ jR (-9) 9 (jkv i) := by
  refine lt_s (lt_s (lt_s (lt_s (lt_s (lt_s (lt_s (lt_s (lt_s (lt_s (lt_s (lt_s (lt_s (lt_s (lt_s (lt_s (lt_s (lt_s (lt_s lt_0 ?_) ?_) ?_) ?_) ?_) ?_) ?_) ?_) ?_) ?_) ?_) ?_) ?_) ?_) ?_) ?_) ?_) ?_) ?_
  all_goals exact ⟨by decide, by decide, by decide⟩
/-- least and chosen: class and model -/
def jL (y3 y4 b4 b5 : Int32) : Prop := (y3 = 61 ∧ y4 = 0 ∧ b4 = 0 ∧ b5 = -1) ∨ (y4 = b4 ∧ y3 = b5 ∧ jR 0 60 y3)
theorem jL_s {y3 y4 b4 b5 o v : Int32} (h : jL y3 y4 b4 b5) (ho : jR 0 60 o) : jL (bif gCmp .ge o y3 then y3 else o) (bif gCmp .ge o y3 then y4 else v) (bif gCmp .lt b5 0 then v else (bif gCmp .ge o b5 then b4 else v)) (bif gCmp .lt b5 0 then o else (bif gCmp .ge o b5 then b5 else o)) := by
  right
  rcases h with ⟨rfl, rfl, rfl, rfl⟩ | ⟨rfl, rfl, h3⟩
  · obtain ⟨a, ha, rfl⟩ := jR_u 60 ho (by decide)
    rw [jgel a 61 rfl (by omega) (by decide), decide_eq_false (show ¬ 61 ≤ a by omega)]
    exact ⟨rfl, rfl, ho⟩
  · obtain ⟨a, ha, rfl⟩ := jR_u 60 h3 (by decide)
    rw [jltl a 0 rfl (by omega) (by decide), decide_eq_false (Nat.not_lt_zero a)]
    cases gCmp .ge o (nI a)
    · exact ⟨rfl, rfl, ho⟩
    · exact ⟨rfl, rfl, h3⟩
theorem jL_e {y3 y4 b4 b5 : Int32} (h : jL y3 y4 b4 b5) : y4 = b4 := by
  rcases h with ⟨_, h1, h2, _⟩ | ⟨h, _⟩
  · rw [h1, h2]
  · exact h
theorem m_116 {N : Nat} (hN : 4000 ≤ N) {b d : hB} {s : Nat → Int32} {k c : Nat} (h : jC d s) (hG : jG s) (hl : s 0 = b.1) (hr : s 1 = b.2.1) (hk : k < 8) (hc : c ≤ 200) : me_116_0 N (nI k) (nI c) b d = some (v_126 ((jI s (nI k) c (s 0, s 1)).1 - (jI s (nI k) c (s 0, s 1)).2), (jI s (nI k) c (s 0, s 1)).1, (jI s (nI k) c (s 0, s 1)).2, d.2.2) := by
  unfold me_116_0
  rw [m_19 hN (d := (b.1, b.2.1, d.2.2)) h hG hk hc, ← hl, ← hr]
  show some (v_15_10 _, _) = _
  unfold v_15_10
  rw [j126]
theorem jI_0 {s : Nat → Int32} (hG : jG s) (x : Int32) (c : Nat) : jR 0 60 (v_126 ((jI s x c (s 0, s 1)).1 - (jI s x c (s 0, s 1)).2)) := by
  have h := jI_R s x c (s 0, s 1) ⟨hG.1.1, hG.1.2.1⟩
  exact j126R h.1 h.2
theorem l_knot {N : Nat} (hN : 4000 ≤ N) {b : hB} {s : Nat → Int32} {k c : Nat} (hl : s 0 = b.1) (hr : s 1 = b.2.1) (hk : k < 8) (hc : c ≤ 200) : ∀ (m i n : Nat) (y3 y4 b4 b5 : Int32) (d : hB) (t : Nat → Int32) (tl tr : Int32), i + m = 19 → m < n → jC d t → jG t → (∀ j, j ≠ 5 → t j = s j) → jL y3 y4 b4 b5 → ∃ w3 w4 d' w5 u tl' tr', lp_76_0_44 N (nI k) (nI c) b n y3 y4 (nI i) d = some (w3, w4, nI 19, d') ∧ lp_158_63_40 N (nI k) (nI c) n b4 b5 (nI i) t tl tr = some (w4, w5, nI 19, u, tl', tr') ∧ (∀ j, j ≠ 5 → u j = s j) := by
  intro m
  induction m with
  | zero =>
    intro i n y3 y4 b4 b5 d t tl tr hi hn hC hG ht hL
    obtain rfl : i = 19 := by omega
    cases n with
    | zero => exact absurd hn (by omega)
    | succ n =>
      obtain rfl := jL_e hL
      exact ⟨_, _, _, _, _, _, _, rfl, rfl, ht⟩
  | succ m ih =>
    intro i n y3 y4 b4 b5 d t tl tr hi hn hC hG ht hL
    cases n with
    | zero => exact absurd hn (by omega)
    | succ n =>
      obtain ⟨hv1, hv2⟩ := jkv_ok i (by omega)
      have hC2 : jC (d.1, d.2.1, d.2.2.1, d.2.2.2.1, d.2.2.2.2.1, d.2.2.2.2.2.1, d.2.2.2.2.2.2.1, d.2.2.2.2.2.2.2.1, upd d.2.2.2.2.2.2.2.2.1 0 (jkv i), d.2.2.2.2.2.2.2.2.2) (upd t 5 (jkv i)) := jC_rule (k := 0) hC (by decide)
      have hG2 : jG (upd t 5 (jkv i)) := jG_r0 hG hv2
      have ht2 : ∀ j, j ≠ 5 → upd t 5 (jkv i) j = s j := fun j hj => by rw [pk_un hj]; exact ht j hj
      rw [lp_76_0_44, lp_158_63_40]
      rw [jgel i 19 rfl (by omega) (by decide), show ((2 : Int32) * 9 + 1) = 19 from by decide, jgel i 19 rfl (by omega) (by decide), decide_eq_false (show ¬ 19 ≤ i by omega), nI_1]
      rw [hv1, show (bif gCmp .ne (nI i - nI i / 2 * 2) 1 then (nI i / 2) else ((-(nI (i + 1))) / 2)) = jkv i from rfl]
      rw [m_116 hN hC2 hG2 (by rw [ht2 0 (by omega)]; exact hl) (by rw [ht2 1 (by omega)]; exact hr) hk hc, m_137 hN hk hc]
      exact ih (i + 1) n _ _ _ _ _ _ _ _ (by omega) (by omega) hC2 hG2 ht2 (jL_s hL (jI_0 hG2 _ _))
/-- knot -/
theorem q_knot {N : Nat} (hN : 4000 ≤ N) {b d : hB} {s fi fo : Nat → Int32} (x0 x1 tl tr : Int32) (hB : jB b s) (hF : jF fi fo) : ∃ qc qm, me_76_0 N x0 x1 b d fi = some qc ∧ me_158_63 N x0 x1 s fo tl tr = some qm ∧ qc.1 = qm.1 ∧ qm.2.1 = s ∧ jF qc.2.2 qm.2.2.1 := by
  obtain ⟨⟨hl, hr⟩, hC, hG⟩ := id hB
  unfold me_76_0 me_158_63
  rcases jp hC.1.2.2 hG.1.2.2.2 x0 with ⟨h1, h2, k, hk, hkp, rfl⟩ | ⟨h1, h2⟩
  · rw [h1, h2, jn0, je1]
    rcases jw x1 0 20 with ⟨h3, h4, h5⟩ | ⟨h3, h4⟩
    · obtain ⟨c, hc, rfl⟩ := jR_u 20 h5 (by decide)
      obtain ⟨w3, w4, d', w5, u, tl', tr', g1, g2, g3⟩ := l_knot hN hl hr hk (show c ≤ 200 by omega) 19 0 N 61 0 0 (-1) (f_10_10_1_d b d) s tl tr rfl (by omega) (jC_take hC) hG (fun _ _ => rfl) (.inl ⟨rfl, rfl, rfl, rfl⟩)
      rw [h3, h4, jn1, show lp_76_0_44 N (nI k) (nI c) b N 61 0 0 (f_10_10_1_d b d) = _ from g1, show lp_158_63_40 N (nI k) (nI c) N 0 (-1) 0 s tl tr = _ from g2]
      refine ⟨_, _, rfl, rfl, rfl, ?_, hF⟩
      show upd u 5 (s 5) = s
      funext j
      by_cases e : j = 5
      · subst e; exact pk_us
      · rw [pk_un e]; exact g3 j e
    · rw [h3, h4, jn0]
      exact ⟨_, _, rfl, rfl, rfl, rfl, jF_no 0 hF (by decide)⟩
  · rw [h1, h2, jn1, je0]
    exact ⟨_, _, rfl, rfl, rfl, rfl, jF_no 0 hF (by decide)⟩
theorem l_kind {N : Nat} (hN : 4000 ≤ N) {b : hB} {s : Nat → Int32} {k c : Nat} (hl : s 0 = b.1) (hr : s 1 = b.2.1) (hk : k < 8) (hc : c ≤ 200) : ∀ (m i n : Nat) (y3 y4 b4 b5 : Int32) (d : hB) (t : Nat → Int32) (tl tr : Int32), i + m = 7 → m < n → jC d t → jG t → (∀ j, j ≠ 15 + 3 * k → t j = s j) → jL y3 y4 b4 b5 → ∃ w3 w4 d' w5 u tl' tr', lp_77_0_44 N (nI k) (nI c) b n y3 y4 (nI i) d = some (w3, w4, nI 7, d') ∧ lp_159_63_40 N (nI k) (nI c) n b4 b5 (nI i) t tl tr = some (w4, w5, nI 7, u, tl', tr') ∧ (∀ j, j ≠ 15 + 3 * k → u j = s j) := by
  intro m
  induction m with
  | zero =>
    intro i n y3 y4 b4 b5 d t tl tr hi hn hC hG ht hL
    obtain rfl : i = 7 := by omega
    cases n with
    | zero => exact absurd hn (by omega)
    | succ n =>
      obtain rfl := jL_e hL
      exact ⟨_, _, _, _, _, _, _, rfl, rfl, ht⟩
  | succ m ih =>
    intro i n y3 y4 b4 b5 d t tl tr hi hn hC hG ht hL
    cases n with
    | zero => exact absurd hn (by omega)
    | succ n =>
      have hC2 : jC (d.1, d.2.1, d.2.2.1, d.2.2.2.1, d.2.2.2.2.1, upd d.2.2.2.2.2.1 k (nI i), d.2.2.2.2.2.2) (upd t (15 + 3 * k) (nI i)) := jC_kind (k := k) hC hk
      have hG2 : jG (upd t (15 + 3 * k) (nI i)) := jG_kind hG hk (jR_nI (by omega) (by omega) (by omega))
      have ht2 : ∀ j, j ≠ 15 + 3 * k → upd t (15 + 3 * k) (nI i) j = s j := fun j hj => by rw [pk_un hj]; exact ht j hj
      rw [lp_77_0_44, lp_159_63_40]
      rw [jgel i 7 rfl (by omega) (by decide), jgtl i 6 rfl (by omega) (by decide), decide_eq_false (show ¬ 7 ≤ i by omega), decide_eq_false (show ¬ 6 < i by omega), nI_1, jin (n := 8) hk (by decide), (j153_0 hk).1]
      unfold f_132_63_m_s
      rw [(j153_0 hk).2, jcl (by omega)]
      rw [m_116 hN hC2 hG2 (by rw [ht2 0 (by omega)]; exact hl) (by rw [ht2 1 (by omega)]; exact hr) hk hc, m_137 hN hk hc]
      exact ih (i + 1) n _ _ _ _ _ _ _ _ (by omega) (by omega) hC2 hG2 ht2 (jL_s hL (jI_0 hG2 _ _))
/-- kindFor -/
theorem q_kindFor {N : Nat} (hN : 4000 ≤ N) {b d : hB} {s fi fo : Nat → Int32} (x0 x1 tl tr : Int32) (hB : jB b s) (hF : jF fi fo) : ∃ qc qm, me_77_0 N x0 x1 b d fi = some qc ∧ me_159_63 N x0 x1 s fo tl tr = some qm ∧ qc.1 = qm.1 ∧ qm.2.1 = s ∧ jF qc.2.2 qm.2.2.1 := by
  obtain ⟨⟨hl, hr⟩, hC, hG⟩ := id hB
  unfold me_77_0 me_159_63
  rcases jp hC.1.2.2 hG.1.2.2.2 x0 with ⟨h1, h2, k, hk, hkp, rfl⟩ | ⟨h1, h2⟩
  · rw [h1, h2, jn0, je1]
    rcases jw x1 0 20 with ⟨h3, h4, h5⟩ | ⟨h3, h4⟩
    · obtain ⟨c, hc, rfl⟩ := jR_u 20 h5 (by decide)
      obtain ⟨w3, w4, d', w5, u, tl', tr', g1, g2, g3⟩ := l_kind hN hl hr hk (show c ≤ 200 by omega) 7 0 N 61 0 0 (-1) (f_10_10_1_d b d) s tl tr rfl (by omega) (jC_take hC) hG (fun _ _ => rfl) (.inl ⟨rfl, rfl, rfl, rfl⟩)
      rw [h3, h4, jn1, show lp_77_0_44 N (nI k) (nI c) b N 61 0 0 (f_10_10_1_d b d) = _ from g1, show lp_159_63_40 N (nI k) (nI c) N 0 (-1) 0 s tl tr = _ from g2, (j153_0 hk).1]
      refine ⟨_, _, rfl, rfl, rfl, ?_, hF⟩
      show f_132_63_m_s (nI k) 0 (v_131_63 (nI k) 0 s) u = s
      unfold f_132_63_m_s v_131_63
      rw [(j153_0 hk).2]
      funext j
      by_cases e : j = 15 + 3 * k
      · subst e; exact pk_us
      · rw [pk_un e]; exact g3 j e
    · rw [h3, h4, jn0]
      exact ⟨_, _, rfl, rfl, rfl, rfl, jF_no 0 hF (by decide)⟩
  · rw [h1, h2, jn1, je0]
    exact ⟨_, _, rfl, rfl, rfl, rfl, jF_no 0 hF (by decide)⟩
theorem j167_back (s : Nat → Int32) (x : Int32) : upd (upd (upd (upd (f_167_63_m_s x s) 5 (s 5)) 6 (s 6)) 7 (s 7)) 8 (s 8) = s := by
  funext j
  by_cases e8 : j = 8
  · subst e8; exact pk_us
  rw [pk_un e8]
  by_cases e7 : j = 7
  · subst e7; exact pk_us
  rw [pk_un e7]
  by_cases e6 : j = 6
  · subst e6; exact pk_us
  rw [pk_un e6]
  by_cases e5 : j = 5
  · subst e5; exact pk_us
  rw [pk_un e5]
  exact j22b x (by omega)
theorem jgt0 (x y : Int32) : gCmp .eq (bif gCmp .gt x y then (0 : Int32) else 1) 0 = gCmp .gt x y := by cases gCmp .gt x y <;> rfl
theorem l_mends {N : Nat} (hN : 4000 ≤ N) {b : hB} {s : Nat → Int32} {k c : Nat} {v : Int32} (hJ : jB b s) (hk : k < 8) (hc : c ≤ 200) : ∀ (m i n : Nat) (y : Int32) (d : hB) (tl tr : Int32), i + m = 16 → m < n → (y = -1 ∨ ∃ q : Nat, q < 16 ∧ y = nI q) → ∃ w d' tl' tr', lp_118_0_6 N (nI k) (nI c) v b n y (nI i) d = some (w, nI 16, d') ∧ lp_168_63_41 N (nI k) (nI c) v (s 5) (s 6) (s 7) (s 8) n y (nI i) s tl tr = some (w, nI 16, s, tl', tr') ∧ (w = -1 ∨ ∃ q : Nat, q < 16 ∧ w = nI q) := by
  obtain ⟨⟨hl, hr⟩, hC, hG⟩ := id hJ
  intro m
  induction m with
  | zero =>
    intro i n y d tl tr hi hn hy
    obtain rfl : i = 16 := by omega
    cases n with
    | zero => exact absurd hn (by omega)
    | succ n => exact ⟨_, _, _, _, rfl, rfl, hy⟩
  | succ m ih =>
    intro i n y d tl tr hi hn hy
    cases n with
    | zero => exact absurd hn (by omega)
    | succ n =>
      have hC2 : jC (f_22_10_d (nI i) (f_10_10_1_d b d)) (f_167_63_m_s (nI i) s) := j22 (jC_take hC) i (by omega)
      have hG2 := jG_22 hG (nI i)
      have e0 : f_167_63_m_s (nI i) s 0 = b.1 := by rw [j22b _ (by omega)]; exact hl
      have e1 : f_167_63_m_s (nI i) s 1 = b.2.1 := by rw [j22b _ (by omega)]; exact hr
      have hpr : ∀ j, j < 4 → f_167_63_m_s (nI i) s (11 + j) = b.2.2.2.2.2.2.2.2.2.1 j := fun j hj => by rw [j22b _ (by omega)]; exact hC.2.2.2.1 j hj
      rw [lp_118_0_6, lp_168_63_41, jgel i 16 rfl (by omega) (by decide), decide_eq_false (show ¬ 16 ≤ i by omega), nI_1, m_116 hN hC2 hG2 e0 e1 hk hc, m_137 hN hk hc]
      simp only [cond_false, Option.bind_some]
      rw [jgt0, j167_back]
      rcases hy with rfl | ⟨q, hq, rfl⟩
      · rw [show gCmp .lt (-1 : Int32) 0 = true from by decide]
        simp only [cond_true]
        cases hg : gCmp .gt (v_126 ((jI (f_167_63_m_s (nI i) s) (nI k) c (f_167_63_m_s (nI i) s 0, f_167_63_m_s (nI i) s 1)).1 - (jI (f_167_63_m_s (nI i) s) (nI k) c (f_167_63_m_s (nI i) s 0, f_167_63_m_s (nI i) s 1)).2)) v
        · exact ih (i + 1) n _ _ _ _ (by omega) (by omega) (.inr ⟨i, by omega, rfl⟩)
        · exact ih (i + 1) n _ _ _ _ (by omega) (by omega) (.inl rfl)
      · obtain ⟨c1, g1, g2⟩ := l_cost0 hN hpr (nI i)
        obtain ⟨c2, g3, g4⟩ := l_cost0 hN hpr (nI q)
        rw [jltl q 0 rfl (by omega) (by decide), decide_eq_false (Nat.not_lt_zero q), g1, g2, g3, g4]
        simp only [cond_false, Option.bind_some]
        cases hg : gCmp .gt (v_126 ((jI (f_167_63_m_s (nI i) s) (nI k) c (f_167_63_m_s (nI i) s 0, f_167_63_m_s (nI i) s 1)).1 - (jI (f_167_63_m_s (nI i) s) (nI k) c (f_167_63_m_s (nI i) s 0, f_167_63_m_s (nI i) s 1)).2)) v
        · cases gCmp .ge c1 c2
          · exact ih (i + 1) n _ _ _ _ (by omega) (by omega) (.inr ⟨i, by omega, rfl⟩)
          · exact ih (i + 1) n _ _ _ _ (by omega) (by omega) (.inr ⟨q, hq, rfl⟩)
        · cases gCmp .ge c1 c2
          · exact ih (i + 1) n _ _ _ _ (by omega) (by omega) (.inr ⟨q, hq, rfl⟩)
          · exact ih (i + 1) n _ _ _ _ (by omega) (by omega) (.inr ⟨q, hq, rfl⟩)
theorem m_118 {N : Nat} (hN : 4000 ≤ N) {b d : hB} {s : Nat → Int32} {k c : Nat} {v tl tr : Int32} (hB : jB b s) (hk : k < 8) (hc : c ≤ 200) : ∃ w d' tl' tr', me_118_0 N (nI k) (nI c) v b d = some (w, d') ∧ me_168_63 N (nI k) (nI c) v s tl tr = some (w, s, tl', tr') ∧ (w = -1 ∨ ∃ q : Nat, q < 16 ∧ w = nI q) := by
  obtain ⟨w, d', tl', tr', h1, h2, h3⟩ := l_mends hN (v := v) hB hk hc 16 0 N (-1) d tl tr rfl (by omega) (.inl rfl)
  unfold me_118_0 me_168_63
  rw [show lp_118_0_6 N (nI k) (nI c) v b N (-1) 0 d = _ from h1, show lp_168_63_41 N (nI k) (nI c) v (s 5) (s 6) (s 7) (s 8) N (-1) 0 s tl tr = _ from h2]
  exact ⟨w, d', tl', tr', rfl, rfl, h3⟩
theorem j117 {b : hB} {s : Nat → Int32} (hB : jB b s) (x0 x1 x2 : Int32) : (v_117_0 x0 x1 x2 b = 0 ∧ v_169_63 x0 x1 x2 s = 1 ∧ ∃ k c : Nat, k < 8 ∧ c ≤ 20 ∧ x0 = nI k ∧ x1 = nI c) ∨ (v_117_0 x0 x1 x2 b = 1 ∧ v_169_63 x0 x1 x2 s = 0) := by
  obtain ⟨⟨hl, hr⟩, hC, hG⟩ := id hB
  unfold v_117_0 v_169_63 v_130
  rcases jp hC.1.2.2 hG.1.2.2.2 x0 with ⟨h1, h2, k, hk, hkp, rfl⟩ | ⟨h1, h2⟩
  · rw [h1, h2, jn0, je1]
    rcases jw x1 0 20 with ⟨h3, h4, h5⟩ | ⟨h3, h4⟩
    · obtain ⟨c, hc, rfl⟩ := jR_u 20 h5 (by decide)
      rw [h3, h4, je1]
      rcases jw x2 0 60 with ⟨h6, h7, h8⟩ | ⟨h6, h7⟩
      · rw [h6, h7, jn1, je1]
        exact .inl ⟨rfl, rfl, k, c, hk, hc, rfl, rfl⟩
      · rw [h6, h7, jn0, je0]
        exact .inr ⟨rfl, rfl⟩
    · rw [h3, h4, je0]
      exact .inr ⟨rfl, rfl⟩
  · rw [h1, h2, jn1, je0]
    exact .inr ⟨rfl, rfl⟩
/-- mends -/
theorem q_mends {N : Nat} (hN : 4000 ≤ N) {b d : hB} {s fi fo : Nat → Int32} (x0 x1 x2 tl tr : Int32) (hB : jB b s) (hF : jF fi fo) : ∃ qc qm, me_82_0 N x0 x1 x2 b d fi = some qc ∧ me_170_63 N x0 x1 x2 s fo tl tr = some qm ∧ qc.1 = qm.1 ∧ qm.2.1 = s ∧ jF qc.2.2 qm.2.2.1 := by
  unfold me_82_0 me_170_63
  rcases j117 hB x0 x1 x2 with ⟨h1, h2, k, c, hk, hc, rfl, rfl⟩ | ⟨h1, h2⟩
  · obtain ⟨w, d', tl', tr', h3, h4, h5⟩ := m_118 hN (d := d) (v := x2) (tl := tl) (tr := tr) hB hk (show c ≤ 200 by omega)
    rw [h1, h2, je0, jn1, h3, h4]
    refine ⟨_, _, rfl, rfl, rfl, rfl, ?_⟩
    show jF (bif gCmp .ge w 0 then fi else _) (bif gCmp .ge w 0 then fo else _)
    cases gCmp .ge w 0
    · exact jF_no 3 hF (by decide)
    · exact hF
  · rw [h1, h2, jn0, je1]
    exact ⟨_, _, rfl, rfl, rfl, rfl, jF_no 0 hF (by decide)⟩
/-- costs -/
theorem q_costs {N : Nat} (hN : 4000 ≤ N) {b d : hB} {s fi fo : Nat → Int32} (x0 x1 x2 tl tr : Int32) (hB : jB b s) (hF : jF fi fo) : ∃ qc qm, me_83_0 N x0 x1 x2 b d fi = some qc ∧ me_171_63 N x0 x1 x2 s fo tl tr = some qm ∧ qc.1 = qm.1 ∧ qm.2.1 = s ∧ jF qc.2.2 qm.2.2.1 := by
  unfold me_83_0 me_171_63
  rcases j117 hB x0 x1 x2 with ⟨h1, h2, k, c, hk, hc, rfl, rfl⟩ | ⟨h1, h2⟩
  · obtain ⟨w, d', tl', tr', h3, h4, h5⟩ := m_118 hN (d := d) (v := x2) (tl := tl) (tr := tr) hB hk (show c ≤ 200 by omega)
    obtain ⟨v, h6, h7⟩ := l_cost0 hN hB.2.1.2.2.2.1 w
    rw [h1, h2, je0, jn1, h3, h4]
    simp only [cond_true, Option.bind_some]
    rw [h6, h7]
    cases gCmp .ge w 0
    · exact ⟨_, _, rfl, rfl, rfl, rfl, jF_no 3 hF (by decide)⟩
    · exact ⟨_, _, rfl, rfl, rfl, rfl, hF⟩
  · rw [h1, h2, jn0, je1]
    exact ⟨_, _, rfl, rfl, rfl, rfl, jF_no 0 hF (by decide)⟩
