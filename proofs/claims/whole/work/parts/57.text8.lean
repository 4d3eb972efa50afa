/-! TEXTS: whole -/
def jEnd (t : Nat) (y3 : Int32) (d' : hB) (rq' : hRq) (q4 : Int32 × Int32 × (Nat → Int32) × Int32 × Int32 × Int32 × Int64 × Int32) : Prop :=
  (∃ K : Nat, 0 < K ∧ K ≤ 200 ∧ y3 = nI K ∧ q4.1 = nI K ∧ rq'.2.2.2.2.2 = -1 ∧ q4.2.1 = 1 ∧ q4.2.2.2.1 = 0 ∧ jB d' q4.2.2.1) ∨
  (∃ f : Nat, f ≤ t ∧ rq'.2.2.2.2.2 = nI f ∧ q4.2.2.2.2.1 = nI f ∧ (q4.2.1 = 0 ∨ (q4.2.1 = 1 ∧ gCmp .ne q4.2.2.2.1 0 = true)))
theorem jnm1 {f : Nat} (hf : f < 2 ^ 31) : gCmp .ne (nI f) (-1) = true := by
  show (!decide (nI f = -1)) = true
  rw [decide_eq_false (fun h => absurd (congrArg Int32.toInt h) (by rw [nI_toInt hf]; show ¬ _ = (-1 : Int); omega))]
  rfl
theorem l31_0 {N : Nat} {tb : Nat → Int32} (n : Nat) (y3 y5 : Int32) (d : hB) (rq : hRq) : lp_31_51_49_10_38 N tb (n + 1) y3 0 y5 d rq = some (y3, 0, y5, d, rq) := by
  rw [lp_31_51_49_10_38, je0]
  cases gCmp .gt y5 rq.1 <;> rfl
theorem l31_f {N : Nat} {tb : Nat → Int32} (n : Nat) (y3 y4 y5 : Int32) (d : hB) (rq : hRq) (h : gCmp .ne rq.2.2.2.2.2 (-1) = true) : lp_31_51_49_10_38 N tb (n + 1) y3 y4 y5 d rq = some (y3, y4, y5, d, rq) := by
  rw [lp_31_51_49_10_38, h]
  cases gCmp .gt y5 rq.1
  · cases gCmp .eq y4 0 <;> rfl
  · rfl
theorem l208_0 {N : Nat} {tp s : Nat → Int32} {td tk bg en sg y1 y2 : Int32} {vl : Int64} (n : Nat) (h : y2 = 0 ∨ gCmp .ne tk 3 = true) : lp_208_63_20 N tp td (n + 1) y1 y2 s tk bg en vl sg = some (y1, y2, s, tk, bg, en, vl, sg) := by
  rw [lp_208_63_20]
  rcases h with rfl | h
  · rw [je0]; rfl
  · rw [h]; cases gCmp .eq y2 0 <;> rfl
theorem l_items {N : Nat} (hN : 4000 ≤ N) {tb tp : Nat → Int32} {t : Nat} (ht : t ≤ 120) (hT : jTp tb tp t) : ∀ (m k n1 n2 : Nat) (d : hB) (s : Nat → Int32) (rq : hRq) (tk bg en sg : Int32) (vl : Int64) (b e : Nat), t ≤ e + m → m + 1 < n1 → m + 1 < n2 → k ≤ e → jB d s → jTk tb tp t rq tk bg en vl b e → rq.2.2.2.2.2 = -1 → ∃ y3 y4 y5 d' rq' q4, lp_31_51_49_10_38 N tb n1 (nI k) 1 (nI k) d rq = some (y3, y4, y5, d', rq') ∧ ((me_207_63 N s tp (nI t) tk bg en vl sg).bind fun q3 => lp_208_63_20 N tp (nI t) n2 (nI (k + 1)) q3.1 q3.2.1 q3.2.2.1 q3.2.2.2.1 q3.2.2.2.2.1 q3.2.2.2.2.2.1 q3.2.2.2.2.2.2) = some q4 ∧ jEnd t y3 d' rq' q4 := by
  intro m
  induction m with
  | zero =>
    intro k n1 n2 d s rq tk bg en sg vl b e hm hn1 hn2 hk hJ hK hf
    cases n1 with
    | zero => exact absurd hn1 (by omega)
    | succ n1 =>
      cases n1 with
      | zero => exact absurd hn1 (by omega)
      | succ n1 =>
        cases n2 with
        | zero => exact absurd hn2 (by omega)
        | succ n2 =>
          obtain ⟨d1, rq1, r, s1, tk1, bg1, en1, vl1, sg1, f1, f2, f3⟩ := m_item hN (sg := sg) ht hT hJ hK hf
          have lt := hK.1.2.2.2.2.2.2
          rw [lp_31_51_49_10_38, hK.1.1, jgt k t rfl rfl (by omega) (by omega), decide_eq_false (show ¬ t < k by omega), je1, hf, show gCmp .ne (-1 : Int32) (-1) = false from by decide, f1, f2]
          simp only [cond_false, Option.bind_some]
          rw [nI_1]
          rcases f3 with ⟨rfl, hJ1, hf1, b1, e1, hK1, he1⟩ | ⟨rfl, ⟨fb, hfb, hbg, hft⟩, hr1, e1, he1, hnx⟩
          · obtain ⟨⟨g1, g2, g3, g4, g5, g6, g7⟩, h⟩ := id hK1
            have hb1 : b1 < e1 → False := fun h => by omega
            rcases h with ⟨k1, rfl⟩ | ⟨k1, rfl, k2, _⟩ | ⟨k1, k2, _⟩ | ⟨k1, rfl, k2⟩ | ⟨k1, rfl, k2⟩ | ⟨k1, rfl, k2⟩
            · rw [k1, show gCmp .ne (0 : Int32) 3 = true from by decide]
              simp only [cond_true]
              rw [je0]
              simp only [cond_true]
              rw [l31_0, l208_0 n2 (.inr (by decide))]
              exact ⟨_, _, _, _, _, _, rfl, rfl, .inl ⟨k + 1, by omega, by omega, rfl, rfl, hf1, rfl, rfl, hJ1⟩⟩
            · exact (hb1 k2).elim
            · exact (hb1 k2).elim
            · exact (hb1 k2).elim
            · exact (hb1 k2).elim
            · exact (hb1 k2).elim
          · cases h3 : gCmp .ne rq1.2.1 3
            · obtain ⟨rq2, tk2, bg2, en2, vl2, b2, e2, p1, p2, p3, p4, p5⟩ := m_adv hN ht hT hr1 hnx he1
              simp only [cond_false]
              rw [je1, p1]
              simp only [cond_false, Option.bind_some]
              rw [l31_f _ _ _ _ _ _ (by rw [p4, hft]; exact jnm1 (by omega)), l208_0 n2 (.inl rfl)]
              exact ⟨_, _, _, _, _, _, rfl, rfl, .inr ⟨fb, hfb, p4.trans hft, hbg, .inl rfl⟩⟩
            · simp only [cond_true]
              rw [je0]
              simp only [cond_true]
              rw [l31_0, l208_0 n2 (.inl rfl)]
              refine ⟨_, _, _, _, _, _, rfl, rfl, .inr ⟨fb, hfb, ?_, hbg, .inl rfl⟩⟩
              dsimp only
              cases gCmp .eq rq1.2.1 0
              · exact f39_s (by omega) hft
              · exact hft
  | succ m ih =>
    intro k n1 n2 d s rq tk bg en sg vl b e hm hn1 hn2 hk hJ hK hf
    cases n1 with
    | zero => exact absurd hn1 (by omega)
    | succ n1 =>
      cases n1 with
      | zero => exact absurd hn1 (by omega)
      | succ n1 =>
        cases n2 with
        | zero => exact absurd hn2 (by omega)
        | succ n2 =>
          obtain ⟨d1, rq1, r, s1, tk1, bg1, en1, vl1, sg1, f1, f2, f3⟩ := m_item hN (sg := sg) ht hT hJ hK hf
          have lt := hK.1.2.2.2.2.2.2
          rw [lp_31_51_49_10_38, hK.1.1, jgt k t rfl rfl (by omega) (by omega), decide_eq_false (show ¬ t < k by omega), je1, hf, show gCmp .ne (-1 : Int32) (-1) = false from by decide, f1, f2]
          simp only [cond_false, Option.bind_some]
          rw [nI_1]
          rcases f3 with ⟨rfl, hJ1, hf1, b1, e1, hK1, he1⟩ | ⟨rfl, ⟨fb, hfb, hbg, hft⟩, hr1, e1, he1, hnx⟩
          · obtain ⟨⟨g1, g2, g3, g4, g5, g6, g7⟩, h⟩ := id hK1
            have hoth : gCmp .ne rq1.2.1 3 = true → gCmp .eq rq1.2.1 0 = false → gCmp .ne tk1 3 = true → gCmp .ne tk1 0 = true → ∃ y3 y4 y5 d' rq' q4, (bif gCmp .eq (bif gCmp .ne rq1.2.1 3 then (0 : Int32) else 1) 0 then
            lp_31_51_49_10_38 N tb (n1 + 1) (nI (k + 1)) (bif gCmp .ne rq1.2.1 3 then 0 else 1) (nI (k + 1)) d1 (bif gCmp .eq rq1.2.1 0 then rq1.1 else ((f_39_51_rq rq1).1), bif gCmp .eq rq1.2.1 0 then rq1.2.1 else ((f_39_51_rq rq1).2.1), bif gCmp .eq rq1.2.1 0 then rq1.2.2.1 else ((f_39_51_rq rq1).2.2.1), bif gCmp .eq rq1.2.1 0 then rq1.2.2.2.1 else ((f_39_51_rq rq1).2.2.2.1), bif gCmp .eq rq1.2.1 0 then rq1.2.2.2.2.1 else ((f_39_51_rq rq1).2.2.2.2.1), bif gCmp .eq rq1.2.1 0 then rq1.2.2.2.2.2 else ((f_39_51_rq rq1).2.2.2.2.2))
          else
            (Option.bind (me_40_51 N tb rq1) fun q10 =>
            lp_31_51_49_10_38 N tb (n1 + 1) (nI (k + 1)) (bif gCmp .ne rq1.2.1 3 then 0 else 1) (nI (k + 1)) d1 q10)) = some (y3, y4, y5, d', rq') ∧ lp_208_63_20 N tp (nI t) (n2 + 1) (nI (k + 1)) 1 s1 tk1 bg1 en1 vl1 sg1 = some q4 ∧ jEnd t y3 d' rq' q4 := by
              intro w1 w2 w3 w4
              rw [w1, w2]
              simp only [cond_true, cond_false]
              rw [je0]
              simp only [cond_true]
              rw [l31_0, l208_0 n2 (.inr w3)]
              exact ⟨_, _, _, _, _, _, rfl, rfl, .inr ⟨b1, by omega, f39_f hf1 g2, g3, .inr ⟨rfl, w4⟩⟩⟩
            rcases h with ⟨k1, rfl⟩ | ⟨k1, rfl, k2, _⟩ | ⟨k1, k2, v, _, _, k3⟩ | ⟨k1, rfl, k2⟩ | ⟨k1, rfl, k2⟩ | ⟨k1, rfl, k2⟩
            · rw [k1, show gCmp .ne (0 : Int32) 3 = true from by decide]
              simp only [cond_true]
              rw [je0]
              simp only [cond_true]
              rw [l31_0, l208_0 n2 (.inr (by decide))]
              exact ⟨_, _, _, _, _, _, rfl, rfl, .inl ⟨k + 1, by omega, by omega, rfl, rfl, hf1, rfl, rfl, hJ1⟩⟩
            · exact hoth (by rw [k1]; decide) (by rw [k1]; decide) (by decide) (by decide)
            · refine hoth (by rw [k1]; decide) (by rw [k1]; decide) ?_ ?_
              · rcases k3 with ⟨rfl, _⟩ | ⟨rfl, _⟩ <;> decide
              · rcases k3 with ⟨rfl, _⟩ | ⟨rfl, _⟩ <;> decide
            · obtain ⟨rq2, tk2, bg2, en2, vl2, b2, e2, p1, p2, p3, p4, p5⟩ := m_adv hN ht hT g1 g4 g7
              have l2 := p3.1.2.2.2.2.2.1
              obtain ⟨y3, y4, y5, d', rq', q4, w1, w2, w3⟩ := ih (k + 1) (n1 + 1) n2 d1 s1 rq2 tk2 bg2 en2 sg1 vl2 b2 e2 (by omega) (by omega) (by omega) (by omega) hJ1 p3 (p4.trans hf1)
              rw [k1, show gCmp .ne (3 : Int32) 3 = false from by decide, p1]
              simp only [cond_false]
              rw [je1, lp_208_63_20, je1, show gCmp .ne (3 : Int32) 3 = false from by decide, g5, p2, nI_1]
              simp only [cond_false, Option.bind_some]
              exact ⟨y3, y4, y5, d', rq', q4, w1, w2, w3⟩
            · exact hoth (by rw [k1]; decide) (by rw [k1]; decide) (by decide) (by decide)
            · exact hoth (by rw [k1]; decide) (by rw [k1]; decide) (by decide) (by decide)
          · cases h3 : gCmp .ne rq1.2.1 3
            · obtain ⟨rq2, tk2, bg2, en2, vl2, b2, e2, p1, p2, p3, p4, p5⟩ := m_adv hN ht hT hr1 hnx he1
              simp only [cond_false]
              rw [je1, p1]
              simp only [cond_false, Option.bind_some]
              rw [l31_f _ _ _ _ _ _ (by rw [p4, hft]; exact jnm1 (by omega)), l208_0 n2 (.inl rfl)]
              exact ⟨_, _, _, _, _, _, rfl, rfl, .inr ⟨fb, hfb, p4.trans hft, hbg, .inl rfl⟩⟩
            · simp only [cond_true]
              rw [je0]
              simp only [cond_true]
              rw [l31_0, l208_0 n2 (.inl rfl)]
              refine ⟨_, _, _, _, _, _, rfl, rfl, .inr ⟨fb, hfb, ?_, hbg, .inl rfl⟩⟩
              dsimp only
              cases gCmp .eq rq1.2.1 0
              · exact f39_s (by omega) hft
              · exact hft
theorem l_copy195 {N : Nat} (s : Nat → Int32) : ∀ (m i n : Nat) (t : Nat → Int32), (∀ j, j < i → t j = s j) → i + m = 134 → m < n → ∃ t', lp_195_63_2 N s n (nI i) t = some (nI 134, t') ∧ ∀ j, j < 134 → t' j = s j := by
  intro m
  induction m with
  | zero =>
    intro i n t ht hi hn
    obtain rfl : i = 134 := by omega
    cases n with
    | zero => exact absurd hn (by omega)
    | succ n => exact ⟨t, rfl, ht⟩
  | succ m ih =>
    intro i n t ht hi hn
    cases n with
    | zero => exact absurd hn (by omega)
    | succ n =>
      rw [lp_195_63_2, jgel i 134 rfl (by omega) (by decide), decide_eq_false (show ¬ 134 ≤ i by omega), jin (show i < 134 by omega) (by decide), jcl (by omega), nI_1]
      refine ih (i + 1) n _ ?_ (by omega) (by omega)
      intro j hj
      by_cases e : j = i
      · subst e; exact pk_us
      · rw [pk_un e]; exact ht j (by omega)
theorem l_copy196 {N : Nat} (s : Nat → Int32) : ∀ (m i n : Nat) (t : Nat → Int32), (∀ j, j < i → t j = s j) → i + m = 134 → m < n → ∃ t', lp_196_63_2 N s n (nI i) t = some (nI 134, t') ∧ ∀ j, j < 134 → t' j = s j := by
  intro m
  induction m with
  | zero =>
    intro i n t ht hi hn
    obtain rfl : i = 134 := by omega
    cases n with
    | zero => exact absurd hn (by omega)
    | succ n => exact ⟨t, rfl, ht⟩
  | succ m ih =>
    intro i n t ht hi hn
    cases n with
    | zero => exact absurd hn (by omega)
    | succ n =>
      rw [lp_196_63_2, jgel i 134 rfl (by omega) (by decide), decide_eq_false (show ¬ 134 ≤ i by omega), jin (show i < 134 by omega) (by decide), jcl (by omega), nI_1]
      refine ih (i + 1) n _ ?_ (by omega) (by omega)
      intro j hj
      by_cases e : j = i
      · subst e; exact pk_us
      · rw [pk_un e]; exact ht j (by omega)
/-- text -/
theorem q_text {N : Nat} (hN : 4000 ≤ N) {b d : hB} {s as tb tp : Nat → Int32} {ts td sg : Int32} {rq : hRq} (hJ : jB b s) (hT : jT tb ts tp td) : ∃ qc qm, me_98_0 N b d tb ts rq = some qc ∧ me_208_63 N s as tp td sg = some qm ∧ qc.1 = qm.1 ∧ jB qc.2.1 qm.2.1 ∧ jT tb qc.2.2.2.1 tp qm.2.2.2.1 := by
  obtain ⟨t, ht, rfl, rfl, hTp⟩ := hT
  obtain ⟨as', c1, c2⟩ := l_copy195 (N := N) s 134 0 N as (fun j hj => absurd hj (by omega)) rfl (by omega)
  have hT : jTp tb tp t := hTp
  obtain ⟨rq1, tk1, bg1, en1, vl1, b1, e1, h1, h2, hK1, hf1, he1⟩ := m_adv (rq := (nI t, rq.2.1, rq.2.2.1, nI 0, rq.2.2.2.2.1, -1)) hN ht hT rfl rfl (Nat.zero_le t)
  obtain ⟨y3, y4, y5, d', rq', q4, w1, w2, w3⟩ := l_items hN ht hT t 0 N N (f_10_10_1_d b d) s rq1 tk1 bg1 en1 sg vl1 b1 e1 (by omega) (by omega) (by omega) (Nat.zero_le _) (jB_take hJ) hK1 hf1
  have hT0 : jT tb 0 tp 0 := ⟨0, by omega, rfl, rfl, fun i hi => absurd hi (by omega)⟩
  have hc31 : me_31_51_49_10 N (f_10_10_1_d b d) tb (nI t) rq = some (bif gCmp .ne rq'.2.2.2.2.2 (-1) then ((-1) - rq'.2.2.2.2.2) else y3, d', .ref 50, rq') := by
    unfold me_31_51_49_10
    rw [show me_40_51 N tb (nI t, rq.2.1, rq.2.2.1, 0, rq.2.2.2.2.1, (-1)) = _ from h1]
    simp only [Option.bind_some]
    rw [show lp_31_51_49_10_38 N tb N 0 1 0 (f_10_10_1_d b d) rq1 = _ from w1]
    rfl
  have h195 : me_195_63 N s as = some as' := by
    unfold me_195_63
    rw [show lp_195_63_2 N s N 0 as = _ from c1]
    rfl
  have hm208 : me_208_63 N s as tp (nI t) sg = (bif gCmp .ne (bif gCmp .eq q4.2.1 0 then (0 : Int32) else (bif gCmp .ne q4.2.2.2.1 0 then 0 else 1)) 0 then
    some (q4.1, q4.2.2.1, as', 0, q4.2.2.2.1, q4.2.2.2.2.1, q4.2.2.2.2.2.1, q4.2.2.2.2.2.2.1, q4.2.2.2.2.2.2.2)
  else
    (Option.bind (me_196_63 N q4.2.2.1 as') fun q10 =>
    some ((-1) - q4.2.2.2.2.1, q10, as', 0, q4.2.2.2.1, q4.2.2.2.2.1, q4.2.2.2.2.2.1, q4.2.2.2.2.2.2.1, q4.2.2.2.2.2.2.2))) := by
    unfold me_208_63
    rw [h195, show me_201_63 N tp (nI t) 0 = _ from h2]
    simp only [Option.bind_some]
    cases h7 : me_207_63 N s tp (nI t) tk1 bg1 en1 vl1 sg with
    | none => rw [h7] at w2; cases w2
    | some q3 =>
      rw [h7] at w2
      have w2' : lp_208_63_20 N tp (nI t) N 1 q3.1 q3.2.1 q3.2.2.1 q3.2.2.2.1 q3.2.2.2.2.1 q3.2.2.2.2.2.1 q3.2.2.2.2.2.2 = some q4 := w2
      simp only [Option.bind_some]
      rw [w2']
      rfl
  unfold me_98_0
  rw [hc31, hm208]
  simp only [Option.bind_some]
  rcases w3 with ⟨K, k0, k1, rfl, k2, k3, k4, k5, k6⟩ | ⟨f, k1, k2, k3, k4⟩
  · rw [k3, k4, k5, show gCmp .ne (-1 : Int32) (-1) = false from by decide]
    simp only [cond_false]
    rw [je1, show gCmp .ne (0 : Int32) 0 = false from by decide, jlel K 0 rfl (by omega) (by decide), decide_eq_false (show ¬ K ≤ 0 by omega)]
    simp only [cond_false]
    rw [jn1]
    exact ⟨_, _, rfl, rfl, k2.symm, jB_take (d := b) k6, hT0⟩
  · have hz : (bif gCmp .eq q4.2.1 0 then (0 : Int32) else (bif gCmp .ne q4.2.2.2.1 0 then 0 else 1)) = 0 := by
      rcases k4 with h | ⟨h, h'⟩
      · rw [h, je0]; rfl
      · rw [h, h', je1]; rfl
    obtain ⟨s', c3, c4⟩ := l_copy196 (N := N) as' 134 0 N q4.2.2.1 (fun j hj => absurd hj (by omega)) rfl (by omega)
    have h196 : me_196_63 N q4.2.2.1 as' = some s' := by
      unfold me_196_63
      rw [show lp_196_63_2 N as' N 0 q4.2.2.1 = _ from c3]
      rfl
    have hle : gCmp .le ((-1 : Int32) - nI f) 0 = true := by
      have e : ((-1 : Int32) - nI f) = -nI (f + 1) := by
        rw [show (-1 : Int32) = -nI 1 from by decide, ← nI_add f 1, Int32.neg_add]
        rw [Int32.sub_eq_add_neg, Int32.add_comm, Int32.sub_eq_add_neg]
      have h2 : (-nI (f + 1)).toInt ≤ (0 : Int32).toInt := by
        rw [sb_negT (by omega), show (0 : Int32).toInt = 0 from rfl]
        omega
      rw [e]
      unfold gCmp
      exact decide_eq_true (Int32.le_iff_toInt_le.mpr h2)
    rw [hz, jn0, k2, jnm1 (by omega), k3, h196]
    simp only [cond_true, cond_false, Option.bind_some]
    rw [hle]
    refine ⟨_, _, rfl, rfl, rfl, ?_, hT0⟩
    exact jB_ext (b := b) hJ (fun i hi => (c4 i hi).trans (c2 i hi))
