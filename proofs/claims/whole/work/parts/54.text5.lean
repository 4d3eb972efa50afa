theorem jK_faultF {tb tp : Nat → Int32} {t b e : Nat} {rq : hRq} {tk bg en : Int32} {vl : Int64} (hK : jTk tb tp t rq tk bg en vl b e) (hf : rq.2.2.2.2.2 = -1) {e0 : Nat} (d' : hB) (s' : Nat → Int32) : jIt tb tp t e0 d' (f_39_51_rq rq) 0 s' tk bg en vl := by
  obtain ⟨⟨g1, g2, g3, g4, g5, g6, g7⟩, h⟩ := hK
  exact .inr ⟨rfl, ⟨b, by omega, g3, f39_f hf g2⟩, g1, e, g7, g4⟩
theorem jIt_F {tb tp : Nat → Int32} {t e0 f e' : Nat} {d' : hB} {rq' : hRq} {s' : Nat → Int32} {tk bg en : Int32} {vl : Int64} (hf : f ≤ t) (hb : bg = nI f) (hft : rq'.2.2.2.2.2 = nI f) (h1 : rq'.1 = nI t) (he : e' ≤ t) (hn : rq'.2.2.2.1 = nI e') : jIt tb tp t e0 d' rq' 0 s' tk bg en vl := .inr ⟨rfl, ⟨f, hf, hb, hft⟩, h1, e', he, hn⟩
theorem jIt_S {tb tp : Nat → Int32} {t e0 b e : Nat} {d' : hB} {rq' : hRq} {s' : Nat → Int32} {tk bg en : Int32} {vl : Int64} (hJ : jB d' s') (hf : rq'.2.2.2.2.2 = -1) (hK : jTk tb tp t rq' tk bg en vl b e) (he : e0 ≤ b) : jIt tb tp t e0 d' rq' 1 s' tk bg en vl := .inl ⟨rfl, hJ, hf, b, e, hK, he⟩
/-- a pull is told -/
theorem m_pull {N : Nat} (hN : 4000 ≤ N) {tb tp : Nat → Int32} {t b e k : Nat} {rq : hRq} {tk bg en sg : Int32} {vl : Int64} {d : hB} {s : Nat → Int32} (ht : t ≤ 120) (hT : jTp tb tp t) (hJ : jB d s) (hK : jTk tb tp t rq tk bg en vl b e) (hf : rq.2.2.2.2.2 = -1) (hk : k < 7) : ∃ d' rq' r s' tk' bg' en' vl' sg', me_33_51_10 N (nI k) d tb rq = some (d', rq') ∧ me_205_63 N (nI k) s tp (nI t) tk bg en vl sg = some (r, s', tk', bg', en', vl', sg') ∧ jIt tb tp t e d' rq' r s' tk' bg' en' vl' := by
  obtain ⟨⟨hl0, hr0⟩, hC, hG⟩ := id hJ
  obtain ⟨n, hn8, h3⟩ := jR_u 8 hG.1.2.2.2 (by decide)
  have eb : d.2.2.2.2.1 = nI n := by rw [← hC.1.2.2]; exact h3
  obtain ⟨⟨g1, g2, g3, g4, g5, g6, g7⟩, -⟩ := id hK
  by_cases hn : n < 8
  · obtain ⟨rq1, tk1, bg1, en1, vl1, b1, e1, h1, h2, hK1, hf1, he1⟩ := m_adv hN ht hT g1 g4 g7
    rw [hf] at hf1
    have hk6 : jR 0 6 (nI k) := jR_nI (by omega) (by omega) (by omega)
    have hadd : ∀ a c, jR (-30) 30 a → jR (-9) 9 c → jB (f_13_10_d (nI k) a c d) (jRw s n (nI k) a c) := fun a c ha hc => (jB_add hJ h3 hn hk6 ha hc).1
    have hg : (gCmp .ge d.2.2.2.2.1 8 || gIn d.2.2.2.2.1 8) = true := (jB_add (k := 0) (by0 := 0) (lean := 0) hJ h3 hn ⟨by decide, by decide⟩ ⟨by decide, by decide⟩ ⟨by decide, by decide⟩).2
    obtain ⟨M, hM⟩ : ∃ M, N = M + 1 + 1 + 1 := ⟨N - 3, by omega⟩
    have hmod : me_205_63 N (nI k) s tp (nI t) tk bg en vl sg = lp_205_63_31 N (nI n) tp (nI t) (M + 1 + 1 + 1) (nI 0) (jRw s n (nI k) 5 0) tk1 bg1 en1 vl1 sg := by
      unfold me_205_63
      rw [g5, h2, e138 (nI k) h3 hn, h3, (j153_0 hn).1, (j153_1 hn).1, (j153_2 hn).1, jnel n 8 rfl (by omega) (by decide), decide_eq_false (show ¬ n = 8 by omega), ← hM]
      rfl
    have hcls : me_33_51_10 N (nI k) d tb rq = (Option.bind (me_38_51_1017 N tb rq1) fun q3 =>
    (bif gCmp .eq q3 0 then
      (Option.bind (me_38_51_1018 N tb rq1) fun q5 =>
      (bif gCmp .eq q5 0 then some ((f_13_10_d (nI k) 5 0 d), rq1)
      else
        (Option.bind (me_40_51 N tb rq1) fun q8 =>
        (Option.bind (me_35_51 N (-9) 9 tb q8) fun q9 => some ((f_13_10_d (nI k) 5 q9.1 d), q9.2)))))
    else
      (Option.bind (me_40_51 N tb rq1) fun q11 =>
      (Option.bind (me_35_51 N (-30) 30 tb q11) fun q12 =>
      (Option.bind (me_38_51_1018 N tb q12.2) fun q13 =>
      (bif gCmp .eq q13 0 then some ((f_13_10_d (nI k) q12.1 0 d), q12.2)
      else
        (Option.bind (me_40_51 N tb q12.2) fun q16 =>
        (Option.bind (me_35_51 N (-9) 9 tb q16) fun q17 => some ((f_13_10_d (nI k) q12.1 q17.1 d), q17.2))))))))) := by
      unfold me_33_51_10
      rw [hg, eb, jltl n 8 rfl (by omega) (by decide), decide_eq_true hn, h1]
      rfl
    rw [hcls, hmod]
    clear hcls hmod
    obtain ⟨⟨u1, u2, u3, u4, u5, u6, u7⟩, -⟩ := id hK1
    have hX9 : (bif gCmp .ne (nI 1) 0 then (9 : Int32) else 30) = nI 9 := by decide
    have hX30 : (bif gCmp .ne (nI 0) 0 then (9 : Int32) else 30) = nI 30 := by decide
    obtain ⟨r, h74, hr⟩ := w_74 hN ht hK1
    rcases hr with ⟨rfl, a0, a1⟩ | ⟨rfl, a0, a1⟩ | ⟨rfl, a0, a1⟩
    · -- neither
      rw [a0, l205_no (by decide) h74 (by decide), l205_no (by decide) h74 (by decide), l205_end]
      simp only [Option.bind_some]
      rw [je0, a1]
      simp only [cond_true, Option.bind_some]
      rw [je0]
      exact ⟨_, _, _, _, _, _, _, _, _, rfl, rfl, jIt_S (hadd 5 0 ⟨by decide, by decide⟩ ⟨by decide, by decide⟩) hf1 hK1 he1⟩
    · -- by
      obtain ⟨rq2, tk2, bg2, en2, vl2, b2, e2, v1, v2, hK2, hf2, he2⟩ := m_adv hN ht hT u1 u4 u7
      rw [hf1] at hf2
      have l2 := hK2.1.2.2.2.2.2.1
      rw [a0]
      simp only [Option.bind_some]
      rw [je1, v1]
      simp only [cond_false, Option.bind_some]
      rcases m_snum hN ht hT (show 30 ≤ 60 by decide) (-30) (by decide) hK2 with ⟨rqF, tkF, bgF, enF, vlF, bF, eF, sgF, w1, w2, w3, w4, w5⟩ | ⟨w, rq3, tk3, bg3, en3, vl3, b3, e3, w0, w1, w2, w3, w4, w5⟩
      · rw [show me_35_51 N (-30) 30 tb rq2 = _ from w1, l205_f (X := 30) (by decide) h74 (by rw [u5]; exact v2) hX30 w2]
        simp only [Option.bind_some]
        obtain ⟨⟨x1, x2, x3, x4, x5, x6, x7⟩, -⟩ := id w3
        have hff := f39_f (w4.trans hf2) x2
        obtain ⟨v, y1, y2⟩ := m_lean hN ht hT (f39_k w3) (show bF ≤ t by omega) hff
        rw [y1]
        simp only [Option.bind_some]
        rcases y2 with rfl | ⟨rfl, q16, ww, rq', z1, z2, z3, z4, e', z5, z6⟩
        · rw [je0]
          exact ⟨_, _, _, _, _, _, _, _, _, rfl, rfl, jIt_F (show bF ≤ t by omega) x3 hff x1 x7 x4⟩
        · rw [je1, z1]
          simp only [cond_false, Option.bind_some]
          rw [z2]
          exact ⟨_, _, _, _, _, _, _, _, _, rfl, rfl, jIt_F (show bF ≤ t by omega) x3 z4 z3 z5 z6⟩
      · have hw : jR (-30) 30 w := jR_w w0 (by decide) (by decide)
        rw [hf2] at w4
        obtain ⟨⟨x1, x2, x3, x4, x5, x6, x7⟩, -⟩ := id w3
        rw [show me_35_51 N (-30) 30 tb rq2 = _ from w1, l205_s (X := 30) (by decide) h74 (by rw [u5]; exact v2) hX30 w2 (e132b (s := s) (nI k) 5 0 w hn).2, (e132b (s := s) (nI k) 5 0 w hn).1]
        simp only [Option.bind_some]
        obtain ⟨r2, k74, hr2⟩ := w_74 hN ht w3
        have hnol : gCmp .ne r2 (nI 1) = true → me_38_51_1018 N tb rq3 = some 0 → ∃ d' rq' r s' tk' bg' en' vl' sg', (Option.bind (me_38_51_1018 N tb rq3) fun q13 => (bif gCmp .eq q13 0 then some ((f_13_10_d (nI k) w 0 d), rq3) else (Option.bind (me_40_51 N tb rq3) fun q16 => (Option.bind (me_35_51 N (-9) 9 tb q16) fun q17 => some ((f_13_10_d (nI k) w q17.1 d), q17.2))))) = some (d', rq') ∧ lp_205_63_31 N (nI n) tp (nI t) (M + 1 + 1) (nI (0 + 1)) (jRw s n (nI k) w 0) tk3 bg3 en3 vl3 w = some (r, s', tk', bg', en', vl', sg') ∧ jIt tb tp t e d' rq' r s' tk' bg' en' vl' := by
          intro hr1 ha
          rw [ha, l205_no (by decide) k74 hr1, l205_end]
          simp only [Option.bind_some]
          rw [je0]
          exact ⟨_, _, _, _, _, _, _, _, _, rfl, rfl, jIt_S (hadd w 0 hw ⟨by decide, by decide⟩) w4 w3 (by omega)⟩
        rcases hr2 with ⟨rfl, c0, c1⟩ | ⟨rfl, c0, c1⟩ | ⟨rfl, c0, c1⟩
        · exact hnol (by decide) c1
        · exact hnol (by decide) c1
        · obtain ⟨rq4, tk4, bg4, en4, vl4, b4, e4, y1, y2, hK4, hf4, he4⟩ := m_adv hN ht hT x1 x4 x7
          rw [w4] at hf4
          have l4 := hK4.1.2.2.2.2.2.1
          rw [c1]
          simp only [Option.bind_some]
          rw [je1, y1]
          simp only [cond_false, Option.bind_some]
          rcases m_snum hN ht hT (show 9 ≤ 60 by decide) (-9) (by decide) hK4 with ⟨rqF, tkF, bgF, enF, vlF, bF, eF, sgF, z1, z2, z3, z4, z5⟩ | ⟨w', rq5, tk5, bg5, en5, vl5, b5, e5, z0, z1, z2, z3, z4, z5⟩
          · rw [show me_35_51 N (-9) 9 tb rq4 = _ from z1, l205_f (X := 9) (by decide) k74 (by rw [x5]; exact y2) hX9 z2]
            exact ⟨_, _, _, _, _, _, _, _, _, rfl, rfl, jK_faultF z3 (z4.trans hf4) _ _⟩
          · rw [show me_35_51 N (-9) 9 tb rq4 = _ from z1, l205_s (X := 9) (by decide) k74 (by rw [x5]; exact y2) hX9 z2 (e132l (s := s) (nI k) w 0 w' hn).2, (e132l (s := s) (nI k) w 0 w' hn).1, l205_end]
            exact ⟨_, _, _, _, _, _, _, _, _, rfl, rfl, jIt_S (hadd w w' hw (jR_w z0 (by decide) (by decide))) (z4.trans hf4) z3 (by omega)⟩
    · -- lean
      obtain ⟨rq2, tk2, bg2, en2, vl2, b2, e2, v1, v2, hK2, hf2, he2⟩ := m_adv hN ht hT u1 u4 u7
      rw [hf1] at hf2
      have l2 := hK2.1.2.2.2.2.2.1
      rw [a0, l205_no (by decide) h74 (by decide)]
      simp only [Option.bind_some]
      rw [je0, a1]
      simp only [cond_true, Option.bind_some]
      rw [je1, v1]
      simp only [cond_false, Option.bind_some]
      rcases m_snum hN ht hT (show 9 ≤ 60 by decide) (-9) (by decide) hK2 with ⟨rqF, tkF, bgF, enF, vlF, bF, eF, sgF, z1, z2, z3, z4, z5⟩ | ⟨w', rq5, tk5, bg5, en5, vl5, b5, e5, z0, z1, z2, z3, z4, z5⟩
      · rw [show me_35_51 N (-9) 9 tb rq2 = _ from z1, l205_f (X := 9) (by decide) h74 (by rw [u5]; exact v2) hX9 z2]
        exact ⟨_, _, _, _, _, _, _, _, _, rfl, rfl, jK_faultF z3 (z4.trans hf2) _ _⟩
      · rw [show me_35_51 N (-9) 9 tb rq2 = _ from z1, l205_s (X := 9) (by decide) h74 (by rw [u5]; exact v2) hX9 z2 (e132l (s := s) (nI k) 5 0 w' hn).2, (e132l (s := s) (nI k) 5 0 w' hn).1, l205_end]
        exact ⟨_, _, _, _, _, _, _, _, _, rfl, rfl, jIt_S (hadd 5 w' ⟨by decide, by decide⟩ (jR_w z0 (by decide) (by decide))) (z4.trans hf2) z3 (by omega)⟩
  · obtain rfl : n = 8 := by omega
    unfold me_33_51_10 me_205_63
    rw [eb, h3, show gCmp .lt (nI 8) 8 = false from by decide, show gCmp .ne (nI 8) 8 = false from by decide]
    exact ⟨_, _, _, _, _, _, _, _, _, rfl, rfl, jK_faultF hK hf _ _⟩
