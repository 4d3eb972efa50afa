/-! TEXTS: items -/
theorem jltm1 : gCmp .lt (-1 : Int32) 0 = true := by decide
theorem m_knot {N : Nat} (hN : 4000 ≤ N) {tb tp : Nat → Int32} {t b e : Nat} {rq : hRq} {tk bg en : Int32} {vl : Int64} {d : hB} {s : Nat → Int32} (ht : t ≤ 120) (hT : jTp tb tp t) (hJ : jB d s) (hK : jTk tb tp t rq tk bg en vl b e) (hf : rq.2.2.2.2.2 = -1) : ∃ d' rq' q5 q18, me_34_51_10 N 0 d tb rq = some (d', rq') ∧ me_201_63 N tp (nI t) en = some q5 ∧ me_204_63 N 9 tp (nI t) q5.1 q5.2.1 q5.2.2.1 q5.2.2.2 = some q18 ∧ (q18.1 = 0 ∨ q18.1 = 1) ∧ jIt tb tp t e d' rq' q18.1 (upd s 5 (bif gCmp .eq q18.1 0 then (s 5) else q18.2.2.2.2.2)) q18.2.1 q18.2.2.1 q18.2.2.2.1 q18.2.2.2.2.1 := by
  obtain ⟨⟨hl0, hr0⟩, hC, hG⟩ := id hJ
  obtain ⟨⟨g1, g2, g3, g4, g5, g6, g7⟩, -⟩ := id hK
  obtain ⟨rq1, tk1, bg1, en1, vl1, b1, e1, h1, h2, hK1, hf1, he1⟩ := m_adv hN ht hT g1 g4 g7
  rw [hf] at hf1
  have l1 := hK1.1.2.2.2.2.2.1
  unfold me_34_51_10
  rw [h1, g5, show gIn (0 : Int32) 6 = true from by decide, show ((gSa 3).getD (Int32.toNatClampNeg 0) 0) = -9 from rfl, show ((gSa 4).getD (Int32.toNatClampNeg 0) 0) = nI 9 from rfl, show Int32.toNatClampNeg (0 : Int32) = 0 from rfl]
  simp only [Option.bind_some, cond_true]
  rcases m_snum hN ht hT (show 9 ≤ 60 by decide) (-9) (by decide) hK1 with ⟨rqF, tkF, bgF, enF, vlF, bF, eF, sgF, z1, z2, z3, z4, z5⟩ | ⟨w, rq5, tk5, bg5, en5, vl5, b5, e5, z0, z1, z2, z3, z4, z5⟩
  · rw [z1]
    exact ⟨_, _, _, _, rfl, h2, z2, .inl rfl, jK_faultF z3 (z4.trans hf1) _ _⟩
  · rw [z1]
    refine ⟨_, _, _, _, rfl, h2, z2, .inr rfl, jIt_S (b := b5) (e := e5) ?_ (z4.trans hf1) z3 (by omega)⟩
    exact ⟨⟨(pk_un (by omega)).trans hl0, (pk_un (by omega)).trans hr0⟩, jC_rule (k := 0) hC (by decide), jG_r0 hG (jR_w z0 (by decide) (by decide))⟩
theorem m_slip {N : Nat} (hN : 4000 ≤ N) {tb tp : Nat → Int32} {t b e : Nat} {rq : hRq} {tk bg en : Int32} {vl : Int64} {d : hB} {s : Nat → Int32} (ht : t ≤ 120) (hT : jTp tb tp t) (hJ : jB d s) (hK : jTk tb tp t rq tk bg en vl b e) (hf : rq.2.2.2.2.2 = -1) : ∃ d' rq' q5 q12, me_34_51_10 N 1 d tb rq = some (d', rq') ∧ me_201_63 N tp (nI t) en = some q5 ∧ me_203_63 N 0 9 tp (nI t) q5.1 q5.2.1 q5.2.2.1 q5.2.2.2 = some q12 ∧ ((gCmp .ge q12.1 0 = false ∧ gCmp .lt q12.1 0 = true ∧ jIt tb tp t e d' rq' 0 (upd s 6 (s 6)) q12.2.1 q12.2.2.1 q12.2.2.2.1 q12.2.2.2.2) ∨ (gCmp .ge q12.1 0 = true ∧ gCmp .lt q12.1 0 = false ∧ jIt tb tp t e d' rq' 1 (upd s 6 q12.1) q12.2.1 q12.2.2.1 q12.2.2.2.1 q12.2.2.2.2)) := by
  obtain ⟨⟨hl0, hr0⟩, hC, hG⟩ := id hJ
  obtain ⟨⟨g1, g2, g3, g4, g5, g6, g7⟩, -⟩ := id hK
  obtain ⟨rq1, tk1, bg1, en1, vl1, b1, e1, h1, h2, hK1, hf1, he1⟩ := m_adv hN ht hT g1 g4 g7
  rw [hf] at hf1
  have l1 := hK1.1.2.2.2.2.2.1
  unfold me_34_51_10
  rw [h1, g5, show gIn (1 : Int32) 6 = true from by decide, show ((gSa 3).getD (Int32.toNatClampNeg 1) 0) = 0 from rfl, show ((gSa 4).getD (Int32.toNatClampNeg 1) 0) = nI 9 from rfl, show Int32.toNatClampNeg (1 : Int32) = 1 from rfl]
  simp only [Option.bind_some, cond_true]
  rcases m_num hN ht hT (show 9 ≤ 60 by decide) 0 (.inl (by decide)) hK1 with ⟨z1, z2⟩ | ⟨v, rq5, tk5, bg5, en5, vl5, b5, e5, z0, z1, z2, z3, z4, z5⟩
  · rw [z1]
    exact ⟨_, _, _, _, rfl, h2, z2, .inl ⟨jneg1, jltm1, jK_faultF hK1 hf1 _ _⟩⟩
  · rw [z1]
    refine ⟨_, _, _, _, rfl, h2, z2, .inr ⟨?_, jlt1 (by omega), jIt_S (b := b5) (e := e5) ?_ (z4.trans hf1) z3 (by omega)⟩⟩
    · dsimp only
      rw [jgel v 0 rfl (by omega) (by decide)]
      exact decide_eq_true (Nat.zero_le v)
    · exact ⟨⟨(pk_un (by omega)).trans hl0, (pk_un (by omega)).trans hr0⟩, jC_rule (k := 1) hC (by decide), jG_r1 hG (jR_nI (by omega) (by omega) (by omega))⟩
theorem m_wind {N : Nat} (hN : 4000 ≤ N) {tb tp : Nat → Int32} {t b e : Nat} {rq : hRq} {tk bg en : Int32} {vl : Int64} {d : hB} {s : Nat → Int32} (ht : t ≤ 120) (hT : jTp tb tp t) (hJ : jB d s) (hK : jTk tb tp t rq tk bg en vl b e) (hf : rq.2.2.2.2.2 = -1) : ∃ d' rq' q5 q12, me_34_51_10 N 2 d tb rq = some (d', rq') ∧ me_201_63 N tp (nI t) en = some q5 ∧ me_203_63 N 0 9 tp (nI t) q5.1 q5.2.1 q5.2.2.1 q5.2.2.2 = some q12 ∧ ((gCmp .ge q12.1 0 = false ∧ gCmp .lt q12.1 0 = true ∧ jIt tb tp t e d' rq' 0 (upd s 7 (s 7)) q12.2.1 q12.2.2.1 q12.2.2.2.1 q12.2.2.2.2) ∨ (gCmp .ge q12.1 0 = true ∧ gCmp .lt q12.1 0 = false ∧ jIt tb tp t e d' rq' 1 (upd s 7 q12.1) q12.2.1 q12.2.2.1 q12.2.2.2.1 q12.2.2.2.2)) := by
  obtain ⟨⟨hl0, hr0⟩, hC, hG⟩ := id hJ
  obtain ⟨⟨g1, g2, g3, g4, g5, g6, g7⟩, -⟩ := id hK
  obtain ⟨rq1, tk1, bg1, en1, vl1, b1, e1, h1, h2, hK1, hf1, he1⟩ := m_adv hN ht hT g1 g4 g7
  rw [hf] at hf1
  have l1 := hK1.1.2.2.2.2.2.1
  unfold me_34_51_10
  rw [h1, g5, show gIn (2 : Int32) 6 = true from by decide, show ((gSa 3).getD (Int32.toNatClampNeg 2) 0) = 0 from rfl, show ((gSa 4).getD (Int32.toNatClampNeg 2) 0) = nI 9 from rfl, show Int32.toNatClampNeg (2 : Int32) = 2 from rfl]
  simp only [Option.bind_some, cond_true]
  rcases m_num hN ht hT (show 9 ≤ 60 by decide) 0 (.inl (by decide)) hK1 with ⟨z1, z2⟩ | ⟨v, rq5, tk5, bg5, en5, vl5, b5, e5, z0, z1, z2, z3, z4, z5⟩
  · rw [z1]
    exact ⟨_, _, _, _, rfl, h2, z2, .inl ⟨jneg1, jltm1, jK_faultF hK1 hf1 _ _⟩⟩
  · rw [z1]
    refine ⟨_, _, _, _, rfl, h2, z2, .inr ⟨?_, jlt1 (by omega), jIt_S (b := b5) (e := e5) ?_ (z4.trans hf1) z3 (by omega)⟩⟩
    · dsimp only
      rw [jgel v 0 rfl (by omega) (by decide)]
      exact decide_eq_true (Nat.zero_le v)
    · exact ⟨⟨(pk_un (by omega)).trans hl0, (pk_un (by omega)).trans hr0⟩, jC_rule (k := 2) hC (by decide), jG_r2 hG (jR_nI (by omega) (by omega) (by omega))⟩
theorem m_curtain {N : Nat} (hN : 4000 ≤ N) {tb tp : Nat → Int32} {t b e : Nat} {rq : hRq} {tk bg en : Int32} {vl : Int64} {d : hB} {s : Nat → Int32} (ht : t ≤ 120) (hT : jTp tb tp t) (hJ : jB d s) (hK : jTk tb tp t rq tk bg en vl b e) (hf : rq.2.2.2.2.2 = -1) : ∃ d' rq' q5 q12, me_34_51_10 N 3 d tb rq = some (d', rq') ∧ me_201_63 N tp (nI t) en = some q5 ∧ me_203_63 N 0 60 tp (nI t) q5.1 q5.2.1 q5.2.2.1 q5.2.2.2 = some q12 ∧ ((gCmp .ge q12.1 0 = false ∧ gCmp .lt q12.1 0 = true ∧ jIt tb tp t e d' rq' 0 (upd s 8 (s 8)) q12.2.1 q12.2.2.1 q12.2.2.2.1 q12.2.2.2.2) ∨ (gCmp .ge q12.1 0 = true ∧ gCmp .lt q12.1 0 = false ∧ jIt tb tp t e d' rq' 1 (upd s 8 q12.1) q12.2.1 q12.2.2.1 q12.2.2.2.1 q12.2.2.2.2)) := by
  obtain ⟨⟨hl0, hr0⟩, hC, hG⟩ := id hJ
  obtain ⟨⟨g1, g2, g3, g4, g5, g6, g7⟩, -⟩ := id hK
  obtain ⟨rq1, tk1, bg1, en1, vl1, b1, e1, h1, h2, hK1, hf1, he1⟩ := m_adv hN ht hT g1 g4 g7
  rw [hf] at hf1
  have l1 := hK1.1.2.2.2.2.2.1
  unfold me_34_51_10
  rw [h1, g5, show gIn (3 : Int32) 6 = true from by decide, show ((gSa 3).getD (Int32.toNatClampNeg 3) 0) = 0 from rfl, show ((gSa 4).getD (Int32.toNatClampNeg 3) 0) = nI 60 from rfl, show Int32.toNatClampNeg (3 : Int32) = 3 from rfl]
  simp only [Option.bind_some, cond_true]
  rcases m_num hN ht hT (show 60 ≤ 60 by decide) 0 (.inl (by decide)) hK1 with ⟨z1, z2⟩ | ⟨v, rq5, tk5, bg5, en5, vl5, b5, e5, z0, z1, z2, z3, z4, z5⟩
  · rw [z1]
    exact ⟨_, _, _, _, rfl, h2, z2, .inl ⟨jneg1, jltm1, jK_faultF hK1 hf1 _ _⟩⟩
  · rw [z1]
    refine ⟨_, _, _, _, rfl, h2, z2, .inr ⟨?_, jlt1 (by omega), jIt_S (b := b5) (e := e5) ?_ (z4.trans hf1) z3 (by omega)⟩⟩
    · dsimp only
      rw [jgel v 0 rfl (by omega) (by decide)]
      exact decide_eq_true (Nat.zero_le v)
    · exact ⟨⟨(pk_un (by omega)).trans hl0, (pk_un (by omega)).trans hr0⟩, jC_rule (k := 3) hC (by decide), jG_r3 hG (jR_nI (by omega) (by omega) (by omega))⟩
theorem m_chair {N : Nat} (hN : 4000 ≤ N) {tb tp : Nat → Int32} {t b e : Nat} {rq : hRq} {tk bg en : Int32} {vl : Int64} {d : hB} {s : Nat → Int32} (ht : t ≤ 120) (hT : jTp tb tp t) (hJ : jB d s) (hK : jTk tb tp t rq tk bg en vl b e) (hf : rq.2.2.2.2.2 = -1) : ∃ d' rq' q5 q12, me_34_51_10 N 5 d tb rq = some (d', rq') ∧ me_201_63 N tp (nI t) en = some q5 ∧ me_203_63 N 0 60 tp (nI t) q5.1 q5.2.1 q5.2.2.1 q5.2.2.2 = some q12 ∧ ((gCmp .ge q12.1 0 = false ∧ gCmp .lt q12.1 0 = true ∧ jIt tb tp t e d' rq' 0 (upd s 10 (s 10)) q12.2.1 q12.2.2.1 q12.2.2.2.1 q12.2.2.2.2) ∨ (gCmp .ge q12.1 0 = true ∧ gCmp .lt q12.1 0 = false ∧ jIt tb tp t e d' rq' 1 (upd s 10 q12.1) q12.2.1 q12.2.2.1 q12.2.2.2.1 q12.2.2.2.2)) := by
  obtain ⟨⟨hl0, hr0⟩, hC, hG⟩ := id hJ
  obtain ⟨⟨g1, g2, g3, g4, g5, g6, g7⟩, -⟩ := id hK
  obtain ⟨rq1, tk1, bg1, en1, vl1, b1, e1, h1, h2, hK1, hf1, he1⟩ := m_adv hN ht hT g1 g4 g7
  rw [hf] at hf1
  have l1 := hK1.1.2.2.2.2.2.1
  unfold me_34_51_10
  rw [h1, g5, show gIn (5 : Int32) 6 = true from by decide, show ((gSa 3).getD (Int32.toNatClampNeg 5) 0) = 0 from rfl, show ((gSa 4).getD (Int32.toNatClampNeg 5) 0) = nI 60 from rfl, show Int32.toNatClampNeg (5 : Int32) = 5 from rfl]
  simp only [Option.bind_some, cond_true]
  rcases m_num hN ht hT (show 60 ≤ 60 by decide) 0 (.inl (by decide)) hK1 with ⟨z1, z2⟩ | ⟨v, rq5, tk5, bg5, en5, vl5, b5, e5, z0, z1, z2, z3, z4, z5⟩
  · rw [z1]
    exact ⟨_, _, _, _, rfl, h2, z2, .inl ⟨jneg1, jltm1, jK_faultF hK1 hf1 _ _⟩⟩
  · rw [z1]
    refine ⟨_, _, _, _, rfl, h2, z2, .inr ⟨?_, jlt1 (by omega), jIt_S (b := b5) (e := e5) ?_ (z4.trans hf1) z3 (by omega)⟩⟩
    · dsimp only
      rw [jgel v 0 rfl (by omega) (by decide)]
      exact decide_eq_true (Nat.zero_le v)
    · exact ⟨⟨(pk_un (by omega)).trans hl0, (pk_un (by omega)).trans hr0⟩, jC_rule (k := 5) hC (by decide), jG_r5 hG (jR_nI (by omega) (by omega) (by omega))⟩
theorem m_sun {N : Nat} (hN : 4000 ≤ N) {tb tp : Nat → Int32} {t b e : Nat} {rq : hRq} {tk bg en : Int32} {vl : Int64} {d : hB} {s : Nat → Int32} (ht : t ≤ 120) (hT : jTp tb tp t) (hJ : jB d s) (hK : jTk tb tp t rq tk bg en vl b e) (hf : rq.2.2.2.2.2 = -1) : ∃ d' rq' q5 q24, (Option.bind (me_40_51 N tb rq) fun q20 => (Option.bind (me_35_51 N 0 23 tb q20) fun q21 => (Option.bind (me_35_51 N 0 60 tb q21.2) fun q22 => (bif gIn q21.1 24 then some ((d.1, d.2.1, d.2.2.1, d.2.2.2.1, d.2.2.2.2.1, d.2.2.2.2.2.1, d.2.2.2.2.2.2.1, d.2.2.2.2.2.2.2.1, d.2.2.2.2.2.2.2.2.1, d.2.2.2.2.2.2.2.2.2.1, d.2.2.2.2.2.2.2.2.2.2.1, upd d.2.2.2.2.2.2.2.2.2.2.2.1 (Int32.toNatClampNeg q21.1) q22.1, d.2.2.2.2.2.2.2.2.2.2.2.2), q22.2) else none)))) = some (d', rq') ∧ me_201_63 N tp (nI t) en = some q5 ∧ me_206_63 N 1 s tp (nI t) q5.1 q5.2.1 q5.2.2.1 q5.2.2.2 = some q24 ∧ (q24.1 = 0 ∨ q24.1 = 1) ∧ jIt tb tp t e d' rq' q24.1 q24.2.1 q24.2.2.1 q24.2.2.2.1 q24.2.2.2.2.1 q24.2.2.2.2.2 := by
  obtain ⟨⟨hl0, hr0⟩, hC, hG⟩ := id hJ
  obtain ⟨⟨g1, g2, g3, g4, g5, g6, g7⟩, -⟩ := id hK
  obtain ⟨rq1, tk1, bg1, en1, vl1, b1, e1, h1, h2, hK1, hf1, he1⟩ := m_adv hN ht hT g1 g4 g7
  rw [hf] at hf1
  have l1 := hK1.1.2.2.2.2.2.1
  rw [h1, g5]
  simp only [Option.bind_some]
  unfold me_206_63
  rcases m_num hN ht hT (show 23 ≤ 60 by decide) 0 (.inl (by decide)) hK1 with ⟨z1, z2⟩ | ⟨v, rq5, tk5, bg5, en5, vl5, b5, e5, z0, z1, z2, z3, z4, z5⟩
  · have z1' : me_35_51 N 0 23 tb rq1 = some (0, f_39_51_rq rq1) := z1
    have z2' : me_203_63 N 0 (bif gCmp .eq (1 : Int32) 0 then 60 else 23) tp (nI t) tk1 bg1 en1 vl1 = some (-1, tk1, bg1, en1, vl1) := z2
    obtain ⟨⟨u1, u2, u3, u4, u5, u6, u7⟩, -⟩ := id hK1
    have hff := f39_f hf1 u2
    rw [z1']
    simp only [Option.bind_some]
    rcases m_num hN ht hT (show 60 ≤ 60 by decide) 0 (.inl (by decide)) (f39_k hK1) with ⟨y1, y2⟩ | ⟨v, rq6, tk6, bg6, en6, vl6, b6, e6, y0, y1, y2, y3, y4, y5⟩
    · rw [show me_35_51 N 0 60 tb (f_39_51_rq rq1) = _ from y1]
      simp only [Option.bind_some]
      rw [show gIn (0 : Int32) 24 = true from by decide]
      refine ⟨_, _, (tk1, bg1, en1, vl1), (0, s, tk1, bg1, en1, vl1), rfl, h2, ?_, .inl rfl, jIt_F (show b1 ≤ t by omega) u3 (f39_s (show b1 < 2 ^ 31 by omega) hff) u1 u7 u4⟩
      rw [z2']
      rfl
    · rw [show me_35_51 N 0 60 tb (f_39_51_rq rq1) = _ from y1]
      simp only [Option.bind_some]
      rw [show gIn (0 : Int32) 24 = true from by decide]
      refine ⟨_, _, (tk1, bg1, en1, vl1), (0, s, tk1, bg1, en1, vl1), rfl, h2, ?_, .inl rfl, jIt_F (show b1 ≤ t by omega) u3 (y4.trans hff) y3.1.1 y3.1.2.2.2.2.2.2 y3.1.2.2.2.1⟩
      rw [z2']
      rfl
  · have z1' : me_35_51 N 0 23 tb rq1 = some (nI v, rq5) := z1
    have z2' : me_203_63 N 0 (bif gCmp .eq (1 : Int32) 0 then 60 else 23) tp (nI t) tk1 bg1 en1 vl1 = some (nI v, tk5, bg5, en5, vl5) := z2
    have l5 := z3.1.2.2.2.2.2.1
    have hge : gCmp .ge (nI v) 0 = true := by
      rw [jgel v 0 rfl (by omega) (by decide)]
      exact decide_eq_true (Nat.zero_le v)
    rw [z1']
    simp only [Option.bind_some]
    rcases m_num hN ht hT (show 60 ≤ 60 by decide) 0 (.inl (by decide)) z3 with ⟨y1, y2⟩ | ⟨v2, rq6, tk6, bg6, en6, vl6, b6, e6, y0, y1, y2, y3, y4, y5⟩
    · rw [show me_35_51 N 0 60 tb rq5 = _ from y1]
      simp only [Option.bind_some]
      rw [jin (show v < 24 by omega) (by decide)]
      refine ⟨_, _, (tk1, bg1, en1, vl1), (0, s, tk5, bg5, en5, vl5), rfl, h2, ?_, .inl rfl, jK_faultF z3 (z4.trans hf1) _ _⟩
      rw [z2']
      simp only [Option.bind_some]
      rw [hge, show me_203_63 N 0 60 tp (nI t) tk5 bg5 en5 vl5 = _ from y2]
      rfl
    · rw [show me_35_51 N 0 60 tb rq5 = _ from y1]
      simp only [Option.bind_some]
      rw [jin (show v < 24 by omega) (by decide)]
      have hge2 : gCmp .ge (nI v2) 0 = true := by
        rw [jgel v2 0 rfl (by omega) (by decide)]
        exact decide_eq_true (Nat.zero_le v2)
      refine ⟨_, _, (tk1, bg1, en1, vl1), (1, (upd s (100 + v) (nI v2)), tk6, bg6, en6, vl6), rfl, h2, ?_, .inr rfl, jIt_S (b := b6) (e := e6) ?_ (y4.trans (z4.trans hf1)) y3 (by omega)⟩
      · rw [z2']
        simp only [Option.bind_some]
        rw [hge, show me_203_63 N 0 60 tp (nI t) tk5 bg5 en5 vl5 = _ from y2]
        simp only [cond_true, Option.bind_some]
        rw [hge2]
        rw [(joff 100 rfl (show 100 + v < 134 by omega)).1, (joff 100 rfl (show 100 + v < 134 by omega)).2]
        rfl
      · rw [jcl (show v < 2 ^ 31 by omega)]
        exact ⟨⟨(pk_un (by omega)).trans hl0, (pk_un (by omega)).trans hr0⟩, jC_sun hC (by omega), jG_sun hG (by omega) (jR_nI (by omega) (by omega) (by omega))⟩
theorem m_up {N : Nat} (hN : 4000 ≤ N) {tb tp : Nat → Int32} {t b e : Nat} {rq : hRq} {tk bg en : Int32} {vl : Int64} {d : hB} {s : Nat → Int32} (ht : t ≤ 120) (hT : jTp tb tp t) (hJ : jB d s) (hK : jTk tb tp t rq tk bg en vl b e) (hf : rq.2.2.2.2.2 = -1) : ∃ d' rq' q5 q24, (Option.bind (me_40_51 N tb rq) fun q20 => (Option.bind (me_35_51 N 0 60 tb q20) fun q21 => (Option.bind (me_35_51 N 0 60 tb q21.2) fun q22 => some ((q21.1, q22.1, d.2.2), q22.2)))) = some (d', rq') ∧ me_201_63 N tp (nI t) en = some q5 ∧ me_206_63 N 0 s tp (nI t) q5.1 q5.2.1 q5.2.2.1 q5.2.2.2 = some q24 ∧ (q24.1 = 0 ∨ q24.1 = 1) ∧ jIt tb tp t e d' rq' q24.1 q24.2.1 q24.2.2.1 q24.2.2.2.1 q24.2.2.2.2.1 q24.2.2.2.2.2 := by
  obtain ⟨⟨hl0, hr0⟩, hC, hG⟩ := id hJ
  obtain ⟨⟨g1, g2, g3, g4, g5, g6, g7⟩, -⟩ := id hK
  obtain ⟨rq1, tk1, bg1, en1, vl1, b1, e1, h1, h2, hK1, hf1, he1⟩ := m_adv hN ht hT g1 g4 g7
  rw [hf] at hf1
  have l1 := hK1.1.2.2.2.2.2.1
  rw [h1, g5]
  simp only [Option.bind_some]
  unfold me_206_63
  rcases m_num hN ht hT (show 60 ≤ 60 by decide) 0 (.inl (by decide)) hK1 with ⟨z1, z2⟩ | ⟨v, rq5, tk5, bg5, en5, vl5, b5, e5, z0, z1, z2, z3, z4, z5⟩
  · have z1' : me_35_51 N 0 60 tb rq1 = some (0, f_39_51_rq rq1) := z1
    have z2' : me_203_63 N 0 (bif gCmp .eq (0 : Int32) 0 then 60 else 23) tp (nI t) tk1 bg1 en1 vl1 = some (-1, tk1, bg1, en1, vl1) := z2
    obtain ⟨⟨u1, u2, u3, u4, u5, u6, u7⟩, -⟩ := id hK1
    have hff := f39_f hf1 u2
    rw [z1']
    simp only [Option.bind_some]
    rcases m_num hN ht hT (show 60 ≤ 60 by decide) 0 (.inl (by decide)) (f39_k hK1) with ⟨y1, y2⟩ | ⟨v, rq6, tk6, bg6, en6, vl6, b6, e6, y0, y1, y2, y3, y4, y5⟩
    · rw [show me_35_51 N 0 60 tb (f_39_51_rq rq1) = _ from y1]
      simp only [Option.bind_some]
      skip
      refine ⟨_, _, (tk1, bg1, en1, vl1), (0, s, tk1, bg1, en1, vl1), rfl, h2, ?_, .inl rfl, jIt_F (show b1 ≤ t by omega) u3 (f39_s (show b1 < 2 ^ 31 by omega) hff) u1 u7 u4⟩
      rw [z2']
      rfl
    · rw [show me_35_51 N 0 60 tb (f_39_51_rq rq1) = _ from y1]
      simp only [Option.bind_some]
      skip
      refine ⟨_, _, (tk1, bg1, en1, vl1), (0, s, tk1, bg1, en1, vl1), rfl, h2, ?_, .inl rfl, jIt_F (show b1 ≤ t by omega) u3 (y4.trans hff) y3.1.1 y3.1.2.2.2.2.2.2 y3.1.2.2.2.1⟩
      rw [z2']
      rfl
  · have z1' : me_35_51 N 0 60 tb rq1 = some (nI v, rq5) := z1
    have z2' : me_203_63 N 0 (bif gCmp .eq (0 : Int32) 0 then 60 else 23) tp (nI t) tk1 bg1 en1 vl1 = some (nI v, tk5, bg5, en5, vl5) := z2
    have l5 := z3.1.2.2.2.2.2.1
    have hge : gCmp .ge (nI v) 0 = true := by
      rw [jgel v 0 rfl (by omega) (by decide)]
      exact decide_eq_true (Nat.zero_le v)
    rw [z1']
    simp only [Option.bind_some]
    rcases m_num hN ht hT (show 60 ≤ 60 by decide) 0 (.inl (by decide)) z3 with ⟨y1, y2⟩ | ⟨v2, rq6, tk6, bg6, en6, vl6, b6, e6, y0, y1, y2, y3, y4, y5⟩
    · rw [show me_35_51 N 0 60 tb rq5 = _ from y1]
      simp only [Option.bind_some]
      skip
      refine ⟨_, _, (tk1, bg1, en1, vl1), (0, s, tk5, bg5, en5, vl5), rfl, h2, ?_, .inl rfl, jK_faultF z3 (z4.trans hf1) _ _⟩
      rw [z2']
      simp only [Option.bind_some]
      rw [hge, show me_203_63 N 0 60 tp (nI t) tk5 bg5 en5 vl5 = _ from y2]
      rfl
    · rw [show me_35_51 N 0 60 tb rq5 = _ from y1]
      simp only [Option.bind_some]
      skip
      have hge2 : gCmp .ge (nI v2) 0 = true := by
        rw [jgel v2 0 rfl (by omega) (by decide)]
        exact decide_eq_true (Nat.zero_le v2)
      refine ⟨_, _, (tk1, bg1, en1, vl1), (1, (upd (upd s 0 (nI v)) 1 (nI v2)), tk6, bg6, en6, vl6), rfl, h2, ?_, .inr rfl, jIt_S (b := b6) (e := e6) ?_ (y4.trans (z4.trans hf1)) y3 (by omega)⟩
      · rw [z2']
        simp only [Option.bind_some]
        rw [hge, show me_203_63 N 0 60 tp (nI t) tk5 bg5 en5 vl5 = _ from y2]
        simp only [cond_true, Option.bind_some]
        rw [hge2]
        skip
        rfl
      · show jB (nI v, nI v2, d.2.2) (upd (upd s 0 (nI v)) 1 (nI v2))
        exact ⟨⟨rfl, rfl⟩, jC_rr (jC_l hC), jG_rr (jG_l hG (jR_nI (by omega) (by omega) (by omega))) (jR_nI (by omega) (by omega) (by omega))⟩
