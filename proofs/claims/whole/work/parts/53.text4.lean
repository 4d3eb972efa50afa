/-! TEXTS: numbers with a sign, pulls -/
theorem jneg35 {N X : Nat} {tb : Nat → Int32} {q : hRq} : (bif gCmp .ne q.2.1 2 then some ((0 : Int32), f_39_51_rq q) else (bif gCmp .le q.2.2.2.2.1 (nI X) then (Option.bind (me_40_51 N tb q) fun q16 => some (-q.2.2.2.2.1, q16)) else some (0, f_39_51_rq q))) = (me_35_51 N 0 (nI X) tb q).map (fun r => (-r.1, r.2)) := by
  unfold me_35_51
  rw [show (bif gCmp .ge (0 : Int32) 0 then (0 : Int32) else (bif gCmp .ne q.2.1 4 then 0 else 1)) = 0 from rfl, je0]
  simp only [cond_true]
  have e0 : -(0 : Int32) = 0 := by decide
  cases gCmp .ne q.2.1 2
  · cases gCmp .le q.2.2.2.2.1 (nI X)
    · simp only [cond_false, Option.map_some, e0]
    · cases me_40_51 N tb q
      · rfl
      · rfl
  · simp only [cond_true, Option.map_some, e0]
theorem jminus (v X : Nat) (hv : v ≤ X) (hX : X ≤ 60) : jR (-(X : Int)) X (-nI v) := by
  unfold jR
  rw [sb_negT (by omega)]
  exact ⟨by omega, by omega⟩
theorem jposs (v X : Nat) (hv : v ≤ X) (hX : X ≤ 60) : jR (-(X : Int)) X (nI v) := by
  unfold jR
  rw [nI_toInt (by omega)]
  exact ⟨by omega, by omega⟩
theorem jlt1 {v : Nat} (hv : v ≤ 60) : gCmp .lt (nI v) 0 = false := by
  rw [jltl v 0 rfl (by omega) (by decide)]
  exact decide_eq_false (Nat.not_lt_zero v)
theorem m_snum {N : Nat} (hN : 4000 ≤ N) {tb tp : Nat → Int32} {t b e X : Nat} {rq : hRq} {tk bg en : Int32} {vl : Int64} (ht : t ≤ 120) (hT : jTp tb tp t) (hX : X ≤ 60) (x0 : Int32) (hx0 : gCmp .ge x0 0 = false) (hK : jTk tb tp t rq tk bg en vl b e) :
    (∃ rq1 tk1 bg1 en1 vl1 b1 e1 sg, me_35_51 N x0 (nI X) tb rq = some (0, f_39_51_rq rq1) ∧ me_204_63 N (nI X) tp (nI t) tk bg en vl = some (0, tk1, bg1, en1, vl1, sg) ∧ jTk tb tp t rq1 tk1 bg1 en1 vl1 b1 e1 ∧ rq1.2.2.2.2.2 = rq.2.2.2.2.2 ∧ b ≤ b1) ∨
    (∃ w rq2 tk2 bg2 en2 vl2 b2 e2, jR (-(X : Int)) X w ∧ me_35_51 N x0 (nI X) tb rq = some (w, rq2) ∧ me_204_63 N (nI X) tp (nI t) tk bg en vl = some (1, tk2, bg2, en2, vl2, w) ∧ jTk tb tp t rq2 tk2 bg2 en2 vl2 b2 e2 ∧ rq2.2.2.2.2.2 = rq.2.2.2.2.2 ∧ e ≤ b2) := by
  obtain ⟨⟨g1, g2, g3, g4, g5, g6, g7⟩, h⟩ := id hK
  have hm : (rq.2.1 = 4 ∧ tk = 5) ∨ (gCmp .ne rq.2.1 4 = true ∧ gCmp .ne tk 5 = true) := by
    rcases h with ⟨k1, rfl⟩ | ⟨k1, rfl, _⟩ | ⟨k1, k2, v, k3, k4, ⟨rfl, _⟩ | ⟨rfl, _⟩⟩ | ⟨k1, rfl, k2⟩ | ⟨k1, rfl, k2⟩ | ⟨k1, rfl, k2⟩
    · right; rw [k1]; decide
    · right; rw [k1]; decide
    · right; rw [k1]; decide
    · right; rw [k1]; decide
    · right; rw [k1]; decide
    · left; exact ⟨k1, rfl⟩
    · right; rw [k1]; decide
  rcases hm with ⟨k1, rfl⟩ | ⟨k1, k2⟩
  · obtain ⟨rq1, tk1, bg1, en1, vl1, b1, e1, h1, h2, h3, h4, h5⟩ := m_adv hN ht hT g1 g4 g7
    have hcls : me_35_51 N x0 (nI X) tb rq = (me_35_51 N 0 (nI X) tb rq1).map (fun r => (-r.1, r.2)) := by
      rw [← jneg35]
      conv => lhs; unfold me_35_51
      rw [hx0, k1, show (bif false then (0 : Int32) else (bif gCmp .ne (4 : Int32) 4 then 0 else 1)) = 1 from rfl, je1, h1]
      rfl
    have hmod : me_204_63 N (nI X) tp (nI t) 5 bg en vl = (me_203_63 N 0 (nI X) tp (nI t) tk1 bg1 en1 vl1).bind fun q9 => (bif gCmp .lt q9.1 0 then some ((0 : Int32), q9.2.1, q9.2.2.1, q9.2.2.2.1, q9.2.2.2.2, -q9.1) else some (1, q9.2.1, q9.2.2.1, q9.2.2.2.1, q9.2.2.2.2, -q9.1)) := by
      unfold me_204_63
      rw [show (bif gCmp .ne (5 : Int32) 5 then (0 : Int32) else 1) = 1 from rfl, je1, g5, h2]
      rfl
    rw [hcls, hmod]
    rcases m_num hN ht hT hX 0 (.inl (by decide)) h3 with ⟨f1, f2⟩ | ⟨v, rq2, tk2, bg2, en2, vl2, b2, e2, f1, f2, f3, f4, f5, f6⟩
    · left
      rw [f1, f2]
      exact ⟨rq1, tk1, bg1, en1, vl1, b1, e1, _, by simp only [Option.map_some, show -(0 : Int32) = 0 from by decide], rfl, h3, h4, by omega⟩
    · right
      rw [f2, f3]
      simp only [Option.bind_some]
      rw [jlt1 (show v ≤ 60 by omega)]
      have := h3.1.2.2.2.2.2.1
      exact ⟨-nI v, rq2, tk2, bg2, en2, vl2, b2, e2, jminus v X f1 hX, rfl, rfl, f4, f5.trans h4, by omega⟩
  · have hmod : me_204_63 N (nI X) tp (nI t) tk bg en vl = (me_203_63 N 0 (nI X) tp (nI t) tk bg en vl).bind fun q9 => (bif gCmp .lt q9.1 0 then some ((0 : Int32), q9.2.1, q9.2.2.1, q9.2.2.2.1, q9.2.2.2.2, q9.1) else some (1, q9.2.1, q9.2.2.1, q9.2.2.2.1, q9.2.2.2.2, q9.1)) := by
      unfold me_204_63
      rw [k2]
      rfl
    rw [hmod]
    rcases m_num hN ht hT hX x0 (.inr k1) hK with ⟨f1, f2⟩ | ⟨v, rq2, tk2, bg2, en2, vl2, b2, e2, f1, f2, f3, f4, f5, f6⟩
    · left
      rw [f1, f2]
      exact ⟨rq, tk, bg, en, vl, b, e, _, rfl, rfl, hK, rfl, Nat.le_refl b⟩
    · right
      rw [f2, f3]
      simp only [Option.bind_some]
      rw [jlt1 (show v ≤ 60 by omega)]
      exact ⟨nI v, rq2, tk2, bg2, en2, vl2, b2, e2, jposs v X f1 hX, rfl, rfl, f4, f5, f6⟩
def jRw (s : Nat → Int32) (n : Nat) (k by0 lean : Int32) : Nat → Int32 := upd (upd (upd (upd s (15 + 3 * n) k) (16 + 3 * n) by0) (17 + 3 * n) lean) 3 (nI (n + 1))
theorem jB_add {d : hB} {s : Nat → Int32} {n : Nat} {k by0 lean : Int32} (hJ : jB d s) (h3 : s 3 = nI n) (hn : n < 8) (hk : jR 0 6 k) (hb : jR (-30) 30 by0) (hl : jR (-9) 9 lean) : jB (f_13_10_d k by0 lean d) (jRw s n k by0 lean) ∧ (gCmp .ge d.2.2.2.2.1 8 || gIn d.2.2.2.2.1 8) = true := by
  obtain ⟨⟨hl0, hr0⟩, hC, hG⟩ := id hJ
  have eb : d.2.2.2.2.1 = nI n := by rw [← hC.1.2.2]; exact h3
  unfold f_13_10_d jRw
  rw [eb, jgel n 8 rfl (by omega) (by decide), decide_eq_false (show ¬ 8 ≤ n by omega), jcl (show n < 2 ^ 31 by omega), nI_1, jin hn (by decide)]
  simp only [cond_false]
  refine ⟨⟨⟨?_, ?_⟩, ?_, ?_⟩, rfl⟩
  · rw [pk_un (by omega), pk_un (by omega), pk_un (by omega), pk_un (by omega)]; exact hl0
  · rw [pk_un (by omega), pk_un (by omega), pk_un (by omega), pk_un (by omega)]; exact hr0
  · exact jC_pulls (jC_lean (jC_by (jC_kind hC hn) hn) hn)
  · refine jG_pulls (jG_lean (jG_by (jG_kind hG hn hk) hn hb) hn hl) (jR_nI (by omega) (by omega) (by omega)) ?_
    rw [pk_un (j := 3) (by omega), pk_un (j := 3) (by omega), pk_un (j := 3) (by omega), h3, nI_toInt (by omega), nI_toInt (by omega)]
    omega
theorem e138 {s : Nat → Int32} {n : Nat} (k : Int32) (h3 : s 3 = nI n) (hn : n < 8) : f_138_63_m_s k s = jRw s n k 5 0 := by
  unfold f_138_63_m_s f_132_63_m_s jRw
  rw [h3, (j153_0 hn).2, (j153_1 hn).2, (j153_2 hn).2, pk_un (j := 3) (by omega), pk_un (j := 3) (by omega), pk_un (j := 3) (by omega), h3, nI_1]
theorem e132b {s : Nat → Int32} {n : Nat} (k a c w : Int32) (hn : n < 8) : f_132_63_m_s (nI n) (1 + nI 0) w (jRw s n k a c) = jRw s n k w c ∧ gIn ((15 + (3 * nI n)) + (1 + nI 0)) 134 = true := by
  rw [show (1 : Int32) + nI 0 = 1 from by decide]
  refine ⟨?_, (j153_1 hn).1⟩
  unfold f_132_63_m_s jRw
  rw [(j153_1 hn).2]
  funext j
  by_cases e1 : j = 16 + 3 * n
  · subst e1
    rw [pk_us, pk_un (by omega), pk_un (by omega), pk_us]
  · rw [pk_un e1]
    by_cases e2 : j = 3
    · subst e2; rw [pk_us, pk_us]
    · rw [pk_un e2, pk_un e2]
      by_cases e3 : j = 17 + 3 * n
      · subst e3; rw [pk_us, pk_us]
      · rw [pk_un e3, pk_un e3, pk_un e1, pk_un e1]
theorem e132l {s : Nat → Int32} {n : Nat} (k a c w : Int32) (hn : n < 8) : f_132_63_m_s (nI n) (1 + nI 1) w (jRw s n k a c) = jRw s n k a w ∧ gIn ((15 + (3 * nI n)) + (1 + nI 1)) 134 = true := by
  rw [show (1 : Int32) + nI 1 = 2 from by decide]
  refine ⟨?_, (j153_2 hn).1⟩
  unfold f_132_63_m_s jRw
  rw [(j153_2 hn).2]
  funext j
  by_cases e1 : j = 17 + 3 * n
  · subst e1
    rw [pk_us, pk_un (by omega), pk_us]
  · rw [pk_un e1]
    by_cases e2 : j = 3
    · subst e2; rw [pk_us, pk_us]
    · rw [pk_un e2, pk_un e2, pk_un e1, pk_un e1]
/-- what an item ends with -/
def jIt (tb tp : Nat → Int32) (t e : Nat) (d' : hB) (rq' : hRq) (r : Int32) (s' : Nat → Int32) (tk' bg' en' : Int32) (vl' : Int64) : Prop :=
  (r = 1 ∧ jB d' s' ∧ rq'.2.2.2.2.2 = -1 ∧ ∃ b' e', jTk tb tp t rq' tk' bg' en' vl' b' e' ∧ e ≤ b') ∨
  (r = 0 ∧ (∃ b', b' ≤ t ∧ bg' = nI b' ∧ rq'.2.2.2.2.2 = nI b') ∧ rq'.1 = nI t ∧ ∃ e', e' ≤ t ∧ rq'.2.2.2.1 = nI e')
theorem l205_no {N : Nat} {y2 td tk bg en sg r : Int32} {vl : Int64} {tp s : Nat → Int32} {y : Nat} (hy : y < 2) (h : me_202_63_74 N tk vl = some r) (hr : gCmp .ne r (nI y) = true) (n : Nat) : lp_205_63_31 N y2 tp td (n + 1) (nI y) s tk bg en vl sg = lp_205_63_31 N y2 tp td n (nI (y + 1)) s tk bg en vl sg := by
  rw [lp_205_63_31, jgel y 2 rfl (by omega) (by decide), decide_eq_false (show ¬ 2 ≤ y by omega), h]
  simp only [cond_false, Option.bind_some]
  rw [hr, nI_1]
  rfl
theorem l205_end {N : Nat} {y2 td tk bg en sg : Int32} {vl : Int64} {tp s : Nat → Int32} (n : Nat) : lp_205_63_31 N y2 tp td (n + 1) (nI 2) s tk bg en vl sg = some (1, s, tk, bg, en, vl, sg) := by
  rw [lp_205_63_31, show gCmp .ge (nI 2) 2 = true from by decide]
  rfl
theorem l205_f {N X : Nat} {y2 td tk bg en sg : Int32} {vl : Int64} {tp s : Nat → Int32} {y : Nat} {q4 : Int32 × Int32 × Int32 × Int64} {tkF bgF enF sgF : Int32} {vlF : Int64} (hy : y < 2) (h : me_202_63_74 N tk vl = some (nI y)) (ha : me_201_63 N tp td en = some q4) (hX : (bif gCmp .ne (nI y) 0 then (9 : Int32) else 30) = nI X) (hf : me_204_63 N (nI X) tp td q4.1 q4.2.1 q4.2.2.1 q4.2.2.2 = some (0, tkF, bgF, enF, vlF, sgF)) (n : Nat) : lp_205_63_31 N y2 tp td (n + 1) (nI y) s tk bg en vl sg = some (0, s, tkF, bgF, enF, vlF, sgF) := by
  rw [lp_205_63_31, jgel y 2 rfl (by omega) (by decide), decide_eq_false (show ¬ 2 ≤ y by omega), h]
  simp only [cond_false, Option.bind_some]
  rw [jne y y rfl rfl (by omega) (by omega), decide_eq_true rfl, ha]
  simp only [Bool.not_true, cond_false, Option.bind_some]
  rw [hX, hf]
  rfl
theorem l205_s {N X : Nat} {y2 td tk bg en sg : Int32} {vl : Int64} {tp s : Nat → Int32} {y : Nat} {q4 : Int32 × Int32 × Int32 × Int64} {tkF bgF enF w : Int32} {vlF : Int64} (hy : y < 2) (h : me_202_63_74 N tk vl = some (nI y)) (ha : me_201_63 N tp td en = some q4) (hX : (bif gCmp .ne (nI y) 0 then (9 : Int32) else 30) = nI X) (hf : me_204_63 N (nI X) tp td q4.1 q4.2.1 q4.2.2.1 q4.2.2.2 = some (1, tkF, bgF, enF, vlF, w)) (hg : gIn ((15 + (3 * y2)) + (1 + nI y)) 134 = true) (n : Nat) : lp_205_63_31 N y2 tp td (n + 1) (nI y) s tk bg en vl sg = lp_205_63_31 N y2 tp td n (nI (y + 1)) (f_132_63_m_s y2 (1 + nI y) w s) tkF bgF enF vlF w := by
  rw [lp_205_63_31, jgel y 2 rfl (by omega) (by decide), decide_eq_false (show ¬ 2 ≤ y by omega), h]
  simp only [cond_false, Option.bind_some]
  rw [jne y y rfl rfl (by omega) (by omega), decide_eq_true rfl, ha]
  simp only [Bool.not_true, cond_false, Option.bind_some]
  rw [hX, hf]
  simp only [Option.bind_some]
  rw [jn1, hg, nI_1]
  rfl
/-- what follows a fault is free: it ends -/
theorem m_lean {N : Nat} (hN : 4000 ≤ N) {tb tp : Nat → Int32} {t b e f : Nat} {rq : hRq} {tk bg en : Int32} {vl : Int64} (ht : t ≤ 120) (hT : jTp tb tp t) (hK : jTk tb tp t rq tk bg en vl b e) (hf : f ≤ t) (hfault : rq.2.2.2.2.2 = nI f) : ∃ v, me_38_51_1018 N tb rq = some v ∧ (v = 0 ∨ (v = 1 ∧ ∃ q16 w rq', me_40_51 N tb rq = some q16 ∧ me_35_51 N (-9) 9 tb q16 = some (w, rq') ∧ rq'.1 = nI t ∧ rq'.2.2.2.2.2 = nI f ∧ ∃ e', e' ≤ t ∧ rq'.2.2.2.1 = nI e')) := by
  refine ⟨_, jw_1018 hN ht hK, ?_⟩
  cases hEq tk 1 && decide (vl = lN 239882)
  · exact .inl rfl
  · right
    refine ⟨rfl, ?_⟩
    obtain ⟨⟨g1, g2, g3, g4, g5, g6, g7⟩, h⟩ := id hK
    obtain ⟨rq1, tk1, bg1, en1, vl1, b1, e1, h1, h2, h3, h4, h5⟩ := m_adv hN ht hT g1 g4 g7
    rcases m_snum hN ht hT (show 9 ≤ 60 by decide) (-9) (by decide) h3 with ⟨rq2, tk2, bg2, en2, vl2, b2, e2, sg, k1, k2, k3, k4, k5⟩ | ⟨w, rq2, tk2, bg2, en2, vl2, b2, e2, k1, k2, k3, k4, k5, k6⟩
    · exact ⟨rq1, _, _, h1, k1, k3.1.1, f39_s (by omega) (k4.trans (h4.trans hfault)), e2, k3.1.2.2.2.2.2.2, k3.1.2.2.2.1⟩
    · exact ⟨rq1, _, _, h1, k2, k4.1.1, k5.trans (h4.trans hfault), e2, k4.1.2.2.2.2.2.2, k4.1.2.2.2.1⟩
