theorem jfull_b {s : Nat → Int32} (hG : jG s) : ∃ P l r : Nat, P ≤ 8 ∧ l ≤ 60 ∧ r ≤ 60 ∧ s 3 = nI P ∧ s 0 = nI l ∧ s 1 = nI r ∧ ja0 s = 61 * l + r := by
  obtain ⟨l, hl60, el⟩ := jR_u 60 hG.1.1 (by decide)
  obtain ⟨r, hr60, er⟩ := jR_u 60 hG.1.2.1 (by decide)
  obtain ⟨P, hP, eP⟩ := jR_u 8 hG.1.2.2.2 (by decide)
  exact ⟨P, l, r, hP, hl60, hr60, eP, el, er, by unfold ja0; rw [el, er, jcl (by omega), jcl (by omega)]⟩
theorem jQb {s : Nat → Int32} {P a : Nat} (h3 : s 3 = nI P) (hP : P ≤ 8) (ha : a < 3721) : (jfull s a).1 ≤ 3721 ∧ ∀ j, j < (jfull s a).1 → ((jfull s a).2 j).1 < 3721 ∧ ((jfull s a).2 j).2.1 ≤ 3721 ∧ ((jfull s a).2 j).2.2.1 < 8 := by
  have hI := jfull_Inv h3 hP ha
  obtain ⟨h1, h2⟩ := jInv_b hI ha (jmv_lt s)
  refine ⟨h2, fun j hj => ⟨h1 j hj, ?_, jT_ole hI hP j hj⟩⟩
  have := jT_dle hI j hj
  omega
theorem jbest_m1 {h : Nat} {Q : jQ} {i : Nat} {y : Int32} (hB : jbest h Q i y) (hd : ∀ j, j < i → (Q.2 j).2.1 ≤ 3721) : gCmp .ge y (-1) = true := by
  refine decide_eq_true ?_
  rw [Int32.le_iff_toInt_le]
  rcases hB with ⟨rfl, _⟩ | ⟨f, hf, rfl, _, _⟩
  · exact Int.le_refl _
  · have := hd f hf
    rw [nI_toInt (by omega)]
    show (-1 : Int) ≤ _
    omega
/-- states -/
theorem q_states {N : Nat} (hN : 4000 ≤ N) {b st w : hB} {s : Nat → Int32} {ex pr wd : Int32} {sn : Nat → Int64} {qu : Nat → Int32} (tl tr : Int32) (fa od : Nat → Int32) (hJ : jB b s) (hX : jX ex st pr wd qu) : ∃ qc qm, me_80_0 N b st w ex pr wd sn qu = some qc ∧ me_164_63 N s tl tr fa od = some qm ∧ qc.1 = qm.1 ∧ jX qc.2.2.2.1 qc.2.1 qc.2.2.2.2.1 qc.2.2.2.2.2.1 qc.2.2.2.2.2.2.2 := by
  obtain ⟨P, l, r, hP, hl, hr, eP, el, er, ea⟩ := jfull_b hJ.2.2
  obtain ⟨st', w', ex', pr', wd', sn', qu', g1, g2, sn2, g3⟩ := m_45 hN (w := w) (sn := sn) hJ hX
  obtain ⟨y, tl', tr', fa', od', rc', k1, k2, k3⟩ := m_161 hN (hh := 0) eP hP hl hr (by decide) tl tr fa od
  obtain ⟨b1, b2⟩ := jQb eP hP (show 61 * l + r < 3721 by omega)
  rw [ea] at g3
  unfold me_80_0 me_164_63
  rw [g1, el, er, show me_161_63 N (nI l) (nI r) 0 s tl tr fa od = _ from k1]
  simp only [Option.bind_some]
  rw [jbest_m1 k3 (fun j hj => (b2 j hj).2.1)]
  refine ⟨_, _, rfl, rfl, ?_, g2⟩
  show pr' = rc'
  rw [g3.1, k2.1]
theorem jabn {l r : Nat} (hl : l ≤ 60) (hr : r ≤ 60) : v_126 (nI l - nI r) = nI ((l - r) + (r - l)) := by
  unfold v_126 gCmp
  have hs := pk_sub_toInt (a := l) (b := r) (by omega) (by omega)
  have e0 : (0 : Int32).toInt = 0 := rfl
  by_cases h : r ≤ l
  · rw [show decide (0 ≤ nI l - nI r) = true from decide_eq_true (by rw [Int32.le_iff_toInt_le, e0, hs]; omega), show r - l = 0 by omega]
    exact pk_sub h
  · rw [show decide (0 ≤ nI l - nI r) = false from decide_eq_false (by rw [Int32.le_iff_toInt_le, e0, hs]; omega), show l - r = 0 by omega, Nat.zero_add]
    show -(nI l - nI r) = _
    rw [Int32.neg_sub]
    exact pk_sub (by omega)
theorem l_165 {N : Nat} {Q : jQ} {fa od : Nat → Int32} {rc : Int32} (hR : jRm Q fa od rc) (hQ : Q.1 ≤ 3721) (hb : ∀ j, j < Q.1 → (Q.2 j).1 < 3721) : ∀ (m i n : Nat), i + m = Q.1 → m < n → lp_165_63_31 N od rc n (nI (jwd Q.2 i)) (nI i) = some (nI (jwd Q.2 Q.1), nI Q.1) := by
  have erc := hR.1
  intro m
  induction m with
  | zero =>
    intro i n hi hn
    obtain rfl : i = Q.1 := by omega
    cases n with
    | zero => exact absurd hn (by omega)
    | succ n =>
      rw [lp_165_63_31, erc, jge Q.1 Q.1 rfl rfl (by omega) (by omega), decide_eq_true (Nat.le_refl _)]
      rfl
  | succ m ih =>
    intro i n hi hn
    cases n with
    | zero => exact absurd hn (by omega)
    | succ n =>
      have ha := hb i (by omega)
      obtain ⟨e1, e2⟩ := jdm ha
      have hod := (hR.2.1 i (by omega)).1
      have hw := jwd_le (F := Q.2) i (fun j hj => hb j (by omega))
      rw [lp_165_63_31, erc, jge i Q.1 rfl rfl (by omega) (by omega), decide_eq_false (show ¬ Q.1 ≤ i by omega), jin (show i < 3721 by omega) (by decide), jcl (show i < 2 ^ 31 by omega), hod, e2, e1, jabn (show (Q.2 i).1 / 61 ≤ 60 by omega) (show (Q.2 i).1 % 61 ≤ 60 by omega), nI_1, jle _ _ rfl rfl (show ((Q.2 i).1 / 61 - (Q.2 i).1 % 61) + ((Q.2 i).1 % 61 - (Q.2 i).1 / 61) < 2 ^ 31 by omega) (show jwd Q.2 i < 2 ^ 31 by omega)]
      rw [← erc]
      have e3 : (bif decide (((Q.2 i).1 / 61 - (Q.2 i).1 % 61) + ((Q.2 i).1 % 61 - (Q.2 i).1 / 61) ≤ jwd Q.2 i) then nI (jwd Q.2 i) else nI (((Q.2 i).1 / 61 - (Q.2 i).1 % 61) + ((Q.2 i).1 % 61 - (Q.2 i).1 / 61))) = nI (jwd Q.2 (i + 1)) := by
        rw [jwd]
        unfold jab
        by_cases h : jwd Q.2 i < ((Q.2 i).1 / 61 - (Q.2 i).1 % 61) + ((Q.2 i).1 % 61 - (Q.2 i).1 / 61)
        · rw [if_pos h, decide_eq_false (by omega)]; rfl
        · rw [if_neg h, decide_eq_true (by omega)]; rfl
      simp only [cond_false, cond_true]
      rw [e3]
      exact (ih (i + 1) n (by omega) (by omega)).trans (by rw [erc])
/-- worst -/
theorem q_worst {N : Nat} (hN : 4000 ≤ N) {b st w : hB} {s : Nat → Int32} {ex pr wd : Int32} {sn : Nat → Int64} {qu : Nat → Int32} (tl tr : Int32) (fa od : Nat → Int32) (hJ : jB b s) (hX : jX ex st pr wd qu) : ∃ qc qm, me_81_0 N b st w ex pr wd sn qu = some qc ∧ me_165_63 N s tl tr fa od = some qm ∧ qc.1 = qm.1 ∧ jX qc.2.2.2.1 qc.2.1 qc.2.2.2.2.1 qc.2.2.2.2.2.1 qc.2.2.2.2.2.2.2 := by
  obtain ⟨P, l, r, hP, hl, hr, eP, el, er, ea⟩ := jfull_b hJ.2.2
  obtain ⟨st', w', ex', pr', wd', sn', qu', g1, g2, sn2, g3⟩ := m_45 hN (w := w) (sn := sn) hJ hX
  obtain ⟨y, tl', tr', fa', od', rc', k1, k2, k3⟩ := m_161 hN (hh := 0) eP hP hl hr (by decide) tl tr fa od
  obtain ⟨b1, b2⟩ := jQb eP hP (show 61 * l + r < 3721 by omega)
  have k4 := l_165 (N := N) k2 b1 (fun j hj => (b2 j hj).1) (jfull s (61 * l + r)).1 0 N (by omega) (by omega)
  rw [ea] at g3
  unfold me_81_0 me_165_63
  rw [g1, el, er, show me_161_63 N (nI l) (nI r) 0 s tl tr fa od = _ from k1]
  simp only [Option.bind_some]
  rw [jbest_m1 k3 (fun j hj => (b2 j hj).2.1), show lp_165_63_31 N od' rc' N (bif true then 0 else y) 0 = _ from k4]
  refine ⟨_, _, rfl, rfl, ?_, g2⟩
  exact g3.2.2.2
theorem jbest_u {h : Nat} {Q : jQ} {y : Int32} (hB : jbest h Q Q.1 y) {f : Nat} (hf : f < Q.1) (hg : jgl h (Q.2 f).1) (hno : ∀ j, j < f → ¬ jgl h (Q.2 j).1) : y = nI (Q.2 f).2.1 := by
  rcases hB with ⟨rfl, h1⟩ | ⟨f', hf', rfl, h2, h3⟩
  · exact absurd hg (h1 f hf)
  · have : f' = f := by
      rcases Nat.lt_trichotomy f f' with h | h | h
      · exact absurd hg (h3 f h)
      · exact h.symm
      · exact absurd h2 (hno f' h)
    rw [this]
theorem jbest_n {h : Nat} {Q : jQ} {y : Int32} (hB : jbest h Q Q.1 y) (hno : ∀ j, j < Q.1 → ¬ jgl h (Q.2 j).1) : y = -1 := by
  rcases hB with ⟨rfl, h1⟩ | ⟨f', hf', rfl, h2, h3⟩
  · rfl
  · exact absurd h2 (hno f' hf')
/-- fewest -/
theorem q_fewest {N : Nat} (hN : 4000 ≤ N) {b st w : hB} {s fi fo : Nat → Int32} {ex pr wd : Int32} {sn : Nat → Int64} {qu : Nat → Int32} (x0 tl tr : Int32) (fa od : Nat → Int32) (rc : Int32) (hJ : jB b s) (hX : jX ex st pr wd qu) (hF : jF fi fo) : ∃ qc qm, me_78_0 N x0 b st w ex pr wd sn qu fi = some qc ∧ me_162_63 N x0 s fo tl tr fa od rc = some qm ∧ qc.1 = qm.1 ∧ jX qc.2.2.2.1 qc.2.1 qc.2.2.2.2.1 qc.2.2.2.2.2.1 qc.2.2.2.2.2.2.2.1 ∧ jF qc.2.2.2.2.2.2.2.2 qm.2.1 := by
  unfold me_78_0 me_162_63 v_130
  rcases jw x0 0 60 with ⟨h1, h2, h3⟩ | ⟨h1, h2⟩
  · obtain ⟨h, hh, rfl⟩ := jR_u 60 h3 (by decide)
    obtain ⟨P, l, r, hP, hl, hr, eP, el, er, ea⟩ := jfull_b hJ.2.2
    obtain ⟨st', w', ex', pr', wd', sn', qu', g1, g2, sn2, g3⟩ := m_45 hN (w := w) (sn := sn) hJ hX
    obtain ⟨y, tl', tr', fa', od', rc', k1, k2, k3⟩ := m_161 hN (hh := h) eP hP hl hr hh tl tr fa od
    obtain ⟨b1, b2⟩ := jQb eP hP (show 61 * l + r < 3721 by omega)
    rw [ea] at g3
    rw [h1, h2, jn1, g1, el, er, k1]
    unfold me_51_28
    simp only [cond_true, Option.bind_some]
    rcases l_51 (N := N) hh g3 b1 b2 (jfull s (61 * l + r)).1 0 N (by omega) (by omega) (fun j hj => absurd hj (by omega)) with ⟨g4, g5⟩ | ⟨f, hf, g4, g5, g6⟩
    · rw [show lp_51_28_2 N (nI h) pr' qu' N 0 = _ from g4, jbest_n k3 g5]
      simp only [Option.bind_some]
      rw [jneg1]
      exact ⟨_, _, rfl, rfl, rfl, g2, jF_no 3 hF (by decide)⟩
    · obtain ⟨c1, c2, c3⟩ := b2 f hf
      obtain ⟨d1, d2, d3, d4⟩ := jupk (show f < 3721 by omega) (g3.2.1 f hf) c2 c3 c1
      rw [show lp_51_28_2 N (nI h) pr' qu' N 0 = _ from g4, jbest_u k3 hf g5 g6]
      simp only [Option.bind_some]
      rw [jgel f 0 rfl (by omega) (by decide), decide_eq_true (Nat.zero_le f), jin (show f < 3721 by omega) (by decide), d4, jgel _ 0 rfl (show ((jfull s (61 * l + r)).2 f).2.1 < 2 ^ 31 by omega) (by decide), decide_eq_true (Nat.zero_le _)]
      exact ⟨_, _, rfl, rfl, rfl, g2, hF⟩
  · rw [h1, h2, jn0]
    exact ⟨_, _, rfl, rfl, rfl, hX, jF_no 0 hF (by decide)⟩
/-- the model's search for the first pull -/
theorem l_163 {N : Nat} (hN : 4000 ≤ N) {s : Nat → Int32} {P l r h o d : Nat} (eP : s 3 = nI P) (hP : P ≤ 8) (hl : l ≤ 60) (hr : r ≤ 60) (hh : h ≤ 60) (el : s 0 = nI l) (er : s 1 = nI r) (ho : o < P) (hd : d < 3721)
    (hok : ∃ b, jgl h b ∧ jrch (jmv s) P d (jmv s o (61 * l + r)) b) (hmin : ∀ m b, jgl h b → jrch (jmv s) P m (61 * l + r) b → d + 1 ≤ m) (hles : ∀ k b, k < P → jgl h b → jrch (jmv s) P d (jmv s k (61 * l + r)) b → o ≤ k) : ∀ (m k n : Nat) (tl tr : Int32) (fa od : Nat → Int32) (rc : Int32), k + m = o → m + 1 < n → ∃ y4 tl' tr' fa' od' rc', lp_163_63_36 N (nI h) (nI (d + 1)) s n (-1) (nI k) tl tr fa od rc = some (nI o, y4, tl', tr', fa', od', rc') := by
  have hstep : ∀ k, k < P → ∀ tl tr fa od, ∃ l' r' y tl' tr' fa' od' rc', l' ≤ 60 ∧ r' ≤ 60 ∧ jM s (nI k) (nI l, nI r) = (nI l', nI r') ∧ me_161_63 N (nI l') (nI r') (nI h) s tl tr fa od = some (y, tl', tr', fa', od', rc') ∧ gCmp .ne y (nI (d + 1) - 1) = !decide (k = o ∨ y = nI d) ∧ (k = o → y = nI d) ∧ (y = nI d → o ≤ k) := by
    intro k hk tl tr fa od
    obtain ⟨l', r', hl', hr', e1, e2⟩ := jmv_e eP hP hk (a := 61 * l + r)
    rw [show (61 * l + r) / 61 = l by omega, show (61 * l + r) % 61 = r by omega] at e1
    obtain ⟨y, tl', tr', fa', od', rc', k1, k2, k3⟩ := m_161 hN (hh := h) eP hP hl' hr' hh tl tr fa od
    have hI := jfull_Inv eP hP (show 61 * l' + r' < 3721 by omega)
    have hyd : y = nI d → o ≤ k := by
      intro hy
      rcases k3 with ⟨k4, _⟩ | ⟨f, hf, k4, k5, k6⟩
      · rw [k4] at hy
        exact absurd (congrArg Int32.toInt hy) (by rw [nI_toInt (by omega)]; show ¬ (-1 : Int) = _; omega)
      · have hdf := jT_dle hI f hf
        have hb := (jQb eP hP (show 61 * l' + r' < 3721 by omega)).1
        have hde : ((jfull s (61 * l' + r')).2 f).2.1 = d := by
          rw [k4] at hy
          exact (nI_eq (by omega) (by omega)).mp hy
        have hre := jT_reach hI f hf
        rw [hde] at hre
        exact hles k _ hk k5 (by rw [e2]; exact hre)
    have hoy : k = o → y = nI d := by
      intro e
      subst e
      obtain ⟨bb, hb1, hb2⟩ := hok
      rw [e2] at hb2
      obtain ⟨j, hj, ej, hdj⟩ := jT_min hI hP d bb hb2
      rcases k3 with ⟨k4, k5⟩ | ⟨f, hf, k4, k5, k6⟩
      · exact absurd (by rw [ej]; exact hb1) (k5 j hj)
      · have h1 := (jT_first hI hP hf k5 k6).1 d bb hb1 hb2
        have hre := jT_reach hI f hf
        have h2 := hmin (((jfull s (61 * l' + r')).2 f).2.1 + 1) _ k5 ⟨k, hk, by rw [e2]; exact hre⟩
        rw [k4, show ((jfull s (61 * l' + r')).2 f).2.1 = d by omega]
    refine ⟨l', r', y, tl', tr', fa', od', rc', hl', hr', e1, k1, ?_, hoy, hyd⟩
    rw [nI_pred]
    show (!decide (y = nI d)) = _
    congr 1
    exact decide_eq_decide.mpr ⟨fun e => .inr e, fun e => by rcases e with e | e; exact hoy e; exact e⟩
  intro m
  induction m with
  | zero =>
    intro k n tl tr fa od rc hk hn
    obtain rfl : k = o := by omega
    cases n with
    | zero => exact absurd hn (by omega)
    | succ n =>
      cases n with
      | zero => exact absurd hn (by omega)
      | succ n =>
        obtain ⟨l', r', y, tl', tr', fa', od', rc', hl', hr', e1, g1, g2, g3, g4⟩ := hstep k ho (nI 0) (nI 0) fa od
        have e3 : f_136_63_m_tl (nI k) s (f_135_63_m_tl s) (f_135_63_m_tr s) = nI l' := by
          unfold f_135_63_m_tl f_135_63_m_tr
          rw [el, er]
          exact congrArg Prod.fst e1
        have e4 : f_136_63_m_tr (nI k) s (f_135_63_m_tl s) (f_135_63_m_tr s) = nI r' := by
          unfold f_135_63_m_tl f_135_63_m_tr
          rw [el, er]
          exact congrArg Prod.snd e1
        obtain ⟨l2, r2, y2, tl2, tr2, fa2, od2, rc2, hl2, hr2, e5, f1, f2, f3, f4⟩ := hstep k ho (nI l') (nI r') fa od
        rw [e1] at e5
        have ee1 : nI l' = nI l2 := congrArg Prod.fst e5
        have ee2 : nI r' = nI r2 := congrArg Prod.snd e5
        rw [← ee1, ← ee2] at f1
        have hk8 : k < 8 := by omega
        rw [lp_163_63_36, eP, jge k P rfl rfl (by omega) (by omega), decide_eq_false (show ¬ P ≤ k by omega), jlel (d + 1) 0 rfl (by omega) (by decide), decide_eq_false (show ¬ d + 1 ≤ 0 by omega), jneg1, (j153_0 hk8).1, (j153_1 hk8).1, (j153_2 hk8).1, e3, e4, f1]
        simp only [cond_true, cond_false, Option.bind_some]
        rw [f2, decide_eq_true (show k = k ∨ y2 = nI d from .inl rfl), nI_1]
        simp only [Bool.not_true, cond_false]
        rw [lp_163_63_36, eP, jge (k + 1) P rfl rfl (by omega) (by omega), jlel (d + 1) 0 rfl (by omega) (by decide), decide_eq_false (show ¬ d + 1 ≤ 0 by omega), jgel k 0 rfl (by omega) (by decide), decide_eq_true (Nat.zero_le k)]
        cases decide (P ≤ k + 1)
        · exact ⟨_, _, _, _, _, _, rfl⟩
        · exact ⟨_, _, _, _, _, _, rfl⟩
  | succ m ih =>
    intro k n tl tr fa od rc hk hn
    cases n with
    | zero => exact absurd hn (by omega)
    | succ n =>
      have hkP : k < P := by omega
      have hk8 : k < 8 := by omega
      obtain ⟨l0, r0, hl0, hr0, e1, e2⟩ := jmv_e eP hP hkP (a := 61 * l + r)
      rw [show (61 * l + r) / 61 = l by omega, show (61 * l + r) % 61 = r by omega] at e1
      obtain ⟨l', r', y, tl', tr', fa', od', rc', hl', hr', e5, g1, g2, g3, g4⟩ := hstep k hkP (nI l0) (nI r0) fa od
      rw [e1] at e5
      have ee1 : nI l0 = nI l' := congrArg Prod.fst e5
      have ee2 : nI r0 = nI r' := congrArg Prod.snd e5
      rw [← ee1, ← ee2] at g1
      have e3 : f_136_63_m_tl (nI k) s (f_135_63_m_tl s) (f_135_63_m_tr s) = nI l0 := by
        unfold f_135_63_m_tl f_135_63_m_tr
        rw [el, er]
        exact congrArg Prod.fst e1
      have e4 : f_136_63_m_tr (nI k) s (f_135_63_m_tl s) (f_135_63_m_tr s) = nI r0 := by
        unfold f_135_63_m_tl f_135_63_m_tr
        rw [el, er]
        exact congrArg Prod.snd e1
      rw [lp_163_63_36, eP, jge k P rfl rfl (by omega) (by omega), decide_eq_false (show ¬ P ≤ k by omega), jlel (d + 1) 0 rfl (by omega) (by decide), decide_eq_false (show ¬ d + 1 ≤ 0 by omega), jneg1, (j153_0 hk8).1, (j153_1 hk8).1, (j153_2 hk8).1, e3, e4, g1]
      simp only [cond_true, cond_false, Option.bind_some]
      rw [g2, decide_eq_false (show ¬ (k = o ∨ y = nI d) from fun e => by
        rcases e with e | e
        · omega
        · have := g4 e; omega), nI_1]
      simp only [Bool.not_false, cond_true]
      exact ih (k + 1) n _ _ _ _ _ (by omega) (by omega)
/-- first -/
theorem q_first {N : Nat} (hN : 4000 ≤ N) {b st w : hB} {s fi fo : Nat → Int32} {ex pr wd : Int32} {sn : Nat → Int64} {qu : Nat → Int32} (x0 tl tr : Int32) (fa od : Nat → Int32) (rc : Int32) (hJ : jB b s) (hX : jX ex st pr wd qu) (hF : jF fi fo) : ∃ qc qm, me_79_0 N x0 b st w ex pr wd sn qu fi = some qc ∧ me_163_63 N x0 s fo tl tr fa od rc = some qm ∧ qc.1 = qm.1 ∧ jX qc.2.2.2.1 qc.2.1 qc.2.2.2.2.1 qc.2.2.2.2.2.1 qc.2.2.2.2.2.2.2.1 ∧ jF qc.2.2.2.2.2.2.2.2 qm.2.1 := by
  unfold me_79_0 me_163_63 v_130
  rcases jw x0 0 60 with ⟨h1, h2, h3⟩ | ⟨h1, h2⟩
  · obtain ⟨h, hh, rfl⟩ := jR_u 60 h3 (by decide)
    obtain ⟨P, l, r, hP, hl, hr, eP, el, er, ea⟩ := jfull_b hJ.2.2
    obtain ⟨st', w', ex', pr', wd', sn', qu', g1, g2, sn2, g3⟩ := m_45 hN (w := w) (sn := sn) hJ hX
    obtain ⟨y, tl', tr', fa', od', rc', k1, k2, k3⟩ := m_161 hN (hh := h) eP hP hl hr hh tl tr fa od
    obtain ⟨b1, b2⟩ := jQb eP hP (show 61 * l + r < 3721 by omega)
    have hI := jfull_Inv eP hP (show 61 * l + r < 3721 by omega)
    have h163 : ∀ y, gCmp .le y 0 = true → ∃ w7, lp_163_63_36 N (nI h) y s N (-1) 0 tl' tr' fa' od' rc' = some (-1, w7) := by
      intro y hy
      obtain ⟨M, rfl⟩ : ∃ M, N = M + 1 := ⟨N - 1, by omega⟩
      rw [lp_163_63_36, hy]
      cases gCmp .ge 0 (s 3)
      · exact ⟨_, rfl⟩
      · exact ⟨_, rfl⟩
    rw [ea] at g3
    rw [h1, h2, jn1, g1, el, er, k1]
    unfold me_51_28
    simp only [cond_true, Option.bind_some]
    rcases l_51 (N := N) hh g3 b1 b2 (jfull s (61 * l + r)).1 0 N (by omega) (by omega) (fun j hj => absurd hj (by omega)) with ⟨g4, g5⟩ | ⟨f, hf, g4, g5, g6⟩
    · obtain ⟨w7, h7⟩ := h163 (-1) (by decide)
      rw [show lp_51_28_2 N (nI h) pr' qu' N 0 = _ from g4, jbest_n k3 g5, h7]
      simp only [Option.bind_some]
      rw [jneg1, show gCmp .gt (-1 : Int32) 0 = false from by decide]
      exact ⟨_, _, rfl, rfl, rfl, g2, jF_no 3 hF (by decide)⟩
    · obtain ⟨c1, c2, c3⟩ := b2 f hf
      obtain ⟨d1, d2, d3, d4⟩ := jupk (show f < 3721 by omega) (g3.2.1 f hf) c2 c3 c1
      by_cases hf0 : f = 0
      · subst hf0
        have hd0 : ((jfull s (61 * l + r)).2 0).2.1 = 0 := by rw [hI.1.2]
        obtain ⟨w7, h7⟩ := h163 (nI 0) (by decide)
        rw [show lp_51_28_2 N (nI h) pr' qu' N 0 = _ from g4, jbest_u k3 hf g5 g6, hd0, h7]
        simp only [Option.bind_some]
        rw [jneg1, show gCmp .gt (nI 0) 0 = false from by decide]
        exact ⟨_, _, rfl, rfl, rfl, g2, jF_no 3 hF (by decide)⟩
      · obtain ⟨t1, t2⟩ := jT_first hI hP hf g5 g6
        obtain ⟨t3, t4, t5⟩ := t2 (by omega)
        have hd0 := jT_d0 hI (show 0 < f by omega) hf
        have hdl := jT_dle hI f hf
        obtain ⟨y4, tl2, tr2, fa2, od2, rc2, h8⟩ := l_163 hN (d := ((jfull s (61 * l + r)).2 f).2.1 - 1) eP hP hl hr hh el er t3 (by omega) t4 (fun m b hb hr => by have := t1 m b hb hr; omega) t5 ((jfull s (61 * l + r)).2 f).2.2.1 0 N tl' tr' fa' od' rc' (by omega) (by omega)
        rw [show ((jfull s (61 * l + r)).2 f).2.1 - 1 + 1 = ((jfull s (61 * l + r)).2 f).2.1 by omega] at h8
        rw [show lp_51_28_2 N (nI h) pr' qu' N 0 = _ from g4, jbest_u k3 hf g5 g6, show lp_163_63_36 N (nI h) (nI ((jfull s (61 * l + r)).2 f).2.1) s N (-1) 0 tl' tr' fa' od' rc' = _ from h8]
        simp only [Option.bind_some]
        rw [jgtl f 0 rfl (by omega) (by decide), decide_eq_true (show 0 < f by omega), jin (show f < 3721 by omega) (by decide), d3, jgel _ 0 rfl (show ((jfull s (61 * l + r)).2 f).2.2.1 < 2 ^ 31 by omega) (by decide), decide_eq_true (Nat.zero_le _)]
        exact ⟨_, _, rfl, rfl, rfl, g2, hF⟩
  · rw [h1, h2, jn0]
    exact ⟨_, _, rfl, rfl, rfl, hX, jF_no 0 hF (by decide)⟩
