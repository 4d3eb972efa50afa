def ja0 (s : Nat → Int32) : Nat := 61 * (s 0).toNatClampNeg + (s 1).toNatClampNeg
def jX (ex : Int32) (sB : hB) (pr wd : Int32) (qu : Nat → Int32) : Prop := ex = 0 ∨ (ex = 1 ∧ ∃ t sn, jB sB t ∧ jRc (jfull t (ja0 t)) pr wd sn qu)
theorem m_fresh {N : Nat} (hN : 4000 ≤ N) {b st w : hB} {s : Nat → Int32} (hJ : jB b s) (sn : Nat → Int64) (qu : Nat → Int32) : ∃ w' pr' wd' sn' qu', (Option.bind (me_6_29 N 0 sn) fun q2 =>
    (bif gIn (f_10_40_1_w b w).1 61 then (bif ((gCmp .ne (lg_cmp ((q2 (Int32.toNatClampNeg (f_10_40_1_w b w).1)) &&& ((1 : Int64) <<< (Int32.toInt64 (f_10_40_1_w b w).2.1 &&& 63))) 0) 0) || (!(gCmp .lt 0 3721) || (gIn 0 3721))) then (Option.bind (lp_45_28_1_66 N b N 0 (f_10_40_1_w b w) (f_46_28_pr (f_10_40_1_w b w) 0 q2) (f_46_28_wd (f_10_40_1_w b w) 0 0 q2) (f_46_28_sn (f_10_40_1_w b w) 0 q2) (f_46_28_qu 0 0 (f_10_40_1_w b w) 0 q2 qu)) fun q5 =>
    some ((f_10_31_1_s b st), q5.2.1, (1 : Int32), q5.2.2.1, q5.2.2.2.1, q5.2.2.2.2.1, q5.2.2.2.2.2)) else none) else none)) = some (f_10_31_1_s b st, w', 1, pr', wd', sn', qu') ∧ jRc (jfull s (ja0 s)) pr' wd' sn' qu' := by
  obtain ⟨⟨hl, hr⟩, hC, hG⟩ := id hJ
  obtain ⟨l, hl60, el⟩ := jR_u 60 hG.1.1 (by decide)
  obtain ⟨r, hr60, er⟩ := jR_u 60 hG.1.2.1 (by decide)
  obtain ⟨P, hP, eP⟩ := jR_u 8 hG.1.2.2.2 (by decide)
  have ebl : b.1 = nI l := by rw [← hl]; exact el
  have ebr : b.2.1 = nI r := by rw [← hr]; exact er
  have ebP : b.2.2.2.2.1 = nI P := by rw [← hC.1.2.2]; exact eP
  have ea0 : ja0 s = 61 * l + r := by unfold ja0; rw [el, er, jcl (by omega), jcl (by omega)]
  obtain ⟨sn1, g1, g2⟩ := l_fill6 (N := N) 61 0 N sn rfl (by omega) (fun j hj => absurd hj (by omega))
  have hfill : me_6_29 N 0 sn = some sn1 := by
    unfold me_6_29
    rw [show lp_6_29_6 N 0 61 N 0 sn = _ from g1]
    rfl
  have hw : f_10_40_1_w b w = (nI l, nI r, (f_10_10_1_d b w).2.2) := by rw [← ebl, ← ebr]; rfl
  have hR0 : jRc (0, fun _ => (0, 0, 0, 0)) 0 0 sn1 qu := by
    refine ⟨rfl, fun j hj => absurd (show j < 0 from hj) (by omega), ?_, rfl⟩
    intro l' r' hl' hr'
    constructor
    · intro h
      rw [g2 l' hl'] at h
      exact absurd h (by
        show ¬ (0#64).getLsbD r' = true
        rw [BitVec.getLsbD_zero]
        decide)
    · rintro ⟨j, hj, _⟩
      exact absurd (show j < 0 from hj) (by omega)
  obtain ⟨hR1, hg⟩ := jRc_vis (l := l) (r := r) (d := 0) (o := 0) (c := 0) (f_10_10_1_d b w).2.2 hR0 hl60 hr60 (by decide) (by decide) (show 1 ≤ 3721 by decide) (fun j hj => absurd (show j < 0 from hj) (by omega))
  have hR2 : jRc (jQ0 (61 * l + r)) (f_46_28_pr (nI l, nI r, (f_10_10_1_d b w).2.2) 0 sn1) (f_46_28_wd (nI l, nI r, (f_10_10_1_d b w).2.2) 0 0 sn1) (f_46_28_sn (nI l, nI r, (f_10_10_1_d b w).2.2) 0 sn1) (f_46_28_qu 0 0 (nI l, nI r, (f_10_10_1_d b w).2.2) 0 sn1 qu) := by
    obtain ⟨k1, k2, k3, k4⟩ := hR1
    refine ⟨k1, ?_, ?_, k4⟩
    · intro j hj
      obtain rfl : j = 0 := by have : j < 1 := hj; omega
      exact k2 0 (show 0 < 1 by omega)
    · intro l' r' hl' hr'
      rw [k3 l' r' hl' hr']
      constructor
      · rintro ⟨j, hj, e⟩
        obtain rfl : j = 0 := by have : j < 1 := hj; omega
        exact ⟨0, show 0 < 1 by omega, e⟩
      · rintro ⟨j, hj, e⟩
        obtain rfl : j = 0 := by have : j < 1 := hj; omega
        exact ⟨0, show 0 < 1 by omega, e⟩
  obtain ⟨y, w', pr', wd', sn', qu', g3, g4⟩ := l_66 hN (b := b) (e := (f_10_10_1_d b w).2.2) (u := b.1) (v := b.2.1) (jC_take hC) hG eP ebP hP (show 61 * l + r < 3721 by omega) 3722 0 N (jQ0 (61 * l + r)) (nI l, nI r, (f_10_10_1_d b w).2.2) _ _ _ _ rfl (by omega) rfl (jQ0_Inv _ _ _) (Nat.zero_le _) hR2
  refine ⟨w', pr', wd', sn', qu', ?_, ?_⟩
  · rw [hfill, hw]
    simp only [Option.bind_some]
    rw [jin (show l < 61 by omega) (by decide), show (gCmp .ne (lg_cmp ((sn1 (Int32.toNatClampNeg (nI l))) &&& ((1 : Int64) <<< (Int32.toInt64 (nI r) &&& 63))) 0) 0 || (!(gCmp .lt 0 3721) || gIn 0 3721)) = true from hg, show lp_45_28_1_66 N b N 0 (nI l, nI r, (f_10_10_1_d b w).2.2) (f_46_28_pr (nI l, nI r, (f_10_10_1_d b w).2.2) 0 sn1) (f_46_28_wd (nI l, nI r, (f_10_10_1_d b w).2.2) 0 0 sn1) (f_46_28_sn (nI l, nI r, (f_10_10_1_d b w).2.2) 0 sn1) (f_46_28_qu 0 0 (nI l, nI r, (f_10_10_1_d b w).2.2) 0 sn1 qu) = _ from g3]
    rfl
  · unfold jfull
    rw [eP, jcl (show P < 2 ^ 31 by omega), ea0]
    exact g4
theorem jneF {x y : Int32} (h : gCmp .ne x y = false) : x = y := by
  have h2 : (!decide (x = y)) = false := h
  cases h3 : decide (x = y)
  · rw [h3] at h2; cases h2
  · exact of_decide_eq_true h3
theorem l_41 {N : Nat} {b c : hB} : ∀ (m i n : Nat) (y : Int32), i + m = 4 → m < n → (y = 0 ∨ y = 1) → ∃ y', lp_11_31_1_41 N b c n y (nI i) = some (y', nI 4) ∧ (y' = 0 ∨ (y' = 1 ∧ y = 1 ∧ ∀ j, i ≤ j → j < 4 → c.2.2.2.2.2.2.2.2.1 j = b.2.2.2.2.2.2.2.2.1 j)) := by
  intro m
  induction m with
  | zero =>
    intro i n y hi hn hy
    obtain rfl : i = 4 := by omega
    cases n with
    | zero => exact absurd hn (by omega)
    | succ n =>
      refine ⟨y, rfl, ?_⟩
      rcases hy with h | h
      · exact .inl h
      · exact .inr ⟨h, h, fun j h1 h2 => absurd h1 (by omega)⟩
  | succ m ih =>
    intro i n y hi hn hy
    cases n with
    | zero => exact absurd hn (by omega)
    | succ n =>
      rw [lp_11_31_1_41, jgtl i 3 rfl (by omega) (by decide), decide_eq_false (show ¬ 3 < i by omega), jin (show i < 6 by omega) (by decide), jcl (show i < 2 ^ 31 by omega), nI_1, Bool.or_true]
      rcases hy with rfl | rfl
      · obtain ⟨y', g1, g2⟩ := ih (i + 1) n 0 (by omega) (by omega) (.inl rfl)
        refine ⟨y', g1, .inl ?_⟩
        rcases g2 with g | ⟨_, g, _⟩
        · exact g
        · exact absurd g (by decide)
      · rw [je1]
        simp only [cond_false, cond_true]
        cases hne : gCmp .ne (c.2.2.2.2.2.2.2.2.1 i) (b.2.2.2.2.2.2.2.2.1 i)
        · obtain ⟨y', g1, g2⟩ := ih (i + 1) n 1 (by omega) (by omega) (.inr rfl)
          refine ⟨y', g1, ?_⟩
          rcases g2 with g | ⟨h1, h2, h3⟩
          · exact .inl g
          · refine .inr ⟨h1, trivial, fun j hj1 hj2 => ?_⟩
            by_cases e : j = i
            · subst e; exact jneF hne
            · exact h3 j (by omega) hj2
        · obtain ⟨y', g1, g2⟩ := ih (i + 1) n 0 (by omega) (by omega) (.inl rfl)
          refine ⟨y', g1, .inl ?_⟩
          rcases g2 with g | ⟨_, g, _⟩
          · exact g
          · exact absurd g (by decide)
theorem l_79 {N : Nat} {b c : hB} {P : Nat} (hc : c.2.2.2.2.1 = nI P) (hP : P ≤ 8) : ∀ (m i n : Nat) (y : Int32), i + m = P → m < n → (y = 0 ∨ y = 1) → ∃ y' w, lp_11_31_1_79 N b c n y (nI i) = some (y', w) ∧ (y' = 0 ∨ (y' = 1 ∧ y = 1 ∧ ∀ j, i ≤ j → j < P → c.2.2.2.2.2.1 j = b.2.2.2.2.2.1 j ∧ c.2.2.2.2.2.2.1 j = b.2.2.2.2.2.2.1 j ∧ c.2.2.2.2.2.2.2.1 j = b.2.2.2.2.2.2.2.1 j)) := by
  intro m
  induction m with
  | zero =>
    intro i n y hi hn hy
    obtain rfl : i = P := by omega
    cases n with
    | zero => exact absurd hn (by omega)
    | succ n =>
      rw [lp_11_31_1_79, hc, jge i i rfl rfl (by omega) (by omega), decide_eq_true (Nat.le_refl i)]
      rcases hy with rfl | rfl
      · exact ⟨_, _, rfl, .inl rfl⟩
      · exact ⟨_, _, rfl, .inr ⟨rfl, rfl, fun j h1 h2 => absurd h1 (by omega)⟩⟩
  | succ m ih =>
    intro i n y hi hn hy
    cases n with
    | zero => exact absurd hn (by omega)
    | succ n =>
      rw [lp_11_31_1_79, hc, jge i P rfl rfl (by omega) (by omega), decide_eq_false (show ¬ P ≤ i by omega), jgel i 8 rfl (by omega) (by decide), decide_eq_false (show ¬ 8 ≤ i by omega), jin (show i < 8 by omega) (by decide), jcl (show i < 2 ^ 31 by omega), nI_1, Bool.or_true]
      rcases hy with rfl | rfl
      · exact ⟨_, _, rfl, .inl rfl⟩
      · rw [je1]
        simp only [cond_false, cond_true]
        have h0 : ∃ y' w, lp_11_31_1_79 N b c n 0 (nI (i + 1)) = some (y', w) ∧ (y' = 0 ∨ (y' = 1 ∧ True ∧ ∀ j, i ≤ j → j < P → c.2.2.2.2.2.1 j = b.2.2.2.2.2.1 j ∧ c.2.2.2.2.2.2.1 j = b.2.2.2.2.2.2.1 j ∧ c.2.2.2.2.2.2.2.1 j = b.2.2.2.2.2.2.2.1 j)) := by
          obtain ⟨y', w, g1, g2⟩ := ih (i + 1) n 0 (by omega) (by omega) (.inl rfl)
          refine ⟨y', w, g1, .inl ?_⟩
          rcases g2 with g | ⟨_, g, _⟩
          · exact g
          · exact absurd g (by decide)
        cases hk : gCmp .ne (c.2.2.2.2.2.1 i) (b.2.2.2.2.2.1 i)
        · cases hb : gCmp .ne (c.2.2.2.2.2.2.1 i) (b.2.2.2.2.2.2.1 i)
          · cases hl : gCmp .ne (c.2.2.2.2.2.2.2.1 i) (b.2.2.2.2.2.2.2.1 i)
            · obtain ⟨y', w, g1, g2⟩ := ih (i + 1) n 1 (by omega) (by omega) (.inr rfl)
              refine ⟨y', w, g1, ?_⟩
              rcases g2 with g | ⟨h1, h2, h3⟩
              · exact .inl g
              · refine .inr ⟨h1, trivial, fun j hj1 hj2 => ?_⟩
                by_cases e : j = i
                · subst e; exact ⟨jneF hk, jneF hb, jneF hl⟩
                · exact h3 j (by omega) hj2
            · exact h0
          · exact h0
        · exact h0
theorem m_11 {N : Nat} (hN : 4000 ≤ N) {b c : hB} {P : Nat} (hc : c.2.2.2.2.1 = nI P) (hP : P ≤ 8) : ∃ v, me_11_31_1 N b c = some v ∧ (v = 0 ∨ (v = 1 ∧ c.1 = b.1 ∧ c.2.1 = b.2.1 ∧ c.2.2.2.2.1 = b.2.2.2.2.1 ∧ (∀ j, j < 4 → c.2.2.2.2.2.2.2.2.1 j = b.2.2.2.2.2.2.2.2.1 j) ∧ (∀ j, j < P → c.2.2.2.2.2.1 j = b.2.2.2.2.2.1 j ∧ c.2.2.2.2.2.2.1 j = b.2.2.2.2.2.2.1 j ∧ c.2.2.2.2.2.2.2.1 j = b.2.2.2.2.2.2.2.1 j))) := by
  have hy : (bif gCmp .ne c.1 b.1 then (0 : Int32) else (bif gCmp .ne c.2.1 b.2.1 then 0 else (bif gCmp .ne c.2.2.2.2.1 b.2.2.2.2.1 then 0 else 1))) = 0 ∨ ((bif gCmp .ne c.1 b.1 then (0 : Int32) else (bif gCmp .ne c.2.1 b.2.1 then 0 else (bif gCmp .ne c.2.2.2.2.1 b.2.2.2.2.1 then 0 else 1))) = 1 ∧ c.1 = b.1 ∧ c.2.1 = b.2.1 ∧ c.2.2.2.2.1 = b.2.2.2.2.1) := by
    cases h1 : gCmp .ne c.1 b.1
    · cases h2 : gCmp .ne c.2.1 b.2.1
      · cases h3 : gCmp .ne c.2.2.2.2.1 b.2.2.2.2.1
        · exact .inr ⟨rfl, jneF h1, jneF h2, jneF h3⟩
        · exact .inl rfl
      · exact .inl rfl
    · exact .inl rfl
  unfold me_11_31_1
  generalize (bif gCmp .ne c.1 b.1 then (0 : Int32) else (bif gCmp .ne c.2.1 b.2.1 then 0 else (bif gCmp .ne c.2.2.2.2.1 b.2.2.2.2.1 then 0 else 1))) = y at hy ⊢
  obtain ⟨y1, g1, g2⟩ := l_41 (N := N) (b := b) (c := c) 4 0 N y rfl (by omega) (by rcases hy with h | ⟨h, _⟩; exact .inl h; exact .inr h)
  obtain ⟨y2, w, g3, g4⟩ := l_79 (N := N) (b := b) hc hP P 0 N y1 (by omega) (by omega) (by rcases g2 with h | ⟨h, _⟩; exact .inl h; exact .inr h)
  rw [show lp_11_31_1_41 N b c N y 0 = _ from g1]
  simp only [Option.bind_some]
  rw [show lp_11_31_1_79 N b c N y1 0 = _ from g3]
  simp only [Option.bind_some]
  rcases g4 with rfl | ⟨rfl, rfl, k1⟩
  · exact ⟨0, rfl, .inl rfl⟩
  · refine ⟨1, rfl, .inr ⟨rfl, ?_⟩⟩
    rcases g2 with g | ⟨_, rfl, k2⟩
    · exact absurd g (by decide)
    · rcases hy with h | ⟨_, h1, h2, h3⟩
      · exact absurd h (by decide)
      · exact ⟨h1, h2, h3, fun j hj => k2 j (Nat.zero_le j) hj, fun j hj => k1 j (Nat.zero_le j) hj⟩
theorem jmv_eq {b c : hB} {s t : Nat → Int32} {P : Nat} (hB1 : jC b s) (hB2 : jC c t) (hc : c.2.2.2.2.1 = nI P) (hP : P ≤ 8) (h3 : c.2.2.2.2.1 = b.2.2.2.2.1) (hr : ∀ j, j < 4 → c.2.2.2.2.2.2.2.2.1 j = b.2.2.2.2.2.2.2.2.1 j) (hk : ∀ j, j < P → c.2.2.2.2.2.1 j = b.2.2.2.2.2.1 j ∧ c.2.2.2.2.2.2.1 j = b.2.2.2.2.2.2.1 j ∧ c.2.2.2.2.2.2.2.1 j = b.2.2.2.2.2.2.2.1 j) : jmv t = jmv s := by
  funext k a
  unfold jmv
  have et3 : t 3 = nI P := by rw [hB2.1.2.2]; exact hc
  have es3 : s 3 = nI P := by rw [hB1.1.2.2, ← h3]; exact hc
  rw [et3, es3, jcl (show P < 2 ^ 31 by omega)]
  by_cases hkP : k < P
  · rw [if_pos hkP, if_pos hkP]
    have hk8 : k < 8 := by omega
    have hM : ∀ p, jM t (nI k) p = jM s (nI k) p := by
      intro p
      obtain ⟨a1, a2, a3⟩ := hB2.2.1 k hk8
      obtain ⟨b1, b2, b3⟩ := hB1.2.1 k hk8
      obtain ⟨c1, c2, c3⟩ := hk k hkP
      have r : ∀ j, j < 4 → t (5 + j) = s (5 + j) := fun j hj => by rw [hB2.2.2.1 j (by omega), hB1.2.2.1 j (by omega)]; exact hr j hj
      unfold jM f_136_63_m_tl f_136_63_m_tr v_133_63 v_134_63 v_131_63
      rw [(j153_0 hk8).2, (j153_1 hk8).2, (j153_2 hk8).2, a1, a2, a3, b1, b2, b3, c1, c2, c3, r 0 (by decide), r 1 (by decide), r 2 (by decide), r 3 (by decide)]
    rw [hM]
  · rw [if_neg hkP, if_neg hkP]
theorem m_45 {N : Nat} (hN : 4000 ≤ N) {b st w : hB} {s : Nat → Int32} {ex pr wd : Int32} {sn : Nat → Int64} {qu : Nat → Int32} (hJ : jB b s) (hX : jX ex st pr wd qu) : ∃ st' w' ex' pr' wd' sn' qu', me_45_28_1 N b st w ex pr wd sn qu = some (st', w', ex', pr', wd', sn', qu') ∧ jX ex' st' pr' wd' qu' ∧ ∃ sn2, jRc (jfull s (ja0 s)) pr' wd' sn2 qu' := by
  obtain ⟨w', pr', wd', sn', qu', g1, g2⟩ := m_fresh hN (st := st) (w := w) hJ sn qu
  have hnew : jX 1 (f_10_31_1_s b st) pr' wd' qu' := .inr ⟨rfl, s, sn', jB_take (d := st) hJ, g2⟩
  unfold me_45_28_1
  rcases hX with rfl | ⟨rfl, t, sn0, hT, hRt⟩
  · rw [je0]
    exact ⟨_, _, _, _, _, _, _, g1, hnew, _, g2⟩
  · obtain ⟨P, hP, eP⟩ := jR_u 8 hT.2.2.1.2.2.2 (by decide)
    have ec : st.2.2.2.2.1 = nI P := by rw [← hT.2.1.1.2.2]; exact eP
    obtain ⟨v, h1, h2⟩ := m_11 hN (b := b) ec hP
    rw [je1, h1]
    simp only [cond_false, Option.bind_some]
    rcases h2 with rfl | ⟨rfl, k1, k2, k3, k4, k5⟩
    · rw [je0]
      exact ⟨_, _, _, _, _, _, _, g1, hnew, _, g2⟩
    · rw [je1]
      refine ⟨_, _, _, _, _, _, _, rfl, .inr ⟨rfl, t, sn0, hT, hRt⟩, sn0, ?_⟩
      have e1 : jmv t = jmv s := jmv_eq hJ.2.1 hT.2.1 ec hP k3 k4 k5
      have e2 : ja0 t = ja0 s := by
        unfold ja0
        rw [hT.1.1, hT.1.2, hJ.1.1, hJ.1.2, k1, k2]
      have e3 : t 3 = s 3 := by rw [hT.2.1.1.2.2, hJ.2.1.1.2.2]; exact k3
      unfold jfull at hRt ⊢
      rw [e1, e2, e3] at hRt
      exact hRt
theorem l_51 {N : Nat} {Q : jQ} {pr wd : Int32} {sn : Nat → Int64} {qu : Nat → Int32} {h : Nat} (hh : h ≤ 60) (hR : jRc Q pr wd sn qu) (hQ : Q.1 ≤ 3721) (hb : ∀ j, j < Q.1 → (Q.2 j).1 < 3721 ∧ (Q.2 j).2.1 ≤ 3721 ∧ (Q.2 j).2.2.1 < 8) : ∀ (m i n : Nat), i + m = Q.1 → m < n → (∀ j, j < i → ¬ jgl h (Q.2 j).1) → (lp_51_28_2 N (nI h) pr qu n (nI i) = some (-1) ∧ ∀ j, j < Q.1 → ¬ jgl h (Q.2 j).1) ∨ (∃ f, f < Q.1 ∧ lp_51_28_2 N (nI h) pr qu n (nI i) = some (nI f) ∧ jgl h (Q.2 f).1 ∧ ∀ j, j < f → ¬ jgl h (Q.2 j).1) := by
  have epr := hR.1
  intro m
  induction m with
  | zero =>
    intro i n hi hn hno
    obtain rfl : i = Q.1 := by omega
    cases n with
    | zero => exact absurd hn (by omega)
    | succ n =>
      rw [lp_51_28_2, epr, jge Q.1 Q.1 rfl rfl (by omega) (by omega), decide_eq_true (Nat.le_refl _)]
      exact .inl ⟨rfl, hno⟩
  | succ m ih =>
    intro i n hi hn hno
    cases n with
    | zero => exact absurd hn (by omega)
    | succ n =>
      obtain ⟨b1, b2, b3⟩ := hb i (by omega)
      obtain ⟨d1, d2, d3, d4⟩ := jupk (show i < 3721 by omega) (hR.2.1 i (by omega)) b2 b3 b1
      rw [lp_51_28_2, d1, d2, epr, jge i Q.1 rfl rfl (by omega) (by omega), decide_eq_false (show ¬ Q.1 ≤ i by omega), jgel i 3721 rfl (by omega) (by decide), decide_eq_false (show ¬ 3721 ≤ i by omega), jin (show i < 3721 by omega) (by decide), nI_1, jne _ _ rfl rfl (show (Q.2 i).1 / 61 < 2 ^ 31 by omega) (show (Q.2 i).1 % 61 < 2 ^ 31 by omega), jlt _ _ rfl rfl (show (Q.2 i).1 / 61 < 2 ^ 31 by omega) (show h < 2 ^ 31 by omega)]
      rw [← epr]
      by_cases hg : jgl h (Q.2 i).1
      · rw [decide_eq_true hg.1, decide_eq_false (show ¬ (Q.2 i).1 / 61 < h by have := hg.2; omega)]
        exact .inr ⟨i, by omega, rfl, hg, hno⟩
      · have hno2 : ∀ j, j < i + 1 → ¬ jgl h (Q.2 j).1 := by
          intro j hj
          by_cases e : j = i
          · subst e; exact hg
          · exact hno j (by omega)
        have hrec := ih (i + 1) n (by omega) (by omega) hno2
        by_cases k1 : (Q.2 i).1 / 61 = (Q.2 i).1 % 61
        · have k2 : (Q.2 i).1 / 61 < h := by
            by_cases k : (Q.2 i).1 / 61 < h
            · exact k
            · exact absurd ⟨k1, by omega⟩ hg
          rw [decide_eq_true k1, decide_eq_true k2]
          exact hrec
        · rw [decide_eq_false k1]
          exact hrec
