abbrev jE : Type := Int32 × Int32 × Int32 × (Nat → Int32) × (Nat → Int32) × (Nat → Int32) × (Nat → Int32) × (Nat → Int32) × (Nat → Int32) × (Nat → Int32) × (Nat → Int32)
theorem j18d {e : jE} {s : Nat → Int32} {k : Nat} {u v : Int32} (h : jC (u, v, e) s) (hG : jG s) (hk : k < 8) (p : Int32 × Int32) : f_18_10_d (nI k) (p.1, p.2, e) = ((jM s (nI k) p).1, (jM s (nI k) p).2, e) := j18 (d := (p.1, p.2, e)) h hG hk
theorem l_19 {N : Nat} {e : jE} {s : Nat → Int32} {k c : Nat} {u v : Int32} (h : jC (u, v, e) s) (hG : jG s) (hk : k < 8) (hc : c ≤ 200) : ∀ (m i n : Nat) (p : Int32 × Int32), i + m = c → m < n → lp_19_10_2 N (nI k) (nI c) n (nI i) (p.1, p.2, e) = some (nI c, ((jI s (nI k) m p).1, (jI s (nI k) m p).2, e)) := by
  intro m
  induction m with
  | zero =>
    intro i n p hi hn
    obtain rfl : i = c := by omega
    cases n with
    | zero => exact absurd hn (by omega)
    | succ n =>
      rw [lp_19_10_2, jge i i rfl rfl (by omega) (by omega), decide_eq_true (Nat.le_refl i)]
      rfl
  | succ m ih =>
    intro i n p hi hn
    cases n with
    | zero => exact absurd hn (by omega)
    | succ n =>
      rw [lp_19_10_2, jge i c rfl rfl (by omega) (by omega), decide_eq_false (show ¬ c ≤ i by omega), jin (n := 8) hk (by decide), nI_1, j18d h hG hk]
      exact ih (i + 1) n (jM s (nI k) p) (by omega) (by omega)
theorem m_19 {N : Nat} (hN : 4000 ≤ N) {d : hB} {s : Nat → Int32} {k c : Nat} (h : jC d s) (hG : jG s) (hk : k < 8) (hc : c ≤ 200) : me_19_10 N (nI k) (nI c) d = some ((jI s (nI k) c (d.1, d.2.1)).1, (jI s (nI k) c (d.1, d.2.1)).2, d.2.2) := by
  unfold me_19_10
  rw [show lp_19_10_2 N (nI k) (nI c) N 0 d = _ from l_19 (N := N) (e := d.2.2) (u := d.1) (v := d.2.1) h hG hk hc c 0 N (d.1, d.2.1) (by omega) (by omega)]
  rfl
theorem l_137 {N : Nat} {s : Nat → Int32} {k c : Nat} (hk : k < 8) (hc : c ≤ 200) : ∀ (m i n : Nat) (p : Int32 × Int32), i + m = c → m < n → lp_137_63_6 N (nI k) (nI c) s n (nI i) p.1 p.2 = some (nI c, (jI s (nI k) m p).1, (jI s (nI k) m p).2) := by
  intro m
  induction m with
  | zero =>
    intro i n p hi hn
    obtain rfl : i = c := by omega
    cases n with
    | zero => exact absurd hn (by omega)
    | succ n =>
      rw [lp_137_63_6, jge i i rfl rfl (by omega) (by omega), decide_eq_true (Nat.le_refl i)]
      rfl
  | succ m ih =>
    intro i n p hi hn
    cases n with
    | zero => exact absurd hn (by omega)
    | succ n =>
      rw [lp_137_63_6, jge i c rfl rfl (by omega) (by omega), decide_eq_false (show ¬ c ≤ i by omega), (j153_0 hk).1, (j153_1 hk).1, (j153_2 hk).1, nI_1]
      exact ih (i + 1) n (jM s (nI k) p) (by omega) (by omega)
theorem m_137 {N : Nat} (hN : 4000 ≤ N) {s : Nat → Int32} {k c : Nat} (hk : k < 8) (hc : c ≤ 200) : me_137_63 N (nI k) (nI c) s = some ((jI s (nI k) c (s 0, s 1)).1 - (jI s (nI k) c (s 0, s 1)).2, (jI s (nI k) c (s 0, s 1)).1, (jI s (nI k) c (s 0, s 1)).2) := by
  unfold me_137_63
  rw [show lp_137_63_6 N (nI k) (nI c) s N 0 (f_135_63_m_tl s) (f_135_63_m_tr s) = _ from l_137 (N := N) (s := s) hk hc c 0 N (s 0, s 1) (by omega) (by omega)]
  rfl
theorem j126 (x : Int32) : (if 0 ≤ x then x else 0 - x) = v_126 x := by
  unfold v_126 gCmp
  by_cases h : 0 ≤ x
  · rw [if_pos h, decide_eq_true h]; rfl
  · rw [if_neg h, decide_eq_false h, Int32.zero_sub]; rfl
theorem j126R {x y : Int32} (hx : jR 0 60 x) (hy : jR 0 60 y) : jR 0 60 (v_126 (x - y)) := by
  obtain ⟨a, ha, rfl⟩ := jR_u 60 hx (by decide)
  obtain ⟨b, hb, rfl⟩ := jR_u 60 hy (by decide)
  unfold v_126 gCmp
  have hs := pk_sub_toInt (a := a) (b := b) (by omega) (by omega)
  have e0 : (0 : Int32).toInt = 0 := rfl
  by_cases h : 0 ≤ nI a - nI b
  · rw [decide_eq_true h]
    rw [Int32.le_iff_toInt_le, e0] at h
    exact ⟨h, by show (nI a - nI b).toInt ≤ 60; omega⟩
  · rw [decide_eq_false h]
    rw [Int32.le_iff_toInt_le, e0] at h
    show jR 0 60 (-(nI a - nI b))
    rw [Int32.neg_sub]
    have hs2 := pk_sub_toInt (a := b) (b := a) (by omega) (by omega)
    exact ⟨by omega, by omega⟩
/-- after -/
theorem q_after {N : Nat} (hN : 4000 ≤ N) {b d : hB} {s fi fo : Nat → Int32} (x0 x1 tl tr : Int32) (hB : jB b s) (hF : jF fi fo) : ∃ qc qm, me_72_0 N x0 x1 b d fi = some qc ∧ me_154_63 N x0 x1 s fo tl tr = some qm ∧ qc.1 = qm.1 ∧ jF qc.2.2 qm.2.1 := by
  obtain ⟨⟨hl, hr⟩, hC, hG⟩ := id hB
  unfold me_72_0 me_154_63
  rcases jp hC.1.2.2 hG.1.2.2.2 x0 with ⟨h1, h2, k, hk, hkp, rfl⟩ | ⟨h1, h2⟩
  · rw [h1, h2, jn0, je1]
    rcases jw x1 0 200 with ⟨h3, h4, h5⟩ | ⟨h3, h4⟩
    · obtain ⟨c, hc, rfl⟩ := jR_u 200 h5 (by decide)
      rw [h3, h4, jn1, je1, m_19 hN (jC_take hC) hG hk hc, m_137 hN hk hc]
      refine ⟨_, _, rfl, rfl, ?_, hF⟩
      show (jI s (nI k) c (b.1, b.2.1)).1 - (jI s (nI k) c (b.1, b.2.1)).2 = _
      rw [← hl, ← hr]
    · rw [h3, h4, jn0, je0]
      exact ⟨_, _, rfl, rfl, rfl, jF_no 0 hF (by decide)⟩
  · rw [h1, h2, jn1, je0]
    exact ⟨_, _, rfl, rfl, rfl, jF_no 0 hF (by decide)⟩
/-- sign -/
theorem q_sign {N : Nat} (hN : 4000 ≤ N) {b d : hB} {s fi fo : Nat → Int32} (x0 tl tr : Int32) (hB : jB b s) (hF : jF fi fo) : ∃ qc qm, me_73_0 N x0 b d fi = some qc ∧ me_155_63 N x0 s fo tl tr = some qm ∧ qc.1 = qm.1 ∧ jF qc.2.2 qm.2.1 := by
  obtain ⟨⟨hl, hr⟩, hC, hG⟩ := id hB
  unfold me_73_0 me_155_63
  rcases jp hC.1.2.2 hG.1.2.2.2 x0 with ⟨h1, h2, k, hk, hkp, rfl⟩ | ⟨h1, h2⟩
  · rw [h1, h2, je0, jn1, show (40 : Int32) = nI 40 from rfl, m_19 hN (jC_take hC) hG hk (by omega), m_137 hN hk (by omega)]
    simp only [Option.bind_some, cond_true]
    unfold v_15_10 v_15_1 v_146_63
    rw [j126, j126, ← hl, ← hr]
    have e1 : (f_10_10_1_d b d).1 = s 0 := hl.symm
    have e2 : (f_10_10_1_d b d).2.1 = s 1 := hr.symm
    rw [e1, e2]
    cases gCmp .ne (v_126 ((jI s (nI k) 40 (s 0, s 1)).1 - (jI s (nI k) 40 (s 0, s 1)).2)) (v_126 (s 0 - s 1))
    · exact ⟨_, _, rfl, rfl, rfl, hF⟩
    · exact ⟨_, _, rfl, rfl, rfl, hF⟩
  · rw [h1, h2, jn0, je1]
    exact ⟨_, _, rfl, rfl, rfl, jF_no 0 hF (by decide)⟩
theorem jne_comm (x y : Int32) : gCmp .ne x y = gCmp .ne y x := by
  show (!decide (x = y)) = !decide (y = x)
  exact congrArg (fun b => !b) (decide_eq_decide.mpr ⟨Eq.symm, Eq.symm⟩)
theorem l_stays {N : Nat} {e : jE} {s fi fo : Nat → Int32} {k : Nat} {u v : Int32} (h : jC (u, v, e) s) (hG : jG s) (hk : k < 8) (hF : jF fi fo) : ∀ (m i n : Nat) (p : Int32 × Int32), i + m = 201 → m < n → ∃ w d' f' q, lp_74_0_27 N (nI k) fi n (nI i) (p.1, p.2, e) = some (w, d', f') ∧ lp_156_63_20 N (nI k) s fo n (nI i) p.1 p.2 = some (w, q) ∧ jF f' q.1 := by
  intro m
  induction m with
  | zero =>
    intro i n p hi hn
    obtain rfl : i = 201 := by omega
    cases n with
    | zero => exact absurd hn (by omega)
    | succ n => exact ⟨_, _, _, _, rfl, rfl, jF_no 3 hF (by decide)⟩
  | succ m ih =>
    intro i n p hi hn
    cases n with
    | zero => exact absurd hn (by omega)
    | succ n =>
      rw [lp_74_0_27, lp_156_63_20, jgtl i 200 rfl (by omega) (by decide), decide_eq_false (show ¬ 200 < i by omega), jin (n := 8) hk (by decide), (j153_0 hk).1, (j153_1 hk).1, (j153_2 hk).1, nI_1, j18d h hG hk, jne_comm p.1, jne_comm p.2]
      show ∃ w d' f' q, (bif gCmp .ne (jM s (nI k) p).1 p.1 then lp_74_0_27 N (nI k) fi n (nI (i + 1)) ((jM s (nI k) p).1, (jM s (nI k) p).2, e) else (bif gCmp .ne (jM s (nI k) p).2 p.2 then lp_74_0_27 N (nI k) fi n (nI (i + 1)) ((jM s (nI k) p).1, (jM s (nI k) p).2, e) else some (nI i, ((jM s (nI k) p).1, (jM s (nI k) p).2, e), fi))) = some (w, d', f') ∧ (bif gCmp .ne (jM s (nI k) p).1 p.1 then lp_156_63_20 N (nI k) s fo n (nI (i + 1)) (jM s (nI k) p).1 (jM s (nI k) p).2 else (bif gCmp .ne (jM s (nI k) p).2 p.2 then lp_156_63_20 N (nI k) s fo n (nI (i + 1)) (jM s (nI k) p).1 (jM s (nI k) p).2 else some (nI i, fo, (jM s (nI k) p).1, (jM s (nI k) p).2))) = some (w, q) ∧ jF f' q.1
      cases gCmp .ne (jM s (nI k) p).1 p.1
      · cases gCmp .ne (jM s (nI k) p).2 p.2
        · exact ⟨_, _, _, _, rfl, rfl, hF⟩
        · exact ih (i + 1) n (jM s (nI k) p) (by omega) (by omega)
      · exact ih (i + 1) n (jM s (nI k) p) (by omega) (by omega)
/-- stays -/
theorem q_stays {N : Nat} (hN : 4000 ≤ N) {b d : hB} {s fi fo : Nat → Int32} (x0 tl tr : Int32) (hB : jB b s) (hF : jF fi fo) : ∃ qc qm, me_74_0 N x0 b d fi = some qc ∧ me_156_63 N x0 s fo tl tr = some qm ∧ qc.1 = qm.1 ∧ jF qc.2.2 qm.2.1 := by
  obtain ⟨⟨hl, hr⟩, hC, hG⟩ := id hB
  unfold me_74_0 me_156_63
  rcases jp hC.1.2.2 hG.1.2.2.2 x0 with ⟨h1, h2, k, hk, hkp, rfl⟩ | ⟨h1, h2⟩
  · rw [h1, h2, je0, jn1]
    obtain ⟨w, d', f', q, h3, h4, h5⟩ := l_stays (N := N) (e := (f_10_10_1_d b d).2.2) (u := b.1) (v := b.2.1) (jC_take hC) hG hk hF 201 0 N (s 0, s 1) rfl (by omega)
    rw [show lp_74_0_27 N (nI k) fi N 0 (f_10_10_1_d b d) = some (w, d', f') from by rw [← h3]; rw [hl, hr]; rfl, show lp_156_63_20 N (nI k) s fo N 0 (f_135_63_m_tl s) (f_135_63_m_tr s) = some (w, q) from h4]
    exact ⟨_, _, rfl, rfl, rfl, h5⟩
  · rw [h1, h2, jn0, je1]
    exact ⟨_, _, rfl, rfl, rfl, jF_no 0 hF (by decide)⟩
theorem jle_gt (x y : Int32) : gCmp .le x y = !gCmp .gt x y := by
  show decide (x ≤ y) = !decide (y < x)
  by_cases h : y < x
  · rw [decide_eq_true h, decide_eq_false (show ¬ x ≤ y by rw [Int32.le_iff_toInt_le]; rw [Int32.lt_iff_toInt_lt] at h; omega)]; rfl
  · rw [decide_eq_false h, decide_eq_true (show x ≤ y by rw [Int32.le_iff_toInt_le]; rw [Int32.lt_iff_toInt_lt] at h; omega)]; rfl
theorem l_often {N : Nat} {e : jE} {s fi fo : Nat → Int32} {k : Nat} {u v y2 : Int32} (h : jC (u, v, e) s) (hG : jG s) (hk : k < 8) (hF : jF fi fo) : ∀ (m i n : Nat) (p : Int32 × Int32), i + m = 201 → m < n → ∃ w d' f' y q, lp_75_0_37 N (nI k) y2 fi n (nI i) (p.1, p.2, e) = some (w, d', f') ∧ lp_157_63_27 N (nI k) y2 s n (nI i) p.1 p.2 = some (y, q) ∧ w = (bif gCmp .gt y 200 then v_124_63 3 else y) ∧ jF f' (bif gCmp .gt y 200 then f_124_63_m_fo 3 fo else fo) := by
  intro m
  induction m with
  | zero =>
    intro i n p hi hn
    obtain rfl : i = 201 := by omega
    cases n with
    | zero => exact absurd hn (by omega)
    | succ n => exact ⟨_, _, _, _, _, rfl, rfl, rfl, jF_no 3 hF (by decide)⟩
  | succ m ih =>
    intro i n p hi hn
    cases n with
    | zero => exact absurd hn (by omega)
    | succ n =>
      have hgt : gCmp .gt (nI i) 200 = false := by rw [jgtl i 200 rfl (by omega) (by decide)]; exact decide_eq_false (by omega)
      rw [lp_75_0_37, lp_157_63_27, hgt, jin (n := 8) hk (by decide), (j153_0 hk).1, (j153_1 hk).1, (j153_2 hk).1, nI_1, j18d h hG hk, jle_gt]
      unfold v_15_10
      rw [j126]
      cases hg : gCmp .gt (v_126 (p.1 - p.2)) y2
      · obtain ⟨w, d', f', y, q, g1, g2, g3⟩ := ih (i + 1) n (jM s (nI k) p) (by omega) (by omega)
        exact ⟨w, d', f', y, q, g1, g2, g3⟩
      · exact ⟨_, _, _, _, _, rfl, rfl, by rw [hgt]; rfl, by rw [hgt]; exact hF⟩
/-- often -/
theorem q_often {N : Nat} (hN : 4000 ≤ N) {b d : hB} {s fi fo : Nat → Int32} (x0 x1 tl tr : Int32) (hB : jB b s) (hF : jF fi fo) : ∃ qc qm, me_75_0 N x0 x1 b d fi = some qc ∧ me_157_63 N x0 x1 s fo tl tr = some qm ∧ qc.1 = qm.1 ∧ jF qc.2.2 qm.2.1 := by
  obtain ⟨⟨hl, hr⟩, hC, hG⟩ := id hB
  unfold me_75_0 me_157_63 v_130
  rcases jp hC.1.2.2 hG.1.2.2.2 x0 with ⟨h1, h2, k, hk, hkp, rfl⟩ | ⟨h1, h2⟩
  · rw [h1, h2, jn0, je1]
    rcases jw x1 0 60 with ⟨h3, h4, h5⟩ | ⟨h3, h4⟩
    · rw [h3, h4, jn1]
      obtain ⟨w, d', f', y, q, g3, g4, g5, g6⟩ := l_often (N := N) (e := (f_10_10_1_d b d).2.2) (u := b.1) (v := b.2.1) (y2 := x1) (jC_take hC) hG hk hF 201 0 N (s 0, s 1) rfl (by omega)
      rw [show lp_75_0_37 N (nI k) x1 fi N 0 (f_10_10_1_d b d) = some (w, d', f') from by rw [← g3]; rw [hl, hr]; rfl, show lp_157_63_27 N (nI k) x1 s N 0 (f_135_63_m_tl s) (f_135_63_m_tr s) = some (y, q) from g4]
      exact ⟨_, _, rfl, rfl, g5, g6⟩
    · rw [h3, h4, jn0]
      exact ⟨_, _, rfl, rfl, rfl, jF_no 0 hF (by decide)⟩
  · rw [h1, h2, jn1, je0]
    exact ⟨_, _, rfl, rfl, rfl, jF_no 0 hF (by decide)⟩
