/-- how often a height was come to: the model's count -/
def jU (be : Nat → Int32) (t : Int32) : Nat → Int32 → Int32
  | 0, y => y
  | m + 1, y => jU be t m y + (bif gCmp .ne (be m) t then 0 else (bif gCmp .ge (jU be t m y) 9999 then 0 else 1))
theorem jU_ext {be be' : Nat → Int32} (t : Int32) : ∀ (m : Nat) (y : Int32), (∀ j, j < m → be j = be' j) → jU be t m y = jU be' t m y := by
  intro m
  induction m with
  | zero => intro y h; rfl
  | succ m ih =>
    intro y h
    rw [jU, jU, ih y (fun j hj => h j (by omega)), h m (by omega)]
theorem l_been {N : Nat} {be : Nat → Int32} {t y : Int32} {i : Nat} (hi4 : i ≤ 4) : ∀ (m q n : Nat), q + m = i → m < n → lp_184_63_69 N (nI i) t be n (jU be t q y) (nI q) = some (jU be t i y, nI i) := by
  intro m
  induction m with
  | zero =>
    intro q n hi hn
    obtain rfl : q = i := by omega
    cases n with
    | zero => exact absurd hn (by omega)
    | succ n =>
      rw [lp_184_63_69, jge q q rfl rfl (by omega) (by omega), decide_eq_true (Nat.le_refl q)]
      rfl
  | succ m ih =>
    intro q n hi hn
    cases n with
    | zero => exact absurd hn (by omega)
    | succ n =>
      rw [lp_184_63_69, jge q i rfl rfl (by omega) (by omega), decide_eq_false (show ¬ i ≤ q by omega), jin (show q < 4 by omega) (by decide), jcl (by omega), nI_1]
      exact ih (q + 1) n (by omega) (by omega)
theorem jM_ext {s t : Nat → Int32} {k : Nat} (hk : k < 8) (h : ∀ j, j < 39 → t j = s j) (p : Int32 × Int32) : jM t (nI k) p = jM s (nI k) p := by
  unfold jM f_136_63_m_tl f_136_63_m_tr v_133_63 v_134_63 v_131_63
  rw [(j153_0 hk).2, (j153_1 hk).2, (j153_2 hk).2, h (15 + 3 * k) (by omega), h (16 + 3 * k) (by omega), h (17 + 3 * k) (by omega), h 5 (by omega), h 6 (by omega), h 7 (by omega), h 8 (by omega)]
theorem l_lasts {N : Nat} (hN : 4000 ≤ N) {s : Nat → Int32} {k c : Nat} (hG0 : jG s) (hk : k < 8) (hc : c ≤ 4) : ∀ (m i n A C : Nat) (d : hB) (t be : Nat → Int32) (tl tr : Int32), i + m = c → m < n → A ≤ 10000 ^ i → C = 10000 ^ i → d.1 = tl → d.2.1 = tr → jR 0 60 tl → jC (d.1, d.2.1, t 2, d.2.2.2) t → jG t → (∀ j, j < 39 → t j = s j) → (∀ j, j < 61 → t (39 + j) = jU be (nI j) i (s (39 + j))) → ∃ A' C' w d' q, lp_91_0_53 N (nI k) (nI c) n (lN A) (lN C) (nI i) d = some (lN A', lN C', w, d') ∧ lp_184_63_46 N (nI k) (nI c) s n (lN A) (lN C) (nI i) tl tr be = some (lN A', lN C', q) ∧ A' < 2 ^ 63 ∧ C' < 2 ^ 63 ∧ 0 < C' := by
  intro m
  induction m with
  | zero =>
    intro i n A C d t be tl tr hi hn hA hC _ _ _ _ _ _ _
    obtain rfl : i = c := by omega
    have hp : 10000 ^ i ≤ 10000 ^ 4 := Nat.pow_le_pow_right (by decide) hc
    have hp0 : 0 < 10000 ^ i := Nat.pow_pos (by decide)
    have hp4 : (10000 : Nat) ^ 4 < 2 ^ 63 := by decide
    cases n with
    | zero => exact absurd hn (by omega)
    | succ n =>
      rw [lp_91_0_53, lp_184_63_46, jge i i rfl rfl (by omega) (by omega), decide_eq_true (Nat.le_refl i)]
      exact ⟨A, C, _, _, _, rfl, rfl, by omega, by omega, by omega⟩
  | succ m ih =>
    intro i n A C d t be tl tr hi hn hA hC e1 e2 hR hJ hG ht hU
    cases n with
    | zero => exact absurd hn (by omega)
    | succ n =>
      obtain ⟨p, hp, ep⟩ := jR_u 60 hR (by decide)
      obtain ⟨w, hw, ew⟩ := jR_u 9999 (hG.2.2.2.2.1 p (by omega)) (by decide)
      obtain ⟨o, ho, eo1, eo2⟩ := j27 (b := (d.1, d.2.1, t 2, d.2.2.2)) hJ hG hp (by rw [← ep]; exact e1)
      have eo1' : v_27_10 d = nI o := eo1
      have hd1 : d.1 = nI p := by rw [e1]; exact ep
      have hworn : lp_184_63_69 N (nI i) tl be N (s (39 + p)) 0 = some (t (39 + p), nI i) := by
        rw [ep, hU p (by omega)]
        exact l_been (N := N) (be := be) (t := nI p) (y := s (39 + p)) (show i ≤ 4 by omega) i 0 N (by omega) (by omega)
      have e9 : t 9 = s 9 := ht 9 (by omega)
      have eo3 : v_181_63 (t (39 + p)) s = nI o := by
        rw [← eo2]
        unfold v_181_63
        rw [e9]
      have hdw : d.2.2.2.2.2.2.2.2.2.2.1 p = nI w := by rw [← ew]; exact (hJ.2.2.2.2.1 p (by omega)).symm
      have hw2 := jw9 hw
      have hJ2 : jC (d.1, d.2.1, t 2, d.2.2.2.1, d.2.2.2.2.1, d.2.2.2.2.2.1, d.2.2.2.2.2.2.1, d.2.2.2.2.2.2.2.1, d.2.2.2.2.2.2.2.2.1, d.2.2.2.2.2.2.2.2.2.1, upd d.2.2.2.2.2.2.2.2.2.2.1 p (nI (if w < 9999 then w + 1 else w)), d.2.2.2.2.2.2.2.2.2.2.2) (upd t (39 + p) (nI (if w < 9999 then w + 1 else w))) := jC_wear hJ (by omega)
      have hG2 : jG (upd t (39 + p) (nI (if w < 9999 then w + 1 else w))) := jG_wear hG (by omega) (jR_nI (by split <;> omega) (by split <;> omega) (by split <;> omega))
      have ht2 : ∀ j, j < 39 → upd t (39 + p) (nI (if w < 9999 then w + 1 else w)) j = s j := fun j hj => by rw [pk_un (by omega)]; exact ht j hj
      have hmv : f_20_10_d (nI k) d = ((jM s (nI k) (tl, tr)).1, (jM s (nI k) (tl, tr)).2, d.2.2.1 + 1, d.2.2.2.1, d.2.2.2.2.1, d.2.2.2.2.2.1, d.2.2.2.2.2.2.1, d.2.2.2.2.2.2.2.1, d.2.2.2.2.2.2.2.2.1, d.2.2.2.2.2.2.2.2.2.1, upd d.2.2.2.2.2.2.2.2.2.2.1 p (nI (if w < 9999 then w + 1 else w)), d.2.2.2.2.2.2.2.2.2.2.2) := by
        have h18 := j18d (u := d.1) (v := d.2.1) hJ2 hG2 hk (tl, tr)
        rw [jM_ext hk ht2] at h18
        unfold f_20_10_d
        rw [hd1, jcl (by omega), hdw, hw2.1, ← ep, e2]
        have h19 := congrArg (fun z : hB => ((z.1, z.2.1, d.2.2.1 + 1, z.2.2.2) : hB)) h18
        exact h19
      rw [lp_91_0_53, lp_184_63_46, jge i c rfl rfl (by omega) (by omega), decide_eq_false (show ¬ c ≤ i by omega), hmv, eo1', hd1]
      rw [jin (show p < 61 by omega) (by decide), jin (n := 8) hk (by decide), (joff 39 ep (show 39 + p < 134 by omega)).1, (joff 39 ep (show 39 + p < 134 by omega)).2, jin (show i < 4 by omega) (by decide), (j153_0 hk).1, (j153_1 hk).1, (j153_2 hk).1, jcl (by omega), hworn]
      simp only [cond_true, cond_false, Option.bind_some]
      rw [eo3, nI_l (by omega), show (10000 : Int64) = lN 10000 from rfl, lN_mul, lN_mul, nI_1]
      refine ih (i + 1) n (A * o) (C * 10000) _ (upd t (39 + p) (nI (if w < 9999 then w + 1 else w))) _ _ _ (by omega) (by omega) ?_ ?_ rfl rfl (jM_R s (nI k) (tl, tr)).1 ?_ hG2 ht2 ?_
      · rw [Nat.pow_succ]; exact Nat.mul_le_mul hA ho
      · rw [Nat.pow_succ, hC]
      · rw [pk_un (j := 2) (by omega)]; exact hJ2
      · intro j hj
        rw [jU, jU_ext (be' := be) (nI j) i _ (fun q hq => pk_un (by omega)), ← hU j hj, pk_us, ep]
        by_cases e : j = p
        · subst e
          rw [pk_us, ew, show gCmp .ne (nI j) (nI j) = false from by rw [jne j j rfl rfl (by omega) (by omega), decide_eq_true rfl]; rfl]
          exact hw2.2.symm
        · rw [pk_un (by omega), show gCmp .ne (nI p) (nI j) = true from by rw [jne p j rfl rfl (by omega) (by omega), decide_eq_false (fun h => e h.symm)]; rfl]
          exact (Int32.add_zero _).symm
/-- lasts -/
theorem q_lasts {N : Nat} (hN : 4000 ≤ N) {b d : hB} {s fi fo be : Nat → Int32} (x0 x1 x2 tl tr : Int32) (hB : jB b s) (hF : jF fi fo) : ∃ qc qm, me_91_0 N x0 x1 x2 b d fi = some qc ∧ me_184_63 N x0 x1 x2 s fo tl tr be = some qm ∧ qc.1 = qm.1 ∧ jF qc.2.2 qm.2.1 := by
  obtain ⟨⟨hl, hr⟩, hC, hG⟩ := id hB
  unfold me_91_0 me_184_63
  rcases jp hC.1.2.2 hG.1.2.2.2 x0 with ⟨h1, h2, k, hk, hkp, rfl⟩ | ⟨h1, h2⟩
  · rw [h1, h2, jn0, je1]
    rcases jw x1 0 4 with ⟨h3, h4, h5⟩ | ⟨h3, h4⟩
    · obtain ⟨c, hc, rfl⟩ := jR_u 4 h5 (by decide)
      rw [h3, h4, je1]
      rcases jw x2 0 1 with ⟨h6, h7, h8⟩ | ⟨h6, h7⟩
      · rw [h6, h7, jn1]
        have hT := jC_take (d := d) hC
        have e2 : (f_10_10_1_d b d).2.2.1 = s 2 := hC.1.1.symm
        obtain ⟨A, C, w, d', q, g1, g2, hA, hC2, h0⟩ := l_lasts hN (s := s) (k := k) (c := c) hG hk hc c 0 N 1 1 (f_10_10_1_d b d) s be (s 0) (s 1) (by omega) (by omega) (by decide) rfl hl.symm hr.symm hG.1.1 (by rw [← e2]; exact hT) hG (fun _ _ => rfl) (fun _ _ => rfl)
        obtain ⟨g3, g4⟩ := m_gcd hN hA hC2 h0 x2
        rw [show lp_91_0_53 N (nI k) (nI c) N 1 1 0 (f_10_10_1_d b d) = _ from g1, show lp_184_63_46 N (nI k) (nI c) s N 1 1 0 (f_135_63_m_tl s) (f_135_63_m_tr s) be = _ from g2]
        simp only [cond_true, cond_false, Option.bind_some]
        rw [g3, g4]
        have hg : 0 < Nat.gcd A C := Nat.gcd_pos_of_pos_right _ h0
        have hgl : Nat.gcd A C < 2 ^ 63 := Nat.lt_of_le_of_lt (Nat.gcd_le_right _ h0) hC2
        simp only [Option.bind_some]
        rw [jl0 hgl (by omega), pk_lDiv hA hg hgl, pk_lDiv hC2 hg hgl]
        simp only [Bool.not_false, Bool.or_true, cond_true]
        exact ⟨_, _, rfl, rfl, rfl, hF⟩
      · rw [h6, h7, jn0]
        exact ⟨_, _, rfl, rfl, rfl, jF_no 0 hF (by decide)⟩
    · rw [h3, h4, je0]
      exact ⟨_, _, rfl, rfl, rfl, jF_no 0 hF (by decide)⟩
  · rw [h1, h2, jn1, je0]
    exact ⟨_, _, rfl, rfl, rfl, jF_no 0 hF (by decide)⟩
