theorem jnI {x : Int32} {q : Nat} (h : x.toBitVec.toNat = q) : x = nI q := by
  have hq : q < 2 ^ 32 := by rw [← h]; exact x.toBitVec.isLt
  apply Int32.toBitVec.inj
  apply BitVec.eq_of_toNat_eq
  rw [pk_tn hq]
  exact h
theorem j148_2 {s : Nat → Int32} (x : Int32) (hl : jR 0 60 (s 0)) : f_148_63_m_s x s 2 = s 2 + 1 := by
  obtain ⟨p, hp, ep⟩ := jR_u 60 hl (by decide)
  unfold f_148_63_m_s
  rw [ep, (joff 39 rfl (show 39 + p < 134 by omega)).2, pk_us, pk_un (j := 2) (by omega), pk_un (j := 2) (by omega), pk_un (j := 2) (by omega)]
theorem j15b (b : hB) : v_15_1 b = v_126 (b.1 - b.2.1) := j126 _
theorem l_hands {N : Nat} {c pn : Nat} (hc : c ≤ 20) (hp0 : 0 < pn) (hp8 : pn ≤ 8) : ∀ (m i n dn : Nat) (y : Int32) (b : hB) (s : Nat → Int32) (tl tr : Int32), i + m = c → m < n → jB b s → s 3 = nI pn → s 2 = nI dn → dn + m ≤ 99999 → ∃ v b' s' tl' tr', lp_94_0_50 N (nI c) n y (nI i) b = some (v, nI c, b') ∧ lp_193_63_48 N (nI c) n y (nI i) s tl tr = some (v, nI c, s', tl', tr') ∧ jB b' s' := by
  intro m
  induction m with
  | zero =>
    intro i n dn y b s tl tr hi hn hJ _ _ _
    obtain rfl : i = c := by omega
    cases n with
    | zero => exact absurd hn (by omega)
    | succ n =>
      rw [lp_94_0_50, lp_193_63_48, jge i i rfl rfl (by omega) (by omega), decide_eq_true (Nat.le_refl i)]
      exact ⟨_, _, _, _, _, rfl, rfl, hJ⟩
  | succ m ih =>
    intro i n dn y b s tl tr hi hn hJ h3 h2 hd
    cases n with
    | zero => exact absurd hn (by omega)
    | succ n =>
      obtain ⟨⟨hl, hr⟩, hC, hG⟩ := id hJ
      obtain ⟨p, hp, ep⟩ := jR_u 60 hG.1.1 (by decide)
      have ebp : b.2.2.2.2.1 = nI pn := by rw [← hC.1.2.2]; exact h3
      have elb : b.1 = nI p := by rw [← hl]; exact ep
      have e28 : ∃ z : Int32, f_28_1_b b = (b.1, b.2.1, b.2.2.1, z, b.2.2.2.2) ∧ f_192_63_m_s s = upd s 4 z ∧ v_28_1 b = (z.toUInt32 >>> ((8 : Int32).toUInt32 &&& Int32.toUInt32 31)).toInt32 ∧ v_192_63 s = (z.toUInt32 >>> ((8 : Int32).toUInt32 &&& Int32.toUInt32 31)).toInt32 := by
        unfold f_28_1_b f_192_63_m_s v_28_1 v_192_63
        rw [hC.1.2.1]
        generalize b.2.2.2.1 * 1103515245 + 12345 = z
        exact ⟨z, rfl, rfl, rfl, by rw [pk_us]⟩
      obtain ⟨z, e1, e2, e3, e4⟩ := e28
      have hq : ((z.toUInt32 >>> ((8 : Int32).toUInt32 &&& Int32.toUInt32 31)).toInt32).toBitVec.toNat = z.toBitVec.toNat / 2 ^ 8 := pk_ushr z 8 8 rfl
      have hq2 := jnI hq
      have hz := z.toBitVec.isLt
      generalize hqq : z.toBitVec.toNat / 2 ^ 8 = q at hq2
      have hq3 : q < 2 ^ 24 := by rw [← hqq]; omega
      rw [hq2] at e3 e4
      have hk : q % pn < pn := Nat.mod_lt _ hp0
      have hk8 : q % pn < 8 := by omega
      have hJ1 : jB (b.1, b.2.1, b.2.2.1, z, b.2.2.2.2) (upd s 4 z) := ⟨⟨(pk_un (by omega)).trans hl, (pk_un (by omega)).trans hr⟩, jC_z hC, jG_z hG⟩
      have e31 : upd s 4 z 3 = nI pn := (pk_un (by omega)).trans h3
      have e21 : upd s 4 z 2 = nI dn := (pk_un (by omega)).trans h2
      have e01 : upd s 4 z 0 = nI p := (pk_un (by omega)).trans ep
      have hJ2 := j20 (k := q % pn) hJ1 hk8 (by rw [e21, nI_toInt (by omega)]; omega)
      have e22 : f_148_63_m_s (nI (q % pn)) (upd s 4 z) 2 = nI (dn + 1) := by rw [j148_2 _ hJ1.2.2.1.1, e21, nI_1]
      have e32 : f_148_63_m_s (nI (q % pn)) (upd s 4 z) 3 = nI pn := by rw [hJ2.2.1.1.2.2]; exact ebp
      have eo1 : v_15_1 b = v_126 (v_146_63 s) := by
        rw [j15b]
        unfold v_146_63
        rw [hl, hr]
      have eo2 : v_15_1 (f_20_1_b (nI (q % pn)) (b.1, b.2.1, b.2.2.1, z, b.2.2.2.2)) = v_126 (v_146_63 (f_148_63_m_s (nI (q % pn)) (upd s 4 z))) := by
        rw [j15b]
        unfold v_146_63
        rw [hJ2.1.1, hJ2.1.2]
      rw [lp_94_0_50, lp_193_63_48, jge i c rfl rfl (by omega) (by omega), decide_eq_false (show ¬ c ≤ i by omega), nI_1, e1, e2, e3, e4, e31, e01]
      dsimp only
      rw [ebp, elb, pk_rem (by omega) hp0 (by omega), show decide (nI pn = 0) = false from decide_eq_false (nI_ne0 hp0 (by omega)), jin (show p < 61 by omega) (by decide), jin (n := 8) hk8 (by decide), (j153_0 hk8).1, (j153_1 hk8).1, (j153_2 hk8).1, (joff 39 rfl (show 39 + p < 134 by omega)).1]
      rw [elb] at eo2 hJ2
      rw [eo1, eo2]
      simp only [Bool.not_false, cond_true, cond_false]
      cases gCmp .le (v_126 (v_146_63 (f_148_63_m_s (nI (q % pn)) (upd s 4 z)))) (v_126 (v_146_63 s))
      · exact ih (i + 1) n (dn + 1) _ _ _ _ _ (by omega) (by omega) hJ2 e32 e22 (by omega)
      · simp only [cond_true, Int32.add_zero]
        exact ih (i + 1) n (dn + 1) _ _ _ _ _ (by omega) (by omega) hJ2 e32 e22 (by omega)
/-- hands -/
theorem q_hands {N : Nat} (hN : 4000 ≤ N) {b : hB} {s fi fo : Nat → Int32} (x0 tl tr : Int32) (hB : jB b s) (hF : jF fi fo) : ∃ qc qm, me_94_0 N x0 b fi = some qc ∧ me_193_63 N x0 s fo tl tr = some qm ∧ qc.1 = qm.1 ∧ jB qc.2.1 qm.2.1 ∧ jF qc.2.2 qm.2.2.1 := by
  obtain ⟨⟨hl, hr⟩, hC, hG⟩ := id hB
  unfold me_94_0 me_193_63
  rcases jw x0 1 20 with ⟨h1, h2, h3⟩ | ⟨h1, h2⟩
  · obtain ⟨c, hc, rfl⟩ := jR_u 20 (jR_w h3 (by decide) (by decide)) (by decide)
    obtain ⟨pn, hpn, epn⟩ := jR_u 8 hG.1.2.2.2 (by decide)
    obtain ⟨dn, hdn, edn⟩ := jR_u 99999 hG.1.2.2.1 (by decide)
    have ebp : b.2.2.2.2.1 = nI pn := by rw [← hC.1.2.2]; exact epn
    have edb : b.2.2.1 = nI dn := by rw [← hC.1.1]; exact edn
    rw [h1, h2, jn1, ebp, epn, edb, edn, nI_add, jlel pn 0 rfl (by omega) (by decide), jeql pn 0 rfl (by omega) (by decide), jlel (dn + c) 99999 rfl (by omega) (by decide)]
    by_cases hp0 : pn = 0
    · rw [decide_eq_true hp0, decide_eq_true (show pn ≤ 0 by omega)]
      exact ⟨_, _, rfl, rfl, rfl, hB, jF_no 4 hF (by decide)⟩
    · rw [decide_eq_false hp0, decide_eq_false (show ¬ pn ≤ 0 by omega)]
      by_cases hd : dn + c ≤ 99999
      · rw [decide_eq_true hd]
        obtain ⟨v, b', s', tl', tr', g1, g2, g3⟩ := l_hands (N := N) (c := c) (pn := pn) hc (by omega) hpn c 0 N dn 0 b s tl tr (by omega) (by omega) hB epn edn hd
        rw [show lp_94_0_50 N (nI c) N 0 0 b = _ from g1, show lp_193_63_48 N (nI c) N 0 0 s tl tr = _ from g2]
        exact ⟨_, _, rfl, rfl, rfl, g3, hF⟩
      · rw [decide_eq_false hd]
        exact ⟨_, _, rfl, rfl, rfl, hB, jF_no 4 hF (by decide)⟩
  · rw [h1, h2, jn0]
    exact ⟨_, _, rfl, rfl, rfl, hB, jF_no 0 hF (by decide)⟩
/-- the tape -/
def jT (tb : Nat → Int32) (ts : Int32) (tp : Nat → Int32) (td : Int32) : Prop := ∃ t : Nat, t ≤ 120 ∧ ts = nI t ∧ td = nI t ∧ ∀ i, i < t → ∃ c : Nat, c < 256 ∧ tp i = nI c ∧ tb i = (nI c).toInt8.toInt32
theorem jlow (x y : Int32) (h : x &&& 255 = y &&& 255) : ∃ c : Nat, c < 256 ∧ y &&& 255 = nI c ∧ x.toInt8.toInt32 = (nI c).toInt8.toInt32 := by
  have e : ∀ x : Int32, (x &&& 255).toInt8 = x.toInt8 := by
    intro x
    apply Int8.toBitVec_inj.1
    apply BitVec.eq_of_getLsbD_eq
    intro i hi
    have h2 : (255 : Int32).toBitVec.getLsbD i = true := by
      have : ∀ j : Fin 8, (255 : Int32).toBitVec.getLsbD j.val = true := by decide +kernel
      exact this ⟨i, hi⟩
    have h4 : (x &&& 255).toBitVec.getLsbD i = x.toBitVec.getLsbD i := by
      show (x.toBitVec &&& (255 : Int32).toBitVec).getLsbD i = _
      rw [BitVec.getLsbD_and, h2, Bool.and_true]
    show (BitVec.signExtend 8 (x &&& 255).toBitVec).getLsbD i = (BitVec.signExtend 8 x.toBitVec).getLsbD i
    rw [BitVec.getLsbD_signExtend, BitVec.getLsbD_signExtend]
    simp only [hi, decide_true, Bool.true_and]
    rw [if_pos (by omega), if_pos (by omega)]
    exact h4
  obtain ⟨c, hc, h2⟩ := pk_andE y (m := 255) 8 rfl
  refine ⟨c, hc, h2, ?_⟩
  rw [← e x, h, h2]
theorem jbyte (y : Int32) (j : Nat) (hj : j < 4) : ((y.toUInt32 >>> (((8 : Int32) * nI j).toUInt32 &&& Int32.toUInt32 31)).toInt32) &&& 255 = (y >>> (((8 : Int32) * nI j) &&& 31)) &&& 255 := by
  rw [pk_and _ (m := 255) 8 rfl, pk_and _ (m := 255) 8 rfl]
  congr 1
  have key : ∀ (s1 : Int32) (k : Nat), (k = 0 ∨ k = 8 ∨ k = 16 ∨ k = 24) → (((s1.toUInt32 &&& Int32.toUInt32 31).toBitVec % 32).toNat = k) → (((s1 &&& 31).toBitVec.smod 32).toNat = k) → (y.toUInt32 >>> (s1.toUInt32 &&& Int32.toUInt32 31)).toInt32.toBitVec.toNat % 2 ^ 8 = (y >>> (s1 &&& 31)).toBitVec.toNat % 2 ^ 8 := by
    intro s1 k hk24 h1 h2
    rw [pk_ushr y s1 k h1]
    have h3 := pk_shr y (s1 &&& 31) k h2
    rw [Int.shiftRight_eq_div_pow] at h3
    have h4 : (y >>> (s1 &&& 31)).toInt = if 2 * (y >>> (s1 &&& 31)).toBitVec.toNat < 2 ^ 32 then ((y >>> (s1 &&& 31)).toBitVec.toNat : Int) else ((y >>> (s1 &&& 31)).toBitVec.toNat : Int) - (2 ^ 32 : Nat) := BitVec.toInt_eq_toNat_cond _
    have h5 : y.toInt = if 2 * y.toBitVec.toNat < 2 ^ 32 then (y.toBitVec.toNat : Int) else (y.toBitVec.toNat : Int) - (2 ^ 32 : Nat) := BitVec.toInt_eq_toNat_cond _
    generalize hA : y.toBitVec.toNat = A at h5
    generalize hB : (y >>> (s1 &&& 31)).toBitVec.toNat = B at h4
    rw [h4, h5] at h3
    have hA2 : A < 2 ^ 32 := by rw [← hA]; exact y.toBitVec.isLt
    have hB2 : B < 2 ^ 32 := by rw [← hB]; exact (y >>> (s1 &&& 31)).toBitVec.isLt
    clear h1 h2 h4 h5 hA hB
    rcases hk24 with rfl | rfl | rfl | rfl <;> (split at h3 <;> split at h3 <;> omega)
  match j, hj with
  | 0, _ => exact key _ 0 (.inl rfl) rfl rfl
  | 1, _ => exact key _ 8 (.inr (.inl rfl)) rfl rfl
  | 2, _ => exact key _ 16 (.inr (.inr (.inl rfl))) rfl rfl
  | 3, _ => exact key _ 24 (.inr (.inr (.inr rfl))) rfl rfl
def jm : Nat → Int32
  | 0 => -1
  | j + 1 => nI j
theorem jm_s (j : Nat) : nI j + (-1) = jm j := by
  cases j with
  | zero => rfl
  | succ j => exact pk_m1 j
theorem l_feed {N : Nat} (x : Int32) : ∀ (j n t : Nat) (tb tp : Nat → Int32), j ≤ 4 → j < n → t + j ≤ 120 → jT tb (nI t) tp (nI t) → ∃ w tb' tp', lp_59_49_4 N x n (jm j) tb (nI t) = some (w, tb', nI (t + j)) ∧ lp_197_63_36 N x n (jm j) tp (nI t) = some (w, tp', nI (t + j)) ∧ jT tb' (nI (t + j)) tp' (nI (t + j)) := by
  intro j
  induction j with
  | zero =>
    intro n t tb tp hj hn ht hT
    cases n with
    | zero => exact absurd hn (by omega)
    | succ n => exact ⟨_, _, _, rfl, rfl, hT⟩
  | succ j ih =>
    intro n t tb tp hj hn ht hT
    cases n with
    | zero => exact absurd hn (by omega)
    | succ n =>
      show ∃ w tb' tp', lp_59_49_4 N x (n + 1) (nI j) tb (nI t) = some (w, tb', nI (t + (j + 1))) ∧ lp_197_63_36 N x (n + 1) (nI j) tp (nI t) = some (w, tp', nI (t + (j + 1))) ∧ jT tb' (nI (t + (j + 1))) tp' (nI (t + (j + 1)))
      obtain ⟨c, hc, h1, h2⟩ := jlow _ _ (jbyte x j (by omega))
      rw [lp_59_49_4, lp_197_63_36, jltl j 0 rfl (by omega) (by decide), decide_eq_false (Nat.not_lt_zero j), jgel t 120 rfl (by omega) (by decide), decide_eq_false (show ¬ 120 ≤ t by omega), jin (show t < 120 by omega) (by decide), jcl (by omega), nI_1, jm_s, h1, Int8.toInt8_toInt32, h2, show t + (j + 1) = t + 1 + j by omega]
      refine ih n (t + 1) _ _ (by omega) (by omega) (by omega) ?_
      obtain ⟨t', ht', e1, e2, h3⟩ := hT
      have ett : t = t' := by
        have := congrArg Int32.toInt e1
        rw [nI_toInt (by omega), nI_toInt (by omega)] at this
        omega
      subst ett
      refine ⟨t + 1, by omega, rfl, rfl, ?_⟩
      intro i hi
      by_cases e : i = t
      · subst e
        exact ⟨c, hc, pk_us, pk_us⟩
      · rw [pk_un e, pk_un e]
        exact h3 i (by omega)
/-- feed -/
theorem q_feed {N : Nat} (hN : 4000 ≤ N) {tb tp fi fo : Nat → Int32} {ts td : Int32} (x0 x1 : Int32) (hT : jT tb ts tp td) (hF : jF fi fo) : ∃ qc qm, me_96_0 N x0 x1 tb ts fi = some qc ∧ me_197_63 N x0 x1 fo tp td = some qm ∧ qc.1 = qm.1 ∧ jT qc.2.1 qc.2.2.1 qm.2.2.1 qm.2.2.2 ∧ jF qc.2.2.2 qm.2.1 := by
  obtain ⟨t, ht, rfl, rfl, h0⟩ := id hT
  unfold me_96_0 me_197_63
  rcases jw x1 1 4 with ⟨h1, h2, h3⟩ | ⟨h1, h2⟩
  · obtain ⟨c, hc, rfl⟩ := jR_u 4 (jR_w h3 (by decide) (by decide)) (by decide)
    have hc0 : c ≠ 0 := by
      intro e
      subst e
      exact absurd h3.1 (by decide)
    obtain ⟨j, rfl⟩ : ∃ j, c = j + 1 := ⟨c - 1, by omega⟩
    rw [h1, h2, jn1, nI_add, jlel (t + (j + 1)) 120 rfl (by omega) (by decide)]
    by_cases h4 : t + (j + 1) ≤ 120
    · obtain ⟨w, tb', tp', g1, g2, g3⟩ := l_feed (N := N) x0 (j + 1) N t tb tp hc (by omega) h4 hT
      rw [decide_eq_true h4]
      unfold me_59_49
      rw [nI_pred, show lp_59_49_4 N x0 N (nI j) tb (nI t) = _ from g1, show lp_197_63_36 N x0 N (nI j) tp (nI t) = _ from g2]
      exact ⟨_, _, rfl, rfl, rfl, g3, hF⟩
    · rw [decide_eq_false h4]
      exact ⟨_, _, rfl, rfl, rfl, hT, jF_no 1 hF (by decide)⟩
  · rw [h1, h2, jn0]
    exact ⟨_, _, rfl, rfl, rfl, hT, jF_no 0 hF (by decide)⟩
/-- wipe -/
theorem q_wipe (N : Nat) {tb tp : Nat → Int32} {ts td : Int32} (hT : jT tb ts tp td) : ∃ qc qm, me_97_0 N ts = some qc ∧ me_198_63 N td = some qm ∧ qc.1 = qm.1 ∧ jT tb qc.2 tp qm.2 := by
  obtain ⟨t, ht, rfl, rfl, h0⟩ := hT
  exact ⟨_, _, rfl, rfl, rfl, 0, by omega, rfl, rfl, fun i hi => absurd hi (by omega)⟩
