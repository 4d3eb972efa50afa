/-- UpOneSideModel.wordOf: the loop at 27 -/
def lp_202_63_74_27 (N : Nat) (y3 : Int32) : Nat → Int64 → Int32 → Option (Int64 × Int32)
  | 0, _, _ => none
  | n + 1, y4, y6 =>
    (bif gCmp .ge y6 8 then
      some (y4, y6)
    else
      (bif gIn ((8 * y3) + y6) 16 then (bif !(gCmp .ne (hMo (Int32.toNatClampNeg ((8 * y3) + y6))) 32) || (gIn ((8 * y3) + y6) 16) then lp_202_63_74_27 N y3 n (bif gCmp .ne (hMo (Int32.toNatClampNeg ((8 * y3) + y6))) 32 then (((y4 * 27) + (Int32.toInt64 (hMo (Int32.toNatClampNeg ((8 * y3) + y6))))) - 96) else y4) (y6 + 1) else none) else none))
set_option maxRecDepth 20000 in
set_option maxHeartbeats 4000000 in
theorem lt_202_63_74_27 {LL : Nat} {xs : Nat → Int32} {D N : Nat} {c0 : Nat → gE} {m_s : Nat → Int32} {m_kp : Nat → Int32} {m_as : Nat → Int32} {m_ik : Int32} {m_fo : Nat → Int32} {m_tl : Int32} {m_tr : Int32} {m_fa : Nat → Int32} {m_od : Nat → Int32} {m_rc : Int32} {m_be : Nat → Int32} {m_ft : Int32} {m_tp : Nat → Int32} {m_td : Int32} {m_tk : Int32} {m_bg : Int32} {m_en : Int32} {m_vl : Int64} {m_sg : Int32} {m_wi : Nat → Int32} {m_si : Nat → Int32} {m_ce : Nat → Int32} {m_ca : Nat → Int32} {y2 : Int32} {y3 : Int32} {v : Option Value} {M' : List gE} : ∀ (n : Nat) (y4 : Int64) (y6 : Int32) (q : Int64 × Int32), lp_202_63_74_27 N y3 n y4 y6 = some q → (kk : hX (gO LL xs) (D + 0) zR_202 82 [some (.ref 63), some (.ref 74), some (.int y2), some (.int y3), some (.long q.1), none, some (.int q.2)] [] (hMm c0 m_s m_kp m_as m_ik m_fo m_tl m_tr m_fa m_od m_rc m_be m_ft m_tp m_td m_tk m_bg m_en m_vl m_sg m_wi m_si m_ce m_ca) v M') → hX (gO LL xs) (D + 0) zR_202 27 [some (.ref 63), some (.ref 74), some (.int y2), some (.int y3), some (.long y4), none, some (.int y6)] [] (hMm c0 m_s m_kp m_as m_ik m_fo m_tl m_tr m_fa m_od m_rc m_be m_ft m_tp m_td m_tk m_bg m_en m_vl m_sg m_wi m_si m_ce m_ca) v M' := by
  intro n
  induction n with
  | zero => intro y4 y6 q h; cases h
  | succ n ih =>
    intro y4 y6 q h kk
    rw [lp_202_63_74_27] at h
    refine hX_go 3 (bif gCmp .ge y6 8 then 82 else 34) [some (.ref 63), some (.ref 74), some (.int y2), some (.int y3), some (.long y4), none, some (.int y6)] [] (hMm c0 m_s m_kp m_as m_ik m_fo m_tl m_tr m_fa m_od m_rc m_be m_ft m_tp m_td m_tk m_bg m_en m_vl m_sg m_wi m_si m_ce m_ca) rfl ?_
    refine hX_if (gCmp .ge y6 8) (fun c1 => ?_) (fun c1 => ?_)
    · skip
      have h := gcT c1 h
      have h := Option.some.inj h; subst h
      exact kk
    · skip
      have h := gcF c1 h
      refine hX_goM 6 (42) [some (.ref 63), some (.ref 74), some (.int y2), some (.int y3), some (.long y4), none, some (.int y6)] [.int ((8 * y3) + y6), .ref 74] rfl ?_
      revert h; refine gCondR fun g2 h => ?_
      refine hX_gM (gIn ((8 * y3) + y6) 16) 43 [some (.ref 63), some (.ref 74), some (.int y2), some (.int y3), some (.long y4), none, some (.int y6)] [.int (hMo (Int32.toNatClampNeg ((8 * y3) + y6)))] rfl g2 ?_
      refine hX_goM 2 (bif gCmp .ne (hMo (Int32.toNatClampNeg ((8 * y3) + y6))) 32 then 53 else 48) [some (.ref 63), some (.ref 74), some (.int y2), some (.int y3), some (.long y4), none, some (.int y6)] [] rfl ?_
      revert h; refine gCondR fun o4 h => ?_
      refine hX_mrg 74 [some (.ref 63), some (.ref 74), some (.int y2), some (.int y3), some (.long y4), none, some (.int y6)] [.long (bif gCmp .ne (hMo (Int32.toNatClampNeg ((8 * y3) + y6))) 32 then (((y4 * 27) + (Int32.toInt64 (hMo (Int32.toNatClampNeg ((8 * y3) + y6))))) - 96) else y4)] (hMm c0 m_s m_kp m_as m_ik m_fo m_tl m_tr m_fa m_od m_rc m_be m_ft m_tp m_td m_tk m_bg m_en m_vl m_sg m_wi m_si m_ce m_ca) (fun hk => ?_) ?_
      · skip
        refine hX_if (gCmp .ne (hMo (Int32.toNatClampNeg ((8 * y3) + y6))) 32) (fun c5 => ?_) (fun c5 => ?_)
        · skip
          refine hX_goM 9 (67) [some (.ref 63), some (.ref 74), some (.int y2), some (.int y3), some (.long y4), none, some (.int y6)] [.int ((8 * y3) + y6), .ref 74, .long (y4 * 27)] rfl ?_
          refine hX_gM (gIn ((8 * y3) + y6) 16) 68 [some (.ref 63), some (.ref 74), some (.int y2), some (.int y3), some (.long y4), none, some (.int y6)] [.int (hMo (Int32.toNatClampNeg ((8 * y3) + y6))), .long (y4 * 27)] rfl (gImpT o4 c5) ?_
          refine hX_goM 4 (74) [some (.ref 63), some (.ref 74), some (.int y2), some (.int y3), some (.long y4), none, some (.int y6)] [.long (((y4 * 27) + (Int32.toInt64 (hMo (Int32.toNatClampNeg ((8 * y3) + y6))))) - 96)] rfl ?_
          have hk := hk
          simp only [c5, cond_true, cond_false] at hk
          first | exact hk | (simp only [c5, cond_true, cond_false]; exact hk)
        · skip
          refine hX_goM 2 (74) [some (.ref 63), some (.ref 74), some (.int y2), some (.int y3), some (.long y4), none, some (.int y6)] [.long y4] rfl ?_
          have hk := hk
          simp only [c5, cond_true, cond_false] at hk
          first | exact hk | (simp only [c5, cond_true, cond_false]; exact hk)
      refine hX_goM 3 (27) [some (.ref 63), some (.ref 74), some (.int y2), some (.int y3), some (.long (bif gCmp .ne (hMo (Int32.toNatClampNeg ((8 * y3) + y6))) 32 then (((y4 * 27) + (Int32.toInt64 (hMo (Int32.toNatClampNeg ((8 * y3) + y6))))) - 96) else y4)), none, some (.int (y6 + 1))] [] rfl ?_
      exact ih (bif gCmp .ne (hMo (Int32.toNatClampNeg ((8 * y3) + y6))) 32 then (((y4 * 27) + (Int32.toInt64 (hMo (Int32.toNatClampNeg ((8 * y3) + y6))))) - 96) else y4) (y6 + 1) q h kk

/-- UpOneSideModel.wordOf: the loop at 4 -/
def lp_202_63_74_4 (N : Nat) (m_tk : Int32) (m_vl : Int64) : Nat → Int32 → Int32 → Option (Int32 × Int32)
  | 0, _, _ => none
  | n + 1, y2, y3 =>
    (bif gCmp .ge y3 (16 / 8) then
      some (y2, y3)
    else
      (bif gCmp .ne m_tk 1 then
        some (y2, y3)
      else
        (Option.bind (lp_202_63_74_27 N y3 N 0 0) fun q3 =>
        lp_202_63_74_4 N m_tk m_vl n (bif gCmp .ne (lg_cmp q3.1 m_vl) 0 then y2 else y3) (y3 + 1))))
set_option maxRecDepth 20000 in
set_option maxHeartbeats 4000000 in
theorem lt_202_63_74_4 {LL : Nat} {xs : Nat → Int32} {D N : Nat} {c0 : Nat → gE} {m_s : Nat → Int32} {m_kp : Nat → Int32} {m_as : Nat → Int32} {m_ik : Int32} {m_fo : Nat → Int32} {m_tl : Int32} {m_tr : Int32} {m_fa : Nat → Int32} {m_od : Nat → Int32} {m_rc : Int32} {m_be : Nat → Int32} {m_ft : Int32} {m_tp : Nat → Int32} {m_td : Int32} {m_tk : Int32} {m_bg : Int32} {m_en : Int32} {m_vl : Int64} {m_sg : Int32} {m_wi : Nat → Int32} {m_si : Nat → Int32} {m_ce : Nat → Int32} {m_ca : Nat → Int32} {v : Option Value} {M' : List gE} : ∀ (n : Nat) (y2 : Int32) (y3 : Int32) (q : Int32 × Int32), lp_202_63_74_4 N m_tk m_vl n y2 y3 = some q → (kk : hX (gO LL xs) (D + 0) zR_202 104 [some (.ref 63), some (.ref 74), some (.int q.1), some (.int q.2), none, none, none] [] (hMm c0 m_s m_kp m_as m_ik m_fo m_tl m_tr m_fa m_od m_rc m_be m_ft m_tp m_td m_tk m_bg m_en m_vl m_sg m_wi m_si m_ce m_ca) v M') → hX (gO LL xs) (D + 0) zR_202 4 [some (.ref 63), some (.ref 74), some (.int y2), some (.int y3), none, none, none] [] (hMm c0 m_s m_kp m_as m_ik m_fo m_tl m_tr m_fa m_od m_rc m_be m_ft m_tp m_td m_tk m_bg m_en m_vl m_sg m_wi m_si m_ce m_ca) v M' := by
  intro n
  induction n with
  | zero => intro y2 y3 q h; cases h
  | succ n ih =>
    intro y2 y3 q h kk
    rw [lp_202_63_74_4] at h
    refine hX_go 6 (bif gCmp .ge y3 (16 / 8) then 104 else 13) [some (.ref 63), some (.ref 74), some (.int y2), some (.int y3), none, none, none] [] (hMm c0 m_s m_kp m_as m_ik m_fo m_tl m_tr m_fa m_od m_rc m_be m_ft m_tp m_td m_tk m_bg m_en m_vl m_sg m_wi m_si m_ce m_ca) rfl ?_
    refine hX_if (gCmp .ge y3 (16 / 8)) (fun c1 => ?_) (fun c1 => ?_)
    · skip
      have h := gcT c1 h
      have h := Option.some.inj h; subst h
      exact kk
    · skip
      have h := gcF c1 h
      refine hX_goM 4 (bif gCmp .ne m_tk 1 then 104 else 21) [some (.ref 63), some (.ref 74), some (.int y2), some (.int y3), none, none, none] [] rfl ?_
      refine hX_if (gCmp .ne m_tk 1) (fun c2 => ?_) (fun c2 => ?_)
      · skip
        have h := gcT c2 h
        have h := Option.some.inj h; subst h
        exact kk
      · skip
        have h := gcF c2 h
        refine hX_goM 4 (27) [some (.ref 63), some (.ref 74), some (.int y2), some (.int y3), some (.long 0), none, some (.int 0)] [] rfl ?_
        revert h; refine gBindR fun q3 e3 h => ?_
        refine lt_202_63_74_27 N 0 0 q3 e3 ?_
        refine hX_goM 5 (bif gCmp .ne (lg_cmp q3.1 m_vl) 0 then 96 else 92) [some (.ref 63), some (.ref 74), some (.int y2), some (.int y3), some (.long q3.1), none, some (.int q3.2)] [] rfl ?_
        refine hX_mrg 97 [some (.ref 63), some (.ref 74), some (.int y2), some (.int y3), some (.long q3.1), none, some (.int q3.2)] [.int (bif gCmp .ne (lg_cmp q3.1 m_vl) 0 then y2 else y3)] (hMm c0 m_s m_kp m_as m_ik m_fo m_tl m_tr m_fa m_od m_rc m_be m_ft m_tp m_td m_tk m_bg m_en m_vl m_sg m_wi m_si m_ce m_ca) (fun hk => ?_) ?_
        · skip
          refine hX_if (gCmp .ne (lg_cmp q3.1 m_vl) 0) (fun c5 => ?_) (fun c5 => ?_)
          · skip
            refine hX_goM 1 (97) [some (.ref 63), some (.ref 74), some (.int y2), some (.int y3), some (.long q3.1), none, some (.int q3.2)] [.int y2] rfl ?_
            have hk := hk
            simp only [c5, cond_true, cond_false] at hk
            first | exact hk | (simp only [c5, cond_true, cond_false]; exact hk)
          · skip
            refine hX_goM 2 (97) [some (.ref 63), some (.ref 74), some (.int y2), some (.int y3), some (.long q3.1), none, some (.int q3.2)] [.int y3] rfl ?_
            have hk := hk
            simp only [c5, cond_true, cond_false] at hk
            first | exact hk | (simp only [c5, cond_true, cond_false]; exact hk)
        refine hX_goM 3 (4) [some (.ref 63), some (.ref 74), some (.int (bif gCmp .ne (lg_cmp q3.1 m_vl) 0 then y2 else y3)), some (.int (y3 + 1)), some (.long q3.1), none, some (.int q3.2)] [] rfl ?_
        exact hX_wk (gLe_s (gLe_s (gLe_s (gLe_s (gLe_n (gLe_n (gLe_n gLe_0))))))) (ih (bif gCmp .ne (lg_cmp q3.1 m_vl) 0 then y2 else y3) (y3 + 1) q h kk)

/-- UpOneSideModel.wordOf([C)I -/
def me_202_63_74 (N : Nat) (m_tk : Int32) (m_vl : Int64) : Option (Int32) :=
  (Option.bind (lp_202_63_74_4 N m_tk m_vl N (-1) 0) fun q1 =>
  some (q1.1))
set_option maxRecDepth 20000 in
set_option maxHeartbeats 4000000 in
theorem mt_202_63_74 {LL : Nat} {xs : Nat → Int32} {D : Nat} {c0 : Nat → gE} {m_s : Nat → Int32} {m_kp : Nat → Int32} {m_as : Nat → Int32} {m_ik : Int32} {m_fo : Nat → Int32} {m_tl : Int32} {m_tr : Int32} {m_fa : Nat → Int32} {m_od : Nat → Int32} {m_rc : Int32} {m_be : Nat → Int32} {m_ft : Int32} {m_tp : Nat → Int32} {m_td : Int32} {m_tk : Int32} {m_bg : Int32} {m_en : Int32} {m_vl : Int64} {m_sg : Int32} {m_wi : Nat → Int32} {m_si : Nat → Int32} {m_ce : Nat → Int32} {m_ca : Nat → Int32} (N : Nat) (q : Int32) (h : me_202_63_74 N m_tk m_vl = some q) : hM (gO LL xs) (D + 0) zR_202 [.ref 63, .ref 74] (hMm c0 m_s m_kp m_as m_ik m_fo m_tl m_tr m_fa m_od m_rc m_be m_ft m_tp m_td m_tk m_bg m_en m_vl m_sg m_wi m_si m_ce m_ca) (some (.int q)) (hMm c0 m_s m_kp m_as m_ik m_fo m_tl m_tr m_fa m_od m_rc m_be m_ft m_tp m_td m_tk m_bg m_en m_vl m_sg m_wi m_si m_ce m_ca) := by
  unfold me_202_63_74 at h
  refine hX_go 0 0 [some (.ref 63), some (.ref 74), none, none, none, none, none] [] (hMm c0 m_s m_kp m_as m_ik m_fo m_tl m_tr m_fa m_od m_rc m_be m_ft m_tp m_td m_tk m_bg m_en m_vl m_sg m_wi m_si m_ce m_ca) rfl ?_
  refine hX_go 4 (4) [some (.ref 63), some (.ref 74), some (.int (-1)), some (.int 0), none, none, none] [] (hMm c0 m_s m_kp m_as m_ik m_fo m_tl m_tr m_fa m_od m_rc m_be m_ft m_tp m_td m_tk m_bg m_en m_vl m_sg m_wi m_si m_ce m_ca) rfl ?_
  revert h; refine gBindR fun q1 e1 h => ?_
  refine lt_202_63_74_4 N (-1) 0 q1 e1 ?_
  refine hX_goM 1 (105) [some (.ref 63), some (.ref 74), some (.int q1.1), some (.int q1.2), none, none, none] [.int q1.1] rfl ?_
  have h := Option.some.inj h; subst h
  exact hX_end rfl rfl rfl

/-- UpOneSideModel.readsPull: the loop at 31 -/
def lp_205_63_31 (N : Nat) (y2 : Int32) (m_tp : Nat → Int32) (m_td : Int32) : Nat → Int32 → (Nat → Int32) → Int32 → Int32 → Int32 → Int64 → Int32 → Option (Int32 × (Nat → Int32) × Int32 × Int32 × Int32 × Int64 × Int32)
  | 0, _, _, _, _, _, _, _ => none
  | n + 1, y3, m_s, m_tk, m_bg, m_en, m_vl, m_sg =>
    (bif gCmp .ge y3 2 then
      some (1, m_s, m_tk, m_bg, m_en, m_vl, m_sg)
    else
      (Option.bind (me_202_63_74 N m_tk m_vl) fun q2 =>
      (bif gCmp .ne q2 y3 then
        lp_205_63_31 N y2 m_tp m_td n (y3 + 1) m_s m_tk m_bg m_en m_vl m_sg
      else
        (Option.bind (me_201_63 N m_tp m_td m_en) fun q4 =>
        (Option.bind (me_204_63 N (bif gCmp .ne y3 0 then 9 else 30) m_tp m_td q4.1 q4.2.1 q4.2.2.1 q4.2.2.2) fun q7 =>
        (bif gCmp .ne q7.1 0 then
          (bif gIn ((15 + (3 * y2)) + (1 + y3)) 134 then lp_205_63_31 N y2 m_tp m_td n (y3 + 1) (f_132_63_m_s y2 (1 + y3) q7.2.2.2.2.2 m_s) q7.2.1 q7.2.2.1 q7.2.2.2.1 q7.2.2.2.2.1 q7.2.2.2.2.2 else none)
        else
          some (0, m_s, q7.2.1, q7.2.2.1, q7.2.2.2.1, q7.2.2.2.2.1, q7.2.2.2.2.2)))))))
set_option maxRecDepth 20000 in
set_option maxHeartbeats 4000000 in
theorem lt_205_63_31 {LL : Nat} {xs : Nat → Int32} {D N : Nat} {c0 : Nat → gE}  {m_kp : Nat → Int32} {m_as : Nat → Int32} {m_ik : Int32} {m_fo : Nat → Int32} {m_tl : Int32} {m_tr : Int32} {m_fa : Nat → Int32} {m_od : Nat → Int32} {m_rc : Int32} {m_be : Nat → Int32} {m_ft : Int32} {m_tp : Nat → Int32} {m_td : Int32}      {m_wi : Nat → Int32} {m_si : Nat → Int32} {m_ce : Nat → Int32} {m_ca : Nat → Int32} {y1 : Int32} {y2 : Int32} : ∀ (n : Nat) (y3 : Int32) (m_s : Nat → Int32) (m_tk : Int32) (m_bg : Int32) (m_en : Int32) (m_vl : Int64) (m_sg : Int32) (q : Int32 × (Nat → Int32) × Int32 × Int32 × Int32 × Int64 × Int32), lp_205_63_31 N y2 m_tp m_td n y3 m_s m_tk m_bg m_en m_vl m_sg = some q → hX (gO LL xs) (D + 5) zR_205 31 [some (.ref 63), some (.int y1), some (.int y2), some (.int y3)] [] (hMm c0 m_s m_kp m_as m_ik m_fo m_tl m_tr m_fa m_od m_rc m_be m_ft m_tp m_td m_tk m_bg m_en m_vl m_sg m_wi m_si m_ce m_ca) (some (.int q.1)) (hMm c0 q.2.1 m_kp m_as m_ik m_fo m_tl m_tr m_fa m_od m_rc m_be m_ft m_tp m_td q.2.2.1 q.2.2.2.1 q.2.2.2.2.1 q.2.2.2.2.2.1 q.2.2.2.2.2.2 m_wi m_si m_ce m_ca) := by
  intro n
  induction n with
  | zero => intro y3 m_s m_tk m_bg m_en m_vl m_sg q h; cases h
  | succ n ih =>
    intro y3 m_s m_tk m_bg m_en m_vl m_sg q h
    rw [lp_205_63_31] at h
    refine hX_go 3 (bif gCmp .ge y3 2 then 90 else 36) [some (.ref 63), some (.int y1), some (.int y2), some (.int y3)] [] (hMm c0 m_s m_kp m_as m_ik m_fo m_tl m_tr m_fa m_od m_rc m_be m_ft m_tp m_td m_tk m_bg m_en m_vl m_sg m_wi m_si m_ce m_ca) rfl ?_
    refine hX_if (gCmp .ge y3 2) (fun c1 => ?_) (fun c1 => ?_)
    · skip
      have h := gcT c1 h
      refine hX_goM 1 (91) [some (.ref 63), some (.int y1), some (.int y2), some (.int y3)] [.int 1] rfl ?_
      have h := Option.some.inj h; subst h
      exact hX_end rfl rfl rfl
    · skip
      have h := gcF c1 h
      refine hX_goM 3 (41) [some (.ref 63), some (.int y1), some (.int y2), some (.int y3)] [.ref 74, .ref 63] rfl ?_
      revert h; refine gBindR fun q2 e2 h => ?_
      refine hX_call (r' := zR_202) rfl (mt_202_63_74 N q2 e2) ?_
      refine hX_goM 2 (bif gCmp .ne q2 y3 then 84 else 48) [some (.ref 63), some (.int y1), some (.int y2), some (.int y3)] [] rfl ?_
      refine hX_if (gCmp .ne q2 y3) (fun c3 => ?_) (fun c3 => ?_)
      · skip
        have h := gcT c3 h
        refine hX_goM 2 (31) [some (.ref 63), some (.int y1), some (.int y2), some (.int (y3 + 1))] [] rfl ?_
        exact ih (y3 + 1) m_s m_tk m_bg m_en m_vl m_sg q h
      · skip
        have h := gcF c3 h
        refine hX_goM 1 (49) [some (.ref 63), some (.int y1), some (.int y2), some (.int y3)] [.ref 63] rfl ?_
        revert h; refine gBindR fun q4 e4 h => ?_
        refine hX_call (r' := zR_201) rfl (mt_201_63 N q4 e4) ?_
        refine hX_go 3 (bif gCmp .ne y3 0 then 62 else 57) [some (.ref 63), some (.int y1), some (.int y2), some (.int y3)] [.ref 63] (hMm c0 m_s m_kp m_as m_ik m_fo m_tl m_tr m_fa m_od m_rc m_be m_ft m_tp m_td q4.1 q4.2.1 q4.2.2.1 q4.2.2.2 m_sg m_wi m_si m_ce m_ca) rfl ?_
        refine hX_mrg 64 [some (.ref 63), some (.int y1), some (.int y2), some (.int y3)] [.int (bif gCmp .ne y3 0 then 9 else 30), .ref 63] (hMm c0 m_s m_kp m_as m_ik m_fo m_tl m_tr m_fa m_od m_rc m_be m_ft m_tp m_td q4.1 q4.2.1 q4.2.2.1 q4.2.2.2 m_sg m_wi m_si m_ce m_ca) (fun hk => ?_) ?_
        · skip
          refine hX_if (gCmp .ne y3 0) (fun c6 => ?_) (fun c6 => ?_)
          · skip
            refine hX_goM 1 (64) [some (.ref 63), some (.int y1), some (.int y2), some (.int y3)] [.int 9, .ref 63] rfl ?_
            have hk := hk
            simp only [c6, cond_true, cond_false] at hk
            first | exact hk | (simp only [c6, cond_true, cond_false]; exact hk)
          · skip
            refine hX_goM 2 (64) [some (.ref 63), some (.int y1), some (.int y2), some (.int y3)] [.int 30, .ref 63] rfl ?_
            have hk := hk
            simp only [c6, cond_true, cond_false] at hk
            first | exact hk | (simp only [c6, cond_true, cond_false]; exact hk)
        revert h; refine gBindR fun q7 e7 h => ?_
        refine hX_call (r' := zR_204) rfl (mt_204_63 N (bif gCmp .ne y3 0 then 9 else 30) q7 e7) ?_
        refine hX_go 1 (bif gCmp .ne q7.1 0 then 72 else 70) [some (.ref 63), some (.int y1), some (.int y2), some (.int y3)] [] (hMm c0 m_s m_kp m_as m_ik m_fo m_tl m_tr m_fa m_od m_rc m_be m_ft m_tp m_td q7.2.1 q7.2.2.1 q7.2.2.2.1 q7.2.2.2.2.1 q7.2.2.2.2.2 m_wi m_si m_ce m_ca) rfl ?_
        refine hX_if (gCmp .ne q7.1 0) (fun c8 => ?_) (fun c8 => ?_)
        · skip
          have h := gcT c8 h
          refine hX_goM 7 (81) [some (.ref 63), some (.int y1), some (.int y2), some (.int y3)] [.int q7.2.2.2.2.2, .int (1 + y3), .int y2, .ref 63] rfl ?_
          revert h; refine gCondR fun g9 h => ?_
          refine hX_call (r' := zR_132) rfl (ct_132_63 y2 (1 + y3) q7.2.2.2.2.2 g9) ?_
          refine hX_go 2 (31) [some (.ref 63), some (.int y1), some (.int y2), some (.int (y3 + 1))] [] (hMm c0 (f_132_63_m_s y2 (1 + y3) q7.2.2.2.2.2 m_s) m_kp m_as m_ik m_fo m_tl m_tr m_fa m_od m_rc m_be m_ft m_tp m_td q7.2.1 q7.2.2.1 q7.2.2.2.1 q7.2.2.2.2.1 q7.2.2.2.2.2 m_wi m_si m_ce m_ca) rfl ?_
          exact ih (y3 + 1) (f_132_63_m_s y2 (1 + y3) q7.2.2.2.2.2 m_s) q7.2.1 q7.2.2.1 q7.2.2.2.1 q7.2.2.2.2.1 q7.2.2.2.2.2 q h
        · skip
          have h := gcF c8 h
          refine hX_goM 1 (71) [some (.ref 63), some (.int y1), some (.int y2), some (.int y3)] [.int 0] rfl ?_
          have h := Option.some.inj h; subst h
          exact hX_end rfl rfl rfl

/-- UpOneSideModel.readsPull(I)Z -/
def me_205_63 (N : Nat) (x0 : Int32) (m_s : Nat → Int32) (m_tp : Nat → Int32) (m_td : Int32) (m_tk : Int32) (m_bg : Int32) (m_en : Int32) (m_vl : Int64) (m_sg : Int32) : Option (Int32 × (Nat → Int32) × Int32 × Int32 × Int32 × Int64 × Int32) :=
  (bif gCmp .ne (m_s 3) 8 then
    (bif gIn ((15 + (3 * (m_s 3))) + 0) 134 then (bif gIn ((15 + (3 * (m_s 3))) + 1) 134 then (bif gIn ((15 + (3 * (m_s 3))) + 2) 134 then (Option.bind (me_201_63 N m_tp m_td m_en) fun q5 =>
    lp_205_63_31 N (m_s 3) m_tp m_td N 0 (f_138_63_m_s x0 m_s) q5.1 q5.2.1 q5.2.2.1 q5.2.2.2 m_sg) else none) else none) else none)
  else
    some (0, m_s, m_tk, m_bg, m_en, m_vl, m_sg))
set_option maxRecDepth 20000 in
set_option maxHeartbeats 4000000 in
theorem mt_205_63 {LL : Nat} {xs : Nat → Int32} {D : Nat} {c0 : Nat → gE} {m_s : Nat → Int32} {m_kp : Nat → Int32} {m_as : Nat → Int32} {m_ik : Int32} {m_fo : Nat → Int32} {m_tl : Int32} {m_tr : Int32} {m_fa : Nat → Int32} {m_od : Nat → Int32} {m_rc : Int32} {m_be : Nat → Int32} {m_ft : Int32} {m_tp : Nat → Int32} {m_td : Int32} {m_tk : Int32} {m_bg : Int32} {m_en : Int32} {m_vl : Int64} {m_sg : Int32} {m_wi : Nat → Int32} {m_si : Nat → Int32} {m_ce : Nat → Int32} {m_ca : Nat → Int32} (N : Nat) (x0 : Int32) (q : Int32 × (Nat → Int32) × Int32 × Int32 × Int32 × Int64 × Int32) (h : me_205_63 N x0 m_s m_tp m_td m_tk m_bg m_en m_vl m_sg = some q) : hM (gO LL xs) (D + 5) zR_205 [.ref 63, .int x0] (hMm c0 m_s m_kp m_as m_ik m_fo m_tl m_tr m_fa m_od m_rc m_be m_ft m_tp m_td m_tk m_bg m_en m_vl m_sg m_wi m_si m_ce m_ca) (some (.int q.1)) (hMm c0 q.2.1 m_kp m_as m_ik m_fo m_tl m_tr m_fa m_od m_rc m_be m_ft m_tp m_td q.2.2.1 q.2.2.2.1 q.2.2.2.2.1 q.2.2.2.2.2.1 q.2.2.2.2.2.2 m_wi m_si m_ce m_ca) := by
  unfold me_205_63 at h
  refine hX_go 0 0 [some (.ref 63), some (.int x0), none, none] [] (hMm c0 m_s m_kp m_as m_ik m_fo m_tl m_tr m_fa m_od m_rc m_be m_ft m_tp m_td m_tk m_bg m_en m_vl m_sg m_wi m_si m_ce m_ca) rfl ?_
  refine hX_go 6 (bif gCmp .ne (m_s 3) 8 then 13 else 11) [some (.ref 63), some (.int x0), none, none] [] (hMm c0 m_s m_kp m_as m_ik m_fo m_tl m_tr m_fa m_od m_rc m_be m_ft m_tp m_td m_tk m_bg m_en m_vl m_sg m_wi m_si m_ce m_ca) rfl ?_
  refine hX_if (gCmp .ne (m_s 3) 8) (fun c1 => ?_) (fun c1 => ?_)
  · skip
    have h := gcT c1 h
    refine hX_goM 7 (22) [some (.ref 63), some (.int x0), some (.int (m_s 3)), none] [.int x0, .ref 63] rfl ?_
    revert h; refine gCondR fun g2 h => ?_
    revert h; refine gCondR fun g3 h => ?_
    revert h; refine gCondR fun g4 h => ?_
    refine hX_call (r' := zR_138) rfl (ct_138_63 x0 g2 g3 g4) ?_
    refine hX_go 1 (26) [some (.ref 63), some (.int x0), some (.int (m_s 3)), none] [.ref 63] (hMm c0 (f_138_63_m_s x0 m_s) m_kp m_as m_ik m_fo m_tl m_tr m_fa m_od m_rc m_be m_ft m_tp m_td m_tk m_bg m_en m_vl m_sg m_wi m_si m_ce m_ca) rfl ?_
    revert h; refine gBindR fun q5 e5 h => ?_
    refine hX_call (r' := zR_201) rfl (mt_201_63 N q5 e5) ?_
    refine hX_go 2 (31) [some (.ref 63), some (.int x0), some (.int (m_s 3)), some (.int 0)] [] (hMm c0 (f_138_63_m_s x0 m_s) m_kp m_as m_ik m_fo m_tl m_tr m_fa m_od m_rc m_be m_ft m_tp m_td q5.1 q5.2.1 q5.2.2.1 q5.2.2.2 m_sg m_wi m_si m_ce m_ca) rfl ?_
    exact lt_205_63_31 N 0 (f_138_63_m_s x0 m_s) q5.1 q5.2.1 q5.2.2.1 q5.2.2.2 m_sg q h
  · skip
    have h := gcF c1 h
    refine hX_goM 1 (12) [some (.ref 63), some (.int x0), none, none] [.int 0] rfl ?_
    have h := Option.some.inj h; subst h
    exact hX_end rfl rfl rfl


/-- UpOneSideModel.readsTwo(Z)Z -/
def me_206_63 (N : Nat) (x0 : Int32) (m_s : Nat → Int32) (m_tp : Nat → Int32) (m_td : Int32) (m_tk : Int32) (m_bg : Int32) (m_en : Int32) (m_vl : Int64) : Option (Int32 × (Nat → Int32) × Int32 × Int32 × Int32 × Int64) :=
  (Option.bind (me_203_63 N 0 (bif gCmp .eq x0 0 then 60 else 23) m_tp m_td m_tk m_bg m_en m_vl) fun q3 =>
  (bif gCmp .ge q3.1 0 then
    (Option.bind (me_203_63 N 0 60 m_tp m_td q3.2.1 q3.2.2.1 q3.2.2.2.1 q3.2.2.2.2) fun q5 =>
    (bif gCmp .ge q5.1 0 then
      (bif (gCmp .eq x0 0) || (gIn (100 + q3.1) 134) then some (1, bif gCmp .eq x0 0 then (upd (upd m_s 0 q3.1) 1 q5.1) else (upd m_s (Int32.toNatClampNeg (100 + q3.1)) q5.1), q5.2.1, q5.2.2.1, q5.2.2.2.1, q5.2.2.2.2) else none)
    else
      some (0, m_s, q5.2.1, q5.2.2.1, q5.2.2.2.1, q5.2.2.2.2)))
  else
    some (0, m_s, q3.2.1, q3.2.2.1, q3.2.2.2.1, q3.2.2.2.2)))
set_option maxRecDepth 20000 in
set_option maxHeartbeats 4000000 in
theorem mt_206_63 {LL : Nat} {xs : Nat → Int32} {D : Nat} {c0 : Nat → gE} {m_s : Nat → Int32} {m_kp : Nat → Int32} {m_as : Nat → Int32} {m_ik : Int32} {m_fo : Nat → Int32} {m_tl : Int32} {m_tr : Int32} {m_fa : Nat → Int32} {m_od : Nat → Int32} {m_rc : Int32} {m_be : Nat → Int32} {m_ft : Int32} {m_tp : Nat → Int32} {m_td : Int32} {m_tk : Int32} {m_bg : Int32} {m_en : Int32} {m_vl : Int64} {m_sg : Int32} {m_wi : Nat → Int32} {m_si : Nat → Int32} {m_ce : Nat → Int32} {m_ca : Nat → Int32} (N : Nat) (x0 : Int32) (q : Int32 × (Nat → Int32) × Int32 × Int32 × Int32 × Int64) (h : me_206_63 N x0 m_s m_tp m_td m_tk m_bg m_en m_vl = some q) : hM (gO LL xs) (D + 4) zR_206 [.ref 63, .int x0] (hMm c0 m_s m_kp m_as m_ik m_fo m_tl m_tr m_fa m_od m_rc m_be m_ft m_tp m_td m_tk m_bg m_en m_vl m_sg m_wi m_si m_ce m_ca) (some (.int q.1)) (hMm c0 q.2.1 m_kp m_as m_ik m_fo m_tl m_tr m_fa m_od m_rc m_be m_ft m_tp m_td q.2.2.1 q.2.2.2.1 q.2.2.2.2.1 q.2.2.2.2.2 m_sg m_wi m_si m_ce m_ca) := by
  unfold me_206_63 at h
  refine hX_go 0 0 [some (.ref 63), some (.int x0), none, none] [] (hMm c0 m_s m_kp m_as m_ik m_fo m_tl m_tr m_fa m_od m_rc m_be m_ft m_tp m_td m_tk m_bg m_en m_vl m_sg m_wi m_si m_ce m_ca) rfl ?_
  refine hX_go 4 (bif gCmp .eq x0 0 then 11 else 6) [some (.ref 63), some (.int x0), none, none] [.int 0, .ref 63] (hMm c0 m_s m_kp m_as m_ik m_fo m_tl m_tr m_fa m_od m_rc m_be m_ft m_tp m_td m_tk m_bg m_en m_vl m_sg m_wi m_si m_ce m_ca) rfl ?_
  refine hX_mrg 13 [some (.ref 63), some (.int x0), none, none] [.int (bif gCmp .eq x0 0 then 60 else 23), .int 0, .ref 63] (hMm c0 m_s m_kp m_as m_ik m_fo m_tl m_tr m_fa m_od m_rc m_be m_ft m_tp m_td m_tk m_bg m_en m_vl m_sg m_wi m_si m_ce m_ca) (fun hk => ?_) ?_
  · skip
    refine hX_if (gCmp .eq x0 0) (fun c2 => ?_) (fun c2 => ?_)
    · skip
      refine hX_goM 1 (13) [some (.ref 63), some (.int x0), none, none] [.int 60, .int 0, .ref 63] rfl ?_
      have hk := hk
      simp only [c2, cond_true, cond_false] at hk
      first | exact hk | (simp only [c2, cond_true, cond_false]; exact hk)
    · skip
      refine hX_goM 2 (13) [some (.ref 63), some (.int x0), none, none] [.int 23, .int 0, .ref 63] rfl ?_
      have hk := hk
      simp only [c2, cond_true, cond_false] at hk
      first | exact hk | (simp only [c2, cond_true, cond_false]; exact hk)
  revert h; refine gBindR fun q3 e3 h => ?_
  refine hX_call (r' := zR_203) rfl (mt_203_63 N 0 (bif gCmp .eq x0 0 then 60 else 23) q3 e3) ?_
  refine hX_go 3 (bif gCmp .ge q3.1 0 then 25 else 21) [some (.ref 63), some (.int x0), some (.int q3.1), none] [] (hMm c0 m_s m_kp m_as m_ik m_fo m_tl m_tr m_fa m_od m_rc m_be m_ft m_tp m_td q3.2.1 q3.2.2.1 q3.2.2.2.1 q3.2.2.2.2 m_sg m_wi m_si m_ce m_ca) rfl ?_
  refine hX_if (gCmp .ge q3.1 0) (fun c4 => ?_) (fun c4 => ?_)
  · skip
    have h := gcT c4 h
    refine hX_goM 3 (29) [some (.ref 63), some (.int x0), some (.int q3.1), none] [.int 60, .int 0, .ref 63] rfl ?_
    revert h; refine gBindR fun q5 e5 h => ?_
    refine hX_call (r' := zR_203) rfl (mt_203_63 N 0 60 q5 e5) ?_
    refine hX_go 3 (bif gCmp .ge q5.1 0 then 39 else 37) [some (.ref 63), some (.int x0), some (.int q3.1), some (.int q5.1)] [] (hMm c0 m_s m_kp m_as m_ik m_fo m_tl m_tr m_fa m_od m_rc m_be m_ft m_tp m_td q5.2.1 q5.2.2.1 q5.2.2.2.1 q5.2.2.2.2 m_sg m_wi m_si m_ce m_ca) rfl ?_
    refine hX_if (gCmp .ge q5.1 0) (fun c6 => ?_) (fun c6 => ?_)
    · skip
      have h := gcT c6 h
      refine hX_goM 2 (bif gCmp .eq x0 0 then 56 else 43) [some (.ref 63), some (.int x0), some (.int q3.1), some (.int q5.1)] [] rfl ?_
      revert h; refine gCondR fun o8 h => ?_
      refine hX_mrg 70 [some (.ref 63), some (.int x0), some (.int q3.1), some (.int q5.1)] [] (hMm c0 (bif gCmp .eq x0 0 then (upd (upd m_s 0 q3.1) 1 q5.1) else (upd m_s (Int32.toNatClampNeg (100 + q3.1)) q5.1)) m_kp m_as m_ik m_fo m_tl m_tr m_fa m_od m_rc m_be m_ft m_tp m_td q5.2.1 q5.2.2.1 q5.2.2.2.1 q5.2.2.2.2 m_sg m_wi m_si m_ce m_ca) (fun hk => ?_) ?_
      · skip
        refine hX_if (gCmp .eq x0 0) (fun c9 => ?_) (fun c9 => ?_)
        · skip
          refine hX_go 9 (69) [some (.ref 63), some (.int x0), some (.int q3.1), some (.int q5.1)] [.int q5.1, .int 1, .ref 64] (hMm c0 (upd m_s 0 q3.1) m_kp m_as m_ik m_fo m_tl m_tr m_fa m_od m_rc m_be m_ft m_tp m_td q5.2.1 q5.2.2.1 q5.2.2.2.1 q5.2.2.2.2 m_sg m_wi m_si m_ce m_ca) rfl ?_
          refine hX_go 1 (70) [some (.ref 63), some (.int x0), some (.int q3.1), some (.int q5.1)] [] (hMm c0 (upd (upd m_s 0 q3.1) 1 q5.1) m_kp m_as m_ik m_fo m_tl m_tr m_fa m_od m_rc m_be m_ft m_tp m_td q5.2.1 q5.2.2.1 q5.2.2.2.1 q5.2.2.2.2 m_sg m_wi m_si m_ce m_ca) rfl ?_
          have hk := hk
          simp only [c9, cond_true, cond_false] at hk
          first | exact hk | (simp only [c9, cond_true, cond_false]; exact hk)
        · skip
          refine hX_goM 6 (52) [some (.ref 63), some (.int x0), some (.int q3.1), some (.int q5.1)] [.int q5.1, .int (100 + q3.1), .ref 64] rfl ?_
          refine hX_g (gIn (100 + q3.1) 134) 53 [some (.ref 63), some (.int x0), some (.int q3.1), some (.int q5.1)] [] (hMm c0 (upd m_s (Int32.toNatClampNeg (100 + q3.1)) q5.1) m_kp m_as m_ik m_fo m_tl m_tr m_fa m_od m_rc m_be m_ft m_tp m_td q5.2.1 q5.2.2.1 q5.2.2.2.1 q5.2.2.2.2 m_sg m_wi m_si m_ce m_ca) rfl (gImpF o8 c9) ?_
          refine hX_goM 1 (70) [some (.ref 63), some (.int x0), some (.int q3.1), some (.int q5.1)] [] rfl ?_
          have hk := hk
          simp only [c9, cond_true, cond_false] at hk
          first | exact hk | (simp only [c9, cond_true, cond_false]; exact hk)
      refine hX_goM 1 (71) [some (.ref 63), some (.int x0), some (.int q3.1), some (.int q5.1)] [.int 1] rfl ?_
      have h := Option.some.inj h; subst h
      exact hX_end rfl rfl rfl
    · skip
      have h := gcF c6 h
      refine hX_goM 1 (38) [some (.ref 63), some (.int x0), some (.int q3.1), some (.int q5.1)] [.int 0] rfl ?_
      have h := Option.some.inj h; subst h
      exact hX_end rfl rfl rfl
  · skip
    have h := gcF c4 h
    refine hX_goM 6 (38) [some (.ref 63), some (.int x0), some (.int q3.1), some (.int (-1))] [.int 0] rfl ?_
    have h := Option.some.inj h; subst h
    exact hX_end rfl rfl rfl

/-- UpOneSideModel.wordOf: the loop at 27 -/
def lp_202_63_72_27 (N : Nat) (y3 : Int32) : Nat → Int64 → Int32 → Option (Int64 × Int32)
  | 0, _, _ => none
  | n + 1, y4, y6 =>
    (bif gCmp .ge y6 8 then
      some (y4, y6)
    else
      (bif gIn ((8 * y3) + y6) 56 then (bif !(gCmp .ne (hLe (Int32.toNatClampNeg ((8 * y3) + y6))) 32) || (gIn ((8 * y3) + y6) 56) then lp_202_63_72_27 N y3 n (bif gCmp .ne (hLe (Int32.toNatClampNeg ((8 * y3) + y6))) 32 then (((y4 * 27) + (Int32.toInt64 (hLe (Int32.toNatClampNeg ((8 * y3) + y6))))) - 96) else y4) (y6 + 1) else none) else none))
set_option maxRecDepth 20000 in
set_option maxHeartbeats 4000000 in
theorem lt_202_63_72_27 {LL : Nat} {xs : Nat → Int32} {D N : Nat} {c0 : Nat → gE} {m_s : Nat → Int32} {m_kp : Nat → Int32} {m_as : Nat → Int32} {m_ik : Int32} {m_fo : Nat → Int32} {m_tl : Int32} {m_tr : Int32} {m_fa : Nat → Int32} {m_od : Nat → Int32} {m_rc : Int32} {m_be : Nat → Int32} {m_ft : Int32} {m_tp : Nat → Int32} {m_td : Int32} {m_tk : Int32} {m_bg : Int32} {m_en : Int32} {m_vl : Int64} {m_sg : Int32} {m_wi : Nat → Int32} {m_si : Nat → Int32} {m_ce : Nat → Int32} {m_ca : Nat → Int32} {y2 : Int32} {y3 : Int32} {v : Option Value} {M' : List gE} : ∀ (n : Nat) (y4 : Int64) (y6 : Int32) (q : Int64 × Int32), lp_202_63_72_27 N y3 n y4 y6 = some q → (kk : hX (gO LL xs) (D + 0) zR_202 82 [some (.ref 63), some (.ref 72), some (.int y2), some (.int y3), some (.long q.1), none, some (.int q.2)] [] (hMm c0 m_s m_kp m_as m_ik m_fo m_tl m_tr m_fa m_od m_rc m_be m_ft m_tp m_td m_tk m_bg m_en m_vl m_sg m_wi m_si m_ce m_ca) v M') → hX (gO LL xs) (D + 0) zR_202 27 [some (.ref 63), some (.ref 72), some (.int y2), some (.int y3), some (.long y4), none, some (.int y6)] [] (hMm c0 m_s m_kp m_as m_ik m_fo m_tl m_tr m_fa m_od m_rc m_be m_ft m_tp m_td m_tk m_bg m_en m_vl m_sg m_wi m_si m_ce m_ca) v M' := by
  intro n
  induction n with
  | zero => intro y4 y6 q h; cases h
  | succ n ih =>
    intro y4 y6 q h kk
    rw [lp_202_63_72_27] at h
    refine hX_go 3 (bif gCmp .ge y6 8 then 82 else 34) [some (.ref 63), some (.ref 72), some (.int y2), some (.int y3), some (.long y4), none, some (.int y6)] [] (hMm c0 m_s m_kp m_as m_ik m_fo m_tl m_tr m_fa m_od m_rc m_be m_ft m_tp m_td m_tk m_bg m_en m_vl m_sg m_wi m_si m_ce m_ca) rfl ?_
    refine hX_if (gCmp .ge y6 8) (fun c1 => ?_) (fun c1 => ?_)
    · skip
      have h := gcT c1 h
      have h := Option.some.inj h; subst h
      exact kk
    · skip
      have h := gcF c1 h
      refine hX_goM 6 (42) [some (.ref 63), some (.ref 72), some (.int y2), some (.int y3), some (.long y4), none, some (.int y6)] [.int ((8 * y3) + y6), .ref 72] rfl ?_
      revert h; refine gCondR fun g2 h => ?_
      refine hX_gM (gIn ((8 * y3) + y6) 56) 43 [some (.ref 63), some (.ref 72), some (.int y2), some (.int y3), some (.long y4), none, some (.int y6)] [.int (hLe (Int32.toNatClampNeg ((8 * y3) + y6)))] rfl g2 ?_
      refine hX_goM 2 (bif gCmp .ne (hLe (Int32.toNatClampNeg ((8 * y3) + y6))) 32 then 53 else 48) [some (.ref 63), some (.ref 72), some (.int y2), some (.int y3), some (.long y4), none, some (.int y6)] [] rfl ?_
      revert h; refine gCondR fun o4 h => ?_
      refine hX_mrg 74 [some (.ref 63), some (.ref 72), some (.int y2), some (.int y3), some (.long y4), none, some (.int y6)] [.long (bif gCmp .ne (hLe (Int32.toNatClampNeg ((8 * y3) + y6))) 32 then (((y4 * 27) + (Int32.toInt64 (hLe (Int32.toNatClampNeg ((8 * y3) + y6))))) - 96) else y4)] (hMm c0 m_s m_kp m_as m_ik m_fo m_tl m_tr m_fa m_od m_rc m_be m_ft m_tp m_td m_tk m_bg m_en m_vl m_sg m_wi m_si m_ce m_ca) (fun hk => ?_) ?_
      · skip
        refine hX_if (gCmp .ne (hLe (Int32.toNatClampNeg ((8 * y3) + y6))) 32) (fun c5 => ?_) (fun c5 => ?_)
        · skip
          refine hX_goM 9 (67) [some (.ref 63), some (.ref 72), some (.int y2), some (.int y3), some (.long y4), none, some (.int y6)] [.int ((8 * y3) + y6), .ref 72, .long (y4 * 27)] rfl ?_
          refine hX_gM (gIn ((8 * y3) + y6) 56) 68 [some (.ref 63), some (.ref 72), some (.int y2), some (.int y3), some (.long y4), none, some (.int y6)] [.int (hLe (Int32.toNatClampNeg ((8 * y3) + y6))), .long (y4 * 27)] rfl (gImpT o4 c5) ?_
          refine hX_goM 4 (74) [some (.ref 63), some (.ref 72), some (.int y2), some (.int y3), some (.long y4), none, some (.int y6)] [.long (((y4 * 27) + (Int32.toInt64 (hLe (Int32.toNatClampNeg ((8 * y3) + y6))))) - 96)] rfl ?_
          have hk := hk
          simp only [c5, cond_true, cond_false] at hk
          first | exact hk | (simp only [c5, cond_true, cond_false]; exact hk)
        · skip
          refine hX_goM 2 (74) [some (.ref 63), some (.ref 72), some (.int y2), some (.int y3), some (.long y4), none, some (.int y6)] [.long y4] rfl ?_
          have hk := hk
          simp only [c5, cond_true, cond_false] at hk
          first | exact hk | (simp only [c5, cond_true, cond_false]; exact hk)
      refine hX_goM 3 (27) [some (.ref 63), some (.ref 72), some (.int y2), some (.int y3), some (.long (bif gCmp .ne (hLe (Int32.toNatClampNeg ((8 * y3) + y6))) 32 then (((y4 * 27) + (Int32.toInt64 (hLe (Int32.toNatClampNeg ((8 * y3) + y6))))) - 96) else y4)), none, some (.int (y6 + 1))] [] rfl ?_
      exact ih (bif gCmp .ne (hLe (Int32.toNatClampNeg ((8 * y3) + y6))) 32 then (((y4 * 27) + (Int32.toInt64 (hLe (Int32.toNatClampNeg ((8 * y3) + y6))))) - 96) else y4) (y6 + 1) q h kk

/-- UpOneSideModel.wordOf: the loop at 4 -/
def lp_202_63_72_4 (N : Nat) (m_tk : Int32) (m_vl : Int64) : Nat → Int32 → Int32 → Option (Int32 × Int32)
  | 0, _, _ => none
  | n + 1, y2, y3 =>
    (bif gCmp .ge y3 (56 / 8) then
      some (y2, y3)
    else
      (bif gCmp .ne m_tk 1 then
        some (y2, y3)
      else
        (Option.bind (lp_202_63_72_27 N y3 N 0 0) fun q3 =>
        lp_202_63_72_4 N m_tk m_vl n (bif gCmp .ne (lg_cmp q3.1 m_vl) 0 then y2 else y3) (y3 + 1))))
set_option maxRecDepth 20000 in
set_option maxHeartbeats 4000000 in
theorem lt_202_63_72_4 {LL : Nat} {xs : Nat → Int32} {D N : Nat} {c0 : Nat → gE} {m_s : Nat → Int32} {m_kp : Nat → Int32} {m_as : Nat → Int32} {m_ik : Int32} {m_fo : Nat → Int32} {m_tl : Int32} {m_tr : Int32} {m_fa : Nat → Int32} {m_od : Nat → Int32} {m_rc : Int32} {m_be : Nat → Int32} {m_ft : Int32} {m_tp : Nat → Int32} {m_td : Int32} {m_tk : Int32} {m_bg : Int32} {m_en : Int32} {m_vl : Int64} {m_sg : Int32} {m_wi : Nat → Int32} {m_si : Nat → Int32} {m_ce : Nat → Int32} {m_ca : Nat → Int32} {v : Option Value} {M' : List gE} : ∀ (n : Nat) (y2 : Int32) (y3 : Int32) (q : Int32 × Int32), lp_202_63_72_4 N m_tk m_vl n y2 y3 = some q → (kk : hX (gO LL xs) (D + 0) zR_202 104 [some (.ref 63), some (.ref 72), some (.int q.1), some (.int q.2), none, none, none] [] (hMm c0 m_s m_kp m_as m_ik m_fo m_tl m_tr m_fa m_od m_rc m_be m_ft m_tp m_td m_tk m_bg m_en m_vl m_sg m_wi m_si m_ce m_ca) v M') → hX (gO LL xs) (D + 0) zR_202 4 [some (.ref 63), some (.ref 72), some (.int y2), some (.int y3), none, none, none] [] (hMm c0 m_s m_kp m_as m_ik m_fo m_tl m_tr m_fa m_od m_rc m_be m_ft m_tp m_td m_tk m_bg m_en m_vl m_sg m_wi m_si m_ce m_ca) v M' := by
  intro n
  induction n with
  | zero => intro y2 y3 q h; cases h
  | succ n ih =>
    intro y2 y3 q h kk
    rw [lp_202_63_72_4] at h
    refine hX_go 6 (bif gCmp .ge y3 (56 / 8) then 104 else 13) [some (.ref 63), some (.ref 72), some (.int y2), some (.int y3), none, none, none] [] (hMm c0 m_s m_kp m_as m_ik m_fo m_tl m_tr m_fa m_od m_rc m_be m_ft m_tp m_td m_tk m_bg m_en m_vl m_sg m_wi m_si m_ce m_ca) rfl ?_
    refine hX_if (gCmp .ge y3 (56 / 8)) (fun c1 => ?_) (fun c1 => ?_)
    · skip
      have h := gcT c1 h
      have h := Option.some.inj h; subst h
      exact kk
    · skip
      have h := gcF c1 h
      refine hX_goM 4 (bif gCmp .ne m_tk 1 then 104 else 21) [some (.ref 63), some (.ref 72), some (.int y2), some (.int y3), none, none, none] [] rfl ?_
      refine hX_if (gCmp .ne m_tk 1) (fun c2 => ?_) (fun c2 => ?_)
      · skip
        have h := gcT c2 h
        have h := Option.some.inj h; subst h
        exact kk
      · skip
        have h := gcF c2 h
        refine hX_goM 4 (27) [some (.ref 63), some (.ref 72), some (.int y2), some (.int y3), some (.long 0), none, some (.int 0)] [] rfl ?_
        revert h; refine gBindR fun q3 e3 h => ?_
        refine lt_202_63_72_27 N 0 0 q3 e3 ?_
        refine hX_goM 5 (bif gCmp .ne (lg_cmp q3.1 m_vl) 0 then 96 else 92) [some (.ref 63), some (.ref 72), some (.int y2), some (.int y3), some (.long q3.1), none, some (.int q3.2)] [] rfl ?_
        refine hX_mrg 97 [some (.ref 63), some (.ref 72), some (.int y2), some (.int y3), some (.long q3.1), none, some (.int q3.2)] [.int (bif gCmp .ne (lg_cmp q3.1 m_vl) 0 then y2 else y3)] (hMm c0 m_s m_kp m_as m_ik m_fo m_tl m_tr m_fa m_od m_rc m_be m_ft m_tp m_td m_tk m_bg m_en m_vl m_sg m_wi m_si m_ce m_ca) (fun hk => ?_) ?_
        · skip
          refine hX_if (gCmp .ne (lg_cmp q3.1 m_vl) 0) (fun c5 => ?_) (fun c5 => ?_)
          · skip
            refine hX_goM 1 (97) [some (.ref 63), some (.ref 72), some (.int y2), some (.int y3), some (.long q3.1), none, some (.int q3.2)] [.int y2] rfl ?_
            have hk := hk
            simp only [c5, cond_true, cond_false] at hk
            first | exact hk | (simp only [c5, cond_true, cond_false]; exact hk)
          · skip
            refine hX_goM 2 (97) [some (.ref 63), some (.ref 72), some (.int y2), some (.int y3), some (.long q3.1), none, some (.int q3.2)] [.int y3] rfl ?_
            have hk := hk
            simp only [c5, cond_true, cond_false] at hk
            first | exact hk | (simp only [c5, cond_true, cond_false]; exact hk)
        refine hX_goM 3 (4) [some (.ref 63), some (.ref 72), some (.int (bif gCmp .ne (lg_cmp q3.1 m_vl) 0 then y2 else y3)), some (.int (y3 + 1)), some (.long q3.1), none, some (.int q3.2)] [] rfl ?_
        exact hX_wk (gLe_s (gLe_s (gLe_s (gLe_s (gLe_n (gLe_n (gLe_n gLe_0))))))) (ih (bif gCmp .ne (lg_cmp q3.1 m_vl) 0 then y2 else y3) (y3 + 1) q h kk)

/-- UpOneSideModel.wordOf([C)I -/
def me_202_63_72 (N : Nat) (m_tk : Int32) (m_vl : Int64) : Option (Int32) :=
  (Option.bind (lp_202_63_72_4 N m_tk m_vl N (-1) 0) fun q1 =>
  some (q1.1))
set_option maxRecDepth 20000 in
set_option maxHeartbeats 4000000 in
theorem mt_202_63_72 {LL : Nat} {xs : Nat → Int32} {D : Nat} {c0 : Nat → gE} {m_s : Nat → Int32} {m_kp : Nat → Int32} {m_as : Nat → Int32} {m_ik : Int32} {m_fo : Nat → Int32} {m_tl : Int32} {m_tr : Int32} {m_fa : Nat → Int32} {m_od : Nat → Int32} {m_rc : Int32} {m_be : Nat → Int32} {m_ft : Int32} {m_tp : Nat → Int32} {m_td : Int32} {m_tk : Int32} {m_bg : Int32} {m_en : Int32} {m_vl : Int64} {m_sg : Int32} {m_wi : Nat → Int32} {m_si : Nat → Int32} {m_ce : Nat → Int32} {m_ca : Nat → Int32} (N : Nat) (q : Int32) (h : me_202_63_72 N m_tk m_vl = some q) : hM (gO LL xs) (D + 0) zR_202 [.ref 63, .ref 72] (hMm c0 m_s m_kp m_as m_ik m_fo m_tl m_tr m_fa m_od m_rc m_be m_ft m_tp m_td m_tk m_bg m_en m_vl m_sg m_wi m_si m_ce m_ca) (some (.int q)) (hMm c0 m_s m_kp m_as m_ik m_fo m_tl m_tr m_fa m_od m_rc m_be m_ft m_tp m_td m_tk m_bg m_en m_vl m_sg m_wi m_si m_ce m_ca) := by
  unfold me_202_63_72 at h
  refine hX_go 0 0 [some (.ref 63), some (.ref 72), none, none, none, none, none] [] (hMm c0 m_s m_kp m_as m_ik m_fo m_tl m_tr m_fa m_od m_rc m_be m_ft m_tp m_td m_tk m_bg m_en m_vl m_sg m_wi m_si m_ce m_ca) rfl ?_
  refine hX_go 4 (4) [some (.ref 63), some (.ref 72), some (.int (-1)), some (.int 0), none, none, none] [] (hMm c0 m_s m_kp m_as m_ik m_fo m_tl m_tr m_fa m_od m_rc m_be m_ft m_tp m_td m_tk m_bg m_en m_vl m_sg m_wi m_si m_ce m_ca) rfl ?_
  revert h; refine gBindR fun q1 e1 h => ?_
  refine lt_202_63_72_4 N (-1) 0 q1 e1 ?_
  refine hX_goM 1 (105) [some (.ref 63), some (.ref 72), some (.int q1.1), some (.int q1.2), none, none, none] [.int q1.1] rfl ?_
  have h := Option.some.inj h; subst h
  exact hX_end rfl rfl rfl

/-- UpOneSideModel.wordOf: the loop at 27 -/
def lp_202_63_73_27 (N : Nat) (y3 : Int32) : Nat → Int64 → Int32 → Option (Int64 × Int32)
  | 0, _, _ => none
  | n + 1, y4, y6 =>
    (bif gCmp .ge y6 8 then
      some (y4, y6)
    else
      (bif gIn ((8 * y3) + y6) 56 then (bif !(gCmp .ne (hOt (Int32.toNatClampNeg ((8 * y3) + y6))) 32) || (gIn ((8 * y3) + y6) 56) then lp_202_63_73_27 N y3 n (bif gCmp .ne (hOt (Int32.toNatClampNeg ((8 * y3) + y6))) 32 then (((y4 * 27) + (Int32.toInt64 (hOt (Int32.toNatClampNeg ((8 * y3) + y6))))) - 96) else y4) (y6 + 1) else none) else none))
set_option maxRecDepth 20000 in
set_option maxHeartbeats 4000000 in
theorem lt_202_63_73_27 {LL : Nat} {xs : Nat → Int32} {D N : Nat} {c0 : Nat → gE} {m_s : Nat → Int32} {m_kp : Nat → Int32} {m_as : Nat → Int32} {m_ik : Int32} {m_fo : Nat → Int32} {m_tl : Int32} {m_tr : Int32} {m_fa : Nat → Int32} {m_od : Nat → Int32} {m_rc : Int32} {m_be : Nat → Int32} {m_ft : Int32} {m_tp : Nat → Int32} {m_td : Int32} {m_tk : Int32} {m_bg : Int32} {m_en : Int32} {m_vl : Int64} {m_sg : Int32} {m_wi : Nat → Int32} {m_si : Nat → Int32} {m_ce : Nat → Int32} {m_ca : Nat → Int32} {y2 : Int32} {y3 : Int32} {v : Option Value} {M' : List gE} : ∀ (n : Nat) (y4 : Int64) (y6 : Int32) (q : Int64 × Int32), lp_202_63_73_27 N y3 n y4 y6 = some q → (kk : hX (gO LL xs) (D + 0) zR_202 82 [some (.ref 63), some (.ref 73), some (.int y2), some (.int y3), some (.long q.1), none, some (.int q.2)] [] (hMm c0 m_s m_kp m_as m_ik m_fo m_tl m_tr m_fa m_od m_rc m_be m_ft m_tp m_td m_tk m_bg m_en m_vl m_sg m_wi m_si m_ce m_ca) v M') → hX (gO LL xs) (D + 0) zR_202 27 [some (.ref 63), some (.ref 73), some (.int y2), some (.int y3), some (.long y4), none, some (.int y6)] [] (hMm c0 m_s m_kp m_as m_ik m_fo m_tl m_tr m_fa m_od m_rc m_be m_ft m_tp m_td m_tk m_bg m_en m_vl m_sg m_wi m_si m_ce m_ca) v M' := by
  intro n
  induction n with
  | zero => intro y4 y6 q h; cases h
  | succ n ih =>
    intro y4 y6 q h kk
    rw [lp_202_63_73_27] at h
    refine hX_go 3 (bif gCmp .ge y6 8 then 82 else 34) [some (.ref 63), some (.ref 73), some (.int y2), some (.int y3), some (.long y4), none, some (.int y6)] [] (hMm c0 m_s m_kp m_as m_ik m_fo m_tl m_tr m_fa m_od m_rc m_be m_ft m_tp m_td m_tk m_bg m_en m_vl m_sg m_wi m_si m_ce m_ca) rfl ?_
    refine hX_if (gCmp .ge y6 8) (fun c1 => ?_) (fun c1 => ?_)
    · skip
      have h := gcT c1 h
      have h := Option.some.inj h; subst h
      exact kk
    · skip
      have h := gcF c1 h
      refine hX_goM 6 (42) [some (.ref 63), some (.ref 73), some (.int y2), some (.int y3), some (.long y4), none, some (.int y6)] [.int ((8 * y3) + y6), .ref 73] rfl ?_
      revert h; refine gCondR fun g2 h => ?_
      refine hX_gM (gIn ((8 * y3) + y6) 56) 43 [some (.ref 63), some (.ref 73), some (.int y2), some (.int y3), some (.long y4), none, some (.int y6)] [.int (hOt (Int32.toNatClampNeg ((8 * y3) + y6)))] rfl g2 ?_
      refine hX_goM 2 (bif gCmp .ne (hOt (Int32.toNatClampNeg ((8 * y3) + y6))) 32 then 53 else 48) [some (.ref 63), some (.ref 73), some (.int y2), some (.int y3), some (.long y4), none, some (.int y6)] [] rfl ?_
      revert h; refine gCondR fun o4 h => ?_
      refine hX_mrg 74 [some (.ref 63), some (.ref 73), some (.int y2), some (.int y3), some (.long y4), none, some (.int y6)] [.long (bif gCmp .ne (hOt (Int32.toNatClampNeg ((8 * y3) + y6))) 32 then (((y4 * 27) + (Int32.toInt64 (hOt (Int32.toNatClampNeg ((8 * y3) + y6))))) - 96) else y4)] (hMm c0 m_s m_kp m_as m_ik m_fo m_tl m_tr m_fa m_od m_rc m_be m_ft m_tp m_td m_tk m_bg m_en m_vl m_sg m_wi m_si m_ce m_ca) (fun hk => ?_) ?_
      · skip
        refine hX_if (gCmp .ne (hOt (Int32.toNatClampNeg ((8 * y3) + y6))) 32) (fun c5 => ?_) (fun c5 => ?_)
        · skip
          refine hX_goM 9 (67) [some (.ref 63), some (.ref 73), some (.int y2), some (.int y3), some (.long y4), none, some (.int y6)] [.int ((8 * y3) + y6), .ref 73, .long (y4 * 27)] rfl ?_
          refine hX_gM (gIn ((8 * y3) + y6) 56) 68 [some (.ref 63), some (.ref 73), some (.int y2), some (.int y3), some (.long y4), none, some (.int y6)] [.int (hOt (Int32.toNatClampNeg ((8 * y3) + y6))), .long (y4 * 27)] rfl (gImpT o4 c5) ?_
          refine hX_goM 4 (74) [some (.ref 63), some (.ref 73), some (.int y2), some (.int y3), some (.long y4), none, some (.int y6)] [.long (((y4 * 27) + (Int32.toInt64 (hOt (Int32.toNatClampNeg ((8 * y3) + y6))))) - 96)] rfl ?_
          have hk := hk
          simp only [c5, cond_true, cond_false] at hk
          first | exact hk | (simp only [c5, cond_true, cond_false]; exact hk)
        · skip
          refine hX_goM 2 (74) [some (.ref 63), some (.ref 73), some (.int y2), some (.int y3), some (.long y4), none, some (.int y6)] [.long y4] rfl ?_
          have hk := hk
          simp only [c5, cond_true, cond_false] at hk
          first | exact hk | (simp only [c5, cond_true, cond_false]; exact hk)
      refine hX_goM 3 (27) [some (.ref 63), some (.ref 73), some (.int y2), some (.int y3), some (.long (bif gCmp .ne (hOt (Int32.toNatClampNeg ((8 * y3) + y6))) 32 then (((y4 * 27) + (Int32.toInt64 (hOt (Int32.toNatClampNeg ((8 * y3) + y6))))) - 96) else y4)), none, some (.int (y6 + 1))] [] rfl ?_
      exact ih (bif gCmp .ne (hOt (Int32.toNatClampNeg ((8 * y3) + y6))) 32 then (((y4 * 27) + (Int32.toInt64 (hOt (Int32.toNatClampNeg ((8 * y3) + y6))))) - 96) else y4) (y6 + 1) q h kk

/-- UpOneSideModel.wordOf: the loop at 4 -/
def lp_202_63_73_4 (N : Nat) (m_tk : Int32) (m_vl : Int64) : Nat → Int32 → Int32 → Option (Int32 × Int32)
  | 0, _, _ => none
  | n + 1, y2, y3 =>
    (bif gCmp .ge y3 (56 / 8) then
      some (y2, y3)
    else
      (bif gCmp .ne m_tk 1 then
        some (y2, y3)
      else
        (Option.bind (lp_202_63_73_27 N y3 N 0 0) fun q3 =>
        lp_202_63_73_4 N m_tk m_vl n (bif gCmp .ne (lg_cmp q3.1 m_vl) 0 then y2 else y3) (y3 + 1))))
set_option maxRecDepth 20000 in
set_option maxHeartbeats 4000000 in
theorem lt_202_63_73_4 {LL : Nat} {xs : Nat → Int32} {D N : Nat} {c0 : Nat → gE} {m_s : Nat → Int32} {m_kp : Nat → Int32} {m_as : Nat → Int32} {m_ik : Int32} {m_fo : Nat → Int32} {m_tl : Int32} {m_tr : Int32} {m_fa : Nat → Int32} {m_od : Nat → Int32} {m_rc : Int32} {m_be : Nat → Int32} {m_ft : Int32} {m_tp : Nat → Int32} {m_td : Int32} {m_tk : Int32} {m_bg : Int32} {m_en : Int32} {m_vl : Int64} {m_sg : Int32} {m_wi : Nat → Int32} {m_si : Nat → Int32} {m_ce : Nat → Int32} {m_ca : Nat → Int32} {v : Option Value} {M' : List gE} : ∀ (n : Nat) (y2 : Int32) (y3 : Int32) (q : Int32 × Int32), lp_202_63_73_4 N m_tk m_vl n y2 y3 = some q → (kk : hX (gO LL xs) (D + 0) zR_202 104 [some (.ref 63), some (.ref 73), some (.int q.1), some (.int q.2), none, none, none] [] (hMm c0 m_s m_kp m_as m_ik m_fo m_tl m_tr m_fa m_od m_rc m_be m_ft m_tp m_td m_tk m_bg m_en m_vl m_sg m_wi m_si m_ce m_ca) v M') → hX (gO LL xs) (D + 0) zR_202 4 [some (.ref 63), some (.ref 73), some (.int y2), some (.int y3), none, none, none] [] (hMm c0 m_s m_kp m_as m_ik m_fo m_tl m_tr m_fa m_od m_rc m_be m_ft m_tp m_td m_tk m_bg m_en m_vl m_sg m_wi m_si m_ce m_ca) v M' := by
  intro n
  induction n with
  | zero => intro y2 y3 q h; cases h
  | succ n ih =>
    intro y2 y3 q h kk
    rw [lp_202_63_73_4] at h
    refine hX_go 6 (bif gCmp .ge y3 (56 / 8) then 104 else 13) [some (.ref 63), some (.ref 73), some (.int y2), some (.int y3), none, none, none] [] (hMm c0 m_s m_kp m_as m_ik m_fo m_tl m_tr m_fa m_od m_rc m_be m_ft m_tp m_td m_tk m_bg m_en m_vl m_sg m_wi m_si m_ce m_ca) rfl ?_
    refine hX_if (gCmp .ge y3 (56 / 8)) (fun c1 => ?_) (fun c1 => ?_)
    · skip
      have h := gcT c1 h
      have h := Option.some.inj h; subst h
      exact kk
    · skip
      have h := gcF c1 h
      refine hX_goM 4 (bif gCmp .ne m_tk 1 then 104 else 21) [some (.ref 63), some (.ref 73), some (.int y2), some (.int y3), none, none, none] [] rfl ?_
      refine hX_if (gCmp .ne m_tk 1) (fun c2 => ?_) (fun c2 => ?_)
      · skip
        have h := gcT c2 h
        have h := Option.some.inj h; subst h
        exact kk
      · skip
        have h := gcF c2 h
        refine hX_goM 4 (27) [some (.ref 63), some (.ref 73), some (.int y2), some (.int y3), some (.long 0), none, some (.int 0)] [] rfl ?_
        revert h; refine gBindR fun q3 e3 h => ?_
        refine lt_202_63_73_27 N 0 0 q3 e3 ?_
        refine hX_goM 5 (bif gCmp .ne (lg_cmp q3.1 m_vl) 0 then 96 else 92) [some (.ref 63), some (.ref 73), some (.int y2), some (.int y3), some (.long q3.1), none, some (.int q3.2)] [] rfl ?_
        refine hX_mrg 97 [some (.ref 63), some (.ref 73), some (.int y2), some (.int y3), some (.long q3.1), none, some (.int q3.2)] [.int (bif gCmp .ne (lg_cmp q3.1 m_vl) 0 then y2 else y3)] (hMm c0 m_s m_kp m_as m_ik m_fo m_tl m_tr m_fa m_od m_rc m_be m_ft m_tp m_td m_tk m_bg m_en m_vl m_sg m_wi m_si m_ce m_ca) (fun hk => ?_) ?_
        · skip
          refine hX_if (gCmp .ne (lg_cmp q3.1 m_vl) 0) (fun c5 => ?_) (fun c5 => ?_)
          · skip
            refine hX_goM 1 (97) [some (.ref 63), some (.ref 73), some (.int y2), some (.int y3), some (.long q3.1), none, some (.int q3.2)] [.int y2] rfl ?_
            have hk := hk
            simp only [c5, cond_true, cond_false] at hk
            first | exact hk | (simp only [c5, cond_true, cond_false]; exact hk)
          · skip
            refine hX_goM 2 (97) [some (.ref 63), some (.ref 73), some (.int y2), some (.int y3), some (.long q3.1), none, some (.int q3.2)] [.int y3] rfl ?_
            have hk := hk
            simp only [c5, cond_true, cond_false] at hk
            first | exact hk | (simp only [c5, cond_true, cond_false]; exact hk)
        refine hX_goM 3 (4) [some (.ref 63), some (.ref 73), some (.int (bif gCmp .ne (lg_cmp q3.1 m_vl) 0 then y2 else y3)), some (.int (y3 + 1)), some (.long q3.1), none, some (.int q3.2)] [] rfl ?_
        exact hX_wk (gLe_s (gLe_s (gLe_s (gLe_s (gLe_n (gLe_n (gLe_n gLe_0))))))) (ih (bif gCmp .ne (lg_cmp q3.1 m_vl) 0 then y2 else y3) (y3 + 1) q h kk)

/-- UpOneSideModel.wordOf([C)I -/
def me_202_63_73 (N : Nat) (m_tk : Int32) (m_vl : Int64) : Option (Int32) :=
  (Option.bind (lp_202_63_73_4 N m_tk m_vl N (-1) 0) fun q1 =>
  some (q1.1))
set_option maxRecDepth 20000 in
set_option maxHeartbeats 4000000 in
theorem mt_202_63_73 {LL : Nat} {xs : Nat → Int32} {D : Nat} {c0 : Nat → gE} {m_s : Nat → Int32} {m_kp : Nat → Int32} {m_as : Nat → Int32} {m_ik : Int32} {m_fo : Nat → Int32} {m_tl : Int32} {m_tr : Int32} {m_fa : Nat → Int32} {m_od : Nat → Int32} {m_rc : Int32} {m_be : Nat → Int32} {m_ft : Int32} {m_tp : Nat → Int32} {m_td : Int32} {m_tk : Int32} {m_bg : Int32} {m_en : Int32} {m_vl : Int64} {m_sg : Int32} {m_wi : Nat → Int32} {m_si : Nat → Int32} {m_ce : Nat → Int32} {m_ca : Nat → Int32} (N : Nat) (q : Int32) (h : me_202_63_73 N m_tk m_vl = some q) : hM (gO LL xs) (D + 0) zR_202 [.ref 63, .ref 73] (hMm c0 m_s m_kp m_as m_ik m_fo m_tl m_tr m_fa m_od m_rc m_be m_ft m_tp m_td m_tk m_bg m_en m_vl m_sg m_wi m_si m_ce m_ca) (some (.int q)) (hMm c0 m_s m_kp m_as m_ik m_fo m_tl m_tr m_fa m_od m_rc m_be m_ft m_tp m_td m_tk m_bg m_en m_vl m_sg m_wi m_si m_ce m_ca) := by
  unfold me_202_63_73 at h
  refine hX_go 0 0 [some (.ref 63), some (.ref 73), none, none, none, none, none] [] (hMm c0 m_s m_kp m_as m_ik m_fo m_tl m_tr m_fa m_od m_rc m_be m_ft m_tp m_td m_tk m_bg m_en m_vl m_sg m_wi m_si m_ce m_ca) rfl ?_
  refine hX_go 4 (4) [some (.ref 63), some (.ref 73), some (.int (-1)), some (.int 0), none, none, none] [] (hMm c0 m_s m_kp m_as m_ik m_fo m_tl m_tr m_fa m_od m_rc m_be m_ft m_tp m_td m_tk m_bg m_en m_vl m_sg m_wi m_si m_ce m_ca) rfl ?_
  revert h; refine gBindR fun q1 e1 h => ?_
  refine lt_202_63_73_4 N (-1) 0 q1 e1 ?_
  refine hX_goM 1 (105) [some (.ref 63), some (.ref 73), some (.int q1.1), some (.int q1.2), none, none, none] [.int q1.1] rfl ?_
  have h := Option.some.inj h; subst h
  exact hX_end rfl rfl rfl


/-- UpOneSideModel.readsItem()Z -/
def me_207_63 (N : Nat) (m_s : Nat → Int32) (m_tp : Nat → Int32) (m_td : Int32) (m_tk : Int32) (m_bg : Int32) (m_en : Int32) (m_vl : Int64) (m_sg : Int32) : Option (Int32 × (Nat → Int32) × Int32 × Int32 × Int32 × Int64 × Int32) :=
  (Option.bind (me_202_63_72 N m_tk m_vl) fun q1 =>
  (bif gCmp .lt q1 0 then
    (Option.bind (me_202_63_73 N m_tk m_vl) fun q3 =>
    (bif gCmp .ge q3 0 then
      (Option.bind (me_201_63 N m_tp m_td m_en) fun q5 =>
      (bif gCmp .le q3 4 then
        (bif gCmp .ne q3 0 then
          (Option.bind (me_203_63 N 0 (bif gCmp .ge q3 3 then 60 else 9) m_tp m_td q5.1 q5.2.1 q5.2.2.1 q5.2.2.2) fun q12 =>
          (bif (gCmp .ge q12.1 0) || (gIn (bif gCmp .ne q3 4 then (5 + q3) else 10) 134) then (bif gIn (bif gCmp .ne q3 4 then (5 + q3) else 10) 134 then (bif gCmp .lt q12.1 0 then
            some (0, upd m_s (Int32.toNatClampNeg (bif gCmp .ne q3 4 then (5 + q3) else 10)) (bif gCmp .ge q12.1 0 then q12.1 else (m_s (Int32.toNatClampNeg (bif gCmp .ne q3 4 then (5 + q3) else 10)))), q12.2.1, q12.2.2.1, q12.2.2.2.1, q12.2.2.2.2, m_sg)
          else
            some (1, upd m_s (Int32.toNatClampNeg (bif gCmp .ne q3 4 then (5 + q3) else 10)) (bif gCmp .ge q12.1 0 then q12.1 else (m_s (Int32.toNatClampNeg (bif gCmp .ne q3 4 then (5 + q3) else 10)))), q12.2.1, q12.2.2.1, q12.2.2.2.1, q12.2.2.2.2, m_sg)) else none) else none))
        else
          (Option.bind (me_204_63 N 9 m_tp m_td q5.1 q5.2.1 q5.2.2.1 q5.2.2.2) fun q18 =>
          (bif (decide (q18.1 = 0) || decide (q18.1 = 1)) then some (q18.1, upd m_s 5 (bif gCmp .eq q18.1 0 then (m_s 5) else q18.2.2.2.2.2), q18.2.1, q18.2.2.1, q18.2.2.2.1, q18.2.2.2.2.1, q18.2.2.2.2.2) else none)))
      else
        (Option.bind (me_206_63 N (bif gCmp .ne q3 5 then 0 else 1) m_s m_tp m_td q5.1 q5.2.1 q5.2.2.1 q5.2.2.2) fun q24 =>
        (bif (decide (q24.1 = 0) || decide (q24.1 = 1)) then some (q24.1, q24.2.1, q24.2.2.1, q24.2.2.2.1, q24.2.2.2.2.1, q24.2.2.2.2.2, m_sg) else none))))
    else
      some (0, m_s, m_tk, m_bg, m_en, m_vl, m_sg)))
  else
    (Option.bind (me_205_63 N q1 m_s m_tp m_td m_tk m_bg m_en m_vl m_sg) fun q26 =>
    (bif (decide (q26.1 = 0) || decide (q26.1 = 1)) then some (q26.1, q26.2.1, q26.2.2.1, q26.2.2.2.1, q26.2.2.2.2.1, q26.2.2.2.2.2.1, q26.2.2.2.2.2.2) else none))))
set_option maxRecDepth 20000 in
set_option maxHeartbeats 4000000 in
theorem mt_207_63 {LL : Nat} {xs : Nat → Int32} {D : Nat} {c0 : Nat → gE} {m_s : Nat → Int32} {m_kp : Nat → Int32} {m_as : Nat → Int32} {m_ik : Int32} {m_fo : Nat → Int32} {m_tl : Int32} {m_tr : Int32} {m_fa : Nat → Int32} {m_od : Nat → Int32} {m_rc : Int32} {m_be : Nat → Int32} {m_ft : Int32} {m_tp : Nat → Int32} {m_td : Int32} {m_tk : Int32} {m_bg : Int32} {m_en : Int32} {m_vl : Int64} {m_sg : Int32} {m_wi : Nat → Int32} {m_si : Nat → Int32} {m_ce : Nat → Int32} {m_ca : Nat → Int32} (N : Nat) (q : Int32 × (Nat → Int32) × Int32 × Int32 × Int32 × Int64 × Int32) (h : me_207_63 N m_s m_tp m_td m_tk m_bg m_en m_vl m_sg = some q) : hM (gO LL xs) (D + 6) zR_207 [.ref 63] (hMm c0 m_s m_kp m_as m_ik m_fo m_tl m_tr m_fa m_od m_rc m_be m_ft m_tp m_td m_tk m_bg m_en m_vl m_sg m_wi m_si m_ce m_ca) (some (.int q.1)) (hMm c0 q.2.1 m_kp m_as m_ik m_fo m_tl m_tr m_fa m_od m_rc m_be m_ft m_tp m_td q.2.2.1 q.2.2.2.1 q.2.2.2.2.1 q.2.2.2.2.2.1 q.2.2.2.2.2.2 m_wi m_si m_ce m_ca) := by
  unfold me_207_63 at h
  refine hX_go 0 0 [some (.ref 63), none, none, none, none] [] (hMm c0 m_s m_kp m_as m_ik m_fo m_tl m_tr m_fa m_od m_rc m_be m_ft m_tp m_td m_tk m_bg m_en m_vl m_sg m_wi m_si m_ce m_ca) rfl ?_
  refine hX_go 3 (5) [some (.ref 63), none, none, none, none] [.ref 72, .ref 63] (hMm c0 m_s m_kp m_as m_ik m_fo m_tl m_tr m_fa m_od m_rc m_be m_ft m_tp m_td m_tk m_bg m_en m_vl m_sg m_wi m_si m_ce m_ca) rfl ?_
  revert h; refine gBindR fun q1 e1 h => ?_
  refine hX_call (r' := zR_202) rfl (mt_202_63_72 N q1 e1) ?_
  refine hX_goM 3 (bif gCmp .lt q1 0 then 19 else 13) [some (.ref 63), some (.int q1), none, none, none] [] rfl ?_
  refine hX_if (gCmp .lt q1 0) (fun c2 => ?_) (fun c2 => ?_)
  · skip
    have h := gcT c2 h
    refine hX_goM 3 (24) [some (.ref 63), some (.int q1), none, none, none] [.ref 73, .ref 63] rfl ?_
    revert h; refine gBindR fun q3 e3 h => ?_
    refine hX_call (r' := zR_202) rfl (mt_202_63_73 N q3 e3) ?_
    refine hX_goM 3 (bif gCmp .ge q3 0 then 34 else 32) [some (.ref 63), some (.int q1), some (.int q3), none, none] [] rfl ?_
    refine hX_if (gCmp .ge q3 0) (fun c4 => ?_) (fun c4 => ?_)
    · skip
      have h := gcT c4 h
      refine hX_goM 1 (35) [some (.ref 63), some (.int q1), some (.int q3), none, none] [.ref 63] rfl ?_
      revert h; refine gBindR fun q5 e5 h => ?_
      refine hX_call (r' := zR_201) rfl (mt_201_63 N q5 e5) ?_
      refine hX_go 3 (bif gCmp .le q3 4 then 58 else 43) [some (.ref 63), some (.int q1), some (.int q3), none, none] [] (hMm c0 m_s m_kp m_as m_ik m_fo m_tl m_tr m_fa m_od m_rc m_be m_ft m_tp m_td q5.1 q5.2.1 q5.2.2.1 q5.2.2.2 m_sg m_wi m_si m_ce m_ca) rfl ?_
      refine hX_if (gCmp .le q3 4) (fun c6 => ?_) (fun c6 => ?_)
      · skip
        have h := gcT c6 h
        refine hX_goM 2 (bif gCmp .ne q3 0 then 94 else 62) [some (.ref 63), some (.int q1), some (.int q3), none, none] [] rfl ?_
        refine hX_if (gCmp .ne q3 0) (fun c7 => ?_) (fun c7 => ?_)
        · skip
          have h := gcT c7 h
          refine hX_goM 3 (bif gCmp .ne q3 4 then 104 else 99) [some (.ref 63), some (.int q1), some (.int q3), none, none] [] rfl ?_
          refine hX_mrg 107 [some (.ref 63), some (.int q1), some (.int q3), none, none] [.int (bif gCmp .ne q3 4 then (5 + q3) else 10)] (hMm c0 m_s m_kp m_as m_ik m_fo m_tl m_tr m_fa m_od m_rc m_be m_ft m_tp m_td q5.1 q5.2.1 q5.2.2.1 q5.2.2.2 m_sg m_wi m_si m_ce m_ca) (fun hk => ?_) ?_
          · skip
            refine hX_if (gCmp .ne q3 4) (fun c9 => ?_) (fun c9 => ?_)
            · skip
              refine hX_goM 3 (107) [some (.ref 63), some (.int q1), some (.int q3), none, none] [.int (5 + q3)] rfl ?_
              have hk := hk
              simp only [c9, cond_true, cond_false] at hk
              first | exact hk | (simp only [c9, cond_true, cond_false]; exact hk)
            · skip
              refine hX_goM 2 (107) [some (.ref 63), some (.int q1), some (.int q3), none, none] [.int 10] rfl ?_
              have hk := hk
              simp only [c9, cond_true, cond_false] at hk
              first | exact hk | (simp only [c9, cond_true, cond_false]; exact hk)
          refine hX_goM 6 (bif gCmp .ge q3 3 then 120 else 115) [some (.ref 63), some (.int q1), some (.int q3), some (.int (bif gCmp .ne q3 4 then (5 + q3) else 10)), none] [.int 0, .ref 63] rfl ?_
          refine hX_mrg 122 [some (.ref 63), some (.int q1), some (.int q3), some (.int (bif gCmp .ne q3 4 then (5 + q3) else 10)), none] [.int (bif gCmp .ge q3 3 then 60 else 9), .int 0, .ref 63] (hMm c0 m_s m_kp m_as m_ik m_fo m_tl m_tr m_fa m_od m_rc m_be m_ft m_tp m_td q5.1 q5.2.1 q5.2.2.1 q5.2.2.2 m_sg m_wi m_si m_ce m_ca) (fun hk => ?_) ?_
          · skip
            refine hX_if (gCmp .ge q3 3) (fun c11 => ?_) (fun c11 => ?_)
            · skip
              refine hX_goM 1 (122) [some (.ref 63), some (.int q1), some (.int q3), some (.int (bif gCmp .ne q3 4 then (5 + q3) else 10)), none] [.int 60, .int 0, .ref 63] rfl ?_
              have hk := hk
              simp only [c11, cond_true, cond_false] at hk
              first | exact hk | (simp only [c11, cond_true, cond_false]; exact hk)
            · skip
              refine hX_goM 2 (122) [some (.ref 63), some (.int q1), some (.int q3), some (.int (bif gCmp .ne q3 4 then (5 + q3) else 10)), none] [.int 9, .int 0, .ref 63] rfl ?_
              have hk := hk
              simp only [c11, cond_true, cond_false] at hk
              first | exact hk | (simp only [c11, cond_true, cond_false]; exact hk)
          revert h; refine gBindR fun q12 e12 h => ?_
          refine hX_call (r' := zR_203) rfl (mt_203_63 N 0 (bif gCmp .ge q3 3 then 60 else 9) q12 e12) ?_
          refine hX_go 6 (bif gCmp .ge q12.1 0 then 146 else 137) [some (.ref 63), some (.int q1), some (.int q3), some (.int (bif gCmp .ne q3 4 then (5 + q3) else 10)), some (.int q12.1)] [.int (bif gCmp .ne q3 4 then (5 + q3) else 10), .ref 64] (hMm c0 m_s m_kp m_as m_ik m_fo m_tl m_tr m_fa m_od m_rc m_be m_ft m_tp m_td q12.2.1 q12.2.2.1 q12.2.2.2.1 q12.2.2.2.2 m_sg m_wi m_si m_ce m_ca) rfl ?_
          revert h; refine gCondR fun o14 h => ?_
          refine hX_mrg 148 [some (.ref 63), some (.int q1), some (.int q3), some (.int (bif gCmp .ne q3 4 then (5 + q3) else 10)), some (.int q12.1)] [.int (bif gCmp .ge q12.1 0 then q12.1 else (m_s (Int32.toNatClampNeg (bif gCmp .ne q3 4 then (5 + q3) else 10)))), .int (bif gCmp .ne q3 4 then (5 + q3) else 10), .ref 64] (hMm c0 m_s m_kp m_as m_ik m_fo m_tl m_tr m_fa m_od m_rc m_be m_ft m_tp m_td q12.2.1 q12.2.2.1 q12.2.2.2.1 q12.2.2.2.2 m_sg m_wi m_si m_ce m_ca) (fun hk => ?_) ?_
          · skip
            refine hX_if (gCmp .ge q12.1 0) (fun c15 => ?_) (fun c15 => ?_)
            · skip
              refine hX_goM 1 (148) [some (.ref 63), some (.int q1), some (.int q3), some (.int (bif gCmp .ne q3 4 then (5 + q3) else 10)), some (.int q12.1)] [.int q12.1, .int (bif gCmp .ne q3 4 then (5 + q3) else 10), .ref 64] rfl ?_
              have hk := hk
              simp only [c15, cond_true, cond_false] at hk
              first | exact hk | (simp only [c15, cond_true, cond_false]; exact hk)
            · skip
              refine hX_goM 3 (142) [some (.ref 63), some (.int q1), some (.int q3), some (.int (bif gCmp .ne q3 4 then (5 + q3) else 10)), some (.int q12.1)] [.int (bif gCmp .ne q3 4 then (5 + q3) else 10), .ref 64, .int (bif gCmp .ne q3 4 then (5 + q3) else 10), .ref 64] rfl ?_
              refine hX_gM (gIn (bif gCmp .ne q3 4 then (5 + q3) else 10) 134) 143 [some (.ref 63), some (.int q1), some (.int q3), some (.int (bif gCmp .ne q3 4 then (5 + q3) else 10)), some (.int q12.1)] [.int (m_s (Int32.toNatClampNeg (bif gCmp .ne q3 4 then (5 + q3) else 10))), .int (bif gCmp .ne q3 4 then (5 + q3) else 10), .ref 64] rfl (gImpF o14 c15) ?_
              refine hX_goM 1 (148) [some (.ref 63), some (.int q1), some (.int q3), some (.int (bif gCmp .ne q3 4 then (5 + q3) else 10)), some (.int q12.1)] [.int (m_s (Int32.toNatClampNeg (bif gCmp .ne q3 4 then (5 + q3) else 10))), .int (bif gCmp .ne q3 4 then (5 + q3) else 10), .ref 64] rfl ?_
              have hk := hk
              simp only [c15, cond_true, cond_false] at hk
              first | exact hk | (simp only [c15, cond_true, cond_false]; exact hk)
          revert h; refine gCondR fun g16 h => ?_
          refine hX_g (gIn (bif gCmp .ne q3 4 then (5 + q3) else 10) 134) 149 [some (.ref 63), some (.int q1), some (.int q3), some (.int (bif gCmp .ne q3 4 then (5 + q3) else 10)), some (.int q12.1)] [] (hMm c0 (upd m_s (Int32.toNatClampNeg (bif gCmp .ne q3 4 then (5 + q3) else 10)) (bif gCmp .ge q12.1 0 then q12.1 else (m_s (Int32.toNatClampNeg (bif gCmp .ne q3 4 then (5 + q3) else 10))))) m_kp m_as m_ik m_fo m_tl m_tr m_fa m_od m_rc m_be m_ft m_tp m_td q12.2.1 q12.2.2.1 q12.2.2.2.1 q12.2.2.2.2 m_sg m_wi m_si m_ce m_ca) rfl g16 ?_
          refine hX_goM 2 (bif gCmp .lt q12.1 0 then 158 else 154) [some (.ref 63), some (.int q1), some (.int q3), some (.int (bif gCmp .ne q3 4 then (5 + q3) else 10)), some (.int q12.1)] [] rfl ?_
          refine hX_if (gCmp .lt q12.1 0) (fun c17 => ?_) (fun c17 => ?_)
          · skip
            have h := gcT c17 h
            refine hX_goM 1 (159) [some (.ref 63), some (.int q1), some (.int q3), some (.int (bif gCmp .ne q3 4 then (5 + q3) else 10)), some (.int q12.1)] [.int 0] rfl ?_
            have h := Option.some.inj h; subst h
            exact hX_end rfl rfl rfl
          · skip
            have h := gcF c17 h
            refine hX_goM 2 (159) [some (.ref 63), some (.int q1), some (.int q3), some (.int (bif gCmp .ne q3 4 then (5 + q3) else 10)), some (.int q12.1)] [.int 1] rfl ?_
            have h := Option.some.inj h; subst h
            exact hX_end rfl rfl rfl
        · skip
          have h := gcF c7 h
          refine hX_goM 2 (65) [some (.ref 63), some (.int q1), some (.int q3), none, none] [.int 9, .ref 63] rfl ?_
          revert h; refine gBindR fun q18 e18 h => ?_
          refine hX_call (r' := zR_204) rfl (mt_204_63 N 9 q18 e18) ?_
          refine hX_go 6 (bif gCmp .eq q18.1 0 then 85 else 78) [some (.ref 63), some (.int q1), some (.int q3), some (.int q18.1), none] [.int 5, .ref 64] (hMm c0 m_s m_kp m_as m_ik m_fo m_tl m_tr m_fa m_od m_rc m_be m_ft m_tp m_td q18.2.1 q18.2.2.1 q18.2.2.2.1 q18.2.2.2.2.1 q18.2.2.2.2.2 m_wi m_si m_ce m_ca) rfl ?_
          refine hX_mrg 91 [some (.ref 63), some (.int q1), some (.int q3), some (.int q18.1), none] [.int (bif gCmp .eq q18.1 0 then (m_s 5) else q18.2.2.2.2.2), .int 5, .ref 64] (hMm c0 m_s m_kp m_as m_ik m_fo m_tl m_tr m_fa m_od m_rc m_be m_ft m_tp m_td q18.2.1 q18.2.2.1 q18.2.2.2.1 q18.2.2.2.2.1 q18.2.2.2.2.2 m_wi m_si m_ce m_ca) (fun hk => ?_) ?_
          · skip
            refine hX_if (gCmp .eq q18.1 0) (fun c20 => ?_) (fun c20 => ?_)
            · skip
              refine hX_goM 4 (91) [some (.ref 63), some (.int q1), some (.int q3), some (.int q18.1), none] [.int (m_s 5), .int 5, .ref 64] rfl ?_
              have hk := hk
              simp only [c20, cond_true, cond_false] at hk
              first | exact hk | (simp only [c20, cond_true, cond_false]; exact hk)
            · skip
              refine hX_goM 3 (91) [some (.ref 63), some (.int q1), some (.int q3), some (.int q18.1), none] [.int q18.2.2.2.2.2, .int 5, .ref 64] rfl ?_
              have hk := hk
              simp only [c20, cond_true, cond_false] at hk
              first | exact hk | (simp only [c20, cond_true, cond_false]; exact hk)
          refine hX_go 2 (93) [some (.ref 63), some (.int q1), some (.int q3), some (.int q18.1), none] [.int q18.1] (hMm c0 (upd m_s 5 (bif gCmp .eq q18.1 0 then (m_s 5) else q18.2.2.2.2.2)) m_kp m_as m_ik m_fo m_tl m_tr m_fa m_od m_rc m_be m_ft m_tp m_td q18.2.1 q18.2.2.1 q18.2.2.2.1 q18.2.2.2.2.1 q18.2.2.2.2.2 m_wi m_si m_ce m_ca) rfl ?_
          revert h; refine gCondR fun g21 h => ?_
          have h := Option.some.inj h; subst h
          exact hX_endG (decide (q18.1 = 0) || decide (q18.1 = 1)) rfl g21 rfl rfl
      · skip
        have h := gcF c6 h
        refine hX_goM 4 (bif gCmp .ne q3 5 then 53 else 49) [some (.ref 63), some (.int q1), some (.int q3), none, none] [.ref 63] rfl ?_
        refine hX_mrg 54 [some (.ref 63), some (.int q1), some (.int q3), none, none] [.int (bif gCmp .ne q3 5 then 0 else 1), .ref 63] (hMm c0 m_s m_kp m_as m_ik m_fo m_tl m_tr m_fa m_od m_rc m_be m_ft m_tp m_td q5.1 q5.2.1 q5.2.2.1 q5.2.2.2 m_sg m_wi m_si m_ce m_ca) (fun hk => ?_) ?_
        · skip
          refine hX_if (gCmp .ne q3 5) (fun c23 => ?_) (fun c23 => ?_)
          · skip
            refine hX_goM 1 (54) [some (.ref 63), some (.int q1), some (.int q3), none, none] [.int 0, .ref 63] rfl ?_
            have hk := hk
            simp only [c23, cond_true, cond_false] at hk
            first | exact hk | (simp only [c23, cond_true, cond_false]; exact hk)
          · skip
            refine hX_goM 2 (54) [some (.ref 63), some (.int q1), some (.int q3), none, none] [.int 1, .ref 63] rfl ?_
            have hk := hk
            simp only [c23, cond_true, cond_false] at hk
            first | exact hk | (simp only [c23, cond_true, cond_false]; exact hk)
        revert h; refine gBindR fun q24 e24 h => ?_
        refine hX_call (r' := zR_206) rfl (mt_206_63 N (bif gCmp .ne q3 5 then 0 else 1) q24 e24) ?_
        refine hX_go 0 (57) [some (.ref 63), some (.int q1), some (.int q3), none, none] [.int q24.1] (hMm c0 q24.2.1 m_kp m_as m_ik m_fo m_tl m_tr m_fa m_od m_rc m_be m_ft m_tp m_td q24.2.2.1 q24.2.2.2.1 q24.2.2.2.2.1 q24.2.2.2.2.2 m_sg m_wi m_si m_ce m_ca) rfl ?_
        revert h; refine gCondR fun g25 h => ?_
        have h := Option.some.inj h; subst h
        exact hX_endG (decide (q24.1 = 0) || decide (q24.1 = 1)) rfl g25 rfl rfl
    · skip
      have h := gcF c4 h
      refine hX_goM 1 (33) [some (.ref 63), some (.int q1), some (.int q3), none, none] [.int 0] rfl ?_
      have h := Option.some.inj h; subst h
      exact hX_end rfl rfl rfl
  · skip
    have h := gcF c2 h
    refine hX_goM 2 (15) [some (.ref 63), some (.int q1), none, none, none] [.int q1, .ref 63] rfl ?_
    revert h; refine gBindR fun q26 e26 h => ?_
    refine hX_call (r' := zR_205) rfl (mt_205_63 N q1 q26 e26) ?_
    refine hX_go 0 (18) [some (.ref 63), some (.int q1), none, none, none] [.int q26.1] (hMm c0 q26.2.1 m_kp m_as m_ik m_fo m_tl m_tr m_fa m_od m_rc m_be m_ft m_tp m_td q26.2.2.1 q26.2.2.2.1 q26.2.2.2.2.1 q26.2.2.2.2.2.1 q26.2.2.2.2.2.2 m_wi m_si m_ce m_ca) rfl ?_
    revert h; refine gCondR fun g27 h => ?_
    have h := Option.some.inj h; subst h
    exact hX_endG (decide (q26.1 = 0) || decide (q26.1 = 1)) rfl g27 rfl rfl

/-- UpOneSideModel.text: the loop at 20 -/
def lp_208_63_20 (N : Nat) (m_tp : Nat → Int32) (m_td : Int32) : Nat → Int32 → Int32 → (Nat → Int32) → Int32 → Int32 → Int32 → Int64 → Int32 → Option (Int32 × Int32 × (Nat → Int32) × Int32 × Int32 × Int32 × Int64 × Int32)
  | 0, _, _, _, _, _, _, _, _ => none
  | n + 1, y1, y2, m_s, m_tk, m_bg, m_en, m_vl, m_sg =>
    (bif gCmp .eq y2 0 then
      some (y1, y2, m_s, m_tk, m_bg, m_en, m_vl, m_sg)
    else
      (bif gCmp .ne m_tk 3 then
        some (y1, y2, m_s, m_tk, m_bg, m_en, m_vl, m_sg)
      else
        (Option.bind (me_201_63 N m_tp m_td m_en) fun q3 =>
        (Option.bind (me_207_63 N m_s m_tp m_td q3.1 q3.2.1 q3.2.2.1 q3.2.2.2 m_sg) fun q4 =>
        lp_208_63_20 N m_tp m_td n (y1 + 1) q4.1 q4.2.1 q4.2.2.1 q4.2.2.2.1 q4.2.2.2.2.1 q4.2.2.2.2.2.1 q4.2.2.2.2.2.2))))
set_option maxRecDepth 20000 in
set_option maxHeartbeats 4000000 in
theorem lt_208_63_20 {LL : Nat} {xs : Nat → Int32} {D N : Nat} {c0 : Nat → gE}  {m_kp : Nat → Int32} {m_as : Nat → Int32} {m_ik : Int32} {m_fo : Nat → Int32} {m_tl : Int32} {m_tr : Int32} {m_fa : Nat → Int32} {m_od : Nat → Int32} {m_rc : Int32} {m_be : Nat → Int32} {m_ft : Int32} {m_tp : Nat → Int32} {m_td : Int32}      {m_wi : Nat → Int32} {m_si : Nat → Int32} {m_ce : Nat → Int32} {m_ca : Nat → Int32} {v : Option Value} {M' : List gE} : ∀ (n : Nat) (y1 : Int32) (y2 : Int32) (m_s : Nat → Int32) (m_tk : Int32) (m_bg : Int32) (m_en : Int32) (m_vl : Int64) (m_sg : Int32) (q : Int32 × Int32 × (Nat → Int32) × Int32 × Int32 × Int32 × Int64 × Int32), lp_208_63_20 N m_tp m_td n y1 y2 m_s m_tk m_bg m_en m_vl m_sg = some q → (kk : hX (gO LL xs) (D + 7) zR_208 47 [some (.ref 63), some (.int q.1), some (.int q.2.1)] [] (hMm c0 q.2.2.1 m_kp m_as m_ik m_fo m_tl m_tr m_fa m_od m_rc m_be m_ft m_tp m_td q.2.2.2.1 q.2.2.2.2.1 q.2.2.2.2.2.1 q.2.2.2.2.2.2.1 q.2.2.2.2.2.2.2 m_wi m_si m_ce m_ca) v M') → hX (gO LL xs) (D + 7) zR_208 20 [some (.ref 63), some (.int y1), some (.int y2)] [] (hMm c0 m_s m_kp m_as m_ik m_fo m_tl m_tr m_fa m_od m_rc m_be m_ft m_tp m_td m_tk m_bg m_en m_vl m_sg m_wi m_si m_ce m_ca) v M' := by
  intro n
  induction n with
  | zero => intro y1 y2 m_s m_tk m_bg m_en m_vl m_sg q h; cases h
  | succ n ih =>
    intro y1 y2 m_s m_tk m_bg m_en m_vl m_sg q h kk
    rw [lp_208_63_20] at h
    refine hX_go 2 (bif gCmp .eq y2 0 then 47 else 24) [some (.ref 63), some (.int y1), some (.int y2)] [] (hMm c0 m_s m_kp m_as m_ik m_fo m_tl m_tr m_fa m_od m_rc m_be m_ft m_tp m_td m_tk m_bg m_en m_vl m_sg m_wi m_si m_ce m_ca) rfl ?_
    refine hX_if (gCmp .eq y2 0) (fun c1 => ?_) (fun c1 => ?_)
    · skip
      have h := gcT c1 h
      have h := Option.some.inj h; subst h
      exact kk
    · skip
      have h := gcF c1 h
      refine hX_goM 4 (bif gCmp .ne m_tk 3 then 47 else 32) [some (.ref 63), some (.int y1), some (.int y2)] [] rfl ?_
      refine hX_if (gCmp .ne m_tk 3) (fun c2 => ?_) (fun c2 => ?_)
      · skip
        have h := gcT c2 h
        have h := Option.some.inj h; subst h
        exact kk
      · skip
        have h := gcF c2 h
        refine hX_goM 1 (33) [some (.ref 63), some (.int y1), some (.int y2)] [.ref 63] rfl ?_
        revert h; refine gBindR fun q3 e3 h => ?_
        refine hX_call (r' := zR_201) rfl (mt_201_63 N q3 e3) ?_
        refine hX_go 1 (37) [some (.ref 63), some (.int y1), some (.int y2)] [.ref 63] (hMm c0 m_s m_kp m_as m_ik m_fo m_tl m_tr m_fa m_od m_rc m_be m_ft m_tp m_td q3.1 q3.2.1 q3.2.2.1 q3.2.2.2 m_sg m_wi m_si m_ce m_ca) rfl ?_
        revert h; refine gBindR fun q4 e4 h => ?_
        refine hX_call (r' := zR_207) rfl (mt_207_63 N q4 e4) ?_
        refine hX_go 3 (20) [some (.ref 63), some (.int (y1 + 1)), some (.int q4.1)] [] (hMm c0 q4.2.1 m_kp m_as m_ik m_fo m_tl m_tr m_fa m_od m_rc m_be m_ft m_tp m_td q4.2.2.1 q4.2.2.2.1 q4.2.2.2.2.1 q4.2.2.2.2.2.1 q4.2.2.2.2.2.2 m_wi m_si m_ce m_ca) rfl ?_
        exact ih (y1 + 1) q4.1 q4.2.1 q4.2.2.1 q4.2.2.2.1 q4.2.2.2.2.1 q4.2.2.2.2.2.1 q4.2.2.2.2.2.2 q h kk

/-- UpOneSideModel.text()I -/
def me_208_63 (N : Nat) (m_s : Nat → Int32) (m_as : Nat → Int32) (m_tp : Nat → Int32) (m_td : Int32) (m_sg : Int32) : Option (Int32 × (Nat → Int32) × (Nat → Int32) × Int32 × Int32 × Int32 × Int32 × Int64 × Int32) :=
  (Option.bind (me_195_63 N m_s m_as) fun q1 =>
  (Option.bind (me_201_63 N m_tp m_td 0) fun q2 =>
  (Option.bind (me_207_63 N m_s m_tp m_td q2.1 q2.2.1 q2.2.2.1 q2.2.2.2 m_sg) fun q3 =>
  (Option.bind (lp_208_63_20 N m_tp m_td N 1 q3.1 q3.2.1 q3.2.2.1 q3.2.2.2.1 q3.2.2.2.2.1 q3.2.2.2.2.2.1 q3.2.2.2.2.2.2) fun q4 =>
  (bif gCmp .ne (bif gCmp .eq q4.2.1 0 then 0 else (bif gCmp .ne q4.2.2.2.1 0 then 0 else 1)) 0 then
    some (q4.1, q4.2.2.1, q1, 0, q4.2.2.2.1, q4.2.2.2.2.1, q4.2.2.2.2.2.1, q4.2.2.2.2.2.2.1, q4.2.2.2.2.2.2.2)
  else
    (Option.bind (me_196_63 N q4.2.2.1 q1) fun q10 =>
    some ((-1) - q4.2.2.2.2.1, q10, q1, 0, q4.2.2.2.1, q4.2.2.2.2.1, q4.2.2.2.2.2.1, q4.2.2.2.2.2.2.1, q4.2.2.2.2.2.2.2)))))))
set_option maxRecDepth 20000 in
set_option maxHeartbeats 4000000 in
theorem mt_208_63 {LL : Nat} {xs : Nat → Int32} {D : Nat} {c0 : Nat → gE} {m_s : Nat → Int32} {m_kp : Nat → Int32} {m_as : Nat → Int32} {m_ik : Int32} {m_fo : Nat → Int32} {m_tl : Int32} {m_tr : Int32} {m_fa : Nat → Int32} {m_od : Nat → Int32} {m_rc : Int32} {m_be : Nat → Int32} {m_ft : Int32} {m_tp : Nat → Int32} {m_td : Int32} {m_tk : Int32} {m_bg : Int32} {m_en : Int32} {m_vl : Int64} {m_sg : Int32} {m_wi : Nat → Int32} {m_si : Nat → Int32} {m_ce : Nat → Int32} {m_ca : Nat → Int32} (N : Nat) (q : Int32 × (Nat → Int32) × (Nat → Int32) × Int32 × Int32 × Int32 × Int32 × Int64 × Int32) (h : me_208_63 N m_s m_as m_tp m_td m_sg = some q) : hM (gO LL xs) (D + 7) zR_208 [.ref 63] (hMm c0 m_s m_kp m_as m_ik m_fo m_tl m_tr m_fa m_od m_rc m_be m_ft m_tp m_td m_tk m_bg m_en m_vl m_sg m_wi m_si m_ce m_ca) (some (.int q.1)) (hMm c0 q.2.1 m_kp q.2.2.1 m_ik m_fo m_tl m_tr m_fa m_od m_rc m_be m_ft m_tp q.2.2.2.1 q.2.2.2.2.1 q.2.2.2.2.2.1 q.2.2.2.2.2.2.1 q.2.2.2.2.2.2.2.1 q.2.2.2.2.2.2.2.2 m_wi m_si m_ce m_ca) := by
  unfold me_208_63 at h
  refine hX_go 0 0 [some (.ref 63), none, none] [] (hMm c0 m_s m_kp m_as m_ik m_fo m_tl m_tr m_fa m_od m_rc m_be m_ft m_tp m_td m_tk m_bg m_en m_vl m_sg m_wi m_si m_ce m_ca) rfl ?_
  refine hX_go 1 (1) [some (.ref 63), none, none] [.ref 63] (hMm c0 m_s m_kp m_as m_ik m_fo m_tl m_tr m_fa m_od m_rc m_be m_ft m_tp m_td m_tk m_bg m_en m_vl m_sg m_wi m_si m_ce m_ca) rfl ?_
  revert h; refine gBindR fun q1 e1 h => ?_
  refine hX_call (r' := zR_195) rfl (mt_195_63 N q1 e1) ?_
  refine hX_go 4 (10) [some (.ref 63), none, none] [.ref 63] (hMm c0 m_s m_kp q1 m_ik m_fo m_tl m_tr m_fa m_od m_rc m_be m_ft m_tp m_td m_tk m_bg 0 m_vl m_sg m_wi m_si m_ce m_ca) rfl ?_
  revert h; refine gBindR fun q2 e2 h => ?_
  refine hX_call (r' := zR_201) rfl (mt_201_63 N q2 e2) ?_
  refine hX_go 3 (16) [some (.ref 63), some (.int 1), none] [.ref 63] (hMm c0 m_s m_kp q1 m_ik m_fo m_tl m_tr m_fa m_od m_rc m_be m_ft m_tp m_td q2.1 q2.2.1 q2.2.2.1 q2.2.2.2 m_sg m_wi m_si m_ce m_ca) rfl ?_
  revert h; refine gBindR fun q3 e3 h => ?_
  refine hX_call (r' := zR_207) rfl (mt_207_63 N q3 e3) ?_
  refine hX_go 1 (20) [some (.ref 63), some (.int 1), some (.int q3.1)] [] (hMm c0 q3.2.1 m_kp q1 m_ik m_fo m_tl m_tr m_fa m_od m_rc m_be m_ft m_tp m_td q3.2.2.1 q3.2.2.2.1 q3.2.2.2.2.1 q3.2.2.2.2.2.1 q3.2.2.2.2.2.2 m_wi m_si m_ce m_ca) rfl ?_
  revert h; refine gBindR fun q4 e4 h => ?_
  refine lt_208_63_20 N 1 q3.1 q3.2.1 q3.2.2.1 q3.2.2.2.1 q3.2.2.2.2.1 q3.2.2.2.2.2.1 q3.2.2.2.2.2.2 q4 e4 ?_
  refine hX_go 2 (bif gCmp .eq q4.2.1 0 then 62 else 51) [some (.ref 63), some (.int q4.1), some (.int q4.2.1)] [] (hMm c0 q4.2.2.1 m_kp q1 m_ik m_fo m_tl m_tr m_fa m_od m_rc m_be m_ft m_tp m_td q4.2.2.2.1 q4.2.2.2.2.1 q4.2.2.2.2.2.1 q4.2.2.2.2.2.2.1 q4.2.2.2.2.2.2.2 m_wi m_si m_ce m_ca) rfl ?_
  refine hX_mrg 63 [some (.ref 63), some (.int q4.1), some (.int q4.2.1)] [.int (bif gCmp .eq q4.2.1 0 then 0 else (bif gCmp .ne q4.2.2.2.1 0 then 0 else 1))] (hMm c0 q4.2.2.1 m_kp q1 m_ik m_fo m_tl m_tr m_fa m_od m_rc m_be m_ft m_tp m_td q4.2.2.2.1 q4.2.2.2.2.1 q4.2.2.2.2.2.1 q4.2.2.2.2.2.2.1 q4.2.2.2.2.2.2.2 m_wi m_si m_ce m_ca) (fun hk => ?_) ?_
  · skip
    refine hX_if (gCmp .eq q4.2.1 0) (fun c7 => ?_) (fun c7 => ?_)
    · skip
      refine hX_goM 1 (63) [some (.ref 63), some (.int q4.1), some (.int q4.2.1)] [.int 0] rfl ?_
      have hk := hk
      simp only [c7, cond_true, cond_false] at hk
      first | exact hk | (simp only [c7, cond_true, cond_false]; exact hk)
    · skip
      refine hX_goM 3 (bif gCmp .ne q4.2.2.2.1 0 then 62 else 58) [some (.ref 63), some (.int q4.1), some (.int q4.2.1)] [] rfl ?_
      refine hX_if (gCmp .ne q4.2.2.2.1 0) (fun c8 => ?_) (fun c8 => ?_)
      · skip
        refine hX_goM 1 (63) [some (.ref 63), some (.int q4.1), some (.int q4.2.1)] [.int 0] rfl ?_
        have hk := hk
        simp only [c7, c8, cond_true, cond_false] at hk
        first | exact hk | (simp only [c7, c8, cond_true, cond_false]; exact hk)
      · skip
        refine hX_goM 2 (63) [some (.ref 63), some (.int q4.1), some (.int q4.2.1)] [.int 1] rfl ?_
        have hk := hk
        simp only [c7, c8, cond_true, cond_false] at hk
        first | exact hk | (simp only [c7, c8, cond_true, cond_false]; exact hk)
  refine hX_go 6 (bif gCmp .ne (bif gCmp .eq q4.2.1 0 then 0 else (bif gCmp .ne q4.2.2.2.1 0 then 0 else 1)) 0 then 84 else 73) [some (.ref 63), some (.int q4.1), some (.int (bif gCmp .eq q4.2.1 0 then 0 else (bif gCmp .ne q4.2.2.2.1 0 then 0 else 1)))] [] (hMm c0 q4.2.2.1 m_kp q1 m_ik m_fo m_tl m_tr m_fa m_od m_rc m_be m_ft m_tp 0 q4.2.2.2.1 q4.2.2.2.2.1 q4.2.2.2.2.2.1 q4.2.2.2.2.2.2.1 q4.2.2.2.2.2.2.2 m_wi m_si m_ce m_ca) rfl ?_
  refine hX_if (gCmp .ne (bif gCmp .eq q4.2.1 0 then 0 else (bif gCmp .ne q4.2.2.2.1 0 then 0 else 1)) 0) (fun c9 => ?_) (fun c9 => ?_)
  · skip
    have h := gcT c9 h
    refine hX_goM 1 (85) [some (.ref 63), some (.int q4.1), some (.int (bif gCmp .eq q4.2.1 0 then 0 else (bif gCmp .ne q4.2.2.2.1 0 then 0 else 1)))] [.int q4.1] rfl ?_
    have h := Option.some.inj h; subst h
    exact hX_end rfl rfl rfl
  · skip
    have h := gcF c9 h
    refine hX_goM 1 (74) [some (.ref 63), some (.int q4.1), some (.int (bif gCmp .eq q4.2.1 0 then 0 else (bif gCmp .ne q4.2.2.2.1 0 then 0 else 1)))] [.ref 63] rfl ?_
    revert h; refine gBindR fun q10 e10 h => ?_
    refine hX_call (r' := zR_196) rfl (mt_196_63 N q10 e10) ?_
    refine hX_go 4 (83) [some (.ref 63), some (.int q4.1), some (.int (bif gCmp .eq q4.2.1 0 then 0 else (bif gCmp .ne q4.2.2.2.1 0 then 0 else 1)))] [.int ((-1) - q4.2.2.2.2.1)] (hMm c0 q10 m_kp q1 m_ik m_fo m_tl m_tr m_fa m_od m_rc m_be m_ft m_tp 0 q4.2.2.2.1 q4.2.2.2.2.1 q4.2.2.2.2.2.1 q4.2.2.2.2.2.2.1 q4.2.2.2.2.2.2.2 m_wi m_si m_ce m_ca) rfl ?_
    have h := Option.some.inj h; subst h
    exact hX_end rfl rfl rfl

/-- UpOneSideModel.isSpot(I)Z -/
def v_209 (x0 : Int32) : Int32 := v_125 x0 0 9
set_option maxRecDepth 20000 in
set_option maxHeartbeats 1000000 in
theorem ct_209 {LL : Nat} {xs : Nat → Int32} {D : Nat} {c0 : Nat → gE} {m_s : Nat → Int32} {m_kp : Nat → Int32} {m_as : Nat → Int32} {m_ik : Int32} {m_fo : Nat → Int32} {m_tl : Int32} {m_tr : Int32} {m_fa : Nat → Int32} {m_od : Nat → Int32} {m_rc : Int32} {m_be : Nat → Int32} {m_ft : Int32} {m_tp : Nat → Int32} {m_td : Int32} {m_tk : Int32} {m_bg : Int32} {m_en : Int32} {m_vl : Int64} {m_sg : Int32} {m_wi : Nat → Int32} {m_si : Nat → Int32} {m_ce : Nat → Int32} {m_ca : Nat → Int32} (x0 : Int32) : hM (gO LL xs) (D + 1) zR_209 [.int x0] (hMm c0 m_s m_kp m_as m_ik m_fo m_tl m_tr m_fa m_od m_rc m_be m_ft m_tp m_td m_tk m_bg m_en m_vl m_sg m_wi m_si m_ce m_ca) (some (.int (v_209 x0))) (hMm c0 m_s m_kp m_as m_ik m_fo m_tl m_tr m_fa m_od m_rc m_be m_ft m_tp m_td m_tk m_bg m_en m_vl m_sg m_wi m_si m_ce m_ca) := by
  refine hX_go 0 0 [some (.int x0)] [] (hMm c0 m_s m_kp m_as m_ik m_fo m_tl m_tr m_fa m_od m_rc m_be m_ft m_tp m_td m_tk m_bg m_en m_vl m_sg m_wi m_si m_ce m_ca) rfl ?_
  refine hX_go 3 (4) [some (.int x0)] [.int 9, .int 0, .int x0] (hMm c0 m_s m_kp m_as m_ik m_fo m_tl m_tr m_fa m_od m_rc m_be m_ft m_tp m_td m_tk m_bg m_en m_vl m_sg m_wi m_si m_ce m_ca) rfl ?_
  refine hX_call (r' := zR_125) rfl (ct_125 x0 0 9) ?_
  refine hX_goM 0 (7) [some (.int x0)] [.int (v_125 x0 0 9)] rfl ?_
  exact hX_endZ rfl (bz_125 x0 0 9) (rfl) (rfl)

theorem bz_209 (x0 : Int32) : (decide (v_209 x0 = 0) || decide (v_209 x0 = 1)) = true := by
  unfold v_209
  exact (bz_125 x0 0 9)


/-- UpOneSideModel.hold(II)I -/
def me_210_63 (N : Nat) (x0 : Int32) (x1 : Int32) (m_s : Nat → Int32) (m_fo : Nat → Int32) : Option (Int32 × (Nat → Int32) × (Nat → Int32)) :=
  (bif gCmp .eq (v_209 x0) 0 then
    some (v_124_63 0, m_s, f_124_63_m_fo 0 m_fo)
  else
    (bif gCmp .eq x1 (-1) then
      (bif gIn (124 + x0) 134 then some (1, upd m_s (Int32.toNatClampNeg (124 + x0)) x1, m_fo) else none)
    else
      (bif gCmp .ne (v_129_63 x1 m_s) 0 then
        (bif gIn (124 + x0) 134 then some (1, upd m_s (Int32.toNatClampNeg (124 + x0)) x1, m_fo) else none)
      else
        some (v_124_63 0, m_s, f_124_63_m_fo 0 m_fo))))
set_option maxRecDepth 20000 in
set_option maxHeartbeats 4000000 in
theorem mt_210_63 {LL : Nat} {xs : Nat → Int32} {D : Nat} {c0 : Nat → gE} {m_s : Nat → Int32} {m_kp : Nat → Int32} {m_as : Nat → Int32} {m_ik : Int32} {m_fo : Nat → Int32} {m_tl : Int32} {m_tr : Int32} {m_fa : Nat → Int32} {m_od : Nat → Int32} {m_rc : Int32} {m_be : Nat → Int32} {m_ft : Int32} {m_tp : Nat → Int32} {m_td : Int32} {m_tk : Int32} {m_bg : Int32} {m_en : Int32} {m_vl : Int64} {m_sg : Int32} {m_wi : Nat → Int32} {m_si : Nat → Int32} {m_ce : Nat → Int32} {m_ca : Nat → Int32} (N : Nat) (x0 : Int32) (x1 : Int32) (q : Int32 × (Nat → Int32) × (Nat → Int32)) (h : me_210_63 N x0 x1 m_s m_fo = some q) : hM (gO LL xs) (D + 2) zR_210 [.ref 63, .int x0, .int x1] (hMm c0 m_s m_kp m_as m_ik m_fo m_tl m_tr m_fa m_od m_rc m_be m_ft m_tp m_td m_tk m_bg m_en m_vl m_sg m_wi m_si m_ce m_ca) (some (.int q.1)) (hMm c0 q.2.1 m_kp m_as m_ik q.2.2 m_tl m_tr m_fa m_od m_rc m_be m_ft m_tp m_td m_tk m_bg m_en m_vl m_sg m_wi m_si m_ce m_ca) := by
  unfold me_210_63 at h
  refine hX_go 0 0 [some (.ref 63), some (.int x0), some (.int x1)] [] (hMm c0 m_s m_kp m_as m_ik m_fo m_tl m_tr m_fa m_od m_rc m_be m_ft m_tp m_td m_tk m_bg m_en m_vl m_sg m_wi m_si m_ce m_ca) rfl ?_
  refine hX_go 1 (1) [some (.ref 63), some (.int x0), some (.int x1)] [.int x0] (hMm c0 m_s m_kp m_as m_ik m_fo m_tl m_tr m_fa m_od m_rc m_be m_ft m_tp m_td m_tk m_bg m_en m_vl m_sg m_wi m_si m_ce m_ca) rfl ?_
  refine hX_call (r' := zR_209) rfl (ct_209 x0) ?_
  refine hX_goM 1 (bif gCmp .eq (v_209 x0) 0 then 20 else 7) [some (.ref 63), some (.int x0), some (.int x1)] [] rfl ?_
  refine hX_if (gCmp .eq (v_209 x0) 0) (fun c1 => ?_) (fun c1 => ?_)
  · skip
    have h := gcT c1 h
    refine hX_goM 2 (22) [some (.ref 63), some (.int x0), some (.int x1)] [.int 0, .ref 63] rfl ?_
    refine hX_call (r' := zR_124) rfl (ct_124_63 0 rfl) ?_
    refine hX_go 0 (25) [some (.ref 63), some (.int x0), some (.int x1)] [.int (v_124_63 0)] (hMm c0 m_s m_kp m_as m_ik (f_124_63_m_fo 0 m_fo) m_tl m_tr m_fa m_od m_rc m_be m_ft m_tp m_td m_tk m_bg m_en m_vl m_sg m_wi m_si m_ce m_ca) rfl ?_
    have h := Option.some.inj h; subst h
    exact hX_end rfl rfl rfl
  · skip
    have h := gcF c1 h
    refine hX_goM 3 (bif gCmp .eq x1 (-1) then 26 else 12) [some (.ref 63), some (.int x0), some (.int x1)] [] rfl ?_
    refine hX_if (gCmp .eq x1 (-1)) (fun c2 => ?_) (fun c2 => ?_)
    · skip
      have h := gcT c2 h
      refine hX_goM 6 (35) [some (.ref 63), some (.int x0), some (.int x1)] [.int x1, .int (124 + x0), .ref 64] rfl ?_
      revert h; refine gCondR fun g3 h => ?_
      refine hX_g (gIn (124 + x0) 134) 36 [some (.ref 63), some (.int x0), some (.int x1)] [] (hMm c0 (upd m_s (Int32.toNatClampNeg (124 + x0)) x1) m_kp m_as m_ik m_fo m_tl m_tr m_fa m_od m_rc m_be m_ft m_tp m_td m_tk m_bg m_en m_vl m_sg m_wi m_si m_ce m_ca) rfl g3 ?_
      refine hX_goM 1 (37) [some (.ref 63), some (.int x0), some (.int x1)] [.int 1] rfl ?_
      have h := Option.some.inj h; subst h
      exact hX_end rfl rfl rfl
    · skip
      have h := gcF c2 h
      refine hX_goM 2 (14) [some (.ref 63), some (.int x0), some (.int x1)] [.int x1, .ref 63] rfl ?_
      refine hX_call (r' := zR_129) rfl (ct_129_63 x1) ?_
      refine hX_goM 1 (bif gCmp .ne (v_129_63 x1 m_s) 0 then 26 else 20) [some (.ref 63), some (.int x0), some (.int x1)] [] rfl ?_
      refine hX_if (gCmp .ne (v_129_63 x1 m_s) 0) (fun c4 => ?_) (fun c4 => ?_)
      · skip
        have h := gcT c4 h
        refine hX_goM 6 (35) [some (.ref 63), some (.int x0), some (.int x1)] [.int x1, .int (124 + x0), .ref 64] rfl ?_
        revert h; refine gCondR fun g5 h => ?_
        refine hX_g (gIn (124 + x0) 134) 36 [some (.ref 63), some (.int x0), some (.int x1)] [] (hMm c0 (upd m_s (Int32.toNatClampNeg (124 + x0)) x1) m_kp m_as m_ik m_fo m_tl m_tr m_fa m_od m_rc m_be m_ft m_tp m_td m_tk m_bg m_en m_vl m_sg m_wi m_si m_ce m_ca) rfl g5 ?_
        refine hX_goM 1 (37) [some (.ref 63), some (.int x0), some (.int x1)] [.int 1] rfl ?_
        have h := Option.some.inj h; subst h
        exact hX_end rfl rfl rfl
      · skip
        have h := gcF c4 h
        refine hX_goM 2 (22) [some (.ref 63), some (.int x0), some (.int x1)] [.int 0, .ref 63] rfl ?_
        refine hX_call (r' := zR_124) rfl (ct_124_63 0 rfl) ?_
        refine hX_go 0 (25) [some (.ref 63), some (.int x0), some (.int x1)] [.int (v_124_63 0)] (hMm c0 m_s m_kp m_as m_ik (f_124_63_m_fo 0 m_fo) m_tl m_tr m_fa m_od m_rc m_be m_ft m_tp m_td m_tk m_bg m_en m_vl m_sg m_wi m_si m_ce m_ca) rfl ?_
        have h := Option.some.inj h; subst h
        exact hX_end rfl rfl rfl

/-- UpOneSideModel.above(I)I -/
def v_211 (x0 : Int32) : Int32 := bif gCmp .ne x0 6 then (bif gCmp .ne x0 4 then (bif gCmp .ne x0 3 then 0 else 2) else 3) else 5
set_option maxRecDepth 20000 in
set_option maxHeartbeats 1000000 in
theorem ct_211 {LL : Nat} {xs : Nat → Int32} {D : Nat} {c0 : Nat → gE} {m_s : Nat → Int32} {m_kp : Nat → Int32} {m_as : Nat → Int32} {m_ik : Int32} {m_fo : Nat → Int32} {m_tl : Int32} {m_tr : Int32} {m_fa : Nat → Int32} {m_od : Nat → Int32} {m_rc : Int32} {m_be : Nat → Int32} {m_ft : Int32} {m_tp : Nat → Int32} {m_td : Int32} {m_tk : Int32} {m_bg : Int32} {m_en : Int32} {m_vl : Int64} {m_sg : Int32} {m_wi : Nat → Int32} {m_si : Nat → Int32} {m_ce : Nat → Int32} {m_ca : Nat → Int32} (x0 : Int32) : hM (gO LL xs) (D + 0) zR_211 [.int x0] (hMm c0 m_s m_kp m_as m_ik m_fo m_tl m_tr m_fa m_od m_rc m_be m_ft m_tp m_td m_tk m_bg m_en m_vl m_sg m_wi m_si m_ce m_ca) (some (.int (v_211 x0))) (hMm c0 m_s m_kp m_as m_ik m_fo m_tl m_tr m_fa m_od m_rc m_be m_ft m_tp m_td m_tk m_bg m_en m_vl m_sg m_wi m_si m_ce m_ca) := by
  refine hX_go 0 0 [some (.int x0)] [] (hMm c0 m_s m_kp m_as m_ik m_fo m_tl m_tr m_fa m_od m_rc m_be m_ft m_tp m_td m_tk m_bg m_en m_vl m_sg m_wi m_si m_ce m_ca) rfl ?_
  refine hX_go 3 (bif gCmp .ne x0 6 then 10 else 6) [some (.int x0)] [] (hMm c0 m_s m_kp m_as m_ik m_fo m_tl m_tr m_fa m_od m_rc m_be m_ft m_tp m_td m_tk m_bg m_en m_vl m_sg m_wi m_si m_ce m_ca) rfl ?_
  suffices hk : hX (gO LL xs) (D + 0) zR_211 29 [some (.int x0)] [.int (bif gCmp .ne x0 6 then (bif gCmp .ne x0 4 then (bif gCmp .ne x0 3 then 0 else 2) else 3) else 5)] (hMm c0 m_s m_kp m_as m_ik m_fo m_tl m_tr m_fa m_od m_rc m_be m_ft m_tp m_td m_tk m_bg m_en m_vl m_sg m_wi m_si m_ce m_ca) (some (.int (v_211 x0))) (hMm c0 m_s m_kp m_as m_ik m_fo m_tl m_tr m_fa m_od m_rc m_be m_ft m_tp m_td m_tk m_bg m_en m_vl m_sg m_wi m_si m_ce m_ca) by
    refine hX_if (gCmp .ne x0 6) (fun c1 => ?_) (fun c1 => ?_)
    · skip
      refine hX_goM 3 (bif gCmp .ne x0 4 then 19 else 15) [some (.int x0)] [] rfl ?_
      refine hX_if (gCmp .ne x0 4) (fun c2 => ?_) (fun c2 => ?_)
      · skip
        refine hX_goM 3 (bif gCmp .ne x0 3 then 28 else 24) [some (.int x0)] [] rfl ?_
        refine hX_if (gCmp .ne x0 3) (fun c3 => ?_) (fun c3 => ?_)
        · skip
          refine hX_goM 1 (29) [some (.int x0)] [.int 0] rfl ?_
          have hk := hk
          simp only [c1, c2, c3, cond_true, cond_false] at hk
          first | exact hk | (simp only [c1, c2, c3, cond_true, cond_false]; exact hk)
        · skip
          refine hX_goM 2 (29) [some (.int x0)] [.int 2] rfl ?_
          have hk := hk
          simp only [c1, c2, c3, cond_true, cond_false] at hk
          first | exact hk | (simp only [c1, c2, c3, cond_true, cond_false]; exact hk)
      · skip
        refine hX_goM 2 (29) [some (.int x0)] [.int 3] rfl ?_
        have hk := hk
        simp only [c1, c2, cond_true, cond_false] at hk
        first | exact hk | (simp only [c1, c2, cond_true, cond_false]; exact hk)
    · skip
      refine hX_goM 2 (29) [some (.int x0)] [.int 5] rfl ?_
      have hk := hk
      simp only [c1, cond_true, cond_false] at hk
      first | exact hk | (simp only [c1, cond_true, cond_false]; exact hk)
  exact hX_end rfl (rfl) (rfl)

/-- UpOneSideModel.as: the loop at 51 -/
def lp_212_63_51 (N : Nat) (y2 : Int32) : Nat → Int32 → Option (Int32)
  | 0, _ => none
  | n + 1, y4 =>
    (bif gCmp .eq y4 y2 then
      some (y4)
    else
      (bif gCmp .eq y4 0 then
        some (y4)
      else
        lp_212_63_51 N y2 n (v_211 y4)))
set_option maxRecDepth 20000 in
set_option maxHeartbeats 4000000 in
theorem lt_212_63_51 {LL : Nat} {xs : Nat → Int32} {D N : Nat} {c0 : Nat → gE} {m_s : Nat → Int32} {m_kp : Nat → Int32} {m_as : Nat → Int32} {m_ik : Int32} {m_fo : Nat → Int32} {m_tl : Int32} {m_tr : Int32} {m_fa : Nat → Int32} {m_od : Nat → Int32} {m_rc : Int32} {m_be : Nat → Int32} {m_ft : Int32} {m_tp : Nat → Int32} {m_td : Int32} {m_tk : Int32} {m_bg : Int32} {m_en : Int32} {m_vl : Int64} {m_sg : Int32} {m_wi : Nat → Int32} {m_si : Nat → Int32} {m_ce : Nat → Int32} {m_ca : Nat → Int32} {y1 : Int32} {y2 : Int32} {y3 : Int32} {v : Option Value} {M' : List gE} : ∀ (n : Nat) (y4 : Int32) (q : Int32), lp_212_63_51 N y2 n y4 = some q → (kk : hX (gO LL xs) (D + 2) zR_212 72 [some (.ref 63), some (.int y1), some (.int y2), some (.int y3), some (.int q)] [] (hMm c0 m_s m_kp m_as m_ik m_fo m_tl m_tr m_fa m_od m_rc m_be m_ft m_tp m_td m_tk m_bg m_en m_vl m_sg m_wi m_si m_ce m_ca) v M') → hX (gO LL xs) (D + 2) zR_212 51 [some (.ref 63), some (.int y1), some (.int y2), some (.int y3), some (.int y4)] [] (hMm c0 m_s m_kp m_as m_ik m_fo m_tl m_tr m_fa m_od m_rc m_be m_ft m_tp m_td m_tk m_bg m_en m_vl m_sg m_wi m_si m_ce m_ca) v M' := by
  intro n
  induction n with
  | zero => intro y4 q h; cases h
  | succ n ih =>
    intro y4 q h kk
    rw [lp_212_63_51] at h
    refine hX_go 3 (bif gCmp .eq y4 y2 then 72 else 57) [some (.ref 63), some (.int y1), some (.int y2), some (.int y3), some (.int y4)] [] (hMm c0 m_s m_kp m_as m_ik m_fo m_tl m_tr m_fa m_od m_rc m_be m_ft m_tp m_td m_tk m_bg m_en m_vl m_sg m_wi m_si m_ce m_ca) rfl ?_
    refine hX_if (gCmp .eq y4 y2) (fun c1 => ?_) (fun c1 => ?_)
    · skip
      have h := gcT c1 h
      have h := Option.some.inj h; subst h
      exact kk
    · skip
      have h := gcF c1 h
      refine hX_goM 2 (bif gCmp .eq y4 0 then 72 else 62) [some (.ref 63), some (.int y1), some (.int y2), some (.int y3), some (.int y4)] [] rfl ?_
      refine hX_if (gCmp .eq y4 0) (fun c2 => ?_) (fun c2 => ?_)
      · skip
        have h := gcT c2 h
        have h := Option.some.inj h; subst h
        exact kk
      · skip
        have h := gcF c2 h
        refine hX_goM 1 (64) [some (.ref 63), some (.int y1), some (.int y2), some (.int y3), some (.int y4)] [.int y4] rfl ?_
        refine hX_call (r' := zR_211) rfl (ct_211 y4) ?_
        refine hX_goM 2 (51) [some (.ref 63), some (.int y1), some (.int y2), some (.int y3), some (.int (v_211 y4))] [] rfl ?_
        exact ih (v_211 y4) q h kk

/-- UpOneSideModel.as(II)I -/
def me_212_63 (N : Nat) (x0 : Int32) (x1 : Int32) (m_s : Nat → Int32) (m_fo : Nat → Int32) : Option (Int32 × (Nat → Int32)) :=
  (bif gCmp .eq (v_209 x0) 0 then
    some (v_124_63 0, f_124_63_m_fo 0 m_fo)
  else
    (bif gCmp .ne (v_125 x1 0 6) 0 then
      (bif gIn (124 + x0) 134 then (bif gCmp .ge (m_s (Int32.toNatClampNeg (124 + x0))) 0 then
        (bif gIn ((15 + (3 * (m_s (Int32.toNatClampNeg (124 + x0))))) + 0) 134 then (Option.bind (lp_212_63_51 N x1 N (v_131_63 (m_s (Int32.toNatClampNeg (124 + x0))) 0 m_s)) fun q6 =>
        some (bif gCmp .ne q6 x1 then (v_124_63 2) else (m_s (Int32.toNatClampNeg (124 + x0))), bif gCmp .ne q6 x1 then (f_124_63_m_fo 2 m_fo) else m_fo)) else none)
      else
        some (v_124_63 5, f_124_63_m_fo 5 m_fo)) else none)
    else
      some (v_124_63 0, f_124_63_m_fo 0 m_fo)))
set_option maxRecDepth 20000 in
set_option maxHeartbeats 4000000 in
theorem mt_212_63 {LL : Nat} {xs : Nat → Int32} {D : Nat} {c0 : Nat → gE} {m_s : Nat → Int32} {m_kp : Nat → Int32} {m_as : Nat → Int32} {m_ik : Int32} {m_fo : Nat → Int32} {m_tl : Int32} {m_tr : Int32} {m_fa : Nat → Int32} {m_od : Nat → Int32} {m_rc : Int32} {m_be : Nat → Int32} {m_ft : Int32} {m_tp : Nat → Int32} {m_td : Int32} {m_tk : Int32} {m_bg : Int32} {m_en : Int32} {m_vl : Int64} {m_sg : Int32} {m_wi : Nat → Int32} {m_si : Nat → Int32} {m_ce : Nat → Int32} {m_ca : Nat → Int32} (N : Nat) (x0 : Int32) (x1 : Int32) (q : Int32 × (Nat → Int32)) (h : me_212_63 N x0 x1 m_s m_fo = some q) : hM (gO LL xs) (D + 2) zR_212 [.ref 63, .int x0, .int x1] (hMm c0 m_s m_kp m_as m_ik m_fo m_tl m_tr m_fa m_od m_rc m_be m_ft m_tp m_td m_tk m_bg m_en m_vl m_sg m_wi m_si m_ce m_ca) (some (.int q.1)) (hMm c0 m_s m_kp m_as m_ik q.2 m_tl m_tr m_fa m_od m_rc m_be m_ft m_tp m_td m_tk m_bg m_en m_vl m_sg m_wi m_si m_ce m_ca) := by
  unfold me_212_63 at h
  refine hX_go 0 0 [some (.ref 63), some (.int x0), some (.int x1), none, none] [] (hMm c0 m_s m_kp m_as m_ik m_fo m_tl m_tr m_fa m_od m_rc m_be m_ft m_tp m_td m_tk m_bg m_en m_vl m_sg m_wi m_si m_ce m_ca) rfl ?_
  refine hX_go 1 (1) [some (.ref 63), some (.int x0), some (.int x1), none, none] [.int x0] (hMm c0 m_s m_kp m_as m_ik m_fo m_tl m_tr m_fa m_od m_rc m_be m_ft m_tp m_td m_tk m_bg m_en m_vl m_sg m_wi m_si m_ce m_ca) rfl ?_
  refine hX_call (r' := zR_209) rfl (ct_209 x0) ?_
  refine hX_goM 1 (bif gCmp .eq (v_209 x0) 0 then 17 else 7) [some (.ref 63), some (.int x0), some (.int x1), none, none] [] rfl ?_
  refine hX_if (gCmp .eq (v_209 x0) 0) (fun c1 => ?_) (fun c1 => ?_)
  · skip
    have h := gcT c1 h
    refine hX_goM 2 (19) [some (.ref 63), some (.int x0), some (.int x1), none, none] [.int 0, .ref 63] rfl ?_
    refine hX_call (r' := zR_124) rfl (ct_124_63 0 rfl) ?_
    refine hX_go 0 (22) [some (.ref 63), some (.int x0), some (.int x1), none, none] [.int (v_124_63 0)] (hMm c0 m_s m_kp m_as m_ik (f_124_63_m_fo 0 m_fo) m_tl m_tr m_fa m_od m_rc m_be m_ft m_tp m_td m_tk m_bg m_en m_vl m_sg m_wi m_si m_ce m_ca) rfl ?_
    have h := Option.some.inj h; subst h
    exact hX_end rfl rfl rfl
  · skip
    have h := gcF c1 h
    refine hX_goM 3 (11) [some (.ref 63), some (.int x0), some (.int x1), none, none] [.int 6, .int 0, .int x1] rfl ?_
    refine hX_call (r' := zR_125) rfl (ct_125 x1 0 6) ?_
    refine hX_goM 1 (bif gCmp .ne (v_125 x1 0 6) 0 then 23 else 17) [some (.ref 63), some (.int x0), some (.int x1), none, none] [] rfl ?_
    refine hX_if (gCmp .ne (v_125 x1 0 6) 0) (fun c2 => ?_) (fun c2 => ?_)
    · skip
      have h := gcT c2 h
      refine hX_goM 5 (31) [some (.ref 63), some (.int x0), some (.int x1), none, none] [.int (124 + x0), .ref 64] rfl ?_
      revert h; refine gCondR fun g3 h => ?_
      refine hX_gM (gIn (124 + x0) 134) 32 [some (.ref 63), some (.int x0), some (.int x1), none, none] [.int (m_s (Int32.toNatClampNeg (124 + x0)))] rfl g3 ?_
      refine hX_goM 3 (bif gCmp .ge (m_s (Int32.toNatClampNeg (124 + x0))) 0 then 43 else 37) [some (.ref 63), some (.int x0), some (.int x1), some (.int (m_s (Int32.toNatClampNeg (124 + x0)))), none] [] rfl ?_
      refine hX_if (gCmp .ge (m_s (Int32.toNatClampNeg (124 + x0))) 0) (fun c4 => ?_) (fun c4 => ?_)
      · skip
        have h := gcT c4 h
        refine hX_goM 3 (46) [some (.ref 63), some (.int x0), some (.int x1), some (.int (m_s (Int32.toNatClampNeg (124 + x0)))), none] [.int 0, .int (m_s (Int32.toNatClampNeg (124 + x0))), .ref 63] rfl ?_
        revert h; refine gCondR fun g5 h => ?_
        refine hX_call (r' := zR_131) rfl (ct_131_63 (m_s (Int32.toNatClampNeg (124 + x0))) 0 g5) ?_
        refine hX_goM 1 (51) [some (.ref 63), some (.int x0), some (.int x1), some (.int (m_s (Int32.toNatClampNeg (124 + x0)))), some (.int (v_131_63 (m_s (Int32.toNatClampNeg (124 + x0))) 0 m_s))] [] rfl ?_
        revert h; refine gBindR fun q6 e6 h => ?_
        refine lt_212_63_51 N (v_131_63 (m_s (Int32.toNatClampNeg (124 + x0))) 0 m_s) q6 e6 ?_
        refine hX_goM 3 (bif gCmp .ne q6 x1 then 82 else 78) [some (.ref 63), some (.int x0), some (.int x1), some (.int (m_s (Int32.toNatClampNeg (124 + x0)))), some (.int q6)] [] rfl ?_
        refine hX_mrg 87 [some (.ref 63), some (.int x0), some (.int x1), some (.int (m_s (Int32.toNatClampNeg (124 + x0)))), some (.int q6)] [.int (bif gCmp .ne q6 x1 then (v_124_63 2) else (m_s (Int32.toNatClampNeg (124 + x0))))] (hMm c0 m_s m_kp m_as m_ik (bif gCmp .ne q6 x1 then (f_124_63_m_fo 2 m_fo) else m_fo) m_tl m_tr m_fa m_od m_rc m_be m_ft m_tp m_td m_tk m_bg m_en m_vl m_sg m_wi m_si m_ce m_ca) (fun hk => ?_) ?_
        · skip
          refine hX_if (gCmp .ne q6 x1) (fun c8 => ?_) (fun c8 => ?_)
          · skip
            refine hX_goM 2 (84) [some (.ref 63), some (.int x0), some (.int x1), some (.int (m_s (Int32.toNatClampNeg (124 + x0)))), some (.int q6)] [.int 2, .ref 63] rfl ?_
            refine hX_call (r' := zR_124) rfl (ct_124_63 2 rfl) ?_
            refine hX_go 0 (87) [some (.ref 63), some (.int x0), some (.int x1), some (.int (m_s (Int32.toNatClampNeg (124 + x0)))), some (.int q6)] [.int (v_124_63 2)] (hMm c0 m_s m_kp m_as m_ik (f_124_63_m_fo 2 m_fo) m_tl m_tr m_fa m_od m_rc m_be m_ft m_tp m_td m_tk m_bg m_en m_vl m_sg m_wi m_si m_ce m_ca) rfl ?_
            have hk := hk
            simp only [c8, cond_true, cond_false] at hk
            first | exact hk | (simp only [c8, cond_true, cond_false]; exact hk)
          · skip
            refine hX_goM 2 (87) [some (.ref 63), some (.int x0), some (.int x1), some (.int (m_s (Int32.toNatClampNeg (124 + x0)))), some (.int q6)] [.int (m_s (Int32.toNatClampNeg (124 + x0)))] rfl ?_
            have hk := hk
            simp only [c8, cond_true, cond_false] at hk
            first | exact hk | (simp only [c8, cond_true, cond_false]; exact hk)
        have h := Option.some.inj h; subst h
        exact hX_end rfl rfl rfl
      · skip
        have h := gcF c4 h
        refine hX_goM 2 (39) [some (.ref 63), some (.int x0), some (.int x1), some (.int (m_s (Int32.toNatClampNeg (124 + x0)))), none] [.int 5, .ref 63] rfl ?_
        refine hX_call (r' := zR_124) rfl (ct_124_63 5 rfl) ?_
        refine hX_go 0 (42) [some (.ref 63), some (.int x0), some (.int x1), some (.int (m_s (Int32.toNatClampNeg (124 + x0)))), none] [.int (v_124_63 5)] (hMm c0 m_s m_kp m_as m_ik (f_124_63_m_fo 5 m_fo) m_tl m_tr m_fa m_od m_rc m_be m_ft m_tp m_td m_tk m_bg m_en m_vl m_sg m_wi m_si m_ce m_ca) rfl ?_
        have h := Option.some.inj h; subst h
        exact hX_end rfl rfl rfl
    · skip
      have h := gcF c2 h
      refine hX_goM 2 (19) [some (.ref 63), some (.int x0), some (.int x1), none, none] [.int 0, .ref 63] rfl ?_
      refine hX_call (r' := zR_124) rfl (ct_124_63 0 rfl) ?_
      refine hX_go 0 (22) [some (.ref 63), some (.int x0), some (.int x1), none, none] [.int (v_124_63 0)] (hMm c0 m_s m_kp m_as m_ik (f_124_63_m_fo 0 m_fo) m_tl m_tr m_fa m_od m_rc m_be m_ft m_tp m_td m_tk m_bg m_en m_vl m_sg m_wi m_si m_ce m_ca) rfl ?_
      have h := Option.some.inj h; subst h
      exact hX_end rfl rfl rfl

/-- UpOneSideModel.sheet: the loop at 83 -/
def lp_213_63_83 (N : Nat) (y1 : Int32) : Nat → Int32 → (Nat → Int32) → Option (Int32 × (Nat → Int32))
  | 0, _, _ => none
  | n + 1, y4, m_ce =>
    (bif gCmp .ge y4 40 then
      some (y4, m_ce)
    else
      (bif gIn ((40 * y1) + y4) 160 then lp_213_63_83 N y1 n (y4 + 1) (upd m_ce (Int32.toNatClampNeg ((40 * y1) + y4)) 0) else none))
set_option maxRecDepth 20000 in
set_option maxHeartbeats 4000000 in
theorem lt_213_63_83 {LL : Nat} {xs : Nat → Int32} {D N : Nat} {c0 : Nat → gE} {m_s : Nat → Int32} {m_kp : Nat → Int32} {m_as : Nat → Int32} {m_ik : Int32} {m_fo : Nat → Int32} {m_tl : Int32} {m_tr : Int32} {m_fa : Nat → Int32} {m_od : Nat → Int32} {m_rc : Int32} {m_be : Nat → Int32} {m_ft : Int32} {m_tp : Nat → Int32} {m_td : Int32} {m_tk : Int32} {m_bg : Int32} {m_en : Int32} {m_vl : Int64} {m_sg : Int32} {m_wi : Nat → Int32} {m_si : Nat → Int32}  {m_ca : Nat → Int32} {y1 : Int32} {y2 : Int32} {y3 : Int32} {v : Option Value} {M' : List gE} : ∀ (n : Nat) (y4 : Int32) (m_ce : Nat → Int32) (q : Int32 × (Nat → Int32)), lp_213_63_83 N y1 n y4 m_ce = some q → (kk : hX (gO LL xs) (D + 2) zR_213 109 [some (.ref 63), some (.int y1), some (.int y2), some (.int y3), some (.int q.1)] [] (hMm c0 m_s m_kp m_as m_ik m_fo m_tl m_tr m_fa m_od m_rc m_be m_ft m_tp m_td m_tk m_bg m_en m_vl m_sg m_wi m_si q.2 m_ca) v M') → hX (gO LL xs) (D + 2) zR_213 83 [some (.ref 63), some (.int y1), some (.int y2), some (.int y3), some (.int y4)] [] (hMm c0 m_s m_kp m_as m_ik m_fo m_tl m_tr m_fa m_od m_rc m_be m_ft m_tp m_td m_tk m_bg m_en m_vl m_sg m_wi m_si m_ce m_ca) v M' := by
  intro n
  induction n with
  | zero => intro y4 m_ce q h; cases h
  | succ n ih =>
    intro y4 m_ce q h kk
    rw [lp_213_63_83] at h
    refine hX_go 3 (bif gCmp .ge y4 40 then 109 else 90) [some (.ref 63), some (.int y1), some (.int y2), some (.int y3), some (.int y4)] [] (hMm c0 m_s m_kp m_as m_ik m_fo m_tl m_tr m_fa m_od m_rc m_be m_ft m_tp m_td m_tk m_bg m_en m_vl m_sg m_wi m_si m_ce m_ca) rfl ?_
    refine hX_if (gCmp .ge y4 40) (fun c1 => ?_) (fun c1 => ?_)
    · skip
      have h := gcT c1 h
      have h := Option.some.inj h; subst h
      exact kk
    · skip
      have h := gcF c1 h
      refine hX_goM 8 (102) [some (.ref 63), some (.int y1), some (.int y2), some (.int y3), some (.int y4)] [.int 0, .int ((40 * y1) + y4), .ref 77] rfl ?_
      revert h; refine gCondR fun g2 h => ?_
      refine hX_g (gIn ((40 * y1) + y4) 160) 103 [some (.ref 63), some (.int y1), some (.int y2), some (.int y3), some (.int y4)] [] (hMm c0 m_s m_kp m_as m_ik m_fo m_tl m_tr m_fa m_od m_rc m_be m_ft m_tp m_td m_tk m_bg m_en m_vl m_sg m_wi m_si (upd m_ce (Int32.toNatClampNeg ((40 * y1) + y4)) 0) m_ca) rfl g2 ?_
      refine hX_goM 2 (83) [some (.ref 63), some (.int y1), some (.int y2), some (.int y3), some (.int (y4 + 1))] [] rfl ?_
      exact ih (y4 + 1) (upd m_ce (Int32.toNatClampNeg ((40 * y1) + y4)) 0) q h kk

/-- UpOneSideModel.sheet(III)I -/
def me_213_63 (N : Nat) (x0 : Int32) (x1 : Int32) (x2 : Int32) (m_fo : Nat → Int32) (m_wi : Nat → Int32) (m_si : Nat → Int32) (m_ce : Nat → Int32) : Option (Int32 × (Nat → Int32) × (Nat → Int32) × (Nat → Int32) × (Nat → Int32)) :=
  (bif gCmp .eq (v_185 x0) 0 then
    some (v_124_63 0, f_124_63_m_fo 0 m_fo, m_wi, m_si, m_ce)
  else
    (bif gCmp .eq x1 0 then
      (bif gCmp .ge x2 0 then
        (bif gCmp .le x2 40 then
          (bif gIn x0 4 then (bif gIn x0 4 then (Option.bind (lp_213_63_83 N x0 N 0 m_ce) fun q9 =>
          (bif gIn x0 4 then some ((upd m_si (Int32.toNatClampNeg x0) (bif gCmp .ne x1 0 then x2 else 0)) (Int32.toNatClampNeg x0), m_fo, upd m_wi (Int32.toNatClampNeg x0) x1, upd m_si (Int32.toNatClampNeg x0) (bif gCmp .ne x1 0 then x2 else 0), q9.2) else none)) else none) else none)
        else
          some (v_124_63 0, f_124_63_m_fo 0 m_fo, m_wi, m_si, m_ce))
      else
        some (v_124_63 6, f_124_63_m_fo 6 m_fo, m_wi, m_si, m_ce))
    else
      (bif gCmp .eq x1 8 then
        (bif gCmp .ge x2 0 then
          (bif gCmp .le x2 40 then
            (bif gIn x0 4 then (bif gIn x0 4 then (Option.bind (lp_213_63_83 N x0 N 0 m_ce) fun q18 =>
            (bif gIn x0 4 then some ((upd m_si (Int32.toNatClampNeg x0) (bif gCmp .ne x1 0 then x2 else 0)) (Int32.toNatClampNeg x0), m_fo, upd m_wi (Int32.toNatClampNeg x0) x1, upd m_si (Int32.toNatClampNeg x0) (bif gCmp .ne x1 0 then x2 else 0), q18.2) else none)) else none) else none)
          else
            some (v_124_63 0, f_124_63_m_fo 0 m_fo, m_wi, m_si, m_ce))
        else
          some (v_124_63 6, f_124_63_m_fo 6 m_fo, m_wi, m_si, m_ce))
      else
        (bif gCmp .eq x1 16 then
          (bif gCmp .ge x2 0 then
            (bif gCmp .le x2 40 then
              (bif gIn x0 4 then (bif gIn x0 4 then (Option.bind (lp_213_63_83 N x0 N 0 m_ce) fun q27 =>
              (bif gIn x0 4 then some ((upd m_si (Int32.toNatClampNeg x0) (bif gCmp .ne x1 0 then x2 else 0)) (Int32.toNatClampNeg x0), m_fo, upd m_wi (Int32.toNatClampNeg x0) x1, upd m_si (Int32.toNatClampNeg x0) (bif gCmp .ne x1 0 then x2 else 0), q27.2) else none)) else none) else none)
            else
              some (v_124_63 0, f_124_63_m_fo 0 m_fo, m_wi, m_si, m_ce))
          else
            some (v_124_63 6, f_124_63_m_fo 6 m_fo, m_wi, m_si, m_ce))
        else
          (bif gCmp .eq x1 32 then
            (bif gCmp .ge x2 0 then
              (bif gCmp .le x2 40 then
                (bif gIn x0 4 then (bif gIn x0 4 then (Option.bind (lp_213_63_83 N x0 N 0 m_ce) fun q36 =>
                (bif gIn x0 4 then some ((upd m_si (Int32.toNatClampNeg x0) (bif gCmp .ne x1 0 then x2 else 0)) (Int32.toNatClampNeg x0), m_fo, upd m_wi (Int32.toNatClampNeg x0) x1, upd m_si (Int32.toNatClampNeg x0) (bif gCmp .ne x1 0 then x2 else 0), q36.2) else none)) else none) else none)
              else
                some (v_124_63 0, f_124_63_m_fo 0 m_fo, m_wi, m_si, m_ce))
            else
              some (v_124_63 6, f_124_63_m_fo 6 m_fo, m_wi, m_si, m_ce))
          else
            some (v_124_63 0, f_124_63_m_fo 0 m_fo, m_wi, m_si, m_ce))))))
set_option maxRecDepth 20000 in
set_option maxHeartbeats 4000000 in
theorem mt_213_63 {LL : Nat} {xs : Nat → Int32} {D : Nat} {c0 : Nat → gE} {m_s : Nat → Int32} {m_kp : Nat → Int32} {m_as : Nat → Int32} {m_ik : Int32} {m_fo : Nat → Int32} {m_tl : Int32} {m_tr : Int32} {m_fa : Nat → Int32} {m_od : Nat → Int32} {m_rc : Int32} {m_be : Nat → Int32} {m_ft : Int32} {m_tp : Nat → Int32} {m_td : Int32} {m_tk : Int32} {m_bg : Int32} {m_en : Int32} {m_vl : Int64} {m_sg : Int32} {m_wi : Nat → Int32} {m_si : Nat → Int32} {m_ce : Nat → Int32} {m_ca : Nat → Int32} (N : Nat) (x0 : Int32) (x1 : Int32) (x2 : Int32) (q : Int32 × (Nat → Int32) × (Nat → Int32) × (Nat → Int32) × (Nat → Int32)) (h : me_213_63 N x0 x1 x2 m_fo m_wi m_si m_ce = some q) : hM (gO LL xs) (D + 2) zR_213 [.ref 63, .int x0, .int x1, .int x2] (hMm c0 m_s m_kp m_as m_ik m_fo m_tl m_tr m_fa m_od m_rc m_be m_ft m_tp m_td m_tk m_bg m_en m_vl m_sg m_wi m_si m_ce m_ca) (some (.int q.1)) (hMm c0 m_s m_kp m_as m_ik q.2.1 m_tl m_tr m_fa m_od m_rc m_be m_ft m_tp m_td m_tk m_bg m_en m_vl m_sg q.2.2.1 q.2.2.2.1 q.2.2.2.2 m_ca) := by
  unfold me_213_63 at h
  refine hX_go 0 0 [some (.ref 63), some (.int x0), some (.int x1), some (.int x2), none] [] (hMm c0 m_s m_kp m_as m_ik m_fo m_tl m_tr m_fa m_od m_rc m_be m_ft m_tp m_td m_tk m_bg m_en m_vl m_sg m_wi m_si m_ce m_ca) rfl ?_
  refine hX_go 1 (1) [some (.ref 63), some (.int x0), some (.int x1), some (.int x2), none] [.int x0] (hMm c0 m_s m_kp m_as m_ik m_fo m_tl m_tr m_fa m_od m_rc m_be m_ft m_tp m_td m_tk m_bg m_en m_vl m_sg m_wi m_si m_ce m_ca) rfl ?_
  refine hX_call (r' := zR_185) rfl (ct_185 x0) ?_
  refine hX_goM 1 (bif gCmp .eq (v_185 x0) 0 then 29 else 7) [some (.ref 63), some (.int x0), some (.int x1), some (.int x2), none] [] rfl ?_
  refine hX_if (gCmp .eq (v_185 x0) 0) (fun c1 => ?_) (fun c1 => ?_)
  · skip
    have h := gcT c1 h
    refine hX_goM 2 (31) [some (.ref 63), some (.int x0), some (.int x1), some (.int x2), none] [.int 0, .ref 63] rfl ?_
    refine hX_call (r' := zR_124) rfl (ct_124_63 0 rfl) ?_
    refine hX_go 0 (34) [some (.ref 63), some (.int x0), some (.int x1), some (.int x2), none] [.int (v_124_63 0)] (hMm c0 m_s m_kp m_as m_ik (f_124_63_m_fo 0 m_fo) m_tl m_tr m_fa m_od m_rc m_be m_ft m_tp m_td m_tk m_bg m_en m_vl m_sg m_wi m_si m_ce m_ca) rfl ?_
    have h := Option.some.inj h; subst h
    exact hX_end rfl rfl rfl
  · skip
    have h := gcF c1 h
    refine hX_goM 2 (bif gCmp .eq x1 0 then 35 else 11) [some (.ref 63), some (.int x0), some (.int x1), some (.int x2), none] [] rfl ?_
    refine hX_if (gCmp .eq x1 0) (fun c2 => ?_) (fun c2 => ?_)
    · skip
      have h := gcT c2 h
      refine hX_goM 2 (bif gCmp .ge x2 0 then 46 else 39) [some (.ref 63), some (.int x0), some (.int x1), some (.int x2), none] [] rfl ?_
      refine hX_if (gCmp .ge x2 0) (fun c3 => ?_) (fun c3 => ?_)
      · skip
        have h := gcT c3 h
        refine hX_goM 3 (bif gCmp .le x2 40 then 58 else 52) [some (.ref 63), some (.int x0), some (.int x1), some (.int x2), none] [] rfl ?_
        refine hX_if (gCmp .le x2 40) (fun c4 => ?_) (fun c4 => ?_)
        · skip
          have h := gcT c4 h
          refine hX_goM 4 (64) [some (.ref 63), some (.int x0), some (.int x1), some (.int x2), none] [.int x1, .int x0, .ref 75] rfl ?_
          revert h; refine gCondR fun g5 h => ?_
          refine hX_g (gIn x0 4) 65 [some (.ref 63), some (.int x0), some (.int x1), some (.int x2), none] [] (hMm c0 m_s m_kp m_as m_ik m_fo m_tl m_tr m_fa m_od m_rc m_be m_ft m_tp m_td m_tk m_bg m_en m_vl m_sg (upd m_wi (Int32.toNatClampNeg x0) x1) m_si m_ce m_ca) rfl g5 ?_
          refine hX_goM 5 (bif gCmp .ne x1 0 then 78 else 74) [some (.ref 63), some (.int x0), some (.int x1), some (.int x2), none] [.int x0, .ref 76] rfl ?_
          refine hX_mrg 79 [some (.ref 63), some (.int x0), some (.int x1), some (.int x2), none] [.int (bif gCmp .ne x1 0 then x2 else 0), .int x0, .ref 76] (hMm c0 m_s m_kp m_as m_ik m_fo m_tl m_tr m_fa m_od m_rc m_be m_ft m_tp m_td m_tk m_bg m_en m_vl m_sg (upd m_wi (Int32.toNatClampNeg x0) x1) m_si m_ce m_ca) (fun hk => ?_) ?_
          · skip
            refine hX_if (gCmp .ne x1 0) (fun c7 => ?_) (fun c7 => ?_)
            · skip
              refine hX_goM 1 (79) [some (.ref 63), some (.int x0), some (.int x1), some (.int x2), none] [.int x2, .int x0, .ref 76] rfl ?_
              have hk := hk
              simp only [c7, cond_true, cond_false] at hk
              first | exact hk | (simp only [c7, cond_true, cond_false]; exact hk)
            · skip
              refine hX_goM 2 (79) [some (.ref 63), some (.int x0), some (.int x1), some (.int x2), none] [.int 0, .int x0, .ref 76] rfl ?_
              have hk := hk
              simp only [c7, cond_true, cond_false] at hk
              first | exact hk | (simp only [c7, cond_true, cond_false]; exact hk)
          revert h; refine gCondR fun g8 h => ?_
          refine hX_g (gIn x0 4) 80 [some (.ref 63), some (.int x0), some (.int x1), some (.int x2), none] [] (hMm c0 m_s m_kp m_as m_ik m_fo m_tl m_tr m_fa m_od m_rc m_be m_ft m_tp m_td m_tk m_bg m_en m_vl m_sg (upd m_wi (Int32.toNatClampNeg x0) x1) (upd m_si (Int32.toNatClampNeg x0) (bif gCmp .ne x1 0 then x2 else 0)) m_ce m_ca) rfl g8 ?_
          refine hX_goM 2 (83) [some (.ref 63), some (.int x0), some (.int x1), some (.int x2), some (.int 0)] [] rfl ?_
          revert h; refine gBindR fun q9 e9 h => ?_
          refine lt_213_63_83 N 0 m_ce q9 e9 ?_
          refine hX_go 3 (114) [some (.ref 63), some (.int x0), some (.int x1), some (.int x2), some (.int q9.1)] [.int x0, .ref 76] (hMm c0 m_s m_kp m_as m_ik m_fo m_tl m_tr m_fa m_od m_rc m_be m_ft m_tp m_td m_tk m_bg m_en m_vl m_sg (upd m_wi (Int32.toNatClampNeg x0) x1) (upd m_si (Int32.toNatClampNeg x0) (bif gCmp .ne x1 0 then x2 else 0)) q9.2 m_ca) rfl ?_
          revert h; refine gCondR fun g10 h => ?_
          refine hX_gM (gIn x0 4) 115 [some (.ref 63), some (.int x0), some (.int x1), some (.int x2), some (.int q9.1)] [.int ((upd m_si (Int32.toNatClampNeg x0) (bif gCmp .ne x1 0 then x2 else 0)) (Int32.toNatClampNeg x0))] rfl g10 ?_
          have h := Option.some.inj h; subst h
          exact hX_end rfl rfl rfl
        · skip
          have h := gcF c4 h
          refine hX_goM 2 (54) [some (.ref 63), some (.int x0), some (.int x1), some (.int x2), none] [.int 0, .ref 63] rfl ?_
          refine hX_call (r' := zR_124) rfl (ct_124_63 0 rfl) ?_
          refine hX_go 0 (57) [some (.ref 63), some (.int x0), some (.int x1), some (.int x2), none] [.int (v_124_63 0)] (hMm c0 m_s m_kp m_as m_ik (f_124_63_m_fo 0 m_fo) m_tl m_tr m_fa m_od m_rc m_be m_ft m_tp m_td m_tk m_bg m_en m_vl m_sg m_wi m_si m_ce m_ca) rfl ?_
          have h := Option.some.inj h; subst h
          exact hX_end rfl rfl rfl
      · skip
        have h := gcF c3 h
        refine hX_goM 2 (42) [some (.ref 63), some (.int x0), some (.int x1), some (.int x2), none] [.int 6, .ref 63] rfl ?_
        refine hX_call (r' := zR_124) rfl (ct_124_63 6 rfl) ?_
        refine hX_go 0 (45) [some (.ref 63), some (.int x0), some (.int x1), some (.int x2), none] [.int (v_124_63 6)] (hMm c0 m_s m_kp m_as m_ik (f_124_63_m_fo 6 m_fo) m_tl m_tr m_fa m_od m_rc m_be m_ft m_tp m_td m_tk m_bg m_en m_vl m_sg m_wi m_si m_ce m_ca) rfl ?_
        have h := Option.some.inj h; subst h
        exact hX_end rfl rfl rfl
    · skip
      have h := gcF c2 h
      refine hX_goM 3 (bif gCmp .eq x1 8 then 35 else 17) [some (.ref 63), some (.int x0), some (.int x1), some (.int x2), none] [] rfl ?_
      refine hX_if (gCmp .eq x1 8) (fun c11 => ?_) (fun c11 => ?_)
      · skip
        have h := gcT c11 h
        refine hX_goM 2 (bif gCmp .ge x2 0 then 46 else 39) [some (.ref 63), some (.int x0), some (.int x1), some (.int x2), none] [] rfl ?_
        refine hX_if (gCmp .ge x2 0) (fun c12 => ?_) (fun c12 => ?_)
        · skip
          have h := gcT c12 h
          refine hX_goM 3 (bif gCmp .le x2 40 then 58 else 52) [some (.ref 63), some (.int x0), some (.int x1), some (.int x2), none] [] rfl ?_
          refine hX_if (gCmp .le x2 40) (fun c13 => ?_) (fun c13 => ?_)
          · skip
            have h := gcT c13 h
            refine hX_goM 4 (64) [some (.ref 63), some (.int x0), some (.int x1), some (.int x2), none] [.int x1, .int x0, .ref 75] rfl ?_
            revert h; refine gCondR fun g14 h => ?_
            refine hX_g (gIn x0 4) 65 [some (.ref 63), some (.int x0), some (.int x1), some (.int x2), none] [] (hMm c0 m_s m_kp m_as m_ik m_fo m_tl m_tr m_fa m_od m_rc m_be m_ft m_tp m_td m_tk m_bg m_en m_vl m_sg (upd m_wi (Int32.toNatClampNeg x0) x1) m_si m_ce m_ca) rfl g14 ?_
            refine hX_goM 5 (bif gCmp .ne x1 0 then 78 else 74) [some (.ref 63), some (.int x0), some (.int x1), some (.int x2), none] [.int x0, .ref 76] rfl ?_
            refine hX_mrg 79 [some (.ref 63), some (.int x0), some (.int x1), some (.int x2), none] [.int (bif gCmp .ne x1 0 then x2 else 0), .int x0, .ref 76] (hMm c0 m_s m_kp m_as m_ik m_fo m_tl m_tr m_fa m_od m_rc m_be m_ft m_tp m_td m_tk m_bg m_en m_vl m_sg (upd m_wi (Int32.toNatClampNeg x0) x1) m_si m_ce m_ca) (fun hk => ?_) ?_
            · skip
              refine hX_if (gCmp .ne x1 0) (fun c16 => ?_) (fun c16 => ?_)
              · skip
                refine hX_goM 1 (79) [some (.ref 63), some (.int x0), some (.int x1), some (.int x2), none] [.int x2, .int x0, .ref 76] rfl ?_
                have hk := hk
                simp only [c16, cond_true, cond_false] at hk
                first | exact hk | (simp only [c16, cond_true, cond_false]; exact hk)
              · skip
                refine hX_goM 2 (79) [some (.ref 63), some (.int x0), some (.int x1), some (.int x2), none] [.int 0, .int x0, .ref 76] rfl ?_
                have hk := hk
                simp only [c16, cond_true, cond_false] at hk
                first | exact hk | (simp only [c16, cond_true, cond_false]; exact hk)
            revert h; refine gCondR fun g17 h => ?_
            refine hX_g (gIn x0 4) 80 [some (.ref 63), some (.int x0), some (.int x1), some (.int x2), none] [] (hMm c0 m_s m_kp m_as m_ik m_fo m_tl m_tr m_fa m_od m_rc m_be m_ft m_tp m_td m_tk m_bg m_en m_vl m_sg (upd m_wi (Int32.toNatClampNeg x0) x1) (upd m_si (Int32.toNatClampNeg x0) (bif gCmp .ne x1 0 then x2 else 0)) m_ce m_ca) rfl g17 ?_
            refine hX_goM 2 (83) [some (.ref 63), some (.int x0), some (.int x1), some (.int x2), some (.int 0)] [] rfl ?_
            revert h; refine gBindR fun q18 e18 h => ?_
            refine lt_213_63_83 N 0 m_ce q18 e18 ?_
            refine hX_go 3 (114) [some (.ref 63), some (.int x0), some (.int x1), some (.int x2), some (.int q18.1)] [.int x0, .ref 76] (hMm c0 m_s m_kp m_as m_ik m_fo m_tl m_tr m_fa m_od m_rc m_be m_ft m_tp m_td m_tk m_bg m_en m_vl m_sg (upd m_wi (Int32.toNatClampNeg x0) x1) (upd m_si (Int32.toNatClampNeg x0) (bif gCmp .ne x1 0 then x2 else 0)) q18.2 m_ca) rfl ?_
            revert h; refine gCondR fun g19 h => ?_
            refine hX_gM (gIn x0 4) 115 [some (.ref 63), some (.int x0), some (.int x1), some (.int x2), some (.int q18.1)] [.int ((upd m_si (Int32.toNatClampNeg x0) (bif gCmp .ne x1 0 then x2 else 0)) (Int32.toNatClampNeg x0))] rfl g19 ?_
            have h := Option.some.inj h; subst h
            exact hX_end rfl rfl rfl
          · skip
            have h := gcF c13 h
            refine hX_goM 2 (54) [some (.ref 63), some (.int x0), some (.int x1), some (.int x2), none] [.int 0, .ref 63] rfl ?_
            refine hX_call (r' := zR_124) rfl (ct_124_63 0 rfl) ?_
            refine hX_go 0 (57) [some (.ref 63), some (.int x0), some (.int x1), some (.int x2), none] [.int (v_124_63 0)] (hMm c0 m_s m_kp m_as m_ik (f_124_63_m_fo 0 m_fo) m_tl m_tr m_fa m_od m_rc m_be m_ft m_tp m_td m_tk m_bg m_en m_vl m_sg m_wi m_si m_ce m_ca) rfl ?_
            have h := Option.some.inj h; subst h
            exact hX_end rfl rfl rfl
        · skip
          have h := gcF c12 h
          refine hX_goM 2 (42) [some (.ref 63), some (.int x0), some (.int x1), some (.int x2), none] [.int 6, .ref 63] rfl ?_
          refine hX_call (r' := zR_124) rfl (ct_124_63 6 rfl) ?_
          refine hX_go 0 (45) [some (.ref 63), some (.int x0), some (.int x1), some (.int x2), none] [.int (v_124_63 6)] (hMm c0 m_s m_kp m_as m_ik (f_124_63_m_fo 6 m_fo) m_tl m_tr m_fa m_od m_rc m_be m_ft m_tp m_td m_tk m_bg m_en m_vl m_sg m_wi m_si m_ce m_ca) rfl ?_
          have h := Option.some.inj h; subst h
          exact hX_end rfl rfl rfl
      · skip
        have h := gcF c11 h
        refine hX_goM 3 (bif gCmp .eq x1 16 then 35 else 23) [some (.ref 63), some (.int x0), some (.int x1), some (.int x2), none] [] rfl ?_
        refine hX_if (gCmp .eq x1 16) (fun c20 => ?_) (fun c20 => ?_)
        · skip
          have h := gcT c20 h
          refine hX_goM 2 (bif gCmp .ge x2 0 then 46 else 39) [some (.ref 63), some (.int x0), some (.int x1), some (.int x2), none] [] rfl ?_
          refine hX_if (gCmp .ge x2 0) (fun c21 => ?_) (fun c21 => ?_)
          · skip
            have h := gcT c21 h
            refine hX_goM 3 (bif gCmp .le x2 40 then 58 else 52) [some (.ref 63), some (.int x0), some (.int x1), some (.int x2), none] [] rfl ?_
            refine hX_if (gCmp .le x2 40) (fun c22 => ?_) (fun c22 => ?_)
            · skip
              have h := gcT c22 h
              refine hX_goM 4 (64) [some (.ref 63), some (.int x0), some (.int x1), some (.int x2), none] [.int x1, .int x0, .ref 75] rfl ?_
              revert h; refine gCondR fun g23 h => ?_
              refine hX_g (gIn x0 4) 65 [some (.ref 63), some (.int x0), some (.int x1), some (.int x2), none] [] (hMm c0 m_s m_kp m_as m_ik m_fo m_tl m_tr m_fa m_od m_rc m_be m_ft m_tp m_td m_tk m_bg m_en m_vl m_sg (upd m_wi (Int32.toNatClampNeg x0) x1) m_si m_ce m_ca) rfl g23 ?_
              refine hX_goM 5 (bif gCmp .ne x1 0 then 78 else 74) [some (.ref 63), some (.int x0), some (.int x1), some (.int x2), none] [.int x0, .ref 76] rfl ?_
              refine hX_mrg 79 [some (.ref 63), some (.int x0), some (.int x1), some (.int x2), none] [.int (bif gCmp .ne x1 0 then x2 else 0), .int x0, .ref 76] (hMm c0 m_s m_kp m_as m_ik m_fo m_tl m_tr m_fa m_od m_rc m_be m_ft m_tp m_td m_tk m_bg m_en m_vl m_sg (upd m_wi (Int32.toNatClampNeg x0) x1) m_si m_ce m_ca) (fun hk => ?_) ?_
              · skip
                refine hX_if (gCmp .ne x1 0) (fun c25 => ?_) (fun c25 => ?_)
                · skip
                  refine hX_goM 1 (79) [some (.ref 63), some (.int x0), some (.int x1), some (.int x2), none] [.int x2, .int x0, .ref 76] rfl ?_
                  have hk := hk
                  simp only [c25, cond_true, cond_false] at hk
                  first | exact hk | (simp only [c25, cond_true, cond_false]; exact hk)
                · skip
                  refine hX_goM 2 (79) [some (.ref 63), some (.int x0), some (.int x1), some (.int x2), none] [.int 0, .int x0, .ref 76] rfl ?_
                  have hk := hk
                  simp only [c25, cond_true, cond_false] at hk
                  first | exact hk | (simp only [c25, cond_true, cond_false]; exact hk)
              revert h; refine gCondR fun g26 h => ?_
              refine hX_g (gIn x0 4) 80 [some (.ref 63), some (.int x0), some (.int x1), some (.int x2), none] [] (hMm c0 m_s m_kp m_as m_ik m_fo m_tl m_tr m_fa m_od m_rc m_be m_ft m_tp m_td m_tk m_bg m_en m_vl m_sg (upd m_wi (Int32.toNatClampNeg x0) x1) (upd m_si (Int32.toNatClampNeg x0) (bif gCmp .ne x1 0 then x2 else 0)) m_ce m_ca) rfl g26 ?_
              refine hX_goM 2 (83) [some (.ref 63), some (.int x0), some (.int x1), some (.int x2), some (.int 0)] [] rfl ?_
              revert h; refine gBindR fun q27 e27 h => ?_
              refine lt_213_63_83 N 0 m_ce q27 e27 ?_
              refine hX_go 3 (114) [some (.ref 63), some (.int x0), some (.int x1), some (.int x2), some (.int q27.1)] [.int x0, .ref 76] (hMm c0 m_s m_kp m_as m_ik m_fo m_tl m_tr m_fa m_od m_rc m_be m_ft m_tp m_td m_tk m_bg m_en m_vl m_sg (upd m_wi (Int32.toNatClampNeg x0) x1) (upd m_si (Int32.toNatClampNeg x0) (bif gCmp .ne x1 0 then x2 else 0)) q27.2 m_ca) rfl ?_
              revert h; refine gCondR fun g28 h => ?_
              refine hX_gM (gIn x0 4) 115 [some (.ref 63), some (.int x0), some (.int x1), some (.int x2), some (.int q27.1)] [.int ((upd m_si (Int32.toNatClampNeg x0) (bif gCmp .ne x1 0 then x2 else 0)) (Int32.toNatClampNeg x0))] rfl g28 ?_
              have h := Option.some.inj h; subst h
              exact hX_end rfl rfl rfl
            · skip
              have h := gcF c22 h
              refine hX_goM 2 (54) [some (.ref 63), some (.int x0), some (.int x1), some (.int x2), none] [.int 0, .ref 63] rfl ?_
              refine hX_call (r' := zR_124) rfl (ct_124_63 0 rfl) ?_
              refine hX_go 0 (57) [some (.ref 63), some (.int x0), some (.int x1), some (.int x2), none] [.int (v_124_63 0)] (hMm c0 m_s m_kp m_as m_ik (f_124_63_m_fo 0 m_fo) m_tl m_tr m_fa m_od m_rc m_be m_ft m_tp m_td m_tk m_bg m_en m_vl m_sg m_wi m_si m_ce m_ca) rfl ?_
              have h := Option.some.inj h; subst h
              exact hX_end rfl rfl rfl
          · skip
            have h := gcF c21 h
            refine hX_goM 2 (42) [some (.ref 63), some (.int x0), some (.int x1), some (.int x2), none] [.int 6, .ref 63] rfl ?_
            refine hX_call (r' := zR_124) rfl (ct_124_63 6 rfl) ?_
            refine hX_go 0 (45) [some (.ref 63), some (.int x0), some (.int x1), some (.int x2), none] [.int (v_124_63 6)] (hMm c0 m_s m_kp m_as m_ik (f_124_63_m_fo 6 m_fo) m_tl m_tr m_fa m_od m_rc m_be m_ft m_tp m_td m_tk m_bg m_en m_vl m_sg m_wi m_si m_ce m_ca) rfl ?_
            have h := Option.some.inj h; subst h
            exact hX_end rfl rfl rfl
        · skip
          have h := gcF c20 h
          refine hX_goM 3 (bif gCmp .eq x1 32 then 35 else 29) [some (.ref 63), some (.int x0), some (.int x1), some (.int x2), none] [] rfl ?_
          refine hX_if (gCmp .eq x1 32) (fun c29 => ?_) (fun c29 => ?_)
          · skip
            have h := gcT c29 h
            refine hX_goM 2 (bif gCmp .ge x2 0 then 46 else 39) [some (.ref 63), some (.int x0), some (.int x1), some (.int x2), none] [] rfl ?_
            refine hX_if (gCmp .ge x2 0) (fun c30 => ?_) (fun c30 => ?_)
            · skip
              have h := gcT c30 h
              refine hX_goM 3 (bif gCmp .le x2 40 then 58 else 52) [some (.ref 63), some (.int x0), some (.int x1), some (.int x2), none] [] rfl ?_
              refine hX_if (gCmp .le x2 40) (fun c31 => ?_) (fun c31 => ?_)
              · skip
                have h := gcT c31 h
                refine hX_goM 4 (64) [some (.ref 63), some (.int x0), some (.int x1), some (.int x2), none] [.int x1, .int x0, .ref 75] rfl ?_
                revert h; refine gCondR fun g32 h => ?_
                refine hX_g (gIn x0 4) 65 [some (.ref 63), some (.int x0), some (.int x1), some (.int x2), none] [] (hMm c0 m_s m_kp m_as m_ik m_fo m_tl m_tr m_fa m_od m_rc m_be m_ft m_tp m_td m_tk m_bg m_en m_vl m_sg (upd m_wi (Int32.toNatClampNeg x0) x1) m_si m_ce m_ca) rfl g32 ?_
                refine hX_goM 5 (bif gCmp .ne x1 0 then 78 else 74) [some (.ref 63), some (.int x0), some (.int x1), some (.int x2), none] [.int x0, .ref 76] rfl ?_
                refine hX_mrg 79 [some (.ref 63), some (.int x0), some (.int x1), some (.int x2), none] [.int (bif gCmp .ne x1 0 then x2 else 0), .int x0, .ref 76] (hMm c0 m_s m_kp m_as m_ik m_fo m_tl m_tr m_fa m_od m_rc m_be m_ft m_tp m_td m_tk m_bg m_en m_vl m_sg (upd m_wi (Int32.toNatClampNeg x0) x1) m_si m_ce m_ca) (fun hk => ?_) ?_
                · skip
                  refine hX_if (gCmp .ne x1 0) (fun c34 => ?_) (fun c34 => ?_)
                  · skip
                    refine hX_goM 1 (79) [some (.ref 63), some (.int x0), some (.int x1), some (.int x2), none] [.int x2, .int x0, .ref 76] rfl ?_
                    have hk := hk
                    simp only [c34, cond_true, cond_false] at hk
                    first | exact hk | (simp only [c34, cond_true, cond_false]; exact hk)
                  · skip
                    refine hX_goM 2 (79) [some (.ref 63), some (.int x0), some (.int x1), some (.int x2), none] [.int 0, .int x0, .ref 76] rfl ?_
                    have hk := hk
                    simp only [c34, cond_true, cond_false] at hk
                    first | exact hk | (simp only [c34, cond_true, cond_false]; exact hk)
                revert h; refine gCondR fun g35 h => ?_
                refine hX_g (gIn x0 4) 80 [some (.ref 63), some (.int x0), some (.int x1), some (.int x2), none] [] (hMm c0 m_s m_kp m_as m_ik m_fo m_tl m_tr m_fa m_od m_rc m_be m_ft m_tp m_td m_tk m_bg m_en m_vl m_sg (upd m_wi (Int32.toNatClampNeg x0) x1) (upd m_si (Int32.toNatClampNeg x0) (bif gCmp .ne x1 0 then x2 else 0)) m_ce m_ca) rfl g35 ?_
                refine hX_goM 2 (83) [some (.ref 63), some (.int x0), some (.int x1), some (.int x2), some (.int 0)] [] rfl ?_
                revert h; refine gBindR fun q36 e36 h => ?_
                refine lt_213_63_83 N 0 m_ce q36 e36 ?_
                refine hX_go 3 (114) [some (.ref 63), some (.int x0), some (.int x1), some (.int x2), some (.int q36.1)] [.int x0, .ref 76] (hMm c0 m_s m_kp m_as m_ik m_fo m_tl m_tr m_fa m_od m_rc m_be m_ft m_tp m_td m_tk m_bg m_en m_vl m_sg (upd m_wi (Int32.toNatClampNeg x0) x1) (upd m_si (Int32.toNatClampNeg x0) (bif gCmp .ne x1 0 then x2 else 0)) q36.2 m_ca) rfl ?_
                revert h; refine gCondR fun g37 h => ?_
                refine hX_gM (gIn x0 4) 115 [some (.ref 63), some (.int x0), some (.int x1), some (.int x2), some (.int q36.1)] [.int ((upd m_si (Int32.toNatClampNeg x0) (bif gCmp .ne x1 0 then x2 else 0)) (Int32.toNatClampNeg x0))] rfl g37 ?_
                have h := Option.some.inj h; subst h
                exact hX_end rfl rfl rfl
              · skip
                have h := gcF c31 h
                refine hX_goM 2 (54) [some (.ref 63), some (.int x0), some (.int x1), some (.int x2), none] [.int 0, .ref 63] rfl ?_
                refine hX_call (r' := zR_124) rfl (ct_124_63 0 rfl) ?_
                refine hX_go 0 (57) [some (.ref 63), some (.int x0), some (.int x1), some (.int x2), none] [.int (v_124_63 0)] (hMm c0 m_s m_kp m_as m_ik (f_124_63_m_fo 0 m_fo) m_tl m_tr m_fa m_od m_rc m_be m_ft m_tp m_td m_tk m_bg m_en m_vl m_sg m_wi m_si m_ce m_ca) rfl ?_
                have h := Option.some.inj h; subst h
                exact hX_end rfl rfl rfl
            · skip
              have h := gcF c30 h
              refine hX_goM 2 (42) [some (.ref 63), some (.int x0), some (.int x1), some (.int x2), none] [.int 6, .ref 63] rfl ?_
              refine hX_call (r' := zR_124) rfl (ct_124_63 6 rfl) ?_
              refine hX_go 0 (45) [some (.ref 63), some (.int x0), some (.int x1), some (.int x2), none] [.int (v_124_63 6)] (hMm c0 m_s m_kp m_as m_ik (f_124_63_m_fo 6 m_fo) m_tl m_tr m_fa m_od m_rc m_be m_ft m_tp m_td m_tk m_bg m_en m_vl m_sg m_wi m_si m_ce m_ca) rfl ?_
              have h := Option.some.inj h; subst h
              exact hX_end rfl rfl rfl
          · skip
            have h := gcF c29 h
            refine hX_goM 2 (31) [some (.ref 63), some (.int x0), some (.int x1), some (.int x2), none] [.int 0, .ref 63] rfl ?_
            refine hX_call (r' := zR_124) rfl (ct_124_63 0 rfl) ?_
            refine hX_go 0 (34) [some (.ref 63), some (.int x0), some (.int x1), some (.int x2), none] [.int (v_124_63 0)] (hMm c0 m_s m_kp m_as m_ik (f_124_63_m_fo 0 m_fo) m_tl m_tr m_fa m_od m_rc m_be m_ft m_tp m_td m_tk m_bg m_en m_vl m_sg m_wi m_si m_ce m_ca) rfl ?_
            have h := Option.some.inj h; subst h
            exact hX_end rfl rfl rfl


/-- UpOneSideModel.write(III)I -/
def me_214_63 (N : Nat) (x0 : Int32) (x1 : Int32) (x2 : Int32) (m_fo : Nat → Int32) (m_wi : Nat → Int32) (m_si : Nat → Int32) (m_ce : Nat → Int32) : Option (Int32 × (Nat → Int32) × (Nat → Int32)) :=
  (bif (!(gCmp .ne (v_185 x0) 0) || (gIn x0 4)) then (bif (gCmp .ge (v_186_63 x0 m_wi) 0) || (gIn x0 4) then (bif gCmp .lt (bif gCmp .ge (v_186_63 x0 m_wi) 0 then (v_186_63 x0 m_wi) else (bif gCmp .ne (v_125 x1 0 ((m_si (Int32.toNatClampNeg x0)) - 1)) 0 then (v_186_63 x0 m_wi) else 0)) 0 then
    (bif gIn x0 4 then (bif !(gCmp .ne (m_wi (Int32.toNatClampNeg x0)) 8) || (gIn x0 4) then (bif gIn ((40 * x0) + x1) 160 then some (1, m_fo, upd m_ce (Int32.toNatClampNeg ((40 * x0) + x1)) (bif gCmp .ne (m_wi (Int32.toNatClampNeg x0)) 8 then (bif gCmp .ne (m_wi (Int32.toNatClampNeg x0)) 16 then x2 else ((Int32.toInt16 x2).toInt32)) else ((Int32.toInt8 x2).toInt32))) else none) else none) else none)
  else
    (bif gIn (bif gCmp .ge (v_186_63 x0 m_wi) 0 then (v_186_63 x0 m_wi) else (bif gCmp .ne (v_125 x1 0 ((m_si (Int32.toNatClampNeg x0)) - 1)) 0 then (v_186_63 x0 m_wi) else 0)) 7 then some (v_124_63 (bif gCmp .ge (v_186_63 x0 m_wi) 0 then (v_186_63 x0 m_wi) else (bif gCmp .ne (v_125 x1 0 ((m_si (Int32.toNatClampNeg x0)) - 1)) 0 then (v_186_63 x0 m_wi) else 0)), f_124_63_m_fo (bif gCmp .ge (v_186_63 x0 m_wi) 0 then (v_186_63 x0 m_wi) else (bif gCmp .ne (v_125 x1 0 ((m_si (Int32.toNatClampNeg x0)) - 1)) 0 then (v_186_63 x0 m_wi) else 0)) m_fo, m_ce) else none)) else none) else none)
set_option maxRecDepth 20000 in
set_option maxHeartbeats 4000000 in
theorem mt_214_63 {LL : Nat} {xs : Nat → Int32} {D : Nat} {c0 : Nat → gE} {m_s : Nat → Int32} {m_kp : Nat → Int32} {m_as : Nat → Int32} {m_ik : Int32} {m_fo : Nat → Int32} {m_tl : Int32} {m_tr : Int32} {m_fa : Nat → Int32} {m_od : Nat → Int32} {m_rc : Int32} {m_be : Nat → Int32} {m_ft : Int32} {m_tp : Nat → Int32} {m_td : Int32} {m_tk : Int32} {m_bg : Int32} {m_en : Int32} {m_vl : Int64} {m_sg : Int32} {m_wi : Nat → Int32} {m_si : Nat → Int32} {m_ce : Nat → Int32} {m_ca : Nat → Int32} (N : Nat) (x0 : Int32) (x1 : Int32) (x2 : Int32) (q : Int32 × (Nat → Int32) × (Nat → Int32)) (h : me_214_63 N x0 x1 x2 m_fo m_wi m_si m_ce = some q) : hM (gO LL xs) (D + 3) zR_214 [.ref 63, .int x0, .int x1, .int x2] (hMm c0 m_s m_kp m_as m_ik m_fo m_tl m_tr m_fa m_od m_rc m_be m_ft m_tp m_td m_tk m_bg m_en m_vl m_sg m_wi m_si m_ce m_ca) (some (.int q.1)) (hMm c0 m_s m_kp m_as m_ik q.2.1 m_tl m_tr m_fa m_od m_rc m_be m_ft m_tp m_td m_tk m_bg m_en m_vl m_sg m_wi m_si q.2.2 m_ca) := by
  unfold me_214_63 at h
  refine hX_go 0 0 [some (.ref 63), some (.int x0), some (.int x1), some (.int x2), none] [] (hMm c0 m_s m_kp m_as m_ik m_fo m_tl m_tr m_fa m_od m_rc m_be m_ft m_tp m_td m_tk m_bg m_en m_vl m_sg m_wi m_si m_ce m_ca) rfl ?_
  refine hX_go 2 (2) [some (.ref 63), some (.int x0), some (.int x1), some (.int x2), none] [.int x0, .ref 63] (hMm c0 m_s m_kp m_as m_ik m_fo m_tl m_tr m_fa m_od m_rc m_be m_ft m_tp m_td m_tk m_bg m_en m_vl m_sg m_wi m_si m_ce m_ca) rfl ?_
  revert h; refine gCondR fun g1 h => ?_
  refine hX_call (r' := zR_186) rfl (ct_186_63 x0 (fun u0 => (gImpT g1 u0))) ?_
  refine hX_goM 3 (bif gCmp .ge (v_186_63 x0 m_wi) 0 then 31 else 12) [some (.ref 63), some (.int x0), some (.int x1), some (.int x2), some (.int (v_186_63 x0 m_wi))] [] rfl ?_
  revert h; refine gCondR fun o3 h => ?_
  refine hX_mrg 31 [some (.ref 63), some (.int x0), some (.int x1), some (.int x2), some (.int (bif gCmp .ge (v_186_63 x0 m_wi) 0 then (v_186_63 x0 m_wi) else (bif gCmp .ne (v_125 x1 0 ((m_si (Int32.toNatClampNeg x0)) - 1)) 0 then (v_186_63 x0 m_wi) else 0)))] [] (hMm c0 m_s m_kp m_as m_ik m_fo m_tl m_tr m_fa m_od m_rc m_be m_ft m_tp m_td m_tk m_bg m_en m_vl m_sg m_wi m_si m_ce m_ca) (fun hk => ?_) ?_
  · skip
    refine hX_if (gCmp .ge (v_186_63 x0 m_wi) 0) (fun c5 => ?_) (fun c5 => ?_)
    · skip
      have hk := hk
      simp only [c5, cond_true, cond_false] at hk
      first | exact hk | (simp only [c5, cond_true, cond_false]; exact hk)
    · skip
      refine hX_goM 5 (19) [some (.ref 63), some (.int x0), some (.int x1), some (.int x2), some (.int (v_186_63 x0 m_wi))] [.int x0, .ref 76, .int 0, .int x1] rfl ?_
      refine hX_gM (gIn x0 4) 20 [some (.ref 63), some (.int x0), some (.int x1), some (.int x2), some (.int (v_186_63 x0 m_wi))] [.int (m_si (Int32.toNatClampNeg x0)), .int 0, .int x1] rfl (gImpF o3 c5) ?_
      refine hX_goM 2 (22) [some (.ref 63), some (.int x0), some (.int x1), some (.int x2), some (.int (v_186_63 x0 m_wi))] [.int ((m_si (Int32.toNatClampNeg x0)) - 1), .int 0, .int x1] rfl ?_
      refine hX_call (r' := zR_125) rfl (ct_125 x1 0 ((m_si (Int32.toNatClampNeg x0)) - 1)) ?_
      refine hX_goM 1 (bif gCmp .ne (v_125 x1 0 ((m_si (Int32.toNatClampNeg x0)) - 1)) 0 then 31 else 28) [some (.ref 63), some (.int x0), some (.int x1), some (.int x2), some (.int (v_186_63 x0 m_wi))] [] rfl ?_
      refine hX_if (gCmp .ne (v_125 x1 0 ((m_si (Int32.toNatClampNeg x0)) - 1)) 0) (fun c6 => ?_) (fun c6 => ?_)
      · skip
        have hk := hk
        simp only [c5, c6, cond_true, cond_false] at hk
        first | exact hk | (simp only [c5, c6, cond_true, cond_false]; exact hk)
      · skip
        refine hX_goM 2 (31) [some (.ref 63), some (.int x0), some (.int x1), some (.int x2), some (.int 0)] [] rfl ?_
        have hk := hk
        simp only [c5, c6, cond_true, cond_false] at hk
        first | exact hk | (simp only [c5, c6, cond_true, cond_false]; exact hk)
  refine hX_goM 2 (bif gCmp .lt (bif gCmp .ge (v_186_63 x0 m_wi) 0 then (v_186_63 x0 m_wi) else (bif gCmp .ne (v_125 x1 0 ((m_si (Int32.toNatClampNeg x0)) - 1)) 0 then (v_186_63 x0 m_wi) else 0)) 0 then 43 else 36) [some (.ref 63), some (.int x0), some (.int x1), some (.int x2), some (.int (bif gCmp .ge (v_186_63 x0 m_wi) 0 then (v_186_63 x0 m_wi) else (bif gCmp .ne (v_125 x1 0 ((m_si (Int32.toNatClampNeg x0)) - 1)) 0 then (v_186_63 x0 m_wi) else 0)))] [] rfl ?_
  refine hX_if (gCmp .lt (bif gCmp .ge (v_186_63 x0 m_wi) 0 then (v_186_63 x0 m_wi) else (bif gCmp .ne (v_125 x1 0 ((m_si (Int32.toNatClampNeg x0)) - 1)) 0 then (v_186_63 x0 m_wi) else 0)) 0) (fun c7 => ?_) (fun c7 => ?_)
  · skip
    have h := gcT c7 h
    refine hX_goM 9 (57) [some (.ref 63), some (.int x0), some (.int x1), some (.int x2), some (.int (bif gCmp .ge (v_186_63 x0 m_wi) 0 then (v_186_63 x0 m_wi) else (bif gCmp .ne (v_125 x1 0 ((m_si (Int32.toNatClampNeg x0)) - 1)) 0 then (v_186_63 x0 m_wi) else 0)))] [.ref 75, .int ((40 * x0) + x1), .ref 77] rfl ?_
    refine hX_goM 1 (58) [some (.ref 63), some (.int x0), some (.int x1), some (.int x2), some (.int (bif gCmp .ge (v_186_63 x0 m_wi) 0 then (v_186_63 x0 m_wi) else (bif gCmp .ne (v_125 x1 0 ((m_si (Int32.toNatClampNeg x0)) - 1)) 0 then (v_186_63 x0 m_wi) else 0)))] [.int x0, .ref 75, .int ((40 * x0) + x1), .ref 77] rfl ?_
    revert h; refine gCondR fun g8 h => ?_
    refine hX_gM (gIn x0 4) 59 [some (.ref 63), some (.int x0), some (.int x1), some (.int x2), some (.int (bif gCmp .ge (v_186_63 x0 m_wi) 0 then (v_186_63 x0 m_wi) else (bif gCmp .ne (v_125 x1 0 ((m_si (Int32.toNatClampNeg x0)) - 1)) 0 then (v_186_63 x0 m_wi) else 0)))] [.int (m_wi (Int32.toNatClampNeg x0)), .int ((40 * x0) + x1), .ref 77] rfl g8 ?_
    refine hX_goM 2 (bif gCmp .ne (m_wi (Int32.toNatClampNeg x0)) 8 then 69 else 64) [some (.ref 63), some (.int x0), some (.int x1), some (.int x2), some (.int (bif gCmp .ge (v_186_63 x0 m_wi) 0 then (v_186_63 x0 m_wi) else (bif gCmp .ne (v_125 x1 0 ((m_si (Int32.toNatClampNeg x0)) - 1)) 0 then (v_186_63 x0 m_wi) else 0)))] [.int ((40 * x0) + x1), .ref 77] rfl ?_
    revert h; refine gCondR fun o10 h => ?_
    refine hX_mrg 86 [some (.ref 63), some (.int x0), some (.int x1), some (.int x2), some (.int (bif gCmp .ge (v_186_63 x0 m_wi) 0 then (v_186_63 x0 m_wi) else (bif gCmp .ne (v_125 x1 0 ((m_si (Int32.toNatClampNeg x0)) - 1)) 0 then (v_186_63 x0 m_wi) else 0)))] [.int (bif gCmp .ne (m_wi (Int32.toNatClampNeg x0)) 8 then (bif gCmp .ne (m_wi (Int32.toNatClampNeg x0)) 16 then x2 else ((Int32.toInt16 x2).toInt32)) else ((Int32.toInt8 x2).toInt32)), .int ((40 * x0) + x1), .ref 77] (hMm c0 m_s m_kp m_as m_ik m_fo m_tl m_tr m_fa m_od m_rc m_be m_ft m_tp m_td m_tk m_bg m_en m_vl m_sg m_wi m_si m_ce m_ca) (fun hk => ?_) ?_
    · skip
      refine hX_if (gCmp .ne (m_wi (Int32.toNatClampNeg x0)) 8) (fun c12 => ?_) (fun c12 => ?_)
      · skip
        refine hX_goM 3 (74) [some (.ref 63), some (.int x0), some (.int x1), some (.int x2), some (.int (bif gCmp .ge (v_186_63 x0 m_wi) 0 then (v_186_63 x0 m_wi) else (bif gCmp .ne (v_125 x1 0 ((m_si (Int32.toNatClampNeg x0)) - 1)) 0 then (v_186_63 x0 m_wi) else 0)))] [.int x0, .ref 75, .int ((40 * x0) + x1), .ref 77] rfl ?_
        refine hX_gM (gIn x0 4) 75 [some (.ref 63), some (.int x0), some (.int x1), some (.int x2), some (.int (bif gCmp .ge (v_186_63 x0 m_wi) 0 then (v_186_63 x0 m_wi) else (bif gCmp .ne (v_125 x1 0 ((m_si (Int32.toNatClampNeg x0)) - 1)) 0 then (v_186_63 x0 m_wi) else 0)))] [.int (m_wi (Int32.toNatClampNeg x0)), .int ((40 * x0) + x1), .ref 77] rfl (gImpT o10 c12) ?_
        refine hX_goM 2 (bif gCmp .ne (m_wi (Int32.toNatClampNeg x0)) 16 then 85 else 80) [some (.ref 63), some (.int x0), some (.int x1), some (.int x2), some (.int (bif gCmp .ge (v_186_63 x0 m_wi) 0 then (v_186_63 x0 m_wi) else (bif gCmp .ne (v_125 x1 0 ((m_si (Int32.toNatClampNeg x0)) - 1)) 0 then (v_186_63 x0 m_wi) else 0)))] [.int ((40 * x0) + x1), .ref 77] rfl ?_
        refine hX_if (gCmp .ne (m_wi (Int32.toNatClampNeg x0)) 16) (fun c13 => ?_) (fun c13 => ?_)
        · skip
          refine hX_goM 1 (86) [some (.ref 63), some (.int x0), some (.int x1), some (.int x2), some (.int (bif gCmp .ge (v_186_63 x0 m_wi) 0 then (v_186_63 x0 m_wi) else (bif gCmp .ne (v_125 x1 0 ((m_si (Int32.toNatClampNeg x0)) - 1)) 0 then (v_186_63 x0 m_wi) else 0)))] [.int x2, .int ((40 * x0) + x1), .ref 77] rfl ?_
          have hk := hk
          simp only [c12, c13, cond_true, cond_false] at hk
          first | exact hk | (simp only [c12, c13, cond_true, cond_false]; exact hk)
        · skip
          refine hX_goM 3 (86) [some (.ref 63), some (.int x0), some (.int x1), some (.int x2), some (.int (bif gCmp .ge (v_186_63 x0 m_wi) 0 then (v_186_63 x0 m_wi) else (bif gCmp .ne (v_125 x1 0 ((m_si (Int32.toNatClampNeg x0)) - 1)) 0 then (v_186_63 x0 m_wi) else 0)))] [.int ((Int32.toInt16 x2).toInt32), .int ((40 * x0) + x1), .ref 77] rfl ?_
          have hk := hk
          simp only [c12, c13, cond_true, cond_false] at hk
          first | exact hk | (simp only [c12, c13, cond_true, cond_false]; exact hk)
      · skip
        refine hX_goM 3 (86) [some (.ref 63), some (.int x0), some (.int x1), some (.int x2), some (.int (bif gCmp .ge (v_186_63 x0 m_wi) 0 then (v_186_63 x0 m_wi) else (bif gCmp .ne (v_125 x1 0 ((m_si (Int32.toNatClampNeg x0)) - 1)) 0 then (v_186_63 x0 m_wi) else 0)))] [.int ((Int32.toInt8 x2).toInt32), .int ((40 * x0) + x1), .ref 77] rfl ?_
        have hk := hk
        simp only [c12, cond_true, cond_false] at hk
        first | exact hk | (simp only [c12, cond_true, cond_false]; exact hk)
    revert h; refine gCondR fun g14 h => ?_
    refine hX_g (gIn ((40 * x0) + x1) 160) 87 [some (.ref 63), some (.int x0), some (.int x1), some (.int x2), some (.int (bif gCmp .ge (v_186_63 x0 m_wi) 0 then (v_186_63 x0 m_wi) else (bif gCmp .ne (v_125 x1 0 ((m_si (Int32.toNatClampNeg x0)) - 1)) 0 then (v_186_63 x0 m_wi) else 0)))] [] (hMm c0 m_s m_kp m_as m_ik m_fo m_tl m_tr m_fa m_od m_rc m_be m_ft m_tp m_td m_tk m_bg m_en m_vl m_sg m_wi m_si (upd m_ce (Int32.toNatClampNeg ((40 * x0) + x1)) (bif gCmp .ne (m_wi (Int32.toNatClampNeg x0)) 8 then (bif gCmp .ne (m_wi (Int32.toNatClampNeg x0)) 16 then x2 else ((Int32.toInt16 x2).toInt32)) else ((Int32.toInt8 x2).toInt32))) m_ca) rfl g14 ?_
    refine hX_goM 1 (88) [some (.ref 63), some (.int x0), some (.int x1), some (.int x2), some (.int (bif gCmp .ge (v_186_63 x0 m_wi) 0 then (v_186_63 x0 m_wi) else (bif gCmp .ne (v_125 x1 0 ((m_si (Int32.toNatClampNeg x0)) - 1)) 0 then (v_186_63 x0 m_wi) else 0)))] [.int 1] rfl ?_
    have h := Option.some.inj h; subst h
    exact hX_end rfl rfl rfl
  · skip
    have h := gcF c7 h
    refine hX_goM 2 (39) [some (.ref 63), some (.int x0), some (.int x1), some (.int x2), some (.int (bif gCmp .ge (v_186_63 x0 m_wi) 0 then (v_186_63 x0 m_wi) else (bif gCmp .ne (v_125 x1 0 ((m_si (Int32.toNatClampNeg x0)) - 1)) 0 then (v_186_63 x0 m_wi) else 0)))] [.int (bif gCmp .ge (v_186_63 x0 m_wi) 0 then (v_186_63 x0 m_wi) else (bif gCmp .ne (v_125 x1 0 ((m_si (Int32.toNatClampNeg x0)) - 1)) 0 then (v_186_63 x0 m_wi) else 0)), .ref 63] rfl ?_
    revert h; refine gCondR fun g15 h => ?_
    refine hX_call (r' := zR_124) rfl (ct_124_63 (bif gCmp .ge (v_186_63 x0 m_wi) 0 then (v_186_63 x0 m_wi) else (bif gCmp .ne (v_125 x1 0 ((m_si (Int32.toNatClampNeg x0)) - 1)) 0 then (v_186_63 x0 m_wi) else 0)) g15) ?_
    refine hX_go 0 (42) [some (.ref 63), some (.int x0), some (.int x1), some (.int x2), some (.int (bif gCmp .ge (v_186_63 x0 m_wi) 0 then (v_186_63 x0 m_wi) else (bif gCmp .ne (v_125 x1 0 ((m_si (Int32.toNatClampNeg x0)) - 1)) 0 then (v_186_63 x0 m_wi) else 0)))] [.int (v_124_63 (bif gCmp .ge (v_186_63 x0 m_wi) 0 then (v_186_63 x0 m_wi) else (bif gCmp .ne (v_125 x1 0 ((m_si (Int32.toNatClampNeg x0)) - 1)) 0 then (v_186_63 x0 m_wi) else 0)))] (hMm c0 m_s m_kp m_as m_ik (f_124_63_m_fo (bif gCmp .ge (v_186_63 x0 m_wi) 0 then (v_186_63 x0 m_wi) else (bif gCmp .ne (v_125 x1 0 ((m_si (Int32.toNatClampNeg x0)) - 1)) 0 then (v_186_63 x0 m_wi) else 0)) m_fo) m_tl m_tr m_fa m_od m_rc m_be m_ft m_tp m_td m_tk m_bg m_en m_vl m_sg m_wi m_si m_ce m_ca) rfl ?_
    have h := Option.some.inj h; subst h
    exact hX_end rfl rfl rfl

/-- UpOneSideModel.copy: the loop at 115 -/
def lp_215_63_115 (N : Nat) (y1 : Int32) (y2 : Int32) (y5 : Int32) (m_ce : Nat → Int32) : Nat → Int32 → (Nat → Int32) → Option (Int32 × (Nat → Int32))
  | 0, _, _ => none
  | n + 1, y6, m_ca =>
    (bif gCmp .ge y6 y5 then
      some (y6, m_ca)
    else
      (bif gIn (((40 * y1) + y2) + y6) 160 then (bif gIn y6 40 then lp_215_63_115 N y1 y2 y5 m_ce n (y6 + 1) (upd m_ca (Int32.toNatClampNeg y6) (m_ce (Int32.toNatClampNeg (((40 * y1) + y2) + y6)))) else none) else none))
set_option maxRecDepth 20000 in
set_option maxHeartbeats 4000000 in
theorem lt_215_63_115 {LL : Nat} {xs : Nat → Int32} {D N : Nat} {c0 : Nat → gE} {m_s : Nat → Int32} {m_kp : Nat → Int32} {m_as : Nat → Int32} {m_ik : Int32} {m_fo : Nat → Int32} {m_tl : Int32} {m_tr : Int32} {m_fa : Nat → Int32} {m_od : Nat → Int32} {m_rc : Int32} {m_be : Nat → Int32} {m_ft : Int32} {m_tp : Nat → Int32} {m_td : Int32} {m_tk : Int32} {m_bg : Int32} {m_en : Int32} {m_vl : Int64} {m_sg : Int32} {m_wi : Nat → Int32} {m_si : Nat → Int32} {m_ce : Nat → Int32}  {y1 : Int32} {y2 : Int32} {y3 : Int32} {y4 : Int32} {y5 : Int32} {v : Option Value} {M' : List gE} : ∀ (n : Nat) (y6 : Int32) (m_ca : Nat → Int32) (q : Int32 × (Nat → Int32)), lp_215_63_115 N y1 y2 y5 m_ce n y6 m_ca = some q → (kk : hX (gO LL xs) (D + 2) zR_215 149 [some (.ref 63), some (.int y1), some (.int y2), some (.int y3), some (.int y4), some (.int y5), some (.int q.1)] [] (hMm c0 m_s m_kp m_as m_ik m_fo m_tl m_tr m_fa m_od m_rc m_be m_ft m_tp m_td m_tk m_bg m_en m_vl m_sg m_wi m_si m_ce q.2) v M') → hX (gO LL xs) (D + 2) zR_215 115 [some (.ref 63), some (.int y1), some (.int y2), some (.int y3), some (.int y4), some (.int y5), some (.int y6)] [] (hMm c0 m_s m_kp m_as m_ik m_fo m_tl m_tr m_fa m_od m_rc m_be m_ft m_tp m_td m_tk m_bg m_en m_vl m_sg m_wi m_si m_ce m_ca) v M' := by
  intro n
  induction n with
  | zero => intro y6 m_ca q h; cases h
  | succ n ih =>
    intro y6 m_ca q h kk
    rw [lp_215_63_115] at h
    refine hX_go 3 (bif gCmp .ge y6 y5 then 149 else 122) [some (.ref 63), some (.int y1), some (.int y2), some (.int y3), some (.int y4), some (.int y5), some (.int y6)] [] (hMm c0 m_s m_kp m_as m_ik m_fo m_tl m_tr m_fa m_od m_rc m_be m_ft m_tp m_td m_tk m_bg m_en m_vl m_sg m_wi m_si m_ce m_ca) rfl ?_
    refine hX_if (gCmp .ge y6 y5) (fun c1 => ?_) (fun c1 => ?_)
    · skip
      have h := gcT c1 h
      have h := Option.some.inj h; subst h
      exact kk
    · skip
      have h := gcF c1 h
      refine hX_goM 9 (137) [some (.ref 63), some (.int y1), some (.int y2), some (.int y3), some (.int y4), some (.int y5), some (.int y6)] [.int y2, .int (40 * y1), .ref 77, .int y6, .ref 78] rfl ?_
      refine hX_goM 3 (141) [some (.ref 63), some (.int y1), some (.int y2), some (.int y3), some (.int y4), some (.int y5), some (.int y6)] [.int (((40 * y1) + y2) + y6), .ref 77, .int y6, .ref 78] rfl ?_
      revert h; refine gCondR fun g2 h => ?_
      refine hX_gM (gIn (((40 * y1) + y2) + y6) 160) 142 [some (.ref 63), some (.int y1), some (.int y2), some (.int y3), some (.int y4), some (.int y5), some (.int y6)] [.int (m_ce (Int32.toNatClampNeg (((40 * y1) + y2) + y6))), .int y6, .ref 78] rfl g2 ?_
      revert h; refine gCondR fun g3 h => ?_
      refine hX_g (gIn y6 40) 143 [some (.ref 63), some (.int y1), some (.int y2), some (.int y3), some (.int y4), some (.int y5), some (.int y6)] [] (hMm c0 m_s m_kp m_as m_ik m_fo m_tl m_tr m_fa m_od m_rc m_be m_ft m_tp m_td m_tk m_bg m_en m_vl m_sg m_wi m_si m_ce (upd m_ca (Int32.toNatClampNeg y6) (m_ce (Int32.toNatClampNeg (((40 * y1) + y2) + y6))))) rfl g3 ?_
      refine hX_goM 2 (115) [some (.ref 63), some (.int y1), some (.int y2), some (.int y3), some (.int y4), some (.int y5), some (.int (y6 + 1))] [] rfl ?_
      exact ih (y6 + 1) (upd m_ca (Int32.toNatClampNeg y6) (m_ce (Int32.toNatClampNeg (((40 * y1) + y2) + y6)))) q h kk

/-- UpOneSideModel.copy: the loop at 152 -/
def lp_215_63_152 (N : Nat) (y3 : Int32) (y4 : Int32) (y5 : Int32) (m_ca : Nat → Int32) : Nat → Int32 → (Nat → Int32) → Option (Int32 × (Nat → Int32))
  | 0, _, _ => none
  | n + 1, y6, m_ce =>
    (bif gCmp .ge y6 y5 then
      some (y6, m_ce)
    else
      (bif gIn y6 40 then (bif gIn (((40 * y3) + y4) + y6) 160 then lp_215_63_152 N y3 y4 y5 m_ca n (y6 + 1) (upd m_ce (Int32.toNatClampNeg (((40 * y3) + y4) + y6)) (m_ca (Int32.toNatClampNeg y6))) else none) else none))
set_option maxRecDepth 20000 in
set_option maxHeartbeats 4000000 in
theorem lt_215_63_152 {LL : Nat} {xs : Nat → Int32} {D N : Nat} {c0 : Nat → gE} {m_s : Nat → Int32} {m_kp : Nat → Int32} {m_as : Nat → Int32} {m_ik : Int32} {m_fo : Nat → Int32} {m_tl : Int32} {m_tr : Int32} {m_fa : Nat → Int32} {m_od : Nat → Int32} {m_rc : Int32} {m_be : Nat → Int32} {m_ft : Int32} {m_tp : Nat → Int32} {m_td : Int32} {m_tk : Int32} {m_bg : Int32} {m_en : Int32} {m_vl : Int64} {m_sg : Int32} {m_wi : Nat → Int32} {m_si : Nat → Int32}  {m_ca : Nat → Int32} {y1 : Int32} {y2 : Int32} {y3 : Int32} {y4 : Int32} {y5 : Int32} {v : Option Value} {M' : List gE} : ∀ (n : Nat) (y6 : Int32) (m_ce : Nat → Int32) (q : Int32 × (Nat → Int32)), lp_215_63_152 N y3 y4 y5 m_ca n y6 m_ce = some q → (kk : hX (gO LL xs) (D + 2) zR_215 187 [some (.ref 63), some (.int y1), some (.int y2), some (.int y3), some (.int y4), some (.int y5), some (.int q.1)] [] (hMm c0 m_s m_kp m_as m_ik m_fo m_tl m_tr m_fa m_od m_rc m_be m_ft m_tp m_td m_tk m_bg m_en m_vl m_sg m_wi m_si q.2 m_ca) v M') → hX (gO LL xs) (D + 2) zR_215 152 [some (.ref 63), some (.int y1), some (.int y2), some (.int y3), some (.int y4), some (.int y5), some (.int y6)] [] (hMm c0 m_s m_kp m_as m_ik m_fo m_tl m_tr m_fa m_od m_rc m_be m_ft m_tp m_td m_tk m_bg m_en m_vl m_sg m_wi m_si m_ce m_ca) v M' := by
  intro n
  induction n with
  | zero => intro y6 m_ce q h; cases h
  | succ n ih =>
    intro y6 m_ce q h kk
    rw [lp_215_63_152] at h
    refine hX_go 3 (bif gCmp .ge y6 y5 then 187 else 159) [some (.ref 63), some (.int y1), some (.int y2), some (.int y3), some (.int y4), some (.int y5), some (.int y6)] [] (hMm c0 m_s m_kp m_as m_ik m_fo m_tl m_tr m_fa m_od m_rc m_be m_ft m_tp m_td m_tk m_bg m_en m_vl m_sg m_wi m_si m_ce m_ca) rfl ?_
    refine hX_if (gCmp .ge y6 y5) (fun c1 => ?_) (fun c1 => ?_)
    · skip
      have h := gcT c1 h
      have h := Option.some.inj h; subst h
      exact kk
    · skip
      have h := gcF c1 h
      refine hX_goM 9 (173) [some (.ref 63), some (.int y1), some (.int y2), some (.int y3), some (.int y4), some (.int y5), some (.int y6)] [.int (((40 * y3) + y4) + y6), .ref 77] rfl ?_
      refine hX_goM 3 (179) [some (.ref 63), some (.int y1), some (.int y2), some (.int y3), some (.int y4), some (.int y5), some (.int y6)] [.int y6, .ref 78, .int (((40 * y3) + y4) + y6), .ref 77] rfl ?_
      revert h; refine gCondR fun g2 h => ?_
      refine hX_gM (gIn y6 40) 180 [some (.ref 63), some (.int y1), some (.int y2), some (.int y3), some (.int y4), some (.int y5), some (.int y6)] [.int (m_ca (Int32.toNatClampNeg y6)), .int (((40 * y3) + y4) + y6), .ref 77] rfl g2 ?_
      revert h; refine gCondR fun g3 h => ?_
      refine hX_g (gIn (((40 * y3) + y4) + y6) 160) 181 [some (.ref 63), some (.int y1), some (.int y2), some (.int y3), some (.int y4), some (.int y5), some (.int y6)] [] (hMm c0 m_s m_kp m_as m_ik m_fo m_tl m_tr m_fa m_od m_rc m_be m_ft m_tp m_td m_tk m_bg m_en m_vl m_sg m_wi m_si (upd m_ce (Int32.toNatClampNeg (((40 * y3) + y4) + y6)) (m_ca (Int32.toNatClampNeg y6))) m_ca) rfl g3 ?_
      refine hX_goM 2 (152) [some (.ref 63), some (.int y1), some (.int y2), some (.int y3), some (.int y4), some (.int y5), some (.int (y6 + 1))] [] rfl ?_
      exact ih (y6 + 1) (upd m_ce (Int32.toNatClampNeg (((40 * y3) + y4) + y6)) (m_ca (Int32.toNatClampNeg y6))) q h kk

/-- UpOneSideModel.copy(IIIII)I -/
def me_215_63 (N : Nat) (x0 : Int32) (x1 : Int32) (x2 : Int32) (x3 : Int32) (x4 : Int32) (m_fo : Nat → Int32) (m_wi : Nat → Int32) (m_si : Nat → Int32) (m_ce : Nat → Int32) (m_ca : Nat → Int32) : Option (Int32 × (Nat → Int32) × (Nat → Int32) × (Nat → Int32)) :=
  (bif gCmp .eq (v_185 x0) 0 then
    some (v_124_63 0, f_124_63_m_fo 0 m_fo, m_ce, m_ca)
  else
    (bif gCmp .ne (v_185 x2) 0 then
      (bif gIn x0 4 then (bif gCmp .eq (m_wi (Int32.toNatClampNeg x0)) 0 then
        some (v_124_63 5, f_124_63_m_fo 5 m_fo, m_ce, m_ca)
      else
        (bif gIn x2 4 then (bif gCmp .ne (m_wi (Int32.toNatClampNeg x2)) 0 then
          (bif gIn x0 4 then (bif gIn x2 4 then (bif gCmp .eq (m_wi (Int32.toNatClampNeg x0)) (m_wi (Int32.toNatClampNeg x2)) then
            (bif gCmp .lt x4 0 then
              some (v_124_63 0, f_124_63_m_fo 0 m_fo, m_ce, m_ca)
            else
              (bif gCmp .lt x1 0 then
                some (v_124_63 0, f_124_63_m_fo 0 m_fo, m_ce, m_ca)
              else
                (bif gCmp .lt x3 0 then
                  some (v_124_63 0, f_124_63_m_fo 0 m_fo, m_ce, m_ca)
                else
                  (bif gIn x0 4 then (bif gCmp .gt x1 ((m_si (Int32.toNatClampNeg x0)) - x4) then
                    some (v_124_63 0, f_124_63_m_fo 0 m_fo, m_ce, m_ca)
                  else
                    (bif gIn x2 4 then (bif gCmp .le x3 ((m_si (Int32.toNatClampNeg x2)) - x4) then
                      (Option.bind (lp_215_63_115 N x0 x1 x4 m_ce N 0 m_ca) fun q17 =>
                      (Option.bind (lp_215_63_152 N x2 x3 x4 q17.2 N 0 m_ce) fun q18 =>
                      some (x4, m_fo, q18.2, q17.2)))
                    else
                      some (v_124_63 0, f_124_63_m_fo 0 m_fo, m_ce, m_ca)) else none)) else none))))
          else
            some (v_124_63 2, f_124_63_m_fo 2 m_fo, m_ce, m_ca)) else none) else none)
        else
          some (v_124_63 5, f_124_63_m_fo 5 m_fo, m_ce, m_ca)) else none)) else none)
    else
      some (v_124_63 0, f_124_63_m_fo 0 m_fo, m_ce, m_ca)))
set_option maxRecDepth 20000 in
set_option maxHeartbeats 4000000 in
theorem mt_215_63 {LL : Nat} {xs : Nat → Int32} {D : Nat} {c0 : Nat → gE} {m_s : Nat → Int32} {m_kp : Nat → Int32} {m_as : Nat → Int32} {m_ik : Int32} {m_fo : Nat → Int32} {m_tl : Int32} {m_tr : Int32} {m_fa : Nat → Int32} {m_od : Nat → Int32} {m_rc : Int32} {m_be : Nat → Int32} {m_ft : Int32} {m_tp : Nat → Int32} {m_td : Int32} {m_tk : Int32} {m_bg : Int32} {m_en : Int32} {m_vl : Int64} {m_sg : Int32} {m_wi : Nat → Int32} {m_si : Nat → Int32} {m_ce : Nat → Int32} {m_ca : Nat → Int32} (N : Nat) (x0 : Int32) (x1 : Int32) (x2 : Int32) (x3 : Int32) (x4 : Int32) (q : Int32 × (Nat → Int32) × (Nat → Int32) × (Nat → Int32)) (h : me_215_63 N x0 x1 x2 x3 x4 m_fo m_wi m_si m_ce m_ca = some q) : hM (gO LL xs) (D + 2) zR_215 [.ref 63, .int x0, .int x1, .int x2, .int x3, .int x4] (hMm c0 m_s m_kp m_as m_ik m_fo m_tl m_tr m_fa m_od m_rc m_be m_ft m_tp m_td m_tk m_bg m_en m_vl m_sg m_wi m_si m_ce m_ca) (some (.int q.1)) (hMm c0 m_s m_kp m_as m_ik q.2.1 m_tl m_tr m_fa m_od m_rc m_be m_ft m_tp m_td m_tk m_bg m_en m_vl m_sg m_wi m_si q.2.2.1 q.2.2.2) := by
  unfold me_215_63 at h
  refine hX_go 0 0 [some (.ref 63), some (.int x0), some (.int x1), some (.int x2), some (.int x3), some (.int x4), none] [] (hMm c0 m_s m_kp m_as m_ik m_fo m_tl m_tr m_fa m_od m_rc m_be m_ft m_tp m_td m_tk m_bg m_en m_vl m_sg m_wi m_si m_ce m_ca) rfl ?_
  refine hX_go 1 (1) [some (.ref 63), some (.int x0), some (.int x1), some (.int x2), some (.int x3), some (.int x4), none] [.int x0] (hMm c0 m_s m_kp m_as m_ik m_fo m_tl m_tr m_fa m_od m_rc m_be m_ft m_tp m_td m_tk m_bg m_en m_vl m_sg m_wi m_si m_ce m_ca) rfl ?_
  refine hX_call (r' := zR_185) rfl (ct_185 x0) ?_
  refine hX_goM 1 (bif gCmp .eq (v_185 x0) 0 then 14 else 7) [some (.ref 63), some (.int x0), some (.int x1), some (.int x2), some (.int x3), some (.int x4), none] [] rfl ?_
  refine hX_if (gCmp .eq (v_185 x0) 0) (fun c1 => ?_) (fun c1 => ?_)
  · skip
    have h := gcT c1 h
    refine hX_goM 2 (16) [some (.ref 63), some (.int x0), some (.int x1), some (.int x2), some (.int x3), some (.int x4), none] [.int 0, .ref 63] rfl ?_
    refine hX_call (r' := zR_124) rfl (ct_124_63 0 rfl) ?_
    refine hX_go 0 (19) [some (.ref 63), some (.int x0), some (.int x1), some (.int x2), some (.int x3), some (.int x4), none] [.int (v_124_63 0)] (hMm c0 m_s m_kp m_as m_ik (f_124_63_m_fo 0 m_fo) m_tl m_tr m_fa m_od m_rc m_be m_ft m_tp m_td m_tk m_bg m_en m_vl m_sg m_wi m_si m_ce m_ca) rfl ?_
    have h := Option.some.inj h; subst h
    exact hX_end rfl rfl rfl
  · skip
    have h := gcF c1 h
    refine hX_goM 1 (8) [some (.ref 63), some (.int x0), some (.int x1), some (.int x2), some (.int x3), some (.int x4), none] [.int x2] rfl ?_
    refine hX_call (r' := zR_185) rfl (ct_185 x2) ?_
    refine hX_goM 1 (bif gCmp .ne (v_185 x2) 0 then 20 else 14) [some (.ref 63), some (.int x0), some (.int x1), some (.int x2), some (.int x3), some (.int x4), none] [] rfl ?_
    refine hX_if (gCmp .ne (v_185 x2) 0) (fun c2 => ?_) (fun c2 => ?_)
    · skip
      have h := gcT c2 h
      refine hX_goM 3 (25) [some (.ref 63), some (.int x0), some (.int x1), some (.int x2), some (.int x3), some (.int x4), none] [.int x0, .ref 75] rfl ?_
      revert h; refine gCondR fun g3 h => ?_
      refine hX_gM (gIn x0 4) 26 [some (.ref 63), some (.int x0), some (.int x1), some (.int x2), some (.int x3), some (.int x4), none] [.int (m_wi (Int32.toNatClampNeg x0))] rfl g3 ?_
      refine hX_goM 1 (bif gCmp .eq (m_wi (Int32.toNatClampNeg x0)) 0 then 38 else 29) [some (.ref 63), some (.int x0), some (.int x1), some (.int x2), some (.int x3), some (.int x4), none] [] rfl ?_
      refine hX_if (gCmp .eq (m_wi (Int32.toNatClampNeg x0)) 0) (fun c4 => ?_) (fun c4 => ?_)
      · skip
        have h := gcT c4 h
        refine hX_goM 2 (40) [some (.ref 63), some (.int x0), some (.int x1), some (.int x2), some (.int x3), some (.int x4), none] [.int 5, .ref 63] rfl ?_
        refine hX_call (r' := zR_124) rfl (ct_124_63 5 rfl) ?_
        refine hX_go 0 (43) [some (.ref 63), some (.int x0), some (.int x1), some (.int x2), some (.int x3), some (.int x4), none] [.int (v_124_63 5)] (hMm c0 m_s m_kp m_as m_ik (f_124_63_m_fo 5 m_fo) m_tl m_tr m_fa m_od m_rc m_be m_ft m_tp m_td m_tk m_bg m_en m_vl m_sg m_wi m_si m_ce m_ca) rfl ?_
        have h := Option.some.inj h; subst h
        exact hX_end rfl rfl rfl
      · skip
        have h := gcF c4 h
        refine hX_goM 3 (34) [some (.ref 63), some (.int x0), some (.int x1), some (.int x2), some (.int x3), some (.int x4), none] [.int x2, .ref 75] rfl ?_
        revert h; refine gCondR fun g5 h => ?_
        refine hX_gM (gIn x2 4) 35 [some (.ref 63), some (.int x0), some (.int x1), some (.int x2), some (.int x3), some (.int x4), none] [.int (m_wi (Int32.toNatClampNeg x2))] rfl g5 ?_
        refine hX_goM 1 (bif gCmp .ne (m_wi (Int32.toNatClampNeg x2)) 0 then 44 else 38) [some (.ref 63), some (.int x0), some (.int x1), some (.int x2), some (.int x3), some (.int x4), none] [] rfl ?_
        refine hX_if (gCmp .ne (m_wi (Int32.toNatClampNeg x2)) 0) (fun c6 => ?_) (fun c6 => ?_)
        · skip
          have h := gcT c6 h
          refine hX_goM 3 (49) [some (.ref 63), some (.int x0), some (.int x1), some (.int x2), some (.int x3), some (.int x4), none] [.int x0, .ref 75] rfl ?_
          revert h; refine gCondR fun g7 h => ?_
          refine hX_gM (gIn x0 4) 50 [some (.ref 63), some (.int x0), some (.int x1), some (.int x2), some (.int x3), some (.int x4), none] [.int (m_wi (Int32.toNatClampNeg x0))] rfl g7 ?_
          refine hX_goM 3 (55) [some (.ref 63), some (.int x0), some (.int x1), some (.int x2), some (.int x3), some (.int x4), none] [.int x2, .ref 75, .int (m_wi (Int32.toNatClampNeg x0))] rfl ?_
          revert h; refine gCondR fun g8 h => ?_
          refine hX_gM (gIn x2 4) 56 [some (.ref 63), some (.int x0), some (.int x1), some (.int x2), some (.int x3), some (.int x4), none] [.int (m_wi (Int32.toNatClampNeg x2)), .int (m_wi (Int32.toNatClampNeg x0))] rfl g8 ?_
          refine hX_goM 1 (bif gCmp .eq (m_wi (Int32.toNatClampNeg x0)) (m_wi (Int32.toNatClampNeg x2)) then 65 else 59) [some (.ref 63), some (.int x0), some (.int x1), some (.int x2), some (.int x3), some (.int x4), none] [] rfl ?_
          refine hX_if (gCmp .eq (m_wi (Int32.toNatClampNeg x0)) (m_wi (Int32.toNatClampNeg x2))) (fun c9 => ?_) (fun c9 => ?_)
          · skip
            have h := gcT c9 h
            refine hX_goM 2 (bif gCmp .lt x4 0 then 106 else 70) [some (.ref 63), some (.int x0), some (.int x1), some (.int x2), some (.int x3), some (.int x4), none] [] rfl ?_
            refine hX_if (gCmp .lt x4 0) (fun c10 => ?_) (fun c10 => ?_)
            · skip
              have h := gcT c10 h
              refine hX_goM 2 (108) [some (.ref 63), some (.int x0), some (.int x1), some (.int x2), some (.int x3), some (.int x4), none] [.int 0, .ref 63] rfl ?_
              refine hX_call (r' := zR_124) rfl (ct_124_63 0 rfl) ?_
              refine hX_go 0 (111) [some (.ref 63), some (.int x0), some (.int x1), some (.int x2), some (.int x3), some (.int x4), none] [.int (v_124_63 0)] (hMm c0 m_s m_kp m_as m_ik (f_124_63_m_fo 0 m_fo) m_tl m_tr m_fa m_od m_rc m_be m_ft m_tp m_td m_tk m_bg m_en m_vl m_sg m_wi m_si m_ce m_ca) rfl ?_
              have h := Option.some.inj h; subst h
              exact hX_end rfl rfl rfl
            · skip
              have h := gcF c10 h
              refine hX_goM 2 (bif gCmp .lt x1 0 then 106 else 74) [some (.ref 63), some (.int x0), some (.int x1), some (.int x2), some (.int x3), some (.int x4), none] [] rfl ?_
              refine hX_if (gCmp .lt x1 0) (fun c11 => ?_) (fun c11 => ?_)
              · skip
                have h := gcT c11 h
                refine hX_goM 2 (108) [some (.ref 63), some (.int x0), some (.int x1), some (.int x2), some (.int x3), some (.int x4), none] [.int 0, .ref 63] rfl ?_
                refine hX_call (r' := zR_124) rfl (ct_124_63 0 rfl) ?_
                refine hX_go 0 (111) [some (.ref 63), some (.int x0), some (.int x1), some (.int x2), some (.int x3), some (.int x4), none] [.int (v_124_63 0)] (hMm c0 m_s m_kp m_as m_ik (f_124_63_m_fo 0 m_fo) m_tl m_tr m_fa m_od m_rc m_be m_ft m_tp m_td m_tk m_bg m_en m_vl m_sg m_wi m_si m_ce m_ca) rfl ?_
                have h := Option.some.inj h; subst h
                exact hX_end rfl rfl rfl
              · skip
                have h := gcF c11 h
                refine hX_goM 2 (bif gCmp .lt x3 0 then 106 else 79) [some (.ref 63), some (.int x0), some (.int x1), some (.int x2), some (.int x3), some (.int x4), none] [] rfl ?_
                refine hX_if (gCmp .lt x3 0) (fun c12 => ?_) (fun c12 => ?_)
                · skip
                  have h := gcT c12 h
                  refine hX_goM 2 (108) [some (.ref 63), some (.int x0), some (.int x1), some (.int x2), some (.int x3), some (.int x4), none] [.int 0, .ref 63] rfl ?_
                  refine hX_call (r' := zR_124) rfl (ct_124_63 0 rfl) ?_
                  refine hX_go 0 (111) [some (.ref 63), some (.int x0), some (.int x1), some (.int x2), some (.int x3), some (.int x4), none] [.int (v_124_63 0)] (hMm c0 m_s m_kp m_as m_ik (f_124_63_m_fo 0 m_fo) m_tl m_tr m_fa m_od m_rc m_be m_ft m_tp m_td m_tk m_bg m_en m_vl m_sg m_wi m_si m_ce m_ca) rfl ?_
                  have h := Option.some.inj h; subst h
                  exact hX_end rfl rfl rfl
                · skip
                  have h := gcF c12 h
                  refine hX_goM 4 (85) [some (.ref 63), some (.int x0), some (.int x1), some (.int x2), some (.int x3), some (.int x4), none] [.int x0, .ref 76, .int x1] rfl ?_
                  revert h; refine gCondR fun g13 h => ?_
                  refine hX_gM (gIn x0 4) 86 [some (.ref 63), some (.int x0), some (.int x1), some (.int x2), some (.int x3), some (.int x4), none] [.int (m_si (Int32.toNatClampNeg x0)), .int x1] rfl g13 ?_
                  refine hX_goM 3 (bif gCmp .gt x1 ((m_si (Int32.toNatClampNeg x0)) - x4) then 106 else 92) [some (.ref 63), some (.int x0), some (.int x1), some (.int x2), some (.int x3), some (.int x4), none] [] rfl ?_
                  refine hX_if (gCmp .gt x1 ((m_si (Int32.toNatClampNeg x0)) - x4)) (fun c14 => ?_) (fun c14 => ?_)
                  · skip
                    have h := gcT c14 h
                    refine hX_goM 2 (108) [some (.ref 63), some (.int x0), some (.int x1), some (.int x2), some (.int x3), some (.int x4), none] [.int 0, .ref 63] rfl ?_
                    refine hX_call (r' := zR_124) rfl (ct_124_63 0 rfl) ?_
                    refine hX_go 0 (111) [some (.ref 63), some (.int x0), some (.int x1), some (.int x2), some (.int x3), some (.int x4), none] [.int (v_124_63 0)] (hMm c0 m_s m_kp m_as m_ik (f_124_63_m_fo 0 m_fo) m_tl m_tr m_fa m_od m_rc m_be m_ft m_tp m_td m_tk m_bg m_en m_vl m_sg m_wi m_si m_ce m_ca) rfl ?_
                    have h := Option.some.inj h; subst h
                    exact hX_end rfl rfl rfl
                  · skip
                    have h := gcF c14 h
                    refine hX_goM 4 (99) [some (.ref 63), some (.int x0), some (.int x1), some (.int x2), some (.int x3), some (.int x4), none] [.int x2, .ref 76, .int x3] rfl ?_
                    revert h; refine gCondR fun g15 h => ?_
                    refine hX_gM (gIn x2 4) 100 [some (.ref 63), some (.int x0), some (.int x1), some (.int x2), some (.int x3), some (.int x4), none] [.int (m_si (Int32.toNatClampNeg x2)), .int x3] rfl g15 ?_
                    refine hX_goM 3 (bif gCmp .le x3 ((m_si (Int32.toNatClampNeg x2)) - x4) then 112 else 106) [some (.ref 63), some (.int x0), some (.int x1), some (.int x2), some (.int x3), some (.int x4), none] [] rfl ?_
                    refine hX_if (gCmp .le x3 ((m_si (Int32.toNatClampNeg x2)) - x4)) (fun c16 => ?_) (fun c16 => ?_)
                    · skip
                      have h := gcT c16 h
                      refine hX_goM 2 (115) [some (.ref 63), some (.int x0), some (.int x1), some (.int x2), some (.int x3), some (.int x4), some (.int 0)] [] rfl ?_
                      revert h; refine gBindR fun q17 e17 h => ?_
                      refine lt_215_63_115 N 0 m_ca q17 e17 ?_
                      refine hX_go 2 (152) [some (.ref 63), some (.int x0), some (.int x1), some (.int x2), some (.int x3), some (.int x4), some (.int 0)] [] (hMm c0 m_s m_kp m_as m_ik m_fo m_tl m_tr m_fa m_od m_rc m_be m_ft m_tp m_td m_tk m_bg m_en m_vl m_sg m_wi m_si m_ce q17.2) rfl ?_
                      revert h; refine gBindR fun q18 e18 h => ?_
                      refine lt_215_63_152 N 0 m_ce q18 e18 ?_
                      refine hX_go 1 (189) [some (.ref 63), some (.int x0), some (.int x1), some (.int x2), some (.int x3), some (.int x4), some (.int q18.1)] [.int x4] (hMm c0 m_s m_kp m_as m_ik m_fo m_tl m_tr m_fa m_od m_rc m_be m_ft m_tp m_td m_tk m_bg m_en m_vl m_sg m_wi m_si q18.2 q17.2) rfl ?_
                      have h := Option.some.inj h; subst h
                      exact hX_end rfl rfl rfl
                    · skip
                      have h := gcF c16 h
                      refine hX_goM 2 (108) [some (.ref 63), some (.int x0), some (.int x1), some (.int x2), some (.int x3), some (.int x4), none] [.int 0, .ref 63] rfl ?_
                      refine hX_call (r' := zR_124) rfl (ct_124_63 0 rfl) ?_
                      refine hX_go 0 (111) [some (.ref 63), some (.int x0), some (.int x1), some (.int x2), some (.int x3), some (.int x4), none] [.int (v_124_63 0)] (hMm c0 m_s m_kp m_as m_ik (f_124_63_m_fo 0 m_fo) m_tl m_tr m_fa m_od m_rc m_be m_ft m_tp m_td m_tk m_bg m_en m_vl m_sg m_wi m_si m_ce m_ca) rfl ?_
                      have h := Option.some.inj h; subst h
                      exact hX_end rfl rfl rfl
          · skip
            have h := gcF c9 h
            refine hX_goM 2 (61) [some (.ref 63), some (.int x0), some (.int x1), some (.int x2), some (.int x3), some (.int x4), none] [.int 2, .ref 63] rfl ?_
            refine hX_call (r' := zR_124) rfl (ct_124_63 2 rfl) ?_
            refine hX_go 0 (64) [some (.ref 63), some (.int x0), some (.int x1), some (.int x2), some (.int x3), some (.int x4), none] [.int (v_124_63 2)] (hMm c0 m_s m_kp m_as m_ik (f_124_63_m_fo 2 m_fo) m_tl m_tr m_fa m_od m_rc m_be m_ft m_tp m_td m_tk m_bg m_en m_vl m_sg m_wi m_si m_ce m_ca) rfl ?_
            have h := Option.some.inj h; subst h
            exact hX_end rfl rfl rfl
        · skip
          have h := gcF c6 h
          refine hX_goM 2 (40) [some (.ref 63), some (.int x0), some (.int x1), some (.int x2), some (.int x3), some (.int x4), none] [.int 5, .ref 63] rfl ?_
          refine hX_call (r' := zR_124) rfl (ct_124_63 5 rfl) ?_
          refine hX_go 0 (43) [some (.ref 63), some (.int x0), some (.int x1), some (.int x2), some (.int x3), some (.int x4), none] [.int (v_124_63 5)] (hMm c0 m_s m_kp m_as m_ik (f_124_63_m_fo 5 m_fo) m_tl m_tr m_fa m_od m_rc m_be m_ft m_tp m_td m_tk m_bg m_en m_vl m_sg m_wi m_si m_ce m_ca) rfl ?_
          have h := Option.some.inj h; subst h
          exact hX_end rfl rfl rfl
    · skip
      have h := gcF c2 h
      refine hX_goM 2 (16) [some (.ref 63), some (.int x0), some (.int x1), some (.int x2), some (.int x3), some (.int x4), none] [.int 0, .ref 63] rfl ?_
      refine hX_call (r' := zR_124) rfl (ct_124_63 0 rfl) ?_
      refine hX_go 0 (19) [some (.ref 63), some (.int x0), some (.int x1), some (.int x2), some (.int x3), some (.int x4), none] [.int (v_124_63 0)] (hMm c0 m_s m_kp m_as m_ik (f_124_63_m_fo 0 m_fo) m_tl m_tr m_fa m_od m_rc m_be m_ft m_tp m_td m_tk m_bg m_en m_vl m_sg m_wi m_si m_ce m_ca) rfl ?_
      have h := Option.some.inj h; subst h
      exact hX_end rfl rfl rfl

/-- UpOneSideModel.load: the loop at 18 -/
def lp_216_63_18 (N : Nat) (y1 : Int32) (m_si : Nat → Int32) (m_ce : Nat → Int32) : Nat → Int32 → (Nat → Int32) → Option (Int32 × (Nat → Int32))
  | 0, _, _ => none
  | n + 1, y3, m_s =>
    (bif gIn y1 4 then (bif gCmp .ge y3 (m_si (Int32.toNatClampNeg y1)) then
      some (y3, m_s)
    else
      (bif gCmp .eq (v_173 y3) 0 then
        some (y3, m_s)
      else
        (bif gIn ((40 * y1) + y3) 160 then (bif gCmp .eq (v_130 (m_ce (Int32.toNatClampNeg ((40 * y1) + y3)))) 0 then
          some (y3, m_s)
        else
          (bif gIn ((40 * y1) + y3) 160 then (bif gIn (100 + y3) 134 then lp_216_63_18 N y1 m_si m_ce n (y3 + 1) (upd m_s (Int32.toNatClampNeg (100 + y3)) (m_ce (Int32.toNatClampNeg ((40 * y1) + y3)))) else none) else none)) else none))) else none)
set_option maxRecDepth 20000 in
set_option maxHeartbeats 4000000 in
theorem lt_216_63_18 {LL : Nat} {xs : Nat → Int32} {D N : Nat} {c0 : Nat → gE}  {m_kp : Nat → Int32} {m_as : Nat → Int32} {m_ik : Int32} {m_fo : Nat → Int32} {m_tl : Int32} {m_tr : Int32} {m_fa : Nat → Int32} {m_od : Nat → Int32} {m_rc : Int32} {m_be : Nat → Int32} {m_ft : Int32} {m_tp : Nat → Int32} {m_td : Int32} {m_tk : Int32} {m_bg : Int32} {m_en : Int32} {m_vl : Int64} {m_sg : Int32} {m_wi : Nat → Int32} {m_si : Nat → Int32} {m_ce : Nat → Int32} {m_ca : Nat → Int32} {y1 : Int32} {y2 : Int32} {v : Option Value} {M' : List gE} : ∀ (n : Nat) (y3 : Int32) (m_s : Nat → Int32) (q : Int32 × (Nat → Int32)), lp_216_63_18 N y1 m_si m_ce n y3 m_s = some q → (kk : hX (gO LL xs) (D + 3) zR_216 78 [some (.ref 63), some (.int y1), some (.int y2), some (.int q.1)] [] (hMm c0 q.2 m_kp m_as m_ik m_fo m_tl m_tr m_fa m_od m_rc m_be m_ft m_tp m_td m_tk m_bg m_en m_vl m_sg m_wi m_si m_ce m_ca) v M') → hX (gO LL xs) (D + 3) zR_216 18 [some (.ref 63), some (.int y1), some (.int y2), some (.int y3)] [] (hMm c0 m_s m_kp m_as m_ik m_fo m_tl m_tr m_fa m_od m_rc m_be m_ft m_tp m_td m_tk m_bg m_en m_vl m_sg m_wi m_si m_ce m_ca) v M' := by
  intro n
  induction n with
  | zero => intro y3 m_s q h; cases h
  | succ n ih =>
    intro y3 m_s q h kk
    rw [lp_216_63_18] at h
    refine hX_go 4 (24) [some (.ref 63), some (.int y1), some (.int y2), some (.int y3)] [.int y1, .ref 76, .int y3] (hMm c0 m_s m_kp m_as m_ik m_fo m_tl m_tr m_fa m_od m_rc m_be m_ft m_tp m_td m_tk m_bg m_en m_vl m_sg m_wi m_si m_ce m_ca) rfl ?_
    revert h; refine gCondR fun g1 h => ?_
    refine hX_gM (gIn y1 4) 25 [some (.ref 63), some (.int y1), some (.int y2), some (.int y3)] [.int (m_si (Int32.toNatClampNeg y1)), .int y3] rfl g1 ?_
    refine hX_goM 1 (bif gCmp .ge y3 (m_si (Int32.toNatClampNeg y1)) then 78 else 28) [some (.ref 63), some (.int y1), some (.int y2), some (.int y3)] [] rfl ?_
    refine hX_if (gCmp .ge y3 (m_si (Int32.toNatClampNeg y1))) (fun c2 => ?_) (fun c2 => ?_)
    · skip
      have h := gcT c2 h
      have h := Option.some.inj h; subst h
      exact kk
    · skip
      have h := gcF c2 h
      refine hX_goM 1 (29) [some (.ref 63), some (.int y1), some (.int y2), some (.int y3)] [.int y3] rfl ?_
      refine hX_call (r' := zR_173) rfl (ct_173 y3) ?_
      refine hX_goM 1 (bif gCmp .eq (v_173 y3) 0 then 78 else 35) [some (.ref 63), some (.int y1), some (.int y2), some (.int y3)] [] rfl ?_
      refine hX_if (gCmp .eq (v_173 y3) 0) (fun c3 => ?_) (fun c3 => ?_)
      · skip
        have h := gcT c3 h
        have h := Option.some.inj h; subst h
        exact kk
      · skip
        have h := gcF c3 h
        refine hX_goM 7 (45) [some (.ref 63), some (.int y1), some (.int y2), some (.int y3)] [.int ((40 * y1) + y3), .ref 77] rfl ?_
        revert h; refine gCondR fun g4 h => ?_
        refine hX_gM (gIn ((40 * y1) + y3) 160) 46 [some (.ref 63), some (.int y1), some (.int y2), some (.int y3)] [.int (m_ce (Int32.toNatClampNeg ((40 * y1) + y3)))] rfl g4 ?_
        refine hX_call (r' := zR_130) rfl (ct_130 (m_ce (Int32.toNatClampNeg ((40 * y1) + y3)))) ?_
        refine hX_goM 1 (bif gCmp .eq (v_130 (m_ce (Int32.toNatClampNeg ((40 * y1) + y3)))) 0 then 78 else 52) [some (.ref 63), some (.int y1), some (.int y2), some (.int y3)] [] rfl ?_
        refine hX_if (gCmp .eq (v_130 (m_ce (Int32.toNatClampNeg ((40 * y1) + y3)))) 0) (fun c5 => ?_) (fun c5 => ?_)
        · skip
          have h := gcT c5 h
          have h := Option.some.inj h; subst h
          exact kk
        · skip
          have h := gcF c5 h
          refine hX_goM 9 (67) [some (.ref 63), some (.int y1), some (.int y2), some (.int y3)] [.int y1, .int 40, .ref 77, .int (100 + y3), .ref 64] rfl ?_
          refine hX_goM 3 (70) [some (.ref 63), some (.int y1), some (.int y2), some (.int y3)] [.int ((40 * y1) + y3), .ref 77, .int (100 + y3), .ref 64] rfl ?_
          revert h; refine gCondR fun g6 h => ?_
          refine hX_gM (gIn ((40 * y1) + y3) 160) 71 [some (.ref 63), some (.int y1), some (.int y2), some (.int y3)] [.int (m_ce (Int32.toNatClampNeg ((40 * y1) + y3))), .int (100 + y3), .ref 64] rfl g6 ?_
          revert h; refine gCondR fun g7 h => ?_
          refine hX_g (gIn (100 + y3) 134) 72 [some (.ref 63), some (.int y1), some (.int y2), some (.int y3)] [] (hMm c0 (upd m_s (Int32.toNatClampNeg (100 + y3)) (m_ce (Int32.toNatClampNeg ((40 * y1) + y3)))) m_kp m_as m_ik m_fo m_tl m_tr m_fa m_od m_rc m_be m_ft m_tp m_td m_tk m_bg m_en m_vl m_sg m_wi m_si m_ce m_ca) rfl g7 ?_
          refine hX_goM 2 (18) [some (.ref 63), some (.int y1), some (.int y2), some (.int (y3 + 1))] [] rfl ?_
          exact ih (y3 + 1) (upd m_s (Int32.toNatClampNeg (100 + y3)) (m_ce (Int32.toNatClampNeg ((40 * y1) + y3)))) q h kk

/-- UpOneSideModel.load(I)I -/
def me_216_63 (N : Nat) (x0 : Int32) (m_s : Nat → Int32) (m_fo : Nat → Int32) (m_wi : Nat → Int32) (m_si : Nat → Int32) (m_ce : Nat → Int32) : Option (Int32 × (Nat → Int32) × (Nat → Int32)) :=
  (bif (!(gCmp .ne (v_185 x0) 0) || (gIn x0 4)) then (bif gCmp .lt (v_186_63 x0 m_wi) 0 then
    (Option.bind (lp_216_63_18 N x0 m_si m_ce N 0 m_s) fun q3 =>
    some (q3.1, q3.2, m_fo))
  else
    (bif gIn (v_186_63 x0 m_wi) 7 then some (v_124_63 (v_186_63 x0 m_wi), m_s, f_124_63_m_fo (v_186_63 x0 m_wi) m_fo) else none)) else none)
set_option maxRecDepth 20000 in
set_option maxHeartbeats 4000000 in
theorem mt_216_63 {LL : Nat} {xs : Nat → Int32} {D : Nat} {c0 : Nat → gE} {m_s : Nat → Int32} {m_kp : Nat → Int32} {m_as : Nat → Int32} {m_ik : Int32} {m_fo : Nat → Int32} {m_tl : Int32} {m_tr : Int32} {m_fa : Nat → Int32} {m_od : Nat → Int32} {m_rc : Int32} {m_be : Nat → Int32} {m_ft : Int32} {m_tp : Nat → Int32} {m_td : Int32} {m_tk : Int32} {m_bg : Int32} {m_en : Int32} {m_vl : Int64} {m_sg : Int32} {m_wi : Nat → Int32} {m_si : Nat → Int32} {m_ce : Nat → Int32} {m_ca : Nat → Int32} (N : Nat) (x0 : Int32) (q : Int32 × (Nat → Int32) × (Nat → Int32)) (h : me_216_63 N x0 m_s m_fo m_wi m_si m_ce = some q) : hM (gO LL xs) (D + 3) zR_216 [.ref 63, .int x0] (hMm c0 m_s m_kp m_as m_ik m_fo m_tl m_tr m_fa m_od m_rc m_be m_ft m_tp m_td m_tk m_bg m_en m_vl m_sg m_wi m_si m_ce m_ca) (some (.int q.1)) (hMm c0 q.2.1 m_kp m_as m_ik q.2.2 m_tl m_tr m_fa m_od m_rc m_be m_ft m_tp m_td m_tk m_bg m_en m_vl m_sg m_wi m_si m_ce m_ca) := by
  unfold me_216_63 at h
  refine hX_go 0 0 [some (.ref 63), some (.int x0), none, none] [] (hMm c0 m_s m_kp m_as m_ik m_fo m_tl m_tr m_fa m_od m_rc m_be m_ft m_tp m_td m_tk m_bg m_en m_vl m_sg m_wi m_si m_ce m_ca) rfl ?_
  refine hX_go 2 (2) [some (.ref 63), some (.int x0), none, none] [.int x0, .ref 63] (hMm c0 m_s m_kp m_as m_ik m_fo m_tl m_tr m_fa m_od m_rc m_be m_ft m_tp m_td m_tk m_bg m_en m_vl m_sg m_wi m_si m_ce m_ca) rfl ?_
  revert h; refine gCondR fun g1 h => ?_
  refine hX_call (r' := zR_186) rfl (ct_186_63 x0 (fun u0 => (gImpT g1 u0))) ?_
  refine hX_goM 3 (bif gCmp .lt (v_186_63 x0 m_wi) 0 then 16 else 10) [some (.ref 63), some (.int x0), some (.int (v_186_63 x0 m_wi)), none] [] rfl ?_
  refine hX_if (gCmp .lt (v_186_63 x0 m_wi) 0) (fun c2 => ?_) (fun c2 => ?_)
  · skip
    have h := gcT c2 h
    refine hX_goM 2 (18) [some (.ref 63), some (.int x0), some (.int (v_186_63 x0 m_wi)), some (.int 0)] [] rfl ?_
    revert h; refine gBindR fun q3 e3 h => ?_
    refine lt_216_63_18 N 0 m_s q3 e3 ?_
    refine hX_go 1 (79) [some (.ref 63), some (.int x0), some (.int (v_186_63 x0 m_wi)), some (.int q3.1)] [.int q3.1] (hMm c0 q3.2 m_kp m_as m_ik m_fo m_tl m_tr m_fa m_od m_rc m_be m_ft m_tp m_td m_tk m_bg m_en m_vl m_sg m_wi m_si m_ce m_ca) rfl ?_
    have h := Option.some.inj h; subst h
    exact hX_end rfl rfl rfl
  · skip
    have h := gcF c2 h
    refine hX_goM 2 (12) [some (.ref 63), some (.int x0), some (.int (v_186_63 x0 m_wi)), none] [.int (v_186_63 x0 m_wi), .ref 63] rfl ?_
    revert h; refine gCondR fun g4 h => ?_
    refine hX_call (r' := zR_124) rfl (ct_124_63 (v_186_63 x0 m_wi) g4) ?_
    refine hX_go 0 (15) [some (.ref 63), some (.int x0), some (.int (v_186_63 x0 m_wi)), none] [.int (v_124_63 (v_186_63 x0 m_wi))] (hMm c0 m_s m_kp m_as m_ik (f_124_63_m_fo (v_186_63 x0 m_wi) m_fo) m_tl m_tr m_fa m_od m_rc m_be m_ft m_tp m_td m_tk m_bg m_en m_vl m_sg m_wi m_si m_ce m_ca) rfl ?_
    have h := Option.some.inj h; subst h
    exact hX_end rfl rfl rfl

/-- UpOneSideModel.judge: the loop at 36 -/
def lp_217_63_36 (N : Nat) (y1 : Int32) (m_s : Nat → Int32) (m_fo : Nat → Int32) (m_si : Nat → Int32) (m_ce : Nat → Int32) : Nat → Int32 → Int32 → Int32 → Int32 → Option (Int32 × (Nat → Int32) × Int32 × Int32)
  | 0, _, _, _, _ => none
  | n + 1, y3, y4, m_tl, m_tr =>
    (bif gIn y1 4 then (bif gCmp .ge y4 (m_si (Int32.toNatClampNeg y1)) then
      some (y3, m_fo, m_tl, m_tr)
    else
      (bif gIn ((40 * y1) + y4) 160 then (bif gCmp .ne (v_129_63 (m_ce (Int32.toNatClampNeg ((40 * y1) + y4))) m_s) 0 then
        (bif gIn ((15 + (3 * (m_ce (Int32.toNatClampNeg ((40 * y1) + y4))))) + 0) 134 then (bif gIn ((15 + (3 * (m_ce (Int32.toNatClampNeg ((40 * y1) + y4))))) + 1) 134 then (bif gIn ((15 + (3 * (m_ce (Int32.toNatClampNeg ((40 * y1) + y4))))) + 2) 134 then lp_217_63_36 N y1 m_s m_fo m_si m_ce n (bif gCmp .le (v_126 ((f_136_63_m_tl (m_ce (Int32.toNatClampNeg ((40 * y1) + y4))) m_s m_tl m_tr) - (f_136_63_m_tr (m_ce (Int32.toNatClampNeg ((40 * y1) + y4))) m_s m_tl m_tr))) y3 then y3 else (v_126 ((f_136_63_m_tl (m_ce (Int32.toNatClampNeg ((40 * y1) + y4))) m_s m_tl m_tr) - (f_136_63_m_tr (m_ce (Int32.toNatClampNeg ((40 * y1) + y4))) m_s m_tl m_tr)))) (y4 + 1) (f_136_63_m_tl (m_ce (Int32.toNatClampNeg ((40 * y1) + y4))) m_s m_tl m_tr) (f_136_63_m_tr (m_ce (Int32.toNatClampNeg ((40 * y1) + y4))) m_s m_tl m_tr) else none) else none) else none)
      else
        some (v_124_63 4, f_124_63_m_fo 4 m_fo, m_tl, m_tr)) else none)) else none)
set_option maxRecDepth 20000 in
set_option maxHeartbeats 4000000 in
theorem lt_217_63_36 {LL : Nat} {xs : Nat → Int32} {D N : Nat} {c0 : Nat → gE} {m_s : Nat → Int32} {m_kp : Nat → Int32} {m_as : Nat → Int32} {m_ik : Int32} {m_fo : Nat → Int32}   {m_fa : Nat → Int32} {m_od : Nat → Int32} {m_rc : Int32} {m_be : Nat → Int32} {m_ft : Int32} {m_tp : Nat → Int32} {m_td : Int32} {m_tk : Int32} {m_bg : Int32} {m_en : Int32} {m_vl : Int64} {m_sg : Int32} {m_wi : Nat → Int32} {m_si : Nat → Int32} {m_ce : Nat → Int32} {m_ca : Nat → Int32} {y1 : Int32} {y2 : Int32} : ∀ (n : Nat) (y3 : Int32) (y4 : Int32) (m_tl : Int32) (m_tr : Int32) (q : Int32 × (Nat → Int32) × Int32 × Int32), lp_217_63_36 N y1 m_s m_fo m_si m_ce n y3 y4 m_tl m_tr = some q → hX (gO LL xs) (D + 3) zR_217 36 [some (.ref 63), some (.int y1), some (.int y2), some (.int y3), some (.int y4), none] [] (hMm c0 m_s m_kp m_as m_ik m_fo m_tl m_tr m_fa m_od m_rc m_be m_ft m_tp m_td m_tk m_bg m_en m_vl m_sg m_wi m_si m_ce m_ca) (some (.int q.1)) (hMm c0 m_s m_kp m_as m_ik q.2.1 q.2.2.1 q.2.2.2 m_fa m_od m_rc m_be m_ft m_tp m_td m_tk m_bg m_en m_vl m_sg m_wi m_si m_ce m_ca) := by
  intro n
  induction n with
  | zero => intro y3 y4 m_tl m_tr q h; cases h
  | succ n ih =>
    intro y3 y4 m_tl m_tr q h
    rw [lp_217_63_36] at h
    refine hX_go 4 (43) [some (.ref 63), some (.int y1), some (.int y2), some (.int y3), some (.int y4), none] [.int y1, .ref 76, .int y4] (hMm c0 m_s m_kp m_as m_ik m_fo m_tl m_tr m_fa m_od m_rc m_be m_ft m_tp m_td m_tk m_bg m_en m_vl m_sg m_wi m_si m_ce m_ca) rfl ?_
    revert h; refine gCondR fun g1 h => ?_
    refine hX_gM (gIn y1 4) 44 [some (.ref 63), some (.int y1), some (.int y2), some (.int y3), some (.int y4), none] [.int (m_si (Int32.toNatClampNeg y1)), .int y4] rfl g1 ?_
    refine hX_goM 1 (bif gCmp .ge y4 (m_si (Int32.toNatClampNeg y1)) then 121 else 47) [some (.ref 63), some (.int y1), some (.int y2), some (.int y3), some (.int y4), none] [] rfl ?_
    refine hX_if (gCmp .ge y4 (m_si (Int32.toNatClampNeg y1))) (fun c2 => ?_) (fun c2 => ?_)
    · skip
      have h := gcT c2 h
      refine hX_goM 1 (122) [some (.ref 63), some (.int y1), some (.int y2), some (.int y3), some (.int y4), none] [.int y3] rfl ?_
      have h := Option.some.inj h; subst h
      exact hX_end rfl rfl rfl
    · skip
      have h := gcF c2 h
      refine hX_goM 7 (58) [some (.ref 63), some (.int y1), some (.int y2), some (.int y3), some (.int y4), none] [.int ((40 * y1) + y4), .ref 77] rfl ?_
      revert h; refine gCondR fun g3 h => ?_
      refine hX_gM (gIn ((40 * y1) + y4) 160) 59 [some (.ref 63), some (.int y1), some (.int y2), some (.int y3), some (.int y4), none] [.int (m_ce (Int32.toNatClampNeg ((40 * y1) + y4)))] rfl g3 ?_
      refine hX_goM 3 (64) [some (.ref 63), some (.int y1), some (.int y2), some (.int y3), some (.int y4), some (.int (m_ce (Int32.toNatClampNeg ((40 * y1) + y4))))] [.int (m_ce (Int32.toNatClampNeg ((40 * y1) + y4))), .ref 63] rfl ?_
      refine hX_call (r' := zR_129) rfl (ct_129_63 (m_ce (Int32.toNatClampNeg ((40 * y1) + y4)))) ?_
      refine hX_goM 1 (bif gCmp .ne (v_129_63 (m_ce (Int32.toNatClampNeg ((40 * y1) + y4))) m_s) 0 then 76 else 70) [some (.ref 63), some (.int y1), some (.int y2), some (.int y3), some (.int y4), some (.int (m_ce (Int32.toNatClampNeg ((40 * y1) + y4))))] [] rfl ?_
      refine hX_if (gCmp .ne (v_129_63 (m_ce (Int32.toNatClampNeg ((40 * y1) + y4))) m_s) 0) (fun c4 => ?_) (fun c4 => ?_)
      · skip
        have h := gcT c4 h
        refine hX_goM 2 (79) [some (.ref 63), some (.int y1), some (.int y2), some (.int y3), some (.int y4), some (.int (m_ce (Int32.toNatClampNeg ((40 * y1) + y4))))] [.int (m_ce (Int32.toNatClampNeg ((40 * y1) + y4))), .ref 63] rfl ?_
        revert h; refine gCondR fun g5 h => ?_
        revert h; refine gCondR fun g6 h => ?_
        revert h; refine gCondR fun g7 h => ?_
        refine hX_call (r' := zR_136) rfl (ct_136_63 (m_ce (Int32.toNatClampNeg ((40 * y1) + y4))) g5 g6 g7) ?_
        refine hX_go 5 (91) [some (.ref 63), some (.int y1), some (.int y2), some (.int y3), some (.int y4), some (.int (m_ce (Int32.toNatClampNeg ((40 * y1) + y4))))] [.int ((f_136_63_m_tl (m_ce (Int32.toNatClampNeg ((40 * y1) + y4))) m_s m_tl m_tr) - (f_136_63_m_tr (m_ce (Int32.toNatClampNeg ((40 * y1) + y4))) m_s m_tl m_tr))] (hMm c0 m_s m_kp m_as m_ik m_fo (f_136_63_m_tl (m_ce (Int32.toNatClampNeg ((40 * y1) + y4))) m_s m_tl m_tr) (f_136_63_m_tr (m_ce (Int32.toNatClampNeg ((40 * y1) + y4))) m_s m_tl m_tr) m_fa m_od m_rc m_be m_ft m_tp m_td m_tk m_bg m_en m_vl m_sg m_wi m_si m_ce m_ca) rfl ?_
        refine hX_call (r' := zR_126) rfl (ct_126 ((f_136_63_m_tl (m_ce (Int32.toNatClampNeg ((40 * y1) + y4))) m_s m_tl m_tr) - (f_136_63_m_tr (m_ce (Int32.toNatClampNeg ((40 * y1) + y4))) m_s m_tl m_tr))) ?_
        refine hX_goM 2 (bif gCmp .le (v_126 ((f_136_63_m_tl (m_ce (Int32.toNatClampNeg ((40 * y1) + y4))) m_s m_tl m_tr) - (f_136_63_m_tr (m_ce (Int32.toNatClampNeg ((40 * y1) + y4))) m_s m_tl m_tr))) y3 then 113 else 98) [some (.ref 63), some (.int y1), some (.int y2), some (.int y3), some (.int y4), some (.int (m_ce (Int32.toNatClampNeg ((40 * y1) + y4))))] [] rfl ?_
        refine hX_mrg 114 [some (.ref 63), some (.int y1), some (.int y2), some (.int y3), some (.int y4), some (.int (m_ce (Int32.toNatClampNeg ((40 * y1) + y4))))] [.int (bif gCmp .le (v_126 ((f_136_63_m_tl (m_ce (Int32.toNatClampNeg ((40 * y1) + y4))) m_s m_tl m_tr) - (f_136_63_m_tr (m_ce (Int32.toNatClampNeg ((40 * y1) + y4))) m_s m_tl m_tr))) y3 then y3 else (v_126 ((f_136_63_m_tl (m_ce (Int32.toNatClampNeg ((40 * y1) + y4))) m_s m_tl m_tr) - (f_136_63_m_tr (m_ce (Int32.toNatClampNeg ((40 * y1) + y4))) m_s m_tl m_tr))))] (hMm c0 m_s m_kp m_as m_ik m_fo (f_136_63_m_tl (m_ce (Int32.toNatClampNeg ((40 * y1) + y4))) m_s m_tl m_tr) (f_136_63_m_tr (m_ce (Int32.toNatClampNeg ((40 * y1) + y4))) m_s m_tl m_tr) m_fa m_od m_rc m_be m_ft m_tp m_td m_tk m_bg m_en m_vl m_sg m_wi m_si m_ce m_ca) (fun hk => ?_) ?_
        · skip
          refine hX_if (gCmp .le (v_126 ((f_136_63_m_tl (m_ce (Int32.toNatClampNeg ((40 * y1) + y4))) m_s m_tl m_tr) - (f_136_63_m_tr (m_ce (Int32.toNatClampNeg ((40 * y1) + y4))) m_s m_tl m_tr))) y3) (fun c9 => ?_) (fun c9 => ?_)
          · skip
            refine hX_goM 1 (114) [some (.ref 63), some (.int y1), some (.int y2), some (.int y3), some (.int y4), some (.int (m_ce (Int32.toNatClampNeg ((40 * y1) + y4))))] [.int y3] rfl ?_
            have hk := hk
            simp only [c9, cond_true, cond_false] at hk
            first | exact hk | (simp only [c9, cond_true, cond_false]; exact hk)
          · skip
            refine hX_goM 5 (107) [some (.ref 63), some (.int y1), some (.int y2), some (.int y3), some (.int y4), some (.int (m_ce (Int32.toNatClampNeg ((40 * y1) + y4))))] [.int ((f_136_63_m_tl (m_ce (Int32.toNatClampNeg ((40 * y1) + y4))) m_s m_tl m_tr) - (f_136_63_m_tr (m_ce (Int32.toNatClampNeg ((40 * y1) + y4))) m_s m_tl m_tr))] rfl ?_
            refine hX_call (r' := zR_126) rfl (ct_126 ((f_136_63_m_tl (m_ce (Int32.toNatClampNeg ((40 * y1) + y4))) m_s m_tl m_tr) - (f_136_63_m_tr (m_ce (Int32.toNatClampNeg ((40 * y1) + y4))) m_s m_tl m_tr))) ?_
            refine hX_goM 1 (114) [some (.ref 63), some (.int y1), some (.int y2), some (.int y3), some (.int y4), some (.int (m_ce (Int32.toNatClampNeg ((40 * y1) + y4))))] [.int (v_126 ((f_136_63_m_tl (m_ce (Int32.toNatClampNeg ((40 * y1) + y4))) m_s m_tl m_tr) - (f_136_63_m_tr (m_ce (Int32.toNatClampNeg ((40 * y1) + y4))) m_s m_tl m_tr)))] rfl ?_
            have hk := hk
            simp only [c9, cond_true, cond_false] at hk
            first | exact hk | (simp only [c9, cond_true, cond_false]; exact hk)
        refine hX_goM 3 (36) [some (.ref 63), some (.int y1), some (.int y2), some (.int (bif gCmp .le (v_126 ((f_136_63_m_tl (m_ce (Int32.toNatClampNeg ((40 * y1) + y4))) m_s m_tl m_tr) - (f_136_63_m_tr (m_ce (Int32.toNatClampNeg ((40 * y1) + y4))) m_s m_tl m_tr))) y3 then y3 else (v_126 ((f_136_63_m_tl (m_ce (Int32.toNatClampNeg ((40 * y1) + y4))) m_s m_tl m_tr) - (f_136_63_m_tr (m_ce (Int32.toNatClampNeg ((40 * y1) + y4))) m_s m_tl m_tr))))), some (.int (y4 + 1)), some (.int (m_ce (Int32.toNatClampNeg ((40 * y1) + y4))))] [] rfl ?_
        exact hX_wk (gLe_s (gLe_s (gLe_s (gLe_s (gLe_s (gLe_n gLe_0)))))) (ih (bif gCmp .le (v_126 ((f_136_63_m_tl (m_ce (Int32.toNatClampNeg ((40 * y1) + y4))) m_s m_tl m_tr) - (f_136_63_m_tr (m_ce (Int32.toNatClampNeg ((40 * y1) + y4))) m_s m_tl m_tr))) y3 then y3 else (v_126 ((f_136_63_m_tl (m_ce (Int32.toNatClampNeg ((40 * y1) + y4))) m_s m_tl m_tr) - (f_136_63_m_tr (m_ce (Int32.toNatClampNeg ((40 * y1) + y4))) m_s m_tl m_tr)))) (y4 + 1) (f_136_63_m_tl (m_ce (Int32.toNatClampNeg ((40 * y1) + y4))) m_s m_tl m_tr) (f_136_63_m_tr (m_ce (Int32.toNatClampNeg ((40 * y1) + y4))) m_s m_tl m_tr) q h)
      · skip
        have h := gcF c4 h
        refine hX_goM 2 (72) [some (.ref 63), some (.int y1), some (.int y2), some (.int y3), some (.int y4), some (.int (m_ce (Int32.toNatClampNeg ((40 * y1) + y4))))] [.int 4, .ref 63] rfl ?_
        refine hX_call (r' := zR_124) rfl (ct_124_63 4 rfl) ?_
        refine hX_go 0 (75) [some (.ref 63), some (.int y1), some (.int y2), some (.int y3), some (.int y4), some (.int (m_ce (Int32.toNatClampNeg ((40 * y1) + y4))))] [.int (v_124_63 4)] (hMm c0 m_s m_kp m_as m_ik (f_124_63_m_fo 4 m_fo) m_tl m_tr m_fa m_od m_rc m_be m_ft m_tp m_td m_tk m_bg m_en m_vl m_sg m_wi m_si m_ce m_ca) rfl ?_
        have h := Option.some.inj h; subst h
        exact hX_end rfl rfl rfl

/-- UpOneSideModel.judge(I)I -/
def me_217_63 (N : Nat) (x0 : Int32) (m_s : Nat → Int32) (m_fo : Nat → Int32) (m_tl : Int32) (m_tr : Int32) (m_wi : Nat → Int32) (m_si : Nat → Int32) (m_ce : Nat → Int32) : Option (Int32 × (Nat → Int32) × Int32 × Int32) :=
  (bif (!(gCmp .ne (v_185 x0) 0) || (gIn x0 4)) then (bif gCmp .lt (v_186_63 x0 m_wi) 0 then
    lp_217_63_36 N x0 m_s m_fo m_si m_ce N (v_126 ((f_135_63_m_tl m_s) - (f_135_63_m_tr m_s))) 0 (f_135_63_m_tl m_s) (f_135_63_m_tr m_s)
  else
    (bif gIn (v_186_63 x0 m_wi) 7 then some (v_124_63 (v_186_63 x0 m_wi), f_124_63_m_fo (v_186_63 x0 m_wi) m_fo, m_tl, m_tr) else none)) else none)
set_option maxRecDepth 20000 in
set_option maxHeartbeats 4000000 in
theorem mt_217_63 {LL : Nat} {xs : Nat → Int32} {D : Nat} {c0 : Nat → gE} {m_s : Nat → Int32} {m_kp : Nat → Int32} {m_as : Nat → Int32} {m_ik : Int32} {m_fo : Nat → Int32} {m_tl : Int32} {m_tr : Int32} {m_fa : Nat → Int32} {m_od : Nat → Int32} {m_rc : Int32} {m_be : Nat → Int32} {m_ft : Int32} {m_tp : Nat → Int32} {m_td : Int32} {m_tk : Int32} {m_bg : Int32} {m_en : Int32} {m_vl : Int64} {m_sg : Int32} {m_wi : Nat → Int32} {m_si : Nat → Int32} {m_ce : Nat → Int32} {m_ca : Nat → Int32} (N : Nat) (x0 : Int32) (q : Int32 × (Nat → Int32) × Int32 × Int32) (h : me_217_63 N x0 m_s m_fo m_tl m_tr m_wi m_si m_ce = some q) : hM (gO LL xs) (D + 3) zR_217 [.ref 63, .int x0] (hMm c0 m_s m_kp m_as m_ik m_fo m_tl m_tr m_fa m_od m_rc m_be m_ft m_tp m_td m_tk m_bg m_en m_vl m_sg m_wi m_si m_ce m_ca) (some (.int q.1)) (hMm c0 m_s m_kp m_as m_ik q.2.1 q.2.2.1 q.2.2.2 m_fa m_od m_rc m_be m_ft m_tp m_td m_tk m_bg m_en m_vl m_sg m_wi m_si m_ce m_ca) := by
  unfold me_217_63 at h
  refine hX_go 0 0 [some (.ref 63), some (.int x0), none, none, none, none] [] (hMm c0 m_s m_kp m_as m_ik m_fo m_tl m_tr m_fa m_od m_rc m_be m_ft m_tp m_td m_tk m_bg m_en m_vl m_sg m_wi m_si m_ce m_ca) rfl ?_
  refine hX_go 2 (2) [some (.ref 63), some (.int x0), none, none, none, none] [.int x0, .ref 63] (hMm c0 m_s m_kp m_as m_ik m_fo m_tl m_tr m_fa m_od m_rc m_be m_ft m_tp m_td m_tk m_bg m_en m_vl m_sg m_wi m_si m_ce m_ca) rfl ?_
  revert h; refine gCondR fun g1 h => ?_
  refine hX_call (r' := zR_186) rfl (ct_186_63 x0 (fun u0 => (gImpT g1 u0))) ?_
  refine hX_goM 3 (bif gCmp .lt (v_186_63 x0 m_wi) 0 then 16 else 10) [some (.ref 63), some (.int x0), some (.int (v_186_63 x0 m_wi)), none, none, none] [] rfl ?_
  refine hX_if (gCmp .lt (v_186_63 x0 m_wi) 0) (fun c2 => ?_) (fun c2 => ?_)
  · skip
    have h := gcT c2 h
    refine hX_goM 1 (17) [some (.ref 63), some (.int x0), some (.int (v_186_63 x0 m_wi)), none, none, none] [.ref 63] rfl ?_
    refine hX_call (r' := zR_135) rfl (ct_135_63) ?_
    refine hX_go 5 (29) [some (.ref 63), some (.int x0), some (.int (v_186_63 x0 m_wi)), none, none, none] [.int ((f_135_63_m_tl m_s) - (f_135_63_m_tr m_s))] (hMm c0 m_s m_kp m_as m_ik m_fo (f_135_63_m_tl m_s) (f_135_63_m_tr m_s) m_fa m_od m_rc m_be m_ft m_tp m_td m_tk m_bg m_en m_vl m_sg m_wi m_si m_ce m_ca) rfl ?_
    refine hX_call (r' := zR_126) rfl (ct_126 ((f_135_63_m_tl m_s) - (f_135_63_m_tr m_s))) ?_
    refine hX_goM 3 (36) [some (.ref 63), some (.int x0), some (.int (v_186_63 x0 m_wi)), some (.int (v_126 ((f_135_63_m_tl m_s) - (f_135_63_m_tr m_s)))), some (.int 0), none] [] rfl ?_
    exact lt_217_63_36 N (v_126 ((f_135_63_m_tl m_s) - (f_135_63_m_tr m_s))) 0 (f_135_63_m_tl m_s) (f_135_63_m_tr m_s) q h
  · skip
    have h := gcF c2 h
    refine hX_goM 2 (12) [some (.ref 63), some (.int x0), some (.int (v_186_63 x0 m_wi)), none, none, none] [.int (v_186_63 x0 m_wi), .ref 63] rfl ?_
    revert h; refine gCondR fun g3 h => ?_
    refine hX_call (r' := zR_124) rfl (ct_124_63 (v_186_63 x0 m_wi) g3) ?_
    refine hX_go 0 (15) [some (.ref 63), some (.int x0), some (.int (v_186_63 x0 m_wi)), none, none, none] [.int (v_124_63 (v_186_63 x0 m_wi))] (hMm c0 m_s m_kp m_as m_ik (f_124_63_m_fo (v_186_63 x0 m_wi) m_fo) m_tl m_tr m_fa m_od m_rc m_be m_ft m_tp m_td m_tk m_bg m_en m_vl m_sg m_wi m_si m_ce m_ca) rfl ?_
    have h := Option.some.inj h; subst h
    exact hX_end rfl rfl rfl

/-- UpOneSideModel.image: the loop at 2 -/
def lp_218_63_2 (N : Nat) (m_s : Nat → Int32) : Nat → Int32 → (Nat → Int32) → Option (Int32 × (Nat → Int32))
  | 0, _, _ => none
  | n + 1, y1, m_kp =>
    (bif gCmp .ge y1 134 then
      some (y1, m_kp)
    else
      (bif gIn y1 134 then (bif gIn y1 134 then lp_218_63_2 N m_s n (y1 + 1) (upd m_kp (Int32.toNatClampNeg y1) (m_s (Int32.toNatClampNeg y1))) else none) else none))
set_option maxRecDepth 20000 in
set_option maxHeartbeats 4000000 in
theorem lt_218_63_2 {LL : Nat} {xs : Nat → Int32} {D N : Nat} {c0 : Nat → gE} {m_s : Nat → Int32}  {m_as : Nat → Int32} {m_ik : Int32} {m_fo : Nat → Int32} {m_tl : Int32} {m_tr : Int32} {m_fa : Nat → Int32} {m_od : Nat → Int32} {m_rc : Int32} {m_be : Nat → Int32} {m_ft : Int32} {m_tp : Nat → Int32} {m_td : Int32} {m_tk : Int32} {m_bg : Int32} {m_en : Int32} {m_vl : Int64} {m_sg : Int32} {m_wi : Nat → Int32} {m_si : Nat → Int32} {m_ce : Nat → Int32} {m_ca : Nat → Int32} {v : Option Value} {M' : List gE} : ∀ (n : Nat) (y1 : Int32) (m_kp : Nat → Int32) (q : Int32 × (Nat → Int32)), lp_218_63_2 N m_s n y1 m_kp = some q → (kk : hX (gO LL xs) (D + 0) zR_218 27 [some (.ref 63), some (.int q.1)] [] (hMm c0 m_s q.2 m_as m_ik m_fo m_tl m_tr m_fa m_od m_rc m_be m_ft m_tp m_td m_tk m_bg m_en m_vl m_sg m_wi m_si m_ce m_ca) v M') → hX (gO LL xs) (D + 0) zR_218 2 [some (.ref 63), some (.int y1)] [] (hMm c0 m_s m_kp m_as m_ik m_fo m_tl m_tr m_fa m_od m_rc m_be m_ft m_tp m_td m_tk m_bg m_en m_vl m_sg m_wi m_si m_ce m_ca) v M' := by
  intro n
  induction n with
  | zero => intro y1 m_kp q h; cases h
  | succ n ih =>
    intro y1 m_kp q h kk
    rw [lp_218_63_2] at h
    refine hX_go 3 (bif gCmp .ge y1 134 then 27 else 9) [some (.ref 63), some (.int y1)] [] (hMm c0 m_s m_kp m_as m_ik m_fo m_tl m_tr m_fa m_od m_rc m_be m_ft m_tp m_td m_tk m_bg m_en m_vl m_sg m_wi m_si m_ce m_ca) rfl ?_
    refine hX_if (gCmp .ge y1 134) (fun c1 => ?_) (fun c1 => ?_)
    · skip
      have h := gcT c1 h
      have h := Option.some.inj h; subst h
      exact kk
    · skip
      have h := gcF c1 h
      refine hX_goM 6 (19) [some (.ref 63), some (.int y1)] [.int y1, .ref 64, .int y1, .ref 65] rfl ?_
      revert h; refine gCondR fun g2 h => ?_
      refine hX_gM (gIn y1 134) 20 [some (.ref 63), some (.int y1)] [.int (m_s (Int32.toNatClampNeg y1)), .int y1, .ref 65] rfl g2 ?_
      revert h; refine gCondR fun g3 h => ?_
      refine hX_g (gIn y1 134) 21 [some (.ref 63), some (.int y1)] [] (hMm c0 m_s (upd m_kp (Int32.toNatClampNeg y1) (m_s (Int32.toNatClampNeg y1))) m_as m_ik m_fo m_tl m_tr m_fa m_od m_rc m_be m_ft m_tp m_td m_tk m_bg m_en m_vl m_sg m_wi m_si m_ce m_ca) rfl g3 ?_
      refine hX_goM 2 (2) [some (.ref 63), some (.int (y1 + 1))] [] rfl ?_
      exact ih (y1 + 1) (upd m_kp (Int32.toNatClampNeg y1) (m_s (Int32.toNatClampNeg y1))) q h kk

/-- UpOneSideModel.image()I -/
def me_218_63 (N : Nat) (m_s : Nat → Int32) (m_kp : Nat → Int32) : Option (Int32 × (Nat → Int32) × Int32) :=
  (Option.bind (lp_218_63_2 N m_s N 0 m_kp) fun q1 =>
  some (1, q1.2, 1))
set_option maxRecDepth 20000 in
set_option maxHeartbeats 4000000 in
theorem mt_218_63 {LL : Nat} {xs : Nat → Int32} {D : Nat} {c0 : Nat → gE} {m_s : Nat → Int32} {m_kp : Nat → Int32} {m_as : Nat → Int32} {m_ik : Int32} {m_fo : Nat → Int32} {m_tl : Int32} {m_tr : Int32} {m_fa : Nat → Int32} {m_od : Nat → Int32} {m_rc : Int32} {m_be : Nat → Int32} {m_ft : Int32} {m_tp : Nat → Int32} {m_td : Int32} {m_tk : Int32} {m_bg : Int32} {m_en : Int32} {m_vl : Int64} {m_sg : Int32} {m_wi : Nat → Int32} {m_si : Nat → Int32} {m_ce : Nat → Int32} {m_ca : Nat → Int32} (N : Nat) (q : Int32 × (Nat → Int32) × Int32) (h : me_218_63 N m_s m_kp = some q) : hM (gO LL xs) (D + 0) zR_218 [.ref 63] (hMm c0 m_s m_kp m_as m_ik m_fo m_tl m_tr m_fa m_od m_rc m_be m_ft m_tp m_td m_tk m_bg m_en m_vl m_sg m_wi m_si m_ce m_ca) (some (.int q.1)) (hMm c0 m_s q.2.1 m_as q.2.2 m_fo m_tl m_tr m_fa m_od m_rc m_be m_ft m_tp m_td m_tk m_bg m_en m_vl m_sg m_wi m_si m_ce m_ca) := by
  unfold me_218_63 at h
  refine hX_go 0 0 [some (.ref 63), none] [] (hMm c0 m_s m_kp m_as m_ik m_fo m_tl m_tr m_fa m_od m_rc m_be m_ft m_tp m_td m_tk m_bg m_en m_vl m_sg m_wi m_si m_ce m_ca) rfl ?_
  refine hX_go 2 (2) [some (.ref 63), some (.int 0)] [] (hMm c0 m_s m_kp m_as m_ik m_fo m_tl m_tr m_fa m_od m_rc m_be m_ft m_tp m_td m_tk m_bg m_en m_vl m_sg m_wi m_si m_ce m_ca) rfl ?_
  revert h; refine gBindR fun q1 e1 h => ?_
  refine lt_218_63_2 N 0 m_kp q1 e1 ?_
  refine hX_go 4 (33) [some (.ref 63), some (.int q1.1)] [.int 1] (hMm c0 m_s q1.2 m_as 1 m_fo m_tl m_tr m_fa m_od m_rc m_be m_ft m_tp m_td m_tk m_bg m_en m_vl m_sg m_wi m_si m_ce m_ca) rfl ?_
  have h := Option.some.inj h; subst h
  exact hX_end rfl rfl rfl

/-- UpOneSideModel.undo: the loop at 15 -/
def lp_219_63_15 (N : Nat) (m_kp : Nat → Int32) : Nat → Int32 → (Nat → Int32) → Option (Int32 × (Nat → Int32))
  | 0, _, _ => none
  | n + 1, y1, m_s =>
    (bif gCmp .ge y1 134 then
      some (y1, m_s)
    else
      (bif gIn y1 134 then (bif gIn y1 134 then lp_219_63_15 N m_kp n (y1 + 1) (upd m_s (Int32.toNatClampNeg y1) (m_kp (Int32.toNatClampNeg y1))) else none) else none))
set_option maxRecDepth 20000 in
set_option maxHeartbeats 4000000 in
theorem lt_219_63_15 {LL : Nat} {xs : Nat → Int32} {D N : Nat} {c0 : Nat → gE}  {m_kp : Nat → Int32} {m_as : Nat → Int32} {m_ik : Int32} {m_fo : Nat → Int32} {m_tl : Int32} {m_tr : Int32} {m_fa : Nat → Int32} {m_od : Nat → Int32} {m_rc : Int32} {m_be : Nat → Int32} {m_ft : Int32} {m_tp : Nat → Int32} {m_td : Int32} {m_tk : Int32} {m_bg : Int32} {m_en : Int32} {m_vl : Int64} {m_sg : Int32} {m_wi : Nat → Int32} {m_si : Nat → Int32} {m_ce : Nat → Int32} {m_ca : Nat → Int32} {v : Option Value} {M' : List gE} : ∀ (n : Nat) (y1 : Int32) (m_s : Nat → Int32) (q : Int32 × (Nat → Int32)), lp_219_63_15 N m_kp n y1 m_s = some q → (kk : hX (gO LL xs) (D + 1) zR_219 40 [some (.ref 63), some (.int q.1)] [] (hMm c0 q.2 m_kp m_as m_ik m_fo m_tl m_tr m_fa m_od m_rc m_be m_ft m_tp m_td m_tk m_bg m_en m_vl m_sg m_wi m_si m_ce m_ca) v M') → hX (gO LL xs) (D + 1) zR_219 15 [some (.ref 63), some (.int y1)] [] (hMm c0 m_s m_kp m_as m_ik m_fo m_tl m_tr m_fa m_od m_rc m_be m_ft m_tp m_td m_tk m_bg m_en m_vl m_sg m_wi m_si m_ce m_ca) v M' := by
  intro n
  induction n with
  | zero => intro y1 m_s q h; cases h
  | succ n ih =>
    intro y1 m_s q h kk
    rw [lp_219_63_15] at h
    refine hX_go 3 (bif gCmp .ge y1 134 then 40 else 22) [some (.ref 63), some (.int y1)] [] (hMm c0 m_s m_kp m_as m_ik m_fo m_tl m_tr m_fa m_od m_rc m_be m_ft m_tp m_td m_tk m_bg m_en m_vl m_sg m_wi m_si m_ce m_ca) rfl ?_
    refine hX_if (gCmp .ge y1 134) (fun c1 => ?_) (fun c1 => ?_)
    · skip
      have h := gcT c1 h
      have h := Option.some.inj h; subst h
      exact kk
    · skip
      have h := gcF c1 h
      refine hX_goM 6 (32) [some (.ref 63), some (.int y1)] [.int y1, .ref 65, .int y1, .ref 64] rfl ?_
      revert h; refine gCondR fun g2 h => ?_
      refine hX_gM (gIn y1 134) 33 [some (.ref 63), some (.int y1)] [.int (m_kp (Int32.toNatClampNeg y1)), .int y1, .ref 64] rfl g2 ?_
      revert h; refine gCondR fun g3 h => ?_
      refine hX_g (gIn y1 134) 34 [some (.ref 63), some (.int y1)] [] (hMm c0 (upd m_s (Int32.toNatClampNeg y1) (m_kp (Int32.toNatClampNeg y1))) m_kp m_as m_ik m_fo m_tl m_tr m_fa m_od m_rc m_be m_ft m_tp m_td m_tk m_bg m_en m_vl m_sg m_wi m_si m_ce m_ca) rfl g3 ?_
      refine hX_goM 2 (15) [some (.ref 63), some (.int (y1 + 1))] [] rfl ?_
      exact ih (y1 + 1) (upd m_s (Int32.toNatClampNeg y1) (m_kp (Int32.toNatClampNeg y1))) q h kk

/-- UpOneSideModel.undo()I -/
def me_219_63 (N : Nat) (m_s : Nat → Int32) (m_kp : Nat → Int32) (m_ik : Int32) (m_fo : Nat → Int32) : Option (Int32 × (Nat → Int32) × (Nat → Int32)) :=
  (bif gCmp .ne m_ik 0 then
    (Option.bind (lp_219_63_15 N m_kp N 0 m_s) fun q2 =>
    some (q2.2 0, q2.2, m_fo))
  else
    some (v_124_63 3, m_s, f_124_63_m_fo 3 m_fo))
set_option maxRecDepth 20000 in
set_option maxHeartbeats 4000000 in
theorem mt_219_63 {LL : Nat} {xs : Nat → Int32} {D : Nat} {c0 : Nat → gE} {m_s : Nat → Int32} {m_kp : Nat → Int32} {m_as : Nat → Int32} {m_ik : Int32} {m_fo : Nat → Int32} {m_tl : Int32} {m_tr : Int32} {m_fa : Nat → Int32} {m_od : Nat → Int32} {m_rc : Int32} {m_be : Nat → Int32} {m_ft : Int32} {m_tp : Nat → Int32} {m_td : Int32} {m_tk : Int32} {m_bg : Int32} {m_en : Int32} {m_vl : Int64} {m_sg : Int32} {m_wi : Nat → Int32} {m_si : Nat → Int32} {m_ce : Nat → Int32} {m_ca : Nat → Int32} (N : Nat) (q : Int32 × (Nat → Int32) × (Nat → Int32)) (h : me_219_63 N m_s m_kp m_ik m_fo = some q) : hM (gO LL xs) (D + 1) zR_219 [.ref 63] (hMm c0 m_s m_kp m_as m_ik m_fo m_tl m_tr m_fa m_od m_rc m_be m_ft m_tp m_td m_tk m_bg m_en m_vl m_sg m_wi m_si m_ce m_ca) (some (.int q.1)) (hMm c0 q.2.1 m_kp m_as m_ik q.2.2 m_tl m_tr m_fa m_od m_rc m_be m_ft m_tp m_td m_tk m_bg m_en m_vl m_sg m_wi m_si m_ce m_ca) := by
  unfold me_219_63 at h
  refine hX_go 0 0 [some (.ref 63), none] [] (hMm c0 m_s m_kp m_as m_ik m_fo m_tl m_tr m_fa m_od m_rc m_be m_ft m_tp m_td m_tk m_bg m_en m_vl m_sg m_wi m_si m_ce m_ca) rfl ?_
  refine hX_go 3 (bif gCmp .ne m_ik 0 then 13 else 7) [some (.ref 63), none] [] (hMm c0 m_s m_kp m_as m_ik m_fo m_tl m_tr m_fa m_od m_rc m_be m_ft m_tp m_td m_tk m_bg m_en m_vl m_sg m_wi m_si m_ce m_ca) rfl ?_
  refine hX_if (gCmp .ne m_ik 0) (fun c1 => ?_) (fun c1 => ?_)
  · skip
    have h := gcT c1 h
    refine hX_goM 2 (15) [some (.ref 63), some (.int 0)] [] rfl ?_
    revert h; refine gBindR fun q2 e2 h => ?_
    refine lt_219_63_15 N 0 m_s q2 e2 ?_
    refine hX_go 4 (46) [some (.ref 63), some (.int q2.1)] [.int (q2.2 0)] (hMm c0 q2.2 m_kp m_as m_ik m_fo m_tl m_tr m_fa m_od m_rc m_be m_ft m_tp m_td m_tk m_bg m_en m_vl m_sg m_wi m_si m_ce m_ca) rfl ?_
    have h := Option.some.inj h; subst h
    exact hX_end rfl rfl rfl
  · skip
    have h := gcF c1 h
    refine hX_goM 2 (9) [some (.ref 63), none] [.int 3, .ref 63] rfl ?_
    refine hX_call (r' := zR_124) rfl (ct_124_63 3 rfl) ?_
    refine hX_go 0 (12) [some (.ref 63), none] [.int (v_124_63 3)] (hMm c0 m_s m_kp m_as m_ik (f_124_63_m_fo 3 m_fo) m_tl m_tr m_fa m_od m_rc m_be m_ft m_tp m_td m_tk m_bg m_en m_vl m_sg m_wi m_si m_ce m_ca) rfl ?_
    have h := Option.some.inj h; subst h
    exact hX_end rfl rfl rfl


/-- UpOneSideModel.tear()I -/
def me_220_63 (N : Nat) (m_ik : Int32) : Option (Int32 × Int32) :=
  some (bif gCmp .eq m_ik 0 then 0 else 1, 0)
set_option maxRecDepth 20000 in
set_option maxHeartbeats 4000000 in
theorem mt_220_63 {LL : Nat} {xs : Nat → Int32} {D : Nat} {c0 : Nat → gE} {m_s : Nat → Int32} {m_kp : Nat → Int32} {m_as : Nat → Int32} {m_ik : Int32} {m_fo : Nat → Int32} {m_tl : Int32} {m_tr : Int32} {m_fa : Nat → Int32} {m_od : Nat → Int32} {m_rc : Int32} {m_be : Nat → Int32} {m_ft : Int32} {m_tp : Nat → Int32} {m_td : Int32} {m_tk : Int32} {m_bg : Int32} {m_en : Int32} {m_vl : Int64} {m_sg : Int32} {m_wi : Nat → Int32} {m_si : Nat → Int32} {m_ce : Nat → Int32} {m_ca : Nat → Int32} (N : Nat) (q : Int32 × Int32) (h : me_220_63 N m_ik = some q) : hM (gO LL xs) (D + 0) zR_220 [.ref 63] (hMm c0 m_s m_kp m_as m_ik m_fo m_tl m_tr m_fa m_od m_rc m_be m_ft m_tp m_td m_tk m_bg m_en m_vl m_sg m_wi m_si m_ce m_ca) (some (.int q.1)) (hMm c0 m_s m_kp m_as q.2 m_fo m_tl m_tr m_fa m_od m_rc m_be m_ft m_tp m_td m_tk m_bg m_en m_vl m_sg m_wi m_si m_ce m_ca) := by
  unfold me_220_63 at h
  refine hX_go 0 0 [some (.ref 63), none] [] (hMm c0 m_s m_kp m_as m_ik m_fo m_tl m_tr m_fa m_od m_rc m_be m_ft m_tp m_td m_tk m_bg m_en m_vl m_sg m_wi m_si m_ce m_ca) rfl ?_
  refine hX_go 3 (bif gCmp .eq m_ik 0 then 11 else 7) [some (.ref 63), none] [] (hMm c0 m_s m_kp m_as m_ik m_fo m_tl m_tr m_fa m_od m_rc m_be m_ft m_tp m_td m_tk m_bg m_en m_vl m_sg m_wi m_si m_ce m_ca) rfl ?_
  refine hX_mrg 12 [some (.ref 63), none] [.int (bif gCmp .eq m_ik 0 then 0 else 1)] (hMm c0 m_s m_kp m_as m_ik m_fo m_tl m_tr m_fa m_od m_rc m_be m_ft m_tp m_td m_tk m_bg m_en m_vl m_sg m_wi m_si m_ce m_ca) (fun hk => ?_) ?_
  · skip
    refine hX_if (gCmp .eq m_ik 0) (fun c2 => ?_) (fun c2 => ?_)
    · skip
      refine hX_goM 1 (12) [some (.ref 63), none] [.int 0] rfl ?_
      have hk := hk
      simp only [c2, cond_true, cond_false] at hk
      first | exact hk | (simp only [c2, cond_true, cond_false]; exact hk)
    · skip
      refine hX_goM 2 (12) [some (.ref 63), none] [.int 1] rfl ?_
      have hk := hk
      simp only [c2, cond_true, cond_false] at hk
      first | exact hk | (simp only [c2, cond_true, cond_false]; exact hk)
  refine hX_go 5 (19) [some (.ref 63), some (.int (bif gCmp .eq m_ik 0 then 0 else 1))] [.int (bif gCmp .eq m_ik 0 then 0 else 1)] (hMm c0 m_s m_kp m_as 0 m_fo m_tl m_tr m_fa m_od m_rc m_be m_ft m_tp m_td m_tk m_bg m_en m_vl m_sg m_wi m_si m_ce m_ca) rfl ?_
  have h := Option.some.inj h; subst h
  exact hX_end rfl rfl rfl

theorem sw_221_3 (x : Int32) : gSwT 3 126 0 7 #[45, 52, 59, 66, 73, 78, 83, 90] x = some (bif hEq x 0 then 48 else bif hEq x 1 then 55 else bif hEq x 2 then 62 else bif hEq x 3 then 69 else bif hEq x 4 then 76 else bif hEq x 5 then 81 else bif hEq x 6 then 86 else bif hEq x 7 then 93 else 129) := by
  by_cases q0 : x = 0
  · subst q0; rfl
  by_cases q1 : x = 1
  · subst q1; rfl
  by_cases q2 : x = 2
  · subst q2; rfl
  by_cases q3 : x = 3
  · subst q3; rfl
  by_cases q4 : x = 4
  · subst q4; rfl
  by_cases q5 : x = 5
  · subst q5; rfl
  by_cases q6 : x = 6
  · subst q6; rfl
  by_cases q7 : x = 7
  · subst q7; rfl
  simp only [hEq, q0, q1, q2, q3, q4, q5, q6, q7, decide_false, cond_false]
  have n0 := hNe q0
  have n1 := hNe q1
  have n2 := hNe q2
  have n3 := hNe q3
  have n4 := hNe q4
  have n5 := hNe q5
  have n6 := hNe q6
  have n7 := hNe q7
  unfold gSwT
  rw [show (decide (x.toInt < 0) || decide (7 < x.toInt)) = true from by
    simp only [Bool.or_eq_true, decide_eq_true_eq]
    have e : ∀ z : Int, z < 0 ∨ 7 < z ∨ (z = 0 ∨ z = 1 ∨ z = 2 ∨ z = 3 ∨ z = 4 ∨ z = 5 ∨ z = 6 ∨ z = 7) := by intro z; omega
    rcases e x.toInt with h | h | h
    · exact Or.inl h
    · exact Or.inr h
    · rcases h with h | h | h | h | h | h | h | h
      · exact absurd h n0
      · exact absurd h n1
      · exact absurd h n2
      · exact absurd h n3
      · exact absurd h n4
      · exact absurd h n5
      · exact absurd h n6
      · exact absurd h n7
    ]
  rfl

/-- UpOneSideModel.count: the loop at 95 -/
def lp_221_63_95 (N : Nat) (m_s : Nat → Int32) : Nat → Int32 → Int32 → Option (Int32 × Int32)
  | 0, _, _ => none
  | n + 1, y2, y3 =>
    (bif gCmp .ge y3 10 then
      some (y2, y3)
    else
      (bif gIn (124 + y3) 134 then lp_221_63_95 N m_s n (y2 + (bif gCmp .lt (m_s (Int32.toNatClampNeg (124 + y3))) 0 then 0 else 1)) (y3 + 1) else none))
set_option maxRecDepth 20000 in
set_option maxHeartbeats 4000000 in
theorem lt_221_63_95 {LL : Nat} {xs : Nat → Int32} {D N : Nat} {c0 : Nat → gE} {m_s : Nat → Int32} {m_kp : Nat → Int32} {m_as : Nat → Int32} {m_ik : Int32} {m_fo : Nat → Int32} {m_tl : Int32} {m_tr : Int32} {m_fa : Nat → Int32} {m_od : Nat → Int32} {m_rc : Int32} {m_be : Nat → Int32} {m_ft : Int32} {m_tp : Nat → Int32} {m_td : Int32} {m_tk : Int32} {m_bg : Int32} {m_en : Int32} {m_vl : Int64} {m_sg : Int32} {m_wi : Nat → Int32} {m_si : Nat → Int32} {m_ce : Nat → Int32} {m_ca : Nat → Int32} {y1 : Int32} {v : Option Value} {M' : List gE} : ∀ (n : Nat) (y2 : Int32) (y3 : Int32) (q : Int32 × Int32), lp_221_63_95 N m_s n y2 y3 = some q → (kk : hX (gO LL xs) (D + 1) zR_221 127 [some (.ref 63), some (.int y1), some (.int q.1), some (.int q.2)] [] (hMm c0 m_s m_kp m_as m_ik m_fo m_tl m_tr m_fa m_od m_rc m_be m_ft m_tp m_td m_tk m_bg m_en m_vl m_sg m_wi m_si m_ce m_ca) v M') → hX (gO LL xs) (D + 1) zR_221 95 [some (.ref 63), some (.int y1), some (.int y2), some (.int y3)] [] (hMm c0 m_s m_kp m_as m_ik m_fo m_tl m_tr m_fa m_od m_rc m_be m_ft m_tp m_td m_tk m_bg m_en m_vl m_sg m_wi m_si m_ce m_ca) v M' := by
  intro n
  induction n with
  | zero => intro y2 y3 q h; cases h
  | succ n ih =>
    intro y2 y3 q h kk
    rw [lp_221_63_95] at h
    refine hX_go 3 (bif gCmp .ge y3 10 then 127 else 101) [some (.ref 63), some (.int y1), some (.int y2), some (.int y3)] [] (hMm c0 m_s m_kp m_as m_ik m_fo m_tl m_tr m_fa m_od m_rc m_be m_ft m_tp m_td m_tk m_bg m_en m_vl m_sg m_wi m_si m_ce m_ca) rfl ?_
    refine hX_if (gCmp .ge y3 10) (fun c1 => ?_) (fun c1 => ?_)
    · skip
      have h := gcT c1 h
      have h := Option.some.inj h; subst h
      exact kk
    · skip
      have h := gcF c1 h
      refine hX_goM 6 (110) [some (.ref 63), some (.int y1), some (.int y2), some (.int y3)] [.int (124 + y3), .ref 64, .int y2] rfl ?_
      revert h; refine gCondR fun g2 h => ?_
      refine hX_gM (gIn (124 + y3) 134) 111 [some (.ref 63), some (.int y1), some (.int y2), some (.int y3)] [.int (m_s (Int32.toNatClampNeg (124 + y3))), .int y2] rfl g2 ?_
      refine hX_goM 1 (bif gCmp .lt (m_s (Int32.toNatClampNeg (124 + y3))) 0 then 118 else 114) [some (.ref 63), some (.int y1), some (.int y2), some (.int y3)] [.int y2] rfl ?_
      refine hX_mrg 119 [some (.ref 63), some (.int y1), some (.int y2), some (.int y3)] [.int (bif gCmp .lt (m_s (Int32.toNatClampNeg (124 + y3))) 0 then 0 else 1), .int y2] (hMm c0 m_s m_kp m_as m_ik m_fo m_tl m_tr m_fa m_od m_rc m_be m_ft m_tp m_td m_tk m_bg m_en m_vl m_sg m_wi m_si m_ce m_ca) (fun hk => ?_) ?_
      · skip
        refine hX_if (gCmp .lt (m_s (Int32.toNatClampNeg (124 + y3))) 0) (fun c4 => ?_) (fun c4 => ?_)
        · skip
          refine hX_goM 1 (119) [some (.ref 63), some (.int y1), some (.int y2), some (.int y3)] [.int 0, .int y2] rfl ?_
          have hk := hk
          simp only [c4, cond_true, cond_false] at hk
          first | exact hk | (simp only [c4, cond_true, cond_false]; exact hk)
        · skip
          refine hX_goM 2 (119) [some (.ref 63), some (.int y1), some (.int y2), some (.int y3)] [.int 1, .int y2] rfl ?_
          have hk := hk
          simp only [c4, cond_true, cond_false] at hk
          first | exact hk | (simp only [c4, cond_true, cond_false]; exact hk)
      refine hX_goM 4 (95) [some (.ref 63), some (.int y1), some (.int (y2 + (bif gCmp .lt (m_s (Int32.toNatClampNeg (124 + y3))) 0 then 0 else 1))), some (.int (y3 + 1))] [] rfl ?_
      exact ih (y2 + (bif gCmp .lt (m_s (Int32.toNatClampNeg (124 + y3))) 0 then 0 else 1)) (y3 + 1) q h kk

/-- UpOneSideModel.count(I)I -/
def me_221_63 (N : Nat) (x0 : Int32) (m_s : Nat → Int32) (m_fo : Nat → Int32) (m_td : Int32) : Option (Int32 × (Nat → Int32)) :=
  (bif hEq x0 0 then
    some (m_s 0, m_fo)
  else
    (bif hEq x0 1 then
      some (m_s 3, m_fo)
    else
      (bif hEq x0 2 then
        some (m_s 1, m_fo)
      else
        (bif hEq x0 3 then
          some (m_s 2, m_fo)
        else
          (bif hEq x0 4 then
            (Option.bind (me_152_63 N m_s) fun q6 =>
            some (q6, m_fo))
          else
            (bif hEq x0 5 then
              some (m_td, m_fo)
            else
              (bif hEq x0 6 then
                some (m_s 4, m_fo)
              else
                (bif hEq x0 7 then
                  (Option.bind (lp_221_63_95 N m_s N 0 0) fun q10 =>
                  some (q10.1, m_fo))
                else
                  some (v_124_63 0, f_124_63_m_fo 0 m_fo)))))))))
set_option maxRecDepth 20000 in
set_option maxHeartbeats 4000000 in
theorem mt_221_63 {LL : Nat} {xs : Nat → Int32} {D : Nat} {c0 : Nat → gE} {m_s : Nat → Int32} {m_kp : Nat → Int32} {m_as : Nat → Int32} {m_ik : Int32} {m_fo : Nat → Int32} {m_tl : Int32} {m_tr : Int32} {m_fa : Nat → Int32} {m_od : Nat → Int32} {m_rc : Int32} {m_be : Nat → Int32} {m_ft : Int32} {m_tp : Nat → Int32} {m_td : Int32} {m_tk : Int32} {m_bg : Int32} {m_en : Int32} {m_vl : Int64} {m_sg : Int32} {m_wi : Nat → Int32} {m_si : Nat → Int32} {m_ce : Nat → Int32} {m_ca : Nat → Int32} (N : Nat) (x0 : Int32) (q : Int32 × (Nat → Int32)) (h : me_221_63 N x0 m_s m_fo m_td = some q) : hM (gO LL xs) (D + 1) zR_221 [.ref 63, .int x0] (hMm c0 m_s m_kp m_as m_ik m_fo m_tl m_tr m_fa m_od m_rc m_be m_ft m_tp m_td m_tk m_bg m_en m_vl m_sg m_wi m_si m_ce m_ca) (some (.int q.1)) (hMm c0 m_s m_kp m_as m_ik q.2 m_tl m_tr m_fa m_od m_rc m_be m_ft m_tp m_td m_tk m_bg m_en m_vl m_sg m_wi m_si m_ce m_ca) := by
  unfold me_221_63 at h
  refine hX_go 0 0 [some (.ref 63), some (.int x0), none, none] [] (hMm c0 m_s m_kp m_as m_ik m_fo m_tl m_tr m_fa m_od m_rc m_be m_ft m_tp m_td m_tk m_bg m_en m_vl m_sg m_wi m_si m_ce m_ca) rfl ?_
  refine hX_go 3 (3) [some (.ref 63), some (.int x0), some (.int 0), none] [.int x0] (hMm c0 m_s m_kp m_as m_ik m_fo m_tl m_tr m_fa m_od m_rc m_be m_ft m_tp m_td m_tk m_bg m_en m_vl m_sg m_wi m_si m_ce m_ca) rfl ?_
  refine hX_sw (bif hEq x0 0 then 48 else bif hEq x0 1 then 55 else bif hEq x0 2 then 62 else bif hEq x0 3 then 69 else bif hEq x0 4 then 76 else bif hEq x0 5 then 81 else bif hEq x0 6 then 86 else bif hEq x0 7 then 93 else 129) rfl (sw_221_3 x0) ?_
  refine hX_if (hEq x0 0) (fun c1 => ?_) (fun c1 => ?_)
  · skip
    have h := gcT c1 h
    refine hX_goM 4 (54) [some (.ref 63), some (.int x0), some (.int 0), none] [.int (m_s 0)] rfl ?_
    have h := Option.some.inj h; subst h
    exact hX_end rfl rfl rfl
  · skip
    have h := gcF c1 h
    refine hX_if (hEq x0 1) (fun c2 => ?_) (fun c2 => ?_)
    · skip
      have h := gcT c2 h
      refine hX_goM 4 (61) [some (.ref 63), some (.int x0), some (.int 0), none] [.int (m_s 3)] rfl ?_
      have h := Option.some.inj h; subst h
      exact hX_end rfl rfl rfl
    · skip
      have h := gcF c2 h
      refine hX_if (hEq x0 2) (fun c3 => ?_) (fun c3 => ?_)
      · skip
        have h := gcT c3 h
        refine hX_goM 4 (68) [some (.ref 63), some (.int x0), some (.int 0), none] [.int (m_s 1)] rfl ?_
        have h := Option.some.inj h; subst h
        exact hX_end rfl rfl rfl
      · skip
        have h := gcF c3 h
        refine hX_if (hEq x0 3) (fun c4 => ?_) (fun c4 => ?_)
        · skip
          have h := gcT c4 h
          refine hX_goM 4 (75) [some (.ref 63), some (.int x0), some (.int 0), none] [.int (m_s 2)] rfl ?_
          have h := Option.some.inj h; subst h
          exact hX_end rfl rfl rfl
        · skip
          have h := gcF c4 h
          refine hX_if (hEq x0 4) (fun c5 => ?_) (fun c5 => ?_)
          · skip
            have h := gcT c5 h
            refine hX_goM 1 (77) [some (.ref 63), some (.int x0), some (.int 0), none] [.ref 63] rfl ?_
            revert h; refine gBindR fun q6 e6 h => ?_
            refine hX_call (r' := zR_152) rfl (mt_152_63 N q6 e6) ?_
            refine hX_goM 0 (80) [some (.ref 63), some (.int x0), some (.int 0), none] [.int q6] rfl ?_
            have h := Option.some.inj h; subst h
            exact hX_end rfl rfl rfl
          · skip
            have h := gcF c5 h
            refine hX_if (hEq x0 5) (fun c7 => ?_) (fun c7 => ?_)
            · skip
              have h := gcT c7 h
              refine hX_goM 2 (85) [some (.ref 63), some (.int x0), some (.int 0), none] [.int m_td] rfl ?_
              have h := Option.some.inj h; subst h
              exact hX_end rfl rfl rfl
            · skip
              have h := gcF c7 h
              refine hX_if (hEq x0 6) (fun c8 => ?_) (fun c8 => ?_)
              · skip
                have h := gcT c8 h
                refine hX_goM 4 (92) [some (.ref 63), some (.int x0), some (.int 0), none] [.int (m_s 4)] rfl ?_
                have h := Option.some.inj h; subst h
                exact hX_end rfl rfl rfl
              · skip
                have h := gcF c8 h
                refine hX_if (hEq x0 7) (fun c9 => ?_) (fun c9 => ?_)
                · skip
                  have h := gcT c9 h
                  refine hX_goM 2 (95) [some (.ref 63), some (.int x0), some (.int 0), some (.int 0)] [] rfl ?_
                  revert h; refine gBindR fun q10 e10 h => ?_
                  refine lt_221_63_95 N 0 0 q10 e10 ?_
                  refine hX_goM 1 (128) [some (.ref 63), some (.int x0), some (.int q10.1), some (.int q10.2)] [.int q10.1] rfl ?_
                  have h := Option.some.inj h; subst h
                  exact hX_end rfl rfl rfl
                · skip
                  have h := gcF c9 h
                  refine hX_goM 2 (131) [some (.ref 63), some (.int x0), some (.int 0), none] [.int 0, .ref 63] rfl ?_
                  refine hX_call (r' := zR_124) rfl (ct_124_63 0 rfl) ?_
                  refine hX_go 0 (134) [some (.ref 63), some (.int x0), some (.int 0), none] [.int (v_124_63 0)] (hMm c0 m_s m_kp m_as m_ik (f_124_63_m_fo 0 m_fo) m_tl m_tr m_fa m_od m_rc m_be m_ft m_tp m_td m_tk m_bg m_en m_vl m_sg m_wi m_si m_ce m_ca) rfl ?_
                  have h := Option.some.inj h; subst h
                  exact hX_end rfl rfl rfl

/-- UpOneSideModel.status: the loop at 20 -/
def lp_222_63_20 (N : Nat) (y1 : Int32) (m_fo : Nat → Int32) : Nat → Int32 → Int32 → Option (Int32 × Int32)
  | 0, _, _ => none
  | n + 1, y2, y3 =>
    (bif gCmp .ge y3 7 then
      some (y2, y3)
    else
      (bif !(gCmp .eq y1 (-1)) || (gIn y3 7) then (bif (gCmp .eq y1 (-1)) || ((gCmp .ne y1 y3) || (gIn y3 7)) then lp_222_63_20 N y1 m_fo n (y2 + (bif gCmp .eq y1 (-1) then (m_fo (Int32.toNatClampNeg y3)) else (bif gCmp .ne y1 y3 then 0 else (m_fo (Int32.toNatClampNeg y3))))) (y3 + 1) else none) else none))
set_option maxRecDepth 20000 in
set_option maxHeartbeats 4000000 in
theorem lt_222_63_20 {LL : Nat} {xs : Nat → Int32} {D N : Nat} {c0 : Nat → gE} {m_s : Nat → Int32} {m_kp : Nat → Int32} {m_as : Nat → Int32} {m_ik : Int32} {m_fo : Nat → Int32} {m_tl : Int32} {m_tr : Int32} {m_fa : Nat → Int32} {m_od : Nat → Int32} {m_rc : Int32} {m_be : Nat → Int32} {m_ft : Int32} {m_tp : Nat → Int32} {m_td : Int32} {m_tk : Int32} {m_bg : Int32} {m_en : Int32} {m_vl : Int64} {m_sg : Int32} {m_wi : Nat → Int32} {m_si : Nat → Int32} {m_ce : Nat → Int32} {m_ca : Nat → Int32} {y1 : Int32} {v : Option Value} {M' : List gE} : ∀ (n : Nat) (y2 : Int32) (y3 : Int32) (q : Int32 × Int32), lp_222_63_20 N y1 m_fo n y2 y3 = some q → (kk : hX (gO LL xs) (D + 1) zR_222 55 [some (.ref 63), some (.int y1), some (.int q.1), some (.int q.2)] [] (hMm c0 m_s m_kp m_as m_ik m_fo m_tl m_tr m_fa m_od m_rc m_be m_ft m_tp m_td m_tk m_bg m_en m_vl m_sg m_wi m_si m_ce m_ca) v M') → hX (gO LL xs) (D + 1) zR_222 20 [some (.ref 63), some (.int y1), some (.int y2), some (.int y3)] [] (hMm c0 m_s m_kp m_as m_ik m_fo m_tl m_tr m_fa m_od m_rc m_be m_ft m_tp m_td m_tk m_bg m_en m_vl m_sg m_wi m_si m_ce m_ca) v M' := by
  intro n
  induction n with
  | zero => intro y2 y3 q h; cases h
  | succ n ih =>
    intro y2 y3 q h kk
    rw [lp_222_63_20] at h
    refine hX_go 3 (bif gCmp .ge y3 7 then 55 else 26) [some (.ref 63), some (.int y1), some (.int y2), some (.int y3)] [] (hMm c0 m_s m_kp m_as m_ik m_fo m_tl m_tr m_fa m_od m_rc m_be m_ft m_tp m_td m_tk m_bg m_en m_vl m_sg m_wi m_si m_ce m_ca) rfl ?_
    refine hX_if (gCmp .ge y3 7) (fun c1 => ?_) (fun c1 => ?_)
    · skip
      have h := gcT c1 h
      have h := Option.some.inj h; subst h
      exact kk
    · skip
      have h := gcF c1 h
      refine hX_goM 4 (bif gCmp .eq y1 (-1) then 37 else 32) [some (.ref 63), some (.int y1), some (.int y2), some (.int y3)] [.int y2] rfl ?_
      revert h; refine gCondR fun o3 h => ?_
      revert h; refine gCondR fun o5 h => ?_
      refine hX_mrg 47 [some (.ref 63), some (.int y1), some (.int y2), some (.int y3)] [.int (bif gCmp .eq y1 (-1) then (m_fo (Int32.toNatClampNeg y3)) else (bif gCmp .ne y1 y3 then 0 else (m_fo (Int32.toNatClampNeg y3)))), .int y2] (hMm c0 m_s m_kp m_as m_ik m_fo m_tl m_tr m_fa m_od m_rc m_be m_ft m_tp m_td m_tk m_bg m_en m_vl m_sg m_wi m_si m_ce m_ca) (fun hk => ?_) ?_
      · skip
        refine hX_if (gCmp .eq y1 (-1)) (fun c6 => ?_) (fun c6 => ?_)
        · skip
          refine hX_goM 3 (42) [some (.ref 63), some (.int y1), some (.int y2), some (.int y3)] [.int y3, .ref 67, .int y2] rfl ?_
          refine hX_gM (gIn y3 7) 43 [some (.ref 63), some (.int y1), some (.int y2), some (.int y3)] [.int (m_fo (Int32.toNatClampNeg y3)), .int y2] rfl (gImpT o3 c6) ?_
          refine hX_goM 1 (47) [some (.ref 63), some (.int y1), some (.int y2), some (.int y3)] [.int (m_fo (Int32.toNatClampNeg y3)), .int y2] rfl ?_
          have hk := hk
          simp only [c6, cond_true, cond_false] at hk
          first | exact hk | (simp only [c6, cond_true, cond_false]; exact hk)
        · skip
          refine hX_goM 3 (bif gCmp .ne y1 y3 then 46 else 37) [some (.ref 63), some (.int y1), some (.int y2), some (.int y3)] [.int y2] rfl ?_
          refine hX_if (gCmp .ne y1 y3) (fun c7 => ?_) (fun c7 => ?_)
          · skip
            refine hX_goM 1 (47) [some (.ref 63), some (.int y1), some (.int y2), some (.int y3)] [.int 0, .int y2] rfl ?_
            have hk := hk
            simp only [c6, c7, cond_true, cond_false] at hk
            first | exact hk | (simp only [c6, c7, cond_true, cond_false]; exact hk)
          · skip
            refine hX_goM 3 (42) [some (.ref 63), some (.int y1), some (.int y2), some (.int y3)] [.int y3, .ref 67, .int y2] rfl ?_
            refine hX_gM (gIn y3 7) 43 [some (.ref 63), some (.int y1), some (.int y2), some (.int y3)] [.int (m_fo (Int32.toNatClampNeg y3)), .int y2] rfl (gImpF (gImpF o5 c6) c7) ?_
            refine hX_goM 1 (47) [some (.ref 63), some (.int y1), some (.int y2), some (.int y3)] [.int (m_fo (Int32.toNatClampNeg y3)), .int y2] rfl ?_
            have hk := hk
            simp only [c6, c7, cond_true, cond_false] at hk
            first | exact hk | (simp only [c6, c7, cond_true, cond_false]; exact hk)
      refine hX_goM 4 (20) [some (.ref 63), some (.int y1), some (.int (y2 + (bif gCmp .eq y1 (-1) then (m_fo (Int32.toNatClampNeg y3)) else (bif gCmp .ne y1 y3 then 0 else (m_fo (Int32.toNatClampNeg y3)))))), some (.int (y3 + 1))] [] rfl ?_
      exact ih (y2 + (bif gCmp .eq y1 (-1) then (m_fo (Int32.toNatClampNeg y3)) else (bif gCmp .ne y1 y3 then 0 else (m_fo (Int32.toNatClampNeg y3))))) (y3 + 1) q h kk

/-- UpOneSideModel.status(I)I -/
def me_222_63 (N : Nat) (x0 : Int32) (m_fo : Nat → Int32) : Option (Int32 × (Nat → Int32)) :=
  (bif gCmp .ne (v_125 x0 (-1) 6) 0 then
    (Option.bind (lp_222_63_20 N x0 m_fo N 0 0) fun q2 =>
    some (q2.1, m_fo))
  else
    some (v_124_63 0, f_124_63_m_fo 0 m_fo))
set_option maxRecDepth 20000 in
set_option maxHeartbeats 4000000 in
theorem mt_222_63 {LL : Nat} {xs : Nat → Int32} {D : Nat} {c0 : Nat → gE} {m_s : Nat → Int32} {m_kp : Nat → Int32} {m_as : Nat → Int32} {m_ik : Int32} {m_fo : Nat → Int32} {m_tl : Int32} {m_tr : Int32} {m_fa : Nat → Int32} {m_od : Nat → Int32} {m_rc : Int32} {m_be : Nat → Int32} {m_ft : Int32} {m_tp : Nat → Int32} {m_td : Int32} {m_tk : Int32} {m_bg : Int32} {m_en : Int32} {m_vl : Int64} {m_sg : Int32} {m_wi : Nat → Int32} {m_si : Nat → Int32} {m_ce : Nat → Int32} {m_ca : Nat → Int32} (N : Nat) (x0 : Int32) (q : Int32 × (Nat → Int32)) (h : me_222_63 N x0 m_fo = some q) : hM (gO LL xs) (D + 1) zR_222 [.ref 63, .int x0] (hMm c0 m_s m_kp m_as m_ik m_fo m_tl m_tr m_fa m_od m_rc m_be m_ft m_tp m_td m_tk m_bg m_en m_vl m_sg m_wi m_si m_ce m_ca) (some (.int q.1)) (hMm c0 m_s m_kp m_as m_ik q.2 m_tl m_tr m_fa m_od m_rc m_be m_ft m_tp m_td m_tk m_bg m_en m_vl m_sg m_wi m_si m_ce m_ca) := by
  unfold me_222_63 at h
  refine hX_go 0 0 [some (.ref 63), some (.int x0), none, none] [] (hMm c0 m_s m_kp m_as m_ik m_fo m_tl m_tr m_fa m_od m_rc m_be m_ft m_tp m_td m_tk m_bg m_en m_vl m_sg m_wi m_si m_ce m_ca) rfl ?_
  refine hX_go 3 (4) [some (.ref 63), some (.int x0), none, none] [.int 6, .int (-1), .int x0] (hMm c0 m_s m_kp m_as m_ik m_fo m_tl m_tr m_fa m_od m_rc m_be m_ft m_tp m_td m_tk m_bg m_en m_vl m_sg m_wi m_si m_ce m_ca) rfl ?_
  refine hX_call (r' := zR_125) rfl (ct_125 x0 (-1) 6) ?_
  refine hX_goM 1 (bif gCmp .ne (v_125 x0 (-1) 6) 0 then 16 else 10) [some (.ref 63), some (.int x0), none, none] [] rfl ?_
  refine hX_if (gCmp .ne (v_125 x0 (-1) 6) 0) (fun c1 => ?_) (fun c1 => ?_)
  · skip
    have h := gcT c1 h
    refine hX_goM 4 (20) [some (.ref 63), some (.int x0), some (.int 0), some (.int 0)] [] rfl ?_
    revert h; refine gBindR fun q2 e2 h => ?_
    refine lt_222_63_20 N 0 0 q2 e2 ?_
    refine hX_goM 1 (56) [some (.ref 63), some (.int x0), some (.int q2.1), some (.int q2.2)] [.int q2.1] rfl ?_
    have h := Option.some.inj h; subst h
    exact hX_end rfl rfl rfl
  · skip
    have h := gcF c1 h
    refine hX_goM 2 (12) [some (.ref 63), some (.int x0), none, none] [.int 0, .ref 63] rfl ?_
    refine hX_call (r' := zR_124) rfl (ct_124_63 0 rfl) ?_
    refine hX_go 0 (15) [some (.ref 63), some (.int x0), none, none] [.int (v_124_63 0)] (hMm c0 m_s m_kp m_as m_ik (f_124_63_m_fo 0 m_fo) m_tl m_tr m_fa m_od m_rc m_be m_ft m_tp m_td m_tk m_bg m_en m_vl m_sg m_wi m_si m_ce m_ca) rfl ?_
    have h := Option.some.inj h; subst h
    exact hX_end rfl rfl rfl
