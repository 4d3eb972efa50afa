/-- UpOneSideModel.costOf: the loop at 4 -/
def lp_166_63_4 (N : Nat) (y1 : Int32) (m_s : Nat → Int32) : Nat → Int32 → Int32 → Option (Int32 × Int32)
  | 0, _, _ => none
  | n + 1, y2, y3 =>
    (bif gCmp .ge y3 4 then
      some (y2, y3)
    else
      (bif (gCmp .eq (v_128 y1 y3) 0) || (gIn (11 + y3) 134) then lp_166_63_4 N y1 m_s n (y2 + (bif gCmp .eq (v_128 y1 y3) 0 then 0 else (m_s (Int32.toNatClampNeg (11 + y3))))) (y3 + 1) else none))
set_option maxRecDepth 20000 in
set_option maxHeartbeats 4000000 in
theorem lt_166_63_4 {LL : Nat} {xs : Nat → Int32} {D N : Nat} {c0 : Nat → gE} {m_s : Nat → Int32} {m_kp : Nat → Int32} {m_as : Nat → Int32} {m_ik : Int32} {m_fo : Nat → Int32} {m_tl : Int32} {m_tr : Int32} {m_fa : Nat → Int32} {m_od : Nat → Int32} {m_rc : Int32} {m_be : Nat → Int32} {m_ft : Int32} {m_tp : Nat → Int32} {m_td : Int32} {m_tk : Int32} {m_bg : Int32} {m_en : Int32} {m_vl : Int64} {m_sg : Int32} {m_wi : Nat → Int32} {m_si : Nat → Int32} {m_ce : Nat → Int32} {m_ca : Nat → Int32} {y1 : Int32} {v : Option Value} {M' : List gE} : ∀ (n : Nat) (y2 : Int32) (y3 : Int32) (q : Int32 × Int32), lp_166_63_4 N y1 m_s n y2 y3 = some q → (kk : hX (gO LL xs) (D + 1) zR_166 39 [some (.ref 63), some (.int y1), some (.int q.1), some (.int q.2)] [] (hMm c0 m_s m_kp m_as m_ik m_fo m_tl m_tr m_fa m_od m_rc m_be m_ft m_tp m_td m_tk m_bg m_en m_vl m_sg m_wi m_si m_ce m_ca) v M') → hX (gO LL xs) (D + 1) zR_166 4 [some (.ref 63), some (.int y1), some (.int y2), some (.int y3)] [] (hMm c0 m_s m_kp m_as m_ik m_fo m_tl m_tr m_fa m_od m_rc m_be m_ft m_tp m_td m_tk m_bg m_en m_vl m_sg m_wi m_si m_ce m_ca) v M' := by
  intro n
  induction n with
  | zero => intro y2 y3 q h; cases h
  | succ n ih =>
    intro y2 y3 q h kk
    rw [lp_166_63_4] at h
    refine hX_go 3 (bif gCmp .ge y3 4 then 39 else 9) [some (.ref 63), some (.int y1), some (.int y2), some (.int y3)] [] (hMm c0 m_s m_kp m_as m_ik m_fo m_tl m_tr m_fa m_od m_rc m_be m_ft m_tp m_td m_tk m_bg m_en m_vl m_sg m_wi m_si m_ce m_ca) rfl ?_
    refine hX_if (gCmp .ge y3 4) (fun c1 => ?_) (fun c1 => ?_)
    · skip
      have h := gcT c1 h
      have h := Option.some.inj h; subst h
      exact kk
    · skip
      have h := gcF c1 h
      refine hX_goM 3 (12) [some (.ref 63), some (.int y1), some (.int y2), some (.int y3)] [.int y3, .int y1, .int y2] rfl ?_
      refine hX_call (r' := zR_128) rfl (ct_128 y1 y3) ?_
      refine hX_goM 1 (bif gCmp .eq (v_128 y1 y3) 0 then 30 else 18) [some (.ref 63), some (.int y1), some (.int y2), some (.int y3)] [.int y2] rfl ?_
      revert h; refine gCondR fun o3 h => ?_
      refine hX_mrg 31 [some (.ref 63), some (.int y1), some (.int y2), some (.int y3)] [.int (bif gCmp .eq (v_128 y1 y3) 0 then 0 else (m_s (Int32.toNatClampNeg (11 + y3)))), .int y2] (hMm c0 m_s m_kp m_as m_ik m_fo m_tl m_tr m_fa m_od m_rc m_be m_ft m_tp m_td m_tk m_bg m_en m_vl m_sg m_wi m_si m_ce m_ca) (fun hk => ?_) ?_
      · skip
        refine hX_if (gCmp .eq (v_128 y1 y3) 0) (fun c4 => ?_) (fun c4 => ?_)
        · skip
          refine hX_goM 1 (31) [some (.ref 63), some (.int y1), some (.int y2), some (.int y3)] [.int 0, .int y2] rfl ?_
          have hk := hk
          simp only [c4, cond_true, cond_false] at hk
          first | exact hk | (simp only [c4, cond_true, cond_false]; exact hk)
        · skip
          refine hX_goM 5 (26) [some (.ref 63), some (.int y1), some (.int y2), some (.int y3)] [.int (11 + y3), .ref 64, .int y2] rfl ?_
          refine hX_gM (gIn (11 + y3) 134) 27 [some (.ref 63), some (.int y1), some (.int y2), some (.int y3)] [.int (m_s (Int32.toNatClampNeg (11 + y3))), .int y2] rfl (gImpF o3 c4) ?_
          refine hX_goM 1 (31) [some (.ref 63), some (.int y1), some (.int y2), some (.int y3)] [.int (m_s (Int32.toNatClampNeg (11 + y3))), .int y2] rfl ?_
          have hk := hk
          simp only [c4, cond_true, cond_false] at hk
          first | exact hk | (simp only [c4, cond_true, cond_false]; exact hk)
      refine hX_goM 4 (4) [some (.ref 63), some (.int y1), some (.int (y2 + (bif gCmp .eq (v_128 y1 y3) 0 then 0 else (m_s (Int32.toNatClampNeg (11 + y3)))))), some (.int (y3 + 1))] [] rfl ?_
      exact ih (y2 + (bif gCmp .eq (v_128 y1 y3) 0 then 0 else (m_s (Int32.toNatClampNeg (11 + y3))))) (y3 + 1) q h kk

/-- UpOneSideModel.costOf(I)I -/
def me_166_63 (N : Nat) (x0 : Int32) (m_s : Nat → Int32) : Option (Int32) :=
  (Option.bind (lp_166_63_4 N x0 m_s N 0 0) fun q1 =>
  some (q1.1))
set_option maxRecDepth 20000 in
set_option maxHeartbeats 4000000 in
theorem mt_166_63 {LL : Nat} {xs : Nat → Int32} {D : Nat} {c0 : Nat → gE} {m_s : Nat → Int32} {m_kp : Nat → Int32} {m_as : Nat → Int32} {m_ik : Int32} {m_fo : Nat → Int32} {m_tl : Int32} {m_tr : Int32} {m_fa : Nat → Int32} {m_od : Nat → Int32} {m_rc : Int32} {m_be : Nat → Int32} {m_ft : Int32} {m_tp : Nat → Int32} {m_td : Int32} {m_tk : Int32} {m_bg : Int32} {m_en : Int32} {m_vl : Int64} {m_sg : Int32} {m_wi : Nat → Int32} {m_si : Nat → Int32} {m_ce : Nat → Int32} {m_ca : Nat → Int32} (N : Nat) (x0 : Int32) (q : Int32) (h : me_166_63 N x0 m_s = some q) : hM (gO LL xs) (D + 1) zR_166 [.ref 63, .int x0] (hMm c0 m_s m_kp m_as m_ik m_fo m_tl m_tr m_fa m_od m_rc m_be m_ft m_tp m_td m_tk m_bg m_en m_vl m_sg m_wi m_si m_ce m_ca) (some (.int q)) (hMm c0 m_s m_kp m_as m_ik m_fo m_tl m_tr m_fa m_od m_rc m_be m_ft m_tp m_td m_tk m_bg m_en m_vl m_sg m_wi m_si m_ce m_ca) := by
  unfold me_166_63 at h
  refine hX_go 0 0 [some (.ref 63), some (.int x0), none, none] [] (hMm c0 m_s m_kp m_as m_ik m_fo m_tl m_tr m_fa m_od m_rc m_be m_ft m_tp m_td m_tk m_bg m_en m_vl m_sg m_wi m_si m_ce m_ca) rfl ?_
  refine hX_go 4 (4) [some (.ref 63), some (.int x0), some (.int 0), some (.int 0)] [] (hMm c0 m_s m_kp m_as m_ik m_fo m_tl m_tr m_fa m_od m_rc m_be m_ft m_tp m_td m_tk m_bg m_en m_vl m_sg m_wi m_si m_ce m_ca) rfl ?_
  revert h; refine gBindR fun q1 e1 h => ?_
  refine lt_166_63_4 N 0 0 q1 e1 ?_
  refine hX_goM 1 (40) [some (.ref 63), some (.int x0), some (.int q1.1), some (.int q1.2)] [.int q1.1] rfl ?_
  have h := Option.some.inj h; subst h
  exact hX_end rfl rfl rfl

/-- UpOneSideModel.doesMends(I)V -/
def f_167_63_m_s (x0 : Int32) (m_s : Nat → Int32) : Nat → Int32 := upd (upd (upd (upd m_s 6 (bif gCmp .eq (v_128 x0 0) 0 then (m_s 6) else 0)) 5 (bif gCmp .eq (v_128 x0 1) 0 then ((upd m_s 6 (bif gCmp .eq (v_128 x0 0) 0 then (m_s 6) else 0)) 5) else 0)) 7 (bif gCmp .eq (v_128 x0 2) 0 then ((upd (upd m_s 6 (bif gCmp .eq (v_128 x0 0) 0 then (m_s 6) else 0)) 5 (bif gCmp .eq (v_128 x0 1) 0 then ((upd m_s 6 (bif gCmp .eq (v_128 x0 0) 0 then (m_s 6) else 0)) 5) else 0)) 7) else 0)) 8 (bif gCmp .eq (v_128 x0 3) 0 then ((upd (upd (upd m_s 6 (bif gCmp .eq (v_128 x0 0) 0 then (m_s 6) else 0)) 5 (bif gCmp .eq (v_128 x0 1) 0 then ((upd m_s 6 (bif gCmp .eq (v_128 x0 0) 0 then (m_s 6) else 0)) 5) else 0)) 7 (bif gCmp .eq (v_128 x0 2) 0 then ((upd (upd m_s 6 (bif gCmp .eq (v_128 x0 0) 0 then (m_s 6) else 0)) 5 (bif gCmp .eq (v_128 x0 1) 0 then ((upd m_s 6 (bif gCmp .eq (v_128 x0 0) 0 then (m_s 6) else 0)) 5) else 0)) 7) else 0)) 8) else 60)
set_option maxRecDepth 20000 in
set_option maxHeartbeats 1000000 in
theorem ct_167_63 {LL : Nat} {xs : Nat → Int32} {D : Nat} {c0 : Nat → gE} {m_s : Nat → Int32} {m_kp : Nat → Int32} {m_as : Nat → Int32} {m_ik : Int32} {m_fo : Nat → Int32} {m_tl : Int32} {m_tr : Int32} {m_fa : Nat → Int32} {m_od : Nat → Int32} {m_rc : Int32} {m_be : Nat → Int32} {m_ft : Int32} {m_tp : Nat → Int32} {m_td : Int32} {m_tk : Int32} {m_bg : Int32} {m_en : Int32} {m_vl : Int64} {m_sg : Int32} {m_wi : Nat → Int32} {m_si : Nat → Int32} {m_ce : Nat → Int32} {m_ca : Nat → Int32} (x0 : Int32) : hM (gO LL xs) (D + 1) zR_167 [.ref 63, .int x0] (hMm c0 m_s m_kp m_as m_ik m_fo m_tl m_tr m_fa m_od m_rc m_be m_ft m_tp m_td m_tk m_bg m_en m_vl m_sg m_wi m_si m_ce m_ca) none (hMm c0 (f_167_63_m_s x0 m_s) m_kp m_as m_ik m_fo m_tl m_tr m_fa m_od m_rc m_be m_ft m_tp m_td m_tk m_bg m_en m_vl m_sg m_wi m_si m_ce m_ca) := by
  refine hX_go 0 0 [some (.ref 63), some (.int x0)] [] (hMm c0 m_s m_kp m_as m_ik m_fo m_tl m_tr m_fa m_od m_rc m_be m_ft m_tp m_td m_tk m_bg m_en m_vl m_sg m_wi m_si m_ce m_ca) rfl ?_
  refine hX_go 5 (8) [some (.ref 63), some (.int x0)] [.int 0, .int x0, .int 6, .ref 64] (hMm c0 m_s m_kp m_as m_ik m_fo m_tl m_tr m_fa m_od m_rc m_be m_ft m_tp m_td m_tk m_bg m_en m_vl m_sg m_wi m_si m_ce m_ca) rfl ?_
  refine hX_call (r' := zR_128) rfl (ct_128 x0 0) ?_
  refine hX_goM 1 (bif gCmp .eq (v_128 x0 0) 0 then 18 else 14) [some (.ref 63), some (.int x0)] [.int 6, .ref 64] rfl ?_
  suffices hk : hX (gO LL xs) (D + 1) zR_167 25 [some (.ref 63), some (.int x0)] [.int (bif gCmp .eq (v_128 x0 0) 0 then (m_s 6) else 0), .int 6, .ref 64] (hMm c0 m_s m_kp m_as m_ik m_fo m_tl m_tr m_fa m_od m_rc m_be m_ft m_tp m_td m_tk m_bg m_en m_vl m_sg m_wi m_si m_ce m_ca) none (hMm c0 (f_167_63_m_s x0 m_s) m_kp m_as m_ik m_fo m_tl m_tr m_fa m_od m_rc m_be m_ft m_tp m_td m_tk m_bg m_en m_vl m_sg m_wi m_si m_ce m_ca) by
    refine hX_if (gCmp .eq (v_128 x0 0) 0) (fun c1 => ?_) (fun c1 => ?_)
    · skip
      refine hX_goM 4 (25) [some (.ref 63), some (.int x0)] [.int (m_s 6), .int 6, .ref 64] rfl ?_
      have hk := hk
      simp only [c1, cond_true, cond_false] at hk
      first | exact hk | (simp only [c1, cond_true, cond_false]; exact hk)
    · skip
      refine hX_goM 2 (25) [some (.ref 63), some (.int x0)] [.int 0, .int 6, .ref 64] rfl ?_
      have hk := hk
      simp only [c1, cond_true, cond_false] at hk
      first | exact hk | (simp only [c1, cond_true, cond_false]; exact hk)
  refine hX_go 6 (33) [some (.ref 63), some (.int x0)] [.int 1, .int x0, .int 5, .ref 64] (hMm c0 (upd m_s 6 (bif gCmp .eq (v_128 x0 0) 0 then (m_s 6) else 0)) m_kp m_as m_ik m_fo m_tl m_tr m_fa m_od m_rc m_be m_ft m_tp m_td m_tk m_bg m_en m_vl m_sg m_wi m_si m_ce m_ca) rfl ?_
  refine hX_call (r' := zR_128) rfl (ct_128 x0 1) ?_
  refine hX_goM 1 (bif gCmp .eq (v_128 x0 1) 0 then 43 else 39) [some (.ref 63), some (.int x0)] [.int 5, .ref 64] rfl ?_
  suffices hk : hX (gO LL xs) (D + 1) zR_167 49 [some (.ref 63), some (.int x0)] [.int (bif gCmp .eq (v_128 x0 1) 0 then ((upd m_s 6 (bif gCmp .eq (v_128 x0 0) 0 then (m_s 6) else 0)) 5) else 0), .int 5, .ref 64] (hMm c0 (upd m_s 6 (bif gCmp .eq (v_128 x0 0) 0 then (m_s 6) else 0)) m_kp m_as m_ik m_fo m_tl m_tr m_fa m_od m_rc m_be m_ft m_tp m_td m_tk m_bg m_en m_vl m_sg m_wi m_si m_ce m_ca) none (hMm c0 (f_167_63_m_s x0 m_s) m_kp m_as m_ik m_fo m_tl m_tr m_fa m_od m_rc m_be m_ft m_tp m_td m_tk m_bg m_en m_vl m_sg m_wi m_si m_ce m_ca) by
    refine hX_if (gCmp .eq (v_128 x0 1) 0) (fun c2 => ?_) (fun c2 => ?_)
    · skip
      refine hX_goM 4 (49) [some (.ref 63), some (.int x0)] [.int ((upd m_s 6 (bif gCmp .eq (v_128 x0 0) 0 then (m_s 6) else 0)) 5), .int 5, .ref 64] rfl ?_
      have hk := hk
      simp only [c2, cond_true, cond_false] at hk
      first | exact hk | (simp only [c2, cond_true, cond_false]; exact hk)
    · skip
      refine hX_goM 2 (49) [some (.ref 63), some (.int x0)] [.int 0, .int 5, .ref 64] rfl ?_
      have hk := hk
      simp only [c2, cond_true, cond_false] at hk
      first | exact hk | (simp only [c2, cond_true, cond_false]; exact hk)
  refine hX_go 6 (58) [some (.ref 63), some (.int x0)] [.int 2, .int x0, .int 7, .ref 64] (hMm c0 (upd (upd m_s 6 (bif gCmp .eq (v_128 x0 0) 0 then (m_s 6) else 0)) 5 (bif gCmp .eq (v_128 x0 1) 0 then ((upd m_s 6 (bif gCmp .eq (v_128 x0 0) 0 then (m_s 6) else 0)) 5) else 0)) m_kp m_as m_ik m_fo m_tl m_tr m_fa m_od m_rc m_be m_ft m_tp m_td m_tk m_bg m_en m_vl m_sg m_wi m_si m_ce m_ca) rfl ?_
  refine hX_call (r' := zR_128) rfl (ct_128 x0 2) ?_
  refine hX_goM 1 (bif gCmp .eq (v_128 x0 2) 0 then 68 else 64) [some (.ref 63), some (.int x0)] [.int 7, .ref 64] rfl ?_
  suffices hk : hX (gO LL xs) (D + 1) zR_167 75 [some (.ref 63), some (.int x0)] [.int (bif gCmp .eq (v_128 x0 2) 0 then ((upd (upd m_s 6 (bif gCmp .eq (v_128 x0 0) 0 then (m_s 6) else 0)) 5 (bif gCmp .eq (v_128 x0 1) 0 then ((upd m_s 6 (bif gCmp .eq (v_128 x0 0) 0 then (m_s 6) else 0)) 5) else 0)) 7) else 0), .int 7, .ref 64] (hMm c0 (upd (upd m_s 6 (bif gCmp .eq (v_128 x0 0) 0 then (m_s 6) else 0)) 5 (bif gCmp .eq (v_128 x0 1) 0 then ((upd m_s 6 (bif gCmp .eq (v_128 x0 0) 0 then (m_s 6) else 0)) 5) else 0)) m_kp m_as m_ik m_fo m_tl m_tr m_fa m_od m_rc m_be m_ft m_tp m_td m_tk m_bg m_en m_vl m_sg m_wi m_si m_ce m_ca) none (hMm c0 (f_167_63_m_s x0 m_s) m_kp m_as m_ik m_fo m_tl m_tr m_fa m_od m_rc m_be m_ft m_tp m_td m_tk m_bg m_en m_vl m_sg m_wi m_si m_ce m_ca) by
    refine hX_if (gCmp .eq (v_128 x0 2) 0) (fun c3 => ?_) (fun c3 => ?_)
    · skip
      refine hX_goM 4 (75) [some (.ref 63), some (.int x0)] [.int ((upd (upd m_s 6 (bif gCmp .eq (v_128 x0 0) 0 then (m_s 6) else 0)) 5 (bif gCmp .eq (v_128 x0 1) 0 then ((upd m_s 6 (bif gCmp .eq (v_128 x0 0) 0 then (m_s 6) else 0)) 5) else 0)) 7), .int 7, .ref 64] rfl ?_
      have hk := hk
      simp only [c3, cond_true, cond_false] at hk
      first | exact hk | (simp only [c3, cond_true, cond_false]; exact hk)
    · skip
      refine hX_goM 2 (75) [some (.ref 63), some (.int x0)] [.int 0, .int 7, .ref 64] rfl ?_
      have hk := hk
      simp only [c3, cond_true, cond_false] at hk
      first | exact hk | (simp only [c3, cond_true, cond_false]; exact hk)
  refine hX_go 6 (84) [some (.ref 63), some (.int x0)] [.int 3, .int x0, .int 8, .ref 64] (hMm c0 (upd (upd (upd m_s 6 (bif gCmp .eq (v_128 x0 0) 0 then (m_s 6) else 0)) 5 (bif gCmp .eq (v_128 x0 1) 0 then ((upd m_s 6 (bif gCmp .eq (v_128 x0 0) 0 then (m_s 6) else 0)) 5) else 0)) 7 (bif gCmp .eq (v_128 x0 2) 0 then ((upd (upd m_s 6 (bif gCmp .eq (v_128 x0 0) 0 then (m_s 6) else 0)) 5 (bif gCmp .eq (v_128 x0 1) 0 then ((upd m_s 6 (bif gCmp .eq (v_128 x0 0) 0 then (m_s 6) else 0)) 5) else 0)) 7) else 0)) m_kp m_as m_ik m_fo m_tl m_tr m_fa m_od m_rc m_be m_ft m_tp m_td m_tk m_bg m_en m_vl m_sg m_wi m_si m_ce m_ca) rfl ?_
  refine hX_call (r' := zR_128) rfl (ct_128 x0 3) ?_
  refine hX_goM 1 (bif gCmp .eq (v_128 x0 3) 0 then 95 else 90) [some (.ref 63), some (.int x0)] [.int 8, .ref 64] rfl ?_
  suffices hk : hX (gO LL xs) (D + 1) zR_167 102 [some (.ref 63), some (.int x0)] [.int (bif gCmp .eq (v_128 x0 3) 0 then ((upd (upd (upd m_s 6 (bif gCmp .eq (v_128 x0 0) 0 then (m_s 6) else 0)) 5 (bif gCmp .eq (v_128 x0 1) 0 then ((upd m_s 6 (bif gCmp .eq (v_128 x0 0) 0 then (m_s 6) else 0)) 5) else 0)) 7 (bif gCmp .eq (v_128 x0 2) 0 then ((upd (upd m_s 6 (bif gCmp .eq (v_128 x0 0) 0 then (m_s 6) else 0)) 5 (bif gCmp .eq (v_128 x0 1) 0 then ((upd m_s 6 (bif gCmp .eq (v_128 x0 0) 0 then (m_s 6) else 0)) 5) else 0)) 7) else 0)) 8) else 60), .int 8, .ref 64] (hMm c0 (upd (upd (upd m_s 6 (bif gCmp .eq (v_128 x0 0) 0 then (m_s 6) else 0)) 5 (bif gCmp .eq (v_128 x0 1) 0 then ((upd m_s 6 (bif gCmp .eq (v_128 x0 0) 0 then (m_s 6) else 0)) 5) else 0)) 7 (bif gCmp .eq (v_128 x0 2) 0 then ((upd (upd m_s 6 (bif gCmp .eq (v_128 x0 0) 0 then (m_s 6) else 0)) 5 (bif gCmp .eq (v_128 x0 1) 0 then ((upd m_s 6 (bif gCmp .eq (v_128 x0 0) 0 then (m_s 6) else 0)) 5) else 0)) 7) else 0)) m_kp m_as m_ik m_fo m_tl m_tr m_fa m_od m_rc m_be m_ft m_tp m_td m_tk m_bg m_en m_vl m_sg m_wi m_si m_ce m_ca) none (hMm c0 (f_167_63_m_s x0 m_s) m_kp m_as m_ik m_fo m_tl m_tr m_fa m_od m_rc m_be m_ft m_tp m_td m_tk m_bg m_en m_vl m_sg m_wi m_si m_ce m_ca) by
    refine hX_if (gCmp .eq (v_128 x0 3) 0) (fun c4 => ?_) (fun c4 => ?_)
    · skip
      refine hX_goM 4 (102) [some (.ref 63), some (.int x0)] [.int ((upd (upd (upd m_s 6 (bif gCmp .eq (v_128 x0 0) 0 then (m_s 6) else 0)) 5 (bif gCmp .eq (v_128 x0 1) 0 then ((upd m_s 6 (bif gCmp .eq (v_128 x0 0) 0 then (m_s 6) else 0)) 5) else 0)) 7 (bif gCmp .eq (v_128 x0 2) 0 then ((upd (upd m_s 6 (bif gCmp .eq (v_128 x0 0) 0 then (m_s 6) else 0)) 5 (bif gCmp .eq (v_128 x0 1) 0 then ((upd m_s 6 (bif gCmp .eq (v_128 x0 0) 0 then (m_s 6) else 0)) 5) else 0)) 7) else 0)) 8), .int 8, .ref 64] rfl ?_
      have hk := hk
      simp only [c4, cond_true, cond_false] at hk
      first | exact hk | (simp only [c4, cond_true, cond_false]; exact hk)
    · skip
      refine hX_goM 2 (102) [some (.ref 63), some (.int x0)] [.int 60, .int 8, .ref 64] rfl ?_
      have hk := hk
      simp only [c4, cond_true, cond_false] at hk
      first | exact hk | (simp only [c4, cond_true, cond_false]; exact hk)
  refine hX_go 1 (103) [some (.ref 63), some (.int x0)] [] (hMm c0 (upd (upd (upd (upd m_s 6 (bif gCmp .eq (v_128 x0 0) 0 then (m_s 6) else 0)) 5 (bif gCmp .eq (v_128 x0 1) 0 then ((upd m_s 6 (bif gCmp .eq (v_128 x0 0) 0 then (m_s 6) else 0)) 5) else 0)) 7 (bif gCmp .eq (v_128 x0 2) 0 then ((upd (upd m_s 6 (bif gCmp .eq (v_128 x0 0) 0 then (m_s 6) else 0)) 5 (bif gCmp .eq (v_128 x0 1) 0 then ((upd m_s 6 (bif gCmp .eq (v_128 x0 0) 0 then (m_s 6) else 0)) 5) else 0)) 7) else 0)) 8 (bif gCmp .eq (v_128 x0 3) 0 then ((upd (upd (upd m_s 6 (bif gCmp .eq (v_128 x0 0) 0 then (m_s 6) else 0)) 5 (bif gCmp .eq (v_128 x0 1) 0 then ((upd m_s 6 (bif gCmp .eq (v_128 x0 0) 0 then (m_s 6) else 0)) 5) else 0)) 7 (bif gCmp .eq (v_128 x0 2) 0 then ((upd (upd m_s 6 (bif gCmp .eq (v_128 x0 0) 0 then (m_s 6) else 0)) 5 (bif gCmp .eq (v_128 x0 1) 0 then ((upd m_s 6 (bif gCmp .eq (v_128 x0 0) 0 then (m_s 6) else 0)) 5) else 0)) 7) else 0)) 8) else 60)) m_kp m_as m_ik m_fo m_tl m_tr m_fa m_od m_rc m_be m_ft m_tp m_td m_tk m_bg m_en m_vl m_sg m_wi m_si m_ce m_ca) rfl ?_
  exact hX_end rfl (rfl) (rfl)

/-- UpOneSideModel.bestMends: the loop at 41 -/
def lp_168_63_41 (N : Nat) (y1 : Int32) (y2 : Int32) (y3 : Int32) (y4 : Int32) (y5 : Int32) (y6 : Int32) (y7 : Int32) : Nat → Int32 → Int32 → (Nat → Int32) → Int32 → Int32 → Option (Int32 × Int32 × (Nat → Int32) × Int32 × Int32)
  | 0, _, _, _, _, _ => none
  | n + 1, y8, y9, m_s, m_tl, m_tr =>
    (bif gCmp .ge y9 16 then
      some (y8, y9, m_s, m_tl, m_tr)
    else
      (Option.bind (me_137_63 N y1 y2 (f_167_63_m_s y9 m_s)) fun q2 =>
      (bif gCmp .eq (bif gCmp .gt (v_126 q2.1) y3 then 0 else 1) 0 then
        lp_168_63_41 N y1 y2 y3 y4 y5 y6 y7 n y8 (y9 + 1) (upd (upd (upd (upd (f_167_63_m_s y9 m_s) 5 y4) 6 y5) 7 y6) 8 y7) q2.2.1 q2.2.2
      else
        (bif gCmp .lt y8 0 then
          lp_168_63_41 N y1 y2 y3 y4 y5 y6 y7 n y9 (y9 + 1) (upd (upd (upd (upd (f_167_63_m_s y9 m_s) 5 y4) 6 y5) 7 y6) 8 y7) q2.2.1 q2.2.2
        else
          (Option.bind (me_166_63 N y9 (f_167_63_m_s y9 m_s)) fun q7 =>
          (Option.bind (me_166_63 N y8 (f_167_63_m_s y9 m_s)) fun q8 =>
          lp_168_63_41 N y1 y2 y3 y4 y5 y6 y7 n (bif gCmp .ge q7 q8 then y8 else y9) (y9 + 1) (upd (upd (upd (upd (f_167_63_m_s y9 m_s) 5 y4) 6 y5) 7 y6) 8 y7) q2.2.1 q2.2.2))))))
set_option maxRecDepth 20000 in
set_option maxHeartbeats 4000000 in
theorem lt_168_63_41 {LL : Nat} {xs : Nat → Int32} {D N : Nat} {c0 : Nat → gE}  {m_kp : Nat → Int32} {m_as : Nat → Int32} {m_ik : Int32} {m_fo : Nat → Int32}   {m_fa : Nat → Int32} {m_od : Nat → Int32} {m_rc : Int32} {m_be : Nat → Int32} {m_ft : Int32} {m_tp : Nat → Int32} {m_td : Int32} {m_tk : Int32} {m_bg : Int32} {m_en : Int32} {m_vl : Int64} {m_sg : Int32} {m_wi : Nat → Int32} {m_si : Nat → Int32} {m_ce : Nat → Int32} {m_ca : Nat → Int32} {y1 : Int32} {y2 : Int32} {y3 : Int32} {y4 : Int32} {y5 : Int32} {y6 : Int32} {y7 : Int32} {v : Option Value} {M' : List gE} : ∀ (n : Nat) (y8 : Int32) (y9 : Int32) (m_s : Nat → Int32) (m_tl : Int32) (m_tr : Int32) (q : Int32 × Int32 × (Nat → Int32) × Int32 × Int32), lp_168_63_41 N y1 y2 y3 y4 y5 y6 y7 n y8 y9 m_s m_tl m_tr = some q → (kk : hX (gO LL xs) (D + 4) zR_168 149 [some (.ref 63), some (.int y1), some (.int y2), some (.int y3), some (.int y4), some (.int y5), some (.int y6), some (.int y7), some (.int q.1), some (.int q.2.1), none] [] (hMm c0 q.2.2.1 m_kp m_as m_ik m_fo q.2.2.2.1 q.2.2.2.2 m_fa m_od m_rc m_be m_ft m_tp m_td m_tk m_bg m_en m_vl m_sg m_wi m_si m_ce m_ca) v M') → hX (gO LL xs) (D + 4) zR_168 41 [some (.ref 63), some (.int y1), some (.int y2), some (.int y3), some (.int y4), some (.int y5), some (.int y6), some (.int y7), some (.int y8), some (.int y9), none] [] (hMm c0 m_s m_kp m_as m_ik m_fo m_tl m_tr m_fa m_od m_rc m_be m_ft m_tp m_td m_tk m_bg m_en m_vl m_sg m_wi m_si m_ce m_ca) v M' := by
  intro n
  induction n with
  | zero => intro y8 y9 m_s m_tl m_tr q h; cases h
  | succ n ih =>
    intro y8 y9 m_s m_tl m_tr q h kk
    rw [lp_168_63_41] at h
    refine hX_go 3 (bif gCmp .ge y9 16 then 149 else 48) [some (.ref 63), some (.int y1), some (.int y2), some (.int y3), some (.int y4), some (.int y5), some (.int y6), some (.int y7), some (.int y8), some (.int y9), none] [] (hMm c0 m_s m_kp m_as m_ik m_fo m_tl m_tr m_fa m_od m_rc m_be m_ft m_tp m_td m_tk m_bg m_en m_vl m_sg m_wi m_si m_ce m_ca) rfl ?_
    refine hX_if (gCmp .ge y9 16) (fun c1 => ?_) (fun c1 => ?_)
    · skip
      have h := gcT c1 h
      have h := Option.some.inj h; subst h
      exact kk
    · skip
      have h := gcF c1 h
      refine hX_goM 2 (51) [some (.ref 63), some (.int y1), some (.int y2), some (.int y3), some (.int y4), some (.int y5), some (.int y6), some (.int y7), some (.int y8), some (.int y9), none] [.int y9, .ref 63] rfl ?_
      refine hX_call (r' := zR_167) rfl (ct_167_63 y9) ?_
      refine hX_go 3 (57) [some (.ref 63), some (.int y1), some (.int y2), some (.int y3), some (.int y4), some (.int y5), some (.int y6), some (.int y7), some (.int y8), some (.int y9), none] [.int y2, .int y1, .ref 63] (hMm c0 (f_167_63_m_s y9 m_s) m_kp m_as m_ik m_fo m_tl m_tr m_fa m_od m_rc m_be m_ft m_tp m_td m_tk m_bg m_en m_vl m_sg m_wi m_si m_ce m_ca) rfl ?_
      revert h; refine gBindR fun q2 e2 h => ?_
      refine hX_call (r' := zR_137) rfl (mt_137_63 N y1 y2 q2 e2) ?_
      refine hX_go 0 (60) [some (.ref 63), some (.int y1), some (.int y2), some (.int y3), some (.int y4), some (.int y5), some (.int y6), some (.int y7), some (.int y8), some (.int y9), none] [.int q2.1] (hMm c0 (f_167_63_m_s y9 m_s) m_kp m_as m_ik m_fo q2.2.1 q2.2.2 m_fa m_od m_rc m_be m_ft m_tp m_td m_tk m_bg m_en m_vl m_sg m_wi m_si m_ce m_ca) rfl ?_
      refine hX_call (r' := zR_126) rfl (ct_126 q2.1) ?_
      refine hX_goM 2 (bif gCmp .gt (v_126 q2.1) y3 then 71 else 67) [some (.ref 63), some (.int y1), some (.int y2), some (.int y3), some (.int y4), some (.int y5), some (.int y6), some (.int y7), some (.int y8), some (.int y9), none] [] rfl ?_
      refine hX_mrg 72 [some (.ref 63), some (.int y1), some (.int y2), some (.int y3), some (.int y4), some (.int y5), some (.int y6), some (.int y7), some (.int y8), some (.int y9), none] [.int (bif gCmp .gt (v_126 q2.1) y3 then 0 else 1)] (hMm c0 (f_167_63_m_s y9 m_s) m_kp m_as m_ik m_fo q2.2.1 q2.2.2 m_fa m_od m_rc m_be m_ft m_tp m_td m_tk m_bg m_en m_vl m_sg m_wi m_si m_ce m_ca) (fun hk => ?_) ?_
      · skip
        refine hX_if (gCmp .gt (v_126 q2.1) y3) (fun c4 => ?_) (fun c4 => ?_)
        · skip
          refine hX_goM 1 (72) [some (.ref 63), some (.int y1), some (.int y2), some (.int y3), some (.int y4), some (.int y5), some (.int y6), some (.int y7), some (.int y8), some (.int y9), none] [.int 0] rfl ?_
          have hk := hk
          simp only [c4, cond_true, cond_false] at hk
          first | exact hk | (simp only [c4, cond_true, cond_false]; exact hk)
        · skip
          refine hX_goM 2 (72) [some (.ref 63), some (.int y1), some (.int y2), some (.int y3), some (.int y4), some (.int y5), some (.int y6), some (.int y7), some (.int y8), some (.int y9), none] [.int 1] rfl ?_
          have hk := hk
          simp only [c4, cond_true, cond_false] at hk
          first | exact hk | (simp only [c4, cond_true, cond_false]; exact hk)
      refine hX_goM 3 (bif gCmp .eq (bif gCmp .gt (v_126 q2.1) y3 then 0 else 1) 0 then 104 else 79) [some (.ref 63), some (.int y1), some (.int y2), some (.int y3), some (.int y4), some (.int y5), some (.int y6), some (.int y7), some (.int y8), some (.int y9), some (.int (bif gCmp .gt (v_126 q2.1) y3 then 0 else 1))] [] rfl ?_
      refine hX_if (gCmp .eq (bif gCmp .gt (v_126 q2.1) y3 then 0 else 1) 0) (fun c5 => ?_) (fun c5 => ?_)
      · skip
        have h := gcT c5 h
        refine hX_go 9 (120) [some (.ref 63), some (.int y1), some (.int y2), some (.int y3), some (.int y4), some (.int y5), some (.int y6), some (.int y7), some (.int y8), some (.int y9), some (.int (bif gCmp .gt (v_126 q2.1) y3 then 0 else 1))] [.ref 64] (hMm c0 (upd (f_167_63_m_s y9 m_s) 5 y4) m_kp m_as m_ik m_fo q2.2.1 q2.2.2 m_fa m_od m_rc m_be m_ft m_tp m_td m_tk m_bg m_en m_vl m_sg m_wi m_si m_ce m_ca) rfl ?_
        refine hX_go 9 (135) [some (.ref 63), some (.int y1), some (.int y2), some (.int y3), some (.int y4), some (.int y5), some (.int y6), some (.int y7), some (.int y8), some (.int y9), some (.int (bif gCmp .gt (v_126 q2.1) y3 then 0 else 1))] [.ref 63] (hMm c0 (upd (upd (upd (f_167_63_m_s y9 m_s) 5 y4) 6 y5) 7 y6) m_kp m_as m_ik m_fo q2.2.1 q2.2.2 m_fa m_od m_rc m_be m_ft m_tp m_td m_tk m_bg m_en m_vl m_sg m_wi m_si m_ce m_ca) rfl ?_
        refine hX_go 6 (41) [some (.ref 63), some (.int y1), some (.int y2), some (.int y3), some (.int y4), some (.int y5), some (.int y6), some (.int y7), some (.int y8), some (.int (y9 + 1)), some (.int (bif gCmp .gt (v_126 q2.1) y3 then 0 else 1))] [] (hMm c0 (upd (upd (upd (upd (f_167_63_m_s y9 m_s) 5 y4) 6 y5) 7 y6) 8 y7) m_kp m_as m_ik m_fo q2.2.1 q2.2.2 m_fa m_od m_rc m_be m_ft m_tp m_td m_tk m_bg m_en m_vl m_sg m_wi m_si m_ce m_ca) rfl ?_
        exact hX_wk (gLe_s (gLe_s (gLe_s (gLe_s (gLe_s (gLe_s (gLe_s (gLe_s (gLe_s (gLe_s (gLe_n gLe_0))))))))))) (ih y8 (y9 + 1) (upd (upd (upd (upd (f_167_63_m_s y9 m_s) 5 y4) 6 y5) 7 y6) 8 y7) q2.2.1 q2.2.2 q h kk)
      · skip
        have h := gcF c5 h
        refine hX_goM 2 (bif gCmp .lt y8 0 then 99 else 84) [some (.ref 63), some (.int y1), some (.int y2), some (.int y3), some (.int y4), some (.int y5), some (.int y6), some (.int y7), some (.int y8), some (.int y9), some (.int (bif gCmp .gt (v_126 q2.1) y3 then 0 else 1))] [] rfl ?_
        refine hX_if (gCmp .lt y8 0) (fun c6 => ?_) (fun c6 => ?_)
        · skip
          have h := gcT c6 h
          refine hX_go 9 (117) [some (.ref 63), some (.int y1), some (.int y2), some (.int y3), some (.int y4), some (.int y5), some (.int y6), some (.int y7), some (.int y9), some (.int y9), some (.int (bif gCmp .gt (v_126 q2.1) y3 then 0 else 1))] [.ref 63] (hMm c0 (upd (f_167_63_m_s y9 m_s) 5 y4) m_kp m_as m_ik m_fo q2.2.1 q2.2.2 m_fa m_od m_rc m_be m_ft m_tp m_td m_tk m_bg m_en m_vl m_sg m_wi m_si m_ce m_ca) rfl ?_
          refine hX_go 9 (134) [some (.ref 63), some (.int y1), some (.int y2), some (.int y3), some (.int y4), some (.int y5), some (.int y6), some (.int y7), some (.int y9), some (.int y9), some (.int (bif gCmp .gt (v_126 q2.1) y3 then 0 else 1))] [] (hMm c0 (upd (upd (upd (f_167_63_m_s y9 m_s) 5 y4) 6 y5) 7 y6) m_kp m_as m_ik m_fo q2.2.1 q2.2.2 m_fa m_od m_rc m_be m_ft m_tp m_td m_tk m_bg m_en m_vl m_sg m_wi m_si m_ce m_ca) rfl ?_
          refine hX_go 7 (41) [some (.ref 63), some (.int y1), some (.int y2), some (.int y3), some (.int y4), some (.int y5), some (.int y6), some (.int y7), some (.int y9), some (.int (y9 + 1)), some (.int (bif gCmp .gt (v_126 q2.1) y3 then 0 else 1))] [] (hMm c0 (upd (upd (upd (upd (f_167_63_m_s y9 m_s) 5 y4) 6 y5) 7 y6) 8 y7) m_kp m_as m_ik m_fo q2.2.1 q2.2.2 m_fa m_od m_rc m_be m_ft m_tp m_td m_tk m_bg m_en m_vl m_sg m_wi m_si m_ce m_ca) rfl ?_
          exact hX_wk (gLe_s (gLe_s (gLe_s (gLe_s (gLe_s (gLe_s (gLe_s (gLe_s (gLe_s (gLe_s (gLe_n gLe_0))))))))))) (ih y9 (y9 + 1) (upd (upd (upd (upd (f_167_63_m_s y9 m_s) 5 y4) 6 y5) 7 y6) 8 y7) q2.2.1 q2.2.2 q h kk)
        · skip
          have h := gcF c6 h
          refine hX_goM 2 (87) [some (.ref 63), some (.int y1), some (.int y2), some (.int y3), some (.int y4), some (.int y5), some (.int y6), some (.int y7), some (.int y8), some (.int y9), some (.int (bif gCmp .gt (v_126 q2.1) y3 then 0 else 1))] [.int y9, .ref 63] rfl ?_
          revert h; refine gBindR fun q7 e7 h => ?_
          refine hX_call (r' := zR_166) rfl (mt_166_63 N y9 q7 e7) ?_
          refine hX_goM 2 (93) [some (.ref 63), some (.int y1), some (.int y2), some (.int y3), some (.int y4), some (.int y5), some (.int y6), some (.int y7), some (.int y8), some (.int y9), some (.int (bif gCmp .gt (v_126 q2.1) y3 then 0 else 1))] [.int y8, .ref 63, .int q7] rfl ?_
          revert h; refine gBindR fun q8 e8 h => ?_
          refine hX_call (r' := zR_166) rfl (mt_166_63 N y8 q8 e8) ?_
          refine hX_goM 1 (bif gCmp .ge q7 q8 then 104 else 99) [some (.ref 63), some (.int y1), some (.int y2), some (.int y3), some (.int y4), some (.int y5), some (.int y6), some (.int y7), some (.int y8), some (.int y9), some (.int (bif gCmp .gt (v_126 q2.1) y3 then 0 else 1))] [] rfl ?_
          refine hX_mrg 106 [some (.ref 63), some (.int y1), some (.int y2), some (.int y3), some (.int y4), some (.int y5), some (.int y6), some (.int y7), some (.int y8), some (.int y9), some (.int (bif gCmp .gt (v_126 q2.1) y3 then 0 else 1))] [.int (bif gCmp .ge q7 q8 then y8 else y9)] (hMm c0 (f_167_63_m_s y9 m_s) m_kp m_as m_ik m_fo q2.2.1 q2.2.2 m_fa m_od m_rc m_be m_ft m_tp m_td m_tk m_bg m_en m_vl m_sg m_wi m_si m_ce m_ca) (fun hk => ?_) ?_
          · skip
            refine hX_if (gCmp .ge q7 q8) (fun c10 => ?_) (fun c10 => ?_)
            · skip
              refine hX_goM 1 (106) [some (.ref 63), some (.int y1), some (.int y2), some (.int y3), some (.int y4), some (.int y5), some (.int y6), some (.int y7), some (.int y8), some (.int y9), some (.int (bif gCmp .gt (v_126 q2.1) y3 then 0 else 1))] [.int y8] rfl ?_
              have hk := hk
              simp only [c10, cond_true, cond_false] at hk
              first | exact hk | (simp only [c10, cond_true, cond_false]; exact hk)
            · skip
              refine hX_goM 2 (106) [some (.ref 63), some (.int y1), some (.int y2), some (.int y3), some (.int y4), some (.int y5), some (.int y6), some (.int y7), some (.int y8), some (.int y9), some (.int (bif gCmp .gt (v_126 q2.1) y3 then 0 else 1))] [.int y9] rfl ?_
              have hk := hk
              simp only [c10, cond_true, cond_false] at hk
              first | exact hk | (simp only [c10, cond_true, cond_false]; exact hk)
          refine hX_go 9 (122) [some (.ref 63), some (.int y1), some (.int y2), some (.int y3), some (.int y4), some (.int y5), some (.int y6), some (.int y7), some (.int (bif gCmp .ge q7 q8 then y8 else y9)), some (.int y9), some (.int (bif gCmp .gt (v_126 q2.1) y3 then 0 else 1))] [.int 6, .ref 64] (hMm c0 (upd (f_167_63_m_s y9 m_s) 5 y4) m_kp m_as m_ik m_fo q2.2.1 q2.2.2 m_fa m_od m_rc m_be m_ft m_tp m_td m_tk m_bg m_en m_vl m_sg m_wi m_si m_ce m_ca) rfl ?_
          refine hX_go 9 (138) [some (.ref 63), some (.int y1), some (.int y2), some (.int y3), some (.int y4), some (.int y5), some (.int y6), some (.int y7), some (.int (bif gCmp .ge q7 q8 then y8 else y9)), some (.int y9), some (.int (bif gCmp .gt (v_126 q2.1) y3 then 0 else 1))] [.ref 64] (hMm c0 (upd (upd (upd (f_167_63_m_s y9 m_s) 5 y4) 6 y5) 7 y6) m_kp m_as m_ik m_fo q2.2.1 q2.2.2 m_fa m_od m_rc m_be m_ft m_tp m_td m_tk m_bg m_en m_vl m_sg m_wi m_si m_ce m_ca) rfl ?_
          refine hX_go 5 (41) [some (.ref 63), some (.int y1), some (.int y2), some (.int y3), some (.int y4), some (.int y5), some (.int y6), some (.int y7), some (.int (bif gCmp .ge q7 q8 then y8 else y9)), some (.int (y9 + 1)), some (.int (bif gCmp .gt (v_126 q2.1) y3 then 0 else 1))] [] (hMm c0 (upd (upd (upd (upd (f_167_63_m_s y9 m_s) 5 y4) 6 y5) 7 y6) 8 y7) m_kp m_as m_ik m_fo q2.2.1 q2.2.2 m_fa m_od m_rc m_be m_ft m_tp m_td m_tk m_bg m_en m_vl m_sg m_wi m_si m_ce m_ca) rfl ?_
          exact hX_wk (gLe_s (gLe_s (gLe_s (gLe_s (gLe_s (gLe_s (gLe_s (gLe_s (gLe_s (gLe_s (gLe_n gLe_0))))))))))) (ih (bif gCmp .ge q7 q8 then y8 else y9) (y9 + 1) (upd (upd (upd (upd (f_167_63_m_s y9 m_s) 5 y4) 6 y5) 7 y6) 8 y7) q2.2.1 q2.2.2 q h kk)

/-- UpOneSideModel.bestMends(III)I -/
def me_168_63 (N : Nat) (x0 : Int32) (x1 : Int32) (x2 : Int32) (m_s : Nat → Int32) (m_tl : Int32) (m_tr : Int32) : Option (Int32 × (Nat → Int32) × Int32 × Int32) :=
  (Option.bind (lp_168_63_41 N x0 x1 x2 (m_s 5) (m_s 6) (m_s 7) (m_s 8) N (-1) 0 m_s m_tl m_tr) fun q1 =>
  some (q1.1, q1.2.2.1, q1.2.2.2.1, q1.2.2.2.2))
set_option maxRecDepth 20000 in
set_option maxHeartbeats 4000000 in
theorem mt_168_63 {LL : Nat} {xs : Nat → Int32} {D : Nat} {c0 : Nat → gE} {m_s : Nat → Int32} {m_kp : Nat → Int32} {m_as : Nat → Int32} {m_ik : Int32} {m_fo : Nat → Int32} {m_tl : Int32} {m_tr : Int32} {m_fa : Nat → Int32} {m_od : Nat → Int32} {m_rc : Int32} {m_be : Nat → Int32} {m_ft : Int32} {m_tp : Nat → Int32} {m_td : Int32} {m_tk : Int32} {m_bg : Int32} {m_en : Int32} {m_vl : Int64} {m_sg : Int32} {m_wi : Nat → Int32} {m_si : Nat → Int32} {m_ce : Nat → Int32} {m_ca : Nat → Int32} (N : Nat) (x0 : Int32) (x1 : Int32) (x2 : Int32) (q : Int32 × (Nat → Int32) × Int32 × Int32) (h : me_168_63 N x0 x1 x2 m_s m_tl m_tr = some q) : hM (gO LL xs) (D + 4) zR_168 [.ref 63, .int x0, .int x1, .int x2] (hMm c0 m_s m_kp m_as m_ik m_fo m_tl m_tr m_fa m_od m_rc m_be m_ft m_tp m_td m_tk m_bg m_en m_vl m_sg m_wi m_si m_ce m_ca) (some (.int q.1)) (hMm c0 q.2.1 m_kp m_as m_ik m_fo q.2.2.1 q.2.2.2 m_fa m_od m_rc m_be m_ft m_tp m_td m_tk m_bg m_en m_vl m_sg m_wi m_si m_ce m_ca) := by
  unfold me_168_63 at h
  refine hX_go 0 0 [some (.ref 63), some (.int x0), some (.int x1), some (.int x2), none, none, none, none, none, none, none] [] (hMm c0 m_s m_kp m_as m_ik m_fo m_tl m_tr m_fa m_od m_rc m_be m_ft m_tp m_td m_tk m_bg m_en m_vl m_sg m_wi m_si m_ce m_ca) rfl ?_
  refine hX_go 9 (15) [some (.ref 63), some (.int x0), some (.int x1), some (.int x2), some (.int (m_s 5)), none, none, none, none, none, none] [.int (m_s 6)] (hMm c0 m_s m_kp m_as m_ik m_fo m_tl m_tr m_fa m_od m_rc m_be m_ft m_tp m_td m_tk m_bg m_en m_vl m_sg m_wi m_si m_ce m_ca) rfl ?_
  refine hX_goM 9 (32) [some (.ref 63), some (.int x0), some (.int x1), some (.int x2), some (.int (m_s 5)), some (.int (m_s 6)), some (.int (m_s 7)), none, none, none, none] [.int 8, .ref 64] rfl ?_
  refine hX_goM 6 (41) [some (.ref 63), some (.int x0), some (.int x1), some (.int x2), some (.int (m_s 5)), some (.int (m_s 6)), some (.int (m_s 7)), some (.int (m_s 8)), some (.int (-1)), some (.int 0), none] [] rfl ?_
  revert h; refine gBindR fun q1 e1 h => ?_
  refine lt_168_63_41 N (-1) 0 m_s m_tl m_tr q1 e1 ?_
  refine hX_go 1 (151) [some (.ref 63), some (.int x0), some (.int x1), some (.int x2), some (.int (m_s 5)), some (.int (m_s 6)), some (.int (m_s 7)), some (.int (m_s 8)), some (.int q1.1), some (.int q1.2.1), none] [.int q1.1] (hMm c0 q1.2.2.1 m_kp m_as m_ik m_fo q1.2.2.2.1 q1.2.2.2.2 m_fa m_od m_rc m_be m_ft m_tp m_td m_tk m_bg m_en m_vl m_sg m_wi m_si m_ce m_ca) rfl ?_
  have h := Option.some.inj h; subst h
  exact hX_end rfl rfl rfl

/-- UpOneSideModel.isAsked(III)Z -/
def v_169_63 (x0 : Int32) (x1 : Int32) (x2 : Int32) (m_s : Nat → Int32) : Int32 := bif gCmp .eq (v_129_63 x0 m_s) 0 then 0 else (bif gCmp .eq (v_125 x1 0 20) 0 then 0 else (bif gCmp .eq (v_130 x2) 0 then 0 else 1))
set_option maxRecDepth 20000 in
set_option maxHeartbeats 1000000 in
theorem ct_169_63 {LL : Nat} {xs : Nat → Int32} {D : Nat} {c0 : Nat → gE} {m_s : Nat → Int32} {m_kp : Nat → Int32} {m_as : Nat → Int32} {m_ik : Int32} {m_fo : Nat → Int32} {m_tl : Int32} {m_tr : Int32} {m_fa : Nat → Int32} {m_od : Nat → Int32} {m_rc : Int32} {m_be : Nat → Int32} {m_ft : Int32} {m_tp : Nat → Int32} {m_td : Int32} {m_tk : Int32} {m_bg : Int32} {m_en : Int32} {m_vl : Int64} {m_sg : Int32} {m_wi : Nat → Int32} {m_si : Nat → Int32} {m_ce : Nat → Int32} {m_ca : Nat → Int32} (x0 : Int32) (x1 : Int32) (x2 : Int32) : hM (gO LL xs) (D + 2) zR_169 [.ref 63, .int x0, .int x1, .int x2] (hMm c0 m_s m_kp m_as m_ik m_fo m_tl m_tr m_fa m_od m_rc m_be m_ft m_tp m_td m_tk m_bg m_en m_vl m_sg m_wi m_si m_ce m_ca) (some (.int (v_169_63 x0 x1 x2 m_s))) (hMm c0 m_s m_kp m_as m_ik m_fo m_tl m_tr m_fa m_od m_rc m_be m_ft m_tp m_td m_tk m_bg m_en m_vl m_sg m_wi m_si m_ce m_ca) := by
  refine hX_go 0 0 [some (.ref 63), some (.int x0), some (.int x1), some (.int x2)] [] (hMm c0 m_s m_kp m_as m_ik m_fo m_tl m_tr m_fa m_od m_rc m_be m_ft m_tp m_td m_tk m_bg m_en m_vl m_sg m_wi m_si m_ce m_ca) rfl ?_
  refine hX_go 2 (2) [some (.ref 63), some (.int x0), some (.int x1), some (.int x2)] [.int x0, .ref 63] (hMm c0 m_s m_kp m_as m_ik m_fo m_tl m_tr m_fa m_od m_rc m_be m_ft m_tp m_td m_tk m_bg m_en m_vl m_sg m_wi m_si m_ce m_ca) rfl ?_
  refine hX_call (r' := zR_129) rfl (ct_129_63 x0) ?_
  refine hX_goM 1 (bif gCmp .eq (v_129_63 x0 m_s) 0 then 29 else 8) [some (.ref 63), some (.int x0), some (.int x1), some (.int x2)] [] rfl ?_
  refine hX_if (gCmp .eq (v_129_63 x0 m_s) 0) (fun c1 => ?_) (fun c1 => ?_)
  · skip
    refine hX_goM 1 (30) [some (.ref 63), some (.int x0), some (.int x1), some (.int x2)] [.int 0] rfl ?_
    exact hX_end rfl (by unfold v_169_63; rw [c1]; rfl) (rfl)
  · skip
    refine hX_goM 3 (12) [some (.ref 63), some (.int x0), some (.int x1), some (.int x2)] [.int 20, .int 0, .int x1] rfl ?_
    refine hX_call (r' := zR_125) rfl (ct_125 x1 0 20) ?_
    refine hX_goM 1 (bif gCmp .eq (v_125 x1 0 20) 0 then 29 else 18) [some (.ref 63), some (.int x0), some (.int x1), some (.int x2)] [] rfl ?_
    refine hX_if (gCmp .eq (v_125 x1 0 20) 0) (fun c2 => ?_) (fun c2 => ?_)
    · skip
      refine hX_goM 1 (30) [some (.ref 63), some (.int x0), some (.int x1), some (.int x2)] [.int 0] rfl ?_
      exact hX_end rfl (by unfold v_169_63; rw [c1, c2]; rfl) (rfl)
    · skip
      refine hX_goM 1 (19) [some (.ref 63), some (.int x0), some (.int x1), some (.int x2)] [.int x2] rfl ?_
      refine hX_call (r' := zR_130) rfl (ct_130 x2) ?_
      refine hX_goM 1 (bif gCmp .eq (v_130 x2) 0 then 29 else 25) [some (.ref 63), some (.int x0), some (.int x1), some (.int x2)] [] rfl ?_
      refine hX_if (gCmp .eq (v_130 x2) 0) (fun c3 => ?_) (fun c3 => ?_)
      · skip
        refine hX_goM 1 (30) [some (.ref 63), some (.int x0), some (.int x1), some (.int x2)] [.int 0] rfl ?_
        exact hX_end rfl (by unfold v_169_63; rw [c1, c2, c3]; rfl) (rfl)
      · skip
        refine hX_goM 2 (30) [some (.ref 63), some (.int x0), some (.int x1), some (.int x2)] [.int 1] rfl ?_
        exact hX_end rfl (by unfold v_169_63; rw [c1, c2, c3]; rfl) (rfl)

theorem bz_169_63 (x0 : Int32) (x1 : Int32) (x2 : Int32) (m_s : Nat → Int32) : (decide (v_169_63 x0 x1 x2 m_s = 0) || decide (v_169_63 x0 x1 x2 m_s = 1)) = true := by
  unfold v_169_63
  cases (gCmp .eq (v_129_63 x0 m_s) 0)
  · cases (gCmp .eq (v_125 x1 0 20) 0)
    · cases (gCmp .eq (v_130 x2) 0)
      · rfl
      · rfl
    · rfl
  · rfl


/-- UpOneSideModel.mends(III)I -/
def me_170_63 (N : Nat) (x0 : Int32) (x1 : Int32) (x2 : Int32) (m_s : Nat → Int32) (m_fo : Nat → Int32) (m_tl : Int32) (m_tr : Int32) : Option (Int32 × (Nat → Int32) × (Nat → Int32) × Int32 × Int32) :=
  (bif gCmp .ne (v_169_63 x0 x1 x2 m_s) 0 then
    (Option.bind (me_168_63 N x0 x1 x2 m_s m_tl m_tr) fun q2 =>
    some (bif gCmp .ge q2.1 0 then q2.1 else (v_124_63 3), q2.2.1, bif gCmp .ge q2.1 0 then m_fo else (f_124_63_m_fo 3 m_fo), q2.2.2.1, q2.2.2.2))
  else
    some (v_124_63 0, m_s, f_124_63_m_fo 0 m_fo, m_tl, m_tr))
set_option maxRecDepth 20000 in
set_option maxHeartbeats 4000000 in
theorem mt_170_63 {LL : Nat} {xs : Nat → Int32} {D : Nat} {c0 : Nat → gE} {m_s : Nat → Int32} {m_kp : Nat → Int32} {m_as : Nat → Int32} {m_ik : Int32} {m_fo : Nat → Int32} {m_tl : Int32} {m_tr : Int32} {m_fa : Nat → Int32} {m_od : Nat → Int32} {m_rc : Int32} {m_be : Nat → Int32} {m_ft : Int32} {m_tp : Nat → Int32} {m_td : Int32} {m_tk : Int32} {m_bg : Int32} {m_en : Int32} {m_vl : Int64} {m_sg : Int32} {m_wi : Nat → Int32} {m_si : Nat → Int32} {m_ce : Nat → Int32} {m_ca : Nat → Int32} (N : Nat) (x0 : Int32) (x1 : Int32) (x2 : Int32) (q : Int32 × (Nat → Int32) × (Nat → Int32) × Int32 × Int32) (h : me_170_63 N x0 x1 x2 m_s m_fo m_tl m_tr = some q) : hM (gO LL xs) (D + 5) zR_170 [.ref 63, .int x0, .int x1, .int x2] (hMm c0 m_s m_kp m_as m_ik m_fo m_tl m_tr m_fa m_od m_rc m_be m_ft m_tp m_td m_tk m_bg m_en m_vl m_sg m_wi m_si m_ce m_ca) (some (.int q.1)) (hMm c0 q.2.1 m_kp m_as m_ik q.2.2.1 q.2.2.2.1 q.2.2.2.2 m_fa m_od m_rc m_be m_ft m_tp m_td m_tk m_bg m_en m_vl m_sg m_wi m_si m_ce m_ca) := by
  unfold me_170_63 at h
  refine hX_go 0 0 [some (.ref 63), some (.int x0), some (.int x1), some (.int x2), none] [] (hMm c0 m_s m_kp m_as m_ik m_fo m_tl m_tr m_fa m_od m_rc m_be m_ft m_tp m_td m_tk m_bg m_en m_vl m_sg m_wi m_si m_ce m_ca) rfl ?_
  refine hX_go 4 (4) [some (.ref 63), some (.int x0), some (.int x1), some (.int x2), none] [.int x2, .int x1, .int x0, .ref 63] (hMm c0 m_s m_kp m_as m_ik m_fo m_tl m_tr m_fa m_od m_rc m_be m_ft m_tp m_td m_tk m_bg m_en m_vl m_sg m_wi m_si m_ce m_ca) rfl ?_
  refine hX_call (r' := zR_169) rfl (ct_169_63 x0 x1 x2) ?_
  refine hX_goM 1 (bif gCmp .ne (v_169_63 x0 x1 x2 m_s) 0 then 16 else 10) [some (.ref 63), some (.int x0), some (.int x1), some (.int x2), none] [] rfl ?_
  refine hX_if (gCmp .ne (v_169_63 x0 x1 x2 m_s) 0) (fun c1 => ?_) (fun c1 => ?_)
  · skip
    have h := gcT c1 h
    refine hX_goM 4 (20) [some (.ref 63), some (.int x0), some (.int x1), some (.int x2), none] [.int x2, .int x1, .int x0, .ref 63] rfl ?_
    revert h; refine gBindR fun q2 e2 h => ?_
    refine hX_call (r' := zR_168) rfl (mt_168_63 N x0 x1 x2 q2 e2) ?_
    refine hX_go 3 (bif gCmp .ge q2.1 0 then 38 else 30) [some (.ref 63), some (.int x0), some (.int x1), some (.int x2), some (.int q2.1)] [] (hMm c0 q2.2.1 m_kp m_as m_ik m_fo q2.2.2.1 q2.2.2.2 m_fa m_od m_rc m_be m_ft m_tp m_td m_tk m_bg m_en m_vl m_sg m_wi m_si m_ce m_ca) rfl ?_
    refine hX_mrg 40 [some (.ref 63), some (.int x0), some (.int x1), some (.int x2), some (.int q2.1)] [.int (bif gCmp .ge q2.1 0 then q2.1 else (v_124_63 3))] (hMm c0 q2.2.1 m_kp m_as m_ik (bif gCmp .ge q2.1 0 then m_fo else (f_124_63_m_fo 3 m_fo)) q2.2.2.1 q2.2.2.2 m_fa m_od m_rc m_be m_ft m_tp m_td m_tk m_bg m_en m_vl m_sg m_wi m_si m_ce m_ca) (fun hk => ?_) ?_
    · skip
      refine hX_if (gCmp .ge q2.1 0) (fun c4 => ?_) (fun c4 => ?_)
      · skip
        refine hX_goM 1 (40) [some (.ref 63), some (.int x0), some (.int x1), some (.int x2), some (.int q2.1)] [.int q2.1] rfl ?_
        have hk := hk
        simp only [c4, cond_true, cond_false] at hk
        first | exact hk | (simp only [c4, cond_true, cond_false]; exact hk)
      · skip
        refine hX_goM 2 (32) [some (.ref 63), some (.int x0), some (.int x1), some (.int x2), some (.int q2.1)] [.int 3, .ref 63] rfl ?_
        refine hX_call (r' := zR_124) rfl (ct_124_63 3 rfl) ?_
        refine hX_go 1 (40) [some (.ref 63), some (.int x0), some (.int x1), some (.int x2), some (.int q2.1)] [.int (v_124_63 3)] (hMm c0 q2.2.1 m_kp m_as m_ik (f_124_63_m_fo 3 m_fo) q2.2.2.1 q2.2.2.2 m_fa m_od m_rc m_be m_ft m_tp m_td m_tk m_bg m_en m_vl m_sg m_wi m_si m_ce m_ca) rfl ?_
        have hk := hk
        simp only [c4, cond_true, cond_false] at hk
        first | exact hk | (simp only [c4, cond_true, cond_false]; exact hk)
    have h := Option.some.inj h; subst h
    exact hX_end rfl rfl rfl
  · skip
    have h := gcF c1 h
    refine hX_goM 2 (12) [some (.ref 63), some (.int x0), some (.int x1), some (.int x2), none] [.int 0, .ref 63] rfl ?_
    refine hX_call (r' := zR_124) rfl (ct_124_63 0 rfl) ?_
    refine hX_go 0 (15) [some (.ref 63), some (.int x0), some (.int x1), some (.int x2), none] [.int (v_124_63 0)] (hMm c0 m_s m_kp m_as m_ik (f_124_63_m_fo 0 m_fo) m_tl m_tr m_fa m_od m_rc m_be m_ft m_tp m_td m_tk m_bg m_en m_vl m_sg m_wi m_si m_ce m_ca) rfl ?_
    have h := Option.some.inj h; subst h
    exact hX_end rfl rfl rfl


/-- UpOneSideModel.costs(III)I -/
def me_171_63 (N : Nat) (x0 : Int32) (x1 : Int32) (x2 : Int32) (m_s : Nat → Int32) (m_fo : Nat → Int32) (m_tl : Int32) (m_tr : Int32) : Option (Int32 × (Nat → Int32) × (Nat → Int32) × Int32 × Int32) :=
  (bif gCmp .ne (v_169_63 x0 x1 x2 m_s) 0 then
    (Option.bind (me_168_63 N x0 x1 x2 m_s m_tl m_tr) fun q2 =>
    (bif gCmp .ge q2.1 0 then
      (Option.bind (me_166_63 N q2.1 q2.2.1) fun q4 =>
      some (q4, q2.2.1, m_fo, q2.2.2.1, q2.2.2.2))
    else
      some (v_124_63 3, q2.2.1, f_124_63_m_fo 3 m_fo, q2.2.2.1, q2.2.2.2)))
  else
    some (v_124_63 0, m_s, f_124_63_m_fo 0 m_fo, m_tl, m_tr))
set_option maxRecDepth 20000 in
set_option maxHeartbeats 4000000 in
theorem mt_171_63 {LL : Nat} {xs : Nat → Int32} {D : Nat} {c0 : Nat → gE} {m_s : Nat → Int32} {m_kp : Nat → Int32} {m_as : Nat → Int32} {m_ik : Int32} {m_fo : Nat → Int32} {m_tl : Int32} {m_tr : Int32} {m_fa : Nat → Int32} {m_od : Nat → Int32} {m_rc : Int32} {m_be : Nat → Int32} {m_ft : Int32} {m_tp : Nat → Int32} {m_td : Int32} {m_tk : Int32} {m_bg : Int32} {m_en : Int32} {m_vl : Int64} {m_sg : Int32} {m_wi : Nat → Int32} {m_si : Nat → Int32} {m_ce : Nat → Int32} {m_ca : Nat → Int32} (N : Nat) (x0 : Int32) (x1 : Int32) (x2 : Int32) (q : Int32 × (Nat → Int32) × (Nat → Int32) × Int32 × Int32) (h : me_171_63 N x0 x1 x2 m_s m_fo m_tl m_tr = some q) : hM (gO LL xs) (D + 5) zR_171 [.ref 63, .int x0, .int x1, .int x2] (hMm c0 m_s m_kp m_as m_ik m_fo m_tl m_tr m_fa m_od m_rc m_be m_ft m_tp m_td m_tk m_bg m_en m_vl m_sg m_wi m_si m_ce m_ca) (some (.int q.1)) (hMm c0 q.2.1 m_kp m_as m_ik q.2.2.1 q.2.2.2.1 q.2.2.2.2 m_fa m_od m_rc m_be m_ft m_tp m_td m_tk m_bg m_en m_vl m_sg m_wi m_si m_ce m_ca) := by
  unfold me_171_63 at h
  refine hX_go 0 0 [some (.ref 63), some (.int x0), some (.int x1), some (.int x2), none] [] (hMm c0 m_s m_kp m_as m_ik m_fo m_tl m_tr m_fa m_od m_rc m_be m_ft m_tp m_td m_tk m_bg m_en m_vl m_sg m_wi m_si m_ce m_ca) rfl ?_
  refine hX_go 4 (4) [some (.ref 63), some (.int x0), some (.int x1), some (.int x2), none] [.int x2, .int x1, .int x0, .ref 63] (hMm c0 m_s m_kp m_as m_ik m_fo m_tl m_tr m_fa m_od m_rc m_be m_ft m_tp m_td m_tk m_bg m_en m_vl m_sg m_wi m_si m_ce m_ca) rfl ?_
  refine hX_call (r' := zR_169) rfl (ct_169_63 x0 x1 x2) ?_
  refine hX_goM 1 (bif gCmp .ne (v_169_63 x0 x1 x2 m_s) 0 then 16 else 10) [some (.ref 63), some (.int x0), some (.int x1), some (.int x2), none] [] rfl ?_
  refine hX_if (gCmp .ne (v_169_63 x0 x1 x2 m_s) 0) (fun c1 => ?_) (fun c1 => ?_)
  · skip
    have h := gcT c1 h
    refine hX_goM 4 (20) [some (.ref 63), some (.int x0), some (.int x1), some (.int x2), none] [.int x2, .int x1, .int x0, .ref 63] rfl ?_
    revert h; refine gBindR fun q2 e2 h => ?_
    refine hX_call (r' := zR_168) rfl (mt_168_63 N x0 x1 x2 q2 e2) ?_
    refine hX_go 3 (bif gCmp .ge q2.1 0 then 38 else 30) [some (.ref 63), some (.int x0), some (.int x1), some (.int x2), some (.int q2.1)] [] (hMm c0 q2.2.1 m_kp m_as m_ik m_fo q2.2.2.1 q2.2.2.2 m_fa m_od m_rc m_be m_ft m_tp m_td m_tk m_bg m_en m_vl m_sg m_wi m_si m_ce m_ca) rfl ?_
    refine hX_if (gCmp .ge q2.1 0) (fun c3 => ?_) (fun c3 => ?_)
    · skip
      have h := gcT c3 h
      refine hX_goM 2 (41) [some (.ref 63), some (.int x0), some (.int x1), some (.int x2), some (.int q2.1)] [.int q2.1, .ref 63] rfl ?_
      revert h; refine gBindR fun q4 e4 h => ?_
      refine hX_call (r' := zR_166) rfl (mt_166_63 N q2.1 q4 e4) ?_
      refine hX_goM 0 (44) [some (.ref 63), some (.int x0), some (.int x1), some (.int x2), some (.int q2.1)] [.int q4] rfl ?_
      have h := Option.some.inj h; subst h
      exact hX_end rfl rfl rfl
    · skip
      have h := gcF c3 h
      refine hX_goM 2 (32) [some (.ref 63), some (.int x0), some (.int x1), some (.int x2), some (.int q2.1)] [.int 3, .ref 63] rfl ?_
      refine hX_call (r' := zR_124) rfl (ct_124_63 3 rfl) ?_
      refine hX_go 1 (44) [some (.ref 63), some (.int x0), some (.int x1), some (.int x2), some (.int q2.1)] [.int (v_124_63 3)] (hMm c0 q2.2.1 m_kp m_as m_ik (f_124_63_m_fo 3 m_fo) q2.2.2.1 q2.2.2.2 m_fa m_od m_rc m_be m_ft m_tp m_td m_tk m_bg m_en m_vl m_sg m_wi m_si m_ce m_ca) rfl ?_
      have h := Option.some.inj h; subst h
      exact hX_end rfl rfl rfl
  · skip
    have h := gcF c1 h
    refine hX_goM 2 (12) [some (.ref 63), some (.int x0), some (.int x1), some (.int x2), none] [.int 0, .ref 63] rfl ?_
    refine hX_call (r' := zR_124) rfl (ct_124_63 0 rfl) ?_
    refine hX_go 0 (15) [some (.ref 63), some (.int x0), some (.int x1), some (.int x2), none] [.int (v_124_63 0)] (hMm c0 m_s m_kp m_as m_ik (f_124_63_m_fo 0 m_fo) m_tl m_tr m_fa m_od m_rc m_be m_ft m_tp m_td m_tk m_bg m_en m_vl m_sg m_wi m_si m_ce m_ca) rfl ?_
    have h := Option.some.inj h; subst h
    exact hX_end rfl rfl rfl


/-- UpOneSideModel.mended(I)I -/
def me_172_63 (N : Nat) (x0 : Int32) (m_s : Nat → Int32) (m_fo : Nat → Int32) : Option (Int32 × (Nat → Int32) × (Nat → Int32)) :=
  (bif gCmp .ne (v_125 x0 0 15) 0 then
    (Option.bind (me_166_63 N x0 (f_167_63_m_s x0 m_s)) fun q2 =>
    some (q2, f_167_63_m_s x0 m_s, m_fo))
  else
    some (v_124_63 0, m_s, f_124_63_m_fo 0 m_fo))
set_option maxRecDepth 20000 in
set_option maxHeartbeats 4000000 in
theorem mt_172_63 {LL : Nat} {xs : Nat → Int32} {D : Nat} {c0 : Nat → gE} {m_s : Nat → Int32} {m_kp : Nat → Int32} {m_as : Nat → Int32} {m_ik : Int32} {m_fo : Nat → Int32} {m_tl : Int32} {m_tr : Int32} {m_fa : Nat → Int32} {m_od : Nat → Int32} {m_rc : Int32} {m_be : Nat → Int32} {m_ft : Int32} {m_tp : Nat → Int32} {m_td : Int32} {m_tk : Int32} {m_bg : Int32} {m_en : Int32} {m_vl : Int64} {m_sg : Int32} {m_wi : Nat → Int32} {m_si : Nat → Int32} {m_ce : Nat → Int32} {m_ca : Nat → Int32} (N : Nat) (x0 : Int32) (q : Int32 × (Nat → Int32) × (Nat → Int32)) (h : me_172_63 N x0 m_s m_fo = some q) : hM (gO LL xs) (D + 2) zR_172 [.ref 63, .int x0] (hMm c0 m_s m_kp m_as m_ik m_fo m_tl m_tr m_fa m_od m_rc m_be m_ft m_tp m_td m_tk m_bg m_en m_vl m_sg m_wi m_si m_ce m_ca) (some (.int q.1)) (hMm c0 q.2.1 m_kp m_as m_ik q.2.2 m_tl m_tr m_fa m_od m_rc m_be m_ft m_tp m_td m_tk m_bg m_en m_vl m_sg m_wi m_si m_ce m_ca) := by
  unfold me_172_63 at h
  refine hX_go 0 0 [some (.ref 63), some (.int x0)] [] (hMm c0 m_s m_kp m_as m_ik m_fo m_tl m_tr m_fa m_od m_rc m_be m_ft m_tp m_td m_tk m_bg m_en m_vl m_sg m_wi m_si m_ce m_ca) rfl ?_
  refine hX_go 3 (4) [some (.ref 63), some (.int x0)] [.int 15, .int 0, .int x0] (hMm c0 m_s m_kp m_as m_ik m_fo m_tl m_tr m_fa m_od m_rc m_be m_ft m_tp m_td m_tk m_bg m_en m_vl m_sg m_wi m_si m_ce m_ca) rfl ?_
  refine hX_call (r' := zR_125) rfl (ct_125 x0 0 15) ?_
  refine hX_goM 1 (bif gCmp .ne (v_125 x0 0 15) 0 then 16 else 10) [some (.ref 63), some (.int x0)] [] rfl ?_
  refine hX_if (gCmp .ne (v_125 x0 0 15) 0) (fun c1 => ?_) (fun c1 => ?_)
  · skip
    have h := gcT c1 h
    refine hX_goM 2 (18) [some (.ref 63), some (.int x0)] [.int x0, .ref 63] rfl ?_
    refine hX_call (r' := zR_167) rfl (ct_167_63 x0) ?_
    refine hX_go 2 (23) [some (.ref 63), some (.int x0)] [.int x0, .ref 63] (hMm c0 (f_167_63_m_s x0 m_s) m_kp m_as m_ik m_fo m_tl m_tr m_fa m_od m_rc m_be m_ft m_tp m_td m_tk m_bg m_en m_vl m_sg m_wi m_si m_ce m_ca) rfl ?_
    revert h; refine gBindR fun q2 e2 h => ?_
    refine hX_call (r' := zR_166) rfl (mt_166_63 N x0 q2 e2) ?_
    refine hX_goM 0 (26) [some (.ref 63), some (.int x0)] [.int q2] rfl ?_
    have h := Option.some.inj h; subst h
    exact hX_end rfl rfl rfl
  · skip
    have h := gcF c1 h
    refine hX_goM 2 (12) [some (.ref 63), some (.int x0)] [.int 0, .ref 63] rfl ?_
    refine hX_call (r' := zR_124) rfl (ct_124_63 0 rfl) ?_
    refine hX_go 0 (15) [some (.ref 63), some (.int x0)] [.int (v_124_63 0)] (hMm c0 m_s m_kp m_as m_ik (f_124_63_m_fo 0 m_fo) m_tl m_tr m_fa m_od m_rc m_be m_ft m_tp m_td m_tk m_bg m_en m_vl m_sg m_wi m_si m_ce m_ca) rfl ?_
    have h := Option.some.inj h; subst h
    exact hX_end rfl rfl rfl

/-- UpOneSideModel.isHour(I)Z -/
def v_173 (x0 : Int32) : Int32 := v_125 x0 0 23
set_option maxRecDepth 20000 in
set_option maxHeartbeats 1000000 in
theorem ct_173 {LL : Nat} {xs : Nat → Int32} {D : Nat} {c0 : Nat → gE} {m_s : Nat → Int32} {m_kp : Nat → Int32} {m_as : Nat → Int32} {m_ik : Int32} {m_fo : Nat → Int32} {m_tl : Int32} {m_tr : Int32} {m_fa : Nat → Int32} {m_od : Nat → Int32} {m_rc : Int32} {m_be : Nat → Int32} {m_ft : Int32} {m_tp : Nat → Int32} {m_td : Int32} {m_tk : Int32} {m_bg : Int32} {m_en : Int32} {m_vl : Int64} {m_sg : Int32} {m_wi : Nat → Int32} {m_si : Nat → Int32} {m_ce : Nat → Int32} {m_ca : Nat → Int32} (x0 : Int32) : hM (gO LL xs) (D + 1) zR_173 [.int x0] (hMm c0 m_s m_kp m_as m_ik m_fo m_tl m_tr m_fa m_od m_rc m_be m_ft m_tp m_td m_tk m_bg m_en m_vl m_sg m_wi m_si m_ce m_ca) (some (.int (v_173 x0))) (hMm c0 m_s m_kp m_as m_ik m_fo m_tl m_tr m_fa m_od m_rc m_be m_ft m_tp m_td m_tk m_bg m_en m_vl m_sg m_wi m_si m_ce m_ca) := by
  refine hX_go 0 0 [some (.int x0)] [] (hMm c0 m_s m_kp m_as m_ik m_fo m_tl m_tr m_fa m_od m_rc m_be m_ft m_tp m_td m_tk m_bg m_en m_vl m_sg m_wi m_si m_ce m_ca) rfl ?_
  refine hX_go 3 (4) [some (.int x0)] [.int 23, .int 0, .int x0] (hMm c0 m_s m_kp m_as m_ik m_fo m_tl m_tr m_fa m_od m_rc m_be m_ft m_tp m_td m_tk m_bg m_en m_vl m_sg m_wi m_si m_ce m_ca) rfl ?_
  refine hX_call (r' := zR_125) rfl (ct_125 x0 0 23) ?_
  refine hX_goM 0 (7) [some (.int x0)] [.int (v_125 x0 0 23)] rfl ?_
  exact hX_endZ rfl (bz_125 x0 0 23) (rfl) (rfl)

theorem bz_173 (x0 : Int32) : (decide (v_173 x0 = 0) || decide (v_173 x0 = 1)) = true := by
  unfold v_173
  exact (bz_125 x0 0 23)


/-- UpOneSideModel.sun(II)I -/
def me_174_63 (N : Nat) (x0 : Int32) (x1 : Int32) (m_s : Nat → Int32) (m_fo : Nat → Int32) : Option (Int32 × (Nat → Int32) × (Nat → Int32)) :=
  (bif gCmp .eq (v_173 x0) 0 then
    some (v_124_63 0, m_s, f_124_63_m_fo 0 m_fo)
  else
    (bif gCmp .ne (v_130 x1) 0 then
      (bif gIn (100 + x0) 134 then (bif gIn (100 + x0) 134 then some (m_s (Int32.toNatClampNeg (100 + x0)), upd m_s (Int32.toNatClampNeg (100 + x0)) x1, m_fo) else none) else none)
    else
      some (v_124_63 0, m_s, f_124_63_m_fo 0 m_fo)))
set_option maxRecDepth 20000 in
set_option maxHeartbeats 4000000 in
theorem mt_174_63 {LL : Nat} {xs : Nat → Int32} {D : Nat} {c0 : Nat → gE} {m_s : Nat → Int32} {m_kp : Nat → Int32} {m_as : Nat → Int32} {m_ik : Int32} {m_fo : Nat → Int32} {m_tl : Int32} {m_tr : Int32} {m_fa : Nat → Int32} {m_od : Nat → Int32} {m_rc : Int32} {m_be : Nat → Int32} {m_ft : Int32} {m_tp : Nat → Int32} {m_td : Int32} {m_tk : Int32} {m_bg : Int32} {m_en : Int32} {m_vl : Int64} {m_sg : Int32} {m_wi : Nat → Int32} {m_si : Nat → Int32} {m_ce : Nat → Int32} {m_ca : Nat → Int32} (N : Nat) (x0 : Int32) (x1 : Int32) (q : Int32 × (Nat → Int32) × (Nat → Int32)) (h : me_174_63 N x0 x1 m_s m_fo = some q) : hM (gO LL xs) (D + 2) zR_174 [.ref 63, .int x0, .int x1] (hMm c0 m_s m_kp m_as m_ik m_fo m_tl m_tr m_fa m_od m_rc m_be m_ft m_tp m_td m_tk m_bg m_en m_vl m_sg m_wi m_si m_ce m_ca) (some (.int q.1)) (hMm c0 q.2.1 m_kp m_as m_ik q.2.2 m_tl m_tr m_fa m_od m_rc m_be m_ft m_tp m_td m_tk m_bg m_en m_vl m_sg m_wi m_si m_ce m_ca) := by
  unfold me_174_63 at h
  refine hX_go 0 0 [some (.ref 63), some (.int x0), some (.int x1), none] [] (hMm c0 m_s m_kp m_as m_ik m_fo m_tl m_tr m_fa m_od m_rc m_be m_ft m_tp m_td m_tk m_bg m_en m_vl m_sg m_wi m_si m_ce m_ca) rfl ?_
  refine hX_go 1 (1) [some (.ref 63), some (.int x0), some (.int x1), none] [.int x0] (hMm c0 m_s m_kp m_as m_ik m_fo m_tl m_tr m_fa m_od m_rc m_be m_ft m_tp m_td m_tk m_bg m_en m_vl m_sg m_wi m_si m_ce m_ca) rfl ?_
  refine hX_call (r' := zR_173) rfl (ct_173 x0) ?_
  refine hX_goM 1 (bif gCmp .eq (v_173 x0) 0 then 14 else 7) [some (.ref 63), some (.int x0), some (.int x1), none] [] rfl ?_
  refine hX_if (gCmp .eq (v_173 x0) 0) (fun c1 => ?_) (fun c1 => ?_)
  · skip
    have h := gcT c1 h
    refine hX_goM 2 (16) [some (.ref 63), some (.int x0), some (.int x1), none] [.int 0, .ref 63] rfl ?_
    refine hX_call (r' := zR_124) rfl (ct_124_63 0 rfl) ?_
    refine hX_go 0 (19) [some (.ref 63), some (.int x0), some (.int x1), none] [.int (v_124_63 0)] (hMm c0 m_s m_kp m_as m_ik (f_124_63_m_fo 0 m_fo) m_tl m_tr m_fa m_od m_rc m_be m_ft m_tp m_td m_tk m_bg m_en m_vl m_sg m_wi m_si m_ce m_ca) rfl ?_
    have h := Option.some.inj h; subst h
    exact hX_end rfl rfl rfl
  · skip
    have h := gcF c1 h
    refine hX_goM 1 (8) [some (.ref 63), some (.int x0), some (.int x1), none] [.int x1] rfl ?_
    refine hX_call (r' := zR_130) rfl (ct_130 x1) ?_
    refine hX_goM 1 (bif gCmp .ne (v_130 x1) 0 then 20 else 14) [some (.ref 63), some (.int x0), some (.int x1), none] [] rfl ?_
    refine hX_if (gCmp .ne (v_130 x1) 0) (fun c2 => ?_) (fun c2 => ?_)
    · skip
      have h := gcT c2 h
      refine hX_goM 5 (28) [some (.ref 63), some (.int x0), some (.int x1), none] [.int (100 + x0), .ref 64] rfl ?_
      revert h; refine gCondR fun g3 h => ?_
      refine hX_gM (gIn (100 + x0) 134) 29 [some (.ref 63), some (.int x0), some (.int x1), none] [.int (m_s (Int32.toNatClampNeg (100 + x0)))] rfl g3 ?_
      refine hX_goM 7 (39) [some (.ref 63), some (.int x0), some (.int x1), some (.int (m_s (Int32.toNatClampNeg (100 + x0))))] [.int x1, .int (100 + x0), .ref 64] rfl ?_
      revert h; refine gCondR fun g4 h => ?_
      refine hX_g (gIn (100 + x0) 134) 40 [some (.ref 63), some (.int x0), some (.int x1), some (.int (m_s (Int32.toNatClampNeg (100 + x0))))] [] (hMm c0 (upd m_s (Int32.toNatClampNeg (100 + x0)) x1) m_kp m_as m_ik m_fo m_tl m_tr m_fa m_od m_rc m_be m_ft m_tp m_td m_tk m_bg m_en m_vl m_sg m_wi m_si m_ce m_ca) rfl g4 ?_
      refine hX_goM 1 (41) [some (.ref 63), some (.int x0), some (.int x1), some (.int (m_s (Int32.toNatClampNeg (100 + x0))))] [.int (m_s (Int32.toNatClampNeg (100 + x0)))] rfl ?_
      have h := Option.some.inj h; subst h
      exact hX_end rfl rfl rfl
    · skip
      have h := gcF c2 h
      refine hX_goM 2 (16) [some (.ref 63), some (.int x0), some (.int x1), none] [.int 0, .ref 63] rfl ?_
      refine hX_call (r' := zR_124) rfl (ct_124_63 0 rfl) ?_
      refine hX_go 0 (19) [some (.ref 63), some (.int x0), some (.int x1), none] [.int (v_124_63 0)] (hMm c0 m_s m_kp m_as m_ik (f_124_63_m_fo 0 m_fo) m_tl m_tr m_fa m_od m_rc m_be m_ft m_tp m_td m_tk m_bg m_en m_vl m_sg m_wi m_si m_ce m_ca) rfl ?_
      have h := Option.some.inj h; subst h
      exact hX_end rfl rfl rfl

/-- UpOneSideModel.isInEyes(II)Z -/
def v_175_63 (x0 : Int32) (x1 : Int32) (m_s : Nat → Int32) : Int32 := bif gCmp .le x1 (m_s (Int32.toNatClampNeg (100 + x0))) then 0 else (bif gCmp .lt (m_s (Int32.toNatClampNeg (100 + x0))) (m_s 10) then 0 else 1)
set_option maxRecDepth 20000 in
set_option maxHeartbeats 1000000 in
theorem ct_175_63 {LL : Nat} {xs : Nat → Int32} {D : Nat} {c0 : Nat → gE} {m_s : Nat → Int32} {m_kp : Nat → Int32} {m_as : Nat → Int32} {m_ik : Int32} {m_fo : Nat → Int32} {m_tl : Int32} {m_tr : Int32} {m_fa : Nat → Int32} {m_od : Nat → Int32} {m_rc : Int32} {m_be : Nat → Int32} {m_ft : Int32} {m_tp : Nat → Int32} {m_td : Int32} {m_tk : Int32} {m_bg : Int32} {m_en : Int32} {m_vl : Int64} {m_sg : Int32} {m_wi : Nat → Int32} {m_si : Nat → Int32} {m_ce : Nat → Int32} {m_ca : Nat → Int32} (x0 : Int32) (x1 : Int32) (o1 : gIn (100 + x0) 134 = true) : hM (gO LL xs) (D + 0) zR_175 [.ref 63, .int x0, .int x1] (hMm c0 m_s m_kp m_as m_ik m_fo m_tl m_tr m_fa m_od m_rc m_be m_ft m_tp m_td m_tk m_bg m_en m_vl m_sg m_wi m_si m_ce m_ca) (some (.int (v_175_63 x0 x1 m_s))) (hMm c0 m_s m_kp m_as m_ik m_fo m_tl m_tr m_fa m_od m_rc m_be m_ft m_tp m_td m_tk m_bg m_en m_vl m_sg m_wi m_si m_ce m_ca) := by
  refine hX_go 0 0 [some (.ref 63), some (.int x0), some (.int x1)] [] (hMm c0 m_s m_kp m_as m_ik m_fo m_tl m_tr m_fa m_od m_rc m_be m_ft m_tp m_td m_tk m_bg m_en m_vl m_sg m_wi m_si m_ce m_ca) rfl ?_
  refine hX_go 6 (9) [some (.ref 63), some (.int x0), some (.int x1)] [.int (100 + x0), .ref 64, .int x1] (hMm c0 m_s m_kp m_as m_ik m_fo m_tl m_tr m_fa m_od m_rc m_be m_ft m_tp m_td m_tk m_bg m_en m_vl m_sg m_wi m_si m_ce m_ca) rfl ?_
  refine hX_gM (gIn (100 + x0) 134) 10 [some (.ref 63), some (.int x0), some (.int x1)] [.int (m_s (Int32.toNatClampNeg (100 + x0))), .int x1] rfl o1 ?_
  refine hX_goM 1 (bif gCmp .le x1 (m_s (Int32.toNatClampNeg (100 + x0))) then 36 else 13) [some (.ref 63), some (.int x0), some (.int x1)] [] rfl ?_
  refine hX_if (gCmp .le x1 (m_s (Int32.toNatClampNeg (100 + x0)))) (fun c1 => ?_) (fun c1 => ?_)
  · skip
    refine hX_goM 1 (37) [some (.ref 63), some (.int x0), some (.int x1)] [.int 0] rfl ?_
    exact hX_end rfl (by unfold v_175_63; rw [c1]; rfl) (rfl)
  · skip
    refine hX_goM 5 (21) [some (.ref 63), some (.int x0), some (.int x1)] [.int (100 + x0), .ref 64] rfl ?_
    refine hX_gM (gIn (100 + x0) 134) 22 [some (.ref 63), some (.int x0), some (.int x1)] [.int (m_s (Int32.toNatClampNeg (100 + x0)))] rfl o1 ?_
    refine hX_goM 5 (bif gCmp .lt (m_s (Int32.toNatClampNeg (100 + x0))) (m_s 10) then 36 else 32) [some (.ref 63), some (.int x0), some (.int x1)] [] rfl ?_
    refine hX_if (gCmp .lt (m_s (Int32.toNatClampNeg (100 + x0))) (m_s 10)) (fun c2 => ?_) (fun c2 => ?_)
    · skip
      refine hX_goM 1 (37) [some (.ref 63), some (.int x0), some (.int x1)] [.int 0] rfl ?_
      exact hX_end rfl (by unfold v_175_63; rw [c1, c2]; rfl) (rfl)
    · skip
      refine hX_goM 2 (37) [some (.ref 63), some (.int x0), some (.int x1)] [.int 1] rfl ?_
      exact hX_end rfl (by unfold v_175_63; rw [c1, c2]; rfl) (rfl)

theorem bz_175_63 (x0 : Int32) (x1 : Int32) (m_s : Nat → Int32) : (decide (v_175_63 x0 x1 m_s = 0) || decide (v_175_63 x0 x1 m_s = 1)) = true := by
  unfold v_175_63
  cases (gCmp .le x1 (m_s (Int32.toNatClampNeg (100 + x0))))
  · cases (gCmp .lt (m_s (Int32.toNatClampNeg (100 + x0))) (m_s 10))
    · rfl
    · rfl
  · rfl

/-- UpOneSideModel.lightBy(III)I -/
def v_176_63 (x0 : Int32) (x1 : Int32) (x2 : Int32) (m_s : Nat → Int32) : Int32 := (bif gCmp .le (x1 - (m_s (Int32.toNatClampNeg (100 + x0)))) 0 then 0 else (x1 - (m_s (Int32.toNatClampNeg (100 + x0))))) + (bif gCmp .le (x2 - (m_s (Int32.toNatClampNeg (100 + x0)))) 0 then 0 else (x2 - (m_s (Int32.toNatClampNeg (100 + x0)))))
set_option maxRecDepth 20000 in
set_option maxHeartbeats 1000000 in
theorem ct_176_63 {LL : Nat} {xs : Nat → Int32} {D : Nat} {c0 : Nat → gE} {m_s : Nat → Int32} {m_kp : Nat → Int32} {m_as : Nat → Int32} {m_ik : Int32} {m_fo : Nat → Int32} {m_tl : Int32} {m_tr : Int32} {m_fa : Nat → Int32} {m_od : Nat → Int32} {m_rc : Int32} {m_be : Nat → Int32} {m_ft : Int32} {m_tp : Nat → Int32} {m_td : Int32} {m_tk : Int32} {m_bg : Int32} {m_en : Int32} {m_vl : Int64} {m_sg : Int32} {m_wi : Nat → Int32} {m_si : Nat → Int32} {m_ce : Nat → Int32} {m_ca : Nat → Int32} (x0 : Int32) (x1 : Int32) (x2 : Int32) (o1 : gIn (100 + x0) 134 = true) : hM (gO LL xs) (D + 0) zR_176 [.ref 63, .int x0, .int x1, .int x2] (hMm c0 m_s m_kp m_as m_ik m_fo m_tl m_tr m_fa m_od m_rc m_be m_ft m_tp m_td m_tk m_bg m_en m_vl m_sg m_wi m_si m_ce m_ca) (some (.int (v_176_63 x0 x1 x2 m_s))) (hMm c0 m_s m_kp m_as m_ik m_fo m_tl m_tr m_fa m_od m_rc m_be m_ft m_tp m_td m_tk m_bg m_en m_vl m_sg m_wi m_si m_ce m_ca) := by
  refine hX_go 0 0 [some (.ref 63), some (.int x0), some (.int x1), some (.int x2), none, none] [] (hMm c0 m_s m_kp m_as m_ik m_fo m_tl m_tr m_fa m_od m_rc m_be m_ft m_tp m_td m_tk m_bg m_en m_vl m_sg m_wi m_si m_ce m_ca) rfl ?_
  refine hX_go 6 (9) [some (.ref 63), some (.int x0), some (.int x1), some (.int x2), none, none] [.int (100 + x0), .ref 64, .int x1] (hMm c0 m_s m_kp m_as m_ik m_fo m_tl m_tr m_fa m_od m_rc m_be m_ft m_tp m_td m_tk m_bg m_en m_vl m_sg m_wi m_si m_ce m_ca) rfl ?_
  refine hX_gM (gIn (100 + x0) 134) 10 [some (.ref 63), some (.int x0), some (.int x1), some (.int x2), none, none] [.int (m_s (Int32.toNatClampNeg (100 + x0))), .int x1] rfl o1 ?_
  refine hX_goM 8 (22) [some (.ref 63), some (.int x0), some (.int x1), some (.int x2), some (.int (x1 - (m_s (Int32.toNatClampNeg (100 + x0))))), none] [.int (100 + x0), .ref 64, .int x2] rfl ?_
  refine hX_gM (gIn (100 + x0) 134) 23 [some (.ref 63), some (.int x0), some (.int x1), some (.int x2), some (.int (x1 - (m_s (Int32.toNatClampNeg (100 + x0))))), none] [.int (m_s (Int32.toNatClampNeg (100 + x0))), .int x2] rfl o1 ?_
  refine hX_goM 4 (bif gCmp .le (x1 - (m_s (Int32.toNatClampNeg (100 + x0)))) 0 then 36 else 31) [some (.ref 63), some (.int x0), some (.int x1), some (.int x2), some (.int (x1 - (m_s (Int32.toNatClampNeg (100 + x0))))), some (.int (x2 - (m_s (Int32.toNatClampNeg (100 + x0)))))] [] rfl ?_
  suffices hk : hX (gO LL xs) (D + 0) zR_176 37 [some (.ref 63), some (.int x0), some (.int x1), some (.int x2), some (.int (x1 - (m_s (Int32.toNatClampNeg (100 + x0))))), some (.int (x2 - (m_s (Int32.toNatClampNeg (100 + x0)))))] [.int (bif gCmp .le (x1 - (m_s (Int32.toNatClampNeg (100 + x0)))) 0 then 0 else (x1 - (m_s (Int32.toNatClampNeg (100 + x0)))))] (hMm c0 m_s m_kp m_as m_ik m_fo m_tl m_tr m_fa m_od m_rc m_be m_ft m_tp m_td m_tk m_bg m_en m_vl m_sg m_wi m_si m_ce m_ca) (some (.int (v_176_63 x0 x1 x2 m_s))) (hMm c0 m_s m_kp m_as m_ik m_fo m_tl m_tr m_fa m_od m_rc m_be m_ft m_tp m_td m_tk m_bg m_en m_vl m_sg m_wi m_si m_ce m_ca) by
    refine hX_if (gCmp .le (x1 - (m_s (Int32.toNatClampNeg (100 + x0)))) 0) (fun c1 => ?_) (fun c1 => ?_)
    · skip
      refine hX_goM 1 (37) [some (.ref 63), some (.int x0), some (.int x1), some (.int x2), some (.int (x1 - (m_s (Int32.toNatClampNeg (100 + x0))))), some (.int (x2 - (m_s (Int32.toNatClampNeg (100 + x0)))))] [.int 0] rfl ?_
      have hk := hk
      simp only [c1, cond_true, cond_false] at hk
      first | exact hk | (simp only [c1, cond_true, cond_false]; exact hk)
    · skip
      refine hX_goM 2 (37) [some (.ref 63), some (.int x0), some (.int x1), some (.int x2), some (.int (x1 - (m_s (Int32.toNatClampNeg (100 + x0))))), some (.int (x2 - (m_s (Int32.toNatClampNeg (100 + x0)))))] [.int (x1 - (m_s (Int32.toNatClampNeg (100 + x0))))] rfl ?_
      have hk := hk
      simp only [c1, cond_true, cond_false] at hk
      first | exact hk | (simp only [c1, cond_true, cond_false]; exact hk)
  refine hX_goM 2 (bif gCmp .le (x2 - (m_s (Int32.toNatClampNeg (100 + x0)))) 0 then 47 else 42) [some (.ref 63), some (.int x0), some (.int x1), some (.int x2), some (.int (x1 - (m_s (Int32.toNatClampNeg (100 + x0))))), some (.int (x2 - (m_s (Int32.toNatClampNeg (100 + x0)))))] [.int (bif gCmp .le (x1 - (m_s (Int32.toNatClampNeg (100 + x0)))) 0 then 0 else (x1 - (m_s (Int32.toNatClampNeg (100 + x0)))))] rfl ?_
  suffices hk : hX (gO LL xs) (D + 0) zR_176 48 [some (.ref 63), some (.int x0), some (.int x1), some (.int x2), some (.int (x1 - (m_s (Int32.toNatClampNeg (100 + x0))))), some (.int (x2 - (m_s (Int32.toNatClampNeg (100 + x0)))))] [.int (bif gCmp .le (x2 - (m_s (Int32.toNatClampNeg (100 + x0)))) 0 then 0 else (x2 - (m_s (Int32.toNatClampNeg (100 + x0))))), .int (bif gCmp .le (x1 - (m_s (Int32.toNatClampNeg (100 + x0)))) 0 then 0 else (x1 - (m_s (Int32.toNatClampNeg (100 + x0)))))] (hMm c0 m_s m_kp m_as m_ik m_fo m_tl m_tr m_fa m_od m_rc m_be m_ft m_tp m_td m_tk m_bg m_en m_vl m_sg m_wi m_si m_ce m_ca) (some (.int (v_176_63 x0 x1 x2 m_s))) (hMm c0 m_s m_kp m_as m_ik m_fo m_tl m_tr m_fa m_od m_rc m_be m_ft m_tp m_td m_tk m_bg m_en m_vl m_sg m_wi m_si m_ce m_ca) by
    refine hX_if (gCmp .le (x2 - (m_s (Int32.toNatClampNeg (100 + x0)))) 0) (fun c2 => ?_) (fun c2 => ?_)
    · skip
      refine hX_goM 1 (48) [some (.ref 63), some (.int x0), some (.int x1), some (.int x2), some (.int (x1 - (m_s (Int32.toNatClampNeg (100 + x0))))), some (.int (x2 - (m_s (Int32.toNatClampNeg (100 + x0)))))] [.int 0, .int (bif gCmp .le (x1 - (m_s (Int32.toNatClampNeg (100 + x0)))) 0 then 0 else (x1 - (m_s (Int32.toNatClampNeg (100 + x0)))))] rfl ?_
      have hk := hk
      simp only [c2, cond_true, cond_false] at hk
      first | exact hk | (simp only [c2, cond_true, cond_false]; exact hk)
    · skip
      refine hX_goM 2 (48) [some (.ref 63), some (.int x0), some (.int x1), some (.int x2), some (.int (x1 - (m_s (Int32.toNatClampNeg (100 + x0))))), some (.int (x2 - (m_s (Int32.toNatClampNeg (100 + x0)))))] [.int (x2 - (m_s (Int32.toNatClampNeg (100 + x0)))), .int (bif gCmp .le (x1 - (m_s (Int32.toNatClampNeg (100 + x0)))) 0 then 0 else (x1 - (m_s (Int32.toNatClampNeg (100 + x0)))))] rfl ?_
      have hk := hk
      simp only [c2, cond_true, cond_false] at hk
      first | exact hk | (simp only [c2, cond_true, cond_false]; exact hk)
  refine hX_goM 1 (49) [some (.ref 63), some (.int x0), some (.int x1), some (.int x2), some (.int (x1 - (m_s (Int32.toNatClampNeg (100 + x0))))), some (.int (x2 - (m_s (Int32.toNatClampNeg (100 + x0)))))] [.int ((bif gCmp .le (x1 - (m_s (Int32.toNatClampNeg (100 + x0)))) 0 then 0 else (x1 - (m_s (Int32.toNatClampNeg (100 + x0))))) + (bif gCmp .le (x2 - (m_s (Int32.toNatClampNeg (100 + x0)))) 0 then 0 else (x2 - (m_s (Int32.toNatClampNeg (100 + x0))))))] rfl ?_
  exact hX_end rfl (rfl) (rfl)


/-- UpOneSideModel.hour(II)I -/
def me_177_63 (N : Nat) (x0 : Int32) (x1 : Int32) (m_s : Nat → Int32) (m_fo : Nat → Int32) : Option (Int32 × (Nat → Int32)) :=
  (bif gCmp .eq (v_173 x0) 0 then
    some (v_124_63 0, f_124_63_m_fo 0 m_fo)
  else
    (bif gCmp .ne (v_125 x1 0 2) 0 then
      (bif !(gCmp .ne x1 0) || (!(gCmp .ne x1 1) || (gIn (100 + x0) 134)) then (bif !(gCmp .ne x1 0) || ((gCmp .ne x1 1) || (gIn (100 + x0) 134)) then (bif (gCmp .ne x1 0) || (gIn (100 + x0) 134) then some (bif gCmp .ne x1 0 then (bif gCmp .ne x1 1 then (v_176_63 x0 (m_s 0) (m_s 1) m_s) else (bif gCmp .eq (v_175_63 x0 (m_s 1) m_s) 0 then 0 else 1)) else (m_s (Int32.toNatClampNeg (100 + x0))), m_fo) else none) else none) else none)
    else
      some (v_124_63 0, f_124_63_m_fo 0 m_fo)))
set_option maxRecDepth 20000 in
set_option maxHeartbeats 4000000 in
theorem mt_177_63 {LL : Nat} {xs : Nat → Int32} {D : Nat} {c0 : Nat → gE} {m_s : Nat → Int32} {m_kp : Nat → Int32} {m_as : Nat → Int32} {m_ik : Int32} {m_fo : Nat → Int32} {m_tl : Int32} {m_tr : Int32} {m_fa : Nat → Int32} {m_od : Nat → Int32} {m_rc : Int32} {m_be : Nat → Int32} {m_ft : Int32} {m_tp : Nat → Int32} {m_td : Int32} {m_tk : Int32} {m_bg : Int32} {m_en : Int32} {m_vl : Int64} {m_sg : Int32} {m_wi : Nat → Int32} {m_si : Nat → Int32} {m_ce : Nat → Int32} {m_ca : Nat → Int32} (N : Nat) (x0 : Int32) (x1 : Int32) (q : Int32 × (Nat → Int32)) (h : me_177_63 N x0 x1 m_s m_fo = some q) : hM (gO LL xs) (D + 2) zR_177 [.ref 63, .int x0, .int x1] (hMm c0 m_s m_kp m_as m_ik m_fo m_tl m_tr m_fa m_od m_rc m_be m_ft m_tp m_td m_tk m_bg m_en m_vl m_sg m_wi m_si m_ce m_ca) (some (.int q.1)) (hMm c0 m_s m_kp m_as m_ik q.2 m_tl m_tr m_fa m_od m_rc m_be m_ft m_tp m_td m_tk m_bg m_en m_vl m_sg m_wi m_si m_ce m_ca) := by
  unfold me_177_63 at h
  refine hX_go 0 0 [some (.ref 63), some (.int x0), some (.int x1)] [] (hMm c0 m_s m_kp m_as m_ik m_fo m_tl m_tr m_fa m_od m_rc m_be m_ft m_tp m_td m_tk m_bg m_en m_vl m_sg m_wi m_si m_ce m_ca) rfl ?_
  refine hX_go 1 (1) [some (.ref 63), some (.int x0), some (.int x1)] [.int x0] (hMm c0 m_s m_kp m_as m_ik m_fo m_tl m_tr m_fa m_od m_rc m_be m_ft m_tp m_td m_tk m_bg m_en m_vl m_sg m_wi m_si m_ce m_ca) rfl ?_
  refine hX_call (r' := zR_173) rfl (ct_173 x0) ?_
  refine hX_goM 1 (bif gCmp .eq (v_173 x0) 0 then 16 else 7) [some (.ref 63), some (.int x0), some (.int x1)] [] rfl ?_
  refine hX_if (gCmp .eq (v_173 x0) 0) (fun c1 => ?_) (fun c1 => ?_)
  · skip
    have h := gcT c1 h
    refine hX_goM 2 (18) [some (.ref 63), some (.int x0), some (.int x1)] [.int 0, .ref 63] rfl ?_
    refine hX_call (r' := zR_124) rfl (ct_124_63 0 rfl) ?_
    refine hX_go 0 (21) [some (.ref 63), some (.int x0), some (.int x1)] [.int (v_124_63 0)] (hMm c0 m_s m_kp m_as m_ik (f_124_63_m_fo 0 m_fo) m_tl m_tr m_fa m_od m_rc m_be m_ft m_tp m_td m_tk m_bg m_en m_vl m_sg m_wi m_si m_ce m_ca) rfl ?_
    have h := Option.some.inj h; subst h
    exact hX_end rfl rfl rfl
  · skip
    have h := gcF c1 h
    refine hX_goM 3 (10) [some (.ref 63), some (.int x0), some (.int x1)] [.int 2, .int 0, .int x1] rfl ?_
    refine hX_call (r' := zR_125) rfl (ct_125 x1 0 2) ?_
    refine hX_goM 1 (bif gCmp .ne (v_125 x1 0 2) 0 then 22 else 16) [some (.ref 63), some (.int x0), some (.int x1)] [] rfl ?_
    refine hX_if (gCmp .ne (v_125 x1 0 2) 0) (fun c2 => ?_) (fun c2 => ?_)
    · skip
      have h := gcT c2 h
      refine hX_goM 2 (bif gCmp .ne x1 0 then 38 else 26) [some (.ref 63), some (.int x0), some (.int x1)] [] rfl ?_
      revert h; refine gCondR fun o5 h => ?_
      revert h; refine gCondR fun o6 h => ?_
      revert h; refine gCondR fun o8 h => ?_
      refine hX_mrg 82 [some (.ref 63), some (.int x0), some (.int x1)] [.int (bif gCmp .ne x1 0 then (bif gCmp .ne x1 1 then (v_176_63 x0 (m_s 0) (m_s 1) m_s) else (bif gCmp .eq (v_175_63 x0 (m_s 1) m_s) 0 then 0 else 1)) else (m_s (Int32.toNatClampNeg (100 + x0))))] (hMm c0 m_s m_kp m_as m_ik m_fo m_tl m_tr m_fa m_od m_rc m_be m_ft m_tp m_td m_tk m_bg m_en m_vl m_sg m_wi m_si m_ce m_ca) (fun hk => ?_) ?_
      · skip
        refine hX_if (gCmp .ne x1 0) (fun c9 => ?_) (fun c9 => ?_)
        · skip
          refine hX_goM 3 (bif gCmp .ne x1 1 then 65 else 43) [some (.ref 63), some (.int x0), some (.int x1)] [] rfl ?_
          refine hX_if (gCmp .ne x1 1) (fun c10 => ?_) (fun c10 => ?_)
          · skip
            refine hX_goM 9 (78) [some (.ref 63), some (.int x0), some (.int x1)] [.int 1, .ref 64, .int (m_s 0), .int x0, .ref 63] rfl ?_
            refine hX_goM 1 (79) [some (.ref 63), some (.int x0), some (.int x1)] [.int (m_s 1), .int (m_s 0), .int x0, .ref 63] rfl ?_
            refine hX_call (r' := zR_176) rfl (ct_176_63 x0 (m_s 0) (m_s 1) (gImpT (gImpT o5 c9) c10)) ?_
            refine hX_goM 0 (82) [some (.ref 63), some (.int x0), some (.int x1)] [.int (v_176_63 x0 (m_s 0) (m_s 1) m_s)] rfl ?_
            have hk := hk
            simp only [c9, c10, cond_true, cond_false] at hk
            first | exact hk | (simp only [c9, c10, cond_true, cond_false]; exact hk)
          · skip
            refine hX_goM 6 (51) [some (.ref 63), some (.int x0), some (.int x1)] [.int (m_s 1), .int x0, .ref 63] rfl ?_
            refine hX_call (r' := zR_175) rfl (ct_175_63 x0 (m_s 1) (gImpF (gImpT o6 c9) c10)) ?_
            refine hX_goM 1 (bif gCmp .eq (v_175_63 x0 (m_s 1) m_s) 0 then 61 else 57) [some (.ref 63), some (.int x0), some (.int x1)] [] rfl ?_
            refine hX_if (gCmp .eq (v_175_63 x0 (m_s 1) m_s) 0) (fun c11 => ?_) (fun c11 => ?_)
            · skip
              refine hX_goM 2 (82) [some (.ref 63), some (.int x0), some (.int x1)] [.int 0] rfl ?_
              have hk := hk
              simp only [c9, c10, c11, cond_true, cond_false] at hk
              first | exact hk | (simp only [c9, c10, c11, cond_true, cond_false]; exact hk)
            · skip
              refine hX_goM 2 (82) [some (.ref 63), some (.int x0), some (.int x1)] [.int 1] rfl ?_
              have hk := hk
              simp only [c9, c10, c11, cond_true, cond_false] at hk
              first | exact hk | (simp only [c9, c10, c11, cond_true, cond_false]; exact hk)
        · skip
          refine hX_goM 5 (34) [some (.ref 63), some (.int x0), some (.int x1)] [.int (100 + x0), .ref 64] rfl ?_
          refine hX_gM (gIn (100 + x0) 134) 35 [some (.ref 63), some (.int x0), some (.int x1)] [.int (m_s (Int32.toNatClampNeg (100 + x0)))] rfl (gImpF o8 c9) ?_
          refine hX_goM 1 (82) [some (.ref 63), some (.int x0), some (.int x1)] [.int (m_s (Int32.toNatClampNeg (100 + x0)))] rfl ?_
          have hk := hk
          simp only [c9, cond_true, cond_false] at hk
          first | exact hk | (simp only [c9, cond_true, cond_false]; exact hk)
      have h := Option.some.inj h; subst h
      exact hX_end rfl rfl rfl
    · skip
      have h := gcF c2 h
      refine hX_goM 2 (18) [some (.ref 63), some (.int x0), some (.int x1)] [.int 0, .ref 63] rfl ?_
      refine hX_call (r' := zR_124) rfl (ct_124_63 0 rfl) ?_
      refine hX_go 0 (21) [some (.ref 63), some (.int x0), some (.int x1)] [.int (v_124_63 0)] (hMm c0 m_s m_kp m_as m_ik (f_124_63_m_fo 0 m_fo) m_tl m_tr m_fa m_od m_rc m_be m_ft m_tp m_td m_tk m_bg m_en m_vl m_sg m_wi m_si m_ce m_ca) rfl ?_
      have h := Option.some.inj h; subst h
      exact hX_end rfl rfl rfl

/-- UpOneSideModel.eyes: the loop at 4 -/
def lp_178_63_4 (N : Nat) (m_s : Nat → Int32) : Nat → Int32 → Int32 → Option (Int32 × Int32)
  | 0, _, _ => none
  | n + 1, y1, y2 =>
    (bif gCmp .ge y2 24 then
      some (y1, y2)
    else
      (bif gIn (100 + y2) 134 then lp_178_63_4 N m_s n (y1 ||| (bif gCmp .eq (v_175_63 y2 (m_s 1) m_s) 0 then 0 else ((1 : Int32) <<< (y2 &&& 31)))) (y2 + 1) else none))
set_option maxRecDepth 20000 in
set_option maxHeartbeats 4000000 in
theorem lt_178_63_4 {LL : Nat} {xs : Nat → Int32} {D N : Nat} {c0 : Nat → gE} {m_s : Nat → Int32} {m_kp : Nat → Int32} {m_as : Nat → Int32} {m_ik : Int32} {m_fo : Nat → Int32} {m_tl : Int32} {m_tr : Int32} {m_fa : Nat → Int32} {m_od : Nat → Int32} {m_rc : Int32} {m_be : Nat → Int32} {m_ft : Int32} {m_tp : Nat → Int32} {m_td : Int32} {m_tk : Int32} {m_bg : Int32} {m_en : Int32} {m_vl : Int64} {m_sg : Int32} {m_wi : Nat → Int32} {m_si : Nat → Int32} {m_ce : Nat → Int32} {m_ca : Nat → Int32} {v : Option Value} {M' : List gE} : ∀ (n : Nat) (y1 : Int32) (y2 : Int32) (q : Int32 × Int32), lp_178_63_4 N m_s n y1 y2 = some q → (kk : hX (gO LL xs) (D + 1) zR_178 40 [some (.ref 63), some (.int q.1), some (.int q.2)] [] (hMm c0 m_s m_kp m_as m_ik m_fo m_tl m_tr m_fa m_od m_rc m_be m_ft m_tp m_td m_tk m_bg m_en m_vl m_sg m_wi m_si m_ce m_ca) v M') → hX (gO LL xs) (D + 1) zR_178 4 [some (.ref 63), some (.int y1), some (.int y2)] [] (hMm c0 m_s m_kp m_as m_ik m_fo m_tl m_tr m_fa m_od m_rc m_be m_ft m_tp m_td m_tk m_bg m_en m_vl m_sg m_wi m_si m_ce m_ca) v M' := by
  intro n
  induction n with
  | zero => intro y1 y2 q h; cases h
  | succ n ih =>
    intro y1 y2 q h kk
    rw [lp_178_63_4] at h
    refine hX_go 3 (bif gCmp .ge y2 24 then 40 else 10) [some (.ref 63), some (.int y1), some (.int y2)] [] (hMm c0 m_s m_kp m_as m_ik m_fo m_tl m_tr m_fa m_od m_rc m_be m_ft m_tp m_td m_tk m_bg m_en m_vl m_sg m_wi m_si m_ce m_ca) rfl ?_
    refine hX_if (gCmp .ge y2 24) (fun c1 => ?_) (fun c1 => ?_)
    · skip
      have h := gcT c1 h
      have h := Option.some.inj h; subst h
      exact kk
    · skip
      have h := gcF c1 h
      refine hX_goM 7 (19) [some (.ref 63), some (.int y1), some (.int y2)] [.int (m_s 1), .int y2, .ref 63, .int y1] rfl ?_
      revert h; refine gCondR fun g2 h => ?_
      refine hX_call (r' := zR_175) rfl (ct_175_63 y2 (m_s 1) g2) ?_
      refine hX_goM 1 (bif gCmp .eq (v_175_63 y2 (m_s 1) m_s) 0 then 31 else 25) [some (.ref 63), some (.int y1), some (.int y2)] [.int y1] rfl ?_
      refine hX_mrg 32 [some (.ref 63), some (.int y1), some (.int y2)] [.int (bif gCmp .eq (v_175_63 y2 (m_s 1) m_s) 0 then 0 else ((1 : Int32) <<< (y2 &&& 31))), .int y1] (hMm c0 m_s m_kp m_as m_ik m_fo m_tl m_tr m_fa m_od m_rc m_be m_ft m_tp m_td m_tk m_bg m_en m_vl m_sg m_wi m_si m_ce m_ca) (fun hk => ?_) ?_
      · skip
        refine hX_if (gCmp .eq (v_175_63 y2 (m_s 1) m_s) 0) (fun c4 => ?_) (fun c4 => ?_)
        · skip
          refine hX_goM 1 (32) [some (.ref 63), some (.int y1), some (.int y2)] [.int 0, .int y1] rfl ?_
          have hk := hk
          simp only [c4, cond_true, cond_false] at hk
          first | exact hk | (simp only [c4, cond_true, cond_false]; exact hk)
        · skip
          refine hX_goM 4 (32) [some (.ref 63), some (.int y1), some (.int y2)] [.int ((1 : Int32) <<< (y2 &&& 31)), .int y1] rfl ?_
          have hk := hk
          simp only [c4, cond_true, cond_false] at hk
          first | exact hk | (simp only [c4, cond_true, cond_false]; exact hk)
      refine hX_goM 4 (4) [some (.ref 63), some (.int (y1 ||| (bif gCmp .eq (v_175_63 y2 (m_s 1) m_s) 0 then 0 else ((1 : Int32) <<< (y2 &&& 31))))), some (.int (y2 + 1))] [] rfl ?_
      exact ih (y1 ||| (bif gCmp .eq (v_175_63 y2 (m_s 1) m_s) 0 then 0 else ((1 : Int32) <<< (y2 &&& 31)))) (y2 + 1) q h kk

/-- UpOneSideModel.eyes()I -/
def me_178_63 (N : Nat) (m_s : Nat → Int32) : Option (Int32) :=
  (Option.bind (lp_178_63_4 N m_s N 0 0) fun q1 =>
  some (q1.1))
set_option maxRecDepth 20000 in
set_option maxHeartbeats 4000000 in
theorem mt_178_63 {LL : Nat} {xs : Nat → Int32} {D : Nat} {c0 : Nat → gE} {m_s : Nat → Int32} {m_kp : Nat → Int32} {m_as : Nat → Int32} {m_ik : Int32} {m_fo : Nat → Int32} {m_tl : Int32} {m_tr : Int32} {m_fa : Nat → Int32} {m_od : Nat → Int32} {m_rc : Int32} {m_be : Nat → Int32} {m_ft : Int32} {m_tp : Nat → Int32} {m_td : Int32} {m_tk : Int32} {m_bg : Int32} {m_en : Int32} {m_vl : Int64} {m_sg : Int32} {m_wi : Nat → Int32} {m_si : Nat → Int32} {m_ce : Nat → Int32} {m_ca : Nat → Int32} (N : Nat) (q : Int32) (h : me_178_63 N m_s = some q) : hM (gO LL xs) (D + 1) zR_178 [.ref 63] (hMm c0 m_s m_kp m_as m_ik m_fo m_tl m_tr m_fa m_od m_rc m_be m_ft m_tp m_td m_tk m_bg m_en m_vl m_sg m_wi m_si m_ce m_ca) (some (.int q)) (hMm c0 m_s m_kp m_as m_ik m_fo m_tl m_tr m_fa m_od m_rc m_be m_ft m_tp m_td m_tk m_bg m_en m_vl m_sg m_wi m_si m_ce m_ca) := by
  unfold me_178_63 at h
  refine hX_go 0 0 [some (.ref 63), none, none] [] (hMm c0 m_s m_kp m_as m_ik m_fo m_tl m_tr m_fa m_od m_rc m_be m_ft m_tp m_td m_tk m_bg m_en m_vl m_sg m_wi m_si m_ce m_ca) rfl ?_
  refine hX_go 4 (4) [some (.ref 63), some (.int 0), some (.int 0)] [] (hMm c0 m_s m_kp m_as m_ik m_fo m_tl m_tr m_fa m_od m_rc m_be m_ft m_tp m_td m_tk m_bg m_en m_vl m_sg m_wi m_si m_ce m_ca) rfl ?_
  revert h; refine gBindR fun q1 e1 h => ?_
  refine lt_178_63_4 N 0 0 q1 e1 ?_
  refine hX_goM 1 (41) [some (.ref 63), some (.int q1.1), some (.int q1.2)] [.int q1.1] rfl ?_
  have h := Option.some.inj h; subst h
  exact hX_end rfl rfl rfl

/-- UpOneSideModel.best: the loop at 21 -/
def lp_179_63_21 (N : Nat) (y3 : Int32) (m_s : Nat → Int32) : Nat → Int32 → Int32 → Int32 → Option (Int32 × Int32 × Int32)
  | 0, _, _, _ => none
  | n + 1, y4, y5, y6 =>
    (bif gCmp .ge y6 24 then
      some (y4, y5, y6)
    else
      (bif (gCmp .eq y5 0) || (gIn (100 + y6) 134) then (bif gIn (100 + y6) 134 then lp_179_63_21 N y3 m_s n (y4 + (v_176_63 y6 y3 y3 m_s)) (bif gCmp .eq y5 0 then 0 else (bif gCmp .ne (v_175_63 y6 y3 m_s) 0 then 0 else 1)) (y6 + 1) else none) else none))
set_option maxRecDepth 20000 in
set_option maxHeartbeats 4000000 in
theorem lt_179_63_21 {LL : Nat} {xs : Nat → Int32} {D N : Nat} {c0 : Nat → gE} {m_s : Nat → Int32} {m_kp : Nat → Int32} {m_as : Nat → Int32} {m_ik : Int32} {m_fo : Nat → Int32} {m_tl : Int32} {m_tr : Int32} {m_fa : Nat → Int32} {m_od : Nat → Int32} {m_rc : Int32} {m_be : Nat → Int32} {m_ft : Int32} {m_tp : Nat → Int32} {m_td : Int32} {m_tk : Int32} {m_bg : Int32} {m_en : Int32} {m_vl : Int64} {m_sg : Int32} {m_wi : Nat → Int32} {m_si : Nat → Int32} {m_ce : Nat → Int32} {m_ca : Nat → Int32} {y1 : Int32} {y2 : Int32} {y3 : Int32} {v : Option Value} {M' : List gE} : ∀ (n : Nat) (y4 : Int32) (y5 : Int32) (y6 : Int32) (q : Int32 × Int32 × Int32), lp_179_63_21 N y3 m_s n y4 y5 y6 = some q → (kk : hX (gO LL xs) (D + 1) zR_179 69 [some (.ref 63), some (.int y1), some (.int y2), some (.int y3), some (.int q.1), some (.int q.2.1), some (.int q.2.2)] [] (hMm c0 m_s m_kp m_as m_ik m_fo m_tl m_tr m_fa m_od m_rc m_be m_ft m_tp m_td m_tk m_bg m_en m_vl m_sg m_wi m_si m_ce m_ca) v M') → hX (gO LL xs) (D + 1) zR_179 21 [some (.ref 63), some (.int y1), some (.int y2), some (.int y3), some (.int y4), some (.int y5), some (.int y6)] [] (hMm c0 m_s m_kp m_as m_ik m_fo m_tl m_tr m_fa m_od m_rc m_be m_ft m_tp m_td m_tk m_bg m_en m_vl m_sg m_wi m_si m_ce m_ca) v M' := by
  intro n
  induction n with
  | zero => intro y4 y5 y6 q h; cases h
  | succ n ih =>
    intro y4 y5 y6 q h kk
    rw [lp_179_63_21] at h
    refine hX_go 3 (bif gCmp .ge y6 24 then 69 else 28) [some (.ref 63), some (.int y1), some (.int y2), some (.int y3), some (.int y4), some (.int y5), some (.int y6)] [] (hMm c0 m_s m_kp m_as m_ik m_fo m_tl m_tr m_fa m_od m_rc m_be m_ft m_tp m_td m_tk m_bg m_en m_vl m_sg m_wi m_si m_ce m_ca) rfl ?_
    refine hX_if (gCmp .ge y6 24) (fun c1 => ?_) (fun c1 => ?_)
    · skip
      have h := gcT c1 h
      have h := Option.some.inj h; subst h
      exact kk
    · skip
      have h := gcF c1 h
      refine hX_goM 2 (bif gCmp .eq y5 0 then 47 else 33) [some (.ref 63), some (.int y1), some (.int y2), some (.int y3), some (.int y4), some (.int y5), some (.int y6)] [] rfl ?_
      revert h; refine gCondR fun o3 h => ?_
      refine hX_mrg 48 [some (.ref 63), some (.int y1), some (.int y2), some (.int y3), some (.int y4), some (.int y5), some (.int y6)] [.int (bif gCmp .eq y5 0 then 0 else (bif gCmp .ne (v_175_63 y6 y3 m_s) 0 then 0 else 1))] (hMm c0 m_s m_kp m_as m_ik m_fo m_tl m_tr m_fa m_od m_rc m_be m_ft m_tp m_td m_tk m_bg m_en m_vl m_sg m_wi m_si m_ce m_ca) (fun hk => ?_) ?_
      · skip
        refine hX_if (gCmp .eq y5 0) (fun c5 => ?_) (fun c5 => ?_)
        · skip
          refine hX_goM 1 (48) [some (.ref 63), some (.int y1), some (.int y2), some (.int y3), some (.int y4), some (.int y5), some (.int y6)] [.int 0] rfl ?_
          have hk := hk
          simp only [c5, cond_true, cond_false] at hk
          first | exact hk | (simp only [c5, cond_true, cond_false]; exact hk)
        · skip
          refine hX_goM 3 (37) [some (.ref 63), some (.int y1), some (.int y2), some (.int y3), some (.int y4), some (.int y5), some (.int y6)] [.int y3, .int y6, .ref 63] rfl ?_
          refine hX_call (r' := zR_175) rfl (ct_175_63 y6 y3 (gImpF o3 c5)) ?_
          refine hX_goM 1 (bif gCmp .ne (v_175_63 y6 y3 m_s) 0 then 47 else 43) [some (.ref 63), some (.int y1), some (.int y2), some (.int y3), some (.int y4), some (.int y5), some (.int y6)] [] rfl ?_
          refine hX_if (gCmp .ne (v_175_63 y6 y3 m_s) 0) (fun c6 => ?_) (fun c6 => ?_)
          · skip
            refine hX_goM 1 (48) [some (.ref 63), some (.int y1), some (.int y2), some (.int y3), some (.int y4), some (.int y5), some (.int y6)] [.int 0] rfl ?_
            have hk := hk
            simp only [c5, c6, cond_true, cond_false] at hk
            first | exact hk | (simp only [c5, c6, cond_true, cond_false]; exact hk)
          · skip
            refine hX_goM 2 (48) [some (.ref 63), some (.int y1), some (.int y2), some (.int y3), some (.int y4), some (.int y5), some (.int y6)] [.int 1] rfl ?_
            have hk := hk
            simp only [c5, c6, cond_true, cond_false] at hk
            first | exact hk | (simp only [c5, c6, cond_true, cond_false]; exact hk)
      refine hX_goM 6 (57) [some (.ref 63), some (.int y1), some (.int y2), some (.int y3), some (.int y4), some (.int (bif gCmp .eq y5 0 then 0 else (bif gCmp .ne (v_175_63 y6 y3 m_s) 0 then 0 else 1))), some (.int y6)] [.int y3, .int y3, .int y6, .ref 63, .int y4] rfl ?_
      revert h; refine gCondR fun g7 h => ?_
      refine hX_call (r' := zR_176) rfl (ct_176_63 y6 y3 y3 g7) ?_
      refine hX_goM 4 (21) [some (.ref 63), some (.int y1), some (.int y2), some (.int y3), some (.int (y4 + (v_176_63 y6 y3 y3 m_s))), some (.int (bif gCmp .eq y5 0 then 0 else (bif gCmp .ne (v_175_63 y6 y3 m_s) 0 then 0 else 1))), some (.int (y6 + 1))] [] rfl ?_
      exact ih (y4 + (v_176_63 y6 y3 y3 m_s)) (bif gCmp .eq y5 0 then 0 else (bif gCmp .ne (v_175_63 y6 y3 m_s) 0 then 0 else 1)) (y6 + 1) q h kk

/-- UpOneSideModel.best: the loop at 6 -/
def lp_179_63_6 (N : Nat) (m_s : Nat → Int32) : Nat → Int32 → Int32 → Int32 → Option (Int32 × Int32 × Int32)
  | 0, _, _, _ => none
  | n + 1, y1, y2, y3 =>
    (bif gCmp .gt y3 60 then
      some (y1, y2, y3)
    else
      (Option.bind (lp_179_63_21 N y3 m_s N 0 1 0) fun q2 =>
      lp_179_63_6 N m_s n (bif gCmp .eq q2.2.1 0 then y1 else (bif gCmp .le q2.1 y2 then y1 else y3)) (bif gCmp .eq q2.2.1 0 then y2 else (bif gCmp .le q2.1 y2 then y2 else q2.1)) (y3 + 1)))
set_option maxRecDepth 20000 in
set_option maxHeartbeats 4000000 in
theorem lt_179_63_6 {LL : Nat} {xs : Nat → Int32} {D N : Nat} {c0 : Nat → gE} {m_s : Nat → Int32} {m_kp : Nat → Int32} {m_as : Nat → Int32} {m_ik : Int32} {m_fo : Nat → Int32} {m_tl : Int32} {m_tr : Int32} {m_fa : Nat → Int32} {m_od : Nat → Int32} {m_rc : Int32} {m_be : Nat → Int32} {m_ft : Int32} {m_tp : Nat → Int32} {m_td : Int32} {m_tk : Int32} {m_bg : Int32} {m_en : Int32} {m_vl : Int64} {m_sg : Int32} {m_wi : Nat → Int32} {m_si : Nat → Int32} {m_ce : Nat → Int32} {m_ca : Nat → Int32} {v : Option Value} {M' : List gE} : ∀ (n : Nat) (y1 : Int32) (y2 : Int32) (y3 : Int32) (q : Int32 × Int32 × Int32), lp_179_63_6 N m_s n y1 y2 y3 = some q → (kk : hX (gO LL xs) (D + 1) zR_179 110 [some (.ref 63), some (.int q.1), some (.int q.2.1), some (.int q.2.2), none, none, none] [] (hMm c0 m_s m_kp m_as m_ik m_fo m_tl m_tr m_fa m_od m_rc m_be m_ft m_tp m_td m_tk m_bg m_en m_vl m_sg m_wi m_si m_ce m_ca) v M') → hX (gO LL xs) (D + 1) zR_179 6 [some (.ref 63), some (.int y1), some (.int y2), some (.int y3), none, none, none] [] (hMm c0 m_s m_kp m_as m_ik m_fo m_tl m_tr m_fa m_od m_rc m_be m_ft m_tp m_td m_tk m_bg m_en m_vl m_sg m_wi m_si m_ce m_ca) v M' := by
  intro n
  induction n with
  | zero => intro y1 y2 y3 q h; cases h
  | succ n ih =>
    intro y1 y2 y3 q h kk
    rw [lp_179_63_6] at h
    refine hX_go 3 (bif gCmp .gt y3 60 then 110 else 12) [some (.ref 63), some (.int y1), some (.int y2), some (.int y3), none, none, none] [] (hMm c0 m_s m_kp m_as m_ik m_fo m_tl m_tr m_fa m_od m_rc m_be m_ft m_tp m_td m_tk m_bg m_en m_vl m_sg m_wi m_si m_ce m_ca) rfl ?_
    refine hX_if (gCmp .gt y3 60) (fun c1 => ?_) (fun c1 => ?_)
    · skip
      have h := gcT c1 h
      have h := Option.some.inj h; subst h
      exact kk
    · skip
      have h := gcF c1 h
      refine hX_goM 6 (21) [some (.ref 63), some (.int y1), some (.int y2), some (.int y3), some (.int 0), some (.int 1), some (.int 0)] [] rfl ?_
      revert h; refine gBindR fun q2 e2 h => ?_
      refine lt_179_63_21 N 0 1 0 q2 e2 ?_
      refine hX_goM 2 (bif gCmp .eq q2.2.1 0 then 84 else 74) [some (.ref 63), some (.int y1), some (.int y2), some (.int y3), some (.int q2.1), some (.int q2.2.1), some (.int q2.2.2)] [] rfl ?_
      refine hX_mrg 85 [some (.ref 63), some (.int y1), some (.int y2), some (.int y3), some (.int q2.1), some (.int q2.2.1), some (.int q2.2.2)] [.int (bif gCmp .eq q2.2.1 0 then y1 else (bif gCmp .le q2.1 y2 then y1 else y3))] (hMm c0 m_s m_kp m_as m_ik m_fo m_tl m_tr m_fa m_od m_rc m_be m_ft m_tp m_td m_tk m_bg m_en m_vl m_sg m_wi m_si m_ce m_ca) (fun hk => ?_) ?_
      · skip
        refine hX_if (gCmp .eq q2.2.1 0) (fun c5 => ?_) (fun c5 => ?_)
        · skip
          refine hX_goM 1 (85) [some (.ref 63), some (.int y1), some (.int y2), some (.int y3), some (.int q2.1), some (.int q2.2.1), some (.int q2.2.2)] [.int y1] rfl ?_
          have hk := hk
          simp only [c5, cond_true, cond_false] at hk
          first | exact hk | (simp only [c5, cond_true, cond_false]; exact hk)
        · skip
          refine hX_goM 3 (bif gCmp .le q2.1 y2 then 84 else 80) [some (.ref 63), some (.int y1), some (.int y2), some (.int y3), some (.int q2.1), some (.int q2.2.1), some (.int q2.2.2)] [] rfl ?_
          refine hX_if (gCmp .le q2.1 y2) (fun c6 => ?_) (fun c6 => ?_)
          · skip
            refine hX_goM 1 (85) [some (.ref 63), some (.int y1), some (.int y2), some (.int y3), some (.int q2.1), some (.int q2.2.1), some (.int q2.2.2)] [.int y1] rfl ?_
            have hk := hk
            simp only [c5, c6, cond_true, cond_false] at hk
            first | exact hk | (simp only [c5, c6, cond_true, cond_false]; exact hk)
          · skip
            refine hX_goM 2 (85) [some (.ref 63), some (.int y1), some (.int y2), some (.int y3), some (.int q2.1), some (.int q2.2.1), some (.int q2.2.2)] [.int y3] rfl ?_
            have hk := hk
            simp only [c5, c6, cond_true, cond_false] at hk
            first | exact hk | (simp only [c5, c6, cond_true, cond_false]; exact hk)
      refine hX_goM 3 (bif gCmp .eq q2.2.1 0 then 102 else 91) [some (.ref 63), some (.int (bif gCmp .eq q2.2.1 0 then y1 else (bif gCmp .le q2.1 y2 then y1 else y3))), some (.int y2), some (.int y3), some (.int q2.1), some (.int q2.2.1), some (.int q2.2.2)] [] rfl ?_
      refine hX_mrg 103 [some (.ref 63), some (.int (bif gCmp .eq q2.2.1 0 then y1 else (bif gCmp .le q2.1 y2 then y1 else y3))), some (.int y2), some (.int y3), some (.int q2.1), some (.int q2.2.1), some (.int q2.2.2)] [.int (bif gCmp .eq q2.2.1 0 then y2 else (bif gCmp .le q2.1 y2 then y2 else q2.1))] (hMm c0 m_s m_kp m_as m_ik m_fo m_tl m_tr m_fa m_od m_rc m_be m_ft m_tp m_td m_tk m_bg m_en m_vl m_sg m_wi m_si m_ce m_ca) (fun hk => ?_) ?_
      · skip
        refine hX_if (gCmp .eq q2.2.1 0) (fun c9 => ?_) (fun c9 => ?_)
        · skip
          refine hX_goM 1 (103) [some (.ref 63), some (.int (bif gCmp .eq q2.2.1 0 then y1 else (bif gCmp .le q2.1 y2 then y1 else y3))), some (.int y2), some (.int y3), some (.int q2.1), some (.int q2.2.1), some (.int q2.2.2)] [.int y2] rfl ?_
          have hk := hk
          simp only [c9, cond_true, cond_false] at hk
          first | exact hk | (simp only [c9, cond_true, cond_false]; exact hk)
        · skip
          refine hX_goM 3 (bif gCmp .le q2.1 y2 then 102 else 97) [some (.ref 63), some (.int (bif gCmp .eq q2.2.1 0 then y1 else (bif gCmp .le q2.1 y2 then y1 else y3))), some (.int y2), some (.int y3), some (.int q2.1), some (.int q2.2.1), some (.int q2.2.2)] [] rfl ?_
          refine hX_if (gCmp .le q2.1 y2) (fun c10 => ?_) (fun c10 => ?_)
          · skip
            refine hX_goM 1 (103) [some (.ref 63), some (.int (bif gCmp .eq q2.2.1 0 then y1 else (bif gCmp .le q2.1 y2 then y1 else y3))), some (.int y2), some (.int y3), some (.int q2.1), some (.int q2.2.1), some (.int q2.2.2)] [.int y2] rfl ?_
            have hk := hk
            simp only [c9, c10, cond_true, cond_false] at hk
            first | exact hk | (simp only [c9, c10, cond_true, cond_false]; exact hk)
          · skip
            refine hX_goM 2 (103) [some (.ref 63), some (.int (bif gCmp .eq q2.2.1 0 then y1 else (bif gCmp .le q2.1 y2 then y1 else y3))), some (.int y2), some (.int y3), some (.int q2.1), some (.int q2.2.1), some (.int q2.2.2)] [.int q2.1] rfl ?_
            have hk := hk
            simp only [c9, c10, cond_true, cond_false] at hk
            first | exact hk | (simp only [c9, c10, cond_true, cond_false]; exact hk)
      refine hX_goM 3 (6) [some (.ref 63), some (.int (bif gCmp .eq q2.2.1 0 then y1 else (bif gCmp .le q2.1 y2 then y1 else y3))), some (.int (bif gCmp .eq q2.2.1 0 then y2 else (bif gCmp .le q2.1 y2 then y2 else q2.1))), some (.int (y3 + 1)), some (.int q2.1), some (.int q2.2.1), some (.int q2.2.2)] [] rfl ?_
      exact hX_wk (gLe_s (gLe_s (gLe_s (gLe_s (gLe_n (gLe_n (gLe_n gLe_0))))))) (ih (bif gCmp .eq q2.2.1 0 then y1 else (bif gCmp .le q2.1 y2 then y1 else y3)) (bif gCmp .eq q2.2.1 0 then y2 else (bif gCmp .le q2.1 y2 then y2 else q2.1)) (y3 + 1) q h kk)

/-- UpOneSideModel.best()I -/
def me_179_63 (N : Nat) (m_s : Nat → Int32) : Option (Int32) :=
  (Option.bind (lp_179_63_6 N m_s N 0 (-1) 0) fun q1 =>
  some (q1.1))
set_option maxRecDepth 20000 in
set_option maxHeartbeats 4000000 in
theorem mt_179_63 {LL : Nat} {xs : Nat → Int32} {D : Nat} {c0 : Nat → gE} {m_s : Nat → Int32} {m_kp : Nat → Int32} {m_as : Nat → Int32} {m_ik : Int32} {m_fo : Nat → Int32} {m_tl : Int32} {m_tr : Int32} {m_fa : Nat → Int32} {m_od : Nat → Int32} {m_rc : Int32} {m_be : Nat → Int32} {m_ft : Int32} {m_tp : Nat → Int32} {m_td : Int32} {m_tk : Int32} {m_bg : Int32} {m_en : Int32} {m_vl : Int64} {m_sg : Int32} {m_wi : Nat → Int32} {m_si : Nat → Int32} {m_ce : Nat → Int32} {m_ca : Nat → Int32} (N : Nat) (q : Int32) (h : me_179_63 N m_s = some q) : hM (gO LL xs) (D + 1) zR_179 [.ref 63] (hMm c0 m_s m_kp m_as m_ik m_fo m_tl m_tr m_fa m_od m_rc m_be m_ft m_tp m_td m_tk m_bg m_en m_vl m_sg m_wi m_si m_ce m_ca) (some (.int q)) (hMm c0 m_s m_kp m_as m_ik m_fo m_tl m_tr m_fa m_od m_rc m_be m_ft m_tp m_td m_tk m_bg m_en m_vl m_sg m_wi m_si m_ce m_ca) := by
  unfold me_179_63 at h
  refine hX_go 0 0 [some (.ref 63), none, none, none, none, none, none] [] (hMm c0 m_s m_kp m_as m_ik m_fo m_tl m_tr m_fa m_od m_rc m_be m_ft m_tp m_td m_tk m_bg m_en m_vl m_sg m_wi m_si m_ce m_ca) rfl ?_
  refine hX_go 6 (6) [some (.ref 63), some (.int 0), some (.int (-1)), some (.int 0), none, none, none] [] (hMm c0 m_s m_kp m_as m_ik m_fo m_tl m_tr m_fa m_od m_rc m_be m_ft m_tp m_td m_tk m_bg m_en m_vl m_sg m_wi m_si m_ce m_ca) rfl ?_
  revert h; refine gBindR fun q1 e1 h => ?_
  refine lt_179_63_6 N 0 (-1) 0 q1 e1 ?_
  refine hX_goM 1 (111) [some (.ref 63), some (.int q1.1), some (.int q1.2.1), some (.int q1.2.2), none, none, none] [.int q1.1] rfl ?_
  have h := Option.some.inj h; subst h
  exact hX_end rfl rfl rfl

/-- UpOneSideModel.where: the loop at 4 -/
def lp_180_63_4 (N : Nat) (m_s : Nat → Int32) : Nat → Int32 → Int32 → Option (Int32 × Int32)
  | 0, _, _ => none
  | n + 1, y1, y2 =>
    (bif gCmp .ge y2 61 then
      some (y1, y2)
    else
      (bif gIn (39 + y2) 134 then (bif gIn (39 + y1) 134 then lp_180_63_4 N m_s n (bif gCmp .le (m_s (Int32.toNatClampNeg (39 + y2))) (m_s (Int32.toNatClampNeg (39 + y1))) then y1 else y2) (y2 + 1) else none) else none))
set_option maxRecDepth 20000 in
set_option maxHeartbeats 4000000 in
theorem lt_180_63_4 {LL : Nat} {xs : Nat → Int32} {D N : Nat} {c0 : Nat → gE} {m_s : Nat → Int32} {m_kp : Nat → Int32} {m_as : Nat → Int32} {m_ik : Int32} {m_fo : Nat → Int32} {m_tl : Int32} {m_tr : Int32} {m_fa : Nat → Int32} {m_od : Nat → Int32} {m_rc : Int32} {m_be : Nat → Int32} {m_ft : Int32} {m_tp : Nat → Int32} {m_td : Int32} {m_tk : Int32} {m_bg : Int32} {m_en : Int32} {m_vl : Int64} {m_sg : Int32} {m_wi : Nat → Int32} {m_si : Nat → Int32} {m_ce : Nat → Int32} {m_ca : Nat → Int32} {v : Option Value} {M' : List gE} : ∀ (n : Nat) (y1 : Int32) (y2 : Int32) (q : Int32 × Int32), lp_180_63_4 N m_s n y1 y2 = some q → (kk : hX (gO LL xs) (D + 0) zR_180 43 [some (.ref 63), some (.int q.1), some (.int q.2)] [] (hMm c0 m_s m_kp m_as m_ik m_fo m_tl m_tr m_fa m_od m_rc m_be m_ft m_tp m_td m_tk m_bg m_en m_vl m_sg m_wi m_si m_ce m_ca) v M') → hX (gO LL xs) (D + 0) zR_180 4 [some (.ref 63), some (.int y1), some (.int y2)] [] (hMm c0 m_s m_kp m_as m_ik m_fo m_tl m_tr m_fa m_od m_rc m_be m_ft m_tp m_td m_tk m_bg m_en m_vl m_sg m_wi m_si m_ce m_ca) v M' := by
  intro n
  induction n with
  | zero => intro y1 y2 q h; cases h
  | succ n ih =>
    intro y1 y2 q h kk
    rw [lp_180_63_4] at h
    refine hX_go 3 (bif gCmp .ge y2 61 then 43 else 10) [some (.ref 63), some (.int y1), some (.int y2)] [] (hMm c0 m_s m_kp m_as m_ik m_fo m_tl m_tr m_fa m_od m_rc m_be m_ft m_tp m_td m_tk m_bg m_en m_vl m_sg m_wi m_si m_ce m_ca) rfl ?_
    refine hX_if (gCmp .ge y2 61) (fun c1 => ?_) (fun c1 => ?_)
    · skip
      have h := gcT c1 h
      have h := Option.some.inj h; subst h
      exact kk
    · skip
      have h := gcF c1 h
      refine hX_goM 5 (18) [some (.ref 63), some (.int y1), some (.int y2)] [.int (39 + y2), .ref 64] rfl ?_
      revert h; refine gCondR fun g2 h => ?_
      refine hX_gM (gIn (39 + y2) 134) 19 [some (.ref 63), some (.int y1), some (.int y2)] [.int (m_s (Int32.toNatClampNeg (39 + y2)))] rfl g2 ?_
      refine hX_goM 5 (27) [some (.ref 63), some (.int y1), some (.int y2)] [.int (39 + y1), .ref 64, .int (m_s (Int32.toNatClampNeg (39 + y2)))] rfl ?_
      revert h; refine gCondR fun g3 h => ?_
      refine hX_gM (gIn (39 + y1) 134) 28 [some (.ref 63), some (.int y1), some (.int y2)] [.int (m_s (Int32.toNatClampNeg (39 + y1))), .int (m_s (Int32.toNatClampNeg (39 + y2)))] rfl g3 ?_
      refine hX_goM 1 (bif gCmp .le (m_s (Int32.toNatClampNeg (39 + y2))) (m_s (Int32.toNatClampNeg (39 + y1))) then 35 else 31) [some (.ref 63), some (.int y1), some (.int y2)] [] rfl ?_
      refine hX_mrg 36 [some (.ref 63), some (.int y1), some (.int y2)] [.int (bif gCmp .le (m_s (Int32.toNatClampNeg (39 + y2))) (m_s (Int32.toNatClampNeg (39 + y1))) then y1 else y2)] (hMm c0 m_s m_kp m_as m_ik m_fo m_tl m_tr m_fa m_od m_rc m_be m_ft m_tp m_td m_tk m_bg m_en m_vl m_sg m_wi m_si m_ce m_ca) (fun hk => ?_) ?_
      · skip
        refine hX_if (gCmp .le (m_s (Int32.toNatClampNeg (39 + y2))) (m_s (Int32.toNatClampNeg (39 + y1)))) (fun c5 => ?_) (fun c5 => ?_)
        · skip
          refine hX_goM 1 (36) [some (.ref 63), some (.int y1), some (.int y2)] [.int y1] rfl ?_
          have hk := hk
          simp only [c5, cond_true, cond_false] at hk
          first | exact hk | (simp only [c5, cond_true, cond_false]; exact hk)
        · skip
          refine hX_goM 2 (36) [some (.ref 63), some (.int y1), some (.int y2)] [.int y2] rfl ?_
          have hk := hk
          simp only [c5, cond_true, cond_false] at hk
          first | exact hk | (simp only [c5, cond_true, cond_false]; exact hk)
      refine hX_goM 3 (4) [some (.ref 63), some (.int (bif gCmp .le (m_s (Int32.toNatClampNeg (39 + y2))) (m_s (Int32.toNatClampNeg (39 + y1))) then y1 else y2)), some (.int (y2 + 1))] [] rfl ?_
      exact ih (bif gCmp .le (m_s (Int32.toNatClampNeg (39 + y2))) (m_s (Int32.toNatClampNeg (39 + y1))) then y1 else y2) (y2 + 1) q h kk

/-- UpOneSideModel.where()I -/
def me_180_63 (N : Nat) (m_s : Nat → Int32) : Option (Int32) :=
  (Option.bind (lp_180_63_4 N m_s N 0 1) fun q1 =>
  some (q1.1))
set_option maxRecDepth 20000 in
set_option maxHeartbeats 4000000 in
theorem mt_180_63 {LL : Nat} {xs : Nat → Int32} {D : Nat} {c0 : Nat → gE} {m_s : Nat → Int32} {m_kp : Nat → Int32} {m_as : Nat → Int32} {m_ik : Int32} {m_fo : Nat → Int32} {m_tl : Int32} {m_tr : Int32} {m_fa : Nat → Int32} {m_od : Nat → Int32} {m_rc : Int32} {m_be : Nat → Int32} {m_ft : Int32} {m_tp : Nat → Int32} {m_td : Int32} {m_tk : Int32} {m_bg : Int32} {m_en : Int32} {m_vl : Int64} {m_sg : Int32} {m_wi : Nat → Int32} {m_si : Nat → Int32} {m_ce : Nat → Int32} {m_ca : Nat → Int32} (N : Nat) (q : Int32) (h : me_180_63 N m_s = some q) : hM (gO LL xs) (D + 0) zR_180 [.ref 63] (hMm c0 m_s m_kp m_as m_ik m_fo m_tl m_tr m_fa m_od m_rc m_be m_ft m_tp m_td m_tk m_bg m_en m_vl m_sg m_wi m_si m_ce m_ca) (some (.int q)) (hMm c0 m_s m_kp m_as m_ik m_fo m_tl m_tr m_fa m_od m_rc m_be m_ft m_tp m_td m_tk m_bg m_en m_vl m_sg m_wi m_si m_ce m_ca) := by
  unfold me_180_63 at h
  refine hX_go 0 0 [some (.ref 63), none, none] [] (hMm c0 m_s m_kp m_as m_ik m_fo m_tl m_tr m_fa m_od m_rc m_be m_ft m_tp m_td m_tk m_bg m_en m_vl m_sg m_wi m_si m_ce m_ca) rfl ?_
  refine hX_go 4 (4) [some (.ref 63), some (.int 0), some (.int 1)] [] (hMm c0 m_s m_kp m_as m_ik m_fo m_tl m_tr m_fa m_od m_rc m_be m_ft m_tp m_td m_tk m_bg m_en m_vl m_sg m_wi m_si m_ce m_ca) rfl ?_
  revert h; refine gBindR fun q1 e1 h => ?_
  refine lt_180_63_4 N 0 1 q1 e1 ?_
  refine hX_goM 1 (44) [some (.ref 63), some (.int q1.1), some (.int q1.2)] [.int q1.1] rfl ?_
  have h := Option.some.inj h; subst h
  exact hX_end rfl rfl rfl

/-- UpOneSideModel.holding(I)I -/
def v_181_63 (x0 : Int32) (m_s : Nat → Int32) : Int32 := bif gCmp .le ((m_s 9) * x0) 10000 then (10000 - ((m_s 9) * x0)) else 0
set_option maxRecDepth 20000 in
set_option maxHeartbeats 1000000 in
theorem ct_181_63 {LL : Nat} {xs : Nat → Int32} {D : Nat} {c0 : Nat → gE} {m_s : Nat → Int32} {m_kp : Nat → Int32} {m_as : Nat → Int32} {m_ik : Int32} {m_fo : Nat → Int32} {m_tl : Int32} {m_tr : Int32} {m_fa : Nat → Int32} {m_od : Nat → Int32} {m_rc : Int32} {m_be : Nat → Int32} {m_ft : Int32} {m_tp : Nat → Int32} {m_td : Int32} {m_tk : Int32} {m_bg : Int32} {m_en : Int32} {m_vl : Int64} {m_sg : Int32} {m_wi : Nat → Int32} {m_si : Nat → Int32} {m_ce : Nat → Int32} {m_ca : Nat → Int32} (x0 : Int32) : hM (gO LL xs) (D + 0) zR_181 [.ref 63, .int x0] (hMm c0 m_s m_kp m_as m_ik m_fo m_tl m_tr m_fa m_od m_rc m_be m_ft m_tp m_td m_tk m_bg m_en m_vl m_sg m_wi m_si m_ce m_ca) (some (.int (v_181_63 x0 m_s))) (hMm c0 m_s m_kp m_as m_ik m_fo m_tl m_tr m_fa m_od m_rc m_be m_ft m_tp m_td m_tk m_bg m_en m_vl m_sg m_wi m_si m_ce m_ca) := by
  refine hX_go 0 0 [some (.ref 63), some (.int x0), none] [] (hMm c0 m_s m_kp m_as m_ik m_fo m_tl m_tr m_fa m_od m_rc m_be m_ft m_tp m_td m_tk m_bg m_en m_vl m_sg m_wi m_si m_ce m_ca) rfl ?_
  refine hX_go 9 (14) [some (.ref 63), some (.int x0), some (.int ((m_s 9) * x0))] [.int 10000, .int ((m_s 9) * x0)] (hMm c0 m_s m_kp m_as m_ik m_fo m_tl m_tr m_fa m_od m_rc m_be m_ft m_tp m_td m_tk m_bg m_en m_vl m_sg m_wi m_si m_ce m_ca) rfl ?_
  refine hX_goM 1 (bif gCmp .le ((m_s 9) * x0) 10000 then 21 else 17) [some (.ref 63), some (.int x0), some (.int ((m_s 9) * x0))] [] rfl ?_
  suffices hk : hX (gO LL xs) (D + 0) zR_181 26 [some (.ref 63), some (.int x0), some (.int ((m_s 9) * x0))] [.int (bif gCmp .le ((m_s 9) * x0) 10000 then (10000 - ((m_s 9) * x0)) else 0)] (hMm c0 m_s m_kp m_as m_ik m_fo m_tl m_tr m_fa m_od m_rc m_be m_ft m_tp m_td m_tk m_bg m_en m_vl m_sg m_wi m_si m_ce m_ca) (some (.int (v_181_63 x0 m_s))) (hMm c0 m_s m_kp m_as m_ik m_fo m_tl m_tr m_fa m_od m_rc m_be m_ft m_tp m_td m_tk m_bg m_en m_vl m_sg m_wi m_si m_ce m_ca) by
    refine hX_if (gCmp .le ((m_s 9) * x0) 10000) (fun c1 => ?_) (fun c1 => ?_)
    · skip
      refine hX_goM 3 (26) [some (.ref 63), some (.int x0), some (.int ((m_s 9) * x0))] [.int (10000 - ((m_s 9) * x0))] rfl ?_
      have hk := hk
      simp only [c1, cond_true, cond_false] at hk
      first | exact hk | (simp only [c1, cond_true, cond_false]; exact hk)
    · skip
      refine hX_goM 2 (26) [some (.ref 63), some (.int x0), some (.int ((m_s 9) * x0))] [.int 0] rfl ?_
      have hk := hk
      simp only [c1, cond_true, cond_false] at hk
      first | exact hk | (simp only [c1, cond_true, cond_false]; exact hk)
  exact hX_end rfl (rfl) (rfl)

/-- UpOneSideModel.divisor: the loop at 6 -/
def lp_182_6 (N : Nat) : Nat → Int64 → Int64 → Option (Int64 × Int64)
  | 0, _, _ => none
  | n + 1, y4, y6 =>
    (bif gCmp .eq (lg_cmp y6 0) 0 then
      some (y4, y6)
    else
      (bif !(decide (y6 = 0)) then lp_182_6 N n y6 (y4 - y4 / y6 * y6) else none))
set_option maxRecDepth 20000 in
set_option maxHeartbeats 4000000 in
theorem lt_182_6 {LL : Nat} {xs : Nat → Int32} {D N : Nat} {c0 : Nat → gE} {m_s : Nat → Int32} {m_kp : Nat → Int32} {m_as : Nat → Int32} {m_ik : Int32} {m_fo : Nat → Int32} {m_tl : Int32} {m_tr : Int32} {m_fa : Nat → Int32} {m_od : Nat → Int32} {m_rc : Int32} {m_be : Nat → Int32} {m_ft : Int32} {m_tp : Nat → Int32} {m_td : Int32} {m_tk : Int32} {m_bg : Int32} {m_en : Int32} {m_vl : Int64} {m_sg : Int32} {m_wi : Nat → Int32} {m_si : Nat → Int32} {m_ce : Nat → Int32} {m_ca : Nat → Int32} {y0 : Int64} {y2 : Int64} {v : Option Value} {M' : List gE} : ∀ (n : Nat) (y4 : Int64) (y6 : Int64) (q : Int64 × Int64), lp_182_6 N n y4 y6 = some q → (kk : hX (gO LL xs) (D + 0) zR_182 31 [some (.long y0), none, some (.long y2), none, some (.long q.1), none, some (.long q.2), none, none, none] [] (hMm c0 m_s m_kp m_as m_ik m_fo m_tl m_tr m_fa m_od m_rc m_be m_ft m_tp m_td m_tk m_bg m_en m_vl m_sg m_wi m_si m_ce m_ca) v M') → hX (gO LL xs) (D + 0) zR_182 6 [some (.long y0), none, some (.long y2), none, some (.long y4), none, some (.long y6), none, none, none] [] (hMm c0 m_s m_kp m_as m_ik m_fo m_tl m_tr m_fa m_od m_rc m_be m_ft m_tp m_td m_tk m_bg m_en m_vl m_sg m_wi m_si m_ce m_ca) v M' := by
  intro n
  induction n with
  | zero => intro y4 y6 q h; cases h
  | succ n ih =>
    intro y4 y6 q h kk
    rw [lp_182_6] at h
    refine hX_go 4 (bif gCmp .eq (lg_cmp y6 0) 0 then 31 else 13) [some (.long y0), none, some (.long y2), none, some (.long y4), none, some (.long y6), none, none, none] [] (hMm c0 m_s m_kp m_as m_ik m_fo m_tl m_tr m_fa m_od m_rc m_be m_ft m_tp m_td m_tk m_bg m_en m_vl m_sg m_wi m_si m_ce m_ca) rfl ?_
    refine hX_if (gCmp .eq (lg_cmp y6 0) 0) (fun c1 => ?_) (fun c1 => ?_)
    · skip
      have h := gcT c1 h
      have h := Option.some.inj h; subst h
      exact kk
    · skip
      have h := gcF c1 h
      refine hX_goM 2 (17) [some (.long y0), none, some (.long y2), none, some (.long y4), none, some (.long y6), none, none, none] [.long y6, .long y4] rfl ?_
      revert h; refine gCondR fun g2 h => ?_
      refine hX_gnM (decide (y6 = 0)) 18 [some (.long y0), none, some (.long y2), none, some (.long y4), none, some (.long y6), none, none, none] [.long (y4 - y4 / y6 * y6)] rfl (gNot g2) ?_
      refine hX_goM 6 (6) [some (.long y0), none, some (.long y2), none, some (.long y6), none, some (.long (y4 - y4 / y6 * y6)), none, some (.long (y4 - y4 / y6 * y6)), none] [] rfl ?_
      exact hX_wk (gLe_s (gLe_n (gLe_s (gLe_n (gLe_s (gLe_n (gLe_s (gLe_n (gLe_n (gLe_n gLe_0)))))))))) (ih y6 (y4 - y4 / y6 * y6) q h kk)

/-- UpOneSideModel.divisor(JJ)J -/
def me_182 (N : Nat) (x0 : Int64) (x1 : Int64) : Option (Int64) :=
  (Option.bind (lp_182_6 N N x0 x1) fun q1 =>
  some (q1.1))
set_option maxRecDepth 20000 in
set_option maxHeartbeats 4000000 in
theorem mt_182 {LL : Nat} {xs : Nat → Int32} {D : Nat} {c0 : Nat → gE} {m_s : Nat → Int32} {m_kp : Nat → Int32} {m_as : Nat → Int32} {m_ik : Int32} {m_fo : Nat → Int32} {m_tl : Int32} {m_tr : Int32} {m_fa : Nat → Int32} {m_od : Nat → Int32} {m_rc : Int32} {m_be : Nat → Int32} {m_ft : Int32} {m_tp : Nat → Int32} {m_td : Int32} {m_tk : Int32} {m_bg : Int32} {m_en : Int32} {m_vl : Int64} {m_sg : Int32} {m_wi : Nat → Int32} {m_si : Nat → Int32} {m_ce : Nat → Int32} {m_ca : Nat → Int32} (N : Nat) (x0 : Int64) (x1 : Int64) (q : Int64) (h : me_182 N x0 x1 = some q) : hM (gO LL xs) (D + 0) zR_182 [.long x0, .long x1] (hMm c0 m_s m_kp m_as m_ik m_fo m_tl m_tr m_fa m_od m_rc m_be m_ft m_tp m_td m_tk m_bg m_en m_vl m_sg m_wi m_si m_ce m_ca) (some (.long q)) (hMm c0 m_s m_kp m_as m_ik m_fo m_tl m_tr m_fa m_od m_rc m_be m_ft m_tp m_td m_tk m_bg m_en m_vl m_sg m_wi m_si m_ce m_ca) := by
  unfold me_182 at h
  refine hX_go 0 0 [some (.long x0), none, some (.long x1), none, none, none, none, none, none, none] [] (hMm c0 m_s m_kp m_as m_ik m_fo m_tl m_tr m_fa m_od m_rc m_be m_ft m_tp m_td m_tk m_bg m_en m_vl m_sg m_wi m_si m_ce m_ca) rfl ?_
  refine hX_go 4 (6) [some (.long x0), none, some (.long x1), none, some (.long x0), none, some (.long x1), none, none, none] [] (hMm c0 m_s m_kp m_as m_ik m_fo m_tl m_tr m_fa m_od m_rc m_be m_ft m_tp m_td m_tk m_bg m_en m_vl m_sg m_wi m_si m_ce m_ca) rfl ?_
  revert h; refine gBindR fun q1 e1 h => ?_
  refine lt_182_6 N x0 x1 q1 e1 ?_
  refine hX_goM 1 (33) [some (.long x0), none, some (.long x1), none, some (.long q1.1), none, some (.long q1.2), none, none, none] [.long q1.1] rfl ?_
  have h := Option.some.inj h; subst h
  exact hX_end rfl rfl rfl


/-- UpOneSideModel.holds(I)I -/
def me_183_63 (N : Nat) (x0 : Int32) (m_s : Nat → Int32) (m_fo : Nat → Int32) : Option (Int32 × (Nat → Int32)) :=
  (bif gCmp .ne (v_125 x0 0 1) 0 then
    (bif gIn (39 + (m_s 0)) 134 then (Option.bind (me_182 N (Int32.toInt64 (v_181_63 (m_s (Int32.toNatClampNeg (39 + (m_s 0)))) m_s)) 10000) fun q3 =>
    (bif !(gCmp .ne x0 0) || (!(decide ((Int64.toInt32 q3) = 0))) then (bif (gCmp .ne x0 0) || (!(decide ((Int64.toInt32 q3) = 0))) then some (bif gCmp .ne x0 0 then (10000 / (Int64.toInt32 q3)) else ((v_181_63 (m_s (Int32.toNatClampNeg (39 + (m_s 0)))) m_s) / (Int64.toInt32 q3)), m_fo) else none) else none)) else none)
  else
    some (v_124_63 0, f_124_63_m_fo 0 m_fo))
set_option maxRecDepth 20000 in
set_option maxHeartbeats 4000000 in
theorem mt_183_63 {LL : Nat} {xs : Nat → Int32} {D : Nat} {c0 : Nat → gE} {m_s : Nat → Int32} {m_kp : Nat → Int32} {m_as : Nat → Int32} {m_ik : Int32} {m_fo : Nat → Int32} {m_tl : Int32} {m_tr : Int32} {m_fa : Nat → Int32} {m_od : Nat → Int32} {m_rc : Int32} {m_be : Nat → Int32} {m_ft : Int32} {m_tp : Nat → Int32} {m_td : Int32} {m_tk : Int32} {m_bg : Int32} {m_en : Int32} {m_vl : Int64} {m_sg : Int32} {m_wi : Nat → Int32} {m_si : Nat → Int32} {m_ce : Nat → Int32} {m_ca : Nat → Int32} (N : Nat) (x0 : Int32) (q : Int32 × (Nat → Int32)) (h : me_183_63 N x0 m_s m_fo = some q) : hM (gO LL xs) (D + 1) zR_183 [.ref 63, .int x0] (hMm c0 m_s m_kp m_as m_ik m_fo m_tl m_tr m_fa m_od m_rc m_be m_ft m_tp m_td m_tk m_bg m_en m_vl m_sg m_wi m_si m_ce m_ca) (some (.int q.1)) (hMm c0 m_s m_kp m_as m_ik q.2 m_tl m_tr m_fa m_od m_rc m_be m_ft m_tp m_td m_tk m_bg m_en m_vl m_sg m_wi m_si m_ce m_ca) := by
  unfold me_183_63 at h
  refine hX_go 0 0 [some (.ref 63), some (.int x0), none, none] [] (hMm c0 m_s m_kp m_as m_ik m_fo m_tl m_tr m_fa m_od m_rc m_be m_ft m_tp m_td m_tk m_bg m_en m_vl m_sg m_wi m_si m_ce m_ca) rfl ?_
  refine hX_go 3 (3) [some (.ref 63), some (.int x0), none, none] [.int 1, .int 0, .int x0] (hMm c0 m_s m_kp m_as m_ik m_fo m_tl m_tr m_fa m_od m_rc m_be m_ft m_tp m_td m_tk m_bg m_en m_vl m_sg m_wi m_si m_ce m_ca) rfl ?_
  refine hX_call (r' := zR_125) rfl (ct_125 x0 0 1) ?_
  refine hX_goM 1 (bif gCmp .ne (v_125 x0 0 1) 0 then 15 else 9) [some (.ref 63), some (.int x0), none, none] [] rfl ?_
  refine hX_if (gCmp .ne (v_125 x0 0 1) 0) (fun c1 => ?_) (fun c1 => ?_)
  · skip
    have h := gcT c1 h
    refine hX_goM 9 (29) [some (.ref 63), some (.int x0), none, none] [.int (39 + (m_s 0)), .ref 64, .ref 63] rfl ?_
    revert h; refine gCondR fun g2 h => ?_
    refine hX_gM (gIn (39 + (m_s 0)) 134) 30 [some (.ref 63), some (.int x0), none, none] [.int (m_s (Int32.toNatClampNeg (39 + (m_s 0)))), .ref 63] rfl g2 ?_
    refine hX_call (r' := zR_181) rfl (ct_181_63 (m_s (Int32.toNatClampNeg (39 + (m_s 0))))) ?_
    refine hX_goM 4 (39) [some (.ref 63), some (.int x0), some (.int (v_181_63 (m_s (Int32.toNatClampNeg (39 + (m_s 0)))) m_s)), none] [.long 10000, .long (Int32.toInt64 (v_181_63 (m_s (Int32.toNatClampNeg (39 + (m_s 0)))) m_s))] rfl ?_
    revert h; refine gBindR fun q3 e3 h => ?_
    refine hX_call (r' := zR_182) rfl (mt_182 N (Int32.toInt64 (v_181_63 (m_s (Int32.toNatClampNeg (39 + (m_s 0)))) m_s)) 10000 q3 e3) ?_
    refine hX_goM 4 (bif gCmp .ne x0 0 then 54 else 48) [some (.ref 63), some (.int x0), some (.int (v_181_63 (m_s (Int32.toNatClampNeg (39 + (m_s 0)))) m_s)), some (.int (Int64.toInt32 q3))] [] rfl ?_
    revert h; refine gCondR fun o5 h => ?_
    revert h; refine gCondR fun o6 h => ?_
    refine hX_mrg 59 [some (.ref 63), some (.int x0), some (.int (v_181_63 (m_s (Int32.toNatClampNeg (39 + (m_s 0)))) m_s)), some (.int (Int64.toInt32 q3))] [.int (bif gCmp .ne x0 0 then (10000 / (Int64.toInt32 q3)) else ((v_181_63 (m_s (Int32.toNatClampNeg (39 + (m_s 0)))) m_s) / (Int64.toInt32 q3)))] (hMm c0 m_s m_kp m_as m_ik m_fo m_tl m_tr m_fa m_od m_rc m_be m_ft m_tp m_td m_tk m_bg m_en m_vl m_sg m_wi m_si m_ce m_ca) (fun hk => ?_) ?_
    · skip
      refine hX_if (gCmp .ne x0 0) (fun c7 => ?_) (fun c7 => ?_)
      · skip
        refine hX_goM 2 (58) [some (.ref 63), some (.int x0), some (.int (v_181_63 (m_s (Int32.toNatClampNeg (39 + (m_s 0)))) m_s)), some (.int (Int64.toInt32 q3))] [.int (Int64.toInt32 q3), .int 10000] rfl ?_
        refine hX_gnM (decide ((Int64.toInt32 q3) = 0)) 59 [some (.ref 63), some (.int x0), some (.int (v_181_63 (m_s (Int32.toNatClampNeg (39 + (m_s 0)))) m_s)), some (.int (Int64.toInt32 q3))] [.int (10000 / (Int64.toInt32 q3))] rfl (gNot (gImpT o5 c7)) ?_
        have hk := hk
        simp only [c7, cond_true, cond_false] at hk
        first | exact hk | (simp only [c7, cond_true, cond_false]; exact hk)
      · skip
        refine hX_goM 2 (50) [some (.ref 63), some (.int x0), some (.int (v_181_63 (m_s (Int32.toNatClampNeg (39 + (m_s 0)))) m_s)), some (.int (Int64.toInt32 q3))] [.int (Int64.toInt32 q3), .int (v_181_63 (m_s (Int32.toNatClampNeg (39 + (m_s 0)))) m_s)] rfl ?_
        refine hX_gnM (decide ((Int64.toInt32 q3) = 0)) 51 [some (.ref 63), some (.int x0), some (.int (v_181_63 (m_s (Int32.toNatClampNeg (39 + (m_s 0)))) m_s)), some (.int (Int64.toInt32 q3))] [.int ((v_181_63 (m_s (Int32.toNatClampNeg (39 + (m_s 0)))) m_s) / (Int64.toInt32 q3))] rfl (gNot (gImpF o6 c7)) ?_
        refine hX_goM 1 (59) [some (.ref 63), some (.int x0), some (.int (v_181_63 (m_s (Int32.toNatClampNeg (39 + (m_s 0)))) m_s)), some (.int (Int64.toInt32 q3))] [.int ((v_181_63 (m_s (Int32.toNatClampNeg (39 + (m_s 0)))) m_s) / (Int64.toInt32 q3))] rfl ?_
        have hk := hk
        simp only [c7, cond_true, cond_false] at hk
        first | exact hk | (simp only [c7, cond_true, cond_false]; exact hk)
    have h := Option.some.inj h; subst h
    exact hX_end rfl rfl rfl
  · skip
    have h := gcF c1 h
    refine hX_goM 2 (11) [some (.ref 63), some (.int x0), none, none] [.int 0, .ref 63] rfl ?_
    refine hX_call (r' := zR_124) rfl (ct_124_63 0 rfl) ?_
    refine hX_go 0 (14) [some (.ref 63), some (.int x0), none, none] [.int (v_124_63 0)] (hMm c0 m_s m_kp m_as m_ik (f_124_63_m_fo 0 m_fo) m_tl m_tr m_fa m_od m_rc m_be m_ft m_tp m_td m_tk m_bg m_en m_vl m_sg m_wi m_si m_ce m_ca) rfl ?_
    have h := Option.some.inj h; subst h
    exact hX_end rfl rfl rfl

/-- UpOneSideModel.lasts: the loop at 69 -/
def lp_184_63_69 (N : Nat) (y8 : Int32) (m_tl : Int32) (m_be : Nat → Int32) : Nat → Int32 → Int32 → Option (Int32 × Int32)
  | 0, _, _ => none
  | n + 1, y9, y10 =>
    (bif gCmp .ge y10 y8 then
      some (y9, y10)
    else
      (bif gIn y10 4 then lp_184_63_69 N y8 m_tl m_be n (y9 + (bif gCmp .ne (m_be (Int32.toNatClampNeg y10)) m_tl then 0 else (bif gCmp .ge y9 9999 then 0 else 1))) (y10 + 1) else none))
set_option maxRecDepth 20000 in
set_option maxHeartbeats 4000000 in
theorem lt_184_63_69 {LL : Nat} {xs : Nat → Int32} {D N : Nat} {c0 : Nat → gE} {m_s : Nat → Int32} {m_kp : Nat → Int32} {m_as : Nat → Int32} {m_ik : Int32} {m_fo : Nat → Int32} {m_tl : Int32} {m_tr : Int32} {m_fa : Nat → Int32} {m_od : Nat → Int32} {m_rc : Int32} {m_be : Nat → Int32} {m_ft : Int32} {m_tp : Nat → Int32} {m_td : Int32} {m_tk : Int32} {m_bg : Int32} {m_en : Int32} {m_vl : Int64} {m_sg : Int32} {m_wi : Nat → Int32} {m_si : Nat → Int32} {m_ce : Nat → Int32} {m_ca : Nat → Int32} {y1 : Int32} {y2 : Int32} {y3 : Int32} {y4 : Int64} {y6 : Int64} {y8 : Int32} {v : Option Value} {M' : List gE} : ∀ (n : Nat) (y9 : Int32) (y10 : Int32) (q : Int32 × Int32), lp_184_63_69 N y8 m_tl m_be n y9 y10 = some q → (kk : hX (gO LL xs) (D + 3) zR_184 114 [some (.ref 63), some (.int y1), some (.int y2), some (.int y3), some (.long y4), none, some (.long y6), none, some (.int y8), some (.int q.1), some (.int q.2)] [] (hMm c0 m_s m_kp m_as m_ik m_fo m_tl m_tr m_fa m_od m_rc m_be m_ft m_tp m_td m_tk m_bg m_en m_vl m_sg m_wi m_si m_ce m_ca) v M') → hX (gO LL xs) (D + 3) zR_184 69 [some (.ref 63), some (.int y1), some (.int y2), some (.int y3), some (.long y4), none, some (.long y6), none, some (.int y8), some (.int y9), some (.int y10)] [] (hMm c0 m_s m_kp m_as m_ik m_fo m_tl m_tr m_fa m_od m_rc m_be m_ft m_tp m_td m_tk m_bg m_en m_vl m_sg m_wi m_si m_ce m_ca) v M' := by
  intro n
  induction n with
  | zero => intro y9 y10 q h; cases h
  | succ n ih =>
    intro y9 y10 q h kk
    rw [lp_184_63_69] at h
    refine hX_go 3 (bif gCmp .ge y10 y8 then 114 else 76) [some (.ref 63), some (.int y1), some (.int y2), some (.int y3), some (.long y4), none, some (.long y6), none, some (.int y8), some (.int y9), some (.int y10)] [] (hMm c0 m_s m_kp m_as m_ik m_fo m_tl m_tr m_fa m_od m_rc m_be m_ft m_tp m_td m_tk m_bg m_en m_vl m_sg m_wi m_si m_ce m_ca) rfl ?_
    refine hX_if (gCmp .ge y10 y8) (fun c1 => ?_) (fun c1 => ?_)
    · skip
      have h := gcT c1 h
      have h := Option.some.inj h; subst h
      exact kk
    · skip
      have h := gcF c1 h
      refine hX_goM 4 (84) [some (.ref 63), some (.int y1), some (.int y2), some (.int y3), some (.long y4), none, some (.long y6), none, some (.int y8), some (.int y9), some (.int y10)] [.int y10, .ref 70, .int y9] rfl ?_
      revert h; refine gCondR fun g2 h => ?_
      refine hX_gM (gIn y10 4) 85 [some (.ref 63), some (.int y1), some (.int y2), some (.int y3), some (.long y4), none, some (.long y6), none, some (.int y8), some (.int y9), some (.int y10)] [.int (m_be (Int32.toNatClampNeg y10)), .int y9] rfl g2 ?_
      refine hX_goM 3 (bif gCmp .ne (m_be (Int32.toNatClampNeg y10)) m_tl then 104 else 92) [some (.ref 63), some (.int y1), some (.int y2), some (.int y3), some (.long y4), none, some (.long y6), none, some (.int y8), some (.int y9), some (.int y10)] [.int y9] rfl ?_
      refine hX_mrg 105 [some (.ref 63), some (.int y1), some (.int y2), some (.int y3), some (.long y4), none, some (.long y6), none, some (.int y8), some (.int y9), some (.int y10)] [.int (bif gCmp .ne (m_be (Int32.toNatClampNeg y10)) m_tl then 0 else (bif gCmp .ge y9 9999 then 0 else 1)), .int y9] (hMm c0 m_s m_kp m_as m_ik m_fo m_tl m_tr m_fa m_od m_rc m_be m_ft m_tp m_td m_tk m_bg m_en m_vl m_sg m_wi m_si m_ce m_ca) (fun hk => ?_) ?_
      · skip
        refine hX_if (gCmp .ne (m_be (Int32.toNatClampNeg y10)) m_tl) (fun c5 => ?_) (fun c5 => ?_)
        · skip
          refine hX_goM 1 (105) [some (.ref 63), some (.int y1), some (.int y2), some (.int y3), some (.long y4), none, some (.long y6), none, some (.int y8), some (.int y9), some (.int y10)] [.int 0, .int y9] rfl ?_
          have hk := hk
          simp only [c5, cond_true, cond_false] at hk
          first | exact hk | (simp only [c5, cond_true, cond_false]; exact hk)
        · skip
          refine hX_goM 3 (bif gCmp .ge y9 9999 then 104 else 100) [some (.ref 63), some (.int y1), some (.int y2), some (.int y3), some (.long y4), none, some (.long y6), none, some (.int y8), some (.int y9), some (.int y10)] [.int y9] rfl ?_
          refine hX_if (gCmp .ge y9 9999) (fun c6 => ?_) (fun c6 => ?_)
          · skip
            refine hX_goM 1 (105) [some (.ref 63), some (.int y1), some (.int y2), some (.int y3), some (.long y4), none, some (.long y6), none, some (.int y8), some (.int y9), some (.int y10)] [.int 0, .int y9] rfl ?_
            have hk := hk
            simp only [c5, c6, cond_true, cond_false] at hk
            first | exact hk | (simp only [c5, c6, cond_true, cond_false]; exact hk)
          · skip
            refine hX_goM 2 (105) [some (.ref 63), some (.int y1), some (.int y2), some (.int y3), some (.long y4), none, some (.long y6), none, some (.int y8), some (.int y9), some (.int y10)] [.int 1, .int y9] rfl ?_
            have hk := hk
            simp only [c5, c6, cond_true, cond_false] at hk
            first | exact hk | (simp only [c5, c6, cond_true, cond_false]; exact hk)
      refine hX_goM 4 (69) [some (.ref 63), some (.int y1), some (.int y2), some (.int y3), some (.long y4), none, some (.long y6), none, some (.int y8), some (.int (y9 + (bif gCmp .ne (m_be (Int32.toNatClampNeg y10)) m_tl then 0 else (bif gCmp .ge y9 9999 then 0 else 1)))), some (.int (y10 + 1))] [] rfl ?_
      exact ih (y9 + (bif gCmp .ne (m_be (Int32.toNatClampNeg y10)) m_tl then 0 else (bif gCmp .ge y9 9999 then 0 else 1))) (y10 + 1) q h kk

/-- UpOneSideModel.lasts: the loop at 46 -/
def lp_184_63_46 (N : Nat) (y1 : Int32) (y2 : Int32) (m_s : Nat → Int32) : Nat → Int64 → Int64 → Int32 → Int32 → Int32 → (Nat → Int32) → Option (Int64 × Int64 × Int32 × Int32 × Int32 × (Nat → Int32))
  | 0, _, _, _, _, _, _ => none
  | n + 1, y4, y6, y8, m_tl, m_tr, m_be =>
    (bif gCmp .ge y8 y2 then
      some (y4, y6, y8, m_tl, m_tr, m_be)
    else
      (bif gIn (39 + m_tl) 134 then (Option.bind (lp_184_63_69 N y8 m_tl m_be N (m_s (Int32.toNatClampNeg (39 + m_tl))) 0) fun q3 =>
      (bif gIn y8 4 then (bif gIn ((15 + (3 * y1)) + 0) 134 then (bif gIn ((15 + (3 * y1)) + 1) 134 then (bif gIn ((15 + (3 * y1)) + 2) 134 then lp_184_63_46 N y1 y2 m_s n (y4 * (Int32.toInt64 (v_181_63 q3.1 m_s))) (y6 * 10000) (y8 + 1) (f_136_63_m_tl y1 m_s m_tl m_tr) (f_136_63_m_tr y1 m_s m_tl m_tr) (upd m_be (Int32.toNatClampNeg y8) m_tl) else none) else none) else none) else none)) else none))
set_option maxRecDepth 20000 in
set_option maxHeartbeats 4000000 in
theorem lt_184_63_46 {LL : Nat} {xs : Nat → Int32} {D N : Nat} {c0 : Nat → gE} {m_s : Nat → Int32} {m_kp : Nat → Int32} {m_as : Nat → Int32} {m_ik : Int32} {m_fo : Nat → Int32}   {m_fa : Nat → Int32} {m_od : Nat → Int32} {m_rc : Int32}  {m_ft : Int32} {m_tp : Nat → Int32} {m_td : Int32} {m_tk : Int32} {m_bg : Int32} {m_en : Int32} {m_vl : Int64} {m_sg : Int32} {m_wi : Nat → Int32} {m_si : Nat → Int32} {m_ce : Nat → Int32} {m_ca : Nat → Int32} {y1 : Int32} {y2 : Int32} {y3 : Int32} {v : Option Value} {M' : List gE} : ∀ (n : Nat) (y4 : Int64) (y6 : Int64) (y8 : Int32) (m_tl : Int32) (m_tr : Int32) (m_be : Nat → Int32) (q : Int64 × Int64 × Int32 × Int32 × Int32 × (Nat → Int32)), lp_184_63_46 N y1 y2 m_s n y4 y6 y8 m_tl m_tr m_be = some q → (kk : hX (gO LL xs) (D + 3) zR_184 156 [some (.ref 63), some (.int y1), some (.int y2), some (.int y3), some (.long q.1), none, some (.long q.2.1), none, some (.int q.2.2.1), none, none] [] (hMm c0 m_s m_kp m_as m_ik m_fo q.2.2.2.1 q.2.2.2.2.1 m_fa m_od m_rc q.2.2.2.2.2 m_ft m_tp m_td m_tk m_bg m_en m_vl m_sg m_wi m_si m_ce m_ca) v M') → hX (gO LL xs) (D + 3) zR_184 46 [some (.ref 63), some (.int y1), some (.int y2), some (.int y3), some (.long y4), none, some (.long y6), none, some (.int y8), none, none] [] (hMm c0 m_s m_kp m_as m_ik m_fo m_tl m_tr m_fa m_od m_rc m_be m_ft m_tp m_td m_tk m_bg m_en m_vl m_sg m_wi m_si m_ce m_ca) v M' := by
  intro n
  induction n with
  | zero => intro y4 y6 y8 m_tl m_tr m_be q h; cases h
  | succ n ih =>
    intro y4 y6 y8 m_tl m_tr m_be q h kk
    rw [lp_184_63_46] at h
    refine hX_go 3 (bif gCmp .ge y8 y2 then 156 else 52) [some (.ref 63), some (.int y1), some (.int y2), some (.int y3), some (.long y4), none, some (.long y6), none, some (.int y8), none, none] [] (hMm c0 m_s m_kp m_as m_ik m_fo m_tl m_tr m_fa m_od m_rc m_be m_ft m_tp m_td m_tk m_bg m_en m_vl m_sg m_wi m_si m_ce m_ca) rfl ?_
    refine hX_if (gCmp .ge y8 y2) (fun c1 => ?_) (fun c1 => ?_)
    · skip
      have h := gcT c1 h
      have h := Option.some.inj h; subst h
      exact kk
    · skip
      have h := gcF c1 h
      refine hX_goM 6 (63) [some (.ref 63), some (.int y1), some (.int y2), some (.int y3), some (.long y4), none, some (.long y6), none, some (.int y8), none, none] [.int (39 + m_tl), .ref 64] rfl ?_
      revert h; refine gCondR fun g2 h => ?_
      refine hX_gM (gIn (39 + m_tl) 134) 64 [some (.ref 63), some (.int y1), some (.int y2), some (.int y3), some (.long y4), none, some (.long y6), none, some (.int y8), none, none] [.int (m_s (Int32.toNatClampNeg (39 + m_tl)))] rfl g2 ?_
      refine hX_goM 3 (69) [some (.ref 63), some (.int y1), some (.int y2), some (.int y3), some (.long y4), none, some (.long y6), none, some (.int y8), some (.int (m_s (Int32.toNatClampNeg (39 + m_tl)))), some (.int 0)] [] rfl ?_
      revert h; refine gBindR fun q3 e3 h => ?_
      refine lt_184_63_69 N (m_s (Int32.toNatClampNeg (39 + m_tl))) 0 q3 e3 ?_
      refine hX_goM 5 (124) [some (.ref 63), some (.int y1), some (.int y2), some (.int y3), some (.long y4), none, some (.long y6), none, some (.int y8), some (.int q3.1), some (.int q3.2)] [.int m_tl, .int y8, .ref 70] rfl ?_
      revert h; refine gCondR fun g4 h => ?_
      refine hX_g (gIn y8 4) 125 [some (.ref 63), some (.int y1), some (.int y2), some (.int y3), some (.long y4), none, some (.long y6), none, some (.int y8), some (.int q3.1), some (.int q3.2)] [] (hMm c0 m_s m_kp m_as m_ik m_fo m_tl m_tr m_fa m_od m_rc (upd m_be (Int32.toNatClampNeg y8) m_tl) m_ft m_tp m_td m_tk m_bg m_en m_vl m_sg m_wi m_si m_ce m_ca) rfl g4 ?_
      refine hX_goM 3 (130) [some (.ref 63), some (.int y1), some (.int y2), some (.int y3), some (.long y4), none, some (.long y6), none, some (.int y8), some (.int q3.1), some (.int q3.2)] [.int q3.1, .ref 63, .long y4] rfl ?_
      refine hX_call (r' := zR_181) rfl (ct_181_63 q3.1) ?_
      refine hX_goM 9 (147) [some (.ref 63), some (.int y1), some (.int y2), some (.int y3), some (.long (y4 * (Int32.toInt64 (v_181_63 q3.1 m_s)))), none, some (.long (y6 * 10000)), none, some (.int y8), some (.int q3.1), some (.int q3.2)] [.int y1, .ref 63] rfl ?_
      revert h; refine gCondR fun g5 h => ?_
      revert h; refine gCondR fun g6 h => ?_
      revert h; refine gCondR fun g7 h => ?_
      refine hX_call (r' := zR_136) rfl (ct_136_63 y1 g5 g6 g7) ?_
      refine hX_go 2 (46) [some (.ref 63), some (.int y1), some (.int y2), some (.int y3), some (.long (y4 * (Int32.toInt64 (v_181_63 q3.1 m_s)))), none, some (.long (y6 * 10000)), none, some (.int (y8 + 1)), some (.int q3.1), some (.int q3.2)] [] (hMm c0 m_s m_kp m_as m_ik m_fo (f_136_63_m_tl y1 m_s m_tl m_tr) (f_136_63_m_tr y1 m_s m_tl m_tr) m_fa m_od m_rc (upd m_be (Int32.toNatClampNeg y8) m_tl) m_ft m_tp m_td m_tk m_bg m_en m_vl m_sg m_wi m_si m_ce m_ca) rfl ?_
      exact hX_wk (gLe_s (gLe_s (gLe_s (gLe_s (gLe_s (gLe_n (gLe_s (gLe_n (gLe_s (gLe_n (gLe_n gLe_0))))))))))) (ih (y4 * (Int32.toInt64 (v_181_63 q3.1 m_s))) (y6 * 10000) (y8 + 1) (f_136_63_m_tl y1 m_s m_tl m_tr) (f_136_63_m_tr y1 m_s m_tl m_tr) (upd m_be (Int32.toNatClampNeg y8) m_tl) q h kk)

/-- UpOneSideModel.lasts(III)J -/
def me_184_63 (N : Nat) (x0 : Int32) (x1 : Int32) (x2 : Int32) (m_s : Nat → Int32) (m_fo : Nat → Int32) (m_tl : Int32) (m_tr : Int32) (m_be : Nat → Int32) : Option (Int64 × (Nat → Int32) × Int32 × Int32 × (Nat → Int32)) :=
  (bif gCmp .eq (v_129_63 x0 m_s) 0 then
    some (Int32.toInt64 (v_124_63 0), f_124_63_m_fo 0 m_fo, m_tl, m_tr, m_be)
  else
    (bif gCmp .eq (v_125 x1 0 4) 0 then
      some (Int32.toInt64 (v_124_63 0), f_124_63_m_fo 0 m_fo, m_tl, m_tr, m_be)
    else
      (bif gCmp .ne (v_125 x2 0 1) 0 then
        (Option.bind (lp_184_63_46 N x0 x1 m_s N 1 1 0 (f_135_63_m_tl m_s) (f_135_63_m_tr m_s) m_be) fun q4 =>
        (Option.bind (me_182 N q4.1 q4.2.1) fun q5 =>
        (bif !(gCmp .ne x2 0) || (!(decide (q5 = 0))) then (bif (gCmp .ne x2 0) || (!(decide (q5 = 0))) then some (bif gCmp .ne x2 0 then (q4.2.1 / q5) else (q4.1 / q5), m_fo, q4.2.2.2.1, q4.2.2.2.2.1, q4.2.2.2.2.2) else none) else none)))
      else
        some (Int32.toInt64 (v_124_63 0), f_124_63_m_fo 0 m_fo, m_tl, m_tr, m_be))))
set_option maxRecDepth 20000 in
set_option maxHeartbeats 4000000 in
theorem mt_184_63 {LL : Nat} {xs : Nat → Int32} {D : Nat} {c0 : Nat → gE} {m_s : Nat → Int32} {m_kp : Nat → Int32} {m_as : Nat → Int32} {m_ik : Int32} {m_fo : Nat → Int32} {m_tl : Int32} {m_tr : Int32} {m_fa : Nat → Int32} {m_od : Nat → Int32} {m_rc : Int32} {m_be : Nat → Int32} {m_ft : Int32} {m_tp : Nat → Int32} {m_td : Int32} {m_tk : Int32} {m_bg : Int32} {m_en : Int32} {m_vl : Int64} {m_sg : Int32} {m_wi : Nat → Int32} {m_si : Nat → Int32} {m_ce : Nat → Int32} {m_ca : Nat → Int32} (N : Nat) (x0 : Int32) (x1 : Int32) (x2 : Int32) (q : Int64 × (Nat → Int32) × Int32 × Int32 × (Nat → Int32)) (h : me_184_63 N x0 x1 x2 m_s m_fo m_tl m_tr m_be = some q) : hM (gO LL xs) (D + 3) zR_184 [.ref 63, .int x0, .int x1, .int x2] (hMm c0 m_s m_kp m_as m_ik m_fo m_tl m_tr m_fa m_od m_rc m_be m_ft m_tp m_td m_tk m_bg m_en m_vl m_sg m_wi m_si m_ce m_ca) (some (.long q.1)) (hMm c0 m_s m_kp m_as m_ik q.2.1 q.2.2.1 q.2.2.2.1 m_fa m_od m_rc q.2.2.2.2 m_ft m_tp m_td m_tk m_bg m_en m_vl m_sg m_wi m_si m_ce m_ca) := by
  unfold me_184_63 at h
  refine hX_go 0 0 [some (.ref 63), some (.int x0), some (.int x1), some (.int x2), none, none, none, none, none, none, none] [] (hMm c0 m_s m_kp m_as m_ik m_fo m_tl m_tr m_fa m_od m_rc m_be m_ft m_tp m_td m_tk m_bg m_en m_vl m_sg m_wi m_si m_ce m_ca) rfl ?_
  refine hX_go 2 (2) [some (.ref 63), some (.int x0), some (.int x1), some (.int x2), none, none, none, none, none, none, none] [.int x0, .ref 63] (hMm c0 m_s m_kp m_as m_ik m_fo m_tl m_tr m_fa m_od m_rc m_be m_ft m_tp m_td m_tk m_bg m_en m_vl m_sg m_wi m_si m_ce m_ca) rfl ?_
  refine hX_call (r' := zR_129) rfl (ct_129_63 x0) ?_
  refine hX_goM 1 (bif gCmp .eq (v_129_63 x0 m_s) 0 then 26 else 8) [some (.ref 63), some (.int x0), some (.int x1), some (.int x2), none, none, none, none, none, none, none] [] rfl ?_
  refine hX_if (gCmp .eq (v_129_63 x0 m_s) 0) (fun c1 => ?_) (fun c1 => ?_)
  · skip
    have h := gcT c1 h
    refine hX_goM 2 (28) [some (.ref 63), some (.int x0), some (.int x1), some (.int x2), none, none, none, none, none, none, none] [.int 0, .ref 63] rfl ?_
    refine hX_call (r' := zR_124) rfl (ct_124_63 0 rfl) ?_
    refine hX_go 1 (32) [some (.ref 63), some (.int x0), some (.int x1), some (.int x2), none, none, none, none, none, none, none] [.long (Int32.toInt64 (v_124_63 0))] (hMm c0 m_s m_kp m_as m_ik (f_124_63_m_fo 0 m_fo) m_tl m_tr m_fa m_od m_rc m_be m_ft m_tp m_td m_tk m_bg m_en m_vl m_sg m_wi m_si m_ce m_ca) rfl ?_
    have h := Option.some.inj h; subst h
    exact hX_end rfl rfl rfl
  · skip
    have h := gcF c1 h
    refine hX_goM 3 (11) [some (.ref 63), some (.int x0), some (.int x1), some (.int x2), none, none, none, none, none, none, none] [.int 4, .int 0, .int x1] rfl ?_
    refine hX_call (r' := zR_125) rfl (ct_125 x1 0 4) ?_
    refine hX_goM 1 (bif gCmp .eq (v_125 x1 0 4) 0 then 26 else 17) [some (.ref 63), some (.int x0), some (.int x1), some (.int x2), none, none, none, none, none, none, none] [] rfl ?_
    refine hX_if (gCmp .eq (v_125 x1 0 4) 0) (fun c2 => ?_) (fun c2 => ?_)
    · skip
      have h := gcT c2 h
      refine hX_goM 2 (28) [some (.ref 63), some (.int x0), some (.int x1), some (.int x2), none, none, none, none, none, none, none] [.int 0, .ref 63] rfl ?_
      refine hX_call (r' := zR_124) rfl (ct_124_63 0 rfl) ?_
      refine hX_go 1 (32) [some (.ref 63), some (.int x0), some (.int x1), some (.int x2), none, none, none, none, none, none, none] [.long (Int32.toInt64 (v_124_63 0))] (hMm c0 m_s m_kp m_as m_ik (f_124_63_m_fo 0 m_fo) m_tl m_tr m_fa m_od m_rc m_be m_ft m_tp m_td m_tk m_bg m_en m_vl m_sg m_wi m_si m_ce m_ca) rfl ?_
      have h := Option.some.inj h; subst h
      exact hX_end rfl rfl rfl
    · skip
      have h := gcF c2 h
      refine hX_goM 3 (20) [some (.ref 63), some (.int x0), some (.int x1), some (.int x2), none, none, none, none, none, none, none] [.int 1, .int 0, .int x2] rfl ?_
      refine hX_call (r' := zR_125) rfl (ct_125 x2 0 1) ?_
      refine hX_goM 1 (bif gCmp .ne (v_125 x2 0 1) 0 then 33 else 26) [some (.ref 63), some (.int x0), some (.int x1), some (.int x2), none, none, none, none, none, none, none] [] rfl ?_
      refine hX_if (gCmp .ne (v_125 x2 0 1) 0) (fun c3 => ?_) (fun c3 => ?_)
      · skip
        have h := gcT c3 h
        refine hX_goM 5 (40) [some (.ref 63), some (.int x0), some (.int x1), some (.int x2), some (.long 1), none, some (.long 1), none, none, none, none] [.ref 63] rfl ?_
        refine hX_call (r' := zR_135) rfl (ct_135_63) ?_
        refine hX_go 2 (46) [some (.ref 63), some (.int x0), some (.int x1), some (.int x2), some (.long 1), none, some (.long 1), none, some (.int 0), none, none] [] (hMm c0 m_s m_kp m_as m_ik m_fo (f_135_63_m_tl m_s) (f_135_63_m_tr m_s) m_fa m_od m_rc m_be m_ft m_tp m_td m_tk m_bg m_en m_vl m_sg m_wi m_si m_ce m_ca) rfl ?_
        revert h; refine gBindR fun q4 e4 h => ?_
        refine lt_184_63_46 N 1 1 0 (f_135_63_m_tl m_s) (f_135_63_m_tr m_s) m_be q4 e4 ?_
        refine hX_go 2 (160) [some (.ref 63), some (.int x0), some (.int x1), some (.int x2), some (.long q4.1), none, some (.long q4.2.1), none, some (.int q4.2.2.1), none, none] [.long q4.2.1, .long q4.1] (hMm c0 m_s m_kp m_as m_ik m_fo q4.2.2.2.1 q4.2.2.2.2.1 m_fa m_od m_rc q4.2.2.2.2.2 m_ft m_tp m_td m_tk m_bg m_en m_vl m_sg m_wi m_si m_ce m_ca) rfl ?_
        revert h; refine gBindR fun q5 e5 h => ?_
        refine hX_call (r' := zR_182) rfl (mt_182 N q4.1 q4.2.1 q5 e5) ?_
        refine hX_goM 3 (bif gCmp .ne x2 0 then 177 else 169) [some (.ref 63), some (.int x0), some (.int x1), some (.int x2), some (.long q4.1), none, some (.long q4.2.1), none, some (.long q5), none, none] [] rfl ?_
        revert h; refine gCondR fun o7 h => ?_
        revert h; refine gCondR fun o8 h => ?_
        refine hX_mrg 182 [some (.ref 63), some (.int x0), some (.int x1), some (.int x2), some (.long q4.1), none, some (.long q4.2.1), none, some (.long q5), none, none] [.long (bif gCmp .ne x2 0 then (q4.2.1 / q5) else (q4.1 / q5))] (hMm c0 m_s m_kp m_as m_ik m_fo q4.2.2.2.1 q4.2.2.2.2.1 m_fa m_od m_rc q4.2.2.2.2.2 m_ft m_tp m_td m_tk m_bg m_en m_vl m_sg m_wi m_si m_ce m_ca) (fun hk => ?_) ?_
        · skip
          refine hX_if (gCmp .ne x2 0) (fun c9 => ?_) (fun c9 => ?_)
          · skip
            refine hX_goM 2 (181) [some (.ref 63), some (.int x0), some (.int x1), some (.int x2), some (.long q4.1), none, some (.long q4.2.1), none, some (.long q5), none, none] [.long q5, .long q4.2.1] rfl ?_
            refine hX_gnM (decide (q5 = 0)) 182 [some (.ref 63), some (.int x0), some (.int x1), some (.int x2), some (.long q4.1), none, some (.long q4.2.1), none, some (.long q5), none, none] [.long (q4.2.1 / q5)] rfl (gNot (gImpT o7 c9)) ?_
            have hk := hk
            simp only [c9, cond_true, cond_false] at hk
            first | exact hk | (simp only [c9, cond_true, cond_false]; exact hk)
          · skip
            refine hX_goM 2 (173) [some (.ref 63), some (.int x0), some (.int x1), some (.int x2), some (.long q4.1), none, some (.long q4.2.1), none, some (.long q5), none, none] [.long q5, .long q4.1] rfl ?_
            refine hX_gnM (decide (q5 = 0)) 174 [some (.ref 63), some (.int x0), some (.int x1), some (.int x2), some (.long q4.1), none, some (.long q4.2.1), none, some (.long q5), none, none] [.long (q4.1 / q5)] rfl (gNot (gImpF o8 c9)) ?_
            refine hX_goM 1 (182) [some (.ref 63), some (.int x0), some (.int x1), some (.int x2), some (.long q4.1), none, some (.long q4.2.1), none, some (.long q5), none, none] [.long (q4.1 / q5)] rfl ?_
            have hk := hk
            simp only [c9, cond_true, cond_false] at hk
            first | exact hk | (simp only [c9, cond_true, cond_false]; exact hk)
        have h := Option.some.inj h; subst h
        exact hX_end rfl rfl rfl
      · skip
        have h := gcF c3 h
        refine hX_goM 2 (28) [some (.ref 63), some (.int x0), some (.int x1), some (.int x2), none, none, none, none, none, none, none] [.int 0, .ref 63] rfl ?_
        refine hX_call (r' := zR_124) rfl (ct_124_63 0 rfl) ?_
        refine hX_go 1 (32) [some (.ref 63), some (.int x0), some (.int x1), some (.int x2), none, none, none, none, none, none, none] [.long (Int32.toInt64 (v_124_63 0))] (hMm c0 m_s m_kp m_as m_ik (f_124_63_m_fo 0 m_fo) m_tl m_tr m_fa m_od m_rc m_be m_ft m_tp m_td m_tk m_bg m_en m_vl m_sg m_wi m_si m_ce m_ca) rfl ?_
        have h := Option.some.inj h; subst h
        exact hX_end rfl rfl rfl

/-- UpOneSideModel.isSheet(I)Z -/
def v_185 (x0 : Int32) : Int32 := v_125 x0 0 3
set_option maxRecDepth 20000 in
set_option maxHeartbeats 1000000 in
theorem ct_185 {LL : Nat} {xs : Nat → Int32} {D : Nat} {c0 : Nat → gE} {m_s : Nat → Int32} {m_kp : Nat → Int32} {m_as : Nat → Int32} {m_ik : Int32} {m_fo : Nat → Int32} {m_tl : Int32} {m_tr : Int32} {m_fa : Nat → Int32} {m_od : Nat → Int32} {m_rc : Int32} {m_be : Nat → Int32} {m_ft : Int32} {m_tp : Nat → Int32} {m_td : Int32} {m_tk : Int32} {m_bg : Int32} {m_en : Int32} {m_vl : Int64} {m_sg : Int32} {m_wi : Nat → Int32} {m_si : Nat → Int32} {m_ce : Nat → Int32} {m_ca : Nat → Int32} (x0 : Int32) : hM (gO LL xs) (D + 1) zR_185 [.int x0] (hMm c0 m_s m_kp m_as m_ik m_fo m_tl m_tr m_fa m_od m_rc m_be m_ft m_tp m_td m_tk m_bg m_en m_vl m_sg m_wi m_si m_ce m_ca) (some (.int (v_185 x0))) (hMm c0 m_s m_kp m_as m_ik m_fo m_tl m_tr m_fa m_od m_rc m_be m_ft m_tp m_td m_tk m_bg m_en m_vl m_sg m_wi m_si m_ce m_ca) := by
  refine hX_go 0 0 [some (.int x0)] [] (hMm c0 m_s m_kp m_as m_ik m_fo m_tl m_tr m_fa m_od m_rc m_be m_ft m_tp m_td m_tk m_bg m_en m_vl m_sg m_wi m_si m_ce m_ca) rfl ?_
  refine hX_go 3 (3) [some (.int x0)] [.int 3, .int 0, .int x0] (hMm c0 m_s m_kp m_as m_ik m_fo m_tl m_tr m_fa m_od m_rc m_be m_ft m_tp m_td m_tk m_bg m_en m_vl m_sg m_wi m_si m_ce m_ca) rfl ?_
  refine hX_call (r' := zR_125) rfl (ct_125 x0 0 3) ?_
  refine hX_goM 0 (6) [some (.int x0)] [.int (v_125 x0 0 3)] rfl ?_
  exact hX_endZ rfl (bz_125 x0 0 3) (rfl) (rfl)

theorem bz_185 (x0 : Int32) : (decide (v_185 x0 = 0) || decide (v_185 x0 = 1)) = true := by
  unfold v_185
  exact (bz_125 x0 0 3)

/-- UpOneSideModel.wrongSheet(I)I -/
def v_186_63 (x0 : Int32) (m_wi : Nat → Int32) : Int32 := bif gCmp .ne (v_185 x0) 0 then (bif gCmp .ne (m_wi (Int32.toNatClampNeg x0)) 0 then (-1) else 5) else 0
set_option maxRecDepth 20000 in
set_option maxHeartbeats 1000000 in
theorem ct_186_63 {LL : Nat} {xs : Nat → Int32} {D : Nat} {c0 : Nat → gE} {m_s : Nat → Int32} {m_kp : Nat → Int32} {m_as : Nat → Int32} {m_ik : Int32} {m_fo : Nat → Int32} {m_tl : Int32} {m_tr : Int32} {m_fa : Nat → Int32} {m_od : Nat → Int32} {m_rc : Int32} {m_be : Nat → Int32} {m_ft : Int32} {m_tp : Nat → Int32} {m_td : Int32} {m_tk : Int32} {m_bg : Int32} {m_en : Int32} {m_vl : Int64} {m_sg : Int32} {m_wi : Nat → Int32} {m_si : Nat → Int32} {m_ce : Nat → Int32} {m_ca : Nat → Int32} (x0 : Int32) (o1 : gCmp .ne (v_185 x0) 0 = true → gIn x0 4 = true) : hM (gO LL xs) (D + 2) zR_186 [.ref 63, .int x0] (hMm c0 m_s m_kp m_as m_ik m_fo m_tl m_tr m_fa m_od m_rc m_be m_ft m_tp m_td m_tk m_bg m_en m_vl m_sg m_wi m_si m_ce m_ca) (some (.int (v_186_63 x0 m_wi))) (hMm c0 m_s m_kp m_as m_ik m_fo m_tl m_tr m_fa m_od m_rc m_be m_ft m_tp m_td m_tk m_bg m_en m_vl m_sg m_wi m_si m_ce m_ca) := by
  refine hX_go 0 0 [some (.ref 63), some (.int x0)] [] (hMm c0 m_s m_kp m_as m_ik m_fo m_tl m_tr m_fa m_od m_rc m_be m_ft m_tp m_td m_tk m_bg m_en m_vl m_sg m_wi m_si m_ce m_ca) rfl ?_
  refine hX_go 1 (1) [some (.ref 63), some (.int x0)] [.int x0] (hMm c0 m_s m_kp m_as m_ik m_fo m_tl m_tr m_fa m_od m_rc m_be m_ft m_tp m_td m_tk m_bg m_en m_vl m_sg m_wi m_si m_ce m_ca) rfl ?_
  refine hX_call (r' := zR_185) rfl (ct_185 x0) ?_
  refine hX_goM 1 (bif gCmp .ne (v_185 x0) 0 then 11 else 7) [some (.ref 63), some (.int x0)] [] rfl ?_
  suffices hk : hX (gO LL xs) (D + 2) zR_186 25 [some (.ref 63), some (.int x0)] [.int (bif gCmp .ne (v_185 x0) 0 then (bif gCmp .ne (m_wi (Int32.toNatClampNeg x0)) 0 then (-1) else 5) else 0)] (hMm c0 m_s m_kp m_as m_ik m_fo m_tl m_tr m_fa m_od m_rc m_be m_ft m_tp m_td m_tk m_bg m_en m_vl m_sg m_wi m_si m_ce m_ca) (some (.int (v_186_63 x0 m_wi))) (hMm c0 m_s m_kp m_as m_ik m_fo m_tl m_tr m_fa m_od m_rc m_be m_ft m_tp m_td m_tk m_bg m_en m_vl m_sg m_wi m_si m_ce m_ca) by
    refine hX_if (gCmp .ne (v_185 x0) 0) (fun c1 => ?_) (fun c1 => ?_)
    · skip
      refine hX_goM 3 (16) [some (.ref 63), some (.int x0)] [.int x0, .ref 75] rfl ?_
      refine hX_gM (gIn x0 4) 17 [some (.ref 63), some (.int x0)] [.int (m_wi (Int32.toNatClampNeg x0))] rfl (o1 c1) ?_
      refine hX_goM 1 (bif gCmp .ne (m_wi (Int32.toNatClampNeg x0)) 0 then 24 else 20) [some (.ref 63), some (.int x0)] [] rfl ?_
      refine hX_if (gCmp .ne (m_wi (Int32.toNatClampNeg x0)) 0) (fun c2 => ?_) (fun c2 => ?_)
      · skip
        refine hX_goM 1 (25) [some (.ref 63), some (.int x0)] [.int (-1)] rfl ?_
        have hk := hk
        simp only [c1, c2, cond_true, cond_false] at hk
        first | exact hk | (simp only [c1, c2, cond_true, cond_false]; exact hk)
      · skip
        refine hX_goM 2 (25) [some (.ref 63), some (.int x0)] [.int 5] rfl ?_
        have hk := hk
        simp only [c1, c2, cond_true, cond_false] at hk
        first | exact hk | (simp only [c1, c2, cond_true, cond_false]; exact hk)
    · skip
      refine hX_goM 2 (25) [some (.ref 63), some (.int x0)] [.int 0] rfl ?_
      have hk := hk
      simp only [c1, cond_true, cond_false] at hk
      first | exact hk | (simp only [c1, cond_true, cond_false]; exact hk)
  exact hX_end rfl (rfl) (rfl)

/-- UpOneSideModel.isTold(III)Z -/
def v_187_63 (x0 : Int32) (x1 : Int32) (x2 : Int32) (m_si : Nat → Int32) (m_ce : Nat → Int32) : Int32 := bif gCmp .ge x1 (m_si (Int32.toNatClampNeg x0)) then 1 else (bif gCmp .eq (m_ce (Int32.toNatClampNeg ((40 * x0) + x1))) (-1) then 1 else (bif gCmp .ne (m_ce (Int32.toNatClampNeg ((40 * x0) + x1))) x2 then 0 else 1))
set_option maxRecDepth 20000 in
set_option maxHeartbeats 1000000 in
theorem ct_187_63 {LL : Nat} {xs : Nat → Int32} {D : Nat} {c0 : Nat → gE} {m_s : Nat → Int32} {m_kp : Nat → Int32} {m_as : Nat → Int32} {m_ik : Int32} {m_fo : Nat → Int32} {m_tl : Int32} {m_tr : Int32} {m_fa : Nat → Int32} {m_od : Nat → Int32} {m_rc : Int32} {m_be : Nat → Int32} {m_ft : Int32} {m_tp : Nat → Int32} {m_td : Int32} {m_tk : Int32} {m_bg : Int32} {m_en : Int32} {m_vl : Int64} {m_sg : Int32} {m_wi : Nat → Int32} {m_si : Nat → Int32} {m_ce : Nat → Int32} {m_ca : Nat → Int32} (x0 : Int32) (x1 : Int32) (x2 : Int32) (o1 : gIn x0 4 = true) (o2 : gCmp .ge x1 (m_si (Int32.toNatClampNeg x0)) = false → gIn ((40 * x0) + x1) 160 = true) : hM (gO LL xs) (D + 0) zR_187 [.ref 63, .int x0, .int x1, .int x2] (hMm c0 m_s m_kp m_as m_ik m_fo m_tl m_tr m_fa m_od m_rc m_be m_ft m_tp m_td m_tk m_bg m_en m_vl m_sg m_wi m_si m_ce m_ca) (some (.int (v_187_63 x0 x1 x2 m_si m_ce))) (hMm c0 m_s m_kp m_as m_ik m_fo m_tl m_tr m_fa m_od m_rc m_be m_ft m_tp m_td m_tk m_bg m_en m_vl m_sg m_wi m_si m_ce m_ca) := by
  refine hX_go 0 0 [some (.ref 63), some (.int x0), some (.int x1), some (.int x2)] [] (hMm c0 m_s m_kp m_as m_ik m_fo m_tl m_tr m_fa m_od m_rc m_be m_ft m_tp m_td m_tk m_bg m_en m_vl m_sg m_wi m_si m_ce m_ca) rfl ?_
  refine hX_go 4 (6) [some (.ref 63), some (.int x0), some (.int x1), some (.int x2)] [.int x0, .ref 76, .int x1] (hMm c0 m_s m_kp m_as m_ik m_fo m_tl m_tr m_fa m_od m_rc m_be m_ft m_tp m_td m_tk m_bg m_en m_vl m_sg m_wi m_si m_ce m_ca) rfl ?_
  refine hX_gM (gIn x0 4) 7 [some (.ref 63), some (.int x0), some (.int x1), some (.int x2)] [.int (m_si (Int32.toNatClampNeg x0)), .int x1] rfl o1 ?_
  refine hX_goM 1 (bif gCmp .ge x1 (m_si (Int32.toNatClampNeg x0)) then 40 else 10) [some (.ref 63), some (.int x0), some (.int x1), some (.int x2)] [] rfl ?_
  refine hX_if (gCmp .ge x1 (m_si (Int32.toNatClampNeg x0))) (fun c1 => ?_) (fun c1 => ?_)
  · skip
    refine hX_goM 2 (45) [some (.ref 63), some (.int x0), some (.int x1), some (.int x2)] [.int 1] rfl ?_
    exact hX_end rfl (by unfold v_187_63; rw [c1]; rfl) (rfl)
  · skip
    refine hX_goM 7 (20) [some (.ref 63), some (.int x0), some (.int x1), some (.int x2)] [.int ((40 * x0) + x1), .ref 77] rfl ?_
    refine hX_gM (gIn ((40 * x0) + x1) 160) 21 [some (.ref 63), some (.int x0), some (.int x1), some (.int x2)] [.int (m_ce (Int32.toNatClampNeg ((40 * x0) + x1)))] rfl (o2 c1) ?_
    refine hX_goM 2 (bif gCmp .eq (m_ce (Int32.toNatClampNeg ((40 * x0) + x1))) (-1) then 40 else 25) [some (.ref 63), some (.int x0), some (.int x1), some (.int x2)] [] rfl ?_
    refine hX_if (gCmp .eq (m_ce (Int32.toNatClampNeg ((40 * x0) + x1))) (-1)) (fun c2 => ?_) (fun c2 => ?_)
    · skip
      refine hX_goM 2 (45) [some (.ref 63), some (.int x0), some (.int x1), some (.int x2)] [.int 1] rfl ?_
      exact hX_end rfl (by unfold v_187_63; rw [c1, c2]; rfl) (rfl)
    · skip
      refine hX_goM 7 (35) [some (.ref 63), some (.int x0), some (.int x1), some (.int x2)] [.int ((40 * x0) + x1), .ref 77] rfl ?_
      refine hX_gM (gIn ((40 * x0) + x1) 160) 36 [some (.ref 63), some (.int x0), some (.int x1), some (.int x2)] [.int (m_ce (Int32.toNatClampNeg ((40 * x0) + x1)))] rfl (o2 c1) ?_
      refine hX_goM 2 (bif gCmp .ne (m_ce (Int32.toNatClampNeg ((40 * x0) + x1))) x2 then 44 else 40) [some (.ref 63), some (.int x0), some (.int x1), some (.int x2)] [] rfl ?_
      refine hX_if (gCmp .ne (m_ce (Int32.toNatClampNeg ((40 * x0) + x1))) x2) (fun c3 => ?_) (fun c3 => ?_)
      · skip
        refine hX_goM 1 (45) [some (.ref 63), some (.int x0), some (.int x1), some (.int x2)] [.int 0] rfl ?_
        exact hX_end rfl (by unfold v_187_63; rw [c1, c2, c3]; rfl) (rfl)
      · skip
        refine hX_goM 2 (45) [some (.ref 63), some (.int x0), some (.int x1), some (.int x2)] [.int 1] rfl ?_
        exact hX_end rfl (by unfold v_187_63; rw [c1, c2, c3]; rfl) (rfl)

theorem bz_187_63 (x0 : Int32) (x1 : Int32) (x2 : Int32) (m_si : Nat → Int32) (m_ce : Nat → Int32) : (decide (v_187_63 x0 x1 x2 m_si m_ce = 0) || decide (v_187_63 x0 x1 x2 m_si m_ce = 1)) = true := by
  unfold v_187_63
  cases (gCmp .ge x1 (m_si (Int32.toNatClampNeg x0)))
  · cases (gCmp .eq (m_ce (Int32.toNatClampNeg ((40 * x0) + x1))) (-1))
    · cases (gCmp .ne (m_ce (Int32.toNatClampNeg ((40 * x0) + x1))) x2)
      · rfl
      · rfl
    · rfl
  · rfl

/-- UpOneSideModel.findsFit: the loop at 68 -/
def lp_188_63_68 (N : Nat) (y1 : Int32) (y2 : Int32) (m_s : Nat → Int32) (m_si : Nat → Int32) (m_ce : Nat → Int32) : Nat → Int32 → Int32 → Int32 → Int32 → Option (Int32 × Int32 × Int32 × Int32)
  | 0, _, _, _, _ => none
  | n + 1, y7, y8, m_tl, m_tr =>
    (bif gIn y1 4 then (bif gCmp .ge y8 (m_si (Int32.toNatClampNeg y1)) then
      some (y7, y8, m_tl, m_tr)
    else
      (bif gCmp .eq y7 0 then
        some (y7, y8, m_tl, m_tr)
      else
        (bif gIn ((15 + (3 * y2)) + 0) 134 then (bif gIn ((15 + (3 * y2)) + 1) 134 then (bif gIn ((15 + (3 * y2)) + 2) 134 then (bif gIn y1 4 then (bif ((gCmp .ge y8 (m_si (Int32.toNatClampNeg y1))) || (gIn ((40 * y1) + y8) 160)) then (bif (gCmp .eq (v_187_63 y1 y8 (f_136_63_m_tl y2 m_s m_tl m_tr) m_si m_ce) 0) || (gIn y1 4) then (bif (gCmp .eq (v_187_63 y1 y8 (f_136_63_m_tl y2 m_s m_tl m_tr) m_si m_ce) 0) || ((gCmp .ge (y8 + 1) (m_si (Int32.toNatClampNeg y1))) || (gIn ((40 * y1) + (y8 + 1)) 160)) then lp_188_63_68 N y1 y2 m_s m_si m_ce n (bif gCmp .eq (v_187_63 y1 y8 (f_136_63_m_tl y2 m_s m_tl m_tr) m_si m_ce) 0 then 0 else (bif gCmp .eq (v_187_63 y1 (y8 + 1) (f_136_63_m_tr y2 m_s m_tl m_tr) m_si m_ce) 0 then 0 else 1)) (y8 + 2) (f_136_63_m_tl y2 m_s m_tl m_tr) (f_136_63_m_tr y2 m_s m_tl m_tr) else none) else none) else none) else none) else none) else none) else none))) else none)
set_option maxRecDepth 20000 in
set_option maxHeartbeats 4000000 in
theorem lt_188_63_68 {LL : Nat} {xs : Nat → Int32} {D N : Nat} {c0 : Nat → gE} {m_s : Nat → Int32} {m_kp : Nat → Int32} {m_as : Nat → Int32} {m_ik : Int32} {m_fo : Nat → Int32}   {m_fa : Nat → Int32} {m_od : Nat → Int32} {m_rc : Int32} {m_be : Nat → Int32} {m_ft : Int32} {m_tp : Nat → Int32} {m_td : Int32} {m_tk : Int32} {m_bg : Int32} {m_en : Int32} {m_vl : Int64} {m_sg : Int32} {m_wi : Nat → Int32} {m_si : Nat → Int32} {m_ce : Nat → Int32} {m_ca : Nat → Int32} {y1 : Int32} {y2 : Int32} {y3 : Int32} {y4 : Int32} {y5 : Int32} {y6 : Int32} {v : Option Value} {M' : List gE} : ∀ (n : Nat) (y7 : Int32) (y8 : Int32) (m_tl : Int32) (m_tr : Int32) (q : Int32 × Int32 × Int32 × Int32), lp_188_63_68 N y1 y2 m_s m_si m_ce n y7 y8 m_tl m_tr = some q → (kk : hX (gO LL xs) (D + 3) zR_188 132 [some (.ref 63), some (.int y1), some (.int y2), some (.int y3), some (.int y4), some (.int y5), some (.int y6), some (.int q.1), some (.int q.2.1)] [] (hMm c0 m_s m_kp m_as m_ik m_fo q.2.2.1 q.2.2.2 m_fa m_od m_rc m_be m_ft m_tp m_td m_tk m_bg m_en m_vl m_sg m_wi m_si m_ce m_ca) v M') → hX (gO LL xs) (D + 3) zR_188 68 [some (.ref 63), some (.int y1), some (.int y2), some (.int y3), some (.int y4), some (.int y5), some (.int y6), some (.int y7), some (.int y8)] [] (hMm c0 m_s m_kp m_as m_ik m_fo m_tl m_tr m_fa m_od m_rc m_be m_ft m_tp m_td m_tk m_bg m_en m_vl m_sg m_wi m_si m_ce m_ca) v M' := by
  intro n
  induction n with
  | zero => intro y7 y8 m_tl m_tr q h; cases h
  | succ n ih =>
    intro y7 y8 m_tl m_tr q h kk
    rw [lp_188_63_68] at h
    refine hX_go 4 (75) [some (.ref 63), some (.int y1), some (.int y2), some (.int y3), some (.int y4), some (.int y5), some (.int y6), some (.int y7), some (.int y8)] [.int y1, .ref 76, .int y8] (hMm c0 m_s m_kp m_as m_ik m_fo m_tl m_tr m_fa m_od m_rc m_be m_ft m_tp m_td m_tk m_bg m_en m_vl m_sg m_wi m_si m_ce m_ca) rfl ?_
    revert h; refine gCondR fun g1 h => ?_
    refine hX_gM (gIn y1 4) 76 [some (.ref 63), some (.int y1), some (.int y2), some (.int y3), some (.int y4), some (.int y5), some (.int y6), some (.int y7), some (.int y8)] [.int (m_si (Int32.toNatClampNeg y1)), .int y8] rfl g1 ?_
    refine hX_goM 1 (bif gCmp .ge y8 (m_si (Int32.toNatClampNeg y1)) then 132 else 79) [some (.ref 63), some (.int y1), some (.int y2), some (.int y3), some (.int y4), some (.int y5), some (.int y6), some (.int y7), some (.int y8)] [] rfl ?_
    refine hX_if (gCmp .ge y8 (m_si (Int32.toNatClampNeg y1))) (fun c2 => ?_) (fun c2 => ?_)
    · skip
      have h := gcT c2 h
      have h := Option.some.inj h; subst h
      exact kk
    · skip
      have h := gcF c2 h
      refine hX_goM 2 (bif gCmp .eq y7 0 then 132 else 84) [some (.ref 63), some (.int y1), some (.int y2), some (.int y3), some (.int y4), some (.int y5), some (.int y6), some (.int y7), some (.int y8)] [] rfl ?_
      refine hX_if (gCmp .eq y7 0) (fun c3 => ?_) (fun c3 => ?_)
      · skip
        have h := gcT c3 h
        have h := Option.some.inj h; subst h
        exact kk
      · skip
        have h := gcF c3 h
        refine hX_goM 2 (86) [some (.ref 63), some (.int y1), some (.int y2), some (.int y3), some (.int y4), some (.int y5), some (.int y6), some (.int y7), some (.int y8)] [.int y2, .ref 63] rfl ?_
        revert h; refine gCondR fun g4 h => ?_
        revert h; refine gCondR fun g5 h => ?_
        revert h; refine gCondR fun g6 h => ?_
        refine hX_call (r' := zR_136) rfl (ct_136_63 y2 g4 g5 g6) ?_
        refine hX_go 5 (97) [some (.ref 63), some (.int y1), some (.int y2), some (.int y3), some (.int y4), some (.int y5), some (.int y6), some (.int y7), some (.int y8)] [.int (f_136_63_m_tl y2 m_s m_tl m_tr), .int y8, .int y1, .ref 63] (hMm c0 m_s m_kp m_as m_ik m_fo (f_136_63_m_tl y2 m_s m_tl m_tr) (f_136_63_m_tr y2 m_s m_tl m_tr) m_fa m_od m_rc m_be m_ft m_tp m_td m_tk m_bg m_en m_vl m_sg m_wi m_si m_ce m_ca) rfl ?_
        revert h; refine gCondR fun g7 h => ?_
        revert h; refine gCondR fun g8 h => ?_
        refine hX_call (r' := zR_187) rfl (ct_187_63 y1 y8 (f_136_63_m_tl y2 m_s m_tl m_tr) g7 (fun u0 => (gImpF g8 u0))) ?_
        refine hX_goM 1 (bif gCmp .eq (v_187_63 y1 y8 (f_136_63_m_tl y2 m_s m_tl m_tr) m_si m_ce) 0 then 123 else 103) [some (.ref 63), some (.int y1), some (.int y2), some (.int y3), some (.int y4), some (.int y5), some (.int y6), some (.int y7), some (.int y8)] [] rfl ?_
        revert h; refine gCondR fun o10 h => ?_
        revert h; refine gCondR fun o11 h => ?_
        refine hX_mrg 124 [some (.ref 63), some (.int y1), some (.int y2), some (.int y3), some (.int y4), some (.int y5), some (.int y6), some (.int y7), some (.int y8)] [.int (bif gCmp .eq (v_187_63 y1 y8 (f_136_63_m_tl y2 m_s m_tl m_tr) m_si m_ce) 0 then 0 else (bif gCmp .eq (v_187_63 y1 (y8 + 1) (f_136_63_m_tr y2 m_s m_tl m_tr) m_si m_ce) 0 then 0 else 1))] (hMm c0 m_s m_kp m_as m_ik m_fo (f_136_63_m_tl y2 m_s m_tl m_tr) (f_136_63_m_tr y2 m_s m_tl m_tr) m_fa m_od m_rc m_be m_ft m_tp m_td m_tk m_bg m_en m_vl m_sg m_wi m_si m_ce m_ca) (fun hk => ?_) ?_
        · skip
          refine hX_if (gCmp .eq (v_187_63 y1 y8 (f_136_63_m_tl y2 m_s m_tl m_tr) m_si m_ce) 0) (fun c13 => ?_) (fun c13 => ?_)
          · skip
            refine hX_goM 1 (124) [some (.ref 63), some (.int y1), some (.int y2), some (.int y3), some (.int y4), some (.int y5), some (.int y6), some (.int y7), some (.int y8)] [.int 0] rfl ?_
            have hk := hk
            simp only [c13, cond_true, cond_false] at hk
            first | exact hk | (simp only [c13, cond_true, cond_false]; exact hk)
          · skip
            refine hX_goM 7 (113) [some (.ref 63), some (.int y1), some (.int y2), some (.int y3), some (.int y4), some (.int y5), some (.int y6), some (.int y7), some (.int y8)] [.int (f_136_63_m_tr y2 m_s m_tl m_tr), .int (y8 + 1), .int y1, .ref 63] rfl ?_
            refine hX_call (r' := zR_187) rfl (ct_187_63 y1 (y8 + 1) (f_136_63_m_tr y2 m_s m_tl m_tr) (gImpF o10 c13) (fun u0 => (gImpF (gImpF o11 c13) u0))) ?_
            refine hX_goM 1 (bif gCmp .eq (v_187_63 y1 (y8 + 1) (f_136_63_m_tr y2 m_s m_tl m_tr) m_si m_ce) 0 then 123 else 119) [some (.ref 63), some (.int y1), some (.int y2), some (.int y3), some (.int y4), some (.int y5), some (.int y6), some (.int y7), some (.int y8)] [] rfl ?_
            refine hX_if (gCmp .eq (v_187_63 y1 (y8 + 1) (f_136_63_m_tr y2 m_s m_tl m_tr) m_si m_ce) 0) (fun c14 => ?_) (fun c14 => ?_)
            · skip
              refine hX_goM 1 (124) [some (.ref 63), some (.int y1), some (.int y2), some (.int y3), some (.int y4), some (.int y5), some (.int y6), some (.int y7), some (.int y8)] [.int 0] rfl ?_
              have hk := hk
              simp only [c13, c14, cond_true, cond_false] at hk
              first | exact hk | (simp only [c13, c14, cond_true, cond_false]; exact hk)
            · skip
              refine hX_goM 2 (124) [some (.ref 63), some (.int y1), some (.int y2), some (.int y3), some (.int y4), some (.int y5), some (.int y6), some (.int y7), some (.int y8)] [.int 1] rfl ?_
              have hk := hk
              simp only [c13, c14, cond_true, cond_false] at hk
              first | exact hk | (simp only [c13, c14, cond_true, cond_false]; exact hk)
        refine hX_goM 3 (68) [some (.ref 63), some (.int y1), some (.int y2), some (.int y3), some (.int y4), some (.int y5), some (.int y6), some (.int (bif gCmp .eq (v_187_63 y1 y8 (f_136_63_m_tl y2 m_s m_tl m_tr) m_si m_ce) 0 then 0 else (bif gCmp .eq (v_187_63 y1 (y8 + 1) (f_136_63_m_tr y2 m_s m_tl m_tr) m_si m_ce) 0 then 0 else 1))), some (.int (y8 + 2))] [] rfl ?_
        exact ih (bif gCmp .eq (v_187_63 y1 y8 (f_136_63_m_tl y2 m_s m_tl m_tr) m_si m_ce) 0 then 0 else (bif gCmp .eq (v_187_63 y1 (y8 + 1) (f_136_63_m_tr y2 m_s m_tl m_tr) m_si m_ce) 0 then 0 else 1)) (y8 + 2) (f_136_63_m_tl y2 m_s m_tl m_tr) (f_136_63_m_tr y2 m_s m_tl m_tr) q h kk

/-- UpOneSideModel.findsFit: the loop at 29 -/
def lp_188_63_29 (N : Nat) (y1 : Int32) (y2 : Int32) (m_si : Nat → Int32) (m_ce : Nat → Int32) : Nat → Int32 → Int32 → (Nat → Int32) → Int32 → Int32 → Int32 → Option (Int32 × Int32 × (Nat → Int32) × Int32 × Int32 × Int32)
  | 0, _, _, _, _, _, _ => none
  | n + 1, y5, y6, m_s, m_tl, m_tr, m_ft =>
    (bif gCmp .lt y6 0 then
      some (y5, y6, m_s, m_tl, m_tr, m_ft)
    else
      (Option.bind (lp_188_63_68 N y1 y2 (upd (upd m_s 6 (y6 / 10)) 7 (y6 - y6 / 10 * 10)) m_si m_ce N 1 0 (f_135_63_m_tl (upd (upd m_s 6 (y6 / 10)) 7 (y6 - y6 / 10 * 10))) (f_135_63_m_tr (upd (upd m_s 6 (y6 / 10)) 7 (y6 - y6 / 10 * 10)))) fun q2 =>
      lp_188_63_29 N y1 y2 m_si m_ce n (bif gCmp .eq q2.1 0 then y5 else y6) (y6 + (-1)) (upd (upd m_s 6 (y6 / 10)) 7 (y6 - y6 / 10 * 10)) q2.2.2.1 q2.2.2.2 (m_ft + (bif gCmp .eq q2.1 0 then 0 else 1))))
set_option maxRecDepth 20000 in
set_option maxHeartbeats 4000000 in
theorem lt_188_63_29 {LL : Nat} {xs : Nat → Int32} {D N : Nat} {c0 : Nat → gE}  {m_kp : Nat → Int32} {m_as : Nat → Int32} {m_ik : Int32} {m_fo : Nat → Int32}   {m_fa : Nat → Int32} {m_od : Nat → Int32} {m_rc : Int32} {m_be : Nat → Int32}  {m_tp : Nat → Int32} {m_td : Int32} {m_tk : Int32} {m_bg : Int32} {m_en : Int32} {m_vl : Int64} {m_sg : Int32} {m_wi : Nat → Int32} {m_si : Nat → Int32} {m_ce : Nat → Int32} {m_ca : Nat → Int32} {y1 : Int32} {y2 : Int32} {y3 : Int32} {y4 : Int32} {v : Option Value} {M' : List gE} : ∀ (n : Nat) (y5 : Int32) (y6 : Int32) (m_s : Nat → Int32) (m_tl : Int32) (m_tr : Int32) (m_ft : Int32) (q : Int32 × Int32 × (Nat → Int32) × Int32 × Int32 × Int32), lp_188_63_29 N y1 y2 m_si m_ce n y5 y6 m_s m_tl m_tr m_ft = some q → (kk : hX (gO LL xs) (D + 3) zR_188 171 [some (.ref 63), some (.int y1), some (.int y2), some (.int y3), some (.int y4), some (.int q.1), some (.int q.2.1), none, none] [] (hMm c0 q.2.2.1 m_kp m_as m_ik m_fo q.2.2.2.1 q.2.2.2.2.1 m_fa m_od m_rc m_be q.2.2.2.2.2 m_tp m_td m_tk m_bg m_en m_vl m_sg m_wi m_si m_ce m_ca) v M') → hX (gO LL xs) (D + 3) zR_188 29 [some (.ref 63), some (.int y1), some (.int y2), some (.int y3), some (.int y4), some (.int y5), some (.int y6), none, none] [] (hMm c0 m_s m_kp m_as m_ik m_fo m_tl m_tr m_fa m_od m_rc m_be m_ft m_tp m_td m_tk m_bg m_en m_vl m_sg m_wi m_si m_ce m_ca) v M' := by
  intro n
  induction n with
  | zero => intro y5 y6 m_s m_tl m_tr m_ft q h; cases h
  | succ n ih =>
    intro y5 y6 m_s m_tl m_tr m_ft q h kk
    rw [lp_188_63_29] at h
    refine hX_go 2 (bif gCmp .lt y6 0 then 171 else 34) [some (.ref 63), some (.int y1), some (.int y2), some (.int y3), some (.int y4), some (.int y5), some (.int y6), none, none] [] (hMm c0 m_s m_kp m_as m_ik m_fo m_tl m_tr m_fa m_od m_rc m_be m_ft m_tp m_td m_tk m_bg m_en m_vl m_sg m_wi m_si m_ce m_ca) rfl ?_
    refine hX_if (gCmp .lt y6 0) (fun c1 => ?_) (fun c1 => ?_)
    · skip
      have h := gcT c1 h
      have h := Option.some.inj h; subst h
      exact kk
    · skip
      have h := gcF c1 h
      refine hX_go 9 (50) [some (.ref 63), some (.int y1), some (.int y2), some (.int y3), some (.int y4), some (.int y5), some (.int y6), none, none] [.ref 64] (hMm c0 (upd m_s 6 (y6 / 10)) m_kp m_as m_ik m_fo m_tl m_tr m_fa m_od m_rc m_be m_ft m_tp m_td m_tk m_bg m_en m_vl m_sg m_wi m_si m_ce m_ca) rfl ?_
      refine hX_go 6 (59) [some (.ref 63), some (.int y1), some (.int y2), some (.int y3), some (.int y4), some (.int y5), some (.int y6), none, none] [.ref 63] (hMm c0 (upd (upd m_s 6 (y6 / 10)) 7 (y6 - y6 / 10 * 10)) m_kp m_as m_ik m_fo m_tl m_tr m_fa m_od m_rc m_be m_ft m_tp m_td m_tk m_bg m_en m_vl m_sg m_wi m_si m_ce m_ca) rfl ?_
      refine hX_call (r' := zR_135) rfl (ct_135_63) ?_
      refine hX_go 4 (68) [some (.ref 63), some (.int y1), some (.int y2), some (.int y3), some (.int y4), some (.int y5), some (.int y6), some (.int 1), some (.int 0)] [] (hMm c0 (upd (upd m_s 6 (y6 / 10)) 7 (y6 - y6 / 10 * 10)) m_kp m_as m_ik m_fo (f_135_63_m_tl (upd (upd m_s 6 (y6 / 10)) 7 (y6 - y6 / 10 * 10))) (f_135_63_m_tr (upd (upd m_s 6 (y6 / 10)) 7 (y6 - y6 / 10 * 10))) m_fa m_od m_rc m_be m_ft m_tp m_td m_tk m_bg m_en m_vl m_sg m_wi m_si m_ce m_ca) rfl ?_
      revert h; refine gBindR fun q2 e2 h => ?_
      refine lt_188_63_68 N 1 0 (f_135_63_m_tl (upd (upd m_s 6 (y6 / 10)) 7 (y6 - y6 / 10 * 10))) (f_135_63_m_tr (upd (upd m_s 6 (y6 / 10)) 7 (y6 - y6 / 10 * 10))) q2 e2 ?_
      refine hX_go 2 (bif gCmp .eq q2.1 0 then 142 else 137) [some (.ref 63), some (.int y1), some (.int y2), some (.int y3), some (.int y4), some (.int y5), some (.int y6), some (.int q2.1), some (.int q2.2.1)] [] (hMm c0 (upd (upd m_s 6 (y6 / 10)) 7 (y6 - y6 / 10 * 10)) m_kp m_as m_ik m_fo q2.2.2.1 q2.2.2.2 m_fa m_od m_rc m_be m_ft m_tp m_td m_tk m_bg m_en m_vl m_sg m_wi m_si m_ce m_ca) rfl ?_
      refine hX_mrg 144 [some (.ref 63), some (.int y1), some (.int y2), some (.int y3), some (.int y4), some (.int y5), some (.int y6), some (.int q2.1), some (.int q2.2.1)] [.int (bif gCmp .eq q2.1 0 then y5 else y6)] (hMm c0 (upd (upd m_s 6 (y6 / 10)) 7 (y6 - y6 / 10 * 10)) m_kp m_as m_ik m_fo q2.2.2.1 q2.2.2.2 m_fa m_od m_rc m_be m_ft m_tp m_td m_tk m_bg m_en m_vl m_sg m_wi m_si m_ce m_ca) (fun hk => ?_) ?_
      · skip
        refine hX_if (gCmp .eq q2.1 0) (fun c4 => ?_) (fun c4 => ?_)
        · skip
          refine hX_goM 1 (144) [some (.ref 63), some (.int y1), some (.int y2), some (.int y3), some (.int y4), some (.int y5), some (.int y6), some (.int q2.1), some (.int q2.2.1)] [.int y5] rfl ?_
          have hk := hk
          simp only [c4, cond_true, cond_false] at hk
          first | exact hk | (simp only [c4, cond_true, cond_false]; exact hk)
        · skip
          refine hX_goM 2 (144) [some (.ref 63), some (.int y1), some (.int y2), some (.int y3), some (.int y4), some (.int y5), some (.int y6), some (.int q2.1), some (.int q2.2.1)] [.int y6] rfl ?_
          have hk := hk
          simp only [c4, cond_true, cond_false] at hk
          first | exact hk | (simp only [c4, cond_true, cond_false]; exact hk)
      refine hX_goM 6 (bif gCmp .eq q2.1 0 then 160 else 156) [some (.ref 63), some (.int y1), some (.int y2), some (.int y3), some (.int y4), some (.int (bif gCmp .eq q2.1 0 then y5 else y6)), some (.int y6), some (.int q2.1), some (.int q2.2.1)] [.int m_ft, .ref 63] rfl ?_
      refine hX_mrg 161 [some (.ref 63), some (.int y1), some (.int y2), some (.int y3), some (.int y4), some (.int (bif gCmp .eq q2.1 0 then y5 else y6)), some (.int y6), some (.int q2.1), some (.int q2.2.1)] [.int (bif gCmp .eq q2.1 0 then 0 else 1), .int m_ft, .ref 63] (hMm c0 (upd (upd m_s 6 (y6 / 10)) 7 (y6 - y6 / 10 * 10)) m_kp m_as m_ik m_fo q2.2.2.1 q2.2.2.2 m_fa m_od m_rc m_be m_ft m_tp m_td m_tk m_bg m_en m_vl m_sg m_wi m_si m_ce m_ca) (fun hk => ?_) ?_
      · skip
        refine hX_if (gCmp .eq q2.1 0) (fun c6 => ?_) (fun c6 => ?_)
        · skip
          refine hX_goM 1 (161) [some (.ref 63), some (.int y1), some (.int y2), some (.int y3), some (.int y4), some (.int (bif gCmp .eq q2.1 0 then y5 else y6)), some (.int y6), some (.int q2.1), some (.int q2.2.1)] [.int 0, .int m_ft, .ref 63] rfl ?_
          have hk := hk
          simp only [c6, cond_true, cond_false] at hk
          first | exact hk | (simp only [c6, cond_true, cond_false]; exact hk)
        · skip
          refine hX_goM 2 (161) [some (.ref 63), some (.int y1), some (.int y2), some (.int y3), some (.int y4), some (.int (bif gCmp .eq q2.1 0 then y5 else y6)), some (.int y6), some (.int q2.1), some (.int q2.2.1)] [.int 1, .int m_ft, .ref 63] rfl ?_
          have hk := hk
          simp only [c6, cond_true, cond_false] at hk
          first | exact hk | (simp only [c6, cond_true, cond_false]; exact hk)
      refine hX_go 4 (29) [some (.ref 63), some (.int y1), some (.int y2), some (.int y3), some (.int y4), some (.int (bif gCmp .eq q2.1 0 then y5 else y6)), some (.int (y6 + (-1))), some (.int q2.1), some (.int q2.2.1)] [] (hMm c0 (upd (upd m_s 6 (y6 / 10)) 7 (y6 - y6 / 10 * 10)) m_kp m_as m_ik m_fo q2.2.2.1 q2.2.2.2 m_fa m_od m_rc m_be (m_ft + (bif gCmp .eq q2.1 0 then 0 else 1)) m_tp m_td m_tk m_bg m_en m_vl m_sg m_wi m_si m_ce m_ca) rfl ?_
      exact hX_wk (gLe_s (gLe_s (gLe_s (gLe_s (gLe_s (gLe_s (gLe_s (gLe_n (gLe_n gLe_0))))))))) (ih (bif gCmp .eq q2.1 0 then y5 else y6) (y6 + (-1)) (upd (upd m_s 6 (y6 / 10)) 7 (y6 - y6 / 10 * 10)) q2.2.2.1 q2.2.2.2 (m_ft + (bif gCmp .eq q2.1 0 then 0 else 1)) q h kk)

/-- UpOneSideModel.findsFit(II)I -/
def me_188_63 (N : Nat) (x0 : Int32) (x1 : Int32) (m_s : Nat → Int32) (m_tl : Int32) (m_tr : Int32) (m_si : Nat → Int32) (m_ce : Nat → Int32) : Option (Int32 × (Nat → Int32) × Int32 × Int32 × Int32) :=
  (Option.bind (lp_188_63_29 N x0 x1 m_si m_ce N (-1) 99 m_s m_tl m_tr 0) fun q1 =>
  some (q1.1, upd (upd q1.2.2.1 6 (m_s 6)) 7 (m_s 7), q1.2.2.2.1, q1.2.2.2.2.1, q1.2.2.2.2.2))
set_option maxRecDepth 20000 in
set_option maxHeartbeats 4000000 in
theorem mt_188_63 {LL : Nat} {xs : Nat → Int32} {D : Nat} {c0 : Nat → gE} {m_s : Nat → Int32} {m_kp : Nat → Int32} {m_as : Nat → Int32} {m_ik : Int32} {m_fo : Nat → Int32} {m_tl : Int32} {m_tr : Int32} {m_fa : Nat → Int32} {m_od : Nat → Int32} {m_rc : Int32} {m_be : Nat → Int32} {m_ft : Int32} {m_tp : Nat → Int32} {m_td : Int32} {m_tk : Int32} {m_bg : Int32} {m_en : Int32} {m_vl : Int64} {m_sg : Int32} {m_wi : Nat → Int32} {m_si : Nat → Int32} {m_ce : Nat → Int32} {m_ca : Nat → Int32} (N : Nat) (x0 : Int32) (x1 : Int32) (q : Int32 × (Nat → Int32) × Int32 × Int32 × Int32) (h : me_188_63 N x0 x1 m_s m_tl m_tr m_si m_ce = some q) : hM (gO LL xs) (D + 3) zR_188 [.ref 63, .int x0, .int x1] (hMm c0 m_s m_kp m_as m_ik m_fo m_tl m_tr m_fa m_od m_rc m_be m_ft m_tp m_td m_tk m_bg m_en m_vl m_sg m_wi m_si m_ce m_ca) (some (.int q.1)) (hMm c0 q.2.1 m_kp m_as m_ik m_fo q.2.2.1 q.2.2.2.1 m_fa m_od m_rc m_be q.2.2.2.2 m_tp m_td m_tk m_bg m_en m_vl m_sg m_wi m_si m_ce m_ca) := by
  unfold me_188_63 at h
  refine hX_go 0 0 [some (.ref 63), some (.int x0), some (.int x1), none, none, none, none, none, none] [] (hMm c0 m_s m_kp m_as m_ik m_fo m_tl m_tr m_fa m_od m_rc m_be m_ft m_tp m_td m_tk m_bg m_en m_vl m_sg m_wi m_si m_ce m_ca) rfl ?_
  refine hX_go 9 (15) [some (.ref 63), some (.int x0), some (.int x1), some (.int (m_s 6)), none, none, none, none, none] [.int (m_s 7)] (hMm c0 m_s m_kp m_as m_ik m_fo m_tl m_tr m_fa m_od m_rc m_be m_ft m_tp m_td m_tk m_bg m_en m_vl m_sg m_wi m_si m_ce m_ca) rfl ?_
  refine hX_go 8 (29) [some (.ref 63), some (.int x0), some (.int x1), some (.int (m_s 6)), some (.int (m_s 7)), some (.int (-1)), some (.int 99), none, none] [] (hMm c0 m_s m_kp m_as m_ik m_fo m_tl m_tr m_fa m_od m_rc m_be 0 m_tp m_td m_tk m_bg m_en m_vl m_sg m_wi m_si m_ce m_ca) rfl ?_
  revert h; refine gBindR fun q1 e1 h => ?_
  refine lt_188_63_29 N (-1) 99 m_s m_tl m_tr 0 q1 e1 ?_
  refine hX_go 9 (187) [some (.ref 63), some (.int x0), some (.int x1), some (.int (m_s 6)), some (.int (m_s 7)), some (.int q1.1), some (.int q1.2.1), none, none] [.int (m_s 7), .int 7, .ref 64] (hMm c0 (upd q1.2.2.1 6 (m_s 6)) m_kp m_as m_ik m_fo q1.2.2.2.1 q1.2.2.2.2.1 m_fa m_od m_rc m_be q1.2.2.2.2.2 m_tp m_td m_tk m_bg m_en m_vl m_sg m_wi m_si m_ce m_ca) rfl ?_
  refine hX_go 2 (190) [some (.ref 63), some (.int x0), some (.int x1), some (.int (m_s 6)), some (.int (m_s 7)), some (.int q1.1), some (.int q1.2.1), none, none] [.int q1.1] (hMm c0 (upd (upd q1.2.2.1 6 (m_s 6)) 7 (m_s 7)) m_kp m_as m_ik m_fo q1.2.2.2.1 q1.2.2.2.2.1 m_fa m_od m_rc m_be q1.2.2.2.2.2 m_tp m_td m_tk m_bg m_en m_vl m_sg m_wi m_si m_ce m_ca) rfl ?_
  have h := Option.some.inj h; subst h
  exact hX_end rfl rfl rfl

/-- UpOneSideModel.wrongFit(II)I -/
def v_189_63 (x0 : Int32) (x1 : Int32) (m_s : Nat → Int32) (m_wi : Nat → Int32) : Int32 := bif gCmp .lt (v_186_63 x0 m_wi) 0 then (bif gCmp .eq (v_129_63 x1 m_s) 0 then 0 else (-1)) else (v_186_63 x0 m_wi)
set_option maxRecDepth 20000 in
set_option maxHeartbeats 1000000 in
theorem ct_189_63 {LL : Nat} {xs : Nat → Int32} {D : Nat} {c0 : Nat → gE} {m_s : Nat → Int32} {m_kp : Nat → Int32} {m_as : Nat → Int32} {m_ik : Int32} {m_fo : Nat → Int32} {m_tl : Int32} {m_tr : Int32} {m_fa : Nat → Int32} {m_od : Nat → Int32} {m_rc : Int32} {m_be : Nat → Int32} {m_ft : Int32} {m_tp : Nat → Int32} {m_td : Int32} {m_tk : Int32} {m_bg : Int32} {m_en : Int32} {m_vl : Int64} {m_sg : Int32} {m_wi : Nat → Int32} {m_si : Nat → Int32} {m_ce : Nat → Int32} {m_ca : Nat → Int32} (x0 : Int32) (x1 : Int32) (o1 : gCmp .ne (v_185 x0) 0 = true → gIn x0 4 = true) : hM (gO LL xs) (D + 3) zR_189 [.ref 63, .int x0, .int x1] (hMm c0 m_s m_kp m_as m_ik m_fo m_tl m_tr m_fa m_od m_rc m_be m_ft m_tp m_td m_tk m_bg m_en m_vl m_sg m_wi m_si m_ce m_ca) (some (.int (v_189_63 x0 x1 m_s m_wi))) (hMm c0 m_s m_kp m_as m_ik m_fo m_tl m_tr m_fa m_od m_rc m_be m_ft m_tp m_td m_tk m_bg m_en m_vl m_sg m_wi m_si m_ce m_ca) := by
  refine hX_go 0 0 [some (.ref 63), some (.int x0), some (.int x1), none] [] (hMm c0 m_s m_kp m_as m_ik m_fo m_tl m_tr m_fa m_od m_rc m_be m_ft m_tp m_td m_tk m_bg m_en m_vl m_sg m_wi m_si m_ce m_ca) rfl ?_
  refine hX_go 2 (2) [some (.ref 63), some (.int x0), some (.int x1), none] [.int x0, .ref 63] (hMm c0 m_s m_kp m_as m_ik m_fo m_tl m_tr m_fa m_od m_rc m_be m_ft m_tp m_td m_tk m_bg m_en m_vl m_sg m_wi m_si m_ce m_ca) rfl ?_
  refine hX_call (r' := zR_186) rfl (ct_186_63 x0 o1) ?_
  refine hX_goM 3 (bif gCmp .lt (v_186_63 x0 m_wi) 0 then 14 else 10) [some (.ref 63), some (.int x0), some (.int x1), some (.int (v_186_63 x0 m_wi))] [] rfl ?_
  suffices hk : hX (gO LL xs) (D + 3) zR_189 27 [some (.ref 63), some (.int x0), some (.int x1), some (.int (v_186_63 x0 m_wi))] [.int (bif gCmp .lt (v_186_63 x0 m_wi) 0 then (bif gCmp .eq (v_129_63 x1 m_s) 0 then 0 else (-1)) else (v_186_63 x0 m_wi))] (hMm c0 m_s m_kp m_as m_ik m_fo m_tl m_tr m_fa m_od m_rc m_be m_ft m_tp m_td m_tk m_bg m_en m_vl m_sg m_wi m_si m_ce m_ca) (some (.int (v_189_63 x0 x1 m_s m_wi))) (hMm c0 m_s m_kp m_as m_ik m_fo m_tl m_tr m_fa m_od m_rc m_be m_ft m_tp m_td m_tk m_bg m_en m_vl m_sg m_wi m_si m_ce m_ca) by
    refine hX_if (gCmp .lt (v_186_63 x0 m_wi) 0) (fun c1 => ?_) (fun c1 => ?_)
    · skip
      refine hX_goM 2 (16) [some (.ref 63), some (.int x0), some (.int x1), some (.int (v_186_63 x0 m_wi))] [.int x1, .ref 63] rfl ?_
      refine hX_call (r' := zR_129) rfl (ct_129_63 x1) ?_
      refine hX_goM 1 (bif gCmp .eq (v_129_63 x1 m_s) 0 then 26 else 22) [some (.ref 63), some (.int x0), some (.int x1), some (.int (v_186_63 x0 m_wi))] [] rfl ?_
      refine hX_if (gCmp .eq (v_129_63 x1 m_s) 0) (fun c2 => ?_) (fun c2 => ?_)
      · skip
        refine hX_goM 1 (27) [some (.ref 63), some (.int x0), some (.int x1), some (.int (v_186_63 x0 m_wi))] [.int 0] rfl ?_
        have hk := hk
        simp only [c1, c2, cond_true, cond_false] at hk
        first | exact hk | (simp only [c1, c2, cond_true, cond_false]; exact hk)
      · skip
        refine hX_goM 2 (27) [some (.ref 63), some (.int x0), some (.int x1), some (.int (v_186_63 x0 m_wi))] [.int (-1)] rfl ?_
        have hk := hk
        simp only [c1, c2, cond_true, cond_false] at hk
        first | exact hk | (simp only [c1, c2, cond_true, cond_false]; exact hk)
    · skip
      refine hX_goM 2 (27) [some (.ref 63), some (.int x0), some (.int x1), some (.int (v_186_63 x0 m_wi))] [.int (v_186_63 x0 m_wi)] rfl ?_
      have hk := hk
      simp only [c1, cond_true, cond_false] at hk
      first | exact hk | (simp only [c1, cond_true, cond_false]; exact hk)
  exact hX_end rfl (rfl) (rfl)


/-- UpOneSideModel.fits(II)I -/
def me_190_63 (N : Nat) (x0 : Int32) (x1 : Int32) (m_s : Nat → Int32) (m_fo : Nat → Int32) (m_tl : Int32) (m_tr : Int32) (m_ft : Int32) (m_wi : Nat → Int32) (m_si : Nat → Int32) (m_ce : Nat → Int32) : Option (Int32 × (Nat → Int32) × (Nat → Int32) × Int32 × Int32 × Int32) :=
  (bif (!(gCmp .ne (v_185 x0) 0) || (gIn x0 4)) then (bif gCmp .lt (v_189_63 x0 x1 m_s m_wi) 0 then
    (Option.bind (me_188_63 N x0 x1 m_s m_tl m_tr m_si m_ce) fun q3 =>
    some (bif gCmp .ge q3.1 0 then q3.2.2.2.2 else 0, q3.2.1, m_fo, q3.2.2.1, q3.2.2.2.1, q3.2.2.2.2))
  else
    (bif gIn (v_189_63 x0 x1 m_s m_wi) 7 then some (v_124_63 (v_189_63 x0 x1 m_s m_wi), m_s, f_124_63_m_fo (v_189_63 x0 x1 m_s m_wi) m_fo, m_tl, m_tr, m_ft) else none)) else none)
set_option maxRecDepth 20000 in
set_option maxHeartbeats 4000000 in
theorem mt_190_63 {LL : Nat} {xs : Nat → Int32} {D : Nat} {c0 : Nat → gE} {m_s : Nat → Int32} {m_kp : Nat → Int32} {m_as : Nat → Int32} {m_ik : Int32} {m_fo : Nat → Int32} {m_tl : Int32} {m_tr : Int32} {m_fa : Nat → Int32} {m_od : Nat → Int32} {m_rc : Int32} {m_be : Nat → Int32} {m_ft : Int32} {m_tp : Nat → Int32} {m_td : Int32} {m_tk : Int32} {m_bg : Int32} {m_en : Int32} {m_vl : Int64} {m_sg : Int32} {m_wi : Nat → Int32} {m_si : Nat → Int32} {m_ce : Nat → Int32} {m_ca : Nat → Int32} (N : Nat) (x0 : Int32) (x1 : Int32) (q : Int32 × (Nat → Int32) × (Nat → Int32) × Int32 × Int32 × Int32) (h : me_190_63 N x0 x1 m_s m_fo m_tl m_tr m_ft m_wi m_si m_ce = some q) : hM (gO LL xs) (D + 4) zR_190 [.ref 63, .int x0, .int x1] (hMm c0 m_s m_kp m_as m_ik m_fo m_tl m_tr m_fa m_od m_rc m_be m_ft m_tp m_td m_tk m_bg m_en m_vl m_sg m_wi m_si m_ce m_ca) (some (.int q.1)) (hMm c0 q.2.1 m_kp m_as m_ik q.2.2.1 q.2.2.2.1 q.2.2.2.2.1 m_fa m_od m_rc m_be q.2.2.2.2.2 m_tp m_td m_tk m_bg m_en m_vl m_sg m_wi m_si m_ce m_ca) := by
  unfold me_190_63 at h
  refine hX_go 0 0 [some (.ref 63), some (.int x0), some (.int x1), none, none] [] (hMm c0 m_s m_kp m_as m_ik m_fo m_tl m_tr m_fa m_od m_rc m_be m_ft m_tp m_td m_tk m_bg m_en m_vl m_sg m_wi m_si m_ce m_ca) rfl ?_
  refine hX_go 3 (3) [some (.ref 63), some (.int x0), some (.int x1), none, none] [.int x1, .int x0, .ref 63] (hMm c0 m_s m_kp m_as m_ik m_fo m_tl m_tr m_fa m_od m_rc m_be m_ft m_tp m_td m_tk m_bg m_en m_vl m_sg m_wi m_si m_ce m_ca) rfl ?_
  revert h; refine gCondR fun g1 h => ?_
  refine hX_call (r' := zR_189) rfl (ct_189_63 x0 x1 (fun u0 => (gImpT g1 u0))) ?_
  refine hX_goM 3 (bif gCmp .lt (v_189_63 x0 x1 m_s m_wi) 0 then 17 else 11) [some (.ref 63), some (.int x0), some (.int x1), some (.int (v_189_63 x0 x1 m_s m_wi)), none] [] rfl ?_
  refine hX_if (gCmp .lt (v_189_63 x0 x1 m_s m_wi) 0) (fun c2 => ?_) (fun c2 => ?_)
  · skip
    have h := gcT c2 h
    refine hX_goM 3 (20) [some (.ref 63), some (.int x0), some (.int x1), some (.int (v_189_63 x0 x1 m_s m_wi)), none] [.int x1, .int x0, .ref 63] rfl ?_
    revert h; refine gBindR fun q3 e3 h => ?_
    refine hX_call (r' := zR_188) rfl (mt_188_63 N x0 x1 q3 e3) ?_
    refine hX_go 3 (bif gCmp .ge q3.1 0 then 34 else 30) [some (.ref 63), some (.int x0), some (.int x1), some (.int (v_189_63 x0 x1 m_s m_wi)), some (.int q3.1)] [] (hMm c0 q3.2.1 m_kp m_as m_ik m_fo q3.2.2.1 q3.2.2.2.1 m_fa m_od m_rc m_be q3.2.2.2.2 m_tp m_td m_tk m_bg m_en m_vl m_sg m_wi m_si m_ce m_ca) rfl ?_
    refine hX_mrg 38 [some (.ref 63), some (.int x0), some (.int x1), some (.int (v_189_63 x0 x1 m_s m_wi)), some (.int q3.1)] [.int (bif gCmp .ge q3.1 0 then q3.2.2.2.2 else 0)] (hMm c0 q3.2.1 m_kp m_as m_ik m_fo q3.2.2.1 q3.2.2.2.1 m_fa m_od m_rc m_be q3.2.2.2.2 m_tp m_td m_tk m_bg m_en m_vl m_sg m_wi m_si m_ce m_ca) (fun hk => ?_) ?_
    · skip
      refine hX_if (gCmp .ge q3.1 0) (fun c5 => ?_) (fun c5 => ?_)
      · skip
        refine hX_goM 2 (38) [some (.ref 63), some (.int x0), some (.int x1), some (.int (v_189_63 x0 x1 m_s m_wi)), some (.int q3.1)] [.int q3.2.2.2.2] rfl ?_
        have hk := hk
        simp only [c5, cond_true, cond_false] at hk
        first | exact hk | (simp only [c5, cond_true, cond_false]; exact hk)
      · skip
        refine hX_goM 2 (38) [some (.ref 63), some (.int x0), some (.int x1), some (.int (v_189_63 x0 x1 m_s m_wi)), some (.int q3.1)] [.int 0] rfl ?_
        have hk := hk
        simp only [c5, cond_true, cond_false] at hk
        first | exact hk | (simp only [c5, cond_true, cond_false]; exact hk)
    have h := Option.some.inj h; subst h
    exact hX_end rfl rfl rfl
  · skip
    have h := gcF c2 h
    refine hX_goM 2 (13) [some (.ref 63), some (.int x0), some (.int x1), some (.int (v_189_63 x0 x1 m_s m_wi)), none] [.int (v_189_63 x0 x1 m_s m_wi), .ref 63] rfl ?_
    revert h; refine gCondR fun g6 h => ?_
    refine hX_call (r' := zR_124) rfl (ct_124_63 (v_189_63 x0 x1 m_s m_wi) g6) ?_
    refine hX_go 0 (16) [some (.ref 63), some (.int x0), some (.int x1), some (.int (v_189_63 x0 x1 m_s m_wi)), none] [.int (v_124_63 (v_189_63 x0 x1 m_s m_wi))] (hMm c0 m_s m_kp m_as m_ik (f_124_63_m_fo (v_189_63 x0 x1 m_s m_wi) m_fo) m_tl m_tr m_fa m_od m_rc m_be m_ft m_tp m_td m_tk m_bg m_en m_vl m_sg m_wi m_si m_ce m_ca) rfl ?_
    have h := Option.some.inj h; subst h
    exact hX_end rfl rfl rfl


/-- UpOneSideModel.slips(II)I -/
def me_191_63 (N : Nat) (x0 : Int32) (x1 : Int32) (m_s : Nat → Int32) (m_fo : Nat → Int32) (m_tl : Int32) (m_tr : Int32) (m_ft : Int32) (m_wi : Nat → Int32) (m_si : Nat → Int32) (m_ce : Nat → Int32) : Option (Int32 × (Nat → Int32) × (Nat → Int32) × Int32 × Int32 × Int32) :=
  (bif (!(gCmp .ne (v_185 x0) 0) || (gIn x0 4)) then (bif gCmp .lt (v_189_63 x0 x1 m_s m_wi) 0 then
    (Option.bind (me_188_63 N x0 x1 m_s m_tl m_tr m_si m_ce) fun q3 =>
    some (bif gCmp .ge q3.1 0 then q3.1 else (v_124_63 3), q3.2.1, bif gCmp .ge q3.1 0 then m_fo else (f_124_63_m_fo 3 m_fo), q3.2.2.1, q3.2.2.2.1, q3.2.2.2.2))
  else
    (bif gIn (v_189_63 x0 x1 m_s m_wi) 7 then some (v_124_63 (v_189_63 x0 x1 m_s m_wi), m_s, f_124_63_m_fo (v_189_63 x0 x1 m_s m_wi) m_fo, m_tl, m_tr, m_ft) else none)) else none)
set_option maxRecDepth 20000 in
set_option maxHeartbeats 4000000 in
theorem mt_191_63 {LL : Nat} {xs : Nat → Int32} {D : Nat} {c0 : Nat → gE} {m_s : Nat → Int32} {m_kp : Nat → Int32} {m_as : Nat → Int32} {m_ik : Int32} {m_fo : Nat → Int32} {m_tl : Int32} {m_tr : Int32} {m_fa : Nat → Int32} {m_od : Nat → Int32} {m_rc : Int32} {m_be : Nat → Int32} {m_ft : Int32} {m_tp : Nat → Int32} {m_td : Int32} {m_tk : Int32} {m_bg : Int32} {m_en : Int32} {m_vl : Int64} {m_sg : Int32} {m_wi : Nat → Int32} {m_si : Nat → Int32} {m_ce : Nat → Int32} {m_ca : Nat → Int32} (N : Nat) (x0 : Int32) (x1 : Int32) (q : Int32 × (Nat → Int32) × (Nat → Int32) × Int32 × Int32 × Int32) (h : me_191_63 N x0 x1 m_s m_fo m_tl m_tr m_ft m_wi m_si m_ce = some q) : hM (gO LL xs) (D + 4) zR_191 [.ref 63, .int x0, .int x1] (hMm c0 m_s m_kp m_as m_ik m_fo m_tl m_tr m_fa m_od m_rc m_be m_ft m_tp m_td m_tk m_bg m_en m_vl m_sg m_wi m_si m_ce m_ca) (some (.int q.1)) (hMm c0 q.2.1 m_kp m_as m_ik q.2.2.1 q.2.2.2.1 q.2.2.2.2.1 m_fa m_od m_rc m_be q.2.2.2.2.2 m_tp m_td m_tk m_bg m_en m_vl m_sg m_wi m_si m_ce m_ca) := by
  unfold me_191_63 at h
  refine hX_go 0 0 [some (.ref 63), some (.int x0), some (.int x1), none, none] [] (hMm c0 m_s m_kp m_as m_ik m_fo m_tl m_tr m_fa m_od m_rc m_be m_ft m_tp m_td m_tk m_bg m_en m_vl m_sg m_wi m_si m_ce m_ca) rfl ?_
  refine hX_go 3 (3) [some (.ref 63), some (.int x0), some (.int x1), none, none] [.int x1, .int x0, .ref 63] (hMm c0 m_s m_kp m_as m_ik m_fo m_tl m_tr m_fa m_od m_rc m_be m_ft m_tp m_td m_tk m_bg m_en m_vl m_sg m_wi m_si m_ce m_ca) rfl ?_
  revert h; refine gCondR fun g1 h => ?_
  refine hX_call (r' := zR_189) rfl (ct_189_63 x0 x1 (fun u0 => (gImpT g1 u0))) ?_
  refine hX_goM 3 (bif gCmp .lt (v_189_63 x0 x1 m_s m_wi) 0 then 17 else 11) [some (.ref 63), some (.int x0), some (.int x1), some (.int (v_189_63 x0 x1 m_s m_wi)), none] [] rfl ?_
  refine hX_if (gCmp .lt (v_189_63 x0 x1 m_s m_wi) 0) (fun c2 => ?_) (fun c2 => ?_)
  · skip
    have h := gcT c2 h
    refine hX_goM 3 (20) [some (.ref 63), some (.int x0), some (.int x1), some (.int (v_189_63 x0 x1 m_s m_wi)), none] [.int x1, .int x0, .ref 63] rfl ?_
    revert h; refine gBindR fun q3 e3 h => ?_
    refine hX_call (r' := zR_188) rfl (mt_188_63 N x0 x1 q3 e3) ?_
    refine hX_go 3 (bif gCmp .ge q3.1 0 then 38 else 30) [some (.ref 63), some (.int x0), some (.int x1), some (.int (v_189_63 x0 x1 m_s m_wi)), some (.int q3.1)] [] (hMm c0 q3.2.1 m_kp m_as m_ik m_fo q3.2.2.1 q3.2.2.2.1 m_fa m_od m_rc m_be q3.2.2.2.2 m_tp m_td m_tk m_bg m_en m_vl m_sg m_wi m_si m_ce m_ca) rfl ?_
    refine hX_mrg 40 [some (.ref 63), some (.int x0), some (.int x1), some (.int (v_189_63 x0 x1 m_s m_wi)), some (.int q3.1)] [.int (bif gCmp .ge q3.1 0 then q3.1 else (v_124_63 3))] (hMm c0 q3.2.1 m_kp m_as m_ik (bif gCmp .ge q3.1 0 then m_fo else (f_124_63_m_fo 3 m_fo)) q3.2.2.1 q3.2.2.2.1 m_fa m_od m_rc m_be q3.2.2.2.2 m_tp m_td m_tk m_bg m_en m_vl m_sg m_wi m_si m_ce m_ca) (fun hk => ?_) ?_
    · skip
      refine hX_if (gCmp .ge q3.1 0) (fun c5 => ?_) (fun c5 => ?_)
      · skip
        refine hX_goM 1 (40) [some (.ref 63), some (.int x0), some (.int x1), some (.int (v_189_63 x0 x1 m_s m_wi)), some (.int q3.1)] [.int q3.1] rfl ?_
        have hk := hk
        simp only [c5, cond_true, cond_false] at hk
        first | exact hk | (simp only [c5, cond_true, cond_false]; exact hk)
      · skip
        refine hX_goM 2 (32) [some (.ref 63), some (.int x0), some (.int x1), some (.int (v_189_63 x0 x1 m_s m_wi)), some (.int q3.1)] [.int 3, .ref 63] rfl ?_
        refine hX_call (r' := zR_124) rfl (ct_124_63 3 rfl) ?_
        refine hX_go 1 (40) [some (.ref 63), some (.int x0), some (.int x1), some (.int (v_189_63 x0 x1 m_s m_wi)), some (.int q3.1)] [.int (v_124_63 3)] (hMm c0 q3.2.1 m_kp m_as m_ik (f_124_63_m_fo 3 m_fo) q3.2.2.1 q3.2.2.2.1 m_fa m_od m_rc m_be q3.2.2.2.2 m_tp m_td m_tk m_bg m_en m_vl m_sg m_wi m_si m_ce m_ca) rfl ?_
        have hk := hk
        simp only [c5, cond_true, cond_false] at hk
        first | exact hk | (simp only [c5, cond_true, cond_false]; exact hk)
    have h := Option.some.inj h; subst h
    exact hX_end rfl rfl rfl
  · skip
    have h := gcF c2 h
    refine hX_goM 2 (13) [some (.ref 63), some (.int x0), some (.int x1), some (.int (v_189_63 x0 x1 m_s m_wi)), none] [.int (v_189_63 x0 x1 m_s m_wi), .ref 63] rfl ?_
    revert h; refine gCondR fun g6 h => ?_
    refine hX_call (r' := zR_124) rfl (ct_124_63 (v_189_63 x0 x1 m_s m_wi) g6) ?_
    refine hX_go 0 (16) [some (.ref 63), some (.int x0), some (.int x1), some (.int (v_189_63 x0 x1 m_s m_wi)), none] [.int (v_124_63 (v_189_63 x0 x1 m_s m_wi))] (hMm c0 m_s m_kp m_as m_ik (f_124_63_m_fo (v_189_63 x0 x1 m_s m_wi) m_fo) m_tl m_tr m_fa m_od m_rc m_be m_ft m_tp m_td m_tk m_bg m_en m_vl m_sg m_wi m_si m_ce m_ca) rfl ?_
    have h := Option.some.inj h; subst h
    exact hX_end rfl rfl rfl

/-- UpOneSideModel.draw()I -/
def v_192_63 (m_s : Nat → Int32) : Int32 := (((upd m_s 4 (((m_s 4) * 1103515245) + 12345)) 4).toUInt32 >>> ((8 : Int32).toUInt32 &&& Int32.toUInt32 31)).toInt32
def f_192_63_m_s (m_s : Nat → Int32) : Nat → Int32 := upd m_s 4 (((m_s 4) * 1103515245) + 12345)
set_option maxRecDepth 20000 in
set_option maxHeartbeats 1000000 in
theorem ct_192_63 {LL : Nat} {xs : Nat → Int32} {D : Nat} {c0 : Nat → gE} {m_s : Nat → Int32} {m_kp : Nat → Int32} {m_as : Nat → Int32} {m_ik : Int32} {m_fo : Nat → Int32} {m_tl : Int32} {m_tr : Int32} {m_fa : Nat → Int32} {m_od : Nat → Int32} {m_rc : Int32} {m_be : Nat → Int32} {m_ft : Int32} {m_tp : Nat → Int32} {m_td : Int32} {m_tk : Int32} {m_bg : Int32} {m_en : Int32} {m_vl : Int64} {m_sg : Int32} {m_wi : Nat → Int32} {m_si : Nat → Int32} {m_ce : Nat → Int32} {m_ca : Nat → Int32} : hM (gO LL xs) (D + 0) zR_192 [.ref 63] (hMm c0 m_s m_kp m_as m_ik m_fo m_tl m_tr m_fa m_od m_rc m_be m_ft m_tp m_td m_tk m_bg m_en m_vl m_sg m_wi m_si m_ce m_ca) (some (.int (v_192_63 m_s))) (hMm c0 (f_192_63_m_s m_s) m_kp m_as m_ik m_fo m_tl m_tr m_fa m_od m_rc m_be m_ft m_tp m_td m_tk m_bg m_en m_vl m_sg m_wi m_si m_ce m_ca) := by
  refine hX_go 0 0 [some (.ref 63)] [] (hMm c0 m_s m_kp m_as m_ik m_fo m_tl m_tr m_fa m_od m_rc m_be m_ft m_tp m_td m_tk m_bg m_en m_vl m_sg m_wi m_si m_ce m_ca) rfl ?_
  refine hX_go 9 (14) [some (.ref 63)] [.int ((m_s 4) * 1103515245), .int 4, .ref 64] (hMm c0 m_s m_kp m_as m_ik m_fo m_tl m_tr m_fa m_od m_rc m_be m_ft m_tp m_td m_tk m_bg m_en m_vl m_sg m_wi m_si m_ce m_ca) rfl ?_
  refine hX_go 9 (28) [some (.ref 63)] [.int ((((upd m_s 4 (((m_s 4) * 1103515245) + 12345)) 4).toUInt32 >>> ((8 : Int32).toUInt32 &&& Int32.toUInt32 31)).toInt32)] (hMm c0 (upd m_s 4 (((m_s 4) * 1103515245) + 12345)) m_kp m_as m_ik m_fo m_tl m_tr m_fa m_od m_rc m_be m_ft m_tp m_td m_tk m_bg m_en m_vl m_sg m_wi m_si m_ce m_ca) rfl ?_
  exact hX_end rfl (rfl) (rfl)

/-- UpOneSideModel.hands: the loop at 48 -/
def lp_193_63_48 (N : Nat) (y1 : Int32) : Nat → Int32 → Int32 → (Nat → Int32) → Int32 → Int32 → Option (Int32 × Int32 × (Nat → Int32) × Int32 × Int32)
  | 0, _, _, _, _, _ => none
  | n + 1, y2, y3, m_s, m_tl, m_tr =>
    (bif gCmp .ge y3 y1 then
      some (y2, y3, m_s, m_tl, m_tr)
    else
      (bif !(decide (((f_192_63_m_s m_s) 3) = 0)) then (bif gIn ((15 + (3 * ((v_192_63 m_s) - (v_192_63 m_s) / ((f_192_63_m_s m_s) 3) * ((f_192_63_m_s m_s) 3)))) + 0) 134 then (bif gIn ((15 + (3 * ((v_192_63 m_s) - (v_192_63 m_s) / ((f_192_63_m_s m_s) 3) * ((f_192_63_m_s m_s) 3)))) + 1) 134 then (bif gIn ((15 + (3 * ((v_192_63 m_s) - (v_192_63 m_s) / ((f_192_63_m_s m_s) 3) * ((f_192_63_m_s m_s) 3)))) + 2) 134 then (bif gIn (39 + ((f_192_63_m_s m_s) 0)) 134 then lp_193_63_48 N y1 n (y2 + (bif gCmp .le (v_126 (v_146_63 (f_148_63_m_s ((v_192_63 m_s) - (v_192_63 m_s) / ((f_192_63_m_s m_s) 3) * ((f_192_63_m_s m_s) 3)) (f_192_63_m_s m_s)))) (v_126 (v_146_63 m_s)) then 0 else 1)) (y3 + 1) (f_148_63_m_s ((v_192_63 m_s) - (v_192_63 m_s) / ((f_192_63_m_s m_s) 3) * ((f_192_63_m_s m_s) 3)) (f_192_63_m_s m_s)) (f_148_63_m_tl ((v_192_63 m_s) - (v_192_63 m_s) / ((f_192_63_m_s m_s) 3) * ((f_192_63_m_s m_s) 3)) (f_192_63_m_s m_s)) (f_148_63_m_tr ((v_192_63 m_s) - (v_192_63 m_s) / ((f_192_63_m_s m_s) 3) * ((f_192_63_m_s m_s) 3)) (f_192_63_m_s m_s)) else none) else none) else none) else none) else none))
set_option maxRecDepth 20000 in
set_option maxHeartbeats 4000000 in
theorem lt_193_63_48 {LL : Nat} {xs : Nat → Int32} {D N : Nat} {c0 : Nat → gE}  {m_kp : Nat → Int32} {m_as : Nat → Int32} {m_ik : Int32} {m_fo : Nat → Int32}   {m_fa : Nat → Int32} {m_od : Nat → Int32} {m_rc : Int32} {m_be : Nat → Int32} {m_ft : Int32} {m_tp : Nat → Int32} {m_td : Int32} {m_tk : Int32} {m_bg : Int32} {m_en : Int32} {m_vl : Int64} {m_sg : Int32} {m_wi : Nat → Int32} {m_si : Nat → Int32} {m_ce : Nat → Int32} {m_ca : Nat → Int32} {y1 : Int32} {v : Option Value} {M' : List gE} : ∀ (n : Nat) (y2 : Int32) (y3 : Int32) (m_s : Nat → Int32) (m_tl : Int32) (m_tr : Int32) (q : Int32 × Int32 × (Nat → Int32) × Int32 × Int32), lp_193_63_48 N y1 n y2 y3 m_s m_tl m_tr = some q → (kk : hX (gO LL xs) (D + 4) zR_193 103 [some (.ref 63), some (.int y1), some (.int q.1), some (.int q.2.1), none] [] (hMm c0 q.2.2.1 m_kp m_as m_ik m_fo q.2.2.2.1 q.2.2.2.2 m_fa m_od m_rc m_be m_ft m_tp m_td m_tk m_bg m_en m_vl m_sg m_wi m_si m_ce m_ca) v M') → hX (gO LL xs) (D + 4) zR_193 48 [some (.ref 63), some (.int y1), some (.int y2), some (.int y3), none] [] (hMm c0 m_s m_kp m_as m_ik m_fo m_tl m_tr m_fa m_od m_rc m_be m_ft m_tp m_td m_tk m_bg m_en m_vl m_sg m_wi m_si m_ce m_ca) v M' := by
  intro n
  induction n with
  | zero => intro y2 y3 m_s m_tl m_tr q h; cases h
  | succ n ih =>
    intro y2 y3 m_s m_tl m_tr q h kk
    rw [lp_193_63_48] at h
    refine hX_go 3 (bif gCmp .ge y3 y1 then 103 else 53) [some (.ref 63), some (.int y1), some (.int y2), some (.int y3), none] [] (hMm c0 m_s m_kp m_as m_ik m_fo m_tl m_tr m_fa m_od m_rc m_be m_ft m_tp m_td m_tk m_bg m_en m_vl m_sg m_wi m_si m_ce m_ca) rfl ?_
    refine hX_if (gCmp .ge y3 y1) (fun c1 => ?_) (fun c1 => ?_)
    · skip
      have h := gcT c1 h
      have h := Option.some.inj h; subst h
      exact kk
    · skip
      have h := gcF c1 h
      refine hX_goM 1 (54) [some (.ref 63), some (.int y1), some (.int y2), some (.int y3), none] [.ref 63] rfl ?_
      refine hX_call (r' := zR_146) rfl (ct_146_63) ?_
      refine hX_goM 0 (57) [some (.ref 63), some (.int y1), some (.int y2), some (.int y3), none] [.int (v_146_63 m_s)] rfl ?_
      refine hX_call (r' := zR_126) rfl (ct_126 (v_146_63 m_s)) ?_
      refine hX_goM 3 (64) [some (.ref 63), some (.int y1), some (.int y2), some (.int y3), some (.int (v_126 (v_146_63 m_s)))] [.ref 63, .ref 63] rfl ?_
      refine hX_call (r' := zR_192) rfl (ct_192_63) ?_
      refine hX_go 4 (73) [some (.ref 63), some (.int y1), some (.int y2), some (.int y3), some (.int (v_126 (v_146_63 m_s)))] [.int ((f_192_63_m_s m_s) 3), .int (v_192_63 m_s), .ref 63] (hMm c0 (f_192_63_m_s m_s) m_kp m_as m_ik m_fo m_tl m_tr m_fa m_od m_rc m_be m_ft m_tp m_td m_tk m_bg m_en m_vl m_sg m_wi m_si m_ce m_ca) rfl ?_
      revert h; refine gCondR fun g2 h => ?_
      refine hX_gnM (decide (((f_192_63_m_s m_s) 3) = 0)) 74 [some (.ref 63), some (.int y1), some (.int y2), some (.int y3), some (.int (v_126 (v_146_63 m_s)))] [.int ((v_192_63 m_s) - (v_192_63 m_s) / ((f_192_63_m_s m_s) 3) * ((f_192_63_m_s m_s) 3)), .ref 63] rfl (gNot g2) ?_
      revert h; refine gCondR fun g3 h => ?_
      revert h; refine gCondR fun g4 h => ?_
      revert h; refine gCondR fun g5 h => ?_
      revert h; refine gCondR fun g6 h => ?_
      refine hX_call (r' := zR_148) rfl (ct_148_63 ((v_192_63 m_s) - (v_192_63 m_s) / ((f_192_63_m_s m_s) 3) * ((f_192_63_m_s m_s) 3)) g3 g4 g5 g6) ?_
      refine hX_go 2 (79) [some (.ref 63), some (.int y1), some (.int y2), some (.int y3), some (.int (v_126 (v_146_63 m_s)))] [.ref 63, .int y2] (hMm c0 (f_148_63_m_s ((v_192_63 m_s) - (v_192_63 m_s) / ((f_192_63_m_s m_s) 3) * ((f_192_63_m_s m_s) 3)) (f_192_63_m_s m_s)) m_kp m_as m_ik m_fo (f_148_63_m_tl ((v_192_63 m_s) - (v_192_63 m_s) / ((f_192_63_m_s m_s) 3) * ((f_192_63_m_s m_s) 3)) (f_192_63_m_s m_s)) (f_148_63_m_tr ((v_192_63 m_s) - (v_192_63 m_s) / ((f_192_63_m_s m_s) 3) * ((f_192_63_m_s m_s) 3)) (f_192_63_m_s m_s)) m_fa m_od m_rc m_be m_ft m_tp m_td m_tk m_bg m_en m_vl m_sg m_wi m_si m_ce m_ca) rfl ?_
      refine hX_call (r' := zR_146) rfl (ct_146_63) ?_
      refine hX_goM 0 (82) [some (.ref 63), some (.int y1), some (.int y2), some (.int y3), some (.int (v_126 (v_146_63 m_s)))] [.int (v_146_63 (f_148_63_m_s ((v_192_63 m_s) - (v_192_63 m_s) / ((f_192_63_m_s m_s) 3) * ((f_192_63_m_s m_s) 3)) (f_192_63_m_s m_s))), .int y2] rfl ?_
      refine hX_call (r' := zR_126) rfl (ct_126 (v_146_63 (f_148_63_m_s ((v_192_63 m_s) - (v_192_63 m_s) / ((f_192_63_m_s m_s) 3) * ((f_192_63_m_s m_s) 3)) (f_192_63_m_s m_s)))) ?_
      refine hX_goM 2 (bif gCmp .le (v_126 (v_146_63 (f_148_63_m_s ((v_192_63 m_s) - (v_192_63 m_s) / ((f_192_63_m_s m_s) 3) * ((f_192_63_m_s m_s) 3)) (f_192_63_m_s m_s)))) (v_126 (v_146_63 m_s)) then 94 else 90) [some (.ref 63), some (.int y1), some (.int y2), some (.int y3), some (.int (v_126 (v_146_63 m_s)))] [.int y2] rfl ?_
      refine hX_mrg 95 [some (.ref 63), some (.int y1), some (.int y2), some (.int y3), some (.int (v_126 (v_146_63 m_s)))] [.int (bif gCmp .le (v_126 (v_146_63 (f_148_63_m_s ((v_192_63 m_s) - (v_192_63 m_s) / ((f_192_63_m_s m_s) 3) * ((f_192_63_m_s m_s) 3)) (f_192_63_m_s m_s)))) (v_126 (v_146_63 m_s)) then 0 else 1), .int y2] (hMm c0 (f_148_63_m_s ((v_192_63 m_s) - (v_192_63 m_s) / ((f_192_63_m_s m_s) 3) * ((f_192_63_m_s m_s) 3)) (f_192_63_m_s m_s)) m_kp m_as m_ik m_fo (f_148_63_m_tl ((v_192_63 m_s) - (v_192_63 m_s) / ((f_192_63_m_s m_s) 3) * ((f_192_63_m_s m_s) 3)) (f_192_63_m_s m_s)) (f_148_63_m_tr ((v_192_63 m_s) - (v_192_63 m_s) / ((f_192_63_m_s m_s) 3) * ((f_192_63_m_s m_s) 3)) (f_192_63_m_s m_s)) m_fa m_od m_rc m_be m_ft m_tp m_td m_tk m_bg m_en m_vl m_sg m_wi m_si m_ce m_ca) (fun hk => ?_) ?_
      · skip
        refine hX_if (gCmp .le (v_126 (v_146_63 (f_148_63_m_s ((v_192_63 m_s) - (v_192_63 m_s) / ((f_192_63_m_s m_s) 3) * ((f_192_63_m_s m_s) 3)) (f_192_63_m_s m_s)))) (v_126 (v_146_63 m_s))) (fun c8 => ?_) (fun c8 => ?_)
        · skip
          refine hX_goM 1 (95) [some (.ref 63), some (.int y1), some (.int y2), some (.int y3), some (.int (v_126 (v_146_63 m_s)))] [.int 0, .int y2] rfl ?_
          have hk := hk
          simp only [c8, cond_true, cond_false] at hk
          first | exact hk | (simp only [c8, cond_true, cond_false]; exact hk)
        · skip
          refine hX_goM 2 (95) [some (.ref 63), some (.int y1), some (.int y2), some (.int y3), some (.int (v_126 (v_146_63 m_s)))] [.int 1, .int y2] rfl ?_
          have hk := hk
          simp only [c8, cond_true, cond_false] at hk
          first | exact hk | (simp only [c8, cond_true, cond_false]; exact hk)
      refine hX_goM 4 (48) [some (.ref 63), some (.int y1), some (.int (y2 + (bif gCmp .le (v_126 (v_146_63 (f_148_63_m_s ((v_192_63 m_s) - (v_192_63 m_s) / ((f_192_63_m_s m_s) 3) * ((f_192_63_m_s m_s) 3)) (f_192_63_m_s m_s)))) (v_126 (v_146_63 m_s)) then 0 else 1))), some (.int (y3 + 1)), some (.int (v_126 (v_146_63 m_s)))] [] rfl ?_
      exact hX_wk (gLe_s (gLe_s (gLe_s (gLe_s (gLe_n gLe_0))))) (ih (y2 + (bif gCmp .le (v_126 (v_146_63 (f_148_63_m_s ((v_192_63 m_s) - (v_192_63 m_s) / ((f_192_63_m_s m_s) 3) * ((f_192_63_m_s m_s) 3)) (f_192_63_m_s m_s)))) (v_126 (v_146_63 m_s)) then 0 else 1)) (y3 + 1) (f_148_63_m_s ((v_192_63 m_s) - (v_192_63 m_s) / ((f_192_63_m_s m_s) 3) * ((f_192_63_m_s m_s) 3)) (f_192_63_m_s m_s)) (f_148_63_m_tl ((v_192_63 m_s) - (v_192_63 m_s) / ((f_192_63_m_s m_s) 3) * ((f_192_63_m_s m_s) 3)) (f_192_63_m_s m_s)) (f_148_63_m_tr ((v_192_63 m_s) - (v_192_63 m_s) / ((f_192_63_m_s m_s) 3) * ((f_192_63_m_s m_s) 3)) (f_192_63_m_s m_s)) q h kk)

/-- UpOneSideModel.hands(I)I -/
def me_193_63 (N : Nat) (x0 : Int32) (m_s : Nat → Int32) (m_fo : Nat → Int32) (m_tl : Int32) (m_tr : Int32) : Option (Int32 × (Nat → Int32) × (Nat → Int32) × Int32 × Int32) :=
  (bif gCmp .ne (v_125 x0 1 20) 0 then
    (bif gCmp .eq (m_s 3) 0 then
      some (v_124_63 4, m_s, f_124_63_m_fo 4 m_fo, m_tl, m_tr)
    else
      (bif gCmp .le ((m_s 2) + x0) 99999 then
        (Option.bind (lp_193_63_48 N x0 N 0 0 m_s m_tl m_tr) fun q4 =>
        some (q4.1, q4.2.2.1, m_fo, q4.2.2.2.1, q4.2.2.2.2))
      else
        some (v_124_63 4, m_s, f_124_63_m_fo 4 m_fo, m_tl, m_tr)))
  else
    some (v_124_63 0, m_s, f_124_63_m_fo 0 m_fo, m_tl, m_tr))
set_option maxRecDepth 20000 in
set_option maxHeartbeats 4000000 in
theorem mt_193_63 {LL : Nat} {xs : Nat → Int32} {D : Nat} {c0 : Nat → gE} {m_s : Nat → Int32} {m_kp : Nat → Int32} {m_as : Nat → Int32} {m_ik : Int32} {m_fo : Nat → Int32} {m_tl : Int32} {m_tr : Int32} {m_fa : Nat → Int32} {m_od : Nat → Int32} {m_rc : Int32} {m_be : Nat → Int32} {m_ft : Int32} {m_tp : Nat → Int32} {m_td : Int32} {m_tk : Int32} {m_bg : Int32} {m_en : Int32} {m_vl : Int64} {m_sg : Int32} {m_wi : Nat → Int32} {m_si : Nat → Int32} {m_ce : Nat → Int32} {m_ca : Nat → Int32} (N : Nat) (x0 : Int32) (q : Int32 × (Nat → Int32) × (Nat → Int32) × Int32 × Int32) (h : me_193_63 N x0 m_s m_fo m_tl m_tr = some q) : hM (gO LL xs) (D + 4) zR_193 [.ref 63, .int x0] (hMm c0 m_s m_kp m_as m_ik m_fo m_tl m_tr m_fa m_od m_rc m_be m_ft m_tp m_td m_tk m_bg m_en m_vl m_sg m_wi m_si m_ce m_ca) (some (.int q.1)) (hMm c0 q.2.1 m_kp m_as m_ik q.2.2.1 q.2.2.2.1 q.2.2.2.2 m_fa m_od m_rc m_be m_ft m_tp m_td m_tk m_bg m_en m_vl m_sg m_wi m_si m_ce m_ca) := by
  unfold me_193_63 at h
  refine hX_go 0 0 [some (.ref 63), some (.int x0), none, none, none] [] (hMm c0 m_s m_kp m_as m_ik m_fo m_tl m_tr m_fa m_od m_rc m_be m_ft m_tp m_td m_tk m_bg m_en m_vl m_sg m_wi m_si m_ce m_ca) rfl ?_
  refine hX_go 3 (4) [some (.ref 63), some (.int x0), none, none, none] [.int 20, .int 1, .int x0] (hMm c0 m_s m_kp m_as m_ik m_fo m_tl m_tr m_fa m_od m_rc m_be m_ft m_tp m_td m_tk m_bg m_en m_vl m_sg m_wi m_si m_ce m_ca) rfl ?_
  refine hX_call (r' := zR_125) rfl (ct_125 x0 1 20) ?_
  refine hX_goM 1 (bif gCmp .ne (v_125 x0 1 20) 0 then 16 else 10) [some (.ref 63), some (.int x0), none, none, none] [] rfl ?_
  refine hX_if (gCmp .ne (v_125 x0 1 20) 0) (fun c1 => ?_) (fun c1 => ?_)
  · skip
    have h := gcT c1 h
    refine hX_goM 5 (bif gCmp .eq (m_s 3) 0 then 38 else 25) [some (.ref 63), some (.int x0), none, none, none] [] rfl ?_
    refine hX_if (gCmp .eq (m_s 3) 0) (fun c2 => ?_) (fun c2 => ?_)
    · skip
      have h := gcT c2 h
      refine hX_goM 2 (40) [some (.ref 63), some (.int x0), none, none, none] [.int 4, .ref 63] rfl ?_
      refine hX_call (r' := zR_124) rfl (ct_124_63 4 rfl) ?_
      refine hX_go 0 (43) [some (.ref 63), some (.int x0), none, none, none] [.int (v_124_63 4)] (hMm c0 m_s m_kp m_as m_ik (f_124_63_m_fo 4 m_fo) m_tl m_tr m_fa m_od m_rc m_be m_ft m_tp m_td m_tk m_bg m_en m_vl m_sg m_wi m_si m_ce m_ca) rfl ?_
      have h := Option.some.inj h; subst h
      exact hX_end rfl rfl rfl
    · skip
      have h := gcF c2 h
      refine hX_goM 8 (bif gCmp .le ((m_s 2) + x0) 99999 then 44 else 38) [some (.ref 63), some (.int x0), none, none, none] [] rfl ?_
      refine hX_if (gCmp .le ((m_s 2) + x0) 99999) (fun c3 => ?_) (fun c3 => ?_)
      · skip
        have h := gcT c3 h
        refine hX_goM 4 (48) [some (.ref 63), some (.int x0), some (.int 0), some (.int 0), none] [] rfl ?_
        revert h; refine gBindR fun q4 e4 h => ?_
        refine lt_193_63_48 N 0 0 m_s m_tl m_tr q4 e4 ?_
        refine hX_go 1 (104) [some (.ref 63), some (.int x0), some (.int q4.1), some (.int q4.2.1), none] [.int q4.1] (hMm c0 q4.2.2.1 m_kp m_as m_ik m_fo q4.2.2.2.1 q4.2.2.2.2 m_fa m_od m_rc m_be m_ft m_tp m_td m_tk m_bg m_en m_vl m_sg m_wi m_si m_ce m_ca) rfl ?_
        have h := Option.some.inj h; subst h
        exact hX_end rfl rfl rfl
      · skip
        have h := gcF c3 h
        refine hX_goM 2 (40) [some (.ref 63), some (.int x0), none, none, none] [.int 4, .ref 63] rfl ?_
        refine hX_call (r' := zR_124) rfl (ct_124_63 4 rfl) ?_
        refine hX_go 0 (43) [some (.ref 63), some (.int x0), none, none, none] [.int (v_124_63 4)] (hMm c0 m_s m_kp m_as m_ik (f_124_63_m_fo 4 m_fo) m_tl m_tr m_fa m_od m_rc m_be m_ft m_tp m_td m_tk m_bg m_en m_vl m_sg m_wi m_si m_ce m_ca) rfl ?_
        have h := Option.some.inj h; subst h
        exact hX_end rfl rfl rfl
  · skip
    have h := gcF c1 h
    refine hX_goM 2 (12) [some (.ref 63), some (.int x0), none, none, none] [.int 0, .ref 63] rfl ?_
    refine hX_call (r' := zR_124) rfl (ct_124_63 0 rfl) ?_
    refine hX_go 0 (15) [some (.ref 63), some (.int x0), none, none, none] [.int (v_124_63 0)] (hMm c0 m_s m_kp m_as m_ik (f_124_63_m_fo 0 m_fo) m_tl m_tr m_fa m_od m_rc m_be m_ft m_tp m_td m_tk m_bg m_en m_vl m_sg m_wi m_si m_ce m_ca) rfl ?_
    have h := Option.some.inj h; subst h
    exact hX_end rfl rfl rfl


/-- UpOneSideModel.seed(I)I -/
def me_194_63 (N : Nat) (x0 : Int32) (m_s : Nat → Int32) : Option (Int32 × (Nat → Int32)) :=
  some (m_s 4, upd m_s 4 x0)
set_option maxRecDepth 20000 in
set_option maxHeartbeats 4000000 in
theorem mt_194_63 {LL : Nat} {xs : Nat → Int32} {D : Nat} {c0 : Nat → gE} {m_s : Nat → Int32} {m_kp : Nat → Int32} {m_as : Nat → Int32} {m_ik : Int32} {m_fo : Nat → Int32} {m_tl : Int32} {m_tr : Int32} {m_fa : Nat → Int32} {m_od : Nat → Int32} {m_rc : Int32} {m_be : Nat → Int32} {m_ft : Int32} {m_tp : Nat → Int32} {m_td : Int32} {m_tk : Int32} {m_bg : Int32} {m_en : Int32} {m_vl : Int64} {m_sg : Int32} {m_wi : Nat → Int32} {m_si : Nat → Int32} {m_ce : Nat → Int32} {m_ca : Nat → Int32} (N : Nat) (x0 : Int32) (q : Int32 × (Nat → Int32)) (h : me_194_63 N x0 m_s = some q) : hM (gO LL xs) (D + 0) zR_194 [.ref 63, .int x0] (hMm c0 m_s m_kp m_as m_ik m_fo m_tl m_tr m_fa m_od m_rc m_be m_ft m_tp m_td m_tk m_bg m_en m_vl m_sg m_wi m_si m_ce m_ca) (some (.int q.1)) (hMm c0 q.2 m_kp m_as m_ik m_fo m_tl m_tr m_fa m_od m_rc m_be m_ft m_tp m_td m_tk m_bg m_en m_vl m_sg m_wi m_si m_ce m_ca) := by
  unfold me_194_63 at h
  refine hX_go 0 0 [some (.ref 63), some (.int x0), none] [] (hMm c0 m_s m_kp m_as m_ik m_fo m_tl m_tr m_fa m_od m_rc m_be m_ft m_tp m_td m_tk m_bg m_en m_vl m_sg m_wi m_si m_ce m_ca) rfl ?_
  refine hX_go 9 (13) [some (.ref 63), some (.int x0), some (.int (m_s 4))] [.int x0, .int 4, .ref 64] (hMm c0 m_s m_kp m_as m_ik m_fo m_tl m_tr m_fa m_od m_rc m_be m_ft m_tp m_td m_tk m_bg m_en m_vl m_sg m_wi m_si m_ce m_ca) rfl ?_
  refine hX_go 2 (15) [some (.ref 63), some (.int x0), some (.int (m_s 4))] [.int (m_s 4)] (hMm c0 (upd m_s 4 x0) m_kp m_as m_ik m_fo m_tl m_tr m_fa m_od m_rc m_be m_ft m_tp m_td m_tk m_bg m_en m_vl m_sg m_wi m_si m_ce m_ca) rfl ?_
  have h := Option.some.inj h; subst h
  exact hX_end rfl rfl rfl

/-- UpOneSideModel.setsAside: the loop at 2 -/
def lp_195_63_2 (N : Nat) (m_s : Nat → Int32) : Nat → Int32 → (Nat → Int32) → Option (Int32 × (Nat → Int32))
  | 0, _, _ => none
  | n + 1, y1, m_as =>
    (bif gCmp .ge y1 134 then
      some (y1, m_as)
    else
      (bif gIn y1 134 then (bif gIn y1 134 then lp_195_63_2 N m_s n (y1 + 1) (upd m_as (Int32.toNatClampNeg y1) (m_s (Int32.toNatClampNeg y1))) else none) else none))
set_option maxRecDepth 20000 in
set_option maxHeartbeats 4000000 in
theorem lt_195_63_2 {LL : Nat} {xs : Nat → Int32} {D N : Nat} {c0 : Nat → gE} {m_s : Nat → Int32} {m_kp : Nat → Int32}  {m_ik : Int32} {m_fo : Nat → Int32} {m_tl : Int32} {m_tr : Int32} {m_fa : Nat → Int32} {m_od : Nat → Int32} {m_rc : Int32} {m_be : Nat → Int32} {m_ft : Int32} {m_tp : Nat → Int32} {m_td : Int32} {m_tk : Int32} {m_bg : Int32} {m_en : Int32} {m_vl : Int64} {m_sg : Int32} {m_wi : Nat → Int32} {m_si : Nat → Int32} {m_ce : Nat → Int32} {m_ca : Nat → Int32} {v : Option Value} {M' : List gE} : ∀ (n : Nat) (y1 : Int32) (m_as : Nat → Int32) (q : Int32 × (Nat → Int32)), lp_195_63_2 N m_s n y1 m_as = some q → (kk : hX (gO LL xs) (D + 0) zR_195 27 [some (.ref 63), some (.int q.1)] [] (hMm c0 m_s m_kp q.2 m_ik m_fo m_tl m_tr m_fa m_od m_rc m_be m_ft m_tp m_td m_tk m_bg m_en m_vl m_sg m_wi m_si m_ce m_ca) v M') → hX (gO LL xs) (D + 0) zR_195 2 [some (.ref 63), some (.int y1)] [] (hMm c0 m_s m_kp m_as m_ik m_fo m_tl m_tr m_fa m_od m_rc m_be m_ft m_tp m_td m_tk m_bg m_en m_vl m_sg m_wi m_si m_ce m_ca) v M' := by
  intro n
  induction n with
  | zero => intro y1 m_as q h; cases h
  | succ n ih =>
    intro y1 m_as q h kk
    rw [lp_195_63_2] at h
    refine hX_go 3 (bif gCmp .ge y1 134 then 27 else 9) [some (.ref 63), some (.int y1)] [] (hMm c0 m_s m_kp m_as m_ik m_fo m_tl m_tr m_fa m_od m_rc m_be m_ft m_tp m_td m_tk m_bg m_en m_vl m_sg m_wi m_si m_ce m_ca) rfl ?_
    refine hX_if (gCmp .ge y1 134) (fun c1 => ?_) (fun c1 => ?_)
    · skip
      have h := gcT c1 h
      have h := Option.some.inj h; subst h
      exact kk
    · skip
      have h := gcF c1 h
      refine hX_goM 6 (19) [some (.ref 63), some (.int y1)] [.int y1, .ref 64, .int y1, .ref 66] rfl ?_
      revert h; refine gCondR fun g2 h => ?_
      refine hX_gM (gIn y1 134) 20 [some (.ref 63), some (.int y1)] [.int (m_s (Int32.toNatClampNeg y1)), .int y1, .ref 66] rfl g2 ?_
      revert h; refine gCondR fun g3 h => ?_
      refine hX_g (gIn y1 134) 21 [some (.ref 63), some (.int y1)] [] (hMm c0 m_s m_kp (upd m_as (Int32.toNatClampNeg y1) (m_s (Int32.toNatClampNeg y1))) m_ik m_fo m_tl m_tr m_fa m_od m_rc m_be m_ft m_tp m_td m_tk m_bg m_en m_vl m_sg m_wi m_si m_ce m_ca) rfl g3 ?_
      refine hX_goM 2 (2) [some (.ref 63), some (.int (y1 + 1))] [] rfl ?_
      exact ih (y1 + 1) (upd m_as (Int32.toNatClampNeg y1) (m_s (Int32.toNatClampNeg y1))) q h kk

/-- UpOneSideModel.setsAside()V -/
def me_195_63 (N : Nat) (m_s : Nat → Int32) (m_as : Nat → Int32) : Option ((Nat → Int32)) :=
  (Option.bind (lp_195_63_2 N m_s N 0 m_as) fun q1 =>
  some (q1.2))
set_option maxRecDepth 20000 in
set_option maxHeartbeats 4000000 in
theorem mt_195_63 {LL : Nat} {xs : Nat → Int32} {D : Nat} {c0 : Nat → gE} {m_s : Nat → Int32} {m_kp : Nat → Int32} {m_as : Nat → Int32} {m_ik : Int32} {m_fo : Nat → Int32} {m_tl : Int32} {m_tr : Int32} {m_fa : Nat → Int32} {m_od : Nat → Int32} {m_rc : Int32} {m_be : Nat → Int32} {m_ft : Int32} {m_tp : Nat → Int32} {m_td : Int32} {m_tk : Int32} {m_bg : Int32} {m_en : Int32} {m_vl : Int64} {m_sg : Int32} {m_wi : Nat → Int32} {m_si : Nat → Int32} {m_ce : Nat → Int32} {m_ca : Nat → Int32} (N : Nat) (q : (Nat → Int32)) (h : me_195_63 N m_s m_as = some q) : hM (gO LL xs) (D + 0) zR_195 [.ref 63] (hMm c0 m_s m_kp m_as m_ik m_fo m_tl m_tr m_fa m_od m_rc m_be m_ft m_tp m_td m_tk m_bg m_en m_vl m_sg m_wi m_si m_ce m_ca) none (hMm c0 m_s m_kp q m_ik m_fo m_tl m_tr m_fa m_od m_rc m_be m_ft m_tp m_td m_tk m_bg m_en m_vl m_sg m_wi m_si m_ce m_ca) := by
  unfold me_195_63 at h
  refine hX_go 0 0 [some (.ref 63), none] [] (hMm c0 m_s m_kp m_as m_ik m_fo m_tl m_tr m_fa m_od m_rc m_be m_ft m_tp m_td m_tk m_bg m_en m_vl m_sg m_wi m_si m_ce m_ca) rfl ?_
  refine hX_go 2 (2) [some (.ref 63), some (.int 0)] [] (hMm c0 m_s m_kp m_as m_ik m_fo m_tl m_tr m_fa m_od m_rc m_be m_ft m_tp m_td m_tk m_bg m_en m_vl m_sg m_wi m_si m_ce m_ca) rfl ?_
  revert h; refine gBindR fun q1 e1 h => ?_
  refine lt_195_63_2 N 0 m_as q1 e1 ?_
  refine hX_go 0 (27) [some (.ref 63), some (.int q1.1)] [] (hMm c0 m_s m_kp q1.2 m_ik m_fo m_tl m_tr m_fa m_od m_rc m_be m_ft m_tp m_td m_tk m_bg m_en m_vl m_sg m_wi m_si m_ce m_ca) rfl ?_
  have h := Option.some.inj h; subst h
  exact hX_end rfl rfl rfl

/-- UpOneSideModel.laysBack: the loop at 2 -/
def lp_196_63_2 (N : Nat) (m_as : Nat → Int32) : Nat → Int32 → (Nat → Int32) → Option (Int32 × (Nat → Int32))
  | 0, _, _ => none
  | n + 1, y1, m_s =>
    (bif gCmp .ge y1 134 then
      some (y1, m_s)
    else
      (bif gIn y1 134 then (bif gIn y1 134 then lp_196_63_2 N m_as n (y1 + 1) (upd m_s (Int32.toNatClampNeg y1) (m_as (Int32.toNatClampNeg y1))) else none) else none))
set_option maxRecDepth 20000 in
set_option maxHeartbeats 4000000 in
theorem lt_196_63_2 {LL : Nat} {xs : Nat → Int32} {D N : Nat} {c0 : Nat → gE}  {m_kp : Nat → Int32} {m_as : Nat → Int32} {m_ik : Int32} {m_fo : Nat → Int32} {m_tl : Int32} {m_tr : Int32} {m_fa : Nat → Int32} {m_od : Nat → Int32} {m_rc : Int32} {m_be : Nat → Int32} {m_ft : Int32} {m_tp : Nat → Int32} {m_td : Int32} {m_tk : Int32} {m_bg : Int32} {m_en : Int32} {m_vl : Int64} {m_sg : Int32} {m_wi : Nat → Int32} {m_si : Nat → Int32} {m_ce : Nat → Int32} {m_ca : Nat → Int32} {v : Option Value} {M' : List gE} : ∀ (n : Nat) (y1 : Int32) (m_s : Nat → Int32) (q : Int32 × (Nat → Int32)), lp_196_63_2 N m_as n y1 m_s = some q → (kk : hX (gO LL xs) (D + 0) zR_196 27 [some (.ref 63), some (.int q.1)] [] (hMm c0 q.2 m_kp m_as m_ik m_fo m_tl m_tr m_fa m_od m_rc m_be m_ft m_tp m_td m_tk m_bg m_en m_vl m_sg m_wi m_si m_ce m_ca) v M') → hX (gO LL xs) (D + 0) zR_196 2 [some (.ref 63), some (.int y1)] [] (hMm c0 m_s m_kp m_as m_ik m_fo m_tl m_tr m_fa m_od m_rc m_be m_ft m_tp m_td m_tk m_bg m_en m_vl m_sg m_wi m_si m_ce m_ca) v M' := by
  intro n
  induction n with
  | zero => intro y1 m_s q h; cases h
  | succ n ih =>
    intro y1 m_s q h kk
    rw [lp_196_63_2] at h
    refine hX_go 3 (bif gCmp .ge y1 134 then 27 else 9) [some (.ref 63), some (.int y1)] [] (hMm c0 m_s m_kp m_as m_ik m_fo m_tl m_tr m_fa m_od m_rc m_be m_ft m_tp m_td m_tk m_bg m_en m_vl m_sg m_wi m_si m_ce m_ca) rfl ?_
    refine hX_if (gCmp .ge y1 134) (fun c1 => ?_) (fun c1 => ?_)
    · skip
      have h := gcT c1 h
      have h := Option.some.inj h; subst h
      exact kk
    · skip
      have h := gcF c1 h
      refine hX_goM 6 (19) [some (.ref 63), some (.int y1)] [.int y1, .ref 66, .int y1, .ref 64] rfl ?_
      revert h; refine gCondR fun g2 h => ?_
      refine hX_gM (gIn y1 134) 20 [some (.ref 63), some (.int y1)] [.int (m_as (Int32.toNatClampNeg y1)), .int y1, .ref 64] rfl g2 ?_
      revert h; refine gCondR fun g3 h => ?_
      refine hX_g (gIn y1 134) 21 [some (.ref 63), some (.int y1)] [] (hMm c0 (upd m_s (Int32.toNatClampNeg y1) (m_as (Int32.toNatClampNeg y1))) m_kp m_as m_ik m_fo m_tl m_tr m_fa m_od m_rc m_be m_ft m_tp m_td m_tk m_bg m_en m_vl m_sg m_wi m_si m_ce m_ca) rfl g3 ?_
      refine hX_goM 2 (2) [some (.ref 63), some (.int (y1 + 1))] [] rfl ?_
      exact ih (y1 + 1) (upd m_s (Int32.toNatClampNeg y1) (m_as (Int32.toNatClampNeg y1))) q h kk

/-- UpOneSideModel.laysBack()V -/
def me_196_63 (N : Nat) (m_s : Nat → Int32) (m_as : Nat → Int32) : Option ((Nat → Int32)) :=
  (Option.bind (lp_196_63_2 N m_as N 0 m_s) fun q1 =>
  some (q1.2))
set_option maxRecDepth 20000 in
set_option maxHeartbeats 4000000 in
theorem mt_196_63 {LL : Nat} {xs : Nat → Int32} {D : Nat} {c0 : Nat → gE} {m_s : Nat → Int32} {m_kp : Nat → Int32} {m_as : Nat → Int32} {m_ik : Int32} {m_fo : Nat → Int32} {m_tl : Int32} {m_tr : Int32} {m_fa : Nat → Int32} {m_od : Nat → Int32} {m_rc : Int32} {m_be : Nat → Int32} {m_ft : Int32} {m_tp : Nat → Int32} {m_td : Int32} {m_tk : Int32} {m_bg : Int32} {m_en : Int32} {m_vl : Int64} {m_sg : Int32} {m_wi : Nat → Int32} {m_si : Nat → Int32} {m_ce : Nat → Int32} {m_ca : Nat → Int32} (N : Nat) (q : (Nat → Int32)) (h : me_196_63 N m_s m_as = some q) : hM (gO LL xs) (D + 0) zR_196 [.ref 63] (hMm c0 m_s m_kp m_as m_ik m_fo m_tl m_tr m_fa m_od m_rc m_be m_ft m_tp m_td m_tk m_bg m_en m_vl m_sg m_wi m_si m_ce m_ca) none (hMm c0 q m_kp m_as m_ik m_fo m_tl m_tr m_fa m_od m_rc m_be m_ft m_tp m_td m_tk m_bg m_en m_vl m_sg m_wi m_si m_ce m_ca) := by
  unfold me_196_63 at h
  refine hX_go 0 0 [some (.ref 63), none] [] (hMm c0 m_s m_kp m_as m_ik m_fo m_tl m_tr m_fa m_od m_rc m_be m_ft m_tp m_td m_tk m_bg m_en m_vl m_sg m_wi m_si m_ce m_ca) rfl ?_
  refine hX_go 2 (2) [some (.ref 63), some (.int 0)] [] (hMm c0 m_s m_kp m_as m_ik m_fo m_tl m_tr m_fa m_od m_rc m_be m_ft m_tp m_td m_tk m_bg m_en m_vl m_sg m_wi m_si m_ce m_ca) rfl ?_
  revert h; refine gBindR fun q1 e1 h => ?_
  refine lt_196_63_2 N 0 m_s q1 e1 ?_
  refine hX_go 0 (27) [some (.ref 63), some (.int q1.1)] [] (hMm c0 q1.2 m_kp m_as m_ik m_fo m_tl m_tr m_fa m_od m_rc m_be m_ft m_tp m_td m_tk m_bg m_en m_vl m_sg m_wi m_si m_ce m_ca) rfl ?_
  have h := Option.some.inj h; subst h
  exact hX_end rfl rfl rfl

/-- UpOneSideModel.feed: the loop at 36 -/
def lp_197_63_36 (N : Nat) (y1 : Int32) : Nat → Int32 → (Nat → Int32) → Int32 → Option (Int32 × (Nat → Int32) × Int32)
  | 0, _, _, _ => none
  | n + 1, y3, m_tp, m_td =>
    (bif gCmp .lt y3 0 then
      some (y3, m_tp, m_td)
    else
      (bif gIn m_td 120 then lp_197_63_36 N y1 n (y3 + (-1)) (upd m_tp (Int32.toNatClampNeg m_td) ((y1 >>> ((8 * y3) &&& 31)) &&& 255)) (m_td + 1) else none))
set_option maxRecDepth 20000 in
set_option maxHeartbeats 4000000 in
theorem lt_197_63_36 {LL : Nat} {xs : Nat → Int32} {D N : Nat} {c0 : Nat → gE} {m_s : Nat → Int32} {m_kp : Nat → Int32} {m_as : Nat → Int32} {m_ik : Int32} {m_fo : Nat → Int32} {m_tl : Int32} {m_tr : Int32} {m_fa : Nat → Int32} {m_od : Nat → Int32} {m_rc : Int32} {m_be : Nat → Int32} {m_ft : Int32}   {m_tk : Int32} {m_bg : Int32} {m_en : Int32} {m_vl : Int64} {m_sg : Int32} {m_wi : Nat → Int32} {m_si : Nat → Int32} {m_ce : Nat → Int32} {m_ca : Nat → Int32} {y1 : Int32} {y2 : Int32} {v : Option Value} {M' : List gE} : ∀ (n : Nat) (y3 : Int32) (m_tp : Nat → Int32) (m_td : Int32) (q : Int32 × (Nat → Int32) × Int32), lp_197_63_36 N y1 n y3 m_tp m_td = some q → (kk : hX (gO LL xs) (D + 1) zR_197 75 [some (.ref 63), some (.int y1), some (.int y2), some (.int q.1)] [] (hMm c0 m_s m_kp m_as m_ik m_fo m_tl m_tr m_fa m_od m_rc m_be m_ft q.2.1 q.2.2 m_tk m_bg m_en m_vl m_sg m_wi m_si m_ce m_ca) v M') → hX (gO LL xs) (D + 1) zR_197 36 [some (.ref 63), some (.int y1), some (.int y2), some (.int y3)] [] (hMm c0 m_s m_kp m_as m_ik m_fo m_tl m_tr m_fa m_od m_rc m_be m_ft m_tp m_td m_tk m_bg m_en m_vl m_sg m_wi m_si m_ce m_ca) v M' := by
  intro n
  induction n with
  | zero => intro y3 m_tp m_td q h; cases h
  | succ n ih =>
    intro y3 m_tp m_td q h kk
    rw [lp_197_63_36] at h
    refine hX_go 2 (bif gCmp .lt y3 0 then 75 else 40) [some (.ref 63), some (.int y1), some (.int y2), some (.int y3)] [] (hMm c0 m_s m_kp m_as m_ik m_fo m_tl m_tr m_fa m_od m_rc m_be m_ft m_tp m_td m_tk m_bg m_en m_vl m_sg m_wi m_si m_ce m_ca) rfl ?_
    refine hX_if (gCmp .lt y3 0) (fun c1 => ?_) (fun c1 => ?_)
    · skip
      have h := gcT c1 h
      have h := Option.some.inj h; subst h
      exact kk
    · skip
      have h := gcF c1 h
      refine hX_goM 9 (54) [some (.ref 63), some (.int y1), some (.int y2), some (.int y3)] [.int (y1 >>> ((8 * y3) &&& 31)), .int m_td, .ref 71] rfl ?_
      refine hX_goM 2 (58) [some (.ref 63), some (.int y1), some (.int y2), some (.int y3)] [.int ((y1 >>> ((8 * y3) &&& 31)) &&& 255), .int m_td, .ref 71] rfl ?_
      revert h; refine gCondR fun g2 h => ?_
      refine hX_g (gIn m_td 120) 59 [some (.ref 63), some (.int y1), some (.int y2), some (.int y3)] [] (hMm c0 m_s m_kp m_as m_ik m_fo m_tl m_tr m_fa m_od m_rc m_be m_ft (upd m_tp (Int32.toNatClampNeg m_td) ((y1 >>> ((8 * y3) &&& 31)) &&& 255)) m_td m_tk m_bg m_en m_vl m_sg m_wi m_si m_ce m_ca) rfl g2 ?_
      refine hX_go 8 (36) [some (.ref 63), some (.int y1), some (.int y2), some (.int (y3 + (-1)))] [] (hMm c0 m_s m_kp m_as m_ik m_fo m_tl m_tr m_fa m_od m_rc m_be m_ft (upd m_tp (Int32.toNatClampNeg m_td) ((y1 >>> ((8 * y3) &&& 31)) &&& 255)) (m_td + 1) m_tk m_bg m_en m_vl m_sg m_wi m_si m_ce m_ca) rfl ?_
      exact ih (y3 + (-1)) (upd m_tp (Int32.toNatClampNeg m_td) ((y1 >>> ((8 * y3) &&& 31)) &&& 255)) (m_td + 1) q h kk

/-- UpOneSideModel.feed(II)I -/
def me_197_63 (N : Nat) (x0 : Int32) (x1 : Int32) (m_fo : Nat → Int32) (m_tp : Nat → Int32) (m_td : Int32) : Option (Int32 × (Nat → Int32) × (Nat → Int32) × Int32) :=
  (bif gCmp .ne (v_125 x1 1 4) 0 then
    (bif gCmp .le (m_td + x1) 120 then
      (Option.bind (lp_197_63_36 N x0 N (x1 - 1) m_tp m_td) fun q3 =>
      some (q3.2.2, m_fo, q3.2.1, q3.2.2))
    else
      some (v_124_63 1, f_124_63_m_fo 1 m_fo, m_tp, m_td))
  else
    some (v_124_63 0, f_124_63_m_fo 0 m_fo, m_tp, m_td))
set_option maxRecDepth 20000 in
set_option maxHeartbeats 4000000 in
theorem mt_197_63 {LL : Nat} {xs : Nat → Int32} {D : Nat} {c0 : Nat → gE} {m_s : Nat → Int32} {m_kp : Nat → Int32} {m_as : Nat → Int32} {m_ik : Int32} {m_fo : Nat → Int32} {m_tl : Int32} {m_tr : Int32} {m_fa : Nat → Int32} {m_od : Nat → Int32} {m_rc : Int32} {m_be : Nat → Int32} {m_ft : Int32} {m_tp : Nat → Int32} {m_td : Int32} {m_tk : Int32} {m_bg : Int32} {m_en : Int32} {m_vl : Int64} {m_sg : Int32} {m_wi : Nat → Int32} {m_si : Nat → Int32} {m_ce : Nat → Int32} {m_ca : Nat → Int32} (N : Nat) (x0 : Int32) (x1 : Int32) (q : Int32 × (Nat → Int32) × (Nat → Int32) × Int32) (h : me_197_63 N x0 x1 m_fo m_tp m_td = some q) : hM (gO LL xs) (D + 1) zR_197 [.ref 63, .int x0, .int x1] (hMm c0 m_s m_kp m_as m_ik m_fo m_tl m_tr m_fa m_od m_rc m_be m_ft m_tp m_td m_tk m_bg m_en m_vl m_sg m_wi m_si m_ce m_ca) (some (.int q.1)) (hMm c0 m_s m_kp m_as m_ik q.2.1 m_tl m_tr m_fa m_od m_rc m_be m_ft q.2.2.1 q.2.2.2 m_tk m_bg m_en m_vl m_sg m_wi m_si m_ce m_ca) := by
  unfold me_197_63 at h
  refine hX_go 0 0 [some (.ref 63), some (.int x0), some (.int x1), none] [] (hMm c0 m_s m_kp m_as m_ik m_fo m_tl m_tr m_fa m_od m_rc m_be m_ft m_tp m_td m_tk m_bg m_en m_vl m_sg m_wi m_si m_ce m_ca) rfl ?_
  refine hX_go 3 (3) [some (.ref 63), some (.int x0), some (.int x1), none] [.int 4, .int 1, .int x1] (hMm c0 m_s m_kp m_as m_ik m_fo m_tl m_tr m_fa m_od m_rc m_be m_ft m_tp m_td m_tk m_bg m_en m_vl m_sg m_wi m_si m_ce m_ca) rfl ?_
  refine hX_call (r' := zR_125) rfl (ct_125 x1 1 4) ?_
  refine hX_goM 1 (bif gCmp .ne (v_125 x1 1 4) 0 then 15 else 9) [some (.ref 63), some (.int x0), some (.int x1), none] [] rfl ?_
  refine hX_if (gCmp .ne (v_125 x1 1 4) 0) (fun c1 => ?_) (fun c1 => ?_)
  · skip
    have h := gcT c1 h
    refine hX_goM 6 (bif gCmp .le (m_td + x1) 120 then 32 else 26) [some (.ref 63), some (.int x0), some (.int x1), none] [] rfl ?_
    refine hX_if (gCmp .le (m_td + x1) 120) (fun c2 => ?_) (fun c2 => ?_)
    · skip
      have h := gcT c2 h
      refine hX_goM 4 (36) [some (.ref 63), some (.int x0), some (.int x1), some (.int (x1 - 1))] [] rfl ?_
      revert h; refine gBindR fun q3 e3 h => ?_
      refine lt_197_63_36 N (x1 - 1) m_tp m_td q3 e3 ?_
      refine hX_go 2 (79) [some (.ref 63), some (.int x0), some (.int x1), some (.int q3.1)] [.int q3.2.2] (hMm c0 m_s m_kp m_as m_ik m_fo m_tl m_tr m_fa m_od m_rc m_be m_ft q3.2.1 q3.2.2 m_tk m_bg m_en m_vl m_sg m_wi m_si m_ce m_ca) rfl ?_
      have h := Option.some.inj h; subst h
      exact hX_end rfl rfl rfl
    · skip
      have h := gcF c2 h
      refine hX_goM 2 (28) [some (.ref 63), some (.int x0), some (.int x1), none] [.int 1, .ref 63] rfl ?_
      refine hX_call (r' := zR_124) rfl (ct_124_63 1 rfl) ?_
      refine hX_go 0 (31) [some (.ref 63), some (.int x0), some (.int x1), none] [.int (v_124_63 1)] (hMm c0 m_s m_kp m_as m_ik (f_124_63_m_fo 1 m_fo) m_tl m_tr m_fa m_od m_rc m_be m_ft m_tp m_td m_tk m_bg m_en m_vl m_sg m_wi m_si m_ce m_ca) rfl ?_
      have h := Option.some.inj h; subst h
      exact hX_end rfl rfl rfl
  · skip
    have h := gcF c1 h
    refine hX_goM 2 (11) [some (.ref 63), some (.int x0), some (.int x1), none] [.int 0, .ref 63] rfl ?_
    refine hX_call (r' := zR_124) rfl (ct_124_63 0 rfl) ?_
    refine hX_go 0 (14) [some (.ref 63), some (.int x0), some (.int x1), none] [.int (v_124_63 0)] (hMm c0 m_s m_kp m_as m_ik (f_124_63_m_fo 0 m_fo) m_tl m_tr m_fa m_od m_rc m_be m_ft m_tp m_td m_tk m_bg m_en m_vl m_sg m_wi m_si m_ce m_ca) rfl ?_
    have h := Option.some.inj h; subst h
    exact hX_end rfl rfl rfl


/-- UpOneSideModel.wipe()I -/
def me_198_63 (N : Nat) (m_td : Int32) : Option (Int32 × Int32) :=
  some (m_td, 0)
set_option maxRecDepth 20000 in
set_option maxHeartbeats 4000000 in
theorem mt_198_63 {LL : Nat} {xs : Nat → Int32} {D : Nat} {c0 : Nat → gE} {m_s : Nat → Int32} {m_kp : Nat → Int32} {m_as : Nat → Int32} {m_ik : Int32} {m_fo : Nat → Int32} {m_tl : Int32} {m_tr : Int32} {m_fa : Nat → Int32} {m_od : Nat → Int32} {m_rc : Int32} {m_be : Nat → Int32} {m_ft : Int32} {m_tp : Nat → Int32} {m_td : Int32} {m_tk : Int32} {m_bg : Int32} {m_en : Int32} {m_vl : Int64} {m_sg : Int32} {m_wi : Nat → Int32} {m_si : Nat → Int32} {m_ce : Nat → Int32} {m_ca : Nat → Int32} (N : Nat) (q : Int32 × Int32) (h : me_198_63 N m_td = some q) : hM (gO LL xs) (D + 0) zR_198 [.ref 63] (hMm c0 m_s m_kp m_as m_ik m_fo m_tl m_tr m_fa m_od m_rc m_be m_ft m_tp m_td m_tk m_bg m_en m_vl m_sg m_wi m_si m_ce m_ca) (some (.int q.1)) (hMm c0 m_s m_kp m_as m_ik m_fo m_tl m_tr m_fa m_od m_rc m_be m_ft m_tp q.2 m_tk m_bg m_en m_vl m_sg m_wi m_si m_ce m_ca) := by
  unfold me_198_63 at h
  refine hX_go 0 0 [some (.ref 63), none] [] (hMm c0 m_s m_kp m_as m_ik m_fo m_tl m_tr m_fa m_od m_rc m_be m_ft m_tp m_td m_tk m_bg m_en m_vl m_sg m_wi m_si m_ce m_ca) rfl ?_
  refine hX_go 7 (11) [some (.ref 63), some (.int m_td)] [.int m_td] (hMm c0 m_s m_kp m_as m_ik m_fo m_tl m_tr m_fa m_od m_rc m_be m_ft m_tp 0 m_tk m_bg m_en m_vl m_sg m_wi m_si m_ce m_ca) rfl ?_
  have h := Option.some.inj h; subst h
  exact hX_end rfl rfl rfl

/-- UpOneSideModel.isLetter(I)Z -/
def v_199 (x0 : Int32) : Int32 := v_125 x0 97 122
set_option maxRecDepth 20000 in
set_option maxHeartbeats 1000000 in
theorem ct_199 {LL : Nat} {xs : Nat → Int32} {D : Nat} {c0 : Nat → gE} {m_s : Nat → Int32} {m_kp : Nat → Int32} {m_as : Nat → Int32} {m_ik : Int32} {m_fo : Nat → Int32} {m_tl : Int32} {m_tr : Int32} {m_fa : Nat → Int32} {m_od : Nat → Int32} {m_rc : Int32} {m_be : Nat → Int32} {m_ft : Int32} {m_tp : Nat → Int32} {m_td : Int32} {m_tk : Int32} {m_bg : Int32} {m_en : Int32} {m_vl : Int64} {m_sg : Int32} {m_wi : Nat → Int32} {m_si : Nat → Int32} {m_ce : Nat → Int32} {m_ca : Nat → Int32} (x0 : Int32) : hM (gO LL xs) (D + 1) zR_199 [.int x0] (hMm c0 m_s m_kp m_as m_ik m_fo m_tl m_tr m_fa m_od m_rc m_be m_ft m_tp m_td m_tk m_bg m_en m_vl m_sg m_wi m_si m_ce m_ca) (some (.int (v_199 x0))) (hMm c0 m_s m_kp m_as m_ik m_fo m_tl m_tr m_fa m_od m_rc m_be m_ft m_tp m_td m_tk m_bg m_en m_vl m_sg m_wi m_si m_ce m_ca) := by
  refine hX_go 0 0 [some (.int x0)] [] (hMm c0 m_s m_kp m_as m_ik m_fo m_tl m_tr m_fa m_od m_rc m_be m_ft m_tp m_td m_tk m_bg m_en m_vl m_sg m_wi m_si m_ce m_ca) rfl ?_
  refine hX_go 3 (5) [some (.int x0)] [.int 122, .int 97, .int x0] (hMm c0 m_s m_kp m_as m_ik m_fo m_tl m_tr m_fa m_od m_rc m_be m_ft m_tp m_td m_tk m_bg m_en m_vl m_sg m_wi m_si m_ce m_ca) rfl ?_
  refine hX_call (r' := zR_125) rfl (ct_125 x0 97 122) ?_
  refine hX_goM 0 (8) [some (.int x0)] [.int (v_125 x0 97 122)] rfl ?_
  exact hX_endZ rfl (bz_125 x0 97 122) (rfl) (rfl)

theorem bz_199 (x0 : Int32) : (decide (v_199 x0 = 0) || decide (v_199 x0 = 1)) = true := by
  unfold v_199
  exact (bz_125 x0 97 122)

/-- UpOneSideModel.isDigit(I)Z -/
def v_200 (x0 : Int32) : Int32 := v_125 x0 48 57
set_option maxRecDepth 20000 in
set_option maxHeartbeats 1000000 in
theorem ct_200 {LL : Nat} {xs : Nat → Int32} {D : Nat} {c0 : Nat → gE} {m_s : Nat → Int32} {m_kp : Nat → Int32} {m_as : Nat → Int32} {m_ik : Int32} {m_fo : Nat → Int32} {m_tl : Int32} {m_tr : Int32} {m_fa : Nat → Int32} {m_od : Nat → Int32} {m_rc : Int32} {m_be : Nat → Int32} {m_ft : Int32} {m_tp : Nat → Int32} {m_td : Int32} {m_tk : Int32} {m_bg : Int32} {m_en : Int32} {m_vl : Int64} {m_sg : Int32} {m_wi : Nat → Int32} {m_si : Nat → Int32} {m_ce : Nat → Int32} {m_ca : Nat → Int32} (x0 : Int32) : hM (gO LL xs) (D + 1) zR_200 [.int x0] (hMm c0 m_s m_kp m_as m_ik m_fo m_tl m_tr m_fa m_od m_rc m_be m_ft m_tp m_td m_tk m_bg m_en m_vl m_sg m_wi m_si m_ce m_ca) (some (.int (v_200 x0))) (hMm c0 m_s m_kp m_as m_ik m_fo m_tl m_tr m_fa m_od m_rc m_be m_ft m_tp m_td m_tk m_bg m_en m_vl m_sg m_wi m_si m_ce m_ca) := by
  refine hX_go 0 0 [some (.int x0)] [] (hMm c0 m_s m_kp m_as m_ik m_fo m_tl m_tr m_fa m_od m_rc m_be m_ft m_tp m_td m_tk m_bg m_en m_vl m_sg m_wi m_si m_ce m_ca) rfl ?_
  refine hX_go 3 (5) [some (.int x0)] [.int 57, .int 48, .int x0] (hMm c0 m_s m_kp m_as m_ik m_fo m_tl m_tr m_fa m_od m_rc m_be m_ft m_tp m_td m_tk m_bg m_en m_vl m_sg m_wi m_si m_ce m_ca) rfl ?_
  refine hX_call (r' := zR_125) rfl (ct_125 x0 48 57) ?_
  refine hX_goM 0 (8) [some (.int x0)] [.int (v_125 x0 48 57)] rfl ?_
  exact hX_endZ rfl (bz_125 x0 48 57) (rfl) (rfl)

theorem bz_200 (x0 : Int32) : (decide (v_200 x0 = 0) || decide (v_200 x0 = 1)) = true := by
  unfold v_200
  exact (bz_125 x0 48 57)

/-- UpOneSideModel.nextToken: the loop at 8 -/
def lp_201_63_8 (N : Nat) (m_tp : Nat → Int32) (m_td : Int32) : Nat → Int32 → Option (Int32)
  | 0, _ => none
  | n + 1, m_bg =>
    (bif gCmp .ge m_bg m_td then
      some (m_bg)
    else
      (bif gIn m_bg 120 then (bif gCmp .ne (m_tp (Int32.toNatClampNeg m_bg)) 32 then
        some (m_bg)
      else
        lp_201_63_8 N m_tp m_td n (m_bg + 1)) else none))
set_option maxRecDepth 20000 in
set_option maxHeartbeats 4000000 in
theorem lt_201_63_8 {LL : Nat} {xs : Nat → Int32} {D N : Nat} {c0 : Nat → gE} {m_s : Nat → Int32} {m_kp : Nat → Int32} {m_as : Nat → Int32} {m_ik : Int32} {m_fo : Nat → Int32} {m_tl : Int32} {m_tr : Int32} {m_fa : Nat → Int32} {m_od : Nat → Int32} {m_rc : Int32} {m_be : Nat → Int32} {m_ft : Int32} {m_tp : Nat → Int32} {m_td : Int32} {m_tk : Int32}  {m_en : Int32} {m_vl : Int64} {m_sg : Int32} {m_wi : Nat → Int32} {m_si : Nat → Int32} {m_ce : Nat → Int32} {m_ca : Nat → Int32} {v : Option Value} {M' : List gE} : ∀ (n : Nat) (m_bg : Int32) (q : Int32), lp_201_63_8 N m_tp m_td n m_bg = some q → (kk : hX (gO LL xs) (D + 2) zR_201 46 [some (.ref 63)] [] (hMm c0 m_s m_kp m_as m_ik m_fo m_tl m_tr m_fa m_od m_rc m_be m_ft m_tp m_td m_tk q m_en m_vl m_sg m_wi m_si m_ce m_ca) v M') → hX (gO LL xs) (D + 2) zR_201 8 [some (.ref 63)] [] (hMm c0 m_s m_kp m_as m_ik m_fo m_tl m_tr m_fa m_od m_rc m_be m_ft m_tp m_td m_tk m_bg m_en m_vl m_sg m_wi m_si m_ce m_ca) v M' := by
  intro n
  induction n with
  | zero => intro m_bg q h; cases h
  | succ n ih =>
    intro m_bg q h kk
    rw [lp_201_63_8] at h
    refine hX_go 5 (bif gCmp .ge m_bg m_td then 46 else 19) [some (.ref 63)] [] (hMm c0 m_s m_kp m_as m_ik m_fo m_tl m_tr m_fa m_od m_rc m_be m_ft m_tp m_td m_tk m_bg m_en m_vl m_sg m_wi m_si m_ce m_ca) rfl ?_
    refine hX_if (gCmp .ge m_bg m_td) (fun c1 => ?_) (fun c1 => ?_)
    · skip
      have h := gcT c1 h
      have h := Option.some.inj h; subst h
      exact kk
    · skip
      have h := gcF c1 h
      refine hX_goM 4 (27) [some (.ref 63)] [.int m_bg, .ref 71] rfl ?_
      revert h; refine gCondR fun g2 h => ?_
      refine hX_gM (gIn m_bg 120) 28 [some (.ref 63)] [.int (m_tp (Int32.toNatClampNeg m_bg))] rfl g2 ?_
      refine hX_goM 2 (bif gCmp .ne (m_tp (Int32.toNatClampNeg m_bg)) 32 then 46 else 33) [some (.ref 63)] [] rfl ?_
      refine hX_if (gCmp .ne (m_tp (Int32.toNatClampNeg m_bg)) 32) (fun c3 => ?_) (fun c3 => ?_)
      · skip
        have h := gcT c3 h
        have h := Option.some.inj h; subst h
        exact kk
      · skip
        have h := gcF c3 h
        refine hX_go 7 (8) [some (.ref 63)] [] (hMm c0 m_s m_kp m_as m_ik m_fo m_tl m_tr m_fa m_od m_rc m_be m_ft m_tp m_td m_tk (m_bg + 1) m_en m_vl m_sg m_wi m_si m_ce m_ca) rfl ?_
        exact ih (m_bg + 1) q h kk

/-- UpOneSideModel.nextToken: the loop at 197 -/
def lp_201_63_197 (N : Nat) (m_tp : Nat → Int32) (m_td : Int32) : Nat → Int32 → Int64 → Option (Int32 × Int64)
  | 0, _, _ => none
  | n + 1, m_en, m_vl =>
    (bif gCmp .ge m_en m_td then
      some (m_en, m_vl)
    else
      (bif gIn m_en 120 then (bif gCmp .eq (v_200 (m_tp (Int32.toNatClampNeg m_en))) 0 then
        some (m_en, m_vl)
      else
        (bif !(gCmp .le (lg_cmp m_vl 999) 0) || (gIn m_en 120) then lp_201_63_197 N m_tp m_td n (m_en + 1) (bif gCmp .le (lg_cmp m_vl 999) 0 then (((m_vl * 10) + (Int32.toInt64 (m_tp (Int32.toNatClampNeg m_en)))) - 48) else m_vl) else none)) else none))
set_option maxRecDepth 20000 in
set_option maxHeartbeats 4000000 in
theorem lt_201_63_197 {LL : Nat} {xs : Nat → Int32} {D N : Nat} {c0 : Nat → gE} {m_s : Nat → Int32} {m_kp : Nat → Int32} {m_as : Nat → Int32} {m_ik : Int32} {m_fo : Nat → Int32} {m_tl : Int32} {m_tr : Int32} {m_fa : Nat → Int32} {m_od : Nat → Int32} {m_rc : Int32} {m_be : Nat → Int32} {m_ft : Int32} {m_tp : Nat → Int32} {m_td : Int32} {m_tk : Int32} {m_bg : Int32}   {m_sg : Int32} {m_wi : Nat → Int32} {m_si : Nat → Int32} {m_ce : Nat → Int32} {m_ca : Nat → Int32} {v : Option Value} {M' : List gE} : ∀ (n : Nat) (m_en : Int32) (m_vl : Int64) (q : Int32 × Int64), lp_201_63_197 N m_tp m_td n m_en m_vl = some q → (kk : hX (gO LL xs) (D + 2) zR_201 281 [some (.ref 63)] [] (hMm c0 m_s m_kp m_as m_ik m_fo m_tl m_tr m_fa m_od m_rc m_be m_ft m_tp m_td m_tk m_bg q.1 q.2 m_sg m_wi m_si m_ce m_ca) v M') → hX (gO LL xs) (D + 2) zR_201 197 [some (.ref 63)] [] (hMm c0 m_s m_kp m_as m_ik m_fo m_tl m_tr m_fa m_od m_rc m_be m_ft m_tp m_td m_tk m_bg m_en m_vl m_sg m_wi m_si m_ce m_ca) v M' := by
  intro n
  induction n with
  | zero => intro m_en m_vl q h; cases h
  | succ n ih =>
    intro m_en m_vl q h kk
    rw [lp_201_63_197] at h
    refine hX_go 5 (bif gCmp .ge m_en m_td then 281 else 208) [some (.ref 63)] [] (hMm c0 m_s m_kp m_as m_ik m_fo m_tl m_tr m_fa m_od m_rc m_be m_ft m_tp m_td m_tk m_bg m_en m_vl m_sg m_wi m_si m_ce m_ca) rfl ?_
    refine hX_if (gCmp .ge m_en m_td) (fun c1 => ?_) (fun c1 => ?_)
    · skip
      have h := gcT c1 h
      have h := Option.some.inj h; subst h
      exact kk
    · skip
      have h := gcF c1 h
      refine hX_goM 4 (216) [some (.ref 63)] [.int m_en, .ref 71] rfl ?_
      revert h; refine gCondR fun g2 h => ?_
      refine hX_gM (gIn m_en 120) 217 [some (.ref 63)] [.int (m_tp (Int32.toNatClampNeg m_en))] rfl g2 ?_
      refine hX_call (r' := zR_200) rfl (ct_200 (m_tp (Int32.toNatClampNeg m_en))) ?_
      refine hX_goM 1 (bif gCmp .eq (v_200 (m_tp (Int32.toNatClampNeg m_en))) 0 then 281 else 223) [some (.ref 63)] [] rfl ?_
      refine hX_if (gCmp .eq (v_200 (m_tp (Int32.toNatClampNeg m_en))) 0) (fun c3 => ?_) (fun c3 => ?_)
      · skip
        have h := gcT c3 h
        have h := Option.some.inj h; subst h
        exact kk
      · skip
        have h := gcF c3 h
        refine hX_goM 6 (bif gCmp .le (lg_cmp m_vl 999) 0 then 242 else 235) [some (.ref 63)] [.ref 63] rfl ?_
        revert h; refine gCondR fun o5 h => ?_
        refine hX_mrg 265 [some (.ref 63)] [.long (bif gCmp .le (lg_cmp m_vl 999) 0 then (((m_vl * 10) + (Int32.toInt64 (m_tp (Int32.toNatClampNeg m_en)))) - 48) else m_vl), .ref 63] (hMm c0 m_s m_kp m_as m_ik m_fo m_tl m_tr m_fa m_od m_rc m_be m_ft m_tp m_td m_tk m_bg m_en m_vl m_sg m_wi m_si m_ce m_ca) (fun hk => ?_) ?_
        · skip
          refine hX_if (gCmp .le (lg_cmp m_vl 999) 0) (fun c6 => ?_) (fun c6 => ?_)
          · skip
            refine hX_goM 8 (258) [some (.ref 63)] [.int m_en, .ref 71, .long (m_vl * 10), .ref 63] rfl ?_
            refine hX_gM (gIn m_en 120) 259 [some (.ref 63)] [.int (m_tp (Int32.toNatClampNeg m_en)), .long (m_vl * 10), .ref 63] rfl (gImpT o5 c6) ?_
            refine hX_goM 4 (265) [some (.ref 63)] [.long (((m_vl * 10) + (Int32.toInt64 (m_tp (Int32.toNatClampNeg m_en)))) - 48), .ref 63] rfl ?_
            have hk := hk
            simp only [c6, cond_true, cond_false] at hk
            first | exact hk | (simp only [c6, cond_true, cond_false]; exact hk)
          · skip
            refine hX_goM 3 (265) [some (.ref 63)] [.long m_vl, .ref 63] rfl ?_
            have hk := hk
            simp only [c6, cond_true, cond_false] at hk
            first | exact hk | (simp only [c6, cond_true, cond_false]; exact hk)
        refine hX_go 8 (197) [some (.ref 63)] [] (hMm c0 m_s m_kp m_as m_ik m_fo m_tl m_tr m_fa m_od m_rc m_be m_ft m_tp m_td m_tk m_bg (m_en + 1) (bif gCmp .le (lg_cmp m_vl 999) 0 then (((m_vl * 10) + (Int32.toInt64 (m_tp (Int32.toNatClampNeg m_en)))) - 48) else m_vl) m_sg m_wi m_si m_ce m_ca) rfl ?_
        exact ih (m_en + 1) (bif gCmp .le (lg_cmp m_vl 999) 0 then (((m_vl * 10) + (Int32.toInt64 (m_tp (Int32.toNatClampNeg m_en)))) - 48) else m_vl) q h kk

/-- UpOneSideModel.nextToken: the loop at 98 -/
def lp_201_63_98 (N : Nat) (m_tp : Nat → Int32) (m_td : Int32) : Nat → Int32 → Int64 → Option (Int32 × Int64)
  | 0, _, _ => none
  | n + 1, m_en, m_vl =>
    (bif gCmp .ge m_en m_td then
      some (m_en, m_vl)
    else
      (bif gIn m_en 120 then (bif gCmp .eq (v_199 (m_tp (Int32.toNatClampNeg m_en))) 0 then
        some (m_en, m_vl)
      else
        (bif !(gCmp .le (lg_cmp m_vl 9999999999999) 0) || (gIn m_en 120) then lp_201_63_98 N m_tp m_td n (m_en + 1) (bif gCmp .le (lg_cmp m_vl 9999999999999) 0 then (((m_vl * 27) + (Int32.toInt64 (m_tp (Int32.toNatClampNeg m_en)))) - 96) else m_vl) else none)) else none))
set_option maxRecDepth 20000 in
set_option maxHeartbeats 4000000 in
theorem lt_201_63_98 {LL : Nat} {xs : Nat → Int32} {D N : Nat} {c0 : Nat → gE} {m_s : Nat → Int32} {m_kp : Nat → Int32} {m_as : Nat → Int32} {m_ik : Int32} {m_fo : Nat → Int32} {m_tl : Int32} {m_tr : Int32} {m_fa : Nat → Int32} {m_od : Nat → Int32} {m_rc : Int32} {m_be : Nat → Int32} {m_ft : Int32} {m_tp : Nat → Int32} {m_td : Int32} {m_tk : Int32} {m_bg : Int32}   {m_sg : Int32} {m_wi : Nat → Int32} {m_si : Nat → Int32} {m_ce : Nat → Int32} {m_ca : Nat → Int32} {v : Option Value} {M' : List gE} : ∀ (n : Nat) (m_en : Int32) (m_vl : Int64) (q : Int32 × Int64), lp_201_63_98 N m_tp m_td n m_en m_vl = some q → (kk : hX (gO LL xs) (D + 2) zR_201 355 [some (.ref 63)] [] (hMm c0 m_s m_kp m_as m_ik m_fo m_tl m_tr m_fa m_od m_rc m_be m_ft m_tp m_td m_tk m_bg q.1 q.2 m_sg m_wi m_si m_ce m_ca) v M') → hX (gO LL xs) (D + 2) zR_201 98 [some (.ref 63)] [] (hMm c0 m_s m_kp m_as m_ik m_fo m_tl m_tr m_fa m_od m_rc m_be m_ft m_tp m_td m_tk m_bg m_en m_vl m_sg m_wi m_si m_ce m_ca) v M' := by
  intro n
  induction n with
  | zero => intro m_en m_vl q h; cases h
  | succ n ih =>
    intro m_en m_vl q h kk
    rw [lp_201_63_98] at h
    refine hX_go 5 (bif gCmp .ge m_en m_td then 355 else 109) [some (.ref 63)] [] (hMm c0 m_s m_kp m_as m_ik m_fo m_tl m_tr m_fa m_od m_rc m_be m_ft m_tp m_td m_tk m_bg m_en m_vl m_sg m_wi m_si m_ce m_ca) rfl ?_
    refine hX_if (gCmp .ge m_en m_td) (fun c1 => ?_) (fun c1 => ?_)
    · skip
      have h := gcT c1 h
      have h := Option.some.inj h; subst h
      exact kk
    · skip
      have h := gcF c1 h
      refine hX_goM 4 (117) [some (.ref 63)] [.int m_en, .ref 71] rfl ?_
      revert h; refine gCondR fun g2 h => ?_
      refine hX_gM (gIn m_en 120) 118 [some (.ref 63)] [.int (m_tp (Int32.toNatClampNeg m_en))] rfl g2 ?_
      refine hX_call (r' := zR_199) rfl (ct_199 (m_tp (Int32.toNatClampNeg m_en))) ?_
      refine hX_goM 1 (bif gCmp .eq (v_199 (m_tp (Int32.toNatClampNeg m_en))) 0 then 355 else 124) [some (.ref 63)] [] rfl ?_
      refine hX_if (gCmp .eq (v_199 (m_tp (Int32.toNatClampNeg m_en))) 0) (fun c3 => ?_) (fun c3 => ?_)
      · skip
        have h := gcT c3 h
        have h := Option.some.inj h; subst h
        exact kk
      · skip
        have h := gcF c3 h
        refine hX_goM 6 (bif gCmp .le (lg_cmp m_vl 9999999999999) 0 then 143 else 136) [some (.ref 63)] [.ref 63] rfl ?_
        revert h; refine gCondR fun o5 h => ?_
        refine hX_mrg 166 [some (.ref 63)] [.long (bif gCmp .le (lg_cmp m_vl 9999999999999) 0 then (((m_vl * 27) + (Int32.toInt64 (m_tp (Int32.toNatClampNeg m_en)))) - 96) else m_vl), .ref 63] (hMm c0 m_s m_kp m_as m_ik m_fo m_tl m_tr m_fa m_od m_rc m_be m_ft m_tp m_td m_tk m_bg m_en m_vl m_sg m_wi m_si m_ce m_ca) (fun hk => ?_) ?_
        · skip
          refine hX_if (gCmp .le (lg_cmp m_vl 9999999999999) 0) (fun c6 => ?_) (fun c6 => ?_)
          · skip
            refine hX_goM 8 (159) [some (.ref 63)] [.int m_en, .ref 71, .long (m_vl * 27), .ref 63] rfl ?_
            refine hX_gM (gIn m_en 120) 160 [some (.ref 63)] [.int (m_tp (Int32.toNatClampNeg m_en)), .long (m_vl * 27), .ref 63] rfl (gImpT o5 c6) ?_
            refine hX_goM 4 (166) [some (.ref 63)] [.long (((m_vl * 27) + (Int32.toInt64 (m_tp (Int32.toNatClampNeg m_en)))) - 96), .ref 63] rfl ?_
            have hk := hk
            simp only [c6, cond_true, cond_false] at hk
            first | exact hk | (simp only [c6, cond_true, cond_false]; exact hk)
          · skip
            refine hX_goM 3 (166) [some (.ref 63)] [.long m_vl, .ref 63] rfl ?_
            have hk := hk
            simp only [c6, cond_true, cond_false] at hk
            first | exact hk | (simp only [c6, cond_true, cond_false]; exact hk)
        refine hX_go 8 (98) [some (.ref 63)] [] (hMm c0 m_s m_kp m_as m_ik m_fo m_tl m_tr m_fa m_od m_rc m_be m_ft m_tp m_td m_tk m_bg (m_en + 1) (bif gCmp .le (lg_cmp m_vl 9999999999999) 0 then (((m_vl * 27) + (Int32.toInt64 (m_tp (Int32.toNatClampNeg m_en)))) - 96) else m_vl) m_sg m_wi m_si m_ce m_ca) rfl ?_
        exact ih (m_en + 1) (bif gCmp .le (lg_cmp m_vl 9999999999999) 0 then (((m_vl * 27) + (Int32.toInt64 (m_tp (Int32.toNatClampNeg m_en)))) - 96) else m_vl) q h kk

/-- UpOneSideModel.nextToken()V -/
def me_201_63 (N : Nat) (m_tp : Nat → Int32) (m_td : Int32) (m_en : Int32) : Option (Int32 × Int32 × Int32 × Int64) :=
  (Option.bind (lp_201_63_8 N m_tp m_td N m_en) fun q1 =>
  (bif gCmp .ne q1 m_td then
    (bif gIn q1 120 then (bif gCmp .eq (v_199 (m_tp (Int32.toNatClampNeg q1))) 0 then
      (bif gIn q1 120 then (bif gCmp .eq (v_200 (m_tp (Int32.toNatClampNeg q1))) 0 then
        (bif gIn q1 120 then (bif !(gCmp .ne (m_tp (Int32.toNatClampNeg q1)) 59) || (gIn q1 120) then some (bif gCmp .ne (m_tp (Int32.toNatClampNeg q1)) 59 then (bif gCmp .ne (m_tp (Int32.toNatClampNeg q1)) 45 then 4 else 5) else 3, q1, q1 + 1, 0) else none) else none)
      else
        (Option.bind (lp_201_63_197 N m_tp m_td N q1 0) fun q13 =>
        some (bif gCmp .le (lg_cmp q13.2 999) 0 then 2 else 4, q1, q13.1, q13.2))) else none)
    else
      (Option.bind (lp_201_63_98 N m_tp m_td N q1 0) fun q16 =>
      some (1, q1, q16.1, q16.2))) else none)
  else
    some (0, q1, q1, 0)))
set_option maxRecDepth 20000 in
set_option maxHeartbeats 4000000 in
theorem mt_201_63 {LL : Nat} {xs : Nat → Int32} {D : Nat} {c0 : Nat → gE} {m_s : Nat → Int32} {m_kp : Nat → Int32} {m_as : Nat → Int32} {m_ik : Int32} {m_fo : Nat → Int32} {m_tl : Int32} {m_tr : Int32} {m_fa : Nat → Int32} {m_od : Nat → Int32} {m_rc : Int32} {m_be : Nat → Int32} {m_ft : Int32} {m_tp : Nat → Int32} {m_td : Int32} {m_tk : Int32} {m_bg : Int32} {m_en : Int32} {m_vl : Int64} {m_sg : Int32} {m_wi : Nat → Int32} {m_si : Nat → Int32} {m_ce : Nat → Int32} {m_ca : Nat → Int32} (N : Nat) (q : Int32 × Int32 × Int32 × Int64) (h : me_201_63 N m_tp m_td m_en = some q) : hM (gO LL xs) (D + 2) zR_201 [.ref 63] (hMm c0 m_s m_kp m_as m_ik m_fo m_tl m_tr m_fa m_od m_rc m_be m_ft m_tp m_td m_tk m_bg m_en m_vl m_sg m_wi m_si m_ce m_ca) none (hMm c0 m_s m_kp m_as m_ik m_fo m_tl m_tr m_fa m_od m_rc m_be m_ft m_tp m_td q.1 q.2.1 q.2.2.1 q.2.2.2 m_sg m_wi m_si m_ce m_ca) := by
  unfold me_201_63 at h
  refine hX_go 0 0 [some (.ref 63)] [] (hMm c0 m_s m_kp m_as m_ik m_fo m_tl m_tr m_fa m_od m_rc m_be m_ft m_tp m_td m_tk m_bg m_en m_vl m_sg m_wi m_si m_ce m_ca) rfl ?_
  refine hX_go 4 (8) [some (.ref 63)] [] (hMm c0 m_s m_kp m_as m_ik m_fo m_tl m_tr m_fa m_od m_rc m_be m_ft m_tp m_td m_tk m_en m_en m_vl m_sg m_wi m_si m_ce m_ca) rfl ?_
  revert h; refine gBindR fun q1 e1 h => ?_
  refine lt_201_63_8 N m_en q1 e1 ?_
  refine hX_go 9 (63) [some (.ref 63)] [.int q1] (hMm c0 m_s m_kp m_as m_ik m_fo m_tl m_tr m_fa m_od m_rc m_be m_ft m_tp m_td m_tk q1 q1 0 m_sg m_wi m_si m_ce m_ca) rfl ?_
  refine hX_goM 3 (bif gCmp .ne q1 m_td then 78 else 70) [some (.ref 63)] [] rfl ?_
  refine hX_if (gCmp .ne q1 m_td) (fun c2 => ?_) (fun c2 => ?_)
  · skip
    have h := gcT c2 h
    refine hX_goM 4 (86) [some (.ref 63)] [.int q1, .ref 71] rfl ?_
    revert h; refine gCondR fun g3 h => ?_
    refine hX_gM (gIn q1 120) 87 [some (.ref 63)] [.int (m_tp (Int32.toNatClampNeg q1))] rfl g3 ?_
    refine hX_call (r' := zR_199) rfl (ct_199 (m_tp (Int32.toNatClampNeg q1))) ?_
    refine hX_goM 1 (bif gCmp .eq (v_199 (m_tp (Int32.toNatClampNeg q1))) 0 then 182 else 93) [some (.ref 63)] [] rfl ?_
    refine hX_if (gCmp .eq (v_199 (m_tp (Int32.toNatClampNeg q1))) 0) (fun c4 => ?_) (fun c4 => ?_)
    · skip
      have h := gcT c4 h
      refine hX_goM 4 (190) [some (.ref 63)] [.int q1, .ref 71] rfl ?_
      revert h; refine gCondR fun g5 h => ?_
      refine hX_gM (gIn q1 120) 191 [some (.ref 63)] [.int (m_tp (Int32.toNatClampNeg q1))] rfl g5 ?_
      refine hX_call (r' := zR_200) rfl (ct_200 (m_tp (Int32.toNatClampNeg q1))) ?_
      refine hX_goM 1 (bif gCmp .eq (v_200 (m_tp (Int32.toNatClampNeg q1))) 0 then 304 else 197) [some (.ref 63)] [] rfl ?_
      refine hX_if (gCmp .eq (v_200 (m_tp (Int32.toNatClampNeg q1))) 0) (fun c6 => ?_) (fun c6 => ?_)
      · skip
        have h := gcT c6 h
        refine hX_goM 5 (313) [some (.ref 63)] [.int q1, .ref 71, .ref 63] rfl ?_
        revert h; refine gCondR fun g7 h => ?_
        refine hX_gM (gIn q1 120) 314 [some (.ref 63)] [.int (m_tp (Int32.toNatClampNeg q1)), .ref 63] rfl g7 ?_
        refine hX_goM 2 (bif gCmp .ne (m_tp (Int32.toNatClampNeg q1)) 59 then 323 else 319) [some (.ref 63)] [.ref 63] rfl ?_
        revert h; refine gCondR fun o9 h => ?_
        refine hX_mrg 342 [some (.ref 63)] [.int (bif gCmp .ne (m_tp (Int32.toNatClampNeg q1)) 59 then (bif gCmp .ne (m_tp (Int32.toNatClampNeg q1)) 45 then 4 else 5) else 3), .ref 63] (hMm c0 m_s m_kp m_as m_ik m_fo m_tl m_tr m_fa m_od m_rc m_be m_ft m_tp m_td m_tk q1 q1 0 m_sg m_wi m_si m_ce m_ca) (fun hk => ?_) ?_
        · skip
          refine hX_if (gCmp .ne (m_tp (Int32.toNatClampNeg q1)) 59) (fun c11 => ?_) (fun c11 => ?_)
          · skip
            refine hX_goM 4 (331) [some (.ref 63)] [.int q1, .ref 71, .ref 63] rfl ?_
            refine hX_gM (gIn q1 120) 332 [some (.ref 63)] [.int (m_tp (Int32.toNatClampNeg q1)), .ref 63] rfl (gImpT o9 c11) ?_
            refine hX_goM 2 (bif gCmp .ne (m_tp (Int32.toNatClampNeg q1)) 45 then 341 else 337) [some (.ref 63)] [.ref 63] rfl ?_
            refine hX_if (gCmp .ne (m_tp (Int32.toNatClampNeg q1)) 45) (fun c12 => ?_) (fun c12 => ?_)
            · skip
              refine hX_goM 1 (342) [some (.ref 63)] [.int 4, .ref 63] rfl ?_
              have hk := hk
              simp only [c11, c12, cond_true, cond_false] at hk
              first | exact hk | (simp only [c11, c12, cond_true, cond_false]; exact hk)
            · skip
              refine hX_goM 2 (342) [some (.ref 63)] [.int 5, .ref 63] rfl ?_
              have hk := hk
              simp only [c11, c12, cond_true, cond_false] at hk
              first | exact hk | (simp only [c11, c12, cond_true, cond_false]; exact hk)
          · skip
            refine hX_goM 2 (342) [some (.ref 63)] [.int 3, .ref 63] rfl ?_
            have hk := hk
            simp only [c11, cond_true, cond_false] at hk
            first | exact hk | (simp only [c11, cond_true, cond_false]; exact hk)
        refine hX_go 7 (355) [some (.ref 63)] [] (hMm c0 m_s m_kp m_as m_ik m_fo m_tl m_tr m_fa m_od m_rc m_be m_ft m_tp m_td (bif gCmp .ne (m_tp (Int32.toNatClampNeg q1)) 59 then (bif gCmp .ne (m_tp (Int32.toNatClampNeg q1)) 45 then 4 else 5) else 3) q1 (q1 + 1) 0 m_sg m_wi m_si m_ce m_ca) rfl ?_
        have h := Option.some.inj h; subst h
        exact hX_end rfl rfl rfl
      · skip
        have h := gcF c6 h
        revert h; refine gBindR fun q13 e13 h => ?_
        refine lt_201_63_197 N q1 0 q13 e13 ?_
        refine hX_go 6 (bif gCmp .le (lg_cmp q13.2 999) 0 then 297 else 293) [some (.ref 63)] [.ref 63] (hMm c0 m_s m_kp m_as m_ik m_fo m_tl m_tr m_fa m_od m_rc m_be m_ft m_tp m_td m_tk q1 q13.1 q13.2 m_sg m_wi m_si m_ce m_ca) rfl ?_
        refine hX_mrg 298 [some (.ref 63)] [.int (bif gCmp .le (lg_cmp q13.2 999) 0 then 2 else 4), .ref 63] (hMm c0 m_s m_kp m_as m_ik m_fo m_tl m_tr m_fa m_od m_rc m_be m_ft m_tp m_td m_tk q1 q13.1 q13.2 m_sg m_wi m_si m_ce m_ca) (fun hk => ?_) ?_
        · skip
          refine hX_if (gCmp .le (lg_cmp q13.2 999) 0) (fun c15 => ?_) (fun c15 => ?_)
          · skip
            refine hX_goM 1 (298) [some (.ref 63)] [.int 2, .ref 63] rfl ?_
            have hk := hk
            simp only [c15, cond_true, cond_false] at hk
            first | exact hk | (simp only [c15, cond_true, cond_false]; exact hk)
          · skip
            refine hX_goM 2 (298) [some (.ref 63)] [.int 4, .ref 63] rfl ?_
            have hk := hk
            simp only [c15, cond_true, cond_false] at hk
            first | exact hk | (simp only [c15, cond_true, cond_false]; exact hk)
        refine hX_go 2 (355) [some (.ref 63)] [] (hMm c0 m_s m_kp m_as m_ik m_fo m_tl m_tr m_fa m_od m_rc m_be m_ft m_tp m_td (bif gCmp .le (lg_cmp q13.2 999) 0 then 2 else 4) q1 q13.1 q13.2 m_sg m_wi m_si m_ce m_ca) rfl ?_
        have h := Option.some.inj h; subst h
        exact hX_end rfl rfl rfl
    · skip
      have h := gcF c4 h
      refine hX_go 3 (98) [some (.ref 63)] [] (hMm c0 m_s m_kp m_as m_ik m_fo m_tl m_tr m_fa m_od m_rc m_be m_ft m_tp m_td 1 q1 q1 0 m_sg m_wi m_si m_ce m_ca) rfl ?_
      revert h; refine gBindR fun q16 e16 h => ?_
      refine lt_201_63_98 N q1 0 q16 e16 ?_
      refine hX_go 0 (355) [some (.ref 63)] [] (hMm c0 m_s m_kp m_as m_ik m_fo m_tl m_tr m_fa m_od m_rc m_be m_ft m_tp m_td 1 q1 q16.1 q16.2 m_sg m_wi m_si m_ce m_ca) rfl ?_
      have h := Option.some.inj h; subst h
      exact hX_end rfl rfl rfl
  · skip
    have h := gcF c2 h
    refine hX_go 4 (355) [some (.ref 63)] [] (hMm c0 m_s m_kp m_as m_ik m_fo m_tl m_tr m_fa m_od m_rc m_be m_ft m_tp m_td 0 q1 q1 0 m_sg m_wi m_si m_ce m_ca) rfl ?_
    have h := Option.some.inj h; subst h
    exact hX_end rfl rfl rfl


/-- UpOneSideModel.takesNumber(II)I -/
def me_203_63 (N : Nat) (x0 : Int32) (x1 : Int32) (m_tp : Nat → Int32) (m_td : Int32) (m_tk : Int32) (m_bg : Int32) (m_en : Int32) (m_vl : Int64) : Option (Int32 × Int32 × Int32 × Int32 × Int64) :=
  (bif gCmp .lt (bif gCmp .ne m_tk 2 then (-1) else (bif gCmp .eq (v_125 (Int64.toInt32 m_vl) x0 x1) 0 then (-1) else (Int64.toInt32 m_vl))) 0 then
    some (bif gCmp .ne m_tk 2 then (-1) else (bif gCmp .eq (v_125 (Int64.toInt32 m_vl) x0 x1) 0 then (-1) else (Int64.toInt32 m_vl)), m_tk, m_bg, m_en, m_vl)
  else
    (Option.bind (me_201_63 N m_tp m_td m_en) fun q6 =>
    some (bif gCmp .ne m_tk 2 then (-1) else (bif gCmp .eq (v_125 (Int64.toInt32 m_vl) x0 x1) 0 then (-1) else (Int64.toInt32 m_vl)), q6.1, q6.2.1, q6.2.2.1, q6.2.2.2)))
set_option maxRecDepth 20000 in
set_option maxHeartbeats 4000000 in
theorem mt_203_63 {LL : Nat} {xs : Nat → Int32} {D : Nat} {c0 : Nat → gE} {m_s : Nat → Int32} {m_kp : Nat → Int32} {m_as : Nat → Int32} {m_ik : Int32} {m_fo : Nat → Int32} {m_tl : Int32} {m_tr : Int32} {m_fa : Nat → Int32} {m_od : Nat → Int32} {m_rc : Int32} {m_be : Nat → Int32} {m_ft : Int32} {m_tp : Nat → Int32} {m_td : Int32} {m_tk : Int32} {m_bg : Int32} {m_en : Int32} {m_vl : Int64} {m_sg : Int32} {m_wi : Nat → Int32} {m_si : Nat → Int32} {m_ce : Nat → Int32} {m_ca : Nat → Int32} (N : Nat) (x0 : Int32) (x1 : Int32) (q : Int32 × Int32 × Int32 × Int32 × Int64) (h : me_203_63 N x0 x1 m_tp m_td m_tk m_bg m_en m_vl = some q) : hM (gO LL xs) (D + 3) zR_203 [.ref 63, .int x0, .int x1] (hMm c0 m_s m_kp m_as m_ik m_fo m_tl m_tr m_fa m_od m_rc m_be m_ft m_tp m_td m_tk m_bg m_en m_vl m_sg m_wi m_si m_ce m_ca) (some (.int q.1)) (hMm c0 m_s m_kp m_as m_ik m_fo m_tl m_tr m_fa m_od m_rc m_be m_ft m_tp m_td q.2.1 q.2.2.1 q.2.2.2.1 q.2.2.2.2 m_sg m_wi m_si m_ce m_ca) := by
  unfold me_203_63 at h
  refine hX_go 0 0 [some (.ref 63), some (.int x0), some (.int x1), none] [] (hMm c0 m_s m_kp m_as m_ik m_fo m_tl m_tr m_fa m_od m_rc m_be m_ft m_tp m_td m_tk m_bg m_en m_vl m_sg m_wi m_si m_ce m_ca) rfl ?_
  refine hX_go 4 (bif gCmp .ne m_tk 2 then 29 else 8) [some (.ref 63), some (.int x0), some (.int x1), none] [] (hMm c0 m_s m_kp m_as m_ik m_fo m_tl m_tr m_fa m_od m_rc m_be m_ft m_tp m_td m_tk m_bg m_en m_vl m_sg m_wi m_si m_ce m_ca) rfl ?_
  refine hX_mrg 30 [some (.ref 63), some (.int x0), some (.int x1), none] [.int (bif gCmp .ne m_tk 2 then (-1) else (bif gCmp .eq (v_125 (Int64.toInt32 m_vl) x0 x1) 0 then (-1) else (Int64.toInt32 m_vl)))] (hMm c0 m_s m_kp m_as m_ik m_fo m_tl m_tr m_fa m_od m_rc m_be m_ft m_tp m_td m_tk m_bg m_en m_vl m_sg m_wi m_si m_ce m_ca) (fun hk => ?_) ?_
  · skip
    refine hX_if (gCmp .ne m_tk 2) (fun c3 => ?_) (fun c3 => ?_)
    · skip
      refine hX_goM 1 (30) [some (.ref 63), some (.int x0), some (.int x1), none] [.int (-1)] rfl ?_
      have hk := hk
      simp only [c3, cond_true, cond_false] at hk
      first | exact hk | (simp only [c3, cond_true, cond_false]; exact hk)
    · skip
      refine hX_goM 5 (15) [some (.ref 63), some (.int x0), some (.int x1), none] [.int x1, .int x0, .int (Int64.toInt32 m_vl)] rfl ?_
      refine hX_call (r' := zR_125) rfl (ct_125 (Int64.toInt32 m_vl) x0 x1) ?_
      refine hX_goM 1 (bif gCmp .eq (v_125 (Int64.toInt32 m_vl) x0 x1) 0 then 29 else 21) [some (.ref 63), some (.int x0), some (.int x1), none] [] rfl ?_
      refine hX_if (gCmp .eq (v_125 (Int64.toInt32 m_vl) x0 x1) 0) (fun c4 => ?_) (fun c4 => ?_)
      · skip
        refine hX_goM 1 (30) [some (.ref 63), some (.int x0), some (.int x1), none] [.int (-1)] rfl ?_
        have hk := hk
        simp only [c3, c4, cond_true, cond_false] at hk
        first | exact hk | (simp only [c3, c4, cond_true, cond_false]; exact hk)
      · skip
        refine hX_goM 4 (30) [some (.ref 63), some (.int x0), some (.int x1), none] [.int (Int64.toInt32 m_vl)] rfl ?_
        have hk := hk
        simp only [c3, c4, cond_true, cond_false] at hk
        first | exact hk | (simp only [c3, c4, cond_true, cond_false]; exact hk)
  refine hX_goM 3 (bif gCmp .lt (bif gCmp .ne m_tk 2 then (-1) else (bif gCmp .eq (v_125 (Int64.toInt32 m_vl) x0 x1) 0 then (-1) else (Int64.toInt32 m_vl))) 0 then 39 else 35) [some (.ref 63), some (.int x0), some (.int x1), some (.int (bif gCmp .ne m_tk 2 then (-1) else (bif gCmp .eq (v_125 (Int64.toInt32 m_vl) x0 x1) 0 then (-1) else (Int64.toInt32 m_vl))))] [] rfl ?_
  refine hX_if (gCmp .lt (bif gCmp .ne m_tk 2 then (-1) else (bif gCmp .eq (v_125 (Int64.toInt32 m_vl) x0 x1) 0 then (-1) else (Int64.toInt32 m_vl))) 0) (fun c5 => ?_) (fun c5 => ?_)
  · skip
    have h := gcT c5 h
    refine hX_goM 1 (40) [some (.ref 63), some (.int x0), some (.int x1), some (.int (bif gCmp .ne m_tk 2 then (-1) else (bif gCmp .eq (v_125 (Int64.toInt32 m_vl) x0 x1) 0 then (-1) else (Int64.toInt32 m_vl))))] [.int (bif gCmp .ne m_tk 2 then (-1) else (bif gCmp .eq (v_125 (Int64.toInt32 m_vl) x0 x1) 0 then (-1) else (Int64.toInt32 m_vl)))] rfl ?_
    have h := Option.some.inj h; subst h
    exact hX_end rfl rfl rfl
  · skip
    have h := gcF c5 h
    refine hX_goM 1 (36) [some (.ref 63), some (.int x0), some (.int x1), some (.int (bif gCmp .ne m_tk 2 then (-1) else (bif gCmp .eq (v_125 (Int64.toInt32 m_vl) x0 x1) 0 then (-1) else (Int64.toInt32 m_vl))))] [.ref 63] rfl ?_
    revert h; refine gBindR fun q6 e6 h => ?_
    refine hX_call (r' := zR_201) rfl (mt_201_63 N q6 e6) ?_
    refine hX_go 1 (40) [some (.ref 63), some (.int x0), some (.int x1), some (.int (bif gCmp .ne m_tk 2 then (-1) else (bif gCmp .eq (v_125 (Int64.toInt32 m_vl) x0 x1) 0 then (-1) else (Int64.toInt32 m_vl))))] [.int (bif gCmp .ne m_tk 2 then (-1) else (bif gCmp .eq (v_125 (Int64.toInt32 m_vl) x0 x1) 0 then (-1) else (Int64.toInt32 m_vl)))] (hMm c0 m_s m_kp m_as m_ik m_fo m_tl m_tr m_fa m_od m_rc m_be m_ft m_tp m_td q6.1 q6.2.1 q6.2.2.1 q6.2.2.2 m_sg m_wi m_si m_ce m_ca) rfl ?_
    have h := Option.some.inj h; subst h
    exact hX_end rfl rfl rfl


/-- UpOneSideModel.takesSigned(I)Z -/
def me_204_63 (N : Nat) (x0 : Int32) (m_tp : Nat → Int32) (m_td : Int32) (m_tk : Int32) (m_bg : Int32) (m_en : Int32) (m_vl : Int64) : Option (Int32 × Int32 × Int32 × Int32 × Int64 × Int32) :=
  (bif gCmp .eq (bif gCmp .ne m_tk 5 then 0 else 1) 0 then
    (Option.bind (me_203_63 N 0 x0 m_tp m_td m_tk m_bg m_en m_vl) fun q4 =>
    (bif gCmp .lt q4.1 0 then
      some (0, q4.2.1, q4.2.2.1, q4.2.2.2.1, q4.2.2.2.2, bif gCmp .eq (bif gCmp .ne m_tk 5 then 0 else 1) 0 then q4.1 else (-q4.1))
    else
      some (1, q4.2.1, q4.2.2.1, q4.2.2.2.1, q4.2.2.2.2, bif gCmp .eq (bif gCmp .ne m_tk 5 then 0 else 1) 0 then q4.1 else (-q4.1))))
  else
    (Option.bind (me_201_63 N m_tp m_td m_en) fun q8 =>
    (Option.bind (me_203_63 N 0 x0 m_tp m_td q8.1 q8.2.1 q8.2.2.1 q8.2.2.2) fun q9 =>
    (bif gCmp .lt q9.1 0 then
      some (0, q9.2.1, q9.2.2.1, q9.2.2.2.1, q9.2.2.2.2, bif gCmp .eq (bif gCmp .ne m_tk 5 then 0 else 1) 0 then q9.1 else (-q9.1))
    else
      some (1, q9.2.1, q9.2.2.1, q9.2.2.2.1, q9.2.2.2.2, bif gCmp .eq (bif gCmp .ne m_tk 5 then 0 else 1) 0 then q9.1 else (-q9.1))))))
set_option maxRecDepth 20000 in
set_option maxHeartbeats 4000000 in
theorem mt_204_63 {LL : Nat} {xs : Nat → Int32} {D : Nat} {c0 : Nat → gE} {m_s : Nat → Int32} {m_kp : Nat → Int32} {m_as : Nat → Int32} {m_ik : Int32} {m_fo : Nat → Int32} {m_tl : Int32} {m_tr : Int32} {m_fa : Nat → Int32} {m_od : Nat → Int32} {m_rc : Int32} {m_be : Nat → Int32} {m_ft : Int32} {m_tp : Nat → Int32} {m_td : Int32} {m_tk : Int32} {m_bg : Int32} {m_en : Int32} {m_vl : Int64} {m_sg : Int32} {m_wi : Nat → Int32} {m_si : Nat → Int32} {m_ce : Nat → Int32} {m_ca : Nat → Int32} (N : Nat) (x0 : Int32) (q : Int32 × Int32 × Int32 × Int32 × Int64 × Int32) (h : me_204_63 N x0 m_tp m_td m_tk m_bg m_en m_vl = some q) : hM (gO LL xs) (D + 4) zR_204 [.ref 63, .int x0] (hMm c0 m_s m_kp m_as m_ik m_fo m_tl m_tr m_fa m_od m_rc m_be m_ft m_tp m_td m_tk m_bg m_en m_vl m_sg m_wi m_si m_ce m_ca) (some (.int q.1)) (hMm c0 m_s m_kp m_as m_ik m_fo m_tl m_tr m_fa m_od m_rc m_be m_ft m_tp m_td q.2.1 q.2.2.1 q.2.2.2.1 q.2.2.2.2.1 q.2.2.2.2.2 m_wi m_si m_ce m_ca) := by
  unfold me_204_63 at h
  refine hX_go 0 0 [some (.ref 63), some (.int x0), none, none] [] (hMm c0 m_s m_kp m_as m_ik m_fo m_tl m_tr m_fa m_od m_rc m_be m_ft m_tp m_td m_tk m_bg m_en m_vl m_sg m_wi m_si m_ce m_ca) rfl ?_
  refine hX_go 4 (bif gCmp .ne m_tk 5 then 12 else 8) [some (.ref 63), some (.int x0), none, none] [] (hMm c0 m_s m_kp m_as m_ik m_fo m_tl m_tr m_fa m_od m_rc m_be m_ft m_tp m_td m_tk m_bg m_en m_vl m_sg m_wi m_si m_ce m_ca) rfl ?_
  refine hX_mrg 13 [some (.ref 63), some (.int x0), none, none] [.int (bif gCmp .ne m_tk 5 then 0 else 1)] (hMm c0 m_s m_kp m_as m_ik m_fo m_tl m_tr m_fa m_od m_rc m_be m_ft m_tp m_td m_tk m_bg m_en m_vl m_sg m_wi m_si m_ce m_ca) (fun hk => ?_) ?_
  · skip
    refine hX_if (gCmp .ne m_tk 5) (fun c2 => ?_) (fun c2 => ?_)
    · skip
      refine hX_goM 1 (13) [some (.ref 63), some (.int x0), none, none] [.int 0] rfl ?_
      have hk := hk
      simp only [c2, cond_true, cond_false] at hk
      first | exact hk | (simp only [c2, cond_true, cond_false]; exact hk)
    · skip
      refine hX_goM 2 (13) [some (.ref 63), some (.int x0), none, none] [.int 1] rfl ?_
      have hk := hk
      simp only [c2, cond_true, cond_false] at hk
      first | exact hk | (simp only [c2, cond_true, cond_false]; exact hk)
  refine hX_goM 3 (bif gCmp .eq (bif gCmp .ne m_tk 5 then 0 else 1) 0 then 22 else 18) [some (.ref 63), some (.int x0), some (.int (bif gCmp .ne m_tk 5 then 0 else 1)), none] [] rfl ?_
  refine hX_if (gCmp .eq (bif gCmp .ne m_tk 5 then 0 else 1) 0) (fun c3 => ?_) (fun c3 => ?_)
  · skip
    have h := gcT c3 h
    refine hX_goM 3 (25) [some (.ref 63), some (.int x0), some (.int (bif gCmp .ne m_tk 5 then 0 else 1)), none] [.int x0, .int 0, .ref 63] rfl ?_
    revert h; refine gBindR fun q4 e4 h => ?_
    refine hX_call (r' := zR_203) rfl (mt_203_63 N 0 x0 q4 e4) ?_
    refine hX_go 4 (bif gCmp .eq (bif gCmp .ne m_tk 5 then 0 else 1) 0 then 39 else 34) [some (.ref 63), some (.int x0), some (.int (bif gCmp .ne m_tk 5 then 0 else 1)), some (.int q4.1)] [.ref 63] (hMm c0 m_s m_kp m_as m_ik m_fo m_tl m_tr m_fa m_od m_rc m_be m_ft m_tp m_td q4.2.1 q4.2.2.1 q4.2.2.2.1 q4.2.2.2.2 m_sg m_wi m_si m_ce m_ca) rfl ?_
    refine hX_mrg 40 [some (.ref 63), some (.int x0), some (.int (bif gCmp .ne m_tk 5 then 0 else 1)), some (.int q4.1)] [.int (bif gCmp .eq (bif gCmp .ne m_tk 5 then 0 else 1) 0 then q4.1 else (-q4.1)), .ref 63] (hMm c0 m_s m_kp m_as m_ik m_fo m_tl m_tr m_fa m_od m_rc m_be m_ft m_tp m_td q4.2.1 q4.2.2.1 q4.2.2.2.1 q4.2.2.2.2 m_sg m_wi m_si m_ce m_ca) (fun hk => ?_) ?_
    · skip
      refine hX_if (gCmp .eq (bif gCmp .ne m_tk 5 then 0 else 1) 0) (fun c6 => ?_) (fun c6 => ?_)
      · skip
        refine hX_goM 1 (40) [some (.ref 63), some (.int x0), some (.int (bif gCmp .ne m_tk 5 then 0 else 1)), some (.int q4.1)] [.int q4.1, .ref 63] rfl ?_
        have hk := hk
        simp only [c6, cond_true, cond_false] at hk
        first | exact hk | (simp only [c6, cond_true, cond_false]; exact hk)
      · skip
        refine hX_goM 3 (40) [some (.ref 63), some (.int x0), some (.int (bif gCmp .ne m_tk 5 then 0 else 1)), some (.int q4.1)] [.int (-q4.1), .ref 63] rfl ?_
        have hk := hk
        simp only [c6, cond_true, cond_false] at hk
        first | exact hk | (simp only [c6, cond_true, cond_false]; exact hk)
    refine hX_go 3 (bif gCmp .lt q4.1 0 then 51 else 47) [some (.ref 63), some (.int x0), some (.int (bif gCmp .ne m_tk 5 then 0 else 1)), some (.int q4.1)] [] (hMm c0 m_s m_kp m_as m_ik m_fo m_tl m_tr m_fa m_od m_rc m_be m_ft m_tp m_td q4.2.1 q4.2.2.1 q4.2.2.2.1 q4.2.2.2.2 (bif gCmp .eq (bif gCmp .ne m_tk 5 then 0 else 1) 0 then q4.1 else (-q4.1)) m_wi m_si m_ce m_ca) rfl ?_
    refine hX_if (gCmp .lt q4.1 0) (fun c7 => ?_) (fun c7 => ?_)
    · skip
      have h := gcT c7 h
      refine hX_goM 1 (52) [some (.ref 63), some (.int x0), some (.int (bif gCmp .ne m_tk 5 then 0 else 1)), some (.int q4.1)] [.int 0] rfl ?_
      have h := Option.some.inj h; subst h
      exact hX_end rfl rfl rfl
    · skip
      have h := gcF c7 h
      refine hX_goM 2 (52) [some (.ref 63), some (.int x0), some (.int (bif gCmp .ne m_tk 5 then 0 else 1)), some (.int q4.1)] [.int 1] rfl ?_
      have h := Option.some.inj h; subst h
      exact hX_end rfl rfl rfl
  · skip
    have h := gcF c3 h
    refine hX_goM 1 (19) [some (.ref 63), some (.int x0), some (.int (bif gCmp .ne m_tk 5 then 0 else 1)), none] [.ref 63] rfl ?_
    revert h; refine gBindR fun q8 e8 h => ?_
    refine hX_call (r' := zR_201) rfl (mt_201_63 N q8 e8) ?_
    refine hX_go 3 (25) [some (.ref 63), some (.int x0), some (.int (bif gCmp .ne m_tk 5 then 0 else 1)), none] [.int x0, .int 0, .ref 63] (hMm c0 m_s m_kp m_as m_ik m_fo m_tl m_tr m_fa m_od m_rc m_be m_ft m_tp m_td q8.1 q8.2.1 q8.2.2.1 q8.2.2.2 m_sg m_wi m_si m_ce m_ca) rfl ?_
    revert h; refine gBindR fun q9 e9 h => ?_
    refine hX_call (r' := zR_203) rfl (mt_203_63 N 0 x0 q9 e9) ?_
    refine hX_go 4 (bif gCmp .eq (bif gCmp .ne m_tk 5 then 0 else 1) 0 then 39 else 34) [some (.ref 63), some (.int x0), some (.int (bif gCmp .ne m_tk 5 then 0 else 1)), some (.int q9.1)] [.ref 63] (hMm c0 m_s m_kp m_as m_ik m_fo m_tl m_tr m_fa m_od m_rc m_be m_ft m_tp m_td q9.2.1 q9.2.2.1 q9.2.2.2.1 q9.2.2.2.2 m_sg m_wi m_si m_ce m_ca) rfl ?_
    refine hX_mrg 40 [some (.ref 63), some (.int x0), some (.int (bif gCmp .ne m_tk 5 then 0 else 1)), some (.int q9.1)] [.int (bif gCmp .eq (bif gCmp .ne m_tk 5 then 0 else 1) 0 then q9.1 else (-q9.1)), .ref 63] (hMm c0 m_s m_kp m_as m_ik m_fo m_tl m_tr m_fa m_od m_rc m_be m_ft m_tp m_td q9.2.1 q9.2.2.1 q9.2.2.2.1 q9.2.2.2.2 m_sg m_wi m_si m_ce m_ca) (fun hk => ?_) ?_
    · skip
      refine hX_if (gCmp .eq (bif gCmp .ne m_tk 5 then 0 else 1) 0) (fun c11 => ?_) (fun c11 => ?_)
      · skip
        refine hX_goM 1 (40) [some (.ref 63), some (.int x0), some (.int (bif gCmp .ne m_tk 5 then 0 else 1)), some (.int q9.1)] [.int q9.1, .ref 63] rfl ?_
        have hk := hk
        simp only [c11, cond_true, cond_false] at hk
        first | exact hk | (simp only [c11, cond_true, cond_false]; exact hk)
      · skip
        refine hX_goM 3 (40) [some (.ref 63), some (.int x0), some (.int (bif gCmp .ne m_tk 5 then 0 else 1)), some (.int q9.1)] [.int (-q9.1), .ref 63] rfl ?_
        have hk := hk
        simp only [c11, cond_true, cond_false] at hk
        first | exact hk | (simp only [c11, cond_true, cond_false]; exact hk)
    refine hX_go 3 (bif gCmp .lt q9.1 0 then 51 else 47) [some (.ref 63), some (.int x0), some (.int (bif gCmp .ne m_tk 5 then 0 else 1)), some (.int q9.1)] [] (hMm c0 m_s m_kp m_as m_ik m_fo m_tl m_tr m_fa m_od m_rc m_be m_ft m_tp m_td q9.2.1 q9.2.2.1 q9.2.2.2.1 q9.2.2.2.2 (bif gCmp .eq (bif gCmp .ne m_tk 5 then 0 else 1) 0 then q9.1 else (-q9.1)) m_wi m_si m_ce m_ca) rfl ?_
    refine hX_if (gCmp .lt q9.1 0) (fun c12 => ?_) (fun c12 => ?_)
    · skip
      have h := gcT c12 h
      refine hX_goM 1 (52) [some (.ref 63), some (.int x0), some (.int (bif gCmp .ne m_tk 5 then 0 else 1)), some (.int q9.1)] [.int 0] rfl ?_
      have h := Option.some.inj h; subst h
      exact hX_end rfl rfl rfl
    · skip
      have h := gcF c12 h
      refine hX_goM 2 (52) [some (.ref 63), some (.int x0), some (.int (bif gCmp .ne m_tk 5 then 0 else 1)), some (.int q9.1)] [.int 1] rfl ?_
      have h := Option.some.inj h; subst h
      exact hX_end rfl rfl rfl
