/-- UpOneSideModel.no(I)I -/
def v_124_63 (x0 : Int32) : Int32 := (-1000001) - x0
def f_124_63_m_fo (x0 : Int32) (m_fo : Nat → Int32) : Nat → Int32 := upd m_fo (Int32.toNatClampNeg x0) ((m_fo (Int32.toNatClampNeg x0)) + 1)
set_option maxRecDepth 20000 in
set_option maxHeartbeats 1000000 in
theorem ct_124_63 {LL : Nat} {xs : Nat → Int32} {D : Nat} {c0 : Nat → gE} {m_s : Nat → Int32} {m_kp : Nat → Int32} {m_as : Nat → Int32} {m_ik : Int32} {m_fo : Nat → Int32} {m_tl : Int32} {m_tr : Int32} {m_fa : Nat → Int32} {m_od : Nat → Int32} {m_rc : Int32} {m_be : Nat → Int32} {m_ft : Int32} {m_tp : Nat → Int32} {m_td : Int32} {m_tk : Int32} {m_bg : Int32} {m_en : Int32} {m_vl : Int64} {m_sg : Int32} {m_wi : Nat → Int32} {m_si : Nat → Int32} {m_ce : Nat → Int32} {m_ca : Nat → Int32} (x0 : Int32) (o1 : gIn x0 7 = true) : hM (gO LL xs) (D + 0) zR_124 [.ref 63, .int x0] (hMm c0 m_s m_kp m_as m_ik m_fo m_tl m_tr m_fa m_od m_rc m_be m_ft m_tp m_td m_tk m_bg m_en m_vl m_sg m_wi m_si m_ce m_ca) (some (.int (v_124_63 x0))) (hMm c0 m_s m_kp m_as m_ik (f_124_63_m_fo x0 m_fo) m_tl m_tr m_fa m_od m_rc m_be m_ft m_tp m_td m_tk m_bg m_en m_vl m_sg m_wi m_si m_ce m_ca) := by
  refine hX_go 0 0 [some (.ref 63), some (.int x0)] [] (hMm c0 m_s m_kp m_as m_ik m_fo m_tl m_tr m_fa m_od m_rc m_be m_ft m_tp m_td m_tk m_bg m_en m_vl m_sg m_wi m_si m_ce m_ca) rfl ?_
  refine hX_go 4 (6) [some (.ref 63), some (.int x0)] [.int x0, .ref 67, .int x0, .ref 67] (hMm c0 m_s m_kp m_as m_ik m_fo m_tl m_tr m_fa m_od m_rc m_be m_ft m_tp m_td m_tk m_bg m_en m_vl m_sg m_wi m_si m_ce m_ca) rfl ?_
  refine hX_gM (gIn x0 7) 7 [some (.ref 63), some (.int x0)] [.int (m_fo (Int32.toNatClampNeg x0)), .int x0, .ref 67] rfl o1 ?_
  refine hX_goM 2 (9) [some (.ref 63), some (.int x0)] [.int ((m_fo (Int32.toNatClampNeg x0)) + 1), .int x0, .ref 67] rfl ?_
  refine hX_g (gIn x0 7) 10 [some (.ref 63), some (.int x0)] [] (hMm c0 m_s m_kp m_as m_ik (upd m_fo (Int32.toNatClampNeg x0) ((m_fo (Int32.toNatClampNeg x0)) + 1)) m_tl m_tr m_fa m_od m_rc m_be m_ft m_tp m_td m_tk m_bg m_en m_vl m_sg m_wi m_si m_ce m_ca) rfl o1 ?_
  refine hX_goM 3 (14) [some (.ref 63), some (.int x0)] [.int ((-1000001) - x0)] rfl ?_
  exact hX_end rfl (rfl) (rfl)

/-- UpOneSideModel.in1(III)Z -/
def v_125 (x0 : Int32) (x1 : Int32) (x2 : Int32) : Int32 := bif gCmp .lt x0 x1 then 0 else (bif gCmp .gt x0 x2 then 0 else 1)
set_option maxRecDepth 20000 in
set_option maxHeartbeats 1000000 in
theorem ct_125 {LL : Nat} {xs : Nat → Int32} {D : Nat} {c0 : Nat → gE} {m_s : Nat → Int32} {m_kp : Nat → Int32} {m_as : Nat → Int32} {m_ik : Int32} {m_fo : Nat → Int32} {m_tl : Int32} {m_tr : Int32} {m_fa : Nat → Int32} {m_od : Nat → Int32} {m_rc : Int32} {m_be : Nat → Int32} {m_ft : Int32} {m_tp : Nat → Int32} {m_td : Int32} {m_tk : Int32} {m_bg : Int32} {m_en : Int32} {m_vl : Int64} {m_sg : Int32} {m_wi : Nat → Int32} {m_si : Nat → Int32} {m_ce : Nat → Int32} {m_ca : Nat → Int32} (x0 : Int32) (x1 : Int32) (x2 : Int32) : hM (gO LL xs) (D + 0) zR_125 [.int x0, .int x1, .int x2] (hMm c0 m_s m_kp m_as m_ik m_fo m_tl m_tr m_fa m_od m_rc m_be m_ft m_tp m_td m_tk m_bg m_en m_vl m_sg m_wi m_si m_ce m_ca) (some (.int (v_125 x0 x1 x2))) (hMm c0 m_s m_kp m_as m_ik m_fo m_tl m_tr m_fa m_od m_rc m_be m_ft m_tp m_td m_tk m_bg m_en m_vl m_sg m_wi m_si m_ce m_ca) := by
  refine hX_go 0 0 [some (.int x0), some (.int x1), some (.int x2)] [] (hMm c0 m_s m_kp m_as m_ik m_fo m_tl m_tr m_fa m_od m_rc m_be m_ft m_tp m_td m_tk m_bg m_en m_vl m_sg m_wi m_si m_ce m_ca) rfl ?_
  refine hX_go 3 (bif gCmp .lt x0 x1 then 14 else 5) [some (.int x0), some (.int x1), some (.int x2)] [] (hMm c0 m_s m_kp m_as m_ik m_fo m_tl m_tr m_fa m_od m_rc m_be m_ft m_tp m_td m_tk m_bg m_en m_vl m_sg m_wi m_si m_ce m_ca) rfl ?_
  refine hX_if (gCmp .lt x0 x1) (fun c1 => ?_) (fun c1 => ?_)
  · skip
    refine hX_goM 1 (15) [some (.int x0), some (.int x1), some (.int x2)] [.int 0] rfl ?_
    exact hX_end rfl (by unfold v_125; rw [c1]; rfl) (rfl)
  · skip
    refine hX_goM 3 (bif gCmp .gt x0 x2 then 14 else 10) [some (.int x0), some (.int x1), some (.int x2)] [] rfl ?_
    refine hX_if (gCmp .gt x0 x2) (fun c2 => ?_) (fun c2 => ?_)
    · skip
      refine hX_goM 1 (15) [some (.int x0), some (.int x1), some (.int x2)] [.int 0] rfl ?_
      exact hX_end rfl (by unfold v_125; rw [c1, c2]; rfl) (rfl)
    · skip
      refine hX_goM 2 (15) [some (.int x0), some (.int x1), some (.int x2)] [.int 1] rfl ?_
      exact hX_end rfl (by unfold v_125; rw [c1, c2]; rfl) (rfl)

theorem bz_125 (x0 : Int32) (x1 : Int32) (x2 : Int32) : (decide (v_125 x0 x1 x2 = 0) || decide (v_125 x0 x1 x2 = 1)) = true := by
  unfold v_125
  cases (gCmp .lt x0 x1)
  · cases (gCmp .gt x0 x2)
    · rfl
    · rfl
  · rfl

/-- UpOneSideModel.size(I)I -/
def v_126 (x0 : Int32) : Int32 := bif gCmp .ge x0 0 then x0 else (-x0)
set_option maxRecDepth 20000 in
set_option maxHeartbeats 1000000 in
theorem ct_126 {LL : Nat} {xs : Nat → Int32} {D : Nat} {c0 : Nat → gE} {m_s : Nat → Int32} {m_kp : Nat → Int32} {m_as : Nat → Int32} {m_ik : Int32} {m_fo : Nat → Int32} {m_tl : Int32} {m_tr : Int32} {m_fa : Nat → Int32} {m_od : Nat → Int32} {m_rc : Int32} {m_be : Nat → Int32} {m_ft : Int32} {m_tp : Nat → Int32} {m_td : Int32} {m_tk : Int32} {m_bg : Int32} {m_en : Int32} {m_vl : Int64} {m_sg : Int32} {m_wi : Nat → Int32} {m_si : Nat → Int32} {m_ce : Nat → Int32} {m_ca : Nat → Int32} (x0 : Int32) : hM (gO LL xs) (D + 0) zR_126 [.int x0] (hMm c0 m_s m_kp m_as m_ik m_fo m_tl m_tr m_fa m_od m_rc m_be m_ft m_tp m_td m_tk m_bg m_en m_vl m_sg m_wi m_si m_ce m_ca) (some (.int (v_126 x0))) (hMm c0 m_s m_kp m_as m_ik m_fo m_tl m_tr m_fa m_od m_rc m_be m_ft m_tp m_td m_tk m_bg m_en m_vl m_sg m_wi m_si m_ce m_ca) := by
  refine hX_go 0 0 [some (.int x0)] [] (hMm c0 m_s m_kp m_as m_ik m_fo m_tl m_tr m_fa m_od m_rc m_be m_ft m_tp m_td m_tk m_bg m_en m_vl m_sg m_wi m_si m_ce m_ca) rfl ?_
  refine hX_go 2 (bif gCmp .ge x0 0 then 9 else 4) [some (.int x0)] [] (hMm c0 m_s m_kp m_as m_ik m_fo m_tl m_tr m_fa m_od m_rc m_be m_ft m_tp m_td m_tk m_bg m_en m_vl m_sg m_wi m_si m_ce m_ca) rfl ?_
  suffices hk : hX (gO LL xs) (D + 0) zR_126 10 [some (.int x0)] [.int (bif gCmp .ge x0 0 then x0 else (-x0))] (hMm c0 m_s m_kp m_as m_ik m_fo m_tl m_tr m_fa m_od m_rc m_be m_ft m_tp m_td m_tk m_bg m_en m_vl m_sg m_wi m_si m_ce m_ca) (some (.int (v_126 x0))) (hMm c0 m_s m_kp m_as m_ik m_fo m_tl m_tr m_fa m_od m_rc m_be m_ft m_tp m_td m_tk m_bg m_en m_vl m_sg m_wi m_si m_ce m_ca) by
    refine hX_if (gCmp .ge x0 0) (fun c1 => ?_) (fun c1 => ?_)
    · skip
      refine hX_goM 1 (10) [some (.int x0)] [.int x0] rfl ?_
      have hk := hk
      simp only [c1, cond_true, cond_false] at hk
      first | exact hk | (simp only [c1, cond_true, cond_false]; exact hk)
    · skip
      refine hX_goM 3 (10) [some (.int x0)] [.int (-x0)] rfl ?_
      have hk := hk
      simp only [c1, cond_true, cond_false] at hk
      first | exact hk | (simp only [c1, cond_true, cond_false]; exact hk)
  exact hX_end rfl (rfl) (rfl)

/-- UpOneSideModel.held(I)I -/
def v_127 (x0 : Int32) : Int32 := bif gCmp .ge x0 0 then (bif gCmp .le x0 60 then x0 else 60) else 0
set_option maxRecDepth 20000 in
set_option maxHeartbeats 1000000 in
theorem ct_127 {LL : Nat} {xs : Nat → Int32} {D : Nat} {c0 : Nat → gE} {m_s : Nat → Int32} {m_kp : Nat → Int32} {m_as : Nat → Int32} {m_ik : Int32} {m_fo : Nat → Int32} {m_tl : Int32} {m_tr : Int32} {m_fa : Nat → Int32} {m_od : Nat → Int32} {m_rc : Int32} {m_be : Nat → Int32} {m_ft : Int32} {m_tp : Nat → Int32} {m_td : Int32} {m_tk : Int32} {m_bg : Int32} {m_en : Int32} {m_vl : Int64} {m_sg : Int32} {m_wi : Nat → Int32} {m_si : Nat → Int32} {m_ce : Nat → Int32} {m_ca : Nat → Int32} (x0 : Int32) : hM (gO LL xs) (D + 0) zR_127 [.int x0] (hMm c0 m_s m_kp m_as m_ik m_fo m_tl m_tr m_fa m_od m_rc m_be m_ft m_tp m_td m_tk m_bg m_en m_vl m_sg m_wi m_si m_ce m_ca) (some (.int (v_127 x0))) (hMm c0 m_s m_kp m_as m_ik m_fo m_tl m_tr m_fa m_od m_rc m_be m_ft m_tp m_td m_tk m_bg m_en m_vl m_sg m_wi m_si m_ce m_ca) := by
  refine hX_go 0 0 [some (.int x0)] [] (hMm c0 m_s m_kp m_as m_ik m_fo m_tl m_tr m_fa m_od m_rc m_be m_ft m_tp m_td m_tk m_bg m_en m_vl m_sg m_wi m_si m_ce m_ca) rfl ?_
  refine hX_go 2 (bif gCmp .ge x0 0 then 8 else 4) [some (.int x0)] [] (hMm c0 m_s m_kp m_as m_ik m_fo m_tl m_tr m_fa m_od m_rc m_be m_ft m_tp m_td m_tk m_bg m_en m_vl m_sg m_wi m_si m_ce m_ca) rfl ?_
  suffices hk : hX (gO LL xs) (D + 0) zR_127 20 [some (.int x0)] [.int (bif gCmp .ge x0 0 then (bif gCmp .le x0 60 then x0 else 60) else 0)] (hMm c0 m_s m_kp m_as m_ik m_fo m_tl m_tr m_fa m_od m_rc m_be m_ft m_tp m_td m_tk m_bg m_en m_vl m_sg m_wi m_si m_ce m_ca) (some (.int (v_127 x0))) (hMm c0 m_s m_kp m_as m_ik m_fo m_tl m_tr m_fa m_od m_rc m_be m_ft m_tp m_td m_tk m_bg m_en m_vl m_sg m_wi m_si m_ce m_ca) by
    refine hX_if (gCmp .ge x0 0) (fun c1 => ?_) (fun c1 => ?_)
    · skip
      refine hX_goM 3 (bif gCmp .le x0 60 then 19 else 14) [some (.int x0)] [] rfl ?_
      refine hX_if (gCmp .le x0 60) (fun c2 => ?_) (fun c2 => ?_)
      · skip
        refine hX_goM 1 (20) [some (.int x0)] [.int x0] rfl ?_
        have hk := hk
        simp only [c1, c2, cond_true, cond_false] at hk
        first | exact hk | (simp only [c1, c2, cond_true, cond_false]; exact hk)
      · skip
        refine hX_goM 2 (20) [some (.int x0)] [.int 60] rfl ?_
        have hk := hk
        simp only [c1, c2, cond_true, cond_false] at hk
        first | exact hk | (simp only [c1, c2, cond_true, cond_false]; exact hk)
    · skip
      refine hX_goM 2 (20) [some (.int x0)] [.int 0] rfl ?_
      have hk := hk
      simp only [c1, cond_true, cond_false] at hk
      first | exact hk | (simp only [c1, cond_true, cond_false]; exact hk)
  exact hX_end rfl (rfl) (rfl)

/-- UpOneSideModel.isIn(II)Z -/
def v_128 (x0 : Int32) (x1 : Int32) : Int32 := bif gCmp .ne ((x0 >>> (x1 &&& 31)) &&& 1) 1 then 0 else 1
set_option maxRecDepth 20000 in
set_option maxHeartbeats 1000000 in
theorem ct_128 {LL : Nat} {xs : Nat → Int32} {D : Nat} {c0 : Nat → gE} {m_s : Nat → Int32} {m_kp : Nat → Int32} {m_as : Nat → Int32} {m_ik : Int32} {m_fo : Nat → Int32} {m_tl : Int32} {m_tr : Int32} {m_fa : Nat → Int32} {m_od : Nat → Int32} {m_rc : Int32} {m_be : Nat → Int32} {m_ft : Int32} {m_tp : Nat → Int32} {m_td : Int32} {m_tk : Int32} {m_bg : Int32} {m_en : Int32} {m_vl : Int64} {m_sg : Int32} {m_wi : Nat → Int32} {m_si : Nat → Int32} {m_ce : Nat → Int32} {m_ca : Nat → Int32} (x0 : Int32) (x1 : Int32) : hM (gO LL xs) (D + 0) zR_128 [.int x0, .int x1] (hMm c0 m_s m_kp m_as m_ik m_fo m_tl m_tr m_fa m_od m_rc m_be m_ft m_tp m_td m_tk m_bg m_en m_vl m_sg m_wi m_si m_ce m_ca) (some (.int (v_128 x0 x1))) (hMm c0 m_s m_kp m_as m_ik m_fo m_tl m_tr m_fa m_od m_rc m_be m_ft m_tp m_td m_tk m_bg m_en m_vl m_sg m_wi m_si m_ce m_ca) := by
  refine hX_go 0 0 [some (.int x0), some (.int x1)] [] (hMm c0 m_s m_kp m_as m_ik m_fo m_tl m_tr m_fa m_od m_rc m_be m_ft m_tp m_td m_tk m_bg m_en m_vl m_sg m_wi m_si m_ce m_ca) rfl ?_
  refine hX_go 7 (bif gCmp .ne ((x0 >>> (x1 &&& 31)) &&& 1) 1 then 13 else 9) [some (.int x0), some (.int x1)] [] (hMm c0 m_s m_kp m_as m_ik m_fo m_tl m_tr m_fa m_od m_rc m_be m_ft m_tp m_td m_tk m_bg m_en m_vl m_sg m_wi m_si m_ce m_ca) rfl ?_
  refine hX_if (gCmp .ne ((x0 >>> (x1 &&& 31)) &&& 1) 1) (fun c1 => ?_) (fun c1 => ?_)
  · skip
    refine hX_goM 1 (14) [some (.int x0), some (.int x1)] [.int 0] rfl ?_
    exact hX_end rfl (by unfold v_128; rw [c1]; rfl) (rfl)
  · skip
    refine hX_goM 2 (14) [some (.int x0), some (.int x1)] [.int 1] rfl ?_
    exact hX_end rfl (by unfold v_128; rw [c1]; rfl) (rfl)

theorem bz_128 (x0 : Int32) (x1 : Int32) : (decide (v_128 x0 x1 = 0) || decide (v_128 x0 x1 = 1)) = true := by
  unfold v_128
  cases (gCmp .ne ((x0 >>> (x1 &&& 31)) &&& 1) 1)
  · rfl
  · rfl

/-- UpOneSideModel.isPull(I)Z -/
def v_129_63 (x0 : Int32) (m_s : Nat → Int32) : Int32 := v_125 x0 0 ((m_s 3) - 1)
set_option maxRecDepth 20000 in
set_option maxHeartbeats 1000000 in
theorem ct_129_63 {LL : Nat} {xs : Nat → Int32} {D : Nat} {c0 : Nat → gE} {m_s : Nat → Int32} {m_kp : Nat → Int32} {m_as : Nat → Int32} {m_ik : Int32} {m_fo : Nat → Int32} {m_tl : Int32} {m_tr : Int32} {m_fa : Nat → Int32} {m_od : Nat → Int32} {m_rc : Int32} {m_be : Nat → Int32} {m_ft : Int32} {m_tp : Nat → Int32} {m_td : Int32} {m_tk : Int32} {m_bg : Int32} {m_en : Int32} {m_vl : Int64} {m_sg : Int32} {m_wi : Nat → Int32} {m_si : Nat → Int32} {m_ce : Nat → Int32} {m_ca : Nat → Int32} (x0 : Int32) : hM (gO LL xs) (D + 1) zR_129 [.ref 63, .int x0] (hMm c0 m_s m_kp m_as m_ik m_fo m_tl m_tr m_fa m_od m_rc m_be m_ft m_tp m_td m_tk m_bg m_en m_vl m_sg m_wi m_si m_ce m_ca) (some (.int (v_129_63 x0 m_s))) (hMm c0 m_s m_kp m_as m_ik m_fo m_tl m_tr m_fa m_od m_rc m_be m_ft m_tp m_td m_tk m_bg m_en m_vl m_sg m_wi m_si m_ce m_ca) := by
  refine hX_go 0 0 [some (.ref 63), some (.int x0)] [] (hMm c0 m_s m_kp m_as m_ik m_fo m_tl m_tr m_fa m_od m_rc m_be m_ft m_tp m_td m_tk m_bg m_en m_vl m_sg m_wi m_si m_ce m_ca) rfl ?_
  refine hX_go 8 (10) [some (.ref 63), some (.int x0)] [.int ((m_s 3) - 1), .int 0, .int x0] (hMm c0 m_s m_kp m_as m_ik m_fo m_tl m_tr m_fa m_od m_rc m_be m_ft m_tp m_td m_tk m_bg m_en m_vl m_sg m_wi m_si m_ce m_ca) rfl ?_
  refine hX_call (r' := zR_125) rfl (ct_125 x0 0 ((m_s 3) - 1)) ?_
  refine hX_goM 0 (13) [some (.ref 63), some (.int x0)] [.int (v_125 x0 0 ((m_s 3) - 1))] rfl ?_
  exact hX_endZ rfl (bz_125 x0 0 ((m_s 3) - 1)) (rfl) (rfl)

theorem bz_129_63 (x0 : Int32) (m_s : Nat → Int32) : (decide (v_129_63 x0 m_s = 0) || decide (v_129_63 x0 m_s = 1)) = true := by
  unfold v_129_63
  exact (bz_125 x0 0 ((m_s 3) - 1))

/-- UpOneSideModel.isHeight(I)Z -/
def v_130 (x0 : Int32) : Int32 := v_125 x0 0 60
set_option maxRecDepth 20000 in
set_option maxHeartbeats 1000000 in
theorem ct_130 {LL : Nat} {xs : Nat → Int32} {D : Nat} {c0 : Nat → gE} {m_s : Nat → Int32} {m_kp : Nat → Int32} {m_as : Nat → Int32} {m_ik : Int32} {m_fo : Nat → Int32} {m_tl : Int32} {m_tr : Int32} {m_fa : Nat → Int32} {m_od : Nat → Int32} {m_rc : Int32} {m_be : Nat → Int32} {m_ft : Int32} {m_tp : Nat → Int32} {m_td : Int32} {m_tk : Int32} {m_bg : Int32} {m_en : Int32} {m_vl : Int64} {m_sg : Int32} {m_wi : Nat → Int32} {m_si : Nat → Int32} {m_ce : Nat → Int32} {m_ca : Nat → Int32} (x0 : Int32) : hM (gO LL xs) (D + 1) zR_130 [.int x0] (hMm c0 m_s m_kp m_as m_ik m_fo m_tl m_tr m_fa m_od m_rc m_be m_ft m_tp m_td m_tk m_bg m_en m_vl m_sg m_wi m_si m_ce m_ca) (some (.int (v_130 x0))) (hMm c0 m_s m_kp m_as m_ik m_fo m_tl m_tr m_fa m_od m_rc m_be m_ft m_tp m_td m_tk m_bg m_en m_vl m_sg m_wi m_si m_ce m_ca) := by
  refine hX_go 0 0 [some (.int x0)] [] (hMm c0 m_s m_kp m_as m_ik m_fo m_tl m_tr m_fa m_od m_rc m_be m_ft m_tp m_td m_tk m_bg m_en m_vl m_sg m_wi m_si m_ce m_ca) rfl ?_
  refine hX_go 3 (4) [some (.int x0)] [.int 60, .int 0, .int x0] (hMm c0 m_s m_kp m_as m_ik m_fo m_tl m_tr m_fa m_od m_rc m_be m_ft m_tp m_td m_tk m_bg m_en m_vl m_sg m_wi m_si m_ce m_ca) rfl ?_
  refine hX_call (r' := zR_125) rfl (ct_125 x0 0 60) ?_
  refine hX_goM 0 (7) [some (.int x0)] [.int (v_125 x0 0 60)] rfl ?_
  exact hX_endZ rfl (bz_125 x0 0 60) (rfl) (rfl)

theorem bz_130 (x0 : Int32) : (decide (v_130 x0 = 0) || decide (v_130 x0 = 1)) = true := by
  unfold v_130
  exact (bz_125 x0 0 60)

/-- UpOneSideModel.get(II)I -/
def v_131_63 (x0 : Int32) (x1 : Int32) (m_s : Nat → Int32) : Int32 := m_s (Int32.toNatClampNeg ((15 + (3 * x0)) + x1))
set_option maxRecDepth 20000 in
set_option maxHeartbeats 1000000 in
theorem ct_131_63 {LL : Nat} {xs : Nat → Int32} {D : Nat} {c0 : Nat → gE} {m_s : Nat → Int32} {m_kp : Nat → Int32} {m_as : Nat → Int32} {m_ik : Int32} {m_fo : Nat → Int32} {m_tl : Int32} {m_tr : Int32} {m_fa : Nat → Int32} {m_od : Nat → Int32} {m_rc : Int32} {m_be : Nat → Int32} {m_ft : Int32} {m_tp : Nat → Int32} {m_td : Int32} {m_tk : Int32} {m_bg : Int32} {m_en : Int32} {m_vl : Int64} {m_sg : Int32} {m_wi : Nat → Int32} {m_si : Nat → Int32} {m_ce : Nat → Int32} {m_ca : Nat → Int32} (x0 : Int32) (x1 : Int32) (o1 : gIn ((15 + (3 * x0)) + x1) 134 = true) : hM (gO LL xs) (D + 0) zR_131 [.ref 63, .int x0, .int x1] (hMm c0 m_s m_kp m_as m_ik m_fo m_tl m_tr m_fa m_od m_rc m_be m_ft m_tp m_td m_tk m_bg m_en m_vl m_sg m_wi m_si m_ce m_ca) (some (.int (v_131_63 x0 x1 m_s))) (hMm c0 m_s m_kp m_as m_ik m_fo m_tl m_tr m_fa m_od m_rc m_be m_ft m_tp m_td m_tk m_bg m_en m_vl m_sg m_wi m_si m_ce m_ca) := by
  refine hX_go 0 0 [some (.ref 63), some (.int x0), some (.int x1)] [] (hMm c0 m_s m_kp m_as m_ik m_fo m_tl m_tr m_fa m_od m_rc m_be m_ft m_tp m_td m_tk m_bg m_en m_vl m_sg m_wi m_si m_ce m_ca) rfl ?_
  refine hX_go 9 (12) [some (.ref 63), some (.int x0), some (.int x1)] [.int ((15 + (3 * x0)) + x1), .ref 64] (hMm c0 m_s m_kp m_as m_ik m_fo m_tl m_tr m_fa m_od m_rc m_be m_ft m_tp m_td m_tk m_bg m_en m_vl m_sg m_wi m_si m_ce m_ca) rfl ?_
  refine hX_gM (gIn ((15 + (3 * x0)) + x1) 134) 13 [some (.ref 63), some (.int x0), some (.int x1)] [.int (m_s (Int32.toNatClampNeg ((15 + (3 * x0)) + x1)))] rfl o1 ?_
  exact hX_end rfl (rfl) (rfl)

/-- UpOneSideModel.puts(III)V -/
def f_132_63_m_s (x0 : Int32) (x1 : Int32) (x2 : Int32) (m_s : Nat → Int32) : Nat → Int32 := upd m_s (Int32.toNatClampNeg ((15 + (3 * x0)) + x1)) x2
set_option maxRecDepth 20000 in
set_option maxHeartbeats 1000000 in
theorem ct_132_63 {LL : Nat} {xs : Nat → Int32} {D : Nat} {c0 : Nat → gE} {m_s : Nat → Int32} {m_kp : Nat → Int32} {m_as : Nat → Int32} {m_ik : Int32} {m_fo : Nat → Int32} {m_tl : Int32} {m_tr : Int32} {m_fa : Nat → Int32} {m_od : Nat → Int32} {m_rc : Int32} {m_be : Nat → Int32} {m_ft : Int32} {m_tp : Nat → Int32} {m_td : Int32} {m_tk : Int32} {m_bg : Int32} {m_en : Int32} {m_vl : Int64} {m_sg : Int32} {m_wi : Nat → Int32} {m_si : Nat → Int32} {m_ce : Nat → Int32} {m_ca : Nat → Int32} (x0 : Int32) (x1 : Int32) (x2 : Int32) (o1 : gIn ((15 + (3 * x0)) + x1) 134 = true) : hM (gO LL xs) (D + 0) zR_132 [.ref 63, .int x0, .int x1, .int x2] (hMm c0 m_s m_kp m_as m_ik m_fo m_tl m_tr m_fa m_od m_rc m_be m_ft m_tp m_td m_tk m_bg m_en m_vl m_sg m_wi m_si m_ce m_ca) none (hMm c0 (f_132_63_m_s x0 x1 x2 m_s) m_kp m_as m_ik m_fo m_tl m_tr m_fa m_od m_rc m_be m_ft m_tp m_td m_tk m_bg m_en m_vl m_sg m_wi m_si m_ce m_ca) := by
  refine hX_go 0 0 [some (.ref 63), some (.int x0), some (.int x1), some (.int x2)] [] (hMm c0 m_s m_kp m_as m_ik m_fo m_tl m_tr m_fa m_od m_rc m_be m_ft m_tp m_td m_tk m_bg m_en m_vl m_sg m_wi m_si m_ce m_ca) rfl ?_
  refine hX_go 9 (12) [some (.ref 63), some (.int x0), some (.int x1), some (.int x2)] [.int ((15 + (3 * x0)) + x1), .ref 64] (hMm c0 m_s m_kp m_as m_ik m_fo m_tl m_tr m_fa m_od m_rc m_be m_ft m_tp m_td m_tk m_bg m_en m_vl m_sg m_wi m_si m_ce m_ca) rfl ?_
  refine hX_goM 1 (13) [some (.ref 63), some (.int x0), some (.int x1), some (.int x2)] [.int x2, .int ((15 + (3 * x0)) + x1), .ref 64] rfl ?_
  refine hX_g (gIn ((15 + (3 * x0)) + x1) 134) 14 [some (.ref 63), some (.int x0), some (.int x1), some (.int x2)] [] (hMm c0 (upd m_s (Int32.toNatClampNeg ((15 + (3 * x0)) + x1)) x2) m_kp m_as m_ik m_fo m_tl m_tr m_fa m_od m_rc m_be m_ft m_tp m_td m_tk m_bg m_en m_vl m_sg m_wi m_si m_ce m_ca) rfl o1 ?_
  exact hX_end rfl (rfl) (rfl)

/-- UpOneSideModel.leftBy(III)I -/
def v_133_63 (x0 : Int32) (x1 : Int32) (x2 : Int32) (m_s : Nat → Int32) : Int32 := (bif gCmp .ne (v_131_63 x0 0 m_s) 1 then (bif gCmp .eq (v_131_63 x0 0 m_s) 2 then ((v_131_63 x0 1 m_s) + (v_131_63 x0 2 m_s)) else (bif gCmp .ne (v_131_63 x0 0 m_s) 3 then (bif gCmp .ne (v_131_63 x0 0 m_s) 4 then (bif gCmp .le (v_131_63 x0 0 m_s) 4 then (v_131_63 x0 1 m_s) else (bif gCmp .lt x1 (m_s 8) then (v_131_63 x0 1 m_s) else 0)) else (2 * ((v_131_63 x0 1 m_s) + (v_131_63 x0 2 m_s)))) else ((v_131_63 x0 1 m_s) + (v_131_63 x0 2 m_s)))) else ((v_131_63 x0 1 m_s) - ((x1 - x2) / 2))) + (((x1 / 10) * (m_s 7)) / 4)
set_option maxRecDepth 20000 in
set_option maxHeartbeats 1000000 in
theorem ct_133_63 {LL : Nat} {xs : Nat → Int32} {D : Nat} {c0 : Nat → gE} {m_s : Nat → Int32} {m_kp : Nat → Int32} {m_as : Nat → Int32} {m_ik : Int32} {m_fo : Nat → Int32} {m_tl : Int32} {m_tr : Int32} {m_fa : Nat → Int32} {m_od : Nat → Int32} {m_rc : Int32} {m_be : Nat → Int32} {m_ft : Int32} {m_tp : Nat → Int32} {m_td : Int32} {m_tk : Int32} {m_bg : Int32} {m_en : Int32} {m_vl : Int64} {m_sg : Int32} {m_wi : Nat → Int32} {m_si : Nat → Int32} {m_ce : Nat → Int32} {m_ca : Nat → Int32} (x0 : Int32) (x1 : Int32) (x2 : Int32) (o1 : gIn ((15 + (3 * x0)) + 0) 134 = true) (o2 : gIn ((15 + (3 * x0)) + 1) 134 = true) (o3 : gIn ((15 + (3 * x0)) + 2) 134 = true) : hM (gO LL xs) (D + 1) zR_133 [.ref 63, .int x0, .int x1, .int x2] (hMm c0 m_s m_kp m_as m_ik m_fo m_tl m_tr m_fa m_od m_rc m_be m_ft m_tp m_td m_tk m_bg m_en m_vl m_sg m_wi m_si m_ce m_ca) (some (.int (v_133_63 x0 x1 x2 m_s))) (hMm c0 m_s m_kp m_as m_ik m_fo m_tl m_tr m_fa m_od m_rc m_be m_ft m_tp m_td m_tk m_bg m_en m_vl m_sg m_wi m_si m_ce m_ca) := by
  refine hX_go 0 0 [some (.ref 63), some (.int x0), some (.int x1), some (.int x2), none, none, none, none] [] (hMm c0 m_s m_kp m_as m_ik m_fo m_tl m_tr m_fa m_od m_rc m_be m_ft m_tp m_td m_tk m_bg m_en m_vl m_sg m_wi m_si m_ce m_ca) rfl ?_
  refine hX_go 3 (3) [some (.ref 63), some (.int x0), some (.int x1), some (.int x2), none, none, none, none] [.int 0, .int x0, .ref 63] (hMm c0 m_s m_kp m_as m_ik m_fo m_tl m_tr m_fa m_od m_rc m_be m_ft m_tp m_td m_tk m_bg m_en m_vl m_sg m_wi m_si m_ce m_ca) rfl ?_
  refine hX_call (r' := zR_131) rfl (ct_131_63 x0 0 o1) ?_
  refine hX_goM 4 (11) [some (.ref 63), some (.int x0), some (.int x1), some (.int x2), some (.int (v_131_63 x0 0 m_s)), none, none, none] [.int 1, .int x0, .ref 63] rfl ?_
  refine hX_call (r' := zR_131) rfl (ct_131_63 x0 1 o2) ?_
  refine hX_goM 5 (21) [some (.ref 63), some (.int x0), some (.int x1), some (.int x2), some (.int (v_131_63 x0 0 m_s)), some (.int (v_131_63 x0 1 m_s)), none, none] [.int 2, .int x0, .ref 63, .int (v_131_63 x0 1 m_s)] rfl ?_
  refine hX_call (r' := zR_131) rfl (ct_131_63 x0 2 o3) ?_
  refine hX_goM 5 (bif gCmp .ne (v_131_63 x0 0 m_s) 1 then 44 else 33) [some (.ref 63), some (.int x0), some (.int x1), some (.int x2), some (.int (v_131_63 x0 0 m_s)), some (.int (v_131_63 x0 1 m_s)), some (.int ((v_131_63 x0 1 m_s) + (v_131_63 x0 2 m_s))), none] [] rfl ?_
  suffices hk : hX (gO LL xs) (D + 1) zR_133 97 [some (.ref 63), some (.int x0), some (.int x1), some (.int x2), some (.int (v_131_63 x0 0 m_s)), some (.int (v_131_63 x0 1 m_s)), some (.int ((v_131_63 x0 1 m_s) + (v_131_63 x0 2 m_s))), none] [.int (bif gCmp .ne (v_131_63 x0 0 m_s) 1 then (bif gCmp .eq (v_131_63 x0 0 m_s) 2 then ((v_131_63 x0 1 m_s) + (v_131_63 x0 2 m_s)) else (bif gCmp .ne (v_131_63 x0 0 m_s) 3 then (bif gCmp .ne (v_131_63 x0 0 m_s) 4 then (bif gCmp .le (v_131_63 x0 0 m_s) 4 then (v_131_63 x0 1 m_s) else (bif gCmp .lt x1 (m_s 8) then (v_131_63 x0 1 m_s) else 0)) else (2 * ((v_131_63 x0 1 m_s) + (v_131_63 x0 2 m_s)))) else ((v_131_63 x0 1 m_s) + (v_131_63 x0 2 m_s)))) else ((v_131_63 x0 1 m_s) - ((x1 - x2) / 2)))] (hMm c0 m_s m_kp m_as m_ik m_fo m_tl m_tr m_fa m_od m_rc m_be m_ft m_tp m_td m_tk m_bg m_en m_vl m_sg m_wi m_si m_ce m_ca) (some (.int (v_133_63 x0 x1 x2 m_s))) (hMm c0 m_s m_kp m_as m_ik m_fo m_tl m_tr m_fa m_od m_rc m_be m_ft m_tp m_td m_tk m_bg m_en m_vl m_sg m_wi m_si m_ce m_ca) by
    refine hX_if (gCmp .ne (v_131_63 x0 0 m_s) 1) (fun c1 => ?_) (fun c1 => ?_)
    · skip
      refine hX_goM 3 (bif gCmp .eq (v_131_63 x0 0 m_s) 2 then 56 else 50) [some (.ref 63), some (.int x0), some (.int x1), some (.int x2), some (.int (v_131_63 x0 0 m_s)), some (.int (v_131_63 x0 1 m_s)), some (.int ((v_131_63 x0 1 m_s) + (v_131_63 x0 2 m_s))), none] [] rfl ?_
      refine hX_if (gCmp .eq (v_131_63 x0 0 m_s) 2) (fun c2 => ?_) (fun c2 => ?_)
      · skip
        refine hX_goM 2 (97) [some (.ref 63), some (.int x0), some (.int x1), some (.int x2), some (.int (v_131_63 x0 0 m_s)), some (.int (v_131_63 x0 1 m_s)), some (.int ((v_131_63 x0 1 m_s) + (v_131_63 x0 2 m_s))), none] [.int ((v_131_63 x0 1 m_s) + (v_131_63 x0 2 m_s))] rfl ?_
        have hk := hk
        simp only [c1, c2, cond_true, cond_false] at hk
        first | exact hk | (simp only [c1, c2, cond_true, cond_false]; exact hk)
      · skip
        refine hX_goM 3 (bif gCmp .ne (v_131_63 x0 0 m_s) 3 then 61 else 56) [some (.ref 63), some (.int x0), some (.int x1), some (.int x2), some (.int (v_131_63 x0 0 m_s)), some (.int (v_131_63 x0 1 m_s)), some (.int ((v_131_63 x0 1 m_s) + (v_131_63 x0 2 m_s))), none] [] rfl ?_
        refine hX_if (gCmp .ne (v_131_63 x0 0 m_s) 3) (fun c3 => ?_) (fun c3 => ?_)
        · skip
          refine hX_goM 3 (bif gCmp .ne (v_131_63 x0 0 m_s) 4 then 74 else 67) [some (.ref 63), some (.int x0), some (.int x1), some (.int x2), some (.int (v_131_63 x0 0 m_s)), some (.int (v_131_63 x0 1 m_s)), some (.int ((v_131_63 x0 1 m_s) + (v_131_63 x0 2 m_s))), none] [] rfl ?_
          refine hX_if (gCmp .ne (v_131_63 x0 0 m_s) 4) (fun c4 => ?_) (fun c4 => ?_)
          · skip
            refine hX_goM 3 (bif gCmp .le (v_131_63 x0 0 m_s) 4 then 95 else 80) [some (.ref 63), some (.int x0), some (.int x1), some (.int x2), some (.int (v_131_63 x0 0 m_s)), some (.int (v_131_63 x0 1 m_s)), some (.int ((v_131_63 x0 1 m_s) + (v_131_63 x0 2 m_s))), none] [] rfl ?_
            refine hX_if (gCmp .le (v_131_63 x0 0 m_s) 4) (fun c5 => ?_) (fun c5 => ?_)
            · skip
              refine hX_goM 1 (97) [some (.ref 63), some (.int x0), some (.int x1), some (.int x2), some (.int (v_131_63 x0 0 m_s)), some (.int (v_131_63 x0 1 m_s)), some (.int ((v_131_63 x0 1 m_s) + (v_131_63 x0 2 m_s))), none] [.int (v_131_63 x0 1 m_s)] rfl ?_
              have hk := hk
              simp only [c1, c2, c3, c4, c5, cond_true, cond_false] at hk
              first | exact hk | (simp only [c1, c2, c3, c4, c5, cond_true, cond_false]; exact hk)
            · skip
              refine hX_goM 6 (bif gCmp .lt x1 (m_s 8) then 95 else 91) [some (.ref 63), some (.int x0), some (.int x1), some (.int x2), some (.int (v_131_63 x0 0 m_s)), some (.int (v_131_63 x0 1 m_s)), some (.int ((v_131_63 x0 1 m_s) + (v_131_63 x0 2 m_s))), none] [] rfl ?_
              refine hX_if (gCmp .lt x1 (m_s 8)) (fun c6 => ?_) (fun c6 => ?_)
              · skip
                refine hX_goM 1 (97) [some (.ref 63), some (.int x0), some (.int x1), some (.int x2), some (.int (v_131_63 x0 0 m_s)), some (.int (v_131_63 x0 1 m_s)), some (.int ((v_131_63 x0 1 m_s) + (v_131_63 x0 2 m_s))), none] [.int (v_131_63 x0 1 m_s)] rfl ?_
                have hk := hk
                simp only [c1, c2, c3, c4, c5, c6, cond_true, cond_false] at hk
                first | exact hk | (simp only [c1, c2, c3, c4, c5, c6, cond_true, cond_false]; exact hk)
              · skip
                refine hX_goM 2 (97) [some (.ref 63), some (.int x0), some (.int x1), some (.int x2), some (.int (v_131_63 x0 0 m_s)), some (.int (v_131_63 x0 1 m_s)), some (.int ((v_131_63 x0 1 m_s) + (v_131_63 x0 2 m_s))), none] [.int 0] rfl ?_
                have hk := hk
                simp only [c1, c2, c3, c4, c5, c6, cond_true, cond_false] at hk
                first | exact hk | (simp only [c1, c2, c3, c4, c5, c6, cond_true, cond_false]; exact hk)
          · skip
            refine hX_goM 4 (97) [some (.ref 63), some (.int x0), some (.int x1), some (.int x2), some (.int (v_131_63 x0 0 m_s)), some (.int (v_131_63 x0 1 m_s)), some (.int ((v_131_63 x0 1 m_s) + (v_131_63 x0 2 m_s))), none] [.int (2 * ((v_131_63 x0 1 m_s) + (v_131_63 x0 2 m_s)))] rfl ?_
            have hk := hk
            simp only [c1, c2, c3, c4, cond_true, cond_false] at hk
            first | exact hk | (simp only [c1, c2, c3, c4, cond_true, cond_false]; exact hk)
        · skip
          refine hX_goM 2 (97) [some (.ref 63), some (.int x0), some (.int x1), some (.int x2), some (.int (v_131_63 x0 0 m_s)), some (.int (v_131_63 x0 1 m_s)), some (.int ((v_131_63 x0 1 m_s) + (v_131_63 x0 2 m_s))), none] [.int ((v_131_63 x0 1 m_s) + (v_131_63 x0 2 m_s))] rfl ?_
          have hk := hk
          simp only [c1, c2, c3, cond_true, cond_false] at hk
          first | exact hk | (simp only [c1, c2, c3, cond_true, cond_false]; exact hk)
    · skip
      refine hX_goM 8 (97) [some (.ref 63), some (.int x0), some (.int x1), some (.int x2), some (.int (v_131_63 x0 0 m_s)), some (.int (v_131_63 x0 1 m_s)), some (.int ((v_131_63 x0 1 m_s) + (v_131_63 x0 2 m_s))), none] [.int ((v_131_63 x0 1 m_s) - ((x1 - x2) / 2))] rfl ?_
      have hk := hk
      simp only [c1, cond_true, cond_false] at hk
      first | exact hk | (simp only [c1, cond_true, cond_false]; exact hk)
  refine hX_goM 9 (112) [some (.ref 63), some (.int x0), some (.int x1), some (.int x2), some (.int (v_131_63 x0 0 m_s)), some (.int (v_131_63 x0 1 m_s)), some (.int ((v_131_63 x0 1 m_s) + (v_131_63 x0 2 m_s))), some (.int (bif gCmp .ne (v_131_63 x0 0 m_s) 1 then (bif gCmp .eq (v_131_63 x0 0 m_s) 2 then ((v_131_63 x0 1 m_s) + (v_131_63 x0 2 m_s)) else (bif gCmp .ne (v_131_63 x0 0 m_s) 3 then (bif gCmp .ne (v_131_63 x0 0 m_s) 4 then (bif gCmp .le (v_131_63 x0 0 m_s) 4 then (v_131_63 x0 1 m_s) else (bif gCmp .lt x1 (m_s 8) then (v_131_63 x0 1 m_s) else 0)) else (2 * ((v_131_63 x0 1 m_s) + (v_131_63 x0 2 m_s)))) else ((v_131_63 x0 1 m_s) + (v_131_63 x0 2 m_s)))) else ((v_131_63 x0 1 m_s) - ((x1 - x2) / 2))))] [.int (m_s 7), .int (x1 / 10), .int (bif gCmp .ne (v_131_63 x0 0 m_s) 1 then (bif gCmp .eq (v_131_63 x0 0 m_s) 2 then ((v_131_63 x0 1 m_s) + (v_131_63 x0 2 m_s)) else (bif gCmp .ne (v_131_63 x0 0 m_s) 3 then (bif gCmp .ne (v_131_63 x0 0 m_s) 4 then (bif gCmp .le (v_131_63 x0 0 m_s) 4 then (v_131_63 x0 1 m_s) else (bif gCmp .lt x1 (m_s 8) then (v_131_63 x0 1 m_s) else 0)) else (2 * ((v_131_63 x0 1 m_s) + (v_131_63 x0 2 m_s)))) else ((v_131_63 x0 1 m_s) + (v_131_63 x0 2 m_s)))) else ((v_131_63 x0 1 m_s) - ((x1 - x2) / 2)))] rfl ?_
  refine hX_goM 4 (116) [some (.ref 63), some (.int x0), some (.int x1), some (.int x2), some (.int (v_131_63 x0 0 m_s)), some (.int (v_131_63 x0 1 m_s)), some (.int ((v_131_63 x0 1 m_s) + (v_131_63 x0 2 m_s))), some (.int (bif gCmp .ne (v_131_63 x0 0 m_s) 1 then (bif gCmp .eq (v_131_63 x0 0 m_s) 2 then ((v_131_63 x0 1 m_s) + (v_131_63 x0 2 m_s)) else (bif gCmp .ne (v_131_63 x0 0 m_s) 3 then (bif gCmp .ne (v_131_63 x0 0 m_s) 4 then (bif gCmp .le (v_131_63 x0 0 m_s) 4 then (v_131_63 x0 1 m_s) else (bif gCmp .lt x1 (m_s 8) then (v_131_63 x0 1 m_s) else 0)) else (2 * ((v_131_63 x0 1 m_s) + (v_131_63 x0 2 m_s)))) else ((v_131_63 x0 1 m_s) + (v_131_63 x0 2 m_s)))) else ((v_131_63 x0 1 m_s) - ((x1 - x2) / 2))))] [.int ((bif gCmp .ne (v_131_63 x0 0 m_s) 1 then (bif gCmp .eq (v_131_63 x0 0 m_s) 2 then ((v_131_63 x0 1 m_s) + (v_131_63 x0 2 m_s)) else (bif gCmp .ne (v_131_63 x0 0 m_s) 3 then (bif gCmp .ne (v_131_63 x0 0 m_s) 4 then (bif gCmp .le (v_131_63 x0 0 m_s) 4 then (v_131_63 x0 1 m_s) else (bif gCmp .lt x1 (m_s 8) then (v_131_63 x0 1 m_s) else 0)) else (2 * ((v_131_63 x0 1 m_s) + (v_131_63 x0 2 m_s)))) else ((v_131_63 x0 1 m_s) + (v_131_63 x0 2 m_s)))) else ((v_131_63 x0 1 m_s) - ((x1 - x2) / 2))) + (((x1 / 10) * (m_s 7)) / 4))] rfl ?_
  exact hX_end rfl (rfl) (rfl)

theorem sw_134_51 (x : Int32) : gSwT 51 103 1 6 #[37, 49, 55, 55, 103, 69] x = some (bif hEq x 1 then 88 else bif hEq x 2 then 100 else bif hEq x 3 then 106 else bif hEq x 4 then 106 else bif hEq x 5 then 154 else bif hEq x 6 then 120 else 154) := by
  by_cases q1 : x = 1
  · subst q1; rfl
  by_cases q2 : x = 2
  · subst q2; rfl
  by_cases q3 : x = 3
  · subst q3; rfl
  by_cases q4 : x = 4
  · subst q4; rfl
  by_cases q5 : x = 5
  · subst q5; rfl
  by_cases q6 : x = 6
  · subst q6; rfl
  simp only [hEq, q1, q2, q3, q4, q5, q6, decide_false, cond_false]
  have n1 := hNe q1
  have n2 := hNe q2
  have n3 := hNe q3
  have n4 := hNe q4
  have n5 := hNe q5
  have n6 := hNe q6
  unfold gSwT
  rw [show (decide (x.toInt < 1) || decide (6 < x.toInt)) = true from by
    simp only [Bool.or_eq_true, decide_eq_true_eq]
    have e : ∀ z : Int, z < 1 ∨ 6 < z ∨ (z = 1 ∨ z = 2 ∨ z = 3 ∨ z = 4 ∨ z = 5 ∨ z = 6) := by intro z; omega
    rcases e x.toInt with h | h | h
    · exact Or.inl h
    · exact Or.inr h
    · rcases h with h | h | h | h | h | h
      · exact absurd h n1
      · exact absurd h n2
      · exact absurd h n3
      · exact absurd h n4
      · exact absurd h n5
      · exact absurd h n6
    ]
  rfl

/-- UpOneSideModel.rightBy(III)I -/
def v_134_63 (x0 : Int32) (x1 : Int32) (x2 : Int32) (m_s : Nat → Int32) : Int32 := bif hEq (v_131_63 x0 0 m_s) 1 then (((v_131_63 x0 1 m_s) + ((x1 - x2) / 2)) + (bif gCmp .lt x2 30 then 0 else (m_s 5))) else (bif hEq (v_131_63 x0 0 m_s) 2 then ((((v_131_63 x0 1 m_s) - (m_s 6)) - (v_131_63 x0 2 m_s)) + (bif gCmp .lt x2 30 then 0 else (m_s 5))) else (bif hEq (v_131_63 x0 0 m_s) 3 then (((((v_131_63 x0 1 m_s) - (m_s 6)) - (v_131_63 x0 2 m_s)) - (m_s 6)) + (bif gCmp .lt x2 30 then 0 else (m_s 5))) else (bif hEq (v_131_63 x0 0 m_s) 4 then (((((v_131_63 x0 1 m_s) - (m_s 6)) - (v_131_63 x0 2 m_s)) - (m_s 6)) + (bif gCmp .lt x2 30 then 0 else (m_s 5))) else (bif hEq (v_131_63 x0 0 m_s) 5 then (((v_131_63 x0 1 m_s) - (m_s 6)) + (bif gCmp .lt x2 30 then 0 else (m_s 5))) else (bif hEq (v_131_63 x0 0 m_s) 6 then ((bif gCmp .le x2 x1 then ((v_131_63 x0 1 m_s) - (m_s 6)) else (((v_131_63 x0 1 m_s) - (m_s 6)) / 2)) + (bif gCmp .lt x2 30 then 0 else (m_s 5))) else (((v_131_63 x0 1 m_s) - (m_s 6)) + (bif gCmp .lt x2 30 then 0 else (m_s 5))))))))
set_option maxRecDepth 20000 in
set_option maxHeartbeats 1000000 in
theorem ct_134_63 {LL : Nat} {xs : Nat → Int32} {D : Nat} {c0 : Nat → gE} {m_s : Nat → Int32} {m_kp : Nat → Int32} {m_as : Nat → Int32} {m_ik : Int32} {m_fo : Nat → Int32} {m_tl : Int32} {m_tr : Int32} {m_fa : Nat → Int32} {m_od : Nat → Int32} {m_rc : Int32} {m_be : Nat → Int32} {m_ft : Int32} {m_tp : Nat → Int32} {m_td : Int32} {m_tk : Int32} {m_bg : Int32} {m_en : Int32} {m_vl : Int64} {m_sg : Int32} {m_wi : Nat → Int32} {m_si : Nat → Int32} {m_ce : Nat → Int32} {m_ca : Nat → Int32} (x0 : Int32) (x1 : Int32) (x2 : Int32) (o1 : gIn ((15 + (3 * x0)) + 1) 134 = true) (o2 : gIn ((15 + (3 * x0)) + 2) 134 = true) (o3 : gIn ((15 + (3 * x0)) + 0) 134 = true) : hM (gO LL xs) (D + 1) zR_134 [.ref 63, .int x0, .int x1, .int x2] (hMm c0 m_s m_kp m_as m_ik m_fo m_tl m_tr m_fa m_od m_rc m_be m_ft m_tp m_td m_tk m_bg m_en m_vl m_sg m_wi m_si m_ce m_ca) (some (.int (v_134_63 x0 x1 x2 m_s))) (hMm c0 m_s m_kp m_as m_ik m_fo m_tl m_tr m_fa m_od m_rc m_be m_ft m_tp m_td m_tk m_bg m_en m_vl m_sg m_wi m_si m_ce m_ca) := by
  refine hX_go 0 0 [some (.ref 63), some (.int x0), some (.int x1), some (.int x2), none, none, none] [] (hMm c0 m_s m_kp m_as m_ik m_fo m_tl m_tr m_fa m_od m_rc m_be m_ft m_tp m_td m_tk m_bg m_en m_vl m_sg m_wi m_si m_ce m_ca) rfl ?_
  refine hX_go 3 (3) [some (.ref 63), some (.int x0), some (.int x1), some (.int x2), none, none, none] [.int 1, .int x0, .ref 63] (hMm c0 m_s m_kp m_as m_ik m_fo m_tl m_tr m_fa m_od m_rc m_be m_ft m_tp m_td m_tk m_bg m_en m_vl m_sg m_wi m_si m_ce m_ca) rfl ?_
  refine hX_call (r' := zR_131) rfl (ct_131_63 x0 1 o1) ?_
  refine hX_goM 9 (20) [some (.ref 63), some (.int x0), some (.int x1), some (.int x2), some (.int (v_131_63 x0 1 m_s)), none, none] [.int x0, .ref 63, .int ((v_131_63 x0 1 m_s) - (m_s 6))] rfl ?_
  refine hX_goM 1 (21) [some (.ref 63), some (.int x0), some (.int x1), some (.int x2), some (.int (v_131_63 x0 1 m_s)), none, none] [.int 2, .int x0, .ref 63, .int ((v_131_63 x0 1 m_s) - (m_s 6))] rfl ?_
  refine hX_call (r' := zR_131) rfl (ct_131_63 x0 2 o2) ?_
  refine hX_goM 5 (bif gCmp .lt x2 30 then 42 else 33) [some (.ref 63), some (.int x0), some (.int x1), some (.int x2), some (.int (v_131_63 x0 1 m_s)), some (.int (((v_131_63 x0 1 m_s) - (m_s 6)) - (v_131_63 x0 2 m_s))), none] [] rfl ?_
  suffices hk : hX (gO LL xs) (D + 1) zR_134 43 [some (.ref 63), some (.int x0), some (.int x1), some (.int x2), some (.int (v_131_63 x0 1 m_s)), some (.int (((v_131_63 x0 1 m_s) - (m_s 6)) - (v_131_63 x0 2 m_s))), none] [.int (bif gCmp .lt x2 30 then 0 else (m_s 5))] (hMm c0 m_s m_kp m_as m_ik m_fo m_tl m_tr m_fa m_od m_rc m_be m_ft m_tp m_td m_tk m_bg m_en m_vl m_sg m_wi m_si m_ce m_ca) (some (.int (v_134_63 x0 x1 x2 m_s))) (hMm c0 m_s m_kp m_as m_ik m_fo m_tl m_tr m_fa m_od m_rc m_be m_ft m_tp m_td m_tk m_bg m_en m_vl m_sg m_wi m_si m_ce m_ca) by
    refine hX_if (gCmp .lt x2 30) (fun c1 => ?_) (fun c1 => ?_)
    · skip
      refine hX_goM 1 (43) [some (.ref 63), some (.int x0), some (.int x1), some (.int x2), some (.int (v_131_63 x0 1 m_s)), some (.int (((v_131_63 x0 1 m_s) - (m_s 6)) - (v_131_63 x0 2 m_s))), none] [.int 0] rfl ?_
      have hk := hk
      simp only [c1, cond_true, cond_false] at hk
      first | exact hk | (simp only [c1, cond_true, cond_false]; exact hk)
    · skip
      refine hX_goM 5 (43) [some (.ref 63), some (.int x0), some (.int x1), some (.int x2), some (.int (v_131_63 x0 1 m_s)), some (.int (((v_131_63 x0 1 m_s) - (m_s 6)) - (v_131_63 x0 2 m_s))), none] [.int (m_s 5)] rfl ?_
      have hk := hk
      simp only [c1, cond_true, cond_false] at hk
      first | exact hk | (simp only [c1, cond_true, cond_false]; exact hk)
  refine hX_goM 4 (48) [some (.ref 63), some (.int x0), some (.int x1), some (.int x2), some (.int (v_131_63 x0 1 m_s)), some (.int (((v_131_63 x0 1 m_s) - (m_s 6)) - (v_131_63 x0 2 m_s))), some (.int (bif gCmp .lt x2 30 then 0 else (m_s 5)))] [.int 0, .int x0, .ref 63] rfl ?_
  refine hX_call (r' := zR_131) rfl (ct_131_63 x0 0 o3) ?_
  refine hX_goM 0 (51) [some (.ref 63), some (.int x0), some (.int x1), some (.int x2), some (.int (v_131_63 x0 1 m_s)), some (.int (((v_131_63 x0 1 m_s) - (m_s 6)) - (v_131_63 x0 2 m_s))), some (.int (bif gCmp .lt x2 30 then 0 else (m_s 5)))] [.int (v_131_63 x0 0 m_s)] rfl ?_
  refine hX_sw (bif hEq (v_131_63 x0 0 m_s) 1 then 88 else bif hEq (v_131_63 x0 0 m_s) 2 then 100 else bif hEq (v_131_63 x0 0 m_s) 3 then 106 else bif hEq (v_131_63 x0 0 m_s) 4 then 106 else bif hEq (v_131_63 x0 0 m_s) 5 then 154 else bif hEq (v_131_63 x0 0 m_s) 6 then 120 else 154) rfl (sw_134_51 (v_131_63 x0 0 m_s)) ?_
  refine hX_if (hEq (v_131_63 x0 0 m_s) 1) (fun c2 => ?_) (fun c2 => ?_)
  · skip
    refine hX_goM 9 (99) [some (.ref 63), some (.int x0), some (.int x1), some (.int x2), some (.int (v_131_63 x0 1 m_s)), some (.int (((v_131_63 x0 1 m_s) - (m_s 6)) - (v_131_63 x0 2 m_s))), some (.int (bif gCmp .lt x2 30 then 0 else (m_s 5)))] [.int (((v_131_63 x0 1 m_s) + ((x1 - x2) / 2)) + (bif gCmp .lt x2 30 then 0 else (m_s 5)))] rfl ?_
    exact hX_end rfl (by unfold v_134_63; rw [c2]; rfl) (rfl)
  · skip
    refine hX_if (hEq (v_131_63 x0 0 m_s) 2) (fun c3 => ?_) (fun c3 => ?_)
    · skip
      refine hX_goM 3 (105) [some (.ref 63), some (.int x0), some (.int x1), some (.int x2), some (.int (v_131_63 x0 1 m_s)), some (.int (((v_131_63 x0 1 m_s) - (m_s 6)) - (v_131_63 x0 2 m_s))), some (.int (bif gCmp .lt x2 30 then 0 else (m_s 5)))] [.int ((((v_131_63 x0 1 m_s) - (m_s 6)) - (v_131_63 x0 2 m_s)) + (bif gCmp .lt x2 30 then 0 else (m_s 5)))] rfl ?_
      exact hX_end rfl (by unfold v_134_63; rw [c2, c3]; rfl) (rfl)
    · skip
      refine hX_if (hEq (v_131_63 x0 0 m_s) 3) (fun c4 => ?_) (fun c4 => ?_)
      · skip
        refine hX_goM 8 (119) [some (.ref 63), some (.int x0), some (.int x1), some (.int x2), some (.int (v_131_63 x0 1 m_s)), some (.int (((v_131_63 x0 1 m_s) - (m_s 6)) - (v_131_63 x0 2 m_s))), some (.int (bif gCmp .lt x2 30 then 0 else (m_s 5)))] [.int (((((v_131_63 x0 1 m_s) - (m_s 6)) - (v_131_63 x0 2 m_s)) - (m_s 6)) + (bif gCmp .lt x2 30 then 0 else (m_s 5)))] rfl ?_
        exact hX_end rfl (by unfold v_134_63; rw [c2, c3, c4]; rfl) (rfl)
      · skip
        refine hX_if (hEq (v_131_63 x0 0 m_s) 4) (fun c5 => ?_) (fun c5 => ?_)
        · skip
          refine hX_goM 8 (119) [some (.ref 63), some (.int x0), some (.int x1), some (.int x2), some (.int (v_131_63 x0 1 m_s)), some (.int (((v_131_63 x0 1 m_s) - (m_s 6)) - (v_131_63 x0 2 m_s))), some (.int (bif gCmp .lt x2 30 then 0 else (m_s 5)))] [.int (((((v_131_63 x0 1 m_s) - (m_s 6)) - (v_131_63 x0 2 m_s)) - (m_s 6)) + (bif gCmp .lt x2 30 then 0 else (m_s 5)))] rfl ?_
          exact hX_end rfl (by unfold v_134_63; rw [c2, c3, c4, c5]; rfl) (rfl)
        · skip
          refine hX_if (hEq (v_131_63 x0 0 m_s) 5) (fun c6 => ?_) (fun c6 => ?_)
          · skip
            refine hX_goM 8 (167) [some (.ref 63), some (.int x0), some (.int x1), some (.int x2), some (.int (v_131_63 x0 1 m_s)), some (.int (((v_131_63 x0 1 m_s) - (m_s 6)) - (v_131_63 x0 2 m_s))), some (.int (bif gCmp .lt x2 30 then 0 else (m_s 5)))] [.int (((v_131_63 x0 1 m_s) - (m_s 6)) + (bif gCmp .lt x2 30 then 0 else (m_s 5)))] rfl ?_
            exact hX_end rfl (by unfold v_134_63; rw [c2, c3, c4, c5, c6]; rfl) (rfl)
          · skip
            refine hX_if (hEq (v_131_63 x0 0 m_s) 6) (fun c7 => ?_) (fun c7 => ?_)
            · skip
              refine hX_goM 3 (bif gCmp .le x2 x1 then 140 else 125) [some (.ref 63), some (.int x0), some (.int x1), some (.int x2), some (.int (v_131_63 x0 1 m_s)), some (.int (((v_131_63 x0 1 m_s) - (m_s 6)) - (v_131_63 x0 2 m_s))), some (.int (bif gCmp .lt x2 30 then 0 else (m_s 5)))] [] rfl ?_
              suffices hk : hX (gO LL xs) (D + 1) zR_134 150 [some (.ref 63), some (.int x0), some (.int x1), some (.int x2), some (.int (v_131_63 x0 1 m_s)), some (.int (((v_131_63 x0 1 m_s) - (m_s 6)) - (v_131_63 x0 2 m_s))), some (.int (bif gCmp .lt x2 30 then 0 else (m_s 5)))] [.int (bif gCmp .le x2 x1 then ((v_131_63 x0 1 m_s) - (m_s 6)) else (((v_131_63 x0 1 m_s) - (m_s 6)) / 2))] (hMm c0 m_s m_kp m_as m_ik m_fo m_tl m_tr m_fa m_od m_rc m_be m_ft m_tp m_td m_tk m_bg m_en m_vl m_sg m_wi m_si m_ce m_ca) (some (.int (v_134_63 x0 x1 x2 m_s))) (hMm c0 m_s m_kp m_as m_ik m_fo m_tl m_tr m_fa m_od m_rc m_be m_ft m_tp m_td m_tk m_bg m_en m_vl m_sg m_wi m_si m_ce m_ca) by
                refine hX_if (gCmp .le x2 x1) (fun c8 => ?_) (fun c8 => ?_)
                · skip
                  refine hX_goM 6 (150) [some (.ref 63), some (.int x0), some (.int x1), some (.int x2), some (.int (v_131_63 x0 1 m_s)), some (.int (((v_131_63 x0 1 m_s) - (m_s 6)) - (v_131_63 x0 2 m_s))), some (.int (bif gCmp .lt x2 30 then 0 else (m_s 5)))] [.int ((v_131_63 x0 1 m_s) - (m_s 6))] rfl ?_
                  have hk := hk
                  simp only [c8, cond_true, cond_false] at hk
                  first | exact hk | (simp only [c8, cond_true, cond_false]; exact hk)
                · skip
                  refine hX_goM 9 (150) [some (.ref 63), some (.int x0), some (.int x1), some (.int x2), some (.int (v_131_63 x0 1 m_s)), some (.int (((v_131_63 x0 1 m_s) - (m_s 6)) - (v_131_63 x0 2 m_s))), some (.int (bif gCmp .lt x2 30 then 0 else (m_s 5)))] [.int (((v_131_63 x0 1 m_s) - (m_s 6)) / 2)] rfl ?_
                  have hk := hk
                  simp only [c8, cond_true, cond_false] at hk
                  first | exact hk | (simp only [c8, cond_true, cond_false]; exact hk)
              refine hX_goM 2 (153) [some (.ref 63), some (.int x0), some (.int x1), some (.int x2), some (.int (v_131_63 x0 1 m_s)), some (.int (((v_131_63 x0 1 m_s) - (m_s 6)) - (v_131_63 x0 2 m_s))), some (.int (bif gCmp .lt x2 30 then 0 else (m_s 5)))] [.int ((bif gCmp .le x2 x1 then ((v_131_63 x0 1 m_s) - (m_s 6)) else (((v_131_63 x0 1 m_s) - (m_s 6)) / 2)) + (bif gCmp .lt x2 30 then 0 else (m_s 5)))] rfl ?_
              exact hX_end rfl (by unfold v_134_63; rw [c2, c3, c4, c5, c6, c7]; rfl) (rfl)
            · skip
              refine hX_goM 8 (167) [some (.ref 63), some (.int x0), some (.int x1), some (.int x2), some (.int (v_131_63 x0 1 m_s)), some (.int (((v_131_63 x0 1 m_s) - (m_s 6)) - (v_131_63 x0 2 m_s))), some (.int (bif gCmp .lt x2 30 then 0 else (m_s 5)))] [.int (((v_131_63 x0 1 m_s) - (m_s 6)) + (bif gCmp .lt x2 30 then 0 else (m_s 5)))] rfl ?_
              exact hX_end rfl (by unfold v_134_63; rw [c2, c3, c4, c5, c6, c7]; rfl) (rfl)

/-- UpOneSideModel.begins()V -/
def f_135_63_m_tl (m_s : Nat → Int32) : Int32 := m_s 0
def f_135_63_m_tr (m_s : Nat → Int32) : Int32 := m_s 1
set_option maxRecDepth 20000 in
set_option maxHeartbeats 1000000 in
theorem ct_135_63 {LL : Nat} {xs : Nat → Int32} {D : Nat} {c0 : Nat → gE} {m_s : Nat → Int32} {m_kp : Nat → Int32} {m_as : Nat → Int32} {m_ik : Int32} {m_fo : Nat → Int32} {m_tl : Int32} {m_tr : Int32} {m_fa : Nat → Int32} {m_od : Nat → Int32} {m_rc : Int32} {m_be : Nat → Int32} {m_ft : Int32} {m_tp : Nat → Int32} {m_td : Int32} {m_tk : Int32} {m_bg : Int32} {m_en : Int32} {m_vl : Int64} {m_sg : Int32} {m_wi : Nat → Int32} {m_si : Nat → Int32} {m_ce : Nat → Int32} {m_ca : Nat → Int32} : hM (gO LL xs) (D + 0) zR_135 [.ref 63] (hMm c0 m_s m_kp m_as m_ik m_fo m_tl m_tr m_fa m_od m_rc m_be m_ft m_tp m_td m_tk m_bg m_en m_vl m_sg m_wi m_si m_ce m_ca) none (hMm c0 m_s m_kp m_as m_ik m_fo (f_135_63_m_tl m_s) (f_135_63_m_tr m_s) m_fa m_od m_rc m_be m_ft m_tp m_td m_tk m_bg m_en m_vl m_sg m_wi m_si m_ce m_ca) := by
  refine hX_go 0 0 [some (.ref 63)] [] (hMm c0 m_s m_kp m_as m_ik m_fo m_tl m_tr m_fa m_od m_rc m_be m_ft m_tp m_td m_tk m_bg m_en m_vl m_sg m_wi m_si m_ce m_ca) rfl ?_
  refine hX_go 9 (15) [some (.ref 63)] [.ref 64, .ref 63] (hMm c0 m_s m_kp m_as m_ik m_fo (m_s 0) m_tr m_fa m_od m_rc m_be m_ft m_tp m_td m_tk m_bg m_en m_vl m_sg m_wi m_si m_ce m_ca) rfl ?_
  refine hX_go 3 (20) [some (.ref 63)] [] (hMm c0 m_s m_kp m_as m_ik m_fo (m_s 0) (m_s 1) m_fa m_od m_rc m_be m_ft m_tp m_td m_tk m_bg m_en m_vl m_sg m_wi m_si m_ce m_ca) rfl ?_
  exact hX_end rfl (rfl) (rfl)

/-- UpOneSideModel.thinks(I)V -/
def f_136_63_m_tl (x0 : Int32) (m_s : Nat → Int32) (m_tl : Int32) (m_tr : Int32) : Int32 := v_127 (m_tl + (v_133_63 x0 m_tl m_tr m_s))
def f_136_63_m_tr (x0 : Int32) (m_s : Nat → Int32) (m_tl : Int32) (m_tr : Int32) : Int32 := v_127 (m_tr + (v_134_63 x0 m_tl m_tr m_s))
set_option maxRecDepth 20000 in
set_option maxHeartbeats 1000000 in
theorem ct_136_63 {LL : Nat} {xs : Nat → Int32} {D : Nat} {c0 : Nat → gE} {m_s : Nat → Int32} {m_kp : Nat → Int32} {m_as : Nat → Int32} {m_ik : Int32} {m_fo : Nat → Int32} {m_tl : Int32} {m_tr : Int32} {m_fa : Nat → Int32} {m_od : Nat → Int32} {m_rc : Int32} {m_be : Nat → Int32} {m_ft : Int32} {m_tp : Nat → Int32} {m_td : Int32} {m_tk : Int32} {m_bg : Int32} {m_en : Int32} {m_vl : Int64} {m_sg : Int32} {m_wi : Nat → Int32} {m_si : Nat → Int32} {m_ce : Nat → Int32} {m_ca : Nat → Int32} (x0 : Int32) (o1 : gIn ((15 + (3 * x0)) + 0) 134 = true) (o2 : gIn ((15 + (3 * x0)) + 1) 134 = true) (o3 : gIn ((15 + (3 * x0)) + 2) 134 = true) : hM (gO LL xs) (D + 2) zR_136 [.ref 63, .int x0] (hMm c0 m_s m_kp m_as m_ik m_fo m_tl m_tr m_fa m_od m_rc m_be m_ft m_tp m_td m_tk m_bg m_en m_vl m_sg m_wi m_si m_ce m_ca) none (hMm c0 m_s m_kp m_as m_ik m_fo (f_136_63_m_tl x0 m_s m_tl m_tr) (f_136_63_m_tr x0 m_s m_tl m_tr) m_fa m_od m_rc m_be m_ft m_tp m_td m_tk m_bg m_en m_vl m_sg m_wi m_si m_ce m_ca) := by
  refine hX_go 0 0 [some (.ref 63), some (.int x0), none, none] [] (hMm c0 m_s m_kp m_as m_ik m_fo m_tl m_tr m_fa m_od m_rc m_be m_ft m_tp m_td m_tk m_bg m_en m_vl m_sg m_wi m_si m_ce m_ca) rfl ?_
  refine hX_go 6 (10) [some (.ref 63), some (.int x0), none, none] [.int m_tr, .int m_tl, .int x0, .ref 63] (hMm c0 m_s m_kp m_as m_ik m_fo m_tl m_tr m_fa m_od m_rc m_be m_ft m_tp m_td m_tk m_bg m_en m_vl m_sg m_wi m_si m_ce m_ca) rfl ?_
  refine hX_call (r' := zR_133) rfl (ct_133_63 x0 m_tl m_tr o1 o2 o3) ?_
  refine hX_goM 7 (24) [some (.ref 63), some (.int x0), some (.int (v_133_63 x0 m_tl m_tr m_s)), none] [.int m_tr, .int m_tl, .int x0, .ref 63] rfl ?_
  refine hX_call (r' := zR_134) rfl (ct_134_63 x0 m_tl m_tr o2 o3 o1) ?_
  refine hX_goM 6 (35) [some (.ref 63), some (.int x0), some (.int (v_133_63 x0 m_tl m_tr m_s)), some (.int (v_134_63 x0 m_tl m_tr m_s))] [.int (m_tl + (v_133_63 x0 m_tl m_tr m_s)), .ref 63] rfl ?_
  refine hX_call (r' := zR_127) rfl (ct_127 (m_tl + (v_133_63 x0 m_tl m_tr m_s))) ?_
  refine hX_go 6 (48) [some (.ref 63), some (.int x0), some (.int (v_133_63 x0 m_tl m_tr m_s)), some (.int (v_134_63 x0 m_tl m_tr m_s))] [.int (m_tr + (v_134_63 x0 m_tl m_tr m_s)), .ref 63] (hMm c0 m_s m_kp m_as m_ik m_fo (v_127 (m_tl + (v_133_63 x0 m_tl m_tr m_s))) m_tr m_fa m_od m_rc m_be m_ft m_tp m_td m_tk m_bg m_en m_vl m_sg m_wi m_si m_ce m_ca) rfl ?_
  refine hX_call (r' := zR_127) rfl (ct_127 (m_tr + (v_134_63 x0 m_tl m_tr m_s))) ?_
  refine hX_go 1 (54) [some (.ref 63), some (.int x0), some (.int (v_133_63 x0 m_tl m_tr m_s)), some (.int (v_134_63 x0 m_tl m_tr m_s))] [] (hMm c0 m_s m_kp m_as m_ik m_fo (v_127 (m_tl + (v_133_63 x0 m_tl m_tr m_s))) (v_127 (m_tr + (v_134_63 x0 m_tl m_tr m_s))) m_fa m_od m_rc m_be m_ft m_tp m_td m_tk m_bg m_en m_vl m_sg m_wi m_si m_ce m_ca) rfl ?_
  exact hX_end rfl (rfl) (rfl)

/-- UpOneSideModel.offBehind: the loop at 6 -/
def lp_137_63_6 (N : Nat) (y1 : Int32) (y2 : Int32) (m_s : Nat → Int32) : Nat → Int32 → Int32 → Int32 → Option (Int32 × Int32 × Int32)
  | 0, _, _, _ => none
  | n + 1, y3, m_tl, m_tr =>
    (bif gCmp .ge y3 y2 then
      some (y3, m_tl, m_tr)
    else
      (bif gIn ((15 + (3 * y1)) + 0) 134 then (bif gIn ((15 + (3 * y1)) + 1) 134 then (bif gIn ((15 + (3 * y1)) + 2) 134 then lp_137_63_6 N y1 y2 m_s n (y3 + 1) (f_136_63_m_tl y1 m_s m_tl m_tr) (f_136_63_m_tr y1 m_s m_tl m_tr) else none) else none) else none))
set_option maxRecDepth 20000 in
set_option maxHeartbeats 4000000 in
theorem lt_137_63_6 {LL : Nat} {xs : Nat → Int32} {D N : Nat} {c0 : Nat → gE} {m_s : Nat → Int32} {m_kp : Nat → Int32} {m_as : Nat → Int32} {m_ik : Int32} {m_fo : Nat → Int32}   {m_fa : Nat → Int32} {m_od : Nat → Int32} {m_rc : Int32} {m_be : Nat → Int32} {m_ft : Int32} {m_tp : Nat → Int32} {m_td : Int32} {m_tk : Int32} {m_bg : Int32} {m_en : Int32} {m_vl : Int64} {m_sg : Int32} {m_wi : Nat → Int32} {m_si : Nat → Int32} {m_ce : Nat → Int32} {m_ca : Nat → Int32} {y1 : Int32} {y2 : Int32} {v : Option Value} {M' : List gE} : ∀ (n : Nat) (y3 : Int32) (m_tl : Int32) (m_tr : Int32) (q : Int32 × Int32 × Int32), lp_137_63_6 N y1 y2 m_s n y3 m_tl m_tr = some q → (kk : hX (gO LL xs) (D + 3) zR_137 22 [some (.ref 63), some (.int y1), some (.int y2), some (.int q.1)] [] (hMm c0 m_s m_kp m_as m_ik m_fo q.2.1 q.2.2 m_fa m_od m_rc m_be m_ft m_tp m_td m_tk m_bg m_en m_vl m_sg m_wi m_si m_ce m_ca) v M') → hX (gO LL xs) (D + 3) zR_137 6 [some (.ref 63), some (.int y1), some (.int y2), some (.int y3)] [] (hMm c0 m_s m_kp m_as m_ik m_fo m_tl m_tr m_fa m_od m_rc m_be m_ft m_tp m_td m_tk m_bg m_en m_vl m_sg m_wi m_si m_ce m_ca) v M' := by
  intro n
  induction n with
  | zero => intro y3 m_tl m_tr q h; cases h
  | succ n ih =>
    intro y3 m_tl m_tr q h kk
    rw [lp_137_63_6] at h
    refine hX_go 3 (bif gCmp .ge y3 y2 then 22 else 11) [some (.ref 63), some (.int y1), some (.int y2), some (.int y3)] [] (hMm c0 m_s m_kp m_as m_ik m_fo m_tl m_tr m_fa m_od m_rc m_be m_ft m_tp m_td m_tk m_bg m_en m_vl m_sg m_wi m_si m_ce m_ca) rfl ?_
    refine hX_if (gCmp .ge y3 y2) (fun c1 => ?_) (fun c1 => ?_)
    · skip
      have h := gcT c1 h
      have h := Option.some.inj h; subst h
      exact kk
    · skip
      have h := gcF c1 h
      refine hX_goM 2 (13) [some (.ref 63), some (.int y1), some (.int y2), some (.int y3)] [.int y1, .ref 63] rfl ?_
      revert h; refine gCondR fun g2 h => ?_
      revert h; refine gCondR fun g3 h => ?_
      revert h; refine gCondR fun g4 h => ?_
      refine hX_call (r' := zR_136) rfl (ct_136_63 y1 g2 g3 g4) ?_
      refine hX_go 2 (6) [some (.ref 63), some (.int y1), some (.int y2), some (.int (y3 + 1))] [] (hMm c0 m_s m_kp m_as m_ik m_fo (f_136_63_m_tl y1 m_s m_tl m_tr) (f_136_63_m_tr y1 m_s m_tl m_tr) m_fa m_od m_rc m_be m_ft m_tp m_td m_tk m_bg m_en m_vl m_sg m_wi m_si m_ce m_ca) rfl ?_
      exact ih (y3 + 1) (f_136_63_m_tl y1 m_s m_tl m_tr) (f_136_63_m_tr y1 m_s m_tl m_tr) q h kk

/-- UpOneSideModel.offBehind(II)I -/
def me_137_63 (N : Nat) (x0 : Int32) (x1 : Int32) (m_s : Nat → Int32) : Option (Int32 × Int32 × Int32) :=
  (Option.bind (lp_137_63_6 N x0 x1 m_s N 0 (f_135_63_m_tl m_s) (f_135_63_m_tr m_s)) fun q1 =>
  some (q1.2.1 - q1.2.2, q1.2.1, q1.2.2))
set_option maxRecDepth 20000 in
set_option maxHeartbeats 4000000 in
theorem mt_137_63 {LL : Nat} {xs : Nat → Int32} {D : Nat} {c0 : Nat → gE} {m_s : Nat → Int32} {m_kp : Nat → Int32} {m_as : Nat → Int32} {m_ik : Int32} {m_fo : Nat → Int32} {m_tl : Int32} {m_tr : Int32} {m_fa : Nat → Int32} {m_od : Nat → Int32} {m_rc : Int32} {m_be : Nat → Int32} {m_ft : Int32} {m_tp : Nat → Int32} {m_td : Int32} {m_tk : Int32} {m_bg : Int32} {m_en : Int32} {m_vl : Int64} {m_sg : Int32} {m_wi : Nat → Int32} {m_si : Nat → Int32} {m_ce : Nat → Int32} {m_ca : Nat → Int32} (N : Nat) (x0 : Int32) (x1 : Int32) (q : Int32 × Int32 × Int32) (h : me_137_63 N x0 x1 m_s = some q) : hM (gO LL xs) (D + 3) zR_137 [.ref 63, .int x0, .int x1] (hMm c0 m_s m_kp m_as m_ik m_fo m_tl m_tr m_fa m_od m_rc m_be m_ft m_tp m_td m_tk m_bg m_en m_vl m_sg m_wi m_si m_ce m_ca) (some (.int q.1)) (hMm c0 m_s m_kp m_as m_ik m_fo q.2.1 q.2.2 m_fa m_od m_rc m_be m_ft m_tp m_td m_tk m_bg m_en m_vl m_sg m_wi m_si m_ce m_ca) := by
  unfold me_137_63 at h
  refine hX_go 0 0 [some (.ref 63), some (.int x0), some (.int x1), none] [] (hMm c0 m_s m_kp m_as m_ik m_fo m_tl m_tr m_fa m_od m_rc m_be m_ft m_tp m_td m_tk m_bg m_en m_vl m_sg m_wi m_si m_ce m_ca) rfl ?_
  refine hX_go 1 (1) [some (.ref 63), some (.int x0), some (.int x1), none] [.ref 63] (hMm c0 m_s m_kp m_as m_ik m_fo m_tl m_tr m_fa m_od m_rc m_be m_ft m_tp m_td m_tk m_bg m_en m_vl m_sg m_wi m_si m_ce m_ca) rfl ?_
  refine hX_call (r' := zR_135) rfl (ct_135_63) ?_
  refine hX_go 2 (6) [some (.ref 63), some (.int x0), some (.int x1), some (.int 0)] [] (hMm c0 m_s m_kp m_as m_ik m_fo (f_135_63_m_tl m_s) (f_135_63_m_tr m_s) m_fa m_od m_rc m_be m_ft m_tp m_td m_tk m_bg m_en m_vl m_sg m_wi m_si m_ce m_ca) rfl ?_
  revert h; refine gBindR fun q1 e1 h => ?_
  refine lt_137_63_6 N 0 (f_135_63_m_tl m_s) (f_135_63_m_tr m_s) q1 e1 ?_
  refine hX_go 5 (31) [some (.ref 63), some (.int x0), some (.int x1), some (.int q1.1)] [.int (q1.2.1 - q1.2.2)] (hMm c0 m_s m_kp m_as m_ik m_fo q1.2.1 q1.2.2 m_fa m_od m_rc m_be m_ft m_tp m_td m_tk m_bg m_en m_vl m_sg m_wi m_si m_ce m_ca) rfl ?_
  have h := Option.some.inj h; subst h
  exact hX_end rfl rfl rfl

/-- UpOneSideModel.addsPull(I)V -/
def f_138_63_m_s (x0 : Int32) (m_s : Nat → Int32) : Nat → Int32 := upd (f_132_63_m_s (m_s 3) 2 0 (f_132_63_m_s (m_s 3) 1 5 (f_132_63_m_s (m_s 3) 0 x0 m_s))) 3 (((f_132_63_m_s (m_s 3) 2 0 (f_132_63_m_s (m_s 3) 1 5 (f_132_63_m_s (m_s 3) 0 x0 m_s))) 3) + 1)
set_option maxRecDepth 20000 in
set_option maxHeartbeats 1000000 in
theorem ct_138_63 {LL : Nat} {xs : Nat → Int32} {D : Nat} {c0 : Nat → gE} {m_s : Nat → Int32} {m_kp : Nat → Int32} {m_as : Nat → Int32} {m_ik : Int32} {m_fo : Nat → Int32} {m_tl : Int32} {m_tr : Int32} {m_fa : Nat → Int32} {m_od : Nat → Int32} {m_rc : Int32} {m_be : Nat → Int32} {m_ft : Int32} {m_tp : Nat → Int32} {m_td : Int32} {m_tk : Int32} {m_bg : Int32} {m_en : Int32} {m_vl : Int64} {m_sg : Int32} {m_wi : Nat → Int32} {m_si : Nat → Int32} {m_ce : Nat → Int32} {m_ca : Nat → Int32} (x0 : Int32) (o1 : gIn ((15 + (3 * (m_s 3))) + 0) 134 = true) (o2 : gIn ((15 + (3 * (m_s 3))) + 1) 134 = true) (o3 : gIn ((15 + (3 * (m_s 3))) + 2) 134 = true) : hM (gO LL xs) (D + 1) zR_138 [.ref 63, .int x0] (hMm c0 m_s m_kp m_as m_ik m_fo m_tl m_tr m_fa m_od m_rc m_be m_ft m_tp m_td m_tk m_bg m_en m_vl m_sg m_wi m_si m_ce m_ca) none (hMm c0 (f_138_63_m_s x0 m_s) m_kp m_as m_ik m_fo m_tl m_tr m_fa m_od m_rc m_be m_ft m_tp m_td m_tk m_bg m_en m_vl m_sg m_wi m_si m_ce m_ca) := by
  refine hX_go 0 0 [some (.ref 63), some (.int x0), none] [] (hMm c0 m_s m_kp m_as m_ik m_fo m_tl m_tr m_fa m_od m_rc m_be m_ft m_tp m_td m_tk m_bg m_en m_vl m_sg m_wi m_si m_ce m_ca) rfl ?_
  refine hX_go 9 (11) [some (.ref 63), some (.int x0), some (.int (m_s 3))] [.int x0, .int 0, .int (m_s 3), .ref 63] (hMm c0 m_s m_kp m_as m_ik m_fo m_tl m_tr m_fa m_od m_rc m_be m_ft m_tp m_td m_tk m_bg m_en m_vl m_sg m_wi m_si m_ce m_ca) rfl ?_
  refine hX_call (r' := zR_132) rfl (ct_132_63 (m_s 3) 0 x0 o1) ?_
  refine hX_go 4 (18) [some (.ref 63), some (.int x0), some (.int (m_s 3))] [.int 5, .int 1, .int (m_s 3), .ref 63] (hMm c0 (f_132_63_m_s (m_s 3) 0 x0 m_s) m_kp m_as m_ik m_fo m_tl m_tr m_fa m_od m_rc m_be m_ft m_tp m_td m_tk m_bg m_en m_vl m_sg m_wi m_si m_ce m_ca) rfl ?_
  refine hX_call (r' := zR_132) rfl (ct_132_63 (m_s 3) 1 5 o2) ?_
  refine hX_go 4 (25) [some (.ref 63), some (.int x0), some (.int (m_s 3))] [.int 0, .int 2, .int (m_s 3), .ref 63] (hMm c0 (f_132_63_m_s (m_s 3) 1 5 (f_132_63_m_s (m_s 3) 0 x0 m_s)) m_kp m_as m_ik m_fo m_tl m_tr m_fa m_od m_rc m_be m_ft m_tp m_td m_tk m_bg m_en m_vl m_sg m_wi m_si m_ce m_ca) rfl ?_
  refine hX_call (r' := zR_132) rfl (ct_132_63 (m_s 3) 2 0 o3) ?_
  refine hX_go 8 (38) [some (.ref 63), some (.int x0), some (.int (m_s 3))] [] (hMm c0 (upd (f_132_63_m_s (m_s 3) 2 0 (f_132_63_m_s (m_s 3) 1 5 (f_132_63_m_s (m_s 3) 0 x0 m_s))) 3 (((f_132_63_m_s (m_s 3) 2 0 (f_132_63_m_s (m_s 3) 1 5 (f_132_63_m_s (m_s 3) 0 x0 m_s))) 3) + 1)) m_kp m_as m_ik m_fo m_tl m_tr m_fa m_od m_rc m_be m_ft m_tp m_td m_tk m_bg m_en m_vl m_sg m_wi m_si m_ce m_ca) rfl ?_
  exact hX_end rfl (rfl) (rfl)


/-- UpOneSideModel.pull(I)I -/
def me_139_63 (N : Nat) (x0 : Int32) (m_s : Nat → Int32) (m_fo : Nat → Int32) : Option (Int32 × (Nat → Int32) × (Nat → Int32)) :=
  (bif gCmp .ne (v_125 x0 0 6) 0 then
    (bif gCmp .ne (m_s 3) 8 then
      (bif gIn ((15 + (3 * (m_s 3))) + 0) 134 then (bif gIn ((15 + (3 * (m_s 3))) + 1) 134 then (bif gIn ((15 + (3 * (m_s 3))) + 2) 134 then some (((f_138_63_m_s x0 m_s) 3) - 1, f_138_63_m_s x0 m_s, m_fo) else none) else none) else none)
    else
      some (v_124_63 1, m_s, f_124_63_m_fo 1 m_fo))
  else
    some (v_124_63 0, m_s, f_124_63_m_fo 0 m_fo))
set_option maxRecDepth 20000 in
set_option maxHeartbeats 4000000 in
theorem mt_139_63 {LL : Nat} {xs : Nat → Int32} {D : Nat} {c0 : Nat → gE} {m_s : Nat → Int32} {m_kp : Nat → Int32} {m_as : Nat → Int32} {m_ik : Int32} {m_fo : Nat → Int32} {m_tl : Int32} {m_tr : Int32} {m_fa : Nat → Int32} {m_od : Nat → Int32} {m_rc : Int32} {m_be : Nat → Int32} {m_ft : Int32} {m_tp : Nat → Int32} {m_td : Int32} {m_tk : Int32} {m_bg : Int32} {m_en : Int32} {m_vl : Int64} {m_sg : Int32} {m_wi : Nat → Int32} {m_si : Nat → Int32} {m_ce : Nat → Int32} {m_ca : Nat → Int32} (N : Nat) (x0 : Int32) (q : Int32 × (Nat → Int32) × (Nat → Int32)) (h : me_139_63 N x0 m_s m_fo = some q) : hM (gO LL xs) (D + 2) zR_139 [.ref 63, .int x0] (hMm c0 m_s m_kp m_as m_ik m_fo m_tl m_tr m_fa m_od m_rc m_be m_ft m_tp m_td m_tk m_bg m_en m_vl m_sg m_wi m_si m_ce m_ca) (some (.int q.1)) (hMm c0 q.2.1 m_kp m_as m_ik q.2.2 m_tl m_tr m_fa m_od m_rc m_be m_ft m_tp m_td m_tk m_bg m_en m_vl m_sg m_wi m_si m_ce m_ca) := by
  unfold me_139_63 at h
  refine hX_go 0 0 [some (.ref 63), some (.int x0)] [] (hMm c0 m_s m_kp m_as m_ik m_fo m_tl m_tr m_fa m_od m_rc m_be m_ft m_tp m_td m_tk m_bg m_en m_vl m_sg m_wi m_si m_ce m_ca) rfl ?_
  refine hX_go 3 (4) [some (.ref 63), some (.int x0)] [.int 6, .int 0, .int x0] (hMm c0 m_s m_kp m_as m_ik m_fo m_tl m_tr m_fa m_od m_rc m_be m_ft m_tp m_td m_tk m_bg m_en m_vl m_sg m_wi m_si m_ce m_ca) rfl ?_
  refine hX_call (r' := zR_125) rfl (ct_125 x0 0 6) ?_
  refine hX_goM 1 (bif gCmp .ne (v_125 x0 0 6) 0 then 16 else 10) [some (.ref 63), some (.int x0)] [] rfl ?_
  refine hX_if (gCmp .ne (v_125 x0 0 6) 0) (fun c1 => ?_) (fun c1 => ?_)
  · skip
    have h := gcT c1 h
    refine hX_goM 6 (bif gCmp .ne (m_s 3) 8 then 33 else 27) [some (.ref 63), some (.int x0)] [] rfl ?_
    refine hX_if (gCmp .ne (m_s 3) 8) (fun c2 => ?_) (fun c2 => ?_)
    · skip
      have h := gcT c2 h
      refine hX_goM 2 (35) [some (.ref 63), some (.int x0)] [.int x0, .ref 63] rfl ?_
      revert h; refine gCondR fun g3 h => ?_
      revert h; refine gCondR fun g4 h => ?_
      revert h; refine gCondR fun g5 h => ?_
      refine hX_call (r' := zR_138) rfl (ct_138_63 x0 g3 g4 g5) ?_
      refine hX_go 6 (46) [some (.ref 63), some (.int x0)] [.int (((f_138_63_m_s x0 m_s) 3) - 1)] (hMm c0 (f_138_63_m_s x0 m_s) m_kp m_as m_ik m_fo m_tl m_tr m_fa m_od m_rc m_be m_ft m_tp m_td m_tk m_bg m_en m_vl m_sg m_wi m_si m_ce m_ca) rfl ?_
      have h := Option.some.inj h; subst h
      exact hX_end rfl rfl rfl
    · skip
      have h := gcF c2 h
      refine hX_goM 2 (29) [some (.ref 63), some (.int x0)] [.int 1, .ref 63] rfl ?_
      refine hX_call (r' := zR_124) rfl (ct_124_63 1 rfl) ?_
      refine hX_go 0 (32) [some (.ref 63), some (.int x0)] [.int (v_124_63 1)] (hMm c0 m_s m_kp m_as m_ik (f_124_63_m_fo 1 m_fo) m_tl m_tr m_fa m_od m_rc m_be m_ft m_tp m_td m_tk m_bg m_en m_vl m_sg m_wi m_si m_ce m_ca) rfl ?_
      have h := Option.some.inj h; subst h
      exact hX_end rfl rfl rfl
  · skip
    have h := gcF c1 h
    refine hX_goM 2 (12) [some (.ref 63), some (.int x0)] [.int 0, .ref 63] rfl ?_
    refine hX_call (r' := zR_124) rfl (ct_124_63 0 rfl) ?_
    refine hX_go 0 (15) [some (.ref 63), some (.int x0)] [.int (v_124_63 0)] (hMm c0 m_s m_kp m_as m_ik (f_124_63_m_fo 0 m_fo) m_tl m_tr m_fa m_od m_rc m_be m_ft m_tp m_td m_tk m_bg m_en m_vl m_sg m_wi m_si m_ce m_ca) rfl ?_
    have h := Option.some.inj h; subst h
    exact hX_end rfl rfl rfl


/-- UpOneSideModel.of(II)I -/
def me_140_63 (N : Nat) (x0 : Int32) (x1 : Int32) (m_s : Nat → Int32) (m_fo : Nat → Int32) : Option (Int32 × (Nat → Int32)) :=
  (bif gCmp .eq (v_129_63 x0 m_s) 0 then
    some (v_124_63 0, f_124_63_m_fo 0 m_fo)
  else
    (bif gCmp .ne (v_125 x1 0 4) 0 then
      (bif !(gCmp .ge x1 3) || (!(gCmp .ne x1 3) || (gIn ((15 + (3 * x0)) + 1) 134)) then (bif !(gCmp .ge x1 3) || (!(gCmp .ne x1 3) || (gIn ((15 + (3 * x0)) + 2) 134)) then (bif !(gCmp .ge x1 3) || (!(gCmp .ne x1 3) || (gIn ((15 + (3 * x0)) + 0) 134)) then (bif !(gCmp .ge x1 3) || ((gCmp .ne x1 3) || (gIn ((15 + (3 * x0)) + 0) 134)) then (bif !(gCmp .ge x1 3) || ((gCmp .ne x1 3) || (gIn ((15 + (3 * x0)) + 1) 134)) then (bif !(gCmp .ge x1 3) || ((gCmp .ne x1 3) || (gIn ((15 + (3 * x0)) + 2) 134)) then (bif (gCmp .ge x1 3) || (gIn ((15 + (3 * x0)) + x1) 134) then some (bif gCmp .ge x1 3 then (bif gCmp .ne x1 3 then (v_134_63 x0 (m_s 0) (m_s 1) m_s) else (v_133_63 x0 (m_s 0) (m_s 1) m_s)) else (v_131_63 x0 x1 m_s), m_fo) else none) else none) else none) else none) else none) else none) else none)
    else
      some (v_124_63 0, f_124_63_m_fo 0 m_fo)))
set_option maxRecDepth 20000 in
set_option maxHeartbeats 4000000 in
theorem mt_140_63 {LL : Nat} {xs : Nat → Int32} {D : Nat} {c0 : Nat → gE} {m_s : Nat → Int32} {m_kp : Nat → Int32} {m_as : Nat → Int32} {m_ik : Int32} {m_fo : Nat → Int32} {m_tl : Int32} {m_tr : Int32} {m_fa : Nat → Int32} {m_od : Nat → Int32} {m_rc : Int32} {m_be : Nat → Int32} {m_ft : Int32} {m_tp : Nat → Int32} {m_td : Int32} {m_tk : Int32} {m_bg : Int32} {m_en : Int32} {m_vl : Int64} {m_sg : Int32} {m_wi : Nat → Int32} {m_si : Nat → Int32} {m_ce : Nat → Int32} {m_ca : Nat → Int32} (N : Nat) (x0 : Int32) (x1 : Int32) (q : Int32 × (Nat → Int32)) (h : me_140_63 N x0 x1 m_s m_fo = some q) : hM (gO LL xs) (D + 2) zR_140 [.ref 63, .int x0, .int x1] (hMm c0 m_s m_kp m_as m_ik m_fo m_tl m_tr m_fa m_od m_rc m_be m_ft m_tp m_td m_tk m_bg m_en m_vl m_sg m_wi m_si m_ce m_ca) (some (.int q.1)) (hMm c0 m_s m_kp m_as m_ik q.2 m_tl m_tr m_fa m_od m_rc m_be m_ft m_tp m_td m_tk m_bg m_en m_vl m_sg m_wi m_si m_ce m_ca) := by
  unfold me_140_63 at h
  refine hX_go 0 0 [some (.ref 63), some (.int x0), some (.int x1)] [] (hMm c0 m_s m_kp m_as m_ik m_fo m_tl m_tr m_fa m_od m_rc m_be m_ft m_tp m_td m_tk m_bg m_en m_vl m_sg m_wi m_si m_ce m_ca) rfl ?_
  refine hX_go 2 (2) [some (.ref 63), some (.int x0), some (.int x1)] [.int x0, .ref 63] (hMm c0 m_s m_kp m_as m_ik m_fo m_tl m_tr m_fa m_od m_rc m_be m_ft m_tp m_td m_tk m_bg m_en m_vl m_sg m_wi m_si m_ce m_ca) rfl ?_
  refine hX_call (r' := zR_129) rfl (ct_129_63 x0) ?_
  refine hX_goM 1 (bif gCmp .eq (v_129_63 x0 m_s) 0 then 17 else 8) [some (.ref 63), some (.int x0), some (.int x1)] [] rfl ?_
  refine hX_if (gCmp .eq (v_129_63 x0 m_s) 0) (fun c1 => ?_) (fun c1 => ?_)
  · skip
    have h := gcT c1 h
    refine hX_goM 2 (19) [some (.ref 63), some (.int x0), some (.int x1)] [.int 0, .ref 63] rfl ?_
    refine hX_call (r' := zR_124) rfl (ct_124_63 0 rfl) ?_
    refine hX_go 0 (22) [some (.ref 63), some (.int x0), some (.int x1)] [.int (v_124_63 0)] (hMm c0 m_s m_kp m_as m_ik (f_124_63_m_fo 0 m_fo) m_tl m_tr m_fa m_od m_rc m_be m_ft m_tp m_td m_tk m_bg m_en m_vl m_sg m_wi m_si m_ce m_ca) rfl ?_
    have h := Option.some.inj h; subst h
    exact hX_end rfl rfl rfl
  · skip
    have h := gcF c1 h
    refine hX_goM 3 (11) [some (.ref 63), some (.int x0), some (.int x1)] [.int 4, .int 0, .int x1] rfl ?_
    refine hX_call (r' := zR_125) rfl (ct_125 x1 0 4) ?_
    refine hX_goM 1 (bif gCmp .ne (v_125 x1 0 4) 0 then 23 else 17) [some (.ref 63), some (.int x0), some (.int x1)] [] rfl ?_
    refine hX_if (gCmp .ne (v_125 x1 0 4) 0) (fun c2 => ?_) (fun c2 => ?_)
    · skip
      have h := gcT c2 h
      refine hX_goM 3 (bif gCmp .ge x1 3 then 37 else 28) [some (.ref 63), some (.int x0), some (.int x1)] [] rfl ?_
      revert h; refine gCondR fun o5 h => ?_
      revert h; refine gCondR fun o6 h => ?_
      revert h; refine gCondR fun o7 h => ?_
      revert h; refine gCondR fun o8 h => ?_
      revert h; refine gCondR fun o9 h => ?_
      revert h; refine gCondR fun o10 h => ?_
      revert h; refine gCondR fun o11 h => ?_
      refine hX_mrg 79 [some (.ref 63), some (.int x0), some (.int x1)] [.int (bif gCmp .ge x1 3 then (bif gCmp .ne x1 3 then (v_134_63 x0 (m_s 0) (m_s 1) m_s) else (v_133_63 x0 (m_s 0) (m_s 1) m_s)) else (v_131_63 x0 x1 m_s))] (hMm c0 m_s m_kp m_as m_ik m_fo m_tl m_tr m_fa m_od m_rc m_be m_ft m_tp m_td m_tk m_bg m_en m_vl m_sg m_wi m_si m_ce m_ca) (fun hk => ?_) ?_
      · skip
        refine hX_if (gCmp .ge x1 3) (fun c12 => ?_) (fun c12 => ?_)
        · skip
          refine hX_goM 3 (bif gCmp .ne x1 3 then 62 else 42) [some (.ref 63), some (.int x0), some (.int x1)] [] rfl ?_
          refine hX_if (gCmp .ne x1 3) (fun c13 => ?_) (fun c13 => ?_)
          · skip
            refine hX_goM 9 (75) [some (.ref 63), some (.int x0), some (.int x1)] [.int 1, .ref 64, .int (m_s 0), .int x0, .ref 63] rfl ?_
            refine hX_goM 1 (76) [some (.ref 63), some (.int x0), some (.int x1)] [.int (m_s 1), .int (m_s 0), .int x0, .ref 63] rfl ?_
            refine hX_call (r' := zR_134) rfl (ct_134_63 x0 (m_s 0) (m_s 1) (gImpT (gImpT o5 c12) c13) (gImpT (gImpT o6 c12) c13) (gImpT (gImpT o7 c12) c13)) ?_
            refine hX_goM 0 (79) [some (.ref 63), some (.int x0), some (.int x1)] [.int (v_134_63 x0 (m_s 0) (m_s 1) m_s)] rfl ?_
            have hk := hk
            simp only [c12, c13, cond_true, cond_false] at hk
            first | exact hk | (simp only [c12, c13, cond_true, cond_false]; exact hk)
          · skip
            refine hX_goM 9 (55) [some (.ref 63), some (.int x0), some (.int x1)] [.int 1, .ref 64, .int (m_s 0), .int x0, .ref 63] rfl ?_
            refine hX_goM 1 (56) [some (.ref 63), some (.int x0), some (.int x1)] [.int (m_s 1), .int (m_s 0), .int x0, .ref 63] rfl ?_
            refine hX_call (r' := zR_133) rfl (ct_133_63 x0 (m_s 0) (m_s 1) (gImpF (gImpT o8 c12) c13) (gImpF (gImpT o9 c12) c13) (gImpF (gImpT o10 c12) c13)) ?_
            refine hX_goM 1 (79) [some (.ref 63), some (.int x0), some (.int x1)] [.int (v_133_63 x0 (m_s 0) (m_s 1) m_s)] rfl ?_
            have hk := hk
            simp only [c12, c13, cond_true, cond_false] at hk
            first | exact hk | (simp only [c12, c13, cond_true, cond_false]; exact hk)
        · skip
          refine hX_goM 3 (31) [some (.ref 63), some (.int x0), some (.int x1)] [.int x1, .int x0, .ref 63] rfl ?_
          refine hX_call (r' := zR_131) rfl (ct_131_63 x0 x1 (gImpF o11 c12)) ?_
          refine hX_goM 1 (79) [some (.ref 63), some (.int x0), some (.int x1)] [.int (v_131_63 x0 x1 m_s)] rfl ?_
          have hk := hk
          simp only [c12, cond_true, cond_false] at hk
          first | exact hk | (simp only [c12, cond_true, cond_false]; exact hk)
      have h := Option.some.inj h; subst h
      exact hX_end rfl rfl rfl
    · skip
      have h := gcF c2 h
      refine hX_goM 2 (19) [some (.ref 63), some (.int x0), some (.int x1)] [.int 0, .ref 63] rfl ?_
      refine hX_call (r' := zR_124) rfl (ct_124_63 0 rfl) ?_
      refine hX_go 0 (22) [some (.ref 63), some (.int x0), some (.int x1)] [.int (v_124_63 0)] (hMm c0 m_s m_kp m_as m_ik (f_124_63_m_fo 0 m_fo) m_tl m_tr m_fa m_od m_rc m_be m_ft m_tp m_td m_tk m_bg m_en m_vl m_sg m_wi m_si m_ce m_ca) rfl ?_
      have h := Option.some.inj h; subst h
      exact hX_end rfl rfl rfl


/-- UpOneSideModel.change(III)I -/
def me_141_63 (N : Nat) (x0 : Int32) (x1 : Int32) (x2 : Int32) (m_s : Nat → Int32) (m_fo : Nat → Int32) : Option (Int32 × (Nat → Int32) × (Nat → Int32)) :=
  (bif gCmp .eq (v_129_63 x0 m_s) 0 then
    some (v_124_63 0, m_s, f_124_63_m_fo 0 m_fo)
  else
    (bif gCmp .eq (v_125 x1 0 2) 0 then
      some (v_124_63 0, m_s, f_124_63_m_fo 0 m_fo)
    else
      (bif gCmp .ne (v_125 x2 (bif gCmp .ne x1 0 then (-(bif gCmp .ne x1 0 then (bif gCmp .ne x1 1 then 9 else 30) else 6)) else 0) (bif gCmp .ne x1 0 then (bif gCmp .ne x1 1 then 9 else 30) else 6)) 0 then
        (bif gIn ((15 + (3 * x0)) + x1) 134 then (bif gIn ((15 + (3 * x0)) + x1) 134 then some (v_131_63 x0 x1 m_s, f_132_63_m_s x0 x1 x2 m_s, m_fo) else none) else none)
      else
        some (v_124_63 0, m_s, f_124_63_m_fo 0 m_fo))))
set_option maxRecDepth 20000 in
set_option maxHeartbeats 4000000 in
theorem mt_141_63 {LL : Nat} {xs : Nat → Int32} {D : Nat} {c0 : Nat → gE} {m_s : Nat → Int32} {m_kp : Nat → Int32} {m_as : Nat → Int32} {m_ik : Int32} {m_fo : Nat → Int32} {m_tl : Int32} {m_tr : Int32} {m_fa : Nat → Int32} {m_od : Nat → Int32} {m_rc : Int32} {m_be : Nat → Int32} {m_ft : Int32} {m_tp : Nat → Int32} {m_td : Int32} {m_tk : Int32} {m_bg : Int32} {m_en : Int32} {m_vl : Int64} {m_sg : Int32} {m_wi : Nat → Int32} {m_si : Nat → Int32} {m_ce : Nat → Int32} {m_ca : Nat → Int32} (N : Nat) (x0 : Int32) (x1 : Int32) (x2 : Int32) (q : Int32 × (Nat → Int32) × (Nat → Int32)) (h : me_141_63 N x0 x1 x2 m_s m_fo = some q) : hM (gO LL xs) (D + 2) zR_141 [.ref 63, .int x0, .int x1, .int x2] (hMm c0 m_s m_kp m_as m_ik m_fo m_tl m_tr m_fa m_od m_rc m_be m_ft m_tp m_td m_tk m_bg m_en m_vl m_sg m_wi m_si m_ce m_ca) (some (.int q.1)) (hMm c0 q.2.1 m_kp m_as m_ik q.2.2 m_tl m_tr m_fa m_od m_rc m_be m_ft m_tp m_td m_tk m_bg m_en m_vl m_sg m_wi m_si m_ce m_ca) := by
  unfold me_141_63 at h
  refine hX_go 0 0 [some (.ref 63), some (.int x0), some (.int x1), some (.int x2), none, none] [] (hMm c0 m_s m_kp m_as m_ik m_fo m_tl m_tr m_fa m_od m_rc m_be m_ft m_tp m_td m_tk m_bg m_en m_vl m_sg m_wi m_si m_ce m_ca) rfl ?_
  refine hX_go 2 (bif gCmp .ne x1 0 then 9 else 4) [some (.ref 63), some (.int x0), some (.int x1), some (.int x2), none, none] [] (hMm c0 m_s m_kp m_as m_ik m_fo m_tl m_tr m_fa m_od m_rc m_be m_ft m_tp m_td m_tk m_bg m_en m_vl m_sg m_wi m_si m_ce m_ca) rfl ?_
  refine hX_mrg 21 [some (.ref 63), some (.int x0), some (.int x1), some (.int x2), none, none] [.int (bif gCmp .ne x1 0 then (bif gCmp .ne x1 1 then 9 else 30) else 6)] (hMm c0 m_s m_kp m_as m_ik m_fo m_tl m_tr m_fa m_od m_rc m_be m_ft m_tp m_td m_tk m_bg m_en m_vl m_sg m_wi m_si m_ce m_ca) (fun hk => ?_) ?_
  · skip
    refine hX_if (gCmp .ne x1 0) (fun c3 => ?_) (fun c3 => ?_)
    · skip
      refine hX_goM 3 (bif gCmp .ne x1 1 then 19 else 14) [some (.ref 63), some (.int x0), some (.int x1), some (.int x2), none, none] [] rfl ?_
      refine hX_if (gCmp .ne x1 1) (fun c4 => ?_) (fun c4 => ?_)
      · skip
        refine hX_goM 1 (21) [some (.ref 63), some (.int x0), some (.int x1), some (.int x2), none, none] [.int 9] rfl ?_
        have hk := hk
        simp only [c3, c4, cond_true, cond_false] at hk
        first | exact hk | (simp only [c3, c4, cond_true, cond_false]; exact hk)
      · skip
        refine hX_goM 2 (21) [some (.ref 63), some (.int x0), some (.int x1), some (.int x2), none, none] [.int 30] rfl ?_
        have hk := hk
        simp only [c3, c4, cond_true, cond_false] at hk
        first | exact hk | (simp only [c3, c4, cond_true, cond_false]; exact hk)
    · skip
      refine hX_goM 2 (21) [some (.ref 63), some (.int x0), some (.int x1), some (.int x2), none, none] [.int 6] rfl ?_
      have hk := hk
      simp only [c3, cond_true, cond_false] at hk
      first | exact hk | (simp only [c3, cond_true, cond_false]; exact hk)
  refine hX_goM 3 (25) [some (.ref 63), some (.int x0), some (.int x1), some (.int x2), some (.int (bif gCmp .ne x1 0 then (bif gCmp .ne x1 1 then 9 else 30) else 6)), none] [.int x0, .ref 63] rfl ?_
  refine hX_call (r' := zR_129) rfl (ct_129_63 x0) ?_
  refine hX_goM 1 (bif gCmp .eq (v_129_63 x0 m_s) 0 then 60 else 31) [some (.ref 63), some (.int x0), some (.int x1), some (.int x2), some (.int (bif gCmp .ne x1 0 then (bif gCmp .ne x1 1 then 9 else 30) else 6)), none] [] rfl ?_
  refine hX_if (gCmp .eq (v_129_63 x0 m_s) 0) (fun c5 => ?_) (fun c5 => ?_)
  · skip
    have h := gcT c5 h
    refine hX_goM 2 (62) [some (.ref 63), some (.int x0), some (.int x1), some (.int x2), some (.int (bif gCmp .ne x1 0 then (bif gCmp .ne x1 1 then 9 else 30) else 6)), none] [.int 0, .ref 63] rfl ?_
    refine hX_call (r' := zR_124) rfl (ct_124_63 0 rfl) ?_
    refine hX_go 0 (65) [some (.ref 63), some (.int x0), some (.int x1), some (.int x2), some (.int (bif gCmp .ne x1 0 then (bif gCmp .ne x1 1 then 9 else 30) else 6)), none] [.int (v_124_63 0)] (hMm c0 m_s m_kp m_as m_ik (f_124_63_m_fo 0 m_fo) m_tl m_tr m_fa m_od m_rc m_be m_ft m_tp m_td m_tk m_bg m_en m_vl m_sg m_wi m_si m_ce m_ca) rfl ?_
    have h := Option.some.inj h; subst h
    exact hX_end rfl rfl rfl
  · skip
    have h := gcF c5 h
    refine hX_goM 3 (34) [some (.ref 63), some (.int x0), some (.int x1), some (.int x2), some (.int (bif gCmp .ne x1 0 then (bif gCmp .ne x1 1 then 9 else 30) else 6)), none] [.int 2, .int 0, .int x1] rfl ?_
    refine hX_call (r' := zR_125) rfl (ct_125 x1 0 2) ?_
    refine hX_goM 1 (bif gCmp .eq (v_125 x1 0 2) 0 then 60 else 40) [some (.ref 63), some (.int x0), some (.int x1), some (.int x2), some (.int (bif gCmp .ne x1 0 then (bif gCmp .ne x1 1 then 9 else 30) else 6)), none] [] rfl ?_
    refine hX_if (gCmp .eq (v_125 x1 0 2) 0) (fun c6 => ?_) (fun c6 => ?_)
    · skip
      have h := gcT c6 h
      refine hX_goM 2 (62) [some (.ref 63), some (.int x0), some (.int x1), some (.int x2), some (.int (bif gCmp .ne x1 0 then (bif gCmp .ne x1 1 then 9 else 30) else 6)), none] [.int 0, .ref 63] rfl ?_
      refine hX_call (r' := zR_124) rfl (ct_124_63 0 rfl) ?_
      refine hX_go 0 (65) [some (.ref 63), some (.int x0), some (.int x1), some (.int x2), some (.int (bif gCmp .ne x1 0 then (bif gCmp .ne x1 1 then 9 else 30) else 6)), none] [.int (v_124_63 0)] (hMm c0 m_s m_kp m_as m_ik (f_124_63_m_fo 0 m_fo) m_tl m_tr m_fa m_od m_rc m_be m_ft m_tp m_td m_tk m_bg m_en m_vl m_sg m_wi m_si m_ce m_ca) rfl ?_
      have h := Option.some.inj h; subst h
      exact hX_end rfl rfl rfl
    · skip
      have h := gcF c6 h
      refine hX_goM 3 (bif gCmp .ne x1 0 then 49 else 45) [some (.ref 63), some (.int x0), some (.int x1), some (.int x2), some (.int (bif gCmp .ne x1 0 then (bif gCmp .ne x1 1 then 9 else 30) else 6)), none] [.int x2] rfl ?_
      refine hX_mrg 52 [some (.ref 63), some (.int x0), some (.int x1), some (.int x2), some (.int (bif gCmp .ne x1 0 then (bif gCmp .ne x1 1 then 9 else 30) else 6)), none] [.int (bif gCmp .ne x1 0 then (-(bif gCmp .ne x1 0 then (bif gCmp .ne x1 1 then 9 else 30) else 6)) else 0), .int x2] (hMm c0 m_s m_kp m_as m_ik m_fo m_tl m_tr m_fa m_od m_rc m_be m_ft m_tp m_td m_tk m_bg m_en m_vl m_sg m_wi m_si m_ce m_ca) (fun hk => ?_) ?_
      · skip
        refine hX_if (gCmp .ne x1 0) (fun c8 => ?_) (fun c8 => ?_)
        · skip
          refine hX_goM 2 (52) [some (.ref 63), some (.int x0), some (.int x1), some (.int x2), some (.int (bif gCmp .ne x1 0 then (bif gCmp .ne x1 1 then 9 else 30) else 6)), none] [.int (-(bif gCmp .ne x1 0 then (bif gCmp .ne x1 1 then 9 else 30) else 6)), .int x2] rfl ?_
          have hk := hk
          simp only [c8, cond_true, cond_false] at hk
          first | exact hk | (simp only [c8, cond_true, cond_false]; exact hk)
        · skip
          refine hX_goM 2 (52) [some (.ref 63), some (.int x0), some (.int x1), some (.int x2), some (.int (bif gCmp .ne x1 0 then (bif gCmp .ne x1 1 then 9 else 30) else 6)), none] [.int 0, .int x2] rfl ?_
          have hk := hk
          simp only [c8, cond_true, cond_false] at hk
          first | exact hk | (simp only [c8, cond_true, cond_false]; exact hk)
      refine hX_goM 1 (54) [some (.ref 63), some (.int x0), some (.int x1), some (.int x2), some (.int (bif gCmp .ne x1 0 then (bif gCmp .ne x1 1 then 9 else 30) else 6)), none] [.int (bif gCmp .ne x1 0 then (bif gCmp .ne x1 1 then 9 else 30) else 6), .int (bif gCmp .ne x1 0 then (-(bif gCmp .ne x1 0 then (bif gCmp .ne x1 1 then 9 else 30) else 6)) else 0), .int x2] rfl ?_
      refine hX_call (r' := zR_125) rfl (ct_125 x2 (bif gCmp .ne x1 0 then (-(bif gCmp .ne x1 0 then (bif gCmp .ne x1 1 then 9 else 30) else 6)) else 0) (bif gCmp .ne x1 0 then (bif gCmp .ne x1 1 then 9 else 30) else 6)) ?_
      refine hX_goM 1 (bif gCmp .ne (v_125 x2 (bif gCmp .ne x1 0 then (-(bif gCmp .ne x1 0 then (bif gCmp .ne x1 1 then 9 else 30) else 6)) else 0) (bif gCmp .ne x1 0 then (bif gCmp .ne x1 1 then 9 else 30) else 6)) 0 then 66 else 60) [some (.ref 63), some (.int x0), some (.int x1), some (.int x2), some (.int (bif gCmp .ne x1 0 then (bif gCmp .ne x1 1 then 9 else 30) else 6)), none] [] rfl ?_
      refine hX_if (gCmp .ne (v_125 x2 (bif gCmp .ne x1 0 then (-(bif gCmp .ne x1 0 then (bif gCmp .ne x1 1 then 9 else 30) else 6)) else 0) (bif gCmp .ne x1 0 then (bif gCmp .ne x1 1 then 9 else 30) else 6)) 0) (fun c9 => ?_) (fun c9 => ?_)
      · skip
        have h := gcT c9 h
        refine hX_goM 3 (69) [some (.ref 63), some (.int x0), some (.int x1), some (.int x2), some (.int (bif gCmp .ne x1 0 then (bif gCmp .ne x1 1 then 9 else 30) else 6)), none] [.int x1, .int x0, .ref 63] rfl ?_
        revert h; refine gCondR fun g10 h => ?_
        refine hX_call (r' := zR_131) rfl (ct_131_63 x0 x1 g10) ?_
        refine hX_goM 5 (78) [some (.ref 63), some (.int x0), some (.int x1), some (.int x2), some (.int (bif gCmp .ne x1 0 then (bif gCmp .ne x1 1 then 9 else 30) else 6)), some (.int (v_131_63 x0 x1 m_s))] [.int x2, .int x1, .int x0, .ref 63] rfl ?_
        revert h; refine gCondR fun g11 h => ?_
        refine hX_call (r' := zR_132) rfl (ct_132_63 x0 x1 x2 g11) ?_
        refine hX_go 1 (83) [some (.ref 63), some (.int x0), some (.int x1), some (.int x2), some (.int (bif gCmp .ne x1 0 then (bif gCmp .ne x1 1 then 9 else 30) else 6)), some (.int (v_131_63 x0 x1 m_s))] [.int (v_131_63 x0 x1 m_s)] (hMm c0 (f_132_63_m_s x0 x1 x2 m_s) m_kp m_as m_ik m_fo m_tl m_tr m_fa m_od m_rc m_be m_ft m_tp m_td m_tk m_bg m_en m_vl m_sg m_wi m_si m_ce m_ca) rfl ?_
        have h := Option.some.inj h; subst h
        exact hX_end rfl rfl rfl
      · skip
        have h := gcF c9 h
        refine hX_goM 2 (62) [some (.ref 63), some (.int x0), some (.int x1), some (.int x2), some (.int (bif gCmp .ne x1 0 then (bif gCmp .ne x1 1 then 9 else 30) else 6)), none] [.int 0, .ref 63] rfl ?_
        refine hX_call (r' := zR_124) rfl (ct_124_63 0 rfl) ?_
        refine hX_go 0 (65) [some (.ref 63), some (.int x0), some (.int x1), some (.int x2), some (.int (bif gCmp .ne x1 0 then (bif gCmp .ne x1 1 then 9 else 30) else 6)), none] [.int (v_124_63 0)] (hMm c0 m_s m_kp m_as m_ik (f_124_63_m_fo 0 m_fo) m_tl m_tr m_fa m_od m_rc m_be m_ft m_tp m_td m_tk m_bg m_en m_vl m_sg m_wi m_si m_ce m_ca) rfl ?_
        have h := Option.some.inj h; subst h
        exact hX_end rfl rfl rfl

/-- UpOneSideModel.greatestRule(I)I -/
def v_142 (x0 : Int32) : Int32 := bif gCmp .ge x0 3 then (bif gCmp .ne x0 4 then 60 else 99) else 9
set_option maxRecDepth 20000 in
set_option maxHeartbeats 1000000 in
theorem ct_142 {LL : Nat} {xs : Nat → Int32} {D : Nat} {c0 : Nat → gE} {m_s : Nat → Int32} {m_kp : Nat → Int32} {m_as : Nat → Int32} {m_ik : Int32} {m_fo : Nat → Int32} {m_tl : Int32} {m_tr : Int32} {m_fa : Nat → Int32} {m_od : Nat → Int32} {m_rc : Int32} {m_be : Nat → Int32} {m_ft : Int32} {m_tp : Nat → Int32} {m_td : Int32} {m_tk : Int32} {m_bg : Int32} {m_en : Int32} {m_vl : Int64} {m_sg : Int32} {m_wi : Nat → Int32} {m_si : Nat → Int32} {m_ce : Nat → Int32} {m_ca : Nat → Int32} (x0 : Int32) : hM (gO LL xs) (D + 0) zR_142 [.int x0] (hMm c0 m_s m_kp m_as m_ik m_fo m_tl m_tr m_fa m_od m_rc m_be m_ft m_tp m_td m_tk m_bg m_en m_vl m_sg m_wi m_si m_ce m_ca) (some (.int (v_142 x0))) (hMm c0 m_s m_kp m_as m_ik m_fo m_tl m_tr m_fa m_od m_rc m_be m_ft m_tp m_td m_tk m_bg m_en m_vl m_sg m_wi m_si m_ce m_ca) := by
  refine hX_go 0 0 [some (.int x0)] [] (hMm c0 m_s m_kp m_as m_ik m_fo m_tl m_tr m_fa m_od m_rc m_be m_ft m_tp m_td m_tk m_bg m_en m_vl m_sg m_wi m_si m_ce m_ca) rfl ?_
  refine hX_go 3 (bif gCmp .ge x0 3 then 10 else 5) [some (.int x0)] [] (hMm c0 m_s m_kp m_as m_ik m_fo m_tl m_tr m_fa m_od m_rc m_be m_ft m_tp m_td m_tk m_bg m_en m_vl m_sg m_wi m_si m_ce m_ca) rfl ?_
  suffices hk : hX (gO LL xs) (D + 0) zR_142 22 [some (.int x0)] [.int (bif gCmp .ge x0 3 then (bif gCmp .ne x0 4 then 60 else 99) else 9)] (hMm c0 m_s m_kp m_as m_ik m_fo m_tl m_tr m_fa m_od m_rc m_be m_ft m_tp m_td m_tk m_bg m_en m_vl m_sg m_wi m_si m_ce m_ca) (some (.int (v_142 x0))) (hMm c0 m_s m_kp m_as m_ik m_fo m_tl m_tr m_fa m_od m_rc m_be m_ft m_tp m_td m_tk m_bg m_en m_vl m_sg m_wi m_si m_ce m_ca) by
    refine hX_if (gCmp .ge x0 3) (fun c1 => ?_) (fun c1 => ?_)
    · skip
      refine hX_goM 3 (bif gCmp .ne x0 4 then 20 else 15) [some (.int x0)] [] rfl ?_
      refine hX_if (gCmp .ne x0 4) (fun c2 => ?_) (fun c2 => ?_)
      · skip
        refine hX_goM 1 (22) [some (.int x0)] [.int 60] rfl ?_
        have hk := hk
        simp only [c1, c2, cond_true, cond_false] at hk
        first | exact hk | (simp only [c1, c2, cond_true, cond_false]; exact hk)
      · skip
        refine hX_goM 2 (22) [some (.int x0)] [.int 99] rfl ?_
        have hk := hk
        simp only [c1, c2, cond_true, cond_false] at hk
        first | exact hk | (simp only [c1, c2, cond_true, cond_false]; exact hk)
    · skip
      refine hX_goM 2 (22) [some (.int x0)] [.int 9] rfl ?_
      have hk := hk
      simp only [c1, cond_true, cond_false] at hk
      first | exact hk | (simp only [c1, cond_true, cond_false]; exact hk)
  exact hX_end rfl (rfl) (rfl)


/-- UpOneSideModel.rule(II)I -/
def me_143_63 (N : Nat) (x0 : Int32) (x1 : Int32) (m_s : Nat → Int32) (m_fo : Nat → Int32) : Option (Int32 × (Nat → Int32) × (Nat → Int32)) :=
  (bif gCmp .eq (v_125 x0 0 5) 0 then
    some (v_124_63 0, m_s, f_124_63_m_fo 0 m_fo)
  else
    (bif gCmp .ne (v_125 x1 (bif gCmp .ne x0 0 then 0 else (-9)) (v_142 x0)) 0 then
      (bif gIn (5 + x0) 134 then (bif gIn (5 + x0) 134 then some (m_s (Int32.toNatClampNeg (5 + x0)), upd m_s (Int32.toNatClampNeg (5 + x0)) x1, m_fo) else none) else none)
    else
      some (v_124_63 0, m_s, f_124_63_m_fo 0 m_fo)))
set_option maxRecDepth 20000 in
set_option maxHeartbeats 4000000 in
theorem mt_143_63 {LL : Nat} {xs : Nat → Int32} {D : Nat} {c0 : Nat → gE} {m_s : Nat → Int32} {m_kp : Nat → Int32} {m_as : Nat → Int32} {m_ik : Int32} {m_fo : Nat → Int32} {m_tl : Int32} {m_tr : Int32} {m_fa : Nat → Int32} {m_od : Nat → Int32} {m_rc : Int32} {m_be : Nat → Int32} {m_ft : Int32} {m_tp : Nat → Int32} {m_td : Int32} {m_tk : Int32} {m_bg : Int32} {m_en : Int32} {m_vl : Int64} {m_sg : Int32} {m_wi : Nat → Int32} {m_si : Nat → Int32} {m_ce : Nat → Int32} {m_ca : Nat → Int32} (N : Nat) (x0 : Int32) (x1 : Int32) (q : Int32 × (Nat → Int32) × (Nat → Int32)) (h : me_143_63 N x0 x1 m_s m_fo = some q) : hM (gO LL xs) (D + 1) zR_143 [.ref 63, .int x0, .int x1] (hMm c0 m_s m_kp m_as m_ik m_fo m_tl m_tr m_fa m_od m_rc m_be m_ft m_tp m_td m_tk m_bg m_en m_vl m_sg m_wi m_si m_ce m_ca) (some (.int q.1)) (hMm c0 q.2.1 m_kp m_as m_ik q.2.2 m_tl m_tr m_fa m_od m_rc m_be m_ft m_tp m_td m_tk m_bg m_en m_vl m_sg m_wi m_si m_ce m_ca) := by
  unfold me_143_63 at h
  refine hX_go 0 0 [some (.ref 63), some (.int x0), some (.int x1), none] [] (hMm c0 m_s m_kp m_as m_ik m_fo m_tl m_tr m_fa m_od m_rc m_be m_ft m_tp m_td m_tk m_bg m_en m_vl m_sg m_wi m_si m_ce m_ca) rfl ?_
  refine hX_go 3 (3) [some (.ref 63), some (.int x0), some (.int x1), none] [.int 5, .int 0, .int x0] (hMm c0 m_s m_kp m_as m_ik m_fo m_tl m_tr m_fa m_od m_rc m_be m_ft m_tp m_td m_tk m_bg m_en m_vl m_sg m_wi m_si m_ce m_ca) rfl ?_
  refine hX_call (r' := zR_125) rfl (ct_125 x0 0 5) ?_
  refine hX_goM 1 (bif gCmp .eq (v_125 x0 0 5) 0 then 30 else 9) [some (.ref 63), some (.int x0), some (.int x1), none] [] rfl ?_
  refine hX_if (gCmp .eq (v_125 x0 0 5) 0) (fun c1 => ?_) (fun c1 => ?_)
  · skip
    have h := gcT c1 h
    refine hX_goM 2 (32) [some (.ref 63), some (.int x0), some (.int x1), none] [.int 0, .ref 63] rfl ?_
    refine hX_call (r' := zR_124) rfl (ct_124_63 0 rfl) ?_
    refine hX_go 0 (35) [some (.ref 63), some (.int x0), some (.int x1), none] [.int (v_124_63 0)] (hMm c0 m_s m_kp m_as m_ik (f_124_63_m_fo 0 m_fo) m_tl m_tr m_fa m_od m_rc m_be m_ft m_tp m_td m_tk m_bg m_en m_vl m_sg m_wi m_si m_ce m_ca) rfl ?_
    have h := Option.some.inj h; subst h
    exact hX_end rfl rfl rfl
  · skip
    have h := gcF c1 h
    refine hX_goM 3 (bif gCmp .ne x0 0 then 19 else 14) [some (.ref 63), some (.int x0), some (.int x1), none] [.int x1] rfl ?_
    refine hX_mrg 20 [some (.ref 63), some (.int x0), some (.int x1), none] [.int (bif gCmp .ne x0 0 then 0 else (-9)), .int x1] (hMm c0 m_s m_kp m_as m_ik m_fo m_tl m_tr m_fa m_od m_rc m_be m_ft m_tp m_td m_tk m_bg m_en m_vl m_sg m_wi m_si m_ce m_ca) (fun hk => ?_) ?_
    · skip
      refine hX_if (gCmp .ne x0 0) (fun c3 => ?_) (fun c3 => ?_)
      · skip
        refine hX_goM 1 (20) [some (.ref 63), some (.int x0), some (.int x1), none] [.int 0, .int x1] rfl ?_
        have hk := hk
        simp only [c3, cond_true, cond_false] at hk
        first | exact hk | (simp only [c3, cond_true, cond_false]; exact hk)
      · skip
        refine hX_goM 2 (20) [some (.ref 63), some (.int x0), some (.int x1), none] [.int (-9), .int x1] rfl ?_
        have hk := hk
        simp only [c3, cond_true, cond_false] at hk
        first | exact hk | (simp only [c3, cond_true, cond_false]; exact hk)
    refine hX_goM 1 (21) [some (.ref 63), some (.int x0), some (.int x1), none] [.int x0, .int (bif gCmp .ne x0 0 then 0 else (-9)), .int x1] rfl ?_
    refine hX_call (r' := zR_142) rfl (ct_142 x0) ?_
    refine hX_goM 0 (24) [some (.ref 63), some (.int x0), some (.int x1), none] [.int (v_142 x0), .int (bif gCmp .ne x0 0 then 0 else (-9)), .int x1] rfl ?_
    refine hX_call (r' := zR_125) rfl (ct_125 x1 (bif gCmp .ne x0 0 then 0 else (-9)) (v_142 x0)) ?_
    refine hX_goM 1 (bif gCmp .ne (v_125 x1 (bif gCmp .ne x0 0 then 0 else (-9)) (v_142 x0)) 0 then 36 else 30) [some (.ref 63), some (.int x0), some (.int x1), none] [] rfl ?_
    refine hX_if (gCmp .ne (v_125 x1 (bif gCmp .ne x0 0 then 0 else (-9)) (v_142 x0)) 0) (fun c4 => ?_) (fun c4 => ?_)
    · skip
      have h := gcT c4 h
      refine hX_goM 5 (43) [some (.ref 63), some (.int x0), some (.int x1), none] [.int (5 + x0), .ref 64] rfl ?_
      revert h; refine gCondR fun g5 h => ?_
      refine hX_gM (gIn (5 + x0) 134) 44 [some (.ref 63), some (.int x0), some (.int x1), none] [.int (m_s (Int32.toNatClampNeg (5 + x0)))] rfl g5 ?_
      refine hX_goM 7 (53) [some (.ref 63), some (.int x0), some (.int x1), some (.int (m_s (Int32.toNatClampNeg (5 + x0))))] [.int x1, .int (5 + x0), .ref 64] rfl ?_
      revert h; refine gCondR fun g6 h => ?_
      refine hX_g (gIn (5 + x0) 134) 54 [some (.ref 63), some (.int x0), some (.int x1), some (.int (m_s (Int32.toNatClampNeg (5 + x0))))] [] (hMm c0 (upd m_s (Int32.toNatClampNeg (5 + x0)) x1) m_kp m_as m_ik m_fo m_tl m_tr m_fa m_od m_rc m_be m_ft m_tp m_td m_tk m_bg m_en m_vl m_sg m_wi m_si m_ce m_ca) rfl g6 ?_
      refine hX_goM 1 (55) [some (.ref 63), some (.int x0), some (.int x1), some (.int (m_s (Int32.toNatClampNeg (5 + x0))))] [.int (m_s (Int32.toNatClampNeg (5 + x0)))] rfl ?_
      have h := Option.some.inj h; subst h
      exact hX_end rfl rfl rfl
    · skip
      have h := gcF c4 h
      refine hX_goM 2 (32) [some (.ref 63), some (.int x0), some (.int x1), none] [.int 0, .ref 63] rfl ?_
      refine hX_call (r' := zR_124) rfl (ct_124_63 0 rfl) ?_
      refine hX_go 0 (35) [some (.ref 63), some (.int x0), some (.int x1), none] [.int (v_124_63 0)] (hMm c0 m_s m_kp m_as m_ik (f_124_63_m_fo 0 m_fo) m_tl m_tr m_fa m_od m_rc m_be m_ft m_tp m_td m_tk m_bg m_en m_vl m_sg m_wi m_si m_ce m_ca) rfl ?_
      have h := Option.some.inj h; subst h
      exact hX_end rfl rfl rfl


/-- UpOneSideModel.ruled(I)I -/
def me_144_63 (N : Nat) (x0 : Int32) (m_s : Nat → Int32) (m_fo : Nat → Int32) : Option (Int32 × (Nat → Int32)) :=
  (bif (gCmp .eq (v_125 x0 0 5) 0) || (gIn (5 + x0) 134) then some (bif gCmp .eq (v_125 x0 0 5) 0 then (v_124_63 0) else (m_s (Int32.toNatClampNeg (5 + x0))), bif gCmp .eq (v_125 x0 0 5) 0 then (f_124_63_m_fo 0 m_fo) else m_fo) else none)
set_option maxRecDepth 20000 in
set_option maxHeartbeats 4000000 in
theorem mt_144_63 {LL : Nat} {xs : Nat → Int32} {D : Nat} {c0 : Nat → gE} {m_s : Nat → Int32} {m_kp : Nat → Int32} {m_as : Nat → Int32} {m_ik : Int32} {m_fo : Nat → Int32} {m_tl : Int32} {m_tr : Int32} {m_fa : Nat → Int32} {m_od : Nat → Int32} {m_rc : Int32} {m_be : Nat → Int32} {m_ft : Int32} {m_tp : Nat → Int32} {m_td : Int32} {m_tk : Int32} {m_bg : Int32} {m_en : Int32} {m_vl : Int64} {m_sg : Int32} {m_wi : Nat → Int32} {m_si : Nat → Int32} {m_ce : Nat → Int32} {m_ca : Nat → Int32} (N : Nat) (x0 : Int32) (q : Int32 × (Nat → Int32)) (h : me_144_63 N x0 m_s m_fo = some q) : hM (gO LL xs) (D + 1) zR_144 [.ref 63, .int x0] (hMm c0 m_s m_kp m_as m_ik m_fo m_tl m_tr m_fa m_od m_rc m_be m_ft m_tp m_td m_tk m_bg m_en m_vl m_sg m_wi m_si m_ce m_ca) (some (.int q.1)) (hMm c0 m_s m_kp m_as m_ik q.2 m_tl m_tr m_fa m_od m_rc m_be m_ft m_tp m_td m_tk m_bg m_en m_vl m_sg m_wi m_si m_ce m_ca) := by
  unfold me_144_63 at h
  refine hX_go 0 0 [some (.ref 63), some (.int x0)] [] (hMm c0 m_s m_kp m_as m_ik m_fo m_tl m_tr m_fa m_od m_rc m_be m_ft m_tp m_td m_tk m_bg m_en m_vl m_sg m_wi m_si m_ce m_ca) rfl ?_
  refine hX_go 3 (3) [some (.ref 63), some (.int x0)] [.int 5, .int 0, .int x0] (hMm c0 m_s m_kp m_as m_ik m_fo m_tl m_tr m_fa m_od m_rc m_be m_ft m_tp m_td m_tk m_bg m_en m_vl m_sg m_wi m_si m_ce m_ca) rfl ?_
  refine hX_call (r' := zR_125) rfl (ct_125 x0 0 5) ?_
  refine hX_goM 1 (bif gCmp .eq (v_125 x0 0 5) 0 then 20 else 9) [some (.ref 63), some (.int x0)] [] rfl ?_
  revert h; refine gCondR fun o2 h => ?_
  refine hX_mrg 25 [some (.ref 63), some (.int x0)] [.int (bif gCmp .eq (v_125 x0 0 5) 0 then (v_124_63 0) else (m_s (Int32.toNatClampNeg (5 + x0))))] (hMm c0 m_s m_kp m_as m_ik (bif gCmp .eq (v_125 x0 0 5) 0 then (f_124_63_m_fo 0 m_fo) else m_fo) m_tl m_tr m_fa m_od m_rc m_be m_ft m_tp m_td m_tk m_bg m_en m_vl m_sg m_wi m_si m_ce m_ca) (fun hk => ?_) ?_
  · skip
    refine hX_if (gCmp .eq (v_125 x0 0 5) 0) (fun c3 => ?_) (fun c3 => ?_)
    · skip
      refine hX_goM 2 (22) [some (.ref 63), some (.int x0)] [.int 0, .ref 63] rfl ?_
      refine hX_call (r' := zR_124) rfl (ct_124_63 0 rfl) ?_
      refine hX_go 0 (25) [some (.ref 63), some (.int x0)] [.int (v_124_63 0)] (hMm c0 m_s m_kp m_as m_ik (f_124_63_m_fo 0 m_fo) m_tl m_tr m_fa m_od m_rc m_be m_ft m_tp m_td m_tk m_bg m_en m_vl m_sg m_wi m_si m_ce m_ca) rfl ?_
      have hk := hk
      simp only [c3, cond_true, cond_false] at hk
      first | exact hk | (simp only [c3, cond_true, cond_false]; exact hk)
    · skip
      refine hX_goM 5 (16) [some (.ref 63), some (.int x0)] [.int (5 + x0), .ref 64] rfl ?_
      refine hX_gM (gIn (5 + x0) 134) 17 [some (.ref 63), some (.int x0)] [.int (m_s (Int32.toNatClampNeg (5 + x0)))] rfl (gImpF o2 c3) ?_
      refine hX_goM 1 (25) [some (.ref 63), some (.int x0)] [.int (m_s (Int32.toNatClampNeg (5 + x0)))] rfl ?_
      have hk := hk
      simp only [c3, cond_true, cond_false] at hk
      first | exact hk | (simp only [c3, cond_true, cond_false]; exact hk)
  have h := Option.some.inj h; subst h
  exact hX_end rfl rfl rfl


/-- UpOneSideModel.price(II)I -/
def me_145_63 (N : Nat) (x0 : Int32) (x1 : Int32) (m_s : Nat → Int32) (m_fo : Nat → Int32) : Option (Int32 × (Nat → Int32) × (Nat → Int32)) :=
  (bif gCmp .eq (v_125 x0 0 3) 0 then
    some (v_124_63 0, m_s, f_124_63_m_fo 0 m_fo)
  else
    (bif gCmp .ne (v_125 x1 0 99) 0 then
      (bif gIn (11 + x0) 134 then (bif gIn (11 + x0) 134 then some (m_s (Int32.toNatClampNeg (11 + x0)), upd m_s (Int32.toNatClampNeg (11 + x0)) x1, m_fo) else none) else none)
    else
      some (v_124_63 0, m_s, f_124_63_m_fo 0 m_fo)))
set_option maxRecDepth 20000 in
set_option maxHeartbeats 4000000 in
theorem mt_145_63 {LL : Nat} {xs : Nat → Int32} {D : Nat} {c0 : Nat → gE} {m_s : Nat → Int32} {m_kp : Nat → Int32} {m_as : Nat → Int32} {m_ik : Int32} {m_fo : Nat → Int32} {m_tl : Int32} {m_tr : Int32} {m_fa : Nat → Int32} {m_od : Nat → Int32} {m_rc : Int32} {m_be : Nat → Int32} {m_ft : Int32} {m_tp : Nat → Int32} {m_td : Int32} {m_tk : Int32} {m_bg : Int32} {m_en : Int32} {m_vl : Int64} {m_sg : Int32} {m_wi : Nat → Int32} {m_si : Nat → Int32} {m_ce : Nat → Int32} {m_ca : Nat → Int32} (N : Nat) (x0 : Int32) (x1 : Int32) (q : Int32 × (Nat → Int32) × (Nat → Int32)) (h : me_145_63 N x0 x1 m_s m_fo = some q) : hM (gO LL xs) (D + 1) zR_145 [.ref 63, .int x0, .int x1] (hMm c0 m_s m_kp m_as m_ik m_fo m_tl m_tr m_fa m_od m_rc m_be m_ft m_tp m_td m_tk m_bg m_en m_vl m_sg m_wi m_si m_ce m_ca) (some (.int q.1)) (hMm c0 q.2.1 m_kp m_as m_ik q.2.2 m_tl m_tr m_fa m_od m_rc m_be m_ft m_tp m_td m_tk m_bg m_en m_vl m_sg m_wi m_si m_ce m_ca) := by
  unfold me_145_63 at h
  refine hX_go 0 0 [some (.ref 63), some (.int x0), some (.int x1), none] [] (hMm c0 m_s m_kp m_as m_ik m_fo m_tl m_tr m_fa m_od m_rc m_be m_ft m_tp m_td m_tk m_bg m_en m_vl m_sg m_wi m_si m_ce m_ca) rfl ?_
  refine hX_go 3 (3) [some (.ref 63), some (.int x0), some (.int x1), none] [.int 3, .int 0, .int x0] (hMm c0 m_s m_kp m_as m_ik m_fo m_tl m_tr m_fa m_od m_rc m_be m_ft m_tp m_td m_tk m_bg m_en m_vl m_sg m_wi m_si m_ce m_ca) rfl ?_
  refine hX_call (r' := zR_125) rfl (ct_125 x0 0 3) ?_
  refine hX_goM 1 (bif gCmp .eq (v_125 x0 0 3) 0 then 19 else 9) [some (.ref 63), some (.int x0), some (.int x1), none] [] rfl ?_
  refine hX_if (gCmp .eq (v_125 x0 0 3) 0) (fun c1 => ?_) (fun c1 => ?_)
  · skip
    have h := gcT c1 h
    refine hX_goM 2 (21) [some (.ref 63), some (.int x0), some (.int x1), none] [.int 0, .ref 63] rfl ?_
    refine hX_call (r' := zR_124) rfl (ct_124_63 0 rfl) ?_
    refine hX_go 0 (24) [some (.ref 63), some (.int x0), some (.int x1), none] [.int (v_124_63 0)] (hMm c0 m_s m_kp m_as m_ik (f_124_63_m_fo 0 m_fo) m_tl m_tr m_fa m_od m_rc m_be m_ft m_tp m_td m_tk m_bg m_en m_vl m_sg m_wi m_si m_ce m_ca) rfl ?_
    have h := Option.some.inj h; subst h
    exact hX_end rfl rfl rfl
  · skip
    have h := gcF c1 h
    refine hX_goM 3 (13) [some (.ref 63), some (.int x0), some (.int x1), none] [.int 99, .int 0, .int x1] rfl ?_
    refine hX_call (r' := zR_125) rfl (ct_125 x1 0 99) ?_
    refine hX_goM 1 (bif gCmp .ne (v_125 x1 0 99) 0 then 25 else 19) [some (.ref 63), some (.int x0), some (.int x1), none] [] rfl ?_
    refine hX_if (gCmp .ne (v_125 x1 0 99) 0) (fun c2 => ?_) (fun c2 => ?_)
    · skip
      have h := gcT c2 h
      refine hX_goM 5 (33) [some (.ref 63), some (.int x0), some (.int x1), none] [.int (11 + x0), .ref 64] rfl ?_
      revert h; refine gCondR fun g3 h => ?_
      refine hX_gM (gIn (11 + x0) 134) 34 [some (.ref 63), some (.int x0), some (.int x1), none] [.int (m_s (Int32.toNatClampNeg (11 + x0)))] rfl g3 ?_
      refine hX_goM 7 (44) [some (.ref 63), some (.int x0), some (.int x1), some (.int (m_s (Int32.toNatClampNeg (11 + x0))))] [.int x1, .int (11 + x0), .ref 64] rfl ?_
      revert h; refine gCondR fun g4 h => ?_
      refine hX_g (gIn (11 + x0) 134) 45 [some (.ref 63), some (.int x0), some (.int x1), some (.int (m_s (Int32.toNatClampNeg (11 + x0))))] [] (hMm c0 (upd m_s (Int32.toNatClampNeg (11 + x0)) x1) m_kp m_as m_ik m_fo m_tl m_tr m_fa m_od m_rc m_be m_ft m_tp m_td m_tk m_bg m_en m_vl m_sg m_wi m_si m_ce m_ca) rfl g4 ?_
      refine hX_goM 1 (46) [some (.ref 63), some (.int x0), some (.int x1), some (.int (m_s (Int32.toNatClampNeg (11 + x0))))] [.int (m_s (Int32.toNatClampNeg (11 + x0)))] rfl ?_
      have h := Option.some.inj h; subst h
      exact hX_end rfl rfl rfl
    · skip
      have h := gcF c2 h
      refine hX_goM 2 (21) [some (.ref 63), some (.int x0), some (.int x1), none] [.int 0, .ref 63] rfl ?_
      refine hX_call (r' := zR_124) rfl (ct_124_63 0 rfl) ?_
      refine hX_go 0 (24) [some (.ref 63), some (.int x0), some (.int x1), none] [.int (v_124_63 0)] (hMm c0 m_s m_kp m_as m_ik (f_124_63_m_fo 0 m_fo) m_tl m_tr m_fa m_od m_rc m_be m_ft m_tp m_td m_tk m_bg m_en m_vl m_sg m_wi m_si m_ce m_ca) rfl ?_
      have h := Option.some.inj h; subst h
      exact hX_end rfl rfl rfl

/-- UpOneSideModel.off()I -/
def v_146_63 (m_s : Nat → Int32) : Int32 := (m_s 0) - (m_s 1)
set_option maxRecDepth 20000 in
set_option maxHeartbeats 1000000 in
theorem ct_146_63 {LL : Nat} {xs : Nat → Int32} {D : Nat} {c0 : Nat → gE} {m_s : Nat → Int32} {m_kp : Nat → Int32} {m_as : Nat → Int32} {m_ik : Int32} {m_fo : Nat → Int32} {m_tl : Int32} {m_tr : Int32} {m_fa : Nat → Int32} {m_od : Nat → Int32} {m_rc : Int32} {m_be : Nat → Int32} {m_ft : Int32} {m_tp : Nat → Int32} {m_td : Int32} {m_tk : Int32} {m_bg : Int32} {m_en : Int32} {m_vl : Int64} {m_sg : Int32} {m_wi : Nat → Int32} {m_si : Nat → Int32} {m_ce : Nat → Int32} {m_ca : Nat → Int32} : hM (gO LL xs) (D + 0) zR_146 [.ref 63] (hMm c0 m_s m_kp m_as m_ik m_fo m_tl m_tr m_fa m_od m_rc m_be m_ft m_tp m_td m_tk m_bg m_en m_vl m_sg m_wi m_si m_ce m_ca) (some (.int (v_146_63 m_s))) (hMm c0 m_s m_kp m_as m_ik m_fo m_tl m_tr m_fa m_od m_rc m_be m_ft m_tp m_td m_tk m_bg m_en m_vl m_sg m_wi m_si m_ce m_ca) := by
  refine hX_go 0 0 [some (.ref 63)] [] (hMm c0 m_s m_kp m_as m_ik m_fo m_tl m_tr m_fa m_od m_rc m_be m_ft m_tp m_td m_tk m_bg m_en m_vl m_sg m_wi m_si m_ce m_ca) rfl ?_
  refine hX_go 9 (13) [some (.ref 63)] [.int ((m_s 0) - (m_s 1))] (hMm c0 m_s m_kp m_as m_ik m_fo m_tl m_tr m_fa m_od m_rc m_be m_ft m_tp m_td m_tk m_bg m_en m_vl m_sg m_wi m_si m_ce m_ca) rfl ?_
  exact hX_end rfl (rfl) (rfl)


/-- UpOneSideModel.up(II)I -/
def me_147_63 (N : Nat) (x0 : Int32) (x1 : Int32) (m_s : Nat → Int32) (m_fo : Nat → Int32) : Option (Int32 × (Nat → Int32) × (Nat → Int32)) :=
  (bif gCmp .eq (v_130 x0) 0 then
    some (v_124_63 0, m_s, f_124_63_m_fo 0 m_fo)
  else
    (bif gCmp .ne (v_130 x1) 0 then
      some (v_146_63 (upd (upd m_s 0 x0) 1 x1), upd (upd m_s 0 x0) 1 x1, m_fo)
    else
      some (v_124_63 0, m_s, f_124_63_m_fo 0 m_fo)))
set_option maxRecDepth 20000 in
set_option maxHeartbeats 4000000 in
theorem mt_147_63 {LL : Nat} {xs : Nat → Int32} {D : Nat} {c0 : Nat → gE} {m_s : Nat → Int32} {m_kp : Nat → Int32} {m_as : Nat → Int32} {m_ik : Int32} {m_fo : Nat → Int32} {m_tl : Int32} {m_tr : Int32} {m_fa : Nat → Int32} {m_od : Nat → Int32} {m_rc : Int32} {m_be : Nat → Int32} {m_ft : Int32} {m_tp : Nat → Int32} {m_td : Int32} {m_tk : Int32} {m_bg : Int32} {m_en : Int32} {m_vl : Int64} {m_sg : Int32} {m_wi : Nat → Int32} {m_si : Nat → Int32} {m_ce : Nat → Int32} {m_ca : Nat → Int32} (N : Nat) (x0 : Int32) (x1 : Int32) (q : Int32 × (Nat → Int32) × (Nat → Int32)) (h : me_147_63 N x0 x1 m_s m_fo = some q) : hM (gO LL xs) (D + 2) zR_147 [.ref 63, .int x0, .int x1] (hMm c0 m_s m_kp m_as m_ik m_fo m_tl m_tr m_fa m_od m_rc m_be m_ft m_tp m_td m_tk m_bg m_en m_vl m_sg m_wi m_si m_ce m_ca) (some (.int q.1)) (hMm c0 q.2.1 m_kp m_as m_ik q.2.2 m_tl m_tr m_fa m_od m_rc m_be m_ft m_tp m_td m_tk m_bg m_en m_vl m_sg m_wi m_si m_ce m_ca) := by
  unfold me_147_63 at h
  refine hX_go 0 0 [some (.ref 63), some (.int x0), some (.int x1)] [] (hMm c0 m_s m_kp m_as m_ik m_fo m_tl m_tr m_fa m_od m_rc m_be m_ft m_tp m_td m_tk m_bg m_en m_vl m_sg m_wi m_si m_ce m_ca) rfl ?_
  refine hX_go 1 (1) [some (.ref 63), some (.int x0), some (.int x1)] [.int x0] (hMm c0 m_s m_kp m_as m_ik m_fo m_tl m_tr m_fa m_od m_rc m_be m_ft m_tp m_td m_tk m_bg m_en m_vl m_sg m_wi m_si m_ce m_ca) rfl ?_
  refine hX_call (r' := zR_130) rfl (ct_130 x0) ?_
  refine hX_goM 1 (bif gCmp .eq (v_130 x0) 0 then 14 else 7) [some (.ref 63), some (.int x0), some (.int x1)] [] rfl ?_
  refine hX_if (gCmp .eq (v_130 x0) 0) (fun c1 => ?_) (fun c1 => ?_)
  · skip
    have h := gcT c1 h
    refine hX_goM 2 (16) [some (.ref 63), some (.int x0), some (.int x1)] [.int 0, .ref 63] rfl ?_
    refine hX_call (r' := zR_124) rfl (ct_124_63 0 rfl) ?_
    refine hX_go 0 (19) [some (.ref 63), some (.int x0), some (.int x1)] [.int (v_124_63 0)] (hMm c0 m_s m_kp m_as m_ik (f_124_63_m_fo 0 m_fo) m_tl m_tr m_fa m_od m_rc m_be m_ft m_tp m_td m_tk m_bg m_en m_vl m_sg m_wi m_si m_ce m_ca) rfl ?_
    have h := Option.some.inj h; subst h
    exact hX_end rfl rfl rfl
  · skip
    have h := gcF c1 h
    refine hX_goM 1 (8) [some (.ref 63), some (.int x0), some (.int x1)] [.int x1] rfl ?_
    refine hX_call (r' := zR_130) rfl (ct_130 x1) ?_
    refine hX_goM 1 (bif gCmp .ne (v_130 x1) 0 then 20 else 14) [some (.ref 63), some (.int x0), some (.int x1)] [] rfl ?_
    refine hX_if (gCmp .ne (v_130 x1) 0) (fun c2 => ?_) (fun c2 => ?_)
    · skip
      have h := gcT c2 h
      refine hX_go 9 (33) [some (.ref 63), some (.int x0), some (.int x1)] [.int x1, .int 1, .ref 64] (hMm c0 (upd m_s 0 x0) m_kp m_as m_ik m_fo m_tl m_tr m_fa m_od m_rc m_be m_ft m_tp m_td m_tk m_bg m_en m_vl m_sg m_wi m_si m_ce m_ca) rfl ?_
      refine hX_go 2 (35) [some (.ref 63), some (.int x0), some (.int x1)] [.ref 63] (hMm c0 (upd (upd m_s 0 x0) 1 x1) m_kp m_as m_ik m_fo m_tl m_tr m_fa m_od m_rc m_be m_ft m_tp m_td m_tk m_bg m_en m_vl m_sg m_wi m_si m_ce m_ca) rfl ?_
      refine hX_call (r' := zR_146) rfl (ct_146_63) ?_
      refine hX_goM 0 (38) [some (.ref 63), some (.int x0), some (.int x1)] [.int (v_146_63 (upd (upd m_s 0 x0) 1 x1))] rfl ?_
      have h := Option.some.inj h; subst h
      exact hX_end rfl rfl rfl
    · skip
      have h := gcF c2 h
      refine hX_goM 2 (16) [some (.ref 63), some (.int x0), some (.int x1)] [.int 0, .ref 63] rfl ?_
      refine hX_call (r' := zR_124) rfl (ct_124_63 0 rfl) ?_
      refine hX_go 0 (19) [some (.ref 63), some (.int x0), some (.int x1)] [.int (v_124_63 0)] (hMm c0 m_s m_kp m_as m_ik (f_124_63_m_fo 0 m_fo) m_tl m_tr m_fa m_od m_rc m_be m_ft m_tp m_td m_tk m_bg m_en m_vl m_sg m_wi m_si m_ce m_ca) rfl ?_
      have h := Option.some.inj h; subst h
      exact hX_end rfl rfl rfl

/-- UpOneSideModel.done(I)V -/
def f_148_63_m_s (x0 : Int32) (m_s : Nat → Int32) : Nat → Int32 := upd (upd (upd (upd m_s (Int32.toNatClampNeg (39 + (m_s 0))) ((m_s (Int32.toNatClampNeg (39 + (m_s 0)))) + (bif gCmp .ge (m_s (Int32.toNatClampNeg (39 + (m_s 0)))) 9999 then 0 else 1))) 0 (f_136_63_m_tl x0 m_s (f_135_63_m_tl m_s) (f_135_63_m_tr m_s))) 1 (f_136_63_m_tr x0 m_s (f_135_63_m_tl m_s) (f_135_63_m_tr m_s))) 2 (((upd (upd (upd m_s (Int32.toNatClampNeg (39 + (m_s 0))) ((m_s (Int32.toNatClampNeg (39 + (m_s 0)))) + (bif gCmp .ge (m_s (Int32.toNatClampNeg (39 + (m_s 0)))) 9999 then 0 else 1))) 0 (f_136_63_m_tl x0 m_s (f_135_63_m_tl m_s) (f_135_63_m_tr m_s))) 1 (f_136_63_m_tr x0 m_s (f_135_63_m_tl m_s) (f_135_63_m_tr m_s))) 2) + 1)
def f_148_63_m_tl (x0 : Int32) (m_s : Nat → Int32) : Int32 := f_136_63_m_tl x0 m_s (f_135_63_m_tl m_s) (f_135_63_m_tr m_s)
def f_148_63_m_tr (x0 : Int32) (m_s : Nat → Int32) : Int32 := f_136_63_m_tr x0 m_s (f_135_63_m_tl m_s) (f_135_63_m_tr m_s)
set_option maxRecDepth 20000 in
set_option maxHeartbeats 1000000 in
theorem ct_148_63 {LL : Nat} {xs : Nat → Int32} {D : Nat} {c0 : Nat → gE} {m_s : Nat → Int32} {m_kp : Nat → Int32} {m_as : Nat → Int32} {m_ik : Int32} {m_fo : Nat → Int32} {m_tl : Int32} {m_tr : Int32} {m_fa : Nat → Int32} {m_od : Nat → Int32} {m_rc : Int32} {m_be : Nat → Int32} {m_ft : Int32} {m_tp : Nat → Int32} {m_td : Int32} {m_tk : Int32} {m_bg : Int32} {m_en : Int32} {m_vl : Int64} {m_sg : Int32} {m_wi : Nat → Int32} {m_si : Nat → Int32} {m_ce : Nat → Int32} {m_ca : Nat → Int32} (x0 : Int32) (o1 : gIn ((15 + (3 * x0)) + 0) 134 = true) (o2 : gIn ((15 + (3 * x0)) + 1) 134 = true) (o3 : gIn ((15 + (3 * x0)) + 2) 134 = true) (o4 : gIn (39 + (m_s 0)) 134 = true) : hM (gO LL xs) (D + 3) zR_148 [.ref 63, .int x0] (hMm c0 m_s m_kp m_as m_ik m_fo m_tl m_tr m_fa m_od m_rc m_be m_ft m_tp m_td m_tk m_bg m_en m_vl m_sg m_wi m_si m_ce m_ca) none (hMm c0 (f_148_63_m_s x0 m_s) m_kp m_as m_ik m_fo (f_148_63_m_tl x0 m_s) (f_148_63_m_tr x0 m_s) m_fa m_od m_rc m_be m_ft m_tp m_td m_tk m_bg m_en m_vl m_sg m_wi m_si m_ce m_ca) := by
  refine hX_go 0 0 [some (.ref 63), some (.int x0)] [] (hMm c0 m_s m_kp m_as m_ik m_fo m_tl m_tr m_fa m_od m_rc m_be m_ft m_tp m_td m_tk m_bg m_en m_vl m_sg m_wi m_si m_ce m_ca) rfl ?_
  refine hX_go 1 (1) [some (.ref 63), some (.int x0)] [.ref 63] (hMm c0 m_s m_kp m_as m_ik m_fo m_tl m_tr m_fa m_od m_rc m_be m_ft m_tp m_td m_tk m_bg m_en m_vl m_sg m_wi m_si m_ce m_ca) rfl ?_
  refine hX_call (r' := zR_135) rfl (ct_135_63) ?_
  refine hX_go 2 (6) [some (.ref 63), some (.int x0)] [.int x0, .ref 63] (hMm c0 m_s m_kp m_as m_ik m_fo (f_135_63_m_tl m_s) (f_135_63_m_tr m_s) m_fa m_od m_rc m_be m_ft m_tp m_td m_tk m_bg m_en m_vl m_sg m_wi m_si m_ce m_ca) rfl ?_
  refine hX_call (r' := zR_136) rfl (ct_136_63 x0 o1 o2 o3) ?_
  refine hX_go 9 (23) [some (.ref 63), some (.int x0)] [.int (39 + (m_s 0)), .ref 64, .int (39 + (m_s 0)), .ref 64] (hMm c0 m_s m_kp m_as m_ik m_fo (f_136_63_m_tl x0 m_s (f_135_63_m_tl m_s) (f_135_63_m_tr m_s)) (f_136_63_m_tr x0 m_s (f_135_63_m_tl m_s) (f_135_63_m_tr m_s)) m_fa m_od m_rc m_be m_ft m_tp m_td m_tk m_bg m_en m_vl m_sg m_wi m_si m_ce m_ca) rfl ?_
  refine hX_gM (gIn (39 + (m_s 0)) 134) 24 [some (.ref 63), some (.int x0)] [.int (m_s (Int32.toNatClampNeg (39 + (m_s 0)))), .int (39 + (m_s 0)), .ref 64] rfl o4 ?_
  refine hX_goM 8 (37) [some (.ref 63), some (.int x0)] [.int (39 + (m_s 0)), .ref 64, .int (m_s (Int32.toNatClampNeg (39 + (m_s 0)))), .int (39 + (m_s 0)), .ref 64] rfl ?_
  refine hX_gM (gIn (39 + (m_s 0)) 134) 38 [some (.ref 63), some (.int x0)] [.int (m_s (Int32.toNatClampNeg (39 + (m_s 0)))), .int (m_s (Int32.toNatClampNeg (39 + (m_s 0)))), .int (39 + (m_s 0)), .ref 64] rfl o4 ?_
  refine hX_goM 2 (bif gCmp .ge (m_s (Int32.toNatClampNeg (39 + (m_s 0)))) 9999 then 48 else 44) [some (.ref 63), some (.int x0)] [.int (m_s (Int32.toNatClampNeg (39 + (m_s 0)))), .int (39 + (m_s 0)), .ref 64] rfl ?_
  suffices hk : hX (gO LL xs) (D + 3) zR_148 49 [some (.ref 63), some (.int x0)] [.int (bif gCmp .ge (m_s (Int32.toNatClampNeg (39 + (m_s 0)))) 9999 then 0 else 1), .int (m_s (Int32.toNatClampNeg (39 + (m_s 0)))), .int (39 + (m_s 0)), .ref 64] (hMm c0 m_s m_kp m_as m_ik m_fo (f_136_63_m_tl x0 m_s (f_135_63_m_tl m_s) (f_135_63_m_tr m_s)) (f_136_63_m_tr x0 m_s (f_135_63_m_tl m_s) (f_135_63_m_tr m_s)) m_fa m_od m_rc m_be m_ft m_tp m_td m_tk m_bg m_en m_vl m_sg m_wi m_si m_ce m_ca) none (hMm c0 (f_148_63_m_s x0 m_s) m_kp m_as m_ik m_fo (f_148_63_m_tl x0 m_s) (f_148_63_m_tr x0 m_s) m_fa m_od m_rc m_be m_ft m_tp m_td m_tk m_bg m_en m_vl m_sg m_wi m_si m_ce m_ca) by
    refine hX_if (gCmp .ge (m_s (Int32.toNatClampNeg (39 + (m_s 0)))) 9999) (fun c1 => ?_) (fun c1 => ?_)
    · skip
      refine hX_goM 1 (49) [some (.ref 63), some (.int x0)] [.int 0, .int (m_s (Int32.toNatClampNeg (39 + (m_s 0)))), .int (39 + (m_s 0)), .ref 64] rfl ?_
      have hk := hk
      simp only [c1, cond_true, cond_false] at hk
      first | exact hk | (simp only [c1, cond_true, cond_false]; exact hk)
    · skip
      refine hX_goM 2 (49) [some (.ref 63), some (.int x0)] [.int 1, .int (m_s (Int32.toNatClampNeg (39 + (m_s 0)))), .int (39 + (m_s 0)), .ref 64] rfl ?_
      have hk := hk
      simp only [c1, cond_true, cond_false] at hk
      first | exact hk | (simp only [c1, cond_true, cond_false]; exact hk)
  refine hX_goM 1 (50) [some (.ref 63), some (.int x0)] [.int ((m_s (Int32.toNatClampNeg (39 + (m_s 0)))) + (bif gCmp .ge (m_s (Int32.toNatClampNeg (39 + (m_s 0)))) 9999 then 0 else 1)), .int (39 + (m_s 0)), .ref 64] rfl ?_
  refine hX_g (gIn (39 + (m_s 0)) 134) 51 [some (.ref 63), some (.int x0)] [] (hMm c0 (upd m_s (Int32.toNatClampNeg (39 + (m_s 0))) ((m_s (Int32.toNatClampNeg (39 + (m_s 0)))) + (bif gCmp .ge (m_s (Int32.toNatClampNeg (39 + (m_s 0)))) 9999 then 0 else 1))) m_kp m_as m_ik m_fo (f_136_63_m_tl x0 m_s (f_135_63_m_tl m_s) (f_135_63_m_tr m_s)) (f_136_63_m_tr x0 m_s (f_135_63_m_tl m_s) (f_135_63_m_tr m_s)) m_fa m_od m_rc m_be m_ft m_tp m_td m_tk m_bg m_en m_vl m_sg m_wi m_si m_ce m_ca) rfl o4 ?_
  refine hX_go 9 (66) [some (.ref 63), some (.int x0)] [.int 1, .ref 64] (hMm c0 (upd (upd m_s (Int32.toNatClampNeg (39 + (m_s 0))) ((m_s (Int32.toNatClampNeg (39 + (m_s 0)))) + (bif gCmp .ge (m_s (Int32.toNatClampNeg (39 + (m_s 0)))) 9999 then 0 else 1))) 0 (f_136_63_m_tl x0 m_s (f_135_63_m_tl m_s) (f_135_63_m_tr m_s))) m_kp m_as m_ik m_fo (f_136_63_m_tl x0 m_s (f_135_63_m_tl m_s) (f_135_63_m_tr m_s)) (f_136_63_m_tr x0 m_s (f_135_63_m_tl m_s) (f_135_63_m_tr m_s)) m_fa m_od m_rc m_be m_ft m_tp m_td m_tk m_bg m_en m_vl m_sg m_wi m_si m_ce m_ca) rfl ?_
  refine hX_go 9 (79) [some (.ref 63), some (.int x0)] [.int 1, .int ((upd (upd (upd m_s (Int32.toNatClampNeg (39 + (m_s 0))) ((m_s (Int32.toNatClampNeg (39 + (m_s 0)))) + (bif gCmp .ge (m_s (Int32.toNatClampNeg (39 + (m_s 0)))) 9999 then 0 else 1))) 0 (f_136_63_m_tl x0 m_s (f_135_63_m_tl m_s) (f_135_63_m_tr m_s))) 1 (f_136_63_m_tr x0 m_s (f_135_63_m_tl m_s) (f_135_63_m_tr m_s))) 2), .int 2, .ref 64] (hMm c0 (upd (upd (upd m_s (Int32.toNatClampNeg (39 + (m_s 0))) ((m_s (Int32.toNatClampNeg (39 + (m_s 0)))) + (bif gCmp .ge (m_s (Int32.toNatClampNeg (39 + (m_s 0)))) 9999 then 0 else 1))) 0 (f_136_63_m_tl x0 m_s (f_135_63_m_tl m_s) (f_135_63_m_tr m_s))) 1 (f_136_63_m_tr x0 m_s (f_135_63_m_tl m_s) (f_135_63_m_tr m_s))) m_kp m_as m_ik m_fo (f_136_63_m_tl x0 m_s (f_135_63_m_tl m_s) (f_135_63_m_tr m_s)) (f_136_63_m_tr x0 m_s (f_135_63_m_tl m_s) (f_135_63_m_tr m_s)) m_fa m_od m_rc m_be m_ft m_tp m_td m_tk m_bg m_en m_vl m_sg m_wi m_si m_ce m_ca) rfl ?_
  refine hX_go 2 (81) [some (.ref 63), some (.int x0)] [] (hMm c0 (upd (upd (upd (upd m_s (Int32.toNatClampNeg (39 + (m_s 0))) ((m_s (Int32.toNatClampNeg (39 + (m_s 0)))) + (bif gCmp .ge (m_s (Int32.toNatClampNeg (39 + (m_s 0)))) 9999 then 0 else 1))) 0 (f_136_63_m_tl x0 m_s (f_135_63_m_tl m_s) (f_135_63_m_tr m_s))) 1 (f_136_63_m_tr x0 m_s (f_135_63_m_tl m_s) (f_135_63_m_tr m_s))) 2 (((upd (upd (upd m_s (Int32.toNatClampNeg (39 + (m_s 0))) ((m_s (Int32.toNatClampNeg (39 + (m_s 0)))) + (bif gCmp .ge (m_s (Int32.toNatClampNeg (39 + (m_s 0)))) 9999 then 0 else 1))) 0 (f_136_63_m_tl x0 m_s (f_135_63_m_tl m_s) (f_135_63_m_tr m_s))) 1 (f_136_63_m_tr x0 m_s (f_135_63_m_tl m_s) (f_135_63_m_tr m_s))) 2) + 1)) m_kp m_as m_ik m_fo (f_136_63_m_tl x0 m_s (f_135_63_m_tl m_s) (f_135_63_m_tr m_s)) (f_136_63_m_tr x0 m_s (f_135_63_m_tl m_s) (f_135_63_m_tr m_s)) m_fa m_od m_rc m_be m_ft m_tp m_td m_tk m_bg m_en m_vl m_sg m_wi m_si m_ce m_ca) rfl ?_
  exact hX_end rfl (rfl) (rfl)


/-- UpOneSideModel.does(I)I -/
def me_149_63 (N : Nat) (x0 : Int32) (m_s : Nat → Int32) (m_fo : Nat → Int32) (m_tl : Int32) (m_tr : Int32) : Option (Int32 × (Nat → Int32) × (Nat → Int32) × Int32 × Int32) :=
  (bif gCmp .ne (v_129_63 x0 m_s) 0 then
    (bif gCmp .ne (m_s 2) 99999 then
      (bif gIn ((15 + (3 * x0)) + 0) 134 then (bif gIn ((15 + (3 * x0)) + 1) 134 then (bif gIn ((15 + (3 * x0)) + 2) 134 then (bif gIn (39 + (m_s 0)) 134 then some (v_146_63 (f_148_63_m_s x0 m_s), f_148_63_m_s x0 m_s, m_fo, f_148_63_m_tl x0 m_s, f_148_63_m_tr x0 m_s) else none) else none) else none) else none)
    else
      some (v_124_63 4, m_s, f_124_63_m_fo 4 m_fo, m_tl, m_tr))
  else
    some (v_124_63 0, m_s, f_124_63_m_fo 0 m_fo, m_tl, m_tr))
set_option maxRecDepth 20000 in
set_option maxHeartbeats 4000000 in
theorem mt_149_63 {LL : Nat} {xs : Nat → Int32} {D : Nat} {c0 : Nat → gE} {m_s : Nat → Int32} {m_kp : Nat → Int32} {m_as : Nat → Int32} {m_ik : Int32} {m_fo : Nat → Int32} {m_tl : Int32} {m_tr : Int32} {m_fa : Nat → Int32} {m_od : Nat → Int32} {m_rc : Int32} {m_be : Nat → Int32} {m_ft : Int32} {m_tp : Nat → Int32} {m_td : Int32} {m_tk : Int32} {m_bg : Int32} {m_en : Int32} {m_vl : Int64} {m_sg : Int32} {m_wi : Nat → Int32} {m_si : Nat → Int32} {m_ce : Nat → Int32} {m_ca : Nat → Int32} (N : Nat) (x0 : Int32) (q : Int32 × (Nat → Int32) × (Nat → Int32) × Int32 × Int32) (h : me_149_63 N x0 m_s m_fo m_tl m_tr = some q) : hM (gO LL xs) (D + 4) zR_149 [.ref 63, .int x0] (hMm c0 m_s m_kp m_as m_ik m_fo m_tl m_tr m_fa m_od m_rc m_be m_ft m_tp m_td m_tk m_bg m_en m_vl m_sg m_wi m_si m_ce m_ca) (some (.int q.1)) (hMm c0 q.2.1 m_kp m_as m_ik q.2.2.1 q.2.2.2.1 q.2.2.2.2 m_fa m_od m_rc m_be m_ft m_tp m_td m_tk m_bg m_en m_vl m_sg m_wi m_si m_ce m_ca) := by
  unfold me_149_63 at h
  refine hX_go 0 0 [some (.ref 63), some (.int x0)] [] (hMm c0 m_s m_kp m_as m_ik m_fo m_tl m_tr m_fa m_od m_rc m_be m_ft m_tp m_td m_tk m_bg m_en m_vl m_sg m_wi m_si m_ce m_ca) rfl ?_
  refine hX_go 2 (2) [some (.ref 63), some (.int x0)] [.int x0, .ref 63] (hMm c0 m_s m_kp m_as m_ik m_fo m_tl m_tr m_fa m_od m_rc m_be m_ft m_tp m_td m_tk m_bg m_en m_vl m_sg m_wi m_si m_ce m_ca) rfl ?_
  refine hX_call (r' := zR_129) rfl (ct_129_63 x0) ?_
  refine hX_goM 1 (bif gCmp .ne (v_129_63 x0 m_s) 0 then 14 else 8) [some (.ref 63), some (.int x0)] [] rfl ?_
  refine hX_if (gCmp .ne (v_129_63 x0 m_s) 0) (fun c1 => ?_) (fun c1 => ?_)
  · skip
    have h := gcT c1 h
    refine hX_goM 6 (bif gCmp .ne (m_s 2) 99999 then 31 else 25) [some (.ref 63), some (.int x0)] [] rfl ?_
    refine hX_if (gCmp .ne (m_s 2) 99999) (fun c2 => ?_) (fun c2 => ?_)
    · skip
      have h := gcT c2 h
      refine hX_goM 2 (33) [some (.ref 63), some (.int x0)] [.int x0, .ref 63] rfl ?_
      revert h; refine gCondR fun g3 h => ?_
      revert h; refine gCondR fun g4 h => ?_
      revert h; refine gCondR fun g5 h => ?_
      revert h; refine gCondR fun g6 h => ?_
      refine hX_call (r' := zR_148) rfl (ct_148_63 x0 g3 g4 g5 g6) ?_
      refine hX_go 1 (37) [some (.ref 63), some (.int x0)] [.ref 63] (hMm c0 (f_148_63_m_s x0 m_s) m_kp m_as m_ik m_fo (f_148_63_m_tl x0 m_s) (f_148_63_m_tr x0 m_s) m_fa m_od m_rc m_be m_ft m_tp m_td m_tk m_bg m_en m_vl m_sg m_wi m_si m_ce m_ca) rfl ?_
      refine hX_call (r' := zR_146) rfl (ct_146_63) ?_
      refine hX_goM 0 (40) [some (.ref 63), some (.int x0)] [.int (v_146_63 (f_148_63_m_s x0 m_s))] rfl ?_
      have h := Option.some.inj h; subst h
      exact hX_end rfl rfl rfl
    · skip
      have h := gcF c2 h
      refine hX_goM 2 (27) [some (.ref 63), some (.int x0)] [.int 4, .ref 63] rfl ?_
      refine hX_call (r' := zR_124) rfl (ct_124_63 4 rfl) ?_
      refine hX_go 0 (30) [some (.ref 63), some (.int x0)] [.int (v_124_63 4)] (hMm c0 m_s m_kp m_as m_ik (f_124_63_m_fo 4 m_fo) m_tl m_tr m_fa m_od m_rc m_be m_ft m_tp m_td m_tk m_bg m_en m_vl m_sg m_wi m_si m_ce m_ca) rfl ?_
      have h := Option.some.inj h; subst h
      exact hX_end rfl rfl rfl
  · skip
    have h := gcF c1 h
    refine hX_goM 2 (10) [some (.ref 63), some (.int x0)] [.int 0, .ref 63] rfl ?_
    refine hX_call (r' := zR_124) rfl (ct_124_63 0 rfl) ?_
    refine hX_go 0 (13) [some (.ref 63), some (.int x0)] [.int (v_124_63 0)] (hMm c0 m_s m_kp m_as m_ik (f_124_63_m_fo 0 m_fo) m_tl m_tr m_fa m_od m_rc m_be m_ft m_tp m_td m_tk m_bg m_en m_vl m_sg m_wi m_si m_ce m_ca) rfl ?_
    have h := Option.some.inj h; subst h
    exact hX_end rfl rfl rfl

theorem sw_150_1 (x : Int32) : gSwT 1 76 0 4 #[35, 42, 49, 54, 61] x = some (bif hEq x 0 then 36 else bif hEq x 1 then 43 else bif hEq x 2 then 50 else bif hEq x 3 then 55 else bif hEq x 4 then 62 else 77) := by
  by_cases q0 : x = 0
  · subst q0; rfl
  by_cases q1 : x = 1
  · subst q1; rfl
  by_cases q2 : x = 2
  · subst q2; rfl
  by_cases q3 : x = 3
  · subst q3; rfl
  by_cases q4 : x = 4
  · subst q4; rfl
  simp only [hEq, q0, q1, q2, q3, q4, decide_false, cond_false]
  have n0 := hNe q0
  have n1 := hNe q1
  have n2 := hNe q2
  have n3 := hNe q3
  have n4 := hNe q4
  unfold gSwT
  rw [show (decide (x.toInt < 0) || decide (4 < x.toInt)) = true from by
    simp only [Bool.or_eq_true, decide_eq_true_eq]
    have e : ∀ z : Int, z < 0 ∨ 4 < z ∨ (z = 0 ∨ z = 1 ∨ z = 2 ∨ z = 3 ∨ z = 4) := by intro z; omega
    rcases e x.toInt with h | h | h
    · exact Or.inl h
    · exact Or.inr h
    · rcases h with h | h | h | h | h
      · exact absurd h n0
      · exact absurd h n1
      · exact absurd h n2
      · exact absurd h n3
      · exact absurd h n4
    ]
  rfl


/-- UpOneSideModel.now(I)I -/
def me_150_63 (N : Nat) (x0 : Int32) (m_s : Nat → Int32) (m_fo : Nat → Int32) : Option (Int32 × (Nat → Int32)) :=
  (bif hEq x0 0 then
    some (m_s 0, m_fo)
  else
    (bif hEq x0 1 then
      some (m_s 1, m_fo)
    else
      (bif hEq x0 2 then
        some (v_146_63 m_s, m_fo)
      else
        (bif hEq x0 3 then
          some (m_s 2, m_fo)
        else
          (bif hEq x0 4 then
            (bif gIn (39 + (m_s 0)) 134 then some (m_s (Int32.toNatClampNeg (39 + (m_s 0))), m_fo) else none)
          else
            some (v_124_63 0, f_124_63_m_fo 0 m_fo))))))
set_option maxRecDepth 20000 in
set_option maxHeartbeats 4000000 in
theorem mt_150_63 {LL : Nat} {xs : Nat → Int32} {D : Nat} {c0 : Nat → gE} {m_s : Nat → Int32} {m_kp : Nat → Int32} {m_as : Nat → Int32} {m_ik : Int32} {m_fo : Nat → Int32} {m_tl : Int32} {m_tr : Int32} {m_fa : Nat → Int32} {m_od : Nat → Int32} {m_rc : Int32} {m_be : Nat → Int32} {m_ft : Int32} {m_tp : Nat → Int32} {m_td : Int32} {m_tk : Int32} {m_bg : Int32} {m_en : Int32} {m_vl : Int64} {m_sg : Int32} {m_wi : Nat → Int32} {m_si : Nat → Int32} {m_ce : Nat → Int32} {m_ca : Nat → Int32} (N : Nat) (x0 : Int32) (q : Int32 × (Nat → Int32)) (h : me_150_63 N x0 m_s m_fo = some q) : hM (gO LL xs) (D + 1) zR_150 [.ref 63, .int x0] (hMm c0 m_s m_kp m_as m_ik m_fo m_tl m_tr m_fa m_od m_rc m_be m_ft m_tp m_td m_tk m_bg m_en m_vl m_sg m_wi m_si m_ce m_ca) (some (.int q.1)) (hMm c0 m_s m_kp m_as m_ik q.2 m_tl m_tr m_fa m_od m_rc m_be m_ft m_tp m_td m_tk m_bg m_en m_vl m_sg m_wi m_si m_ce m_ca) := by
  unfold me_150_63 at h
  refine hX_go 0 0 [some (.ref 63), some (.int x0)] [] (hMm c0 m_s m_kp m_as m_ik m_fo m_tl m_tr m_fa m_od m_rc m_be m_ft m_tp m_td m_tk m_bg m_en m_vl m_sg m_wi m_si m_ce m_ca) rfl ?_
  refine hX_go 1 (1) [some (.ref 63), some (.int x0)] [.int x0] (hMm c0 m_s m_kp m_as m_ik m_fo m_tl m_tr m_fa m_od m_rc m_be m_ft m_tp m_td m_tk m_bg m_en m_vl m_sg m_wi m_si m_ce m_ca) rfl ?_
  refine hX_sw (bif hEq x0 0 then 36 else bif hEq x0 1 then 43 else bif hEq x0 2 then 50 else bif hEq x0 3 then 55 else bif hEq x0 4 then 62 else 77) rfl (sw_150_1 x0) ?_
  refine hX_if (hEq x0 0) (fun c1 => ?_) (fun c1 => ?_)
  · skip
    have h := gcT c1 h
    refine hX_goM 4 (42) [some (.ref 63), some (.int x0)] [.int (m_s 0)] rfl ?_
    have h := Option.some.inj h; subst h
    exact hX_end rfl rfl rfl
  · skip
    have h := gcF c1 h
    refine hX_if (hEq x0 1) (fun c2 => ?_) (fun c2 => ?_)
    · skip
      have h := gcT c2 h
      refine hX_goM 4 (49) [some (.ref 63), some (.int x0)] [.int (m_s 1)] rfl ?_
      have h := Option.some.inj h; subst h
      exact hX_end rfl rfl rfl
    · skip
      have h := gcF c2 h
      refine hX_if (hEq x0 2) (fun c3 => ?_) (fun c3 => ?_)
      · skip
        have h := gcT c3 h
        refine hX_goM 1 (51) [some (.ref 63), some (.int x0)] [.ref 63] rfl ?_
        refine hX_call (r' := zR_146) rfl (ct_146_63) ?_
        refine hX_goM 0 (54) [some (.ref 63), some (.int x0)] [.int (v_146_63 m_s)] rfl ?_
        have h := Option.some.inj h; subst h
        exact hX_end rfl rfl rfl
      · skip
        have h := gcF c3 h
        refine hX_if (hEq x0 3) (fun c4 => ?_) (fun c4 => ?_)
        · skip
          have h := gcT c4 h
          refine hX_goM 4 (61) [some (.ref 63), some (.int x0)] [.int (m_s 2)] rfl ?_
          have h := Option.some.inj h; subst h
          exact hX_end rfl rfl rfl
        · skip
          have h := gcF c4 h
          refine hX_if (hEq x0 4) (fun c5 => ?_) (fun c5 => ?_)
          · skip
            have h := gcT c5 h
            refine hX_goM 8 (75) [some (.ref 63), some (.int x0)] [.int (39 + (m_s 0)), .ref 64] rfl ?_
            revert h; refine gCondR fun g6 h => ?_
            refine hX_gM (gIn (39 + (m_s 0)) 134) 76 [some (.ref 63), some (.int x0)] [.int (m_s (Int32.toNatClampNeg (39 + (m_s 0))))] rfl g6 ?_
            have h := Option.some.inj h; subst h
            exact hX_end rfl rfl rfl
          · skip
            have h := gcF c5 h
            refine hX_goM 2 (79) [some (.ref 63), some (.int x0)] [.int 0, .ref 63] rfl ?_
            refine hX_call (r' := zR_124) rfl (ct_124_63 0 rfl) ?_
            refine hX_go 0 (82) [some (.ref 63), some (.int x0)] [.int (v_124_63 0)] (hMm c0 m_s m_kp m_as m_ik (f_124_63_m_fo 0 m_fo) m_tl m_tr m_fa m_od m_rc m_be m_ft m_tp m_td m_tk m_bg m_en m_vl m_sg m_wi m_si m_ce m_ca) rfl ?_
            have h := Option.some.inj h; subst h
            exact hX_end rfl rfl rfl


/-- UpOneSideModel.wear(I)I -/
def me_151_63 (N : Nat) (x0 : Int32) (m_s : Nat → Int32) (m_fo : Nat → Int32) : Option (Int32 × (Nat → Int32)) :=
  (bif (gCmp .eq (v_130 x0) 0) || (gIn (39 + x0) 134) then some (bif gCmp .eq (v_130 x0) 0 then (v_124_63 0) else (m_s (Int32.toNatClampNeg (39 + x0))), bif gCmp .eq (v_130 x0) 0 then (f_124_63_m_fo 0 m_fo) else m_fo) else none)
set_option maxRecDepth 20000 in
set_option maxHeartbeats 4000000 in
theorem mt_151_63 {LL : Nat} {xs : Nat → Int32} {D : Nat} {c0 : Nat → gE} {m_s : Nat → Int32} {m_kp : Nat → Int32} {m_as : Nat → Int32} {m_ik : Int32} {m_fo : Nat → Int32} {m_tl : Int32} {m_tr : Int32} {m_fa : Nat → Int32} {m_od : Nat → Int32} {m_rc : Int32} {m_be : Nat → Int32} {m_ft : Int32} {m_tp : Nat → Int32} {m_td : Int32} {m_tk : Int32} {m_bg : Int32} {m_en : Int32} {m_vl : Int64} {m_sg : Int32} {m_wi : Nat → Int32} {m_si : Nat → Int32} {m_ce : Nat → Int32} {m_ca : Nat → Int32} (N : Nat) (x0 : Int32) (q : Int32 × (Nat → Int32)) (h : me_151_63 N x0 m_s m_fo = some q) : hM (gO LL xs) (D + 2) zR_151 [.ref 63, .int x0] (hMm c0 m_s m_kp m_as m_ik m_fo m_tl m_tr m_fa m_od m_rc m_be m_ft m_tp m_td m_tk m_bg m_en m_vl m_sg m_wi m_si m_ce m_ca) (some (.int q.1)) (hMm c0 m_s m_kp m_as m_ik q.2 m_tl m_tr m_fa m_od m_rc m_be m_ft m_tp m_td m_tk m_bg m_en m_vl m_sg m_wi m_si m_ce m_ca) := by
  unfold me_151_63 at h
  refine hX_go 0 0 [some (.ref 63), some (.int x0)] [] (hMm c0 m_s m_kp m_as m_ik m_fo m_tl m_tr m_fa m_od m_rc m_be m_ft m_tp m_td m_tk m_bg m_en m_vl m_sg m_wi m_si m_ce m_ca) rfl ?_
  refine hX_go 1 (1) [some (.ref 63), some (.int x0)] [.int x0] (hMm c0 m_s m_kp m_as m_ik m_fo m_tl m_tr m_fa m_od m_rc m_be m_ft m_tp m_td m_tk m_bg m_en m_vl m_sg m_wi m_si m_ce m_ca) rfl ?_
  refine hX_call (r' := zR_130) rfl (ct_130 x0) ?_
  refine hX_goM 1 (bif gCmp .eq (v_130 x0) 0 then 19 else 7) [some (.ref 63), some (.int x0)] [] rfl ?_
  revert h; refine gCondR fun o2 h => ?_
  refine hX_mrg 24 [some (.ref 63), some (.int x0)] [.int (bif gCmp .eq (v_130 x0) 0 then (v_124_63 0) else (m_s (Int32.toNatClampNeg (39 + x0))))] (hMm c0 m_s m_kp m_as m_ik (bif gCmp .eq (v_130 x0) 0 then (f_124_63_m_fo 0 m_fo) else m_fo) m_tl m_tr m_fa m_od m_rc m_be m_ft m_tp m_td m_tk m_bg m_en m_vl m_sg m_wi m_si m_ce m_ca) (fun hk => ?_) ?_
  · skip
    refine hX_if (gCmp .eq (v_130 x0) 0) (fun c3 => ?_) (fun c3 => ?_)
    · skip
      refine hX_goM 2 (21) [some (.ref 63), some (.int x0)] [.int 0, .ref 63] rfl ?_
      refine hX_call (r' := zR_124) rfl (ct_124_63 0 rfl) ?_
      refine hX_go 0 (24) [some (.ref 63), some (.int x0)] [.int (v_124_63 0)] (hMm c0 m_s m_kp m_as m_ik (f_124_63_m_fo 0 m_fo) m_tl m_tr m_fa m_od m_rc m_be m_ft m_tp m_td m_tk m_bg m_en m_vl m_sg m_wi m_si m_ce m_ca) rfl ?_
      have hk := hk
      simp only [c3, cond_true, cond_false] at hk
      first | exact hk | (simp only [c3, cond_true, cond_false]; exact hk)
    · skip
      refine hX_goM 5 (15) [some (.ref 63), some (.int x0)] [.int (39 + x0), .ref 64] rfl ?_
      refine hX_gM (gIn (39 + x0) 134) 16 [some (.ref 63), some (.int x0)] [.int (m_s (Int32.toNatClampNeg (39 + x0)))] rfl (gImpF o2 c3) ?_
      refine hX_goM 1 (24) [some (.ref 63), some (.int x0)] [.int (m_s (Int32.toNatClampNeg (39 + x0)))] rfl ?_
      have hk := hk
      simp only [c3, cond_true, cond_false] at hk
      first | exact hk | (simp only [c3, cond_true, cond_false]; exact hk)
  have h := Option.some.inj h; subst h
  exact hX_end rfl rfl rfl

/-- UpOneSideModel.wornOut: the loop at 4 -/
def lp_152_63_4 (N : Nat) (m_s : Nat → Int32) : Nat → Int32 → Int32 → Option (Int32 × Int32)
  | 0, _, _ => none
  | n + 1, y1, y2 =>
    (bif gCmp .ge y2 61 then
      some (y1, y2)
    else
      (bif gIn (39 + y2) 134 then lp_152_63_4 N m_s n (y1 + (m_s (Int32.toNatClampNeg (39 + y2)))) (y2 + 1) else none))
set_option maxRecDepth 20000 in
set_option maxHeartbeats 4000000 in
theorem lt_152_63_4 {LL : Nat} {xs : Nat → Int32} {D N : Nat} {c0 : Nat → gE} {m_s : Nat → Int32} {m_kp : Nat → Int32} {m_as : Nat → Int32} {m_ik : Int32} {m_fo : Nat → Int32} {m_tl : Int32} {m_tr : Int32} {m_fa : Nat → Int32} {m_od : Nat → Int32} {m_rc : Int32} {m_be : Nat → Int32} {m_ft : Int32} {m_tp : Nat → Int32} {m_td : Int32} {m_tk : Int32} {m_bg : Int32} {m_en : Int32} {m_vl : Int64} {m_sg : Int32} {m_wi : Nat → Int32} {m_si : Nat → Int32} {m_ce : Nat → Int32} {m_ca : Nat → Int32} {v : Option Value} {M' : List gE} : ∀ (n : Nat) (y1 : Int32) (y2 : Int32) (q : Int32 × Int32), lp_152_63_4 N m_s n y1 y2 = some q → (kk : hX (gO LL xs) (D + 0) zR_152 28 [some (.ref 63), some (.int q.1), some (.int q.2)] [] (hMm c0 m_s m_kp m_as m_ik m_fo m_tl m_tr m_fa m_od m_rc m_be m_ft m_tp m_td m_tk m_bg m_en m_vl m_sg m_wi m_si m_ce m_ca) v M') → hX (gO LL xs) (D + 0) zR_152 4 [some (.ref 63), some (.int y1), some (.int y2)] [] (hMm c0 m_s m_kp m_as m_ik m_fo m_tl m_tr m_fa m_od m_rc m_be m_ft m_tp m_td m_tk m_bg m_en m_vl m_sg m_wi m_si m_ce m_ca) v M' := by
  intro n
  induction n with
  | zero => intro y1 y2 q h; cases h
  | succ n ih =>
    intro y1 y2 q h kk
    rw [lp_152_63_4] at h
    refine hX_go 3 (bif gCmp .ge y2 61 then 28 else 10) [some (.ref 63), some (.int y1), some (.int y2)] [] (hMm c0 m_s m_kp m_as m_ik m_fo m_tl m_tr m_fa m_od m_rc m_be m_ft m_tp m_td m_tk m_bg m_en m_vl m_sg m_wi m_si m_ce m_ca) rfl ?_
    refine hX_if (gCmp .ge y2 61) (fun c1 => ?_) (fun c1 => ?_)
    · skip
      have h := gcT c1 h
      have h := Option.some.inj h; subst h
      exact kk
    · skip
      have h := gcF c1 h
      refine hX_goM 6 (19) [some (.ref 63), some (.int y1), some (.int y2)] [.int (39 + y2), .ref 64, .int y1] rfl ?_
      revert h; refine gCondR fun g2 h => ?_
      refine hX_gM (gIn (39 + y2) 134) 20 [some (.ref 63), some (.int y1), some (.int y2)] [.int (m_s (Int32.toNatClampNeg (39 + y2))), .int y1] rfl g2 ?_
      refine hX_goM 4 (4) [some (.ref 63), some (.int (y1 + (m_s (Int32.toNatClampNeg (39 + y2))))), some (.int (y2 + 1))] [] rfl ?_
      exact ih (y1 + (m_s (Int32.toNatClampNeg (39 + y2)))) (y2 + 1) q h kk

/-- UpOneSideModel.wornOut()I -/
def me_152_63 (N : Nat) (m_s : Nat → Int32) : Option (Int32) :=
  (Option.bind (lp_152_63_4 N m_s N 0 0) fun q1 =>
  some (q1.1))
set_option maxRecDepth 20000 in
set_option maxHeartbeats 4000000 in
theorem mt_152_63 {LL : Nat} {xs : Nat → Int32} {D : Nat} {c0 : Nat → gE} {m_s : Nat → Int32} {m_kp : Nat → Int32} {m_as : Nat → Int32} {m_ik : Int32} {m_fo : Nat → Int32} {m_tl : Int32} {m_tr : Int32} {m_fa : Nat → Int32} {m_od : Nat → Int32} {m_rc : Int32} {m_be : Nat → Int32} {m_ft : Int32} {m_tp : Nat → Int32} {m_td : Int32} {m_tk : Int32} {m_bg : Int32} {m_en : Int32} {m_vl : Int64} {m_sg : Int32} {m_wi : Nat → Int32} {m_si : Nat → Int32} {m_ce : Nat → Int32} {m_ca : Nat → Int32} (N : Nat) (q : Int32) (h : me_152_63 N m_s = some q) : hM (gO LL xs) (D + 0) zR_152 [.ref 63] (hMm c0 m_s m_kp m_as m_ik m_fo m_tl m_tr m_fa m_od m_rc m_be m_ft m_tp m_td m_tk m_bg m_en m_vl m_sg m_wi m_si m_ce m_ca) (some (.int q)) (hMm c0 m_s m_kp m_as m_ik m_fo m_tl m_tr m_fa m_od m_rc m_be m_ft m_tp m_td m_tk m_bg m_en m_vl m_sg m_wi m_si m_ce m_ca) := by
  unfold me_152_63 at h
  refine hX_go 0 0 [some (.ref 63), none, none] [] (hMm c0 m_s m_kp m_as m_ik m_fo m_tl m_tr m_fa m_od m_rc m_be m_ft m_tp m_td m_tk m_bg m_en m_vl m_sg m_wi m_si m_ce m_ca) rfl ?_
  refine hX_go 4 (4) [some (.ref 63), some (.int 0), some (.int 0)] [] (hMm c0 m_s m_kp m_as m_ik m_fo m_tl m_tr m_fa m_od m_rc m_be m_ft m_tp m_td m_tk m_bg m_en m_vl m_sg m_wi m_si m_ce m_ca) rfl ?_
  revert h; refine gBindR fun q1 e1 h => ?_
  refine lt_152_63_4 N 0 0 q1 e1 ?_
  refine hX_goM 1 (29) [some (.ref 63), some (.int q1.1), some (.int q1.2)] [.int q1.1] rfl ?_
  have h := Option.some.inj h; subst h
  exact hX_end rfl rfl rfl

/-- UpOneSideModel.cord: the loop at 7 -/
def lp_153_63_7 (N : Nat) : Nat → Int32 → (Nat → Int32) → Option (Int32 × (Nat → Int32))
  | 0, _, _ => none
  | n + 1, y2, m_s =>
    (bif gCmp .ge y2 61 then
      some (y2, m_s)
    else
      (bif gIn (39 + y2) 134 then lp_153_63_7 N n (y2 + 1) (upd m_s (Int32.toNatClampNeg (39 + y2)) 0) else none))
set_option maxRecDepth 20000 in
set_option maxHeartbeats 4000000 in
theorem lt_153_63_7 {LL : Nat} {xs : Nat → Int32} {D N : Nat} {c0 : Nat → gE}  {m_kp : Nat → Int32} {m_as : Nat → Int32} {m_ik : Int32} {m_fo : Nat → Int32} {m_tl : Int32} {m_tr : Int32} {m_fa : Nat → Int32} {m_od : Nat → Int32} {m_rc : Int32} {m_be : Nat → Int32} {m_ft : Int32} {m_tp : Nat → Int32} {m_td : Int32} {m_tk : Int32} {m_bg : Int32} {m_en : Int32} {m_vl : Int64} {m_sg : Int32} {m_wi : Nat → Int32} {m_si : Nat → Int32} {m_ce : Nat → Int32} {m_ca : Nat → Int32} {y1 : Int32} {v : Option Value} {M' : List gE} : ∀ (n : Nat) (y2 : Int32) (m_s : Nat → Int32) (q : Int32 × (Nat → Int32)), lp_153_63_7 N n y2 m_s = some q → (kk : hX (gO LL xs) (D + 1) zR_153 29 [some (.ref 63), some (.int y1), some (.int q.1)] [] (hMm c0 q.2 m_kp m_as m_ik m_fo m_tl m_tr m_fa m_od m_rc m_be m_ft m_tp m_td m_tk m_bg m_en m_vl m_sg m_wi m_si m_ce m_ca) v M') → hX (gO LL xs) (D + 1) zR_153 7 [some (.ref 63), some (.int y1), some (.int y2)] [] (hMm c0 m_s m_kp m_as m_ik m_fo m_tl m_tr m_fa m_od m_rc m_be m_ft m_tp m_td m_tk m_bg m_en m_vl m_sg m_wi m_si m_ce m_ca) v M' := by
  intro n
  induction n with
  | zero => intro y2 m_s q h; cases h
  | succ n ih =>
    intro y2 m_s q h kk
    rw [lp_153_63_7] at h
    refine hX_go 3 (bif gCmp .ge y2 61 then 29 else 13) [some (.ref 63), some (.int y1), some (.int y2)] [] (hMm c0 m_s m_kp m_as m_ik m_fo m_tl m_tr m_fa m_od m_rc m_be m_ft m_tp m_td m_tk m_bg m_en m_vl m_sg m_wi m_si m_ce m_ca) rfl ?_
    refine hX_if (gCmp .ge y2 61) (fun c1 => ?_) (fun c1 => ?_)
    · skip
      have h := gcT c1 h
      have h := Option.some.inj h; subst h
      exact kk
    · skip
      have h := gcF c1 h
      refine hX_goM 6 (22) [some (.ref 63), some (.int y1), some (.int y2)] [.int 0, .int (39 + y2), .ref 64] rfl ?_
      revert h; refine gCondR fun g2 h => ?_
      refine hX_g (gIn (39 + y2) 134) 23 [some (.ref 63), some (.int y1), some (.int y2)] [] (hMm c0 (upd m_s (Int32.toNatClampNeg (39 + y2)) 0) m_kp m_as m_ik m_fo m_tl m_tr m_fa m_od m_rc m_be m_ft m_tp m_td m_tk m_bg m_en m_vl m_sg m_wi m_si m_ce m_ca) rfl g2 ?_
      refine hX_goM 2 (7) [some (.ref 63), some (.int y1), some (.int (y2 + 1))] [] rfl ?_
      exact ih (y2 + 1) (upd m_s (Int32.toNatClampNeg (39 + y2)) 0) q h kk

/-- UpOneSideModel.cord()I -/
def me_153_63 (N : Nat) (m_s : Nat → Int32) : Option (Int32 × (Nat → Int32)) :=
  (Option.bind (me_152_63 N m_s) fun q1 =>
  (Option.bind (lp_153_63_7 N N 0 m_s) fun q2 =>
  some (q1, q2.2)))
set_option maxRecDepth 20000 in
set_option maxHeartbeats 4000000 in
theorem mt_153_63 {LL : Nat} {xs : Nat → Int32} {D : Nat} {c0 : Nat → gE} {m_s : Nat → Int32} {m_kp : Nat → Int32} {m_as : Nat → Int32} {m_ik : Int32} {m_fo : Nat → Int32} {m_tl : Int32} {m_tr : Int32} {m_fa : Nat → Int32} {m_od : Nat → Int32} {m_rc : Int32} {m_be : Nat → Int32} {m_ft : Int32} {m_tp : Nat → Int32} {m_td : Int32} {m_tk : Int32} {m_bg : Int32} {m_en : Int32} {m_vl : Int64} {m_sg : Int32} {m_wi : Nat → Int32} {m_si : Nat → Int32} {m_ce : Nat → Int32} {m_ca : Nat → Int32} (N : Nat) (q : Int32 × (Nat → Int32)) (h : me_153_63 N m_s = some q) : hM (gO LL xs) (D + 1) zR_153 [.ref 63] (hMm c0 m_s m_kp m_as m_ik m_fo m_tl m_tr m_fa m_od m_rc m_be m_ft m_tp m_td m_tk m_bg m_en m_vl m_sg m_wi m_si m_ce m_ca) (some (.int q.1)) (hMm c0 q.2 m_kp m_as m_ik m_fo m_tl m_tr m_fa m_od m_rc m_be m_ft m_tp m_td m_tk m_bg m_en m_vl m_sg m_wi m_si m_ce m_ca) := by
  unfold me_153_63 at h
  refine hX_go 0 0 [some (.ref 63), none, none] [] (hMm c0 m_s m_kp m_as m_ik m_fo m_tl m_tr m_fa m_od m_rc m_be m_ft m_tp m_td m_tk m_bg m_en m_vl m_sg m_wi m_si m_ce m_ca) rfl ?_
  refine hX_go 1 (1) [some (.ref 63), none, none] [.ref 63] (hMm c0 m_s m_kp m_as m_ik m_fo m_tl m_tr m_fa m_od m_rc m_be m_ft m_tp m_td m_tk m_bg m_en m_vl m_sg m_wi m_si m_ce m_ca) rfl ?_
  revert h; refine gBindR fun q1 e1 h => ?_
  refine hX_call (r' := zR_152) rfl (mt_152_63 N q1 e1) ?_
  refine hX_goM 3 (7) [some (.ref 63), some (.int q1), some (.int 0)] [] rfl ?_
  revert h; refine gBindR fun q2 e2 h => ?_
  refine lt_153_63_7 N 0 m_s q2 e2 ?_
  refine hX_go 1 (30) [some (.ref 63), some (.int q1), some (.int q2.1)] [.int q1] (hMm c0 q2.2 m_kp m_as m_ik m_fo m_tl m_tr m_fa m_od m_rc m_be m_ft m_tp m_td m_tk m_bg m_en m_vl m_sg m_wi m_si m_ce m_ca) rfl ?_
  have h := Option.some.inj h; subst h
  exact hX_end rfl rfl rfl


/-- UpOneSideModel.after(II)I -/
def me_154_63 (N : Nat) (x0 : Int32) (x1 : Int32) (m_s : Nat → Int32) (m_fo : Nat → Int32) (m_tl : Int32) (m_tr : Int32) : Option (Int32 × (Nat → Int32) × Int32 × Int32) :=
  (bif gCmp .eq (v_129_63 x0 m_s) 0 then
    some (v_124_63 0, f_124_63_m_fo 0 m_fo, m_tl, m_tr)
  else
    (bif gCmp .eq (v_125 x1 0 200) 0 then
      some (v_124_63 0, f_124_63_m_fo 0 m_fo, m_tl, m_tr)
    else
      (Option.bind (me_137_63 N x0 x1 m_s) fun q3 =>
      some (q3.1, m_fo, q3.2.1, q3.2.2))))
set_option maxRecDepth 20000 in
set_option maxHeartbeats 4000000 in
theorem mt_154_63 {LL : Nat} {xs : Nat → Int32} {D : Nat} {c0 : Nat → gE} {m_s : Nat → Int32} {m_kp : Nat → Int32} {m_as : Nat → Int32} {m_ik : Int32} {m_fo : Nat → Int32} {m_tl : Int32} {m_tr : Int32} {m_fa : Nat → Int32} {m_od : Nat → Int32} {m_rc : Int32} {m_be : Nat → Int32} {m_ft : Int32} {m_tp : Nat → Int32} {m_td : Int32} {m_tk : Int32} {m_bg : Int32} {m_en : Int32} {m_vl : Int64} {m_sg : Int32} {m_wi : Nat → Int32} {m_si : Nat → Int32} {m_ce : Nat → Int32} {m_ca : Nat → Int32} (N : Nat) (x0 : Int32) (x1 : Int32) (q : Int32 × (Nat → Int32) × Int32 × Int32) (h : me_154_63 N x0 x1 m_s m_fo m_tl m_tr = some q) : hM (gO LL xs) (D + 4) zR_154 [.ref 63, .int x0, .int x1] (hMm c0 m_s m_kp m_as m_ik m_fo m_tl m_tr m_fa m_od m_rc m_be m_ft m_tp m_td m_tk m_bg m_en m_vl m_sg m_wi m_si m_ce m_ca) (some (.int q.1)) (hMm c0 m_s m_kp m_as m_ik q.2.1 q.2.2.1 q.2.2.2 m_fa m_od m_rc m_be m_ft m_tp m_td m_tk m_bg m_en m_vl m_sg m_wi m_si m_ce m_ca) := by
  unfold me_154_63 at h
  refine hX_go 0 0 [some (.ref 63), some (.int x0), some (.int x1)] [] (hMm c0 m_s m_kp m_as m_ik m_fo m_tl m_tr m_fa m_od m_rc m_be m_ft m_tp m_td m_tk m_bg m_en m_vl m_sg m_wi m_si m_ce m_ca) rfl ?_
  refine hX_go 2 (2) [some (.ref 63), some (.int x0), some (.int x1)] [.int x0, .ref 63] (hMm c0 m_s m_kp m_as m_ik m_fo m_tl m_tr m_fa m_od m_rc m_be m_ft m_tp m_td m_tk m_bg m_en m_vl m_sg m_wi m_si m_ce m_ca) rfl ?_
  refine hX_call (r' := zR_129) rfl (ct_129_63 x0) ?_
  refine hX_goM 1 (bif gCmp .eq (v_129_63 x0 m_s) 0 then 28 else 8) [some (.ref 63), some (.int x0), some (.int x1)] [] rfl ?_
  refine hX_if (gCmp .eq (v_129_63 x0 m_s) 0) (fun c1 => ?_) (fun c1 => ?_)
  · skip
    have h := gcT c1 h
    refine hX_goM 2 (30) [some (.ref 63), some (.int x0), some (.int x1)] [.int 0, .ref 63] rfl ?_
    refine hX_call (r' := zR_124) rfl (ct_124_63 0 rfl) ?_
    refine hX_go 0 (33) [some (.ref 63), some (.int x0), some (.int x1)] [.int (v_124_63 0)] (hMm c0 m_s m_kp m_as m_ik (f_124_63_m_fo 0 m_fo) m_tl m_tr m_fa m_od m_rc m_be m_ft m_tp m_td m_tk m_bg m_en m_vl m_sg m_wi m_si m_ce m_ca) rfl ?_
    have h := Option.some.inj h; subst h
    exact hX_end rfl rfl rfl
  · skip
    have h := gcF c1 h
    refine hX_goM 3 (13) [some (.ref 63), some (.int x0), some (.int x1)] [.int 200, .int 0, .int x1] rfl ?_
    refine hX_call (r' := zR_125) rfl (ct_125 x1 0 200) ?_
    refine hX_goM 1 (bif gCmp .eq (v_125 x1 0 200) 0 then 28 else 19) [some (.ref 63), some (.int x0), some (.int x1)] [] rfl ?_
    refine hX_if (gCmp .eq (v_125 x1 0 200) 0) (fun c2 => ?_) (fun c2 => ?_)
    · skip
      have h := gcT c2 h
      refine hX_goM 2 (30) [some (.ref 63), some (.int x0), some (.int x1)] [.int 0, .ref 63] rfl ?_
      refine hX_call (r' := zR_124) rfl (ct_124_63 0 rfl) ?_
      refine hX_go 0 (33) [some (.ref 63), some (.int x0), some (.int x1)] [.int (v_124_63 0)] (hMm c0 m_s m_kp m_as m_ik (f_124_63_m_fo 0 m_fo) m_tl m_tr m_fa m_od m_rc m_be m_ft m_tp m_td m_tk m_bg m_en m_vl m_sg m_wi m_si m_ce m_ca) rfl ?_
      have h := Option.some.inj h; subst h
      exact hX_end rfl rfl rfl
    · skip
      have h := gcF c2 h
      refine hX_goM 3 (22) [some (.ref 63), some (.int x0), some (.int x1)] [.int x1, .int x0, .ref 63] rfl ?_
      revert h; refine gBindR fun q3 e3 h => ?_
      refine hX_call (r' := zR_137) rfl (mt_137_63 N x0 x1 q3 e3) ?_
      refine hX_go 1 (33) [some (.ref 63), some (.int x0), some (.int x1)] [.int q3.1] (hMm c0 m_s m_kp m_as m_ik m_fo q3.2.1 q3.2.2 m_fa m_od m_rc m_be m_ft m_tp m_td m_tk m_bg m_en m_vl m_sg m_wi m_si m_ce m_ca) rfl ?_
      have h := Option.some.inj h; subst h
      exact hX_end rfl rfl rfl


/-- UpOneSideModel.sign(I)I -/
def me_155_63 (N : Nat) (x0 : Int32) (m_s : Nat → Int32) (m_fo : Nat → Int32) (m_tl : Int32) (m_tr : Int32) : Option (Int32 × (Nat → Int32) × Int32 × Int32) :=
  (bif gCmp .ne (v_129_63 x0 m_s) 0 then
    (Option.bind (me_137_63 N x0 40 m_s) fun q2 =>
    some (bif gCmp .ne (v_126 q2.1) (v_126 (v_146_63 m_s)) then (bif gCmp .le (v_126 q2.1) (v_126 (v_146_63 m_s)) then 2 else 1) else 0, m_fo, q2.2.1, q2.2.2))
  else
    some (v_124_63 0, f_124_63_m_fo 0 m_fo, m_tl, m_tr))
set_option maxRecDepth 20000 in
set_option maxHeartbeats 4000000 in
theorem mt_155_63 {LL : Nat} {xs : Nat → Int32} {D : Nat} {c0 : Nat → gE} {m_s : Nat → Int32} {m_kp : Nat → Int32} {m_as : Nat → Int32} {m_ik : Int32} {m_fo : Nat → Int32} {m_tl : Int32} {m_tr : Int32} {m_fa : Nat → Int32} {m_od : Nat → Int32} {m_rc : Int32} {m_be : Nat → Int32} {m_ft : Int32} {m_tp : Nat → Int32} {m_td : Int32} {m_tk : Int32} {m_bg : Int32} {m_en : Int32} {m_vl : Int64} {m_sg : Int32} {m_wi : Nat → Int32} {m_si : Nat → Int32} {m_ce : Nat → Int32} {m_ca : Nat → Int32} (N : Nat) (x0 : Int32) (q : Int32 × (Nat → Int32) × Int32 × Int32) (h : me_155_63 N x0 m_s m_fo m_tl m_tr = some q) : hM (gO LL xs) (D + 4) zR_155 [.ref 63, .int x0] (hMm c0 m_s m_kp m_as m_ik m_fo m_tl m_tr m_fa m_od m_rc m_be m_ft m_tp m_td m_tk m_bg m_en m_vl m_sg m_wi m_si m_ce m_ca) (some (.int q.1)) (hMm c0 m_s m_kp m_as m_ik q.2.1 q.2.2.1 q.2.2.2 m_fa m_od m_rc m_be m_ft m_tp m_td m_tk m_bg m_en m_vl m_sg m_wi m_si m_ce m_ca) := by
  unfold me_155_63 at h
  refine hX_go 0 0 [some (.ref 63), some (.int x0), none] [] (hMm c0 m_s m_kp m_as m_ik m_fo m_tl m_tr m_fa m_od m_rc m_be m_ft m_tp m_td m_tk m_bg m_en m_vl m_sg m_wi m_si m_ce m_ca) rfl ?_
  refine hX_go 2 (2) [some (.ref 63), some (.int x0), none] [.int x0, .ref 63] (hMm c0 m_s m_kp m_as m_ik m_fo m_tl m_tr m_fa m_od m_rc m_be m_ft m_tp m_td m_tk m_bg m_en m_vl m_sg m_wi m_si m_ce m_ca) rfl ?_
  refine hX_call (r' := zR_129) rfl (ct_129_63 x0) ?_
  refine hX_goM 1 (bif gCmp .ne (v_129_63 x0 m_s) 0 then 14 else 8) [some (.ref 63), some (.int x0), none] [] rfl ?_
  refine hX_if (gCmp .ne (v_129_63 x0 m_s) 0) (fun c1 => ?_) (fun c1 => ?_)
  · skip
    have h := gcT c1 h
    refine hX_goM 3 (18) [some (.ref 63), some (.int x0), none] [.int 40, .int x0, .ref 63] rfl ?_
    revert h; refine gBindR fun q2 e2 h => ?_
    refine hX_call (r' := zR_137) rfl (mt_137_63 N x0 40 q2 e2) ?_
    refine hX_go 0 (21) [some (.ref 63), some (.int x0), none] [.int q2.1] (hMm c0 m_s m_kp m_as m_ik m_fo q2.2.1 q2.2.2 m_fa m_od m_rc m_be m_ft m_tp m_td m_tk m_bg m_en m_vl m_sg m_wi m_si m_ce m_ca) rfl ?_
    refine hX_call (r' := zR_126) rfl (ct_126 q2.1) ?_
    refine hX_goM 3 (27) [some (.ref 63), some (.int x0), some (.int (v_126 q2.1))] [.ref 63, .int (v_126 q2.1)] rfl ?_
    refine hX_call (r' := zR_146) rfl (ct_146_63) ?_
    refine hX_goM 0 (30) [some (.ref 63), some (.int x0), some (.int (v_126 q2.1))] [.int (v_146_63 m_s), .int (v_126 q2.1)] rfl ?_
    refine hX_call (r' := zR_126) rfl (ct_126 (v_146_63 m_s)) ?_
    refine hX_goM 1 (bif gCmp .ne (v_126 q2.1) (v_126 (v_146_63 m_s)) then 40 else 36) [some (.ref 63), some (.int x0), some (.int (v_126 q2.1))] [] rfl ?_
    refine hX_mrg 56 [some (.ref 63), some (.int x0), some (.int (v_126 q2.1))] [.int (bif gCmp .ne (v_126 q2.1) (v_126 (v_146_63 m_s)) then (bif gCmp .le (v_126 q2.1) (v_126 (v_146_63 m_s)) then 2 else 1) else 0)] (hMm c0 m_s m_kp m_as m_ik m_fo q2.2.1 q2.2.2 m_fa m_od m_rc m_be m_ft m_tp m_td m_tk m_bg m_en m_vl m_sg m_wi m_si m_ce m_ca) (fun hk => ?_) ?_
    · skip
      refine hX_if (gCmp .ne (v_126 q2.1) (v_126 (v_146_63 m_s))) (fun c5 => ?_) (fun c5 => ?_)
      · skip
        refine hX_goM 2 (42) [some (.ref 63), some (.int x0), some (.int (v_126 q2.1))] [.ref 63, .int (v_126 q2.1)] rfl ?_
        refine hX_call (r' := zR_146) rfl (ct_146_63) ?_
        refine hX_goM 0 (45) [some (.ref 63), some (.int x0), some (.int (v_126 q2.1))] [.int (v_146_63 m_s), .int (v_126 q2.1)] rfl ?_
        refine hX_call (r' := zR_126) rfl (ct_126 (v_146_63 m_s)) ?_
        refine hX_goM 1 (bif gCmp .le (v_126 q2.1) (v_126 (v_146_63 m_s)) then 55 else 51) [some (.ref 63), some (.int x0), some (.int (v_126 q2.1))] [] rfl ?_
        refine hX_if (gCmp .le (v_126 q2.1) (v_126 (v_146_63 m_s))) (fun c6 => ?_) (fun c6 => ?_)
        · skip
          refine hX_goM 1 (56) [some (.ref 63), some (.int x0), some (.int (v_126 q2.1))] [.int 2] rfl ?_
          have hk := hk
          simp only [c5, c6, cond_true, cond_false] at hk
          first | exact hk | (simp only [c5, c6, cond_true, cond_false]; exact hk)
        · skip
          refine hX_goM 2 (56) [some (.ref 63), some (.int x0), some (.int (v_126 q2.1))] [.int 1] rfl ?_
          have hk := hk
          simp only [c5, c6, cond_true, cond_false] at hk
          first | exact hk | (simp only [c5, c6, cond_true, cond_false]; exact hk)
      · skip
        refine hX_goM 2 (56) [some (.ref 63), some (.int x0), some (.int (v_126 q2.1))] [.int 0] rfl ?_
        have hk := hk
        simp only [c5, cond_true, cond_false] at hk
        first | exact hk | (simp only [c5, cond_true, cond_false]; exact hk)
    have h := Option.some.inj h; subst h
    exact hX_end rfl rfl rfl
  · skip
    have h := gcF c1 h
    refine hX_goM 2 (10) [some (.ref 63), some (.int x0), none] [.int 0, .ref 63] rfl ?_
    refine hX_call (r' := zR_124) rfl (ct_124_63 0 rfl) ?_
    refine hX_go 0 (13) [some (.ref 63), some (.int x0), none] [.int (v_124_63 0)] (hMm c0 m_s m_kp m_as m_ik (f_124_63_m_fo 0 m_fo) m_tl m_tr m_fa m_od m_rc m_be m_ft m_tp m_td m_tk m_bg m_en m_vl m_sg m_wi m_si m_ce m_ca) rfl ?_
    have h := Option.some.inj h; subst h
    exact hX_end rfl rfl rfl

/-- UpOneSideModel.stays: the loop at 20 -/
def lp_156_63_20 (N : Nat) (y1 : Int32) (m_s : Nat → Int32) (m_fo : Nat → Int32) : Nat → Int32 → Int32 → Int32 → Option (Int32 × (Nat → Int32) × Int32 × Int32)
  | 0, _, _, _ => none
  | n + 1, y2, m_tl, m_tr =>
    (bif gCmp .gt y2 200 then
      some (v_124_63 3, f_124_63_m_fo 3 m_fo, m_tl, m_tr)
    else
      (bif gIn ((15 + (3 * y1)) + 0) 134 then (bif gIn ((15 + (3 * y1)) + 1) 134 then (bif gIn ((15 + (3 * y1)) + 2) 134 then (bif gCmp .ne m_tl (f_136_63_m_tl y1 m_s m_tl m_tr) then
        lp_156_63_20 N y1 m_s m_fo n (y2 + 1) (f_136_63_m_tl y1 m_s m_tl m_tr) (f_136_63_m_tr y1 m_s m_tl m_tr)
      else
        (bif gCmp .ne m_tr (f_136_63_m_tr y1 m_s m_tl m_tr) then
          lp_156_63_20 N y1 m_s m_fo n (y2 + 1) (f_136_63_m_tl y1 m_s m_tl m_tr) (f_136_63_m_tr y1 m_s m_tl m_tr)
        else
          some (y2, m_fo, f_136_63_m_tl y1 m_s m_tl m_tr, f_136_63_m_tr y1 m_s m_tl m_tr))) else none) else none) else none))
set_option maxRecDepth 20000 in
set_option maxHeartbeats 4000000 in
theorem lt_156_63_20 {LL : Nat} {xs : Nat → Int32} {D N : Nat} {c0 : Nat → gE} {m_s : Nat → Int32} {m_kp : Nat → Int32} {m_as : Nat → Int32} {m_ik : Int32} {m_fo : Nat → Int32}   {m_fa : Nat → Int32} {m_od : Nat → Int32} {m_rc : Int32} {m_be : Nat → Int32} {m_ft : Int32} {m_tp : Nat → Int32} {m_td : Int32} {m_tk : Int32} {m_bg : Int32} {m_en : Int32} {m_vl : Int64} {m_sg : Int32} {m_wi : Nat → Int32} {m_si : Nat → Int32} {m_ce : Nat → Int32} {m_ca : Nat → Int32} {y1 : Int32} : ∀ (n : Nat) (y2 : Int32) (m_tl : Int32) (m_tr : Int32) (q : Int32 × (Nat → Int32) × Int32 × Int32), lp_156_63_20 N y1 m_s m_fo n y2 m_tl m_tr = some q → hX (gO LL xs) (D + 3) zR_156 20 [some (.ref 63), some (.int y1), some (.int y2), none, none] [] (hMm c0 m_s m_kp m_as m_ik m_fo m_tl m_tr m_fa m_od m_rc m_be m_ft m_tp m_td m_tk m_bg m_en m_vl m_sg m_wi m_si m_ce m_ca) (some (.int q.1)) (hMm c0 m_s m_kp m_as m_ik q.2.1 q.2.2.1 q.2.2.2 m_fa m_od m_rc m_be m_ft m_tp m_td m_tk m_bg m_en m_vl m_sg m_wi m_si m_ce m_ca) := by
  intro n
  induction n with
  | zero => intro y2 m_tl m_tr q h; cases h
  | succ n ih =>
    intro y2 m_tl m_tr q h
    rw [lp_156_63_20] at h
    refine hX_go 3 (bif gCmp .gt y2 200 then 68 else 27) [some (.ref 63), some (.int y1), some (.int y2), none, none] [] (hMm c0 m_s m_kp m_as m_ik m_fo m_tl m_tr m_fa m_od m_rc m_be m_ft m_tp m_td m_tk m_bg m_en m_vl m_sg m_wi m_si m_ce m_ca) rfl ?_
    refine hX_if (gCmp .gt y2 200) (fun c1 => ?_) (fun c1 => ?_)
    · skip
      have h := gcT c1 h
      refine hX_goM 2 (70) [some (.ref 63), some (.int y1), some (.int y2), none, none] [.int 3, .ref 63] rfl ?_
      refine hX_call (r' := zR_124) rfl (ct_124_63 3 rfl) ?_
      refine hX_go 0 (73) [some (.ref 63), some (.int y1), some (.int y2), none, none] [.int (v_124_63 3)] (hMm c0 m_s m_kp m_as m_ik (f_124_63_m_fo 3 m_fo) m_tl m_tr m_fa m_od m_rc m_be m_ft m_tp m_td m_tk m_bg m_en m_vl m_sg m_wi m_si m_ce m_ca) rfl ?_
      have h := Option.some.inj h; subst h
      exact hX_end rfl rfl rfl
    · skip
      have h := gcF c1 h
      refine hX_goM 8 (40) [some (.ref 63), some (.int y1), some (.int y2), some (.int m_tl), some (.int m_tr)] [.int y1, .ref 63] rfl ?_
      revert h; refine gCondR fun g2 h => ?_
      revert h; refine gCondR fun g3 h => ?_
      revert h; refine gCondR fun g4 h => ?_
      refine hX_call (r' := zR_136) rfl (ct_136_63 y1 g2 g3 g4) ?_
      refine hX_go 4 (bif gCmp .ne m_tl (f_136_63_m_tl y1 m_s m_tl m_tr) then 62 else 51) [some (.ref 63), some (.int y1), some (.int y2), some (.int m_tl), some (.int m_tr)] [] (hMm c0 m_s m_kp m_as m_ik m_fo (f_136_63_m_tl y1 m_s m_tl m_tr) (f_136_63_m_tr y1 m_s m_tl m_tr) m_fa m_od m_rc m_be m_ft m_tp m_td m_tk m_bg m_en m_vl m_sg m_wi m_si m_ce m_ca) rfl ?_
      refine hX_if (gCmp .ne m_tl (f_136_63_m_tl y1 m_s m_tl m_tr)) (fun c5 => ?_) (fun c5 => ?_)
      · skip
        have h := gcT c5 h
        refine hX_goM 2 (20) [some (.ref 63), some (.int y1), some (.int (y2 + 1)), some (.int m_tl), some (.int m_tr)] [] rfl ?_
        exact hX_wk (gLe_s (gLe_s (gLe_s (gLe_n (gLe_n gLe_0))))) (ih (y2 + 1) (f_136_63_m_tl y1 m_s m_tl m_tr) (f_136_63_m_tr y1 m_s m_tl m_tr) q h)
      · skip
        have h := gcF c5 h
        refine hX_goM 4 (bif gCmp .ne m_tr (f_136_63_m_tr y1 m_s m_tl m_tr) then 62 else 60) [some (.ref 63), some (.int y1), some (.int y2), some (.int m_tl), some (.int m_tr)] [] rfl ?_
        refine hX_if (gCmp .ne m_tr (f_136_63_m_tr y1 m_s m_tl m_tr)) (fun c6 => ?_) (fun c6 => ?_)
        · skip
          have h := gcT c6 h
          refine hX_goM 2 (20) [some (.ref 63), some (.int y1), some (.int (y2 + 1)), some (.int m_tl), some (.int m_tr)] [] rfl ?_
          exact hX_wk (gLe_s (gLe_s (gLe_s (gLe_n (gLe_n gLe_0))))) (ih (y2 + 1) (f_136_63_m_tl y1 m_s m_tl m_tr) (f_136_63_m_tr y1 m_s m_tl m_tr) q h)
        · skip
          have h := gcF c6 h
          refine hX_goM 1 (61) [some (.ref 63), some (.int y1), some (.int y2), some (.int m_tl), some (.int m_tr)] [.int y2] rfl ?_
          have h := Option.some.inj h; subst h
          exact hX_end rfl rfl rfl

/-- UpOneSideModel.stays(I)I -/
def me_156_63 (N : Nat) (x0 : Int32) (m_s : Nat → Int32) (m_fo : Nat → Int32) (m_tl : Int32) (m_tr : Int32) : Option (Int32 × (Nat → Int32) × Int32 × Int32) :=
  (bif gCmp .ne (v_129_63 x0 m_s) 0 then
    lp_156_63_20 N x0 m_s m_fo N 0 (f_135_63_m_tl m_s) (f_135_63_m_tr m_s)
  else
    some (v_124_63 0, f_124_63_m_fo 0 m_fo, m_tl, m_tr))
set_option maxRecDepth 20000 in
set_option maxHeartbeats 4000000 in
theorem mt_156_63 {LL : Nat} {xs : Nat → Int32} {D : Nat} {c0 : Nat → gE} {m_s : Nat → Int32} {m_kp : Nat → Int32} {m_as : Nat → Int32} {m_ik : Int32} {m_fo : Nat → Int32} {m_tl : Int32} {m_tr : Int32} {m_fa : Nat → Int32} {m_od : Nat → Int32} {m_rc : Int32} {m_be : Nat → Int32} {m_ft : Int32} {m_tp : Nat → Int32} {m_td : Int32} {m_tk : Int32} {m_bg : Int32} {m_en : Int32} {m_vl : Int64} {m_sg : Int32} {m_wi : Nat → Int32} {m_si : Nat → Int32} {m_ce : Nat → Int32} {m_ca : Nat → Int32} (N : Nat) (x0 : Int32) (q : Int32 × (Nat → Int32) × Int32 × Int32) (h : me_156_63 N x0 m_s m_fo m_tl m_tr = some q) : hM (gO LL xs) (D + 3) zR_156 [.ref 63, .int x0] (hMm c0 m_s m_kp m_as m_ik m_fo m_tl m_tr m_fa m_od m_rc m_be m_ft m_tp m_td m_tk m_bg m_en m_vl m_sg m_wi m_si m_ce m_ca) (some (.int q.1)) (hMm c0 m_s m_kp m_as m_ik q.2.1 q.2.2.1 q.2.2.2 m_fa m_od m_rc m_be m_ft m_tp m_td m_tk m_bg m_en m_vl m_sg m_wi m_si m_ce m_ca) := by
  unfold me_156_63 at h
  refine hX_go 0 0 [some (.ref 63), some (.int x0), none, none, none] [] (hMm c0 m_s m_kp m_as m_ik m_fo m_tl m_tr m_fa m_od m_rc m_be m_ft m_tp m_td m_tk m_bg m_en m_vl m_sg m_wi m_si m_ce m_ca) rfl ?_
  refine hX_go 2 (2) [some (.ref 63), some (.int x0), none, none, none] [.int x0, .ref 63] (hMm c0 m_s m_kp m_as m_ik m_fo m_tl m_tr m_fa m_od m_rc m_be m_ft m_tp m_td m_tk m_bg m_en m_vl m_sg m_wi m_si m_ce m_ca) rfl ?_
  refine hX_call (r' := zR_129) rfl (ct_129_63 x0) ?_
  refine hX_goM 1 (bif gCmp .ne (v_129_63 x0 m_s) 0 then 14 else 8) [some (.ref 63), some (.int x0), none, none, none] [] rfl ?_
  refine hX_if (gCmp .ne (v_129_63 x0 m_s) 0) (fun c1 => ?_) (fun c1 => ?_)
  · skip
    have h := gcT c1 h
    refine hX_goM 1 (15) [some (.ref 63), some (.int x0), none, none, none] [.ref 63] rfl ?_
    refine hX_call (r' := zR_135) rfl (ct_135_63) ?_
    refine hX_go 2 (20) [some (.ref 63), some (.int x0), some (.int 0), none, none] [] (hMm c0 m_s m_kp m_as m_ik m_fo (f_135_63_m_tl m_s) (f_135_63_m_tr m_s) m_fa m_od m_rc m_be m_ft m_tp m_td m_tk m_bg m_en m_vl m_sg m_wi m_si m_ce m_ca) rfl ?_
    exact lt_156_63_20 N 0 (f_135_63_m_tl m_s) (f_135_63_m_tr m_s) q h
  · skip
    have h := gcF c1 h
    refine hX_goM 2 (10) [some (.ref 63), some (.int x0), none, none, none] [.int 0, .ref 63] rfl ?_
    refine hX_call (r' := zR_124) rfl (ct_124_63 0 rfl) ?_
    refine hX_go 0 (13) [some (.ref 63), some (.int x0), none, none, none] [.int (v_124_63 0)] (hMm c0 m_s m_kp m_as m_ik (f_124_63_m_fo 0 m_fo) m_tl m_tr m_fa m_od m_rc m_be m_ft m_tp m_td m_tk m_bg m_en m_vl m_sg m_wi m_si m_ce m_ca) rfl ?_
    have h := Option.some.inj h; subst h
    exact hX_end rfl rfl rfl

/-- UpOneSideModel.often: the loop at 27 -/
def lp_157_63_27 (N : Nat) (y1 : Int32) (y2 : Int32) (m_s : Nat → Int32) : Nat → Int32 → Int32 → Int32 → Option (Int32 × Int32 × Int32)
  | 0, _, _, _ => none
  | n + 1, y3, m_tl, m_tr =>
    (bif gCmp .gt y3 200 then
      some (y3, m_tl, m_tr)
    else
      (bif gCmp .gt (v_126 (m_tl - m_tr)) y2 then
        some (y3, m_tl, m_tr)
      else
        (bif gIn ((15 + (3 * y1)) + 0) 134 then (bif gIn ((15 + (3 * y1)) + 1) 134 then (bif gIn ((15 + (3 * y1)) + 2) 134 then lp_157_63_27 N y1 y2 m_s n (y3 + 1) (f_136_63_m_tl y1 m_s m_tl m_tr) (f_136_63_m_tr y1 m_s m_tl m_tr) else none) else none) else none)))
set_option maxRecDepth 20000 in
set_option maxHeartbeats 4000000 in
theorem lt_157_63_27 {LL : Nat} {xs : Nat → Int32} {D N : Nat} {c0 : Nat → gE} {m_s : Nat → Int32} {m_kp : Nat → Int32} {m_as : Nat → Int32} {m_ik : Int32} {m_fo : Nat → Int32}   {m_fa : Nat → Int32} {m_od : Nat → Int32} {m_rc : Int32} {m_be : Nat → Int32} {m_ft : Int32} {m_tp : Nat → Int32} {m_td : Int32} {m_tk : Int32} {m_bg : Int32} {m_en : Int32} {m_vl : Int64} {m_sg : Int32} {m_wi : Nat → Int32} {m_si : Nat → Int32} {m_ce : Nat → Int32} {m_ca : Nat → Int32} {y1 : Int32} {y2 : Int32} {v : Option Value} {M' : List gE} : ∀ (n : Nat) (y3 : Int32) (m_tl : Int32) (m_tr : Int32) (q : Int32 × Int32 × Int32), lp_157_63_27 N y1 y2 m_s n y3 m_tl m_tr = some q → (kk : hX (gO LL xs) (D + 3) zR_157 61 [some (.ref 63), some (.int y1), some (.int y2), some (.int q.1)] [] (hMm c0 m_s m_kp m_as m_ik m_fo q.2.1 q.2.2 m_fa m_od m_rc m_be m_ft m_tp m_td m_tk m_bg m_en m_vl m_sg m_wi m_si m_ce m_ca) v M') → hX (gO LL xs) (D + 3) zR_157 27 [some (.ref 63), some (.int y1), some (.int y2), some (.int y3)] [] (hMm c0 m_s m_kp m_as m_ik m_fo m_tl m_tr m_fa m_od m_rc m_be m_ft m_tp m_td m_tk m_bg m_en m_vl m_sg m_wi m_si m_ce m_ca) v M' := by
  intro n
  induction n with
  | zero => intro y3 m_tl m_tr q h; cases h
  | succ n ih =>
    intro y3 m_tl m_tr q h kk
    rw [lp_157_63_27] at h
    refine hX_go 3 (bif gCmp .gt y3 200 then 61 else 34) [some (.ref 63), some (.int y1), some (.int y2), some (.int y3)] [] (hMm c0 m_s m_kp m_as m_ik m_fo m_tl m_tr m_fa m_od m_rc m_be m_ft m_tp m_td m_tk m_bg m_en m_vl m_sg m_wi m_si m_ce m_ca) rfl ?_
    refine hX_if (gCmp .gt y3 200) (fun c1 => ?_) (fun c1 => ?_)
    · skip
      have h := gcT c1 h
      have h := Option.some.inj h; subst h
      exact kk
    · skip
      have h := gcF c1 h
      refine hX_goM 5 (43) [some (.ref 63), some (.int y1), some (.int y2), some (.int y3)] [.int (m_tl - m_tr)] rfl ?_
      refine hX_call (r' := zR_126) rfl (ct_126 (m_tl - m_tr)) ?_
      refine hX_goM 2 (bif gCmp .gt (v_126 (m_tl - m_tr)) y2 then 61 else 50) [some (.ref 63), some (.int y1), some (.int y2), some (.int y3)] [] rfl ?_
      refine hX_if (gCmp .gt (v_126 (m_tl - m_tr)) y2) (fun c2 => ?_) (fun c2 => ?_)
      · skip
        have h := gcT c2 h
        have h := Option.some.inj h; subst h
        exact kk
      · skip
        have h := gcF c2 h
        refine hX_goM 2 (52) [some (.ref 63), some (.int y1), some (.int y2), some (.int y3)] [.int y1, .ref 63] rfl ?_
        revert h; refine gCondR fun g3 h => ?_
        revert h; refine gCondR fun g4 h => ?_
        revert h; refine gCondR fun g5 h => ?_
        refine hX_call (r' := zR_136) rfl (ct_136_63 y1 g3 g4 g5) ?_
        refine hX_go 2 (27) [some (.ref 63), some (.int y1), some (.int y2), some (.int (y3 + 1))] [] (hMm c0 m_s m_kp m_as m_ik m_fo (f_136_63_m_tl y1 m_s m_tl m_tr) (f_136_63_m_tr y1 m_s m_tl m_tr) m_fa m_od m_rc m_be m_ft m_tp m_td m_tk m_bg m_en m_vl m_sg m_wi m_si m_ce m_ca) rfl ?_
        exact ih (y3 + 1) (f_136_63_m_tl y1 m_s m_tl m_tr) (f_136_63_m_tr y1 m_s m_tl m_tr) q h kk

/-- UpOneSideModel.often(II)I -/
def me_157_63 (N : Nat) (x0 : Int32) (x1 : Int32) (m_s : Nat → Int32) (m_fo : Nat → Int32) (m_tl : Int32) (m_tr : Int32) : Option (Int32 × (Nat → Int32) × Int32 × Int32) :=
  (bif gCmp .eq (v_129_63 x0 m_s) 0 then
    some (v_124_63 0, f_124_63_m_fo 0 m_fo, m_tl, m_tr)
  else
    (bif gCmp .ne (v_130 x1) 0 then
      (Option.bind (lp_157_63_27 N x0 x1 m_s N 0 (f_135_63_m_tl m_s) (f_135_63_m_tr m_s)) fun q3 =>
      some (bif gCmp .gt q3.1 200 then (v_124_63 3) else q3.1, bif gCmp .gt q3.1 200 then (f_124_63_m_fo 3 m_fo) else m_fo, q3.2.1, q3.2.2))
    else
      some (v_124_63 0, f_124_63_m_fo 0 m_fo, m_tl, m_tr)))
set_option maxRecDepth 20000 in
set_option maxHeartbeats 4000000 in
theorem mt_157_63 {LL : Nat} {xs : Nat → Int32} {D : Nat} {c0 : Nat → gE} {m_s : Nat → Int32} {m_kp : Nat → Int32} {m_as : Nat → Int32} {m_ik : Int32} {m_fo : Nat → Int32} {m_tl : Int32} {m_tr : Int32} {m_fa : Nat → Int32} {m_od : Nat → Int32} {m_rc : Int32} {m_be : Nat → Int32} {m_ft : Int32} {m_tp : Nat → Int32} {m_td : Int32} {m_tk : Int32} {m_bg : Int32} {m_en : Int32} {m_vl : Int64} {m_sg : Int32} {m_wi : Nat → Int32} {m_si : Nat → Int32} {m_ce : Nat → Int32} {m_ca : Nat → Int32} (N : Nat) (x0 : Int32) (x1 : Int32) (q : Int32 × (Nat → Int32) × Int32 × Int32) (h : me_157_63 N x0 x1 m_s m_fo m_tl m_tr = some q) : hM (gO LL xs) (D + 3) zR_157 [.ref 63, .int x0, .int x1] (hMm c0 m_s m_kp m_as m_ik m_fo m_tl m_tr m_fa m_od m_rc m_be m_ft m_tp m_td m_tk m_bg m_en m_vl m_sg m_wi m_si m_ce m_ca) (some (.int q.1)) (hMm c0 m_s m_kp m_as m_ik q.2.1 q.2.2.1 q.2.2.2 m_fa m_od m_rc m_be m_ft m_tp m_td m_tk m_bg m_en m_vl m_sg m_wi m_si m_ce m_ca) := by
  unfold me_157_63 at h
  refine hX_go 0 0 [some (.ref 63), some (.int x0), some (.int x1), none] [] (hMm c0 m_s m_kp m_as m_ik m_fo m_tl m_tr m_fa m_od m_rc m_be m_ft m_tp m_td m_tk m_bg m_en m_vl m_sg m_wi m_si m_ce m_ca) rfl ?_
  refine hX_go 2 (2) [some (.ref 63), some (.int x0), some (.int x1), none] [.int x0, .ref 63] (hMm c0 m_s m_kp m_as m_ik m_fo m_tl m_tr m_fa m_od m_rc m_be m_ft m_tp m_td m_tk m_bg m_en m_vl m_sg m_wi m_si m_ce m_ca) rfl ?_
  refine hX_call (r' := zR_129) rfl (ct_129_63 x0) ?_
  refine hX_goM 1 (bif gCmp .eq (v_129_63 x0 m_s) 0 then 15 else 8) [some (.ref 63), some (.int x0), some (.int x1), none] [] rfl ?_
  refine hX_if (gCmp .eq (v_129_63 x0 m_s) 0) (fun c1 => ?_) (fun c1 => ?_)
  · skip
    have h := gcT c1 h
    refine hX_goM 2 (17) [some (.ref 63), some (.int x0), some (.int x1), none] [.int 0, .ref 63] rfl ?_
    refine hX_call (r' := zR_124) rfl (ct_124_63 0 rfl) ?_
    refine hX_go 0 (20) [some (.ref 63), some (.int x0), some (.int x1), none] [.int (v_124_63 0)] (hMm c0 m_s m_kp m_as m_ik (f_124_63_m_fo 0 m_fo) m_tl m_tr m_fa m_od m_rc m_be m_ft m_tp m_td m_tk m_bg m_en m_vl m_sg m_wi m_si m_ce m_ca) rfl ?_
    have h := Option.some.inj h; subst h
    exact hX_end rfl rfl rfl
  · skip
    have h := gcF c1 h
    refine hX_goM 1 (9) [some (.ref 63), some (.int x0), some (.int x1), none] [.int x1] rfl ?_
    refine hX_call (r' := zR_130) rfl (ct_130 x1) ?_
    refine hX_goM 1 (bif gCmp .ne (v_130 x1) 0 then 21 else 15) [some (.ref 63), some (.int x0), some (.int x1), none] [] rfl ?_
    refine hX_if (gCmp .ne (v_130 x1) 0) (fun c2 => ?_) (fun c2 => ?_)
    · skip
      have h := gcT c2 h
      refine hX_goM 1 (22) [some (.ref 63), some (.int x0), some (.int x1), none] [.ref 63] rfl ?_
      refine hX_call (r' := zR_135) rfl (ct_135_63) ?_
      refine hX_go 2 (27) [some (.ref 63), some (.int x0), some (.int x1), some (.int 0)] [] (hMm c0 m_s m_kp m_as m_ik m_fo (f_135_63_m_tl m_s) (f_135_63_m_tr m_s) m_fa m_od m_rc m_be m_ft m_tp m_td m_tk m_bg m_en m_vl m_sg m_wi m_si m_ce m_ca) rfl ?_
      revert h; refine gBindR fun q3 e3 h => ?_
      refine lt_157_63_27 N 0 (f_135_63_m_tl m_s) (f_135_63_m_tr m_s) q3 e3 ?_
      refine hX_go 3 (bif gCmp .gt q3.1 200 then 72 else 68) [some (.ref 63), some (.int x0), some (.int x1), some (.int q3.1)] [] (hMm c0 m_s m_kp m_as m_ik m_fo q3.2.1 q3.2.2 m_fa m_od m_rc m_be m_ft m_tp m_td m_tk m_bg m_en m_vl m_sg m_wi m_si m_ce m_ca) rfl ?_
      refine hX_mrg 77 [some (.ref 63), some (.int x0), some (.int x1), some (.int q3.1)] [.int (bif gCmp .gt q3.1 200 then (v_124_63 3) else q3.1)] (hMm c0 m_s m_kp m_as m_ik (bif gCmp .gt q3.1 200 then (f_124_63_m_fo 3 m_fo) else m_fo) q3.2.1 q3.2.2 m_fa m_od m_rc m_be m_ft m_tp m_td m_tk m_bg m_en m_vl m_sg m_wi m_si m_ce m_ca) (fun hk => ?_) ?_
      · skip
        refine hX_if (gCmp .gt q3.1 200) (fun c5 => ?_) (fun c5 => ?_)
        · skip
          refine hX_goM 2 (74) [some (.ref 63), some (.int x0), some (.int x1), some (.int q3.1)] [.int 3, .ref 63] rfl ?_
          refine hX_call (r' := zR_124) rfl (ct_124_63 3 rfl) ?_
          refine hX_go 0 (77) [some (.ref 63), some (.int x0), some (.int x1), some (.int q3.1)] [.int (v_124_63 3)] (hMm c0 m_s m_kp m_as m_ik (f_124_63_m_fo 3 m_fo) q3.2.1 q3.2.2 m_fa m_od m_rc m_be m_ft m_tp m_td m_tk m_bg m_en m_vl m_sg m_wi m_si m_ce m_ca) rfl ?_
          have hk := hk
          simp only [c5, cond_true, cond_false] at hk
          first | exact hk | (simp only [c5, cond_true, cond_false]; exact hk)
        · skip
          refine hX_goM 2 (77) [some (.ref 63), some (.int x0), some (.int x1), some (.int q3.1)] [.int q3.1] rfl ?_
          have hk := hk
          simp only [c5, cond_true, cond_false] at hk
          first | exact hk | (simp only [c5, cond_true, cond_false]; exact hk)
      have h := Option.some.inj h; subst h
      exact hX_end rfl rfl rfl
    · skip
      have h := gcF c2 h
      refine hX_goM 2 (17) [some (.ref 63), some (.int x0), some (.int x1), none] [.int 0, .ref 63] rfl ?_
      refine hX_call (r' := zR_124) rfl (ct_124_63 0 rfl) ?_
      refine hX_go 0 (20) [some (.ref 63), some (.int x0), some (.int x1), none] [.int (v_124_63 0)] (hMm c0 m_s m_kp m_as m_ik (f_124_63_m_fo 0 m_fo) m_tl m_tr m_fa m_od m_rc m_be m_ft m_tp m_td m_tk m_bg m_en m_vl m_sg m_wi m_si m_ce m_ca) rfl ?_
      have h := Option.some.inj h; subst h
      exact hX_end rfl rfl rfl

/-- UpOneSideModel.knot: the loop at 40 -/
def lp_158_63_40 (N : Nat) (y1 : Int32) (y2 : Int32) : Nat → Int32 → Int32 → Int32 → (Nat → Int32) → Int32 → Int32 → Option (Int32 × Int32 × Int32 × (Nat → Int32) × Int32 × Int32)
  | 0, _, _, _, _, _, _ => none
  | n + 1, y4, y5, y6, m_s, m_tl, m_tr =>
    (bif gCmp .ge y6 19 then
      some (y4, y5, y6, m_s, m_tl, m_tr)
    else
      (Option.bind (me_137_63 N y1 y2 (upd m_s 5 (bif gCmp .ne (y6 - y6 / 2 * 2) 1 then (y6 / 2) else ((-(y6 + 1)) / 2)))) fun q4 =>
      lp_158_63_40 N y1 y2 n (bif gCmp .lt y5 0 then (bif gCmp .ne (y6 - y6 / 2 * 2) 1 then (y6 / 2) else ((-(y6 + 1)) / 2)) else (bif gCmp .ge (v_126 q4.1) y5 then y4 else (bif gCmp .ne (y6 - y6 / 2 * 2) 1 then (y6 / 2) else ((-(y6 + 1)) / 2)))) (bif gCmp .lt y5 0 then (v_126 q4.1) else (bif gCmp .ge (v_126 q4.1) y5 then y5 else (v_126 q4.1))) (y6 + 1) (upd m_s 5 (bif gCmp .ne (y6 - y6 / 2 * 2) 1 then (y6 / 2) else ((-(y6 + 1)) / 2))) q4.2.1 q4.2.2))
set_option maxRecDepth 20000 in
set_option maxHeartbeats 4000000 in
theorem lt_158_63_40 {LL : Nat} {xs : Nat → Int32} {D N : Nat} {c0 : Nat → gE}  {m_kp : Nat → Int32} {m_as : Nat → Int32} {m_ik : Int32} {m_fo : Nat → Int32}   {m_fa : Nat → Int32} {m_od : Nat → Int32} {m_rc : Int32} {m_be : Nat → Int32} {m_ft : Int32} {m_tp : Nat → Int32} {m_td : Int32} {m_tk : Int32} {m_bg : Int32} {m_en : Int32} {m_vl : Int64} {m_sg : Int32} {m_wi : Nat → Int32} {m_si : Nat → Int32} {m_ce : Nat → Int32} {m_ca : Nat → Int32} {y1 : Int32} {y2 : Int32} {y3 : Int32} {v : Option Value} {M' : List gE} : ∀ (n : Nat) (y4 : Int32) (y5 : Int32) (y6 : Int32) (m_s : Nat → Int32) (m_tl : Int32) (m_tr : Int32) (q : Int32 × Int32 × Int32 × (Nat → Int32) × Int32 × Int32), lp_158_63_40 N y1 y2 n y4 y5 y6 m_s m_tl m_tr = some q → (kk : hX (gO LL xs) (D + 4) zR_158 138 [some (.ref 63), some (.int y1), some (.int y2), some (.int y3), some (.int q.1), some (.int q.2.1), some (.int q.2.2.1), none, none] [] (hMm c0 q.2.2.2.1 m_kp m_as m_ik m_fo q.2.2.2.2.1 q.2.2.2.2.2 m_fa m_od m_rc m_be m_ft m_tp m_td m_tk m_bg m_en m_vl m_sg m_wi m_si m_ce m_ca) v M') → hX (gO LL xs) (D + 4) zR_158 40 [some (.ref 63), some (.int y1), some (.int y2), some (.int y3), some (.int y4), some (.int y5), some (.int y6), none, none] [] (hMm c0 m_s m_kp m_as m_ik m_fo m_tl m_tr m_fa m_od m_rc m_be m_ft m_tp m_td m_tk m_bg m_en m_vl m_sg m_wi m_si m_ce m_ca) v M' := by
  intro n
  induction n with
  | zero => intro y4 y5 y6 m_s m_tl m_tr q h; cases h
  | succ n ih =>
    intro y4 y5 y6 m_s m_tl m_tr q h kk
    rw [lp_158_63_40] at h
    refine hX_go 3 (bif gCmp .ge y6 19 then 138 else 47) [some (.ref 63), some (.int y1), some (.int y2), some (.int y3), some (.int y4), some (.int y5), some (.int y6), none, none] [] (hMm c0 m_s m_kp m_as m_ik m_fo m_tl m_tr m_fa m_od m_rc m_be m_ft m_tp m_td m_tk m_bg m_en m_vl m_sg m_wi m_si m_ce m_ca) rfl ?_
    refine hX_if (gCmp .ge y6 19) (fun c1 => ?_) (fun c1 => ?_)
    · skip
      have h := gcT c1 h
      have h := Option.some.inj h; subst h
      exact kk
    · skip
      have h := gcF c1 h
      refine hX_goM 5 (bif gCmp .ne (y6 - y6 / 2 * 2) 1 then 65 else 55) [some (.ref 63), some (.int y1), some (.int y2), some (.int y3), some (.int y4), some (.int y5), some (.int y6), none, none] [] rfl ?_
      refine hX_mrg 69 [some (.ref 63), some (.int y1), some (.int y2), some (.int y3), some (.int y4), some (.int y5), some (.int y6), none, none] [.int (bif gCmp .ne (y6 - y6 / 2 * 2) 1 then (y6 / 2) else ((-(y6 + 1)) / 2))] (hMm c0 m_s m_kp m_as m_ik m_fo m_tl m_tr m_fa m_od m_rc m_be m_ft m_tp m_td m_tk m_bg m_en m_vl m_sg m_wi m_si m_ce m_ca) (fun hk => ?_) ?_
      · skip
        refine hX_if (gCmp .ne (y6 - y6 / 2 * 2) 1) (fun c3 => ?_) (fun c3 => ?_)
        · skip
          refine hX_goM 3 (69) [some (.ref 63), some (.int y1), some (.int y2), some (.int y3), some (.int y4), some (.int y5), some (.int y6), none, none] [.int (y6 / 2)] rfl ?_
          have hk := hk
          simp only [c3, cond_true, cond_false] at hk
          first | exact hk | (simp only [c3, cond_true, cond_false]; exact hk)
        · skip
          refine hX_goM 7 (69) [some (.ref 63), some (.int y1), some (.int y2), some (.int y3), some (.int y4), some (.int y5), some (.int y6), none, none] [.int ((-(y6 + 1)) / 2)] rfl ?_
          have hk := hk
          simp only [c3, cond_true, cond_false] at hk
          first | exact hk | (simp only [c3, cond_true, cond_false]; exact hk)
      refine hX_go 9 (82) [some (.ref 63), some (.int y1), some (.int y2), some (.int y3), some (.int y4), some (.int y5), some (.int y6), some (.int (bif gCmp .ne (y6 - y6 / 2 * 2) 1 then (y6 / 2) else ((-(y6 + 1)) / 2))), none] [.int y2, .int y1, .ref 63] (hMm c0 (upd m_s 5 (bif gCmp .ne (y6 - y6 / 2 * 2) 1 then (y6 / 2) else ((-(y6 + 1)) / 2))) m_kp m_as m_ik m_fo m_tl m_tr m_fa m_od m_rc m_be m_ft m_tp m_td m_tk m_bg m_en m_vl m_sg m_wi m_si m_ce m_ca) rfl ?_
      revert h; refine gBindR fun q4 e4 h => ?_
      refine hX_call (r' := zR_137) rfl (mt_137_63 N y1 y2 q4 e4) ?_
      refine hX_go 0 (85) [some (.ref 63), some (.int y1), some (.int y2), some (.int y3), some (.int y4), some (.int y5), some (.int y6), some (.int (bif gCmp .ne (y6 - y6 / 2 * 2) 1 then (y6 / 2) else ((-(y6 + 1)) / 2))), none] [.int q4.1] (hMm c0 (upd m_s 5 (bif gCmp .ne (y6 - y6 / 2 * 2) 1 then (y6 / 2) else ((-(y6 + 1)) / 2))) m_kp m_as m_ik m_fo q4.2.1 q4.2.2 m_fa m_od m_rc m_be m_ft m_tp m_td m_tk m_bg m_en m_vl m_sg m_wi m_si m_ce m_ca) rfl ?_
      refine hX_call (r' := zR_126) rfl (ct_126 q4.1) ?_
      refine hX_goM 3 (bif gCmp .lt y5 0 then 102 else 95) [some (.ref 63), some (.int y1), some (.int y2), some (.int y3), some (.int y4), some (.int y5), some (.int y6), some (.int (bif gCmp .ne (y6 - y6 / 2 * 2) 1 then (y6 / 2) else ((-(y6 + 1)) / 2))), some (.int (v_126 q4.1))] [] rfl ?_
      refine hX_mrg 109 [some (.ref 63), some (.int y1), some (.int y2), some (.int y3), some (.int y4), some (.int y5), some (.int y6), some (.int (bif gCmp .ne (y6 - y6 / 2 * 2) 1 then (y6 / 2) else ((-(y6 + 1)) / 2))), some (.int (v_126 q4.1))] [.int (bif gCmp .lt y5 0 then (bif gCmp .ne (y6 - y6 / 2 * 2) 1 then (y6 / 2) else ((-(y6 + 1)) / 2)) else (bif gCmp .ge (v_126 q4.1) y5 then y4 else (bif gCmp .ne (y6 - y6 / 2 * 2) 1 then (y6 / 2) else ((-(y6 + 1)) / 2))))] (hMm c0 (upd m_s 5 (bif gCmp .ne (y6 - y6 / 2 * 2) 1 then (y6 / 2) else ((-(y6 + 1)) / 2))) m_kp m_as m_ik m_fo q4.2.1 q4.2.2 m_fa m_od m_rc m_be m_ft m_tp m_td m_tk m_bg m_en m_vl m_sg m_wi m_si m_ce m_ca) (fun hk => ?_) ?_
      · skip
        refine hX_if (gCmp .lt y5 0) (fun c7 => ?_) (fun c7 => ?_)
        · skip
          refine hX_goM 2 (109) [some (.ref 63), some (.int y1), some (.int y2), some (.int y3), some (.int y4), some (.int y5), some (.int y6), some (.int (bif gCmp .ne (y6 - y6 / 2 * 2) 1 then (y6 / 2) else ((-(y6 + 1)) / 2))), some (.int (v_126 q4.1))] [.int (bif gCmp .ne (y6 - y6 / 2 * 2) 1 then (y6 / 2) else ((-(y6 + 1)) / 2))] rfl ?_
          have hk := hk
          simp only [c7, cond_true, cond_false] at hk
          first | exact hk | (simp only [c7, cond_true, cond_false]; exact hk)
        · skip
          refine hX_goM 3 (bif gCmp .ge (v_126 q4.1) y5 then 107 else 102) [some (.ref 63), some (.int y1), some (.int y2), some (.int y3), some (.int y4), some (.int y5), some (.int y6), some (.int (bif gCmp .ne (y6 - y6 / 2 * 2) 1 then (y6 / 2) else ((-(y6 + 1)) / 2))), some (.int (v_126 q4.1))] [] rfl ?_
          refine hX_if (gCmp .ge (v_126 q4.1) y5) (fun c8 => ?_) (fun c8 => ?_)
          · skip
            refine hX_goM 1 (109) [some (.ref 63), some (.int y1), some (.int y2), some (.int y3), some (.int y4), some (.int y5), some (.int y6), some (.int (bif gCmp .ne (y6 - y6 / 2 * 2) 1 then (y6 / 2) else ((-(y6 + 1)) / 2))), some (.int (v_126 q4.1))] [.int y4] rfl ?_
            have hk := hk
            simp only [c7, c8, cond_true, cond_false] at hk
            first | exact hk | (simp only [c7, c8, cond_true, cond_false]; exact hk)
          · skip
            refine hX_goM 2 (109) [some (.ref 63), some (.int y1), some (.int y2), some (.int y3), some (.int y4), some (.int y5), some (.int y6), some (.int (bif gCmp .ne (y6 - y6 / 2 * 2) 1 then (y6 / 2) else ((-(y6 + 1)) / 2))), some (.int (v_126 q4.1))] [.int (bif gCmp .ne (y6 - y6 / 2 * 2) 1 then (y6 / 2) else ((-(y6 + 1)) / 2))] rfl ?_
            have hk := hk
            simp only [c7, c8, cond_true, cond_false] at hk
            first | exact hk | (simp only [c7, c8, cond_true, cond_false]; exact hk)
      refine hX_goM 3 (bif gCmp .lt y5 0 then 123 else 116) [some (.ref 63), some (.int y1), some (.int y2), some (.int y3), some (.int (bif gCmp .lt y5 0 then (bif gCmp .ne (y6 - y6 / 2 * 2) 1 then (y6 / 2) else ((-(y6 + 1)) / 2)) else (bif gCmp .ge (v_126 q4.1) y5 then y4 else (bif gCmp .ne (y6 - y6 / 2 * 2) 1 then (y6 / 2) else ((-(y6 + 1)) / 2))))), some (.int y5), some (.int y6), some (.int (bif gCmp .ne (y6 - y6 / 2 * 2) 1 then (y6 / 2) else ((-(y6 + 1)) / 2))), some (.int (v_126 q4.1))] [] rfl ?_
      refine hX_mrg 130 [some (.ref 63), some (.int y1), some (.int y2), some (.int y3), some (.int (bif gCmp .lt y5 0 then (bif gCmp .ne (y6 - y6 / 2 * 2) 1 then (y6 / 2) else ((-(y6 + 1)) / 2)) else (bif gCmp .ge (v_126 q4.1) y5 then y4 else (bif gCmp .ne (y6 - y6 / 2 * 2) 1 then (y6 / 2) else ((-(y6 + 1)) / 2))))), some (.int y5), some (.int y6), some (.int (bif gCmp .ne (y6 - y6 / 2 * 2) 1 then (y6 / 2) else ((-(y6 + 1)) / 2))), some (.int (v_126 q4.1))] [.int (bif gCmp .lt y5 0 then (v_126 q4.1) else (bif gCmp .ge (v_126 q4.1) y5 then y5 else (v_126 q4.1)))] (hMm c0 (upd m_s 5 (bif gCmp .ne (y6 - y6 / 2 * 2) 1 then (y6 / 2) else ((-(y6 + 1)) / 2))) m_kp m_as m_ik m_fo q4.2.1 q4.2.2 m_fa m_od m_rc m_be m_ft m_tp m_td m_tk m_bg m_en m_vl m_sg m_wi m_si m_ce m_ca) (fun hk => ?_) ?_
      · skip
        refine hX_if (gCmp .lt y5 0) (fun c11 => ?_) (fun c11 => ?_)
        · skip
          refine hX_goM 2 (130) [some (.ref 63), some (.int y1), some (.int y2), some (.int y3), some (.int (bif gCmp .lt y5 0 then (bif gCmp .ne (y6 - y6 / 2 * 2) 1 then (y6 / 2) else ((-(y6 + 1)) / 2)) else (bif gCmp .ge (v_126 q4.1) y5 then y4 else (bif gCmp .ne (y6 - y6 / 2 * 2) 1 then (y6 / 2) else ((-(y6 + 1)) / 2))))), some (.int y5), some (.int y6), some (.int (bif gCmp .ne (y6 - y6 / 2 * 2) 1 then (y6 / 2) else ((-(y6 + 1)) / 2))), some (.int (v_126 q4.1))] [.int (v_126 q4.1)] rfl ?_
          have hk := hk
          simp only [c11, cond_true, cond_false] at hk
          first | exact hk | (simp only [c11, cond_true, cond_false]; exact hk)
        · skip
          refine hX_goM 3 (bif gCmp .ge (v_126 q4.1) y5 then 128 else 123) [some (.ref 63), some (.int y1), some (.int y2), some (.int y3), some (.int (bif gCmp .lt y5 0 then (bif gCmp .ne (y6 - y6 / 2 * 2) 1 then (y6 / 2) else ((-(y6 + 1)) / 2)) else (bif gCmp .ge (v_126 q4.1) y5 then y4 else (bif gCmp .ne (y6 - y6 / 2 * 2) 1 then (y6 / 2) else ((-(y6 + 1)) / 2))))), some (.int y5), some (.int y6), some (.int (bif gCmp .ne (y6 - y6 / 2 * 2) 1 then (y6 / 2) else ((-(y6 + 1)) / 2))), some (.int (v_126 q4.1))] [] rfl ?_
          refine hX_if (gCmp .ge (v_126 q4.1) y5) (fun c12 => ?_) (fun c12 => ?_)
          · skip
            refine hX_goM 1 (130) [some (.ref 63), some (.int y1), some (.int y2), some (.int y3), some (.int (bif gCmp .lt y5 0 then (bif gCmp .ne (y6 - y6 / 2 * 2) 1 then (y6 / 2) else ((-(y6 + 1)) / 2)) else (bif gCmp .ge (v_126 q4.1) y5 then y4 else (bif gCmp .ne (y6 - y6 / 2 * 2) 1 then (y6 / 2) else ((-(y6 + 1)) / 2))))), some (.int y5), some (.int y6), some (.int (bif gCmp .ne (y6 - y6 / 2 * 2) 1 then (y6 / 2) else ((-(y6 + 1)) / 2))), some (.int (v_126 q4.1))] [.int y5] rfl ?_
            have hk := hk
            simp only [c11, c12, cond_true, cond_false] at hk
            first | exact hk | (simp only [c11, c12, cond_true, cond_false]; exact hk)
          · skip
            refine hX_goM 2 (130) [some (.ref 63), some (.int y1), some (.int y2), some (.int y3), some (.int (bif gCmp .lt y5 0 then (bif gCmp .ne (y6 - y6 / 2 * 2) 1 then (y6 / 2) else ((-(y6 + 1)) / 2)) else (bif gCmp .ge (v_126 q4.1) y5 then y4 else (bif gCmp .ne (y6 - y6 / 2 * 2) 1 then (y6 / 2) else ((-(y6 + 1)) / 2))))), some (.int y5), some (.int y6), some (.int (bif gCmp .ne (y6 - y6 / 2 * 2) 1 then (y6 / 2) else ((-(y6 + 1)) / 2))), some (.int (v_126 q4.1))] [.int (v_126 q4.1)] rfl ?_
            have hk := hk
            simp only [c11, c12, cond_true, cond_false] at hk
            first | exact hk | (simp only [c11, c12, cond_true, cond_false]; exact hk)
      refine hX_goM 3 (40) [some (.ref 63), some (.int y1), some (.int y2), some (.int y3), some (.int (bif gCmp .lt y5 0 then (bif gCmp .ne (y6 - y6 / 2 * 2) 1 then (y6 / 2) else ((-(y6 + 1)) / 2)) else (bif gCmp .ge (v_126 q4.1) y5 then y4 else (bif gCmp .ne (y6 - y6 / 2 * 2) 1 then (y6 / 2) else ((-(y6 + 1)) / 2))))), some (.int (bif gCmp .lt y5 0 then (v_126 q4.1) else (bif gCmp .ge (v_126 q4.1) y5 then y5 else (v_126 q4.1)))), some (.int (y6 + 1)), some (.int (bif gCmp .ne (y6 - y6 / 2 * 2) 1 then (y6 / 2) else ((-(y6 + 1)) / 2))), some (.int (v_126 q4.1))] [] rfl ?_
      exact hX_wk (gLe_s (gLe_s (gLe_s (gLe_s (gLe_s (gLe_s (gLe_s (gLe_n (gLe_n gLe_0))))))))) (ih (bif gCmp .lt y5 0 then (bif gCmp .ne (y6 - y6 / 2 * 2) 1 then (y6 / 2) else ((-(y6 + 1)) / 2)) else (bif gCmp .ge (v_126 q4.1) y5 then y4 else (bif gCmp .ne (y6 - y6 / 2 * 2) 1 then (y6 / 2) else ((-(y6 + 1)) / 2)))) (bif gCmp .lt y5 0 then (v_126 q4.1) else (bif gCmp .ge (v_126 q4.1) y5 then y5 else (v_126 q4.1))) (y6 + 1) (upd m_s 5 (bif gCmp .ne (y6 - y6 / 2 * 2) 1 then (y6 / 2) else ((-(y6 + 1)) / 2))) q4.2.1 q4.2.2 q h kk)

/-- UpOneSideModel.knot(II)I -/
def me_158_63 (N : Nat) (x0 : Int32) (x1 : Int32) (m_s : Nat → Int32) (m_fo : Nat → Int32) (m_tl : Int32) (m_tr : Int32) : Option (Int32 × (Nat → Int32) × (Nat → Int32) × Int32 × Int32) :=
  (bif gCmp .eq (v_129_63 x0 m_s) 0 then
    some (v_124_63 0, m_s, f_124_63_m_fo 0 m_fo, m_tl, m_tr)
  else
    (bif gCmp .ne (v_125 x1 0 20) 0 then
      (Option.bind (lp_158_63_40 N x0 x1 N 0 (-1) 0 m_s m_tl m_tr) fun q3 =>
      some (q3.1, upd q3.2.2.2.1 5 (m_s 5), m_fo, q3.2.2.2.2.1, q3.2.2.2.2.2))
    else
      some (v_124_63 0, m_s, f_124_63_m_fo 0 m_fo, m_tl, m_tr)))
set_option maxRecDepth 20000 in
set_option maxHeartbeats 4000000 in
theorem mt_158_63 {LL : Nat} {xs : Nat → Int32} {D : Nat} {c0 : Nat → gE} {m_s : Nat → Int32} {m_kp : Nat → Int32} {m_as : Nat → Int32} {m_ik : Int32} {m_fo : Nat → Int32} {m_tl : Int32} {m_tr : Int32} {m_fa : Nat → Int32} {m_od : Nat → Int32} {m_rc : Int32} {m_be : Nat → Int32} {m_ft : Int32} {m_tp : Nat → Int32} {m_td : Int32} {m_tk : Int32} {m_bg : Int32} {m_en : Int32} {m_vl : Int64} {m_sg : Int32} {m_wi : Nat → Int32} {m_si : Nat → Int32} {m_ce : Nat → Int32} {m_ca : Nat → Int32} (N : Nat) (x0 : Int32) (x1 : Int32) (q : Int32 × (Nat → Int32) × (Nat → Int32) × Int32 × Int32) (h : me_158_63 N x0 x1 m_s m_fo m_tl m_tr = some q) : hM (gO LL xs) (D + 4) zR_158 [.ref 63, .int x0, .int x1] (hMm c0 m_s m_kp m_as m_ik m_fo m_tl m_tr m_fa m_od m_rc m_be m_ft m_tp m_td m_tk m_bg m_en m_vl m_sg m_wi m_si m_ce m_ca) (some (.int q.1)) (hMm c0 q.2.1 m_kp m_as m_ik q.2.2.1 q.2.2.2.1 q.2.2.2.2 m_fa m_od m_rc m_be m_ft m_tp m_td m_tk m_bg m_en m_vl m_sg m_wi m_si m_ce m_ca) := by
  unfold me_158_63 at h
  refine hX_go 0 0 [some (.ref 63), some (.int x0), some (.int x1), none, none, none, none, none, none] [] (hMm c0 m_s m_kp m_as m_ik m_fo m_tl m_tr m_fa m_od m_rc m_be m_ft m_tp m_td m_tk m_bg m_en m_vl m_sg m_wi m_si m_ce m_ca) rfl ?_
  refine hX_go 2 (2) [some (.ref 63), some (.int x0), some (.int x1), none, none, none, none, none, none] [.int x0, .ref 63] (hMm c0 m_s m_kp m_as m_ik m_fo m_tl m_tr m_fa m_od m_rc m_be m_ft m_tp m_td m_tk m_bg m_en m_vl m_sg m_wi m_si m_ce m_ca) rfl ?_
  refine hX_call (r' := zR_129) rfl (ct_129_63 x0) ?_
  refine hX_goM 1 (bif gCmp .eq (v_129_63 x0 m_s) 0 then 18 else 8) [some (.ref 63), some (.int x0), some (.int x1), none, none, none, none, none, none] [] rfl ?_
  refine hX_if (gCmp .eq (v_129_63 x0 m_s) 0) (fun c1 => ?_) (fun c1 => ?_)
  · skip
    have h := gcT c1 h
    refine hX_goM 2 (20) [some (.ref 63), some (.int x0), some (.int x1), none, none, none, none, none, none] [.int 0, .ref 63] rfl ?_
    refine hX_call (r' := zR_124) rfl (ct_124_63 0 rfl) ?_
    refine hX_go 0 (23) [some (.ref 63), some (.int x0), some (.int x1), none, none, none, none, none, none] [.int (v_124_63 0)] (hMm c0 m_s m_kp m_as m_ik (f_124_63_m_fo 0 m_fo) m_tl m_tr m_fa m_od m_rc m_be m_ft m_tp m_td m_tk m_bg m_en m_vl m_sg m_wi m_si m_ce m_ca) rfl ?_
    have h := Option.some.inj h; subst h
    exact hX_end rfl rfl rfl
  · skip
    have h := gcF c1 h
    refine hX_goM 3 (12) [some (.ref 63), some (.int x0), some (.int x1), none, none, none, none, none, none] [.int 20, .int 0, .int x1] rfl ?_
    refine hX_call (r' := zR_125) rfl (ct_125 x1 0 20) ?_
    refine hX_goM 1 (bif gCmp .ne (v_125 x1 0 20) 0 then 24 else 18) [some (.ref 63), some (.int x0), some (.int x1), none, none, none, none, none, none] [] rfl ?_
    refine hX_if (gCmp .ne (v_125 x1 0 20) 0) (fun c2 => ?_) (fun c2 => ?_)
    · skip
      have h := gcT c2 h
      refine hX_goM 9 (37) [some (.ref 63), some (.int x0), some (.int x1), some (.int (m_s 5)), some (.int 0), some (.int (-1)), none, none, none] [] rfl ?_
      refine hX_goM 2 (40) [some (.ref 63), some (.int x0), some (.int x1), some (.int (m_s 5)), some (.int 0), some (.int (-1)), some (.int 0), none, none] [] rfl ?_
      revert h; refine gBindR fun q3 e3 h => ?_
      refine lt_158_63_40 N 0 (-1) 0 m_s m_tl m_tr q3 e3 ?_
      refine hX_go 6 (147) [some (.ref 63), some (.int x0), some (.int x1), some (.int (m_s 5)), some (.int q3.1), some (.int q3.2.1), some (.int q3.2.2.1), none, none] [.int q3.1] (hMm c0 (upd q3.2.2.2.1 5 (m_s 5)) m_kp m_as m_ik m_fo q3.2.2.2.2.1 q3.2.2.2.2.2 m_fa m_od m_rc m_be m_ft m_tp m_td m_tk m_bg m_en m_vl m_sg m_wi m_si m_ce m_ca) rfl ?_
      have h := Option.some.inj h; subst h
      exact hX_end rfl rfl rfl
    · skip
      have h := gcF c2 h
      refine hX_goM 2 (20) [some (.ref 63), some (.int x0), some (.int x1), none, none, none, none, none, none] [.int 0, .ref 63] rfl ?_
      refine hX_call (r' := zR_124) rfl (ct_124_63 0 rfl) ?_
      refine hX_go 0 (23) [some (.ref 63), some (.int x0), some (.int x1), none, none, none, none, none, none] [.int (v_124_63 0)] (hMm c0 m_s m_kp m_as m_ik (f_124_63_m_fo 0 m_fo) m_tl m_tr m_fa m_od m_rc m_be m_ft m_tp m_td m_tk m_bg m_en m_vl m_sg m_wi m_si m_ce m_ca) rfl ?_
      have h := Option.some.inj h; subst h
      exact hX_end rfl rfl rfl

/-- UpOneSideModel.kindFor: the loop at 40 -/
def lp_159_63_40 (N : Nat) (y1 : Int32) (y2 : Int32) : Nat → Int32 → Int32 → Int32 → (Nat → Int32) → Int32 → Int32 → Option (Int32 × Int32 × Int32 × (Nat → Int32) × Int32 × Int32)
  | 0, _, _, _, _, _, _ => none
  | n + 1, y4, y5, y6, m_s, m_tl, m_tr =>
    (bif gCmp .gt y6 6 then
      some (y4, y5, y6, m_s, m_tl, m_tr)
    else
      (bif gIn ((15 + (3 * y1)) + 0) 134 then (Option.bind (me_137_63 N y1 y2 (f_132_63_m_s y1 0 y6 m_s)) fun q3 =>
      lp_159_63_40 N y1 y2 n (bif gCmp .lt y5 0 then y6 else (bif gCmp .ge (v_126 q3.1) y5 then y4 else y6)) (bif gCmp .lt y5 0 then (v_126 q3.1) else (bif gCmp .ge (v_126 q3.1) y5 then y5 else (v_126 q3.1))) (y6 + 1) (f_132_63_m_s y1 0 y6 m_s) q3.2.1 q3.2.2) else none))
set_option maxRecDepth 20000 in
set_option maxHeartbeats 4000000 in
theorem lt_159_63_40 {LL : Nat} {xs : Nat → Int32} {D N : Nat} {c0 : Nat → gE}  {m_kp : Nat → Int32} {m_as : Nat → Int32} {m_ik : Int32} {m_fo : Nat → Int32}   {m_fa : Nat → Int32} {m_od : Nat → Int32} {m_rc : Int32} {m_be : Nat → Int32} {m_ft : Int32} {m_tp : Nat → Int32} {m_td : Int32} {m_tk : Int32} {m_bg : Int32} {m_en : Int32} {m_vl : Int64} {m_sg : Int32} {m_wi : Nat → Int32} {m_si : Nat → Int32} {m_ce : Nat → Int32} {m_ca : Nat → Int32} {y1 : Int32} {y2 : Int32} {y3 : Int32} {v : Option Value} {M' : List gE} : ∀ (n : Nat) (y4 : Int32) (y5 : Int32) (y6 : Int32) (m_s : Nat → Int32) (m_tl : Int32) (m_tr : Int32) (q : Int32 × Int32 × Int32 × (Nat → Int32) × Int32 × Int32), lp_159_63_40 N y1 y2 n y4 y5 y6 m_s m_tl m_tr = some q → (kk : hX (gO LL xs) (D + 4) zR_159 114 [some (.ref 63), some (.int y1), some (.int y2), some (.int y3), some (.int q.1), some (.int q.2.1), some (.int q.2.2.1), none] [] (hMm c0 q.2.2.2.1 m_kp m_as m_ik m_fo q.2.2.2.2.1 q.2.2.2.2.2 m_fa m_od m_rc m_be m_ft m_tp m_td m_tk m_bg m_en m_vl m_sg m_wi m_si m_ce m_ca) v M') → hX (gO LL xs) (D + 4) zR_159 40 [some (.ref 63), some (.int y1), some (.int y2), some (.int y3), some (.int y4), some (.int y5), some (.int y6), none] [] (hMm c0 m_s m_kp m_as m_ik m_fo m_tl m_tr m_fa m_od m_rc m_be m_ft m_tp m_td m_tk m_bg m_en m_vl m_sg m_wi m_si m_ce m_ca) v M' := by
  intro n
  induction n with
  | zero => intro y4 y5 y6 m_s m_tl m_tr q h; cases h
  | succ n ih =>
    intro y4 y5 y6 m_s m_tl m_tr q h kk
    rw [lp_159_63_40] at h
    refine hX_go 3 (bif gCmp .gt y6 6 then 114 else 47) [some (.ref 63), some (.int y1), some (.int y2), some (.int y3), some (.int y4), some (.int y5), some (.int y6), none] [] (hMm c0 m_s m_kp m_as m_ik m_fo m_tl m_tr m_fa m_od m_rc m_be m_ft m_tp m_td m_tk m_bg m_en m_vl m_sg m_wi m_si m_ce m_ca) rfl ?_
    refine hX_if (gCmp .gt y6 6) (fun c1 => ?_) (fun c1 => ?_)
    · skip
      have h := gcT c1 h
      have h := Option.some.inj h; subst h
      exact kk
    · skip
      have h := gcF c1 h
      refine hX_goM 4 (52) [some (.ref 63), some (.int y1), some (.int y2), some (.int y3), some (.int y4), some (.int y5), some (.int y6), none] [.int y6, .int 0, .int y1, .ref 63] rfl ?_
      revert h; refine gCondR fun g2 h => ?_
      refine hX_call (r' := zR_132) rfl (ct_132_63 y1 0 y6 g2) ?_
      refine hX_go 3 (58) [some (.ref 63), some (.int y1), some (.int y2), some (.int y3), some (.int y4), some (.int y5), some (.int y6), none] [.int y2, .int y1, .ref 63] (hMm c0 (f_132_63_m_s y1 0 y6 m_s) m_kp m_as m_ik m_fo m_tl m_tr m_fa m_od m_rc m_be m_ft m_tp m_td m_tk m_bg m_en m_vl m_sg m_wi m_si m_ce m_ca) rfl ?_
      revert h; refine gBindR fun q3 e3 h => ?_
      refine hX_call (r' := zR_137) rfl (mt_137_63 N y1 y2 q3 e3) ?_
      refine hX_go 0 (61) [some (.ref 63), some (.int y1), some (.int y2), some (.int y3), some (.int y4), some (.int y5), some (.int y6), none] [.int q3.1] (hMm c0 (f_132_63_m_s y1 0 y6 m_s) m_kp m_as m_ik m_fo q3.2.1 q3.2.2 m_fa m_od m_rc m_be m_ft m_tp m_td m_tk m_bg m_en m_vl m_sg m_wi m_si m_ce m_ca) rfl ?_
      refine hX_call (r' := zR_126) rfl (ct_126 q3.1) ?_
      refine hX_goM 3 (bif gCmp .lt y5 0 then 78 else 71) [some (.ref 63), some (.int y1), some (.int y2), some (.int y3), some (.int y4), some (.int y5), some (.int y6), some (.int (v_126 q3.1))] [] rfl ?_
      refine hX_mrg 85 [some (.ref 63), some (.int y1), some (.int y2), some (.int y3), some (.int y4), some (.int y5), some (.int y6), some (.int (v_126 q3.1))] [.int (bif gCmp .lt y5 0 then y6 else (bif gCmp .ge (v_126 q3.1) y5 then y4 else y6))] (hMm c0 (f_132_63_m_s y1 0 y6 m_s) m_kp m_as m_ik m_fo q3.2.1 q3.2.2 m_fa m_od m_rc m_be m_ft m_tp m_td m_tk m_bg m_en m_vl m_sg m_wi m_si m_ce m_ca) (fun hk => ?_) ?_
      · skip
        refine hX_if (gCmp .lt y5 0) (fun c6 => ?_) (fun c6 => ?_)
        · skip
          refine hX_goM 2 (85) [some (.ref 63), some (.int y1), some (.int y2), some (.int y3), some (.int y4), some (.int y5), some (.int y6), some (.int (v_126 q3.1))] [.int y6] rfl ?_
          have hk := hk
          simp only [c6, cond_true, cond_false] at hk
          first | exact hk | (simp only [c6, cond_true, cond_false]; exact hk)
        · skip
          refine hX_goM 3 (bif gCmp .ge (v_126 q3.1) y5 then 83 else 78) [some (.ref 63), some (.int y1), some (.int y2), some (.int y3), some (.int y4), some (.int y5), some (.int y6), some (.int (v_126 q3.1))] [] rfl ?_
          refine hX_if (gCmp .ge (v_126 q3.1) y5) (fun c7 => ?_) (fun c7 => ?_)
          · skip
            refine hX_goM 1 (85) [some (.ref 63), some (.int y1), some (.int y2), some (.int y3), some (.int y4), some (.int y5), some (.int y6), some (.int (v_126 q3.1))] [.int y4] rfl ?_
            have hk := hk
            simp only [c6, c7, cond_true, cond_false] at hk
            first | exact hk | (simp only [c6, c7, cond_true, cond_false]; exact hk)
          · skip
            refine hX_goM 2 (85) [some (.ref 63), some (.int y1), some (.int y2), some (.int y3), some (.int y4), some (.int y5), some (.int y6), some (.int (v_126 q3.1))] [.int y6] rfl ?_
            have hk := hk
            simp only [c6, c7, cond_true, cond_false] at hk
            first | exact hk | (simp only [c6, c7, cond_true, cond_false]; exact hk)
      refine hX_goM 3 (bif gCmp .lt y5 0 then 99 else 92) [some (.ref 63), some (.int y1), some (.int y2), some (.int y3), some (.int (bif gCmp .lt y5 0 then y6 else (bif gCmp .ge (v_126 q3.1) y5 then y4 else y6))), some (.int y5), some (.int y6), some (.int (v_126 q3.1))] [] rfl ?_
      refine hX_mrg 106 [some (.ref 63), some (.int y1), some (.int y2), some (.int y3), some (.int (bif gCmp .lt y5 0 then y6 else (bif gCmp .ge (v_126 q3.1) y5 then y4 else y6))), some (.int y5), some (.int y6), some (.int (v_126 q3.1))] [.int (bif gCmp .lt y5 0 then (v_126 q3.1) else (bif gCmp .ge (v_126 q3.1) y5 then y5 else (v_126 q3.1)))] (hMm c0 (f_132_63_m_s y1 0 y6 m_s) m_kp m_as m_ik m_fo q3.2.1 q3.2.2 m_fa m_od m_rc m_be m_ft m_tp m_td m_tk m_bg m_en m_vl m_sg m_wi m_si m_ce m_ca) (fun hk => ?_) ?_
      · skip
        refine hX_if (gCmp .lt y5 0) (fun c10 => ?_) (fun c10 => ?_)
        · skip
          refine hX_goM 2 (106) [some (.ref 63), some (.int y1), some (.int y2), some (.int y3), some (.int (bif gCmp .lt y5 0 then y6 else (bif gCmp .ge (v_126 q3.1) y5 then y4 else y6))), some (.int y5), some (.int y6), some (.int (v_126 q3.1))] [.int (v_126 q3.1)] rfl ?_
          have hk := hk
          simp only [c10, cond_true, cond_false] at hk
          first | exact hk | (simp only [c10, cond_true, cond_false]; exact hk)
        · skip
          refine hX_goM 3 (bif gCmp .ge (v_126 q3.1) y5 then 104 else 99) [some (.ref 63), some (.int y1), some (.int y2), some (.int y3), some (.int (bif gCmp .lt y5 0 then y6 else (bif gCmp .ge (v_126 q3.1) y5 then y4 else y6))), some (.int y5), some (.int y6), some (.int (v_126 q3.1))] [] rfl ?_
          refine hX_if (gCmp .ge (v_126 q3.1) y5) (fun c11 => ?_) (fun c11 => ?_)
          · skip
            refine hX_goM 1 (106) [some (.ref 63), some (.int y1), some (.int y2), some (.int y3), some (.int (bif gCmp .lt y5 0 then y6 else (bif gCmp .ge (v_126 q3.1) y5 then y4 else y6))), some (.int y5), some (.int y6), some (.int (v_126 q3.1))] [.int y5] rfl ?_
            have hk := hk
            simp only [c10, c11, cond_true, cond_false] at hk
            first | exact hk | (simp only [c10, c11, cond_true, cond_false]; exact hk)
          · skip
            refine hX_goM 2 (106) [some (.ref 63), some (.int y1), some (.int y2), some (.int y3), some (.int (bif gCmp .lt y5 0 then y6 else (bif gCmp .ge (v_126 q3.1) y5 then y4 else y6))), some (.int y5), some (.int y6), some (.int (v_126 q3.1))] [.int (v_126 q3.1)] rfl ?_
            have hk := hk
            simp only [c10, c11, cond_true, cond_false] at hk
            first | exact hk | (simp only [c10, c11, cond_true, cond_false]; exact hk)
      refine hX_goM 3 (40) [some (.ref 63), some (.int y1), some (.int y2), some (.int y3), some (.int (bif gCmp .lt y5 0 then y6 else (bif gCmp .ge (v_126 q3.1) y5 then y4 else y6))), some (.int (bif gCmp .lt y5 0 then (v_126 q3.1) else (bif gCmp .ge (v_126 q3.1) y5 then y5 else (v_126 q3.1)))), some (.int (y6 + 1)), some (.int (v_126 q3.1))] [] rfl ?_
      exact hX_wk (gLe_s (gLe_s (gLe_s (gLe_s (gLe_s (gLe_s (gLe_s (gLe_n gLe_0)))))))) (ih (bif gCmp .lt y5 0 then y6 else (bif gCmp .ge (v_126 q3.1) y5 then y4 else y6)) (bif gCmp .lt y5 0 then (v_126 q3.1) else (bif gCmp .ge (v_126 q3.1) y5 then y5 else (v_126 q3.1))) (y6 + 1) (f_132_63_m_s y1 0 y6 m_s) q3.2.1 q3.2.2 q h kk)

/-- UpOneSideModel.kindFor(II)I -/
def me_159_63 (N : Nat) (x0 : Int32) (x1 : Int32) (m_s : Nat → Int32) (m_fo : Nat → Int32) (m_tl : Int32) (m_tr : Int32) : Option (Int32 × (Nat → Int32) × (Nat → Int32) × Int32 × Int32) :=
  (bif gCmp .eq (v_129_63 x0 m_s) 0 then
    some (v_124_63 0, m_s, f_124_63_m_fo 0 m_fo, m_tl, m_tr)
  else
    (bif gCmp .ne (v_125 x1 0 20) 0 then
      (bif gIn ((15 + (3 * x0)) + 0) 134 then (Option.bind (lp_159_63_40 N x0 x1 N 0 (-1) 0 m_s m_tl m_tr) fun q4 =>
      (bif gIn ((15 + (3 * x0)) + 0) 134 then some (q4.1, f_132_63_m_s x0 0 (v_131_63 x0 0 m_s) q4.2.2.2.1, m_fo, q4.2.2.2.2.1, q4.2.2.2.2.2) else none)) else none)
    else
      some (v_124_63 0, m_s, f_124_63_m_fo 0 m_fo, m_tl, m_tr)))
set_option maxRecDepth 20000 in
set_option maxHeartbeats 4000000 in
theorem mt_159_63 {LL : Nat} {xs : Nat → Int32} {D : Nat} {c0 : Nat → gE} {m_s : Nat → Int32} {m_kp : Nat → Int32} {m_as : Nat → Int32} {m_ik : Int32} {m_fo : Nat → Int32} {m_tl : Int32} {m_tr : Int32} {m_fa : Nat → Int32} {m_od : Nat → Int32} {m_rc : Int32} {m_be : Nat → Int32} {m_ft : Int32} {m_tp : Nat → Int32} {m_td : Int32} {m_tk : Int32} {m_bg : Int32} {m_en : Int32} {m_vl : Int64} {m_sg : Int32} {m_wi : Nat → Int32} {m_si : Nat → Int32} {m_ce : Nat → Int32} {m_ca : Nat → Int32} (N : Nat) (x0 : Int32) (x1 : Int32) (q : Int32 × (Nat → Int32) × (Nat → Int32) × Int32 × Int32) (h : me_159_63 N x0 x1 m_s m_fo m_tl m_tr = some q) : hM (gO LL xs) (D + 4) zR_159 [.ref 63, .int x0, .int x1] (hMm c0 m_s m_kp m_as m_ik m_fo m_tl m_tr m_fa m_od m_rc m_be m_ft m_tp m_td m_tk m_bg m_en m_vl m_sg m_wi m_si m_ce m_ca) (some (.int q.1)) (hMm c0 q.2.1 m_kp m_as m_ik q.2.2.1 q.2.2.2.1 q.2.2.2.2 m_fa m_od m_rc m_be m_ft m_tp m_td m_tk m_bg m_en m_vl m_sg m_wi m_si m_ce m_ca) := by
  unfold me_159_63 at h
  refine hX_go 0 0 [some (.ref 63), some (.int x0), some (.int x1), none, none, none, none, none] [] (hMm c0 m_s m_kp m_as m_ik m_fo m_tl m_tr m_fa m_od m_rc m_be m_ft m_tp m_td m_tk m_bg m_en m_vl m_sg m_wi m_si m_ce m_ca) rfl ?_
  refine hX_go 2 (2) [some (.ref 63), some (.int x0), some (.int x1), none, none, none, none, none] [.int x0, .ref 63] (hMm c0 m_s m_kp m_as m_ik m_fo m_tl m_tr m_fa m_od m_rc m_be m_ft m_tp m_td m_tk m_bg m_en m_vl m_sg m_wi m_si m_ce m_ca) rfl ?_
  refine hX_call (r' := zR_129) rfl (ct_129_63 x0) ?_
  refine hX_goM 1 (bif gCmp .eq (v_129_63 x0 m_s) 0 then 18 else 8) [some (.ref 63), some (.int x0), some (.int x1), none, none, none, none, none] [] rfl ?_
  refine hX_if (gCmp .eq (v_129_63 x0 m_s) 0) (fun c1 => ?_) (fun c1 => ?_)
  · skip
    have h := gcT c1 h
    refine hX_goM 2 (20) [some (.ref 63), some (.int x0), some (.int x1), none, none, none, none, none] [.int 0, .ref 63] rfl ?_
    refine hX_call (r' := zR_124) rfl (ct_124_63 0 rfl) ?_
    refine hX_go 0 (23) [some (.ref 63), some (.int x0), some (.int x1), none, none, none, none, none] [.int (v_124_63 0)] (hMm c0 m_s m_kp m_as m_ik (f_124_63_m_fo 0 m_fo) m_tl m_tr m_fa m_od m_rc m_be m_ft m_tp m_td m_tk m_bg m_en m_vl m_sg m_wi m_si m_ce m_ca) rfl ?_
    have h := Option.some.inj h; subst h
    exact hX_end rfl rfl rfl
  · skip
    have h := gcF c1 h
    refine hX_goM 3 (12) [some (.ref 63), some (.int x0), some (.int x1), none, none, none, none, none] [.int 20, .int 0, .int x1] rfl ?_
    refine hX_call (r' := zR_125) rfl (ct_125 x1 0 20) ?_
    refine hX_goM 1 (bif gCmp .ne (v_125 x1 0 20) 0 then 24 else 18) [some (.ref 63), some (.int x0), some (.int x1), none, none, none, none, none] [] rfl ?_
    refine hX_if (gCmp .ne (v_125 x1 0 20) 0) (fun c2 => ?_) (fun c2 => ?_)
    · skip
      have h := gcT c2 h
      refine hX_goM 3 (27) [some (.ref 63), some (.int x0), some (.int x1), none, none, none, none, none] [.int 0, .int x0, .ref 63] rfl ?_
      revert h; refine gCondR fun g3 h => ?_
      refine hX_call (r' := zR_131) rfl (ct_131_63 x0 0 g3) ?_
      refine hX_goM 7 (40) [some (.ref 63), some (.int x0), some (.int x1), some (.int (v_131_63 x0 0 m_s)), some (.int 0), some (.int (-1)), some (.int 0), none] [] rfl ?_
      revert h; refine gBindR fun q4 e4 h => ?_
      refine lt_159_63_40 N 0 (-1) 0 m_s m_tl m_tr q4 e4 ?_
      refine hX_go 4 (118) [some (.ref 63), some (.int x0), some (.int x1), some (.int (v_131_63 x0 0 m_s)), some (.int q4.1), some (.int q4.2.1), some (.int q4.2.2.1), none] [.int (v_131_63 x0 0 m_s), .int 0, .int x0, .ref 63] (hMm c0 q4.2.2.2.1 m_kp m_as m_ik m_fo q4.2.2.2.2.1 q4.2.2.2.2.2 m_fa m_od m_rc m_be m_ft m_tp m_td m_tk m_bg m_en m_vl m_sg m_wi m_si m_ce m_ca) rfl ?_
      revert h; refine gCondR fun g5 h => ?_
      refine hX_call (r' := zR_132) rfl (ct_132_63 x0 0 (v_131_63 x0 0 m_s) g5) ?_
      refine hX_go 1 (123) [some (.ref 63), some (.int x0), some (.int x1), some (.int (v_131_63 x0 0 m_s)), some (.int q4.1), some (.int q4.2.1), some (.int q4.2.2.1), none] [.int q4.1] (hMm c0 (f_132_63_m_s x0 0 (v_131_63 x0 0 m_s) q4.2.2.2.1) m_kp m_as m_ik m_fo q4.2.2.2.2.1 q4.2.2.2.2.2 m_fa m_od m_rc m_be m_ft m_tp m_td m_tk m_bg m_en m_vl m_sg m_wi m_si m_ce m_ca) rfl ?_
      have h := Option.some.inj h; subst h
      exact hX_end rfl rfl rfl
    · skip
      have h := gcF c2 h
      refine hX_goM 2 (20) [some (.ref 63), some (.int x0), some (.int x1), none, none, none, none, none] [.int 0, .ref 63] rfl ?_
      refine hX_call (r' := zR_124) rfl (ct_124_63 0 rfl) ?_
      refine hX_go 0 (23) [some (.ref 63), some (.int x0), some (.int x1), none, none, none, none, none] [.int (v_124_63 0)] (hMm c0 m_s m_kp m_as m_ik (f_124_63_m_fo 0 m_fo) m_tl m_tr m_fa m_od m_rc m_be m_ft m_tp m_td m_tk m_bg m_en m_vl m_sg m_wi m_si m_ce m_ca) rfl ?_
      have h := Option.some.inj h; subst h
      exact hX_end rfl rfl rfl

/-- UpOneSideModel.reaches(III)V -/
def f_160_63_m_fa (x0 : Int32) (x1 : Int32) (x2 : Int32) (m_fa : Nat → Int32) : Nat → Int32 := bif gCmp .ge (m_fa (Int32.toNatClampNeg ((61 * x0) + x1))) 0 then m_fa else (upd m_fa (Int32.toNatClampNeg ((61 * x0) + x1)) x2)
def f_160_63_m_od (x0 : Int32) (x1 : Int32) (m_fa : Nat → Int32) (m_od : Nat → Int32) (m_rc : Int32) : Nat → Int32 := bif gCmp .ge (m_fa (Int32.toNatClampNeg ((61 * x0) + x1))) 0 then m_od else (upd m_od (Int32.toNatClampNeg m_rc) ((61 * x0) + x1))
def f_160_63_m_rc (x0 : Int32) (x1 : Int32) (m_fa : Nat → Int32) (m_rc : Int32) : Int32 := bif gCmp .ge (m_fa (Int32.toNatClampNeg ((61 * x0) + x1))) 0 then m_rc else (m_rc + 1)
set_option maxRecDepth 20000 in
set_option maxHeartbeats 1000000 in
theorem ct_160_63 {LL : Nat} {xs : Nat → Int32} {D : Nat} {c0 : Nat → gE} {m_s : Nat → Int32} {m_kp : Nat → Int32} {m_as : Nat → Int32} {m_ik : Int32} {m_fo : Nat → Int32} {m_tl : Int32} {m_tr : Int32} {m_fa : Nat → Int32} {m_od : Nat → Int32} {m_rc : Int32} {m_be : Nat → Int32} {m_ft : Int32} {m_tp : Nat → Int32} {m_td : Int32} {m_tk : Int32} {m_bg : Int32} {m_en : Int32} {m_vl : Int64} {m_sg : Int32} {m_wi : Nat → Int32} {m_si : Nat → Int32} {m_ce : Nat → Int32} {m_ca : Nat → Int32} (x0 : Int32) (x1 : Int32) (x2 : Int32) (o1 : gIn ((61 * x0) + x1) 3721 = true) (o2 : gCmp .ge (m_fa (Int32.toNatClampNeg ((61 * x0) + x1))) 0 = false → gIn m_rc 3721 = true) : hM (gO LL xs) (D + 0) zR_160 [.ref 63, .int x0, .int x1, .int x2] (hMm c0 m_s m_kp m_as m_ik m_fo m_tl m_tr m_fa m_od m_rc m_be m_ft m_tp m_td m_tk m_bg m_en m_vl m_sg m_wi m_si m_ce m_ca) none (hMm c0 m_s m_kp m_as m_ik m_fo m_tl m_tr (f_160_63_m_fa x0 x1 x2 m_fa) (f_160_63_m_od x0 x1 m_fa m_od m_rc) (f_160_63_m_rc x0 x1 m_fa m_rc) m_be m_ft m_tp m_td m_tk m_bg m_en m_vl m_sg m_wi m_si m_ce m_ca) := by
  refine hX_go 0 0 [some (.ref 63), some (.int x0), some (.int x1), some (.int x2), none] [] (hMm c0 m_s m_kp m_as m_ik m_fo m_tl m_tr m_fa m_od m_rc m_be m_ft m_tp m_td m_tk m_bg m_en m_vl m_sg m_wi m_si m_ce m_ca) rfl ?_
  refine hX_go 9 (14) [some (.ref 63), some (.int x0), some (.int x1), some (.int x2), some (.int ((61 * x0) + x1))] [.int ((61 * x0) + x1), .ref 68] (hMm c0 m_s m_kp m_as m_ik m_fo m_tl m_tr m_fa m_od m_rc m_be m_ft m_tp m_td m_tk m_bg m_en m_vl m_sg m_wi m_si m_ce m_ca) rfl ?_
  refine hX_gM (gIn ((61 * x0) + x1) 3721) 15 [some (.ref 63), some (.int x0), some (.int x1), some (.int x2), some (.int ((61 * x0) + x1))] [.int (m_fa (Int32.toNatClampNeg ((61 * x0) + x1)))] rfl o1 ?_
  refine hX_goM 1 (bif gCmp .ge (m_fa (Int32.toNatClampNeg ((61 * x0) + x1))) 0 then 47 else 18) [some (.ref 63), some (.int x0), some (.int x1), some (.int x2), some (.int ((61 * x0) + x1))] [] rfl ?_
  suffices hk : hX (gO LL xs) (D + 0) zR_160 47 [some (.ref 63), some (.int x0), some (.int x1), some (.int x2), some (.int ((61 * x0) + x1))] [] (hMm c0 m_s m_kp m_as m_ik m_fo m_tl m_tr (bif gCmp .ge (m_fa (Int32.toNatClampNeg ((61 * x0) + x1))) 0 then m_fa else (upd m_fa (Int32.toNatClampNeg ((61 * x0) + x1)) x2)) (bif gCmp .ge (m_fa (Int32.toNatClampNeg ((61 * x0) + x1))) 0 then m_od else (upd m_od (Int32.toNatClampNeg m_rc) ((61 * x0) + x1))) (bif gCmp .ge (m_fa (Int32.toNatClampNeg ((61 * x0) + x1))) 0 then m_rc else (m_rc + 1)) m_be m_ft m_tp m_td m_tk m_bg m_en m_vl m_sg m_wi m_si m_ce m_ca) none (hMm c0 m_s m_kp m_as m_ik m_fo m_tl m_tr (f_160_63_m_fa x0 x1 x2 m_fa) (f_160_63_m_od x0 x1 m_fa m_od m_rc) (f_160_63_m_rc x0 x1 m_fa m_rc) m_be m_ft m_tp m_td m_tk m_bg m_en m_vl m_sg m_wi m_si m_ce m_ca) by
    refine hX_if (gCmp .ge (m_fa (Int32.toNatClampNeg ((61 * x0) + x1))) 0) (fun c1 => ?_) (fun c1 => ?_)
    · skip
      have hk := hk
      simp only [c1, cond_true, cond_false] at hk
      first | exact hk | (simp only [c1, cond_true, cond_false]; exact hk)
    · skip
      refine hX_goM 4 (25) [some (.ref 63), some (.int x0), some (.int x1), some (.int x2), some (.int ((61 * x0) + x1))] [.int x2, .int ((61 * x0) + x1), .ref 68] rfl ?_
      refine hX_g (gIn ((61 * x0) + x1) 3721) 26 [some (.ref 63), some (.int x0), some (.int x1), some (.int x2), some (.int ((61 * x0) + x1))] [] (hMm c0 m_s m_kp m_as m_ik m_fo m_tl m_tr (upd m_fa (Int32.toNatClampNeg ((61 * x0) + x1)) x2) m_od m_rc m_be m_ft m_tp m_td m_tk m_bg m_en m_vl m_sg m_wi m_si m_ce m_ca) rfl o1 ?_
      refine hX_goM 5 (36) [some (.ref 63), some (.int x0), some (.int x1), some (.int x2), some (.int ((61 * x0) + x1))] [.int ((61 * x0) + x1), .int m_rc, .ref 69] rfl ?_
      refine hX_g (gIn m_rc 3721) 37 [some (.ref 63), some (.int x0), some (.int x1), some (.int x2), some (.int ((61 * x0) + x1))] [] (hMm c0 m_s m_kp m_as m_ik m_fo m_tl m_tr (upd m_fa (Int32.toNatClampNeg ((61 * x0) + x1)) x2) (upd m_od (Int32.toNatClampNeg m_rc) ((61 * x0) + x1)) m_rc m_be m_ft m_tp m_td m_tk m_bg m_en m_vl m_sg m_wi m_si m_ce m_ca) rfl (o2 c1) ?_
      refine hX_go 6 (47) [some (.ref 63), some (.int x0), some (.int x1), some (.int x2), some (.int ((61 * x0) + x1))] [] (hMm c0 m_s m_kp m_as m_ik m_fo m_tl m_tr (upd m_fa (Int32.toNatClampNeg ((61 * x0) + x1)) x2) (upd m_od (Int32.toNatClampNeg m_rc) ((61 * x0) + x1)) (m_rc + 1) m_be m_ft m_tp m_td m_tk m_bg m_en m_vl m_sg m_wi m_si m_ce m_ca) rfl ?_
      have hk := hk
      simp only [c1, cond_true, cond_false] at hk
      first | exact hk | (simp only [c1, cond_true, cond_false]; exact hk)
  exact hX_end rfl (rfl) (rfl)

/-- UpOneSideModel.spreads: the loop at 3 -/
def lp_161_63_3 (N : Nat) : Nat → Int32 → (Nat → Int32) → Option (Int32 × (Nat → Int32))
  | 0, _, _ => none
  | n + 1, y4, m_fa =>
    (bif gCmp .ge y4 3721 then
      some (y4, m_fa)
    else
      (bif gIn y4 3721 then lp_161_63_3 N n (y4 + 1) (upd m_fa (Int32.toNatClampNeg y4) (-1)) else none))
set_option maxRecDepth 20000 in
set_option maxHeartbeats 4000000 in
theorem lt_161_63_3 {LL : Nat} {xs : Nat → Int32} {D N : Nat} {c0 : Nat → gE} {m_s : Nat → Int32} {m_kp : Nat → Int32} {m_as : Nat → Int32} {m_ik : Int32} {m_fo : Nat → Int32} {m_tl : Int32} {m_tr : Int32}  {m_od : Nat → Int32} {m_rc : Int32} {m_be : Nat → Int32} {m_ft : Int32} {m_tp : Nat → Int32} {m_td : Int32} {m_tk : Int32} {m_bg : Int32} {m_en : Int32} {m_vl : Int64} {m_sg : Int32} {m_wi : Nat → Int32} {m_si : Nat → Int32} {m_ce : Nat → Int32} {m_ca : Nat → Int32} {y1 : Int32} {y2 : Int32} {y3 : Int32} {v : Option Value} {M' : List gE} : ∀ (n : Nat) (y4 : Int32) (m_fa : Nat → Int32) (q : Int32 × (Nat → Int32)), lp_161_63_3 N n y4 m_fa = some q → (kk : hX (gO LL xs) (D + 3) zR_161 27 [some (.ref 63), some (.int y1), some (.int y2), some (.int y3), some (.int q.1), none, none, none, none, none] [] (hMm c0 m_s m_kp m_as m_ik m_fo m_tl m_tr q.2 m_od m_rc m_be m_ft m_tp m_td m_tk m_bg m_en m_vl m_sg m_wi m_si m_ce m_ca) v M') → hX (gO LL xs) (D + 3) zR_161 3 [some (.ref 63), some (.int y1), some (.int y2), some (.int y3), some (.int y4), none, none, none, none, none] [] (hMm c0 m_s m_kp m_as m_ik m_fo m_tl m_tr m_fa m_od m_rc m_be m_ft m_tp m_td m_tk m_bg m_en m_vl m_sg m_wi m_si m_ce m_ca) v M' := by
  intro n
  induction n with
  | zero => intro y4 m_fa q h; cases h
  | succ n ih =>
    intro y4 m_fa q h kk
    rw [lp_161_63_3] at h
    refine hX_go 5 (bif gCmp .ge y4 3721 then 27 else 13) [some (.ref 63), some (.int y1), some (.int y2), some (.int y3), some (.int y4), none, none, none, none, none] [] (hMm c0 m_s m_kp m_as m_ik m_fo m_tl m_tr m_fa m_od m_rc m_be m_ft m_tp m_td m_tk m_bg m_en m_vl m_sg m_wi m_si m_ce m_ca) rfl ?_
    refine hX_if (gCmp .ge y4 3721) (fun c1 => ?_) (fun c1 => ?_)
    · skip
      have h := gcT c1 h
      have h := Option.some.inj h; subst h
      exact kk
    · skip
      have h := gcF c1 h
      refine hX_goM 4 (20) [some (.ref 63), some (.int y1), some (.int y2), some (.int y3), some (.int y4), none, none, none, none, none] [.int (-1), .int y4, .ref 68] rfl ?_
      revert h; refine gCondR fun g2 h => ?_
      refine hX_g (gIn y4 3721) 21 [some (.ref 63), some (.int y1), some (.int y2), some (.int y3), some (.int y4), none, none, none, none, none] [] (hMm c0 m_s m_kp m_as m_ik m_fo m_tl m_tr (upd m_fa (Int32.toNatClampNeg y4) (-1)) m_od m_rc m_be m_ft m_tp m_td m_tk m_bg m_en m_vl m_sg m_wi m_si m_ce m_ca) rfl g2 ?_
      refine hX_goM 2 (3) [some (.ref 63), some (.int y1), some (.int y2), some (.int y3), some (.int (y4 + 1)), none, none, none, none, none] [] rfl ?_
      exact ih (y4 + 1) (upd m_fa (Int32.toNatClampNeg y4) (-1)) q h kk

/-- UpOneSideModel.spreads: the loop at 112 -/
def lp_161_63_112 (N : Nat) (y6 : Int32) (y7 : Int32) (y8 : Int32) (m_s : Nat → Int32) : Nat → Int32 → Int32 → Int32 → (Nat → Int32) → (Nat → Int32) → Int32 → Option (Int32 × Int32 × Int32 × (Nat → Int32) × (Nat → Int32) × Int32)
  | 0, _, _, _, _, _, _ => none
  | n + 1, y9, m_tl, m_tr, m_fa, m_od, m_rc =>
    (bif gCmp .ge y9 (m_s 3) then
      some (y9, m_tl, m_tr, m_fa, m_od, m_rc)
    else
      (bif gIn ((15 + (3 * y9)) + 0) 134 then (bif gIn ((15 + (3 * y9)) + 1) 134 then (bif gIn ((15 + (3 * y9)) + 2) 134 then (bif gIn y6 3721 then (bif gIn ((61 * (f_136_63_m_tl y9 m_s y7 y8)) + (f_136_63_m_tr y9 m_s y7 y8)) 3721 then (bif ((gCmp .ge (m_fa (Int32.toNatClampNeg ((61 * (f_136_63_m_tl y9 m_s y7 y8)) + (f_136_63_m_tr y9 m_s y7 y8)))) 0) || (gIn m_rc 3721)) then lp_161_63_112 N y6 y7 y8 m_s n (y9 + 1) (f_136_63_m_tl y9 m_s y7 y8) (f_136_63_m_tr y9 m_s y7 y8) (f_160_63_m_fa (f_136_63_m_tl y9 m_s y7 y8) (f_136_63_m_tr y9 m_s y7 y8) ((m_fa (Int32.toNatClampNeg y6)) + 1) m_fa) (f_160_63_m_od (f_136_63_m_tl y9 m_s y7 y8) (f_136_63_m_tr y9 m_s y7 y8) m_fa m_od m_rc) (f_160_63_m_rc (f_136_63_m_tl y9 m_s y7 y8) (f_136_63_m_tr y9 m_s y7 y8) m_fa m_rc) else none) else none) else none) else none) else none) else none))
set_option maxRecDepth 20000 in
set_option maxHeartbeats 4000000 in
theorem lt_161_63_112 {LL : Nat} {xs : Nat → Int32} {D N : Nat} {c0 : Nat → gE} {m_s : Nat → Int32} {m_kp : Nat → Int32} {m_as : Nat → Int32} {m_ik : Int32} {m_fo : Nat → Int32}      {m_be : Nat → Int32} {m_ft : Int32} {m_tp : Nat → Int32} {m_td : Int32} {m_tk : Int32} {m_bg : Int32} {m_en : Int32} {m_vl : Int64} {m_sg : Int32} {m_wi : Nat → Int32} {m_si : Nat → Int32} {m_ce : Nat → Int32} {m_ca : Nat → Int32} {y1 : Int32} {y2 : Int32} {y3 : Int32} {y4 : Int32} {y5 : Int32} {y6 : Int32} {y7 : Int32} {y8 : Int32} {v : Option Value} {M' : List gE} : ∀ (n : Nat) (y9 : Int32) (m_tl : Int32) (m_tr : Int32) (m_fa : Nat → Int32) (m_od : Nat → Int32) (m_rc : Int32) (q : Int32 × Int32 × Int32 × (Nat → Int32) × (Nat → Int32) × Int32), lp_161_63_112 N y6 y7 y8 m_s n y9 m_tl m_tr m_fa m_od m_rc = some q → (kk : hX (gO LL xs) (D + 3) zR_161 168 [some (.ref 63), some (.int y1), some (.int y2), some (.int y3), some (.int y4), some (.int y5), some (.int y6), some (.int y7), some (.int y8), some (.int q.1)] [] (hMm c0 m_s m_kp m_as m_ik m_fo q.2.1 q.2.2.1 q.2.2.2.1 q.2.2.2.2.1 q.2.2.2.2.2 m_be m_ft m_tp m_td m_tk m_bg m_en m_vl m_sg m_wi m_si m_ce m_ca) v M') → hX (gO LL xs) (D + 3) zR_161 112 [some (.ref 63), some (.int y1), some (.int y2), some (.int y3), some (.int y4), some (.int y5), some (.int y6), some (.int y7), some (.int y8), some (.int y9)] [] (hMm c0 m_s m_kp m_as m_ik m_fo m_tl m_tr m_fa m_od m_rc m_be m_ft m_tp m_td m_tk m_bg m_en m_vl m_sg m_wi m_si m_ce m_ca) v M' := by
  intro n
  induction n with
  | zero => intro y9 m_tl m_tr m_fa m_od m_rc q h; cases h
  | succ n ih =>
    intro y9 m_tl m_tr m_fa m_od m_rc q h kk
    rw [lp_161_63_112] at h
    refine hX_go 6 (bif gCmp .ge y9 (m_s 3) then 168 else 123) [some (.ref 63), some (.int y1), some (.int y2), some (.int y3), some (.int y4), some (.int y5), some (.int y6), some (.int y7), some (.int y8), some (.int y9)] [] (hMm c0 m_s m_kp m_as m_ik m_fo m_tl m_tr m_fa m_od m_rc m_be m_ft m_tp m_td m_tk m_bg m_en m_vl m_sg m_wi m_si m_ce m_ca) rfl ?_
    refine hX_if (gCmp .ge y9 (m_s 3)) (fun c1 => ?_) (fun c1 => ?_)
    · skip
      have h := gcT c1 h
      have h := Option.some.inj h; subst h
      exact kk
    · skip
      have h := gcF c1 h
      refine hX_go 8 (138) [some (.ref 63), some (.int y1), some (.int y2), some (.int y3), some (.int y4), some (.int y5), some (.int y6), some (.int y7), some (.int y8), some (.int y9)] [.int y9, .ref 63] (hMm c0 m_s m_kp m_as m_ik m_fo y7 y8 m_fa m_od m_rc m_be m_ft m_tp m_td m_tk m_bg m_en m_vl m_sg m_wi m_si m_ce m_ca) rfl ?_
      revert h; refine gCondR fun g2 h => ?_
      revert h; refine gCondR fun g3 h => ?_
      revert h; refine gCondR fun g4 h => ?_
      refine hX_call (r' := zR_136) rfl (ct_136_63 y9 g2 g3 g4) ?_
      refine hX_go 8 (156) [some (.ref 63), some (.int y1), some (.int y2), some (.int y3), some (.int y4), some (.int y5), some (.int y6), some (.int y7), some (.int y8), some (.int y9)] [.int y6, .ref 68, .int (f_136_63_m_tr y9 m_s y7 y8), .int (f_136_63_m_tl y9 m_s y7 y8), .ref 63] (hMm c0 m_s m_kp m_as m_ik m_fo (f_136_63_m_tl y9 m_s y7 y8) (f_136_63_m_tr y9 m_s y7 y8) m_fa m_od m_rc m_be m_ft m_tp m_td m_tk m_bg m_en m_vl m_sg m_wi m_si m_ce m_ca) rfl ?_
      revert h; refine gCondR fun g5 h => ?_
      refine hX_gM (gIn y6 3721) 157 [some (.ref 63), some (.int y1), some (.int y2), some (.int y3), some (.int y4), some (.int y5), some (.int y6), some (.int y7), some (.int y8), some (.int y9)] [.int (m_fa (Int32.toNatClampNeg y6)), .int (f_136_63_m_tr y9 m_s y7 y8), .int (f_136_63_m_tl y9 m_s y7 y8), .ref 63] rfl g5 ?_
      refine hX_goM 2 (159) [some (.ref 63), some (.int y1), some (.int y2), some (.int y3), some (.int y4), some (.int y5), some (.int y6), some (.int y7), some (.int y8), some (.int y9)] [.int ((m_fa (Int32.toNatClampNeg y6)) + 1), .int (f_136_63_m_tr y9 m_s y7 y8), .int (f_136_63_m_tl y9 m_s y7 y8), .ref 63] rfl ?_
      revert h; refine gCondR fun g6 h => ?_
      revert h; refine gCondR fun g7 h => ?_
      refine hX_call (r' := zR_160) rfl (ct_160_63 (f_136_63_m_tl y9 m_s y7 y8) (f_136_63_m_tr y9 m_s y7 y8) ((m_fa (Int32.toNatClampNeg y6)) + 1) g6 (fun u0 => (gImpF g7 u0))) ?_
      refine hX_go 2 (112) [some (.ref 63), some (.int y1), some (.int y2), some (.int y3), some (.int y4), some (.int y5), some (.int y6), some (.int y7), some (.int y8), some (.int (y9 + 1))] [] (hMm c0 m_s m_kp m_as m_ik m_fo (f_136_63_m_tl y9 m_s y7 y8) (f_136_63_m_tr y9 m_s y7 y8) (f_160_63_m_fa (f_136_63_m_tl y9 m_s y7 y8) (f_136_63_m_tr y9 m_s y7 y8) ((m_fa (Int32.toNatClampNeg y6)) + 1) m_fa) (f_160_63_m_od (f_136_63_m_tl y9 m_s y7 y8) (f_136_63_m_tr y9 m_s y7 y8) m_fa m_od m_rc) (f_160_63_m_rc (f_136_63_m_tl y9 m_s y7 y8) (f_136_63_m_tr y9 m_s y7 y8) m_fa m_rc) m_be m_ft m_tp m_td m_tk m_bg m_en m_vl m_sg m_wi m_si m_ce m_ca) rfl ?_
      exact ih (y9 + 1) (f_136_63_m_tl y9 m_s y7 y8) (f_136_63_m_tr y9 m_s y7 y8) (f_160_63_m_fa (f_136_63_m_tl y9 m_s y7 y8) (f_136_63_m_tr y9 m_s y7 y8) ((m_fa (Int32.toNatClampNeg y6)) + 1) m_fa) (f_160_63_m_od (f_136_63_m_tl y9 m_s y7 y8) (f_136_63_m_tr y9 m_s y7 y8) m_fa m_od m_rc) (f_160_63_m_rc (f_136_63_m_tl y9 m_s y7 y8) (f_136_63_m_tr y9 m_s y7 y8) m_fa m_rc) q h kk

/-- UpOneSideModel.spreads: the loop at 45 -/
def lp_161_63_45 (N : Nat) (y3 : Int32) (m_s : Nat → Int32) : Nat → Int32 → Int32 → Int32 → Int32 → (Nat → Int32) → (Nat → Int32) → Int32 → Option (Int32 × Int32 × Int32 × Int32 × (Nat → Int32) × (Nat → Int32) × Int32)
  | 0, _, _, _, _, _, _, _ => none
  | n + 1, y4, y5, m_tl, m_tr, m_fa, m_od, m_rc =>
    (bif gCmp .ge y5 m_rc then
      some (y4, y5, m_tl, m_tr, m_fa, m_od, m_rc)
    else
      (bif gIn y5 3721 then (bif (gCmp .ge y4 0) || ((gCmp .ne ((m_od (Int32.toNatClampNeg y5)) / 61) ((m_od (Int32.toNatClampNeg y5)) - (m_od (Int32.toNatClampNeg y5)) / 61 * 61)) || ((gCmp .lt ((m_od (Int32.toNatClampNeg y5)) / 61) y3) || (gIn (m_od (Int32.toNatClampNeg y5)) 3721))) then (Option.bind (lp_161_63_112 N (m_od (Int32.toNatClampNeg y5)) ((m_od (Int32.toNatClampNeg y5)) / 61) ((m_od (Int32.toNatClampNeg y5)) - (m_od (Int32.toNatClampNeg y5)) / 61 * 61) m_s N 0 m_tl m_tr m_fa m_od m_rc) fun q10 =>
      lp_161_63_45 N y3 m_s n (bif gCmp .ge y4 0 then y4 else (bif gCmp .ne ((m_od (Int32.toNatClampNeg y5)) / 61) ((m_od (Int32.toNatClampNeg y5)) - (m_od (Int32.toNatClampNeg y5)) / 61 * 61) then y4 else (bif gCmp .lt ((m_od (Int32.toNatClampNeg y5)) / 61) y3 then y4 else (m_fa (Int32.toNatClampNeg (m_od (Int32.toNatClampNeg y5))))))) (y5 + 1) q10.2.1 q10.2.2.1 q10.2.2.2.1 q10.2.2.2.2.1 q10.2.2.2.2.2) else none) else none))
set_option maxRecDepth 20000 in
set_option maxHeartbeats 4000000 in
theorem lt_161_63_45 {LL : Nat} {xs : Nat → Int32} {D N : Nat} {c0 : Nat → gE} {m_s : Nat → Int32} {m_kp : Nat → Int32} {m_as : Nat → Int32} {m_ik : Int32} {m_fo : Nat → Int32}      {m_be : Nat → Int32} {m_ft : Int32} {m_tp : Nat → Int32} {m_td : Int32} {m_tk : Int32} {m_bg : Int32} {m_en : Int32} {m_vl : Int64} {m_sg : Int32} {m_wi : Nat → Int32} {m_si : Nat → Int32} {m_ce : Nat → Int32} {m_ca : Nat → Int32} {y1 : Int32} {y2 : Int32} {y3 : Int32} {v : Option Value} {M' : List gE} : ∀ (n : Nat) (y4 : Int32) (y5 : Int32) (m_tl : Int32) (m_tr : Int32) (m_fa : Nat → Int32) (m_od : Nat → Int32) (m_rc : Int32) (q : Int32 × Int32 × Int32 × Int32 × (Nat → Int32) × (Nat → Int32) × Int32), lp_161_63_45 N y3 m_s n y4 y5 m_tl m_tr m_fa m_od m_rc = some q → (kk : hX (gO LL xs) (D + 3) zR_161 174 [some (.ref 63), some (.int y1), some (.int y2), some (.int y3), some (.int q.1), some (.int q.2.1), none, none, none, none] [] (hMm c0 m_s m_kp m_as m_ik m_fo q.2.2.1 q.2.2.2.1 q.2.2.2.2.1 q.2.2.2.2.2.1 q.2.2.2.2.2.2 m_be m_ft m_tp m_td m_tk m_bg m_en m_vl m_sg m_wi m_si m_ce m_ca) v M') → hX (gO LL xs) (D + 3) zR_161 45 [some (.ref 63), some (.int y1), some (.int y2), some (.int y3), some (.int y4), some (.int y5), none, none, none, none] [] (hMm c0 m_s m_kp m_as m_ik m_fo m_tl m_tr m_fa m_od m_rc m_be m_ft m_tp m_td m_tk m_bg m_en m_vl m_sg m_wi m_si m_ce m_ca) v M' := by
  intro n
  induction n with
  | zero => intro y4 y5 m_tl m_tr m_fa m_od m_rc q h; cases h
  | succ n ih =>
    intro y4 y5 m_tl m_tr m_fa m_od m_rc q h kk
    rw [lp_161_63_45] at h
    refine hX_go 4 (bif gCmp .ge y5 m_rc then 174 else 54) [some (.ref 63), some (.int y1), some (.int y2), some (.int y3), some (.int y4), some (.int y5), none, none, none, none] [] (hMm c0 m_s m_kp m_as m_ik m_fo m_tl m_tr m_fa m_od m_rc m_be m_ft m_tp m_td m_tk m_bg m_en m_vl m_sg m_wi m_si m_ce m_ca) rfl ?_
    refine hX_if (gCmp .ge y5 m_rc) (fun c1 => ?_) (fun c1 => ?_)
    · skip
      have h := gcT c1 h
      have h := Option.some.inj h; subst h
      exact kk
    · skip
      have h := gcF c1 h
      refine hX_goM 3 (60) [some (.ref 63), some (.int y1), some (.int y2), some (.int y3), some (.int y4), some (.int y5), none, none, none, none] [.int y5, .ref 69] rfl ?_
      revert h; refine gCondR fun g2 h => ?_
      refine hX_gM (gIn y5 3721) 61 [some (.ref 63), some (.int y1), some (.int y2), some (.int y3), some (.int y4), some (.int y5), none, none, none, none] [.int (m_od (Int32.toNatClampNeg y5))] rfl g2 ?_
      refine hX_goM 9 (77) [some (.ref 63), some (.int y1), some (.int y2), some (.int y3), some (.int y4), some (.int y5), some (.int (m_od (Int32.toNatClampNeg y5))), some (.int ((m_od (Int32.toNatClampNeg y5)) / 61)), some (.int ((m_od (Int32.toNatClampNeg y5)) - (m_od (Int32.toNatClampNeg y5)) / 61 * 61)), none] [] rfl ?_
      refine hX_goM 2 (bif gCmp .ge y4 0 then 105 else 82) [some (.ref 63), some (.int y1), some (.int y2), some (.int y3), some (.int y4), some (.int y5), some (.int (m_od (Int32.toNatClampNeg y5))), some (.int ((m_od (Int32.toNatClampNeg y5)) / 61)), some (.int ((m_od (Int32.toNatClampNeg y5)) - (m_od (Int32.toNatClampNeg y5)) / 61 * 61)), none] [] rfl ?_
      revert h; refine gCondR fun o6 h => ?_
      refine hX_mrg 107 [some (.ref 63), some (.int y1), some (.int y2), some (.int y3), some (.int y4), some (.int y5), some (.int (m_od (Int32.toNatClampNeg y5))), some (.int ((m_od (Int32.toNatClampNeg y5)) / 61)), some (.int ((m_od (Int32.toNatClampNeg y5)) - (m_od (Int32.toNatClampNeg y5)) / 61 * 61)), none] [.int (bif gCmp .ge y4 0 then y4 else (bif gCmp .ne ((m_od (Int32.toNatClampNeg y5)) / 61) ((m_od (Int32.toNatClampNeg y5)) - (m_od (Int32.toNatClampNeg y5)) / 61 * 61) then y4 else (bif gCmp .lt ((m_od (Int32.toNatClampNeg y5)) / 61) y3 then y4 else (m_fa (Int32.toNatClampNeg (m_od (Int32.toNatClampNeg y5)))))))] (hMm c0 m_s m_kp m_as m_ik m_fo m_tl m_tr m_fa m_od m_rc m_be m_ft m_tp m_td m_tk m_bg m_en m_vl m_sg m_wi m_si m_ce m_ca) (fun hk => ?_) ?_
      · skip
        refine hX_if (gCmp .ge y4 0) (fun c7 => ?_) (fun c7 => ?_)
        · skip
          refine hX_goM 1 (107) [some (.ref 63), some (.int y1), some (.int y2), some (.int y3), some (.int y4), some (.int y5), some (.int (m_od (Int32.toNatClampNeg y5))), some (.int ((m_od (Int32.toNatClampNeg y5)) / 61)), some (.int ((m_od (Int32.toNatClampNeg y5)) - (m_od (Int32.toNatClampNeg y5)) / 61 * 61)), none] [.int y4] rfl ?_
          have hk := hk
          simp only [c7, cond_true, cond_false] at hk
          first | exact hk | (simp only [c7, cond_true, cond_false]; exact hk)
        · skip
          refine hX_goM 3 (bif gCmp .ne ((m_od (Int32.toNatClampNeg y5)) / 61) ((m_od (Int32.toNatClampNeg y5)) - (m_od (Int32.toNatClampNeg y5)) / 61 * 61) then 105 else 89) [some (.ref 63), some (.int y1), some (.int y2), some (.int y3), some (.int y4), some (.int y5), some (.int (m_od (Int32.toNatClampNeg y5))), some (.int ((m_od (Int32.toNatClampNeg y5)) / 61)), some (.int ((m_od (Int32.toNatClampNeg y5)) - (m_od (Int32.toNatClampNeg y5)) / 61 * 61)), none] [] rfl ?_
          refine hX_if (gCmp .ne ((m_od (Int32.toNatClampNeg y5)) / 61) ((m_od (Int32.toNatClampNeg y5)) - (m_od (Int32.toNatClampNeg y5)) / 61 * 61)) (fun c8 => ?_) (fun c8 => ?_)
          · skip
            refine hX_goM 1 (107) [some (.ref 63), some (.int y1), some (.int y2), some (.int y3), some (.int y4), some (.int y5), some (.int (m_od (Int32.toNatClampNeg y5))), some (.int ((m_od (Int32.toNatClampNeg y5)) / 61)), some (.int ((m_od (Int32.toNatClampNeg y5)) - (m_od (Int32.toNatClampNeg y5)) / 61 * 61)), none] [.int y4] rfl ?_
            have hk := hk
            simp only [c7, c8, cond_true, cond_false] at hk
            first | exact hk | (simp only [c7, c8, cond_true, cond_false]; exact hk)
          · skip
            refine hX_goM 3 (bif gCmp .lt ((m_od (Int32.toNatClampNeg y5)) / 61) y3 then 105 else 95) [some (.ref 63), some (.int y1), some (.int y2), some (.int y3), some (.int y4), some (.int y5), some (.int (m_od (Int32.toNatClampNeg y5))), some (.int ((m_od (Int32.toNatClampNeg y5)) / 61)), some (.int ((m_od (Int32.toNatClampNeg y5)) - (m_od (Int32.toNatClampNeg y5)) / 61 * 61)), none] [] rfl ?_
            refine hX_if (gCmp .lt ((m_od (Int32.toNatClampNeg y5)) / 61) y3) (fun c9 => ?_) (fun c9 => ?_)
            · skip
              refine hX_goM 1 (107) [some (.ref 63), some (.int y1), some (.int y2), some (.int y3), some (.int y4), some (.int y5), some (.int (m_od (Int32.toNatClampNeg y5))), some (.int ((m_od (Int32.toNatClampNeg y5)) / 61)), some (.int ((m_od (Int32.toNatClampNeg y5)) - (m_od (Int32.toNatClampNeg y5)) / 61 * 61)), none] [.int y4] rfl ?_
              have hk := hk
              simp only [c7, c8, c9, cond_true, cond_false] at hk
              first | exact hk | (simp only [c7, c8, c9, cond_true, cond_false]; exact hk)
            · skip
              refine hX_goM 3 (101) [some (.ref 63), some (.int y1), some (.int y2), some (.int y3), some (.int y4), some (.int y5), some (.int (m_od (Int32.toNatClampNeg y5))), some (.int ((m_od (Int32.toNatClampNeg y5)) / 61)), some (.int ((m_od (Int32.toNatClampNeg y5)) - (m_od (Int32.toNatClampNeg y5)) / 61 * 61)), none] [.int (m_od (Int32.toNatClampNeg y5)), .ref 68] rfl ?_
              refine hX_gM (gIn (m_od (Int32.toNatClampNeg y5)) 3721) 102 [some (.ref 63), some (.int y1), some (.int y2), some (.int y3), some (.int y4), some (.int y5), some (.int (m_od (Int32.toNatClampNeg y5))), some (.int ((m_od (Int32.toNatClampNeg y5)) / 61)), some (.int ((m_od (Int32.toNatClampNeg y5)) - (m_od (Int32.toNatClampNeg y5)) / 61 * 61)), none] [.int (m_fa (Int32.toNatClampNeg (m_od (Int32.toNatClampNeg y5))))] rfl (gImpF (gImpF (gImpF o6 c7) c8) c9) ?_
              refine hX_goM 1 (107) [some (.ref 63), some (.int y1), some (.int y2), some (.int y3), some (.int y4), some (.int y5), some (.int (m_od (Int32.toNatClampNeg y5))), some (.int ((m_od (Int32.toNatClampNeg y5)) / 61)), some (.int ((m_od (Int32.toNatClampNeg y5)) - (m_od (Int32.toNatClampNeg y5)) / 61 * 61)), none] [.int (m_fa (Int32.toNatClampNeg (m_od (Int32.toNatClampNeg y5))))] rfl ?_
              have hk := hk
              simp only [c7, c8, c9, cond_true, cond_false] at hk
              first | exact hk | (simp only [c7, c8, c9, cond_true, cond_false]; exact hk)
      refine hX_goM 3 (112) [some (.ref 63), some (.int y1), some (.int y2), some (.int y3), some (.int (bif gCmp .ge y4 0 then y4 else (bif gCmp .ne ((m_od (Int32.toNatClampNeg y5)) / 61) ((m_od (Int32.toNatClampNeg y5)) - (m_od (Int32.toNatClampNeg y5)) / 61 * 61) then y4 else (bif gCmp .lt ((m_od (Int32.toNatClampNeg y5)) / 61) y3 then y4 else (m_fa (Int32.toNatClampNeg (m_od (Int32.toNatClampNeg y5)))))))), some (.int y5), some (.int (m_od (Int32.toNatClampNeg y5))), some (.int ((m_od (Int32.toNatClampNeg y5)) / 61)), some (.int ((m_od (Int32.toNatClampNeg y5)) - (m_od (Int32.toNatClampNeg y5)) / 61 * 61)), some (.int 0)] [] rfl ?_
      revert h; refine gBindR fun q10 e10 h => ?_
      refine lt_161_63_112 N 0 m_tl m_tr m_fa m_od m_rc q10 e10 ?_
      refine hX_go 2 (45) [some (.ref 63), some (.int y1), some (.int y2), some (.int y3), some (.int (bif gCmp .ge y4 0 then y4 else (bif gCmp .ne ((m_od (Int32.toNatClampNeg y5)) / 61) ((m_od (Int32.toNatClampNeg y5)) - (m_od (Int32.toNatClampNeg y5)) / 61 * 61) then y4 else (bif gCmp .lt ((m_od (Int32.toNatClampNeg y5)) / 61) y3 then y4 else (m_fa (Int32.toNatClampNeg (m_od (Int32.toNatClampNeg y5)))))))), some (.int (y5 + 1)), some (.int (m_od (Int32.toNatClampNeg y5))), some (.int ((m_od (Int32.toNatClampNeg y5)) / 61)), some (.int ((m_od (Int32.toNatClampNeg y5)) - (m_od (Int32.toNatClampNeg y5)) / 61 * 61)), some (.int q10.1)] [] (hMm c0 m_s m_kp m_as m_ik m_fo q10.2.1 q10.2.2.1 q10.2.2.2.1 q10.2.2.2.2.1 q10.2.2.2.2.2 m_be m_ft m_tp m_td m_tk m_bg m_en m_vl m_sg m_wi m_si m_ce m_ca) rfl ?_
      exact hX_wk (gLe_s (gLe_s (gLe_s (gLe_s (gLe_s (gLe_s (gLe_n (gLe_n (gLe_n (gLe_n gLe_0)))))))))) (ih (bif gCmp .ge y4 0 then y4 else (bif gCmp .ne ((m_od (Int32.toNatClampNeg y5)) / 61) ((m_od (Int32.toNatClampNeg y5)) - (m_od (Int32.toNatClampNeg y5)) / 61 * 61) then y4 else (bif gCmp .lt ((m_od (Int32.toNatClampNeg y5)) / 61) y3 then y4 else (m_fa (Int32.toNatClampNeg (m_od (Int32.toNatClampNeg y5))))))) (y5 + 1) q10.2.1 q10.2.2.1 q10.2.2.2.1 q10.2.2.2.2.1 q10.2.2.2.2.2 q h kk)

/-- UpOneSideModel.spreads(III)I -/
def me_161_63 (N : Nat) (x0 : Int32) (x1 : Int32) (x2 : Int32) (m_s : Nat → Int32) (m_tl : Int32) (m_tr : Int32) (m_fa : Nat → Int32) (m_od : Nat → Int32) : Option (Int32 × Int32 × Int32 × (Nat → Int32) × (Nat → Int32) × Int32) :=
  (Option.bind (lp_161_63_3 N N 0 m_fa) fun q1 =>
  (bif gIn ((61 * x0) + x1) 3721 then (bif ((gCmp .ge (q1.2 (Int32.toNatClampNeg ((61 * x0) + x1))) 0) || (gIn 0 3721)) then (Option.bind (lp_161_63_45 N x2 m_s N (-1) 0 m_tl m_tr (f_160_63_m_fa x0 x1 0 q1.2) (f_160_63_m_od x0 x1 q1.2 m_od 0) (f_160_63_m_rc x0 x1 q1.2 0)) fun q4 =>
  some (q4.1, q4.2.2.1, q4.2.2.2.1, q4.2.2.2.2.1, q4.2.2.2.2.2.1, q4.2.2.2.2.2.2)) else none) else none))
set_option maxRecDepth 20000 in
set_option maxHeartbeats 4000000 in
theorem mt_161_63 {LL : Nat} {xs : Nat → Int32} {D : Nat} {c0 : Nat → gE} {m_s : Nat → Int32} {m_kp : Nat → Int32} {m_as : Nat → Int32} {m_ik : Int32} {m_fo : Nat → Int32} {m_tl : Int32} {m_tr : Int32} {m_fa : Nat → Int32} {m_od : Nat → Int32} {m_rc : Int32} {m_be : Nat → Int32} {m_ft : Int32} {m_tp : Nat → Int32} {m_td : Int32} {m_tk : Int32} {m_bg : Int32} {m_en : Int32} {m_vl : Int64} {m_sg : Int32} {m_wi : Nat → Int32} {m_si : Nat → Int32} {m_ce : Nat → Int32} {m_ca : Nat → Int32} (N : Nat) (x0 : Int32) (x1 : Int32) (x2 : Int32) (q : Int32 × Int32 × Int32 × (Nat → Int32) × (Nat → Int32) × Int32) (h : me_161_63 N x0 x1 x2 m_s m_tl m_tr m_fa m_od = some q) : hM (gO LL xs) (D + 3) zR_161 [.ref 63, .int x0, .int x1, .int x2] (hMm c0 m_s m_kp m_as m_ik m_fo m_tl m_tr m_fa m_od m_rc m_be m_ft m_tp m_td m_tk m_bg m_en m_vl m_sg m_wi m_si m_ce m_ca) (some (.int q.1)) (hMm c0 m_s m_kp m_as m_ik m_fo q.2.1 q.2.2.1 q.2.2.2.1 q.2.2.2.2.1 q.2.2.2.2.2 m_be m_ft m_tp m_td m_tk m_bg m_en m_vl m_sg m_wi m_si m_ce m_ca) := by
  unfold me_161_63 at h
  refine hX_go 0 0 [some (.ref 63), some (.int x0), some (.int x1), some (.int x2), none, none, none, none, none, none] [] (hMm c0 m_s m_kp m_as m_ik m_fo m_tl m_tr m_fa m_od m_rc m_be m_ft m_tp m_td m_tk m_bg m_en m_vl m_sg m_wi m_si m_ce m_ca) rfl ?_
  refine hX_go 2 (3) [some (.ref 63), some (.int x0), some (.int x1), some (.int x2), some (.int 0), none, none, none, none, none] [] (hMm c0 m_s m_kp m_as m_ik m_fo m_tl m_tr m_fa m_od m_rc m_be m_ft m_tp m_td m_tk m_bg m_en m_vl m_sg m_wi m_si m_ce m_ca) rfl ?_
  revert h; refine gBindR fun q1 e1 h => ?_
  refine lt_161_63_3 N 0 m_fa q1 e1 ?_
  refine hX_go 9 (39) [some (.ref 63), some (.int x0), some (.int x1), some (.int x2), some (.int (-1)), none, none, none, none, none] [.int 0, .int x1, .int x0, .ref 63] (hMm c0 m_s m_kp m_as m_ik m_fo m_tl m_tr q1.2 m_od 0 m_be m_ft m_tp m_td m_tk m_bg m_en m_vl m_sg m_wi m_si m_ce m_ca) rfl ?_
  revert h; refine gCondR fun g2 h => ?_
  revert h; refine gCondR fun g3 h => ?_
  refine hX_call (r' := zR_160) rfl (ct_160_63 x0 x1 0 g2 (fun u0 => (gImpF g3 u0))) ?_
  refine hX_go 2 (45) [some (.ref 63), some (.int x0), some (.int x1), some (.int x2), some (.int (-1)), some (.int 0), none, none, none, none] [] (hMm c0 m_s m_kp m_as m_ik m_fo m_tl m_tr (f_160_63_m_fa x0 x1 0 q1.2) (f_160_63_m_od x0 x1 q1.2 m_od 0) (f_160_63_m_rc x0 x1 q1.2 0) m_be m_ft m_tp m_td m_tk m_bg m_en m_vl m_sg m_wi m_si m_ce m_ca) rfl ?_
  revert h; refine gBindR fun q4 e4 h => ?_
  refine lt_161_63_45 N (-1) 0 m_tl m_tr (f_160_63_m_fa x0 x1 0 q1.2) (f_160_63_m_od x0 x1 q1.2 m_od 0) (f_160_63_m_rc x0 x1 q1.2 0) q4 e4 ?_
  refine hX_go 1 (176) [some (.ref 63), some (.int x0), some (.int x1), some (.int x2), some (.int q4.1), some (.int q4.2.1), none, none, none, none] [.int q4.1] (hMm c0 m_s m_kp m_as m_ik m_fo q4.2.2.1 q4.2.2.2.1 q4.2.2.2.2.1 q4.2.2.2.2.2.1 q4.2.2.2.2.2.2 m_be m_ft m_tp m_td m_tk m_bg m_en m_vl m_sg m_wi m_si m_ce m_ca) rfl ?_
  have h := Option.some.inj h; subst h
  exact hX_end rfl rfl rfl


/-- UpOneSideModel.fewest(I)I -/
def me_162_63 (N : Nat) (x0 : Int32) (m_s : Nat → Int32) (m_fo : Nat → Int32) (m_tl : Int32) (m_tr : Int32) (m_fa : Nat → Int32) (m_od : Nat → Int32) (m_rc : Int32) : Option (Int32 × (Nat → Int32) × Int32 × Int32 × (Nat → Int32) × (Nat → Int32) × Int32) :=
  (bif gCmp .ne (v_130 x0) 0 then
    (Option.bind (me_161_63 N (m_s 0) (m_s 1) x0 m_s m_tl m_tr m_fa m_od) fun q2 =>
    some (bif gCmp .ge q2.1 0 then q2.1 else (v_124_63 3), bif gCmp .ge q2.1 0 then m_fo else (f_124_63_m_fo 3 m_fo), q2.2.1, q2.2.2.1, q2.2.2.2.1, q2.2.2.2.2.1, q2.2.2.2.2.2))
  else
    some (v_124_63 0, f_124_63_m_fo 0 m_fo, m_tl, m_tr, m_fa, m_od, m_rc))
set_option maxRecDepth 20000 in
set_option maxHeartbeats 4000000 in
theorem mt_162_63 {LL : Nat} {xs : Nat → Int32} {D : Nat} {c0 : Nat → gE} {m_s : Nat → Int32} {m_kp : Nat → Int32} {m_as : Nat → Int32} {m_ik : Int32} {m_fo : Nat → Int32} {m_tl : Int32} {m_tr : Int32} {m_fa : Nat → Int32} {m_od : Nat → Int32} {m_rc : Int32} {m_be : Nat → Int32} {m_ft : Int32} {m_tp : Nat → Int32} {m_td : Int32} {m_tk : Int32} {m_bg : Int32} {m_en : Int32} {m_vl : Int64} {m_sg : Int32} {m_wi : Nat → Int32} {m_si : Nat → Int32} {m_ce : Nat → Int32} {m_ca : Nat → Int32} (N : Nat) (x0 : Int32) (q : Int32 × (Nat → Int32) × Int32 × Int32 × (Nat → Int32) × (Nat → Int32) × Int32) (h : me_162_63 N x0 m_s m_fo m_tl m_tr m_fa m_od m_rc = some q) : hM (gO LL xs) (D + 4) zR_162 [.ref 63, .int x0] (hMm c0 m_s m_kp m_as m_ik m_fo m_tl m_tr m_fa m_od m_rc m_be m_ft m_tp m_td m_tk m_bg m_en m_vl m_sg m_wi m_si m_ce m_ca) (some (.int q.1)) (hMm c0 m_s m_kp m_as m_ik q.2.1 q.2.2.1 q.2.2.2.1 q.2.2.2.2.1 q.2.2.2.2.2.1 q.2.2.2.2.2.2 m_be m_ft m_tp m_td m_tk m_bg m_en m_vl m_sg m_wi m_si m_ce m_ca) := by
  unfold me_162_63 at h
  refine hX_go 0 0 [some (.ref 63), some (.int x0), none] [] (hMm c0 m_s m_kp m_as m_ik m_fo m_tl m_tr m_fa m_od m_rc m_be m_ft m_tp m_td m_tk m_bg m_en m_vl m_sg m_wi m_si m_ce m_ca) rfl ?_
  refine hX_go 1 (1) [some (.ref 63), some (.int x0), none] [.int x0] (hMm c0 m_s m_kp m_as m_ik m_fo m_tl m_tr m_fa m_od m_rc m_be m_ft m_tp m_td m_tk m_bg m_en m_vl m_sg m_wi m_si m_ce m_ca) rfl ?_
  refine hX_call (r' := zR_130) rfl (ct_130 x0) ?_
  refine hX_goM 1 (bif gCmp .ne (v_130 x0) 0 then 13 else 7) [some (.ref 63), some (.int x0), none] [] rfl ?_
  refine hX_if (gCmp .ne (v_130 x0) 0) (fun c1 => ?_) (fun c1 => ?_)
  · skip
    have h := gcT c1 h
    refine hX_goM 9 (26) [some (.ref 63), some (.int x0), none] [.int (m_s 1), .int (m_s 0), .ref 63] rfl ?_
    refine hX_goM 1 (27) [some (.ref 63), some (.int x0), none] [.int x0, .int (m_s 1), .int (m_s 0), .ref 63] rfl ?_
    revert h; refine gBindR fun q2 e2 h => ?_
    refine hX_call (r' := zR_161) rfl (mt_161_63 N (m_s 0) (m_s 1) x0 q2 e2) ?_
    refine hX_go 3 (bif gCmp .ge q2.1 0 then 43 else 35) [some (.ref 63), some (.int x0), some (.int q2.1)] [] (hMm c0 m_s m_kp m_as m_ik m_fo q2.2.1 q2.2.2.1 q2.2.2.2.1 q2.2.2.2.2.1 q2.2.2.2.2.2 m_be m_ft m_tp m_td m_tk m_bg m_en m_vl m_sg m_wi m_si m_ce m_ca) rfl ?_
    refine hX_mrg 44 [some (.ref 63), some (.int x0), some (.int q2.1)] [.int (bif gCmp .ge q2.1 0 then q2.1 else (v_124_63 3))] (hMm c0 m_s m_kp m_as m_ik (bif gCmp .ge q2.1 0 then m_fo else (f_124_63_m_fo 3 m_fo)) q2.2.1 q2.2.2.1 q2.2.2.2.1 q2.2.2.2.2.1 q2.2.2.2.2.2 m_be m_ft m_tp m_td m_tk m_bg m_en m_vl m_sg m_wi m_si m_ce m_ca) (fun hk => ?_) ?_
    · skip
      refine hX_if (gCmp .ge q2.1 0) (fun c4 => ?_) (fun c4 => ?_)
      · skip
        refine hX_goM 1 (44) [some (.ref 63), some (.int x0), some (.int q2.1)] [.int q2.1] rfl ?_
        have hk := hk
        simp only [c4, cond_true, cond_false] at hk
        first | exact hk | (simp only [c4, cond_true, cond_false]; exact hk)
      · skip
        refine hX_goM 2 (37) [some (.ref 63), some (.int x0), some (.int q2.1)] [.int 3, .ref 63] rfl ?_
        refine hX_call (r' := zR_124) rfl (ct_124_63 3 rfl) ?_
        refine hX_go 1 (44) [some (.ref 63), some (.int x0), some (.int q2.1)] [.int (v_124_63 3)] (hMm c0 m_s m_kp m_as m_ik (f_124_63_m_fo 3 m_fo) q2.2.1 q2.2.2.1 q2.2.2.2.1 q2.2.2.2.2.1 q2.2.2.2.2.2 m_be m_ft m_tp m_td m_tk m_bg m_en m_vl m_sg m_wi m_si m_ce m_ca) rfl ?_
        have hk := hk
        simp only [c4, cond_true, cond_false] at hk
        first | exact hk | (simp only [c4, cond_true, cond_false]; exact hk)
    have h := Option.some.inj h; subst h
    exact hX_end rfl rfl rfl
  · skip
    have h := gcF c1 h
    refine hX_goM 2 (9) [some (.ref 63), some (.int x0), none] [.int 0, .ref 63] rfl ?_
    refine hX_call (r' := zR_124) rfl (ct_124_63 0 rfl) ?_
    refine hX_go 0 (12) [some (.ref 63), some (.int x0), none] [.int (v_124_63 0)] (hMm c0 m_s m_kp m_as m_ik (f_124_63_m_fo 0 m_fo) m_tl m_tr m_fa m_od m_rc m_be m_ft m_tp m_td m_tk m_bg m_en m_vl m_sg m_wi m_si m_ce m_ca) rfl ?_
    have h := Option.some.inj h; subst h
    exact hX_end rfl rfl rfl

/-- UpOneSideModel.first: the loop at 36 -/
def lp_163_63_36 (N : Nat) (y1 : Int32) (y2 : Int32) (m_s : Nat → Int32) : Nat → Int32 → Int32 → Int32 → Int32 → (Nat → Int32) → (Nat → Int32) → Int32 → Option (Int32 × Int32 × Int32 × Int32 × (Nat → Int32) × (Nat → Int32) × Int32)
  | 0, _, _, _, _, _, _, _ => none
  | n + 1, y3, y4, m_tl, m_tr, m_fa, m_od, m_rc =>
    (bif gCmp .ge y4 (m_s 3) then
      some (y3, y4, m_tl, m_tr, m_fa, m_od, m_rc)
    else
      (bif gCmp .le y2 0 then
        some (y3, y4, m_tl, m_tr, m_fa, m_od, m_rc)
      else
        (bif gCmp .ge y3 0 then
          some (y3, y4, m_tl, m_tr, m_fa, m_od, m_rc)
        else
          (bif gIn ((15 + (3 * y4)) + 0) 134 then (bif gIn ((15 + (3 * y4)) + 1) 134 then (bif gIn ((15 + (3 * y4)) + 2) 134 then (Option.bind (me_161_63 N (f_136_63_m_tl y4 m_s (f_135_63_m_tl m_s) (f_135_63_m_tr m_s)) (f_136_63_m_tr y4 m_s (f_135_63_m_tl m_s) (f_135_63_m_tr m_s)) y1 m_s (f_136_63_m_tl y4 m_s (f_135_63_m_tl m_s) (f_135_63_m_tr m_s)) (f_136_63_m_tr y4 m_s (f_135_63_m_tl m_s) (f_135_63_m_tr m_s)) m_fa m_od) fun q7 =>
          lp_163_63_36 N y1 y2 m_s n (bif gCmp .ne q7.1 (y2 - 1) then (-1) else y4) (y4 + 1) q7.2.1 q7.2.2.1 q7.2.2.2.1 q7.2.2.2.2.1 q7.2.2.2.2.2) else none) else none) else none))))
set_option maxRecDepth 20000 in
set_option maxHeartbeats 4000000 in
theorem lt_163_63_36 {LL : Nat} {xs : Nat → Int32} {D N : Nat} {c0 : Nat → gE} {m_s : Nat → Int32} {m_kp : Nat → Int32} {m_as : Nat → Int32} {m_ik : Int32} {m_fo : Nat → Int32}      {m_be : Nat → Int32} {m_ft : Int32} {m_tp : Nat → Int32} {m_td : Int32} {m_tk : Int32} {m_bg : Int32} {m_en : Int32} {m_vl : Int64} {m_sg : Int32} {m_wi : Nat → Int32} {m_si : Nat → Int32} {m_ce : Nat → Int32} {m_ca : Nat → Int32} {y1 : Int32} {y2 : Int32} {v : Option Value} {M' : List gE} : ∀ (n : Nat) (y3 : Int32) (y4 : Int32) (m_tl : Int32) (m_tr : Int32) (m_fa : Nat → Int32) (m_od : Nat → Int32) (m_rc : Int32) (q : Int32 × Int32 × Int32 × Int32 × (Nat → Int32) × (Nat → Int32) × Int32), lp_163_63_36 N y1 y2 m_s n y3 y4 m_tl m_tr m_fa m_od m_rc = some q → (kk : hX (gO LL xs) (D + 4) zR_163 97 [some (.ref 63), some (.int y1), some (.int y2), some (.int q.1), some (.int q.2.1)] [] (hMm c0 m_s m_kp m_as m_ik m_fo q.2.2.1 q.2.2.2.1 q.2.2.2.2.1 q.2.2.2.2.2.1 q.2.2.2.2.2.2 m_be m_ft m_tp m_td m_tk m_bg m_en m_vl m_sg m_wi m_si m_ce m_ca) v M') → hX (gO LL xs) (D + 4) zR_163 36 [some (.ref 63), some (.int y1), some (.int y2), some (.int y3), some (.int y4)] [] (hMm c0 m_s m_kp m_as m_ik m_fo m_tl m_tr m_fa m_od m_rc m_be m_ft m_tp m_td m_tk m_bg m_en m_vl m_sg m_wi m_si m_ce m_ca) v M' := by
  intro n
  induction n with
  | zero => intro y3 y4 m_tl m_tr m_fa m_od m_rc q h; cases h
  | succ n ih =>
    intro y3 y4 m_tl m_tr m_fa m_od m_rc q h kk
    rw [lp_163_63_36] at h
    refine hX_go 6 (bif gCmp .ge y4 (m_s 3) then 97 else 47) [some (.ref 63), some (.int y1), some (.int y2), some (.int y3), some (.int y4)] [] (hMm c0 m_s m_kp m_as m_ik m_fo m_tl m_tr m_fa m_od m_rc m_be m_ft m_tp m_td m_tk m_bg m_en m_vl m_sg m_wi m_si m_ce m_ca) rfl ?_
    refine hX_if (gCmp .ge y4 (m_s 3)) (fun c1 => ?_) (fun c1 => ?_)
    · skip
      have h := gcT c1 h
      have h := Option.some.inj h; subst h
      exact kk
    · skip
      have h := gcF c1 h
      refine hX_goM 2 (bif gCmp .le y2 0 then 97 else 51) [some (.ref 63), some (.int y1), some (.int y2), some (.int y3), some (.int y4)] [] rfl ?_
      refine hX_if (gCmp .le y2 0) (fun c2 => ?_) (fun c2 => ?_)
      · skip
        have h := gcT c2 h
        have h := Option.some.inj h; subst h
        exact kk
      · skip
        have h := gcF c2 h
        refine hX_goM 2 (bif gCmp .ge y3 0 then 97 else 55) [some (.ref 63), some (.int y1), some (.int y2), some (.int y3), some (.int y4)] [] rfl ?_
        refine hX_if (gCmp .ge y3 0) (fun c3 => ?_) (fun c3 => ?_)
        · skip
          have h := gcT c3 h
          have h := Option.some.inj h; subst h
          exact kk
        · skip
          have h := gcF c3 h
          refine hX_goM 1 (56) [some (.ref 63), some (.int y1), some (.int y2), some (.int y3), some (.int y4)] [.ref 63] rfl ?_
          refine hX_call (r' := zR_135) rfl (ct_135_63) ?_
          refine hX_go 2 (62) [some (.ref 63), some (.int y1), some (.int y2), some (.int y3), some (.int y4)] [.int y4, .ref 63] (hMm c0 m_s m_kp m_as m_ik m_fo (f_135_63_m_tl m_s) (f_135_63_m_tr m_s) m_fa m_od m_rc m_be m_ft m_tp m_td m_tk m_bg m_en m_vl m_sg m_wi m_si m_ce m_ca) rfl ?_
          revert h; refine gCondR fun g4 h => ?_
          revert h; refine gCondR fun g5 h => ?_
          revert h; refine gCondR fun g6 h => ?_
          refine hX_call (r' := zR_136) rfl (ct_136_63 y4 g4 g5 g6) ?_
          refine hX_go 6 (75) [some (.ref 63), some (.int y1), some (.int y2), some (.int y3), some (.int y4)] [.int y1, .int (f_136_63_m_tr y4 m_s (f_135_63_m_tl m_s) (f_135_63_m_tr m_s)), .int (f_136_63_m_tl y4 m_s (f_135_63_m_tl m_s) (f_135_63_m_tr m_s)), .ref 63] (hMm c0 m_s m_kp m_as m_ik m_fo (f_136_63_m_tl y4 m_s (f_135_63_m_tl m_s) (f_135_63_m_tr m_s)) (f_136_63_m_tr y4 m_s (f_135_63_m_tl m_s) (f_135_63_m_tr m_s)) m_fa m_od m_rc m_be m_ft m_tp m_td m_tk m_bg m_en m_vl m_sg m_wi m_si m_ce m_ca) rfl ?_
          revert h; refine gBindR fun q7 e7 h => ?_
          refine hX_call (r' := zR_161) rfl (mt_161_63 N (f_136_63_m_tl y4 m_s (f_135_63_m_tl m_s) (f_135_63_m_tr m_s)) (f_136_63_m_tr y4 m_s (f_135_63_m_tl m_s) (f_135_63_m_tr m_s)) y1 q7 e7) ?_
          refine hX_go 4 (bif gCmp .ne q7.1 (y2 - 1) then 89 else 84) [some (.ref 63), some (.int y1), some (.int y2), some (.int y3), some (.int y4)] [] (hMm c0 m_s m_kp m_as m_ik m_fo q7.2.1 q7.2.2.1 q7.2.2.2.1 q7.2.2.2.2.1 q7.2.2.2.2.2 m_be m_ft m_tp m_td m_tk m_bg m_en m_vl m_sg m_wi m_si m_ce m_ca) rfl ?_
          refine hX_mrg 90 [some (.ref 63), some (.int y1), some (.int y2), some (.int y3), some (.int y4)] [.int (bif gCmp .ne q7.1 (y2 - 1) then (-1) else y4)] (hMm c0 m_s m_kp m_as m_ik m_fo q7.2.1 q7.2.2.1 q7.2.2.2.1 q7.2.2.2.2.1 q7.2.2.2.2.2 m_be m_ft m_tp m_td m_tk m_bg m_en m_vl m_sg m_wi m_si m_ce m_ca) (fun hk => ?_) ?_
          · skip
            refine hX_if (gCmp .ne q7.1 (y2 - 1)) (fun c9 => ?_) (fun c9 => ?_)
            · skip
              refine hX_goM 1 (90) [some (.ref 63), some (.int y1), some (.int y2), some (.int y3), some (.int y4)] [.int (-1)] rfl ?_
              have hk := hk
              simp only [c9, cond_true, cond_false] at hk
              first | exact hk | (simp only [c9, cond_true, cond_false]; exact hk)
            · skip
              refine hX_goM 2 (90) [some (.ref 63), some (.int y1), some (.int y2), some (.int y3), some (.int y4)] [.int y4] rfl ?_
              have hk := hk
              simp only [c9, cond_true, cond_false] at hk
              first | exact hk | (simp only [c9, cond_true, cond_false]; exact hk)
          refine hX_goM 3 (36) [some (.ref 63), some (.int y1), some (.int y2), some (.int (bif gCmp .ne q7.1 (y2 - 1) then (-1) else y4)), some (.int (y4 + 1))] [] rfl ?_
          exact ih (bif gCmp .ne q7.1 (y2 - 1) then (-1) else y4) (y4 + 1) q7.2.1 q7.2.2.1 q7.2.2.2.1 q7.2.2.2.2.1 q7.2.2.2.2.2 q h kk

/-- UpOneSideModel.first(I)I -/
def me_163_63 (N : Nat) (x0 : Int32) (m_s : Nat → Int32) (m_fo : Nat → Int32) (m_tl : Int32) (m_tr : Int32) (m_fa : Nat → Int32) (m_od : Nat → Int32) (m_rc : Int32) : Option (Int32 × (Nat → Int32) × Int32 × Int32 × (Nat → Int32) × (Nat → Int32) × Int32) :=
  (bif gCmp .ne (v_130 x0) 0 then
    (Option.bind (me_161_63 N (m_s 0) (m_s 1) x0 m_s m_tl m_tr m_fa m_od) fun q2 =>
    (Option.bind (lp_163_63_36 N x0 q2.1 m_s N (-1) 0 q2.2.1 q2.2.2.1 q2.2.2.2.1 q2.2.2.2.2.1 q2.2.2.2.2.2) fun q3 =>
    some (bif gCmp .ge q3.1 0 then q3.1 else (v_124_63 3), bif gCmp .ge q3.1 0 then m_fo else (f_124_63_m_fo 3 m_fo), q3.2.2.1, q3.2.2.2.1, q3.2.2.2.2.1, q3.2.2.2.2.2.1, q3.2.2.2.2.2.2)))
  else
    some (v_124_63 0, f_124_63_m_fo 0 m_fo, m_tl, m_tr, m_fa, m_od, m_rc))
set_option maxRecDepth 20000 in
set_option maxHeartbeats 4000000 in
theorem mt_163_63 {LL : Nat} {xs : Nat → Int32} {D : Nat} {c0 : Nat → gE} {m_s : Nat → Int32} {m_kp : Nat → Int32} {m_as : Nat → Int32} {m_ik : Int32} {m_fo : Nat → Int32} {m_tl : Int32} {m_tr : Int32} {m_fa : Nat → Int32} {m_od : Nat → Int32} {m_rc : Int32} {m_be : Nat → Int32} {m_ft : Int32} {m_tp : Nat → Int32} {m_td : Int32} {m_tk : Int32} {m_bg : Int32} {m_en : Int32} {m_vl : Int64} {m_sg : Int32} {m_wi : Nat → Int32} {m_si : Nat → Int32} {m_ce : Nat → Int32} {m_ca : Nat → Int32} (N : Nat) (x0 : Int32) (q : Int32 × (Nat → Int32) × Int32 × Int32 × (Nat → Int32) × (Nat → Int32) × Int32) (h : me_163_63 N x0 m_s m_fo m_tl m_tr m_fa m_od m_rc = some q) : hM (gO LL xs) (D + 4) zR_163 [.ref 63, .int x0] (hMm c0 m_s m_kp m_as m_ik m_fo m_tl m_tr m_fa m_od m_rc m_be m_ft m_tp m_td m_tk m_bg m_en m_vl m_sg m_wi m_si m_ce m_ca) (some (.int q.1)) (hMm c0 m_s m_kp m_as m_ik q.2.1 q.2.2.1 q.2.2.2.1 q.2.2.2.2.1 q.2.2.2.2.2.1 q.2.2.2.2.2.2 m_be m_ft m_tp m_td m_tk m_bg m_en m_vl m_sg m_wi m_si m_ce m_ca) := by
  unfold me_163_63 at h
  refine hX_go 0 0 [some (.ref 63), some (.int x0), none, none, none] [] (hMm c0 m_s m_kp m_as m_ik m_fo m_tl m_tr m_fa m_od m_rc m_be m_ft m_tp m_td m_tk m_bg m_en m_vl m_sg m_wi m_si m_ce m_ca) rfl ?_
  refine hX_go 1 (1) [some (.ref 63), some (.int x0), none, none, none] [.int x0] (hMm c0 m_s m_kp m_as m_ik m_fo m_tl m_tr m_fa m_od m_rc m_be m_ft m_tp m_td m_tk m_bg m_en m_vl m_sg m_wi m_si m_ce m_ca) rfl ?_
  refine hX_call (r' := zR_130) rfl (ct_130 x0) ?_
  refine hX_goM 1 (bif gCmp .ne (v_130 x0) 0 then 13 else 7) [some (.ref 63), some (.int x0), none, none, none] [] rfl ?_
  refine hX_if (gCmp .ne (v_130 x0) 0) (fun c1 => ?_) (fun c1 => ?_)
  · skip
    have h := gcT c1 h
    refine hX_goM 9 (26) [some (.ref 63), some (.int x0), none, none, none] [.int (m_s 1), .int (m_s 0), .ref 63] rfl ?_
    refine hX_goM 1 (27) [some (.ref 63), some (.int x0), none, none, none] [.int x0, .int (m_s 1), .int (m_s 0), .ref 63] rfl ?_
    revert h; refine gBindR fun q2 e2 h => ?_
    refine hX_call (r' := zR_161) rfl (mt_161_63 N (m_s 0) (m_s 1) x0 q2 e2) ?_
    refine hX_go 5 (36) [some (.ref 63), some (.int x0), some (.int q2.1), some (.int (-1)), some (.int 0)] [] (hMm c0 m_s m_kp m_as m_ik m_fo q2.2.1 q2.2.2.1 q2.2.2.2.1 q2.2.2.2.2.1 q2.2.2.2.2.2 m_be m_ft m_tp m_td m_tk m_bg m_en m_vl m_sg m_wi m_si m_ce m_ca) rfl ?_
    revert h; refine gBindR fun q3 e3 h => ?_
    refine lt_163_63_36 N (-1) 0 q2.2.1 q2.2.2.1 q2.2.2.2.1 q2.2.2.2.2.1 q2.2.2.2.2.2 q3 e3 ?_
    refine hX_go 2 (bif gCmp .ge q3.1 0 then 109 else 101) [some (.ref 63), some (.int x0), some (.int q2.1), some (.int q3.1), some (.int q3.2.1)] [] (hMm c0 m_s m_kp m_as m_ik m_fo q3.2.2.1 q3.2.2.2.1 q3.2.2.2.2.1 q3.2.2.2.2.2.1 q3.2.2.2.2.2.2 m_be m_ft m_tp m_td m_tk m_bg m_en m_vl m_sg m_wi m_si m_ce m_ca) rfl ?_
    refine hX_mrg 110 [some (.ref 63), some (.int x0), some (.int q2.1), some (.int q3.1), some (.int q3.2.1)] [.int (bif gCmp .ge q3.1 0 then q3.1 else (v_124_63 3))] (hMm c0 m_s m_kp m_as m_ik (bif gCmp .ge q3.1 0 then m_fo else (f_124_63_m_fo 3 m_fo)) q3.2.2.1 q3.2.2.2.1 q3.2.2.2.2.1 q3.2.2.2.2.2.1 q3.2.2.2.2.2.2 m_be m_ft m_tp m_td m_tk m_bg m_en m_vl m_sg m_wi m_si m_ce m_ca) (fun hk => ?_) ?_
    · skip
      refine hX_if (gCmp .ge q3.1 0) (fun c5 => ?_) (fun c5 => ?_)
      · skip
        refine hX_goM 1 (110) [some (.ref 63), some (.int x0), some (.int q2.1), some (.int q3.1), some (.int q3.2.1)] [.int q3.1] rfl ?_
        have hk := hk
        simp only [c5, cond_true, cond_false] at hk
        first | exact hk | (simp only [c5, cond_true, cond_false]; exact hk)
      · skip
        refine hX_goM 2 (103) [some (.ref 63), some (.int x0), some (.int q2.1), some (.int q3.1), some (.int q3.2.1)] [.int 3, .ref 63] rfl ?_
        refine hX_call (r' := zR_124) rfl (ct_124_63 3 rfl) ?_
        refine hX_go 1 (110) [some (.ref 63), some (.int x0), some (.int q2.1), some (.int q3.1), some (.int q3.2.1)] [.int (v_124_63 3)] (hMm c0 m_s m_kp m_as m_ik (f_124_63_m_fo 3 m_fo) q3.2.2.1 q3.2.2.2.1 q3.2.2.2.2.1 q3.2.2.2.2.2.1 q3.2.2.2.2.2.2 m_be m_ft m_tp m_td m_tk m_bg m_en m_vl m_sg m_wi m_si m_ce m_ca) rfl ?_
        have hk := hk
        simp only [c5, cond_true, cond_false] at hk
        first | exact hk | (simp only [c5, cond_true, cond_false]; exact hk)
    have h := Option.some.inj h; subst h
    exact hX_end rfl rfl rfl
  · skip
    have h := gcF c1 h
    refine hX_goM 2 (9) [some (.ref 63), some (.int x0), none, none, none] [.int 0, .ref 63] rfl ?_
    refine hX_call (r' := zR_124) rfl (ct_124_63 0 rfl) ?_
    refine hX_go 0 (12) [some (.ref 63), some (.int x0), none, none, none] [.int (v_124_63 0)] (hMm c0 m_s m_kp m_as m_ik (f_124_63_m_fo 0 m_fo) m_tl m_tr m_fa m_od m_rc m_be m_ft m_tp m_td m_tk m_bg m_en m_vl m_sg m_wi m_si m_ce m_ca) rfl ?_
    have h := Option.some.inj h; subst h
    exact hX_end rfl rfl rfl


/-- UpOneSideModel.states()I -/
def me_164_63 (N : Nat) (m_s : Nat → Int32) (m_tl : Int32) (m_tr : Int32) (m_fa : Nat → Int32) (m_od : Nat → Int32) : Option (Int32 × Int32 × Int32 × (Nat → Int32) × (Nat → Int32) × Int32) :=
  (Option.bind (me_161_63 N (m_s 0) (m_s 1) 0 m_s m_tl m_tr m_fa m_od) fun q1 =>
  some (bif gCmp .ge q1.1 (-1) then q1.2.2.2.2.2 else q1.1, q1.2.1, q1.2.2.1, q1.2.2.2.1, q1.2.2.2.2.1, q1.2.2.2.2.2))
set_option maxRecDepth 20000 in
set_option maxHeartbeats 4000000 in
theorem mt_164_63 {LL : Nat} {xs : Nat → Int32} {D : Nat} {c0 : Nat → gE} {m_s : Nat → Int32} {m_kp : Nat → Int32} {m_as : Nat → Int32} {m_ik : Int32} {m_fo : Nat → Int32} {m_tl : Int32} {m_tr : Int32} {m_fa : Nat → Int32} {m_od : Nat → Int32} {m_rc : Int32} {m_be : Nat → Int32} {m_ft : Int32} {m_tp : Nat → Int32} {m_td : Int32} {m_tk : Int32} {m_bg : Int32} {m_en : Int32} {m_vl : Int64} {m_sg : Int32} {m_wi : Nat → Int32} {m_si : Nat → Int32} {m_ce : Nat → Int32} {m_ca : Nat → Int32} (N : Nat) (q : Int32 × Int32 × Int32 × (Nat → Int32) × (Nat → Int32) × Int32) (h : me_164_63 N m_s m_tl m_tr m_fa m_od = some q) : hM (gO LL xs) (D + 4) zR_164 [.ref 63] (hMm c0 m_s m_kp m_as m_ik m_fo m_tl m_tr m_fa m_od m_rc m_be m_ft m_tp m_td m_tk m_bg m_en m_vl m_sg m_wi m_si m_ce m_ca) (some (.int q.1)) (hMm c0 m_s m_kp m_as m_ik m_fo q.2.1 q.2.2.1 q.2.2.2.1 q.2.2.2.2.1 q.2.2.2.2.2 m_be m_ft m_tp m_td m_tk m_bg m_en m_vl m_sg m_wi m_si m_ce m_ca) := by
  unfold me_164_63 at h
  refine hX_go 0 0 [some (.ref 63), none] [] (hMm c0 m_s m_kp m_as m_ik m_fo m_tl m_tr m_fa m_od m_rc m_be m_ft m_tp m_td m_tk m_bg m_en m_vl m_sg m_wi m_si m_ce m_ca) rfl ?_
  refine hX_go 9 (13) [some (.ref 63), none] [.int (m_s 1), .int (m_s 0), .ref 63] (hMm c0 m_s m_kp m_as m_ik m_fo m_tl m_tr m_fa m_od m_rc m_be m_ft m_tp m_td m_tk m_bg m_en m_vl m_sg m_wi m_si m_ce m_ca) rfl ?_
  refine hX_goM 1 (14) [some (.ref 63), none] [.int 0, .int (m_s 1), .int (m_s 0), .ref 63] rfl ?_
  revert h; refine gBindR fun q1 e1 h => ?_
  refine hX_call (r' := zR_161) rfl (mt_161_63 N (m_s 0) (m_s 1) 0 q1 e1) ?_
  refine hX_go 4 (bif gCmp .ge q1.1 (-1) then 27 else 23) [some (.ref 63), some (.int q1.1)] [] (hMm c0 m_s m_kp m_as m_ik m_fo q1.2.1 q1.2.2.1 q1.2.2.2.1 q1.2.2.2.2.1 q1.2.2.2.2.2 m_be m_ft m_tp m_td m_tk m_bg m_en m_vl m_sg m_wi m_si m_ce m_ca) rfl ?_
  refine hX_mrg 31 [some (.ref 63), some (.int q1.1)] [.int (bif gCmp .ge q1.1 (-1) then q1.2.2.2.2.2 else q1.1)] (hMm c0 m_s m_kp m_as m_ik m_fo q1.2.1 q1.2.2.1 q1.2.2.2.1 q1.2.2.2.2.1 q1.2.2.2.2.2 m_be m_ft m_tp m_td m_tk m_bg m_en m_vl m_sg m_wi m_si m_ce m_ca) (fun hk => ?_) ?_
  · skip
    refine hX_if (gCmp .ge q1.1 (-1)) (fun c3 => ?_) (fun c3 => ?_)
    · skip
      refine hX_goM 2 (31) [some (.ref 63), some (.int q1.1)] [.int q1.2.2.2.2.2] rfl ?_
      have hk := hk
      simp only [c3, cond_true, cond_false] at hk
      first | exact hk | (simp only [c3, cond_true, cond_false]; exact hk)
    · skip
      refine hX_goM 2 (31) [some (.ref 63), some (.int q1.1)] [.int q1.1] rfl ?_
      have hk := hk
      simp only [c3, cond_true, cond_false] at hk
      first | exact hk | (simp only [c3, cond_true, cond_false]; exact hk)
  have h := Option.some.inj h; subst h
  exact hX_end rfl rfl rfl

/-- UpOneSideModel.worst: the loop at 31 -/
def lp_165_63_31 (N : Nat) (m_od : Nat → Int32) (m_rc : Int32) : Nat → Int32 → Int32 → Option (Int32 × Int32)
  | 0, _, _ => none
  | n + 1, y2, y3 =>
    (bif gCmp .ge y3 m_rc then
      some (y2, y3)
    else
      (bif gIn y3 3721 then (bif gIn y3 3721 then lp_165_63_31 N m_od m_rc n (bif gCmp .le (v_126 (((m_od (Int32.toNatClampNeg y3)) / 61) - ((m_od (Int32.toNatClampNeg y3)) - (m_od (Int32.toNatClampNeg y3)) / 61 * 61))) y2 then y2 else (v_126 (((m_od (Int32.toNatClampNeg y3)) / 61) - ((m_od (Int32.toNatClampNeg y3)) - (m_od (Int32.toNatClampNeg y3)) / 61 * 61)))) (y3 + 1) else none) else none))
set_option maxRecDepth 20000 in
set_option maxHeartbeats 4000000 in
theorem lt_165_63_31 {LL : Nat} {xs : Nat → Int32} {D N : Nat} {c0 : Nat → gE} {m_s : Nat → Int32} {m_kp : Nat → Int32} {m_as : Nat → Int32} {m_ik : Int32} {m_fo : Nat → Int32} {m_tl : Int32} {m_tr : Int32} {m_fa : Nat → Int32} {m_od : Nat → Int32} {m_rc : Int32} {m_be : Nat → Int32} {m_ft : Int32} {m_tp : Nat → Int32} {m_td : Int32} {m_tk : Int32} {m_bg : Int32} {m_en : Int32} {m_vl : Int64} {m_sg : Int32} {m_wi : Nat → Int32} {m_si : Nat → Int32} {m_ce : Nat → Int32} {m_ca : Nat → Int32} {y1 : Int32} {v : Option Value} {M' : List gE} : ∀ (n : Nat) (y2 : Int32) (y3 : Int32) (q : Int32 × Int32), lp_165_63_31 N m_od m_rc n y2 y3 = some q → (kk : hX (gO LL xs) (D + 4) zR_165 82 [some (.ref 63), some (.int y1), some (.int q.1), some (.int q.2), none] [] (hMm c0 m_s m_kp m_as m_ik m_fo m_tl m_tr m_fa m_od m_rc m_be m_ft m_tp m_td m_tk m_bg m_en m_vl m_sg m_wi m_si m_ce m_ca) v M') → hX (gO LL xs) (D + 4) zR_165 31 [some (.ref 63), some (.int y1), some (.int y2), some (.int y3), none] [] (hMm c0 m_s m_kp m_as m_ik m_fo m_tl m_tr m_fa m_od m_rc m_be m_ft m_tp m_td m_tk m_bg m_en m_vl m_sg m_wi m_si m_ce m_ca) v M' := by
  intro n
  induction n with
  | zero => intro y2 y3 q h; cases h
  | succ n ih =>
    intro y2 y3 q h kk
    rw [lp_165_63_31] at h
    refine hX_go 4 (bif gCmp .ge y3 m_rc then 82 else 39) [some (.ref 63), some (.int y1), some (.int y2), some (.int y3), none] [] (hMm c0 m_s m_kp m_as m_ik m_fo m_tl m_tr m_fa m_od m_rc m_be m_ft m_tp m_td m_tk m_bg m_en m_vl m_sg m_wi m_si m_ce m_ca) rfl ?_
    refine hX_if (gCmp .ge y3 m_rc) (fun c1 => ?_) (fun c1 => ?_)
    · skip
      have h := gcT c1 h
      have h := Option.some.inj h; subst h
      exact kk
    · skip
      have h := gcF c1 h
      refine hX_goM 3 (44) [some (.ref 63), some (.int y1), some (.int y2), some (.int y3), none] [.int y3, .ref 69] rfl ?_
      revert h; refine gCondR fun g2 h => ?_
      refine hX_gM (gIn y3 3721) 45 [some (.ref 63), some (.int y1), some (.int y2), some (.int y3), none] [.int (m_od (Int32.toNatClampNeg y3))] rfl g2 ?_
      refine hX_goM 5 (53) [some (.ref 63), some (.int y1), some (.int y2), some (.int y3), none] [.int y3, .ref 69, .int ((m_od (Int32.toNatClampNeg y3)) / 61)] rfl ?_
      revert h; refine gCondR fun g3 h => ?_
      refine hX_gM (gIn y3 3721) 54 [some (.ref 63), some (.int y1), some (.int y2), some (.int y3), none] [.int (m_od (Int32.toNatClampNeg y3)), .int ((m_od (Int32.toNatClampNeg y3)) / 61)] rfl g3 ?_
      refine hX_goM 3 (58) [some (.ref 63), some (.int y1), some (.int y2), some (.int y3), none] [.int (((m_od (Int32.toNatClampNeg y3)) / 61) - ((m_od (Int32.toNatClampNeg y3)) - (m_od (Int32.toNatClampNeg y3)) / 61 * 61))] rfl ?_
      refine hX_call (r' := zR_126) rfl (ct_126 (((m_od (Int32.toNatClampNeg y3)) / 61) - ((m_od (Int32.toNatClampNeg y3)) - (m_od (Int32.toNatClampNeg y3)) / 61 * 61))) ?_
      refine hX_goM 4 (bif gCmp .le (v_126 (((m_od (Int32.toNatClampNeg y3)) / 61) - ((m_od (Int32.toNatClampNeg y3)) - (m_od (Int32.toNatClampNeg y3)) / 61 * 61))) y2 then 74 else 69) [some (.ref 63), some (.int y1), some (.int y2), some (.int y3), some (.int (v_126 (((m_od (Int32.toNatClampNeg y3)) / 61) - ((m_od (Int32.toNatClampNeg y3)) - (m_od (Int32.toNatClampNeg y3)) / 61 * 61))))] [] rfl ?_
      refine hX_mrg 75 [some (.ref 63), some (.int y1), some (.int y2), some (.int y3), some (.int (v_126 (((m_od (Int32.toNatClampNeg y3)) / 61) - ((m_od (Int32.toNatClampNeg y3)) - (m_od (Int32.toNatClampNeg y3)) / 61 * 61))))] [.int (bif gCmp .le (v_126 (((m_od (Int32.toNatClampNeg y3)) / 61) - ((m_od (Int32.toNatClampNeg y3)) - (m_od (Int32.toNatClampNeg y3)) / 61 * 61))) y2 then y2 else (v_126 (((m_od (Int32.toNatClampNeg y3)) / 61) - ((m_od (Int32.toNatClampNeg y3)) - (m_od (Int32.toNatClampNeg y3)) / 61 * 61))))] (hMm c0 m_s m_kp m_as m_ik m_fo m_tl m_tr m_fa m_od m_rc m_be m_ft m_tp m_td m_tk m_bg m_en m_vl m_sg m_wi m_si m_ce m_ca) (fun hk => ?_) ?_
      · skip
        refine hX_if (gCmp .le (v_126 (((m_od (Int32.toNatClampNeg y3)) / 61) - ((m_od (Int32.toNatClampNeg y3)) - (m_od (Int32.toNatClampNeg y3)) / 61 * 61))) y2) (fun c5 => ?_) (fun c5 => ?_)
        · skip
          refine hX_goM 1 (75) [some (.ref 63), some (.int y1), some (.int y2), some (.int y3), some (.int (v_126 (((m_od (Int32.toNatClampNeg y3)) / 61) - ((m_od (Int32.toNatClampNeg y3)) - (m_od (Int32.toNatClampNeg y3)) / 61 * 61))))] [.int y2] rfl ?_
          have hk := hk
          simp only [c5, cond_true, cond_false] at hk
          first | exact hk | (simp only [c5, cond_true, cond_false]; exact hk)
        · skip
          refine hX_goM 2 (75) [some (.ref 63), some (.int y1), some (.int y2), some (.int y3), some (.int (v_126 (((m_od (Int32.toNatClampNeg y3)) / 61) - ((m_od (Int32.toNatClampNeg y3)) - (m_od (Int32.toNatClampNeg y3)) / 61 * 61))))] [.int (v_126 (((m_od (Int32.toNatClampNeg y3)) / 61) - ((m_od (Int32.toNatClampNeg y3)) - (m_od (Int32.toNatClampNeg y3)) / 61 * 61)))] rfl ?_
          have hk := hk
          simp only [c5, cond_true, cond_false] at hk
          first | exact hk | (simp only [c5, cond_true, cond_false]; exact hk)
      refine hX_goM 3 (31) [some (.ref 63), some (.int y1), some (.int (bif gCmp .le (v_126 (((m_od (Int32.toNatClampNeg y3)) / 61) - ((m_od (Int32.toNatClampNeg y3)) - (m_od (Int32.toNatClampNeg y3)) / 61 * 61))) y2 then y2 else (v_126 (((m_od (Int32.toNatClampNeg y3)) / 61) - ((m_od (Int32.toNatClampNeg y3)) - (m_od (Int32.toNatClampNeg y3)) / 61 * 61))))), some (.int (y3 + 1)), some (.int (v_126 (((m_od (Int32.toNatClampNeg y3)) / 61) - ((m_od (Int32.toNatClampNeg y3)) - (m_od (Int32.toNatClampNeg y3)) / 61 * 61))))] [] rfl ?_
      exact hX_wk (gLe_s (gLe_s (gLe_s (gLe_s (gLe_n gLe_0))))) (ih (bif gCmp .le (v_126 (((m_od (Int32.toNatClampNeg y3)) / 61) - ((m_od (Int32.toNatClampNeg y3)) - (m_od (Int32.toNatClampNeg y3)) / 61 * 61))) y2 then y2 else (v_126 (((m_od (Int32.toNatClampNeg y3)) / 61) - ((m_od (Int32.toNatClampNeg y3)) - (m_od (Int32.toNatClampNeg y3)) / 61 * 61)))) (y3 + 1) q h kk)

/-- UpOneSideModel.worst()I -/
def me_165_63 (N : Nat) (m_s : Nat → Int32) (m_tl : Int32) (m_tr : Int32) (m_fa : Nat → Int32) (m_od : Nat → Int32) : Option (Int32 × Int32 × Int32 × (Nat → Int32) × (Nat → Int32) × Int32) :=
  (Option.bind (me_161_63 N (m_s 0) (m_s 1) 0 m_s m_tl m_tr m_fa m_od) fun q1 =>
  (Option.bind (lp_165_63_31 N q1.2.2.2.2.1 q1.2.2.2.2.2 N (bif gCmp .ge q1.1 (-1) then 0 else q1.1) 0) fun q4 =>
  some (q4.1, q1.2.1, q1.2.2.1, q1.2.2.2.1, q1.2.2.2.2.1, q1.2.2.2.2.2)))
set_option maxRecDepth 20000 in
set_option maxHeartbeats 4000000 in
theorem mt_165_63 {LL : Nat} {xs : Nat → Int32} {D : Nat} {c0 : Nat → gE} {m_s : Nat → Int32} {m_kp : Nat → Int32} {m_as : Nat → Int32} {m_ik : Int32} {m_fo : Nat → Int32} {m_tl : Int32} {m_tr : Int32} {m_fa : Nat → Int32} {m_od : Nat → Int32} {m_rc : Int32} {m_be : Nat → Int32} {m_ft : Int32} {m_tp : Nat → Int32} {m_td : Int32} {m_tk : Int32} {m_bg : Int32} {m_en : Int32} {m_vl : Int64} {m_sg : Int32} {m_wi : Nat → Int32} {m_si : Nat → Int32} {m_ce : Nat → Int32} {m_ca : Nat → Int32} (N : Nat) (q : Int32 × Int32 × Int32 × (Nat → Int32) × (Nat → Int32) × Int32) (h : me_165_63 N m_s m_tl m_tr m_fa m_od = some q) : hM (gO LL xs) (D + 4) zR_165 [.ref 63] (hMm c0 m_s m_kp m_as m_ik m_fo m_tl m_tr m_fa m_od m_rc m_be m_ft m_tp m_td m_tk m_bg m_en m_vl m_sg m_wi m_si m_ce m_ca) (some (.int q.1)) (hMm c0 m_s m_kp m_as m_ik m_fo q.2.1 q.2.2.1 q.2.2.2.1 q.2.2.2.2.1 q.2.2.2.2.2 m_be m_ft m_tp m_td m_tk m_bg m_en m_vl m_sg m_wi m_si m_ce m_ca) := by
  unfold me_165_63 at h
  refine hX_go 0 0 [some (.ref 63), none, none, none, none] [] (hMm c0 m_s m_kp m_as m_ik m_fo m_tl m_tr m_fa m_od m_rc m_be m_ft m_tp m_td m_tk m_bg m_en m_vl m_sg m_wi m_si m_ce m_ca) rfl ?_
  refine hX_go 9 (13) [some (.ref 63), none, none, none, none] [.int (m_s 1), .int (m_s 0), .ref 63] (hMm c0 m_s m_kp m_as m_ik m_fo m_tl m_tr m_fa m_od m_rc m_be m_ft m_tp m_td m_tk m_bg m_en m_vl m_sg m_wi m_si m_ce m_ca) rfl ?_
  refine hX_goM 1 (14) [some (.ref 63), none, none, none, none] [.int 0, .int (m_s 1), .int (m_s 0), .ref 63] rfl ?_
  revert h; refine gBindR fun q1 e1 h => ?_
  refine hX_call (r' := zR_161) rfl (mt_161_63 N (m_s 0) (m_s 1) 0 q1 e1) ?_
  refine hX_go 4 (bif gCmp .ge q1.1 (-1) then 27 else 23) [some (.ref 63), some (.int q1.1), none, none, none] [] (hMm c0 m_s m_kp m_as m_ik m_fo q1.2.1 q1.2.2.1 q1.2.2.2.1 q1.2.2.2.2.1 q1.2.2.2.2.2 m_be m_ft m_tp m_td m_tk m_bg m_en m_vl m_sg m_wi m_si m_ce m_ca) rfl ?_
  refine hX_mrg 28 [some (.ref 63), some (.int q1.1), none, none, none] [.int (bif gCmp .ge q1.1 (-1) then 0 else q1.1)] (hMm c0 m_s m_kp m_as m_ik m_fo q1.2.1 q1.2.2.1 q1.2.2.2.1 q1.2.2.2.2.1 q1.2.2.2.2.2 m_be m_ft m_tp m_td m_tk m_bg m_en m_vl m_sg m_wi m_si m_ce m_ca) (fun hk => ?_) ?_
  · skip
    refine hX_if (gCmp .ge q1.1 (-1)) (fun c3 => ?_) (fun c3 => ?_)
    · skip
      refine hX_goM 1 (28) [some (.ref 63), some (.int q1.1), none, none, none] [.int 0] rfl ?_
      have hk := hk
      simp only [c3, cond_true, cond_false] at hk
      first | exact hk | (simp only [c3, cond_true, cond_false]; exact hk)
    · skip
      refine hX_goM 2 (28) [some (.ref 63), some (.int q1.1), none, none, none] [.int q1.1] rfl ?_
      have hk := hk
      simp only [c3, cond_true, cond_false] at hk
      first | exact hk | (simp only [c3, cond_true, cond_false]; exact hk)
  refine hX_goM 3 (31) [some (.ref 63), some (.int q1.1), some (.int (bif gCmp .ge q1.1 (-1) then 0 else q1.1)), some (.int 0), none] [] rfl ?_
  revert h; refine gBindR fun q4 e4 h => ?_
  refine lt_165_63_31 N (bif gCmp .ge q1.1 (-1) then 0 else q1.1) 0 q4 e4 ?_
  refine hX_goM 1 (83) [some (.ref 63), some (.int q1.1), some (.int q4.1), some (.int q4.2), none] [.int q4.1] rfl ?_
  have h := Option.some.inj h; subst h
  exact hX_end rfl rfl rfl
