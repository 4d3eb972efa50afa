/-- UpOneSideModel.no(I)I -/
def v_124_63 (x0 : Int32) : Int32 := (-1000001) - x0
def f_124_63_m_fo (x0 : Int32) (m_fo : Nat → Int32) : Nat → Int32 := upd m_fo (Int32.toNatClampNeg x0) ((m_fo (Int32.toNatClampNeg x0)) + 1)
set_option maxRecDepth 20000 in
set_option maxHeartbeats 1000000 in
theorem ct_124_63 {LL : Nat} {xs : Nat → Int32} {D : Nat} {c0 : Nat → gE} {m_s : Nat → Int32} {m_kp : Nat → Int32} {m_as : Nat → Int32} {m_ik : Int32} {m_fo : Nat → Int32} {m_tl : Int32} {m_tr : Int32} {m_fa : Nat → Int32} {m_od : Nat → Int32} {m_rc : Int32} {m_be : Nat → Int32} {m_ft : Int32} {m_tp : Nat → Int32} {m_td : Int32} {m_tk : Int32} {m_bg : Int32} {m_en : Int32} {m_vl : Int64} {m_sg : Int32} {m_wi : Nat → Int32} {m_si : Nat → Int32} {m_ce : Nat → Int32} {m_ca : Nat → Int32} (x0 : Int32) (o1 : gIn x0 7 = true) : hM (gO LL xs) (D + 0) zR_124 [.ref 63, .int x0] (hMm c0 m_s m_kp m_as m_ik m_fo m_tl m_tr m_fa m_od m_rc m_be m_ft m_tp m_td m_tk m_bg m_en m_vl m_sg m_wi m_si m_ce m_ca) (some (.int (v_124_63 x0))) (hMm c0 m_s m_kp m_as m_ik (f_124_63_m_fo x0 m_fo) m_tl m_tr m_fa m_od m_rc m_be m_ft m_tp m_td m_tk m_bg m_en m_vl m_sg m_wi m_si m_ce m_ca) := by
  refine hX_go 0 0 [some (.ref 63), some (.int x0)] [] (hMm c0 m_s m_kp m_as m_ik m_fo m_tl m_tr m_fa m_od m_rc m_be m_ft m_tp m_td m_tk m_bg m_en m_vl m_sg m_wi m_si m_ce m_ca) rfl ?_
  refine hX_go 4 (6) [some (.ref 63), some (.int x0)] [.int x0, .ref 67, .int x0, .ref 67] (hMm c0 m_s m_kp m_as m_ik m_fo m_tl m_tr m_fa m_od m_rc m_be m_ft m_tp m_td m_tk m_bg m_en m_vl m_sg m_wi m_si m_ce m_ca) rfl ?_
  refine hX_g (gIn x0 7) 7 [some (.ref 63), some (.int x0)] [.int (m_fo (Int32.toNatClampNeg x0)), .int x0, .ref 67] (hMm c0 m_s m_kp m_as m_ik m_fo m_tl m_tr m_fa m_od m_rc m_be m_ft m_tp m_td m_tk m_bg m_en m_vl m_sg m_wi m_si m_ce m_ca) rfl o1 ?_
  refine hX_go 2 (9) [some (.ref 63), some (.int x0)] [.int ((m_fo (Int32.toNatClampNeg x0)) + 1), .int x0, .ref 67] (hMm c0 m_s m_kp m_as m_ik m_fo m_tl m_tr m_fa m_od m_rc m_be m_ft m_tp m_td m_tk m_bg m_en m_vl m_sg m_wi m_si m_ce m_ca) rfl ?_
  refine hX_g (gIn x0 7) 10 [some (.ref 63), some (.int x0)] [] (hMm c0 m_s m_kp m_as m_ik (upd m_fo (Int32.toNatClampNeg x0) ((m_fo (Int32.toNatClampNeg x0)) + 1)) m_tl m_tr m_fa m_od m_rc m_be m_ft m_tp m_td m_tk m_bg m_en m_vl m_sg m_wi m_si m_ce m_ca) rfl o1 ?_
  refine hX_go 3 (14) [some (.ref 63), some (.int x0)] [.int ((-1000001) - x0)] (hMm c0 m_s m_kp m_as m_ik (upd m_fo (Int32.toNatClampNeg x0) ((m_fo (Int32.toNatClampNeg x0)) + 1)) m_tl m_tr m_fa m_od m_rc m_be m_ft m_tp m_td m_tk m_bg m_en m_vl m_sg m_wi m_si m_ce m_ca) rfl ?_
  exact hX_end rfl (rfl) (rfl)

/-- UpOneSideModel.in1(III)Z -/
def v_125 (x0 : Int32) (x1 : Int32) (x2 : Int32) : Int32 := bif gCmp .lt x0 x1 then 0 else (bif gCmp .gt x0 x2 then 0 else 1)
set_option maxRecDepth 20000 in
set_option maxHeartbeats 1000000 in
theorem ct_125 {LL : Nat} {xs : Nat → Int32} {D : Nat} {c0 : Nat → gE} {m_s : Nat → Int32} {m_kp : Nat → Int32} {m_as : Nat → Int32} {m_ik : Int32} {m_fo : Nat → Int32} {m_tl : Int32} {m_tr : Int32} {m_fa : Nat → Int32} {m_od : Nat → Int32} {m_rc : Int32} {m_be : Nat → Int32} {m_ft : Int32} {m_tp : Nat → Int32} {m_td : Int32} {m_tk : Int32} {m_bg : Int32} {m_en : Int32} {m_vl : Int64} {m_sg : Int32} {m_wi : Nat → Int32} {m_si : Nat → Int32} {m_ce : Nat → Int32} {m_ca : Nat → Int32} (x0 : Int32) (x1 : Int32) (x2 : Int32) : hM (gO LL xs) (D + 0) zR_125 [.int x0, .int x1, .int x2] (hMm c0 m_s m_kp m_as m_ik m_fo m_tl m_tr m_fa m_od m_rc m_be m_ft m_tp m_td m_tk m_bg m_en m_vl m_sg m_wi m_si m_ce m_ca) (some (.int (v_125 x0 x1 x2))) (hMm c0 m_s m_kp m_as m_ik m_fo m_tl m_tr m_fa m_od m_rc m_be m_ft m_tp m_td m_tk m_bg m_en m_vl m_sg m_wi m_si m_ce m_ca) := by
  refine hX_go 0 0 [some (.int x0), some (.int x1), some (.int x2)] [] (hMm c0 m_s m_kp m_as m_ik m_fo m_tl m_tr m_fa m_od m_rc m_be m_ft m_tp m_td m_tk m_bg m_en m_vl m_sg m_wi m_si m_ce m_ca) rfl ?_
  refine hX_go 3 (bif gCmp .lt x0 x1 then 14 else 5) [some (.int x0), some (.int x1), some (.int x2)] [] (hMm c0 m_s m_kp m_as m_ik m_fo m_tl m_tr m_fa m_od m_rc m_be m_ft m_tp m_td m_tk m_bg m_en m_vl m_sg m_wi m_si m_ce m_ca) rfl ?_
  refine hX_if (gCmp .lt x0 x1) (fun c1 => ?_) (fun c1 => ?_)
  · skip
    refine hX_go 1 (15) [some (.int x0), some (.int x1), some (.int x2)] [.int 0] (hMm c0 m_s m_kp m_as m_ik m_fo m_tl m_tr m_fa m_od m_rc m_be m_ft m_tp m_td m_tk m_bg m_en m_vl m_sg m_wi m_si m_ce m_ca) rfl ?_
    exact hX_end rfl (by unfold v_125; rw [c1]; rfl) (rfl)
  · skip
    refine hX_go 3 (bif gCmp .gt x0 x2 then 14 else 10) [some (.int x0), some (.int x1), some (.int x2)] [] (hMm c0 m_s m_kp m_as m_ik m_fo m_tl m_tr m_fa m_od m_rc m_be m_ft m_tp m_td m_tk m_bg m_en m_vl m_sg m_wi m_si m_ce m_ca) rfl ?_
    refine hX_if (gCmp .gt x0 x2) (fun c2 => ?_) (fun c2 => ?_)
    · skip
      refine hX_go 1 (15) [some (.int x0), some (.int x1), some (.int x2)] [.int 0] (hMm c0 m_s m_kp m_as m_ik m_fo m_tl m_tr m_fa m_od m_rc m_be m_ft m_tp m_td m_tk m_bg m_en m_vl m_sg m_wi m_si m_ce m_ca) rfl ?_
      exact hX_end rfl (by unfold v_125; rw [c1, c2]; rfl) (rfl)
    · skip
      refine hX_go 2 (15) [some (.int x0), some (.int x1), some (.int x2)] [.int 1] (hMm c0 m_s m_kp m_as m_ik m_fo m_tl m_tr m_fa m_od m_rc m_be m_ft m_tp m_td m_tk m_bg m_en m_vl m_sg m_wi m_si m_ce m_ca) rfl ?_
      exact hX_end rfl (by unfold v_125; rw [c1, c2]; rfl) (rfl)

theorem bz_125 (x0 : Int32) (x1 : Int32) (x2 : Int32) : (decide (v_125 x0 x1 x2 = 0) || decide (v_125 x0 x1 x2 = 1)) = true := by
  unfold v_125
  cases (gCmp .lt x0 x1)
  · cases (gCmp .gt x0 x2)
    · rfl
    · rfl
  · rfl

/-- UpOneSideModel.size(I)I -/
def v_126 (x0 : Int32) : Int32 := bif gCmp .ge x0 0 then x0 else (-x0)
set_option maxRecDepth 20000 in
set_option maxHeartbeats 1000000 in
theorem ct_126 {LL : Nat} {xs : Nat → Int32} {D : Nat} {c0 : Nat → gE} {m_s : Nat → Int32} {m_kp : Nat → Int32} {m_as : Nat → Int32} {m_ik : Int32} {m_fo : Nat → Int32} {m_tl : Int32} {m_tr : Int32} {m_fa : Nat → Int32} {m_od : Nat → Int32} {m_rc : Int32} {m_be : Nat → Int32} {m_ft : Int32} {m_tp : Nat → Int32} {m_td : Int32} {m_tk : Int32} {m_bg : Int32} {m_en : Int32} {m_vl : Int64} {m_sg : Int32} {m_wi : Nat → Int32} {m_si : Nat → Int32} {m_ce : Nat → Int32} {m_ca : Nat → Int32} (x0 : Int32) : hM (gO LL xs) (D + 0) zR_126 [.int x0] (hMm c0 m_s m_kp m_as m_ik m_fo m_tl m_tr m_fa m_od m_rc m_be m_ft m_tp m_td m_tk m_bg m_en m_vl m_sg m_wi m_si m_ce m_ca) (some (.int (v_126 x0))) (hMm c0 m_s m_kp m_as m_ik m_fo m_tl m_tr m_fa m_od m_rc m_be m_ft m_tp m_td m_tk m_bg m_en m_vl m_sg m_wi m_si m_ce m_ca) := by
  refine hX_go 0 0 [some (.int x0)] [] (hMm c0 m_s m_kp m_as m_ik m_fo m_tl m_tr m_fa m_od m_rc m_be m_ft m_tp m_td m_tk m_bg m_en m_vl m_sg m_wi m_si m_ce m_ca) rfl ?_
  refine hX_go 2 (bif gCmp .ge x0 0 then 9 else 4) [some (.int x0)] [] (hMm c0 m_s m_kp m_as m_ik m_fo m_tl m_tr m_fa m_od m_rc m_be m_ft m_tp m_td m_tk m_bg m_en m_vl m_sg m_wi m_si m_ce m_ca) rfl ?_
  suffices hk : hX (gO LL xs) (D + 0) zR_126 10 [some (.int x0)] [.int (bif gCmp .ge x0 0 then x0 else (-x0))] (hMm c0 m_s m_kp m_as m_ik m_fo m_tl m_tr m_fa m_od m_rc m_be m_ft m_tp m_td m_tk m_bg m_en m_vl m_sg m_wi m_si m_ce m_ca) (some (.int (v_126 x0))) (hMm c0 m_s m_kp m_as m_ik m_fo m_tl m_tr m_fa m_od m_rc m_be m_ft m_tp m_td m_tk m_bg m_en m_vl m_sg m_wi m_si m_ce m_ca) by
    refine hX_if (gCmp .ge x0 0) (fun c1 => ?_) (fun c1 => ?_)
    · skip
      refine hX_go 1 (10) [some (.int x0)] [.int x0] (hMm c0 m_s m_kp m_as m_ik m_fo m_tl m_tr m_fa m_od m_rc m_be m_ft m_tp m_td m_tk m_bg m_en m_vl m_sg m_wi m_si m_ce m_ca) rfl ?_
      have hk := hk
      simp only [c1, cond_true, cond_false] at hk
      first | exact hk | (simp only [c1, cond_true, cond_false]; exact hk)
    · skip
      refine hX_go 3 (10) [some (.int x0)] [.int (-x0)] (hMm c0 m_s m_kp m_as m_ik m_fo m_tl m_tr m_fa m_od m_rc m_be m_ft m_tp m_td m_tk m_bg m_en m_vl m_sg m_wi m_si m_ce m_ca) rfl ?_
      have hk := hk
      simp only [c1, cond_true, cond_false] at hk
      first | exact hk | (simp only [c1, cond_true, cond_false]; exact hk)
  exact hX_end rfl (rfl) (rfl)

/-- UpOneSideModel.held(I)I -/
def v_127 (x0 : Int32) : Int32 := bif gCmp .ge x0 0 then (bif gCmp .le x0 60 then x0 else 60) else 0
set_option maxRecDepth 20000 in
set_option maxHeartbeats 1000000 in
theorem ct_127 {LL : Nat} {xs : Nat → Int32} {D : Nat} {c0 : Nat → gE} {m_s : Nat → Int32} {m_kp : Nat → Int32} {m_as : Nat → Int32} {m_ik : Int32} {m_fo : Nat → Int32} {m_tl : Int32} {m_tr : Int32} {m_fa : Nat → Int32} {m_od : Nat → Int32} {m_rc : Int32} {m_be : Nat → Int32} {m_ft : Int32} {m_tp : Nat → Int32} {m_td : Int32} {m_tk : Int32} {m_bg : Int32} {m_en : Int32} {m_vl : Int64} {m_sg : Int32} {m_wi : Nat → Int32} {m_si : Nat → Int32} {m_ce : Nat → Int32} {m_ca : Nat → Int32} (x0 : Int32) : hM (gO LL xs) (D + 0) zR_127 [.int x0] (hMm c0 m_s m_kp m_as m_ik m_fo m_tl m_tr m_fa m_od m_rc m_be m_ft m_tp m_td m_tk m_bg m_en m_vl m_sg m_wi m_si m_ce m_ca) (some (.int (v_127 x0))) (hMm c0 m_s m_kp m_as m_ik m_fo m_tl m_tr m_fa m_od m_rc m_be m_ft m_tp m_td m_tk m_bg m_en m_vl m_sg m_wi m_si m_ce m_ca) := by
  refine hX_go 0 0 [some (.int x0)] [] (hMm c0 m_s m_kp m_as m_ik m_fo m_tl m_tr m_fa m_od m_rc m_be m_ft m_tp m_td m_tk m_bg m_en m_vl m_sg m_wi m_si m_ce m_ca) rfl ?_
  refine hX_go 2 (bif gCmp .ge x0 0 then 8 else 4) [some (.int x0)] [] (hMm c0 m_s m_kp m_as m_ik m_fo m_tl m_tr m_fa m_od m_rc m_be m_ft m_tp m_td m_tk m_bg m_en m_vl m_sg m_wi m_si m_ce m_ca) rfl ?_
  suffices hk : hX (gO LL xs) (D + 0) zR_127 20 [some (.int x0)] [.int (bif gCmp .ge x0 0 then (bif gCmp .le x0 60 then x0 else 60) else 0)] (hMm c0 m_s m_kp m_as m_ik m_fo m_tl m_tr m_fa m_od m_rc m_be m_ft m_tp m_td m_tk m_bg m_en m_vl m_sg m_wi m_si m_ce m_ca) (some (.int (v_127 x0))) (hMm c0 m_s m_kp m_as m_ik m_fo m_tl m_tr m_fa m_od m_rc m_be m_ft m_tp m_td m_tk m_bg m_en m_vl m_sg m_wi m_si m_ce m_ca) by
    refine hX_if (gCmp .ge x0 0) (fun c1 => ?_) (fun c1 => ?_)
    · skip
      refine hX_go 3 (bif gCmp .le x0 60 then 19 else 14) [some (.int x0)] [] (hMm c0 m_s m_kp m_as m_ik m_fo m_tl m_tr m_fa m_od m_rc m_be m_ft m_tp m_td m_tk m_bg m_en m_vl m_sg m_wi m_si m_ce m_ca) rfl ?_
      refine hX_if (gCmp .le x0 60) (fun c2 => ?_) (fun c2 => ?_)
      · skip
        refine hX_go 1 (20) [some (.int x0)] [.int x0] (hMm c0 m_s m_kp m_as m_ik m_fo m_tl m_tr m_fa m_od m_rc m_be m_ft m_tp m_td m_tk m_bg m_en m_vl m_sg m_wi m_si m_ce m_ca) rfl ?_
        have hk := hk
        simp only [c1, c2, cond_true, cond_false] at hk
        first | exact hk | (simp only [c1, c2, cond_true, cond_false]; exact hk)
      · skip
        refine hX_go 2 (20) [some (.int x0)] [.int 60] (hMm c0 m_s m_kp m_as m_ik m_fo m_tl m_tr m_fa m_od m_rc m_be m_ft m_tp m_td m_tk m_bg m_en m_vl m_sg m_wi m_si m_ce m_ca) rfl ?_
        have hk := hk
        simp only [c1, c2, cond_true, cond_false] at hk
        first | exact hk | (simp only [c1, c2, cond_true, cond_false]; exact hk)
    · skip
      refine hX_go 2 (20) [some (.int x0)] [.int 0] (hMm c0 m_s m_kp m_as m_ik m_fo m_tl m_tr m_fa m_od m_rc m_be m_ft m_tp m_td m_tk m_bg m_en m_vl m_sg m_wi m_si m_ce m_ca) rfl ?_
      have hk := hk
      simp only [c1, cond_true, cond_false] at hk
      first | exact hk | (simp only [c1, cond_true, cond_false]; exact hk)
  exact hX_end rfl (rfl) (rfl)

/-- UpOneSideModel.isIn(II)Z -/
def v_128 (x0 : Int32) (x1 : Int32) : Int32 := bif gCmp .ne ((x0 >>> (x1 &&& 31)) &&& 1) 1 then 0 else 1
set_option maxRecDepth 20000 in
set_option maxHeartbeats 1000000 in
theorem ct_128 {LL : Nat} {xs : Nat → Int32} {D : Nat} {c0 : Nat → gE} {m_s : Nat → Int32} {m_kp : Nat → Int32} {m_as : Nat → Int32} {m_ik : Int32} {m_fo : Nat → Int32} {m_tl : Int32} {m_tr : Int32} {m_fa : Nat → Int32} {m_od : Nat → Int32} {m_rc : Int32} {m_be : Nat → Int32} {m_ft : Int32} {m_tp : Nat → Int32} {m_td : Int32} {m_tk : Int32} {m_bg : Int32} {m_en : Int32} {m_vl : Int64} {m_sg : Int32} {m_wi : Nat → Int32} {m_si : Nat → Int32} {m_ce : Nat → Int32} {m_ca : Nat → Int32} (x0 : Int32) (x1 : Int32) : hM (gO LL xs) (D + 0) zR_128 [.int x0, .int x1] (hMm c0 m_s m_kp m_as m_ik m_fo m_tl m_tr m_fa m_od m_rc m_be m_ft m_tp m_td m_tk m_bg m_en m_vl m_sg m_wi m_si m_ce m_ca) (some (.int (v_128 x0 x1))) (hMm c0 m_s m_kp m_as m_ik m_fo m_tl m_tr m_fa m_od m_rc m_be m_ft m_tp m_td m_tk m_bg m_en m_vl m_sg m_wi m_si m_ce m_ca) := by
  refine hX_go 0 0 [some (.int x0), some (.int x1)] [] (hMm c0 m_s m_kp m_as m_ik m_fo m_tl m_tr m_fa m_od m_rc m_be m_ft m_tp m_td m_tk m_bg m_en m_vl m_sg m_wi m_si m_ce m_ca) rfl ?_
  refine hX_go 7 (bif gCmp .ne ((x0 >>> (x1 &&& 31)) &&& 1) 1 then 13 else 9) [some (.int x0), some (.int x1)] [] (hMm c0 m_s m_kp m_as m_ik m_fo m_tl m_tr m_fa m_od m_rc m_be m_ft m_tp m_td m_tk m_bg m_en m_vl m_sg m_wi m_si m_ce m_ca) rfl ?_
  refine hX_if (gCmp .ne ((x0 >>> (x1 &&& 31)) &&& 1) 1) (fun c1 => ?_) (fun c1 => ?_)
  · skip
    refine hX_go 1 (14) [some (.int x0), some (.int x1)] [.int 0] (hMm c0 m_s m_kp m_as m_ik m_fo m_tl m_tr m_fa m_od m_rc m_be m_ft m_tp m_td m_tk m_bg m_en m_vl m_sg m_wi m_si m_ce m_ca) rfl ?_
    exact hX_end rfl (by unfold v_128; rw [c1]; rfl) (rfl)
  · skip
    refine hX_go 2 (14) [some (.int x0), some (.int x1)] [.int 1] (hMm c0 m_s m_kp m_as m_ik m_fo m_tl m_tr m_fa m_od m_rc m_be m_ft m_tp m_td m_tk m_bg m_en m_vl m_sg m_wi m_si m_ce m_ca) rfl ?_
    exact hX_end rfl (by unfold v_128; rw [c1]; rfl) (rfl)

theorem bz_128 (x0 : Int32) (x1 : Int32) : (decide (v_128 x0 x1 = 0) || decide (v_128 x0 x1 = 1)) = true := by
  unfold v_128
  cases (gCmp .ne ((x0 >>> (x1 &&& 31)) &&& 1) 1)
  · rfl
  · rfl

/-- UpOneSideModel.isPull(I)Z -/
def v_129_63 (x0 : Int32) (m_s : Nat → Int32) : Int32 := v_125 x0 0 ((m_s 3) - 1)
set_option maxRecDepth 20000 in
set_option maxHeartbeats 1000000 in
theorem ct_129_63 {LL : Nat} {xs : Nat → Int32} {D : Nat} {c0 : Nat → gE} {m_s : Nat → Int32} {m_kp : Nat → Int32} {m_as : Nat → Int32} {m_ik : Int32} {m_fo : Nat → Int32} {m_tl : Int32} {m_tr : Int32} {m_fa : Nat → Int32} {m_od : Nat → Int32} {m_rc : Int32} {m_be : Nat → Int32} {m_ft : Int32} {m_tp : Nat → Int32} {m_td : Int32} {m_tk : Int32} {m_bg : Int32} {m_en : Int32} {m_vl : Int64} {m_sg : Int32} {m_wi : Nat → Int32} {m_si : Nat → Int32} {m_ce : Nat → Int32} {m_ca : Nat → Int32} (x0 : Int32) : hM (gO LL xs) (D + 1) zR_129 [.ref 63, .int x0] (hMm c0 m_s m_kp m_as m_ik m_fo m_tl m_tr m_fa m_od m_rc m_be m_ft m_tp m_td m_tk m_bg m_en m_vl m_sg m_wi m_si m_ce m_ca) (some (.int (v_129_63 x0 m_s))) (hMm c0 m_s m_kp m_as m_ik m_fo m_tl m_tr m_fa m_od m_rc m_be m_ft m_tp m_td m_tk m_bg m_en m_vl m_sg m_wi m_si m_ce m_ca) := by
  refine hX_go 0 0 [some (.ref 63), some (.int x0)] [] (hMm c0 m_s m_kp m_as m_ik m_fo m_tl m_tr m_fa m_od m_rc m_be m_ft m_tp m_td m_tk m_bg m_en m_vl m_sg m_wi m_si m_ce m_ca) rfl ?_
  refine hX_go 8 (10) [some (.ref 63), some (.int x0)] [.int ((m_s 3) - 1), .int 0, .int x0] (hMm c0 m_s m_kp m_as m_ik m_fo m_tl m_tr m_fa m_od m_rc m_be m_ft m_tp m_td m_tk m_bg m_en m_vl m_sg m_wi m_si m_ce m_ca) rfl ?_
  refine hX_call (r' := zR_125) rfl (ct_125 x0 0 ((m_s 3) - 1)) ?_
  refine hX_go 0 (13) [some (.ref 63), some (.int x0)] [.int (v_125 x0 0 ((m_s 3) - 1))] (hMm c0 m_s m_kp m_as m_ik m_fo m_tl m_tr m_fa m_od m_rc m_be m_ft m_tp m_td m_tk m_bg m_en m_vl m_sg m_wi m_si m_ce m_ca) rfl ?_
  exact hX_endZ rfl (bz_125 x0 0 ((m_s 3) - 1)) (rfl) (rfl)

theorem bz_129_63 (x0 : Int32) (m_s : Nat → Int32) : (decide (v_129_63 x0 m_s = 0) || decide (v_129_63 x0 m_s = 1)) = true := by
  unfold v_129_63
  exact (bz_125 x0 0 ((m_s 3) - 1))

/-- UpOneSideModel.isHeight(I)Z -/
def v_130 (x0 : Int32) : Int32 := v_125 x0 0 60
set_option maxRecDepth 20000 in
set_option maxHeartbeats 1000000 in
theorem ct_130 {LL : Nat} {xs : Nat → Int32} {D : Nat} {c0 : Nat → gE} {m_s : Nat → Int32} {m_kp : Nat → Int32} {m_as : Nat → Int32} {m_ik : Int32} {m_fo : Nat → Int32} {m_tl : Int32} {m_tr : Int32} {m_fa : Nat → Int32} {m_od : Nat → Int32} {m_rc : Int32} {m_be : Nat → Int32} {m_ft : Int32} {m_tp : Nat → Int32} {m_td : Int32} {m_tk : Int32} {m_bg : Int32} {m_en : Int32} {m_vl : Int64} {m_sg : Int32} {m_wi : Nat → Int32} {m_si : Nat → Int32} {m_ce : Nat → Int32} {m_ca : Nat → Int32} (x0 : Int32) : hM (gO LL xs) (D + 1) zR_130 [.int x0] (hMm c0 m_s m_kp m_as m_ik m_fo m_tl m_tr m_fa m_od m_rc m_be m_ft m_tp m_td m_tk m_bg m_en m_vl m_sg m_wi m_si m_ce m_ca) (some (.int (v_130 x0))) (hMm c0 m_s m_kp m_as m_ik m_fo m_tl m_tr m_fa m_od m_rc m_be m_ft m_tp m_td m_tk m_bg m_en m_vl m_sg m_wi m_si m_ce m_ca) := by
  refine hX_go 0 0 [some (.int x0)] [] (hMm c0 m_s m_kp m_as m_ik m_fo m_tl m_tr m_fa m_od m_rc m_be m_ft m_tp m_td m_tk m_bg m_en m_vl m_sg m_wi m_si m_ce m_ca) rfl ?_
  refine hX_go 3 (4) [some (.int x0)] [.int 60, .int 0, .int x0] (hMm c0 m_s m_kp m_as m_ik m_fo m_tl m_tr m_fa m_od m_rc m_be m_ft m_tp m_td m_tk m_bg m_en m_vl m_sg m_wi m_si m_ce m_ca) rfl ?_
  refine hX_call (r' := zR_125) rfl (ct_125 x0 0 60) ?_
  refine hX_go 0 (7) [some (.int x0)] [.int (v_125 x0 0 60)] (hMm c0 m_s m_kp m_as m_ik m_fo m_tl m_tr m_fa m_od m_rc m_be m_ft m_tp m_td m_tk m_bg m_en m_vl m_sg m_wi m_si m_ce m_ca) rfl ?_
  exact hX_endZ rfl (bz_125 x0 0 60) (rfl) (rfl)

theorem bz_130 (x0 : Int32) : (decide (v_130 x0 = 0) || decide (v_130 x0 = 1)) = true := by
  unfold v_130
  exact (bz_125 x0 0 60)

/-- UpOneSideModel.get(II)I -/
def v_131_63 (x0 : Int32) (x1 : Int32) (m_s : Nat → Int32) : Int32 := m_s (Int32.toNatClampNeg ((15 + (3 * x0)) + x1))
set_option maxRecDepth 20000 in
set_option maxHeartbeats 1000000 in
theorem ct_131_63 {LL : Nat} {xs : Nat → Int32} {D : Nat} {c0 : Nat → gE} {m_s : Nat → Int32} {m_kp : Nat → Int32} {m_as : Nat → Int32} {m_ik : Int32} {m_fo : Nat → Int32} {m_tl : Int32} {m_tr : Int32} {m_fa : Nat → Int32} {m_od : Nat → Int32} {m_rc : Int32} {m_be : Nat → Int32} {m_ft : Int32} {m_tp : Nat → Int32} {m_td : Int32} {m_tk : Int32} {m_bg : Int32} {m_en : Int32} {m_vl : Int64} {m_sg : Int32} {m_wi : Nat → Int32} {m_si : Nat → Int32} {m_ce : Nat → Int32} {m_ca : Nat → Int32} (x0 : Int32) (x1 : Int32) (o1 : gIn ((15 + (3 * x0)) + x1) 134 = true) : hM (gO LL xs) (D + 0) zR_131 [.ref 63, .int x0, .int x1] (hMm c0 m_s m_kp m_as m_ik m_fo m_tl m_tr m_fa m_od m_rc m_be m_ft m_tp m_td m_tk m_bg m_en m_vl m_sg m_wi m_si m_ce m_ca) (some (.int (v_131_63 x0 x1 m_s))) (hMm c0 m_s m_kp m_as m_ik m_fo m_tl m_tr m_fa m_od m_rc m_be m_ft m_tp m_td m_tk m_bg m_en m_vl m_sg m_wi m_si m_ce m_ca) := by
  refine hX_go 0 0 [some (.ref 63), some (.int x0), some (.int x1)] [] (hMm c0 m_s m_kp m_as m_ik m_fo m_tl m_tr m_fa m_od m_rc m_be m_ft m_tp m_td m_tk m_bg m_en m_vl m_sg m_wi m_si m_ce m_ca) rfl ?_
  refine hX_go 9 (12) [some (.ref 63), some (.int x0), some (.int x1)] [.int ((15 + (3 * x0)) + x1), .ref 64] (hMm c0 m_s m_kp m_as m_ik m_fo m_tl m_tr m_fa m_od m_rc m_be m_ft m_tp m_td m_tk m_bg m_en m_vl m_sg m_wi m_si m_ce m_ca) rfl ?_
  refine hX_g (gIn ((15 + (3 * x0)) + x1) 134) 13 [some (.ref 63), some (.int x0), some (.int x1)] [.int (m_s (Int32.toNatClampNeg ((15 + (3 * x0)) + x1)))] (hMm c0 m_s m_kp m_as m_ik m_fo m_tl m_tr m_fa m_od m_rc m_be m_ft m_tp m_td m_tk m_bg m_en m_vl m_sg m_wi m_si m_ce m_ca) rfl o1 ?_
  exact hX_end rfl (rfl) (rfl)

/-- UpOneSideModel.puts(III)V -/
def f_132_63_m_s (x0 : Int32) (x1 : Int32) (x2 : Int32) (m_s : Nat → Int32) : Nat → Int32 := upd m_s (Int32.toNatClampNeg ((15 + (3 * x0)) + x1)) x2
set_option maxRecDepth 20000 in
set_option maxHeartbeats 1000000 in
theorem ct_132_63 {LL : Nat} {xs : Nat → Int32} {D : Nat} {c0 : Nat → gE} {m_s : Nat → Int32} {m_kp : Nat → Int32} {m_as : Nat → Int32} {m_ik : Int32} {m_fo : Nat → Int32} {m_tl : Int32} {m_tr : Int32} {m_fa : Nat → Int32} {m_od : Nat → Int32} {m_rc : Int32} {m_be : Nat → Int32} {m_ft : Int32} {m_tp : Nat → Int32} {m_td : Int32} {m_tk : Int32} {m_bg : Int32} {m_en : Int32} {m_vl : Int64} {m_sg : Int32} {m_wi : Nat → Int32} {m_si : Nat → Int32} {m_ce : Nat → Int32} {m_ca : Nat → Int32} (x0 : Int32) (x1 : Int32) (x2 : Int32) (o1 : gIn ((15 + (3 * x0)) + x1) 134 = true) : hM (gO LL xs) (D + 0) zR_132 [.ref 63, .int x0, .int x1, .int x2] (hMm c0 m_s m_kp m_as m_ik m_fo m_tl m_tr m_fa m_od m_rc m_be m_ft m_tp m_td m_tk m_bg m_en m_vl m_sg m_wi m_si m_ce m_ca) none (hMm c0 (f_132_63_m_s x0 x1 x2 m_s) m_kp m_as m_ik m_fo m_tl m_tr m_fa m_od m_rc m_be m_ft m_tp m_td m_tk m_bg m_en m_vl m_sg m_wi m_si m_ce m_ca) := by
  refine hX_go 0 0 [some (.ref 63), some (.int x0), some (.int x1), some (.int x2)] [] (hMm c0 m_s m_kp m_as m_ik m_fo m_tl m_tr m_fa m_od m_rc m_be m_ft m_tp m_td m_tk m_bg m_en m_vl m_sg m_wi m_si m_ce m_ca) rfl ?_
  refine hX_go 9 (12) [some (.ref 63), some (.int x0), some (.int x1), some (.int x2)] [.int ((15 + (3 * x0)) + x1), .ref 64] (hMm c0 m_s m_kp m_as m_ik m_fo m_tl m_tr m_fa m_od m_rc m_be m_ft m_tp m_td m_tk m_bg m_en m_vl m_sg m_wi m_si m_ce m_ca) rfl ?_
  refine hX_go 1 (13) [some (.ref 63), some (.int x0), some (.int x1), some (.int x2)] [.int x2, .int ((15 + (3 * x0)) + x1), .ref 64] (hMm c0 m_s m_kp m_as m_ik m_fo m_tl m_tr m_fa m_od m_rc m_be m_ft m_tp m_td m_tk m_bg m_en m_vl m_sg m_wi m_si m_ce m_ca) rfl ?_
  refine hX_g (gIn ((15 + (3 * x0)) + x1) 134) 14 [some (.ref 63), some (.int x0), some (.int x1), some (.int x2)] [] (hMm c0 (upd m_s (Int32.toNatClampNeg ((15 + (3 * x0)) + x1)) x2) m_kp m_as m_ik m_fo m_tl m_tr m_fa m_od m_rc m_be m_ft m_tp m_td m_tk m_bg m_en m_vl m_sg m_wi m_si m_ce m_ca) rfl o1 ?_
  exact hX_end rfl (rfl) (rfl)

/-- UpOneSideModel.leftBy(III)I -/
def v_133_63 (x0 : Int32) (x1 : Int32) (x2 : Int32) (m_s : Nat → Int32) : Int32 := (bif gCmp .ne (v_131_63 x0 0 m_s) 1 then (bif gCmp .eq (v_131_63 x0 0 m_s) 2 then ((v_131_63 x0 1 m_s) + (v_131_63 x0 2 m_s)) else (bif gCmp .ne (v_131_63 x0 0 m_s) 3 then (bif gCmp .ne (v_131_63 x0 0 m_s) 4 then (bif gCmp .le (v_131_63 x0 0 m_s) 4 then (v_131_63 x0 1 m_s) else (bif gCmp .lt x1 (m_s 8) then (v_131_63 x0 1 m_s) else 0)) else (2 * ((v_131_63 x0 1 m_s) + (v_131_63 x0 2 m_s)))) else ((v_131_63 x0 1 m_s) + (v_131_63 x0 2 m_s)))) else ((v_131_63 x0 1 m_s) - ((x1 - x2) / 2))) + (((x1 / 10) * (m_s 7)) / 4)
set_option maxRecDepth 20000 in
set_option maxHeartbeats 1000000 in
theorem ct_133_63 {LL : Nat} {xs : Nat → Int32} {D : Nat} {c0 : Nat → gE} {m_s : Nat → Int32} {m_kp : Nat → Int32} {m_as : Nat → Int32} {m_ik : Int32} {m_fo : Nat → Int32} {m_tl : Int32} {m_tr : Int32} {m_fa : Nat → Int32} {m_od : Nat → Int32} {m_rc : Int32} {m_be : Nat → Int32} {m_ft : Int32} {m_tp : Nat → Int32} {m_td : Int32} {m_tk : Int32} {m_bg : Int32} {m_en : Int32} {m_vl : Int64} {m_sg : Int32} {m_wi : Nat → Int32} {m_si : Nat → Int32} {m_ce : Nat → Int32} {m_ca : Nat → Int32} (x0 : Int32) (x1 : Int32) (x2 : Int32) (o1 : gIn ((15 + (3 * x0)) + 0) 134 = true) (o2 : gIn ((15 + (3 * x0)) + 1) 134 = true) (o3 : gIn ((15 + (3 * x0)) + 2) 134 = true) : hM (gO LL xs) (D + 1) zR_133 [.ref 63, .int x0, .int x1, .int x2] (hMm c0 m_s m_kp m_as m_ik m_fo m_tl m_tr m_fa m_od m_rc m_be m_ft m_tp m_td m_tk m_bg m_en m_vl m_sg m_wi m_si m_ce m_ca) (some (.int (v_133_63 x0 x1 x2 m_s))) (hMm c0 m_s m_kp m_as m_ik m_fo m_tl m_tr m_fa m_od m_rc m_be m_ft m_tp m_td m_tk m_bg m_en m_vl m_sg m_wi m_si m_ce m_ca) := by
  refine hX_go 0 0 [some (.ref 63), some (.int x0), some (.int x1), some (.int x2), none, none, none, none] [] (hMm c0 m_s m_kp m_as m_ik m_fo m_tl m_tr m_fa m_od m_rc m_be m_ft m_tp m_td m_tk m_bg m_en m_vl m_sg m_wi m_si m_ce m_ca) rfl ?_
  refine hX_go 3 (3) [some (.ref 63), some (.int x0), some (.int x1), some (.int x2), none, none, none, none] [.int 0, .int x0, .ref 63] (hMm c0 m_s m_kp m_as m_ik m_fo m_tl m_tr m_fa m_od m_rc m_be m_ft m_tp m_td m_tk m_bg m_en m_vl m_sg m_wi m_si m_ce m_ca) rfl ?_
  refine hX_call (r' := zR_131) rfl (ct_131_63 x0 0 o1) ?_
  refine hX_go 4 (11) [some (.ref 63), some (.int x0), some (.int x1), some (.int x2), some (.int (v_131_63 x0 0 m_s)), none, none, none] [.int 1, .int x0, .ref 63] (hMm c0 m_s m_kp m_as m_ik m_fo m_tl m_tr m_fa m_od m_rc m_be m_ft m_tp m_td m_tk m_bg m_en m_vl m_sg m_wi m_si m_ce m_ca) rfl ?_
  refine hX_call (r' := zR_131) rfl (ct_131_63 x0 1 o2) ?_
  refine hX_go 5 (21) [some (.ref 63), some (.int x0), some (.int x1), some (.int x2), some (.int (v_131_63 x0 0 m_s)), some (.int (v_131_63 x0 1 m_s)), none, none] [.int 2, .int x0, .ref 63, .int (v_131_63 x0 1 m_s)] (hMm c0 m_s m_kp m_as m_ik m_fo m_tl m_tr m_fa m_od m_rc m_be m_ft m_tp m_td m_tk m_bg m_en m_vl m_sg m_wi m_si m_ce m_ca) rfl ?_
  refine hX_call (r' := zR_131) rfl (ct_131_63 x0 2 o3) ?_
  refine hX_go 5 (bif gCmp .ne (v_131_63 x0 0 m_s) 1 then 44 else 33) [some (.ref 63), some (.int x0), some (.int x1), some (.int x2), some (.int (v_131_63 x0 0 m_s)), some (.int (v_131_63 x0 1 m_s)), some (.int ((v_131_63 x0 1 m_s) + (v_131_63 x0 2 m_s))), none] [] (hMm c0 m_s m_kp m_as m_ik m_fo m_tl m_tr m_fa m_od m_rc m_be m_ft m_tp m_td m_tk m_bg m_en m_vl m_sg m_wi m_si m_ce m_ca) rfl ?_
  suffices hk : hX (gO LL xs) (D + 1) zR_133 97 [some (.ref 63), some (.int x0), some (.int x1), some (.int x2), some (.int (v_131_63 x0 0 m_s)), some (.int (v_131_63 x0 1 m_s)), some (.int ((v_131_63 x0 1 m_s) + (v_131_63 x0 2 m_s))), none] [.int (bif gCmp .ne (v_131_63 x0 0 m_s) 1 then (bif gCmp .eq (v_131_63 x0 0 m_s) 2 then ((v_131_63 x0 1 m_s) + (v_131_63 x0 2 m_s)) else (bif gCmp .ne (v_131_63 x0 0 m_s) 3 then (bif gCmp .ne (v_131_63 x0 0 m_s) 4 then (bif gCmp .le (v_131_63 x0 0 m_s) 4 then (v_131_63 x0 1 m_s) else (bif gCmp .lt x1 (m_s 8) then (v_131_63 x0 1 m_s) else 0)) else (2 * ((v_131_63 x0 1 m_s) + (v_131_63 x0 2 m_s)))) else ((v_131_63 x0 1 m_s) + (v_131_63 x0 2 m_s)))) else ((v_131_63 x0 1 m_s) - ((x1 - x2) / 2)))] (hMm c0 m_s m_kp m_as m_ik m_fo m_tl m_tr m_fa m_od m_rc m_be m_ft m_tp m_td m_tk m_bg m_en m_vl m_sg m_wi m_si m_ce m_ca) (some (.int (v_133_63 x0 x1 x2 m_s))) (hMm c0 m_s m_kp m_as m_ik m_fo m_tl m_tr m_fa m_od m_rc m_be m_ft m_tp m_td m_tk m_bg m_en m_vl m_sg m_wi m_si m_ce m_ca) by
    refine hX_if (gCmp .ne (v_131_63 x0 0 m_s) 1) (fun c1 => ?_) (fun c1 => ?_)
    · skip
      refine hX_go 3 (bif gCmp .eq (v_131_63 x0 0 m_s) 2 then 56 else 50) [some (.ref 63), some (.int x0), some (.int x1), some (.int x2), some (.int (v_131_63 x0 0 m_s)), some (.int (v_131_63 x0 1 m_s)), some (.int ((v_131_63 x0 1 m_s) + (v_131_63 x0 2 m_s))), none] [] (hMm c0 m_s m_kp m_as m_ik m_fo m_tl m_tr m_fa m_od m_rc m_be m_ft m_tp m_td m_tk m_bg m_en m_vl m_sg m_wi m_si m_ce m_ca) rfl ?_
      refine hX_if (gCmp .eq (v_131_63 x0 0 m_s) 2) (fun c2 => ?_) (fun c2 => ?_)
      · skip
        refine hX_go 2 (97) [some (.ref 63), some (.int x0), some (.int x1), some (.int x2), some (.int (v_131_63 x0 0 m_s)), some (.int (v_131_63 x0 1 m_s)), some (.int ((v_131_63 x0 1 m_s) + (v_131_63 x0 2 m_s))), none] [.int ((v_131_63 x0 1 m_s) + (v_131_63 x0 2 m_s))] (hMm c0 m_s m_kp m_as m_ik m_fo m_tl m_tr m_fa m_od m_rc m_be m_ft m_tp m_td m_tk m_bg m_en m_vl m_sg m_wi m_si m_ce m_ca) rfl ?_
        have hk := hk
        simp only [c1, c2, cond_true, cond_false] at hk
        first | exact hk | (simp only [c1, c2, cond_true, cond_false]; exact hk)
      · skip
        refine hX_go 3 (bif gCmp .ne (v_131_63 x0 0 m_s) 3 then 61 else 56) [some (.ref 63), some (.int x0), some (.int x1), some (.int x2), some (.int (v_131_63 x0 0 m_s)), some (.int (v_131_63 x0 1 m_s)), some (.int ((v_131_63 x0 1 m_s) + (v_131_63 x0 2 m_s))), none] [] (hMm c0 m_s m_kp m_as m_ik m_fo m_tl m_tr m_fa m_od m_rc m_be m_ft m_tp m_td m_tk m_bg m_en m_vl m_sg m_wi m_si m_ce m_ca) rfl ?_
        refine hX_if (gCmp .ne (v_131_63 x0 0 m_s) 3) (fun c3 => ?_) (fun c3 => ?_)
        · skip
          refine hX_go 3 (bif gCmp .ne (v_131_63 x0 0 m_s) 4 then 74 else 67) [some (.ref 63), some (.int x0), some (.int x1), some (.int x2), some (.int (v_131_63 x0 0 m_s)), some (.int (v_131_63 x0 1 m_s)), some (.int ((v_131_63 x0 1 m_s) + (v_131_63 x0 2 m_s))), none] [] (hMm c0 m_s m_kp m_as m_ik m_fo m_tl m_tr m_fa m_od m_rc m_be m_ft m_tp m_td m_tk m_bg m_en m_vl m_sg m_wi m_si m_ce m_ca) rfl ?_
          refine hX_if (gCmp .ne (v_131_63 x0 0 m_s) 4) (fun c4 => ?_) (fun c4 => ?_)
          · skip
            refine hX_go 3 (bif gCmp .le (v_131_63 x0 0 m_s) 4 then 95 else 80) [some (.ref 63), some (.int x0), some (.int x1), some (.int x2), some (.int (v_131_63 x0 0 m_s)), some (.int (v_131_63 x0 1 m_s)), some (.int ((v_131_63 x0 1 m_s) + (v_131_63 x0 2 m_s))), none] [] (hMm c0 m_s m_kp m_as m_ik m_fo m_tl m_tr m_fa m_od m_rc m_be m_ft m_tp m_td m_tk m_bg m_en m_vl m_sg m_wi m_si m_ce m_ca) rfl ?_
            refine hX_if (gCmp .le (v_131_63 x0 0 m_s) 4) (fun c5 => ?_) (fun c5 => ?_)
            · skip
              refine hX_go 1 (97) [some (.ref 63), some (.int x0), some (.int x1), some (.int x2), some (.int (v_131_63 x0 0 m_s)), some (.int (v_131_63 x0 1 m_s)), some (.int ((v_131_63 x0 1 m_s) + (v_131_63 x0 2 m_s))), none] [.int (v_131_63 x0 1 m_s)] (hMm c0 m_s m_kp m_as m_ik m_fo m_tl m_tr m_fa m_od m_rc m_be m_ft m_tp m_td m_tk m_bg m_en m_vl m_sg m_wi m_si m_ce m_ca) rfl ?_
              have hk := hk
              simp only [c1, c2, c3, c4, c5, cond_true, cond_false] at hk
              first | exact hk | (simp only [c1, c2, c3, c4, c5, cond_true, cond_false]; exact hk)
            · skip
              refine hX_go 6 (bif gCmp .lt x1 (m_s 8) then 95 else 91) [some (.ref 63), some (.int x0), some (.int x1), some (.int x2), some (.int (v_131_63 x0 0 m_s)), some (.int (v_131_63 x0 1 m_s)), some (.int ((v_131_63 x0 1 m_s) + (v_131_63 x0 2 m_s))), none] [] (hMm c0 m_s m_kp m_as m_ik m_fo m_tl m_tr m_fa m_od m_rc m_be m_ft m_tp m_td m_tk m_bg m_en m_vl m_sg m_wi m_si m_ce m_ca) rfl ?_
              refine hX_if (gCmp .lt x1 (m_s 8)) (fun c6 => ?_) (fun c6 => ?_)
              · skip
                refine hX_go 1 (97) [some (.ref 63), some (.int x0), some (.int x1), some (.int x2), some (.int (v_131_63 x0 0 m_s)), some (.int (v_131_63 x0 1 m_s)), some (.int ((v_131_63 x0 1 m_s) + (v_131_63 x0 2 m_s))), none] [.int (v_131_63 x0 1 m_s)] (hMm c0 m_s m_kp m_as m_ik m_fo m_tl m_tr m_fa m_od m_rc m_be m_ft m_tp m_td m_tk m_bg m_en m_vl m_sg m_wi m_si m_ce m_ca) rfl ?_
                have hk := hk
                simp only [c1, c2, c3, c4, c5, c6, cond_true, cond_false] at hk
                first | exact hk | (simp only [c1, c2, c3, c4, c5, c6, cond_true, cond_false]; exact hk)
              · skip
                refine hX_go 2 (97) [some (.ref 63), some (.int x0), some (.int x1), some (.int x2), some (.int (v_131_63 x0 0 m_s)), some (.int (v_131_63 x0 1 m_s)), some (.int ((v_131_63 x0 1 m_s) + (v_131_63 x0 2 m_s))), none] [.int 0] (hMm c0 m_s m_kp m_as m_ik m_fo m_tl m_tr m_fa m_od m_rc m_be m_ft m_tp m_td m_tk m_bg m_en m_vl m_sg m_wi m_si m_ce m_ca) rfl ?_
                have hk := hk
                simp only [c1, c2, c3, c4, c5, c6, cond_true, cond_false] at hk
                first | exact hk | (simp only [c1, c2, c3, c4, c5, c6, cond_true, cond_false]; exact hk)
          · skip
            refine hX_go 4 (97) [some (.ref 63), some (.int x0), some (.int x1), some (.int x2), some (.int (v_131_63 x0 0 m_s)), some (.int (v_131_63 x0 1 m_s)), some (.int ((v_131_63 x0 1 m_s) + (v_131_63 x0 2 m_s))), none] [.int (2 * ((v_131_63 x0 1 m_s) + (v_131_63 x0 2 m_s)))] (hMm c0 m_s m_kp m_as m_ik m_fo m_tl m_tr m_fa m_od m_rc m_be m_ft m_tp m_td m_tk m_bg m_en m_vl m_sg m_wi m_si m_ce m_ca) rfl ?_
            have hk := hk
            simp only [c1, c2, c3, c4, cond_true, cond_false] at hk
            first | exact hk | (simp only [c1, c2, c3, c4, cond_true, cond_false]; exact hk)
        · skip
          refine hX_go 2 (97) [some (.ref 63), some (.int x0), some (.int x1), some (.int x2), some (.int (v_131_63 x0 0 m_s)), some (.int (v_131_63 x0 1 m_s)), some (.int ((v_131_63 x0 1 m_s) + (v_131_63 x0 2 m_s))), none] [.int ((v_131_63 x0 1 m_s) + (v_131_63 x0 2 m_s))] (hMm c0 m_s m_kp m_as m_ik m_fo m_tl m_tr m_fa m_od m_rc m_be m_ft m_tp m_td m_tk m_bg m_en m_vl m_sg m_wi m_si m_ce m_ca) rfl ?_
          have hk := hk
          simp only [c1, c2, c3, cond_true, cond_false] at hk
          first | exact hk | (simp only [c1, c2, c3, cond_true, cond_false]; exact hk)
    · skip
      refine hX_go 8 (97) [some (.ref 63), some (.int x0), some (.int x1), some (.int x2), some (.int (v_131_63 x0 0 m_s)), some (.int (v_131_63 x0 1 m_s)), some (.int ((v_131_63 x0 1 m_s) + (v_131_63 x0 2 m_s))), none] [.int ((v_131_63 x0 1 m_s) - ((x1 - x2) / 2))] (hMm c0 m_s m_kp m_as m_ik m_fo m_tl m_tr m_fa m_od m_rc m_be m_ft m_tp m_td m_tk m_bg m_en m_vl m_sg m_wi m_si m_ce m_ca) rfl ?_
      have hk := hk
      simp only [c1, cond_true, cond_false] at hk
      first | exact hk | (simp only [c1, cond_true, cond_false]; exact hk)
  refine hX_go 9 (112) [some (.ref 63), some (.int x0), some (.int x1), some (.int x2), some (.int (v_131_63 x0 0 m_s)), some (.int (v_131_63 x0 1 m_s)), some (.int ((v_131_63 x0 1 m_s) + (v_131_63 x0 2 m_s))), some (.int (bif gCmp .ne (v_131_63 x0 0 m_s) 1 then (bif gCmp .eq (v_131_63 x0 0 m_s) 2 then ((v_131_63 x0 1 m_s) + (v_131_63 x0 2 m_s)) else (bif gCmp .ne (v_131_63 x0 0 m_s) 3 then (bif gCmp .ne (v_131_63 x0 0 m_s) 4 then (bif gCmp .le (v_131_63 x0 0 m_s) 4 then (v_131_63 x0 1 m_s) else (bif gCmp .lt x1 (m_s 8) then (v_131_63 x0 1 m_s) else 0)) else (2 * ((v_131_63 x0 1 m_s) + (v_131_63 x0 2 m_s)))) else ((v_131_63 x0 1 m_s) + (v_131_63 x0 2 m_s)))) else ((v_131_63 x0 1 m_s) - ((x1 - x2) / 2))))] [.int (m_s 7), .int (x1 / 10), .int (bif gCmp .ne (v_131_63 x0 0 m_s) 1 then (bif gCmp .eq (v_131_63 x0 0 m_s) 2 then ((v_131_63 x0 1 m_s) + (v_131_63 x0 2 m_s)) else (bif gCmp .ne (v_131_63 x0 0 m_s) 3 then (bif gCmp .ne (v_131_63 x0 0 m_s) 4 then (bif gCmp .le (v_131_63 x0 0 m_s) 4 then (v_131_63 x0 1 m_s) else (bif gCmp .lt x1 (m_s 8) then (v_131_63 x0 1 m_s) else 0)) else (2 * ((v_131_63 x0 1 m_s) + (v_131_63 x0 2 m_s)))) else ((v_131_63 x0 1 m_s) + (v_131_63 x0 2 m_s)))) else ((v_131_63 x0 1 m_s) - ((x1 - x2) / 2)))] (hMm c0 m_s m_kp m_as m_ik m_fo m_tl m_tr m_fa m_od m_rc m_be m_ft m_tp m_td m_tk m_bg m_en m_vl m_sg m_wi m_si m_ce m_ca) rfl ?_
  refine hX_go 4 (116) [some (.ref 63), some (.int x0), some (.int x1), some (.int x2), some (.int (v_131_63 x0 0 m_s)), some (.int (v_131_63 x0 1 m_s)), some (.int ((v_131_63 x0 1 m_s) + (v_131_63 x0 2 m_s))), some (.int (bif gCmp .ne (v_131_63 x0 0 m_s) 1 then (bif gCmp .eq (v_131_63 x0 0 m_s) 2 then ((v_131_63 x0 1 m_s) + (v_131_63 x0 2 m_s)) else (bif gCmp .ne (v_131_63 x0 0 m_s) 3 then (bif gCmp .ne (v_131_63 x0 0 m_s) 4 then (bif gCmp .le (v_131_63 x0 0 m_s) 4 then (v_131_63 x0 1 m_s) else (bif gCmp .lt x1 (m_s 8) then (v_131_63 x0 1 m_s) else 0)) else (2 * ((v_131_63 x0 1 m_s) + (v_131_63 x0 2 m_s)))) else ((v_131_63 x0 1 m_s) + (v_131_63 x0 2 m_s)))) else ((v_131_63 x0 1 m_s) - ((x1 - x2) / 2))))] [.int ((bif gCmp .ne (v_131_63 x0 0 m_s) 1 then (bif gCmp .eq (v_131_63 x0 0 m_s) 2 then ((v_131_63 x0 1 m_s) + (v_131_63 x0 2 m_s)) else (bif gCmp .ne (v_131_63 x0 0 m_s) 3 then (bif gCmp .ne (v_131_63 x0 0 m_s) 4 then (bif gCmp .le (v_131_63 x0 0 m_s) 4 then (v_131_63 x0 1 m_s) else (bif gCmp .lt x1 (m_s 8) then (v_131_63 x0 1 m_s) else 0)) else (2 * ((v_131_63 x0 1 m_s) + (v_131_63 x0 2 m_s)))) else ((v_131_63 x0 1 m_s) + (v_131_63 x0 2 m_s)))) else ((v_131_63 x0 1 m_s) - ((x1 - x2) / 2))) + (((x1 / 10) * (m_s 7)) / 4))] (hMm c0 m_s m_kp m_as m_ik m_fo m_tl m_tr m_fa m_od m_rc m_be m_ft m_tp m_td m_tk m_bg m_en m_vl m_sg m_wi m_si m_ce m_ca) rfl ?_
  exact hX_end rfl (rfl) (rfl)

theorem sw_134_51 (x : Int32) : gSwT 51 103 1 6 #[37, 49, 55, 55, 103, 69] x = some (bif hEq x 1 then 88 else bif hEq x 2 then 100 else bif hEq x 3 then 106 else bif hEq x 4 then 106 else bif hEq x 5 then 154 else bif hEq x 6 then 120 else 154) := by
  by_cases q1 : x = 1
  · subst q1; rfl
  by_cases q2 : x = 2
  · subst q2; rfl
  by_cases q3 : x = 3
  · subst q3; rfl
  by_cases q4 : x = 4
  · subst q4; rfl
  by_cases q5 : x = 5
  · subst q5; rfl
  by_cases q6 : x = 6
  · subst q6; rfl
  simp only [hEq, q1, q2, q3, q4, q5, q6, decide_false, cond_false]
  have n1 := hNe q1
  have n2 := hNe q2
  have n3 := hNe q3
  have n4 := hNe q4
  have n5 := hNe q5
  have n6 := hNe q6
  unfold gSwT
  rw [show (decide (x.toInt < 1) || decide (6 < x.toInt)) = true from by
    simp only [Bool.or_eq_true, decide_eq_true_eq]
    have e : ∀ z : Int, z < 1 ∨ 6 < z ∨ (z = 1 ∨ z = 2 ∨ z = 3 ∨ z = 4 ∨ z = 5 ∨ z = 6) := by intro z; omega
    rcases e x.toInt with h | h | h
    · exact Or.inl h
    · exact Or.inr h
    · rcases h with h | h | h | h | h | h
      · exact absurd h n1
      · exact absurd h n2
      · exact absurd h n3
      · exact absurd h n4
      · exact absurd h n5
      · exact absurd h n6
    ]
  rfl

/-- UpOneSideModel.rightBy(III)I -/
def v_134_63 (x0 : Int32) (x1 : Int32) (x2 : Int32) (m_s : Nat → Int32) : Int32 := bif hEq (v_131_63 x0 0 m_s) 1 then (((v_131_63 x0 1 m_s) + ((x1 - x2) / 2)) + (bif gCmp .lt x2 30 then 0 else (m_s 5))) else (bif hEq (v_131_63 x0 0 m_s) 2 then ((((v_131_63 x0 1 m_s) - (m_s 6)) - (v_131_63 x0 2 m_s)) + (bif gCmp .lt x2 30 then 0 else (m_s 5))) else (bif hEq (v_131_63 x0 0 m_s) 3 then (((((v_131_63 x0 1 m_s) - (m_s 6)) - (v_131_63 x0 2 m_s)) - (m_s 6)) + (bif gCmp .lt x2 30 then 0 else (m_s 5))) else (bif hEq (v_131_63 x0 0 m_s) 4 then (((((v_131_63 x0 1 m_s) - (m_s 6)) - (v_131_63 x0 2 m_s)) - (m_s 6)) + (bif gCmp .lt x2 30 then 0 else (m_s 5))) else (bif hEq (v_131_63 x0 0 m_s) 5 then (((v_131_63 x0 1 m_s) - (m_s 6)) + (bif gCmp .lt x2 30 then 0 else (m_s 5))) else (bif hEq (v_131_63 x0 0 m_s) 6 then ((bif gCmp .le x2 x1 then ((v_131_63 x0 1 m_s) - (m_s 6)) else (((v_131_63 x0 1 m_s) - (m_s 6)) / 2)) + (bif gCmp .lt x2 30 then 0 else (m_s 5))) else (((v_131_63 x0 1 m_s) - (m_s 6)) + (bif gCmp .lt x2 30 then 0 else (m_s 5))))))))
set_option maxRecDepth 20000 in
set_option maxHeartbeats 1000000 in
theorem ct_134_63 {LL : Nat} {xs : Nat → Int32} {D : Nat} {c0 : Nat → gE} {m_s : Nat → Int32} {m_kp : Nat → Int32} {m_as : Nat → Int32} {m_ik : Int32} {m_fo : Nat → Int32} {m_tl : Int32} {m_tr : Int32} {m_fa : Nat → Int32} {m_od : Nat → Int32} {m_rc : Int32} {m_be : Nat → Int32} {m_ft : Int32} {m_tp : Nat → Int32} {m_td : Int32} {m_tk : Int32} {m_bg : Int32} {m_en : Int32} {m_vl : Int64} {m_sg : Int32} {m_wi : Nat → Int32} {m_si : Nat → Int32} {m_ce : Nat → Int32} {m_ca : Nat → Int32} (x0 : Int32) (x1 : Int32) (x2 : Int32) (o1 : gIn ((15 + (3 * x0)) + 1) 134 = true) (o2 : gIn ((15 + (3 * x0)) + 2) 134 = true) (o3 : gIn ((15 + (3 * x0)) + 0) 134 = true) : hM (gO LL xs) (D + 1) zR_134 [.ref 63, .int x0, .int x1, .int x2] (hMm c0 m_s m_kp m_as m_ik m_fo m_tl m_tr m_fa m_od m_rc m_be m_ft m_tp m_td m_tk m_bg m_en m_vl m_sg m_wi m_si m_ce m_ca) (some (.int (v_134_63 x0 x1 x2 m_s))) (hMm c0 m_s m_kp m_as m_ik m_fo m_tl m_tr m_fa m_od m_rc m_be m_ft m_tp m_td m_tk m_bg m_en m_vl m_sg m_wi m_si m_ce m_ca) := by
  refine hX_go 0 0 [some (.ref 63), some (.int x0), some (.int x1), some (.int x2), none, none, none] [] (hMm c0 m_s m_kp m_as m_ik m_fo m_tl m_tr m_fa m_od m_rc m_be m_ft m_tp m_td m_tk m_bg m_en m_vl m_sg m_wi m_si m_ce m_ca) rfl ?_
  refine hX_go 3 (3) [some (.ref 63), some (.int x0), some (.int x1), some (.int x2), none, none, none] [.int 1, .int x0, .ref 63] (hMm c0 m_s m_kp m_as m_ik m_fo m_tl m_tr m_fa m_od m_rc m_be m_ft m_tp m_td m_tk m_bg m_en m_vl m_sg m_wi m_si m_ce m_ca) rfl ?_
  refine hX_call (r' := zR_131) rfl (ct_131_63 x0 1 o1) ?_
  refine hX_go 9 (20) [some (.ref 63), some (.int x0), some (.int x1), some (.int x2), some (.int (v_131_63 x0 1 m_s)), none, none] [.int x0, .ref 63, .int ((v_131_63 x0 1 m_s) - (m_s 6))] (hMm c0 m_s m_kp m_as m_ik m_fo m_tl m_tr m_fa m_od m_rc m_be m_ft m_tp m_td m_tk m_bg m_en m_vl m_sg m_wi m_si m_ce m_ca) rfl ?_
  refine hX_go 1 (21) [some (.ref 63), some (.int x0), some (.int x1), some (.int x2), some (.int (v_131_63 x0 1 m_s)), none, none] [.int 2, .int x0, .ref 63, .int ((v_131_63 x0 1 m_s) - (m_s 6))] (hMm c0 m_s m_kp m_as m_ik m_fo m_tl m_tr m_fa m_od m_rc m_be m_ft m_tp m_td m_tk m_bg m_en m_vl m_sg m_wi m_si m_ce m_ca) rfl ?_
  refine hX_call (r' := zR_131) rfl (ct_131_63 x0 2 o2) ?_
  refine hX_go 5 (bif gCmp .lt x2 30 then 42 else 33) [some (.ref 63), some (.int x0), some (.int x1), some (.int x2), some (.int (v_131_63 x0 1 m_s)), some (.int (((v_131_63 x0 1 m_s) - (m_s 6)) - (v_131_63 x0 2 m_s))), none] [] (hMm c0 m_s m_kp m_as m_ik m_fo m_tl m_tr m_fa m_od m_rc m_be m_ft m_tp m_td m_tk m_bg m_en m_vl m_sg m_wi m_si m_ce m_ca) rfl ?_
  suffices hk : hX (gO LL xs) (D + 1) zR_134 43 [some (.ref 63), some (.int x0), some (.int x1), some (.int x2), some (.int (v_131_63 x0 1 m_s)), some (.int (((v_131_63 x0 1 m_s) - (m_s 6)) - (v_131_63 x0 2 m_s))), none] [.int (bif gCmp .lt x2 30 then 0 else (m_s 5))] (hMm c0 m_s m_kp m_as m_ik m_fo m_tl m_tr m_fa m_od m_rc m_be m_ft m_tp m_td m_tk m_bg m_en m_vl m_sg m_wi m_si m_ce m_ca) (some (.int (v_134_63 x0 x1 x2 m_s))) (hMm c0 m_s m_kp m_as m_ik m_fo m_tl m_tr m_fa m_od m_rc m_be m_ft m_tp m_td m_tk m_bg m_en m_vl m_sg m_wi m_si m_ce m_ca) by
    refine hX_if (gCmp .lt x2 30) (fun c1 => ?_) (fun c1 => ?_)
    · skip
      refine hX_go 1 (43) [some (.ref 63), some (.int x0), some (.int x1), some (.int x2), some (.int (v_131_63 x0 1 m_s)), some (.int (((v_131_63 x0 1 m_s) - (m_s 6)) - (v_131_63 x0 2 m_s))), none] [.int 0] (hMm c0 m_s m_kp m_as m_ik m_fo m_tl m_tr m_fa m_od m_rc m_be m_ft m_tp m_td m_tk m_bg m_en m_vl m_sg m_wi m_si m_ce m_ca) rfl ?_
      have hk := hk
      simp only [c1, cond_true, cond_false] at hk
      first | exact hk | (simp only [c1, cond_true, cond_false]; exact hk)
    · skip
      refine hX_go 5 (43) [some (.ref 63), some (.int x0), some (.int x1), some (.int x2), some (.int (v_131_63 x0 1 m_s)), some (.int (((v_131_63 x0 1 m_s) - (m_s 6)) - (v_131_63 x0 2 m_s))), none] [.int (m_s 5)] (hMm c0 m_s m_kp m_as m_ik m_fo m_tl m_tr m_fa m_od m_rc m_be m_ft m_tp m_td m_tk m_bg m_en m_vl m_sg m_wi m_si m_ce m_ca) rfl ?_
      have hk := hk
      simp only [c1, cond_true, cond_false] at hk
      first | exact hk | (simp only [c1, cond_true, cond_false]; exact hk)
  refine hX_go 4 (48) [some (.ref 63), some (.int x0), some (.int x1), some (.int x2), some (.int (v_131_63 x0 1 m_s)), some (.int (((v_131_63 x0 1 m_s) - (m_s 6)) - (v_131_63 x0 2 m_s))), some (.int (bif gCmp .lt x2 30 then 0 else (m_s 5)))] [.int 0, .int x0, .ref 63] (hMm c0 m_s m_kp m_as m_ik m_fo m_tl m_tr m_fa m_od m_rc m_be m_ft m_tp m_td m_tk m_bg m_en m_vl m_sg m_wi m_si m_ce m_ca) rfl ?_
  refine hX_call (r' := zR_131) rfl (ct_131_63 x0 0 o3) ?_
  refine hX_go 0 (51) [some (.ref 63), some (.int x0), some (.int x1), some (.int x2), some (.int (v_131_63 x0 1 m_s)), some (.int (((v_131_63 x0 1 m_s) - (m_s 6)) - (v_131_63 x0 2 m_s))), some (.int (bif gCmp .lt x2 30 then 0 else (m_s 5)))] [.int (v_131_63 x0 0 m_s)] (hMm c0 m_s m_kp m_as m_ik m_fo m_tl m_tr m_fa m_od m_rc m_be m_ft m_tp m_td m_tk m_bg m_en m_vl m_sg m_wi m_si m_ce m_ca) rfl ?_
  refine hX_sw (bif hEq (v_131_63 x0 0 m_s) 1 then 88 else bif hEq (v_131_63 x0 0 m_s) 2 then 100 else bif hEq (v_131_63 x0 0 m_s) 3 then 106 else bif hEq (v_131_63 x0 0 m_s) 4 then 106 else bif hEq (v_131_63 x0 0 m_s) 5 then 154 else bif hEq (v_131_63 x0 0 m_s) 6 then 120 else 154) rfl (sw_134_51 (v_131_63 x0 0 m_s)) ?_
  refine hX_if (hEq (v_131_63 x0 0 m_s) 1) (fun c2 => ?_) (fun c2 => ?_)
  · skip
    refine hX_go 9 (99) [some (.ref 63), some (.int x0), some (.int x1), some (.int x2), some (.int (v_131_63 x0 1 m_s)), some (.int (((v_131_63 x0 1 m_s) - (m_s 6)) - (v_131_63 x0 2 m_s))), some (.int (bif gCmp .lt x2 30 then 0 else (m_s 5)))] [.int (((v_131_63 x0 1 m_s) + ((x1 - x2) / 2)) + (bif gCmp .lt x2 30 then 0 else (m_s 5)))] (hMm c0 m_s m_kp m_as m_ik m_fo m_tl m_tr m_fa m_od m_rc m_be m_ft m_tp m_td m_tk m_bg m_en m_vl m_sg m_wi m_si m_ce m_ca) rfl ?_
    exact hX_end rfl (by unfold v_134_63; rw [c2]; rfl) (rfl)
  · skip
    refine hX_if (hEq (v_131_63 x0 0 m_s) 2) (fun c3 => ?_) (fun c3 => ?_)
    · skip
      refine hX_go 3 (105) [some (.ref 63), some (.int x0), some (.int x1), some (.int x2), some (.int (v_131_63 x0 1 m_s)), some (.int (((v_131_63 x0 1 m_s) - (m_s 6)) - (v_131_63 x0 2 m_s))), some (.int (bif gCmp .lt x2 30 then 0 else (m_s 5)))] [.int ((((v_131_63 x0 1 m_s) - (m_s 6)) - (v_131_63 x0 2 m_s)) + (bif gCmp .lt x2 30 then 0 else (m_s 5)))] (hMm c0 m_s m_kp m_as m_ik m_fo m_tl m_tr m_fa m_od m_rc m_be m_ft m_tp m_td m_tk m_bg m_en m_vl m_sg m_wi m_si m_ce m_ca) rfl ?_
      exact hX_end rfl (by unfold v_134_63; rw [c2, c3]; rfl) (rfl)
    · skip
      refine hX_if (hEq (v_131_63 x0 0 m_s) 3) (fun c4 => ?_) (fun c4 => ?_)
      · skip
        refine hX_go 8 (119) [some (.ref 63), some (.int x0), some (.int x1), some (.int x2), some (.int (v_131_63 x0 1 m_s)), some (.int (((v_131_63 x0 1 m_s) - (m_s 6)) - (v_131_63 x0 2 m_s))), some (.int (bif gCmp .lt x2 30 then 0 else (m_s 5)))] [.int (((((v_131_63 x0 1 m_s) - (m_s 6)) - (v_131_63 x0 2 m_s)) - (m_s 6)) + (bif gCmp .lt x2 30 then 0 else (m_s 5)))] (hMm c0 m_s m_kp m_as m_ik m_fo m_tl m_tr m_fa m_od m_rc m_be m_ft m_tp m_td m_tk m_bg m_en m_vl m_sg m_wi m_si m_ce m_ca) rfl ?_
        exact hX_end rfl (by unfold v_134_63; rw [c2, c3, c4]; rfl) (rfl)
      · skip
        refine hX_if (hEq (v_131_63 x0 0 m_s) 4) (fun c5 => ?_) (fun c5 => ?_)
        · skip
          refine hX_go 8 (119) [some (.ref 63), some (.int x0), some (.int x1), some (.int x2), some (.int (v_131_63 x0 1 m_s)), some (.int (((v_131_63 x0 1 m_s) - (m_s 6)) - (v_131_63 x0 2 m_s))), some (.int (bif gCmp .lt x2 30 then 0 else (m_s 5)))] [.int (((((v_131_63 x0 1 m_s) - (m_s 6)) - (v_131_63 x0 2 m_s)) - (m_s 6)) + (bif gCmp .lt x2 30 then 0 else (m_s 5)))] (hMm c0 m_s m_kp m_as m_ik m_fo m_tl m_tr m_fa m_od m_rc m_be m_ft m_tp m_td m_tk m_bg m_en m_vl m_sg m_wi m_si m_ce m_ca) rfl ?_
          exact hX_end rfl (by unfold v_134_63; rw [c2, c3, c4, c5]; rfl) (rfl)
        · skip
          refine hX_if (hEq (v_131_63 x0 0 m_s) 5) (fun c6 => ?_) (fun c6 => ?_)
          · skip
            refine hX_go 8 (167) [some (.ref 63), some (.int x0), some (.int x1), some (.int x2), some (.int (v_131_63 x0 1 m_s)), some (.int (((v_131_63 x0 1 m_s) - (m_s 6)) - (v_131_63 x0 2 m_s))), some (.int (bif gCmp .lt x2 30 then 0 else (m_s 5)))] [.int (((v_131_63 x0 1 m_s) - (m_s 6)) + (bif gCmp .lt x2 30 then 0 else (m_s 5)))] (hMm c0 m_s m_kp m_as m_ik m_fo m_tl m_tr m_fa m_od m_rc m_be m_ft m_tp m_td m_tk m_bg m_en m_vl m_sg m_wi m_si m_ce m_ca) rfl ?_
            exact hX_end rfl (by unfold v_134_63; rw [c2, c3, c4, c5, c6]; rfl) (rfl)
          · skip
            refine hX_if (hEq (v_131_63 x0 0 m_s) 6) (fun c7 => ?_) (fun c7 => ?_)
            · skip
              refine hX_go 3 (bif gCmp .le x2 x1 then 140 else 125) [some (.ref 63), some (.int x0), some (.int x1), some (.int x2), some (.int (v_131_63 x0 1 m_s)), some (.int (((v_131_63 x0 1 m_s) - (m_s 6)) - (v_131_63 x0 2 m_s))), some (.int (bif gCmp .lt x2 30 then 0 else (m_s 5)))] [] (hMm c0 m_s m_kp m_as m_ik m_fo m_tl m_tr m_fa m_od m_rc m_be m_ft m_tp m_td m_tk m_bg m_en m_vl m_sg m_wi m_si m_ce m_ca) rfl ?_
              suffices hk : hX (gO LL xs) (D + 1) zR_134 150 [some (.ref 63), some (.int x0), some (.int x1), some (.int x2), some (.int (v_131_63 x0 1 m_s)), some (.int (((v_131_63 x0 1 m_s) - (m_s 6)) - (v_131_63 x0 2 m_s))), some (.int (bif gCmp .lt x2 30 then 0 else (m_s 5)))] [.int (bif gCmp .le x2 x1 then ((v_131_63 x0 1 m_s) - (m_s 6)) else (((v_131_63 x0 1 m_s) - (m_s 6)) / 2))] (hMm c0 m_s m_kp m_as m_ik m_fo m_tl m_tr m_fa m_od m_rc m_be m_ft m_tp m_td m_tk m_bg m_en m_vl m_sg m_wi m_si m_ce m_ca) (some (.int (v_134_63 x0 x1 x2 m_s))) (hMm c0 m_s m_kp m_as m_ik m_fo m_tl m_tr m_fa m_od m_rc m_be m_ft m_tp m_td m_tk m_bg m_en m_vl m_sg m_wi m_si m_ce m_ca) by
                refine hX_if (gCmp .le x2 x1) (fun c8 => ?_) (fun c8 => ?_)
                · skip
                  refine hX_go 6 (150) [some (.ref 63), some (.int x0), some (.int x1), some (.int x2), some (.int (v_131_63 x0 1 m_s)), some (.int (((v_131_63 x0 1 m_s) - (m_s 6)) - (v_131_63 x0 2 m_s))), some (.int (bif gCmp .lt x2 30 then 0 else (m_s 5)))] [.int ((v_131_63 x0 1 m_s) - (m_s 6))] (hMm c0 m_s m_kp m_as m_ik m_fo m_tl m_tr m_fa m_od m_rc m_be m_ft m_tp m_td m_tk m_bg m_en m_vl m_sg m_wi m_si m_ce m_ca) rfl ?_
                  have hk := hk
                  simp only [c8, cond_true, cond_false] at hk
                  first | exact hk | (simp only [c8, cond_true, cond_false]; exact hk)
                · skip
                  refine hX_go 9 (150) [some (.ref 63), some (.int x0), some (.int x1), some (.int x2), some (.int (v_131_63 x0 1 m_s)), some (.int (((v_131_63 x0 1 m_s) - (m_s 6)) - (v_131_63 x0 2 m_s))), some (.int (bif gCmp .lt x2 30 then 0 else (m_s 5)))] [.int (((v_131_63 x0 1 m_s) - (m_s 6)) / 2)] (hMm c0 m_s m_kp m_as m_ik m_fo m_tl m_tr m_fa m_od m_rc m_be m_ft m_tp m_td m_tk m_bg m_en m_vl m_sg m_wi m_si m_ce m_ca) rfl ?_
                  have hk := hk
                  simp only [c8, cond_true, cond_false] at hk
                  first | exact hk | (simp only [c8, cond_true, cond_false]; exact hk)
              refine hX_go 2 (153) [some (.ref 63), some (.int x0), some (.int x1), some (.int x2), some (.int (v_131_63 x0 1 m_s)), some (.int (((v_131_63 x0 1 m_s) - (m_s 6)) - (v_131_63 x0 2 m_s))), some (.int (bif gCmp .lt x2 30 then 0 else (m_s 5)))] [.int ((bif gCmp .le x2 x1 then ((v_131_63 x0 1 m_s) - (m_s 6)) else (((v_131_63 x0 1 m_s) - (m_s 6)) / 2)) + (bif gCmp .lt x2 30 then 0 else (m_s 5)))] (hMm c0 m_s m_kp m_as m_ik m_fo m_tl m_tr m_fa m_od m_rc m_be m_ft m_tp m_td m_tk m_bg m_en m_vl m_sg m_wi m_si m_ce m_ca) rfl ?_
              exact hX_end rfl (by unfold v_134_63; rw [c2, c3, c4, c5, c6, c7]; rfl) (rfl)
            · skip
              refine hX_go 8 (167) [some (.ref 63), some (.int x0), some (.int x1), some (.int x2), some (.int (v_131_63 x0 1 m_s)), some (.int (((v_131_63 x0 1 m_s) - (m_s 6)) - (v_131_63 x0 2 m_s))), some (.int (bif gCmp .lt x2 30 then 0 else (m_s 5)))] [.int (((v_131_63 x0 1 m_s) - (m_s 6)) + (bif gCmp .lt x2 30 then 0 else (m_s 5)))] (hMm c0 m_s m_kp m_as m_ik m_fo m_tl m_tr m_fa m_od m_rc m_be m_ft m_tp m_td m_tk m_bg m_en m_vl m_sg m_wi m_si m_ce m_ca) rfl ?_
              exact hX_end rfl (by unfold v_134_63; rw [c2, c3, c4, c5, c6, c7]; rfl) (rfl)

/-- UpOneSideModel.begins()V -/
def f_135_63_m_tl (m_s : Nat → Int32) : Int32 := m_s 0
def f_135_63_m_tr (m_s : Nat → Int32) : Int32 := m_s 1
set_option maxRecDepth 20000 in
set_option maxHeartbeats 1000000 in
theorem ct_135_63 {LL : Nat} {xs : Nat → Int32} {D : Nat} {c0 : Nat → gE} {m_s : Nat → Int32} {m_kp : Nat → Int32} {m_as : Nat → Int32} {m_ik : Int32} {m_fo : Nat → Int32} {m_tl : Int32} {m_tr : Int32} {m_fa : Nat → Int32} {m_od : Nat → Int32} {m_rc : Int32} {m_be : Nat → Int32} {m_ft : Int32} {m_tp : Nat → Int32} {m_td : Int32} {m_tk : Int32} {m_bg : Int32} {m_en : Int32} {m_vl : Int64} {m_sg : Int32} {m_wi : Nat → Int32} {m_si : Nat → Int32} {m_ce : Nat → Int32} {m_ca : Nat → Int32} : hM (gO LL xs) (D + 0) zR_135 [.ref 63] (hMm c0 m_s m_kp m_as m_ik m_fo m_tl m_tr m_fa m_od m_rc m_be m_ft m_tp m_td m_tk m_bg m_en m_vl m_sg m_wi m_si m_ce m_ca) none (hMm c0 m_s m_kp m_as m_ik m_fo (f_135_63_m_tl m_s) (f_135_63_m_tr m_s) m_fa m_od m_rc m_be m_ft m_tp m_td m_tk m_bg m_en m_vl m_sg m_wi m_si m_ce m_ca) := by
  refine hX_go 0 0 [some (.ref 63)] [] (hMm c0 m_s m_kp m_as m_ik m_fo m_tl m_tr m_fa m_od m_rc m_be m_ft m_tp m_td m_tk m_bg m_en m_vl m_sg m_wi m_si m_ce m_ca) rfl ?_
  refine hX_go 9 (15) [some (.ref 63)] [.ref 64, .ref 63] (hMm c0 m_s m_kp m_as m_ik m_fo (m_s 0) m_tr m_fa m_od m_rc m_be m_ft m_tp m_td m_tk m_bg m_en m_vl m_sg m_wi m_si m_ce m_ca) rfl ?_
  refine hX_go 3 (20) [some (.ref 63)] [] (hMm c0 m_s m_kp m_as m_ik m_fo (m_s 0) (m_s 1) m_fa m_od m_rc m_be m_ft m_tp m_td m_tk m_bg m_en m_vl m_sg m_wi m_si m_ce m_ca) rfl ?_
  exact hX_end rfl (rfl) (rfl)

/-- UpOneSideModel.thinks(I)V -/
def f_136_63_m_tl (x0 : Int32) (m_s : Nat → Int32) (m_tl : Int32) (m_tr : Int32) : Int32 := v_127 (m_tl + (v_133_63 x0 m_tl m_tr m_s))
def f_136_63_m_tr (x0 : Int32) (m_s : Nat → Int32) (m_tl : Int32) (m_tr : Int32) : Int32 := v_127 (m_tr + (v_134_63 x0 m_tl m_tr m_s))
set_option maxRecDepth 20000 in
set_option maxHeartbeats 1000000 in
theorem ct_136_63 {LL : Nat} {xs : Nat → Int32} {D : Nat} {c0 : Nat → gE} {m_s : Nat → Int32} {m_kp : Nat → Int32} {m_as : Nat → Int32} {m_ik : Int32} {m_fo : Nat → Int32} {m_tl : Int32} {m_tr : Int32} {m_fa : Nat → Int32} {m_od : Nat → Int32} {m_rc : Int32} {m_be : Nat → Int32} {m_ft : Int32} {m_tp : Nat → Int32} {m_td : Int32} {m_tk : Int32} {m_bg : Int32} {m_en : Int32} {m_vl : Int64} {m_sg : Int32} {m_wi : Nat → Int32} {m_si : Nat → Int32} {m_ce : Nat → Int32} {m_ca : Nat → Int32} (x0 : Int32) (o1 : gIn ((15 + (3 * x0)) + 0) 134 = true) (o2 : gIn ((15 + (3 * x0)) + 1) 134 = true) (o3 : gIn ((15 + (3 * x0)) + 2) 134 = true) : hM (gO LL xs) (D + 2) zR_136 [.ref 63, .int x0] (hMm c0 m_s m_kp m_as m_ik m_fo m_tl m_tr m_fa m_od m_rc m_be m_ft m_tp m_td m_tk m_bg m_en m_vl m_sg m_wi m_si m_ce m_ca) none (hMm c0 m_s m_kp m_as m_ik m_fo (f_136_63_m_tl x0 m_s m_tl m_tr) (f_136_63_m_tr x0 m_s m_tl m_tr) m_fa m_od m_rc m_be m_ft m_tp m_td m_tk m_bg m_en m_vl m_sg m_wi m_si m_ce m_ca) := by
  refine hX_go 0 0 [some (.ref 63), some (.int x0), none, none] [] (hMm c0 m_s m_kp m_as m_ik m_fo m_tl m_tr m_fa m_od m_rc m_be m_ft m_tp m_td m_tk m_bg m_en m_vl m_sg m_wi m_si m_ce m_ca) rfl ?_
  refine hX_go 6 (10) [some (.ref 63), some (.int x0), none, none] [.int m_tr, .int m_tl, .int x0, .ref 63] (hMm c0 m_s m_kp m_as m_ik m_fo m_tl m_tr m_fa m_od m_rc m_be m_ft m_tp m_td m_tk m_bg m_en m_vl m_sg m_wi m_si m_ce m_ca) rfl ?_
  refine hX_call (r' := zR_133) rfl (ct_133_63 x0 m_tl m_tr o1 o2 o3) ?_
  refine hX_go 7 (24) [some (.ref 63), some (.int x0), some (.int (v_133_63 x0 m_tl m_tr m_s)), none] [.int m_tr, .int m_tl, .int x0, .ref 63] (hMm c0 m_s m_kp m_as m_ik m_fo m_tl m_tr m_fa m_od m_rc m_be m_ft m_tp m_td m_tk m_bg m_en m_vl m_sg m_wi m_si m_ce m_ca) rfl ?_
  refine hX_call (r' := zR_134) rfl (ct_134_63 x0 m_tl m_tr o2 o3 o1) ?_
  refine hX_go 6 (35) [some (.ref 63), some (.int x0), some (.int (v_133_63 x0 m_tl m_tr m_s)), some (.int (v_134_63 x0 m_tl m_tr m_s))] [.int (m_tl + (v_133_63 x0 m_tl m_tr m_s)), .ref 63] (hMm c0 m_s m_kp m_as m_ik m_fo m_tl m_tr m_fa m_od m_rc m_be m_ft m_tp m_td m_tk m_bg m_en m_vl m_sg m_wi m_si m_ce m_ca) rfl ?_
  refine hX_call (r' := zR_127) rfl (ct_127 (m_tl + (v_133_63 x0 m_tl m_tr m_s))) ?_
  refine hX_go 6 (48) [some (.ref 63), some (.int x0), some (.int (v_133_63 x0 m_tl m_tr m_s)), some (.int (v_134_63 x0 m_tl m_tr m_s))] [.int (m_tr + (v_134_63 x0 m_tl m_tr m_s)), .ref 63] (hMm c0 m_s m_kp m_as m_ik m_fo (v_127 (m_tl + (v_133_63 x0 m_tl m_tr m_s))) m_tr m_fa m_od m_rc m_be m_ft m_tp m_td m_tk m_bg m_en m_vl m_sg m_wi m_si m_ce m_ca) rfl ?_
  refine hX_call (r' := zR_127) rfl (ct_127 (m_tr + (v_134_63 x0 m_tl m_tr m_s))) ?_
  refine hX_go 1 (54) [some (.ref 63), some (.int x0), some (.int (v_133_63 x0 m_tl m_tr m_s)), some (.int (v_134_63 x0 m_tl m_tr m_s))] [] (hMm c0 m_s m_kp m_as m_ik m_fo (v_127 (m_tl + (v_133_63 x0 m_tl m_tr m_s))) (v_127 (m_tr + (v_134_63 x0 m_tl m_tr m_s))) m_fa m_od m_rc m_be m_ft m_tp m_td m_tk m_bg m_en m_vl m_sg m_wi m_si m_ce m_ca) rfl ?_
  exact hX_end rfl (rfl) (rfl)

/-- UpOneSideModel.addsPull(I)V -/
def f_138_63_m_s (x0 : Int32) (m_s : Nat → Int32) : Nat → Int32 := upd (f_132_63_m_s (m_s 3) 2 0 (f_132_63_m_s (m_s 3) 1 5 (f_132_63_m_s (m_s 3) 0 x0 m_s))) 3 (((f_132_63_m_s (m_s 3) 2 0 (f_132_63_m_s (m_s 3) 1 5 (f_132_63_m_s (m_s 3) 0 x0 m_s))) 3) + 1)
set_option maxRecDepth 20000 in
set_option maxHeartbeats 1000000 in
theorem ct_138_63 {LL : Nat} {xs : Nat → Int32} {D : Nat} {c0 : Nat → gE} {m_s : Nat → Int32} {m_kp : Nat → Int32} {m_as : Nat → Int32} {m_ik : Int32} {m_fo : Nat → Int32} {m_tl : Int32} {m_tr : Int32} {m_fa : Nat → Int32} {m_od : Nat → Int32} {m_rc : Int32} {m_be : Nat → Int32} {m_ft : Int32} {m_tp : Nat → Int32} {m_td : Int32} {m_tk : Int32} {m_bg : Int32} {m_en : Int32} {m_vl : Int64} {m_sg : Int32} {m_wi : Nat → Int32} {m_si : Nat → Int32} {m_ce : Nat → Int32} {m_ca : Nat → Int32} (x0 : Int32) (o1 : gIn ((15 + (3 * (m_s 3))) + 0) 134 = true) (o2 : gIn ((15 + (3 * (m_s 3))) + 1) 134 = true) (o3 : gIn ((15 + (3 * (m_s 3))) + 2) 134 = true) : hM (gO LL xs) (D + 1) zR_138 [.ref 63, .int x0] (hMm c0 m_s m_kp m_as m_ik m_fo m_tl m_tr m_fa m_od m_rc m_be m_ft m_tp m_td m_tk m_bg m_en m_vl m_sg m_wi m_si m_ce m_ca) none (hMm c0 (f_138_63_m_s x0 m_s) m_kp m_as m_ik m_fo m_tl m_tr m_fa m_od m_rc m_be m_ft m_tp m_td m_tk m_bg m_en m_vl m_sg m_wi m_si m_ce m_ca) := by
  refine hX_go 0 0 [some (.ref 63), some (.int x0), none] [] (hMm c0 m_s m_kp m_as m_ik m_fo m_tl m_tr m_fa m_od m_rc m_be m_ft m_tp m_td m_tk m_bg m_en m_vl m_sg m_wi m_si m_ce m_ca) rfl ?_
  refine hX_go 9 (11) [some (.ref 63), some (.int x0), some (.int (m_s 3))] [.int x0, .int 0, .int (m_s 3), .ref 63] (hMm c0 m_s m_kp m_as m_ik m_fo m_tl m_tr m_fa m_od m_rc m_be m_ft m_tp m_td m_tk m_bg m_en m_vl m_sg m_wi m_si m_ce m_ca) rfl ?_
  refine hX_call (r' := zR_132) rfl (ct_132_63 (m_s 3) 0 x0 o1) ?_
  refine hX_go 4 (18) [some (.ref 63), some (.int x0), some (.int (m_s 3))] [.int 5, .int 1, .int (m_s 3), .ref 63] (hMm c0 (f_132_63_m_s (m_s 3) 0 x0 m_s) m_kp m_as m_ik m_fo m_tl m_tr m_fa m_od m_rc m_be m_ft m_tp m_td m_tk m_bg m_en m_vl m_sg m_wi m_si m_ce m_ca) rfl ?_
  refine hX_call (r' := zR_132) rfl (ct_132_63 (m_s 3) 1 5 o2) ?_
  refine hX_go 4 (25) [some (.ref 63), some (.int x0), some (.int (m_s 3))] [.int 0, .int 2, .int (m_s 3), .ref 63] (hMm c0 (f_132_63_m_s (m_s 3) 1 5 (f_132_63_m_s (m_s 3) 0 x0 m_s)) m_kp m_as m_ik m_fo m_tl m_tr m_fa m_od m_rc m_be m_ft m_tp m_td m_tk m_bg m_en m_vl m_sg m_wi m_si m_ce m_ca) rfl ?_
  refine hX_call (r' := zR_132) rfl (ct_132_63 (m_s 3) 2 0 o3) ?_
  refine hX_go 8 (38) [some (.ref 63), some (.int x0), some (.int (m_s 3))] [] (hMm c0 (upd (f_132_63_m_s (m_s 3) 2 0 (f_132_63_m_s (m_s 3) 1 5 (f_132_63_m_s (m_s 3) 0 x0 m_s))) 3 (((f_132_63_m_s (m_s 3) 2 0 (f_132_63_m_s (m_s 3) 1 5 (f_132_63_m_s (m_s 3) 0 x0 m_s))) 3) + 1)) m_kp m_as m_ik m_fo m_tl m_tr m_fa m_od m_rc m_be m_ft m_tp m_td m_tk m_bg m_en m_vl m_sg m_wi m_si m_ce m_ca) rfl ?_
  exact hX_end rfl (rfl) (rfl)

/-- UpOneSideModel.pull(I)I -/
def v_139_63 (x0 : Int32) (m_s : Nat → Int32) : Int32 := bif gCmp .ne (v_125 x0 0 6) 0 then (bif gCmp .ne (m_s 3) 8 then (((f_138_63_m_s x0 m_s) 3) - 1) else (v_124_63 1)) else (v_124_63 0)
def f_139_63_m_s (x0 : Int32) (m_s : Nat → Int32) : Nat → Int32 := bif gCmp .ne (v_125 x0 0 6) 0 then (bif gCmp .ne (m_s 3) 8 then (f_138_63_m_s x0 m_s) else m_s) else m_s
def f_139_63_m_fo (x0 : Int32) (m_s : Nat → Int32) (m_fo : Nat → Int32) : Nat → Int32 := bif gCmp .ne (v_125 x0 0 6) 0 then (bif gCmp .ne (m_s 3) 8 then m_fo else (f_124_63_m_fo 1 m_fo)) else (f_124_63_m_fo 0 m_fo)
set_option maxRecDepth 20000 in
set_option maxHeartbeats 1000000 in
theorem ct_139_63 {LL : Nat} {xs : Nat → Int32} {D : Nat} {c0 : Nat → gE} {m_s : Nat → Int32} {m_kp : Nat → Int32} {m_as : Nat → Int32} {m_ik : Int32} {m_fo : Nat → Int32} {m_tl : Int32} {m_tr : Int32} {m_fa : Nat → Int32} {m_od : Nat → Int32} {m_rc : Int32} {m_be : Nat → Int32} {m_ft : Int32} {m_tp : Nat → Int32} {m_td : Int32} {m_tk : Int32} {m_bg : Int32} {m_en : Int32} {m_vl : Int64} {m_sg : Int32} {m_wi : Nat → Int32} {m_si : Nat → Int32} {m_ce : Nat → Int32} {m_ca : Nat → Int32} (x0 : Int32) (o1 : gCmp .ne (v_125 x0 0 6) 0 = true → gCmp .ne (m_s 3) 8 = true → gIn ((15 + (3 * (m_s 3))) + 0) 134 = true) (o2 : gCmp .ne (v_125 x0 0 6) 0 = true → gCmp .ne (m_s 3) 8 = true → gIn ((15 + (3 * (m_s 3))) + 1) 134 = true) (o3 : gCmp .ne (v_125 x0 0 6) 0 = true → gCmp .ne (m_s 3) 8 = true → gIn ((15 + (3 * (m_s 3))) + 2) 134 = true) (o4 : gCmp .ne (v_125 x0 0 6) 0 = true → gCmp .ne (m_s 3) 8 = false → gIn 1 7 = true) (o5 : gCmp .ne (v_125 x0 0 6) 0 = false → gIn 0 7 = true) : hM (gO LL xs) (D + 2) zR_139 [.ref 63, .int x0] (hMm c0 m_s m_kp m_as m_ik m_fo m_tl m_tr m_fa m_od m_rc m_be m_ft m_tp m_td m_tk m_bg m_en m_vl m_sg m_wi m_si m_ce m_ca) (some (.int (v_139_63 x0 m_s))) (hMm c0 (f_139_63_m_s x0 m_s) m_kp m_as m_ik (f_139_63_m_fo x0 m_s m_fo) m_tl m_tr m_fa m_od m_rc m_be m_ft m_tp m_td m_tk m_bg m_en m_vl m_sg m_wi m_si m_ce m_ca) := by
  refine hX_go 0 0 [some (.ref 63), some (.int x0)] [] (hMm c0 m_s m_kp m_as m_ik m_fo m_tl m_tr m_fa m_od m_rc m_be m_ft m_tp m_td m_tk m_bg m_en m_vl m_sg m_wi m_si m_ce m_ca) rfl ?_
  refine hX_go 3 (4) [some (.ref 63), some (.int x0)] [.int 6, .int 0, .int x0] (hMm c0 m_s m_kp m_as m_ik m_fo m_tl m_tr m_fa m_od m_rc m_be m_ft m_tp m_td m_tk m_bg m_en m_vl m_sg m_wi m_si m_ce m_ca) rfl ?_
  refine hX_call (r' := zR_125) rfl (ct_125 x0 0 6) ?_
  refine hX_go 1 (bif gCmp .ne (v_125 x0 0 6) 0 then 16 else 10) [some (.ref 63), some (.int x0)] [] (hMm c0 m_s m_kp m_as m_ik m_fo m_tl m_tr m_fa m_od m_rc m_be m_ft m_tp m_td m_tk m_bg m_en m_vl m_sg m_wi m_si m_ce m_ca) rfl ?_
  refine hX_if (gCmp .ne (v_125 x0 0 6) 0) (fun c1 => ?_) (fun c1 => ?_)
  · skip
    refine hX_go 6 (bif gCmp .ne (m_s 3) 8 then 33 else 27) [some (.ref 63), some (.int x0)] [] (hMm c0 m_s m_kp m_as m_ik m_fo m_tl m_tr m_fa m_od m_rc m_be m_ft m_tp m_td m_tk m_bg m_en m_vl m_sg m_wi m_si m_ce m_ca) rfl ?_
    refine hX_if (gCmp .ne (m_s 3) 8) (fun c2 => ?_) (fun c2 => ?_)
    · skip
      refine hX_go 2 (35) [some (.ref 63), some (.int x0)] [.int x0, .ref 63] (hMm c0 m_s m_kp m_as m_ik m_fo m_tl m_tr m_fa m_od m_rc m_be m_ft m_tp m_td m_tk m_bg m_en m_vl m_sg m_wi m_si m_ce m_ca) rfl ?_
      refine hX_call (r' := zR_138) rfl (ct_138_63 x0 (o1 c1 c2) (o2 c1 c2) (o3 c1 c2)) ?_
      refine hX_go 6 (46) [some (.ref 63), some (.int x0)] [.int (((f_138_63_m_s x0 m_s) 3) - 1)] (hMm c0 (f_138_63_m_s x0 m_s) m_kp m_as m_ik m_fo m_tl m_tr m_fa m_od m_rc m_be m_ft m_tp m_td m_tk m_bg m_en m_vl m_sg m_wi m_si m_ce m_ca) rfl ?_
      exact hX_end rfl (by unfold v_139_63; rw [c1, c2]; rfl) (by unfold f_139_63_m_s; rw [c1, c2]; unfold f_139_63_m_fo; rw [c1, c2]; rfl)
    · skip
      refine hX_go 2 (29) [some (.ref 63), some (.int x0)] [.int 1, .ref 63] (hMm c0 m_s m_kp m_as m_ik m_fo m_tl m_tr m_fa m_od m_rc m_be m_ft m_tp m_td m_tk m_bg m_en m_vl m_sg m_wi m_si m_ce m_ca) rfl ?_
      refine hX_call (r' := zR_124) rfl (ct_124_63 1 (o4 c1 c2)) ?_
      refine hX_go 0 (32) [some (.ref 63), some (.int x0)] [.int (v_124_63 1)] (hMm c0 m_s m_kp m_as m_ik (f_124_63_m_fo 1 m_fo) m_tl m_tr m_fa m_od m_rc m_be m_ft m_tp m_td m_tk m_bg m_en m_vl m_sg m_wi m_si m_ce m_ca) rfl ?_
      exact hX_end rfl (by unfold v_139_63; rw [c1, c2]; rfl) (by unfold f_139_63_m_s; rw [c1, c2]; unfold f_139_63_m_fo; rw [c1, c2]; rfl)
  · skip
    refine hX_go 2 (12) [some (.ref 63), some (.int x0)] [.int 0, .ref 63] (hMm c0 m_s m_kp m_as m_ik m_fo m_tl m_tr m_fa m_od m_rc m_be m_ft m_tp m_td m_tk m_bg m_en m_vl m_sg m_wi m_si m_ce m_ca) rfl ?_
    refine hX_call (r' := zR_124) rfl (ct_124_63 0 (o5 c1)) ?_
    refine hX_go 0 (15) [some (.ref 63), some (.int x0)] [.int (v_124_63 0)] (hMm c0 m_s m_kp m_as m_ik (f_124_63_m_fo 0 m_fo) m_tl m_tr m_fa m_od m_rc m_be m_ft m_tp m_td m_tk m_bg m_en m_vl m_sg m_wi m_si m_ce m_ca) rfl ?_
    exact hX_end rfl (by unfold v_139_63; rw [c1]; rfl) (by unfold f_139_63_m_s; rw [c1]; unfold f_139_63_m_fo; rw [c1]; rfl)

/-- UpOneSideModel.of(II)I -/
def v_140_63 (x0 : Int32) (x1 : Int32) (m_s : Nat → Int32) : Int32 := bif gCmp .eq (v_129_63 x0 m_s) 0 then (v_124_63 0) else (bif gCmp .ne (v_125 x1 0 4) 0 then (bif gCmp .ge x1 3 then (bif gCmp .ne x1 3 then (v_134_63 x0 (m_s 0) (m_s 1) m_s) else (v_133_63 x0 (m_s 0) (m_s 1) m_s)) else (v_131_63 x0 x1 m_s)) else (v_124_63 0))
def f_140_63_m_fo (x0 : Int32) (x1 : Int32) (m_s : Nat → Int32) (m_fo : Nat → Int32) : Nat → Int32 := bif gCmp .eq (v_129_63 x0 m_s) 0 then (f_124_63_m_fo 0 m_fo) else (bif gCmp .ne (v_125 x1 0 4) 0 then m_fo else (f_124_63_m_fo 0 m_fo))
set_option maxRecDepth 20000 in
set_option maxHeartbeats 1000000 in
theorem ct_140_63 {LL : Nat} {xs : Nat → Int32} {D : Nat} {c0 : Nat → gE} {m_s : Nat → Int32} {m_kp : Nat → Int32} {m_as : Nat → Int32} {m_ik : Int32} {m_fo : Nat → Int32} {m_tl : Int32} {m_tr : Int32} {m_fa : Nat → Int32} {m_od : Nat → Int32} {m_rc : Int32} {m_be : Nat → Int32} {m_ft : Int32} {m_tp : Nat → Int32} {m_td : Int32} {m_tk : Int32} {m_bg : Int32} {m_en : Int32} {m_vl : Int64} {m_sg : Int32} {m_wi : Nat → Int32} {m_si : Nat → Int32} {m_ce : Nat → Int32} {m_ca : Nat → Int32} (x0 : Int32) (x1 : Int32) (o1 : gCmp .eq (v_129_63 x0 m_s) 0 = true → gIn 0 7 = true) (o2 : gCmp .eq (v_129_63 x0 m_s) 0 = false → gCmp .ne (v_125 x1 0 4) 0 = true → gCmp .ge x1 3 = true → gCmp .ne x1 3 = true → gIn ((15 + (3 * x0)) + 1) 134 = true) (o3 : gCmp .eq (v_129_63 x0 m_s) 0 = false → gCmp .ne (v_125 x1 0 4) 0 = true → gCmp .ge x1 3 = true → gCmp .ne x1 3 = true → gIn ((15 + (3 * x0)) + 2) 134 = true) (o4 : gCmp .eq (v_129_63 x0 m_s) 0 = false → gCmp .ne (v_125 x1 0 4) 0 = true → gCmp .ge x1 3 = true → gCmp .ne x1 3 = true → gIn ((15 + (3 * x0)) + 0) 134 = true) (o5 : gCmp .eq (v_129_63 x0 m_s) 0 = false → gCmp .ne (v_125 x1 0 4) 0 = true → gCmp .ge x1 3 = true → gCmp .ne x1 3 = false → gIn ((15 + (3 * x0)) + 0) 134 = true) (o6 : gCmp .eq (v_129_63 x0 m_s) 0 = false → gCmp .ne (v_125 x1 0 4) 0 = true → gCmp .ge x1 3 = true → gCmp .ne x1 3 = false → gIn ((15 + (3 * x0)) + 1) 134 = true) (o7 : gCmp .eq (v_129_63 x0 m_s) 0 = false → gCmp .ne (v_125 x1 0 4) 0 = true → gCmp .ge x1 3 = true → gCmp .ne x1 3 = false → gIn ((15 + (3 * x0)) + 2) 134 = true) (o8 : gCmp .eq (v_129_63 x0 m_s) 0 = false → gCmp .ne (v_125 x1 0 4) 0 = true → gCmp .ge x1 3 = false → gIn ((15 + (3 * x0)) + x1) 134 = true) (o9 : gCmp .eq (v_129_63 x0 m_s) 0 = false → gCmp .ne (v_125 x1 0 4) 0 = false → gIn 0 7 = true) : hM (gO LL xs) (D + 2) zR_140 [.ref 63, .int x0, .int x1] (hMm c0 m_s m_kp m_as m_ik m_fo m_tl m_tr m_fa m_od m_rc m_be m_ft m_tp m_td m_tk m_bg m_en m_vl m_sg m_wi m_si m_ce m_ca) (some (.int (v_140_63 x0 x1 m_s))) (hMm c0 m_s m_kp m_as m_ik (f_140_63_m_fo x0 x1 m_s m_fo) m_tl m_tr m_fa m_od m_rc m_be m_ft m_tp m_td m_tk m_bg m_en m_vl m_sg m_wi m_si m_ce m_ca) := by
  refine hX_go 0 0 [some (.ref 63), some (.int x0), some (.int x1)] [] (hMm c0 m_s m_kp m_as m_ik m_fo m_tl m_tr m_fa m_od m_rc m_be m_ft m_tp m_td m_tk m_bg m_en m_vl m_sg m_wi m_si m_ce m_ca) rfl ?_
  refine hX_go 2 (2) [some (.ref 63), some (.int x0), some (.int x1)] [.int x0, .ref 63] (hMm c0 m_s m_kp m_as m_ik m_fo m_tl m_tr m_fa m_od m_rc m_be m_ft m_tp m_td m_tk m_bg m_en m_vl m_sg m_wi m_si m_ce m_ca) rfl ?_
  refine hX_call (r' := zR_129) rfl (ct_129_63 x0) ?_
  refine hX_go 1 (bif gCmp .eq (v_129_63 x0 m_s) 0 then 17 else 8) [some (.ref 63), some (.int x0), some (.int x1)] [] (hMm c0 m_s m_kp m_as m_ik m_fo m_tl m_tr m_fa m_od m_rc m_be m_ft m_tp m_td m_tk m_bg m_en m_vl m_sg m_wi m_si m_ce m_ca) rfl ?_
  refine hX_if (gCmp .eq (v_129_63 x0 m_s) 0) (fun c1 => ?_) (fun c1 => ?_)
  · skip
    refine hX_go 2 (19) [some (.ref 63), some (.int x0), some (.int x1)] [.int 0, .ref 63] (hMm c0 m_s m_kp m_as m_ik m_fo m_tl m_tr m_fa m_od m_rc m_be m_ft m_tp m_td m_tk m_bg m_en m_vl m_sg m_wi m_si m_ce m_ca) rfl ?_
    refine hX_call (r' := zR_124) rfl (ct_124_63 0 (o1 c1)) ?_
    refine hX_go 0 (22) [some (.ref 63), some (.int x0), some (.int x1)] [.int (v_124_63 0)] (hMm c0 m_s m_kp m_as m_ik (f_124_63_m_fo 0 m_fo) m_tl m_tr m_fa m_od m_rc m_be m_ft m_tp m_td m_tk m_bg m_en m_vl m_sg m_wi m_si m_ce m_ca) rfl ?_
    exact hX_end rfl (by unfold v_140_63; rw [c1]; rfl) (by unfold f_140_63_m_fo; rw [c1]; rfl)
  · skip
    refine hX_go 3 (11) [some (.ref 63), some (.int x0), some (.int x1)] [.int 4, .int 0, .int x1] (hMm c0 m_s m_kp m_as m_ik m_fo m_tl m_tr m_fa m_od m_rc m_be m_ft m_tp m_td m_tk m_bg m_en m_vl m_sg m_wi m_si m_ce m_ca) rfl ?_
    refine hX_call (r' := zR_125) rfl (ct_125 x1 0 4) ?_
    refine hX_go 1 (bif gCmp .ne (v_125 x1 0 4) 0 then 23 else 17) [some (.ref 63), some (.int x0), some (.int x1)] [] (hMm c0 m_s m_kp m_as m_ik m_fo m_tl m_tr m_fa m_od m_rc m_be m_ft m_tp m_td m_tk m_bg m_en m_vl m_sg m_wi m_si m_ce m_ca) rfl ?_
    refine hX_if (gCmp .ne (v_125 x1 0 4) 0) (fun c2 => ?_) (fun c2 => ?_)
    · skip
      refine hX_go 3 (bif gCmp .ge x1 3 then 37 else 28) [some (.ref 63), some (.int x0), some (.int x1)] [] (hMm c0 m_s m_kp m_as m_ik m_fo m_tl m_tr m_fa m_od m_rc m_be m_ft m_tp m_td m_tk m_bg m_en m_vl m_sg m_wi m_si m_ce m_ca) rfl ?_
      suffices hk : hX (gO LL xs) (D + 2) zR_140 79 [some (.ref 63), some (.int x0), some (.int x1)] [.int (bif gCmp .ge x1 3 then (bif gCmp .ne x1 3 then (v_134_63 x0 (m_s 0) (m_s 1) m_s) else (v_133_63 x0 (m_s 0) (m_s 1) m_s)) else (v_131_63 x0 x1 m_s))] (hMm c0 m_s m_kp m_as m_ik m_fo m_tl m_tr m_fa m_od m_rc m_be m_ft m_tp m_td m_tk m_bg m_en m_vl m_sg m_wi m_si m_ce m_ca) (some (.int (v_140_63 x0 x1 m_s))) (hMm c0 m_s m_kp m_as m_ik (f_140_63_m_fo x0 x1 m_s m_fo) m_tl m_tr m_fa m_od m_rc m_be m_ft m_tp m_td m_tk m_bg m_en m_vl m_sg m_wi m_si m_ce m_ca) by
        refine hX_if (gCmp .ge x1 3) (fun c3 => ?_) (fun c3 => ?_)
        · skip
          refine hX_go 3 (bif gCmp .ne x1 3 then 62 else 42) [some (.ref 63), some (.int x0), some (.int x1)] [] (hMm c0 m_s m_kp m_as m_ik m_fo m_tl m_tr m_fa m_od m_rc m_be m_ft m_tp m_td m_tk m_bg m_en m_vl m_sg m_wi m_si m_ce m_ca) rfl ?_
          refine hX_if (gCmp .ne x1 3) (fun c4 => ?_) (fun c4 => ?_)
          · skip
            refine hX_go 9 (75) [some (.ref 63), some (.int x0), some (.int x1)] [.int 1, .ref 64, .int (m_s 0), .int x0, .ref 63] (hMm c0 m_s m_kp m_as m_ik m_fo m_tl m_tr m_fa m_od m_rc m_be m_ft m_tp m_td m_tk m_bg m_en m_vl m_sg m_wi m_si m_ce m_ca) rfl ?_
            refine hX_go 1 (76) [some (.ref 63), some (.int x0), some (.int x1)] [.int (m_s 1), .int (m_s 0), .int x0, .ref 63] (hMm c0 m_s m_kp m_as m_ik m_fo m_tl m_tr m_fa m_od m_rc m_be m_ft m_tp m_td m_tk m_bg m_en m_vl m_sg m_wi m_si m_ce m_ca) rfl ?_
            refine hX_call (r' := zR_134) rfl (ct_134_63 x0 (m_s 0) (m_s 1) (o2 c1 c2 c3 c4) (o3 c1 c2 c3 c4) (o4 c1 c2 c3 c4)) ?_
            refine hX_go 0 (79) [some (.ref 63), some (.int x0), some (.int x1)] [.int (v_134_63 x0 (m_s 0) (m_s 1) m_s)] (hMm c0 m_s m_kp m_as m_ik m_fo m_tl m_tr m_fa m_od m_rc m_be m_ft m_tp m_td m_tk m_bg m_en m_vl m_sg m_wi m_si m_ce m_ca) rfl ?_
            have hk := hk
            simp only [c3, c4, cond_true, cond_false] at hk
            first | exact hk | (simp only [c3, c4, cond_true, cond_false]; exact hk)
          · skip
            refine hX_go 9 (55) [some (.ref 63), some (.int x0), some (.int x1)] [.int 1, .ref 64, .int (m_s 0), .int x0, .ref 63] (hMm c0 m_s m_kp m_as m_ik m_fo m_tl m_tr m_fa m_od m_rc m_be m_ft m_tp m_td m_tk m_bg m_en m_vl m_sg m_wi m_si m_ce m_ca) rfl ?_
            refine hX_go 1 (56) [some (.ref 63), some (.int x0), some (.int x1)] [.int (m_s 1), .int (m_s 0), .int x0, .ref 63] (hMm c0 m_s m_kp m_as m_ik m_fo m_tl m_tr m_fa m_od m_rc m_be m_ft m_tp m_td m_tk m_bg m_en m_vl m_sg m_wi m_si m_ce m_ca) rfl ?_
            refine hX_call (r' := zR_133) rfl (ct_133_63 x0 (m_s 0) (m_s 1) (o5 c1 c2 c3 c4) (o6 c1 c2 c3 c4) (o7 c1 c2 c3 c4)) ?_
            refine hX_go 1 (79) [some (.ref 63), some (.int x0), some (.int x1)] [.int (v_133_63 x0 (m_s 0) (m_s 1) m_s)] (hMm c0 m_s m_kp m_as m_ik m_fo m_tl m_tr m_fa m_od m_rc m_be m_ft m_tp m_td m_tk m_bg m_en m_vl m_sg m_wi m_si m_ce m_ca) rfl ?_
            have hk := hk
            simp only [c3, c4, cond_true, cond_false] at hk
            first | exact hk | (simp only [c3, c4, cond_true, cond_false]; exact hk)
        · skip
          refine hX_go 3 (31) [some (.ref 63), some (.int x0), some (.int x1)] [.int x1, .int x0, .ref 63] (hMm c0 m_s m_kp m_as m_ik m_fo m_tl m_tr m_fa m_od m_rc m_be m_ft m_tp m_td m_tk m_bg m_en m_vl m_sg m_wi m_si m_ce m_ca) rfl ?_
          refine hX_call (r' := zR_131) rfl (ct_131_63 x0 x1 (o8 c1 c2 c3)) ?_
          refine hX_go 1 (79) [some (.ref 63), some (.int x0), some (.int x1)] [.int (v_131_63 x0 x1 m_s)] (hMm c0 m_s m_kp m_as m_ik m_fo m_tl m_tr m_fa m_od m_rc m_be m_ft m_tp m_td m_tk m_bg m_en m_vl m_sg m_wi m_si m_ce m_ca) rfl ?_
          have hk := hk
          simp only [c3, cond_true, cond_false] at hk
          first | exact hk | (simp only [c3, cond_true, cond_false]; exact hk)
      exact hX_end rfl (by unfold v_140_63; rw [c1, c2]; rfl) (by unfold f_140_63_m_fo; rw [c1, c2]; rfl)
    · skip
      refine hX_go 2 (19) [some (.ref 63), some (.int x0), some (.int x1)] [.int 0, .ref 63] (hMm c0 m_s m_kp m_as m_ik m_fo m_tl m_tr m_fa m_od m_rc m_be m_ft m_tp m_td m_tk m_bg m_en m_vl m_sg m_wi m_si m_ce m_ca) rfl ?_
      refine hX_call (r' := zR_124) rfl (ct_124_63 0 (o9 c1 c2)) ?_
      refine hX_go 0 (22) [some (.ref 63), some (.int x0), some (.int x1)] [.int (v_124_63 0)] (hMm c0 m_s m_kp m_as m_ik (f_124_63_m_fo 0 m_fo) m_tl m_tr m_fa m_od m_rc m_be m_ft m_tp m_td m_tk m_bg m_en m_vl m_sg m_wi m_si m_ce m_ca) rfl ?_
      exact hX_end rfl (by unfold v_140_63; rw [c1, c2]; rfl) (by unfold f_140_63_m_fo; rw [c1, c2]; rfl)

/-- UpOneSideModel.change(III)I -/
def v_141_63 (x0 : Int32) (x1 : Int32) (x2 : Int32) (m_s : Nat → Int32) : Int32 := bif gCmp .eq (v_129_63 x0 m_s) 0 then (v_124_63 0) else (bif gCmp .eq (v_125 x1 0 2) 0 then (v_124_63 0) else (bif gCmp .ne (v_125 x2 (bif gCmp .ne x1 0 then (-(bif gCmp .ne x1 0 then (bif gCmp .ne x1 1 then 9 else 30) else 6)) else 0) (bif gCmp .ne x1 0 then (bif gCmp .ne x1 1 then 9 else 30) else 6)) 0 then (v_131_63 x0 x1 m_s) else (v_124_63 0)))
def f_141_63_m_s (x0 : Int32) (x1 : Int32) (x2 : Int32) (m_s : Nat → Int32) : Nat → Int32 := bif gCmp .eq (v_129_63 x0 m_s) 0 then m_s else (bif gCmp .eq (v_125 x1 0 2) 0 then m_s else (bif gCmp .ne (v_125 x2 (bif gCmp .ne x1 0 then (-(bif gCmp .ne x1 0 then (bif gCmp .ne x1 1 then 9 else 30) else 6)) else 0) (bif gCmp .ne x1 0 then (bif gCmp .ne x1 1 then 9 else 30) else 6)) 0 then (f_132_63_m_s x0 x1 x2 m_s) else m_s))
def f_141_63_m_fo (x0 : Int32) (x1 : Int32) (x2 : Int32) (m_s : Nat → Int32) (m_fo : Nat → Int32) : Nat → Int32 := bif gCmp .eq (v_129_63 x0 m_s) 0 then (f_124_63_m_fo 0 m_fo) else (bif gCmp .eq (v_125 x1 0 2) 0 then (f_124_63_m_fo 0 m_fo) else (bif gCmp .ne (v_125 x2 (bif gCmp .ne x1 0 then (-(bif gCmp .ne x1 0 then (bif gCmp .ne x1 1 then 9 else 30) else 6)) else 0) (bif gCmp .ne x1 0 then (bif gCmp .ne x1 1 then 9 else 30) else 6)) 0 then m_fo else (f_124_63_m_fo 0 m_fo)))
set_option maxRecDepth 20000 in
set_option maxHeartbeats 1000000 in
theorem ct_141_63 {LL : Nat} {xs : Nat → Int32} {D : Nat} {c0 : Nat → gE} {m_s : Nat → Int32} {m_kp : Nat → Int32} {m_as : Nat → Int32} {m_ik : Int32} {m_fo : Nat → Int32} {m_tl : Int32} {m_tr : Int32} {m_fa : Nat → Int32} {m_od : Nat → Int32} {m_rc : Int32} {m_be : Nat → Int32} {m_ft : Int32} {m_tp : Nat → Int32} {m_td : Int32} {m_tk : Int32} {m_bg : Int32} {m_en : Int32} {m_vl : Int64} {m_sg : Int32} {m_wi : Nat → Int32} {m_si : Nat → Int32} {m_ce : Nat → Int32} {m_ca : Nat → Int32} (x0 : Int32) (x1 : Int32) (x2 : Int32) (o1 : gCmp .eq (v_129_63 x0 m_s) 0 = true → gIn 0 7 = true) (o2 : gCmp .eq (v_129_63 x0 m_s) 0 = false → gCmp .eq (v_125 x1 0 2) 0 = true → gIn 0 7 = true) (o3 : gCmp .eq (v_129_63 x0 m_s) 0 = false → gCmp .eq (v_125 x1 0 2) 0 = false → gCmp .ne (v_125 x2 (bif gCmp .ne x1 0 then (-(bif gCmp .ne x1 0 then (bif gCmp .ne x1 1 then 9 else 30) else 6)) else 0) (bif gCmp .ne x1 0 then (bif gCmp .ne x1 1 then 9 else 30) else 6)) 0 = true → gIn ((15 + (3 * x0)) + x1) 134 = true) (o4 : gCmp .eq (v_129_63 x0 m_s) 0 = false → gCmp .eq (v_125 x1 0 2) 0 = false → gCmp .ne (v_125 x2 (bif gCmp .ne x1 0 then (-(bif gCmp .ne x1 0 then (bif gCmp .ne x1 1 then 9 else 30) else 6)) else 0) (bif gCmp .ne x1 0 then (bif gCmp .ne x1 1 then 9 else 30) else 6)) 0 = false → gIn 0 7 = true) : hM (gO LL xs) (D + 2) zR_141 [.ref 63, .int x0, .int x1, .int x2] (hMm c0 m_s m_kp m_as m_ik m_fo m_tl m_tr m_fa m_od m_rc m_be m_ft m_tp m_td m_tk m_bg m_en m_vl m_sg m_wi m_si m_ce m_ca) (some (.int (v_141_63 x0 x1 x2 m_s))) (hMm c0 (f_141_63_m_s x0 x1 x2 m_s) m_kp m_as m_ik (f_141_63_m_fo x0 x1 x2 m_s m_fo) m_tl m_tr m_fa m_od m_rc m_be m_ft m_tp m_td m_tk m_bg m_en m_vl m_sg m_wi m_si m_ce m_ca) := by
  refine hX_go 0 0 [some (.ref 63), some (.int x0), some (.int x1), some (.int x2), none, none] [] (hMm c0 m_s m_kp m_as m_ik m_fo m_tl m_tr m_fa m_od m_rc m_be m_ft m_tp m_td m_tk m_bg m_en m_vl m_sg m_wi m_si m_ce m_ca) rfl ?_
  refine hX_go 2 (bif gCmp .ne x1 0 then 9 else 4) [some (.ref 63), some (.int x0), some (.int x1), some (.int x2), none, none] [] (hMm c0 m_s m_kp m_as m_ik m_fo m_tl m_tr m_fa m_od m_rc m_be m_ft m_tp m_td m_tk m_bg m_en m_vl m_sg m_wi m_si m_ce m_ca) rfl ?_
  suffices hk : hX (gO LL xs) (D + 2) zR_141 21 [some (.ref 63), some (.int x0), some (.int x1), some (.int x2), none, none] [.int (bif gCmp .ne x1 0 then (bif gCmp .ne x1 1 then 9 else 30) else 6)] (hMm c0 m_s m_kp m_as m_ik m_fo m_tl m_tr m_fa m_od m_rc m_be m_ft m_tp m_td m_tk m_bg m_en m_vl m_sg m_wi m_si m_ce m_ca) (some (.int (v_141_63 x0 x1 x2 m_s))) (hMm c0 (f_141_63_m_s x0 x1 x2 m_s) m_kp m_as m_ik (f_141_63_m_fo x0 x1 x2 m_s m_fo) m_tl m_tr m_fa m_od m_rc m_be m_ft m_tp m_td m_tk m_bg m_en m_vl m_sg m_wi m_si m_ce m_ca) by
    refine hX_if (gCmp .ne x1 0) (fun c1 => ?_) (fun c1 => ?_)
    · skip
      refine hX_go 3 (bif gCmp .ne x1 1 then 19 else 14) [some (.ref 63), some (.int x0), some (.int x1), some (.int x2), none, none] [] (hMm c0 m_s m_kp m_as m_ik m_fo m_tl m_tr m_fa m_od m_rc m_be m_ft m_tp m_td m_tk m_bg m_en m_vl m_sg m_wi m_si m_ce m_ca) rfl ?_
      refine hX_if (gCmp .ne x1 1) (fun c2 => ?_) (fun c2 => ?_)
      · skip
        refine hX_go 1 (21) [some (.ref 63), some (.int x0), some (.int x1), some (.int x2), none, none] [.int 9] (hMm c0 m_s m_kp m_as m_ik m_fo m_tl m_tr m_fa m_od m_rc m_be m_ft m_tp m_td m_tk m_bg m_en m_vl m_sg m_wi m_si m_ce m_ca) rfl ?_
        have hk := hk
        simp only [c1, c2, cond_true, cond_false] at hk
        first | exact hk | (simp only [c1, c2, cond_true, cond_false]; exact hk)
      · skip
        refine hX_go 2 (21) [some (.ref 63), some (.int x0), some (.int x1), some (.int x2), none, none] [.int 30] (hMm c0 m_s m_kp m_as m_ik m_fo m_tl m_tr m_fa m_od m_rc m_be m_ft m_tp m_td m_tk m_bg m_en m_vl m_sg m_wi m_si m_ce m_ca) rfl ?_
        have hk := hk
        simp only [c1, c2, cond_true, cond_false] at hk
        first | exact hk | (simp only [c1, c2, cond_true, cond_false]; exact hk)
    · skip
      refine hX_go 2 (21) [some (.ref 63), some (.int x0), some (.int x1), some (.int x2), none, none] [.int 6] (hMm c0 m_s m_kp m_as m_ik m_fo m_tl m_tr m_fa m_od m_rc m_be m_ft m_tp m_td m_tk m_bg m_en m_vl m_sg m_wi m_si m_ce m_ca) rfl ?_
      have hk := hk
      simp only [c1, cond_true, cond_false] at hk
      first | exact hk | (simp only [c1, cond_true, cond_false]; exact hk)
  refine hX_go 3 (25) [some (.ref 63), some (.int x0), some (.int x1), some (.int x2), some (.int (bif gCmp .ne x1 0 then (bif gCmp .ne x1 1 then 9 else 30) else 6)), none] [.int x0, .ref 63] (hMm c0 m_s m_kp m_as m_ik m_fo m_tl m_tr m_fa m_od m_rc m_be m_ft m_tp m_td m_tk m_bg m_en m_vl m_sg m_wi m_si m_ce m_ca) rfl ?_
  refine hX_call (r' := zR_129) rfl (ct_129_63 x0) ?_
  refine hX_go 1 (bif gCmp .eq (v_129_63 x0 m_s) 0 then 60 else 31) [some (.ref 63), some (.int x0), some (.int x1), some (.int x2), some (.int (bif gCmp .ne x1 0 then (bif gCmp .ne x1 1 then 9 else 30) else 6)), none] [] (hMm c0 m_s m_kp m_as m_ik m_fo m_tl m_tr m_fa m_od m_rc m_be m_ft m_tp m_td m_tk m_bg m_en m_vl m_sg m_wi m_si m_ce m_ca) rfl ?_
  refine hX_if (gCmp .eq (v_129_63 x0 m_s) 0) (fun c3 => ?_) (fun c3 => ?_)
  · skip
    refine hX_go 2 (62) [some (.ref 63), some (.int x0), some (.int x1), some (.int x2), some (.int (bif gCmp .ne x1 0 then (bif gCmp .ne x1 1 then 9 else 30) else 6)), none] [.int 0, .ref 63] (hMm c0 m_s m_kp m_as m_ik m_fo m_tl m_tr m_fa m_od m_rc m_be m_ft m_tp m_td m_tk m_bg m_en m_vl m_sg m_wi m_si m_ce m_ca) rfl ?_
    refine hX_call (r' := zR_124) rfl (ct_124_63 0 (o1 c3)) ?_
    refine hX_go 0 (65) [some (.ref 63), some (.int x0), some (.int x1), some (.int x2), some (.int (bif gCmp .ne x1 0 then (bif gCmp .ne x1 1 then 9 else 30) else 6)), none] [.int (v_124_63 0)] (hMm c0 m_s m_kp m_as m_ik (f_124_63_m_fo 0 m_fo) m_tl m_tr m_fa m_od m_rc m_be m_ft m_tp m_td m_tk m_bg m_en m_vl m_sg m_wi m_si m_ce m_ca) rfl ?_
    exact hX_end rfl (by unfold v_141_63; rw [c3]; rfl) (by unfold f_141_63_m_s; rw [c3]; unfold f_141_63_m_fo; rw [c3]; rfl)
  · skip
    refine hX_go 3 (34) [some (.ref 63), some (.int x0), some (.int x1), some (.int x2), some (.int (bif gCmp .ne x1 0 then (bif gCmp .ne x1 1 then 9 else 30) else 6)), none] [.int 2, .int 0, .int x1] (hMm c0 m_s m_kp m_as m_ik m_fo m_tl m_tr m_fa m_od m_rc m_be m_ft m_tp m_td m_tk m_bg m_en m_vl m_sg m_wi m_si m_ce m_ca) rfl ?_
    refine hX_call (r' := zR_125) rfl (ct_125 x1 0 2) ?_
    refine hX_go 1 (bif gCmp .eq (v_125 x1 0 2) 0 then 60 else 40) [some (.ref 63), some (.int x0), some (.int x1), some (.int x2), some (.int (bif gCmp .ne x1 0 then (bif gCmp .ne x1 1 then 9 else 30) else 6)), none] [] (hMm c0 m_s m_kp m_as m_ik m_fo m_tl m_tr m_fa m_od m_rc m_be m_ft m_tp m_td m_tk m_bg m_en m_vl m_sg m_wi m_si m_ce m_ca) rfl ?_
    refine hX_if (gCmp .eq (v_125 x1 0 2) 0) (fun c4 => ?_) (fun c4 => ?_)
    · skip
      refine hX_go 2 (62) [some (.ref 63), some (.int x0), some (.int x1), some (.int x2), some (.int (bif gCmp .ne x1 0 then (bif gCmp .ne x1 1 then 9 else 30) else 6)), none] [.int 0, .ref 63] (hMm c0 m_s m_kp m_as m_ik m_fo m_tl m_tr m_fa m_od m_rc m_be m_ft m_tp m_td m_tk m_bg m_en m_vl m_sg m_wi m_si m_ce m_ca) rfl ?_
      refine hX_call (r' := zR_124) rfl (ct_124_63 0 (o2 c3 c4)) ?_
      refine hX_go 0 (65) [some (.ref 63), some (.int x0), some (.int x1), some (.int x2), some (.int (bif gCmp .ne x1 0 then (bif gCmp .ne x1 1 then 9 else 30) else 6)), none] [.int (v_124_63 0)] (hMm c0 m_s m_kp m_as m_ik (f_124_63_m_fo 0 m_fo) m_tl m_tr m_fa m_od m_rc m_be m_ft m_tp m_td m_tk m_bg m_en m_vl m_sg m_wi m_si m_ce m_ca) rfl ?_
      exact hX_end rfl (by unfold v_141_63; rw [c3, c4]; rfl) (by unfold f_141_63_m_s; rw [c3, c4]; unfold f_141_63_m_fo; rw [c3, c4]; rfl)
    · skip
      refine hX_go 3 (bif gCmp .ne x1 0 then 49 else 45) [some (.ref 63), some (.int x0), some (.int x1), some (.int x2), some (.int (bif gCmp .ne x1 0 then (bif gCmp .ne x1 1 then 9 else 30) else 6)), none] [.int x2] (hMm c0 m_s m_kp m_as m_ik m_fo m_tl m_tr m_fa m_od m_rc m_be m_ft m_tp m_td m_tk m_bg m_en m_vl m_sg m_wi m_si m_ce m_ca) rfl ?_
      suffices hk : hX (gO LL xs) (D + 2) zR_141 52 [some (.ref 63), some (.int x0), some (.int x1), some (.int x2), some (.int (bif gCmp .ne x1 0 then (bif gCmp .ne x1 1 then 9 else 30) else 6)), none] [.int (bif gCmp .ne x1 0 then (-(bif gCmp .ne x1 0 then (bif gCmp .ne x1 1 then 9 else 30) else 6)) else 0), .int x2] (hMm c0 m_s m_kp m_as m_ik m_fo m_tl m_tr m_fa m_od m_rc m_be m_ft m_tp m_td m_tk m_bg m_en m_vl m_sg m_wi m_si m_ce m_ca) (some (.int (v_141_63 x0 x1 x2 m_s))) (hMm c0 (f_141_63_m_s x0 x1 x2 m_s) m_kp m_as m_ik (f_141_63_m_fo x0 x1 x2 m_s m_fo) m_tl m_tr m_fa m_od m_rc m_be m_ft m_tp m_td m_tk m_bg m_en m_vl m_sg m_wi m_si m_ce m_ca) by
        refine hX_if (gCmp .ne x1 0) (fun c5 => ?_) (fun c5 => ?_)
        · skip
          refine hX_go 2 (52) [some (.ref 63), some (.int x0), some (.int x1), some (.int x2), some (.int (bif gCmp .ne x1 0 then (bif gCmp .ne x1 1 then 9 else 30) else 6)), none] [.int (-(bif gCmp .ne x1 0 then (bif gCmp .ne x1 1 then 9 else 30) else 6)), .int x2] (hMm c0 m_s m_kp m_as m_ik m_fo m_tl m_tr m_fa m_od m_rc m_be m_ft m_tp m_td m_tk m_bg m_en m_vl m_sg m_wi m_si m_ce m_ca) rfl ?_
          have hk := hk
          simp only [c5, cond_true, cond_false] at hk
          first | exact hk | (simp only [c5, cond_true, cond_false]; exact hk)
        · skip
          refine hX_go 2 (52) [some (.ref 63), some (.int x0), some (.int x1), some (.int x2), some (.int (bif gCmp .ne x1 0 then (bif gCmp .ne x1 1 then 9 else 30) else 6)), none] [.int 0, .int x2] (hMm c0 m_s m_kp m_as m_ik m_fo m_tl m_tr m_fa m_od m_rc m_be m_ft m_tp m_td m_tk m_bg m_en m_vl m_sg m_wi m_si m_ce m_ca) rfl ?_
          have hk := hk
          simp only [c5, cond_true, cond_false] at hk
          first | exact hk | (simp only [c5, cond_true, cond_false]; exact hk)
      refine hX_go 1 (54) [some (.ref 63), some (.int x0), some (.int x1), some (.int x2), some (.int (bif gCmp .ne x1 0 then (bif gCmp .ne x1 1 then 9 else 30) else 6)), none] [.int (bif gCmp .ne x1 0 then (bif gCmp .ne x1 1 then 9 else 30) else 6), .int (bif gCmp .ne x1 0 then (-(bif gCmp .ne x1 0 then (bif gCmp .ne x1 1 then 9 else 30) else 6)) else 0), .int x2] (hMm c0 m_s m_kp m_as m_ik m_fo m_tl m_tr m_fa m_od m_rc m_be m_ft m_tp m_td m_tk m_bg m_en m_vl m_sg m_wi m_si m_ce m_ca) rfl ?_
      refine hX_call (r' := zR_125) rfl (ct_125 x2 (bif gCmp .ne x1 0 then (-(bif gCmp .ne x1 0 then (bif gCmp .ne x1 1 then 9 else 30) else 6)) else 0) (bif gCmp .ne x1 0 then (bif gCmp .ne x1 1 then 9 else 30) else 6)) ?_
      refine hX_go 1 (bif gCmp .ne (v_125 x2 (bif gCmp .ne x1 0 then (-(bif gCmp .ne x1 0 then (bif gCmp .ne x1 1 then 9 else 30) else 6)) else 0) (bif gCmp .ne x1 0 then (bif gCmp .ne x1 1 then 9 else 30) else 6)) 0 then 66 else 60) [some (.ref 63), some (.int x0), some (.int x1), some (.int x2), some (.int (bif gCmp .ne x1 0 then (bif gCmp .ne x1 1 then 9 else 30) else 6)), none] [] (hMm c0 m_s m_kp m_as m_ik m_fo m_tl m_tr m_fa m_od m_rc m_be m_ft m_tp m_td m_tk m_bg m_en m_vl m_sg m_wi m_si m_ce m_ca) rfl ?_
      refine hX_if (gCmp .ne (v_125 x2 (bif gCmp .ne x1 0 then (-(bif gCmp .ne x1 0 then (bif gCmp .ne x1 1 then 9 else 30) else 6)) else 0) (bif gCmp .ne x1 0 then (bif gCmp .ne x1 1 then 9 else 30) else 6)) 0) (fun c6 => ?_) (fun c6 => ?_)
      · skip
        refine hX_go 3 (69) [some (.ref 63), some (.int x0), some (.int x1), some (.int x2), some (.int (bif gCmp .ne x1 0 then (bif gCmp .ne x1 1 then 9 else 30) else 6)), none] [.int x1, .int x0, .ref 63] (hMm c0 m_s m_kp m_as m_ik m_fo m_tl m_tr m_fa m_od m_rc m_be m_ft m_tp m_td m_tk m_bg m_en m_vl m_sg m_wi m_si m_ce m_ca) rfl ?_
        refine hX_call (r' := zR_131) rfl (ct_131_63 x0 x1 (o3 c3 c4 c6)) ?_
        refine hX_go 5 (78) [some (.ref 63), some (.int x0), some (.int x1), some (.int x2), some (.int (bif gCmp .ne x1 0 then (bif gCmp .ne x1 1 then 9 else 30) else 6)), some (.int (v_131_63 x0 x1 m_s))] [.int x2, .int x1, .int x0, .ref 63] (hMm c0 m_s m_kp m_as m_ik m_fo m_tl m_tr m_fa m_od m_rc m_be m_ft m_tp m_td m_tk m_bg m_en m_vl m_sg m_wi m_si m_ce m_ca) rfl ?_
        refine hX_call (r' := zR_132) rfl (ct_132_63 x0 x1 x2 (o3 c3 c4 c6)) ?_
        refine hX_go 1 (83) [some (.ref 63), some (.int x0), some (.int x1), some (.int x2), some (.int (bif gCmp .ne x1 0 then (bif gCmp .ne x1 1 then 9 else 30) else 6)), some (.int (v_131_63 x0 x1 m_s))] [.int (v_131_63 x0 x1 m_s)] (hMm c0 (f_132_63_m_s x0 x1 x2 m_s) m_kp m_as m_ik m_fo m_tl m_tr m_fa m_od m_rc m_be m_ft m_tp m_td m_tk m_bg m_en m_vl m_sg m_wi m_si m_ce m_ca) rfl ?_
        exact hX_end rfl (by unfold v_141_63; rw [c3, c4, c6]; rfl) (by unfold f_141_63_m_s; rw [c3, c4, c6]; unfold f_141_63_m_fo; rw [c3, c4, c6]; rfl)
      · skip
        refine hX_go 2 (62) [some (.ref 63), some (.int x0), some (.int x1), some (.int x2), some (.int (bif gCmp .ne x1 0 then (bif gCmp .ne x1 1 then 9 else 30) else 6)), none] [.int 0, .ref 63] (hMm c0 m_s m_kp m_as m_ik m_fo m_tl m_tr m_fa m_od m_rc m_be m_ft m_tp m_td m_tk m_bg m_en m_vl m_sg m_wi m_si m_ce m_ca) rfl ?_
        refine hX_call (r' := zR_124) rfl (ct_124_63 0 (o4 c3 c4 c6)) ?_
        refine hX_go 0 (65) [some (.ref 63), some (.int x0), some (.int x1), some (.int x2), some (.int (bif gCmp .ne x1 0 then (bif gCmp .ne x1 1 then 9 else 30) else 6)), none] [.int (v_124_63 0)] (hMm c0 m_s m_kp m_as m_ik (f_124_63_m_fo 0 m_fo) m_tl m_tr m_fa m_od m_rc m_be m_ft m_tp m_td m_tk m_bg m_en m_vl m_sg m_wi m_si m_ce m_ca) rfl ?_
        exact hX_end rfl (by unfold v_141_63; rw [c3, c4, c6]; rfl) (by unfold f_141_63_m_s; rw [c3, c4, c6]; unfold f_141_63_m_fo; rw [c3, c4, c6]; rfl)

/-- UpOneSideModel.greatestRule(I)I -/
def v_142 (x0 : Int32) : Int32 := bif gCmp .ge x0 3 then (bif gCmp .ne x0 4 then 60 else 99) else 9
set_option maxRecDepth 20000 in
set_option maxHeartbeats 1000000 in
theorem ct_142 {LL : Nat} {xs : Nat → Int32} {D : Nat} {c0 : Nat → gE} {m_s : Nat → Int32} {m_kp : Nat → Int32} {m_as : Nat → Int32} {m_ik : Int32} {m_fo : Nat → Int32} {m_tl : Int32} {m_tr : Int32} {m_fa : Nat → Int32} {m_od : Nat → Int32} {m_rc : Int32} {m_be : Nat → Int32} {m_ft : Int32} {m_tp : Nat → Int32} {m_td : Int32} {m_tk : Int32} {m_bg : Int32} {m_en : Int32} {m_vl : Int64} {m_sg : Int32} {m_wi : Nat → Int32} {m_si : Nat → Int32} {m_ce : Nat → Int32} {m_ca : Nat → Int32} (x0 : Int32) : hM (gO LL xs) (D + 0) zR_142 [.int x0] (hMm c0 m_s m_kp m_as m_ik m_fo m_tl m_tr m_fa m_od m_rc m_be m_ft m_tp m_td m_tk m_bg m_en m_vl m_sg m_wi m_si m_ce m_ca) (some (.int (v_142 x0))) (hMm c0 m_s m_kp m_as m_ik m_fo m_tl m_tr m_fa m_od m_rc m_be m_ft m_tp m_td m_tk m_bg m_en m_vl m_sg m_wi m_si m_ce m_ca) := by
  refine hX_go 0 0 [some (.int x0)] [] (hMm c0 m_s m_kp m_as m_ik m_fo m_tl m_tr m_fa m_od m_rc m_be m_ft m_tp m_td m_tk m_bg m_en m_vl m_sg m_wi m_si m_ce m_ca) rfl ?_
  refine hX_go 3 (bif gCmp .ge x0 3 then 10 else 5) [some (.int x0)] [] (hMm c0 m_s m_kp m_as m_ik m_fo m_tl m_tr m_fa m_od m_rc m_be m_ft m_tp m_td m_tk m_bg m_en m_vl m_sg m_wi m_si m_ce m_ca) rfl ?_
  suffices hk : hX (gO LL xs) (D + 0) zR_142 22 [some (.int x0)] [.int (bif gCmp .ge x0 3 then (bif gCmp .ne x0 4 then 60 else 99) else 9)] (hMm c0 m_s m_kp m_as m_ik m_fo m_tl m_tr m_fa m_od m_rc m_be m_ft m_tp m_td m_tk m_bg m_en m_vl m_sg m_wi m_si m_ce m_ca) (some (.int (v_142 x0))) (hMm c0 m_s m_kp m_as m_ik m_fo m_tl m_tr m_fa m_od m_rc m_be m_ft m_tp m_td m_tk m_bg m_en m_vl m_sg m_wi m_si m_ce m_ca) by
    refine hX_if (gCmp .ge x0 3) (fun c1 => ?_) (fun c1 => ?_)
    · skip
      refine hX_go 3 (bif gCmp .ne x0 4 then 20 else 15) [some (.int x0)] [] (hMm c0 m_s m_kp m_as m_ik m_fo m_tl m_tr m_fa m_od m_rc m_be m_ft m_tp m_td m_tk m_bg m_en m_vl m_sg m_wi m_si m_ce m_ca) rfl ?_
      refine hX_if (gCmp .ne x0 4) (fun c2 => ?_) (fun c2 => ?_)
      · skip
        refine hX_go 1 (22) [some (.int x0)] [.int 60] (hMm c0 m_s m_kp m_as m_ik m_fo m_tl m_tr m_fa m_od m_rc m_be m_ft m_tp m_td m_tk m_bg m_en m_vl m_sg m_wi m_si m_ce m_ca) rfl ?_
        have hk := hk
        simp only [c1, c2, cond_true, cond_false] at hk
        first | exact hk | (simp only [c1, c2, cond_true, cond_false]; exact hk)
      · skip
        refine hX_go 2 (22) [some (.int x0)] [.int 99] (hMm c0 m_s m_kp m_as m_ik m_fo m_tl m_tr m_fa m_od m_rc m_be m_ft m_tp m_td m_tk m_bg m_en m_vl m_sg m_wi m_si m_ce m_ca) rfl ?_
        have hk := hk
        simp only [c1, c2, cond_true, cond_false] at hk
        first | exact hk | (simp only [c1, c2, cond_true, cond_false]; exact hk)
    · skip
      refine hX_go 2 (22) [some (.int x0)] [.int 9] (hMm c0 m_s m_kp m_as m_ik m_fo m_tl m_tr m_fa m_od m_rc m_be m_ft m_tp m_td m_tk m_bg m_en m_vl m_sg m_wi m_si m_ce m_ca) rfl ?_
      have hk := hk
      simp only [c1, cond_true, cond_false] at hk
      first | exact hk | (simp only [c1, cond_true, cond_false]; exact hk)
  exact hX_end rfl (rfl) (rfl)

/-- UpOneSideModel.rule(II)I -/
def v_143_63 (x0 : Int32) (x1 : Int32) (m_s : Nat → Int32) : Int32 := bif gCmp .eq (v_125 x0 0 5) 0 then (v_124_63 0) else (bif gCmp .ne (v_125 x1 (bif gCmp .ne x0 0 then 0 else (-9)) (v_142 x0)) 0 then (m_s (Int32.toNatClampNeg (5 + x0))) else (v_124_63 0))
def f_143_63_m_s (x0 : Int32) (x1 : Int32) (m_s : Nat → Int32) : Nat → Int32 := bif gCmp .eq (v_125 x0 0 5) 0 then m_s else (bif gCmp .ne (v_125 x1 (bif gCmp .ne x0 0 then 0 else (-9)) (v_142 x0)) 0 then (upd m_s (Int32.toNatClampNeg (5 + x0)) x1) else m_s)
def f_143_63_m_fo (x0 : Int32) (x1 : Int32) (m_fo : Nat → Int32) : Nat → Int32 := bif gCmp .eq (v_125 x0 0 5) 0 then (f_124_63_m_fo 0 m_fo) else (bif gCmp .ne (v_125 x1 (bif gCmp .ne x0 0 then 0 else (-9)) (v_142 x0)) 0 then m_fo else (f_124_63_m_fo 0 m_fo))
set_option maxRecDepth 20000 in
set_option maxHeartbeats 1000000 in
theorem ct_143_63 {LL : Nat} {xs : Nat → Int32} {D : Nat} {c0 : Nat → gE} {m_s : Nat → Int32} {m_kp : Nat → Int32} {m_as : Nat → Int32} {m_ik : Int32} {m_fo : Nat → Int32} {m_tl : Int32} {m_tr : Int32} {m_fa : Nat → Int32} {m_od : Nat → Int32} {m_rc : Int32} {m_be : Nat → Int32} {m_ft : Int32} {m_tp : Nat → Int32} {m_td : Int32} {m_tk : Int32} {m_bg : Int32} {m_en : Int32} {m_vl : Int64} {m_sg : Int32} {m_wi : Nat → Int32} {m_si : Nat → Int32} {m_ce : Nat → Int32} {m_ca : Nat → Int32} (x0 : Int32) (x1 : Int32) (o1 : gCmp .eq (v_125 x0 0 5) 0 = true → gIn 0 7 = true) (o2 : gCmp .eq (v_125 x0 0 5) 0 = false → gCmp .ne (v_125 x1 (bif gCmp .ne x0 0 then 0 else (-9)) (v_142 x0)) 0 = true → gIn (5 + x0) 134 = true) (o3 : gCmp .eq (v_125 x0 0 5) 0 = false → gCmp .ne (v_125 x1 (bif gCmp .ne x0 0 then 0 else (-9)) (v_142 x0)) 0 = false → gIn 0 7 = true) : hM (gO LL xs) (D + 1) zR_143 [.ref 63, .int x0, .int x1] (hMm c0 m_s m_kp m_as m_ik m_fo m_tl m_tr m_fa m_od m_rc m_be m_ft m_tp m_td m_tk m_bg m_en m_vl m_sg m_wi m_si m_ce m_ca) (some (.int (v_143_63 x0 x1 m_s))) (hMm c0 (f_143_63_m_s x0 x1 m_s) m_kp m_as m_ik (f_143_63_m_fo x0 x1 m_fo) m_tl m_tr m_fa m_od m_rc m_be m_ft m_tp m_td m_tk m_bg m_en m_vl m_sg m_wi m_si m_ce m_ca) := by
  refine hX_go 0 0 [some (.ref 63), some (.int x0), some (.int x1), none] [] (hMm c0 m_s m_kp m_as m_ik m_fo m_tl m_tr m_fa m_od m_rc m_be m_ft m_tp m_td m_tk m_bg m_en m_vl m_sg m_wi m_si m_ce m_ca) rfl ?_
  refine hX_go 3 (3) [some (.ref 63), some (.int x0), some (.int x1), none] [.int 5, .int 0, .int x0] (hMm c0 m_s m_kp m_as m_ik m_fo m_tl m_tr m_fa m_od m_rc m_be m_ft m_tp m_td m_tk m_bg m_en m_vl m_sg m_wi m_si m_ce m_ca) rfl ?_
  refine hX_call (r' := zR_125) rfl (ct_125 x0 0 5) ?_
  refine hX_go 1 (bif gCmp .eq (v_125 x0 0 5) 0 then 30 else 9) [some (.ref 63), some (.int x0), some (.int x1), none] [] (hMm c0 m_s m_kp m_as m_ik m_fo m_tl m_tr m_fa m_od m_rc m_be m_ft m_tp m_td m_tk m_bg m_en m_vl m_sg m_wi m_si m_ce m_ca) rfl ?_
  refine hX_if (gCmp .eq (v_125 x0 0 5) 0) (fun c1 => ?_) (fun c1 => ?_)
  · skip
    refine hX_go 2 (32) [some (.ref 63), some (.int x0), some (.int x1), none] [.int 0, .ref 63] (hMm c0 m_s m_kp m_as m_ik m_fo m_tl m_tr m_fa m_od m_rc m_be m_ft m_tp m_td m_tk m_bg m_en m_vl m_sg m_wi m_si m_ce m_ca) rfl ?_
    refine hX_call (r' := zR_124) rfl (ct_124_63 0 (o1 c1)) ?_
    refine hX_go 0 (35) [some (.ref 63), some (.int x0), some (.int x1), none] [.int (v_124_63 0)] (hMm c0 m_s m_kp m_as m_ik (f_124_63_m_fo 0 m_fo) m_tl m_tr m_fa m_od m_rc m_be m_ft m_tp m_td m_tk m_bg m_en m_vl m_sg m_wi m_si m_ce m_ca) rfl ?_
    exact hX_end rfl (by unfold v_143_63; rw [c1]; rfl) (by unfold f_143_63_m_s; rw [c1]; unfold f_143_63_m_fo; rw [c1]; rfl)
  · skip
    refine hX_go 3 (bif gCmp .ne x0 0 then 19 else 14) [some (.ref 63), some (.int x0), some (.int x1), none] [.int x1] (hMm c0 m_s m_kp m_as m_ik m_fo m_tl m_tr m_fa m_od m_rc m_be m_ft m_tp m_td m_tk m_bg m_en m_vl m_sg m_wi m_si m_ce m_ca) rfl ?_
    suffices hk : hX (gO LL xs) (D + 1) zR_143 20 [some (.ref 63), some (.int x0), some (.int x1), none] [.int (bif gCmp .ne x0 0 then 0 else (-9)), .int x1] (hMm c0 m_s m_kp m_as m_ik m_fo m_tl m_tr m_fa m_od m_rc m_be m_ft m_tp m_td m_tk m_bg m_en m_vl m_sg m_wi m_si m_ce m_ca) (some (.int (v_143_63 x0 x1 m_s))) (hMm c0 (f_143_63_m_s x0 x1 m_s) m_kp m_as m_ik (f_143_63_m_fo x0 x1 m_fo) m_tl m_tr m_fa m_od m_rc m_be m_ft m_tp m_td m_tk m_bg m_en m_vl m_sg m_wi m_si m_ce m_ca) by
      refine hX_if (gCmp .ne x0 0) (fun c2 => ?_) (fun c2 => ?_)
      · skip
        refine hX_go 1 (20) [some (.ref 63), some (.int x0), some (.int x1), none] [.int 0, .int x1] (hMm c0 m_s m_kp m_as m_ik m_fo m_tl m_tr m_fa m_od m_rc m_be m_ft m_tp m_td m_tk m_bg m_en m_vl m_sg m_wi m_si m_ce m_ca) rfl ?_
        have hk := hk
        simp only [c2, cond_true, cond_false] at hk
        first | exact hk | (simp only [c2, cond_true, cond_false]; exact hk)
      · skip
        refine hX_go 2 (20) [some (.ref 63), some (.int x0), some (.int x1), none] [.int (-9), .int x1] (hMm c0 m_s m_kp m_as m_ik m_fo m_tl m_tr m_fa m_od m_rc m_be m_ft m_tp m_td m_tk m_bg m_en m_vl m_sg m_wi m_si m_ce m_ca) rfl ?_
        have hk := hk
        simp only [c2, cond_true, cond_false] at hk
        first | exact hk | (simp only [c2, cond_true, cond_false]; exact hk)
    refine hX_go 1 (21) [some (.ref 63), some (.int x0), some (.int x1), none] [.int x0, .int (bif gCmp .ne x0 0 then 0 else (-9)), .int x1] (hMm c0 m_s m_kp m_as m_ik m_fo m_tl m_tr m_fa m_od m_rc m_be m_ft m_tp m_td m_tk m_bg m_en m_vl m_sg m_wi m_si m_ce m_ca) rfl ?_
    refine hX_call (r' := zR_142) rfl (ct_142 x0) ?_
    refine hX_go 0 (24) [some (.ref 63), some (.int x0), some (.int x1), none] [.int (v_142 x0), .int (bif gCmp .ne x0 0 then 0 else (-9)), .int x1] (hMm c0 m_s m_kp m_as m_ik m_fo m_tl m_tr m_fa m_od m_rc m_be m_ft m_tp m_td m_tk m_bg m_en m_vl m_sg m_wi m_si m_ce m_ca) rfl ?_
    refine hX_call (r' := zR_125) rfl (ct_125 x1 (bif gCmp .ne x0 0 then 0 else (-9)) (v_142 x0)) ?_
    refine hX_go 1 (bif gCmp .ne (v_125 x1 (bif gCmp .ne x0 0 then 0 else (-9)) (v_142 x0)) 0 then 36 else 30) [some (.ref 63), some (.int x0), some (.int x1), none] [] (hMm c0 m_s m_kp m_as m_ik m_fo m_tl m_tr m_fa m_od m_rc m_be m_ft m_tp m_td m_tk m_bg m_en m_vl m_sg m_wi m_si m_ce m_ca) rfl ?_
    refine hX_if (gCmp .ne (v_125 x1 (bif gCmp .ne x0 0 then 0 else (-9)) (v_142 x0)) 0) (fun c3 => ?_) (fun c3 => ?_)
    · skip
      refine hX_go 5 (43) [some (.ref 63), some (.int x0), some (.int x1), none] [.int (5 + x0), .ref 64] (hMm c0 m_s m_kp m_as m_ik m_fo m_tl m_tr m_fa m_od m_rc m_be m_ft m_tp m_td m_tk m_bg m_en m_vl m_sg m_wi m_si m_ce m_ca) rfl ?_
      refine hX_g (gIn (5 + x0) 134) 44 [some (.ref 63), some (.int x0), some (.int x1), none] [.int (m_s (Int32.toNatClampNeg (5 + x0)))] (hMm c0 m_s m_kp m_as m_ik m_fo m_tl m_tr m_fa m_od m_rc m_be m_ft m_tp m_td m_tk m_bg m_en m_vl m_sg m_wi m_si m_ce m_ca) rfl (o2 c1 c3) ?_
      refine hX_go 7 (53) [some (.ref 63), some (.int x0), some (.int x1), some (.int (m_s (Int32.toNatClampNeg (5 + x0))))] [.int x1, .int (5 + x0), .ref 64] (hMm c0 m_s m_kp m_as m_ik m_fo m_tl m_tr m_fa m_od m_rc m_be m_ft m_tp m_td m_tk m_bg m_en m_vl m_sg m_wi m_si m_ce m_ca) rfl ?_
      refine hX_g (gIn (5 + x0) 134) 54 [some (.ref 63), some (.int x0), some (.int x1), some (.int (m_s (Int32.toNatClampNeg (5 + x0))))] [] (hMm c0 (upd m_s (Int32.toNatClampNeg (5 + x0)) x1) m_kp m_as m_ik m_fo m_tl m_tr m_fa m_od m_rc m_be m_ft m_tp m_td m_tk m_bg m_en m_vl m_sg m_wi m_si m_ce m_ca) rfl (o2 c1 c3) ?_
      refine hX_go 1 (55) [some (.ref 63), some (.int x0), some (.int x1), some (.int (m_s (Int32.toNatClampNeg (5 + x0))))] [.int (m_s (Int32.toNatClampNeg (5 + x0)))] (hMm c0 (upd m_s (Int32.toNatClampNeg (5 + x0)) x1) m_kp m_as m_ik m_fo m_tl m_tr m_fa m_od m_rc m_be m_ft m_tp m_td m_tk m_bg m_en m_vl m_sg m_wi m_si m_ce m_ca) rfl ?_
      exact hX_end rfl (by unfold v_143_63; rw [c1, c3]; rfl) (by unfold f_143_63_m_s; rw [c1, c3]; unfold f_143_63_m_fo; rw [c1, c3]; rfl)
    · skip
      refine hX_go 2 (32) [some (.ref 63), some (.int x0), some (.int x1), none] [.int 0, .ref 63] (hMm c0 m_s m_kp m_as m_ik m_fo m_tl m_tr m_fa m_od m_rc m_be m_ft m_tp m_td m_tk m_bg m_en m_vl m_sg m_wi m_si m_ce m_ca) rfl ?_
      refine hX_call (r' := zR_124) rfl (ct_124_63 0 (o3 c1 c3)) ?_
      refine hX_go 0 (35) [some (.ref 63), some (.int x0), some (.int x1), none] [.int (v_124_63 0)] (hMm c0 m_s m_kp m_as m_ik (f_124_63_m_fo 0 m_fo) m_tl m_tr m_fa m_od m_rc m_be m_ft m_tp m_td m_tk m_bg m_en m_vl m_sg m_wi m_si m_ce m_ca) rfl ?_
      exact hX_end rfl (by unfold v_143_63; rw [c1, c3]; rfl) (by unfold f_143_63_m_s; rw [c1, c3]; unfold f_143_63_m_fo; rw [c1, c3]; rfl)

/-- UpOneSideModel.ruled(I)I -/
def v_144_63 (x0 : Int32) (m_s : Nat → Int32) : Int32 := bif gCmp .eq (v_125 x0 0 5) 0 then (v_124_63 0) else (m_s (Int32.toNatClampNeg (5 + x0)))
def f_144_63_m_fo (x0 : Int32) (m_fo : Nat → Int32) : Nat → Int32 := bif gCmp .eq (v_125 x0 0 5) 0 then (f_124_63_m_fo 0 m_fo) else m_fo
set_option maxRecDepth 20000 in
set_option maxHeartbeats 1000000 in
theorem ct_144_63 {LL : Nat} {xs : Nat → Int32} {D : Nat} {c0 : Nat → gE} {m_s : Nat → Int32} {m_kp : Nat → Int32} {m_as : Nat → Int32} {m_ik : Int32} {m_fo : Nat → Int32} {m_tl : Int32} {m_tr : Int32} {m_fa : Nat → Int32} {m_od : Nat → Int32} {m_rc : Int32} {m_be : Nat → Int32} {m_ft : Int32} {m_tp : Nat → Int32} {m_td : Int32} {m_tk : Int32} {m_bg : Int32} {m_en : Int32} {m_vl : Int64} {m_sg : Int32} {m_wi : Nat → Int32} {m_si : Nat → Int32} {m_ce : Nat → Int32} {m_ca : Nat → Int32} (x0 : Int32) (o1 : gCmp .eq (v_125 x0 0 5) 0 = true → gIn 0 7 = true) (o2 : gCmp .eq (v_125 x0 0 5) 0 = false → gIn (5 + x0) 134 = true) : hM (gO LL xs) (D + 1) zR_144 [.ref 63, .int x0] (hMm c0 m_s m_kp m_as m_ik m_fo m_tl m_tr m_fa m_od m_rc m_be m_ft m_tp m_td m_tk m_bg m_en m_vl m_sg m_wi m_si m_ce m_ca) (some (.int (v_144_63 x0 m_s))) (hMm c0 m_s m_kp m_as m_ik (f_144_63_m_fo x0 m_fo) m_tl m_tr m_fa m_od m_rc m_be m_ft m_tp m_td m_tk m_bg m_en m_vl m_sg m_wi m_si m_ce m_ca) := by
  refine hX_go 0 0 [some (.ref 63), some (.int x0)] [] (hMm c0 m_s m_kp m_as m_ik m_fo m_tl m_tr m_fa m_od m_rc m_be m_ft m_tp m_td m_tk m_bg m_en m_vl m_sg m_wi m_si m_ce m_ca) rfl ?_
  refine hX_go 3 (3) [some (.ref 63), some (.int x0)] [.int 5, .int 0, .int x0] (hMm c0 m_s m_kp m_as m_ik m_fo m_tl m_tr m_fa m_od m_rc m_be m_ft m_tp m_td m_tk m_bg m_en m_vl m_sg m_wi m_si m_ce m_ca) rfl ?_
  refine hX_call (r' := zR_125) rfl (ct_125 x0 0 5) ?_
  refine hX_go 1 (bif gCmp .eq (v_125 x0 0 5) 0 then 20 else 9) [some (.ref 63), some (.int x0)] [] (hMm c0 m_s m_kp m_as m_ik m_fo m_tl m_tr m_fa m_od m_rc m_be m_ft m_tp m_td m_tk m_bg m_en m_vl m_sg m_wi m_si m_ce m_ca) rfl ?_
  suffices hk : hX (gO LL xs) (D + 1) zR_144 25 [some (.ref 63), some (.int x0)] [.int (bif gCmp .eq (v_125 x0 0 5) 0 then (v_124_63 0) else (m_s (Int32.toNatClampNeg (5 + x0))))] (hMm c0 m_s m_kp m_as m_ik (bif gCmp .eq (v_125 x0 0 5) 0 then (f_124_63_m_fo 0 m_fo) else m_fo) m_tl m_tr m_fa m_od m_rc m_be m_ft m_tp m_td m_tk m_bg m_en m_vl m_sg m_wi m_si m_ce m_ca) (some (.int (v_144_63 x0 m_s))) (hMm c0 m_s m_kp m_as m_ik (f_144_63_m_fo x0 m_fo) m_tl m_tr m_fa m_od m_rc m_be m_ft m_tp m_td m_tk m_bg m_en m_vl m_sg m_wi m_si m_ce m_ca) by
    refine hX_if (gCmp .eq (v_125 x0 0 5) 0) (fun c1 => ?_) (fun c1 => ?_)
    · skip
      refine hX_go 2 (22) [some (.ref 63), some (.int x0)] [.int 0, .ref 63] (hMm c0 m_s m_kp m_as m_ik m_fo m_tl m_tr m_fa m_od m_rc m_be m_ft m_tp m_td m_tk m_bg m_en m_vl m_sg m_wi m_si m_ce m_ca) rfl ?_
      refine hX_call (r' := zR_124) rfl (ct_124_63 0 (o1 c1)) ?_
      refine hX_go 0 (25) [some (.ref 63), some (.int x0)] [.int (v_124_63 0)] (hMm c0 m_s m_kp m_as m_ik (f_124_63_m_fo 0 m_fo) m_tl m_tr m_fa m_od m_rc m_be m_ft m_tp m_td m_tk m_bg m_en m_vl m_sg m_wi m_si m_ce m_ca) rfl ?_
      have hk := hk
      simp only [c1, cond_true, cond_false] at hk
      first | exact hk | (simp only [c1, cond_true, cond_false]; exact hk)
    · skip
      refine hX_go 5 (16) [some (.ref 63), some (.int x0)] [.int (5 + x0), .ref 64] (hMm c0 m_s m_kp m_as m_ik m_fo m_tl m_tr m_fa m_od m_rc m_be m_ft m_tp m_td m_tk m_bg m_en m_vl m_sg m_wi m_si m_ce m_ca) rfl ?_
      refine hX_g (gIn (5 + x0) 134) 17 [some (.ref 63), some (.int x0)] [.int (m_s (Int32.toNatClampNeg (5 + x0)))] (hMm c0 m_s m_kp m_as m_ik m_fo m_tl m_tr m_fa m_od m_rc m_be m_ft m_tp m_td m_tk m_bg m_en m_vl m_sg m_wi m_si m_ce m_ca) rfl (o2 c1) ?_
      refine hX_go 1 (25) [some (.ref 63), some (.int x0)] [.int (m_s (Int32.toNatClampNeg (5 + x0)))] (hMm c0 m_s m_kp m_as m_ik m_fo m_tl m_tr m_fa m_od m_rc m_be m_ft m_tp m_td m_tk m_bg m_en m_vl m_sg m_wi m_si m_ce m_ca) rfl ?_
      have hk := hk
      simp only [c1, cond_true, cond_false] at hk
      first | exact hk | (simp only [c1, cond_true, cond_false]; exact hk)
  exact hX_end rfl (rfl) (rfl)

/-- UpOneSideModel.price(II)I -/
def v_145_63 (x0 : Int32) (x1 : Int32) (m_s : Nat → Int32) : Int32 := bif gCmp .eq (v_125 x0 0 3) 0 then (v_124_63 0) else (bif gCmp .ne (v_125 x1 0 99) 0 then (m_s (Int32.toNatClampNeg (11 + x0))) else (v_124_63 0))
def f_145_63_m_s (x0 : Int32) (x1 : Int32) (m_s : Nat → Int32) : Nat → Int32 := bif gCmp .eq (v_125 x0 0 3) 0 then m_s else (bif gCmp .ne (v_125 x1 0 99) 0 then (upd m_s (Int32.toNatClampNeg (11 + x0)) x1) else m_s)
def f_145_63_m_fo (x0 : Int32) (x1 : Int32) (m_fo : Nat → Int32) : Nat → Int32 := bif gCmp .eq (v_125 x0 0 3) 0 then (f_124_63_m_fo 0 m_fo) else (bif gCmp .ne (v_125 x1 0 99) 0 then m_fo else (f_124_63_m_fo 0 m_fo))
set_option maxRecDepth 20000 in
set_option maxHeartbeats 1000000 in
theorem ct_145_63 {LL : Nat} {xs : Nat → Int32} {D : Nat} {c0 : Nat → gE} {m_s : Nat → Int32} {m_kp : Nat → Int32} {m_as : Nat → Int32} {m_ik : Int32} {m_fo : Nat → Int32} {m_tl : Int32} {m_tr : Int32} {m_fa : Nat → Int32} {m_od : Nat → Int32} {m_rc : Int32} {m_be : Nat → Int32} {m_ft : Int32} {m_tp : Nat → Int32} {m_td : Int32} {m_tk : Int32} {m_bg : Int32} {m_en : Int32} {m_vl : Int64} {m_sg : Int32} {m_wi : Nat → Int32} {m_si : Nat → Int32} {m_ce : Nat → Int32} {m_ca : Nat → Int32} (x0 : Int32) (x1 : Int32) (o1 : gCmp .eq (v_125 x0 0 3) 0 = true → gIn 0 7 = true) (o2 : gCmp .eq (v_125 x0 0 3) 0 = false → gCmp .ne (v_125 x1 0 99) 0 = true → gIn (11 + x0) 134 = true) (o3 : gCmp .eq (v_125 x0 0 3) 0 = false → gCmp .ne (v_125 x1 0 99) 0 = false → gIn 0 7 = true) : hM (gO LL xs) (D + 1) zR_145 [.ref 63, .int x0, .int x1] (hMm c0 m_s m_kp m_as m_ik m_fo m_tl m_tr m_fa m_od m_rc m_be m_ft m_tp m_td m_tk m_bg m_en m_vl m_sg m_wi m_si m_ce m_ca) (some (.int (v_145_63 x0 x1 m_s))) (hMm c0 (f_145_63_m_s x0 x1 m_s) m_kp m_as m_ik (f_145_63_m_fo x0 x1 m_fo) m_tl m_tr m_fa m_od m_rc m_be m_ft m_tp m_td m_tk m_bg m_en m_vl m_sg m_wi m_si m_ce m_ca) := by
  refine hX_go 0 0 [some (.ref 63), some (.int x0), some (.int x1), none] [] (hMm c0 m_s m_kp m_as m_ik m_fo m_tl m_tr m_fa m_od m_rc m_be m_ft m_tp m_td m_tk m_bg m_en m_vl m_sg m_wi m_si m_ce m_ca) rfl ?_
  refine hX_go 3 (3) [some (.ref 63), some (.int x0), some (.int x1), none] [.int 3, .int 0, .int x0] (hMm c0 m_s m_kp m_as m_ik m_fo m_tl m_tr m_fa m_od m_rc m_be m_ft m_tp m_td m_tk m_bg m_en m_vl m_sg m_wi m_si m_ce m_ca) rfl ?_
  refine hX_call (r' := zR_125) rfl (ct_125 x0 0 3) ?_
  refine hX_go 1 (bif gCmp .eq (v_125 x0 0 3) 0 then 19 else 9) [some (.ref 63), some (.int x0), some (.int x1), none] [] (hMm c0 m_s m_kp m_as m_ik m_fo m_tl m_tr m_fa m_od m_rc m_be m_ft m_tp m_td m_tk m_bg m_en m_vl m_sg m_wi m_si m_ce m_ca) rfl ?_
  refine hX_if (gCmp .eq (v_125 x0 0 3) 0) (fun c1 => ?_) (fun c1 => ?_)
  · skip
    refine hX_go 2 (21) [some (.ref 63), some (.int x0), some (.int x1), none] [.int 0, .ref 63] (hMm c0 m_s m_kp m_as m_ik m_fo m_tl m_tr m_fa m_od m_rc m_be m_ft m_tp m_td m_tk m_bg m_en m_vl m_sg m_wi m_si m_ce m_ca) rfl ?_
    refine hX_call (r' := zR_124) rfl (ct_124_63 0 (o1 c1)) ?_
    refine hX_go 0 (24) [some (.ref 63), some (.int x0), some (.int x1), none] [.int (v_124_63 0)] (hMm c0 m_s m_kp m_as m_ik (f_124_63_m_fo 0 m_fo) m_tl m_tr m_fa m_od m_rc m_be m_ft m_tp m_td m_tk m_bg m_en m_vl m_sg m_wi m_si m_ce m_ca) rfl ?_
    exact hX_end rfl (by unfold v_145_63; rw [c1]; rfl) (by unfold f_145_63_m_s; rw [c1]; unfold f_145_63_m_fo; rw [c1]; rfl)
  · skip
    refine hX_go 3 (13) [some (.ref 63), some (.int x0), some (.int x1), none] [.int 99, .int 0, .int x1] (hMm c0 m_s m_kp m_as m_ik m_fo m_tl m_tr m_fa m_od m_rc m_be m_ft m_tp m_td m_tk m_bg m_en m_vl m_sg m_wi m_si m_ce m_ca) rfl ?_
    refine hX_call (r' := zR_125) rfl (ct_125 x1 0 99) ?_
    refine hX_go 1 (bif gCmp .ne (v_125 x1 0 99) 0 then 25 else 19) [some (.ref 63), some (.int x0), some (.int x1), none] [] (hMm c0 m_s m_kp m_as m_ik m_fo m_tl m_tr m_fa m_od m_rc m_be m_ft m_tp m_td m_tk m_bg m_en m_vl m_sg m_wi m_si m_ce m_ca) rfl ?_
    refine hX_if (gCmp .ne (v_125 x1 0 99) 0) (fun c2 => ?_) (fun c2 => ?_)
    · skip
      refine hX_go 5 (33) [some (.ref 63), some (.int x0), some (.int x1), none] [.int (11 + x0), .ref 64] (hMm c0 m_s m_kp m_as m_ik m_fo m_tl m_tr m_fa m_od m_rc m_be m_ft m_tp m_td m_tk m_bg m_en m_vl m_sg m_wi m_si m_ce m_ca) rfl ?_
      refine hX_g (gIn (11 + x0) 134) 34 [some (.ref 63), some (.int x0), some (.int x1), none] [.int (m_s (Int32.toNatClampNeg (11 + x0)))] (hMm c0 m_s m_kp m_as m_ik m_fo m_tl m_tr m_fa m_od m_rc m_be m_ft m_tp m_td m_tk m_bg m_en m_vl m_sg m_wi m_si m_ce m_ca) rfl (o2 c1 c2) ?_
      refine hX_go 7 (44) [some (.ref 63), some (.int x0), some (.int x1), some (.int (m_s (Int32.toNatClampNeg (11 + x0))))] [.int x1, .int (11 + x0), .ref 64] (hMm c0 m_s m_kp m_as m_ik m_fo m_tl m_tr m_fa m_od m_rc m_be m_ft m_tp m_td m_tk m_bg m_en m_vl m_sg m_wi m_si m_ce m_ca) rfl ?_
      refine hX_g (gIn (11 + x0) 134) 45 [some (.ref 63), some (.int x0), some (.int x1), some (.int (m_s (Int32.toNatClampNeg (11 + x0))))] [] (hMm c0 (upd m_s (Int32.toNatClampNeg (11 + x0)) x1) m_kp m_as m_ik m_fo m_tl m_tr m_fa m_od m_rc m_be m_ft m_tp m_td m_tk m_bg m_en m_vl m_sg m_wi m_si m_ce m_ca) rfl (o2 c1 c2) ?_
      refine hX_go 1 (46) [some (.ref 63), some (.int x0), some (.int x1), some (.int (m_s (Int32.toNatClampNeg (11 + x0))))] [.int (m_s (Int32.toNatClampNeg (11 + x0)))] (hMm c0 (upd m_s (Int32.toNatClampNeg (11 + x0)) x1) m_kp m_as m_ik m_fo m_tl m_tr m_fa m_od m_rc m_be m_ft m_tp m_td m_tk m_bg m_en m_vl m_sg m_wi m_si m_ce m_ca) rfl ?_
      exact hX_end rfl (by unfold v_145_63; rw [c1, c2]; rfl) (by unfold f_145_63_m_s; rw [c1, c2]; unfold f_145_63_m_fo; rw [c1, c2]; rfl)
    · skip
      refine hX_go 2 (21) [some (.ref 63), some (.int x0), some (.int x1), none] [.int 0, .ref 63] (hMm c0 m_s m_kp m_as m_ik m_fo m_tl m_tr m_fa m_od m_rc m_be m_ft m_tp m_td m_tk m_bg m_en m_vl m_sg m_wi m_si m_ce m_ca) rfl ?_
      refine hX_call (r' := zR_124) rfl (ct_124_63 0 (o3 c1 c2)) ?_
      refine hX_go 0 (24) [some (.ref 63), some (.int x0), some (.int x1), none] [.int (v_124_63 0)] (hMm c0 m_s m_kp m_as m_ik (f_124_63_m_fo 0 m_fo) m_tl m_tr m_fa m_od m_rc m_be m_ft m_tp m_td m_tk m_bg m_en m_vl m_sg m_wi m_si m_ce m_ca) rfl ?_
      exact hX_end rfl (by unfold v_145_63; rw [c1, c2]; rfl) (by unfold f_145_63_m_s; rw [c1, c2]; unfold f_145_63_m_fo; rw [c1, c2]; rfl)

/-- UpOneSideModel.off()I -/
def v_146_63 (m_s : Nat → Int32) : Int32 := (m_s 0) - (m_s 1)
set_option maxRecDepth 20000 in
set_option maxHeartbeats 1000000 in
theorem ct_146_63 {LL : Nat} {xs : Nat → Int32} {D : Nat} {c0 : Nat → gE} {m_s : Nat → Int32} {m_kp : Nat → Int32} {m_as : Nat → Int32} {m_ik : Int32} {m_fo : Nat → Int32} {m_tl : Int32} {m_tr : Int32} {m_fa : Nat → Int32} {m_od : Nat → Int32} {m_rc : Int32} {m_be : Nat → Int32} {m_ft : Int32} {m_tp : Nat → Int32} {m_td : Int32} {m_tk : Int32} {m_bg : Int32} {m_en : Int32} {m_vl : Int64} {m_sg : Int32} {m_wi : Nat → Int32} {m_si : Nat → Int32} {m_ce : Nat → Int32} {m_ca : Nat → Int32} : hM (gO LL xs) (D + 0) zR_146 [.ref 63] (hMm c0 m_s m_kp m_as m_ik m_fo m_tl m_tr m_fa m_od m_rc m_be m_ft m_tp m_td m_tk m_bg m_en m_vl m_sg m_wi m_si m_ce m_ca) (some (.int (v_146_63 m_s))) (hMm c0 m_s m_kp m_as m_ik m_fo m_tl m_tr m_fa m_od m_rc m_be m_ft m_tp m_td m_tk m_bg m_en m_vl m_sg m_wi m_si m_ce m_ca) := by
  refine hX_go 0 0 [some (.ref 63)] [] (hMm c0 m_s m_kp m_as m_ik m_fo m_tl m_tr m_fa m_od m_rc m_be m_ft m_tp m_td m_tk m_bg m_en m_vl m_sg m_wi m_si m_ce m_ca) rfl ?_
  refine hX_go 9 (13) [some (.ref 63)] [.int ((m_s 0) - (m_s 1))] (hMm c0 m_s m_kp m_as m_ik m_fo m_tl m_tr m_fa m_od m_rc m_be m_ft m_tp m_td m_tk m_bg m_en m_vl m_sg m_wi m_si m_ce m_ca) rfl ?_
  exact hX_end rfl (rfl) (rfl)

/-- UpOneSideModel.up(II)I -/
def v_147_63 (x0 : Int32) (x1 : Int32) (m_s : Nat → Int32) : Int32 := bif gCmp .eq (v_130 x0) 0 then (v_124_63 0) else (bif gCmp .ne (v_130 x1) 0 then (v_146_63 (upd (upd m_s 0 x0) 1 x1)) else (v_124_63 0))
def f_147_63_m_s (x0 : Int32) (x1 : Int32) (m_s : Nat → Int32) : Nat → Int32 := bif gCmp .eq (v_130 x0) 0 then m_s else (bif gCmp .ne (v_130 x1) 0 then (upd (upd m_s 0 x0) 1 x1) else m_s)
def f_147_63_m_fo (x0 : Int32) (x1 : Int32) (m_fo : Nat → Int32) : Nat → Int32 := bif gCmp .eq (v_130 x0) 0 then (f_124_63_m_fo 0 m_fo) else (bif gCmp .ne (v_130 x1) 0 then m_fo else (f_124_63_m_fo 0 m_fo))
set_option maxRecDepth 20000 in
set_option maxHeartbeats 1000000 in
theorem ct_147_63 {LL : Nat} {xs : Nat → Int32} {D : Nat} {c0 : Nat → gE} {m_s : Nat → Int32} {m_kp : Nat → Int32} {m_as : Nat → Int32} {m_ik : Int32} {m_fo : Nat → Int32} {m_tl : Int32} {m_tr : Int32} {m_fa : Nat → Int32} {m_od : Nat → Int32} {m_rc : Int32} {m_be : Nat → Int32} {m_ft : Int32} {m_tp : Nat → Int32} {m_td : Int32} {m_tk : Int32} {m_bg : Int32} {m_en : Int32} {m_vl : Int64} {m_sg : Int32} {m_wi : Nat → Int32} {m_si : Nat → Int32} {m_ce : Nat → Int32} {m_ca : Nat → Int32} (x0 : Int32) (x1 : Int32) (o1 : gCmp .eq (v_130 x0) 0 = true → gIn 0 7 = true) (o2 : gCmp .eq (v_130 x0) 0 = false → gCmp .ne (v_130 x1) 0 = false → gIn 0 7 = true) : hM (gO LL xs) (D + 2) zR_147 [.ref 63, .int x0, .int x1] (hMm c0 m_s m_kp m_as m_ik m_fo m_tl m_tr m_fa m_od m_rc m_be m_ft m_tp m_td m_tk m_bg m_en m_vl m_sg m_wi m_si m_ce m_ca) (some (.int (v_147_63 x0 x1 m_s))) (hMm c0 (f_147_63_m_s x0 x1 m_s) m_kp m_as m_ik (f_147_63_m_fo x0 x1 m_fo) m_tl m_tr m_fa m_od m_rc m_be m_ft m_tp m_td m_tk m_bg m_en m_vl m_sg m_wi m_si m_ce m_ca) := by
  refine hX_go 0 0 [some (.ref 63), some (.int x0), some (.int x1)] [] (hMm c0 m_s m_kp m_as m_ik m_fo m_tl m_tr m_fa m_od m_rc m_be m_ft m_tp m_td m_tk m_bg m_en m_vl m_sg m_wi m_si m_ce m_ca) rfl ?_
  refine hX_go 1 (1) [some (.ref 63), some (.int x0), some (.int x1)] [.int x0] (hMm c0 m_s m_kp m_as m_ik m_fo m_tl m_tr m_fa m_od m_rc m_be m_ft m_tp m_td m_tk m_bg m_en m_vl m_sg m_wi m_si m_ce m_ca) rfl ?_
  refine hX_call (r' := zR_130) rfl (ct_130 x0) ?_
  refine hX_go 1 (bif gCmp .eq (v_130 x0) 0 then 14 else 7) [some (.ref 63), some (.int x0), some (.int x1)] [] (hMm c0 m_s m_kp m_as m_ik m_fo m_tl m_tr m_fa m_od m_rc m_be m_ft m_tp m_td m_tk m_bg m_en m_vl m_sg m_wi m_si m_ce m_ca) rfl ?_
  refine hX_if (gCmp .eq (v_130 x0) 0) (fun c1 => ?_) (fun c1 => ?_)
  · skip
    refine hX_go 2 (16) [some (.ref 63), some (.int x0), some (.int x1)] [.int 0, .ref 63] (hMm c0 m_s m_kp m_as m_ik m_fo m_tl m_tr m_fa m_od m_rc m_be m_ft m_tp m_td m_tk m_bg m_en m_vl m_sg m_wi m_si m_ce m_ca) rfl ?_
    refine hX_call (r' := zR_124) rfl (ct_124_63 0 (o1 c1)) ?_
    refine hX_go 0 (19) [some (.ref 63), some (.int x0), some (.int x1)] [.int (v_124_63 0)] (hMm c0 m_s m_kp m_as m_ik (f_124_63_m_fo 0 m_fo) m_tl m_tr m_fa m_od m_rc m_be m_ft m_tp m_td m_tk m_bg m_en m_vl m_sg m_wi m_si m_ce m_ca) rfl ?_
    exact hX_end rfl (by unfold v_147_63; rw [c1]; rfl) (by unfold f_147_63_m_s; rw [c1]; unfold f_147_63_m_fo; rw [c1]; rfl)
  · skip
    refine hX_go 1 (8) [some (.ref 63), some (.int x0), some (.int x1)] [.int x1] (hMm c0 m_s m_kp m_as m_ik m_fo m_tl m_tr m_fa m_od m_rc m_be m_ft m_tp m_td m_tk m_bg m_en m_vl m_sg m_wi m_si m_ce m_ca) rfl ?_
    refine hX_call (r' := zR_130) rfl (ct_130 x1) ?_
    refine hX_go 1 (bif gCmp .ne (v_130 x1) 0 then 20 else 14) [some (.ref 63), some (.int x0), some (.int x1)] [] (hMm c0 m_s m_kp m_as m_ik m_fo m_tl m_tr m_fa m_od m_rc m_be m_ft m_tp m_td m_tk m_bg m_en m_vl m_sg m_wi m_si m_ce m_ca) rfl ?_
    refine hX_if (gCmp .ne (v_130 x1) 0) (fun c2 => ?_) (fun c2 => ?_)
    · skip
      refine hX_go 9 (33) [some (.ref 63), some (.int x0), some (.int x1)] [.int x1, .int 1, .ref 64] (hMm c0 (upd m_s 0 x0) m_kp m_as m_ik m_fo m_tl m_tr m_fa m_od m_rc m_be m_ft m_tp m_td m_tk m_bg m_en m_vl m_sg m_wi m_si m_ce m_ca) rfl ?_
      refine hX_go 2 (35) [some (.ref 63), some (.int x0), some (.int x1)] [.ref 63] (hMm c0 (upd (upd m_s 0 x0) 1 x1) m_kp m_as m_ik m_fo m_tl m_tr m_fa m_od m_rc m_be m_ft m_tp m_td m_tk m_bg m_en m_vl m_sg m_wi m_si m_ce m_ca) rfl ?_
      refine hX_call (r' := zR_146) rfl (ct_146_63) ?_
      refine hX_go 0 (38) [some (.ref 63), some (.int x0), some (.int x1)] [.int (v_146_63 (upd (upd m_s 0 x0) 1 x1))] (hMm c0 (upd (upd m_s 0 x0) 1 x1) m_kp m_as m_ik m_fo m_tl m_tr m_fa m_od m_rc m_be m_ft m_tp m_td m_tk m_bg m_en m_vl m_sg m_wi m_si m_ce m_ca) rfl ?_
      exact hX_end rfl (by unfold v_147_63; rw [c1, c2]; rfl) (by unfold f_147_63_m_s; rw [c1, c2]; unfold f_147_63_m_fo; rw [c1, c2]; rfl)
    · skip
      refine hX_go 2 (16) [some (.ref 63), some (.int x0), some (.int x1)] [.int 0, .ref 63] (hMm c0 m_s m_kp m_as m_ik m_fo m_tl m_tr m_fa m_od m_rc m_be m_ft m_tp m_td m_tk m_bg m_en m_vl m_sg m_wi m_si m_ce m_ca) rfl ?_
      refine hX_call (r' := zR_124) rfl (ct_124_63 0 (o2 c1 c2)) ?_
      refine hX_go 0 (19) [some (.ref 63), some (.int x0), some (.int x1)] [.int (v_124_63 0)] (hMm c0 m_s m_kp m_as m_ik (f_124_63_m_fo 0 m_fo) m_tl m_tr m_fa m_od m_rc m_be m_ft m_tp m_td m_tk m_bg m_en m_vl m_sg m_wi m_si m_ce m_ca) rfl ?_
      exact hX_end rfl (by unfold v_147_63; rw [c1, c2]; rfl) (by unfold f_147_63_m_s; rw [c1, c2]; unfold f_147_63_m_fo; rw [c1, c2]; rfl)

/-- UpOneSideModel.done(I)V -/
def f_148_63_m_s (x0 : Int32) (m_s : Nat → Int32) : Nat → Int32 := upd (upd (upd (upd m_s (Int32.toNatClampNeg (39 + (m_s 0))) ((m_s (Int32.toNatClampNeg (39 + (m_s 0)))) + (bif gCmp .ge (m_s (Int32.toNatClampNeg (39 + (m_s 0)))) 9999 then 0 else 1))) 0 (f_136_63_m_tl x0 m_s (f_135_63_m_tl m_s) (f_135_63_m_tr m_s))) 1 (f_136_63_m_tr x0 m_s (f_135_63_m_tl m_s) (f_135_63_m_tr m_s))) 2 (((upd (upd (upd m_s (Int32.toNatClampNeg (39 + (m_s 0))) ((m_s (Int32.toNatClampNeg (39 + (m_s 0)))) + (bif gCmp .ge (m_s (Int32.toNatClampNeg (39 + (m_s 0)))) 9999 then 0 else 1))) 0 (f_136_63_m_tl x0 m_s (f_135_63_m_tl m_s) (f_135_63_m_tr m_s))) 1 (f_136_63_m_tr x0 m_s (f_135_63_m_tl m_s) (f_135_63_m_tr m_s))) 2) + 1)
def f_148_63_m_tl (x0 : Int32) (m_s : Nat → Int32) : Int32 := f_136_63_m_tl x0 m_s (f_135_63_m_tl m_s) (f_135_63_m_tr m_s)
def f_148_63_m_tr (x0 : Int32) (m_s : Nat → Int32) : Int32 := f_136_63_m_tr x0 m_s (f_135_63_m_tl m_s) (f_135_63_m_tr m_s)
set_option maxRecDepth 20000 in
set_option maxHeartbeats 1000000 in
theorem ct_148_63 {LL : Nat} {xs : Nat → Int32} {D : Nat} {c0 : Nat → gE} {m_s : Nat → Int32} {m_kp : Nat → Int32} {m_as : Nat → Int32} {m_ik : Int32} {m_fo : Nat → Int32} {m_tl : Int32} {m_tr : Int32} {m_fa : Nat → Int32} {m_od : Nat → Int32} {m_rc : Int32} {m_be : Nat → Int32} {m_ft : Int32} {m_tp : Nat → Int32} {m_td : Int32} {m_tk : Int32} {m_bg : Int32} {m_en : Int32} {m_vl : Int64} {m_sg : Int32} {m_wi : Nat → Int32} {m_si : Nat → Int32} {m_ce : Nat → Int32} {m_ca : Nat → Int32} (x0 : Int32) (o1 : gIn ((15 + (3 * x0)) + 0) 134 = true) (o2 : gIn ((15 + (3 * x0)) + 1) 134 = true) (o3 : gIn ((15 + (3 * x0)) + 2) 134 = true) (o4 : gIn (39 + (m_s 0)) 134 = true) : hM (gO LL xs) (D + 3) zR_148 [.ref 63, .int x0] (hMm c0 m_s m_kp m_as m_ik m_fo m_tl m_tr m_fa m_od m_rc m_be m_ft m_tp m_td m_tk m_bg m_en m_vl m_sg m_wi m_si m_ce m_ca) none (hMm c0 (f_148_63_m_s x0 m_s) m_kp m_as m_ik m_fo (f_148_63_m_tl x0 m_s) (f_148_63_m_tr x0 m_s) m_fa m_od m_rc m_be m_ft m_tp m_td m_tk m_bg m_en m_vl m_sg m_wi m_si m_ce m_ca) := by
  refine hX_go 0 0 [some (.ref 63), some (.int x0)] [] (hMm c0 m_s m_kp m_as m_ik m_fo m_tl m_tr m_fa m_od m_rc m_be m_ft m_tp m_td m_tk m_bg m_en m_vl m_sg m_wi m_si m_ce m_ca) rfl ?_
  refine hX_go 1 (1) [some (.ref 63), some (.int x0)] [.ref 63] (hMm c0 m_s m_kp m_as m_ik m_fo m_tl m_tr m_fa m_od m_rc m_be m_ft m_tp m_td m_tk m_bg m_en m_vl m_sg m_wi m_si m_ce m_ca) rfl ?_
  refine hX_call (r' := zR_135) rfl (ct_135_63) ?_
  refine hX_go 2 (6) [some (.ref 63), some (.int x0)] [.int x0, .ref 63] (hMm c0 m_s m_kp m_as m_ik m_fo (f_135_63_m_tl m_s) (f_135_63_m_tr m_s) m_fa m_od m_rc m_be m_ft m_tp m_td m_tk m_bg m_en m_vl m_sg m_wi m_si m_ce m_ca) rfl ?_
  refine hX_call (r' := zR_136) rfl (ct_136_63 x0 o1 o2 o3) ?_
  refine hX_go 9 (23) [some (.ref 63), some (.int x0)] [.int (39 + (m_s 0)), .ref 64, .int (39 + (m_s 0)), .ref 64] (hMm c0 m_s m_kp m_as m_ik m_fo (f_136_63_m_tl x0 m_s (f_135_63_m_tl m_s) (f_135_63_m_tr m_s)) (f_136_63_m_tr x0 m_s (f_135_63_m_tl m_s) (f_135_63_m_tr m_s)) m_fa m_od m_rc m_be m_ft m_tp m_td m_tk m_bg m_en m_vl m_sg m_wi m_si m_ce m_ca) rfl ?_
  refine hX_g (gIn (39 + (m_s 0)) 134) 24 [some (.ref 63), some (.int x0)] [.int (m_s (Int32.toNatClampNeg (39 + (m_s 0)))), .int (39 + (m_s 0)), .ref 64] (hMm c0 m_s m_kp m_as m_ik m_fo (f_136_63_m_tl x0 m_s (f_135_63_m_tl m_s) (f_135_63_m_tr m_s)) (f_136_63_m_tr x0 m_s (f_135_63_m_tl m_s) (f_135_63_m_tr m_s)) m_fa m_od m_rc m_be m_ft m_tp m_td m_tk m_bg m_en m_vl m_sg m_wi m_si m_ce m_ca) rfl o4 ?_
  refine hX_go 8 (37) [some (.ref 63), some (.int x0)] [.int (39 + (m_s 0)), .ref 64, .int (m_s (Int32.toNatClampNeg (39 + (m_s 0)))), .int (39 + (m_s 0)), .ref 64] (hMm c0 m_s m_kp m_as m_ik m_fo (f_136_63_m_tl x0 m_s (f_135_63_m_tl m_s) (f_135_63_m_tr m_s)) (f_136_63_m_tr x0 m_s (f_135_63_m_tl m_s) (f_135_63_m_tr m_s)) m_fa m_od m_rc m_be m_ft m_tp m_td m_tk m_bg m_en m_vl m_sg m_wi m_si m_ce m_ca) rfl ?_
  refine hX_g (gIn (39 + (m_s 0)) 134) 38 [some (.ref 63), some (.int x0)] [.int (m_s (Int32.toNatClampNeg (39 + (m_s 0)))), .int (m_s (Int32.toNatClampNeg (39 + (m_s 0)))), .int (39 + (m_s 0)), .ref 64] (hMm c0 m_s m_kp m_as m_ik m_fo (f_136_63_m_tl x0 m_s (f_135_63_m_tl m_s) (f_135_63_m_tr m_s)) (f_136_63_m_tr x0 m_s (f_135_63_m_tl m_s) (f_135_63_m_tr m_s)) m_fa m_od m_rc m_be m_ft m_tp m_td m_tk m_bg m_en m_vl m_sg m_wi m_si m_ce m_ca) rfl o4 ?_
  refine hX_go 2 (bif gCmp .ge (m_s (Int32.toNatClampNeg (39 + (m_s 0)))) 9999 then 48 else 44) [some (.ref 63), some (.int x0)] [.int (m_s (Int32.toNatClampNeg (39 + (m_s 0)))), .int (39 + (m_s 0)), .ref 64] (hMm c0 m_s m_kp m_as m_ik m_fo (f_136_63_m_tl x0 m_s (f_135_63_m_tl m_s) (f_135_63_m_tr m_s)) (f_136_63_m_tr x0 m_s (f_135_63_m_tl m_s) (f_135_63_m_tr m_s)) m_fa m_od m_rc m_be m_ft m_tp m_td m_tk m_bg m_en m_vl m_sg m_wi m_si m_ce m_ca) rfl ?_
  suffices hk : hX (gO LL xs) (D + 3) zR_148 49 [some (.ref 63), some (.int x0)] [.int (bif gCmp .ge (m_s (Int32.toNatClampNeg (39 + (m_s 0)))) 9999 then 0 else 1), .int (m_s (Int32.toNatClampNeg (39 + (m_s 0)))), .int (39 + (m_s 0)), .ref 64] (hMm c0 m_s m_kp m_as m_ik m_fo (f_136_63_m_tl x0 m_s (f_135_63_m_tl m_s) (f_135_63_m_tr m_s)) (f_136_63_m_tr x0 m_s (f_135_63_m_tl m_s) (f_135_63_m_tr m_s)) m_fa m_od m_rc m_be m_ft m_tp m_td m_tk m_bg m_en m_vl m_sg m_wi m_si m_ce m_ca) none (hMm c0 (f_148_63_m_s x0 m_s) m_kp m_as m_ik m_fo (f_148_63_m_tl x0 m_s) (f_148_63_m_tr x0 m_s) m_fa m_od m_rc m_be m_ft m_tp m_td m_tk m_bg m_en m_vl m_sg m_wi m_si m_ce m_ca) by
    refine hX_if (gCmp .ge (m_s (Int32.toNatClampNeg (39 + (m_s 0)))) 9999) (fun c1 => ?_) (fun c1 => ?_)
    · skip
      refine hX_go 1 (49) [some (.ref 63), some (.int x0)] [.int 0, .int (m_s (Int32.toNatClampNeg (39 + (m_s 0)))), .int (39 + (m_s 0)), .ref 64] (hMm c0 m_s m_kp m_as m_ik m_fo (f_136_63_m_tl x0 m_s (f_135_63_m_tl m_s) (f_135_63_m_tr m_s)) (f_136_63_m_tr x0 m_s (f_135_63_m_tl m_s) (f_135_63_m_tr m_s)) m_fa m_od m_rc m_be m_ft m_tp m_td m_tk m_bg m_en m_vl m_sg m_wi m_si m_ce m_ca) rfl ?_
      have hk := hk
      simp only [c1, cond_true, cond_false] at hk
      first | exact hk | (simp only [c1, cond_true, cond_false]; exact hk)
    · skip
      refine hX_go 2 (49) [some (.ref 63), some (.int x0)] [.int 1, .int (m_s (Int32.toNatClampNeg (39 + (m_s 0)))), .int (39 + (m_s 0)), .ref 64] (hMm c0 m_s m_kp m_as m_ik m_fo (f_136_63_m_tl x0 m_s (f_135_63_m_tl m_s) (f_135_63_m_tr m_s)) (f_136_63_m_tr x0 m_s (f_135_63_m_tl m_s) (f_135_63_m_tr m_s)) m_fa m_od m_rc m_be m_ft m_tp m_td m_tk m_bg m_en m_vl m_sg m_wi m_si m_ce m_ca) rfl ?_
      have hk := hk
      simp only [c1, cond_true, cond_false] at hk
      first | exact hk | (simp only [c1, cond_true, cond_false]; exact hk)
  refine hX_go 1 (50) [some (.ref 63), some (.int x0)] [.int ((m_s (Int32.toNatClampNeg (39 + (m_s 0)))) + (bif gCmp .ge (m_s (Int32.toNatClampNeg (39 + (m_s 0)))) 9999 then 0 else 1)), .int (39 + (m_s 0)), .ref 64] (hMm c0 m_s m_kp m_as m_ik m_fo (f_136_63_m_tl x0 m_s (f_135_63_m_tl m_s) (f_135_63_m_tr m_s)) (f_136_63_m_tr x0 m_s (f_135_63_m_tl m_s) (f_135_63_m_tr m_s)) m_fa m_od m_rc m_be m_ft m_tp m_td m_tk m_bg m_en m_vl m_sg m_wi m_si m_ce m_ca) rfl ?_
  refine hX_g (gIn (39 + (m_s 0)) 134) 51 [some (.ref 63), some (.int x0)] [] (hMm c0 (upd m_s (Int32.toNatClampNeg (39 + (m_s 0))) ((m_s (Int32.toNatClampNeg (39 + (m_s 0)))) + (bif gCmp .ge (m_s (Int32.toNatClampNeg (39 + (m_s 0)))) 9999 then 0 else 1))) m_kp m_as m_ik m_fo (f_136_63_m_tl x0 m_s (f_135_63_m_tl m_s) (f_135_63_m_tr m_s)) (f_136_63_m_tr x0 m_s (f_135_63_m_tl m_s) (f_135_63_m_tr m_s)) m_fa m_od m_rc m_be m_ft m_tp m_td m_tk m_bg m_en m_vl m_sg m_wi m_si m_ce m_ca) rfl o4 ?_
  refine hX_go 9 (66) [some (.ref 63), some (.int x0)] [.int 1, .ref 64] (hMm c0 (upd (upd m_s (Int32.toNatClampNeg (39 + (m_s 0))) ((m_s (Int32.toNatClampNeg (39 + (m_s 0)))) + (bif gCmp .ge (m_s (Int32.toNatClampNeg (39 + (m_s 0)))) 9999 then 0 else 1))) 0 (f_136_63_m_tl x0 m_s (f_135_63_m_tl m_s) (f_135_63_m_tr m_s))) m_kp m_as m_ik m_fo (f_136_63_m_tl x0 m_s (f_135_63_m_tl m_s) (f_135_63_m_tr m_s)) (f_136_63_m_tr x0 m_s (f_135_63_m_tl m_s) (f_135_63_m_tr m_s)) m_fa m_od m_rc m_be m_ft m_tp m_td m_tk m_bg m_en m_vl m_sg m_wi m_si m_ce m_ca) rfl ?_
  refine hX_go 9 (79) [some (.ref 63), some (.int x0)] [.int 1, .int ((upd (upd (upd m_s (Int32.toNatClampNeg (39 + (m_s 0))) ((m_s (Int32.toNatClampNeg (39 + (m_s 0)))) + (bif gCmp .ge (m_s (Int32.toNatClampNeg (39 + (m_s 0)))) 9999 then 0 else 1))) 0 (f_136_63_m_tl x0 m_s (f_135_63_m_tl m_s) (f_135_63_m_tr m_s))) 1 (f_136_63_m_tr x0 m_s (f_135_63_m_tl m_s) (f_135_63_m_tr m_s))) 2), .int 2, .ref 64] (hMm c0 (upd (upd (upd m_s (Int32.toNatClampNeg (39 + (m_s 0))) ((m_s (Int32.toNatClampNeg (39 + (m_s 0)))) + (bif gCmp .ge (m_s (Int32.toNatClampNeg (39 + (m_s 0)))) 9999 then 0 else 1))) 0 (f_136_63_m_tl x0 m_s (f_135_63_m_tl m_s) (f_135_63_m_tr m_s))) 1 (f_136_63_m_tr x0 m_s (f_135_63_m_tl m_s) (f_135_63_m_tr m_s))) m_kp m_as m_ik m_fo (f_136_63_m_tl x0 m_s (f_135_63_m_tl m_s) (f_135_63_m_tr m_s)) (f_136_63_m_tr x0 m_s (f_135_63_m_tl m_s) (f_135_63_m_tr m_s)) m_fa m_od m_rc m_be m_ft m_tp m_td m_tk m_bg m_en m_vl m_sg m_wi m_si m_ce m_ca) rfl ?_
  refine hX_go 2 (81) [some (.ref 63), some (.int x0)] [] (hMm c0 (upd (upd (upd (upd m_s (Int32.toNatClampNeg (39 + (m_s 0))) ((m_s (Int32.toNatClampNeg (39 + (m_s 0)))) + (bif gCmp .ge (m_s (Int32.toNatClampNeg (39 + (m_s 0)))) 9999 then 0 else 1))) 0 (f_136_63_m_tl x0 m_s (f_135_63_m_tl m_s) (f_135_63_m_tr m_s))) 1 (f_136_63_m_tr x0 m_s (f_135_63_m_tl m_s) (f_135_63_m_tr m_s))) 2 (((upd (upd (upd m_s (Int32.toNatClampNeg (39 + (m_s 0))) ((m_s (Int32.toNatClampNeg (39 + (m_s 0)))) + (bif gCmp .ge (m_s (Int32.toNatClampNeg (39 + (m_s 0)))) 9999 then 0 else 1))) 0 (f_136_63_m_tl x0 m_s (f_135_63_m_tl m_s) (f_135_63_m_tr m_s))) 1 (f_136_63_m_tr x0 m_s (f_135_63_m_tl m_s) (f_135_63_m_tr m_s))) 2) + 1)) m_kp m_as m_ik m_fo (f_136_63_m_tl x0 m_s (f_135_63_m_tl m_s) (f_135_63_m_tr m_s)) (f_136_63_m_tr x0 m_s (f_135_63_m_tl m_s) (f_135_63_m_tr m_s)) m_fa m_od m_rc m_be m_ft m_tp m_td m_tk m_bg m_en m_vl m_sg m_wi m_si m_ce m_ca) rfl ?_
  exact hX_end rfl (rfl) (rfl)

/-- UpOneSideModel.does(I)I -/
def v_149_63 (x0 : Int32) (m_s : Nat → Int32) : Int32 := bif gCmp .ne (v_129_63 x0 m_s) 0 then (bif gCmp .ne (m_s 2) 99999 then (v_146_63 (f_148_63_m_s x0 m_s)) else (v_124_63 4)) else (v_124_63 0)
def f_149_63_m_s (x0 : Int32) (m_s : Nat → Int32) : Nat → Int32 := bif gCmp .ne (v_129_63 x0 m_s) 0 then (bif gCmp .ne (m_s 2) 99999 then (f_148_63_m_s x0 m_s) else m_s) else m_s
def f_149_63_m_fo (x0 : Int32) (m_s : Nat → Int32) (m_fo : Nat → Int32) : Nat → Int32 := bif gCmp .ne (v_129_63 x0 m_s) 0 then (bif gCmp .ne (m_s 2) 99999 then m_fo else (f_124_63_m_fo 4 m_fo)) else (f_124_63_m_fo 0 m_fo)
def f_149_63_m_tl (x0 : Int32) (m_s : Nat → Int32) (m_tl : Int32) : Int32 := bif gCmp .ne (v_129_63 x0 m_s) 0 then (bif gCmp .ne (m_s 2) 99999 then (f_148_63_m_tl x0 m_s) else m_tl) else m_tl
def f_149_63_m_tr (x0 : Int32) (m_s : Nat → Int32) (m_tr : Int32) : Int32 := bif gCmp .ne (v_129_63 x0 m_s) 0 then (bif gCmp .ne (m_s 2) 99999 then (f_148_63_m_tr x0 m_s) else m_tr) else m_tr
set_option maxRecDepth 20000 in
set_option maxHeartbeats 1000000 in
theorem ct_149_63 {LL : Nat} {xs : Nat → Int32} {D : Nat} {c0 : Nat → gE} {m_s : Nat → Int32} {m_kp : Nat → Int32} {m_as : Nat → Int32} {m_ik : Int32} {m_fo : Nat → Int32} {m_tl : Int32} {m_tr : Int32} {m_fa : Nat → Int32} {m_od : Nat → Int32} {m_rc : Int32} {m_be : Nat → Int32} {m_ft : Int32} {m_tp : Nat → Int32} {m_td : Int32} {m_tk : Int32} {m_bg : Int32} {m_en : Int32} {m_vl : Int64} {m_sg : Int32} {m_wi : Nat → Int32} {m_si : Nat → Int32} {m_ce : Nat → Int32} {m_ca : Nat → Int32} (x0 : Int32) (o1 : gCmp .ne (v_129_63 x0 m_s) 0 = true → gCmp .ne (m_s 2) 99999 = true → gIn ((15 + (3 * x0)) + 0) 134 = true) (o2 : gCmp .ne (v_129_63 x0 m_s) 0 = true → gCmp .ne (m_s 2) 99999 = true → gIn ((15 + (3 * x0)) + 1) 134 = true) (o3 : gCmp .ne (v_129_63 x0 m_s) 0 = true → gCmp .ne (m_s 2) 99999 = true → gIn ((15 + (3 * x0)) + 2) 134 = true) (o4 : gCmp .ne (v_129_63 x0 m_s) 0 = true → gCmp .ne (m_s 2) 99999 = true → gIn (39 + (m_s 0)) 134 = true) (o5 : gCmp .ne (v_129_63 x0 m_s) 0 = true → gCmp .ne (m_s 2) 99999 = false → gIn 4 7 = true) (o6 : gCmp .ne (v_129_63 x0 m_s) 0 = false → gIn 0 7 = true) : hM (gO LL xs) (D + 4) zR_149 [.ref 63, .int x0] (hMm c0 m_s m_kp m_as m_ik m_fo m_tl m_tr m_fa m_od m_rc m_be m_ft m_tp m_td m_tk m_bg m_en m_vl m_sg m_wi m_si m_ce m_ca) (some (.int (v_149_63 x0 m_s))) (hMm c0 (f_149_63_m_s x0 m_s) m_kp m_as m_ik (f_149_63_m_fo x0 m_s m_fo) (f_149_63_m_tl x0 m_s m_tl) (f_149_63_m_tr x0 m_s m_tr) m_fa m_od m_rc m_be m_ft m_tp m_td m_tk m_bg m_en m_vl m_sg m_wi m_si m_ce m_ca) := by
  refine hX_go 0 0 [some (.ref 63), some (.int x0)] [] (hMm c0 m_s m_kp m_as m_ik m_fo m_tl m_tr m_fa m_od m_rc m_be m_ft m_tp m_td m_tk m_bg m_en m_vl m_sg m_wi m_si m_ce m_ca) rfl ?_
  refine hX_go 2 (2) [some (.ref 63), some (.int x0)] [.int x0, .ref 63] (hMm c0 m_s m_kp m_as m_ik m_fo m_tl m_tr m_fa m_od m_rc m_be m_ft m_tp m_td m_tk m_bg m_en m_vl m_sg m_wi m_si m_ce m_ca) rfl ?_
  refine hX_call (r' := zR_129) rfl (ct_129_63 x0) ?_
  refine hX_go 1 (bif gCmp .ne (v_129_63 x0 m_s) 0 then 14 else 8) [some (.ref 63), some (.int x0)] [] (hMm c0 m_s m_kp m_as m_ik m_fo m_tl m_tr m_fa m_od m_rc m_be m_ft m_tp m_td m_tk m_bg m_en m_vl m_sg m_wi m_si m_ce m_ca) rfl ?_
  refine hX_if (gCmp .ne (v_129_63 x0 m_s) 0) (fun c1 => ?_) (fun c1 => ?_)
  · skip
    refine hX_go 6 (bif gCmp .ne (m_s 2) 99999 then 31 else 25) [some (.ref 63), some (.int x0)] [] (hMm c0 m_s m_kp m_as m_ik m_fo m_tl m_tr m_fa m_od m_rc m_be m_ft m_tp m_td m_tk m_bg m_en m_vl m_sg m_wi m_si m_ce m_ca) rfl ?_
    refine hX_if (gCmp .ne (m_s 2) 99999) (fun c2 => ?_) (fun c2 => ?_)
    · skip
      refine hX_go 2 (33) [some (.ref 63), some (.int x0)] [.int x0, .ref 63] (hMm c0 m_s m_kp m_as m_ik m_fo m_tl m_tr m_fa m_od m_rc m_be m_ft m_tp m_td m_tk m_bg m_en m_vl m_sg m_wi m_si m_ce m_ca) rfl ?_
      refine hX_call (r' := zR_148) rfl (ct_148_63 x0 (o1 c1 c2) (o2 c1 c2) (o3 c1 c2) (o4 c1 c2)) ?_
      refine hX_go 1 (37) [some (.ref 63), some (.int x0)] [.ref 63] (hMm c0 (f_148_63_m_s x0 m_s) m_kp m_as m_ik m_fo (f_148_63_m_tl x0 m_s) (f_148_63_m_tr x0 m_s) m_fa m_od m_rc m_be m_ft m_tp m_td m_tk m_bg m_en m_vl m_sg m_wi m_si m_ce m_ca) rfl ?_
      refine hX_call (r' := zR_146) rfl (ct_146_63) ?_
      refine hX_go 0 (40) [some (.ref 63), some (.int x0)] [.int (v_146_63 (f_148_63_m_s x0 m_s))] (hMm c0 (f_148_63_m_s x0 m_s) m_kp m_as m_ik m_fo (f_148_63_m_tl x0 m_s) (f_148_63_m_tr x0 m_s) m_fa m_od m_rc m_be m_ft m_tp m_td m_tk m_bg m_en m_vl m_sg m_wi m_si m_ce m_ca) rfl ?_
      exact hX_end rfl (by unfold v_149_63; rw [c1, c2]; rfl) (by unfold f_149_63_m_s; rw [c1, c2]; unfold f_149_63_m_fo; rw [c1, c2]; unfold f_149_63_m_tl; rw [c1, c2]; unfold f_149_63_m_tr; rw [c1, c2]; rfl)
    · skip
      refine hX_go 2 (27) [some (.ref 63), some (.int x0)] [.int 4, .ref 63] (hMm c0 m_s m_kp m_as m_ik m_fo m_tl m_tr m_fa m_od m_rc m_be m_ft m_tp m_td m_tk m_bg m_en m_vl m_sg m_wi m_si m_ce m_ca) rfl ?_
      refine hX_call (r' := zR_124) rfl (ct_124_63 4 (o5 c1 c2)) ?_
      refine hX_go 0 (30) [some (.ref 63), some (.int x0)] [.int (v_124_63 4)] (hMm c0 m_s m_kp m_as m_ik (f_124_63_m_fo 4 m_fo) m_tl m_tr m_fa m_od m_rc m_be m_ft m_tp m_td m_tk m_bg m_en m_vl m_sg m_wi m_si m_ce m_ca) rfl ?_
      exact hX_end rfl (by unfold v_149_63; rw [c1, c2]; rfl) (by unfold f_149_63_m_s; rw [c1, c2]; unfold f_149_63_m_fo; rw [c1, c2]; unfold f_149_63_m_tl; rw [c1, c2]; unfold f_149_63_m_tr; rw [c1, c2]; rfl)
  · skip
    refine hX_go 2 (10) [some (.ref 63), some (.int x0)] [.int 0, .ref 63] (hMm c0 m_s m_kp m_as m_ik m_fo m_tl m_tr m_fa m_od m_rc m_be m_ft m_tp m_td m_tk m_bg m_en m_vl m_sg m_wi m_si m_ce m_ca) rfl ?_
    refine hX_call (r' := zR_124) rfl (ct_124_63 0 (o6 c1)) ?_
    refine hX_go 0 (13) [some (.ref 63), some (.int x0)] [.int (v_124_63 0)] (hMm c0 m_s m_kp m_as m_ik (f_124_63_m_fo 0 m_fo) m_tl m_tr m_fa m_od m_rc m_be m_ft m_tp m_td m_tk m_bg m_en m_vl m_sg m_wi m_si m_ce m_ca) rfl ?_
    exact hX_end rfl (by unfold v_149_63; rw [c1]; rfl) (by unfold f_149_63_m_s; rw [c1]; unfold f_149_63_m_fo; rw [c1]; unfold f_149_63_m_tl; rw [c1]; unfold f_149_63_m_tr; rw [c1]; rfl)

theorem sw_150_1 (x : Int32) : gSwT 1 76 0 4 #[35, 42, 49, 54, 61] x = some (bif hEq x 0 then 36 else bif hEq x 1 then 43 else bif hEq x 2 then 50 else bif hEq x 3 then 55 else bif hEq x 4 then 62 else 77) := by
  by_cases q0 : x = 0
  · subst q0; rfl
  by_cases q1 : x = 1
  · subst q1; rfl
  by_cases q2 : x = 2
  · subst q2; rfl
  by_cases q3 : x = 3
  · subst q3; rfl
  by_cases q4 : x = 4
  · subst q4; rfl
  simp only [hEq, q0, q1, q2, q3, q4, decide_false, cond_false]
  have n0 := hNe q0
  have n1 := hNe q1
  have n2 := hNe q2
  have n3 := hNe q3
  have n4 := hNe q4
  unfold gSwT
  rw [show (decide (x.toInt < 0) || decide (4 < x.toInt)) = true from by
    simp only [Bool.or_eq_true, decide_eq_true_eq]
    have e : ∀ z : Int, z < 0 ∨ 4 < z ∨ (z = 0 ∨ z = 1 ∨ z = 2 ∨ z = 3 ∨ z = 4) := by intro z; omega
    rcases e x.toInt with h | h | h
    · exact Or.inl h
    · exact Or.inr h
    · rcases h with h | h | h | h | h
      · exact absurd h n0
      · exact absurd h n1
      · exact absurd h n2
      · exact absurd h n3
      · exact absurd h n4
    ]
  rfl

/-- UpOneSideModel.now(I)I -/
def v_150_63 (x0 : Int32) (m_s : Nat → Int32) : Int32 := bif hEq x0 0 then (m_s 0) else (bif hEq x0 1 then (m_s 1) else (bif hEq x0 2 then (v_146_63 m_s) else (bif hEq x0 3 then (m_s 2) else (bif hEq x0 4 then (m_s (Int32.toNatClampNeg (39 + (m_s 0)))) else (v_124_63 0)))))
def f_150_63_m_fo (x0 : Int32) (m_fo : Nat → Int32) : Nat → Int32 := bif hEq x0 0 then m_fo else (bif hEq x0 1 then m_fo else (bif hEq x0 2 then m_fo else (bif hEq x0 3 then m_fo else (bif hEq x0 4 then m_fo else (f_124_63_m_fo 0 m_fo)))))
set_option maxRecDepth 20000 in
set_option maxHeartbeats 1000000 in
theorem ct_150_63 {LL : Nat} {xs : Nat → Int32} {D : Nat} {c0 : Nat → gE} {m_s : Nat → Int32} {m_kp : Nat → Int32} {m_as : Nat → Int32} {m_ik : Int32} {m_fo : Nat → Int32} {m_tl : Int32} {m_tr : Int32} {m_fa : Nat → Int32} {m_od : Nat → Int32} {m_rc : Int32} {m_be : Nat → Int32} {m_ft : Int32} {m_tp : Nat → Int32} {m_td : Int32} {m_tk : Int32} {m_bg : Int32} {m_en : Int32} {m_vl : Int64} {m_sg : Int32} {m_wi : Nat → Int32} {m_si : Nat → Int32} {m_ce : Nat → Int32} {m_ca : Nat → Int32} (x0 : Int32) (o1 : hEq x0 0 = false → hEq x0 1 = false → hEq x0 2 = false → hEq x0 3 = false → hEq x0 4 = true → gIn (39 + (m_s 0)) 134 = true) (o2 : hEq x0 0 = false → hEq x0 1 = false → hEq x0 2 = false → hEq x0 3 = false → hEq x0 4 = false → gIn 0 7 = true) : hM (gO LL xs) (D + 1) zR_150 [.ref 63, .int x0] (hMm c0 m_s m_kp m_as m_ik m_fo m_tl m_tr m_fa m_od m_rc m_be m_ft m_tp m_td m_tk m_bg m_en m_vl m_sg m_wi m_si m_ce m_ca) (some (.int (v_150_63 x0 m_s))) (hMm c0 m_s m_kp m_as m_ik (f_150_63_m_fo x0 m_fo) m_tl m_tr m_fa m_od m_rc m_be m_ft m_tp m_td m_tk m_bg m_en m_vl m_sg m_wi m_si m_ce m_ca) := by
  refine hX_go 0 0 [some (.ref 63), some (.int x0)] [] (hMm c0 m_s m_kp m_as m_ik m_fo m_tl m_tr m_fa m_od m_rc m_be m_ft m_tp m_td m_tk m_bg m_en m_vl m_sg m_wi m_si m_ce m_ca) rfl ?_
  refine hX_go 1 (1) [some (.ref 63), some (.int x0)] [.int x0] (hMm c0 m_s m_kp m_as m_ik m_fo m_tl m_tr m_fa m_od m_rc m_be m_ft m_tp m_td m_tk m_bg m_en m_vl m_sg m_wi m_si m_ce m_ca) rfl ?_
  refine hX_sw (bif hEq x0 0 then 36 else bif hEq x0 1 then 43 else bif hEq x0 2 then 50 else bif hEq x0 3 then 55 else bif hEq x0 4 then 62 else 77) rfl (sw_150_1 x0) ?_
  refine hX_if (hEq x0 0) (fun c1 => ?_) (fun c1 => ?_)
  · skip
    refine hX_go 4 (42) [some (.ref 63), some (.int x0)] [.int (m_s 0)] (hMm c0 m_s m_kp m_as m_ik m_fo m_tl m_tr m_fa m_od m_rc m_be m_ft m_tp m_td m_tk m_bg m_en m_vl m_sg m_wi m_si m_ce m_ca) rfl ?_
    exact hX_end rfl (by unfold v_150_63; rw [c1]; rfl) (by unfold f_150_63_m_fo; rw [c1]; rfl)
  · skip
    refine hX_if (hEq x0 1) (fun c2 => ?_) (fun c2 => ?_)
    · skip
      refine hX_go 4 (49) [some (.ref 63), some (.int x0)] [.int (m_s 1)] (hMm c0 m_s m_kp m_as m_ik m_fo m_tl m_tr m_fa m_od m_rc m_be m_ft m_tp m_td m_tk m_bg m_en m_vl m_sg m_wi m_si m_ce m_ca) rfl ?_
      exact hX_end rfl (by unfold v_150_63; rw [c1, c2]; rfl) (by unfold f_150_63_m_fo; rw [c1, c2]; rfl)
    · skip
      refine hX_if (hEq x0 2) (fun c3 => ?_) (fun c3 => ?_)
      · skip
        refine hX_go 1 (51) [some (.ref 63), some (.int x0)] [.ref 63] (hMm c0 m_s m_kp m_as m_ik m_fo m_tl m_tr m_fa m_od m_rc m_be m_ft m_tp m_td m_tk m_bg m_en m_vl m_sg m_wi m_si m_ce m_ca) rfl ?_
        refine hX_call (r' := zR_146) rfl (ct_146_63) ?_
        refine hX_go 0 (54) [some (.ref 63), some (.int x0)] [.int (v_146_63 m_s)] (hMm c0 m_s m_kp m_as m_ik m_fo m_tl m_tr m_fa m_od m_rc m_be m_ft m_tp m_td m_tk m_bg m_en m_vl m_sg m_wi m_si m_ce m_ca) rfl ?_
        exact hX_end rfl (by unfold v_150_63; rw [c1, c2, c3]; rfl) (by unfold f_150_63_m_fo; rw [c1, c2, c3]; rfl)
      · skip
        refine hX_if (hEq x0 3) (fun c4 => ?_) (fun c4 => ?_)
        · skip
          refine hX_go 4 (61) [some (.ref 63), some (.int x0)] [.int (m_s 2)] (hMm c0 m_s m_kp m_as m_ik m_fo m_tl m_tr m_fa m_od m_rc m_be m_ft m_tp m_td m_tk m_bg m_en m_vl m_sg m_wi m_si m_ce m_ca) rfl ?_
          exact hX_end rfl (by unfold v_150_63; rw [c1, c2, c3, c4]; rfl) (by unfold f_150_63_m_fo; rw [c1, c2, c3, c4]; rfl)
        · skip
          refine hX_if (hEq x0 4) (fun c5 => ?_) (fun c5 => ?_)
          · skip
            refine hX_go 8 (75) [some (.ref 63), some (.int x0)] [.int (39 + (m_s 0)), .ref 64] (hMm c0 m_s m_kp m_as m_ik m_fo m_tl m_tr m_fa m_od m_rc m_be m_ft m_tp m_td m_tk m_bg m_en m_vl m_sg m_wi m_si m_ce m_ca) rfl ?_
            refine hX_g (gIn (39 + (m_s 0)) 134) 76 [some (.ref 63), some (.int x0)] [.int (m_s (Int32.toNatClampNeg (39 + (m_s 0))))] (hMm c0 m_s m_kp m_as m_ik m_fo m_tl m_tr m_fa m_od m_rc m_be m_ft m_tp m_td m_tk m_bg m_en m_vl m_sg m_wi m_si m_ce m_ca) rfl (o1 c1 c2 c3 c4 c5) ?_
            exact hX_end rfl (by unfold v_150_63; rw [c1, c2, c3, c4, c5]; rfl) (by unfold f_150_63_m_fo; rw [c1, c2, c3, c4, c5]; rfl)
          · skip
            refine hX_go 2 (79) [some (.ref 63), some (.int x0)] [.int 0, .ref 63] (hMm c0 m_s m_kp m_as m_ik m_fo m_tl m_tr m_fa m_od m_rc m_be m_ft m_tp m_td m_tk m_bg m_en m_vl m_sg m_wi m_si m_ce m_ca) rfl ?_
            refine hX_call (r' := zR_124) rfl (ct_124_63 0 (o2 c1 c2 c3 c4 c5)) ?_
            refine hX_go 0 (82) [some (.ref 63), some (.int x0)] [.int (v_124_63 0)] (hMm c0 m_s m_kp m_as m_ik (f_124_63_m_fo 0 m_fo) m_tl m_tr m_fa m_od m_rc m_be m_ft m_tp m_td m_tk m_bg m_en m_vl m_sg m_wi m_si m_ce m_ca) rfl ?_
            exact hX_end rfl (by unfold v_150_63; rw [c1, c2, c3, c4, c5]; rfl) (by unfold f_150_63_m_fo; rw [c1, c2, c3, c4, c5]; rfl)

/-- UpOneSideModel.wear(I)I -/
def v_151_63 (x0 : Int32) (m_s : Nat → Int32) : Int32 := bif gCmp .eq (v_130 x0) 0 then (v_124_63 0) else (m_s (Int32.toNatClampNeg (39 + x0)))
def f_151_63_m_fo (x0 : Int32) (m_fo : Nat → Int32) : Nat → Int32 := bif gCmp .eq (v_130 x0) 0 then (f_124_63_m_fo 0 m_fo) else m_fo
set_option maxRecDepth 20000 in
set_option maxHeartbeats 1000000 in
theorem ct_151_63 {LL : Nat} {xs : Nat → Int32} {D : Nat} {c0 : Nat → gE} {m_s : Nat → Int32} {m_kp : Nat → Int32} {m_as : Nat → Int32} {m_ik : Int32} {m_fo : Nat → Int32} {m_tl : Int32} {m_tr : Int32} {m_fa : Nat → Int32} {m_od : Nat → Int32} {m_rc : Int32} {m_be : Nat → Int32} {m_ft : Int32} {m_tp : Nat → Int32} {m_td : Int32} {m_tk : Int32} {m_bg : Int32} {m_en : Int32} {m_vl : Int64} {m_sg : Int32} {m_wi : Nat → Int32} {m_si : Nat → Int32} {m_ce : Nat → Int32} {m_ca : Nat → Int32} (x0 : Int32) (o1 : gCmp .eq (v_130 x0) 0 = true → gIn 0 7 = true) (o2 : gCmp .eq (v_130 x0) 0 = false → gIn (39 + x0) 134 = true) : hM (gO LL xs) (D + 2) zR_151 [.ref 63, .int x0] (hMm c0 m_s m_kp m_as m_ik m_fo m_tl m_tr m_fa m_od m_rc m_be m_ft m_tp m_td m_tk m_bg m_en m_vl m_sg m_wi m_si m_ce m_ca) (some (.int (v_151_63 x0 m_s))) (hMm c0 m_s m_kp m_as m_ik (f_151_63_m_fo x0 m_fo) m_tl m_tr m_fa m_od m_rc m_be m_ft m_tp m_td m_tk m_bg m_en m_vl m_sg m_wi m_si m_ce m_ca) := by
  refine hX_go 0 0 [some (.ref 63), some (.int x0)] [] (hMm c0 m_s m_kp m_as m_ik m_fo m_tl m_tr m_fa m_od m_rc m_be m_ft m_tp m_td m_tk m_bg m_en m_vl m_sg m_wi m_si m_ce m_ca) rfl ?_
  refine hX_go 1 (1) [some (.ref 63), some (.int x0)] [.int x0] (hMm c0 m_s m_kp m_as m_ik m_fo m_tl m_tr m_fa m_od m_rc m_be m_ft m_tp m_td m_tk m_bg m_en m_vl m_sg m_wi m_si m_ce m_ca) rfl ?_
  refine hX_call (r' := zR_130) rfl (ct_130 x0) ?_
  refine hX_go 1 (bif gCmp .eq (v_130 x0) 0 then 19 else 7) [some (.ref 63), some (.int x0)] [] (hMm c0 m_s m_kp m_as m_ik m_fo m_tl m_tr m_fa m_od m_rc m_be m_ft m_tp m_td m_tk m_bg m_en m_vl m_sg m_wi m_si m_ce m_ca) rfl ?_
  suffices hk : hX (gO LL xs) (D + 2) zR_151 24 [some (.ref 63), some (.int x0)] [.int (bif gCmp .eq (v_130 x0) 0 then (v_124_63 0) else (m_s (Int32.toNatClampNeg (39 + x0))))] (hMm c0 m_s m_kp m_as m_ik (bif gCmp .eq (v_130 x0) 0 then (f_124_63_m_fo 0 m_fo) else m_fo) m_tl m_tr m_fa m_od m_rc m_be m_ft m_tp m_td m_tk m_bg m_en m_vl m_sg m_wi m_si m_ce m_ca) (some (.int (v_151_63 x0 m_s))) (hMm c0 m_s m_kp m_as m_ik (f_151_63_m_fo x0 m_fo) m_tl m_tr m_fa m_od m_rc m_be m_ft m_tp m_td m_tk m_bg m_en m_vl m_sg m_wi m_si m_ce m_ca) by
    refine hX_if (gCmp .eq (v_130 x0) 0) (fun c1 => ?_) (fun c1 => ?_)
    · skip
      refine hX_go 2 (21) [some (.ref 63), some (.int x0)] [.int 0, .ref 63] (hMm c0 m_s m_kp m_as m_ik m_fo m_tl m_tr m_fa m_od m_rc m_be m_ft m_tp m_td m_tk m_bg m_en m_vl m_sg m_wi m_si m_ce m_ca) rfl ?_
      refine hX_call (r' := zR_124) rfl (ct_124_63 0 (o1 c1)) ?_
      refine hX_go 0 (24) [some (.ref 63), some (.int x0)] [.int (v_124_63 0)] (hMm c0 m_s m_kp m_as m_ik (f_124_63_m_fo 0 m_fo) m_tl m_tr m_fa m_od m_rc m_be m_ft m_tp m_td m_tk m_bg m_en m_vl m_sg m_wi m_si m_ce m_ca) rfl ?_
      have hk := hk
      simp only [c1, cond_true, cond_false] at hk
      first | exact hk | (simp only [c1, cond_true, cond_false]; exact hk)
    · skip
      refine hX_go 5 (15) [some (.ref 63), some (.int x0)] [.int (39 + x0), .ref 64] (hMm c0 m_s m_kp m_as m_ik m_fo m_tl m_tr m_fa m_od m_rc m_be m_ft m_tp m_td m_tk m_bg m_en m_vl m_sg m_wi m_si m_ce m_ca) rfl ?_
      refine hX_g (gIn (39 + x0) 134) 16 [some (.ref 63), some (.int x0)] [.int (m_s (Int32.toNatClampNeg (39 + x0)))] (hMm c0 m_s m_kp m_as m_ik m_fo m_tl m_tr m_fa m_od m_rc m_be m_ft m_tp m_td m_tk m_bg m_en m_vl m_sg m_wi m_si m_ce m_ca) rfl (o2 c1) ?_
      refine hX_go 1 (24) [some (.ref 63), some (.int x0)] [.int (m_s (Int32.toNatClampNeg (39 + x0)))] (hMm c0 m_s m_kp m_as m_ik m_fo m_tl m_tr m_fa m_od m_rc m_be m_ft m_tp m_td m_tk m_bg m_en m_vl m_sg m_wi m_si m_ce m_ca) rfl ?_
      have hk := hk
      simp only [c1, cond_true, cond_false] at hk
      first | exact hk | (simp only [c1, cond_true, cond_false]; exact hk)
  exact hX_end rfl (rfl) (rfl)

/-- UpOneSideModel.reaches(III)V -/
def f_160_63_m_fa (x0 : Int32) (x1 : Int32) (x2 : Int32) (m_fa : Nat → Int32) : Nat → Int32 := bif gCmp .ge (m_fa (Int32.toNatClampNeg ((61 * x0) + x1))) 0 then m_fa else (upd m_fa (Int32.toNatClampNeg ((61 * x0) + x1)) x2)
def f_160_63_m_od (x0 : Int32) (x1 : Int32) (m_fa : Nat → Int32) (m_od : Nat → Int32) (m_rc : Int32) : Nat → Int32 := bif gCmp .ge (m_fa (Int32.toNatClampNeg ((61 * x0) + x1))) 0 then m_od else (upd m_od (Int32.toNatClampNeg m_rc) ((61 * x0) + x1))
def f_160_63_m_rc (x0 : Int32) (x1 : Int32) (m_fa : Nat → Int32) (m_rc : Int32) : Int32 := bif gCmp .ge (m_fa (Int32.toNatClampNeg ((61 * x0) + x1))) 0 then m_rc else (m_rc + 1)
set_option maxRecDepth 20000 in
set_option maxHeartbeats 1000000 in
theorem ct_160_63 {LL : Nat} {xs : Nat → Int32} {D : Nat} {c0 : Nat → gE} {m_s : Nat → Int32} {m_kp : Nat → Int32} {m_as : Nat → Int32} {m_ik : Int32} {m_fo : Nat → Int32} {m_tl : Int32} {m_tr : Int32} {m_fa : Nat → Int32} {m_od : Nat → Int32} {m_rc : Int32} {m_be : Nat → Int32} {m_ft : Int32} {m_tp : Nat → Int32} {m_td : Int32} {m_tk : Int32} {m_bg : Int32} {m_en : Int32} {m_vl : Int64} {m_sg : Int32} {m_wi : Nat → Int32} {m_si : Nat → Int32} {m_ce : Nat → Int32} {m_ca : Nat → Int32} (x0 : Int32) (x1 : Int32) (x2 : Int32) (o1 : gIn ((61 * x0) + x1) 3721 = true) (o2 : gCmp .ge (m_fa (Int32.toNatClampNeg ((61 * x0) + x1))) 0 = false → gIn m_rc 3721 = true) : hM (gO LL xs) (D + 0) zR_160 [.ref 63, .int x0, .int x1, .int x2] (hMm c0 m_s m_kp m_as m_ik m_fo m_tl m_tr m_fa m_od m_rc m_be m_ft m_tp m_td m_tk m_bg m_en m_vl m_sg m_wi m_si m_ce m_ca) none (hMm c0 m_s m_kp m_as m_ik m_fo m_tl m_tr (f_160_63_m_fa x0 x1 x2 m_fa) (f_160_63_m_od x0 x1 m_fa m_od m_rc) (f_160_63_m_rc x0 x1 m_fa m_rc) m_be m_ft m_tp m_td m_tk m_bg m_en m_vl m_sg m_wi m_si m_ce m_ca) := by
  refine hX_go 0 0 [some (.ref 63), some (.int x0), some (.int x1), some (.int x2), none] [] (hMm c0 m_s m_kp m_as m_ik m_fo m_tl m_tr m_fa m_od m_rc m_be m_ft m_tp m_td m_tk m_bg m_en m_vl m_sg m_wi m_si m_ce m_ca) rfl ?_
  refine hX_go 9 (14) [some (.ref 63), some (.int x0), some (.int x1), some (.int x2), some (.int ((61 * x0) + x1))] [.int ((61 * x0) + x1), .ref 68] (hMm c0 m_s m_kp m_as m_ik m_fo m_tl m_tr m_fa m_od m_rc m_be m_ft m_tp m_td m_tk m_bg m_en m_vl m_sg m_wi m_si m_ce m_ca) rfl ?_
  refine hX_g (gIn ((61 * x0) + x1) 3721) 15 [some (.ref 63), some (.int x0), some (.int x1), some (.int x2), some (.int ((61 * x0) + x1))] [.int (m_fa (Int32.toNatClampNeg ((61 * x0) + x1)))] (hMm c0 m_s m_kp m_as m_ik m_fo m_tl m_tr m_fa m_od m_rc m_be m_ft m_tp m_td m_tk m_bg m_en m_vl m_sg m_wi m_si m_ce m_ca) rfl o1 ?_
  refine hX_go 1 (bif gCmp .ge (m_fa (Int32.toNatClampNeg ((61 * x0) + x1))) 0 then 47 else 18) [some (.ref 63), some (.int x0), some (.int x1), some (.int x2), some (.int ((61 * x0) + x1))] [] (hMm c0 m_s m_kp m_as m_ik m_fo m_tl m_tr m_fa m_od m_rc m_be m_ft m_tp m_td m_tk m_bg m_en m_vl m_sg m_wi m_si m_ce m_ca) rfl ?_
  suffices hk : hX (gO LL xs) (D + 0) zR_160 47 [some (.ref 63), some (.int x0), some (.int x1), some (.int x2), some (.int ((61 * x0) + x1))] [] (hMm c0 m_s m_kp m_as m_ik m_fo m_tl m_tr (bif gCmp .ge (m_fa (Int32.toNatClampNeg ((61 * x0) + x1))) 0 then m_fa else (upd m_fa (Int32.toNatClampNeg ((61 * x0) + x1)) x2)) (bif gCmp .ge (m_fa (Int32.toNatClampNeg ((61 * x0) + x1))) 0 then m_od else (upd m_od (Int32.toNatClampNeg m_rc) ((61 * x0) + x1))) (bif gCmp .ge (m_fa (Int32.toNatClampNeg ((61 * x0) + x1))) 0 then m_rc else (m_rc + 1)) m_be m_ft m_tp m_td m_tk m_bg m_en m_vl m_sg m_wi m_si m_ce m_ca) none (hMm c0 m_s m_kp m_as m_ik m_fo m_tl m_tr (f_160_63_m_fa x0 x1 x2 m_fa) (f_160_63_m_od x0 x1 m_fa m_od m_rc) (f_160_63_m_rc x0 x1 m_fa m_rc) m_be m_ft m_tp m_td m_tk m_bg m_en m_vl m_sg m_wi m_si m_ce m_ca) by
    refine hX_if (gCmp .ge (m_fa (Int32.toNatClampNeg ((61 * x0) + x1))) 0) (fun c1 => ?_) (fun c1 => ?_)
    · skip
      have hk := hk
      simp only [c1, cond_true, cond_false] at hk
      first | exact hk | (simp only [c1, cond_true, cond_false]; exact hk)
    · skip
      refine hX_go 4 (25) [some (.ref 63), some (.int x0), some (.int x1), some (.int x2), some (.int ((61 * x0) + x1))] [.int x2, .int ((61 * x0) + x1), .ref 68] (hMm c0 m_s m_kp m_as m_ik m_fo m_tl m_tr m_fa m_od m_rc m_be m_ft m_tp m_td m_tk m_bg m_en m_vl m_sg m_wi m_si m_ce m_ca) rfl ?_
      refine hX_g (gIn ((61 * x0) + x1) 3721) 26 [some (.ref 63), some (.int x0), some (.int x1), some (.int x2), some (.int ((61 * x0) + x1))] [] (hMm c0 m_s m_kp m_as m_ik m_fo m_tl m_tr (upd m_fa (Int32.toNatClampNeg ((61 * x0) + x1)) x2) m_od m_rc m_be m_ft m_tp m_td m_tk m_bg m_en m_vl m_sg m_wi m_si m_ce m_ca) rfl o1 ?_
      refine hX_go 5 (36) [some (.ref 63), some (.int x0), some (.int x1), some (.int x2), some (.int ((61 * x0) + x1))] [.int ((61 * x0) + x1), .int m_rc, .ref 69] (hMm c0 m_s m_kp m_as m_ik m_fo m_tl m_tr (upd m_fa (Int32.toNatClampNeg ((61 * x0) + x1)) x2) m_od m_rc m_be m_ft m_tp m_td m_tk m_bg m_en m_vl m_sg m_wi m_si m_ce m_ca) rfl ?_
      refine hX_g (gIn m_rc 3721) 37 [some (.ref 63), some (.int x0), some (.int x1), some (.int x2), some (.int ((61 * x0) + x1))] [] (hMm c0 m_s m_kp m_as m_ik m_fo m_tl m_tr (upd m_fa (Int32.toNatClampNeg ((61 * x0) + x1)) x2) (upd m_od (Int32.toNatClampNeg m_rc) ((61 * x0) + x1)) m_rc m_be m_ft m_tp m_td m_tk m_bg m_en m_vl m_sg m_wi m_si m_ce m_ca) rfl (o2 c1) ?_
      refine hX_go 6 (47) [some (.ref 63), some (.int x0), some (.int x1), some (.int x2), some (.int ((61 * x0) + x1))] [] (hMm c0 m_s m_kp m_as m_ik m_fo m_tl m_tr (upd m_fa (Int32.toNatClampNeg ((61 * x0) + x1)) x2) (upd m_od (Int32.toNatClampNeg m_rc) ((61 * x0) + x1)) (m_rc + 1) m_be m_ft m_tp m_td m_tk m_bg m_en m_vl m_sg m_wi m_si m_ce m_ca) rfl ?_
      have hk := hk
      simp only [c1, cond_true, cond_false] at hk
      first | exact hk | (simp only [c1, cond_true, cond_false]; exact hk)
  exact hX_end rfl (rfl) (rfl)

/-- UpOneSideModel.doesMends(I)V -/
def f_167_63_m_s (x0 : Int32) (m_s : Nat → Int32) : Nat → Int32 := upd (upd (upd (upd m_s 6 (bif gCmp .eq (v_128 x0 0) 0 then (m_s 6) else 0)) 5 (bif gCmp .eq (v_128 x0 1) 0 then ((upd m_s 6 (bif gCmp .eq (v_128 x0 0) 0 then (m_s 6) else 0)) 5) else 0)) 7 (bif gCmp .eq (v_128 x0 2) 0 then ((upd (upd m_s 6 (bif gCmp .eq (v_128 x0 0) 0 then (m_s 6) else 0)) 5 (bif gCmp .eq (v_128 x0 1) 0 then ((upd m_s 6 (bif gCmp .eq (v_128 x0 0) 0 then (m_s 6) else 0)) 5) else 0)) 7) else 0)) 8 (bif gCmp .eq (v_128 x0 3) 0 then ((upd (upd (upd m_s 6 (bif gCmp .eq (v_128 x0 0) 0 then (m_s 6) else 0)) 5 (bif gCmp .eq (v_128 x0 1) 0 then ((upd m_s 6 (bif gCmp .eq (v_128 x0 0) 0 then (m_s 6) else 0)) 5) else 0)) 7 (bif gCmp .eq (v_128 x0 2) 0 then ((upd (upd m_s 6 (bif gCmp .eq (v_128 x0 0) 0 then (m_s 6) else 0)) 5 (bif gCmp .eq (v_128 x0 1) 0 then ((upd m_s 6 (bif gCmp .eq (v_128 x0 0) 0 then (m_s 6) else 0)) 5) else 0)) 7) else 0)) 8) else 60)
set_option maxRecDepth 20000 in
set_option maxHeartbeats 1000000 in
theorem ct_167_63 {LL : Nat} {xs : Nat → Int32} {D : Nat} {c0 : Nat → gE} {m_s : Nat → Int32} {m_kp : Nat → Int32} {m_as : Nat → Int32} {m_ik : Int32} {m_fo : Nat → Int32} {m_tl : Int32} {m_tr : Int32} {m_fa : Nat → Int32} {m_od : Nat → Int32} {m_rc : Int32} {m_be : Nat → Int32} {m_ft : Int32} {m_tp : Nat → Int32} {m_td : Int32} {m_tk : Int32} {m_bg : Int32} {m_en : Int32} {m_vl : Int64} {m_sg : Int32} {m_wi : Nat → Int32} {m_si : Nat → Int32} {m_ce : Nat → Int32} {m_ca : Nat → Int32} (x0 : Int32) : hM (gO LL xs) (D + 1) zR_167 [.ref 63, .int x0] (hMm c0 m_s m_kp m_as m_ik m_fo m_tl m_tr m_fa m_od m_rc m_be m_ft m_tp m_td m_tk m_bg m_en m_vl m_sg m_wi m_si m_ce m_ca) none (hMm c0 (f_167_63_m_s x0 m_s) m_kp m_as m_ik m_fo m_tl m_tr m_fa m_od m_rc m_be m_ft m_tp m_td m_tk m_bg m_en m_vl m_sg m_wi m_si m_ce m_ca) := by
  refine hX_go 0 0 [some (.ref 63), some (.int x0)] [] (hMm c0 m_s m_kp m_as m_ik m_fo m_tl m_tr m_fa m_od m_rc m_be m_ft m_tp m_td m_tk m_bg m_en m_vl m_sg m_wi m_si m_ce m_ca) rfl ?_
  refine hX_go 5 (8) [some (.ref 63), some (.int x0)] [.int 0, .int x0, .int 6, .ref 64] (hMm c0 m_s m_kp m_as m_ik m_fo m_tl m_tr m_fa m_od m_rc m_be m_ft m_tp m_td m_tk m_bg m_en m_vl m_sg m_wi m_si m_ce m_ca) rfl ?_
  refine hX_call (r' := zR_128) rfl (ct_128 x0 0) ?_
  refine hX_go 1 (bif gCmp .eq (v_128 x0 0) 0 then 18 else 14) [some (.ref 63), some (.int x0)] [.int 6, .ref 64] (hMm c0 m_s m_kp m_as m_ik m_fo m_tl m_tr m_fa m_od m_rc m_be m_ft m_tp m_td m_tk m_bg m_en m_vl m_sg m_wi m_si m_ce m_ca) rfl ?_
  suffices hk : hX (gO LL xs) (D + 1) zR_167 25 [some (.ref 63), some (.int x0)] [.int (bif gCmp .eq (v_128 x0 0) 0 then (m_s 6) else 0), .int 6, .ref 64] (hMm c0 m_s m_kp m_as m_ik m_fo m_tl m_tr m_fa m_od m_rc m_be m_ft m_tp m_td m_tk m_bg m_en m_vl m_sg m_wi m_si m_ce m_ca) none (hMm c0 (f_167_63_m_s x0 m_s) m_kp m_as m_ik m_fo m_tl m_tr m_fa m_od m_rc m_be m_ft m_tp m_td m_tk m_bg m_en m_vl m_sg m_wi m_si m_ce m_ca) by
    refine hX_if (gCmp .eq (v_128 x0 0) 0) (fun c1 => ?_) (fun c1 => ?_)
    · skip
      refine hX_go 4 (25) [some (.ref 63), some (.int x0)] [.int (m_s 6), .int 6, .ref 64] (hMm c0 m_s m_kp m_as m_ik m_fo m_tl m_tr m_fa m_od m_rc m_be m_ft m_tp m_td m_tk m_bg m_en m_vl m_sg m_wi m_si m_ce m_ca) rfl ?_
      have hk := hk
      simp only [c1, cond_true, cond_false] at hk
      first | exact hk | (simp only [c1, cond_true, cond_false]; exact hk)
    · skip
      refine hX_go 2 (25) [some (.ref 63), some (.int x0)] [.int 0, .int 6, .ref 64] (hMm c0 m_s m_kp m_as m_ik m_fo m_tl m_tr m_fa m_od m_rc m_be m_ft m_tp m_td m_tk m_bg m_en m_vl m_sg m_wi m_si m_ce m_ca) rfl ?_
      have hk := hk
      simp only [c1, cond_true, cond_false] at hk
      first | exact hk | (simp only [c1, cond_true, cond_false]; exact hk)
  refine hX_go 6 (33) [some (.ref 63), some (.int x0)] [.int 1, .int x0, .int 5, .ref 64] (hMm c0 (upd m_s 6 (bif gCmp .eq (v_128 x0 0) 0 then (m_s 6) else 0)) m_kp m_as m_ik m_fo m_tl m_tr m_fa m_od m_rc m_be m_ft m_tp m_td m_tk m_bg m_en m_vl m_sg m_wi m_si m_ce m_ca) rfl ?_
  refine hX_call (r' := zR_128) rfl (ct_128 x0 1) ?_
  refine hX_go 1 (bif gCmp .eq (v_128 x0 1) 0 then 43 else 39) [some (.ref 63), some (.int x0)] [.int 5, .ref 64] (hMm c0 (upd m_s 6 (bif gCmp .eq (v_128 x0 0) 0 then (m_s 6) else 0)) m_kp m_as m_ik m_fo m_tl m_tr m_fa m_od m_rc m_be m_ft m_tp m_td m_tk m_bg m_en m_vl m_sg m_wi m_si m_ce m_ca) rfl ?_
  suffices hk : hX (gO LL xs) (D + 1) zR_167 49 [some (.ref 63), some (.int x0)] [.int (bif gCmp .eq (v_128 x0 1) 0 then ((upd m_s 6 (bif gCmp .eq (v_128 x0 0) 0 then (m_s 6) else 0)) 5) else 0), .int 5, .ref 64] (hMm c0 (upd m_s 6 (bif gCmp .eq (v_128 x0 0) 0 then (m_s 6) else 0)) m_kp m_as m_ik m_fo m_tl m_tr m_fa m_od m_rc m_be m_ft m_tp m_td m_tk m_bg m_en m_vl m_sg m_wi m_si m_ce m_ca) none (hMm c0 (f_167_63_m_s x0 m_s) m_kp m_as m_ik m_fo m_tl m_tr m_fa m_od m_rc m_be m_ft m_tp m_td m_tk m_bg m_en m_vl m_sg m_wi m_si m_ce m_ca) by
    refine hX_if (gCmp .eq (v_128 x0 1) 0) (fun c2 => ?_) (fun c2 => ?_)
    · skip
      refine hX_go 4 (49) [some (.ref 63), some (.int x0)] [.int ((upd m_s 6 (bif gCmp .eq (v_128 x0 0) 0 then (m_s 6) else 0)) 5), .int 5, .ref 64] (hMm c0 (upd m_s 6 (bif gCmp .eq (v_128 x0 0) 0 then (m_s 6) else 0)) m_kp m_as m_ik m_fo m_tl m_tr m_fa m_od m_rc m_be m_ft m_tp m_td m_tk m_bg m_en m_vl m_sg m_wi m_si m_ce m_ca) rfl ?_
      have hk := hk
      simp only [c2, cond_true, cond_false] at hk
      first | exact hk | (simp only [c2, cond_true, cond_false]; exact hk)
    · skip
      refine hX_go 2 (49) [some (.ref 63), some (.int x0)] [.int 0, .int 5, .ref 64] (hMm c0 (upd m_s 6 (bif gCmp .eq (v_128 x0 0) 0 then (m_s 6) else 0)) m_kp m_as m_ik m_fo m_tl m_tr m_fa m_od m_rc m_be m_ft m_tp m_td m_tk m_bg m_en m_vl m_sg m_wi m_si m_ce m_ca) rfl ?_
      have hk := hk
      simp only [c2, cond_true, cond_false] at hk
      first | exact hk | (simp only [c2, cond_true, cond_false]; exact hk)
  refine hX_go 6 (58) [some (.ref 63), some (.int x0)] [.int 2, .int x0, .int 7, .ref 64] (hMm c0 (upd (upd m_s 6 (bif gCmp .eq (v_128 x0 0) 0 then (m_s 6) else 0)) 5 (bif gCmp .eq (v_128 x0 1) 0 then ((upd m_s 6 (bif gCmp .eq (v_128 x0 0) 0 then (m_s 6) else 0)) 5) else 0)) m_kp m_as m_ik m_fo m_tl m_tr m_fa m_od m_rc m_be m_ft m_tp m_td m_tk m_bg m_en m_vl m_sg m_wi m_si m_ce m_ca) rfl ?_
  refine hX_call (r' := zR_128) rfl (ct_128 x0 2) ?_
  refine hX_go 1 (bif gCmp .eq (v_128 x0 2) 0 then 68 else 64) [some (.ref 63), some (.int x0)] [.int 7, .ref 64] (hMm c0 (upd (upd m_s 6 (bif gCmp .eq (v_128 x0 0) 0 then (m_s 6) else 0)) 5 (bif gCmp .eq (v_128 x0 1) 0 then ((upd m_s 6 (bif gCmp .eq (v_128 x0 0) 0 then (m_s 6) else 0)) 5) else 0)) m_kp m_as m_ik m_fo m_tl m_tr m_fa m_od m_rc m_be m_ft m_tp m_td m_tk m_bg m_en m_vl m_sg m_wi m_si m_ce m_ca) rfl ?_
  suffices hk : hX (gO LL xs) (D + 1) zR_167 75 [some (.ref 63), some (.int x0)] [.int (bif gCmp .eq (v_128 x0 2) 0 then ((upd (upd m_s 6 (bif gCmp .eq (v_128 x0 0) 0 then (m_s 6) else 0)) 5 (bif gCmp .eq (v_128 x0 1) 0 then ((upd m_s 6 (bif gCmp .eq (v_128 x0 0) 0 then (m_s 6) else 0)) 5) else 0)) 7) else 0), .int 7, .ref 64] (hMm c0 (upd (upd m_s 6 (bif gCmp .eq (v_128 x0 0) 0 then (m_s 6) else 0)) 5 (bif gCmp .eq (v_128 x0 1) 0 then ((upd m_s 6 (bif gCmp .eq (v_128 x0 0) 0 then (m_s 6) else 0)) 5) else 0)) m_kp m_as m_ik m_fo m_tl m_tr m_fa m_od m_rc m_be m_ft m_tp m_td m_tk m_bg m_en m_vl m_sg m_wi m_si m_ce m_ca) none (hMm c0 (f_167_63_m_s x0 m_s) m_kp m_as m_ik m_fo m_tl m_tr m_fa m_od m_rc m_be m_ft m_tp m_td m_tk m_bg m_en m_vl m_sg m_wi m_si m_ce m_ca) by
    refine hX_if (gCmp .eq (v_128 x0 2) 0) (fun c3 => ?_) (fun c3 => ?_)
    · skip
      refine hX_go 4 (75) [some (.ref 63), some (.int x0)] [.int ((upd (upd m_s 6 (bif gCmp .eq (v_128 x0 0) 0 then (m_s 6) else 0)) 5 (bif gCmp .eq (v_128 x0 1) 0 then ((upd m_s 6 (bif gCmp .eq (v_128 x0 0) 0 then (m_s 6) else 0)) 5) else 0)) 7), .int 7, .ref 64] (hMm c0 (upd (upd m_s 6 (bif gCmp .eq (v_128 x0 0) 0 then (m_s 6) else 0)) 5 (bif gCmp .eq (v_128 x0 1) 0 then ((upd m_s 6 (bif gCmp .eq (v_128 x0 0) 0 then (m_s 6) else 0)) 5) else 0)) m_kp m_as m_ik m_fo m_tl m_tr m_fa m_od m_rc m_be m_ft m_tp m_td m_tk m_bg m_en m_vl m_sg m_wi m_si m_ce m_ca) rfl ?_
      have hk := hk
      simp only [c3, cond_true, cond_false] at hk
      first | exact hk | (simp only [c3, cond_true, cond_false]; exact hk)
    · skip
      refine hX_go 2 (75) [some (.ref 63), some (.int x0)] [.int 0, .int 7, .ref 64] (hMm c0 (upd (upd m_s 6 (bif gCmp .eq (v_128 x0 0) 0 then (m_s 6) else 0)) 5 (bif gCmp .eq (v_128 x0 1) 0 then ((upd m_s 6 (bif gCmp .eq (v_128 x0 0) 0 then (m_s 6) else 0)) 5) else 0)) m_kp m_as m_ik m_fo m_tl m_tr m_fa m_od m_rc m_be m_ft m_tp m_td m_tk m_bg m_en m_vl m_sg m_wi m_si m_ce m_ca) rfl ?_
      have hk := hk
      simp only [c3, cond_true, cond_false] at hk
      first | exact hk | (simp only [c3, cond_true, cond_false]; exact hk)
  refine hX_go 6 (84) [some (.ref 63), some (.int x0)] [.int 3, .int x0, .int 8, .ref 64] (hMm c0 (upd (upd (upd m_s 6 (bif gCmp .eq (v_128 x0 0) 0 then (m_s 6) else 0)) 5 (bif gCmp .eq (v_128 x0 1) 0 then ((upd m_s 6 (bif gCmp .eq (v_128 x0 0) 0 then (m_s 6) else 0)) 5) else 0)) 7 (bif gCmp .eq (v_128 x0 2) 0 then ((upd (upd m_s 6 (bif gCmp .eq (v_128 x0 0) 0 then (m_s 6) else 0)) 5 (bif gCmp .eq (v_128 x0 1) 0 then ((upd m_s 6 (bif gCmp .eq (v_128 x0 0) 0 then (m_s 6) else 0)) 5) else 0)) 7) else 0)) m_kp m_as m_ik m_fo m_tl m_tr m_fa m_od m_rc m_be m_ft m_tp m_td m_tk m_bg m_en m_vl m_sg m_wi m_si m_ce m_ca) rfl ?_
  refine hX_call (r' := zR_128) rfl (ct_128 x0 3) ?_
  refine hX_go 1 (bif gCmp .eq (v_128 x0 3) 0 then 95 else 90) [some (.ref 63), some (.int x0)] [.int 8, .ref 64] (hMm c0 (upd (upd (upd m_s 6 (bif gCmp .eq (v_128 x0 0) 0 then (m_s 6) else 0)) 5 (bif gCmp .eq (v_128 x0 1) 0 then ((upd m_s 6 (bif gCmp .eq (v_128 x0 0) 0 then (m_s 6) else 0)) 5) else 0)) 7 (bif gCmp .eq (v_128 x0 2) 0 then ((upd (upd m_s 6 (bif gCmp .eq (v_128 x0 0) 0 then (m_s 6) else 0)) 5 (bif gCmp .eq (v_128 x0 1) 0 then ((upd m_s 6 (bif gCmp .eq (v_128 x0 0) 0 then (m_s 6) else 0)) 5) else 0)) 7) else 0)) m_kp m_as m_ik m_fo m_tl m_tr m_fa m_od m_rc m_be m_ft m_tp m_td m_tk m_bg m_en m_vl m_sg m_wi m_si m_ce m_ca) rfl ?_
  suffices hk : hX (gO LL xs) (D + 1) zR_167 102 [some (.ref 63), some (.int x0)] [.int (bif gCmp .eq (v_128 x0 3) 0 then ((upd (upd (upd m_s 6 (bif gCmp .eq (v_128 x0 0) 0 then (m_s 6) else 0)) 5 (bif gCmp .eq (v_128 x0 1) 0 then ((upd m_s 6 (bif gCmp .eq (v_128 x0 0) 0 then (m_s 6) else 0)) 5) else 0)) 7 (bif gCmp .eq (v_128 x0 2) 0 then ((upd (upd m_s 6 (bif gCmp .eq (v_128 x0 0) 0 then (m_s 6) else 0)) 5 (bif gCmp .eq (v_128 x0 1) 0 then ((upd m_s 6 (bif gCmp .eq (v_128 x0 0) 0 then (m_s 6) else 0)) 5) else 0)) 7) else 0)) 8) else 60), .int 8, .ref 64] (hMm c0 (upd (upd (upd m_s 6 (bif gCmp .eq (v_128 x0 0) 0 then (m_s 6) else 0)) 5 (bif gCmp .eq (v_128 x0 1) 0 then ((upd m_s 6 (bif gCmp .eq (v_128 x0 0) 0 then (m_s 6) else 0)) 5) else 0)) 7 (bif gCmp .eq (v_128 x0 2) 0 then ((upd (upd m_s 6 (bif gCmp .eq (v_128 x0 0) 0 then (m_s 6) else 0)) 5 (bif gCmp .eq (v_128 x0 1) 0 then ((upd m_s 6 (bif gCmp .eq (v_128 x0 0) 0 then (m_s 6) else 0)) 5) else 0)) 7) else 0)) m_kp m_as m_ik m_fo m_tl m_tr m_fa m_od m_rc m_be m_ft m_tp m_td m_tk m_bg m_en m_vl m_sg m_wi m_si m_ce m_ca) none (hMm c0 (f_167_63_m_s x0 m_s) m_kp m_as m_ik m_fo m_tl m_tr m_fa m_od m_rc m_be m_ft m_tp m_td m_tk m_bg m_en m_vl m_sg m_wi m_si m_ce m_ca) by
    refine hX_if (gCmp .eq (v_128 x0 3) 0) (fun c4 => ?_) (fun c4 => ?_)
    · skip
      refine hX_go 4 (102) [some (.ref 63), some (.int x0)] [.int ((upd (upd (upd m_s 6 (bif gCmp .eq (v_128 x0 0) 0 then (m_s 6) else 0)) 5 (bif gCmp .eq (v_128 x0 1) 0 then ((upd m_s 6 (bif gCmp .eq (v_128 x0 0) 0 then (m_s 6) else 0)) 5) else 0)) 7 (bif gCmp .eq (v_128 x0 2) 0 then ((upd (upd m_s 6 (bif gCmp .eq (v_128 x0 0) 0 then (m_s 6) else 0)) 5 (bif gCmp .eq (v_128 x0 1) 0 then ((upd m_s 6 (bif gCmp .eq (v_128 x0 0) 0 then (m_s 6) else 0)) 5) else 0)) 7) else 0)) 8), .int 8, .ref 64] (hMm c0 (upd (upd (upd m_s 6 (bif gCmp .eq (v_128 x0 0) 0 then (m_s 6) else 0)) 5 (bif gCmp .eq (v_128 x0 1) 0 then ((upd m_s 6 (bif gCmp .eq (v_128 x0 0) 0 then (m_s 6) else 0)) 5) else 0)) 7 (bif gCmp .eq (v_128 x0 2) 0 then ((upd (upd m_s 6 (bif gCmp .eq (v_128 x0 0) 0 then (m_s 6) else 0)) 5 (bif gCmp .eq (v_128 x0 1) 0 then ((upd m_s 6 (bif gCmp .eq (v_128 x0 0) 0 then (m_s 6) else 0)) 5) else 0)) 7) else 0)) m_kp m_as m_ik m_fo m_tl m_tr m_fa m_od m_rc m_be m_ft m_tp m_td m_tk m_bg m_en m_vl m_sg m_wi m_si m_ce m_ca) rfl ?_
      have hk := hk
      simp only [c4, cond_true, cond_false] at hk
      first | exact hk | (simp only [c4, cond_true, cond_false]; exact hk)
    · skip
      refine hX_go 2 (102) [some (.ref 63), some (.int x0)] [.int 60, .int 8, .ref 64] (hMm c0 (upd (upd (upd m_s 6 (bif gCmp .eq (v_128 x0 0) 0 then (m_s 6) else 0)) 5 (bif gCmp .eq (v_128 x0 1) 0 then ((upd m_s 6 (bif gCmp .eq (v_128 x0 0) 0 then (m_s 6) else 0)) 5) else 0)) 7 (bif gCmp .eq (v_128 x0 2) 0 then ((upd (upd m_s 6 (bif gCmp .eq (v_128 x0 0) 0 then (m_s 6) else 0)) 5 (bif gCmp .eq (v_128 x0 1) 0 then ((upd m_s 6 (bif gCmp .eq (v_128 x0 0) 0 then (m_s 6) else 0)) 5) else 0)) 7) else 0)) m_kp m_as m_ik m_fo m_tl m_tr m_fa m_od m_rc m_be m_ft m_tp m_td m_tk m_bg m_en m_vl m_sg m_wi m_si m_ce m_ca) rfl ?_
      have hk := hk
      simp only [c4, cond_true, cond_false] at hk
      first | exact hk | (simp only [c4, cond_true, cond_false]; exact hk)
  refine hX_go 1 (103) [some (.ref 63), some (.int x0)] [] (hMm c0 (upd (upd (upd (upd m_s 6 (bif gCmp .eq (v_128 x0 0) 0 then (m_s 6) else 0)) 5 (bif gCmp .eq (v_128 x0 1) 0 then ((upd m_s 6 (bif gCmp .eq (v_128 x0 0) 0 then (m_s 6) else 0)) 5) else 0)) 7 (bif gCmp .eq (v_128 x0 2) 0 then ((upd (upd m_s 6 (bif gCmp .eq (v_128 x0 0) 0 then (m_s 6) else 0)) 5 (bif gCmp .eq (v_128 x0 1) 0 then ((upd m_s 6 (bif gCmp .eq (v_128 x0 0) 0 then (m_s 6) else 0)) 5) else 0)) 7) else 0)) 8 (bif gCmp .eq (v_128 x0 3) 0 then ((upd (upd (upd m_s 6 (bif gCmp .eq (v_128 x0 0) 0 then (m_s 6) else 0)) 5 (bif gCmp .eq (v_128 x0 1) 0 then ((upd m_s 6 (bif gCmp .eq (v_128 x0 0) 0 then (m_s 6) else 0)) 5) else 0)) 7 (bif gCmp .eq (v_128 x0 2) 0 then ((upd (upd m_s 6 (bif gCmp .eq (v_128 x0 0) 0 then (m_s 6) else 0)) 5 (bif gCmp .eq (v_128 x0 1) 0 then ((upd m_s 6 (bif gCmp .eq (v_128 x0 0) 0 then (m_s 6) else 0)) 5) else 0)) 7) else 0)) 8) else 60)) m_kp m_as m_ik m_fo m_tl m_tr m_fa m_od m_rc m_be m_ft m_tp m_td m_tk m_bg m_en m_vl m_sg m_wi m_si m_ce m_ca) rfl ?_
  exact hX_end rfl (rfl) (rfl)

/-- UpOneSideModel.isAsked(III)Z -/
def v_169_63 (x0 : Int32) (x1 : Int32) (x2 : Int32) (m_s : Nat → Int32) : Int32 := bif gCmp .eq (v_129_63 x0 m_s) 0 then 0 else (bif gCmp .eq (v_125 x1 0 20) 0 then 0 else (bif gCmp .eq (v_130 x2) 0 then 0 else 1))
set_option maxRecDepth 20000 in
set_option maxHeartbeats 1000000 in
theorem ct_169_63 {LL : Nat} {xs : Nat → Int32} {D : Nat} {c0 : Nat → gE} {m_s : Nat → Int32} {m_kp : Nat → Int32} {m_as : Nat → Int32} {m_ik : Int32} {m_fo : Nat → Int32} {m_tl : Int32} {m_tr : Int32} {m_fa : Nat → Int32} {m_od : Nat → Int32} {m_rc : Int32} {m_be : Nat → Int32} {m_ft : Int32} {m_tp : Nat → Int32} {m_td : Int32} {m_tk : Int32} {m_bg : Int32} {m_en : Int32} {m_vl : Int64} {m_sg : Int32} {m_wi : Nat → Int32} {m_si : Nat → Int32} {m_ce : Nat → Int32} {m_ca : Nat → Int32} (x0 : Int32) (x1 : Int32) (x2 : Int32) : hM (gO LL xs) (D + 2) zR_169 [.ref 63, .int x0, .int x1, .int x2] (hMm c0 m_s m_kp m_as m_ik m_fo m_tl m_tr m_fa m_od m_rc m_be m_ft m_tp m_td m_tk m_bg m_en m_vl m_sg m_wi m_si m_ce m_ca) (some (.int (v_169_63 x0 x1 x2 m_s))) (hMm c0 m_s m_kp m_as m_ik m_fo m_tl m_tr m_fa m_od m_rc m_be m_ft m_tp m_td m_tk m_bg m_en m_vl m_sg m_wi m_si m_ce m_ca) := by
  refine hX_go 0 0 [some (.ref 63), some (.int x0), some (.int x1), some (.int x2)] [] (hMm c0 m_s m_kp m_as m_ik m_fo m_tl m_tr m_fa m_od m_rc m_be m_ft m_tp m_td m_tk m_bg m_en m_vl m_sg m_wi m_si m_ce m_ca) rfl ?_
  refine hX_go 2 (2) [some (.ref 63), some (.int x0), some (.int x1), some (.int x2)] [.int x0, .ref 63] (hMm c0 m_s m_kp m_as m_ik m_fo m_tl m_tr m_fa m_od m_rc m_be m_ft m_tp m_td m_tk m_bg m_en m_vl m_sg m_wi m_si m_ce m_ca) rfl ?_
  refine hX_call (r' := zR_129) rfl (ct_129_63 x0) ?_
  refine hX_go 1 (bif gCmp .eq (v_129_63 x0 m_s) 0 then 29 else 8) [some (.ref 63), some (.int x0), some (.int x1), some (.int x2)] [] (hMm c0 m_s m_kp m_as m_ik m_fo m_tl m_tr m_fa m_od m_rc m_be m_ft m_tp m_td m_tk m_bg m_en m_vl m_sg m_wi m_si m_ce m_ca) rfl ?_
  refine hX_if (gCmp .eq (v_129_63 x0 m_s) 0) (fun c1 => ?_) (fun c1 => ?_)
  · skip
    refine hX_go 1 (30) [some (.ref 63), some (.int x0), some (.int x1), some (.int x2)] [.int 0] (hMm c0 m_s m_kp m_as m_ik m_fo m_tl m_tr m_fa m_od m_rc m_be m_ft m_tp m_td m_tk m_bg m_en m_vl m_sg m_wi m_si m_ce m_ca) rfl ?_
    exact hX_end rfl (by unfold v_169_63; rw [c1]; rfl) (rfl)
  · skip
    refine hX_go 3 (12) [some (.ref 63), some (.int x0), some (.int x1), some (.int x2)] [.int 20, .int 0, .int x1] (hMm c0 m_s m_kp m_as m_ik m_fo m_tl m_tr m_fa m_od m_rc m_be m_ft m_tp m_td m_tk m_bg m_en m_vl m_sg m_wi m_si m_ce m_ca) rfl ?_
    refine hX_call (r' := zR_125) rfl (ct_125 x1 0 20) ?_
    refine hX_go 1 (bif gCmp .eq (v_125 x1 0 20) 0 then 29 else 18) [some (.ref 63), some (.int x0), some (.int x1), some (.int x2)] [] (hMm c0 m_s m_kp m_as m_ik m_fo m_tl m_tr m_fa m_od m_rc m_be m_ft m_tp m_td m_tk m_bg m_en m_vl m_sg m_wi m_si m_ce m_ca) rfl ?_
    refine hX_if (gCmp .eq (v_125 x1 0 20) 0) (fun c2 => ?_) (fun c2 => ?_)
    · skip
      refine hX_go 1 (30) [some (.ref 63), some (.int x0), some (.int x1), some (.int x2)] [.int 0] (hMm c0 m_s m_kp m_as m_ik m_fo m_tl m_tr m_fa m_od m_rc m_be m_ft m_tp m_td m_tk m_bg m_en m_vl m_sg m_wi m_si m_ce m_ca) rfl ?_
      exact hX_end rfl (by unfold v_169_63; rw [c1, c2]; rfl) (rfl)
    · skip
      refine hX_go 1 (19) [some (.ref 63), some (.int x0), some (.int x1), some (.int x2)] [.int x2] (hMm c0 m_s m_kp m_as m_ik m_fo m_tl m_tr m_fa m_od m_rc m_be m_ft m_tp m_td m_tk m_bg m_en m_vl m_sg m_wi m_si m_ce m_ca) rfl ?_
      refine hX_call (r' := zR_130) rfl (ct_130 x2) ?_
      refine hX_go 1 (bif gCmp .eq (v_130 x2) 0 then 29 else 25) [some (.ref 63), some (.int x0), some (.int x1), some (.int x2)] [] (hMm c0 m_s m_kp m_as m_ik m_fo m_tl m_tr m_fa m_od m_rc m_be m_ft m_tp m_td m_tk m_bg m_en m_vl m_sg m_wi m_si m_ce m_ca) rfl ?_
      refine hX_if (gCmp .eq (v_130 x2) 0) (fun c3 => ?_) (fun c3 => ?_)
      · skip
        refine hX_go 1 (30) [some (.ref 63), some (.int x0), some (.int x1), some (.int x2)] [.int 0] (hMm c0 m_s m_kp m_as m_ik m_fo m_tl m_tr m_fa m_od m_rc m_be m_ft m_tp m_td m_tk m_bg m_en m_vl m_sg m_wi m_si m_ce m_ca) rfl ?_
        exact hX_end rfl (by unfold v_169_63; rw [c1, c2, c3]; rfl) (rfl)
      · skip
        refine hX_go 2 (30) [some (.ref 63), some (.int x0), some (.int x1), some (.int x2)] [.int 1] (hMm c0 m_s m_kp m_as m_ik m_fo m_tl m_tr m_fa m_od m_rc m_be m_ft m_tp m_td m_tk m_bg m_en m_vl m_sg m_wi m_si m_ce m_ca) rfl ?_
        exact hX_end rfl (by unfold v_169_63; rw [c1, c2, c3]; rfl) (rfl)

theorem bz_169_63 (x0 : Int32) (x1 : Int32) (x2 : Int32) (m_s : Nat → Int32) : (decide (v_169_63 x0 x1 x2 m_s = 0) || decide (v_169_63 x0 x1 x2 m_s = 1)) = true := by
  unfold v_169_63
  cases (gCmp .eq (v_129_63 x0 m_s) 0)
  · cases (gCmp .eq (v_125 x1 0 20) 0)
    · cases (gCmp .eq (v_130 x2) 0)
      · rfl
      · rfl
    · rfl
  · rfl

/-- UpOneSideModel.isHour(I)Z -/
def v_173 (x0 : Int32) : Int32 := v_125 x0 0 23
set_option maxRecDepth 20000 in
set_option maxHeartbeats 1000000 in
theorem ct_173 {LL : Nat} {xs : Nat → Int32} {D : Nat} {c0 : Nat → gE} {m_s : Nat → Int32} {m_kp : Nat → Int32} {m_as : Nat → Int32} {m_ik : Int32} {m_fo : Nat → Int32} {m_tl : Int32} {m_tr : Int32} {m_fa : Nat → Int32} {m_od : Nat → Int32} {m_rc : Int32} {m_be : Nat → Int32} {m_ft : Int32} {m_tp : Nat → Int32} {m_td : Int32} {m_tk : Int32} {m_bg : Int32} {m_en : Int32} {m_vl : Int64} {m_sg : Int32} {m_wi : Nat → Int32} {m_si : Nat → Int32} {m_ce : Nat → Int32} {m_ca : Nat → Int32} (x0 : Int32) : hM (gO LL xs) (D + 1) zR_173 [.int x0] (hMm c0 m_s m_kp m_as m_ik m_fo m_tl m_tr m_fa m_od m_rc m_be m_ft m_tp m_td m_tk m_bg m_en m_vl m_sg m_wi m_si m_ce m_ca) (some (.int (v_173 x0))) (hMm c0 m_s m_kp m_as m_ik m_fo m_tl m_tr m_fa m_od m_rc m_be m_ft m_tp m_td m_tk m_bg m_en m_vl m_sg m_wi m_si m_ce m_ca) := by
  refine hX_go 0 0 [some (.int x0)] [] (hMm c0 m_s m_kp m_as m_ik m_fo m_tl m_tr m_fa m_od m_rc m_be m_ft m_tp m_td m_tk m_bg m_en m_vl m_sg m_wi m_si m_ce m_ca) rfl ?_
  refine hX_go 3 (4) [some (.int x0)] [.int 23, .int 0, .int x0] (hMm c0 m_s m_kp m_as m_ik m_fo m_tl m_tr m_fa m_od m_rc m_be m_ft m_tp m_td m_tk m_bg m_en m_vl m_sg m_wi m_si m_ce m_ca) rfl ?_
  refine hX_call (r' := zR_125) rfl (ct_125 x0 0 23) ?_
  refine hX_go 0 (7) [some (.int x0)] [.int (v_125 x0 0 23)] (hMm c0 m_s m_kp m_as m_ik m_fo m_tl m_tr m_fa m_od m_rc m_be m_ft m_tp m_td m_tk m_bg m_en m_vl m_sg m_wi m_si m_ce m_ca) rfl ?_
  exact hX_endZ rfl (bz_125 x0 0 23) (rfl) (rfl)

theorem bz_173 (x0 : Int32) : (decide (v_173 x0 = 0) || decide (v_173 x0 = 1)) = true := by
  unfold v_173
  exact (bz_125 x0 0 23)

/-- UpOneSideModel.sun(II)I -/
def v_174_63 (x0 : Int32) (x1 : Int32) (m_s : Nat → Int32) : Int32 := bif gCmp .eq (v_173 x0) 0 then (v_124_63 0) else (bif gCmp .ne (v_130 x1) 0 then (m_s (Int32.toNatClampNeg (100 + x0))) else (v_124_63 0))
def f_174_63_m_s (x0 : Int32) (x1 : Int32) (m_s : Nat → Int32) : Nat → Int32 := bif gCmp .eq (v_173 x0) 0 then m_s else (bif gCmp .ne (v_130 x1) 0 then (upd m_s (Int32.toNatClampNeg (100 + x0)) x1) else m_s)
def f_174_63_m_fo (x0 : Int32) (x1 : Int32) (m_fo : Nat → Int32) : Nat → Int32 := bif gCmp .eq (v_173 x0) 0 then (f_124_63_m_fo 0 m_fo) else (bif gCmp .ne (v_130 x1) 0 then m_fo else (f_124_63_m_fo 0 m_fo))
set_option maxRecDepth 20000 in
set_option maxHeartbeats 1000000 in
theorem ct_174_63 {LL : Nat} {xs : Nat → Int32} {D : Nat} {c0 : Nat → gE} {m_s : Nat → Int32} {m_kp : Nat → Int32} {m_as : Nat → Int32} {m_ik : Int32} {m_fo : Nat → Int32} {m_tl : Int32} {m_tr : Int32} {m_fa : Nat → Int32} {m_od : Nat → Int32} {m_rc : Int32} {m_be : Nat → Int32} {m_ft : Int32} {m_tp : Nat → Int32} {m_td : Int32} {m_tk : Int32} {m_bg : Int32} {m_en : Int32} {m_vl : Int64} {m_sg : Int32} {m_wi : Nat → Int32} {m_si : Nat → Int32} {m_ce : Nat → Int32} {m_ca : Nat → Int32} (x0 : Int32) (x1 : Int32) (o1 : gCmp .eq (v_173 x0) 0 = true → gIn 0 7 = true) (o2 : gCmp .eq (v_173 x0) 0 = false → gCmp .ne (v_130 x1) 0 = true → gIn (100 + x0) 134 = true) (o3 : gCmp .eq (v_173 x0) 0 = false → gCmp .ne (v_130 x1) 0 = false → gIn 0 7 = true) : hM (gO LL xs) (D + 2) zR_174 [.ref 63, .int x0, .int x1] (hMm c0 m_s m_kp m_as m_ik m_fo m_tl m_tr m_fa m_od m_rc m_be m_ft m_tp m_td m_tk m_bg m_en m_vl m_sg m_wi m_si m_ce m_ca) (some (.int (v_174_63 x0 x1 m_s))) (hMm c0 (f_174_63_m_s x0 x1 m_s) m_kp m_as m_ik (f_174_63_m_fo x0 x1 m_fo) m_tl m_tr m_fa m_od m_rc m_be m_ft m_tp m_td m_tk m_bg m_en m_vl m_sg m_wi m_si m_ce m_ca) := by
  refine hX_go 0 0 [some (.ref 63), some (.int x0), some (.int x1), none] [] (hMm c0 m_s m_kp m_as m_ik m_fo m_tl m_tr m_fa m_od m_rc m_be m_ft m_tp m_td m_tk m_bg m_en m_vl m_sg m_wi m_si m_ce m_ca) rfl ?_
  refine hX_go 1 (1) [some (.ref 63), some (.int x0), some (.int x1), none] [.int x0] (hMm c0 m_s m_kp m_as m_ik m_fo m_tl m_tr m_fa m_od m_rc m_be m_ft m_tp m_td m_tk m_bg m_en m_vl m_sg m_wi m_si m_ce m_ca) rfl ?_
  refine hX_call (r' := zR_173) rfl (ct_173 x0) ?_
  refine hX_go 1 (bif gCmp .eq (v_173 x0) 0 then 14 else 7) [some (.ref 63), some (.int x0), some (.int x1), none] [] (hMm c0 m_s m_kp m_as m_ik m_fo m_tl m_tr m_fa m_od m_rc m_be m_ft m_tp m_td m_tk m_bg m_en m_vl m_sg m_wi m_si m_ce m_ca) rfl ?_
  refine hX_if (gCmp .eq (v_173 x0) 0) (fun c1 => ?_) (fun c1 => ?_)
  · skip
    refine hX_go 2 (16) [some (.ref 63), some (.int x0), some (.int x1), none] [.int 0, .ref 63] (hMm c0 m_s m_kp m_as m_ik m_fo m_tl m_tr m_fa m_od m_rc m_be m_ft m_tp m_td m_tk m_bg m_en m_vl m_sg m_wi m_si m_ce m_ca) rfl ?_
    refine hX_call (r' := zR_124) rfl (ct_124_63 0 (o1 c1)) ?_
    refine hX_go 0 (19) [some (.ref 63), some (.int x0), some (.int x1), none] [.int (v_124_63 0)] (hMm c0 m_s m_kp m_as m_ik (f_124_63_m_fo 0 m_fo) m_tl m_tr m_fa m_od m_rc m_be m_ft m_tp m_td m_tk m_bg m_en m_vl m_sg m_wi m_si m_ce m_ca) rfl ?_
    exact hX_end rfl (by unfold v_174_63; rw [c1]; rfl) (by unfold f_174_63_m_s; rw [c1]; unfold f_174_63_m_fo; rw [c1]; rfl)
  · skip
    refine hX_go 1 (8) [some (.ref 63), some (.int x0), some (.int x1), none] [.int x1] (hMm c0 m_s m_kp m_as m_ik m_fo m_tl m_tr m_fa m_od m_rc m_be m_ft m_tp m_td m_tk m_bg m_en m_vl m_sg m_wi m_si m_ce m_ca) rfl ?_
    refine hX_call (r' := zR_130) rfl (ct_130 x1) ?_
    refine hX_go 1 (bif gCmp .ne (v_130 x1) 0 then 20 else 14) [some (.ref 63), some (.int x0), some (.int x1), none] [] (hMm c0 m_s m_kp m_as m_ik m_fo m_tl m_tr m_fa m_od m_rc m_be m_ft m_tp m_td m_tk m_bg m_en m_vl m_sg m_wi m_si m_ce m_ca) rfl ?_
    refine hX_if (gCmp .ne (v_130 x1) 0) (fun c2 => ?_) (fun c2 => ?_)
    · skip
      refine hX_go 5 (28) [some (.ref 63), some (.int x0), some (.int x1), none] [.int (100 + x0), .ref 64] (hMm c0 m_s m_kp m_as m_ik m_fo m_tl m_tr m_fa m_od m_rc m_be m_ft m_tp m_td m_tk m_bg m_en m_vl m_sg m_wi m_si m_ce m_ca) rfl ?_
      refine hX_g (gIn (100 + x0) 134) 29 [some (.ref 63), some (.int x0), some (.int x1), none] [.int (m_s (Int32.toNatClampNeg (100 + x0)))] (hMm c0 m_s m_kp m_as m_ik m_fo m_tl m_tr m_fa m_od m_rc m_be m_ft m_tp m_td m_tk m_bg m_en m_vl m_sg m_wi m_si m_ce m_ca) rfl (o2 c1 c2) ?_
      refine hX_go 7 (39) [some (.ref 63), some (.int x0), some (.int x1), some (.int (m_s (Int32.toNatClampNeg (100 + x0))))] [.int x1, .int (100 + x0), .ref 64] (hMm c0 m_s m_kp m_as m_ik m_fo m_tl m_tr m_fa m_od m_rc m_be m_ft m_tp m_td m_tk m_bg m_en m_vl m_sg m_wi m_si m_ce m_ca) rfl ?_
      refine hX_g (gIn (100 + x0) 134) 40 [some (.ref 63), some (.int x0), some (.int x1), some (.int (m_s (Int32.toNatClampNeg (100 + x0))))] [] (hMm c0 (upd m_s (Int32.toNatClampNeg (100 + x0)) x1) m_kp m_as m_ik m_fo m_tl m_tr m_fa m_od m_rc m_be m_ft m_tp m_td m_tk m_bg m_en m_vl m_sg m_wi m_si m_ce m_ca) rfl (o2 c1 c2) ?_
      refine hX_go 1 (41) [some (.ref 63), some (.int x0), some (.int x1), some (.int (m_s (Int32.toNatClampNeg (100 + x0))))] [.int (m_s (Int32.toNatClampNeg (100 + x0)))] (hMm c0 (upd m_s (Int32.toNatClampNeg (100 + x0)) x1) m_kp m_as m_ik m_fo m_tl m_tr m_fa m_od m_rc m_be m_ft m_tp m_td m_tk m_bg m_en m_vl m_sg m_wi m_si m_ce m_ca) rfl ?_
      exact hX_end rfl (by unfold v_174_63; rw [c1, c2]; rfl) (by unfold f_174_63_m_s; rw [c1, c2]; unfold f_174_63_m_fo; rw [c1, c2]; rfl)
    · skip
      refine hX_go 2 (16) [some (.ref 63), some (.int x0), some (.int x1), none] [.int 0, .ref 63] (hMm c0 m_s m_kp m_as m_ik m_fo m_tl m_tr m_fa m_od m_rc m_be m_ft m_tp m_td m_tk m_bg m_en m_vl m_sg m_wi m_si m_ce m_ca) rfl ?_
      refine hX_call (r' := zR_124) rfl (ct_124_63 0 (o3 c1 c2)) ?_
      refine hX_go 0 (19) [some (.ref 63), some (.int x0), some (.int x1), none] [.int (v_124_63 0)] (hMm c0 m_s m_kp m_as m_ik (f_124_63_m_fo 0 m_fo) m_tl m_tr m_fa m_od m_rc m_be m_ft m_tp m_td m_tk m_bg m_en m_vl m_sg m_wi m_si m_ce m_ca) rfl ?_
      exact hX_end rfl (by unfold v_174_63; rw [c1, c2]; rfl) (by unfold f_174_63_m_s; rw [c1, c2]; unfold f_174_63_m_fo; rw [c1, c2]; rfl)

/-- UpOneSideModel.isInEyes(II)Z -/
def v_175_63 (x0 : Int32) (x1 : Int32) (m_s : Nat → Int32) : Int32 := bif gCmp .le x1 (m_s (Int32.toNatClampNeg (100 + x0))) then 0 else (bif gCmp .lt (m_s (Int32.toNatClampNeg (100 + x0))) (m_s 10) then 0 else 1)
set_option maxRecDepth 20000 in
set_option maxHeartbeats 1000000 in
theorem ct_175_63 {LL : Nat} {xs : Nat → Int32} {D : Nat} {c0 : Nat → gE} {m_s : Nat → Int32} {m_kp : Nat → Int32} {m_as : Nat → Int32} {m_ik : Int32} {m_fo : Nat → Int32} {m_tl : Int32} {m_tr : Int32} {m_fa : Nat → Int32} {m_od : Nat → Int32} {m_rc : Int32} {m_be : Nat → Int32} {m_ft : Int32} {m_tp : Nat → Int32} {m_td : Int32} {m_tk : Int32} {m_bg : Int32} {m_en : Int32} {m_vl : Int64} {m_sg : Int32} {m_wi : Nat → Int32} {m_si : Nat → Int32} {m_ce : Nat → Int32} {m_ca : Nat → Int32} (x0 : Int32) (x1 : Int32) (o1 : gIn (100 + x0) 134 = true) : hM (gO LL xs) (D + 0) zR_175 [.ref 63, .int x0, .int x1] (hMm c0 m_s m_kp m_as m_ik m_fo m_tl m_tr m_fa m_od m_rc m_be m_ft m_tp m_td m_tk m_bg m_en m_vl m_sg m_wi m_si m_ce m_ca) (some (.int (v_175_63 x0 x1 m_s))) (hMm c0 m_s m_kp m_as m_ik m_fo m_tl m_tr m_fa m_od m_rc m_be m_ft m_tp m_td m_tk m_bg m_en m_vl m_sg m_wi m_si m_ce m_ca) := by
  refine hX_go 0 0 [some (.ref 63), some (.int x0), some (.int x1)] [] (hMm c0 m_s m_kp m_as m_ik m_fo m_tl m_tr m_fa m_od m_rc m_be m_ft m_tp m_td m_tk m_bg m_en m_vl m_sg m_wi m_si m_ce m_ca) rfl ?_
  refine hX_go 6 (9) [some (.ref 63), some (.int x0), some (.int x1)] [.int (100 + x0), .ref 64, .int x1] (hMm c0 m_s m_kp m_as m_ik m_fo m_tl m_tr m_fa m_od m_rc m_be m_ft m_tp m_td m_tk m_bg m_en m_vl m_sg m_wi m_si m_ce m_ca) rfl ?_
  refine hX_g (gIn (100 + x0) 134) 10 [some (.ref 63), some (.int x0), some (.int x1)] [.int (m_s (Int32.toNatClampNeg (100 + x0))), .int x1] (hMm c0 m_s m_kp m_as m_ik m_fo m_tl m_tr m_fa m_od m_rc m_be m_ft m_tp m_td m_tk m_bg m_en m_vl m_sg m_wi m_si m_ce m_ca) rfl o1 ?_
  refine hX_go 1 (bif gCmp .le x1 (m_s (Int32.toNatClampNeg (100 + x0))) then 36 else 13) [some (.ref 63), some (.int x0), some (.int x1)] [] (hMm c0 m_s m_kp m_as m_ik m_fo m_tl m_tr m_fa m_od m_rc m_be m_ft m_tp m_td m_tk m_bg m_en m_vl m_sg m_wi m_si m_ce m_ca) rfl ?_
  refine hX_if (gCmp .le x1 (m_s (Int32.toNatClampNeg (100 + x0)))) (fun c1 => ?_) (fun c1 => ?_)
  · skip
    refine hX_go 1 (37) [some (.ref 63), some (.int x0), some (.int x1)] [.int 0] (hMm c0 m_s m_kp m_as m_ik m_fo m_tl m_tr m_fa m_od m_rc m_be m_ft m_tp m_td m_tk m_bg m_en m_vl m_sg m_wi m_si m_ce m_ca) rfl ?_
    exact hX_end rfl (by unfold v_175_63; rw [c1]; rfl) (rfl)
  · skip
    refine hX_go 5 (21) [some (.ref 63), some (.int x0), some (.int x1)] [.int (100 + x0), .ref 64] (hMm c0 m_s m_kp m_as m_ik m_fo m_tl m_tr m_fa m_od m_rc m_be m_ft m_tp m_td m_tk m_bg m_en m_vl m_sg m_wi m_si m_ce m_ca) rfl ?_
    refine hX_g (gIn (100 + x0) 134) 22 [some (.ref 63), some (.int x0), some (.int x1)] [.int (m_s (Int32.toNatClampNeg (100 + x0)))] (hMm c0 m_s m_kp m_as m_ik m_fo m_tl m_tr m_fa m_od m_rc m_be m_ft m_tp m_td m_tk m_bg m_en m_vl m_sg m_wi m_si m_ce m_ca) rfl o1 ?_
    refine hX_go 5 (bif gCmp .lt (m_s (Int32.toNatClampNeg (100 + x0))) (m_s 10) then 36 else 32) [some (.ref 63), some (.int x0), some (.int x1)] [] (hMm c0 m_s m_kp m_as m_ik m_fo m_tl m_tr m_fa m_od m_rc m_be m_ft m_tp m_td m_tk m_bg m_en m_vl m_sg m_wi m_si m_ce m_ca) rfl ?_
    refine hX_if (gCmp .lt (m_s (Int32.toNatClampNeg (100 + x0))) (m_s 10)) (fun c2 => ?_) (fun c2 => ?_)
    · skip
      refine hX_go 1 (37) [some (.ref 63), some (.int x0), some (.int x1)] [.int 0] (hMm c0 m_s m_kp m_as m_ik m_fo m_tl m_tr m_fa m_od m_rc m_be m_ft m_tp m_td m_tk m_bg m_en m_vl m_sg m_wi m_si m_ce m_ca) rfl ?_
      exact hX_end rfl (by unfold v_175_63; rw [c1, c2]; rfl) (rfl)
    · skip
      refine hX_go 2 (37) [some (.ref 63), some (.int x0), some (.int x1)] [.int 1] (hMm c0 m_s m_kp m_as m_ik m_fo m_tl m_tr m_fa m_od m_rc m_be m_ft m_tp m_td m_tk m_bg m_en m_vl m_sg m_wi m_si m_ce m_ca) rfl ?_
      exact hX_end rfl (by unfold v_175_63; rw [c1, c2]; rfl) (rfl)

theorem bz_175_63 (x0 : Int32) (x1 : Int32) (m_s : Nat → Int32) : (decide (v_175_63 x0 x1 m_s = 0) || decide (v_175_63 x0 x1 m_s = 1)) = true := by
  unfold v_175_63
  cases (gCmp .le x1 (m_s (Int32.toNatClampNeg (100 + x0))))
  · cases (gCmp .lt (m_s (Int32.toNatClampNeg (100 + x0))) (m_s 10))
    · rfl
    · rfl
  · rfl

/-- UpOneSideModel.lightBy(III)I -/
def v_176_63 (x0 : Int32) (x1 : Int32) (x2 : Int32) (m_s : Nat → Int32) : Int32 := (bif gCmp .le (x1 - (m_s (Int32.toNatClampNeg (100 + x0)))) 0 then 0 else (x1 - (m_s (Int32.toNatClampNeg (100 + x0))))) + (bif gCmp .le (x2 - (m_s (Int32.toNatClampNeg (100 + x0)))) 0 then 0 else (x2 - (m_s (Int32.toNatClampNeg (100 + x0)))))
set_option maxRecDepth 20000 in
set_option maxHeartbeats 1000000 in
theorem ct_176_63 {LL : Nat} {xs : Nat → Int32} {D : Nat} {c0 : Nat → gE} {m_s : Nat → Int32} {m_kp : Nat → Int32} {m_as : Nat → Int32} {m_ik : Int32} {m_fo : Nat → Int32} {m_tl : Int32} {m_tr : Int32} {m_fa : Nat → Int32} {m_od : Nat → Int32} {m_rc : Int32} {m_be : Nat → Int32} {m_ft : Int32} {m_tp : Nat → Int32} {m_td : Int32} {m_tk : Int32} {m_bg : Int32} {m_en : Int32} {m_vl : Int64} {m_sg : Int32} {m_wi : Nat → Int32} {m_si : Nat → Int32} {m_ce : Nat → Int32} {m_ca : Nat → Int32} (x0 : Int32) (x1 : Int32) (x2 : Int32) (o1 : gIn (100 + x0) 134 = true) : hM (gO LL xs) (D + 0) zR_176 [.ref 63, .int x0, .int x1, .int x2] (hMm c0 m_s m_kp m_as m_ik m_fo m_tl m_tr m_fa m_od m_rc m_be m_ft m_tp m_td m_tk m_bg m_en m_vl m_sg m_wi m_si m_ce m_ca) (some (.int (v_176_63 x0 x1 x2 m_s))) (hMm c0 m_s m_kp m_as m_ik m_fo m_tl m_tr m_fa m_od m_rc m_be m_ft m_tp m_td m_tk m_bg m_en m_vl m_sg m_wi m_si m_ce m_ca) := by
  refine hX_go 0 0 [some (.ref 63), some (.int x0), some (.int x1), some (.int x2), none, none] [] (hMm c0 m_s m_kp m_as m_ik m_fo m_tl m_tr m_fa m_od m_rc m_be m_ft m_tp m_td m_tk m_bg m_en m_vl m_sg m_wi m_si m_ce m_ca) rfl ?_
  refine hX_go 6 (9) [some (.ref 63), some (.int x0), some (.int x1), some (.int x2), none, none] [.int (100 + x0), .ref 64, .int x1] (hMm c0 m_s m_kp m_as m_ik m_fo m_tl m_tr m_fa m_od m_rc m_be m_ft m_tp m_td m_tk m_bg m_en m_vl m_sg m_wi m_si m_ce m_ca) rfl ?_
  refine hX_g (gIn (100 + x0) 134) 10 [some (.ref 63), some (.int x0), some (.int x1), some (.int x2), none, none] [.int (m_s (Int32.toNatClampNeg (100 + x0))), .int x1] (hMm c0 m_s m_kp m_as m_ik m_fo m_tl m_tr m_fa m_od m_rc m_be m_ft m_tp m_td m_tk m_bg m_en m_vl m_sg m_wi m_si m_ce m_ca) rfl o1 ?_
  refine hX_go 8 (22) [some (.ref 63), some (.int x0), some (.int x1), some (.int x2), some (.int (x1 - (m_s (Int32.toNatClampNeg (100 + x0))))), none] [.int (100 + x0), .ref 64, .int x2] (hMm c0 m_s m_kp m_as m_ik m_fo m_tl m_tr m_fa m_od m_rc m_be m_ft m_tp m_td m_tk m_bg m_en m_vl m_sg m_wi m_si m_ce m_ca) rfl ?_
  refine hX_g (gIn (100 + x0) 134) 23 [some (.ref 63), some (.int x0), some (.int x1), some (.int x2), some (.int (x1 - (m_s (Int32.toNatClampNeg (100 + x0))))), none] [.int (m_s (Int32.toNatClampNeg (100 + x0))), .int x2] (hMm c0 m_s m_kp m_as m_ik m_fo m_tl m_tr m_fa m_od m_rc m_be m_ft m_tp m_td m_tk m_bg m_en m_vl m_sg m_wi m_si m_ce m_ca) rfl o1 ?_
  refine hX_go 4 (bif gCmp .le (x1 - (m_s (Int32.toNatClampNeg (100 + x0)))) 0 then 36 else 31) [some (.ref 63), some (.int x0), some (.int x1), some (.int x2), some (.int (x1 - (m_s (Int32.toNatClampNeg (100 + x0))))), some (.int (x2 - (m_s (Int32.toNatClampNeg (100 + x0)))))] [] (hMm c0 m_s m_kp m_as m_ik m_fo m_tl m_tr m_fa m_od m_rc m_be m_ft m_tp m_td m_tk m_bg m_en m_vl m_sg m_wi m_si m_ce m_ca) rfl ?_
  suffices hk : hX (gO LL xs) (D + 0) zR_176 37 [some (.ref 63), some (.int x0), some (.int x1), some (.int x2), some (.int (x1 - (m_s (Int32.toNatClampNeg (100 + x0))))), some (.int (x2 - (m_s (Int32.toNatClampNeg (100 + x0)))))] [.int (bif gCmp .le (x1 - (m_s (Int32.toNatClampNeg (100 + x0)))) 0 then 0 else (x1 - (m_s (Int32.toNatClampNeg (100 + x0)))))] (hMm c0 m_s m_kp m_as m_ik m_fo m_tl m_tr m_fa m_od m_rc m_be m_ft m_tp m_td m_tk m_bg m_en m_vl m_sg m_wi m_si m_ce m_ca) (some (.int (v_176_63 x0 x1 x2 m_s))) (hMm c0 m_s m_kp m_as m_ik m_fo m_tl m_tr m_fa m_od m_rc m_be m_ft m_tp m_td m_tk m_bg m_en m_vl m_sg m_wi m_si m_ce m_ca) by
    refine hX_if (gCmp .le (x1 - (m_s (Int32.toNatClampNeg (100 + x0)))) 0) (fun c1 => ?_) (fun c1 => ?_)
    · skip
      refine hX_go 1 (37) [some (.ref 63), some (.int x0), some (.int x1), some (.int x2), some (.int (x1 - (m_s (Int32.toNatClampNeg (100 + x0))))), some (.int (x2 - (m_s (Int32.toNatClampNeg (100 + x0)))))] [.int 0] (hMm c0 m_s m_kp m_as m_ik m_fo m_tl m_tr m_fa m_od m_rc m_be m_ft m_tp m_td m_tk m_bg m_en m_vl m_sg m_wi m_si m_ce m_ca) rfl ?_
      have hk := hk
      simp only [c1, cond_true, cond_false] at hk
      first | exact hk | (simp only [c1, cond_true, cond_false]; exact hk)
    · skip
      refine hX_go 2 (37) [some (.ref 63), some (.int x0), some (.int x1), some (.int x2), some (.int (x1 - (m_s (Int32.toNatClampNeg (100 + x0))))), some (.int (x2 - (m_s (Int32.toNatClampNeg (100 + x0)))))] [.int (x1 - (m_s (Int32.toNatClampNeg (100 + x0))))] (hMm c0 m_s m_kp m_as m_ik m_fo m_tl m_tr m_fa m_od m_rc m_be m_ft m_tp m_td m_tk m_bg m_en m_vl m_sg m_wi m_si m_ce m_ca) rfl ?_
      have hk := hk
      simp only [c1, cond_true, cond_false] at hk
      first | exact hk | (simp only [c1, cond_true, cond_false]; exact hk)
  refine hX_go 2 (bif gCmp .le (x2 - (m_s (Int32.toNatClampNeg (100 + x0)))) 0 then 47 else 42) [some (.ref 63), some (.int x0), some (.int x1), some (.int x2), some (.int (x1 - (m_s (Int32.toNatClampNeg (100 + x0))))), some (.int (x2 - (m_s (Int32.toNatClampNeg (100 + x0)))))] [.int (bif gCmp .le (x1 - (m_s (Int32.toNatClampNeg (100 + x0)))) 0 then 0 else (x1 - (m_s (Int32.toNatClampNeg (100 + x0)))))] (hMm c0 m_s m_kp m_as m_ik m_fo m_tl m_tr m_fa m_od m_rc m_be m_ft m_tp m_td m_tk m_bg m_en m_vl m_sg m_wi m_si m_ce m_ca) rfl ?_
  suffices hk : hX (gO LL xs) (D + 0) zR_176 48 [some (.ref 63), some (.int x0), some (.int x1), some (.int x2), some (.int (x1 - (m_s (Int32.toNatClampNeg (100 + x0))))), some (.int (x2 - (m_s (Int32.toNatClampNeg (100 + x0)))))] [.int (bif gCmp .le (x2 - (m_s (Int32.toNatClampNeg (100 + x0)))) 0 then 0 else (x2 - (m_s (Int32.toNatClampNeg (100 + x0))))), .int (bif gCmp .le (x1 - (m_s (Int32.toNatClampNeg (100 + x0)))) 0 then 0 else (x1 - (m_s (Int32.toNatClampNeg (100 + x0)))))] (hMm c0 m_s m_kp m_as m_ik m_fo m_tl m_tr m_fa m_od m_rc m_be m_ft m_tp m_td m_tk m_bg m_en m_vl m_sg m_wi m_si m_ce m_ca) (some (.int (v_176_63 x0 x1 x2 m_s))) (hMm c0 m_s m_kp m_as m_ik m_fo m_tl m_tr m_fa m_od m_rc m_be m_ft m_tp m_td m_tk m_bg m_en m_vl m_sg m_wi m_si m_ce m_ca) by
    refine hX_if (gCmp .le (x2 - (m_s (Int32.toNatClampNeg (100 + x0)))) 0) (fun c2 => ?_) (fun c2 => ?_)
    · skip
      refine hX_go 1 (48) [some (.ref 63), some (.int x0), some (.int x1), some (.int x2), some (.int (x1 - (m_s (Int32.toNatClampNeg (100 + x0))))), some (.int (x2 - (m_s (Int32.toNatClampNeg (100 + x0)))))] [.int 0, .int (bif gCmp .le (x1 - (m_s (Int32.toNatClampNeg (100 + x0)))) 0 then 0 else (x1 - (m_s (Int32.toNatClampNeg (100 + x0)))))] (hMm c0 m_s m_kp m_as m_ik m_fo m_tl m_tr m_fa m_od m_rc m_be m_ft m_tp m_td m_tk m_bg m_en m_vl m_sg m_wi m_si m_ce m_ca) rfl ?_
      have hk := hk
      simp only [c2, cond_true, cond_false] at hk
      first | exact hk | (simp only [c2, cond_true, cond_false]; exact hk)
    · skip
      refine hX_go 2 (48) [some (.ref 63), some (.int x0), some (.int x1), some (.int x2), some (.int (x1 - (m_s (Int32.toNatClampNeg (100 + x0))))), some (.int (x2 - (m_s (Int32.toNatClampNeg (100 + x0)))))] [.int (x2 - (m_s (Int32.toNatClampNeg (100 + x0)))), .int (bif gCmp .le (x1 - (m_s (Int32.toNatClampNeg (100 + x0)))) 0 then 0 else (x1 - (m_s (Int32.toNatClampNeg (100 + x0)))))] (hMm c0 m_s m_kp m_as m_ik m_fo m_tl m_tr m_fa m_od m_rc m_be m_ft m_tp m_td m_tk m_bg m_en m_vl m_sg m_wi m_si m_ce m_ca) rfl ?_
      have hk := hk
      simp only [c2, cond_true, cond_false] at hk
      first | exact hk | (simp only [c2, cond_true, cond_false]; exact hk)
  refine hX_go 1 (49) [some (.ref 63), some (.int x0), some (.int x1), some (.int x2), some (.int (x1 - (m_s (Int32.toNatClampNeg (100 + x0))))), some (.int (x2 - (m_s (Int32.toNatClampNeg (100 + x0)))))] [.int ((bif gCmp .le (x1 - (m_s (Int32.toNatClampNeg (100 + x0)))) 0 then 0 else (x1 - (m_s (Int32.toNatClampNeg (100 + x0))))) + (bif gCmp .le (x2 - (m_s (Int32.toNatClampNeg (100 + x0)))) 0 then 0 else (x2 - (m_s (Int32.toNatClampNeg (100 + x0))))))] (hMm c0 m_s m_kp m_as m_ik m_fo m_tl m_tr m_fa m_od m_rc m_be m_ft m_tp m_td m_tk m_bg m_en m_vl m_sg m_wi m_si m_ce m_ca) rfl ?_
  exact hX_end rfl (rfl) (rfl)

/-- UpOneSideModel.hour(II)I -/
def v_177_63 (x0 : Int32) (x1 : Int32) (m_s : Nat → Int32) : Int32 := bif gCmp .eq (v_173 x0) 0 then (v_124_63 0) else (bif gCmp .ne (v_125 x1 0 2) 0 then (bif gCmp .ne x1 0 then (bif gCmp .ne x1 1 then (v_176_63 x0 (m_s 0) (m_s 1) m_s) else (bif gCmp .eq (v_175_63 x0 (m_s 1) m_s) 0 then 0 else 1)) else (m_s (Int32.toNatClampNeg (100 + x0)))) else (v_124_63 0))
def f_177_63_m_fo (x0 : Int32) (x1 : Int32) (m_fo : Nat → Int32) : Nat → Int32 := bif gCmp .eq (v_173 x0) 0 then (f_124_63_m_fo 0 m_fo) else (bif gCmp .ne (v_125 x1 0 2) 0 then m_fo else (f_124_63_m_fo 0 m_fo))
set_option maxRecDepth 20000 in
set_option maxHeartbeats 1000000 in
theorem ct_177_63 {LL : Nat} {xs : Nat → Int32} {D : Nat} {c0 : Nat → gE} {m_s : Nat → Int32} {m_kp : Nat → Int32} {m_as : Nat → Int32} {m_ik : Int32} {m_fo : Nat → Int32} {m_tl : Int32} {m_tr : Int32} {m_fa : Nat → Int32} {m_od : Nat → Int32} {m_rc : Int32} {m_be : Nat → Int32} {m_ft : Int32} {m_tp : Nat → Int32} {m_td : Int32} {m_tk : Int32} {m_bg : Int32} {m_en : Int32} {m_vl : Int64} {m_sg : Int32} {m_wi : Nat → Int32} {m_si : Nat → Int32} {m_ce : Nat → Int32} {m_ca : Nat → Int32} (x0 : Int32) (x1 : Int32) (o1 : gCmp .eq (v_173 x0) 0 = true → gIn 0 7 = true) (o2 : gCmp .eq (v_173 x0) 0 = false → gCmp .ne (v_125 x1 0 2) 0 = true → gCmp .ne x1 0 = true → gCmp .ne x1 1 = true → gIn (100 + x0) 134 = true) (o3 : gCmp .eq (v_173 x0) 0 = false → gCmp .ne (v_125 x1 0 2) 0 = true → gCmp .ne x1 0 = true → gCmp .ne x1 1 = false → gIn (100 + x0) 134 = true) (o4 : gCmp .eq (v_173 x0) 0 = false → gCmp .ne (v_125 x1 0 2) 0 = true → gCmp .ne x1 0 = false → gIn (100 + x0) 134 = true) (o5 : gCmp .eq (v_173 x0) 0 = false → gCmp .ne (v_125 x1 0 2) 0 = false → gIn 0 7 = true) : hM (gO LL xs) (D + 2) zR_177 [.ref 63, .int x0, .int x1] (hMm c0 m_s m_kp m_as m_ik m_fo m_tl m_tr m_fa m_od m_rc m_be m_ft m_tp m_td m_tk m_bg m_en m_vl m_sg m_wi m_si m_ce m_ca) (some (.int (v_177_63 x0 x1 m_s))) (hMm c0 m_s m_kp m_as m_ik (f_177_63_m_fo x0 x1 m_fo) m_tl m_tr m_fa m_od m_rc m_be m_ft m_tp m_td m_tk m_bg m_en m_vl m_sg m_wi m_si m_ce m_ca) := by
  refine hX_go 0 0 [some (.ref 63), some (.int x0), some (.int x1)] [] (hMm c0 m_s m_kp m_as m_ik m_fo m_tl m_tr m_fa m_od m_rc m_be m_ft m_tp m_td m_tk m_bg m_en m_vl m_sg m_wi m_si m_ce m_ca) rfl ?_
  refine hX_go 1 (1) [some (.ref 63), some (.int x0), some (.int x1)] [.int x0] (hMm c0 m_s m_kp m_as m_ik m_fo m_tl m_tr m_fa m_od m_rc m_be m_ft m_tp m_td m_tk m_bg m_en m_vl m_sg m_wi m_si m_ce m_ca) rfl ?_
  refine hX_call (r' := zR_173) rfl (ct_173 x0) ?_
  refine hX_go 1 (bif gCmp .eq (v_173 x0) 0 then 16 else 7) [some (.ref 63), some (.int x0), some (.int x1)] [] (hMm c0 m_s m_kp m_as m_ik m_fo m_tl m_tr m_fa m_od m_rc m_be m_ft m_tp m_td m_tk m_bg m_en m_vl m_sg m_wi m_si m_ce m_ca) rfl ?_
  refine hX_if (gCmp .eq (v_173 x0) 0) (fun c1 => ?_) (fun c1 => ?_)
  · skip
    refine hX_go 2 (18) [some (.ref 63), some (.int x0), some (.int x1)] [.int 0, .ref 63] (hMm c0 m_s m_kp m_as m_ik m_fo m_tl m_tr m_fa m_od m_rc m_be m_ft m_tp m_td m_tk m_bg m_en m_vl m_sg m_wi m_si m_ce m_ca) rfl ?_
    refine hX_call (r' := zR_124) rfl (ct_124_63 0 (o1 c1)) ?_
    refine hX_go 0 (21) [some (.ref 63), some (.int x0), some (.int x1)] [.int (v_124_63 0)] (hMm c0 m_s m_kp m_as m_ik (f_124_63_m_fo 0 m_fo) m_tl m_tr m_fa m_od m_rc m_be m_ft m_tp m_td m_tk m_bg m_en m_vl m_sg m_wi m_si m_ce m_ca) rfl ?_
    exact hX_end rfl (by unfold v_177_63; rw [c1]; rfl) (by unfold f_177_63_m_fo; rw [c1]; rfl)
  · skip
    refine hX_go 3 (10) [some (.ref 63), some (.int x0), some (.int x1)] [.int 2, .int 0, .int x1] (hMm c0 m_s m_kp m_as m_ik m_fo m_tl m_tr m_fa m_od m_rc m_be m_ft m_tp m_td m_tk m_bg m_en m_vl m_sg m_wi m_si m_ce m_ca) rfl ?_
    refine hX_call (r' := zR_125) rfl (ct_125 x1 0 2) ?_
    refine hX_go 1 (bif gCmp .ne (v_125 x1 0 2) 0 then 22 else 16) [some (.ref 63), some (.int x0), some (.int x1)] [] (hMm c0 m_s m_kp m_as m_ik m_fo m_tl m_tr m_fa m_od m_rc m_be m_ft m_tp m_td m_tk m_bg m_en m_vl m_sg m_wi m_si m_ce m_ca) rfl ?_
    refine hX_if (gCmp .ne (v_125 x1 0 2) 0) (fun c2 => ?_) (fun c2 => ?_)
    · skip
      refine hX_go 2 (bif gCmp .ne x1 0 then 38 else 26) [some (.ref 63), some (.int x0), some (.int x1)] [] (hMm c0 m_s m_kp m_as m_ik m_fo m_tl m_tr m_fa m_od m_rc m_be m_ft m_tp m_td m_tk m_bg m_en m_vl m_sg m_wi m_si m_ce m_ca) rfl ?_
      suffices hk : hX (gO LL xs) (D + 2) zR_177 82 [some (.ref 63), some (.int x0), some (.int x1)] [.int (bif gCmp .ne x1 0 then (bif gCmp .ne x1 1 then (v_176_63 x0 (m_s 0) (m_s 1) m_s) else (bif gCmp .eq (v_175_63 x0 (m_s 1) m_s) 0 then 0 else 1)) else (m_s (Int32.toNatClampNeg (100 + x0))))] (hMm c0 m_s m_kp m_as m_ik m_fo m_tl m_tr m_fa m_od m_rc m_be m_ft m_tp m_td m_tk m_bg m_en m_vl m_sg m_wi m_si m_ce m_ca) (some (.int (v_177_63 x0 x1 m_s))) (hMm c0 m_s m_kp m_as m_ik (f_177_63_m_fo x0 x1 m_fo) m_tl m_tr m_fa m_od m_rc m_be m_ft m_tp m_td m_tk m_bg m_en m_vl m_sg m_wi m_si m_ce m_ca) by
        refine hX_if (gCmp .ne x1 0) (fun c3 => ?_) (fun c3 => ?_)
        · skip
          refine hX_go 3 (bif gCmp .ne x1 1 then 65 else 43) [some (.ref 63), some (.int x0), some (.int x1)] [] (hMm c0 m_s m_kp m_as m_ik m_fo m_tl m_tr m_fa m_od m_rc m_be m_ft m_tp m_td m_tk m_bg m_en m_vl m_sg m_wi m_si m_ce m_ca) rfl ?_
          refine hX_if (gCmp .ne x1 1) (fun c4 => ?_) (fun c4 => ?_)
          · skip
            refine hX_go 9 (78) [some (.ref 63), some (.int x0), some (.int x1)] [.int 1, .ref 64, .int (m_s 0), .int x0, .ref 63] (hMm c0 m_s m_kp m_as m_ik m_fo m_tl m_tr m_fa m_od m_rc m_be m_ft m_tp m_td m_tk m_bg m_en m_vl m_sg m_wi m_si m_ce m_ca) rfl ?_
            refine hX_go 1 (79) [some (.ref 63), some (.int x0), some (.int x1)] [.int (m_s 1), .int (m_s 0), .int x0, .ref 63] (hMm c0 m_s m_kp m_as m_ik m_fo m_tl m_tr m_fa m_od m_rc m_be m_ft m_tp m_td m_tk m_bg m_en m_vl m_sg m_wi m_si m_ce m_ca) rfl ?_
            refine hX_call (r' := zR_176) rfl (ct_176_63 x0 (m_s 0) (m_s 1) (o2 c1 c2 c3 c4)) ?_
            refine hX_go 0 (82) [some (.ref 63), some (.int x0), some (.int x1)] [.int (v_176_63 x0 (m_s 0) (m_s 1) m_s)] (hMm c0 m_s m_kp m_as m_ik m_fo m_tl m_tr m_fa m_od m_rc m_be m_ft m_tp m_td m_tk m_bg m_en m_vl m_sg m_wi m_si m_ce m_ca) rfl ?_
            have hk := hk
            simp only [c3, c4, cond_true, cond_false] at hk
            first | exact hk | (simp only [c3, c4, cond_true, cond_false]; exact hk)
          · skip
            refine hX_go 6 (51) [some (.ref 63), some (.int x0), some (.int x1)] [.int (m_s 1), .int x0, .ref 63] (hMm c0 m_s m_kp m_as m_ik m_fo m_tl m_tr m_fa m_od m_rc m_be m_ft m_tp m_td m_tk m_bg m_en m_vl m_sg m_wi m_si m_ce m_ca) rfl ?_
            refine hX_call (r' := zR_175) rfl (ct_175_63 x0 (m_s 1) (o3 c1 c2 c3 c4)) ?_
            refine hX_go 1 (bif gCmp .eq (v_175_63 x0 (m_s 1) m_s) 0 then 61 else 57) [some (.ref 63), some (.int x0), some (.int x1)] [] (hMm c0 m_s m_kp m_as m_ik m_fo m_tl m_tr m_fa m_od m_rc m_be m_ft m_tp m_td m_tk m_bg m_en m_vl m_sg m_wi m_si m_ce m_ca) rfl ?_
            refine hX_if (gCmp .eq (v_175_63 x0 (m_s 1) m_s) 0) (fun c5 => ?_) (fun c5 => ?_)
            · skip
              refine hX_go 2 (82) [some (.ref 63), some (.int x0), some (.int x1)] [.int 0] (hMm c0 m_s m_kp m_as m_ik m_fo m_tl m_tr m_fa m_od m_rc m_be m_ft m_tp m_td m_tk m_bg m_en m_vl m_sg m_wi m_si m_ce m_ca) rfl ?_
              have hk := hk
              simp only [c3, c4, c5, cond_true, cond_false] at hk
              first | exact hk | (simp only [c3, c4, c5, cond_true, cond_false]; exact hk)
            · skip
              refine hX_go 2 (82) [some (.ref 63), some (.int x0), some (.int x1)] [.int 1] (hMm c0 m_s m_kp m_as m_ik m_fo m_tl m_tr m_fa m_od m_rc m_be m_ft m_tp m_td m_tk m_bg m_en m_vl m_sg m_wi m_si m_ce m_ca) rfl ?_
              have hk := hk
              simp only [c3, c4, c5, cond_true, cond_false] at hk
              first | exact hk | (simp only [c3, c4, c5, cond_true, cond_false]; exact hk)
        · skip
          refine hX_go 5 (34) [some (.ref 63), some (.int x0), some (.int x1)] [.int (100 + x0), .ref 64] (hMm c0 m_s m_kp m_as m_ik m_fo m_tl m_tr m_fa m_od m_rc m_be m_ft m_tp m_td m_tk m_bg m_en m_vl m_sg m_wi m_si m_ce m_ca) rfl ?_
          refine hX_g (gIn (100 + x0) 134) 35 [some (.ref 63), some (.int x0), some (.int x1)] [.int (m_s (Int32.toNatClampNeg (100 + x0)))] (hMm c0 m_s m_kp m_as m_ik m_fo m_tl m_tr m_fa m_od m_rc m_be m_ft m_tp m_td m_tk m_bg m_en m_vl m_sg m_wi m_si m_ce m_ca) rfl (o4 c1 c2 c3) ?_
          refine hX_go 1 (82) [some (.ref 63), some (.int x0), some (.int x1)] [.int (m_s (Int32.toNatClampNeg (100 + x0)))] (hMm c0 m_s m_kp m_as m_ik m_fo m_tl m_tr m_fa m_od m_rc m_be m_ft m_tp m_td m_tk m_bg m_en m_vl m_sg m_wi m_si m_ce m_ca) rfl ?_
          have hk := hk
          simp only [c3, cond_true, cond_false] at hk
          first | exact hk | (simp only [c3, cond_true, cond_false]; exact hk)
      exact hX_end rfl (by unfold v_177_63; rw [c1, c2]; rfl) (by unfold f_177_63_m_fo; rw [c1, c2]; rfl)
    · skip
      refine hX_go 2 (18) [some (.ref 63), some (.int x0), some (.int x1)] [.int 0, .ref 63] (hMm c0 m_s m_kp m_as m_ik m_fo m_tl m_tr m_fa m_od m_rc m_be m_ft m_tp m_td m_tk m_bg m_en m_vl m_sg m_wi m_si m_ce m_ca) rfl ?_
      refine hX_call (r' := zR_124) rfl (ct_124_63 0 (o5 c1 c2)) ?_
      refine hX_go 0 (21) [some (.ref 63), some (.int x0), some (.int x1)] [.int (v_124_63 0)] (hMm c0 m_s m_kp m_as m_ik (f_124_63_m_fo 0 m_fo) m_tl m_tr m_fa m_od m_rc m_be m_ft m_tp m_td m_tk m_bg m_en m_vl m_sg m_wi m_si m_ce m_ca) rfl ?_
      exact hX_end rfl (by unfold v_177_63; rw [c1, c2]; rfl) (by unfold f_177_63_m_fo; rw [c1, c2]; rfl)

/-- UpOneSideModel.holding(I)I -/
def v_181_63 (x0 : Int32) (m_s : Nat → Int32) : Int32 := bif gCmp .le ((m_s 9) * x0) 10000 then (10000 - ((m_s 9) * x0)) else 0
set_option maxRecDepth 20000 in
set_option maxHeartbeats 1000000 in
theorem ct_181_63 {LL : Nat} {xs : Nat → Int32} {D : Nat} {c0 : Nat → gE} {m_s : Nat → Int32} {m_kp : Nat → Int32} {m_as : Nat → Int32} {m_ik : Int32} {m_fo : Nat → Int32} {m_tl : Int32} {m_tr : Int32} {m_fa : Nat → Int32} {m_od : Nat → Int32} {m_rc : Int32} {m_be : Nat → Int32} {m_ft : Int32} {m_tp : Nat → Int32} {m_td : Int32} {m_tk : Int32} {m_bg : Int32} {m_en : Int32} {m_vl : Int64} {m_sg : Int32} {m_wi : Nat → Int32} {m_si : Nat → Int32} {m_ce : Nat → Int32} {m_ca : Nat → Int32} (x0 : Int32) : hM (gO LL xs) (D + 0) zR_181 [.ref 63, .int x0] (hMm c0 m_s m_kp m_as m_ik m_fo m_tl m_tr m_fa m_od m_rc m_be m_ft m_tp m_td m_tk m_bg m_en m_vl m_sg m_wi m_si m_ce m_ca) (some (.int (v_181_63 x0 m_s))) (hMm c0 m_s m_kp m_as m_ik m_fo m_tl m_tr m_fa m_od m_rc m_be m_ft m_tp m_td m_tk m_bg m_en m_vl m_sg m_wi m_si m_ce m_ca) := by
  refine hX_go 0 0 [some (.ref 63), some (.int x0), none] [] (hMm c0 m_s m_kp m_as m_ik m_fo m_tl m_tr m_fa m_od m_rc m_be m_ft m_tp m_td m_tk m_bg m_en m_vl m_sg m_wi m_si m_ce m_ca) rfl ?_
  refine hX_go 9 (14) [some (.ref 63), some (.int x0), some (.int ((m_s 9) * x0))] [.int 10000, .int ((m_s 9) * x0)] (hMm c0 m_s m_kp m_as m_ik m_fo m_tl m_tr m_fa m_od m_rc m_be m_ft m_tp m_td m_tk m_bg m_en m_vl m_sg m_wi m_si m_ce m_ca) rfl ?_
  refine hX_go 1 (bif gCmp .le ((m_s 9) * x0) 10000 then 21 else 17) [some (.ref 63), some (.int x0), some (.int ((m_s 9) * x0))] [] (hMm c0 m_s m_kp m_as m_ik m_fo m_tl m_tr m_fa m_od m_rc m_be m_ft m_tp m_td m_tk m_bg m_en m_vl m_sg m_wi m_si m_ce m_ca) rfl ?_
  suffices hk : hX (gO LL xs) (D + 0) zR_181 26 [some (.ref 63), some (.int x0), some (.int ((m_s 9) * x0))] [.int (bif gCmp .le ((m_s 9) * x0) 10000 then (10000 - ((m_s 9) * x0)) else 0)] (hMm c0 m_s m_kp m_as m_ik m_fo m_tl m_tr m_fa m_od m_rc m_be m_ft m_tp m_td m_tk m_bg m_en m_vl m_sg m_wi m_si m_ce m_ca) (some (.int (v_181_63 x0 m_s))) (hMm c0 m_s m_kp m_as m_ik m_fo m_tl m_tr m_fa m_od m_rc m_be m_ft m_tp m_td m_tk m_bg m_en m_vl m_sg m_wi m_si m_ce m_ca) by
    refine hX_if (gCmp .le ((m_s 9) * x0) 10000) (fun c1 => ?_) (fun c1 => ?_)
    · skip
      refine hX_go 3 (26) [some (.ref 63), some (.int x0), some (.int ((m_s 9) * x0))] [.int (10000 - ((m_s 9) * x0))] (hMm c0 m_s m_kp m_as m_ik m_fo m_tl m_tr m_fa m_od m_rc m_be m_ft m_tp m_td m_tk m_bg m_en m_vl m_sg m_wi m_si m_ce m_ca) rfl ?_
      have hk := hk
      simp only [c1, cond_true, cond_false] at hk
      first | exact hk | (simp only [c1, cond_true, cond_false]; exact hk)
    · skip
      refine hX_go 2 (26) [some (.ref 63), some (.int x0), some (.int ((m_s 9) * x0))] [.int 0] (hMm c0 m_s m_kp m_as m_ik m_fo m_tl m_tr m_fa m_od m_rc m_be m_ft m_tp m_td m_tk m_bg m_en m_vl m_sg m_wi m_si m_ce m_ca) rfl ?_
      have hk := hk
      simp only [c1, cond_true, cond_false] at hk
      first | exact hk | (simp only [c1, cond_true, cond_false]; exact hk)
  exact hX_end rfl (rfl) (rfl)

/-- UpOneSideModel.isSheet(I)Z -/
def v_185 (x0 : Int32) : Int32 := v_125 x0 0 3
set_option maxRecDepth 20000 in
set_option maxHeartbeats 1000000 in
theorem ct_185 {LL : Nat} {xs : Nat → Int32} {D : Nat} {c0 : Nat → gE} {m_s : Nat → Int32} {m_kp : Nat → Int32} {m_as : Nat → Int32} {m_ik : Int32} {m_fo : Nat → Int32} {m_tl : Int32} {m_tr : Int32} {m_fa : Nat → Int32} {m_od : Nat → Int32} {m_rc : Int32} {m_be : Nat → Int32} {m_ft : Int32} {m_tp : Nat → Int32} {m_td : Int32} {m_tk : Int32} {m_bg : Int32} {m_en : Int32} {m_vl : Int64} {m_sg : Int32} {m_wi : Nat → Int32} {m_si : Nat → Int32} {m_ce : Nat → Int32} {m_ca : Nat → Int32} (x0 : Int32) : hM (gO LL xs) (D + 1) zR_185 [.int x0] (hMm c0 m_s m_kp m_as m_ik m_fo m_tl m_tr m_fa m_od m_rc m_be m_ft m_tp m_td m_tk m_bg m_en m_vl m_sg m_wi m_si m_ce m_ca) (some (.int (v_185 x0))) (hMm c0 m_s m_kp m_as m_ik m_fo m_tl m_tr m_fa m_od m_rc m_be m_ft m_tp m_td m_tk m_bg m_en m_vl m_sg m_wi m_si m_ce m_ca) := by
  refine hX_go 0 0 [some (.int x0)] [] (hMm c0 m_s m_kp m_as m_ik m_fo m_tl m_tr m_fa m_od m_rc m_be m_ft m_tp m_td m_tk m_bg m_en m_vl m_sg m_wi m_si m_ce m_ca) rfl ?_
  refine hX_go 3 (3) [some (.int x0)] [.int 3, .int 0, .int x0] (hMm c0 m_s m_kp m_as m_ik m_fo m_tl m_tr m_fa m_od m_rc m_be m_ft m_tp m_td m_tk m_bg m_en m_vl m_sg m_wi m_si m_ce m_ca) rfl ?_
  refine hX_call (r' := zR_125) rfl (ct_125 x0 0 3) ?_
  refine hX_go 0 (6) [some (.int x0)] [.int (v_125 x0 0 3)] (hMm c0 m_s m_kp m_as m_ik m_fo m_tl m_tr m_fa m_od m_rc m_be m_ft m_tp m_td m_tk m_bg m_en m_vl m_sg m_wi m_si m_ce m_ca) rfl ?_
  exact hX_endZ rfl (bz_125 x0 0 3) (rfl) (rfl)

theorem bz_185 (x0 : Int32) : (decide (v_185 x0 = 0) || decide (v_185 x0 = 1)) = true := by
  unfold v_185
  exact (bz_125 x0 0 3)

/-- UpOneSideModel.wrongSheet(I)I -/
def v_186_63 (x0 : Int32) (m_wi : Nat → Int32) : Int32 := bif gCmp .ne (v_185 x0) 0 then (bif gCmp .ne (m_wi (Int32.toNatClampNeg x0)) 0 then (-1) else 5) else 0
set_option maxRecDepth 20000 in
set_option maxHeartbeats 1000000 in
theorem ct_186_63 {LL : Nat} {xs : Nat → Int32} {D : Nat} {c0 : Nat → gE} {m_s : Nat → Int32} {m_kp : Nat → Int32} {m_as : Nat → Int32} {m_ik : Int32} {m_fo : Nat → Int32} {m_tl : Int32} {m_tr : Int32} {m_fa : Nat → Int32} {m_od : Nat → Int32} {m_rc : Int32} {m_be : Nat → Int32} {m_ft : Int32} {m_tp : Nat → Int32} {m_td : Int32} {m_tk : Int32} {m_bg : Int32} {m_en : Int32} {m_vl : Int64} {m_sg : Int32} {m_wi : Nat → Int32} {m_si : Nat → Int32} {m_ce : Nat → Int32} {m_ca : Nat → Int32} (x0 : Int32) (o1 : gCmp .ne (v_185 x0) 0 = true → gIn x0 4 = true) : hM (gO LL xs) (D + 2) zR_186 [.ref 63, .int x0] (hMm c0 m_s m_kp m_as m_ik m_fo m_tl m_tr m_fa m_od m_rc m_be m_ft m_tp m_td m_tk m_bg m_en m_vl m_sg m_wi m_si m_ce m_ca) (some (.int (v_186_63 x0 m_wi))) (hMm c0 m_s m_kp m_as m_ik m_fo m_tl m_tr m_fa m_od m_rc m_be m_ft m_tp m_td m_tk m_bg m_en m_vl m_sg m_wi m_si m_ce m_ca) := by
  refine hX_go 0 0 [some (.ref 63), some (.int x0)] [] (hMm c0 m_s m_kp m_as m_ik m_fo m_tl m_tr m_fa m_od m_rc m_be m_ft m_tp m_td m_tk m_bg m_en m_vl m_sg m_wi m_si m_ce m_ca) rfl ?_
  refine hX_go 1 (1) [some (.ref 63), some (.int x0)] [.int x0] (hMm c0 m_s m_kp m_as m_ik m_fo m_tl m_tr m_fa m_od m_rc m_be m_ft m_tp m_td m_tk m_bg m_en m_vl m_sg m_wi m_si m_ce m_ca) rfl ?_
  refine hX_call (r' := zR_185) rfl (ct_185 x0) ?_
  refine hX_go 1 (bif gCmp .ne (v_185 x0) 0 then 11 else 7) [some (.ref 63), some (.int x0)] [] (hMm c0 m_s m_kp m_as m_ik m_fo m_tl m_tr m_fa m_od m_rc m_be m_ft m_tp m_td m_tk m_bg m_en m_vl m_sg m_wi m_si m_ce m_ca) rfl ?_
  suffices hk : hX (gO LL xs) (D + 2) zR_186 25 [some (.ref 63), some (.int x0)] [.int (bif gCmp .ne (v_185 x0) 0 then (bif gCmp .ne (m_wi (Int32.toNatClampNeg x0)) 0 then (-1) else 5) else 0)] (hMm c0 m_s m_kp m_as m_ik m_fo m_tl m_tr m_fa m_od m_rc m_be m_ft m_tp m_td m_tk m_bg m_en m_vl m_sg m_wi m_si m_ce m_ca) (some (.int (v_186_63 x0 m_wi))) (hMm c0 m_s m_kp m_as m_ik m_fo m_tl m_tr m_fa m_od m_rc m_be m_ft m_tp m_td m_tk m_bg m_en m_vl m_sg m_wi m_si m_ce m_ca) by
    refine hX_if (gCmp .ne (v_185 x0) 0) (fun c1 => ?_) (fun c1 => ?_)
    · skip
      refine hX_go 3 (16) [some (.ref 63), some (.int x0)] [.int x0, .ref 75] (hMm c0 m_s m_kp m_as m_ik m_fo m_tl m_tr m_fa m_od m_rc m_be m_ft m_tp m_td m_tk m_bg m_en m_vl m_sg m_wi m_si m_ce m_ca) rfl ?_
      refine hX_g (gIn x0 4) 17 [some (.ref 63), some (.int x0)] [.int (m_wi (Int32.toNatClampNeg x0))] (hMm c0 m_s m_kp m_as m_ik m_fo m_tl m_tr m_fa m_od m_rc m_be m_ft m_tp m_td m_tk m_bg m_en m_vl m_sg m_wi m_si m_ce m_ca) rfl (o1 c1) ?_
      refine hX_go 1 (bif gCmp .ne (m_wi (Int32.toNatClampNeg x0)) 0 then 24 else 20) [some (.ref 63), some (.int x0)] [] (hMm c0 m_s m_kp m_as m_ik m_fo m_tl m_tr m_fa m_od m_rc m_be m_ft m_tp m_td m_tk m_bg m_en m_vl m_sg m_wi m_si m_ce m_ca) rfl ?_
      refine hX_if (gCmp .ne (m_wi (Int32.toNatClampNeg x0)) 0) (fun c2 => ?_) (fun c2 => ?_)
      · skip
        refine hX_go 1 (25) [some (.ref 63), some (.int x0)] [.int (-1)] (hMm c0 m_s m_kp m_as m_ik m_fo m_tl m_tr m_fa m_od m_rc m_be m_ft m_tp m_td m_tk m_bg m_en m_vl m_sg m_wi m_si m_ce m_ca) rfl ?_
        have hk := hk
        simp only [c1, c2, cond_true, cond_false] at hk
        first | exact hk | (simp only [c1, c2, cond_true, cond_false]; exact hk)
      · skip
        refine hX_go 2 (25) [some (.ref 63), some (.int x0)] [.int 5] (hMm c0 m_s m_kp m_as m_ik m_fo m_tl m_tr m_fa m_od m_rc m_be m_ft m_tp m_td m_tk m_bg m_en m_vl m_sg m_wi m_si m_ce m_ca) rfl ?_
        have hk := hk
        simp only [c1, c2, cond_true, cond_false] at hk
        first | exact hk | (simp only [c1, c2, cond_true, cond_false]; exact hk)
    · skip
      refine hX_go 2 (25) [some (.ref 63), some (.int x0)] [.int 0] (hMm c0 m_s m_kp m_as m_ik m_fo m_tl m_tr m_fa m_od m_rc m_be m_ft m_tp m_td m_tk m_bg m_en m_vl m_sg m_wi m_si m_ce m_ca) rfl ?_
      have hk := hk
      simp only [c1, cond_true, cond_false] at hk
      first | exact hk | (simp only [c1, cond_true, cond_false]; exact hk)
  exact hX_end rfl (rfl) (rfl)

/-- UpOneSideModel.isTold(III)Z -/
def v_187_63 (x0 : Int32) (x1 : Int32) (x2 : Int32) (m_si : Nat → Int32) (m_ce : Nat → Int32) : Int32 := bif gCmp .ge x1 (m_si (Int32.toNatClampNeg x0)) then 1 else (bif gCmp .eq (m_ce (Int32.toNatClampNeg ((40 * x0) + x1))) (-1) then 1 else (bif gCmp .ne (m_ce (Int32.toNatClampNeg ((40 * x0) + x1))) x2 then 0 else 1))
set_option maxRecDepth 20000 in
set_option maxHeartbeats 1000000 in
theorem ct_187_63 {LL : Nat} {xs : Nat → Int32} {D : Nat} {c0 : Nat → gE} {m_s : Nat → Int32} {m_kp : Nat → Int32} {m_as : Nat → Int32} {m_ik : Int32} {m_fo : Nat → Int32} {m_tl : Int32} {m_tr : Int32} {m_fa : Nat → Int32} {m_od : Nat → Int32} {m_rc : Int32} {m_be : Nat → Int32} {m_ft : Int32} {m_tp : Nat → Int32} {m_td : Int32} {m_tk : Int32} {m_bg : Int32} {m_en : Int32} {m_vl : Int64} {m_sg : Int32} {m_wi : Nat → Int32} {m_si : Nat → Int32} {m_ce : Nat → Int32} {m_ca : Nat → Int32} (x0 : Int32) (x1 : Int32) (x2 : Int32) (o1 : gIn x0 4 = true) (o2 : gCmp .ge x1 (m_si (Int32.toNatClampNeg x0)) = false → gIn ((40 * x0) + x1) 160 = true) : hM (gO LL xs) (D + 0) zR_187 [.ref 63, .int x0, .int x1, .int x2] (hMm c0 m_s m_kp m_as m_ik m_fo m_tl m_tr m_fa m_od m_rc m_be m_ft m_tp m_td m_tk m_bg m_en m_vl m_sg m_wi m_si m_ce m_ca) (some (.int (v_187_63 x0 x1 x2 m_si m_ce))) (hMm c0 m_s m_kp m_as m_ik m_fo m_tl m_tr m_fa m_od m_rc m_be m_ft m_tp m_td m_tk m_bg m_en m_vl m_sg m_wi m_si m_ce m_ca) := by
  refine hX_go 0 0 [some (.ref 63), some (.int x0), some (.int x1), some (.int x2)] [] (hMm c0 m_s m_kp m_as m_ik m_fo m_tl m_tr m_fa m_od m_rc m_be m_ft m_tp m_td m_tk m_bg m_en m_vl m_sg m_wi m_si m_ce m_ca) rfl ?_
  refine hX_go 4 (6) [some (.ref 63), some (.int x0), some (.int x1), some (.int x2)] [.int x0, .ref 76, .int x1] (hMm c0 m_s m_kp m_as m_ik m_fo m_tl m_tr m_fa m_od m_rc m_be m_ft m_tp m_td m_tk m_bg m_en m_vl m_sg m_wi m_si m_ce m_ca) rfl ?_
  refine hX_g (gIn x0 4) 7 [some (.ref 63), some (.int x0), some (.int x1), some (.int x2)] [.int (m_si (Int32.toNatClampNeg x0)), .int x1] (hMm c0 m_s m_kp m_as m_ik m_fo m_tl m_tr m_fa m_od m_rc m_be m_ft m_tp m_td m_tk m_bg m_en m_vl m_sg m_wi m_si m_ce m_ca) rfl o1 ?_
  refine hX_go 1 (bif gCmp .ge x1 (m_si (Int32.toNatClampNeg x0)) then 40 else 10) [some (.ref 63), some (.int x0), some (.int x1), some (.int x2)] [] (hMm c0 m_s m_kp m_as m_ik m_fo m_tl m_tr m_fa m_od m_rc m_be m_ft m_tp m_td m_tk m_bg m_en m_vl m_sg m_wi m_si m_ce m_ca) rfl ?_
  refine hX_if (gCmp .ge x1 (m_si (Int32.toNatClampNeg x0))) (fun c1 => ?_) (fun c1 => ?_)
  · skip
    refine hX_go 2 (45) [some (.ref 63), some (.int x0), some (.int x1), some (.int x2)] [.int 1] (hMm c0 m_s m_kp m_as m_ik m_fo m_tl m_tr m_fa m_od m_rc m_be m_ft m_tp m_td m_tk m_bg m_en m_vl m_sg m_wi m_si m_ce m_ca) rfl ?_
    exact hX_end rfl (by unfold v_187_63; rw [c1]; rfl) (rfl)
  · skip
    refine hX_go 7 (20) [some (.ref 63), some (.int x0), some (.int x1), some (.int x2)] [.int ((40 * x0) + x1), .ref 77] (hMm c0 m_s m_kp m_as m_ik m_fo m_tl m_tr m_fa m_od m_rc m_be m_ft m_tp m_td m_tk m_bg m_en m_vl m_sg m_wi m_si m_ce m_ca) rfl ?_
    refine hX_g (gIn ((40 * x0) + x1) 160) 21 [some (.ref 63), some (.int x0), some (.int x1), some (.int x2)] [.int (m_ce (Int32.toNatClampNeg ((40 * x0) + x1)))] (hMm c0 m_s m_kp m_as m_ik m_fo m_tl m_tr m_fa m_od m_rc m_be m_ft m_tp m_td m_tk m_bg m_en m_vl m_sg m_wi m_si m_ce m_ca) rfl (o2 c1) ?_
    refine hX_go 2 (bif gCmp .eq (m_ce (Int32.toNatClampNeg ((40 * x0) + x1))) (-1) then 40 else 25) [some (.ref 63), some (.int x0), some (.int x1), some (.int x2)] [] (hMm c0 m_s m_kp m_as m_ik m_fo m_tl m_tr m_fa m_od m_rc m_be m_ft m_tp m_td m_tk m_bg m_en m_vl m_sg m_wi m_si m_ce m_ca) rfl ?_
    refine hX_if (gCmp .eq (m_ce (Int32.toNatClampNeg ((40 * x0) + x1))) (-1)) (fun c2 => ?_) (fun c2 => ?_)
    · skip
      refine hX_go 2 (45) [some (.ref 63), some (.int x0), some (.int x1), some (.int x2)] [.int 1] (hMm c0 m_s m_kp m_as m_ik m_fo m_tl m_tr m_fa m_od m_rc m_be m_ft m_tp m_td m_tk m_bg m_en m_vl m_sg m_wi m_si m_ce m_ca) rfl ?_
      exact hX_end rfl (by unfold v_187_63; rw [c1, c2]; rfl) (rfl)
    · skip
      refine hX_go 7 (35) [some (.ref 63), some (.int x0), some (.int x1), some (.int x2)] [.int ((40 * x0) + x1), .ref 77] (hMm c0 m_s m_kp m_as m_ik m_fo m_tl m_tr m_fa m_od m_rc m_be m_ft m_tp m_td m_tk m_bg m_en m_vl m_sg m_wi m_si m_ce m_ca) rfl ?_
      refine hX_g (gIn ((40 * x0) + x1) 160) 36 [some (.ref 63), some (.int x0), some (.int x1), some (.int x2)] [.int (m_ce (Int32.toNatClampNeg ((40 * x0) + x1)))] (hMm c0 m_s m_kp m_as m_ik m_fo m_tl m_tr m_fa m_od m_rc m_be m_ft m_tp m_td m_tk m_bg m_en m_vl m_sg m_wi m_si m_ce m_ca) rfl (o2 c1) ?_
      refine hX_go 2 (bif gCmp .ne (m_ce (Int32.toNatClampNeg ((40 * x0) + x1))) x2 then 44 else 40) [some (.ref 63), some (.int x0), some (.int x1), some (.int x2)] [] (hMm c0 m_s m_kp m_as m_ik m_fo m_tl m_tr m_fa m_od m_rc m_be m_ft m_tp m_td m_tk m_bg m_en m_vl m_sg m_wi m_si m_ce m_ca) rfl ?_
      refine hX_if (gCmp .ne (m_ce (Int32.toNatClampNeg ((40 * x0) + x1))) x2) (fun c3 => ?_) (fun c3 => ?_)
      · skip
        refine hX_go 1 (45) [some (.ref 63), some (.int x0), some (.int x1), some (.int x2)] [.int 0] (hMm c0 m_s m_kp m_as m_ik m_fo m_tl m_tr m_fa m_od m_rc m_be m_ft m_tp m_td m_tk m_bg m_en m_vl m_sg m_wi m_si m_ce m_ca) rfl ?_
        exact hX_end rfl (by unfold v_187_63; rw [c1, c2, c3]; rfl) (rfl)
      · skip
        refine hX_go 2 (45) [some (.ref 63), some (.int x0), some (.int x1), some (.int x2)] [.int 1] (hMm c0 m_s m_kp m_as m_ik m_fo m_tl m_tr m_fa m_od m_rc m_be m_ft m_tp m_td m_tk m_bg m_en m_vl m_sg m_wi m_si m_ce m_ca) rfl ?_
        exact hX_end rfl (by unfold v_187_63; rw [c1, c2, c3]; rfl) (rfl)

theorem bz_187_63 (x0 : Int32) (x1 : Int32) (x2 : Int32) (m_si : Nat → Int32) (m_ce : Nat → Int32) : (decide (v_187_63 x0 x1 x2 m_si m_ce = 0) || decide (v_187_63 x0 x1 x2 m_si m_ce = 1)) = true := by
  unfold v_187_63
  cases (gCmp .ge x1 (m_si (Int32.toNatClampNeg x0)))
  · cases (gCmp .eq (m_ce (Int32.toNatClampNeg ((40 * x0) + x1))) (-1))
    · cases (gCmp .ne (m_ce (Int32.toNatClampNeg ((40 * x0) + x1))) x2)
      · rfl
      · rfl
    · rfl
  · rfl

/-- UpOneSideModel.wrongFit(II)I -/
def v_189_63 (x0 : Int32) (x1 : Int32) (m_s : Nat → Int32) (m_wi : Nat → Int32) : Int32 := bif gCmp .lt (v_186_63 x0 m_wi) 0 then (bif gCmp .eq (v_129_63 x1 m_s) 0 then 0 else (-1)) else (v_186_63 x0 m_wi)
set_option maxRecDepth 20000 in
set_option maxHeartbeats 1000000 in
theorem ct_189_63 {LL : Nat} {xs : Nat → Int32} {D : Nat} {c0 : Nat → gE} {m_s : Nat → Int32} {m_kp : Nat → Int32} {m_as : Nat → Int32} {m_ik : Int32} {m_fo : Nat → Int32} {m_tl : Int32} {m_tr : Int32} {m_fa : Nat → Int32} {m_od : Nat → Int32} {m_rc : Int32} {m_be : Nat → Int32} {m_ft : Int32} {m_tp : Nat → Int32} {m_td : Int32} {m_tk : Int32} {m_bg : Int32} {m_en : Int32} {m_vl : Int64} {m_sg : Int32} {m_wi : Nat → Int32} {m_si : Nat → Int32} {m_ce : Nat → Int32} {m_ca : Nat → Int32} (x0 : Int32) (x1 : Int32) (o1 : gCmp .ne (v_185 x0) 0 = true → gIn x0 4 = true) : hM (gO LL xs) (D + 3) zR_189 [.ref 63, .int x0, .int x1] (hMm c0 m_s m_kp m_as m_ik m_fo m_tl m_tr m_fa m_od m_rc m_be m_ft m_tp m_td m_tk m_bg m_en m_vl m_sg m_wi m_si m_ce m_ca) (some (.int (v_189_63 x0 x1 m_s m_wi))) (hMm c0 m_s m_kp m_as m_ik m_fo m_tl m_tr m_fa m_od m_rc m_be m_ft m_tp m_td m_tk m_bg m_en m_vl m_sg m_wi m_si m_ce m_ca) := by
  refine hX_go 0 0 [some (.ref 63), some (.int x0), some (.int x1), none] [] (hMm c0 m_s m_kp m_as m_ik m_fo m_tl m_tr m_fa m_od m_rc m_be m_ft m_tp m_td m_tk m_bg m_en m_vl m_sg m_wi m_si m_ce m_ca) rfl ?_
  refine hX_go 2 (2) [some (.ref 63), some (.int x0), some (.int x1), none] [.int x0, .ref 63] (hMm c0 m_s m_kp m_as m_ik m_fo m_tl m_tr m_fa m_od m_rc m_be m_ft m_tp m_td m_tk m_bg m_en m_vl m_sg m_wi m_si m_ce m_ca) rfl ?_
  refine hX_call (r' := zR_186) rfl (ct_186_63 x0 o1) ?_
  refine hX_go 3 (bif gCmp .lt (v_186_63 x0 m_wi) 0 then 14 else 10) [some (.ref 63), some (.int x0), some (.int x1), some (.int (v_186_63 x0 m_wi))] [] (hMm c0 m_s m_kp m_as m_ik m_fo m_tl m_tr m_fa m_od m_rc m_be m_ft m_tp m_td m_tk m_bg m_en m_vl m_sg m_wi m_si m_ce m_ca) rfl ?_
  suffices hk : hX (gO LL xs) (D + 3) zR_189 27 [some (.ref 63), some (.int x0), some (.int x1), some (.int (v_186_63 x0 m_wi))] [.int (bif gCmp .lt (v_186_63 x0 m_wi) 0 then (bif gCmp .eq (v_129_63 x1 m_s) 0 then 0 else (-1)) else (v_186_63 x0 m_wi))] (hMm c0 m_s m_kp m_as m_ik m_fo m_tl m_tr m_fa m_od m_rc m_be m_ft m_tp m_td m_tk m_bg m_en m_vl m_sg m_wi m_si m_ce m_ca) (some (.int (v_189_63 x0 x1 m_s m_wi))) (hMm c0 m_s m_kp m_as m_ik m_fo m_tl m_tr m_fa m_od m_rc m_be m_ft m_tp m_td m_tk m_bg m_en m_vl m_sg m_wi m_si m_ce m_ca) by
    refine hX_if (gCmp .lt (v_186_63 x0 m_wi) 0) (fun c1 => ?_) (fun c1 => ?_)
    · skip
      refine hX_go 2 (16) [some (.ref 63), some (.int x0), some (.int x1), some (.int (v_186_63 x0 m_wi))] [.int x1, .ref 63] (hMm c0 m_s m_kp m_as m_ik m_fo m_tl m_tr m_fa m_od m_rc m_be m_ft m_tp m_td m_tk m_bg m_en m_vl m_sg m_wi m_si m_ce m_ca) rfl ?_
      refine hX_call (r' := zR_129) rfl (ct_129_63 x1) ?_
      refine hX_go 1 (bif gCmp .eq (v_129_63 x1 m_s) 0 then 26 else 22) [some (.ref 63), some (.int x0), some (.int x1), some (.int (v_186_63 x0 m_wi))] [] (hMm c0 m_s m_kp m_as m_ik m_fo m_tl m_tr m_fa m_od m_rc m_be m_ft m_tp m_td m_tk m_bg m_en m_vl m_sg m_wi m_si m_ce m_ca) rfl ?_
      refine hX_if (gCmp .eq (v_129_63 x1 m_s) 0) (fun c2 => ?_) (fun c2 => ?_)
      · skip
        refine hX_go 1 (27) [some (.ref 63), some (.int x0), some (.int x1), some (.int (v_186_63 x0 m_wi))] [.int 0] (hMm c0 m_s m_kp m_as m_ik m_fo m_tl m_tr m_fa m_od m_rc m_be m_ft m_tp m_td m_tk m_bg m_en m_vl m_sg m_wi m_si m_ce m_ca) rfl ?_
        have hk := hk
        simp only [c1, c2, cond_true, cond_false] at hk
        first | exact hk | (simp only [c1, c2, cond_true, cond_false]; exact hk)
      · skip
        refine hX_go 2 (27) [some (.ref 63), some (.int x0), some (.int x1), some (.int (v_186_63 x0 m_wi))] [.int (-1)] (hMm c0 m_s m_kp m_as m_ik m_fo m_tl m_tr m_fa m_od m_rc m_be m_ft m_tp m_td m_tk m_bg m_en m_vl m_sg m_wi m_si m_ce m_ca) rfl ?_
        have hk := hk
        simp only [c1, c2, cond_true, cond_false] at hk
        first | exact hk | (simp only [c1, c2, cond_true, cond_false]; exact hk)
    · skip
      refine hX_go 2 (27) [some (.ref 63), some (.int x0), some (.int x1), some (.int (v_186_63 x0 m_wi))] [.int (v_186_63 x0 m_wi)] (hMm c0 m_s m_kp m_as m_ik m_fo m_tl m_tr m_fa m_od m_rc m_be m_ft m_tp m_td m_tk m_bg m_en m_vl m_sg m_wi m_si m_ce m_ca) rfl ?_
      have hk := hk
      simp only [c1, cond_true, cond_false] at hk
      first | exact hk | (simp only [c1, cond_true, cond_false]; exact hk)
  exact hX_end rfl (rfl) (rfl)

/-- UpOneSideModel.draw()I -/
def v_192_63 (m_s : Nat → Int32) : Int32 := (((upd m_s 4 (((m_s 4) * 1103515245) + 12345)) 4).toUInt32 >>> ((8 : Int32).toUInt32 &&& Int32.toUInt32 31)).toInt32
def f_192_63_m_s (m_s : Nat → Int32) : Nat → Int32 := upd m_s 4 (((m_s 4) * 1103515245) + 12345)
set_option maxRecDepth 20000 in
set_option maxHeartbeats 1000000 in
theorem ct_192_63 {LL : Nat} {xs : Nat → Int32} {D : Nat} {c0 : Nat → gE} {m_s : Nat → Int32} {m_kp : Nat → Int32} {m_as : Nat → Int32} {m_ik : Int32} {m_fo : Nat → Int32} {m_tl : Int32} {m_tr : Int32} {m_fa : Nat → Int32} {m_od : Nat → Int32} {m_rc : Int32} {m_be : Nat → Int32} {m_ft : Int32} {m_tp : Nat → Int32} {m_td : Int32} {m_tk : Int32} {m_bg : Int32} {m_en : Int32} {m_vl : Int64} {m_sg : Int32} {m_wi : Nat → Int32} {m_si : Nat → Int32} {m_ce : Nat → Int32} {m_ca : Nat → Int32} : hM (gO LL xs) (D + 0) zR_192 [.ref 63] (hMm c0 m_s m_kp m_as m_ik m_fo m_tl m_tr m_fa m_od m_rc m_be m_ft m_tp m_td m_tk m_bg m_en m_vl m_sg m_wi m_si m_ce m_ca) (some (.int (v_192_63 m_s))) (hMm c0 (f_192_63_m_s m_s) m_kp m_as m_ik m_fo m_tl m_tr m_fa m_od m_rc m_be m_ft m_tp m_td m_tk m_bg m_en m_vl m_sg m_wi m_si m_ce m_ca) := by
  refine hX_go 0 0 [some (.ref 63)] [] (hMm c0 m_s m_kp m_as m_ik m_fo m_tl m_tr m_fa m_od m_rc m_be m_ft m_tp m_td m_tk m_bg m_en m_vl m_sg m_wi m_si m_ce m_ca) rfl ?_
  refine hX_go 9 (14) [some (.ref 63)] [.int ((m_s 4) * 1103515245), .int 4, .ref 64] (hMm c0 m_s m_kp m_as m_ik m_fo m_tl m_tr m_fa m_od m_rc m_be m_ft m_tp m_td m_tk m_bg m_en m_vl m_sg m_wi m_si m_ce m_ca) rfl ?_
  refine hX_go 9 (28) [some (.ref 63)] [.int ((((upd m_s 4 (((m_s 4) * 1103515245) + 12345)) 4).toUInt32 >>> ((8 : Int32).toUInt32 &&& Int32.toUInt32 31)).toInt32)] (hMm c0 (upd m_s 4 (((m_s 4) * 1103515245) + 12345)) m_kp m_as m_ik m_fo m_tl m_tr m_fa m_od m_rc m_be m_ft m_tp m_td m_tk m_bg m_en m_vl m_sg m_wi m_si m_ce m_ca) rfl ?_
  exact hX_end rfl (rfl) (rfl)

/-- UpOneSideModel.seed(I)I -/
def v_194_63 (m_s : Nat → Int32) : Int32 := m_s 4
def f_194_63_m_s (x0 : Int32) (m_s : Nat → Int32) : Nat → Int32 := upd m_s 4 x0
set_option maxRecDepth 20000 in
set_option maxHeartbeats 1000000 in
theorem ct_194_63 {LL : Nat} {xs : Nat → Int32} {D : Nat} {c0 : Nat → gE} {m_s : Nat → Int32} {m_kp : Nat → Int32} {m_as : Nat → Int32} {m_ik : Int32} {m_fo : Nat → Int32} {m_tl : Int32} {m_tr : Int32} {m_fa : Nat → Int32} {m_od : Nat → Int32} {m_rc : Int32} {m_be : Nat → Int32} {m_ft : Int32} {m_tp : Nat → Int32} {m_td : Int32} {m_tk : Int32} {m_bg : Int32} {m_en : Int32} {m_vl : Int64} {m_sg : Int32} {m_wi : Nat → Int32} {m_si : Nat → Int32} {m_ce : Nat → Int32} {m_ca : Nat → Int32} (x0 : Int32) : hM (gO LL xs) (D + 0) zR_194 [.ref 63, .int x0] (hMm c0 m_s m_kp m_as m_ik m_fo m_tl m_tr m_fa m_od m_rc m_be m_ft m_tp m_td m_tk m_bg m_en m_vl m_sg m_wi m_si m_ce m_ca) (some (.int (v_194_63 m_s))) (hMm c0 (f_194_63_m_s x0 m_s) m_kp m_as m_ik m_fo m_tl m_tr m_fa m_od m_rc m_be m_ft m_tp m_td m_tk m_bg m_en m_vl m_sg m_wi m_si m_ce m_ca) := by
  refine hX_go 0 0 [some (.ref 63), some (.int x0), none] [] (hMm c0 m_s m_kp m_as m_ik m_fo m_tl m_tr m_fa m_od m_rc m_be m_ft m_tp m_td m_tk m_bg m_en m_vl m_sg m_wi m_si m_ce m_ca) rfl ?_
  refine hX_go 9 (13) [some (.ref 63), some (.int x0), some (.int (m_s 4))] [.int x0, .int 4, .ref 64] (hMm c0 m_s m_kp m_as m_ik m_fo m_tl m_tr m_fa m_od m_rc m_be m_ft m_tp m_td m_tk m_bg m_en m_vl m_sg m_wi m_si m_ce m_ca) rfl ?_
  refine hX_go 2 (15) [some (.ref 63), some (.int x0), some (.int (m_s 4))] [.int (m_s 4)] (hMm c0 (upd m_s 4 x0) m_kp m_as m_ik m_fo m_tl m_tr m_fa m_od m_rc m_be m_ft m_tp m_td m_tk m_bg m_en m_vl m_sg m_wi m_si m_ce m_ca) rfl ?_
  exact hX_end rfl (rfl) (rfl)

/-- UpOneSideModel.wipe()I -/
def f_198_63_m_td : Int32 := 0
set_option maxRecDepth 20000 in
set_option maxHeartbeats 1000000 in
theorem ct_198_63 {LL : Nat} {xs : Nat → Int32} {D : Nat} {c0 : Nat → gE} {m_s : Nat → Int32} {m_kp : Nat → Int32} {m_as : Nat → Int32} {m_ik : Int32} {m_fo : Nat → Int32} {m_tl : Int32} {m_tr : Int32} {m_fa : Nat → Int32} {m_od : Nat → Int32} {m_rc : Int32} {m_be : Nat → Int32} {m_ft : Int32} {m_tp : Nat → Int32} {m_td : Int32} {m_tk : Int32} {m_bg : Int32} {m_en : Int32} {m_vl : Int64} {m_sg : Int32} {m_wi : Nat → Int32} {m_si : Nat → Int32} {m_ce : Nat → Int32} {m_ca : Nat → Int32} : hM (gO LL xs) (D + 0) zR_198 [.ref 63] (hMm c0 m_s m_kp m_as m_ik m_fo m_tl m_tr m_fa m_od m_rc m_be m_ft m_tp m_td m_tk m_bg m_en m_vl m_sg m_wi m_si m_ce m_ca) (some (.int m_td)) (hMm c0 m_s m_kp m_as m_ik m_fo m_tl m_tr m_fa m_od m_rc m_be m_ft m_tp f_198_63_m_td m_tk m_bg m_en m_vl m_sg m_wi m_si m_ce m_ca) := by
  refine hX_go 0 0 [some (.ref 63), none] [] (hMm c0 m_s m_kp m_as m_ik m_fo m_tl m_tr m_fa m_od m_rc m_be m_ft m_tp m_td m_tk m_bg m_en m_vl m_sg m_wi m_si m_ce m_ca) rfl ?_
  refine hX_go 7 (11) [some (.ref 63), some (.int m_td)] [.int m_td] (hMm c0 m_s m_kp m_as m_ik m_fo m_tl m_tr m_fa m_od m_rc m_be m_ft m_tp 0 m_tk m_bg m_en m_vl m_sg m_wi m_si m_ce m_ca) rfl ?_
  exact hX_end rfl (rfl) (rfl)

/-- UpOneSideModel.isLetter(I)Z -/
def v_199 (x0 : Int32) : Int32 := v_125 x0 97 122
set_option maxRecDepth 20000 in
set_option maxHeartbeats 1000000 in
theorem ct_199 {LL : Nat} {xs : Nat → Int32} {D : Nat} {c0 : Nat → gE} {m_s : Nat → Int32} {m_kp : Nat → Int32} {m_as : Nat → Int32} {m_ik : Int32} {m_fo : Nat → Int32} {m_tl : Int32} {m_tr : Int32} {m_fa : Nat → Int32} {m_od : Nat → Int32} {m_rc : Int32} {m_be : Nat → Int32} {m_ft : Int32} {m_tp : Nat → Int32} {m_td : Int32} {m_tk : Int32} {m_bg : Int32} {m_en : Int32} {m_vl : Int64} {m_sg : Int32} {m_wi : Nat → Int32} {m_si : Nat → Int32} {m_ce : Nat → Int32} {m_ca : Nat → Int32} (x0 : Int32) : hM (gO LL xs) (D + 1) zR_199 [.int x0] (hMm c0 m_s m_kp m_as m_ik m_fo m_tl m_tr m_fa m_od m_rc m_be m_ft m_tp m_td m_tk m_bg m_en m_vl m_sg m_wi m_si m_ce m_ca) (some (.int (v_199 x0))) (hMm c0 m_s m_kp m_as m_ik m_fo m_tl m_tr m_fa m_od m_rc m_be m_ft m_tp m_td m_tk m_bg m_en m_vl m_sg m_wi m_si m_ce m_ca) := by
  refine hX_go 0 0 [some (.int x0)] [] (hMm c0 m_s m_kp m_as m_ik m_fo m_tl m_tr m_fa m_od m_rc m_be m_ft m_tp m_td m_tk m_bg m_en m_vl m_sg m_wi m_si m_ce m_ca) rfl ?_
  refine hX_go 3 (5) [some (.int x0)] [.int 122, .int 97, .int x0] (hMm c0 m_s m_kp m_as m_ik m_fo m_tl m_tr m_fa m_od m_rc m_be m_ft m_tp m_td m_tk m_bg m_en m_vl m_sg m_wi m_si m_ce m_ca) rfl ?_
  refine hX_call (r' := zR_125) rfl (ct_125 x0 97 122) ?_
  refine hX_go 0 (8) [some (.int x0)] [.int (v_125 x0 97 122)] (hMm c0 m_s m_kp m_as m_ik m_fo m_tl m_tr m_fa m_od m_rc m_be m_ft m_tp m_td m_tk m_bg m_en m_vl m_sg m_wi m_si m_ce m_ca) rfl ?_
  exact hX_endZ rfl (bz_125 x0 97 122) (rfl) (rfl)

theorem bz_199 (x0 : Int32) : (decide (v_199 x0 = 0) || decide (v_199 x0 = 1)) = true := by
  unfold v_199
  exact (bz_125 x0 97 122)

/-- UpOneSideModel.isDigit(I)Z -/
def v_200 (x0 : Int32) : Int32 := v_125 x0 48 57
set_option maxRecDepth 20000 in
set_option maxHeartbeats 1000000 in
theorem ct_200 {LL : Nat} {xs : Nat → Int32} {D : Nat} {c0 : Nat → gE} {m_s : Nat → Int32} {m_kp : Nat → Int32} {m_as : Nat → Int32} {m_ik : Int32} {m_fo : Nat → Int32} {m_tl : Int32} {m_tr : Int32} {m_fa : Nat → Int32} {m_od : Nat → Int32} {m_rc : Int32} {m_be : Nat → Int32} {m_ft : Int32} {m_tp : Nat → Int32} {m_td : Int32} {m_tk : Int32} {m_bg : Int32} {m_en : Int32} {m_vl : Int64} {m_sg : Int32} {m_wi : Nat → Int32} {m_si : Nat → Int32} {m_ce : Nat → Int32} {m_ca : Nat → Int32} (x0 : Int32) : hM (gO LL xs) (D + 1) zR_200 [.int x0] (hMm c0 m_s m_kp m_as m_ik m_fo m_tl m_tr m_fa m_od m_rc m_be m_ft m_tp m_td m_tk m_bg m_en m_vl m_sg m_wi m_si m_ce m_ca) (some (.int (v_200 x0))) (hMm c0 m_s m_kp m_as m_ik m_fo m_tl m_tr m_fa m_od m_rc m_be m_ft m_tp m_td m_tk m_bg m_en m_vl m_sg m_wi m_si m_ce m_ca) := by
  refine hX_go 0 0 [some (.int x0)] [] (hMm c0 m_s m_kp m_as m_ik m_fo m_tl m_tr m_fa m_od m_rc m_be m_ft m_tp m_td m_tk m_bg m_en m_vl m_sg m_wi m_si m_ce m_ca) rfl ?_
  refine hX_go 3 (5) [some (.int x0)] [.int 57, .int 48, .int x0] (hMm c0 m_s m_kp m_as m_ik m_fo m_tl m_tr m_fa m_od m_rc m_be m_ft m_tp m_td m_tk m_bg m_en m_vl m_sg m_wi m_si m_ce m_ca) rfl ?_
  refine hX_call (r' := zR_125) rfl (ct_125 x0 48 57) ?_
  refine hX_go 0 (8) [some (.int x0)] [.int (v_125 x0 48 57)] (hMm c0 m_s m_kp m_as m_ik m_fo m_tl m_tr m_fa m_od m_rc m_be m_ft m_tp m_td m_tk m_bg m_en m_vl m_sg m_wi m_si m_ce m_ca) rfl ?_
  exact hX_endZ rfl (bz_125 x0 48 57) (rfl) (rfl)

theorem bz_200 (x0 : Int32) : (decide (v_200 x0 = 0) || decide (v_200 x0 = 1)) = true := by
  unfold v_200
  exact (bz_125 x0 48 57)

/-- UpOneSideModel.isSpot(I)Z -/
def v_209 (x0 : Int32) : Int32 := v_125 x0 0 9
set_option maxRecDepth 20000 in
set_option maxHeartbeats 1000000 in
theorem ct_209 {LL : Nat} {xs : Nat → Int32} {D : Nat} {c0 : Nat → gE} {m_s : Nat → Int32} {m_kp : Nat → Int32} {m_as : Nat → Int32} {m_ik : Int32} {m_fo : Nat → Int32} {m_tl : Int32} {m_tr : Int32} {m_fa : Nat → Int32} {m_od : Nat → Int32} {m_rc : Int32} {m_be : Nat → Int32} {m_ft : Int32} {m_tp : Nat → Int32} {m_td : Int32} {m_tk : Int32} {m_bg : Int32} {m_en : Int32} {m_vl : Int64} {m_sg : Int32} {m_wi : Nat → Int32} {m_si : Nat → Int32} {m_ce : Nat → Int32} {m_ca : Nat → Int32} (x0 : Int32) : hM (gO LL xs) (D + 1) zR_209 [.int x0] (hMm c0 m_s m_kp m_as m_ik m_fo m_tl m_tr m_fa m_od m_rc m_be m_ft m_tp m_td m_tk m_bg m_en m_vl m_sg m_wi m_si m_ce m_ca) (some (.int (v_209 x0))) (hMm c0 m_s m_kp m_as m_ik m_fo m_tl m_tr m_fa m_od m_rc m_be m_ft m_tp m_td m_tk m_bg m_en m_vl m_sg m_wi m_si m_ce m_ca) := by
  refine hX_go 0 0 [some (.int x0)] [] (hMm c0 m_s m_kp m_as m_ik m_fo m_tl m_tr m_fa m_od m_rc m_be m_ft m_tp m_td m_tk m_bg m_en m_vl m_sg m_wi m_si m_ce m_ca) rfl ?_
  refine hX_go 3 (4) [some (.int x0)] [.int 9, .int 0, .int x0] (hMm c0 m_s m_kp m_as m_ik m_fo m_tl m_tr m_fa m_od m_rc m_be m_ft m_tp m_td m_tk m_bg m_en m_vl m_sg m_wi m_si m_ce m_ca) rfl ?_
  refine hX_call (r' := zR_125) rfl (ct_125 x0 0 9) ?_
  refine hX_go 0 (7) [some (.int x0)] [.int (v_125 x0 0 9)] (hMm c0 m_s m_kp m_as m_ik m_fo m_tl m_tr m_fa m_od m_rc m_be m_ft m_tp m_td m_tk m_bg m_en m_vl m_sg m_wi m_si m_ce m_ca) rfl ?_
  exact hX_endZ rfl (bz_125 x0 0 9) (rfl) (rfl)

theorem bz_209 (x0 : Int32) : (decide (v_209 x0 = 0) || decide (v_209 x0 = 1)) = true := by
  unfold v_209
  exact (bz_125 x0 0 9)

/-- UpOneSideModel.hold(II)I -/
def v_210_63 (x0 : Int32) (x1 : Int32) (m_s : Nat → Int32) : Int32 := bif gCmp .eq (v_209 x0) 0 then (v_124_63 0) else (bif gCmp .eq x1 (-1) then 1 else (bif gCmp .ne (v_129_63 x1 m_s) 0 then 1 else (v_124_63 0)))
def f_210_63_m_s (x0 : Int32) (x1 : Int32) (m_s : Nat → Int32) : Nat → Int32 := bif gCmp .eq (v_209 x0) 0 then m_s else (bif gCmp .eq x1 (-1) then (upd m_s (Int32.toNatClampNeg (124 + x0)) x1) else (bif gCmp .ne (v_129_63 x1 m_s) 0 then (upd m_s (Int32.toNatClampNeg (124 + x0)) x1) else m_s))
def f_210_63_m_fo (x0 : Int32) (x1 : Int32) (m_s : Nat → Int32) (m_fo : Nat → Int32) : Nat → Int32 := bif gCmp .eq (v_209 x0) 0 then (f_124_63_m_fo 0 m_fo) else (bif gCmp .eq x1 (-1) then m_fo else (bif gCmp .ne (v_129_63 x1 m_s) 0 then m_fo else (f_124_63_m_fo 0 m_fo)))
set_option maxRecDepth 20000 in
set_option maxHeartbeats 1000000 in
theorem ct_210_63 {LL : Nat} {xs : Nat → Int32} {D : Nat} {c0 : Nat → gE} {m_s : Nat → Int32} {m_kp : Nat → Int32} {m_as : Nat → Int32} {m_ik : Int32} {m_fo : Nat → Int32} {m_tl : Int32} {m_tr : Int32} {m_fa : Nat → Int32} {m_od : Nat → Int32} {m_rc : Int32} {m_be : Nat → Int32} {m_ft : Int32} {m_tp : Nat → Int32} {m_td : Int32} {m_tk : Int32} {m_bg : Int32} {m_en : Int32} {m_vl : Int64} {m_sg : Int32} {m_wi : Nat → Int32} {m_si : Nat → Int32} {m_ce : Nat → Int32} {m_ca : Nat → Int32} (x0 : Int32) (x1 : Int32) (o1 : gCmp .eq (v_209 x0) 0 = true → gIn 0 7 = true) (o2 : gCmp .eq (v_209 x0) 0 = false → gCmp .eq x1 (-1) = true → gIn (124 + x0) 134 = true) (o3 : gCmp .eq (v_209 x0) 0 = false → gCmp .eq x1 (-1) = false → gCmp .ne (v_129_63 x1 m_s) 0 = true → gIn (124 + x0) 134 = true) (o4 : gCmp .eq (v_209 x0) 0 = false → gCmp .eq x1 (-1) = false → gCmp .ne (v_129_63 x1 m_s) 0 = false → gIn 0 7 = true) : hM (gO LL xs) (D + 2) zR_210 [.ref 63, .int x0, .int x1] (hMm c0 m_s m_kp m_as m_ik m_fo m_tl m_tr m_fa m_od m_rc m_be m_ft m_tp m_td m_tk m_bg m_en m_vl m_sg m_wi m_si m_ce m_ca) (some (.int (v_210_63 x0 x1 m_s))) (hMm c0 (f_210_63_m_s x0 x1 m_s) m_kp m_as m_ik (f_210_63_m_fo x0 x1 m_s m_fo) m_tl m_tr m_fa m_od m_rc m_be m_ft m_tp m_td m_tk m_bg m_en m_vl m_sg m_wi m_si m_ce m_ca) := by
  refine hX_go 0 0 [some (.ref 63), some (.int x0), some (.int x1)] [] (hMm c0 m_s m_kp m_as m_ik m_fo m_tl m_tr m_fa m_od m_rc m_be m_ft m_tp m_td m_tk m_bg m_en m_vl m_sg m_wi m_si m_ce m_ca) rfl ?_
  refine hX_go 1 (1) [some (.ref 63), some (.int x0), some (.int x1)] [.int x0] (hMm c0 m_s m_kp m_as m_ik m_fo m_tl m_tr m_fa m_od m_rc m_be m_ft m_tp m_td m_tk m_bg m_en m_vl m_sg m_wi m_si m_ce m_ca) rfl ?_
  refine hX_call (r' := zR_209) rfl (ct_209 x0) ?_
  refine hX_go 1 (bif gCmp .eq (v_209 x0) 0 then 20 else 7) [some (.ref 63), some (.int x0), some (.int x1)] [] (hMm c0 m_s m_kp m_as m_ik m_fo m_tl m_tr m_fa m_od m_rc m_be m_ft m_tp m_td m_tk m_bg m_en m_vl m_sg m_wi m_si m_ce m_ca) rfl ?_
  refine hX_if (gCmp .eq (v_209 x0) 0) (fun c1 => ?_) (fun c1 => ?_)
  · skip
    refine hX_go 2 (22) [some (.ref 63), some (.int x0), some (.int x1)] [.int 0, .ref 63] (hMm c0 m_s m_kp m_as m_ik m_fo m_tl m_tr m_fa m_od m_rc m_be m_ft m_tp m_td m_tk m_bg m_en m_vl m_sg m_wi m_si m_ce m_ca) rfl ?_
    refine hX_call (r' := zR_124) rfl (ct_124_63 0 (o1 c1)) ?_
    refine hX_go 0 (25) [some (.ref 63), some (.int x0), some (.int x1)] [.int (v_124_63 0)] (hMm c0 m_s m_kp m_as m_ik (f_124_63_m_fo 0 m_fo) m_tl m_tr m_fa m_od m_rc m_be m_ft m_tp m_td m_tk m_bg m_en m_vl m_sg m_wi m_si m_ce m_ca) rfl ?_
    exact hX_end rfl (by unfold v_210_63; rw [c1]; rfl) (by unfold f_210_63_m_s; rw [c1]; unfold f_210_63_m_fo; rw [c1]; rfl)
  · skip
    refine hX_go 3 (bif gCmp .eq x1 (-1) then 26 else 12) [some (.ref 63), some (.int x0), some (.int x1)] [] (hMm c0 m_s m_kp m_as m_ik m_fo m_tl m_tr m_fa m_od m_rc m_be m_ft m_tp m_td m_tk m_bg m_en m_vl m_sg m_wi m_si m_ce m_ca) rfl ?_
    refine hX_if (gCmp .eq x1 (-1)) (fun c2 => ?_) (fun c2 => ?_)
    · skip
      refine hX_go 6 (35) [some (.ref 63), some (.int x0), some (.int x1)] [.int x1, .int (124 + x0), .ref 64] (hMm c0 m_s m_kp m_as m_ik m_fo m_tl m_tr m_fa m_od m_rc m_be m_ft m_tp m_td m_tk m_bg m_en m_vl m_sg m_wi m_si m_ce m_ca) rfl ?_
      refine hX_g (gIn (124 + x0) 134) 36 [some (.ref 63), some (.int x0), some (.int x1)] [] (hMm c0 (upd m_s (Int32.toNatClampNeg (124 + x0)) x1) m_kp m_as m_ik m_fo m_tl m_tr m_fa m_od m_rc m_be m_ft m_tp m_td m_tk m_bg m_en m_vl m_sg m_wi m_si m_ce m_ca) rfl (o2 c1 c2) ?_
      refine hX_go 1 (37) [some (.ref 63), some (.int x0), some (.int x1)] [.int 1] (hMm c0 (upd m_s (Int32.toNatClampNeg (124 + x0)) x1) m_kp m_as m_ik m_fo m_tl m_tr m_fa m_od m_rc m_be m_ft m_tp m_td m_tk m_bg m_en m_vl m_sg m_wi m_si m_ce m_ca) rfl ?_
      exact hX_end rfl (by unfold v_210_63; rw [c1, c2]; rfl) (by unfold f_210_63_m_s; rw [c1, c2]; unfold f_210_63_m_fo; rw [c1, c2]; rfl)
    · skip
      refine hX_go 2 (14) [some (.ref 63), some (.int x0), some (.int x1)] [.int x1, .ref 63] (hMm c0 m_s m_kp m_as m_ik m_fo m_tl m_tr m_fa m_od m_rc m_be m_ft m_tp m_td m_tk m_bg m_en m_vl m_sg m_wi m_si m_ce m_ca) rfl ?_
      refine hX_call (r' := zR_129) rfl (ct_129_63 x1) ?_
      refine hX_go 1 (bif gCmp .ne (v_129_63 x1 m_s) 0 then 26 else 20) [some (.ref 63), some (.int x0), some (.int x1)] [] (hMm c0 m_s m_kp m_as m_ik m_fo m_tl m_tr m_fa m_od m_rc m_be m_ft m_tp m_td m_tk m_bg m_en m_vl m_sg m_wi m_si m_ce m_ca) rfl ?_
      refine hX_if (gCmp .ne (v_129_63 x1 m_s) 0) (fun c3 => ?_) (fun c3 => ?_)
      · skip
        refine hX_go 6 (35) [some (.ref 63), some (.int x0), some (.int x1)] [.int x1, .int (124 + x0), .ref 64] (hMm c0 m_s m_kp m_as m_ik m_fo m_tl m_tr m_fa m_od m_rc m_be m_ft m_tp m_td m_tk m_bg m_en m_vl m_sg m_wi m_si m_ce m_ca) rfl ?_
        refine hX_g (gIn (124 + x0) 134) 36 [some (.ref 63), some (.int x0), some (.int x1)] [] (hMm c0 (upd m_s (Int32.toNatClampNeg (124 + x0)) x1) m_kp m_as m_ik m_fo m_tl m_tr m_fa m_od m_rc m_be m_ft m_tp m_td m_tk m_bg m_en m_vl m_sg m_wi m_si m_ce m_ca) rfl (o3 c1 c2 c3) ?_
        refine hX_go 1 (37) [some (.ref 63), some (.int x0), some (.int x1)] [.int 1] (hMm c0 (upd m_s (Int32.toNatClampNeg (124 + x0)) x1) m_kp m_as m_ik m_fo m_tl m_tr m_fa m_od m_rc m_be m_ft m_tp m_td m_tk m_bg m_en m_vl m_sg m_wi m_si m_ce m_ca) rfl ?_
        exact hX_end rfl (by unfold v_210_63; rw [c1, c2, c3]; rfl) (by unfold f_210_63_m_s; rw [c1, c2, c3]; unfold f_210_63_m_fo; rw [c1, c2, c3]; rfl)
      · skip
        refine hX_go 2 (22) [some (.ref 63), some (.int x0), some (.int x1)] [.int 0, .ref 63] (hMm c0 m_s m_kp m_as m_ik m_fo m_tl m_tr m_fa m_od m_rc m_be m_ft m_tp m_td m_tk m_bg m_en m_vl m_sg m_wi m_si m_ce m_ca) rfl ?_
        refine hX_call (r' := zR_124) rfl (ct_124_63 0 (o4 c1 c2 c3)) ?_
        refine hX_go 0 (25) [some (.ref 63), some (.int x0), some (.int x1)] [.int (v_124_63 0)] (hMm c0 m_s m_kp m_as m_ik (f_124_63_m_fo 0 m_fo) m_tl m_tr m_fa m_od m_rc m_be m_ft m_tp m_td m_tk m_bg m_en m_vl m_sg m_wi m_si m_ce m_ca) rfl ?_
        exact hX_end rfl (by unfold v_210_63; rw [c1, c2, c3]; rfl) (by unfold f_210_63_m_s; rw [c1, c2, c3]; unfold f_210_63_m_fo; rw [c1, c2, c3]; rfl)

/-- UpOneSideModel.above(I)I -/
def v_211 (x0 : Int32) : Int32 := bif gCmp .ne x0 6 then (bif gCmp .ne x0 4 then (bif gCmp .ne x0 3 then 0 else 2) else 3) else 5
set_option maxRecDepth 20000 in
set_option maxHeartbeats 1000000 in
theorem ct_211 {LL : Nat} {xs : Nat → Int32} {D : Nat} {c0 : Nat → gE} {m_s : Nat → Int32} {m_kp : Nat → Int32} {m_as : Nat → Int32} {m_ik : Int32} {m_fo : Nat → Int32} {m_tl : Int32} {m_tr : Int32} {m_fa : Nat → Int32} {m_od : Nat → Int32} {m_rc : Int32} {m_be : Nat → Int32} {m_ft : Int32} {m_tp : Nat → Int32} {m_td : Int32} {m_tk : Int32} {m_bg : Int32} {m_en : Int32} {m_vl : Int64} {m_sg : Int32} {m_wi : Nat → Int32} {m_si : Nat → Int32} {m_ce : Nat → Int32} {m_ca : Nat → Int32} (x0 : Int32) : hM (gO LL xs) (D + 0) zR_211 [.int x0] (hMm c0 m_s m_kp m_as m_ik m_fo m_tl m_tr m_fa m_od m_rc m_be m_ft m_tp m_td m_tk m_bg m_en m_vl m_sg m_wi m_si m_ce m_ca) (some (.int (v_211 x0))) (hMm c0 m_s m_kp m_as m_ik m_fo m_tl m_tr m_fa m_od m_rc m_be m_ft m_tp m_td m_tk m_bg m_en m_vl m_sg m_wi m_si m_ce m_ca) := by
  refine hX_go 0 0 [some (.int x0)] [] (hMm c0 m_s m_kp m_as m_ik m_fo m_tl m_tr m_fa m_od m_rc m_be m_ft m_tp m_td m_tk m_bg m_en m_vl m_sg m_wi m_si m_ce m_ca) rfl ?_
  refine hX_go 3 (bif gCmp .ne x0 6 then 10 else 6) [some (.int x0)] [] (hMm c0 m_s m_kp m_as m_ik m_fo m_tl m_tr m_fa m_od m_rc m_be m_ft m_tp m_td m_tk m_bg m_en m_vl m_sg m_wi m_si m_ce m_ca) rfl ?_
  suffices hk : hX (gO LL xs) (D + 0) zR_211 29 [some (.int x0)] [.int (bif gCmp .ne x0 6 then (bif gCmp .ne x0 4 then (bif gCmp .ne x0 3 then 0 else 2) else 3) else 5)] (hMm c0 m_s m_kp m_as m_ik m_fo m_tl m_tr m_fa m_od m_rc m_be m_ft m_tp m_td m_tk m_bg m_en m_vl m_sg m_wi m_si m_ce m_ca) (some (.int (v_211 x0))) (hMm c0 m_s m_kp m_as m_ik m_fo m_tl m_tr m_fa m_od m_rc m_be m_ft m_tp m_td m_tk m_bg m_en m_vl m_sg m_wi m_si m_ce m_ca) by
    refine hX_if (gCmp .ne x0 6) (fun c1 => ?_) (fun c1 => ?_)
    · skip
      refine hX_go 3 (bif gCmp .ne x0 4 then 19 else 15) [some (.int x0)] [] (hMm c0 m_s m_kp m_as m_ik m_fo m_tl m_tr m_fa m_od m_rc m_be m_ft m_tp m_td m_tk m_bg m_en m_vl m_sg m_wi m_si m_ce m_ca) rfl ?_
      refine hX_if (gCmp .ne x0 4) (fun c2 => ?_) (fun c2 => ?_)
      · skip
        refine hX_go 3 (bif gCmp .ne x0 3 then 28 else 24) [some (.int x0)] [] (hMm c0 m_s m_kp m_as m_ik m_fo m_tl m_tr m_fa m_od m_rc m_be m_ft m_tp m_td m_tk m_bg m_en m_vl m_sg m_wi m_si m_ce m_ca) rfl ?_
        refine hX_if (gCmp .ne x0 3) (fun c3 => ?_) (fun c3 => ?_)
        · skip
          refine hX_go 1 (29) [some (.int x0)] [.int 0] (hMm c0 m_s m_kp m_as m_ik m_fo m_tl m_tr m_fa m_od m_rc m_be m_ft m_tp m_td m_tk m_bg m_en m_vl m_sg m_wi m_si m_ce m_ca) rfl ?_
          have hk := hk
          simp only [c1, c2, c3, cond_true, cond_false] at hk
          first | exact hk | (simp only [c1, c2, c3, cond_true, cond_false]; exact hk)
        · skip
          refine hX_go 2 (29) [some (.int x0)] [.int 2] (hMm c0 m_s m_kp m_as m_ik m_fo m_tl m_tr m_fa m_od m_rc m_be m_ft m_tp m_td m_tk m_bg m_en m_vl m_sg m_wi m_si m_ce m_ca) rfl ?_
          have hk := hk
          simp only [c1, c2, c3, cond_true, cond_false] at hk
          first | exact hk | (simp only [c1, c2, c3, cond_true, cond_false]; exact hk)
      · skip
        refine hX_go 2 (29) [some (.int x0)] [.int 3] (hMm c0 m_s m_kp m_as m_ik m_fo m_tl m_tr m_fa m_od m_rc m_be m_ft m_tp m_td m_tk m_bg m_en m_vl m_sg m_wi m_si m_ce m_ca) rfl ?_
        have hk := hk
        simp only [c1, c2, cond_true, cond_false] at hk
        first | exact hk | (simp only [c1, c2, cond_true, cond_false]; exact hk)
    · skip
      refine hX_go 2 (29) [some (.int x0)] [.int 5] (hMm c0 m_s m_kp m_as m_ik m_fo m_tl m_tr m_fa m_od m_rc m_be m_ft m_tp m_td m_tk m_bg m_en m_vl m_sg m_wi m_si m_ce m_ca) rfl ?_
      have hk := hk
      simp only [c1, cond_true, cond_false] at hk
      first | exact hk | (simp only [c1, cond_true, cond_false]; exact hk)
  exact hX_end rfl (rfl) (rfl)

/-- UpOneSideModel.write(III)I -/
def v_214_63 (x0 : Int32) (x1 : Int32) (m_wi : Nat → Int32) (m_si : Nat → Int32) : Int32 := bif gCmp .lt (bif gCmp .ge (v_186_63 x0 m_wi) 0 then (v_186_63 x0 m_wi) else (bif gCmp .ne (v_125 x1 0 ((m_si (Int32.toNatClampNeg x0)) - 1)) 0 then (v_186_63 x0 m_wi) else 0)) 0 then 1 else (v_124_63 (bif gCmp .ge (v_186_63 x0 m_wi) 0 then (v_186_63 x0 m_wi) else (bif gCmp .ne (v_125 x1 0 ((m_si (Int32.toNatClampNeg x0)) - 1)) 0 then (v_186_63 x0 m_wi) else 0)))
def f_214_63_m_fo (x0 : Int32) (x1 : Int32) (m_fo : Nat → Int32) (m_wi : Nat → Int32) (m_si : Nat → Int32) : Nat → Int32 := bif gCmp .lt (bif gCmp .ge (v_186_63 x0 m_wi) 0 then (v_186_63 x0 m_wi) else (bif gCmp .ne (v_125 x1 0 ((m_si (Int32.toNatClampNeg x0)) - 1)) 0 then (v_186_63 x0 m_wi) else 0)) 0 then m_fo else (f_124_63_m_fo (bif gCmp .ge (v_186_63 x0 m_wi) 0 then (v_186_63 x0 m_wi) else (bif gCmp .ne (v_125 x1 0 ((m_si (Int32.toNatClampNeg x0)) - 1)) 0 then (v_186_63 x0 m_wi) else 0)) m_fo)
def f_214_63_m_ce (x0 : Int32) (x1 : Int32) (x2 : Int32) (m_wi : Nat → Int32) (m_si : Nat → Int32) (m_ce : Nat → Int32) : Nat → Int32 := bif gCmp .lt (bif gCmp .ge (v_186_63 x0 m_wi) 0 then (v_186_63 x0 m_wi) else (bif gCmp .ne (v_125 x1 0 ((m_si (Int32.toNatClampNeg x0)) - 1)) 0 then (v_186_63 x0 m_wi) else 0)) 0 then (upd m_ce (Int32.toNatClampNeg ((40 * x0) + x1)) (bif gCmp .ne (m_wi (Int32.toNatClampNeg x0)) 8 then (bif gCmp .ne (m_wi (Int32.toNatClampNeg x0)) 16 then x2 else ((Int32.toInt16 x2).toInt32)) else ((Int32.toInt8 x2).toInt32))) else m_ce
set_option maxRecDepth 20000 in
set_option maxHeartbeats 1000000 in
theorem ct_214_63 {LL : Nat} {xs : Nat → Int32} {D : Nat} {c0 : Nat → gE} {m_s : Nat → Int32} {m_kp : Nat → Int32} {m_as : Nat → Int32} {m_ik : Int32} {m_fo : Nat → Int32} {m_tl : Int32} {m_tr : Int32} {m_fa : Nat → Int32} {m_od : Nat → Int32} {m_rc : Int32} {m_be : Nat → Int32} {m_ft : Int32} {m_tp : Nat → Int32} {m_td : Int32} {m_tk : Int32} {m_bg : Int32} {m_en : Int32} {m_vl : Int64} {m_sg : Int32} {m_wi : Nat → Int32} {m_si : Nat → Int32} {m_ce : Nat → Int32} {m_ca : Nat → Int32} (x0 : Int32) (x1 : Int32) (x2 : Int32) (o1 : gCmp .ne (v_185 x0) 0 = true → gIn x0 4 = true) (o2 : gCmp .ge (v_186_63 x0 m_wi) 0 = false → gIn x0 4 = true) (o3 : gCmp .lt (bif gCmp .ge (v_186_63 x0 m_wi) 0 then (v_186_63 x0 m_wi) else (bif gCmp .ne (v_125 x1 0 ((m_si (Int32.toNatClampNeg x0)) - 1)) 0 then (v_186_63 x0 m_wi) else 0)) 0 = true → gIn x0 4 = true) (o4 : gCmp .lt (bif gCmp .ge (v_186_63 x0 m_wi) 0 then (v_186_63 x0 m_wi) else (bif gCmp .ne (v_125 x1 0 ((m_si (Int32.toNatClampNeg x0)) - 1)) 0 then (v_186_63 x0 m_wi) else 0)) 0 = true → gIn ((40 * x0) + x1) 160 = true) (o5 : gCmp .lt (bif gCmp .ge (v_186_63 x0 m_wi) 0 then (v_186_63 x0 m_wi) else (bif gCmp .ne (v_125 x1 0 ((m_si (Int32.toNatClampNeg x0)) - 1)) 0 then (v_186_63 x0 m_wi) else 0)) 0 = false → gIn (bif gCmp .ge (v_186_63 x0 m_wi) 0 then (v_186_63 x0 m_wi) else (bif gCmp .ne (v_125 x1 0 ((m_si (Int32.toNatClampNeg x0)) - 1)) 0 then (v_186_63 x0 m_wi) else 0)) 7 = true) : hM (gO LL xs) (D + 3) zR_214 [.ref 63, .int x0, .int x1, .int x2] (hMm c0 m_s m_kp m_as m_ik m_fo m_tl m_tr m_fa m_od m_rc m_be m_ft m_tp m_td m_tk m_bg m_en m_vl m_sg m_wi m_si m_ce m_ca) (some (.int (v_214_63 x0 x1 m_wi m_si))) (hMm c0 m_s m_kp m_as m_ik (f_214_63_m_fo x0 x1 m_fo m_wi m_si) m_tl m_tr m_fa m_od m_rc m_be m_ft m_tp m_td m_tk m_bg m_en m_vl m_sg m_wi m_si (f_214_63_m_ce x0 x1 x2 m_wi m_si m_ce) m_ca) := by
  refine hX_go 0 0 [some (.ref 63), some (.int x0), some (.int x1), some (.int x2), none] [] (hMm c0 m_s m_kp m_as m_ik m_fo m_tl m_tr m_fa m_od m_rc m_be m_ft m_tp m_td m_tk m_bg m_en m_vl m_sg m_wi m_si m_ce m_ca) rfl ?_
  refine hX_go 2 (2) [some (.ref 63), some (.int x0), some (.int x1), some (.int x2), none] [.int x0, .ref 63] (hMm c0 m_s m_kp m_as m_ik m_fo m_tl m_tr m_fa m_od m_rc m_be m_ft m_tp m_td m_tk m_bg m_en m_vl m_sg m_wi m_si m_ce m_ca) rfl ?_
  refine hX_call (r' := zR_186) rfl (ct_186_63 x0 o1) ?_
  refine hX_go 3 (bif gCmp .ge (v_186_63 x0 m_wi) 0 then 31 else 12) [some (.ref 63), some (.int x0), some (.int x1), some (.int x2), some (.int (v_186_63 x0 m_wi))] [] (hMm c0 m_s m_kp m_as m_ik m_fo m_tl m_tr m_fa m_od m_rc m_be m_ft m_tp m_td m_tk m_bg m_en m_vl m_sg m_wi m_si m_ce m_ca) rfl ?_
  suffices hk : hX (gO LL xs) (D + 3) zR_214 31 [some (.ref 63), some (.int x0), some (.int x1), some (.int x2), some (.int (bif gCmp .ge (v_186_63 x0 m_wi) 0 then (v_186_63 x0 m_wi) else (bif gCmp .ne (v_125 x1 0 ((m_si (Int32.toNatClampNeg x0)) - 1)) 0 then (v_186_63 x0 m_wi) else 0)))] [] (hMm c0 m_s m_kp m_as m_ik m_fo m_tl m_tr m_fa m_od m_rc m_be m_ft m_tp m_td m_tk m_bg m_en m_vl m_sg m_wi m_si m_ce m_ca) (some (.int (v_214_63 x0 x1 m_wi m_si))) (hMm c0 m_s m_kp m_as m_ik (f_214_63_m_fo x0 x1 m_fo m_wi m_si) m_tl m_tr m_fa m_od m_rc m_be m_ft m_tp m_td m_tk m_bg m_en m_vl m_sg m_wi m_si (f_214_63_m_ce x0 x1 x2 m_wi m_si m_ce) m_ca) by
    refine hX_if (gCmp .ge (v_186_63 x0 m_wi) 0) (fun c1 => ?_) (fun c1 => ?_)
    · skip
      have hk := hk
      simp only [c1, cond_true, cond_false] at hk
      first | exact hk | (simp only [c1, cond_true, cond_false]; exact hk)
    · skip
      refine hX_go 5 (19) [some (.ref 63), some (.int x0), some (.int x1), some (.int x2), some (.int (v_186_63 x0 m_wi))] [.int x0, .ref 76, .int 0, .int x1] (hMm c0 m_s m_kp m_as m_ik m_fo m_tl m_tr m_fa m_od m_rc m_be m_ft m_tp m_td m_tk m_bg m_en m_vl m_sg m_wi m_si m_ce m_ca) rfl ?_
      refine hX_g (gIn x0 4) 20 [some (.ref 63), some (.int x0), some (.int x1), some (.int x2), some (.int (v_186_63 x0 m_wi))] [.int (m_si (Int32.toNatClampNeg x0)), .int 0, .int x1] (hMm c0 m_s m_kp m_as m_ik m_fo m_tl m_tr m_fa m_od m_rc m_be m_ft m_tp m_td m_tk m_bg m_en m_vl m_sg m_wi m_si m_ce m_ca) rfl (o2 c1) ?_
      refine hX_go 2 (22) [some (.ref 63), some (.int x0), some (.int x1), some (.int x2), some (.int (v_186_63 x0 m_wi))] [.int ((m_si (Int32.toNatClampNeg x0)) - 1), .int 0, .int x1] (hMm c0 m_s m_kp m_as m_ik m_fo m_tl m_tr m_fa m_od m_rc m_be m_ft m_tp m_td m_tk m_bg m_en m_vl m_sg m_wi m_si m_ce m_ca) rfl ?_
      refine hX_call (r' := zR_125) rfl (ct_125 x1 0 ((m_si (Int32.toNatClampNeg x0)) - 1)) ?_
      refine hX_go 1 (bif gCmp .ne (v_125 x1 0 ((m_si (Int32.toNatClampNeg x0)) - 1)) 0 then 31 else 28) [some (.ref 63), some (.int x0), some (.int x1), some (.int x2), some (.int (v_186_63 x0 m_wi))] [] (hMm c0 m_s m_kp m_as m_ik m_fo m_tl m_tr m_fa m_od m_rc m_be m_ft m_tp m_td m_tk m_bg m_en m_vl m_sg m_wi m_si m_ce m_ca) rfl ?_
      refine hX_if (gCmp .ne (v_125 x1 0 ((m_si (Int32.toNatClampNeg x0)) - 1)) 0) (fun c2 => ?_) (fun c2 => ?_)
      · skip
        have hk := hk
        simp only [c1, c2, cond_true, cond_false] at hk
        first | exact hk | (simp only [c1, c2, cond_true, cond_false]; exact hk)
      · skip
        refine hX_go 2 (31) [some (.ref 63), some (.int x0), some (.int x1), some (.int x2), some (.int 0)] [] (hMm c0 m_s m_kp m_as m_ik m_fo m_tl m_tr m_fa m_od m_rc m_be m_ft m_tp m_td m_tk m_bg m_en m_vl m_sg m_wi m_si m_ce m_ca) rfl ?_
        have hk := hk
        simp only [c1, c2, cond_true, cond_false] at hk
        first | exact hk | (simp only [c1, c2, cond_true, cond_false]; exact hk)
  refine hX_go 2 (bif gCmp .lt (bif gCmp .ge (v_186_63 x0 m_wi) 0 then (v_186_63 x0 m_wi) else (bif gCmp .ne (v_125 x1 0 ((m_si (Int32.toNatClampNeg x0)) - 1)) 0 then (v_186_63 x0 m_wi) else 0)) 0 then 43 else 36) [some (.ref 63), some (.int x0), some (.int x1), some (.int x2), some (.int (bif gCmp .ge (v_186_63 x0 m_wi) 0 then (v_186_63 x0 m_wi) else (bif gCmp .ne (v_125 x1 0 ((m_si (Int32.toNatClampNeg x0)) - 1)) 0 then (v_186_63 x0 m_wi) else 0)))] [] (hMm c0 m_s m_kp m_as m_ik m_fo m_tl m_tr m_fa m_od m_rc m_be m_ft m_tp m_td m_tk m_bg m_en m_vl m_sg m_wi m_si m_ce m_ca) rfl ?_
  refine hX_if (gCmp .lt (bif gCmp .ge (v_186_63 x0 m_wi) 0 then (v_186_63 x0 m_wi) else (bif gCmp .ne (v_125 x1 0 ((m_si (Int32.toNatClampNeg x0)) - 1)) 0 then (v_186_63 x0 m_wi) else 0)) 0) (fun c3 => ?_) (fun c3 => ?_)
  · skip
    refine hX_go 9 (57) [some (.ref 63), some (.int x0), some (.int x1), some (.int x2), some (.int (bif gCmp .ge (v_186_63 x0 m_wi) 0 then (v_186_63 x0 m_wi) else (bif gCmp .ne (v_125 x1 0 ((m_si (Int32.toNatClampNeg x0)) - 1)) 0 then (v_186_63 x0 m_wi) else 0)))] [.ref 75, .int ((40 * x0) + x1), .ref 77] (hMm c0 m_s m_kp m_as m_ik m_fo m_tl m_tr m_fa m_od m_rc m_be m_ft m_tp m_td m_tk m_bg m_en m_vl m_sg m_wi m_si m_ce m_ca) rfl ?_
    refine hX_go 1 (58) [some (.ref 63), some (.int x0), some (.int x1), some (.int x2), some (.int (bif gCmp .ge (v_186_63 x0 m_wi) 0 then (v_186_63 x0 m_wi) else (bif gCmp .ne (v_125 x1 0 ((m_si (Int32.toNatClampNeg x0)) - 1)) 0 then (v_186_63 x0 m_wi) else 0)))] [.int x0, .ref 75, .int ((40 * x0) + x1), .ref 77] (hMm c0 m_s m_kp m_as m_ik m_fo m_tl m_tr m_fa m_od m_rc m_be m_ft m_tp m_td m_tk m_bg m_en m_vl m_sg m_wi m_si m_ce m_ca) rfl ?_
    refine hX_g (gIn x0 4) 59 [some (.ref 63), some (.int x0), some (.int x1), some (.int x2), some (.int (bif gCmp .ge (v_186_63 x0 m_wi) 0 then (v_186_63 x0 m_wi) else (bif gCmp .ne (v_125 x1 0 ((m_si (Int32.toNatClampNeg x0)) - 1)) 0 then (v_186_63 x0 m_wi) else 0)))] [.int (m_wi (Int32.toNatClampNeg x0)), .int ((40 * x0) + x1), .ref 77] (hMm c0 m_s m_kp m_as m_ik m_fo m_tl m_tr m_fa m_od m_rc m_be m_ft m_tp m_td m_tk m_bg m_en m_vl m_sg m_wi m_si m_ce m_ca) rfl (o3 c3) ?_
    refine hX_go 2 (bif gCmp .ne (m_wi (Int32.toNatClampNeg x0)) 8 then 69 else 64) [some (.ref 63), some (.int x0), some (.int x1), some (.int x2), some (.int (bif gCmp .ge (v_186_63 x0 m_wi) 0 then (v_186_63 x0 m_wi) else (bif gCmp .ne (v_125 x1 0 ((m_si (Int32.toNatClampNeg x0)) - 1)) 0 then (v_186_63 x0 m_wi) else 0)))] [.int ((40 * x0) + x1), .ref 77] (hMm c0 m_s m_kp m_as m_ik m_fo m_tl m_tr m_fa m_od m_rc m_be m_ft m_tp m_td m_tk m_bg m_en m_vl m_sg m_wi m_si m_ce m_ca) rfl ?_
    suffices hk : hX (gO LL xs) (D + 3) zR_214 86 [some (.ref 63), some (.int x0), some (.int x1), some (.int x2), some (.int (bif gCmp .ge (v_186_63 x0 m_wi) 0 then (v_186_63 x0 m_wi) else (bif gCmp .ne (v_125 x1 0 ((m_si (Int32.toNatClampNeg x0)) - 1)) 0 then (v_186_63 x0 m_wi) else 0)))] [.int (bif gCmp .ne (m_wi (Int32.toNatClampNeg x0)) 8 then (bif gCmp .ne (m_wi (Int32.toNatClampNeg x0)) 16 then x2 else ((Int32.toInt16 x2).toInt32)) else ((Int32.toInt8 x2).toInt32)), .int ((40 * x0) + x1), .ref 77] (hMm c0 m_s m_kp m_as m_ik m_fo m_tl m_tr m_fa m_od m_rc m_be m_ft m_tp m_td m_tk m_bg m_en m_vl m_sg m_wi m_si m_ce m_ca) (some (.int (v_214_63 x0 x1 m_wi m_si))) (hMm c0 m_s m_kp m_as m_ik (f_214_63_m_fo x0 x1 m_fo m_wi m_si) m_tl m_tr m_fa m_od m_rc m_be m_ft m_tp m_td m_tk m_bg m_en m_vl m_sg m_wi m_si (f_214_63_m_ce x0 x1 x2 m_wi m_si m_ce) m_ca) by
      refine hX_if (gCmp .ne (m_wi (Int32.toNatClampNeg x0)) 8) (fun c4 => ?_) (fun c4 => ?_)
      · skip
        refine hX_go 3 (74) [some (.ref 63), some (.int x0), some (.int x1), some (.int x2), some (.int (bif gCmp .ge (v_186_63 x0 m_wi) 0 then (v_186_63 x0 m_wi) else (bif gCmp .ne (v_125 x1 0 ((m_si (Int32.toNatClampNeg x0)) - 1)) 0 then (v_186_63 x0 m_wi) else 0)))] [.int x0, .ref 75, .int ((40 * x0) + x1), .ref 77] (hMm c0 m_s m_kp m_as m_ik m_fo m_tl m_tr m_fa m_od m_rc m_be m_ft m_tp m_td m_tk m_bg m_en m_vl m_sg m_wi m_si m_ce m_ca) rfl ?_
        refine hX_g (gIn x0 4) 75 [some (.ref 63), some (.int x0), some (.int x1), some (.int x2), some (.int (bif gCmp .ge (v_186_63 x0 m_wi) 0 then (v_186_63 x0 m_wi) else (bif gCmp .ne (v_125 x1 0 ((m_si (Int32.toNatClampNeg x0)) - 1)) 0 then (v_186_63 x0 m_wi) else 0)))] [.int (m_wi (Int32.toNatClampNeg x0)), .int ((40 * x0) + x1), .ref 77] (hMm c0 m_s m_kp m_as m_ik m_fo m_tl m_tr m_fa m_od m_rc m_be m_ft m_tp m_td m_tk m_bg m_en m_vl m_sg m_wi m_si m_ce m_ca) rfl (o3 c3) ?_
        refine hX_go 2 (bif gCmp .ne (m_wi (Int32.toNatClampNeg x0)) 16 then 85 else 80) [some (.ref 63), some (.int x0), some (.int x1), some (.int x2), some (.int (bif gCmp .ge (v_186_63 x0 m_wi) 0 then (v_186_63 x0 m_wi) else (bif gCmp .ne (v_125 x1 0 ((m_si (Int32.toNatClampNeg x0)) - 1)) 0 then (v_186_63 x0 m_wi) else 0)))] [.int ((40 * x0) + x1), .ref 77] (hMm c0 m_s m_kp m_as m_ik m_fo m_tl m_tr m_fa m_od m_rc m_be m_ft m_tp m_td m_tk m_bg m_en m_vl m_sg m_wi m_si m_ce m_ca) rfl ?_
        refine hX_if (gCmp .ne (m_wi (Int32.toNatClampNeg x0)) 16) (fun c5 => ?_) (fun c5 => ?_)
        · skip
          refine hX_go 1 (86) [some (.ref 63), some (.int x0), some (.int x1), some (.int x2), some (.int (bif gCmp .ge (v_186_63 x0 m_wi) 0 then (v_186_63 x0 m_wi) else (bif gCmp .ne (v_125 x1 0 ((m_si (Int32.toNatClampNeg x0)) - 1)) 0 then (v_186_63 x0 m_wi) else 0)))] [.int x2, .int ((40 * x0) + x1), .ref 77] (hMm c0 m_s m_kp m_as m_ik m_fo m_tl m_tr m_fa m_od m_rc m_be m_ft m_tp m_td m_tk m_bg m_en m_vl m_sg m_wi m_si m_ce m_ca) rfl ?_
          have hk := hk
          simp only [c4, c5, cond_true, cond_false] at hk
          first | exact hk | (simp only [c4, c5, cond_true, cond_false]; exact hk)
        · skip
          refine hX_go 3 (86) [some (.ref 63), some (.int x0), some (.int x1), some (.int x2), some (.int (bif gCmp .ge (v_186_63 x0 m_wi) 0 then (v_186_63 x0 m_wi) else (bif gCmp .ne (v_125 x1 0 ((m_si (Int32.toNatClampNeg x0)) - 1)) 0 then (v_186_63 x0 m_wi) else 0)))] [.int ((Int32.toInt16 x2).toInt32), .int ((40 * x0) + x1), .ref 77] (hMm c0 m_s m_kp m_as m_ik m_fo m_tl m_tr m_fa m_od m_rc m_be m_ft m_tp m_td m_tk m_bg m_en m_vl m_sg m_wi m_si m_ce m_ca) rfl ?_
          have hk := hk
          simp only [c4, c5, cond_true, cond_false] at hk
          first | exact hk | (simp only [c4, c5, cond_true, cond_false]; exact hk)
      · skip
        refine hX_go 3 (86) [some (.ref 63), some (.int x0), some (.int x1), some (.int x2), some (.int (bif gCmp .ge (v_186_63 x0 m_wi) 0 then (v_186_63 x0 m_wi) else (bif gCmp .ne (v_125 x1 0 ((m_si (Int32.toNatClampNeg x0)) - 1)) 0 then (v_186_63 x0 m_wi) else 0)))] [.int ((Int32.toInt8 x2).toInt32), .int ((40 * x0) + x1), .ref 77] (hMm c0 m_s m_kp m_as m_ik m_fo m_tl m_tr m_fa m_od m_rc m_be m_ft m_tp m_td m_tk m_bg m_en m_vl m_sg m_wi m_si m_ce m_ca) rfl ?_
        have hk := hk
        simp only [c4, cond_true, cond_false] at hk
        first | exact hk | (simp only [c4, cond_true, cond_false]; exact hk)
    refine hX_g (gIn ((40 * x0) + x1) 160) 87 [some (.ref 63), some (.int x0), some (.int x1), some (.int x2), some (.int (bif gCmp .ge (v_186_63 x0 m_wi) 0 then (v_186_63 x0 m_wi) else (bif gCmp .ne (v_125 x1 0 ((m_si (Int32.toNatClampNeg x0)) - 1)) 0 then (v_186_63 x0 m_wi) else 0)))] [] (hMm c0 m_s m_kp m_as m_ik m_fo m_tl m_tr m_fa m_od m_rc m_be m_ft m_tp m_td m_tk m_bg m_en m_vl m_sg m_wi m_si (upd m_ce (Int32.toNatClampNeg ((40 * x0) + x1)) (bif gCmp .ne (m_wi (Int32.toNatClampNeg x0)) 8 then (bif gCmp .ne (m_wi (Int32.toNatClampNeg x0)) 16 then x2 else ((Int32.toInt16 x2).toInt32)) else ((Int32.toInt8 x2).toInt32))) m_ca) rfl (o4 c3) ?_
    refine hX_go 1 (88) [some (.ref 63), some (.int x0), some (.int x1), some (.int x2), some (.int (bif gCmp .ge (v_186_63 x0 m_wi) 0 then (v_186_63 x0 m_wi) else (bif gCmp .ne (v_125 x1 0 ((m_si (Int32.toNatClampNeg x0)) - 1)) 0 then (v_186_63 x0 m_wi) else 0)))] [.int 1] (hMm c0 m_s m_kp m_as m_ik m_fo m_tl m_tr m_fa m_od m_rc m_be m_ft m_tp m_td m_tk m_bg m_en m_vl m_sg m_wi m_si (upd m_ce (Int32.toNatClampNeg ((40 * x0) + x1)) (bif gCmp .ne (m_wi (Int32.toNatClampNeg x0)) 8 then (bif gCmp .ne (m_wi (Int32.toNatClampNeg x0)) 16 then x2 else ((Int32.toInt16 x2).toInt32)) else ((Int32.toInt8 x2).toInt32))) m_ca) rfl ?_
    exact hX_end rfl (by unfold v_214_63; rw [c3]; rfl) (by unfold f_214_63_m_fo; rw [c3]; unfold f_214_63_m_ce; rw [c3]; rfl)
  · skip
    refine hX_go 2 (39) [some (.ref 63), some (.int x0), some (.int x1), some (.int x2), some (.int (bif gCmp .ge (v_186_63 x0 m_wi) 0 then (v_186_63 x0 m_wi) else (bif gCmp .ne (v_125 x1 0 ((m_si (Int32.toNatClampNeg x0)) - 1)) 0 then (v_186_63 x0 m_wi) else 0)))] [.int (bif gCmp .ge (v_186_63 x0 m_wi) 0 then (v_186_63 x0 m_wi) else (bif gCmp .ne (v_125 x1 0 ((m_si (Int32.toNatClampNeg x0)) - 1)) 0 then (v_186_63 x0 m_wi) else 0)), .ref 63] (hMm c0 m_s m_kp m_as m_ik m_fo m_tl m_tr m_fa m_od m_rc m_be m_ft m_tp m_td m_tk m_bg m_en m_vl m_sg m_wi m_si m_ce m_ca) rfl ?_
    refine hX_call (r' := zR_124) rfl (ct_124_63 (bif gCmp .ge (v_186_63 x0 m_wi) 0 then (v_186_63 x0 m_wi) else (bif gCmp .ne (v_125 x1 0 ((m_si (Int32.toNatClampNeg x0)) - 1)) 0 then (v_186_63 x0 m_wi) else 0)) (o5 c3)) ?_
    refine hX_go 0 (42) [some (.ref 63), some (.int x0), some (.int x1), some (.int x2), some (.int (bif gCmp .ge (v_186_63 x0 m_wi) 0 then (v_186_63 x0 m_wi) else (bif gCmp .ne (v_125 x1 0 ((m_si (Int32.toNatClampNeg x0)) - 1)) 0 then (v_186_63 x0 m_wi) else 0)))] [.int (v_124_63 (bif gCmp .ge (v_186_63 x0 m_wi) 0 then (v_186_63 x0 m_wi) else (bif gCmp .ne (v_125 x1 0 ((m_si (Int32.toNatClampNeg x0)) - 1)) 0 then (v_186_63 x0 m_wi) else 0)))] (hMm c0 m_s m_kp m_as m_ik (f_124_63_m_fo (bif gCmp .ge (v_186_63 x0 m_wi) 0 then (v_186_63 x0 m_wi) else (bif gCmp .ne (v_125 x1 0 ((m_si (Int32.toNatClampNeg x0)) - 1)) 0 then (v_186_63 x0 m_wi) else 0)) m_fo) m_tl m_tr m_fa m_od m_rc m_be m_ft m_tp m_td m_tk m_bg m_en m_vl m_sg m_wi m_si m_ce m_ca) rfl ?_
    exact hX_end rfl (by unfold v_214_63; rw [c3]; rfl) (by unfold f_214_63_m_fo; rw [c3]; unfold f_214_63_m_ce; rw [c3]; rfl)

/-- UpOneSideModel.tear()I -/
def v_220_63 (m_ik : Int32) : Int32 := bif gCmp .eq m_ik 0 then 0 else 1
def f_220_63_m_ik : Int32 := 0
set_option maxRecDepth 20000 in
set_option maxHeartbeats 1000000 in
theorem ct_220_63 {LL : Nat} {xs : Nat → Int32} {D : Nat} {c0 : Nat → gE} {m_s : Nat → Int32} {m_kp : Nat → Int32} {m_as : Nat → Int32} {m_ik : Int32} {m_fo : Nat → Int32} {m_tl : Int32} {m_tr : Int32} {m_fa : Nat → Int32} {m_od : Nat → Int32} {m_rc : Int32} {m_be : Nat → Int32} {m_ft : Int32} {m_tp : Nat → Int32} {m_td : Int32} {m_tk : Int32} {m_bg : Int32} {m_en : Int32} {m_vl : Int64} {m_sg : Int32} {m_wi : Nat → Int32} {m_si : Nat → Int32} {m_ce : Nat → Int32} {m_ca : Nat → Int32} : hM (gO LL xs) (D + 0) zR_220 [.ref 63] (hMm c0 m_s m_kp m_as m_ik m_fo m_tl m_tr m_fa m_od m_rc m_be m_ft m_tp m_td m_tk m_bg m_en m_vl m_sg m_wi m_si m_ce m_ca) (some (.int (v_220_63 m_ik))) (hMm c0 m_s m_kp m_as f_220_63_m_ik m_fo m_tl m_tr m_fa m_od m_rc m_be m_ft m_tp m_td m_tk m_bg m_en m_vl m_sg m_wi m_si m_ce m_ca) := by
  refine hX_go 0 0 [some (.ref 63), none] [] (hMm c0 m_s m_kp m_as m_ik m_fo m_tl m_tr m_fa m_od m_rc m_be m_ft m_tp m_td m_tk m_bg m_en m_vl m_sg m_wi m_si m_ce m_ca) rfl ?_
  refine hX_go 3 (bif gCmp .eq m_ik 0 then 11 else 7) [some (.ref 63), none] [] (hMm c0 m_s m_kp m_as m_ik m_fo m_tl m_tr m_fa m_od m_rc m_be m_ft m_tp m_td m_tk m_bg m_en m_vl m_sg m_wi m_si m_ce m_ca) rfl ?_
  suffices hk : hX (gO LL xs) (D + 0) zR_220 12 [some (.ref 63), none] [.int (bif gCmp .eq m_ik 0 then 0 else 1)] (hMm c0 m_s m_kp m_as m_ik m_fo m_tl m_tr m_fa m_od m_rc m_be m_ft m_tp m_td m_tk m_bg m_en m_vl m_sg m_wi m_si m_ce m_ca) (some (.int (v_220_63 m_ik))) (hMm c0 m_s m_kp m_as f_220_63_m_ik m_fo m_tl m_tr m_fa m_od m_rc m_be m_ft m_tp m_td m_tk m_bg m_en m_vl m_sg m_wi m_si m_ce m_ca) by
    refine hX_if (gCmp .eq m_ik 0) (fun c1 => ?_) (fun c1 => ?_)
    · skip
      refine hX_go 1 (12) [some (.ref 63), none] [.int 0] (hMm c0 m_s m_kp m_as m_ik m_fo m_tl m_tr m_fa m_od m_rc m_be m_ft m_tp m_td m_tk m_bg m_en m_vl m_sg m_wi m_si m_ce m_ca) rfl ?_
      have hk := hk
      simp only [c1, cond_true, cond_false] at hk
      first | exact hk | (simp only [c1, cond_true, cond_false]; exact hk)
    · skip
      refine hX_go 2 (12) [some (.ref 63), none] [.int 1] (hMm c0 m_s m_kp m_as m_ik m_fo m_tl m_tr m_fa m_od m_rc m_be m_ft m_tp m_td m_tk m_bg m_en m_vl m_sg m_wi m_si m_ce m_ca) rfl ?_
      have hk := hk
      simp only [c1, cond_true, cond_false] at hk
      first | exact hk | (simp only [c1, cond_true, cond_false]; exact hk)
  refine hX_go 5 (19) [some (.ref 63), some (.int (bif gCmp .eq m_ik 0 then 0 else 1))] [.int (bif gCmp .eq m_ik 0 then 0 else 1)] (hMm c0 m_s m_kp m_as 0 m_fo m_tl m_tr m_fa m_od m_rc m_be m_ft m_tp m_td m_tk m_bg m_en m_vl m_sg m_wi m_si m_ce m_ca) rfl ?_
  exact hX_end rfl (rfl) (rfl)
