/-- UpOneSide.within(III)Z -/
def v_112 (x0 : Int32) (x1 : Int32) (x2 : Int32) : Int32 := bif gCmp .lt x0 x1 then 0 else (bif gCmp .gt x0 x2 then 0 else 1)
set_option maxRecDepth 20000 in
set_option maxHeartbeats 1000000 in
theorem ct_112 {LL : Nat} {xs : Nat → Int32} {D : Nat} {b d k s w : hB} {ik ex pr wd : Int32} {sn : Nat → Int64} {qu tb : Nat → Int32} {ts : Int32} {rd : hRd} {h0 h1 h2 h3 : hSt} {fi : Nat → Int32} {R : List gE} (x0 : Int32) (x1 : Int32) (x2 : Int32) : hM (gO LL xs) (D + 0) zR_112 [.int x0, .int x1, .int x2] (hCm b d k s w ik ex pr wd sn qu tb ts rd h0 h1 h2 h3 fi R) (some (.int (v_112 x0 x1 x2))) (hCm b d k s w ik ex pr wd sn qu tb ts rd h0 h1 h2 h3 fi R) := by
  refine hX_go 0 0 [some (.int x0), some (.int x1), some (.int x2)] [] (hCm b d k s w ik ex pr wd sn qu tb ts rd h0 h1 h2 h3 fi R) rfl ?_
  refine hX_go 3 (bif gCmp .lt x0 x1 then 14 else 5) [some (.int x0), some (.int x1), some (.int x2)] [] (hCm b d k s w ik ex pr wd sn qu tb ts rd h0 h1 h2 h3 fi R) rfl ?_
  refine hX_if (gCmp .lt x0 x1) (fun c1 => ?_) (fun c1 => ?_)
  · skip
    refine hX_go 1 (15) [some (.int x0), some (.int x1), some (.int x2)] [.int 0] (hCm b d k s w ik ex pr wd sn qu tb ts rd h0 h1 h2 h3 fi R) rfl ?_
    exact hX_end rfl (by unfold v_112; rw [c1]; rfl) (rfl)
  · skip
    refine hX_go 3 (bif gCmp .gt x0 x2 then 14 else 10) [some (.int x0), some (.int x1), some (.int x2)] [] (hCm b d k s w ik ex pr wd sn qu tb ts rd h0 h1 h2 h3 fi R) rfl ?_
    refine hX_if (gCmp .gt x0 x2) (fun c2 => ?_) (fun c2 => ?_)
    · skip
      refine hX_go 1 (15) [some (.int x0), some (.int x1), some (.int x2)] [.int 0] (hCm b d k s w ik ex pr wd sn qu tb ts rd h0 h1 h2 h3 fi R) rfl ?_
      exact hX_end rfl (by unfold v_112; rw [c1, c2]; rfl) (rfl)
    · skip
      refine hX_go 2 (15) [some (.int x0), some (.int x1), some (.int x2)] [.int 1] (hCm b d k s w ik ex pr wd sn qu tb ts rd h0 h1 h2 h3 fi R) rfl ?_
      exact hX_end rfl (by unfold v_112; rw [c1, c2]; rfl) (rfl)

theorem bz_112 (x0 : Int32) (x1 : Int32) (x2 : Int32) : (decide (v_112 x0 x1 x2 = 0) || decide (v_112 x0 x1 x2 = 1)) = true := by
  unfold v_112
  cases (gCmp .lt x0 x1)
  · cases (gCmp .gt x0 x2)
    · rfl
    · rfl
  · rfl

/-- UpOneSide$Blind.addPull(III)V -/
def f_13_1_b (x0 : Int32) (x1 : Int32) (x2 : Int32) (b : hB) : hB := (b.1, b.2.1, b.2.2.1, b.2.2.2.1, bif gCmp .ge b.2.2.2.2.1 8 then b.2.2.2.2.1 else (b.2.2.2.2.1 + 1), bif gCmp .ge b.2.2.2.2.1 8 then b.2.2.2.2.2.1 else (upd b.2.2.2.2.2.1 (Int32.toNatClampNeg b.2.2.2.2.1) x0), bif gCmp .ge b.2.2.2.2.1 8 then b.2.2.2.2.2.2.1 else (upd b.2.2.2.2.2.2.1 (Int32.toNatClampNeg b.2.2.2.2.1) x1), bif gCmp .ge b.2.2.2.2.1 8 then b.2.2.2.2.2.2.2.1 else (upd b.2.2.2.2.2.2.2.1 (Int32.toNatClampNeg b.2.2.2.2.1) x2), b.2.2.2.2.2.2.2.2)
set_option maxRecDepth 20000 in
set_option maxHeartbeats 1000000 in
theorem ct_13_1 {LL : Nat} {xs : Nat → Int32} {D : Nat} {b d k s w : hB} {ik ex pr wd : Int32} {sn : Nat → Int64} {qu tb : Nat → Int32} {ts : Int32} {rd : hRd} {h0 h1 h2 h3 : hSt} {fi : Nat → Int32} {R : List gE} (x0 : Int32) (x1 : Int32) (x2 : Int32) (o1 : gCmp .ge b.2.2.2.2.1 8 = false → gIn b.2.2.2.2.1 8 = true) : hM (gO LL xs) (D + 0) zR_13 [.ref 1, .int x0, .int x1, .int x2] (hCm b d k s w ik ex pr wd sn qu tb ts rd h0 h1 h2 h3 fi R) none (hCm (f_13_1_b x0 x1 x2 b) d k s w ik ex pr wd sn qu tb ts rd h0 h1 h2 h3 fi R) := by
  refine hX_go 0 0 [some (.ref 1), some (.int x0), some (.int x1), some (.int x2)] [] (hCm b d k s w ik ex pr wd sn qu tb ts rd h0 h1 h2 h3 fi R) rfl ?_
  refine hX_go 4 (bif gCmp .ge b.2.2.2.2.1 8 then 49 else 9) [some (.ref 1), some (.int x0), some (.int x1), some (.int x2)] [] (hCm b d k s w ik ex pr wd sn qu tb ts rd h0 h1 h2 h3 fi R) rfl ?_
  suffices hk : hX (gO LL xs) (D + 0) zR_13 49 [some (.ref 1), some (.int x0), some (.int x1), some (.int x2)] [] (hCm (b.1, b.2.1, b.2.2.1, b.2.2.2.1, bif gCmp .ge b.2.2.2.2.1 8 then b.2.2.2.2.1 else (b.2.2.2.2.1 + 1), bif gCmp .ge b.2.2.2.2.1 8 then b.2.2.2.2.2.1 else (upd b.2.2.2.2.2.1 (Int32.toNatClampNeg b.2.2.2.2.1) x0), bif gCmp .ge b.2.2.2.2.1 8 then b.2.2.2.2.2.2.1 else (upd b.2.2.2.2.2.2.1 (Int32.toNatClampNeg b.2.2.2.2.1) x1), bif gCmp .ge b.2.2.2.2.1 8 then b.2.2.2.2.2.2.2.1 else (upd b.2.2.2.2.2.2.2.1 (Int32.toNatClampNeg b.2.2.2.2.1) x2), b.2.2.2.2.2.2.2.2) d k s w ik ex pr wd sn qu tb ts rd h0 h1 h2 h3 fi R) none (hCm (f_13_1_b x0 x1 x2 b) d k s w ik ex pr wd sn qu tb ts rd h0 h1 h2 h3 fi R) by
    refine hX_if (gCmp .ge b.2.2.2.2.1 8) (fun c1 => ?_) (fun c1 => ?_)
    · skip
      have hk := hk
      simp only [c1, cond_true, cond_false] at hk
      first | exact hk | (simp only [c1, cond_true, cond_false]; exact hk)
    · skip
      refine hX_go 5 (18) [some (.ref 1), some (.int x0), some (.int x1), some (.int x2)] [.int x0, .int b.2.2.2.2.1, .ref 2] (hCm b d k s w ik ex pr wd sn qu tb ts rd h0 h1 h2 h3 fi R) rfl ?_
      refine hX_g (gIn b.2.2.2.2.1 8) 19 [some (.ref 1), some (.int x0), some (.int x1), some (.int x2)] [] (hCm (b.1, b.2.1, b.2.2.1, b.2.2.2.1, b.2.2.2.2.1, upd b.2.2.2.2.2.1 (Int32.toNatClampNeg b.2.2.2.2.1) x0, b.2.2.2.2.2.2) d k s w ik ex pr wd sn qu tb ts rd h0 h1 h2 h3 fi R) rfl (o1 c1) ?_
      refine hX_go 5 (28) [some (.ref 1), some (.int x0), some (.int x1), some (.int x2)] [.int x1, .int b.2.2.2.2.1, .ref 3] (hCm (b.1, b.2.1, b.2.2.1, b.2.2.2.1, b.2.2.2.2.1, upd b.2.2.2.2.2.1 (Int32.toNatClampNeg b.2.2.2.2.1) x0, b.2.2.2.2.2.2) d k s w ik ex pr wd sn qu tb ts rd h0 h1 h2 h3 fi R) rfl ?_
      refine hX_g (gIn b.2.2.2.2.1 8) 29 [some (.ref 1), some (.int x0), some (.int x1), some (.int x2)] [] (hCm (b.1, b.2.1, b.2.2.1, b.2.2.2.1, b.2.2.2.2.1, upd b.2.2.2.2.2.1 (Int32.toNatClampNeg b.2.2.2.2.1) x0, upd b.2.2.2.2.2.2.1 (Int32.toNatClampNeg b.2.2.2.2.1) x1, b.2.2.2.2.2.2.2) d k s w ik ex pr wd sn qu tb ts rd h0 h1 h2 h3 fi R) rfl (o1 c1) ?_
      refine hX_go 5 (38) [some (.ref 1), some (.int x0), some (.int x1), some (.int x2)] [.int x2, .int b.2.2.2.2.1, .ref 4] (hCm (b.1, b.2.1, b.2.2.1, b.2.2.2.1, b.2.2.2.2.1, upd b.2.2.2.2.2.1 (Int32.toNatClampNeg b.2.2.2.2.1) x0, upd b.2.2.2.2.2.2.1 (Int32.toNatClampNeg b.2.2.2.2.1) x1, b.2.2.2.2.2.2.2) d k s w ik ex pr wd sn qu tb ts rd h0 h1 h2 h3 fi R) rfl ?_
      refine hX_g (gIn b.2.2.2.2.1 8) 39 [some (.ref 1), some (.int x0), some (.int x1), some (.int x2)] [] (hCm (b.1, b.2.1, b.2.2.1, b.2.2.2.1, b.2.2.2.2.1, upd b.2.2.2.2.2.1 (Int32.toNatClampNeg b.2.2.2.2.1) x0, upd b.2.2.2.2.2.2.1 (Int32.toNatClampNeg b.2.2.2.2.1) x1, upd b.2.2.2.2.2.2.2.1 (Int32.toNatClampNeg b.2.2.2.2.1) x2, b.2.2.2.2.2.2.2.2) d k s w ik ex pr wd sn qu tb ts rd h0 h1 h2 h3 fi R) rfl (o1 c1) ?_
      refine hX_go 6 (49) [some (.ref 1), some (.int x0), some (.int x1), some (.int x2)] [] (hCm (b.1, b.2.1, b.2.2.1, b.2.2.2.1, b.2.2.2.2.1 + 1, upd b.2.2.2.2.2.1 (Int32.toNatClampNeg b.2.2.2.2.1) x0, upd b.2.2.2.2.2.2.1 (Int32.toNatClampNeg b.2.2.2.2.1) x1, upd b.2.2.2.2.2.2.2.1 (Int32.toNatClampNeg b.2.2.2.2.1) x2, b.2.2.2.2.2.2.2.2) d k s w ik ex pr wd sn qu tb ts rd h0 h1 h2 h3 fi R) rfl ?_
      have hk := hk
      simp only [c1, cond_true, cond_false] at hk
      first | exact hk | (simp only [c1, cond_true, cond_false]; exact hk)
  exact hX_end rfl (rfl) (rfl)

/-- UpOneSide.finding(I)I -/
def v_111_0 (x0 : Int32) : Int32 := (-1000001) - x0
def f_111_0_fi (x0 : Int32) (fi : Nat → Int32) : Nat → Int32 := upd fi (Int32.toNatClampNeg x0) ((fi (Int32.toNatClampNeg x0)) + 1)
set_option maxRecDepth 20000 in
set_option maxHeartbeats 1000000 in
theorem ct_111_0 {LL : Nat} {xs : Nat → Int32} {D : Nat} {b d k s w : hB} {ik ex pr wd : Int32} {sn : Nat → Int64} {qu tb : Nat → Int32} {ts : Int32} {rd : hRd} {h0 h1 h2 h3 : hSt} {fi : Nat → Int32} {R : List gE} (x0 : Int32) (o1 : gIn x0 7 = true) : hM (gO LL xs) (D + 0) zR_111 [.ref 0, .int x0] (hCm b d k s w ik ex pr wd sn qu tb ts rd h0 h1 h2 h3 fi R) (some (.int (v_111_0 x0))) (hCm b d k s w ik ex pr wd sn qu tb ts rd h0 h1 h2 h3 (f_111_0_fi x0 fi) R) := by
  refine hX_go 0 0 [some (.ref 0), some (.int x0)] [] (hCm b d k s w ik ex pr wd sn qu tb ts rd h0 h1 h2 h3 fi R) rfl ?_
  refine hX_go 4 (6) [some (.ref 0), some (.int x0)] [.int x0, .ref 54, .int x0, .ref 54] (hCm b d k s w ik ex pr wd sn qu tb ts rd h0 h1 h2 h3 fi R) rfl ?_
  refine hX_g (gIn x0 7) 7 [some (.ref 0), some (.int x0)] [.int (fi (Int32.toNatClampNeg x0)), .int x0, .ref 54] (hCm b d k s w ik ex pr wd sn qu tb ts rd h0 h1 h2 h3 fi R) rfl o1 ?_
  refine hX_go 2 (9) [some (.ref 0), some (.int x0)] [.int ((fi (Int32.toNatClampNeg x0)) + 1), .int x0, .ref 54] (hCm b d k s w ik ex pr wd sn qu tb ts rd h0 h1 h2 h3 fi R) rfl ?_
  refine hX_g (gIn x0 7) 10 [some (.ref 0), some (.int x0)] [] (hCm b d k s w ik ex pr wd sn qu tb ts rd h0 h1 h2 h3 (upd fi (Int32.toNatClampNeg x0) ((fi (Int32.toNatClampNeg x0)) + 1)) R) rfl o1 ?_
  refine hX_go 3 (15) [some (.ref 0), some (.int x0)] [.int ((-1000001) - x0)] (hCm b d k s w ik ex pr wd sn qu tb ts rd h0 h1 h2 h3 (upd fi (Int32.toNatClampNeg x0) ((fi (Int32.toNatClampNeg x0)) + 1)) R) rfl ?_
  exact hX_end rfl (rfl) (rfl)

/-- UpOneSide.pull(I)I -/
def v_61_0 (x0 : Int32) (b : hB) : Int32 := bif gCmp .ne (v_112 x0 0 6) 0 then (bif gCmp .lt b.2.2.2.2.1 8 then (((f_13_1_b x0 5 0 b).2.2.2.2.1) - 1) else (v_111_0 1)) else (v_111_0 0)
def f_61_0_b (x0 : Int32) (b : hB) : hB := bif gCmp .ne (v_112 x0 0 6) 0 then (bif gCmp .lt b.2.2.2.2.1 8 then (f_13_1_b x0 5 0 b) else b) else b
def f_61_0_fi (x0 : Int32) (b : hB) (fi : Nat → Int32) : Nat → Int32 := bif gCmp .ne (v_112 x0 0 6) 0 then (bif gCmp .lt b.2.2.2.2.1 8 then fi else (f_111_0_fi 1 fi)) else (f_111_0_fi 0 fi)
set_option maxRecDepth 20000 in
set_option maxHeartbeats 1000000 in
theorem ct_61_0 {LL : Nat} {xs : Nat → Int32} {D : Nat} {b d k s w : hB} {ik ex pr wd : Int32} {sn : Nat → Int64} {qu tb : Nat → Int32} {ts : Int32} {rd : hRd} {h0 h1 h2 h3 : hSt} {fi : Nat → Int32} {R : List gE} (x0 : Int32) (o1 : gCmp .ne (v_112 x0 0 6) 0 = true → gCmp .lt b.2.2.2.2.1 8 = true → gCmp .ge b.2.2.2.2.1 8 = false → gIn b.2.2.2.2.1 8 = true) (o2 : gCmp .ne (v_112 x0 0 6) 0 = true → gCmp .lt b.2.2.2.2.1 8 = false → gIn 1 7 = true) (o3 : gCmp .ne (v_112 x0 0 6) 0 = false → gIn 0 7 = true) : hM (gO LL xs) (D + 1) zR_61 [.ref 0, .int x0] (hCm b d k s w ik ex pr wd sn qu tb ts rd h0 h1 h2 h3 fi R) (some (.int (v_61_0 x0 b))) (hCm (f_61_0_b x0 b) d k s w ik ex pr wd sn qu tb ts rd h0 h1 h2 h3 (f_61_0_fi x0 b fi) R) := by
  refine hX_go 0 0 [some (.ref 0), some (.int x0)] [] (hCm b d k s w ik ex pr wd sn qu tb ts rd h0 h1 h2 h3 fi R) rfl ?_
  refine hX_go 3 (4) [some (.ref 0), some (.int x0)] [.int 6, .int 0, .int x0] (hCm b d k s w ik ex pr wd sn qu tb ts rd h0 h1 h2 h3 fi R) rfl ?_
  refine hX_call (r' := zR_112) rfl (ct_112 x0 0 6) ?_
  refine hX_go 1 (bif gCmp .ne (v_112 x0 0 6) 0 then 16 else 10) [some (.ref 0), some (.int x0)] [] (hCm b d k s w ik ex pr wd sn qu tb ts rd h0 h1 h2 h3 fi R) rfl ?_
  refine hX_if (gCmp .ne (v_112 x0 0 6) 0) (fun c1 => ?_) (fun c1 => ?_)
  · skip
    refine hX_go 5 (bif gCmp .lt b.2.2.2.2.1 8 then 34 else 28) [some (.ref 0), some (.int x0)] [] (hCm b d k s w ik ex pr wd sn qu tb ts rd h0 h1 h2 h3 fi R) rfl ?_
    refine hX_if (gCmp .lt b.2.2.2.2.1 8) (fun c2 => ?_) (fun c2 => ?_)
    · skip
      refine hX_go 5 (41) [some (.ref 0), some (.int x0)] [.int 0, .int 5, .int x0, .ref 1] (hCm b d k s w ik ex pr wd sn qu tb ts rd h0 h1 h2 h3 fi R) rfl ?_
      refine hX_call (r' := zR_13) rfl (ct_13_1 x0 5 0 (o1 c1 c2)) ?_
      refine hX_go 5 (53) [some (.ref 0), some (.int x0)] [.int (((f_13_1_b x0 5 0 b).2.2.2.2.1) - 1)] (hCm (f_13_1_b x0 5 0 b) d k s w ik ex pr wd sn qu tb ts rd h0 h1 h2 h3 fi R) rfl ?_
      exact hX_end rfl (by unfold v_61_0; rw [c1, c2]; rfl) (by unfold f_61_0_b; rw [c1, c2]; unfold f_61_0_fi; rw [c1, c2]; rfl)
    · skip
      refine hX_go 2 (30) [some (.ref 0), some (.int x0)] [.int 1, .ref 0] (hCm b d k s w ik ex pr wd sn qu tb ts rd h0 h1 h2 h3 fi R) rfl ?_
      refine hX_call (r' := zR_111) rfl (ct_111_0 1 (o2 c1 c2)) ?_
      refine hX_go 0 (33) [some (.ref 0), some (.int x0)] [.int (v_111_0 1)] (hCm b d k s w ik ex pr wd sn qu tb ts rd h0 h1 h2 h3 (f_111_0_fi 1 fi) R) rfl ?_
      exact hX_end rfl (by unfold v_61_0; rw [c1, c2]; rfl) (by unfold f_61_0_b; rw [c1, c2]; unfold f_61_0_fi; rw [c1, c2]; rfl)
  · skip
    refine hX_go 2 (12) [some (.ref 0), some (.int x0)] [.int 0, .ref 0] (hCm b d k s w ik ex pr wd sn qu tb ts rd h0 h1 h2 h3 fi R) rfl ?_
    refine hX_call (r' := zR_111) rfl (ct_111_0 0 (o3 c1)) ?_
    refine hX_go 0 (15) [some (.ref 0), some (.int x0)] [.int (v_111_0 0)] (hCm b d k s w ik ex pr wd sn qu tb ts rd h0 h1 h2 h3 (f_111_0_fi 0 fi) R) rfl ?_
    exact hX_end rfl (by unfold v_61_0; rw [c1]; rfl) (by unfold f_61_0_b; rw [c1]; unfold f_61_0_fi; rw [c1]; rfl)

/-- UpOneSide.noPull(I)Z -/
def v_113_0 (x0 : Int32) (b : hB) : Int32 := bif gCmp .lt x0 0 then 1 else (bif gCmp .lt x0 b.2.2.2.2.1 then 0 else 1)
set_option maxRecDepth 20000 in
set_option maxHeartbeats 1000000 in
theorem ct_113_0 {LL : Nat} {xs : Nat → Int32} {D : Nat} {b d k s w : hB} {ik ex pr wd : Int32} {sn : Nat → Int64} {qu tb : Nat → Int32} {ts : Int32} {rd : hRd} {h0 h1 h2 h3 : hSt} {fi : Nat → Int32} {R : List gE} (x0 : Int32) : hM (gO LL xs) (D + 0) zR_113 [.ref 0, .int x0] (hCm b d k s w ik ex pr wd sn qu tb ts rd h0 h1 h2 h3 fi R) (some (.int (v_113_0 x0 b))) (hCm b d k s w ik ex pr wd sn qu tb ts rd h0 h1 h2 h3 fi R) := by
  refine hX_go 0 0 [some (.ref 0), some (.int x0)] [] (hCm b d k s w ik ex pr wd sn qu tb ts rd h0 h1 h2 h3 fi R) rfl ?_
  refine hX_go 2 (bif gCmp .lt x0 0 then 15 else 4) [some (.ref 0), some (.int x0)] [] (hCm b d k s w ik ex pr wd sn qu tb ts rd h0 h1 h2 h3 fi R) rfl ?_
  refine hX_if (gCmp .lt x0 0) (fun c1 => ?_) (fun c1 => ?_)
  · skip
    refine hX_go 2 (20) [some (.ref 0), some (.int x0)] [.int 1] (hCm b d k s w ik ex pr wd sn qu tb ts rd h0 h1 h2 h3 fi R) rfl ?_
    exact hX_end rfl (by unfold v_113_0; rw [c1]; rfl) (rfl)
  · skip
    refine hX_go 5 (bif gCmp .lt x0 b.2.2.2.2.1 then 19 else 15) [some (.ref 0), some (.int x0)] [] (hCm b d k s w ik ex pr wd sn qu tb ts rd h0 h1 h2 h3 fi R) rfl ?_
    refine hX_if (gCmp .lt x0 b.2.2.2.2.1) (fun c2 => ?_) (fun c2 => ?_)
    · skip
      refine hX_go 1 (20) [some (.ref 0), some (.int x0)] [.int 0] (hCm b d k s w ik ex pr wd sn qu tb ts rd h0 h1 h2 h3 fi R) rfl ?_
      exact hX_end rfl (by unfold v_113_0; rw [c1, c2]; rfl) (rfl)
    · skip
      refine hX_go 2 (20) [some (.ref 0), some (.int x0)] [.int 1] (hCm b d k s w ik ex pr wd sn qu tb ts rd h0 h1 h2 h3 fi R) rfl ?_
      exact hX_end rfl (by unfold v_113_0; rw [c1, c2]; rfl) (rfl)

theorem bz_113_0 (x0 : Int32) (b : hB) : (decide (v_113_0 x0 b = 0) || decide (v_113_0 x0 b = 1)) = true := by
  unfold v_113_0
  cases (gCmp .lt x0 0)
  · cases (gCmp .lt x0 b.2.2.2.2.1)
    · rfl
    · rfl
  · rfl

/-- UpOneSide.exchange([III)I -/
def v_115_5 (x0 : Int32) (b : hB) : Int32 := b.2.2.2.2.2.2.2.2.1 (Int32.toNatClampNeg x0)
def f_115_5_b (x0 : Int32) (x1 : Int32) (b : hB) : hB := (b.1, b.2.1, b.2.2.1, b.2.2.2.1, b.2.2.2.2.1, b.2.2.2.2.2.1, b.2.2.2.2.2.2.1, b.2.2.2.2.2.2.2.1, upd b.2.2.2.2.2.2.2.2.1 (Int32.toNatClampNeg x0) x1, b.2.2.2.2.2.2.2.2.2)
set_option maxRecDepth 20000 in
set_option maxHeartbeats 1000000 in
theorem ct_115_5 {LL : Nat} {xs : Nat → Int32} {D : Nat} {b d k s w : hB} {ik ex pr wd : Int32} {sn : Nat → Int64} {qu tb : Nat → Int32} {ts : Int32} {rd : hRd} {h0 h1 h2 h3 : hSt} {fi : Nat → Int32} {R : List gE} (x0 : Int32) (x1 : Int32) (o1 : gIn x0 6 = true) : hM (gO LL xs) (D + 0) zR_115 [.ref 5, .int x0, .int x1] (hCm b d k s w ik ex pr wd sn qu tb ts rd h0 h1 h2 h3 fi R) (some (.int (v_115_5 x0 b))) (hCm (f_115_5_b x0 x1 b) d k s w ik ex pr wd sn qu tb ts rd h0 h1 h2 h3 fi R) := by
  refine hX_go 0 0 [some (.ref 5), some (.int x0), some (.int x1), none] [] (hCm b d k s w ik ex pr wd sn qu tb ts rd h0 h1 h2 h3 fi R) rfl ?_
  refine hX_go 2 (2) [some (.ref 5), some (.int x0), some (.int x1), none] [.int x0, .ref 5] (hCm b d k s w ik ex pr wd sn qu tb ts rd h0 h1 h2 h3 fi R) rfl ?_
  refine hX_g (gIn x0 6) 3 [some (.ref 5), some (.int x0), some (.int x1), none] [.int (b.2.2.2.2.2.2.2.2.1 (Int32.toNatClampNeg x0))] (hCm b d k s w ik ex pr wd sn qu tb ts rd h0 h1 h2 h3 fi R) rfl o1 ?_
  refine hX_go 4 (7) [some (.ref 5), some (.int x0), some (.int x1), some (.int (b.2.2.2.2.2.2.2.2.1 (Int32.toNatClampNeg x0)))] [.int x1, .int x0, .ref 5] (hCm b d k s w ik ex pr wd sn qu tb ts rd h0 h1 h2 h3 fi R) rfl ?_
  refine hX_g (gIn x0 6) 8 [some (.ref 5), some (.int x0), some (.int x1), some (.int (b.2.2.2.2.2.2.2.2.1 (Int32.toNatClampNeg x0)))] [] (hCm (b.1, b.2.1, b.2.2.1, b.2.2.2.1, b.2.2.2.2.1, b.2.2.2.2.2.1, b.2.2.2.2.2.2.1, b.2.2.2.2.2.2.2.1, upd b.2.2.2.2.2.2.2.2.1 (Int32.toNatClampNeg x0) x1, b.2.2.2.2.2.2.2.2.2) d k s w ik ex pr wd sn qu tb ts rd h0 h1 h2 h3 fi R) rfl o1 ?_
  refine hX_go 1 (9) [some (.ref 5), some (.int x0), some (.int x1), some (.int (b.2.2.2.2.2.2.2.2.1 (Int32.toNatClampNeg x0)))] [.int (b.2.2.2.2.2.2.2.2.1 (Int32.toNatClampNeg x0))] (hCm (b.1, b.2.1, b.2.2.1, b.2.2.2.1, b.2.2.2.2.1, b.2.2.2.2.2.1, b.2.2.2.2.2.2.1, b.2.2.2.2.2.2.2.1, upd b.2.2.2.2.2.2.2.2.1 (Int32.toNatClampNeg x0) x1, b.2.2.2.2.2.2.2.2.2) d k s w ik ex pr wd sn qu tb ts rd h0 h1 h2 h3 fi R) rfl ?_
  exact hX_end rfl (rfl) (rfl)

/-- UpOneSide.rule(II)I -/
def v_64_0 (x0 : Int32) (x1 : Int32) (b : hB) : Int32 := bif gCmp .eq (v_112 x0 0 5) 0 then (v_111_0 0) else (bif gCmp .ne (v_112 x1 ((gSa 3).getD (Int32.toNatClampNeg x0) 0) ((gSa 4).getD (Int32.toNatClampNeg x0) 0)) 0 then (v_115_5 x0 b) else (v_111_0 0))
def f_64_0_b (x0 : Int32) (x1 : Int32) (b : hB) : hB := bif gCmp .eq (v_112 x0 0 5) 0 then b else (bif gCmp .ne (v_112 x1 ((gSa 3).getD (Int32.toNatClampNeg x0) 0) ((gSa 4).getD (Int32.toNatClampNeg x0) 0)) 0 then (f_115_5_b x0 x1 b) else b)
def f_64_0_fi (x0 : Int32) (x1 : Int32) (fi : Nat → Int32) : Nat → Int32 := bif gCmp .eq (v_112 x0 0 5) 0 then (f_111_0_fi 0 fi) else (bif gCmp .ne (v_112 x1 ((gSa 3).getD (Int32.toNatClampNeg x0) 0) ((gSa 4).getD (Int32.toNatClampNeg x0) 0)) 0 then fi else (f_111_0_fi 0 fi))
set_option maxRecDepth 20000 in
set_option maxHeartbeats 1000000 in
theorem ct_64_0 {LL : Nat} {xs : Nat → Int32} {D : Nat} {b d k s w : hB} {ik ex pr wd : Int32} {sn : Nat → Int64} {qu tb : Nat → Int32} {ts : Int32} {rd : hRd} {h0 h1 h2 h3 : hSt} {fi : Nat → Int32} {R : List gE} (x0 : Int32) (x1 : Int32) (o1 : gCmp .eq (v_112 x0 0 5) 0 = true → gIn 0 7 = true) (o2 : gCmp .eq (v_112 x0 0 5) 0 = false → gIn x0 6 = true) (o3 : gCmp .eq (v_112 x0 0 5) 0 = false → gCmp .ne (v_112 x1 ((gSa 3).getD (Int32.toNatClampNeg x0) 0) ((gSa 4).getD (Int32.toNatClampNeg x0) 0)) 0 = false → gIn 0 7 = true) : hM (gO LL xs) (D + 1) zR_64 [.ref 0, .int x0, .int x1] (hCm b d k s w ik ex pr wd sn qu tb ts rd h0 h1 h2 h3 fi R) (some (.int (v_64_0 x0 x1 b))) (hCm (f_64_0_b x0 x1 b) d k s w ik ex pr wd sn qu tb ts rd h0 h1 h2 h3 (f_64_0_fi x0 x1 fi) R) := by
  refine hX_go 0 0 [some (.ref 0), some (.int x0), some (.int x1)] [] (hCm b d k s w ik ex pr wd sn qu tb ts rd h0 h1 h2 h3 fi R) rfl ?_
  refine hX_go 3 (3) [some (.ref 0), some (.int x0), some (.int x1)] [.int 5, .int 0, .int x0] (hCm b d k s w ik ex pr wd sn qu tb ts rd h0 h1 h2 h3 fi R) rfl ?_
  refine hX_call (r' := zR_112) rfl (ct_112 x0 0 5) ?_
  refine hX_go 1 (bif gCmp .eq (v_112 x0 0 5) 0 then 26 else 9) [some (.ref 0), some (.int x0), some (.int x1)] [] (hCm b d k s w ik ex pr wd sn qu tb ts rd h0 h1 h2 h3 fi R) rfl ?_
  refine hX_if (gCmp .eq (v_112 x0 0 5) 0) (fun c1 => ?_) (fun c1 => ?_)
  · skip
    refine hX_go 2 (28) [some (.ref 0), some (.int x0), some (.int x1)] [.int 0, .ref 0] (hCm b d k s w ik ex pr wd sn qu tb ts rd h0 h1 h2 h3 fi R) rfl ?_
    refine hX_call (r' := zR_111) rfl (ct_111_0 0 (o1 c1)) ?_
    refine hX_go 0 (31) [some (.ref 0), some (.int x0), some (.int x1)] [.int (v_111_0 0)] (hCm b d k s w ik ex pr wd sn qu tb ts rd h0 h1 h2 h3 (f_111_0_fi 0 fi) R) rfl ?_
    exact hX_end rfl (by unfold v_64_0; rw [c1]; rfl) (by unfold f_64_0_b; rw [c1]; unfold f_64_0_fi; rw [c1]; rfl)
  · skip
    refine hX_go 3 (14) [some (.ref 0), some (.int x0), some (.int x1)] [.int x0, .ref 1003, .int x1] (hCm b d k s w ik ex pr wd sn qu tb ts rd h0 h1 h2 h3 fi R) rfl ?_
    refine hX_g (gIn x0 6) 15 [some (.ref 0), some (.int x0), some (.int x1)] [.int ((gSa 3).getD (Int32.toNatClampNeg x0) 0), .int x1] (hCm b d k s w ik ex pr wd sn qu tb ts rd h0 h1 h2 h3 fi R) rfl (o2 c1) ?_
    refine hX_go 2 (19) [some (.ref 0), some (.int x0), some (.int x1)] [.int x0, .ref 1004, .int ((gSa 3).getD (Int32.toNatClampNeg x0) 0), .int x1] (hCm b d k s w ik ex pr wd sn qu tb ts rd h0 h1 h2 h3 fi R) rfl ?_
    refine hX_g (gIn x0 6) 20 [some (.ref 0), some (.int x0), some (.int x1)] [.int ((gSa 4).getD (Int32.toNatClampNeg x0) 0), .int ((gSa 3).getD (Int32.toNatClampNeg x0) 0), .int x1] (hCm b d k s w ik ex pr wd sn qu tb ts rd h0 h1 h2 h3 fi R) rfl (o2 c1) ?_
    refine hX_call (r' := zR_112) rfl (ct_112 x1 ((gSa 3).getD (Int32.toNatClampNeg x0) 0) ((gSa 4).getD (Int32.toNatClampNeg x0) 0)) ?_
    refine hX_go 1 (bif gCmp .ne (v_112 x1 ((gSa 3).getD (Int32.toNatClampNeg x0) 0) ((gSa 4).getD (Int32.toNatClampNeg x0) 0)) 0 then 32 else 26) [some (.ref 0), some (.int x0), some (.int x1)] [] (hCm b d k s w ik ex pr wd sn qu tb ts rd h0 h1 h2 h3 fi R) rfl ?_
    refine hX_if (gCmp .ne (v_112 x1 ((gSa 3).getD (Int32.toNatClampNeg x0) 0) ((gSa 4).getD (Int32.toNatClampNeg x0) 0)) 0) (fun c2 => ?_) (fun c2 => ?_)
    · skip
      refine hX_go 5 (41) [some (.ref 0), some (.int x0), some (.int x1)] [.int x1, .int x0, .ref 5] (hCm b d k s w ik ex pr wd sn qu tb ts rd h0 h1 h2 h3 fi R) rfl ?_
      refine hX_call (r' := zR_115) rfl (ct_115_5 x0 x1 (o2 c1)) ?_
      refine hX_go 0 (44) [some (.ref 0), some (.int x0), some (.int x1)] [.int (v_115_5 x0 b)] (hCm (f_115_5_b x0 x1 b) d k s w ik ex pr wd sn qu tb ts rd h0 h1 h2 h3 fi R) rfl ?_
      exact hX_end rfl (by unfold v_64_0; rw [c1, c2]; rfl) (by unfold f_64_0_b; rw [c1, c2]; unfold f_64_0_fi; rw [c1, c2]; rfl)
    · skip
      refine hX_go 2 (28) [some (.ref 0), some (.int x0), some (.int x1)] [.int 0, .ref 0] (hCm b d k s w ik ex pr wd sn qu tb ts rd h0 h1 h2 h3 fi R) rfl ?_
      refine hX_call (r' := zR_111) rfl (ct_111_0 0 (o3 c1 c2)) ?_
      refine hX_go 0 (31) [some (.ref 0), some (.int x0), some (.int x1)] [.int (v_111_0 0)] (hCm b d k s w ik ex pr wd sn qu tb ts rd h0 h1 h2 h3 (f_111_0_fi 0 fi) R) rfl ?_
      exact hX_end rfl (by unfold v_64_0; rw [c1, c2]; rfl) (by unfold f_64_0_b; rw [c1, c2]; unfold f_64_0_fi; rw [c1, c2]; rfl)

/-- UpOneSide.ruled(I)I -/
def v_65_0 (x0 : Int32) (b : hB) : Int32 := bif gCmp .ne (v_112 x0 0 5) 0 then (b.2.2.2.2.2.2.2.2.1 (Int32.toNatClampNeg x0)) else (v_111_0 0)
def f_65_0_fi (x0 : Int32) (fi : Nat → Int32) : Nat → Int32 := bif gCmp .ne (v_112 x0 0 5) 0 then fi else (f_111_0_fi 0 fi)
set_option maxRecDepth 20000 in
set_option maxHeartbeats 1000000 in
theorem ct_65_0 {LL : Nat} {xs : Nat → Int32} {D : Nat} {b d k s w : hB} {ik ex pr wd : Int32} {sn : Nat → Int64} {qu tb : Nat → Int32} {ts : Int32} {rd : hRd} {h0 h1 h2 h3 : hSt} {fi : Nat → Int32} {R : List gE} (x0 : Int32) (o1 : gCmp .ne (v_112 x0 0 5) 0 = true → gIn x0 6 = true) (o2 : gCmp .ne (v_112 x0 0 5) 0 = false → gIn 0 7 = true) : hM (gO LL xs) (D + 1) zR_65 [.ref 0, .int x0] (hCm b d k s w ik ex pr wd sn qu tb ts rd h0 h1 h2 h3 fi R) (some (.int (v_65_0 x0 b))) (hCm b d k s w ik ex pr wd sn qu tb ts rd h0 h1 h2 h3 (f_65_0_fi x0 fi) R) := by
  refine hX_go 0 0 [some (.ref 0), some (.int x0)] [] (hCm b d k s w ik ex pr wd sn qu tb ts rd h0 h1 h2 h3 fi R) rfl ?_
  refine hX_go 3 (3) [some (.ref 0), some (.int x0)] [.int 5, .int 0, .int x0] (hCm b d k s w ik ex pr wd sn qu tb ts rd h0 h1 h2 h3 fi R) rfl ?_
  refine hX_call (r' := zR_112) rfl (ct_112 x0 0 5) ?_
  refine hX_go 1 (bif gCmp .ne (v_112 x0 0 5) 0 then 15 else 9) [some (.ref 0), some (.int x0)] [] (hCm b d k s w ik ex pr wd sn qu tb ts rd h0 h1 h2 h3 fi R) rfl ?_
  refine hX_if (gCmp .ne (v_112 x0 0 5) 0) (fun c1 => ?_) (fun c1 => ?_)
  · skip
    refine hX_go 4 (23) [some (.ref 0), some (.int x0)] [.int x0, .ref 5] (hCm b d k s w ik ex pr wd sn qu tb ts rd h0 h1 h2 h3 fi R) rfl ?_
    refine hX_g (gIn x0 6) 24 [some (.ref 0), some (.int x0)] [.int (b.2.2.2.2.2.2.2.2.1 (Int32.toNatClampNeg x0))] (hCm b d k s w ik ex pr wd sn qu tb ts rd h0 h1 h2 h3 fi R) rfl (o1 c1) ?_
    exact hX_end rfl (by unfold v_65_0; rw [c1]; rfl) (by unfold f_65_0_fi; rw [c1]; rfl)
  · skip
    refine hX_go 2 (11) [some (.ref 0), some (.int x0)] [.int 0, .ref 0] (hCm b d k s w ik ex pr wd sn qu tb ts rd h0 h1 h2 h3 fi R) rfl ?_
    refine hX_call (r' := zR_111) rfl (ct_111_0 0 (o2 c1)) ?_
    refine hX_go 0 (14) [some (.ref 0), some (.int x0)] [.int (v_111_0 0)] (hCm b d k s w ik ex pr wd sn qu tb ts rd h0 h1 h2 h3 (f_111_0_fi 0 fi) R) rfl ?_
    exact hX_end rfl (by unfold v_65_0; rw [c1]; rfl) (by unfold f_65_0_fi; rw [c1]; rfl)

/-- UpOneSide.exchange([III)I -/
def v_115_6 (x0 : Int32) (b : hB) : Int32 := b.2.2.2.2.2.2.2.2.2.1 (Int32.toNatClampNeg x0)
def f_115_6_b (x0 : Int32) (x1 : Int32) (b : hB) : hB := (b.1, b.2.1, b.2.2.1, b.2.2.2.1, b.2.2.2.2.1, b.2.2.2.2.2.1, b.2.2.2.2.2.2.1, b.2.2.2.2.2.2.2.1, b.2.2.2.2.2.2.2.2.1, upd b.2.2.2.2.2.2.2.2.2.1 (Int32.toNatClampNeg x0) x1, b.2.2.2.2.2.2.2.2.2.2)
set_option maxRecDepth 20000 in
set_option maxHeartbeats 1000000 in
theorem ct_115_6 {LL : Nat} {xs : Nat → Int32} {D : Nat} {b d k s w : hB} {ik ex pr wd : Int32} {sn : Nat → Int64} {qu tb : Nat → Int32} {ts : Int32} {rd : hRd} {h0 h1 h2 h3 : hSt} {fi : Nat → Int32} {R : List gE} (x0 : Int32) (x1 : Int32) (o1 : gIn x0 4 = true) : hM (gO LL xs) (D + 0) zR_115 [.ref 6, .int x0, .int x1] (hCm b d k s w ik ex pr wd sn qu tb ts rd h0 h1 h2 h3 fi R) (some (.int (v_115_6 x0 b))) (hCm (f_115_6_b x0 x1 b) d k s w ik ex pr wd sn qu tb ts rd h0 h1 h2 h3 fi R) := by
  refine hX_go 0 0 [some (.ref 6), some (.int x0), some (.int x1), none] [] (hCm b d k s w ik ex pr wd sn qu tb ts rd h0 h1 h2 h3 fi R) rfl ?_
  refine hX_go 2 (2) [some (.ref 6), some (.int x0), some (.int x1), none] [.int x0, .ref 6] (hCm b d k s w ik ex pr wd sn qu tb ts rd h0 h1 h2 h3 fi R) rfl ?_
  refine hX_g (gIn x0 4) 3 [some (.ref 6), some (.int x0), some (.int x1), none] [.int (b.2.2.2.2.2.2.2.2.2.1 (Int32.toNatClampNeg x0))] (hCm b d k s w ik ex pr wd sn qu tb ts rd h0 h1 h2 h3 fi R) rfl o1 ?_
  refine hX_go 4 (7) [some (.ref 6), some (.int x0), some (.int x1), some (.int (b.2.2.2.2.2.2.2.2.2.1 (Int32.toNatClampNeg x0)))] [.int x1, .int x0, .ref 6] (hCm b d k s w ik ex pr wd sn qu tb ts rd h0 h1 h2 h3 fi R) rfl ?_
  refine hX_g (gIn x0 4) 8 [some (.ref 6), some (.int x0), some (.int x1), some (.int (b.2.2.2.2.2.2.2.2.2.1 (Int32.toNatClampNeg x0)))] [] (hCm (b.1, b.2.1, b.2.2.1, b.2.2.2.1, b.2.2.2.2.1, b.2.2.2.2.2.1, b.2.2.2.2.2.2.1, b.2.2.2.2.2.2.2.1, b.2.2.2.2.2.2.2.2.1, upd b.2.2.2.2.2.2.2.2.2.1 (Int32.toNatClampNeg x0) x1, b.2.2.2.2.2.2.2.2.2.2) d k s w ik ex pr wd sn qu tb ts rd h0 h1 h2 h3 fi R) rfl o1 ?_
  refine hX_go 1 (9) [some (.ref 6), some (.int x0), some (.int x1), some (.int (b.2.2.2.2.2.2.2.2.2.1 (Int32.toNatClampNeg x0)))] [.int (b.2.2.2.2.2.2.2.2.2.1 (Int32.toNatClampNeg x0))] (hCm (b.1, b.2.1, b.2.2.1, b.2.2.2.1, b.2.2.2.2.1, b.2.2.2.2.2.1, b.2.2.2.2.2.2.1, b.2.2.2.2.2.2.2.1, b.2.2.2.2.2.2.2.2.1, upd b.2.2.2.2.2.2.2.2.2.1 (Int32.toNatClampNeg x0) x1, b.2.2.2.2.2.2.2.2.2.2) d k s w ik ex pr wd sn qu tb ts rd h0 h1 h2 h3 fi R) rfl ?_
  exact hX_end rfl (rfl) (rfl)

/-- UpOneSide.price(II)I -/
def v_66_0 (x0 : Int32) (x1 : Int32) (b : hB) : Int32 := bif gCmp .eq (v_112 x0 0 3) 0 then (v_111_0 0) else (bif gCmp .ne (v_112 x1 0 99) 0 then (v_115_6 x0 b) else (v_111_0 0))
def f_66_0_b (x0 : Int32) (x1 : Int32) (b : hB) : hB := bif gCmp .eq (v_112 x0 0 3) 0 then b else (bif gCmp .ne (v_112 x1 0 99) 0 then (f_115_6_b x0 x1 b) else b)
def f_66_0_fi (x0 : Int32) (x1 : Int32) (fi : Nat → Int32) : Nat → Int32 := bif gCmp .eq (v_112 x0 0 3) 0 then (f_111_0_fi 0 fi) else (bif gCmp .ne (v_112 x1 0 99) 0 then fi else (f_111_0_fi 0 fi))
set_option maxRecDepth 20000 in
set_option maxHeartbeats 1000000 in
theorem ct_66_0 {LL : Nat} {xs : Nat → Int32} {D : Nat} {b d k s w : hB} {ik ex pr wd : Int32} {sn : Nat → Int64} {qu tb : Nat → Int32} {ts : Int32} {rd : hRd} {h0 h1 h2 h3 : hSt} {fi : Nat → Int32} {R : List gE} (x0 : Int32) (x1 : Int32) (o1 : gCmp .eq (v_112 x0 0 3) 0 = true → gIn 0 7 = true) (o2 : gCmp .eq (v_112 x0 0 3) 0 = false → gCmp .ne (v_112 x1 0 99) 0 = true → gIn x0 4 = true) (o3 : gCmp .eq (v_112 x0 0 3) 0 = false → gCmp .ne (v_112 x1 0 99) 0 = false → gIn 0 7 = true) : hM (gO LL xs) (D + 1) zR_66 [.ref 0, .int x0, .int x1] (hCm b d k s w ik ex pr wd sn qu tb ts rd h0 h1 h2 h3 fi R) (some (.int (v_66_0 x0 x1 b))) (hCm (f_66_0_b x0 x1 b) d k s w ik ex pr wd sn qu tb ts rd h0 h1 h2 h3 (f_66_0_fi x0 x1 fi) R) := by
  refine hX_go 0 0 [some (.ref 0), some (.int x0), some (.int x1)] [] (hCm b d k s w ik ex pr wd sn qu tb ts rd h0 h1 h2 h3 fi R) rfl ?_
  refine hX_go 3 (3) [some (.ref 0), some (.int x0), some (.int x1)] [.int 3, .int 0, .int x0] (hCm b d k s w ik ex pr wd sn qu tb ts rd h0 h1 h2 h3 fi R) rfl ?_
  refine hX_call (r' := zR_112) rfl (ct_112 x0 0 3) ?_
  refine hX_go 1 (bif gCmp .eq (v_112 x0 0 3) 0 then 19 else 9) [some (.ref 0), some (.int x0), some (.int x1)] [] (hCm b d k s w ik ex pr wd sn qu tb ts rd h0 h1 h2 h3 fi R) rfl ?_
  refine hX_if (gCmp .eq (v_112 x0 0 3) 0) (fun c1 => ?_) (fun c1 => ?_)
  · skip
    refine hX_go 2 (21) [some (.ref 0), some (.int x0), some (.int x1)] [.int 0, .ref 0] (hCm b d k s w ik ex pr wd sn qu tb ts rd h0 h1 h2 h3 fi R) rfl ?_
    refine hX_call (r' := zR_111) rfl (ct_111_0 0 (o1 c1)) ?_
    refine hX_go 0 (24) [some (.ref 0), some (.int x0), some (.int x1)] [.int (v_111_0 0)] (hCm b d k s w ik ex pr wd sn qu tb ts rd h0 h1 h2 h3 (f_111_0_fi 0 fi) R) rfl ?_
    exact hX_end rfl (by unfold v_66_0; rw [c1]; rfl) (by unfold f_66_0_b; rw [c1]; unfold f_66_0_fi; rw [c1]; rfl)
  · skip
    refine hX_go 3 (13) [some (.ref 0), some (.int x0), some (.int x1)] [.int 99, .int 0, .int x1] (hCm b d k s w ik ex pr wd sn qu tb ts rd h0 h1 h2 h3 fi R) rfl ?_
    refine hX_call (r' := zR_112) rfl (ct_112 x1 0 99) ?_
    refine hX_go 1 (bif gCmp .ne (v_112 x1 0 99) 0 then 25 else 19) [some (.ref 0), some (.int x0), some (.int x1)] [] (hCm b d k s w ik ex pr wd sn qu tb ts rd h0 h1 h2 h3 fi R) rfl ?_
    refine hX_if (gCmp .ne (v_112 x1 0 99) 0) (fun c2 => ?_) (fun c2 => ?_)
    · skip
      refine hX_go 5 (34) [some (.ref 0), some (.int x0), some (.int x1)] [.int x1, .int x0, .ref 6] (hCm b d k s w ik ex pr wd sn qu tb ts rd h0 h1 h2 h3 fi R) rfl ?_
      refine hX_call (r' := zR_115) rfl (ct_115_6 x0 x1 (o2 c1 c2)) ?_
      refine hX_go 0 (37) [some (.ref 0), some (.int x0), some (.int x1)] [.int (v_115_6 x0 b)] (hCm (f_115_6_b x0 x1 b) d k s w ik ex pr wd sn qu tb ts rd h0 h1 h2 h3 fi R) rfl ?_
      exact hX_end rfl (by unfold v_66_0; rw [c1, c2]; rfl) (by unfold f_66_0_b; rw [c1, c2]; unfold f_66_0_fi; rw [c1, c2]; rfl)
    · skip
      refine hX_go 2 (21) [some (.ref 0), some (.int x0), some (.int x1)] [.int 0, .ref 0] (hCm b d k s w ik ex pr wd sn qu tb ts rd h0 h1 h2 h3 fi R) rfl ?_
      refine hX_call (r' := zR_111) rfl (ct_111_0 0 (o3 c1 c2)) ?_
      refine hX_go 0 (24) [some (.ref 0), some (.int x0), some (.int x1)] [.int (v_111_0 0)] (hCm b d k s w ik ex pr wd sn qu tb ts rd h0 h1 h2 h3 (f_111_0_fi 0 fi) R) rfl ?_
      exact hX_end rfl (by unfold v_66_0; rw [c1, c2]; rfl) (by unfold f_66_0_b; rw [c1, c2]; unfold f_66_0_fi; rw [c1, c2]; rfl)

/-- UpOneSide$Blind.off()I -/
def v_14_1 (b : hB) : Int32 := b.1 - b.2.1
set_option maxRecDepth 20000 in
set_option maxHeartbeats 1000000 in
theorem ct_14_1 {LL : Nat} {xs : Nat → Int32} {D : Nat} {b d k s w : hB} {ik ex pr wd : Int32} {sn : Nat → Int64} {qu tb : Nat → Int32} {ts : Int32} {rd : hRd} {h0 h1 h2 h3 : hSt} {fi : Nat → Int32} {R : List gE} : hM (gO LL xs) (D + 0) zR_14 [.ref 1] (hCm b d k s w ik ex pr wd sn qu tb ts rd h0 h1 h2 h3 fi R) (some (.int (v_14_1 b))) (hCm b d k s w ik ex pr wd sn qu tb ts rd h0 h1 h2 h3 fi R) := by
  refine hX_go 0 0 [some (.ref 1)] [] (hCm b d k s w ik ex pr wd sn qu tb ts rd h0 h1 h2 h3 fi R) rfl ?_
  refine hX_go 5 (9) [some (.ref 1)] [.int (b.1 - b.2.1)] (hCm b d k s w ik ex pr wd sn qu tb ts rd h0 h1 h2 h3 fi R) rfl ?_
  exact hX_end rfl (rfl) (rfl)

/-- UpOneSide.up(II)I -/
def v_67_0 (x0 : Int32) (x1 : Int32) (b : hB) : Int32 := bif gCmp .eq (v_112 x0 0 60) 0 then (v_111_0 0) else (bif gCmp .ne (v_112 x1 0 60) 0 then (v_14_1 (x0, x1, b.2.2)) else (v_111_0 0))
def f_67_0_b (x0 : Int32) (x1 : Int32) (b : hB) : hB := bif gCmp .eq (v_112 x0 0 60) 0 then b else (bif gCmp .ne (v_112 x1 0 60) 0 then (x0, x1, b.2.2) else b)
def f_67_0_fi (x0 : Int32) (x1 : Int32) (fi : Nat → Int32) : Nat → Int32 := bif gCmp .eq (v_112 x0 0 60) 0 then (f_111_0_fi 0 fi) else (bif gCmp .ne (v_112 x1 0 60) 0 then fi else (f_111_0_fi 0 fi))
set_option maxRecDepth 20000 in
set_option maxHeartbeats 1000000 in
theorem ct_67_0 {LL : Nat} {xs : Nat → Int32} {D : Nat} {b d k s w : hB} {ik ex pr wd : Int32} {sn : Nat → Int64} {qu tb : Nat → Int32} {ts : Int32} {rd : hRd} {h0 h1 h2 h3 : hSt} {fi : Nat → Int32} {R : List gE} (x0 : Int32) (x1 : Int32) (o1 : gCmp .eq (v_112 x0 0 60) 0 = true → gIn 0 7 = true) (o2 : gCmp .eq (v_112 x0 0 60) 0 = false → gCmp .ne (v_112 x1 0 60) 0 = false → gIn 0 7 = true) : hM (gO LL xs) (D + 1) zR_67 [.ref 0, .int x0, .int x1] (hCm b d k s w ik ex pr wd sn qu tb ts rd h0 h1 h2 h3 fi R) (some (.int (v_67_0 x0 x1 b))) (hCm (f_67_0_b x0 x1 b) d k s w ik ex pr wd sn qu tb ts rd h0 h1 h2 h3 (f_67_0_fi x0 x1 fi) R) := by
  refine hX_go 0 0 [some (.ref 0), some (.int x0), some (.int x1)] [] (hCm b d k s w ik ex pr wd sn qu tb ts rd h0 h1 h2 h3 fi R) rfl ?_
  refine hX_go 3 (4) [some (.ref 0), some (.int x0), some (.int x1)] [.int 60, .int 0, .int x0] (hCm b d k s w ik ex pr wd sn qu tb ts rd h0 h1 h2 h3 fi R) rfl ?_
  refine hX_call (r' := zR_112) rfl (ct_112 x0 0 60) ?_
  refine hX_go 1 (bif gCmp .eq (v_112 x0 0 60) 0 then 20 else 10) [some (.ref 0), some (.int x0), some (.int x1)] [] (hCm b d k s w ik ex pr wd sn qu tb ts rd h0 h1 h2 h3 fi R) rfl ?_
  refine hX_if (gCmp .eq (v_112 x0 0 60) 0) (fun c1 => ?_) (fun c1 => ?_)
  · skip
    refine hX_go 2 (22) [some (.ref 0), some (.int x0), some (.int x1)] [.int 0, .ref 0] (hCm b d k s w ik ex pr wd sn qu tb ts rd h0 h1 h2 h3 fi R) rfl ?_
    refine hX_call (r' := zR_111) rfl (ct_111_0 0 (o1 c1)) ?_
    refine hX_go 0 (25) [some (.ref 0), some (.int x0), some (.int x1)] [.int (v_111_0 0)] (hCm b d k s w ik ex pr wd sn qu tb ts rd h0 h1 h2 h3 (f_111_0_fi 0 fi) R) rfl ?_
    exact hX_end rfl (by unfold v_67_0; rw [c1]; rfl) (by unfold f_67_0_b; rw [c1]; unfold f_67_0_fi; rw [c1]; rfl)
  · skip
    refine hX_go 3 (14) [some (.ref 0), some (.int x0), some (.int x1)] [.int 60, .int 0, .int x1] (hCm b d k s w ik ex pr wd sn qu tb ts rd h0 h1 h2 h3 fi R) rfl ?_
    refine hX_call (r' := zR_112) rfl (ct_112 x1 0 60) ?_
    refine hX_go 1 (bif gCmp .ne (v_112 x1 0 60) 0 then 26 else 20) [some (.ref 0), some (.int x0), some (.int x1)] [] (hCm b d k s w ik ex pr wd sn qu tb ts rd h0 h1 h2 h3 fi R) rfl ?_
    refine hX_if (gCmp .ne (v_112 x1 0 60) 0) (fun c2 => ?_) (fun c2 => ?_)
    · skip
      refine hX_go 9 (43) [some (.ref 0), some (.int x0), some (.int x1)] [.ref 0] (hCm (x0, x1, b.2.2) d k s w ik ex pr wd sn qu tb ts rd h0 h1 h2 h3 fi R) rfl ?_
      refine hX_go 1 (46) [some (.ref 0), some (.int x0), some (.int x1)] [.ref 1] (hCm (x0, x1, b.2.2) d k s w ik ex pr wd sn qu tb ts rd h0 h1 h2 h3 fi R) rfl ?_
      refine hX_call (r' := zR_14) rfl (ct_14_1) ?_
      refine hX_go 0 (49) [some (.ref 0), some (.int x0), some (.int x1)] [.int (v_14_1 (x0, x1, b.2.2))] (hCm (x0, x1, b.2.2) d k s w ik ex pr wd sn qu tb ts rd h0 h1 h2 h3 fi R) rfl ?_
      exact hX_end rfl (by unfold v_67_0; rw [c1, c2]; rfl) (by unfold f_67_0_b; rw [c1, c2]; unfold f_67_0_fi; rw [c1, c2]; rfl)
    · skip
      refine hX_go 2 (22) [some (.ref 0), some (.int x0), some (.int x1)] [.int 0, .ref 0] (hCm b d k s w ik ex pr wd sn qu tb ts rd h0 h1 h2 h3 fi R) rfl ?_
      refine hX_call (r' := zR_111) rfl (ct_111_0 0 (o2 c1 c2)) ?_
      refine hX_go 0 (25) [some (.ref 0), some (.int x0), some (.int x1)] [.int (v_111_0 0)] (hCm b d k s w ik ex pr wd sn qu tb ts rd h0 h1 h2 h3 (f_111_0_fi 0 fi) R) rfl ?_
      exact hX_end rfl (by unfold v_67_0; rw [c1, c2]; rfl) (by unfold f_67_0_b; rw [c1, c2]; unfold f_67_0_fi; rw [c1, c2]; rfl)

theorem sw_16_13 (x : Int32) : gSwT 13 104 1 6 #[39, 56, 56, 68, 82, 82] x = some (bif hEq x 1 then 52 else bif hEq x 2 then 69 else bif hEq x 3 then 69 else bif hEq x 4 then 81 else bif hEq x 5 then 95 else bif hEq x 6 then 95 else 117) := by
  by_cases q1 : x = 1
  · subst q1; rfl
  by_cases q2 : x = 2
  · subst q2; rfl
  by_cases q3 : x = 3
  · subst q3; rfl
  by_cases q4 : x = 4
  · subst q4; rfl
  by_cases q5 : x = 5
  · subst q5; rfl
  by_cases q6 : x = 6
  · subst q6; rfl
  simp only [hEq, q1, q2, q3, q4, q5, q6, decide_false, cond_false]
  have n1 := hNe q1
  have n2 := hNe q2
  have n3 := hNe q3
  have n4 := hNe q4
  have n5 := hNe q5
  have n6 := hNe q6
  unfold gSwT
  rw [show (decide (x.toInt < 1) || decide (6 < x.toInt)) = true from by
    simp only [Bool.or_eq_true, decide_eq_true_eq]
    have e : ∀ z : Int, z < 1 ∨ 6 < z ∨ (z = 1 ∨ z = 2 ∨ z = 3 ∨ z = 4 ∨ z = 5 ∨ z = 6) := by intro z; omega
    rcases e x.toInt with h | h | h
    · exact Or.inl h
    · exact Or.inr h
    · rcases h with h | h | h | h | h | h
      · exact absurd h n1
      · exact absurd h n2
      · exact absurd h n3
      · exact absurd h n4
      · exact absurd h n5
      · exact absurd h n6
    ]
  rfl

/-- UpOneSide$Blind.leftLift(I)I -/
def v_16_1 (x0 : Int32) (b : hB) : Int32 := (bif hEq (b.2.2.2.2.2.1 (Int32.toNatClampNeg x0)) 1 then ((b.2.2.2.2.2.2.1 (Int32.toNatClampNeg x0)) - ((b.1 - b.2.1) / 2)) else (bif hEq (b.2.2.2.2.2.1 (Int32.toNatClampNeg x0)) 2 then ((b.2.2.2.2.2.2.1 (Int32.toNatClampNeg x0)) + (b.2.2.2.2.2.2.2.1 (Int32.toNatClampNeg x0))) else (bif hEq (b.2.2.2.2.2.1 (Int32.toNatClampNeg x0)) 3 then ((b.2.2.2.2.2.2.1 (Int32.toNatClampNeg x0)) + (b.2.2.2.2.2.2.2.1 (Int32.toNatClampNeg x0))) else (bif hEq (b.2.2.2.2.2.1 (Int32.toNatClampNeg x0)) 4 then (2 * ((b.2.2.2.2.2.2.1 (Int32.toNatClampNeg x0)) + (b.2.2.2.2.2.2.2.1 (Int32.toNatClampNeg x0)))) else (bif hEq (b.2.2.2.2.2.1 (Int32.toNatClampNeg x0)) 5 then (bif gCmp .lt b.1 (b.2.2.2.2.2.2.2.2.1 3) then (b.2.2.2.2.2.2.1 (Int32.toNatClampNeg x0)) else 0) else (bif hEq (b.2.2.2.2.2.1 (Int32.toNatClampNeg x0)) 6 then (bif gCmp .lt b.1 (b.2.2.2.2.2.2.2.2.1 3) then (b.2.2.2.2.2.2.1 (Int32.toNatClampNeg x0)) else 0) else (b.2.2.2.2.2.2.1 (Int32.toNatClampNeg x0)))))))) + (((b.1 / 10) * (b.2.2.2.2.2.2.2.2.1 2)) / 4)
set_option maxRecDepth 20000 in
set_option maxHeartbeats 1000000 in
theorem ct_16_1 {LL : Nat} {xs : Nat → Int32} {D : Nat} {b d k s w : hB} {ik ex pr wd : Int32} {sn : Nat → Int64} {qu tb : Nat → Int32} {ts : Int32} {rd : hRd} {h0 h1 h2 h3 : hSt} {fi : Nat → Int32} {R : List gE} (x0 : Int32) (o1 : gIn x0 8 = true) : hM (gO LL xs) (D + 0) zR_16 [.ref 1, .int x0] (hCm b d k s w ik ex pr wd sn qu tb ts rd h0 h1 h2 h3 fi R) (some (.int (v_16_1 x0 b))) (hCm b d k s w ik ex pr wd sn qu tb ts rd h0 h1 h2 h3 fi R) := by
  refine hX_go 0 0 [some (.ref 1), some (.int x0), none] [] (hCm b d k s w ik ex pr wd sn qu tb ts rd h0 h1 h2 h3 fi R) rfl ?_
  refine hX_go 3 (5) [some (.ref 1), some (.int x0), none] [.int x0, .ref 3] (hCm b d k s w ik ex pr wd sn qu tb ts rd h0 h1 h2 h3 fi R) rfl ?_
  refine hX_g (gIn x0 8) 6 [some (.ref 1), some (.int x0), none] [.int (b.2.2.2.2.2.2.1 (Int32.toNatClampNeg x0))] (hCm b d k s w ik ex pr wd sn qu tb ts rd h0 h1 h2 h3 fi R) rfl o1 ?_
  refine hX_go 4 (12) [some (.ref 1), some (.int x0), some (.int (b.2.2.2.2.2.2.1 (Int32.toNatClampNeg x0)))] [.int x0, .ref 2] (hCm b d k s w ik ex pr wd sn qu tb ts rd h0 h1 h2 h3 fi R) rfl ?_
  refine hX_g (gIn x0 8) 13 [some (.ref 1), some (.int x0), some (.int (b.2.2.2.2.2.2.1 (Int32.toNatClampNeg x0)))] [.int (b.2.2.2.2.2.1 (Int32.toNatClampNeg x0))] (hCm b d k s w ik ex pr wd sn qu tb ts rd h0 h1 h2 h3 fi R) rfl o1 ?_
  refine hX_sw (bif hEq (b.2.2.2.2.2.1 (Int32.toNatClampNeg x0)) 1 then 52 else bif hEq (b.2.2.2.2.2.1 (Int32.toNatClampNeg x0)) 2 then 69 else bif hEq (b.2.2.2.2.2.1 (Int32.toNatClampNeg x0)) 3 then 69 else bif hEq (b.2.2.2.2.2.1 (Int32.toNatClampNeg x0)) 4 then 81 else bif hEq (b.2.2.2.2.2.1 (Int32.toNatClampNeg x0)) 5 then 95 else bif hEq (b.2.2.2.2.2.1 (Int32.toNatClampNeg x0)) 6 then 95 else 117) rfl (sw_16_13 (b.2.2.2.2.2.1 (Int32.toNatClampNeg x0))) ?_
  suffices hk : hX (gO LL xs) (D + 0) zR_16 117 [some (.ref 1), some (.int x0), some (.int (bif hEq (b.2.2.2.2.2.1 (Int32.toNatClampNeg x0)) 1 then ((b.2.2.2.2.2.2.1 (Int32.toNatClampNeg x0)) - ((b.1 - b.2.1) / 2)) else (bif hEq (b.2.2.2.2.2.1 (Int32.toNatClampNeg x0)) 2 then ((b.2.2.2.2.2.2.1 (Int32.toNatClampNeg x0)) + (b.2.2.2.2.2.2.2.1 (Int32.toNatClampNeg x0))) else (bif hEq (b.2.2.2.2.2.1 (Int32.toNatClampNeg x0)) 3 then ((b.2.2.2.2.2.2.1 (Int32.toNatClampNeg x0)) + (b.2.2.2.2.2.2.2.1 (Int32.toNatClampNeg x0))) else (bif hEq (b.2.2.2.2.2.1 (Int32.toNatClampNeg x0)) 4 then (2 * ((b.2.2.2.2.2.2.1 (Int32.toNatClampNeg x0)) + (b.2.2.2.2.2.2.2.1 (Int32.toNatClampNeg x0)))) else (bif hEq (b.2.2.2.2.2.1 (Int32.toNatClampNeg x0)) 5 then (bif gCmp .lt b.1 (b.2.2.2.2.2.2.2.2.1 3) then (b.2.2.2.2.2.2.1 (Int32.toNatClampNeg x0)) else 0) else (bif hEq (b.2.2.2.2.2.1 (Int32.toNatClampNeg x0)) 6 then (bif gCmp .lt b.1 (b.2.2.2.2.2.2.2.2.1 3) then (b.2.2.2.2.2.2.1 (Int32.toNatClampNeg x0)) else 0) else (b.2.2.2.2.2.2.1 (Int32.toNatClampNeg x0)))))))))] [] (hCm b d k s w ik ex pr wd sn qu tb ts rd h0 h1 h2 h3 fi R) (some (.int (v_16_1 x0 b))) (hCm b d k s w ik ex pr wd sn qu tb ts rd h0 h1 h2 h3 fi R) by
    refine hX_if (hEq (b.2.2.2.2.2.1 (Int32.toNatClampNeg x0)) 1) (fun c1 => ?_) (fun c1 => ?_)
    · skip
      refine hX_go 9 (65) [some (.ref 1), some (.int x0), some (.int (b.2.2.2.2.2.2.1 (Int32.toNatClampNeg x0)))] [.int ((b.2.2.2.2.2.2.1 (Int32.toNatClampNeg x0)) - ((b.1 - b.2.1) / 2))] (hCm b d k s w ik ex pr wd sn qu tb ts rd h0 h1 h2 h3 fi R) rfl ?_
      refine hX_go 2 (117) [some (.ref 1), some (.int x0), some (.int ((b.2.2.2.2.2.2.1 (Int32.toNatClampNeg x0)) - ((b.1 - b.2.1) / 2)))] [] (hCm b d k s w ik ex pr wd sn qu tb ts rd h0 h1 h2 h3 fi R) rfl ?_
      have hk := hk
      simp only [c1, cond_true, cond_false] at hk
      first | exact hk | (simp only [c1, cond_true, cond_false]; exact hk)
    · skip
      refine hX_if (hEq (b.2.2.2.2.2.1 (Int32.toNatClampNeg x0)) 2) (fun c2 => ?_) (fun c2 => ?_)
      · skip
        refine hX_go 4 (75) [some (.ref 1), some (.int x0), some (.int (b.2.2.2.2.2.2.1 (Int32.toNatClampNeg x0)))] [.int x0, .ref 4, .int (b.2.2.2.2.2.2.1 (Int32.toNatClampNeg x0))] (hCm b d k s w ik ex pr wd sn qu tb ts rd h0 h1 h2 h3 fi R) rfl ?_
        refine hX_g (gIn x0 8) 76 [some (.ref 1), some (.int x0), some (.int (b.2.2.2.2.2.2.1 (Int32.toNatClampNeg x0)))] [.int (b.2.2.2.2.2.2.2.1 (Int32.toNatClampNeg x0)), .int (b.2.2.2.2.2.2.1 (Int32.toNatClampNeg x0))] (hCm b d k s w ik ex pr wd sn qu tb ts rd h0 h1 h2 h3 fi R) rfl o1 ?_
        refine hX_go 3 (117) [some (.ref 1), some (.int x0), some (.int ((b.2.2.2.2.2.2.1 (Int32.toNatClampNeg x0)) + (b.2.2.2.2.2.2.2.1 (Int32.toNatClampNeg x0))))] [] (hCm b d k s w ik ex pr wd sn qu tb ts rd h0 h1 h2 h3 fi R) rfl ?_
        have hk := hk
        simp only [c1, c2, cond_true, cond_false] at hk
        first | exact hk | (simp only [c1, c2, cond_true, cond_false]; exact hk)
      · skip
        refine hX_if (hEq (b.2.2.2.2.2.1 (Int32.toNatClampNeg x0)) 3) (fun c3 => ?_) (fun c3 => ?_)
        · skip
          refine hX_go 4 (75) [some (.ref 1), some (.int x0), some (.int (b.2.2.2.2.2.2.1 (Int32.toNatClampNeg x0)))] [.int x0, .ref 4, .int (b.2.2.2.2.2.2.1 (Int32.toNatClampNeg x0))] (hCm b d k s w ik ex pr wd sn qu tb ts rd h0 h1 h2 h3 fi R) rfl ?_
          refine hX_g (gIn x0 8) 76 [some (.ref 1), some (.int x0), some (.int (b.2.2.2.2.2.2.1 (Int32.toNatClampNeg x0)))] [.int (b.2.2.2.2.2.2.2.1 (Int32.toNatClampNeg x0)), .int (b.2.2.2.2.2.2.1 (Int32.toNatClampNeg x0))] (hCm b d k s w ik ex pr wd sn qu tb ts rd h0 h1 h2 h3 fi R) rfl o1 ?_
          refine hX_go 3 (117) [some (.ref 1), some (.int x0), some (.int ((b.2.2.2.2.2.2.1 (Int32.toNatClampNeg x0)) + (b.2.2.2.2.2.2.2.1 (Int32.toNatClampNeg x0))))] [] (hCm b d k s w ik ex pr wd sn qu tb ts rd h0 h1 h2 h3 fi R) rfl ?_
          have hk := hk
          simp only [c1, c2, c3, cond_true, cond_false] at hk
          first | exact hk | (simp only [c1, c2, c3, cond_true, cond_false]; exact hk)
        · skip
          refine hX_if (hEq (b.2.2.2.2.2.1 (Int32.toNatClampNeg x0)) 4) (fun c4 => ?_) (fun c4 => ?_)
          · skip
            refine hX_go 5 (88) [some (.ref 1), some (.int x0), some (.int (b.2.2.2.2.2.2.1 (Int32.toNatClampNeg x0)))] [.int x0, .ref 4, .int (b.2.2.2.2.2.2.1 (Int32.toNatClampNeg x0)), .int 2] (hCm b d k s w ik ex pr wd sn qu tb ts rd h0 h1 h2 h3 fi R) rfl ?_
            refine hX_g (gIn x0 8) 89 [some (.ref 1), some (.int x0), some (.int (b.2.2.2.2.2.2.1 (Int32.toNatClampNeg x0)))] [.int (b.2.2.2.2.2.2.2.1 (Int32.toNatClampNeg x0)), .int (b.2.2.2.2.2.2.1 (Int32.toNatClampNeg x0)), .int 2] (hCm b d k s w ik ex pr wd sn qu tb ts rd h0 h1 h2 h3 fi R) rfl o1 ?_
            refine hX_go 4 (117) [some (.ref 1), some (.int x0), some (.int (2 * ((b.2.2.2.2.2.2.1 (Int32.toNatClampNeg x0)) + (b.2.2.2.2.2.2.2.1 (Int32.toNatClampNeg x0)))))] [] (hCm b d k s w ik ex pr wd sn qu tb ts rd h0 h1 h2 h3 fi R) rfl ?_
            have hk := hk
            simp only [c1, c2, c3, c4, cond_true, cond_false] at hk
            first | exact hk | (simp only [c1, c2, c3, c4, cond_true, cond_false]; exact hk)
          · skip
            refine hX_if (hEq (b.2.2.2.2.2.1 (Int32.toNatClampNeg x0)) 5) (fun c5 => ?_) (fun c5 => ?_)
            · skip
              refine hX_go 7 (bif gCmp .lt b.1 (b.2.2.2.2.2.2.2.2.1 3) then 112 else 108) [some (.ref 1), some (.int x0), some (.int (b.2.2.2.2.2.2.1 (Int32.toNatClampNeg x0)))] [] (hCm b d k s w ik ex pr wd sn qu tb ts rd h0 h1 h2 h3 fi R) rfl ?_
              suffices hk : hX (gO LL xs) (D + 0) zR_16 113 [some (.ref 1), some (.int x0), some (.int (b.2.2.2.2.2.2.1 (Int32.toNatClampNeg x0)))] [.int (bif gCmp .lt b.1 (b.2.2.2.2.2.2.2.2.1 3) then (b.2.2.2.2.2.2.1 (Int32.toNatClampNeg x0)) else 0)] (hCm b d k s w ik ex pr wd sn qu tb ts rd h0 h1 h2 h3 fi R) (some (.int (v_16_1 x0 b))) (hCm b d k s w ik ex pr wd sn qu tb ts rd h0 h1 h2 h3 fi R) by
                refine hX_if (gCmp .lt b.1 (b.2.2.2.2.2.2.2.2.1 3)) (fun c6 => ?_) (fun c6 => ?_)
                · skip
                  refine hX_go 1 (113) [some (.ref 1), some (.int x0), some (.int (b.2.2.2.2.2.2.1 (Int32.toNatClampNeg x0)))] [.int (b.2.2.2.2.2.2.1 (Int32.toNatClampNeg x0))] (hCm b d k s w ik ex pr wd sn qu tb ts rd h0 h1 h2 h3 fi R) rfl ?_
                  have hk := hk
                  simp only [c6, cond_true, cond_false] at hk
                  first | exact hk | (simp only [c6, cond_true, cond_false]; exact hk)
                · skip
                  refine hX_go 2 (113) [some (.ref 1), some (.int x0), some (.int (b.2.2.2.2.2.2.1 (Int32.toNatClampNeg x0)))] [.int 0] (hCm b d k s w ik ex pr wd sn qu tb ts rd h0 h1 h2 h3 fi R) rfl ?_
                  have hk := hk
                  simp only [c6, cond_true, cond_false] at hk
                  first | exact hk | (simp only [c6, cond_true, cond_false]; exact hk)
              refine hX_go 2 (117) [some (.ref 1), some (.int x0), some (.int (bif gCmp .lt b.1 (b.2.2.2.2.2.2.2.2.1 3) then (b.2.2.2.2.2.2.1 (Int32.toNatClampNeg x0)) else 0))] [] (hCm b d k s w ik ex pr wd sn qu tb ts rd h0 h1 h2 h3 fi R) rfl ?_
              have hk := hk
              simp only [c1, c2, c3, c4, c5, cond_true, cond_false] at hk
              first | exact hk | (simp only [c1, c2, c3, c4, c5, cond_true, cond_false]; exact hk)
            · skip
              refine hX_if (hEq (b.2.2.2.2.2.1 (Int32.toNatClampNeg x0)) 6) (fun c7 => ?_) (fun c7 => ?_)
              · skip
                refine hX_go 7 (bif gCmp .lt b.1 (b.2.2.2.2.2.2.2.2.1 3) then 112 else 108) [some (.ref 1), some (.int x0), some (.int (b.2.2.2.2.2.2.1 (Int32.toNatClampNeg x0)))] [] (hCm b d k s w ik ex pr wd sn qu tb ts rd h0 h1 h2 h3 fi R) rfl ?_
                suffices hk : hX (gO LL xs) (D + 0) zR_16 113 [some (.ref 1), some (.int x0), some (.int (b.2.2.2.2.2.2.1 (Int32.toNatClampNeg x0)))] [.int (bif gCmp .lt b.1 (b.2.2.2.2.2.2.2.2.1 3) then (b.2.2.2.2.2.2.1 (Int32.toNatClampNeg x0)) else 0)] (hCm b d k s w ik ex pr wd sn qu tb ts rd h0 h1 h2 h3 fi R) (some (.int (v_16_1 x0 b))) (hCm b d k s w ik ex pr wd sn qu tb ts rd h0 h1 h2 h3 fi R) by
                  refine hX_if (gCmp .lt b.1 (b.2.2.2.2.2.2.2.2.1 3)) (fun c8 => ?_) (fun c8 => ?_)
                  · skip
                    refine hX_go 1 (113) [some (.ref 1), some (.int x0), some (.int (b.2.2.2.2.2.2.1 (Int32.toNatClampNeg x0)))] [.int (b.2.2.2.2.2.2.1 (Int32.toNatClampNeg x0))] (hCm b d k s w ik ex pr wd sn qu tb ts rd h0 h1 h2 h3 fi R) rfl ?_
                    have hk := hk
                    simp only [c8, cond_true, cond_false] at hk
                    first | exact hk | (simp only [c8, cond_true, cond_false]; exact hk)
                  · skip
                    refine hX_go 2 (113) [some (.ref 1), some (.int x0), some (.int (b.2.2.2.2.2.2.1 (Int32.toNatClampNeg x0)))] [.int 0] (hCm b d k s w ik ex pr wd sn qu tb ts rd h0 h1 h2 h3 fi R) rfl ?_
                    have hk := hk
                    simp only [c8, cond_true, cond_false] at hk
                    first | exact hk | (simp only [c8, cond_true, cond_false]; exact hk)
                refine hX_go 2 (117) [some (.ref 1), some (.int x0), some (.int (bif gCmp .lt b.1 (b.2.2.2.2.2.2.2.2.1 3) then (b.2.2.2.2.2.2.1 (Int32.toNatClampNeg x0)) else 0))] [] (hCm b d k s w ik ex pr wd sn qu tb ts rd h0 h1 h2 h3 fi R) rfl ?_
                have hk := hk
                simp only [c1, c2, c3, c4, c5, c7, cond_true, cond_false] at hk
                first | exact hk | (simp only [c1, c2, c3, c4, c5, c7, cond_true, cond_false]; exact hk)
              · skip
                have hk := hk
                simp only [c1, c2, c3, c4, c5, c7, cond_true, cond_false] at hk
                first | exact hk | (simp only [c1, c2, c3, c4, c5, c7, cond_true, cond_false]; exact hk)
  refine hX_go 9 (131) [some (.ref 1), some (.int x0), some (.int (bif hEq (b.2.2.2.2.2.1 (Int32.toNatClampNeg x0)) 1 then ((b.2.2.2.2.2.2.1 (Int32.toNatClampNeg x0)) - ((b.1 - b.2.1) / 2)) else (bif hEq (b.2.2.2.2.2.1 (Int32.toNatClampNeg x0)) 2 then ((b.2.2.2.2.2.2.1 (Int32.toNatClampNeg x0)) + (b.2.2.2.2.2.2.2.1 (Int32.toNatClampNeg x0))) else (bif hEq (b.2.2.2.2.2.1 (Int32.toNatClampNeg x0)) 3 then ((b.2.2.2.2.2.2.1 (Int32.toNatClampNeg x0)) + (b.2.2.2.2.2.2.2.1 (Int32.toNatClampNeg x0))) else (bif hEq (b.2.2.2.2.2.1 (Int32.toNatClampNeg x0)) 4 then (2 * ((b.2.2.2.2.2.2.1 (Int32.toNatClampNeg x0)) + (b.2.2.2.2.2.2.2.1 (Int32.toNatClampNeg x0)))) else (bif hEq (b.2.2.2.2.2.1 (Int32.toNatClampNeg x0)) 5 then (bif gCmp .lt b.1 (b.2.2.2.2.2.2.2.2.1 3) then (b.2.2.2.2.2.2.1 (Int32.toNatClampNeg x0)) else 0) else (bif hEq (b.2.2.2.2.2.1 (Int32.toNatClampNeg x0)) 6 then (bif gCmp .lt b.1 (b.2.2.2.2.2.2.2.2.1 3) then (b.2.2.2.2.2.2.1 (Int32.toNatClampNeg x0)) else 0) else (b.2.2.2.2.2.2.1 (Int32.toNatClampNeg x0)))))))))] [.int (b.2.2.2.2.2.2.2.2.1 2), .int (b.1 / 10), .int (bif hEq (b.2.2.2.2.2.1 (Int32.toNatClampNeg x0)) 1 then ((b.2.2.2.2.2.2.1 (Int32.toNatClampNeg x0)) - ((b.1 - b.2.1) / 2)) else (bif hEq (b.2.2.2.2.2.1 (Int32.toNatClampNeg x0)) 2 then ((b.2.2.2.2.2.2.1 (Int32.toNatClampNeg x0)) + (b.2.2.2.2.2.2.2.1 (Int32.toNatClampNeg x0))) else (bif hEq (b.2.2.2.2.2.1 (Int32.toNatClampNeg x0)) 3 then ((b.2.2.2.2.2.2.1 (Int32.toNatClampNeg x0)) + (b.2.2.2.2.2.2.2.1 (Int32.toNatClampNeg x0))) else (bif hEq (b.2.2.2.2.2.1 (Int32.toNatClampNeg x0)) 4 then (2 * ((b.2.2.2.2.2.2.1 (Int32.toNatClampNeg x0)) + (b.2.2.2.2.2.2.2.1 (Int32.toNatClampNeg x0)))) else (bif hEq (b.2.2.2.2.2.1 (Int32.toNatClampNeg x0)) 5 then (bif gCmp .lt b.1 (b.2.2.2.2.2.2.2.2.1 3) then (b.2.2.2.2.2.2.1 (Int32.toNatClampNeg x0)) else 0) else (bif hEq (b.2.2.2.2.2.1 (Int32.toNatClampNeg x0)) 6 then (bif gCmp .lt b.1 (b.2.2.2.2.2.2.2.2.1 3) then (b.2.2.2.2.2.2.1 (Int32.toNatClampNeg x0)) else 0) else (b.2.2.2.2.2.2.1 (Int32.toNatClampNeg x0))))))))] (hCm b d k s w ik ex pr wd sn qu tb ts rd h0 h1 h2 h3 fi R) rfl ?_
  refine hX_go 4 (135) [some (.ref 1), some (.int x0), some (.int (bif hEq (b.2.2.2.2.2.1 (Int32.toNatClampNeg x0)) 1 then ((b.2.2.2.2.2.2.1 (Int32.toNatClampNeg x0)) - ((b.1 - b.2.1) / 2)) else (bif hEq (b.2.2.2.2.2.1 (Int32.toNatClampNeg x0)) 2 then ((b.2.2.2.2.2.2.1 (Int32.toNatClampNeg x0)) + (b.2.2.2.2.2.2.2.1 (Int32.toNatClampNeg x0))) else (bif hEq (b.2.2.2.2.2.1 (Int32.toNatClampNeg x0)) 3 then ((b.2.2.2.2.2.2.1 (Int32.toNatClampNeg x0)) + (b.2.2.2.2.2.2.2.1 (Int32.toNatClampNeg x0))) else (bif hEq (b.2.2.2.2.2.1 (Int32.toNatClampNeg x0)) 4 then (2 * ((b.2.2.2.2.2.2.1 (Int32.toNatClampNeg x0)) + (b.2.2.2.2.2.2.2.1 (Int32.toNatClampNeg x0)))) else (bif hEq (b.2.2.2.2.2.1 (Int32.toNatClampNeg x0)) 5 then (bif gCmp .lt b.1 (b.2.2.2.2.2.2.2.2.1 3) then (b.2.2.2.2.2.2.1 (Int32.toNatClampNeg x0)) else 0) else (bif hEq (b.2.2.2.2.2.1 (Int32.toNatClampNeg x0)) 6 then (bif gCmp .lt b.1 (b.2.2.2.2.2.2.2.2.1 3) then (b.2.2.2.2.2.2.1 (Int32.toNatClampNeg x0)) else 0) else (b.2.2.2.2.2.2.1 (Int32.toNatClampNeg x0)))))))))] [.int ((bif hEq (b.2.2.2.2.2.1 (Int32.toNatClampNeg x0)) 1 then ((b.2.2.2.2.2.2.1 (Int32.toNatClampNeg x0)) - ((b.1 - b.2.1) / 2)) else (bif hEq (b.2.2.2.2.2.1 (Int32.toNatClampNeg x0)) 2 then ((b.2.2.2.2.2.2.1 (Int32.toNatClampNeg x0)) + (b.2.2.2.2.2.2.2.1 (Int32.toNatClampNeg x0))) else (bif hEq (b.2.2.2.2.2.1 (Int32.toNatClampNeg x0)) 3 then ((b.2.2.2.2.2.2.1 (Int32.toNatClampNeg x0)) + (b.2.2.2.2.2.2.2.1 (Int32.toNatClampNeg x0))) else (bif hEq (b.2.2.2.2.2.1 (Int32.toNatClampNeg x0)) 4 then (2 * ((b.2.2.2.2.2.2.1 (Int32.toNatClampNeg x0)) + (b.2.2.2.2.2.2.2.1 (Int32.toNatClampNeg x0)))) else (bif hEq (b.2.2.2.2.2.1 (Int32.toNatClampNeg x0)) 5 then (bif gCmp .lt b.1 (b.2.2.2.2.2.2.2.2.1 3) then (b.2.2.2.2.2.2.1 (Int32.toNatClampNeg x0)) else 0) else (bif hEq (b.2.2.2.2.2.1 (Int32.toNatClampNeg x0)) 6 then (bif gCmp .lt b.1 (b.2.2.2.2.2.2.2.2.1 3) then (b.2.2.2.2.2.2.1 (Int32.toNatClampNeg x0)) else 0) else (b.2.2.2.2.2.2.1 (Int32.toNatClampNeg x0)))))))) + (((b.1 / 10) * (b.2.2.2.2.2.2.2.2.1 2)) / 4))] (hCm b d k s w ik ex pr wd sn qu tb ts rd h0 h1 h2 h3 fi R) rfl ?_
  exact hX_end rfl (rfl) (rfl)

theorem sw_17_13 (x : Int32) : gSwT 13 127 1 6 #[39, 56, 75, 75, 127, 96] x = some (bif hEq x 1 then 52 else bif hEq x 2 then 69 else bif hEq x 3 then 88 else bif hEq x 4 then 88 else bif hEq x 5 then 140 else bif hEq x 6 then 109 else 140) := by
  by_cases q1 : x = 1
  · subst q1; rfl
  by_cases q2 : x = 2
  · subst q2; rfl
  by_cases q3 : x = 3
  · subst q3; rfl
  by_cases q4 : x = 4
  · subst q4; rfl
  by_cases q5 : x = 5
  · subst q5; rfl
  by_cases q6 : x = 6
  · subst q6; rfl
  simp only [hEq, q1, q2, q3, q4, q5, q6, decide_false, cond_false]
  have n1 := hNe q1
  have n2 := hNe q2
  have n3 := hNe q3
  have n4 := hNe q4
  have n5 := hNe q5
  have n6 := hNe q6
  unfold gSwT
  rw [show (decide (x.toInt < 1) || decide (6 < x.toInt)) = true from by
    simp only [Bool.or_eq_true, decide_eq_true_eq]
    have e : ∀ z : Int, z < 1 ∨ 6 < z ∨ (z = 1 ∨ z = 2 ∨ z = 3 ∨ z = 4 ∨ z = 5 ∨ z = 6) := by intro z; omega
    rcases e x.toInt with h | h | h
    · exact Or.inl h
    · exact Or.inr h
    · rcases h with h | h | h | h | h | h
      · exact absurd h n1
      · exact absurd h n2
      · exact absurd h n3
      · exact absurd h n4
      · exact absurd h n5
      · exact absurd h n6
    ]
  rfl

/-- UpOneSide$Blind.rightLift(I)I -/
def v_17_1 (x0 : Int32) (b : hB) : Int32 := bif gCmp .lt b.2.1 30 then (bif hEq (b.2.2.2.2.2.1 (Int32.toNatClampNeg x0)) 1 then ((b.2.2.2.2.2.2.1 (Int32.toNatClampNeg x0)) + ((b.1 - b.2.1) / 2)) else (bif hEq (b.2.2.2.2.2.1 (Int32.toNatClampNeg x0)) 2 then ((b.2.2.2.2.2.2.1 (Int32.toNatClampNeg x0)) - ((b.2.2.2.2.2.2.2.2.1 1) + (b.2.2.2.2.2.2.2.1 (Int32.toNatClampNeg x0)))) else (bif hEq (b.2.2.2.2.2.1 (Int32.toNatClampNeg x0)) 3 then ((b.2.2.2.2.2.2.1 (Int32.toNatClampNeg x0)) - ((2 * (b.2.2.2.2.2.2.2.2.1 1)) + (b.2.2.2.2.2.2.2.1 (Int32.toNatClampNeg x0)))) else (bif hEq (b.2.2.2.2.2.1 (Int32.toNatClampNeg x0)) 4 then ((b.2.2.2.2.2.2.1 (Int32.toNatClampNeg x0)) - ((2 * (b.2.2.2.2.2.2.2.2.1 1)) + (b.2.2.2.2.2.2.2.1 (Int32.toNatClampNeg x0)))) else (bif hEq (b.2.2.2.2.2.1 (Int32.toNatClampNeg x0)) 5 then ((b.2.2.2.2.2.2.1 (Int32.toNatClampNeg x0)) - (b.2.2.2.2.2.2.2.2.1 1)) else (bif hEq (b.2.2.2.2.2.1 (Int32.toNatClampNeg x0)) 6 then (bif gCmp .le b.2.1 b.1 then ((b.2.2.2.2.2.2.1 (Int32.toNatClampNeg x0)) - (b.2.2.2.2.2.2.2.2.1 1)) else (((b.2.2.2.2.2.2.1 (Int32.toNatClampNeg x0)) - (b.2.2.2.2.2.2.2.2.1 1)) / 2)) else ((b.2.2.2.2.2.2.1 (Int32.toNatClampNeg x0)) - (b.2.2.2.2.2.2.2.2.1 1)))))))) else ((bif hEq (b.2.2.2.2.2.1 (Int32.toNatClampNeg x0)) 1 then ((b.2.2.2.2.2.2.1 (Int32.toNatClampNeg x0)) + ((b.1 - b.2.1) / 2)) else (bif hEq (b.2.2.2.2.2.1 (Int32.toNatClampNeg x0)) 2 then ((b.2.2.2.2.2.2.1 (Int32.toNatClampNeg x0)) - ((b.2.2.2.2.2.2.2.2.1 1) + (b.2.2.2.2.2.2.2.1 (Int32.toNatClampNeg x0)))) else (bif hEq (b.2.2.2.2.2.1 (Int32.toNatClampNeg x0)) 3 then ((b.2.2.2.2.2.2.1 (Int32.toNatClampNeg x0)) - ((2 * (b.2.2.2.2.2.2.2.2.1 1)) + (b.2.2.2.2.2.2.2.1 (Int32.toNatClampNeg x0)))) else (bif hEq (b.2.2.2.2.2.1 (Int32.toNatClampNeg x0)) 4 then ((b.2.2.2.2.2.2.1 (Int32.toNatClampNeg x0)) - ((2 * (b.2.2.2.2.2.2.2.2.1 1)) + (b.2.2.2.2.2.2.2.1 (Int32.toNatClampNeg x0)))) else (bif hEq (b.2.2.2.2.2.1 (Int32.toNatClampNeg x0)) 5 then ((b.2.2.2.2.2.2.1 (Int32.toNatClampNeg x0)) - (b.2.2.2.2.2.2.2.2.1 1)) else (bif hEq (b.2.2.2.2.2.1 (Int32.toNatClampNeg x0)) 6 then (bif gCmp .le b.2.1 b.1 then ((b.2.2.2.2.2.2.1 (Int32.toNatClampNeg x0)) - (b.2.2.2.2.2.2.2.2.1 1)) else (((b.2.2.2.2.2.2.1 (Int32.toNatClampNeg x0)) - (b.2.2.2.2.2.2.2.2.1 1)) / 2)) else ((b.2.2.2.2.2.2.1 (Int32.toNatClampNeg x0)) - (b.2.2.2.2.2.2.2.2.1 1)))))))) + (b.2.2.2.2.2.2.2.2.1 0))
set_option maxRecDepth 20000 in
set_option maxHeartbeats 1000000 in
theorem ct_17_1 {LL : Nat} {xs : Nat → Int32} {D : Nat} {b d k s w : hB} {ik ex pr wd : Int32} {sn : Nat → Int64} {qu tb : Nat → Int32} {ts : Int32} {rd : hRd} {h0 h1 h2 h3 : hSt} {fi : Nat → Int32} {R : List gE} (x0 : Int32) (o1 : gIn x0 8 = true) : hM (gO LL xs) (D + 0) zR_17 [.ref 1, .int x0] (hCm b d k s w ik ex pr wd sn qu tb ts rd h0 h1 h2 h3 fi R) (some (.int (v_17_1 x0 b))) (hCm b d k s w ik ex pr wd sn qu tb ts rd h0 h1 h2 h3 fi R) := by
  refine hX_go 0 0 [some (.ref 1), some (.int x0), none] [] (hCm b d k s w ik ex pr wd sn qu tb ts rd h0 h1 h2 h3 fi R) rfl ?_
  refine hX_go 3 (5) [some (.ref 1), some (.int x0), none] [.int x0, .ref 3] (hCm b d k s w ik ex pr wd sn qu tb ts rd h0 h1 h2 h3 fi R) rfl ?_
  refine hX_g (gIn x0 8) 6 [some (.ref 1), some (.int x0), none] [.int (b.2.2.2.2.2.2.1 (Int32.toNatClampNeg x0))] (hCm b d k s w ik ex pr wd sn qu tb ts rd h0 h1 h2 h3 fi R) rfl o1 ?_
  refine hX_go 4 (12) [some (.ref 1), some (.int x0), some (.int (b.2.2.2.2.2.2.1 (Int32.toNatClampNeg x0)))] [.int x0, .ref 2] (hCm b d k s w ik ex pr wd sn qu tb ts rd h0 h1 h2 h3 fi R) rfl ?_
  refine hX_g (gIn x0 8) 13 [some (.ref 1), some (.int x0), some (.int (b.2.2.2.2.2.2.1 (Int32.toNatClampNeg x0)))] [.int (b.2.2.2.2.2.1 (Int32.toNatClampNeg x0))] (hCm b d k s w ik ex pr wd sn qu tb ts rd h0 h1 h2 h3 fi R) rfl o1 ?_
  refine hX_sw (bif hEq (b.2.2.2.2.2.1 (Int32.toNatClampNeg x0)) 1 then 52 else bif hEq (b.2.2.2.2.2.1 (Int32.toNatClampNeg x0)) 2 then 69 else bif hEq (b.2.2.2.2.2.1 (Int32.toNatClampNeg x0)) 3 then 88 else bif hEq (b.2.2.2.2.2.1 (Int32.toNatClampNeg x0)) 4 then 88 else bif hEq (b.2.2.2.2.2.1 (Int32.toNatClampNeg x0)) 5 then 140 else bif hEq (b.2.2.2.2.2.1 (Int32.toNatClampNeg x0)) 6 then 109 else 140) rfl (sw_17_13 (b.2.2.2.2.2.1 (Int32.toNatClampNeg x0))) ?_
  suffices hk : hX (gO LL xs) (D + 0) zR_17 149 [some (.ref 1), some (.int x0), some (.int (bif hEq (b.2.2.2.2.2.1 (Int32.toNatClampNeg x0)) 1 then ((b.2.2.2.2.2.2.1 (Int32.toNatClampNeg x0)) + ((b.1 - b.2.1) / 2)) else (bif hEq (b.2.2.2.2.2.1 (Int32.toNatClampNeg x0)) 2 then ((b.2.2.2.2.2.2.1 (Int32.toNatClampNeg x0)) - ((b.2.2.2.2.2.2.2.2.1 1) + (b.2.2.2.2.2.2.2.1 (Int32.toNatClampNeg x0)))) else (bif hEq (b.2.2.2.2.2.1 (Int32.toNatClampNeg x0)) 3 then ((b.2.2.2.2.2.2.1 (Int32.toNatClampNeg x0)) - ((2 * (b.2.2.2.2.2.2.2.2.1 1)) + (b.2.2.2.2.2.2.2.1 (Int32.toNatClampNeg x0)))) else (bif hEq (b.2.2.2.2.2.1 (Int32.toNatClampNeg x0)) 4 then ((b.2.2.2.2.2.2.1 (Int32.toNatClampNeg x0)) - ((2 * (b.2.2.2.2.2.2.2.2.1 1)) + (b.2.2.2.2.2.2.2.1 (Int32.toNatClampNeg x0)))) else (bif hEq (b.2.2.2.2.2.1 (Int32.toNatClampNeg x0)) 5 then ((b.2.2.2.2.2.2.1 (Int32.toNatClampNeg x0)) - (b.2.2.2.2.2.2.2.2.1 1)) else (bif hEq (b.2.2.2.2.2.1 (Int32.toNatClampNeg x0)) 6 then (bif gCmp .le b.2.1 b.1 then ((b.2.2.2.2.2.2.1 (Int32.toNatClampNeg x0)) - (b.2.2.2.2.2.2.2.2.1 1)) else (((b.2.2.2.2.2.2.1 (Int32.toNatClampNeg x0)) - (b.2.2.2.2.2.2.2.2.1 1)) / 2)) else ((b.2.2.2.2.2.2.1 (Int32.toNatClampNeg x0)) - (b.2.2.2.2.2.2.2.2.1 1)))))))))] [] (hCm b d k s w ik ex pr wd sn qu tb ts rd h0 h1 h2 h3 fi R) (some (.int (v_17_1 x0 b))) (hCm b d k s w ik ex pr wd sn qu tb ts rd h0 h1 h2 h3 fi R) by
    refine hX_if (hEq (b.2.2.2.2.2.1 (Int32.toNatClampNeg x0)) 1) (fun c1 => ?_) (fun c1 => ?_)
    · skip
      refine hX_go 9 (65) [some (.ref 1), some (.int x0), some (.int (b.2.2.2.2.2.2.1 (Int32.toNatClampNeg x0)))] [.int ((b.2.2.2.2.2.2.1 (Int32.toNatClampNeg x0)) + ((b.1 - b.2.1) / 2))] (hCm b d k s w ik ex pr wd sn qu tb ts rd h0 h1 h2 h3 fi R) rfl ?_
      refine hX_go 2 (149) [some (.ref 1), some (.int x0), some (.int ((b.2.2.2.2.2.2.1 (Int32.toNatClampNeg x0)) + ((b.1 - b.2.1) / 2)))] [] (hCm b d k s w ik ex pr wd sn qu tb ts rd h0 h1 h2 h3 fi R) rfl ?_
      have hk := hk
      simp only [c1, cond_true, cond_false] at hk
      first | exact hk | (simp only [c1, cond_true, cond_false]; exact hk)
    · skip
      refine hX_if (hEq (b.2.2.2.2.2.1 (Int32.toNatClampNeg x0)) 2) (fun c2 => ?_) (fun c2 => ?_)
      · skip
        refine hX_go 8 (81) [some (.ref 1), some (.int x0), some (.int (b.2.2.2.2.2.2.1 (Int32.toNatClampNeg x0)))] [.int x0, .ref 4, .int (b.2.2.2.2.2.2.2.2.1 1), .int (b.2.2.2.2.2.2.1 (Int32.toNatClampNeg x0))] (hCm b d k s w ik ex pr wd sn qu tb ts rd h0 h1 h2 h3 fi R) rfl ?_
        refine hX_g (gIn x0 8) 82 [some (.ref 1), some (.int x0), some (.int (b.2.2.2.2.2.2.1 (Int32.toNatClampNeg x0)))] [.int (b.2.2.2.2.2.2.2.1 (Int32.toNatClampNeg x0)), .int (b.2.2.2.2.2.2.2.2.1 1), .int (b.2.2.2.2.2.2.1 (Int32.toNatClampNeg x0))] (hCm b d k s w ik ex pr wd sn qu tb ts rd h0 h1 h2 h3 fi R) rfl o1 ?_
        refine hX_go 4 (149) [some (.ref 1), some (.int x0), some (.int ((b.2.2.2.2.2.2.1 (Int32.toNatClampNeg x0)) - ((b.2.2.2.2.2.2.2.2.1 1) + (b.2.2.2.2.2.2.2.1 (Int32.toNatClampNeg x0)))))] [] (hCm b d k s w ik ex pr wd sn qu tb ts rd h0 h1 h2 h3 fi R) rfl ?_
        have hk := hk
        simp only [c1, c2, cond_true, cond_false] at hk
        first | exact hk | (simp only [c1, c2, cond_true, cond_false]; exact hk)
      · skip
        refine hX_if (hEq (b.2.2.2.2.2.1 (Int32.toNatClampNeg x0)) 3) (fun c3 => ?_) (fun c3 => ?_)
        · skip
          refine hX_go 9 (101) [some (.ref 1), some (.int x0), some (.int (b.2.2.2.2.2.2.1 (Int32.toNatClampNeg x0)))] [.ref 4, .int (2 * (b.2.2.2.2.2.2.2.2.1 1)), .int (b.2.2.2.2.2.2.1 (Int32.toNatClampNeg x0))] (hCm b d k s w ik ex pr wd sn qu tb ts rd h0 h1 h2 h3 fi R) rfl ?_
          refine hX_go 1 (102) [some (.ref 1), some (.int x0), some (.int (b.2.2.2.2.2.2.1 (Int32.toNatClampNeg x0)))] [.int x0, .ref 4, .int (2 * (b.2.2.2.2.2.2.2.2.1 1)), .int (b.2.2.2.2.2.2.1 (Int32.toNatClampNeg x0))] (hCm b d k s w ik ex pr wd sn qu tb ts rd h0 h1 h2 h3 fi R) rfl ?_
          refine hX_g (gIn x0 8) 103 [some (.ref 1), some (.int x0), some (.int (b.2.2.2.2.2.2.1 (Int32.toNatClampNeg x0)))] [.int (b.2.2.2.2.2.2.2.1 (Int32.toNatClampNeg x0)), .int (2 * (b.2.2.2.2.2.2.2.2.1 1)), .int (b.2.2.2.2.2.2.1 (Int32.toNatClampNeg x0))] (hCm b d k s w ik ex pr wd sn qu tb ts rd h0 h1 h2 h3 fi R) rfl o1 ?_
          refine hX_go 4 (149) [some (.ref 1), some (.int x0), some (.int ((b.2.2.2.2.2.2.1 (Int32.toNatClampNeg x0)) - ((2 * (b.2.2.2.2.2.2.2.2.1 1)) + (b.2.2.2.2.2.2.2.1 (Int32.toNatClampNeg x0)))))] [] (hCm b d k s w ik ex pr wd sn qu tb ts rd h0 h1 h2 h3 fi R) rfl ?_
          have hk := hk
          simp only [c1, c2, c3, cond_true, cond_false] at hk
          first | exact hk | (simp only [c1, c2, c3, cond_true, cond_false]; exact hk)
        · skip
          refine hX_if (hEq (b.2.2.2.2.2.1 (Int32.toNatClampNeg x0)) 4) (fun c4 => ?_) (fun c4 => ?_)
          · skip
            refine hX_go 9 (101) [some (.ref 1), some (.int x0), some (.int (b.2.2.2.2.2.2.1 (Int32.toNatClampNeg x0)))] [.ref 4, .int (2 * (b.2.2.2.2.2.2.2.2.1 1)), .int (b.2.2.2.2.2.2.1 (Int32.toNatClampNeg x0))] (hCm b d k s w ik ex pr wd sn qu tb ts rd h0 h1 h2 h3 fi R) rfl ?_
            refine hX_go 1 (102) [some (.ref 1), some (.int x0), some (.int (b.2.2.2.2.2.2.1 (Int32.toNatClampNeg x0)))] [.int x0, .ref 4, .int (2 * (b.2.2.2.2.2.2.2.2.1 1)), .int (b.2.2.2.2.2.2.1 (Int32.toNatClampNeg x0))] (hCm b d k s w ik ex pr wd sn qu tb ts rd h0 h1 h2 h3 fi R) rfl ?_
            refine hX_g (gIn x0 8) 103 [some (.ref 1), some (.int x0), some (.int (b.2.2.2.2.2.2.1 (Int32.toNatClampNeg x0)))] [.int (b.2.2.2.2.2.2.2.1 (Int32.toNatClampNeg x0)), .int (2 * (b.2.2.2.2.2.2.2.2.1 1)), .int (b.2.2.2.2.2.2.1 (Int32.toNatClampNeg x0))] (hCm b d k s w ik ex pr wd sn qu tb ts rd h0 h1 h2 h3 fi R) rfl o1 ?_
            refine hX_go 4 (149) [some (.ref 1), some (.int x0), some (.int ((b.2.2.2.2.2.2.1 (Int32.toNatClampNeg x0)) - ((2 * (b.2.2.2.2.2.2.2.2.1 1)) + (b.2.2.2.2.2.2.2.1 (Int32.toNatClampNeg x0)))))] [] (hCm b d k s w ik ex pr wd sn qu tb ts rd h0 h1 h2 h3 fi R) rfl ?_
            have hk := hk
            simp only [c1, c2, c3, c4, cond_true, cond_false] at hk
            first | exact hk | (simp only [c1, c2, c3, c4, cond_true, cond_false]; exact hk)
          · skip
            refine hX_if (hEq (b.2.2.2.2.2.1 (Int32.toNatClampNeg x0)) 5) (fun c5 => ?_) (fun c5 => ?_)
            · skip
              refine hX_go 7 (149) [some (.ref 1), some (.int x0), some (.int ((b.2.2.2.2.2.2.1 (Int32.toNatClampNeg x0)) - (b.2.2.2.2.2.2.2.2.1 1)))] [] (hCm b d k s w ik ex pr wd sn qu tb ts rd h0 h1 h2 h3 fi R) rfl ?_
              have hk := hk
              simp only [c1, c2, c3, c4, c5, cond_true, cond_false] at hk
              first | exact hk | (simp only [c1, c2, c3, c4, c5, cond_true, cond_false]; exact hk)
            · skip
              refine hX_if (hEq (b.2.2.2.2.2.1 (Int32.toNatClampNeg x0)) 6) (fun c6 => ?_) (fun c6 => ?_)
              · skip
                refine hX_go 9 (122) [some (.ref 1), some (.int x0), some (.int ((b.2.2.2.2.2.2.1 (Int32.toNatClampNeg x0)) - (b.2.2.2.2.2.2.2.2.1 1)))] [.int b.2.1] (hCm b d k s w ik ex pr wd sn qu tb ts rd h0 h1 h2 h3 fi R) rfl ?_
                refine hX_go 3 (bif gCmp .le b.2.1 b.1 then 135 else 129) [some (.ref 1), some (.int x0), some (.int ((b.2.2.2.2.2.2.1 (Int32.toNatClampNeg x0)) - (b.2.2.2.2.2.2.2.2.1 1)))] [] (hCm b d k s w ik ex pr wd sn qu tb ts rd h0 h1 h2 h3 fi R) rfl ?_
                suffices hk : hX (gO LL xs) (D + 0) zR_17 136 [some (.ref 1), some (.int x0), some (.int ((b.2.2.2.2.2.2.1 (Int32.toNatClampNeg x0)) - (b.2.2.2.2.2.2.2.2.1 1)))] [.int (bif gCmp .le b.2.1 b.1 then ((b.2.2.2.2.2.2.1 (Int32.toNatClampNeg x0)) - (b.2.2.2.2.2.2.2.2.1 1)) else (((b.2.2.2.2.2.2.1 (Int32.toNatClampNeg x0)) - (b.2.2.2.2.2.2.2.2.1 1)) / 2))] (hCm b d k s w ik ex pr wd sn qu tb ts rd h0 h1 h2 h3 fi R) (some (.int (v_17_1 x0 b))) (hCm b d k s w ik ex pr wd sn qu tb ts rd h0 h1 h2 h3 fi R) by
                  refine hX_if (gCmp .le b.2.1 b.1) (fun c7 => ?_) (fun c7 => ?_)
                  · skip
                    refine hX_go 1 (136) [some (.ref 1), some (.int x0), some (.int ((b.2.2.2.2.2.2.1 (Int32.toNatClampNeg x0)) - (b.2.2.2.2.2.2.2.2.1 1)))] [.int ((b.2.2.2.2.2.2.1 (Int32.toNatClampNeg x0)) - (b.2.2.2.2.2.2.2.2.1 1))] (hCm b d k s w ik ex pr wd sn qu tb ts rd h0 h1 h2 h3 fi R) rfl ?_
                    have hk := hk
                    simp only [c7, cond_true, cond_false] at hk
                    first | exact hk | (simp only [c7, cond_true, cond_false]; exact hk)
                  · skip
                    refine hX_go 4 (136) [some (.ref 1), some (.int x0), some (.int ((b.2.2.2.2.2.2.1 (Int32.toNatClampNeg x0)) - (b.2.2.2.2.2.2.2.2.1 1)))] [.int (((b.2.2.2.2.2.2.1 (Int32.toNatClampNeg x0)) - (b.2.2.2.2.2.2.2.2.1 1)) / 2)] (hCm b d k s w ik ex pr wd sn qu tb ts rd h0 h1 h2 h3 fi R) rfl ?_
                    have hk := hk
                    simp only [c7, cond_true, cond_false] at hk
                    first | exact hk | (simp only [c7, cond_true, cond_false]; exact hk)
                refine hX_go 2 (149) [some (.ref 1), some (.int x0), some (.int (bif gCmp .le b.2.1 b.1 then ((b.2.2.2.2.2.2.1 (Int32.toNatClampNeg x0)) - (b.2.2.2.2.2.2.2.2.1 1)) else (((b.2.2.2.2.2.2.1 (Int32.toNatClampNeg x0)) - (b.2.2.2.2.2.2.2.2.1 1)) / 2)))] [] (hCm b d k s w ik ex pr wd sn qu tb ts rd h0 h1 h2 h3 fi R) rfl ?_
                have hk := hk
                simp only [c1, c2, c3, c4, c5, c6, cond_true, cond_false] at hk
                first | exact hk | (simp only [c1, c2, c3, c4, c5, c6, cond_true, cond_false]; exact hk)
              · skip
                refine hX_go 7 (149) [some (.ref 1), some (.int x0), some (.int ((b.2.2.2.2.2.2.1 (Int32.toNatClampNeg x0)) - (b.2.2.2.2.2.2.2.2.1 1)))] [] (hCm b d k s w ik ex pr wd sn qu tb ts rd h0 h1 h2 h3 fi R) rfl ?_
                have hk := hk
                simp only [c1, c2, c3, c4, c5, c6, cond_true, cond_false] at hk
                first | exact hk | (simp only [c1, c2, c3, c4, c5, c6, cond_true, cond_false]; exact hk)
  refine hX_go 4 (bif gCmp .lt b.2.1 30 then 169 else 158) [some (.ref 1), some (.int x0), some (.int (bif hEq (b.2.2.2.2.2.1 (Int32.toNatClampNeg x0)) 1 then ((b.2.2.2.2.2.2.1 (Int32.toNatClampNeg x0)) + ((b.1 - b.2.1) / 2)) else (bif hEq (b.2.2.2.2.2.1 (Int32.toNatClampNeg x0)) 2 then ((b.2.2.2.2.2.2.1 (Int32.toNatClampNeg x0)) - ((b.2.2.2.2.2.2.2.2.1 1) + (b.2.2.2.2.2.2.2.1 (Int32.toNatClampNeg x0)))) else (bif hEq (b.2.2.2.2.2.1 (Int32.toNatClampNeg x0)) 3 then ((b.2.2.2.2.2.2.1 (Int32.toNatClampNeg x0)) - ((2 * (b.2.2.2.2.2.2.2.2.1 1)) + (b.2.2.2.2.2.2.2.1 (Int32.toNatClampNeg x0)))) else (bif hEq (b.2.2.2.2.2.1 (Int32.toNatClampNeg x0)) 4 then ((b.2.2.2.2.2.2.1 (Int32.toNatClampNeg x0)) - ((2 * (b.2.2.2.2.2.2.2.2.1 1)) + (b.2.2.2.2.2.2.2.1 (Int32.toNatClampNeg x0)))) else (bif hEq (b.2.2.2.2.2.1 (Int32.toNatClampNeg x0)) 5 then ((b.2.2.2.2.2.2.1 (Int32.toNatClampNeg x0)) - (b.2.2.2.2.2.2.2.2.1 1)) else (bif hEq (b.2.2.2.2.2.1 (Int32.toNatClampNeg x0)) 6 then (bif gCmp .le b.2.1 b.1 then ((b.2.2.2.2.2.2.1 (Int32.toNatClampNeg x0)) - (b.2.2.2.2.2.2.2.2.1 1)) else (((b.2.2.2.2.2.2.1 (Int32.toNatClampNeg x0)) - (b.2.2.2.2.2.2.2.2.1 1)) / 2)) else ((b.2.2.2.2.2.2.1 (Int32.toNatClampNeg x0)) - (b.2.2.2.2.2.2.2.2.1 1)))))))))] [] (hCm b d k s w ik ex pr wd sn qu tb ts rd h0 h1 h2 h3 fi R) rfl ?_
  suffices hk : hX (gO LL xs) (D + 0) zR_17 170 [some (.ref 1), some (.int x0), some (.int (bif hEq (b.2.2.2.2.2.1 (Int32.toNatClampNeg x0)) 1 then ((b.2.2.2.2.2.2.1 (Int32.toNatClampNeg x0)) + ((b.1 - b.2.1) / 2)) else (bif hEq (b.2.2.2.2.2.1 (Int32.toNatClampNeg x0)) 2 then ((b.2.2.2.2.2.2.1 (Int32.toNatClampNeg x0)) - ((b.2.2.2.2.2.2.2.2.1 1) + (b.2.2.2.2.2.2.2.1 (Int32.toNatClampNeg x0)))) else (bif hEq (b.2.2.2.2.2.1 (Int32.toNatClampNeg x0)) 3 then ((b.2.2.2.2.2.2.1 (Int32.toNatClampNeg x0)) - ((2 * (b.2.2.2.2.2.2.2.2.1 1)) + (b.2.2.2.2.2.2.2.1 (Int32.toNatClampNeg x0)))) else (bif hEq (b.2.2.2.2.2.1 (Int32.toNatClampNeg x0)) 4 then ((b.2.2.2.2.2.2.1 (Int32.toNatClampNeg x0)) - ((2 * (b.2.2.2.2.2.2.2.2.1 1)) + (b.2.2.2.2.2.2.2.1 (Int32.toNatClampNeg x0)))) else (bif hEq (b.2.2.2.2.2.1 (Int32.toNatClampNeg x0)) 5 then ((b.2.2.2.2.2.2.1 (Int32.toNatClampNeg x0)) - (b.2.2.2.2.2.2.2.2.1 1)) else (bif hEq (b.2.2.2.2.2.1 (Int32.toNatClampNeg x0)) 6 then (bif gCmp .le b.2.1 b.1 then ((b.2.2.2.2.2.2.1 (Int32.toNatClampNeg x0)) - (b.2.2.2.2.2.2.2.2.1 1)) else (((b.2.2.2.2.2.2.1 (Int32.toNatClampNeg x0)) - (b.2.2.2.2.2.2.2.2.1 1)) / 2)) else ((b.2.2.2.2.2.2.1 (Int32.toNatClampNeg x0)) - (b.2.2.2.2.2.2.2.2.1 1)))))))))] [.int (bif gCmp .lt b.2.1 30 then (bif hEq (b.2.2.2.2.2.1 (Int32.toNatClampNeg x0)) 1 then ((b.2.2.2.2.2.2.1 (Int32.toNatClampNeg x0)) + ((b.1 - b.2.1) / 2)) else (bif hEq (b.2.2.2.2.2.1 (Int32.toNatClampNeg x0)) 2 then ((b.2.2.2.2.2.2.1 (Int32.toNatClampNeg x0)) - ((b.2.2.2.2.2.2.2.2.1 1) + (b.2.2.2.2.2.2.2.1 (Int32.toNatClampNeg x0)))) else (bif hEq (b.2.2.2.2.2.1 (Int32.toNatClampNeg x0)) 3 then ((b.2.2.2.2.2.2.1 (Int32.toNatClampNeg x0)) - ((2 * (b.2.2.2.2.2.2.2.2.1 1)) + (b.2.2.2.2.2.2.2.1 (Int32.toNatClampNeg x0)))) else (bif hEq (b.2.2.2.2.2.1 (Int32.toNatClampNeg x0)) 4 then ((b.2.2.2.2.2.2.1 (Int32.toNatClampNeg x0)) - ((2 * (b.2.2.2.2.2.2.2.2.1 1)) + (b.2.2.2.2.2.2.2.1 (Int32.toNatClampNeg x0)))) else (bif hEq (b.2.2.2.2.2.1 (Int32.toNatClampNeg x0)) 5 then ((b.2.2.2.2.2.2.1 (Int32.toNatClampNeg x0)) - (b.2.2.2.2.2.2.2.2.1 1)) else (bif hEq (b.2.2.2.2.2.1 (Int32.toNatClampNeg x0)) 6 then (bif gCmp .le b.2.1 b.1 then ((b.2.2.2.2.2.2.1 (Int32.toNatClampNeg x0)) - (b.2.2.2.2.2.2.2.2.1 1)) else (((b.2.2.2.2.2.2.1 (Int32.toNatClampNeg x0)) - (b.2.2.2.2.2.2.2.2.1 1)) / 2)) else ((b.2.2.2.2.2.2.1 (Int32.toNatClampNeg x0)) - (b.2.2.2.2.2.2.2.2.1 1)))))))) else ((bif hEq (b.2.2.2.2.2.1 (Int32.toNatClampNeg x0)) 1 then ((b.2.2.2.2.2.2.1 (Int32.toNatClampNeg x0)) + ((b.1 - b.2.1) / 2)) else (bif hEq (b.2.2.2.2.2.1 (Int32.toNatClampNeg x0)) 2 then ((b.2.2.2.2.2.2.1 (Int32.toNatClampNeg x0)) - ((b.2.2.2.2.2.2.2.2.1 1) + (b.2.2.2.2.2.2.2.1 (Int32.toNatClampNeg x0)))) else (bif hEq (b.2.2.2.2.2.1 (Int32.toNatClampNeg x0)) 3 then ((b.2.2.2.2.2.2.1 (Int32.toNatClampNeg x0)) - ((2 * (b.2.2.2.2.2.2.2.2.1 1)) + (b.2.2.2.2.2.2.2.1 (Int32.toNatClampNeg x0)))) else (bif hEq (b.2.2.2.2.2.1 (Int32.toNatClampNeg x0)) 4 then ((b.2.2.2.2.2.2.1 (Int32.toNatClampNeg x0)) - ((2 * (b.2.2.2.2.2.2.2.2.1 1)) + (b.2.2.2.2.2.2.2.1 (Int32.toNatClampNeg x0)))) else (bif hEq (b.2.2.2.2.2.1 (Int32.toNatClampNeg x0)) 5 then ((b.2.2.2.2.2.2.1 (Int32.toNatClampNeg x0)) - (b.2.2.2.2.2.2.2.2.1 1)) else (bif hEq (b.2.2.2.2.2.1 (Int32.toNatClampNeg x0)) 6 then (bif gCmp .le b.2.1 b.1 then ((b.2.2.2.2.2.2.1 (Int32.toNatClampNeg x0)) - (b.2.2.2.2.2.2.2.2.1 1)) else (((b.2.2.2.2.2.2.1 (Int32.toNatClampNeg x0)) - (b.2.2.2.2.2.2.2.2.1 1)) / 2)) else ((b.2.2.2.2.2.2.1 (Int32.toNatClampNeg x0)) - (b.2.2.2.2.2.2.2.2.1 1)))))))) + (b.2.2.2.2.2.2.2.2.1 0)))] (hCm b d k s w ik ex pr wd sn qu tb ts rd h0 h1 h2 h3 fi R) (some (.int (v_17_1 x0 b))) (hCm b d k s w ik ex pr wd sn qu tb ts rd h0 h1 h2 h3 fi R) by
    refine hX_if (gCmp .lt b.2.1 30) (fun c8 => ?_) (fun c8 => ?_)
    · skip
      refine hX_go 1 (170) [some (.ref 1), some (.int x0), some (.int (bif hEq (b.2.2.2.2.2.1 (Int32.toNatClampNeg x0)) 1 then ((b.2.2.2.2.2.2.1 (Int32.toNatClampNeg x0)) + ((b.1 - b.2.1) / 2)) else (bif hEq (b.2.2.2.2.2.1 (Int32.toNatClampNeg x0)) 2 then ((b.2.2.2.2.2.2.1 (Int32.toNatClampNeg x0)) - ((b.2.2.2.2.2.2.2.2.1 1) + (b.2.2.2.2.2.2.2.1 (Int32.toNatClampNeg x0)))) else (bif hEq (b.2.2.2.2.2.1 (Int32.toNatClampNeg x0)) 3 then ((b.2.2.2.2.2.2.1 (Int32.toNatClampNeg x0)) - ((2 * (b.2.2.2.2.2.2.2.2.1 1)) + (b.2.2.2.2.2.2.2.1 (Int32.toNatClampNeg x0)))) else (bif hEq (b.2.2.2.2.2.1 (Int32.toNatClampNeg x0)) 4 then ((b.2.2.2.2.2.2.1 (Int32.toNatClampNeg x0)) - ((2 * (b.2.2.2.2.2.2.2.2.1 1)) + (b.2.2.2.2.2.2.2.1 (Int32.toNatClampNeg x0)))) else (bif hEq (b.2.2.2.2.2.1 (Int32.toNatClampNeg x0)) 5 then ((b.2.2.2.2.2.2.1 (Int32.toNatClampNeg x0)) - (b.2.2.2.2.2.2.2.2.1 1)) else (bif hEq (b.2.2.2.2.2.1 (Int32.toNatClampNeg x0)) 6 then (bif gCmp .le b.2.1 b.1 then ((b.2.2.2.2.2.2.1 (Int32.toNatClampNeg x0)) - (b.2.2.2.2.2.2.2.2.1 1)) else (((b.2.2.2.2.2.2.1 (Int32.toNatClampNeg x0)) - (b.2.2.2.2.2.2.2.2.1 1)) / 2)) else ((b.2.2.2.2.2.2.1 (Int32.toNatClampNeg x0)) - (b.2.2.2.2.2.2.2.2.1 1)))))))))] [.int (bif hEq (b.2.2.2.2.2.1 (Int32.toNatClampNeg x0)) 1 then ((b.2.2.2.2.2.2.1 (Int32.toNatClampNeg x0)) + ((b.1 - b.2.1) / 2)) else (bif hEq (b.2.2.2.2.2.1 (Int32.toNatClampNeg x0)) 2 then ((b.2.2.2.2.2.2.1 (Int32.toNatClampNeg x0)) - ((b.2.2.2.2.2.2.2.2.1 1) + (b.2.2.2.2.2.2.2.1 (Int32.toNatClampNeg x0)))) else (bif hEq (b.2.2.2.2.2.1 (Int32.toNatClampNeg x0)) 3 then ((b.2.2.2.2.2.2.1 (Int32.toNatClampNeg x0)) - ((2 * (b.2.2.2.2.2.2.2.2.1 1)) + (b.2.2.2.2.2.2.2.1 (Int32.toNatClampNeg x0)))) else (bif hEq (b.2.2.2.2.2.1 (Int32.toNatClampNeg x0)) 4 then ((b.2.2.2.2.2.2.1 (Int32.toNatClampNeg x0)) - ((2 * (b.2.2.2.2.2.2.2.2.1 1)) + (b.2.2.2.2.2.2.2.1 (Int32.toNatClampNeg x0)))) else (bif hEq (b.2.2.2.2.2.1 (Int32.toNatClampNeg x0)) 5 then ((b.2.2.2.2.2.2.1 (Int32.toNatClampNeg x0)) - (b.2.2.2.2.2.2.2.2.1 1)) else (bif hEq (b.2.2.2.2.2.1 (Int32.toNatClampNeg x0)) 6 then (bif gCmp .le b.2.1 b.1 then ((b.2.2.2.2.2.2.1 (Int32.toNatClampNeg x0)) - (b.2.2.2.2.2.2.2.2.1 1)) else (((b.2.2.2.2.2.2.1 (Int32.toNatClampNeg x0)) - (b.2.2.2.2.2.2.2.2.1 1)) / 2)) else ((b.2.2.2.2.2.2.1 (Int32.toNatClampNeg x0)) - (b.2.2.2.2.2.2.2.2.1 1))))))))] (hCm b d k s w ik ex pr wd sn qu tb ts rd h0 h1 h2 h3 fi R) rfl ?_
      have hk := hk
      simp only [c8, cond_true, cond_false] at hk
      first | exact hk | (simp only [c8, cond_true, cond_false]; exact hk)
    · skip
      refine hX_go 7 (170) [some (.ref 1), some (.int x0), some (.int (bif hEq (b.2.2.2.2.2.1 (Int32.toNatClampNeg x0)) 1 then ((b.2.2.2.2.2.2.1 (Int32.toNatClampNeg x0)) + ((b.1 - b.2.1) / 2)) else (bif hEq (b.2.2.2.2.2.1 (Int32.toNatClampNeg x0)) 2 then ((b.2.2.2.2.2.2.1 (Int32.toNatClampNeg x0)) - ((b.2.2.2.2.2.2.2.2.1 1) + (b.2.2.2.2.2.2.2.1 (Int32.toNatClampNeg x0)))) else (bif hEq (b.2.2.2.2.2.1 (Int32.toNatClampNeg x0)) 3 then ((b.2.2.2.2.2.2.1 (Int32.toNatClampNeg x0)) - ((2 * (b.2.2.2.2.2.2.2.2.1 1)) + (b.2.2.2.2.2.2.2.1 (Int32.toNatClampNeg x0)))) else (bif hEq (b.2.2.2.2.2.1 (Int32.toNatClampNeg x0)) 4 then ((b.2.2.2.2.2.2.1 (Int32.toNatClampNeg x0)) - ((2 * (b.2.2.2.2.2.2.2.2.1 1)) + (b.2.2.2.2.2.2.2.1 (Int32.toNatClampNeg x0)))) else (bif hEq (b.2.2.2.2.2.1 (Int32.toNatClampNeg x0)) 5 then ((b.2.2.2.2.2.2.1 (Int32.toNatClampNeg x0)) - (b.2.2.2.2.2.2.2.2.1 1)) else (bif hEq (b.2.2.2.2.2.1 (Int32.toNatClampNeg x0)) 6 then (bif gCmp .le b.2.1 b.1 then ((b.2.2.2.2.2.2.1 (Int32.toNatClampNeg x0)) - (b.2.2.2.2.2.2.2.2.1 1)) else (((b.2.2.2.2.2.2.1 (Int32.toNatClampNeg x0)) - (b.2.2.2.2.2.2.2.2.1 1)) / 2)) else ((b.2.2.2.2.2.2.1 (Int32.toNatClampNeg x0)) - (b.2.2.2.2.2.2.2.2.1 1)))))))))] [.int ((bif hEq (b.2.2.2.2.2.1 (Int32.toNatClampNeg x0)) 1 then ((b.2.2.2.2.2.2.1 (Int32.toNatClampNeg x0)) + ((b.1 - b.2.1) / 2)) else (bif hEq (b.2.2.2.2.2.1 (Int32.toNatClampNeg x0)) 2 then ((b.2.2.2.2.2.2.1 (Int32.toNatClampNeg x0)) - ((b.2.2.2.2.2.2.2.2.1 1) + (b.2.2.2.2.2.2.2.1 (Int32.toNatClampNeg x0)))) else (bif hEq (b.2.2.2.2.2.1 (Int32.toNatClampNeg x0)) 3 then ((b.2.2.2.2.2.2.1 (Int32.toNatClampNeg x0)) - ((2 * (b.2.2.2.2.2.2.2.2.1 1)) + (b.2.2.2.2.2.2.2.1 (Int32.toNatClampNeg x0)))) else (bif hEq (b.2.2.2.2.2.1 (Int32.toNatClampNeg x0)) 4 then ((b.2.2.2.2.2.2.1 (Int32.toNatClampNeg x0)) - ((2 * (b.2.2.2.2.2.2.2.2.1 1)) + (b.2.2.2.2.2.2.2.1 (Int32.toNatClampNeg x0)))) else (bif hEq (b.2.2.2.2.2.1 (Int32.toNatClampNeg x0)) 5 then ((b.2.2.2.2.2.2.1 (Int32.toNatClampNeg x0)) - (b.2.2.2.2.2.2.2.2.1 1)) else (bif hEq (b.2.2.2.2.2.1 (Int32.toNatClampNeg x0)) 6 then (bif gCmp .le b.2.1 b.1 then ((b.2.2.2.2.2.2.1 (Int32.toNatClampNeg x0)) - (b.2.2.2.2.2.2.2.2.1 1)) else (((b.2.2.2.2.2.2.1 (Int32.toNatClampNeg x0)) - (b.2.2.2.2.2.2.2.2.1 1)) / 2)) else ((b.2.2.2.2.2.2.1 (Int32.toNatClampNeg x0)) - (b.2.2.2.2.2.2.2.2.1 1)))))))) + (b.2.2.2.2.2.2.2.2.1 0))] (hCm b d k s w ik ex pr wd sn qu tb ts rd h0 h1 h2 h3 fi R) rfl ?_
      have hk := hk
      simp only [c8, cond_true, cond_false] at hk
      first | exact hk | (simp only [c8, cond_true, cond_false]; exact hk)
  exact hX_end rfl (rfl) (rfl)

/-- UpOneSide$Blind.move(I)V -/
def f_18_1_b (x0 : Int32) (b : hB) : hB := (if 0 < (if (b.1 + (v_16_1 x0 b)) < 60 then (b.1 + (v_16_1 x0 b)) else 60) then (if (b.1 + (v_16_1 x0 b)) < 60 then (b.1 + (v_16_1 x0 b)) else 60) else 0, if 0 < (if (b.2.1 + (v_17_1 x0 b)) < 60 then (b.2.1 + (v_17_1 x0 b)) else 60) then (if (b.2.1 + (v_17_1 x0 b)) < 60 then (b.2.1 + (v_17_1 x0 b)) else 60) else 0, b.2.2)
set_option maxRecDepth 20000 in
set_option maxHeartbeats 1000000 in
theorem ct_18_1 {LL : Nat} {xs : Nat → Int32} {D : Nat} {b d k s w : hB} {ik ex pr wd : Int32} {sn : Nat → Int64} {qu tb : Nat → Int32} {ts : Int32} {rd : hRd} {h0 h1 h2 h3 : hSt} {fi : Nat → Int32} {R : List gE} (x0 : Int32) (o1 : gIn x0 8 = true) : hM (gO LL xs) (D + 1) zR_18 [.ref 1, .int x0] (hCm b d k s w ik ex pr wd sn qu tb ts rd h0 h1 h2 h3 fi R) none (hCm (f_18_1_b x0 b) d k s w ik ex pr wd sn qu tb ts rd h0 h1 h2 h3 fi R) := by
  refine hX_go 0 0 [some (.ref 1), some (.int x0), none, none] [] (hCm b d k s w ik ex pr wd sn qu tb ts rd h0 h1 h2 h3 fi R) rfl ?_
  refine hX_go 4 (6) [some (.ref 1), some (.int x0), none, none] [.int x0, .ref 1, .int b.1] (hCm b d k s w ik ex pr wd sn qu tb ts rd h0 h1 h2 h3 fi R) rfl ?_
  refine hX_call (r' := zR_16) rfl (ct_16_1 x0 o1) ?_
  refine hX_go 6 (17) [some (.ref 1), some (.int x0), some (.int (b.1 + (v_16_1 x0 b))), none] [.int x0, .ref 1, .int b.2.1] (hCm b d k s w ik ex pr wd sn qu tb ts rd h0 h1 h2 h3 fi R) rfl ?_
  refine hX_call (r' := zR_17) rfl (ct_17_1 x0 o1) ?_
  refine hX_go 9 (36) [some (.ref 1), some (.int x0), some (.int (b.1 + (v_16_1 x0 b))), some (.int (b.2.1 + (v_17_1 x0 b)))] [] (hCm (if 0 < (if (b.1 + (v_16_1 x0 b)) < 60 then (b.1 + (v_16_1 x0 b)) else 60) then (if (b.1 + (v_16_1 x0 b)) < 60 then (b.1 + (v_16_1 x0 b)) else 60) else 0, b.2) d k s w ik ex pr wd sn qu tb ts rd h0 h1 h2 h3 fi R) rfl ?_
  refine hX_go 7 (50) [some (.ref 1), some (.int x0), some (.int (b.1 + (v_16_1 x0 b))), some (.int (b.2.1 + (v_17_1 x0 b)))] [] (hCm (if 0 < (if (b.1 + (v_16_1 x0 b)) < 60 then (b.1 + (v_16_1 x0 b)) else 60) then (if (b.1 + (v_16_1 x0 b)) < 60 then (b.1 + (v_16_1 x0 b)) else 60) else 0, if 0 < (if (b.2.1 + (v_17_1 x0 b)) < 60 then (b.2.1 + (v_17_1 x0 b)) else 60) then (if (b.2.1 + (v_17_1 x0 b)) < 60 then (b.2.1 + (v_17_1 x0 b)) else 60) else 0, b.2.2) d k s w ik ex pr wd sn qu tb ts rd h0 h1 h2 h3 fi R) rfl ?_
  exact hX_end rfl (rfl) (rfl)

/-- UpOneSide$Blind.perform(I)V -/
def f_20_1_b (x0 : Int32) (b : hB) : hB := (f_18_1_b x0 (b.1, b.2.1, b.2.2.1 + 1, b.2.2.2.1, b.2.2.2.2.1, b.2.2.2.2.2.1, b.2.2.2.2.2.2.1, b.2.2.2.2.2.2.2.1, b.2.2.2.2.2.2.2.2.1, b.2.2.2.2.2.2.2.2.2.1, upd b.2.2.2.2.2.2.2.2.2.2.1 (Int32.toNatClampNeg b.1) (if ((b.2.2.2.2.2.2.2.2.2.2.1 (Int32.toNatClampNeg b.1)) + 1) < 9999 then ((b.2.2.2.2.2.2.2.2.2.2.1 (Int32.toNatClampNeg b.1)) + 1) else 9999), b.2.2.2.2.2.2.2.2.2.2.2))
set_option maxRecDepth 20000 in
set_option maxHeartbeats 1000000 in
theorem ct_20_1 {LL : Nat} {xs : Nat → Int32} {D : Nat} {b d k s w : hB} {ik ex pr wd : Int32} {sn : Nat → Int64} {qu tb : Nat → Int32} {ts : Int32} {rd : hRd} {h0 h1 h2 h3 : hSt} {fi : Nat → Int32} {R : List gE} (x0 : Int32) (o1 : gIn b.1 61 = true) (o2 : gIn x0 8 = true) : hM (gO LL xs) (D + 2) zR_20 [.ref 1, .int x0] (hCm b d k s w ik ex pr wd sn qu tb ts rd h0 h1 h2 h3 fi R) none (hCm (f_20_1_b x0 b) d k s w ik ex pr wd sn qu tb ts rd h0 h1 h2 h3 fi R) := by
  refine hX_go 0 0 [some (.ref 1), some (.int x0)] [] (hCm b d k s w ik ex pr wd sn qu tb ts rd h0 h1 h2 h3 fi R) rfl ?_
  refine hX_go 9 (19) [some (.ref 1), some (.int x0)] [.int b.1, .ref 7, .int 9999, .int b.1, .ref 7] (hCm b d k s w ik ex pr wd sn qu tb ts rd h0 h1 h2 h3 fi R) rfl ?_
  refine hX_g (gIn b.1 61) 20 [some (.ref 1), some (.int x0)] [.int (b.2.2.2.2.2.2.2.2.2.2.1 (Int32.toNatClampNeg b.1)), .int 9999, .int b.1, .ref 7] (hCm b d k s w ik ex pr wd sn qu tb ts rd h0 h1 h2 h3 fi R) rfl o1 ?_
  refine hX_go 3 (25) [some (.ref 1), some (.int x0)] [.int (if ((b.2.2.2.2.2.2.2.2.2.2.1 (Int32.toNatClampNeg b.1)) + 1) < 9999 then ((b.2.2.2.2.2.2.2.2.2.2.1 (Int32.toNatClampNeg b.1)) + 1) else 9999), .int b.1, .ref 7] (hCm b d k s w ik ex pr wd sn qu tb ts rd h0 h1 h2 h3 fi R) rfl ?_
  refine hX_g (gIn b.1 61) 26 [some (.ref 1), some (.int x0)] [] (hCm (b.1, b.2.1, b.2.2.1, b.2.2.2.1, b.2.2.2.2.1, b.2.2.2.2.2.1, b.2.2.2.2.2.2.1, b.2.2.2.2.2.2.2.1, b.2.2.2.2.2.2.2.2.1, b.2.2.2.2.2.2.2.2.2.1, upd b.2.2.2.2.2.2.2.2.2.2.1 (Int32.toNatClampNeg b.1) (if ((b.2.2.2.2.2.2.2.2.2.2.1 (Int32.toNatClampNeg b.1)) + 1) < 9999 then ((b.2.2.2.2.2.2.2.2.2.2.1 (Int32.toNatClampNeg b.1)) + 1) else 9999), b.2.2.2.2.2.2.2.2.2.2.2) d k s w ik ex pr wd sn qu tb ts rd h0 h1 h2 h3 fi R) rfl o1 ?_
  refine hX_go 8 (38) [some (.ref 1), some (.int x0)] [.int x0, .ref 1] (hCm (b.1, b.2.1, b.2.2.1 + 1, b.2.2.2.1, b.2.2.2.2.1, b.2.2.2.2.2.1, b.2.2.2.2.2.2.1, b.2.2.2.2.2.2.2.1, b.2.2.2.2.2.2.2.2.1, b.2.2.2.2.2.2.2.2.2.1, upd b.2.2.2.2.2.2.2.2.2.2.1 (Int32.toNatClampNeg b.1) (if ((b.2.2.2.2.2.2.2.2.2.2.1 (Int32.toNatClampNeg b.1)) + 1) < 9999 then ((b.2.2.2.2.2.2.2.2.2.2.1 (Int32.toNatClampNeg b.1)) + 1) else 9999), b.2.2.2.2.2.2.2.2.2.2.2) d k s w ik ex pr wd sn qu tb ts rd h0 h1 h2 h3 fi R) rfl ?_
  refine hX_call (r' := zR_18) rfl (ct_18_1 x0 o2) ?_
  refine hX_go 0 (41) [some (.ref 1), some (.int x0)] [] (hCm (f_18_1_b x0 (b.1, b.2.1, b.2.2.1 + 1, b.2.2.2.1, b.2.2.2.2.1, b.2.2.2.2.2.1, b.2.2.2.2.2.2.1, b.2.2.2.2.2.2.2.1, b.2.2.2.2.2.2.2.2.1, b.2.2.2.2.2.2.2.2.2.1, upd b.2.2.2.2.2.2.2.2.2.2.1 (Int32.toNatClampNeg b.1) (if ((b.2.2.2.2.2.2.2.2.2.2.1 (Int32.toNatClampNeg b.1)) + 1) < 9999 then ((b.2.2.2.2.2.2.2.2.2.2.1 (Int32.toNatClampNeg b.1)) + 1) else 9999), b.2.2.2.2.2.2.2.2.2.2.2)) d k s w ik ex pr wd sn qu tb ts rd h0 h1 h2 h3 fi R) rfl ?_
  exact hX_end rfl (rfl) (rfl)

/-- UpOneSide.does(I)I -/
def v_68_0 (x0 : Int32) (b : hB) : Int32 := bif gCmp .eq (v_113_0 x0 b) 0 then (bif gCmp .le (b.2.2.1 + 1) 99999 then (v_14_1 (f_20_1_b x0 b)) else (v_111_0 4)) else (v_111_0 0)
def f_68_0_b (x0 : Int32) (b : hB) : hB := bif gCmp .eq (v_113_0 x0 b) 0 then (bif gCmp .le (b.2.2.1 + 1) 99999 then (f_20_1_b x0 b) else b) else b
def f_68_0_fi (x0 : Int32) (b : hB) (fi : Nat → Int32) : Nat → Int32 := bif gCmp .eq (v_113_0 x0 b) 0 then (bif gCmp .le (b.2.2.1 + 1) 99999 then fi else (f_111_0_fi 4 fi)) else (f_111_0_fi 0 fi)
set_option maxRecDepth 20000 in
set_option maxHeartbeats 1000000 in
theorem ct_68_0 {LL : Nat} {xs : Nat → Int32} {D : Nat} {b d k s w : hB} {ik ex pr wd : Int32} {sn : Nat → Int64} {qu tb : Nat → Int32} {ts : Int32} {rd : hRd} {h0 h1 h2 h3 : hSt} {fi : Nat → Int32} {R : List gE} (x0 : Int32) (o1 : gCmp .eq (v_113_0 x0 b) 0 = true → gCmp .le (b.2.2.1 + 1) 99999 = true → gIn b.1 61 = true) (o2 : gCmp .eq (v_113_0 x0 b) 0 = true → gCmp .le (b.2.2.1 + 1) 99999 = true → gIn x0 8 = true) (o3 : gCmp .eq (v_113_0 x0 b) 0 = true → gCmp .le (b.2.2.1 + 1) 99999 = false → gIn 4 7 = true) (o4 : gCmp .eq (v_113_0 x0 b) 0 = false → gIn 0 7 = true) : hM (gO LL xs) (D + 3) zR_68 [.ref 0, .int x0] (hCm b d k s w ik ex pr wd sn qu tb ts rd h0 h1 h2 h3 fi R) (some (.int (v_68_0 x0 b))) (hCm (f_68_0_b x0 b) d k s w ik ex pr wd sn qu tb ts rd h0 h1 h2 h3 (f_68_0_fi x0 b fi) R) := by
  refine hX_go 0 0 [some (.ref 0), some (.int x0)] [] (hCm b d k s w ik ex pr wd sn qu tb ts rd h0 h1 h2 h3 fi R) rfl ?_
  refine hX_go 2 (2) [some (.ref 0), some (.int x0)] [.int x0, .ref 0] (hCm b d k s w ik ex pr wd sn qu tb ts rd h0 h1 h2 h3 fi R) rfl ?_
  refine hX_call (r' := zR_113) rfl (ct_113_0 x0) ?_
  refine hX_go 1 (bif gCmp .eq (v_113_0 x0 b) 0 then 14 else 8) [some (.ref 0), some (.int x0)] [] (hCm b d k s w ik ex pr wd sn qu tb ts rd h0 h1 h2 h3 fi R) rfl ?_
  refine hX_if (gCmp .eq (v_113_0 x0 b) 0) (fun c1 => ?_) (fun c1 => ?_)
  · skip
    refine hX_go 7 (bif gCmp .le (b.2.2.1 + 1) 99999 then 34 else 28) [some (.ref 0), some (.int x0)] [] (hCm b d k s w ik ex pr wd sn qu tb ts rd h0 h1 h2 h3 fi R) rfl ?_
    refine hX_if (gCmp .le (b.2.2.1 + 1) 99999) (fun c2 => ?_) (fun c2 => ?_)
    · skip
      refine hX_go 3 (39) [some (.ref 0), some (.int x0)] [.int x0, .ref 1] (hCm b d k s w ik ex pr wd sn qu tb ts rd h0 h1 h2 h3 fi R) rfl ?_
      refine hX_call (r' := zR_20) rfl (ct_20_1 x0 (o1 c1 c2) (o2 c1 c2)) ?_
      refine hX_go 2 (46) [some (.ref 0), some (.int x0)] [.ref 1] (hCm (f_20_1_b x0 b) d k s w ik ex pr wd sn qu tb ts rd h0 h1 h2 h3 fi R) rfl ?_
      refine hX_call (r' := zR_14) rfl (ct_14_1) ?_
      refine hX_go 0 (49) [some (.ref 0), some (.int x0)] [.int (v_14_1 (f_20_1_b x0 b))] (hCm (f_20_1_b x0 b) d k s w ik ex pr wd sn qu tb ts rd h0 h1 h2 h3 fi R) rfl ?_
      exact hX_end rfl (by unfold v_68_0; rw [c1, c2]; rfl) (by unfold f_68_0_b; rw [c1, c2]; unfold f_68_0_fi; rw [c1, c2]; rfl)
    · skip
      refine hX_go 2 (30) [some (.ref 0), some (.int x0)] [.int 4, .ref 0] (hCm b d k s w ik ex pr wd sn qu tb ts rd h0 h1 h2 h3 fi R) rfl ?_
      refine hX_call (r' := zR_111) rfl (ct_111_0 4 (o3 c1 c2)) ?_
      refine hX_go 0 (33) [some (.ref 0), some (.int x0)] [.int (v_111_0 4)] (hCm b d k s w ik ex pr wd sn qu tb ts rd h0 h1 h2 h3 (f_111_0_fi 4 fi) R) rfl ?_
      exact hX_end rfl (by unfold v_68_0; rw [c1, c2]; rfl) (by unfold f_68_0_b; rw [c1, c2]; unfold f_68_0_fi; rw [c1, c2]; rfl)
  · skip
    refine hX_go 2 (10) [some (.ref 0), some (.int x0)] [.int 0, .ref 0] (hCm b d k s w ik ex pr wd sn qu tb ts rd h0 h1 h2 h3 fi R) rfl ?_
    refine hX_call (r' := zR_111) rfl (ct_111_0 0 (o4 c1)) ?_
    refine hX_go 0 (13) [some (.ref 0), some (.int x0)] [.int (v_111_0 0)] (hCm b d k s w ik ex pr wd sn qu tb ts rd h0 h1 h2 h3 (f_111_0_fi 0 fi) R) rfl ?_
    exact hX_end rfl (by unfold v_68_0; rw [c1]; rfl) (by unfold f_68_0_b; rw [c1]; unfold f_68_0_fi; rw [c1]; rfl)

theorem sw_69_1 (x : Int32) : gSwT 1 83 0 4 #[35, 43, 51, 59, 67] x = some (bif hEq x 0 then 36 else bif hEq x 1 then 44 else bif hEq x 2 then 52 else bif hEq x 3 then 60 else bif hEq x 4 then 68 else 84) := by
  by_cases q0 : x = 0
  · subst q0; rfl
  by_cases q1 : x = 1
  · subst q1; rfl
  by_cases q2 : x = 2
  · subst q2; rfl
  by_cases q3 : x = 3
  · subst q3; rfl
  by_cases q4 : x = 4
  · subst q4; rfl
  simp only [hEq, q0, q1, q2, q3, q4, decide_false, cond_false]
  have n0 := hNe q0
  have n1 := hNe q1
  have n2 := hNe q2
  have n3 := hNe q3
  have n4 := hNe q4
  unfold gSwT
  rw [show (decide (x.toInt < 0) || decide (4 < x.toInt)) = true from by
    simp only [Bool.or_eq_true, decide_eq_true_eq]
    have e : ∀ z : Int, z < 0 ∨ 4 < z ∨ (z = 0 ∨ z = 1 ∨ z = 2 ∨ z = 3 ∨ z = 4) := by intro z; omega
    rcases e x.toInt with h | h | h
    · exact Or.inl h
    · exact Or.inr h
    · rcases h with h | h | h | h | h
      · exact absurd h n0
      · exact absurd h n1
      · exact absurd h n2
      · exact absurd h n3
      · exact absurd h n4
    ]
  rfl

/-- UpOneSide.now(I)I -/
def v_69_0 (x0 : Int32) (b : hB) : Int32 := bif hEq x0 0 then b.1 else (bif hEq x0 1 then b.2.1 else (bif hEq x0 2 then (v_14_1 b) else (bif hEq x0 3 then b.2.2.1 else (bif hEq x0 4 then (b.2.2.2.2.2.2.2.2.2.2.1 (Int32.toNatClampNeg b.1)) else (v_111_0 0)))))
def f_69_0_fi (x0 : Int32) (fi : Nat → Int32) : Nat → Int32 := bif hEq x0 0 then fi else (bif hEq x0 1 then fi else (bif hEq x0 2 then fi else (bif hEq x0 3 then fi else (bif hEq x0 4 then fi else (f_111_0_fi 0 fi)))))
set_option maxRecDepth 20000 in
set_option maxHeartbeats 1000000 in
theorem ct_69_0 {LL : Nat} {xs : Nat → Int32} {D : Nat} {b d k s w : hB} {ik ex pr wd : Int32} {sn : Nat → Int64} {qu tb : Nat → Int32} {ts : Int32} {rd : hRd} {h0 h1 h2 h3 : hSt} {fi : Nat → Int32} {R : List gE} (x0 : Int32) (o1 : hEq x0 0 = false → hEq x0 1 = false → hEq x0 2 = false → hEq x0 3 = false → hEq x0 4 = true → gIn b.1 61 = true) (o2 : hEq x0 0 = false → hEq x0 1 = false → hEq x0 2 = false → hEq x0 3 = false → hEq x0 4 = false → gIn 0 7 = true) : hM (gO LL xs) (D + 1) zR_69 [.ref 0, .int x0] (hCm b d k s w ik ex pr wd sn qu tb ts rd h0 h1 h2 h3 fi R) (some (.int (v_69_0 x0 b))) (hCm b d k s w ik ex pr wd sn qu tb ts rd h0 h1 h2 h3 (f_69_0_fi x0 fi) R) := by
  refine hX_go 0 0 [some (.ref 0), some (.int x0)] [] (hCm b d k s w ik ex pr wd sn qu tb ts rd h0 h1 h2 h3 fi R) rfl ?_
  refine hX_go 1 (1) [some (.ref 0), some (.int x0)] [.int x0] (hCm b d k s w ik ex pr wd sn qu tb ts rd h0 h1 h2 h3 fi R) rfl ?_
  refine hX_sw (bif hEq x0 0 then 36 else bif hEq x0 1 then 44 else bif hEq x0 2 then 52 else bif hEq x0 3 then 60 else bif hEq x0 4 then 68 else 84) rfl (sw_69_1 x0) ?_
  refine hX_if (hEq x0 0) (fun c1 => ?_) (fun c1 => ?_)
  · skip
    refine hX_go 3 (43) [some (.ref 0), some (.int x0)] [.int b.1] (hCm b d k s w ik ex pr wd sn qu tb ts rd h0 h1 h2 h3 fi R) rfl ?_
    exact hX_end rfl (by unfold v_69_0; rw [c1]; rfl) (by unfold f_69_0_fi; rw [c1]; rfl)
  · skip
    refine hX_if (hEq x0 1) (fun c2 => ?_) (fun c2 => ?_)
    · skip
      refine hX_go 3 (51) [some (.ref 0), some (.int x0)] [.int b.2.1] (hCm b d k s w ik ex pr wd sn qu tb ts rd h0 h1 h2 h3 fi R) rfl ?_
      exact hX_end rfl (by unfold v_69_0; rw [c1, c2]; rfl) (by unfold f_69_0_fi; rw [c1, c2]; rfl)
    · skip
      refine hX_if (hEq x0 2) (fun c3 => ?_) (fun c3 => ?_)
      · skip
        refine hX_go 2 (56) [some (.ref 0), some (.int x0)] [.ref 1] (hCm b d k s w ik ex pr wd sn qu tb ts rd h0 h1 h2 h3 fi R) rfl ?_
        refine hX_call (r' := zR_14) rfl (ct_14_1) ?_
        refine hX_go 0 (59) [some (.ref 0), some (.int x0)] [.int (v_14_1 b)] (hCm b d k s w ik ex pr wd sn qu tb ts rd h0 h1 h2 h3 fi R) rfl ?_
        exact hX_end rfl (by unfold v_69_0; rw [c1, c2, c3]; rfl) (by unfold f_69_0_fi; rw [c1, c2, c3]; rfl)
      · skip
        refine hX_if (hEq x0 3) (fun c4 => ?_) (fun c4 => ?_)
        · skip
          refine hX_go 3 (67) [some (.ref 0), some (.int x0)] [.int b.2.2.1] (hCm b d k s w ik ex pr wd sn qu tb ts rd h0 h1 h2 h3 fi R) rfl ?_
          exact hX_end rfl (by unfold v_69_0; rw [c1, c2, c3, c4]; rfl) (by unfold f_69_0_fi; rw [c1, c2, c3, c4]; rfl)
        · skip
          refine hX_if (hEq x0 4) (fun c5 => ?_) (fun c5 => ?_)
          · skip
            refine hX_go 6 (82) [some (.ref 0), some (.int x0)] [.int b.1, .ref 7] (hCm b d k s w ik ex pr wd sn qu tb ts rd h0 h1 h2 h3 fi R) rfl ?_
            refine hX_g (gIn b.1 61) 83 [some (.ref 0), some (.int x0)] [.int (b.2.2.2.2.2.2.2.2.2.2.1 (Int32.toNatClampNeg b.1))] (hCm b d k s w ik ex pr wd sn qu tb ts rd h0 h1 h2 h3 fi R) rfl (o1 c1 c2 c3 c4 c5) ?_
            exact hX_end rfl (by unfold v_69_0; rw [c1, c2, c3, c4, c5]; rfl) (by unfold f_69_0_fi; rw [c1, c2, c3, c4, c5]; rfl)
          · skip
            refine hX_go 2 (86) [some (.ref 0), some (.int x0)] [.int 0, .ref 0] (hCm b d k s w ik ex pr wd sn qu tb ts rd h0 h1 h2 h3 fi R) rfl ?_
            refine hX_call (r' := zR_111) rfl (ct_111_0 0 (o2 c1 c2 c3 c4 c5)) ?_
            refine hX_go 0 (89) [some (.ref 0), some (.int x0)] [.int (v_111_0 0)] (hCm b d k s w ik ex pr wd sn qu tb ts rd h0 h1 h2 h3 (f_111_0_fi 0 fi) R) rfl ?_
            exact hX_end rfl (by unfold v_69_0; rw [c1, c2, c3, c4, c5]; rfl) (by unfold f_69_0_fi; rw [c1, c2, c3, c4, c5]; rfl)

/-- UpOneSide.wear(I)I -/
def v_70_0 (x0 : Int32) (b : hB) : Int32 := bif gCmp .ne (v_112 x0 0 60) 0 then (b.2.2.2.2.2.2.2.2.2.2.1 (Int32.toNatClampNeg x0)) else (v_111_0 0)
def f_70_0_fi (x0 : Int32) (fi : Nat → Int32) : Nat → Int32 := bif gCmp .ne (v_112 x0 0 60) 0 then fi else (f_111_0_fi 0 fi)
set_option maxRecDepth 20000 in
set_option maxHeartbeats 1000000 in
theorem ct_70_0 {LL : Nat} {xs : Nat → Int32} {D : Nat} {b d k s w : hB} {ik ex pr wd : Int32} {sn : Nat → Int64} {qu tb : Nat → Int32} {ts : Int32} {rd : hRd} {h0 h1 h2 h3 : hSt} {fi : Nat → Int32} {R : List gE} (x0 : Int32) (o1 : gCmp .ne (v_112 x0 0 60) 0 = true → gIn x0 61 = true) (o2 : gCmp .ne (v_112 x0 0 60) 0 = false → gIn 0 7 = true) : hM (gO LL xs) (D + 1) zR_70 [.ref 0, .int x0] (hCm b d k s w ik ex pr wd sn qu tb ts rd h0 h1 h2 h3 fi R) (some (.int (v_70_0 x0 b))) (hCm b d k s w ik ex pr wd sn qu tb ts rd h0 h1 h2 h3 (f_70_0_fi x0 fi) R) := by
  refine hX_go 0 0 [some (.ref 0), some (.int x0)] [] (hCm b d k s w ik ex pr wd sn qu tb ts rd h0 h1 h2 h3 fi R) rfl ?_
  refine hX_go 3 (4) [some (.ref 0), some (.int x0)] [.int 60, .int 0, .int x0] (hCm b d k s w ik ex pr wd sn qu tb ts rd h0 h1 h2 h3 fi R) rfl ?_
  refine hX_call (r' := zR_112) rfl (ct_112 x0 0 60) ?_
  refine hX_go 1 (bif gCmp .ne (v_112 x0 0 60) 0 then 16 else 10) [some (.ref 0), some (.int x0)] [] (hCm b d k s w ik ex pr wd sn qu tb ts rd h0 h1 h2 h3 fi R) rfl ?_
  refine hX_if (gCmp .ne (v_112 x0 0 60) 0) (fun c1 => ?_) (fun c1 => ?_)
  · skip
    refine hX_go 4 (24) [some (.ref 0), some (.int x0)] [.int x0, .ref 7] (hCm b d k s w ik ex pr wd sn qu tb ts rd h0 h1 h2 h3 fi R) rfl ?_
    refine hX_g (gIn x0 61) 25 [some (.ref 0), some (.int x0)] [.int (b.2.2.2.2.2.2.2.2.2.2.1 (Int32.toNatClampNeg x0))] (hCm b d k s w ik ex pr wd sn qu tb ts rd h0 h1 h2 h3 fi R) rfl (o1 c1) ?_
    exact hX_end rfl (by unfold v_70_0; rw [c1]; rfl) (by unfold f_70_0_fi; rw [c1]; rfl)
  · skip
    refine hX_go 2 (12) [some (.ref 0), some (.int x0)] [.int 0, .ref 0] (hCm b d k s w ik ex pr wd sn qu tb ts rd h0 h1 h2 h3 fi R) rfl ?_
    refine hX_call (r' := zR_111) rfl (ct_111_0 0 (o2 c1)) ?_
    refine hX_go 0 (15) [some (.ref 0), some (.int x0)] [.int (v_111_0 0)] (hCm b d k s w ik ex pr wd sn qu tb ts rd h0 h1 h2 h3 (f_111_0_fi 0 fi) R) rfl ?_
    exact hX_end rfl (by unfold v_70_0; rw [c1]; rfl) (by unfold f_70_0_fi; rw [c1]; rfl)

/-- UpOneSide$Blind.takeOver(LUpOneSide$Blind;)V -/
def f_10_10_1_d (b : hB) (d : hB) : hB := (b.1, b.2.1, b.2.2.1, b.2.2.2.1, b.2.2.2.2.1, va_cpy b.2.2.2.2.2.1 d.2.2.2.2.2.1 0 0 8, va_cpy b.2.2.2.2.2.2.1 d.2.2.2.2.2.2.1 0 0 8, va_cpy b.2.2.2.2.2.2.2.1 d.2.2.2.2.2.2.2.1 0 0 8, va_cpy b.2.2.2.2.2.2.2.2.1 d.2.2.2.2.2.2.2.2.1 0 0 6, va_cpy b.2.2.2.2.2.2.2.2.2.1 d.2.2.2.2.2.2.2.2.2.1 0 0 4, va_cpy b.2.2.2.2.2.2.2.2.2.2.1 d.2.2.2.2.2.2.2.2.2.2.1 0 0 61, va_cpy b.2.2.2.2.2.2.2.2.2.2.2.1 d.2.2.2.2.2.2.2.2.2.2.2.1 0 0 24, va_cpy b.2.2.2.2.2.2.2.2.2.2.2.2 d.2.2.2.2.2.2.2.2.2.2.2.2 0 0 10)
set_option maxRecDepth 20000 in
set_option maxHeartbeats 1000000 in
theorem ct_10_10_1 {LL : Nat} {xs : Nat → Int32} {D : Nat} {b d k s w : hB} {ik ex pr wd : Int32} {sn : Nat → Int64} {qu tb : Nat → Int32} {ts : Int32} {rd : hRd} {h0 h1 h2 h3 : hSt} {fi : Nat → Int32} {R : List gE} : hM (gO LL xs) (D + 1) zR_10 [.ref 10, .ref 1] (hCm b d k s w ik ex pr wd sn qu tb ts rd h0 h1 h2 h3 fi R) none (hCm b (f_10_10_1_d b d) k s w ik ex pr wd sn qu tb ts rd h0 h1 h2 h3 fi R) := by
  refine hX_go 0 0 [some (.ref 10), some (.ref 1)] [] (hCm b d k s w ik ex pr wd sn qu tb ts rd h0 h1 h2 h3 fi R) rfl ?_
  refine hX_go 9 (17) [some (.ref 10), some (.ref 1)] [.ref 10] (hCm b (b.1, b.2.1, d.2.2) k s w ik ex pr wd sn qu tb ts rd h0 h1 h2 h3 fi R) rfl ?_
  refine hX_go 9 (34) [some (.ref 10), some (.ref 1)] [.ref 1, .ref 10] (hCm b (b.1, b.2.1, b.2.2.1, b.2.2.2.1, d.2.2.2.2) k s w ik ex pr wd sn qu tb ts rd h0 h1 h2 h3 fi R) rfl ?_
  refine hX_go 9 (52) [some (.ref 10), some (.ref 1)] [.int 8, .int 0, .ref 11, .int 0, .ref 2] (hCm b (b.1, b.2.1, b.2.2.1, b.2.2.2.1, b.2.2.2.2.1, d.2.2.2.2.2) k s w ik ex pr wd sn qu tb ts rd h0 h1 h2 h3 fi R) rfl ?_
  refine hX_go 9 (70) [some (.ref 10), some (.ref 1)] [] (hCm b (b.1, b.2.1, b.2.2.1, b.2.2.2.1, b.2.2.2.2.1, va_cpy b.2.2.2.2.2.1 d.2.2.2.2.2.1 0 0 8, va_cpy b.2.2.2.2.2.2.1 d.2.2.2.2.2.2.1 0 0 8, d.2.2.2.2.2.2.2) k s w ik ex pr wd sn qu tb ts rd h0 h1 h2 h3 fi R) rfl ?_
  refine hX_go 9 (86) [some (.ref 10), some (.ref 1)] [.ref 1] (hCm b (b.1, b.2.1, b.2.2.1, b.2.2.2.1, b.2.2.2.2.1, va_cpy b.2.2.2.2.2.1 d.2.2.2.2.2.1 0 0 8, va_cpy b.2.2.2.2.2.2.1 d.2.2.2.2.2.2.1 0 0 8, va_cpy b.2.2.2.2.2.2.2.1 d.2.2.2.2.2.2.2.1 0 0 8, d.2.2.2.2.2.2.2.2) k s w ik ex pr wd sn qu tb ts rd h0 h1 h2 h3 fi R) rfl ?_
  refine hX_go 9 (103) [some (.ref 10), some (.ref 1)] [] (hCm b (b.1, b.2.1, b.2.2.1, b.2.2.2.1, b.2.2.2.2.1, va_cpy b.2.2.2.2.2.1 d.2.2.2.2.2.1 0 0 8, va_cpy b.2.2.2.2.2.2.1 d.2.2.2.2.2.2.1 0 0 8, va_cpy b.2.2.2.2.2.2.2.1 d.2.2.2.2.2.2.2.1 0 0 8, va_cpy b.2.2.2.2.2.2.2.2.1 d.2.2.2.2.2.2.2.2.1 0 0 6, d.2.2.2.2.2.2.2.2.2) k s w ik ex pr wd sn qu tb ts rd h0 h1 h2 h3 fi R) rfl ?_
  refine hX_go 9 (118) [some (.ref 10), some (.ref 1)] [.ref 1] (hCm b (b.1, b.2.1, b.2.2.1, b.2.2.2.1, b.2.2.2.2.1, va_cpy b.2.2.2.2.2.1 d.2.2.2.2.2.1 0 0 8, va_cpy b.2.2.2.2.2.2.1 d.2.2.2.2.2.2.1 0 0 8, va_cpy b.2.2.2.2.2.2.2.1 d.2.2.2.2.2.2.2.1 0 0 8, va_cpy b.2.2.2.2.2.2.2.2.1 d.2.2.2.2.2.2.2.2.1 0 0 6, va_cpy b.2.2.2.2.2.2.2.2.2.1 d.2.2.2.2.2.2.2.2.2.1 0 0 4, d.2.2.2.2.2.2.2.2.2.2) k s w ik ex pr wd sn qu tb ts rd h0 h1 h2 h3 fi R) rfl ?_
  refine hX_go 9 (136) [some (.ref 10), some (.ref 1)] [.ref 8] (hCm b (b.1, b.2.1, b.2.2.1, b.2.2.2.1, b.2.2.2.2.1, va_cpy b.2.2.2.2.2.1 d.2.2.2.2.2.1 0 0 8, va_cpy b.2.2.2.2.2.2.1 d.2.2.2.2.2.2.1 0 0 8, va_cpy b.2.2.2.2.2.2.2.1 d.2.2.2.2.2.2.2.1 0 0 8, va_cpy b.2.2.2.2.2.2.2.2.1 d.2.2.2.2.2.2.2.2.1 0 0 6, va_cpy b.2.2.2.2.2.2.2.2.2.1 d.2.2.2.2.2.2.2.2.2.1 0 0 4, va_cpy b.2.2.2.2.2.2.2.2.2.2.1 d.2.2.2.2.2.2.2.2.2.2.1 0 0 61, d.2.2.2.2.2.2.2.2.2.2.2) k s w ik ex pr wd sn qu tb ts rd h0 h1 h2 h3 fi R) rfl ?_
  refine hX_go 9 (152) [some (.ref 10), some (.ref 1)] [.int 0, .ref 9] (hCm b (b.1, b.2.1, b.2.2.1, b.2.2.2.1, b.2.2.2.2.1, va_cpy b.2.2.2.2.2.1 d.2.2.2.2.2.1 0 0 8, va_cpy b.2.2.2.2.2.2.1 d.2.2.2.2.2.2.1 0 0 8, va_cpy b.2.2.2.2.2.2.2.1 d.2.2.2.2.2.2.2.1 0 0 8, va_cpy b.2.2.2.2.2.2.2.2.1 d.2.2.2.2.2.2.2.2.1 0 0 6, va_cpy b.2.2.2.2.2.2.2.2.2.1 d.2.2.2.2.2.2.2.2.2.1 0 0 4, va_cpy b.2.2.2.2.2.2.2.2.2.2.1 d.2.2.2.2.2.2.2.2.2.2.1 0 0 61, va_cpy b.2.2.2.2.2.2.2.2.2.2.2.1 d.2.2.2.2.2.2.2.2.2.2.2.1 0 0 24, d.2.2.2.2.2.2.2.2.2.2.2.2) k s w ik ex pr wd sn qu tb ts rd h0 h1 h2 h3 fi R) rfl ?_
  refine hX_go 5 (162) [some (.ref 10), some (.ref 1)] [] (hCm b (b.1, b.2.1, b.2.2.1, b.2.2.2.1, b.2.2.2.2.1, va_cpy b.2.2.2.2.2.1 d.2.2.2.2.2.1 0 0 8, va_cpy b.2.2.2.2.2.2.1 d.2.2.2.2.2.2.1 0 0 8, va_cpy b.2.2.2.2.2.2.2.1 d.2.2.2.2.2.2.2.1 0 0 8, va_cpy b.2.2.2.2.2.2.2.2.1 d.2.2.2.2.2.2.2.2.1 0 0 6, va_cpy b.2.2.2.2.2.2.2.2.2.1 d.2.2.2.2.2.2.2.2.2.1 0 0 4, va_cpy b.2.2.2.2.2.2.2.2.2.2.1 d.2.2.2.2.2.2.2.2.2.2.1 0 0 61, va_cpy b.2.2.2.2.2.2.2.2.2.2.2.1 d.2.2.2.2.2.2.2.2.2.2.2.1 0 0 24, va_cpy b.2.2.2.2.2.2.2.2.2.2.2.2 d.2.2.2.2.2.2.2.2.2.2.2.2 0 0 10) k s w ik ex pr wd sn qu tb ts rd h0 h1 h2 h3 fi R) rfl ?_
  exact hX_end rfl (rfl) (rfl)

/-- UpOneSide.badMending(III)Z -/
def v_117_0 (x0 : Int32) (x1 : Int32) (x2 : Int32) (b : hB) : Int32 := bif gCmp .ne (v_113_0 x0 b) 0 then 1 else (bif gCmp .eq (v_112 x1 0 20) 0 then 1 else (bif gCmp .ne (v_112 x2 0 60) 0 then 0 else 1))
set_option maxRecDepth 20000 in
set_option maxHeartbeats 1000000 in
theorem ct_117_0 {LL : Nat} {xs : Nat → Int32} {D : Nat} {b d k s w : hB} {ik ex pr wd : Int32} {sn : Nat → Int64} {qu tb : Nat → Int32} {ts : Int32} {rd : hRd} {h0 h1 h2 h3 : hSt} {fi : Nat → Int32} {R : List gE} (x0 : Int32) (x1 : Int32) (x2 : Int32) : hM (gO LL xs) (D + 1) zR_117 [.ref 0, .int x0, .int x1, .int x2] (hCm b d k s w ik ex pr wd sn qu tb ts rd h0 h1 h2 h3 fi R) (some (.int (v_117_0 x0 x1 x2 b))) (hCm b d k s w ik ex pr wd sn qu tb ts rd h0 h1 h2 h3 fi R) := by
  refine hX_go 0 0 [some (.ref 0), some (.int x0), some (.int x1), some (.int x2)] [] (hCm b d k s w ik ex pr wd sn qu tb ts rd h0 h1 h2 h3 fi R) rfl ?_
  refine hX_go 2 (2) [some (.ref 0), some (.int x0), some (.int x1), some (.int x2)] [.int x0, .ref 0] (hCm b d k s w ik ex pr wd sn qu tb ts rd h0 h1 h2 h3 fi R) rfl ?_
  refine hX_call (r' := zR_113) rfl (ct_113_0 x0) ?_
  refine hX_go 1 (bif gCmp .ne (v_113_0 x0 b) 0 then 28 else 8) [some (.ref 0), some (.int x0), some (.int x1), some (.int x2)] [] (hCm b d k s w ik ex pr wd sn qu tb ts rd h0 h1 h2 h3 fi R) rfl ?_
  refine hX_if (gCmp .ne (v_113_0 x0 b) 0) (fun c1 => ?_) (fun c1 => ?_)
  · skip
    refine hX_go 2 (33) [some (.ref 0), some (.int x0), some (.int x1), some (.int x2)] [.int 1] (hCm b d k s w ik ex pr wd sn qu tb ts rd h0 h1 h2 h3 fi R) rfl ?_
    exact hX_end rfl (by unfold v_117_0; rw [c1]; rfl) (rfl)
  · skip
    refine hX_go 3 (12) [some (.ref 0), some (.int x0), some (.int x1), some (.int x2)] [.int 20, .int 0, .int x1] (hCm b d k s w ik ex pr wd sn qu tb ts rd h0 h1 h2 h3 fi R) rfl ?_
    refine hX_call (r' := zR_112) rfl (ct_112 x1 0 20) ?_
    refine hX_go 1 (bif gCmp .eq (v_112 x1 0 20) 0 then 28 else 18) [some (.ref 0), some (.int x0), some (.int x1), some (.int x2)] [] (hCm b d k s w ik ex pr wd sn qu tb ts rd h0 h1 h2 h3 fi R) rfl ?_
    refine hX_if (gCmp .eq (v_112 x1 0 20) 0) (fun c2 => ?_) (fun c2 => ?_)
    · skip
      refine hX_go 2 (33) [some (.ref 0), some (.int x0), some (.int x1), some (.int x2)] [.int 1] (hCm b d k s w ik ex pr wd sn qu tb ts rd h0 h1 h2 h3 fi R) rfl ?_
      exact hX_end rfl (by unfold v_117_0; rw [c1, c2]; rfl) (rfl)
    · skip
      refine hX_go 3 (22) [some (.ref 0), some (.int x0), some (.int x1), some (.int x2)] [.int 60, .int 0, .int x2] (hCm b d k s w ik ex pr wd sn qu tb ts rd h0 h1 h2 h3 fi R) rfl ?_
      refine hX_call (r' := zR_112) rfl (ct_112 x2 0 60) ?_
      refine hX_go 1 (bif gCmp .ne (v_112 x2 0 60) 0 then 32 else 28) [some (.ref 0), some (.int x0), some (.int x1), some (.int x2)] [] (hCm b d k s w ik ex pr wd sn qu tb ts rd h0 h1 h2 h3 fi R) rfl ?_
      refine hX_if (gCmp .ne (v_112 x2 0 60) 0) (fun c3 => ?_) (fun c3 => ?_)
      · skip
        refine hX_go 1 (33) [some (.ref 0), some (.int x0), some (.int x1), some (.int x2)] [.int 0] (hCm b d k s w ik ex pr wd sn qu tb ts rd h0 h1 h2 h3 fi R) rfl ?_
        exact hX_end rfl (by unfold v_117_0; rw [c1, c2, c3]; rfl) (rfl)
      · skip
        refine hX_go 2 (33) [some (.ref 0), some (.int x0), some (.int x1), some (.int x2)] [.int 1] (hCm b d k s w ik ex pr wd sn qu tb ts rd h0 h1 h2 h3 fi R) rfl ?_
        exact hX_end rfl (by unfold v_117_0; rw [c1, c2, c3]; rfl) (rfl)

theorem bz_117_0 (x0 : Int32) (x1 : Int32) (x2 : Int32) (b : hB) : (decide (v_117_0 x0 x1 x2 b = 0) || decide (v_117_0 x0 x1 x2 b = 1)) = true := by
  unfold v_117_0
  cases (gCmp .ne (v_113_0 x0 b) 0)
  · cases (gCmp .eq (v_112 x1 0 20) 0)
    · cases (gCmp .ne (v_112 x2 0 60) 0)
      · rfl
      · rfl
    · rfl
  · rfl

/-- UpOneSide$Blind.mend(I)V -/
def f_22_1_b (x0 : Int32) (b : hB) : hB := (b.1, b.2.1, b.2.2.1, b.2.2.2.1, b.2.2.2.2.1, b.2.2.2.2.2.1, b.2.2.2.2.2.2.1, b.2.2.2.2.2.2.2.1, bif gCmp .eq (x0 &&& 8) 0 then (bif gCmp .eq (x0 &&& 4) 0 then (bif gCmp .eq (x0 &&& 2) 0 then (bif gCmp .eq (x0 &&& 1) 0 then b.2.2.2.2.2.2.2.2.1 else (upd b.2.2.2.2.2.2.2.2.1 1 0)) else (upd (bif gCmp .eq (x0 &&& 1) 0 then b.2.2.2.2.2.2.2.2.1 else (upd b.2.2.2.2.2.2.2.2.1 1 0)) 0 0)) else (upd (bif gCmp .eq (x0 &&& 2) 0 then (bif gCmp .eq (x0 &&& 1) 0 then b.2.2.2.2.2.2.2.2.1 else (upd b.2.2.2.2.2.2.2.2.1 1 0)) else (upd (bif gCmp .eq (x0 &&& 1) 0 then b.2.2.2.2.2.2.2.2.1 else (upd b.2.2.2.2.2.2.2.2.1 1 0)) 0 0)) 2 0)) else (upd (bif gCmp .eq (x0 &&& 4) 0 then (bif gCmp .eq (x0 &&& 2) 0 then (bif gCmp .eq (x0 &&& 1) 0 then b.2.2.2.2.2.2.2.2.1 else (upd b.2.2.2.2.2.2.2.2.1 1 0)) else (upd (bif gCmp .eq (x0 &&& 1) 0 then b.2.2.2.2.2.2.2.2.1 else (upd b.2.2.2.2.2.2.2.2.1 1 0)) 0 0)) else (upd (bif gCmp .eq (x0 &&& 2) 0 then (bif gCmp .eq (x0 &&& 1) 0 then b.2.2.2.2.2.2.2.2.1 else (upd b.2.2.2.2.2.2.2.2.1 1 0)) else (upd (bif gCmp .eq (x0 &&& 1) 0 then b.2.2.2.2.2.2.2.2.1 else (upd b.2.2.2.2.2.2.2.2.1 1 0)) 0 0)) 2 0)) 3 60), b.2.2.2.2.2.2.2.2.2)
set_option maxRecDepth 20000 in
set_option maxHeartbeats 1000000 in
theorem ct_22_1 {LL : Nat} {xs : Nat → Int32} {D : Nat} {b d k s w : hB} {ik ex pr wd : Int32} {sn : Nat → Int64} {qu tb : Nat → Int32} {ts : Int32} {rd : hRd} {h0 h1 h2 h3 : hSt} {fi : Nat → Int32} {R : List gE} (x0 : Int32) : hM (gO LL xs) (D + 0) zR_22 [.ref 1, .int x0] (hCm b d k s w ik ex pr wd sn qu tb ts rd h0 h1 h2 h3 fi R) none (hCm (f_22_1_b x0 b) d k s w ik ex pr wd sn qu tb ts rd h0 h1 h2 h3 fi R) := by
  refine hX_go 0 0 [some (.ref 1), some (.int x0)] [] (hCm b d k s w ik ex pr wd sn qu tb ts rd h0 h1 h2 h3 fi R) rfl ?_
  refine hX_go 4 (bif gCmp .eq (x0 &&& 1) 0 then 13 else 6) [some (.ref 1), some (.int x0)] [] (hCm b d k s w ik ex pr wd sn qu tb ts rd h0 h1 h2 h3 fi R) rfl ?_
  suffices hk : hX (gO LL xs) (D + 0) zR_22 13 [some (.ref 1), some (.int x0)] [] (hCm (b.1, b.2.1, b.2.2.1, b.2.2.2.1, b.2.2.2.2.1, b.2.2.2.2.2.1, b.2.2.2.2.2.2.1, b.2.2.2.2.2.2.2.1, bif gCmp .eq (x0 &&& 1) 0 then b.2.2.2.2.2.2.2.2.1 else (upd b.2.2.2.2.2.2.2.2.1 1 0), b.2.2.2.2.2.2.2.2.2) d k s w ik ex pr wd sn qu tb ts rd h0 h1 h2 h3 fi R) none (hCm (f_22_1_b x0 b) d k s w ik ex pr wd sn qu tb ts rd h0 h1 h2 h3 fi R) by
    refine hX_if (gCmp .eq (x0 &&& 1) 0) (fun c1 => ?_) (fun c1 => ?_)
    · skip
      have hk := hk
      simp only [c1, cond_true, cond_false] at hk
      first | exact hk | (simp only [c1, cond_true, cond_false]; exact hk)
    · skip
      refine hX_go 5 (13) [some (.ref 1), some (.int x0)] [] (hCm (b.1, b.2.1, b.2.2.1, b.2.2.2.1, b.2.2.2.2.1, b.2.2.2.2.2.1, b.2.2.2.2.2.2.1, b.2.2.2.2.2.2.2.1, upd b.2.2.2.2.2.2.2.2.1 1 0, b.2.2.2.2.2.2.2.2.2) d k s w ik ex pr wd sn qu tb ts rd h0 h1 h2 h3 fi R) rfl ?_
      have hk := hk
      simp only [c1, cond_true, cond_false] at hk
      first | exact hk | (simp only [c1, cond_true, cond_false]; exact hk)
  refine hX_go 4 (bif gCmp .eq (x0 &&& 2) 0 then 26 else 19) [some (.ref 1), some (.int x0)] [] (hCm (b.1, b.2.1, b.2.2.1, b.2.2.2.1, b.2.2.2.2.1, b.2.2.2.2.2.1, b.2.2.2.2.2.2.1, b.2.2.2.2.2.2.2.1, bif gCmp .eq (x0 &&& 1) 0 then b.2.2.2.2.2.2.2.2.1 else (upd b.2.2.2.2.2.2.2.2.1 1 0), b.2.2.2.2.2.2.2.2.2) d k s w ik ex pr wd sn qu tb ts rd h0 h1 h2 h3 fi R) rfl ?_
  suffices hk : hX (gO LL xs) (D + 0) zR_22 26 [some (.ref 1), some (.int x0)] [] (hCm (b.1, b.2.1, b.2.2.1, b.2.2.2.1, b.2.2.2.2.1, b.2.2.2.2.2.1, b.2.2.2.2.2.2.1, b.2.2.2.2.2.2.2.1, bif gCmp .eq (x0 &&& 2) 0 then (bif gCmp .eq (x0 &&& 1) 0 then b.2.2.2.2.2.2.2.2.1 else (upd b.2.2.2.2.2.2.2.2.1 1 0)) else (upd (bif gCmp .eq (x0 &&& 1) 0 then b.2.2.2.2.2.2.2.2.1 else (upd b.2.2.2.2.2.2.2.2.1 1 0)) 0 0), b.2.2.2.2.2.2.2.2.2) d k s w ik ex pr wd sn qu tb ts rd h0 h1 h2 h3 fi R) none (hCm (f_22_1_b x0 b) d k s w ik ex pr wd sn qu tb ts rd h0 h1 h2 h3 fi R) by
    refine hX_if (gCmp .eq (x0 &&& 2) 0) (fun c2 => ?_) (fun c2 => ?_)
    · skip
      have hk := hk
      simp only [c2, cond_true, cond_false] at hk
      first | exact hk | (simp only [c2, cond_true, cond_false]; exact hk)
    · skip
      refine hX_go 5 (26) [some (.ref 1), some (.int x0)] [] (hCm (b.1, b.2.1, b.2.2.1, b.2.2.2.1, b.2.2.2.2.1, b.2.2.2.2.2.1, b.2.2.2.2.2.2.1, b.2.2.2.2.2.2.2.1, upd (bif gCmp .eq (x0 &&& 1) 0 then b.2.2.2.2.2.2.2.2.1 else (upd b.2.2.2.2.2.2.2.2.1 1 0)) 0 0, b.2.2.2.2.2.2.2.2.2) d k s w ik ex pr wd sn qu tb ts rd h0 h1 h2 h3 fi R) rfl ?_
      have hk := hk
      simp only [c2, cond_true, cond_false] at hk
      first | exact hk | (simp only [c2, cond_true, cond_false]; exact hk)
  refine hX_go 4 (bif gCmp .eq (x0 &&& 4) 0 then 39 else 32) [some (.ref 1), some (.int x0)] [] (hCm (b.1, b.2.1, b.2.2.1, b.2.2.2.1, b.2.2.2.2.1, b.2.2.2.2.2.1, b.2.2.2.2.2.2.1, b.2.2.2.2.2.2.2.1, bif gCmp .eq (x0 &&& 2) 0 then (bif gCmp .eq (x0 &&& 1) 0 then b.2.2.2.2.2.2.2.2.1 else (upd b.2.2.2.2.2.2.2.2.1 1 0)) else (upd (bif gCmp .eq (x0 &&& 1) 0 then b.2.2.2.2.2.2.2.2.1 else (upd b.2.2.2.2.2.2.2.2.1 1 0)) 0 0), b.2.2.2.2.2.2.2.2.2) d k s w ik ex pr wd sn qu tb ts rd h0 h1 h2 h3 fi R) rfl ?_
  suffices hk : hX (gO LL xs) (D + 0) zR_22 39 [some (.ref 1), some (.int x0)] [] (hCm (b.1, b.2.1, b.2.2.1, b.2.2.2.1, b.2.2.2.2.1, b.2.2.2.2.2.1, b.2.2.2.2.2.2.1, b.2.2.2.2.2.2.2.1, bif gCmp .eq (x0 &&& 4) 0 then (bif gCmp .eq (x0 &&& 2) 0 then (bif gCmp .eq (x0 &&& 1) 0 then b.2.2.2.2.2.2.2.2.1 else (upd b.2.2.2.2.2.2.2.2.1 1 0)) else (upd (bif gCmp .eq (x0 &&& 1) 0 then b.2.2.2.2.2.2.2.2.1 else (upd b.2.2.2.2.2.2.2.2.1 1 0)) 0 0)) else (upd (bif gCmp .eq (x0 &&& 2) 0 then (bif gCmp .eq (x0 &&& 1) 0 then b.2.2.2.2.2.2.2.2.1 else (upd b.2.2.2.2.2.2.2.2.1 1 0)) else (upd (bif gCmp .eq (x0 &&& 1) 0 then b.2.2.2.2.2.2.2.2.1 else (upd b.2.2.2.2.2.2.2.2.1 1 0)) 0 0)) 2 0), b.2.2.2.2.2.2.2.2.2) d k s w ik ex pr wd sn qu tb ts rd h0 h1 h2 h3 fi R) none (hCm (f_22_1_b x0 b) d k s w ik ex pr wd sn qu tb ts rd h0 h1 h2 h3 fi R) by
    refine hX_if (gCmp .eq (x0 &&& 4) 0) (fun c3 => ?_) (fun c3 => ?_)
    · skip
      have hk := hk
      simp only [c3, cond_true, cond_false] at hk
      first | exact hk | (simp only [c3, cond_true, cond_false]; exact hk)
    · skip
      refine hX_go 5 (39) [some (.ref 1), some (.int x0)] [] (hCm (b.1, b.2.1, b.2.2.1, b.2.2.2.1, b.2.2.2.2.1, b.2.2.2.2.2.1, b.2.2.2.2.2.2.1, b.2.2.2.2.2.2.2.1, upd (bif gCmp .eq (x0 &&& 2) 0 then (bif gCmp .eq (x0 &&& 1) 0 then b.2.2.2.2.2.2.2.2.1 else (upd b.2.2.2.2.2.2.2.2.1 1 0)) else (upd (bif gCmp .eq (x0 &&& 1) 0 then b.2.2.2.2.2.2.2.2.1 else (upd b.2.2.2.2.2.2.2.2.1 1 0)) 0 0)) 2 0, b.2.2.2.2.2.2.2.2.2) d k s w ik ex pr wd sn qu tb ts rd h0 h1 h2 h3 fi R) rfl ?_
      have hk := hk
      simp only [c3, cond_true, cond_false] at hk
      first | exact hk | (simp only [c3, cond_true, cond_false]; exact hk)
  refine hX_go 4 (bif gCmp .eq (x0 &&& 8) 0 then 54 else 46) [some (.ref 1), some (.int x0)] [] (hCm (b.1, b.2.1, b.2.2.1, b.2.2.2.1, b.2.2.2.2.1, b.2.2.2.2.2.1, b.2.2.2.2.2.2.1, b.2.2.2.2.2.2.2.1, bif gCmp .eq (x0 &&& 4) 0 then (bif gCmp .eq (x0 &&& 2) 0 then (bif gCmp .eq (x0 &&& 1) 0 then b.2.2.2.2.2.2.2.2.1 else (upd b.2.2.2.2.2.2.2.2.1 1 0)) else (upd (bif gCmp .eq (x0 &&& 1) 0 then b.2.2.2.2.2.2.2.2.1 else (upd b.2.2.2.2.2.2.2.2.1 1 0)) 0 0)) else (upd (bif gCmp .eq (x0 &&& 2) 0 then (bif gCmp .eq (x0 &&& 1) 0 then b.2.2.2.2.2.2.2.2.1 else (upd b.2.2.2.2.2.2.2.2.1 1 0)) else (upd (bif gCmp .eq (x0 &&& 1) 0 then b.2.2.2.2.2.2.2.2.1 else (upd b.2.2.2.2.2.2.2.2.1 1 0)) 0 0)) 2 0), b.2.2.2.2.2.2.2.2.2) d k s w ik ex pr wd sn qu tb ts rd h0 h1 h2 h3 fi R) rfl ?_
  suffices hk : hX (gO LL xs) (D + 0) zR_22 54 [some (.ref 1), some (.int x0)] [] (hCm (b.1, b.2.1, b.2.2.1, b.2.2.2.1, b.2.2.2.2.1, b.2.2.2.2.2.1, b.2.2.2.2.2.2.1, b.2.2.2.2.2.2.2.1, bif gCmp .eq (x0 &&& 8) 0 then (bif gCmp .eq (x0 &&& 4) 0 then (bif gCmp .eq (x0 &&& 2) 0 then (bif gCmp .eq (x0 &&& 1) 0 then b.2.2.2.2.2.2.2.2.1 else (upd b.2.2.2.2.2.2.2.2.1 1 0)) else (upd (bif gCmp .eq (x0 &&& 1) 0 then b.2.2.2.2.2.2.2.2.1 else (upd b.2.2.2.2.2.2.2.2.1 1 0)) 0 0)) else (upd (bif gCmp .eq (x0 &&& 2) 0 then (bif gCmp .eq (x0 &&& 1) 0 then b.2.2.2.2.2.2.2.2.1 else (upd b.2.2.2.2.2.2.2.2.1 1 0)) else (upd (bif gCmp .eq (x0 &&& 1) 0 then b.2.2.2.2.2.2.2.2.1 else (upd b.2.2.2.2.2.2.2.2.1 1 0)) 0 0)) 2 0)) else (upd (bif gCmp .eq (x0 &&& 4) 0 then (bif gCmp .eq (x0 &&& 2) 0 then (bif gCmp .eq (x0 &&& 1) 0 then b.2.2.2.2.2.2.2.2.1 else (upd b.2.2.2.2.2.2.2.2.1 1 0)) else (upd (bif gCmp .eq (x0 &&& 1) 0 then b.2.2.2.2.2.2.2.2.1 else (upd b.2.2.2.2.2.2.2.2.1 1 0)) 0 0)) else (upd (bif gCmp .eq (x0 &&& 2) 0 then (bif gCmp .eq (x0 &&& 1) 0 then b.2.2.2.2.2.2.2.2.1 else (upd b.2.2.2.2.2.2.2.2.1 1 0)) else (upd (bif gCmp .eq (x0 &&& 1) 0 then b.2.2.2.2.2.2.2.2.1 else (upd b.2.2.2.2.2.2.2.2.1 1 0)) 0 0)) 2 0)) 3 60), b.2.2.2.2.2.2.2.2.2) d k s w ik ex pr wd sn qu tb ts rd h0 h1 h2 h3 fi R) none (hCm (f_22_1_b x0 b) d k s w ik ex pr wd sn qu tb ts rd h0 h1 h2 h3 fi R) by
    refine hX_if (gCmp .eq (x0 &&& 8) 0) (fun c4 => ?_) (fun c4 => ?_)
    · skip
      have hk := hk
      simp only [c4, cond_true, cond_false] at hk
      first | exact hk | (simp only [c4, cond_true, cond_false]; exact hk)
    · skip
      refine hX_go 5 (54) [some (.ref 1), some (.int x0)] [] (hCm (b.1, b.2.1, b.2.2.1, b.2.2.2.1, b.2.2.2.2.1, b.2.2.2.2.2.1, b.2.2.2.2.2.2.1, b.2.2.2.2.2.2.2.1, upd (bif gCmp .eq (x0 &&& 4) 0 then (bif gCmp .eq (x0 &&& 2) 0 then (bif gCmp .eq (x0 &&& 1) 0 then b.2.2.2.2.2.2.2.2.1 else (upd b.2.2.2.2.2.2.2.2.1 1 0)) else (upd (bif gCmp .eq (x0 &&& 1) 0 then b.2.2.2.2.2.2.2.2.1 else (upd b.2.2.2.2.2.2.2.2.1 1 0)) 0 0)) else (upd (bif gCmp .eq (x0 &&& 2) 0 then (bif gCmp .eq (x0 &&& 1) 0 then b.2.2.2.2.2.2.2.2.1 else (upd b.2.2.2.2.2.2.2.2.1 1 0)) else (upd (bif gCmp .eq (x0 &&& 1) 0 then b.2.2.2.2.2.2.2.2.1 else (upd b.2.2.2.2.2.2.2.2.1 1 0)) 0 0)) 2 0)) 3 60, b.2.2.2.2.2.2.2.2.2) d k s w ik ex pr wd sn qu tb ts rd h0 h1 h2 h3 fi R) rfl ?_
      have hk := hk
      simp only [c4, cond_true, cond_false] at hk
      first | exact hk | (simp only [c4, cond_true, cond_false]; exact hk)
  exact hX_end rfl (rfl) (rfl)

/-- UpOneSide.exchange([III)I -/
def v_115_8 (x0 : Int32) (b : hB) : Int32 := b.2.2.2.2.2.2.2.2.2.2.2.1 (Int32.toNatClampNeg x0)
def f_115_8_b (x0 : Int32) (x1 : Int32) (b : hB) : hB := (b.1, b.2.1, b.2.2.1, b.2.2.2.1, b.2.2.2.2.1, b.2.2.2.2.2.1, b.2.2.2.2.2.2.1, b.2.2.2.2.2.2.2.1, b.2.2.2.2.2.2.2.2.1, b.2.2.2.2.2.2.2.2.2.1, b.2.2.2.2.2.2.2.2.2.2.1, upd b.2.2.2.2.2.2.2.2.2.2.2.1 (Int32.toNatClampNeg x0) x1, b.2.2.2.2.2.2.2.2.2.2.2.2)
set_option maxRecDepth 20000 in
set_option maxHeartbeats 1000000 in
theorem ct_115_8 {LL : Nat} {xs : Nat → Int32} {D : Nat} {b d k s w : hB} {ik ex pr wd : Int32} {sn : Nat → Int64} {qu tb : Nat → Int32} {ts : Int32} {rd : hRd} {h0 h1 h2 h3 : hSt} {fi : Nat → Int32} {R : List gE} (x0 : Int32) (x1 : Int32) (o1 : gIn x0 24 = true) : hM (gO LL xs) (D + 0) zR_115 [.ref 8, .int x0, .int x1] (hCm b d k s w ik ex pr wd sn qu tb ts rd h0 h1 h2 h3 fi R) (some (.int (v_115_8 x0 b))) (hCm (f_115_8_b x0 x1 b) d k s w ik ex pr wd sn qu tb ts rd h0 h1 h2 h3 fi R) := by
  refine hX_go 0 0 [some (.ref 8), some (.int x0), some (.int x1), none] [] (hCm b d k s w ik ex pr wd sn qu tb ts rd h0 h1 h2 h3 fi R) rfl ?_
  refine hX_go 2 (2) [some (.ref 8), some (.int x0), some (.int x1), none] [.int x0, .ref 8] (hCm b d k s w ik ex pr wd sn qu tb ts rd h0 h1 h2 h3 fi R) rfl ?_
  refine hX_g (gIn x0 24) 3 [some (.ref 8), some (.int x0), some (.int x1), none] [.int (b.2.2.2.2.2.2.2.2.2.2.2.1 (Int32.toNatClampNeg x0))] (hCm b d k s w ik ex pr wd sn qu tb ts rd h0 h1 h2 h3 fi R) rfl o1 ?_
  refine hX_go 4 (7) [some (.ref 8), some (.int x0), some (.int x1), some (.int (b.2.2.2.2.2.2.2.2.2.2.2.1 (Int32.toNatClampNeg x0)))] [.int x1, .int x0, .ref 8] (hCm b d k s w ik ex pr wd sn qu tb ts rd h0 h1 h2 h3 fi R) rfl ?_
  refine hX_g (gIn x0 24) 8 [some (.ref 8), some (.int x0), some (.int x1), some (.int (b.2.2.2.2.2.2.2.2.2.2.2.1 (Int32.toNatClampNeg x0)))] [] (hCm (b.1, b.2.1, b.2.2.1, b.2.2.2.1, b.2.2.2.2.1, b.2.2.2.2.2.1, b.2.2.2.2.2.2.1, b.2.2.2.2.2.2.2.1, b.2.2.2.2.2.2.2.2.1, b.2.2.2.2.2.2.2.2.2.1, b.2.2.2.2.2.2.2.2.2.2.1, upd b.2.2.2.2.2.2.2.2.2.2.2.1 (Int32.toNatClampNeg x0) x1, b.2.2.2.2.2.2.2.2.2.2.2.2) d k s w ik ex pr wd sn qu tb ts rd h0 h1 h2 h3 fi R) rfl o1 ?_
  refine hX_go 1 (9) [some (.ref 8), some (.int x0), some (.int x1), some (.int (b.2.2.2.2.2.2.2.2.2.2.2.1 (Int32.toNatClampNeg x0)))] [.int (b.2.2.2.2.2.2.2.2.2.2.2.1 (Int32.toNatClampNeg x0))] (hCm (b.1, b.2.1, b.2.2.1, b.2.2.2.1, b.2.2.2.2.1, b.2.2.2.2.2.1, b.2.2.2.2.2.2.1, b.2.2.2.2.2.2.2.1, b.2.2.2.2.2.2.2.2.1, b.2.2.2.2.2.2.2.2.2.1, b.2.2.2.2.2.2.2.2.2.2.1, upd b.2.2.2.2.2.2.2.2.2.2.2.1 (Int32.toNatClampNeg x0) x1, b.2.2.2.2.2.2.2.2.2.2.2.2) d k s w ik ex pr wd sn qu tb ts rd h0 h1 h2 h3 fi R) rfl ?_
  exact hX_end rfl (rfl) (rfl)

/-- UpOneSide.sun(II)I -/
def v_85_0 (x0 : Int32) (x1 : Int32) (b : hB) : Int32 := bif gCmp .eq (v_112 x0 0 23) 0 then (v_111_0 0) else (bif gCmp .ne (v_112 x1 0 60) 0 then (v_115_8 x0 b) else (v_111_0 0))
def f_85_0_b (x0 : Int32) (x1 : Int32) (b : hB) : hB := bif gCmp .eq (v_112 x0 0 23) 0 then b else (bif gCmp .ne (v_112 x1 0 60) 0 then (f_115_8_b x0 x1 b) else b)
def f_85_0_fi (x0 : Int32) (x1 : Int32) (fi : Nat → Int32) : Nat → Int32 := bif gCmp .eq (v_112 x0 0 23) 0 then (f_111_0_fi 0 fi) else (bif gCmp .ne (v_112 x1 0 60) 0 then fi else (f_111_0_fi 0 fi))
set_option maxRecDepth 20000 in
set_option maxHeartbeats 1000000 in
theorem ct_85_0 {LL : Nat} {xs : Nat → Int32} {D : Nat} {b d k s w : hB} {ik ex pr wd : Int32} {sn : Nat → Int64} {qu tb : Nat → Int32} {ts : Int32} {rd : hRd} {h0 h1 h2 h3 : hSt} {fi : Nat → Int32} {R : List gE} (x0 : Int32) (x1 : Int32) (o1 : gCmp .eq (v_112 x0 0 23) 0 = true → gIn 0 7 = true) (o2 : gCmp .eq (v_112 x0 0 23) 0 = false → gCmp .ne (v_112 x1 0 60) 0 = true → gIn x0 24 = true) (o3 : gCmp .eq (v_112 x0 0 23) 0 = false → gCmp .ne (v_112 x1 0 60) 0 = false → gIn 0 7 = true) : hM (gO LL xs) (D + 1) zR_85 [.ref 0, .int x0, .int x1] (hCm b d k s w ik ex pr wd sn qu tb ts rd h0 h1 h2 h3 fi R) (some (.int (v_85_0 x0 x1 b))) (hCm (f_85_0_b x0 x1 b) d k s w ik ex pr wd sn qu tb ts rd h0 h1 h2 h3 (f_85_0_fi x0 x1 fi) R) := by
  refine hX_go 0 0 [some (.ref 0), some (.int x0), some (.int x1)] [] (hCm b d k s w ik ex pr wd sn qu tb ts rd h0 h1 h2 h3 fi R) rfl ?_
  refine hX_go 3 (4) [some (.ref 0), some (.int x0), some (.int x1)] [.int 23, .int 0, .int x0] (hCm b d k s w ik ex pr wd sn qu tb ts rd h0 h1 h2 h3 fi R) rfl ?_
  refine hX_call (r' := zR_112) rfl (ct_112 x0 0 23) ?_
  refine hX_go 1 (bif gCmp .eq (v_112 x0 0 23) 0 then 20 else 10) [some (.ref 0), some (.int x0), some (.int x1)] [] (hCm b d k s w ik ex pr wd sn qu tb ts rd h0 h1 h2 h3 fi R) rfl ?_
  refine hX_if (gCmp .eq (v_112 x0 0 23) 0) (fun c1 => ?_) (fun c1 => ?_)
  · skip
    refine hX_go 2 (22) [some (.ref 0), some (.int x0), some (.int x1)] [.int 0, .ref 0] (hCm b d k s w ik ex pr wd sn qu tb ts rd h0 h1 h2 h3 fi R) rfl ?_
    refine hX_call (r' := zR_111) rfl (ct_111_0 0 (o1 c1)) ?_
    refine hX_go 0 (25) [some (.ref 0), some (.int x0), some (.int x1)] [.int (v_111_0 0)] (hCm b d k s w ik ex pr wd sn qu tb ts rd h0 h1 h2 h3 (f_111_0_fi 0 fi) R) rfl ?_
    exact hX_end rfl (by unfold v_85_0; rw [c1]; rfl) (by unfold f_85_0_b; rw [c1]; unfold f_85_0_fi; rw [c1]; rfl)
  · skip
    refine hX_go 3 (14) [some (.ref 0), some (.int x0), some (.int x1)] [.int 60, .int 0, .int x1] (hCm b d k s w ik ex pr wd sn qu tb ts rd h0 h1 h2 h3 fi R) rfl ?_
    refine hX_call (r' := zR_112) rfl (ct_112 x1 0 60) ?_
    refine hX_go 1 (bif gCmp .ne (v_112 x1 0 60) 0 then 26 else 20) [some (.ref 0), some (.int x0), some (.int x1)] [] (hCm b d k s w ik ex pr wd sn qu tb ts rd h0 h1 h2 h3 fi R) rfl ?_
    refine hX_if (gCmp .ne (v_112 x1 0 60) 0) (fun c2 => ?_) (fun c2 => ?_)
    · skip
      refine hX_go 5 (35) [some (.ref 0), some (.int x0), some (.int x1)] [.int x1, .int x0, .ref 8] (hCm b d k s w ik ex pr wd sn qu tb ts rd h0 h1 h2 h3 fi R) rfl ?_
      refine hX_call (r' := zR_115) rfl (ct_115_8 x0 x1 (o2 c1 c2)) ?_
      refine hX_go 0 (38) [some (.ref 0), some (.int x0), some (.int x1)] [.int (v_115_8 x0 b)] (hCm (f_115_8_b x0 x1 b) d k s w ik ex pr wd sn qu tb ts rd h0 h1 h2 h3 fi R) rfl ?_
      exact hX_end rfl (by unfold v_85_0; rw [c1, c2]; rfl) (by unfold f_85_0_b; rw [c1, c2]; unfold f_85_0_fi; rw [c1, c2]; rfl)
    · skip
      refine hX_go 2 (22) [some (.ref 0), some (.int x0), some (.int x1)] [.int 0, .ref 0] (hCm b d k s w ik ex pr wd sn qu tb ts rd h0 h1 h2 h3 fi R) rfl ?_
      refine hX_call (r' := zR_111) rfl (ct_111_0 0 (o3 c1 c2)) ?_
      refine hX_go 0 (25) [some (.ref 0), some (.int x0), some (.int x1)] [.int (v_111_0 0)] (hCm b d k s w ik ex pr wd sn qu tb ts rd h0 h1 h2 h3 (f_111_0_fi 0 fi) R) rfl ?_
      exact hX_end rfl (by unfold v_85_0; rw [c1, c2]; rfl) (by unfold f_85_0_b; rw [c1, c2]; unfold f_85_0_fi; rw [c1, c2]; rfl)

/-- UpOneSide$Blind.lightAt(I)I -/
def v_25_1 (x0 : Int32) (b : hB) : Int32 := (if 0 < (b.1 - (b.2.2.2.2.2.2.2.2.2.2.2.1 (Int32.toNatClampNeg x0))) then (b.1 - (b.2.2.2.2.2.2.2.2.2.2.2.1 (Int32.toNatClampNeg x0))) else 0) + (if 0 < (b.2.1 - (b.2.2.2.2.2.2.2.2.2.2.2.1 (Int32.toNatClampNeg x0))) then (b.2.1 - (b.2.2.2.2.2.2.2.2.2.2.2.1 (Int32.toNatClampNeg x0))) else 0)
set_option maxRecDepth 20000 in
set_option maxHeartbeats 1000000 in
theorem ct_25_1 {LL : Nat} {xs : Nat → Int32} {D : Nat} {b d k s w : hB} {ik ex pr wd : Int32} {sn : Nat → Int64} {qu tb : Nat → Int32} {ts : Int32} {rd : hRd} {h0 h1 h2 h3 : hSt} {fi : Nat → Int32} {R : List gE} (x0 : Int32) (o1 : gIn x0 24 = true) : hM (gO LL xs) (D + 1) zR_25 [.ref 1, .int x0] (hCm b d k s w ik ex pr wd sn qu tb ts rd h0 h1 h2 h3 fi R) (some (.int (v_25_1 x0 b))) (hCm b d k s w ik ex pr wd sn qu tb ts rd h0 h1 h2 h3 fi R) := by
  refine hX_go 0 0 [some (.ref 1), some (.int x0)] [] (hCm b d k s w ik ex pr wd sn qu tb ts rd h0 h1 h2 h3 fi R) rfl ?_
  refine hX_go 6 (10) [some (.ref 1), some (.int x0)] [.int x0, .ref 8, .int b.1, .int 0] (hCm b d k s w ik ex pr wd sn qu tb ts rd h0 h1 h2 h3 fi R) rfl ?_
  refine hX_g (gIn x0 24) 11 [some (.ref 1), some (.int x0)] [.int (b.2.2.2.2.2.2.2.2.2.2.2.1 (Int32.toNatClampNeg x0)), .int b.1, .int 0] (hCm b d k s w ik ex pr wd sn qu tb ts rd h0 h1 h2 h3 fi R) rfl o1 ?_
  refine hX_go 8 (25) [some (.ref 1), some (.int x0)] [.int x0, .ref 8, .int b.2.1, .int 0, .int (if 0 < (b.1 - (b.2.2.2.2.2.2.2.2.2.2.2.1 (Int32.toNatClampNeg x0))) then (b.1 - (b.2.2.2.2.2.2.2.2.2.2.2.1 (Int32.toNatClampNeg x0))) else 0)] (hCm b d k s w ik ex pr wd sn qu tb ts rd h0 h1 h2 h3 fi R) rfl ?_
  refine hX_g (gIn x0 24) 26 [some (.ref 1), some (.int x0)] [.int (b.2.2.2.2.2.2.2.2.2.2.2.1 (Int32.toNatClampNeg x0)), .int b.2.1, .int 0, .int (if 0 < (b.1 - (b.2.2.2.2.2.2.2.2.2.2.2.1 (Int32.toNatClampNeg x0))) then (b.1 - (b.2.2.2.2.2.2.2.2.2.2.2.1 (Int32.toNatClampNeg x0))) else 0)] (hCm b d k s w ik ex pr wd sn qu tb ts rd h0 h1 h2 h3 fi R) rfl o1 ?_
  refine hX_go 3 (31) [some (.ref 1), some (.int x0)] [.int ((if 0 < (b.1 - (b.2.2.2.2.2.2.2.2.2.2.2.1 (Int32.toNatClampNeg x0))) then (b.1 - (b.2.2.2.2.2.2.2.2.2.2.2.1 (Int32.toNatClampNeg x0))) else 0) + (if 0 < (b.2.1 - (b.2.2.2.2.2.2.2.2.2.2.2.1 (Int32.toNatClampNeg x0))) then (b.2.1 - (b.2.2.2.2.2.2.2.2.2.2.2.1 (Int32.toNatClampNeg x0))) else 0))] (hCm b d k s w ik ex pr wd sn qu tb ts rd h0 h1 h2 h3 fi R) rfl ?_
  exact hX_end rfl (rfl) (rfl)

/-- UpOneSide$Blind.dazzles(I)Z -/
def v_24_1 (x0 : Int32) (b : hB) : Int32 := bif gCmp .le b.2.1 (b.2.2.2.2.2.2.2.2.2.2.2.1 (Int32.toNatClampNeg x0)) then 0 else (bif gCmp .lt (b.2.2.2.2.2.2.2.2.2.2.2.1 (Int32.toNatClampNeg x0)) (b.2.2.2.2.2.2.2.2.1 5) then 0 else 1)
set_option maxRecDepth 20000 in
set_option maxHeartbeats 1000000 in
theorem ct_24_1 {LL : Nat} {xs : Nat → Int32} {D : Nat} {b d k s w : hB} {ik ex pr wd : Int32} {sn : Nat → Int64} {qu tb : Nat → Int32} {ts : Int32} {rd : hRd} {h0 h1 h2 h3 : hSt} {fi : Nat → Int32} {R : List gE} (x0 : Int32) (o1 : gIn x0 24 = true) : hM (gO LL xs) (D + 0) zR_24 [.ref 1, .int x0] (hCm b d k s w ik ex pr wd sn qu tb ts rd h0 h1 h2 h3 fi R) (some (.int (v_24_1 x0 b))) (hCm b d k s w ik ex pr wd sn qu tb ts rd h0 h1 h2 h3 fi R) := by
  refine hX_go 0 0 [some (.ref 1), some (.int x0)] [] (hCm b d k s w ik ex pr wd sn qu tb ts rd h0 h1 h2 h3 fi R) rfl ?_
  refine hX_go 5 (9) [some (.ref 1), some (.int x0)] [.int x0, .ref 8, .int b.2.1] (hCm b d k s w ik ex pr wd sn qu tb ts rd h0 h1 h2 h3 fi R) rfl ?_
  refine hX_g (gIn x0 24) 10 [some (.ref 1), some (.int x0)] [.int (b.2.2.2.2.2.2.2.2.2.2.2.1 (Int32.toNatClampNeg x0)), .int b.2.1] (hCm b d k s w ik ex pr wd sn qu tb ts rd h0 h1 h2 h3 fi R) rfl o1 ?_
  refine hX_go 1 (bif gCmp .le b.2.1 (b.2.2.2.2.2.2.2.2.2.2.2.1 (Int32.toNatClampNeg x0)) then 32 else 13) [some (.ref 1), some (.int x0)] [] (hCm b d k s w ik ex pr wd sn qu tb ts rd h0 h1 h2 h3 fi R) rfl ?_
  refine hX_if (gCmp .le b.2.1 (b.2.2.2.2.2.2.2.2.2.2.2.1 (Int32.toNatClampNeg x0))) (fun c1 => ?_) (fun c1 => ?_)
  · skip
    refine hX_go 1 (33) [some (.ref 1), some (.int x0)] [.int 0] (hCm b d k s w ik ex pr wd sn qu tb ts rd h0 h1 h2 h3 fi R) rfl ?_
    exact hX_end rfl (by unfold v_24_1; rw [c1]; rfl) (rfl)
  · skip
    refine hX_go 3 (18) [some (.ref 1), some (.int x0)] [.int x0, .ref 8] (hCm b d k s w ik ex pr wd sn qu tb ts rd h0 h1 h2 h3 fi R) rfl ?_
    refine hX_g (gIn x0 24) 19 [some (.ref 1), some (.int x0)] [.int (b.2.2.2.2.2.2.2.2.2.2.2.1 (Int32.toNatClampNeg x0))] (hCm b d k s w ik ex pr wd sn qu tb ts rd h0 h1 h2 h3 fi R) rfl o1 ?_
    refine hX_go 5 (bif gCmp .lt (b.2.2.2.2.2.2.2.2.2.2.2.1 (Int32.toNatClampNeg x0)) (b.2.2.2.2.2.2.2.2.1 5) then 32 else 28) [some (.ref 1), some (.int x0)] [] (hCm b d k s w ik ex pr wd sn qu tb ts rd h0 h1 h2 h3 fi R) rfl ?_
    refine hX_if (gCmp .lt (b.2.2.2.2.2.2.2.2.2.2.2.1 (Int32.toNatClampNeg x0)) (b.2.2.2.2.2.2.2.2.1 5)) (fun c2 => ?_) (fun c2 => ?_)
    · skip
      refine hX_go 1 (33) [some (.ref 1), some (.int x0)] [.int 0] (hCm b d k s w ik ex pr wd sn qu tb ts rd h0 h1 h2 h3 fi R) rfl ?_
      exact hX_end rfl (by unfold v_24_1; rw [c1, c2]; rfl) (rfl)
    · skip
      refine hX_go 2 (33) [some (.ref 1), some (.int x0)] [.int 1] (hCm b d k s w ik ex pr wd sn qu tb ts rd h0 h1 h2 h3 fi R) rfl ?_
      exact hX_end rfl (by unfold v_24_1; rw [c1, c2]; rfl) (rfl)

theorem bz_24_1 (x0 : Int32) (b : hB) : (decide (v_24_1 x0 b = 0) || decide (v_24_1 x0 b = 1)) = true := by
  unfold v_24_1
  cases (gCmp .le b.2.1 (b.2.2.2.2.2.2.2.2.2.2.2.1 (Int32.toNatClampNeg x0)))
  · cases (gCmp .lt (b.2.2.2.2.2.2.2.2.2.2.2.1 (Int32.toNatClampNeg x0)) (b.2.2.2.2.2.2.2.2.1 5))
    · rfl
    · rfl
  · rfl

/-- UpOneSide.hour(II)I -/
def v_86_0 (x0 : Int32) (x1 : Int32) (b : hB) : Int32 := bif gCmp .eq (v_112 x0 0 23) 0 then (v_111_0 0) else (bif gCmp .ne (v_112 x1 0 2) 0 then (bif gCmp .ne x1 0 then (bif gCmp .ne x1 1 then (v_25_1 x0 b) else (bif gCmp .eq (v_24_1 x0 b) 0 then 0 else 1)) else (b.2.2.2.2.2.2.2.2.2.2.2.1 (Int32.toNatClampNeg x0))) else (v_111_0 0))
def f_86_0_fi (x0 : Int32) (x1 : Int32) (fi : Nat → Int32) : Nat → Int32 := bif gCmp .eq (v_112 x0 0 23) 0 then (f_111_0_fi 0 fi) else (bif gCmp .ne (v_112 x1 0 2) 0 then fi else (f_111_0_fi 0 fi))
set_option maxRecDepth 20000 in
set_option maxHeartbeats 1000000 in
theorem ct_86_0 {LL : Nat} {xs : Nat → Int32} {D : Nat} {b d k s w : hB} {ik ex pr wd : Int32} {sn : Nat → Int64} {qu tb : Nat → Int32} {ts : Int32} {rd : hRd} {h0 h1 h2 h3 : hSt} {fi : Nat → Int32} {R : List gE} (x0 : Int32) (x1 : Int32) (o1 : gCmp .eq (v_112 x0 0 23) 0 = true → gIn 0 7 = true) (o2 : gCmp .eq (v_112 x0 0 23) 0 = false → gCmp .ne (v_112 x1 0 2) 0 = true → gCmp .ne x1 0 = true → gCmp .ne x1 1 = true → gIn x0 24 = true) (o3 : gCmp .eq (v_112 x0 0 23) 0 = false → gCmp .ne (v_112 x1 0 2) 0 = true → gCmp .ne x1 0 = true → gCmp .ne x1 1 = false → gIn x0 24 = true) (o4 : gCmp .eq (v_112 x0 0 23) 0 = false → gCmp .ne (v_112 x1 0 2) 0 = true → gCmp .ne x1 0 = false → gIn x0 24 = true) (o5 : gCmp .eq (v_112 x0 0 23) 0 = false → gCmp .ne (v_112 x1 0 2) 0 = false → gIn 0 7 = true) : hM (gO LL xs) (D + 2) zR_86 [.ref 0, .int x0, .int x1] (hCm b d k s w ik ex pr wd sn qu tb ts rd h0 h1 h2 h3 fi R) (some (.int (v_86_0 x0 x1 b))) (hCm b d k s w ik ex pr wd sn qu tb ts rd h0 h1 h2 h3 (f_86_0_fi x0 x1 fi) R) := by
  refine hX_go 0 0 [some (.ref 0), some (.int x0), some (.int x1)] [] (hCm b d k s w ik ex pr wd sn qu tb ts rd h0 h1 h2 h3 fi R) rfl ?_
  refine hX_go 3 (4) [some (.ref 0), some (.int x0), some (.int x1)] [.int 23, .int 0, .int x0] (hCm b d k s w ik ex pr wd sn qu tb ts rd h0 h1 h2 h3 fi R) rfl ?_
  refine hX_call (r' := zR_112) rfl (ct_112 x0 0 23) ?_
  refine hX_go 1 (bif gCmp .eq (v_112 x0 0 23) 0 then 19 else 10) [some (.ref 0), some (.int x0), some (.int x1)] [] (hCm b d k s w ik ex pr wd sn qu tb ts rd h0 h1 h2 h3 fi R) rfl ?_
  refine hX_if (gCmp .eq (v_112 x0 0 23) 0) (fun c1 => ?_) (fun c1 => ?_)
  · skip
    refine hX_go 2 (21) [some (.ref 0), some (.int x0), some (.int x1)] [.int 0, .ref 0] (hCm b d k s w ik ex pr wd sn qu tb ts rd h0 h1 h2 h3 fi R) rfl ?_
    refine hX_call (r' := zR_111) rfl (ct_111_0 0 (o1 c1)) ?_
    refine hX_go 0 (24) [some (.ref 0), some (.int x0), some (.int x1)] [.int (v_111_0 0)] (hCm b d k s w ik ex pr wd sn qu tb ts rd h0 h1 h2 h3 (f_111_0_fi 0 fi) R) rfl ?_
    exact hX_end rfl (by unfold v_86_0; rw [c1]; rfl) (by unfold f_86_0_fi; rw [c1]; rfl)
  · skip
    refine hX_go 3 (13) [some (.ref 0), some (.int x0), some (.int x1)] [.int 2, .int 0, .int x1] (hCm b d k s w ik ex pr wd sn qu tb ts rd h0 h1 h2 h3 fi R) rfl ?_
    refine hX_call (r' := zR_112) rfl (ct_112 x1 0 2) ?_
    refine hX_go 1 (bif gCmp .ne (v_112 x1 0 2) 0 then 25 else 19) [some (.ref 0), some (.int x0), some (.int x1)] [] (hCm b d k s w ik ex pr wd sn qu tb ts rd h0 h1 h2 h3 fi R) rfl ?_
    refine hX_if (gCmp .ne (v_112 x1 0 2) 0) (fun c2 => ?_) (fun c2 => ?_)
    · skip
      refine hX_go 2 (bif gCmp .ne x1 0 then 39 else 29) [some (.ref 0), some (.int x0), some (.int x1)] [] (hCm b d k s w ik ex pr wd sn qu tb ts rd h0 h1 h2 h3 fi R) rfl ?_
      refine hX_if (gCmp .ne x1 0) (fun c3 => ?_) (fun c3 => ?_)
      · skip
        refine hX_go 3 (bif gCmp .ne x1 1 then 61 else 44) [some (.ref 0), some (.int x0), some (.int x1)] [] (hCm b d k s w ik ex pr wd sn qu tb ts rd h0 h1 h2 h3 fi R) rfl ?_
        refine hX_if (gCmp .ne x1 1) (fun c4 => ?_) (fun c4 => ?_)
        · skip
          refine hX_go 3 (66) [some (.ref 0), some (.int x0), some (.int x1)] [.int x0, .ref 1] (hCm b d k s w ik ex pr wd sn qu tb ts rd h0 h1 h2 h3 fi R) rfl ?_
          refine hX_call (r' := zR_25) rfl (ct_25_1 x0 (o2 c1 c2 c3 c4)) ?_
          refine hX_go 0 (69) [some (.ref 0), some (.int x0), some (.int x1)] [.int (v_25_1 x0 b)] (hCm b d k s w ik ex pr wd sn qu tb ts rd h0 h1 h2 h3 fi R) rfl ?_
          exact hX_end rfl (by unfold v_86_0; rw [c1, c2, c3, c4]; rfl) (by unfold f_86_0_fi; rw [c1, c2]; rfl)
        · skip
          refine hX_go 3 (49) [some (.ref 0), some (.int x0), some (.int x1)] [.int x0, .ref 1] (hCm b d k s w ik ex pr wd sn qu tb ts rd h0 h1 h2 h3 fi R) rfl ?_
          refine hX_call (r' := zR_24) rfl (ct_24_1 x0 (o3 c1 c2 c3 c4)) ?_
          refine hX_go 1 (bif gCmp .eq (v_24_1 x0 b) 0 then 59 else 55) [some (.ref 0), some (.int x0), some (.int x1)] [] (hCm b d k s w ik ex pr wd sn qu tb ts rd h0 h1 h2 h3 fi R) rfl ?_
          suffices hk : hX (gO LL xs) (D + 2) zR_86 60 [some (.ref 0), some (.int x0), some (.int x1)] [.int (bif gCmp .eq (v_24_1 x0 b) 0 then 0 else 1)] (hCm b d k s w ik ex pr wd sn qu tb ts rd h0 h1 h2 h3 fi R) (some (.int (v_86_0 x0 x1 b))) (hCm b d k s w ik ex pr wd sn qu tb ts rd h0 h1 h2 h3 (f_86_0_fi x0 x1 fi) R) by
            refine hX_if (gCmp .eq (v_24_1 x0 b) 0) (fun c5 => ?_) (fun c5 => ?_)
            · skip
              refine hX_go 1 (60) [some (.ref 0), some (.int x0), some (.int x1)] [.int 0] (hCm b d k s w ik ex pr wd sn qu tb ts rd h0 h1 h2 h3 fi R) rfl ?_
              have hk := hk
              simp only [c5, cond_true, cond_false] at hk
              first | exact hk | (simp only [c5, cond_true, cond_false]; exact hk)
            · skip
              refine hX_go 2 (60) [some (.ref 0), some (.int x0), some (.int x1)] [.int 1] (hCm b d k s w ik ex pr wd sn qu tb ts rd h0 h1 h2 h3 fi R) rfl ?_
              have hk := hk
              simp only [c5, cond_true, cond_false] at hk
              first | exact hk | (simp only [c5, cond_true, cond_false]; exact hk)
          exact hX_end rfl (by unfold v_86_0; rw [c1, c2, c3, c4]; rfl) (by unfold f_86_0_fi; rw [c1, c2]; rfl)
      · skip
        refine hX_go 4 (37) [some (.ref 0), some (.int x0), some (.int x1)] [.int x0, .ref 8] (hCm b d k s w ik ex pr wd sn qu tb ts rd h0 h1 h2 h3 fi R) rfl ?_
        refine hX_g (gIn x0 24) 38 [some (.ref 0), some (.int x0), some (.int x1)] [.int (b.2.2.2.2.2.2.2.2.2.2.2.1 (Int32.toNatClampNeg x0))] (hCm b d k s w ik ex pr wd sn qu tb ts rd h0 h1 h2 h3 fi R) rfl (o4 c1 c2 c3) ?_
        exact hX_end rfl (by unfold v_86_0; rw [c1, c2, c3]; rfl) (by unfold f_86_0_fi; rw [c1, c2]; rfl)
    · skip
      refine hX_go 2 (21) [some (.ref 0), some (.int x0), some (.int x1)] [.int 0, .ref 0] (hCm b d k s w ik ex pr wd sn qu tb ts rd h0 h1 h2 h3 fi R) rfl ?_
      refine hX_call (r' := zR_111) rfl (ct_111_0 0 (o5 c1 c2)) ?_
      refine hX_go 0 (24) [some (.ref 0), some (.int x0), some (.int x1)] [.int (v_111_0 0)] (hCm b d k s w ik ex pr wd sn qu tb ts rd h0 h1 h2 h3 (f_111_0_fi 0 fi) R) rfl ?_
      exact hX_end rfl (by unfold v_86_0; rw [c1, c2]; rfl) (by unfold f_86_0_fi; rw [c1, c2]; rfl)

/-- UpOneSide$Blind.oddsToHold()I -/
def v_27_1 (b : hB) : Int32 := if 0 < (10000 - ((b.2.2.2.2.2.2.2.2.1 4) * (b.2.2.2.2.2.2.2.2.2.2.1 (Int32.toNatClampNeg b.1)))) then (10000 - ((b.2.2.2.2.2.2.2.2.1 4) * (b.2.2.2.2.2.2.2.2.2.2.1 (Int32.toNatClampNeg b.1)))) else 0
set_option maxRecDepth 20000 in
set_option maxHeartbeats 1000000 in
theorem ct_27_1 {LL : Nat} {xs : Nat → Int32} {D : Nat} {b d k s w : hB} {ik ex pr wd : Int32} {sn : Nat → Int64} {qu tb : Nat → Int32} {ts : Int32} {rd : hRd} {h0 h1 h2 h3 : hSt} {fi : Nat → Int32} {R : List gE} (o1 : gIn b.1 61 = true) : hM (gO LL xs) (D + 1) zR_27 [.ref 1] (hCm b d k s w ik ex pr wd sn qu tb ts rd h0 h1 h2 h3 fi R) (some (.int (v_27_1 b))) (hCm b d k s w ik ex pr wd sn qu tb ts rd h0 h1 h2 h3 fi R) := by
  refine hX_go 0 0 [some (.ref 1)] [] (hCm b d k s w ik ex pr wd sn qu tb ts rd h0 h1 h2 h3 fi R) rfl ?_
  refine hX_go 9 (15) [some (.ref 1)] [.ref 1, .ref 7, .int (b.2.2.2.2.2.2.2.2.1 4), .int 10000, .int 0] (hCm b d k s w ik ex pr wd sn qu tb ts rd h0 h1 h2 h3 fi R) rfl ?_
  refine hX_go 1 (18) [some (.ref 1)] [.int b.1, .ref 7, .int (b.2.2.2.2.2.2.2.2.1 4), .int 10000, .int 0] (hCm b d k s w ik ex pr wd sn qu tb ts rd h0 h1 h2 h3 fi R) rfl ?_
  refine hX_g (gIn b.1 61) 19 [some (.ref 1)] [.int (b.2.2.2.2.2.2.2.2.2.2.1 (Int32.toNatClampNeg b.1)), .int (b.2.2.2.2.2.2.2.2.1 4), .int 10000, .int 0] (hCm b d k s w ik ex pr wd sn qu tb ts rd h0 h1 h2 h3 fi R) rfl o1 ?_
  refine hX_go 3 (24) [some (.ref 1)] [.int (if 0 < (10000 - ((b.2.2.2.2.2.2.2.2.1 4) * (b.2.2.2.2.2.2.2.2.2.2.1 (Int32.toNatClampNeg b.1)))) then (10000 - ((b.2.2.2.2.2.2.2.2.1 4) * (b.2.2.2.2.2.2.2.2.2.2.1 (Int32.toNatClampNeg b.1)))) else 0)] (hCm b d k s w ik ex pr wd sn qu tb ts rd h0 h1 h2 h3 fi R) rfl ?_
  exact hX_end rfl (rfl) (rfl)

/-- UpOneSide.seed(I)I -/
def f_95_0_b (x0 : Int32) (b : hB) : hB := (b.1, b.2.1, b.2.2.1, x0, b.2.2.2.2)
set_option maxRecDepth 20000 in
set_option maxHeartbeats 1000000 in
theorem ct_95_0 {LL : Nat} {xs : Nat → Int32} {D : Nat} {b d k s w : hB} {ik ex pr wd : Int32} {sn : Nat → Int64} {qu tb : Nat → Int32} {ts : Int32} {rd : hRd} {h0 h1 h2 h3 : hSt} {fi : Nat → Int32} {R : List gE} (x0 : Int32) : hM (gO LL xs) (D + 0) zR_95 [.ref 0, .int x0] (hCm b d k s w ik ex pr wd sn qu tb ts rd h0 h1 h2 h3 fi R) (some (.int b.2.2.2.1)) (hCm (f_95_0_b x0 b) d k s w ik ex pr wd sn qu tb ts rd h0 h1 h2 h3 fi R) := by
  refine hX_go 0 0 [some (.ref 0), some (.int x0), none] [] (hCm b d k s w ik ex pr wd sn qu tb ts rd h0 h1 h2 h3 fi R) rfl ?_
  refine hX_go 9 (17) [some (.ref 0), some (.int x0), some (.int b.2.2.2.1)] [.int b.2.2.2.1] (hCm (b.1, b.2.1, b.2.2.1, x0, b.2.2.2.2) d k s w ik ex pr wd sn qu tb ts rd h0 h1 h2 h3 fi R) rfl ?_
  exact hX_end rfl (rfl) (rfl)

/-- UpOneSide.wipe()I -/
def f_97_0_ts : Int32 := 0
set_option maxRecDepth 20000 in
set_option maxHeartbeats 1000000 in
theorem ct_97_0 {LL : Nat} {xs : Nat → Int32} {D : Nat} {b d k s w : hB} {ik ex pr wd : Int32} {sn : Nat → Int64} {qu tb : Nat → Int32} {ts : Int32} {rd : hRd} {h0 h1 h2 h3 : hSt} {fi : Nat → Int32} {R : List gE} : hM (gO LL xs) (D + 0) zR_97 [.ref 0] (hCm b d k s w ik ex pr wd sn qu tb ts rd h0 h1 h2 h3 fi R) (some (.int ts)) (hCm b d k s w ik ex pr wd sn qu tb f_97_0_ts rd h0 h1 h2 h3 fi R) := by
  refine hX_go 0 0 [some (.ref 0), none] [] (hCm b d k s w ik ex pr wd sn qu tb ts rd h0 h1 h2 h3 fi R) rfl ?_
  refine hX_go 9 (17) [some (.ref 0), some (.int ts)] [.int ts] (hCm b d k s w ik ex pr wd sn qu tb 0 rd h0 h1 h2 h3 fi R) rfl ?_
  exact hX_end rfl (rfl) (rfl)

/-- UpOneSide.hold(II)I -/
def v_99_0 (x0 : Int32) (x1 : Int32) (b : hB) : Int32 := bif gCmp .eq (v_112 x0 0 9) 0 then (v_111_0 0) else (bif gCmp .eq x1 (-1) then 1 else (bif gCmp .eq (v_113_0 x1 b) 0 then 1 else (v_111_0 0)))
def f_99_0_b (x0 : Int32) (x1 : Int32) (b : hB) : hB := bif gCmp .eq (v_112 x0 0 9) 0 then b else (bif gCmp .eq x1 (-1) then (b.1, b.2.1, b.2.2.1, b.2.2.2.1, b.2.2.2.2.1, b.2.2.2.2.2.1, b.2.2.2.2.2.2.1, b.2.2.2.2.2.2.2.1, b.2.2.2.2.2.2.2.2.1, b.2.2.2.2.2.2.2.2.2.1, b.2.2.2.2.2.2.2.2.2.2.1, b.2.2.2.2.2.2.2.2.2.2.2.1, upd b.2.2.2.2.2.2.2.2.2.2.2.2 (Int32.toNatClampNeg x0) x1) else (bif gCmp .eq (v_113_0 x1 b) 0 then (b.1, b.2.1, b.2.2.1, b.2.2.2.1, b.2.2.2.2.1, b.2.2.2.2.2.1, b.2.2.2.2.2.2.1, b.2.2.2.2.2.2.2.1, b.2.2.2.2.2.2.2.2.1, b.2.2.2.2.2.2.2.2.2.1, b.2.2.2.2.2.2.2.2.2.2.1, b.2.2.2.2.2.2.2.2.2.2.2.1, upd b.2.2.2.2.2.2.2.2.2.2.2.2 (Int32.toNatClampNeg x0) x1) else b))
def f_99_0_fi (x0 : Int32) (x1 : Int32) (b : hB) (fi : Nat → Int32) : Nat → Int32 := bif gCmp .eq (v_112 x0 0 9) 0 then (f_111_0_fi 0 fi) else (bif gCmp .eq x1 (-1) then fi else (bif gCmp .eq (v_113_0 x1 b) 0 then fi else (f_111_0_fi 0 fi)))
set_option maxRecDepth 20000 in
set_option maxHeartbeats 1000000 in
theorem ct_99_0 {LL : Nat} {xs : Nat → Int32} {D : Nat} {b d k s w : hB} {ik ex pr wd : Int32} {sn : Nat → Int64} {qu tb : Nat → Int32} {ts : Int32} {rd : hRd} {h0 h1 h2 h3 : hSt} {fi : Nat → Int32} {R : List gE} (x0 : Int32) (x1 : Int32) (o1 : gCmp .eq (v_112 x0 0 9) 0 = true → gIn 0 7 = true) (o2 : gCmp .eq (v_112 x0 0 9) 0 = false → gCmp .eq x1 (-1) = true → gIn x0 10 = true) (o3 : gCmp .eq (v_112 x0 0 9) 0 = false → gCmp .eq x1 (-1) = false → gCmp .eq (v_113_0 x1 b) 0 = true → gIn x0 10 = true) (o4 : gCmp .eq (v_112 x0 0 9) 0 = false → gCmp .eq x1 (-1) = false → gCmp .eq (v_113_0 x1 b) 0 = false → gIn 0 7 = true) : hM (gO LL xs) (D + 1) zR_99 [.ref 0, .int x0, .int x1] (hCm b d k s w ik ex pr wd sn qu tb ts rd h0 h1 h2 h3 fi R) (some (.int (v_99_0 x0 x1 b))) (hCm (f_99_0_b x0 x1 b) d k s w ik ex pr wd sn qu tb ts rd h0 h1 h2 h3 (f_99_0_fi x0 x1 b fi) R) := by
  refine hX_go 0 0 [some (.ref 0), some (.int x0), some (.int x1)] [] (hCm b d k s w ik ex pr wd sn qu tb ts rd h0 h1 h2 h3 fi R) rfl ?_
  refine hX_go 3 (4) [some (.ref 0), some (.int x0), some (.int x1)] [.int 9, .int 0, .int x0] (hCm b d k s w ik ex pr wd sn qu tb ts rd h0 h1 h2 h3 fi R) rfl ?_
  refine hX_call (r' := zR_112) rfl (ct_112 x0 0 9) ?_
  refine hX_go 1 (bif gCmp .eq (v_112 x0 0 9) 0 then 23 else 10) [some (.ref 0), some (.int x0), some (.int x1)] [] (hCm b d k s w ik ex pr wd sn qu tb ts rd h0 h1 h2 h3 fi R) rfl ?_
  refine hX_if (gCmp .eq (v_112 x0 0 9) 0) (fun c1 => ?_) (fun c1 => ?_)
  · skip
    refine hX_go 2 (25) [some (.ref 0), some (.int x0), some (.int x1)] [.int 0, .ref 0] (hCm b d k s w ik ex pr wd sn qu tb ts rd h0 h1 h2 h3 fi R) rfl ?_
    refine hX_call (r' := zR_111) rfl (ct_111_0 0 (o1 c1)) ?_
    refine hX_go 0 (28) [some (.ref 0), some (.int x0), some (.int x1)] [.int (v_111_0 0)] (hCm b d k s w ik ex pr wd sn qu tb ts rd h0 h1 h2 h3 (f_111_0_fi 0 fi) R) rfl ?_
    exact hX_end rfl (by unfold v_99_0; rw [c1]; rfl) (by unfold f_99_0_b; rw [c1]; unfold f_99_0_fi; rw [c1]; rfl)
  · skip
    refine hX_go 3 (bif gCmp .eq x1 (-1) then 29 else 15) [some (.ref 0), some (.int x0), some (.int x1)] [] (hCm b d k s w ik ex pr wd sn qu tb ts rd h0 h1 h2 h3 fi R) rfl ?_
    refine hX_if (gCmp .eq x1 (-1)) (fun c2 => ?_) (fun c2 => ?_)
    · skip
      refine hX_go 5 (38) [some (.ref 0), some (.int x0), some (.int x1)] [.int x1, .int x0, .ref 9] (hCm b d k s w ik ex pr wd sn qu tb ts rd h0 h1 h2 h3 fi R) rfl ?_
      refine hX_g (gIn x0 10) 39 [some (.ref 0), some (.int x0), some (.int x1)] [] (hCm (b.1, b.2.1, b.2.2.1, b.2.2.2.1, b.2.2.2.2.1, b.2.2.2.2.2.1, b.2.2.2.2.2.2.1, b.2.2.2.2.2.2.2.1, b.2.2.2.2.2.2.2.2.1, b.2.2.2.2.2.2.2.2.2.1, b.2.2.2.2.2.2.2.2.2.2.1, b.2.2.2.2.2.2.2.2.2.2.2.1, upd b.2.2.2.2.2.2.2.2.2.2.2.2 (Int32.toNatClampNeg x0) x1) d k s w ik ex pr wd sn qu tb ts rd h0 h1 h2 h3 fi R) rfl (o2 c1 c2) ?_
      refine hX_go 1 (40) [some (.ref 0), some (.int x0), some (.int x1)] [.int 1] (hCm (b.1, b.2.1, b.2.2.1, b.2.2.2.1, b.2.2.2.2.1, b.2.2.2.2.2.1, b.2.2.2.2.2.2.1, b.2.2.2.2.2.2.2.1, b.2.2.2.2.2.2.2.2.1, b.2.2.2.2.2.2.2.2.2.1, b.2.2.2.2.2.2.2.2.2.2.1, b.2.2.2.2.2.2.2.2.2.2.2.1, upd b.2.2.2.2.2.2.2.2.2.2.2.2 (Int32.toNatClampNeg x0) x1) d k s w ik ex pr wd sn qu tb ts rd h0 h1 h2 h3 fi R) rfl ?_
      exact hX_end rfl (by unfold v_99_0; rw [c1, c2]; rfl) (by unfold f_99_0_b; rw [c1, c2]; unfold f_99_0_fi; rw [c1, c2]; rfl)
    · skip
      refine hX_go 2 (17) [some (.ref 0), some (.int x0), some (.int x1)] [.int x1, .ref 0] (hCm b d k s w ik ex pr wd sn qu tb ts rd h0 h1 h2 h3 fi R) rfl ?_
      refine hX_call (r' := zR_113) rfl (ct_113_0 x1) ?_
      refine hX_go 1 (bif gCmp .eq (v_113_0 x1 b) 0 then 29 else 23) [some (.ref 0), some (.int x0), some (.int x1)] [] (hCm b d k s w ik ex pr wd sn qu tb ts rd h0 h1 h2 h3 fi R) rfl ?_
      refine hX_if (gCmp .eq (v_113_0 x1 b) 0) (fun c3 => ?_) (fun c3 => ?_)
      · skip
        refine hX_go 5 (38) [some (.ref 0), some (.int x0), some (.int x1)] [.int x1, .int x0, .ref 9] (hCm b d k s w ik ex pr wd sn qu tb ts rd h0 h1 h2 h3 fi R) rfl ?_
        refine hX_g (gIn x0 10) 39 [some (.ref 0), some (.int x0), some (.int x1)] [] (hCm (b.1, b.2.1, b.2.2.1, b.2.2.2.1, b.2.2.2.2.1, b.2.2.2.2.2.1, b.2.2.2.2.2.2.1, b.2.2.2.2.2.2.2.1, b.2.2.2.2.2.2.2.2.1, b.2.2.2.2.2.2.2.2.2.1, b.2.2.2.2.2.2.2.2.2.2.1, b.2.2.2.2.2.2.2.2.2.2.2.1, upd b.2.2.2.2.2.2.2.2.2.2.2.2 (Int32.toNatClampNeg x0) x1) d k s w ik ex pr wd sn qu tb ts rd h0 h1 h2 h3 fi R) rfl (o3 c1 c2 c3) ?_
        refine hX_go 1 (40) [some (.ref 0), some (.int x0), some (.int x1)] [.int 1] (hCm (b.1, b.2.1, b.2.2.1, b.2.2.2.1, b.2.2.2.2.1, b.2.2.2.2.2.1, b.2.2.2.2.2.2.1, b.2.2.2.2.2.2.2.1, b.2.2.2.2.2.2.2.2.1, b.2.2.2.2.2.2.2.2.2.1, b.2.2.2.2.2.2.2.2.2.2.1, b.2.2.2.2.2.2.2.2.2.2.2.1, upd b.2.2.2.2.2.2.2.2.2.2.2.2 (Int32.toNatClampNeg x0) x1) d k s w ik ex pr wd sn qu tb ts rd h0 h1 h2 h3 fi R) rfl ?_
        exact hX_end rfl (by unfold v_99_0; rw [c1, c2, c3]; rfl) (by unfold f_99_0_b; rw [c1, c2, c3]; unfold f_99_0_fi; rw [c1, c2, c3]; rfl)
      · skip
        refine hX_go 2 (25) [some (.ref 0), some (.int x0), some (.int x1)] [.int 0, .ref 0] (hCm b d k s w ik ex pr wd sn qu tb ts rd h0 h1 h2 h3 fi R) rfl ?_
        refine hX_call (r' := zR_111) rfl (ct_111_0 0 (o4 c1 c2 c3)) ?_
        refine hX_go 0 (28) [some (.ref 0), some (.int x0), some (.int x1)] [.int (v_111_0 0)] (hCm b d k s w ik ex pr wd sn qu tb ts rd h0 h1 h2 h3 (f_111_0_fi 0 fi) R) rfl ?_
        exact hX_end rfl (by unfold v_99_0; rw [c1, c2, c3]; rfl) (by unfold f_99_0_b; rw [c1, c2, c3]; unfold f_99_0_fi; rw [c1, c2, c3]; rfl)

/-- UpOneSide$Blind.takeOver(LUpOneSide$Blind;)V -/
def f_10_19_1_k (b : hB) (k : hB) : hB := (b.1, b.2.1, b.2.2.1, b.2.2.2.1, b.2.2.2.2.1, va_cpy b.2.2.2.2.2.1 k.2.2.2.2.2.1 0 0 8, va_cpy b.2.2.2.2.2.2.1 k.2.2.2.2.2.2.1 0 0 8, va_cpy b.2.2.2.2.2.2.2.1 k.2.2.2.2.2.2.2.1 0 0 8, va_cpy b.2.2.2.2.2.2.2.2.1 k.2.2.2.2.2.2.2.2.1 0 0 6, va_cpy b.2.2.2.2.2.2.2.2.2.1 k.2.2.2.2.2.2.2.2.2.1 0 0 4, va_cpy b.2.2.2.2.2.2.2.2.2.2.1 k.2.2.2.2.2.2.2.2.2.2.1 0 0 61, va_cpy b.2.2.2.2.2.2.2.2.2.2.2.1 k.2.2.2.2.2.2.2.2.2.2.2.1 0 0 24, va_cpy b.2.2.2.2.2.2.2.2.2.2.2.2 k.2.2.2.2.2.2.2.2.2.2.2.2 0 0 10)
set_option maxRecDepth 20000 in
set_option maxHeartbeats 1000000 in
theorem ct_10_19_1 {LL : Nat} {xs : Nat → Int32} {D : Nat} {b d k s w : hB} {ik ex pr wd : Int32} {sn : Nat → Int64} {qu tb : Nat → Int32} {ts : Int32} {rd : hRd} {h0 h1 h2 h3 : hSt} {fi : Nat → Int32} {R : List gE} : hM (gO LL xs) (D + 1) zR_10 [.ref 19, .ref 1] (hCm b d k s w ik ex pr wd sn qu tb ts rd h0 h1 h2 h3 fi R) none (hCm b d (f_10_19_1_k b k) s w ik ex pr wd sn qu tb ts rd h0 h1 h2 h3 fi R) := by
  refine hX_go 0 0 [some (.ref 19), some (.ref 1)] [] (hCm b d k s w ik ex pr wd sn qu tb ts rd h0 h1 h2 h3 fi R) rfl ?_
  refine hX_go 9 (17) [some (.ref 19), some (.ref 1)] [.ref 19] (hCm b d (b.1, b.2.1, k.2.2) s w ik ex pr wd sn qu tb ts rd h0 h1 h2 h3 fi R) rfl ?_
  refine hX_go 9 (34) [some (.ref 19), some (.ref 1)] [.ref 1, .ref 19] (hCm b d (b.1, b.2.1, b.2.2.1, b.2.2.2.1, k.2.2.2.2) s w ik ex pr wd sn qu tb ts rd h0 h1 h2 h3 fi R) rfl ?_
  refine hX_go 9 (52) [some (.ref 19), some (.ref 1)] [.int 8, .int 0, .ref 20, .int 0, .ref 2] (hCm b d (b.1, b.2.1, b.2.2.1, b.2.2.2.1, b.2.2.2.2.1, k.2.2.2.2.2) s w ik ex pr wd sn qu tb ts rd h0 h1 h2 h3 fi R) rfl ?_
  refine hX_go 9 (70) [some (.ref 19), some (.ref 1)] [] (hCm b d (b.1, b.2.1, b.2.2.1, b.2.2.2.1, b.2.2.2.2.1, va_cpy b.2.2.2.2.2.1 k.2.2.2.2.2.1 0 0 8, va_cpy b.2.2.2.2.2.2.1 k.2.2.2.2.2.2.1 0 0 8, k.2.2.2.2.2.2.2) s w ik ex pr wd sn qu tb ts rd h0 h1 h2 h3 fi R) rfl ?_
  refine hX_go 9 (86) [some (.ref 19), some (.ref 1)] [.ref 1] (hCm b d (b.1, b.2.1, b.2.2.1, b.2.2.2.1, b.2.2.2.2.1, va_cpy b.2.2.2.2.2.1 k.2.2.2.2.2.1 0 0 8, va_cpy b.2.2.2.2.2.2.1 k.2.2.2.2.2.2.1 0 0 8, va_cpy b.2.2.2.2.2.2.2.1 k.2.2.2.2.2.2.2.1 0 0 8, k.2.2.2.2.2.2.2.2) s w ik ex pr wd sn qu tb ts rd h0 h1 h2 h3 fi R) rfl ?_
  refine hX_go 9 (103) [some (.ref 19), some (.ref 1)] [] (hCm b d (b.1, b.2.1, b.2.2.1, b.2.2.2.1, b.2.2.2.2.1, va_cpy b.2.2.2.2.2.1 k.2.2.2.2.2.1 0 0 8, va_cpy b.2.2.2.2.2.2.1 k.2.2.2.2.2.2.1 0 0 8, va_cpy b.2.2.2.2.2.2.2.1 k.2.2.2.2.2.2.2.1 0 0 8, va_cpy b.2.2.2.2.2.2.2.2.1 k.2.2.2.2.2.2.2.2.1 0 0 6, k.2.2.2.2.2.2.2.2.2) s w ik ex pr wd sn qu tb ts rd h0 h1 h2 h3 fi R) rfl ?_
  refine hX_go 9 (118) [some (.ref 19), some (.ref 1)] [.ref 1] (hCm b d (b.1, b.2.1, b.2.2.1, b.2.2.2.1, b.2.2.2.2.1, va_cpy b.2.2.2.2.2.1 k.2.2.2.2.2.1 0 0 8, va_cpy b.2.2.2.2.2.2.1 k.2.2.2.2.2.2.1 0 0 8, va_cpy b.2.2.2.2.2.2.2.1 k.2.2.2.2.2.2.2.1 0 0 8, va_cpy b.2.2.2.2.2.2.2.2.1 k.2.2.2.2.2.2.2.2.1 0 0 6, va_cpy b.2.2.2.2.2.2.2.2.2.1 k.2.2.2.2.2.2.2.2.2.1 0 0 4, k.2.2.2.2.2.2.2.2.2.2) s w ik ex pr wd sn qu tb ts rd h0 h1 h2 h3 fi R) rfl ?_
  refine hX_go 9 (136) [some (.ref 19), some (.ref 1)] [.ref 8] (hCm b d (b.1, b.2.1, b.2.2.1, b.2.2.2.1, b.2.2.2.2.1, va_cpy b.2.2.2.2.2.1 k.2.2.2.2.2.1 0 0 8, va_cpy b.2.2.2.2.2.2.1 k.2.2.2.2.2.2.1 0 0 8, va_cpy b.2.2.2.2.2.2.2.1 k.2.2.2.2.2.2.2.1 0 0 8, va_cpy b.2.2.2.2.2.2.2.2.1 k.2.2.2.2.2.2.2.2.1 0 0 6, va_cpy b.2.2.2.2.2.2.2.2.2.1 k.2.2.2.2.2.2.2.2.2.1 0 0 4, va_cpy b.2.2.2.2.2.2.2.2.2.2.1 k.2.2.2.2.2.2.2.2.2.2.1 0 0 61, k.2.2.2.2.2.2.2.2.2.2.2) s w ik ex pr wd sn qu tb ts rd h0 h1 h2 h3 fi R) rfl ?_
  refine hX_go 9 (152) [some (.ref 19), some (.ref 1)] [.int 0, .ref 9] (hCm b d (b.1, b.2.1, b.2.2.1, b.2.2.2.1, b.2.2.2.2.1, va_cpy b.2.2.2.2.2.1 k.2.2.2.2.2.1 0 0 8, va_cpy b.2.2.2.2.2.2.1 k.2.2.2.2.2.2.1 0 0 8, va_cpy b.2.2.2.2.2.2.2.1 k.2.2.2.2.2.2.2.1 0 0 8, va_cpy b.2.2.2.2.2.2.2.2.1 k.2.2.2.2.2.2.2.2.1 0 0 6, va_cpy b.2.2.2.2.2.2.2.2.2.1 k.2.2.2.2.2.2.2.2.2.1 0 0 4, va_cpy b.2.2.2.2.2.2.2.2.2.2.1 k.2.2.2.2.2.2.2.2.2.2.1 0 0 61, va_cpy b.2.2.2.2.2.2.2.2.2.2.2.1 k.2.2.2.2.2.2.2.2.2.2.2.1 0 0 24, k.2.2.2.2.2.2.2.2.2.2.2.2) s w ik ex pr wd sn qu tb ts rd h0 h1 h2 h3 fi R) rfl ?_
  refine hX_go 5 (162) [some (.ref 19), some (.ref 1)] [] (hCm b d (b.1, b.2.1, b.2.2.1, b.2.2.2.1, b.2.2.2.2.1, va_cpy b.2.2.2.2.2.1 k.2.2.2.2.2.1 0 0 8, va_cpy b.2.2.2.2.2.2.1 k.2.2.2.2.2.2.1 0 0 8, va_cpy b.2.2.2.2.2.2.2.1 k.2.2.2.2.2.2.2.1 0 0 8, va_cpy b.2.2.2.2.2.2.2.2.1 k.2.2.2.2.2.2.2.2.1 0 0 6, va_cpy b.2.2.2.2.2.2.2.2.2.1 k.2.2.2.2.2.2.2.2.2.1 0 0 4, va_cpy b.2.2.2.2.2.2.2.2.2.2.1 k.2.2.2.2.2.2.2.2.2.2.1 0 0 61, va_cpy b.2.2.2.2.2.2.2.2.2.2.2.1 k.2.2.2.2.2.2.2.2.2.2.2.1 0 0 24, va_cpy b.2.2.2.2.2.2.2.2.2.2.2.2 k.2.2.2.2.2.2.2.2.2.2.2.2 0 0 10) s w ik ex pr wd sn qu tb ts rd h0 h1 h2 h3 fi R) rfl ?_
  exact hX_end rfl (rfl) (rfl)

/-- UpOneSide.image()I -/
def f_106_0_k (b : hB) (k : hB) : hB := (f_10_19_1_k b k)
def f_106_0_ik : Int32 := 1
set_option maxRecDepth 20000 in
set_option maxHeartbeats 1000000 in
theorem ct_106_0 {LL : Nat} {xs : Nat → Int32} {D : Nat} {b d k s w : hB} {ik ex pr wd : Int32} {sn : Nat → Int64} {qu tb : Nat → Int32} {ts : Int32} {rd : hRd} {h0 h1 h2 h3 : hSt} {fi : Nat → Int32} {R : List gE} : hM (gO LL xs) (D + 2) zR_106 [.ref 0] (hCm b d k s w ik ex pr wd sn qu tb ts rd h0 h1 h2 h3 fi R) (some (.int 1)) (hCm b d (f_106_0_k b k) s w f_106_0_ik ex pr wd sn qu tb ts rd h0 h1 h2 h3 fi R) := by
  refine hX_go 0 0 [some (.ref 0)] [] (hCm b d k s w ik ex pr wd sn qu tb ts rd h0 h1 h2 h3 fi R) rfl ?_
  refine hX_go 4 (8) [some (.ref 0)] [.ref 1, .ref 19] (hCm b d k s w ik ex pr wd sn qu tb ts rd h0 h1 h2 h3 fi R) rfl ?_
  refine hX_call (r' := zR_10) rfl (ct_10_19_1) ?_
  refine hX_go 4 (17) [some (.ref 0)] [.int 1] (hCm b d (f_10_19_1_k b k) s w 1 ex pr wd sn qu tb ts rd h0 h1 h2 h3 fi R) rfl ?_
  exact hX_end rfl (rfl) (rfl)

/-- UpOneSide$Blind.takeOver(LUpOneSide$Blind;)V -/
def f_10_1_19_b (b : hB) (k : hB) : hB := (k.1, k.2.1, k.2.2.1, k.2.2.2.1, k.2.2.2.2.1, va_cpy k.2.2.2.2.2.1 b.2.2.2.2.2.1 0 0 8, va_cpy k.2.2.2.2.2.2.1 b.2.2.2.2.2.2.1 0 0 8, va_cpy k.2.2.2.2.2.2.2.1 b.2.2.2.2.2.2.2.1 0 0 8, va_cpy k.2.2.2.2.2.2.2.2.1 b.2.2.2.2.2.2.2.2.1 0 0 6, va_cpy k.2.2.2.2.2.2.2.2.2.1 b.2.2.2.2.2.2.2.2.2.1 0 0 4, va_cpy k.2.2.2.2.2.2.2.2.2.2.1 b.2.2.2.2.2.2.2.2.2.2.1 0 0 61, va_cpy k.2.2.2.2.2.2.2.2.2.2.2.1 b.2.2.2.2.2.2.2.2.2.2.2.1 0 0 24, va_cpy k.2.2.2.2.2.2.2.2.2.2.2.2 b.2.2.2.2.2.2.2.2.2.2.2.2 0 0 10)
set_option maxRecDepth 20000 in
set_option maxHeartbeats 1000000 in
theorem ct_10_1_19 {LL : Nat} {xs : Nat → Int32} {D : Nat} {b d k s w : hB} {ik ex pr wd : Int32} {sn : Nat → Int64} {qu tb : Nat → Int32} {ts : Int32} {rd : hRd} {h0 h1 h2 h3 : hSt} {fi : Nat → Int32} {R : List gE} : hM (gO LL xs) (D + 1) zR_10 [.ref 1, .ref 19] (hCm b d k s w ik ex pr wd sn qu tb ts rd h0 h1 h2 h3 fi R) none (hCm (f_10_1_19_b b k) d k s w ik ex pr wd sn qu tb ts rd h0 h1 h2 h3 fi R) := by
  refine hX_go 0 0 [some (.ref 1), some (.ref 19)] [] (hCm b d k s w ik ex pr wd sn qu tb ts rd h0 h1 h2 h3 fi R) rfl ?_
  refine hX_go 9 (17) [some (.ref 1), some (.ref 19)] [.ref 1] (hCm (k.1, k.2.1, b.2.2) d k s w ik ex pr wd sn qu tb ts rd h0 h1 h2 h3 fi R) rfl ?_
  refine hX_go 9 (34) [some (.ref 1), some (.ref 19)] [.ref 19, .ref 1] (hCm (k.1, k.2.1, k.2.2.1, k.2.2.2.1, b.2.2.2.2) d k s w ik ex pr wd sn qu tb ts rd h0 h1 h2 h3 fi R) rfl ?_
  refine hX_go 9 (52) [some (.ref 1), some (.ref 19)] [.int 8, .int 0, .ref 2, .int 0, .ref 20] (hCm (k.1, k.2.1, k.2.2.1, k.2.2.2.1, k.2.2.2.2.1, b.2.2.2.2.2) d k s w ik ex pr wd sn qu tb ts rd h0 h1 h2 h3 fi R) rfl ?_
  refine hX_go 9 (70) [some (.ref 1), some (.ref 19)] [] (hCm (k.1, k.2.1, k.2.2.1, k.2.2.2.1, k.2.2.2.2.1, va_cpy k.2.2.2.2.2.1 b.2.2.2.2.2.1 0 0 8, va_cpy k.2.2.2.2.2.2.1 b.2.2.2.2.2.2.1 0 0 8, b.2.2.2.2.2.2.2) d k s w ik ex pr wd sn qu tb ts rd h0 h1 h2 h3 fi R) rfl ?_
  refine hX_go 9 (86) [some (.ref 1), some (.ref 19)] [.ref 19] (hCm (k.1, k.2.1, k.2.2.1, k.2.2.2.1, k.2.2.2.2.1, va_cpy k.2.2.2.2.2.1 b.2.2.2.2.2.1 0 0 8, va_cpy k.2.2.2.2.2.2.1 b.2.2.2.2.2.2.1 0 0 8, va_cpy k.2.2.2.2.2.2.2.1 b.2.2.2.2.2.2.2.1 0 0 8, b.2.2.2.2.2.2.2.2) d k s w ik ex pr wd sn qu tb ts rd h0 h1 h2 h3 fi R) rfl ?_
  refine hX_go 9 (103) [some (.ref 1), some (.ref 19)] [] (hCm (k.1, k.2.1, k.2.2.1, k.2.2.2.1, k.2.2.2.2.1, va_cpy k.2.2.2.2.2.1 b.2.2.2.2.2.1 0 0 8, va_cpy k.2.2.2.2.2.2.1 b.2.2.2.2.2.2.1 0 0 8, va_cpy k.2.2.2.2.2.2.2.1 b.2.2.2.2.2.2.2.1 0 0 8, va_cpy k.2.2.2.2.2.2.2.2.1 b.2.2.2.2.2.2.2.2.1 0 0 6, b.2.2.2.2.2.2.2.2.2) d k s w ik ex pr wd sn qu tb ts rd h0 h1 h2 h3 fi R) rfl ?_
  refine hX_go 9 (118) [some (.ref 1), some (.ref 19)] [.ref 19] (hCm (k.1, k.2.1, k.2.2.1, k.2.2.2.1, k.2.2.2.2.1, va_cpy k.2.2.2.2.2.1 b.2.2.2.2.2.1 0 0 8, va_cpy k.2.2.2.2.2.2.1 b.2.2.2.2.2.2.1 0 0 8, va_cpy k.2.2.2.2.2.2.2.1 b.2.2.2.2.2.2.2.1 0 0 8, va_cpy k.2.2.2.2.2.2.2.2.1 b.2.2.2.2.2.2.2.2.1 0 0 6, va_cpy k.2.2.2.2.2.2.2.2.2.1 b.2.2.2.2.2.2.2.2.2.1 0 0 4, b.2.2.2.2.2.2.2.2.2.2) d k s w ik ex pr wd sn qu tb ts rd h0 h1 h2 h3 fi R) rfl ?_
  refine hX_go 9 (136) [some (.ref 1), some (.ref 19)] [.ref 26] (hCm (k.1, k.2.1, k.2.2.1, k.2.2.2.1, k.2.2.2.2.1, va_cpy k.2.2.2.2.2.1 b.2.2.2.2.2.1 0 0 8, va_cpy k.2.2.2.2.2.2.1 b.2.2.2.2.2.2.1 0 0 8, va_cpy k.2.2.2.2.2.2.2.1 b.2.2.2.2.2.2.2.1 0 0 8, va_cpy k.2.2.2.2.2.2.2.2.1 b.2.2.2.2.2.2.2.2.1 0 0 6, va_cpy k.2.2.2.2.2.2.2.2.2.1 b.2.2.2.2.2.2.2.2.2.1 0 0 4, va_cpy k.2.2.2.2.2.2.2.2.2.2.1 b.2.2.2.2.2.2.2.2.2.2.1 0 0 61, b.2.2.2.2.2.2.2.2.2.2.2) d k s w ik ex pr wd sn qu tb ts rd h0 h1 h2 h3 fi R) rfl ?_
  refine hX_go 9 (152) [some (.ref 1), some (.ref 19)] [.int 0, .ref 27] (hCm (k.1, k.2.1, k.2.2.1, k.2.2.2.1, k.2.2.2.2.1, va_cpy k.2.2.2.2.2.1 b.2.2.2.2.2.1 0 0 8, va_cpy k.2.2.2.2.2.2.1 b.2.2.2.2.2.2.1 0 0 8, va_cpy k.2.2.2.2.2.2.2.1 b.2.2.2.2.2.2.2.1 0 0 8, va_cpy k.2.2.2.2.2.2.2.2.1 b.2.2.2.2.2.2.2.2.1 0 0 6, va_cpy k.2.2.2.2.2.2.2.2.2.1 b.2.2.2.2.2.2.2.2.2.1 0 0 4, va_cpy k.2.2.2.2.2.2.2.2.2.2.1 b.2.2.2.2.2.2.2.2.2.2.1 0 0 61, va_cpy k.2.2.2.2.2.2.2.2.2.2.2.1 b.2.2.2.2.2.2.2.2.2.2.2.1 0 0 24, b.2.2.2.2.2.2.2.2.2.2.2.2) d k s w ik ex pr wd sn qu tb ts rd h0 h1 h2 h3 fi R) rfl ?_
  refine hX_go 5 (162) [some (.ref 1), some (.ref 19)] [] (hCm (k.1, k.2.1, k.2.2.1, k.2.2.2.1, k.2.2.2.2.1, va_cpy k.2.2.2.2.2.1 b.2.2.2.2.2.1 0 0 8, va_cpy k.2.2.2.2.2.2.1 b.2.2.2.2.2.2.1 0 0 8, va_cpy k.2.2.2.2.2.2.2.1 b.2.2.2.2.2.2.2.1 0 0 8, va_cpy k.2.2.2.2.2.2.2.2.1 b.2.2.2.2.2.2.2.2.1 0 0 6, va_cpy k.2.2.2.2.2.2.2.2.2.1 b.2.2.2.2.2.2.2.2.2.1 0 0 4, va_cpy k.2.2.2.2.2.2.2.2.2.2.1 b.2.2.2.2.2.2.2.2.2.2.1 0 0 61, va_cpy k.2.2.2.2.2.2.2.2.2.2.2.1 b.2.2.2.2.2.2.2.2.2.2.2.1 0 0 24, va_cpy k.2.2.2.2.2.2.2.2.2.2.2.2 b.2.2.2.2.2.2.2.2.2.2.2.2 0 0 10) d k s w ik ex pr wd sn qu tb ts rd h0 h1 h2 h3 fi R) rfl ?_
  exact hX_end rfl (rfl) (rfl)

/-- UpOneSide.undo()I -/
def v_107_0 (b : hB) (k : hB) (ik : Int32) : Int32 := bif gCmp .ne ik 0 then ((f_10_1_19_b b k).1) else (v_111_0 3)
def f_107_0_b (b : hB) (k : hB) (ik : Int32) : hB := bif gCmp .ne ik 0 then (f_10_1_19_b b k) else b
def f_107_0_fi (ik : Int32) (fi : Nat → Int32) : Nat → Int32 := bif gCmp .ne ik 0 then fi else (f_111_0_fi 3 fi)
set_option maxRecDepth 20000 in
set_option maxHeartbeats 1000000 in
theorem ct_107_0 {LL : Nat} {xs : Nat → Int32} {D : Nat} {b d k s w : hB} {ik ex pr wd : Int32} {sn : Nat → Int64} {qu tb : Nat → Int32} {ts : Int32} {rd : hRd} {h0 h1 h2 h3 : hSt} {fi : Nat → Int32} {R : List gE} (o1 : gCmp .ne ik 0 = false → gIn 3 7 = true) : hM (gO LL xs) (D + 2) zR_107 [.ref 0] (hCm b d k s w ik ex pr wd sn qu tb ts rd h0 h1 h2 h3 fi R) (some (.int (v_107_0 b k ik))) (hCm (f_107_0_b b k ik) d k s w ik ex pr wd sn qu tb ts rd h0 h1 h2 h3 (f_107_0_fi ik fi) R) := by
  refine hX_go 0 0 [some (.ref 0)] [] (hCm b d k s w ik ex pr wd sn qu tb ts rd h0 h1 h2 h3 fi R) rfl ?_
  refine hX_go 3 (bif gCmp .ne ik 0 then 13 else 7) [some (.ref 0)] [] (hCm b d k s w ik ex pr wd sn qu tb ts rd h0 h1 h2 h3 fi R) rfl ?_
  refine hX_if (gCmp .ne ik 0) (fun c1 => ?_) (fun c1 => ?_)
  · skip
    refine hX_go 4 (21) [some (.ref 0)] [.ref 19, .ref 1] (hCm b d k s w ik ex pr wd sn qu tb ts rd h0 h1 h2 h3 fi R) rfl ?_
    refine hX_call (r' := zR_10) rfl (ct_10_1_19) ?_
    refine hX_go 3 (31) [some (.ref 0)] [.int ((f_10_1_19_b b k).1)] (hCm (f_10_1_19_b b k) d k s w ik ex pr wd sn qu tb ts rd h0 h1 h2 h3 fi R) rfl ?_
    exact hX_end rfl (by unfold v_107_0; rw [c1]; rfl) (by unfold f_107_0_b; rw [c1]; unfold f_107_0_fi; rw [c1]; rfl)
  · skip
    refine hX_go 2 (9) [some (.ref 0)] [.int 3, .ref 0] (hCm b d k s w ik ex pr wd sn qu tb ts rd h0 h1 h2 h3 fi R) rfl ?_
    refine hX_call (r' := zR_111) rfl (ct_111_0 3 (o1 c1)) ?_
    refine hX_go 0 (12) [some (.ref 0)] [.int (v_111_0 3)] (hCm b d k s w ik ex pr wd sn qu tb ts rd h0 h1 h2 h3 (f_111_0_fi 3 fi) R) rfl ?_
    exact hX_end rfl (by unfold v_107_0; rw [c1]; rfl) (by unfold f_107_0_b; rw [c1]; unfold f_107_0_fi; rw [c1]; rfl)

/-- UpOneSide.tear()I -/
def v_108_0 (ik : Int32) : Int32 := bif gCmp .eq ik 0 then 0 else 1
def f_108_0_ik : Int32 := 0
set_option maxRecDepth 20000 in
set_option maxHeartbeats 1000000 in
theorem ct_108_0 {LL : Nat} {xs : Nat → Int32} {D : Nat} {b d k s w : hB} {ik ex pr wd : Int32} {sn : Nat → Int64} {qu tb : Nat → Int32} {ts : Int32} {rd : hRd} {h0 h1 h2 h3 : hSt} {fi : Nat → Int32} {R : List gE} : hM (gO LL xs) (D + 0) zR_108 [.ref 0] (hCm b d k s w ik ex pr wd sn qu tb ts rd h0 h1 h2 h3 fi R) (some (.int (v_108_0 ik))) (hCm b d k s w f_108_0_ik ex pr wd sn qu tb ts rd h0 h1 h2 h3 fi R) := by
  refine hX_go 0 0 [some (.ref 0), none] [] (hCm b d k s w ik ex pr wd sn qu tb ts rd h0 h1 h2 h3 fi R) rfl ?_
  refine hX_go 3 (bif gCmp .eq ik 0 then 11 else 7) [some (.ref 0), none] [] (hCm b d k s w ik ex pr wd sn qu tb ts rd h0 h1 h2 h3 fi R) rfl ?_
  suffices hk : hX (gO LL xs) (D + 0) zR_108 12 [some (.ref 0), none] [.int (bif gCmp .eq ik 0 then 0 else 1)] (hCm b d k s w ik ex pr wd sn qu tb ts rd h0 h1 h2 h3 fi R) (some (.int (v_108_0 ik))) (hCm b d k s w f_108_0_ik ex pr wd sn qu tb ts rd h0 h1 h2 h3 fi R) by
    refine hX_if (gCmp .eq ik 0) (fun c1 => ?_) (fun c1 => ?_)
    · skip
      refine hX_go 1 (12) [some (.ref 0), none] [.int 0] (hCm b d k s w ik ex pr wd sn qu tb ts rd h0 h1 h2 h3 fi R) rfl ?_
      have hk := hk
      simp only [c1, cond_true, cond_false] at hk
      first | exact hk | (simp only [c1, cond_true, cond_false]; exact hk)
    · skip
      refine hX_go 2 (12) [some (.ref 0), none] [.int 1] (hCm b d k s w ik ex pr wd sn qu tb ts rd h0 h1 h2 h3 fi R) rfl ?_
      have hk := hk
      simp only [c1, cond_true, cond_false] at hk
      first | exact hk | (simp only [c1, cond_true, cond_false]; exact hk)
  refine hX_go 5 (19) [some (.ref 0), some (.int (bif gCmp .eq ik 0 then 0 else 1))] [.int (bif gCmp .eq ik 0 then 0 else 1)] (hCm b d k s w 0 ex pr wd sn qu tb ts rd h0 h1 h2 h3 fi R) rfl ?_
  exact hX_end rfl (rfl) (rfl)

theorem sw_109_1 (x : Int32) : gSwT 1 111 0 7 #[47, 55, 63, 71, 79, 87, 95, 103] x = some (bif hEq x 0 then 48 else bif hEq x 1 then 56 else bif hEq x 2 then 64 else bif hEq x 3 then 72 else bif hEq x 4 then 80 else bif hEq x 5 then 88 else bif hEq x 6 then 96 else bif hEq x 7 then 104 else 112) := by
  by_cases q0 : x = 0
  · subst q0; rfl
  by_cases q1 : x = 1
  · subst q1; rfl
  by_cases q2 : x = 2
  · subst q2; rfl
  by_cases q3 : x = 3
  · subst q3; rfl
  by_cases q4 : x = 4
  · subst q4; rfl
  by_cases q5 : x = 5
  · subst q5; rfl
  by_cases q6 : x = 6
  · subst q6; rfl
  by_cases q7 : x = 7
  · subst q7; rfl
  simp only [hEq, q0, q1, q2, q3, q4, q5, q6, q7, decide_false, cond_false]
  have n0 := hNe q0
  have n1 := hNe q1
  have n2 := hNe q2
  have n3 := hNe q3
  have n4 := hNe q4
  have n5 := hNe q5
  have n6 := hNe q6
  have n7 := hNe q7
  unfold gSwT
  rw [show (decide (x.toInt < 0) || decide (7 < x.toInt)) = true from by
    simp only [Bool.or_eq_true, decide_eq_true_eq]
    have e : ∀ z : Int, z < 0 ∨ 7 < z ∨ (z = 0 ∨ z = 1 ∨ z = 2 ∨ z = 3 ∨ z = 4 ∨ z = 5 ∨ z = 6 ∨ z = 7) := by intro z; omega
    rcases e x.toInt with h | h | h
    · exact Or.inl h
    · exact Or.inr h
    · rcases h with h | h | h | h | h | h | h | h
      · exact absurd h n0
      · exact absurd h n1
      · exact absurd h n2
      · exact absurd h n3
      · exact absurd h n4
      · exact absurd h n5
      · exact absurd h n6
      · exact absurd h n7
    ]
  rfl
