/-- UpOneSide.within(III)Z -/
def v_112 (x0 : Int32) (x1 : Int32) (x2 : Int32) : Int32 := bif gCmp .lt x0 x1 then 0 else (bif gCmp .gt x0 x2 then 0 else 1)
set_option maxRecDepth 20000 in
set_option maxHeartbeats 1000000 in
theorem ct_112 {LL : Nat} {xs : Nat → Int32} {D : Nat} {b d k s w : hB} {ik ex pr wd : Int32} {sn : Nat → Int64} {qu tb : Nat → Int32} {ts : Int32} {r0 : Value} {rq : hRq} {h0 h1 h2 h3 : hSt} {fi : Nat → Int32} {R : List gE} (x0 : Int32) (x1 : Int32) (x2 : Int32) : hM (gO LL xs) (D + 0) zR_112 [.int x0, .int x1, .int x2] (hCm b d k s w ik ex pr wd sn qu tb ts (r0, rq) h0 h1 h2 h3 fi R) (some (.int (v_112 x0 x1 x2))) (hCm b d k s w ik ex pr wd sn qu tb ts (r0, rq) h0 h1 h2 h3 fi R) := by
  refine hX_go 0 0 [some (.int x0), some (.int x1), some (.int x2)] [] (hCm b d k s w ik ex pr wd sn qu tb ts (r0, rq) h0 h1 h2 h3 fi R) rfl ?_
  refine hX_go 3 (bif gCmp .lt x0 x1 then 14 else 5) [some (.int x0), some (.int x1), some (.int x2)] [] (hCm b d k s w ik ex pr wd sn qu tb ts (r0, rq) h0 h1 h2 h3 fi R) rfl ?_
  refine hX_if (gCmp .lt x0 x1) (fun c1 => ?_) (fun c1 => ?_)
  · skip
    refine hX_goM 1 (15) [some (.int x0), some (.int x1), some (.int x2)] [.int 0] rfl ?_
    exact hX_end rfl (by unfold v_112; rw [c1]; rfl) (rfl)
  · skip
    refine hX_goM 3 (bif gCmp .gt x0 x2 then 14 else 10) [some (.int x0), some (.int x1), some (.int x2)] [] rfl ?_
    refine hX_if (gCmp .gt x0 x2) (fun c2 => ?_) (fun c2 => ?_)
    · skip
      refine hX_goM 1 (15) [some (.int x0), some (.int x1), some (.int x2)] [.int 0] rfl ?_
      exact hX_end rfl (by unfold v_112; rw [c1, c2]; rfl) (rfl)
    · skip
      refine hX_goM 2 (15) [some (.int x0), some (.int x1), some (.int x2)] [.int 1] rfl ?_
      exact hX_end rfl (by unfold v_112; rw [c1, c2]; rfl) (rfl)

theorem bz_112 (x0 : Int32) (x1 : Int32) (x2 : Int32) : (decide (v_112 x0 x1 x2 = 0) || decide (v_112 x0 x1 x2 = 1)) = true := by
  unfold v_112
  cases (gCmp .lt x0 x1)
  · cases (gCmp .gt x0 x2)
    · rfl
    · rfl
  · rfl

/-- UpOneSide$Blind.addPull(III)V -/
def f_13_1_b (x0 : Int32) (x1 : Int32) (x2 : Int32) (b : hB) : hB := (b.1, b.2.1, b.2.2.1, b.2.2.2.1, bif gCmp .ge b.2.2.2.2.1 8 then b.2.2.2.2.1 else (b.2.2.2.2.1 + 1), bif gCmp .ge b.2.2.2.2.1 8 then b.2.2.2.2.2.1 else (upd b.2.2.2.2.2.1 (Int32.toNatClampNeg b.2.2.2.2.1) x0), bif gCmp .ge b.2.2.2.2.1 8 then b.2.2.2.2.2.2.1 else (upd b.2.2.2.2.2.2.1 (Int32.toNatClampNeg b.2.2.2.2.1) x1), bif gCmp .ge b.2.2.2.2.1 8 then b.2.2.2.2.2.2.2.1 else (upd b.2.2.2.2.2.2.2.1 (Int32.toNatClampNeg b.2.2.2.2.1) x2), b.2.2.2.2.2.2.2.2)
set_option maxRecDepth 20000 in
set_option maxHeartbeats 1000000 in
theorem ct_13_1 {LL : Nat} {xs : Nat → Int32} {D : Nat} {b d k s w : hB} {ik ex pr wd : Int32} {sn : Nat → Int64} {qu tb : Nat → Int32} {ts : Int32} {r0 : Value} {rq : hRq} {h0 h1 h2 h3 : hSt} {fi : Nat → Int32} {R : List gE} (x0 : Int32) (x1 : Int32) (x2 : Int32) (o1 : gCmp .ge b.2.2.2.2.1 8 = false → gIn b.2.2.2.2.1 8 = true) : hM (gO LL xs) (D + 0) zR_13 [.ref 1, .int x0, .int x1, .int x2] (hCm b d k s w ik ex pr wd sn qu tb ts (r0, rq) h0 h1 h2 h3 fi R) none (hCm (f_13_1_b x0 x1 x2 b) d k s w ik ex pr wd sn qu tb ts (r0, rq) h0 h1 h2 h3 fi R) := by
  refine hX_go 0 0 [some (.ref 1), some (.int x0), some (.int x1), some (.int x2)] [] (hCm b d k s w ik ex pr wd sn qu tb ts (r0, rq) h0 h1 h2 h3 fi R) rfl ?_
  refine hX_go 4 (bif gCmp .ge b.2.2.2.2.1 8 then 49 else 9) [some (.ref 1), some (.int x0), some (.int x1), some (.int x2)] [] (hCm b d k s w ik ex pr wd sn qu tb ts (r0, rq) h0 h1 h2 h3 fi R) rfl ?_
  suffices hk : hX (gO LL xs) (D + 0) zR_13 49 [some (.ref 1), some (.int x0), some (.int x1), some (.int x2)] [] (hCm (b.1, b.2.1, b.2.2.1, b.2.2.2.1, bif gCmp .ge b.2.2.2.2.1 8 then b.2.2.2.2.1 else (b.2.2.2.2.1 + 1), bif gCmp .ge b.2.2.2.2.1 8 then b.2.2.2.2.2.1 else (upd b.2.2.2.2.2.1 (Int32.toNatClampNeg b.2.2.2.2.1) x0), bif gCmp .ge b.2.2.2.2.1 8 then b.2.2.2.2.2.2.1 else (upd b.2.2.2.2.2.2.1 (Int32.toNatClampNeg b.2.2.2.2.1) x1), bif gCmp .ge b.2.2.2.2.1 8 then b.2.2.2.2.2.2.2.1 else (upd b.2.2.2.2.2.2.2.1 (Int32.toNatClampNeg b.2.2.2.2.1) x2), b.2.2.2.2.2.2.2.2) d k s w ik ex pr wd sn qu tb ts (r0, rq) h0 h1 h2 h3 fi R) none (hCm (f_13_1_b x0 x1 x2 b) d k s w ik ex pr wd sn qu tb ts (r0, rq) h0 h1 h2 h3 fi R) by
    refine hX_if (gCmp .ge b.2.2.2.2.1 8) (fun c1 => ?_) (fun c1 => ?_)
    · skip
      have hk := hk
      simp only [c1, cond_true, cond_false] at hk
      first | exact hk | (simp only [c1, cond_true, cond_false]; exact hk)
    · skip
      refine hX_goM 5 (18) [some (.ref 1), some (.int x0), some (.int x1), some (.int x2)] [.int x0, .int b.2.2.2.2.1, .ref 2] rfl ?_
      refine hX_g (gIn b.2.2.2.2.1 8) 19 [some (.ref 1), some (.int x0), some (.int x1), some (.int x2)] [] (hCm (b.1, b.2.1, b.2.2.1, b.2.2.2.1, b.2.2.2.2.1, upd b.2.2.2.2.2.1 (Int32.toNatClampNeg b.2.2.2.2.1) x0, b.2.2.2.2.2.2) d k s w ik ex pr wd sn qu tb ts (r0, rq) h0 h1 h2 h3 fi R) rfl (o1 c1) ?_
      refine hX_goM 5 (28) [some (.ref 1), some (.int x0), some (.int x1), some (.int x2)] [.int x1, .int b.2.2.2.2.1, .ref 3] rfl ?_
      refine hX_g (gIn b.2.2.2.2.1 8) 29 [some (.ref 1), some (.int x0), some (.int x1), some (.int x2)] [] (hCm (b.1, b.2.1, b.2.2.1, b.2.2.2.1, b.2.2.2.2.1, upd b.2.2.2.2.2.1 (Int32.toNatClampNeg b.2.2.2.2.1) x0, upd b.2.2.2.2.2.2.1 (Int32.toNatClampNeg b.2.2.2.2.1) x1, b.2.2.2.2.2.2.2) d k s w ik ex pr wd sn qu tb ts (r0, rq) h0 h1 h2 h3 fi R) rfl (o1 c1) ?_
      refine hX_goM 5 (38) [some (.ref 1), some (.int x0), some (.int x1), some (.int x2)] [.int x2, .int b.2.2.2.2.1, .ref 4] rfl ?_
      refine hX_g (gIn b.2.2.2.2.1 8) 39 [some (.ref 1), some (.int x0), some (.int x1), some (.int x2)] [] (hCm (b.1, b.2.1, b.2.2.1, b.2.2.2.1, b.2.2.2.2.1, upd b.2.2.2.2.2.1 (Int32.toNatClampNeg b.2.2.2.2.1) x0, upd b.2.2.2.2.2.2.1 (Int32.toNatClampNeg b.2.2.2.2.1) x1, upd b.2.2.2.2.2.2.2.1 (Int32.toNatClampNeg b.2.2.2.2.1) x2, b.2.2.2.2.2.2.2.2) d k s w ik ex pr wd sn qu tb ts (r0, rq) h0 h1 h2 h3 fi R) rfl (o1 c1) ?_
      refine hX_go 6 (49) [some (.ref 1), some (.int x0), some (.int x1), some (.int x2)] [] (hCm (b.1, b.2.1, b.2.2.1, b.2.2.2.1, b.2.2.2.2.1 + 1, upd b.2.2.2.2.2.1 (Int32.toNatClampNeg b.2.2.2.2.1) x0, upd b.2.2.2.2.2.2.1 (Int32.toNatClampNeg b.2.2.2.2.1) x1, upd b.2.2.2.2.2.2.2.1 (Int32.toNatClampNeg b.2.2.2.2.1) x2, b.2.2.2.2.2.2.2.2) d k s w ik ex pr wd sn qu tb ts (r0, rq) h0 h1 h2 h3 fi R) rfl ?_
      have hk := hk
      simp only [c1, cond_true, cond_false] at hk
      first | exact hk | (simp only [c1, cond_true, cond_false]; exact hk)
  exact hX_end rfl (rfl) (rfl)

/-- UpOneSide.finding(I)I -/
def v_111_0 (x0 : Int32) : Int32 := (-1000001) - x0
def f_111_0_fi (x0 : Int32) (fi : Nat → Int32) : Nat → Int32 := upd fi (Int32.toNatClampNeg x0) ((fi (Int32.toNatClampNeg x0)) + 1)
set_option maxRecDepth 20000 in
set_option maxHeartbeats 1000000 in
theorem ct_111_0 {LL : Nat} {xs : Nat → Int32} {D : Nat} {b d k s w : hB} {ik ex pr wd : Int32} {sn : Nat → Int64} {qu tb : Nat → Int32} {ts : Int32} {r0 : Value} {rq : hRq} {h0 h1 h2 h3 : hSt} {fi : Nat → Int32} {R : List gE} (x0 : Int32) (o1 : gIn x0 7 = true) : hM (gO LL xs) (D + 0) zR_111 [.ref 0, .int x0] (hCm b d k s w ik ex pr wd sn qu tb ts (r0, rq) h0 h1 h2 h3 fi R) (some (.int (v_111_0 x0))) (hCm b d k s w ik ex pr wd sn qu tb ts (r0, rq) h0 h1 h2 h3 (f_111_0_fi x0 fi) R) := by
  refine hX_go 0 0 [some (.ref 0), some (.int x0)] [] (hCm b d k s w ik ex pr wd sn qu tb ts (r0, rq) h0 h1 h2 h3 fi R) rfl ?_
  refine hX_go 4 (6) [some (.ref 0), some (.int x0)] [.int x0, .ref 54, .int x0, .ref 54] (hCm b d k s w ik ex pr wd sn qu tb ts (r0, rq) h0 h1 h2 h3 fi R) rfl ?_
  refine hX_gM (gIn x0 7) 7 [some (.ref 0), some (.int x0)] [.int (fi (Int32.toNatClampNeg x0)), .int x0, .ref 54] rfl o1 ?_
  refine hX_goM 2 (9) [some (.ref 0), some (.int x0)] [.int ((fi (Int32.toNatClampNeg x0)) + 1), .int x0, .ref 54] rfl ?_
  refine hX_g (gIn x0 7) 10 [some (.ref 0), some (.int x0)] [] (hCm b d k s w ik ex pr wd sn qu tb ts (r0, rq) h0 h1 h2 h3 (upd fi (Int32.toNatClampNeg x0) ((fi (Int32.toNatClampNeg x0)) + 1)) R) rfl o1 ?_
  refine hX_goM 3 (15) [some (.ref 0), some (.int x0)] [.int ((-1000001) - x0)] rfl ?_
  exact hX_end rfl (rfl) (rfl)


/-- UpOneSide.pull(I)I -/
def me_61_0 (N : Nat) (x0 : Int32) (b : hB) (fi : Nat → Int32) : Option (Int32 × hB × (Nat → Int32)) :=
  (bif gCmp .ne (v_112 x0 0 6) 0 then
    (bif gCmp .lt b.2.2.2.2.1 8 then
      (bif ((gCmp .ge b.2.2.2.2.1 8) || (gIn b.2.2.2.2.1 8)) then some (((f_13_1_b x0 5 0 b).2.2.2.2.1) - 1, (f_13_1_b x0 5 0 b), fi) else none)
    else
      some (v_111_0 1, b, f_111_0_fi 1 fi))
  else
    some (v_111_0 0, b, f_111_0_fi 0 fi))
set_option maxRecDepth 20000 in
set_option maxHeartbeats 4000000 in
theorem mt_61_0 {LL : Nat} {xs : Nat → Int32} {D : Nat} {b d k s w : hB} {ik ex pr wd : Int32} {sn : Nat → Int64} {qu tb : Nat → Int32} {ts : Int32} {r0 : Value} {rq : hRq} {h0 h1 h2 h3 : hSt} {fi : Nat → Int32} {R : List gE} (N : Nat) (x0 : Int32) (q : Int32 × hB × (Nat → Int32)) (h : me_61_0 N x0 b fi = some q) : hM (gO LL xs) (D + 1) zR_61 [.ref 0, .int x0] (hCm b d k s w ik ex pr wd sn qu tb ts (r0, rq) h0 h1 h2 h3 fi R) (some (.int q.1)) (hCm q.2.1 d k s w ik ex pr wd sn qu tb ts (r0, rq) h0 h1 h2 h3 q.2.2 R) := by
  unfold me_61_0 at h
  refine hX_go 0 0 [some (.ref 0), some (.int x0)] [] (hCm b d k s w ik ex pr wd sn qu tb ts (r0, rq) h0 h1 h2 h3 fi R) rfl ?_
  refine hX_go 3 (4) [some (.ref 0), some (.int x0)] [.int 6, .int 0, .int x0] (hCm b d k s w ik ex pr wd sn qu tb ts (r0, rq) h0 h1 h2 h3 fi R) rfl ?_
  refine hX_call (r' := zR_112) rfl (ct_112 x0 0 6) ?_
  refine hX_goM 1 (bif gCmp .ne (v_112 x0 0 6) 0 then 16 else 10) [some (.ref 0), some (.int x0)] [] rfl ?_
  refine hX_if (gCmp .ne (v_112 x0 0 6) 0) (fun c1 => ?_) (fun c1 => ?_)
  · skip
    have h := gcT c1 h
    refine hX_goM 5 (bif gCmp .lt b.2.2.2.2.1 8 then 34 else 28) [some (.ref 0), some (.int x0)] [] rfl ?_
    refine hX_if (gCmp .lt b.2.2.2.2.1 8) (fun c2 => ?_) (fun c2 => ?_)
    · skip
      have h := gcT c2 h
      refine hX_goM 5 (41) [some (.ref 0), some (.int x0)] [.int 0, .int 5, .int x0, .ref 1] rfl ?_
      revert h; refine gCondR fun g3 h => ?_
      refine hX_call (r' := zR_13) rfl (ct_13_1 x0 5 0 (fun u0 => (gImpF g3 u0))) ?_
      refine hX_go 5 (53) [some (.ref 0), some (.int x0)] [.int (((f_13_1_b x0 5 0 b).2.2.2.2.1) - 1)] (hCm (f_13_1_b x0 5 0 b) d k s w ik ex pr wd sn qu tb ts (r0, rq) h0 h1 h2 h3 fi R) rfl ?_
      have h := Option.some.inj h; subst h
      exact hX_end rfl rfl rfl
    · skip
      have h := gcF c2 h
      refine hX_goM 2 (30) [some (.ref 0), some (.int x0)] [.int 1, .ref 0] rfl ?_
      refine hX_call (r' := zR_111) rfl (ct_111_0 1 rfl) ?_
      refine hX_go 0 (33) [some (.ref 0), some (.int x0)] [.int (v_111_0 1)] (hCm b d k s w ik ex pr wd sn qu tb ts (r0, rq) h0 h1 h2 h3 (f_111_0_fi 1 fi) R) rfl ?_
      have h := Option.some.inj h; subst h
      exact hX_end rfl rfl rfl
  · skip
    have h := gcF c1 h
    refine hX_goM 2 (12) [some (.ref 0), some (.int x0)] [.int 0, .ref 0] rfl ?_
    refine hX_call (r' := zR_111) rfl (ct_111_0 0 rfl) ?_
    refine hX_go 0 (15) [some (.ref 0), some (.int x0)] [.int (v_111_0 0)] (hCm b d k s w ik ex pr wd sn qu tb ts (r0, rq) h0 h1 h2 h3 (f_111_0_fi 0 fi) R) rfl ?_
    have h := Option.some.inj h; subst h
    exact hX_end rfl rfl rfl

/-- UpOneSide.noPull(I)Z -/
def v_113_0 (x0 : Int32) (b : hB) : Int32 := bif gCmp .lt x0 0 then 1 else (bif gCmp .lt x0 b.2.2.2.2.1 then 0 else 1)
set_option maxRecDepth 20000 in
set_option maxHeartbeats 1000000 in
theorem ct_113_0 {LL : Nat} {xs : Nat → Int32} {D : Nat} {b d k s w : hB} {ik ex pr wd : Int32} {sn : Nat → Int64} {qu tb : Nat → Int32} {ts : Int32} {r0 : Value} {rq : hRq} {h0 h1 h2 h3 : hSt} {fi : Nat → Int32} {R : List gE} (x0 : Int32) : hM (gO LL xs) (D + 0) zR_113 [.ref 0, .int x0] (hCm b d k s w ik ex pr wd sn qu tb ts (r0, rq) h0 h1 h2 h3 fi R) (some (.int (v_113_0 x0 b))) (hCm b d k s w ik ex pr wd sn qu tb ts (r0, rq) h0 h1 h2 h3 fi R) := by
  refine hX_go 0 0 [some (.ref 0), some (.int x0)] [] (hCm b d k s w ik ex pr wd sn qu tb ts (r0, rq) h0 h1 h2 h3 fi R) rfl ?_
  refine hX_go 2 (bif gCmp .lt x0 0 then 15 else 4) [some (.ref 0), some (.int x0)] [] (hCm b d k s w ik ex pr wd sn qu tb ts (r0, rq) h0 h1 h2 h3 fi R) rfl ?_
  refine hX_if (gCmp .lt x0 0) (fun c1 => ?_) (fun c1 => ?_)
  · skip
    refine hX_goM 2 (20) [some (.ref 0), some (.int x0)] [.int 1] rfl ?_
    exact hX_end rfl (by unfold v_113_0; rw [c1]; rfl) (rfl)
  · skip
    refine hX_goM 5 (bif gCmp .lt x0 b.2.2.2.2.1 then 19 else 15) [some (.ref 0), some (.int x0)] [] rfl ?_
    refine hX_if (gCmp .lt x0 b.2.2.2.2.1) (fun c2 => ?_) (fun c2 => ?_)
    · skip
      refine hX_goM 1 (20) [some (.ref 0), some (.int x0)] [.int 0] rfl ?_
      exact hX_end rfl (by unfold v_113_0; rw [c1, c2]; rfl) (rfl)
    · skip
      refine hX_goM 2 (20) [some (.ref 0), some (.int x0)] [.int 1] rfl ?_
      exact hX_end rfl (by unfold v_113_0; rw [c1, c2]; rfl) (rfl)

theorem bz_113_0 (x0 : Int32) (b : hB) : (decide (v_113_0 x0 b = 0) || decide (v_113_0 x0 b = 1)) = true := by
  unfold v_113_0
  cases (gCmp .lt x0 0)
  · cases (gCmp .lt x0 b.2.2.2.2.1)
    · rfl
    · rfl
  · rfl

theorem ct_12_1_0 {LL : Nat} {xs : Nat → Int32} {D : Nat} {b d k s w : hB} {ik ex pr wd : Int32} {sn : Nat → Int64} {qu tb : Nat → Int32} {ts : Int32} {r0 : Value} {rq : hRq} {h0 h1 h2 h3 : hSt} {fi : Nat → Int32} {R : List gE} (x0 : Int32) (f0 : gCmp .ne x0 0 = true) (f1 : gCmp .ne x0 1 = true) : hM (gO LL xs) (D + 0) zR_12 [.ref 1, .int x0] (hCm b d k s w ik ex pr wd sn qu tb ts (r0, rq) h0 h1 h2 h3 fi R) (some (.ref 4)) (hCm b d k s w ik ex pr wd sn qu tb ts (r0, rq) h0 h1 h2 h3 fi R) := by
  refine hX_go 0 0 [some (.ref 1), some (.int x0)] [] (hCm b d k s w ik ex pr wd sn qu tb ts (r0, rq) h0 h1 h2 h3 fi R) rfl ?_
  refine hX_go 2 (bif gCmp .ne x0 0 then 9 else 4) [some (.ref 1), some (.int x0)] [] (hCm b d k s w ik ex pr wd sn qu tb ts (r0, rq) h0 h1 h2 h3 fi R) rfl ?_
  refine hX_ifT (gCmp .ne x0 0) f0 ?_
  refine hX_goM 3 (bif gCmp .ne x0 1 then 21 else 14) [some (.ref 1), some (.int x0)] [] rfl ?_
  refine hX_ifT (gCmp .ne x0 1) f1 ?_
  refine hX_goM 2 (25) [some (.ref 1), some (.int x0)] [.ref 4] rfl ?_
  exact hX_end rfl rfl rfl

theorem ct_12_1_1 {LL : Nat} {xs : Nat → Int32} {D : Nat} {b d k s w : hB} {ik ex pr wd : Int32} {sn : Nat → Int64} {qu tb : Nat → Int32} {ts : Int32} {r0 : Value} {rq : hRq} {h0 h1 h2 h3 : hSt} {fi : Nat → Int32} {R : List gE} (x0 : Int32) (f0 : gCmp .ne x0 0 = true) (f1 : gCmp .ne x0 1 = false) : hM (gO LL xs) (D + 0) zR_12 [.ref 1, .int x0] (hCm b d k s w ik ex pr wd sn qu tb ts (r0, rq) h0 h1 h2 h3 fi R) (some (.ref 3)) (hCm b d k s w ik ex pr wd sn qu tb ts (r0, rq) h0 h1 h2 h3 fi R) := by
  refine hX_go 0 0 [some (.ref 1), some (.int x0)] [] (hCm b d k s w ik ex pr wd sn qu tb ts (r0, rq) h0 h1 h2 h3 fi R) rfl ?_
  refine hX_go 2 (bif gCmp .ne x0 0 then 9 else 4) [some (.ref 1), some (.int x0)] [] (hCm b d k s w ik ex pr wd sn qu tb ts (r0, rq) h0 h1 h2 h3 fi R) rfl ?_
  refine hX_ifT (gCmp .ne x0 0) f0 ?_
  refine hX_goM 3 (bif gCmp .ne x0 1 then 21 else 14) [some (.ref 1), some (.int x0)] [] rfl ?_
  refine hX_ifF (gCmp .ne x0 1) f1 ?_
  refine hX_goM 3 (25) [some (.ref 1), some (.int x0)] [.ref 3] rfl ?_
  exact hX_end rfl rfl rfl

theorem ct_12_1_2 {LL : Nat} {xs : Nat → Int32} {D : Nat} {b d k s w : hB} {ik ex pr wd : Int32} {sn : Nat → Int64} {qu tb : Nat → Int32} {ts : Int32} {r0 : Value} {rq : hRq} {h0 h1 h2 h3 : hSt} {fi : Nat → Int32} {R : List gE} (x0 : Int32) (f0 : gCmp .ne x0 0 = false) : hM (gO LL xs) (D + 0) zR_12 [.ref 1, .int x0] (hCm b d k s w ik ex pr wd sn qu tb ts (r0, rq) h0 h1 h2 h3 fi R) (some (.ref 2)) (hCm b d k s w ik ex pr wd sn qu tb ts (r0, rq) h0 h1 h2 h3 fi R) := by
  refine hX_go 0 0 [some (.ref 1), some (.int x0)] [] (hCm b d k s w ik ex pr wd sn qu tb ts (r0, rq) h0 h1 h2 h3 fi R) rfl ?_
  refine hX_go 2 (bif gCmp .ne x0 0 then 9 else 4) [some (.ref 1), some (.int x0)] [] (hCm b d k s w ik ex pr wd sn qu tb ts (r0, rq) h0 h1 h2 h3 fi R) rfl ?_
  refine hX_ifF (gCmp .ne x0 0) f0 ?_
  refine hX_goM 2 (8) [some (.ref 1), some (.int x0)] [.ref 2] rfl ?_
  exact hX_end rfl rfl rfl

theorem sw_17_13 (x : Int32) : gSwT 13 127 1 6 #[39, 56, 75, 75, 127, 96] x = some (bif hEq x 1 then 52 else bif hEq x 2 then 69 else bif hEq x 3 then 88 else bif hEq x 4 then 88 else bif hEq x 5 then 140 else bif hEq x 6 then 109 else 140) := by
  by_cases q1 : x = 1
  · subst q1; rfl
  by_cases q2 : x = 2
  · subst q2; rfl
  by_cases q3 : x = 3
  · subst q3; rfl
  by_cases q4 : x = 4
  · subst q4; rfl
  by_cases q5 : x = 5
  · subst q5; rfl
  by_cases q6 : x = 6
  · subst q6; rfl
  simp only [hEq, q1, q2, q3, q4, q5, q6, decide_false, cond_false]
  have n1 := hNe q1
  have n2 := hNe q2
  have n3 := hNe q3
  have n4 := hNe q4
  have n5 := hNe q5
  have n6 := hNe q6
  unfold gSwT
  rw [show (decide (x.toInt < 1) || decide (6 < x.toInt)) = true from by
    simp only [Bool.or_eq_true, decide_eq_true_eq]
    have e : ∀ z : Int, z < 1 ∨ 6 < z ∨ (z = 1 ∨ z = 2 ∨ z = 3 ∨ z = 4 ∨ z = 5 ∨ z = 6) := by intro z; omega
    rcases e x.toInt with h | h | h
    · exact Or.inl h
    · exact Or.inr h
    · rcases h with h | h | h | h | h | h
      · exact absurd h n1
      · exact absurd h n2
      · exact absurd h n3
      · exact absurd h n4
      · exact absurd h n5
      · exact absurd h n6
    ]
  rfl

/-- UpOneSide$Blind.rightLift(I)I -/
def v_17_1 (x0 : Int32) (b : hB) : Int32 := bif gCmp .lt b.2.1 30 then (bif hEq (b.2.2.2.2.2.1 (Int32.toNatClampNeg x0)) 1 then ((b.2.2.2.2.2.2.1 (Int32.toNatClampNeg x0)) + ((b.1 - b.2.1) / 2)) else (bif hEq (b.2.2.2.2.2.1 (Int32.toNatClampNeg x0)) 2 then ((b.2.2.2.2.2.2.1 (Int32.toNatClampNeg x0)) - ((b.2.2.2.2.2.2.2.2.1 1) + (b.2.2.2.2.2.2.2.1 (Int32.toNatClampNeg x0)))) else (bif hEq (b.2.2.2.2.2.1 (Int32.toNatClampNeg x0)) 3 then ((b.2.2.2.2.2.2.1 (Int32.toNatClampNeg x0)) - ((2 * (b.2.2.2.2.2.2.2.2.1 1)) + (b.2.2.2.2.2.2.2.1 (Int32.toNatClampNeg x0)))) else (bif hEq (b.2.2.2.2.2.1 (Int32.toNatClampNeg x0)) 4 then ((b.2.2.2.2.2.2.1 (Int32.toNatClampNeg x0)) - ((2 * (b.2.2.2.2.2.2.2.2.1 1)) + (b.2.2.2.2.2.2.2.1 (Int32.toNatClampNeg x0)))) else (bif hEq (b.2.2.2.2.2.1 (Int32.toNatClampNeg x0)) 5 then ((b.2.2.2.2.2.2.1 (Int32.toNatClampNeg x0)) - (b.2.2.2.2.2.2.2.2.1 1)) else (bif hEq (b.2.2.2.2.2.1 (Int32.toNatClampNeg x0)) 6 then (bif gCmp .le b.2.1 b.1 then ((b.2.2.2.2.2.2.1 (Int32.toNatClampNeg x0)) - (b.2.2.2.2.2.2.2.2.1 1)) else (((b.2.2.2.2.2.2.1 (Int32.toNatClampNeg x0)) - (b.2.2.2.2.2.2.2.2.1 1)) / 2)) else ((b.2.2.2.2.2.2.1 (Int32.toNatClampNeg x0)) - (b.2.2.2.2.2.2.2.2.1 1)))))))) else ((bif hEq (b.2.2.2.2.2.1 (Int32.toNatClampNeg x0)) 1 then ((b.2.2.2.2.2.2.1 (Int32.toNatClampNeg x0)) + ((b.1 - b.2.1) / 2)) else (bif hEq (b.2.2.2.2.2.1 (Int32.toNatClampNeg x0)) 2 then ((b.2.2.2.2.2.2.1 (Int32.toNatClampNeg x0)) - ((b.2.2.2.2.2.2.2.2.1 1) + (b.2.2.2.2.2.2.2.1 (Int32.toNatClampNeg x0)))) else (bif hEq (b.2.2.2.2.2.1 (Int32.toNatClampNeg x0)) 3 then ((b.2.2.2.2.2.2.1 (Int32.toNatClampNeg x0)) - ((2 * (b.2.2.2.2.2.2.2.2.1 1)) + (b.2.2.2.2.2.2.2.1 (Int32.toNatClampNeg x0)))) else (bif hEq (b.2.2.2.2.2.1 (Int32.toNatClampNeg x0)) 4 then ((b.2.2.2.2.2.2.1 (Int32.toNatClampNeg x0)) - ((2 * (b.2.2.2.2.2.2.2.2.1 1)) + (b.2.2.2.2.2.2.2.1 (Int32.toNatClampNeg x0)))) else (bif hEq (b.2.2.2.2.2.1 (Int32.toNatClampNeg x0)) 5 then ((b.2.2.2.2.2.2.1 (Int32.toNatClampNeg x0)) - (b.2.2.2.2.2.2.2.2.1 1)) else (bif hEq (b.2.2.2.2.2.1 (Int32.toNatClampNeg x0)) 6 then (bif gCmp .le b.2.1 b.1 then ((b.2.2.2.2.2.2.1 (Int32.toNatClampNeg x0)) - (b.2.2.2.2.2.2.2.2.1 1)) else (((b.2.2.2.2.2.2.1 (Int32.toNatClampNeg x0)) - (b.2.2.2.2.2.2.2.2.1 1)) / 2)) else ((b.2.2.2.2.2.2.1 (Int32.toNatClampNeg x0)) - (b.2.2.2.2.2.2.2.2.1 1)))))))) + (b.2.2.2.2.2.2.2.2.1 0))
set_option maxRecDepth 20000 in
set_option maxHeartbeats 1000000 in
theorem ct_17_1 {LL : Nat} {xs : Nat → Int32} {D : Nat} {b d k s w : hB} {ik ex pr wd : Int32} {sn : Nat → Int64} {qu tb : Nat → Int32} {ts : Int32} {r0 : Value} {rq : hRq} {h0 h1 h2 h3 : hSt} {fi : Nat → Int32} {R : List gE} (x0 : Int32) (o1 : gIn x0 8 = true) : hM (gO LL xs) (D + 0) zR_17 [.ref 1, .int x0] (hCm b d k s w ik ex pr wd sn qu tb ts (r0, rq) h0 h1 h2 h3 fi R) (some (.int (v_17_1 x0 b))) (hCm b d k s w ik ex pr wd sn qu tb ts (r0, rq) h0 h1 h2 h3 fi R) := by
  refine hX_go 0 0 [some (.ref 1), some (.int x0), none] [] (hCm b d k s w ik ex pr wd sn qu tb ts (r0, rq) h0 h1 h2 h3 fi R) rfl ?_
  refine hX_go 3 (5) [some (.ref 1), some (.int x0), none] [.int x0, .ref 3] (hCm b d k s w ik ex pr wd sn qu tb ts (r0, rq) h0 h1 h2 h3 fi R) rfl ?_
  refine hX_gM (gIn x0 8) 6 [some (.ref 1), some (.int x0), none] [.int (b.2.2.2.2.2.2.1 (Int32.toNatClampNeg x0))] rfl o1 ?_
  refine hX_goM 4 (12) [some (.ref 1), some (.int x0), some (.int (b.2.2.2.2.2.2.1 (Int32.toNatClampNeg x0)))] [.int x0, .ref 2] rfl ?_
  refine hX_gM (gIn x0 8) 13 [some (.ref 1), some (.int x0), some (.int (b.2.2.2.2.2.2.1 (Int32.toNatClampNeg x0)))] [.int (b.2.2.2.2.2.1 (Int32.toNatClampNeg x0))] rfl o1 ?_
  refine hX_sw (bif hEq (b.2.2.2.2.2.1 (Int32.toNatClampNeg x0)) 1 then 52 else bif hEq (b.2.2.2.2.2.1 (Int32.toNatClampNeg x0)) 2 then 69 else bif hEq (b.2.2.2.2.2.1 (Int32.toNatClampNeg x0)) 3 then 88 else bif hEq (b.2.2.2.2.2.1 (Int32.toNatClampNeg x0)) 4 then 88 else bif hEq (b.2.2.2.2.2.1 (Int32.toNatClampNeg x0)) 5 then 140 else bif hEq (b.2.2.2.2.2.1 (Int32.toNatClampNeg x0)) 6 then 109 else 140) rfl (sw_17_13 (b.2.2.2.2.2.1 (Int32.toNatClampNeg x0))) ?_
  suffices hk : hX (gO LL xs) (D + 0) zR_17 149 [some (.ref 1), some (.int x0), some (.int (bif hEq (b.2.2.2.2.2.1 (Int32.toNatClampNeg x0)) 1 then ((b.2.2.2.2.2.2.1 (Int32.toNatClampNeg x0)) + ((b.1 - b.2.1) / 2)) else (bif hEq (b.2.2.2.2.2.1 (Int32.toNatClampNeg x0)) 2 then ((b.2.2.2.2.2.2.1 (Int32.toNatClampNeg x0)) - ((b.2.2.2.2.2.2.2.2.1 1) + (b.2.2.2.2.2.2.2.1 (Int32.toNatClampNeg x0)))) else (bif hEq (b.2.2.2.2.2.1 (Int32.toNatClampNeg x0)) 3 then ((b.2.2.2.2.2.2.1 (Int32.toNatClampNeg x0)) - ((2 * (b.2.2.2.2.2.2.2.2.1 1)) + (b.2.2.2.2.2.2.2.1 (Int32.toNatClampNeg x0)))) else (bif hEq (b.2.2.2.2.2.1 (Int32.toNatClampNeg x0)) 4 then ((b.2.2.2.2.2.2.1 (Int32.toNatClampNeg x0)) - ((2 * (b.2.2.2.2.2.2.2.2.1 1)) + (b.2.2.2.2.2.2.2.1 (Int32.toNatClampNeg x0)))) else (bif hEq (b.2.2.2.2.2.1 (Int32.toNatClampNeg x0)) 5 then ((b.2.2.2.2.2.2.1 (Int32.toNatClampNeg x0)) - (b.2.2.2.2.2.2.2.2.1 1)) else (bif hEq (b.2.2.2.2.2.1 (Int32.toNatClampNeg x0)) 6 then (bif gCmp .le b.2.1 b.1 then ((b.2.2.2.2.2.2.1 (Int32.toNatClampNeg x0)) - (b.2.2.2.2.2.2.2.2.1 1)) else (((b.2.2.2.2.2.2.1 (Int32.toNatClampNeg x0)) - (b.2.2.2.2.2.2.2.2.1 1)) / 2)) else ((b.2.2.2.2.2.2.1 (Int32.toNatClampNeg x0)) - (b.2.2.2.2.2.2.2.2.1 1)))))))))] [] (hCm b d k s w ik ex pr wd sn qu tb ts (r0, rq) h0 h1 h2 h3 fi R) (some (.int (v_17_1 x0 b))) (hCm b d k s w ik ex pr wd sn qu tb ts (r0, rq) h0 h1 h2 h3 fi R) by
    refine hX_if (hEq (b.2.2.2.2.2.1 (Int32.toNatClampNeg x0)) 1) (fun c1 => ?_) (fun c1 => ?_)
    · skip
      refine hX_goM 9 (65) [some (.ref 1), some (.int x0), some (.int (b.2.2.2.2.2.2.1 (Int32.toNatClampNeg x0)))] [.int ((b.2.2.2.2.2.2.1 (Int32.toNatClampNeg x0)) + ((b.1 - b.2.1) / 2))] rfl ?_
      refine hX_goM 2 (149) [some (.ref 1), some (.int x0), some (.int ((b.2.2.2.2.2.2.1 (Int32.toNatClampNeg x0)) + ((b.1 - b.2.1) / 2)))] [] rfl ?_
      have hk := hk
      simp only [c1, cond_true, cond_false] at hk
      first | exact hk | (simp only [c1, cond_true, cond_false]; exact hk)
    · skip
      refine hX_if (hEq (b.2.2.2.2.2.1 (Int32.toNatClampNeg x0)) 2) (fun c2 => ?_) (fun c2 => ?_)
      · skip
        refine hX_goM 8 (81) [some (.ref 1), some (.int x0), some (.int (b.2.2.2.2.2.2.1 (Int32.toNatClampNeg x0)))] [.int x0, .ref 4, .int (b.2.2.2.2.2.2.2.2.1 1), .int (b.2.2.2.2.2.2.1 (Int32.toNatClampNeg x0))] rfl ?_
        refine hX_gM (gIn x0 8) 82 [some (.ref 1), some (.int x0), some (.int (b.2.2.2.2.2.2.1 (Int32.toNatClampNeg x0)))] [.int (b.2.2.2.2.2.2.2.1 (Int32.toNatClampNeg x0)), .int (b.2.2.2.2.2.2.2.2.1 1), .int (b.2.2.2.2.2.2.1 (Int32.toNatClampNeg x0))] rfl o1 ?_
        refine hX_goM 4 (149) [some (.ref 1), some (.int x0), some (.int ((b.2.2.2.2.2.2.1 (Int32.toNatClampNeg x0)) - ((b.2.2.2.2.2.2.2.2.1 1) + (b.2.2.2.2.2.2.2.1 (Int32.toNatClampNeg x0)))))] [] rfl ?_
        have hk := hk
        simp only [c1, c2, cond_true, cond_false] at hk
        first | exact hk | (simp only [c1, c2, cond_true, cond_false]; exact hk)
      · skip
        refine hX_if (hEq (b.2.2.2.2.2.1 (Int32.toNatClampNeg x0)) 3) (fun c3 => ?_) (fun c3 => ?_)
        · skip
          refine hX_goM 9 (101) [some (.ref 1), some (.int x0), some (.int (b.2.2.2.2.2.2.1 (Int32.toNatClampNeg x0)))] [.ref 4, .int (2 * (b.2.2.2.2.2.2.2.2.1 1)), .int (b.2.2.2.2.2.2.1 (Int32.toNatClampNeg x0))] rfl ?_
          refine hX_goM 1 (102) [some (.ref 1), some (.int x0), some (.int (b.2.2.2.2.2.2.1 (Int32.toNatClampNeg x0)))] [.int x0, .ref 4, .int (2 * (b.2.2.2.2.2.2.2.2.1 1)), .int (b.2.2.2.2.2.2.1 (Int32.toNatClampNeg x0))] rfl ?_
          refine hX_gM (gIn x0 8) 103 [some (.ref 1), some (.int x0), some (.int (b.2.2.2.2.2.2.1 (Int32.toNatClampNeg x0)))] [.int (b.2.2.2.2.2.2.2.1 (Int32.toNatClampNeg x0)), .int (2 * (b.2.2.2.2.2.2.2.2.1 1)), .int (b.2.2.2.2.2.2.1 (Int32.toNatClampNeg x0))] rfl o1 ?_
          refine hX_goM 4 (149) [some (.ref 1), some (.int x0), some (.int ((b.2.2.2.2.2.2.1 (Int32.toNatClampNeg x0)) - ((2 * (b.2.2.2.2.2.2.2.2.1 1)) + (b.2.2.2.2.2.2.2.1 (Int32.toNatClampNeg x0)))))] [] rfl ?_
          have hk := hk
          simp only [c1, c2, c3, cond_true, cond_false] at hk
          first | exact hk | (simp only [c1, c2, c3, cond_true, cond_false]; exact hk)
        · skip
          refine hX_if (hEq (b.2.2.2.2.2.1 (Int32.toNatClampNeg x0)) 4) (fun c4 => ?_) (fun c4 => ?_)
          · skip
            refine hX_goM 9 (101) [some (.ref 1), some (.int x0), some (.int (b.2.2.2.2.2.2.1 (Int32.toNatClampNeg x0)))] [.ref 4, .int (2 * (b.2.2.2.2.2.2.2.2.1 1)), .int (b.2.2.2.2.2.2.1 (Int32.toNatClampNeg x0))] rfl ?_
            refine hX_goM 1 (102) [some (.ref 1), some (.int x0), some (.int (b.2.2.2.2.2.2.1 (Int32.toNatClampNeg x0)))] [.int x0, .ref 4, .int (2 * (b.2.2.2.2.2.2.2.2.1 1)), .int (b.2.2.2.2.2.2.1 (Int32.toNatClampNeg x0))] rfl ?_
            refine hX_gM (gIn x0 8) 103 [some (.ref 1), some (.int x0), some (.int (b.2.2.2.2.2.2.1 (Int32.toNatClampNeg x0)))] [.int (b.2.2.2.2.2.2.2.1 (Int32.toNatClampNeg x0)), .int (2 * (b.2.2.2.2.2.2.2.2.1 1)), .int (b.2.2.2.2.2.2.1 (Int32.toNatClampNeg x0))] rfl o1 ?_
            refine hX_goM 4 (149) [some (.ref 1), some (.int x0), some (.int ((b.2.2.2.2.2.2.1 (Int32.toNatClampNeg x0)) - ((2 * (b.2.2.2.2.2.2.2.2.1 1)) + (b.2.2.2.2.2.2.2.1 (Int32.toNatClampNeg x0)))))] [] rfl ?_
            have hk := hk
            simp only [c1, c2, c3, c4, cond_true, cond_false] at hk
            first | exact hk | (simp only [c1, c2, c3, c4, cond_true, cond_false]; exact hk)
          · skip
            refine hX_if (hEq (b.2.2.2.2.2.1 (Int32.toNatClampNeg x0)) 5) (fun c5 => ?_) (fun c5 => ?_)
            · skip
              refine hX_goM 7 (149) [some (.ref 1), some (.int x0), some (.int ((b.2.2.2.2.2.2.1 (Int32.toNatClampNeg x0)) - (b.2.2.2.2.2.2.2.2.1 1)))] [] rfl ?_
              have hk := hk
              simp only [c1, c2, c3, c4, c5, cond_true, cond_false] at hk
              first | exact hk | (simp only [c1, c2, c3, c4, c5, cond_true, cond_false]; exact hk)
            · skip
              refine hX_if (hEq (b.2.2.2.2.2.1 (Int32.toNatClampNeg x0)) 6) (fun c6 => ?_) (fun c6 => ?_)
              · skip
                refine hX_goM 9 (122) [some (.ref 1), some (.int x0), some (.int ((b.2.2.2.2.2.2.1 (Int32.toNatClampNeg x0)) - (b.2.2.2.2.2.2.2.2.1 1)))] [.int b.2.1] rfl ?_
                refine hX_goM 3 (bif gCmp .le b.2.1 b.1 then 135 else 129) [some (.ref 1), some (.int x0), some (.int ((b.2.2.2.2.2.2.1 (Int32.toNatClampNeg x0)) - (b.2.2.2.2.2.2.2.2.1 1)))] [] rfl ?_
                suffices hk : hX (gO LL xs) (D + 0) zR_17 136 [some (.ref 1), some (.int x0), some (.int ((b.2.2.2.2.2.2.1 (Int32.toNatClampNeg x0)) - (b.2.2.2.2.2.2.2.2.1 1)))] [.int (bif gCmp .le b.2.1 b.1 then ((b.2.2.2.2.2.2.1 (Int32.toNatClampNeg x0)) - (b.2.2.2.2.2.2.2.2.1 1)) else (((b.2.2.2.2.2.2.1 (Int32.toNatClampNeg x0)) - (b.2.2.2.2.2.2.2.2.1 1)) / 2))] (hCm b d k s w ik ex pr wd sn qu tb ts (r0, rq) h0 h1 h2 h3 fi R) (some (.int (v_17_1 x0 b))) (hCm b d k s w ik ex pr wd sn qu tb ts (r0, rq) h0 h1 h2 h3 fi R) by
                  refine hX_if (gCmp .le b.2.1 b.1) (fun c7 => ?_) (fun c7 => ?_)
                  · skip
                    refine hX_goM 1 (136) [some (.ref 1), some (.int x0), some (.int ((b.2.2.2.2.2.2.1 (Int32.toNatClampNeg x0)) - (b.2.2.2.2.2.2.2.2.1 1)))] [.int ((b.2.2.2.2.2.2.1 (Int32.toNatClampNeg x0)) - (b.2.2.2.2.2.2.2.2.1 1))] rfl ?_
                    have hk := hk
                    simp only [c7, cond_true, cond_false] at hk
                    first | exact hk | (simp only [c7, cond_true, cond_false]; exact hk)
                  · skip
                    refine hX_goM 4 (136) [some (.ref 1), some (.int x0), some (.int ((b.2.2.2.2.2.2.1 (Int32.toNatClampNeg x0)) - (b.2.2.2.2.2.2.2.2.1 1)))] [.int (((b.2.2.2.2.2.2.1 (Int32.toNatClampNeg x0)) - (b.2.2.2.2.2.2.2.2.1 1)) / 2)] rfl ?_
                    have hk := hk
                    simp only [c7, cond_true, cond_false] at hk
                    first | exact hk | (simp only [c7, cond_true, cond_false]; exact hk)
                refine hX_goM 2 (149) [some (.ref 1), some (.int x0), some (.int (bif gCmp .le b.2.1 b.1 then ((b.2.2.2.2.2.2.1 (Int32.toNatClampNeg x0)) - (b.2.2.2.2.2.2.2.2.1 1)) else (((b.2.2.2.2.2.2.1 (Int32.toNatClampNeg x0)) - (b.2.2.2.2.2.2.2.2.1 1)) / 2)))] [] rfl ?_
                have hk := hk
                simp only [c1, c2, c3, c4, c5, c6, cond_true, cond_false] at hk
                first | exact hk | (simp only [c1, c2, c3, c4, c5, c6, cond_true, cond_false]; exact hk)
              · skip
                refine hX_goM 7 (149) [some (.ref 1), some (.int x0), some (.int ((b.2.2.2.2.2.2.1 (Int32.toNatClampNeg x0)) - (b.2.2.2.2.2.2.2.2.1 1)))] [] rfl ?_
                have hk := hk
                simp only [c1, c2, c3, c4, c5, c6, cond_true, cond_false] at hk
                first | exact hk | (simp only [c1, c2, c3, c4, c5, c6, cond_true, cond_false]; exact hk)
  refine hX_goM 4 (bif gCmp .lt b.2.1 30 then 169 else 158) [some (.ref 1), some (.int x0), some (.int (bif hEq (b.2.2.2.2.2.1 (Int32.toNatClampNeg x0)) 1 then ((b.2.2.2.2.2.2.1 (Int32.toNatClampNeg x0)) + ((b.1 - b.2.1) / 2)) else (bif hEq (b.2.2.2.2.2.1 (Int32.toNatClampNeg x0)) 2 then ((b.2.2.2.2.2.2.1 (Int32.toNatClampNeg x0)) - ((b.2.2.2.2.2.2.2.2.1 1) + (b.2.2.2.2.2.2.2.1 (Int32.toNatClampNeg x0)))) else (bif hEq (b.2.2.2.2.2.1 (Int32.toNatClampNeg x0)) 3 then ((b.2.2.2.2.2.2.1 (Int32.toNatClampNeg x0)) - ((2 * (b.2.2.2.2.2.2.2.2.1 1)) + (b.2.2.2.2.2.2.2.1 (Int32.toNatClampNeg x0)))) else (bif hEq (b.2.2.2.2.2.1 (Int32.toNatClampNeg x0)) 4 then ((b.2.2.2.2.2.2.1 (Int32.toNatClampNeg x0)) - ((2 * (b.2.2.2.2.2.2.2.2.1 1)) + (b.2.2.2.2.2.2.2.1 (Int32.toNatClampNeg x0)))) else (bif hEq (b.2.2.2.2.2.1 (Int32.toNatClampNeg x0)) 5 then ((b.2.2.2.2.2.2.1 (Int32.toNatClampNeg x0)) - (b.2.2.2.2.2.2.2.2.1 1)) else (bif hEq (b.2.2.2.2.2.1 (Int32.toNatClampNeg x0)) 6 then (bif gCmp .le b.2.1 b.1 then ((b.2.2.2.2.2.2.1 (Int32.toNatClampNeg x0)) - (b.2.2.2.2.2.2.2.2.1 1)) else (((b.2.2.2.2.2.2.1 (Int32.toNatClampNeg x0)) - (b.2.2.2.2.2.2.2.2.1 1)) / 2)) else ((b.2.2.2.2.2.2.1 (Int32.toNatClampNeg x0)) - (b.2.2.2.2.2.2.2.2.1 1)))))))))] [] rfl ?_
  suffices hk : hX (gO LL xs) (D + 0) zR_17 170 [some (.ref 1), some (.int x0), some (.int (bif hEq (b.2.2.2.2.2.1 (Int32.toNatClampNeg x0)) 1 then ((b.2.2.2.2.2.2.1 (Int32.toNatClampNeg x0)) + ((b.1 - b.2.1) / 2)) else (bif hEq (b.2.2.2.2.2.1 (Int32.toNatClampNeg x0)) 2 then ((b.2.2.2.2.2.2.1 (Int32.toNatClampNeg x0)) - ((b.2.2.2.2.2.2.2.2.1 1) + (b.2.2.2.2.2.2.2.1 (Int32.toNatClampNeg x0)))) else (bif hEq (b.2.2.2.2.2.1 (Int32.toNatClampNeg x0)) 3 then ((b.2.2.2.2.2.2.1 (Int32.toNatClampNeg x0)) - ((2 * (b.2.2.2.2.2.2.2.2.1 1)) + (b.2.2.2.2.2.2.2.1 (Int32.toNatClampNeg x0)))) else (bif hEq (b.2.2.2.2.2.1 (Int32.toNatClampNeg x0)) 4 then ((b.2.2.2.2.2.2.1 (Int32.toNatClampNeg x0)) - ((2 * (b.2.2.2.2.2.2.2.2.1 1)) + (b.2.2.2.2.2.2.2.1 (Int32.toNatClampNeg x0)))) else (bif hEq (b.2.2.2.2.2.1 (Int32.toNatClampNeg x0)) 5 then ((b.2.2.2.2.2.2.1 (Int32.toNatClampNeg x0)) - (b.2.2.2.2.2.2.2.2.1 1)) else (bif hEq (b.2.2.2.2.2.1 (Int32.toNatClampNeg x0)) 6 then (bif gCmp .le b.2.1 b.1 then ((b.2.2.2.2.2.2.1 (Int32.toNatClampNeg x0)) - (b.2.2.2.2.2.2.2.2.1 1)) else (((b.2.2.2.2.2.2.1 (Int32.toNatClampNeg x0)) - (b.2.2.2.2.2.2.2.2.1 1)) / 2)) else ((b.2.2.2.2.2.2.1 (Int32.toNatClampNeg x0)) - (b.2.2.2.2.2.2.2.2.1 1)))))))))] [.int (bif gCmp .lt b.2.1 30 then (bif hEq (b.2.2.2.2.2.1 (Int32.toNatClampNeg x0)) 1 then ((b.2.2.2.2.2.2.1 (Int32.toNatClampNeg x0)) + ((b.1 - b.2.1) / 2)) else (bif hEq (b.2.2.2.2.2.1 (Int32.toNatClampNeg x0)) 2 then ((b.2.2.2.2.2.2.1 (Int32.toNatClampNeg x0)) - ((b.2.2.2.2.2.2.2.2.1 1) + (b.2.2.2.2.2.2.2.1 (Int32.toNatClampNeg x0)))) else (bif hEq (b.2.2.2.2.2.1 (Int32.toNatClampNeg x0)) 3 then ((b.2.2.2.2.2.2.1 (Int32.toNatClampNeg x0)) - ((2 * (b.2.2.2.2.2.2.2.2.1 1)) + (b.2.2.2.2.2.2.2.1 (Int32.toNatClampNeg x0)))) else (bif hEq (b.2.2.2.2.2.1 (Int32.toNatClampNeg x0)) 4 then ((b.2.2.2.2.2.2.1 (Int32.toNatClampNeg x0)) - ((2 * (b.2.2.2.2.2.2.2.2.1 1)) + (b.2.2.2.2.2.2.2.1 (Int32.toNatClampNeg x0)))) else (bif hEq (b.2.2.2.2.2.1 (Int32.toNatClampNeg x0)) 5 then ((b.2.2.2.2.2.2.1 (Int32.toNatClampNeg x0)) - (b.2.2.2.2.2.2.2.2.1 1)) else (bif hEq (b.2.2.2.2.2.1 (Int32.toNatClampNeg x0)) 6 then (bif gCmp .le b.2.1 b.1 then ((b.2.2.2.2.2.2.1 (Int32.toNatClampNeg x0)) - (b.2.2.2.2.2.2.2.2.1 1)) else (((b.2.2.2.2.2.2.1 (Int32.toNatClampNeg x0)) - (b.2.2.2.2.2.2.2.2.1 1)) / 2)) else ((b.2.2.2.2.2.2.1 (Int32.toNatClampNeg x0)) - (b.2.2.2.2.2.2.2.2.1 1)))))))) else ((bif hEq (b.2.2.2.2.2.1 (Int32.toNatClampNeg x0)) 1 then ((b.2.2.2.2.2.2.1 (Int32.toNatClampNeg x0)) + ((b.1 - b.2.1) / 2)) else (bif hEq (b.2.2.2.2.2.1 (Int32.toNatClampNeg x0)) 2 then ((b.2.2.2.2.2.2.1 (Int32.toNatClampNeg x0)) - ((b.2.2.2.2.2.2.2.2.1 1) + (b.2.2.2.2.2.2.2.1 (Int32.toNatClampNeg x0)))) else (bif hEq (b.2.2.2.2.2.1 (Int32.toNatClampNeg x0)) 3 then ((b.2.2.2.2.2.2.1 (Int32.toNatClampNeg x0)) - ((2 * (b.2.2.2.2.2.2.2.2.1 1)) + (b.2.2.2.2.2.2.2.1 (Int32.toNatClampNeg x0)))) else (bif hEq (b.2.2.2.2.2.1 (Int32.toNatClampNeg x0)) 4 then ((b.2.2.2.2.2.2.1 (Int32.toNatClampNeg x0)) - ((2 * (b.2.2.2.2.2.2.2.2.1 1)) + (b.2.2.2.2.2.2.2.1 (Int32.toNatClampNeg x0)))) else (bif hEq (b.2.2.2.2.2.1 (Int32.toNatClampNeg x0)) 5 then ((b.2.2.2.2.2.2.1 (Int32.toNatClampNeg x0)) - (b.2.2.2.2.2.2.2.2.1 1)) else (bif hEq (b.2.2.2.2.2.1 (Int32.toNatClampNeg x0)) 6 then (bif gCmp .le b.2.1 b.1 then ((b.2.2.2.2.2.2.1 (Int32.toNatClampNeg x0)) - (b.2.2.2.2.2.2.2.2.1 1)) else (((b.2.2.2.2.2.2.1 (Int32.toNatClampNeg x0)) - (b.2.2.2.2.2.2.2.2.1 1)) / 2)) else ((b.2.2.2.2.2.2.1 (Int32.toNatClampNeg x0)) - (b.2.2.2.2.2.2.2.2.1 1)))))))) + (b.2.2.2.2.2.2.2.2.1 0)))] (hCm b d k s w ik ex pr wd sn qu tb ts (r0, rq) h0 h1 h2 h3 fi R) (some (.int (v_17_1 x0 b))) (hCm b d k s w ik ex pr wd sn qu tb ts (r0, rq) h0 h1 h2 h3 fi R) by
    refine hX_if (gCmp .lt b.2.1 30) (fun c8 => ?_) (fun c8 => ?_)
    · skip
      refine hX_goM 1 (170) [some (.ref 1), some (.int x0), some (.int (bif hEq (b.2.2.2.2.2.1 (Int32.toNatClampNeg x0)) 1 then ((b.2.2.2.2.2.2.1 (Int32.toNatClampNeg x0)) + ((b.1 - b.2.1) / 2)) else (bif hEq (b.2.2.2.2.2.1 (Int32.toNatClampNeg x0)) 2 then ((b.2.2.2.2.2.2.1 (Int32.toNatClampNeg x0)) - ((b.2.2.2.2.2.2.2.2.1 1) + (b.2.2.2.2.2.2.2.1 (Int32.toNatClampNeg x0)))) else (bif hEq (b.2.2.2.2.2.1 (Int32.toNatClampNeg x0)) 3 then ((b.2.2.2.2.2.2.1 (Int32.toNatClampNeg x0)) - ((2 * (b.2.2.2.2.2.2.2.2.1 1)) + (b.2.2.2.2.2.2.2.1 (Int32.toNatClampNeg x0)))) else (bif hEq (b.2.2.2.2.2.1 (Int32.toNatClampNeg x0)) 4 then ((b.2.2.2.2.2.2.1 (Int32.toNatClampNeg x0)) - ((2 * (b.2.2.2.2.2.2.2.2.1 1)) + (b.2.2.2.2.2.2.2.1 (Int32.toNatClampNeg x0)))) else (bif hEq (b.2.2.2.2.2.1 (Int32.toNatClampNeg x0)) 5 then ((b.2.2.2.2.2.2.1 (Int32.toNatClampNeg x0)) - (b.2.2.2.2.2.2.2.2.1 1)) else (bif hEq (b.2.2.2.2.2.1 (Int32.toNatClampNeg x0)) 6 then (bif gCmp .le b.2.1 b.1 then ((b.2.2.2.2.2.2.1 (Int32.toNatClampNeg x0)) - (b.2.2.2.2.2.2.2.2.1 1)) else (((b.2.2.2.2.2.2.1 (Int32.toNatClampNeg x0)) - (b.2.2.2.2.2.2.2.2.1 1)) / 2)) else ((b.2.2.2.2.2.2.1 (Int32.toNatClampNeg x0)) - (b.2.2.2.2.2.2.2.2.1 1)))))))))] [.int (bif hEq (b.2.2.2.2.2.1 (Int32.toNatClampNeg x0)) 1 then ((b.2.2.2.2.2.2.1 (Int32.toNatClampNeg x0)) + ((b.1 - b.2.1) / 2)) else (bif hEq (b.2.2.2.2.2.1 (Int32.toNatClampNeg x0)) 2 then ((b.2.2.2.2.2.2.1 (Int32.toNatClampNeg x0)) - ((b.2.2.2.2.2.2.2.2.1 1) + (b.2.2.2.2.2.2.2.1 (Int32.toNatClampNeg x0)))) else (bif hEq (b.2.2.2.2.2.1 (Int32.toNatClampNeg x0)) 3 then ((b.2.2.2.2.2.2.1 (Int32.toNatClampNeg x0)) - ((2 * (b.2.2.2.2.2.2.2.2.1 1)) + (b.2.2.2.2.2.2.2.1 (Int32.toNatClampNeg x0)))) else (bif hEq (b.2.2.2.2.2.1 (Int32.toNatClampNeg x0)) 4 then ((b.2.2.2.2.2.2.1 (Int32.toNatClampNeg x0)) - ((2 * (b.2.2.2.2.2.2.2.2.1 1)) + (b.2.2.2.2.2.2.2.1 (Int32.toNatClampNeg x0)))) else (bif hEq (b.2.2.2.2.2.1 (Int32.toNatClampNeg x0)) 5 then ((b.2.2.2.2.2.2.1 (Int32.toNatClampNeg x0)) - (b.2.2.2.2.2.2.2.2.1 1)) else (bif hEq (b.2.2.2.2.2.1 (Int32.toNatClampNeg x0)) 6 then (bif gCmp .le b.2.1 b.1 then ((b.2.2.2.2.2.2.1 (Int32.toNatClampNeg x0)) - (b.2.2.2.2.2.2.2.2.1 1)) else (((b.2.2.2.2.2.2.1 (Int32.toNatClampNeg x0)) - (b.2.2.2.2.2.2.2.2.1 1)) / 2)) else ((b.2.2.2.2.2.2.1 (Int32.toNatClampNeg x0)) - (b.2.2.2.2.2.2.2.2.1 1))))))))] rfl ?_
      have hk := hk
      simp only [c8, cond_true, cond_false] at hk
      first | exact hk | (simp only [c8, cond_true, cond_false]; exact hk)
    · skip
      refine hX_goM 7 (170) [some (.ref 1), some (.int x0), some (.int (bif hEq (b.2.2.2.2.2.1 (Int32.toNatClampNeg x0)) 1 then ((b.2.2.2.2.2.2.1 (Int32.toNatClampNeg x0)) + ((b.1 - b.2.1) / 2)) else (bif hEq (b.2.2.2.2.2.1 (Int32.toNatClampNeg x0)) 2 then ((b.2.2.2.2.2.2.1 (Int32.toNatClampNeg x0)) - ((b.2.2.2.2.2.2.2.2.1 1) + (b.2.2.2.2.2.2.2.1 (Int32.toNatClampNeg x0)))) else (bif hEq (b.2.2.2.2.2.1 (Int32.toNatClampNeg x0)) 3 then ((b.2.2.2.2.2.2.1 (Int32.toNatClampNeg x0)) - ((2 * (b.2.2.2.2.2.2.2.2.1 1)) + (b.2.2.2.2.2.2.2.1 (Int32.toNatClampNeg x0)))) else (bif hEq (b.2.2.2.2.2.1 (Int32.toNatClampNeg x0)) 4 then ((b.2.2.2.2.2.2.1 (Int32.toNatClampNeg x0)) - ((2 * (b.2.2.2.2.2.2.2.2.1 1)) + (b.2.2.2.2.2.2.2.1 (Int32.toNatClampNeg x0)))) else (bif hEq (b.2.2.2.2.2.1 (Int32.toNatClampNeg x0)) 5 then ((b.2.2.2.2.2.2.1 (Int32.toNatClampNeg x0)) - (b.2.2.2.2.2.2.2.2.1 1)) else (bif hEq (b.2.2.2.2.2.1 (Int32.toNatClampNeg x0)) 6 then (bif gCmp .le b.2.1 b.1 then ((b.2.2.2.2.2.2.1 (Int32.toNatClampNeg x0)) - (b.2.2.2.2.2.2.2.2.1 1)) else (((b.2.2.2.2.2.2.1 (Int32.toNatClampNeg x0)) - (b.2.2.2.2.2.2.2.2.1 1)) / 2)) else ((b.2.2.2.2.2.2.1 (Int32.toNatClampNeg x0)) - (b.2.2.2.2.2.2.2.2.1 1)))))))))] [.int ((bif hEq (b.2.2.2.2.2.1 (Int32.toNatClampNeg x0)) 1 then ((b.2.2.2.2.2.2.1 (Int32.toNatClampNeg x0)) + ((b.1 - b.2.1) / 2)) else (bif hEq (b.2.2.2.2.2.1 (Int32.toNatClampNeg x0)) 2 then ((b.2.2.2.2.2.2.1 (Int32.toNatClampNeg x0)) - ((b.2.2.2.2.2.2.2.2.1 1) + (b.2.2.2.2.2.2.2.1 (Int32.toNatClampNeg x0)))) else (bif hEq (b.2.2.2.2.2.1 (Int32.toNatClampNeg x0)) 3 then ((b.2.2.2.2.2.2.1 (Int32.toNatClampNeg x0)) - ((2 * (b.2.2.2.2.2.2.2.2.1 1)) + (b.2.2.2.2.2.2.2.1 (Int32.toNatClampNeg x0)))) else (bif hEq (b.2.2.2.2.2.1 (Int32.toNatClampNeg x0)) 4 then ((b.2.2.2.2.2.2.1 (Int32.toNatClampNeg x0)) - ((2 * (b.2.2.2.2.2.2.2.2.1 1)) + (b.2.2.2.2.2.2.2.1 (Int32.toNatClampNeg x0)))) else (bif hEq (b.2.2.2.2.2.1 (Int32.toNatClampNeg x0)) 5 then ((b.2.2.2.2.2.2.1 (Int32.toNatClampNeg x0)) - (b.2.2.2.2.2.2.2.2.1 1)) else (bif hEq (b.2.2.2.2.2.1 (Int32.toNatClampNeg x0)) 6 then (bif gCmp .le b.2.1 b.1 then ((b.2.2.2.2.2.2.1 (Int32.toNatClampNeg x0)) - (b.2.2.2.2.2.2.2.2.1 1)) else (((b.2.2.2.2.2.2.1 (Int32.toNatClampNeg x0)) - (b.2.2.2.2.2.2.2.2.1 1)) / 2)) else ((b.2.2.2.2.2.2.1 (Int32.toNatClampNeg x0)) - (b.2.2.2.2.2.2.2.2.1 1)))))))) + (b.2.2.2.2.2.2.2.2.1 0))] rfl ?_
      have hk := hk
      simp only [c8, cond_true, cond_false] at hk
      first | exact hk | (simp only [c8, cond_true, cond_false]; exact hk)
  exact hX_end rfl (rfl) (rfl)

theorem sw_16_13 (x : Int32) : gSwT 13 104 1 6 #[39, 56, 56, 68, 82, 82] x = some (bif hEq x 1 then 52 else bif hEq x 2 then 69 else bif hEq x 3 then 69 else bif hEq x 4 then 81 else bif hEq x 5 then 95 else bif hEq x 6 then 95 else 117) := by
  by_cases q1 : x = 1
  · subst q1; rfl
  by_cases q2 : x = 2
  · subst q2; rfl
  by_cases q3 : x = 3
  · subst q3; rfl
  by_cases q4 : x = 4
  · subst q4; rfl
  by_cases q5 : x = 5
  · subst q5; rfl
  by_cases q6 : x = 6
  · subst q6; rfl
  simp only [hEq, q1, q2, q3, q4, q5, q6, decide_false, cond_false]
  have n1 := hNe q1
  have n2 := hNe q2
  have n3 := hNe q3
  have n4 := hNe q4
  have n5 := hNe q5
  have n6 := hNe q6
  unfold gSwT
  rw [show (decide (x.toInt < 1) || decide (6 < x.toInt)) = true from by
    simp only [Bool.or_eq_true, decide_eq_true_eq]
    have e : ∀ z : Int, z < 1 ∨ 6 < z ∨ (z = 1 ∨ z = 2 ∨ z = 3 ∨ z = 4 ∨ z = 5 ∨ z = 6) := by intro z; omega
    rcases e x.toInt with h | h | h
    · exact Or.inl h
    · exact Or.inr h
    · rcases h with h | h | h | h | h | h
      · exact absurd h n1
      · exact absurd h n2
      · exact absurd h n3
      · exact absurd h n4
      · exact absurd h n5
      · exact absurd h n6
    ]
  rfl

/-- UpOneSide$Blind.leftLift(I)I -/
def v_16_1 (x0 : Int32) (b : hB) : Int32 := (bif hEq (b.2.2.2.2.2.1 (Int32.toNatClampNeg x0)) 1 then ((b.2.2.2.2.2.2.1 (Int32.toNatClampNeg x0)) - ((b.1 - b.2.1) / 2)) else (bif hEq (b.2.2.2.2.2.1 (Int32.toNatClampNeg x0)) 2 then ((b.2.2.2.2.2.2.1 (Int32.toNatClampNeg x0)) + (b.2.2.2.2.2.2.2.1 (Int32.toNatClampNeg x0))) else (bif hEq (b.2.2.2.2.2.1 (Int32.toNatClampNeg x0)) 3 then ((b.2.2.2.2.2.2.1 (Int32.toNatClampNeg x0)) + (b.2.2.2.2.2.2.2.1 (Int32.toNatClampNeg x0))) else (bif hEq (b.2.2.2.2.2.1 (Int32.toNatClampNeg x0)) 4 then (2 * ((b.2.2.2.2.2.2.1 (Int32.toNatClampNeg x0)) + (b.2.2.2.2.2.2.2.1 (Int32.toNatClampNeg x0)))) else (bif hEq (b.2.2.2.2.2.1 (Int32.toNatClampNeg x0)) 5 then (bif gCmp .lt b.1 (b.2.2.2.2.2.2.2.2.1 3) then (b.2.2.2.2.2.2.1 (Int32.toNatClampNeg x0)) else 0) else (bif hEq (b.2.2.2.2.2.1 (Int32.toNatClampNeg x0)) 6 then (bif gCmp .lt b.1 (b.2.2.2.2.2.2.2.2.1 3) then (b.2.2.2.2.2.2.1 (Int32.toNatClampNeg x0)) else 0) else (b.2.2.2.2.2.2.1 (Int32.toNatClampNeg x0)))))))) + (((b.1 / 10) * (b.2.2.2.2.2.2.2.2.1 2)) / 4)
set_option maxRecDepth 20000 in
set_option maxHeartbeats 1000000 in
theorem ct_16_1 {LL : Nat} {xs : Nat → Int32} {D : Nat} {b d k s w : hB} {ik ex pr wd : Int32} {sn : Nat → Int64} {qu tb : Nat → Int32} {ts : Int32} {r0 : Value} {rq : hRq} {h0 h1 h2 h3 : hSt} {fi : Nat → Int32} {R : List gE} (x0 : Int32) (o1 : gIn x0 8 = true) : hM (gO LL xs) (D + 0) zR_16 [.ref 1, .int x0] (hCm b d k s w ik ex pr wd sn qu tb ts (r0, rq) h0 h1 h2 h3 fi R) (some (.int (v_16_1 x0 b))) (hCm b d k s w ik ex pr wd sn qu tb ts (r0, rq) h0 h1 h2 h3 fi R) := by
  refine hX_go 0 0 [some (.ref 1), some (.int x0), none] [] (hCm b d k s w ik ex pr wd sn qu tb ts (r0, rq) h0 h1 h2 h3 fi R) rfl ?_
  refine hX_go 3 (5) [some (.ref 1), some (.int x0), none] [.int x0, .ref 3] (hCm b d k s w ik ex pr wd sn qu tb ts (r0, rq) h0 h1 h2 h3 fi R) rfl ?_
  refine hX_gM (gIn x0 8) 6 [some (.ref 1), some (.int x0), none] [.int (b.2.2.2.2.2.2.1 (Int32.toNatClampNeg x0))] rfl o1 ?_
  refine hX_goM 4 (12) [some (.ref 1), some (.int x0), some (.int (b.2.2.2.2.2.2.1 (Int32.toNatClampNeg x0)))] [.int x0, .ref 2] rfl ?_
  refine hX_gM (gIn x0 8) 13 [some (.ref 1), some (.int x0), some (.int (b.2.2.2.2.2.2.1 (Int32.toNatClampNeg x0)))] [.int (b.2.2.2.2.2.1 (Int32.toNatClampNeg x0))] rfl o1 ?_
  refine hX_sw (bif hEq (b.2.2.2.2.2.1 (Int32.toNatClampNeg x0)) 1 then 52 else bif hEq (b.2.2.2.2.2.1 (Int32.toNatClampNeg x0)) 2 then 69 else bif hEq (b.2.2.2.2.2.1 (Int32.toNatClampNeg x0)) 3 then 69 else bif hEq (b.2.2.2.2.2.1 (Int32.toNatClampNeg x0)) 4 then 81 else bif hEq (b.2.2.2.2.2.1 (Int32.toNatClampNeg x0)) 5 then 95 else bif hEq (b.2.2.2.2.2.1 (Int32.toNatClampNeg x0)) 6 then 95 else 117) rfl (sw_16_13 (b.2.2.2.2.2.1 (Int32.toNatClampNeg x0))) ?_
  suffices hk : hX (gO LL xs) (D + 0) zR_16 117 [some (.ref 1), some (.int x0), some (.int (bif hEq (b.2.2.2.2.2.1 (Int32.toNatClampNeg x0)) 1 then ((b.2.2.2.2.2.2.1 (Int32.toNatClampNeg x0)) - ((b.1 - b.2.1) / 2)) else (bif hEq (b.2.2.2.2.2.1 (Int32.toNatClampNeg x0)) 2 then ((b.2.2.2.2.2.2.1 (Int32.toNatClampNeg x0)) + (b.2.2.2.2.2.2.2.1 (Int32.toNatClampNeg x0))) else (bif hEq (b.2.2.2.2.2.1 (Int32.toNatClampNeg x0)) 3 then ((b.2.2.2.2.2.2.1 (Int32.toNatClampNeg x0)) + (b.2.2.2.2.2.2.2.1 (Int32.toNatClampNeg x0))) else (bif hEq (b.2.2.2.2.2.1 (Int32.toNatClampNeg x0)) 4 then (2 * ((b.2.2.2.2.2.2.1 (Int32.toNatClampNeg x0)) + (b.2.2.2.2.2.2.2.1 (Int32.toNatClampNeg x0)))) else (bif hEq (b.2.2.2.2.2.1 (Int32.toNatClampNeg x0)) 5 then (bif gCmp .lt b.1 (b.2.2.2.2.2.2.2.2.1 3) then (b.2.2.2.2.2.2.1 (Int32.toNatClampNeg x0)) else 0) else (bif hEq (b.2.2.2.2.2.1 (Int32.toNatClampNeg x0)) 6 then (bif gCmp .lt b.1 (b.2.2.2.2.2.2.2.2.1 3) then (b.2.2.2.2.2.2.1 (Int32.toNatClampNeg x0)) else 0) else (b.2.2.2.2.2.2.1 (Int32.toNatClampNeg x0)))))))))] [] (hCm b d k s w ik ex pr wd sn qu tb ts (r0, rq) h0 h1 h2 h3 fi R) (some (.int (v_16_1 x0 b))) (hCm b d k s w ik ex pr wd sn qu tb ts (r0, rq) h0 h1 h2 h3 fi R) by
    refine hX_if (hEq (b.2.2.2.2.2.1 (Int32.toNatClampNeg x0)) 1) (fun c1 => ?_) (fun c1 => ?_)
    · skip
      refine hX_goM 9 (65) [some (.ref 1), some (.int x0), some (.int (b.2.2.2.2.2.2.1 (Int32.toNatClampNeg x0)))] [.int ((b.2.2.2.2.2.2.1 (Int32.toNatClampNeg x0)) - ((b.1 - b.2.1) / 2))] rfl ?_
      refine hX_goM 2 (117) [some (.ref 1), some (.int x0), some (.int ((b.2.2.2.2.2.2.1 (Int32.toNatClampNeg x0)) - ((b.1 - b.2.1) / 2)))] [] rfl ?_
      have hk := hk
      simp only [c1, cond_true, cond_false] at hk
      first | exact hk | (simp only [c1, cond_true, cond_false]; exact hk)
    · skip
      refine hX_if (hEq (b.2.2.2.2.2.1 (Int32.toNatClampNeg x0)) 2) (fun c2 => ?_) (fun c2 => ?_)
      · skip
        refine hX_goM 4 (75) [some (.ref 1), some (.int x0), some (.int (b.2.2.2.2.2.2.1 (Int32.toNatClampNeg x0)))] [.int x0, .ref 4, .int (b.2.2.2.2.2.2.1 (Int32.toNatClampNeg x0))] rfl ?_
        refine hX_gM (gIn x0 8) 76 [some (.ref 1), some (.int x0), some (.int (b.2.2.2.2.2.2.1 (Int32.toNatClampNeg x0)))] [.int (b.2.2.2.2.2.2.2.1 (Int32.toNatClampNeg x0)), .int (b.2.2.2.2.2.2.1 (Int32.toNatClampNeg x0))] rfl o1 ?_
        refine hX_goM 3 (117) [some (.ref 1), some (.int x0), some (.int ((b.2.2.2.2.2.2.1 (Int32.toNatClampNeg x0)) + (b.2.2.2.2.2.2.2.1 (Int32.toNatClampNeg x0))))] [] rfl ?_
        have hk := hk
        simp only [c1, c2, cond_true, cond_false] at hk
        first | exact hk | (simp only [c1, c2, cond_true, cond_false]; exact hk)
      · skip
        refine hX_if (hEq (b.2.2.2.2.2.1 (Int32.toNatClampNeg x0)) 3) (fun c3 => ?_) (fun c3 => ?_)
        · skip
          refine hX_goM 4 (75) [some (.ref 1), some (.int x0), some (.int (b.2.2.2.2.2.2.1 (Int32.toNatClampNeg x0)))] [.int x0, .ref 4, .int (b.2.2.2.2.2.2.1 (Int32.toNatClampNeg x0))] rfl ?_
          refine hX_gM (gIn x0 8) 76 [some (.ref 1), some (.int x0), some (.int (b.2.2.2.2.2.2.1 (Int32.toNatClampNeg x0)))] [.int (b.2.2.2.2.2.2.2.1 (Int32.toNatClampNeg x0)), .int (b.2.2.2.2.2.2.1 (Int32.toNatClampNeg x0))] rfl o1 ?_
          refine hX_goM 3 (117) [some (.ref 1), some (.int x0), some (.int ((b.2.2.2.2.2.2.1 (Int32.toNatClampNeg x0)) + (b.2.2.2.2.2.2.2.1 (Int32.toNatClampNeg x0))))] [] rfl ?_
          have hk := hk
          simp only [c1, c2, c3, cond_true, cond_false] at hk
          first | exact hk | (simp only [c1, c2, c3, cond_true, cond_false]; exact hk)
        · skip
          refine hX_if (hEq (b.2.2.2.2.2.1 (Int32.toNatClampNeg x0)) 4) (fun c4 => ?_) (fun c4 => ?_)
          · skip
            refine hX_goM 5 (88) [some (.ref 1), some (.int x0), some (.int (b.2.2.2.2.2.2.1 (Int32.toNatClampNeg x0)))] [.int x0, .ref 4, .int (b.2.2.2.2.2.2.1 (Int32.toNatClampNeg x0)), .int 2] rfl ?_
            refine hX_gM (gIn x0 8) 89 [some (.ref 1), some (.int x0), some (.int (b.2.2.2.2.2.2.1 (Int32.toNatClampNeg x0)))] [.int (b.2.2.2.2.2.2.2.1 (Int32.toNatClampNeg x0)), .int (b.2.2.2.2.2.2.1 (Int32.toNatClampNeg x0)), .int 2] rfl o1 ?_
            refine hX_goM 4 (117) [some (.ref 1), some (.int x0), some (.int (2 * ((b.2.2.2.2.2.2.1 (Int32.toNatClampNeg x0)) + (b.2.2.2.2.2.2.2.1 (Int32.toNatClampNeg x0)))))] [] rfl ?_
            have hk := hk
            simp only [c1, c2, c3, c4, cond_true, cond_false] at hk
            first | exact hk | (simp only [c1, c2, c3, c4, cond_true, cond_false]; exact hk)
          · skip
            refine hX_if (hEq (b.2.2.2.2.2.1 (Int32.toNatClampNeg x0)) 5) (fun c5 => ?_) (fun c5 => ?_)
            · skip
              refine hX_goM 7 (bif gCmp .lt b.1 (b.2.2.2.2.2.2.2.2.1 3) then 112 else 108) [some (.ref 1), some (.int x0), some (.int (b.2.2.2.2.2.2.1 (Int32.toNatClampNeg x0)))] [] rfl ?_
              suffices hk : hX (gO LL xs) (D + 0) zR_16 113 [some (.ref 1), some (.int x0), some (.int (b.2.2.2.2.2.2.1 (Int32.toNatClampNeg x0)))] [.int (bif gCmp .lt b.1 (b.2.2.2.2.2.2.2.2.1 3) then (b.2.2.2.2.2.2.1 (Int32.toNatClampNeg x0)) else 0)] (hCm b d k s w ik ex pr wd sn qu tb ts (r0, rq) h0 h1 h2 h3 fi R) (some (.int (v_16_1 x0 b))) (hCm b d k s w ik ex pr wd sn qu tb ts (r0, rq) h0 h1 h2 h3 fi R) by
                refine hX_if (gCmp .lt b.1 (b.2.2.2.2.2.2.2.2.1 3)) (fun c6 => ?_) (fun c6 => ?_)
                · skip
                  refine hX_goM 1 (113) [some (.ref 1), some (.int x0), some (.int (b.2.2.2.2.2.2.1 (Int32.toNatClampNeg x0)))] [.int (b.2.2.2.2.2.2.1 (Int32.toNatClampNeg x0))] rfl ?_
                  have hk := hk
                  simp only [c6, cond_true, cond_false] at hk
                  first | exact hk | (simp only [c6, cond_true, cond_false]; exact hk)
                · skip
                  refine hX_goM 2 (113) [some (.ref 1), some (.int x0), some (.int (b.2.2.2.2.2.2.1 (Int32.toNatClampNeg x0)))] [.int 0] rfl ?_
                  have hk := hk
                  simp only [c6, cond_true, cond_false] at hk
                  first | exact hk | (simp only [c6, cond_true, cond_false]; exact hk)
              refine hX_goM 2 (117) [some (.ref 1), some (.int x0), some (.int (bif gCmp .lt b.1 (b.2.2.2.2.2.2.2.2.1 3) then (b.2.2.2.2.2.2.1 (Int32.toNatClampNeg x0)) else 0))] [] rfl ?_
              have hk := hk
              simp only [c1, c2, c3, c4, c5, cond_true, cond_false] at hk
              first | exact hk | (simp only [c1, c2, c3, c4, c5, cond_true, cond_false]; exact hk)
            · skip
              refine hX_if (hEq (b.2.2.2.2.2.1 (Int32.toNatClampNeg x0)) 6) (fun c7 => ?_) (fun c7 => ?_)
              · skip
                refine hX_goM 7 (bif gCmp .lt b.1 (b.2.2.2.2.2.2.2.2.1 3) then 112 else 108) [some (.ref 1), some (.int x0), some (.int (b.2.2.2.2.2.2.1 (Int32.toNatClampNeg x0)))] [] rfl ?_
                suffices hk : hX (gO LL xs) (D + 0) zR_16 113 [some (.ref 1), some (.int x0), some (.int (b.2.2.2.2.2.2.1 (Int32.toNatClampNeg x0)))] [.int (bif gCmp .lt b.1 (b.2.2.2.2.2.2.2.2.1 3) then (b.2.2.2.2.2.2.1 (Int32.toNatClampNeg x0)) else 0)] (hCm b d k s w ik ex pr wd sn qu tb ts (r0, rq) h0 h1 h2 h3 fi R) (some (.int (v_16_1 x0 b))) (hCm b d k s w ik ex pr wd sn qu tb ts (r0, rq) h0 h1 h2 h3 fi R) by
                  refine hX_if (gCmp .lt b.1 (b.2.2.2.2.2.2.2.2.1 3)) (fun c8 => ?_) (fun c8 => ?_)
                  · skip
                    refine hX_goM 1 (113) [some (.ref 1), some (.int x0), some (.int (b.2.2.2.2.2.2.1 (Int32.toNatClampNeg x0)))] [.int (b.2.2.2.2.2.2.1 (Int32.toNatClampNeg x0))] rfl ?_
                    have hk := hk
                    simp only [c8, cond_true, cond_false] at hk
                    first | exact hk | (simp only [c8, cond_true, cond_false]; exact hk)
                  · skip
                    refine hX_goM 2 (113) [some (.ref 1), some (.int x0), some (.int (b.2.2.2.2.2.2.1 (Int32.toNatClampNeg x0)))] [.int 0] rfl ?_
                    have hk := hk
                    simp only [c8, cond_true, cond_false] at hk
                    first | exact hk | (simp only [c8, cond_true, cond_false]; exact hk)
                refine hX_goM 2 (117) [some (.ref 1), some (.int x0), some (.int (bif gCmp .lt b.1 (b.2.2.2.2.2.2.2.2.1 3) then (b.2.2.2.2.2.2.1 (Int32.toNatClampNeg x0)) else 0))] [] rfl ?_
                have hk := hk
                simp only [c1, c2, c3, c4, c5, c7, cond_true, cond_false] at hk
                first | exact hk | (simp only [c1, c2, c3, c4, c5, c7, cond_true, cond_false]; exact hk)
              · skip
                have hk := hk
                simp only [c1, c2, c3, c4, c5, c7, cond_true, cond_false] at hk
                first | exact hk | (simp only [c1, c2, c3, c4, c5, c7, cond_true, cond_false]; exact hk)
  refine hX_goM 9 (131) [some (.ref 1), some (.int x0), some (.int (bif hEq (b.2.2.2.2.2.1 (Int32.toNatClampNeg x0)) 1 then ((b.2.2.2.2.2.2.1 (Int32.toNatClampNeg x0)) - ((b.1 - b.2.1) / 2)) else (bif hEq (b.2.2.2.2.2.1 (Int32.toNatClampNeg x0)) 2 then ((b.2.2.2.2.2.2.1 (Int32.toNatClampNeg x0)) + (b.2.2.2.2.2.2.2.1 (Int32.toNatClampNeg x0))) else (bif hEq (b.2.2.2.2.2.1 (Int32.toNatClampNeg x0)) 3 then ((b.2.2.2.2.2.2.1 (Int32.toNatClampNeg x0)) + (b.2.2.2.2.2.2.2.1 (Int32.toNatClampNeg x0))) else (bif hEq (b.2.2.2.2.2.1 (Int32.toNatClampNeg x0)) 4 then (2 * ((b.2.2.2.2.2.2.1 (Int32.toNatClampNeg x0)) + (b.2.2.2.2.2.2.2.1 (Int32.toNatClampNeg x0)))) else (bif hEq (b.2.2.2.2.2.1 (Int32.toNatClampNeg x0)) 5 then (bif gCmp .lt b.1 (b.2.2.2.2.2.2.2.2.1 3) then (b.2.2.2.2.2.2.1 (Int32.toNatClampNeg x0)) else 0) else (bif hEq (b.2.2.2.2.2.1 (Int32.toNatClampNeg x0)) 6 then (bif gCmp .lt b.1 (b.2.2.2.2.2.2.2.2.1 3) then (b.2.2.2.2.2.2.1 (Int32.toNatClampNeg x0)) else 0) else (b.2.2.2.2.2.2.1 (Int32.toNatClampNeg x0)))))))))] [.int (b.2.2.2.2.2.2.2.2.1 2), .int (b.1 / 10), .int (bif hEq (b.2.2.2.2.2.1 (Int32.toNatClampNeg x0)) 1 then ((b.2.2.2.2.2.2.1 (Int32.toNatClampNeg x0)) - ((b.1 - b.2.1) / 2)) else (bif hEq (b.2.2.2.2.2.1 (Int32.toNatClampNeg x0)) 2 then ((b.2.2.2.2.2.2.1 (Int32.toNatClampNeg x0)) + (b.2.2.2.2.2.2.2.1 (Int32.toNatClampNeg x0))) else (bif hEq (b.2.2.2.2.2.1 (Int32.toNatClampNeg x0)) 3 then ((b.2.2.2.2.2.2.1 (Int32.toNatClampNeg x0)) + (b.2.2.2.2.2.2.2.1 (Int32.toNatClampNeg x0))) else (bif hEq (b.2.2.2.2.2.1 (Int32.toNatClampNeg x0)) 4 then (2 * ((b.2.2.2.2.2.2.1 (Int32.toNatClampNeg x0)) + (b.2.2.2.2.2.2.2.1 (Int32.toNatClampNeg x0)))) else (bif hEq (b.2.2.2.2.2.1 (Int32.toNatClampNeg x0)) 5 then (bif gCmp .lt b.1 (b.2.2.2.2.2.2.2.2.1 3) then (b.2.2.2.2.2.2.1 (Int32.toNatClampNeg x0)) else 0) else (bif hEq (b.2.2.2.2.2.1 (Int32.toNatClampNeg x0)) 6 then (bif gCmp .lt b.1 (b.2.2.2.2.2.2.2.2.1 3) then (b.2.2.2.2.2.2.1 (Int32.toNatClampNeg x0)) else 0) else (b.2.2.2.2.2.2.1 (Int32.toNatClampNeg x0))))))))] rfl ?_
  refine hX_goM 4 (135) [some (.ref 1), some (.int x0), some (.int (bif hEq (b.2.2.2.2.2.1 (Int32.toNatClampNeg x0)) 1 then ((b.2.2.2.2.2.2.1 (Int32.toNatClampNeg x0)) - ((b.1 - b.2.1) / 2)) else (bif hEq (b.2.2.2.2.2.1 (Int32.toNatClampNeg x0)) 2 then ((b.2.2.2.2.2.2.1 (Int32.toNatClampNeg x0)) + (b.2.2.2.2.2.2.2.1 (Int32.toNatClampNeg x0))) else (bif hEq (b.2.2.2.2.2.1 (Int32.toNatClampNeg x0)) 3 then ((b.2.2.2.2.2.2.1 (Int32.toNatClampNeg x0)) + (b.2.2.2.2.2.2.2.1 (Int32.toNatClampNeg x0))) else (bif hEq (b.2.2.2.2.2.1 (Int32.toNatClampNeg x0)) 4 then (2 * ((b.2.2.2.2.2.2.1 (Int32.toNatClampNeg x0)) + (b.2.2.2.2.2.2.2.1 (Int32.toNatClampNeg x0)))) else (bif hEq (b.2.2.2.2.2.1 (Int32.toNatClampNeg x0)) 5 then (bif gCmp .lt b.1 (b.2.2.2.2.2.2.2.2.1 3) then (b.2.2.2.2.2.2.1 (Int32.toNatClampNeg x0)) else 0) else (bif hEq (b.2.2.2.2.2.1 (Int32.toNatClampNeg x0)) 6 then (bif gCmp .lt b.1 (b.2.2.2.2.2.2.2.2.1 3) then (b.2.2.2.2.2.2.1 (Int32.toNatClampNeg x0)) else 0) else (b.2.2.2.2.2.2.1 (Int32.toNatClampNeg x0)))))))))] [.int ((bif hEq (b.2.2.2.2.2.1 (Int32.toNatClampNeg x0)) 1 then ((b.2.2.2.2.2.2.1 (Int32.toNatClampNeg x0)) - ((b.1 - b.2.1) / 2)) else (bif hEq (b.2.2.2.2.2.1 (Int32.toNatClampNeg x0)) 2 then ((b.2.2.2.2.2.2.1 (Int32.toNatClampNeg x0)) + (b.2.2.2.2.2.2.2.1 (Int32.toNatClampNeg x0))) else (bif hEq (b.2.2.2.2.2.1 (Int32.toNatClampNeg x0)) 3 then ((b.2.2.2.2.2.2.1 (Int32.toNatClampNeg x0)) + (b.2.2.2.2.2.2.2.1 (Int32.toNatClampNeg x0))) else (bif hEq (b.2.2.2.2.2.1 (Int32.toNatClampNeg x0)) 4 then (2 * ((b.2.2.2.2.2.2.1 (Int32.toNatClampNeg x0)) + (b.2.2.2.2.2.2.2.1 (Int32.toNatClampNeg x0)))) else (bif hEq (b.2.2.2.2.2.1 (Int32.toNatClampNeg x0)) 5 then (bif gCmp .lt b.1 (b.2.2.2.2.2.2.2.2.1 3) then (b.2.2.2.2.2.2.1 (Int32.toNatClampNeg x0)) else 0) else (bif hEq (b.2.2.2.2.2.1 (Int32.toNatClampNeg x0)) 6 then (bif gCmp .lt b.1 (b.2.2.2.2.2.2.2.2.1 3) then (b.2.2.2.2.2.2.1 (Int32.toNatClampNeg x0)) else 0) else (b.2.2.2.2.2.2.1 (Int32.toNatClampNeg x0)))))))) + (((b.1 / 10) * (b.2.2.2.2.2.2.2.2.1 2)) / 4))] rfl ?_
  exact hX_end rfl (rfl) (rfl)


/-- UpOneSide.of(II)I -/
def me_62_0 (N : Nat) (x0 : Int32) (x1 : Int32) (b : hB) (fi : Nat → Int32) : Option (Int32 × (Nat → Int32)) :=
  (bif gCmp .ne (v_113_0 x0 b) 0 then
    some (v_111_0 0, f_111_0_fi 0 fi)
  else
    (bif gCmp .ne (v_112 x1 0 4) 0 then
      (bif gCmp .ne x1 3 then
        (bif gCmp .ne x1 4 then
          (bif gCmp .ne x1 0 then
            (bif gCmp .ne x1 1 then
              (bif gIn x0 8 then some (b.2.2.2.2.2.2.2.1 (Int32.toNatClampNeg x0), fi) else none)
            else
              (bif gIn x0 8 then some (b.2.2.2.2.2.2.1 (Int32.toNatClampNeg x0), fi) else none))
          else
            (bif gIn x0 8 then some (b.2.2.2.2.2.1 (Int32.toNatClampNeg x0), fi) else none))
        else
          (bif gIn x0 8 then some (v_17_1 x0 b, fi) else none))
      else
        (bif gIn x0 8 then some (v_16_1 x0 b, fi) else none))
    else
      some (v_111_0 0, f_111_0_fi 0 fi)))
set_option maxRecDepth 20000 in
set_option maxHeartbeats 4000000 in
theorem mt_62_0 {LL : Nat} {xs : Nat → Int32} {D : Nat} {b d k s w : hB} {ik ex pr wd : Int32} {sn : Nat → Int64} {qu tb : Nat → Int32} {ts : Int32} {r0 : Value} {rq : hRq} {h0 h1 h2 h3 : hSt} {fi : Nat → Int32} {R : List gE} (N : Nat) (x0 : Int32) (x1 : Int32) (q : Int32 × (Nat → Int32)) (h : me_62_0 N x0 x1 b fi = some q) : hM (gO LL xs) (D + 1) zR_62 [.ref 0, .int x0, .int x1] (hCm b d k s w ik ex pr wd sn qu tb ts (r0, rq) h0 h1 h2 h3 fi R) (some (.int q.1)) (hCm b d k s w ik ex pr wd sn qu tb ts (r0, rq) h0 h1 h2 h3 q.2 R) := by
  unfold me_62_0 at h
  refine hX_go 0 0 [some (.ref 0), some (.int x0), some (.int x1)] [] (hCm b d k s w ik ex pr wd sn qu tb ts (r0, rq) h0 h1 h2 h3 fi R) rfl ?_
  refine hX_go 2 (2) [some (.ref 0), some (.int x0), some (.int x1)] [.int x0, .ref 0] (hCm b d k s w ik ex pr wd sn qu tb ts (r0, rq) h0 h1 h2 h3 fi R) rfl ?_
  refine hX_call (r' := zR_113) rfl (ct_113_0 x0) ?_
  refine hX_goM 1 (bif gCmp .ne (v_113_0 x0 b) 0 then 17 else 8) [some (.ref 0), some (.int x0), some (.int x1)] [] rfl ?_
  refine hX_if (gCmp .ne (v_113_0 x0 b) 0) (fun c1 => ?_) (fun c1 => ?_)
  · skip
    have h := gcT c1 h
    refine hX_goM 2 (19) [some (.ref 0), some (.int x0), some (.int x1)] [.int 0, .ref 0] rfl ?_
    refine hX_call (r' := zR_111) rfl (ct_111_0 0 rfl) ?_
    refine hX_go 0 (22) [some (.ref 0), some (.int x0), some (.int x1)] [.int (v_111_0 0)] (hCm b d k s w ik ex pr wd sn qu tb ts (r0, rq) h0 h1 h2 h3 (f_111_0_fi 0 fi) R) rfl ?_
    have h := Option.some.inj h; subst h
    exact hX_end rfl rfl rfl
  · skip
    have h := gcF c1 h
    refine hX_goM 3 (11) [some (.ref 0), some (.int x0), some (.int x1)] [.int 4, .int 0, .int x1] rfl ?_
    refine hX_call (r' := zR_112) rfl (ct_112 x1 0 4) ?_
    refine hX_goM 1 (bif gCmp .ne (v_112 x1 0 4) 0 then 23 else 17) [some (.ref 0), some (.int x0), some (.int x1)] [] rfl ?_
    refine hX_if (gCmp .ne (v_112 x1 0 4) 0) (fun c2 => ?_) (fun c2 => ?_)
    · skip
      have h := gcT c2 h
      refine hX_goM 3 (bif gCmp .ne x1 3 then 37 else 28) [some (.ref 0), some (.int x0), some (.int x1)] [] rfl ?_
      refine hX_if (gCmp .ne x1 3) (fun c3 => ?_) (fun c3 => ?_)
      · skip
        have h := gcT c3 h
        refine hX_goM 3 (bif gCmp .ne x1 4 then 51 else 42) [some (.ref 0), some (.int x0), some (.int x1)] [] rfl ?_
        refine hX_if (gCmp .ne x1 4) (fun c4 => ?_) (fun c4 => ?_)
        · skip
          have h := gcT c4 h
          refine hX_goM 3 (56) [some (.ref 0), some (.int x0), some (.int x1)] [.int x1, .ref 1] rfl ?_
          refine hX_bif (gCmp .ne x1 0) (fun c5 => ?_) (fun c5 => ?_)
          · skip
            have h := gcT c5 h
            refine hX_bif (gCmp .ne x1 1) (fun c6 => ?_) (fun c6 => ?_)
            · skip
              have h := gcT c6 h
              refine hX_call (r' := zR_12) rfl (ct_12_1_0 x1 c5 c6) ?_
              refine hX_goM 1 (60) [some (.ref 0), some (.int x0), some (.int x1)] [.int x0, .ref 4] rfl ?_
              revert h; refine gCondR fun g7 h => ?_
              refine hX_gM (gIn x0 8) 61 [some (.ref 0), some (.int x0), some (.int x1)] [.int (b.2.2.2.2.2.2.2.1 (Int32.toNatClampNeg x0))] rfl g7 ?_
              have h := Option.some.inj h; subst h
              exact hX_end rfl rfl rfl
            · skip
              have h := gcF c6 h
              refine hX_call (r' := zR_12) rfl (ct_12_1_1 x1 c5 c6) ?_
              refine hX_goM 1 (60) [some (.ref 0), some (.int x0), some (.int x1)] [.int x0, .ref 3] rfl ?_
              revert h; refine gCondR fun g8 h => ?_
              refine hX_gM (gIn x0 8) 61 [some (.ref 0), some (.int x0), some (.int x1)] [.int (b.2.2.2.2.2.2.1 (Int32.toNatClampNeg x0))] rfl g8 ?_
              have h := Option.some.inj h; subst h
              exact hX_end rfl rfl rfl
          · skip
            have h := gcF c5 h
            refine hX_call (r' := zR_12) rfl (ct_12_1_2 x1 c5) ?_
            refine hX_goM 1 (60) [some (.ref 0), some (.int x0), some (.int x1)] [.int x0, .ref 2] rfl ?_
            revert h; refine gCondR fun g9 h => ?_
            refine hX_gM (gIn x0 8) 61 [some (.ref 0), some (.int x0), some (.int x1)] [.int (b.2.2.2.2.2.1 (Int32.toNatClampNeg x0))] rfl g9 ?_
            have h := Option.some.inj h; subst h
            exact hX_end rfl rfl rfl
        · skip
          have h := gcF c4 h
          refine hX_goM 3 (47) [some (.ref 0), some (.int x0), some (.int x1)] [.int x0, .ref 1] rfl ?_
          revert h; refine gCondR fun g10 h => ?_
          refine hX_call (r' := zR_17) rfl (ct_17_1 x0 g10) ?_
          refine hX_goM 0 (50) [some (.ref 0), some (.int x0), some (.int x1)] [.int (v_17_1 x0 b)] rfl ?_
          have h := Option.some.inj h; subst h
          exact hX_end rfl rfl rfl
      · skip
        have h := gcF c3 h
        refine hX_goM 3 (33) [some (.ref 0), some (.int x0), some (.int x1)] [.int x0, .ref 1] rfl ?_
        revert h; refine gCondR fun g11 h => ?_
        refine hX_call (r' := zR_16) rfl (ct_16_1 x0 g11) ?_
        refine hX_goM 0 (36) [some (.ref 0), some (.int x0), some (.int x1)] [.int (v_16_1 x0 b)] rfl ?_
        have h := Option.some.inj h; subst h
        exact hX_end rfl rfl rfl
    · skip
      have h := gcF c2 h
      refine hX_goM 2 (19) [some (.ref 0), some (.int x0), some (.int x1)] [.int 0, .ref 0] rfl ?_
      refine hX_call (r' := zR_111) rfl (ct_111_0 0 rfl) ?_
      refine hX_go 0 (22) [some (.ref 0), some (.int x0), some (.int x1)] [.int (v_111_0 0)] (hCm b d k s w ik ex pr wd sn qu tb ts (r0, rq) h0 h1 h2 h3 (f_111_0_fi 0 fi) R) rfl ?_
      have h := Option.some.inj h; subst h
      exact hX_end rfl rfl rfl

/-- UpOneSide.exchange([III)I -/
def v_115_4 (x0 : Int32) (b : hB) : Int32 := b.2.2.2.2.2.2.2.1 (Int32.toNatClampNeg x0)
def f_115_4_b (x0 : Int32) (x1 : Int32) (b : hB) : hB := (b.1, b.2.1, b.2.2.1, b.2.2.2.1, b.2.2.2.2.1, b.2.2.2.2.2.1, b.2.2.2.2.2.2.1, upd b.2.2.2.2.2.2.2.1 (Int32.toNatClampNeg x0) x1, b.2.2.2.2.2.2.2.2)
set_option maxRecDepth 20000 in
set_option maxHeartbeats 1000000 in
theorem ct_115_4 {LL : Nat} {xs : Nat → Int32} {D : Nat} {b d k s w : hB} {ik ex pr wd : Int32} {sn : Nat → Int64} {qu tb : Nat → Int32} {ts : Int32} {r0 : Value} {rq : hRq} {h0 h1 h2 h3 : hSt} {fi : Nat → Int32} {R : List gE} (x0 : Int32) (x1 : Int32) (o1 : gIn x0 8 = true) : hM (gO LL xs) (D + 0) zR_115 [.ref 4, .int x0, .int x1] (hCm b d k s w ik ex pr wd sn qu tb ts (r0, rq) h0 h1 h2 h3 fi R) (some (.int (v_115_4 x0 b))) (hCm (f_115_4_b x0 x1 b) d k s w ik ex pr wd sn qu tb ts (r0, rq) h0 h1 h2 h3 fi R) := by
  refine hX_go 0 0 [some (.ref 4), some (.int x0), some (.int x1), none] [] (hCm b d k s w ik ex pr wd sn qu tb ts (r0, rq) h0 h1 h2 h3 fi R) rfl ?_
  refine hX_go 2 (2) [some (.ref 4), some (.int x0), some (.int x1), none] [.int x0, .ref 4] (hCm b d k s w ik ex pr wd sn qu tb ts (r0, rq) h0 h1 h2 h3 fi R) rfl ?_
  refine hX_gM (gIn x0 8) 3 [some (.ref 4), some (.int x0), some (.int x1), none] [.int (b.2.2.2.2.2.2.2.1 (Int32.toNatClampNeg x0))] rfl o1 ?_
  refine hX_goM 4 (7) [some (.ref 4), some (.int x0), some (.int x1), some (.int (b.2.2.2.2.2.2.2.1 (Int32.toNatClampNeg x0)))] [.int x1, .int x0, .ref 4] rfl ?_
  refine hX_g (gIn x0 8) 8 [some (.ref 4), some (.int x0), some (.int x1), some (.int (b.2.2.2.2.2.2.2.1 (Int32.toNatClampNeg x0)))] [] (hCm (b.1, b.2.1, b.2.2.1, b.2.2.2.1, b.2.2.2.2.1, b.2.2.2.2.2.1, b.2.2.2.2.2.2.1, upd b.2.2.2.2.2.2.2.1 (Int32.toNatClampNeg x0) x1, b.2.2.2.2.2.2.2.2) d k s w ik ex pr wd sn qu tb ts (r0, rq) h0 h1 h2 h3 fi R) rfl o1 ?_
  refine hX_goM 1 (9) [some (.ref 4), some (.int x0), some (.int x1), some (.int (b.2.2.2.2.2.2.2.1 (Int32.toNatClampNeg x0)))] [.int (b.2.2.2.2.2.2.2.1 (Int32.toNatClampNeg x0))] rfl ?_
  exact hX_end rfl (rfl) (rfl)

/-- UpOneSide.exchange([III)I -/
def v_115_3 (x0 : Int32) (b : hB) : Int32 := b.2.2.2.2.2.2.1 (Int32.toNatClampNeg x0)
def f_115_3_b (x0 : Int32) (x1 : Int32) (b : hB) : hB := (b.1, b.2.1, b.2.2.1, b.2.2.2.1, b.2.2.2.2.1, b.2.2.2.2.2.1, upd b.2.2.2.2.2.2.1 (Int32.toNatClampNeg x0) x1, b.2.2.2.2.2.2.2)
set_option maxRecDepth 20000 in
set_option maxHeartbeats 1000000 in
theorem ct_115_3 {LL : Nat} {xs : Nat → Int32} {D : Nat} {b d k s w : hB} {ik ex pr wd : Int32} {sn : Nat → Int64} {qu tb : Nat → Int32} {ts : Int32} {r0 : Value} {rq : hRq} {h0 h1 h2 h3 : hSt} {fi : Nat → Int32} {R : List gE} (x0 : Int32) (x1 : Int32) (o1 : gIn x0 8 = true) : hM (gO LL xs) (D + 0) zR_115 [.ref 3, .int x0, .int x1] (hCm b d k s w ik ex pr wd sn qu tb ts (r0, rq) h0 h1 h2 h3 fi R) (some (.int (v_115_3 x0 b))) (hCm (f_115_3_b x0 x1 b) d k s w ik ex pr wd sn qu tb ts (r0, rq) h0 h1 h2 h3 fi R) := by
  refine hX_go 0 0 [some (.ref 3), some (.int x0), some (.int x1), none] [] (hCm b d k s w ik ex pr wd sn qu tb ts (r0, rq) h0 h1 h2 h3 fi R) rfl ?_
  refine hX_go 2 (2) [some (.ref 3), some (.int x0), some (.int x1), none] [.int x0, .ref 3] (hCm b d k s w ik ex pr wd sn qu tb ts (r0, rq) h0 h1 h2 h3 fi R) rfl ?_
  refine hX_gM (gIn x0 8) 3 [some (.ref 3), some (.int x0), some (.int x1), none] [.int (b.2.2.2.2.2.2.1 (Int32.toNatClampNeg x0))] rfl o1 ?_
  refine hX_goM 4 (7) [some (.ref 3), some (.int x0), some (.int x1), some (.int (b.2.2.2.2.2.2.1 (Int32.toNatClampNeg x0)))] [.int x1, .int x0, .ref 3] rfl ?_
  refine hX_g (gIn x0 8) 8 [some (.ref 3), some (.int x0), some (.int x1), some (.int (b.2.2.2.2.2.2.1 (Int32.toNatClampNeg x0)))] [] (hCm (b.1, b.2.1, b.2.2.1, b.2.2.2.1, b.2.2.2.2.1, b.2.2.2.2.2.1, upd b.2.2.2.2.2.2.1 (Int32.toNatClampNeg x0) x1, b.2.2.2.2.2.2.2) d k s w ik ex pr wd sn qu tb ts (r0, rq) h0 h1 h2 h3 fi R) rfl o1 ?_
  refine hX_goM 1 (9) [some (.ref 3), some (.int x0), some (.int x1), some (.int (b.2.2.2.2.2.2.1 (Int32.toNatClampNeg x0)))] [.int (b.2.2.2.2.2.2.1 (Int32.toNatClampNeg x0))] rfl ?_
  exact hX_end rfl (rfl) (rfl)

/-- UpOneSide.exchange([III)I -/
def v_115_2 (x0 : Int32) (b : hB) : Int32 := b.2.2.2.2.2.1 (Int32.toNatClampNeg x0)
def f_115_2_b (x0 : Int32) (x1 : Int32) (b : hB) : hB := (b.1, b.2.1, b.2.2.1, b.2.2.2.1, b.2.2.2.2.1, upd b.2.2.2.2.2.1 (Int32.toNatClampNeg x0) x1, b.2.2.2.2.2.2)
set_option maxRecDepth 20000 in
set_option maxHeartbeats 1000000 in
theorem ct_115_2 {LL : Nat} {xs : Nat → Int32} {D : Nat} {b d k s w : hB} {ik ex pr wd : Int32} {sn : Nat → Int64} {qu tb : Nat → Int32} {ts : Int32} {r0 : Value} {rq : hRq} {h0 h1 h2 h3 : hSt} {fi : Nat → Int32} {R : List gE} (x0 : Int32) (x1 : Int32) (o1 : gIn x0 8 = true) : hM (gO LL xs) (D + 0) zR_115 [.ref 2, .int x0, .int x1] (hCm b d k s w ik ex pr wd sn qu tb ts (r0, rq) h0 h1 h2 h3 fi R) (some (.int (v_115_2 x0 b))) (hCm (f_115_2_b x0 x1 b) d k s w ik ex pr wd sn qu tb ts (r0, rq) h0 h1 h2 h3 fi R) := by
  refine hX_go 0 0 [some (.ref 2), some (.int x0), some (.int x1), none] [] (hCm b d k s w ik ex pr wd sn qu tb ts (r0, rq) h0 h1 h2 h3 fi R) rfl ?_
  refine hX_go 2 (2) [some (.ref 2), some (.int x0), some (.int x1), none] [.int x0, .ref 2] (hCm b d k s w ik ex pr wd sn qu tb ts (r0, rq) h0 h1 h2 h3 fi R) rfl ?_
  refine hX_gM (gIn x0 8) 3 [some (.ref 2), some (.int x0), some (.int x1), none] [.int (b.2.2.2.2.2.1 (Int32.toNatClampNeg x0))] rfl o1 ?_
  refine hX_goM 4 (7) [some (.ref 2), some (.int x0), some (.int x1), some (.int (b.2.2.2.2.2.1 (Int32.toNatClampNeg x0)))] [.int x1, .int x0, .ref 2] rfl ?_
  refine hX_g (gIn x0 8) 8 [some (.ref 2), some (.int x0), some (.int x1), some (.int (b.2.2.2.2.2.1 (Int32.toNatClampNeg x0)))] [] (hCm (b.1, b.2.1, b.2.2.1, b.2.2.2.1, b.2.2.2.2.1, upd b.2.2.2.2.2.1 (Int32.toNatClampNeg x0) x1, b.2.2.2.2.2.2) d k s w ik ex pr wd sn qu tb ts (r0, rq) h0 h1 h2 h3 fi R) rfl o1 ?_
  refine hX_goM 1 (9) [some (.ref 2), some (.int x0), some (.int x1), some (.int (b.2.2.2.2.2.1 (Int32.toNatClampNeg x0)))] [.int (b.2.2.2.2.2.1 (Int32.toNatClampNeg x0))] rfl ?_
  exact hX_end rfl (rfl) (rfl)


/-- UpOneSide.change(III)I -/
def me_63_0 (N : Nat) (x0 : Int32) (x1 : Int32) (x2 : Int32) (b : hB) (fi : Nat → Int32) : Option (Int32 × hB × (Nat → Int32)) :=
  (bif gCmp .ne (v_113_0 x0 b) 0 then
    some (v_111_0 0, b, f_111_0_fi 0 fi)
  else
    (bif gCmp .eq (v_112 x1 0 2) 0 then
      some (v_111_0 0, b, f_111_0_fi 0 fi)
    else
      (bif gIn x1 3 then (bif gIn x1 3 then (bif gCmp .ne (v_112 x2 ((gSa 1).getD (Int32.toNatClampNeg x1) 0) ((gSa 2).getD (Int32.toNatClampNeg x1) 0)) 0 then
        (bif gCmp .ne x1 0 then
          (bif gCmp .ne x1 1 then
            (bif gIn x0 8 then some (v_115_4 x0 b, (f_115_4_b x0 x2 b), fi) else none)
          else
            (bif gIn x0 8 then some (v_115_3 x0 b, (f_115_3_b x0 x2 b), fi) else none))
        else
          (bif gIn x0 8 then some (v_115_2 x0 b, (f_115_2_b x0 x2 b), fi) else none))
      else
        some (v_111_0 0, b, f_111_0_fi 0 fi)) else none) else none)))
set_option maxRecDepth 20000 in
set_option maxHeartbeats 4000000 in
theorem mt_63_0 {LL : Nat} {xs : Nat → Int32} {D : Nat} {b d k s w : hB} {ik ex pr wd : Int32} {sn : Nat → Int64} {qu tb : Nat → Int32} {ts : Int32} {r0 : Value} {rq : hRq} {h0 h1 h2 h3 : hSt} {fi : Nat → Int32} {R : List gE} (N : Nat) (x0 : Int32) (x1 : Int32) (x2 : Int32) (q : Int32 × hB × (Nat → Int32)) (h : me_63_0 N x0 x1 x2 b fi = some q) : hM (gO LL xs) (D + 1) zR_63 [.ref 0, .int x0, .int x1, .int x2] (hCm b d k s w ik ex pr wd sn qu tb ts (r0, rq) h0 h1 h2 h3 fi R) (some (.int q.1)) (hCm q.2.1 d k s w ik ex pr wd sn qu tb ts (r0, rq) h0 h1 h2 h3 q.2.2 R) := by
  unfold me_63_0 at h
  refine hX_go 0 0 [some (.ref 0), some (.int x0), some (.int x1), some (.int x2)] [] (hCm b d k s w ik ex pr wd sn qu tb ts (r0, rq) h0 h1 h2 h3 fi R) rfl ?_
  refine hX_go 2 (2) [some (.ref 0), some (.int x0), some (.int x1), some (.int x2)] [.int x0, .ref 0] (hCm b d k s w ik ex pr wd sn qu tb ts (r0, rq) h0 h1 h2 h3 fi R) rfl ?_
  refine hX_call (r' := zR_113) rfl (ct_113_0 x0) ?_
  refine hX_goM 1 (bif gCmp .ne (v_113_0 x0 b) 0 then 34 else 8) [some (.ref 0), some (.int x0), some (.int x1), some (.int x2)] [] rfl ?_
  refine hX_if (gCmp .ne (v_113_0 x0 b) 0) (fun c1 => ?_) (fun c1 => ?_)
  · skip
    have h := gcT c1 h
    refine hX_goM 2 (36) [some (.ref 0), some (.int x0), some (.int x1), some (.int x2)] [.int 0, .ref 0] rfl ?_
    refine hX_call (r' := zR_111) rfl (ct_111_0 0 rfl) ?_
    refine hX_go 0 (39) [some (.ref 0), some (.int x0), some (.int x1), some (.int x2)] [.int (v_111_0 0)] (hCm b d k s w ik ex pr wd sn qu tb ts (r0, rq) h0 h1 h2 h3 (f_111_0_fi 0 fi) R) rfl ?_
    have h := Option.some.inj h; subst h
    exact hX_end rfl rfl rfl
  · skip
    have h := gcF c1 h
    refine hX_goM 3 (11) [some (.ref 0), some (.int x0), some (.int x1), some (.int x2)] [.int 2, .int 0, .int x1] rfl ?_
    refine hX_call (r' := zR_112) rfl (ct_112 x1 0 2) ?_
    refine hX_goM 1 (bif gCmp .eq (v_112 x1 0 2) 0 then 34 else 17) [some (.ref 0), some (.int x0), some (.int x1), some (.int x2)] [] rfl ?_
    refine hX_if (gCmp .eq (v_112 x1 0 2) 0) (fun c2 => ?_) (fun c2 => ?_)
    · skip
      have h := gcT c2 h
      refine hX_goM 2 (36) [some (.ref 0), some (.int x0), some (.int x1), some (.int x2)] [.int 0, .ref 0] rfl ?_
      refine hX_call (r' := zR_111) rfl (ct_111_0 0 rfl) ?_
      refine hX_go 0 (39) [some (.ref 0), some (.int x0), some (.int x1), some (.int x2)] [.int (v_111_0 0)] (hCm b d k s w ik ex pr wd sn qu tb ts (r0, rq) h0 h1 h2 h3 (f_111_0_fi 0 fi) R) rfl ?_
      have h := Option.some.inj h; subst h
      exact hX_end rfl rfl rfl
    · skip
      have h := gcF c2 h
      refine hX_goM 3 (22) [some (.ref 0), some (.int x0), some (.int x1), some (.int x2)] [.int x1, .ref 1001, .int x2] rfl ?_
      revert h; refine gCondR fun g3 h => ?_
      refine hX_gM (gIn x1 3) 23 [some (.ref 0), some (.int x0), some (.int x1), some (.int x2)] [.int ((gSa 1).getD (Int32.toNatClampNeg x1) 0), .int x2] rfl g3 ?_
      refine hX_goM 2 (27) [some (.ref 0), some (.int x0), some (.int x1), some (.int x2)] [.int x1, .ref 1002, .int ((gSa 1).getD (Int32.toNatClampNeg x1) 0), .int x2] rfl ?_
      revert h; refine gCondR fun g4 h => ?_
      refine hX_gM (gIn x1 3) 28 [some (.ref 0), some (.int x0), some (.int x1), some (.int x2)] [.int ((gSa 2).getD (Int32.toNatClampNeg x1) 0), .int ((gSa 1).getD (Int32.toNatClampNeg x1) 0), .int x2] rfl g4 ?_
      refine hX_call (r' := zR_112) rfl (ct_112 x2 ((gSa 1).getD (Int32.toNatClampNeg x1) 0) ((gSa 2).getD (Int32.toNatClampNeg x1) 0)) ?_
      refine hX_goM 1 (bif gCmp .ne (v_112 x2 ((gSa 1).getD (Int32.toNatClampNeg x1) 0) ((gSa 2).getD (Int32.toNatClampNeg x1) 0)) 0 then 40 else 34) [some (.ref 0), some (.int x0), some (.int x1), some (.int x2)] [] rfl ?_
      refine hX_if (gCmp .ne (v_112 x2 ((gSa 1).getD (Int32.toNatClampNeg x1) 0) ((gSa 2).getD (Int32.toNatClampNeg x1) 0)) 0) (fun c5 => ?_) (fun c5 => ?_)
      · skip
        have h := gcT c5 h
        refine hX_goM 3 (45) [some (.ref 0), some (.int x0), some (.int x1), some (.int x2)] [.int x1, .ref 1] rfl ?_
        refine hX_bif (gCmp .ne x1 0) (fun c6 => ?_) (fun c6 => ?_)
        · skip
          have h := gcT c6 h
          refine hX_bif (gCmp .ne x1 1) (fun c7 => ?_) (fun c7 => ?_)
          · skip
            have h := gcT c7 h
            refine hX_call (r' := zR_12) rfl (ct_12_1_0 x1 c6 c7) ?_
            refine hX_goM 2 (50) [some (.ref 0), some (.int x0), some (.int x1), some (.int x2)] [.int x2, .int x0, .ref 4] rfl ?_
            revert h; refine gCondR fun g8 h => ?_
            refine hX_call (r' := zR_115) rfl (ct_115_4 x0 x2 g8) ?_
            refine hX_go 0 (53) [some (.ref 0), some (.int x0), some (.int x1), some (.int x2)] [.int (v_115_4 x0 b)] (hCm (f_115_4_b x0 x2 b) d k s w ik ex pr wd sn qu tb ts (r0, rq) h0 h1 h2 h3 fi R) rfl ?_
            have h := Option.some.inj h; subst h
            exact hX_end rfl rfl rfl
          · skip
            have h := gcF c7 h
            refine hX_call (r' := zR_12) rfl (ct_12_1_1 x1 c6 c7) ?_
            refine hX_goM 2 (50) [some (.ref 0), some (.int x0), some (.int x1), some (.int x2)] [.int x2, .int x0, .ref 3] rfl ?_
            revert h; refine gCondR fun g9 h => ?_
            refine hX_call (r' := zR_115) rfl (ct_115_3 x0 x2 g9) ?_
            refine hX_go 0 (53) [some (.ref 0), some (.int x0), some (.int x1), some (.int x2)] [.int (v_115_3 x0 b)] (hCm (f_115_3_b x0 x2 b) d k s w ik ex pr wd sn qu tb ts (r0, rq) h0 h1 h2 h3 fi R) rfl ?_
            have h := Option.some.inj h; subst h
            exact hX_end rfl rfl rfl
        · skip
          have h := gcF c6 h
          refine hX_call (r' := zR_12) rfl (ct_12_1_2 x1 c6) ?_
          refine hX_goM 2 (50) [some (.ref 0), some (.int x0), some (.int x1), some (.int x2)] [.int x2, .int x0, .ref 2] rfl ?_
          revert h; refine gCondR fun g10 h => ?_
          refine hX_call (r' := zR_115) rfl (ct_115_2 x0 x2 g10) ?_
          refine hX_go 0 (53) [some (.ref 0), some (.int x0), some (.int x1), some (.int x2)] [.int (v_115_2 x0 b)] (hCm (f_115_2_b x0 x2 b) d k s w ik ex pr wd sn qu tb ts (r0, rq) h0 h1 h2 h3 fi R) rfl ?_
          have h := Option.some.inj h; subst h
          exact hX_end rfl rfl rfl
      · skip
        have h := gcF c5 h
        refine hX_goM 2 (36) [some (.ref 0), some (.int x0), some (.int x1), some (.int x2)] [.int 0, .ref 0] rfl ?_
        refine hX_call (r' := zR_111) rfl (ct_111_0 0 rfl) ?_
        refine hX_go 0 (39) [some (.ref 0), some (.int x0), some (.int x1), some (.int x2)] [.int (v_111_0 0)] (hCm b d k s w ik ex pr wd sn qu tb ts (r0, rq) h0 h1 h2 h3 (f_111_0_fi 0 fi) R) rfl ?_
        have h := Option.some.inj h; subst h
        exact hX_end rfl rfl rfl

/-- UpOneSide.exchange([III)I -/
def v_115_5 (x0 : Int32) (b : hB) : Int32 := b.2.2.2.2.2.2.2.2.1 (Int32.toNatClampNeg x0)
def f_115_5_b (x0 : Int32) (x1 : Int32) (b : hB) : hB := (b.1, b.2.1, b.2.2.1, b.2.2.2.1, b.2.2.2.2.1, b.2.2.2.2.2.1, b.2.2.2.2.2.2.1, b.2.2.2.2.2.2.2.1, upd b.2.2.2.2.2.2.2.2.1 (Int32.toNatClampNeg x0) x1, b.2.2.2.2.2.2.2.2.2)
set_option maxRecDepth 20000 in
set_option maxHeartbeats 1000000 in
theorem ct_115_5 {LL : Nat} {xs : Nat → Int32} {D : Nat} {b d k s w : hB} {ik ex pr wd : Int32} {sn : Nat → Int64} {qu tb : Nat → Int32} {ts : Int32} {r0 : Value} {rq : hRq} {h0 h1 h2 h3 : hSt} {fi : Nat → Int32} {R : List gE} (x0 : Int32) (x1 : Int32) (o1 : gIn x0 6 = true) : hM (gO LL xs) (D + 0) zR_115 [.ref 5, .int x0, .int x1] (hCm b d k s w ik ex pr wd sn qu tb ts (r0, rq) h0 h1 h2 h3 fi R) (some (.int (v_115_5 x0 b))) (hCm (f_115_5_b x0 x1 b) d k s w ik ex pr wd sn qu tb ts (r0, rq) h0 h1 h2 h3 fi R) := by
  refine hX_go 0 0 [some (.ref 5), some (.int x0), some (.int x1), none] [] (hCm b d k s w ik ex pr wd sn qu tb ts (r0, rq) h0 h1 h2 h3 fi R) rfl ?_
  refine hX_go 2 (2) [some (.ref 5), some (.int x0), some (.int x1), none] [.int x0, .ref 5] (hCm b d k s w ik ex pr wd sn qu tb ts (r0, rq) h0 h1 h2 h3 fi R) rfl ?_
  refine hX_gM (gIn x0 6) 3 [some (.ref 5), some (.int x0), some (.int x1), none] [.int (b.2.2.2.2.2.2.2.2.1 (Int32.toNatClampNeg x0))] rfl o1 ?_
  refine hX_goM 4 (7) [some (.ref 5), some (.int x0), some (.int x1), some (.int (b.2.2.2.2.2.2.2.2.1 (Int32.toNatClampNeg x0)))] [.int x1, .int x0, .ref 5] rfl ?_
  refine hX_g (gIn x0 6) 8 [some (.ref 5), some (.int x0), some (.int x1), some (.int (b.2.2.2.2.2.2.2.2.1 (Int32.toNatClampNeg x0)))] [] (hCm (b.1, b.2.1, b.2.2.1, b.2.2.2.1, b.2.2.2.2.1, b.2.2.2.2.2.1, b.2.2.2.2.2.2.1, b.2.2.2.2.2.2.2.1, upd b.2.2.2.2.2.2.2.2.1 (Int32.toNatClampNeg x0) x1, b.2.2.2.2.2.2.2.2.2) d k s w ik ex pr wd sn qu tb ts (r0, rq) h0 h1 h2 h3 fi R) rfl o1 ?_
  refine hX_goM 1 (9) [some (.ref 5), some (.int x0), some (.int x1), some (.int (b.2.2.2.2.2.2.2.2.1 (Int32.toNatClampNeg x0)))] [.int (b.2.2.2.2.2.2.2.2.1 (Int32.toNatClampNeg x0))] rfl ?_
  exact hX_end rfl (rfl) (rfl)


/-- UpOneSide.rule(II)I -/
def me_64_0 (N : Nat) (x0 : Int32) (x1 : Int32) (b : hB) (fi : Nat → Int32) : Option (Int32 × hB × (Nat → Int32)) :=
  (bif gCmp .eq (v_112 x0 0 5) 0 then
    some (v_111_0 0, b, f_111_0_fi 0 fi)
  else
    (bif gIn x0 6 then (bif gIn x0 6 then (bif gCmp .ne (v_112 x1 ((gSa 3).getD (Int32.toNatClampNeg x0) 0) ((gSa 4).getD (Int32.toNatClampNeg x0) 0)) 0 then
      (bif gIn x0 6 then some (v_115_5 x0 b, (f_115_5_b x0 x1 b), fi) else none)
    else
      some (v_111_0 0, b, f_111_0_fi 0 fi)) else none) else none))
set_option maxRecDepth 20000 in
set_option maxHeartbeats 4000000 in
theorem mt_64_0 {LL : Nat} {xs : Nat → Int32} {D : Nat} {b d k s w : hB} {ik ex pr wd : Int32} {sn : Nat → Int64} {qu tb : Nat → Int32} {ts : Int32} {r0 : Value} {rq : hRq} {h0 h1 h2 h3 : hSt} {fi : Nat → Int32} {R : List gE} (N : Nat) (x0 : Int32) (x1 : Int32) (q : Int32 × hB × (Nat → Int32)) (h : me_64_0 N x0 x1 b fi = some q) : hM (gO LL xs) (D + 1) zR_64 [.ref 0, .int x0, .int x1] (hCm b d k s w ik ex pr wd sn qu tb ts (r0, rq) h0 h1 h2 h3 fi R) (some (.int q.1)) (hCm q.2.1 d k s w ik ex pr wd sn qu tb ts (r0, rq) h0 h1 h2 h3 q.2.2 R) := by
  unfold me_64_0 at h
  refine hX_go 0 0 [some (.ref 0), some (.int x0), some (.int x1)] [] (hCm b d k s w ik ex pr wd sn qu tb ts (r0, rq) h0 h1 h2 h3 fi R) rfl ?_
  refine hX_go 3 (3) [some (.ref 0), some (.int x0), some (.int x1)] [.int 5, .int 0, .int x0] (hCm b d k s w ik ex pr wd sn qu tb ts (r0, rq) h0 h1 h2 h3 fi R) rfl ?_
  refine hX_call (r' := zR_112) rfl (ct_112 x0 0 5) ?_
  refine hX_goM 1 (bif gCmp .eq (v_112 x0 0 5) 0 then 26 else 9) [some (.ref 0), some (.int x0), some (.int x1)] [] rfl ?_
  refine hX_if (gCmp .eq (v_112 x0 0 5) 0) (fun c1 => ?_) (fun c1 => ?_)
  · skip
    have h := gcT c1 h
    refine hX_goM 2 (28) [some (.ref 0), some (.int x0), some (.int x1)] [.int 0, .ref 0] rfl ?_
    refine hX_call (r' := zR_111) rfl (ct_111_0 0 rfl) ?_
    refine hX_go 0 (31) [some (.ref 0), some (.int x0), some (.int x1)] [.int (v_111_0 0)] (hCm b d k s w ik ex pr wd sn qu tb ts (r0, rq) h0 h1 h2 h3 (f_111_0_fi 0 fi) R) rfl ?_
    have h := Option.some.inj h; subst h
    exact hX_end rfl rfl rfl
  · skip
    have h := gcF c1 h
    refine hX_goM 3 (14) [some (.ref 0), some (.int x0), some (.int x1)] [.int x0, .ref 1003, .int x1] rfl ?_
    revert h; refine gCondR fun g2 h => ?_
    refine hX_gM (gIn x0 6) 15 [some (.ref 0), some (.int x0), some (.int x1)] [.int ((gSa 3).getD (Int32.toNatClampNeg x0) 0), .int x1] rfl g2 ?_
    refine hX_goM 2 (19) [some (.ref 0), some (.int x0), some (.int x1)] [.int x0, .ref 1004, .int ((gSa 3).getD (Int32.toNatClampNeg x0) 0), .int x1] rfl ?_
    revert h; refine gCondR fun g3 h => ?_
    refine hX_gM (gIn x0 6) 20 [some (.ref 0), some (.int x0), some (.int x1)] [.int ((gSa 4).getD (Int32.toNatClampNeg x0) 0), .int ((gSa 3).getD (Int32.toNatClampNeg x0) 0), .int x1] rfl g3 ?_
    refine hX_call (r' := zR_112) rfl (ct_112 x1 ((gSa 3).getD (Int32.toNatClampNeg x0) 0) ((gSa 4).getD (Int32.toNatClampNeg x0) 0)) ?_
    refine hX_goM 1 (bif gCmp .ne (v_112 x1 ((gSa 3).getD (Int32.toNatClampNeg x0) 0) ((gSa 4).getD (Int32.toNatClampNeg x0) 0)) 0 then 32 else 26) [some (.ref 0), some (.int x0), some (.int x1)] [] rfl ?_
    refine hX_if (gCmp .ne (v_112 x1 ((gSa 3).getD (Int32.toNatClampNeg x0) 0) ((gSa 4).getD (Int32.toNatClampNeg x0) 0)) 0) (fun c4 => ?_) (fun c4 => ?_)
    · skip
      have h := gcT c4 h
      refine hX_goM 5 (41) [some (.ref 0), some (.int x0), some (.int x1)] [.int x1, .int x0, .ref 5] rfl ?_
      revert h; refine gCondR fun g5 h => ?_
      refine hX_call (r' := zR_115) rfl (ct_115_5 x0 x1 g5) ?_
      refine hX_go 0 (44) [some (.ref 0), some (.int x0), some (.int x1)] [.int (v_115_5 x0 b)] (hCm (f_115_5_b x0 x1 b) d k s w ik ex pr wd sn qu tb ts (r0, rq) h0 h1 h2 h3 fi R) rfl ?_
      have h := Option.some.inj h; subst h
      exact hX_end rfl rfl rfl
    · skip
      have h := gcF c4 h
      refine hX_goM 2 (28) [some (.ref 0), some (.int x0), some (.int x1)] [.int 0, .ref 0] rfl ?_
      refine hX_call (r' := zR_111) rfl (ct_111_0 0 rfl) ?_
      refine hX_go 0 (31) [some (.ref 0), some (.int x0), some (.int x1)] [.int (v_111_0 0)] (hCm b d k s w ik ex pr wd sn qu tb ts (r0, rq) h0 h1 h2 h3 (f_111_0_fi 0 fi) R) rfl ?_
      have h := Option.some.inj h; subst h
      exact hX_end rfl rfl rfl


/-- UpOneSide.ruled(I)I -/
def me_65_0 (N : Nat) (x0 : Int32) (b : hB) (fi : Nat → Int32) : Option (Int32 × (Nat → Int32)) :=
  (bif gCmp .ne (v_112 x0 0 5) 0 then
    (bif gIn x0 6 then some (b.2.2.2.2.2.2.2.2.1 (Int32.toNatClampNeg x0), fi) else none)
  else
    some (v_111_0 0, f_111_0_fi 0 fi))
set_option maxRecDepth 20000 in
set_option maxHeartbeats 4000000 in
theorem mt_65_0 {LL : Nat} {xs : Nat → Int32} {D : Nat} {b d k s w : hB} {ik ex pr wd : Int32} {sn : Nat → Int64} {qu tb : Nat → Int32} {ts : Int32} {r0 : Value} {rq : hRq} {h0 h1 h2 h3 : hSt} {fi : Nat → Int32} {R : List gE} (N : Nat) (x0 : Int32) (q : Int32 × (Nat → Int32)) (h : me_65_0 N x0 b fi = some q) : hM (gO LL xs) (D + 1) zR_65 [.ref 0, .int x0] (hCm b d k s w ik ex pr wd sn qu tb ts (r0, rq) h0 h1 h2 h3 fi R) (some (.int q.1)) (hCm b d k s w ik ex pr wd sn qu tb ts (r0, rq) h0 h1 h2 h3 q.2 R) := by
  unfold me_65_0 at h
  refine hX_go 0 0 [some (.ref 0), some (.int x0)] [] (hCm b d k s w ik ex pr wd sn qu tb ts (r0, rq) h0 h1 h2 h3 fi R) rfl ?_
  refine hX_go 3 (3) [some (.ref 0), some (.int x0)] [.int 5, .int 0, .int x0] (hCm b d k s w ik ex pr wd sn qu tb ts (r0, rq) h0 h1 h2 h3 fi R) rfl ?_
  refine hX_call (r' := zR_112) rfl (ct_112 x0 0 5) ?_
  refine hX_goM 1 (bif gCmp .ne (v_112 x0 0 5) 0 then 15 else 9) [some (.ref 0), some (.int x0)] [] rfl ?_
  refine hX_if (gCmp .ne (v_112 x0 0 5) 0) (fun c1 => ?_) (fun c1 => ?_)
  · skip
    have h := gcT c1 h
    refine hX_goM 4 (23) [some (.ref 0), some (.int x0)] [.int x0, .ref 5] rfl ?_
    revert h; refine gCondR fun g2 h => ?_
    refine hX_gM (gIn x0 6) 24 [some (.ref 0), some (.int x0)] [.int (b.2.2.2.2.2.2.2.2.1 (Int32.toNatClampNeg x0))] rfl g2 ?_
    have h := Option.some.inj h; subst h
    exact hX_end rfl rfl rfl
  · skip
    have h := gcF c1 h
    refine hX_goM 2 (11) [some (.ref 0), some (.int x0)] [.int 0, .ref 0] rfl ?_
    refine hX_call (r' := zR_111) rfl (ct_111_0 0 rfl) ?_
    refine hX_go 0 (14) [some (.ref 0), some (.int x0)] [.int (v_111_0 0)] (hCm b d k s w ik ex pr wd sn qu tb ts (r0, rq) h0 h1 h2 h3 (f_111_0_fi 0 fi) R) rfl ?_
    have h := Option.some.inj h; subst h
    exact hX_end rfl rfl rfl

/-- UpOneSide.exchange([III)I -/
def v_115_6 (x0 : Int32) (b : hB) : Int32 := b.2.2.2.2.2.2.2.2.2.1 (Int32.toNatClampNeg x0)
def f_115_6_b (x0 : Int32) (x1 : Int32) (b : hB) : hB := (b.1, b.2.1, b.2.2.1, b.2.2.2.1, b.2.2.2.2.1, b.2.2.2.2.2.1, b.2.2.2.2.2.2.1, b.2.2.2.2.2.2.2.1, b.2.2.2.2.2.2.2.2.1, upd b.2.2.2.2.2.2.2.2.2.1 (Int32.toNatClampNeg x0) x1, b.2.2.2.2.2.2.2.2.2.2)
set_option maxRecDepth 20000 in
set_option maxHeartbeats 1000000 in
theorem ct_115_6 {LL : Nat} {xs : Nat → Int32} {D : Nat} {b d k s w : hB} {ik ex pr wd : Int32} {sn : Nat → Int64} {qu tb : Nat → Int32} {ts : Int32} {r0 : Value} {rq : hRq} {h0 h1 h2 h3 : hSt} {fi : Nat → Int32} {R : List gE} (x0 : Int32) (x1 : Int32) (o1 : gIn x0 4 = true) : hM (gO LL xs) (D + 0) zR_115 [.ref 6, .int x0, .int x1] (hCm b d k s w ik ex pr wd sn qu tb ts (r0, rq) h0 h1 h2 h3 fi R) (some (.int (v_115_6 x0 b))) (hCm (f_115_6_b x0 x1 b) d k s w ik ex pr wd sn qu tb ts (r0, rq) h0 h1 h2 h3 fi R) := by
  refine hX_go 0 0 [some (.ref 6), some (.int x0), some (.int x1), none] [] (hCm b d k s w ik ex pr wd sn qu tb ts (r0, rq) h0 h1 h2 h3 fi R) rfl ?_
  refine hX_go 2 (2) [some (.ref 6), some (.int x0), some (.int x1), none] [.int x0, .ref 6] (hCm b d k s w ik ex pr wd sn qu tb ts (r0, rq) h0 h1 h2 h3 fi R) rfl ?_
  refine hX_gM (gIn x0 4) 3 [some (.ref 6), some (.int x0), some (.int x1), none] [.int (b.2.2.2.2.2.2.2.2.2.1 (Int32.toNatClampNeg x0))] rfl o1 ?_
  refine hX_goM 4 (7) [some (.ref 6), some (.int x0), some (.int x1), some (.int (b.2.2.2.2.2.2.2.2.2.1 (Int32.toNatClampNeg x0)))] [.int x1, .int x0, .ref 6] rfl ?_
  refine hX_g (gIn x0 4) 8 [some (.ref 6), some (.int x0), some (.int x1), some (.int (b.2.2.2.2.2.2.2.2.2.1 (Int32.toNatClampNeg x0)))] [] (hCm (b.1, b.2.1, b.2.2.1, b.2.2.2.1, b.2.2.2.2.1, b.2.2.2.2.2.1, b.2.2.2.2.2.2.1, b.2.2.2.2.2.2.2.1, b.2.2.2.2.2.2.2.2.1, upd b.2.2.2.2.2.2.2.2.2.1 (Int32.toNatClampNeg x0) x1, b.2.2.2.2.2.2.2.2.2.2) d k s w ik ex pr wd sn qu tb ts (r0, rq) h0 h1 h2 h3 fi R) rfl o1 ?_
  refine hX_goM 1 (9) [some (.ref 6), some (.int x0), some (.int x1), some (.int (b.2.2.2.2.2.2.2.2.2.1 (Int32.toNatClampNeg x0)))] [.int (b.2.2.2.2.2.2.2.2.2.1 (Int32.toNatClampNeg x0))] rfl ?_
  exact hX_end rfl (rfl) (rfl)


/-- UpOneSide.price(II)I -/
def me_66_0 (N : Nat) (x0 : Int32) (x1 : Int32) (b : hB) (fi : Nat → Int32) : Option (Int32 × hB × (Nat → Int32)) :=
  (bif gCmp .eq (v_112 x0 0 3) 0 then
    some (v_111_0 0, b, f_111_0_fi 0 fi)
  else
    (bif gCmp .ne (v_112 x1 0 99) 0 then
      (bif gIn x0 4 then some (v_115_6 x0 b, (f_115_6_b x0 x1 b), fi) else none)
    else
      some (v_111_0 0, b, f_111_0_fi 0 fi)))
set_option maxRecDepth 20000 in
set_option maxHeartbeats 4000000 in
theorem mt_66_0 {LL : Nat} {xs : Nat → Int32} {D : Nat} {b d k s w : hB} {ik ex pr wd : Int32} {sn : Nat → Int64} {qu tb : Nat → Int32} {ts : Int32} {r0 : Value} {rq : hRq} {h0 h1 h2 h3 : hSt} {fi : Nat → Int32} {R : List gE} (N : Nat) (x0 : Int32) (x1 : Int32) (q : Int32 × hB × (Nat → Int32)) (h : me_66_0 N x0 x1 b fi = some q) : hM (gO LL xs) (D + 1) zR_66 [.ref 0, .int x0, .int x1] (hCm b d k s w ik ex pr wd sn qu tb ts (r0, rq) h0 h1 h2 h3 fi R) (some (.int q.1)) (hCm q.2.1 d k s w ik ex pr wd sn qu tb ts (r0, rq) h0 h1 h2 h3 q.2.2 R) := by
  unfold me_66_0 at h
  refine hX_go 0 0 [some (.ref 0), some (.int x0), some (.int x1)] [] (hCm b d k s w ik ex pr wd sn qu tb ts (r0, rq) h0 h1 h2 h3 fi R) rfl ?_
  refine hX_go 3 (3) [some (.ref 0), some (.int x0), some (.int x1)] [.int 3, .int 0, .int x0] (hCm b d k s w ik ex pr wd sn qu tb ts (r0, rq) h0 h1 h2 h3 fi R) rfl ?_
  refine hX_call (r' := zR_112) rfl (ct_112 x0 0 3) ?_
  refine hX_goM 1 (bif gCmp .eq (v_112 x0 0 3) 0 then 19 else 9) [some (.ref 0), some (.int x0), some (.int x1)] [] rfl ?_
  refine hX_if (gCmp .eq (v_112 x0 0 3) 0) (fun c1 => ?_) (fun c1 => ?_)
  · skip
    have h := gcT c1 h
    refine hX_goM 2 (21) [some (.ref 0), some (.int x0), some (.int x1)] [.int 0, .ref 0] rfl ?_
    refine hX_call (r' := zR_111) rfl (ct_111_0 0 rfl) ?_
    refine hX_go 0 (24) [some (.ref 0), some (.int x0), some (.int x1)] [.int (v_111_0 0)] (hCm b d k s w ik ex pr wd sn qu tb ts (r0, rq) h0 h1 h2 h3 (f_111_0_fi 0 fi) R) rfl ?_
    have h := Option.some.inj h; subst h
    exact hX_end rfl rfl rfl
  · skip
    have h := gcF c1 h
    refine hX_goM 3 (13) [some (.ref 0), some (.int x0), some (.int x1)] [.int 99, .int 0, .int x1] rfl ?_
    refine hX_call (r' := zR_112) rfl (ct_112 x1 0 99) ?_
    refine hX_goM 1 (bif gCmp .ne (v_112 x1 0 99) 0 then 25 else 19) [some (.ref 0), some (.int x0), some (.int x1)] [] rfl ?_
    refine hX_if (gCmp .ne (v_112 x1 0 99) 0) (fun c2 => ?_) (fun c2 => ?_)
    · skip
      have h := gcT c2 h
      refine hX_goM 5 (34) [some (.ref 0), some (.int x0), some (.int x1)] [.int x1, .int x0, .ref 6] rfl ?_
      revert h; refine gCondR fun g3 h => ?_
      refine hX_call (r' := zR_115) rfl (ct_115_6 x0 x1 g3) ?_
      refine hX_go 0 (37) [some (.ref 0), some (.int x0), some (.int x1)] [.int (v_115_6 x0 b)] (hCm (f_115_6_b x0 x1 b) d k s w ik ex pr wd sn qu tb ts (r0, rq) h0 h1 h2 h3 fi R) rfl ?_
      have h := Option.some.inj h; subst h
      exact hX_end rfl rfl rfl
    · skip
      have h := gcF c2 h
      refine hX_goM 2 (21) [some (.ref 0), some (.int x0), some (.int x1)] [.int 0, .ref 0] rfl ?_
      refine hX_call (r' := zR_111) rfl (ct_111_0 0 rfl) ?_
      refine hX_go 0 (24) [some (.ref 0), some (.int x0), some (.int x1)] [.int (v_111_0 0)] (hCm b d k s w ik ex pr wd sn qu tb ts (r0, rq) h0 h1 h2 h3 (f_111_0_fi 0 fi) R) rfl ?_
      have h := Option.some.inj h; subst h
      exact hX_end rfl rfl rfl

/-- UpOneSide$Blind.off()I -/
def v_14_1 (b : hB) : Int32 := b.1 - b.2.1
set_option maxRecDepth 20000 in
set_option maxHeartbeats 1000000 in
theorem ct_14_1 {LL : Nat} {xs : Nat → Int32} {D : Nat} {b d k s w : hB} {ik ex pr wd : Int32} {sn : Nat → Int64} {qu tb : Nat → Int32} {ts : Int32} {r0 : Value} {rq : hRq} {h0 h1 h2 h3 : hSt} {fi : Nat → Int32} {R : List gE} : hM (gO LL xs) (D + 0) zR_14 [.ref 1] (hCm b d k s w ik ex pr wd sn qu tb ts (r0, rq) h0 h1 h2 h3 fi R) (some (.int (v_14_1 b))) (hCm b d k s w ik ex pr wd sn qu tb ts (r0, rq) h0 h1 h2 h3 fi R) := by
  refine hX_go 0 0 [some (.ref 1)] [] (hCm b d k s w ik ex pr wd sn qu tb ts (r0, rq) h0 h1 h2 h3 fi R) rfl ?_
  refine hX_go 5 (9) [some (.ref 1)] [.int (b.1 - b.2.1)] (hCm b d k s w ik ex pr wd sn qu tb ts (r0, rq) h0 h1 h2 h3 fi R) rfl ?_
  exact hX_end rfl (rfl) (rfl)


/-- UpOneSide.up(II)I -/
def me_67_0 (N : Nat) (x0 : Int32) (x1 : Int32) (b : hB) (fi : Nat → Int32) : Option (Int32 × hB × (Nat → Int32)) :=
  (bif gCmp .eq (v_112 x0 0 60) 0 then
    some (v_111_0 0, b, f_111_0_fi 0 fi)
  else
    (bif gCmp .ne (v_112 x1 0 60) 0 then
      some (v_14_1 (x0, x1, b.2.2), (x0, x1, b.2.2), fi)
    else
      some (v_111_0 0, b, f_111_0_fi 0 fi)))
set_option maxRecDepth 20000 in
set_option maxHeartbeats 4000000 in
theorem mt_67_0 {LL : Nat} {xs : Nat → Int32} {D : Nat} {b d k s w : hB} {ik ex pr wd : Int32} {sn : Nat → Int64} {qu tb : Nat → Int32} {ts : Int32} {r0 : Value} {rq : hRq} {h0 h1 h2 h3 : hSt} {fi : Nat → Int32} {R : List gE} (N : Nat) (x0 : Int32) (x1 : Int32) (q : Int32 × hB × (Nat → Int32)) (h : me_67_0 N x0 x1 b fi = some q) : hM (gO LL xs) (D + 1) zR_67 [.ref 0, .int x0, .int x1] (hCm b d k s w ik ex pr wd sn qu tb ts (r0, rq) h0 h1 h2 h3 fi R) (some (.int q.1)) (hCm q.2.1 d k s w ik ex pr wd sn qu tb ts (r0, rq) h0 h1 h2 h3 q.2.2 R) := by
  unfold me_67_0 at h
  refine hX_go 0 0 [some (.ref 0), some (.int x0), some (.int x1)] [] (hCm b d k s w ik ex pr wd sn qu tb ts (r0, rq) h0 h1 h2 h3 fi R) rfl ?_
  refine hX_go 3 (4) [some (.ref 0), some (.int x0), some (.int x1)] [.int 60, .int 0, .int x0] (hCm b d k s w ik ex pr wd sn qu tb ts (r0, rq) h0 h1 h2 h3 fi R) rfl ?_
  refine hX_call (r' := zR_112) rfl (ct_112 x0 0 60) ?_
  refine hX_goM 1 (bif gCmp .eq (v_112 x0 0 60) 0 then 20 else 10) [some (.ref 0), some (.int x0), some (.int x1)] [] rfl ?_
  refine hX_if (gCmp .eq (v_112 x0 0 60) 0) (fun c1 => ?_) (fun c1 => ?_)
  · skip
    have h := gcT c1 h
    refine hX_goM 2 (22) [some (.ref 0), some (.int x0), some (.int x1)] [.int 0, .ref 0] rfl ?_
    refine hX_call (r' := zR_111) rfl (ct_111_0 0 rfl) ?_
    refine hX_go 0 (25) [some (.ref 0), some (.int x0), some (.int x1)] [.int (v_111_0 0)] (hCm b d k s w ik ex pr wd sn qu tb ts (r0, rq) h0 h1 h2 h3 (f_111_0_fi 0 fi) R) rfl ?_
    have h := Option.some.inj h; subst h
    exact hX_end rfl rfl rfl
  · skip
    have h := gcF c1 h
    refine hX_goM 3 (14) [some (.ref 0), some (.int x0), some (.int x1)] [.int 60, .int 0, .int x1] rfl ?_
    refine hX_call (r' := zR_112) rfl (ct_112 x1 0 60) ?_
    refine hX_goM 1 (bif gCmp .ne (v_112 x1 0 60) 0 then 26 else 20) [some (.ref 0), some (.int x0), some (.int x1)] [] rfl ?_
    refine hX_if (gCmp .ne (v_112 x1 0 60) 0) (fun c2 => ?_) (fun c2 => ?_)
    · skip
      have h := gcT c2 h
      refine hX_go 9 (43) [some (.ref 0), some (.int x0), some (.int x1)] [.ref 0] (hCm (x0, x1, b.2.2) d k s w ik ex pr wd sn qu tb ts (r0, rq) h0 h1 h2 h3 fi R) rfl ?_
      refine hX_goM 1 (46) [some (.ref 0), some (.int x0), some (.int x1)] [.ref 1] rfl ?_
      refine hX_call (r' := zR_14) rfl (ct_14_1) ?_
      refine hX_goM 0 (49) [some (.ref 0), some (.int x0), some (.int x1)] [.int (v_14_1 (x0, x1, b.2.2))] rfl ?_
      have h := Option.some.inj h; subst h
      exact hX_end rfl rfl rfl
    · skip
      have h := gcF c2 h
      refine hX_goM 2 (22) [some (.ref 0), some (.int x0), some (.int x1)] [.int 0, .ref 0] rfl ?_
      refine hX_call (r' := zR_111) rfl (ct_111_0 0 rfl) ?_
      refine hX_go 0 (25) [some (.ref 0), some (.int x0), some (.int x1)] [.int (v_111_0 0)] (hCm b d k s w ik ex pr wd sn qu tb ts (r0, rq) h0 h1 h2 h3 (f_111_0_fi 0 fi) R) rfl ?_
      have h := Option.some.inj h; subst h
      exact hX_end rfl rfl rfl

/-- UpOneSide$Blind.move(I)V -/
def f_18_1_b (x0 : Int32) (b : hB) : hB := (if 0 < (if (b.1 + (v_16_1 x0 b)) < 60 then (b.1 + (v_16_1 x0 b)) else 60) then (if (b.1 + (v_16_1 x0 b)) < 60 then (b.1 + (v_16_1 x0 b)) else 60) else 0, if 0 < (if (b.2.1 + (v_17_1 x0 b)) < 60 then (b.2.1 + (v_17_1 x0 b)) else 60) then (if (b.2.1 + (v_17_1 x0 b)) < 60 then (b.2.1 + (v_17_1 x0 b)) else 60) else 0, b.2.2)
set_option maxRecDepth 20000 in
set_option maxHeartbeats 1000000 in
theorem ct_18_1 {LL : Nat} {xs : Nat → Int32} {D : Nat} {b d k s w : hB} {ik ex pr wd : Int32} {sn : Nat → Int64} {qu tb : Nat → Int32} {ts : Int32} {r0 : Value} {rq : hRq} {h0 h1 h2 h3 : hSt} {fi : Nat → Int32} {R : List gE} (x0 : Int32) (o1 : gIn x0 8 = true) : hM (gO LL xs) (D + 1) zR_18 [.ref 1, .int x0] (hCm b d k s w ik ex pr wd sn qu tb ts (r0, rq) h0 h1 h2 h3 fi R) none (hCm (f_18_1_b x0 b) d k s w ik ex pr wd sn qu tb ts (r0, rq) h0 h1 h2 h3 fi R) := by
  refine hX_go 0 0 [some (.ref 1), some (.int x0), none, none] [] (hCm b d k s w ik ex pr wd sn qu tb ts (r0, rq) h0 h1 h2 h3 fi R) rfl ?_
  refine hX_go 4 (6) [some (.ref 1), some (.int x0), none, none] [.int x0, .ref 1, .int b.1] (hCm b d k s w ik ex pr wd sn qu tb ts (r0, rq) h0 h1 h2 h3 fi R) rfl ?_
  refine hX_call (r' := zR_16) rfl (ct_16_1 x0 o1) ?_
  refine hX_goM 6 (17) [some (.ref 1), some (.int x0), some (.int (b.1 + (v_16_1 x0 b))), none] [.int x0, .ref 1, .int b.2.1] rfl ?_
  refine hX_call (r' := zR_17) rfl (ct_17_1 x0 o1) ?_
  refine hX_go 9 (36) [some (.ref 1), some (.int x0), some (.int (b.1 + (v_16_1 x0 b))), some (.int (b.2.1 + (v_17_1 x0 b)))] [] (hCm (if 0 < (if (b.1 + (v_16_1 x0 b)) < 60 then (b.1 + (v_16_1 x0 b)) else 60) then (if (b.1 + (v_16_1 x0 b)) < 60 then (b.1 + (v_16_1 x0 b)) else 60) else 0, b.2) d k s w ik ex pr wd sn qu tb ts (r0, rq) h0 h1 h2 h3 fi R) rfl ?_
  refine hX_go 7 (50) [some (.ref 1), some (.int x0), some (.int (b.1 + (v_16_1 x0 b))), some (.int (b.2.1 + (v_17_1 x0 b)))] [] (hCm (if 0 < (if (b.1 + (v_16_1 x0 b)) < 60 then (b.1 + (v_16_1 x0 b)) else 60) then (if (b.1 + (v_16_1 x0 b)) < 60 then (b.1 + (v_16_1 x0 b)) else 60) else 0, if 0 < (if (b.2.1 + (v_17_1 x0 b)) < 60 then (b.2.1 + (v_17_1 x0 b)) else 60) then (if (b.2.1 + (v_17_1 x0 b)) < 60 then (b.2.1 + (v_17_1 x0 b)) else 60) else 0, b.2.2) d k s w ik ex pr wd sn qu tb ts (r0, rq) h0 h1 h2 h3 fi R) rfl ?_
  exact hX_end rfl (rfl) (rfl)

/-- UpOneSide$Blind.perform(I)V -/
def f_20_1_b (x0 : Int32) (b : hB) : hB := (f_18_1_b x0 (b.1, b.2.1, b.2.2.1 + 1, b.2.2.2.1, b.2.2.2.2.1, b.2.2.2.2.2.1, b.2.2.2.2.2.2.1, b.2.2.2.2.2.2.2.1, b.2.2.2.2.2.2.2.2.1, b.2.2.2.2.2.2.2.2.2.1, upd b.2.2.2.2.2.2.2.2.2.2.1 (Int32.toNatClampNeg b.1) (if ((b.2.2.2.2.2.2.2.2.2.2.1 (Int32.toNatClampNeg b.1)) + 1) < 9999 then ((b.2.2.2.2.2.2.2.2.2.2.1 (Int32.toNatClampNeg b.1)) + 1) else 9999), b.2.2.2.2.2.2.2.2.2.2.2))
set_option maxRecDepth 20000 in
set_option maxHeartbeats 1000000 in
theorem ct_20_1 {LL : Nat} {xs : Nat → Int32} {D : Nat} {b d k s w : hB} {ik ex pr wd : Int32} {sn : Nat → Int64} {qu tb : Nat → Int32} {ts : Int32} {r0 : Value} {rq : hRq} {h0 h1 h2 h3 : hSt} {fi : Nat → Int32} {R : List gE} (x0 : Int32) (o1 : gIn b.1 61 = true) (o2 : gIn x0 8 = true) : hM (gO LL xs) (D + 2) zR_20 [.ref 1, .int x0] (hCm b d k s w ik ex pr wd sn qu tb ts (r0, rq) h0 h1 h2 h3 fi R) none (hCm (f_20_1_b x0 b) d k s w ik ex pr wd sn qu tb ts (r0, rq) h0 h1 h2 h3 fi R) := by
  refine hX_go 0 0 [some (.ref 1), some (.int x0)] [] (hCm b d k s w ik ex pr wd sn qu tb ts (r0, rq) h0 h1 h2 h3 fi R) rfl ?_
  refine hX_go 9 (19) [some (.ref 1), some (.int x0)] [.int b.1, .ref 7, .int 9999, .int b.1, .ref 7] (hCm b d k s w ik ex pr wd sn qu tb ts (r0, rq) h0 h1 h2 h3 fi R) rfl ?_
  refine hX_gM (gIn b.1 61) 20 [some (.ref 1), some (.int x0)] [.int (b.2.2.2.2.2.2.2.2.2.2.1 (Int32.toNatClampNeg b.1)), .int 9999, .int b.1, .ref 7] rfl o1 ?_
  refine hX_goM 3 (25) [some (.ref 1), some (.int x0)] [.int (if ((b.2.2.2.2.2.2.2.2.2.2.1 (Int32.toNatClampNeg b.1)) + 1) < 9999 then ((b.2.2.2.2.2.2.2.2.2.2.1 (Int32.toNatClampNeg b.1)) + 1) else 9999), .int b.1, .ref 7] rfl ?_
  refine hX_g (gIn b.1 61) 26 [some (.ref 1), some (.int x0)] [] (hCm (b.1, b.2.1, b.2.2.1, b.2.2.2.1, b.2.2.2.2.1, b.2.2.2.2.2.1, b.2.2.2.2.2.2.1, b.2.2.2.2.2.2.2.1, b.2.2.2.2.2.2.2.2.1, b.2.2.2.2.2.2.2.2.2.1, upd b.2.2.2.2.2.2.2.2.2.2.1 (Int32.toNatClampNeg b.1) (if ((b.2.2.2.2.2.2.2.2.2.2.1 (Int32.toNatClampNeg b.1)) + 1) < 9999 then ((b.2.2.2.2.2.2.2.2.2.2.1 (Int32.toNatClampNeg b.1)) + 1) else 9999), b.2.2.2.2.2.2.2.2.2.2.2) d k s w ik ex pr wd sn qu tb ts (r0, rq) h0 h1 h2 h3 fi R) rfl o1 ?_
  refine hX_go 8 (38) [some (.ref 1), some (.int x0)] [.int x0, .ref 1] (hCm (b.1, b.2.1, b.2.2.1 + 1, b.2.2.2.1, b.2.2.2.2.1, b.2.2.2.2.2.1, b.2.2.2.2.2.2.1, b.2.2.2.2.2.2.2.1, b.2.2.2.2.2.2.2.2.1, b.2.2.2.2.2.2.2.2.2.1, upd b.2.2.2.2.2.2.2.2.2.2.1 (Int32.toNatClampNeg b.1) (if ((b.2.2.2.2.2.2.2.2.2.2.1 (Int32.toNatClampNeg b.1)) + 1) < 9999 then ((b.2.2.2.2.2.2.2.2.2.2.1 (Int32.toNatClampNeg b.1)) + 1) else 9999), b.2.2.2.2.2.2.2.2.2.2.2) d k s w ik ex pr wd sn qu tb ts (r0, rq) h0 h1 h2 h3 fi R) rfl ?_
  refine hX_call (r' := zR_18) rfl (ct_18_1 x0 o2) ?_
  refine hX_go 0 (41) [some (.ref 1), some (.int x0)] [] (hCm (f_18_1_b x0 (b.1, b.2.1, b.2.2.1 + 1, b.2.2.2.1, b.2.2.2.2.1, b.2.2.2.2.2.1, b.2.2.2.2.2.2.1, b.2.2.2.2.2.2.2.1, b.2.2.2.2.2.2.2.2.1, b.2.2.2.2.2.2.2.2.2.1, upd b.2.2.2.2.2.2.2.2.2.2.1 (Int32.toNatClampNeg b.1) (if ((b.2.2.2.2.2.2.2.2.2.2.1 (Int32.toNatClampNeg b.1)) + 1) < 9999 then ((b.2.2.2.2.2.2.2.2.2.2.1 (Int32.toNatClampNeg b.1)) + 1) else 9999), b.2.2.2.2.2.2.2.2.2.2.2)) d k s w ik ex pr wd sn qu tb ts (r0, rq) h0 h1 h2 h3 fi R) rfl ?_
  exact hX_end rfl (rfl) (rfl)


/-- UpOneSide.does(I)I -/
def me_68_0 (N : Nat) (x0 : Int32) (b : hB) (fi : Nat → Int32) : Option (Int32 × hB × (Nat → Int32)) :=
  (bif gCmp .eq (v_113_0 x0 b) 0 then
    (bif gCmp .le (b.2.2.1 + 1) 99999 then
      (bif gIn b.1 61 then (bif gIn x0 8 then some (v_14_1 (f_20_1_b x0 b), (f_20_1_b x0 b), fi) else none) else none)
    else
      some (v_111_0 4, b, f_111_0_fi 4 fi))
  else
    some (v_111_0 0, b, f_111_0_fi 0 fi))
set_option maxRecDepth 20000 in
set_option maxHeartbeats 4000000 in
theorem mt_68_0 {LL : Nat} {xs : Nat → Int32} {D : Nat} {b d k s w : hB} {ik ex pr wd : Int32} {sn : Nat → Int64} {qu tb : Nat → Int32} {ts : Int32} {r0 : Value} {rq : hRq} {h0 h1 h2 h3 : hSt} {fi : Nat → Int32} {R : List gE} (N : Nat) (x0 : Int32) (q : Int32 × hB × (Nat → Int32)) (h : me_68_0 N x0 b fi = some q) : hM (gO LL xs) (D + 3) zR_68 [.ref 0, .int x0] (hCm b d k s w ik ex pr wd sn qu tb ts (r0, rq) h0 h1 h2 h3 fi R) (some (.int q.1)) (hCm q.2.1 d k s w ik ex pr wd sn qu tb ts (r0, rq) h0 h1 h2 h3 q.2.2 R) := by
  unfold me_68_0 at h
  refine hX_go 0 0 [some (.ref 0), some (.int x0)] [] (hCm b d k s w ik ex pr wd sn qu tb ts (r0, rq) h0 h1 h2 h3 fi R) rfl ?_
  refine hX_go 2 (2) [some (.ref 0), some (.int x0)] [.int x0, .ref 0] (hCm b d k s w ik ex pr wd sn qu tb ts (r0, rq) h0 h1 h2 h3 fi R) rfl ?_
  refine hX_call (r' := zR_113) rfl (ct_113_0 x0) ?_
  refine hX_goM 1 (bif gCmp .eq (v_113_0 x0 b) 0 then 14 else 8) [some (.ref 0), some (.int x0)] [] rfl ?_
  refine hX_if (gCmp .eq (v_113_0 x0 b) 0) (fun c1 => ?_) (fun c1 => ?_)
  · skip
    have h := gcT c1 h
    refine hX_goM 7 (bif gCmp .le (b.2.2.1 + 1) 99999 then 34 else 28) [some (.ref 0), some (.int x0)] [] rfl ?_
    refine hX_if (gCmp .le (b.2.2.1 + 1) 99999) (fun c2 => ?_) (fun c2 => ?_)
    · skip
      have h := gcT c2 h
      refine hX_goM 3 (39) [some (.ref 0), some (.int x0)] [.int x0, .ref 1] rfl ?_
      revert h; refine gCondR fun g3 h => ?_
      revert h; refine gCondR fun g4 h => ?_
      refine hX_call (r' := zR_20) rfl (ct_20_1 x0 g3 g4) ?_
      refine hX_go 2 (46) [some (.ref 0), some (.int x0)] [.ref 1] (hCm (f_20_1_b x0 b) d k s w ik ex pr wd sn qu tb ts (r0, rq) h0 h1 h2 h3 fi R) rfl ?_
      refine hX_call (r' := zR_14) rfl (ct_14_1) ?_
      refine hX_goM 0 (49) [some (.ref 0), some (.int x0)] [.int (v_14_1 (f_20_1_b x0 b))] rfl ?_
      have h := Option.some.inj h; subst h
      exact hX_end rfl rfl rfl
    · skip
      have h := gcF c2 h
      refine hX_goM 2 (30) [some (.ref 0), some (.int x0)] [.int 4, .ref 0] rfl ?_
      refine hX_call (r' := zR_111) rfl (ct_111_0 4 rfl) ?_
      refine hX_go 0 (33) [some (.ref 0), some (.int x0)] [.int (v_111_0 4)] (hCm b d k s w ik ex pr wd sn qu tb ts (r0, rq) h0 h1 h2 h3 (f_111_0_fi 4 fi) R) rfl ?_
      have h := Option.some.inj h; subst h
      exact hX_end rfl rfl rfl
  · skip
    have h := gcF c1 h
    refine hX_goM 2 (10) [some (.ref 0), some (.int x0)] [.int 0, .ref 0] rfl ?_
    refine hX_call (r' := zR_111) rfl (ct_111_0 0 rfl) ?_
    refine hX_go 0 (13) [some (.ref 0), some (.int x0)] [.int (v_111_0 0)] (hCm b d k s w ik ex pr wd sn qu tb ts (r0, rq) h0 h1 h2 h3 (f_111_0_fi 0 fi) R) rfl ?_
    have h := Option.some.inj h; subst h
    exact hX_end rfl rfl rfl

theorem sw_69_1 (x : Int32) : gSwT 1 83 0 4 #[35, 43, 51, 59, 67] x = some (bif hEq x 0 then 36 else bif hEq x 1 then 44 else bif hEq x 2 then 52 else bif hEq x 3 then 60 else bif hEq x 4 then 68 else 84) := by
  by_cases q0 : x = 0
  · subst q0; rfl
  by_cases q1 : x = 1
  · subst q1; rfl
  by_cases q2 : x = 2
  · subst q2; rfl
  by_cases q3 : x = 3
  · subst q3; rfl
  by_cases q4 : x = 4
  · subst q4; rfl
  simp only [hEq, q0, q1, q2, q3, q4, decide_false, cond_false]
  have n0 := hNe q0
  have n1 := hNe q1
  have n2 := hNe q2
  have n3 := hNe q3
  have n4 := hNe q4
  unfold gSwT
  rw [show (decide (x.toInt < 0) || decide (4 < x.toInt)) = true from by
    simp only [Bool.or_eq_true, decide_eq_true_eq]
    have e : ∀ z : Int, z < 0 ∨ 4 < z ∨ (z = 0 ∨ z = 1 ∨ z = 2 ∨ z = 3 ∨ z = 4) := by intro z; omega
    rcases e x.toInt with h | h | h
    · exact Or.inl h
    · exact Or.inr h
    · rcases h with h | h | h | h | h
      · exact absurd h n0
      · exact absurd h n1
      · exact absurd h n2
      · exact absurd h n3
      · exact absurd h n4
    ]
  rfl


/-- UpOneSide.now(I)I -/
def me_69_0 (N : Nat) (x0 : Int32) (b : hB) (fi : Nat → Int32) : Option (Int32 × (Nat → Int32)) :=
  (bif hEq x0 0 then
    some (b.1, fi)
  else
    (bif hEq x0 1 then
      some (b.2.1, fi)
    else
      (bif hEq x0 2 then
        some (v_14_1 b, fi)
      else
        (bif hEq x0 3 then
          some (b.2.2.1, fi)
        else
          (bif hEq x0 4 then
            (bif gIn b.1 61 then some (b.2.2.2.2.2.2.2.2.2.2.1 (Int32.toNatClampNeg b.1), fi) else none)
          else
            some (v_111_0 0, f_111_0_fi 0 fi))))))
set_option maxRecDepth 20000 in
set_option maxHeartbeats 4000000 in
theorem mt_69_0 {LL : Nat} {xs : Nat → Int32} {D : Nat} {b d k s w : hB} {ik ex pr wd : Int32} {sn : Nat → Int64} {qu tb : Nat → Int32} {ts : Int32} {r0 : Value} {rq : hRq} {h0 h1 h2 h3 : hSt} {fi : Nat → Int32} {R : List gE} (N : Nat) (x0 : Int32) (q : Int32 × (Nat → Int32)) (h : me_69_0 N x0 b fi = some q) : hM (gO LL xs) (D + 1) zR_69 [.ref 0, .int x0] (hCm b d k s w ik ex pr wd sn qu tb ts (r0, rq) h0 h1 h2 h3 fi R) (some (.int q.1)) (hCm b d k s w ik ex pr wd sn qu tb ts (r0, rq) h0 h1 h2 h3 q.2 R) := by
  unfold me_69_0 at h
  refine hX_go 0 0 [some (.ref 0), some (.int x0)] [] (hCm b d k s w ik ex pr wd sn qu tb ts (r0, rq) h0 h1 h2 h3 fi R) rfl ?_
  refine hX_go 1 (1) [some (.ref 0), some (.int x0)] [.int x0] (hCm b d k s w ik ex pr wd sn qu tb ts (r0, rq) h0 h1 h2 h3 fi R) rfl ?_
  refine hX_sw (bif hEq x0 0 then 36 else bif hEq x0 1 then 44 else bif hEq x0 2 then 52 else bif hEq x0 3 then 60 else bif hEq x0 4 then 68 else 84) rfl (sw_69_1 x0) ?_
  refine hX_if (hEq x0 0) (fun c1 => ?_) (fun c1 => ?_)
  · skip
    have h := gcT c1 h
    refine hX_goM 3 (43) [some (.ref 0), some (.int x0)] [.int b.1] rfl ?_
    have h := Option.some.inj h; subst h
    exact hX_end rfl rfl rfl
  · skip
    have h := gcF c1 h
    refine hX_if (hEq x0 1) (fun c2 => ?_) (fun c2 => ?_)
    · skip
      have h := gcT c2 h
      refine hX_goM 3 (51) [some (.ref 0), some (.int x0)] [.int b.2.1] rfl ?_
      have h := Option.some.inj h; subst h
      exact hX_end rfl rfl rfl
    · skip
      have h := gcF c2 h
      refine hX_if (hEq x0 2) (fun c3 => ?_) (fun c3 => ?_)
      · skip
        have h := gcT c3 h
        refine hX_goM 2 (56) [some (.ref 0), some (.int x0)] [.ref 1] rfl ?_
        refine hX_call (r' := zR_14) rfl (ct_14_1) ?_
        refine hX_goM 0 (59) [some (.ref 0), some (.int x0)] [.int (v_14_1 b)] rfl ?_
        have h := Option.some.inj h; subst h
        exact hX_end rfl rfl rfl
      · skip
        have h := gcF c3 h
        refine hX_if (hEq x0 3) (fun c4 => ?_) (fun c4 => ?_)
        · skip
          have h := gcT c4 h
          refine hX_goM 3 (67) [some (.ref 0), some (.int x0)] [.int b.2.2.1] rfl ?_
          have h := Option.some.inj h; subst h
          exact hX_end rfl rfl rfl
        · skip
          have h := gcF c4 h
          refine hX_if (hEq x0 4) (fun c5 => ?_) (fun c5 => ?_)
          · skip
            have h := gcT c5 h
            refine hX_goM 6 (82) [some (.ref 0), some (.int x0)] [.int b.1, .ref 7] rfl ?_
            revert h; refine gCondR fun g6 h => ?_
            refine hX_gM (gIn b.1 61) 83 [some (.ref 0), some (.int x0)] [.int (b.2.2.2.2.2.2.2.2.2.2.1 (Int32.toNatClampNeg b.1))] rfl g6 ?_
            have h := Option.some.inj h; subst h
            exact hX_end rfl rfl rfl
          · skip
            have h := gcF c5 h
            refine hX_goM 2 (86) [some (.ref 0), some (.int x0)] [.int 0, .ref 0] rfl ?_
            refine hX_call (r' := zR_111) rfl (ct_111_0 0 rfl) ?_
            refine hX_go 0 (89) [some (.ref 0), some (.int x0)] [.int (v_111_0 0)] (hCm b d k s w ik ex pr wd sn qu tb ts (r0, rq) h0 h1 h2 h3 (f_111_0_fi 0 fi) R) rfl ?_
            have h := Option.some.inj h; subst h
            exact hX_end rfl rfl rfl


/-- UpOneSide.wear(I)I -/
def me_70_0 (N : Nat) (x0 : Int32) (b : hB) (fi : Nat → Int32) : Option (Int32 × (Nat → Int32)) :=
  (bif gCmp .ne (v_112 x0 0 60) 0 then
    (bif gIn x0 61 then some (b.2.2.2.2.2.2.2.2.2.2.1 (Int32.toNatClampNeg x0), fi) else none)
  else
    some (v_111_0 0, f_111_0_fi 0 fi))
set_option maxRecDepth 20000 in
set_option maxHeartbeats 4000000 in
theorem mt_70_0 {LL : Nat} {xs : Nat → Int32} {D : Nat} {b d k s w : hB} {ik ex pr wd : Int32} {sn : Nat → Int64} {qu tb : Nat → Int32} {ts : Int32} {r0 : Value} {rq : hRq} {h0 h1 h2 h3 : hSt} {fi : Nat → Int32} {R : List gE} (N : Nat) (x0 : Int32) (q : Int32 × (Nat → Int32)) (h : me_70_0 N x0 b fi = some q) : hM (gO LL xs) (D + 1) zR_70 [.ref 0, .int x0] (hCm b d k s w ik ex pr wd sn qu tb ts (r0, rq) h0 h1 h2 h3 fi R) (some (.int q.1)) (hCm b d k s w ik ex pr wd sn qu tb ts (r0, rq) h0 h1 h2 h3 q.2 R) := by
  unfold me_70_0 at h
  refine hX_go 0 0 [some (.ref 0), some (.int x0)] [] (hCm b d k s w ik ex pr wd sn qu tb ts (r0, rq) h0 h1 h2 h3 fi R) rfl ?_
  refine hX_go 3 (4) [some (.ref 0), some (.int x0)] [.int 60, .int 0, .int x0] (hCm b d k s w ik ex pr wd sn qu tb ts (r0, rq) h0 h1 h2 h3 fi R) rfl ?_
  refine hX_call (r' := zR_112) rfl (ct_112 x0 0 60) ?_
  refine hX_goM 1 (bif gCmp .ne (v_112 x0 0 60) 0 then 16 else 10) [some (.ref 0), some (.int x0)] [] rfl ?_
  refine hX_if (gCmp .ne (v_112 x0 0 60) 0) (fun c1 => ?_) (fun c1 => ?_)
  · skip
    have h := gcT c1 h
    refine hX_goM 4 (24) [some (.ref 0), some (.int x0)] [.int x0, .ref 7] rfl ?_
    revert h; refine gCondR fun g2 h => ?_
    refine hX_gM (gIn x0 61) 25 [some (.ref 0), some (.int x0)] [.int (b.2.2.2.2.2.2.2.2.2.2.1 (Int32.toNatClampNeg x0))] rfl g2 ?_
    have h := Option.some.inj h; subst h
    exact hX_end rfl rfl rfl
  · skip
    have h := gcF c1 h
    refine hX_goM 2 (12) [some (.ref 0), some (.int x0)] [.int 0, .ref 0] rfl ?_
    refine hX_call (r' := zR_111) rfl (ct_111_0 0 rfl) ?_
    refine hX_go 0 (15) [some (.ref 0), some (.int x0)] [.int (v_111_0 0)] (hCm b d k s w ik ex pr wd sn qu tb ts (r0, rq) h0 h1 h2 h3 (f_111_0_fi 0 fi) R) rfl ?_
    have h := Option.some.inj h; subst h
    exact hX_end rfl rfl rfl

/-- UpOneSide$Blind.wearTogether: the loop at 4 -/
def lp_21_1_4 (N : Nat) (b : hB) : Nat → Int32 → Int32 → Option (Int32 × Int32)
  | 0, _, _ => none
  | n + 1, y1, y2 =>
    (bif gCmp .ge y2 61 then
      some (y1, y2)
    else
      (bif gIn y2 61 then lp_21_1_4 N b n (y1 + (b.2.2.2.2.2.2.2.2.2.2.1 (Int32.toNatClampNeg y2))) (y2 + 1) else none))
set_option maxRecDepth 20000 in
set_option maxHeartbeats 4000000 in
theorem lt_21_1_4 {LL : Nat} {xs : Nat → Int32} {D N : Nat} {b d k s w : hB} {ik ex pr wd : Int32} {sn : Nat → Int64} {qu tb : Nat → Int32} {ts : Int32} {r0 : Value} {rq : hRq} {h0 h1 h2 h3 : hSt} {fi : Nat → Int32} {R : List gE} {v : Option Value} {M' : List gE} : ∀ (n : Nat) (y1 : Int32) (y2 : Int32) (q : Int32 × Int32), lp_21_1_4 N b n y1 y2 = some q → (kk : hX (gO LL xs) (D + 0) zR_21 25 [some (.ref 1), some (.int q.1), some (.int q.2)] [] (hCm b d k s w ik ex pr wd sn qu tb ts (r0, rq) h0 h1 h2 h3 fi R) v M') → hX (gO LL xs) (D + 0) zR_21 4 [some (.ref 1), some (.int y1), some (.int y2)] [] (hCm b d k s w ik ex pr wd sn qu tb ts (r0, rq) h0 h1 h2 h3 fi R) v M' := by
  intro n
  induction n with
  | zero => intro y1 y2 q h; cases h
  | succ n ih =>
    intro y1 y2 q h kk
    rw [lp_21_1_4] at h
    refine hX_go 3 (bif gCmp .ge y2 61 then 25 else 10) [some (.ref 1), some (.int y1), some (.int y2)] [] (hCm b d k s w ik ex pr wd sn qu tb ts (r0, rq) h0 h1 h2 h3 fi R) rfl ?_
    refine hX_if (gCmp .ge y2 61) (fun c1 => ?_) (fun c1 => ?_)
    · skip
      have h := gcT c1 h
      have h := Option.some.inj h; subst h
      exact kk
    · skip
      have h := gcF c1 h
      refine hX_goM 4 (16) [some (.ref 1), some (.int y1), some (.int y2)] [.int y2, .ref 7, .int y1] rfl ?_
      revert h; refine gCondR fun g2 h => ?_
      refine hX_gM (gIn y2 61) 17 [some (.ref 1), some (.int y1), some (.int y2)] [.int (b.2.2.2.2.2.2.2.2.2.2.1 (Int32.toNatClampNeg y2)), .int y1] rfl g2 ?_
      refine hX_goM 4 (4) [some (.ref 1), some (.int (y1 + (b.2.2.2.2.2.2.2.2.2.2.1 (Int32.toNatClampNeg y2)))), some (.int (y2 + 1))] [] rfl ?_
      exact ih (y1 + (b.2.2.2.2.2.2.2.2.2.2.1 (Int32.toNatClampNeg y2))) (y2 + 1) q h kk

/-- UpOneSide$Blind.wearTogether()I -/
def me_21_1 (N : Nat) (b : hB) : Option (Int32) :=
  (Option.bind (lp_21_1_4 N b N 0 0) fun q1 =>
  some (q1.1))
set_option maxRecDepth 20000 in
set_option maxHeartbeats 4000000 in
theorem mt_21_1 {LL : Nat} {xs : Nat → Int32} {D : Nat} {b d k s w : hB} {ik ex pr wd : Int32} {sn : Nat → Int64} {qu tb : Nat → Int32} {ts : Int32} {r0 : Value} {rq : hRq} {h0 h1 h2 h3 : hSt} {fi : Nat → Int32} {R : List gE} (N : Nat) (q : Int32) (h : me_21_1 N b = some q) : hM (gO LL xs) (D + 0) zR_21 [.ref 1] (hCm b d k s w ik ex pr wd sn qu tb ts (r0, rq) h0 h1 h2 h3 fi R) (some (.int q)) (hCm b d k s w ik ex pr wd sn qu tb ts (r0, rq) h0 h1 h2 h3 fi R) := by
  unfold me_21_1 at h
  refine hX_go 0 0 [some (.ref 1), none, none] [] (hCm b d k s w ik ex pr wd sn qu tb ts (r0, rq) h0 h1 h2 h3 fi R) rfl ?_
  refine hX_go 4 (4) [some (.ref 1), some (.int 0), some (.int 0)] [] (hCm b d k s w ik ex pr wd sn qu tb ts (r0, rq) h0 h1 h2 h3 fi R) rfl ?_
  revert h; refine gBindR fun q1 e1 h => ?_
  refine lt_21_1_4 N 0 0 q1 e1 ?_
  refine hX_goM 1 (26) [some (.ref 1), some (.int q1.1), some (.int q1.2)] [.int q1.1] rfl ?_
  have h := Option.some.inj h; subst h
  exact hX_end rfl rfl rfl

/-- java/util/Arrays.fill: the loop at 5 -/
def lp_7_7_5 (N : Nat) (y1 : Int32) (y3 : Int32) : Nat → Int32 → hB → Option (Int32 × hB)
  | 0, _, _ => none
  | n + 1, y2, b =>
    (bif gCmp .ge y2 y3 then
      some (y2, b)
    else
      (bif gIn y2 61 then lp_7_7_5 N y1 y3 n (y2 + 1) (b.1, b.2.1, b.2.2.1, b.2.2.2.1, b.2.2.2.2.1, b.2.2.2.2.2.1, b.2.2.2.2.2.2.1, b.2.2.2.2.2.2.2.1, b.2.2.2.2.2.2.2.2.1, b.2.2.2.2.2.2.2.2.2.1, upd b.2.2.2.2.2.2.2.2.2.2.1 (Int32.toNatClampNeg y2) y1, b.2.2.2.2.2.2.2.2.2.2.2) else none))
set_option maxRecDepth 20000 in
set_option maxHeartbeats 4000000 in
theorem lt_7_7_5 {LL : Nat} {xs : Nat → Int32} {D N : Nat} {d k s w : hB} {ik ex pr wd : Int32} {sn : Nat → Int64} {qu tb : Nat → Int32} {ts : Int32} {r0 : Value} {rq : hRq} {h0 h1 h2 h3 : hSt} {fi : Nat → Int32} {R : List gE} {y1 : Int32} {y3 : Int32} {v : Option Value} {M' : List gE} : ∀ (n : Nat) (y2 : Int32) (b : hB) (q : Int32 × hB), lp_7_7_5 N y1 y3 n y2 b = some q → (kk : hX (gO LL xs) (D + 0) zR_7 20 [some (.ref 7), some (.int y1), some (.int q.1), some (.int y3)] [] (hCm q.2 d k s w ik ex pr wd sn qu tb ts (r0, rq) h0 h1 h2 h3 fi R) v M') → hX (gO LL xs) (D + 0) zR_7 5 [some (.ref 7), some (.int y1), some (.int y2), some (.int y3)] [] (hCm b d k s w ik ex pr wd sn qu tb ts (r0, rq) h0 h1 h2 h3 fi R) v M' := by
  intro n
  induction n with
  | zero => intro y2 b q h; cases h
  | succ n ih =>
    intro y2 b q h kk
    rw [lp_7_7_5] at h
    refine hX_go 3 (bif gCmp .ge y2 y3 then 20 else 10) [some (.ref 7), some (.int y1), some (.int y2), some (.int y3)] [] (hCm b d k s w ik ex pr wd sn qu tb ts (r0, rq) h0 h1 h2 h3 fi R) rfl ?_
    refine hX_if (gCmp .ge y2 y3) (fun c1 => ?_) (fun c1 => ?_)
    · skip
      have h := gcT c1 h
      have h := Option.some.inj h; subst h
      exact kk
    · skip
      have h := gcF c1 h
      refine hX_goM 3 (13) [some (.ref 7), some (.int y1), some (.int y2), some (.int y3)] [.int y1, .int y2, .ref 7] rfl ?_
      revert h; refine gCondR fun g2 h => ?_
      refine hX_g (gIn y2 61) 14 [some (.ref 7), some (.int y1), some (.int y2), some (.int y3)] [] (hCm (b.1, b.2.1, b.2.2.1, b.2.2.2.1, b.2.2.2.2.1, b.2.2.2.2.2.1, b.2.2.2.2.2.2.1, b.2.2.2.2.2.2.2.1, b.2.2.2.2.2.2.2.2.1, b.2.2.2.2.2.2.2.2.2.1, upd b.2.2.2.2.2.2.2.2.2.2.1 (Int32.toNatClampNeg y2) y1, b.2.2.2.2.2.2.2.2.2.2.2) d k s w ik ex pr wd sn qu tb ts (r0, rq) h0 h1 h2 h3 fi R) rfl g2 ?_
      refine hX_goM 2 (5) [some (.ref 7), some (.int y1), some (.int (y2 + 1)), some (.int y3)] [] rfl ?_
      exact ih (y2 + 1) (b.1, b.2.1, b.2.2.1, b.2.2.2.1, b.2.2.2.2.1, b.2.2.2.2.2.1, b.2.2.2.2.2.2.1, b.2.2.2.2.2.2.2.1, b.2.2.2.2.2.2.2.2.1, b.2.2.2.2.2.2.2.2.2.1, upd b.2.2.2.2.2.2.2.2.2.2.1 (Int32.toNatClampNeg y2) y1, b.2.2.2.2.2.2.2.2.2.2.2) q h kk

/-- java/util/Arrays.fill([II)V -/
def me_7_7 (N : Nat) (x0 : Int32) (b : hB) : Option (hB) :=
  (Option.bind (lp_7_7_5 N x0 61 N 0 b) fun q1 =>
  some (q1.2))
set_option maxRecDepth 20000 in
set_option maxHeartbeats 4000000 in
theorem mt_7_7 {LL : Nat} {xs : Nat → Int32} {D : Nat} {b d k s w : hB} {ik ex pr wd : Int32} {sn : Nat → Int64} {qu tb : Nat → Int32} {ts : Int32} {r0 : Value} {rq : hRq} {h0 h1 h2 h3 : hSt} {fi : Nat → Int32} {R : List gE} (N : Nat) (x0 : Int32) (q : hB) (h : me_7_7 N x0 b = some q) : hM (gO LL xs) (D + 0) zR_7 [.ref 7, .int x0] (hCm b d k s w ik ex pr wd sn qu tb ts (r0, rq) h0 h1 h2 h3 fi R) none (hCm q d k s w ik ex pr wd sn qu tb ts (r0, rq) h0 h1 h2 h3 fi R) := by
  unfold me_7_7 at h
  refine hX_go 0 0 [some (.ref 7), some (.int x0), none, none] [] (hCm b d k s w ik ex pr wd sn qu tb ts (r0, rq) h0 h1 h2 h3 fi R) rfl ?_
  refine hX_go 5 (5) [some (.ref 7), some (.int x0), some (.int 0), some (.int 61)] [] (hCm b d k s w ik ex pr wd sn qu tb ts (r0, rq) h0 h1 h2 h3 fi R) rfl ?_
  revert h; refine gBindR fun q1 e1 h => ?_
  refine lt_7_7_5 N 0 b q1 e1 ?_
  refine hX_go 0 (20) [some (.ref 7), some (.int x0), some (.int q1.1), some (.int 61)] [] (hCm q1.2 d k s w ik ex pr wd sn qu tb ts (r0, rq) h0 h1 h2 h3 fi R) rfl ?_
  have h := Option.some.inj h; subst h
  exact hX_end rfl rfl rfl


/-- UpOneSide.cord()I -/
def me_71_0 (N : Nat) (b : hB) : Option (Int32 × hB) :=
  (Option.bind (me_21_1 N b) fun q1 =>
  (Option.bind (me_7_7 N 0 b) fun q2 =>
  some (q1, q2)))
set_option maxRecDepth 20000 in
set_option maxHeartbeats 4000000 in
theorem mt_71_0 {LL : Nat} {xs : Nat → Int32} {D : Nat} {b d k s w : hB} {ik ex pr wd : Int32} {sn : Nat → Int64} {qu tb : Nat → Int32} {ts : Int32} {r0 : Value} {rq : hRq} {h0 h1 h2 h3 : hSt} {fi : Nat → Int32} {R : List gE} (N : Nat) (q : Int32 × hB) (h : me_71_0 N b = some q) : hM (gO LL xs) (D + 1) zR_71 [.ref 0] (hCm b d k s w ik ex pr wd sn qu tb ts (r0, rq) h0 h1 h2 h3 fi R) (some (.int q.1)) (hCm q.2 d k s w ik ex pr wd sn qu tb ts (r0, rq) h0 h1 h2 h3 fi R) := by
  unfold me_71_0 at h
  refine hX_go 0 0 [some (.ref 0), none] [] (hCm b d k s w ik ex pr wd sn qu tb ts (r0, rq) h0 h1 h2 h3 fi R) rfl ?_
  refine hX_go 2 (4) [some (.ref 0), none] [.ref 1] (hCm b d k s w ik ex pr wd sn qu tb ts (r0, rq) h0 h1 h2 h3 fi R) rfl ?_
  revert h; refine gBindR fun q1 e1 h => ?_
  refine hX_call (r' := zR_21) rfl (mt_21_1 N q1 e1) ?_
  refine hX_goM 5 (16) [some (.ref 0), some (.int q1)] [.int 0, .ref 7] rfl ?_
  revert h; refine gBindR fun q2 e2 h => ?_
  refine hX_call (r' := zR_7) rfl (mt_7_7 N 0 q2 e2) ?_
  refine hX_go 1 (20) [some (.ref 0), some (.int q1)] [.int q1] (hCm q2 d k s w ik ex pr wd sn qu tb ts (r0, rq) h0 h1 h2 h3 fi R) rfl ?_
  have h := Option.some.inj h; subst h
  exact hX_end rfl rfl rfl

/-- UpOneSide$Blind.takeOver(LUpOneSide$Blind;)V -/
def f_10_10_1_d (b : hB) (d : hB) : hB := (b.1, b.2.1, b.2.2.1, b.2.2.2.1, b.2.2.2.2.1, va_cpy b.2.2.2.2.2.1 d.2.2.2.2.2.1 0 0 8, va_cpy b.2.2.2.2.2.2.1 d.2.2.2.2.2.2.1 0 0 8, va_cpy b.2.2.2.2.2.2.2.1 d.2.2.2.2.2.2.2.1 0 0 8, va_cpy b.2.2.2.2.2.2.2.2.1 d.2.2.2.2.2.2.2.2.1 0 0 6, va_cpy b.2.2.2.2.2.2.2.2.2.1 d.2.2.2.2.2.2.2.2.2.1 0 0 4, va_cpy b.2.2.2.2.2.2.2.2.2.2.1 d.2.2.2.2.2.2.2.2.2.2.1 0 0 61, va_cpy b.2.2.2.2.2.2.2.2.2.2.2.1 d.2.2.2.2.2.2.2.2.2.2.2.1 0 0 24, va_cpy b.2.2.2.2.2.2.2.2.2.2.2.2 d.2.2.2.2.2.2.2.2.2.2.2.2 0 0 10)
set_option maxRecDepth 20000 in
set_option maxHeartbeats 1000000 in
theorem ct_10_10_1 {LL : Nat} {xs : Nat → Int32} {D : Nat} {b d k s w : hB} {ik ex pr wd : Int32} {sn : Nat → Int64} {qu tb : Nat → Int32} {ts : Int32} {r0 : Value} {rq : hRq} {h0 h1 h2 h3 : hSt} {fi : Nat → Int32} {R : List gE} : hM (gO LL xs) (D + 1) zR_10 [.ref 10, .ref 1] (hCm b d k s w ik ex pr wd sn qu tb ts (r0, rq) h0 h1 h2 h3 fi R) none (hCm b (f_10_10_1_d b d) k s w ik ex pr wd sn qu tb ts (r0, rq) h0 h1 h2 h3 fi R) := by
  refine hX_go 0 0 [some (.ref 10), some (.ref 1)] [] (hCm b d k s w ik ex pr wd sn qu tb ts (r0, rq) h0 h1 h2 h3 fi R) rfl ?_
  refine hX_go 9 (17) [some (.ref 10), some (.ref 1)] [.ref 10] (hCm b (b.1, b.2.1, d.2.2) k s w ik ex pr wd sn qu tb ts (r0, rq) h0 h1 h2 h3 fi R) rfl ?_
  refine hX_go 9 (34) [some (.ref 10), some (.ref 1)] [.ref 1, .ref 10] (hCm b (b.1, b.2.1, b.2.2.1, b.2.2.2.1, d.2.2.2.2) k s w ik ex pr wd sn qu tb ts (r0, rq) h0 h1 h2 h3 fi R) rfl ?_
  refine hX_go 9 (52) [some (.ref 10), some (.ref 1)] [.int 8, .int 0, .ref 11, .int 0, .ref 2] (hCm b (b.1, b.2.1, b.2.2.1, b.2.2.2.1, b.2.2.2.2.1, d.2.2.2.2.2) k s w ik ex pr wd sn qu tb ts (r0, rq) h0 h1 h2 h3 fi R) rfl ?_
  refine hX_go 9 (70) [some (.ref 10), some (.ref 1)] [] (hCm b (b.1, b.2.1, b.2.2.1, b.2.2.2.1, b.2.2.2.2.1, va_cpy b.2.2.2.2.2.1 d.2.2.2.2.2.1 0 0 8, va_cpy b.2.2.2.2.2.2.1 d.2.2.2.2.2.2.1 0 0 8, d.2.2.2.2.2.2.2) k s w ik ex pr wd sn qu tb ts (r0, rq) h0 h1 h2 h3 fi R) rfl ?_
  refine hX_go 9 (86) [some (.ref 10), some (.ref 1)] [.ref 1] (hCm b (b.1, b.2.1, b.2.2.1, b.2.2.2.1, b.2.2.2.2.1, va_cpy b.2.2.2.2.2.1 d.2.2.2.2.2.1 0 0 8, va_cpy b.2.2.2.2.2.2.1 d.2.2.2.2.2.2.1 0 0 8, va_cpy b.2.2.2.2.2.2.2.1 d.2.2.2.2.2.2.2.1 0 0 8, d.2.2.2.2.2.2.2.2) k s w ik ex pr wd sn qu tb ts (r0, rq) h0 h1 h2 h3 fi R) rfl ?_
  refine hX_go 9 (103) [some (.ref 10), some (.ref 1)] [] (hCm b (b.1, b.2.1, b.2.2.1, b.2.2.2.1, b.2.2.2.2.1, va_cpy b.2.2.2.2.2.1 d.2.2.2.2.2.1 0 0 8, va_cpy b.2.2.2.2.2.2.1 d.2.2.2.2.2.2.1 0 0 8, va_cpy b.2.2.2.2.2.2.2.1 d.2.2.2.2.2.2.2.1 0 0 8, va_cpy b.2.2.2.2.2.2.2.2.1 d.2.2.2.2.2.2.2.2.1 0 0 6, d.2.2.2.2.2.2.2.2.2) k s w ik ex pr wd sn qu tb ts (r0, rq) h0 h1 h2 h3 fi R) rfl ?_
  refine hX_go 9 (118) [some (.ref 10), some (.ref 1)] [.ref 1] (hCm b (b.1, b.2.1, b.2.2.1, b.2.2.2.1, b.2.2.2.2.1, va_cpy b.2.2.2.2.2.1 d.2.2.2.2.2.1 0 0 8, va_cpy b.2.2.2.2.2.2.1 d.2.2.2.2.2.2.1 0 0 8, va_cpy b.2.2.2.2.2.2.2.1 d.2.2.2.2.2.2.2.1 0 0 8, va_cpy b.2.2.2.2.2.2.2.2.1 d.2.2.2.2.2.2.2.2.1 0 0 6, va_cpy b.2.2.2.2.2.2.2.2.2.1 d.2.2.2.2.2.2.2.2.2.1 0 0 4, d.2.2.2.2.2.2.2.2.2.2) k s w ik ex pr wd sn qu tb ts (r0, rq) h0 h1 h2 h3 fi R) rfl ?_
  refine hX_go 9 (136) [some (.ref 10), some (.ref 1)] [.ref 8] (hCm b (b.1, b.2.1, b.2.2.1, b.2.2.2.1, b.2.2.2.2.1, va_cpy b.2.2.2.2.2.1 d.2.2.2.2.2.1 0 0 8, va_cpy b.2.2.2.2.2.2.1 d.2.2.2.2.2.2.1 0 0 8, va_cpy b.2.2.2.2.2.2.2.1 d.2.2.2.2.2.2.2.1 0 0 8, va_cpy b.2.2.2.2.2.2.2.2.1 d.2.2.2.2.2.2.2.2.1 0 0 6, va_cpy b.2.2.2.2.2.2.2.2.2.1 d.2.2.2.2.2.2.2.2.2.1 0 0 4, va_cpy b.2.2.2.2.2.2.2.2.2.2.1 d.2.2.2.2.2.2.2.2.2.2.1 0 0 61, d.2.2.2.2.2.2.2.2.2.2.2) k s w ik ex pr wd sn qu tb ts (r0, rq) h0 h1 h2 h3 fi R) rfl ?_
  refine hX_go 9 (152) [some (.ref 10), some (.ref 1)] [.int 0, .ref 9] (hCm b (b.1, b.2.1, b.2.2.1, b.2.2.2.1, b.2.2.2.2.1, va_cpy b.2.2.2.2.2.1 d.2.2.2.2.2.1 0 0 8, va_cpy b.2.2.2.2.2.2.1 d.2.2.2.2.2.2.1 0 0 8, va_cpy b.2.2.2.2.2.2.2.1 d.2.2.2.2.2.2.2.1 0 0 8, va_cpy b.2.2.2.2.2.2.2.2.1 d.2.2.2.2.2.2.2.2.1 0 0 6, va_cpy b.2.2.2.2.2.2.2.2.2.1 d.2.2.2.2.2.2.2.2.2.1 0 0 4, va_cpy b.2.2.2.2.2.2.2.2.2.2.1 d.2.2.2.2.2.2.2.2.2.2.1 0 0 61, va_cpy b.2.2.2.2.2.2.2.2.2.2.2.1 d.2.2.2.2.2.2.2.2.2.2.2.1 0 0 24, d.2.2.2.2.2.2.2.2.2.2.2.2) k s w ik ex pr wd sn qu tb ts (r0, rq) h0 h1 h2 h3 fi R) rfl ?_
  refine hX_go 5 (162) [some (.ref 10), some (.ref 1)] [] (hCm b (b.1, b.2.1, b.2.2.1, b.2.2.2.1, b.2.2.2.2.1, va_cpy b.2.2.2.2.2.1 d.2.2.2.2.2.1 0 0 8, va_cpy b.2.2.2.2.2.2.1 d.2.2.2.2.2.2.1 0 0 8, va_cpy b.2.2.2.2.2.2.2.1 d.2.2.2.2.2.2.2.1 0 0 8, va_cpy b.2.2.2.2.2.2.2.2.1 d.2.2.2.2.2.2.2.2.1 0 0 6, va_cpy b.2.2.2.2.2.2.2.2.2.1 d.2.2.2.2.2.2.2.2.2.1 0 0 4, va_cpy b.2.2.2.2.2.2.2.2.2.2.1 d.2.2.2.2.2.2.2.2.2.2.1 0 0 61, va_cpy b.2.2.2.2.2.2.2.2.2.2.2.1 d.2.2.2.2.2.2.2.2.2.2.2.1 0 0 24, va_cpy b.2.2.2.2.2.2.2.2.2.2.2.2 d.2.2.2.2.2.2.2.2.2.2.2.2 0 0 10) k s w ik ex pr wd sn qu tb ts (r0, rq) h0 h1 h2 h3 fi R) rfl ?_
  exact hX_end rfl (rfl) (rfl)

/-- UpOneSide$Blind.leftLift(I)I -/
def v_16_10 (x0 : Int32) (d : hB) : Int32 := (bif hEq (d.2.2.2.2.2.1 (Int32.toNatClampNeg x0)) 1 then ((d.2.2.2.2.2.2.1 (Int32.toNatClampNeg x0)) - ((d.1 - d.2.1) / 2)) else (bif hEq (d.2.2.2.2.2.1 (Int32.toNatClampNeg x0)) 2 then ((d.2.2.2.2.2.2.1 (Int32.toNatClampNeg x0)) + (d.2.2.2.2.2.2.2.1 (Int32.toNatClampNeg x0))) else (bif hEq (d.2.2.2.2.2.1 (Int32.toNatClampNeg x0)) 3 then ((d.2.2.2.2.2.2.1 (Int32.toNatClampNeg x0)) + (d.2.2.2.2.2.2.2.1 (Int32.toNatClampNeg x0))) else (bif hEq (d.2.2.2.2.2.1 (Int32.toNatClampNeg x0)) 4 then (2 * ((d.2.2.2.2.2.2.1 (Int32.toNatClampNeg x0)) + (d.2.2.2.2.2.2.2.1 (Int32.toNatClampNeg x0)))) else (bif hEq (d.2.2.2.2.2.1 (Int32.toNatClampNeg x0)) 5 then (bif gCmp .lt d.1 (d.2.2.2.2.2.2.2.2.1 3) then (d.2.2.2.2.2.2.1 (Int32.toNatClampNeg x0)) else 0) else (bif hEq (d.2.2.2.2.2.1 (Int32.toNatClampNeg x0)) 6 then (bif gCmp .lt d.1 (d.2.2.2.2.2.2.2.2.1 3) then (d.2.2.2.2.2.2.1 (Int32.toNatClampNeg x0)) else 0) else (d.2.2.2.2.2.2.1 (Int32.toNatClampNeg x0)))))))) + (((d.1 / 10) * (d.2.2.2.2.2.2.2.2.1 2)) / 4)
set_option maxRecDepth 20000 in
set_option maxHeartbeats 1000000 in
theorem ct_16_10 {LL : Nat} {xs : Nat → Int32} {D : Nat} {b d k s w : hB} {ik ex pr wd : Int32} {sn : Nat → Int64} {qu tb : Nat → Int32} {ts : Int32} {r0 : Value} {rq : hRq} {h0 h1 h2 h3 : hSt} {fi : Nat → Int32} {R : List gE} (x0 : Int32) (o1 : gIn x0 8 = true) : hM (gO LL xs) (D + 0) zR_16 [.ref 10, .int x0] (hCm b d k s w ik ex pr wd sn qu tb ts (r0, rq) h0 h1 h2 h3 fi R) (some (.int (v_16_10 x0 d))) (hCm b d k s w ik ex pr wd sn qu tb ts (r0, rq) h0 h1 h2 h3 fi R) := by
  refine hX_go 0 0 [some (.ref 10), some (.int x0), none] [] (hCm b d k s w ik ex pr wd sn qu tb ts (r0, rq) h0 h1 h2 h3 fi R) rfl ?_
  refine hX_go 3 (5) [some (.ref 10), some (.int x0), none] [.int x0, .ref 12] (hCm b d k s w ik ex pr wd sn qu tb ts (r0, rq) h0 h1 h2 h3 fi R) rfl ?_
  refine hX_gM (gIn x0 8) 6 [some (.ref 10), some (.int x0), none] [.int (d.2.2.2.2.2.2.1 (Int32.toNatClampNeg x0))] rfl o1 ?_
  refine hX_goM 4 (12) [some (.ref 10), some (.int x0), some (.int (d.2.2.2.2.2.2.1 (Int32.toNatClampNeg x0)))] [.int x0, .ref 11] rfl ?_
  refine hX_gM (gIn x0 8) 13 [some (.ref 10), some (.int x0), some (.int (d.2.2.2.2.2.2.1 (Int32.toNatClampNeg x0)))] [.int (d.2.2.2.2.2.1 (Int32.toNatClampNeg x0))] rfl o1 ?_
  refine hX_sw (bif hEq (d.2.2.2.2.2.1 (Int32.toNatClampNeg x0)) 1 then 52 else bif hEq (d.2.2.2.2.2.1 (Int32.toNatClampNeg x0)) 2 then 69 else bif hEq (d.2.2.2.2.2.1 (Int32.toNatClampNeg x0)) 3 then 69 else bif hEq (d.2.2.2.2.2.1 (Int32.toNatClampNeg x0)) 4 then 81 else bif hEq (d.2.2.2.2.2.1 (Int32.toNatClampNeg x0)) 5 then 95 else bif hEq (d.2.2.2.2.2.1 (Int32.toNatClampNeg x0)) 6 then 95 else 117) rfl (sw_16_13 (d.2.2.2.2.2.1 (Int32.toNatClampNeg x0))) ?_
  suffices hk : hX (gO LL xs) (D + 0) zR_16 117 [some (.ref 10), some (.int x0), some (.int (bif hEq (d.2.2.2.2.2.1 (Int32.toNatClampNeg x0)) 1 then ((d.2.2.2.2.2.2.1 (Int32.toNatClampNeg x0)) - ((d.1 - d.2.1) / 2)) else (bif hEq (d.2.2.2.2.2.1 (Int32.toNatClampNeg x0)) 2 then ((d.2.2.2.2.2.2.1 (Int32.toNatClampNeg x0)) + (d.2.2.2.2.2.2.2.1 (Int32.toNatClampNeg x0))) else (bif hEq (d.2.2.2.2.2.1 (Int32.toNatClampNeg x0)) 3 then ((d.2.2.2.2.2.2.1 (Int32.toNatClampNeg x0)) + (d.2.2.2.2.2.2.2.1 (Int32.toNatClampNeg x0))) else (bif hEq (d.2.2.2.2.2.1 (Int32.toNatClampNeg x0)) 4 then (2 * ((d.2.2.2.2.2.2.1 (Int32.toNatClampNeg x0)) + (d.2.2.2.2.2.2.2.1 (Int32.toNatClampNeg x0)))) else (bif hEq (d.2.2.2.2.2.1 (Int32.toNatClampNeg x0)) 5 then (bif gCmp .lt d.1 (d.2.2.2.2.2.2.2.2.1 3) then (d.2.2.2.2.2.2.1 (Int32.toNatClampNeg x0)) else 0) else (bif hEq (d.2.2.2.2.2.1 (Int32.toNatClampNeg x0)) 6 then (bif gCmp .lt d.1 (d.2.2.2.2.2.2.2.2.1 3) then (d.2.2.2.2.2.2.1 (Int32.toNatClampNeg x0)) else 0) else (d.2.2.2.2.2.2.1 (Int32.toNatClampNeg x0)))))))))] [] (hCm b d k s w ik ex pr wd sn qu tb ts (r0, rq) h0 h1 h2 h3 fi R) (some (.int (v_16_10 x0 d))) (hCm b d k s w ik ex pr wd sn qu tb ts (r0, rq) h0 h1 h2 h3 fi R) by
    refine hX_if (hEq (d.2.2.2.2.2.1 (Int32.toNatClampNeg x0)) 1) (fun c1 => ?_) (fun c1 => ?_)
    · skip
      refine hX_goM 9 (65) [some (.ref 10), some (.int x0), some (.int (d.2.2.2.2.2.2.1 (Int32.toNatClampNeg x0)))] [.int ((d.2.2.2.2.2.2.1 (Int32.toNatClampNeg x0)) - ((d.1 - d.2.1) / 2))] rfl ?_
      refine hX_goM 2 (117) [some (.ref 10), some (.int x0), some (.int ((d.2.2.2.2.2.2.1 (Int32.toNatClampNeg x0)) - ((d.1 - d.2.1) / 2)))] [] rfl ?_
      have hk := hk
      simp only [c1, cond_true, cond_false] at hk
      first | exact hk | (simp only [c1, cond_true, cond_false]; exact hk)
    · skip
      refine hX_if (hEq (d.2.2.2.2.2.1 (Int32.toNatClampNeg x0)) 2) (fun c2 => ?_) (fun c2 => ?_)
      · skip
        refine hX_goM 4 (75) [some (.ref 10), some (.int x0), some (.int (d.2.2.2.2.2.2.1 (Int32.toNatClampNeg x0)))] [.int x0, .ref 13, .int (d.2.2.2.2.2.2.1 (Int32.toNatClampNeg x0))] rfl ?_
        refine hX_gM (gIn x0 8) 76 [some (.ref 10), some (.int x0), some (.int (d.2.2.2.2.2.2.1 (Int32.toNatClampNeg x0)))] [.int (d.2.2.2.2.2.2.2.1 (Int32.toNatClampNeg x0)), .int (d.2.2.2.2.2.2.1 (Int32.toNatClampNeg x0))] rfl o1 ?_
        refine hX_goM 3 (117) [some (.ref 10), some (.int x0), some (.int ((d.2.2.2.2.2.2.1 (Int32.toNatClampNeg x0)) + (d.2.2.2.2.2.2.2.1 (Int32.toNatClampNeg x0))))] [] rfl ?_
        have hk := hk
        simp only [c1, c2, cond_true, cond_false] at hk
        first | exact hk | (simp only [c1, c2, cond_true, cond_false]; exact hk)
      · skip
        refine hX_if (hEq (d.2.2.2.2.2.1 (Int32.toNatClampNeg x0)) 3) (fun c3 => ?_) (fun c3 => ?_)
        · skip
          refine hX_goM 4 (75) [some (.ref 10), some (.int x0), some (.int (d.2.2.2.2.2.2.1 (Int32.toNatClampNeg x0)))] [.int x0, .ref 13, .int (d.2.2.2.2.2.2.1 (Int32.toNatClampNeg x0))] rfl ?_
          refine hX_gM (gIn x0 8) 76 [some (.ref 10), some (.int x0), some (.int (d.2.2.2.2.2.2.1 (Int32.toNatClampNeg x0)))] [.int (d.2.2.2.2.2.2.2.1 (Int32.toNatClampNeg x0)), .int (d.2.2.2.2.2.2.1 (Int32.toNatClampNeg x0))] rfl o1 ?_
          refine hX_goM 3 (117) [some (.ref 10), some (.int x0), some (.int ((d.2.2.2.2.2.2.1 (Int32.toNatClampNeg x0)) + (d.2.2.2.2.2.2.2.1 (Int32.toNatClampNeg x0))))] [] rfl ?_
          have hk := hk
          simp only [c1, c2, c3, cond_true, cond_false] at hk
          first | exact hk | (simp only [c1, c2, c3, cond_true, cond_false]; exact hk)
        · skip
          refine hX_if (hEq (d.2.2.2.2.2.1 (Int32.toNatClampNeg x0)) 4) (fun c4 => ?_) (fun c4 => ?_)
          · skip
            refine hX_goM 5 (88) [some (.ref 10), some (.int x0), some (.int (d.2.2.2.2.2.2.1 (Int32.toNatClampNeg x0)))] [.int x0, .ref 13, .int (d.2.2.2.2.2.2.1 (Int32.toNatClampNeg x0)), .int 2] rfl ?_
            refine hX_gM (gIn x0 8) 89 [some (.ref 10), some (.int x0), some (.int (d.2.2.2.2.2.2.1 (Int32.toNatClampNeg x0)))] [.int (d.2.2.2.2.2.2.2.1 (Int32.toNatClampNeg x0)), .int (d.2.2.2.2.2.2.1 (Int32.toNatClampNeg x0)), .int 2] rfl o1 ?_
            refine hX_goM 4 (117) [some (.ref 10), some (.int x0), some (.int (2 * ((d.2.2.2.2.2.2.1 (Int32.toNatClampNeg x0)) + (d.2.2.2.2.2.2.2.1 (Int32.toNatClampNeg x0)))))] [] rfl ?_
            have hk := hk
            simp only [c1, c2, c3, c4, cond_true, cond_false] at hk
            first | exact hk | (simp only [c1, c2, c3, c4, cond_true, cond_false]; exact hk)
          · skip
            refine hX_if (hEq (d.2.2.2.2.2.1 (Int32.toNatClampNeg x0)) 5) (fun c5 => ?_) (fun c5 => ?_)
            · skip
              refine hX_goM 7 (bif gCmp .lt d.1 (d.2.2.2.2.2.2.2.2.1 3) then 112 else 108) [some (.ref 10), some (.int x0), some (.int (d.2.2.2.2.2.2.1 (Int32.toNatClampNeg x0)))] [] rfl ?_
              suffices hk : hX (gO LL xs) (D + 0) zR_16 113 [some (.ref 10), some (.int x0), some (.int (d.2.2.2.2.2.2.1 (Int32.toNatClampNeg x0)))] [.int (bif gCmp .lt d.1 (d.2.2.2.2.2.2.2.2.1 3) then (d.2.2.2.2.2.2.1 (Int32.toNatClampNeg x0)) else 0)] (hCm b d k s w ik ex pr wd sn qu tb ts (r0, rq) h0 h1 h2 h3 fi R) (some (.int (v_16_10 x0 d))) (hCm b d k s w ik ex pr wd sn qu tb ts (r0, rq) h0 h1 h2 h3 fi R) by
                refine hX_if (gCmp .lt d.1 (d.2.2.2.2.2.2.2.2.1 3)) (fun c6 => ?_) (fun c6 => ?_)
                · skip
                  refine hX_goM 1 (113) [some (.ref 10), some (.int x0), some (.int (d.2.2.2.2.2.2.1 (Int32.toNatClampNeg x0)))] [.int (d.2.2.2.2.2.2.1 (Int32.toNatClampNeg x0))] rfl ?_
                  have hk := hk
                  simp only [c6, cond_true, cond_false] at hk
                  first | exact hk | (simp only [c6, cond_true, cond_false]; exact hk)
                · skip
                  refine hX_goM 2 (113) [some (.ref 10), some (.int x0), some (.int (d.2.2.2.2.2.2.1 (Int32.toNatClampNeg x0)))] [.int 0] rfl ?_
                  have hk := hk
                  simp only [c6, cond_true, cond_false] at hk
                  first | exact hk | (simp only [c6, cond_true, cond_false]; exact hk)
              refine hX_goM 2 (117) [some (.ref 10), some (.int x0), some (.int (bif gCmp .lt d.1 (d.2.2.2.2.2.2.2.2.1 3) then (d.2.2.2.2.2.2.1 (Int32.toNatClampNeg x0)) else 0))] [] rfl ?_
              have hk := hk
              simp only [c1, c2, c3, c4, c5, cond_true, cond_false] at hk
              first | exact hk | (simp only [c1, c2, c3, c4, c5, cond_true, cond_false]; exact hk)
            · skip
              refine hX_if (hEq (d.2.2.2.2.2.1 (Int32.toNatClampNeg x0)) 6) (fun c7 => ?_) (fun c7 => ?_)
              · skip
                refine hX_goM 7 (bif gCmp .lt d.1 (d.2.2.2.2.2.2.2.2.1 3) then 112 else 108) [some (.ref 10), some (.int x0), some (.int (d.2.2.2.2.2.2.1 (Int32.toNatClampNeg x0)))] [] rfl ?_
                suffices hk : hX (gO LL xs) (D + 0) zR_16 113 [some (.ref 10), some (.int x0), some (.int (d.2.2.2.2.2.2.1 (Int32.toNatClampNeg x0)))] [.int (bif gCmp .lt d.1 (d.2.2.2.2.2.2.2.2.1 3) then (d.2.2.2.2.2.2.1 (Int32.toNatClampNeg x0)) else 0)] (hCm b d k s w ik ex pr wd sn qu tb ts (r0, rq) h0 h1 h2 h3 fi R) (some (.int (v_16_10 x0 d))) (hCm b d k s w ik ex pr wd sn qu tb ts (r0, rq) h0 h1 h2 h3 fi R) by
                  refine hX_if (gCmp .lt d.1 (d.2.2.2.2.2.2.2.2.1 3)) (fun c8 => ?_) (fun c8 => ?_)
                  · skip
                    refine hX_goM 1 (113) [some (.ref 10), some (.int x0), some (.int (d.2.2.2.2.2.2.1 (Int32.toNatClampNeg x0)))] [.int (d.2.2.2.2.2.2.1 (Int32.toNatClampNeg x0))] rfl ?_
                    have hk := hk
                    simp only [c8, cond_true, cond_false] at hk
                    first | exact hk | (simp only [c8, cond_true, cond_false]; exact hk)
                  · skip
                    refine hX_goM 2 (113) [some (.ref 10), some (.int x0), some (.int (d.2.2.2.2.2.2.1 (Int32.toNatClampNeg x0)))] [.int 0] rfl ?_
                    have hk := hk
                    simp only [c8, cond_true, cond_false] at hk
                    first | exact hk | (simp only [c8, cond_true, cond_false]; exact hk)
                refine hX_goM 2 (117) [some (.ref 10), some (.int x0), some (.int (bif gCmp .lt d.1 (d.2.2.2.2.2.2.2.2.1 3) then (d.2.2.2.2.2.2.1 (Int32.toNatClampNeg x0)) else 0))] [] rfl ?_
                have hk := hk
                simp only [c1, c2, c3, c4, c5, c7, cond_true, cond_false] at hk
                first | exact hk | (simp only [c1, c2, c3, c4, c5, c7, cond_true, cond_false]; exact hk)
              · skip
                have hk := hk
                simp only [c1, c2, c3, c4, c5, c7, cond_true, cond_false] at hk
                first | exact hk | (simp only [c1, c2, c3, c4, c5, c7, cond_true, cond_false]; exact hk)
  refine hX_goM 9 (131) [some (.ref 10), some (.int x0), some (.int (bif hEq (d.2.2.2.2.2.1 (Int32.toNatClampNeg x0)) 1 then ((d.2.2.2.2.2.2.1 (Int32.toNatClampNeg x0)) - ((d.1 - d.2.1) / 2)) else (bif hEq (d.2.2.2.2.2.1 (Int32.toNatClampNeg x0)) 2 then ((d.2.2.2.2.2.2.1 (Int32.toNatClampNeg x0)) + (d.2.2.2.2.2.2.2.1 (Int32.toNatClampNeg x0))) else (bif hEq (d.2.2.2.2.2.1 (Int32.toNatClampNeg x0)) 3 then ((d.2.2.2.2.2.2.1 (Int32.toNatClampNeg x0)) + (d.2.2.2.2.2.2.2.1 (Int32.toNatClampNeg x0))) else (bif hEq (d.2.2.2.2.2.1 (Int32.toNatClampNeg x0)) 4 then (2 * ((d.2.2.2.2.2.2.1 (Int32.toNatClampNeg x0)) + (d.2.2.2.2.2.2.2.1 (Int32.toNatClampNeg x0)))) else (bif hEq (d.2.2.2.2.2.1 (Int32.toNatClampNeg x0)) 5 then (bif gCmp .lt d.1 (d.2.2.2.2.2.2.2.2.1 3) then (d.2.2.2.2.2.2.1 (Int32.toNatClampNeg x0)) else 0) else (bif hEq (d.2.2.2.2.2.1 (Int32.toNatClampNeg x0)) 6 then (bif gCmp .lt d.1 (d.2.2.2.2.2.2.2.2.1 3) then (d.2.2.2.2.2.2.1 (Int32.toNatClampNeg x0)) else 0) else (d.2.2.2.2.2.2.1 (Int32.toNatClampNeg x0)))))))))] [.int (d.2.2.2.2.2.2.2.2.1 2), .int (d.1 / 10), .int (bif hEq (d.2.2.2.2.2.1 (Int32.toNatClampNeg x0)) 1 then ((d.2.2.2.2.2.2.1 (Int32.toNatClampNeg x0)) - ((d.1 - d.2.1) / 2)) else (bif hEq (d.2.2.2.2.2.1 (Int32.toNatClampNeg x0)) 2 then ((d.2.2.2.2.2.2.1 (Int32.toNatClampNeg x0)) + (d.2.2.2.2.2.2.2.1 (Int32.toNatClampNeg x0))) else (bif hEq (d.2.2.2.2.2.1 (Int32.toNatClampNeg x0)) 3 then ((d.2.2.2.2.2.2.1 (Int32.toNatClampNeg x0)) + (d.2.2.2.2.2.2.2.1 (Int32.toNatClampNeg x0))) else (bif hEq (d.2.2.2.2.2.1 (Int32.toNatClampNeg x0)) 4 then (2 * ((d.2.2.2.2.2.2.1 (Int32.toNatClampNeg x0)) + (d.2.2.2.2.2.2.2.1 (Int32.toNatClampNeg x0)))) else (bif hEq (d.2.2.2.2.2.1 (Int32.toNatClampNeg x0)) 5 then (bif gCmp .lt d.1 (d.2.2.2.2.2.2.2.2.1 3) then (d.2.2.2.2.2.2.1 (Int32.toNatClampNeg x0)) else 0) else (bif hEq (d.2.2.2.2.2.1 (Int32.toNatClampNeg x0)) 6 then (bif gCmp .lt d.1 (d.2.2.2.2.2.2.2.2.1 3) then (d.2.2.2.2.2.2.1 (Int32.toNatClampNeg x0)) else 0) else (d.2.2.2.2.2.2.1 (Int32.toNatClampNeg x0))))))))] rfl ?_
  refine hX_goM 4 (135) [some (.ref 10), some (.int x0), some (.int (bif hEq (d.2.2.2.2.2.1 (Int32.toNatClampNeg x0)) 1 then ((d.2.2.2.2.2.2.1 (Int32.toNatClampNeg x0)) - ((d.1 - d.2.1) / 2)) else (bif hEq (d.2.2.2.2.2.1 (Int32.toNatClampNeg x0)) 2 then ((d.2.2.2.2.2.2.1 (Int32.toNatClampNeg x0)) + (d.2.2.2.2.2.2.2.1 (Int32.toNatClampNeg x0))) else (bif hEq (d.2.2.2.2.2.1 (Int32.toNatClampNeg x0)) 3 then ((d.2.2.2.2.2.2.1 (Int32.toNatClampNeg x0)) + (d.2.2.2.2.2.2.2.1 (Int32.toNatClampNeg x0))) else (bif hEq (d.2.2.2.2.2.1 (Int32.toNatClampNeg x0)) 4 then (2 * ((d.2.2.2.2.2.2.1 (Int32.toNatClampNeg x0)) + (d.2.2.2.2.2.2.2.1 (Int32.toNatClampNeg x0)))) else (bif hEq (d.2.2.2.2.2.1 (Int32.toNatClampNeg x0)) 5 then (bif gCmp .lt d.1 (d.2.2.2.2.2.2.2.2.1 3) then (d.2.2.2.2.2.2.1 (Int32.toNatClampNeg x0)) else 0) else (bif hEq (d.2.2.2.2.2.1 (Int32.toNatClampNeg x0)) 6 then (bif gCmp .lt d.1 (d.2.2.2.2.2.2.2.2.1 3) then (d.2.2.2.2.2.2.1 (Int32.toNatClampNeg x0)) else 0) else (d.2.2.2.2.2.2.1 (Int32.toNatClampNeg x0)))))))))] [.int ((bif hEq (d.2.2.2.2.2.1 (Int32.toNatClampNeg x0)) 1 then ((d.2.2.2.2.2.2.1 (Int32.toNatClampNeg x0)) - ((d.1 - d.2.1) / 2)) else (bif hEq (d.2.2.2.2.2.1 (Int32.toNatClampNeg x0)) 2 then ((d.2.2.2.2.2.2.1 (Int32.toNatClampNeg x0)) + (d.2.2.2.2.2.2.2.1 (Int32.toNatClampNeg x0))) else (bif hEq (d.2.2.2.2.2.1 (Int32.toNatClampNeg x0)) 3 then ((d.2.2.2.2.2.2.1 (Int32.toNatClampNeg x0)) + (d.2.2.2.2.2.2.2.1 (Int32.toNatClampNeg x0))) else (bif hEq (d.2.2.2.2.2.1 (Int32.toNatClampNeg x0)) 4 then (2 * ((d.2.2.2.2.2.2.1 (Int32.toNatClampNeg x0)) + (d.2.2.2.2.2.2.2.1 (Int32.toNatClampNeg x0)))) else (bif hEq (d.2.2.2.2.2.1 (Int32.toNatClampNeg x0)) 5 then (bif gCmp .lt d.1 (d.2.2.2.2.2.2.2.2.1 3) then (d.2.2.2.2.2.2.1 (Int32.toNatClampNeg x0)) else 0) else (bif hEq (d.2.2.2.2.2.1 (Int32.toNatClampNeg x0)) 6 then (bif gCmp .lt d.1 (d.2.2.2.2.2.2.2.2.1 3) then (d.2.2.2.2.2.2.1 (Int32.toNatClampNeg x0)) else 0) else (d.2.2.2.2.2.2.1 (Int32.toNatClampNeg x0)))))))) + (((d.1 / 10) * (d.2.2.2.2.2.2.2.2.1 2)) / 4))] rfl ?_
  exact hX_end rfl (rfl) (rfl)

/-- UpOneSide$Blind.rightLift(I)I -/
def v_17_10 (x0 : Int32) (d : hB) : Int32 := bif gCmp .lt d.2.1 30 then (bif hEq (d.2.2.2.2.2.1 (Int32.toNatClampNeg x0)) 1 then ((d.2.2.2.2.2.2.1 (Int32.toNatClampNeg x0)) + ((d.1 - d.2.1) / 2)) else (bif hEq (d.2.2.2.2.2.1 (Int32.toNatClampNeg x0)) 2 then ((d.2.2.2.2.2.2.1 (Int32.toNatClampNeg x0)) - ((d.2.2.2.2.2.2.2.2.1 1) + (d.2.2.2.2.2.2.2.1 (Int32.toNatClampNeg x0)))) else (bif hEq (d.2.2.2.2.2.1 (Int32.toNatClampNeg x0)) 3 then ((d.2.2.2.2.2.2.1 (Int32.toNatClampNeg x0)) - ((2 * (d.2.2.2.2.2.2.2.2.1 1)) + (d.2.2.2.2.2.2.2.1 (Int32.toNatClampNeg x0)))) else (bif hEq (d.2.2.2.2.2.1 (Int32.toNatClampNeg x0)) 4 then ((d.2.2.2.2.2.2.1 (Int32.toNatClampNeg x0)) - ((2 * (d.2.2.2.2.2.2.2.2.1 1)) + (d.2.2.2.2.2.2.2.1 (Int32.toNatClampNeg x0)))) else (bif hEq (d.2.2.2.2.2.1 (Int32.toNatClampNeg x0)) 5 then ((d.2.2.2.2.2.2.1 (Int32.toNatClampNeg x0)) - (d.2.2.2.2.2.2.2.2.1 1)) else (bif hEq (d.2.2.2.2.2.1 (Int32.toNatClampNeg x0)) 6 then (bif gCmp .le d.2.1 d.1 then ((d.2.2.2.2.2.2.1 (Int32.toNatClampNeg x0)) - (d.2.2.2.2.2.2.2.2.1 1)) else (((d.2.2.2.2.2.2.1 (Int32.toNatClampNeg x0)) - (d.2.2.2.2.2.2.2.2.1 1)) / 2)) else ((d.2.2.2.2.2.2.1 (Int32.toNatClampNeg x0)) - (d.2.2.2.2.2.2.2.2.1 1)))))))) else ((bif hEq (d.2.2.2.2.2.1 (Int32.toNatClampNeg x0)) 1 then ((d.2.2.2.2.2.2.1 (Int32.toNatClampNeg x0)) + ((d.1 - d.2.1) / 2)) else (bif hEq (d.2.2.2.2.2.1 (Int32.toNatClampNeg x0)) 2 then ((d.2.2.2.2.2.2.1 (Int32.toNatClampNeg x0)) - ((d.2.2.2.2.2.2.2.2.1 1) + (d.2.2.2.2.2.2.2.1 (Int32.toNatClampNeg x0)))) else (bif hEq (d.2.2.2.2.2.1 (Int32.toNatClampNeg x0)) 3 then ((d.2.2.2.2.2.2.1 (Int32.toNatClampNeg x0)) - ((2 * (d.2.2.2.2.2.2.2.2.1 1)) + (d.2.2.2.2.2.2.2.1 (Int32.toNatClampNeg x0)))) else (bif hEq (d.2.2.2.2.2.1 (Int32.toNatClampNeg x0)) 4 then ((d.2.2.2.2.2.2.1 (Int32.toNatClampNeg x0)) - ((2 * (d.2.2.2.2.2.2.2.2.1 1)) + (d.2.2.2.2.2.2.2.1 (Int32.toNatClampNeg x0)))) else (bif hEq (d.2.2.2.2.2.1 (Int32.toNatClampNeg x0)) 5 then ((d.2.2.2.2.2.2.1 (Int32.toNatClampNeg x0)) - (d.2.2.2.2.2.2.2.2.1 1)) else (bif hEq (d.2.2.2.2.2.1 (Int32.toNatClampNeg x0)) 6 then (bif gCmp .le d.2.1 d.1 then ((d.2.2.2.2.2.2.1 (Int32.toNatClampNeg x0)) - (d.2.2.2.2.2.2.2.2.1 1)) else (((d.2.2.2.2.2.2.1 (Int32.toNatClampNeg x0)) - (d.2.2.2.2.2.2.2.2.1 1)) / 2)) else ((d.2.2.2.2.2.2.1 (Int32.toNatClampNeg x0)) - (d.2.2.2.2.2.2.2.2.1 1)))))))) + (d.2.2.2.2.2.2.2.2.1 0))
set_option maxRecDepth 20000 in
set_option maxHeartbeats 1000000 in
theorem ct_17_10 {LL : Nat} {xs : Nat → Int32} {D : Nat} {b d k s w : hB} {ik ex pr wd : Int32} {sn : Nat → Int64} {qu tb : Nat → Int32} {ts : Int32} {r0 : Value} {rq : hRq} {h0 h1 h2 h3 : hSt} {fi : Nat → Int32} {R : List gE} (x0 : Int32) (o1 : gIn x0 8 = true) : hM (gO LL xs) (D + 0) zR_17 [.ref 10, .int x0] (hCm b d k s w ik ex pr wd sn qu tb ts (r0, rq) h0 h1 h2 h3 fi R) (some (.int (v_17_10 x0 d))) (hCm b d k s w ik ex pr wd sn qu tb ts (r0, rq) h0 h1 h2 h3 fi R) := by
  refine hX_go 0 0 [some (.ref 10), some (.int x0), none] [] (hCm b d k s w ik ex pr wd sn qu tb ts (r0, rq) h0 h1 h2 h3 fi R) rfl ?_
  refine hX_go 3 (5) [some (.ref 10), some (.int x0), none] [.int x0, .ref 12] (hCm b d k s w ik ex pr wd sn qu tb ts (r0, rq) h0 h1 h2 h3 fi R) rfl ?_
  refine hX_gM (gIn x0 8) 6 [some (.ref 10), some (.int x0), none] [.int (d.2.2.2.2.2.2.1 (Int32.toNatClampNeg x0))] rfl o1 ?_
  refine hX_goM 4 (12) [some (.ref 10), some (.int x0), some (.int (d.2.2.2.2.2.2.1 (Int32.toNatClampNeg x0)))] [.int x0, .ref 11] rfl ?_
  refine hX_gM (gIn x0 8) 13 [some (.ref 10), some (.int x0), some (.int (d.2.2.2.2.2.2.1 (Int32.toNatClampNeg x0)))] [.int (d.2.2.2.2.2.1 (Int32.toNatClampNeg x0))] rfl o1 ?_
  refine hX_sw (bif hEq (d.2.2.2.2.2.1 (Int32.toNatClampNeg x0)) 1 then 52 else bif hEq (d.2.2.2.2.2.1 (Int32.toNatClampNeg x0)) 2 then 69 else bif hEq (d.2.2.2.2.2.1 (Int32.toNatClampNeg x0)) 3 then 88 else bif hEq (d.2.2.2.2.2.1 (Int32.toNatClampNeg x0)) 4 then 88 else bif hEq (d.2.2.2.2.2.1 (Int32.toNatClampNeg x0)) 5 then 140 else bif hEq (d.2.2.2.2.2.1 (Int32.toNatClampNeg x0)) 6 then 109 else 140) rfl (sw_17_13 (d.2.2.2.2.2.1 (Int32.toNatClampNeg x0))) ?_
  suffices hk : hX (gO LL xs) (D + 0) zR_17 149 [some (.ref 10), some (.int x0), some (.int (bif hEq (d.2.2.2.2.2.1 (Int32.toNatClampNeg x0)) 1 then ((d.2.2.2.2.2.2.1 (Int32.toNatClampNeg x0)) + ((d.1 - d.2.1) / 2)) else (bif hEq (d.2.2.2.2.2.1 (Int32.toNatClampNeg x0)) 2 then ((d.2.2.2.2.2.2.1 (Int32.toNatClampNeg x0)) - ((d.2.2.2.2.2.2.2.2.1 1) + (d.2.2.2.2.2.2.2.1 (Int32.toNatClampNeg x0)))) else (bif hEq (d.2.2.2.2.2.1 (Int32.toNatClampNeg x0)) 3 then ((d.2.2.2.2.2.2.1 (Int32.toNatClampNeg x0)) - ((2 * (d.2.2.2.2.2.2.2.2.1 1)) + (d.2.2.2.2.2.2.2.1 (Int32.toNatClampNeg x0)))) else (bif hEq (d.2.2.2.2.2.1 (Int32.toNatClampNeg x0)) 4 then ((d.2.2.2.2.2.2.1 (Int32.toNatClampNeg x0)) - ((2 * (d.2.2.2.2.2.2.2.2.1 1)) + (d.2.2.2.2.2.2.2.1 (Int32.toNatClampNeg x0)))) else (bif hEq (d.2.2.2.2.2.1 (Int32.toNatClampNeg x0)) 5 then ((d.2.2.2.2.2.2.1 (Int32.toNatClampNeg x0)) - (d.2.2.2.2.2.2.2.2.1 1)) else (bif hEq (d.2.2.2.2.2.1 (Int32.toNatClampNeg x0)) 6 then (bif gCmp .le d.2.1 d.1 then ((d.2.2.2.2.2.2.1 (Int32.toNatClampNeg x0)) - (d.2.2.2.2.2.2.2.2.1 1)) else (((d.2.2.2.2.2.2.1 (Int32.toNatClampNeg x0)) - (d.2.2.2.2.2.2.2.2.1 1)) / 2)) else ((d.2.2.2.2.2.2.1 (Int32.toNatClampNeg x0)) - (d.2.2.2.2.2.2.2.2.1 1)))))))))] [] (hCm b d k s w ik ex pr wd sn qu tb ts (r0, rq) h0 h1 h2 h3 fi R) (some (.int (v_17_10 x0 d))) (hCm b d k s w ik ex pr wd sn qu tb ts (r0, rq) h0 h1 h2 h3 fi R) by
    refine hX_if (hEq (d.2.2.2.2.2.1 (Int32.toNatClampNeg x0)) 1) (fun c1 => ?_) (fun c1 => ?_)
    · skip
      refine hX_goM 9 (65) [some (.ref 10), some (.int x0), some (.int (d.2.2.2.2.2.2.1 (Int32.toNatClampNeg x0)))] [.int ((d.2.2.2.2.2.2.1 (Int32.toNatClampNeg x0)) + ((d.1 - d.2.1) / 2))] rfl ?_
      refine hX_goM 2 (149) [some (.ref 10), some (.int x0), some (.int ((d.2.2.2.2.2.2.1 (Int32.toNatClampNeg x0)) + ((d.1 - d.2.1) / 2)))] [] rfl ?_
      have hk := hk
      simp only [c1, cond_true, cond_false] at hk
      first | exact hk | (simp only [c1, cond_true, cond_false]; exact hk)
    · skip
      refine hX_if (hEq (d.2.2.2.2.2.1 (Int32.toNatClampNeg x0)) 2) (fun c2 => ?_) (fun c2 => ?_)
      · skip
        refine hX_goM 8 (81) [some (.ref 10), some (.int x0), some (.int (d.2.2.2.2.2.2.1 (Int32.toNatClampNeg x0)))] [.int x0, .ref 13, .int (d.2.2.2.2.2.2.2.2.1 1), .int (d.2.2.2.2.2.2.1 (Int32.toNatClampNeg x0))] rfl ?_
        refine hX_gM (gIn x0 8) 82 [some (.ref 10), some (.int x0), some (.int (d.2.2.2.2.2.2.1 (Int32.toNatClampNeg x0)))] [.int (d.2.2.2.2.2.2.2.1 (Int32.toNatClampNeg x0)), .int (d.2.2.2.2.2.2.2.2.1 1), .int (d.2.2.2.2.2.2.1 (Int32.toNatClampNeg x0))] rfl o1 ?_
        refine hX_goM 4 (149) [some (.ref 10), some (.int x0), some (.int ((d.2.2.2.2.2.2.1 (Int32.toNatClampNeg x0)) - ((d.2.2.2.2.2.2.2.2.1 1) + (d.2.2.2.2.2.2.2.1 (Int32.toNatClampNeg x0)))))] [] rfl ?_
        have hk := hk
        simp only [c1, c2, cond_true, cond_false] at hk
        first | exact hk | (simp only [c1, c2, cond_true, cond_false]; exact hk)
      · skip
        refine hX_if (hEq (d.2.2.2.2.2.1 (Int32.toNatClampNeg x0)) 3) (fun c3 => ?_) (fun c3 => ?_)
        · skip
          refine hX_goM 9 (101) [some (.ref 10), some (.int x0), some (.int (d.2.2.2.2.2.2.1 (Int32.toNatClampNeg x0)))] [.ref 13, .int (2 * (d.2.2.2.2.2.2.2.2.1 1)), .int (d.2.2.2.2.2.2.1 (Int32.toNatClampNeg x0))] rfl ?_
          refine hX_goM 1 (102) [some (.ref 10), some (.int x0), some (.int (d.2.2.2.2.2.2.1 (Int32.toNatClampNeg x0)))] [.int x0, .ref 13, .int (2 * (d.2.2.2.2.2.2.2.2.1 1)), .int (d.2.2.2.2.2.2.1 (Int32.toNatClampNeg x0))] rfl ?_
          refine hX_gM (gIn x0 8) 103 [some (.ref 10), some (.int x0), some (.int (d.2.2.2.2.2.2.1 (Int32.toNatClampNeg x0)))] [.int (d.2.2.2.2.2.2.2.1 (Int32.toNatClampNeg x0)), .int (2 * (d.2.2.2.2.2.2.2.2.1 1)), .int (d.2.2.2.2.2.2.1 (Int32.toNatClampNeg x0))] rfl o1 ?_
          refine hX_goM 4 (149) [some (.ref 10), some (.int x0), some (.int ((d.2.2.2.2.2.2.1 (Int32.toNatClampNeg x0)) - ((2 * (d.2.2.2.2.2.2.2.2.1 1)) + (d.2.2.2.2.2.2.2.1 (Int32.toNatClampNeg x0)))))] [] rfl ?_
          have hk := hk
          simp only [c1, c2, c3, cond_true, cond_false] at hk
          first | exact hk | (simp only [c1, c2, c3, cond_true, cond_false]; exact hk)
        · skip
          refine hX_if (hEq (d.2.2.2.2.2.1 (Int32.toNatClampNeg x0)) 4) (fun c4 => ?_) (fun c4 => ?_)
          · skip
            refine hX_goM 9 (101) [some (.ref 10), some (.int x0), some (.int (d.2.2.2.2.2.2.1 (Int32.toNatClampNeg x0)))] [.ref 13, .int (2 * (d.2.2.2.2.2.2.2.2.1 1)), .int (d.2.2.2.2.2.2.1 (Int32.toNatClampNeg x0))] rfl ?_
            refine hX_goM 1 (102) [some (.ref 10), some (.int x0), some (.int (d.2.2.2.2.2.2.1 (Int32.toNatClampNeg x0)))] [.int x0, .ref 13, .int (2 * (d.2.2.2.2.2.2.2.2.1 1)), .int (d.2.2.2.2.2.2.1 (Int32.toNatClampNeg x0))] rfl ?_
            refine hX_gM (gIn x0 8) 103 [some (.ref 10), some (.int x0), some (.int (d.2.2.2.2.2.2.1 (Int32.toNatClampNeg x0)))] [.int (d.2.2.2.2.2.2.2.1 (Int32.toNatClampNeg x0)), .int (2 * (d.2.2.2.2.2.2.2.2.1 1)), .int (d.2.2.2.2.2.2.1 (Int32.toNatClampNeg x0))] rfl o1 ?_
            refine hX_goM 4 (149) [some (.ref 10), some (.int x0), some (.int ((d.2.2.2.2.2.2.1 (Int32.toNatClampNeg x0)) - ((2 * (d.2.2.2.2.2.2.2.2.1 1)) + (d.2.2.2.2.2.2.2.1 (Int32.toNatClampNeg x0)))))] [] rfl ?_
            have hk := hk
            simp only [c1, c2, c3, c4, cond_true, cond_false] at hk
            first | exact hk | (simp only [c1, c2, c3, c4, cond_true, cond_false]; exact hk)
          · skip
            refine hX_if (hEq (d.2.2.2.2.2.1 (Int32.toNatClampNeg x0)) 5) (fun c5 => ?_) (fun c5 => ?_)
            · skip
              refine hX_goM 7 (149) [some (.ref 10), some (.int x0), some (.int ((d.2.2.2.2.2.2.1 (Int32.toNatClampNeg x0)) - (d.2.2.2.2.2.2.2.2.1 1)))] [] rfl ?_
              have hk := hk
              simp only [c1, c2, c3, c4, c5, cond_true, cond_false] at hk
              first | exact hk | (simp only [c1, c2, c3, c4, c5, cond_true, cond_false]; exact hk)
            · skip
              refine hX_if (hEq (d.2.2.2.2.2.1 (Int32.toNatClampNeg x0)) 6) (fun c6 => ?_) (fun c6 => ?_)
              · skip
                refine hX_goM 9 (122) [some (.ref 10), some (.int x0), some (.int ((d.2.2.2.2.2.2.1 (Int32.toNatClampNeg x0)) - (d.2.2.2.2.2.2.2.2.1 1)))] [.int d.2.1] rfl ?_
                refine hX_goM 3 (bif gCmp .le d.2.1 d.1 then 135 else 129) [some (.ref 10), some (.int x0), some (.int ((d.2.2.2.2.2.2.1 (Int32.toNatClampNeg x0)) - (d.2.2.2.2.2.2.2.2.1 1)))] [] rfl ?_
                suffices hk : hX (gO LL xs) (D + 0) zR_17 136 [some (.ref 10), some (.int x0), some (.int ((d.2.2.2.2.2.2.1 (Int32.toNatClampNeg x0)) - (d.2.2.2.2.2.2.2.2.1 1)))] [.int (bif gCmp .le d.2.1 d.1 then ((d.2.2.2.2.2.2.1 (Int32.toNatClampNeg x0)) - (d.2.2.2.2.2.2.2.2.1 1)) else (((d.2.2.2.2.2.2.1 (Int32.toNatClampNeg x0)) - (d.2.2.2.2.2.2.2.2.1 1)) / 2))] (hCm b d k s w ik ex pr wd sn qu tb ts (r0, rq) h0 h1 h2 h3 fi R) (some (.int (v_17_10 x0 d))) (hCm b d k s w ik ex pr wd sn qu tb ts (r0, rq) h0 h1 h2 h3 fi R) by
                  refine hX_if (gCmp .le d.2.1 d.1) (fun c7 => ?_) (fun c7 => ?_)
                  · skip
                    refine hX_goM 1 (136) [some (.ref 10), some (.int x0), some (.int ((d.2.2.2.2.2.2.1 (Int32.toNatClampNeg x0)) - (d.2.2.2.2.2.2.2.2.1 1)))] [.int ((d.2.2.2.2.2.2.1 (Int32.toNatClampNeg x0)) - (d.2.2.2.2.2.2.2.2.1 1))] rfl ?_
                    have hk := hk
                    simp only [c7, cond_true, cond_false] at hk
                    first | exact hk | (simp only [c7, cond_true, cond_false]; exact hk)
                  · skip
                    refine hX_goM 4 (136) [some (.ref 10), some (.int x0), some (.int ((d.2.2.2.2.2.2.1 (Int32.toNatClampNeg x0)) - (d.2.2.2.2.2.2.2.2.1 1)))] [.int (((d.2.2.2.2.2.2.1 (Int32.toNatClampNeg x0)) - (d.2.2.2.2.2.2.2.2.1 1)) / 2)] rfl ?_
                    have hk := hk
                    simp only [c7, cond_true, cond_false] at hk
                    first | exact hk | (simp only [c7, cond_true, cond_false]; exact hk)
                refine hX_goM 2 (149) [some (.ref 10), some (.int x0), some (.int (bif gCmp .le d.2.1 d.1 then ((d.2.2.2.2.2.2.1 (Int32.toNatClampNeg x0)) - (d.2.2.2.2.2.2.2.2.1 1)) else (((d.2.2.2.2.2.2.1 (Int32.toNatClampNeg x0)) - (d.2.2.2.2.2.2.2.2.1 1)) / 2)))] [] rfl ?_
                have hk := hk
                simp only [c1, c2, c3, c4, c5, c6, cond_true, cond_false] at hk
                first | exact hk | (simp only [c1, c2, c3, c4, c5, c6, cond_true, cond_false]; exact hk)
              · skip
                refine hX_goM 7 (149) [some (.ref 10), some (.int x0), some (.int ((d.2.2.2.2.2.2.1 (Int32.toNatClampNeg x0)) - (d.2.2.2.2.2.2.2.2.1 1)))] [] rfl ?_
                have hk := hk
                simp only [c1, c2, c3, c4, c5, c6, cond_true, cond_false] at hk
                first | exact hk | (simp only [c1, c2, c3, c4, c5, c6, cond_true, cond_false]; exact hk)
  refine hX_goM 4 (bif gCmp .lt d.2.1 30 then 169 else 158) [some (.ref 10), some (.int x0), some (.int (bif hEq (d.2.2.2.2.2.1 (Int32.toNatClampNeg x0)) 1 then ((d.2.2.2.2.2.2.1 (Int32.toNatClampNeg x0)) + ((d.1 - d.2.1) / 2)) else (bif hEq (d.2.2.2.2.2.1 (Int32.toNatClampNeg x0)) 2 then ((d.2.2.2.2.2.2.1 (Int32.toNatClampNeg x0)) - ((d.2.2.2.2.2.2.2.2.1 1) + (d.2.2.2.2.2.2.2.1 (Int32.toNatClampNeg x0)))) else (bif hEq (d.2.2.2.2.2.1 (Int32.toNatClampNeg x0)) 3 then ((d.2.2.2.2.2.2.1 (Int32.toNatClampNeg x0)) - ((2 * (d.2.2.2.2.2.2.2.2.1 1)) + (d.2.2.2.2.2.2.2.1 (Int32.toNatClampNeg x0)))) else (bif hEq (d.2.2.2.2.2.1 (Int32.toNatClampNeg x0)) 4 then ((d.2.2.2.2.2.2.1 (Int32.toNatClampNeg x0)) - ((2 * (d.2.2.2.2.2.2.2.2.1 1)) + (d.2.2.2.2.2.2.2.1 (Int32.toNatClampNeg x0)))) else (bif hEq (d.2.2.2.2.2.1 (Int32.toNatClampNeg x0)) 5 then ((d.2.2.2.2.2.2.1 (Int32.toNatClampNeg x0)) - (d.2.2.2.2.2.2.2.2.1 1)) else (bif hEq (d.2.2.2.2.2.1 (Int32.toNatClampNeg x0)) 6 then (bif gCmp .le d.2.1 d.1 then ((d.2.2.2.2.2.2.1 (Int32.toNatClampNeg x0)) - (d.2.2.2.2.2.2.2.2.1 1)) else (((d.2.2.2.2.2.2.1 (Int32.toNatClampNeg x0)) - (d.2.2.2.2.2.2.2.2.1 1)) / 2)) else ((d.2.2.2.2.2.2.1 (Int32.toNatClampNeg x0)) - (d.2.2.2.2.2.2.2.2.1 1)))))))))] [] rfl ?_
  suffices hk : hX (gO LL xs) (D + 0) zR_17 170 [some (.ref 10), some (.int x0), some (.int (bif hEq (d.2.2.2.2.2.1 (Int32.toNatClampNeg x0)) 1 then ((d.2.2.2.2.2.2.1 (Int32.toNatClampNeg x0)) + ((d.1 - d.2.1) / 2)) else (bif hEq (d.2.2.2.2.2.1 (Int32.toNatClampNeg x0)) 2 then ((d.2.2.2.2.2.2.1 (Int32.toNatClampNeg x0)) - ((d.2.2.2.2.2.2.2.2.1 1) + (d.2.2.2.2.2.2.2.1 (Int32.toNatClampNeg x0)))) else (bif hEq (d.2.2.2.2.2.1 (Int32.toNatClampNeg x0)) 3 then ((d.2.2.2.2.2.2.1 (Int32.toNatClampNeg x0)) - ((2 * (d.2.2.2.2.2.2.2.2.1 1)) + (d.2.2.2.2.2.2.2.1 (Int32.toNatClampNeg x0)))) else (bif hEq (d.2.2.2.2.2.1 (Int32.toNatClampNeg x0)) 4 then ((d.2.2.2.2.2.2.1 (Int32.toNatClampNeg x0)) - ((2 * (d.2.2.2.2.2.2.2.2.1 1)) + (d.2.2.2.2.2.2.2.1 (Int32.toNatClampNeg x0)))) else (bif hEq (d.2.2.2.2.2.1 (Int32.toNatClampNeg x0)) 5 then ((d.2.2.2.2.2.2.1 (Int32.toNatClampNeg x0)) - (d.2.2.2.2.2.2.2.2.1 1)) else (bif hEq (d.2.2.2.2.2.1 (Int32.toNatClampNeg x0)) 6 then (bif gCmp .le d.2.1 d.1 then ((d.2.2.2.2.2.2.1 (Int32.toNatClampNeg x0)) - (d.2.2.2.2.2.2.2.2.1 1)) else (((d.2.2.2.2.2.2.1 (Int32.toNatClampNeg x0)) - (d.2.2.2.2.2.2.2.2.1 1)) / 2)) else ((d.2.2.2.2.2.2.1 (Int32.toNatClampNeg x0)) - (d.2.2.2.2.2.2.2.2.1 1)))))))))] [.int (bif gCmp .lt d.2.1 30 then (bif hEq (d.2.2.2.2.2.1 (Int32.toNatClampNeg x0)) 1 then ((d.2.2.2.2.2.2.1 (Int32.toNatClampNeg x0)) + ((d.1 - d.2.1) / 2)) else (bif hEq (d.2.2.2.2.2.1 (Int32.toNatClampNeg x0)) 2 then ((d.2.2.2.2.2.2.1 (Int32.toNatClampNeg x0)) - ((d.2.2.2.2.2.2.2.2.1 1) + (d.2.2.2.2.2.2.2.1 (Int32.toNatClampNeg x0)))) else (bif hEq (d.2.2.2.2.2.1 (Int32.toNatClampNeg x0)) 3 then ((d.2.2.2.2.2.2.1 (Int32.toNatClampNeg x0)) - ((2 * (d.2.2.2.2.2.2.2.2.1 1)) + (d.2.2.2.2.2.2.2.1 (Int32.toNatClampNeg x0)))) else (bif hEq (d.2.2.2.2.2.1 (Int32.toNatClampNeg x0)) 4 then ((d.2.2.2.2.2.2.1 (Int32.toNatClampNeg x0)) - ((2 * (d.2.2.2.2.2.2.2.2.1 1)) + (d.2.2.2.2.2.2.2.1 (Int32.toNatClampNeg x0)))) else (bif hEq (d.2.2.2.2.2.1 (Int32.toNatClampNeg x0)) 5 then ((d.2.2.2.2.2.2.1 (Int32.toNatClampNeg x0)) - (d.2.2.2.2.2.2.2.2.1 1)) else (bif hEq (d.2.2.2.2.2.1 (Int32.toNatClampNeg x0)) 6 then (bif gCmp .le d.2.1 d.1 then ((d.2.2.2.2.2.2.1 (Int32.toNatClampNeg x0)) - (d.2.2.2.2.2.2.2.2.1 1)) else (((d.2.2.2.2.2.2.1 (Int32.toNatClampNeg x0)) - (d.2.2.2.2.2.2.2.2.1 1)) / 2)) else ((d.2.2.2.2.2.2.1 (Int32.toNatClampNeg x0)) - (d.2.2.2.2.2.2.2.2.1 1)))))))) else ((bif hEq (d.2.2.2.2.2.1 (Int32.toNatClampNeg x0)) 1 then ((d.2.2.2.2.2.2.1 (Int32.toNatClampNeg x0)) + ((d.1 - d.2.1) / 2)) else (bif hEq (d.2.2.2.2.2.1 (Int32.toNatClampNeg x0)) 2 then ((d.2.2.2.2.2.2.1 (Int32.toNatClampNeg x0)) - ((d.2.2.2.2.2.2.2.2.1 1) + (d.2.2.2.2.2.2.2.1 (Int32.toNatClampNeg x0)))) else (bif hEq (d.2.2.2.2.2.1 (Int32.toNatClampNeg x0)) 3 then ((d.2.2.2.2.2.2.1 (Int32.toNatClampNeg x0)) - ((2 * (d.2.2.2.2.2.2.2.2.1 1)) + (d.2.2.2.2.2.2.2.1 (Int32.toNatClampNeg x0)))) else (bif hEq (d.2.2.2.2.2.1 (Int32.toNatClampNeg x0)) 4 then ((d.2.2.2.2.2.2.1 (Int32.toNatClampNeg x0)) - ((2 * (d.2.2.2.2.2.2.2.2.1 1)) + (d.2.2.2.2.2.2.2.1 (Int32.toNatClampNeg x0)))) else (bif hEq (d.2.2.2.2.2.1 (Int32.toNatClampNeg x0)) 5 then ((d.2.2.2.2.2.2.1 (Int32.toNatClampNeg x0)) - (d.2.2.2.2.2.2.2.2.1 1)) else (bif hEq (d.2.2.2.2.2.1 (Int32.toNatClampNeg x0)) 6 then (bif gCmp .le d.2.1 d.1 then ((d.2.2.2.2.2.2.1 (Int32.toNatClampNeg x0)) - (d.2.2.2.2.2.2.2.2.1 1)) else (((d.2.2.2.2.2.2.1 (Int32.toNatClampNeg x0)) - (d.2.2.2.2.2.2.2.2.1 1)) / 2)) else ((d.2.2.2.2.2.2.1 (Int32.toNatClampNeg x0)) - (d.2.2.2.2.2.2.2.2.1 1)))))))) + (d.2.2.2.2.2.2.2.2.1 0)))] (hCm b d k s w ik ex pr wd sn qu tb ts (r0, rq) h0 h1 h2 h3 fi R) (some (.int (v_17_10 x0 d))) (hCm b d k s w ik ex pr wd sn qu tb ts (r0, rq) h0 h1 h2 h3 fi R) by
    refine hX_if (gCmp .lt d.2.1 30) (fun c8 => ?_) (fun c8 => ?_)
    · skip
      refine hX_goM 1 (170) [some (.ref 10), some (.int x0), some (.int (bif hEq (d.2.2.2.2.2.1 (Int32.toNatClampNeg x0)) 1 then ((d.2.2.2.2.2.2.1 (Int32.toNatClampNeg x0)) + ((d.1 - d.2.1) / 2)) else (bif hEq (d.2.2.2.2.2.1 (Int32.toNatClampNeg x0)) 2 then ((d.2.2.2.2.2.2.1 (Int32.toNatClampNeg x0)) - ((d.2.2.2.2.2.2.2.2.1 1) + (d.2.2.2.2.2.2.2.1 (Int32.toNatClampNeg x0)))) else (bif hEq (d.2.2.2.2.2.1 (Int32.toNatClampNeg x0)) 3 then ((d.2.2.2.2.2.2.1 (Int32.toNatClampNeg x0)) - ((2 * (d.2.2.2.2.2.2.2.2.1 1)) + (d.2.2.2.2.2.2.2.1 (Int32.toNatClampNeg x0)))) else (bif hEq (d.2.2.2.2.2.1 (Int32.toNatClampNeg x0)) 4 then ((d.2.2.2.2.2.2.1 (Int32.toNatClampNeg x0)) - ((2 * (d.2.2.2.2.2.2.2.2.1 1)) + (d.2.2.2.2.2.2.2.1 (Int32.toNatClampNeg x0)))) else (bif hEq (d.2.2.2.2.2.1 (Int32.toNatClampNeg x0)) 5 then ((d.2.2.2.2.2.2.1 (Int32.toNatClampNeg x0)) - (d.2.2.2.2.2.2.2.2.1 1)) else (bif hEq (d.2.2.2.2.2.1 (Int32.toNatClampNeg x0)) 6 then (bif gCmp .le d.2.1 d.1 then ((d.2.2.2.2.2.2.1 (Int32.toNatClampNeg x0)) - (d.2.2.2.2.2.2.2.2.1 1)) else (((d.2.2.2.2.2.2.1 (Int32.toNatClampNeg x0)) - (d.2.2.2.2.2.2.2.2.1 1)) / 2)) else ((d.2.2.2.2.2.2.1 (Int32.toNatClampNeg x0)) - (d.2.2.2.2.2.2.2.2.1 1)))))))))] [.int (bif hEq (d.2.2.2.2.2.1 (Int32.toNatClampNeg x0)) 1 then ((d.2.2.2.2.2.2.1 (Int32.toNatClampNeg x0)) + ((d.1 - d.2.1) / 2)) else (bif hEq (d.2.2.2.2.2.1 (Int32.toNatClampNeg x0)) 2 then ((d.2.2.2.2.2.2.1 (Int32.toNatClampNeg x0)) - ((d.2.2.2.2.2.2.2.2.1 1) + (d.2.2.2.2.2.2.2.1 (Int32.toNatClampNeg x0)))) else (bif hEq (d.2.2.2.2.2.1 (Int32.toNatClampNeg x0)) 3 then ((d.2.2.2.2.2.2.1 (Int32.toNatClampNeg x0)) - ((2 * (d.2.2.2.2.2.2.2.2.1 1)) + (d.2.2.2.2.2.2.2.1 (Int32.toNatClampNeg x0)))) else (bif hEq (d.2.2.2.2.2.1 (Int32.toNatClampNeg x0)) 4 then ((d.2.2.2.2.2.2.1 (Int32.toNatClampNeg x0)) - ((2 * (d.2.2.2.2.2.2.2.2.1 1)) + (d.2.2.2.2.2.2.2.1 (Int32.toNatClampNeg x0)))) else (bif hEq (d.2.2.2.2.2.1 (Int32.toNatClampNeg x0)) 5 then ((d.2.2.2.2.2.2.1 (Int32.toNatClampNeg x0)) - (d.2.2.2.2.2.2.2.2.1 1)) else (bif hEq (d.2.2.2.2.2.1 (Int32.toNatClampNeg x0)) 6 then (bif gCmp .le d.2.1 d.1 then ((d.2.2.2.2.2.2.1 (Int32.toNatClampNeg x0)) - (d.2.2.2.2.2.2.2.2.1 1)) else (((d.2.2.2.2.2.2.1 (Int32.toNatClampNeg x0)) - (d.2.2.2.2.2.2.2.2.1 1)) / 2)) else ((d.2.2.2.2.2.2.1 (Int32.toNatClampNeg x0)) - (d.2.2.2.2.2.2.2.2.1 1))))))))] rfl ?_
      have hk := hk
      simp only [c8, cond_true, cond_false] at hk
      first | exact hk | (simp only [c8, cond_true, cond_false]; exact hk)
    · skip
      refine hX_goM 7 (170) [some (.ref 10), some (.int x0), some (.int (bif hEq (d.2.2.2.2.2.1 (Int32.toNatClampNeg x0)) 1 then ((d.2.2.2.2.2.2.1 (Int32.toNatClampNeg x0)) + ((d.1 - d.2.1) / 2)) else (bif hEq (d.2.2.2.2.2.1 (Int32.toNatClampNeg x0)) 2 then ((d.2.2.2.2.2.2.1 (Int32.toNatClampNeg x0)) - ((d.2.2.2.2.2.2.2.2.1 1) + (d.2.2.2.2.2.2.2.1 (Int32.toNatClampNeg x0)))) else (bif hEq (d.2.2.2.2.2.1 (Int32.toNatClampNeg x0)) 3 then ((d.2.2.2.2.2.2.1 (Int32.toNatClampNeg x0)) - ((2 * (d.2.2.2.2.2.2.2.2.1 1)) + (d.2.2.2.2.2.2.2.1 (Int32.toNatClampNeg x0)))) else (bif hEq (d.2.2.2.2.2.1 (Int32.toNatClampNeg x0)) 4 then ((d.2.2.2.2.2.2.1 (Int32.toNatClampNeg x0)) - ((2 * (d.2.2.2.2.2.2.2.2.1 1)) + (d.2.2.2.2.2.2.2.1 (Int32.toNatClampNeg x0)))) else (bif hEq (d.2.2.2.2.2.1 (Int32.toNatClampNeg x0)) 5 then ((d.2.2.2.2.2.2.1 (Int32.toNatClampNeg x0)) - (d.2.2.2.2.2.2.2.2.1 1)) else (bif hEq (d.2.2.2.2.2.1 (Int32.toNatClampNeg x0)) 6 then (bif gCmp .le d.2.1 d.1 then ((d.2.2.2.2.2.2.1 (Int32.toNatClampNeg x0)) - (d.2.2.2.2.2.2.2.2.1 1)) else (((d.2.2.2.2.2.2.1 (Int32.toNatClampNeg x0)) - (d.2.2.2.2.2.2.2.2.1 1)) / 2)) else ((d.2.2.2.2.2.2.1 (Int32.toNatClampNeg x0)) - (d.2.2.2.2.2.2.2.2.1 1)))))))))] [.int ((bif hEq (d.2.2.2.2.2.1 (Int32.toNatClampNeg x0)) 1 then ((d.2.2.2.2.2.2.1 (Int32.toNatClampNeg x0)) + ((d.1 - d.2.1) / 2)) else (bif hEq (d.2.2.2.2.2.1 (Int32.toNatClampNeg x0)) 2 then ((d.2.2.2.2.2.2.1 (Int32.toNatClampNeg x0)) - ((d.2.2.2.2.2.2.2.2.1 1) + (d.2.2.2.2.2.2.2.1 (Int32.toNatClampNeg x0)))) else (bif hEq (d.2.2.2.2.2.1 (Int32.toNatClampNeg x0)) 3 then ((d.2.2.2.2.2.2.1 (Int32.toNatClampNeg x0)) - ((2 * (d.2.2.2.2.2.2.2.2.1 1)) + (d.2.2.2.2.2.2.2.1 (Int32.toNatClampNeg x0)))) else (bif hEq (d.2.2.2.2.2.1 (Int32.toNatClampNeg x0)) 4 then ((d.2.2.2.2.2.2.1 (Int32.toNatClampNeg x0)) - ((2 * (d.2.2.2.2.2.2.2.2.1 1)) + (d.2.2.2.2.2.2.2.1 (Int32.toNatClampNeg x0)))) else (bif hEq (d.2.2.2.2.2.1 (Int32.toNatClampNeg x0)) 5 then ((d.2.2.2.2.2.2.1 (Int32.toNatClampNeg x0)) - (d.2.2.2.2.2.2.2.2.1 1)) else (bif hEq (d.2.2.2.2.2.1 (Int32.toNatClampNeg x0)) 6 then (bif gCmp .le d.2.1 d.1 then ((d.2.2.2.2.2.2.1 (Int32.toNatClampNeg x0)) - (d.2.2.2.2.2.2.2.2.1 1)) else (((d.2.2.2.2.2.2.1 (Int32.toNatClampNeg x0)) - (d.2.2.2.2.2.2.2.2.1 1)) / 2)) else ((d.2.2.2.2.2.2.1 (Int32.toNatClampNeg x0)) - (d.2.2.2.2.2.2.2.2.1 1)))))))) + (d.2.2.2.2.2.2.2.2.1 0))] rfl ?_
      have hk := hk
      simp only [c8, cond_true, cond_false] at hk
      first | exact hk | (simp only [c8, cond_true, cond_false]; exact hk)
  exact hX_end rfl (rfl) (rfl)

/-- UpOneSide$Blind.move(I)V -/
def f_18_10_d (x0 : Int32) (d : hB) : hB := (if 0 < (if (d.1 + (v_16_10 x0 d)) < 60 then (d.1 + (v_16_10 x0 d)) else 60) then (if (d.1 + (v_16_10 x0 d)) < 60 then (d.1 + (v_16_10 x0 d)) else 60) else 0, if 0 < (if (d.2.1 + (v_17_10 x0 d)) < 60 then (d.2.1 + (v_17_10 x0 d)) else 60) then (if (d.2.1 + (v_17_10 x0 d)) < 60 then (d.2.1 + (v_17_10 x0 d)) else 60) else 0, d.2.2)
set_option maxRecDepth 20000 in
set_option maxHeartbeats 1000000 in
theorem ct_18_10 {LL : Nat} {xs : Nat → Int32} {D : Nat} {b d k s w : hB} {ik ex pr wd : Int32} {sn : Nat → Int64} {qu tb : Nat → Int32} {ts : Int32} {r0 : Value} {rq : hRq} {h0 h1 h2 h3 : hSt} {fi : Nat → Int32} {R : List gE} (x0 : Int32) (o1 : gIn x0 8 = true) : hM (gO LL xs) (D + 1) zR_18 [.ref 10, .int x0] (hCm b d k s w ik ex pr wd sn qu tb ts (r0, rq) h0 h1 h2 h3 fi R) none (hCm b (f_18_10_d x0 d) k s w ik ex pr wd sn qu tb ts (r0, rq) h0 h1 h2 h3 fi R) := by
  refine hX_go 0 0 [some (.ref 10), some (.int x0), none, none] [] (hCm b d k s w ik ex pr wd sn qu tb ts (r0, rq) h0 h1 h2 h3 fi R) rfl ?_
  refine hX_go 4 (6) [some (.ref 10), some (.int x0), none, none] [.int x0, .ref 10, .int d.1] (hCm b d k s w ik ex pr wd sn qu tb ts (r0, rq) h0 h1 h2 h3 fi R) rfl ?_
  refine hX_call (r' := zR_16) rfl (ct_16_10 x0 o1) ?_
  refine hX_goM 6 (17) [some (.ref 10), some (.int x0), some (.int (d.1 + (v_16_10 x0 d))), none] [.int x0, .ref 10, .int d.2.1] rfl ?_
  refine hX_call (r' := zR_17) rfl (ct_17_10 x0 o1) ?_
  refine hX_go 9 (36) [some (.ref 10), some (.int x0), some (.int (d.1 + (v_16_10 x0 d))), some (.int (d.2.1 + (v_17_10 x0 d)))] [] (hCm b (if 0 < (if (d.1 + (v_16_10 x0 d)) < 60 then (d.1 + (v_16_10 x0 d)) else 60) then (if (d.1 + (v_16_10 x0 d)) < 60 then (d.1 + (v_16_10 x0 d)) else 60) else 0, d.2) k s w ik ex pr wd sn qu tb ts (r0, rq) h0 h1 h2 h3 fi R) rfl ?_
  refine hX_go 7 (50) [some (.ref 10), some (.int x0), some (.int (d.1 + (v_16_10 x0 d))), some (.int (d.2.1 + (v_17_10 x0 d)))] [] (hCm b (if 0 < (if (d.1 + (v_16_10 x0 d)) < 60 then (d.1 + (v_16_10 x0 d)) else 60) then (if (d.1 + (v_16_10 x0 d)) < 60 then (d.1 + (v_16_10 x0 d)) else 60) else 0, if 0 < (if (d.2.1 + (v_17_10 x0 d)) < 60 then (d.2.1 + (v_17_10 x0 d)) else 60) then (if (d.2.1 + (v_17_10 x0 d)) < 60 then (d.2.1 + (v_17_10 x0 d)) else 60) else 0, d.2.2) k s w ik ex pr wd sn qu tb ts (r0, rq) h0 h1 h2 h3 fi R) rfl ?_
  exact hX_end rfl (rfl) (rfl)

/-- UpOneSide$Blind.moveTimes: the loop at 2 -/
def lp_19_10_2 (N : Nat) (y1 : Int32) (y2 : Int32) : Nat → Int32 → hB → Option (Int32 × hB)
  | 0, _, _ => none
  | n + 1, y3, d =>
    (bif gCmp .ge y3 y2 then
      some (y3, d)
    else
      (bif gIn y1 8 then lp_19_10_2 N y1 y2 n (y3 + 1) (f_18_10_d y1 d) else none))
set_option maxRecDepth 20000 in
set_option maxHeartbeats 4000000 in
theorem lt_19_10_2 {LL : Nat} {xs : Nat → Int32} {D N : Nat} {b k s w : hB} {ik ex pr wd : Int32} {sn : Nat → Int64} {qu tb : Nat → Int32} {ts : Int32} {r0 : Value} {rq : hRq} {h0 h1 h2 h3 : hSt} {fi : Nat → Int32} {R : List gE} {y1 : Int32} {y2 : Int32} {v : Option Value} {M' : List gE} : ∀ (n : Nat) (y3 : Int32) (d : hB) (q : Int32 × hB), lp_19_10_2 N y1 y2 n y3 d = some q → (kk : hX (gO LL xs) (D + 2) zR_19 18 [some (.ref 10), some (.int y1), some (.int y2), some (.int q.1)] [] (hCm b q.2 k s w ik ex pr wd sn qu tb ts (r0, rq) h0 h1 h2 h3 fi R) v M') → hX (gO LL xs) (D + 2) zR_19 2 [some (.ref 10), some (.int y1), some (.int y2), some (.int y3)] [] (hCm b d k s w ik ex pr wd sn qu tb ts (r0, rq) h0 h1 h2 h3 fi R) v M' := by
  intro n
  induction n with
  | zero => intro y3 d q h; cases h
  | succ n ih =>
    intro y3 d q h kk
    rw [lp_19_10_2] at h
    refine hX_go 3 (bif gCmp .ge y3 y2 then 18 else 7) [some (.ref 10), some (.int y1), some (.int y2), some (.int y3)] [] (hCm b d k s w ik ex pr wd sn qu tb ts (r0, rq) h0 h1 h2 h3 fi R) rfl ?_
    refine hX_if (gCmp .ge y3 y2) (fun c1 => ?_) (fun c1 => ?_)
    · skip
      have h := gcT c1 h
      have h := Option.some.inj h; subst h
      exact kk
    · skip
      have h := gcF c1 h
      refine hX_goM 2 (9) [some (.ref 10), some (.int y1), some (.int y2), some (.int y3)] [.int y1, .ref 10] rfl ?_
      revert h; refine gCondR fun g2 h => ?_
      refine hX_call (r' := zR_18) rfl (ct_18_10 y1 g2) ?_
      refine hX_go 2 (2) [some (.ref 10), some (.int y1), some (.int y2), some (.int (y3 + 1))] [] (hCm b (f_18_10_d y1 d) k s w ik ex pr wd sn qu tb ts (r0, rq) h0 h1 h2 h3 fi R) rfl ?_
      exact ih (y3 + 1) (f_18_10_d y1 d) q h kk

/-- UpOneSide$Blind.moveTimes(II)V -/
def me_19_10 (N : Nat) (x0 : Int32) (x1 : Int32) (d : hB) : Option (hB) :=
  (Option.bind (lp_19_10_2 N x0 x1 N 0 d) fun q1 =>
  some (q1.2))
set_option maxRecDepth 20000 in
set_option maxHeartbeats 4000000 in
theorem mt_19_10 {LL : Nat} {xs : Nat → Int32} {D : Nat} {b d k s w : hB} {ik ex pr wd : Int32} {sn : Nat → Int64} {qu tb : Nat → Int32} {ts : Int32} {r0 : Value} {rq : hRq} {h0 h1 h2 h3 : hSt} {fi : Nat → Int32} {R : List gE} (N : Nat) (x0 : Int32) (x1 : Int32) (q : hB) (h : me_19_10 N x0 x1 d = some q) : hM (gO LL xs) (D + 2) zR_19 [.ref 10, .int x0, .int x1] (hCm b d k s w ik ex pr wd sn qu tb ts (r0, rq) h0 h1 h2 h3 fi R) none (hCm b q k s w ik ex pr wd sn qu tb ts (r0, rq) h0 h1 h2 h3 fi R) := by
  unfold me_19_10 at h
  refine hX_go 0 0 [some (.ref 10), some (.int x0), some (.int x1), none] [] (hCm b d k s w ik ex pr wd sn qu tb ts (r0, rq) h0 h1 h2 h3 fi R) rfl ?_
  refine hX_go 2 (2) [some (.ref 10), some (.int x0), some (.int x1), some (.int 0)] [] (hCm b d k s w ik ex pr wd sn qu tb ts (r0, rq) h0 h1 h2 h3 fi R) rfl ?_
  revert h; refine gBindR fun q1 e1 h => ?_
  refine lt_19_10_2 N 0 d q1 e1 ?_
  refine hX_go 0 (18) [some (.ref 10), some (.int x0), some (.int x1), some (.int q1.1)] [] (hCm b q1.2 k s w ik ex pr wd sn qu tb ts (r0, rq) h0 h1 h2 h3 fi R) rfl ?_
  have h := Option.some.inj h; subst h
  exact hX_end rfl rfl rfl

/-- UpOneSide$Blind.off()I -/
def v_14_10 (d : hB) : Int32 := d.1 - d.2.1
set_option maxRecDepth 20000 in
set_option maxHeartbeats 1000000 in
theorem ct_14_10 {LL : Nat} {xs : Nat → Int32} {D : Nat} {b d k s w : hB} {ik ex pr wd : Int32} {sn : Nat → Int64} {qu tb : Nat → Int32} {ts : Int32} {r0 : Value} {rq : hRq} {h0 h1 h2 h3 : hSt} {fi : Nat → Int32} {R : List gE} : hM (gO LL xs) (D + 0) zR_14 [.ref 10] (hCm b d k s w ik ex pr wd sn qu tb ts (r0, rq) h0 h1 h2 h3 fi R) (some (.int (v_14_10 d))) (hCm b d k s w ik ex pr wd sn qu tb ts (r0, rq) h0 h1 h2 h3 fi R) := by
  refine hX_go 0 0 [some (.ref 10)] [] (hCm b d k s w ik ex pr wd sn qu tb ts (r0, rq) h0 h1 h2 h3 fi R) rfl ?_
  refine hX_go 5 (9) [some (.ref 10)] [.int (d.1 - d.2.1)] (hCm b d k s w ik ex pr wd sn qu tb ts (r0, rq) h0 h1 h2 h3 fi R) rfl ?_
  exact hX_end rfl (rfl) (rfl)


/-- UpOneSide.after(II)I -/
def me_72_0 (N : Nat) (x0 : Int32) (x1 : Int32) (b : hB) (d : hB) (fi : Nat → Int32) : Option (Int32 × hB × (Nat → Int32)) :=
  (bif gCmp .ne (v_113_0 x0 b) 0 then
    some (v_111_0 0, d, f_111_0_fi 0 fi)
  else
    (bif gCmp .ne (v_112 x1 0 200) 0 then
      (Option.bind (me_19_10 N x0 x1 (f_10_10_1_d b d)) fun q3 =>
      some (v_14_10 q3, q3, fi))
    else
      some (v_111_0 0, d, f_111_0_fi 0 fi)))
set_option maxRecDepth 20000 in
set_option maxHeartbeats 4000000 in
theorem mt_72_0 {LL : Nat} {xs : Nat → Int32} {D : Nat} {b d k s w : hB} {ik ex pr wd : Int32} {sn : Nat → Int64} {qu tb : Nat → Int32} {ts : Int32} {r0 : Value} {rq : hRq} {h0 h1 h2 h3 : hSt} {fi : Nat → Int32} {R : List gE} (N : Nat) (x0 : Int32) (x1 : Int32) (q : Int32 × hB × (Nat → Int32)) (h : me_72_0 N x0 x1 b d fi = some q) : hM (gO LL xs) (D + 3) zR_72 [.ref 0, .int x0, .int x1] (hCm b d k s w ik ex pr wd sn qu tb ts (r0, rq) h0 h1 h2 h3 fi R) (some (.int q.1)) (hCm b q.2.1 k s w ik ex pr wd sn qu tb ts (r0, rq) h0 h1 h2 h3 q.2.2 R) := by
  unfold me_72_0 at h
  refine hX_go 0 0 [some (.ref 0), some (.int x0), some (.int x1)] [] (hCm b d k s w ik ex pr wd sn qu tb ts (r0, rq) h0 h1 h2 h3 fi R) rfl ?_
  refine hX_go 2 (2) [some (.ref 0), some (.int x0), some (.int x1)] [.int x0, .ref 0] (hCm b d k s w ik ex pr wd sn qu tb ts (r0, rq) h0 h1 h2 h3 fi R) rfl ?_
  refine hX_call (r' := zR_113) rfl (ct_113_0 x0) ?_
  refine hX_goM 1 (bif gCmp .ne (v_113_0 x0 b) 0 then 19 else 8) [some (.ref 0), some (.int x0), some (.int x1)] [] rfl ?_
  refine hX_if (gCmp .ne (v_113_0 x0 b) 0) (fun c1 => ?_) (fun c1 => ?_)
  · skip
    have h := gcT c1 h
    refine hX_goM 2 (21) [some (.ref 0), some (.int x0), some (.int x1)] [.int 0, .ref 0] rfl ?_
    refine hX_call (r' := zR_111) rfl (ct_111_0 0 rfl) ?_
    refine hX_go 0 (24) [some (.ref 0), some (.int x0), some (.int x1)] [.int (v_111_0 0)] (hCm b d k s w ik ex pr wd sn qu tb ts (r0, rq) h0 h1 h2 h3 (f_111_0_fi 0 fi) R) rfl ?_
    have h := Option.some.inj h; subst h
    exact hX_end rfl rfl rfl
  · skip
    have h := gcF c1 h
    refine hX_goM 3 (13) [some (.ref 0), some (.int x0), some (.int x1)] [.int 200, .int 0, .int x1] rfl ?_
    refine hX_call (r' := zR_112) rfl (ct_112 x1 0 200) ?_
    refine hX_goM 1 (bif gCmp .ne (v_112 x1 0 200) 0 then 25 else 19) [some (.ref 0), some (.int x0), some (.int x1)] [] rfl ?_
    refine hX_if (gCmp .ne (v_112 x1 0 200) 0) (fun c2 => ?_) (fun c2 => ?_)
    · skip
      have h := gcT c2 h
      refine hX_goM 4 (33) [some (.ref 0), some (.int x0), some (.int x1)] [.ref 1, .ref 10] rfl ?_
      refine hX_call (r' := zR_10) rfl (ct_10_10_1) ?_
      refine hX_go 4 (42) [some (.ref 0), some (.int x0), some (.int x1)] [.int x1, .int x0, .ref 10] (hCm b (f_10_10_1_d b d) k s w ik ex pr wd sn qu tb ts (r0, rq) h0 h1 h2 h3 fi R) rfl ?_
      revert h; refine gBindR fun q3 e3 h => ?_
      refine hX_call (r' := zR_19) rfl (mt_19_10 N x0 x1 q3 e3) ?_
      refine hX_go 2 (49) [some (.ref 0), some (.int x0), some (.int x1)] [.ref 10] (hCm b q3 k s w ik ex pr wd sn qu tb ts (r0, rq) h0 h1 h2 h3 fi R) rfl ?_
      refine hX_call (r' := zR_14) rfl (ct_14_10) ?_
      refine hX_goM 0 (52) [some (.ref 0), some (.int x0), some (.int x1)] [.int (v_14_10 q3)] rfl ?_
      have h := Option.some.inj h; subst h
      exact hX_end rfl rfl rfl
    · skip
      have h := gcF c2 h
      refine hX_goM 2 (21) [some (.ref 0), some (.int x0), some (.int x1)] [.int 0, .ref 0] rfl ?_
      refine hX_call (r' := zR_111) rfl (ct_111_0 0 rfl) ?_
      refine hX_go 0 (24) [some (.ref 0), some (.int x0), some (.int x1)] [.int (v_111_0 0)] (hCm b d k s w ik ex pr wd sn qu tb ts (r0, rq) h0 h1 h2 h3 (f_111_0_fi 0 fi) R) rfl ?_
      have h := Option.some.inj h; subst h
      exact hX_end rfl rfl rfl

/-- UpOneSide$Blind.offSize()I -/
def v_15_1 (b : hB) : Int32 := if 0 ≤ b.1 - b.2.1 then (b.1 - b.2.1) else 0 - (b.1 - b.2.1)
set_option maxRecDepth 20000 in
set_option maxHeartbeats 1000000 in
theorem ct_15_1 {LL : Nat} {xs : Nat → Int32} {D : Nat} {b d k s w : hB} {ik ex pr wd : Int32} {sn : Nat → Int64} {qu tb : Nat → Int32} {ts : Int32} {r0 : Value} {rq : hRq} {h0 h1 h2 h3 : hSt} {fi : Nat → Int32} {R : List gE} : hM (gO LL xs) (D + 1) zR_15 [.ref 1] (hCm b d k s w ik ex pr wd sn qu tb ts (r0, rq) h0 h1 h2 h3 fi R) (some (.int (v_15_1 b))) (hCm b d k s w ik ex pr wd sn qu tb ts (r0, rq) h0 h1 h2 h3 fi R) := by
  refine hX_go 0 0 [some (.ref 1)] [] (hCm b d k s w ik ex pr wd sn qu tb ts (r0, rq) h0 h1 h2 h3 fi R) rfl ?_
  refine hX_go 6 (12) [some (.ref 1)] [.int (if 0 ≤ b.1 - b.2.1 then (b.1 - b.2.1) else 0 - (b.1 - b.2.1))] (hCm b d k s w ik ex pr wd sn qu tb ts (r0, rq) h0 h1 h2 h3 fi R) rfl ?_
  exact hX_end rfl (rfl) (rfl)

/-- UpOneSide$Blind.offSize()I -/
def v_15_10 (d : hB) : Int32 := if 0 ≤ d.1 - d.2.1 then (d.1 - d.2.1) else 0 - (d.1 - d.2.1)
set_option maxRecDepth 20000 in
set_option maxHeartbeats 1000000 in
theorem ct_15_10 {LL : Nat} {xs : Nat → Int32} {D : Nat} {b d k s w : hB} {ik ex pr wd : Int32} {sn : Nat → Int64} {qu tb : Nat → Int32} {ts : Int32} {r0 : Value} {rq : hRq} {h0 h1 h2 h3 : hSt} {fi : Nat → Int32} {R : List gE} : hM (gO LL xs) (D + 1) zR_15 [.ref 10] (hCm b d k s w ik ex pr wd sn qu tb ts (r0, rq) h0 h1 h2 h3 fi R) (some (.int (v_15_10 d))) (hCm b d k s w ik ex pr wd sn qu tb ts (r0, rq) h0 h1 h2 h3 fi R) := by
  refine hX_go 0 0 [some (.ref 10)] [] (hCm b d k s w ik ex pr wd sn qu tb ts (r0, rq) h0 h1 h2 h3 fi R) rfl ?_
  refine hX_go 6 (12) [some (.ref 10)] [.int (if 0 ≤ d.1 - d.2.1 then (d.1 - d.2.1) else 0 - (d.1 - d.2.1))] (hCm b d k s w ik ex pr wd sn qu tb ts (r0, rq) h0 h1 h2 h3 fi R) rfl ?_
  exact hX_end rfl (rfl) (rfl)


/-- UpOneSide.sign(I)I -/
def me_73_0 (N : Nat) (x0 : Int32) (b : hB) (d : hB) (fi : Nat → Int32) : Option (Int32 × hB × (Nat → Int32)) :=
  (bif gCmp .eq (v_113_0 x0 b) 0 then
    (Option.bind (me_19_10 N x0 40 (f_10_10_1_d b d)) fun q2 =>
    (bif gCmp .ne (v_15_10 q2) (v_15_1 b) then
      some (bif gCmp .le (v_15_10 q2) (v_15_1 b) then 2 else 1, q2, fi)
    else
      some (0, q2, fi)))
  else
    some (v_111_0 0, d, f_111_0_fi 0 fi))
set_option maxRecDepth 20000 in
set_option maxHeartbeats 4000000 in
theorem mt_73_0 {LL : Nat} {xs : Nat → Int32} {D : Nat} {b d k s w : hB} {ik ex pr wd : Int32} {sn : Nat → Int64} {qu tb : Nat → Int32} {ts : Int32} {r0 : Value} {rq : hRq} {h0 h1 h2 h3 : hSt} {fi : Nat → Int32} {R : List gE} (N : Nat) (x0 : Int32) (q : Int32 × hB × (Nat → Int32)) (h : me_73_0 N x0 b d fi = some q) : hM (gO LL xs) (D + 3) zR_73 [.ref 0, .int x0] (hCm b d k s w ik ex pr wd sn qu tb ts (r0, rq) h0 h1 h2 h3 fi R) (some (.int q.1)) (hCm b q.2.1 k s w ik ex pr wd sn qu tb ts (r0, rq) h0 h1 h2 h3 q.2.2 R) := by
  unfold me_73_0 at h
  refine hX_go 0 0 [some (.ref 0), some (.int x0), none, none] [] (hCm b d k s w ik ex pr wd sn qu tb ts (r0, rq) h0 h1 h2 h3 fi R) rfl ?_
  refine hX_go 2 (2) [some (.ref 0), some (.int x0), none, none] [.int x0, .ref 0] (hCm b d k s w ik ex pr wd sn qu tb ts (r0, rq) h0 h1 h2 h3 fi R) rfl ?_
  refine hX_call (r' := zR_113) rfl (ct_113_0 x0) ?_
  refine hX_goM 1 (bif gCmp .eq (v_113_0 x0 b) 0 then 14 else 8) [some (.ref 0), some (.int x0), none, none] [] rfl ?_
  refine hX_if (gCmp .eq (v_113_0 x0 b) 0) (fun c1 => ?_) (fun c1 => ?_)
  · skip
    have h := gcT c1 h
    refine hX_goM 4 (22) [some (.ref 0), some (.int x0), none, none] [.ref 1, .ref 10] rfl ?_
    refine hX_call (r' := zR_10) rfl (ct_10_10_1) ?_
    refine hX_go 4 (32) [some (.ref 0), some (.int x0), none, none] [.int 40, .int x0, .ref 10] (hCm b (f_10_10_1_d b d) k s w ik ex pr wd sn qu tb ts (r0, rq) h0 h1 h2 h3 fi R) rfl ?_
    revert h; refine gBindR fun q2 e2 h => ?_
    refine hX_call (r' := zR_19) rfl (mt_19_10 N x0 40 q2 e2) ?_
    refine hX_go 2 (39) [some (.ref 0), some (.int x0), none, none] [.ref 1] (hCm b q2 k s w ik ex pr wd sn qu tb ts (r0, rq) h0 h1 h2 h3 fi R) rfl ?_
    refine hX_call (r' := zR_15) rfl (ct_15_1) ?_
    refine hX_goM 3 (47) [some (.ref 0), some (.int x0), some (.int (v_15_1 b)), none] [.ref 10] rfl ?_
    refine hX_call (r' := zR_15) rfl (ct_15_10) ?_
    refine hX_goM 4 (bif gCmp .ne (v_15_10 q2) (v_15_1 b) then 58 else 56) [some (.ref 0), some (.int x0), some (.int (v_15_1 b)), some (.int (v_15_10 q2))] [] rfl ?_
    refine hX_if (gCmp .ne (v_15_10 q2) (v_15_1 b)) (fun c3 => ?_) (fun c3 => ?_)
    · skip
      have h := gcT c3 h
      refine hX_goM 3 (bif gCmp .le (v_15_10 q2) (v_15_1 b) then 67 else 63) [some (.ref 0), some (.int x0), some (.int (v_15_1 b)), some (.int (v_15_10 q2))] [] rfl ?_
      refine hX_mrg 68 [some (.ref 0), some (.int x0), some (.int (v_15_1 b)), some (.int (v_15_10 q2))] [.int (bif gCmp .le (v_15_10 q2) (v_15_1 b) then 2 else 1)] (hCm b q2 k s w ik ex pr wd sn qu tb ts (r0, rq) h0 h1 h2 h3 fi R) (fun hk => ?_) ?_
      · skip
        refine hX_if (gCmp .le (v_15_10 q2) (v_15_1 b)) (fun c5 => ?_) (fun c5 => ?_)
        · skip
          refine hX_goM 1 (68) [some (.ref 0), some (.int x0), some (.int (v_15_1 b)), some (.int (v_15_10 q2))] [.int 2] rfl ?_
          have hk := hk
          simp only [c5, cond_true, cond_false] at hk
          first | exact hk | (simp only [c5, cond_true, cond_false]; exact hk)
        · skip
          refine hX_goM 2 (68) [some (.ref 0), some (.int x0), some (.int (v_15_1 b)), some (.int (v_15_10 q2))] [.int 1] rfl ?_
          have hk := hk
          simp only [c5, cond_true, cond_false] at hk
          first | exact hk | (simp only [c5, cond_true, cond_false]; exact hk)
      have h := Option.some.inj h; subst h
      exact hX_end rfl rfl rfl
    · skip
      have h := gcF c3 h
      refine hX_goM 1 (57) [some (.ref 0), some (.int x0), some (.int (v_15_1 b)), some (.int (v_15_10 q2))] [.int 0] rfl ?_
      have h := Option.some.inj h; subst h
      exact hX_end rfl rfl rfl
  · skip
    have h := gcF c1 h
    refine hX_goM 2 (10) [some (.ref 0), some (.int x0), none, none] [.int 0, .ref 0] rfl ?_
    refine hX_call (r' := zR_111) rfl (ct_111_0 0 rfl) ?_
    refine hX_go 0 (13) [some (.ref 0), some (.int x0), none, none] [.int (v_111_0 0)] (hCm b d k s w ik ex pr wd sn qu tb ts (r0, rq) h0 h1 h2 h3 (f_111_0_fi 0 fi) R) rfl ?_
    have h := Option.some.inj h; subst h
    exact hX_end rfl rfl rfl

/-- UpOneSide.stays: the loop at 27 -/
def lp_74_0_27 (N : Nat) (y1 : Int32) (fi : Nat → Int32) : Nat → Int32 → hB → Option (Int32 × hB × (Nat → Int32))
  | 0, _, _ => none
  | n + 1, y2, d =>
    (bif gCmp .gt y2 200 then
      some (v_111_0 3, d, f_111_0_fi 3 fi)
    else
      (bif gIn y1 8 then (bif gCmp .ne ((f_18_10_d y1 d).1) d.1 then
        lp_74_0_27 N y1 fi n (y2 + 1) (f_18_10_d y1 d)
      else
        (bif gCmp .ne ((f_18_10_d y1 d).2.1) d.2.1 then
          lp_74_0_27 N y1 fi n (y2 + 1) (f_18_10_d y1 d)
        else
          some (y2, (f_18_10_d y1 d), fi))) else none))
set_option maxRecDepth 20000 in
set_option maxHeartbeats 4000000 in
theorem lt_74_0_27 {LL : Nat} {xs : Nat → Int32} {D N : Nat} {b k s w : hB} {ik ex pr wd : Int32} {sn : Nat → Int64} {qu tb : Nat → Int32} {ts : Int32} {r0 : Value} {rq : hRq} {h0 h1 h2 h3 : hSt} {fi : Nat → Int32} {R : List gE} {y1 : Int32} : ∀ (n : Nat) (y2 : Int32) (d : hB) (q : Int32 × hB × (Nat → Int32)), lp_74_0_27 N y1 fi n y2 d = some q → hX (gO LL xs) (D + 2) zR_74 27 [some (.ref 0), some (.int y1), some (.int y2), none, none] [] (hCm b d k s w ik ex pr wd sn qu tb ts (r0, rq) h0 h1 h2 h3 fi R) (some (.int q.1)) (hCm b q.2.1 k s w ik ex pr wd sn qu tb ts (r0, rq) h0 h1 h2 h3 q.2.2 R) := by
  intro n
  induction n with
  | zero => intro y2 d q h; cases h
  | succ n ih =>
    intro y2 d q h
    rw [lp_74_0_27] at h
    refine hX_go 3 (bif gCmp .gt y2 200 then 90 else 34) [some (.ref 0), some (.int y1), some (.int y2), none, none] [] (hCm b d k s w ik ex pr wd sn qu tb ts (r0, rq) h0 h1 h2 h3 fi R) rfl ?_
    refine hX_if (gCmp .gt y2 200) (fun c1 => ?_) (fun c1 => ?_)
    · skip
      have h := gcT c1 h
      refine hX_goM 2 (92) [some (.ref 0), some (.int y1), some (.int y2), none, none] [.int 3, .ref 0] rfl ?_
      refine hX_call (r' := zR_111) rfl (ct_111_0 3 rfl) ?_
      refine hX_go 0 (95) [some (.ref 0), some (.int y1), some (.int y2), none, none] [.int (v_111_0 3)] (hCm b d k s w ik ex pr wd sn qu tb ts (r0, rq) h0 h1 h2 h3 (f_111_0_fi 3 fi) R) rfl ?_
      have h := Option.some.inj h; subst h
      exact hX_end rfl rfl rfl
    · skip
      have h := gcF c1 h
      refine hX_goM 9 (52) [some (.ref 0), some (.int y1), some (.int y2), some (.int d.1), some (.int d.2.1)] [.ref 0] rfl ?_
      refine hX_goM 2 (56) [some (.ref 0), some (.int y1), some (.int y2), some (.int d.1), some (.int d.2.1)] [.int y1, .ref 10] rfl ?_
      revert h; refine gCondR fun g2 h => ?_
      refine hX_call (r' := zR_18) rfl (ct_18_10 y1 g2) ?_
      refine hX_go 5 (bif gCmp .ne ((f_18_10_d y1 d).1) d.1 then 84 else 70) [some (.ref 0), some (.int y1), some (.int y2), some (.int d.1), some (.int d.2.1)] [] (hCm b (f_18_10_d y1 d) k s w ik ex pr wd sn qu tb ts (r0, rq) h0 h1 h2 h3 fi R) rfl ?_
      refine hX_if (gCmp .ne ((f_18_10_d y1 d).1) d.1) (fun c3 => ?_) (fun c3 => ?_)
      · skip
        have h := gcT c3 h
        refine hX_goM 2 (27) [some (.ref 0), some (.int y1), some (.int (y2 + 1)), some (.int d.1), some (.int d.2.1)] [] rfl ?_
        exact hX_wk (gLe_s (gLe_s (gLe_s (gLe_n (gLe_n gLe_0))))) (ih (y2 + 1) (f_18_10_d y1 d) q h)
      · skip
        have h := gcF c3 h
        refine hX_goM 5 (bif gCmp .ne ((f_18_10_d y1 d).2.1) d.2.1 then 84 else 82) [some (.ref 0), some (.int y1), some (.int y2), some (.int d.1), some (.int d.2.1)] [] rfl ?_
        refine hX_if (gCmp .ne ((f_18_10_d y1 d).2.1) d.2.1) (fun c4 => ?_) (fun c4 => ?_)
        · skip
          have h := gcT c4 h
          refine hX_goM 2 (27) [some (.ref 0), some (.int y1), some (.int (y2 + 1)), some (.int d.1), some (.int d.2.1)] [] rfl ?_
          exact hX_wk (gLe_s (gLe_s (gLe_s (gLe_n (gLe_n gLe_0))))) (ih (y2 + 1) (f_18_10_d y1 d) q h)
        · skip
          have h := gcF c4 h
          refine hX_goM 1 (83) [some (.ref 0), some (.int y1), some (.int y2), some (.int d.1), some (.int d.2.1)] [.int y2] rfl ?_
          have h := Option.some.inj h; subst h
          exact hX_end rfl rfl rfl

/-- UpOneSide.stays(I)I -/
def me_74_0 (N : Nat) (x0 : Int32) (b : hB) (d : hB) (fi : Nat → Int32) : Option (Int32 × hB × (Nat → Int32)) :=
  (bif gCmp .eq (v_113_0 x0 b) 0 then
    lp_74_0_27 N x0 fi N 0 (f_10_10_1_d b d)
  else
    some (v_111_0 0, d, f_111_0_fi 0 fi))
set_option maxRecDepth 20000 in
set_option maxHeartbeats 4000000 in
theorem mt_74_0 {LL : Nat} {xs : Nat → Int32} {D : Nat} {b d k s w : hB} {ik ex pr wd : Int32} {sn : Nat → Int64} {qu tb : Nat → Int32} {ts : Int32} {r0 : Value} {rq : hRq} {h0 h1 h2 h3 : hSt} {fi : Nat → Int32} {R : List gE} (N : Nat) (x0 : Int32) (q : Int32 × hB × (Nat → Int32)) (h : me_74_0 N x0 b d fi = some q) : hM (gO LL xs) (D + 2) zR_74 [.ref 0, .int x0] (hCm b d k s w ik ex pr wd sn qu tb ts (r0, rq) h0 h1 h2 h3 fi R) (some (.int q.1)) (hCm b q.2.1 k s w ik ex pr wd sn qu tb ts (r0, rq) h0 h1 h2 h3 q.2.2 R) := by
  unfold me_74_0 at h
  refine hX_go 0 0 [some (.ref 0), some (.int x0), none, none, none] [] (hCm b d k s w ik ex pr wd sn qu tb ts (r0, rq) h0 h1 h2 h3 fi R) rfl ?_
  refine hX_go 2 (2) [some (.ref 0), some (.int x0), none, none, none] [.int x0, .ref 0] (hCm b d k s w ik ex pr wd sn qu tb ts (r0, rq) h0 h1 h2 h3 fi R) rfl ?_
  refine hX_call (r' := zR_113) rfl (ct_113_0 x0) ?_
  refine hX_goM 1 (bif gCmp .eq (v_113_0 x0 b) 0 then 14 else 8) [some (.ref 0), some (.int x0), none, none, none] [] rfl ?_
  refine hX_if (gCmp .eq (v_113_0 x0 b) 0) (fun c1 => ?_) (fun c1 => ?_)
  · skip
    have h := gcT c1 h
    refine hX_goM 4 (22) [some (.ref 0), some (.int x0), none, none, none] [.ref 1, .ref 10] rfl ?_
    refine hX_call (r' := zR_10) rfl (ct_10_10_1) ?_
    refine hX_go 2 (27) [some (.ref 0), some (.int x0), some (.int 0), none, none] [] (hCm b (f_10_10_1_d b d) k s w ik ex pr wd sn qu tb ts (r0, rq) h0 h1 h2 h3 fi R) rfl ?_
    exact lt_74_0_27 N 0 (f_10_10_1_d b d) q h
  · skip
    have h := gcF c1 h
    refine hX_goM 2 (10) [some (.ref 0), some (.int x0), none, none, none] [.int 0, .ref 0] rfl ?_
    refine hX_call (r' := zR_111) rfl (ct_111_0 0 rfl) ?_
    refine hX_go 0 (13) [some (.ref 0), some (.int x0), none, none, none] [.int (v_111_0 0)] (hCm b d k s w ik ex pr wd sn qu tb ts (r0, rq) h0 h1 h2 h3 (f_111_0_fi 0 fi) R) rfl ?_
    have h := Option.some.inj h; subst h
    exact hX_end rfl rfl rfl

/-- UpOneSide.often: the loop at 37 -/
def lp_75_0_37 (N : Nat) (y1 : Int32) (y2 : Int32) (fi : Nat → Int32) : Nat → Int32 → hB → Option (Int32 × hB × (Nat → Int32))
  | 0, _, _ => none
  | n + 1, y3, d =>
    (bif gCmp .gt y3 200 then
      some (v_111_0 3, d, f_111_0_fi 3 fi)
    else
      (bif gCmp .le (v_15_10 d) y2 then
        (bif gIn y1 8 then lp_75_0_37 N y1 y2 fi n (y3 + 1) (f_18_10_d y1 d) else none)
      else
        some (y3, d, fi)))
set_option maxRecDepth 20000 in
set_option maxHeartbeats 4000000 in
theorem lt_75_0_37 {LL : Nat} {xs : Nat → Int32} {D N : Nat} {b k s w : hB} {ik ex pr wd : Int32} {sn : Nat → Int64} {qu tb : Nat → Int32} {ts : Int32} {r0 : Value} {rq : hRq} {h0 h1 h2 h3 : hSt} {fi : Nat → Int32} {R : List gE} {y1 : Int32} {y2 : Int32} : ∀ (n : Nat) (y3 : Int32) (d : hB) (q : Int32 × hB × (Nat → Int32)), lp_75_0_37 N y1 y2 fi n y3 d = some q → hX (gO LL xs) (D + 2) zR_75 37 [some (.ref 0), some (.int y1), some (.int y2), some (.int y3)] [] (hCm b d k s w ik ex pr wd sn qu tb ts (r0, rq) h0 h1 h2 h3 fi R) (some (.int q.1)) (hCm b q.2.1 k s w ik ex pr wd sn qu tb ts (r0, rq) h0 h1 h2 h3 q.2.2 R) := by
  intro n
  induction n with
  | zero => intro y3 d q h; cases h
  | succ n ih =>
    intro y3 d q h
    rw [lp_75_0_37] at h
    refine hX_go 3 (bif gCmp .gt y3 200 then 71 else 44) [some (.ref 0), some (.int y1), some (.int y2), some (.int y3)] [] (hCm b d k s w ik ex pr wd sn qu tb ts (r0, rq) h0 h1 h2 h3 fi R) rfl ?_
    refine hX_if (gCmp .gt y3 200) (fun c1 => ?_) (fun c1 => ?_)
    · skip
      have h := gcT c1 h
      refine hX_goM 2 (73) [some (.ref 0), some (.int y1), some (.int y2), some (.int y3)] [.int 3, .ref 0] rfl ?_
      refine hX_call (r' := zR_111) rfl (ct_111_0 3 rfl) ?_
      refine hX_go 0 (76) [some (.ref 0), some (.int y1), some (.int y2), some (.int y3)] [.int (v_111_0 3)] (hCm b d k s w ik ex pr wd sn qu tb ts (r0, rq) h0 h1 h2 h3 (f_111_0_fi 3 fi) R) rfl ?_
      have h := Option.some.inj h; subst h
      exact hX_end rfl rfl rfl
    · skip
      have h := gcF c1 h
      refine hX_goM 2 (48) [some (.ref 0), some (.int y1), some (.int y2), some (.int y3)] [.ref 10] rfl ?_
      refine hX_call (r' := zR_15) rfl (ct_15_10) ?_
      refine hX_goM 2 (bif gCmp .le (v_15_10 d) y2 then 57 else 55) [some (.ref 0), some (.int y1), some (.int y2), some (.int y3)] [] rfl ?_
      refine hX_if (gCmp .le (v_15_10 d) y2) (fun c2 => ?_) (fun c2 => ?_)
      · skip
        have h := gcT c2 h
        refine hX_goM 3 (62) [some (.ref 0), some (.int y1), some (.int y2), some (.int y3)] [.int y1, .ref 10] rfl ?_
        revert h; refine gCondR fun g3 h => ?_
        refine hX_call (r' := zR_18) rfl (ct_18_10 y1 g3) ?_
        refine hX_go 2 (37) [some (.ref 0), some (.int y1), some (.int y2), some (.int (y3 + 1))] [] (hCm b (f_18_10_d y1 d) k s w ik ex pr wd sn qu tb ts (r0, rq) h0 h1 h2 h3 fi R) rfl ?_
        exact ih (y3 + 1) (f_18_10_d y1 d) q h
      · skip
        have h := gcF c2 h
        refine hX_goM 1 (56) [some (.ref 0), some (.int y1), some (.int y2), some (.int y3)] [.int y3] rfl ?_
        have h := Option.some.inj h; subst h
        exact hX_end rfl rfl rfl

/-- UpOneSide.often(II)I -/
def me_75_0 (N : Nat) (x0 : Int32) (x1 : Int32) (b : hB) (d : hB) (fi : Nat → Int32) : Option (Int32 × hB × (Nat → Int32)) :=
  (bif gCmp .ne (v_113_0 x0 b) 0 then
    some (v_111_0 0, d, f_111_0_fi 0 fi)
  else
    (bif gCmp .ne (v_112 x1 0 60) 0 then
      lp_75_0_37 N x0 x1 fi N 0 (f_10_10_1_d b d)
    else
      some (v_111_0 0, d, f_111_0_fi 0 fi)))
set_option maxRecDepth 20000 in
set_option maxHeartbeats 4000000 in
theorem mt_75_0 {LL : Nat} {xs : Nat → Int32} {D : Nat} {b d k s w : hB} {ik ex pr wd : Int32} {sn : Nat → Int64} {qu tb : Nat → Int32} {ts : Int32} {r0 : Value} {rq : hRq} {h0 h1 h2 h3 : hSt} {fi : Nat → Int32} {R : List gE} (N : Nat) (x0 : Int32) (x1 : Int32) (q : Int32 × hB × (Nat → Int32)) (h : me_75_0 N x0 x1 b d fi = some q) : hM (gO LL xs) (D + 2) zR_75 [.ref 0, .int x0, .int x1] (hCm b d k s w ik ex pr wd sn qu tb ts (r0, rq) h0 h1 h2 h3 fi R) (some (.int q.1)) (hCm b q.2.1 k s w ik ex pr wd sn qu tb ts (r0, rq) h0 h1 h2 h3 q.2.2 R) := by
  unfold me_75_0 at h
  refine hX_go 0 0 [some (.ref 0), some (.int x0), some (.int x1), none] [] (hCm b d k s w ik ex pr wd sn qu tb ts (r0, rq) h0 h1 h2 h3 fi R) rfl ?_
  refine hX_go 2 (2) [some (.ref 0), some (.int x0), some (.int x1), none] [.int x0, .ref 0] (hCm b d k s w ik ex pr wd sn qu tb ts (r0, rq) h0 h1 h2 h3 fi R) rfl ?_
  refine hX_call (r' := zR_113) rfl (ct_113_0 x0) ?_
  refine hX_goM 1 (bif gCmp .ne (v_113_0 x0 b) 0 then 18 else 8) [some (.ref 0), some (.int x0), some (.int x1), none] [] rfl ?_
  refine hX_if (gCmp .ne (v_113_0 x0 b) 0) (fun c1 => ?_) (fun c1 => ?_)
  · skip
    have h := gcT c1 h
    refine hX_goM 2 (20) [some (.ref 0), some (.int x0), some (.int x1), none] [.int 0, .ref 0] rfl ?_
    refine hX_call (r' := zR_111) rfl (ct_111_0 0 rfl) ?_
    refine hX_go 0 (23) [some (.ref 0), some (.int x0), some (.int x1), none] [.int (v_111_0 0)] (hCm b d k s w ik ex pr wd sn qu tb ts (r0, rq) h0 h1 h2 h3 (f_111_0_fi 0 fi) R) rfl ?_
    have h := Option.some.inj h; subst h
    exact hX_end rfl rfl rfl
  · skip
    have h := gcF c1 h
    refine hX_goM 3 (12) [some (.ref 0), some (.int x0), some (.int x1), none] [.int 60, .int 0, .int x1] rfl ?_
    refine hX_call (r' := zR_112) rfl (ct_112 x1 0 60) ?_
    refine hX_goM 1 (bif gCmp .ne (v_112 x1 0 60) 0 then 24 else 18) [some (.ref 0), some (.int x0), some (.int x1), none] [] rfl ?_
    refine hX_if (gCmp .ne (v_112 x1 0 60) 0) (fun c2 => ?_) (fun c2 => ?_)
    · skip
      have h := gcT c2 h
      refine hX_goM 4 (32) [some (.ref 0), some (.int x0), some (.int x1), none] [.ref 1, .ref 10] rfl ?_
      refine hX_call (r' := zR_10) rfl (ct_10_10_1) ?_
      refine hX_go 2 (37) [some (.ref 0), some (.int x0), some (.int x1), some (.int 0)] [] (hCm b (f_10_10_1_d b d) k s w ik ex pr wd sn qu tb ts (r0, rq) h0 h1 h2 h3 fi R) rfl ?_
      exact lt_75_0_37 N 0 (f_10_10_1_d b d) q h
    · skip
      have h := gcF c2 h
      refine hX_goM 2 (20) [some (.ref 0), some (.int x0), some (.int x1), none] [.int 0, .ref 0] rfl ?_
      refine hX_call (r' := zR_111) rfl (ct_111_0 0 rfl) ?_
      refine hX_go 0 (23) [some (.ref 0), some (.int x0), some (.int x1), none] [.int (v_111_0 0)] (hCm b d k s w ik ex pr wd sn qu tb ts (r0, rq) h0 h1 h2 h3 (f_111_0_fi 0 fi) R) rfl ?_
      have h := Option.some.inj h; subst h
      exact hX_end rfl rfl rfl


/-- UpOneSide.triedOff(II)I -/
def me_116_0 (N : Nat) (x0 : Int32) (x1 : Int32) (b : hB) (d : hB) : Option (Int32 × hB) :=
  (Option.bind (me_19_10 N x0 x1 (b.1, b.2.1, d.2.2)) fun q1 =>
  some (v_15_10 q1, q1))
set_option maxRecDepth 20000 in
set_option maxHeartbeats 4000000 in
theorem mt_116_0 {LL : Nat} {xs : Nat → Int32} {D : Nat} {b d k s w : hB} {ik ex pr wd : Int32} {sn : Nat → Int64} {qu tb : Nat → Int32} {ts : Int32} {r0 : Value} {rq : hRq} {h0 h1 h2 h3 : hSt} {fi : Nat → Int32} {R : List gE} (N : Nat) (x0 : Int32) (x1 : Int32) (q : Int32 × hB) (h : me_116_0 N x0 x1 b d = some q) : hM (gO LL xs) (D + 3) zR_116 [.ref 0, .int x0, .int x1] (hCm b d k s w ik ex pr wd sn qu tb ts (r0, rq) h0 h1 h2 h3 fi R) (some (.int q.1)) (hCm b q.2 k s w ik ex pr wd sn qu tb ts (r0, rq) h0 h1 h2 h3 fi R) := by
  unfold me_116_0 at h
  refine hX_go 0 0 [some (.ref 0), some (.int x0), some (.int x1)] [] (hCm b d k s w ik ex pr wd sn qu tb ts (r0, rq) h0 h1 h2 h3 fi R) rfl ?_
  refine hX_go 9 (19) [some (.ref 0), some (.int x0), some (.int x1)] [.ref 0, .ref 10] (hCm b (b.1, d.2) k s w ik ex pr wd sn qu tb ts (r0, rq) h0 h1 h2 h3 fi R) rfl ?_
  refine hX_go 7 (34) [some (.ref 0), some (.int x0), some (.int x1)] [.int x1, .int x0, .ref 10] (hCm b (b.1, b.2.1, d.2.2) k s w ik ex pr wd sn qu tb ts (r0, rq) h0 h1 h2 h3 fi R) rfl ?_
  revert h; refine gBindR fun q1 e1 h => ?_
  refine hX_call (r' := zR_19) rfl (mt_19_10 N x0 x1 q1 e1) ?_
  refine hX_go 2 (41) [some (.ref 0), some (.int x0), some (.int x1)] [.ref 10] (hCm b q1 k s w ik ex pr wd sn qu tb ts (r0, rq) h0 h1 h2 h3 fi R) rfl ?_
  refine hX_call (r' := zR_15) rfl (ct_15_10) ?_
  refine hX_goM 0 (44) [some (.ref 0), some (.int x0), some (.int x1)] [.int (v_15_10 q1)] rfl ?_
  have h := Option.some.inj h; subst h
  exact hX_end rfl rfl rfl

/-- UpOneSide.knot: the loop at 44 -/
def lp_76_0_44 (N : Nat) (y1 : Int32) (y2 : Int32) (b : hB) : Nat → Int32 → Int32 → Int32 → hB → Option (Int32 × Int32 × Int32 × hB)
  | 0, _, _, _, _ => none
  | n + 1, y3, y4, y5, d =>
    (bif gCmp .ge y5 ((2 * 9) + 1) then
      some (y3, y4, y5, d)
    else
      (Option.bind (me_116_0 N y1 y2 b (d.1, d.2.1, d.2.2.1, d.2.2.2.1, d.2.2.2.2.1, d.2.2.2.2.2.1, d.2.2.2.2.2.2.1, d.2.2.2.2.2.2.2.1, upd d.2.2.2.2.2.2.2.2.1 0 (bif gCmp .ne (y5 - y5 / 2 * 2) 0 then ((-(y5 + 1)) / 2) else (y5 / 2)), d.2.2.2.2.2.2.2.2.2)) fun q4 =>
      lp_76_0_44 N y1 y2 b n (bif gCmp .ge q4.1 y3 then y3 else q4.1) (bif gCmp .ge q4.1 y3 then y4 else (bif gCmp .ne (y5 - y5 / 2 * 2) 0 then ((-(y5 + 1)) / 2) else (y5 / 2))) (y5 + 1) q4.2))
set_option maxRecDepth 20000 in
set_option maxHeartbeats 4000000 in
theorem lt_76_0_44 {LL : Nat} {xs : Nat → Int32} {D N : Nat} {b k s w : hB} {ik ex pr wd : Int32} {sn : Nat → Int64} {qu tb : Nat → Int32} {ts : Int32} {r0 : Value} {rq : hRq} {h0 h1 h2 h3 : hSt} {fi : Nat → Int32} {R : List gE} {y1 : Int32} {y2 : Int32} {v : Option Value} {M' : List gE} : ∀ (n : Nat) (y3 : Int32) (y4 : Int32) (y5 : Int32) (d : hB) (q : Int32 × Int32 × Int32 × hB), lp_76_0_44 N y1 y2 b n y3 y4 y5 d = some q → (kk : hX (gO LL xs) (D + 4) zR_76 119 [some (.ref 0), some (.int y1), some (.int y2), some (.int q.1), some (.int q.2.1), some (.int q.2.2.1), none, none] [] (hCm b q.2.2.2 k s w ik ex pr wd sn qu tb ts (r0, rq) h0 h1 h2 h3 fi R) v M') → hX (gO LL xs) (D + 4) zR_76 44 [some (.ref 0), some (.int y1), some (.int y2), some (.int y3), some (.int y4), some (.int y5), none, none] [] (hCm b d k s w ik ex pr wd sn qu tb ts (r0, rq) h0 h1 h2 h3 fi R) v M' := by
  intro n
  induction n with
  | zero => intro y3 y4 y5 d q h; cases h
  | succ n ih =>
    intro y3 y4 y5 d q h kk
    rw [lp_76_0_44] at h
    refine hX_go 9 (bif gCmp .ge y5 ((2 * 9) + 1) then 119 else 58) [some (.ref 0), some (.int y1), some (.int y2), some (.int y3), some (.int y4), some (.int y5), none, none] [] (hCm b d k s w ik ex pr wd sn qu tb ts (r0, rq) h0 h1 h2 h3 fi R) rfl ?_
    refine hX_if (gCmp .ge y5 ((2 * 9) + 1)) (fun c1 => ?_) (fun c1 => ?_)
    · skip
      have h := gcT c1 h
      have h := Option.some.inj h; subst h
      exact kk
    · skip
      have h := gcF c1 h
      refine hX_goM 4 (bif gCmp .ne (y5 - y5 / 2 * 2) 0 then 72 else 65) [some (.ref 0), some (.int y1), some (.int y2), some (.int y3), some (.int y4), some (.int y5), none, none] [] rfl ?_
      refine hX_mrg 79 [some (.ref 0), some (.int y1), some (.int y2), some (.int y3), some (.int y4), some (.int y5), none, none] [.int (bif gCmp .ne (y5 - y5 / 2 * 2) 0 then ((-(y5 + 1)) / 2) else (y5 / 2))] (hCm b d k s w ik ex pr wd sn qu tb ts (r0, rq) h0 h1 h2 h3 fi R) (fun hk => ?_) ?_
      · skip
        refine hX_if (gCmp .ne (y5 - y5 / 2 * 2) 0) (fun c3 => ?_) (fun c3 => ?_)
        · skip
          refine hX_goM 6 (79) [some (.ref 0), some (.int y1), some (.int y2), some (.int y3), some (.int y4), some (.int y5), none, none] [.int ((-(y5 + 1)) / 2)] rfl ?_
          have hk := hk
          simp only [c3, cond_true, cond_false] at hk
          first | exact hk | (simp only [c3, cond_true, cond_false]; exact hk)
        · skip
          refine hX_goM 4 (79) [some (.ref 0), some (.int y1), some (.int y2), some (.int y3), some (.int y4), some (.int y5), none, none] [.int (y5 / 2)] rfl ?_
          have hk := hk
          simp only [c3, cond_true, cond_false] at hk
          first | exact hk | (simp only [c3, cond_true, cond_false]; exact hk)
      refine hX_go 9 (94) [some (.ref 0), some (.int y1), some (.int y2), some (.int y3), some (.int y4), some (.int y5), some (.int (bif gCmp .ne (y5 - y5 / 2 * 2) 0 then ((-(y5 + 1)) / 2) else (y5 / 2))), none] [.int y1, .ref 0] (hCm b (d.1, d.2.1, d.2.2.1, d.2.2.2.1, d.2.2.2.2.1, d.2.2.2.2.2.1, d.2.2.2.2.2.2.1, d.2.2.2.2.2.2.2.1, upd d.2.2.2.2.2.2.2.2.1 0 (bif gCmp .ne (y5 - y5 / 2 * 2) 0 then ((-(y5 + 1)) / 2) else (y5 / 2)), d.2.2.2.2.2.2.2.2.2) k s w ik ex pr wd sn qu tb ts (r0, rq) h0 h1 h2 h3 fi R) rfl ?_
      refine hX_goM 1 (95) [some (.ref 0), some (.int y1), some (.int y2), some (.int y3), some (.int y4), some (.int y5), some (.int (bif gCmp .ne (y5 - y5 / 2 * 2) 0 then ((-(y5 + 1)) / 2) else (y5 / 2))), none] [.int y2, .int y1, .ref 0] rfl ?_
      revert h; refine gBindR fun q4 e4 h => ?_
      refine hX_call (r' := zR_116) rfl (mt_116_0 N y1 y2 q4 e4) ?_
      refine hX_go 4 (bif gCmp .ge q4.1 y3 then 113 else 106) [some (.ref 0), some (.int y1), some (.int y2), some (.int y3), some (.int y4), some (.int y5), some (.int (bif gCmp .ne (y5 - y5 / 2 * 2) 0 then ((-(y5 + 1)) / 2) else (y5 / 2))), some (.int q4.1)] [] (hCm b q4.2 k s w ik ex pr wd sn qu tb ts (r0, rq) h0 h1 h2 h3 fi R) rfl ?_
      refine hX_mrg 113 [some (.ref 0), some (.int y1), some (.int y2), some (.int (bif gCmp .ge q4.1 y3 then y3 else q4.1)), some (.int (bif gCmp .ge q4.1 y3 then y4 else (bif gCmp .ne (y5 - y5 / 2 * 2) 0 then ((-(y5 + 1)) / 2) else (y5 / 2)))), some (.int y5), some (.int (bif gCmp .ne (y5 - y5 / 2 * 2) 0 then ((-(y5 + 1)) / 2) else (y5 / 2))), some (.int q4.1)] [] (hCm b q4.2 k s w ik ex pr wd sn qu tb ts (r0, rq) h0 h1 h2 h3 fi R) (fun hk => ?_) ?_
      · skip
        refine hX_if (gCmp .ge q4.1 y3) (fun c6 => ?_) (fun c6 => ?_)
        · skip
          have hk := hk
          simp only [c6, cond_true, cond_false] at hk
          first | exact hk | (simp only [c6, cond_true, cond_false]; exact hk)
        · skip
          refine hX_goM 4 (113) [some (.ref 0), some (.int y1), some (.int y2), some (.int q4.1), some (.int (bif gCmp .ne (y5 - y5 / 2 * 2) 0 then ((-(y5 + 1)) / 2) else (y5 / 2))), some (.int y5), some (.int (bif gCmp .ne (y5 - y5 / 2 * 2) 0 then ((-(y5 + 1)) / 2) else (y5 / 2))), some (.int q4.1)] [] rfl ?_
          have hk := hk
          simp only [c6, cond_true, cond_false] at hk
          first | exact hk | (simp only [c6, cond_true, cond_false]; exact hk)
      refine hX_goM 2 (44) [some (.ref 0), some (.int y1), some (.int y2), some (.int (bif gCmp .ge q4.1 y3 then y3 else q4.1)), some (.int (bif gCmp .ge q4.1 y3 then y4 else (bif gCmp .ne (y5 - y5 / 2 * 2) 0 then ((-(y5 + 1)) / 2) else (y5 / 2)))), some (.int (y5 + 1)), some (.int (bif gCmp .ne (y5 - y5 / 2 * 2) 0 then ((-(y5 + 1)) / 2) else (y5 / 2))), some (.int q4.1)] [] rfl ?_
      exact hX_wk (gLe_s (gLe_s (gLe_s (gLe_s (gLe_s (gLe_s (gLe_n (gLe_n gLe_0)))))))) (ih (bif gCmp .ge q4.1 y3 then y3 else q4.1) (bif gCmp .ge q4.1 y3 then y4 else (bif gCmp .ne (y5 - y5 / 2 * 2) 0 then ((-(y5 + 1)) / 2) else (y5 / 2))) (y5 + 1) q4.2 q h kk)

/-- UpOneSide.knot(II)I -/
def me_76_0 (N : Nat) (x0 : Int32) (x1 : Int32) (b : hB) (d : hB) (fi : Nat → Int32) : Option (Int32 × hB × (Nat → Int32)) :=
  (bif gCmp .ne (v_113_0 x0 b) 0 then
    some (v_111_0 0, d, f_111_0_fi 0 fi)
  else
    (bif gCmp .ne (v_112 x1 0 20) 0 then
      (Option.bind (lp_76_0_44 N x0 x1 b N 61 0 0 (f_10_10_1_d b d)) fun q3 =>
      some (q3.2.1, q3.2.2.2, fi))
    else
      some (v_111_0 0, d, f_111_0_fi 0 fi)))
set_option maxRecDepth 20000 in
set_option maxHeartbeats 4000000 in
theorem mt_76_0 {LL : Nat} {xs : Nat → Int32} {D : Nat} {b d k s w : hB} {ik ex pr wd : Int32} {sn : Nat → Int64} {qu tb : Nat → Int32} {ts : Int32} {r0 : Value} {rq : hRq} {h0 h1 h2 h3 : hSt} {fi : Nat → Int32} {R : List gE} (N : Nat) (x0 : Int32) (x1 : Int32) (q : Int32 × hB × (Nat → Int32)) (h : me_76_0 N x0 x1 b d fi = some q) : hM (gO LL xs) (D + 4) zR_76 [.ref 0, .int x0, .int x1] (hCm b d k s w ik ex pr wd sn qu tb ts (r0, rq) h0 h1 h2 h3 fi R) (some (.int q.1)) (hCm b q.2.1 k s w ik ex pr wd sn qu tb ts (r0, rq) h0 h1 h2 h3 q.2.2 R) := by
  unfold me_76_0 at h
  refine hX_go 0 0 [some (.ref 0), some (.int x0), some (.int x1), none, none, none, none, none] [] (hCm b d k s w ik ex pr wd sn qu tb ts (r0, rq) h0 h1 h2 h3 fi R) rfl ?_
  refine hX_go 2 (2) [some (.ref 0), some (.int x0), some (.int x1), none, none, none, none, none] [.int x0, .ref 0] (hCm b d k s w ik ex pr wd sn qu tb ts (r0, rq) h0 h1 h2 h3 fi R) rfl ?_
  refine hX_call (r' := zR_113) rfl (ct_113_0 x0) ?_
  refine hX_goM 1 (bif gCmp .ne (v_113_0 x0 b) 0 then 18 else 8) [some (.ref 0), some (.int x0), some (.int x1), none, none, none, none, none] [] rfl ?_
  refine hX_if (gCmp .ne (v_113_0 x0 b) 0) (fun c1 => ?_) (fun c1 => ?_)
  · skip
    have h := gcT c1 h
    refine hX_goM 2 (20) [some (.ref 0), some (.int x0), some (.int x1), none, none, none, none, none] [.int 0, .ref 0] rfl ?_
    refine hX_call (r' := zR_111) rfl (ct_111_0 0 rfl) ?_
    refine hX_go 0 (23) [some (.ref 0), some (.int x0), some (.int x1), none, none, none, none, none] [.int (v_111_0 0)] (hCm b d k s w ik ex pr wd sn qu tb ts (r0, rq) h0 h1 h2 h3 (f_111_0_fi 0 fi) R) rfl ?_
    have h := Option.some.inj h; subst h
    exact hX_end rfl rfl rfl
  · skip
    have h := gcF c1 h
    refine hX_goM 3 (12) [some (.ref 0), some (.int x0), some (.int x1), none, none, none, none, none] [.int 20, .int 0, .int x1] rfl ?_
    refine hX_call (r' := zR_112) rfl (ct_112 x1 0 20) ?_
    refine hX_goM 1 (bif gCmp .ne (v_112 x1 0 20) 0 then 24 else 18) [some (.ref 0), some (.int x0), some (.int x1), none, none, none, none, none] [] rfl ?_
    refine hX_if (gCmp .ne (v_112 x1 0 20) 0) (fun c2 => ?_) (fun c2 => ?_)
    · skip
      have h := gcT c2 h
      refine hX_goM 4 (32) [some (.ref 0), some (.int x0), some (.int x1), none, none, none, none, none] [.ref 1, .ref 10] rfl ?_
      refine hX_call (r' := zR_10) rfl (ct_10_10_1) ?_
      refine hX_go 6 (44) [some (.ref 0), some (.int x0), some (.int x1), some (.int 61), some (.int 0), some (.int 0), none, none] [] (hCm b (f_10_10_1_d b d) k s w ik ex pr wd sn qu tb ts (r0, rq) h0 h1 h2 h3 fi R) rfl ?_
      revert h; refine gBindR fun q3 e3 h => ?_
      refine lt_76_0_44 N 61 0 0 (f_10_10_1_d b d) q3 e3 ?_
      refine hX_go 1 (121) [some (.ref 0), some (.int x0), some (.int x1), some (.int q3.1), some (.int q3.2.1), some (.int q3.2.2.1), none, none] [.int q3.2.1] (hCm b q3.2.2.2 k s w ik ex pr wd sn qu tb ts (r0, rq) h0 h1 h2 h3 fi R) rfl ?_
      have h := Option.some.inj h; subst h
      exact hX_end rfl rfl rfl
    · skip
      have h := gcF c2 h
      refine hX_goM 2 (20) [some (.ref 0), some (.int x0), some (.int x1), none, none, none, none, none] [.int 0, .ref 0] rfl ?_
      refine hX_call (r' := zR_111) rfl (ct_111_0 0 rfl) ?_
      refine hX_go 0 (23) [some (.ref 0), some (.int x0), some (.int x1), none, none, none, none, none] [.int (v_111_0 0)] (hCm b d k s w ik ex pr wd sn qu tb ts (r0, rq) h0 h1 h2 h3 (f_111_0_fi 0 fi) R) rfl ?_
      have h := Option.some.inj h; subst h
      exact hX_end rfl rfl rfl

/-- UpOneSide.kindFor: the loop at 44 -/
def lp_77_0_44 (N : Nat) (y1 : Int32) (y2 : Int32) (b : hB) : Nat → Int32 → Int32 → Int32 → hB → Option (Int32 × Int32 × Int32 × hB)
  | 0, _, _, _, _ => none
  | n + 1, y3, y4, y5, d =>
    (bif gCmp .ge y5 7 then
      some (y3, y4, y5, d)
    else
      (bif gIn y1 8 then (Option.bind (me_116_0 N y1 y2 b (d.1, d.2.1, d.2.2.1, d.2.2.2.1, d.2.2.2.2.1, upd d.2.2.2.2.2.1 (Int32.toNatClampNeg y1) y5, d.2.2.2.2.2.2)) fun q3 =>
      lp_77_0_44 N y1 y2 b n (bif gCmp .ge q3.1 y3 then y3 else q3.1) (bif gCmp .ge q3.1 y3 then y4 else y5) (y5 + 1) q3.2) else none))
set_option maxRecDepth 20000 in
set_option maxHeartbeats 4000000 in
theorem lt_77_0_44 {LL : Nat} {xs : Nat → Int32} {D N : Nat} {b k s w : hB} {ik ex pr wd : Int32} {sn : Nat → Int64} {qu tb : Nat → Int32} {ts : Int32} {r0 : Value} {rq : hRq} {h0 h1 h2 h3 : hSt} {fi : Nat → Int32} {R : List gE} {y1 : Int32} {y2 : Int32} {v : Option Value} {M' : List gE} : ∀ (n : Nat) (y3 : Int32) (y4 : Int32) (y5 : Int32) (d : hB) (q : Int32 × Int32 × Int32 × hB), lp_77_0_44 N y1 y2 b n y3 y4 y5 d = some q → (kk : hX (gO LL xs) (D + 4) zR_77 89 [some (.ref 0), some (.int y1), some (.int y2), some (.int q.1), some (.int q.2.1), some (.int q.2.2.1), none] [] (hCm b q.2.2.2 k s w ik ex pr wd sn qu tb ts (r0, rq) h0 h1 h2 h3 fi R) v M') → hX (gO LL xs) (D + 4) zR_77 44 [some (.ref 0), some (.int y1), some (.int y2), some (.int y3), some (.int y4), some (.int y5), none] [] (hCm b d k s w ik ex pr wd sn qu tb ts (r0, rq) h0 h1 h2 h3 fi R) v M' := by
  intro n
  induction n with
  | zero => intro y3 y4 y5 d q h; cases h
  | succ n ih =>
    intro y3 y4 y5 d q h kk
    rw [lp_77_0_44] at h
    refine hX_go 3 (bif gCmp .ge y5 7 then 89 else 51) [some (.ref 0), some (.int y1), some (.int y2), some (.int y3), some (.int y4), some (.int y5), none] [] (hCm b d k s w ik ex pr wd sn qu tb ts (r0, rq) h0 h1 h2 h3 fi R) rfl ?_
    refine hX_if (gCmp .ge y5 7) (fun c1 => ?_) (fun c1 => ?_)
    · skip
      have h := gcT c1 h
      have h := Option.some.inj h; subst h
      exact kk
    · skip
      have h := gcF c1 h
      refine hX_goM 5 (61) [some (.ref 0), some (.int y1), some (.int y2), some (.int y3), some (.int y4), some (.int y5), none] [.int y5, .int y1, .ref 11] rfl ?_
      revert h; refine gCondR fun g2 h => ?_
      refine hX_g (gIn y1 8) 62 [some (.ref 0), some (.int y1), some (.int y2), some (.int y3), some (.int y4), some (.int y5), none] [] (hCm b (d.1, d.2.1, d.2.2.1, d.2.2.2.1, d.2.2.2.2.1, upd d.2.2.2.2.2.1 (Int32.toNatClampNeg y1) y5, d.2.2.2.2.2.2) k s w ik ex pr wd sn qu tb ts (r0, rq) h0 h1 h2 h3 fi R) rfl g2 ?_
      refine hX_goM 3 (65) [some (.ref 0), some (.int y1), some (.int y2), some (.int y3), some (.int y4), some (.int y5), none] [.int y2, .int y1, .ref 0] rfl ?_
      revert h; refine gBindR fun q3 e3 h => ?_
      refine hX_call (r' := zR_116) rfl (mt_116_0 N y1 y2 q3 e3) ?_
      refine hX_go 4 (bif gCmp .ge q3.1 y3 then 83 else 76) [some (.ref 0), some (.int y1), some (.int y2), some (.int y3), some (.int y4), some (.int y5), some (.int q3.1)] [] (hCm b q3.2 k s w ik ex pr wd sn qu tb ts (r0, rq) h0 h1 h2 h3 fi R) rfl ?_
      refine hX_mrg 83 [some (.ref 0), some (.int y1), some (.int y2), some (.int (bif gCmp .ge q3.1 y3 then y3 else q3.1)), some (.int (bif gCmp .ge q3.1 y3 then y4 else y5)), some (.int y5), some (.int q3.1)] [] (hCm b q3.2 k s w ik ex pr wd sn qu tb ts (r0, rq) h0 h1 h2 h3 fi R) (fun hk => ?_) ?_
      · skip
        refine hX_if (gCmp .ge q3.1 y3) (fun c5 => ?_) (fun c5 => ?_)
        · skip
          have hk := hk
          simp only [c5, cond_true, cond_false] at hk
          first | exact hk | (simp only [c5, cond_true, cond_false]; exact hk)
        · skip
          refine hX_goM 4 (83) [some (.ref 0), some (.int y1), some (.int y2), some (.int q3.1), some (.int y5), some (.int y5), some (.int q3.1)] [] rfl ?_
          have hk := hk
          simp only [c5, cond_true, cond_false] at hk
          first | exact hk | (simp only [c5, cond_true, cond_false]; exact hk)
      refine hX_goM 2 (44) [some (.ref 0), some (.int y1), some (.int y2), some (.int (bif gCmp .ge q3.1 y3 then y3 else q3.1)), some (.int (bif gCmp .ge q3.1 y3 then y4 else y5)), some (.int (y5 + 1)), some (.int q3.1)] [] rfl ?_
      exact hX_wk (gLe_s (gLe_s (gLe_s (gLe_s (gLe_s (gLe_s (gLe_n gLe_0))))))) (ih (bif gCmp .ge q3.1 y3 then y3 else q3.1) (bif gCmp .ge q3.1 y3 then y4 else y5) (y5 + 1) q3.2 q h kk)

/-- UpOneSide.kindFor(II)I -/
def me_77_0 (N : Nat) (x0 : Int32) (x1 : Int32) (b : hB) (d : hB) (fi : Nat → Int32) : Option (Int32 × hB × (Nat → Int32)) :=
  (bif gCmp .ne (v_113_0 x0 b) 0 then
    some (v_111_0 0, d, f_111_0_fi 0 fi)
  else
    (bif gCmp .ne (v_112 x1 0 20) 0 then
      (Option.bind (lp_77_0_44 N x0 x1 b N 61 0 0 (f_10_10_1_d b d)) fun q3 =>
      some (q3.2.1, q3.2.2.2, fi))
    else
      some (v_111_0 0, d, f_111_0_fi 0 fi)))
set_option maxRecDepth 20000 in
set_option maxHeartbeats 4000000 in
theorem mt_77_0 {LL : Nat} {xs : Nat → Int32} {D : Nat} {b d k s w : hB} {ik ex pr wd : Int32} {sn : Nat → Int64} {qu tb : Nat → Int32} {ts : Int32} {r0 : Value} {rq : hRq} {h0 h1 h2 h3 : hSt} {fi : Nat → Int32} {R : List gE} (N : Nat) (x0 : Int32) (x1 : Int32) (q : Int32 × hB × (Nat → Int32)) (h : me_77_0 N x0 x1 b d fi = some q) : hM (gO LL xs) (D + 4) zR_77 [.ref 0, .int x0, .int x1] (hCm b d k s w ik ex pr wd sn qu tb ts (r0, rq) h0 h1 h2 h3 fi R) (some (.int q.1)) (hCm b q.2.1 k s w ik ex pr wd sn qu tb ts (r0, rq) h0 h1 h2 h3 q.2.2 R) := by
  unfold me_77_0 at h
  refine hX_go 0 0 [some (.ref 0), some (.int x0), some (.int x1), none, none, none, none] [] (hCm b d k s w ik ex pr wd sn qu tb ts (r0, rq) h0 h1 h2 h3 fi R) rfl ?_
  refine hX_go 2 (2) [some (.ref 0), some (.int x0), some (.int x1), none, none, none, none] [.int x0, .ref 0] (hCm b d k s w ik ex pr wd sn qu tb ts (r0, rq) h0 h1 h2 h3 fi R) rfl ?_
  refine hX_call (r' := zR_113) rfl (ct_113_0 x0) ?_
  refine hX_goM 1 (bif gCmp .ne (v_113_0 x0 b) 0 then 18 else 8) [some (.ref 0), some (.int x0), some (.int x1), none, none, none, none] [] rfl ?_
  refine hX_if (gCmp .ne (v_113_0 x0 b) 0) (fun c1 => ?_) (fun c1 => ?_)
  · skip
    have h := gcT c1 h
    refine hX_goM 2 (20) [some (.ref 0), some (.int x0), some (.int x1), none, none, none, none] [.int 0, .ref 0] rfl ?_
    refine hX_call (r' := zR_111) rfl (ct_111_0 0 rfl) ?_
    refine hX_go 0 (23) [some (.ref 0), some (.int x0), some (.int x1), none, none, none, none] [.int (v_111_0 0)] (hCm b d k s w ik ex pr wd sn qu tb ts (r0, rq) h0 h1 h2 h3 (f_111_0_fi 0 fi) R) rfl ?_
    have h := Option.some.inj h; subst h
    exact hX_end rfl rfl rfl
  · skip
    have h := gcF c1 h
    refine hX_goM 3 (12) [some (.ref 0), some (.int x0), some (.int x1), none, none, none, none] [.int 20, .int 0, .int x1] rfl ?_
    refine hX_call (r' := zR_112) rfl (ct_112 x1 0 20) ?_
    refine hX_goM 1 (bif gCmp .ne (v_112 x1 0 20) 0 then 24 else 18) [some (.ref 0), some (.int x0), some (.int x1), none, none, none, none] [] rfl ?_
    refine hX_if (gCmp .ne (v_112 x1 0 20) 0) (fun c2 => ?_) (fun c2 => ?_)
    · skip
      have h := gcT c2 h
      refine hX_goM 4 (32) [some (.ref 0), some (.int x0), some (.int x1), none, none, none, none] [.ref 1, .ref 10] rfl ?_
      refine hX_call (r' := zR_10) rfl (ct_10_10_1) ?_
      refine hX_go 6 (44) [some (.ref 0), some (.int x0), some (.int x1), some (.int 61), some (.int 0), some (.int 0), none] [] (hCm b (f_10_10_1_d b d) k s w ik ex pr wd sn qu tb ts (r0, rq) h0 h1 h2 h3 fi R) rfl ?_
      revert h; refine gBindR fun q3 e3 h => ?_
      refine lt_77_0_44 N 61 0 0 (f_10_10_1_d b d) q3 e3 ?_
      refine hX_go 1 (91) [some (.ref 0), some (.int x0), some (.int x1), some (.int q3.1), some (.int q3.2.1), some (.int q3.2.2.1), none] [.int q3.2.1] (hCm b q3.2.2.2 k s w ik ex pr wd sn qu tb ts (r0, rq) h0 h1 h2 h3 fi R) rfl ?_
      have h := Option.some.inj h; subst h
      exact hX_end rfl rfl rfl
    · skip
      have h := gcF c2 h
      refine hX_goM 2 (20) [some (.ref 0), some (.int x0), some (.int x1), none, none, none, none] [.int 0, .ref 0] rfl ?_
      refine hX_call (r' := zR_111) rfl (ct_111_0 0 rfl) ?_
      refine hX_go 0 (23) [some (.ref 0), some (.int x0), some (.int x1), none, none, none, none] [.int (v_111_0 0)] (hCm b d k s w ik ex pr wd sn qu tb ts (r0, rq) h0 h1 h2 h3 (f_111_0_fi 0 fi) R) rfl ?_
      have h := Option.some.inj h; subst h
      exact hX_end rfl rfl rfl

/-- UpOneSide$Blind.takeOver(LUpOneSide$Blind;)V -/
def f_10_31_1_s (b : hB) (s : hB) : hB := (b.1, b.2.1, b.2.2.1, b.2.2.2.1, b.2.2.2.2.1, va_cpy b.2.2.2.2.2.1 s.2.2.2.2.2.1 0 0 8, va_cpy b.2.2.2.2.2.2.1 s.2.2.2.2.2.2.1 0 0 8, va_cpy b.2.2.2.2.2.2.2.1 s.2.2.2.2.2.2.2.1 0 0 8, va_cpy b.2.2.2.2.2.2.2.2.1 s.2.2.2.2.2.2.2.2.1 0 0 6, va_cpy b.2.2.2.2.2.2.2.2.2.1 s.2.2.2.2.2.2.2.2.2.1 0 0 4, va_cpy b.2.2.2.2.2.2.2.2.2.2.1 s.2.2.2.2.2.2.2.2.2.2.1 0 0 61, va_cpy b.2.2.2.2.2.2.2.2.2.2.2.1 s.2.2.2.2.2.2.2.2.2.2.2.1 0 0 24, va_cpy b.2.2.2.2.2.2.2.2.2.2.2.2 s.2.2.2.2.2.2.2.2.2.2.2.2 0 0 10)
set_option maxRecDepth 20000 in
set_option maxHeartbeats 1000000 in
theorem ct_10_31_1 {LL : Nat} {xs : Nat → Int32} {D : Nat} {b d k s w : hB} {ik ex pr wd : Int32} {sn : Nat → Int64} {qu tb : Nat → Int32} {ts : Int32} {r0 : Value} {rq : hRq} {h0 h1 h2 h3 : hSt} {fi : Nat → Int32} {R : List gE} : hM (gO LL xs) (D + 1) zR_10 [.ref 31, .ref 1] (hCm b d k s w ik ex pr wd sn qu tb ts (r0, rq) h0 h1 h2 h3 fi R) none (hCm b d k (f_10_31_1_s b s) w ik ex pr wd sn qu tb ts (r0, rq) h0 h1 h2 h3 fi R) := by
  refine hX_go 0 0 [some (.ref 31), some (.ref 1)] [] (hCm b d k s w ik ex pr wd sn qu tb ts (r0, rq) h0 h1 h2 h3 fi R) rfl ?_
  refine hX_go 9 (17) [some (.ref 31), some (.ref 1)] [.ref 31] (hCm b d k (b.1, b.2.1, s.2.2) w ik ex pr wd sn qu tb ts (r0, rq) h0 h1 h2 h3 fi R) rfl ?_
  refine hX_go 9 (34) [some (.ref 31), some (.ref 1)] [.ref 1, .ref 31] (hCm b d k (b.1, b.2.1, b.2.2.1, b.2.2.2.1, s.2.2.2.2) w ik ex pr wd sn qu tb ts (r0, rq) h0 h1 h2 h3 fi R) rfl ?_
  refine hX_go 9 (52) [some (.ref 31), some (.ref 1)] [.int 8, .int 0, .ref 32, .int 0, .ref 2] (hCm b d k (b.1, b.2.1, b.2.2.1, b.2.2.2.1, b.2.2.2.2.1, s.2.2.2.2.2) w ik ex pr wd sn qu tb ts (r0, rq) h0 h1 h2 h3 fi R) rfl ?_
  refine hX_go 9 (70) [some (.ref 31), some (.ref 1)] [] (hCm b d k (b.1, b.2.1, b.2.2.1, b.2.2.2.1, b.2.2.2.2.1, va_cpy b.2.2.2.2.2.1 s.2.2.2.2.2.1 0 0 8, va_cpy b.2.2.2.2.2.2.1 s.2.2.2.2.2.2.1 0 0 8, s.2.2.2.2.2.2.2) w ik ex pr wd sn qu tb ts (r0, rq) h0 h1 h2 h3 fi R) rfl ?_
  refine hX_go 9 (86) [some (.ref 31), some (.ref 1)] [.ref 1] (hCm b d k (b.1, b.2.1, b.2.2.1, b.2.2.2.1, b.2.2.2.2.1, va_cpy b.2.2.2.2.2.1 s.2.2.2.2.2.1 0 0 8, va_cpy b.2.2.2.2.2.2.1 s.2.2.2.2.2.2.1 0 0 8, va_cpy b.2.2.2.2.2.2.2.1 s.2.2.2.2.2.2.2.1 0 0 8, s.2.2.2.2.2.2.2.2) w ik ex pr wd sn qu tb ts (r0, rq) h0 h1 h2 h3 fi R) rfl ?_
  refine hX_go 9 (103) [some (.ref 31), some (.ref 1)] [] (hCm b d k (b.1, b.2.1, b.2.2.1, b.2.2.2.1, b.2.2.2.2.1, va_cpy b.2.2.2.2.2.1 s.2.2.2.2.2.1 0 0 8, va_cpy b.2.2.2.2.2.2.1 s.2.2.2.2.2.2.1 0 0 8, va_cpy b.2.2.2.2.2.2.2.1 s.2.2.2.2.2.2.2.1 0 0 8, va_cpy b.2.2.2.2.2.2.2.2.1 s.2.2.2.2.2.2.2.2.1 0 0 6, s.2.2.2.2.2.2.2.2.2) w ik ex pr wd sn qu tb ts (r0, rq) h0 h1 h2 h3 fi R) rfl ?_
  refine hX_go 9 (118) [some (.ref 31), some (.ref 1)] [.ref 1] (hCm b d k (b.1, b.2.1, b.2.2.1, b.2.2.2.1, b.2.2.2.2.1, va_cpy b.2.2.2.2.2.1 s.2.2.2.2.2.1 0 0 8, va_cpy b.2.2.2.2.2.2.1 s.2.2.2.2.2.2.1 0 0 8, va_cpy b.2.2.2.2.2.2.2.1 s.2.2.2.2.2.2.2.1 0 0 8, va_cpy b.2.2.2.2.2.2.2.2.1 s.2.2.2.2.2.2.2.2.1 0 0 6, va_cpy b.2.2.2.2.2.2.2.2.2.1 s.2.2.2.2.2.2.2.2.2.1 0 0 4, s.2.2.2.2.2.2.2.2.2.2) w ik ex pr wd sn qu tb ts (r0, rq) h0 h1 h2 h3 fi R) rfl ?_
  refine hX_go 9 (136) [some (.ref 31), some (.ref 1)] [.ref 8] (hCm b d k (b.1, b.2.1, b.2.2.1, b.2.2.2.1, b.2.2.2.2.1, va_cpy b.2.2.2.2.2.1 s.2.2.2.2.2.1 0 0 8, va_cpy b.2.2.2.2.2.2.1 s.2.2.2.2.2.2.1 0 0 8, va_cpy b.2.2.2.2.2.2.2.1 s.2.2.2.2.2.2.2.1 0 0 8, va_cpy b.2.2.2.2.2.2.2.2.1 s.2.2.2.2.2.2.2.2.1 0 0 6, va_cpy b.2.2.2.2.2.2.2.2.2.1 s.2.2.2.2.2.2.2.2.2.1 0 0 4, va_cpy b.2.2.2.2.2.2.2.2.2.2.1 s.2.2.2.2.2.2.2.2.2.2.1 0 0 61, s.2.2.2.2.2.2.2.2.2.2.2) w ik ex pr wd sn qu tb ts (r0, rq) h0 h1 h2 h3 fi R) rfl ?_
  refine hX_go 9 (152) [some (.ref 31), some (.ref 1)] [.int 0, .ref 9] (hCm b d k (b.1, b.2.1, b.2.2.1, b.2.2.2.1, b.2.2.2.2.1, va_cpy b.2.2.2.2.2.1 s.2.2.2.2.2.1 0 0 8, va_cpy b.2.2.2.2.2.2.1 s.2.2.2.2.2.2.1 0 0 8, va_cpy b.2.2.2.2.2.2.2.1 s.2.2.2.2.2.2.2.1 0 0 8, va_cpy b.2.2.2.2.2.2.2.2.1 s.2.2.2.2.2.2.2.2.1 0 0 6, va_cpy b.2.2.2.2.2.2.2.2.2.1 s.2.2.2.2.2.2.2.2.2.1 0 0 4, va_cpy b.2.2.2.2.2.2.2.2.2.2.1 s.2.2.2.2.2.2.2.2.2.2.1 0 0 61, va_cpy b.2.2.2.2.2.2.2.2.2.2.2.1 s.2.2.2.2.2.2.2.2.2.2.2.1 0 0 24, s.2.2.2.2.2.2.2.2.2.2.2.2) w ik ex pr wd sn qu tb ts (r0, rq) h0 h1 h2 h3 fi R) rfl ?_
  refine hX_go 5 (162) [some (.ref 31), some (.ref 1)] [] (hCm b d k (b.1, b.2.1, b.2.2.1, b.2.2.2.1, b.2.2.2.2.1, va_cpy b.2.2.2.2.2.1 s.2.2.2.2.2.1 0 0 8, va_cpy b.2.2.2.2.2.2.1 s.2.2.2.2.2.2.1 0 0 8, va_cpy b.2.2.2.2.2.2.2.1 s.2.2.2.2.2.2.2.1 0 0 8, va_cpy b.2.2.2.2.2.2.2.2.1 s.2.2.2.2.2.2.2.2.1 0 0 6, va_cpy b.2.2.2.2.2.2.2.2.2.1 s.2.2.2.2.2.2.2.2.2.1 0 0 4, va_cpy b.2.2.2.2.2.2.2.2.2.2.1 s.2.2.2.2.2.2.2.2.2.2.1 0 0 61, va_cpy b.2.2.2.2.2.2.2.2.2.2.2.1 s.2.2.2.2.2.2.2.2.2.2.2.1 0 0 24, va_cpy b.2.2.2.2.2.2.2.2.2.2.2.2 s.2.2.2.2.2.2.2.2.2.2.2.2 0 0 10) w ik ex pr wd sn qu tb ts (r0, rq) h0 h1 h2 h3 fi R) rfl ?_
  exact hX_end rfl (rfl) (rfl)

/-- UpOneSide$Blind.takeOver(LUpOneSide$Blind;)V -/
def f_10_40_1_w (b : hB) (w : hB) : hB := (b.1, b.2.1, b.2.2.1, b.2.2.2.1, b.2.2.2.2.1, va_cpy b.2.2.2.2.2.1 w.2.2.2.2.2.1 0 0 8, va_cpy b.2.2.2.2.2.2.1 w.2.2.2.2.2.2.1 0 0 8, va_cpy b.2.2.2.2.2.2.2.1 w.2.2.2.2.2.2.2.1 0 0 8, va_cpy b.2.2.2.2.2.2.2.2.1 w.2.2.2.2.2.2.2.2.1 0 0 6, va_cpy b.2.2.2.2.2.2.2.2.2.1 w.2.2.2.2.2.2.2.2.2.1 0 0 4, va_cpy b.2.2.2.2.2.2.2.2.2.2.1 w.2.2.2.2.2.2.2.2.2.2.1 0 0 61, va_cpy b.2.2.2.2.2.2.2.2.2.2.2.1 w.2.2.2.2.2.2.2.2.2.2.2.1 0 0 24, va_cpy b.2.2.2.2.2.2.2.2.2.2.2.2 w.2.2.2.2.2.2.2.2.2.2.2.2 0 0 10)
set_option maxRecDepth 20000 in
set_option maxHeartbeats 1000000 in
theorem ct_10_40_1 {LL : Nat} {xs : Nat → Int32} {D : Nat} {b d k s w : hB} {ik ex pr wd : Int32} {sn : Nat → Int64} {qu tb : Nat → Int32} {ts : Int32} {r0 : Value} {rq : hRq} {h0 h1 h2 h3 : hSt} {fi : Nat → Int32} {R : List gE} : hM (gO LL xs) (D + 1) zR_10 [.ref 40, .ref 1] (hCm b d k s w ik ex pr wd sn qu tb ts (r0, rq) h0 h1 h2 h3 fi R) none (hCm b d k s (f_10_40_1_w b w) ik ex pr wd sn qu tb ts (r0, rq) h0 h1 h2 h3 fi R) := by
  refine hX_go 0 0 [some (.ref 40), some (.ref 1)] [] (hCm b d k s w ik ex pr wd sn qu tb ts (r0, rq) h0 h1 h2 h3 fi R) rfl ?_
  refine hX_go 9 (17) [some (.ref 40), some (.ref 1)] [.ref 40] (hCm b d k s (b.1, b.2.1, w.2.2) ik ex pr wd sn qu tb ts (r0, rq) h0 h1 h2 h3 fi R) rfl ?_
  refine hX_go 9 (34) [some (.ref 40), some (.ref 1)] [.ref 1, .ref 40] (hCm b d k s (b.1, b.2.1, b.2.2.1, b.2.2.2.1, w.2.2.2.2) ik ex pr wd sn qu tb ts (r0, rq) h0 h1 h2 h3 fi R) rfl ?_
  refine hX_go 9 (52) [some (.ref 40), some (.ref 1)] [.int 8, .int 0, .ref 41, .int 0, .ref 2] (hCm b d k s (b.1, b.2.1, b.2.2.1, b.2.2.2.1, b.2.2.2.2.1, w.2.2.2.2.2) ik ex pr wd sn qu tb ts (r0, rq) h0 h1 h2 h3 fi R) rfl ?_
  refine hX_go 9 (70) [some (.ref 40), some (.ref 1)] [] (hCm b d k s (b.1, b.2.1, b.2.2.1, b.2.2.2.1, b.2.2.2.2.1, va_cpy b.2.2.2.2.2.1 w.2.2.2.2.2.1 0 0 8, va_cpy b.2.2.2.2.2.2.1 w.2.2.2.2.2.2.1 0 0 8, w.2.2.2.2.2.2.2) ik ex pr wd sn qu tb ts (r0, rq) h0 h1 h2 h3 fi R) rfl ?_
  refine hX_go 9 (86) [some (.ref 40), some (.ref 1)] [.ref 1] (hCm b d k s (b.1, b.2.1, b.2.2.1, b.2.2.2.1, b.2.2.2.2.1, va_cpy b.2.2.2.2.2.1 w.2.2.2.2.2.1 0 0 8, va_cpy b.2.2.2.2.2.2.1 w.2.2.2.2.2.2.1 0 0 8, va_cpy b.2.2.2.2.2.2.2.1 w.2.2.2.2.2.2.2.1 0 0 8, w.2.2.2.2.2.2.2.2) ik ex pr wd sn qu tb ts (r0, rq) h0 h1 h2 h3 fi R) rfl ?_
  refine hX_go 9 (103) [some (.ref 40), some (.ref 1)] [] (hCm b d k s (b.1, b.2.1, b.2.2.1, b.2.2.2.1, b.2.2.2.2.1, va_cpy b.2.2.2.2.2.1 w.2.2.2.2.2.1 0 0 8, va_cpy b.2.2.2.2.2.2.1 w.2.2.2.2.2.2.1 0 0 8, va_cpy b.2.2.2.2.2.2.2.1 w.2.2.2.2.2.2.2.1 0 0 8, va_cpy b.2.2.2.2.2.2.2.2.1 w.2.2.2.2.2.2.2.2.1 0 0 6, w.2.2.2.2.2.2.2.2.2) ik ex pr wd sn qu tb ts (r0, rq) h0 h1 h2 h3 fi R) rfl ?_
  refine hX_go 9 (118) [some (.ref 40), some (.ref 1)] [.ref 1] (hCm b d k s (b.1, b.2.1, b.2.2.1, b.2.2.2.1, b.2.2.2.2.1, va_cpy b.2.2.2.2.2.1 w.2.2.2.2.2.1 0 0 8, va_cpy b.2.2.2.2.2.2.1 w.2.2.2.2.2.2.1 0 0 8, va_cpy b.2.2.2.2.2.2.2.1 w.2.2.2.2.2.2.2.1 0 0 8, va_cpy b.2.2.2.2.2.2.2.2.1 w.2.2.2.2.2.2.2.2.1 0 0 6, va_cpy b.2.2.2.2.2.2.2.2.2.1 w.2.2.2.2.2.2.2.2.2.1 0 0 4, w.2.2.2.2.2.2.2.2.2.2) ik ex pr wd sn qu tb ts (r0, rq) h0 h1 h2 h3 fi R) rfl ?_
  refine hX_go 9 (136) [some (.ref 40), some (.ref 1)] [.ref 8] (hCm b d k s (b.1, b.2.1, b.2.2.1, b.2.2.2.1, b.2.2.2.2.1, va_cpy b.2.2.2.2.2.1 w.2.2.2.2.2.1 0 0 8, va_cpy b.2.2.2.2.2.2.1 w.2.2.2.2.2.2.1 0 0 8, va_cpy b.2.2.2.2.2.2.2.1 w.2.2.2.2.2.2.2.1 0 0 8, va_cpy b.2.2.2.2.2.2.2.2.1 w.2.2.2.2.2.2.2.2.1 0 0 6, va_cpy b.2.2.2.2.2.2.2.2.2.1 w.2.2.2.2.2.2.2.2.2.1 0 0 4, va_cpy b.2.2.2.2.2.2.2.2.2.2.1 w.2.2.2.2.2.2.2.2.2.2.1 0 0 61, w.2.2.2.2.2.2.2.2.2.2.2) ik ex pr wd sn qu tb ts (r0, rq) h0 h1 h2 h3 fi R) rfl ?_
  refine hX_go 9 (152) [some (.ref 40), some (.ref 1)] [.int 0, .ref 9] (hCm b d k s (b.1, b.2.1, b.2.2.1, b.2.2.2.1, b.2.2.2.2.1, va_cpy b.2.2.2.2.2.1 w.2.2.2.2.2.1 0 0 8, va_cpy b.2.2.2.2.2.2.1 w.2.2.2.2.2.2.1 0 0 8, va_cpy b.2.2.2.2.2.2.2.1 w.2.2.2.2.2.2.2.1 0 0 8, va_cpy b.2.2.2.2.2.2.2.2.1 w.2.2.2.2.2.2.2.2.1 0 0 6, va_cpy b.2.2.2.2.2.2.2.2.2.1 w.2.2.2.2.2.2.2.2.2.1 0 0 4, va_cpy b.2.2.2.2.2.2.2.2.2.2.1 w.2.2.2.2.2.2.2.2.2.2.1 0 0 61, va_cpy b.2.2.2.2.2.2.2.2.2.2.2.1 w.2.2.2.2.2.2.2.2.2.2.2.1 0 0 24, w.2.2.2.2.2.2.2.2.2.2.2.2) ik ex pr wd sn qu tb ts (r0, rq) h0 h1 h2 h3 fi R) rfl ?_
  refine hX_go 5 (162) [some (.ref 40), some (.ref 1)] [] (hCm b d k s (b.1, b.2.1, b.2.2.1, b.2.2.2.1, b.2.2.2.2.1, va_cpy b.2.2.2.2.2.1 w.2.2.2.2.2.1 0 0 8, va_cpy b.2.2.2.2.2.2.1 w.2.2.2.2.2.2.1 0 0 8, va_cpy b.2.2.2.2.2.2.2.1 w.2.2.2.2.2.2.2.1 0 0 8, va_cpy b.2.2.2.2.2.2.2.2.1 w.2.2.2.2.2.2.2.2.1 0 0 6, va_cpy b.2.2.2.2.2.2.2.2.2.1 w.2.2.2.2.2.2.2.2.2.1 0 0 4, va_cpy b.2.2.2.2.2.2.2.2.2.2.1 w.2.2.2.2.2.2.2.2.2.2.1 0 0 61, va_cpy b.2.2.2.2.2.2.2.2.2.2.2.1 w.2.2.2.2.2.2.2.2.2.2.2.1 0 0 24, va_cpy b.2.2.2.2.2.2.2.2.2.2.2.2 w.2.2.2.2.2.2.2.2.2.2.2.2 0 0 10) ik ex pr wd sn qu tb ts (r0, rq) h0 h1 h2 h3 fi R) rfl ?_
  exact hX_end rfl (rfl) (rfl)

/-- java/util/Arrays.fill: the loop at 6 -/
def lp_6_29_6 (N : Nat) (y1 : Int64) (y4 : Int32) : Nat → Int32 → (Nat → Int64) → Option (Int32 × (Nat → Int64))
  | 0, _, _ => none
  | n + 1, y3, sn =>
    (bif gCmp .ge y3 y4 then
      some (y3, sn)
    else
      (bif gIn y3 61 then lp_6_29_6 N y1 y4 n (y3 + 1) (vp_updL sn (Int32.toNatClampNeg y3) y1) else none))
set_option maxRecDepth 20000 in
set_option maxHeartbeats 4000000 in
theorem lt_6_29_6 {LL : Nat} {xs : Nat → Int32} {D N : Nat} {b d k s w : hB} {ik ex pr wd : Int32}  {qu tb : Nat → Int32} {ts : Int32} {r0 : Value} {rq : hRq} {h0 h1 h2 h3 : hSt} {fi : Nat → Int32} {R : List gE} {y1 : Int64} {y4 : Int32} {v : Option Value} {M' : List gE} : ∀ (n : Nat) (y3 : Int32) (sn : Nat → Int64) (q : Int32 × (Nat → Int64)), lp_6_29_6 N y1 y4 n y3 sn = some q → (kk : hX (gO LL xs) (D + 0) zR_6 22 [some (.ref 29), some (.long y1), none, some (.int q.1), some (.int y4)] [] (hCm b d k s w ik ex pr wd q.2 qu tb ts (r0, rq) h0 h1 h2 h3 fi R) v M') → hX (gO LL xs) (D + 0) zR_6 6 [some (.ref 29), some (.long y1), none, some (.int y3), some (.int y4)] [] (hCm b d k s w ik ex pr wd sn qu tb ts (r0, rq) h0 h1 h2 h3 fi R) v M' := by
  intro n
  induction n with
  | zero => intro y3 sn q h; cases h
  | succ n ih =>
    intro y3 sn q h kk
    rw [lp_6_29_6] at h
    refine hX_go 3 (bif gCmp .ge y3 y4 then 22 else 12) [some (.ref 29), some (.long y1), none, some (.int y3), some (.int y4)] [] (hCm b d k s w ik ex pr wd sn qu tb ts (r0, rq) h0 h1 h2 h3 fi R) rfl ?_
    refine hX_if (gCmp .ge y3 y4) (fun c1 => ?_) (fun c1 => ?_)
    · skip
      have h := gcT c1 h
      have h := Option.some.inj h; subst h
      exact kk
    · skip
      have h := gcF c1 h
      refine hX_goM 3 (15) [some (.ref 29), some (.long y1), none, some (.int y3), some (.int y4)] [.long y1, .int y3, .ref 29] rfl ?_
      revert h; refine gCondR fun g2 h => ?_
      refine hX_g (gIn y3 61) 16 [some (.ref 29), some (.long y1), none, some (.int y3), some (.int y4)] [] (hCm b d k s w ik ex pr wd (vp_updL sn (Int32.toNatClampNeg y3) y1) qu tb ts (r0, rq) h0 h1 h2 h3 fi R) rfl g2 ?_
      refine hX_goM 2 (6) [some (.ref 29), some (.long y1), none, some (.int (y3 + 1)), some (.int y4)] [] rfl ?_
      exact ih (y3 + 1) (vp_updL sn (Int32.toNatClampNeg y3) y1) q h kk

/-- java/util/Arrays.fill([JJ)V -/
def me_6_29 (N : Nat) (x0 : Int64) (sn : Nat → Int64) : Option ((Nat → Int64)) :=
  (Option.bind (lp_6_29_6 N x0 61 N 0 sn) fun q1 =>
  some (q1.2))
set_option maxRecDepth 20000 in
set_option maxHeartbeats 4000000 in
theorem mt_6_29 {LL : Nat} {xs : Nat → Int32} {D : Nat} {b d k s w : hB} {ik ex pr wd : Int32} {sn : Nat → Int64} {qu tb : Nat → Int32} {ts : Int32} {r0 : Value} {rq : hRq} {h0 h1 h2 h3 : hSt} {fi : Nat → Int32} {R : List gE} (N : Nat) (x0 : Int64) (q : (Nat → Int64)) (h : me_6_29 N x0 sn = some q) : hM (gO LL xs) (D + 0) zR_6 [.ref 29, .long x0] (hCm b d k s w ik ex pr wd sn qu tb ts (r0, rq) h0 h1 h2 h3 fi R) none (hCm b d k s w ik ex pr wd q qu tb ts (r0, rq) h0 h1 h2 h3 fi R) := by
  unfold me_6_29 at h
  refine hX_go 0 0 [some (.ref 29), some (.long x0), none, none, none] [] (hCm b d k s w ik ex pr wd sn qu tb ts (r0, rq) h0 h1 h2 h3 fi R) rfl ?_
  refine hX_go 5 (6) [some (.ref 29), some (.long x0), none, some (.int 0), some (.int 61)] [] (hCm b d k s w ik ex pr wd sn qu tb ts (r0, rq) h0 h1 h2 h3 fi R) rfl ?_
  revert h; refine gBindR fun q1 e1 h => ?_
  refine lt_6_29_6 N 0 sn q1 e1 ?_
  refine hX_go 0 (22) [some (.ref 29), some (.long x0), none, some (.int q1.1), some (.int 61)] [] (hCm b d k s w ik ex pr wd q1.2 qu tb ts (r0, rq) h0 h1 h2 h3 fi R) rfl ?_
  have h := Option.some.inj h; subst h
  exact hX_end rfl rfl rfl

/-- UpOneSide$Blind.offSize()I -/
def v_15_40 (w : hB) : Int32 := if 0 ≤ w.1 - w.2.1 then (w.1 - w.2.1) else 0 - (w.1 - w.2.1)
set_option maxRecDepth 20000 in
set_option maxHeartbeats 1000000 in
theorem ct_15_40 {LL : Nat} {xs : Nat → Int32} {D : Nat} {b d k s w : hB} {ik ex pr wd : Int32} {sn : Nat → Int64} {qu tb : Nat → Int32} {ts : Int32} {r0 : Value} {rq : hRq} {h0 h1 h2 h3 : hSt} {fi : Nat → Int32} {R : List gE} : hM (gO LL xs) (D + 1) zR_15 [.ref 40] (hCm b d k s w ik ex pr wd sn qu tb ts (r0, rq) h0 h1 h2 h3 fi R) (some (.int (v_15_40 w))) (hCm b d k s w ik ex pr wd sn qu tb ts (r0, rq) h0 h1 h2 h3 fi R) := by
  refine hX_go 0 0 [some (.ref 40)] [] (hCm b d k s w ik ex pr wd sn qu tb ts (r0, rq) h0 h1 h2 h3 fi R) rfl ?_
  refine hX_go 6 (12) [some (.ref 40)] [.int (if 0 ≤ w.1 - w.2.1 then (w.1 - w.2.1) else 0 - (w.1 - w.2.1))] (hCm b d k s w ik ex pr wd sn qu tb ts (r0, rq) h0 h1 h2 h3 fi R) rfl ?_
  exact hX_end rfl (rfl) (rfl)

/-- UpOneSide$Search.visit(II)V -/
def f_46_28_pr (w : hB) (pr : Int32) (sn : Nat → Int64) : Int32 := bif gCmp .ne (lg_cmp ((sn (Int32.toNatClampNeg w.1)) &&& ((1 : Int64) <<< (Int32.toInt64 w.2.1 &&& 63))) 0) 0 then pr else (bif gCmp .lt pr 3721 then (pr + 1) else pr)
def f_46_28_wd (w : hB) (pr : Int32) (wd : Int32) (sn : Nat → Int64) : Int32 := bif gCmp .ne (lg_cmp ((sn (Int32.toNatClampNeg w.1)) &&& ((1 : Int64) <<< (Int32.toInt64 w.2.1 &&& 63))) 0) 0 then wd else (bif gCmp .lt pr 3721 then (if wd < (v_15_40 w) then (v_15_40 w) else wd) else wd)
def f_46_28_sn (w : hB) (pr : Int32) (sn : Nat → Int64) : Nat → Int64 := bif gCmp .ne (lg_cmp ((sn (Int32.toNatClampNeg w.1)) &&& ((1 : Int64) <<< (Int32.toInt64 w.2.1 &&& 63))) 0) 0 then sn else (bif gCmp .lt pr 3721 then (vp_updL sn (Int32.toNatClampNeg w.1) ((sn (Int32.toNatClampNeg w.1)) ||| ((1 : Int64) <<< (Int32.toInt64 w.2.1 &&& 63)))) else sn)
def f_46_28_qu (x0 : Int32) (x1 : Int32) (w : hB) (pr : Int32) (sn : Nat → Int64) (qu : Nat → Int32) : Nat → Int32 := bif gCmp .ne (lg_cmp ((sn (Int32.toNatClampNeg w.1)) &&& ((1 : Int64) <<< (Int32.toInt64 w.2.1 &&& 63))) 0) 0 then qu else (bif gCmp .lt pr 3721 then (upd qu (Int32.toNatClampNeg pr) ((((x0 <<< (15 &&& 31)) ||| (x1 <<< (12 &&& 31))) ||| (w.1 <<< (6 &&& 31))) ||| w.2.1)) else qu)
set_option maxRecDepth 20000 in
set_option maxHeartbeats 1000000 in
theorem ct_46_28 {LL : Nat} {xs : Nat → Int32} {D : Nat} {b d k s w : hB} {ik ex pr wd : Int32} {sn : Nat → Int64} {qu tb : Nat → Int32} {ts : Int32} {r0 : Value} {rq : hRq} {h0 h1 h2 h3 : hSt} {fi : Nat → Int32} {R : List gE} (x0 : Int32) (x1 : Int32) (o1 : gIn w.1 61 = true) (o2 : gCmp .ne (lg_cmp ((sn (Int32.toNatClampNeg w.1)) &&& ((1 : Int64) <<< (Int32.toInt64 w.2.1 &&& 63))) 0) 0 = false → gCmp .lt pr 3721 = true → gIn pr 3721 = true) : hM (gO LL xs) (D + 2) zR_46 [.ref 28, .int x0, .int x1] (hCm b d k s w ik ex pr wd sn qu tb ts (r0, rq) h0 h1 h2 h3 fi R) none (hCm b d k s w ik ex (f_46_28_pr w pr sn) (f_46_28_wd w pr wd sn) (f_46_28_sn w pr sn) (f_46_28_qu x0 x1 w pr sn qu) tb ts (r0, rq) h0 h1 h2 h3 fi R) := by
  refine hX_go 0 0 [some (.ref 28), some (.int x0), some (.int x1), none, none] [] (hCm b d k s w ik ex pr wd sn qu tb ts (r0, rq) h0 h1 h2 h3 fi R) rfl ?_
  refine hX_go 9 (15) [some (.ref 28), some (.int x0), some (.int x1), some (.long ((1 : Int64) <<< (Int32.toInt64 w.2.1 &&& 63))), none] [.ref 28, .ref 29] (hCm b d k s w ik ex pr wd sn qu tb ts (r0, rq) h0 h1 h2 h3 fi R) rfl ?_
  refine hX_goM 2 (21) [some (.ref 28), some (.int x0), some (.int x1), some (.long ((1 : Int64) <<< (Int32.toInt64 w.2.1 &&& 63))), none] [.int w.1, .ref 29] rfl ?_
  refine hX_gM (gIn w.1 61) 22 [some (.ref 28), some (.int x0), some (.int x1), some (.long ((1 : Int64) <<< (Int32.toInt64 w.2.1 &&& 63))), none] [.long (sn (Int32.toNatClampNeg w.1))] rfl o1 ?_
  refine hX_goM 5 (bif gCmp .ne (lg_cmp ((sn (Int32.toNatClampNeg w.1)) &&& ((1 : Int64) <<< (Int32.toInt64 w.2.1 &&& 63))) 0) 0 then 41 else 29) [some (.ref 28), some (.int x0), some (.int x1), some (.long ((1 : Int64) <<< (Int32.toInt64 w.2.1 &&& 63))), none] [] rfl ?_
  refine hX_if (gCmp .ne (lg_cmp ((sn (Int32.toNatClampNeg w.1)) &&& ((1 : Int64) <<< (Int32.toInt64 w.2.1 &&& 63))) 0) 0) (fun c1 => ?_) (fun c1 => ?_)
  · skip
    exact hX_end rfl (rfl) (by unfold f_46_28_pr; rw [c1]; unfold f_46_28_wd; rw [c1]; unfold f_46_28_sn; rw [c1]; unfold f_46_28_qu; rw [c1]; rfl)
  · skip
    refine hX_goM 6 (bif gCmp .lt pr 3721 then 42 else 41) [some (.ref 28), some (.int x0), some (.int x1), some (.long ((1 : Int64) <<< (Int32.toInt64 w.2.1 &&& 63))), none] [] rfl ?_
    refine hX_if (gCmp .lt pr 3721) (fun c2 => ?_) (fun c2 => ?_)
    · skip
      refine hX_goM 6 (54) [some (.ref 28), some (.int x0), some (.int x1), some (.long ((1 : Int64) <<< (Int32.toInt64 w.2.1 &&& 63))), none] [.int w.1, .ref 29, .int w.1, .ref 29] rfl ?_
      refine hX_gM (gIn w.1 61) 55 [some (.ref 28), some (.int x0), some (.int x1), some (.long ((1 : Int64) <<< (Int32.toInt64 w.2.1 &&& 63))), none] [.long (sn (Int32.toNatClampNeg w.1)), .int w.1, .ref 29] rfl o1 ?_
      refine hX_goM 2 (57) [some (.ref 28), some (.int x0), some (.int x1), some (.long ((1 : Int64) <<< (Int32.toInt64 w.2.1 &&& 63))), none] [.long ((sn (Int32.toNatClampNeg w.1)) ||| ((1 : Int64) <<< (Int32.toInt64 w.2.1 &&& 63))), .int w.1, .ref 29] rfl ?_
      refine hX_g (gIn w.1 61) 58 [some (.ref 28), some (.int x0), some (.int x1), some (.long ((1 : Int64) <<< (Int32.toInt64 w.2.1 &&& 63))), none] [] (hCm b d k s w ik ex pr wd (vp_updL sn (Int32.toNatClampNeg w.1) ((sn (Int32.toNatClampNeg w.1)) ||| ((1 : Int64) <<< (Int32.toInt64 w.2.1 &&& 63)))) qu tb ts (r0, rq) h0 h1 h2 h3 fi R) rfl o1 ?_
      refine hX_goM 9 (73) [some (.ref 28), some (.int x0), some (.int x1), some (.long ((1 : Int64) <<< (Int32.toInt64 w.2.1 &&& 63))), none] [.int 12, .int x1, .int (x0 <<< (15 &&& 31)), .int pr, .ref 30] rfl ?_
      refine hX_goM 9 (87) [some (.ref 28), some (.int x0), some (.int x1), some (.long ((1 : Int64) <<< (Int32.toInt64 w.2.1 &&& 63))), none] [.ref 28, .int (((x0 <<< (15 &&& 31)) ||| (x1 <<< (12 &&& 31))) ||| (w.1 <<< (6 &&& 31))), .int pr, .ref 30] rfl ?_
      refine hX_goM 3 (94) [some (.ref 28), some (.int x0), some (.int x1), some (.long ((1 : Int64) <<< (Int32.toInt64 w.2.1 &&& 63))), none] [.int ((((x0 <<< (15 &&& 31)) ||| (x1 <<< (12 &&& 31))) ||| (w.1 <<< (6 &&& 31))) ||| w.2.1), .int pr, .ref 30] rfl ?_
      refine hX_g (gIn pr 3721) 95 [some (.ref 28), some (.int x0), some (.int x1), some (.long ((1 : Int64) <<< (Int32.toInt64 w.2.1 &&& 63))), none] [] (hCm b d k s w ik ex pr wd (vp_updL sn (Int32.toNatClampNeg w.1) ((sn (Int32.toNatClampNeg w.1)) ||| ((1 : Int64) <<< (Int32.toInt64 w.2.1 &&& 63)))) (upd qu (Int32.toNatClampNeg pr) ((((x0 <<< (15 &&& 31)) ||| (x1 <<< (12 &&& 31))) ||| (w.1 <<< (6 &&& 31))) ||| w.2.1)) tb ts (r0, rq) h0 h1 h2 h3 fi R) rfl (o2 c1 c2) ?_
      refine hX_go 9 (110) [some (.ref 28), some (.int x0), some (.int x1), some (.long ((1 : Int64) <<< (Int32.toInt64 w.2.1 &&& 63))), none] [.int wd, .ref 28] (hCm b d k s w ik ex (pr + 1) wd (vp_updL sn (Int32.toNatClampNeg w.1) ((sn (Int32.toNatClampNeg w.1)) ||| ((1 : Int64) <<< (Int32.toInt64 w.2.1 &&& 63)))) (upd qu (Int32.toNatClampNeg pr) ((((x0 <<< (15 &&& 31)) ||| (x1 <<< (12 &&& 31))) ||| (w.1 <<< (6 &&& 31))) ||| w.2.1)) tb ts (r0, rq) h0 h1 h2 h3 fi R) rfl ?_
      refine hX_goM 2 (114) [some (.ref 28), some (.int x0), some (.int x1), some (.long ((1 : Int64) <<< (Int32.toInt64 w.2.1 &&& 63))), none] [.ref 40, .int wd, .ref 28] rfl ?_
      refine hX_call (r' := zR_15) rfl (ct_15_40) ?_
      refine hX_go 2 (123) [some (.ref 28), some (.int x0), some (.int x1), some (.long ((1 : Int64) <<< (Int32.toInt64 w.2.1 &&& 63))), none] [] (hCm b d k s w ik ex (pr + 1) (if wd < (v_15_40 w) then (v_15_40 w) else wd) (vp_updL sn (Int32.toNatClampNeg w.1) ((sn (Int32.toNatClampNeg w.1)) ||| ((1 : Int64) <<< (Int32.toInt64 w.2.1 &&& 63)))) (upd qu (Int32.toNatClampNeg pr) ((((x0 <<< (15 &&& 31)) ||| (x1 <<< (12 &&& 31))) ||| (w.1 <<< (6 &&& 31))) ||| w.2.1)) tb ts (r0, rq) h0 h1 h2 h3 fi R) rfl ?_
      exact hX_end rfl (rfl) (by unfold f_46_28_pr; rw [c1, c2]; unfold f_46_28_wd; rw [c1, c2]; unfold f_46_28_sn; rw [c1, c2]; unfold f_46_28_qu; rw [c1, c2]; rfl)
    · skip
      exact hX_end rfl (rfl) (by unfold f_46_28_pr; rw [c1, c2]; unfold f_46_28_wd; rw [c1, c2]; unfold f_46_28_sn; rw [c1, c2]; unfold f_46_28_qu; rw [c1, c2]; rfl)

/-- UpOneSide$Search.left(I)I -/
def v_47_28 (x0 : Int32) (qu : Nat → Int32) : Int32 := ((qu (Int32.toNatClampNeg x0)) >>> (6 &&& 31)) &&& 63
set_option maxRecDepth 20000 in
set_option maxHeartbeats 1000000 in
theorem ct_47_28 {LL : Nat} {xs : Nat → Int32} {D : Nat} {b d k s w : hB} {ik ex pr wd : Int32} {sn : Nat → Int64} {qu tb : Nat → Int32} {ts : Int32} {r0 : Value} {rq : hRq} {h0 h1 h2 h3 : hSt} {fi : Nat → Int32} {R : List gE} (x0 : Int32) (o1 : gIn x0 3721 = true) : hM (gO LL xs) (D + 0) zR_47 [.ref 28, .int x0] (hCm b d k s w ik ex pr wd sn qu tb ts (r0, rq) h0 h1 h2 h3 fi R) (some (.int (v_47_28 x0 qu))) (hCm b d k s w ik ex pr wd sn qu tb ts (r0, rq) h0 h1 h2 h3 fi R) := by
  refine hX_go 0 0 [some (.ref 28), some (.int x0)] [] (hCm b d k s w ik ex pr wd sn qu tb ts (r0, rq) h0 h1 h2 h3 fi R) rfl ?_
  refine hX_go 3 (5) [some (.ref 28), some (.int x0)] [.int x0, .ref 30] (hCm b d k s w ik ex pr wd sn qu tb ts (r0, rq) h0 h1 h2 h3 fi R) rfl ?_
  refine hX_gM (gIn x0 3721) 6 [some (.ref 28), some (.int x0)] [.int (qu (Int32.toNatClampNeg x0))] rfl o1 ?_
  refine hX_goM 4 (12) [some (.ref 28), some (.int x0)] [.int (((qu (Int32.toNatClampNeg x0)) >>> (6 &&& 31)) &&& 63)] rfl ?_
  exact hX_end rfl (rfl) (rfl)

/-- UpOneSide$Search.right(I)I -/
def v_48_28 (x0 : Int32) (qu : Nat → Int32) : Int32 := (qu (Int32.toNatClampNeg x0)) &&& 63
set_option maxRecDepth 20000 in
set_option maxHeartbeats 1000000 in
theorem ct_48_28 {LL : Nat} {xs : Nat → Int32} {D : Nat} {b d k s w : hB} {ik ex pr wd : Int32} {sn : Nat → Int64} {qu tb : Nat → Int32} {ts : Int32} {r0 : Value} {rq : hRq} {h0 h1 h2 h3 : hSt} {fi : Nat → Int32} {R : List gE} (x0 : Int32) (o1 : gIn x0 3721 = true) : hM (gO LL xs) (D + 0) zR_48 [.ref 28, .int x0] (hCm b d k s w ik ex pr wd sn qu tb ts (r0, rq) h0 h1 h2 h3 fi R) (some (.int (v_48_28 x0 qu))) (hCm b d k s w ik ex pr wd sn qu tb ts (r0, rq) h0 h1 h2 h3 fi R) := by
  refine hX_go 0 0 [some (.ref 28), some (.int x0)] [] (hCm b d k s w ik ex pr wd sn qu tb ts (r0, rq) h0 h1 h2 h3 fi R) rfl ?_
  refine hX_go 3 (5) [some (.ref 28), some (.int x0)] [.int x0, .ref 30] (hCm b d k s w ik ex pr wd sn qu tb ts (r0, rq) h0 h1 h2 h3 fi R) rfl ?_
  refine hX_gM (gIn x0 3721) 6 [some (.ref 28), some (.int x0)] [.int (qu (Int32.toNatClampNeg x0))] rfl o1 ?_
  refine hX_goM 2 (9) [some (.ref 28), some (.int x0)] [.int ((qu (Int32.toNatClampNeg x0)) &&& 63)] rfl ?_
  exact hX_end rfl (rfl) (rfl)

/-- UpOneSide$Blind.leftLift(I)I -/
def v_16_40 (x0 : Int32) (w : hB) : Int32 := (bif hEq (w.2.2.2.2.2.1 (Int32.toNatClampNeg x0)) 1 then ((w.2.2.2.2.2.2.1 (Int32.toNatClampNeg x0)) - ((w.1 - w.2.1) / 2)) else (bif hEq (w.2.2.2.2.2.1 (Int32.toNatClampNeg x0)) 2 then ((w.2.2.2.2.2.2.1 (Int32.toNatClampNeg x0)) + (w.2.2.2.2.2.2.2.1 (Int32.toNatClampNeg x0))) else (bif hEq (w.2.2.2.2.2.1 (Int32.toNatClampNeg x0)) 3 then ((w.2.2.2.2.2.2.1 (Int32.toNatClampNeg x0)) + (w.2.2.2.2.2.2.2.1 (Int32.toNatClampNeg x0))) else (bif hEq (w.2.2.2.2.2.1 (Int32.toNatClampNeg x0)) 4 then (2 * ((w.2.2.2.2.2.2.1 (Int32.toNatClampNeg x0)) + (w.2.2.2.2.2.2.2.1 (Int32.toNatClampNeg x0)))) else (bif hEq (w.2.2.2.2.2.1 (Int32.toNatClampNeg x0)) 5 then (bif gCmp .lt w.1 (w.2.2.2.2.2.2.2.2.1 3) then (w.2.2.2.2.2.2.1 (Int32.toNatClampNeg x0)) else 0) else (bif hEq (w.2.2.2.2.2.1 (Int32.toNatClampNeg x0)) 6 then (bif gCmp .lt w.1 (w.2.2.2.2.2.2.2.2.1 3) then (w.2.2.2.2.2.2.1 (Int32.toNatClampNeg x0)) else 0) else (w.2.2.2.2.2.2.1 (Int32.toNatClampNeg x0)))))))) + (((w.1 / 10) * (w.2.2.2.2.2.2.2.2.1 2)) / 4)
set_option maxRecDepth 20000 in
set_option maxHeartbeats 1000000 in
theorem ct_16_40 {LL : Nat} {xs : Nat → Int32} {D : Nat} {b d k s w : hB} {ik ex pr wd : Int32} {sn : Nat → Int64} {qu tb : Nat → Int32} {ts : Int32} {r0 : Value} {rq : hRq} {h0 h1 h2 h3 : hSt} {fi : Nat → Int32} {R : List gE} (x0 : Int32) (o1 : gIn x0 8 = true) : hM (gO LL xs) (D + 0) zR_16 [.ref 40, .int x0] (hCm b d k s w ik ex pr wd sn qu tb ts (r0, rq) h0 h1 h2 h3 fi R) (some (.int (v_16_40 x0 w))) (hCm b d k s w ik ex pr wd sn qu tb ts (r0, rq) h0 h1 h2 h3 fi R) := by
  refine hX_go 0 0 [some (.ref 40), some (.int x0), none] [] (hCm b d k s w ik ex pr wd sn qu tb ts (r0, rq) h0 h1 h2 h3 fi R) rfl ?_
  refine hX_go 3 (5) [some (.ref 40), some (.int x0), none] [.int x0, .ref 42] (hCm b d k s w ik ex pr wd sn qu tb ts (r0, rq) h0 h1 h2 h3 fi R) rfl ?_
  refine hX_gM (gIn x0 8) 6 [some (.ref 40), some (.int x0), none] [.int (w.2.2.2.2.2.2.1 (Int32.toNatClampNeg x0))] rfl o1 ?_
  refine hX_goM 4 (12) [some (.ref 40), some (.int x0), some (.int (w.2.2.2.2.2.2.1 (Int32.toNatClampNeg x0)))] [.int x0, .ref 41] rfl ?_
  refine hX_gM (gIn x0 8) 13 [some (.ref 40), some (.int x0), some (.int (w.2.2.2.2.2.2.1 (Int32.toNatClampNeg x0)))] [.int (w.2.2.2.2.2.1 (Int32.toNatClampNeg x0))] rfl o1 ?_
  refine hX_sw (bif hEq (w.2.2.2.2.2.1 (Int32.toNatClampNeg x0)) 1 then 52 else bif hEq (w.2.2.2.2.2.1 (Int32.toNatClampNeg x0)) 2 then 69 else bif hEq (w.2.2.2.2.2.1 (Int32.toNatClampNeg x0)) 3 then 69 else bif hEq (w.2.2.2.2.2.1 (Int32.toNatClampNeg x0)) 4 then 81 else bif hEq (w.2.2.2.2.2.1 (Int32.toNatClampNeg x0)) 5 then 95 else bif hEq (w.2.2.2.2.2.1 (Int32.toNatClampNeg x0)) 6 then 95 else 117) rfl (sw_16_13 (w.2.2.2.2.2.1 (Int32.toNatClampNeg x0))) ?_
  suffices hk : hX (gO LL xs) (D + 0) zR_16 117 [some (.ref 40), some (.int x0), some (.int (bif hEq (w.2.2.2.2.2.1 (Int32.toNatClampNeg x0)) 1 then ((w.2.2.2.2.2.2.1 (Int32.toNatClampNeg x0)) - ((w.1 - w.2.1) / 2)) else (bif hEq (w.2.2.2.2.2.1 (Int32.toNatClampNeg x0)) 2 then ((w.2.2.2.2.2.2.1 (Int32.toNatClampNeg x0)) + (w.2.2.2.2.2.2.2.1 (Int32.toNatClampNeg x0))) else (bif hEq (w.2.2.2.2.2.1 (Int32.toNatClampNeg x0)) 3 then ((w.2.2.2.2.2.2.1 (Int32.toNatClampNeg x0)) + (w.2.2.2.2.2.2.2.1 (Int32.toNatClampNeg x0))) else (bif hEq (w.2.2.2.2.2.1 (Int32.toNatClampNeg x0)) 4 then (2 * ((w.2.2.2.2.2.2.1 (Int32.toNatClampNeg x0)) + (w.2.2.2.2.2.2.2.1 (Int32.toNatClampNeg x0)))) else (bif hEq (w.2.2.2.2.2.1 (Int32.toNatClampNeg x0)) 5 then (bif gCmp .lt w.1 (w.2.2.2.2.2.2.2.2.1 3) then (w.2.2.2.2.2.2.1 (Int32.toNatClampNeg x0)) else 0) else (bif hEq (w.2.2.2.2.2.1 (Int32.toNatClampNeg x0)) 6 then (bif gCmp .lt w.1 (w.2.2.2.2.2.2.2.2.1 3) then (w.2.2.2.2.2.2.1 (Int32.toNatClampNeg x0)) else 0) else (w.2.2.2.2.2.2.1 (Int32.toNatClampNeg x0)))))))))] [] (hCm b d k s w ik ex pr wd sn qu tb ts (r0, rq) h0 h1 h2 h3 fi R) (some (.int (v_16_40 x0 w))) (hCm b d k s w ik ex pr wd sn qu tb ts (r0, rq) h0 h1 h2 h3 fi R) by
    refine hX_if (hEq (w.2.2.2.2.2.1 (Int32.toNatClampNeg x0)) 1) (fun c1 => ?_) (fun c1 => ?_)
    · skip
      refine hX_goM 9 (65) [some (.ref 40), some (.int x0), some (.int (w.2.2.2.2.2.2.1 (Int32.toNatClampNeg x0)))] [.int ((w.2.2.2.2.2.2.1 (Int32.toNatClampNeg x0)) - ((w.1 - w.2.1) / 2))] rfl ?_
      refine hX_goM 2 (117) [some (.ref 40), some (.int x0), some (.int ((w.2.2.2.2.2.2.1 (Int32.toNatClampNeg x0)) - ((w.1 - w.2.1) / 2)))] [] rfl ?_
      have hk := hk
      simp only [c1, cond_true, cond_false] at hk
      first | exact hk | (simp only [c1, cond_true, cond_false]; exact hk)
    · skip
      refine hX_if (hEq (w.2.2.2.2.2.1 (Int32.toNatClampNeg x0)) 2) (fun c2 => ?_) (fun c2 => ?_)
      · skip
        refine hX_goM 4 (75) [some (.ref 40), some (.int x0), some (.int (w.2.2.2.2.2.2.1 (Int32.toNatClampNeg x0)))] [.int x0, .ref 43, .int (w.2.2.2.2.2.2.1 (Int32.toNatClampNeg x0))] rfl ?_
        refine hX_gM (gIn x0 8) 76 [some (.ref 40), some (.int x0), some (.int (w.2.2.2.2.2.2.1 (Int32.toNatClampNeg x0)))] [.int (w.2.2.2.2.2.2.2.1 (Int32.toNatClampNeg x0)), .int (w.2.2.2.2.2.2.1 (Int32.toNatClampNeg x0))] rfl o1 ?_
        refine hX_goM 3 (117) [some (.ref 40), some (.int x0), some (.int ((w.2.2.2.2.2.2.1 (Int32.toNatClampNeg x0)) + (w.2.2.2.2.2.2.2.1 (Int32.toNatClampNeg x0))))] [] rfl ?_
        have hk := hk
        simp only [c1, c2, cond_true, cond_false] at hk
        first | exact hk | (simp only [c1, c2, cond_true, cond_false]; exact hk)
      · skip
        refine hX_if (hEq (w.2.2.2.2.2.1 (Int32.toNatClampNeg x0)) 3) (fun c3 => ?_) (fun c3 => ?_)
        · skip
          refine hX_goM 4 (75) [some (.ref 40), some (.int x0), some (.int (w.2.2.2.2.2.2.1 (Int32.toNatClampNeg x0)))] [.int x0, .ref 43, .int (w.2.2.2.2.2.2.1 (Int32.toNatClampNeg x0))] rfl ?_
          refine hX_gM (gIn x0 8) 76 [some (.ref 40), some (.int x0), some (.int (w.2.2.2.2.2.2.1 (Int32.toNatClampNeg x0)))] [.int (w.2.2.2.2.2.2.2.1 (Int32.toNatClampNeg x0)), .int (w.2.2.2.2.2.2.1 (Int32.toNatClampNeg x0))] rfl o1 ?_
          refine hX_goM 3 (117) [some (.ref 40), some (.int x0), some (.int ((w.2.2.2.2.2.2.1 (Int32.toNatClampNeg x0)) + (w.2.2.2.2.2.2.2.1 (Int32.toNatClampNeg x0))))] [] rfl ?_
          have hk := hk
          simp only [c1, c2, c3, cond_true, cond_false] at hk
          first | exact hk | (simp only [c1, c2, c3, cond_true, cond_false]; exact hk)
        · skip
          refine hX_if (hEq (w.2.2.2.2.2.1 (Int32.toNatClampNeg x0)) 4) (fun c4 => ?_) (fun c4 => ?_)
          · skip
            refine hX_goM 5 (88) [some (.ref 40), some (.int x0), some (.int (w.2.2.2.2.2.2.1 (Int32.toNatClampNeg x0)))] [.int x0, .ref 43, .int (w.2.2.2.2.2.2.1 (Int32.toNatClampNeg x0)), .int 2] rfl ?_
            refine hX_gM (gIn x0 8) 89 [some (.ref 40), some (.int x0), some (.int (w.2.2.2.2.2.2.1 (Int32.toNatClampNeg x0)))] [.int (w.2.2.2.2.2.2.2.1 (Int32.toNatClampNeg x0)), .int (w.2.2.2.2.2.2.1 (Int32.toNatClampNeg x0)), .int 2] rfl o1 ?_
            refine hX_goM 4 (117) [some (.ref 40), some (.int x0), some (.int (2 * ((w.2.2.2.2.2.2.1 (Int32.toNatClampNeg x0)) + (w.2.2.2.2.2.2.2.1 (Int32.toNatClampNeg x0)))))] [] rfl ?_
            have hk := hk
            simp only [c1, c2, c3, c4, cond_true, cond_false] at hk
            first | exact hk | (simp only [c1, c2, c3, c4, cond_true, cond_false]; exact hk)
          · skip
            refine hX_if (hEq (w.2.2.2.2.2.1 (Int32.toNatClampNeg x0)) 5) (fun c5 => ?_) (fun c5 => ?_)
            · skip
              refine hX_goM 7 (bif gCmp .lt w.1 (w.2.2.2.2.2.2.2.2.1 3) then 112 else 108) [some (.ref 40), some (.int x0), some (.int (w.2.2.2.2.2.2.1 (Int32.toNatClampNeg x0)))] [] rfl ?_
              suffices hk : hX (gO LL xs) (D + 0) zR_16 113 [some (.ref 40), some (.int x0), some (.int (w.2.2.2.2.2.2.1 (Int32.toNatClampNeg x0)))] [.int (bif gCmp .lt w.1 (w.2.2.2.2.2.2.2.2.1 3) then (w.2.2.2.2.2.2.1 (Int32.toNatClampNeg x0)) else 0)] (hCm b d k s w ik ex pr wd sn qu tb ts (r0, rq) h0 h1 h2 h3 fi R) (some (.int (v_16_40 x0 w))) (hCm b d k s w ik ex pr wd sn qu tb ts (r0, rq) h0 h1 h2 h3 fi R) by
                refine hX_if (gCmp .lt w.1 (w.2.2.2.2.2.2.2.2.1 3)) (fun c6 => ?_) (fun c6 => ?_)
                · skip
                  refine hX_goM 1 (113) [some (.ref 40), some (.int x0), some (.int (w.2.2.2.2.2.2.1 (Int32.toNatClampNeg x0)))] [.int (w.2.2.2.2.2.2.1 (Int32.toNatClampNeg x0))] rfl ?_
                  have hk := hk
                  simp only [c6, cond_true, cond_false] at hk
                  first | exact hk | (simp only [c6, cond_true, cond_false]; exact hk)
                · skip
                  refine hX_goM 2 (113) [some (.ref 40), some (.int x0), some (.int (w.2.2.2.2.2.2.1 (Int32.toNatClampNeg x0)))] [.int 0] rfl ?_
                  have hk := hk
                  simp only [c6, cond_true, cond_false] at hk
                  first | exact hk | (simp only [c6, cond_true, cond_false]; exact hk)
              refine hX_goM 2 (117) [some (.ref 40), some (.int x0), some (.int (bif gCmp .lt w.1 (w.2.2.2.2.2.2.2.2.1 3) then (w.2.2.2.2.2.2.1 (Int32.toNatClampNeg x0)) else 0))] [] rfl ?_
              have hk := hk
              simp only [c1, c2, c3, c4, c5, cond_true, cond_false] at hk
              first | exact hk | (simp only [c1, c2, c3, c4, c5, cond_true, cond_false]; exact hk)
            · skip
              refine hX_if (hEq (w.2.2.2.2.2.1 (Int32.toNatClampNeg x0)) 6) (fun c7 => ?_) (fun c7 => ?_)
              · skip
                refine hX_goM 7 (bif gCmp .lt w.1 (w.2.2.2.2.2.2.2.2.1 3) then 112 else 108) [some (.ref 40), some (.int x0), some (.int (w.2.2.2.2.2.2.1 (Int32.toNatClampNeg x0)))] [] rfl ?_
                suffices hk : hX (gO LL xs) (D + 0) zR_16 113 [some (.ref 40), some (.int x0), some (.int (w.2.2.2.2.2.2.1 (Int32.toNatClampNeg x0)))] [.int (bif gCmp .lt w.1 (w.2.2.2.2.2.2.2.2.1 3) then (w.2.2.2.2.2.2.1 (Int32.toNatClampNeg x0)) else 0)] (hCm b d k s w ik ex pr wd sn qu tb ts (r0, rq) h0 h1 h2 h3 fi R) (some (.int (v_16_40 x0 w))) (hCm b d k s w ik ex pr wd sn qu tb ts (r0, rq) h0 h1 h2 h3 fi R) by
                  refine hX_if (gCmp .lt w.1 (w.2.2.2.2.2.2.2.2.1 3)) (fun c8 => ?_) (fun c8 => ?_)
                  · skip
                    refine hX_goM 1 (113) [some (.ref 40), some (.int x0), some (.int (w.2.2.2.2.2.2.1 (Int32.toNatClampNeg x0)))] [.int (w.2.2.2.2.2.2.1 (Int32.toNatClampNeg x0))] rfl ?_
                    have hk := hk
                    simp only [c8, cond_true, cond_false] at hk
                    first | exact hk | (simp only [c8, cond_true, cond_false]; exact hk)
                  · skip
                    refine hX_goM 2 (113) [some (.ref 40), some (.int x0), some (.int (w.2.2.2.2.2.2.1 (Int32.toNatClampNeg x0)))] [.int 0] rfl ?_
                    have hk := hk
                    simp only [c8, cond_true, cond_false] at hk
                    first | exact hk | (simp only [c8, cond_true, cond_false]; exact hk)
                refine hX_goM 2 (117) [some (.ref 40), some (.int x0), some (.int (bif gCmp .lt w.1 (w.2.2.2.2.2.2.2.2.1 3) then (w.2.2.2.2.2.2.1 (Int32.toNatClampNeg x0)) else 0))] [] rfl ?_
                have hk := hk
                simp only [c1, c2, c3, c4, c5, c7, cond_true, cond_false] at hk
                first | exact hk | (simp only [c1, c2, c3, c4, c5, c7, cond_true, cond_false]; exact hk)
              · skip
                have hk := hk
                simp only [c1, c2, c3, c4, c5, c7, cond_true, cond_false] at hk
                first | exact hk | (simp only [c1, c2, c3, c4, c5, c7, cond_true, cond_false]; exact hk)
  refine hX_goM 9 (131) [some (.ref 40), some (.int x0), some (.int (bif hEq (w.2.2.2.2.2.1 (Int32.toNatClampNeg x0)) 1 then ((w.2.2.2.2.2.2.1 (Int32.toNatClampNeg x0)) - ((w.1 - w.2.1) / 2)) else (bif hEq (w.2.2.2.2.2.1 (Int32.toNatClampNeg x0)) 2 then ((w.2.2.2.2.2.2.1 (Int32.toNatClampNeg x0)) + (w.2.2.2.2.2.2.2.1 (Int32.toNatClampNeg x0))) else (bif hEq (w.2.2.2.2.2.1 (Int32.toNatClampNeg x0)) 3 then ((w.2.2.2.2.2.2.1 (Int32.toNatClampNeg x0)) + (w.2.2.2.2.2.2.2.1 (Int32.toNatClampNeg x0))) else (bif hEq (w.2.2.2.2.2.1 (Int32.toNatClampNeg x0)) 4 then (2 * ((w.2.2.2.2.2.2.1 (Int32.toNatClampNeg x0)) + (w.2.2.2.2.2.2.2.1 (Int32.toNatClampNeg x0)))) else (bif hEq (w.2.2.2.2.2.1 (Int32.toNatClampNeg x0)) 5 then (bif gCmp .lt w.1 (w.2.2.2.2.2.2.2.2.1 3) then (w.2.2.2.2.2.2.1 (Int32.toNatClampNeg x0)) else 0) else (bif hEq (w.2.2.2.2.2.1 (Int32.toNatClampNeg x0)) 6 then (bif gCmp .lt w.1 (w.2.2.2.2.2.2.2.2.1 3) then (w.2.2.2.2.2.2.1 (Int32.toNatClampNeg x0)) else 0) else (w.2.2.2.2.2.2.1 (Int32.toNatClampNeg x0)))))))))] [.int (w.2.2.2.2.2.2.2.2.1 2), .int (w.1 / 10), .int (bif hEq (w.2.2.2.2.2.1 (Int32.toNatClampNeg x0)) 1 then ((w.2.2.2.2.2.2.1 (Int32.toNatClampNeg x0)) - ((w.1 - w.2.1) / 2)) else (bif hEq (w.2.2.2.2.2.1 (Int32.toNatClampNeg x0)) 2 then ((w.2.2.2.2.2.2.1 (Int32.toNatClampNeg x0)) + (w.2.2.2.2.2.2.2.1 (Int32.toNatClampNeg x0))) else (bif hEq (w.2.2.2.2.2.1 (Int32.toNatClampNeg x0)) 3 then ((w.2.2.2.2.2.2.1 (Int32.toNatClampNeg x0)) + (w.2.2.2.2.2.2.2.1 (Int32.toNatClampNeg x0))) else (bif hEq (w.2.2.2.2.2.1 (Int32.toNatClampNeg x0)) 4 then (2 * ((w.2.2.2.2.2.2.1 (Int32.toNatClampNeg x0)) + (w.2.2.2.2.2.2.2.1 (Int32.toNatClampNeg x0)))) else (bif hEq (w.2.2.2.2.2.1 (Int32.toNatClampNeg x0)) 5 then (bif gCmp .lt w.1 (w.2.2.2.2.2.2.2.2.1 3) then (w.2.2.2.2.2.2.1 (Int32.toNatClampNeg x0)) else 0) else (bif hEq (w.2.2.2.2.2.1 (Int32.toNatClampNeg x0)) 6 then (bif gCmp .lt w.1 (w.2.2.2.2.2.2.2.2.1 3) then (w.2.2.2.2.2.2.1 (Int32.toNatClampNeg x0)) else 0) else (w.2.2.2.2.2.2.1 (Int32.toNatClampNeg x0))))))))] rfl ?_
  refine hX_goM 4 (135) [some (.ref 40), some (.int x0), some (.int (bif hEq (w.2.2.2.2.2.1 (Int32.toNatClampNeg x0)) 1 then ((w.2.2.2.2.2.2.1 (Int32.toNatClampNeg x0)) - ((w.1 - w.2.1) / 2)) else (bif hEq (w.2.2.2.2.2.1 (Int32.toNatClampNeg x0)) 2 then ((w.2.2.2.2.2.2.1 (Int32.toNatClampNeg x0)) + (w.2.2.2.2.2.2.2.1 (Int32.toNatClampNeg x0))) else (bif hEq (w.2.2.2.2.2.1 (Int32.toNatClampNeg x0)) 3 then ((w.2.2.2.2.2.2.1 (Int32.toNatClampNeg x0)) + (w.2.2.2.2.2.2.2.1 (Int32.toNatClampNeg x0))) else (bif hEq (w.2.2.2.2.2.1 (Int32.toNatClampNeg x0)) 4 then (2 * ((w.2.2.2.2.2.2.1 (Int32.toNatClampNeg x0)) + (w.2.2.2.2.2.2.2.1 (Int32.toNatClampNeg x0)))) else (bif hEq (w.2.2.2.2.2.1 (Int32.toNatClampNeg x0)) 5 then (bif gCmp .lt w.1 (w.2.2.2.2.2.2.2.2.1 3) then (w.2.2.2.2.2.2.1 (Int32.toNatClampNeg x0)) else 0) else (bif hEq (w.2.2.2.2.2.1 (Int32.toNatClampNeg x0)) 6 then (bif gCmp .lt w.1 (w.2.2.2.2.2.2.2.2.1 3) then (w.2.2.2.2.2.2.1 (Int32.toNatClampNeg x0)) else 0) else (w.2.2.2.2.2.2.1 (Int32.toNatClampNeg x0)))))))))] [.int ((bif hEq (w.2.2.2.2.2.1 (Int32.toNatClampNeg x0)) 1 then ((w.2.2.2.2.2.2.1 (Int32.toNatClampNeg x0)) - ((w.1 - w.2.1) / 2)) else (bif hEq (w.2.2.2.2.2.1 (Int32.toNatClampNeg x0)) 2 then ((w.2.2.2.2.2.2.1 (Int32.toNatClampNeg x0)) + (w.2.2.2.2.2.2.2.1 (Int32.toNatClampNeg x0))) else (bif hEq (w.2.2.2.2.2.1 (Int32.toNatClampNeg x0)) 3 then ((w.2.2.2.2.2.2.1 (Int32.toNatClampNeg x0)) + (w.2.2.2.2.2.2.2.1 (Int32.toNatClampNeg x0))) else (bif hEq (w.2.2.2.2.2.1 (Int32.toNatClampNeg x0)) 4 then (2 * ((w.2.2.2.2.2.2.1 (Int32.toNatClampNeg x0)) + (w.2.2.2.2.2.2.2.1 (Int32.toNatClampNeg x0)))) else (bif hEq (w.2.2.2.2.2.1 (Int32.toNatClampNeg x0)) 5 then (bif gCmp .lt w.1 (w.2.2.2.2.2.2.2.2.1 3) then (w.2.2.2.2.2.2.1 (Int32.toNatClampNeg x0)) else 0) else (bif hEq (w.2.2.2.2.2.1 (Int32.toNatClampNeg x0)) 6 then (bif gCmp .lt w.1 (w.2.2.2.2.2.2.2.2.1 3) then (w.2.2.2.2.2.2.1 (Int32.toNatClampNeg x0)) else 0) else (w.2.2.2.2.2.2.1 (Int32.toNatClampNeg x0)))))))) + (((w.1 / 10) * (w.2.2.2.2.2.2.2.2.1 2)) / 4))] rfl ?_
  exact hX_end rfl (rfl) (rfl)
