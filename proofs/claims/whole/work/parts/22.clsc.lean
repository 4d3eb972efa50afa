/-- UpOneSide.fits: the loop at 60 -/
def lp_92_0_60_59 (N : Nat) (y2 : Int32) (b : hB) (h2 : hSt) : Nat → Int32 → Int32 → hB → Option (Int32 × Int32 × hB)
  | 0, _, _, _ => none
  | n + 1, y4, y5, d =>
    (bif gCmp .ge y5 100 then
      some (y4, y5, d)
    else
      (Option.bind (me_119_0_59 N y2 y5 b d h2) fun q2 =>
      lp_92_0_60_59 N y2 b h2 n (bif gCmp .eq q2.1 0 then y4 else (y4 + 1)) (y5 + 1) q2.2))
set_option maxRecDepth 20000 in
set_option maxHeartbeats 4000000 in
theorem lt_92_0_60_59 {LL : Nat} {xs : Nat → Int32} {D N : Nat} {b k s w : hB} {ik ex pr wd : Int32} {sn : Nat → Int64} {qu tb : Nat → Int32} {ts : Int32} {r0 : Value} {rq : hRq} {h0 h1 h2 h3 : hSt} {fi : Nat → Int32} {R : List gE} {y1 : Int32} {y2 : Int32} {v : Option Value} {M' : List gE} : ∀ (n : Nat) (y4 : Int32) (y5 : Int32) (d : hB) (q : Int32 × Int32 × hB), lp_92_0_60_59 N y2 b h2 n y4 y5 d = some q → (kk : hX (gO LL xs) (D + 3) zR_92 87 [some (.ref 0), some (.int y1), some (.int y2), some (.ref 59), some (.int q.1), some (.int q.2.1)] [] (hCm b q.2.2 k s w ik ex pr wd sn qu tb ts (r0, rq) h0 h1 h2 h3 fi R) v M') → hX (gO LL xs) (D + 3) zR_92 60 [some (.ref 0), some (.int y1), some (.int y2), some (.ref 59), some (.int y4), some (.int y5)] [] (hCm b d k s w ik ex pr wd sn qu tb ts (r0, rq) h0 h1 h2 h3 fi R) v M' := by
  intro n
  induction n with
  | zero => intro y4 y5 d q h; cases h
  | succ n ih =>
    intro y4 y5 d q h kk
    rw [lp_92_0_60_59] at h
    refine hX_go 3 (bif gCmp .ge y5 100 then 87 else 67) [some (.ref 0), some (.int y1), some (.int y2), some (.ref 59), some (.int y4), some (.int y5)] [] (hCm b d k s w ik ex pr wd sn qu tb ts (r0, rq) h0 h1 h2 h3 fi R) rfl ?_
    refine hX_if (gCmp .ge y5 100) (fun c1 => ?_) (fun c1 => ?_)
    · skip
      have h := gcT c1 h
      have h := Option.some.inj h; subst h
      exact kk
    · skip
      have h := gcF c1 h
      refine hX_goM 4 (72) [some (.ref 0), some (.int y1), some (.int y2), some (.ref 59), some (.int y4), some (.int y5)] [.int y5, .int y2, .ref 59, .ref 0] rfl ?_
      revert h; refine gBindR fun q2 e2 h => ?_
      refine hX_call (r' := zR_119) rfl (mt_119_0_59 N y2 y5 q2 e2) ?_
      refine hX_go 1 (bif gCmp .eq q2.1 0 then 81 else 78) [some (.ref 0), some (.int y1), some (.int y2), some (.ref 59), some (.int y4), some (.int y5)] [] (hCm b q2.2 k s w ik ex pr wd sn qu tb ts (r0, rq) h0 h1 h2 h3 fi R) rfl ?_
      refine hX_mrg 81 [some (.ref 0), some (.int y1), some (.int y2), some (.ref 59), some (.int (bif gCmp .eq q2.1 0 then y4 else (y4 + 1))), some (.int y5)] [] (hCm b q2.2 k s w ik ex pr wd sn qu tb ts (r0, rq) h0 h1 h2 h3 fi R) (fun hk => ?_) ?_
      · skip
        refine hX_if (gCmp .eq q2.1 0) (fun c4 => ?_) (fun c4 => ?_)
        · skip
          have hk := hk
          simp only [c4, cond_true, cond_false] at hk
          first | exact hk | (simp only [c4, cond_true, cond_false]; exact hk)
        · skip
          refine hX_goM 1 (81) [some (.ref 0), some (.int y1), some (.int y2), some (.ref 59), some (.int (y4 + 1)), some (.int y5)] [] rfl ?_
          have hk := hk
          simp only [c4, cond_true, cond_false] at hk
          first | exact hk | (simp only [c4, cond_true, cond_false]; exact hk)
      refine hX_goM 2 (60) [some (.ref 0), some (.int y1), some (.int y2), some (.ref 59), some (.int (bif gCmp .eq q2.1 0 then y4 else (y4 + 1))), some (.int (y5 + 1))] [] rfl ?_
      exact ih (bif gCmp .eq q2.1 0 then y4 else (y4 + 1)) (y5 + 1) q2.2 q h kk

/-- UpOneSide.fits: the loop at 60 -/
def lp_92_0_60_61 (N : Nat) (y2 : Int32) (b : hB) (h3 : hSt) : Nat → Int32 → Int32 → hB → Option (Int32 × Int32 × hB)
  | 0, _, _, _ => none
  | n + 1, y4, y5, d =>
    (bif gCmp .ge y5 100 then
      some (y4, y5, d)
    else
      (Option.bind (me_119_0_61 N y2 y5 b d h3) fun q2 =>
      lp_92_0_60_61 N y2 b h3 n (bif gCmp .eq q2.1 0 then y4 else (y4 + 1)) (y5 + 1) q2.2))
set_option maxRecDepth 20000 in
set_option maxHeartbeats 4000000 in
theorem lt_92_0_60_61 {LL : Nat} {xs : Nat → Int32} {D N : Nat} {b k s w : hB} {ik ex pr wd : Int32} {sn : Nat → Int64} {qu tb : Nat → Int32} {ts : Int32} {r0 : Value} {rq : hRq} {h0 h1 h2 h3 : hSt} {fi : Nat → Int32} {R : List gE} {y1 : Int32} {y2 : Int32} {v : Option Value} {M' : List gE} : ∀ (n : Nat) (y4 : Int32) (y5 : Int32) (d : hB) (q : Int32 × Int32 × hB), lp_92_0_60_61 N y2 b h3 n y4 y5 d = some q → (kk : hX (gO LL xs) (D + 3) zR_92 87 [some (.ref 0), some (.int y1), some (.int y2), some (.ref 61), some (.int q.1), some (.int q.2.1)] [] (hCm b q.2.2 k s w ik ex pr wd sn qu tb ts (r0, rq) h0 h1 h2 h3 fi R) v M') → hX (gO LL xs) (D + 3) zR_92 60 [some (.ref 0), some (.int y1), some (.int y2), some (.ref 61), some (.int y4), some (.int y5)] [] (hCm b d k s w ik ex pr wd sn qu tb ts (r0, rq) h0 h1 h2 h3 fi R) v M' := by
  intro n
  induction n with
  | zero => intro y4 y5 d q h; cases h
  | succ n ih =>
    intro y4 y5 d q h kk
    rw [lp_92_0_60_61] at h
    refine hX_go 3 (bif gCmp .ge y5 100 then 87 else 67) [some (.ref 0), some (.int y1), some (.int y2), some (.ref 61), some (.int y4), some (.int y5)] [] (hCm b d k s w ik ex pr wd sn qu tb ts (r0, rq) h0 h1 h2 h3 fi R) rfl ?_
    refine hX_if (gCmp .ge y5 100) (fun c1 => ?_) (fun c1 => ?_)
    · skip
      have h := gcT c1 h
      have h := Option.some.inj h; subst h
      exact kk
    · skip
      have h := gcF c1 h
      refine hX_goM 4 (72) [some (.ref 0), some (.int y1), some (.int y2), some (.ref 61), some (.int y4), some (.int y5)] [.int y5, .int y2, .ref 61, .ref 0] rfl ?_
      revert h; refine gBindR fun q2 e2 h => ?_
      refine hX_call (r' := zR_119) rfl (mt_119_0_61 N y2 y5 q2 e2) ?_
      refine hX_go 1 (bif gCmp .eq q2.1 0 then 81 else 78) [some (.ref 0), some (.int y1), some (.int y2), some (.ref 61), some (.int y4), some (.int y5)] [] (hCm b q2.2 k s w ik ex pr wd sn qu tb ts (r0, rq) h0 h1 h2 h3 fi R) rfl ?_
      refine hX_mrg 81 [some (.ref 0), some (.int y1), some (.int y2), some (.ref 61), some (.int (bif gCmp .eq q2.1 0 then y4 else (y4 + 1))), some (.int y5)] [] (hCm b q2.2 k s w ik ex pr wd sn qu tb ts (r0, rq) h0 h1 h2 h3 fi R) (fun hk => ?_) ?_
      · skip
        refine hX_if (gCmp .eq q2.1 0) (fun c4 => ?_) (fun c4 => ?_)
        · skip
          have hk := hk
          simp only [c4, cond_true, cond_false] at hk
          first | exact hk | (simp only [c4, cond_true, cond_false]; exact hk)
        · skip
          refine hX_goM 1 (81) [some (.ref 0), some (.int y1), some (.int y2), some (.ref 61), some (.int (y4 + 1)), some (.int y5)] [] rfl ?_
          have hk := hk
          simp only [c4, cond_true, cond_false] at hk
          first | exact hk | (simp only [c4, cond_true, cond_false]; exact hk)
      refine hX_goM 2 (60) [some (.ref 0), some (.int y1), some (.int y2), some (.ref 61), some (.int (bif gCmp .eq q2.1 0 then y4 else (y4 + 1))), some (.int (y5 + 1))] [] rfl ?_
      exact ih (bif gCmp .eq q2.1 0 then y4 else (y4 + 1)) (y5 + 1) q2.2 q h kk

/-- UpOneSide.fits(II)I -/
def me_92_0 (N : Nat) (x0 : Int32) (x1 : Int32) (b : hB) (d : hB) (h0 : hSt) (h1 : hSt) (h2 : hSt) (h3 : hSt) (fi : Nat → Int32) : Option (Int32 × hB × (Nat → Int32)) :=
  (bif gCmp .lt x0 0 then
    some (v_111_0 0, d, f_111_0_fi 0 fi)
  else
    (bif gCmp .lt x0 4 then
      (bif hEq x0 0 then
        (bif gCmp .eq (v_53_55 h0) 0 then
          (bif gCmp .eq (v_113_0 x1 b) 0 then
            (Option.bind (lp_92_0_60_55 N x1 b h0 N 0 0 (f_10_10_1_d b d)) fun q6 =>
            some (q6.1, q6.2.2, fi))
          else
            some (v_111_0 0, d, f_111_0_fi 0 fi))
        else
          some (v_111_0 5, d, f_111_0_fi 5 fi))
      else
        (bif hEq x0 1 then
          (bif gCmp .eq (v_53_57 h1) 0 then
            (bif gCmp .eq (v_113_0 x1 b) 0 then
              (Option.bind (lp_92_0_60_57 N x1 b h1 N 0 0 (f_10_10_1_d b d)) fun q10 =>
              some (q10.1, q10.2.2, fi))
            else
              some (v_111_0 0, d, f_111_0_fi 0 fi))
          else
            some (v_111_0 5, d, f_111_0_fi 5 fi))
        else
          (bif hEq x0 2 then
            (bif gCmp .eq (v_53_59 h2) 0 then
              (bif gCmp .eq (v_113_0 x1 b) 0 then
                (Option.bind (lp_92_0_60_59 N x1 b h2 N 0 0 (f_10_10_1_d b d)) fun q14 =>
                some (q14.1, q14.2.2, fi))
              else
                some (v_111_0 0, d, f_111_0_fi 0 fi))
            else
              some (v_111_0 5, d, f_111_0_fi 5 fi))
          else
            (bif gCmp .eq (v_53_61 h3) 0 then
              (bif gCmp .eq (v_113_0 x1 b) 0 then
                (Option.bind (lp_92_0_60_61 N x1 b h3 N 0 0 (f_10_10_1_d b d)) fun q17 =>
                some (q17.1, q17.2.2, fi))
              else
                some (v_111_0 0, d, f_111_0_fi 0 fi))
            else
              some (v_111_0 5, d, f_111_0_fi 5 fi)))))
    else
      some (v_111_0 0, d, f_111_0_fi 0 fi)))
set_option maxRecDepth 20000 in
set_option maxHeartbeats 4000000 in
theorem mt_92_0 {LL : Nat} {xs : Nat → Int32} {D : Nat} {b d k s w : hB} {ik ex pr wd : Int32} {sn : Nat → Int64} {qu tb : Nat → Int32} {ts : Int32} {r0 : Value} {rq : hRq} {h0 h1 h2 h3 : hSt} {fi : Nat → Int32} {R : List gE} (N : Nat) (x0 : Int32) (x1 : Int32) (q : Int32 × hB × (Nat → Int32)) (h : me_92_0 N x0 x1 b d h0 h1 h2 h3 fi = some q) : hM (gO LL xs) (D + 3) zR_92 [.ref 0, .int x0, .int x1] (hCm b d k s w ik ex pr wd sn qu tb ts (r0, rq) h0 h1 h2 h3 fi R) (some (.int q.1)) (hCm b q.2.1 k s w ik ex pr wd sn qu tb ts (r0, rq) h0 h1 h2 h3 q.2.2 R) := by
  unfold me_92_0 at h
  refine hX_go 0 0 [some (.ref 0), some (.int x0), some (.int x1), none, none, none] [] (hCm b d k s w ik ex pr wd sn qu tb ts (r0, rq) h0 h1 h2 h3 fi R) rfl ?_
  refine hX_go 2 (2) [some (.ref 0), some (.int x0), some (.int x1), none, none, none] [.int x0, .ref 0] (hCm b d k s w ik ex pr wd sn qu tb ts (r0, rq) h0 h1 h2 h3 fi R) rfl ?_
  refine hX_bif (gCmp .lt x0 0) (fun c1 => ?_) (fun c1 => ?_)
  · skip
    have h := gcT c1 h
    refine hX_call (r' := zR_114) rfl (ct_114_0_0 x0 c1) ?_
    refine hX_goM 5 (12) [some (.ref 0), some (.int x0), some (.int x1), some (.null), none, none] [.int 0, .ref 0] rfl ?_
    refine hX_call (r' := zR_111) rfl (ct_111_0 0 rfl) ?_
    refine hX_go 0 (15) [some (.ref 0), some (.int x0), some (.int x1), some (.null), none, none] [.int (v_111_0 0)] (hCm b d k s w ik ex pr wd sn qu tb ts (r0, rq) h0 h1 h2 h3 (f_111_0_fi 0 fi) R) rfl ?_
    have h := Option.some.inj h; subst h
    exact hX_end rfl rfl rfl
  · skip
    have h := gcF c1 h
    refine hX_bif (gCmp .lt x0 4) (fun c2 => ?_) (fun c2 => ?_)
    · skip
      have h := gcT c2 h
      refine hX_bif (hEq x0 0) (fun c3 => ?_) (fun c3 => ?_)
      · skip
        have h := gcT c3 h
        refine hX_call (r' := zR_114) rfl (ct_114_0_2 x0 c1 c2 c3) ?_
        refine hX_goM 4 (17) [some (.ref 0), some (.int x0), some (.int x1), some (.ref 55), none, none] [.ref 55] rfl ?_
        refine hX_call (r' := zR_53) rfl (ct_53_55) ?_
        refine hX_goM 1 (bif gCmp .eq (v_53_55 h0) 0 then 29 else 23) [some (.ref 0), some (.int x0), some (.int x1), some (.ref 55), none, none] [] rfl ?_
        refine hX_if (gCmp .eq (v_53_55 h0) 0) (fun c4 => ?_) (fun c4 => ?_)
        · skip
          have h := gcT c4 h
          refine hX_goM 2 (31) [some (.ref 0), some (.int x0), some (.int x1), some (.ref 55), none, none] [.int x1, .ref 0] rfl ?_
          refine hX_call (r' := zR_113) rfl (ct_113_0 x1) ?_
          refine hX_goM 1 (bif gCmp .eq (v_113_0 x1 b) 0 then 43 else 37) [some (.ref 0), some (.int x0), some (.int x1), some (.ref 55), none, none] [] rfl ?_
          refine hX_if (gCmp .eq (v_113_0 x1 b) 0) (fun c5 => ?_) (fun c5 => ?_)
          · skip
            have h := gcT c5 h
            refine hX_goM 4 (51) [some (.ref 0), some (.int x0), some (.int x1), some (.ref 55), none, none] [.ref 1, .ref 10] rfl ?_
            refine hX_call (r' := zR_10) rfl (ct_10_10_1) ?_
            refine hX_go 4 (60) [some (.ref 0), some (.int x0), some (.int x1), some (.ref 55), some (.int 0), some (.int 0)] [] (hCm b (f_10_10_1_d b d) k s w ik ex pr wd sn qu tb ts (r0, rq) h0 h1 h2 h3 fi R) rfl ?_
            revert h; refine gBindR fun q6 e6 h => ?_
            refine lt_92_0_60_55 N 0 0 (f_10_10_1_d b d) q6 e6 ?_
            refine hX_go 1 (89) [some (.ref 0), some (.int x0), some (.int x1), some (.ref 55), some (.int q6.1), some (.int q6.2.1)] [.int q6.1] (hCm b q6.2.2 k s w ik ex pr wd sn qu tb ts (r0, rq) h0 h1 h2 h3 fi R) rfl ?_
            have h := Option.some.inj h; subst h
            exact hX_end rfl rfl rfl
          · skip
            have h := gcF c5 h
            refine hX_goM 2 (39) [some (.ref 0), some (.int x0), some (.int x1), some (.ref 55), none, none] [.int 0, .ref 0] rfl ?_
            refine hX_call (r' := zR_111) rfl (ct_111_0 0 rfl) ?_
            refine hX_go 0 (42) [some (.ref 0), some (.int x0), some (.int x1), some (.ref 55), none, none] [.int (v_111_0 0)] (hCm b d k s w ik ex pr wd sn qu tb ts (r0, rq) h0 h1 h2 h3 (f_111_0_fi 0 fi) R) rfl ?_
            have h := Option.some.inj h; subst h
            exact hX_end rfl rfl rfl
        · skip
          have h := gcF c4 h
          refine hX_goM 2 (25) [some (.ref 0), some (.int x0), some (.int x1), some (.ref 55), none, none] [.int 5, .ref 0] rfl ?_
          refine hX_call (r' := zR_111) rfl (ct_111_0 5 rfl) ?_
          refine hX_go 0 (28) [some (.ref 0), some (.int x0), some (.int x1), some (.ref 55), none, none] [.int (v_111_0 5)] (hCm b d k s w ik ex pr wd sn qu tb ts (r0, rq) h0 h1 h2 h3 (f_111_0_fi 5 fi) R) rfl ?_
          have h := Option.some.inj h; subst h
          exact hX_end rfl rfl rfl
      · skip
        have h := gcF c3 h
        refine hX_bif (hEq x0 1) (fun c7 => ?_) (fun c7 => ?_)
        · skip
          have h := gcT c7 h
          refine hX_call (r' := zR_114) rfl (ct_114_0_3 x0 c1 c2 c3 c7) ?_
          refine hX_goM 4 (17) [some (.ref 0), some (.int x0), some (.int x1), some (.ref 57), none, none] [.ref 57] rfl ?_
          refine hX_call (r' := zR_53) rfl (ct_53_57) ?_
          refine hX_goM 1 (bif gCmp .eq (v_53_57 h1) 0 then 29 else 23) [some (.ref 0), some (.int x0), some (.int x1), some (.ref 57), none, none] [] rfl ?_
          refine hX_if (gCmp .eq (v_53_57 h1) 0) (fun c8 => ?_) (fun c8 => ?_)
          · skip
            have h := gcT c8 h
            refine hX_goM 2 (31) [some (.ref 0), some (.int x0), some (.int x1), some (.ref 57), none, none] [.int x1, .ref 0] rfl ?_
            refine hX_call (r' := zR_113) rfl (ct_113_0 x1) ?_
            refine hX_goM 1 (bif gCmp .eq (v_113_0 x1 b) 0 then 43 else 37) [some (.ref 0), some (.int x0), some (.int x1), some (.ref 57), none, none] [] rfl ?_
            refine hX_if (gCmp .eq (v_113_0 x1 b) 0) (fun c9 => ?_) (fun c9 => ?_)
            · skip
              have h := gcT c9 h
              refine hX_goM 4 (51) [some (.ref 0), some (.int x0), some (.int x1), some (.ref 57), none, none] [.ref 1, .ref 10] rfl ?_
              refine hX_call (r' := zR_10) rfl (ct_10_10_1) ?_
              refine hX_go 4 (60) [some (.ref 0), some (.int x0), some (.int x1), some (.ref 57), some (.int 0), some (.int 0)] [] (hCm b (f_10_10_1_d b d) k s w ik ex pr wd sn qu tb ts (r0, rq) h0 h1 h2 h3 fi R) rfl ?_
              revert h; refine gBindR fun q10 e10 h => ?_
              refine lt_92_0_60_57 N 0 0 (f_10_10_1_d b d) q10 e10 ?_
              refine hX_go 1 (89) [some (.ref 0), some (.int x0), some (.int x1), some (.ref 57), some (.int q10.1), some (.int q10.2.1)] [.int q10.1] (hCm b q10.2.2 k s w ik ex pr wd sn qu tb ts (r0, rq) h0 h1 h2 h3 fi R) rfl ?_
              have h := Option.some.inj h; subst h
              exact hX_end rfl rfl rfl
            · skip
              have h := gcF c9 h
              refine hX_goM 2 (39) [some (.ref 0), some (.int x0), some (.int x1), some (.ref 57), none, none] [.int 0, .ref 0] rfl ?_
              refine hX_call (r' := zR_111) rfl (ct_111_0 0 rfl) ?_
              refine hX_go 0 (42) [some (.ref 0), some (.int x0), some (.int x1), some (.ref 57), none, none] [.int (v_111_0 0)] (hCm b d k s w ik ex pr wd sn qu tb ts (r0, rq) h0 h1 h2 h3 (f_111_0_fi 0 fi) R) rfl ?_
              have h := Option.some.inj h; subst h
              exact hX_end rfl rfl rfl
          · skip
            have h := gcF c8 h
            refine hX_goM 2 (25) [some (.ref 0), some (.int x0), some (.int x1), some (.ref 57), none, none] [.int 5, .ref 0] rfl ?_
            refine hX_call (r' := zR_111) rfl (ct_111_0 5 rfl) ?_
            refine hX_go 0 (28) [some (.ref 0), some (.int x0), some (.int x1), some (.ref 57), none, none] [.int (v_111_0 5)] (hCm b d k s w ik ex pr wd sn qu tb ts (r0, rq) h0 h1 h2 h3 (f_111_0_fi 5 fi) R) rfl ?_
            have h := Option.some.inj h; subst h
            exact hX_end rfl rfl rfl
        · skip
          have h := gcF c7 h
          refine hX_bif (hEq x0 2) (fun c11 => ?_) (fun c11 => ?_)
          · skip
            have h := gcT c11 h
            refine hX_call (r' := zR_114) rfl (ct_114_0_4 x0 c1 c2 c3 c7 c11) ?_
            refine hX_goM 4 (17) [some (.ref 0), some (.int x0), some (.int x1), some (.ref 59), none, none] [.ref 59] rfl ?_
            refine hX_call (r' := zR_53) rfl (ct_53_59) ?_
            refine hX_goM 1 (bif gCmp .eq (v_53_59 h2) 0 then 29 else 23) [some (.ref 0), some (.int x0), some (.int x1), some (.ref 59), none, none] [] rfl ?_
            refine hX_if (gCmp .eq (v_53_59 h2) 0) (fun c12 => ?_) (fun c12 => ?_)
            · skip
              have h := gcT c12 h
              refine hX_goM 2 (31) [some (.ref 0), some (.int x0), some (.int x1), some (.ref 59), none, none] [.int x1, .ref 0] rfl ?_
              refine hX_call (r' := zR_113) rfl (ct_113_0 x1) ?_
              refine hX_goM 1 (bif gCmp .eq (v_113_0 x1 b) 0 then 43 else 37) [some (.ref 0), some (.int x0), some (.int x1), some (.ref 59), none, none] [] rfl ?_
              refine hX_if (gCmp .eq (v_113_0 x1 b) 0) (fun c13 => ?_) (fun c13 => ?_)
              · skip
                have h := gcT c13 h
                refine hX_goM 4 (51) [some (.ref 0), some (.int x0), some (.int x1), some (.ref 59), none, none] [.ref 1, .ref 10] rfl ?_
                refine hX_call (r' := zR_10) rfl (ct_10_10_1) ?_
                refine hX_go 4 (60) [some (.ref 0), some (.int x0), some (.int x1), some (.ref 59), some (.int 0), some (.int 0)] [] (hCm b (f_10_10_1_d b d) k s w ik ex pr wd sn qu tb ts (r0, rq) h0 h1 h2 h3 fi R) rfl ?_
                revert h; refine gBindR fun q14 e14 h => ?_
                refine lt_92_0_60_59 N 0 0 (f_10_10_1_d b d) q14 e14 ?_
                refine hX_go 1 (89) [some (.ref 0), some (.int x0), some (.int x1), some (.ref 59), some (.int q14.1), some (.int q14.2.1)] [.int q14.1] (hCm b q14.2.2 k s w ik ex pr wd sn qu tb ts (r0, rq) h0 h1 h2 h3 fi R) rfl ?_
                have h := Option.some.inj h; subst h
                exact hX_end rfl rfl rfl
              · skip
                have h := gcF c13 h
                refine hX_goM 2 (39) [some (.ref 0), some (.int x0), some (.int x1), some (.ref 59), none, none] [.int 0, .ref 0] rfl ?_
                refine hX_call (r' := zR_111) rfl (ct_111_0 0 rfl) ?_
                refine hX_go 0 (42) [some (.ref 0), some (.int x0), some (.int x1), some (.ref 59), none, none] [.int (v_111_0 0)] (hCm b d k s w ik ex pr wd sn qu tb ts (r0, rq) h0 h1 h2 h3 (f_111_0_fi 0 fi) R) rfl ?_
                have h := Option.some.inj h; subst h
                exact hX_end rfl rfl rfl
            · skip
              have h := gcF c12 h
              refine hX_goM 2 (25) [some (.ref 0), some (.int x0), some (.int x1), some (.ref 59), none, none] [.int 5, .ref 0] rfl ?_
              refine hX_call (r' := zR_111) rfl (ct_111_0 5 rfl) ?_
              refine hX_go 0 (28) [some (.ref 0), some (.int x0), some (.int x1), some (.ref 59), none, none] [.int (v_111_0 5)] (hCm b d k s w ik ex pr wd sn qu tb ts (r0, rq) h0 h1 h2 h3 (f_111_0_fi 5 fi) R) rfl ?_
              have h := Option.some.inj h; subst h
              exact hX_end rfl rfl rfl
          · skip
            have h := gcF c11 h
            refine hX_call (r' := zR_114) rfl (ct_114_0_5 x0 c1 c2 c3 c7 c11) ?_
            refine hX_goM 4 (17) [some (.ref 0), some (.int x0), some (.int x1), some (.ref 61), none, none] [.ref 61] rfl ?_
            refine hX_call (r' := zR_53) rfl (ct_53_61) ?_
            refine hX_goM 1 (bif gCmp .eq (v_53_61 h3) 0 then 29 else 23) [some (.ref 0), some (.int x0), some (.int x1), some (.ref 61), none, none] [] rfl ?_
            refine hX_if (gCmp .eq (v_53_61 h3) 0) (fun c15 => ?_) (fun c15 => ?_)
            · skip
              have h := gcT c15 h
              refine hX_goM 2 (31) [some (.ref 0), some (.int x0), some (.int x1), some (.ref 61), none, none] [.int x1, .ref 0] rfl ?_
              refine hX_call (r' := zR_113) rfl (ct_113_0 x1) ?_
              refine hX_goM 1 (bif gCmp .eq (v_113_0 x1 b) 0 then 43 else 37) [some (.ref 0), some (.int x0), some (.int x1), some (.ref 61), none, none] [] rfl ?_
              refine hX_if (gCmp .eq (v_113_0 x1 b) 0) (fun c16 => ?_) (fun c16 => ?_)
              · skip
                have h := gcT c16 h
                refine hX_goM 4 (51) [some (.ref 0), some (.int x0), some (.int x1), some (.ref 61), none, none] [.ref 1, .ref 10] rfl ?_
                refine hX_call (r' := zR_10) rfl (ct_10_10_1) ?_
                refine hX_go 4 (60) [some (.ref 0), some (.int x0), some (.int x1), some (.ref 61), some (.int 0), some (.int 0)] [] (hCm b (f_10_10_1_d b d) k s w ik ex pr wd sn qu tb ts (r0, rq) h0 h1 h2 h3 fi R) rfl ?_
                revert h; refine gBindR fun q17 e17 h => ?_
                refine lt_92_0_60_61 N 0 0 (f_10_10_1_d b d) q17 e17 ?_
                refine hX_go 1 (89) [some (.ref 0), some (.int x0), some (.int x1), some (.ref 61), some (.int q17.1), some (.int q17.2.1)] [.int q17.1] (hCm b q17.2.2 k s w ik ex pr wd sn qu tb ts (r0, rq) h0 h1 h2 h3 fi R) rfl ?_
                have h := Option.some.inj h; subst h
                exact hX_end rfl rfl rfl
              · skip
                have h := gcF c16 h
                refine hX_goM 2 (39) [some (.ref 0), some (.int x0), some (.int x1), some (.ref 61), none, none] [.int 0, .ref 0] rfl ?_
                refine hX_call (r' := zR_111) rfl (ct_111_0 0 rfl) ?_
                refine hX_go 0 (42) [some (.ref 0), some (.int x0), some (.int x1), some (.ref 61), none, none] [.int (v_111_0 0)] (hCm b d k s w ik ex pr wd sn qu tb ts (r0, rq) h0 h1 h2 h3 (f_111_0_fi 0 fi) R) rfl ?_
                have h := Option.some.inj h; subst h
                exact hX_end rfl rfl rfl
            · skip
              have h := gcF c15 h
              refine hX_goM 2 (25) [some (.ref 0), some (.int x0), some (.int x1), some (.ref 61), none, none] [.int 5, .ref 0] rfl ?_
              refine hX_call (r' := zR_111) rfl (ct_111_0 5 rfl) ?_
              refine hX_go 0 (28) [some (.ref 0), some (.int x0), some (.int x1), some (.ref 61), none, none] [.int (v_111_0 5)] (hCm b d k s w ik ex pr wd sn qu tb ts (r0, rq) h0 h1 h2 h3 (f_111_0_fi 5 fi) R) rfl ?_
              have h := Option.some.inj h; subst h
              exact hX_end rfl rfl rfl
    · skip
      have h := gcF c2 h
      refine hX_call (r' := zR_114) rfl (ct_114_0_1 x0 c1 c2) ?_
      refine hX_goM 5 (12) [some (.ref 0), some (.int x0), some (.int x1), some (.null), none, none] [.int 0, .ref 0] rfl ?_
      refine hX_call (r' := zR_111) rfl (ct_111_0 0 rfl) ?_
      refine hX_go 0 (15) [some (.ref 0), some (.int x0), some (.int x1), some (.null), none, none] [.int (v_111_0 0)] (hCm b d k s w ik ex pr wd sn qu tb ts (r0, rq) h0 h1 h2 h3 (f_111_0_fi 0 fi) R) rfl ?_
      have h := Option.some.inj h; subst h
      exact hX_end rfl rfl rfl

/-- UpOneSide.slips: the loop at 57 -/
def lp_93_0_57_55 (N : Nat) (y2 : Int32) (b : hB) (h0 : hSt) (fi : Nat → Int32) : Nat → Int32 → hB → Option (Int32 × hB × (Nat → Int32))
  | 0, _, _ => none
  | n + 1, y4, d =>
    (bif gCmp .ge y4 100 then
      some (v_111_0 3, d, f_111_0_fi 3 fi)
    else
      (Option.bind (me_119_0_55 N y2 y4 b d h0) fun q2 =>
      (bif gCmp .eq q2.1 0 then
        lp_93_0_57_55 N y2 b h0 fi n (y4 + 1) q2.2
      else
        some (y4, q2.2, fi))))
set_option maxRecDepth 20000 in
set_option maxHeartbeats 4000000 in
theorem lt_93_0_57_55 {LL : Nat} {xs : Nat → Int32} {D N : Nat} {b k s w : hB} {ik ex pr wd : Int32} {sn : Nat → Int64} {qu tb : Nat → Int32} {ts : Int32} {r0 : Value} {rq : hRq} {h0 h1 h2 h3 : hSt} {fi : Nat → Int32} {R : List gE} {y1 : Int32} {y2 : Int32} : ∀ (n : Nat) (y4 : Int32) (d : hB) (q : Int32 × hB × (Nat → Int32)), lp_93_0_57_55 N y2 b h0 fi n y4 d = some q → hX (gO LL xs) (D + 3) zR_93 57 [some (.ref 0), some (.int y1), some (.int y2), some (.ref 55), some (.int y4)] [] (hCm b d k s w ik ex pr wd sn qu tb ts (r0, rq) h0 h1 h2 h3 fi R) (some (.int q.1)) (hCm b q.2.1 k s w ik ex pr wd sn qu tb ts (r0, rq) h0 h1 h2 h3 q.2.2 R) := by
  intro n
  induction n with
  | zero => intro y4 d q h; cases h
  | succ n ih =>
    intro y4 d q h
    rw [lp_93_0_57_55] at h
    refine hX_go 3 (bif gCmp .ge y4 100 then 84 else 64) [some (.ref 0), some (.int y1), some (.int y2), some (.ref 55), some (.int y4)] [] (hCm b d k s w ik ex pr wd sn qu tb ts (r0, rq) h0 h1 h2 h3 fi R) rfl ?_
    refine hX_if (gCmp .ge y4 100) (fun c1 => ?_) (fun c1 => ?_)
    · skip
      have h := gcT c1 h
      refine hX_goM 2 (86) [some (.ref 0), some (.int y1), some (.int y2), some (.ref 55), some (.int y4)] [.int 3, .ref 0] rfl ?_
      refine hX_call (r' := zR_111) rfl (ct_111_0 3 rfl) ?_
      refine hX_go 0 (89) [some (.ref 0), some (.int y1), some (.int y2), some (.ref 55), some (.int y4)] [.int (v_111_0 3)] (hCm b d k s w ik ex pr wd sn qu tb ts (r0, rq) h0 h1 h2 h3 (f_111_0_fi 3 fi) R) rfl ?_
      have h := Option.some.inj h; subst h
      exact hX_end rfl rfl rfl
    · skip
      have h := gcF c1 h
      refine hX_goM 4 (69) [some (.ref 0), some (.int y1), some (.int y2), some (.ref 55), some (.int y4)] [.int y4, .int y2, .ref 55, .ref 0] rfl ?_
      revert h; refine gBindR fun q2 e2 h => ?_
      refine hX_call (r' := zR_119) rfl (mt_119_0_55 N y2 y4 q2 e2) ?_
      refine hX_go 1 (bif gCmp .eq q2.1 0 then 78 else 75) [some (.ref 0), some (.int y1), some (.int y2), some (.ref 55), some (.int y4)] [] (hCm b q2.2 k s w ik ex pr wd sn qu tb ts (r0, rq) h0 h1 h2 h3 fi R) rfl ?_
      refine hX_if (gCmp .eq q2.1 0) (fun c3 => ?_) (fun c3 => ?_)
      · skip
        have h := gcT c3 h
        refine hX_goM 2 (57) [some (.ref 0), some (.int y1), some (.int y2), some (.ref 55), some (.int (y4 + 1))] [] rfl ?_
        exact ih (y4 + 1) q2.2 q h
      · skip
        have h := gcF c3 h
        refine hX_goM 1 (77) [some (.ref 0), some (.int y1), some (.int y2), some (.ref 55), some (.int y4)] [.int y4] rfl ?_
        have h := Option.some.inj h; subst h
        exact hX_end rfl rfl rfl

/-- UpOneSide.slips: the loop at 57 -/
def lp_93_0_57_57 (N : Nat) (y2 : Int32) (b : hB) (h1 : hSt) (fi : Nat → Int32) : Nat → Int32 → hB → Option (Int32 × hB × (Nat → Int32))
  | 0, _, _ => none
  | n + 1, y4, d =>
    (bif gCmp .ge y4 100 then
      some (v_111_0 3, d, f_111_0_fi 3 fi)
    else
      (Option.bind (me_119_0_57 N y2 y4 b d h1) fun q2 =>
      (bif gCmp .eq q2.1 0 then
        lp_93_0_57_57 N y2 b h1 fi n (y4 + 1) q2.2
      else
        some (y4, q2.2, fi))))
set_option maxRecDepth 20000 in
set_option maxHeartbeats 4000000 in
theorem lt_93_0_57_57 {LL : Nat} {xs : Nat → Int32} {D N : Nat} {b k s w : hB} {ik ex pr wd : Int32} {sn : Nat → Int64} {qu tb : Nat → Int32} {ts : Int32} {r0 : Value} {rq : hRq} {h0 h1 h2 h3 : hSt} {fi : Nat → Int32} {R : List gE} {y1 : Int32} {y2 : Int32} : ∀ (n : Nat) (y4 : Int32) (d : hB) (q : Int32 × hB × (Nat → Int32)), lp_93_0_57_57 N y2 b h1 fi n y4 d = some q → hX (gO LL xs) (D + 3) zR_93 57 [some (.ref 0), some (.int y1), some (.int y2), some (.ref 57), some (.int y4)] [] (hCm b d k s w ik ex pr wd sn qu tb ts (r0, rq) h0 h1 h2 h3 fi R) (some (.int q.1)) (hCm b q.2.1 k s w ik ex pr wd sn qu tb ts (r0, rq) h0 h1 h2 h3 q.2.2 R) := by
  intro n
  induction n with
  | zero => intro y4 d q h; cases h
  | succ n ih =>
    intro y4 d q h
    rw [lp_93_0_57_57] at h
    refine hX_go 3 (bif gCmp .ge y4 100 then 84 else 64) [some (.ref 0), some (.int y1), some (.int y2), some (.ref 57), some (.int y4)] [] (hCm b d k s w ik ex pr wd sn qu tb ts (r0, rq) h0 h1 h2 h3 fi R) rfl ?_
    refine hX_if (gCmp .ge y4 100) (fun c1 => ?_) (fun c1 => ?_)
    · skip
      have h := gcT c1 h
      refine hX_goM 2 (86) [some (.ref 0), some (.int y1), some (.int y2), some (.ref 57), some (.int y4)] [.int 3, .ref 0] rfl ?_
      refine hX_call (r' := zR_111) rfl (ct_111_0 3 rfl) ?_
      refine hX_go 0 (89) [some (.ref 0), some (.int y1), some (.int y2), some (.ref 57), some (.int y4)] [.int (v_111_0 3)] (hCm b d k s w ik ex pr wd sn qu tb ts (r0, rq) h0 h1 h2 h3 (f_111_0_fi 3 fi) R) rfl ?_
      have h := Option.some.inj h; subst h
      exact hX_end rfl rfl rfl
    · skip
      have h := gcF c1 h
      refine hX_goM 4 (69) [some (.ref 0), some (.int y1), some (.int y2), some (.ref 57), some (.int y4)] [.int y4, .int y2, .ref 57, .ref 0] rfl ?_
      revert h; refine gBindR fun q2 e2 h => ?_
      refine hX_call (r' := zR_119) rfl (mt_119_0_57 N y2 y4 q2 e2) ?_
      refine hX_go 1 (bif gCmp .eq q2.1 0 then 78 else 75) [some (.ref 0), some (.int y1), some (.int y2), some (.ref 57), some (.int y4)] [] (hCm b q2.2 k s w ik ex pr wd sn qu tb ts (r0, rq) h0 h1 h2 h3 fi R) rfl ?_
      refine hX_if (gCmp .eq q2.1 0) (fun c3 => ?_) (fun c3 => ?_)
      · skip
        have h := gcT c3 h
        refine hX_goM 2 (57) [some (.ref 0), some (.int y1), some (.int y2), some (.ref 57), some (.int (y4 + 1))] [] rfl ?_
        exact ih (y4 + 1) q2.2 q h
      · skip
        have h := gcF c3 h
        refine hX_goM 1 (77) [some (.ref 0), some (.int y1), some (.int y2), some (.ref 57), some (.int y4)] [.int y4] rfl ?_
        have h := Option.some.inj h; subst h
        exact hX_end rfl rfl rfl

/-- UpOneSide.slips: the loop at 57 -/
def lp_93_0_57_59 (N : Nat) (y2 : Int32) (b : hB) (h2 : hSt) (fi : Nat → Int32) : Nat → Int32 → hB → Option (Int32 × hB × (Nat → Int32))
  | 0, _, _ => none
  | n + 1, y4, d =>
    (bif gCmp .ge y4 100 then
      some (v_111_0 3, d, f_111_0_fi 3 fi)
    else
      (Option.bind (me_119_0_59 N y2 y4 b d h2) fun q2 =>
      (bif gCmp .eq q2.1 0 then
        lp_93_0_57_59 N y2 b h2 fi n (y4 + 1) q2.2
      else
        some (y4, q2.2, fi))))
set_option maxRecDepth 20000 in
set_option maxHeartbeats 4000000 in
theorem lt_93_0_57_59 {LL : Nat} {xs : Nat → Int32} {D N : Nat} {b k s w : hB} {ik ex pr wd : Int32} {sn : Nat → Int64} {qu tb : Nat → Int32} {ts : Int32} {r0 : Value} {rq : hRq} {h0 h1 h2 h3 : hSt} {fi : Nat → Int32} {R : List gE} {y1 : Int32} {y2 : Int32} : ∀ (n : Nat) (y4 : Int32) (d : hB) (q : Int32 × hB × (Nat → Int32)), lp_93_0_57_59 N y2 b h2 fi n y4 d = some q → hX (gO LL xs) (D + 3) zR_93 57 [some (.ref 0), some (.int y1), some (.int y2), some (.ref 59), some (.int y4)] [] (hCm b d k s w ik ex pr wd sn qu tb ts (r0, rq) h0 h1 h2 h3 fi R) (some (.int q.1)) (hCm b q.2.1 k s w ik ex pr wd sn qu tb ts (r0, rq) h0 h1 h2 h3 q.2.2 R) := by
  intro n
  induction n with
  | zero => intro y4 d q h; cases h
  | succ n ih =>
    intro y4 d q h
    rw [lp_93_0_57_59] at h
    refine hX_go 3 (bif gCmp .ge y4 100 then 84 else 64) [some (.ref 0), some (.int y1), some (.int y2), some (.ref 59), some (.int y4)] [] (hCm b d k s w ik ex pr wd sn qu tb ts (r0, rq) h0 h1 h2 h3 fi R) rfl ?_
    refine hX_if (gCmp .ge y4 100) (fun c1 => ?_) (fun c1 => ?_)
    · skip
      have h := gcT c1 h
      refine hX_goM 2 (86) [some (.ref 0), some (.int y1), some (.int y2), some (.ref 59), some (.int y4)] [.int 3, .ref 0] rfl ?_
      refine hX_call (r' := zR_111) rfl (ct_111_0 3 rfl) ?_
      refine hX_go 0 (89) [some (.ref 0), some (.int y1), some (.int y2), some (.ref 59), some (.int y4)] [.int (v_111_0 3)] (hCm b d k s w ik ex pr wd sn qu tb ts (r0, rq) h0 h1 h2 h3 (f_111_0_fi 3 fi) R) rfl ?_
      have h := Option.some.inj h; subst h
      exact hX_end rfl rfl rfl
    · skip
      have h := gcF c1 h
      refine hX_goM 4 (69) [some (.ref 0), some (.int y1), some (.int y2), some (.ref 59), some (.int y4)] [.int y4, .int y2, .ref 59, .ref 0] rfl ?_
      revert h; refine gBindR fun q2 e2 h => ?_
      refine hX_call (r' := zR_119) rfl (mt_119_0_59 N y2 y4 q2 e2) ?_
      refine hX_go 1 (bif gCmp .eq q2.1 0 then 78 else 75) [some (.ref 0), some (.int y1), some (.int y2), some (.ref 59), some (.int y4)] [] (hCm b q2.2 k s w ik ex pr wd sn qu tb ts (r0, rq) h0 h1 h2 h3 fi R) rfl ?_
      refine hX_if (gCmp .eq q2.1 0) (fun c3 => ?_) (fun c3 => ?_)
      · skip
        have h := gcT c3 h
        refine hX_goM 2 (57) [some (.ref 0), some (.int y1), some (.int y2), some (.ref 59), some (.int (y4 + 1))] [] rfl ?_
        exact ih (y4 + 1) q2.2 q h
      · skip
        have h := gcF c3 h
        refine hX_goM 1 (77) [some (.ref 0), some (.int y1), some (.int y2), some (.ref 59), some (.int y4)] [.int y4] rfl ?_
        have h := Option.some.inj h; subst h
        exact hX_end rfl rfl rfl

/-- UpOneSide.slips: the loop at 57 -/
def lp_93_0_57_61 (N : Nat) (y2 : Int32) (b : hB) (h3 : hSt) (fi : Nat → Int32) : Nat → Int32 → hB → Option (Int32 × hB × (Nat → Int32))
  | 0, _, _ => none
  | n + 1, y4, d =>
    (bif gCmp .ge y4 100 then
      some (v_111_0 3, d, f_111_0_fi 3 fi)
    else
      (Option.bind (me_119_0_61 N y2 y4 b d h3) fun q2 =>
      (bif gCmp .eq q2.1 0 then
        lp_93_0_57_61 N y2 b h3 fi n (y4 + 1) q2.2
      else
        some (y4, q2.2, fi))))
set_option maxRecDepth 20000 in
set_option maxHeartbeats 4000000 in
theorem lt_93_0_57_61 {LL : Nat} {xs : Nat → Int32} {D N : Nat} {b k s w : hB} {ik ex pr wd : Int32} {sn : Nat → Int64} {qu tb : Nat → Int32} {ts : Int32} {r0 : Value} {rq : hRq} {h0 h1 h2 h3 : hSt} {fi : Nat → Int32} {R : List gE} {y1 : Int32} {y2 : Int32} : ∀ (n : Nat) (y4 : Int32) (d : hB) (q : Int32 × hB × (Nat → Int32)), lp_93_0_57_61 N y2 b h3 fi n y4 d = some q → hX (gO LL xs) (D + 3) zR_93 57 [some (.ref 0), some (.int y1), some (.int y2), some (.ref 61), some (.int y4)] [] (hCm b d k s w ik ex pr wd sn qu tb ts (r0, rq) h0 h1 h2 h3 fi R) (some (.int q.1)) (hCm b q.2.1 k s w ik ex pr wd sn qu tb ts (r0, rq) h0 h1 h2 h3 q.2.2 R) := by
  intro n
  induction n with
  | zero => intro y4 d q h; cases h
  | succ n ih =>
    intro y4 d q h
    rw [lp_93_0_57_61] at h
    refine hX_go 3 (bif gCmp .ge y4 100 then 84 else 64) [some (.ref 0), some (.int y1), some (.int y2), some (.ref 61), some (.int y4)] [] (hCm b d k s w ik ex pr wd sn qu tb ts (r0, rq) h0 h1 h2 h3 fi R) rfl ?_
    refine hX_if (gCmp .ge y4 100) (fun c1 => ?_) (fun c1 => ?_)
    · skip
      have h := gcT c1 h
      refine hX_goM 2 (86) [some (.ref 0), some (.int y1), some (.int y2), some (.ref 61), some (.int y4)] [.int 3, .ref 0] rfl ?_
      refine hX_call (r' := zR_111) rfl (ct_111_0 3 rfl) ?_
      refine hX_go 0 (89) [some (.ref 0), some (.int y1), some (.int y2), some (.ref 61), some (.int y4)] [.int (v_111_0 3)] (hCm b d k s w ik ex pr wd sn qu tb ts (r0, rq) h0 h1 h2 h3 (f_111_0_fi 3 fi) R) rfl ?_
      have h := Option.some.inj h; subst h
      exact hX_end rfl rfl rfl
    · skip
      have h := gcF c1 h
      refine hX_goM 4 (69) [some (.ref 0), some (.int y1), some (.int y2), some (.ref 61), some (.int y4)] [.int y4, .int y2, .ref 61, .ref 0] rfl ?_
      revert h; refine gBindR fun q2 e2 h => ?_
      refine hX_call (r' := zR_119) rfl (mt_119_0_61 N y2 y4 q2 e2) ?_
      refine hX_go 1 (bif gCmp .eq q2.1 0 then 78 else 75) [some (.ref 0), some (.int y1), some (.int y2), some (.ref 61), some (.int y4)] [] (hCm b q2.2 k s w ik ex pr wd sn qu tb ts (r0, rq) h0 h1 h2 h3 fi R) rfl ?_
      refine hX_if (gCmp .eq q2.1 0) (fun c3 => ?_) (fun c3 => ?_)
      · skip
        have h := gcT c3 h
        refine hX_goM 2 (57) [some (.ref 0), some (.int y1), some (.int y2), some (.ref 61), some (.int (y4 + 1))] [] rfl ?_
        exact ih (y4 + 1) q2.2 q h
      · skip
        have h := gcF c3 h
        refine hX_goM 1 (77) [some (.ref 0), some (.int y1), some (.int y2), some (.ref 61), some (.int y4)] [.int y4] rfl ?_
        have h := Option.some.inj h; subst h
        exact hX_end rfl rfl rfl

/-- UpOneSide.slips(II)I -/
def me_93_0 (N : Nat) (x0 : Int32) (x1 : Int32) (b : hB) (d : hB) (h0 : hSt) (h1 : hSt) (h2 : hSt) (h3 : hSt) (fi : Nat → Int32) : Option (Int32 × hB × (Nat → Int32)) :=
  (bif gCmp .lt x0 0 then
    some (v_111_0 0, d, f_111_0_fi 0 fi)
  else
    (bif gCmp .lt x0 4 then
      (bif hEq x0 0 then
        (bif gCmp .eq (v_53_55 h0) 0 then
          (bif gCmp .eq (v_113_0 x1 b) 0 then
            lp_93_0_57_55 N x1 b h0 fi N 0 (f_10_10_1_d b d)
          else
            some (v_111_0 0, d, f_111_0_fi 0 fi))
        else
          some (v_111_0 5, d, f_111_0_fi 5 fi))
      else
        (bif hEq x0 1 then
          (bif gCmp .eq (v_53_57 h1) 0 then
            (bif gCmp .eq (v_113_0 x1 b) 0 then
              lp_93_0_57_57 N x1 b h1 fi N 0 (f_10_10_1_d b d)
            else
              some (v_111_0 0, d, f_111_0_fi 0 fi))
          else
            some (v_111_0 5, d, f_111_0_fi 5 fi))
        else
          (bif hEq x0 2 then
            (bif gCmp .eq (v_53_59 h2) 0 then
              (bif gCmp .eq (v_113_0 x1 b) 0 then
                lp_93_0_57_59 N x1 b h2 fi N 0 (f_10_10_1_d b d)
              else
                some (v_111_0 0, d, f_111_0_fi 0 fi))
            else
              some (v_111_0 5, d, f_111_0_fi 5 fi))
          else
            (bif gCmp .eq (v_53_61 h3) 0 then
              (bif gCmp .eq (v_113_0 x1 b) 0 then
                lp_93_0_57_61 N x1 b h3 fi N 0 (f_10_10_1_d b d)
              else
                some (v_111_0 0, d, f_111_0_fi 0 fi))
            else
              some (v_111_0 5, d, f_111_0_fi 5 fi)))))
    else
      some (v_111_0 0, d, f_111_0_fi 0 fi)))
set_option maxRecDepth 20000 in
set_option maxHeartbeats 4000000 in
theorem mt_93_0 {LL : Nat} {xs : Nat → Int32} {D : Nat} {b d k s w : hB} {ik ex pr wd : Int32} {sn : Nat → Int64} {qu tb : Nat → Int32} {ts : Int32} {r0 : Value} {rq : hRq} {h0 h1 h2 h3 : hSt} {fi : Nat → Int32} {R : List gE} (N : Nat) (x0 : Int32) (x1 : Int32) (q : Int32 × hB × (Nat → Int32)) (h : me_93_0 N x0 x1 b d h0 h1 h2 h3 fi = some q) : hM (gO LL xs) (D + 3) zR_93 [.ref 0, .int x0, .int x1] (hCm b d k s w ik ex pr wd sn qu tb ts (r0, rq) h0 h1 h2 h3 fi R) (some (.int q.1)) (hCm b q.2.1 k s w ik ex pr wd sn qu tb ts (r0, rq) h0 h1 h2 h3 q.2.2 R) := by
  unfold me_93_0 at h
  refine hX_go 0 0 [some (.ref 0), some (.int x0), some (.int x1), none, none] [] (hCm b d k s w ik ex pr wd sn qu tb ts (r0, rq) h0 h1 h2 h3 fi R) rfl ?_
  refine hX_go 2 (2) [some (.ref 0), some (.int x0), some (.int x1), none, none] [.int x0, .ref 0] (hCm b d k s w ik ex pr wd sn qu tb ts (r0, rq) h0 h1 h2 h3 fi R) rfl ?_
  refine hX_bif (gCmp .lt x0 0) (fun c1 => ?_) (fun c1 => ?_)
  · skip
    have h := gcT c1 h
    refine hX_call (r' := zR_114) rfl (ct_114_0_0 x0 c1) ?_
    refine hX_goM 5 (12) [some (.ref 0), some (.int x0), some (.int x1), some (.null), none] [.int 0, .ref 0] rfl ?_
    refine hX_call (r' := zR_111) rfl (ct_111_0 0 rfl) ?_
    refine hX_go 0 (15) [some (.ref 0), some (.int x0), some (.int x1), some (.null), none] [.int (v_111_0 0)] (hCm b d k s w ik ex pr wd sn qu tb ts (r0, rq) h0 h1 h2 h3 (f_111_0_fi 0 fi) R) rfl ?_
    have h := Option.some.inj h; subst h
    exact hX_end rfl rfl rfl
  · skip
    have h := gcF c1 h
    refine hX_bif (gCmp .lt x0 4) (fun c2 => ?_) (fun c2 => ?_)
    · skip
      have h := gcT c2 h
      refine hX_bif (hEq x0 0) (fun c3 => ?_) (fun c3 => ?_)
      · skip
        have h := gcT c3 h
        refine hX_call (r' := zR_114) rfl (ct_114_0_2 x0 c1 c2 c3) ?_
        refine hX_goM 4 (17) [some (.ref 0), some (.int x0), some (.int x1), some (.ref 55), none] [.ref 55] rfl ?_
        refine hX_call (r' := zR_53) rfl (ct_53_55) ?_
        refine hX_goM 1 (bif gCmp .eq (v_53_55 h0) 0 then 29 else 23) [some (.ref 0), some (.int x0), some (.int x1), some (.ref 55), none] [] rfl ?_
        refine hX_if (gCmp .eq (v_53_55 h0) 0) (fun c4 => ?_) (fun c4 => ?_)
        · skip
          have h := gcT c4 h
          refine hX_goM 2 (31) [some (.ref 0), some (.int x0), some (.int x1), some (.ref 55), none] [.int x1, .ref 0] rfl ?_
          refine hX_call (r' := zR_113) rfl (ct_113_0 x1) ?_
          refine hX_goM 1 (bif gCmp .eq (v_113_0 x1 b) 0 then 43 else 37) [some (.ref 0), some (.int x0), some (.int x1), some (.ref 55), none] [] rfl ?_
          refine hX_if (gCmp .eq (v_113_0 x1 b) 0) (fun c5 => ?_) (fun c5 => ?_)
          · skip
            have h := gcT c5 h
            refine hX_goM 4 (51) [some (.ref 0), some (.int x0), some (.int x1), some (.ref 55), none] [.ref 1, .ref 10] rfl ?_
            refine hX_call (r' := zR_10) rfl (ct_10_10_1) ?_
            refine hX_go 2 (57) [some (.ref 0), some (.int x0), some (.int x1), some (.ref 55), some (.int 0)] [] (hCm b (f_10_10_1_d b d) k s w ik ex pr wd sn qu tb ts (r0, rq) h0 h1 h2 h3 fi R) rfl ?_
            exact lt_93_0_57_55 N 0 (f_10_10_1_d b d) q h
          · skip
            have h := gcF c5 h
            refine hX_goM 2 (39) [some (.ref 0), some (.int x0), some (.int x1), some (.ref 55), none] [.int 0, .ref 0] rfl ?_
            refine hX_call (r' := zR_111) rfl (ct_111_0 0 rfl) ?_
            refine hX_go 0 (42) [some (.ref 0), some (.int x0), some (.int x1), some (.ref 55), none] [.int (v_111_0 0)] (hCm b d k s w ik ex pr wd sn qu tb ts (r0, rq) h0 h1 h2 h3 (f_111_0_fi 0 fi) R) rfl ?_
            have h := Option.some.inj h; subst h
            exact hX_end rfl rfl rfl
        · skip
          have h := gcF c4 h
          refine hX_goM 2 (25) [some (.ref 0), some (.int x0), some (.int x1), some (.ref 55), none] [.int 5, .ref 0] rfl ?_
          refine hX_call (r' := zR_111) rfl (ct_111_0 5 rfl) ?_
          refine hX_go 0 (28) [some (.ref 0), some (.int x0), some (.int x1), some (.ref 55), none] [.int (v_111_0 5)] (hCm b d k s w ik ex pr wd sn qu tb ts (r0, rq) h0 h1 h2 h3 (f_111_0_fi 5 fi) R) rfl ?_
          have h := Option.some.inj h; subst h
          exact hX_end rfl rfl rfl
      · skip
        have h := gcF c3 h
        refine hX_bif (hEq x0 1) (fun c6 => ?_) (fun c6 => ?_)
        · skip
          have h := gcT c6 h
          refine hX_call (r' := zR_114) rfl (ct_114_0_3 x0 c1 c2 c3 c6) ?_
          refine hX_goM 4 (17) [some (.ref 0), some (.int x0), some (.int x1), some (.ref 57), none] [.ref 57] rfl ?_
          refine hX_call (r' := zR_53) rfl (ct_53_57) ?_
          refine hX_goM 1 (bif gCmp .eq (v_53_57 h1) 0 then 29 else 23) [some (.ref 0), some (.int x0), some (.int x1), some (.ref 57), none] [] rfl ?_
          refine hX_if (gCmp .eq (v_53_57 h1) 0) (fun c7 => ?_) (fun c7 => ?_)
          · skip
            have h := gcT c7 h
            refine hX_goM 2 (31) [some (.ref 0), some (.int x0), some (.int x1), some (.ref 57), none] [.int x1, .ref 0] rfl ?_
            refine hX_call (r' := zR_113) rfl (ct_113_0 x1) ?_
            refine hX_goM 1 (bif gCmp .eq (v_113_0 x1 b) 0 then 43 else 37) [some (.ref 0), some (.int x0), some (.int x1), some (.ref 57), none] [] rfl ?_
            refine hX_if (gCmp .eq (v_113_0 x1 b) 0) (fun c8 => ?_) (fun c8 => ?_)
            · skip
              have h := gcT c8 h
              refine hX_goM 4 (51) [some (.ref 0), some (.int x0), some (.int x1), some (.ref 57), none] [.ref 1, .ref 10] rfl ?_
              refine hX_call (r' := zR_10) rfl (ct_10_10_1) ?_
              refine hX_go 2 (57) [some (.ref 0), some (.int x0), some (.int x1), some (.ref 57), some (.int 0)] [] (hCm b (f_10_10_1_d b d) k s w ik ex pr wd sn qu tb ts (r0, rq) h0 h1 h2 h3 fi R) rfl ?_
              exact lt_93_0_57_57 N 0 (f_10_10_1_d b d) q h
            · skip
              have h := gcF c8 h
              refine hX_goM 2 (39) [some (.ref 0), some (.int x0), some (.int x1), some (.ref 57), none] [.int 0, .ref 0] rfl ?_
              refine hX_call (r' := zR_111) rfl (ct_111_0 0 rfl) ?_
              refine hX_go 0 (42) [some (.ref 0), some (.int x0), some (.int x1), some (.ref 57), none] [.int (v_111_0 0)] (hCm b d k s w ik ex pr wd sn qu tb ts (r0, rq) h0 h1 h2 h3 (f_111_0_fi 0 fi) R) rfl ?_
              have h := Option.some.inj h; subst h
              exact hX_end rfl rfl rfl
          · skip
            have h := gcF c7 h
            refine hX_goM 2 (25) [some (.ref 0), some (.int x0), some (.int x1), some (.ref 57), none] [.int 5, .ref 0] rfl ?_
            refine hX_call (r' := zR_111) rfl (ct_111_0 5 rfl) ?_
            refine hX_go 0 (28) [some (.ref 0), some (.int x0), some (.int x1), some (.ref 57), none] [.int (v_111_0 5)] (hCm b d k s w ik ex pr wd sn qu tb ts (r0, rq) h0 h1 h2 h3 (f_111_0_fi 5 fi) R) rfl ?_
            have h := Option.some.inj h; subst h
            exact hX_end rfl rfl rfl
        · skip
          have h := gcF c6 h
          refine hX_bif (hEq x0 2) (fun c9 => ?_) (fun c9 => ?_)
          · skip
            have h := gcT c9 h
            refine hX_call (r' := zR_114) rfl (ct_114_0_4 x0 c1 c2 c3 c6 c9) ?_
            refine hX_goM 4 (17) [some (.ref 0), some (.int x0), some (.int x1), some (.ref 59), none] [.ref 59] rfl ?_
            refine hX_call (r' := zR_53) rfl (ct_53_59) ?_
            refine hX_goM 1 (bif gCmp .eq (v_53_59 h2) 0 then 29 else 23) [some (.ref 0), some (.int x0), some (.int x1), some (.ref 59), none] [] rfl ?_
            refine hX_if (gCmp .eq (v_53_59 h2) 0) (fun c10 => ?_) (fun c10 => ?_)
            · skip
              have h := gcT c10 h
              refine hX_goM 2 (31) [some (.ref 0), some (.int x0), some (.int x1), some (.ref 59), none] [.int x1, .ref 0] rfl ?_
              refine hX_call (r' := zR_113) rfl (ct_113_0 x1) ?_
              refine hX_goM 1 (bif gCmp .eq (v_113_0 x1 b) 0 then 43 else 37) [some (.ref 0), some (.int x0), some (.int x1), some (.ref 59), none] [] rfl ?_
              refine hX_if (gCmp .eq (v_113_0 x1 b) 0) (fun c11 => ?_) (fun c11 => ?_)
              · skip
                have h := gcT c11 h
                refine hX_goM 4 (51) [some (.ref 0), some (.int x0), some (.int x1), some (.ref 59), none] [.ref 1, .ref 10] rfl ?_
                refine hX_call (r' := zR_10) rfl (ct_10_10_1) ?_
                refine hX_go 2 (57) [some (.ref 0), some (.int x0), some (.int x1), some (.ref 59), some (.int 0)] [] (hCm b (f_10_10_1_d b d) k s w ik ex pr wd sn qu tb ts (r0, rq) h0 h1 h2 h3 fi R) rfl ?_
                exact lt_93_0_57_59 N 0 (f_10_10_1_d b d) q h
              · skip
                have h := gcF c11 h
                refine hX_goM 2 (39) [some (.ref 0), some (.int x0), some (.int x1), some (.ref 59), none] [.int 0, .ref 0] rfl ?_
                refine hX_call (r' := zR_111) rfl (ct_111_0 0 rfl) ?_
                refine hX_go 0 (42) [some (.ref 0), some (.int x0), some (.int x1), some (.ref 59), none] [.int (v_111_0 0)] (hCm b d k s w ik ex pr wd sn qu tb ts (r0, rq) h0 h1 h2 h3 (f_111_0_fi 0 fi) R) rfl ?_
                have h := Option.some.inj h; subst h
                exact hX_end rfl rfl rfl
            · skip
              have h := gcF c10 h
              refine hX_goM 2 (25) [some (.ref 0), some (.int x0), some (.int x1), some (.ref 59), none] [.int 5, .ref 0] rfl ?_
              refine hX_call (r' := zR_111) rfl (ct_111_0 5 rfl) ?_
              refine hX_go 0 (28) [some (.ref 0), some (.int x0), some (.int x1), some (.ref 59), none] [.int (v_111_0 5)] (hCm b d k s w ik ex pr wd sn qu tb ts (r0, rq) h0 h1 h2 h3 (f_111_0_fi 5 fi) R) rfl ?_
              have h := Option.some.inj h; subst h
              exact hX_end rfl rfl rfl
          · skip
            have h := gcF c9 h
            refine hX_call (r' := zR_114) rfl (ct_114_0_5 x0 c1 c2 c3 c6 c9) ?_
            refine hX_goM 4 (17) [some (.ref 0), some (.int x0), some (.int x1), some (.ref 61), none] [.ref 61] rfl ?_
            refine hX_call (r' := zR_53) rfl (ct_53_61) ?_
            refine hX_goM 1 (bif gCmp .eq (v_53_61 h3) 0 then 29 else 23) [some (.ref 0), some (.int x0), some (.int x1), some (.ref 61), none] [] rfl ?_
            refine hX_if (gCmp .eq (v_53_61 h3) 0) (fun c12 => ?_) (fun c12 => ?_)
            · skip
              have h := gcT c12 h
              refine hX_goM 2 (31) [some (.ref 0), some (.int x0), some (.int x1), some (.ref 61), none] [.int x1, .ref 0] rfl ?_
              refine hX_call (r' := zR_113) rfl (ct_113_0 x1) ?_
              refine hX_goM 1 (bif gCmp .eq (v_113_0 x1 b) 0 then 43 else 37) [some (.ref 0), some (.int x0), some (.int x1), some (.ref 61), none] [] rfl ?_
              refine hX_if (gCmp .eq (v_113_0 x1 b) 0) (fun c13 => ?_) (fun c13 => ?_)
              · skip
                have h := gcT c13 h
                refine hX_goM 4 (51) [some (.ref 0), some (.int x0), some (.int x1), some (.ref 61), none] [.ref 1, .ref 10] rfl ?_
                refine hX_call (r' := zR_10) rfl (ct_10_10_1) ?_
                refine hX_go 2 (57) [some (.ref 0), some (.int x0), some (.int x1), some (.ref 61), some (.int 0)] [] (hCm b (f_10_10_1_d b d) k s w ik ex pr wd sn qu tb ts (r0, rq) h0 h1 h2 h3 fi R) rfl ?_
                exact lt_93_0_57_61 N 0 (f_10_10_1_d b d) q h
              · skip
                have h := gcF c13 h
                refine hX_goM 2 (39) [some (.ref 0), some (.int x0), some (.int x1), some (.ref 61), none] [.int 0, .ref 0] rfl ?_
                refine hX_call (r' := zR_111) rfl (ct_111_0 0 rfl) ?_
                refine hX_go 0 (42) [some (.ref 0), some (.int x0), some (.int x1), some (.ref 61), none] [.int (v_111_0 0)] (hCm b d k s w ik ex pr wd sn qu tb ts (r0, rq) h0 h1 h2 h3 (f_111_0_fi 0 fi) R) rfl ?_
                have h := Option.some.inj h; subst h
                exact hX_end rfl rfl rfl
            · skip
              have h := gcF c12 h
              refine hX_goM 2 (25) [some (.ref 0), some (.int x0), some (.int x1), some (.ref 61), none] [.int 5, .ref 0] rfl ?_
              refine hX_call (r' := zR_111) rfl (ct_111_0 5 rfl) ?_
              refine hX_go 0 (28) [some (.ref 0), some (.int x0), some (.int x1), some (.ref 61), none] [.int (v_111_0 5)] (hCm b d k s w ik ex pr wd sn qu tb ts (r0, rq) h0 h1 h2 h3 (f_111_0_fi 5 fi) R) rfl ?_
              have h := Option.some.inj h; subst h
              exact hX_end rfl rfl rfl
    · skip
      have h := gcF c2 h
      refine hX_call (r' := zR_114) rfl (ct_114_0_1 x0 c1 c2) ?_
      refine hX_goM 5 (12) [some (.ref 0), some (.int x0), some (.int x1), some (.null), none] [.int 0, .ref 0] rfl ?_
      refine hX_call (r' := zR_111) rfl (ct_111_0 0 rfl) ?_
      refine hX_go 0 (15) [some (.ref 0), some (.int x0), some (.int x1), some (.null), none] [.int (v_111_0 0)] (hCm b d k s w ik ex pr wd sn qu tb ts (r0, rq) h0 h1 h2 h3 (f_111_0_fi 0 fi) R) rfl ?_
      have h := Option.some.inj h; subst h
      exact hX_end rfl rfl rfl

/-- UpOneSide$Blind.draw()I -/
def v_28_1 (b : hB) : Int32 := (((b.2.2.2.1 * 1103515245) + 12345).toUInt32 >>> ((8 : Int32).toUInt32 &&& Int32.toUInt32 31)).toInt32
def f_28_1_b (b : hB) : hB := (b.1, b.2.1, b.2.2.1, (b.2.2.2.1 * 1103515245) + 12345, b.2.2.2.2)
set_option maxRecDepth 20000 in
set_option maxHeartbeats 1000000 in
theorem ct_28_1 {LL : Nat} {xs : Nat → Int32} {D : Nat} {b d k s w : hB} {ik ex pr wd : Int32} {sn : Nat → Int64} {qu tb : Nat → Int32} {ts : Int32} {r0 : Value} {rq : hRq} {h0 h1 h2 h3 : hSt} {fi : Nat → Int32} {R : List gE} : hM (gO LL xs) (D + 0) zR_28 [.ref 1] (hCm b d k s w ik ex pr wd sn qu tb ts (r0, rq) h0 h1 h2 h3 fi R) (some (.int (v_28_1 b))) (hCm (f_28_1_b b) d k s w ik ex pr wd sn qu tb ts (r0, rq) h0 h1 h2 h3 fi R) := by
  refine hX_go 0 0 [some (.ref 1)] [] (hCm b d k s w ik ex pr wd sn qu tb ts (r0, rq) h0 h1 h2 h3 fi R) rfl ?_
  refine hX_go 1 (1) [some (.ref 1)] [.ref 1] (hCm b d k s w ik ex pr wd sn qu tb ts (r0, rq) h0 h1 h2 h3 fi R) rfl ?_
  refine hX_goM 1 (2) [some (.ref 1)] [.ref 1, .ref 1] rfl ?_
  refine hX_goM 1 (5) [some (.ref 1)] [.int b.2.2.2.1, .ref 1] rfl ?_
  refine hX_goM 1 (7) [some (.ref 1)] [.int 1103515245, .int b.2.2.2.1, .ref 1] rfl ?_
  refine hX_goM 1 (8) [some (.ref 1)] [.int (b.2.2.2.1 * 1103515245), .ref 1] rfl ?_
  refine hX_goM 1 (11) [some (.ref 1)] [.int 12345, .int (b.2.2.2.1 * 1103515245), .ref 1] rfl ?_
  refine hX_goM 1 (12) [some (.ref 1)] [.int ((b.2.2.2.1 * 1103515245) + 12345), .ref 1] rfl ?_
  have hz : ∀ y : Int32, hS (gO LL xs) (D + 0) zR_28 (12, [some (.ref 1)], [.int y, .ref 1], hCm b d k s w ik ex pr wd sn qu tb ts (r0, rq) h0 h1 h2 h3 fi R) = some (15, [some (.ref 1)], [], hCm (b.1, b.2.1, b.2.2.1, y, b.2.2.2.2) d k s w ik ex pr wd sn qu tb ts (r0, rq) h0 h1 h2 h3 fi R) := fun y => rfl
  refine hX_1 (s := (12, [some (.ref 1)], [.int ((b.2.2.2.1 * 1103515245) + 12345), .ref 1], hCm b d k s w ik ex pr wd sn qu tb ts (r0, rq) h0 h1 h2 h3 fi R)) (s' := (15, [some (.ref 1)], [], hCm (b.1, b.2.1, b.2.2.1, ((b.2.2.2.1 * 1103515245) + 12345), b.2.2.2.2) d k s w ik ex pr wd sn qu tb ts (r0, rq) h0 h1 h2 h3 fi R)) (hz _) ?_
  refine hX_goM 1 (16) [some (.ref 1)] [.ref 1] rfl ?_
  refine hX_goM 1 (19) [some (.ref 1)] [.int ((b.2.2.2.1 * 1103515245) + 12345)] rfl ?_
  refine hX_goM 1 (21) [some (.ref 1)] [.int 8, .int ((b.2.2.2.1 * 1103515245) + 12345)] rfl ?_
  refine hX_goM 1 (22) [some (.ref 1)] [.int ((((b.2.2.2.1 * 1103515245) + 12345).toUInt32 >>> ((8 : Int32).toUInt32 &&& Int32.toUInt32 31)).toInt32)] rfl ?_
  exact hX_end rfl (rfl) (rfl)

/-- UpOneSide.hands: the loop at 50 -/
def lp_94_0_50 (N : Nat) (y1 : Int32) : Nat → Int32 → Int32 → hB → Option (Int32 × Int32 × hB)
  | 0, _, _, _ => none
  | n + 1, y2, y3, b =>
    (bif gCmp .ge y3 y1 then
      some (y2, y3, b)
    else
      (bif !(decide (((f_28_1_b b).2.2.2.2.1) = 0)) then (bif gIn (f_28_1_b b).1 61 then (bif gIn ((v_28_1 b) - (v_28_1 b) / ((f_28_1_b b).2.2.2.2.1) * ((f_28_1_b b).2.2.2.2.1)) 8 then lp_94_0_50 N y1 n (bif gCmp .le (v_15_1 (f_20_1_b ((v_28_1 b) - (v_28_1 b) / ((f_28_1_b b).2.2.2.2.1) * ((f_28_1_b b).2.2.2.2.1)) (f_28_1_b b))) (v_15_1 b) then y2 else (y2 + 1)) (y3 + 1) (f_20_1_b ((v_28_1 b) - (v_28_1 b) / ((f_28_1_b b).2.2.2.2.1) * ((f_28_1_b b).2.2.2.2.1)) (f_28_1_b b)) else none) else none) else none))
set_option maxRecDepth 20000 in
set_option maxHeartbeats 4000000 in
theorem lt_94_0_50 {LL : Nat} {xs : Nat → Int32} {D N : Nat} {d k s w : hB} {ik ex pr wd : Int32} {sn : Nat → Int64} {qu tb : Nat → Int32} {ts : Int32} {r0 : Value} {rq : hRq} {h0 h1 h2 h3 : hSt} {fi : Nat → Int32} {R : List gE} {y1 : Int32} {v : Option Value} {M' : List gE} : ∀ (n : Nat) (y2 : Int32) (y3 : Int32) (b : hB) (q : Int32 × Int32 × hB), lp_94_0_50 N y1 n y2 y3 b = some q → (kk : hX (gO LL xs) (D + 3) zR_94 107 [some (.ref 0), some (.int y1), some (.int q.1), some (.int q.2.1), none] [] (hCm q.2.2 d k s w ik ex pr wd sn qu tb ts (r0, rq) h0 h1 h2 h3 fi R) v M') → hX (gO LL xs) (D + 3) zR_94 50 [some (.ref 0), some (.int y1), some (.int y2), some (.int y3), none] [] (hCm b d k s w ik ex pr wd sn qu tb ts (r0, rq) h0 h1 h2 h3 fi R) v M' := by
  intro n
  induction n with
  | zero => intro y2 y3 b q h; cases h
  | succ n ih =>
    intro y2 y3 b q h kk
    rw [lp_94_0_50] at h
    refine hX_go 3 (bif gCmp .ge y3 y1 then 107 else 55) [some (.ref 0), some (.int y1), some (.int y2), some (.int y3), none] [] (hCm b d k s w ik ex pr wd sn qu tb ts (r0, rq) h0 h1 h2 h3 fi R) rfl ?_
    refine hX_if (gCmp .ge y3 y1) (fun c1 => ?_) (fun c1 => ?_)
    · skip
      have h := gcT c1 h
      have h := Option.some.inj h; subst h
      exact kk
    · skip
      have h := gcF c1 h
      refine hX_goM 2 (59) [some (.ref 0), some (.int y1), some (.int y2), some (.int y3), none] [.ref 1] rfl ?_
      refine hX_call (r' := zR_15) rfl (ct_15_1) ?_
      refine hX_goM 5 (72) [some (.ref 0), some (.int y1), some (.int y2), some (.int y3), some (.int (v_15_1 b))] [.ref 1, .ref 1] rfl ?_
      refine hX_call (r' := zR_28) rfl (ct_28_1) ?_
      refine hX_go 3 (82) [some (.ref 0), some (.int y1), some (.int y2), some (.int y3), some (.int (v_15_1 b))] [.int ((f_28_1_b b).2.2.2.2.1), .int (v_28_1 b), .ref 1] (hCm (f_28_1_b b) d k s w ik ex pr wd sn qu tb ts (r0, rq) h0 h1 h2 h3 fi R) rfl ?_
      revert h; refine gCondR fun g2 h => ?_
      refine hX_gnM (decide (((f_28_1_b b).2.2.2.2.1) = 0)) 83 [some (.ref 0), some (.int y1), some (.int y2), some (.int y3), some (.int (v_15_1 b))] [.int ((v_28_1 b) - (v_28_1 b) / ((f_28_1_b b).2.2.2.2.1) * ((f_28_1_b b).2.2.2.2.1)), .ref 1] rfl (gNot g2) ?_
      revert h; refine gCondR fun g3 h => ?_
      revert h; refine gCondR fun g4 h => ?_
      refine hX_call (r' := zR_20) rfl (ct_20_1 ((v_28_1 b) - (v_28_1 b) / ((f_28_1_b b).2.2.2.2.1) * ((f_28_1_b b).2.2.2.2.1)) g3 g4) ?_
      refine hX_go 2 (90) [some (.ref 0), some (.int y1), some (.int y2), some (.int y3), some (.int (v_15_1 b))] [.ref 1] (hCm (f_20_1_b ((v_28_1 b) - (v_28_1 b) / ((f_28_1_b b).2.2.2.2.1) * ((f_28_1_b b).2.2.2.2.1)) (f_28_1_b b)) d k s w ik ex pr wd sn qu tb ts (r0, rq) h0 h1 h2 h3 fi R) rfl ?_
      refine hX_call (r' := zR_15) rfl (ct_15_1) ?_
      refine hX_goM 2 (bif gCmp .le (v_15_1 (f_20_1_b ((v_28_1 b) - (v_28_1 b) / ((f_28_1_b b).2.2.2.2.1) * ((f_28_1_b b).2.2.2.2.1)) (f_28_1_b b))) (v_15_1 b) then 101 else 98) [some (.ref 0), some (.int y1), some (.int y2), some (.int y3), some (.int (v_15_1 b))] [] rfl ?_
      refine hX_mrg 101 [some (.ref 0), some (.int y1), some (.int (bif gCmp .le (v_15_1 (f_20_1_b ((v_28_1 b) - (v_28_1 b) / ((f_28_1_b b).2.2.2.2.1) * ((f_28_1_b b).2.2.2.2.1)) (f_28_1_b b))) (v_15_1 b) then y2 else (y2 + 1))), some (.int y3), some (.int (v_15_1 b))] [] (hCm (f_20_1_b ((v_28_1 b) - (v_28_1 b) / ((f_28_1_b b).2.2.2.2.1) * ((f_28_1_b b).2.2.2.2.1)) (f_28_1_b b)) d k s w ik ex pr wd sn qu tb ts (r0, rq) h0 h1 h2 h3 fi R) (fun hk => ?_) ?_
      · skip
        refine hX_if (gCmp .le (v_15_1 (f_20_1_b ((v_28_1 b) - (v_28_1 b) / ((f_28_1_b b).2.2.2.2.1) * ((f_28_1_b b).2.2.2.2.1)) (f_28_1_b b))) (v_15_1 b)) (fun c6 => ?_) (fun c6 => ?_)
        · skip
          have hk := hk
          simp only [c6, cond_true, cond_false] at hk
          first | exact hk | (simp only [c6, cond_true, cond_false]; exact hk)
        · skip
          refine hX_goM 1 (101) [some (.ref 0), some (.int y1), some (.int (y2 + 1)), some (.int y3), some (.int (v_15_1 b))] [] rfl ?_
          have hk := hk
          simp only [c6, cond_true, cond_false] at hk
          first | exact hk | (simp only [c6, cond_true, cond_false]; exact hk)
      refine hX_goM 2 (50) [some (.ref 0), some (.int y1), some (.int (bif gCmp .le (v_15_1 (f_20_1_b ((v_28_1 b) - (v_28_1 b) / ((f_28_1_b b).2.2.2.2.1) * ((f_28_1_b b).2.2.2.2.1)) (f_28_1_b b))) (v_15_1 b) then y2 else (y2 + 1))), some (.int (y3 + 1)), some (.int (v_15_1 b))] [] rfl ?_
      exact hX_wk (gLe_s (gLe_s (gLe_s (gLe_s (gLe_n gLe_0))))) (ih (bif gCmp .le (v_15_1 (f_20_1_b ((v_28_1 b) - (v_28_1 b) / ((f_28_1_b b).2.2.2.2.1) * ((f_28_1_b b).2.2.2.2.1)) (f_28_1_b b))) (v_15_1 b) then y2 else (y2 + 1)) (y3 + 1) (f_20_1_b ((v_28_1 b) - (v_28_1 b) / ((f_28_1_b b).2.2.2.2.1) * ((f_28_1_b b).2.2.2.2.1)) (f_28_1_b b)) q h kk)

/-- UpOneSide.hands(I)I -/
def me_94_0 (N : Nat) (x0 : Int32) (b : hB) (fi : Nat → Int32) : Option (Int32 × hB × (Nat → Int32)) :=
  (bif gCmp .ne (v_112 x0 1 20) 0 then
    (bif gCmp .le b.2.2.2.2.1 0 then
      some (v_111_0 4, b, f_111_0_fi 4 fi)
    else
      (bif gCmp .le (b.2.2.1 + x0) 99999 then
        (Option.bind (lp_94_0_50 N x0 N 0 0 b) fun q4 =>
        some (q4.1, q4.2.2, fi))
      else
        some (v_111_0 4, b, f_111_0_fi 4 fi)))
  else
    some (v_111_0 0, b, f_111_0_fi 0 fi))
set_option maxRecDepth 20000 in
set_option maxHeartbeats 4000000 in
theorem mt_94_0 {LL : Nat} {xs : Nat → Int32} {D : Nat} {b d k s w : hB} {ik ex pr wd : Int32} {sn : Nat → Int64} {qu tb : Nat → Int32} {ts : Int32} {r0 : Value} {rq : hRq} {h0 h1 h2 h3 : hSt} {fi : Nat → Int32} {R : List gE} (N : Nat) (x0 : Int32) (q : Int32 × hB × (Nat → Int32)) (h : me_94_0 N x0 b fi = some q) : hM (gO LL xs) (D + 3) zR_94 [.ref 0, .int x0] (hCm b d k s w ik ex pr wd sn qu tb ts (r0, rq) h0 h1 h2 h3 fi R) (some (.int q.1)) (hCm q.2.1 d k s w ik ex pr wd sn qu tb ts (r0, rq) h0 h1 h2 h3 q.2.2 R) := by
  unfold me_94_0 at h
  refine hX_go 0 0 [some (.ref 0), some (.int x0), none, none, none] [] (hCm b d k s w ik ex pr wd sn qu tb ts (r0, rq) h0 h1 h2 h3 fi R) rfl ?_
  refine hX_go 3 (4) [some (.ref 0), some (.int x0), none, none, none] [.int 20, .int 1, .int x0] (hCm b d k s w ik ex pr wd sn qu tb ts (r0, rq) h0 h1 h2 h3 fi R) rfl ?_
  refine hX_call (r' := zR_112) rfl (ct_112 x0 1 20) ?_
  refine hX_goM 1 (bif gCmp .ne (v_112 x0 1 20) 0 then 16 else 10) [some (.ref 0), some (.int x0), none, none, none] [] rfl ?_
  refine hX_if (gCmp .ne (v_112 x0 1 20) 0) (fun c1 => ?_) (fun c1 => ?_)
  · skip
    have h := gcT c1 h
    refine hX_goM 4 (bif gCmp .le b.2.2.2.2.1 0 then 40 else 26) [some (.ref 0), some (.int x0), none, none, none] [] rfl ?_
    refine hX_if (gCmp .le b.2.2.2.2.1 0) (fun c2 => ?_) (fun c2 => ?_)
    · skip
      have h := gcT c2 h
      refine hX_goM 2 (42) [some (.ref 0), some (.int x0), none, none, none] [.int 4, .ref 0] rfl ?_
      refine hX_call (r' := zR_111) rfl (ct_111_0 4 rfl) ?_
      refine hX_go 0 (45) [some (.ref 0), some (.int x0), none, none, none] [.int (v_111_0 4)] (hCm b d k s w ik ex pr wd sn qu tb ts (r0, rq) h0 h1 h2 h3 (f_111_0_fi 4 fi) R) rfl ?_
      have h := Option.some.inj h; subst h
      exact hX_end rfl rfl rfl
    · skip
      have h := gcF c2 h
      refine hX_goM 7 (bif gCmp .le (b.2.2.1 + x0) 99999 then 46 else 40) [some (.ref 0), some (.int x0), none, none, none] [] rfl ?_
      refine hX_if (gCmp .le (b.2.2.1 + x0) 99999) (fun c3 => ?_) (fun c3 => ?_)
      · skip
        have h := gcT c3 h
        refine hX_goM 4 (50) [some (.ref 0), some (.int x0), some (.int 0), some (.int 0), none] [] rfl ?_
        revert h; refine gBindR fun q4 e4 h => ?_
        refine lt_94_0_50 N 0 0 b q4 e4 ?_
        refine hX_go 1 (108) [some (.ref 0), some (.int x0), some (.int q4.1), some (.int q4.2.1), none] [.int q4.1] (hCm q4.2.2 d k s w ik ex pr wd sn qu tb ts (r0, rq) h0 h1 h2 h3 fi R) rfl ?_
        have h := Option.some.inj h; subst h
        exact hX_end rfl rfl rfl
      · skip
        have h := gcF c3 h
        refine hX_goM 2 (42) [some (.ref 0), some (.int x0), none, none, none] [.int 4, .ref 0] rfl ?_
        refine hX_call (r' := zR_111) rfl (ct_111_0 4 rfl) ?_
        refine hX_go 0 (45) [some (.ref 0), some (.int x0), none, none, none] [.int (v_111_0 4)] (hCm b d k s w ik ex pr wd sn qu tb ts (r0, rq) h0 h1 h2 h3 (f_111_0_fi 4 fi) R) rfl ?_
        have h := Option.some.inj h; subst h
        exact hX_end rfl rfl rfl
  · skip
    have h := gcF c1 h
    refine hX_goM 2 (12) [some (.ref 0), some (.int x0), none, none, none] [.int 0, .ref 0] rfl ?_
    refine hX_call (r' := zR_111) rfl (ct_111_0 0 rfl) ?_
    refine hX_go 0 (15) [some (.ref 0), some (.int x0), none, none, none] [.int (v_111_0 0)] (hCm b d k s w ik ex pr wd sn qu tb ts (r0, rq) h0 h1 h2 h3 (f_111_0_fi 0 fi) R) rfl ?_
    have h := Option.some.inj h; subst h
    exact hX_end rfl rfl rfl


/-- UpOneSide.seed(I)I -/
def me_95_0 (N : Nat) (x0 : Int32) (b : hB) : Option (Int32 × hB) :=
  some (b.2.2.2.1, (b.1, b.2.1, b.2.2.1, x0, b.2.2.2.2))
set_option maxRecDepth 20000 in
set_option maxHeartbeats 4000000 in
theorem mt_95_0 {LL : Nat} {xs : Nat → Int32} {D : Nat} {b d k s w : hB} {ik ex pr wd : Int32} {sn : Nat → Int64} {qu tb : Nat → Int32} {ts : Int32} {r0 : Value} {rq : hRq} {h0 h1 h2 h3 : hSt} {fi : Nat → Int32} {R : List gE} (N : Nat) (x0 : Int32) (q : Int32 × hB) (h : me_95_0 N x0 b = some q) : hM (gO LL xs) (D + 0) zR_95 [.ref 0, .int x0] (hCm b d k s w ik ex pr wd sn qu tb ts (r0, rq) h0 h1 h2 h3 fi R) (some (.int q.1)) (hCm q.2 d k s w ik ex pr wd sn qu tb ts (r0, rq) h0 h1 h2 h3 fi R) := by
  unfold me_95_0 at h
  refine hX_go 0 0 [some (.ref 0), some (.int x0), none] [] (hCm b d k s w ik ex pr wd sn qu tb ts (r0, rq) h0 h1 h2 h3 fi R) rfl ?_
  refine hX_go 9 (17) [some (.ref 0), some (.int x0), some (.int b.2.2.2.1)] [.int b.2.2.2.1] (hCm (b.1, b.2.1, b.2.2.1, x0, b.2.2.2.2) d k s w ik ex pr wd sn qu tb ts (r0, rq) h0 h1 h2 h3 fi R) rfl ?_
  have h := Option.some.inj h; subst h
  exact hX_end rfl rfl rfl

/-- UpOneSide$Tape.add: the loop at 4 -/
def lp_59_49_4 (N : Nat) (y1 : Int32) : Nat → Int32 → (Nat → Int32) → Int32 → Option (Int32 × (Nat → Int32) × Int32)
  | 0, _, _, _ => none
  | n + 1, y3, tb, ts =>
    (bif gCmp .lt y3 0 then
      some (y3, tb, ts)
    else
      (bif gCmp .ge ts 120 then
        some (y3, tb, ts)
      else
        (bif gIn ts 120 then lp_59_49_4 N y1 n (y3 + (-1)) (upd tb (Int32.toNatClampNeg ts) ((Int32.toInt8 ((Int32.toInt8 ((y1.toUInt32 >>> ((8 * y3 : Int32).toUInt32 &&& Int32.toUInt32 31)).toInt32)).toInt32)).toInt32)) (ts + 1) else none)))
set_option maxRecDepth 20000 in
set_option maxHeartbeats 4000000 in
theorem lt_59_49_4 {LL : Nat} {xs : Nat → Int32} {D N : Nat} {b d k s w : hB} {ik ex pr wd : Int32} {sn : Nat → Int64} {qu : Nat → Int32}  {r0 : Value} {rq : hRq} {h0 h1 h2 h3 : hSt} {fi : Nat → Int32} {R : List gE} {y1 : Int32} {y2 : Int32} {v : Option Value} {M' : List gE} : ∀ (n : Nat) (y3 : Int32) (tb : Nat → Int32) (ts : Int32) (q : Int32 × (Nat → Int32) × Int32), lp_59_49_4 N y1 n y3 tb ts = some q → (kk : hX (gO LL xs) (D + 0) zR_59 49 [some (.ref 49), some (.int y1), some (.int y2), some (.int q.1)] [] (hCm b d k s w ik ex pr wd sn qu q.2.1 q.2.2 (r0, rq) h0 h1 h2 h3 fi R) v M') → hX (gO LL xs) (D + 0) zR_59 4 [some (.ref 49), some (.int y1), some (.int y2), some (.int y3)] [] (hCm b d k s w ik ex pr wd sn qu tb ts (r0, rq) h0 h1 h2 h3 fi R) v M' := by
  intro n
  induction n with
  | zero => intro y3 tb ts q h; cases h
  | succ n ih =>
    intro y3 tb ts q h kk
    rw [lp_59_49_4] at h
    refine hX_go 2 (bif gCmp .lt y3 0 then 49 else 8) [some (.ref 49), some (.int y1), some (.int y2), some (.int y3)] [] (hCm b d k s w ik ex pr wd sn qu tb ts (r0, rq) h0 h1 h2 h3 fi R) rfl ?_
    refine hX_if (gCmp .lt y3 0) (fun c1 => ?_) (fun c1 => ?_)
    · skip
      have h := gcT c1 h
      have h := Option.some.inj h; subst h
      exact kk
    · skip
      have h := gcF c1 h
      refine hX_goM 4 (bif gCmp .ge ts 120 then 49 else 17) [some (.ref 49), some (.int y1), some (.int y2), some (.int y3)] [] rfl ?_
      refine hX_if (gCmp .ge ts 120) (fun c2 => ?_) (fun c2 => ?_)
      · skip
        have h := gcT c2 h
        have h := Option.some.inj h; subst h
        exact kk
      · skip
        have h := gcF c2 h
        refine hX_goM 9 (31) [some (.ref 49), some (.int y1), some (.int y2), some (.int y3)] [.int ((y1.toUInt32 >>> ((8 * y3 : Int32).toUInt32 &&& Int32.toUInt32 31)).toInt32), .int ts, .ref 50] rfl ?_
        refine hX_goM 1 (32) [some (.ref 49), some (.int y1), some (.int y2), some (.int y3)] [.int ((Int32.toInt8 ((y1.toUInt32 >>> ((8 * y3 : Int32).toUInt32 &&& Int32.toUInt32 31)).toInt32)).toInt32), .int ts, .ref 50] rfl ?_
        revert h; refine gCondR fun g3 h => ?_
        refine hX_g (gIn ts 120) 33 [some (.ref 49), some (.int y1), some (.int y2), some (.int y3)] [] (hCm b d k s w ik ex pr wd sn qu (upd tb (Int32.toNatClampNeg ts) ((Int32.toInt8 ((Int32.toInt8 ((y1.toUInt32 >>> ((8 * y3 : Int32).toUInt32 &&& Int32.toUInt32 31)).toInt32)).toInt32)).toInt32)) ts (r0, rq) h0 h1 h2 h3 fi R) rfl g3 ?_
        refine hX_go 8 (4) [some (.ref 49), some (.int y1), some (.int y2), some (.int (y3 + (-1)))] [] (hCm b d k s w ik ex pr wd sn qu (upd tb (Int32.toNatClampNeg ts) ((Int32.toInt8 ((Int32.toInt8 ((y1.toUInt32 >>> ((8 * y3 : Int32).toUInt32 &&& Int32.toUInt32 31)).toInt32)).toInt32)).toInt32)) (ts + 1) (r0, rq) h0 h1 h2 h3 fi R) rfl ?_
        exact ih (y3 + (-1)) (upd tb (Int32.toNatClampNeg ts) ((Int32.toInt8 ((Int32.toInt8 ((y1.toUInt32 >>> ((8 * y3 : Int32).toUInt32 &&& Int32.toUInt32 31)).toInt32)).toInt32)).toInt32)) (ts + 1) q h kk

/-- UpOneSide$Tape.add(II)V -/
def me_59_49 (N : Nat) (x0 : Int32) (x1 : Int32) (tb : Nat → Int32) (ts : Int32) : Option ((Nat → Int32) × Int32) :=
  (Option.bind (lp_59_49_4 N x0 N (x1 - 1) tb ts) fun q1 =>
  some (q1.2.1, q1.2.2))
set_option maxRecDepth 20000 in
set_option maxHeartbeats 4000000 in
theorem mt_59_49 {LL : Nat} {xs : Nat → Int32} {D : Nat} {b d k s w : hB} {ik ex pr wd : Int32} {sn : Nat → Int64} {qu tb : Nat → Int32} {ts : Int32} {r0 : Value} {rq : hRq} {h0 h1 h2 h3 : hSt} {fi : Nat → Int32} {R : List gE} (N : Nat) (x0 : Int32) (x1 : Int32) (q : (Nat → Int32) × Int32) (h : me_59_49 N x0 x1 tb ts = some q) : hM (gO LL xs) (D + 0) zR_59 [.ref 49, .int x0, .int x1] (hCm b d k s w ik ex pr wd sn qu tb ts (r0, rq) h0 h1 h2 h3 fi R) none (hCm b d k s w ik ex pr wd sn qu q.1 q.2 (r0, rq) h0 h1 h2 h3 fi R) := by
  unfold me_59_49 at h
  refine hX_go 0 0 [some (.ref 49), some (.int x0), some (.int x1), none] [] (hCm b d k s w ik ex pr wd sn qu tb ts (r0, rq) h0 h1 h2 h3 fi R) rfl ?_
  refine hX_go 4 (4) [some (.ref 49), some (.int x0), some (.int x1), some (.int (x1 - 1))] [] (hCm b d k s w ik ex pr wd sn qu tb ts (r0, rq) h0 h1 h2 h3 fi R) rfl ?_
  revert h; refine gBindR fun q1 e1 h => ?_
  refine lt_59_49_4 N (x1 - 1) tb ts q1 e1 ?_
  refine hX_go 0 (49) [some (.ref 49), some (.int x0), some (.int x1), some (.int q1.1)] [] (hCm b d k s w ik ex pr wd sn qu q1.2.1 q1.2.2 (r0, rq) h0 h1 h2 h3 fi R) rfl ?_
  have h := Option.some.inj h; subst h
  exact hX_end rfl rfl rfl


/-- UpOneSide.feed(II)I -/
def me_96_0 (N : Nat) (x0 : Int32) (x1 : Int32) (tb : Nat → Int32) (ts : Int32) (fi : Nat → Int32) : Option (Int32 × (Nat → Int32) × Int32 × (Nat → Int32)) :=
  (bif gCmp .ne (v_112 x1 1 4) 0 then
    (bif gCmp .le (ts + x1) 120 then
      (Option.bind (me_59_49 N x0 x1 tb ts) fun q3 =>
      some (q3.2, q3.1, q3.2, fi))
    else
      some (v_111_0 1, tb, ts, f_111_0_fi 1 fi))
  else
    some (v_111_0 0, tb, ts, f_111_0_fi 0 fi))
set_option maxRecDepth 20000 in
set_option maxHeartbeats 4000000 in
theorem mt_96_0 {LL : Nat} {xs : Nat → Int32} {D : Nat} {b d k s w : hB} {ik ex pr wd : Int32} {sn : Nat → Int64} {qu tb : Nat → Int32} {ts : Int32} {r0 : Value} {rq : hRq} {h0 h1 h2 h3 : hSt} {fi : Nat → Int32} {R : List gE} (N : Nat) (x0 : Int32) (x1 : Int32) (q : Int32 × (Nat → Int32) × Int32 × (Nat → Int32)) (h : me_96_0 N x0 x1 tb ts fi = some q) : hM (gO LL xs) (D + 1) zR_96 [.ref 0, .int x0, .int x1] (hCm b d k s w ik ex pr wd sn qu tb ts (r0, rq) h0 h1 h2 h3 fi R) (some (.int q.1)) (hCm b d k s w ik ex pr wd sn qu q.2.1 q.2.2.1 (r0, rq) h0 h1 h2 h3 q.2.2.2 R) := by
  unfold me_96_0 at h
  refine hX_go 0 0 [some (.ref 0), some (.int x0), some (.int x1)] [] (hCm b d k s w ik ex pr wd sn qu tb ts (r0, rq) h0 h1 h2 h3 fi R) rfl ?_
  refine hX_go 3 (3) [some (.ref 0), some (.int x0), some (.int x1)] [.int 4, .int 1, .int x1] (hCm b d k s w ik ex pr wd sn qu tb ts (r0, rq) h0 h1 h2 h3 fi R) rfl ?_
  refine hX_call (r' := zR_112) rfl (ct_112 x1 1 4) ?_
  refine hX_goM 1 (bif gCmp .ne (v_112 x1 1 4) 0 then 15 else 9) [some (.ref 0), some (.int x0), some (.int x1)] [] rfl ?_
  refine hX_if (gCmp .ne (v_112 x1 1 4) 0) (fun c1 => ?_) (fun c1 => ?_)
  · skip
    have h := gcT c1 h
    refine hX_goM 7 (bif gCmp .le (ts + x1) 120 then 35 else 29) [some (.ref 0), some (.int x0), some (.int x1)] [] rfl ?_
    refine hX_if (gCmp .le (ts + x1) 120) (fun c2 => ?_) (fun c2 => ?_)
    · skip
      have h := gcT c2 h
      refine hX_goM 4 (41) [some (.ref 0), some (.int x0), some (.int x1)] [.int x1, .int x0, .ref 49] rfl ?_
      revert h; refine gBindR fun q3 e3 h => ?_
      refine hX_call (r' := zR_59) rfl (mt_59_49 N x0 x1 q3 e3) ?_
      refine hX_go 3 (51) [some (.ref 0), some (.int x0), some (.int x1)] [.int q3.2] (hCm b d k s w ik ex pr wd sn qu q3.1 q3.2 (r0, rq) h0 h1 h2 h3 fi R) rfl ?_
      have h := Option.some.inj h; subst h
      exact hX_end rfl rfl rfl
    · skip
      have h := gcF c2 h
      refine hX_goM 2 (31) [some (.ref 0), some (.int x0), some (.int x1)] [.int 1, .ref 0] rfl ?_
      refine hX_call (r' := zR_111) rfl (ct_111_0 1 rfl) ?_
      refine hX_go 0 (34) [some (.ref 0), some (.int x0), some (.int x1)] [.int (v_111_0 1)] (hCm b d k s w ik ex pr wd sn qu tb ts (r0, rq) h0 h1 h2 h3 (f_111_0_fi 1 fi) R) rfl ?_
      have h := Option.some.inj h; subst h
      exact hX_end rfl rfl rfl
  · skip
    have h := gcF c1 h
    refine hX_goM 2 (11) [some (.ref 0), some (.int x0), some (.int x1)] [.int 0, .ref 0] rfl ?_
    refine hX_call (r' := zR_111) rfl (ct_111_0 0 rfl) ?_
    refine hX_go 0 (14) [some (.ref 0), some (.int x0), some (.int x1)] [.int (v_111_0 0)] (hCm b d k s w ik ex pr wd sn qu tb ts (r0, rq) h0 h1 h2 h3 (f_111_0_fi 0 fi) R) rfl ?_
    have h := Option.some.inj h; subst h
    exact hX_end rfl rfl rfl


/-- UpOneSide.wipe()I -/
def me_97_0 (N : Nat) (ts : Int32) : Option (Int32 × Int32) :=
  some (ts, 0)
set_option maxRecDepth 20000 in
set_option maxHeartbeats 4000000 in
theorem mt_97_0 {LL : Nat} {xs : Nat → Int32} {D : Nat} {b d k s w : hB} {ik ex pr wd : Int32} {sn : Nat → Int64} {qu tb : Nat → Int32} {ts : Int32} {r0 : Value} {rq : hRq} {h0 h1 h2 h3 : hSt} {fi : Nat → Int32} {R : List gE} (N : Nat) (q : Int32 × Int32) (h : me_97_0 N ts = some q) : hM (gO LL xs) (D + 0) zR_97 [.ref 0] (hCm b d k s w ik ex pr wd sn qu tb ts (r0, rq) h0 h1 h2 h3 fi R) (some (.int q.1)) (hCm b d k s w ik ex pr wd sn qu tb q.2 (r0, rq) h0 h1 h2 h3 fi R) := by
  unfold me_97_0 at h
  refine hX_go 0 0 [some (.ref 0), none] [] (hCm b d k s w ik ex pr wd sn qu tb ts (r0, rq) h0 h1 h2 h3 fi R) rfl ?_
  refine hX_go 9 (17) [some (.ref 0), some (.int ts)] [.int ts] (hCm b d k s w ik ex pr wd sn qu tb 0 (r0, rq) h0 h1 h2 h3 fi R) rfl ?_
  have h := Option.some.inj h; subst h
  exact hX_end rfl rfl rfl

/-- UpOneSide$Reader.isLetter(I)Z -/
def v_42 (x0 : Int32) : Int32 := bif gCmp .lt x0 97 then 0 else (bif gCmp .gt x0 122 then 0 else 1)
set_option maxRecDepth 20000 in
set_option maxHeartbeats 1000000 in
theorem ct_42 {LL : Nat} {xs : Nat → Int32} {D : Nat} {b d k s w : hB} {ik ex pr wd : Int32} {sn : Nat → Int64} {qu tb : Nat → Int32} {ts : Int32} {r0 : Value} {rq : hRq} {h0 h1 h2 h3 : hSt} {fi : Nat → Int32} {R : List gE} (x0 : Int32) : hM (gO LL xs) (D + 0) zR_42 [.int x0] (hCm b d k s w ik ex pr wd sn qu tb ts (r0, rq) h0 h1 h2 h3 fi R) (some (.int (v_42 x0))) (hCm b d k s w ik ex pr wd sn qu tb ts (r0, rq) h0 h1 h2 h3 fi R) := by
  refine hX_go 0 0 [some (.int x0)] [] (hCm b d k s w ik ex pr wd sn qu tb ts (r0, rq) h0 h1 h2 h3 fi R) rfl ?_
  refine hX_go 3 (bif gCmp .lt x0 97 then 16 else 6) [some (.int x0)] [] (hCm b d k s w ik ex pr wd sn qu tb ts (r0, rq) h0 h1 h2 h3 fi R) rfl ?_
  refine hX_if (gCmp .lt x0 97) (fun c1 => ?_) (fun c1 => ?_)
  · skip
    refine hX_goM 1 (17) [some (.int x0)] [.int 0] rfl ?_
    exact hX_end rfl (by unfold v_42; rw [c1]; rfl) (rfl)
  · skip
    refine hX_goM 3 (bif gCmp .gt x0 122 then 16 else 12) [some (.int x0)] [] rfl ?_
    refine hX_if (gCmp .gt x0 122) (fun c2 => ?_) (fun c2 => ?_)
    · skip
      refine hX_goM 1 (17) [some (.int x0)] [.int 0] rfl ?_
      exact hX_end rfl (by unfold v_42; rw [c1, c2]; rfl) (rfl)
    · skip
      refine hX_goM 2 (17) [some (.int x0)] [.int 1] rfl ?_
      exact hX_end rfl (by unfold v_42; rw [c1, c2]; rfl) (rfl)

theorem bz_42 (x0 : Int32) : (decide (v_42 x0 = 0) || decide (v_42 x0 = 1)) = true := by
  unfold v_42
  cases (gCmp .lt x0 97)
  · cases (gCmp .gt x0 122)
    · rfl
    · rfl
  · rfl

/-- UpOneSide$Reader.isDigit(I)Z -/
def v_43 (x0 : Int32) : Int32 := bif gCmp .lt x0 48 then 0 else (bif gCmp .gt x0 57 then 0 else 1)
set_option maxRecDepth 20000 in
set_option maxHeartbeats 1000000 in
theorem ct_43 {LL : Nat} {xs : Nat → Int32} {D : Nat} {b d k s w : hB} {ik ex pr wd : Int32} {sn : Nat → Int64} {qu tb : Nat → Int32} {ts : Int32} {r0 : Value} {rq : hRq} {h0 h1 h2 h3 : hSt} {fi : Nat → Int32} {R : List gE} (x0 : Int32) : hM (gO LL xs) (D + 0) zR_43 [.int x0] (hCm b d k s w ik ex pr wd sn qu tb ts (r0, rq) h0 h1 h2 h3 fi R) (some (.int (v_43 x0))) (hCm b d k s w ik ex pr wd sn qu tb ts (r0, rq) h0 h1 h2 h3 fi R) := by
  refine hX_go 0 0 [some (.int x0)] [] (hCm b d k s w ik ex pr wd sn qu tb ts (r0, rq) h0 h1 h2 h3 fi R) rfl ?_
  refine hX_go 3 (bif gCmp .lt x0 48 then 16 else 6) [some (.int x0)] [] (hCm b d k s w ik ex pr wd sn qu tb ts (r0, rq) h0 h1 h2 h3 fi R) rfl ?_
  refine hX_if (gCmp .lt x0 48) (fun c1 => ?_) (fun c1 => ?_)
  · skip
    refine hX_goM 1 (17) [some (.int x0)] [.int 0] rfl ?_
    exact hX_end rfl (by unfold v_43; rw [c1]; rfl) (rfl)
  · skip
    refine hX_goM 3 (bif gCmp .gt x0 57 then 16 else 12) [some (.int x0)] [] rfl ?_
    refine hX_if (gCmp .gt x0 57) (fun c2 => ?_) (fun c2 => ?_)
    · skip
      refine hX_goM 1 (17) [some (.int x0)] [.int 0] rfl ?_
      exact hX_end rfl (by unfold v_43; rw [c1, c2]; rfl) (rfl)
    · skip
      refine hX_goM 2 (17) [some (.int x0)] [.int 1] rfl ?_
      exact hX_end rfl (by unfold v_43; rw [c1, c2]; rfl) (rfl)

theorem bz_43 (x0 : Int32) : (decide (v_43 x0 = 0) || decide (v_43 x0 = 1)) = true := by
  unfold v_43
  cases (gCmp .lt x0 48)
  · cases (gCmp .gt x0 57)
    · rfl
    · rfl
  · rfl

/-- UpOneSide$Reader.signToken(I)I -/
def v_41 (x0 : Int32) : Int32 := bif gCmp .ne x0 59 then (bif gCmp .ne x0 45 then 5 else 4) else 3
set_option maxRecDepth 20000 in
set_option maxHeartbeats 1000000 in
theorem ct_41 {LL : Nat} {xs : Nat → Int32} {D : Nat} {b d k s w : hB} {ik ex pr wd : Int32} {sn : Nat → Int64} {qu tb : Nat → Int32} {ts : Int32} {r0 : Value} {rq : hRq} {h0 h1 h2 h3 : hSt} {fi : Nat → Int32} {R : List gE} (x0 : Int32) : hM (gO LL xs) (D + 0) zR_41 [.int x0] (hCm b d k s w ik ex pr wd sn qu tb ts (r0, rq) h0 h1 h2 h3 fi R) (some (.int (v_41 x0))) (hCm b d k s w ik ex pr wd sn qu tb ts (r0, rq) h0 h1 h2 h3 fi R) := by
  refine hX_go 0 0 [some (.int x0)] [] (hCm b d k s w ik ex pr wd sn qu tb ts (r0, rq) h0 h1 h2 h3 fi R) rfl ?_
  refine hX_go 3 (bif gCmp .ne x0 59 then 8 else 6) [some (.int x0)] [] (hCm b d k s w ik ex pr wd sn qu tb ts (r0, rq) h0 h1 h2 h3 fi R) rfl ?_
  refine hX_if (gCmp .ne x0 59) (fun c1 => ?_) (fun c1 => ?_)
  · skip
    refine hX_goM 3 (bif gCmp .ne x0 45 then 18 else 14) [some (.int x0)] [] rfl ?_
    suffices hk : hX (gO LL xs) (D + 0) zR_41 19 [some (.int x0)] [.int (bif gCmp .ne x0 45 then 5 else 4)] (hCm b d k s w ik ex pr wd sn qu tb ts (r0, rq) h0 h1 h2 h3 fi R) (some (.int (v_41 x0))) (hCm b d k s w ik ex pr wd sn qu tb ts (r0, rq) h0 h1 h2 h3 fi R) by
      refine hX_if (gCmp .ne x0 45) (fun c2 => ?_) (fun c2 => ?_)
      · skip
        refine hX_goM 1 (19) [some (.int x0)] [.int 5] rfl ?_
        have hk := hk
        simp only [c2, cond_true, cond_false] at hk
        first | exact hk | (simp only [c2, cond_true, cond_false]; exact hk)
      · skip
        refine hX_goM 2 (19) [some (.int x0)] [.int 4] rfl ?_
        have hk := hk
        simp only [c2, cond_true, cond_false] at hk
        first | exact hk | (simp only [c2, cond_true, cond_false]; exact hk)
    exact hX_end rfl (by unfold v_41; rw [c1]; rfl) (rfl)
  · skip
    refine hX_goM 1 (7) [some (.int x0)] [.int 3] rfl ?_
    exact hX_end rfl (by unfold v_41; rw [c1]; rfl) (rfl)

/-- UpOneSide$Reader.advance: the loop at 0 -/
def lp_40_51_0 (N : Nat) (tb : Nat → Int32) : Nat → hRq → Option (hRq)
  | 0, _ => none
  | n + 1, rq =>
    (bif gCmp .ge rq.2.2.2.1 rq.1 then
      some (rq)
    else
      (bif gIn rq.2.2.2.1 120 then (bif gCmp .ne (tb (Int32.toNatClampNeg rq.2.2.2.1)) 32 then
        some (rq)
      else
        lp_40_51_0 N tb n (rq.1, rq.2.1, rq.2.2.1, rq.2.2.2.1 + 1, rq.2.2.2.2)) else none))
set_option maxRecDepth 20000 in
set_option maxHeartbeats 4000000 in
theorem lt_40_51_0 {LL : Nat} {xs : Nat → Int32} {D N : Nat} {b d k s w : hB} {ik ex pr wd : Int32} {sn : Nat → Int64} {qu tb : Nat → Int32} {ts : Int32}  {h0 h1 h2 h3 : hSt} {fi : Nat → Int32} {R : List gE} {v : Option Value} {M' : List gE} : ∀ (n : Nat) (rq : hRq) (q : hRq), lp_40_51_0 N tb n rq = some q → (kk : hX (gO LL xs) (D + 1) zR_40 38 [some (.ref 51)] [] (hCm b d k s w ik ex pr wd sn qu tb ts (.ref 50, q) h0 h1 h2 h3 fi R) v M') → hX (gO LL xs) (D + 1) zR_40 0 [some (.ref 51)] [] (hCm b d k s w ik ex pr wd sn qu tb ts (.ref 50, rq) h0 h1 h2 h3 fi R) v M' := by
  intro n
  induction n with
  | zero => intro rq q h; cases h
  | succ n ih =>
    intro rq q h kk
    rw [lp_40_51_0] at h
    refine hX_go 5 (bif gCmp .ge rq.2.2.2.1 rq.1 then 38 else 11) [some (.ref 51)] [] (hCm b d k s w ik ex pr wd sn qu tb ts (.ref 50, rq) h0 h1 h2 h3 fi R) rfl ?_
    refine hX_if (gCmp .ge rq.2.2.2.1 rq.1) (fun c1 => ?_) (fun c1 => ?_)
    · skip
      have h := gcT c1 h
      have h := Option.some.inj h; subst h
      exact kk
    · skip
      have h := gcF c1 h
      refine hX_goM 4 (19) [some (.ref 51)] [.int rq.2.2.2.1, .ref 50] rfl ?_
      revert h; refine gCondR fun g2 h => ?_
      refine hX_gM (gIn rq.2.2.2.1 120) 20 [some (.ref 51)] [.int (tb (Int32.toNatClampNeg rq.2.2.2.1))] rfl g2 ?_
      refine hX_goM 2 (bif gCmp .ne (tb (Int32.toNatClampNeg rq.2.2.2.1)) 32 then 38 else 25) [some (.ref 51)] [] rfl ?_
      refine hX_if (gCmp .ne (tb (Int32.toNatClampNeg rq.2.2.2.1)) 32) (fun c3 => ?_) (fun c3 => ?_)
      · skip
        have h := gcT c3 h
        have h := Option.some.inj h; subst h
        exact kk
      · skip
        have h := gcF c3 h
        refine hX_go 7 (0) [some (.ref 51)] [] (hCm b d k s w ik ex pr wd sn qu tb ts (.ref 50, (rq.1, rq.2.1, rq.2.2.1, rq.2.2.2.1 + 1, rq.2.2.2.2)) h0 h1 h2 h3 fi R) rfl ?_
        exact ih (rq.1, rq.2.1, rq.2.2.1, rq.2.2.2.1 + 1, rq.2.2.2.2) q h kk

/-- UpOneSide$Reader.advance: the loop at 149 -/
def lp_40_51_149 (N : Nat) (tb : Nat → Int32) : Nat → hRq → Option (hRq)
  | 0, _ => none
  | n + 1, rq =>
    (bif gCmp .ge rq.2.2.2.1 rq.1 then
      some (rq)
    else
      (bif gIn rq.2.2.2.1 120 then (bif gCmp .eq (v_43 (tb (Int32.toNatClampNeg rq.2.2.2.1))) 0 then
        some (rq)
      else
        (bif gIn rq.2.2.2.1 120 then lp_40_51_149 N tb n (rq.1, rq.2.1, rq.2.2.1, rq.2.2.2.1 + 1, if (((rq.2.2.2.2.1 * 10) + (tb (Int32.toNatClampNeg rq.2.2.2.1))) - 48) < 1000 then (((rq.2.2.2.2.1 * 10) + (tb (Int32.toNatClampNeg rq.2.2.2.1))) - 48) else 1000, rq.2.2.2.2.2) else none)) else none))
set_option maxRecDepth 20000 in
set_option maxHeartbeats 4000000 in
theorem lt_40_51_149 {LL : Nat} {xs : Nat → Int32} {D N : Nat} {b d k s w : hB} {ik ex pr wd : Int32} {sn : Nat → Int64} {qu tb : Nat → Int32} {ts : Int32}  {h0 h1 h2 h3 : hSt} {fi : Nat → Int32} {R : List gE} {v : Option Value} {M' : List gE} : ∀ (n : Nat) (rq : hRq) (q : hRq), lp_40_51_149 N tb n rq = some q → (kk : hX (gO LL xs) (D + 1) zR_40 244 [some (.ref 51)] [] (hCm b d k s w ik ex pr wd sn qu tb ts (.ref 50, q) h0 h1 h2 h3 fi R) v M') → hX (gO LL xs) (D + 1) zR_40 149 [some (.ref 51)] [] (hCm b d k s w ik ex pr wd sn qu tb ts (.ref 50, rq) h0 h1 h2 h3 fi R) v M' := by
  intro n
  induction n with
  | zero => intro rq q h; cases h
  | succ n ih =>
    intro rq q h kk
    rw [lp_40_51_149] at h
    refine hX_go 5 (bif gCmp .ge rq.2.2.2.1 rq.1 then 244 else 160) [some (.ref 51)] [] (hCm b d k s w ik ex pr wd sn qu tb ts (.ref 50, rq) h0 h1 h2 h3 fi R) rfl ?_
    refine hX_if (gCmp .ge rq.2.2.2.1 rq.1) (fun c1 => ?_) (fun c1 => ?_)
    · skip
      have h := gcT c1 h
      have h := Option.some.inj h; subst h
      exact kk
    · skip
      have h := gcF c1 h
      refine hX_goM 4 (168) [some (.ref 51)] [.int rq.2.2.2.1, .ref 50] rfl ?_
      revert h; refine gCondR fun g2 h => ?_
      refine hX_gM (gIn rq.2.2.2.1 120) 169 [some (.ref 51)] [.int (tb (Int32.toNatClampNeg rq.2.2.2.1))] rfl g2 ?_
      refine hX_call (r' := zR_43) rfl (ct_43 (tb (Int32.toNatClampNeg rq.2.2.2.1))) ?_
      refine hX_goM 1 (bif gCmp .eq (v_43 (tb (Int32.toNatClampNeg rq.2.2.2.1))) 0 then 244 else 175) [some (.ref 51)] [] rfl ?_
      refine hX_if (gCmp .eq (v_43 (tb (Int32.toNatClampNeg rq.2.2.2.1))) 0) (fun c3 => ?_) (fun c3 => ?_)
      · skip
        have h := gcT c3 h
        have h := Option.some.inj h; subst h
        exact kk
      · skip
        have h := gcF c3 h
        refine hX_goM 9 (191) [some (.ref 51)] [.ref 51, .ref 50, .int (rq.2.2.2.2.1 * 10), .int 1000, .ref 51] rfl ?_
        refine hX_goM 1 (194) [some (.ref 51)] [.int rq.2.2.2.1, .ref 50, .int (rq.2.2.2.2.1 * 10), .int 1000, .ref 51] rfl ?_
        revert h; refine gCondR fun g4 h => ?_
        refine hX_gM (gIn rq.2.2.2.1 120) 195 [some (.ref 51)] [.int (tb (Int32.toNatClampNeg rq.2.2.2.1)), .int (rq.2.2.2.2.1 * 10), .int 1000, .ref 51] rfl g4 ?_
        refine hX_go 9 (211) [some (.ref 51)] [.int 1, .int rq.2.2.2.1, .ref 51] (hCm b d k s w ik ex pr wd sn qu tb ts (.ref 50, (rq.1, rq.2.1, rq.2.2.1, rq.2.2.2.1, if (((rq.2.2.2.2.1 * 10) + (tb (Int32.toNatClampNeg rq.2.2.2.1))) - 48) < 1000 then (((rq.2.2.2.2.1 * 10) + (tb (Int32.toNatClampNeg rq.2.2.2.1))) - 48) else 1000, rq.2.2.2.2.2)) h0 h1 h2 h3 fi R) rfl ?_
        refine hX_go 3 (149) [some (.ref 51)] [] (hCm b d k s w ik ex pr wd sn qu tb ts (.ref 50, (rq.1, rq.2.1, rq.2.2.1, rq.2.2.2.1 + 1, if (((rq.2.2.2.2.1 * 10) + (tb (Int32.toNatClampNeg rq.2.2.2.1))) - 48) < 1000 then (((rq.2.2.2.2.1 * 10) + (tb (Int32.toNatClampNeg rq.2.2.2.1))) - 48) else 1000, rq.2.2.2.2.2)) h0 h1 h2 h3 fi R) rfl ?_
        exact ih (rq.1, rq.2.1, rq.2.2.1, rq.2.2.2.1 + 1, if (((rq.2.2.2.2.1 * 10) + (tb (Int32.toNatClampNeg rq.2.2.2.1))) - 48) < 1000 then (((rq.2.2.2.2.1 * 10) + (tb (Int32.toNatClampNeg rq.2.2.2.1))) - 48) else 1000, rq.2.2.2.2.2) q h kk

/-- UpOneSide$Reader.advance: the loop at 85 -/
def lp_40_51_85 (N : Nat) (tb : Nat → Int32) : Nat → hRq → Option (hRq)
  | 0, _ => none
  | n + 1, rq =>
    (bif gCmp .ge rq.2.2.2.1 rq.1 then
      some (rq)
    else
      (bif gIn rq.2.2.2.1 120 then (bif gCmp .eq (v_42 (tb (Int32.toNatClampNeg rq.2.2.2.1))) 0 then
        some (rq)
      else
        lp_40_51_85 N tb n (rq.1, rq.2.1, rq.2.2.1, rq.2.2.2.1 + 1, rq.2.2.2.2)) else none))
set_option maxRecDepth 20000 in
set_option maxHeartbeats 4000000 in
theorem lt_40_51_85 {LL : Nat} {xs : Nat → Int32} {D N : Nat} {b d k s w : hB} {ik ex pr wd : Int32} {sn : Nat → Int64} {qu tb : Nat → Int32} {ts : Int32}  {h0 h1 h2 h3 : hSt} {fi : Nat → Int32} {R : List gE} {v : Option Value} {M' : List gE} : ∀ (n : Nat) (rq : hRq) (q : hRq), lp_40_51_85 N tb n rq = some q → (kk : hX (gO LL xs) (D + 1) zR_40 244 [some (.ref 51)] [] (hCm b d k s w ik ex pr wd sn qu tb ts (.ref 50, q) h0 h1 h2 h3 fi R) v M') → hX (gO LL xs) (D + 1) zR_40 85 [some (.ref 51)] [] (hCm b d k s w ik ex pr wd sn qu tb ts (.ref 50, rq) h0 h1 h2 h3 fi R) v M' := by
  intro n
  induction n with
  | zero => intro rq q h; cases h
  | succ n ih =>
    intro rq q h kk
    rw [lp_40_51_85] at h
    refine hX_go 5 (bif gCmp .ge rq.2.2.2.1 rq.1 then 244 else 96) [some (.ref 51)] [] (hCm b d k s w ik ex pr wd sn qu tb ts (.ref 50, rq) h0 h1 h2 h3 fi R) rfl ?_
    refine hX_if (gCmp .ge rq.2.2.2.1 rq.1) (fun c1 => ?_) (fun c1 => ?_)
    · skip
      have h := gcT c1 h
      have h := Option.some.inj h; subst h
      exact kk
    · skip
      have h := gcF c1 h
      refine hX_goM 4 (104) [some (.ref 51)] [.int rq.2.2.2.1, .ref 50] rfl ?_
      revert h; refine gCondR fun g2 h => ?_
      refine hX_gM (gIn rq.2.2.2.1 120) 105 [some (.ref 51)] [.int (tb (Int32.toNatClampNeg rq.2.2.2.1))] rfl g2 ?_
      refine hX_call (r' := zR_42) rfl (ct_42 (tb (Int32.toNatClampNeg rq.2.2.2.1))) ?_
      refine hX_goM 1 (bif gCmp .eq (v_42 (tb (Int32.toNatClampNeg rq.2.2.2.1))) 0 then 244 else 111) [some (.ref 51)] [] rfl ?_
      refine hX_if (gCmp .eq (v_42 (tb (Int32.toNatClampNeg rq.2.2.2.1))) 0) (fun c3 => ?_) (fun c3 => ?_)
      · skip
        have h := gcT c3 h
        have h := Option.some.inj h; subst h
        exact kk
      · skip
        have h := gcF c3 h
        refine hX_go 7 (85) [some (.ref 51)] [] (hCm b d k s w ik ex pr wd sn qu tb ts (.ref 50, (rq.1, rq.2.1, rq.2.2.1, rq.2.2.2.1 + 1, rq.2.2.2.2)) h0 h1 h2 h3 fi R) rfl ?_
        exact ih (rq.1, rq.2.1, rq.2.2.1, rq.2.2.2.1 + 1, rq.2.2.2.2) q h kk

/-- UpOneSide$Reader.advance()V -/
def me_40_51 (N : Nat) (tb : Nat → Int32) (rq : hRq) : Option (hRq) :=
  (Option.bind (lp_40_51_0 N tb N rq) fun q1 =>
  (bif gCmp .lt q1.2.2.2.1 q1.1 then
    (bif gIn q1.2.2.2.1 120 then (bif gCmp .eq (v_42 (tb (Int32.toNatClampNeg q1.2.2.2.1))) 0 then
      (bif gIn q1.2.2.2.1 120 then (bif gCmp .eq (v_43 (tb (Int32.toNatClampNeg q1.2.2.2.1))) 0 then
        (bif gIn q1.2.2.2.1 120 then some ((q1.1, v_41 (tb (Int32.toNatClampNeg q1.2.2.2.1)), q1.2.2.2.1, q1.2.2.2.1 + 1, q1.2.2.2.2)) else none)
      else
        (Option.bind (lp_40_51_149 N tb N (q1.1, 2, q1.2.2.2.1, q1.2.2.2.1, 0, q1.2.2.2.2.2)) fun q8 =>
        some (q8))) else none)
    else
      (Option.bind (lp_40_51_85 N tb N (q1.1, 1, q1.2.2.2.1, q1.2.2.2)) fun q9 =>
      some (q9))) else none)
  else
    some ((q1.1, 0, q1.2.2.2.1, q1.2.2.2))))
set_option maxRecDepth 20000 in
set_option maxHeartbeats 4000000 in
theorem mt_40_51 {LL : Nat} {xs : Nat → Int32} {D : Nat} {b d k s w : hB} {ik ex pr wd : Int32} {sn : Nat → Int64} {qu tb : Nat → Int32} {ts : Int32} {rq : hRq} {h0 h1 h2 h3 : hSt} {fi : Nat → Int32} {R : List gE} (N : Nat) (q : hRq) (h : me_40_51 N tb rq = some q) : hM (gO LL xs) (D + 1) zR_40 [.ref 51] (hCm b d k s w ik ex pr wd sn qu tb ts (.ref 50, rq) h0 h1 h2 h3 fi R) none (hCm b d k s w ik ex pr wd sn qu tb ts (.ref 50, q) h0 h1 h2 h3 fi R) := by
  unfold me_40_51 at h
  refine hX_go 0 0 [some (.ref 51)] [] (hCm b d k s w ik ex pr wd sn qu tb ts (.ref 50, rq) h0 h1 h2 h3 fi R) rfl ?_
  revert h; refine gBindR fun q1 e1 h => ?_
  refine lt_40_51_0 N rq q1 e1 ?_
  refine hX_go 9 (bif gCmp .lt q1.2.2.2.1 q1.1 then 65 else 57) [some (.ref 51)] [] (hCm b d k s w ik ex pr wd sn qu tb ts (.ref 50, (q1.1, q1.2.1, q1.2.2.2.1, q1.2.2.2)) h0 h1 h2 h3 fi R) rfl ?_
  refine hX_if (gCmp .lt q1.2.2.2.1 q1.1) (fun c2 => ?_) (fun c2 => ?_)
  · skip
    have h := gcT c2 h
    refine hX_goM 4 (73) [some (.ref 51)] [.int q1.2.2.2.1, .ref 50] rfl ?_
    revert h; refine gCondR fun g3 h => ?_
    refine hX_gM (gIn q1.2.2.2.1 120) 74 [some (.ref 51)] [.int (tb (Int32.toNatClampNeg q1.2.2.2.1))] rfl g3 ?_
    refine hX_call (r' := zR_42) rfl (ct_42 (tb (Int32.toNatClampNeg q1.2.2.2.1))) ?_
    refine hX_goM 1 (bif gCmp .eq (v_42 (tb (Int32.toNatClampNeg q1.2.2.2.1))) 0 then 124 else 80) [some (.ref 51)] [] rfl ?_
    refine hX_if (gCmp .eq (v_42 (tb (Int32.toNatClampNeg q1.2.2.2.1))) 0) (fun c4 => ?_) (fun c4 => ?_)
    · skip
      have h := gcT c4 h
      refine hX_goM 4 (132) [some (.ref 51)] [.int q1.2.2.2.1, .ref 50] rfl ?_
      revert h; refine gCondR fun g5 h => ?_
      refine hX_gM (gIn q1.2.2.2.1 120) 133 [some (.ref 51)] [.int (tb (Int32.toNatClampNeg q1.2.2.2.1))] rfl g5 ?_
      refine hX_call (r' := zR_43) rfl (ct_43 (tb (Int32.toNatClampNeg q1.2.2.2.1))) ?_
      refine hX_goM 1 (bif gCmp .eq (v_43 (tb (Int32.toNatClampNeg q1.2.2.2.1))) 0 then 218 else 139) [some (.ref 51)] [] rfl ?_
      refine hX_if (gCmp .eq (v_43 (tb (Int32.toNatClampNeg q1.2.2.2.1))) 0) (fun c6 => ?_) (fun c6 => ?_)
      · skip
        have h := gcT c6 h
        refine hX_goM 5 (227) [some (.ref 51)] [.int q1.2.2.2.1, .ref 50, .ref 51] rfl ?_
        revert h; refine gCondR fun g7 h => ?_
        refine hX_gM (gIn q1.2.2.2.1 120) 228 [some (.ref 51)] [.int (tb (Int32.toNatClampNeg q1.2.2.2.1)), .ref 51] rfl g7 ?_
        refine hX_call (r' := zR_41) rfl (ct_41 (tb (Int32.toNatClampNeg q1.2.2.2.1))) ?_
        refine hX_go 7 (244) [some (.ref 51)] [] (hCm b d k s w ik ex pr wd sn qu tb ts (.ref 50, (q1.1, v_41 (tb (Int32.toNatClampNeg q1.2.2.2.1)), q1.2.2.2.1, q1.2.2.2.1 + 1, q1.2.2.2.2)) h0 h1 h2 h3 fi R) rfl ?_
        have h := Option.some.inj h; subst h
        exact hX_end rfl rfl rfl
      · skip
        have h := gcF c6 h
        refine hX_go 6 (149) [some (.ref 51)] [] (hCm b d k s w ik ex pr wd sn qu tb ts (.ref 50, (q1.1, 2, q1.2.2.2.1, q1.2.2.2.1, 0, q1.2.2.2.2.2)) h0 h1 h2 h3 fi R) rfl ?_
        revert h; refine gBindR fun q8 e8 h => ?_
        refine lt_40_51_149 N (q1.1, 2, q1.2.2.2.1, q1.2.2.2.1, 0, q1.2.2.2.2.2) q8 e8 ?_
        refine hX_go 0 (244) [some (.ref 51)] [] (hCm b d k s w ik ex pr wd sn qu tb ts (.ref 50, q8) h0 h1 h2 h3 fi R) rfl ?_
        have h := Option.some.inj h; subst h
        exact hX_end rfl rfl rfl
    · skip
      have h := gcF c4 h
      refine hX_go 3 (85) [some (.ref 51)] [] (hCm b d k s w ik ex pr wd sn qu tb ts (.ref 50, (q1.1, 1, q1.2.2.2.1, q1.2.2.2)) h0 h1 h2 h3 fi R) rfl ?_
      revert h; refine gBindR fun q9 e9 h => ?_
      refine lt_40_51_85 N (q1.1, 1, q1.2.2.2.1, q1.2.2.2) q9 e9 ?_
      refine hX_go 0 (244) [some (.ref 51)] [] (hCm b d k s w ik ex pr wd sn qu tb ts (.ref 50, q9) h0 h1 h2 h3 fi R) rfl ?_
      have h := Option.some.inj h; subst h
      exact hX_end rfl rfl rfl
  · skip
    have h := gcF c2 h
    refine hX_go 4 (244) [some (.ref 51)] [] (hCm b d k s w ik ex pr wd sn qu tb ts (.ref 50, (q1.1, 0, q1.2.2.2.1, q1.2.2.2)) h0 h1 h2 h3 fi R) rfl ?_
    have h := Option.some.inj h; subst h
    exact hX_end rfl rfl rfl

theorem sw_37_1 (x : Int32) : gSwT 1 57 1 6 #[39, 42, 45, 48, 51, 54] x = some (bif hEq x 1 then 40 else bif hEq x 2 then 43 else bif hEq x 3 then 46 else bif hEq x 4 then 49 else bif hEq x 5 then 52 else bif hEq x 6 then 55 else 58) := by
  by_cases q1 : x = 1
  · subst q1; rfl
  by_cases q2 : x = 2
  · subst q2; rfl
  by_cases q3 : x = 3
  · subst q3; rfl
  by_cases q4 : x = 4
  · subst q4; rfl
  by_cases q5 : x = 5
  · subst q5; rfl
  by_cases q6 : x = 6
  · subst q6; rfl
  simp only [hEq, q1, q2, q3, q4, q5, q6, decide_false, cond_false]
  have n1 := hNe q1
  have n2 := hNe q2
  have n3 := hNe q3
  have n4 := hNe q4
  have n5 := hNe q5
  have n6 := hNe q6
  unfold gSwT
  rw [show (decide (x.toInt < 1) || decide (6 < x.toInt)) = true from by
    simp only [Bool.or_eq_true, decide_eq_true_eq]
    have e : ∀ z : Int, z < 1 ∨ 6 < z ∨ (z = 1 ∨ z = 2 ∨ z = 3 ∨ z = 4 ∨ z = 5 ∨ z = 6) := by intro z; omega
    rcases e x.toInt with h | h | h
    · exact Or.inl h
    · exact Or.inr h
    · rcases h with h | h | h | h | h | h
      · exact absurd h n1
      · exact absurd h n2
      · exact absurd h n3
      · exact absurd h n4
      · exact absurd h n5
      · exact absurd h n6
    ]
  rfl

theorem ct_37_0 {LL : Nat} {xs : Nat → Int32} {D : Nat} {b d k s w : hB} {ik ex pr wd : Int32} {sn : Nat → Int64} {qu tb : Nat → Int32} {ts : Int32} {r0 : Value} {rq : hRq} {h0 h1 h2 h3 : hSt} {fi : Nat → Int32} {R : List gE} (x0 : Int32) (f0 : hEq x0 1 = true) : hM (gO LL xs) (D + 0) zR_37 [.int x0] (hCm b d k s w ik ex pr wd sn qu tb ts (r0, rq) h0 h1 h2 h3 fi R) (some (.ref 1010)) (hCm b d k s w ik ex pr wd sn qu tb ts (r0, rq) h0 h1 h2 h3 fi R) := by
  refine hX_go 0 0 [some (.int x0)] [] (hCm b d k s w ik ex pr wd sn qu tb ts (r0, rq) h0 h1 h2 h3 fi R) rfl ?_
  refine hX_go 1 (1) [some (.int x0)] [.int x0] (hCm b d k s w ik ex pr wd sn qu tb ts (r0, rq) h0 h1 h2 h3 fi R) rfl ?_
  refine hX_sw (bif hEq x0 1 then 40 else bif hEq x0 2 then 43 else bif hEq x0 3 then 46 else bif hEq x0 4 then 49 else bif hEq x0 5 then 52 else bif hEq x0 6 then 55 else 58) rfl (sw_37_1 x0) ?_
  refine hX_ifT (hEq x0 1) f0 ?_
  refine hX_goM 1 (42) [some (.int x0)] [.ref 1010] rfl ?_
  exact hX_end rfl rfl rfl

theorem ct_37_1 {LL : Nat} {xs : Nat → Int32} {D : Nat} {b d k s w : hB} {ik ex pr wd : Int32} {sn : Nat → Int64} {qu tb : Nat → Int32} {ts : Int32} {r0 : Value} {rq : hRq} {h0 h1 h2 h3 : hSt} {fi : Nat → Int32} {R : List gE} (x0 : Int32) (f0 : hEq x0 1 = false) (f1 : hEq x0 2 = true) : hM (gO LL xs) (D + 0) zR_37 [.int x0] (hCm b d k s w ik ex pr wd sn qu tb ts (r0, rq) h0 h1 h2 h3 fi R) (some (.ref 1011)) (hCm b d k s w ik ex pr wd sn qu tb ts (r0, rq) h0 h1 h2 h3 fi R) := by
  refine hX_go 0 0 [some (.int x0)] [] (hCm b d k s w ik ex pr wd sn qu tb ts (r0, rq) h0 h1 h2 h3 fi R) rfl ?_
  refine hX_go 1 (1) [some (.int x0)] [.int x0] (hCm b d k s w ik ex pr wd sn qu tb ts (r0, rq) h0 h1 h2 h3 fi R) rfl ?_
  refine hX_sw (bif hEq x0 1 then 40 else bif hEq x0 2 then 43 else bif hEq x0 3 then 46 else bif hEq x0 4 then 49 else bif hEq x0 5 then 52 else bif hEq x0 6 then 55 else 58) rfl (sw_37_1 x0) ?_
  refine hX_ifF (hEq x0 1) f0 ?_
  refine hX_ifT (hEq x0 2) f1 ?_
  refine hX_goM 1 (45) [some (.int x0)] [.ref 1011] rfl ?_
  exact hX_end rfl rfl rfl

theorem ct_37_2 {LL : Nat} {xs : Nat → Int32} {D : Nat} {b d k s w : hB} {ik ex pr wd : Int32} {sn : Nat → Int64} {qu tb : Nat → Int32} {ts : Int32} {r0 : Value} {rq : hRq} {h0 h1 h2 h3 : hSt} {fi : Nat → Int32} {R : List gE} (x0 : Int32) (f0 : hEq x0 1 = false) (f1 : hEq x0 2 = false) (f2 : hEq x0 3 = true) : hM (gO LL xs) (D + 0) zR_37 [.int x0] (hCm b d k s w ik ex pr wd sn qu tb ts (r0, rq) h0 h1 h2 h3 fi R) (some (.ref 1012)) (hCm b d k s w ik ex pr wd sn qu tb ts (r0, rq) h0 h1 h2 h3 fi R) := by
  refine hX_go 0 0 [some (.int x0)] [] (hCm b d k s w ik ex pr wd sn qu tb ts (r0, rq) h0 h1 h2 h3 fi R) rfl ?_
  refine hX_go 1 (1) [some (.int x0)] [.int x0] (hCm b d k s w ik ex pr wd sn qu tb ts (r0, rq) h0 h1 h2 h3 fi R) rfl ?_
  refine hX_sw (bif hEq x0 1 then 40 else bif hEq x0 2 then 43 else bif hEq x0 3 then 46 else bif hEq x0 4 then 49 else bif hEq x0 5 then 52 else bif hEq x0 6 then 55 else 58) rfl (sw_37_1 x0) ?_
  refine hX_ifF (hEq x0 1) f0 ?_
  refine hX_ifF (hEq x0 2) f1 ?_
  refine hX_ifT (hEq x0 3) f2 ?_
  refine hX_goM 1 (48) [some (.int x0)] [.ref 1012] rfl ?_
  exact hX_end rfl rfl rfl

theorem ct_37_3 {LL : Nat} {xs : Nat → Int32} {D : Nat} {b d k s w : hB} {ik ex pr wd : Int32} {sn : Nat → Int64} {qu tb : Nat → Int32} {ts : Int32} {r0 : Value} {rq : hRq} {h0 h1 h2 h3 : hSt} {fi : Nat → Int32} {R : List gE} (x0 : Int32) (f0 : hEq x0 1 = false) (f1 : hEq x0 2 = false) (f2 : hEq x0 3 = false) (f3 : hEq x0 4 = true) : hM (gO LL xs) (D + 0) zR_37 [.int x0] (hCm b d k s w ik ex pr wd sn qu tb ts (r0, rq) h0 h1 h2 h3 fi R) (some (.ref 1013)) (hCm b d k s w ik ex pr wd sn qu tb ts (r0, rq) h0 h1 h2 h3 fi R) := by
  refine hX_go 0 0 [some (.int x0)] [] (hCm b d k s w ik ex pr wd sn qu tb ts (r0, rq) h0 h1 h2 h3 fi R) rfl ?_
  refine hX_go 1 (1) [some (.int x0)] [.int x0] (hCm b d k s w ik ex pr wd sn qu tb ts (r0, rq) h0 h1 h2 h3 fi R) rfl ?_
  refine hX_sw (bif hEq x0 1 then 40 else bif hEq x0 2 then 43 else bif hEq x0 3 then 46 else bif hEq x0 4 then 49 else bif hEq x0 5 then 52 else bif hEq x0 6 then 55 else 58) rfl (sw_37_1 x0) ?_
  refine hX_ifF (hEq x0 1) f0 ?_
  refine hX_ifF (hEq x0 2) f1 ?_
  refine hX_ifF (hEq x0 3) f2 ?_
  refine hX_ifT (hEq x0 4) f3 ?_
  refine hX_goM 1 (51) [some (.int x0)] [.ref 1013] rfl ?_
  exact hX_end rfl rfl rfl

theorem ct_37_4 {LL : Nat} {xs : Nat → Int32} {D : Nat} {b d k s w : hB} {ik ex pr wd : Int32} {sn : Nat → Int64} {qu tb : Nat → Int32} {ts : Int32} {r0 : Value} {rq : hRq} {h0 h1 h2 h3 : hSt} {fi : Nat → Int32} {R : List gE} (x0 : Int32) (f0 : hEq x0 1 = false) (f1 : hEq x0 2 = false) (f2 : hEq x0 3 = false) (f3 : hEq x0 4 = false) (f4 : hEq x0 5 = true) : hM (gO LL xs) (D + 0) zR_37 [.int x0] (hCm b d k s w ik ex pr wd sn qu tb ts (r0, rq) h0 h1 h2 h3 fi R) (some (.ref 1014)) (hCm b d k s w ik ex pr wd sn qu tb ts (r0, rq) h0 h1 h2 h3 fi R) := by
  refine hX_go 0 0 [some (.int x0)] [] (hCm b d k s w ik ex pr wd sn qu tb ts (r0, rq) h0 h1 h2 h3 fi R) rfl ?_
  refine hX_go 1 (1) [some (.int x0)] [.int x0] (hCm b d k s w ik ex pr wd sn qu tb ts (r0, rq) h0 h1 h2 h3 fi R) rfl ?_
  refine hX_sw (bif hEq x0 1 then 40 else bif hEq x0 2 then 43 else bif hEq x0 3 then 46 else bif hEq x0 4 then 49 else bif hEq x0 5 then 52 else bif hEq x0 6 then 55 else 58) rfl (sw_37_1 x0) ?_
  refine hX_ifF (hEq x0 1) f0 ?_
  refine hX_ifF (hEq x0 2) f1 ?_
  refine hX_ifF (hEq x0 3) f2 ?_
  refine hX_ifF (hEq x0 4) f3 ?_
  refine hX_ifT (hEq x0 5) f4 ?_
  refine hX_goM 1 (54) [some (.int x0)] [.ref 1014] rfl ?_
  exact hX_end rfl rfl rfl

theorem ct_37_5 {LL : Nat} {xs : Nat → Int32} {D : Nat} {b d k s w : hB} {ik ex pr wd : Int32} {sn : Nat → Int64} {qu tb : Nat → Int32} {ts : Int32} {r0 : Value} {rq : hRq} {h0 h1 h2 h3 : hSt} {fi : Nat → Int32} {R : List gE} (x0 : Int32) (f0 : hEq x0 1 = false) (f1 : hEq x0 2 = false) (f2 : hEq x0 3 = false) (f3 : hEq x0 4 = false) (f4 : hEq x0 5 = false) (f5 : hEq x0 6 = true) : hM (gO LL xs) (D + 0) zR_37 [.int x0] (hCm b d k s w ik ex pr wd sn qu tb ts (r0, rq) h0 h1 h2 h3 fi R) (some (.ref 1015)) (hCm b d k s w ik ex pr wd sn qu tb ts (r0, rq) h0 h1 h2 h3 fi R) := by
  refine hX_go 0 0 [some (.int x0)] [] (hCm b d k s w ik ex pr wd sn qu tb ts (r0, rq) h0 h1 h2 h3 fi R) rfl ?_
  refine hX_go 1 (1) [some (.int x0)] [.int x0] (hCm b d k s w ik ex pr wd sn qu tb ts (r0, rq) h0 h1 h2 h3 fi R) rfl ?_
  refine hX_sw (bif hEq x0 1 then 40 else bif hEq x0 2 then 43 else bif hEq x0 3 then 46 else bif hEq x0 4 then 49 else bif hEq x0 5 then 52 else bif hEq x0 6 then 55 else 58) rfl (sw_37_1 x0) ?_
  refine hX_ifF (hEq x0 1) f0 ?_
  refine hX_ifF (hEq x0 2) f1 ?_
  refine hX_ifF (hEq x0 3) f2 ?_
  refine hX_ifF (hEq x0 4) f3 ?_
  refine hX_ifF (hEq x0 5) f4 ?_
  refine hX_ifT (hEq x0 6) f5 ?_
  refine hX_goM 1 (57) [some (.int x0)] [.ref 1015] rfl ?_
  exact hX_end rfl rfl rfl

theorem ct_37_6 {LL : Nat} {xs : Nat → Int32} {D : Nat} {b d k s w : hB} {ik ex pr wd : Int32} {sn : Nat → Int64} {qu tb : Nat → Int32} {ts : Int32} {r0 : Value} {rq : hRq} {h0 h1 h2 h3 : hSt} {fi : Nat → Int32} {R : List gE} (x0 : Int32) (f0 : hEq x0 1 = false) (f1 : hEq x0 2 = false) (f2 : hEq x0 3 = false) (f3 : hEq x0 4 = false) (f4 : hEq x0 5 = false) (f5 : hEq x0 6 = false) : hM (gO LL xs) (D + 0) zR_37 [.int x0] (hCm b d k s w ik ex pr wd sn qu tb ts (r0, rq) h0 h1 h2 h3 fi R) (some (.ref 1016)) (hCm b d k s w ik ex pr wd sn qu tb ts (r0, rq) h0 h1 h2 h3 fi R) := by
  refine hX_go 0 0 [some (.int x0)] [] (hCm b d k s w ik ex pr wd sn qu tb ts (r0, rq) h0 h1 h2 h3 fi R) rfl ?_
  refine hX_go 1 (1) [some (.int x0)] [.int x0] (hCm b d k s w ik ex pr wd sn qu tb ts (r0, rq) h0 h1 h2 h3 fi R) rfl ?_
  refine hX_sw (bif hEq x0 1 then 40 else bif hEq x0 2 then 43 else bif hEq x0 3 then 46 else bif hEq x0 4 then 49 else bif hEq x0 5 then 52 else bif hEq x0 6 then 55 else 58) rfl (sw_37_1 x0) ?_
  refine hX_ifF (hEq x0 1) f0 ?_
  refine hX_ifF (hEq x0 2) f1 ?_
  refine hX_ifF (hEq x0 3) f2 ?_
  refine hX_ifF (hEq x0 4) f3 ?_
  refine hX_ifF (hEq x0 5) f4 ?_
  refine hX_ifF (hEq x0 6) f5 ?_
  refine hX_goM 1 (60) [some (.int x0)] [.ref 1016] rfl ?_
  exact hX_end rfl rfl rfl


/-- java/lang/String.coder()B -/
def me_2_1010 (N : Nat) : Option (Int32) :=
  some (0)
set_option maxRecDepth 20000 in
set_option maxHeartbeats 4000000 in
theorem mt_2_1010 {LL : Nat} {xs : Nat → Int32} {D : Nat} {b d k s w : hB} {ik ex pr wd : Int32} {sn : Nat → Int64} {qu tb : Nat → Int32} {ts : Int32} {r0 : Value} {rq : hRq} {h0 h1 h2 h3 : hSt} {fi : Nat → Int32} {R : List gE} (N : Nat) (q : Int32) (h : me_2_1010 N = some q) : hM (gO LL xs) (D + 0) zR_2 [.ref 1010] (hCm b d k s w ik ex pr wd sn qu tb ts (r0, rq) h0 h1 h2 h3 fi R) (some (.int q)) (hCm b d k s w ik ex pr wd sn qu tb ts (r0, rq) h0 h1 h2 h3 fi R) := by
  unfold me_2_1010 at h
  refine hX_go 0 0 [some (.ref 1010)] [] (hCm b d k s w ik ex pr wd sn qu tb ts (r0, rq) h0 h1 h2 h3 fi R) rfl ?_
  refine hX_go 5 (14) [some (.ref 1010)] [.int 0] (hCm b d k s w ik ex pr wd sn qu tb ts (r0, rq) h0 h1 h2 h3 fi R) rfl ?_
  have h := Option.some.inj h; subst h
  exact hX_end rfl rfl rfl


/-- java/lang/String.length()I -/
def me_0_1010 (N : Nat) : Option (Int32) :=
  (Option.bind (me_2_1010 N) fun q1 =>
  some ((4 : Int32) >>> (q1 &&& 31)))
set_option maxRecDepth 20000 in
set_option maxHeartbeats 4000000 in
theorem mt_0_1010 {LL : Nat} {xs : Nat → Int32} {D : Nat} {b d k s w : hB} {ik ex pr wd : Int32} {sn : Nat → Int64} {qu tb : Nat → Int32} {ts : Int32} {r0 : Value} {rq : hRq} {h0 h1 h2 h3 : hSt} {fi : Nat → Int32} {R : List gE} (N : Nat) (q : Int32) (h : me_0_1010 N = some q) : hM (gO LL xs) (D + 1) zR_0 [.ref 1010] (hCm b d k s w ik ex pr wd sn qu tb ts (r0, rq) h0 h1 h2 h3 fi R) (some (.int q)) (hCm b d k s w ik ex pr wd sn qu tb ts (r0, rq) h0 h1 h2 h3 fi R) := by
  unfold me_0_1010 at h
  refine hX_go 0 0 [some (.ref 1010)] [] (hCm b d k s w ik ex pr wd sn qu tb ts (r0, rq) h0 h1 h2 h3 fi R) rfl ?_
  refine hX_go 4 (6) [some (.ref 1010)] [.ref 1010, .int 4] (hCm b d k s w ik ex pr wd sn qu tb ts (r0, rq) h0 h1 h2 h3 fi R) rfl ?_
  revert h; refine gBindR fun q1 e1 h => ?_
  refine hX_call (r' := zR_2) rfl (mt_2_1010 N q1 e1) ?_
  refine hX_goM 1 (10) [some (.ref 1010)] [.int ((4 : Int32) >>> (q1 &&& 31))] rfl ?_
  have h := Option.some.inj h; subst h
  exact hX_end rfl rfl rfl


/-- java/lang/String.isLatin1()Z -/
def me_3_1010 (N : Nat) : Option (Int32) :=
  some (1)
set_option maxRecDepth 20000 in
set_option maxHeartbeats 4000000 in
theorem mt_3_1010 {LL : Nat} {xs : Nat → Int32} {D : Nat} {b d k s w : hB} {ik ex pr wd : Int32} {sn : Nat → Int64} {qu tb : Nat → Int32} {ts : Int32} {r0 : Value} {rq : hRq} {h0 h1 h2 h3 : hSt} {fi : Nat → Int32} {R : List gE} (N : Nat) (q : Int32) (h : me_3_1010 N = some q) : hM (gO LL xs) (D + 0) zR_3 [.ref 1010] (hCm b d k s w ik ex pr wd sn qu tb ts (r0, rq) h0 h1 h2 h3 fi R) (some (.int q)) (hCm b d k s w ik ex pr wd sn qu tb ts (r0, rq) h0 h1 h2 h3 fi R) := by
  unfold me_3_1010 at h
  refine hX_go 0 0 [some (.ref 1010)] [] (hCm b d k s w ik ex pr wd sn qu tb ts (r0, rq) h0 h1 h2 h3 fi R) rfl ?_
  refine hX_go 7 (18) [some (.ref 1010)] [.int 1] (hCm b d k s w ik ex pr wd sn qu tb ts (r0, rq) h0 h1 h2 h3 fi R) rfl ?_
  have h := Option.some.inj h; subst h
  exact hX_end rfl rfl rfl


/-- jdk/internal/util/Preconditions.checkIndex(IILjava/util/function/BiFunction;)I -/
def me_8_1900 (N : Nat) (x0 : Int32) (x1 : Int32) : Option (Int32) :=
  (bif !(gCmp .lt x0 0) then (bif gCmp .lt x0 x1 then some (x0) else none) else none)
set_option maxRecDepth 20000 in
set_option maxHeartbeats 4000000 in
theorem mt_8_1900 {LL : Nat} {xs : Nat → Int32} {D : Nat} {b d k s w : hB} {ik ex pr wd : Int32} {sn : Nat → Int64} {qu tb : Nat → Int32} {ts : Int32} {r0 : Value} {rq : hRq} {h0 h1 h2 h3 : hSt} {fi : Nat → Int32} {R : List gE} (N : Nat) (x0 : Int32) (x1 : Int32) (q : Int32) (h : me_8_1900 N x0 x1 = some q) : hM (gO LL xs) (D + 0) zR_8 [.int x0, .int x1, .ref 1900] (hCm b d k s w ik ex pr wd sn qu tb ts (r0, rq) h0 h1 h2 h3 fi R) (some (.int q)) (hCm b d k s w ik ex pr wd sn qu tb ts (r0, rq) h0 h1 h2 h3 fi R) := by
  unfold me_8_1900 at h
  refine hX_go 0 0 [some (.int x0), some (.int x1), some (.ref 1900)] [] (hCm b d k s w ik ex pr wd sn qu tb ts (r0, rq) h0 h1 h2 h3 fi R) rfl ?_
  refine hX_go 2 (bif gCmp .lt x0 0 then 9 else 4) [some (.int x0), some (.int x1), some (.ref 1900)] [] (hCm b d k s w ik ex pr wd sn qu tb ts (r0, rq) h0 h1 h2 h3 fi R) rfl ?_
  revert h; refine gCondR fun g1 h => ?_
  refine hX_ifF (gCmp .lt x0 0) (gNot g1) ?_
  refine hX_goM 3 (bif gCmp .lt x0 x1 then 16 else 9) [some (.int x0), some (.int x1), some (.ref 1900)] [] rfl ?_
  revert h; refine gCondR fun g2 h => ?_
  refine hX_ifT (gCmp .lt x0 x1) g2 ?_
  refine hX_goM 1 (17) [some (.int x0), some (.int x1), some (.ref 1900)] [.int x0] rfl ?_
  have h := Option.some.inj h; subst h
  exact hX_end rfl rfl rfl


/-- java/lang/String.checkIndex(II)V -/
def me_4 (N : Nat) (x0 : Int32) (x1 : Int32) : Option (Unit) :=
  (Option.bind (me_8_1900 N x0 x1) fun q1 =>
  some (()))
set_option maxRecDepth 20000 in
set_option maxHeartbeats 4000000 in
theorem mt_4 {LL : Nat} {xs : Nat → Int32} {D : Nat} {b d k s w : hB} {ik ex pr wd : Int32} {sn : Nat → Int64} {qu tb : Nat → Int32} {ts : Int32} {r0 : Value} {rq : hRq} {h0 h1 h2 h3 : hSt} {fi : Nat → Int32} {R : List gE} (N : Nat) (x0 : Int32) (x1 : Int32) (q : Unit) (h : me_4 N x0 x1 = some q) : hM (gO LL xs) (D + 1) zR_4 [.int x0, .int x1] (hCm b d k s w ik ex pr wd sn qu tb ts (r0, rq) h0 h1 h2 h3 fi R) none (hCm b d k s w ik ex pr wd sn qu tb ts (r0, rq) h0 h1 h2 h3 fi R) := by
  unfold me_4 at h
  refine hX_go 0 0 [some (.int x0), some (.int x1)] [] (hCm b d k s w ik ex pr wd sn qu tb ts (r0, rq) h0 h1 h2 h3 fi R) rfl ?_
  refine hX_go 3 (5) [some (.int x0), some (.int x1)] [.ref 1900, .int x1, .int x0] (hCm b d k s w ik ex pr wd sn qu tb ts (r0, rq) h0 h1 h2 h3 fi R) rfl ?_
  revert h; refine gBindR fun q1 e1 h => ?_
  refine hX_call (r' := zR_8) rfl (mt_8_1900 N x0 x1 q1 e1) ?_
  refine hX_goM 1 (9) [some (.int x0), some (.int x1)] [] rfl ?_
  have h := Option.some.inj h; subst h
  exact hX_end rfl rfl rfl


/-- java/lang/StringLatin1.charAt([BI)C -/
def me_5_1030 (N : Nat) (x0 : Int32) : Option (Int32) :=
  (Option.bind (me_4 N x0 4) fun q1 =>
  (bif gIn x0 4 then (bif decide (vp_nar .char (((Int32.toUInt32 (((gYf 0) (Int32.toNatClampNeg x0)) &&& 255)) % 65536).toInt32) = ((Int32.toUInt32 (((gYf 0) (Int32.toNatClampNeg x0)) &&& 255)) % 65536).toInt32) then some (((Int32.toUInt32 (((gYf 0) (Int32.toNatClampNeg x0)) &&& 255)) % 65536).toInt32) else none) else none))
set_option maxRecDepth 20000 in
set_option maxHeartbeats 4000000 in
theorem mt_5_1030 {LL : Nat} {xs : Nat → Int32} {D : Nat} {b d k s w : hB} {ik ex pr wd : Int32} {sn : Nat → Int64} {qu tb : Nat → Int32} {ts : Int32} {r0 : Value} {rq : hRq} {h0 h1 h2 h3 : hSt} {fi : Nat → Int32} {R : List gE} (N : Nat) (x0 : Int32) (q : Int32) (h : me_5_1030 N x0 = some q) : hM (gO LL xs) (D + 2) zR_5 [.ref 1030, .int x0] (hCm b d k s w ik ex pr wd sn qu tb ts (r0, rq) h0 h1 h2 h3 fi R) (some (.int q)) (hCm b d k s w ik ex pr wd sn qu tb ts (r0, rq) h0 h1 h2 h3 fi R) := by
  unfold me_5_1030 at h
  refine hX_go 0 0 [some (.ref 1030), some (.int x0)] [] (hCm b d k s w ik ex pr wd sn qu tb ts (r0, rq) h0 h1 h2 h3 fi R) rfl ?_
  refine hX_go 3 (3) [some (.ref 1030), some (.int x0)] [.int 4, .int x0] (hCm b d k s w ik ex pr wd sn qu tb ts (r0, rq) h0 h1 h2 h3 fi R) rfl ?_
  revert h; refine gBindR fun q1 e1 h => ?_
  refine hX_call (r' := zR_4) rfl (mt_4 N x0 4 q1 e1) ?_
  refine hX_goM 2 (8) [some (.ref 1030), some (.int x0)] [.int x0, .ref 1030] rfl ?_
  revert h; refine gCondR fun g2 h => ?_
  refine hX_gM (gIn x0 4) 9 [some (.ref 1030), some (.int x0)] [.int ((gYf 0) (Int32.toNatClampNeg x0))] rfl g2 ?_
  refine hX_goM 3 (14) [some (.ref 1030), some (.int x0)] [.int (((Int32.toUInt32 (((gYf 0) (Int32.toNatClampNeg x0)) &&& 255)) % 65536).toInt32)] rfl ?_
  revert h; refine gCondR fun g3 h => ?_
  have h := Option.some.inj h; subst h
  exact hX_endG (decide (vp_nar .char (((Int32.toUInt32 (((gYf 0) (Int32.toNatClampNeg x0)) &&& 255)) % 65536).toInt32) = ((Int32.toUInt32 (((gYf 0) (Int32.toNatClampNeg x0)) &&& 255)) % 65536).toInt32)) rfl g3 rfl rfl


/-- java/lang/String.charAt(I)C -/
def me_1_1010 (N : Nat) (x0 : Int32) : Option (Int32) :=
  (Option.bind (me_3_1010 N) fun q1 =>
  (bif !(gCmp .eq q1 0) then (Option.bind (me_5_1030 N x0) fun q3 =>
  (bif decide (vp_nar .char q3 = q3) then some (q3) else none)) else none))
set_option maxRecDepth 20000 in
set_option maxHeartbeats 4000000 in
theorem mt_1_1010 {LL : Nat} {xs : Nat → Int32} {D : Nat} {b d k s w : hB} {ik ex pr wd : Int32} {sn : Nat → Int64} {qu tb : Nat → Int32} {ts : Int32} {r0 : Value} {rq : hRq} {h0 h1 h2 h3 : hSt} {fi : Nat → Int32} {R : List gE} (N : Nat) (x0 : Int32) (q : Int32) (h : me_1_1010 N x0 = some q) : hM (gO LL xs) (D + 3) zR_1 [.ref 1010, .int x0] (hCm b d k s w ik ex pr wd sn qu tb ts (r0, rq) h0 h1 h2 h3 fi R) (some (.int q)) (hCm b d k s w ik ex pr wd sn qu tb ts (r0, rq) h0 h1 h2 h3 fi R) := by
  unfold me_1_1010 at h
  refine hX_go 0 0 [some (.ref 1010), some (.int x0)] [] (hCm b d k s w ik ex pr wd sn qu tb ts (r0, rq) h0 h1 h2 h3 fi R) rfl ?_
  refine hX_go 1 (1) [some (.ref 1010), some (.int x0)] [.ref 1010] (hCm b d k s w ik ex pr wd sn qu tb ts (r0, rq) h0 h1 h2 h3 fi R) rfl ?_
  revert h; refine gBindR fun q1 e1 h => ?_
  refine hX_call (r' := zR_3) rfl (mt_3_1010 N q1 e1) ?_
  refine hX_goM 1 (bif gCmp .eq q1 0 then 16 else 7) [some (.ref 1010), some (.int x0)] [] rfl ?_
  revert h; refine gCondR fun g2 h => ?_
  refine hX_ifF (gCmp .eq q1 0) (gNot g2) ?_
  refine hX_goM 3 (12) [some (.ref 1010), some (.int x0)] [.int x0, .ref 1030] rfl ?_
  revert h; refine gBindR fun q3 e3 h => ?_
  refine hX_call (r' := zR_5) rfl (mt_5_1030 N x0 q3 e3) ?_
  refine hX_goM 0 (15) [some (.ref 1010), some (.int x0)] [.int q3] rfl ?_
  revert h; refine gCondR fun g4 h => ?_
  have h := Option.some.inj h; subst h
  exact hX_endG (decide (vp_nar .char q3 = q3)) rfl g4 rfl rfl

/-- UpOneSide$Reader.isWord: the loop at 28 -/
def lp_38_51_1010_28 (N : Nat) (tb : Nat → Int32) (rq : hRq) : Nat → Int32 → Option (Int32)
  | 0, _ => none
  | n + 1, y2 =>
    (Option.bind (me_0_1010 N) fun q1 =>
    (bif gCmp .ge y2 q1 then
      some (1)
    else
      (bif gCmp .ge (rq.2.2.1 + y2) rq.1 then
        some (1)
      else
        (bif gIn (rq.2.2.1 + y2) 120 then (Option.bind (me_1_1010 N y2) fun q5 =>
        (bif gCmp .eq (tb (Int32.toNatClampNeg (rq.2.2.1 + y2))) q5 then
          lp_38_51_1010_28 N tb rq n (y2 + 1)
        else
          some (0))) else none))))
set_option maxRecDepth 20000 in
set_option maxHeartbeats 4000000 in
theorem lt_38_51_1010_28 {LL : Nat} {xs : Nat → Int32} {D N : Nat} {b d k s w : hB} {ik ex pr wd : Int32} {sn : Nat → Int64} {qu tb : Nat → Int32} {ts : Int32} {rq : hRq} {h0 h1 h2 h3 : hSt} {fi : Nat → Int32} {R : List gE} : ∀ (n : Nat) (y2 : Int32) (q : Int32), lp_38_51_1010_28 N tb rq n y2 = some q → hX (gO LL xs) (D + 4) zR_38 28 [some (.ref 51), some (.ref 1010), some (.int y2)] [] (hCm b d k s w ik ex pr wd sn qu tb ts (.ref 50, rq) h0 h1 h2 h3 fi R) (some (.int q)) (hCm b d k s w ik ex pr wd sn qu tb ts (.ref 50, rq) h0 h1 h2 h3 fi R) := by
  intro n
  induction n with
  | zero => intro y2 q h; cases h
  | succ n ih =>
    intro y2 q h
    rw [lp_38_51_1010_28] at h
    refine hX_go 2 (30) [some (.ref 51), some (.ref 1010), some (.int y2)] [.ref 1010, .int y2] (hCm b d k s w ik ex pr wd sn qu tb ts (.ref 50, rq) h0 h1 h2 h3 fi R) rfl ?_
    revert h; refine gBindR fun q1 e1 h => ?_
    refine hX_call (r' := zR_0) rfl (mt_0_1010 N q1 e1) ?_
    refine hX_goM 1 (bif gCmp .ge y2 q1 then 76 else 36) [some (.ref 51), some (.ref 1010), some (.int y2)] [] rfl ?_
    refine hX_if (gCmp .ge y2 q1) (fun c2 => ?_) (fun c2 => ?_)
    · skip
      have h := gcT c2 h
      refine hX_goM 1 (77) [some (.ref 51), some (.ref 1010), some (.int y2)] [.int 1] rfl ?_
      have h := Option.some.inj h; subst h
      exact hX_end rfl rfl rfl
    · skip
      have h := gcF c2 h
      refine hX_goM 7 (bif gCmp .ge (rq.2.2.1 + y2) rq.1 then 76 else 49) [some (.ref 51), some (.ref 1010), some (.int y2)] [] rfl ?_
      refine hX_if (gCmp .ge (rq.2.2.1 + y2) rq.1) (fun c3 => ?_) (fun c3 => ?_)
      · skip
        have h := gcT c3 h
        refine hX_goM 1 (77) [some (.ref 51), some (.ref 1010), some (.int y2)] [.int 1] rfl ?_
        have h := Option.some.inj h; subst h
        exact hX_end rfl rfl rfl
      · skip
        have h := gcF c3 h
        refine hX_goM 6 (59) [some (.ref 51), some (.ref 1010), some (.int y2)] [.int (rq.2.2.1 + y2), .ref 50] rfl ?_
        revert h; refine gCondR fun g4 h => ?_
        refine hX_gM (gIn (rq.2.2.1 + y2) 120) 60 [some (.ref 51), some (.ref 1010), some (.int y2)] [.int (tb (Int32.toNatClampNeg (rq.2.2.1 + y2)))] rfl g4 ?_
        refine hX_goM 2 (62) [some (.ref 51), some (.ref 1010), some (.int y2)] [.int y2, .ref 1010, .int (tb (Int32.toNatClampNeg (rq.2.2.1 + y2)))] rfl ?_
        revert h; refine gBindR fun q5 e5 h => ?_
        refine hX_call (r' := zR_1) rfl (mt_1_1010 N y2 q5 e5) ?_
        refine hX_goM 1 (bif gCmp .eq (tb (Int32.toNatClampNeg (rq.2.2.1 + y2))) q5 then 70 else 68) [some (.ref 51), some (.ref 1010), some (.int y2)] [] rfl ?_
        refine hX_if (gCmp .eq (tb (Int32.toNatClampNeg (rq.2.2.1 + y2))) q5) (fun c6 => ?_) (fun c6 => ?_)
        · skip
          have h := gcT c6 h
          refine hX_goM 2 (28) [some (.ref 51), some (.ref 1010), some (.int (y2 + 1))] [] rfl ?_
          exact ih (y2 + 1) q h
        · skip
          have h := gcF c6 h
          refine hX_goM 1 (69) [some (.ref 51), some (.ref 1010), some (.int y2)] [.int 0] rfl ?_
          have h := Option.some.inj h; subst h
          exact hX_end rfl rfl rfl

/-- UpOneSide$Reader.isWord(Ljava/lang/String;)Z -/
def me_38_51_1010 (N : Nat) (tb : Nat → Int32) (rq : hRq) : Option (Int32) :=
  (bif gCmp .ne rq.2.1 1 then
    some (0)
  else
    (Option.bind (me_0_1010 N) fun q2 =>
    (bif gCmp .eq (rq.2.2.2.1 - rq.2.2.1) q2 then
      lp_38_51_1010_28 N tb rq N 0
    else
      some (0))))
set_option maxRecDepth 20000 in
set_option maxHeartbeats 4000000 in
theorem mt_38_51_1010 {LL : Nat} {xs : Nat → Int32} {D : Nat} {b d k s w : hB} {ik ex pr wd : Int32} {sn : Nat → Int64} {qu tb : Nat → Int32} {ts : Int32} {rq : hRq} {h0 h1 h2 h3 : hSt} {fi : Nat → Int32} {R : List gE} (N : Nat) (q : Int32) (h : me_38_51_1010 N tb rq = some q) : hM (gO LL xs) (D + 4) zR_38 [.ref 51, .ref 1010] (hCm b d k s w ik ex pr wd sn qu tb ts (.ref 50, rq) h0 h1 h2 h3 fi R) (some (.int q)) (hCm b d k s w ik ex pr wd sn qu tb ts (.ref 50, rq) h0 h1 h2 h3 fi R) := by
  unfold me_38_51_1010 at h
  refine hX_go 0 0 [some (.ref 51), some (.ref 1010), none] [] (hCm b d k s w ik ex pr wd sn qu tb ts (.ref 50, rq) h0 h1 h2 h3 fi R) rfl ?_
  refine hX_go 4 (bif gCmp .ne rq.2.1 1 then 24 else 8) [some (.ref 51), some (.ref 1010), none] [] (hCm b d k s w ik ex pr wd sn qu tb ts (.ref 50, rq) h0 h1 h2 h3 fi R) rfl ?_
  refine hX_if (gCmp .ne rq.2.1 1) (fun c1 => ?_) (fun c1 => ?_)
  · skip
    have h := gcT c1 h
    refine hX_goM 1 (25) [some (.ref 51), some (.ref 1010), none] [.int 0] rfl ?_
    have h := Option.some.inj h; subst h
    exact hX_end rfl rfl rfl
  · skip
    have h := gcF c1 h
    refine hX_goM 6 (18) [some (.ref 51), some (.ref 1010), none] [.ref 1010, .int (rq.2.2.2.1 - rq.2.2.1)] rfl ?_
    revert h; refine gBindR fun q2 e2 h => ?_
    refine hX_call (r' := zR_0) rfl (mt_0_1010 N q2 e2) ?_
    refine hX_goM 1 (bif gCmp .eq (rq.2.2.2.1 - rq.2.2.1) q2 then 26 else 24) [some (.ref 51), some (.ref 1010), none] [] rfl ?_
    refine hX_if (gCmp .eq (rq.2.2.2.1 - rq.2.2.1) q2) (fun c3 => ?_) (fun c3 => ?_)
    · skip
      have h := gcT c3 h
      refine hX_goM 2 (28) [some (.ref 51), some (.ref 1010), some (.int 0)] [] rfl ?_
      exact lt_38_51_1010_28 N 0 q h
    · skip
      have h := gcF c3 h
      refine hX_goM 1 (25) [some (.ref 51), some (.ref 1010), none] [.int 0] rfl ?_
      have h := Option.some.inj h; subst h
      exact hX_end rfl rfl rfl


/-- java/lang/String.coder()B -/
def me_2_1011 (N : Nat) : Option (Int32) :=
  some (0)
set_option maxRecDepth 20000 in
set_option maxHeartbeats 4000000 in
theorem mt_2_1011 {LL : Nat} {xs : Nat → Int32} {D : Nat} {b d k s w : hB} {ik ex pr wd : Int32} {sn : Nat → Int64} {qu tb : Nat → Int32} {ts : Int32} {r0 : Value} {rq : hRq} {h0 h1 h2 h3 : hSt} {fi : Nat → Int32} {R : List gE} (N : Nat) (q : Int32) (h : me_2_1011 N = some q) : hM (gO LL xs) (D + 0) zR_2 [.ref 1011] (hCm b d k s w ik ex pr wd sn qu tb ts (r0, rq) h0 h1 h2 h3 fi R) (some (.int q)) (hCm b d k s w ik ex pr wd sn qu tb ts (r0, rq) h0 h1 h2 h3 fi R) := by
  unfold me_2_1011 at h
  refine hX_go 0 0 [some (.ref 1011)] [] (hCm b d k s w ik ex pr wd sn qu tb ts (r0, rq) h0 h1 h2 h3 fi R) rfl ?_
  refine hX_go 5 (14) [some (.ref 1011)] [.int 0] (hCm b d k s w ik ex pr wd sn qu tb ts (r0, rq) h0 h1 h2 h3 fi R) rfl ?_
  have h := Option.some.inj h; subst h
  exact hX_end rfl rfl rfl


/-- java/lang/String.length()I -/
def me_0_1011 (N : Nat) : Option (Int32) :=
  (Option.bind (me_2_1011 N) fun q1 =>
  some ((8 : Int32) >>> (q1 &&& 31)))
set_option maxRecDepth 20000 in
set_option maxHeartbeats 4000000 in
theorem mt_0_1011 {LL : Nat} {xs : Nat → Int32} {D : Nat} {b d k s w : hB} {ik ex pr wd : Int32} {sn : Nat → Int64} {qu tb : Nat → Int32} {ts : Int32} {r0 : Value} {rq : hRq} {h0 h1 h2 h3 : hSt} {fi : Nat → Int32} {R : List gE} (N : Nat) (q : Int32) (h : me_0_1011 N = some q) : hM (gO LL xs) (D + 1) zR_0 [.ref 1011] (hCm b d k s w ik ex pr wd sn qu tb ts (r0, rq) h0 h1 h2 h3 fi R) (some (.int q)) (hCm b d k s w ik ex pr wd sn qu tb ts (r0, rq) h0 h1 h2 h3 fi R) := by
  unfold me_0_1011 at h
  refine hX_go 0 0 [some (.ref 1011)] [] (hCm b d k s w ik ex pr wd sn qu tb ts (r0, rq) h0 h1 h2 h3 fi R) rfl ?_
  refine hX_go 4 (6) [some (.ref 1011)] [.ref 1011, .int 8] (hCm b d k s w ik ex pr wd sn qu tb ts (r0, rq) h0 h1 h2 h3 fi R) rfl ?_
  revert h; refine gBindR fun q1 e1 h => ?_
  refine hX_call (r' := zR_2) rfl (mt_2_1011 N q1 e1) ?_
  refine hX_goM 1 (10) [some (.ref 1011)] [.int ((8 : Int32) >>> (q1 &&& 31))] rfl ?_
  have h := Option.some.inj h; subst h
  exact hX_end rfl rfl rfl


/-- java/lang/String.isLatin1()Z -/
def me_3_1011 (N : Nat) : Option (Int32) :=
  some (1)
set_option maxRecDepth 20000 in
set_option maxHeartbeats 4000000 in
theorem mt_3_1011 {LL : Nat} {xs : Nat → Int32} {D : Nat} {b d k s w : hB} {ik ex pr wd : Int32} {sn : Nat → Int64} {qu tb : Nat → Int32} {ts : Int32} {r0 : Value} {rq : hRq} {h0 h1 h2 h3 : hSt} {fi : Nat → Int32} {R : List gE} (N : Nat) (q : Int32) (h : me_3_1011 N = some q) : hM (gO LL xs) (D + 0) zR_3 [.ref 1011] (hCm b d k s w ik ex pr wd sn qu tb ts (r0, rq) h0 h1 h2 h3 fi R) (some (.int q)) (hCm b d k s w ik ex pr wd sn qu tb ts (r0, rq) h0 h1 h2 h3 fi R) := by
  unfold me_3_1011 at h
  refine hX_go 0 0 [some (.ref 1011)] [] (hCm b d k s w ik ex pr wd sn qu tb ts (r0, rq) h0 h1 h2 h3 fi R) rfl ?_
  refine hX_go 7 (18) [some (.ref 1011)] [.int 1] (hCm b d k s w ik ex pr wd sn qu tb ts (r0, rq) h0 h1 h2 h3 fi R) rfl ?_
  have h := Option.some.inj h; subst h
  exact hX_end rfl rfl rfl


/-- java/lang/StringLatin1.charAt([BI)C -/
def me_5_1031 (N : Nat) (x0 : Int32) : Option (Int32) :=
  (Option.bind (me_4 N x0 8) fun q1 =>
  (bif gIn x0 8 then (bif decide (vp_nar .char (((Int32.toUInt32 (((gYf 1) (Int32.toNatClampNeg x0)) &&& 255)) % 65536).toInt32) = ((Int32.toUInt32 (((gYf 1) (Int32.toNatClampNeg x0)) &&& 255)) % 65536).toInt32) then some (((Int32.toUInt32 (((gYf 1) (Int32.toNatClampNeg x0)) &&& 255)) % 65536).toInt32) else none) else none))
set_option maxRecDepth 20000 in
set_option maxHeartbeats 4000000 in
theorem mt_5_1031 {LL : Nat} {xs : Nat → Int32} {D : Nat} {b d k s w : hB} {ik ex pr wd : Int32} {sn : Nat → Int64} {qu tb : Nat → Int32} {ts : Int32} {r0 : Value} {rq : hRq} {h0 h1 h2 h3 : hSt} {fi : Nat → Int32} {R : List gE} (N : Nat) (x0 : Int32) (q : Int32) (h : me_5_1031 N x0 = some q) : hM (gO LL xs) (D + 2) zR_5 [.ref 1031, .int x0] (hCm b d k s w ik ex pr wd sn qu tb ts (r0, rq) h0 h1 h2 h3 fi R) (some (.int q)) (hCm b d k s w ik ex pr wd sn qu tb ts (r0, rq) h0 h1 h2 h3 fi R) := by
  unfold me_5_1031 at h
  refine hX_go 0 0 [some (.ref 1031), some (.int x0)] [] (hCm b d k s w ik ex pr wd sn qu tb ts (r0, rq) h0 h1 h2 h3 fi R) rfl ?_
  refine hX_go 3 (3) [some (.ref 1031), some (.int x0)] [.int 8, .int x0] (hCm b d k s w ik ex pr wd sn qu tb ts (r0, rq) h0 h1 h2 h3 fi R) rfl ?_
  revert h; refine gBindR fun q1 e1 h => ?_
  refine hX_call (r' := zR_4) rfl (mt_4 N x0 8 q1 e1) ?_
  refine hX_goM 2 (8) [some (.ref 1031), some (.int x0)] [.int x0, .ref 1031] rfl ?_
  revert h; refine gCondR fun g2 h => ?_
  refine hX_gM (gIn x0 8) 9 [some (.ref 1031), some (.int x0)] [.int ((gYf 1) (Int32.toNatClampNeg x0))] rfl g2 ?_
  refine hX_goM 3 (14) [some (.ref 1031), some (.int x0)] [.int (((Int32.toUInt32 (((gYf 1) (Int32.toNatClampNeg x0)) &&& 255)) % 65536).toInt32)] rfl ?_
  revert h; refine gCondR fun g3 h => ?_
  have h := Option.some.inj h; subst h
  exact hX_endG (decide (vp_nar .char (((Int32.toUInt32 (((gYf 1) (Int32.toNatClampNeg x0)) &&& 255)) % 65536).toInt32) = ((Int32.toUInt32 (((gYf 1) (Int32.toNatClampNeg x0)) &&& 255)) % 65536).toInt32)) rfl g3 rfl rfl


/-- java/lang/String.charAt(I)C -/
def me_1_1011 (N : Nat) (x0 : Int32) : Option (Int32) :=
  (Option.bind (me_3_1011 N) fun q1 =>
  (bif !(gCmp .eq q1 0) then (Option.bind (me_5_1031 N x0) fun q3 =>
  (bif decide (vp_nar .char q3 = q3) then some (q3) else none)) else none))
set_option maxRecDepth 20000 in
set_option maxHeartbeats 4000000 in
theorem mt_1_1011 {LL : Nat} {xs : Nat → Int32} {D : Nat} {b d k s w : hB} {ik ex pr wd : Int32} {sn : Nat → Int64} {qu tb : Nat → Int32} {ts : Int32} {r0 : Value} {rq : hRq} {h0 h1 h2 h3 : hSt} {fi : Nat → Int32} {R : List gE} (N : Nat) (x0 : Int32) (q : Int32) (h : me_1_1011 N x0 = some q) : hM (gO LL xs) (D + 3) zR_1 [.ref 1011, .int x0] (hCm b d k s w ik ex pr wd sn qu tb ts (r0, rq) h0 h1 h2 h3 fi R) (some (.int q)) (hCm b d k s w ik ex pr wd sn qu tb ts (r0, rq) h0 h1 h2 h3 fi R) := by
  unfold me_1_1011 at h
  refine hX_go 0 0 [some (.ref 1011), some (.int x0)] [] (hCm b d k s w ik ex pr wd sn qu tb ts (r0, rq) h0 h1 h2 h3 fi R) rfl ?_
  refine hX_go 1 (1) [some (.ref 1011), some (.int x0)] [.ref 1011] (hCm b d k s w ik ex pr wd sn qu tb ts (r0, rq) h0 h1 h2 h3 fi R) rfl ?_
  revert h; refine gBindR fun q1 e1 h => ?_
  refine hX_call (r' := zR_3) rfl (mt_3_1011 N q1 e1) ?_
  refine hX_goM 1 (bif gCmp .eq q1 0 then 16 else 7) [some (.ref 1011), some (.int x0)] [] rfl ?_
  revert h; refine gCondR fun g2 h => ?_
  refine hX_ifF (gCmp .eq q1 0) (gNot g2) ?_
  refine hX_goM 3 (12) [some (.ref 1011), some (.int x0)] [.int x0, .ref 1031] rfl ?_
  revert h; refine gBindR fun q3 e3 h => ?_
  refine hX_call (r' := zR_5) rfl (mt_5_1031 N x0 q3 e3) ?_
  refine hX_goM 0 (15) [some (.ref 1011), some (.int x0)] [.int q3] rfl ?_
  revert h; refine gCondR fun g4 h => ?_
  have h := Option.some.inj h; subst h
  exact hX_endG (decide (vp_nar .char q3 = q3)) rfl g4 rfl rfl

/-- UpOneSide$Reader.isWord: the loop at 28 -/
def lp_38_51_1011_28 (N : Nat) (tb : Nat → Int32) (rq : hRq) : Nat → Int32 → Option (Int32)
  | 0, _ => none
  | n + 1, y2 =>
    (Option.bind (me_0_1011 N) fun q1 =>
    (bif gCmp .ge y2 q1 then
      some (1)
    else
      (bif gCmp .ge (rq.2.2.1 + y2) rq.1 then
        some (1)
      else
        (bif gIn (rq.2.2.1 + y2) 120 then (Option.bind (me_1_1011 N y2) fun q5 =>
        (bif gCmp .eq (tb (Int32.toNatClampNeg (rq.2.2.1 + y2))) q5 then
          lp_38_51_1011_28 N tb rq n (y2 + 1)
        else
          some (0))) else none))))
set_option maxRecDepth 20000 in
set_option maxHeartbeats 4000000 in
theorem lt_38_51_1011_28 {LL : Nat} {xs : Nat → Int32} {D N : Nat} {b d k s w : hB} {ik ex pr wd : Int32} {sn : Nat → Int64} {qu tb : Nat → Int32} {ts : Int32} {rq : hRq} {h0 h1 h2 h3 : hSt} {fi : Nat → Int32} {R : List gE} : ∀ (n : Nat) (y2 : Int32) (q : Int32), lp_38_51_1011_28 N tb rq n y2 = some q → hX (gO LL xs) (D + 4) zR_38 28 [some (.ref 51), some (.ref 1011), some (.int y2)] [] (hCm b d k s w ik ex pr wd sn qu tb ts (.ref 50, rq) h0 h1 h2 h3 fi R) (some (.int q)) (hCm b d k s w ik ex pr wd sn qu tb ts (.ref 50, rq) h0 h1 h2 h3 fi R) := by
  intro n
  induction n with
  | zero => intro y2 q h; cases h
  | succ n ih =>
    intro y2 q h
    rw [lp_38_51_1011_28] at h
    refine hX_go 2 (30) [some (.ref 51), some (.ref 1011), some (.int y2)] [.ref 1011, .int y2] (hCm b d k s w ik ex pr wd sn qu tb ts (.ref 50, rq) h0 h1 h2 h3 fi R) rfl ?_
    revert h; refine gBindR fun q1 e1 h => ?_
    refine hX_call (r' := zR_0) rfl (mt_0_1011 N q1 e1) ?_
    refine hX_goM 1 (bif gCmp .ge y2 q1 then 76 else 36) [some (.ref 51), some (.ref 1011), some (.int y2)] [] rfl ?_
    refine hX_if (gCmp .ge y2 q1) (fun c2 => ?_) (fun c2 => ?_)
    · skip
      have h := gcT c2 h
      refine hX_goM 1 (77) [some (.ref 51), some (.ref 1011), some (.int y2)] [.int 1] rfl ?_
      have h := Option.some.inj h; subst h
      exact hX_end rfl rfl rfl
    · skip
      have h := gcF c2 h
      refine hX_goM 7 (bif gCmp .ge (rq.2.2.1 + y2) rq.1 then 76 else 49) [some (.ref 51), some (.ref 1011), some (.int y2)] [] rfl ?_
      refine hX_if (gCmp .ge (rq.2.2.1 + y2) rq.1) (fun c3 => ?_) (fun c3 => ?_)
      · skip
        have h := gcT c3 h
        refine hX_goM 1 (77) [some (.ref 51), some (.ref 1011), some (.int y2)] [.int 1] rfl ?_
        have h := Option.some.inj h; subst h
        exact hX_end rfl rfl rfl
      · skip
        have h := gcF c3 h
        refine hX_goM 6 (59) [some (.ref 51), some (.ref 1011), some (.int y2)] [.int (rq.2.2.1 + y2), .ref 50] rfl ?_
        revert h; refine gCondR fun g4 h => ?_
        refine hX_gM (gIn (rq.2.2.1 + y2) 120) 60 [some (.ref 51), some (.ref 1011), some (.int y2)] [.int (tb (Int32.toNatClampNeg (rq.2.2.1 + y2)))] rfl g4 ?_
        refine hX_goM 2 (62) [some (.ref 51), some (.ref 1011), some (.int y2)] [.int y2, .ref 1011, .int (tb (Int32.toNatClampNeg (rq.2.2.1 + y2)))] rfl ?_
        revert h; refine gBindR fun q5 e5 h => ?_
        refine hX_call (r' := zR_1) rfl (mt_1_1011 N y2 q5 e5) ?_
        refine hX_goM 1 (bif gCmp .eq (tb (Int32.toNatClampNeg (rq.2.2.1 + y2))) q5 then 70 else 68) [some (.ref 51), some (.ref 1011), some (.int y2)] [] rfl ?_
        refine hX_if (gCmp .eq (tb (Int32.toNatClampNeg (rq.2.2.1 + y2))) q5) (fun c6 => ?_) (fun c6 => ?_)
        · skip
          have h := gcT c6 h
          refine hX_goM 2 (28) [some (.ref 51), some (.ref 1011), some (.int (y2 + 1))] [] rfl ?_
          exact ih (y2 + 1) q h
        · skip
          have h := gcF c6 h
          refine hX_goM 1 (69) [some (.ref 51), some (.ref 1011), some (.int y2)] [.int 0] rfl ?_
          have h := Option.some.inj h; subst h
          exact hX_end rfl rfl rfl

/-- UpOneSide$Reader.isWord(Ljava/lang/String;)Z -/
def me_38_51_1011 (N : Nat) (tb : Nat → Int32) (rq : hRq) : Option (Int32) :=
  (bif gCmp .ne rq.2.1 1 then
    some (0)
  else
    (Option.bind (me_0_1011 N) fun q2 =>
    (bif gCmp .eq (rq.2.2.2.1 - rq.2.2.1) q2 then
      lp_38_51_1011_28 N tb rq N 0
    else
      some (0))))
set_option maxRecDepth 20000 in
set_option maxHeartbeats 4000000 in
theorem mt_38_51_1011 {LL : Nat} {xs : Nat → Int32} {D : Nat} {b d k s w : hB} {ik ex pr wd : Int32} {sn : Nat → Int64} {qu tb : Nat → Int32} {ts : Int32} {rq : hRq} {h0 h1 h2 h3 : hSt} {fi : Nat → Int32} {R : List gE} (N : Nat) (q : Int32) (h : me_38_51_1011 N tb rq = some q) : hM (gO LL xs) (D + 4) zR_38 [.ref 51, .ref 1011] (hCm b d k s w ik ex pr wd sn qu tb ts (.ref 50, rq) h0 h1 h2 h3 fi R) (some (.int q)) (hCm b d k s w ik ex pr wd sn qu tb ts (.ref 50, rq) h0 h1 h2 h3 fi R) := by
  unfold me_38_51_1011 at h
  refine hX_go 0 0 [some (.ref 51), some (.ref 1011), none] [] (hCm b d k s w ik ex pr wd sn qu tb ts (.ref 50, rq) h0 h1 h2 h3 fi R) rfl ?_
  refine hX_go 4 (bif gCmp .ne rq.2.1 1 then 24 else 8) [some (.ref 51), some (.ref 1011), none] [] (hCm b d k s w ik ex pr wd sn qu tb ts (.ref 50, rq) h0 h1 h2 h3 fi R) rfl ?_
  refine hX_if (gCmp .ne rq.2.1 1) (fun c1 => ?_) (fun c1 => ?_)
  · skip
    have h := gcT c1 h
    refine hX_goM 1 (25) [some (.ref 51), some (.ref 1011), none] [.int 0] rfl ?_
    have h := Option.some.inj h; subst h
    exact hX_end rfl rfl rfl
  · skip
    have h := gcF c1 h
    refine hX_goM 6 (18) [some (.ref 51), some (.ref 1011), none] [.ref 1011, .int (rq.2.2.2.1 - rq.2.2.1)] rfl ?_
    revert h; refine gBindR fun q2 e2 h => ?_
    refine hX_call (r' := zR_0) rfl (mt_0_1011 N q2 e2) ?_
    refine hX_goM 1 (bif gCmp .eq (rq.2.2.2.1 - rq.2.2.1) q2 then 26 else 24) [some (.ref 51), some (.ref 1011), none] [] rfl ?_
    refine hX_if (gCmp .eq (rq.2.2.2.1 - rq.2.2.1) q2) (fun c3 => ?_) (fun c3 => ?_)
    · skip
      have h := gcT c3 h
      refine hX_goM 2 (28) [some (.ref 51), some (.ref 1011), some (.int 0)] [] rfl ?_
      exact lt_38_51_1011_28 N 0 q h
    · skip
      have h := gcF c3 h
      refine hX_goM 1 (25) [some (.ref 51), some (.ref 1011), none] [.int 0] rfl ?_
      have h := Option.some.inj h; subst h
      exact hX_end rfl rfl rfl


/-- java/lang/String.coder()B -/
def me_2_1012 (N : Nat) : Option (Int32) :=
  some (0)
set_option maxRecDepth 20000 in
set_option maxHeartbeats 4000000 in
theorem mt_2_1012 {LL : Nat} {xs : Nat → Int32} {D : Nat} {b d k s w : hB} {ik ex pr wd : Int32} {sn : Nat → Int64} {qu tb : Nat → Int32} {ts : Int32} {r0 : Value} {rq : hRq} {h0 h1 h2 h3 : hSt} {fi : Nat → Int32} {R : List gE} (N : Nat) (q : Int32) (h : me_2_1012 N = some q) : hM (gO LL xs) (D + 0) zR_2 [.ref 1012] (hCm b d k s w ik ex pr wd sn qu tb ts (r0, rq) h0 h1 h2 h3 fi R) (some (.int q)) (hCm b d k s w ik ex pr wd sn qu tb ts (r0, rq) h0 h1 h2 h3 fi R) := by
  unfold me_2_1012 at h
  refine hX_go 0 0 [some (.ref 1012)] [] (hCm b d k s w ik ex pr wd sn qu tb ts (r0, rq) h0 h1 h2 h3 fi R) rfl ?_
  refine hX_go 5 (14) [some (.ref 1012)] [.int 0] (hCm b d k s w ik ex pr wd sn qu tb ts (r0, rq) h0 h1 h2 h3 fi R) rfl ?_
  have h := Option.some.inj h; subst h
  exact hX_end rfl rfl rfl


/-- java/lang/String.length()I -/
def me_0_1012 (N : Nat) : Option (Int32) :=
  (Option.bind (me_2_1012 N) fun q1 =>
  some ((8 : Int32) >>> (q1 &&& 31)))
set_option maxRecDepth 20000 in
set_option maxHeartbeats 4000000 in
theorem mt_0_1012 {LL : Nat} {xs : Nat → Int32} {D : Nat} {b d k s w : hB} {ik ex pr wd : Int32} {sn : Nat → Int64} {qu tb : Nat → Int32} {ts : Int32} {r0 : Value} {rq : hRq} {h0 h1 h2 h3 : hSt} {fi : Nat → Int32} {R : List gE} (N : Nat) (q : Int32) (h : me_0_1012 N = some q) : hM (gO LL xs) (D + 1) zR_0 [.ref 1012] (hCm b d k s w ik ex pr wd sn qu tb ts (r0, rq) h0 h1 h2 h3 fi R) (some (.int q)) (hCm b d k s w ik ex pr wd sn qu tb ts (r0, rq) h0 h1 h2 h3 fi R) := by
  unfold me_0_1012 at h
  refine hX_go 0 0 [some (.ref 1012)] [] (hCm b d k s w ik ex pr wd sn qu tb ts (r0, rq) h0 h1 h2 h3 fi R) rfl ?_
  refine hX_go 4 (6) [some (.ref 1012)] [.ref 1012, .int 8] (hCm b d k s w ik ex pr wd sn qu tb ts (r0, rq) h0 h1 h2 h3 fi R) rfl ?_
  revert h; refine gBindR fun q1 e1 h => ?_
  refine hX_call (r' := zR_2) rfl (mt_2_1012 N q1 e1) ?_
  refine hX_goM 1 (10) [some (.ref 1012)] [.int ((8 : Int32) >>> (q1 &&& 31))] rfl ?_
  have h := Option.some.inj h; subst h
  exact hX_end rfl rfl rfl


/-- java/lang/String.isLatin1()Z -/
def me_3_1012 (N : Nat) : Option (Int32) :=
  some (1)
set_option maxRecDepth 20000 in
set_option maxHeartbeats 4000000 in
theorem mt_3_1012 {LL : Nat} {xs : Nat → Int32} {D : Nat} {b d k s w : hB} {ik ex pr wd : Int32} {sn : Nat → Int64} {qu tb : Nat → Int32} {ts : Int32} {r0 : Value} {rq : hRq} {h0 h1 h2 h3 : hSt} {fi : Nat → Int32} {R : List gE} (N : Nat) (q : Int32) (h : me_3_1012 N = some q) : hM (gO LL xs) (D + 0) zR_3 [.ref 1012] (hCm b d k s w ik ex pr wd sn qu tb ts (r0, rq) h0 h1 h2 h3 fi R) (some (.int q)) (hCm b d k s w ik ex pr wd sn qu tb ts (r0, rq) h0 h1 h2 h3 fi R) := by
  unfold me_3_1012 at h
  refine hX_go 0 0 [some (.ref 1012)] [] (hCm b d k s w ik ex pr wd sn qu tb ts (r0, rq) h0 h1 h2 h3 fi R) rfl ?_
  refine hX_go 7 (18) [some (.ref 1012)] [.int 1] (hCm b d k s w ik ex pr wd sn qu tb ts (r0, rq) h0 h1 h2 h3 fi R) rfl ?_
  have h := Option.some.inj h; subst h
  exact hX_end rfl rfl rfl


/-- java/lang/StringLatin1.charAt([BI)C -/
def me_5_1032 (N : Nat) (x0 : Int32) : Option (Int32) :=
  (Option.bind (me_4 N x0 8) fun q1 =>
  (bif gIn x0 8 then (bif decide (vp_nar .char (((Int32.toUInt32 (((gYf 2) (Int32.toNatClampNeg x0)) &&& 255)) % 65536).toInt32) = ((Int32.toUInt32 (((gYf 2) (Int32.toNatClampNeg x0)) &&& 255)) % 65536).toInt32) then some (((Int32.toUInt32 (((gYf 2) (Int32.toNatClampNeg x0)) &&& 255)) % 65536).toInt32) else none) else none))
set_option maxRecDepth 20000 in
set_option maxHeartbeats 4000000 in
theorem mt_5_1032 {LL : Nat} {xs : Nat → Int32} {D : Nat} {b d k s w : hB} {ik ex pr wd : Int32} {sn : Nat → Int64} {qu tb : Nat → Int32} {ts : Int32} {r0 : Value} {rq : hRq} {h0 h1 h2 h3 : hSt} {fi : Nat → Int32} {R : List gE} (N : Nat) (x0 : Int32) (q : Int32) (h : me_5_1032 N x0 = some q) : hM (gO LL xs) (D + 2) zR_5 [.ref 1032, .int x0] (hCm b d k s w ik ex pr wd sn qu tb ts (r0, rq) h0 h1 h2 h3 fi R) (some (.int q)) (hCm b d k s w ik ex pr wd sn qu tb ts (r0, rq) h0 h1 h2 h3 fi R) := by
  unfold me_5_1032 at h
  refine hX_go 0 0 [some (.ref 1032), some (.int x0)] [] (hCm b d k s w ik ex pr wd sn qu tb ts (r0, rq) h0 h1 h2 h3 fi R) rfl ?_
  refine hX_go 3 (3) [some (.ref 1032), some (.int x0)] [.int 8, .int x0] (hCm b d k s w ik ex pr wd sn qu tb ts (r0, rq) h0 h1 h2 h3 fi R) rfl ?_
  revert h; refine gBindR fun q1 e1 h => ?_
  refine hX_call (r' := zR_4) rfl (mt_4 N x0 8 q1 e1) ?_
  refine hX_goM 2 (8) [some (.ref 1032), some (.int x0)] [.int x0, .ref 1032] rfl ?_
  revert h; refine gCondR fun g2 h => ?_
  refine hX_gM (gIn x0 8) 9 [some (.ref 1032), some (.int x0)] [.int ((gYf 2) (Int32.toNatClampNeg x0))] rfl g2 ?_
  refine hX_goM 3 (14) [some (.ref 1032), some (.int x0)] [.int (((Int32.toUInt32 (((gYf 2) (Int32.toNatClampNeg x0)) &&& 255)) % 65536).toInt32)] rfl ?_
  revert h; refine gCondR fun g3 h => ?_
  have h := Option.some.inj h; subst h
  exact hX_endG (decide (vp_nar .char (((Int32.toUInt32 (((gYf 2) (Int32.toNatClampNeg x0)) &&& 255)) % 65536).toInt32) = ((Int32.toUInt32 (((gYf 2) (Int32.toNatClampNeg x0)) &&& 255)) % 65536).toInt32)) rfl g3 rfl rfl


/-- java/lang/String.charAt(I)C -/
def me_1_1012 (N : Nat) (x0 : Int32) : Option (Int32) :=
  (Option.bind (me_3_1012 N) fun q1 =>
  (bif !(gCmp .eq q1 0) then (Option.bind (me_5_1032 N x0) fun q3 =>
  (bif decide (vp_nar .char q3 = q3) then some (q3) else none)) else none))
set_option maxRecDepth 20000 in
set_option maxHeartbeats 4000000 in
theorem mt_1_1012 {LL : Nat} {xs : Nat → Int32} {D : Nat} {b d k s w : hB} {ik ex pr wd : Int32} {sn : Nat → Int64} {qu tb : Nat → Int32} {ts : Int32} {r0 : Value} {rq : hRq} {h0 h1 h2 h3 : hSt} {fi : Nat → Int32} {R : List gE} (N : Nat) (x0 : Int32) (q : Int32) (h : me_1_1012 N x0 = some q) : hM (gO LL xs) (D + 3) zR_1 [.ref 1012, .int x0] (hCm b d k s w ik ex pr wd sn qu tb ts (r0, rq) h0 h1 h2 h3 fi R) (some (.int q)) (hCm b d k s w ik ex pr wd sn qu tb ts (r0, rq) h0 h1 h2 h3 fi R) := by
  unfold me_1_1012 at h
  refine hX_go 0 0 [some (.ref 1012), some (.int x0)] [] (hCm b d k s w ik ex pr wd sn qu tb ts (r0, rq) h0 h1 h2 h3 fi R) rfl ?_
  refine hX_go 1 (1) [some (.ref 1012), some (.int x0)] [.ref 1012] (hCm b d k s w ik ex pr wd sn qu tb ts (r0, rq) h0 h1 h2 h3 fi R) rfl ?_
  revert h; refine gBindR fun q1 e1 h => ?_
  refine hX_call (r' := zR_3) rfl (mt_3_1012 N q1 e1) ?_
  refine hX_goM 1 (bif gCmp .eq q1 0 then 16 else 7) [some (.ref 1012), some (.int x0)] [] rfl ?_
  revert h; refine gCondR fun g2 h => ?_
  refine hX_ifF (gCmp .eq q1 0) (gNot g2) ?_
  refine hX_goM 3 (12) [some (.ref 1012), some (.int x0)] [.int x0, .ref 1032] rfl ?_
  revert h; refine gBindR fun q3 e3 h => ?_
  refine hX_call (r' := zR_5) rfl (mt_5_1032 N x0 q3 e3) ?_
  refine hX_goM 0 (15) [some (.ref 1012), some (.int x0)] [.int q3] rfl ?_
  revert h; refine gCondR fun g4 h => ?_
  have h := Option.some.inj h; subst h
  exact hX_endG (decide (vp_nar .char q3 = q3)) rfl g4 rfl rfl

/-- UpOneSide$Reader.isWord: the loop at 28 -/
def lp_38_51_1012_28 (N : Nat) (tb : Nat → Int32) (rq : hRq) : Nat → Int32 → Option (Int32)
  | 0, _ => none
  | n + 1, y2 =>
    (Option.bind (me_0_1012 N) fun q1 =>
    (bif gCmp .ge y2 q1 then
      some (1)
    else
      (bif gCmp .ge (rq.2.2.1 + y2) rq.1 then
        some (1)
      else
        (bif gIn (rq.2.2.1 + y2) 120 then (Option.bind (me_1_1012 N y2) fun q5 =>
        (bif gCmp .eq (tb (Int32.toNatClampNeg (rq.2.2.1 + y2))) q5 then
          lp_38_51_1012_28 N tb rq n (y2 + 1)
        else
          some (0))) else none))))
set_option maxRecDepth 20000 in
set_option maxHeartbeats 4000000 in
theorem lt_38_51_1012_28 {LL : Nat} {xs : Nat → Int32} {D N : Nat} {b d k s w : hB} {ik ex pr wd : Int32} {sn : Nat → Int64} {qu tb : Nat → Int32} {ts : Int32} {rq : hRq} {h0 h1 h2 h3 : hSt} {fi : Nat → Int32} {R : List gE} : ∀ (n : Nat) (y2 : Int32) (q : Int32), lp_38_51_1012_28 N tb rq n y2 = some q → hX (gO LL xs) (D + 4) zR_38 28 [some (.ref 51), some (.ref 1012), some (.int y2)] [] (hCm b d k s w ik ex pr wd sn qu tb ts (.ref 50, rq) h0 h1 h2 h3 fi R) (some (.int q)) (hCm b d k s w ik ex pr wd sn qu tb ts (.ref 50, rq) h0 h1 h2 h3 fi R) := by
  intro n
  induction n with
  | zero => intro y2 q h; cases h
  | succ n ih =>
    intro y2 q h
    rw [lp_38_51_1012_28] at h
    refine hX_go 2 (30) [some (.ref 51), some (.ref 1012), some (.int y2)] [.ref 1012, .int y2] (hCm b d k s w ik ex pr wd sn qu tb ts (.ref 50, rq) h0 h1 h2 h3 fi R) rfl ?_
    revert h; refine gBindR fun q1 e1 h => ?_
    refine hX_call (r' := zR_0) rfl (mt_0_1012 N q1 e1) ?_
    refine hX_goM 1 (bif gCmp .ge y2 q1 then 76 else 36) [some (.ref 51), some (.ref 1012), some (.int y2)] [] rfl ?_
    refine hX_if (gCmp .ge y2 q1) (fun c2 => ?_) (fun c2 => ?_)
    · skip
      have h := gcT c2 h
      refine hX_goM 1 (77) [some (.ref 51), some (.ref 1012), some (.int y2)] [.int 1] rfl ?_
      have h := Option.some.inj h; subst h
      exact hX_end rfl rfl rfl
    · skip
      have h := gcF c2 h
      refine hX_goM 7 (bif gCmp .ge (rq.2.2.1 + y2) rq.1 then 76 else 49) [some (.ref 51), some (.ref 1012), some (.int y2)] [] rfl ?_
      refine hX_if (gCmp .ge (rq.2.2.1 + y2) rq.1) (fun c3 => ?_) (fun c3 => ?_)
      · skip
        have h := gcT c3 h
        refine hX_goM 1 (77) [some (.ref 51), some (.ref 1012), some (.int y2)] [.int 1] rfl ?_
        have h := Option.some.inj h; subst h
        exact hX_end rfl rfl rfl
      · skip
        have h := gcF c3 h
        refine hX_goM 6 (59) [some (.ref 51), some (.ref 1012), some (.int y2)] [.int (rq.2.2.1 + y2), .ref 50] rfl ?_
        revert h; refine gCondR fun g4 h => ?_
        refine hX_gM (gIn (rq.2.2.1 + y2) 120) 60 [some (.ref 51), some (.ref 1012), some (.int y2)] [.int (tb (Int32.toNatClampNeg (rq.2.2.1 + y2)))] rfl g4 ?_
        refine hX_goM 2 (62) [some (.ref 51), some (.ref 1012), some (.int y2)] [.int y2, .ref 1012, .int (tb (Int32.toNatClampNeg (rq.2.2.1 + y2)))] rfl ?_
        revert h; refine gBindR fun q5 e5 h => ?_
        refine hX_call (r' := zR_1) rfl (mt_1_1012 N y2 q5 e5) ?_
        refine hX_goM 1 (bif gCmp .eq (tb (Int32.toNatClampNeg (rq.2.2.1 + y2))) q5 then 70 else 68) [some (.ref 51), some (.ref 1012), some (.int y2)] [] rfl ?_
        refine hX_if (gCmp .eq (tb (Int32.toNatClampNeg (rq.2.2.1 + y2))) q5) (fun c6 => ?_) (fun c6 => ?_)
        · skip
          have h := gcT c6 h
          refine hX_goM 2 (28) [some (.ref 51), some (.ref 1012), some (.int (y2 + 1))] [] rfl ?_
          exact ih (y2 + 1) q h
        · skip
          have h := gcF c6 h
          refine hX_goM 1 (69) [some (.ref 51), some (.ref 1012), some (.int y2)] [.int 0] rfl ?_
          have h := Option.some.inj h; subst h
          exact hX_end rfl rfl rfl

/-- UpOneSide$Reader.isWord(Ljava/lang/String;)Z -/
def me_38_51_1012 (N : Nat) (tb : Nat → Int32) (rq : hRq) : Option (Int32) :=
  (bif gCmp .ne rq.2.1 1 then
    some (0)
  else
    (Option.bind (me_0_1012 N) fun q2 =>
    (bif gCmp .eq (rq.2.2.2.1 - rq.2.2.1) q2 then
      lp_38_51_1012_28 N tb rq N 0
    else
      some (0))))
set_option maxRecDepth 20000 in
set_option maxHeartbeats 4000000 in
theorem mt_38_51_1012 {LL : Nat} {xs : Nat → Int32} {D : Nat} {b d k s w : hB} {ik ex pr wd : Int32} {sn : Nat → Int64} {qu tb : Nat → Int32} {ts : Int32} {rq : hRq} {h0 h1 h2 h3 : hSt} {fi : Nat → Int32} {R : List gE} (N : Nat) (q : Int32) (h : me_38_51_1012 N tb rq = some q) : hM (gO LL xs) (D + 4) zR_38 [.ref 51, .ref 1012] (hCm b d k s w ik ex pr wd sn qu tb ts (.ref 50, rq) h0 h1 h2 h3 fi R) (some (.int q)) (hCm b d k s w ik ex pr wd sn qu tb ts (.ref 50, rq) h0 h1 h2 h3 fi R) := by
  unfold me_38_51_1012 at h
  refine hX_go 0 0 [some (.ref 51), some (.ref 1012), none] [] (hCm b d k s w ik ex pr wd sn qu tb ts (.ref 50, rq) h0 h1 h2 h3 fi R) rfl ?_
  refine hX_go 4 (bif gCmp .ne rq.2.1 1 then 24 else 8) [some (.ref 51), some (.ref 1012), none] [] (hCm b d k s w ik ex pr wd sn qu tb ts (.ref 50, rq) h0 h1 h2 h3 fi R) rfl ?_
  refine hX_if (gCmp .ne rq.2.1 1) (fun c1 => ?_) (fun c1 => ?_)
  · skip
    have h := gcT c1 h
    refine hX_goM 1 (25) [some (.ref 51), some (.ref 1012), none] [.int 0] rfl ?_
    have h := Option.some.inj h; subst h
    exact hX_end rfl rfl rfl
  · skip
    have h := gcF c1 h
    refine hX_goM 6 (18) [some (.ref 51), some (.ref 1012), none] [.ref 1012, .int (rq.2.2.2.1 - rq.2.2.1)] rfl ?_
    revert h; refine gBindR fun q2 e2 h => ?_
    refine hX_call (r' := zR_0) rfl (mt_0_1012 N q2 e2) ?_
    refine hX_goM 1 (bif gCmp .eq (rq.2.2.2.1 - rq.2.2.1) q2 then 26 else 24) [some (.ref 51), some (.ref 1012), none] [] rfl ?_
    refine hX_if (gCmp .eq (rq.2.2.2.1 - rq.2.2.1) q2) (fun c3 => ?_) (fun c3 => ?_)
    · skip
      have h := gcT c3 h
      refine hX_goM 2 (28) [some (.ref 51), some (.ref 1012), some (.int 0)] [] rfl ?_
      exact lt_38_51_1012_28 N 0 q h
    · skip
      have h := gcF c3 h
      refine hX_goM 1 (25) [some (.ref 51), some (.ref 1012), none] [.int 0] rfl ?_
      have h := Option.some.inj h; subst h
      exact hX_end rfl rfl rfl


/-- java/lang/String.coder()B -/
def me_2_1013 (N : Nat) : Option (Int32) :=
  some (0)
set_option maxRecDepth 20000 in
set_option maxHeartbeats 4000000 in
theorem mt_2_1013 {LL : Nat} {xs : Nat → Int32} {D : Nat} {b d k s w : hB} {ik ex pr wd : Int32} {sn : Nat → Int64} {qu tb : Nat → Int32} {ts : Int32} {r0 : Value} {rq : hRq} {h0 h1 h2 h3 : hSt} {fi : Nat → Int32} {R : List gE} (N : Nat) (q : Int32) (h : me_2_1013 N = some q) : hM (gO LL xs) (D + 0) zR_2 [.ref 1013] (hCm b d k s w ik ex pr wd sn qu tb ts (r0, rq) h0 h1 h2 h3 fi R) (some (.int q)) (hCm b d k s w ik ex pr wd sn qu tb ts (r0, rq) h0 h1 h2 h3 fi R) := by
  unfold me_2_1013 at h
  refine hX_go 0 0 [some (.ref 1013)] [] (hCm b d k s w ik ex pr wd sn qu tb ts (r0, rq) h0 h1 h2 h3 fi R) rfl ?_
  refine hX_go 5 (14) [some (.ref 1013)] [.int 0] (hCm b d k s w ik ex pr wd sn qu tb ts (r0, rq) h0 h1 h2 h3 fi R) rfl ?_
  have h := Option.some.inj h; subst h
  exact hX_end rfl rfl rfl


/-- java/lang/String.length()I -/
def me_0_1013 (N : Nat) : Option (Int32) :=
  (Option.bind (me_2_1013 N) fun q1 =>
  some ((6 : Int32) >>> (q1 &&& 31)))
set_option maxRecDepth 20000 in
set_option maxHeartbeats 4000000 in
theorem mt_0_1013 {LL : Nat} {xs : Nat → Int32} {D : Nat} {b d k s w : hB} {ik ex pr wd : Int32} {sn : Nat → Int64} {qu tb : Nat → Int32} {ts : Int32} {r0 : Value} {rq : hRq} {h0 h1 h2 h3 : hSt} {fi : Nat → Int32} {R : List gE} (N : Nat) (q : Int32) (h : me_0_1013 N = some q) : hM (gO LL xs) (D + 1) zR_0 [.ref 1013] (hCm b d k s w ik ex pr wd sn qu tb ts (r0, rq) h0 h1 h2 h3 fi R) (some (.int q)) (hCm b d k s w ik ex pr wd sn qu tb ts (r0, rq) h0 h1 h2 h3 fi R) := by
  unfold me_0_1013 at h
  refine hX_go 0 0 [some (.ref 1013)] [] (hCm b d k s w ik ex pr wd sn qu tb ts (r0, rq) h0 h1 h2 h3 fi R) rfl ?_
  refine hX_go 4 (6) [some (.ref 1013)] [.ref 1013, .int 6] (hCm b d k s w ik ex pr wd sn qu tb ts (r0, rq) h0 h1 h2 h3 fi R) rfl ?_
  revert h; refine gBindR fun q1 e1 h => ?_
  refine hX_call (r' := zR_2) rfl (mt_2_1013 N q1 e1) ?_
  refine hX_goM 1 (10) [some (.ref 1013)] [.int ((6 : Int32) >>> (q1 &&& 31))] rfl ?_
  have h := Option.some.inj h; subst h
  exact hX_end rfl rfl rfl


/-- java/lang/String.isLatin1()Z -/
def me_3_1013 (N : Nat) : Option (Int32) :=
  some (1)
set_option maxRecDepth 20000 in
set_option maxHeartbeats 4000000 in
theorem mt_3_1013 {LL : Nat} {xs : Nat → Int32} {D : Nat} {b d k s w : hB} {ik ex pr wd : Int32} {sn : Nat → Int64} {qu tb : Nat → Int32} {ts : Int32} {r0 : Value} {rq : hRq} {h0 h1 h2 h3 : hSt} {fi : Nat → Int32} {R : List gE} (N : Nat) (q : Int32) (h : me_3_1013 N = some q) : hM (gO LL xs) (D + 0) zR_3 [.ref 1013] (hCm b d k s w ik ex pr wd sn qu tb ts (r0, rq) h0 h1 h2 h3 fi R) (some (.int q)) (hCm b d k s w ik ex pr wd sn qu tb ts (r0, rq) h0 h1 h2 h3 fi R) := by
  unfold me_3_1013 at h
  refine hX_go 0 0 [some (.ref 1013)] [] (hCm b d k s w ik ex pr wd sn qu tb ts (r0, rq) h0 h1 h2 h3 fi R) rfl ?_
  refine hX_go 7 (18) [some (.ref 1013)] [.int 1] (hCm b d k s w ik ex pr wd sn qu tb ts (r0, rq) h0 h1 h2 h3 fi R) rfl ?_
  have h := Option.some.inj h; subst h
  exact hX_end rfl rfl rfl


/-- java/lang/StringLatin1.charAt([BI)C -/
def me_5_1033 (N : Nat) (x0 : Int32) : Option (Int32) :=
  (Option.bind (me_4 N x0 6) fun q1 =>
  (bif gIn x0 6 then (bif decide (vp_nar .char (((Int32.toUInt32 (((gYf 3) (Int32.toNatClampNeg x0)) &&& 255)) % 65536).toInt32) = ((Int32.toUInt32 (((gYf 3) (Int32.toNatClampNeg x0)) &&& 255)) % 65536).toInt32) then some (((Int32.toUInt32 (((gYf 3) (Int32.toNatClampNeg x0)) &&& 255)) % 65536).toInt32) else none) else none))
set_option maxRecDepth 20000 in
set_option maxHeartbeats 4000000 in
theorem mt_5_1033 {LL : Nat} {xs : Nat → Int32} {D : Nat} {b d k s w : hB} {ik ex pr wd : Int32} {sn : Nat → Int64} {qu tb : Nat → Int32} {ts : Int32} {r0 : Value} {rq : hRq} {h0 h1 h2 h3 : hSt} {fi : Nat → Int32} {R : List gE} (N : Nat) (x0 : Int32) (q : Int32) (h : me_5_1033 N x0 = some q) : hM (gO LL xs) (D + 2) zR_5 [.ref 1033, .int x0] (hCm b d k s w ik ex pr wd sn qu tb ts (r0, rq) h0 h1 h2 h3 fi R) (some (.int q)) (hCm b d k s w ik ex pr wd sn qu tb ts (r0, rq) h0 h1 h2 h3 fi R) := by
  unfold me_5_1033 at h
  refine hX_go 0 0 [some (.ref 1033), some (.int x0)] [] (hCm b d k s w ik ex pr wd sn qu tb ts (r0, rq) h0 h1 h2 h3 fi R) rfl ?_
  refine hX_go 3 (3) [some (.ref 1033), some (.int x0)] [.int 6, .int x0] (hCm b d k s w ik ex pr wd sn qu tb ts (r0, rq) h0 h1 h2 h3 fi R) rfl ?_
  revert h; refine gBindR fun q1 e1 h => ?_
  refine hX_call (r' := zR_4) rfl (mt_4 N x0 6 q1 e1) ?_
  refine hX_goM 2 (8) [some (.ref 1033), some (.int x0)] [.int x0, .ref 1033] rfl ?_
  revert h; refine gCondR fun g2 h => ?_
  refine hX_gM (gIn x0 6) 9 [some (.ref 1033), some (.int x0)] [.int ((gYf 3) (Int32.toNatClampNeg x0))] rfl g2 ?_
  refine hX_goM 3 (14) [some (.ref 1033), some (.int x0)] [.int (((Int32.toUInt32 (((gYf 3) (Int32.toNatClampNeg x0)) &&& 255)) % 65536).toInt32)] rfl ?_
  revert h; refine gCondR fun g3 h => ?_
  have h := Option.some.inj h; subst h
  exact hX_endG (decide (vp_nar .char (((Int32.toUInt32 (((gYf 3) (Int32.toNatClampNeg x0)) &&& 255)) % 65536).toInt32) = ((Int32.toUInt32 (((gYf 3) (Int32.toNatClampNeg x0)) &&& 255)) % 65536).toInt32)) rfl g3 rfl rfl


/-- java/lang/String.charAt(I)C -/
def me_1_1013 (N : Nat) (x0 : Int32) : Option (Int32) :=
  (Option.bind (me_3_1013 N) fun q1 =>
  (bif !(gCmp .eq q1 0) then (Option.bind (me_5_1033 N x0) fun q3 =>
  (bif decide (vp_nar .char q3 = q3) then some (q3) else none)) else none))
set_option maxRecDepth 20000 in
set_option maxHeartbeats 4000000 in
theorem mt_1_1013 {LL : Nat} {xs : Nat → Int32} {D : Nat} {b d k s w : hB} {ik ex pr wd : Int32} {sn : Nat → Int64} {qu tb : Nat → Int32} {ts : Int32} {r0 : Value} {rq : hRq} {h0 h1 h2 h3 : hSt} {fi : Nat → Int32} {R : List gE} (N : Nat) (x0 : Int32) (q : Int32) (h : me_1_1013 N x0 = some q) : hM (gO LL xs) (D + 3) zR_1 [.ref 1013, .int x0] (hCm b d k s w ik ex pr wd sn qu tb ts (r0, rq) h0 h1 h2 h3 fi R) (some (.int q)) (hCm b d k s w ik ex pr wd sn qu tb ts (r0, rq) h0 h1 h2 h3 fi R) := by
  unfold me_1_1013 at h
  refine hX_go 0 0 [some (.ref 1013), some (.int x0)] [] (hCm b d k s w ik ex pr wd sn qu tb ts (r0, rq) h0 h1 h2 h3 fi R) rfl ?_
  refine hX_go 1 (1) [some (.ref 1013), some (.int x0)] [.ref 1013] (hCm b d k s w ik ex pr wd sn qu tb ts (r0, rq) h0 h1 h2 h3 fi R) rfl ?_
  revert h; refine gBindR fun q1 e1 h => ?_
  refine hX_call (r' := zR_3) rfl (mt_3_1013 N q1 e1) ?_
  refine hX_goM 1 (bif gCmp .eq q1 0 then 16 else 7) [some (.ref 1013), some (.int x0)] [] rfl ?_
  revert h; refine gCondR fun g2 h => ?_
  refine hX_ifF (gCmp .eq q1 0) (gNot g2) ?_
  refine hX_goM 3 (12) [some (.ref 1013), some (.int x0)] [.int x0, .ref 1033] rfl ?_
  revert h; refine gBindR fun q3 e3 h => ?_
  refine hX_call (r' := zR_5) rfl (mt_5_1033 N x0 q3 e3) ?_
  refine hX_goM 0 (15) [some (.ref 1013), some (.int x0)] [.int q3] rfl ?_
  revert h; refine gCondR fun g4 h => ?_
  have h := Option.some.inj h; subst h
  exact hX_endG (decide (vp_nar .char q3 = q3)) rfl g4 rfl rfl

/-- UpOneSide$Reader.isWord: the loop at 28 -/
def lp_38_51_1013_28 (N : Nat) (tb : Nat → Int32) (rq : hRq) : Nat → Int32 → Option (Int32)
  | 0, _ => none
  | n + 1, y2 =>
    (Option.bind (me_0_1013 N) fun q1 =>
    (bif gCmp .ge y2 q1 then
      some (1)
    else
      (bif gCmp .ge (rq.2.2.1 + y2) rq.1 then
        some (1)
      else
        (bif gIn (rq.2.2.1 + y2) 120 then (Option.bind (me_1_1013 N y2) fun q5 =>
        (bif gCmp .eq (tb (Int32.toNatClampNeg (rq.2.2.1 + y2))) q5 then
          lp_38_51_1013_28 N tb rq n (y2 + 1)
        else
          some (0))) else none))))
set_option maxRecDepth 20000 in
set_option maxHeartbeats 4000000 in
theorem lt_38_51_1013_28 {LL : Nat} {xs : Nat → Int32} {D N : Nat} {b d k s w : hB} {ik ex pr wd : Int32} {sn : Nat → Int64} {qu tb : Nat → Int32} {ts : Int32} {rq : hRq} {h0 h1 h2 h3 : hSt} {fi : Nat → Int32} {R : List gE} : ∀ (n : Nat) (y2 : Int32) (q : Int32), lp_38_51_1013_28 N tb rq n y2 = some q → hX (gO LL xs) (D + 4) zR_38 28 [some (.ref 51), some (.ref 1013), some (.int y2)] [] (hCm b d k s w ik ex pr wd sn qu tb ts (.ref 50, rq) h0 h1 h2 h3 fi R) (some (.int q)) (hCm b d k s w ik ex pr wd sn qu tb ts (.ref 50, rq) h0 h1 h2 h3 fi R) := by
  intro n
  induction n with
  | zero => intro y2 q h; cases h
  | succ n ih =>
    intro y2 q h
    rw [lp_38_51_1013_28] at h
    refine hX_go 2 (30) [some (.ref 51), some (.ref 1013), some (.int y2)] [.ref 1013, .int y2] (hCm b d k s w ik ex pr wd sn qu tb ts (.ref 50, rq) h0 h1 h2 h3 fi R) rfl ?_
    revert h; refine gBindR fun q1 e1 h => ?_
    refine hX_call (r' := zR_0) rfl (mt_0_1013 N q1 e1) ?_
    refine hX_goM 1 (bif gCmp .ge y2 q1 then 76 else 36) [some (.ref 51), some (.ref 1013), some (.int y2)] [] rfl ?_
    refine hX_if (gCmp .ge y2 q1) (fun c2 => ?_) (fun c2 => ?_)
    · skip
      have h := gcT c2 h
      refine hX_goM 1 (77) [some (.ref 51), some (.ref 1013), some (.int y2)] [.int 1] rfl ?_
      have h := Option.some.inj h; subst h
      exact hX_end rfl rfl rfl
    · skip
      have h := gcF c2 h
      refine hX_goM 7 (bif gCmp .ge (rq.2.2.1 + y2) rq.1 then 76 else 49) [some (.ref 51), some (.ref 1013), some (.int y2)] [] rfl ?_
      refine hX_if (gCmp .ge (rq.2.2.1 + y2) rq.1) (fun c3 => ?_) (fun c3 => ?_)
      · skip
        have h := gcT c3 h
        refine hX_goM 1 (77) [some (.ref 51), some (.ref 1013), some (.int y2)] [.int 1] rfl ?_
        have h := Option.some.inj h; subst h
        exact hX_end rfl rfl rfl
      · skip
        have h := gcF c3 h
        refine hX_goM 6 (59) [some (.ref 51), some (.ref 1013), some (.int y2)] [.int (rq.2.2.1 + y2), .ref 50] rfl ?_
        revert h; refine gCondR fun g4 h => ?_
        refine hX_gM (gIn (rq.2.2.1 + y2) 120) 60 [some (.ref 51), some (.ref 1013), some (.int y2)] [.int (tb (Int32.toNatClampNeg (rq.2.2.1 + y2)))] rfl g4 ?_
        refine hX_goM 2 (62) [some (.ref 51), some (.ref 1013), some (.int y2)] [.int y2, .ref 1013, .int (tb (Int32.toNatClampNeg (rq.2.2.1 + y2)))] rfl ?_
        revert h; refine gBindR fun q5 e5 h => ?_
        refine hX_call (r' := zR_1) rfl (mt_1_1013 N y2 q5 e5) ?_
        refine hX_goM 1 (bif gCmp .eq (tb (Int32.toNatClampNeg (rq.2.2.1 + y2))) q5 then 70 else 68) [some (.ref 51), some (.ref 1013), some (.int y2)] [] rfl ?_
        refine hX_if (gCmp .eq (tb (Int32.toNatClampNeg (rq.2.2.1 + y2))) q5) (fun c6 => ?_) (fun c6 => ?_)
        · skip
          have h := gcT c6 h
          refine hX_goM 2 (28) [some (.ref 51), some (.ref 1013), some (.int (y2 + 1))] [] rfl ?_
          exact ih (y2 + 1) q h
        · skip
          have h := gcF c6 h
          refine hX_goM 1 (69) [some (.ref 51), some (.ref 1013), some (.int y2)] [.int 0] rfl ?_
          have h := Option.some.inj h; subst h
          exact hX_end rfl rfl rfl

/-- UpOneSide$Reader.isWord(Ljava/lang/String;)Z -/
def me_38_51_1013 (N : Nat) (tb : Nat → Int32) (rq : hRq) : Option (Int32) :=
  (bif gCmp .ne rq.2.1 1 then
    some (0)
  else
    (Option.bind (me_0_1013 N) fun q2 =>
    (bif gCmp .eq (rq.2.2.2.1 - rq.2.2.1) q2 then
      lp_38_51_1013_28 N tb rq N 0
    else
      some (0))))
set_option maxRecDepth 20000 in
set_option maxHeartbeats 4000000 in
theorem mt_38_51_1013 {LL : Nat} {xs : Nat → Int32} {D : Nat} {b d k s w : hB} {ik ex pr wd : Int32} {sn : Nat → Int64} {qu tb : Nat → Int32} {ts : Int32} {rq : hRq} {h0 h1 h2 h3 : hSt} {fi : Nat → Int32} {R : List gE} (N : Nat) (q : Int32) (h : me_38_51_1013 N tb rq = some q) : hM (gO LL xs) (D + 4) zR_38 [.ref 51, .ref 1013] (hCm b d k s w ik ex pr wd sn qu tb ts (.ref 50, rq) h0 h1 h2 h3 fi R) (some (.int q)) (hCm b d k s w ik ex pr wd sn qu tb ts (.ref 50, rq) h0 h1 h2 h3 fi R) := by
  unfold me_38_51_1013 at h
  refine hX_go 0 0 [some (.ref 51), some (.ref 1013), none] [] (hCm b d k s w ik ex pr wd sn qu tb ts (.ref 50, rq) h0 h1 h2 h3 fi R) rfl ?_
  refine hX_go 4 (bif gCmp .ne rq.2.1 1 then 24 else 8) [some (.ref 51), some (.ref 1013), none] [] (hCm b d k s w ik ex pr wd sn qu tb ts (.ref 50, rq) h0 h1 h2 h3 fi R) rfl ?_
  refine hX_if (gCmp .ne rq.2.1 1) (fun c1 => ?_) (fun c1 => ?_)
  · skip
    have h := gcT c1 h
    refine hX_goM 1 (25) [some (.ref 51), some (.ref 1013), none] [.int 0] rfl ?_
    have h := Option.some.inj h; subst h
    exact hX_end rfl rfl rfl
  · skip
    have h := gcF c1 h
    refine hX_goM 6 (18) [some (.ref 51), some (.ref 1013), none] [.ref 1013, .int (rq.2.2.2.1 - rq.2.2.1)] rfl ?_
    revert h; refine gBindR fun q2 e2 h => ?_
    refine hX_call (r' := zR_0) rfl (mt_0_1013 N q2 e2) ?_
    refine hX_goM 1 (bif gCmp .eq (rq.2.2.2.1 - rq.2.2.1) q2 then 26 else 24) [some (.ref 51), some (.ref 1013), none] [] rfl ?_
    refine hX_if (gCmp .eq (rq.2.2.2.1 - rq.2.2.1) q2) (fun c3 => ?_) (fun c3 => ?_)
    · skip
      have h := gcT c3 h
      refine hX_goM 2 (28) [some (.ref 51), some (.ref 1013), some (.int 0)] [] rfl ?_
      exact lt_38_51_1013_28 N 0 q h
    · skip
      have h := gcF c3 h
      refine hX_goM 1 (25) [some (.ref 51), some (.ref 1013), none] [.int 0] rfl ?_
      have h := Option.some.inj h; subst h
      exact hX_end rfl rfl rfl


/-- java/lang/String.coder()B -/
def me_2_1014 (N : Nat) : Option (Int32) :=
  some (0)
set_option maxRecDepth 20000 in
set_option maxHeartbeats 4000000 in
theorem mt_2_1014 {LL : Nat} {xs : Nat → Int32} {D : Nat} {b d k s w : hB} {ik ex pr wd : Int32} {sn : Nat → Int64} {qu tb : Nat → Int32} {ts : Int32} {r0 : Value} {rq : hRq} {h0 h1 h2 h3 : hSt} {fi : Nat → Int32} {R : List gE} (N : Nat) (q : Int32) (h : me_2_1014 N = some q) : hM (gO LL xs) (D + 0) zR_2 [.ref 1014] (hCm b d k s w ik ex pr wd sn qu tb ts (r0, rq) h0 h1 h2 h3 fi R) (some (.int q)) (hCm b d k s w ik ex pr wd sn qu tb ts (r0, rq) h0 h1 h2 h3 fi R) := by
  unfold me_2_1014 at h
  refine hX_go 0 0 [some (.ref 1014)] [] (hCm b d k s w ik ex pr wd sn qu tb ts (r0, rq) h0 h1 h2 h3 fi R) rfl ?_
  refine hX_go 5 (14) [some (.ref 1014)] [.int 0] (hCm b d k s w ik ex pr wd sn qu tb ts (r0, rq) h0 h1 h2 h3 fi R) rfl ?_
  have h := Option.some.inj h; subst h
  exact hX_end rfl rfl rfl


/-- java/lang/String.length()I -/
def me_0_1014 (N : Nat) : Option (Int32) :=
  (Option.bind (me_2_1014 N) fun q1 =>
  some ((6 : Int32) >>> (q1 &&& 31)))
set_option maxRecDepth 20000 in
set_option maxHeartbeats 4000000 in
theorem mt_0_1014 {LL : Nat} {xs : Nat → Int32} {D : Nat} {b d k s w : hB} {ik ex pr wd : Int32} {sn : Nat → Int64} {qu tb : Nat → Int32} {ts : Int32} {r0 : Value} {rq : hRq} {h0 h1 h2 h3 : hSt} {fi : Nat → Int32} {R : List gE} (N : Nat) (q : Int32) (h : me_0_1014 N = some q) : hM (gO LL xs) (D + 1) zR_0 [.ref 1014] (hCm b d k s w ik ex pr wd sn qu tb ts (r0, rq) h0 h1 h2 h3 fi R) (some (.int q)) (hCm b d k s w ik ex pr wd sn qu tb ts (r0, rq) h0 h1 h2 h3 fi R) := by
  unfold me_0_1014 at h
  refine hX_go 0 0 [some (.ref 1014)] [] (hCm b d k s w ik ex pr wd sn qu tb ts (r0, rq) h0 h1 h2 h3 fi R) rfl ?_
  refine hX_go 4 (6) [some (.ref 1014)] [.ref 1014, .int 6] (hCm b d k s w ik ex pr wd sn qu tb ts (r0, rq) h0 h1 h2 h3 fi R) rfl ?_
  revert h; refine gBindR fun q1 e1 h => ?_
  refine hX_call (r' := zR_2) rfl (mt_2_1014 N q1 e1) ?_
  refine hX_goM 1 (10) [some (.ref 1014)] [.int ((6 : Int32) >>> (q1 &&& 31))] rfl ?_
  have h := Option.some.inj h; subst h
  exact hX_end rfl rfl rfl


/-- java/lang/String.isLatin1()Z -/
def me_3_1014 (N : Nat) : Option (Int32) :=
  some (1)
set_option maxRecDepth 20000 in
set_option maxHeartbeats 4000000 in
theorem mt_3_1014 {LL : Nat} {xs : Nat → Int32} {D : Nat} {b d k s w : hB} {ik ex pr wd : Int32} {sn : Nat → Int64} {qu tb : Nat → Int32} {ts : Int32} {r0 : Value} {rq : hRq} {h0 h1 h2 h3 : hSt} {fi : Nat → Int32} {R : List gE} (N : Nat) (q : Int32) (h : me_3_1014 N = some q) : hM (gO LL xs) (D + 0) zR_3 [.ref 1014] (hCm b d k s w ik ex pr wd sn qu tb ts (r0, rq) h0 h1 h2 h3 fi R) (some (.int q)) (hCm b d k s w ik ex pr wd sn qu tb ts (r0, rq) h0 h1 h2 h3 fi R) := by
  unfold me_3_1014 at h
  refine hX_go 0 0 [some (.ref 1014)] [] (hCm b d k s w ik ex pr wd sn qu tb ts (r0, rq) h0 h1 h2 h3 fi R) rfl ?_
  refine hX_go 7 (18) [some (.ref 1014)] [.int 1] (hCm b d k s w ik ex pr wd sn qu tb ts (r0, rq) h0 h1 h2 h3 fi R) rfl ?_
  have h := Option.some.inj h; subst h
  exact hX_end rfl rfl rfl


/-- java/lang/StringLatin1.charAt([BI)C -/
def me_5_1034 (N : Nat) (x0 : Int32) : Option (Int32) :=
  (Option.bind (me_4 N x0 6) fun q1 =>
  (bif gIn x0 6 then (bif decide (vp_nar .char (((Int32.toUInt32 (((gYf 4) (Int32.toNatClampNeg x0)) &&& 255)) % 65536).toInt32) = ((Int32.toUInt32 (((gYf 4) (Int32.toNatClampNeg x0)) &&& 255)) % 65536).toInt32) then some (((Int32.toUInt32 (((gYf 4) (Int32.toNatClampNeg x0)) &&& 255)) % 65536).toInt32) else none) else none))
set_option maxRecDepth 20000 in
set_option maxHeartbeats 4000000 in
theorem mt_5_1034 {LL : Nat} {xs : Nat → Int32} {D : Nat} {b d k s w : hB} {ik ex pr wd : Int32} {sn : Nat → Int64} {qu tb : Nat → Int32} {ts : Int32} {r0 : Value} {rq : hRq} {h0 h1 h2 h3 : hSt} {fi : Nat → Int32} {R : List gE} (N : Nat) (x0 : Int32) (q : Int32) (h : me_5_1034 N x0 = some q) : hM (gO LL xs) (D + 2) zR_5 [.ref 1034, .int x0] (hCm b d k s w ik ex pr wd sn qu tb ts (r0, rq) h0 h1 h2 h3 fi R) (some (.int q)) (hCm b d k s w ik ex pr wd sn qu tb ts (r0, rq) h0 h1 h2 h3 fi R) := by
  unfold me_5_1034 at h
  refine hX_go 0 0 [some (.ref 1034), some (.int x0)] [] (hCm b d k s w ik ex pr wd sn qu tb ts (r0, rq) h0 h1 h2 h3 fi R) rfl ?_
  refine hX_go 3 (3) [some (.ref 1034), some (.int x0)] [.int 6, .int x0] (hCm b d k s w ik ex pr wd sn qu tb ts (r0, rq) h0 h1 h2 h3 fi R) rfl ?_
  revert h; refine gBindR fun q1 e1 h => ?_
  refine hX_call (r' := zR_4) rfl (mt_4 N x0 6 q1 e1) ?_
  refine hX_goM 2 (8) [some (.ref 1034), some (.int x0)] [.int x0, .ref 1034] rfl ?_
  revert h; refine gCondR fun g2 h => ?_
  refine hX_gM (gIn x0 6) 9 [some (.ref 1034), some (.int x0)] [.int ((gYf 4) (Int32.toNatClampNeg x0))] rfl g2 ?_
  refine hX_goM 3 (14) [some (.ref 1034), some (.int x0)] [.int (((Int32.toUInt32 (((gYf 4) (Int32.toNatClampNeg x0)) &&& 255)) % 65536).toInt32)] rfl ?_
  revert h; refine gCondR fun g3 h => ?_
  have h := Option.some.inj h; subst h
  exact hX_endG (decide (vp_nar .char (((Int32.toUInt32 (((gYf 4) (Int32.toNatClampNeg x0)) &&& 255)) % 65536).toInt32) = ((Int32.toUInt32 (((gYf 4) (Int32.toNatClampNeg x0)) &&& 255)) % 65536).toInt32)) rfl g3 rfl rfl


/-- java/lang/String.charAt(I)C -/
def me_1_1014 (N : Nat) (x0 : Int32) : Option (Int32) :=
  (Option.bind (me_3_1014 N) fun q1 =>
  (bif !(gCmp .eq q1 0) then (Option.bind (me_5_1034 N x0) fun q3 =>
  (bif decide (vp_nar .char q3 = q3) then some (q3) else none)) else none))
set_option maxRecDepth 20000 in
set_option maxHeartbeats 4000000 in
theorem mt_1_1014 {LL : Nat} {xs : Nat → Int32} {D : Nat} {b d k s w : hB} {ik ex pr wd : Int32} {sn : Nat → Int64} {qu tb : Nat → Int32} {ts : Int32} {r0 : Value} {rq : hRq} {h0 h1 h2 h3 : hSt} {fi : Nat → Int32} {R : List gE} (N : Nat) (x0 : Int32) (q : Int32) (h : me_1_1014 N x0 = some q) : hM (gO LL xs) (D + 3) zR_1 [.ref 1014, .int x0] (hCm b d k s w ik ex pr wd sn qu tb ts (r0, rq) h0 h1 h2 h3 fi R) (some (.int q)) (hCm b d k s w ik ex pr wd sn qu tb ts (r0, rq) h0 h1 h2 h3 fi R) := by
  unfold me_1_1014 at h
  refine hX_go 0 0 [some (.ref 1014), some (.int x0)] [] (hCm b d k s w ik ex pr wd sn qu tb ts (r0, rq) h0 h1 h2 h3 fi R) rfl ?_
  refine hX_go 1 (1) [some (.ref 1014), some (.int x0)] [.ref 1014] (hCm b d k s w ik ex pr wd sn qu tb ts (r0, rq) h0 h1 h2 h3 fi R) rfl ?_
  revert h; refine gBindR fun q1 e1 h => ?_
  refine hX_call (r' := zR_3) rfl (mt_3_1014 N q1 e1) ?_
  refine hX_goM 1 (bif gCmp .eq q1 0 then 16 else 7) [some (.ref 1014), some (.int x0)] [] rfl ?_
  revert h; refine gCondR fun g2 h => ?_
  refine hX_ifF (gCmp .eq q1 0) (gNot g2) ?_
  refine hX_goM 3 (12) [some (.ref 1014), some (.int x0)] [.int x0, .ref 1034] rfl ?_
  revert h; refine gBindR fun q3 e3 h => ?_
  refine hX_call (r' := zR_5) rfl (mt_5_1034 N x0 q3 e3) ?_
  refine hX_goM 0 (15) [some (.ref 1014), some (.int x0)] [.int q3] rfl ?_
  revert h; refine gCondR fun g4 h => ?_
  have h := Option.some.inj h; subst h
  exact hX_endG (decide (vp_nar .char q3 = q3)) rfl g4 rfl rfl

/-- UpOneSide$Reader.isWord: the loop at 28 -/
def lp_38_51_1014_28 (N : Nat) (tb : Nat → Int32) (rq : hRq) : Nat → Int32 → Option (Int32)
  | 0, _ => none
  | n + 1, y2 =>
    (Option.bind (me_0_1014 N) fun q1 =>
    (bif gCmp .ge y2 q1 then
      some (1)
    else
      (bif gCmp .ge (rq.2.2.1 + y2) rq.1 then
        some (1)
      else
        (bif gIn (rq.2.2.1 + y2) 120 then (Option.bind (me_1_1014 N y2) fun q5 =>
        (bif gCmp .eq (tb (Int32.toNatClampNeg (rq.2.2.1 + y2))) q5 then
          lp_38_51_1014_28 N tb rq n (y2 + 1)
        else
          some (0))) else none))))
set_option maxRecDepth 20000 in
set_option maxHeartbeats 4000000 in
theorem lt_38_51_1014_28 {LL : Nat} {xs : Nat → Int32} {D N : Nat} {b d k s w : hB} {ik ex pr wd : Int32} {sn : Nat → Int64} {qu tb : Nat → Int32} {ts : Int32} {rq : hRq} {h0 h1 h2 h3 : hSt} {fi : Nat → Int32} {R : List gE} : ∀ (n : Nat) (y2 : Int32) (q : Int32), lp_38_51_1014_28 N tb rq n y2 = some q → hX (gO LL xs) (D + 4) zR_38 28 [some (.ref 51), some (.ref 1014), some (.int y2)] [] (hCm b d k s w ik ex pr wd sn qu tb ts (.ref 50, rq) h0 h1 h2 h3 fi R) (some (.int q)) (hCm b d k s w ik ex pr wd sn qu tb ts (.ref 50, rq) h0 h1 h2 h3 fi R) := by
  intro n
  induction n with
  | zero => intro y2 q h; cases h
  | succ n ih =>
    intro y2 q h
    rw [lp_38_51_1014_28] at h
    refine hX_go 2 (30) [some (.ref 51), some (.ref 1014), some (.int y2)] [.ref 1014, .int y2] (hCm b d k s w ik ex pr wd sn qu tb ts (.ref 50, rq) h0 h1 h2 h3 fi R) rfl ?_
    revert h; refine gBindR fun q1 e1 h => ?_
    refine hX_call (r' := zR_0) rfl (mt_0_1014 N q1 e1) ?_
    refine hX_goM 1 (bif gCmp .ge y2 q1 then 76 else 36) [some (.ref 51), some (.ref 1014), some (.int y2)] [] rfl ?_
    refine hX_if (gCmp .ge y2 q1) (fun c2 => ?_) (fun c2 => ?_)
    · skip
      have h := gcT c2 h
      refine hX_goM 1 (77) [some (.ref 51), some (.ref 1014), some (.int y2)] [.int 1] rfl ?_
      have h := Option.some.inj h; subst h
      exact hX_end rfl rfl rfl
    · skip
      have h := gcF c2 h
      refine hX_goM 7 (bif gCmp .ge (rq.2.2.1 + y2) rq.1 then 76 else 49) [some (.ref 51), some (.ref 1014), some (.int y2)] [] rfl ?_
      refine hX_if (gCmp .ge (rq.2.2.1 + y2) rq.1) (fun c3 => ?_) (fun c3 => ?_)
      · skip
        have h := gcT c3 h
        refine hX_goM 1 (77) [some (.ref 51), some (.ref 1014), some (.int y2)] [.int 1] rfl ?_
        have h := Option.some.inj h; subst h
        exact hX_end rfl rfl rfl
      · skip
        have h := gcF c3 h
        refine hX_goM 6 (59) [some (.ref 51), some (.ref 1014), some (.int y2)] [.int (rq.2.2.1 + y2), .ref 50] rfl ?_
        revert h; refine gCondR fun g4 h => ?_
        refine hX_gM (gIn (rq.2.2.1 + y2) 120) 60 [some (.ref 51), some (.ref 1014), some (.int y2)] [.int (tb (Int32.toNatClampNeg (rq.2.2.1 + y2)))] rfl g4 ?_
        refine hX_goM 2 (62) [some (.ref 51), some (.ref 1014), some (.int y2)] [.int y2, .ref 1014, .int (tb (Int32.toNatClampNeg (rq.2.2.1 + y2)))] rfl ?_
        revert h; refine gBindR fun q5 e5 h => ?_
        refine hX_call (r' := zR_1) rfl (mt_1_1014 N y2 q5 e5) ?_
        refine hX_goM 1 (bif gCmp .eq (tb (Int32.toNatClampNeg (rq.2.2.1 + y2))) q5 then 70 else 68) [some (.ref 51), some (.ref 1014), some (.int y2)] [] rfl ?_
        refine hX_if (gCmp .eq (tb (Int32.toNatClampNeg (rq.2.2.1 + y2))) q5) (fun c6 => ?_) (fun c6 => ?_)
        · skip
          have h := gcT c6 h
          refine hX_goM 2 (28) [some (.ref 51), some (.ref 1014), some (.int (y2 + 1))] [] rfl ?_
          exact ih (y2 + 1) q h
        · skip
          have h := gcF c6 h
          refine hX_goM 1 (69) [some (.ref 51), some (.ref 1014), some (.int y2)] [.int 0] rfl ?_
          have h := Option.some.inj h; subst h
          exact hX_end rfl rfl rfl

/-- UpOneSide$Reader.isWord(Ljava/lang/String;)Z -/
def me_38_51_1014 (N : Nat) (tb : Nat → Int32) (rq : hRq) : Option (Int32) :=
  (bif gCmp .ne rq.2.1 1 then
    some (0)
  else
    (Option.bind (me_0_1014 N) fun q2 =>
    (bif gCmp .eq (rq.2.2.2.1 - rq.2.2.1) q2 then
      lp_38_51_1014_28 N tb rq N 0
    else
      some (0))))
set_option maxRecDepth 20000 in
set_option maxHeartbeats 4000000 in
theorem mt_38_51_1014 {LL : Nat} {xs : Nat → Int32} {D : Nat} {b d k s w : hB} {ik ex pr wd : Int32} {sn : Nat → Int64} {qu tb : Nat → Int32} {ts : Int32} {rq : hRq} {h0 h1 h2 h3 : hSt} {fi : Nat → Int32} {R : List gE} (N : Nat) (q : Int32) (h : me_38_51_1014 N tb rq = some q) : hM (gO LL xs) (D + 4) zR_38 [.ref 51, .ref 1014] (hCm b d k s w ik ex pr wd sn qu tb ts (.ref 50, rq) h0 h1 h2 h3 fi R) (some (.int q)) (hCm b d k s w ik ex pr wd sn qu tb ts (.ref 50, rq) h0 h1 h2 h3 fi R) := by
  unfold me_38_51_1014 at h
  refine hX_go 0 0 [some (.ref 51), some (.ref 1014), none] [] (hCm b d k s w ik ex pr wd sn qu tb ts (.ref 50, rq) h0 h1 h2 h3 fi R) rfl ?_
  refine hX_go 4 (bif gCmp .ne rq.2.1 1 then 24 else 8) [some (.ref 51), some (.ref 1014), none] [] (hCm b d k s w ik ex pr wd sn qu tb ts (.ref 50, rq) h0 h1 h2 h3 fi R) rfl ?_
  refine hX_if (gCmp .ne rq.2.1 1) (fun c1 => ?_) (fun c1 => ?_)
  · skip
    have h := gcT c1 h
    refine hX_goM 1 (25) [some (.ref 51), some (.ref 1014), none] [.int 0] rfl ?_
    have h := Option.some.inj h; subst h
    exact hX_end rfl rfl rfl
  · skip
    have h := gcF c1 h
    refine hX_goM 6 (18) [some (.ref 51), some (.ref 1014), none] [.ref 1014, .int (rq.2.2.2.1 - rq.2.2.1)] rfl ?_
    revert h; refine gBindR fun q2 e2 h => ?_
    refine hX_call (r' := zR_0) rfl (mt_0_1014 N q2 e2) ?_
    refine hX_goM 1 (bif gCmp .eq (rq.2.2.2.1 - rq.2.2.1) q2 then 26 else 24) [some (.ref 51), some (.ref 1014), none] [] rfl ?_
    refine hX_if (gCmp .eq (rq.2.2.2.1 - rq.2.2.1) q2) (fun c3 => ?_) (fun c3 => ?_)
    · skip
      have h := gcT c3 h
      refine hX_goM 2 (28) [some (.ref 51), some (.ref 1014), some (.int 0)] [] rfl ?_
      exact lt_38_51_1014_28 N 0 q h
    · skip
      have h := gcF c3 h
      refine hX_goM 1 (25) [some (.ref 51), some (.ref 1014), none] [.int 0] rfl ?_
      have h := Option.some.inj h; subst h
      exact hX_end rfl rfl rfl


/-- java/lang/String.coder()B -/
def me_2_1015 (N : Nat) : Option (Int32) :=
  some (0)
set_option maxRecDepth 20000 in
set_option maxHeartbeats 4000000 in
theorem mt_2_1015 {LL : Nat} {xs : Nat → Int32} {D : Nat} {b d k s w : hB} {ik ex pr wd : Int32} {sn : Nat → Int64} {qu tb : Nat → Int32} {ts : Int32} {r0 : Value} {rq : hRq} {h0 h1 h2 h3 : hSt} {fi : Nat → Int32} {R : List gE} (N : Nat) (q : Int32) (h : me_2_1015 N = some q) : hM (gO LL xs) (D + 0) zR_2 [.ref 1015] (hCm b d k s w ik ex pr wd sn qu tb ts (r0, rq) h0 h1 h2 h3 fi R) (some (.int q)) (hCm b d k s w ik ex pr wd sn qu tb ts (r0, rq) h0 h1 h2 h3 fi R) := by
  unfold me_2_1015 at h
  refine hX_go 0 0 [some (.ref 1015)] [] (hCm b d k s w ik ex pr wd sn qu tb ts (r0, rq) h0 h1 h2 h3 fi R) rfl ?_
  refine hX_go 5 (14) [some (.ref 1015)] [.int 0] (hCm b d k s w ik ex pr wd sn qu tb ts (r0, rq) h0 h1 h2 h3 fi R) rfl ?_
  have h := Option.some.inj h; subst h
  exact hX_end rfl rfl rfl


/-- java/lang/String.length()I -/
def me_0_1015 (N : Nat) : Option (Int32) :=
  (Option.bind (me_2_1015 N) fun q1 =>
  some ((6 : Int32) >>> (q1 &&& 31)))
set_option maxRecDepth 20000 in
set_option maxHeartbeats 4000000 in
theorem mt_0_1015 {LL : Nat} {xs : Nat → Int32} {D : Nat} {b d k s w : hB} {ik ex pr wd : Int32} {sn : Nat → Int64} {qu tb : Nat → Int32} {ts : Int32} {r0 : Value} {rq : hRq} {h0 h1 h2 h3 : hSt} {fi : Nat → Int32} {R : List gE} (N : Nat) (q : Int32) (h : me_0_1015 N = some q) : hM (gO LL xs) (D + 1) zR_0 [.ref 1015] (hCm b d k s w ik ex pr wd sn qu tb ts (r0, rq) h0 h1 h2 h3 fi R) (some (.int q)) (hCm b d k s w ik ex pr wd sn qu tb ts (r0, rq) h0 h1 h2 h3 fi R) := by
  unfold me_0_1015 at h
  refine hX_go 0 0 [some (.ref 1015)] [] (hCm b d k s w ik ex pr wd sn qu tb ts (r0, rq) h0 h1 h2 h3 fi R) rfl ?_
  refine hX_go 4 (6) [some (.ref 1015)] [.ref 1015, .int 6] (hCm b d k s w ik ex pr wd sn qu tb ts (r0, rq) h0 h1 h2 h3 fi R) rfl ?_
  revert h; refine gBindR fun q1 e1 h => ?_
  refine hX_call (r' := zR_2) rfl (mt_2_1015 N q1 e1) ?_
  refine hX_goM 1 (10) [some (.ref 1015)] [.int ((6 : Int32) >>> (q1 &&& 31))] rfl ?_
  have h := Option.some.inj h; subst h
  exact hX_end rfl rfl rfl


/-- java/lang/String.isLatin1()Z -/
def me_3_1015 (N : Nat) : Option (Int32) :=
  some (1)
set_option maxRecDepth 20000 in
set_option maxHeartbeats 4000000 in
theorem mt_3_1015 {LL : Nat} {xs : Nat → Int32} {D : Nat} {b d k s w : hB} {ik ex pr wd : Int32} {sn : Nat → Int64} {qu tb : Nat → Int32} {ts : Int32} {r0 : Value} {rq : hRq} {h0 h1 h2 h3 : hSt} {fi : Nat → Int32} {R : List gE} (N : Nat) (q : Int32) (h : me_3_1015 N = some q) : hM (gO LL xs) (D + 0) zR_3 [.ref 1015] (hCm b d k s w ik ex pr wd sn qu tb ts (r0, rq) h0 h1 h2 h3 fi R) (some (.int q)) (hCm b d k s w ik ex pr wd sn qu tb ts (r0, rq) h0 h1 h2 h3 fi R) := by
  unfold me_3_1015 at h
  refine hX_go 0 0 [some (.ref 1015)] [] (hCm b d k s w ik ex pr wd sn qu tb ts (r0, rq) h0 h1 h2 h3 fi R) rfl ?_
  refine hX_go 7 (18) [some (.ref 1015)] [.int 1] (hCm b d k s w ik ex pr wd sn qu tb ts (r0, rq) h0 h1 h2 h3 fi R) rfl ?_
  have h := Option.some.inj h; subst h
  exact hX_end rfl rfl rfl


/-- java/lang/StringLatin1.charAt([BI)C -/
def me_5_1035 (N : Nat) (x0 : Int32) : Option (Int32) :=
  (Option.bind (me_4 N x0 6) fun q1 =>
  (bif gIn x0 6 then (bif decide (vp_nar .char (((Int32.toUInt32 (((gYf 5) (Int32.toNatClampNeg x0)) &&& 255)) % 65536).toInt32) = ((Int32.toUInt32 (((gYf 5) (Int32.toNatClampNeg x0)) &&& 255)) % 65536).toInt32) then some (((Int32.toUInt32 (((gYf 5) (Int32.toNatClampNeg x0)) &&& 255)) % 65536).toInt32) else none) else none))
set_option maxRecDepth 20000 in
set_option maxHeartbeats 4000000 in
theorem mt_5_1035 {LL : Nat} {xs : Nat → Int32} {D : Nat} {b d k s w : hB} {ik ex pr wd : Int32} {sn : Nat → Int64} {qu tb : Nat → Int32} {ts : Int32} {r0 : Value} {rq : hRq} {h0 h1 h2 h3 : hSt} {fi : Nat → Int32} {R : List gE} (N : Nat) (x0 : Int32) (q : Int32) (h : me_5_1035 N x0 = some q) : hM (gO LL xs) (D + 2) zR_5 [.ref 1035, .int x0] (hCm b d k s w ik ex pr wd sn qu tb ts (r0, rq) h0 h1 h2 h3 fi R) (some (.int q)) (hCm b d k s w ik ex pr wd sn qu tb ts (r0, rq) h0 h1 h2 h3 fi R) := by
  unfold me_5_1035 at h
  refine hX_go 0 0 [some (.ref 1035), some (.int x0)] [] (hCm b d k s w ik ex pr wd sn qu tb ts (r0, rq) h0 h1 h2 h3 fi R) rfl ?_
  refine hX_go 3 (3) [some (.ref 1035), some (.int x0)] [.int 6, .int x0] (hCm b d k s w ik ex pr wd sn qu tb ts (r0, rq) h0 h1 h2 h3 fi R) rfl ?_
  revert h; refine gBindR fun q1 e1 h => ?_
  refine hX_call (r' := zR_4) rfl (mt_4 N x0 6 q1 e1) ?_
  refine hX_goM 2 (8) [some (.ref 1035), some (.int x0)] [.int x0, .ref 1035] rfl ?_
  revert h; refine gCondR fun g2 h => ?_
  refine hX_gM (gIn x0 6) 9 [some (.ref 1035), some (.int x0)] [.int ((gYf 5) (Int32.toNatClampNeg x0))] rfl g2 ?_
  refine hX_goM 3 (14) [some (.ref 1035), some (.int x0)] [.int (((Int32.toUInt32 (((gYf 5) (Int32.toNatClampNeg x0)) &&& 255)) % 65536).toInt32)] rfl ?_
  revert h; refine gCondR fun g3 h => ?_
  have h := Option.some.inj h; subst h
  exact hX_endG (decide (vp_nar .char (((Int32.toUInt32 (((gYf 5) (Int32.toNatClampNeg x0)) &&& 255)) % 65536).toInt32) = ((Int32.toUInt32 (((gYf 5) (Int32.toNatClampNeg x0)) &&& 255)) % 65536).toInt32)) rfl g3 rfl rfl


/-- java/lang/String.charAt(I)C -/
def me_1_1015 (N : Nat) (x0 : Int32) : Option (Int32) :=
  (Option.bind (me_3_1015 N) fun q1 =>
  (bif !(gCmp .eq q1 0) then (Option.bind (me_5_1035 N x0) fun q3 =>
  (bif decide (vp_nar .char q3 = q3) then some (q3) else none)) else none))
set_option maxRecDepth 20000 in
set_option maxHeartbeats 4000000 in
theorem mt_1_1015 {LL : Nat} {xs : Nat → Int32} {D : Nat} {b d k s w : hB} {ik ex pr wd : Int32} {sn : Nat → Int64} {qu tb : Nat → Int32} {ts : Int32} {r0 : Value} {rq : hRq} {h0 h1 h2 h3 : hSt} {fi : Nat → Int32} {R : List gE} (N : Nat) (x0 : Int32) (q : Int32) (h : me_1_1015 N x0 = some q) : hM (gO LL xs) (D + 3) zR_1 [.ref 1015, .int x0] (hCm b d k s w ik ex pr wd sn qu tb ts (r0, rq) h0 h1 h2 h3 fi R) (some (.int q)) (hCm b d k s w ik ex pr wd sn qu tb ts (r0, rq) h0 h1 h2 h3 fi R) := by
  unfold me_1_1015 at h
  refine hX_go 0 0 [some (.ref 1015), some (.int x0)] [] (hCm b d k s w ik ex pr wd sn qu tb ts (r0, rq) h0 h1 h2 h3 fi R) rfl ?_
  refine hX_go 1 (1) [some (.ref 1015), some (.int x0)] [.ref 1015] (hCm b d k s w ik ex pr wd sn qu tb ts (r0, rq) h0 h1 h2 h3 fi R) rfl ?_
  revert h; refine gBindR fun q1 e1 h => ?_
  refine hX_call (r' := zR_3) rfl (mt_3_1015 N q1 e1) ?_
  refine hX_goM 1 (bif gCmp .eq q1 0 then 16 else 7) [some (.ref 1015), some (.int x0)] [] rfl ?_
  revert h; refine gCondR fun g2 h => ?_
  refine hX_ifF (gCmp .eq q1 0) (gNot g2) ?_
  refine hX_goM 3 (12) [some (.ref 1015), some (.int x0)] [.int x0, .ref 1035] rfl ?_
  revert h; refine gBindR fun q3 e3 h => ?_
  refine hX_call (r' := zR_5) rfl (mt_5_1035 N x0 q3 e3) ?_
  refine hX_goM 0 (15) [some (.ref 1015), some (.int x0)] [.int q3] rfl ?_
  revert h; refine gCondR fun g4 h => ?_
  have h := Option.some.inj h; subst h
  exact hX_endG (decide (vp_nar .char q3 = q3)) rfl g4 rfl rfl

/-- UpOneSide$Reader.isWord: the loop at 28 -/
def lp_38_51_1015_28 (N : Nat) (tb : Nat → Int32) (rq : hRq) : Nat → Int32 → Option (Int32)
  | 0, _ => none
  | n + 1, y2 =>
    (Option.bind (me_0_1015 N) fun q1 =>
    (bif gCmp .ge y2 q1 then
      some (1)
    else
      (bif gCmp .ge (rq.2.2.1 + y2) rq.1 then
        some (1)
      else
        (bif gIn (rq.2.2.1 + y2) 120 then (Option.bind (me_1_1015 N y2) fun q5 =>
        (bif gCmp .eq (tb (Int32.toNatClampNeg (rq.2.2.1 + y2))) q5 then
          lp_38_51_1015_28 N tb rq n (y2 + 1)
        else
          some (0))) else none))))
set_option maxRecDepth 20000 in
set_option maxHeartbeats 4000000 in
theorem lt_38_51_1015_28 {LL : Nat} {xs : Nat → Int32} {D N : Nat} {b d k s w : hB} {ik ex pr wd : Int32} {sn : Nat → Int64} {qu tb : Nat → Int32} {ts : Int32} {rq : hRq} {h0 h1 h2 h3 : hSt} {fi : Nat → Int32} {R : List gE} : ∀ (n : Nat) (y2 : Int32) (q : Int32), lp_38_51_1015_28 N tb rq n y2 = some q → hX (gO LL xs) (D + 4) zR_38 28 [some (.ref 51), some (.ref 1015), some (.int y2)] [] (hCm b d k s w ik ex pr wd sn qu tb ts (.ref 50, rq) h0 h1 h2 h3 fi R) (some (.int q)) (hCm b d k s w ik ex pr wd sn qu tb ts (.ref 50, rq) h0 h1 h2 h3 fi R) := by
  intro n
  induction n with
  | zero => intro y2 q h; cases h
  | succ n ih =>
    intro y2 q h
    rw [lp_38_51_1015_28] at h
    refine hX_go 2 (30) [some (.ref 51), some (.ref 1015), some (.int y2)] [.ref 1015, .int y2] (hCm b d k s w ik ex pr wd sn qu tb ts (.ref 50, rq) h0 h1 h2 h3 fi R) rfl ?_
    revert h; refine gBindR fun q1 e1 h => ?_
    refine hX_call (r' := zR_0) rfl (mt_0_1015 N q1 e1) ?_
    refine hX_goM 1 (bif gCmp .ge y2 q1 then 76 else 36) [some (.ref 51), some (.ref 1015), some (.int y2)] [] rfl ?_
    refine hX_if (gCmp .ge y2 q1) (fun c2 => ?_) (fun c2 => ?_)
    · skip
      have h := gcT c2 h
      refine hX_goM 1 (77) [some (.ref 51), some (.ref 1015), some (.int y2)] [.int 1] rfl ?_
      have h := Option.some.inj h; subst h
      exact hX_end rfl rfl rfl
    · skip
      have h := gcF c2 h
      refine hX_goM 7 (bif gCmp .ge (rq.2.2.1 + y2) rq.1 then 76 else 49) [some (.ref 51), some (.ref 1015), some (.int y2)] [] rfl ?_
      refine hX_if (gCmp .ge (rq.2.2.1 + y2) rq.1) (fun c3 => ?_) (fun c3 => ?_)
      · skip
        have h := gcT c3 h
        refine hX_goM 1 (77) [some (.ref 51), some (.ref 1015), some (.int y2)] [.int 1] rfl ?_
        have h := Option.some.inj h; subst h
        exact hX_end rfl rfl rfl
      · skip
        have h := gcF c3 h
        refine hX_goM 6 (59) [some (.ref 51), some (.ref 1015), some (.int y2)] [.int (rq.2.2.1 + y2), .ref 50] rfl ?_
        revert h; refine gCondR fun g4 h => ?_
        refine hX_gM (gIn (rq.2.2.1 + y2) 120) 60 [some (.ref 51), some (.ref 1015), some (.int y2)] [.int (tb (Int32.toNatClampNeg (rq.2.2.1 + y2)))] rfl g4 ?_
        refine hX_goM 2 (62) [some (.ref 51), some (.ref 1015), some (.int y2)] [.int y2, .ref 1015, .int (tb (Int32.toNatClampNeg (rq.2.2.1 + y2)))] rfl ?_
        revert h; refine gBindR fun q5 e5 h => ?_
        refine hX_call (r' := zR_1) rfl (mt_1_1015 N y2 q5 e5) ?_
        refine hX_goM 1 (bif gCmp .eq (tb (Int32.toNatClampNeg (rq.2.2.1 + y2))) q5 then 70 else 68) [some (.ref 51), some (.ref 1015), some (.int y2)] [] rfl ?_
        refine hX_if (gCmp .eq (tb (Int32.toNatClampNeg (rq.2.2.1 + y2))) q5) (fun c6 => ?_) (fun c6 => ?_)
        · skip
          have h := gcT c6 h
          refine hX_goM 2 (28) [some (.ref 51), some (.ref 1015), some (.int (y2 + 1))] [] rfl ?_
          exact ih (y2 + 1) q h
        · skip
          have h := gcF c6 h
          refine hX_goM 1 (69) [some (.ref 51), some (.ref 1015), some (.int y2)] [.int 0] rfl ?_
          have h := Option.some.inj h; subst h
          exact hX_end rfl rfl rfl

/-- UpOneSide$Reader.isWord(Ljava/lang/String;)Z -/
def me_38_51_1015 (N : Nat) (tb : Nat → Int32) (rq : hRq) : Option (Int32) :=
  (bif gCmp .ne rq.2.1 1 then
    some (0)
  else
    (Option.bind (me_0_1015 N) fun q2 =>
    (bif gCmp .eq (rq.2.2.2.1 - rq.2.2.1) q2 then
      lp_38_51_1015_28 N tb rq N 0
    else
      some (0))))
set_option maxRecDepth 20000 in
set_option maxHeartbeats 4000000 in
theorem mt_38_51_1015 {LL : Nat} {xs : Nat → Int32} {D : Nat} {b d k s w : hB} {ik ex pr wd : Int32} {sn : Nat → Int64} {qu tb : Nat → Int32} {ts : Int32} {rq : hRq} {h0 h1 h2 h3 : hSt} {fi : Nat → Int32} {R : List gE} (N : Nat) (q : Int32) (h : me_38_51_1015 N tb rq = some q) : hM (gO LL xs) (D + 4) zR_38 [.ref 51, .ref 1015] (hCm b d k s w ik ex pr wd sn qu tb ts (.ref 50, rq) h0 h1 h2 h3 fi R) (some (.int q)) (hCm b d k s w ik ex pr wd sn qu tb ts (.ref 50, rq) h0 h1 h2 h3 fi R) := by
  unfold me_38_51_1015 at h
  refine hX_go 0 0 [some (.ref 51), some (.ref 1015), none] [] (hCm b d k s w ik ex pr wd sn qu tb ts (.ref 50, rq) h0 h1 h2 h3 fi R) rfl ?_
  refine hX_go 4 (bif gCmp .ne rq.2.1 1 then 24 else 8) [some (.ref 51), some (.ref 1015), none] [] (hCm b d k s w ik ex pr wd sn qu tb ts (.ref 50, rq) h0 h1 h2 h3 fi R) rfl ?_
  refine hX_if (gCmp .ne rq.2.1 1) (fun c1 => ?_) (fun c1 => ?_)
  · skip
    have h := gcT c1 h
    refine hX_goM 1 (25) [some (.ref 51), some (.ref 1015), none] [.int 0] rfl ?_
    have h := Option.some.inj h; subst h
    exact hX_end rfl rfl rfl
  · skip
    have h := gcF c1 h
    refine hX_goM 6 (18) [some (.ref 51), some (.ref 1015), none] [.ref 1015, .int (rq.2.2.2.1 - rq.2.2.1)] rfl ?_
    revert h; refine gBindR fun q2 e2 h => ?_
    refine hX_call (r' := zR_0) rfl (mt_0_1015 N q2 e2) ?_
    refine hX_goM 1 (bif gCmp .eq (rq.2.2.2.1 - rq.2.2.1) q2 then 26 else 24) [some (.ref 51), some (.ref 1015), none] [] rfl ?_
    refine hX_if (gCmp .eq (rq.2.2.2.1 - rq.2.2.1) q2) (fun c3 => ?_) (fun c3 => ?_)
    · skip
      have h := gcT c3 h
      refine hX_goM 2 (28) [some (.ref 51), some (.ref 1015), some (.int 0)] [] rfl ?_
      exact lt_38_51_1015_28 N 0 q h
    · skip
      have h := gcF c3 h
      refine hX_goM 1 (25) [some (.ref 51), some (.ref 1015), none] [.int 0] rfl ?_
      have h := Option.some.inj h; subst h
      exact hX_end rfl rfl rfl


/-- java/lang/String.coder()B -/
def me_2_1016 (N : Nat) : Option (Int32) :=
  some (0)
set_option maxRecDepth 20000 in
set_option maxHeartbeats 4000000 in
theorem mt_2_1016 {LL : Nat} {xs : Nat → Int32} {D : Nat} {b d k s w : hB} {ik ex pr wd : Int32} {sn : Nat → Int64} {qu tb : Nat → Int32} {ts : Int32} {r0 : Value} {rq : hRq} {h0 h1 h2 h3 : hSt} {fi : Nat → Int32} {R : List gE} (N : Nat) (q : Int32) (h : me_2_1016 N = some q) : hM (gO LL xs) (D + 0) zR_2 [.ref 1016] (hCm b d k s w ik ex pr wd sn qu tb ts (r0, rq) h0 h1 h2 h3 fi R) (some (.int q)) (hCm b d k s w ik ex pr wd sn qu tb ts (r0, rq) h0 h1 h2 h3 fi R) := by
  unfold me_2_1016 at h
  refine hX_go 0 0 [some (.ref 1016)] [] (hCm b d k s w ik ex pr wd sn qu tb ts (r0, rq) h0 h1 h2 h3 fi R) rfl ?_
  refine hX_go 5 (14) [some (.ref 1016)] [.int 0] (hCm b d k s w ik ex pr wd sn qu tb ts (r0, rq) h0 h1 h2 h3 fi R) rfl ?_
  have h := Option.some.inj h; subst h
  exact hX_end rfl rfl rfl


/-- java/lang/String.length()I -/
def me_0_1016 (N : Nat) : Option (Int32) :=
  (Option.bind (me_2_1016 N) fun q1 =>
  some ((4 : Int32) >>> (q1 &&& 31)))
set_option maxRecDepth 20000 in
set_option maxHeartbeats 4000000 in
theorem mt_0_1016 {LL : Nat} {xs : Nat → Int32} {D : Nat} {b d k s w : hB} {ik ex pr wd : Int32} {sn : Nat → Int64} {qu tb : Nat → Int32} {ts : Int32} {r0 : Value} {rq : hRq} {h0 h1 h2 h3 : hSt} {fi : Nat → Int32} {R : List gE} (N : Nat) (q : Int32) (h : me_0_1016 N = some q) : hM (gO LL xs) (D + 1) zR_0 [.ref 1016] (hCm b d k s w ik ex pr wd sn qu tb ts (r0, rq) h0 h1 h2 h3 fi R) (some (.int q)) (hCm b d k s w ik ex pr wd sn qu tb ts (r0, rq) h0 h1 h2 h3 fi R) := by
  unfold me_0_1016 at h
  refine hX_go 0 0 [some (.ref 1016)] [] (hCm b d k s w ik ex pr wd sn qu tb ts (r0, rq) h0 h1 h2 h3 fi R) rfl ?_
  refine hX_go 4 (6) [some (.ref 1016)] [.ref 1016, .int 4] (hCm b d k s w ik ex pr wd sn qu tb ts (r0, rq) h0 h1 h2 h3 fi R) rfl ?_
  revert h; refine gBindR fun q1 e1 h => ?_
  refine hX_call (r' := zR_2) rfl (mt_2_1016 N q1 e1) ?_
  refine hX_goM 1 (10) [some (.ref 1016)] [.int ((4 : Int32) >>> (q1 &&& 31))] rfl ?_
  have h := Option.some.inj h; subst h
  exact hX_end rfl rfl rfl


/-- java/lang/String.isLatin1()Z -/
def me_3_1016 (N : Nat) : Option (Int32) :=
  some (1)
set_option maxRecDepth 20000 in
set_option maxHeartbeats 4000000 in
theorem mt_3_1016 {LL : Nat} {xs : Nat → Int32} {D : Nat} {b d k s w : hB} {ik ex pr wd : Int32} {sn : Nat → Int64} {qu tb : Nat → Int32} {ts : Int32} {r0 : Value} {rq : hRq} {h0 h1 h2 h3 : hSt} {fi : Nat → Int32} {R : List gE} (N : Nat) (q : Int32) (h : me_3_1016 N = some q) : hM (gO LL xs) (D + 0) zR_3 [.ref 1016] (hCm b d k s w ik ex pr wd sn qu tb ts (r0, rq) h0 h1 h2 h3 fi R) (some (.int q)) (hCm b d k s w ik ex pr wd sn qu tb ts (r0, rq) h0 h1 h2 h3 fi R) := by
  unfold me_3_1016 at h
  refine hX_go 0 0 [some (.ref 1016)] [] (hCm b d k s w ik ex pr wd sn qu tb ts (r0, rq) h0 h1 h2 h3 fi R) rfl ?_
  refine hX_go 7 (18) [some (.ref 1016)] [.int 1] (hCm b d k s w ik ex pr wd sn qu tb ts (r0, rq) h0 h1 h2 h3 fi R) rfl ?_
  have h := Option.some.inj h; subst h
  exact hX_end rfl rfl rfl


/-- java/lang/StringLatin1.charAt([BI)C -/
def me_5_1036 (N : Nat) (x0 : Int32) : Option (Int32) :=
  (Option.bind (me_4 N x0 4) fun q1 =>
  (bif gIn x0 4 then (bif decide (vp_nar .char (((Int32.toUInt32 (((gYf 6) (Int32.toNatClampNeg x0)) &&& 255)) % 65536).toInt32) = ((Int32.toUInt32 (((gYf 6) (Int32.toNatClampNeg x0)) &&& 255)) % 65536).toInt32) then some (((Int32.toUInt32 (((gYf 6) (Int32.toNatClampNeg x0)) &&& 255)) % 65536).toInt32) else none) else none))
set_option maxRecDepth 20000 in
set_option maxHeartbeats 4000000 in
theorem mt_5_1036 {LL : Nat} {xs : Nat → Int32} {D : Nat} {b d k s w : hB} {ik ex pr wd : Int32} {sn : Nat → Int64} {qu tb : Nat → Int32} {ts : Int32} {r0 : Value} {rq : hRq} {h0 h1 h2 h3 : hSt} {fi : Nat → Int32} {R : List gE} (N : Nat) (x0 : Int32) (q : Int32) (h : me_5_1036 N x0 = some q) : hM (gO LL xs) (D + 2) zR_5 [.ref 1036, .int x0] (hCm b d k s w ik ex pr wd sn qu tb ts (r0, rq) h0 h1 h2 h3 fi R) (some (.int q)) (hCm b d k s w ik ex pr wd sn qu tb ts (r0, rq) h0 h1 h2 h3 fi R) := by
  unfold me_5_1036 at h
  refine hX_go 0 0 [some (.ref 1036), some (.int x0)] [] (hCm b d k s w ik ex pr wd sn qu tb ts (r0, rq) h0 h1 h2 h3 fi R) rfl ?_
  refine hX_go 3 (3) [some (.ref 1036), some (.int x0)] [.int 4, .int x0] (hCm b d k s w ik ex pr wd sn qu tb ts (r0, rq) h0 h1 h2 h3 fi R) rfl ?_
  revert h; refine gBindR fun q1 e1 h => ?_
  refine hX_call (r' := zR_4) rfl (mt_4 N x0 4 q1 e1) ?_
  refine hX_goM 2 (8) [some (.ref 1036), some (.int x0)] [.int x0, .ref 1036] rfl ?_
  revert h; refine gCondR fun g2 h => ?_
  refine hX_gM (gIn x0 4) 9 [some (.ref 1036), some (.int x0)] [.int ((gYf 6) (Int32.toNatClampNeg x0))] rfl g2 ?_
  refine hX_goM 3 (14) [some (.ref 1036), some (.int x0)] [.int (((Int32.toUInt32 (((gYf 6) (Int32.toNatClampNeg x0)) &&& 255)) % 65536).toInt32)] rfl ?_
  revert h; refine gCondR fun g3 h => ?_
  have h := Option.some.inj h; subst h
  exact hX_endG (decide (vp_nar .char (((Int32.toUInt32 (((gYf 6) (Int32.toNatClampNeg x0)) &&& 255)) % 65536).toInt32) = ((Int32.toUInt32 (((gYf 6) (Int32.toNatClampNeg x0)) &&& 255)) % 65536).toInt32)) rfl g3 rfl rfl


/-- java/lang/String.charAt(I)C -/
def me_1_1016 (N : Nat) (x0 : Int32) : Option (Int32) :=
  (Option.bind (me_3_1016 N) fun q1 =>
  (bif !(gCmp .eq q1 0) then (Option.bind (me_5_1036 N x0) fun q3 =>
  (bif decide (vp_nar .char q3 = q3) then some (q3) else none)) else none))
set_option maxRecDepth 20000 in
set_option maxHeartbeats 4000000 in
theorem mt_1_1016 {LL : Nat} {xs : Nat → Int32} {D : Nat} {b d k s w : hB} {ik ex pr wd : Int32} {sn : Nat → Int64} {qu tb : Nat → Int32} {ts : Int32} {r0 : Value} {rq : hRq} {h0 h1 h2 h3 : hSt} {fi : Nat → Int32} {R : List gE} (N : Nat) (x0 : Int32) (q : Int32) (h : me_1_1016 N x0 = some q) : hM (gO LL xs) (D + 3) zR_1 [.ref 1016, .int x0] (hCm b d k s w ik ex pr wd sn qu tb ts (r0, rq) h0 h1 h2 h3 fi R) (some (.int q)) (hCm b d k s w ik ex pr wd sn qu tb ts (r0, rq) h0 h1 h2 h3 fi R) := by
  unfold me_1_1016 at h
  refine hX_go 0 0 [some (.ref 1016), some (.int x0)] [] (hCm b d k s w ik ex pr wd sn qu tb ts (r0, rq) h0 h1 h2 h3 fi R) rfl ?_
  refine hX_go 1 (1) [some (.ref 1016), some (.int x0)] [.ref 1016] (hCm b d k s w ik ex pr wd sn qu tb ts (r0, rq) h0 h1 h2 h3 fi R) rfl ?_
  revert h; refine gBindR fun q1 e1 h => ?_
  refine hX_call (r' := zR_3) rfl (mt_3_1016 N q1 e1) ?_
  refine hX_goM 1 (bif gCmp .eq q1 0 then 16 else 7) [some (.ref 1016), some (.int x0)] [] rfl ?_
  revert h; refine gCondR fun g2 h => ?_
  refine hX_ifF (gCmp .eq q1 0) (gNot g2) ?_
  refine hX_goM 3 (12) [some (.ref 1016), some (.int x0)] [.int x0, .ref 1036] rfl ?_
  revert h; refine gBindR fun q3 e3 h => ?_
  refine hX_call (r' := zR_5) rfl (mt_5_1036 N x0 q3 e3) ?_
  refine hX_goM 0 (15) [some (.ref 1016), some (.int x0)] [.int q3] rfl ?_
  revert h; refine gCondR fun g4 h => ?_
  have h := Option.some.inj h; subst h
  exact hX_endG (decide (vp_nar .char q3 = q3)) rfl g4 rfl rfl

/-- UpOneSide$Reader.isWord: the loop at 28 -/
def lp_38_51_1016_28 (N : Nat) (tb : Nat → Int32) (rq : hRq) : Nat → Int32 → Option (Int32)
  | 0, _ => none
  | n + 1, y2 =>
    (Option.bind (me_0_1016 N) fun q1 =>
    (bif gCmp .ge y2 q1 then
      some (1)
    else
      (bif gCmp .ge (rq.2.2.1 + y2) rq.1 then
        some (1)
      else
        (bif gIn (rq.2.2.1 + y2) 120 then (Option.bind (me_1_1016 N y2) fun q5 =>
        (bif gCmp .eq (tb (Int32.toNatClampNeg (rq.2.2.1 + y2))) q5 then
          lp_38_51_1016_28 N tb rq n (y2 + 1)
        else
          some (0))) else none))))
set_option maxRecDepth 20000 in
set_option maxHeartbeats 4000000 in
theorem lt_38_51_1016_28 {LL : Nat} {xs : Nat → Int32} {D N : Nat} {b d k s w : hB} {ik ex pr wd : Int32} {sn : Nat → Int64} {qu tb : Nat → Int32} {ts : Int32} {rq : hRq} {h0 h1 h2 h3 : hSt} {fi : Nat → Int32} {R : List gE} : ∀ (n : Nat) (y2 : Int32) (q : Int32), lp_38_51_1016_28 N tb rq n y2 = some q → hX (gO LL xs) (D + 4) zR_38 28 [some (.ref 51), some (.ref 1016), some (.int y2)] [] (hCm b d k s w ik ex pr wd sn qu tb ts (.ref 50, rq) h0 h1 h2 h3 fi R) (some (.int q)) (hCm b d k s w ik ex pr wd sn qu tb ts (.ref 50, rq) h0 h1 h2 h3 fi R) := by
  intro n
  induction n with
  | zero => intro y2 q h; cases h
  | succ n ih =>
    intro y2 q h
    rw [lp_38_51_1016_28] at h
    refine hX_go 2 (30) [some (.ref 51), some (.ref 1016), some (.int y2)] [.ref 1016, .int y2] (hCm b d k s w ik ex pr wd sn qu tb ts (.ref 50, rq) h0 h1 h2 h3 fi R) rfl ?_
    revert h; refine gBindR fun q1 e1 h => ?_
    refine hX_call (r' := zR_0) rfl (mt_0_1016 N q1 e1) ?_
    refine hX_goM 1 (bif gCmp .ge y2 q1 then 76 else 36) [some (.ref 51), some (.ref 1016), some (.int y2)] [] rfl ?_
    refine hX_if (gCmp .ge y2 q1) (fun c2 => ?_) (fun c2 => ?_)
    · skip
      have h := gcT c2 h
      refine hX_goM 1 (77) [some (.ref 51), some (.ref 1016), some (.int y2)] [.int 1] rfl ?_
      have h := Option.some.inj h; subst h
      exact hX_end rfl rfl rfl
    · skip
      have h := gcF c2 h
      refine hX_goM 7 (bif gCmp .ge (rq.2.2.1 + y2) rq.1 then 76 else 49) [some (.ref 51), some (.ref 1016), some (.int y2)] [] rfl ?_
      refine hX_if (gCmp .ge (rq.2.2.1 + y2) rq.1) (fun c3 => ?_) (fun c3 => ?_)
      · skip
        have h := gcT c3 h
        refine hX_goM 1 (77) [some (.ref 51), some (.ref 1016), some (.int y2)] [.int 1] rfl ?_
        have h := Option.some.inj h; subst h
        exact hX_end rfl rfl rfl
      · skip
        have h := gcF c3 h
        refine hX_goM 6 (59) [some (.ref 51), some (.ref 1016), some (.int y2)] [.int (rq.2.2.1 + y2), .ref 50] rfl ?_
        revert h; refine gCondR fun g4 h => ?_
        refine hX_gM (gIn (rq.2.2.1 + y2) 120) 60 [some (.ref 51), some (.ref 1016), some (.int y2)] [.int (tb (Int32.toNatClampNeg (rq.2.2.1 + y2)))] rfl g4 ?_
        refine hX_goM 2 (62) [some (.ref 51), some (.ref 1016), some (.int y2)] [.int y2, .ref 1016, .int (tb (Int32.toNatClampNeg (rq.2.2.1 + y2)))] rfl ?_
        revert h; refine gBindR fun q5 e5 h => ?_
        refine hX_call (r' := zR_1) rfl (mt_1_1016 N y2 q5 e5) ?_
        refine hX_goM 1 (bif gCmp .eq (tb (Int32.toNatClampNeg (rq.2.2.1 + y2))) q5 then 70 else 68) [some (.ref 51), some (.ref 1016), some (.int y2)] [] rfl ?_
        refine hX_if (gCmp .eq (tb (Int32.toNatClampNeg (rq.2.2.1 + y2))) q5) (fun c6 => ?_) (fun c6 => ?_)
        · skip
          have h := gcT c6 h
          refine hX_goM 2 (28) [some (.ref 51), some (.ref 1016), some (.int (y2 + 1))] [] rfl ?_
          exact ih (y2 + 1) q h
        · skip
          have h := gcF c6 h
          refine hX_goM 1 (69) [some (.ref 51), some (.ref 1016), some (.int y2)] [.int 0] rfl ?_
          have h := Option.some.inj h; subst h
          exact hX_end rfl rfl rfl

/-- UpOneSide$Reader.isWord(Ljava/lang/String;)Z -/
def me_38_51_1016 (N : Nat) (tb : Nat → Int32) (rq : hRq) : Option (Int32) :=
  (bif gCmp .ne rq.2.1 1 then
    some (0)
  else
    (Option.bind (me_0_1016 N) fun q2 =>
    (bif gCmp .eq (rq.2.2.2.1 - rq.2.2.1) q2 then
      lp_38_51_1016_28 N tb rq N 0
    else
      some (0))))
set_option maxRecDepth 20000 in
set_option maxHeartbeats 4000000 in
theorem mt_38_51_1016 {LL : Nat} {xs : Nat → Int32} {D : Nat} {b d k s w : hB} {ik ex pr wd : Int32} {sn : Nat → Int64} {qu tb : Nat → Int32} {ts : Int32} {rq : hRq} {h0 h1 h2 h3 : hSt} {fi : Nat → Int32} {R : List gE} (N : Nat) (q : Int32) (h : me_38_51_1016 N tb rq = some q) : hM (gO LL xs) (D + 4) zR_38 [.ref 51, .ref 1016] (hCm b d k s w ik ex pr wd sn qu tb ts (.ref 50, rq) h0 h1 h2 h3 fi R) (some (.int q)) (hCm b d k s w ik ex pr wd sn qu tb ts (.ref 50, rq) h0 h1 h2 h3 fi R) := by
  unfold me_38_51_1016 at h
  refine hX_go 0 0 [some (.ref 51), some (.ref 1016), none] [] (hCm b d k s w ik ex pr wd sn qu tb ts (.ref 50, rq) h0 h1 h2 h3 fi R) rfl ?_
  refine hX_go 4 (bif gCmp .ne rq.2.1 1 then 24 else 8) [some (.ref 51), some (.ref 1016), none] [] (hCm b d k s w ik ex pr wd sn qu tb ts (.ref 50, rq) h0 h1 h2 h3 fi R) rfl ?_
  refine hX_if (gCmp .ne rq.2.1 1) (fun c1 => ?_) (fun c1 => ?_)
  · skip
    have h := gcT c1 h
    refine hX_goM 1 (25) [some (.ref 51), some (.ref 1016), none] [.int 0] rfl ?_
    have h := Option.some.inj h; subst h
    exact hX_end rfl rfl rfl
  · skip
    have h := gcF c1 h
    refine hX_goM 6 (18) [some (.ref 51), some (.ref 1016), none] [.ref 1016, .int (rq.2.2.2.1 - rq.2.2.1)] rfl ?_
    revert h; refine gBindR fun q2 e2 h => ?_
    refine hX_call (r' := zR_0) rfl (mt_0_1016 N q2 e2) ?_
    refine hX_goM 1 (bif gCmp .eq (rq.2.2.2.1 - rq.2.2.1) q2 then 26 else 24) [some (.ref 51), some (.ref 1016), none] [] rfl ?_
    refine hX_if (gCmp .eq (rq.2.2.2.1 - rq.2.2.1) q2) (fun c3 => ?_) (fun c3 => ?_)
    · skip
      have h := gcT c3 h
      refine hX_goM 2 (28) [some (.ref 51), some (.ref 1016), some (.int 0)] [] rfl ?_
      exact lt_38_51_1016_28 N 0 q h
    · skip
      have h := gcF c3 h
      refine hX_goM 1 (25) [some (.ref 51), some (.ref 1016), none] [.int 0] rfl ?_
      have h := Option.some.inj h; subst h
      exact hX_end rfl rfl rfl

/-- UpOneSide$Reader.kindTold: the loop at 2 -/
def lp_36_51_2 (N : Nat) (tb : Nat → Int32) (rq : hRq) : Nat → Int32 → Option (Int32)
  | 0, _ => none
  | n + 1, y1 =>
    (bif gCmp .ge y1 7 then
      some ((-1))
    else
      (bif hEq y1 1 then
        (Option.bind (me_38_51_1010 N tb rq) fun q3 =>
        (bif gCmp .eq q3 0 then
          lp_36_51_2 N tb rq n (y1 + 1)
        else
          some (y1)))
      else
        (bif hEq y1 2 then
          (Option.bind (me_38_51_1011 N tb rq) fun q6 =>
          (bif gCmp .eq q6 0 then
            lp_36_51_2 N tb rq n (y1 + 1)
          else
            some (y1)))
        else
          (bif hEq y1 3 then
            (Option.bind (me_38_51_1012 N tb rq) fun q9 =>
            (bif gCmp .eq q9 0 then
              lp_36_51_2 N tb rq n (y1 + 1)
            else
              some (y1)))
          else
            (bif hEq y1 4 then
              (Option.bind (me_38_51_1013 N tb rq) fun q12 =>
              (bif gCmp .eq q12 0 then
                lp_36_51_2 N tb rq n (y1 + 1)
              else
                some (y1)))
            else
              (bif hEq y1 5 then
                (Option.bind (me_38_51_1014 N tb rq) fun q15 =>
                (bif gCmp .eq q15 0 then
                  lp_36_51_2 N tb rq n (y1 + 1)
                else
                  some (y1)))
              else
                (bif hEq y1 6 then
                  (Option.bind (me_38_51_1015 N tb rq) fun q18 =>
                  (bif gCmp .eq q18 0 then
                    lp_36_51_2 N tb rq n (y1 + 1)
                  else
                    some (y1)))
                else
                  (Option.bind (me_38_51_1016 N tb rq) fun q20 =>
                  (bif gCmp .eq q20 0 then
                    lp_36_51_2 N tb rq n (y1 + 1)
                  else
                    some (y1))))))))))
set_option maxRecDepth 20000 in
set_option maxHeartbeats 4000000 in
theorem lt_36_51_2 {LL : Nat} {xs : Nat → Int32} {D N : Nat} {b d k s w : hB} {ik ex pr wd : Int32} {sn : Nat → Int64} {qu tb : Nat → Int32} {ts : Int32} {rq : hRq} {h0 h1 h2 h3 : hSt} {fi : Nat → Int32} {R : List gE} : ∀ (n : Nat) (y1 : Int32) (q : Int32), lp_36_51_2 N tb rq n y1 = some q → hX (gO LL xs) (D + 5) zR_36 2 [some (.ref 51), some (.int y1)] [] (hCm b d k s w ik ex pr wd sn qu tb ts (.ref 50, rq) h0 h1 h2 h3 fi R) (some (.int q)) (hCm b d k s w ik ex pr wd sn qu tb ts (.ref 50, rq) h0 h1 h2 h3 fi R) := by
  intro n
  induction n with
  | zero => intro y1 q h; cases h
  | succ n ih =>
    intro y1 q h
    rw [lp_36_51_2] at h
    refine hX_go 3 (bif gCmp .ge y1 7 then 27 else 8) [some (.ref 51), some (.int y1)] [] (hCm b d k s w ik ex pr wd sn qu tb ts (.ref 50, rq) h0 h1 h2 h3 fi R) rfl ?_
    refine hX_if (gCmp .ge y1 7) (fun c1 => ?_) (fun c1 => ?_)
    · skip
      have h := gcT c1 h
      refine hX_goM 1 (28) [some (.ref 51), some (.int y1)] [.int (-1)] rfl ?_
      have h := Option.some.inj h; subst h
      exact hX_end rfl rfl rfl
    · skip
      have h := gcF c1 h
      refine hX_goM 2 (10) [some (.ref 51), some (.int y1)] [.int y1, .ref 51] rfl ?_
      refine hX_bif (hEq y1 1) (fun c2 => ?_) (fun c2 => ?_)
      · skip
        have h := gcT c2 h
        refine hX_call (r' := zR_37) rfl (ct_37_0 y1 c2) ?_
        refine hX_goM 0 (13) [some (.ref 51), some (.int y1)] [.ref 1010, .ref 51] rfl ?_
        revert h; refine gBindR fun q3 e3 h => ?_
        refine hX_call (r' := zR_38) rfl (mt_38_51_1010 N q3 e3) ?_
        refine hX_goM 1 (bif gCmp .eq q3 0 then 21 else 19) [some (.ref 51), some (.int y1)] [] rfl ?_
        refine hX_if (gCmp .eq q3 0) (fun c4 => ?_) (fun c4 => ?_)
        · skip
          have h := gcT c4 h
          refine hX_goM 2 (2) [some (.ref 51), some (.int (y1 + 1))] [] rfl ?_
          exact ih (y1 + 1) q h
        · skip
          have h := gcF c4 h
          refine hX_goM 1 (20) [some (.ref 51), some (.int y1)] [.int y1] rfl ?_
          have h := Option.some.inj h; subst h
          exact hX_end rfl rfl rfl
      · skip
        have h := gcF c2 h
        refine hX_bif (hEq y1 2) (fun c5 => ?_) (fun c5 => ?_)
        · skip
          have h := gcT c5 h
          refine hX_call (r' := zR_37) rfl (ct_37_1 y1 c2 c5) ?_
          refine hX_goM 0 (13) [some (.ref 51), some (.int y1)] [.ref 1011, .ref 51] rfl ?_
          revert h; refine gBindR fun q6 e6 h => ?_
          refine hX_call (r' := zR_38) rfl (mt_38_51_1011 N q6 e6) ?_
          refine hX_goM 1 (bif gCmp .eq q6 0 then 21 else 19) [some (.ref 51), some (.int y1)] [] rfl ?_
          refine hX_if (gCmp .eq q6 0) (fun c7 => ?_) (fun c7 => ?_)
          · skip
            have h := gcT c7 h
            refine hX_goM 2 (2) [some (.ref 51), some (.int (y1 + 1))] [] rfl ?_
            exact ih (y1 + 1) q h
          · skip
            have h := gcF c7 h
            refine hX_goM 1 (20) [some (.ref 51), some (.int y1)] [.int y1] rfl ?_
            have h := Option.some.inj h; subst h
            exact hX_end rfl rfl rfl
        · skip
          have h := gcF c5 h
          refine hX_bif (hEq y1 3) (fun c8 => ?_) (fun c8 => ?_)
          · skip
            have h := gcT c8 h
            refine hX_call (r' := zR_37) rfl (ct_37_2 y1 c2 c5 c8) ?_
            refine hX_goM 0 (13) [some (.ref 51), some (.int y1)] [.ref 1012, .ref 51] rfl ?_
            revert h; refine gBindR fun q9 e9 h => ?_
            refine hX_call (r' := zR_38) rfl (mt_38_51_1012 N q9 e9) ?_
            refine hX_goM 1 (bif gCmp .eq q9 0 then 21 else 19) [some (.ref 51), some (.int y1)] [] rfl ?_
            refine hX_if (gCmp .eq q9 0) (fun c10 => ?_) (fun c10 => ?_)
            · skip
              have h := gcT c10 h
              refine hX_goM 2 (2) [some (.ref 51), some (.int (y1 + 1))] [] rfl ?_
              exact ih (y1 + 1) q h
            · skip
              have h := gcF c10 h
              refine hX_goM 1 (20) [some (.ref 51), some (.int y1)] [.int y1] rfl ?_
              have h := Option.some.inj h; subst h
              exact hX_end rfl rfl rfl
          · skip
            have h := gcF c8 h
            refine hX_bif (hEq y1 4) (fun c11 => ?_) (fun c11 => ?_)
            · skip
              have h := gcT c11 h
              refine hX_call (r' := zR_37) rfl (ct_37_3 y1 c2 c5 c8 c11) ?_
              refine hX_goM 0 (13) [some (.ref 51), some (.int y1)] [.ref 1013, .ref 51] rfl ?_
              revert h; refine gBindR fun q12 e12 h => ?_
              refine hX_call (r' := zR_38) rfl (mt_38_51_1013 N q12 e12) ?_
              refine hX_goM 1 (bif gCmp .eq q12 0 then 21 else 19) [some (.ref 51), some (.int y1)] [] rfl ?_
              refine hX_if (gCmp .eq q12 0) (fun c13 => ?_) (fun c13 => ?_)
              · skip
                have h := gcT c13 h
                refine hX_goM 2 (2) [some (.ref 51), some (.int (y1 + 1))] [] rfl ?_
                exact ih (y1 + 1) q h
              · skip
                have h := gcF c13 h
                refine hX_goM 1 (20) [some (.ref 51), some (.int y1)] [.int y1] rfl ?_
                have h := Option.some.inj h; subst h
                exact hX_end rfl rfl rfl
            · skip
              have h := gcF c11 h
              refine hX_bif (hEq y1 5) (fun c14 => ?_) (fun c14 => ?_)
              · skip
                have h := gcT c14 h
                refine hX_call (r' := zR_37) rfl (ct_37_4 y1 c2 c5 c8 c11 c14) ?_
                refine hX_goM 0 (13) [some (.ref 51), some (.int y1)] [.ref 1014, .ref 51] rfl ?_
                revert h; refine gBindR fun q15 e15 h => ?_
                refine hX_call (r' := zR_38) rfl (mt_38_51_1014 N q15 e15) ?_
                refine hX_goM 1 (bif gCmp .eq q15 0 then 21 else 19) [some (.ref 51), some (.int y1)] [] rfl ?_
                refine hX_if (gCmp .eq q15 0) (fun c16 => ?_) (fun c16 => ?_)
                · skip
                  have h := gcT c16 h
                  refine hX_goM 2 (2) [some (.ref 51), some (.int (y1 + 1))] [] rfl ?_
                  exact ih (y1 + 1) q h
                · skip
                  have h := gcF c16 h
                  refine hX_goM 1 (20) [some (.ref 51), some (.int y1)] [.int y1] rfl ?_
                  have h := Option.some.inj h; subst h
                  exact hX_end rfl rfl rfl
              · skip
                have h := gcF c14 h
                refine hX_bif (hEq y1 6) (fun c17 => ?_) (fun c17 => ?_)
                · skip
                  have h := gcT c17 h
                  refine hX_call (r' := zR_37) rfl (ct_37_5 y1 c2 c5 c8 c11 c14 c17) ?_
                  refine hX_goM 0 (13) [some (.ref 51), some (.int y1)] [.ref 1015, .ref 51] rfl ?_
                  revert h; refine gBindR fun q18 e18 h => ?_
                  refine hX_call (r' := zR_38) rfl (mt_38_51_1015 N q18 e18) ?_
                  refine hX_goM 1 (bif gCmp .eq q18 0 then 21 else 19) [some (.ref 51), some (.int y1)] [] rfl ?_
                  refine hX_if (gCmp .eq q18 0) (fun c19 => ?_) (fun c19 => ?_)
                  · skip
                    have h := gcT c19 h
                    refine hX_goM 2 (2) [some (.ref 51), some (.int (y1 + 1))] [] rfl ?_
                    exact ih (y1 + 1) q h
                  · skip
                    have h := gcF c19 h
                    refine hX_goM 1 (20) [some (.ref 51), some (.int y1)] [.int y1] rfl ?_
                    have h := Option.some.inj h; subst h
                    exact hX_end rfl rfl rfl
                · skip
                  have h := gcF c17 h
                  refine hX_call (r' := zR_37) rfl (ct_37_6 y1 c2 c5 c8 c11 c14 c17) ?_
                  refine hX_goM 0 (13) [some (.ref 51), some (.int y1)] [.ref 1016, .ref 51] rfl ?_
                  revert h; refine gBindR fun q20 e20 h => ?_
                  refine hX_call (r' := zR_38) rfl (mt_38_51_1016 N q20 e20) ?_
                  refine hX_goM 1 (bif gCmp .eq q20 0 then 21 else 19) [some (.ref 51), some (.int y1)] [] rfl ?_
                  refine hX_if (gCmp .eq q20 0) (fun c21 => ?_) (fun c21 => ?_)
                  · skip
                    have h := gcT c21 h
                    refine hX_goM 2 (2) [some (.ref 51), some (.int (y1 + 1))] [] rfl ?_
                    exact ih (y1 + 1) q h
                  · skip
                    have h := gcF c21 h
                    refine hX_goM 1 (20) [some (.ref 51), some (.int y1)] [.int y1] rfl ?_
                    have h := Option.some.inj h; subst h
                    exact hX_end rfl rfl rfl

/-- UpOneSide$Reader.kindTold()I -/
def me_36_51 (N : Nat) (tb : Nat → Int32) (rq : hRq) : Option (Int32) :=
  lp_36_51_2 N tb rq N 0
set_option maxRecDepth 20000 in
set_option maxHeartbeats 4000000 in
theorem mt_36_51 {LL : Nat} {xs : Nat → Int32} {D : Nat} {b d k s w : hB} {ik ex pr wd : Int32} {sn : Nat → Int64} {qu tb : Nat → Int32} {ts : Int32} {rq : hRq} {h0 h1 h2 h3 : hSt} {fi : Nat → Int32} {R : List gE} (N : Nat) (q : Int32) (h : me_36_51 N tb rq = some q) : hM (gO LL xs) (D + 5) zR_36 [.ref 51] (hCm b d k s w ik ex pr wd sn qu tb ts (.ref 50, rq) h0 h1 h2 h3 fi R) (some (.int q)) (hCm b d k s w ik ex pr wd sn qu tb ts (.ref 50, rq) h0 h1 h2 h3 fi R) := by
  unfold me_36_51 at h
  refine hX_go 0 0 [some (.ref 51), none] [] (hCm b d k s w ik ex pr wd sn qu tb ts (.ref 50, rq) h0 h1 h2 h3 fi R) rfl ?_
  refine hX_go 2 (2) [some (.ref 51), some (.int 0)] [] (hCm b d k s w ik ex pr wd sn qu tb ts (.ref 50, rq) h0 h1 h2 h3 fi R) rfl ?_
  exact lt_36_51_2 N 0 q h


/-- java/lang/String.coder()B -/
def me_2_1019 (N : Nat) : Option (Int32) :=
  some (0)
set_option maxRecDepth 20000 in
set_option maxHeartbeats 4000000 in
theorem mt_2_1019 {LL : Nat} {xs : Nat → Int32} {D : Nat} {b d k s w : hB} {ik ex pr wd : Int32} {sn : Nat → Int64} {qu tb : Nat → Int32} {ts : Int32} {r0 : Value} {rq : hRq} {h0 h1 h2 h3 : hSt} {fi : Nat → Int32} {R : List gE} (N : Nat) (q : Int32) (h : me_2_1019 N = some q) : hM (gO LL xs) (D + 0) zR_2 [.ref 1019] (hCm b d k s w ik ex pr wd sn qu tb ts (r0, rq) h0 h1 h2 h3 fi R) (some (.int q)) (hCm b d k s w ik ex pr wd sn qu tb ts (r0, rq) h0 h1 h2 h3 fi R) := by
  unfold me_2_1019 at h
  refine hX_go 0 0 [some (.ref 1019)] [] (hCm b d k s w ik ex pr wd sn qu tb ts (r0, rq) h0 h1 h2 h3 fi R) rfl ?_
  refine hX_go 5 (14) [some (.ref 1019)] [.int 0] (hCm b d k s w ik ex pr wd sn qu tb ts (r0, rq) h0 h1 h2 h3 fi R) rfl ?_
  have h := Option.some.inj h; subst h
  exact hX_end rfl rfl rfl


/-- java/lang/String.length()I -/
def me_0_1019 (N : Nat) : Option (Int32) :=
  (Option.bind (me_2_1019 N) fun q1 =>
  some ((4 : Int32) >>> (q1 &&& 31)))
set_option maxRecDepth 20000 in
set_option maxHeartbeats 4000000 in
theorem mt_0_1019 {LL : Nat} {xs : Nat → Int32} {D : Nat} {b d k s w : hB} {ik ex pr wd : Int32} {sn : Nat → Int64} {qu tb : Nat → Int32} {ts : Int32} {r0 : Value} {rq : hRq} {h0 h1 h2 h3 : hSt} {fi : Nat → Int32} {R : List gE} (N : Nat) (q : Int32) (h : me_0_1019 N = some q) : hM (gO LL xs) (D + 1) zR_0 [.ref 1019] (hCm b d k s w ik ex pr wd sn qu tb ts (r0, rq) h0 h1 h2 h3 fi R) (some (.int q)) (hCm b d k s w ik ex pr wd sn qu tb ts (r0, rq) h0 h1 h2 h3 fi R) := by
  unfold me_0_1019 at h
  refine hX_go 0 0 [some (.ref 1019)] [] (hCm b d k s w ik ex pr wd sn qu tb ts (r0, rq) h0 h1 h2 h3 fi R) rfl ?_
  refine hX_go 4 (6) [some (.ref 1019)] [.ref 1019, .int 4] (hCm b d k s w ik ex pr wd sn qu tb ts (r0, rq) h0 h1 h2 h3 fi R) rfl ?_
  revert h; refine gBindR fun q1 e1 h => ?_
  refine hX_call (r' := zR_2) rfl (mt_2_1019 N q1 e1) ?_
  refine hX_goM 1 (10) [some (.ref 1019)] [.int ((4 : Int32) >>> (q1 &&& 31))] rfl ?_
  have h := Option.some.inj h; subst h
  exact hX_end rfl rfl rfl


/-- java/lang/String.isLatin1()Z -/
def me_3_1019 (N : Nat) : Option (Int32) :=
  some (1)
set_option maxRecDepth 20000 in
set_option maxHeartbeats 4000000 in
theorem mt_3_1019 {LL : Nat} {xs : Nat → Int32} {D : Nat} {b d k s w : hB} {ik ex pr wd : Int32} {sn : Nat → Int64} {qu tb : Nat → Int32} {ts : Int32} {r0 : Value} {rq : hRq} {h0 h1 h2 h3 : hSt} {fi : Nat → Int32} {R : List gE} (N : Nat) (q : Int32) (h : me_3_1019 N = some q) : hM (gO LL xs) (D + 0) zR_3 [.ref 1019] (hCm b d k s w ik ex pr wd sn qu tb ts (r0, rq) h0 h1 h2 h3 fi R) (some (.int q)) (hCm b d k s w ik ex pr wd sn qu tb ts (r0, rq) h0 h1 h2 h3 fi R) := by
  unfold me_3_1019 at h
  refine hX_go 0 0 [some (.ref 1019)] [] (hCm b d k s w ik ex pr wd sn qu tb ts (r0, rq) h0 h1 h2 h3 fi R) rfl ?_
  refine hX_go 7 (18) [some (.ref 1019)] [.int 1] (hCm b d k s w ik ex pr wd sn qu tb ts (r0, rq) h0 h1 h2 h3 fi R) rfl ?_
  have h := Option.some.inj h; subst h
  exact hX_end rfl rfl rfl


/-- java/lang/StringLatin1.charAt([BI)C -/
def me_5_1039 (N : Nat) (x0 : Int32) : Option (Int32) :=
  (Option.bind (me_4 N x0 4) fun q1 =>
  (bif gIn x0 4 then (bif decide (vp_nar .char (((Int32.toUInt32 (((gYf 9) (Int32.toNatClampNeg x0)) &&& 255)) % 65536).toInt32) = ((Int32.toUInt32 (((gYf 9) (Int32.toNatClampNeg x0)) &&& 255)) % 65536).toInt32) then some (((Int32.toUInt32 (((gYf 9) (Int32.toNatClampNeg x0)) &&& 255)) % 65536).toInt32) else none) else none))
set_option maxRecDepth 20000 in
set_option maxHeartbeats 4000000 in
theorem mt_5_1039 {LL : Nat} {xs : Nat → Int32} {D : Nat} {b d k s w : hB} {ik ex pr wd : Int32} {sn : Nat → Int64} {qu tb : Nat → Int32} {ts : Int32} {r0 : Value} {rq : hRq} {h0 h1 h2 h3 : hSt} {fi : Nat → Int32} {R : List gE} (N : Nat) (x0 : Int32) (q : Int32) (h : me_5_1039 N x0 = some q) : hM (gO LL xs) (D + 2) zR_5 [.ref 1039, .int x0] (hCm b d k s w ik ex pr wd sn qu tb ts (r0, rq) h0 h1 h2 h3 fi R) (some (.int q)) (hCm b d k s w ik ex pr wd sn qu tb ts (r0, rq) h0 h1 h2 h3 fi R) := by
  unfold me_5_1039 at h
  refine hX_go 0 0 [some (.ref 1039), some (.int x0)] [] (hCm b d k s w ik ex pr wd sn qu tb ts (r0, rq) h0 h1 h2 h3 fi R) rfl ?_
  refine hX_go 3 (3) [some (.ref 1039), some (.int x0)] [.int 4, .int x0] (hCm b d k s w ik ex pr wd sn qu tb ts (r0, rq) h0 h1 h2 h3 fi R) rfl ?_
  revert h; refine gBindR fun q1 e1 h => ?_
  refine hX_call (r' := zR_4) rfl (mt_4 N x0 4 q1 e1) ?_
  refine hX_goM 2 (8) [some (.ref 1039), some (.int x0)] [.int x0, .ref 1039] rfl ?_
  revert h; refine gCondR fun g2 h => ?_
  refine hX_gM (gIn x0 4) 9 [some (.ref 1039), some (.int x0)] [.int ((gYf 9) (Int32.toNatClampNeg x0))] rfl g2 ?_
  refine hX_goM 3 (14) [some (.ref 1039), some (.int x0)] [.int (((Int32.toUInt32 (((gYf 9) (Int32.toNatClampNeg x0)) &&& 255)) % 65536).toInt32)] rfl ?_
  revert h; refine gCondR fun g3 h => ?_
  have h := Option.some.inj h; subst h
  exact hX_endG (decide (vp_nar .char (((Int32.toUInt32 (((gYf 9) (Int32.toNatClampNeg x0)) &&& 255)) % 65536).toInt32) = ((Int32.toUInt32 (((gYf 9) (Int32.toNatClampNeg x0)) &&& 255)) % 65536).toInt32)) rfl g3 rfl rfl


/-- java/lang/String.charAt(I)C -/
def me_1_1019 (N : Nat) (x0 : Int32) : Option (Int32) :=
  (Option.bind (me_3_1019 N) fun q1 =>
  (bif !(gCmp .eq q1 0) then (Option.bind (me_5_1039 N x0) fun q3 =>
  (bif decide (vp_nar .char q3 = q3) then some (q3) else none)) else none))
set_option maxRecDepth 20000 in
set_option maxHeartbeats 4000000 in
theorem mt_1_1019 {LL : Nat} {xs : Nat → Int32} {D : Nat} {b d k s w : hB} {ik ex pr wd : Int32} {sn : Nat → Int64} {qu tb : Nat → Int32} {ts : Int32} {r0 : Value} {rq : hRq} {h0 h1 h2 h3 : hSt} {fi : Nat → Int32} {R : List gE} (N : Nat) (x0 : Int32) (q : Int32) (h : me_1_1019 N x0 = some q) : hM (gO LL xs) (D + 3) zR_1 [.ref 1019, .int x0] (hCm b d k s w ik ex pr wd sn qu tb ts (r0, rq) h0 h1 h2 h3 fi R) (some (.int q)) (hCm b d k s w ik ex pr wd sn qu tb ts (r0, rq) h0 h1 h2 h3 fi R) := by
  unfold me_1_1019 at h
  refine hX_go 0 0 [some (.ref 1019), some (.int x0)] [] (hCm b d k s w ik ex pr wd sn qu tb ts (r0, rq) h0 h1 h2 h3 fi R) rfl ?_
  refine hX_go 1 (1) [some (.ref 1019), some (.int x0)] [.ref 1019] (hCm b d k s w ik ex pr wd sn qu tb ts (r0, rq) h0 h1 h2 h3 fi R) rfl ?_
  revert h; refine gBindR fun q1 e1 h => ?_
  refine hX_call (r' := zR_3) rfl (mt_3_1019 N q1 e1) ?_
  refine hX_goM 1 (bif gCmp .eq q1 0 then 16 else 7) [some (.ref 1019), some (.int x0)] [] rfl ?_
  revert h; refine gCondR fun g2 h => ?_
  refine hX_ifF (gCmp .eq q1 0) (gNot g2) ?_
  refine hX_goM 3 (12) [some (.ref 1019), some (.int x0)] [.int x0, .ref 1039] rfl ?_
  revert h; refine gBindR fun q3 e3 h => ?_
  refine hX_call (r' := zR_5) rfl (mt_5_1039 N x0 q3 e3) ?_
  refine hX_goM 0 (15) [some (.ref 1019), some (.int x0)] [.int q3] rfl ?_
  revert h; refine gCondR fun g4 h => ?_
  have h := Option.some.inj h; subst h
  exact hX_endG (decide (vp_nar .char q3 = q3)) rfl g4 rfl rfl

/-- UpOneSide$Reader.isWord: the loop at 28 -/
def lp_38_51_1019_28 (N : Nat) (tb : Nat → Int32) (rq : hRq) : Nat → Int32 → Option (Int32)
  | 0, _ => none
  | n + 1, y2 =>
    (Option.bind (me_0_1019 N) fun q1 =>
    (bif gCmp .ge y2 q1 then
      some (1)
    else
      (bif gCmp .ge (rq.2.2.1 + y2) rq.1 then
        some (1)
      else
        (bif gIn (rq.2.2.1 + y2) 120 then (Option.bind (me_1_1019 N y2) fun q5 =>
        (bif gCmp .eq (tb (Int32.toNatClampNeg (rq.2.2.1 + y2))) q5 then
          lp_38_51_1019_28 N tb rq n (y2 + 1)
        else
          some (0))) else none))))
set_option maxRecDepth 20000 in
set_option maxHeartbeats 4000000 in
theorem lt_38_51_1019_28 {LL : Nat} {xs : Nat → Int32} {D N : Nat} {b d k s w : hB} {ik ex pr wd : Int32} {sn : Nat → Int64} {qu tb : Nat → Int32} {ts : Int32} {rq : hRq} {h0 h1 h2 h3 : hSt} {fi : Nat → Int32} {R : List gE} : ∀ (n : Nat) (y2 : Int32) (q : Int32), lp_38_51_1019_28 N tb rq n y2 = some q → hX (gO LL xs) (D + 4) zR_38 28 [some (.ref 51), some (.ref 1019), some (.int y2)] [] (hCm b d k s w ik ex pr wd sn qu tb ts (.ref 50, rq) h0 h1 h2 h3 fi R) (some (.int q)) (hCm b d k s w ik ex pr wd sn qu tb ts (.ref 50, rq) h0 h1 h2 h3 fi R) := by
  intro n
  induction n with
  | zero => intro y2 q h; cases h
  | succ n ih =>
    intro y2 q h
    rw [lp_38_51_1019_28] at h
    refine hX_go 2 (30) [some (.ref 51), some (.ref 1019), some (.int y2)] [.ref 1019, .int y2] (hCm b d k s w ik ex pr wd sn qu tb ts (.ref 50, rq) h0 h1 h2 h3 fi R) rfl ?_
    revert h; refine gBindR fun q1 e1 h => ?_
    refine hX_call (r' := zR_0) rfl (mt_0_1019 N q1 e1) ?_
    refine hX_goM 1 (bif gCmp .ge y2 q1 then 76 else 36) [some (.ref 51), some (.ref 1019), some (.int y2)] [] rfl ?_
    refine hX_if (gCmp .ge y2 q1) (fun c2 => ?_) (fun c2 => ?_)
    · skip
      have h := gcT c2 h
      refine hX_goM 1 (77) [some (.ref 51), some (.ref 1019), some (.int y2)] [.int 1] rfl ?_
      have h := Option.some.inj h; subst h
      exact hX_end rfl rfl rfl
    · skip
      have h := gcF c2 h
      refine hX_goM 7 (bif gCmp .ge (rq.2.2.1 + y2) rq.1 then 76 else 49) [some (.ref 51), some (.ref 1019), some (.int y2)] [] rfl ?_
      refine hX_if (gCmp .ge (rq.2.2.1 + y2) rq.1) (fun c3 => ?_) (fun c3 => ?_)
      · skip
        have h := gcT c3 h
        refine hX_goM 1 (77) [some (.ref 51), some (.ref 1019), some (.int y2)] [.int 1] rfl ?_
        have h := Option.some.inj h; subst h
        exact hX_end rfl rfl rfl
      · skip
        have h := gcF c3 h
        refine hX_goM 6 (59) [some (.ref 51), some (.ref 1019), some (.int y2)] [.int (rq.2.2.1 + y2), .ref 50] rfl ?_
        revert h; refine gCondR fun g4 h => ?_
        refine hX_gM (gIn (rq.2.2.1 + y2) 120) 60 [some (.ref 51), some (.ref 1019), some (.int y2)] [.int (tb (Int32.toNatClampNeg (rq.2.2.1 + y2)))] rfl g4 ?_
        refine hX_goM 2 (62) [some (.ref 51), some (.ref 1019), some (.int y2)] [.int y2, .ref 1019, .int (tb (Int32.toNatClampNeg (rq.2.2.1 + y2)))] rfl ?_
        revert h; refine gBindR fun q5 e5 h => ?_
        refine hX_call (r' := zR_1) rfl (mt_1_1019 N y2 q5 e5) ?_
        refine hX_goM 1 (bif gCmp .eq (tb (Int32.toNatClampNeg (rq.2.2.1 + y2))) q5 then 70 else 68) [some (.ref 51), some (.ref 1019), some (.int y2)] [] rfl ?_
        refine hX_if (gCmp .eq (tb (Int32.toNatClampNeg (rq.2.2.1 + y2))) q5) (fun c6 => ?_) (fun c6 => ?_)
        · skip
          have h := gcT c6 h
          refine hX_goM 2 (28) [some (.ref 51), some (.ref 1019), some (.int (y2 + 1))] [] rfl ?_
          exact ih (y2 + 1) q h
        · skip
          have h := gcF c6 h
          refine hX_goM 1 (69) [some (.ref 51), some (.ref 1019), some (.int y2)] [.int 0] rfl ?_
          have h := Option.some.inj h; subst h
          exact hX_end rfl rfl rfl

/-- UpOneSide$Reader.isWord(Ljava/lang/String;)Z -/
def me_38_51_1019 (N : Nat) (tb : Nat → Int32) (rq : hRq) : Option (Int32) :=
  (bif gCmp .ne rq.2.1 1 then
    some (0)
  else
    (Option.bind (me_0_1019 N) fun q2 =>
    (bif gCmp .eq (rq.2.2.2.1 - rq.2.2.1) q2 then
      lp_38_51_1019_28 N tb rq N 0
    else
      some (0))))
set_option maxRecDepth 20000 in
set_option maxHeartbeats 4000000 in
theorem mt_38_51_1019 {LL : Nat} {xs : Nat → Int32} {D : Nat} {b d k s w : hB} {ik ex pr wd : Int32} {sn : Nat → Int64} {qu tb : Nat → Int32} {ts : Int32} {rq : hRq} {h0 h1 h2 h3 : hSt} {fi : Nat → Int32} {R : List gE} (N : Nat) (q : Int32) (h : me_38_51_1019 N tb rq = some q) : hM (gO LL xs) (D + 4) zR_38 [.ref 51, .ref 1019] (hCm b d k s w ik ex pr wd sn qu tb ts (.ref 50, rq) h0 h1 h2 h3 fi R) (some (.int q)) (hCm b d k s w ik ex pr wd sn qu tb ts (.ref 50, rq) h0 h1 h2 h3 fi R) := by
  unfold me_38_51_1019 at h
  refine hX_go 0 0 [some (.ref 51), some (.ref 1019), none] [] (hCm b d k s w ik ex pr wd sn qu tb ts (.ref 50, rq) h0 h1 h2 h3 fi R) rfl ?_
  refine hX_go 4 (bif gCmp .ne rq.2.1 1 then 24 else 8) [some (.ref 51), some (.ref 1019), none] [] (hCm b d k s w ik ex pr wd sn qu tb ts (.ref 50, rq) h0 h1 h2 h3 fi R) rfl ?_
  refine hX_if (gCmp .ne rq.2.1 1) (fun c1 => ?_) (fun c1 => ?_)
  · skip
    have h := gcT c1 h
    refine hX_goM 1 (25) [some (.ref 51), some (.ref 1019), none] [.int 0] rfl ?_
    have h := Option.some.inj h; subst h
    exact hX_end rfl rfl rfl
  · skip
    have h := gcF c1 h
    refine hX_goM 6 (18) [some (.ref 51), some (.ref 1019), none] [.ref 1019, .int (rq.2.2.2.1 - rq.2.2.1)] rfl ?_
    revert h; refine gBindR fun q2 e2 h => ?_
    refine hX_call (r' := zR_0) rfl (mt_0_1019 N q2 e2) ?_
    refine hX_goM 1 (bif gCmp .eq (rq.2.2.2.1 - rq.2.2.1) q2 then 26 else 24) [some (.ref 51), some (.ref 1019), none] [] rfl ?_
    refine hX_if (gCmp .eq (rq.2.2.2.1 - rq.2.2.1) q2) (fun c3 => ?_) (fun c3 => ?_)
    · skip
      have h := gcT c3 h
      refine hX_goM 2 (28) [some (.ref 51), some (.ref 1019), some (.int 0)] [] rfl ?_
      exact lt_38_51_1019_28 N 0 q h
    · skip
      have h := gcF c3 h
      refine hX_goM 1 (25) [some (.ref 51), some (.ref 1019), none] [.int 0] rfl ?_
      have h := Option.some.inj h; subst h
      exact hX_end rfl rfl rfl


/-- java/lang/String.coder()B -/
def me_2_1020 (N : Nat) : Option (Int32) :=
  some (0)
set_option maxRecDepth 20000 in
set_option maxHeartbeats 4000000 in
theorem mt_2_1020 {LL : Nat} {xs : Nat → Int32} {D : Nat} {b d k s w : hB} {ik ex pr wd : Int32} {sn : Nat → Int64} {qu tb : Nat → Int32} {ts : Int32} {r0 : Value} {rq : hRq} {h0 h1 h2 h3 : hSt} {fi : Nat → Int32} {R : List gE} (N : Nat) (q : Int32) (h : me_2_1020 N = some q) : hM (gO LL xs) (D + 0) zR_2 [.ref 1020] (hCm b d k s w ik ex pr wd sn qu tb ts (r0, rq) h0 h1 h2 h3 fi R) (some (.int q)) (hCm b d k s w ik ex pr wd sn qu tb ts (r0, rq) h0 h1 h2 h3 fi R) := by
  unfold me_2_1020 at h
  refine hX_go 0 0 [some (.ref 1020)] [] (hCm b d k s w ik ex pr wd sn qu tb ts (r0, rq) h0 h1 h2 h3 fi R) rfl ?_
  refine hX_go 5 (14) [some (.ref 1020)] [.int 0] (hCm b d k s w ik ex pr wd sn qu tb ts (r0, rq) h0 h1 h2 h3 fi R) rfl ?_
  have h := Option.some.inj h; subst h
  exact hX_end rfl rfl rfl


/-- java/lang/String.length()I -/
def me_0_1020 (N : Nat) : Option (Int32) :=
  (Option.bind (me_2_1020 N) fun q1 =>
  some ((4 : Int32) >>> (q1 &&& 31)))
set_option maxRecDepth 20000 in
set_option maxHeartbeats 4000000 in
theorem mt_0_1020 {LL : Nat} {xs : Nat → Int32} {D : Nat} {b d k s w : hB} {ik ex pr wd : Int32} {sn : Nat → Int64} {qu tb : Nat → Int32} {ts : Int32} {r0 : Value} {rq : hRq} {h0 h1 h2 h3 : hSt} {fi : Nat → Int32} {R : List gE} (N : Nat) (q : Int32) (h : me_0_1020 N = some q) : hM (gO LL xs) (D + 1) zR_0 [.ref 1020] (hCm b d k s w ik ex pr wd sn qu tb ts (r0, rq) h0 h1 h2 h3 fi R) (some (.int q)) (hCm b d k s w ik ex pr wd sn qu tb ts (r0, rq) h0 h1 h2 h3 fi R) := by
  unfold me_0_1020 at h
  refine hX_go 0 0 [some (.ref 1020)] [] (hCm b d k s w ik ex pr wd sn qu tb ts (r0, rq) h0 h1 h2 h3 fi R) rfl ?_
  refine hX_go 4 (6) [some (.ref 1020)] [.ref 1020, .int 4] (hCm b d k s w ik ex pr wd sn qu tb ts (r0, rq) h0 h1 h2 h3 fi R) rfl ?_
  revert h; refine gBindR fun q1 e1 h => ?_
  refine hX_call (r' := zR_2) rfl (mt_2_1020 N q1 e1) ?_
  refine hX_goM 1 (10) [some (.ref 1020)] [.int ((4 : Int32) >>> (q1 &&& 31))] rfl ?_
  have h := Option.some.inj h; subst h
  exact hX_end rfl rfl rfl


/-- java/lang/String.isLatin1()Z -/
def me_3_1020 (N : Nat) : Option (Int32) :=
  some (1)
set_option maxRecDepth 20000 in
set_option maxHeartbeats 4000000 in
theorem mt_3_1020 {LL : Nat} {xs : Nat → Int32} {D : Nat} {b d k s w : hB} {ik ex pr wd : Int32} {sn : Nat → Int64} {qu tb : Nat → Int32} {ts : Int32} {r0 : Value} {rq : hRq} {h0 h1 h2 h3 : hSt} {fi : Nat → Int32} {R : List gE} (N : Nat) (q : Int32) (h : me_3_1020 N = some q) : hM (gO LL xs) (D + 0) zR_3 [.ref 1020] (hCm b d k s w ik ex pr wd sn qu tb ts (r0, rq) h0 h1 h2 h3 fi R) (some (.int q)) (hCm b d k s w ik ex pr wd sn qu tb ts (r0, rq) h0 h1 h2 h3 fi R) := by
  unfold me_3_1020 at h
  refine hX_go 0 0 [some (.ref 1020)] [] (hCm b d k s w ik ex pr wd sn qu tb ts (r0, rq) h0 h1 h2 h3 fi R) rfl ?_
  refine hX_go 7 (18) [some (.ref 1020)] [.int 1] (hCm b d k s w ik ex pr wd sn qu tb ts (r0, rq) h0 h1 h2 h3 fi R) rfl ?_
  have h := Option.some.inj h; subst h
  exact hX_end rfl rfl rfl


/-- java/lang/StringLatin1.charAt([BI)C -/
def me_5_1040 (N : Nat) (x0 : Int32) : Option (Int32) :=
  (Option.bind (me_4 N x0 4) fun q1 =>
  (bif gIn x0 4 then (bif decide (vp_nar .char (((Int32.toUInt32 (((gYf 10) (Int32.toNatClampNeg x0)) &&& 255)) % 65536).toInt32) = ((Int32.toUInt32 (((gYf 10) (Int32.toNatClampNeg x0)) &&& 255)) % 65536).toInt32) then some (((Int32.toUInt32 (((gYf 10) (Int32.toNatClampNeg x0)) &&& 255)) % 65536).toInt32) else none) else none))
set_option maxRecDepth 20000 in
set_option maxHeartbeats 4000000 in
theorem mt_5_1040 {LL : Nat} {xs : Nat → Int32} {D : Nat} {b d k s w : hB} {ik ex pr wd : Int32} {sn : Nat → Int64} {qu tb : Nat → Int32} {ts : Int32} {r0 : Value} {rq : hRq} {h0 h1 h2 h3 : hSt} {fi : Nat → Int32} {R : List gE} (N : Nat) (x0 : Int32) (q : Int32) (h : me_5_1040 N x0 = some q) : hM (gO LL xs) (D + 2) zR_5 [.ref 1040, .int x0] (hCm b d k s w ik ex pr wd sn qu tb ts (r0, rq) h0 h1 h2 h3 fi R) (some (.int q)) (hCm b d k s w ik ex pr wd sn qu tb ts (r0, rq) h0 h1 h2 h3 fi R) := by
  unfold me_5_1040 at h
  refine hX_go 0 0 [some (.ref 1040), some (.int x0)] [] (hCm b d k s w ik ex pr wd sn qu tb ts (r0, rq) h0 h1 h2 h3 fi R) rfl ?_
  refine hX_go 3 (3) [some (.ref 1040), some (.int x0)] [.int 4, .int x0] (hCm b d k s w ik ex pr wd sn qu tb ts (r0, rq) h0 h1 h2 h3 fi R) rfl ?_
  revert h; refine gBindR fun q1 e1 h => ?_
  refine hX_call (r' := zR_4) rfl (mt_4 N x0 4 q1 e1) ?_
  refine hX_goM 2 (8) [some (.ref 1040), some (.int x0)] [.int x0, .ref 1040] rfl ?_
  revert h; refine gCondR fun g2 h => ?_
  refine hX_gM (gIn x0 4) 9 [some (.ref 1040), some (.int x0)] [.int ((gYf 10) (Int32.toNatClampNeg x0))] rfl g2 ?_
  refine hX_goM 3 (14) [some (.ref 1040), some (.int x0)] [.int (((Int32.toUInt32 (((gYf 10) (Int32.toNatClampNeg x0)) &&& 255)) % 65536).toInt32)] rfl ?_
  revert h; refine gCondR fun g3 h => ?_
  have h := Option.some.inj h; subst h
  exact hX_endG (decide (vp_nar .char (((Int32.toUInt32 (((gYf 10) (Int32.toNatClampNeg x0)) &&& 255)) % 65536).toInt32) = ((Int32.toUInt32 (((gYf 10) (Int32.toNatClampNeg x0)) &&& 255)) % 65536).toInt32)) rfl g3 rfl rfl


/-- java/lang/String.charAt(I)C -/
def me_1_1020 (N : Nat) (x0 : Int32) : Option (Int32) :=
  (Option.bind (me_3_1020 N) fun q1 =>
  (bif !(gCmp .eq q1 0) then (Option.bind (me_5_1040 N x0) fun q3 =>
  (bif decide (vp_nar .char q3 = q3) then some (q3) else none)) else none))
set_option maxRecDepth 20000 in
set_option maxHeartbeats 4000000 in
theorem mt_1_1020 {LL : Nat} {xs : Nat → Int32} {D : Nat} {b d k s w : hB} {ik ex pr wd : Int32} {sn : Nat → Int64} {qu tb : Nat → Int32} {ts : Int32} {r0 : Value} {rq : hRq} {h0 h1 h2 h3 : hSt} {fi : Nat → Int32} {R : List gE} (N : Nat) (x0 : Int32) (q : Int32) (h : me_1_1020 N x0 = some q) : hM (gO LL xs) (D + 3) zR_1 [.ref 1020, .int x0] (hCm b d k s w ik ex pr wd sn qu tb ts (r0, rq) h0 h1 h2 h3 fi R) (some (.int q)) (hCm b d k s w ik ex pr wd sn qu tb ts (r0, rq) h0 h1 h2 h3 fi R) := by
  unfold me_1_1020 at h
  refine hX_go 0 0 [some (.ref 1020), some (.int x0)] [] (hCm b d k s w ik ex pr wd sn qu tb ts (r0, rq) h0 h1 h2 h3 fi R) rfl ?_
  refine hX_go 1 (1) [some (.ref 1020), some (.int x0)] [.ref 1020] (hCm b d k s w ik ex pr wd sn qu tb ts (r0, rq) h0 h1 h2 h3 fi R) rfl ?_
  revert h; refine gBindR fun q1 e1 h => ?_
  refine hX_call (r' := zR_3) rfl (mt_3_1020 N q1 e1) ?_
  refine hX_goM 1 (bif gCmp .eq q1 0 then 16 else 7) [some (.ref 1020), some (.int x0)] [] rfl ?_
  revert h; refine gCondR fun g2 h => ?_
  refine hX_ifF (gCmp .eq q1 0) (gNot g2) ?_
  refine hX_goM 3 (12) [some (.ref 1020), some (.int x0)] [.int x0, .ref 1040] rfl ?_
  revert h; refine gBindR fun q3 e3 h => ?_
  refine hX_call (r' := zR_5) rfl (mt_5_1040 N x0 q3 e3) ?_
  refine hX_goM 0 (15) [some (.ref 1020), some (.int x0)] [.int q3] rfl ?_
  revert h; refine gCondR fun g4 h => ?_
  have h := Option.some.inj h; subst h
  exact hX_endG (decide (vp_nar .char q3 = q3)) rfl g4 rfl rfl

/-- UpOneSide$Reader.isWord: the loop at 28 -/
def lp_38_51_1020_28 (N : Nat) (tb : Nat → Int32) (rq : hRq) : Nat → Int32 → Option (Int32)
  | 0, _ => none
  | n + 1, y2 =>
    (Option.bind (me_0_1020 N) fun q1 =>
    (bif gCmp .ge y2 q1 then
      some (1)
    else
      (bif gCmp .ge (rq.2.2.1 + y2) rq.1 then
        some (1)
      else
        (bif gIn (rq.2.2.1 + y2) 120 then (Option.bind (me_1_1020 N y2) fun q5 =>
        (bif gCmp .eq (tb (Int32.toNatClampNeg (rq.2.2.1 + y2))) q5 then
          lp_38_51_1020_28 N tb rq n (y2 + 1)
        else
          some (0))) else none))))
set_option maxRecDepth 20000 in
set_option maxHeartbeats 4000000 in
theorem lt_38_51_1020_28 {LL : Nat} {xs : Nat → Int32} {D N : Nat} {b d k s w : hB} {ik ex pr wd : Int32} {sn : Nat → Int64} {qu tb : Nat → Int32} {ts : Int32} {rq : hRq} {h0 h1 h2 h3 : hSt} {fi : Nat → Int32} {R : List gE} : ∀ (n : Nat) (y2 : Int32) (q : Int32), lp_38_51_1020_28 N tb rq n y2 = some q → hX (gO LL xs) (D + 4) zR_38 28 [some (.ref 51), some (.ref 1020), some (.int y2)] [] (hCm b d k s w ik ex pr wd sn qu tb ts (.ref 50, rq) h0 h1 h2 h3 fi R) (some (.int q)) (hCm b d k s w ik ex pr wd sn qu tb ts (.ref 50, rq) h0 h1 h2 h3 fi R) := by
  intro n
  induction n with
  | zero => intro y2 q h; cases h
  | succ n ih =>
    intro y2 q h
    rw [lp_38_51_1020_28] at h
    refine hX_go 2 (30) [some (.ref 51), some (.ref 1020), some (.int y2)] [.ref 1020, .int y2] (hCm b d k s w ik ex pr wd sn qu tb ts (.ref 50, rq) h0 h1 h2 h3 fi R) rfl ?_
    revert h; refine gBindR fun q1 e1 h => ?_
    refine hX_call (r' := zR_0) rfl (mt_0_1020 N q1 e1) ?_
    refine hX_goM 1 (bif gCmp .ge y2 q1 then 76 else 36) [some (.ref 51), some (.ref 1020), some (.int y2)] [] rfl ?_
    refine hX_if (gCmp .ge y2 q1) (fun c2 => ?_) (fun c2 => ?_)
    · skip
      have h := gcT c2 h
      refine hX_goM 1 (77) [some (.ref 51), some (.ref 1020), some (.int y2)] [.int 1] rfl ?_
      have h := Option.some.inj h; subst h
      exact hX_end rfl rfl rfl
    · skip
      have h := gcF c2 h
      refine hX_goM 7 (bif gCmp .ge (rq.2.2.1 + y2) rq.1 then 76 else 49) [some (.ref 51), some (.ref 1020), some (.int y2)] [] rfl ?_
      refine hX_if (gCmp .ge (rq.2.2.1 + y2) rq.1) (fun c3 => ?_) (fun c3 => ?_)
      · skip
        have h := gcT c3 h
        refine hX_goM 1 (77) [some (.ref 51), some (.ref 1020), some (.int y2)] [.int 1] rfl ?_
        have h := Option.some.inj h; subst h
        exact hX_end rfl rfl rfl
      · skip
        have h := gcF c3 h
        refine hX_goM 6 (59) [some (.ref 51), some (.ref 1020), some (.int y2)] [.int (rq.2.2.1 + y2), .ref 50] rfl ?_
        revert h; refine gCondR fun g4 h => ?_
        refine hX_gM (gIn (rq.2.2.1 + y2) 120) 60 [some (.ref 51), some (.ref 1020), some (.int y2)] [.int (tb (Int32.toNatClampNeg (rq.2.2.1 + y2)))] rfl g4 ?_
        refine hX_goM 2 (62) [some (.ref 51), some (.ref 1020), some (.int y2)] [.int y2, .ref 1020, .int (tb (Int32.toNatClampNeg (rq.2.2.1 + y2)))] rfl ?_
        revert h; refine gBindR fun q5 e5 h => ?_
        refine hX_call (r' := zR_1) rfl (mt_1_1020 N y2 q5 e5) ?_
        refine hX_goM 1 (bif gCmp .eq (tb (Int32.toNatClampNeg (rq.2.2.1 + y2))) q5 then 70 else 68) [some (.ref 51), some (.ref 1020), some (.int y2)] [] rfl ?_
        refine hX_if (gCmp .eq (tb (Int32.toNatClampNeg (rq.2.2.1 + y2))) q5) (fun c6 => ?_) (fun c6 => ?_)
        · skip
          have h := gcT c6 h
          refine hX_goM 2 (28) [some (.ref 51), some (.ref 1020), some (.int (y2 + 1))] [] rfl ?_
          exact ih (y2 + 1) q h
        · skip
          have h := gcF c6 h
          refine hX_goM 1 (69) [some (.ref 51), some (.ref 1020), some (.int y2)] [.int 0] rfl ?_
          have h := Option.some.inj h; subst h
          exact hX_end rfl rfl rfl

/-- UpOneSide$Reader.isWord(Ljava/lang/String;)Z -/
def me_38_51_1020 (N : Nat) (tb : Nat → Int32) (rq : hRq) : Option (Int32) :=
  (bif gCmp .ne rq.2.1 1 then
    some (0)
  else
    (Option.bind (me_0_1020 N) fun q2 =>
    (bif gCmp .eq (rq.2.2.2.1 - rq.2.2.1) q2 then
      lp_38_51_1020_28 N tb rq N 0
    else
      some (0))))
set_option maxRecDepth 20000 in
set_option maxHeartbeats 4000000 in
theorem mt_38_51_1020 {LL : Nat} {xs : Nat → Int32} {D : Nat} {b d k s w : hB} {ik ex pr wd : Int32} {sn : Nat → Int64} {qu tb : Nat → Int32} {ts : Int32} {rq : hRq} {h0 h1 h2 h3 : hSt} {fi : Nat → Int32} {R : List gE} (N : Nat) (q : Int32) (h : me_38_51_1020 N tb rq = some q) : hM (gO LL xs) (D + 4) zR_38 [.ref 51, .ref 1020] (hCm b d k s w ik ex pr wd sn qu tb ts (.ref 50, rq) h0 h1 h2 h3 fi R) (some (.int q)) (hCm b d k s w ik ex pr wd sn qu tb ts (.ref 50, rq) h0 h1 h2 h3 fi R) := by
  unfold me_38_51_1020 at h
  refine hX_go 0 0 [some (.ref 51), some (.ref 1020), none] [] (hCm b d k s w ik ex pr wd sn qu tb ts (.ref 50, rq) h0 h1 h2 h3 fi R) rfl ?_
  refine hX_go 4 (bif gCmp .ne rq.2.1 1 then 24 else 8) [some (.ref 51), some (.ref 1020), none] [] (hCm b d k s w ik ex pr wd sn qu tb ts (.ref 50, rq) h0 h1 h2 h3 fi R) rfl ?_
  refine hX_if (gCmp .ne rq.2.1 1) (fun c1 => ?_) (fun c1 => ?_)
  · skip
    have h := gcT c1 h
    refine hX_goM 1 (25) [some (.ref 51), some (.ref 1020), none] [.int 0] rfl ?_
    have h := Option.some.inj h; subst h
    exact hX_end rfl rfl rfl
  · skip
    have h := gcF c1 h
    refine hX_goM 6 (18) [some (.ref 51), some (.ref 1020), none] [.ref 1020, .int (rq.2.2.2.1 - rq.2.2.1)] rfl ?_
    revert h; refine gBindR fun q2 e2 h => ?_
    refine hX_call (r' := zR_0) rfl (mt_0_1020 N q2 e2) ?_
    refine hX_goM 1 (bif gCmp .eq (rq.2.2.2.1 - rq.2.2.1) q2 then 26 else 24) [some (.ref 51), some (.ref 1020), none] [] rfl ?_
    refine hX_if (gCmp .eq (rq.2.2.2.1 - rq.2.2.1) q2) (fun c3 => ?_) (fun c3 => ?_)
    · skip
      have h := gcT c3 h
      refine hX_goM 2 (28) [some (.ref 51), some (.ref 1020), some (.int 0)] [] rfl ?_
      exact lt_38_51_1020_28 N 0 q h
    · skip
      have h := gcF c3 h
      refine hX_goM 1 (25) [some (.ref 51), some (.ref 1020), none] [.int 0] rfl ?_
      have h := Option.some.inj h; subst h
      exact hX_end rfl rfl rfl


/-- java/lang/String.coder()B -/
def me_2_1021 (N : Nat) : Option (Int32) :=
  some (0)
set_option maxRecDepth 20000 in
set_option maxHeartbeats 4000000 in
theorem mt_2_1021 {LL : Nat} {xs : Nat → Int32} {D : Nat} {b d k s w : hB} {ik ex pr wd : Int32} {sn : Nat → Int64} {qu tb : Nat → Int32} {ts : Int32} {r0 : Value} {rq : hRq} {h0 h1 h2 h3 : hSt} {fi : Nat → Int32} {R : List gE} (N : Nat) (q : Int32) (h : me_2_1021 N = some q) : hM (gO LL xs) (D + 0) zR_2 [.ref 1021] (hCm b d k s w ik ex pr wd sn qu tb ts (r0, rq) h0 h1 h2 h3 fi R) (some (.int q)) (hCm b d k s w ik ex pr wd sn qu tb ts (r0, rq) h0 h1 h2 h3 fi R) := by
  unfold me_2_1021 at h
  refine hX_go 0 0 [some (.ref 1021)] [] (hCm b d k s w ik ex pr wd sn qu tb ts (r0, rq) h0 h1 h2 h3 fi R) rfl ?_
  refine hX_go 5 (14) [some (.ref 1021)] [.int 0] (hCm b d k s w ik ex pr wd sn qu tb ts (r0, rq) h0 h1 h2 h3 fi R) rfl ?_
  have h := Option.some.inj h; subst h
  exact hX_end rfl rfl rfl


/-- java/lang/String.length()I -/
def me_0_1021 (N : Nat) : Option (Int32) :=
  (Option.bind (me_2_1021 N) fun q1 =>
  some ((4 : Int32) >>> (q1 &&& 31)))
set_option maxRecDepth 20000 in
set_option maxHeartbeats 4000000 in
theorem mt_0_1021 {LL : Nat} {xs : Nat → Int32} {D : Nat} {b d k s w : hB} {ik ex pr wd : Int32} {sn : Nat → Int64} {qu tb : Nat → Int32} {ts : Int32} {r0 : Value} {rq : hRq} {h0 h1 h2 h3 : hSt} {fi : Nat → Int32} {R : List gE} (N : Nat) (q : Int32) (h : me_0_1021 N = some q) : hM (gO LL xs) (D + 1) zR_0 [.ref 1021] (hCm b d k s w ik ex pr wd sn qu tb ts (r0, rq) h0 h1 h2 h3 fi R) (some (.int q)) (hCm b d k s w ik ex pr wd sn qu tb ts (r0, rq) h0 h1 h2 h3 fi R) := by
  unfold me_0_1021 at h
  refine hX_go 0 0 [some (.ref 1021)] [] (hCm b d k s w ik ex pr wd sn qu tb ts (r0, rq) h0 h1 h2 h3 fi R) rfl ?_
  refine hX_go 4 (6) [some (.ref 1021)] [.ref 1021, .int 4] (hCm b d k s w ik ex pr wd sn qu tb ts (r0, rq) h0 h1 h2 h3 fi R) rfl ?_
  revert h; refine gBindR fun q1 e1 h => ?_
  refine hX_call (r' := zR_2) rfl (mt_2_1021 N q1 e1) ?_
  refine hX_goM 1 (10) [some (.ref 1021)] [.int ((4 : Int32) >>> (q1 &&& 31))] rfl ?_
  have h := Option.some.inj h; subst h
  exact hX_end rfl rfl rfl


/-- java/lang/String.isLatin1()Z -/
def me_3_1021 (N : Nat) : Option (Int32) :=
  some (1)
set_option maxRecDepth 20000 in
set_option maxHeartbeats 4000000 in
theorem mt_3_1021 {LL : Nat} {xs : Nat → Int32} {D : Nat} {b d k s w : hB} {ik ex pr wd : Int32} {sn : Nat → Int64} {qu tb : Nat → Int32} {ts : Int32} {r0 : Value} {rq : hRq} {h0 h1 h2 h3 : hSt} {fi : Nat → Int32} {R : List gE} (N : Nat) (q : Int32) (h : me_3_1021 N = some q) : hM (gO LL xs) (D + 0) zR_3 [.ref 1021] (hCm b d k s w ik ex pr wd sn qu tb ts (r0, rq) h0 h1 h2 h3 fi R) (some (.int q)) (hCm b d k s w ik ex pr wd sn qu tb ts (r0, rq) h0 h1 h2 h3 fi R) := by
  unfold me_3_1021 at h
  refine hX_go 0 0 [some (.ref 1021)] [] (hCm b d k s w ik ex pr wd sn qu tb ts (r0, rq) h0 h1 h2 h3 fi R) rfl ?_
  refine hX_go 7 (18) [some (.ref 1021)] [.int 1] (hCm b d k s w ik ex pr wd sn qu tb ts (r0, rq) h0 h1 h2 h3 fi R) rfl ?_
  have h := Option.some.inj h; subst h
  exact hX_end rfl rfl rfl


/-- java/lang/StringLatin1.charAt([BI)C -/
def me_5_1041 (N : Nat) (x0 : Int32) : Option (Int32) :=
  (Option.bind (me_4 N x0 4) fun q1 =>
  (bif gIn x0 4 then (bif decide (vp_nar .char (((Int32.toUInt32 (((gYf 11) (Int32.toNatClampNeg x0)) &&& 255)) % 65536).toInt32) = ((Int32.toUInt32 (((gYf 11) (Int32.toNatClampNeg x0)) &&& 255)) % 65536).toInt32) then some (((Int32.toUInt32 (((gYf 11) (Int32.toNatClampNeg x0)) &&& 255)) % 65536).toInt32) else none) else none))
set_option maxRecDepth 20000 in
set_option maxHeartbeats 4000000 in
theorem mt_5_1041 {LL : Nat} {xs : Nat → Int32} {D : Nat} {b d k s w : hB} {ik ex pr wd : Int32} {sn : Nat → Int64} {qu tb : Nat → Int32} {ts : Int32} {r0 : Value} {rq : hRq} {h0 h1 h2 h3 : hSt} {fi : Nat → Int32} {R : List gE} (N : Nat) (x0 : Int32) (q : Int32) (h : me_5_1041 N x0 = some q) : hM (gO LL xs) (D + 2) zR_5 [.ref 1041, .int x0] (hCm b d k s w ik ex pr wd sn qu tb ts (r0, rq) h0 h1 h2 h3 fi R) (some (.int q)) (hCm b d k s w ik ex pr wd sn qu tb ts (r0, rq) h0 h1 h2 h3 fi R) := by
  unfold me_5_1041 at h
  refine hX_go 0 0 [some (.ref 1041), some (.int x0)] [] (hCm b d k s w ik ex pr wd sn qu tb ts (r0, rq) h0 h1 h2 h3 fi R) rfl ?_
  refine hX_go 3 (3) [some (.ref 1041), some (.int x0)] [.int 4, .int x0] (hCm b d k s w ik ex pr wd sn qu tb ts (r0, rq) h0 h1 h2 h3 fi R) rfl ?_
  revert h; refine gBindR fun q1 e1 h => ?_
  refine hX_call (r' := zR_4) rfl (mt_4 N x0 4 q1 e1) ?_
  refine hX_goM 2 (8) [some (.ref 1041), some (.int x0)] [.int x0, .ref 1041] rfl ?_
  revert h; refine gCondR fun g2 h => ?_
  refine hX_gM (gIn x0 4) 9 [some (.ref 1041), some (.int x0)] [.int ((gYf 11) (Int32.toNatClampNeg x0))] rfl g2 ?_
  refine hX_goM 3 (14) [some (.ref 1041), some (.int x0)] [.int (((Int32.toUInt32 (((gYf 11) (Int32.toNatClampNeg x0)) &&& 255)) % 65536).toInt32)] rfl ?_
  revert h; refine gCondR fun g3 h => ?_
  have h := Option.some.inj h; subst h
  exact hX_endG (decide (vp_nar .char (((Int32.toUInt32 (((gYf 11) (Int32.toNatClampNeg x0)) &&& 255)) % 65536).toInt32) = ((Int32.toUInt32 (((gYf 11) (Int32.toNatClampNeg x0)) &&& 255)) % 65536).toInt32)) rfl g3 rfl rfl


/-- java/lang/String.charAt(I)C -/
def me_1_1021 (N : Nat) (x0 : Int32) : Option (Int32) :=
  (Option.bind (me_3_1021 N) fun q1 =>
  (bif !(gCmp .eq q1 0) then (Option.bind (me_5_1041 N x0) fun q3 =>
  (bif decide (vp_nar .char q3 = q3) then some (q3) else none)) else none))
set_option maxRecDepth 20000 in
set_option maxHeartbeats 4000000 in
theorem mt_1_1021 {LL : Nat} {xs : Nat → Int32} {D : Nat} {b d k s w : hB} {ik ex pr wd : Int32} {sn : Nat → Int64} {qu tb : Nat → Int32} {ts : Int32} {r0 : Value} {rq : hRq} {h0 h1 h2 h3 : hSt} {fi : Nat → Int32} {R : List gE} (N : Nat) (x0 : Int32) (q : Int32) (h : me_1_1021 N x0 = some q) : hM (gO LL xs) (D + 3) zR_1 [.ref 1021, .int x0] (hCm b d k s w ik ex pr wd sn qu tb ts (r0, rq) h0 h1 h2 h3 fi R) (some (.int q)) (hCm b d k s w ik ex pr wd sn qu tb ts (r0, rq) h0 h1 h2 h3 fi R) := by
  unfold me_1_1021 at h
  refine hX_go 0 0 [some (.ref 1021), some (.int x0)] [] (hCm b d k s w ik ex pr wd sn qu tb ts (r0, rq) h0 h1 h2 h3 fi R) rfl ?_
  refine hX_go 1 (1) [some (.ref 1021), some (.int x0)] [.ref 1021] (hCm b d k s w ik ex pr wd sn qu tb ts (r0, rq) h0 h1 h2 h3 fi R) rfl ?_
  revert h; refine gBindR fun q1 e1 h => ?_
  refine hX_call (r' := zR_3) rfl (mt_3_1021 N q1 e1) ?_
  refine hX_goM 1 (bif gCmp .eq q1 0 then 16 else 7) [some (.ref 1021), some (.int x0)] [] rfl ?_
  revert h; refine gCondR fun g2 h => ?_
  refine hX_ifF (gCmp .eq q1 0) (gNot g2) ?_
  refine hX_goM 3 (12) [some (.ref 1021), some (.int x0)] [.int x0, .ref 1041] rfl ?_
  revert h; refine gBindR fun q3 e3 h => ?_
  refine hX_call (r' := zR_5) rfl (mt_5_1041 N x0 q3 e3) ?_
  refine hX_goM 0 (15) [some (.ref 1021), some (.int x0)] [.int q3] rfl ?_
  revert h; refine gCondR fun g4 h => ?_
  have h := Option.some.inj h; subst h
  exact hX_endG (decide (vp_nar .char q3 = q3)) rfl g4 rfl rfl

/-- UpOneSide$Reader.isWord: the loop at 28 -/
def lp_38_51_1021_28 (N : Nat) (tb : Nat → Int32) (rq : hRq) : Nat → Int32 → Option (Int32)
  | 0, _ => none
  | n + 1, y2 =>
    (Option.bind (me_0_1021 N) fun q1 =>
    (bif gCmp .ge y2 q1 then
      some (1)
    else
      (bif gCmp .ge (rq.2.2.1 + y2) rq.1 then
        some (1)
      else
        (bif gIn (rq.2.2.1 + y2) 120 then (Option.bind (me_1_1021 N y2) fun q5 =>
        (bif gCmp .eq (tb (Int32.toNatClampNeg (rq.2.2.1 + y2))) q5 then
          lp_38_51_1021_28 N tb rq n (y2 + 1)
        else
          some (0))) else none))))
set_option maxRecDepth 20000 in
set_option maxHeartbeats 4000000 in
theorem lt_38_51_1021_28 {LL : Nat} {xs : Nat → Int32} {D N : Nat} {b d k s w : hB} {ik ex pr wd : Int32} {sn : Nat → Int64} {qu tb : Nat → Int32} {ts : Int32} {rq : hRq} {h0 h1 h2 h3 : hSt} {fi : Nat → Int32} {R : List gE} : ∀ (n : Nat) (y2 : Int32) (q : Int32), lp_38_51_1021_28 N tb rq n y2 = some q → hX (gO LL xs) (D + 4) zR_38 28 [some (.ref 51), some (.ref 1021), some (.int y2)] [] (hCm b d k s w ik ex pr wd sn qu tb ts (.ref 50, rq) h0 h1 h2 h3 fi R) (some (.int q)) (hCm b d k s w ik ex pr wd sn qu tb ts (.ref 50, rq) h0 h1 h2 h3 fi R) := by
  intro n
  induction n with
  | zero => intro y2 q h; cases h
  | succ n ih =>
    intro y2 q h
    rw [lp_38_51_1021_28] at h
    refine hX_go 2 (30) [some (.ref 51), some (.ref 1021), some (.int y2)] [.ref 1021, .int y2] (hCm b d k s w ik ex pr wd sn qu tb ts (.ref 50, rq) h0 h1 h2 h3 fi R) rfl ?_
    revert h; refine gBindR fun q1 e1 h => ?_
    refine hX_call (r' := zR_0) rfl (mt_0_1021 N q1 e1) ?_
    refine hX_goM 1 (bif gCmp .ge y2 q1 then 76 else 36) [some (.ref 51), some (.ref 1021), some (.int y2)] [] rfl ?_
    refine hX_if (gCmp .ge y2 q1) (fun c2 => ?_) (fun c2 => ?_)
    · skip
      have h := gcT c2 h
      refine hX_goM 1 (77) [some (.ref 51), some (.ref 1021), some (.int y2)] [.int 1] rfl ?_
      have h := Option.some.inj h; subst h
      exact hX_end rfl rfl rfl
    · skip
      have h := gcF c2 h
      refine hX_goM 7 (bif gCmp .ge (rq.2.2.1 + y2) rq.1 then 76 else 49) [some (.ref 51), some (.ref 1021), some (.int y2)] [] rfl ?_
      refine hX_if (gCmp .ge (rq.2.2.1 + y2) rq.1) (fun c3 => ?_) (fun c3 => ?_)
      · skip
        have h := gcT c3 h
        refine hX_goM 1 (77) [some (.ref 51), some (.ref 1021), some (.int y2)] [.int 1] rfl ?_
        have h := Option.some.inj h; subst h
        exact hX_end rfl rfl rfl
      · skip
        have h := gcF c3 h
        refine hX_goM 6 (59) [some (.ref 51), some (.ref 1021), some (.int y2)] [.int (rq.2.2.1 + y2), .ref 50] rfl ?_
        revert h; refine gCondR fun g4 h => ?_
        refine hX_gM (gIn (rq.2.2.1 + y2) 120) 60 [some (.ref 51), some (.ref 1021), some (.int y2)] [.int (tb (Int32.toNatClampNeg (rq.2.2.1 + y2)))] rfl g4 ?_
        refine hX_goM 2 (62) [some (.ref 51), some (.ref 1021), some (.int y2)] [.int y2, .ref 1021, .int (tb (Int32.toNatClampNeg (rq.2.2.1 + y2)))] rfl ?_
        revert h; refine gBindR fun q5 e5 h => ?_
        refine hX_call (r' := zR_1) rfl (mt_1_1021 N y2 q5 e5) ?_
        refine hX_goM 1 (bif gCmp .eq (tb (Int32.toNatClampNeg (rq.2.2.1 + y2))) q5 then 70 else 68) [some (.ref 51), some (.ref 1021), some (.int y2)] [] rfl ?_
        refine hX_if (gCmp .eq (tb (Int32.toNatClampNeg (rq.2.2.1 + y2))) q5) (fun c6 => ?_) (fun c6 => ?_)
        · skip
          have h := gcT c6 h
          refine hX_goM 2 (28) [some (.ref 51), some (.ref 1021), some (.int (y2 + 1))] [] rfl ?_
          exact ih (y2 + 1) q h
        · skip
          have h := gcF c6 h
          refine hX_goM 1 (69) [some (.ref 51), some (.ref 1021), some (.int y2)] [.int 0] rfl ?_
          have h := Option.some.inj h; subst h
          exact hX_end rfl rfl rfl

/-- UpOneSide$Reader.isWord(Ljava/lang/String;)Z -/
def me_38_51_1021 (N : Nat) (tb : Nat → Int32) (rq : hRq) : Option (Int32) :=
  (bif gCmp .ne rq.2.1 1 then
    some (0)
  else
    (Option.bind (me_0_1021 N) fun q2 =>
    (bif gCmp .eq (rq.2.2.2.1 - rq.2.2.1) q2 then
      lp_38_51_1021_28 N tb rq N 0
    else
      some (0))))
set_option maxRecDepth 20000 in
set_option maxHeartbeats 4000000 in
theorem mt_38_51_1021 {LL : Nat} {xs : Nat → Int32} {D : Nat} {b d k s w : hB} {ik ex pr wd : Int32} {sn : Nat → Int64} {qu tb : Nat → Int32} {ts : Int32} {rq : hRq} {h0 h1 h2 h3 : hSt} {fi : Nat → Int32} {R : List gE} (N : Nat) (q : Int32) (h : me_38_51_1021 N tb rq = some q) : hM (gO LL xs) (D + 4) zR_38 [.ref 51, .ref 1021] (hCm b d k s w ik ex pr wd sn qu tb ts (.ref 50, rq) h0 h1 h2 h3 fi R) (some (.int q)) (hCm b d k s w ik ex pr wd sn qu tb ts (.ref 50, rq) h0 h1 h2 h3 fi R) := by
  unfold me_38_51_1021 at h
  refine hX_go 0 0 [some (.ref 51), some (.ref 1021), none] [] (hCm b d k s w ik ex pr wd sn qu tb ts (.ref 50, rq) h0 h1 h2 h3 fi R) rfl ?_
  refine hX_go 4 (bif gCmp .ne rq.2.1 1 then 24 else 8) [some (.ref 51), some (.ref 1021), none] [] (hCm b d k s w ik ex pr wd sn qu tb ts (.ref 50, rq) h0 h1 h2 h3 fi R) rfl ?_
  refine hX_if (gCmp .ne rq.2.1 1) (fun c1 => ?_) (fun c1 => ?_)
  · skip
    have h := gcT c1 h
    refine hX_goM 1 (25) [some (.ref 51), some (.ref 1021), none] [.int 0] rfl ?_
    have h := Option.some.inj h; subst h
    exact hX_end rfl rfl rfl
  · skip
    have h := gcF c1 h
    refine hX_goM 6 (18) [some (.ref 51), some (.ref 1021), none] [.ref 1021, .int (rq.2.2.2.1 - rq.2.2.1)] rfl ?_
    revert h; refine gBindR fun q2 e2 h => ?_
    refine hX_call (r' := zR_0) rfl (mt_0_1021 N q2 e2) ?_
    refine hX_goM 1 (bif gCmp .eq (rq.2.2.2.1 - rq.2.2.1) q2 then 26 else 24) [some (.ref 51), some (.ref 1021), none] [] rfl ?_
    refine hX_if (gCmp .eq (rq.2.2.2.1 - rq.2.2.1) q2) (fun c3 => ?_) (fun c3 => ?_)
    · skip
      have h := gcT c3 h
      refine hX_goM 2 (28) [some (.ref 51), some (.ref 1021), some (.int 0)] [] rfl ?_
      exact lt_38_51_1021_28 N 0 q h
    · skip
      have h := gcF c3 h
      refine hX_goM 1 (25) [some (.ref 51), some (.ref 1021), none] [.int 0] rfl ?_
      have h := Option.some.inj h; subst h
      exact hX_end rfl rfl rfl


/-- java/lang/String.coder()B -/
def me_2_1022 (N : Nat) : Option (Int32) :=
  some (0)
set_option maxRecDepth 20000 in
set_option maxHeartbeats 4000000 in
theorem mt_2_1022 {LL : Nat} {xs : Nat → Int32} {D : Nat} {b d k s w : hB} {ik ex pr wd : Int32} {sn : Nat → Int64} {qu tb : Nat → Int32} {ts : Int32} {r0 : Value} {rq : hRq} {h0 h1 h2 h3 : hSt} {fi : Nat → Int32} {R : List gE} (N : Nat) (q : Int32) (h : me_2_1022 N = some q) : hM (gO LL xs) (D + 0) zR_2 [.ref 1022] (hCm b d k s w ik ex pr wd sn qu tb ts (r0, rq) h0 h1 h2 h3 fi R) (some (.int q)) (hCm b d k s w ik ex pr wd sn qu tb ts (r0, rq) h0 h1 h2 h3 fi R) := by
  unfold me_2_1022 at h
  refine hX_go 0 0 [some (.ref 1022)] [] (hCm b d k s w ik ex pr wd sn qu tb ts (r0, rq) h0 h1 h2 h3 fi R) rfl ?_
  refine hX_go 5 (14) [some (.ref 1022)] [.int 0] (hCm b d k s w ik ex pr wd sn qu tb ts (r0, rq) h0 h1 h2 h3 fi R) rfl ?_
  have h := Option.some.inj h; subst h
  exact hX_end rfl rfl rfl


/-- java/lang/String.length()I -/
def me_0_1022 (N : Nat) : Option (Int32) :=
  (Option.bind (me_2_1022 N) fun q1 =>
  some ((7 : Int32) >>> (q1 &&& 31)))
set_option maxRecDepth 20000 in
set_option maxHeartbeats 4000000 in
theorem mt_0_1022 {LL : Nat} {xs : Nat → Int32} {D : Nat} {b d k s w : hB} {ik ex pr wd : Int32} {sn : Nat → Int64} {qu tb : Nat → Int32} {ts : Int32} {r0 : Value} {rq : hRq} {h0 h1 h2 h3 : hSt} {fi : Nat → Int32} {R : List gE} (N : Nat) (q : Int32) (h : me_0_1022 N = some q) : hM (gO LL xs) (D + 1) zR_0 [.ref 1022] (hCm b d k s w ik ex pr wd sn qu tb ts (r0, rq) h0 h1 h2 h3 fi R) (some (.int q)) (hCm b d k s w ik ex pr wd sn qu tb ts (r0, rq) h0 h1 h2 h3 fi R) := by
  unfold me_0_1022 at h
  refine hX_go 0 0 [some (.ref 1022)] [] (hCm b d k s w ik ex pr wd sn qu tb ts (r0, rq) h0 h1 h2 h3 fi R) rfl ?_
  refine hX_go 4 (6) [some (.ref 1022)] [.ref 1022, .int 7] (hCm b d k s w ik ex pr wd sn qu tb ts (r0, rq) h0 h1 h2 h3 fi R) rfl ?_
  revert h; refine gBindR fun q1 e1 h => ?_
  refine hX_call (r' := zR_2) rfl (mt_2_1022 N q1 e1) ?_
  refine hX_goM 1 (10) [some (.ref 1022)] [.int ((7 : Int32) >>> (q1 &&& 31))] rfl ?_
  have h := Option.some.inj h; subst h
  exact hX_end rfl rfl rfl


/-- java/lang/String.isLatin1()Z -/
def me_3_1022 (N : Nat) : Option (Int32) :=
  some (1)
set_option maxRecDepth 20000 in
set_option maxHeartbeats 4000000 in
theorem mt_3_1022 {LL : Nat} {xs : Nat → Int32} {D : Nat} {b d k s w : hB} {ik ex pr wd : Int32} {sn : Nat → Int64} {qu tb : Nat → Int32} {ts : Int32} {r0 : Value} {rq : hRq} {h0 h1 h2 h3 : hSt} {fi : Nat → Int32} {R : List gE} (N : Nat) (q : Int32) (h : me_3_1022 N = some q) : hM (gO LL xs) (D + 0) zR_3 [.ref 1022] (hCm b d k s w ik ex pr wd sn qu tb ts (r0, rq) h0 h1 h2 h3 fi R) (some (.int q)) (hCm b d k s w ik ex pr wd sn qu tb ts (r0, rq) h0 h1 h2 h3 fi R) := by
  unfold me_3_1022 at h
  refine hX_go 0 0 [some (.ref 1022)] [] (hCm b d k s w ik ex pr wd sn qu tb ts (r0, rq) h0 h1 h2 h3 fi R) rfl ?_
  refine hX_go 7 (18) [some (.ref 1022)] [.int 1] (hCm b d k s w ik ex pr wd sn qu tb ts (r0, rq) h0 h1 h2 h3 fi R) rfl ?_
  have h := Option.some.inj h; subst h
  exact hX_end rfl rfl rfl


/-- java/lang/StringLatin1.charAt([BI)C -/
def me_5_1042 (N : Nat) (x0 : Int32) : Option (Int32) :=
  (Option.bind (me_4 N x0 7) fun q1 =>
  (bif gIn x0 7 then (bif decide (vp_nar .char (((Int32.toUInt32 (((gYf 12) (Int32.toNatClampNeg x0)) &&& 255)) % 65536).toInt32) = ((Int32.toUInt32 (((gYf 12) (Int32.toNatClampNeg x0)) &&& 255)) % 65536).toInt32) then some (((Int32.toUInt32 (((gYf 12) (Int32.toNatClampNeg x0)) &&& 255)) % 65536).toInt32) else none) else none))
set_option maxRecDepth 20000 in
set_option maxHeartbeats 4000000 in
theorem mt_5_1042 {LL : Nat} {xs : Nat → Int32} {D : Nat} {b d k s w : hB} {ik ex pr wd : Int32} {sn : Nat → Int64} {qu tb : Nat → Int32} {ts : Int32} {r0 : Value} {rq : hRq} {h0 h1 h2 h3 : hSt} {fi : Nat → Int32} {R : List gE} (N : Nat) (x0 : Int32) (q : Int32) (h : me_5_1042 N x0 = some q) : hM (gO LL xs) (D + 2) zR_5 [.ref 1042, .int x0] (hCm b d k s w ik ex pr wd sn qu tb ts (r0, rq) h0 h1 h2 h3 fi R) (some (.int q)) (hCm b d k s w ik ex pr wd sn qu tb ts (r0, rq) h0 h1 h2 h3 fi R) := by
  unfold me_5_1042 at h
  refine hX_go 0 0 [some (.ref 1042), some (.int x0)] [] (hCm b d k s w ik ex pr wd sn qu tb ts (r0, rq) h0 h1 h2 h3 fi R) rfl ?_
  refine hX_go 3 (3) [some (.ref 1042), some (.int x0)] [.int 7, .int x0] (hCm b d k s w ik ex pr wd sn qu tb ts (r0, rq) h0 h1 h2 h3 fi R) rfl ?_
  revert h; refine gBindR fun q1 e1 h => ?_
  refine hX_call (r' := zR_4) rfl (mt_4 N x0 7 q1 e1) ?_
  refine hX_goM 2 (8) [some (.ref 1042), some (.int x0)] [.int x0, .ref 1042] rfl ?_
  revert h; refine gCondR fun g2 h => ?_
  refine hX_gM (gIn x0 7) 9 [some (.ref 1042), some (.int x0)] [.int ((gYf 12) (Int32.toNatClampNeg x0))] rfl g2 ?_
  refine hX_goM 3 (14) [some (.ref 1042), some (.int x0)] [.int (((Int32.toUInt32 (((gYf 12) (Int32.toNatClampNeg x0)) &&& 255)) % 65536).toInt32)] rfl ?_
  revert h; refine gCondR fun g3 h => ?_
  have h := Option.some.inj h; subst h
  exact hX_endG (decide (vp_nar .char (((Int32.toUInt32 (((gYf 12) (Int32.toNatClampNeg x0)) &&& 255)) % 65536).toInt32) = ((Int32.toUInt32 (((gYf 12) (Int32.toNatClampNeg x0)) &&& 255)) % 65536).toInt32)) rfl g3 rfl rfl


/-- java/lang/String.charAt(I)C -/
def me_1_1022 (N : Nat) (x0 : Int32) : Option (Int32) :=
  (Option.bind (me_3_1022 N) fun q1 =>
  (bif !(gCmp .eq q1 0) then (Option.bind (me_5_1042 N x0) fun q3 =>
  (bif decide (vp_nar .char q3 = q3) then some (q3) else none)) else none))
set_option maxRecDepth 20000 in
set_option maxHeartbeats 4000000 in
theorem mt_1_1022 {LL : Nat} {xs : Nat → Int32} {D : Nat} {b d k s w : hB} {ik ex pr wd : Int32} {sn : Nat → Int64} {qu tb : Nat → Int32} {ts : Int32} {r0 : Value} {rq : hRq} {h0 h1 h2 h3 : hSt} {fi : Nat → Int32} {R : List gE} (N : Nat) (x0 : Int32) (q : Int32) (h : me_1_1022 N x0 = some q) : hM (gO LL xs) (D + 3) zR_1 [.ref 1022, .int x0] (hCm b d k s w ik ex pr wd sn qu tb ts (r0, rq) h0 h1 h2 h3 fi R) (some (.int q)) (hCm b d k s w ik ex pr wd sn qu tb ts (r0, rq) h0 h1 h2 h3 fi R) := by
  unfold me_1_1022 at h
  refine hX_go 0 0 [some (.ref 1022), some (.int x0)] [] (hCm b d k s w ik ex pr wd sn qu tb ts (r0, rq) h0 h1 h2 h3 fi R) rfl ?_
  refine hX_go 1 (1) [some (.ref 1022), some (.int x0)] [.ref 1022] (hCm b d k s w ik ex pr wd sn qu tb ts (r0, rq) h0 h1 h2 h3 fi R) rfl ?_
  revert h; refine gBindR fun q1 e1 h => ?_
  refine hX_call (r' := zR_3) rfl (mt_3_1022 N q1 e1) ?_
  refine hX_goM 1 (bif gCmp .eq q1 0 then 16 else 7) [some (.ref 1022), some (.int x0)] [] rfl ?_
  revert h; refine gCondR fun g2 h => ?_
  refine hX_ifF (gCmp .eq q1 0) (gNot g2) ?_
  refine hX_goM 3 (12) [some (.ref 1022), some (.int x0)] [.int x0, .ref 1042] rfl ?_
  revert h; refine gBindR fun q3 e3 h => ?_
  refine hX_call (r' := zR_5) rfl (mt_5_1042 N x0 q3 e3) ?_
  refine hX_goM 0 (15) [some (.ref 1022), some (.int x0)] [.int q3] rfl ?_
  revert h; refine gCondR fun g4 h => ?_
  have h := Option.some.inj h; subst h
  exact hX_endG (decide (vp_nar .char q3 = q3)) rfl g4 rfl rfl

/-- UpOneSide$Reader.isWord: the loop at 28 -/
def lp_38_51_1022_28 (N : Nat) (tb : Nat → Int32) (rq : hRq) : Nat → Int32 → Option (Int32)
  | 0, _ => none
  | n + 1, y2 =>
    (Option.bind (me_0_1022 N) fun q1 =>
    (bif gCmp .ge y2 q1 then
      some (1)
    else
      (bif gCmp .ge (rq.2.2.1 + y2) rq.1 then
        some (1)
      else
        (bif gIn (rq.2.2.1 + y2) 120 then (Option.bind (me_1_1022 N y2) fun q5 =>
        (bif gCmp .eq (tb (Int32.toNatClampNeg (rq.2.2.1 + y2))) q5 then
          lp_38_51_1022_28 N tb rq n (y2 + 1)
        else
          some (0))) else none))))
set_option maxRecDepth 20000 in
set_option maxHeartbeats 4000000 in
theorem lt_38_51_1022_28 {LL : Nat} {xs : Nat → Int32} {D N : Nat} {b d k s w : hB} {ik ex pr wd : Int32} {sn : Nat → Int64} {qu tb : Nat → Int32} {ts : Int32} {rq : hRq} {h0 h1 h2 h3 : hSt} {fi : Nat → Int32} {R : List gE} : ∀ (n : Nat) (y2 : Int32) (q : Int32), lp_38_51_1022_28 N tb rq n y2 = some q → hX (gO LL xs) (D + 4) zR_38 28 [some (.ref 51), some (.ref 1022), some (.int y2)] [] (hCm b d k s w ik ex pr wd sn qu tb ts (.ref 50, rq) h0 h1 h2 h3 fi R) (some (.int q)) (hCm b d k s w ik ex pr wd sn qu tb ts (.ref 50, rq) h0 h1 h2 h3 fi R) := by
  intro n
  induction n with
  | zero => intro y2 q h; cases h
  | succ n ih =>
    intro y2 q h
    rw [lp_38_51_1022_28] at h
    refine hX_go 2 (30) [some (.ref 51), some (.ref 1022), some (.int y2)] [.ref 1022, .int y2] (hCm b d k s w ik ex pr wd sn qu tb ts (.ref 50, rq) h0 h1 h2 h3 fi R) rfl ?_
    revert h; refine gBindR fun q1 e1 h => ?_
    refine hX_call (r' := zR_0) rfl (mt_0_1022 N q1 e1) ?_
    refine hX_goM 1 (bif gCmp .ge y2 q1 then 76 else 36) [some (.ref 51), some (.ref 1022), some (.int y2)] [] rfl ?_
    refine hX_if (gCmp .ge y2 q1) (fun c2 => ?_) (fun c2 => ?_)
    · skip
      have h := gcT c2 h
      refine hX_goM 1 (77) [some (.ref 51), some (.ref 1022), some (.int y2)] [.int 1] rfl ?_
      have h := Option.some.inj h; subst h
      exact hX_end rfl rfl rfl
    · skip
      have h := gcF c2 h
      refine hX_goM 7 (bif gCmp .ge (rq.2.2.1 + y2) rq.1 then 76 else 49) [some (.ref 51), some (.ref 1022), some (.int y2)] [] rfl ?_
      refine hX_if (gCmp .ge (rq.2.2.1 + y2) rq.1) (fun c3 => ?_) (fun c3 => ?_)
      · skip
        have h := gcT c3 h
        refine hX_goM 1 (77) [some (.ref 51), some (.ref 1022), some (.int y2)] [.int 1] rfl ?_
        have h := Option.some.inj h; subst h
        exact hX_end rfl rfl rfl
      · skip
        have h := gcF c3 h
        refine hX_goM 6 (59) [some (.ref 51), some (.ref 1022), some (.int y2)] [.int (rq.2.2.1 + y2), .ref 50] rfl ?_
        revert h; refine gCondR fun g4 h => ?_
        refine hX_gM (gIn (rq.2.2.1 + y2) 120) 60 [some (.ref 51), some (.ref 1022), some (.int y2)] [.int (tb (Int32.toNatClampNeg (rq.2.2.1 + y2)))] rfl g4 ?_
        refine hX_goM 2 (62) [some (.ref 51), some (.ref 1022), some (.int y2)] [.int y2, .ref 1022, .int (tb (Int32.toNatClampNeg (rq.2.2.1 + y2)))] rfl ?_
        revert h; refine gBindR fun q5 e5 h => ?_
        refine hX_call (r' := zR_1) rfl (mt_1_1022 N y2 q5 e5) ?_
        refine hX_goM 1 (bif gCmp .eq (tb (Int32.toNatClampNeg (rq.2.2.1 + y2))) q5 then 70 else 68) [some (.ref 51), some (.ref 1022), some (.int y2)] [] rfl ?_
        refine hX_if (gCmp .eq (tb (Int32.toNatClampNeg (rq.2.2.1 + y2))) q5) (fun c6 => ?_) (fun c6 => ?_)
        · skip
          have h := gcT c6 h
          refine hX_goM 2 (28) [some (.ref 51), some (.ref 1022), some (.int (y2 + 1))] [] rfl ?_
          exact ih (y2 + 1) q h
        · skip
          have h := gcF c6 h
          refine hX_goM 1 (69) [some (.ref 51), some (.ref 1022), some (.int y2)] [.int 0] rfl ?_
          have h := Option.some.inj h; subst h
          exact hX_end rfl rfl rfl
