/-- UpOneSide.judge(I)I -/
def me_105_0 (N : Nat) (x0 : Int32) (b : hB) (d : hB) (h0 : hSt) (h1 : hSt) (h2 : hSt) (h3 : hSt) (fi : Nat → Int32) : Option (Int32 × hB × (Nat → Int32)) :=
  (bif gCmp .lt x0 0 then
    some (v_111_0 0, d, f_111_0_fi 0 fi)
  else
    (bif gCmp .lt x0 4 then
      (bif hEq x0 0 then
        (bif gCmp .eq (v_53_55 h0) 0 then
          lp_105_0_51_55 N b h0 fi N (v_15_10 (f_10_10_1_d b d)) 0 (f_10_10_1_d b d)
        else
          some (v_111_0 5, d, f_111_0_fi 5 fi))
      else
        (bif hEq x0 1 then
          (bif gCmp .eq (v_53_57 h1) 0 then
            lp_105_0_51_57 N b h1 fi N (v_15_10 (f_10_10_1_d b d)) 0 (f_10_10_1_d b d)
          else
            some (v_111_0 5, d, f_111_0_fi 5 fi))
        else
          (bif hEq x0 2 then
            (bif gCmp .eq (v_53_59 h2) 0 then
              lp_105_0_51_59 N b h2 fi N (v_15_10 (f_10_10_1_d b d)) 0 (f_10_10_1_d b d)
            else
              some (v_111_0 5, d, f_111_0_fi 5 fi))
          else
            (bif gCmp .eq (v_53_61 h3) 0 then
              lp_105_0_51_61 N b h3 fi N (v_15_10 (f_10_10_1_d b d)) 0 (f_10_10_1_d b d)
            else
              some (v_111_0 5, d, f_111_0_fi 5 fi)))))
    else
      some (v_111_0 0, d, f_111_0_fi 0 fi)))
set_option maxRecDepth 20000 in
set_option maxHeartbeats 4000000 in
theorem mt_105_0 {LL : Nat} {xs : Nat → Int32} {D : Nat} {b d k s w : hB} {ik ex pr wd : Int32} {sn : Nat → Int64} {qu tb : Nat → Int32} {ts : Int32} {r0 : Value} {rq : hRq} {h0 h1 h2 h3 : hSt} {fi : Nat → Int32} {R : List gE} (N : Nat) (x0 : Int32) (q : Int32 × hB × (Nat → Int32)) (h : me_105_0 N x0 b d h0 h1 h2 h3 fi = some q) : hM (gO LL xs) (D + 2) zR_105 [.ref 0, .int x0] (hCm b d k s w ik ex pr wd sn qu tb ts (r0, rq) h0 h1 h2 h3 fi R) (some (.int q.1)) (hCm b q.2.1 k s w ik ex pr wd sn qu tb ts (r0, rq) h0 h1 h2 h3 q.2.2 R) := by
  unfold me_105_0 at h
  refine hX_go 0 0 [some (.ref 0), some (.int x0), none, none, none, none] [] (hCm b d k s w ik ex pr wd sn qu tb ts (r0, rq) h0 h1 h2 h3 fi R) rfl ?_
  refine hX_go 2 (2) [some (.ref 0), some (.int x0), none, none, none, none] [.int x0, .ref 0] (hCm b d k s w ik ex pr wd sn qu tb ts (r0, rq) h0 h1 h2 h3 fi R) rfl ?_
  refine hX_bif (gCmp .lt x0 0) (fun c1 => ?_) (fun c1 => ?_)
  · skip
    have h := gcT c1 h
    refine hX_call (r' := zR_114) rfl (ct_114_0_0 x0 c1) ?_
    refine hX_goM 5 (12) [some (.ref 0), some (.int x0), some (.null), none, none, none] [.int 0, .ref 0] rfl ?_
    refine hX_call (r' := zR_111) rfl (ct_111_0 0 rfl) ?_
    refine hX_go 0 (15) [some (.ref 0), some (.int x0), some (.null), none, none, none] [.int (v_111_0 0)] (hCm b d k s w ik ex pr wd sn qu tb ts (r0, rq) h0 h1 h2 h3 (f_111_0_fi 0 fi) R) rfl ?_
    have h := Option.some.inj h; subst h
    exact hX_end rfl rfl rfl
  · skip
    have h := gcF c1 h
    refine hX_bif (gCmp .lt x0 4) (fun c2 => ?_) (fun c2 => ?_)
    · skip
      have h := gcT c2 h
      refine hX_bif (hEq x0 0) (fun c3 => ?_) (fun c3 => ?_)
      · skip
        have h := gcT c3 h
        refine hX_call (r' := zR_114) rfl (ct_114_0_2 x0 c1 c2 c3) ?_
        refine hX_goM 4 (17) [some (.ref 0), some (.int x0), some (.ref 55), none, none, none] [.ref 55] rfl ?_
        refine hX_call (r' := zR_53) rfl (ct_53_55) ?_
        refine hX_goM 1 (bif gCmp .eq (v_53_55 h0) 0 then 29 else 23) [some (.ref 0), some (.int x0), some (.ref 55), none, none, none] [] rfl ?_
        refine hX_if (gCmp .eq (v_53_55 h0) 0) (fun c4 => ?_) (fun c4 => ?_)
        · skip
          have h := gcT c4 h
          refine hX_goM 4 (37) [some (.ref 0), some (.int x0), some (.ref 55), none, none, none] [.ref 1, .ref 10] rfl ?_
          refine hX_call (r' := zR_10) rfl (ct_10_10_1) ?_
          refine hX_go 2 (44) [some (.ref 0), some (.int x0), some (.ref 55), none, none, none] [.ref 10] (hCm b (f_10_10_1_d b d) k s w ik ex pr wd sn qu tb ts (r0, rq) h0 h1 h2 h3 fi R) rfl ?_
          refine hX_call (r' := zR_15) rfl (ct_15_10) ?_
          refine hX_goM 3 (51) [some (.ref 0), some (.int x0), some (.ref 55), some (.int (v_15_10 (f_10_10_1_d b d))), some (.int 0), none] [] rfl ?_
          exact lt_105_0_51_55 N (v_15_10 (f_10_10_1_d b d)) 0 (f_10_10_1_d b d) q h
        · skip
          have h := gcF c4 h
          refine hX_goM 2 (25) [some (.ref 0), some (.int x0), some (.ref 55), none, none, none] [.int 5, .ref 0] rfl ?_
          refine hX_call (r' := zR_111) rfl (ct_111_0 5 rfl) ?_
          refine hX_go 0 (28) [some (.ref 0), some (.int x0), some (.ref 55), none, none, none] [.int (v_111_0 5)] (hCm b d k s w ik ex pr wd sn qu tb ts (r0, rq) h0 h1 h2 h3 (f_111_0_fi 5 fi) R) rfl ?_
          have h := Option.some.inj h; subst h
          exact hX_end rfl rfl rfl
      · skip
        have h := gcF c3 h
        refine hX_bif (hEq x0 1) (fun c5 => ?_) (fun c5 => ?_)
        · skip
          have h := gcT c5 h
          refine hX_call (r' := zR_114) rfl (ct_114_0_3 x0 c1 c2 c3 c5) ?_
          refine hX_goM 4 (17) [some (.ref 0), some (.int x0), some (.ref 57), none, none, none] [.ref 57] rfl ?_
          refine hX_call (r' := zR_53) rfl (ct_53_57) ?_
          refine hX_goM 1 (bif gCmp .eq (v_53_57 h1) 0 then 29 else 23) [some (.ref 0), some (.int x0), some (.ref 57), none, none, none] [] rfl ?_
          refine hX_if (gCmp .eq (v_53_57 h1) 0) (fun c6 => ?_) (fun c6 => ?_)
          · skip
            have h := gcT c6 h
            refine hX_goM 4 (37) [some (.ref 0), some (.int x0), some (.ref 57), none, none, none] [.ref 1, .ref 10] rfl ?_
            refine hX_call (r' := zR_10) rfl (ct_10_10_1) ?_
            refine hX_go 2 (44) [some (.ref 0), some (.int x0), some (.ref 57), none, none, none] [.ref 10] (hCm b (f_10_10_1_d b d) k s w ik ex pr wd sn qu tb ts (r0, rq) h0 h1 h2 h3 fi R) rfl ?_
            refine hX_call (r' := zR_15) rfl (ct_15_10) ?_
            refine hX_goM 3 (51) [some (.ref 0), some (.int x0), some (.ref 57), some (.int (v_15_10 (f_10_10_1_d b d))), some (.int 0), none] [] rfl ?_
            exact lt_105_0_51_57 N (v_15_10 (f_10_10_1_d b d)) 0 (f_10_10_1_d b d) q h
          · skip
            have h := gcF c6 h
            refine hX_goM 2 (25) [some (.ref 0), some (.int x0), some (.ref 57), none, none, none] [.int 5, .ref 0] rfl ?_
            refine hX_call (r' := zR_111) rfl (ct_111_0 5 rfl) ?_
            refine hX_go 0 (28) [some (.ref 0), some (.int x0), some (.ref 57), none, none, none] [.int (v_111_0 5)] (hCm b d k s w ik ex pr wd sn qu tb ts (r0, rq) h0 h1 h2 h3 (f_111_0_fi 5 fi) R) rfl ?_
            have h := Option.some.inj h; subst h
            exact hX_end rfl rfl rfl
        · skip
          have h := gcF c5 h
          refine hX_bif (hEq x0 2) (fun c7 => ?_) (fun c7 => ?_)
          · skip
            have h := gcT c7 h
            refine hX_call (r' := zR_114) rfl (ct_114_0_4 x0 c1 c2 c3 c5 c7) ?_
            refine hX_goM 4 (17) [some (.ref 0), some (.int x0), some (.ref 59), none, none, none] [.ref 59] rfl ?_
            refine hX_call (r' := zR_53) rfl (ct_53_59) ?_
            refine hX_goM 1 (bif gCmp .eq (v_53_59 h2) 0 then 29 else 23) [some (.ref 0), some (.int x0), some (.ref 59), none, none, none] [] rfl ?_
            refine hX_if (gCmp .eq (v_53_59 h2) 0) (fun c8 => ?_) (fun c8 => ?_)
            · skip
              have h := gcT c8 h
              refine hX_goM 4 (37) [some (.ref 0), some (.int x0), some (.ref 59), none, none, none] [.ref 1, .ref 10] rfl ?_
              refine hX_call (r' := zR_10) rfl (ct_10_10_1) ?_
              refine hX_go 2 (44) [some (.ref 0), some (.int x0), some (.ref 59), none, none, none] [.ref 10] (hCm b (f_10_10_1_d b d) k s w ik ex pr wd sn qu tb ts (r0, rq) h0 h1 h2 h3 fi R) rfl ?_
              refine hX_call (r' := zR_15) rfl (ct_15_10) ?_
              refine hX_goM 3 (51) [some (.ref 0), some (.int x0), some (.ref 59), some (.int (v_15_10 (f_10_10_1_d b d))), some (.int 0), none] [] rfl ?_
              exact lt_105_0_51_59 N (v_15_10 (f_10_10_1_d b d)) 0 (f_10_10_1_d b d) q h
            · skip
              have h := gcF c8 h
              refine hX_goM 2 (25) [some (.ref 0), some (.int x0), some (.ref 59), none, none, none] [.int 5, .ref 0] rfl ?_
              refine hX_call (r' := zR_111) rfl (ct_111_0 5 rfl) ?_
              refine hX_go 0 (28) [some (.ref 0), some (.int x0), some (.ref 59), none, none, none] [.int (v_111_0 5)] (hCm b d k s w ik ex pr wd sn qu tb ts (r0, rq) h0 h1 h2 h3 (f_111_0_fi 5 fi) R) rfl ?_
              have h := Option.some.inj h; subst h
              exact hX_end rfl rfl rfl
          · skip
            have h := gcF c7 h
            refine hX_call (r' := zR_114) rfl (ct_114_0_5 x0 c1 c2 c3 c5 c7) ?_
            refine hX_goM 4 (17) [some (.ref 0), some (.int x0), some (.ref 61), none, none, none] [.ref 61] rfl ?_
            refine hX_call (r' := zR_53) rfl (ct_53_61) ?_
            refine hX_goM 1 (bif gCmp .eq (v_53_61 h3) 0 then 29 else 23) [some (.ref 0), some (.int x0), some (.ref 61), none, none, none] [] rfl ?_
            refine hX_if (gCmp .eq (v_53_61 h3) 0) (fun c9 => ?_) (fun c9 => ?_)
            · skip
              have h := gcT c9 h
              refine hX_goM 4 (37) [some (.ref 0), some (.int x0), some (.ref 61), none, none, none] [.ref 1, .ref 10] rfl ?_
              refine hX_call (r' := zR_10) rfl (ct_10_10_1) ?_
              refine hX_go 2 (44) [some (.ref 0), some (.int x0), some (.ref 61), none, none, none] [.ref 10] (hCm b (f_10_10_1_d b d) k s w ik ex pr wd sn qu tb ts (r0, rq) h0 h1 h2 h3 fi R) rfl ?_
              refine hX_call (r' := zR_15) rfl (ct_15_10) ?_
              refine hX_goM 3 (51) [some (.ref 0), some (.int x0), some (.ref 61), some (.int (v_15_10 (f_10_10_1_d b d))), some (.int 0), none] [] rfl ?_
              exact lt_105_0_51_61 N (v_15_10 (f_10_10_1_d b d)) 0 (f_10_10_1_d b d) q h
            · skip
              have h := gcF c9 h
              refine hX_goM 2 (25) [some (.ref 0), some (.int x0), some (.ref 61), none, none, none] [.int 5, .ref 0] rfl ?_
              refine hX_call (r' := zR_111) rfl (ct_111_0 5 rfl) ?_
              refine hX_go 0 (28) [some (.ref 0), some (.int x0), some (.ref 61), none, none, none] [.int (v_111_0 5)] (hCm b d k s w ik ex pr wd sn qu tb ts (r0, rq) h0 h1 h2 h3 (f_111_0_fi 5 fi) R) rfl ?_
              have h := Option.some.inj h; subst h
              exact hX_end rfl rfl rfl
    · skip
      have h := gcF c2 h
      refine hX_call (r' := zR_114) rfl (ct_114_0_1 x0 c1 c2) ?_
      refine hX_goM 5 (12) [some (.ref 0), some (.int x0), some (.null), none, none, none] [.int 0, .ref 0] rfl ?_
      refine hX_call (r' := zR_111) rfl (ct_111_0 0 rfl) ?_
      refine hX_go 0 (15) [some (.ref 0), some (.int x0), some (.null), none, none, none] [.int (v_111_0 0)] (hCm b d k s w ik ex pr wd sn qu tb ts (r0, rq) h0 h1 h2 h3 (f_111_0_fi 0 fi) R) rfl ?_
      have h := Option.some.inj h; subst h
      exact hX_end rfl rfl rfl

/-- UpOneSide$Blind.takeOver(LUpOneSide$Blind;)V -/
def f_10_19_1_k (b : hB) (k : hB) : hB := (b.1, b.2.1, b.2.2.1, b.2.2.2.1, b.2.2.2.2.1, va_cpy b.2.2.2.2.2.1 k.2.2.2.2.2.1 0 0 8, va_cpy b.2.2.2.2.2.2.1 k.2.2.2.2.2.2.1 0 0 8, va_cpy b.2.2.2.2.2.2.2.1 k.2.2.2.2.2.2.2.1 0 0 8, va_cpy b.2.2.2.2.2.2.2.2.1 k.2.2.2.2.2.2.2.2.1 0 0 6, va_cpy b.2.2.2.2.2.2.2.2.2.1 k.2.2.2.2.2.2.2.2.2.1 0 0 4, va_cpy b.2.2.2.2.2.2.2.2.2.2.1 k.2.2.2.2.2.2.2.2.2.2.1 0 0 61, va_cpy b.2.2.2.2.2.2.2.2.2.2.2.1 k.2.2.2.2.2.2.2.2.2.2.2.1 0 0 24, va_cpy b.2.2.2.2.2.2.2.2.2.2.2.2 k.2.2.2.2.2.2.2.2.2.2.2.2 0 0 10)
set_option maxRecDepth 20000 in
set_option maxHeartbeats 1000000 in
theorem ct_10_19_1 {LL : Nat} {xs : Nat → Int32} {D : Nat} {b d k s w : hB} {ik ex pr wd : Int32} {sn : Nat → Int64} {qu tb : Nat → Int32} {ts : Int32} {r0 : Value} {rq : hRq} {h0 h1 h2 h3 : hSt} {fi : Nat → Int32} {R : List gE} : hM (gO LL xs) (D + 1) zR_10 [.ref 19, .ref 1] (hCm b d k s w ik ex pr wd sn qu tb ts (r0, rq) h0 h1 h2 h3 fi R) none (hCm b d (f_10_19_1_k b k) s w ik ex pr wd sn qu tb ts (r0, rq) h0 h1 h2 h3 fi R) := by
  refine hX_go 0 0 [some (.ref 19), some (.ref 1)] [] (hCm b d k s w ik ex pr wd sn qu tb ts (r0, rq) h0 h1 h2 h3 fi R) rfl ?_
  refine hX_go 9 (17) [some (.ref 19), some (.ref 1)] [.ref 19] (hCm b d (b.1, b.2.1, k.2.2) s w ik ex pr wd sn qu tb ts (r0, rq) h0 h1 h2 h3 fi R) rfl ?_
  refine hX_go 9 (34) [some (.ref 19), some (.ref 1)] [.ref 1, .ref 19] (hCm b d (b.1, b.2.1, b.2.2.1, b.2.2.2.1, k.2.2.2.2) s w ik ex pr wd sn qu tb ts (r0, rq) h0 h1 h2 h3 fi R) rfl ?_
  refine hX_go 9 (52) [some (.ref 19), some (.ref 1)] [.int 8, .int 0, .ref 20, .int 0, .ref 2] (hCm b d (b.1, b.2.1, b.2.2.1, b.2.2.2.1, b.2.2.2.2.1, k.2.2.2.2.2) s w ik ex pr wd sn qu tb ts (r0, rq) h0 h1 h2 h3 fi R) rfl ?_
  refine hX_go 9 (70) [some (.ref 19), some (.ref 1)] [] (hCm b d (b.1, b.2.1, b.2.2.1, b.2.2.2.1, b.2.2.2.2.1, va_cpy b.2.2.2.2.2.1 k.2.2.2.2.2.1 0 0 8, va_cpy b.2.2.2.2.2.2.1 k.2.2.2.2.2.2.1 0 0 8, k.2.2.2.2.2.2.2) s w ik ex pr wd sn qu tb ts (r0, rq) h0 h1 h2 h3 fi R) rfl ?_
  refine hX_go 9 (86) [some (.ref 19), some (.ref 1)] [.ref 1] (hCm b d (b.1, b.2.1, b.2.2.1, b.2.2.2.1, b.2.2.2.2.1, va_cpy b.2.2.2.2.2.1 k.2.2.2.2.2.1 0 0 8, va_cpy b.2.2.2.2.2.2.1 k.2.2.2.2.2.2.1 0 0 8, va_cpy b.2.2.2.2.2.2.2.1 k.2.2.2.2.2.2.2.1 0 0 8, k.2.2.2.2.2.2.2.2) s w ik ex pr wd sn qu tb ts (r0, rq) h0 h1 h2 h3 fi R) rfl ?_
  refine hX_go 9 (103) [some (.ref 19), some (.ref 1)] [] (hCm b d (b.1, b.2.1, b.2.2.1, b.2.2.2.1, b.2.2.2.2.1, va_cpy b.2.2.2.2.2.1 k.2.2.2.2.2.1 0 0 8, va_cpy b.2.2.2.2.2.2.1 k.2.2.2.2.2.2.1 0 0 8, va_cpy b.2.2.2.2.2.2.2.1 k.2.2.2.2.2.2.2.1 0 0 8, va_cpy b.2.2.2.2.2.2.2.2.1 k.2.2.2.2.2.2.2.2.1 0 0 6, k.2.2.2.2.2.2.2.2.2) s w ik ex pr wd sn qu tb ts (r0, rq) h0 h1 h2 h3 fi R) rfl ?_
  refine hX_go 9 (118) [some (.ref 19), some (.ref 1)] [.ref 1] (hCm b d (b.1, b.2.1, b.2.2.1, b.2.2.2.1, b.2.2.2.2.1, va_cpy b.2.2.2.2.2.1 k.2.2.2.2.2.1 0 0 8, va_cpy b.2.2.2.2.2.2.1 k.2.2.2.2.2.2.1 0 0 8, va_cpy b.2.2.2.2.2.2.2.1 k.2.2.2.2.2.2.2.1 0 0 8, va_cpy b.2.2.2.2.2.2.2.2.1 k.2.2.2.2.2.2.2.2.1 0 0 6, va_cpy b.2.2.2.2.2.2.2.2.2.1 k.2.2.2.2.2.2.2.2.2.1 0 0 4, k.2.2.2.2.2.2.2.2.2.2) s w ik ex pr wd sn qu tb ts (r0, rq) h0 h1 h2 h3 fi R) rfl ?_
  refine hX_go 9 (136) [some (.ref 19), some (.ref 1)] [.ref 8] (hCm b d (b.1, b.2.1, b.2.2.1, b.2.2.2.1, b.2.2.2.2.1, va_cpy b.2.2.2.2.2.1 k.2.2.2.2.2.1 0 0 8, va_cpy b.2.2.2.2.2.2.1 k.2.2.2.2.2.2.1 0 0 8, va_cpy b.2.2.2.2.2.2.2.1 k.2.2.2.2.2.2.2.1 0 0 8, va_cpy b.2.2.2.2.2.2.2.2.1 k.2.2.2.2.2.2.2.2.1 0 0 6, va_cpy b.2.2.2.2.2.2.2.2.2.1 k.2.2.2.2.2.2.2.2.2.1 0 0 4, va_cpy b.2.2.2.2.2.2.2.2.2.2.1 k.2.2.2.2.2.2.2.2.2.2.1 0 0 61, k.2.2.2.2.2.2.2.2.2.2.2) s w ik ex pr wd sn qu tb ts (r0, rq) h0 h1 h2 h3 fi R) rfl ?_
  refine hX_go 9 (152) [some (.ref 19), some (.ref 1)] [.int 0, .ref 9] (hCm b d (b.1, b.2.1, b.2.2.1, b.2.2.2.1, b.2.2.2.2.1, va_cpy b.2.2.2.2.2.1 k.2.2.2.2.2.1 0 0 8, va_cpy b.2.2.2.2.2.2.1 k.2.2.2.2.2.2.1 0 0 8, va_cpy b.2.2.2.2.2.2.2.1 k.2.2.2.2.2.2.2.1 0 0 8, va_cpy b.2.2.2.2.2.2.2.2.1 k.2.2.2.2.2.2.2.2.1 0 0 6, va_cpy b.2.2.2.2.2.2.2.2.2.1 k.2.2.2.2.2.2.2.2.2.1 0 0 4, va_cpy b.2.2.2.2.2.2.2.2.2.2.1 k.2.2.2.2.2.2.2.2.2.2.1 0 0 61, va_cpy b.2.2.2.2.2.2.2.2.2.2.2.1 k.2.2.2.2.2.2.2.2.2.2.2.1 0 0 24, k.2.2.2.2.2.2.2.2.2.2.2.2) s w ik ex pr wd sn qu tb ts (r0, rq) h0 h1 h2 h3 fi R) rfl ?_
  refine hX_go 5 (162) [some (.ref 19), some (.ref 1)] [] (hCm b d (b.1, b.2.1, b.2.2.1, b.2.2.2.1, b.2.2.2.2.1, va_cpy b.2.2.2.2.2.1 k.2.2.2.2.2.1 0 0 8, va_cpy b.2.2.2.2.2.2.1 k.2.2.2.2.2.2.1 0 0 8, va_cpy b.2.2.2.2.2.2.2.1 k.2.2.2.2.2.2.2.1 0 0 8, va_cpy b.2.2.2.2.2.2.2.2.1 k.2.2.2.2.2.2.2.2.1 0 0 6, va_cpy b.2.2.2.2.2.2.2.2.2.1 k.2.2.2.2.2.2.2.2.2.1 0 0 4, va_cpy b.2.2.2.2.2.2.2.2.2.2.1 k.2.2.2.2.2.2.2.2.2.2.1 0 0 61, va_cpy b.2.2.2.2.2.2.2.2.2.2.2.1 k.2.2.2.2.2.2.2.2.2.2.2.1 0 0 24, va_cpy b.2.2.2.2.2.2.2.2.2.2.2.2 k.2.2.2.2.2.2.2.2.2.2.2.2 0 0 10) s w ik ex pr wd sn qu tb ts (r0, rq) h0 h1 h2 h3 fi R) rfl ?_
  exact hX_end rfl (rfl) (rfl)


/-- UpOneSide.image()I -/
def me_106_0 (N : Nat) (b : hB) (k : hB) : Option (Int32 × hB × Int32) :=
  some (1, (f_10_19_1_k b k), 1)
set_option maxRecDepth 20000 in
set_option maxHeartbeats 4000000 in
theorem mt_106_0 {LL : Nat} {xs : Nat → Int32} {D : Nat} {b d k s w : hB} {ik ex pr wd : Int32} {sn : Nat → Int64} {qu tb : Nat → Int32} {ts : Int32} {r0 : Value} {rq : hRq} {h0 h1 h2 h3 : hSt} {fi : Nat → Int32} {R : List gE} (N : Nat) (q : Int32 × hB × Int32) (h : me_106_0 N b k = some q) : hM (gO LL xs) (D + 2) zR_106 [.ref 0] (hCm b d k s w ik ex pr wd sn qu tb ts (r0, rq) h0 h1 h2 h3 fi R) (some (.int q.1)) (hCm b d q.2.1 s w q.2.2 ex pr wd sn qu tb ts (r0, rq) h0 h1 h2 h3 fi R) := by
  unfold me_106_0 at h
  refine hX_go 0 0 [some (.ref 0)] [] (hCm b d k s w ik ex pr wd sn qu tb ts (r0, rq) h0 h1 h2 h3 fi R) rfl ?_
  refine hX_go 4 (8) [some (.ref 0)] [.ref 1, .ref 19] (hCm b d k s w ik ex pr wd sn qu tb ts (r0, rq) h0 h1 h2 h3 fi R) rfl ?_
  refine hX_call (r' := zR_10) rfl (ct_10_19_1) ?_
  refine hX_go 4 (17) [some (.ref 0)] [.int 1] (hCm b d (f_10_19_1_k b k) s w 1 ex pr wd sn qu tb ts (r0, rq) h0 h1 h2 h3 fi R) rfl ?_
  have h := Option.some.inj h; subst h
  exact hX_end rfl rfl rfl

/-- UpOneSide$Blind.takeOver(LUpOneSide$Blind;)V -/
def f_10_1_19_b (b : hB) (k : hB) : hB := (k.1, k.2.1, k.2.2.1, k.2.2.2.1, k.2.2.2.2.1, va_cpy k.2.2.2.2.2.1 b.2.2.2.2.2.1 0 0 8, va_cpy k.2.2.2.2.2.2.1 b.2.2.2.2.2.2.1 0 0 8, va_cpy k.2.2.2.2.2.2.2.1 b.2.2.2.2.2.2.2.1 0 0 8, va_cpy k.2.2.2.2.2.2.2.2.1 b.2.2.2.2.2.2.2.2.1 0 0 6, va_cpy k.2.2.2.2.2.2.2.2.2.1 b.2.2.2.2.2.2.2.2.2.1 0 0 4, va_cpy k.2.2.2.2.2.2.2.2.2.2.1 b.2.2.2.2.2.2.2.2.2.2.1 0 0 61, va_cpy k.2.2.2.2.2.2.2.2.2.2.2.1 b.2.2.2.2.2.2.2.2.2.2.2.1 0 0 24, va_cpy k.2.2.2.2.2.2.2.2.2.2.2.2 b.2.2.2.2.2.2.2.2.2.2.2.2 0 0 10)
set_option maxRecDepth 20000 in
set_option maxHeartbeats 1000000 in
theorem ct_10_1_19 {LL : Nat} {xs : Nat → Int32} {D : Nat} {b d k s w : hB} {ik ex pr wd : Int32} {sn : Nat → Int64} {qu tb : Nat → Int32} {ts : Int32} {r0 : Value} {rq : hRq} {h0 h1 h2 h3 : hSt} {fi : Nat → Int32} {R : List gE} : hM (gO LL xs) (D + 1) zR_10 [.ref 1, .ref 19] (hCm b d k s w ik ex pr wd sn qu tb ts (r0, rq) h0 h1 h2 h3 fi R) none (hCm (f_10_1_19_b b k) d k s w ik ex pr wd sn qu tb ts (r0, rq) h0 h1 h2 h3 fi R) := by
  refine hX_go 0 0 [some (.ref 1), some (.ref 19)] [] (hCm b d k s w ik ex pr wd sn qu tb ts (r0, rq) h0 h1 h2 h3 fi R) rfl ?_
  refine hX_go 9 (17) [some (.ref 1), some (.ref 19)] [.ref 1] (hCm (k.1, k.2.1, b.2.2) d k s w ik ex pr wd sn qu tb ts (r0, rq) h0 h1 h2 h3 fi R) rfl ?_
  refine hX_go 9 (34) [some (.ref 1), some (.ref 19)] [.ref 19, .ref 1] (hCm (k.1, k.2.1, k.2.2.1, k.2.2.2.1, b.2.2.2.2) d k s w ik ex pr wd sn qu tb ts (r0, rq) h0 h1 h2 h3 fi R) rfl ?_
  refine hX_go 9 (52) [some (.ref 1), some (.ref 19)] [.int 8, .int 0, .ref 2, .int 0, .ref 20] (hCm (k.1, k.2.1, k.2.2.1, k.2.2.2.1, k.2.2.2.2.1, b.2.2.2.2.2) d k s w ik ex pr wd sn qu tb ts (r0, rq) h0 h1 h2 h3 fi R) rfl ?_
  refine hX_go 9 (70) [some (.ref 1), some (.ref 19)] [] (hCm (k.1, k.2.1, k.2.2.1, k.2.2.2.1, k.2.2.2.2.1, va_cpy k.2.2.2.2.2.1 b.2.2.2.2.2.1 0 0 8, va_cpy k.2.2.2.2.2.2.1 b.2.2.2.2.2.2.1 0 0 8, b.2.2.2.2.2.2.2) d k s w ik ex pr wd sn qu tb ts (r0, rq) h0 h1 h2 h3 fi R) rfl ?_
  refine hX_go 9 (86) [some (.ref 1), some (.ref 19)] [.ref 19] (hCm (k.1, k.2.1, k.2.2.1, k.2.2.2.1, k.2.2.2.2.1, va_cpy k.2.2.2.2.2.1 b.2.2.2.2.2.1 0 0 8, va_cpy k.2.2.2.2.2.2.1 b.2.2.2.2.2.2.1 0 0 8, va_cpy k.2.2.2.2.2.2.2.1 b.2.2.2.2.2.2.2.1 0 0 8, b.2.2.2.2.2.2.2.2) d k s w ik ex pr wd sn qu tb ts (r0, rq) h0 h1 h2 h3 fi R) rfl ?_
  refine hX_go 9 (103) [some (.ref 1), some (.ref 19)] [] (hCm (k.1, k.2.1, k.2.2.1, k.2.2.2.1, k.2.2.2.2.1, va_cpy k.2.2.2.2.2.1 b.2.2.2.2.2.1 0 0 8, va_cpy k.2.2.2.2.2.2.1 b.2.2.2.2.2.2.1 0 0 8, va_cpy k.2.2.2.2.2.2.2.1 b.2.2.2.2.2.2.2.1 0 0 8, va_cpy k.2.2.2.2.2.2.2.2.1 b.2.2.2.2.2.2.2.2.1 0 0 6, b.2.2.2.2.2.2.2.2.2) d k s w ik ex pr wd sn qu tb ts (r0, rq) h0 h1 h2 h3 fi R) rfl ?_
  refine hX_go 9 (118) [some (.ref 1), some (.ref 19)] [.ref 19] (hCm (k.1, k.2.1, k.2.2.1, k.2.2.2.1, k.2.2.2.2.1, va_cpy k.2.2.2.2.2.1 b.2.2.2.2.2.1 0 0 8, va_cpy k.2.2.2.2.2.2.1 b.2.2.2.2.2.2.1 0 0 8, va_cpy k.2.2.2.2.2.2.2.1 b.2.2.2.2.2.2.2.1 0 0 8, va_cpy k.2.2.2.2.2.2.2.2.1 b.2.2.2.2.2.2.2.2.1 0 0 6, va_cpy k.2.2.2.2.2.2.2.2.2.1 b.2.2.2.2.2.2.2.2.2.1 0 0 4, b.2.2.2.2.2.2.2.2.2.2) d k s w ik ex pr wd sn qu tb ts (r0, rq) h0 h1 h2 h3 fi R) rfl ?_
  refine hX_go 9 (136) [some (.ref 1), some (.ref 19)] [.ref 26] (hCm (k.1, k.2.1, k.2.2.1, k.2.2.2.1, k.2.2.2.2.1, va_cpy k.2.2.2.2.2.1 b.2.2.2.2.2.1 0 0 8, va_cpy k.2.2.2.2.2.2.1 b.2.2.2.2.2.2.1 0 0 8, va_cpy k.2.2.2.2.2.2.2.1 b.2.2.2.2.2.2.2.1 0 0 8, va_cpy k.2.2.2.2.2.2.2.2.1 b.2.2.2.2.2.2.2.2.1 0 0 6, va_cpy k.2.2.2.2.2.2.2.2.2.1 b.2.2.2.2.2.2.2.2.2.1 0 0 4, va_cpy k.2.2.2.2.2.2.2.2.2.2.1 b.2.2.2.2.2.2.2.2.2.2.1 0 0 61, b.2.2.2.2.2.2.2.2.2.2.2) d k s w ik ex pr wd sn qu tb ts (r0, rq) h0 h1 h2 h3 fi R) rfl ?_
  refine hX_go 9 (152) [some (.ref 1), some (.ref 19)] [.int 0, .ref 27] (hCm (k.1, k.2.1, k.2.2.1, k.2.2.2.1, k.2.2.2.2.1, va_cpy k.2.2.2.2.2.1 b.2.2.2.2.2.1 0 0 8, va_cpy k.2.2.2.2.2.2.1 b.2.2.2.2.2.2.1 0 0 8, va_cpy k.2.2.2.2.2.2.2.1 b.2.2.2.2.2.2.2.1 0 0 8, va_cpy k.2.2.2.2.2.2.2.2.1 b.2.2.2.2.2.2.2.2.1 0 0 6, va_cpy k.2.2.2.2.2.2.2.2.2.1 b.2.2.2.2.2.2.2.2.2.1 0 0 4, va_cpy k.2.2.2.2.2.2.2.2.2.2.1 b.2.2.2.2.2.2.2.2.2.2.1 0 0 61, va_cpy k.2.2.2.2.2.2.2.2.2.2.2.1 b.2.2.2.2.2.2.2.2.2.2.2.1 0 0 24, b.2.2.2.2.2.2.2.2.2.2.2.2) d k s w ik ex pr wd sn qu tb ts (r0, rq) h0 h1 h2 h3 fi R) rfl ?_
  refine hX_go 5 (162) [some (.ref 1), some (.ref 19)] [] (hCm (k.1, k.2.1, k.2.2.1, k.2.2.2.1, k.2.2.2.2.1, va_cpy k.2.2.2.2.2.1 b.2.2.2.2.2.1 0 0 8, va_cpy k.2.2.2.2.2.2.1 b.2.2.2.2.2.2.1 0 0 8, va_cpy k.2.2.2.2.2.2.2.1 b.2.2.2.2.2.2.2.1 0 0 8, va_cpy k.2.2.2.2.2.2.2.2.1 b.2.2.2.2.2.2.2.2.1 0 0 6, va_cpy k.2.2.2.2.2.2.2.2.2.1 b.2.2.2.2.2.2.2.2.2.1 0 0 4, va_cpy k.2.2.2.2.2.2.2.2.2.2.1 b.2.2.2.2.2.2.2.2.2.2.1 0 0 61, va_cpy k.2.2.2.2.2.2.2.2.2.2.2.1 b.2.2.2.2.2.2.2.2.2.2.2.1 0 0 24, va_cpy k.2.2.2.2.2.2.2.2.2.2.2.2 b.2.2.2.2.2.2.2.2.2.2.2.2 0 0 10) d k s w ik ex pr wd sn qu tb ts (r0, rq) h0 h1 h2 h3 fi R) rfl ?_
  exact hX_end rfl (rfl) (rfl)


/-- UpOneSide.undo()I -/
def me_107_0 (N : Nat) (b : hB) (k : hB) (ik : Int32) (fi : Nat → Int32) : Option (Int32 × hB × (Nat → Int32)) :=
  (bif gCmp .ne ik 0 then
    some ((f_10_1_19_b b k).1, (f_10_1_19_b b k), fi)
  else
    some (v_111_0 3, b, f_111_0_fi 3 fi))
set_option maxRecDepth 20000 in
set_option maxHeartbeats 4000000 in
theorem mt_107_0 {LL : Nat} {xs : Nat → Int32} {D : Nat} {b d k s w : hB} {ik ex pr wd : Int32} {sn : Nat → Int64} {qu tb : Nat → Int32} {ts : Int32} {r0 : Value} {rq : hRq} {h0 h1 h2 h3 : hSt} {fi : Nat → Int32} {R : List gE} (N : Nat) (q : Int32 × hB × (Nat → Int32)) (h : me_107_0 N b k ik fi = some q) : hM (gO LL xs) (D + 2) zR_107 [.ref 0] (hCm b d k s w ik ex pr wd sn qu tb ts (r0, rq) h0 h1 h2 h3 fi R) (some (.int q.1)) (hCm q.2.1 d k s w ik ex pr wd sn qu tb ts (r0, rq) h0 h1 h2 h3 q.2.2 R) := by
  unfold me_107_0 at h
  refine hX_go 0 0 [some (.ref 0)] [] (hCm b d k s w ik ex pr wd sn qu tb ts (r0, rq) h0 h1 h2 h3 fi R) rfl ?_
  refine hX_go 3 (bif gCmp .ne ik 0 then 13 else 7) [some (.ref 0)] [] (hCm b d k s w ik ex pr wd sn qu tb ts (r0, rq) h0 h1 h2 h3 fi R) rfl ?_
  refine hX_if (gCmp .ne ik 0) (fun c1 => ?_) (fun c1 => ?_)
  · skip
    have h := gcT c1 h
    refine hX_goM 4 (21) [some (.ref 0)] [.ref 19, .ref 1] rfl ?_
    refine hX_call (r' := zR_10) rfl (ct_10_1_19) ?_
    refine hX_go 3 (31) [some (.ref 0)] [.int ((f_10_1_19_b b k).1)] (hCm (f_10_1_19_b b k) d k s w ik ex pr wd sn qu tb ts (r0, rq) h0 h1 h2 h3 fi R) rfl ?_
    have h := Option.some.inj h; subst h
    exact hX_end rfl rfl rfl
  · skip
    have h := gcF c1 h
    refine hX_goM 2 (9) [some (.ref 0)] [.int 3, .ref 0] rfl ?_
    refine hX_call (r' := zR_111) rfl (ct_111_0 3 rfl) ?_
    refine hX_go 0 (12) [some (.ref 0)] [.int (v_111_0 3)] (hCm b d k s w ik ex pr wd sn qu tb ts (r0, rq) h0 h1 h2 h3 (f_111_0_fi 3 fi) R) rfl ?_
    have h := Option.some.inj h; subst h
    exact hX_end rfl rfl rfl


/-- UpOneSide.tear()I -/
def me_108_0 (N : Nat) (ik : Int32) : Option (Int32 × Int32) :=
  some (bif gCmp .eq ik 0 then 0 else 1, 0)
set_option maxRecDepth 20000 in
set_option maxHeartbeats 4000000 in
theorem mt_108_0 {LL : Nat} {xs : Nat → Int32} {D : Nat} {b d k s w : hB} {ik ex pr wd : Int32} {sn : Nat → Int64} {qu tb : Nat → Int32} {ts : Int32} {r0 : Value} {rq : hRq} {h0 h1 h2 h3 : hSt} {fi : Nat → Int32} {R : List gE} (N : Nat) (q : Int32 × Int32) (h : me_108_0 N ik = some q) : hM (gO LL xs) (D + 0) zR_108 [.ref 0] (hCm b d k s w ik ex pr wd sn qu tb ts (r0, rq) h0 h1 h2 h3 fi R) (some (.int q.1)) (hCm b d k s w q.2 ex pr wd sn qu tb ts (r0, rq) h0 h1 h2 h3 fi R) := by
  unfold me_108_0 at h
  refine hX_go 0 0 [some (.ref 0), none] [] (hCm b d k s w ik ex pr wd sn qu tb ts (r0, rq) h0 h1 h2 h3 fi R) rfl ?_
  refine hX_go 3 (bif gCmp .eq ik 0 then 11 else 7) [some (.ref 0), none] [] (hCm b d k s w ik ex pr wd sn qu tb ts (r0, rq) h0 h1 h2 h3 fi R) rfl ?_
  refine hX_mrg 12 [some (.ref 0), none] [.int (bif gCmp .eq ik 0 then 0 else 1)] (hCm b d k s w ik ex pr wd sn qu tb ts (r0, rq) h0 h1 h2 h3 fi R) (fun hk => ?_) ?_
  · skip
    refine hX_if (gCmp .eq ik 0) (fun c2 => ?_) (fun c2 => ?_)
    · skip
      refine hX_goM 1 (12) [some (.ref 0), none] [.int 0] rfl ?_
      have hk := hk
      simp only [c2, cond_true, cond_false] at hk
      first | exact hk | (simp only [c2, cond_true, cond_false]; exact hk)
    · skip
      refine hX_goM 2 (12) [some (.ref 0), none] [.int 1] rfl ?_
      have hk := hk
      simp only [c2, cond_true, cond_false] at hk
      first | exact hk | (simp only [c2, cond_true, cond_false]; exact hk)
  refine hX_go 5 (19) [some (.ref 0), some (.int (bif gCmp .eq ik 0 then 0 else 1))] [.int (bif gCmp .eq ik 0 then 0 else 1)] (hCm b d k s w 0 ex pr wd sn qu tb ts (r0, rq) h0 h1 h2 h3 fi R) rfl ?_
  have h := Option.some.inj h; subst h
  exact hX_end rfl rfl rfl

theorem sw_109_1 (x : Int32) : gSwT 1 111 0 7 #[47, 55, 63, 71, 79, 87, 95, 103] x = some (bif hEq x 0 then 48 else bif hEq x 1 then 56 else bif hEq x 2 then 64 else bif hEq x 3 then 72 else bif hEq x 4 then 80 else bif hEq x 5 then 88 else bif hEq x 6 then 96 else bif hEq x 7 then 104 else 112) := by
  by_cases q0 : x = 0
  · subst q0; rfl
  by_cases q1 : x = 1
  · subst q1; rfl
  by_cases q2 : x = 2
  · subst q2; rfl
  by_cases q3 : x = 3
  · subst q3; rfl
  by_cases q4 : x = 4
  · subst q4; rfl
  by_cases q5 : x = 5
  · subst q5; rfl
  by_cases q6 : x = 6
  · subst q6; rfl
  by_cases q7 : x = 7
  · subst q7; rfl
  simp only [hEq, q0, q1, q2, q3, q4, q5, q6, q7, decide_false, cond_false]
  have n0 := hNe q0
  have n1 := hNe q1
  have n2 := hNe q2
  have n3 := hNe q3
  have n4 := hNe q4
  have n5 := hNe q5
  have n6 := hNe q6
  have n7 := hNe q7
  unfold gSwT
  rw [show (decide (x.toInt < 0) || decide (7 < x.toInt)) = true from by
    simp only [Bool.or_eq_true, decide_eq_true_eq]
    have e : ∀ z : Int, z < 0 ∨ 7 < z ∨ (z = 0 ∨ z = 1 ∨ z = 2 ∨ z = 3 ∨ z = 4 ∨ z = 5 ∨ z = 6 ∨ z = 7) := by intro z; omega
    rcases e x.toInt with h | h | h
    · exact Or.inl h
    · exact Or.inr h
    · rcases h with h | h | h | h | h | h | h | h
      · exact absurd h n0
      · exact absurd h n1
      · exact absurd h n2
      · exact absurd h n3
      · exact absurd h n4
      · exact absurd h n5
      · exact absurd h n6
      · exact absurd h n7
    ]
  rfl

/-- UpOneSide$Blind.spotsHeld: the loop at 4 -/
def lp_29_1_4 (N : Nat) (b : hB) : Nat → Int32 → Int32 → Option (Int32 × Int32)
  | 0, _, _ => none
  | n + 1, y1, y2 =>
    (bif gCmp .ge y2 10 then
      some (y1, y2)
    else
      (bif gIn y2 10 then lp_29_1_4 N b n (bif gCmp .eq (b.2.2.2.2.2.2.2.2.2.2.2.2 (Int32.toNatClampNeg y2)) (-1) then y1 else (y1 + 1)) (y2 + 1) else none))
set_option maxRecDepth 20000 in
set_option maxHeartbeats 4000000 in
theorem lt_29_1_4 {LL : Nat} {xs : Nat → Int32} {D N : Nat} {b d k s w : hB} {ik ex pr wd : Int32} {sn : Nat → Int64} {qu tb : Nat → Int32} {ts : Int32} {r0 : Value} {rq : hRq} {h0 h1 h2 h3 : hSt} {fi : Nat → Int32} {R : List gE} {v : Option Value} {M' : List gE} : ∀ (n : Nat) (y1 : Int32) (y2 : Int32) (q : Int32 × Int32), lp_29_1_4 N b n y1 y2 = some q → (kk : hX (gO LL xs) (D + 0) zR_29 29 [some (.ref 1), some (.int q.1), some (.int q.2)] [] (hCm b d k s w ik ex pr wd sn qu tb ts (r0, rq) h0 h1 h2 h3 fi R) v M') → hX (gO LL xs) (D + 0) zR_29 4 [some (.ref 1), some (.int y1), some (.int y2)] [] (hCm b d k s w ik ex pr wd sn qu tb ts (r0, rq) h0 h1 h2 h3 fi R) v M' := by
  intro n
  induction n with
  | zero => intro y1 y2 q h; cases h
  | succ n ih =>
    intro y1 y2 q h kk
    rw [lp_29_1_4] at h
    refine hX_go 3 (bif gCmp .ge y2 10 then 29 else 10) [some (.ref 1), some (.int y1), some (.int y2)] [] (hCm b d k s w ik ex pr wd sn qu tb ts (r0, rq) h0 h1 h2 h3 fi R) rfl ?_
    refine hX_if (gCmp .ge y2 10) (fun c1 => ?_) (fun c1 => ?_)
    · skip
      have h := gcT c1 h
      have h := Option.some.inj h; subst h
      exact kk
    · skip
      have h := gcF c1 h
      refine hX_goM 3 (15) [some (.ref 1), some (.int y1), some (.int y2)] [.int y2, .ref 9] rfl ?_
      revert h; refine gCondR fun g2 h => ?_
      refine hX_gM (gIn y2 10) 16 [some (.ref 1), some (.int y1), some (.int y2)] [.int (b.2.2.2.2.2.2.2.2.2.2.2.2 (Int32.toNatClampNeg y2))] rfl g2 ?_
      refine hX_goM 2 (bif gCmp .eq (b.2.2.2.2.2.2.2.2.2.2.2.2 (Int32.toNatClampNeg y2)) (-1) then 23 else 20) [some (.ref 1), some (.int y1), some (.int y2)] [] rfl ?_
      refine hX_mrg 23 [some (.ref 1), some (.int (bif gCmp .eq (b.2.2.2.2.2.2.2.2.2.2.2.2 (Int32.toNatClampNeg y2)) (-1) then y1 else (y1 + 1))), some (.int y2)] [] (hCm b d k s w ik ex pr wd sn qu tb ts (r0, rq) h0 h1 h2 h3 fi R) (fun hk => ?_) ?_
      · skip
        refine hX_if (gCmp .eq (b.2.2.2.2.2.2.2.2.2.2.2.2 (Int32.toNatClampNeg y2)) (-1)) (fun c4 => ?_) (fun c4 => ?_)
        · skip
          have hk := hk
          simp only [c4, cond_true, cond_false] at hk
          first | exact hk | (simp only [c4, cond_true, cond_false]; exact hk)
        · skip
          refine hX_goM 1 (23) [some (.ref 1), some (.int (y1 + 1)), some (.int y2)] [] rfl ?_
          have hk := hk
          simp only [c4, cond_true, cond_false] at hk
          first | exact hk | (simp only [c4, cond_true, cond_false]; exact hk)
      refine hX_goM 2 (4) [some (.ref 1), some (.int (bif gCmp .eq (b.2.2.2.2.2.2.2.2.2.2.2.2 (Int32.toNatClampNeg y2)) (-1) then y1 else (y1 + 1))), some (.int (y2 + 1))] [] rfl ?_
      exact ih (bif gCmp .eq (b.2.2.2.2.2.2.2.2.2.2.2.2 (Int32.toNatClampNeg y2)) (-1) then y1 else (y1 + 1)) (y2 + 1) q h kk

/-- UpOneSide$Blind.spotsHeld()I -/
def me_29_1 (N : Nat) (b : hB) : Option (Int32) :=
  (Option.bind (lp_29_1_4 N b N 0 0) fun q1 =>
  some (q1.1))
set_option maxRecDepth 20000 in
set_option maxHeartbeats 4000000 in
theorem mt_29_1 {LL : Nat} {xs : Nat → Int32} {D : Nat} {b d k s w : hB} {ik ex pr wd : Int32} {sn : Nat → Int64} {qu tb : Nat → Int32} {ts : Int32} {r0 : Value} {rq : hRq} {h0 h1 h2 h3 : hSt} {fi : Nat → Int32} {R : List gE} (N : Nat) (q : Int32) (h : me_29_1 N b = some q) : hM (gO LL xs) (D + 0) zR_29 [.ref 1] (hCm b d k s w ik ex pr wd sn qu tb ts (r0, rq) h0 h1 h2 h3 fi R) (some (.int q)) (hCm b d k s w ik ex pr wd sn qu tb ts (r0, rq) h0 h1 h2 h3 fi R) := by
  unfold me_29_1 at h
  refine hX_go 0 0 [some (.ref 1), none, none] [] (hCm b d k s w ik ex pr wd sn qu tb ts (r0, rq) h0 h1 h2 h3 fi R) rfl ?_
  refine hX_go 4 (4) [some (.ref 1), some (.int 0), some (.int 0)] [] (hCm b d k s w ik ex pr wd sn qu tb ts (r0, rq) h0 h1 h2 h3 fi R) rfl ?_
  revert h; refine gBindR fun q1 e1 h => ?_
  refine lt_29_1_4 N 0 0 q1 e1 ?_
  refine hX_goM 1 (30) [some (.ref 1), some (.int q1.1), some (.int q1.2)] [.int q1.1] rfl ?_
  have h := Option.some.inj h; subst h
  exact hX_end rfl rfl rfl


/-- UpOneSide.count(I)I -/
def me_109_0 (N : Nat) (x0 : Int32) (b : hB) (ts : Int32) (fi : Nat → Int32) : Option (Int32 × (Nat → Int32)) :=
  (bif hEq x0 0 then
    some (b.1, fi)
  else
    (bif hEq x0 1 then
      some (b.2.2.2.2.1, fi)
    else
      (bif hEq x0 2 then
        some (b.2.1, fi)
      else
        (bif hEq x0 3 then
          some (b.2.2.1, fi)
        else
          (bif hEq x0 4 then
            (Option.bind (me_21_1 N b) fun q6 =>
            some (q6, fi))
          else
            (bif hEq x0 5 then
              some (ts, fi)
            else
              (bif hEq x0 6 then
                some (b.2.2.2.1, fi)
              else
                (bif hEq x0 7 then
                  (Option.bind (me_29_1 N b) fun q10 =>
                  some (q10, fi))
                else
                  some (v_111_0 0, f_111_0_fi 0 fi)))))))))
set_option maxRecDepth 20000 in
set_option maxHeartbeats 4000000 in
theorem mt_109_0 {LL : Nat} {xs : Nat → Int32} {D : Nat} {b d k s w : hB} {ik ex pr wd : Int32} {sn : Nat → Int64} {qu tb : Nat → Int32} {ts : Int32} {r0 : Value} {rq : hRq} {h0 h1 h2 h3 : hSt} {fi : Nat → Int32} {R : List gE} (N : Nat) (x0 : Int32) (q : Int32 × (Nat → Int32)) (h : me_109_0 N x0 b ts fi = some q) : hM (gO LL xs) (D + 1) zR_109 [.ref 0, .int x0] (hCm b d k s w ik ex pr wd sn qu tb ts (r0, rq) h0 h1 h2 h3 fi R) (some (.int q.1)) (hCm b d k s w ik ex pr wd sn qu tb ts (r0, rq) h0 h1 h2 h3 q.2 R) := by
  unfold me_109_0 at h
  refine hX_go 0 0 [some (.ref 0), some (.int x0)] [] (hCm b d k s w ik ex pr wd sn qu tb ts (r0, rq) h0 h1 h2 h3 fi R) rfl ?_
  refine hX_go 1 (1) [some (.ref 0), some (.int x0)] [.int x0] (hCm b d k s w ik ex pr wd sn qu tb ts (r0, rq) h0 h1 h2 h3 fi R) rfl ?_
  refine hX_sw (bif hEq x0 0 then 48 else bif hEq x0 1 then 56 else bif hEq x0 2 then 64 else bif hEq x0 3 then 72 else bif hEq x0 4 then 80 else bif hEq x0 5 then 88 else bif hEq x0 6 then 96 else bif hEq x0 7 then 104 else 112) rfl (sw_109_1 x0) ?_
  refine hX_if (hEq x0 0) (fun c1 => ?_) (fun c1 => ?_)
  · skip
    have h := gcT c1 h
    refine hX_goM 3 (55) [some (.ref 0), some (.int x0)] [.int b.1] rfl ?_
    have h := Option.some.inj h; subst h
    exact hX_end rfl rfl rfl
  · skip
    have h := gcF c1 h
    refine hX_if (hEq x0 1) (fun c2 => ?_) (fun c2 => ?_)
    · skip
      have h := gcT c2 h
      refine hX_goM 3 (63) [some (.ref 0), some (.int x0)] [.int b.2.2.2.2.1] rfl ?_
      have h := Option.some.inj h; subst h
      exact hX_end rfl rfl rfl
    · skip
      have h := gcF c2 h
      refine hX_if (hEq x0 2) (fun c3 => ?_) (fun c3 => ?_)
      · skip
        have h := gcT c3 h
        refine hX_goM 3 (71) [some (.ref 0), some (.int x0)] [.int b.2.1] rfl ?_
        have h := Option.some.inj h; subst h
        exact hX_end rfl rfl rfl
      · skip
        have h := gcF c3 h
        refine hX_if (hEq x0 3) (fun c4 => ?_) (fun c4 => ?_)
        · skip
          have h := gcT c4 h
          refine hX_goM 3 (79) [some (.ref 0), some (.int x0)] [.int b.2.2.1] rfl ?_
          have h := Option.some.inj h; subst h
          exact hX_end rfl rfl rfl
        · skip
          have h := gcF c4 h
          refine hX_if (hEq x0 4) (fun c5 => ?_) (fun c5 => ?_)
          · skip
            have h := gcT c5 h
            refine hX_goM 2 (84) [some (.ref 0), some (.int x0)] [.ref 1] rfl ?_
            revert h; refine gBindR fun q6 e6 h => ?_
            refine hX_call (r' := zR_21) rfl (mt_21_1 N q6 e6) ?_
            refine hX_goM 0 (87) [some (.ref 0), some (.int x0)] [.int q6] rfl ?_
            have h := Option.some.inj h; subst h
            exact hX_end rfl rfl rfl
          · skip
            have h := gcF c5 h
            refine hX_if (hEq x0 5) (fun c7 => ?_) (fun c7 => ?_)
            · skip
              have h := gcT c7 h
              refine hX_goM 3 (95) [some (.ref 0), some (.int x0)] [.int ts] rfl ?_
              have h := Option.some.inj h; subst h
              exact hX_end rfl rfl rfl
            · skip
              have h := gcF c7 h
              refine hX_if (hEq x0 6) (fun c8 => ?_) (fun c8 => ?_)
              · skip
                have h := gcT c8 h
                refine hX_goM 3 (103) [some (.ref 0), some (.int x0)] [.int b.2.2.2.1] rfl ?_
                have h := Option.some.inj h; subst h
                exact hX_end rfl rfl rfl
              · skip
                have h := gcF c8 h
                refine hX_if (hEq x0 7) (fun c9 => ?_) (fun c9 => ?_)
                · skip
                  have h := gcT c9 h
                  refine hX_goM 2 (108) [some (.ref 0), some (.int x0)] [.ref 1] rfl ?_
                  revert h; refine gBindR fun q10 e10 h => ?_
                  refine hX_call (r' := zR_29) rfl (mt_29_1 N q10 e10) ?_
                  refine hX_goM 0 (111) [some (.ref 0), some (.int x0)] [.int q10] rfl ?_
                  have h := Option.some.inj h; subst h
                  exact hX_end rfl rfl rfl
                · skip
                  have h := gcF c9 h
                  refine hX_goM 2 (114) [some (.ref 0), some (.int x0)] [.int 0, .ref 0] rfl ?_
                  refine hX_call (r' := zR_111) rfl (ct_111_0 0 rfl) ?_
                  refine hX_go 0 (117) [some (.ref 0), some (.int x0)] [.int (v_111_0 0)] (hCm b d k s w ik ex pr wd sn qu tb ts (r0, rq) h0 h1 h2 h3 (f_111_0_fi 0 fi) R) rfl ?_
                  have h := Option.some.inj h; subst h
                  exact hX_end rfl rfl rfl

/-- UpOneSide.status: the loop at 31 -/
def lp_110_0_31 (N : Nat) (fi : Nat → Int32) : Nat → Int32 → Int32 → Option (Int32 × Int32)
  | 0, _, _ => none
  | n + 1, y2, y3 =>
    (bif gCmp .ge y3 7 then
      some (y2, y3)
    else
      (bif gIn y3 7 then lp_110_0_31 N fi n (y2 + (fi (Int32.toNatClampNeg y3))) (y3 + 1) else none))
set_option maxRecDepth 20000 in
set_option maxHeartbeats 4000000 in
theorem lt_110_0_31 {LL : Nat} {xs : Nat → Int32} {D N : Nat} {b d k s w : hB} {ik ex pr wd : Int32} {sn : Nat → Int64} {qu tb : Nat → Int32} {ts : Int32} {r0 : Value} {rq : hRq} {h0 h1 h2 h3 : hSt} {fi : Nat → Int32} {R : List gE} {y1 : Int32} {v : Option Value} {M' : List gE} : ∀ (n : Nat) (y2 : Int32) (y3 : Int32) (q : Int32 × Int32), lp_110_0_31 N fi n y2 y3 = some q → (kk : hX (gO LL xs) (D + 1) zR_110 55 [some (.ref 0), some (.int y1), some (.int q.1), some (.int q.2)] [] (hCm b d k s w ik ex pr wd sn qu tb ts (r0, rq) h0 h1 h2 h3 fi R) v M') → hX (gO LL xs) (D + 1) zR_110 31 [some (.ref 0), some (.int y1), some (.int y2), some (.int y3)] [] (hCm b d k s w ik ex pr wd sn qu tb ts (r0, rq) h0 h1 h2 h3 fi R) v M' := by
  intro n
  induction n with
  | zero => intro y2 y3 q h; cases h
  | succ n ih =>
    intro y2 y3 q h kk
    rw [lp_110_0_31] at h
    refine hX_go 5 (bif gCmp .ge y3 7 then 55 else 40) [some (.ref 0), some (.int y1), some (.int y2), some (.int y3)] [] (hCm b d k s w ik ex pr wd sn qu tb ts (r0, rq) h0 h1 h2 h3 fi R) rfl ?_
    refine hX_if (gCmp .ge y3 7) (fun c1 => ?_) (fun c1 => ?_)
    · skip
      have h := gcT c1 h
      have h := Option.some.inj h; subst h
      exact kk
    · skip
      have h := gcF c1 h
      refine hX_goM 4 (46) [some (.ref 0), some (.int y1), some (.int y2), some (.int y3)] [.int y3, .ref 54, .int y2] rfl ?_
      revert h; refine gCondR fun g2 h => ?_
      refine hX_gM (gIn y3 7) 47 [some (.ref 0), some (.int y1), some (.int y2), some (.int y3)] [.int (fi (Int32.toNatClampNeg y3)), .int y2] rfl g2 ?_
      refine hX_goM 4 (31) [some (.ref 0), some (.int y1), some (.int (y2 + (fi (Int32.toNatClampNeg y3)))), some (.int (y3 + 1))] [] rfl ?_
      exact ih (y2 + (fi (Int32.toNatClampNeg y3))) (y3 + 1) q h kk

/-- UpOneSide.status(I)I -/
def me_110_0 (N : Nat) (x0 : Int32) (fi : Nat → Int32) : Option (Int32 × (Nat → Int32)) :=
  (bif gCmp .ne (v_112 x0 (-1) 6) 0 then
    (bif gCmp .lt x0 0 then
      (Option.bind (lp_110_0_31 N fi N 0 0) fun q3 =>
      some (q3.1, fi))
    else
      (bif gIn x0 7 then some (fi (Int32.toNatClampNeg x0), fi) else none))
  else
    some (v_111_0 0, f_111_0_fi 0 fi))
set_option maxRecDepth 20000 in
set_option maxHeartbeats 4000000 in
theorem mt_110_0 {LL : Nat} {xs : Nat → Int32} {D : Nat} {b d k s w : hB} {ik ex pr wd : Int32} {sn : Nat → Int64} {qu tb : Nat → Int32} {ts : Int32} {r0 : Value} {rq : hRq} {h0 h1 h2 h3 : hSt} {fi : Nat → Int32} {R : List gE} (N : Nat) (x0 : Int32) (q : Int32 × (Nat → Int32)) (h : me_110_0 N x0 fi = some q) : hM (gO LL xs) (D + 1) zR_110 [.ref 0, .int x0] (hCm b d k s w ik ex pr wd sn qu tb ts (r0, rq) h0 h1 h2 h3 fi R) (some (.int q.1)) (hCm b d k s w ik ex pr wd sn qu tb ts (r0, rq) h0 h1 h2 h3 q.2 R) := by
  unfold me_110_0 at h
  refine hX_go 0 0 [some (.ref 0), some (.int x0), none, none] [] (hCm b d k s w ik ex pr wd sn qu tb ts (r0, rq) h0 h1 h2 h3 fi R) rfl ?_
  refine hX_go 3 (4) [some (.ref 0), some (.int x0), none, none] [.int 6, .int (-1), .int x0] (hCm b d k s w ik ex pr wd sn qu tb ts (r0, rq) h0 h1 h2 h3 fi R) rfl ?_
  refine hX_call (r' := zR_112) rfl (ct_112 x0 (-1) 6) ?_
  refine hX_goM 1 (bif gCmp .ne (v_112 x0 (-1) 6) 0 then 16 else 10) [some (.ref 0), some (.int x0), none, none] [] rfl ?_
  refine hX_if (gCmp .ne (v_112 x0 (-1) 6) 0) (fun c1 => ?_) (fun c1 => ?_)
  · skip
    have h := gcT c1 h
    refine hX_goM 2 (bif gCmp .lt x0 0 then 27 else 20) [some (.ref 0), some (.int x0), none, none] [] rfl ?_
    refine hX_if (gCmp .lt x0 0) (fun c2 => ?_) (fun c2 => ?_)
    · skip
      have h := gcT c2 h
      refine hX_goM 4 (31) [some (.ref 0), some (.int x0), some (.int 0), some (.int 0)] [] rfl ?_
      revert h; refine gBindR fun q3 e3 h => ?_
      refine lt_110_0_31 N 0 0 q3 e3 ?_
      refine hX_goM 1 (56) [some (.ref 0), some (.int x0), some (.int q3.1), some (.int q3.2)] [.int q3.1] rfl ?_
      have h := Option.some.inj h; subst h
      exact hX_end rfl rfl rfl
    · skip
      have h := gcF c2 h
      refine hX_goM 3 (25) [some (.ref 0), some (.int x0), none, none] [.int x0, .ref 54] rfl ?_
      revert h; refine gCondR fun g4 h => ?_
      refine hX_gM (gIn x0 7) 26 [some (.ref 0), some (.int x0), none, none] [.int (fi (Int32.toNatClampNeg x0))] rfl g4 ?_
      have h := Option.some.inj h; subst h
      exact hX_end rfl rfl rfl
  · skip
    have h := gcF c1 h
    refine hX_goM 2 (12) [some (.ref 0), some (.int x0), none, none] [.int 0, .ref 0] rfl ?_
    refine hX_call (r' := zR_111) rfl (ct_111_0 0 rfl) ?_
    refine hX_go 0 (15) [some (.ref 0), some (.int x0), none, none] [.int (v_111_0 0)] (hCm b d k s w ik ex pr wd sn qu tb ts (r0, rq) h0 h1 h2 h3 (f_111_0_fi 0 fi) R) rfl ?_
    have h := Option.some.inj h; subst h
    exact hX_end rfl rfl rfl
