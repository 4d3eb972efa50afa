/-- UpOneSide.write(III)I -/
def me_102_0 (N : Nat) (x0 : Int32) (x1 : Int32) (x2 : Int32) (h0 : hSt) (h1 : hSt) (h2 : hSt) (h3 : hSt) (fi : Nat → Int32) : Option (Int32 × hSt × hSt × hSt × hSt × (Nat → Int32)) :=
  (bif gCmp .lt x0 0 then
    some (v_111_0 0, h0, h1, h2, h3, f_111_0_fi 0 fi)
  else
    (bif gCmp .lt x0 4 then
      (bif hEq x0 0 then
        (bif gCmp .eq (v_53_55 h0) 0 then
          (bif gCmp .ne (v_112 x1 0 (h0.2.2 - 1)) 0 then
            (bif (!(gCmp .ne h0.2.1 8) || (!(gCmp .ne h0.2.1 16) || (gIn x1 40))) then (bif (!(gCmp .ne h0.2.1 8) || ((gCmp .ne h0.2.1 16) || (gIn x1 40))) then (bif ((gCmp .ne h0.2.1 8) || (gIn x1 40)) then some (1, (f_55_55_h0 x1 x2 h0), h1, h2, h3, fi) else none) else none) else none)
          else
            some (v_111_0 0, h0, h1, h2, h3, f_111_0_fi 0 fi))
        else
          some (v_111_0 5, h0, h1, h2, h3, f_111_0_fi 5 fi))
      else
        (bif hEq x0 1 then
          (bif gCmp .eq (v_53_57 h1) 0 then
            (bif gCmp .ne (v_112 x1 0 (h1.2.2 - 1)) 0 then
              (bif (!(gCmp .ne h1.2.1 8) || (!(gCmp .ne h1.2.1 16) || (gIn x1 40))) then (bif (!(gCmp .ne h1.2.1 8) || ((gCmp .ne h1.2.1 16) || (gIn x1 40))) then (bif ((gCmp .ne h1.2.1 8) || (gIn x1 40)) then some (1, h0, (f_55_57_h1 x1 x2 h1), h2, h3, fi) else none) else none) else none)
            else
              some (v_111_0 0, h0, h1, h2, h3, f_111_0_fi 0 fi))
          else
            some (v_111_0 5, h0, h1, h2, h3, f_111_0_fi 5 fi))
        else
          (bif hEq x0 2 then
            (bif gCmp .eq (v_53_59 h2) 0 then
              (bif gCmp .ne (v_112 x1 0 (h2.2.2 - 1)) 0 then
                (bif (!(gCmp .ne h2.2.1 8) || (!(gCmp .ne h2.2.1 16) || (gIn x1 40))) then (bif (!(gCmp .ne h2.2.1 8) || ((gCmp .ne h2.2.1 16) || (gIn x1 40))) then (bif ((gCmp .ne h2.2.1 8) || (gIn x1 40)) then some (1, h0, h1, (f_55_59_h2 x1 x2 h2), h3, fi) else none) else none) else none)
              else
                some (v_111_0 0, h0, h1, h2, h3, f_111_0_fi 0 fi))
            else
              some (v_111_0 5, h0, h1, h2, h3, f_111_0_fi 5 fi))
          else
            (bif gCmp .eq (v_53_61 h3) 0 then
              (bif gCmp .ne (v_112 x1 0 (h3.2.2 - 1)) 0 then
                (bif (!(gCmp .ne h3.2.1 8) || (!(gCmp .ne h3.2.1 16) || (gIn x1 40))) then (bif (!(gCmp .ne h3.2.1 8) || ((gCmp .ne h3.2.1 16) || (gIn x1 40))) then (bif ((gCmp .ne h3.2.1 8) || (gIn x1 40)) then some (1, h0, h1, h2, (f_55_61_h3 x1 x2 h3), fi) else none) else none) else none)
              else
                some (v_111_0 0, h0, h1, h2, h3, f_111_0_fi 0 fi))
            else
              some (v_111_0 5, h0, h1, h2, h3, f_111_0_fi 5 fi)))))
    else
      some (v_111_0 0, h0, h1, h2, h3, f_111_0_fi 0 fi)))
set_option maxRecDepth 20000 in
set_option maxHeartbeats 4000000 in
theorem mt_102_0 {LL : Nat} {xs : Nat → Int32} {D : Nat} {b d k s w : hB} {ik ex pr wd : Int32} {sn : Nat → Int64} {qu tb : Nat → Int32} {ts : Int32} {r0 : Value} {rq : hRq} {h0 h1 h2 h3 : hSt} {fi : Nat → Int32} {R : List gE} (N : Nat) (x0 : Int32) (x1 : Int32) (x2 : Int32) (q : Int32 × hSt × hSt × hSt × hSt × (Nat → Int32)) (h : me_102_0 N x0 x1 x2 h0 h1 h2 h3 fi = some q) : hM (gO LL xs) (D + 1) zR_102 [.ref 0, .int x0, .int x1, .int x2] (hCm b d k s w ik ex pr wd sn qu tb ts (r0, rq) h0 h1 h2 h3 fi R) (some (.int q.1)) (hCm b d k s w ik ex pr wd sn qu tb ts (r0, rq) q.2.1 q.2.2.1 q.2.2.2.1 q.2.2.2.2.1 q.2.2.2.2.2 R) := by
  unfold me_102_0 at h
  refine hX_go 0 0 [some (.ref 0), some (.int x0), some (.int x1), some (.int x2), none] [] (hCm b d k s w ik ex pr wd sn qu tb ts (r0, rq) h0 h1 h2 h3 fi R) rfl ?_
  refine hX_go 2 (2) [some (.ref 0), some (.int x0), some (.int x1), some (.int x2), none] [.int x0, .ref 0] (hCm b d k s w ik ex pr wd sn qu tb ts (r0, rq) h0 h1 h2 h3 fi R) rfl ?_
  refine hX_bif (gCmp .lt x0 0) (fun c1 => ?_) (fun c1 => ?_)
  · skip
    have h := gcT c1 h
    refine hX_call (r' := zR_114) rfl (ct_114_0_0 x0 c1) ?_
    refine hX_goM 5 (14) [some (.ref 0), some (.int x0), some (.int x1), some (.int x2), some (.null)] [.int 0, .ref 0] rfl ?_
    refine hX_call (r' := zR_111) rfl (ct_111_0 0 rfl) ?_
    refine hX_go 0 (17) [some (.ref 0), some (.int x0), some (.int x1), some (.int x2), some (.null)] [.int (v_111_0 0)] (hCm b d k s w ik ex pr wd sn qu tb ts (r0, rq) h0 h1 h2 h3 (f_111_0_fi 0 fi) R) rfl ?_
    have h := Option.some.inj h; subst h
    exact hX_end rfl rfl rfl
  · skip
    have h := gcF c1 h
    refine hX_bif (gCmp .lt x0 4) (fun c2 => ?_) (fun c2 => ?_)
    · skip
      have h := gcT c2 h
      refine hX_bif (hEq x0 0) (fun c3 => ?_) (fun c3 => ?_)
      · skip
        have h := gcT c3 h
        refine hX_call (r' := zR_114) rfl (ct_114_0_2 x0 c1 c2 c3) ?_
        refine hX_goM 4 (20) [some (.ref 0), some (.int x0), some (.int x1), some (.int x2), some (.ref 55)] [.ref 55] rfl ?_
        refine hX_call (r' := zR_53) rfl (ct_53_55) ?_
        refine hX_goM 1 (bif gCmp .eq (v_53_55 h0) 0 then 32 else 26) [some (.ref 0), some (.int x0), some (.int x1), some (.int x2), some (.ref 55)] [] rfl ?_
        refine hX_if (gCmp .eq (v_53_55 h0) 0) (fun c4 => ?_) (fun c4 => ?_)
        · skip
          have h := gcT c4 h
          refine hX_goM 6 (41) [some (.ref 0), some (.int x0), some (.int x1), some (.int x2), some (.ref 55)] [.int (h0.2.2 - 1), .int 0, .int x1] rfl ?_
          refine hX_call (r' := zR_112) rfl (ct_112 x1 0 (h0.2.2 - 1)) ?_
          refine hX_goM 1 (bif gCmp .ne (v_112 x1 0 (h0.2.2 - 1)) 0 then 53 else 47) [some (.ref 0), some (.int x0), some (.int x1), some (.int x2), some (.ref 55)] [] rfl ?_
          refine hX_if (gCmp .ne (v_112 x1 0 (h0.2.2 - 1)) 0) (fun c5 => ?_) (fun c5 => ?_)
          · skip
            have h := gcT c5 h
            refine hX_goM 3 (57) [some (.ref 0), some (.int x0), some (.int x1), some (.int x2), some (.ref 55)] [.int x2, .int x1, .ref 55] rfl ?_
            revert h; refine gCondR fun g6 h => ?_
            revert h; refine gCondR fun g7 h => ?_
            revert h; refine gCondR fun g8 h => ?_
            refine hX_call (r' := zR_55) rfl (ct_55_55 x1 x2 (fun u0 u1 => (gImpT (gImpT g6 u0) u1)) (fun u0 u1 => (gImpF (gImpT g7 u0) u1)) (fun u0 => (gImpF g8 u0))) ?_
            refine hX_go 1 (61) [some (.ref 0), some (.int x0), some (.int x1), some (.int x2), some (.ref 55)] [.int 1] (hCm b d k s w ik ex pr wd sn qu tb ts (r0, rq) (f_55_55_h0 x1 x2 h0) h1 h2 h3 fi R) rfl ?_
            have h := Option.some.inj h; subst h
            exact hX_end rfl rfl rfl
          · skip
            have h := gcF c5 h
            refine hX_goM 2 (49) [some (.ref 0), some (.int x0), some (.int x1), some (.int x2), some (.ref 55)] [.int 0, .ref 0] rfl ?_
            refine hX_call (r' := zR_111) rfl (ct_111_0 0 rfl) ?_
            refine hX_go 0 (52) [some (.ref 0), some (.int x0), some (.int x1), some (.int x2), some (.ref 55)] [.int (v_111_0 0)] (hCm b d k s w ik ex pr wd sn qu tb ts (r0, rq) h0 h1 h2 h3 (f_111_0_fi 0 fi) R) rfl ?_
            have h := Option.some.inj h; subst h
            exact hX_end rfl rfl rfl
        · skip
          have h := gcF c4 h
          refine hX_goM 2 (28) [some (.ref 0), some (.int x0), some (.int x1), some (.int x2), some (.ref 55)] [.int 5, .ref 0] rfl ?_
          refine hX_call (r' := zR_111) rfl (ct_111_0 5 rfl) ?_
          refine hX_go 0 (31) [some (.ref 0), some (.int x0), some (.int x1), some (.int x2), some (.ref 55)] [.int (v_111_0 5)] (hCm b d k s w ik ex pr wd sn qu tb ts (r0, rq) h0 h1 h2 h3 (f_111_0_fi 5 fi) R) rfl ?_
          have h := Option.some.inj h; subst h
          exact hX_end rfl rfl rfl
      · skip
        have h := gcF c3 h
        refine hX_bif (hEq x0 1) (fun c9 => ?_) (fun c9 => ?_)
        · skip
          have h := gcT c9 h
          refine hX_call (r' := zR_114) rfl (ct_114_0_3 x0 c1 c2 c3 c9) ?_
          refine hX_goM 4 (20) [some (.ref 0), some (.int x0), some (.int x1), some (.int x2), some (.ref 57)] [.ref 57] rfl ?_
          refine hX_call (r' := zR_53) rfl (ct_53_57) ?_
          refine hX_goM 1 (bif gCmp .eq (v_53_57 h1) 0 then 32 else 26) [some (.ref 0), some (.int x0), some (.int x1), some (.int x2), some (.ref 57)] [] rfl ?_
          refine hX_if (gCmp .eq (v_53_57 h1) 0) (fun c10 => ?_) (fun c10 => ?_)
          · skip
            have h := gcT c10 h
            refine hX_goM 6 (41) [some (.ref 0), some (.int x0), some (.int x1), some (.int x2), some (.ref 57)] [.int (h1.2.2 - 1), .int 0, .int x1] rfl ?_
            refine hX_call (r' := zR_112) rfl (ct_112 x1 0 (h1.2.2 - 1)) ?_
            refine hX_goM 1 (bif gCmp .ne (v_112 x1 0 (h1.2.2 - 1)) 0 then 53 else 47) [some (.ref 0), some (.int x0), some (.int x1), some (.int x2), some (.ref 57)] [] rfl ?_
            refine hX_if (gCmp .ne (v_112 x1 0 (h1.2.2 - 1)) 0) (fun c11 => ?_) (fun c11 => ?_)
            · skip
              have h := gcT c11 h
              refine hX_goM 3 (57) [some (.ref 0), some (.int x0), some (.int x1), some (.int x2), some (.ref 57)] [.int x2, .int x1, .ref 57] rfl ?_
              revert h; refine gCondR fun g12 h => ?_
              revert h; refine gCondR fun g13 h => ?_
              revert h; refine gCondR fun g14 h => ?_
              refine hX_call (r' := zR_55) rfl (ct_55_57 x1 x2 (fun u0 u1 => (gImpT (gImpT g12 u0) u1)) (fun u0 u1 => (gImpF (gImpT g13 u0) u1)) (fun u0 => (gImpF g14 u0))) ?_
              refine hX_go 1 (61) [some (.ref 0), some (.int x0), some (.int x1), some (.int x2), some (.ref 57)] [.int 1] (hCm b d k s w ik ex pr wd sn qu tb ts (r0, rq) h0 (f_55_57_h1 x1 x2 h1) h2 h3 fi R) rfl ?_
              have h := Option.some.inj h; subst h
              exact hX_end rfl rfl rfl
            · skip
              have h := gcF c11 h
              refine hX_goM 2 (49) [some (.ref 0), some (.int x0), some (.int x1), some (.int x2), some (.ref 57)] [.int 0, .ref 0] rfl ?_
              refine hX_call (r' := zR_111) rfl (ct_111_0 0 rfl) ?_
              refine hX_go 0 (52) [some (.ref 0), some (.int x0), some (.int x1), some (.int x2), some (.ref 57)] [.int (v_111_0 0)] (hCm b d k s w ik ex pr wd sn qu tb ts (r0, rq) h0 h1 h2 h3 (f_111_0_fi 0 fi) R) rfl ?_
              have h := Option.some.inj h; subst h
              exact hX_end rfl rfl rfl
          · skip
            have h := gcF c10 h
            refine hX_goM 2 (28) [some (.ref 0), some (.int x0), some (.int x1), some (.int x2), some (.ref 57)] [.int 5, .ref 0] rfl ?_
            refine hX_call (r' := zR_111) rfl (ct_111_0 5 rfl) ?_
            refine hX_go 0 (31) [some (.ref 0), some (.int x0), some (.int x1), some (.int x2), some (.ref 57)] [.int (v_111_0 5)] (hCm b d k s w ik ex pr wd sn qu tb ts (r0, rq) h0 h1 h2 h3 (f_111_0_fi 5 fi) R) rfl ?_
            have h := Option.some.inj h; subst h
            exact hX_end rfl rfl rfl
        · skip
          have h := gcF c9 h
          refine hX_bif (hEq x0 2) (fun c15 => ?_) (fun c15 => ?_)
          · skip
            have h := gcT c15 h
            refine hX_call (r' := zR_114) rfl (ct_114_0_4 x0 c1 c2 c3 c9 c15) ?_
            refine hX_goM 4 (20) [some (.ref 0), some (.int x0), some (.int x1), some (.int x2), some (.ref 59)] [.ref 59] rfl ?_
            refine hX_call (r' := zR_53) rfl (ct_53_59) ?_
            refine hX_goM 1 (bif gCmp .eq (v_53_59 h2) 0 then 32 else 26) [some (.ref 0), some (.int x0), some (.int x1), some (.int x2), some (.ref 59)] [] rfl ?_
            refine hX_if (gCmp .eq (v_53_59 h2) 0) (fun c16 => ?_) (fun c16 => ?_)
            · skip
              have h := gcT c16 h
              refine hX_goM 6 (41) [some (.ref 0), some (.int x0), some (.int x1), some (.int x2), some (.ref 59)] [.int (h2.2.2 - 1), .int 0, .int x1] rfl ?_
              refine hX_call (r' := zR_112) rfl (ct_112 x1 0 (h2.2.2 - 1)) ?_
              refine hX_goM 1 (bif gCmp .ne (v_112 x1 0 (h2.2.2 - 1)) 0 then 53 else 47) [some (.ref 0), some (.int x0), some (.int x1), some (.int x2), some (.ref 59)] [] rfl ?_
              refine hX_if (gCmp .ne (v_112 x1 0 (h2.2.2 - 1)) 0) (fun c17 => ?_) (fun c17 => ?_)
              · skip
                have h := gcT c17 h
                refine hX_goM 3 (57) [some (.ref 0), some (.int x0), some (.int x1), some (.int x2), some (.ref 59)] [.int x2, .int x1, .ref 59] rfl ?_
                revert h; refine gCondR fun g18 h => ?_
                revert h; refine gCondR fun g19 h => ?_
                revert h; refine gCondR fun g20 h => ?_
                refine hX_call (r' := zR_55) rfl (ct_55_59 x1 x2 (fun u0 u1 => (gImpT (gImpT g18 u0) u1)) (fun u0 u1 => (gImpF (gImpT g19 u0) u1)) (fun u0 => (gImpF g20 u0))) ?_
                refine hX_go 1 (61) [some (.ref 0), some (.int x0), some (.int x1), some (.int x2), some (.ref 59)] [.int 1] (hCm b d k s w ik ex pr wd sn qu tb ts (r0, rq) h0 h1 (f_55_59_h2 x1 x2 h2) h3 fi R) rfl ?_
                have h := Option.some.inj h; subst h
                exact hX_end rfl rfl rfl
              · skip
                have h := gcF c17 h
                refine hX_goM 2 (49) [some (.ref 0), some (.int x0), some (.int x1), some (.int x2), some (.ref 59)] [.int 0, .ref 0] rfl ?_
                refine hX_call (r' := zR_111) rfl (ct_111_0 0 rfl) ?_
                refine hX_go 0 (52) [some (.ref 0), some (.int x0), some (.int x1), some (.int x2), some (.ref 59)] [.int (v_111_0 0)] (hCm b d k s w ik ex pr wd sn qu tb ts (r0, rq) h0 h1 h2 h3 (f_111_0_fi 0 fi) R) rfl ?_
                have h := Option.some.inj h; subst h
                exact hX_end rfl rfl rfl
            · skip
              have h := gcF c16 h
              refine hX_goM 2 (28) [some (.ref 0), some (.int x0), some (.int x1), some (.int x2), some (.ref 59)] [.int 5, .ref 0] rfl ?_
              refine hX_call (r' := zR_111) rfl (ct_111_0 5 rfl) ?_
              refine hX_go 0 (31) [some (.ref 0), some (.int x0), some (.int x1), some (.int x2), some (.ref 59)] [.int (v_111_0 5)] (hCm b d k s w ik ex pr wd sn qu tb ts (r0, rq) h0 h1 h2 h3 (f_111_0_fi 5 fi) R) rfl ?_
              have h := Option.some.inj h; subst h
              exact hX_end rfl rfl rfl
          · skip
            have h := gcF c15 h
            refine hX_call (r' := zR_114) rfl (ct_114_0_5 x0 c1 c2 c3 c9 c15) ?_
            refine hX_goM 4 (20) [some (.ref 0), some (.int x0), some (.int x1), some (.int x2), some (.ref 61)] [.ref 61] rfl ?_
            refine hX_call (r' := zR_53) rfl (ct_53_61) ?_
            refine hX_goM 1 (bif gCmp .eq (v_53_61 h3) 0 then 32 else 26) [some (.ref 0), some (.int x0), some (.int x1), some (.int x2), some (.ref 61)] [] rfl ?_
            refine hX_if (gCmp .eq (v_53_61 h3) 0) (fun c21 => ?_) (fun c21 => ?_)
            · skip
              have h := gcT c21 h
              refine hX_goM 6 (41) [some (.ref 0), some (.int x0), some (.int x1), some (.int x2), some (.ref 61)] [.int (h3.2.2 - 1), .int 0, .int x1] rfl ?_
              refine hX_call (r' := zR_112) rfl (ct_112 x1 0 (h3.2.2 - 1)) ?_
              refine hX_goM 1 (bif gCmp .ne (v_112 x1 0 (h3.2.2 - 1)) 0 then 53 else 47) [some (.ref 0), some (.int x0), some (.int x1), some (.int x2), some (.ref 61)] [] rfl ?_
              refine hX_if (gCmp .ne (v_112 x1 0 (h3.2.2 - 1)) 0) (fun c22 => ?_) (fun c22 => ?_)
              · skip
                have h := gcT c22 h
                refine hX_goM 3 (57) [some (.ref 0), some (.int x0), some (.int x1), some (.int x2), some (.ref 61)] [.int x2, .int x1, .ref 61] rfl ?_
                revert h; refine gCondR fun g23 h => ?_
                revert h; refine gCondR fun g24 h => ?_
                revert h; refine gCondR fun g25 h => ?_
                refine hX_call (r' := zR_55) rfl (ct_55_61 x1 x2 (fun u0 u1 => (gImpT (gImpT g23 u0) u1)) (fun u0 u1 => (gImpF (gImpT g24 u0) u1)) (fun u0 => (gImpF g25 u0))) ?_
                refine hX_go 1 (61) [some (.ref 0), some (.int x0), some (.int x1), some (.int x2), some (.ref 61)] [.int 1] (hCm b d k s w ik ex pr wd sn qu tb ts (r0, rq) h0 h1 h2 (f_55_61_h3 x1 x2 h3) fi R) rfl ?_
                have h := Option.some.inj h; subst h
                exact hX_end rfl rfl rfl
              · skip
                have h := gcF c22 h
                refine hX_goM 2 (49) [some (.ref 0), some (.int x0), some (.int x1), some (.int x2), some (.ref 61)] [.int 0, .ref 0] rfl ?_
                refine hX_call (r' := zR_111) rfl (ct_111_0 0 rfl) ?_
                refine hX_go 0 (52) [some (.ref 0), some (.int x0), some (.int x1), some (.int x2), some (.ref 61)] [.int (v_111_0 0)] (hCm b d k s w ik ex pr wd sn qu tb ts (r0, rq) h0 h1 h2 h3 (f_111_0_fi 0 fi) R) rfl ?_
                have h := Option.some.inj h; subst h
                exact hX_end rfl rfl rfl
            · skip
              have h := gcF c21 h
              refine hX_goM 2 (28) [some (.ref 0), some (.int x0), some (.int x1), some (.int x2), some (.ref 61)] [.int 5, .ref 0] rfl ?_
              refine hX_call (r' := zR_111) rfl (ct_111_0 5 rfl) ?_
              refine hX_go 0 (31) [some (.ref 0), some (.int x0), some (.int x1), some (.int x2), some (.ref 61)] [.int (v_111_0 5)] (hCm b d k s w ik ex pr wd sn qu tb ts (r0, rq) h0 h1 h2 h3 (f_111_0_fi 5 fi) R) rfl ?_
              have h := Option.some.inj h; subst h
              exact hX_end rfl rfl rfl
    · skip
      have h := gcF c2 h
      refine hX_call (r' := zR_114) rfl (ct_114_0_1 x0 c1 c2) ?_
      refine hX_goM 5 (14) [some (.ref 0), some (.int x0), some (.int x1), some (.int x2), some (.null)] [.int 0, .ref 0] rfl ?_
      refine hX_call (r' := zR_111) rfl (ct_111_0 0 rfl) ?_
      refine hX_go 0 (17) [some (.ref 0), some (.int x0), some (.int x1), some (.int x2), some (.null)] [.int (v_111_0 0)] (hCm b d k s w ik ex pr wd sn qu tb ts (r0, rq) h0 h1 h2 h3 (f_111_0_fi 0 fi) R) rfl ?_
      have h := Option.some.inj h; subst h
      exact hX_end rfl rfl rfl

/-- UpOneSide$Sheet.has(II)Z -/
def v_56_55 (x0 : Int32) (x1 : Int32) (h0 : hSt) : Int32 := bif gCmp .lt x0 0 then 0 else (bif gCmp .lt x1 0 then 0 else (bif gCmp .gt x0 h0.2.2 then 0 else (bif gCmp .gt x1 (h0.2.2 - x0) then 0 else 1)))
set_option maxRecDepth 20000 in
set_option maxHeartbeats 1000000 in
theorem ct_56_55 {LL : Nat} {xs : Nat → Int32} {D : Nat} {b d k s w : hB} {ik ex pr wd : Int32} {sn : Nat → Int64} {qu tb : Nat → Int32} {ts : Int32} {r0 : Value} {rq : hRq} {h0 h1 h2 h3 : hSt} {fi : Nat → Int32} {R : List gE} (x0 : Int32) (x1 : Int32) : hM (gO LL xs) (D + 0) zR_56 [.ref 55, .int x0, .int x1] (hCm b d k s w ik ex pr wd sn qu tb ts (r0, rq) h0 h1 h2 h3 fi R) (some (.int (v_56_55 x0 x1 h0))) (hCm b d k s w ik ex pr wd sn qu tb ts (r0, rq) h0 h1 h2 h3 fi R) := by
  refine hX_go 0 0 [some (.ref 55), some (.int x0), some (.int x1)] [] (hCm b d k s w ik ex pr wd sn qu tb ts (r0, rq) h0 h1 h2 h3 fi R) rfl ?_
  refine hX_go 2 (bif gCmp .lt x0 0 then 30 else 4) [some (.ref 55), some (.int x0), some (.int x1)] [] (hCm b d k s w ik ex pr wd sn qu tb ts (r0, rq) h0 h1 h2 h3 fi R) rfl ?_
  refine hX_if (gCmp .lt x0 0) (fun c1 => ?_) (fun c1 => ?_)
  · skip
    refine hX_goM 1 (31) [some (.ref 55), some (.int x0), some (.int x1)] [.int 0] rfl ?_
    exact hX_end rfl (by unfold v_56_55; rw [c1]; rfl) (rfl)
  · skip
    refine hX_goM 2 (bif gCmp .lt x1 0 then 30 else 8) [some (.ref 55), some (.int x0), some (.int x1)] [] rfl ?_
    refine hX_if (gCmp .lt x1 0) (fun c2 => ?_) (fun c2 => ?_)
    · skip
      refine hX_goM 1 (31) [some (.ref 55), some (.int x0), some (.int x1)] [.int 0] rfl ?_
      exact hX_end rfl (by unfold v_56_55; rw [c1, c2]; rfl) (rfl)
    · skip
      refine hX_goM 4 (bif gCmp .gt x0 h0.2.2 then 30 else 16) [some (.ref 55), some (.int x0), some (.int x1)] [] rfl ?_
      refine hX_if (gCmp .gt x0 h0.2.2) (fun c3 => ?_) (fun c3 => ?_)
      · skip
        refine hX_goM 1 (31) [some (.ref 55), some (.int x0), some (.int x1)] [.int 0] rfl ?_
        exact hX_end rfl (by unfold v_56_55; rw [c1, c2, c3]; rfl) (rfl)
      · skip
        refine hX_goM 6 (bif gCmp .gt x1 (h0.2.2 - x0) then 30 else 26) [some (.ref 55), some (.int x0), some (.int x1)] [] rfl ?_
        refine hX_if (gCmp .gt x1 (h0.2.2 - x0)) (fun c4 => ?_) (fun c4 => ?_)
        · skip
          refine hX_goM 1 (31) [some (.ref 55), some (.int x0), some (.int x1)] [.int 0] rfl ?_
          exact hX_end rfl (by unfold v_56_55; rw [c1, c2, c3, c4]; rfl) (rfl)
        · skip
          refine hX_goM 2 (31) [some (.ref 55), some (.int x0), some (.int x1)] [.int 1] rfl ?_
          exact hX_end rfl (by unfold v_56_55; rw [c1, c2, c3, c4]; rfl) (rfl)

theorem bz_56_55 (x0 : Int32) (x1 : Int32) (h0 : hSt) : (decide (v_56_55 x0 x1 h0 = 0) || decide (v_56_55 x0 x1 h0 = 1)) = true := by
  unfold v_56_55
  cases (gCmp .lt x0 0)
  · cases (gCmp .lt x1 0)
    · cases (gCmp .gt x0 h0.2.2)
      · cases (gCmp .gt x1 (h0.2.2 - x0))
        · rfl
        · rfl
      · rfl
    · rfl
  · rfl

/-- UpOneSide$Sheet.has(II)Z -/
def v_56_57 (x0 : Int32) (x1 : Int32) (h1 : hSt) : Int32 := bif gCmp .lt x0 0 then 0 else (bif gCmp .lt x1 0 then 0 else (bif gCmp .gt x0 h1.2.2 then 0 else (bif gCmp .gt x1 (h1.2.2 - x0) then 0 else 1)))
set_option maxRecDepth 20000 in
set_option maxHeartbeats 1000000 in
theorem ct_56_57 {LL : Nat} {xs : Nat → Int32} {D : Nat} {b d k s w : hB} {ik ex pr wd : Int32} {sn : Nat → Int64} {qu tb : Nat → Int32} {ts : Int32} {r0 : Value} {rq : hRq} {h0 h1 h2 h3 : hSt} {fi : Nat → Int32} {R : List gE} (x0 : Int32) (x1 : Int32) : hM (gO LL xs) (D + 0) zR_56 [.ref 57, .int x0, .int x1] (hCm b d k s w ik ex pr wd sn qu tb ts (r0, rq) h0 h1 h2 h3 fi R) (some (.int (v_56_57 x0 x1 h1))) (hCm b d k s w ik ex pr wd sn qu tb ts (r0, rq) h0 h1 h2 h3 fi R) := by
  refine hX_go 0 0 [some (.ref 57), some (.int x0), some (.int x1)] [] (hCm b d k s w ik ex pr wd sn qu tb ts (r0, rq) h0 h1 h2 h3 fi R) rfl ?_
  refine hX_go 2 (bif gCmp .lt x0 0 then 30 else 4) [some (.ref 57), some (.int x0), some (.int x1)] [] (hCm b d k s w ik ex pr wd sn qu tb ts (r0, rq) h0 h1 h2 h3 fi R) rfl ?_
  refine hX_if (gCmp .lt x0 0) (fun c1 => ?_) (fun c1 => ?_)
  · skip
    refine hX_goM 1 (31) [some (.ref 57), some (.int x0), some (.int x1)] [.int 0] rfl ?_
    exact hX_end rfl (by unfold v_56_57; rw [c1]; rfl) (rfl)
  · skip
    refine hX_goM 2 (bif gCmp .lt x1 0 then 30 else 8) [some (.ref 57), some (.int x0), some (.int x1)] [] rfl ?_
    refine hX_if (gCmp .lt x1 0) (fun c2 => ?_) (fun c2 => ?_)
    · skip
      refine hX_goM 1 (31) [some (.ref 57), some (.int x0), some (.int x1)] [.int 0] rfl ?_
      exact hX_end rfl (by unfold v_56_57; rw [c1, c2]; rfl) (rfl)
    · skip
      refine hX_goM 4 (bif gCmp .gt x0 h1.2.2 then 30 else 16) [some (.ref 57), some (.int x0), some (.int x1)] [] rfl ?_
      refine hX_if (gCmp .gt x0 h1.2.2) (fun c3 => ?_) (fun c3 => ?_)
      · skip
        refine hX_goM 1 (31) [some (.ref 57), some (.int x0), some (.int x1)] [.int 0] rfl ?_
        exact hX_end rfl (by unfold v_56_57; rw [c1, c2, c3]; rfl) (rfl)
      · skip
        refine hX_goM 6 (bif gCmp .gt x1 (h1.2.2 - x0) then 30 else 26) [some (.ref 57), some (.int x0), some (.int x1)] [] rfl ?_
        refine hX_if (gCmp .gt x1 (h1.2.2 - x0)) (fun c4 => ?_) (fun c4 => ?_)
        · skip
          refine hX_goM 1 (31) [some (.ref 57), some (.int x0), some (.int x1)] [.int 0] rfl ?_
          exact hX_end rfl (by unfold v_56_57; rw [c1, c2, c3, c4]; rfl) (rfl)
        · skip
          refine hX_goM 2 (31) [some (.ref 57), some (.int x0), some (.int x1)] [.int 1] rfl ?_
          exact hX_end rfl (by unfold v_56_57; rw [c1, c2, c3, c4]; rfl) (rfl)

theorem bz_56_57 (x0 : Int32) (x1 : Int32) (h1 : hSt) : (decide (v_56_57 x0 x1 h1 = 0) || decide (v_56_57 x0 x1 h1 = 1)) = true := by
  unfold v_56_57
  cases (gCmp .lt x0 0)
  · cases (gCmp .lt x1 0)
    · cases (gCmp .gt x0 h1.2.2)
      · cases (gCmp .gt x1 (h1.2.2 - x0))
        · rfl
        · rfl
      · rfl
    · rfl
  · rfl

/-- UpOneSide$Sheet.has(II)Z -/
def v_56_59 (x0 : Int32) (x1 : Int32) (h2 : hSt) : Int32 := bif gCmp .lt x0 0 then 0 else (bif gCmp .lt x1 0 then 0 else (bif gCmp .gt x0 h2.2.2 then 0 else (bif gCmp .gt x1 (h2.2.2 - x0) then 0 else 1)))
set_option maxRecDepth 20000 in
set_option maxHeartbeats 1000000 in
theorem ct_56_59 {LL : Nat} {xs : Nat → Int32} {D : Nat} {b d k s w : hB} {ik ex pr wd : Int32} {sn : Nat → Int64} {qu tb : Nat → Int32} {ts : Int32} {r0 : Value} {rq : hRq} {h0 h1 h2 h3 : hSt} {fi : Nat → Int32} {R : List gE} (x0 : Int32) (x1 : Int32) : hM (gO LL xs) (D + 0) zR_56 [.ref 59, .int x0, .int x1] (hCm b d k s w ik ex pr wd sn qu tb ts (r0, rq) h0 h1 h2 h3 fi R) (some (.int (v_56_59 x0 x1 h2))) (hCm b d k s w ik ex pr wd sn qu tb ts (r0, rq) h0 h1 h2 h3 fi R) := by
  refine hX_go 0 0 [some (.ref 59), some (.int x0), some (.int x1)] [] (hCm b d k s w ik ex pr wd sn qu tb ts (r0, rq) h0 h1 h2 h3 fi R) rfl ?_
  refine hX_go 2 (bif gCmp .lt x0 0 then 30 else 4) [some (.ref 59), some (.int x0), some (.int x1)] [] (hCm b d k s w ik ex pr wd sn qu tb ts (r0, rq) h0 h1 h2 h3 fi R) rfl ?_
  refine hX_if (gCmp .lt x0 0) (fun c1 => ?_) (fun c1 => ?_)
  · skip
    refine hX_goM 1 (31) [some (.ref 59), some (.int x0), some (.int x1)] [.int 0] rfl ?_
    exact hX_end rfl (by unfold v_56_59; rw [c1]; rfl) (rfl)
  · skip
    refine hX_goM 2 (bif gCmp .lt x1 0 then 30 else 8) [some (.ref 59), some (.int x0), some (.int x1)] [] rfl ?_
    refine hX_if (gCmp .lt x1 0) (fun c2 => ?_) (fun c2 => ?_)
    · skip
      refine hX_goM 1 (31) [some (.ref 59), some (.int x0), some (.int x1)] [.int 0] rfl ?_
      exact hX_end rfl (by unfold v_56_59; rw [c1, c2]; rfl) (rfl)
    · skip
      refine hX_goM 4 (bif gCmp .gt x0 h2.2.2 then 30 else 16) [some (.ref 59), some (.int x0), some (.int x1)] [] rfl ?_
      refine hX_if (gCmp .gt x0 h2.2.2) (fun c3 => ?_) (fun c3 => ?_)
      · skip
        refine hX_goM 1 (31) [some (.ref 59), some (.int x0), some (.int x1)] [.int 0] rfl ?_
        exact hX_end rfl (by unfold v_56_59; rw [c1, c2, c3]; rfl) (rfl)
      · skip
        refine hX_goM 6 (bif gCmp .gt x1 (h2.2.2 - x0) then 30 else 26) [some (.ref 59), some (.int x0), some (.int x1)] [] rfl ?_
        refine hX_if (gCmp .gt x1 (h2.2.2 - x0)) (fun c4 => ?_) (fun c4 => ?_)
        · skip
          refine hX_goM 1 (31) [some (.ref 59), some (.int x0), some (.int x1)] [.int 0] rfl ?_
          exact hX_end rfl (by unfold v_56_59; rw [c1, c2, c3, c4]; rfl) (rfl)
        · skip
          refine hX_goM 2 (31) [some (.ref 59), some (.int x0), some (.int x1)] [.int 1] rfl ?_
          exact hX_end rfl (by unfold v_56_59; rw [c1, c2, c3, c4]; rfl) (rfl)

theorem bz_56_59 (x0 : Int32) (x1 : Int32) (h2 : hSt) : (decide (v_56_59 x0 x1 h2 = 0) || decide (v_56_59 x0 x1 h2 = 1)) = true := by
  unfold v_56_59
  cases (gCmp .lt x0 0)
  · cases (gCmp .lt x1 0)
    · cases (gCmp .gt x0 h2.2.2)
      · cases (gCmp .gt x1 (h2.2.2 - x0))
        · rfl
        · rfl
      · rfl
    · rfl
  · rfl

/-- UpOneSide$Sheet.has(II)Z -/
def v_56_61 (x0 : Int32) (x1 : Int32) (h3 : hSt) : Int32 := bif gCmp .lt x0 0 then 0 else (bif gCmp .lt x1 0 then 0 else (bif gCmp .gt x0 h3.2.2 then 0 else (bif gCmp .gt x1 (h3.2.2 - x0) then 0 else 1)))
set_option maxRecDepth 20000 in
set_option maxHeartbeats 1000000 in
theorem ct_56_61 {LL : Nat} {xs : Nat → Int32} {D : Nat} {b d k s w : hB} {ik ex pr wd : Int32} {sn : Nat → Int64} {qu tb : Nat → Int32} {ts : Int32} {r0 : Value} {rq : hRq} {h0 h1 h2 h3 : hSt} {fi : Nat → Int32} {R : List gE} (x0 : Int32) (x1 : Int32) : hM (gO LL xs) (D + 0) zR_56 [.ref 61, .int x0, .int x1] (hCm b d k s w ik ex pr wd sn qu tb ts (r0, rq) h0 h1 h2 h3 fi R) (some (.int (v_56_61 x0 x1 h3))) (hCm b d k s w ik ex pr wd sn qu tb ts (r0, rq) h0 h1 h2 h3 fi R) := by
  refine hX_go 0 0 [some (.ref 61), some (.int x0), some (.int x1)] [] (hCm b d k s w ik ex pr wd sn qu tb ts (r0, rq) h0 h1 h2 h3 fi R) rfl ?_
  refine hX_go 2 (bif gCmp .lt x0 0 then 30 else 4) [some (.ref 61), some (.int x0), some (.int x1)] [] (hCm b d k s w ik ex pr wd sn qu tb ts (r0, rq) h0 h1 h2 h3 fi R) rfl ?_
  refine hX_if (gCmp .lt x0 0) (fun c1 => ?_) (fun c1 => ?_)
  · skip
    refine hX_goM 1 (31) [some (.ref 61), some (.int x0), some (.int x1)] [.int 0] rfl ?_
    exact hX_end rfl (by unfold v_56_61; rw [c1]; rfl) (rfl)
  · skip
    refine hX_goM 2 (bif gCmp .lt x1 0 then 30 else 8) [some (.ref 61), some (.int x0), some (.int x1)] [] rfl ?_
    refine hX_if (gCmp .lt x1 0) (fun c2 => ?_) (fun c2 => ?_)
    · skip
      refine hX_goM 1 (31) [some (.ref 61), some (.int x0), some (.int x1)] [.int 0] rfl ?_
      exact hX_end rfl (by unfold v_56_61; rw [c1, c2]; rfl) (rfl)
    · skip
      refine hX_goM 4 (bif gCmp .gt x0 h3.2.2 then 30 else 16) [some (.ref 61), some (.int x0), some (.int x1)] [] rfl ?_
      refine hX_if (gCmp .gt x0 h3.2.2) (fun c3 => ?_) (fun c3 => ?_)
      · skip
        refine hX_goM 1 (31) [some (.ref 61), some (.int x0), some (.int x1)] [.int 0] rfl ?_
        exact hX_end rfl (by unfold v_56_61; rw [c1, c2, c3]; rfl) (rfl)
      · skip
        refine hX_goM 6 (bif gCmp .gt x1 (h3.2.2 - x0) then 30 else 26) [some (.ref 61), some (.int x0), some (.int x1)] [] rfl ?_
        refine hX_if (gCmp .gt x1 (h3.2.2 - x0)) (fun c4 => ?_) (fun c4 => ?_)
        · skip
          refine hX_goM 1 (31) [some (.ref 61), some (.int x0), some (.int x1)] [.int 0] rfl ?_
          exact hX_end rfl (by unfold v_56_61; rw [c1, c2, c3, c4]; rfl) (rfl)
        · skip
          refine hX_goM 2 (31) [some (.ref 61), some (.int x0), some (.int x1)] [.int 1] rfl ?_
          exact hX_end rfl (by unfold v_56_61; rw [c1, c2, c3, c4]; rfl) (rfl)

theorem bz_56_61 (x0 : Int32) (x1 : Int32) (h3 : hSt) : (decide (v_56_61 x0 x1 h3 = 0) || decide (v_56_61 x0 x1 h3 = 1)) = true := by
  unfold v_56_61
  cases (gCmp .lt x0 0)
  · cases (gCmp .lt x1 0)
    · cases (gCmp .gt x0 h3.2.2)
      · cases (gCmp .gt x1 (h3.2.2 - x0))
        · rfl
        · rfl
      · rfl
    · rfl
  · rfl


/-- UpOneSide.copy(IIIII)I -/
def me_103_0 (N : Nat) (x0 : Int32) (x1 : Int32) (x2 : Int32) (x3 : Int32) (x4 : Int32) (h0 : hSt) (h1 : hSt) (h2 : hSt) (h3 : hSt) (fi : Nat → Int32) : Option (Int32 × hSt × hSt × hSt × hSt × (Nat → Int32)) :=
  (bif gCmp .lt x0 0 then
    (bif gCmp .lt x2 0 then
      some (v_111_0 0, h0, h1, h2, h3, f_111_0_fi 0 fi)
    else
      (bif gCmp .lt x2 4 then
        (bif hEq x2 0 then
          some (v_111_0 0, h0, h1, h2, h3, f_111_0_fi 0 fi)
        else
          (bif hEq x2 1 then
            some (v_111_0 0, h0, h1, h2, h3, f_111_0_fi 0 fi)
          else
            (bif hEq x2 2 then
              some (v_111_0 0, h0, h1, h2, h3, f_111_0_fi 0 fi)
            else
              some (v_111_0 0, h0, h1, h2, h3, f_111_0_fi 0 fi))))
      else
        some (v_111_0 0, h0, h1, h2, h3, f_111_0_fi 0 fi)))
  else
    (bif gCmp .lt x0 4 then
      (bif hEq x0 0 then
        (bif gCmp .lt x2 0 then
          some (v_111_0 0, h0, h1, h2, h3, f_111_0_fi 0 fi)
        else
          (bif gCmp .lt x2 4 then
            (bif hEq x2 0 then
              (bif gCmp .ne (v_53_55 h0) 0 then
                some (v_111_0 5, h0, h1, h2, h3, f_111_0_fi 5 fi)
              else
                (bif gCmp .eq (v_53_55 h0) 0 then
                  (bif gCmp .eq h0.2.1 h0.2.1 then
                    (bif gCmp .eq (v_56_55 x1 x4 h0) 0 then
                      some (v_111_0 0, h0, h1, h2, h3, f_111_0_fi 0 fi)
                    else
                      (bif gCmp .ne (v_56_55 x3 x4 h0) 0 then
                        (bif (!decide (x1 < 0) && !decide (x3 < 0) && !decide (x4 < 0) && Nat.ble (Int32.toNatClampNeg x1 + Int32.toNatClampNeg x4) 40 && Nat.ble (Int32.toNatClampNeg x3 + Int32.toNatClampNeg x4) 40) then some (x4, (va_cpy h0.1 h0.1 (Int32.toNatClampNeg x1) (Int32.toNatClampNeg x3) (Int32.toNatClampNeg x4), h0.2), h1, h2, h3, fi) else none)
                      else
                        some (v_111_0 0, h0, h1, h2, h3, f_111_0_fi 0 fi)))
                  else
                    some (v_111_0 2, h0, h1, h2, h3, f_111_0_fi 2 fi))
                else
                  some (v_111_0 5, h0, h1, h2, h3, f_111_0_fi 5 fi)))
            else
              (bif hEq x2 1 then
                (bif gCmp .ne (v_53_55 h0) 0 then
                  some (v_111_0 5, h0, h1, h2, h3, f_111_0_fi 5 fi)
                else
                  (bif gCmp .eq (v_53_57 h1) 0 then
                    (bif gCmp .eq h0.2.1 h1.2.1 then
                      (bif gCmp .eq (v_56_55 x1 x4 h0) 0 then
                        some (v_111_0 0, h0, h1, h2, h3, f_111_0_fi 0 fi)
                      else
                        (bif gCmp .ne (v_56_57 x3 x4 h1) 0 then
                          (bif (!decide (x1 < 0) && !decide (x3 < 0) && !decide (x4 < 0) && Nat.ble (Int32.toNatClampNeg x1 + Int32.toNatClampNeg x4) 40 && Nat.ble (Int32.toNatClampNeg x3 + Int32.toNatClampNeg x4) 40) then some (x4, h0, (va_cpy h0.1 h1.1 (Int32.toNatClampNeg x1) (Int32.toNatClampNeg x3) (Int32.toNatClampNeg x4), h1.2), h2, h3, fi) else none)
                        else
                          some (v_111_0 0, h0, h1, h2, h3, f_111_0_fi 0 fi)))
                    else
                      some (v_111_0 2, h0, h1, h2, h3, f_111_0_fi 2 fi))
                  else
                    some (v_111_0 5, h0, h1, h2, h3, f_111_0_fi 5 fi)))
              else
                (bif hEq x2 2 then
                  (bif gCmp .ne (v_53_55 h0) 0 then
                    some (v_111_0 5, h0, h1, h2, h3, f_111_0_fi 5 fi)
                  else
                    (bif gCmp .eq (v_53_59 h2) 0 then
                      (bif gCmp .eq h0.2.1 h2.2.1 then
                        (bif gCmp .eq (v_56_55 x1 x4 h0) 0 then
                          some (v_111_0 0, h0, h1, h2, h3, f_111_0_fi 0 fi)
                        else
                          (bif gCmp .ne (v_56_59 x3 x4 h2) 0 then
                            (bif (!decide (x1 < 0) && !decide (x3 < 0) && !decide (x4 < 0) && Nat.ble (Int32.toNatClampNeg x1 + Int32.toNatClampNeg x4) 40 && Nat.ble (Int32.toNatClampNeg x3 + Int32.toNatClampNeg x4) 40) then some (x4, h0, h1, (va_cpy h0.1 h2.1 (Int32.toNatClampNeg x1) (Int32.toNatClampNeg x3) (Int32.toNatClampNeg x4), h2.2), h3, fi) else none)
                          else
                            some (v_111_0 0, h0, h1, h2, h3, f_111_0_fi 0 fi)))
                      else
                        some (v_111_0 2, h0, h1, h2, h3, f_111_0_fi 2 fi))
                    else
                      some (v_111_0 5, h0, h1, h2, h3, f_111_0_fi 5 fi)))
                else
                  (bif gCmp .ne (v_53_55 h0) 0 then
                    some (v_111_0 5, h0, h1, h2, h3, f_111_0_fi 5 fi)
                  else
                    (bif gCmp .eq (v_53_61 h3) 0 then
                      (bif gCmp .eq h0.2.1 h3.2.1 then
                        (bif gCmp .eq (v_56_55 x1 x4 h0) 0 then
                          some (v_111_0 0, h0, h1, h2, h3, f_111_0_fi 0 fi)
                        else
                          (bif gCmp .ne (v_56_61 x3 x4 h3) 0 then
                            (bif (!decide (x1 < 0) && !decide (x3 < 0) && !decide (x4 < 0) && Nat.ble (Int32.toNatClampNeg x1 + Int32.toNatClampNeg x4) 40 && Nat.ble (Int32.toNatClampNeg x3 + Int32.toNatClampNeg x4) 40) then some (x4, h0, h1, h2, (va_cpy h0.1 h3.1 (Int32.toNatClampNeg x1) (Int32.toNatClampNeg x3) (Int32.toNatClampNeg x4), h3.2), fi) else none)
                          else
                            some (v_111_0 0, h0, h1, h2, h3, f_111_0_fi 0 fi)))
                      else
                        some (v_111_0 2, h0, h1, h2, h3, f_111_0_fi 2 fi))
                    else
                      some (v_111_0 5, h0, h1, h2, h3, f_111_0_fi 5 fi))))))
          else
            some (v_111_0 0, h0, h1, h2, h3, f_111_0_fi 0 fi)))
      else
        (bif hEq x0 1 then
          (bif gCmp .lt x2 0 then
            some (v_111_0 0, h0, h1, h2, h3, f_111_0_fi 0 fi)
          else
            (bif gCmp .lt x2 4 then
              (bif hEq x2 0 then
                (bif gCmp .ne (v_53_57 h1) 0 then
                  some (v_111_0 5, h0, h1, h2, h3, f_111_0_fi 5 fi)
                else
                  (bif gCmp .eq (v_53_55 h0) 0 then
                    (bif gCmp .eq h1.2.1 h0.2.1 then
                      (bif gCmp .eq (v_56_57 x1 x4 h1) 0 then
                        some (v_111_0 0, h0, h1, h2, h3, f_111_0_fi 0 fi)
                      else
                        (bif gCmp .ne (v_56_55 x3 x4 h0) 0 then
                          (bif (!decide (x1 < 0) && !decide (x3 < 0) && !decide (x4 < 0) && Nat.ble (Int32.toNatClampNeg x1 + Int32.toNatClampNeg x4) 40 && Nat.ble (Int32.toNatClampNeg x3 + Int32.toNatClampNeg x4) 40) then some (x4, (va_cpy h1.1 h0.1 (Int32.toNatClampNeg x1) (Int32.toNatClampNeg x3) (Int32.toNatClampNeg x4), h0.2), h1, h2, h3, fi) else none)
                        else
                          some (v_111_0 0, h0, h1, h2, h3, f_111_0_fi 0 fi)))
                    else
                      some (v_111_0 2, h0, h1, h2, h3, f_111_0_fi 2 fi))
                  else
                    some (v_111_0 5, h0, h1, h2, h3, f_111_0_fi 5 fi)))
              else
                (bif hEq x2 1 then
                  (bif gCmp .ne (v_53_57 h1) 0 then
                    some (v_111_0 5, h0, h1, h2, h3, f_111_0_fi 5 fi)
                  else
                    (bif gCmp .eq (v_53_57 h1) 0 then
                      (bif gCmp .eq h1.2.1 h1.2.1 then
                        (bif gCmp .eq (v_56_57 x1 x4 h1) 0 then
                          some (v_111_0 0, h0, h1, h2, h3, f_111_0_fi 0 fi)
                        else
                          (bif gCmp .ne (v_56_57 x3 x4 h1) 0 then
                            (bif (!decide (x1 < 0) && !decide (x3 < 0) && !decide (x4 < 0) && Nat.ble (Int32.toNatClampNeg x1 + Int32.toNatClampNeg x4) 40 && Nat.ble (Int32.toNatClampNeg x3 + Int32.toNatClampNeg x4) 40) then some (x4, h0, (va_cpy h1.1 h1.1 (Int32.toNatClampNeg x1) (Int32.toNatClampNeg x3) (Int32.toNatClampNeg x4), h1.2), h2, h3, fi) else none)
                          else
                            some (v_111_0 0, h0, h1, h2, h3, f_111_0_fi 0 fi)))
                      else
                        some (v_111_0 2, h0, h1, h2, h3, f_111_0_fi 2 fi))
                    else
                      some (v_111_0 5, h0, h1, h2, h3, f_111_0_fi 5 fi)))
                else
                  (bif hEq x2 2 then
                    (bif gCmp .ne (v_53_57 h1) 0 then
                      some (v_111_0 5, h0, h1, h2, h3, f_111_0_fi 5 fi)
                    else
                      (bif gCmp .eq (v_53_59 h2) 0 then
                        (bif gCmp .eq h1.2.1 h2.2.1 then
                          (bif gCmp .eq (v_56_57 x1 x4 h1) 0 then
                            some (v_111_0 0, h0, h1, h2, h3, f_111_0_fi 0 fi)
                          else
                            (bif gCmp .ne (v_56_59 x3 x4 h2) 0 then
                              (bif (!decide (x1 < 0) && !decide (x3 < 0) && !decide (x4 < 0) && Nat.ble (Int32.toNatClampNeg x1 + Int32.toNatClampNeg x4) 40 && Nat.ble (Int32.toNatClampNeg x3 + Int32.toNatClampNeg x4) 40) then some (x4, h0, h1, (va_cpy h1.1 h2.1 (Int32.toNatClampNeg x1) (Int32.toNatClampNeg x3) (Int32.toNatClampNeg x4), h2.2), h3, fi) else none)
                            else
                              some (v_111_0 0, h0, h1, h2, h3, f_111_0_fi 0 fi)))
                        else
                          some (v_111_0 2, h0, h1, h2, h3, f_111_0_fi 2 fi))
                      else
                        some (v_111_0 5, h0, h1, h2, h3, f_111_0_fi 5 fi)))
                  else
                    (bif gCmp .ne (v_53_57 h1) 0 then
                      some (v_111_0 5, h0, h1, h2, h3, f_111_0_fi 5 fi)
                    else
                      (bif gCmp .eq (v_53_61 h3) 0 then
                        (bif gCmp .eq h1.2.1 h3.2.1 then
                          (bif gCmp .eq (v_56_57 x1 x4 h1) 0 then
                            some (v_111_0 0, h0, h1, h2, h3, f_111_0_fi 0 fi)
                          else
                            (bif gCmp .ne (v_56_61 x3 x4 h3) 0 then
                              (bif (!decide (x1 < 0) && !decide (x3 < 0) && !decide (x4 < 0) && Nat.ble (Int32.toNatClampNeg x1 + Int32.toNatClampNeg x4) 40 && Nat.ble (Int32.toNatClampNeg x3 + Int32.toNatClampNeg x4) 40) then some (x4, h0, h1, h2, (va_cpy h1.1 h3.1 (Int32.toNatClampNeg x1) (Int32.toNatClampNeg x3) (Int32.toNatClampNeg x4), h3.2), fi) else none)
                            else
                              some (v_111_0 0, h0, h1, h2, h3, f_111_0_fi 0 fi)))
                        else
                          some (v_111_0 2, h0, h1, h2, h3, f_111_0_fi 2 fi))
                      else
                        some (v_111_0 5, h0, h1, h2, h3, f_111_0_fi 5 fi))))))
            else
              some (v_111_0 0, h0, h1, h2, h3, f_111_0_fi 0 fi)))
        else
          (bif hEq x0 2 then
            (bif gCmp .lt x2 0 then
              some (v_111_0 0, h0, h1, h2, h3, f_111_0_fi 0 fi)
            else
              (bif gCmp .lt x2 4 then
                (bif hEq x2 0 then
                  (bif gCmp .ne (v_53_59 h2) 0 then
                    some (v_111_0 5, h0, h1, h2, h3, f_111_0_fi 5 fi)
                  else
                    (bif gCmp .eq (v_53_55 h0) 0 then
                      (bif gCmp .eq h2.2.1 h0.2.1 then
                        (bif gCmp .eq (v_56_59 x1 x4 h2) 0 then
                          some (v_111_0 0, h0, h1, h2, h3, f_111_0_fi 0 fi)
                        else
                          (bif gCmp .ne (v_56_55 x3 x4 h0) 0 then
                            (bif (!decide (x1 < 0) && !decide (x3 < 0) && !decide (x4 < 0) && Nat.ble (Int32.toNatClampNeg x1 + Int32.toNatClampNeg x4) 40 && Nat.ble (Int32.toNatClampNeg x3 + Int32.toNatClampNeg x4) 40) then some (x4, (va_cpy h2.1 h0.1 (Int32.toNatClampNeg x1) (Int32.toNatClampNeg x3) (Int32.toNatClampNeg x4), h0.2), h1, h2, h3, fi) else none)
                          else
                            some (v_111_0 0, h0, h1, h2, h3, f_111_0_fi 0 fi)))
                      else
                        some (v_111_0 2, h0, h1, h2, h3, f_111_0_fi 2 fi))
                    else
                      some (v_111_0 5, h0, h1, h2, h3, f_111_0_fi 5 fi)))
                else
                  (bif hEq x2 1 then
                    (bif gCmp .ne (v_53_59 h2) 0 then
                      some (v_111_0 5, h0, h1, h2, h3, f_111_0_fi 5 fi)
                    else
                      (bif gCmp .eq (v_53_57 h1) 0 then
                        (bif gCmp .eq h2.2.1 h1.2.1 then
                          (bif gCmp .eq (v_56_59 x1 x4 h2) 0 then
                            some (v_111_0 0, h0, h1, h2, h3, f_111_0_fi 0 fi)
                          else
                            (bif gCmp .ne (v_56_57 x3 x4 h1) 0 then
                              (bif (!decide (x1 < 0) && !decide (x3 < 0) && !decide (x4 < 0) && Nat.ble (Int32.toNatClampNeg x1 + Int32.toNatClampNeg x4) 40 && Nat.ble (Int32.toNatClampNeg x3 + Int32.toNatClampNeg x4) 40) then some (x4, h0, (va_cpy h2.1 h1.1 (Int32.toNatClampNeg x1) (Int32.toNatClampNeg x3) (Int32.toNatClampNeg x4), h1.2), h2, h3, fi) else none)
                            else
                              some (v_111_0 0, h0, h1, h2, h3, f_111_0_fi 0 fi)))
                        else
                          some (v_111_0 2, h0, h1, h2, h3, f_111_0_fi 2 fi))
                      else
                        some (v_111_0 5, h0, h1, h2, h3, f_111_0_fi 5 fi)))
                  else
                    (bif hEq x2 2 then
                      (bif gCmp .ne (v_53_59 h2) 0 then
                        some (v_111_0 5, h0, h1, h2, h3, f_111_0_fi 5 fi)
                      else
                        (bif gCmp .eq (v_53_59 h2) 0 then
                          (bif gCmp .eq h2.2.1 h2.2.1 then
                            (bif gCmp .eq (v_56_59 x1 x4 h2) 0 then
                              some (v_111_0 0, h0, h1, h2, h3, f_111_0_fi 0 fi)
                            else
                              (bif gCmp .ne (v_56_59 x3 x4 h2) 0 then
                                (bif (!decide (x1 < 0) && !decide (x3 < 0) && !decide (x4 < 0) && Nat.ble (Int32.toNatClampNeg x1 + Int32.toNatClampNeg x4) 40 && Nat.ble (Int32.toNatClampNeg x3 + Int32.toNatClampNeg x4) 40) then some (x4, h0, h1, (va_cpy h2.1 h2.1 (Int32.toNatClampNeg x1) (Int32.toNatClampNeg x3) (Int32.toNatClampNeg x4), h2.2), h3, fi) else none)
                              else
                                some (v_111_0 0, h0, h1, h2, h3, f_111_0_fi 0 fi)))
                          else
                            some (v_111_0 2, h0, h1, h2, h3, f_111_0_fi 2 fi))
                        else
                          some (v_111_0 5, h0, h1, h2, h3, f_111_0_fi 5 fi)))
                    else
                      (bif gCmp .ne (v_53_59 h2) 0 then
                        some (v_111_0 5, h0, h1, h2, h3, f_111_0_fi 5 fi)
                      else
                        (bif gCmp .eq (v_53_61 h3) 0 then
                          (bif gCmp .eq h2.2.1 h3.2.1 then
                            (bif gCmp .eq (v_56_59 x1 x4 h2) 0 then
                              some (v_111_0 0, h0, h1, h2, h3, f_111_0_fi 0 fi)
                            else
                              (bif gCmp .ne (v_56_61 x3 x4 h3) 0 then
                                (bif (!decide (x1 < 0) && !decide (x3 < 0) && !decide (x4 < 0) && Nat.ble (Int32.toNatClampNeg x1 + Int32.toNatClampNeg x4) 40 && Nat.ble (Int32.toNatClampNeg x3 + Int32.toNatClampNeg x4) 40) then some (x4, h0, h1, h2, (va_cpy h2.1 h3.1 (Int32.toNatClampNeg x1) (Int32.toNatClampNeg x3) (Int32.toNatClampNeg x4), h3.2), fi) else none)
                              else
                                some (v_111_0 0, h0, h1, h2, h3, f_111_0_fi 0 fi)))
                          else
                            some (v_111_0 2, h0, h1, h2, h3, f_111_0_fi 2 fi))
                        else
                          some (v_111_0 5, h0, h1, h2, h3, f_111_0_fi 5 fi))))))
              else
                some (v_111_0 0, h0, h1, h2, h3, f_111_0_fi 0 fi)))
          else
            (bif gCmp .lt x2 0 then
              some (v_111_0 0, h0, h1, h2, h3, f_111_0_fi 0 fi)
            else
              (bif gCmp .lt x2 4 then
                (bif hEq x2 0 then
                  (bif gCmp .ne (v_53_61 h3) 0 then
                    some (v_111_0 5, h0, h1, h2, h3, f_111_0_fi 5 fi)
                  else
                    (bif gCmp .eq (v_53_55 h0) 0 then
                      (bif gCmp .eq h3.2.1 h0.2.1 then
                        (bif gCmp .eq (v_56_61 x1 x4 h3) 0 then
                          some (v_111_0 0, h0, h1, h2, h3, f_111_0_fi 0 fi)
                        else
                          (bif gCmp .ne (v_56_55 x3 x4 h0) 0 then
                            (bif (!decide (x1 < 0) && !decide (x3 < 0) && !decide (x4 < 0) && Nat.ble (Int32.toNatClampNeg x1 + Int32.toNatClampNeg x4) 40 && Nat.ble (Int32.toNatClampNeg x3 + Int32.toNatClampNeg x4) 40) then some (x4, (va_cpy h3.1 h0.1 (Int32.toNatClampNeg x1) (Int32.toNatClampNeg x3) (Int32.toNatClampNeg x4), h0.2), h1, h2, h3, fi) else none)
                          else
                            some (v_111_0 0, h0, h1, h2, h3, f_111_0_fi 0 fi)))
                      else
                        some (v_111_0 2, h0, h1, h2, h3, f_111_0_fi 2 fi))
                    else
                      some (v_111_0 5, h0, h1, h2, h3, f_111_0_fi 5 fi)))
                else
                  (bif hEq x2 1 then
                    (bif gCmp .ne (v_53_61 h3) 0 then
                      some (v_111_0 5, h0, h1, h2, h3, f_111_0_fi 5 fi)
                    else
                      (bif gCmp .eq (v_53_57 h1) 0 then
                        (bif gCmp .eq h3.2.1 h1.2.1 then
                          (bif gCmp .eq (v_56_61 x1 x4 h3) 0 then
                            some (v_111_0 0, h0, h1, h2, h3, f_111_0_fi 0 fi)
                          else
                            (bif gCmp .ne (v_56_57 x3 x4 h1) 0 then
                              (bif (!decide (x1 < 0) && !decide (x3 < 0) && !decide (x4 < 0) && Nat.ble (Int32.toNatClampNeg x1 + Int32.toNatClampNeg x4) 40 && Nat.ble (Int32.toNatClampNeg x3 + Int32.toNatClampNeg x4) 40) then some (x4, h0, (va_cpy h3.1 h1.1 (Int32.toNatClampNeg x1) (Int32.toNatClampNeg x3) (Int32.toNatClampNeg x4), h1.2), h2, h3, fi) else none)
                            else
                              some (v_111_0 0, h0, h1, h2, h3, f_111_0_fi 0 fi)))
                        else
                          some (v_111_0 2, h0, h1, h2, h3, f_111_0_fi 2 fi))
                      else
                        some (v_111_0 5, h0, h1, h2, h3, f_111_0_fi 5 fi)))
                  else
                    (bif hEq x2 2 then
                      (bif gCmp .ne (v_53_61 h3) 0 then
                        some (v_111_0 5, h0, h1, h2, h3, f_111_0_fi 5 fi)
                      else
                        (bif gCmp .eq (v_53_59 h2) 0 then
                          (bif gCmp .eq h3.2.1 h2.2.1 then
                            (bif gCmp .eq (v_56_61 x1 x4 h3) 0 then
                              some (v_111_0 0, h0, h1, h2, h3, f_111_0_fi 0 fi)
                            else
                              (bif gCmp .ne (v_56_59 x3 x4 h2) 0 then
                                (bif (!decide (x1 < 0) && !decide (x3 < 0) && !decide (x4 < 0) && Nat.ble (Int32.toNatClampNeg x1 + Int32.toNatClampNeg x4) 40 && Nat.ble (Int32.toNatClampNeg x3 + Int32.toNatClampNeg x4) 40) then some (x4, h0, h1, (va_cpy h3.1 h2.1 (Int32.toNatClampNeg x1) (Int32.toNatClampNeg x3) (Int32.toNatClampNeg x4), h2.2), h3, fi) else none)
                              else
                                some (v_111_0 0, h0, h1, h2, h3, f_111_0_fi 0 fi)))
                          else
                            some (v_111_0 2, h0, h1, h2, h3, f_111_0_fi 2 fi))
                        else
                          some (v_111_0 5, h0, h1, h2, h3, f_111_0_fi 5 fi)))
                    else
                      (bif gCmp .ne (v_53_61 h3) 0 then
                        some (v_111_0 5, h0, h1, h2, h3, f_111_0_fi 5 fi)
                      else
                        (bif gCmp .eq (v_53_61 h3) 0 then
                          (bif gCmp .eq h3.2.1 h3.2.1 then
                            (bif gCmp .eq (v_56_61 x1 x4 h3) 0 then
                              some (v_111_0 0, h0, h1, h2, h3, f_111_0_fi 0 fi)
                            else
                              (bif gCmp .ne (v_56_61 x3 x4 h3) 0 then
                                (bif (!decide (x1 < 0) && !decide (x3 < 0) && !decide (x4 < 0) && Nat.ble (Int32.toNatClampNeg x1 + Int32.toNatClampNeg x4) 40 && Nat.ble (Int32.toNatClampNeg x3 + Int32.toNatClampNeg x4) 40) then some (x4, h0, h1, h2, (va_cpy h3.1 h3.1 (Int32.toNatClampNeg x1) (Int32.toNatClampNeg x3) (Int32.toNatClampNeg x4), h3.2), fi) else none)
                              else
                                some (v_111_0 0, h0, h1, h2, h3, f_111_0_fi 0 fi)))
                          else
                            some (v_111_0 2, h0, h1, h2, h3, f_111_0_fi 2 fi))
                        else
                          some (v_111_0 5, h0, h1, h2, h3, f_111_0_fi 5 fi))))))
              else
                some (v_111_0 0, h0, h1, h2, h3, f_111_0_fi 0 fi))))))
    else
      (bif gCmp .lt x2 0 then
        some (v_111_0 0, h0, h1, h2, h3, f_111_0_fi 0 fi)
      else
        (bif gCmp .lt x2 4 then
          (bif hEq x2 0 then
            some (v_111_0 0, h0, h1, h2, h3, f_111_0_fi 0 fi)
          else
            (bif hEq x2 1 then
              some (v_111_0 0, h0, h1, h2, h3, f_111_0_fi 0 fi)
            else
              (bif hEq x2 2 then
                some (v_111_0 0, h0, h1, h2, h3, f_111_0_fi 0 fi)
              else
                some (v_111_0 0, h0, h1, h2, h3, f_111_0_fi 0 fi))))
        else
          some (v_111_0 0, h0, h1, h2, h3, f_111_0_fi 0 fi)))))
set_option maxRecDepth 20000 in
set_option maxHeartbeats 4000000 in
theorem mt_103_0 {LL : Nat} {xs : Nat → Int32} {D : Nat} {b d k s w : hB} {ik ex pr wd : Int32} {sn : Nat → Int64} {qu tb : Nat → Int32} {ts : Int32} {r0 : Value} {rq : hRq} {h0 h1 h2 h3 : hSt} {fi : Nat → Int32} {R : List gE} (N : Nat) (x0 : Int32) (x1 : Int32) (x2 : Int32) (x3 : Int32) (x4 : Int32) (q : Int32 × hSt × hSt × hSt × hSt × (Nat → Int32)) (h : me_103_0 N x0 x1 x2 x3 x4 h0 h1 h2 h3 fi = some q) : hM (gO LL xs) (D + 1) zR_103 [.ref 0, .int x0, .int x1, .int x2, .int x3, .int x4] (hCm b d k s w ik ex pr wd sn qu tb ts (r0, rq) h0 h1 h2 h3 fi R) (some (.int q.1)) (hCm b d k s w ik ex pr wd sn qu tb ts (r0, rq) q.2.1 q.2.2.1 q.2.2.2.1 q.2.2.2.2.1 q.2.2.2.2.2 R) := by
  unfold me_103_0 at h
  refine hX_go 0 0 [some (.ref 0), some (.int x0), some (.int x1), some (.int x2), some (.int x3), some (.int x4), none, none] [] (hCm b d k s w ik ex pr wd sn qu tb ts (r0, rq) h0 h1 h2 h3 fi R) rfl ?_
  refine hX_go 2 (2) [some (.ref 0), some (.int x0), some (.int x1), some (.int x2), some (.int x3), some (.int x4), none, none] [.int x0, .ref 0] (hCm b d k s w ik ex pr wd sn qu tb ts (r0, rq) h0 h1 h2 h3 fi R) rfl ?_
  refine hX_bif (gCmp .lt x0 0) (fun c1 => ?_) (fun c1 => ?_)
  · skip
    have h := gcT c1 h
    refine hX_call (r' := zR_114) rfl (ct_114_0_0 x0 c1) ?_
    refine hX_goM 3 (9) [some (.ref 0), some (.int x0), some (.int x1), some (.int x2), some (.int x3), some (.int x4), some (.null), none] [.int x2, .ref 0] rfl ?_
    refine hX_bif (gCmp .lt x2 0) (fun c2 => ?_) (fun c2 => ?_)
    · skip
      have h := gcT c2 h
      refine hX_call (r' := zR_114) rfl (ct_114_0_0 x2 c2) ?_
      refine hX_goM 5 (26) [some (.ref 0), some (.int x0), some (.int x1), some (.int x2), some (.int x3), some (.int x4), some (.null), some (.null)] [.int 0, .ref 0] rfl ?_
      refine hX_call (r' := zR_111) rfl (ct_111_0 0 rfl) ?_
      refine hX_go 0 (29) [some (.ref 0), some (.int x0), some (.int x1), some (.int x2), some (.int x3), some (.int x4), some (.null), some (.null)] [.int (v_111_0 0)] (hCm b d k s w ik ex pr wd sn qu tb ts (r0, rq) h0 h1 h2 h3 (f_111_0_fi 0 fi) R) rfl ?_
      have h := Option.some.inj h; subst h
      exact hX_end rfl rfl rfl
    · skip
      have h := gcF c2 h
      refine hX_bif (gCmp .lt x2 4) (fun c3 => ?_) (fun c3 => ?_)
      · skip
        have h := gcT c3 h
        refine hX_bif (hEq x2 0) (fun c4 => ?_) (fun c4 => ?_)
        · skip
          have h := gcT c4 h
          refine hX_call (r' := zR_114) rfl (ct_114_0_2 x2 c2 c3 c4) ?_
          refine hX_goM 5 (26) [some (.ref 0), some (.int x0), some (.int x1), some (.int x2), some (.int x3), some (.int x4), some (.null), some (.ref 55)] [.int 0, .ref 0] rfl ?_
          refine hX_call (r' := zR_111) rfl (ct_111_0 0 rfl) ?_
          refine hX_go 0 (29) [some (.ref 0), some (.int x0), some (.int x1), some (.int x2), some (.int x3), some (.int x4), some (.null), some (.ref 55)] [.int (v_111_0 0)] (hCm b d k s w ik ex pr wd sn qu tb ts (r0, rq) h0 h1 h2 h3 (f_111_0_fi 0 fi) R) rfl ?_
          have h := Option.some.inj h; subst h
          exact hX_end rfl rfl rfl
        · skip
          have h := gcF c4 h
          refine hX_bif (hEq x2 1) (fun c5 => ?_) (fun c5 => ?_)
          · skip
            have h := gcT c5 h
            refine hX_call (r' := zR_114) rfl (ct_114_0_3 x2 c2 c3 c4 c5) ?_
            refine hX_goM 5 (26) [some (.ref 0), some (.int x0), some (.int x1), some (.int x2), some (.int x3), some (.int x4), some (.null), some (.ref 57)] [.int 0, .ref 0] rfl ?_
            refine hX_call (r' := zR_111) rfl (ct_111_0 0 rfl) ?_
            refine hX_go 0 (29) [some (.ref 0), some (.int x0), some (.int x1), some (.int x2), some (.int x3), some (.int x4), some (.null), some (.ref 57)] [.int (v_111_0 0)] (hCm b d k s w ik ex pr wd sn qu tb ts (r0, rq) h0 h1 h2 h3 (f_111_0_fi 0 fi) R) rfl ?_
            have h := Option.some.inj h; subst h
            exact hX_end rfl rfl rfl
          · skip
            have h := gcF c5 h
            refine hX_bif (hEq x2 2) (fun c6 => ?_) (fun c6 => ?_)
            · skip
              have h := gcT c6 h
              refine hX_call (r' := zR_114) rfl (ct_114_0_4 x2 c2 c3 c4 c5 c6) ?_
              refine hX_goM 5 (26) [some (.ref 0), some (.int x0), some (.int x1), some (.int x2), some (.int x3), some (.int x4), some (.null), some (.ref 59)] [.int 0, .ref 0] rfl ?_
              refine hX_call (r' := zR_111) rfl (ct_111_0 0 rfl) ?_
              refine hX_go 0 (29) [some (.ref 0), some (.int x0), some (.int x1), some (.int x2), some (.int x3), some (.int x4), some (.null), some (.ref 59)] [.int (v_111_0 0)] (hCm b d k s w ik ex pr wd sn qu tb ts (r0, rq) h0 h1 h2 h3 (f_111_0_fi 0 fi) R) rfl ?_
              have h := Option.some.inj h; subst h
              exact hX_end rfl rfl rfl
            · skip
              have h := gcF c6 h
              refine hX_call (r' := zR_114) rfl (ct_114_0_5 x2 c2 c3 c4 c5 c6) ?_
              refine hX_goM 5 (26) [some (.ref 0), some (.int x0), some (.int x1), some (.int x2), some (.int x3), some (.int x4), some (.null), some (.ref 61)] [.int 0, .ref 0] rfl ?_
              refine hX_call (r' := zR_111) rfl (ct_111_0 0 rfl) ?_
              refine hX_go 0 (29) [some (.ref 0), some (.int x0), some (.int x1), some (.int x2), some (.int x3), some (.int x4), some (.null), some (.ref 61)] [.int (v_111_0 0)] (hCm b d k s w ik ex pr wd sn qu tb ts (r0, rq) h0 h1 h2 h3 (f_111_0_fi 0 fi) R) rfl ?_
              have h := Option.some.inj h; subst h
              exact hX_end rfl rfl rfl
      · skip
        have h := gcF c3 h
        refine hX_call (r' := zR_114) rfl (ct_114_0_1 x2 c2 c3) ?_
        refine hX_goM 5 (26) [some (.ref 0), some (.int x0), some (.int x1), some (.int x2), some (.int x3), some (.int x4), some (.null), some (.null)] [.int 0, .ref 0] rfl ?_
        refine hX_call (r' := zR_111) rfl (ct_111_0 0 rfl) ?_
        refine hX_go 0 (29) [some (.ref 0), some (.int x0), some (.int x1), some (.int x2), some (.int x3), some (.int x4), some (.null), some (.null)] [.int (v_111_0 0)] (hCm b d k s w ik ex pr wd sn qu tb ts (r0, rq) h0 h1 h2 h3 (f_111_0_fi 0 fi) R) rfl ?_
        have h := Option.some.inj h; subst h
        exact hX_end rfl rfl rfl
  · skip
    have h := gcF c1 h
    refine hX_bif (gCmp .lt x0 4) (fun c7 => ?_) (fun c7 => ?_)
    · skip
      have h := gcT c7 h
      refine hX_bif (hEq x0 0) (fun c8 => ?_) (fun c8 => ?_)
      · skip
        have h := gcT c8 h
        refine hX_call (r' := zR_114) rfl (ct_114_0_2 x0 c1 c7 c8) ?_
        refine hX_goM 3 (9) [some (.ref 0), some (.int x0), some (.int x1), some (.int x2), some (.int x3), some (.int x4), some (.ref 55), none] [.int x2, .ref 0] rfl ?_
        refine hX_bif (gCmp .lt x2 0) (fun c9 => ?_) (fun c9 => ?_)
        · skip
          have h := gcT c9 h
          refine hX_call (r' := zR_114) rfl (ct_114_0_0 x2 c9) ?_
          refine hX_goM 7 (26) [some (.ref 0), some (.int x0), some (.int x1), some (.int x2), some (.int x3), some (.int x4), some (.ref 55), some (.null)] [.int 0, .ref 0] rfl ?_
          refine hX_call (r' := zR_111) rfl (ct_111_0 0 rfl) ?_
          refine hX_go 0 (29) [some (.ref 0), some (.int x0), some (.int x1), some (.int x2), some (.int x3), some (.int x4), some (.ref 55), some (.null)] [.int (v_111_0 0)] (hCm b d k s w ik ex pr wd sn qu tb ts (r0, rq) h0 h1 h2 h3 (f_111_0_fi 0 fi) R) rfl ?_
          have h := Option.some.inj h; subst h
          exact hX_end rfl rfl rfl
        · skip
          have h := gcF c9 h
          refine hX_bif (gCmp .lt x2 4) (fun c10 => ?_) (fun c10 => ?_)
          · skip
            have h := gcT c10 h
            refine hX_bif (hEq x2 0) (fun c11 => ?_) (fun c11 => ?_)
            · skip
              have h := gcT c11 h
              refine hX_call (r' := zR_114) rfl (ct_114_0_2 x2 c9 c10 c11) ?_
              refine hX_goM 6 (32) [some (.ref 0), some (.int x0), some (.int x1), some (.int x2), some (.int x3), some (.int x4), some (.ref 55), some (.ref 55)] [.ref 55] rfl ?_
              refine hX_call (r' := zR_53) rfl (ct_53_55) ?_
              refine hX_goM 1 (bif gCmp .ne (v_53_55 h0) 0 then 46 else 38) [some (.ref 0), some (.int x0), some (.int x1), some (.int x2), some (.int x3), some (.int x4), some (.ref 55), some (.ref 55)] [] rfl ?_
              refine hX_if (gCmp .ne (v_53_55 h0) 0) (fun c12 => ?_) (fun c12 => ?_)
              · skip
                have h := gcT c12 h
                refine hX_goM 2 (48) [some (.ref 0), some (.int x0), some (.int x1), some (.int x2), some (.int x3), some (.int x4), some (.ref 55), some (.ref 55)] [.int 5, .ref 0] rfl ?_
                refine hX_call (r' := zR_111) rfl (ct_111_0 5 rfl) ?_
                refine hX_go 0 (51) [some (.ref 0), some (.int x0), some (.int x1), some (.int x2), some (.int x3), some (.int x4), some (.ref 55), some (.ref 55)] [.int (v_111_0 5)] (hCm b d k s w ik ex pr wd sn qu tb ts (r0, rq) h0 h1 h2 h3 (f_111_0_fi 5 fi) R) rfl ?_
                have h := Option.some.inj h; subst h
                exact hX_end rfl rfl rfl
              · skip
                have h := gcF c12 h
                refine hX_goM 1 (40) [some (.ref 0), some (.int x0), some (.int x1), some (.int x2), some (.int x3), some (.int x4), some (.ref 55), some (.ref 55)] [.ref 55] rfl ?_
                refine hX_call (r' := zR_53) rfl (ct_53_55) ?_
                refine hX_goM 1 (bif gCmp .eq (v_53_55 h0) 0 then 52 else 46) [some (.ref 0), some (.int x0), some (.int x1), some (.int x2), some (.int x3), some (.int x4), some (.ref 55), some (.ref 55)] [] rfl ?_
                refine hX_if (gCmp .eq (v_53_55 h0) 0) (fun c13 => ?_) (fun c13 => ?_)
                · skip
                  have h := gcT c13 h
                  refine hX_goM 5 (bif gCmp .eq h0.2.1 h0.2.1 then 71 else 65) [some (.ref 0), some (.int x0), some (.int x1), some (.int x2), some (.int x3), some (.int x4), some (.ref 55), some (.ref 55)] [] rfl ?_
                  refine hX_if (gCmp .eq h0.2.1 h0.2.1) (fun c14 => ?_) (fun c14 => ?_)
                  · skip
                    have h := gcT c14 h
                    refine hX_goM 3 (76) [some (.ref 0), some (.int x0), some (.int x1), some (.int x2), some (.int x3), some (.int x4), some (.ref 55), some (.ref 55)] [.int x4, .int x1, .ref 55] rfl ?_
                    refine hX_call (r' := zR_56) rfl (ct_56_55 x1 x4) ?_
                    refine hX_goM 1 (bif gCmp .eq (v_56_55 x1 x4 h0) 0 then 94 else 82) [some (.ref 0), some (.int x0), some (.int x1), some (.int x2), some (.int x3), some (.int x4), some (.ref 55), some (.ref 55)] [] rfl ?_
                    refine hX_if (gCmp .eq (v_56_55 x1 x4 h0) 0) (fun c15 => ?_) (fun c15 => ?_)
                    · skip
                      have h := gcT c15 h
                      refine hX_goM 2 (96) [some (.ref 0), some (.int x0), some (.int x1), some (.int x2), some (.int x3), some (.int x4), some (.ref 55), some (.ref 55)] [.int 0, .ref 0] rfl ?_
                      refine hX_call (r' := zR_111) rfl (ct_111_0 0 rfl) ?_
                      refine hX_go 0 (99) [some (.ref 0), some (.int x0), some (.int x1), some (.int x2), some (.int x3), some (.int x4), some (.ref 55), some (.ref 55)] [.int (v_111_0 0)] (hCm b d k s w ik ex pr wd sn qu tb ts (r0, rq) h0 h1 h2 h3 (f_111_0_fi 0 fi) R) rfl ?_
                      have h := Option.some.inj h; subst h
                      exact hX_end rfl rfl rfl
                    · skip
                      have h := gcF c15 h
                      refine hX_goM 3 (88) [some (.ref 0), some (.int x0), some (.int x1), some (.int x2), some (.int x3), some (.int x4), some (.ref 55), some (.ref 55)] [.int x4, .int x3, .ref 55] rfl ?_
                      refine hX_call (r' := zR_56) rfl (ct_56_55 x3 x4) ?_
                      refine hX_goM 1 (bif gCmp .ne (v_56_55 x3 x4 h0) 0 then 100 else 94) [some (.ref 0), some (.int x0), some (.int x1), some (.int x2), some (.int x3), some (.int x4), some (.ref 55), some (.ref 55)] [] rfl ?_
                      refine hX_if (gCmp .ne (v_56_55 x3 x4 h0) 0) (fun c16 => ?_) (fun c16 => ?_)
                      · skip
                        have h := gcT c16 h
                        refine hX_goM 7 (115) [some (.ref 0), some (.int x0), some (.int x1), some (.int x2), some (.int x3), some (.int x4), some (.ref 55), some (.ref 55)] [.int x4, .int x3, .ref 56, .int x1, .ref 56] rfl ?_
                        revert h; refine gCondR fun g17 h => ?_
                        refine hX_g (!decide (x1 < 0) && !decide (x3 < 0) && !decide (x4 < 0) && Nat.ble (Int32.toNatClampNeg x1 + Int32.toNatClampNeg x4) 40 && Nat.ble (Int32.toNatClampNeg x3 + Int32.toNatClampNeg x4) 40) 118 [some (.ref 0), some (.int x0), some (.int x1), some (.int x2), some (.int x3), some (.int x4), some (.ref 55), some (.ref 55)] [] (hCm b d k s w ik ex pr wd sn qu tb ts (r0, rq) (va_cpy h0.1 h0.1 (Int32.toNatClampNeg x1) (Int32.toNatClampNeg x3) (Int32.toNatClampNeg x4), h0.2) h1 h2 h3 fi R) rfl g17 ?_
                        refine hX_goM 1 (120) [some (.ref 0), some (.int x0), some (.int x1), some (.int x2), some (.int x3), some (.int x4), some (.ref 55), some (.ref 55)] [.int x4] rfl ?_
                        have h := Option.some.inj h; subst h
                        exact hX_end rfl rfl rfl
                      · skip
                        have h := gcF c16 h
                        refine hX_goM 2 (96) [some (.ref 0), some (.int x0), some (.int x1), some (.int x2), some (.int x3), some (.int x4), some (.ref 55), some (.ref 55)] [.int 0, .ref 0] rfl ?_
                        refine hX_call (r' := zR_111) rfl (ct_111_0 0 rfl) ?_
                        refine hX_go 0 (99) [some (.ref 0), some (.int x0), some (.int x1), some (.int x2), some (.int x3), some (.int x4), some (.ref 55), some (.ref 55)] [.int (v_111_0 0)] (hCm b d k s w ik ex pr wd sn qu tb ts (r0, rq) h0 h1 h2 h3 (f_111_0_fi 0 fi) R) rfl ?_
                        have h := Option.some.inj h; subst h
                        exact hX_end rfl rfl rfl
                  · skip
                    have h := gcF c14 h
                    refine hX_goM 2 (67) [some (.ref 0), some (.int x0), some (.int x1), some (.int x2), some (.int x3), some (.int x4), some (.ref 55), some (.ref 55)] [.int 2, .ref 0] rfl ?_
                    refine hX_call (r' := zR_111) rfl (ct_111_0 2 rfl) ?_
                    refine hX_go 0 (70) [some (.ref 0), some (.int x0), some (.int x1), some (.int x2), some (.int x3), some (.int x4), some (.ref 55), some (.ref 55)] [.int (v_111_0 2)] (hCm b d k s w ik ex pr wd sn qu tb ts (r0, rq) h0 h1 h2 h3 (f_111_0_fi 2 fi) R) rfl ?_
                    have h := Option.some.inj h; subst h
                    exact hX_end rfl rfl rfl
                · skip
                  have h := gcF c13 h
                  refine hX_goM 2 (48) [some (.ref 0), some (.int x0), some (.int x1), some (.int x2), some (.int x3), some (.int x4), some (.ref 55), some (.ref 55)] [.int 5, .ref 0] rfl ?_
                  refine hX_call (r' := zR_111) rfl (ct_111_0 5 rfl) ?_
                  refine hX_go 0 (51) [some (.ref 0), some (.int x0), some (.int x1), some (.int x2), some (.int x3), some (.int x4), some (.ref 55), some (.ref 55)] [.int (v_111_0 5)] (hCm b d k s w ik ex pr wd sn qu tb ts (r0, rq) h0 h1 h2 h3 (f_111_0_fi 5 fi) R) rfl ?_
                  have h := Option.some.inj h; subst h
                  exact hX_end rfl rfl rfl
            · skip
              have h := gcF c11 h
              refine hX_bif (hEq x2 1) (fun c18 => ?_) (fun c18 => ?_)
              · skip
                have h := gcT c18 h
                refine hX_call (r' := zR_114) rfl (ct_114_0_3 x2 c9 c10 c11 c18) ?_
                refine hX_goM 6 (32) [some (.ref 0), some (.int x0), some (.int x1), some (.int x2), some (.int x3), some (.int x4), some (.ref 55), some (.ref 57)] [.ref 55] rfl ?_
                refine hX_call (r' := zR_53) rfl (ct_53_55) ?_
                refine hX_goM 1 (bif gCmp .ne (v_53_55 h0) 0 then 46 else 38) [some (.ref 0), some (.int x0), some (.int x1), some (.int x2), some (.int x3), some (.int x4), some (.ref 55), some (.ref 57)] [] rfl ?_
                refine hX_if (gCmp .ne (v_53_55 h0) 0) (fun c19 => ?_) (fun c19 => ?_)
                · skip
                  have h := gcT c19 h
                  refine hX_goM 2 (48) [some (.ref 0), some (.int x0), some (.int x1), some (.int x2), some (.int x3), some (.int x4), some (.ref 55), some (.ref 57)] [.int 5, .ref 0] rfl ?_
                  refine hX_call (r' := zR_111) rfl (ct_111_0 5 rfl) ?_
                  refine hX_go 0 (51) [some (.ref 0), some (.int x0), some (.int x1), some (.int x2), some (.int x3), some (.int x4), some (.ref 55), some (.ref 57)] [.int (v_111_0 5)] (hCm b d k s w ik ex pr wd sn qu tb ts (r0, rq) h0 h1 h2 h3 (f_111_0_fi 5 fi) R) rfl ?_
                  have h := Option.some.inj h; subst h
                  exact hX_end rfl rfl rfl
                · skip
                  have h := gcF c19 h
                  refine hX_goM 1 (40) [some (.ref 0), some (.int x0), some (.int x1), some (.int x2), some (.int x3), some (.int x4), some (.ref 55), some (.ref 57)] [.ref 57] rfl ?_
                  refine hX_call (r' := zR_53) rfl (ct_53_57) ?_
                  refine hX_goM 1 (bif gCmp .eq (v_53_57 h1) 0 then 52 else 46) [some (.ref 0), some (.int x0), some (.int x1), some (.int x2), some (.int x3), some (.int x4), some (.ref 55), some (.ref 57)] [] rfl ?_
                  refine hX_if (gCmp .eq (v_53_57 h1) 0) (fun c20 => ?_) (fun c20 => ?_)
                  · skip
                    have h := gcT c20 h
                    refine hX_goM 5 (bif gCmp .eq h0.2.1 h1.2.1 then 71 else 65) [some (.ref 0), some (.int x0), some (.int x1), some (.int x2), some (.int x3), some (.int x4), some (.ref 55), some (.ref 57)] [] rfl ?_
                    refine hX_if (gCmp .eq h0.2.1 h1.2.1) (fun c21 => ?_) (fun c21 => ?_)
                    · skip
                      have h := gcT c21 h
                      refine hX_goM 3 (76) [some (.ref 0), some (.int x0), some (.int x1), some (.int x2), some (.int x3), some (.int x4), some (.ref 55), some (.ref 57)] [.int x4, .int x1, .ref 55] rfl ?_
                      refine hX_call (r' := zR_56) rfl (ct_56_55 x1 x4) ?_
                      refine hX_goM 1 (bif gCmp .eq (v_56_55 x1 x4 h0) 0 then 94 else 82) [some (.ref 0), some (.int x0), some (.int x1), some (.int x2), some (.int x3), some (.int x4), some (.ref 55), some (.ref 57)] [] rfl ?_
                      refine hX_if (gCmp .eq (v_56_55 x1 x4 h0) 0) (fun c22 => ?_) (fun c22 => ?_)
                      · skip
                        have h := gcT c22 h
                        refine hX_goM 2 (96) [some (.ref 0), some (.int x0), some (.int x1), some (.int x2), some (.int x3), some (.int x4), some (.ref 55), some (.ref 57)] [.int 0, .ref 0] rfl ?_
                        refine hX_call (r' := zR_111) rfl (ct_111_0 0 rfl) ?_
                        refine hX_go 0 (99) [some (.ref 0), some (.int x0), some (.int x1), some (.int x2), some (.int x3), some (.int x4), some (.ref 55), some (.ref 57)] [.int (v_111_0 0)] (hCm b d k s w ik ex pr wd sn qu tb ts (r0, rq) h0 h1 h2 h3 (f_111_0_fi 0 fi) R) rfl ?_
                        have h := Option.some.inj h; subst h
                        exact hX_end rfl rfl rfl
                      · skip
                        have h := gcF c22 h
                        refine hX_goM 3 (88) [some (.ref 0), some (.int x0), some (.int x1), some (.int x2), some (.int x3), some (.int x4), some (.ref 55), some (.ref 57)] [.int x4, .int x3, .ref 57] rfl ?_
                        refine hX_call (r' := zR_56) rfl (ct_56_57 x3 x4) ?_
                        refine hX_goM 1 (bif gCmp .ne (v_56_57 x3 x4 h1) 0 then 100 else 94) [some (.ref 0), some (.int x0), some (.int x1), some (.int x2), some (.int x3), some (.int x4), some (.ref 55), some (.ref 57)] [] rfl ?_
                        refine hX_if (gCmp .ne (v_56_57 x3 x4 h1) 0) (fun c23 => ?_) (fun c23 => ?_)
                        · skip
                          have h := gcT c23 h
                          refine hX_goM 7 (115) [some (.ref 0), some (.int x0), some (.int x1), some (.int x2), some (.int x3), some (.int x4), some (.ref 55), some (.ref 57)] [.int x4, .int x3, .ref 58, .int x1, .ref 56] rfl ?_
                          revert h; refine gCondR fun g24 h => ?_
                          refine hX_g (!decide (x1 < 0) && !decide (x3 < 0) && !decide (x4 < 0) && Nat.ble (Int32.toNatClampNeg x1 + Int32.toNatClampNeg x4) 40 && Nat.ble (Int32.toNatClampNeg x3 + Int32.toNatClampNeg x4) 40) 118 [some (.ref 0), some (.int x0), some (.int x1), some (.int x2), some (.int x3), some (.int x4), some (.ref 55), some (.ref 57)] [] (hCm b d k s w ik ex pr wd sn qu tb ts (r0, rq) h0 (va_cpy h0.1 h1.1 (Int32.toNatClampNeg x1) (Int32.toNatClampNeg x3) (Int32.toNatClampNeg x4), h1.2) h2 h3 fi R) rfl g24 ?_
                          refine hX_goM 1 (120) [some (.ref 0), some (.int x0), some (.int x1), some (.int x2), some (.int x3), some (.int x4), some (.ref 55), some (.ref 57)] [.int x4] rfl ?_
                          have h := Option.some.inj h; subst h
                          exact hX_end rfl rfl rfl
                        · skip
                          have h := gcF c23 h
                          refine hX_goM 2 (96) [some (.ref 0), some (.int x0), some (.int x1), some (.int x2), some (.int x3), some (.int x4), some (.ref 55), some (.ref 57)] [.int 0, .ref 0] rfl ?_
                          refine hX_call (r' := zR_111) rfl (ct_111_0 0 rfl) ?_
                          refine hX_go 0 (99) [some (.ref 0), some (.int x0), some (.int x1), some (.int x2), some (.int x3), some (.int x4), some (.ref 55), some (.ref 57)] [.int (v_111_0 0)] (hCm b d k s w ik ex pr wd sn qu tb ts (r0, rq) h0 h1 h2 h3 (f_111_0_fi 0 fi) R) rfl ?_
                          have h := Option.some.inj h; subst h
                          exact hX_end rfl rfl rfl
                    · skip
                      have h := gcF c21 h
                      refine hX_goM 2 (67) [some (.ref 0), some (.int x0), some (.int x1), some (.int x2), some (.int x3), some (.int x4), some (.ref 55), some (.ref 57)] [.int 2, .ref 0] rfl ?_
                      refine hX_call (r' := zR_111) rfl (ct_111_0 2 rfl) ?_
                      refine hX_go 0 (70) [some (.ref 0), some (.int x0), some (.int x1), some (.int x2), some (.int x3), some (.int x4), some (.ref 55), some (.ref 57)] [.int (v_111_0 2)] (hCm b d k s w ik ex pr wd sn qu tb ts (r0, rq) h0 h1 h2 h3 (f_111_0_fi 2 fi) R) rfl ?_
                      have h := Option.some.inj h; subst h
                      exact hX_end rfl rfl rfl
                  · skip
                    have h := gcF c20 h
                    refine hX_goM 2 (48) [some (.ref 0), some (.int x0), some (.int x1), some (.int x2), some (.int x3), some (.int x4), some (.ref 55), some (.ref 57)] [.int 5, .ref 0] rfl ?_
                    refine hX_call (r' := zR_111) rfl (ct_111_0 5 rfl) ?_
                    refine hX_go 0 (51) [some (.ref 0), some (.int x0), some (.int x1), some (.int x2), some (.int x3), some (.int x4), some (.ref 55), some (.ref 57)] [.int (v_111_0 5)] (hCm b d k s w ik ex pr wd sn qu tb ts (r0, rq) h0 h1 h2 h3 (f_111_0_fi 5 fi) R) rfl ?_
                    have h := Option.some.inj h; subst h
                    exact hX_end rfl rfl rfl
              · skip
                have h := gcF c18 h
                refine hX_bif (hEq x2 2) (fun c25 => ?_) (fun c25 => ?_)
                · skip
                  have h := gcT c25 h
                  refine hX_call (r' := zR_114) rfl (ct_114_0_4 x2 c9 c10 c11 c18 c25) ?_
                  refine hX_goM 6 (32) [some (.ref 0), some (.int x0), some (.int x1), some (.int x2), some (.int x3), some (.int x4), some (.ref 55), some (.ref 59)] [.ref 55] rfl ?_
                  refine hX_call (r' := zR_53) rfl (ct_53_55) ?_
                  refine hX_goM 1 (bif gCmp .ne (v_53_55 h0) 0 then 46 else 38) [some (.ref 0), some (.int x0), some (.int x1), some (.int x2), some (.int x3), some (.int x4), some (.ref 55), some (.ref 59)] [] rfl ?_
                  refine hX_if (gCmp .ne (v_53_55 h0) 0) (fun c26 => ?_) (fun c26 => ?_)
                  · skip
                    have h := gcT c26 h
                    refine hX_goM 2 (48) [some (.ref 0), some (.int x0), some (.int x1), some (.int x2), some (.int x3), some (.int x4), some (.ref 55), some (.ref 59)] [.int 5, .ref 0] rfl ?_
                    refine hX_call (r' := zR_111) rfl (ct_111_0 5 rfl) ?_
                    refine hX_go 0 (51) [some (.ref 0), some (.int x0), some (.int x1), some (.int x2), some (.int x3), some (.int x4), some (.ref 55), some (.ref 59)] [.int (v_111_0 5)] (hCm b d k s w ik ex pr wd sn qu tb ts (r0, rq) h0 h1 h2 h3 (f_111_0_fi 5 fi) R) rfl ?_
                    have h := Option.some.inj h; subst h
                    exact hX_end rfl rfl rfl
                  · skip
                    have h := gcF c26 h
                    refine hX_goM 1 (40) [some (.ref 0), some (.int x0), some (.int x1), some (.int x2), some (.int x3), some (.int x4), some (.ref 55), some (.ref 59)] [.ref 59] rfl ?_
                    refine hX_call (r' := zR_53) rfl (ct_53_59) ?_
                    refine hX_goM 1 (bif gCmp .eq (v_53_59 h2) 0 then 52 else 46) [some (.ref 0), some (.int x0), some (.int x1), some (.int x2), some (.int x3), some (.int x4), some (.ref 55), some (.ref 59)] [] rfl ?_
                    refine hX_if (gCmp .eq (v_53_59 h2) 0) (fun c27 => ?_) (fun c27 => ?_)
                    · skip
                      have h := gcT c27 h
                      refine hX_goM 5 (bif gCmp .eq h0.2.1 h2.2.1 then 71 else 65) [some (.ref 0), some (.int x0), some (.int x1), some (.int x2), some (.int x3), some (.int x4), some (.ref 55), some (.ref 59)] [] rfl ?_
                      refine hX_if (gCmp .eq h0.2.1 h2.2.1) (fun c28 => ?_) (fun c28 => ?_)
                      · skip
                        have h := gcT c28 h
                        refine hX_goM 3 (76) [some (.ref 0), some (.int x0), some (.int x1), some (.int x2), some (.int x3), some (.int x4), some (.ref 55), some (.ref 59)] [.int x4, .int x1, .ref 55] rfl ?_
                        refine hX_call (r' := zR_56) rfl (ct_56_55 x1 x4) ?_
                        refine hX_goM 1 (bif gCmp .eq (v_56_55 x1 x4 h0) 0 then 94 else 82) [some (.ref 0), some (.int x0), some (.int x1), some (.int x2), some (.int x3), some (.int x4), some (.ref 55), some (.ref 59)] [] rfl ?_
                        refine hX_if (gCmp .eq (v_56_55 x1 x4 h0) 0) (fun c29 => ?_) (fun c29 => ?_)
                        · skip
                          have h := gcT c29 h
                          refine hX_goM 2 (96) [some (.ref 0), some (.int x0), some (.int x1), some (.int x2), some (.int x3), some (.int x4), some (.ref 55), some (.ref 59)] [.int 0, .ref 0] rfl ?_
                          refine hX_call (r' := zR_111) rfl (ct_111_0 0 rfl) ?_
                          refine hX_go 0 (99) [some (.ref 0), some (.int x0), some (.int x1), some (.int x2), some (.int x3), some (.int x4), some (.ref 55), some (.ref 59)] [.int (v_111_0 0)] (hCm b d k s w ik ex pr wd sn qu tb ts (r0, rq) h0 h1 h2 h3 (f_111_0_fi 0 fi) R) rfl ?_
                          have h := Option.some.inj h; subst h
                          exact hX_end rfl rfl rfl
                        · skip
                          have h := gcF c29 h
                          refine hX_goM 3 (88) [some (.ref 0), some (.int x0), some (.int x1), some (.int x2), some (.int x3), some (.int x4), some (.ref 55), some (.ref 59)] [.int x4, .int x3, .ref 59] rfl ?_
                          refine hX_call (r' := zR_56) rfl (ct_56_59 x3 x4) ?_
                          refine hX_goM 1 (bif gCmp .ne (v_56_59 x3 x4 h2) 0 then 100 else 94) [some (.ref 0), some (.int x0), some (.int x1), some (.int x2), some (.int x3), some (.int x4), some (.ref 55), some (.ref 59)] [] rfl ?_
                          refine hX_if (gCmp .ne (v_56_59 x3 x4 h2) 0) (fun c30 => ?_) (fun c30 => ?_)
                          · skip
                            have h := gcT c30 h
                            refine hX_goM 7 (115) [some (.ref 0), some (.int x0), some (.int x1), some (.int x2), some (.int x3), some (.int x4), some (.ref 55), some (.ref 59)] [.int x4, .int x3, .ref 60, .int x1, .ref 56] rfl ?_
                            revert h; refine gCondR fun g31 h => ?_
                            refine hX_g (!decide (x1 < 0) && !decide (x3 < 0) && !decide (x4 < 0) && Nat.ble (Int32.toNatClampNeg x1 + Int32.toNatClampNeg x4) 40 && Nat.ble (Int32.toNatClampNeg x3 + Int32.toNatClampNeg x4) 40) 118 [some (.ref 0), some (.int x0), some (.int x1), some (.int x2), some (.int x3), some (.int x4), some (.ref 55), some (.ref 59)] [] (hCm b d k s w ik ex pr wd sn qu tb ts (r0, rq) h0 h1 (va_cpy h0.1 h2.1 (Int32.toNatClampNeg x1) (Int32.toNatClampNeg x3) (Int32.toNatClampNeg x4), h2.2) h3 fi R) rfl g31 ?_
                            refine hX_goM 1 (120) [some (.ref 0), some (.int x0), some (.int x1), some (.int x2), some (.int x3), some (.int x4), some (.ref 55), some (.ref 59)] [.int x4] rfl ?_
                            have h := Option.some.inj h; subst h
                            exact hX_end rfl rfl rfl
                          · skip
                            have h := gcF c30 h
                            refine hX_goM 2 (96) [some (.ref 0), some (.int x0), some (.int x1), some (.int x2), some (.int x3), some (.int x4), some (.ref 55), some (.ref 59)] [.int 0, .ref 0] rfl ?_
                            refine hX_call (r' := zR_111) rfl (ct_111_0 0 rfl) ?_
                            refine hX_go 0 (99) [some (.ref 0), some (.int x0), some (.int x1), some (.int x2), some (.int x3), some (.int x4), some (.ref 55), some (.ref 59)] [.int (v_111_0 0)] (hCm b d k s w ik ex pr wd sn qu tb ts (r0, rq) h0 h1 h2 h3 (f_111_0_fi 0 fi) R) rfl ?_
                            have h := Option.some.inj h; subst h
                            exact hX_end rfl rfl rfl
                      · skip
                        have h := gcF c28 h
                        refine hX_goM 2 (67) [some (.ref 0), some (.int x0), some (.int x1), some (.int x2), some (.int x3), some (.int x4), some (.ref 55), some (.ref 59)] [.int 2, .ref 0] rfl ?_
                        refine hX_call (r' := zR_111) rfl (ct_111_0 2 rfl) ?_
                        refine hX_go 0 (70) [some (.ref 0), some (.int x0), some (.int x1), some (.int x2), some (.int x3), some (.int x4), some (.ref 55), some (.ref 59)] [.int (v_111_0 2)] (hCm b d k s w ik ex pr wd sn qu tb ts (r0, rq) h0 h1 h2 h3 (f_111_0_fi 2 fi) R) rfl ?_
                        have h := Option.some.inj h; subst h
                        exact hX_end rfl rfl rfl
                    · skip
                      have h := gcF c27 h
                      refine hX_goM 2 (48) [some (.ref 0), some (.int x0), some (.int x1), some (.int x2), some (.int x3), some (.int x4), some (.ref 55), some (.ref 59)] [.int 5, .ref 0] rfl ?_
                      refine hX_call (r' := zR_111) rfl (ct_111_0 5 rfl) ?_
                      refine hX_go 0 (51) [some (.ref 0), some (.int x0), some (.int x1), some (.int x2), some (.int x3), some (.int x4), some (.ref 55), some (.ref 59)] [.int (v_111_0 5)] (hCm b d k s w ik ex pr wd sn qu tb ts (r0, rq) h0 h1 h2 h3 (f_111_0_fi 5 fi) R) rfl ?_
                      have h := Option.some.inj h; subst h
                      exact hX_end rfl rfl rfl
                · skip
                  have h := gcF c25 h
                  refine hX_call (r' := zR_114) rfl (ct_114_0_5 x2 c9 c10 c11 c18 c25) ?_
                  refine hX_goM 6 (32) [some (.ref 0), some (.int x0), some (.int x1), some (.int x2), some (.int x3), some (.int x4), some (.ref 55), some (.ref 61)] [.ref 55] rfl ?_
                  refine hX_call (r' := zR_53) rfl (ct_53_55) ?_
                  refine hX_goM 1 (bif gCmp .ne (v_53_55 h0) 0 then 46 else 38) [some (.ref 0), some (.int x0), some (.int x1), some (.int x2), some (.int x3), some (.int x4), some (.ref 55), some (.ref 61)] [] rfl ?_
                  refine hX_if (gCmp .ne (v_53_55 h0) 0) (fun c32 => ?_) (fun c32 => ?_)
                  · skip
                    have h := gcT c32 h
                    refine hX_goM 2 (48) [some (.ref 0), some (.int x0), some (.int x1), some (.int x2), some (.int x3), some (.int x4), some (.ref 55), some (.ref 61)] [.int 5, .ref 0] rfl ?_
                    refine hX_call (r' := zR_111) rfl (ct_111_0 5 rfl) ?_
                    refine hX_go 0 (51) [some (.ref 0), some (.int x0), some (.int x1), some (.int x2), some (.int x3), some (.int x4), some (.ref 55), some (.ref 61)] [.int (v_111_0 5)] (hCm b d k s w ik ex pr wd sn qu tb ts (r0, rq) h0 h1 h2 h3 (f_111_0_fi 5 fi) R) rfl ?_
                    have h := Option.some.inj h; subst h
                    exact hX_end rfl rfl rfl
                  · skip
                    have h := gcF c32 h
                    refine hX_goM 1 (40) [some (.ref 0), some (.int x0), some (.int x1), some (.int x2), some (.int x3), some (.int x4), some (.ref 55), some (.ref 61)] [.ref 61] rfl ?_
                    refine hX_call (r' := zR_53) rfl (ct_53_61) ?_
                    refine hX_goM 1 (bif gCmp .eq (v_53_61 h3) 0 then 52 else 46) [some (.ref 0), some (.int x0), some (.int x1), some (.int x2), some (.int x3), some (.int x4), some (.ref 55), some (.ref 61)] [] rfl ?_
                    refine hX_if (gCmp .eq (v_53_61 h3) 0) (fun c33 => ?_) (fun c33 => ?_)
                    · skip
                      have h := gcT c33 h
                      refine hX_goM 5 (bif gCmp .eq h0.2.1 h3.2.1 then 71 else 65) [some (.ref 0), some (.int x0), some (.int x1), some (.int x2), some (.int x3), some (.int x4), some (.ref 55), some (.ref 61)] [] rfl ?_
                      refine hX_if (gCmp .eq h0.2.1 h3.2.1) (fun c34 => ?_) (fun c34 => ?_)
                      · skip
                        have h := gcT c34 h
                        refine hX_goM 3 (76) [some (.ref 0), some (.int x0), some (.int x1), some (.int x2), some (.int x3), some (.int x4), some (.ref 55), some (.ref 61)] [.int x4, .int x1, .ref 55] rfl ?_
                        refine hX_call (r' := zR_56) rfl (ct_56_55 x1 x4) ?_
                        refine hX_goM 1 (bif gCmp .eq (v_56_55 x1 x4 h0) 0 then 94 else 82) [some (.ref 0), some (.int x0), some (.int x1), some (.int x2), some (.int x3), some (.int x4), some (.ref 55), some (.ref 61)] [] rfl ?_
                        refine hX_if (gCmp .eq (v_56_55 x1 x4 h0) 0) (fun c35 => ?_) (fun c35 => ?_)
                        · skip
                          have h := gcT c35 h
                          refine hX_goM 2 (96) [some (.ref 0), some (.int x0), some (.int x1), some (.int x2), some (.int x3), some (.int x4), some (.ref 55), some (.ref 61)] [.int 0, .ref 0] rfl ?_
                          refine hX_call (r' := zR_111) rfl (ct_111_0 0 rfl) ?_
                          refine hX_go 0 (99) [some (.ref 0), some (.int x0), some (.int x1), some (.int x2), some (.int x3), some (.int x4), some (.ref 55), some (.ref 61)] [.int (v_111_0 0)] (hCm b d k s w ik ex pr wd sn qu tb ts (r0, rq) h0 h1 h2 h3 (f_111_0_fi 0 fi) R) rfl ?_
                          have h := Option.some.inj h; subst h
                          exact hX_end rfl rfl rfl
                        · skip
                          have h := gcF c35 h
                          refine hX_goM 3 (88) [some (.ref 0), some (.int x0), some (.int x1), some (.int x2), some (.int x3), some (.int x4), some (.ref 55), some (.ref 61)] [.int x4, .int x3, .ref 61] rfl ?_
                          refine hX_call (r' := zR_56) rfl (ct_56_61 x3 x4) ?_
                          refine hX_goM 1 (bif gCmp .ne (v_56_61 x3 x4 h3) 0 then 100 else 94) [some (.ref 0), some (.int x0), some (.int x1), some (.int x2), some (.int x3), some (.int x4), some (.ref 55), some (.ref 61)] [] rfl ?_
                          refine hX_if (gCmp .ne (v_56_61 x3 x4 h3) 0) (fun c36 => ?_) (fun c36 => ?_)
                          · skip
                            have h := gcT c36 h
                            refine hX_goM 7 (115) [some (.ref 0), some (.int x0), some (.int x1), some (.int x2), some (.int x3), some (.int x4), some (.ref 55), some (.ref 61)] [.int x4, .int x3, .ref 62, .int x1, .ref 56] rfl ?_
                            revert h; refine gCondR fun g37 h => ?_
                            refine hX_g (!decide (x1 < 0) && !decide (x3 < 0) && !decide (x4 < 0) && Nat.ble (Int32.toNatClampNeg x1 + Int32.toNatClampNeg x4) 40 && Nat.ble (Int32.toNatClampNeg x3 + Int32.toNatClampNeg x4) 40) 118 [some (.ref 0), some (.int x0), some (.int x1), some (.int x2), some (.int x3), some (.int x4), some (.ref 55), some (.ref 61)] [] (hCm b d k s w ik ex pr wd sn qu tb ts (r0, rq) h0 h1 h2 (va_cpy h0.1 h3.1 (Int32.toNatClampNeg x1) (Int32.toNatClampNeg x3) (Int32.toNatClampNeg x4), h3.2) fi R) rfl g37 ?_
                            refine hX_goM 1 (120) [some (.ref 0), some (.int x0), some (.int x1), some (.int x2), some (.int x3), some (.int x4), some (.ref 55), some (.ref 61)] [.int x4] rfl ?_
                            have h := Option.some.inj h; subst h
                            exact hX_end rfl rfl rfl
                          · skip
                            have h := gcF c36 h
                            refine hX_goM 2 (96) [some (.ref 0), some (.int x0), some (.int x1), some (.int x2), some (.int x3), some (.int x4), some (.ref 55), some (.ref 61)] [.int 0, .ref 0] rfl ?_
                            refine hX_call (r' := zR_111) rfl (ct_111_0 0 rfl) ?_
                            refine hX_go 0 (99) [some (.ref 0), some (.int x0), some (.int x1), some (.int x2), some (.int x3), some (.int x4), some (.ref 55), some (.ref 61)] [.int (v_111_0 0)] (hCm b d k s w ik ex pr wd sn qu tb ts (r0, rq) h0 h1 h2 h3 (f_111_0_fi 0 fi) R) rfl ?_
                            have h := Option.some.inj h; subst h
                            exact hX_end rfl rfl rfl
                      · skip
                        have h := gcF c34 h
                        refine hX_goM 2 (67) [some (.ref 0), some (.int x0), some (.int x1), some (.int x2), some (.int x3), some (.int x4), some (.ref 55), some (.ref 61)] [.int 2, .ref 0] rfl ?_
                        refine hX_call (r' := zR_111) rfl (ct_111_0 2 rfl) ?_
                        refine hX_go 0 (70) [some (.ref 0), some (.int x0), some (.int x1), some (.int x2), some (.int x3), some (.int x4), some (.ref 55), some (.ref 61)] [.int (v_111_0 2)] (hCm b d k s w ik ex pr wd sn qu tb ts (r0, rq) h0 h1 h2 h3 (f_111_0_fi 2 fi) R) rfl ?_
                        have h := Option.some.inj h; subst h
                        exact hX_end rfl rfl rfl
                    · skip
                      have h := gcF c33 h
                      refine hX_goM 2 (48) [some (.ref 0), some (.int x0), some (.int x1), some (.int x2), some (.int x3), some (.int x4), some (.ref 55), some (.ref 61)] [.int 5, .ref 0] rfl ?_
                      refine hX_call (r' := zR_111) rfl (ct_111_0 5 rfl) ?_
                      refine hX_go 0 (51) [some (.ref 0), some (.int x0), some (.int x1), some (.int x2), some (.int x3), some (.int x4), some (.ref 55), some (.ref 61)] [.int (v_111_0 5)] (hCm b d k s w ik ex pr wd sn qu tb ts (r0, rq) h0 h1 h2 h3 (f_111_0_fi 5 fi) R) rfl ?_
                      have h := Option.some.inj h; subst h
                      exact hX_end rfl rfl rfl
          · skip
            have h := gcF c10 h
            refine hX_call (r' := zR_114) rfl (ct_114_0_1 x2 c9 c10) ?_
            refine hX_goM 7 (26) [some (.ref 0), some (.int x0), some (.int x1), some (.int x2), some (.int x3), some (.int x4), some (.ref 55), some (.null)] [.int 0, .ref 0] rfl ?_
            refine hX_call (r' := zR_111) rfl (ct_111_0 0 rfl) ?_
            refine hX_go 0 (29) [some (.ref 0), some (.int x0), some (.int x1), some (.int x2), some (.int x3), some (.int x4), some (.ref 55), some (.null)] [.int (v_111_0 0)] (hCm b d k s w ik ex pr wd sn qu tb ts (r0, rq) h0 h1 h2 h3 (f_111_0_fi 0 fi) R) rfl ?_
            have h := Option.some.inj h; subst h
            exact hX_end rfl rfl rfl
      · skip
        have h := gcF c8 h
        refine hX_bif (hEq x0 1) (fun c38 => ?_) (fun c38 => ?_)
        · skip
          have h := gcT c38 h
          refine hX_call (r' := zR_114) rfl (ct_114_0_3 x0 c1 c7 c8 c38) ?_
          refine hX_goM 3 (9) [some (.ref 0), some (.int x0), some (.int x1), some (.int x2), some (.int x3), some (.int x4), some (.ref 57), none] [.int x2, .ref 0] rfl ?_
          refine hX_bif (gCmp .lt x2 0) (fun c39 => ?_) (fun c39 => ?_)
          · skip
            have h := gcT c39 h
            refine hX_call (r' := zR_114) rfl (ct_114_0_0 x2 c39) ?_
            refine hX_goM 7 (26) [some (.ref 0), some (.int x0), some (.int x1), some (.int x2), some (.int x3), some (.int x4), some (.ref 57), some (.null)] [.int 0, .ref 0] rfl ?_
            refine hX_call (r' := zR_111) rfl (ct_111_0 0 rfl) ?_
            refine hX_go 0 (29) [some (.ref 0), some (.int x0), some (.int x1), some (.int x2), some (.int x3), some (.int x4), some (.ref 57), some (.null)] [.int (v_111_0 0)] (hCm b d k s w ik ex pr wd sn qu tb ts (r0, rq) h0 h1 h2 h3 (f_111_0_fi 0 fi) R) rfl ?_
            have h := Option.some.inj h; subst h
            exact hX_end rfl rfl rfl
          · skip
            have h := gcF c39 h
            refine hX_bif (gCmp .lt x2 4) (fun c40 => ?_) (fun c40 => ?_)
            · skip
              have h := gcT c40 h
              refine hX_bif (hEq x2 0) (fun c41 => ?_) (fun c41 => ?_)
              · skip
                have h := gcT c41 h
                refine hX_call (r' := zR_114) rfl (ct_114_0_2 x2 c39 c40 c41) ?_
                refine hX_goM 6 (32) [some (.ref 0), some (.int x0), some (.int x1), some (.int x2), some (.int x3), some (.int x4), some (.ref 57), some (.ref 55)] [.ref 57] rfl ?_
                refine hX_call (r' := zR_53) rfl (ct_53_57) ?_
                refine hX_goM 1 (bif gCmp .ne (v_53_57 h1) 0 then 46 else 38) [some (.ref 0), some (.int x0), some (.int x1), some (.int x2), some (.int x3), some (.int x4), some (.ref 57), some (.ref 55)] [] rfl ?_
                refine hX_if (gCmp .ne (v_53_57 h1) 0) (fun c42 => ?_) (fun c42 => ?_)
                · skip
                  have h := gcT c42 h
                  refine hX_goM 2 (48) [some (.ref 0), some (.int x0), some (.int x1), some (.int x2), some (.int x3), some (.int x4), some (.ref 57), some (.ref 55)] [.int 5, .ref 0] rfl ?_
                  refine hX_call (r' := zR_111) rfl (ct_111_0 5 rfl) ?_
                  refine hX_go 0 (51) [some (.ref 0), some (.int x0), some (.int x1), some (.int x2), some (.int x3), some (.int x4), some (.ref 57), some (.ref 55)] [.int (v_111_0 5)] (hCm b d k s w ik ex pr wd sn qu tb ts (r0, rq) h0 h1 h2 h3 (f_111_0_fi 5 fi) R) rfl ?_
                  have h := Option.some.inj h; subst h
                  exact hX_end rfl rfl rfl
                · skip
                  have h := gcF c42 h
                  refine hX_goM 1 (40) [some (.ref 0), some (.int x0), some (.int x1), some (.int x2), some (.int x3), some (.int x4), some (.ref 57), some (.ref 55)] [.ref 55] rfl ?_
                  refine hX_call (r' := zR_53) rfl (ct_53_55) ?_
                  refine hX_goM 1 (bif gCmp .eq (v_53_55 h0) 0 then 52 else 46) [some (.ref 0), some (.int x0), some (.int x1), some (.int x2), some (.int x3), some (.int x4), some (.ref 57), some (.ref 55)] [] rfl ?_
                  refine hX_if (gCmp .eq (v_53_55 h0) 0) (fun c43 => ?_) (fun c43 => ?_)
                  · skip
                    have h := gcT c43 h
                    refine hX_goM 5 (bif gCmp .eq h1.2.1 h0.2.1 then 71 else 65) [some (.ref 0), some (.int x0), some (.int x1), some (.int x2), some (.int x3), some (.int x4), some (.ref 57), some (.ref 55)] [] rfl ?_
                    refine hX_if (gCmp .eq h1.2.1 h0.2.1) (fun c44 => ?_) (fun c44 => ?_)
                    · skip
                      have h := gcT c44 h
                      refine hX_goM 3 (76) [some (.ref 0), some (.int x0), some (.int x1), some (.int x2), some (.int x3), some (.int x4), some (.ref 57), some (.ref 55)] [.int x4, .int x1, .ref 57] rfl ?_
                      refine hX_call (r' := zR_56) rfl (ct_56_57 x1 x4) ?_
                      refine hX_goM 1 (bif gCmp .eq (v_56_57 x1 x4 h1) 0 then 94 else 82) [some (.ref 0), some (.int x0), some (.int x1), some (.int x2), some (.int x3), some (.int x4), some (.ref 57), some (.ref 55)] [] rfl ?_
                      refine hX_if (gCmp .eq (v_56_57 x1 x4 h1) 0) (fun c45 => ?_) (fun c45 => ?_)
                      · skip
                        have h := gcT c45 h
                        refine hX_goM 2 (96) [some (.ref 0), some (.int x0), some (.int x1), some (.int x2), some (.int x3), some (.int x4), some (.ref 57), some (.ref 55)] [.int 0, .ref 0] rfl ?_
                        refine hX_call (r' := zR_111) rfl (ct_111_0 0 rfl) ?_
                        refine hX_go 0 (99) [some (.ref 0), some (.int x0), some (.int x1), some (.int x2), some (.int x3), some (.int x4), some (.ref 57), some (.ref 55)] [.int (v_111_0 0)] (hCm b d k s w ik ex pr wd sn qu tb ts (r0, rq) h0 h1 h2 h3 (f_111_0_fi 0 fi) R) rfl ?_
                        have h := Option.some.inj h; subst h
                        exact hX_end rfl rfl rfl
                      · skip
                        have h := gcF c45 h
                        refine hX_goM 3 (88) [some (.ref 0), some (.int x0), some (.int x1), some (.int x2), some (.int x3), some (.int x4), some (.ref 57), some (.ref 55)] [.int x4, .int x3, .ref 55] rfl ?_
                        refine hX_call (r' := zR_56) rfl (ct_56_55 x3 x4) ?_
                        refine hX_goM 1 (bif gCmp .ne (v_56_55 x3 x4 h0) 0 then 100 else 94) [some (.ref 0), some (.int x0), some (.int x1), some (.int x2), some (.int x3), some (.int x4), some (.ref 57), some (.ref 55)] [] rfl ?_
                        refine hX_if (gCmp .ne (v_56_55 x3 x4 h0) 0) (fun c46 => ?_) (fun c46 => ?_)
                        · skip
                          have h := gcT c46 h
                          refine hX_goM 7 (115) [some (.ref 0), some (.int x0), some (.int x1), some (.int x2), some (.int x3), some (.int x4), some (.ref 57), some (.ref 55)] [.int x4, .int x3, .ref 56, .int x1, .ref 58] rfl ?_
                          revert h; refine gCondR fun g47 h => ?_
                          refine hX_g (!decide (x1 < 0) && !decide (x3 < 0) && !decide (x4 < 0) && Nat.ble (Int32.toNatClampNeg x1 + Int32.toNatClampNeg x4) 40 && Nat.ble (Int32.toNatClampNeg x3 + Int32.toNatClampNeg x4) 40) 118 [some (.ref 0), some (.int x0), some (.int x1), some (.int x2), some (.int x3), some (.int x4), some (.ref 57), some (.ref 55)] [] (hCm b d k s w ik ex pr wd sn qu tb ts (r0, rq) (va_cpy h1.1 h0.1 (Int32.toNatClampNeg x1) (Int32.toNatClampNeg x3) (Int32.toNatClampNeg x4), h0.2) h1 h2 h3 fi R) rfl g47 ?_
                          refine hX_goM 1 (120) [some (.ref 0), some (.int x0), some (.int x1), some (.int x2), some (.int x3), some (.int x4), some (.ref 57), some (.ref 55)] [.int x4] rfl ?_
                          have h := Option.some.inj h; subst h
                          exact hX_end rfl rfl rfl
                        · skip
                          have h := gcF c46 h
                          refine hX_goM 2 (96) [some (.ref 0), some (.int x0), some (.int x1), some (.int x2), some (.int x3), some (.int x4), some (.ref 57), some (.ref 55)] [.int 0, .ref 0] rfl ?_
                          refine hX_call (r' := zR_111) rfl (ct_111_0 0 rfl) ?_
                          refine hX_go 0 (99) [some (.ref 0), some (.int x0), some (.int x1), some (.int x2), some (.int x3), some (.int x4), some (.ref 57), some (.ref 55)] [.int (v_111_0 0)] (hCm b d k s w ik ex pr wd sn qu tb ts (r0, rq) h0 h1 h2 h3 (f_111_0_fi 0 fi) R) rfl ?_
                          have h := Option.some.inj h; subst h
                          exact hX_end rfl rfl rfl
                    · skip
                      have h := gcF c44 h
                      refine hX_goM 2 (67) [some (.ref 0), some (.int x0), some (.int x1), some (.int x2), some (.int x3), some (.int x4), some (.ref 57), some (.ref 55)] [.int 2, .ref 0] rfl ?_
                      refine hX_call (r' := zR_111) rfl (ct_111_0 2 rfl) ?_
                      refine hX_go 0 (70) [some (.ref 0), some (.int x0), some (.int x1), some (.int x2), some (.int x3), some (.int x4), some (.ref 57), some (.ref 55)] [.int (v_111_0 2)] (hCm b d k s w ik ex pr wd sn qu tb ts (r0, rq) h0 h1 h2 h3 (f_111_0_fi 2 fi) R) rfl ?_
                      have h := Option.some.inj h; subst h
                      exact hX_end rfl rfl rfl
                  · skip
                    have h := gcF c43 h
                    refine hX_goM 2 (48) [some (.ref 0), some (.int x0), some (.int x1), some (.int x2), some (.int x3), some (.int x4), some (.ref 57), some (.ref 55)] [.int 5, .ref 0] rfl ?_
                    refine hX_call (r' := zR_111) rfl (ct_111_0 5 rfl) ?_
                    refine hX_go 0 (51) [some (.ref 0), some (.int x0), some (.int x1), some (.int x2), some (.int x3), some (.int x4), some (.ref 57), some (.ref 55)] [.int (v_111_0 5)] (hCm b d k s w ik ex pr wd sn qu tb ts (r0, rq) h0 h1 h2 h3 (f_111_0_fi 5 fi) R) rfl ?_
                    have h := Option.some.inj h; subst h
                    exact hX_end rfl rfl rfl
              · skip
                have h := gcF c41 h
                refine hX_bif (hEq x2 1) (fun c48 => ?_) (fun c48 => ?_)
                · skip
                  have h := gcT c48 h
                  refine hX_call (r' := zR_114) rfl (ct_114_0_3 x2 c39 c40 c41 c48) ?_
                  refine hX_goM 6 (32) [some (.ref 0), some (.int x0), some (.int x1), some (.int x2), some (.int x3), some (.int x4), some (.ref 57), some (.ref 57)] [.ref 57] rfl ?_
                  refine hX_call (r' := zR_53) rfl (ct_53_57) ?_
                  refine hX_goM 1 (bif gCmp .ne (v_53_57 h1) 0 then 46 else 38) [some (.ref 0), some (.int x0), some (.int x1), some (.int x2), some (.int x3), some (.int x4), some (.ref 57), some (.ref 57)] [] rfl ?_
                  refine hX_if (gCmp .ne (v_53_57 h1) 0) (fun c49 => ?_) (fun c49 => ?_)
                  · skip
                    have h := gcT c49 h
                    refine hX_goM 2 (48) [some (.ref 0), some (.int x0), some (.int x1), some (.int x2), some (.int x3), some (.int x4), some (.ref 57), some (.ref 57)] [.int 5, .ref 0] rfl ?_
                    refine hX_call (r' := zR_111) rfl (ct_111_0 5 rfl) ?_
                    refine hX_go 0 (51) [some (.ref 0), some (.int x0), some (.int x1), some (.int x2), some (.int x3), some (.int x4), some (.ref 57), some (.ref 57)] [.int (v_111_0 5)] (hCm b d k s w ik ex pr wd sn qu tb ts (r0, rq) h0 h1 h2 h3 (f_111_0_fi 5 fi) R) rfl ?_
                    have h := Option.some.inj h; subst h
                    exact hX_end rfl rfl rfl
                  · skip
                    have h := gcF c49 h
                    refine hX_goM 1 (40) [some (.ref 0), some (.int x0), some (.int x1), some (.int x2), some (.int x3), some (.int x4), some (.ref 57), some (.ref 57)] [.ref 57] rfl ?_
                    refine hX_call (r' := zR_53) rfl (ct_53_57) ?_
                    refine hX_goM 1 (bif gCmp .eq (v_53_57 h1) 0 then 52 else 46) [some (.ref 0), some (.int x0), some (.int x1), some (.int x2), some (.int x3), some (.int x4), some (.ref 57), some (.ref 57)] [] rfl ?_
                    refine hX_if (gCmp .eq (v_53_57 h1) 0) (fun c50 => ?_) (fun c50 => ?_)
                    · skip
                      have h := gcT c50 h
                      refine hX_goM 5 (bif gCmp .eq h1.2.1 h1.2.1 then 71 else 65) [some (.ref 0), some (.int x0), some (.int x1), some (.int x2), some (.int x3), some (.int x4), some (.ref 57), some (.ref 57)] [] rfl ?_
                      refine hX_if (gCmp .eq h1.2.1 h1.2.1) (fun c51 => ?_) (fun c51 => ?_)
                      · skip
                        have h := gcT c51 h
                        refine hX_goM 3 (76) [some (.ref 0), some (.int x0), some (.int x1), some (.int x2), some (.int x3), some (.int x4), some (.ref 57), some (.ref 57)] [.int x4, .int x1, .ref 57] rfl ?_
                        refine hX_call (r' := zR_56) rfl (ct_56_57 x1 x4) ?_
                        refine hX_goM 1 (bif gCmp .eq (v_56_57 x1 x4 h1) 0 then 94 else 82) [some (.ref 0), some (.int x0), some (.int x1), some (.int x2), some (.int x3), some (.int x4), some (.ref 57), some (.ref 57)] [] rfl ?_
                        refine hX_if (gCmp .eq (v_56_57 x1 x4 h1) 0) (fun c52 => ?_) (fun c52 => ?_)
                        · skip
                          have h := gcT c52 h
                          refine hX_goM 2 (96) [some (.ref 0), some (.int x0), some (.int x1), some (.int x2), some (.int x3), some (.int x4), some (.ref 57), some (.ref 57)] [.int 0, .ref 0] rfl ?_
                          refine hX_call (r' := zR_111) rfl (ct_111_0 0 rfl) ?_
                          refine hX_go 0 (99) [some (.ref 0), some (.int x0), some (.int x1), some (.int x2), some (.int x3), some (.int x4), some (.ref 57), some (.ref 57)] [.int (v_111_0 0)] (hCm b d k s w ik ex pr wd sn qu tb ts (r0, rq) h0 h1 h2 h3 (f_111_0_fi 0 fi) R) rfl ?_
                          have h := Option.some.inj h; subst h
                          exact hX_end rfl rfl rfl
                        · skip
                          have h := gcF c52 h
                          refine hX_goM 3 (88) [some (.ref 0), some (.int x0), some (.int x1), some (.int x2), some (.int x3), some (.int x4), some (.ref 57), some (.ref 57)] [.int x4, .int x3, .ref 57] rfl ?_
                          refine hX_call (r' := zR_56) rfl (ct_56_57 x3 x4) ?_
                          refine hX_goM 1 (bif gCmp .ne (v_56_57 x3 x4 h1) 0 then 100 else 94) [some (.ref 0), some (.int x0), some (.int x1), some (.int x2), some (.int x3), some (.int x4), some (.ref 57), some (.ref 57)] [] rfl ?_
                          refine hX_if (gCmp .ne (v_56_57 x3 x4 h1) 0) (fun c53 => ?_) (fun c53 => ?_)
                          · skip
                            have h := gcT c53 h
                            refine hX_goM 7 (115) [some (.ref 0), some (.int x0), some (.int x1), some (.int x2), some (.int x3), some (.int x4), some (.ref 57), some (.ref 57)] [.int x4, .int x3, .ref 58, .int x1, .ref 58] rfl ?_
                            revert h; refine gCondR fun g54 h => ?_
                            refine hX_g (!decide (x1 < 0) && !decide (x3 < 0) && !decide (x4 < 0) && Nat.ble (Int32.toNatClampNeg x1 + Int32.toNatClampNeg x4) 40 && Nat.ble (Int32.toNatClampNeg x3 + Int32.toNatClampNeg x4) 40) 118 [some (.ref 0), some (.int x0), some (.int x1), some (.int x2), some (.int x3), some (.int x4), some (.ref 57), some (.ref 57)] [] (hCm b d k s w ik ex pr wd sn qu tb ts (r0, rq) h0 (va_cpy h1.1 h1.1 (Int32.toNatClampNeg x1) (Int32.toNatClampNeg x3) (Int32.toNatClampNeg x4), h1.2) h2 h3 fi R) rfl g54 ?_
                            refine hX_goM 1 (120) [some (.ref 0), some (.int x0), some (.int x1), some (.int x2), some (.int x3), some (.int x4), some (.ref 57), some (.ref 57)] [.int x4] rfl ?_
                            have h := Option.some.inj h; subst h
                            exact hX_end rfl rfl rfl
                          · skip
                            have h := gcF c53 h
                            refine hX_goM 2 (96) [some (.ref 0), some (.int x0), some (.int x1), some (.int x2), some (.int x3), some (.int x4), some (.ref 57), some (.ref 57)] [.int 0, .ref 0] rfl ?_
                            refine hX_call (r' := zR_111) rfl (ct_111_0 0 rfl) ?_
                            refine hX_go 0 (99) [some (.ref 0), some (.int x0), some (.int x1), some (.int x2), some (.int x3), some (.int x4), some (.ref 57), some (.ref 57)] [.int (v_111_0 0)] (hCm b d k s w ik ex pr wd sn qu tb ts (r0, rq) h0 h1 h2 h3 (f_111_0_fi 0 fi) R) rfl ?_
                            have h := Option.some.inj h; subst h
                            exact hX_end rfl rfl rfl
                      · skip
                        have h := gcF c51 h
                        refine hX_goM 2 (67) [some (.ref 0), some (.int x0), some (.int x1), some (.int x2), some (.int x3), some (.int x4), some (.ref 57), some (.ref 57)] [.int 2, .ref 0] rfl ?_
                        refine hX_call (r' := zR_111) rfl (ct_111_0 2 rfl) ?_
                        refine hX_go 0 (70) [some (.ref 0), some (.int x0), some (.int x1), some (.int x2), some (.int x3), some (.int x4), some (.ref 57), some (.ref 57)] [.int (v_111_0 2)] (hCm b d k s w ik ex pr wd sn qu tb ts (r0, rq) h0 h1 h2 h3 (f_111_0_fi 2 fi) R) rfl ?_
                        have h := Option.some.inj h; subst h
                        exact hX_end rfl rfl rfl
                    · skip
                      have h := gcF c50 h
                      refine hX_goM 2 (48) [some (.ref 0), some (.int x0), some (.int x1), some (.int x2), some (.int x3), some (.int x4), some (.ref 57), some (.ref 57)] [.int 5, .ref 0] rfl ?_
                      refine hX_call (r' := zR_111) rfl (ct_111_0 5 rfl) ?_
                      refine hX_go 0 (51) [some (.ref 0), some (.int x0), some (.int x1), some (.int x2), some (.int x3), some (.int x4), some (.ref 57), some (.ref 57)] [.int (v_111_0 5)] (hCm b d k s w ik ex pr wd sn qu tb ts (r0, rq) h0 h1 h2 h3 (f_111_0_fi 5 fi) R) rfl ?_
                      have h := Option.some.inj h; subst h
                      exact hX_end rfl rfl rfl
                · skip
                  have h := gcF c48 h
                  refine hX_bif (hEq x2 2) (fun c55 => ?_) (fun c55 => ?_)
                  · skip
                    have h := gcT c55 h
                    refine hX_call (r' := zR_114) rfl (ct_114_0_4 x2 c39 c40 c41 c48 c55) ?_
                    refine hX_goM 6 (32) [some (.ref 0), some (.int x0), some (.int x1), some (.int x2), some (.int x3), some (.int x4), some (.ref 57), some (.ref 59)] [.ref 57] rfl ?_
                    refine hX_call (r' := zR_53) rfl (ct_53_57) ?_
                    refine hX_goM 1 (bif gCmp .ne (v_53_57 h1) 0 then 46 else 38) [some (.ref 0), some (.int x0), some (.int x1), some (.int x2), some (.int x3), some (.int x4), some (.ref 57), some (.ref 59)] [] rfl ?_
                    refine hX_if (gCmp .ne (v_53_57 h1) 0) (fun c56 => ?_) (fun c56 => ?_)
                    · skip
                      have h := gcT c56 h
                      refine hX_goM 2 (48) [some (.ref 0), some (.int x0), some (.int x1), some (.int x2), some (.int x3), some (.int x4), some (.ref 57), some (.ref 59)] [.int 5, .ref 0] rfl ?_
                      refine hX_call (r' := zR_111) rfl (ct_111_0 5 rfl) ?_
                      refine hX_go 0 (51) [some (.ref 0), some (.int x0), some (.int x1), some (.int x2), some (.int x3), some (.int x4), some (.ref 57), some (.ref 59)] [.int (v_111_0 5)] (hCm b d k s w ik ex pr wd sn qu tb ts (r0, rq) h0 h1 h2 h3 (f_111_0_fi 5 fi) R) rfl ?_
                      have h := Option.some.inj h; subst h
                      exact hX_end rfl rfl rfl
                    · skip
                      have h := gcF c56 h
                      refine hX_goM 1 (40) [some (.ref 0), some (.int x0), some (.int x1), some (.int x2), some (.int x3), some (.int x4), some (.ref 57), some (.ref 59)] [.ref 59] rfl ?_
                      refine hX_call (r' := zR_53) rfl (ct_53_59) ?_
                      refine hX_goM 1 (bif gCmp .eq (v_53_59 h2) 0 then 52 else 46) [some (.ref 0), some (.int x0), some (.int x1), some (.int x2), some (.int x3), some (.int x4), some (.ref 57), some (.ref 59)] [] rfl ?_
                      refine hX_if (gCmp .eq (v_53_59 h2) 0) (fun c57 => ?_) (fun c57 => ?_)
                      · skip
                        have h := gcT c57 h
                        refine hX_goM 5 (bif gCmp .eq h1.2.1 h2.2.1 then 71 else 65) [some (.ref 0), some (.int x0), some (.int x1), some (.int x2), some (.int x3), some (.int x4), some (.ref 57), some (.ref 59)] [] rfl ?_
                        refine hX_if (gCmp .eq h1.2.1 h2.2.1) (fun c58 => ?_) (fun c58 => ?_)
                        · skip
                          have h := gcT c58 h
                          refine hX_goM 3 (76) [some (.ref 0), some (.int x0), some (.int x1), some (.int x2), some (.int x3), some (.int x4), some (.ref 57), some (.ref 59)] [.int x4, .int x1, .ref 57] rfl ?_
                          refine hX_call (r' := zR_56) rfl (ct_56_57 x1 x4) ?_
                          refine hX_goM 1 (bif gCmp .eq (v_56_57 x1 x4 h1) 0 then 94 else 82) [some (.ref 0), some (.int x0), some (.int x1), some (.int x2), some (.int x3), some (.int x4), some (.ref 57), some (.ref 59)] [] rfl ?_
                          refine hX_if (gCmp .eq (v_56_57 x1 x4 h1) 0) (fun c59 => ?_) (fun c59 => ?_)
                          · skip
                            have h := gcT c59 h
                            refine hX_goM 2 (96) [some (.ref 0), some (.int x0), some (.int x1), some (.int x2), some (.int x3), some (.int x4), some (.ref 57), some (.ref 59)] [.int 0, .ref 0] rfl ?_
                            refine hX_call (r' := zR_111) rfl (ct_111_0 0 rfl) ?_
                            refine hX_go 0 (99) [some (.ref 0), some (.int x0), some (.int x1), some (.int x2), some (.int x3), some (.int x4), some (.ref 57), some (.ref 59)] [.int (v_111_0 0)] (hCm b d k s w ik ex pr wd sn qu tb ts (r0, rq) h0 h1 h2 h3 (f_111_0_fi 0 fi) R) rfl ?_
                            have h := Option.some.inj h; subst h
                            exact hX_end rfl rfl rfl
                          · skip
                            have h := gcF c59 h
                            refine hX_goM 3 (88) [some (.ref 0), some (.int x0), some (.int x1), some (.int x2), some (.int x3), some (.int x4), some (.ref 57), some (.ref 59)] [.int x4, .int x3, .ref 59] rfl ?_
                            refine hX_call (r' := zR_56) rfl (ct_56_59 x3 x4) ?_
                            refine hX_goM 1 (bif gCmp .ne (v_56_59 x3 x4 h2) 0 then 100 else 94) [some (.ref 0), some (.int x0), some (.int x1), some (.int x2), some (.int x3), some (.int x4), some (.ref 57), some (.ref 59)] [] rfl ?_
                            refine hX_if (gCmp .ne (v_56_59 x3 x4 h2) 0) (fun c60 => ?_) (fun c60 => ?_)
                            · skip
                              have h := gcT c60 h
                              refine hX_goM 7 (115) [some (.ref 0), some (.int x0), some (.int x1), some (.int x2), some (.int x3), some (.int x4), some (.ref 57), some (.ref 59)] [.int x4, .int x3, .ref 60, .int x1, .ref 58] rfl ?_
                              revert h; refine gCondR fun g61 h => ?_
                              refine hX_g (!decide (x1 < 0) && !decide (x3 < 0) && !decide (x4 < 0) && Nat.ble (Int32.toNatClampNeg x1 + Int32.toNatClampNeg x4) 40 && Nat.ble (Int32.toNatClampNeg x3 + Int32.toNatClampNeg x4) 40) 118 [some (.ref 0), some (.int x0), some (.int x1), some (.int x2), some (.int x3), some (.int x4), some (.ref 57), some (.ref 59)] [] (hCm b d k s w ik ex pr wd sn qu tb ts (r0, rq) h0 h1 (va_cpy h1.1 h2.1 (Int32.toNatClampNeg x1) (Int32.toNatClampNeg x3) (Int32.toNatClampNeg x4), h2.2) h3 fi R) rfl g61 ?_
                              refine hX_goM 1 (120) [some (.ref 0), some (.int x0), some (.int x1), some (.int x2), some (.int x3), some (.int x4), some (.ref 57), some (.ref 59)] [.int x4] rfl ?_
                              have h := Option.some.inj h; subst h
                              exact hX_end rfl rfl rfl
                            · skip
                              have h := gcF c60 h
                              refine hX_goM 2 (96) [some (.ref 0), some (.int x0), some (.int x1), some (.int x2), some (.int x3), some (.int x4), some (.ref 57), some (.ref 59)] [.int 0, .ref 0] rfl ?_
                              refine hX_call (r' := zR_111) rfl (ct_111_0 0 rfl) ?_
                              refine hX_go 0 (99) [some (.ref 0), some (.int x0), some (.int x1), some (.int x2), some (.int x3), some (.int x4), some (.ref 57), some (.ref 59)] [.int (v_111_0 0)] (hCm b d k s w ik ex pr wd sn qu tb ts (r0, rq) h0 h1 h2 h3 (f_111_0_fi 0 fi) R) rfl ?_
                              have h := Option.some.inj h; subst h
                              exact hX_end rfl rfl rfl
                        · skip
                          have h := gcF c58 h
                          refine hX_goM 2 (67) [some (.ref 0), some (.int x0), some (.int x1), some (.int x2), some (.int x3), some (.int x4), some (.ref 57), some (.ref 59)] [.int 2, .ref 0] rfl ?_
                          refine hX_call (r' := zR_111) rfl (ct_111_0 2 rfl) ?_
                          refine hX_go 0 (70) [some (.ref 0), some (.int x0), some (.int x1), some (.int x2), some (.int x3), some (.int x4), some (.ref 57), some (.ref 59)] [.int (v_111_0 2)] (hCm b d k s w ik ex pr wd sn qu tb ts (r0, rq) h0 h1 h2 h3 (f_111_0_fi 2 fi) R) rfl ?_
                          have h := Option.some.inj h; subst h
                          exact hX_end rfl rfl rfl
                      · skip
                        have h := gcF c57 h
                        refine hX_goM 2 (48) [some (.ref 0), some (.int x0), some (.int x1), some (.int x2), some (.int x3), some (.int x4), some (.ref 57), some (.ref 59)] [.int 5, .ref 0] rfl ?_
                        refine hX_call (r' := zR_111) rfl (ct_111_0 5 rfl) ?_
                        refine hX_go 0 (51) [some (.ref 0), some (.int x0), some (.int x1), some (.int x2), some (.int x3), some (.int x4), some (.ref 57), some (.ref 59)] [.int (v_111_0 5)] (hCm b d k s w ik ex pr wd sn qu tb ts (r0, rq) h0 h1 h2 h3 (f_111_0_fi 5 fi) R) rfl ?_
                        have h := Option.some.inj h; subst h
                        exact hX_end rfl rfl rfl
                  · skip
                    have h := gcF c55 h
                    refine hX_call (r' := zR_114) rfl (ct_114_0_5 x2 c39 c40 c41 c48 c55) ?_
                    refine hX_goM 6 (32) [some (.ref 0), some (.int x0), some (.int x1), some (.int x2), some (.int x3), some (.int x4), some (.ref 57), some (.ref 61)] [.ref 57] rfl ?_
                    refine hX_call (r' := zR_53) rfl (ct_53_57) ?_
                    refine hX_goM 1 (bif gCmp .ne (v_53_57 h1) 0 then 46 else 38) [some (.ref 0), some (.int x0), some (.int x1), some (.int x2), some (.int x3), some (.int x4), some (.ref 57), some (.ref 61)] [] rfl ?_
                    refine hX_if (gCmp .ne (v_53_57 h1) 0) (fun c62 => ?_) (fun c62 => ?_)
                    · skip
                      have h := gcT c62 h
                      refine hX_goM 2 (48) [some (.ref 0), some (.int x0), some (.int x1), some (.int x2), some (.int x3), some (.int x4), some (.ref 57), some (.ref 61)] [.int 5, .ref 0] rfl ?_
                      refine hX_call (r' := zR_111) rfl (ct_111_0 5 rfl) ?_
                      refine hX_go 0 (51) [some (.ref 0), some (.int x0), some (.int x1), some (.int x2), some (.int x3), some (.int x4), some (.ref 57), some (.ref 61)] [.int (v_111_0 5)] (hCm b d k s w ik ex pr wd sn qu tb ts (r0, rq) h0 h1 h2 h3 (f_111_0_fi 5 fi) R) rfl ?_
                      have h := Option.some.inj h; subst h
                      exact hX_end rfl rfl rfl
                    · skip
                      have h := gcF c62 h
                      refine hX_goM 1 (40) [some (.ref 0), some (.int x0), some (.int x1), some (.int x2), some (.int x3), some (.int x4), some (.ref 57), some (.ref 61)] [.ref 61] rfl ?_
                      refine hX_call (r' := zR_53) rfl (ct_53_61) ?_
                      refine hX_goM 1 (bif gCmp .eq (v_53_61 h3) 0 then 52 else 46) [some (.ref 0), some (.int x0), some (.int x1), some (.int x2), some (.int x3), some (.int x4), some (.ref 57), some (.ref 61)] [] rfl ?_
                      refine hX_if (gCmp .eq (v_53_61 h3) 0) (fun c63 => ?_) (fun c63 => ?_)
                      · skip
                        have h := gcT c63 h
                        refine hX_goM 5 (bif gCmp .eq h1.2.1 h3.2.1 then 71 else 65) [some (.ref 0), some (.int x0), some (.int x1), some (.int x2), some (.int x3), some (.int x4), some (.ref 57), some (.ref 61)] [] rfl ?_
                        refine hX_if (gCmp .eq h1.2.1 h3.2.1) (fun c64 => ?_) (fun c64 => ?_)
                        · skip
                          have h := gcT c64 h
                          refine hX_goM 3 (76) [some (.ref 0), some (.int x0), some (.int x1), some (.int x2), some (.int x3), some (.int x4), some (.ref 57), some (.ref 61)] [.int x4, .int x1, .ref 57] rfl ?_
                          refine hX_call (r' := zR_56) rfl (ct_56_57 x1 x4) ?_
                          refine hX_goM 1 (bif gCmp .eq (v_56_57 x1 x4 h1) 0 then 94 else 82) [some (.ref 0), some (.int x0), some (.int x1), some (.int x2), some (.int x3), some (.int x4), some (.ref 57), some (.ref 61)] [] rfl ?_
                          refine hX_if (gCmp .eq (v_56_57 x1 x4 h1) 0) (fun c65 => ?_) (fun c65 => ?_)
                          · skip
                            have h := gcT c65 h
                            refine hX_goM 2 (96) [some (.ref 0), some (.int x0), some (.int x1), some (.int x2), some (.int x3), some (.int x4), some (.ref 57), some (.ref 61)] [.int 0, .ref 0] rfl ?_
                            refine hX_call (r' := zR_111) rfl (ct_111_0 0 rfl) ?_
                            refine hX_go 0 (99) [some (.ref 0), some (.int x0), some (.int x1), some (.int x2), some (.int x3), some (.int x4), some (.ref 57), some (.ref 61)] [.int (v_111_0 0)] (hCm b d k s w ik ex pr wd sn qu tb ts (r0, rq) h0 h1 h2 h3 (f_111_0_fi 0 fi) R) rfl ?_
                            have h := Option.some.inj h; subst h
                            exact hX_end rfl rfl rfl
                          · skip
                            have h := gcF c65 h
                            refine hX_goM 3 (88) [some (.ref 0), some (.int x0), some (.int x1), some (.int x2), some (.int x3), some (.int x4), some (.ref 57), some (.ref 61)] [.int x4, .int x3, .ref 61] rfl ?_
                            refine hX_call (r' := zR_56) rfl (ct_56_61 x3 x4) ?_
                            refine hX_goM 1 (bif gCmp .ne (v_56_61 x3 x4 h3) 0 then 100 else 94) [some (.ref 0), some (.int x0), some (.int x1), some (.int x2), some (.int x3), some (.int x4), some (.ref 57), some (.ref 61)] [] rfl ?_
                            refine hX_if (gCmp .ne (v_56_61 x3 x4 h3) 0) (fun c66 => ?_) (fun c66 => ?_)
                            · skip
                              have h := gcT c66 h
                              refine hX_goM 7 (115) [some (.ref 0), some (.int x0), some (.int x1), some (.int x2), some (.int x3), some (.int x4), some (.ref 57), some (.ref 61)] [.int x4, .int x3, .ref 62, .int x1, .ref 58] rfl ?_
                              revert h; refine gCondR fun g67 h => ?_
                              refine hX_g (!decide (x1 < 0) && !decide (x3 < 0) && !decide (x4 < 0) && Nat.ble (Int32.toNatClampNeg x1 + Int32.toNatClampNeg x4) 40 && Nat.ble (Int32.toNatClampNeg x3 + Int32.toNatClampNeg x4) 40) 118 [some (.ref 0), some (.int x0), some (.int x1), some (.int x2), some (.int x3), some (.int x4), some (.ref 57), some (.ref 61)] [] (hCm b d k s w ik ex pr wd sn qu tb ts (r0, rq) h0 h1 h2 (va_cpy h1.1 h3.1 (Int32.toNatClampNeg x1) (Int32.toNatClampNeg x3) (Int32.toNatClampNeg x4), h3.2) fi R) rfl g67 ?_
                              refine hX_goM 1 (120) [some (.ref 0), some (.int x0), some (.int x1), some (.int x2), some (.int x3), some (.int x4), some (.ref 57), some (.ref 61)] [.int x4] rfl ?_
                              have h := Option.some.inj h; subst h
                              exact hX_end rfl rfl rfl
                            · skip
                              have h := gcF c66 h
                              refine hX_goM 2 (96) [some (.ref 0), some (.int x0), some (.int x1), some (.int x2), some (.int x3), some (.int x4), some (.ref 57), some (.ref 61)] [.int 0, .ref 0] rfl ?_
                              refine hX_call (r' := zR_111) rfl (ct_111_0 0 rfl) ?_
                              refine hX_go 0 (99) [some (.ref 0), some (.int x0), some (.int x1), some (.int x2), some (.int x3), some (.int x4), some (.ref 57), some (.ref 61)] [.int (v_111_0 0)] (hCm b d k s w ik ex pr wd sn qu tb ts (r0, rq) h0 h1 h2 h3 (f_111_0_fi 0 fi) R) rfl ?_
                              have h := Option.some.inj h; subst h
                              exact hX_end rfl rfl rfl
                        · skip
                          have h := gcF c64 h
                          refine hX_goM 2 (67) [some (.ref 0), some (.int x0), some (.int x1), some (.int x2), some (.int x3), some (.int x4), some (.ref 57), some (.ref 61)] [.int 2, .ref 0] rfl ?_
                          refine hX_call (r' := zR_111) rfl (ct_111_0 2 rfl) ?_
                          refine hX_go 0 (70) [some (.ref 0), some (.int x0), some (.int x1), some (.int x2), some (.int x3), some (.int x4), some (.ref 57), some (.ref 61)] [.int (v_111_0 2)] (hCm b d k s w ik ex pr wd sn qu tb ts (r0, rq) h0 h1 h2 h3 (f_111_0_fi 2 fi) R) rfl ?_
                          have h := Option.some.inj h; subst h
                          exact hX_end rfl rfl rfl
                      · skip
                        have h := gcF c63 h
                        refine hX_goM 2 (48) [some (.ref 0), some (.int x0), some (.int x1), some (.int x2), some (.int x3), some (.int x4), some (.ref 57), some (.ref 61)] [.int 5, .ref 0] rfl ?_
                        refine hX_call (r' := zR_111) rfl (ct_111_0 5 rfl) ?_
                        refine hX_go 0 (51) [some (.ref 0), some (.int x0), some (.int x1), some (.int x2), some (.int x3), some (.int x4), some (.ref 57), some (.ref 61)] [.int (v_111_0 5)] (hCm b d k s w ik ex pr wd sn qu tb ts (r0, rq) h0 h1 h2 h3 (f_111_0_fi 5 fi) R) rfl ?_
                        have h := Option.some.inj h; subst h
                        exact hX_end rfl rfl rfl
            · skip
              have h := gcF c40 h
              refine hX_call (r' := zR_114) rfl (ct_114_0_1 x2 c39 c40) ?_
              refine hX_goM 7 (26) [some (.ref 0), some (.int x0), some (.int x1), some (.int x2), some (.int x3), some (.int x4), some (.ref 57), some (.null)] [.int 0, .ref 0] rfl ?_
              refine hX_call (r' := zR_111) rfl (ct_111_0 0 rfl) ?_
              refine hX_go 0 (29) [some (.ref 0), some (.int x0), some (.int x1), some (.int x2), some (.int x3), some (.int x4), some (.ref 57), some (.null)] [.int (v_111_0 0)] (hCm b d k s w ik ex pr wd sn qu tb ts (r0, rq) h0 h1 h2 h3 (f_111_0_fi 0 fi) R) rfl ?_
              have h := Option.some.inj h; subst h
              exact hX_end rfl rfl rfl
        · skip
          have h := gcF c38 h
          refine hX_bif (hEq x0 2) (fun c68 => ?_) (fun c68 => ?_)
          · skip
            have h := gcT c68 h
            refine hX_call (r' := zR_114) rfl (ct_114_0_4 x0 c1 c7 c8 c38 c68) ?_
            refine hX_goM 3 (9) [some (.ref 0), some (.int x0), some (.int x1), some (.int x2), some (.int x3), some (.int x4), some (.ref 59), none] [.int x2, .ref 0] rfl ?_
            refine hX_bif (gCmp .lt x2 0) (fun c69 => ?_) (fun c69 => ?_)
            · skip
              have h := gcT c69 h
              refine hX_call (r' := zR_114) rfl (ct_114_0_0 x2 c69) ?_
              refine hX_goM 7 (26) [some (.ref 0), some (.int x0), some (.int x1), some (.int x2), some (.int x3), some (.int x4), some (.ref 59), some (.null)] [.int 0, .ref 0] rfl ?_
              refine hX_call (r' := zR_111) rfl (ct_111_0 0 rfl) ?_
              refine hX_go 0 (29) [some (.ref 0), some (.int x0), some (.int x1), some (.int x2), some (.int x3), some (.int x4), some (.ref 59), some (.null)] [.int (v_111_0 0)] (hCm b d k s w ik ex pr wd sn qu tb ts (r0, rq) h0 h1 h2 h3 (f_111_0_fi 0 fi) R) rfl ?_
              have h := Option.some.inj h; subst h
              exact hX_end rfl rfl rfl
            · skip
              have h := gcF c69 h
              refine hX_bif (gCmp .lt x2 4) (fun c70 => ?_) (fun c70 => ?_)
              · skip
                have h := gcT c70 h
                refine hX_bif (hEq x2 0) (fun c71 => ?_) (fun c71 => ?_)
                · skip
                  have h := gcT c71 h
                  refine hX_call (r' := zR_114) rfl (ct_114_0_2 x2 c69 c70 c71) ?_
                  refine hX_goM 6 (32) [some (.ref 0), some (.int x0), some (.int x1), some (.int x2), some (.int x3), some (.int x4), some (.ref 59), some (.ref 55)] [.ref 59] rfl ?_
                  refine hX_call (r' := zR_53) rfl (ct_53_59) ?_
                  refine hX_goM 1 (bif gCmp .ne (v_53_59 h2) 0 then 46 else 38) [some (.ref 0), some (.int x0), some (.int x1), some (.int x2), some (.int x3), some (.int x4), some (.ref 59), some (.ref 55)] [] rfl ?_
                  refine hX_if (gCmp .ne (v_53_59 h2) 0) (fun c72 => ?_) (fun c72 => ?_)
                  · skip
                    have h := gcT c72 h
                    refine hX_goM 2 (48) [some (.ref 0), some (.int x0), some (.int x1), some (.int x2), some (.int x3), some (.int x4), some (.ref 59), some (.ref 55)] [.int 5, .ref 0] rfl ?_
                    refine hX_call (r' := zR_111) rfl (ct_111_0 5 rfl) ?_
                    refine hX_go 0 (51) [some (.ref 0), some (.int x0), some (.int x1), some (.int x2), some (.int x3), some (.int x4), some (.ref 59), some (.ref 55)] [.int (v_111_0 5)] (hCm b d k s w ik ex pr wd sn qu tb ts (r0, rq) h0 h1 h2 h3 (f_111_0_fi 5 fi) R) rfl ?_
                    have h := Option.some.inj h; subst h
                    exact hX_end rfl rfl rfl
                  · skip
                    have h := gcF c72 h
                    refine hX_goM 1 (40) [some (.ref 0), some (.int x0), some (.int x1), some (.int x2), some (.int x3), some (.int x4), some (.ref 59), some (.ref 55)] [.ref 55] rfl ?_
                    refine hX_call (r' := zR_53) rfl (ct_53_55) ?_
                    refine hX_goM 1 (bif gCmp .eq (v_53_55 h0) 0 then 52 else 46) [some (.ref 0), some (.int x0), some (.int x1), some (.int x2), some (.int x3), some (.int x4), some (.ref 59), some (.ref 55)] [] rfl ?_
                    refine hX_if (gCmp .eq (v_53_55 h0) 0) (fun c73 => ?_) (fun c73 => ?_)
                    · skip
                      have h := gcT c73 h
                      refine hX_goM 5 (bif gCmp .eq h2.2.1 h0.2.1 then 71 else 65) [some (.ref 0), some (.int x0), some (.int x1), some (.int x2), some (.int x3), some (.int x4), some (.ref 59), some (.ref 55)] [] rfl ?_
                      refine hX_if (gCmp .eq h2.2.1 h0.2.1) (fun c74 => ?_) (fun c74 => ?_)
                      · skip
                        have h := gcT c74 h
                        refine hX_goM 3 (76) [some (.ref 0), some (.int x0), some (.int x1), some (.int x2), some (.int x3), some (.int x4), some (.ref 59), some (.ref 55)] [.int x4, .int x1, .ref 59] rfl ?_
                        refine hX_call (r' := zR_56) rfl (ct_56_59 x1 x4) ?_
                        refine hX_goM 1 (bif gCmp .eq (v_56_59 x1 x4 h2) 0 then 94 else 82) [some (.ref 0), some (.int x0), some (.int x1), some (.int x2), some (.int x3), some (.int x4), some (.ref 59), some (.ref 55)] [] rfl ?_
                        refine hX_if (gCmp .eq (v_56_59 x1 x4 h2) 0) (fun c75 => ?_) (fun c75 => ?_)
                        · skip
                          have h := gcT c75 h
                          refine hX_goM 2 (96) [some (.ref 0), some (.int x0), some (.int x1), some (.int x2), some (.int x3), some (.int x4), some (.ref 59), some (.ref 55)] [.int 0, .ref 0] rfl ?_
                          refine hX_call (r' := zR_111) rfl (ct_111_0 0 rfl) ?_
                          refine hX_go 0 (99) [some (.ref 0), some (.int x0), some (.int x1), some (.int x2), some (.int x3), some (.int x4), some (.ref 59), some (.ref 55)] [.int (v_111_0 0)] (hCm b d k s w ik ex pr wd sn qu tb ts (r0, rq) h0 h1 h2 h3 (f_111_0_fi 0 fi) R) rfl ?_
                          have h := Option.some.inj h; subst h
                          exact hX_end rfl rfl rfl
                        · skip
                          have h := gcF c75 h
                          refine hX_goM 3 (88) [some (.ref 0), some (.int x0), some (.int x1), some (.int x2), some (.int x3), some (.int x4), some (.ref 59), some (.ref 55)] [.int x4, .int x3, .ref 55] rfl ?_
                          refine hX_call (r' := zR_56) rfl (ct_56_55 x3 x4) ?_
                          refine hX_goM 1 (bif gCmp .ne (v_56_55 x3 x4 h0) 0 then 100 else 94) [some (.ref 0), some (.int x0), some (.int x1), some (.int x2), some (.int x3), some (.int x4), some (.ref 59), some (.ref 55)] [] rfl ?_
                          refine hX_if (gCmp .ne (v_56_55 x3 x4 h0) 0) (fun c76 => ?_) (fun c76 => ?_)
                          · skip
                            have h := gcT c76 h
                            refine hX_goM 7 (115) [some (.ref 0), some (.int x0), some (.int x1), some (.int x2), some (.int x3), some (.int x4), some (.ref 59), some (.ref 55)] [.int x4, .int x3, .ref 56, .int x1, .ref 60] rfl ?_
                            revert h; refine gCondR fun g77 h => ?_
                            refine hX_g (!decide (x1 < 0) && !decide (x3 < 0) && !decide (x4 < 0) && Nat.ble (Int32.toNatClampNeg x1 + Int32.toNatClampNeg x4) 40 && Nat.ble (Int32.toNatClampNeg x3 + Int32.toNatClampNeg x4) 40) 118 [some (.ref 0), some (.int x0), some (.int x1), some (.int x2), some (.int x3), some (.int x4), some (.ref 59), some (.ref 55)] [] (hCm b d k s w ik ex pr wd sn qu tb ts (r0, rq) (va_cpy h2.1 h0.1 (Int32.toNatClampNeg x1) (Int32.toNatClampNeg x3) (Int32.toNatClampNeg x4), h0.2) h1 h2 h3 fi R) rfl g77 ?_
                            refine hX_goM 1 (120) [some (.ref 0), some (.int x0), some (.int x1), some (.int x2), some (.int x3), some (.int x4), some (.ref 59), some (.ref 55)] [.int x4] rfl ?_
                            have h := Option.some.inj h; subst h
                            exact hX_end rfl rfl rfl
                          · skip
                            have h := gcF c76 h
                            refine hX_goM 2 (96) [some (.ref 0), some (.int x0), some (.int x1), some (.int x2), some (.int x3), some (.int x4), some (.ref 59), some (.ref 55)] [.int 0, .ref 0] rfl ?_
                            refine hX_call (r' := zR_111) rfl (ct_111_0 0 rfl) ?_
                            refine hX_go 0 (99) [some (.ref 0), some (.int x0), some (.int x1), some (.int x2), some (.int x3), some (.int x4), some (.ref 59), some (.ref 55)] [.int (v_111_0 0)] (hCm b d k s w ik ex pr wd sn qu tb ts (r0, rq) h0 h1 h2 h3 (f_111_0_fi 0 fi) R) rfl ?_
                            have h := Option.some.inj h; subst h
                            exact hX_end rfl rfl rfl
                      · skip
                        have h := gcF c74 h
                        refine hX_goM 2 (67) [some (.ref 0), some (.int x0), some (.int x1), some (.int x2), some (.int x3), some (.int x4), some (.ref 59), some (.ref 55)] [.int 2, .ref 0] rfl ?_
                        refine hX_call (r' := zR_111) rfl (ct_111_0 2 rfl) ?_
                        refine hX_go 0 (70) [some (.ref 0), some (.int x0), some (.int x1), some (.int x2), some (.int x3), some (.int x4), some (.ref 59), some (.ref 55)] [.int (v_111_0 2)] (hCm b d k s w ik ex pr wd sn qu tb ts (r0, rq) h0 h1 h2 h3 (f_111_0_fi 2 fi) R) rfl ?_
                        have h := Option.some.inj h; subst h
                        exact hX_end rfl rfl rfl
                    · skip
                      have h := gcF c73 h
                      refine hX_goM 2 (48) [some (.ref 0), some (.int x0), some (.int x1), some (.int x2), some (.int x3), some (.int x4), some (.ref 59), some (.ref 55)] [.int 5, .ref 0] rfl ?_
                      refine hX_call (r' := zR_111) rfl (ct_111_0 5 rfl) ?_
                      refine hX_go 0 (51) [some (.ref 0), some (.int x0), some (.int x1), some (.int x2), some (.int x3), some (.int x4), some (.ref 59), some (.ref 55)] [.int (v_111_0 5)] (hCm b d k s w ik ex pr wd sn qu tb ts (r0, rq) h0 h1 h2 h3 (f_111_0_fi 5 fi) R) rfl ?_
                      have h := Option.some.inj h; subst h
                      exact hX_end rfl rfl rfl
                · skip
                  have h := gcF c71 h
                  refine hX_bif (hEq x2 1) (fun c78 => ?_) (fun c78 => ?_)
                  · skip
                    have h := gcT c78 h
                    refine hX_call (r' := zR_114) rfl (ct_114_0_3 x2 c69 c70 c71 c78) ?_
                    refine hX_goM 6 (32) [some (.ref 0), some (.int x0), some (.int x1), some (.int x2), some (.int x3), some (.int x4), some (.ref 59), some (.ref 57)] [.ref 59] rfl ?_
                    refine hX_call (r' := zR_53) rfl (ct_53_59) ?_
                    refine hX_goM 1 (bif gCmp .ne (v_53_59 h2) 0 then 46 else 38) [some (.ref 0), some (.int x0), some (.int x1), some (.int x2), some (.int x3), some (.int x4), some (.ref 59), some (.ref 57)] [] rfl ?_
                    refine hX_if (gCmp .ne (v_53_59 h2) 0) (fun c79 => ?_) (fun c79 => ?_)
                    · skip
                      have h := gcT c79 h
                      refine hX_goM 2 (48) [some (.ref 0), some (.int x0), some (.int x1), some (.int x2), some (.int x3), some (.int x4), some (.ref 59), some (.ref 57)] [.int 5, .ref 0] rfl ?_
                      refine hX_call (r' := zR_111) rfl (ct_111_0 5 rfl) ?_
                      refine hX_go 0 (51) [some (.ref 0), some (.int x0), some (.int x1), some (.int x2), some (.int x3), some (.int x4), some (.ref 59), some (.ref 57)] [.int (v_111_0 5)] (hCm b d k s w ik ex pr wd sn qu tb ts (r0, rq) h0 h1 h2 h3 (f_111_0_fi 5 fi) R) rfl ?_
                      have h := Option.some.inj h; subst h
                      exact hX_end rfl rfl rfl
                    · skip
                      have h := gcF c79 h
                      refine hX_goM 1 (40) [some (.ref 0), some (.int x0), some (.int x1), some (.int x2), some (.int x3), some (.int x4), some (.ref 59), some (.ref 57)] [.ref 57] rfl ?_
                      refine hX_call (r' := zR_53) rfl (ct_53_57) ?_
                      refine hX_goM 1 (bif gCmp .eq (v_53_57 h1) 0 then 52 else 46) [some (.ref 0), some (.int x0), some (.int x1), some (.int x2), some (.int x3), some (.int x4), some (.ref 59), some (.ref 57)] [] rfl ?_
                      refine hX_if (gCmp .eq (v_53_57 h1) 0) (fun c80 => ?_) (fun c80 => ?_)
                      · skip
                        have h := gcT c80 h
                        refine hX_goM 5 (bif gCmp .eq h2.2.1 h1.2.1 then 71 else 65) [some (.ref 0), some (.int x0), some (.int x1), some (.int x2), some (.int x3), some (.int x4), some (.ref 59), some (.ref 57)] [] rfl ?_
                        refine hX_if (gCmp .eq h2.2.1 h1.2.1) (fun c81 => ?_) (fun c81 => ?_)
                        · skip
                          have h := gcT c81 h
                          refine hX_goM 3 (76) [some (.ref 0), some (.int x0), some (.int x1), some (.int x2), some (.int x3), some (.int x4), some (.ref 59), some (.ref 57)] [.int x4, .int x1, .ref 59] rfl ?_
                          refine hX_call (r' := zR_56) rfl (ct_56_59 x1 x4) ?_
                          refine hX_goM 1 (bif gCmp .eq (v_56_59 x1 x4 h2) 0 then 94 else 82) [some (.ref 0), some (.int x0), some (.int x1), some (.int x2), some (.int x3), some (.int x4), some (.ref 59), some (.ref 57)] [] rfl ?_
                          refine hX_if (gCmp .eq (v_56_59 x1 x4 h2) 0) (fun c82 => ?_) (fun c82 => ?_)
                          · skip
                            have h := gcT c82 h
                            refine hX_goM 2 (96) [some (.ref 0), some (.int x0), some (.int x1), some (.int x2), some (.int x3), some (.int x4), some (.ref 59), some (.ref 57)] [.int 0, .ref 0] rfl ?_
                            refine hX_call (r' := zR_111) rfl (ct_111_0 0 rfl) ?_
                            refine hX_go 0 (99) [some (.ref 0), some (.int x0), some (.int x1), some (.int x2), some (.int x3), some (.int x4), some (.ref 59), some (.ref 57)] [.int (v_111_0 0)] (hCm b d k s w ik ex pr wd sn qu tb ts (r0, rq) h0 h1 h2 h3 (f_111_0_fi 0 fi) R) rfl ?_
                            have h := Option.some.inj h; subst h
                            exact hX_end rfl rfl rfl
                          · skip
                            have h := gcF c82 h
                            refine hX_goM 3 (88) [some (.ref 0), some (.int x0), some (.int x1), some (.int x2), some (.int x3), some (.int x4), some (.ref 59), some (.ref 57)] [.int x4, .int x3, .ref 57] rfl ?_
                            refine hX_call (r' := zR_56) rfl (ct_56_57 x3 x4) ?_
                            refine hX_goM 1 (bif gCmp .ne (v_56_57 x3 x4 h1) 0 then 100 else 94) [some (.ref 0), some (.int x0), some (.int x1), some (.int x2), some (.int x3), some (.int x4), some (.ref 59), some (.ref 57)] [] rfl ?_
                            refine hX_if (gCmp .ne (v_56_57 x3 x4 h1) 0) (fun c83 => ?_) (fun c83 => ?_)
                            · skip
                              have h := gcT c83 h
                              refine hX_goM 7 (115) [some (.ref 0), some (.int x0), some (.int x1), some (.int x2), some (.int x3), some (.int x4), some (.ref 59), some (.ref 57)] [.int x4, .int x3, .ref 58, .int x1, .ref 60] rfl ?_
                              revert h; refine gCondR fun g84 h => ?_
                              refine hX_g (!decide (x1 < 0) && !decide (x3 < 0) && !decide (x4 < 0) && Nat.ble (Int32.toNatClampNeg x1 + Int32.toNatClampNeg x4) 40 && Nat.ble (Int32.toNatClampNeg x3 + Int32.toNatClampNeg x4) 40) 118 [some (.ref 0), some (.int x0), some (.int x1), some (.int x2), some (.int x3), some (.int x4), some (.ref 59), some (.ref 57)] [] (hCm b d k s w ik ex pr wd sn qu tb ts (r0, rq) h0 (va_cpy h2.1 h1.1 (Int32.toNatClampNeg x1) (Int32.toNatClampNeg x3) (Int32.toNatClampNeg x4), h1.2) h2 h3 fi R) rfl g84 ?_
                              refine hX_goM 1 (120) [some (.ref 0), some (.int x0), some (.int x1), some (.int x2), some (.int x3), some (.int x4), some (.ref 59), some (.ref 57)] [.int x4] rfl ?_
                              have h := Option.some.inj h; subst h
                              exact hX_end rfl rfl rfl
                            · skip
                              have h := gcF c83 h
                              refine hX_goM 2 (96) [some (.ref 0), some (.int x0), some (.int x1), some (.int x2), some (.int x3), some (.int x4), some (.ref 59), some (.ref 57)] [.int 0, .ref 0] rfl ?_
                              refine hX_call (r' := zR_111) rfl (ct_111_0 0 rfl) ?_
                              refine hX_go 0 (99) [some (.ref 0), some (.int x0), some (.int x1), some (.int x2), some (.int x3), some (.int x4), some (.ref 59), some (.ref 57)] [.int (v_111_0 0)] (hCm b d k s w ik ex pr wd sn qu tb ts (r0, rq) h0 h1 h2 h3 (f_111_0_fi 0 fi) R) rfl ?_
                              have h := Option.some.inj h; subst h
                              exact hX_end rfl rfl rfl
                        · skip
                          have h := gcF c81 h
                          refine hX_goM 2 (67) [some (.ref 0), some (.int x0), some (.int x1), some (.int x2), some (.int x3), some (.int x4), some (.ref 59), some (.ref 57)] [.int 2, .ref 0] rfl ?_
                          refine hX_call (r' := zR_111) rfl (ct_111_0 2 rfl) ?_
                          refine hX_go 0 (70) [some (.ref 0), some (.int x0), some (.int x1), some (.int x2), some (.int x3), some (.int x4), some (.ref 59), some (.ref 57)] [.int (v_111_0 2)] (hCm b d k s w ik ex pr wd sn qu tb ts (r0, rq) h0 h1 h2 h3 (f_111_0_fi 2 fi) R) rfl ?_
                          have h := Option.some.inj h; subst h
                          exact hX_end rfl rfl rfl
                      · skip
                        have h := gcF c80 h
                        refine hX_goM 2 (48) [some (.ref 0), some (.int x0), some (.int x1), some (.int x2), some (.int x3), some (.int x4), some (.ref 59), some (.ref 57)] [.int 5, .ref 0] rfl ?_
                        refine hX_call (r' := zR_111) rfl (ct_111_0 5 rfl) ?_
                        refine hX_go 0 (51) [some (.ref 0), some (.int x0), some (.int x1), some (.int x2), some (.int x3), some (.int x4), some (.ref 59), some (.ref 57)] [.int (v_111_0 5)] (hCm b d k s w ik ex pr wd sn qu tb ts (r0, rq) h0 h1 h2 h3 (f_111_0_fi 5 fi) R) rfl ?_
                        have h := Option.some.inj h; subst h
                        exact hX_end rfl rfl rfl
                  · skip
                    have h := gcF c78 h
                    refine hX_bif (hEq x2 2) (fun c85 => ?_) (fun c85 => ?_)
                    · skip
                      have h := gcT c85 h
                      refine hX_call (r' := zR_114) rfl (ct_114_0_4 x2 c69 c70 c71 c78 c85) ?_
                      refine hX_goM 6 (32) [some (.ref 0), some (.int x0), some (.int x1), some (.int x2), some (.int x3), some (.int x4), some (.ref 59), some (.ref 59)] [.ref 59] rfl ?_
                      refine hX_call (r' := zR_53) rfl (ct_53_59) ?_
                      refine hX_goM 1 (bif gCmp .ne (v_53_59 h2) 0 then 46 else 38) [some (.ref 0), some (.int x0), some (.int x1), some (.int x2), some (.int x3), some (.int x4), some (.ref 59), some (.ref 59)] [] rfl ?_
                      refine hX_if (gCmp .ne (v_53_59 h2) 0) (fun c86 => ?_) (fun c86 => ?_)
                      · skip
                        have h := gcT c86 h
                        refine hX_goM 2 (48) [some (.ref 0), some (.int x0), some (.int x1), some (.int x2), some (.int x3), some (.int x4), some (.ref 59), some (.ref 59)] [.int 5, .ref 0] rfl ?_
                        refine hX_call (r' := zR_111) rfl (ct_111_0 5 rfl) ?_
                        refine hX_go 0 (51) [some (.ref 0), some (.int x0), some (.int x1), some (.int x2), some (.int x3), some (.int x4), some (.ref 59), some (.ref 59)] [.int (v_111_0 5)] (hCm b d k s w ik ex pr wd sn qu tb ts (r0, rq) h0 h1 h2 h3 (f_111_0_fi 5 fi) R) rfl ?_
                        have h := Option.some.inj h; subst h
                        exact hX_end rfl rfl rfl
                      · skip
                        have h := gcF c86 h
                        refine hX_goM 1 (40) [some (.ref 0), some (.int x0), some (.int x1), some (.int x2), some (.int x3), some (.int x4), some (.ref 59), some (.ref 59)] [.ref 59] rfl ?_
                        refine hX_call (r' := zR_53) rfl (ct_53_59) ?_
                        refine hX_goM 1 (bif gCmp .eq (v_53_59 h2) 0 then 52 else 46) [some (.ref 0), some (.int x0), some (.int x1), some (.int x2), some (.int x3), some (.int x4), some (.ref 59), some (.ref 59)] [] rfl ?_
                        refine hX_if (gCmp .eq (v_53_59 h2) 0) (fun c87 => ?_) (fun c87 => ?_)
                        · skip
                          have h := gcT c87 h
                          refine hX_goM 5 (bif gCmp .eq h2.2.1 h2.2.1 then 71 else 65) [some (.ref 0), some (.int x0), some (.int x1), some (.int x2), some (.int x3), some (.int x4), some (.ref 59), some (.ref 59)] [] rfl ?_
                          refine hX_if (gCmp .eq h2.2.1 h2.2.1) (fun c88 => ?_) (fun c88 => ?_)
                          · skip
                            have h := gcT c88 h
                            refine hX_goM 3 (76) [some (.ref 0), some (.int x0), some (.int x1), some (.int x2), some (.int x3), some (.int x4), some (.ref 59), some (.ref 59)] [.int x4, .int x1, .ref 59] rfl ?_
                            refine hX_call (r' := zR_56) rfl (ct_56_59 x1 x4) ?_
                            refine hX_goM 1 (bif gCmp .eq (v_56_59 x1 x4 h2) 0 then 94 else 82) [some (.ref 0), some (.int x0), some (.int x1), some (.int x2), some (.int x3), some (.int x4), some (.ref 59), some (.ref 59)] [] rfl ?_
                            refine hX_if (gCmp .eq (v_56_59 x1 x4 h2) 0) (fun c89 => ?_) (fun c89 => ?_)
                            · skip
                              have h := gcT c89 h
                              refine hX_goM 2 (96) [some (.ref 0), some (.int x0), some (.int x1), some (.int x2), some (.int x3), some (.int x4), some (.ref 59), some (.ref 59)] [.int 0, .ref 0] rfl ?_
                              refine hX_call (r' := zR_111) rfl (ct_111_0 0 rfl) ?_
                              refine hX_go 0 (99) [some (.ref 0), some (.int x0), some (.int x1), some (.int x2), some (.int x3), some (.int x4), some (.ref 59), some (.ref 59)] [.int (v_111_0 0)] (hCm b d k s w ik ex pr wd sn qu tb ts (r0, rq) h0 h1 h2 h3 (f_111_0_fi 0 fi) R) rfl ?_
                              have h := Option.some.inj h; subst h
                              exact hX_end rfl rfl rfl
                            · skip
                              have h := gcF c89 h
                              refine hX_goM 3 (88) [some (.ref 0), some (.int x0), some (.int x1), some (.int x2), some (.int x3), some (.int x4), some (.ref 59), some (.ref 59)] [.int x4, .int x3, .ref 59] rfl ?_
                              refine hX_call (r' := zR_56) rfl (ct_56_59 x3 x4) ?_
                              refine hX_goM 1 (bif gCmp .ne (v_56_59 x3 x4 h2) 0 then 100 else 94) [some (.ref 0), some (.int x0), some (.int x1), some (.int x2), some (.int x3), some (.int x4), some (.ref 59), some (.ref 59)] [] rfl ?_
                              refine hX_if (gCmp .ne (v_56_59 x3 x4 h2) 0) (fun c90 => ?_) (fun c90 => ?_)
                              · skip
                                have h := gcT c90 h
                                refine hX_goM 7 (115) [some (.ref 0), some (.int x0), some (.int x1), some (.int x2), some (.int x3), some (.int x4), some (.ref 59), some (.ref 59)] [.int x4, .int x3, .ref 60, .int x1, .ref 60] rfl ?_
                                revert h; refine gCondR fun g91 h => ?_
                                refine hX_g (!decide (x1 < 0) && !decide (x3 < 0) && !decide (x4 < 0) && Nat.ble (Int32.toNatClampNeg x1 + Int32.toNatClampNeg x4) 40 && Nat.ble (Int32.toNatClampNeg x3 + Int32.toNatClampNeg x4) 40) 118 [some (.ref 0), some (.int x0), some (.int x1), some (.int x2), some (.int x3), some (.int x4), some (.ref 59), some (.ref 59)] [] (hCm b d k s w ik ex pr wd sn qu tb ts (r0, rq) h0 h1 (va_cpy h2.1 h2.1 (Int32.toNatClampNeg x1) (Int32.toNatClampNeg x3) (Int32.toNatClampNeg x4), h2.2) h3 fi R) rfl g91 ?_
                                refine hX_goM 1 (120) [some (.ref 0), some (.int x0), some (.int x1), some (.int x2), some (.int x3), some (.int x4), some (.ref 59), some (.ref 59)] [.int x4] rfl ?_
                                have h := Option.some.inj h; subst h
                                exact hX_end rfl rfl rfl
                              · skip
                                have h := gcF c90 h
                                refine hX_goM 2 (96) [some (.ref 0), some (.int x0), some (.int x1), some (.int x2), some (.int x3), some (.int x4), some (.ref 59), some (.ref 59)] [.int 0, .ref 0] rfl ?_
                                refine hX_call (r' := zR_111) rfl (ct_111_0 0 rfl) ?_
                                refine hX_go 0 (99) [some (.ref 0), some (.int x0), some (.int x1), some (.int x2), some (.int x3), some (.int x4), some (.ref 59), some (.ref 59)] [.int (v_111_0 0)] (hCm b d k s w ik ex pr wd sn qu tb ts (r0, rq) h0 h1 h2 h3 (f_111_0_fi 0 fi) R) rfl ?_
                                have h := Option.some.inj h; subst h
                                exact hX_end rfl rfl rfl
                          · skip
                            have h := gcF c88 h
                            refine hX_goM 2 (67) [some (.ref 0), some (.int x0), some (.int x1), some (.int x2), some (.int x3), some (.int x4), some (.ref 59), some (.ref 59)] [.int 2, .ref 0] rfl ?_
                            refine hX_call (r' := zR_111) rfl (ct_111_0 2 rfl) ?_
                            refine hX_go 0 (70) [some (.ref 0), some (.int x0), some (.int x1), some (.int x2), some (.int x3), some (.int x4), some (.ref 59), some (.ref 59)] [.int (v_111_0 2)] (hCm b d k s w ik ex pr wd sn qu tb ts (r0, rq) h0 h1 h2 h3 (f_111_0_fi 2 fi) R) rfl ?_
                            have h := Option.some.inj h; subst h
                            exact hX_end rfl rfl rfl
                        · skip
                          have h := gcF c87 h
                          refine hX_goM 2 (48) [some (.ref 0), some (.int x0), some (.int x1), some (.int x2), some (.int x3), some (.int x4), some (.ref 59), some (.ref 59)] [.int 5, .ref 0] rfl ?_
                          refine hX_call (r' := zR_111) rfl (ct_111_0 5 rfl) ?_
                          refine hX_go 0 (51) [some (.ref 0), some (.int x0), some (.int x1), some (.int x2), some (.int x3), some (.int x4), some (.ref 59), some (.ref 59)] [.int (v_111_0 5)] (hCm b d k s w ik ex pr wd sn qu tb ts (r0, rq) h0 h1 h2 h3 (f_111_0_fi 5 fi) R) rfl ?_
                          have h := Option.some.inj h; subst h
                          exact hX_end rfl rfl rfl
                    · skip
                      have h := gcF c85 h
                      refine hX_call (r' := zR_114) rfl (ct_114_0_5 x2 c69 c70 c71 c78 c85) ?_
                      refine hX_goM 6 (32) [some (.ref 0), some (.int x0), some (.int x1), some (.int x2), some (.int x3), some (.int x4), some (.ref 59), some (.ref 61)] [.ref 59] rfl ?_
                      refine hX_call (r' := zR_53) rfl (ct_53_59) ?_
                      refine hX_goM 1 (bif gCmp .ne (v_53_59 h2) 0 then 46 else 38) [some (.ref 0), some (.int x0), some (.int x1), some (.int x2), some (.int x3), some (.int x4), some (.ref 59), some (.ref 61)] [] rfl ?_
                      refine hX_if (gCmp .ne (v_53_59 h2) 0) (fun c92 => ?_) (fun c92 => ?_)
                      · skip
                        have h := gcT c92 h
                        refine hX_goM 2 (48) [some (.ref 0), some (.int x0), some (.int x1), some (.int x2), some (.int x3), some (.int x4), some (.ref 59), some (.ref 61)] [.int 5, .ref 0] rfl ?_
                        refine hX_call (r' := zR_111) rfl (ct_111_0 5 rfl) ?_
                        refine hX_go 0 (51) [some (.ref 0), some (.int x0), some (.int x1), some (.int x2), some (.int x3), some (.int x4), some (.ref 59), some (.ref 61)] [.int (v_111_0 5)] (hCm b d k s w ik ex pr wd sn qu tb ts (r0, rq) h0 h1 h2 h3 (f_111_0_fi 5 fi) R) rfl ?_
                        have h := Option.some.inj h; subst h
                        exact hX_end rfl rfl rfl
                      · skip
                        have h := gcF c92 h
                        refine hX_goM 1 (40) [some (.ref 0), some (.int x0), some (.int x1), some (.int x2), some (.int x3), some (.int x4), some (.ref 59), some (.ref 61)] [.ref 61] rfl ?_
                        refine hX_call (r' := zR_53) rfl (ct_53_61) ?_
                        refine hX_goM 1 (bif gCmp .eq (v_53_61 h3) 0 then 52 else 46) [some (.ref 0), some (.int x0), some (.int x1), some (.int x2), some (.int x3), some (.int x4), some (.ref 59), some (.ref 61)] [] rfl ?_
                        refine hX_if (gCmp .eq (v_53_61 h3) 0) (fun c93 => ?_) (fun c93 => ?_)
                        · skip
                          have h := gcT c93 h
                          refine hX_goM 5 (bif gCmp .eq h2.2.1 h3.2.1 then 71 else 65) [some (.ref 0), some (.int x0), some (.int x1), some (.int x2), some (.int x3), some (.int x4), some (.ref 59), some (.ref 61)] [] rfl ?_
                          refine hX_if (gCmp .eq h2.2.1 h3.2.1) (fun c94 => ?_) (fun c94 => ?_)
                          · skip
                            have h := gcT c94 h
                            refine hX_goM 3 (76) [some (.ref 0), some (.int x0), some (.int x1), some (.int x2), some (.int x3), some (.int x4), some (.ref 59), some (.ref 61)] [.int x4, .int x1, .ref 59] rfl ?_
                            refine hX_call (r' := zR_56) rfl (ct_56_59 x1 x4) ?_
                            refine hX_goM 1 (bif gCmp .eq (v_56_59 x1 x4 h2) 0 then 94 else 82) [some (.ref 0), some (.int x0), some (.int x1), some (.int x2), some (.int x3), some (.int x4), some (.ref 59), some (.ref 61)] [] rfl ?_
                            refine hX_if (gCmp .eq (v_56_59 x1 x4 h2) 0) (fun c95 => ?_) (fun c95 => ?_)
                            · skip
                              have h := gcT c95 h
                              refine hX_goM 2 (96) [some (.ref 0), some (.int x0), some (.int x1), some (.int x2), some (.int x3), some (.int x4), some (.ref 59), some (.ref 61)] [.int 0, .ref 0] rfl ?_
                              refine hX_call (r' := zR_111) rfl (ct_111_0 0 rfl) ?_
                              refine hX_go 0 (99) [some (.ref 0), some (.int x0), some (.int x1), some (.int x2), some (.int x3), some (.int x4), some (.ref 59), some (.ref 61)] [.int (v_111_0 0)] (hCm b d k s w ik ex pr wd sn qu tb ts (r0, rq) h0 h1 h2 h3 (f_111_0_fi 0 fi) R) rfl ?_
                              have h := Option.some.inj h; subst h
                              exact hX_end rfl rfl rfl
                            · skip
                              have h := gcF c95 h
                              refine hX_goM 3 (88) [some (.ref 0), some (.int x0), some (.int x1), some (.int x2), some (.int x3), some (.int x4), some (.ref 59), some (.ref 61)] [.int x4, .int x3, .ref 61] rfl ?_
                              refine hX_call (r' := zR_56) rfl (ct_56_61 x3 x4) ?_
                              refine hX_goM 1 (bif gCmp .ne (v_56_61 x3 x4 h3) 0 then 100 else 94) [some (.ref 0), some (.int x0), some (.int x1), some (.int x2), some (.int x3), some (.int x4), some (.ref 59), some (.ref 61)] [] rfl ?_
                              refine hX_if (gCmp .ne (v_56_61 x3 x4 h3) 0) (fun c96 => ?_) (fun c96 => ?_)
                              · skip
                                have h := gcT c96 h
                                refine hX_goM 7 (115) [some (.ref 0), some (.int x0), some (.int x1), some (.int x2), some (.int x3), some (.int x4), some (.ref 59), some (.ref 61)] [.int x4, .int x3, .ref 62, .int x1, .ref 60] rfl ?_
                                revert h; refine gCondR fun g97 h => ?_
                                refine hX_g (!decide (x1 < 0) && !decide (x3 < 0) && !decide (x4 < 0) && Nat.ble (Int32.toNatClampNeg x1 + Int32.toNatClampNeg x4) 40 && Nat.ble (Int32.toNatClampNeg x3 + Int32.toNatClampNeg x4) 40) 118 [some (.ref 0), some (.int x0), some (.int x1), some (.int x2), some (.int x3), some (.int x4), some (.ref 59), some (.ref 61)] [] (hCm b d k s w ik ex pr wd sn qu tb ts (r0, rq) h0 h1 h2 (va_cpy h2.1 h3.1 (Int32.toNatClampNeg x1) (Int32.toNatClampNeg x3) (Int32.toNatClampNeg x4), h3.2) fi R) rfl g97 ?_
                                refine hX_goM 1 (120) [some (.ref 0), some (.int x0), some (.int x1), some (.int x2), some (.int x3), some (.int x4), some (.ref 59), some (.ref 61)] [.int x4] rfl ?_
                                have h := Option.some.inj h; subst h
                                exact hX_end rfl rfl rfl
                              · skip
                                have h := gcF c96 h
                                refine hX_goM 2 (96) [some (.ref 0), some (.int x0), some (.int x1), some (.int x2), some (.int x3), some (.int x4), some (.ref 59), some (.ref 61)] [.int 0, .ref 0] rfl ?_
                                refine hX_call (r' := zR_111) rfl (ct_111_0 0 rfl) ?_
                                refine hX_go 0 (99) [some (.ref 0), some (.int x0), some (.int x1), some (.int x2), some (.int x3), some (.int x4), some (.ref 59), some (.ref 61)] [.int (v_111_0 0)] (hCm b d k s w ik ex pr wd sn qu tb ts (r0, rq) h0 h1 h2 h3 (f_111_0_fi 0 fi) R) rfl ?_
                                have h := Option.some.inj h; subst h
                                exact hX_end rfl rfl rfl
                          · skip
                            have h := gcF c94 h
                            refine hX_goM 2 (67) [some (.ref 0), some (.int x0), some (.int x1), some (.int x2), some (.int x3), some (.int x4), some (.ref 59), some (.ref 61)] [.int 2, .ref 0] rfl ?_
                            refine hX_call (r' := zR_111) rfl (ct_111_0 2 rfl) ?_
                            refine hX_go 0 (70) [some (.ref 0), some (.int x0), some (.int x1), some (.int x2), some (.int x3), some (.int x4), some (.ref 59), some (.ref 61)] [.int (v_111_0 2)] (hCm b d k s w ik ex pr wd sn qu tb ts (r0, rq) h0 h1 h2 h3 (f_111_0_fi 2 fi) R) rfl ?_
                            have h := Option.some.inj h; subst h
                            exact hX_end rfl rfl rfl
                        · skip
                          have h := gcF c93 h
                          refine hX_goM 2 (48) [some (.ref 0), some (.int x0), some (.int x1), some (.int x2), some (.int x3), some (.int x4), some (.ref 59), some (.ref 61)] [.int 5, .ref 0] rfl ?_
                          refine hX_call (r' := zR_111) rfl (ct_111_0 5 rfl) ?_
                          refine hX_go 0 (51) [some (.ref 0), some (.int x0), some (.int x1), some (.int x2), some (.int x3), some (.int x4), some (.ref 59), some (.ref 61)] [.int (v_111_0 5)] (hCm b d k s w ik ex pr wd sn qu tb ts (r0, rq) h0 h1 h2 h3 (f_111_0_fi 5 fi) R) rfl ?_
                          have h := Option.some.inj h; subst h
                          exact hX_end rfl rfl rfl
              · skip
                have h := gcF c70 h
                refine hX_call (r' := zR_114) rfl (ct_114_0_1 x2 c69 c70) ?_
                refine hX_goM 7 (26) [some (.ref 0), some (.int x0), some (.int x1), some (.int x2), some (.int x3), some (.int x4), some (.ref 59), some (.null)] [.int 0, .ref 0] rfl ?_
                refine hX_call (r' := zR_111) rfl (ct_111_0 0 rfl) ?_
                refine hX_go 0 (29) [some (.ref 0), some (.int x0), some (.int x1), some (.int x2), some (.int x3), some (.int x4), some (.ref 59), some (.null)] [.int (v_111_0 0)] (hCm b d k s w ik ex pr wd sn qu tb ts (r0, rq) h0 h1 h2 h3 (f_111_0_fi 0 fi) R) rfl ?_
                have h := Option.some.inj h; subst h
                exact hX_end rfl rfl rfl
          · skip
            have h := gcF c68 h
            refine hX_call (r' := zR_114) rfl (ct_114_0_5 x0 c1 c7 c8 c38 c68) ?_
            refine hX_goM 3 (9) [some (.ref 0), some (.int x0), some (.int x1), some (.int x2), some (.int x3), some (.int x4), some (.ref 61), none] [.int x2, .ref 0] rfl ?_
            refine hX_bif (gCmp .lt x2 0) (fun c98 => ?_) (fun c98 => ?_)
            · skip
              have h := gcT c98 h
              refine hX_call (r' := zR_114) rfl (ct_114_0_0 x2 c98) ?_
              refine hX_goM 7 (26) [some (.ref 0), some (.int x0), some (.int x1), some (.int x2), some (.int x3), some (.int x4), some (.ref 61), some (.null)] [.int 0, .ref 0] rfl ?_
              refine hX_call (r' := zR_111) rfl (ct_111_0 0 rfl) ?_
              refine hX_go 0 (29) [some (.ref 0), some (.int x0), some (.int x1), some (.int x2), some (.int x3), some (.int x4), some (.ref 61), some (.null)] [.int (v_111_0 0)] (hCm b d k s w ik ex pr wd sn qu tb ts (r0, rq) h0 h1 h2 h3 (f_111_0_fi 0 fi) R) rfl ?_
              have h := Option.some.inj h; subst h
              exact hX_end rfl rfl rfl
            · skip
              have h := gcF c98 h
              refine hX_bif (gCmp .lt x2 4) (fun c99 => ?_) (fun c99 => ?_)
              · skip
                have h := gcT c99 h
                refine hX_bif (hEq x2 0) (fun c100 => ?_) (fun c100 => ?_)
                · skip
                  have h := gcT c100 h
                  refine hX_call (r' := zR_114) rfl (ct_114_0_2 x2 c98 c99 c100) ?_
                  refine hX_goM 6 (32) [some (.ref 0), some (.int x0), some (.int x1), some (.int x2), some (.int x3), some (.int x4), some (.ref 61), some (.ref 55)] [.ref 61] rfl ?_
                  refine hX_call (r' := zR_53) rfl (ct_53_61) ?_
                  refine hX_goM 1 (bif gCmp .ne (v_53_61 h3) 0 then 46 else 38) [some (.ref 0), some (.int x0), some (.int x1), some (.int x2), some (.int x3), some (.int x4), some (.ref 61), some (.ref 55)] [] rfl ?_
                  refine hX_if (gCmp .ne (v_53_61 h3) 0) (fun c101 => ?_) (fun c101 => ?_)
                  · skip
                    have h := gcT c101 h
                    refine hX_goM 2 (48) [some (.ref 0), some (.int x0), some (.int x1), some (.int x2), some (.int x3), some (.int x4), some (.ref 61), some (.ref 55)] [.int 5, .ref 0] rfl ?_
                    refine hX_call (r' := zR_111) rfl (ct_111_0 5 rfl) ?_
                    refine hX_go 0 (51) [some (.ref 0), some (.int x0), some (.int x1), some (.int x2), some (.int x3), some (.int x4), some (.ref 61), some (.ref 55)] [.int (v_111_0 5)] (hCm b d k s w ik ex pr wd sn qu tb ts (r0, rq) h0 h1 h2 h3 (f_111_0_fi 5 fi) R) rfl ?_
                    have h := Option.some.inj h; subst h
                    exact hX_end rfl rfl rfl
                  · skip
                    have h := gcF c101 h
                    refine hX_goM 1 (40) [some (.ref 0), some (.int x0), some (.int x1), some (.int x2), some (.int x3), some (.int x4), some (.ref 61), some (.ref 55)] [.ref 55] rfl ?_
                    refine hX_call (r' := zR_53) rfl (ct_53_55) ?_
                    refine hX_goM 1 (bif gCmp .eq (v_53_55 h0) 0 then 52 else 46) [some (.ref 0), some (.int x0), some (.int x1), some (.int x2), some (.int x3), some (.int x4), some (.ref 61), some (.ref 55)] [] rfl ?_
                    refine hX_if (gCmp .eq (v_53_55 h0) 0) (fun c102 => ?_) (fun c102 => ?_)
                    · skip
                      have h := gcT c102 h
                      refine hX_goM 5 (bif gCmp .eq h3.2.1 h0.2.1 then 71 else 65) [some (.ref 0), some (.int x0), some (.int x1), some (.int x2), some (.int x3), some (.int x4), some (.ref 61), some (.ref 55)] [] rfl ?_
                      refine hX_if (gCmp .eq h3.2.1 h0.2.1) (fun c103 => ?_) (fun c103 => ?_)
                      · skip
                        have h := gcT c103 h
                        refine hX_goM 3 (76) [some (.ref 0), some (.int x0), some (.int x1), some (.int x2), some (.int x3), some (.int x4), some (.ref 61), some (.ref 55)] [.int x4, .int x1, .ref 61] rfl ?_
                        refine hX_call (r' := zR_56) rfl (ct_56_61 x1 x4) ?_
                        refine hX_goM 1 (bif gCmp .eq (v_56_61 x1 x4 h3) 0 then 94 else 82) [some (.ref 0), some (.int x0), some (.int x1), some (.int x2), some (.int x3), some (.int x4), some (.ref 61), some (.ref 55)] [] rfl ?_
                        refine hX_if (gCmp .eq (v_56_61 x1 x4 h3) 0) (fun c104 => ?_) (fun c104 => ?_)
                        · skip
                          have h := gcT c104 h
                          refine hX_goM 2 (96) [some (.ref 0), some (.int x0), some (.int x1), some (.int x2), some (.int x3), some (.int x4), some (.ref 61), some (.ref 55)] [.int 0, .ref 0] rfl ?_
                          refine hX_call (r' := zR_111) rfl (ct_111_0 0 rfl) ?_
                          refine hX_go 0 (99) [some (.ref 0), some (.int x0), some (.int x1), some (.int x2), some (.int x3), some (.int x4), some (.ref 61), some (.ref 55)] [.int (v_111_0 0)] (hCm b d k s w ik ex pr wd sn qu tb ts (r0, rq) h0 h1 h2 h3 (f_111_0_fi 0 fi) R) rfl ?_
                          have h := Option.some.inj h; subst h
                          exact hX_end rfl rfl rfl
                        · skip
                          have h := gcF c104 h
                          refine hX_goM 3 (88) [some (.ref 0), some (.int x0), some (.int x1), some (.int x2), some (.int x3), some (.int x4), some (.ref 61), some (.ref 55)] [.int x4, .int x3, .ref 55] rfl ?_
                          refine hX_call (r' := zR_56) rfl (ct_56_55 x3 x4) ?_
                          refine hX_goM 1 (bif gCmp .ne (v_56_55 x3 x4 h0) 0 then 100 else 94) [some (.ref 0), some (.int x0), some (.int x1), some (.int x2), some (.int x3), some (.int x4), some (.ref 61), some (.ref 55)] [] rfl ?_
                          refine hX_if (gCmp .ne (v_56_55 x3 x4 h0) 0) (fun c105 => ?_) (fun c105 => ?_)
                          · skip
                            have h := gcT c105 h
                            refine hX_goM 7 (115) [some (.ref 0), some (.int x0), some (.int x1), some (.int x2), some (.int x3), some (.int x4), some (.ref 61), some (.ref 55)] [.int x4, .int x3, .ref 56, .int x1, .ref 62] rfl ?_
                            revert h; refine gCondR fun g106 h => ?_
                            refine hX_g (!decide (x1 < 0) && !decide (x3 < 0) && !decide (x4 < 0) && Nat.ble (Int32.toNatClampNeg x1 + Int32.toNatClampNeg x4) 40 && Nat.ble (Int32.toNatClampNeg x3 + Int32.toNatClampNeg x4) 40) 118 [some (.ref 0), some (.int x0), some (.int x1), some (.int x2), some (.int x3), some (.int x4), some (.ref 61), some (.ref 55)] [] (hCm b d k s w ik ex pr wd sn qu tb ts (r0, rq) (va_cpy h3.1 h0.1 (Int32.toNatClampNeg x1) (Int32.toNatClampNeg x3) (Int32.toNatClampNeg x4), h0.2) h1 h2 h3 fi R) rfl g106 ?_
                            refine hX_goM 1 (120) [some (.ref 0), some (.int x0), some (.int x1), some (.int x2), some (.int x3), some (.int x4), some (.ref 61), some (.ref 55)] [.int x4] rfl ?_
                            have h := Option.some.inj h; subst h
                            exact hX_end rfl rfl rfl
                          · skip
                            have h := gcF c105 h
                            refine hX_goM 2 (96) [some (.ref 0), some (.int x0), some (.int x1), some (.int x2), some (.int x3), some (.int x4), some (.ref 61), some (.ref 55)] [.int 0, .ref 0] rfl ?_
                            refine hX_call (r' := zR_111) rfl (ct_111_0 0 rfl) ?_
                            refine hX_go 0 (99) [some (.ref 0), some (.int x0), some (.int x1), some (.int x2), some (.int x3), some (.int x4), some (.ref 61), some (.ref 55)] [.int (v_111_0 0)] (hCm b d k s w ik ex pr wd sn qu tb ts (r0, rq) h0 h1 h2 h3 (f_111_0_fi 0 fi) R) rfl ?_
                            have h := Option.some.inj h; subst h
                            exact hX_end rfl rfl rfl
                      · skip
                        have h := gcF c103 h
                        refine hX_goM 2 (67) [some (.ref 0), some (.int x0), some (.int x1), some (.int x2), some (.int x3), some (.int x4), some (.ref 61), some (.ref 55)] [.int 2, .ref 0] rfl ?_
                        refine hX_call (r' := zR_111) rfl (ct_111_0 2 rfl) ?_
                        refine hX_go 0 (70) [some (.ref 0), some (.int x0), some (.int x1), some (.int x2), some (.int x3), some (.int x4), some (.ref 61), some (.ref 55)] [.int (v_111_0 2)] (hCm b d k s w ik ex pr wd sn qu tb ts (r0, rq) h0 h1 h2 h3 (f_111_0_fi 2 fi) R) rfl ?_
                        have h := Option.some.inj h; subst h
                        exact hX_end rfl rfl rfl
                    · skip
                      have h := gcF c102 h
                      refine hX_goM 2 (48) [some (.ref 0), some (.int x0), some (.int x1), some (.int x2), some (.int x3), some (.int x4), some (.ref 61), some (.ref 55)] [.int 5, .ref 0] rfl ?_
                      refine hX_call (r' := zR_111) rfl (ct_111_0 5 rfl) ?_
                      refine hX_go 0 (51) [some (.ref 0), some (.int x0), some (.int x1), some (.int x2), some (.int x3), some (.int x4), some (.ref 61), some (.ref 55)] [.int (v_111_0 5)] (hCm b d k s w ik ex pr wd sn qu tb ts (r0, rq) h0 h1 h2 h3 (f_111_0_fi 5 fi) R) rfl ?_
                      have h := Option.some.inj h; subst h
                      exact hX_end rfl rfl rfl
                · skip
                  have h := gcF c100 h
                  refine hX_bif (hEq x2 1) (fun c107 => ?_) (fun c107 => ?_)
                  · skip
                    have h := gcT c107 h
                    refine hX_call (r' := zR_114) rfl (ct_114_0_3 x2 c98 c99 c100 c107) ?_
                    refine hX_goM 6 (32) [some (.ref 0), some (.int x0), some (.int x1), some (.int x2), some (.int x3), some (.int x4), some (.ref 61), some (.ref 57)] [.ref 61] rfl ?_
                    refine hX_call (r' := zR_53) rfl (ct_53_61) ?_
                    refine hX_goM 1 (bif gCmp .ne (v_53_61 h3) 0 then 46 else 38) [some (.ref 0), some (.int x0), some (.int x1), some (.int x2), some (.int x3), some (.int x4), some (.ref 61), some (.ref 57)] [] rfl ?_
                    refine hX_if (gCmp .ne (v_53_61 h3) 0) (fun c108 => ?_) (fun c108 => ?_)
                    · skip
                      have h := gcT c108 h
                      refine hX_goM 2 (48) [some (.ref 0), some (.int x0), some (.int x1), some (.int x2), some (.int x3), some (.int x4), some (.ref 61), some (.ref 57)] [.int 5, .ref 0] rfl ?_
                      refine hX_call (r' := zR_111) rfl (ct_111_0 5 rfl) ?_
                      refine hX_go 0 (51) [some (.ref 0), some (.int x0), some (.int x1), some (.int x2), some (.int x3), some (.int x4), some (.ref 61), some (.ref 57)] [.int (v_111_0 5)] (hCm b d k s w ik ex pr wd sn qu tb ts (r0, rq) h0 h1 h2 h3 (f_111_0_fi 5 fi) R) rfl ?_
                      have h := Option.some.inj h; subst h
                      exact hX_end rfl rfl rfl
                    · skip
                      have h := gcF c108 h
                      refine hX_goM 1 (40) [some (.ref 0), some (.int x0), some (.int x1), some (.int x2), some (.int x3), some (.int x4), some (.ref 61), some (.ref 57)] [.ref 57] rfl ?_
                      refine hX_call (r' := zR_53) rfl (ct_53_57) ?_
                      refine hX_goM 1 (bif gCmp .eq (v_53_57 h1) 0 then 52 else 46) [some (.ref 0), some (.int x0), some (.int x1), some (.int x2), some (.int x3), some (.int x4), some (.ref 61), some (.ref 57)] [] rfl ?_
                      refine hX_if (gCmp .eq (v_53_57 h1) 0) (fun c109 => ?_) (fun c109 => ?_)
                      · skip
                        have h := gcT c109 h
                        refine hX_goM 5 (bif gCmp .eq h3.2.1 h1.2.1 then 71 else 65) [some (.ref 0), some (.int x0), some (.int x1), some (.int x2), some (.int x3), some (.int x4), some (.ref 61), some (.ref 57)] [] rfl ?_
                        refine hX_if (gCmp .eq h3.2.1 h1.2.1) (fun c110 => ?_) (fun c110 => ?_)
                        · skip
                          have h := gcT c110 h
                          refine hX_goM 3 (76) [some (.ref 0), some (.int x0), some (.int x1), some (.int x2), some (.int x3), some (.int x4), some (.ref 61), some (.ref 57)] [.int x4, .int x1, .ref 61] rfl ?_
                          refine hX_call (r' := zR_56) rfl (ct_56_61 x1 x4) ?_
                          refine hX_goM 1 (bif gCmp .eq (v_56_61 x1 x4 h3) 0 then 94 else 82) [some (.ref 0), some (.int x0), some (.int x1), some (.int x2), some (.int x3), some (.int x4), some (.ref 61), some (.ref 57)] [] rfl ?_
                          refine hX_if (gCmp .eq (v_56_61 x1 x4 h3) 0) (fun c111 => ?_) (fun c111 => ?_)
                          · skip
                            have h := gcT c111 h
                            refine hX_goM 2 (96) [some (.ref 0), some (.int x0), some (.int x1), some (.int x2), some (.int x3), some (.int x4), some (.ref 61), some (.ref 57)] [.int 0, .ref 0] rfl ?_
                            refine hX_call (r' := zR_111) rfl (ct_111_0 0 rfl) ?_
                            refine hX_go 0 (99) [some (.ref 0), some (.int x0), some (.int x1), some (.int x2), some (.int x3), some (.int x4), some (.ref 61), some (.ref 57)] [.int (v_111_0 0)] (hCm b d k s w ik ex pr wd sn qu tb ts (r0, rq) h0 h1 h2 h3 (f_111_0_fi 0 fi) R) rfl ?_
                            have h := Option.some.inj h; subst h
                            exact hX_end rfl rfl rfl
                          · skip
                            have h := gcF c111 h
                            refine hX_goM 3 (88) [some (.ref 0), some (.int x0), some (.int x1), some (.int x2), some (.int x3), some (.int x4), some (.ref 61), some (.ref 57)] [.int x4, .int x3, .ref 57] rfl ?_
                            refine hX_call (r' := zR_56) rfl (ct_56_57 x3 x4) ?_
                            refine hX_goM 1 (bif gCmp .ne (v_56_57 x3 x4 h1) 0 then 100 else 94) [some (.ref 0), some (.int x0), some (.int x1), some (.int x2), some (.int x3), some (.int x4), some (.ref 61), some (.ref 57)] [] rfl ?_
                            refine hX_if (gCmp .ne (v_56_57 x3 x4 h1) 0) (fun c112 => ?_) (fun c112 => ?_)
                            · skip
                              have h := gcT c112 h
                              refine hX_goM 7 (115) [some (.ref 0), some (.int x0), some (.int x1), some (.int x2), some (.int x3), some (.int x4), some (.ref 61), some (.ref 57)] [.int x4, .int x3, .ref 58, .int x1, .ref 62] rfl ?_
                              revert h; refine gCondR fun g113 h => ?_
                              refine hX_g (!decide (x1 < 0) && !decide (x3 < 0) && !decide (x4 < 0) && Nat.ble (Int32.toNatClampNeg x1 + Int32.toNatClampNeg x4) 40 && Nat.ble (Int32.toNatClampNeg x3 + Int32.toNatClampNeg x4) 40) 118 [some (.ref 0), some (.int x0), some (.int x1), some (.int x2), some (.int x3), some (.int x4), some (.ref 61), some (.ref 57)] [] (hCm b d k s w ik ex pr wd sn qu tb ts (r0, rq) h0 (va_cpy h3.1 h1.1 (Int32.toNatClampNeg x1) (Int32.toNatClampNeg x3) (Int32.toNatClampNeg x4), h1.2) h2 h3 fi R) rfl g113 ?_
                              refine hX_goM 1 (120) [some (.ref 0), some (.int x0), some (.int x1), some (.int x2), some (.int x3), some (.int x4), some (.ref 61), some (.ref 57)] [.int x4] rfl ?_
                              have h := Option.some.inj h; subst h
                              exact hX_end rfl rfl rfl
                            · skip
                              have h := gcF c112 h
                              refine hX_goM 2 (96) [some (.ref 0), some (.int x0), some (.int x1), some (.int x2), some (.int x3), some (.int x4), some (.ref 61), some (.ref 57)] [.int 0, .ref 0] rfl ?_
                              refine hX_call (r' := zR_111) rfl (ct_111_0 0 rfl) ?_
                              refine hX_go 0 (99) [some (.ref 0), some (.int x0), some (.int x1), some (.int x2), some (.int x3), some (.int x4), some (.ref 61), some (.ref 57)] [.int (v_111_0 0)] (hCm b d k s w ik ex pr wd sn qu tb ts (r0, rq) h0 h1 h2 h3 (f_111_0_fi 0 fi) R) rfl ?_
                              have h := Option.some.inj h; subst h
                              exact hX_end rfl rfl rfl
                        · skip
                          have h := gcF c110 h
                          refine hX_goM 2 (67) [some (.ref 0), some (.int x0), some (.int x1), some (.int x2), some (.int x3), some (.int x4), some (.ref 61), some (.ref 57)] [.int 2, .ref 0] rfl ?_
                          refine hX_call (r' := zR_111) rfl (ct_111_0 2 rfl) ?_
                          refine hX_go 0 (70) [some (.ref 0), some (.int x0), some (.int x1), some (.int x2), some (.int x3), some (.int x4), some (.ref 61), some (.ref 57)] [.int (v_111_0 2)] (hCm b d k s w ik ex pr wd sn qu tb ts (r0, rq) h0 h1 h2 h3 (f_111_0_fi 2 fi) R) rfl ?_
                          have h := Option.some.inj h; subst h
                          exact hX_end rfl rfl rfl
                      · skip
                        have h := gcF c109 h
                        refine hX_goM 2 (48) [some (.ref 0), some (.int x0), some (.int x1), some (.int x2), some (.int x3), some (.int x4), some (.ref 61), some (.ref 57)] [.int 5, .ref 0] rfl ?_
                        refine hX_call (r' := zR_111) rfl (ct_111_0 5 rfl) ?_
                        refine hX_go 0 (51) [some (.ref 0), some (.int x0), some (.int x1), some (.int x2), some (.int x3), some (.int x4), some (.ref 61), some (.ref 57)] [.int (v_111_0 5)] (hCm b d k s w ik ex pr wd sn qu tb ts (r0, rq) h0 h1 h2 h3 (f_111_0_fi 5 fi) R) rfl ?_
                        have h := Option.some.inj h; subst h
                        exact hX_end rfl rfl rfl
                  · skip
                    have h := gcF c107 h
                    refine hX_bif (hEq x2 2) (fun c114 => ?_) (fun c114 => ?_)
                    · skip
                      have h := gcT c114 h
                      refine hX_call (r' := zR_114) rfl (ct_114_0_4 x2 c98 c99 c100 c107 c114) ?_
                      refine hX_goM 6 (32) [some (.ref 0), some (.int x0), some (.int x1), some (.int x2), some (.int x3), some (.int x4), some (.ref 61), some (.ref 59)] [.ref 61] rfl ?_
                      refine hX_call (r' := zR_53) rfl (ct_53_61) ?_
                      refine hX_goM 1 (bif gCmp .ne (v_53_61 h3) 0 then 46 else 38) [some (.ref 0), some (.int x0), some (.int x1), some (.int x2), some (.int x3), some (.int x4), some (.ref 61), some (.ref 59)] [] rfl ?_
                      refine hX_if (gCmp .ne (v_53_61 h3) 0) (fun c115 => ?_) (fun c115 => ?_)
                      · skip
                        have h := gcT c115 h
                        refine hX_goM 2 (48) [some (.ref 0), some (.int x0), some (.int x1), some (.int x2), some (.int x3), some (.int x4), some (.ref 61), some (.ref 59)] [.int 5, .ref 0] rfl ?_
                        refine hX_call (r' := zR_111) rfl (ct_111_0 5 rfl) ?_
                        refine hX_go 0 (51) [some (.ref 0), some (.int x0), some (.int x1), some (.int x2), some (.int x3), some (.int x4), some (.ref 61), some (.ref 59)] [.int (v_111_0 5)] (hCm b d k s w ik ex pr wd sn qu tb ts (r0, rq) h0 h1 h2 h3 (f_111_0_fi 5 fi) R) rfl ?_
                        have h := Option.some.inj h; subst h
                        exact hX_end rfl rfl rfl
                      · skip
                        have h := gcF c115 h
                        refine hX_goM 1 (40) [some (.ref 0), some (.int x0), some (.int x1), some (.int x2), some (.int x3), some (.int x4), some (.ref 61), some (.ref 59)] [.ref 59] rfl ?_
                        refine hX_call (r' := zR_53) rfl (ct_53_59) ?_
                        refine hX_goM 1 (bif gCmp .eq (v_53_59 h2) 0 then 52 else 46) [some (.ref 0), some (.int x0), some (.int x1), some (.int x2), some (.int x3), some (.int x4), some (.ref 61), some (.ref 59)] [] rfl ?_
                        refine hX_if (gCmp .eq (v_53_59 h2) 0) (fun c116 => ?_) (fun c116 => ?_)
                        · skip
                          have h := gcT c116 h
                          refine hX_goM 5 (bif gCmp .eq h3.2.1 h2.2.1 then 71 else 65) [some (.ref 0), some (.int x0), some (.int x1), some (.int x2), some (.int x3), some (.int x4), some (.ref 61), some (.ref 59)] [] rfl ?_
                          refine hX_if (gCmp .eq h3.2.1 h2.2.1) (fun c117 => ?_) (fun c117 => ?_)
                          · skip
                            have h := gcT c117 h
                            refine hX_goM 3 (76) [some (.ref 0), some (.int x0), some (.int x1), some (.int x2), some (.int x3), some (.int x4), some (.ref 61), some (.ref 59)] [.int x4, .int x1, .ref 61] rfl ?_
                            refine hX_call (r' := zR_56) rfl (ct_56_61 x1 x4) ?_
                            refine hX_goM 1 (bif gCmp .eq (v_56_61 x1 x4 h3) 0 then 94 else 82) [some (.ref 0), some (.int x0), some (.int x1), some (.int x2), some (.int x3), some (.int x4), some (.ref 61), some (.ref 59)] [] rfl ?_
                            refine hX_if (gCmp .eq (v_56_61 x1 x4 h3) 0) (fun c118 => ?_) (fun c118 => ?_)
                            · skip
                              have h := gcT c118 h
                              refine hX_goM 2 (96) [some (.ref 0), some (.int x0), some (.int x1), some (.int x2), some (.int x3), some (.int x4), some (.ref 61), some (.ref 59)] [.int 0, .ref 0] rfl ?_
                              refine hX_call (r' := zR_111) rfl (ct_111_0 0 rfl) ?_
                              refine hX_go 0 (99) [some (.ref 0), some (.int x0), some (.int x1), some (.int x2), some (.int x3), some (.int x4), some (.ref 61), some (.ref 59)] [.int (v_111_0 0)] (hCm b d k s w ik ex pr wd sn qu tb ts (r0, rq) h0 h1 h2 h3 (f_111_0_fi 0 fi) R) rfl ?_
                              have h := Option.some.inj h; subst h
                              exact hX_end rfl rfl rfl
                            · skip
                              have h := gcF c118 h
                              refine hX_goM 3 (88) [some (.ref 0), some (.int x0), some (.int x1), some (.int x2), some (.int x3), some (.int x4), some (.ref 61), some (.ref 59)] [.int x4, .int x3, .ref 59] rfl ?_
                              refine hX_call (r' := zR_56) rfl (ct_56_59 x3 x4) ?_
                              refine hX_goM 1 (bif gCmp .ne (v_56_59 x3 x4 h2) 0 then 100 else 94) [some (.ref 0), some (.int x0), some (.int x1), some (.int x2), some (.int x3), some (.int x4), some (.ref 61), some (.ref 59)] [] rfl ?_
                              refine hX_if (gCmp .ne (v_56_59 x3 x4 h2) 0) (fun c119 => ?_) (fun c119 => ?_)
                              · skip
                                have h := gcT c119 h
                                refine hX_goM 7 (115) [some (.ref 0), some (.int x0), some (.int x1), some (.int x2), some (.int x3), some (.int x4), some (.ref 61), some (.ref 59)] [.int x4, .int x3, .ref 60, .int x1, .ref 62] rfl ?_
                                revert h; refine gCondR fun g120 h => ?_
                                refine hX_g (!decide (x1 < 0) && !decide (x3 < 0) && !decide (x4 < 0) && Nat.ble (Int32.toNatClampNeg x1 + Int32.toNatClampNeg x4) 40 && Nat.ble (Int32.toNatClampNeg x3 + Int32.toNatClampNeg x4) 40) 118 [some (.ref 0), some (.int x0), some (.int x1), some (.int x2), some (.int x3), some (.int x4), some (.ref 61), some (.ref 59)] [] (hCm b d k s w ik ex pr wd sn qu tb ts (r0, rq) h0 h1 (va_cpy h3.1 h2.1 (Int32.toNatClampNeg x1) (Int32.toNatClampNeg x3) (Int32.toNatClampNeg x4), h2.2) h3 fi R) rfl g120 ?_
                                refine hX_goM 1 (120) [some (.ref 0), some (.int x0), some (.int x1), some (.int x2), some (.int x3), some (.int x4), some (.ref 61), some (.ref 59)] [.int x4] rfl ?_
                                have h := Option.some.inj h; subst h
                                exact hX_end rfl rfl rfl
                              · skip
                                have h := gcF c119 h
                                refine hX_goM 2 (96) [some (.ref 0), some (.int x0), some (.int x1), some (.int x2), some (.int x3), some (.int x4), some (.ref 61), some (.ref 59)] [.int 0, .ref 0] rfl ?_
                                refine hX_call (r' := zR_111) rfl (ct_111_0 0 rfl) ?_
                                refine hX_go 0 (99) [some (.ref 0), some (.int x0), some (.int x1), some (.int x2), some (.int x3), some (.int x4), some (.ref 61), some (.ref 59)] [.int (v_111_0 0)] (hCm b d k s w ik ex pr wd sn qu tb ts (r0, rq) h0 h1 h2 h3 (f_111_0_fi 0 fi) R) rfl ?_
                                have h := Option.some.inj h; subst h
                                exact hX_end rfl rfl rfl
                          · skip
                            have h := gcF c117 h
                            refine hX_goM 2 (67) [some (.ref 0), some (.int x0), some (.int x1), some (.int x2), some (.int x3), some (.int x4), some (.ref 61), some (.ref 59)] [.int 2, .ref 0] rfl ?_
                            refine hX_call (r' := zR_111) rfl (ct_111_0 2 rfl) ?_
                            refine hX_go 0 (70) [some (.ref 0), some (.int x0), some (.int x1), some (.int x2), some (.int x3), some (.int x4), some (.ref 61), some (.ref 59)] [.int (v_111_0 2)] (hCm b d k s w ik ex pr wd sn qu tb ts (r0, rq) h0 h1 h2 h3 (f_111_0_fi 2 fi) R) rfl ?_
                            have h := Option.some.inj h; subst h
                            exact hX_end rfl rfl rfl
                        · skip
                          have h := gcF c116 h
                          refine hX_goM 2 (48) [some (.ref 0), some (.int x0), some (.int x1), some (.int x2), some (.int x3), some (.int x4), some (.ref 61), some (.ref 59)] [.int 5, .ref 0] rfl ?_
                          refine hX_call (r' := zR_111) rfl (ct_111_0 5 rfl) ?_
                          refine hX_go 0 (51) [some (.ref 0), some (.int x0), some (.int x1), some (.int x2), some (.int x3), some (.int x4), some (.ref 61), some (.ref 59)] [.int (v_111_0 5)] (hCm b d k s w ik ex pr wd sn qu tb ts (r0, rq) h0 h1 h2 h3 (f_111_0_fi 5 fi) R) rfl ?_
                          have h := Option.some.inj h; subst h
                          exact hX_end rfl rfl rfl
                    · skip
                      have h := gcF c114 h
                      refine hX_call (r' := zR_114) rfl (ct_114_0_5 x2 c98 c99 c100 c107 c114) ?_
                      refine hX_goM 6 (32) [some (.ref 0), some (.int x0), some (.int x1), some (.int x2), some (.int x3), some (.int x4), some (.ref 61), some (.ref 61)] [.ref 61] rfl ?_
                      refine hX_call (r' := zR_53) rfl (ct_53_61) ?_
                      refine hX_goM 1 (bif gCmp .ne (v_53_61 h3) 0 then 46 else 38) [some (.ref 0), some (.int x0), some (.int x1), some (.int x2), some (.int x3), some (.int x4), some (.ref 61), some (.ref 61)] [] rfl ?_
                      refine hX_if (gCmp .ne (v_53_61 h3) 0) (fun c121 => ?_) (fun c121 => ?_)
                      · skip
                        have h := gcT c121 h
                        refine hX_goM 2 (48) [some (.ref 0), some (.int x0), some (.int x1), some (.int x2), some (.int x3), some (.int x4), some (.ref 61), some (.ref 61)] [.int 5, .ref 0] rfl ?_
                        refine hX_call (r' := zR_111) rfl (ct_111_0 5 rfl) ?_
                        refine hX_go 0 (51) [some (.ref 0), some (.int x0), some (.int x1), some (.int x2), some (.int x3), some (.int x4), some (.ref 61), some (.ref 61)] [.int (v_111_0 5)] (hCm b d k s w ik ex pr wd sn qu tb ts (r0, rq) h0 h1 h2 h3 (f_111_0_fi 5 fi) R) rfl ?_
                        have h := Option.some.inj h; subst h
                        exact hX_end rfl rfl rfl
                      · skip
                        have h := gcF c121 h
                        refine hX_goM 1 (40) [some (.ref 0), some (.int x0), some (.int x1), some (.int x2), some (.int x3), some (.int x4), some (.ref 61), some (.ref 61)] [.ref 61] rfl ?_
                        refine hX_call (r' := zR_53) rfl (ct_53_61) ?_
                        refine hX_goM 1 (bif gCmp .eq (v_53_61 h3) 0 then 52 else 46) [some (.ref 0), some (.int x0), some (.int x1), some (.int x2), some (.int x3), some (.int x4), some (.ref 61), some (.ref 61)] [] rfl ?_
                        refine hX_if (gCmp .eq (v_53_61 h3) 0) (fun c122 => ?_) (fun c122 => ?_)
                        · skip
                          have h := gcT c122 h
                          refine hX_goM 5 (bif gCmp .eq h3.2.1 h3.2.1 then 71 else 65) [some (.ref 0), some (.int x0), some (.int x1), some (.int x2), some (.int x3), some (.int x4), some (.ref 61), some (.ref 61)] [] rfl ?_
                          refine hX_if (gCmp .eq h3.2.1 h3.2.1) (fun c123 => ?_) (fun c123 => ?_)
                          · skip
                            have h := gcT c123 h
                            refine hX_goM 3 (76) [some (.ref 0), some (.int x0), some (.int x1), some (.int x2), some (.int x3), some (.int x4), some (.ref 61), some (.ref 61)] [.int x4, .int x1, .ref 61] rfl ?_
                            refine hX_call (r' := zR_56) rfl (ct_56_61 x1 x4) ?_
                            refine hX_goM 1 (bif gCmp .eq (v_56_61 x1 x4 h3) 0 then 94 else 82) [some (.ref 0), some (.int x0), some (.int x1), some (.int x2), some (.int x3), some (.int x4), some (.ref 61), some (.ref 61)] [] rfl ?_
                            refine hX_if (gCmp .eq (v_56_61 x1 x4 h3) 0) (fun c124 => ?_) (fun c124 => ?_)
                            · skip
                              have h := gcT c124 h
                              refine hX_goM 2 (96) [some (.ref 0), some (.int x0), some (.int x1), some (.int x2), some (.int x3), some (.int x4), some (.ref 61), some (.ref 61)] [.int 0, .ref 0] rfl ?_
                              refine hX_call (r' := zR_111) rfl (ct_111_0 0 rfl) ?_
                              refine hX_go 0 (99) [some (.ref 0), some (.int x0), some (.int x1), some (.int x2), some (.int x3), some (.int x4), some (.ref 61), some (.ref 61)] [.int (v_111_0 0)] (hCm b d k s w ik ex pr wd sn qu tb ts (r0, rq) h0 h1 h2 h3 (f_111_0_fi 0 fi) R) rfl ?_
                              have h := Option.some.inj h; subst h
                              exact hX_end rfl rfl rfl
                            · skip
                              have h := gcF c124 h
                              refine hX_goM 3 (88) [some (.ref 0), some (.int x0), some (.int x1), some (.int x2), some (.int x3), some (.int x4), some (.ref 61), some (.ref 61)] [.int x4, .int x3, .ref 61] rfl ?_
                              refine hX_call (r' := zR_56) rfl (ct_56_61 x3 x4) ?_
                              refine hX_goM 1 (bif gCmp .ne (v_56_61 x3 x4 h3) 0 then 100 else 94) [some (.ref 0), some (.int x0), some (.int x1), some (.int x2), some (.int x3), some (.int x4), some (.ref 61), some (.ref 61)] [] rfl ?_
                              refine hX_if (gCmp .ne (v_56_61 x3 x4 h3) 0) (fun c125 => ?_) (fun c125 => ?_)
                              · skip
                                have h := gcT c125 h
                                refine hX_goM 7 (115) [some (.ref 0), some (.int x0), some (.int x1), some (.int x2), some (.int x3), some (.int x4), some (.ref 61), some (.ref 61)] [.int x4, .int x3, .ref 62, .int x1, .ref 62] rfl ?_
                                revert h; refine gCondR fun g126 h => ?_
                                refine hX_g (!decide (x1 < 0) && !decide (x3 < 0) && !decide (x4 < 0) && Nat.ble (Int32.toNatClampNeg x1 + Int32.toNatClampNeg x4) 40 && Nat.ble (Int32.toNatClampNeg x3 + Int32.toNatClampNeg x4) 40) 118 [some (.ref 0), some (.int x0), some (.int x1), some (.int x2), some (.int x3), some (.int x4), some (.ref 61), some (.ref 61)] [] (hCm b d k s w ik ex pr wd sn qu tb ts (r0, rq) h0 h1 h2 (va_cpy h3.1 h3.1 (Int32.toNatClampNeg x1) (Int32.toNatClampNeg x3) (Int32.toNatClampNeg x4), h3.2) fi R) rfl g126 ?_
                                refine hX_goM 1 (120) [some (.ref 0), some (.int x0), some (.int x1), some (.int x2), some (.int x3), some (.int x4), some (.ref 61), some (.ref 61)] [.int x4] rfl ?_
                                have h := Option.some.inj h; subst h
                                exact hX_end rfl rfl rfl
                              · skip
                                have h := gcF c125 h
                                refine hX_goM 2 (96) [some (.ref 0), some (.int x0), some (.int x1), some (.int x2), some (.int x3), some (.int x4), some (.ref 61), some (.ref 61)] [.int 0, .ref 0] rfl ?_
                                refine hX_call (r' := zR_111) rfl (ct_111_0 0 rfl) ?_
                                refine hX_go 0 (99) [some (.ref 0), some (.int x0), some (.int x1), some (.int x2), some (.int x3), some (.int x4), some (.ref 61), some (.ref 61)] [.int (v_111_0 0)] (hCm b d k s w ik ex pr wd sn qu tb ts (r0, rq) h0 h1 h2 h3 (f_111_0_fi 0 fi) R) rfl ?_
                                have h := Option.some.inj h; subst h
                                exact hX_end rfl rfl rfl
                          · skip
                            have h := gcF c123 h
                            refine hX_goM 2 (67) [some (.ref 0), some (.int x0), some (.int x1), some (.int x2), some (.int x3), some (.int x4), some (.ref 61), some (.ref 61)] [.int 2, .ref 0] rfl ?_
                            refine hX_call (r' := zR_111) rfl (ct_111_0 2 rfl) ?_
                            refine hX_go 0 (70) [some (.ref 0), some (.int x0), some (.int x1), some (.int x2), some (.int x3), some (.int x4), some (.ref 61), some (.ref 61)] [.int (v_111_0 2)] (hCm b d k s w ik ex pr wd sn qu tb ts (r0, rq) h0 h1 h2 h3 (f_111_0_fi 2 fi) R) rfl ?_
                            have h := Option.some.inj h; subst h
                            exact hX_end rfl rfl rfl
                        · skip
                          have h := gcF c122 h
                          refine hX_goM 2 (48) [some (.ref 0), some (.int x0), some (.int x1), some (.int x2), some (.int x3), some (.int x4), some (.ref 61), some (.ref 61)] [.int 5, .ref 0] rfl ?_
                          refine hX_call (r' := zR_111) rfl (ct_111_0 5 rfl) ?_
                          refine hX_go 0 (51) [some (.ref 0), some (.int x0), some (.int x1), some (.int x2), some (.int x3), some (.int x4), some (.ref 61), some (.ref 61)] [.int (v_111_0 5)] (hCm b d k s w ik ex pr wd sn qu tb ts (r0, rq) h0 h1 h2 h3 (f_111_0_fi 5 fi) R) rfl ?_
                          have h := Option.some.inj h; subst h
                          exact hX_end rfl rfl rfl
              · skip
                have h := gcF c99 h
                refine hX_call (r' := zR_114) rfl (ct_114_0_1 x2 c98 c99) ?_
                refine hX_goM 7 (26) [some (.ref 0), some (.int x0), some (.int x1), some (.int x2), some (.int x3), some (.int x4), some (.ref 61), some (.null)] [.int 0, .ref 0] rfl ?_
                refine hX_call (r' := zR_111) rfl (ct_111_0 0 rfl) ?_
                refine hX_go 0 (29) [some (.ref 0), some (.int x0), some (.int x1), some (.int x2), some (.int x3), some (.int x4), some (.ref 61), some (.null)] [.int (v_111_0 0)] (hCm b d k s w ik ex pr wd sn qu tb ts (r0, rq) h0 h1 h2 h3 (f_111_0_fi 0 fi) R) rfl ?_
                have h := Option.some.inj h; subst h
                exact hX_end rfl rfl rfl
    · skip
      have h := gcF c7 h
      refine hX_call (r' := zR_114) rfl (ct_114_0_1 x0 c1 c7) ?_
      refine hX_goM 3 (9) [some (.ref 0), some (.int x0), some (.int x1), some (.int x2), some (.int x3), some (.int x4), some (.null), none] [.int x2, .ref 0] rfl ?_
      refine hX_bif (gCmp .lt x2 0) (fun c127 => ?_) (fun c127 => ?_)
      · skip
        have h := gcT c127 h
        refine hX_call (r' := zR_114) rfl (ct_114_0_0 x2 c127) ?_
        refine hX_goM 5 (26) [some (.ref 0), some (.int x0), some (.int x1), some (.int x2), some (.int x3), some (.int x4), some (.null), some (.null)] [.int 0, .ref 0] rfl ?_
        refine hX_call (r' := zR_111) rfl (ct_111_0 0 rfl) ?_
        refine hX_go 0 (29) [some (.ref 0), some (.int x0), some (.int x1), some (.int x2), some (.int x3), some (.int x4), some (.null), some (.null)] [.int (v_111_0 0)] (hCm b d k s w ik ex pr wd sn qu tb ts (r0, rq) h0 h1 h2 h3 (f_111_0_fi 0 fi) R) rfl ?_
        have h := Option.some.inj h; subst h
        exact hX_end rfl rfl rfl
      · skip
        have h := gcF c127 h
        refine hX_bif (gCmp .lt x2 4) (fun c128 => ?_) (fun c128 => ?_)
        · skip
          have h := gcT c128 h
          refine hX_bif (hEq x2 0) (fun c129 => ?_) (fun c129 => ?_)
          · skip
            have h := gcT c129 h
            refine hX_call (r' := zR_114) rfl (ct_114_0_2 x2 c127 c128 c129) ?_
            refine hX_goM 5 (26) [some (.ref 0), some (.int x0), some (.int x1), some (.int x2), some (.int x3), some (.int x4), some (.null), some (.ref 55)] [.int 0, .ref 0] rfl ?_
            refine hX_call (r' := zR_111) rfl (ct_111_0 0 rfl) ?_
            refine hX_go 0 (29) [some (.ref 0), some (.int x0), some (.int x1), some (.int x2), some (.int x3), some (.int x4), some (.null), some (.ref 55)] [.int (v_111_0 0)] (hCm b d k s w ik ex pr wd sn qu tb ts (r0, rq) h0 h1 h2 h3 (f_111_0_fi 0 fi) R) rfl ?_
            have h := Option.some.inj h; subst h
            exact hX_end rfl rfl rfl
          · skip
            have h := gcF c129 h
            refine hX_bif (hEq x2 1) (fun c130 => ?_) (fun c130 => ?_)
            · skip
              have h := gcT c130 h
              refine hX_call (r' := zR_114) rfl (ct_114_0_3 x2 c127 c128 c129 c130) ?_
              refine hX_goM 5 (26) [some (.ref 0), some (.int x0), some (.int x1), some (.int x2), some (.int x3), some (.int x4), some (.null), some (.ref 57)] [.int 0, .ref 0] rfl ?_
              refine hX_call (r' := zR_111) rfl (ct_111_0 0 rfl) ?_
              refine hX_go 0 (29) [some (.ref 0), some (.int x0), some (.int x1), some (.int x2), some (.int x3), some (.int x4), some (.null), some (.ref 57)] [.int (v_111_0 0)] (hCm b d k s w ik ex pr wd sn qu tb ts (r0, rq) h0 h1 h2 h3 (f_111_0_fi 0 fi) R) rfl ?_
              have h := Option.some.inj h; subst h
              exact hX_end rfl rfl rfl
            · skip
              have h := gcF c130 h
              refine hX_bif (hEq x2 2) (fun c131 => ?_) (fun c131 => ?_)
              · skip
                have h := gcT c131 h
                refine hX_call (r' := zR_114) rfl (ct_114_0_4 x2 c127 c128 c129 c130 c131) ?_
                refine hX_goM 5 (26) [some (.ref 0), some (.int x0), some (.int x1), some (.int x2), some (.int x3), some (.int x4), some (.null), some (.ref 59)] [.int 0, .ref 0] rfl ?_
                refine hX_call (r' := zR_111) rfl (ct_111_0 0 rfl) ?_
                refine hX_go 0 (29) [some (.ref 0), some (.int x0), some (.int x1), some (.int x2), some (.int x3), some (.int x4), some (.null), some (.ref 59)] [.int (v_111_0 0)] (hCm b d k s w ik ex pr wd sn qu tb ts (r0, rq) h0 h1 h2 h3 (f_111_0_fi 0 fi) R) rfl ?_
                have h := Option.some.inj h; subst h
                exact hX_end rfl rfl rfl
              · skip
                have h := gcF c131 h
                refine hX_call (r' := zR_114) rfl (ct_114_0_5 x2 c127 c128 c129 c130 c131) ?_
                refine hX_goM 5 (26) [some (.ref 0), some (.int x0), some (.int x1), some (.int x2), some (.int x3), some (.int x4), some (.null), some (.ref 61)] [.int 0, .ref 0] rfl ?_
                refine hX_call (r' := zR_111) rfl (ct_111_0 0 rfl) ?_
                refine hX_go 0 (29) [some (.ref 0), some (.int x0), some (.int x1), some (.int x2), some (.int x3), some (.int x4), some (.null), some (.ref 61)] [.int (v_111_0 0)] (hCm b d k s w ik ex pr wd sn qu tb ts (r0, rq) h0 h1 h2 h3 (f_111_0_fi 0 fi) R) rfl ?_
                have h := Option.some.inj h; subst h
                exact hX_end rfl rfl rfl
        · skip
          have h := gcF c128 h
          refine hX_call (r' := zR_114) rfl (ct_114_0_1 x2 c127 c128) ?_
          refine hX_goM 5 (26) [some (.ref 0), some (.int x0), some (.int x1), some (.int x2), some (.int x3), some (.int x4), some (.null), some (.null)] [.int 0, .ref 0] rfl ?_
          refine hX_call (r' := zR_111) rfl (ct_111_0 0 rfl) ?_
          refine hX_go 0 (29) [some (.ref 0), some (.int x0), some (.int x1), some (.int x2), some (.int x3), some (.int x4), some (.null), some (.null)] [.int (v_111_0 0)] (hCm b d k s w ik ex pr wd sn qu tb ts (r0, rq) h0 h1 h2 h3 (f_111_0_fi 0 fi) R) rfl ?_
          have h := Option.some.inj h; subst h
          exact hX_end rfl rfl rfl

/-- UpOneSide.load: the loop at 31 -/
def lp_104_0_31_55 (N : Nat) (h0 : hSt) : Nat → Int32 → hB → Option (Int32 × hB)
  | 0, _, _ => none
  | n + 1, y3, b =>
    (bif gCmp .ge y3 24 then
      some (y3, b)
    else
      (bif gCmp .ge y3 h0.2.2 then
        some (y3, b)
      else
        (bif gIn y3 40 then (bif gCmp .eq (v_112 (h0.1 (Int32.toNatClampNeg y3)) 0 60) 0 then
          some (y3, b)
        else
          (bif gIn y3 40 then (bif gIn y3 24 then lp_104_0_31_55 N h0 n (y3 + 1) (b.1, b.2.1, b.2.2.1, b.2.2.2.1, b.2.2.2.2.1, b.2.2.2.2.2.1, b.2.2.2.2.2.2.1, b.2.2.2.2.2.2.2.1, b.2.2.2.2.2.2.2.2.1, b.2.2.2.2.2.2.2.2.2.1, b.2.2.2.2.2.2.2.2.2.2.1, upd b.2.2.2.2.2.2.2.2.2.2.2.1 (Int32.toNatClampNeg y3) (h0.1 (Int32.toNatClampNeg y3)), b.2.2.2.2.2.2.2.2.2.2.2.2) else none) else none)) else none)))
set_option maxRecDepth 20000 in
set_option maxHeartbeats 4000000 in
theorem lt_104_0_31_55 {LL : Nat} {xs : Nat → Int32} {D N : Nat} {d k s w : hB} {ik ex pr wd : Int32} {sn : Nat → Int64} {qu tb : Nat → Int32} {ts : Int32} {r0 : Value} {rq : hRq} {h0 h1 h2 h3 : hSt} {fi : Nat → Int32} {R : List gE} {y1 : Int32} {v : Option Value} {M' : List gE} : ∀ (n : Nat) (y3 : Int32) (b : hB) (q : Int32 × hB), lp_104_0_31_55 N h0 n y3 b = some q → (kk : hX (gO LL xs) (D + 1) zR_104 81 [some (.ref 0), some (.int y1), some (.ref 55), some (.int q.1)] [] (hCm q.2 d k s w ik ex pr wd sn qu tb ts (r0, rq) h0 h1 h2 h3 fi R) v M') → hX (gO LL xs) (D + 1) zR_104 31 [some (.ref 0), some (.int y1), some (.ref 55), some (.int y3)] [] (hCm b d k s w ik ex pr wd sn qu tb ts (r0, rq) h0 h1 h2 h3 fi R) v M' := by
  intro n
  induction n with
  | zero => intro y3 b q h; cases h
  | succ n ih =>
    intro y3 b q h kk
    rw [lp_104_0_31_55] at h
    refine hX_go 3 (bif gCmp .ge y3 24 then 81 else 37) [some (.ref 0), some (.int y1), some (.ref 55), some (.int y3)] [] (hCm b d k s w ik ex pr wd sn qu tb ts (r0, rq) h0 h1 h2 h3 fi R) rfl ?_
    refine hX_if (gCmp .ge y3 24) (fun c1 => ?_) (fun c1 => ?_)
    · skip
      have h := gcT c1 h
      have h := Option.some.inj h; subst h
      exact kk
    · skip
      have h := gcF c1 h
      refine hX_goM 4 (bif gCmp .ge y3 h0.2.2 then 81 else 45) [some (.ref 0), some (.int y1), some (.ref 55), some (.int y3)] [] rfl ?_
      refine hX_if (gCmp .ge y3 h0.2.2) (fun c2 => ?_) (fun c2 => ?_)
      · skip
        have h := gcT c2 h
        have h := Option.some.inj h; subst h
        exact kk
      · skip
        have h := gcF c2 h
        refine hX_goM 3 (50) [some (.ref 0), some (.int y1), some (.ref 55), some (.int y3)] [.int y3, .ref 56] rfl ?_
        revert h; refine gCondR fun g3 h => ?_
        refine hX_gM (gIn y3 40) 51 [some (.ref 0), some (.int y1), some (.ref 55), some (.int y3)] [.int (h0.1 (Int32.toNatClampNeg y3))] rfl g3 ?_
        refine hX_goM 2 (54) [some (.ref 0), some (.int y1), some (.ref 55), some (.int y3)] [.int 60, .int 0, .int (h0.1 (Int32.toNatClampNeg y3))] rfl ?_
        refine hX_call (r' := zR_112) rfl (ct_112 (h0.1 (Int32.toNatClampNeg y3)) 0 60) ?_
        refine hX_goM 1 (bif gCmp .eq (v_112 (h0.1 (Int32.toNatClampNeg y3)) 0 60) 0 then 81 else 60) [some (.ref 0), some (.int y1), some (.ref 55), some (.int y3)] [] rfl ?_
        refine hX_if (gCmp .eq (v_112 (h0.1 (Int32.toNatClampNeg y3)) 0 60) 0) (fun c4 => ?_) (fun c4 => ?_)
        · skip
          have h := gcT c4 h
          have h := Option.some.inj h; subst h
          exact kk
        · skip
          have h := gcF c4 h
          refine hX_goM 7 (73) [some (.ref 0), some (.int y1), some (.ref 55), some (.int y3)] [.int y3, .ref 56, .int y3, .ref 8] rfl ?_
          revert h; refine gCondR fun g5 h => ?_
          refine hX_gM (gIn y3 40) 74 [some (.ref 0), some (.int y1), some (.ref 55), some (.int y3)] [.int (h0.1 (Int32.toNatClampNeg y3)), .int y3, .ref 8] rfl g5 ?_
          revert h; refine gCondR fun g6 h => ?_
          refine hX_g (gIn y3 24) 75 [some (.ref 0), some (.int y1), some (.ref 55), some (.int y3)] [] (hCm (b.1, b.2.1, b.2.2.1, b.2.2.2.1, b.2.2.2.2.1, b.2.2.2.2.2.1, b.2.2.2.2.2.2.1, b.2.2.2.2.2.2.2.1, b.2.2.2.2.2.2.2.2.1, b.2.2.2.2.2.2.2.2.2.1, b.2.2.2.2.2.2.2.2.2.2.1, upd b.2.2.2.2.2.2.2.2.2.2.2.1 (Int32.toNatClampNeg y3) (h0.1 (Int32.toNatClampNeg y3)), b.2.2.2.2.2.2.2.2.2.2.2.2) d k s w ik ex pr wd sn qu tb ts (r0, rq) h0 h1 h2 h3 fi R) rfl g6 ?_
          refine hX_goM 2 (31) [some (.ref 0), some (.int y1), some (.ref 55), some (.int (y3 + 1))] [] rfl ?_
          exact ih (y3 + 1) (b.1, b.2.1, b.2.2.1, b.2.2.2.1, b.2.2.2.2.1, b.2.2.2.2.2.1, b.2.2.2.2.2.2.1, b.2.2.2.2.2.2.2.1, b.2.2.2.2.2.2.2.2.1, b.2.2.2.2.2.2.2.2.2.1, b.2.2.2.2.2.2.2.2.2.2.1, upd b.2.2.2.2.2.2.2.2.2.2.2.1 (Int32.toNatClampNeg y3) (h0.1 (Int32.toNatClampNeg y3)), b.2.2.2.2.2.2.2.2.2.2.2.2) q h kk

/-- UpOneSide.load: the loop at 31 -/
def lp_104_0_31_57 (N : Nat) (h1 : hSt) : Nat → Int32 → hB → Option (Int32 × hB)
  | 0, _, _ => none
  | n + 1, y3, b =>
    (bif gCmp .ge y3 24 then
      some (y3, b)
    else
      (bif gCmp .ge y3 h1.2.2 then
        some (y3, b)
      else
        (bif gIn y3 40 then (bif gCmp .eq (v_112 (h1.1 (Int32.toNatClampNeg y3)) 0 60) 0 then
          some (y3, b)
        else
          (bif gIn y3 40 then (bif gIn y3 24 then lp_104_0_31_57 N h1 n (y3 + 1) (b.1, b.2.1, b.2.2.1, b.2.2.2.1, b.2.2.2.2.1, b.2.2.2.2.2.1, b.2.2.2.2.2.2.1, b.2.2.2.2.2.2.2.1, b.2.2.2.2.2.2.2.2.1, b.2.2.2.2.2.2.2.2.2.1, b.2.2.2.2.2.2.2.2.2.2.1, upd b.2.2.2.2.2.2.2.2.2.2.2.1 (Int32.toNatClampNeg y3) (h1.1 (Int32.toNatClampNeg y3)), b.2.2.2.2.2.2.2.2.2.2.2.2) else none) else none)) else none)))
set_option maxRecDepth 20000 in
set_option maxHeartbeats 4000000 in
theorem lt_104_0_31_57 {LL : Nat} {xs : Nat → Int32} {D N : Nat} {d k s w : hB} {ik ex pr wd : Int32} {sn : Nat → Int64} {qu tb : Nat → Int32} {ts : Int32} {r0 : Value} {rq : hRq} {h0 h1 h2 h3 : hSt} {fi : Nat → Int32} {R : List gE} {y1 : Int32} {v : Option Value} {M' : List gE} : ∀ (n : Nat) (y3 : Int32) (b : hB) (q : Int32 × hB), lp_104_0_31_57 N h1 n y3 b = some q → (kk : hX (gO LL xs) (D + 1) zR_104 81 [some (.ref 0), some (.int y1), some (.ref 57), some (.int q.1)] [] (hCm q.2 d k s w ik ex pr wd sn qu tb ts (r0, rq) h0 h1 h2 h3 fi R) v M') → hX (gO LL xs) (D + 1) zR_104 31 [some (.ref 0), some (.int y1), some (.ref 57), some (.int y3)] [] (hCm b d k s w ik ex pr wd sn qu tb ts (r0, rq) h0 h1 h2 h3 fi R) v M' := by
  intro n
  induction n with
  | zero => intro y3 b q h; cases h
  | succ n ih =>
    intro y3 b q h kk
    rw [lp_104_0_31_57] at h
    refine hX_go 3 (bif gCmp .ge y3 24 then 81 else 37) [some (.ref 0), some (.int y1), some (.ref 57), some (.int y3)] [] (hCm b d k s w ik ex pr wd sn qu tb ts (r0, rq) h0 h1 h2 h3 fi R) rfl ?_
    refine hX_if (gCmp .ge y3 24) (fun c1 => ?_) (fun c1 => ?_)
    · skip
      have h := gcT c1 h
      have h := Option.some.inj h; subst h
      exact kk
    · skip
      have h := gcF c1 h
      refine hX_goM 4 (bif gCmp .ge y3 h1.2.2 then 81 else 45) [some (.ref 0), some (.int y1), some (.ref 57), some (.int y3)] [] rfl ?_
      refine hX_if (gCmp .ge y3 h1.2.2) (fun c2 => ?_) (fun c2 => ?_)
      · skip
        have h := gcT c2 h
        have h := Option.some.inj h; subst h
        exact kk
      · skip
        have h := gcF c2 h
        refine hX_goM 3 (50) [some (.ref 0), some (.int y1), some (.ref 57), some (.int y3)] [.int y3, .ref 58] rfl ?_
        revert h; refine gCondR fun g3 h => ?_
        refine hX_gM (gIn y3 40) 51 [some (.ref 0), some (.int y1), some (.ref 57), some (.int y3)] [.int (h1.1 (Int32.toNatClampNeg y3))] rfl g3 ?_
        refine hX_goM 2 (54) [some (.ref 0), some (.int y1), some (.ref 57), some (.int y3)] [.int 60, .int 0, .int (h1.1 (Int32.toNatClampNeg y3))] rfl ?_
        refine hX_call (r' := zR_112) rfl (ct_112 (h1.1 (Int32.toNatClampNeg y3)) 0 60) ?_
        refine hX_goM 1 (bif gCmp .eq (v_112 (h1.1 (Int32.toNatClampNeg y3)) 0 60) 0 then 81 else 60) [some (.ref 0), some (.int y1), some (.ref 57), some (.int y3)] [] rfl ?_
        refine hX_if (gCmp .eq (v_112 (h1.1 (Int32.toNatClampNeg y3)) 0 60) 0) (fun c4 => ?_) (fun c4 => ?_)
        · skip
          have h := gcT c4 h
          have h := Option.some.inj h; subst h
          exact kk
        · skip
          have h := gcF c4 h
          refine hX_goM 7 (73) [some (.ref 0), some (.int y1), some (.ref 57), some (.int y3)] [.int y3, .ref 58, .int y3, .ref 8] rfl ?_
          revert h; refine gCondR fun g5 h => ?_
          refine hX_gM (gIn y3 40) 74 [some (.ref 0), some (.int y1), some (.ref 57), some (.int y3)] [.int (h1.1 (Int32.toNatClampNeg y3)), .int y3, .ref 8] rfl g5 ?_
          revert h; refine gCondR fun g6 h => ?_
          refine hX_g (gIn y3 24) 75 [some (.ref 0), some (.int y1), some (.ref 57), some (.int y3)] [] (hCm (b.1, b.2.1, b.2.2.1, b.2.2.2.1, b.2.2.2.2.1, b.2.2.2.2.2.1, b.2.2.2.2.2.2.1, b.2.2.2.2.2.2.2.1, b.2.2.2.2.2.2.2.2.1, b.2.2.2.2.2.2.2.2.2.1, b.2.2.2.2.2.2.2.2.2.2.1, upd b.2.2.2.2.2.2.2.2.2.2.2.1 (Int32.toNatClampNeg y3) (h1.1 (Int32.toNatClampNeg y3)), b.2.2.2.2.2.2.2.2.2.2.2.2) d k s w ik ex pr wd sn qu tb ts (r0, rq) h0 h1 h2 h3 fi R) rfl g6 ?_
          refine hX_goM 2 (31) [some (.ref 0), some (.int y1), some (.ref 57), some (.int (y3 + 1))] [] rfl ?_
          exact ih (y3 + 1) (b.1, b.2.1, b.2.2.1, b.2.2.2.1, b.2.2.2.2.1, b.2.2.2.2.2.1, b.2.2.2.2.2.2.1, b.2.2.2.2.2.2.2.1, b.2.2.2.2.2.2.2.2.1, b.2.2.2.2.2.2.2.2.2.1, b.2.2.2.2.2.2.2.2.2.2.1, upd b.2.2.2.2.2.2.2.2.2.2.2.1 (Int32.toNatClampNeg y3) (h1.1 (Int32.toNatClampNeg y3)), b.2.2.2.2.2.2.2.2.2.2.2.2) q h kk

/-- UpOneSide.load: the loop at 31 -/
def lp_104_0_31_59 (N : Nat) (h2 : hSt) : Nat → Int32 → hB → Option (Int32 × hB)
  | 0, _, _ => none
  | n + 1, y3, b =>
    (bif gCmp .ge y3 24 then
      some (y3, b)
    else
      (bif gCmp .ge y3 h2.2.2 then
        some (y3, b)
      else
        (bif gIn y3 40 then (bif gCmp .eq (v_112 (h2.1 (Int32.toNatClampNeg y3)) 0 60) 0 then
          some (y3, b)
        else
          (bif gIn y3 40 then (bif gIn y3 24 then lp_104_0_31_59 N h2 n (y3 + 1) (b.1, b.2.1, b.2.2.1, b.2.2.2.1, b.2.2.2.2.1, b.2.2.2.2.2.1, b.2.2.2.2.2.2.1, b.2.2.2.2.2.2.2.1, b.2.2.2.2.2.2.2.2.1, b.2.2.2.2.2.2.2.2.2.1, b.2.2.2.2.2.2.2.2.2.2.1, upd b.2.2.2.2.2.2.2.2.2.2.2.1 (Int32.toNatClampNeg y3) (h2.1 (Int32.toNatClampNeg y3)), b.2.2.2.2.2.2.2.2.2.2.2.2) else none) else none)) else none)))
set_option maxRecDepth 20000 in
set_option maxHeartbeats 4000000 in
theorem lt_104_0_31_59 {LL : Nat} {xs : Nat → Int32} {D N : Nat} {d k s w : hB} {ik ex pr wd : Int32} {sn : Nat → Int64} {qu tb : Nat → Int32} {ts : Int32} {r0 : Value} {rq : hRq} {h0 h1 h2 h3 : hSt} {fi : Nat → Int32} {R : List gE} {y1 : Int32} {v : Option Value} {M' : List gE} : ∀ (n : Nat) (y3 : Int32) (b : hB) (q : Int32 × hB), lp_104_0_31_59 N h2 n y3 b = some q → (kk : hX (gO LL xs) (D + 1) zR_104 81 [some (.ref 0), some (.int y1), some (.ref 59), some (.int q.1)] [] (hCm q.2 d k s w ik ex pr wd sn qu tb ts (r0, rq) h0 h1 h2 h3 fi R) v M') → hX (gO LL xs) (D + 1) zR_104 31 [some (.ref 0), some (.int y1), some (.ref 59), some (.int y3)] [] (hCm b d k s w ik ex pr wd sn qu tb ts (r0, rq) h0 h1 h2 h3 fi R) v M' := by
  intro n
  induction n with
  | zero => intro y3 b q h; cases h
  | succ n ih =>
    intro y3 b q h kk
    rw [lp_104_0_31_59] at h
    refine hX_go 3 (bif gCmp .ge y3 24 then 81 else 37) [some (.ref 0), some (.int y1), some (.ref 59), some (.int y3)] [] (hCm b d k s w ik ex pr wd sn qu tb ts (r0, rq) h0 h1 h2 h3 fi R) rfl ?_
    refine hX_if (gCmp .ge y3 24) (fun c1 => ?_) (fun c1 => ?_)
    · skip
      have h := gcT c1 h
      have h := Option.some.inj h; subst h
      exact kk
    · skip
      have h := gcF c1 h
      refine hX_goM 4 (bif gCmp .ge y3 h2.2.2 then 81 else 45) [some (.ref 0), some (.int y1), some (.ref 59), some (.int y3)] [] rfl ?_
      refine hX_if (gCmp .ge y3 h2.2.2) (fun c2 => ?_) (fun c2 => ?_)
      · skip
        have h := gcT c2 h
        have h := Option.some.inj h; subst h
        exact kk
      · skip
        have h := gcF c2 h
        refine hX_goM 3 (50) [some (.ref 0), some (.int y1), some (.ref 59), some (.int y3)] [.int y3, .ref 60] rfl ?_
        revert h; refine gCondR fun g3 h => ?_
        refine hX_gM (gIn y3 40) 51 [some (.ref 0), some (.int y1), some (.ref 59), some (.int y3)] [.int (h2.1 (Int32.toNatClampNeg y3))] rfl g3 ?_
        refine hX_goM 2 (54) [some (.ref 0), some (.int y1), some (.ref 59), some (.int y3)] [.int 60, .int 0, .int (h2.1 (Int32.toNatClampNeg y3))] rfl ?_
        refine hX_call (r' := zR_112) rfl (ct_112 (h2.1 (Int32.toNatClampNeg y3)) 0 60) ?_
        refine hX_goM 1 (bif gCmp .eq (v_112 (h2.1 (Int32.toNatClampNeg y3)) 0 60) 0 then 81 else 60) [some (.ref 0), some (.int y1), some (.ref 59), some (.int y3)] [] rfl ?_
        refine hX_if (gCmp .eq (v_112 (h2.1 (Int32.toNatClampNeg y3)) 0 60) 0) (fun c4 => ?_) (fun c4 => ?_)
        · skip
          have h := gcT c4 h
          have h := Option.some.inj h; subst h
          exact kk
        · skip
          have h := gcF c4 h
          refine hX_goM 7 (73) [some (.ref 0), some (.int y1), some (.ref 59), some (.int y3)] [.int y3, .ref 60, .int y3, .ref 8] rfl ?_
          revert h; refine gCondR fun g5 h => ?_
          refine hX_gM (gIn y3 40) 74 [some (.ref 0), some (.int y1), some (.ref 59), some (.int y3)] [.int (h2.1 (Int32.toNatClampNeg y3)), .int y3, .ref 8] rfl g5 ?_
          revert h; refine gCondR fun g6 h => ?_
          refine hX_g (gIn y3 24) 75 [some (.ref 0), some (.int y1), some (.ref 59), some (.int y3)] [] (hCm (b.1, b.2.1, b.2.2.1, b.2.2.2.1, b.2.2.2.2.1, b.2.2.2.2.2.1, b.2.2.2.2.2.2.1, b.2.2.2.2.2.2.2.1, b.2.2.2.2.2.2.2.2.1, b.2.2.2.2.2.2.2.2.2.1, b.2.2.2.2.2.2.2.2.2.2.1, upd b.2.2.2.2.2.2.2.2.2.2.2.1 (Int32.toNatClampNeg y3) (h2.1 (Int32.toNatClampNeg y3)), b.2.2.2.2.2.2.2.2.2.2.2.2) d k s w ik ex pr wd sn qu tb ts (r0, rq) h0 h1 h2 h3 fi R) rfl g6 ?_
          refine hX_goM 2 (31) [some (.ref 0), some (.int y1), some (.ref 59), some (.int (y3 + 1))] [] rfl ?_
          exact ih (y3 + 1) (b.1, b.2.1, b.2.2.1, b.2.2.2.1, b.2.2.2.2.1, b.2.2.2.2.2.1, b.2.2.2.2.2.2.1, b.2.2.2.2.2.2.2.1, b.2.2.2.2.2.2.2.2.1, b.2.2.2.2.2.2.2.2.2.1, b.2.2.2.2.2.2.2.2.2.2.1, upd b.2.2.2.2.2.2.2.2.2.2.2.1 (Int32.toNatClampNeg y3) (h2.1 (Int32.toNatClampNeg y3)), b.2.2.2.2.2.2.2.2.2.2.2.2) q h kk

/-- UpOneSide.load: the loop at 31 -/
def lp_104_0_31_61 (N : Nat) (h3 : hSt) : Nat → Int32 → hB → Option (Int32 × hB)
  | 0, _, _ => none
  | n + 1, y3, b =>
    (bif gCmp .ge y3 24 then
      some (y3, b)
    else
      (bif gCmp .ge y3 h3.2.2 then
        some (y3, b)
      else
        (bif gIn y3 40 then (bif gCmp .eq (v_112 (h3.1 (Int32.toNatClampNeg y3)) 0 60) 0 then
          some (y3, b)
        else
          (bif gIn y3 40 then (bif gIn y3 24 then lp_104_0_31_61 N h3 n (y3 + 1) (b.1, b.2.1, b.2.2.1, b.2.2.2.1, b.2.2.2.2.1, b.2.2.2.2.2.1, b.2.2.2.2.2.2.1, b.2.2.2.2.2.2.2.1, b.2.2.2.2.2.2.2.2.1, b.2.2.2.2.2.2.2.2.2.1, b.2.2.2.2.2.2.2.2.2.2.1, upd b.2.2.2.2.2.2.2.2.2.2.2.1 (Int32.toNatClampNeg y3) (h3.1 (Int32.toNatClampNeg y3)), b.2.2.2.2.2.2.2.2.2.2.2.2) else none) else none)) else none)))
set_option maxRecDepth 20000 in
set_option maxHeartbeats 4000000 in
theorem lt_104_0_31_61 {LL : Nat} {xs : Nat → Int32} {D N : Nat} {d k s w : hB} {ik ex pr wd : Int32} {sn : Nat → Int64} {qu tb : Nat → Int32} {ts : Int32} {r0 : Value} {rq : hRq} {h0 h1 h2 h3 : hSt} {fi : Nat → Int32} {R : List gE} {y1 : Int32} {v : Option Value} {M' : List gE} : ∀ (n : Nat) (y3 : Int32) (b : hB) (q : Int32 × hB), lp_104_0_31_61 N h3 n y3 b = some q → (kk : hX (gO LL xs) (D + 1) zR_104 81 [some (.ref 0), some (.int y1), some (.ref 61), some (.int q.1)] [] (hCm q.2 d k s w ik ex pr wd sn qu tb ts (r0, rq) h0 h1 h2 h3 fi R) v M') → hX (gO LL xs) (D + 1) zR_104 31 [some (.ref 0), some (.int y1), some (.ref 61), some (.int y3)] [] (hCm b d k s w ik ex pr wd sn qu tb ts (r0, rq) h0 h1 h2 h3 fi R) v M' := by
  intro n
  induction n with
  | zero => intro y3 b q h; cases h
  | succ n ih =>
    intro y3 b q h kk
    rw [lp_104_0_31_61] at h
    refine hX_go 3 (bif gCmp .ge y3 24 then 81 else 37) [some (.ref 0), some (.int y1), some (.ref 61), some (.int y3)] [] (hCm b d k s w ik ex pr wd sn qu tb ts (r0, rq) h0 h1 h2 h3 fi R) rfl ?_
    refine hX_if (gCmp .ge y3 24) (fun c1 => ?_) (fun c1 => ?_)
    · skip
      have h := gcT c1 h
      have h := Option.some.inj h; subst h
      exact kk
    · skip
      have h := gcF c1 h
      refine hX_goM 4 (bif gCmp .ge y3 h3.2.2 then 81 else 45) [some (.ref 0), some (.int y1), some (.ref 61), some (.int y3)] [] rfl ?_
      refine hX_if (gCmp .ge y3 h3.2.2) (fun c2 => ?_) (fun c2 => ?_)
      · skip
        have h := gcT c2 h
        have h := Option.some.inj h; subst h
        exact kk
      · skip
        have h := gcF c2 h
        refine hX_goM 3 (50) [some (.ref 0), some (.int y1), some (.ref 61), some (.int y3)] [.int y3, .ref 62] rfl ?_
        revert h; refine gCondR fun g3 h => ?_
        refine hX_gM (gIn y3 40) 51 [some (.ref 0), some (.int y1), some (.ref 61), some (.int y3)] [.int (h3.1 (Int32.toNatClampNeg y3))] rfl g3 ?_
        refine hX_goM 2 (54) [some (.ref 0), some (.int y1), some (.ref 61), some (.int y3)] [.int 60, .int 0, .int (h3.1 (Int32.toNatClampNeg y3))] rfl ?_
        refine hX_call (r' := zR_112) rfl (ct_112 (h3.1 (Int32.toNatClampNeg y3)) 0 60) ?_
        refine hX_goM 1 (bif gCmp .eq (v_112 (h3.1 (Int32.toNatClampNeg y3)) 0 60) 0 then 81 else 60) [some (.ref 0), some (.int y1), some (.ref 61), some (.int y3)] [] rfl ?_
        refine hX_if (gCmp .eq (v_112 (h3.1 (Int32.toNatClampNeg y3)) 0 60) 0) (fun c4 => ?_) (fun c4 => ?_)
        · skip
          have h := gcT c4 h
          have h := Option.some.inj h; subst h
          exact kk
        · skip
          have h := gcF c4 h
          refine hX_goM 7 (73) [some (.ref 0), some (.int y1), some (.ref 61), some (.int y3)] [.int y3, .ref 62, .int y3, .ref 8] rfl ?_
          revert h; refine gCondR fun g5 h => ?_
          refine hX_gM (gIn y3 40) 74 [some (.ref 0), some (.int y1), some (.ref 61), some (.int y3)] [.int (h3.1 (Int32.toNatClampNeg y3)), .int y3, .ref 8] rfl g5 ?_
          revert h; refine gCondR fun g6 h => ?_
          refine hX_g (gIn y3 24) 75 [some (.ref 0), some (.int y1), some (.ref 61), some (.int y3)] [] (hCm (b.1, b.2.1, b.2.2.1, b.2.2.2.1, b.2.2.2.2.1, b.2.2.2.2.2.1, b.2.2.2.2.2.2.1, b.2.2.2.2.2.2.2.1, b.2.2.2.2.2.2.2.2.1, b.2.2.2.2.2.2.2.2.2.1, b.2.2.2.2.2.2.2.2.2.2.1, upd b.2.2.2.2.2.2.2.2.2.2.2.1 (Int32.toNatClampNeg y3) (h3.1 (Int32.toNatClampNeg y3)), b.2.2.2.2.2.2.2.2.2.2.2.2) d k s w ik ex pr wd sn qu tb ts (r0, rq) h0 h1 h2 h3 fi R) rfl g6 ?_
          refine hX_goM 2 (31) [some (.ref 0), some (.int y1), some (.ref 61), some (.int (y3 + 1))] [] rfl ?_
          exact ih (y3 + 1) (b.1, b.2.1, b.2.2.1, b.2.2.2.1, b.2.2.2.2.1, b.2.2.2.2.2.1, b.2.2.2.2.2.2.1, b.2.2.2.2.2.2.2.1, b.2.2.2.2.2.2.2.2.1, b.2.2.2.2.2.2.2.2.2.1, b.2.2.2.2.2.2.2.2.2.2.1, upd b.2.2.2.2.2.2.2.2.2.2.2.1 (Int32.toNatClampNeg y3) (h3.1 (Int32.toNatClampNeg y3)), b.2.2.2.2.2.2.2.2.2.2.2.2) q h kk

/-- UpOneSide.load(I)I -/
def me_104_0 (N : Nat) (x0 : Int32) (b : hB) (h0 : hSt) (h1 : hSt) (h2 : hSt) (h3 : hSt) (fi : Nat → Int32) : Option (Int32 × hB × (Nat → Int32)) :=
  (bif gCmp .lt x0 0 then
    some (v_111_0 0, b, f_111_0_fi 0 fi)
  else
    (bif gCmp .lt x0 4 then
      (bif hEq x0 0 then
        (bif gCmp .eq (v_53_55 h0) 0 then
          (Option.bind (lp_104_0_31_55 N h0 N 0 b) fun q5 =>
          some (q5.1, q5.2, fi))
        else
          some (v_111_0 5, b, f_111_0_fi 5 fi))
      else
        (bif hEq x0 1 then
          (bif gCmp .eq (v_53_57 h1) 0 then
            (Option.bind (lp_104_0_31_57 N h1 N 0 b) fun q8 =>
            some (q8.1, q8.2, fi))
          else
            some (v_111_0 5, b, f_111_0_fi 5 fi))
        else
          (bif hEq x0 2 then
            (bif gCmp .eq (v_53_59 h2) 0 then
              (Option.bind (lp_104_0_31_59 N h2 N 0 b) fun q11 =>
              some (q11.1, q11.2, fi))
            else
              some (v_111_0 5, b, f_111_0_fi 5 fi))
          else
            (bif gCmp .eq (v_53_61 h3) 0 then
              (Option.bind (lp_104_0_31_61 N h3 N 0 b) fun q13 =>
              some (q13.1, q13.2, fi))
            else
              some (v_111_0 5, b, f_111_0_fi 5 fi)))))
    else
      some (v_111_0 0, b, f_111_0_fi 0 fi)))
set_option maxRecDepth 20000 in
set_option maxHeartbeats 4000000 in
theorem mt_104_0 {LL : Nat} {xs : Nat → Int32} {D : Nat} {b d k s w : hB} {ik ex pr wd : Int32} {sn : Nat → Int64} {qu tb : Nat → Int32} {ts : Int32} {r0 : Value} {rq : hRq} {h0 h1 h2 h3 : hSt} {fi : Nat → Int32} {R : List gE} (N : Nat) (x0 : Int32) (q : Int32 × hB × (Nat → Int32)) (h : me_104_0 N x0 b h0 h1 h2 h3 fi = some q) : hM (gO LL xs) (D + 1) zR_104 [.ref 0, .int x0] (hCm b d k s w ik ex pr wd sn qu tb ts (r0, rq) h0 h1 h2 h3 fi R) (some (.int q.1)) (hCm q.2.1 d k s w ik ex pr wd sn qu tb ts (r0, rq) h0 h1 h2 h3 q.2.2 R) := by
  unfold me_104_0 at h
  refine hX_go 0 0 [some (.ref 0), some (.int x0), none, none] [] (hCm b d k s w ik ex pr wd sn qu tb ts (r0, rq) h0 h1 h2 h3 fi R) rfl ?_
  refine hX_go 2 (2) [some (.ref 0), some (.int x0), none, none] [.int x0, .ref 0] (hCm b d k s w ik ex pr wd sn qu tb ts (r0, rq) h0 h1 h2 h3 fi R) rfl ?_
  refine hX_bif (gCmp .lt x0 0) (fun c1 => ?_) (fun c1 => ?_)
  · skip
    have h := gcT c1 h
    refine hX_call (r' := zR_114) rfl (ct_114_0_0 x0 c1) ?_
    refine hX_goM 5 (12) [some (.ref 0), some (.int x0), some (.null), none] [.int 0, .ref 0] rfl ?_
    refine hX_call (r' := zR_111) rfl (ct_111_0 0 rfl) ?_
    refine hX_go 0 (15) [some (.ref 0), some (.int x0), some (.null), none] [.int (v_111_0 0)] (hCm b d k s w ik ex pr wd sn qu tb ts (r0, rq) h0 h1 h2 h3 (f_111_0_fi 0 fi) R) rfl ?_
    have h := Option.some.inj h; subst h
    exact hX_end rfl rfl rfl
  · skip
    have h := gcF c1 h
    refine hX_bif (gCmp .lt x0 4) (fun c2 => ?_) (fun c2 => ?_)
    · skip
      have h := gcT c2 h
      refine hX_bif (hEq x0 0) (fun c3 => ?_) (fun c3 => ?_)
      · skip
        have h := gcT c3 h
        refine hX_call (r' := zR_114) rfl (ct_114_0_2 x0 c1 c2 c3) ?_
        refine hX_goM 4 (17) [some (.ref 0), some (.int x0), some (.ref 55), none] [.ref 55] rfl ?_
        refine hX_call (r' := zR_53) rfl (ct_53_55) ?_
        refine hX_goM 1 (bif gCmp .eq (v_53_55 h0) 0 then 29 else 23) [some (.ref 0), some (.int x0), some (.ref 55), none] [] rfl ?_
        refine hX_if (gCmp .eq (v_53_55 h0) 0) (fun c4 => ?_) (fun c4 => ?_)
        · skip
          have h := gcT c4 h
          refine hX_goM 2 (31) [some (.ref 0), some (.int x0), some (.ref 55), some (.int 0)] [] rfl ?_
          revert h; refine gBindR fun q5 e5 h => ?_
          refine lt_104_0_31_55 N 0 b q5 e5 ?_
          refine hX_go 1 (82) [some (.ref 0), some (.int x0), some (.ref 55), some (.int q5.1)] [.int q5.1] (hCm q5.2 d k s w ik ex pr wd sn qu tb ts (r0, rq) h0 h1 h2 h3 fi R) rfl ?_
          have h := Option.some.inj h; subst h
          exact hX_end rfl rfl rfl
        · skip
          have h := gcF c4 h
          refine hX_goM 2 (25) [some (.ref 0), some (.int x0), some (.ref 55), none] [.int 5, .ref 0] rfl ?_
          refine hX_call (r' := zR_111) rfl (ct_111_0 5 rfl) ?_
          refine hX_go 0 (28) [some (.ref 0), some (.int x0), some (.ref 55), none] [.int (v_111_0 5)] (hCm b d k s w ik ex pr wd sn qu tb ts (r0, rq) h0 h1 h2 h3 (f_111_0_fi 5 fi) R) rfl ?_
          have h := Option.some.inj h; subst h
          exact hX_end rfl rfl rfl
      · skip
        have h := gcF c3 h
        refine hX_bif (hEq x0 1) (fun c6 => ?_) (fun c6 => ?_)
        · skip
          have h := gcT c6 h
          refine hX_call (r' := zR_114) rfl (ct_114_0_3 x0 c1 c2 c3 c6) ?_
          refine hX_goM 4 (17) [some (.ref 0), some (.int x0), some (.ref 57), none] [.ref 57] rfl ?_
          refine hX_call (r' := zR_53) rfl (ct_53_57) ?_
          refine hX_goM 1 (bif gCmp .eq (v_53_57 h1) 0 then 29 else 23) [some (.ref 0), some (.int x0), some (.ref 57), none] [] rfl ?_
          refine hX_if (gCmp .eq (v_53_57 h1) 0) (fun c7 => ?_) (fun c7 => ?_)
          · skip
            have h := gcT c7 h
            refine hX_goM 2 (31) [some (.ref 0), some (.int x0), some (.ref 57), some (.int 0)] [] rfl ?_
            revert h; refine gBindR fun q8 e8 h => ?_
            refine lt_104_0_31_57 N 0 b q8 e8 ?_
            refine hX_go 1 (82) [some (.ref 0), some (.int x0), some (.ref 57), some (.int q8.1)] [.int q8.1] (hCm q8.2 d k s w ik ex pr wd sn qu tb ts (r0, rq) h0 h1 h2 h3 fi R) rfl ?_
            have h := Option.some.inj h; subst h
            exact hX_end rfl rfl rfl
          · skip
            have h := gcF c7 h
            refine hX_goM 2 (25) [some (.ref 0), some (.int x0), some (.ref 57), none] [.int 5, .ref 0] rfl ?_
            refine hX_call (r' := zR_111) rfl (ct_111_0 5 rfl) ?_
            refine hX_go 0 (28) [some (.ref 0), some (.int x0), some (.ref 57), none] [.int (v_111_0 5)] (hCm b d k s w ik ex pr wd sn qu tb ts (r0, rq) h0 h1 h2 h3 (f_111_0_fi 5 fi) R) rfl ?_
            have h := Option.some.inj h; subst h
            exact hX_end rfl rfl rfl
        · skip
          have h := gcF c6 h
          refine hX_bif (hEq x0 2) (fun c9 => ?_) (fun c9 => ?_)
          · skip
            have h := gcT c9 h
            refine hX_call (r' := zR_114) rfl (ct_114_0_4 x0 c1 c2 c3 c6 c9) ?_
            refine hX_goM 4 (17) [some (.ref 0), some (.int x0), some (.ref 59), none] [.ref 59] rfl ?_
            refine hX_call (r' := zR_53) rfl (ct_53_59) ?_
            refine hX_goM 1 (bif gCmp .eq (v_53_59 h2) 0 then 29 else 23) [some (.ref 0), some (.int x0), some (.ref 59), none] [] rfl ?_
            refine hX_if (gCmp .eq (v_53_59 h2) 0) (fun c10 => ?_) (fun c10 => ?_)
            · skip
              have h := gcT c10 h
              refine hX_goM 2 (31) [some (.ref 0), some (.int x0), some (.ref 59), some (.int 0)] [] rfl ?_
              revert h; refine gBindR fun q11 e11 h => ?_
              refine lt_104_0_31_59 N 0 b q11 e11 ?_
              refine hX_go 1 (82) [some (.ref 0), some (.int x0), some (.ref 59), some (.int q11.1)] [.int q11.1] (hCm q11.2 d k s w ik ex pr wd sn qu tb ts (r0, rq) h0 h1 h2 h3 fi R) rfl ?_
              have h := Option.some.inj h; subst h
              exact hX_end rfl rfl rfl
            · skip
              have h := gcF c10 h
              refine hX_goM 2 (25) [some (.ref 0), some (.int x0), some (.ref 59), none] [.int 5, .ref 0] rfl ?_
              refine hX_call (r' := zR_111) rfl (ct_111_0 5 rfl) ?_
              refine hX_go 0 (28) [some (.ref 0), some (.int x0), some (.ref 59), none] [.int (v_111_0 5)] (hCm b d k s w ik ex pr wd sn qu tb ts (r0, rq) h0 h1 h2 h3 (f_111_0_fi 5 fi) R) rfl ?_
              have h := Option.some.inj h; subst h
              exact hX_end rfl rfl rfl
          · skip
            have h := gcF c9 h
            refine hX_call (r' := zR_114) rfl (ct_114_0_5 x0 c1 c2 c3 c6 c9) ?_
            refine hX_goM 4 (17) [some (.ref 0), some (.int x0), some (.ref 61), none] [.ref 61] rfl ?_
            refine hX_call (r' := zR_53) rfl (ct_53_61) ?_
            refine hX_goM 1 (bif gCmp .eq (v_53_61 h3) 0 then 29 else 23) [some (.ref 0), some (.int x0), some (.ref 61), none] [] rfl ?_
            refine hX_if (gCmp .eq (v_53_61 h3) 0) (fun c12 => ?_) (fun c12 => ?_)
            · skip
              have h := gcT c12 h
              refine hX_goM 2 (31) [some (.ref 0), some (.int x0), some (.ref 61), some (.int 0)] [] rfl ?_
              revert h; refine gBindR fun q13 e13 h => ?_
              refine lt_104_0_31_61 N 0 b q13 e13 ?_
              refine hX_go 1 (82) [some (.ref 0), some (.int x0), some (.ref 61), some (.int q13.1)] [.int q13.1] (hCm q13.2 d k s w ik ex pr wd sn qu tb ts (r0, rq) h0 h1 h2 h3 fi R) rfl ?_
              have h := Option.some.inj h; subst h
              exact hX_end rfl rfl rfl
            · skip
              have h := gcF c12 h
              refine hX_goM 2 (25) [some (.ref 0), some (.int x0), some (.ref 61), none] [.int 5, .ref 0] rfl ?_
              refine hX_call (r' := zR_111) rfl (ct_111_0 5 rfl) ?_
              refine hX_go 0 (28) [some (.ref 0), some (.int x0), some (.ref 61), none] [.int (v_111_0 5)] (hCm b d k s w ik ex pr wd sn qu tb ts (r0, rq) h0 h1 h2 h3 (f_111_0_fi 5 fi) R) rfl ?_
              have h := Option.some.inj h; subst h
              exact hX_end rfl rfl rfl
    · skip
      have h := gcF c2 h
      refine hX_call (r' := zR_114) rfl (ct_114_0_1 x0 c1 c2) ?_
      refine hX_goM 5 (12) [some (.ref 0), some (.int x0), some (.null), none] [.int 0, .ref 0] rfl ?_
      refine hX_call (r' := zR_111) rfl (ct_111_0 0 rfl) ?_
      refine hX_go 0 (15) [some (.ref 0), some (.int x0), some (.null), none] [.int (v_111_0 0)] (hCm b d k s w ik ex pr wd sn qu tb ts (r0, rq) h0 h1 h2 h3 (f_111_0_fi 0 fi) R) rfl ?_
      have h := Option.some.inj h; subst h
      exact hX_end rfl rfl rfl

/-- UpOneSide.judge: the loop at 51 -/
def lp_105_0_51_55 (N : Nat) (b : hB) (h0 : hSt) (fi : Nat → Int32) : Nat → Int32 → Int32 → hB → Option (Int32 × hB × (Nat → Int32))
  | 0, _, _, _ => none
  | n + 1, y3, y4, d =>
    (bif gCmp .ge y4 h0.2.2 then
      some (y3, d, fi)
    else
      (bif gIn y4 40 then (bif gCmp .eq (v_113_0 (h0.1 (Int32.toNatClampNeg y4)) b) 0 then
        (bif gIn (h0.1 (Int32.toNatClampNeg y4)) 8 then lp_105_0_51_55 N b h0 fi n (if y3 < (v_15_10 (f_18_10_d (h0.1 (Int32.toNatClampNeg y4)) d)) then (v_15_10 (f_18_10_d (h0.1 (Int32.toNatClampNeg y4)) d)) else y3) (y4 + 1) (f_18_10_d (h0.1 (Int32.toNatClampNeg y4)) d) else none)
      else
        some (v_111_0 4, d, f_111_0_fi 4 fi)) else none))
set_option maxRecDepth 20000 in
set_option maxHeartbeats 4000000 in
theorem lt_105_0_51_55 {LL : Nat} {xs : Nat → Int32} {D N : Nat} {b k s w : hB} {ik ex pr wd : Int32} {sn : Nat → Int64} {qu tb : Nat → Int32} {ts : Int32} {r0 : Value} {rq : hRq} {h0 h1 h2 h3 : hSt} {fi : Nat → Int32} {R : List gE} {y1 : Int32} : ∀ (n : Nat) (y3 : Int32) (y4 : Int32) (d : hB) (q : Int32 × hB × (Nat → Int32)), lp_105_0_51_55 N b h0 fi n y3 y4 d = some q → hX (gO LL xs) (D + 2) zR_105 51 [some (.ref 0), some (.int y1), some (.ref 55), some (.int y3), some (.int y4), none] [] (hCm b d k s w ik ex pr wd sn qu tb ts (r0, rq) h0 h1 h2 h3 fi R) (some (.int q.1)) (hCm b q.2.1 k s w ik ex pr wd sn qu tb ts (r0, rq) h0 h1 h2 h3 q.2.2 R) := by
  intro n
  induction n with
  | zero => intro y3 y4 d q h; cases h
  | succ n ih =>
    intro y3 y4 d q h
    rw [lp_105_0_51_55] at h
    refine hX_go 4 (bif gCmp .ge y4 h0.2.2 then 111 else 60) [some (.ref 0), some (.int y1), some (.ref 55), some (.int y3), some (.int y4), none] [] (hCm b d k s w ik ex pr wd sn qu tb ts (r0, rq) h0 h1 h2 h3 fi R) rfl ?_
    refine hX_if (gCmp .ge y4 h0.2.2) (fun c1 => ?_) (fun c1 => ?_)
    · skip
      have h := gcT c1 h
      refine hX_goM 1 (112) [some (.ref 0), some (.int y1), some (.ref 55), some (.int y3), some (.int y4), none] [.int y3] rfl ?_
      have h := Option.some.inj h; subst h
      exact hX_end rfl rfl rfl
    · skip
      have h := gcF c1 h
      refine hX_goM 3 (66) [some (.ref 0), some (.int y1), some (.ref 55), some (.int y3), some (.int y4), none] [.int y4, .ref 56] rfl ?_
      revert h; refine gCondR fun g2 h => ?_
      refine hX_gM (gIn y4 40) 67 [some (.ref 0), some (.int y1), some (.ref 55), some (.int y3), some (.int y4), none] [.int (h0.1 (Int32.toNatClampNeg y4))] rfl g2 ?_
      refine hX_goM 3 (72) [some (.ref 0), some (.int y1), some (.ref 55), some (.int y3), some (.int y4), some (.int (h0.1 (Int32.toNatClampNeg y4)))] [.int (h0.1 (Int32.toNatClampNeg y4)), .ref 0] rfl ?_
      refine hX_call (r' := zR_113) rfl (ct_113_0 (h0.1 (Int32.toNatClampNeg y4))) ?_
      refine hX_goM 1 (bif gCmp .eq (v_113_0 (h0.1 (Int32.toNatClampNeg y4)) b) 0 then 84 else 78) [some (.ref 0), some (.int y1), some (.ref 55), some (.int y3), some (.int y4), some (.int (h0.1 (Int32.toNatClampNeg y4)))] [] rfl ?_
      refine hX_if (gCmp .eq (v_113_0 (h0.1 (Int32.toNatClampNeg y4)) b) 0) (fun c3 => ?_) (fun c3 => ?_)
      · skip
        have h := gcT c3 h
        refine hX_goM 3 (90) [some (.ref 0), some (.int y1), some (.ref 55), some (.int y3), some (.int y4), some (.int (h0.1 (Int32.toNatClampNeg y4)))] [.int (h0.1 (Int32.toNatClampNeg y4)), .ref 10] rfl ?_
        revert h; refine gCondR fun g4 h => ?_
        refine hX_call (r' := zR_18) rfl (ct_18_10 (h0.1 (Int32.toNatClampNeg y4)) g4) ?_
        refine hX_go 3 (98) [some (.ref 0), some (.int y1), some (.ref 55), some (.int y3), some (.int y4), some (.int (h0.1 (Int32.toNatClampNeg y4)))] [.ref 10, .int y3] (hCm b (f_18_10_d (h0.1 (Int32.toNatClampNeg y4)) d) k s w ik ex pr wd sn qu tb ts (r0, rq) h0 h1 h2 h3 fi R) rfl ?_
        refine hX_call (r' := zR_15) rfl (ct_15_10) ?_
        refine hX_goM 4 (51) [some (.ref 0), some (.int y1), some (.ref 55), some (.int (if y3 < (v_15_10 (f_18_10_d (h0.1 (Int32.toNatClampNeg y4)) d)) then (v_15_10 (f_18_10_d (h0.1 (Int32.toNatClampNeg y4)) d)) else y3)), some (.int (y4 + 1)), some (.int (h0.1 (Int32.toNatClampNeg y4)))] [] rfl ?_
        exact hX_wk (gLe_s (gLe_s (gLe_s (gLe_s (gLe_s (gLe_n gLe_0)))))) (ih (if y3 < (v_15_10 (f_18_10_d (h0.1 (Int32.toNatClampNeg y4)) d)) then (v_15_10 (f_18_10_d (h0.1 (Int32.toNatClampNeg y4)) d)) else y3) (y4 + 1) (f_18_10_d (h0.1 (Int32.toNatClampNeg y4)) d) q h)
      · skip
        have h := gcF c3 h
        refine hX_goM 2 (80) [some (.ref 0), some (.int y1), some (.ref 55), some (.int y3), some (.int y4), some (.int (h0.1 (Int32.toNatClampNeg y4)))] [.int 4, .ref 0] rfl ?_
        refine hX_call (r' := zR_111) rfl (ct_111_0 4 rfl) ?_
        refine hX_go 0 (83) [some (.ref 0), some (.int y1), some (.ref 55), some (.int y3), some (.int y4), some (.int (h0.1 (Int32.toNatClampNeg y4)))] [.int (v_111_0 4)] (hCm b d k s w ik ex pr wd sn qu tb ts (r0, rq) h0 h1 h2 h3 (f_111_0_fi 4 fi) R) rfl ?_
        have h := Option.some.inj h; subst h
        exact hX_end rfl rfl rfl

/-- UpOneSide.judge: the loop at 51 -/
def lp_105_0_51_57 (N : Nat) (b : hB) (h1 : hSt) (fi : Nat → Int32) : Nat → Int32 → Int32 → hB → Option (Int32 × hB × (Nat → Int32))
  | 0, _, _, _ => none
  | n + 1, y3, y4, d =>
    (bif gCmp .ge y4 h1.2.2 then
      some (y3, d, fi)
    else
      (bif gIn y4 40 then (bif gCmp .eq (v_113_0 (h1.1 (Int32.toNatClampNeg y4)) b) 0 then
        (bif gIn (h1.1 (Int32.toNatClampNeg y4)) 8 then lp_105_0_51_57 N b h1 fi n (if y3 < (v_15_10 (f_18_10_d (h1.1 (Int32.toNatClampNeg y4)) d)) then (v_15_10 (f_18_10_d (h1.1 (Int32.toNatClampNeg y4)) d)) else y3) (y4 + 1) (f_18_10_d (h1.1 (Int32.toNatClampNeg y4)) d) else none)
      else
        some (v_111_0 4, d, f_111_0_fi 4 fi)) else none))
set_option maxRecDepth 20000 in
set_option maxHeartbeats 4000000 in
theorem lt_105_0_51_57 {LL : Nat} {xs : Nat → Int32} {D N : Nat} {b k s w : hB} {ik ex pr wd : Int32} {sn : Nat → Int64} {qu tb : Nat → Int32} {ts : Int32} {r0 : Value} {rq : hRq} {h0 h1 h2 h3 : hSt} {fi : Nat → Int32} {R : List gE} {y1 : Int32} : ∀ (n : Nat) (y3 : Int32) (y4 : Int32) (d : hB) (q : Int32 × hB × (Nat → Int32)), lp_105_0_51_57 N b h1 fi n y3 y4 d = some q → hX (gO LL xs) (D + 2) zR_105 51 [some (.ref 0), some (.int y1), some (.ref 57), some (.int y3), some (.int y4), none] [] (hCm b d k s w ik ex pr wd sn qu tb ts (r0, rq) h0 h1 h2 h3 fi R) (some (.int q.1)) (hCm b q.2.1 k s w ik ex pr wd sn qu tb ts (r0, rq) h0 h1 h2 h3 q.2.2 R) := by
  intro n
  induction n with
  | zero => intro y3 y4 d q h; cases h
  | succ n ih =>
    intro y3 y4 d q h
    rw [lp_105_0_51_57] at h
    refine hX_go 4 (bif gCmp .ge y4 h1.2.2 then 111 else 60) [some (.ref 0), some (.int y1), some (.ref 57), some (.int y3), some (.int y4), none] [] (hCm b d k s w ik ex pr wd sn qu tb ts (r0, rq) h0 h1 h2 h3 fi R) rfl ?_
    refine hX_if (gCmp .ge y4 h1.2.2) (fun c1 => ?_) (fun c1 => ?_)
    · skip
      have h := gcT c1 h
      refine hX_goM 1 (112) [some (.ref 0), some (.int y1), some (.ref 57), some (.int y3), some (.int y4), none] [.int y3] rfl ?_
      have h := Option.some.inj h; subst h
      exact hX_end rfl rfl rfl
    · skip
      have h := gcF c1 h
      refine hX_goM 3 (66) [some (.ref 0), some (.int y1), some (.ref 57), some (.int y3), some (.int y4), none] [.int y4, .ref 58] rfl ?_
      revert h; refine gCondR fun g2 h => ?_
      refine hX_gM (gIn y4 40) 67 [some (.ref 0), some (.int y1), some (.ref 57), some (.int y3), some (.int y4), none] [.int (h1.1 (Int32.toNatClampNeg y4))] rfl g2 ?_
      refine hX_goM 3 (72) [some (.ref 0), some (.int y1), some (.ref 57), some (.int y3), some (.int y4), some (.int (h1.1 (Int32.toNatClampNeg y4)))] [.int (h1.1 (Int32.toNatClampNeg y4)), .ref 0] rfl ?_
      refine hX_call (r' := zR_113) rfl (ct_113_0 (h1.1 (Int32.toNatClampNeg y4))) ?_
      refine hX_goM 1 (bif gCmp .eq (v_113_0 (h1.1 (Int32.toNatClampNeg y4)) b) 0 then 84 else 78) [some (.ref 0), some (.int y1), some (.ref 57), some (.int y3), some (.int y4), some (.int (h1.1 (Int32.toNatClampNeg y4)))] [] rfl ?_
      refine hX_if (gCmp .eq (v_113_0 (h1.1 (Int32.toNatClampNeg y4)) b) 0) (fun c3 => ?_) (fun c3 => ?_)
      · skip
        have h := gcT c3 h
        refine hX_goM 3 (90) [some (.ref 0), some (.int y1), some (.ref 57), some (.int y3), some (.int y4), some (.int (h1.1 (Int32.toNatClampNeg y4)))] [.int (h1.1 (Int32.toNatClampNeg y4)), .ref 10] rfl ?_
        revert h; refine gCondR fun g4 h => ?_
        refine hX_call (r' := zR_18) rfl (ct_18_10 (h1.1 (Int32.toNatClampNeg y4)) g4) ?_
        refine hX_go 3 (98) [some (.ref 0), some (.int y1), some (.ref 57), some (.int y3), some (.int y4), some (.int (h1.1 (Int32.toNatClampNeg y4)))] [.ref 10, .int y3] (hCm b (f_18_10_d (h1.1 (Int32.toNatClampNeg y4)) d) k s w ik ex pr wd sn qu tb ts (r0, rq) h0 h1 h2 h3 fi R) rfl ?_
        refine hX_call (r' := zR_15) rfl (ct_15_10) ?_
        refine hX_goM 4 (51) [some (.ref 0), some (.int y1), some (.ref 57), some (.int (if y3 < (v_15_10 (f_18_10_d (h1.1 (Int32.toNatClampNeg y4)) d)) then (v_15_10 (f_18_10_d (h1.1 (Int32.toNatClampNeg y4)) d)) else y3)), some (.int (y4 + 1)), some (.int (h1.1 (Int32.toNatClampNeg y4)))] [] rfl ?_
        exact hX_wk (gLe_s (gLe_s (gLe_s (gLe_s (gLe_s (gLe_n gLe_0)))))) (ih (if y3 < (v_15_10 (f_18_10_d (h1.1 (Int32.toNatClampNeg y4)) d)) then (v_15_10 (f_18_10_d (h1.1 (Int32.toNatClampNeg y4)) d)) else y3) (y4 + 1) (f_18_10_d (h1.1 (Int32.toNatClampNeg y4)) d) q h)
      · skip
        have h := gcF c3 h
        refine hX_goM 2 (80) [some (.ref 0), some (.int y1), some (.ref 57), some (.int y3), some (.int y4), some (.int (h1.1 (Int32.toNatClampNeg y4)))] [.int 4, .ref 0] rfl ?_
        refine hX_call (r' := zR_111) rfl (ct_111_0 4 rfl) ?_
        refine hX_go 0 (83) [some (.ref 0), some (.int y1), some (.ref 57), some (.int y3), some (.int y4), some (.int (h1.1 (Int32.toNatClampNeg y4)))] [.int (v_111_0 4)] (hCm b d k s w ik ex pr wd sn qu tb ts (r0, rq) h0 h1 h2 h3 (f_111_0_fi 4 fi) R) rfl ?_
        have h := Option.some.inj h; subst h
        exact hX_end rfl rfl rfl

/-- UpOneSide.judge: the loop at 51 -/
def lp_105_0_51_59 (N : Nat) (b : hB) (h2 : hSt) (fi : Nat → Int32) : Nat → Int32 → Int32 → hB → Option (Int32 × hB × (Nat → Int32))
  | 0, _, _, _ => none
  | n + 1, y3, y4, d =>
    (bif gCmp .ge y4 h2.2.2 then
      some (y3, d, fi)
    else
      (bif gIn y4 40 then (bif gCmp .eq (v_113_0 (h2.1 (Int32.toNatClampNeg y4)) b) 0 then
        (bif gIn (h2.1 (Int32.toNatClampNeg y4)) 8 then lp_105_0_51_59 N b h2 fi n (if y3 < (v_15_10 (f_18_10_d (h2.1 (Int32.toNatClampNeg y4)) d)) then (v_15_10 (f_18_10_d (h2.1 (Int32.toNatClampNeg y4)) d)) else y3) (y4 + 1) (f_18_10_d (h2.1 (Int32.toNatClampNeg y4)) d) else none)
      else
        some (v_111_0 4, d, f_111_0_fi 4 fi)) else none))
set_option maxRecDepth 20000 in
set_option maxHeartbeats 4000000 in
theorem lt_105_0_51_59 {LL : Nat} {xs : Nat → Int32} {D N : Nat} {b k s w : hB} {ik ex pr wd : Int32} {sn : Nat → Int64} {qu tb : Nat → Int32} {ts : Int32} {r0 : Value} {rq : hRq} {h0 h1 h2 h3 : hSt} {fi : Nat → Int32} {R : List gE} {y1 : Int32} : ∀ (n : Nat) (y3 : Int32) (y4 : Int32) (d : hB) (q : Int32 × hB × (Nat → Int32)), lp_105_0_51_59 N b h2 fi n y3 y4 d = some q → hX (gO LL xs) (D + 2) zR_105 51 [some (.ref 0), some (.int y1), some (.ref 59), some (.int y3), some (.int y4), none] [] (hCm b d k s w ik ex pr wd sn qu tb ts (r0, rq) h0 h1 h2 h3 fi R) (some (.int q.1)) (hCm b q.2.1 k s w ik ex pr wd sn qu tb ts (r0, rq) h0 h1 h2 h3 q.2.2 R) := by
  intro n
  induction n with
  | zero => intro y3 y4 d q h; cases h
  | succ n ih =>
    intro y3 y4 d q h
    rw [lp_105_0_51_59] at h
    refine hX_go 4 (bif gCmp .ge y4 h2.2.2 then 111 else 60) [some (.ref 0), some (.int y1), some (.ref 59), some (.int y3), some (.int y4), none] [] (hCm b d k s w ik ex pr wd sn qu tb ts (r0, rq) h0 h1 h2 h3 fi R) rfl ?_
    refine hX_if (gCmp .ge y4 h2.2.2) (fun c1 => ?_) (fun c1 => ?_)
    · skip
      have h := gcT c1 h
      refine hX_goM 1 (112) [some (.ref 0), some (.int y1), some (.ref 59), some (.int y3), some (.int y4), none] [.int y3] rfl ?_
      have h := Option.some.inj h; subst h
      exact hX_end rfl rfl rfl
    · skip
      have h := gcF c1 h
      refine hX_goM 3 (66) [some (.ref 0), some (.int y1), some (.ref 59), some (.int y3), some (.int y4), none] [.int y4, .ref 60] rfl ?_
      revert h; refine gCondR fun g2 h => ?_
      refine hX_gM (gIn y4 40) 67 [some (.ref 0), some (.int y1), some (.ref 59), some (.int y3), some (.int y4), none] [.int (h2.1 (Int32.toNatClampNeg y4))] rfl g2 ?_
      refine hX_goM 3 (72) [some (.ref 0), some (.int y1), some (.ref 59), some (.int y3), some (.int y4), some (.int (h2.1 (Int32.toNatClampNeg y4)))] [.int (h2.1 (Int32.toNatClampNeg y4)), .ref 0] rfl ?_
      refine hX_call (r' := zR_113) rfl (ct_113_0 (h2.1 (Int32.toNatClampNeg y4))) ?_
      refine hX_goM 1 (bif gCmp .eq (v_113_0 (h2.1 (Int32.toNatClampNeg y4)) b) 0 then 84 else 78) [some (.ref 0), some (.int y1), some (.ref 59), some (.int y3), some (.int y4), some (.int (h2.1 (Int32.toNatClampNeg y4)))] [] rfl ?_
      refine hX_if (gCmp .eq (v_113_0 (h2.1 (Int32.toNatClampNeg y4)) b) 0) (fun c3 => ?_) (fun c3 => ?_)
      · skip
        have h := gcT c3 h
        refine hX_goM 3 (90) [some (.ref 0), some (.int y1), some (.ref 59), some (.int y3), some (.int y4), some (.int (h2.1 (Int32.toNatClampNeg y4)))] [.int (h2.1 (Int32.toNatClampNeg y4)), .ref 10] rfl ?_
        revert h; refine gCondR fun g4 h => ?_
        refine hX_call (r' := zR_18) rfl (ct_18_10 (h2.1 (Int32.toNatClampNeg y4)) g4) ?_
        refine hX_go 3 (98) [some (.ref 0), some (.int y1), some (.ref 59), some (.int y3), some (.int y4), some (.int (h2.1 (Int32.toNatClampNeg y4)))] [.ref 10, .int y3] (hCm b (f_18_10_d (h2.1 (Int32.toNatClampNeg y4)) d) k s w ik ex pr wd sn qu tb ts (r0, rq) h0 h1 h2 h3 fi R) rfl ?_
        refine hX_call (r' := zR_15) rfl (ct_15_10) ?_
        refine hX_goM 4 (51) [some (.ref 0), some (.int y1), some (.ref 59), some (.int (if y3 < (v_15_10 (f_18_10_d (h2.1 (Int32.toNatClampNeg y4)) d)) then (v_15_10 (f_18_10_d (h2.1 (Int32.toNatClampNeg y4)) d)) else y3)), some (.int (y4 + 1)), some (.int (h2.1 (Int32.toNatClampNeg y4)))] [] rfl ?_
        exact hX_wk (gLe_s (gLe_s (gLe_s (gLe_s (gLe_s (gLe_n gLe_0)))))) (ih (if y3 < (v_15_10 (f_18_10_d (h2.1 (Int32.toNatClampNeg y4)) d)) then (v_15_10 (f_18_10_d (h2.1 (Int32.toNatClampNeg y4)) d)) else y3) (y4 + 1) (f_18_10_d (h2.1 (Int32.toNatClampNeg y4)) d) q h)
      · skip
        have h := gcF c3 h
        refine hX_goM 2 (80) [some (.ref 0), some (.int y1), some (.ref 59), some (.int y3), some (.int y4), some (.int (h2.1 (Int32.toNatClampNeg y4)))] [.int 4, .ref 0] rfl ?_
        refine hX_call (r' := zR_111) rfl (ct_111_0 4 rfl) ?_
        refine hX_go 0 (83) [some (.ref 0), some (.int y1), some (.ref 59), some (.int y3), some (.int y4), some (.int (h2.1 (Int32.toNatClampNeg y4)))] [.int (v_111_0 4)] (hCm b d k s w ik ex pr wd sn qu tb ts (r0, rq) h0 h1 h2 h3 (f_111_0_fi 4 fi) R) rfl ?_
        have h := Option.some.inj h; subst h
        exact hX_end rfl rfl rfl

/-- UpOneSide.judge: the loop at 51 -/
def lp_105_0_51_61 (N : Nat) (b : hB) (h3 : hSt) (fi : Nat → Int32) : Nat → Int32 → Int32 → hB → Option (Int32 × hB × (Nat → Int32))
  | 0, _, _, _ => none
  | n + 1, y3, y4, d =>
    (bif gCmp .ge y4 h3.2.2 then
      some (y3, d, fi)
    else
      (bif gIn y4 40 then (bif gCmp .eq (v_113_0 (h3.1 (Int32.toNatClampNeg y4)) b) 0 then
        (bif gIn (h3.1 (Int32.toNatClampNeg y4)) 8 then lp_105_0_51_61 N b h3 fi n (if y3 < (v_15_10 (f_18_10_d (h3.1 (Int32.toNatClampNeg y4)) d)) then (v_15_10 (f_18_10_d (h3.1 (Int32.toNatClampNeg y4)) d)) else y3) (y4 + 1) (f_18_10_d (h3.1 (Int32.toNatClampNeg y4)) d) else none)
      else
        some (v_111_0 4, d, f_111_0_fi 4 fi)) else none))
set_option maxRecDepth 20000 in
set_option maxHeartbeats 4000000 in
theorem lt_105_0_51_61 {LL : Nat} {xs : Nat → Int32} {D N : Nat} {b k s w : hB} {ik ex pr wd : Int32} {sn : Nat → Int64} {qu tb : Nat → Int32} {ts : Int32} {r0 : Value} {rq : hRq} {h0 h1 h2 h3 : hSt} {fi : Nat → Int32} {R : List gE} {y1 : Int32} : ∀ (n : Nat) (y3 : Int32) (y4 : Int32) (d : hB) (q : Int32 × hB × (Nat → Int32)), lp_105_0_51_61 N b h3 fi n y3 y4 d = some q → hX (gO LL xs) (D + 2) zR_105 51 [some (.ref 0), some (.int y1), some (.ref 61), some (.int y3), some (.int y4), none] [] (hCm b d k s w ik ex pr wd sn qu tb ts (r0, rq) h0 h1 h2 h3 fi R) (some (.int q.1)) (hCm b q.2.1 k s w ik ex pr wd sn qu tb ts (r0, rq) h0 h1 h2 h3 q.2.2 R) := by
  intro n
  induction n with
  | zero => intro y3 y4 d q h; cases h
  | succ n ih =>
    intro y3 y4 d q h
    rw [lp_105_0_51_61] at h
    refine hX_go 4 (bif gCmp .ge y4 h3.2.2 then 111 else 60) [some (.ref 0), some (.int y1), some (.ref 61), some (.int y3), some (.int y4), none] [] (hCm b d k s w ik ex pr wd sn qu tb ts (r0, rq) h0 h1 h2 h3 fi R) rfl ?_
    refine hX_if (gCmp .ge y4 h3.2.2) (fun c1 => ?_) (fun c1 => ?_)
    · skip
      have h := gcT c1 h
      refine hX_goM 1 (112) [some (.ref 0), some (.int y1), some (.ref 61), some (.int y3), some (.int y4), none] [.int y3] rfl ?_
      have h := Option.some.inj h; subst h
      exact hX_end rfl rfl rfl
    · skip
      have h := gcF c1 h
      refine hX_goM 3 (66) [some (.ref 0), some (.int y1), some (.ref 61), some (.int y3), some (.int y4), none] [.int y4, .ref 62] rfl ?_
      revert h; refine gCondR fun g2 h => ?_
      refine hX_gM (gIn y4 40) 67 [some (.ref 0), some (.int y1), some (.ref 61), some (.int y3), some (.int y4), none] [.int (h3.1 (Int32.toNatClampNeg y4))] rfl g2 ?_
      refine hX_goM 3 (72) [some (.ref 0), some (.int y1), some (.ref 61), some (.int y3), some (.int y4), some (.int (h3.1 (Int32.toNatClampNeg y4)))] [.int (h3.1 (Int32.toNatClampNeg y4)), .ref 0] rfl ?_
      refine hX_call (r' := zR_113) rfl (ct_113_0 (h3.1 (Int32.toNatClampNeg y4))) ?_
      refine hX_goM 1 (bif gCmp .eq (v_113_0 (h3.1 (Int32.toNatClampNeg y4)) b) 0 then 84 else 78) [some (.ref 0), some (.int y1), some (.ref 61), some (.int y3), some (.int y4), some (.int (h3.1 (Int32.toNatClampNeg y4)))] [] rfl ?_
      refine hX_if (gCmp .eq (v_113_0 (h3.1 (Int32.toNatClampNeg y4)) b) 0) (fun c3 => ?_) (fun c3 => ?_)
      · skip
        have h := gcT c3 h
        refine hX_goM 3 (90) [some (.ref 0), some (.int y1), some (.ref 61), some (.int y3), some (.int y4), some (.int (h3.1 (Int32.toNatClampNeg y4)))] [.int (h3.1 (Int32.toNatClampNeg y4)), .ref 10] rfl ?_
        revert h; refine gCondR fun g4 h => ?_
        refine hX_call (r' := zR_18) rfl (ct_18_10 (h3.1 (Int32.toNatClampNeg y4)) g4) ?_
        refine hX_go 3 (98) [some (.ref 0), some (.int y1), some (.ref 61), some (.int y3), some (.int y4), some (.int (h3.1 (Int32.toNatClampNeg y4)))] [.ref 10, .int y3] (hCm b (f_18_10_d (h3.1 (Int32.toNatClampNeg y4)) d) k s w ik ex pr wd sn qu tb ts (r0, rq) h0 h1 h2 h3 fi R) rfl ?_
        refine hX_call (r' := zR_15) rfl (ct_15_10) ?_
        refine hX_goM 4 (51) [some (.ref 0), some (.int y1), some (.ref 61), some (.int (if y3 < (v_15_10 (f_18_10_d (h3.1 (Int32.toNatClampNeg y4)) d)) then (v_15_10 (f_18_10_d (h3.1 (Int32.toNatClampNeg y4)) d)) else y3)), some (.int (y4 + 1)), some (.int (h3.1 (Int32.toNatClampNeg y4)))] [] rfl ?_
        exact hX_wk (gLe_s (gLe_s (gLe_s (gLe_s (gLe_s (gLe_n gLe_0)))))) (ih (if y3 < (v_15_10 (f_18_10_d (h3.1 (Int32.toNatClampNeg y4)) d)) then (v_15_10 (f_18_10_d (h3.1 (Int32.toNatClampNeg y4)) d)) else y3) (y4 + 1) (f_18_10_d (h3.1 (Int32.toNatClampNeg y4)) d) q h)
      · skip
        have h := gcF c3 h
        refine hX_goM 2 (80) [some (.ref 0), some (.int y1), some (.ref 61), some (.int y3), some (.int y4), some (.int (h3.1 (Int32.toNatClampNeg y4)))] [.int 4, .ref 0] rfl ?_
        refine hX_call (r' := zR_111) rfl (ct_111_0 4 rfl) ?_
        refine hX_go 0 (83) [some (.ref 0), some (.int y1), some (.ref 61), some (.int y3), some (.int y4), some (.int (h3.1 (Int32.toNatClampNeg y4)))] [.int (v_111_0 4)] (hCm b d k s w ik ex pr wd sn qu tb ts (r0, rq) h0 h1 h2 h3 (f_111_0_fi 4 fi) R) rfl ?_
        have h := Option.some.inj h; subst h
        exact hX_end rfl rfl rfl
