/-- UpOneSide$Blind.rightLift(I)I -/
def v_17_40 (x0 : Int32) (w : hB) : Int32 := bif gCmp .lt w.2.1 30 then (bif hEq (w.2.2.2.2.2.1 (Int32.toNatClampNeg x0)) 1 then ((w.2.2.2.2.2.2.1 (Int32.toNatClampNeg x0)) + ((w.1 - w.2.1) / 2)) else (bif hEq (w.2.2.2.2.2.1 (Int32.toNatClampNeg x0)) 2 then ((w.2.2.2.2.2.2.1 (Int32.toNatClampNeg x0)) - ((w.2.2.2.2.2.2.2.2.1 1) + (w.2.2.2.2.2.2.2.1 (Int32.toNatClampNeg x0)))) else (bif hEq (w.2.2.2.2.2.1 (Int32.toNatClampNeg x0)) 3 then ((w.2.2.2.2.2.2.1 (Int32.toNatClampNeg x0)) - ((2 * (w.2.2.2.2.2.2.2.2.1 1)) + (w.2.2.2.2.2.2.2.1 (Int32.toNatClampNeg x0)))) else (bif hEq (w.2.2.2.2.2.1 (Int32.toNatClampNeg x0)) 4 then ((w.2.2.2.2.2.2.1 (Int32.toNatClampNeg x0)) - ((2 * (w.2.2.2.2.2.2.2.2.1 1)) + (w.2.2.2.2.2.2.2.1 (Int32.toNatClampNeg x0)))) else (bif hEq (w.2.2.2.2.2.1 (Int32.toNatClampNeg x0)) 5 then ((w.2.2.2.2.2.2.1 (Int32.toNatClampNeg x0)) - (w.2.2.2.2.2.2.2.2.1 1)) else (bif hEq (w.2.2.2.2.2.1 (Int32.toNatClampNeg x0)) 6 then (bif gCmp .le w.2.1 w.1 then ((w.2.2.2.2.2.2.1 (Int32.toNatClampNeg x0)) - (w.2.2.2.2.2.2.2.2.1 1)) else (((w.2.2.2.2.2.2.1 (Int32.toNatClampNeg x0)) - (w.2.2.2.2.2.2.2.2.1 1)) / 2)) else ((w.2.2.2.2.2.2.1 (Int32.toNatClampNeg x0)) - (w.2.2.2.2.2.2.2.2.1 1)))))))) else ((bif hEq (w.2.2.2.2.2.1 (Int32.toNatClampNeg x0)) 1 then ((w.2.2.2.2.2.2.1 (Int32.toNatClampNeg x0)) + ((w.1 - w.2.1) / 2)) else (bif hEq (w.2.2.2.2.2.1 (Int32.toNatClampNeg x0)) 2 then ((w.2.2.2.2.2.2.1 (Int32.toNatClampNeg x0)) - ((w.2.2.2.2.2.2.2.2.1 1) + (w.2.2.2.2.2.2.2.1 (Int32.toNatClampNeg x0)))) else (bif hEq (w.2.2.2.2.2.1 (Int32.toNatClampNeg x0)) 3 then ((w.2.2.2.2.2.2.1 (Int32.toNatClampNeg x0)) - ((2 * (w.2.2.2.2.2.2.2.2.1 1)) + (w.2.2.2.2.2.2.2.1 (Int32.toNatClampNeg x0)))) else (bif hEq (w.2.2.2.2.2.1 (Int32.toNatClampNeg x0)) 4 then ((w.2.2.2.2.2.2.1 (Int32.toNatClampNeg x0)) - ((2 * (w.2.2.2.2.2.2.2.2.1 1)) + (w.2.2.2.2.2.2.2.1 (Int32.toNatClampNeg x0)))) else (bif hEq (w.2.2.2.2.2.1 (Int32.toNatClampNeg x0)) 5 then ((w.2.2.2.2.2.2.1 (Int32.toNatClampNeg x0)) - (w.2.2.2.2.2.2.2.2.1 1)) else (bif hEq (w.2.2.2.2.2.1 (Int32.toNatClampNeg x0)) 6 then (bif gCmp .le w.2.1 w.1 then ((w.2.2.2.2.2.2.1 (Int32.toNatClampNeg x0)) - (w.2.2.2.2.2.2.2.2.1 1)) else (((w.2.2.2.2.2.2.1 (Int32.toNatClampNeg x0)) - (w.2.2.2.2.2.2.2.2.1 1)) / 2)) else ((w.2.2.2.2.2.2.1 (Int32.toNatClampNeg x0)) - (w.2.2.2.2.2.2.2.2.1 1)))))))) + (w.2.2.2.2.2.2.2.2.1 0))
set_option maxRecDepth 20000 in
set_option maxHeartbeats 1000000 in
theorem ct_17_40 {LL : Nat} {xs : Nat → Int32} {D : Nat} {b d k s w : hB} {ik ex pr wd : Int32} {sn : Nat → Int64} {qu tb : Nat → Int32} {ts : Int32} {r0 : Value} {rq : hRq} {h0 h1 h2 h3 : hSt} {fi : Nat → Int32} {R : List gE} (x0 : Int32) (o1 : gIn x0 8 = true) : hM (gO LL xs) (D + 0) zR_17 [.ref 40, .int x0] (hCm b d k s w ik ex pr wd sn qu tb ts (r0, rq) h0 h1 h2 h3 fi R) (some (.int (v_17_40 x0 w))) (hCm b d k s w ik ex pr wd sn qu tb ts (r0, rq) h0 h1 h2 h3 fi R) := by
  refine hX_go 0 0 [some (.ref 40), some (.int x0), none] [] (hCm b d k s w ik ex pr wd sn qu tb ts (r0, rq) h0 h1 h2 h3 fi R) rfl ?_
  refine hX_go 3 (5) [some (.ref 40), some (.int x0), none] [.int x0, .ref 42] (hCm b d k s w ik ex pr wd sn qu tb ts (r0, rq) h0 h1 h2 h3 fi R) rfl ?_
  refine hX_gM (gIn x0 8) 6 [some (.ref 40), some (.int x0), none] [.int (w.2.2.2.2.2.2.1 (Int32.toNatClampNeg x0))] rfl o1 ?_
  refine hX_goM 4 (12) [some (.ref 40), some (.int x0), some (.int (w.2.2.2.2.2.2.1 (Int32.toNatClampNeg x0)))] [.int x0, .ref 41] rfl ?_
  refine hX_gM (gIn x0 8) 13 [some (.ref 40), some (.int x0), some (.int (w.2.2.2.2.2.2.1 (Int32.toNatClampNeg x0)))] [.int (w.2.2.2.2.2.1 (Int32.toNatClampNeg x0))] rfl o1 ?_
  refine hX_sw (bif hEq (w.2.2.2.2.2.1 (Int32.toNatClampNeg x0)) 1 then 52 else bif hEq (w.2.2.2.2.2.1 (Int32.toNatClampNeg x0)) 2 then 69 else bif hEq (w.2.2.2.2.2.1 (Int32.toNatClampNeg x0)) 3 then 88 else bif hEq (w.2.2.2.2.2.1 (Int32.toNatClampNeg x0)) 4 then 88 else bif hEq (w.2.2.2.2.2.1 (Int32.toNatClampNeg x0)) 5 then 140 else bif hEq (w.2.2.2.2.2.1 (Int32.toNatClampNeg x0)) 6 then 109 else 140) rfl (sw_17_13 (w.2.2.2.2.2.1 (Int32.toNatClampNeg x0))) ?_
  suffices hk : hX (gO LL xs) (D + 0) zR_17 149 [some (.ref 40), some (.int x0), some (.int (bif hEq (w.2.2.2.2.2.1 (Int32.toNatClampNeg x0)) 1 then ((w.2.2.2.2.2.2.1 (Int32.toNatClampNeg x0)) + ((w.1 - w.2.1) / 2)) else (bif hEq (w.2.2.2.2.2.1 (Int32.toNatClampNeg x0)) 2 then ((w.2.2.2.2.2.2.1 (Int32.toNatClampNeg x0)) - ((w.2.2.2.2.2.2.2.2.1 1) + (w.2.2.2.2.2.2.2.1 (Int32.toNatClampNeg x0)))) else (bif hEq (w.2.2.2.2.2.1 (Int32.toNatClampNeg x0)) 3 then ((w.2.2.2.2.2.2.1 (Int32.toNatClampNeg x0)) - ((2 * (w.2.2.2.2.2.2.2.2.1 1)) + (w.2.2.2.2.2.2.2.1 (Int32.toNatClampNeg x0)))) else (bif hEq (w.2.2.2.2.2.1 (Int32.toNatClampNeg x0)) 4 then ((w.2.2.2.2.2.2.1 (Int32.toNatClampNeg x0)) - ((2 * (w.2.2.2.2.2.2.2.2.1 1)) + (w.2.2.2.2.2.2.2.1 (Int32.toNatClampNeg x0)))) else (bif hEq (w.2.2.2.2.2.1 (Int32.toNatClampNeg x0)) 5 then ((w.2.2.2.2.2.2.1 (Int32.toNatClampNeg x0)) - (w.2.2.2.2.2.2.2.2.1 1)) else (bif hEq (w.2.2.2.2.2.1 (Int32.toNatClampNeg x0)) 6 then (bif gCmp .le w.2.1 w.1 then ((w.2.2.2.2.2.2.1 (Int32.toNatClampNeg x0)) - (w.2.2.2.2.2.2.2.2.1 1)) else (((w.2.2.2.2.2.2.1 (Int32.toNatClampNeg x0)) - (w.2.2.2.2.2.2.2.2.1 1)) / 2)) else ((w.2.2.2.2.2.2.1 (Int32.toNatClampNeg x0)) - (w.2.2.2.2.2.2.2.2.1 1)))))))))] [] (hCm b d k s w ik ex pr wd sn qu tb ts (r0, rq) h0 h1 h2 h3 fi R) (some (.int (v_17_40 x0 w))) (hCm b d k s w ik ex pr wd sn qu tb ts (r0, rq) h0 h1 h2 h3 fi R) by
    refine hX_if (hEq (w.2.2.2.2.2.1 (Int32.toNatClampNeg x0)) 1) (fun c1 => ?_) (fun c1 => ?_)
    · skip
      refine hX_goM 9 (65) [some (.ref 40), some (.int x0), some (.int (w.2.2.2.2.2.2.1 (Int32.toNatClampNeg x0)))] [.int ((w.2.2.2.2.2.2.1 (Int32.toNatClampNeg x0)) + ((w.1 - w.2.1) / 2))] rfl ?_
      refine hX_goM 2 (149) [some (.ref 40), some (.int x0), some (.int ((w.2.2.2.2.2.2.1 (Int32.toNatClampNeg x0)) + ((w.1 - w.2.1) / 2)))] [] rfl ?_
      have hk := hk
      simp only [c1, cond_true, cond_false] at hk
      first | exact hk | (simp only [c1, cond_true, cond_false]; exact hk)
    · skip
      refine hX_if (hEq (w.2.2.2.2.2.1 (Int32.toNatClampNeg x0)) 2) (fun c2 => ?_) (fun c2 => ?_)
      · skip
        refine hX_goM 8 (81) [some (.ref 40), some (.int x0), some (.int (w.2.2.2.2.2.2.1 (Int32.toNatClampNeg x0)))] [.int x0, .ref 43, .int (w.2.2.2.2.2.2.2.2.1 1), .int (w.2.2.2.2.2.2.1 (Int32.toNatClampNeg x0))] rfl ?_
        refine hX_gM (gIn x0 8) 82 [some (.ref 40), some (.int x0), some (.int (w.2.2.2.2.2.2.1 (Int32.toNatClampNeg x0)))] [.int (w.2.2.2.2.2.2.2.1 (Int32.toNatClampNeg x0)), .int (w.2.2.2.2.2.2.2.2.1 1), .int (w.2.2.2.2.2.2.1 (Int32.toNatClampNeg x0))] rfl o1 ?_
        refine hX_goM 4 (149) [some (.ref 40), some (.int x0), some (.int ((w.2.2.2.2.2.2.1 (Int32.toNatClampNeg x0)) - ((w.2.2.2.2.2.2.2.2.1 1) + (w.2.2.2.2.2.2.2.1 (Int32.toNatClampNeg x0)))))] [] rfl ?_
        have hk := hk
        simp only [c1, c2, cond_true, cond_false] at hk
        first | exact hk | (simp only [c1, c2, cond_true, cond_false]; exact hk)
      · skip
        refine hX_if (hEq (w.2.2.2.2.2.1 (Int32.toNatClampNeg x0)) 3) (fun c3 => ?_) (fun c3 => ?_)
        · skip
          refine hX_goM 9 (101) [some (.ref 40), some (.int x0), some (.int (w.2.2.2.2.2.2.1 (Int32.toNatClampNeg x0)))] [.ref 43, .int (2 * (w.2.2.2.2.2.2.2.2.1 1)), .int (w.2.2.2.2.2.2.1 (Int32.toNatClampNeg x0))] rfl ?_
          refine hX_goM 1 (102) [some (.ref 40), some (.int x0), some (.int (w.2.2.2.2.2.2.1 (Int32.toNatClampNeg x0)))] [.int x0, .ref 43, .int (2 * (w.2.2.2.2.2.2.2.2.1 1)), .int (w.2.2.2.2.2.2.1 (Int32.toNatClampNeg x0))] rfl ?_
          refine hX_gM (gIn x0 8) 103 [some (.ref 40), some (.int x0), some (.int (w.2.2.2.2.2.2.1 (Int32.toNatClampNeg x0)))] [.int (w.2.2.2.2.2.2.2.1 (Int32.toNatClampNeg x0)), .int (2 * (w.2.2.2.2.2.2.2.2.1 1)), .int (w.2.2.2.2.2.2.1 (Int32.toNatClampNeg x0))] rfl o1 ?_
          refine hX_goM 4 (149) [some (.ref 40), some (.int x0), some (.int ((w.2.2.2.2.2.2.1 (Int32.toNatClampNeg x0)) - ((2 * (w.2.2.2.2.2.2.2.2.1 1)) + (w.2.2.2.2.2.2.2.1 (Int32.toNatClampNeg x0)))))] [] rfl ?_
          have hk := hk
          simp only [c1, c2, c3, cond_true, cond_false] at hk
          first | exact hk | (simp only [c1, c2, c3, cond_true, cond_false]; exact hk)
        · skip
          refine hX_if (hEq (w.2.2.2.2.2.1 (Int32.toNatClampNeg x0)) 4) (fun c4 => ?_) (fun c4 => ?_)
          · skip
            refine hX_goM 9 (101) [some (.ref 40), some (.int x0), some (.int (w.2.2.2.2.2.2.1 (Int32.toNatClampNeg x0)))] [.ref 43, .int (2 * (w.2.2.2.2.2.2.2.2.1 1)), .int (w.2.2.2.2.2.2.1 (Int32.toNatClampNeg x0))] rfl ?_
            refine hX_goM 1 (102) [some (.ref 40), some (.int x0), some (.int (w.2.2.2.2.2.2.1 (Int32.toNatClampNeg x0)))] [.int x0, .ref 43, .int (2 * (w.2.2.2.2.2.2.2.2.1 1)), .int (w.2.2.2.2.2.2.1 (Int32.toNatClampNeg x0))] rfl ?_
            refine hX_gM (gIn x0 8) 103 [some (.ref 40), some (.int x0), some (.int (w.2.2.2.2.2.2.1 (Int32.toNatClampNeg x0)))] [.int (w.2.2.2.2.2.2.2.1 (Int32.toNatClampNeg x0)), .int (2 * (w.2.2.2.2.2.2.2.2.1 1)), .int (w.2.2.2.2.2.2.1 (Int32.toNatClampNeg x0))] rfl o1 ?_
            refine hX_goM 4 (149) [some (.ref 40), some (.int x0), some (.int ((w.2.2.2.2.2.2.1 (Int32.toNatClampNeg x0)) - ((2 * (w.2.2.2.2.2.2.2.2.1 1)) + (w.2.2.2.2.2.2.2.1 (Int32.toNatClampNeg x0)))))] [] rfl ?_
            have hk := hk
            simp only [c1, c2, c3, c4, cond_true, cond_false] at hk
            first | exact hk | (simp only [c1, c2, c3, c4, cond_true, cond_false]; exact hk)
          · skip
            refine hX_if (hEq (w.2.2.2.2.2.1 (Int32.toNatClampNeg x0)) 5) (fun c5 => ?_) (fun c5 => ?_)
            · skip
              refine hX_goM 7 (149) [some (.ref 40), some (.int x0), some (.int ((w.2.2.2.2.2.2.1 (Int32.toNatClampNeg x0)) - (w.2.2.2.2.2.2.2.2.1 1)))] [] rfl ?_
              have hk := hk
              simp only [c1, c2, c3, c4, c5, cond_true, cond_false] at hk
              first | exact hk | (simp only [c1, c2, c3, c4, c5, cond_true, cond_false]; exact hk)
            · skip
              refine hX_if (hEq (w.2.2.2.2.2.1 (Int32.toNatClampNeg x0)) 6) (fun c6 => ?_) (fun c6 => ?_)
              · skip
                refine hX_goM 9 (122) [some (.ref 40), some (.int x0), some (.int ((w.2.2.2.2.2.2.1 (Int32.toNatClampNeg x0)) - (w.2.2.2.2.2.2.2.2.1 1)))] [.int w.2.1] rfl ?_
                refine hX_goM 3 (bif gCmp .le w.2.1 w.1 then 135 else 129) [some (.ref 40), some (.int x0), some (.int ((w.2.2.2.2.2.2.1 (Int32.toNatClampNeg x0)) - (w.2.2.2.2.2.2.2.2.1 1)))] [] rfl ?_
                suffices hk : hX (gO LL xs) (D + 0) zR_17 136 [some (.ref 40), some (.int x0), some (.int ((w.2.2.2.2.2.2.1 (Int32.toNatClampNeg x0)) - (w.2.2.2.2.2.2.2.2.1 1)))] [.int (bif gCmp .le w.2.1 w.1 then ((w.2.2.2.2.2.2.1 (Int32.toNatClampNeg x0)) - (w.2.2.2.2.2.2.2.2.1 1)) else (((w.2.2.2.2.2.2.1 (Int32.toNatClampNeg x0)) - (w.2.2.2.2.2.2.2.2.1 1)) / 2))] (hCm b d k s w ik ex pr wd sn qu tb ts (r0, rq) h0 h1 h2 h3 fi R) (some (.int (v_17_40 x0 w))) (hCm b d k s w ik ex pr wd sn qu tb ts (r0, rq) h0 h1 h2 h3 fi R) by
                  refine hX_if (gCmp .le w.2.1 w.1) (fun c7 => ?_) (fun c7 => ?_)
                  · skip
                    refine hX_goM 1 (136) [some (.ref 40), some (.int x0), some (.int ((w.2.2.2.2.2.2.1 (Int32.toNatClampNeg x0)) - (w.2.2.2.2.2.2.2.2.1 1)))] [.int ((w.2.2.2.2.2.2.1 (Int32.toNatClampNeg x0)) - (w.2.2.2.2.2.2.2.2.1 1))] rfl ?_
                    have hk := hk
                    simp only [c7, cond_true, cond_false] at hk
                    first | exact hk | (simp only [c7, cond_true, cond_false]; exact hk)
                  · skip
                    refine hX_goM 4 (136) [some (.ref 40), some (.int x0), some (.int ((w.2.2.2.2.2.2.1 (Int32.toNatClampNeg x0)) - (w.2.2.2.2.2.2.2.2.1 1)))] [.int (((w.2.2.2.2.2.2.1 (Int32.toNatClampNeg x0)) - (w.2.2.2.2.2.2.2.2.1 1)) / 2)] rfl ?_
                    have hk := hk
                    simp only [c7, cond_true, cond_false] at hk
                    first | exact hk | (simp only [c7, cond_true, cond_false]; exact hk)
                refine hX_goM 2 (149) [some (.ref 40), some (.int x0), some (.int (bif gCmp .le w.2.1 w.1 then ((w.2.2.2.2.2.2.1 (Int32.toNatClampNeg x0)) - (w.2.2.2.2.2.2.2.2.1 1)) else (((w.2.2.2.2.2.2.1 (Int32.toNatClampNeg x0)) - (w.2.2.2.2.2.2.2.2.1 1)) / 2)))] [] rfl ?_
                have hk := hk
                simp only [c1, c2, c3, c4, c5, c6, cond_true, cond_false] at hk
                first | exact hk | (simp only [c1, c2, c3, c4, c5, c6, cond_true, cond_false]; exact hk)
              · skip
                refine hX_goM 7 (149) [some (.ref 40), some (.int x0), some (.int ((w.2.2.2.2.2.2.1 (Int32.toNatClampNeg x0)) - (w.2.2.2.2.2.2.2.2.1 1)))] [] rfl ?_
                have hk := hk
                simp only [c1, c2, c3, c4, c5, c6, cond_true, cond_false] at hk
                first | exact hk | (simp only [c1, c2, c3, c4, c5, c6, cond_true, cond_false]; exact hk)
  refine hX_goM 4 (bif gCmp .lt w.2.1 30 then 169 else 158) [some (.ref 40), some (.int x0), some (.int (bif hEq (w.2.2.2.2.2.1 (Int32.toNatClampNeg x0)) 1 then ((w.2.2.2.2.2.2.1 (Int32.toNatClampNeg x0)) + ((w.1 - w.2.1) / 2)) else (bif hEq (w.2.2.2.2.2.1 (Int32.toNatClampNeg x0)) 2 then ((w.2.2.2.2.2.2.1 (Int32.toNatClampNeg x0)) - ((w.2.2.2.2.2.2.2.2.1 1) + (w.2.2.2.2.2.2.2.1 (Int32.toNatClampNeg x0)))) else (bif hEq (w.2.2.2.2.2.1 (Int32.toNatClampNeg x0)) 3 then ((w.2.2.2.2.2.2.1 (Int32.toNatClampNeg x0)) - ((2 * (w.2.2.2.2.2.2.2.2.1 1)) + (w.2.2.2.2.2.2.2.1 (Int32.toNatClampNeg x0)))) else (bif hEq (w.2.2.2.2.2.1 (Int32.toNatClampNeg x0)) 4 then ((w.2.2.2.2.2.2.1 (Int32.toNatClampNeg x0)) - ((2 * (w.2.2.2.2.2.2.2.2.1 1)) + (w.2.2.2.2.2.2.2.1 (Int32.toNatClampNeg x0)))) else (bif hEq (w.2.2.2.2.2.1 (Int32.toNatClampNeg x0)) 5 then ((w.2.2.2.2.2.2.1 (Int32.toNatClampNeg x0)) - (w.2.2.2.2.2.2.2.2.1 1)) else (bif hEq (w.2.2.2.2.2.1 (Int32.toNatClampNeg x0)) 6 then (bif gCmp .le w.2.1 w.1 then ((w.2.2.2.2.2.2.1 (Int32.toNatClampNeg x0)) - (w.2.2.2.2.2.2.2.2.1 1)) else (((w.2.2.2.2.2.2.1 (Int32.toNatClampNeg x0)) - (w.2.2.2.2.2.2.2.2.1 1)) / 2)) else ((w.2.2.2.2.2.2.1 (Int32.toNatClampNeg x0)) - (w.2.2.2.2.2.2.2.2.1 1)))))))))] [] rfl ?_
  suffices hk : hX (gO LL xs) (D + 0) zR_17 170 [some (.ref 40), some (.int x0), some (.int (bif hEq (w.2.2.2.2.2.1 (Int32.toNatClampNeg x0)) 1 then ((w.2.2.2.2.2.2.1 (Int32.toNatClampNeg x0)) + ((w.1 - w.2.1) / 2)) else (bif hEq (w.2.2.2.2.2.1 (Int32.toNatClampNeg x0)) 2 then ((w.2.2.2.2.2.2.1 (Int32.toNatClampNeg x0)) - ((w.2.2.2.2.2.2.2.2.1 1) + (w.2.2.2.2.2.2.2.1 (Int32.toNatClampNeg x0)))) else (bif hEq (w.2.2.2.2.2.1 (Int32.toNatClampNeg x0)) 3 then ((w.2.2.2.2.2.2.1 (Int32.toNatClampNeg x0)) - ((2 * (w.2.2.2.2.2.2.2.2.1 1)) + (w.2.2.2.2.2.2.2.1 (Int32.toNatClampNeg x0)))) else (bif hEq (w.2.2.2.2.2.1 (Int32.toNatClampNeg x0)) 4 then ((w.2.2.2.2.2.2.1 (Int32.toNatClampNeg x0)) - ((2 * (w.2.2.2.2.2.2.2.2.1 1)) + (w.2.2.2.2.2.2.2.1 (Int32.toNatClampNeg x0)))) else (bif hEq (w.2.2.2.2.2.1 (Int32.toNatClampNeg x0)) 5 then ((w.2.2.2.2.2.2.1 (Int32.toNatClampNeg x0)) - (w.2.2.2.2.2.2.2.2.1 1)) else (bif hEq (w.2.2.2.2.2.1 (Int32.toNatClampNeg x0)) 6 then (bif gCmp .le w.2.1 w.1 then ((w.2.2.2.2.2.2.1 (Int32.toNatClampNeg x0)) - (w.2.2.2.2.2.2.2.2.1 1)) else (((w.2.2.2.2.2.2.1 (Int32.toNatClampNeg x0)) - (w.2.2.2.2.2.2.2.2.1 1)) / 2)) else ((w.2.2.2.2.2.2.1 (Int32.toNatClampNeg x0)) - (w.2.2.2.2.2.2.2.2.1 1)))))))))] [.int (bif gCmp .lt w.2.1 30 then (bif hEq (w.2.2.2.2.2.1 (Int32.toNatClampNeg x0)) 1 then ((w.2.2.2.2.2.2.1 (Int32.toNatClampNeg x0)) + ((w.1 - w.2.1) / 2)) else (bif hEq (w.2.2.2.2.2.1 (Int32.toNatClampNeg x0)) 2 then ((w.2.2.2.2.2.2.1 (Int32.toNatClampNeg x0)) - ((w.2.2.2.2.2.2.2.2.1 1) + (w.2.2.2.2.2.2.2.1 (Int32.toNatClampNeg x0)))) else (bif hEq (w.2.2.2.2.2.1 (Int32.toNatClampNeg x0)) 3 then ((w.2.2.2.2.2.2.1 (Int32.toNatClampNeg x0)) - ((2 * (w.2.2.2.2.2.2.2.2.1 1)) + (w.2.2.2.2.2.2.2.1 (Int32.toNatClampNeg x0)))) else (bif hEq (w.2.2.2.2.2.1 (Int32.toNatClampNeg x0)) 4 then ((w.2.2.2.2.2.2.1 (Int32.toNatClampNeg x0)) - ((2 * (w.2.2.2.2.2.2.2.2.1 1)) + (w.2.2.2.2.2.2.2.1 (Int32.toNatClampNeg x0)))) else (bif hEq (w.2.2.2.2.2.1 (Int32.toNatClampNeg x0)) 5 then ((w.2.2.2.2.2.2.1 (Int32.toNatClampNeg x0)) - (w.2.2.2.2.2.2.2.2.1 1)) else (bif hEq (w.2.2.2.2.2.1 (Int32.toNatClampNeg x0)) 6 then (bif gCmp .le w.2.1 w.1 then ((w.2.2.2.2.2.2.1 (Int32.toNatClampNeg x0)) - (w.2.2.2.2.2.2.2.2.1 1)) else (((w.2.2.2.2.2.2.1 (Int32.toNatClampNeg x0)) - (w.2.2.2.2.2.2.2.2.1 1)) / 2)) else ((w.2.2.2.2.2.2.1 (Int32.toNatClampNeg x0)) - (w.2.2.2.2.2.2.2.2.1 1)))))))) else ((bif hEq (w.2.2.2.2.2.1 (Int32.toNatClampNeg x0)) 1 then ((w.2.2.2.2.2.2.1 (Int32.toNatClampNeg x0)) + ((w.1 - w.2.1) / 2)) else (bif hEq (w.2.2.2.2.2.1 (Int32.toNatClampNeg x0)) 2 then ((w.2.2.2.2.2.2.1 (Int32.toNatClampNeg x0)) - ((w.2.2.2.2.2.2.2.2.1 1) + (w.2.2.2.2.2.2.2.1 (Int32.toNatClampNeg x0)))) else (bif hEq (w.2.2.2.2.2.1 (Int32.toNatClampNeg x0)) 3 then ((w.2.2.2.2.2.2.1 (Int32.toNatClampNeg x0)) - ((2 * (w.2.2.2.2.2.2.2.2.1 1)) + (w.2.2.2.2.2.2.2.1 (Int32.toNatClampNeg x0)))) else (bif hEq (w.2.2.2.2.2.1 (Int32.toNatClampNeg x0)) 4 then ((w.2.2.2.2.2.2.1 (Int32.toNatClampNeg x0)) - ((2 * (w.2.2.2.2.2.2.2.2.1 1)) + (w.2.2.2.2.2.2.2.1 (Int32.toNatClampNeg x0)))) else (bif hEq (w.2.2.2.2.2.1 (Int32.toNatClampNeg x0)) 5 then ((w.2.2.2.2.2.2.1 (Int32.toNatClampNeg x0)) - (w.2.2.2.2.2.2.2.2.1 1)) else (bif hEq (w.2.2.2.2.2.1 (Int32.toNatClampNeg x0)) 6 then (bif gCmp .le w.2.1 w.1 then ((w.2.2.2.2.2.2.1 (Int32.toNatClampNeg x0)) - (w.2.2.2.2.2.2.2.2.1 1)) else (((w.2.2.2.2.2.2.1 (Int32.toNatClampNeg x0)) - (w.2.2.2.2.2.2.2.2.1 1)) / 2)) else ((w.2.2.2.2.2.2.1 (Int32.toNatClampNeg x0)) - (w.2.2.2.2.2.2.2.2.1 1)))))))) + (w.2.2.2.2.2.2.2.2.1 0)))] (hCm b d k s w ik ex pr wd sn qu tb ts (r0, rq) h0 h1 h2 h3 fi R) (some (.int (v_17_40 x0 w))) (hCm b d k s w ik ex pr wd sn qu tb ts (r0, rq) h0 h1 h2 h3 fi R) by
    refine hX_if (gCmp .lt w.2.1 30) (fun c8 => ?_) (fun c8 => ?_)
    · skip
      refine hX_goM 1 (170) [some (.ref 40), some (.int x0), some (.int (bif hEq (w.2.2.2.2.2.1 (Int32.toNatClampNeg x0)) 1 then ((w.2.2.2.2.2.2.1 (Int32.toNatClampNeg x0)) + ((w.1 - w.2.1) / 2)) else (bif hEq (w.2.2.2.2.2.1 (Int32.toNatClampNeg x0)) 2 then ((w.2.2.2.2.2.2.1 (Int32.toNatClampNeg x0)) - ((w.2.2.2.2.2.2.2.2.1 1) + (w.2.2.2.2.2.2.2.1 (Int32.toNatClampNeg x0)))) else (bif hEq (w.2.2.2.2.2.1 (Int32.toNatClampNeg x0)) 3 then ((w.2.2.2.2.2.2.1 (Int32.toNatClampNeg x0)) - ((2 * (w.2.2.2.2.2.2.2.2.1 1)) + (w.2.2.2.2.2.2.2.1 (Int32.toNatClampNeg x0)))) else (bif hEq (w.2.2.2.2.2.1 (Int32.toNatClampNeg x0)) 4 then ((w.2.2.2.2.2.2.1 (Int32.toNatClampNeg x0)) - ((2 * (w.2.2.2.2.2.2.2.2.1 1)) + (w.2.2.2.2.2.2.2.1 (Int32.toNatClampNeg x0)))) else (bif hEq (w.2.2.2.2.2.1 (Int32.toNatClampNeg x0)) 5 then ((w.2.2.2.2.2.2.1 (Int32.toNatClampNeg x0)) - (w.2.2.2.2.2.2.2.2.1 1)) else (bif hEq (w.2.2.2.2.2.1 (Int32.toNatClampNeg x0)) 6 then (bif gCmp .le w.2.1 w.1 then ((w.2.2.2.2.2.2.1 (Int32.toNatClampNeg x0)) - (w.2.2.2.2.2.2.2.2.1 1)) else (((w.2.2.2.2.2.2.1 (Int32.toNatClampNeg x0)) - (w.2.2.2.2.2.2.2.2.1 1)) / 2)) else ((w.2.2.2.2.2.2.1 (Int32.toNatClampNeg x0)) - (w.2.2.2.2.2.2.2.2.1 1)))))))))] [.int (bif hEq (w.2.2.2.2.2.1 (Int32.toNatClampNeg x0)) 1 then ((w.2.2.2.2.2.2.1 (Int32.toNatClampNeg x0)) + ((w.1 - w.2.1) / 2)) else (bif hEq (w.2.2.2.2.2.1 (Int32.toNatClampNeg x0)) 2 then ((w.2.2.2.2.2.2.1 (Int32.toNatClampNeg x0)) - ((w.2.2.2.2.2.2.2.2.1 1) + (w.2.2.2.2.2.2.2.1 (Int32.toNatClampNeg x0)))) else (bif hEq (w.2.2.2.2.2.1 (Int32.toNatClampNeg x0)) 3 then ((w.2.2.2.2.2.2.1 (Int32.toNatClampNeg x0)) - ((2 * (w.2.2.2.2.2.2.2.2.1 1)) + (w.2.2.2.2.2.2.2.1 (Int32.toNatClampNeg x0)))) else (bif hEq (w.2.2.2.2.2.1 (Int32.toNatClampNeg x0)) 4 then ((w.2.2.2.2.2.2.1 (Int32.toNatClampNeg x0)) - ((2 * (w.2.2.2.2.2.2.2.2.1 1)) + (w.2.2.2.2.2.2.2.1 (Int32.toNatClampNeg x0)))) else (bif hEq (w.2.2.2.2.2.1 (Int32.toNatClampNeg x0)) 5 then ((w.2.2.2.2.2.2.1 (Int32.toNatClampNeg x0)) - (w.2.2.2.2.2.2.2.2.1 1)) else (bif hEq (w.2.2.2.2.2.1 (Int32.toNatClampNeg x0)) 6 then (bif gCmp .le w.2.1 w.1 then ((w.2.2.2.2.2.2.1 (Int32.toNatClampNeg x0)) - (w.2.2.2.2.2.2.2.2.1 1)) else (((w.2.2.2.2.2.2.1 (Int32.toNatClampNeg x0)) - (w.2.2.2.2.2.2.2.2.1 1)) / 2)) else ((w.2.2.2.2.2.2.1 (Int32.toNatClampNeg x0)) - (w.2.2.2.2.2.2.2.2.1 1))))))))] rfl ?_
      have hk := hk
      simp only [c8, cond_true, cond_false] at hk
      first | exact hk | (simp only [c8, cond_true, cond_false]; exact hk)
    · skip
      refine hX_goM 7 (170) [some (.ref 40), some (.int x0), some (.int (bif hEq (w.2.2.2.2.2.1 (Int32.toNatClampNeg x0)) 1 then ((w.2.2.2.2.2.2.1 (Int32.toNatClampNeg x0)) + ((w.1 - w.2.1) / 2)) else (bif hEq (w.2.2.2.2.2.1 (Int32.toNatClampNeg x0)) 2 then ((w.2.2.2.2.2.2.1 (Int32.toNatClampNeg x0)) - ((w.2.2.2.2.2.2.2.2.1 1) + (w.2.2.2.2.2.2.2.1 (Int32.toNatClampNeg x0)))) else (bif hEq (w.2.2.2.2.2.1 (Int32.toNatClampNeg x0)) 3 then ((w.2.2.2.2.2.2.1 (Int32.toNatClampNeg x0)) - ((2 * (w.2.2.2.2.2.2.2.2.1 1)) + (w.2.2.2.2.2.2.2.1 (Int32.toNatClampNeg x0)))) else (bif hEq (w.2.2.2.2.2.1 (Int32.toNatClampNeg x0)) 4 then ((w.2.2.2.2.2.2.1 (Int32.toNatClampNeg x0)) - ((2 * (w.2.2.2.2.2.2.2.2.1 1)) + (w.2.2.2.2.2.2.2.1 (Int32.toNatClampNeg x0)))) else (bif hEq (w.2.2.2.2.2.1 (Int32.toNatClampNeg x0)) 5 then ((w.2.2.2.2.2.2.1 (Int32.toNatClampNeg x0)) - (w.2.2.2.2.2.2.2.2.1 1)) else (bif hEq (w.2.2.2.2.2.1 (Int32.toNatClampNeg x0)) 6 then (bif gCmp .le w.2.1 w.1 then ((w.2.2.2.2.2.2.1 (Int32.toNatClampNeg x0)) - (w.2.2.2.2.2.2.2.2.1 1)) else (((w.2.2.2.2.2.2.1 (Int32.toNatClampNeg x0)) - (w.2.2.2.2.2.2.2.2.1 1)) / 2)) else ((w.2.2.2.2.2.2.1 (Int32.toNatClampNeg x0)) - (w.2.2.2.2.2.2.2.2.1 1)))))))))] [.int ((bif hEq (w.2.2.2.2.2.1 (Int32.toNatClampNeg x0)) 1 then ((w.2.2.2.2.2.2.1 (Int32.toNatClampNeg x0)) + ((w.1 - w.2.1) / 2)) else (bif hEq (w.2.2.2.2.2.1 (Int32.toNatClampNeg x0)) 2 then ((w.2.2.2.2.2.2.1 (Int32.toNatClampNeg x0)) - ((w.2.2.2.2.2.2.2.2.1 1) + (w.2.2.2.2.2.2.2.1 (Int32.toNatClampNeg x0)))) else (bif hEq (w.2.2.2.2.2.1 (Int32.toNatClampNeg x0)) 3 then ((w.2.2.2.2.2.2.1 (Int32.toNatClampNeg x0)) - ((2 * (w.2.2.2.2.2.2.2.2.1 1)) + (w.2.2.2.2.2.2.2.1 (Int32.toNatClampNeg x0)))) else (bif hEq (w.2.2.2.2.2.1 (Int32.toNatClampNeg x0)) 4 then ((w.2.2.2.2.2.2.1 (Int32.toNatClampNeg x0)) - ((2 * (w.2.2.2.2.2.2.2.2.1 1)) + (w.2.2.2.2.2.2.2.1 (Int32.toNatClampNeg x0)))) else (bif hEq (w.2.2.2.2.2.1 (Int32.toNatClampNeg x0)) 5 then ((w.2.2.2.2.2.2.1 (Int32.toNatClampNeg x0)) - (w.2.2.2.2.2.2.2.2.1 1)) else (bif hEq (w.2.2.2.2.2.1 (Int32.toNatClampNeg x0)) 6 then (bif gCmp .le w.2.1 w.1 then ((w.2.2.2.2.2.2.1 (Int32.toNatClampNeg x0)) - (w.2.2.2.2.2.2.2.2.1 1)) else (((w.2.2.2.2.2.2.1 (Int32.toNatClampNeg x0)) - (w.2.2.2.2.2.2.2.2.1 1)) / 2)) else ((w.2.2.2.2.2.2.1 (Int32.toNatClampNeg x0)) - (w.2.2.2.2.2.2.2.2.1 1)))))))) + (w.2.2.2.2.2.2.2.2.1 0))] rfl ?_
      have hk := hk
      simp only [c8, cond_true, cond_false] at hk
      first | exact hk | (simp only [c8, cond_true, cond_false]; exact hk)
  exact hX_end rfl (rfl) (rfl)

/-- UpOneSide$Blind.move(I)V -/
def f_18_40_w (x0 : Int32) (w : hB) : hB := (if 0 < (if (w.1 + (v_16_40 x0 w)) < 60 then (w.1 + (v_16_40 x0 w)) else 60) then (if (w.1 + (v_16_40 x0 w)) < 60 then (w.1 + (v_16_40 x0 w)) else 60) else 0, if 0 < (if (w.2.1 + (v_17_40 x0 w)) < 60 then (w.2.1 + (v_17_40 x0 w)) else 60) then (if (w.2.1 + (v_17_40 x0 w)) < 60 then (w.2.1 + (v_17_40 x0 w)) else 60) else 0, w.2.2)
set_option maxRecDepth 20000 in
set_option maxHeartbeats 1000000 in
theorem ct_18_40 {LL : Nat} {xs : Nat → Int32} {D : Nat} {b d k s w : hB} {ik ex pr wd : Int32} {sn : Nat → Int64} {qu tb : Nat → Int32} {ts : Int32} {r0 : Value} {rq : hRq} {h0 h1 h2 h3 : hSt} {fi : Nat → Int32} {R : List gE} (x0 : Int32) (o1 : gIn x0 8 = true) : hM (gO LL xs) (D + 1) zR_18 [.ref 40, .int x0] (hCm b d k s w ik ex pr wd sn qu tb ts (r0, rq) h0 h1 h2 h3 fi R) none (hCm b d k s (f_18_40_w x0 w) ik ex pr wd sn qu tb ts (r0, rq) h0 h1 h2 h3 fi R) := by
  refine hX_go 0 0 [some (.ref 40), some (.int x0), none, none] [] (hCm b d k s w ik ex pr wd sn qu tb ts (r0, rq) h0 h1 h2 h3 fi R) rfl ?_
  refine hX_go 4 (6) [some (.ref 40), some (.int x0), none, none] [.int x0, .ref 40, .int w.1] (hCm b d k s w ik ex pr wd sn qu tb ts (r0, rq) h0 h1 h2 h3 fi R) rfl ?_
  refine hX_call (r' := zR_16) rfl (ct_16_40 x0 o1) ?_
  refine hX_goM 6 (17) [some (.ref 40), some (.int x0), some (.int (w.1 + (v_16_40 x0 w))), none] [.int x0, .ref 40, .int w.2.1] rfl ?_
  refine hX_call (r' := zR_17) rfl (ct_17_40 x0 o1) ?_
  refine hX_go 9 (36) [some (.ref 40), some (.int x0), some (.int (w.1 + (v_16_40 x0 w))), some (.int (w.2.1 + (v_17_40 x0 w)))] [] (hCm b d k s (if 0 < (if (w.1 + (v_16_40 x0 w)) < 60 then (w.1 + (v_16_40 x0 w)) else 60) then (if (w.1 + (v_16_40 x0 w)) < 60 then (w.1 + (v_16_40 x0 w)) else 60) else 0, w.2) ik ex pr wd sn qu tb ts (r0, rq) h0 h1 h2 h3 fi R) rfl ?_
  refine hX_go 7 (50) [some (.ref 40), some (.int x0), some (.int (w.1 + (v_16_40 x0 w))), some (.int (w.2.1 + (v_17_40 x0 w)))] [] (hCm b d k s (if 0 < (if (w.1 + (v_16_40 x0 w)) < 60 then (w.1 + (v_16_40 x0 w)) else 60) then (if (w.1 + (v_16_40 x0 w)) < 60 then (w.1 + (v_16_40 x0 w)) else 60) else 0, if 0 < (if (w.2.1 + (v_17_40 x0 w)) < 60 then (w.2.1 + (v_17_40 x0 w)) else 60) then (if (w.2.1 + (v_17_40 x0 w)) < 60 then (w.2.1 + (v_17_40 x0 w)) else 60) else 0, w.2.2) ik ex pr wd sn qu tb ts (r0, rq) h0 h1 h2 h3 fi R) rfl ?_
  exact hX_end rfl (rfl) (rfl)

/-- UpOneSide$Search.steps(I)I -/
def v_50_28 (x0 : Int32) (qu : Nat → Int32) : Int32 := (qu (Int32.toNatClampNeg x0)) >>> (15 &&& 31)
set_option maxRecDepth 20000 in
set_option maxHeartbeats 1000000 in
theorem ct_50_28 {LL : Nat} {xs : Nat → Int32} {D : Nat} {b d k s w : hB} {ik ex pr wd : Int32} {sn : Nat → Int64} {qu tb : Nat → Int32} {ts : Int32} {r0 : Value} {rq : hRq} {h0 h1 h2 h3 : hSt} {fi : Nat → Int32} {R : List gE} (x0 : Int32) (o1 : gIn x0 3721 = true) : hM (gO LL xs) (D + 0) zR_50 [.ref 28, .int x0] (hCm b d k s w ik ex pr wd sn qu tb ts (r0, rq) h0 h1 h2 h3 fi R) (some (.int (v_50_28 x0 qu))) (hCm b d k s w ik ex pr wd sn qu tb ts (r0, rq) h0 h1 h2 h3 fi R) := by
  refine hX_go 0 0 [some (.ref 28), some (.int x0)] [] (hCm b d k s w ik ex pr wd sn qu tb ts (r0, rq) h0 h1 h2 h3 fi R) rfl ?_
  refine hX_go 3 (5) [some (.ref 28), some (.int x0)] [.int x0, .ref 30] (hCm b d k s w ik ex pr wd sn qu tb ts (r0, rq) h0 h1 h2 h3 fi R) rfl ?_
  refine hX_gM (gIn x0 3721) 6 [some (.ref 28), some (.int x0)] [.int (qu (Int32.toNatClampNeg x0))] rfl o1 ?_
  refine hX_goM 2 (9) [some (.ref 28), some (.int x0)] [.int ((qu (Int32.toNatClampNeg x0)) >>> (15 &&& 31))] rfl ?_
  exact hX_end rfl (rfl) (rfl)

/-- UpOneSide$Search.opening(I)I -/
def v_49_28 (x0 : Int32) (qu : Nat → Int32) : Int32 := ((qu (Int32.toNatClampNeg x0)) >>> (12 &&& 31)) &&& 7
set_option maxRecDepth 20000 in
set_option maxHeartbeats 1000000 in
theorem ct_49_28 {LL : Nat} {xs : Nat → Int32} {D : Nat} {b d k s w : hB} {ik ex pr wd : Int32} {sn : Nat → Int64} {qu tb : Nat → Int32} {ts : Int32} {r0 : Value} {rq : hRq} {h0 h1 h2 h3 : hSt} {fi : Nat → Int32} {R : List gE} (x0 : Int32) (o1 : gIn x0 3721 = true) : hM (gO LL xs) (D + 0) zR_49 [.ref 28, .int x0] (hCm b d k s w ik ex pr wd sn qu tb ts (r0, rq) h0 h1 h2 h3 fi R) (some (.int (v_49_28 x0 qu))) (hCm b d k s w ik ex pr wd sn qu tb ts (r0, rq) h0 h1 h2 h3 fi R) := by
  refine hX_go 0 0 [some (.ref 28), some (.int x0)] [] (hCm b d k s w ik ex pr wd sn qu tb ts (r0, rq) h0 h1 h2 h3 fi R) rfl ?_
  refine hX_go 3 (5) [some (.ref 28), some (.int x0)] [.int x0, .ref 30] (hCm b d k s w ik ex pr wd sn qu tb ts (r0, rq) h0 h1 h2 h3 fi R) rfl ?_
  refine hX_gM (gIn x0 3721) 6 [some (.ref 28), some (.int x0)] [.int (qu (Int32.toNatClampNeg x0))] rfl o1 ?_
  refine hX_goM 4 (12) [some (.ref 28), some (.int x0)] [.int (((qu (Int32.toNatClampNeg x0)) >>> (12 &&& 31)) &&& 7)] rfl ?_
  exact hX_end rfl (rfl) (rfl)

/-- UpOneSide$Blind.movesLike: the loop at 41 -/
def lp_11_31_1_41 (N : Nat) (b : hB) (s : hB) : Nat → Int32 → Int32 → Option (Int32 × Int32)
  | 0, _, _ => none
  | n + 1, y2, y3 =>
    (bif gCmp .gt y3 3 then
      some (y2, y3)
    else
      (bif (gCmp .eq y2 0) || (gIn y3 6) then lp_11_31_1_41 N b s n (bif gCmp .eq y2 0 then 0 else (bif gCmp .ne (s.2.2.2.2.2.2.2.2.1 (Int32.toNatClampNeg y3)) (b.2.2.2.2.2.2.2.2.1 (Int32.toNatClampNeg y3)) then 0 else 1)) (y3 + 1) else none))
set_option maxRecDepth 20000 in
set_option maxHeartbeats 4000000 in
theorem lt_11_31_1_41 {LL : Nat} {xs : Nat → Int32} {D N : Nat} {b d k s w : hB} {ik ex pr wd : Int32} {sn : Nat → Int64} {qu tb : Nat → Int32} {ts : Int32} {r0 : Value} {rq : hRq} {h0 h1 h2 h3 : hSt} {fi : Nat → Int32} {R : List gE} {v : Option Value} {M' : List gE} : ∀ (n : Nat) (y2 : Int32) (y3 : Int32) (q : Int32 × Int32), lp_11_31_1_41 N b s n y2 y3 = some q → (kk : hX (gO LL xs) (D + 0) zR_11 77 [some (.ref 31), some (.ref 1), some (.int q.1), some (.int q.2)] [] (hCm b d k s w ik ex pr wd sn qu tb ts (r0, rq) h0 h1 h2 h3 fi R) v M') → hX (gO LL xs) (D + 0) zR_11 41 [some (.ref 31), some (.ref 1), some (.int y2), some (.int y3)] [] (hCm b d k s w ik ex pr wd sn qu tb ts (r0, rq) h0 h1 h2 h3 fi R) v M' := by
  intro n
  induction n with
  | zero => intro y2 y3 q h; cases h
  | succ n ih =>
    intro y2 y3 q h kk
    rw [lp_11_31_1_41] at h
    refine hX_go 3 (bif gCmp .gt y3 3 then 77 else 46) [some (.ref 31), some (.ref 1), some (.int y2), some (.int y3)] [] (hCm b d k s w ik ex pr wd sn qu tb ts (r0, rq) h0 h1 h2 h3 fi R) rfl ?_
    refine hX_if (gCmp .gt y3 3) (fun c1 => ?_) (fun c1 => ?_)
    · skip
      have h := gcT c1 h
      have h := Option.some.inj h; subst h
      exact kk
    · skip
      have h := gcF c1 h
      refine hX_goM 2 (bif gCmp .eq y2 0 then 69 else 50) [some (.ref 31), some (.ref 1), some (.int y2), some (.int y3)] [] rfl ?_
      revert h; refine gCondR fun o3 h => ?_
      refine hX_mrg 70 [some (.ref 31), some (.ref 1), some (.int y2), some (.int y3)] [.int (bif gCmp .eq y2 0 then 0 else (bif gCmp .ne (s.2.2.2.2.2.2.2.2.1 (Int32.toNatClampNeg y3)) (b.2.2.2.2.2.2.2.2.1 (Int32.toNatClampNeg y3)) then 0 else 1))] (hCm b d k s w ik ex pr wd sn qu tb ts (r0, rq) h0 h1 h2 h3 fi R) (fun hk => ?_) ?_
      · skip
        refine hX_if (gCmp .eq y2 0) (fun c5 => ?_) (fun c5 => ?_)
        · skip
          refine hX_goM 1 (70) [some (.ref 31), some (.ref 1), some (.int y2), some (.int y3)] [.int 0] rfl ?_
          have hk := hk
          simp only [c5, cond_true, cond_false] at hk
          first | exact hk | (simp only [c5, cond_true, cond_false]; exact hk)
        · skip
          refine hX_goM 3 (55) [some (.ref 31), some (.ref 1), some (.int y2), some (.int y3)] [.int y3, .ref 35] rfl ?_
          refine hX_gM (gIn y3 6) 56 [some (.ref 31), some (.ref 1), some (.int y2), some (.int y3)] [.int (s.2.2.2.2.2.2.2.2.1 (Int32.toNatClampNeg y3))] rfl (gImpF o3 c5) ?_
          refine hX_goM 3 (61) [some (.ref 31), some (.ref 1), some (.int y2), some (.int y3)] [.int y3, .ref 5, .int (s.2.2.2.2.2.2.2.2.1 (Int32.toNatClampNeg y3))] rfl ?_
          refine hX_gM (gIn y3 6) 62 [some (.ref 31), some (.ref 1), some (.int y2), some (.int y3)] [.int (b.2.2.2.2.2.2.2.2.1 (Int32.toNatClampNeg y3)), .int (s.2.2.2.2.2.2.2.2.1 (Int32.toNatClampNeg y3))] rfl (gImpF o3 c5) ?_
          refine hX_goM 1 (bif gCmp .ne (s.2.2.2.2.2.2.2.2.1 (Int32.toNatClampNeg y3)) (b.2.2.2.2.2.2.2.2.1 (Int32.toNatClampNeg y3)) then 69 else 65) [some (.ref 31), some (.ref 1), some (.int y2), some (.int y3)] [] rfl ?_
          refine hX_if (gCmp .ne (s.2.2.2.2.2.2.2.2.1 (Int32.toNatClampNeg y3)) (b.2.2.2.2.2.2.2.2.1 (Int32.toNatClampNeg y3))) (fun c6 => ?_) (fun c6 => ?_)
          · skip
            refine hX_goM 1 (70) [some (.ref 31), some (.ref 1), some (.int y2), some (.int y3)] [.int 0] rfl ?_
            have hk := hk
            simp only [c5, c6, cond_true, cond_false] at hk
            first | exact hk | (simp only [c5, c6, cond_true, cond_false]; exact hk)
          · skip
            refine hX_goM 2 (70) [some (.ref 31), some (.ref 1), some (.int y2), some (.int y3)] [.int 1] rfl ?_
            have hk := hk
            simp only [c5, c6, cond_true, cond_false] at hk
            first | exact hk | (simp only [c5, c6, cond_true, cond_false]; exact hk)
      refine hX_goM 3 (41) [some (.ref 31), some (.ref 1), some (.int (bif gCmp .eq y2 0 then 0 else (bif gCmp .ne (s.2.2.2.2.2.2.2.2.1 (Int32.toNatClampNeg y3)) (b.2.2.2.2.2.2.2.2.1 (Int32.toNatClampNeg y3)) then 0 else 1))), some (.int (y3 + 1))] [] rfl ?_
      exact ih (bif gCmp .eq y2 0 then 0 else (bif gCmp .ne (s.2.2.2.2.2.2.2.2.1 (Int32.toNatClampNeg y3)) (b.2.2.2.2.2.2.2.2.1 (Int32.toNatClampNeg y3)) then 0 else 1)) (y3 + 1) q h kk

/-- UpOneSide$Blind.movesLike: the loop at 79 -/
def lp_11_31_1_79 (N : Nat) (b : hB) (s : hB) : Nat → Int32 → Int32 → Option (Int32 × Int32)
  | 0, _, _ => none
  | n + 1, y2, y3 =>
    (bif gCmp .eq y2 0 then
      some (y2, y3)
    else
      (bif gCmp .ge y3 s.2.2.2.2.1 then
        some (y2, y3)
      else
        (bif gCmp .ge y3 8 then
          some (y2, y3)
        else
          (bif gIn y3 8 then (bif gIn y3 8 then (bif (gCmp .ne (s.2.2.2.2.2.1 (Int32.toNatClampNeg y3)) (b.2.2.2.2.2.1 (Int32.toNatClampNeg y3))) || (gIn y3 8) then lp_11_31_1_79 N b s n (bif gCmp .ne (s.2.2.2.2.2.1 (Int32.toNatClampNeg y3)) (b.2.2.2.2.2.1 (Int32.toNatClampNeg y3)) then 0 else (bif gCmp .ne (s.2.2.2.2.2.2.1 (Int32.toNatClampNeg y3)) (b.2.2.2.2.2.2.1 (Int32.toNatClampNeg y3)) then 0 else (bif gCmp .ne (s.2.2.2.2.2.2.2.1 (Int32.toNatClampNeg y3)) (b.2.2.2.2.2.2.2.1 (Int32.toNatClampNeg y3)) then 0 else 1))) (y3 + 1) else none) else none) else none))))
set_option maxRecDepth 20000 in
set_option maxHeartbeats 4000000 in
theorem lt_11_31_1_79 {LL : Nat} {xs : Nat → Int32} {D N : Nat} {b d k s w : hB} {ik ex pr wd : Int32} {sn : Nat → Int64} {qu tb : Nat → Int32} {ts : Int32} {r0 : Value} {rq : hRq} {h0 h1 h2 h3 : hSt} {fi : Nat → Int32} {R : List gE} {v : Option Value} {M' : List gE} : ∀ (n : Nat) (y2 : Int32) (y3 : Int32) (q : Int32 × Int32), lp_11_31_1_79 N b s n y2 y3 = some q → (kk : hX (gO LL xs) (D + 0) zR_11 154 [some (.ref 31), some (.ref 1), some (.int q.1), some (.int q.2)] [] (hCm b d k s w ik ex pr wd sn qu tb ts (r0, rq) h0 h1 h2 h3 fi R) v M') → hX (gO LL xs) (D + 0) zR_11 79 [some (.ref 31), some (.ref 1), some (.int y2), some (.int y3)] [] (hCm b d k s w ik ex pr wd sn qu tb ts (r0, rq) h0 h1 h2 h3 fi R) v M' := by
  intro n
  induction n with
  | zero => intro y2 y3 q h; cases h
  | succ n ih =>
    intro y2 y3 q h kk
    rw [lp_11_31_1_79] at h
    refine hX_go 2 (bif gCmp .eq y2 0 then 154 else 83) [some (.ref 31), some (.ref 1), some (.int y2), some (.int y3)] [] (hCm b d k s w ik ex pr wd sn qu tb ts (r0, rq) h0 h1 h2 h3 fi R) rfl ?_
    refine hX_if (gCmp .eq y2 0) (fun c1 => ?_) (fun c1 => ?_)
    · skip
      have h := gcT c1 h
      have h := Option.some.inj h; subst h
      exact kk
    · skip
      have h := gcF c1 h
      refine hX_goM 4 (bif gCmp .ge y3 s.2.2.2.2.1 then 154 else 91) [some (.ref 31), some (.ref 1), some (.int y2), some (.int y3)] [] rfl ?_
      refine hX_if (gCmp .ge y3 s.2.2.2.2.1) (fun c2 => ?_) (fun c2 => ?_)
      · skip
        have h := gcT c2 h
        have h := Option.some.inj h; subst h
        exact kk
      · skip
        have h := gcF c2 h
        refine hX_goM 3 (bif gCmp .ge y3 8 then 154 else 97) [some (.ref 31), some (.ref 1), some (.int y2), some (.int y3)] [] rfl ?_
        refine hX_if (gCmp .ge y3 8) (fun c3 => ?_) (fun c3 => ?_)
        · skip
          have h := gcT c3 h
          have h := Option.some.inj h; subst h
          exact kk
        · skip
          have h := gcF c3 h
          refine hX_goM 3 (102) [some (.ref 31), some (.ref 1), some (.int y2), some (.int y3)] [.int y3, .ref 32] rfl ?_
          revert h; refine gCondR fun g4 h => ?_
          refine hX_gM (gIn y3 8) 103 [some (.ref 31), some (.ref 1), some (.int y2), some (.int y3)] [.int (s.2.2.2.2.2.1 (Int32.toNatClampNeg y3))] rfl g4 ?_
          refine hX_goM 3 (108) [some (.ref 31), some (.ref 1), some (.int y2), some (.int y3)] [.int y3, .ref 2, .int (s.2.2.2.2.2.1 (Int32.toNatClampNeg y3))] rfl ?_
          revert h; refine gCondR fun g5 h => ?_
          refine hX_gM (gIn y3 8) 109 [some (.ref 31), some (.ref 1), some (.int y2), some (.int y3)] [.int (b.2.2.2.2.2.1 (Int32.toNatClampNeg y3)), .int (s.2.2.2.2.2.1 (Int32.toNatClampNeg y3))] rfl g5 ?_
          refine hX_goM 1 (bif gCmp .ne (s.2.2.2.2.2.1 (Int32.toNatClampNeg y3)) (b.2.2.2.2.2.1 (Int32.toNatClampNeg y3)) then 146 else 112) [some (.ref 31), some (.ref 1), some (.int y2), some (.int y3)] [] rfl ?_
          revert h; refine gCondR fun o7 h => ?_
          refine hX_mrg 147 [some (.ref 31), some (.ref 1), some (.int y2), some (.int y3)] [.int (bif gCmp .ne (s.2.2.2.2.2.1 (Int32.toNatClampNeg y3)) (b.2.2.2.2.2.1 (Int32.toNatClampNeg y3)) then 0 else (bif gCmp .ne (s.2.2.2.2.2.2.1 (Int32.toNatClampNeg y3)) (b.2.2.2.2.2.2.1 (Int32.toNatClampNeg y3)) then 0 else (bif gCmp .ne (s.2.2.2.2.2.2.2.1 (Int32.toNatClampNeg y3)) (b.2.2.2.2.2.2.2.1 (Int32.toNatClampNeg y3)) then 0 else 1)))] (hCm b d k s w ik ex pr wd sn qu tb ts (r0, rq) h0 h1 h2 h3 fi R) (fun hk => ?_) ?_
          · skip
            refine hX_if (gCmp .ne (s.2.2.2.2.2.1 (Int32.toNatClampNeg y3)) (b.2.2.2.2.2.1 (Int32.toNatClampNeg y3))) (fun c10 => ?_) (fun c10 => ?_)
            · skip
              refine hX_goM 1 (147) [some (.ref 31), some (.ref 1), some (.int y2), some (.int y3)] [.int 0] rfl ?_
              have hk := hk
              simp only [c10, cond_true, cond_false] at hk
              first | exact hk | (simp only [c10, cond_true, cond_false]; exact hk)
            · skip
              refine hX_goM 3 (117) [some (.ref 31), some (.ref 1), some (.int y2), some (.int y3)] [.int y3, .ref 33] rfl ?_
              refine hX_gM (gIn y3 8) 118 [some (.ref 31), some (.ref 1), some (.int y2), some (.int y3)] [.int (s.2.2.2.2.2.2.1 (Int32.toNatClampNeg y3))] rfl (gImpF o7 c10) ?_
              refine hX_goM 3 (123) [some (.ref 31), some (.ref 1), some (.int y2), some (.int y3)] [.int y3, .ref 3, .int (s.2.2.2.2.2.2.1 (Int32.toNatClampNeg y3))] rfl ?_
              refine hX_gM (gIn y3 8) 124 [some (.ref 31), some (.ref 1), some (.int y2), some (.int y3)] [.int (b.2.2.2.2.2.2.1 (Int32.toNatClampNeg y3)), .int (s.2.2.2.2.2.2.1 (Int32.toNatClampNeg y3))] rfl (gImpF o7 c10) ?_
              refine hX_goM 1 (bif gCmp .ne (s.2.2.2.2.2.2.1 (Int32.toNatClampNeg y3)) (b.2.2.2.2.2.2.1 (Int32.toNatClampNeg y3)) then 146 else 127) [some (.ref 31), some (.ref 1), some (.int y2), some (.int y3)] [] rfl ?_
              refine hX_if (gCmp .ne (s.2.2.2.2.2.2.1 (Int32.toNatClampNeg y3)) (b.2.2.2.2.2.2.1 (Int32.toNatClampNeg y3))) (fun c11 => ?_) (fun c11 => ?_)
              · skip
                refine hX_goM 1 (147) [some (.ref 31), some (.ref 1), some (.int y2), some (.int y3)] [.int 0] rfl ?_
                have hk := hk
                simp only [c10, c11, cond_true, cond_false] at hk
                first | exact hk | (simp only [c10, c11, cond_true, cond_false]; exact hk)
              · skip
                refine hX_goM 3 (132) [some (.ref 31), some (.ref 1), some (.int y2), some (.int y3)] [.int y3, .ref 34] rfl ?_
                refine hX_gM (gIn y3 8) 133 [some (.ref 31), some (.ref 1), some (.int y2), some (.int y3)] [.int (s.2.2.2.2.2.2.2.1 (Int32.toNatClampNeg y3))] rfl (gImpF o7 c10) ?_
                refine hX_goM 3 (138) [some (.ref 31), some (.ref 1), some (.int y2), some (.int y3)] [.int y3, .ref 4, .int (s.2.2.2.2.2.2.2.1 (Int32.toNatClampNeg y3))] rfl ?_
                refine hX_gM (gIn y3 8) 139 [some (.ref 31), some (.ref 1), some (.int y2), some (.int y3)] [.int (b.2.2.2.2.2.2.2.1 (Int32.toNatClampNeg y3)), .int (s.2.2.2.2.2.2.2.1 (Int32.toNatClampNeg y3))] rfl (gImpF o7 c10) ?_
                refine hX_goM 1 (bif gCmp .ne (s.2.2.2.2.2.2.2.1 (Int32.toNatClampNeg y3)) (b.2.2.2.2.2.2.2.1 (Int32.toNatClampNeg y3)) then 146 else 142) [some (.ref 31), some (.ref 1), some (.int y2), some (.int y3)] [] rfl ?_
                refine hX_if (gCmp .ne (s.2.2.2.2.2.2.2.1 (Int32.toNatClampNeg y3)) (b.2.2.2.2.2.2.2.1 (Int32.toNatClampNeg y3))) (fun c12 => ?_) (fun c12 => ?_)
                · skip
                  refine hX_goM 1 (147) [some (.ref 31), some (.ref 1), some (.int y2), some (.int y3)] [.int 0] rfl ?_
                  have hk := hk
                  simp only [c10, c11, c12, cond_true, cond_false] at hk
                  first | exact hk | (simp only [c10, c11, c12, cond_true, cond_false]; exact hk)
                · skip
                  refine hX_goM 2 (147) [some (.ref 31), some (.ref 1), some (.int y2), some (.int y3)] [.int 1] rfl ?_
                  have hk := hk
                  simp only [c10, c11, c12, cond_true, cond_false] at hk
                  first | exact hk | (simp only [c10, c11, c12, cond_true, cond_false]; exact hk)
          refine hX_goM 3 (79) [some (.ref 31), some (.ref 1), some (.int (bif gCmp .ne (s.2.2.2.2.2.1 (Int32.toNatClampNeg y3)) (b.2.2.2.2.2.1 (Int32.toNatClampNeg y3)) then 0 else (bif gCmp .ne (s.2.2.2.2.2.2.1 (Int32.toNatClampNeg y3)) (b.2.2.2.2.2.2.1 (Int32.toNatClampNeg y3)) then 0 else (bif gCmp .ne (s.2.2.2.2.2.2.2.1 (Int32.toNatClampNeg y3)) (b.2.2.2.2.2.2.2.1 (Int32.toNatClampNeg y3)) then 0 else 1)))), some (.int (y3 + 1))] [] rfl ?_
          exact ih (bif gCmp .ne (s.2.2.2.2.2.1 (Int32.toNatClampNeg y3)) (b.2.2.2.2.2.1 (Int32.toNatClampNeg y3)) then 0 else (bif gCmp .ne (s.2.2.2.2.2.2.1 (Int32.toNatClampNeg y3)) (b.2.2.2.2.2.2.1 (Int32.toNatClampNeg y3)) then 0 else (bif gCmp .ne (s.2.2.2.2.2.2.2.1 (Int32.toNatClampNeg y3)) (b.2.2.2.2.2.2.2.1 (Int32.toNatClampNeg y3)) then 0 else 1))) (y3 + 1) q h kk

/-- UpOneSide$Blind.movesLike(LUpOneSide$Blind;)Z -/
def me_11_31_1 (N : Nat) (b : hB) (s : hB) : Option (Int32) :=
  (Option.bind (lp_11_31_1_41 N b s N (bif gCmp .ne s.1 b.1 then 0 else (bif gCmp .ne s.2.1 b.2.1 then 0 else (bif gCmp .ne s.2.2.2.2.1 b.2.2.2.2.1 then 0 else 1))) 0) fun q7 =>
  (Option.bind (lp_11_31_1_79 N b s N q7.1 0) fun q8 =>
  (bif (decide (q8.1 = 0) || decide (q8.1 = 1)) then some (q8.1) else none)))
set_option maxRecDepth 20000 in
set_option maxHeartbeats 4000000 in
theorem mt_11_31_1 {LL : Nat} {xs : Nat → Int32} {D : Nat} {b d k s w : hB} {ik ex pr wd : Int32} {sn : Nat → Int64} {qu tb : Nat → Int32} {ts : Int32} {r0 : Value} {rq : hRq} {h0 h1 h2 h3 : hSt} {fi : Nat → Int32} {R : List gE} (N : Nat) (q : Int32) (h : me_11_31_1 N b s = some q) : hM (gO LL xs) (D + 0) zR_11 [.ref 31, .ref 1] (hCm b d k s w ik ex pr wd sn qu tb ts (r0, rq) h0 h1 h2 h3 fi R) (some (.int q)) (hCm b d k s w ik ex pr wd sn qu tb ts (r0, rq) h0 h1 h2 h3 fi R) := by
  unfold me_11_31_1 at h
  refine hX_go 0 0 [some (.ref 31), some (.ref 1), none, none] [] (hCm b d k s w ik ex pr wd sn qu tb ts (r0, rq) h0 h1 h2 h3 fi R) rfl ?_
  refine hX_go 5 (bif gCmp .ne s.1 b.1 then 37 else 11) [some (.ref 31), some (.ref 1), none, none] [] (hCm b d k s w ik ex pr wd sn qu tb ts (r0, rq) h0 h1 h2 h3 fi R) rfl ?_
  refine hX_mrg 38 [some (.ref 31), some (.ref 1), none, none] [.int (bif gCmp .ne s.1 b.1 then 0 else (bif gCmp .ne s.2.1 b.2.1 then 0 else (bif gCmp .ne s.2.2.2.2.1 b.2.2.2.2.1 then 0 else 1)))] (hCm b d k s w ik ex pr wd sn qu tb ts (r0, rq) h0 h1 h2 h3 fi R) (fun hk => ?_) ?_
  · skip
    refine hX_if (gCmp .ne s.1 b.1) (fun c4 => ?_) (fun c4 => ?_)
    · skip
      refine hX_goM 1 (38) [some (.ref 31), some (.ref 1), none, none] [.int 0] rfl ?_
      have hk := hk
      simp only [c4, cond_true, cond_false] at hk
      first | exact hk | (simp only [c4, cond_true, cond_false]; exact hk)
    · skip
      refine hX_goM 5 (bif gCmp .ne s.2.1 b.2.1 then 37 else 22) [some (.ref 31), some (.ref 1), none, none] [] rfl ?_
      refine hX_if (gCmp .ne s.2.1 b.2.1) (fun c5 => ?_) (fun c5 => ?_)
      · skip
        refine hX_goM 1 (38) [some (.ref 31), some (.ref 1), none, none] [.int 0] rfl ?_
        have hk := hk
        simp only [c4, c5, cond_true, cond_false] at hk
        first | exact hk | (simp only [c4, c5, cond_true, cond_false]; exact hk)
      · skip
        refine hX_goM 5 (bif gCmp .ne s.2.2.2.2.1 b.2.2.2.2.1 then 37 else 33) [some (.ref 31), some (.ref 1), none, none] [] rfl ?_
        refine hX_if (gCmp .ne s.2.2.2.2.1 b.2.2.2.2.1) (fun c6 => ?_) (fun c6 => ?_)
        · skip
          refine hX_goM 1 (38) [some (.ref 31), some (.ref 1), none, none] [.int 0] rfl ?_
          have hk := hk
          simp only [c4, c5, c6, cond_true, cond_false] at hk
          first | exact hk | (simp only [c4, c5, c6, cond_true, cond_false]; exact hk)
        · skip
          refine hX_goM 2 (38) [some (.ref 31), some (.ref 1), none, none] [.int 1] rfl ?_
          have hk := hk
          simp only [c4, c5, c6, cond_true, cond_false] at hk
          first | exact hk | (simp only [c4, c5, c6, cond_true, cond_false]; exact hk)
  refine hX_goM 3 (41) [some (.ref 31), some (.ref 1), some (.int (bif gCmp .ne s.1 b.1 then 0 else (bif gCmp .ne s.2.1 b.2.1 then 0 else (bif gCmp .ne s.2.2.2.2.1 b.2.2.2.2.1 then 0 else 1)))), some (.int 0)] [] rfl ?_
  revert h; refine gBindR fun q7 e7 h => ?_
  refine lt_11_31_1_41 N (bif gCmp .ne s.1 b.1 then 0 else (bif gCmp .ne s.2.1 b.2.1 then 0 else (bif gCmp .ne s.2.2.2.2.1 b.2.2.2.2.1 then 0 else 1))) 0 q7 e7 ?_
  refine hX_goM 2 (79) [some (.ref 31), some (.ref 1), some (.int q7.1), some (.int 0)] [] rfl ?_
  revert h; refine gBindR fun q8 e8 h => ?_
  refine lt_11_31_1_79 N q7.1 0 q8 e8 ?_
  refine hX_goM 1 (155) [some (.ref 31), some (.ref 1), some (.int q8.1), some (.int q8.2)] [.int q8.1] rfl ?_
  revert h; refine gCondR fun g9 h => ?_
  have h := Option.some.inj h; subst h
  exact hX_endG (decide (q8.1 = 0) || decide (q8.1 = 1)) rfl g9 rfl rfl

/-- UpOneSide$Search.explore: the loop at 85 -/
def lp_45_28_1_85 (N : Nat) (y2 : Int32) (b : hB) : Nat → Int32 → hB → Int32 → Int32 → (Nat → Int64) → (Nat → Int32) → Option (Int32 × hB × Int32 × Int32 × (Nat → Int64) × (Nat → Int32))
  | 0, _, _, _, _, _, _ => none
  | n + 1, y3, w, pr, wd, sn, qu =>
    (bif gCmp .ge y3 b.2.2.2.2.1 then
      some (y3, w, pr, wd, sn, qu)
    else
      (bif gIn y2 3721 then (bif gIn y2 3721 then (bif gIn y3 8 then (bif gIn y2 3721 then (bif !(gCmp .ne y2 0) || (gIn y2 3721) then (bif gIn (f_18_40_w y3 (v_47_28 y2 qu, v_48_28 y2 qu, w.2.2)).1 61 then (bif ((gCmp .ne (lg_cmp ((sn (Int32.toNatClampNeg (f_18_40_w y3 (v_47_28 y2 qu, v_48_28 y2 qu, w.2.2)).1)) &&& ((1 : Int64) <<< (Int32.toInt64 (f_18_40_w y3 (v_47_28 y2 qu, v_48_28 y2 qu, w.2.2)).2.1 &&& 63))) 0) 0) || (!(gCmp .lt pr 3721) || (gIn pr 3721))) then lp_45_28_1_85 N y2 b n (y3 + 1) (f_18_40_w y3 (v_47_28 y2 qu, v_48_28 y2 qu, w.2.2)) (f_46_28_pr (f_18_40_w y3 (v_47_28 y2 qu, v_48_28 y2 qu, w.2.2)) pr sn) (f_46_28_wd (f_18_40_w y3 (v_47_28 y2 qu, v_48_28 y2 qu, w.2.2)) pr wd sn) (f_46_28_sn (f_18_40_w y3 (v_47_28 y2 qu, v_48_28 y2 qu, w.2.2)) pr sn) (f_46_28_qu ((v_50_28 y2 qu) + 1) (bif gCmp .ne y2 0 then (v_49_28 y2 qu) else y3) (f_18_40_w y3 (v_47_28 y2 qu, v_48_28 y2 qu, w.2.2)) pr sn qu) else none) else none) else none) else none) else none) else none) else none))
set_option maxRecDepth 20000 in
set_option maxHeartbeats 4000000 in
theorem lt_45_28_1_85 {LL : Nat} {xs : Nat → Int32} {D N : Nat} {b d k s : hB} {ik ex : Int32}  {tb : Nat → Int32} {ts : Int32} {r0 : Value} {rq : hRq} {h0 h1 h2 h3 : hSt} {fi : Nat → Int32} {R : List gE} {y2 : Int32} {v : Option Value} {M' : List gE} : ∀ (n : Nat) (y3 : Int32) (w : hB) (pr : Int32) (wd : Int32) (sn : Nat → Int64) (qu : Nat → Int32) (q : Int32 × hB × Int32 × Int32 × (Nat → Int64) × (Nat → Int32)), lp_45_28_1_85 N y2 b n y3 w pr wd sn qu = some q → (kk : hX (gO LL xs) (D + 3) zR_45 155 [some (.ref 28), some (.ref 1), some (.int y2), some (.int q.1)] [] (hCm b d k s q.2.1 ik ex q.2.2.1 q.2.2.2.1 q.2.2.2.2.1 q.2.2.2.2.2 tb ts (r0, rq) h0 h1 h2 h3 fi R) v M') → hX (gO LL xs) (D + 3) zR_45 85 [some (.ref 28), some (.ref 1), some (.int y2), some (.int y3)] [] (hCm b d k s w ik ex pr wd sn qu tb ts (r0, rq) h0 h1 h2 h3 fi R) v M' := by
  intro n
  induction n with
  | zero => intro y3 w pr wd sn qu q h; cases h
  | succ n ih =>
    intro y3 w pr wd sn qu q h kk
    rw [lp_45_28_1_85] at h
    refine hX_go 4 (bif gCmp .ge y3 b.2.2.2.2.1 then 155 else 93) [some (.ref 28), some (.ref 1), some (.int y2), some (.int y3)] [] (hCm b d k s w ik ex pr wd sn qu tb ts (r0, rq) h0 h1 h2 h3 fi R) rfl ?_
    refine hX_if (gCmp .ge y3 b.2.2.2.2.1) (fun c1 => ?_) (fun c1 => ?_)
    · skip
      have h := gcT c1 h
      have h := Option.some.inj h; subst h
      exact kk
    · skip
      have h := gcF c1 h
      refine hX_goM 4 (99) [some (.ref 28), some (.ref 1), some (.int y2), some (.int y3)] [.int y2, .ref 28, .ref 40] rfl ?_
      revert h; refine gCondR fun g2 h => ?_
      refine hX_call (r' := zR_47) rfl (ct_47_28 y2 g2) ?_
      refine hX_go 5 (111) [some (.ref 28), some (.ref 1), some (.int y2), some (.int y3)] [.int y2, .ref 28, .ref 40] (hCm b d k s (v_47_28 y2 qu, w.2) ik ex pr wd sn qu tb ts (r0, rq) h0 h1 h2 h3 fi R) rfl ?_
      revert h; refine gCondR fun g3 h => ?_
      refine hX_call (r' := zR_48) rfl (ct_48_28 y2 g3) ?_
      refine hX_go 4 (122) [some (.ref 28), some (.ref 1), some (.int y2), some (.int y3)] [.int y3, .ref 40] (hCm b d k s (v_47_28 y2 qu, v_48_28 y2 qu, w.2.2) ik ex pr wd sn qu tb ts (r0, rq) h0 h1 h2 h3 fi R) rfl ?_
      revert h; refine gCondR fun g4 h => ?_
      refine hX_call (r' := zR_18) rfl (ct_18_40 y3 g4) ?_
      refine hX_go 3 (128) [some (.ref 28), some (.ref 1), some (.int y2), some (.int y3)] [.int y2, .ref 28, .ref 28] (hCm b d k s (f_18_40_w y3 (v_47_28 y2 qu, v_48_28 y2 qu, w.2.2)) ik ex pr wd sn qu tb ts (r0, rq) h0 h1 h2 h3 fi R) rfl ?_
      revert h; refine gCondR fun g5 h => ?_
      refine hX_call (r' := zR_50) rfl (ct_50_28 y2 g5) ?_
      refine hX_goM 4 (bif gCmp .ne y2 0 then 141 else 137) [some (.ref 28), some (.ref 1), some (.int y2), some (.int y3)] [.int ((v_50_28 y2 qu) + 1), .ref 28] rfl ?_
      revert h; refine gCondR fun o7 h => ?_
      refine hX_mrg 146 [some (.ref 28), some (.ref 1), some (.int y2), some (.int y3)] [.int (bif gCmp .ne y2 0 then (v_49_28 y2 qu) else y3), .int ((v_50_28 y2 qu) + 1), .ref 28] (hCm b d k s (f_18_40_w y3 (v_47_28 y2 qu, v_48_28 y2 qu, w.2.2)) ik ex pr wd sn qu tb ts (r0, rq) h0 h1 h2 h3 fi R) (fun hk => ?_) ?_
      · skip
        refine hX_if (gCmp .ne y2 0) (fun c8 => ?_) (fun c8 => ?_)
        · skip
          refine hX_goM 2 (143) [some (.ref 28), some (.ref 1), some (.int y2), some (.int y3)] [.int y2, .ref 28, .int ((v_50_28 y2 qu) + 1), .ref 28] rfl ?_
          refine hX_call (r' := zR_49) rfl (ct_49_28 y2 (gImpT o7 c8)) ?_
          refine hX_goM 0 (146) [some (.ref 28), some (.ref 1), some (.int y2), some (.int y3)] [.int (v_49_28 y2 qu), .int ((v_50_28 y2 qu) + 1), .ref 28] rfl ?_
          have hk := hk
          simp only [c8, cond_true, cond_false] at hk
          first | exact hk | (simp only [c8, cond_true, cond_false]; exact hk)
        · skip
          refine hX_goM 2 (146) [some (.ref 28), some (.ref 1), some (.int y2), some (.int y3)] [.int y3, .int ((v_50_28 y2 qu) + 1), .ref 28] rfl ?_
          have hk := hk
          simp only [c8, cond_true, cond_false] at hk
          first | exact hk | (simp only [c8, cond_true, cond_false]; exact hk)
      revert h; refine gCondR fun g9 h => ?_
      revert h; refine gCondR fun g10 h => ?_
      refine hX_call (r' := zR_46) rfl (ct_46_28 ((v_50_28 y2 qu) + 1) (bif gCmp .ne y2 0 then (v_49_28 y2 qu) else y3) g9 (fun u0 u1 => (gImpT (gImpF g10 u0) u1))) ?_
      refine hX_go 2 (85) [some (.ref 28), some (.ref 1), some (.int y2), some (.int (y3 + 1))] [] (hCm b d k s (f_18_40_w y3 (v_47_28 y2 qu, v_48_28 y2 qu, w.2.2)) ik ex (f_46_28_pr (f_18_40_w y3 (v_47_28 y2 qu, v_48_28 y2 qu, w.2.2)) pr sn) (f_46_28_wd (f_18_40_w y3 (v_47_28 y2 qu, v_48_28 y2 qu, w.2.2)) pr wd sn) (f_46_28_sn (f_18_40_w y3 (v_47_28 y2 qu, v_48_28 y2 qu, w.2.2)) pr sn) (f_46_28_qu ((v_50_28 y2 qu) + 1) (bif gCmp .ne y2 0 then (v_49_28 y2 qu) else y3) (f_18_40_w y3 (v_47_28 y2 qu, v_48_28 y2 qu, w.2.2)) pr sn qu) tb ts (r0, rq) h0 h1 h2 h3 fi R) rfl ?_
      exact ih (y3 + 1) (f_18_40_w y3 (v_47_28 y2 qu, v_48_28 y2 qu, w.2.2)) (f_46_28_pr (f_18_40_w y3 (v_47_28 y2 qu, v_48_28 y2 qu, w.2.2)) pr sn) (f_46_28_wd (f_18_40_w y3 (v_47_28 y2 qu, v_48_28 y2 qu, w.2.2)) pr wd sn) (f_46_28_sn (f_18_40_w y3 (v_47_28 y2 qu, v_48_28 y2 qu, w.2.2)) pr sn) (f_46_28_qu ((v_50_28 y2 qu) + 1) (bif gCmp .ne y2 0 then (v_49_28 y2 qu) else y3) (f_18_40_w y3 (v_47_28 y2 qu, v_48_28 y2 qu, w.2.2)) pr sn qu) q h kk

/-- UpOneSide$Search.explore: the loop at 66 -/
def lp_45_28_1_66 (N : Nat) (b : hB) : Nat → Int32 → hB → Int32 → Int32 → (Nat → Int64) → (Nat → Int32) → Option (Int32 × hB × Int32 × Int32 × (Nat → Int64) × (Nat → Int32))
  | 0, _, _, _, _, _, _ => none
  | n + 1, y2, w, pr, wd, sn, qu =>
    (bif gCmp .ge y2 pr then
      some (y2, w, pr, wd, sn, qu)
    else
      (bif gCmp .ge y2 3721 then
        some (y2, w, pr, wd, sn, qu)
      else
        (Option.bind (lp_45_28_1_85 N y2 b N 0 w pr wd sn qu) fun q3 =>
        lp_45_28_1_66 N b n (y2 + 1) q3.2.1 q3.2.2.1 q3.2.2.2.1 q3.2.2.2.2.1 q3.2.2.2.2.2)))
set_option maxRecDepth 20000 in
set_option maxHeartbeats 4000000 in
theorem lt_45_28_1_66 {LL : Nat} {xs : Nat → Int32} {D N : Nat} {b d k s : hB} {ik ex : Int32}  {tb : Nat → Int32} {ts : Int32} {r0 : Value} {rq : hRq} {h0 h1 h2 h3 : hSt} {fi : Nat → Int32} {R : List gE} {v : Option Value} {M' : List gE} : ∀ (n : Nat) (y2 : Int32) (w : hB) (pr : Int32) (wd : Int32) (sn : Nat → Int64) (qu : Nat → Int32) (q : Int32 × hB × Int32 × Int32 × (Nat → Int64) × (Nat → Int32)), lp_45_28_1_66 N b n y2 w pr wd sn qu = some q → (kk : hX (gO LL xs) (D + 3) zR_45 161 [some (.ref 28), some (.ref 1), some (.int q.1), none] [] (hCm b d k s q.2.1 ik ex q.2.2.1 q.2.2.2.1 q.2.2.2.2.1 q.2.2.2.2.2 tb ts (r0, rq) h0 h1 h2 h3 fi R) v M') → hX (gO LL xs) (D + 3) zR_45 66 [some (.ref 28), some (.ref 1), some (.int y2), none] [] (hCm b d k s w ik ex pr wd sn qu tb ts (r0, rq) h0 h1 h2 h3 fi R) v M' := by
  intro n
  induction n with
  | zero => intro y2 w pr wd sn qu q h; cases h
  | succ n ih =>
    intro y2 w pr wd sn qu q h kk
    rw [lp_45_28_1_66] at h
    refine hX_go 4 (bif gCmp .ge y2 pr then 161 else 74) [some (.ref 28), some (.ref 1), some (.int y2), none] [] (hCm b d k s w ik ex pr wd sn qu tb ts (r0, rq) h0 h1 h2 h3 fi R) rfl ?_
    refine hX_if (gCmp .ge y2 pr) (fun c1 => ?_) (fun c1 => ?_)
    · skip
      have h := gcT c1 h
      have h := Option.some.inj h; subst h
      exact kk
    · skip
      have h := gcF c1 h
      refine hX_goM 5 (bif gCmp .ge y2 3721 then 161 else 83) [some (.ref 28), some (.ref 1), some (.int y2), none] [] rfl ?_
      refine hX_if (gCmp .ge y2 3721) (fun c2 => ?_) (fun c2 => ?_)
      · skip
        have h := gcT c2 h
        have h := Option.some.inj h; subst h
        exact kk
      · skip
        have h := gcF c2 h
        refine hX_goM 2 (85) [some (.ref 28), some (.ref 1), some (.int y2), some (.int 0)] [] rfl ?_
        revert h; refine gBindR fun q3 e3 h => ?_
        refine lt_45_28_1_85 N 0 w pr wd sn qu q3 e3 ?_
        refine hX_go 2 (66) [some (.ref 28), some (.ref 1), some (.int (y2 + 1)), some (.int q3.1)] [] (hCm b d k s q3.2.1 ik ex q3.2.2.1 q3.2.2.2.1 q3.2.2.2.2.1 q3.2.2.2.2.2 tb ts (r0, rq) h0 h1 h2 h3 fi R) rfl ?_
        exact hX_wk (gLe_s (gLe_s (gLe_s (gLe_n gLe_0)))) (ih (y2 + 1) q3.2.1 q3.2.2.1 q3.2.2.2.1 q3.2.2.2.2.1 q3.2.2.2.2.2 q h kk)

/-- UpOneSide$Search.explore(LUpOneSide$Blind;)V -/
def me_45_28_1 (N : Nat) (b : hB) (s : hB) (w : hB) (ex : Int32) (pr : Int32) (wd : Int32) (sn : Nat → Int64) (qu : Nat → Int32) : Option (hB × hB × Int32 × Int32 × Int32 × (Nat → Int64) × (Nat → Int32)) :=
  (bif gCmp .eq ex 0 then
    (Option.bind (me_6_29 N 0 sn) fun q2 =>
    (bif gIn (f_10_40_1_w b w).1 61 then (bif ((gCmp .ne (lg_cmp ((q2 (Int32.toNatClampNeg (f_10_40_1_w b w).1)) &&& ((1 : Int64) <<< (Int32.toInt64 (f_10_40_1_w b w).2.1 &&& 63))) 0) 0) || (!(gCmp .lt 0 3721) || (gIn 0 3721))) then (Option.bind (lp_45_28_1_66 N b N 0 (f_10_40_1_w b w) (f_46_28_pr (f_10_40_1_w b w) 0 q2) (f_46_28_wd (f_10_40_1_w b w) 0 0 q2) (f_46_28_sn (f_10_40_1_w b w) 0 q2) (f_46_28_qu 0 0 (f_10_40_1_w b w) 0 q2 qu)) fun q5 =>
    some ((f_10_31_1_s b s), q5.2.1, 1, q5.2.2.1, q5.2.2.2.1, q5.2.2.2.2.1, q5.2.2.2.2.2)) else none) else none))
  else
    (Option.bind (me_11_31_1 N b s) fun q6 =>
    (bif gCmp .eq q6 0 then
      (Option.bind (me_6_29 N 0 sn) fun q8 =>
      (bif gIn (f_10_40_1_w b w).1 61 then (bif ((gCmp .ne (lg_cmp ((q8 (Int32.toNatClampNeg (f_10_40_1_w b w).1)) &&& ((1 : Int64) <<< (Int32.toInt64 (f_10_40_1_w b w).2.1 &&& 63))) 0) 0) || (!(gCmp .lt 0 3721) || (gIn 0 3721))) then (Option.bind (lp_45_28_1_66 N b N 0 (f_10_40_1_w b w) (f_46_28_pr (f_10_40_1_w b w) 0 q8) (f_46_28_wd (f_10_40_1_w b w) 0 0 q8) (f_46_28_sn (f_10_40_1_w b w) 0 q8) (f_46_28_qu 0 0 (f_10_40_1_w b w) 0 q8 qu)) fun q11 =>
      some ((f_10_31_1_s b s), q11.2.1, 1, q11.2.2.1, q11.2.2.2.1, q11.2.2.2.2.1, q11.2.2.2.2.2)) else none) else none))
    else
      some (s, w, ex, pr, wd, sn, qu))))
set_option maxRecDepth 20000 in
set_option maxHeartbeats 4000000 in
theorem mt_45_28_1 {LL : Nat} {xs : Nat → Int32} {D : Nat} {b d k s w : hB} {ik ex pr wd : Int32} {sn : Nat → Int64} {qu tb : Nat → Int32} {ts : Int32} {r0 : Value} {rq : hRq} {h0 h1 h2 h3 : hSt} {fi : Nat → Int32} {R : List gE} (N : Nat) (q : hB × hB × Int32 × Int32 × Int32 × (Nat → Int64) × (Nat → Int32)) (h : me_45_28_1 N b s w ex pr wd sn qu = some q) : hM (gO LL xs) (D + 3) zR_45 [.ref 28, .ref 1] (hCm b d k s w ik ex pr wd sn qu tb ts (r0, rq) h0 h1 h2 h3 fi R) none (hCm b d k q.1 q.2.1 ik q.2.2.1 q.2.2.2.1 q.2.2.2.2.1 q.2.2.2.2.2.1 q.2.2.2.2.2.2 tb ts (r0, rq) h0 h1 h2 h3 fi R) := by
  unfold me_45_28_1 at h
  refine hX_go 0 0 [some (.ref 28), some (.ref 1), none, none] [] (hCm b d k s w ik ex pr wd sn qu tb ts (r0, rq) h0 h1 h2 h3 fi R) rfl ?_
  refine hX_go 3 (bif gCmp .eq ex 0 then 19 else 7) [some (.ref 28), some (.ref 1), none, none] [] (hCm b d k s w ik ex pr wd sn qu tb ts (r0, rq) h0 h1 h2 h3 fi R) rfl ?_
  refine hX_if (gCmp .eq ex 0) (fun c1 => ?_) (fun c1 => ?_)
  · skip
    have h := gcT c1 h
    refine hX_goM 3 (24) [some (.ref 28), some (.ref 1), none, none] [.ref 1, .ref 31] rfl ?_
    refine hX_call (r' := zR_10) rfl (ct_10_31_1) ?_
    refine hX_go 3 (32) [some (.ref 28), some (.ref 1), none, none] [.ref 1, .ref 40] (hCm b d k (f_10_31_1_s b s) w ik ex pr wd sn qu tb ts (r0, rq) h0 h1 h2 h3 fi R) rfl ?_
    refine hX_call (r' := zR_10) rfl (ct_10_40_1) ?_
    refine hX_go 9 (50) [some (.ref 28), some (.ref 1), none, none] [] (hCm b d k (f_10_31_1_s b s) (f_10_40_1_w b w) ik 1 0 0 sn qu tb ts (r0, rq) h0 h1 h2 h3 fi R) rfl ?_
    refine hX_goM 3 (55) [some (.ref 28), some (.ref 1), none, none] [.long 0, .ref 29] rfl ?_
    revert h; refine gBindR fun q2 e2 h => ?_
    refine hX_call (r' := zR_6) rfl (mt_6_29 N 0 q2 e2) ?_
    refine hX_go 3 (61) [some (.ref 28), some (.ref 1), none, none] [.int 0, .int 0, .ref 28] (hCm b d k (f_10_31_1_s b s) (f_10_40_1_w b w) ik 1 0 0 q2 qu tb ts (r0, rq) h0 h1 h2 h3 fi R) rfl ?_
    revert h; refine gCondR fun g3 h => ?_
    revert h; refine gCondR fun g4 h => ?_
    refine hX_call (r' := zR_46) rfl (ct_46_28 0 0 g3 (fun u0 u1 => (gImpT (gImpF g4 u0) u1))) ?_
    refine hX_go 2 (66) [some (.ref 28), some (.ref 1), some (.int 0), none] [] (hCm b d k (f_10_31_1_s b s) (f_10_40_1_w b w) ik 1 (f_46_28_pr (f_10_40_1_w b w) 0 q2) (f_46_28_wd (f_10_40_1_w b w) 0 0 q2) (f_46_28_sn (f_10_40_1_w b w) 0 q2) (f_46_28_qu 0 0 (f_10_40_1_w b w) 0 q2 qu) tb ts (r0, rq) h0 h1 h2 h3 fi R) rfl ?_
    revert h; refine gBindR fun q5 e5 h => ?_
    refine lt_45_28_1_66 N 0 (f_10_40_1_w b w) (f_46_28_pr (f_10_40_1_w b w) 0 q2) (f_46_28_wd (f_10_40_1_w b w) 0 0 q2) (f_46_28_sn (f_10_40_1_w b w) 0 q2) (f_46_28_qu 0 0 (f_10_40_1_w b w) 0 q2 qu) q5 e5 ?_
    refine hX_go 0 (161) [some (.ref 28), some (.ref 1), some (.int q5.1), none] [] (hCm b d k (f_10_31_1_s b s) q5.2.1 ik 1 q5.2.2.1 q5.2.2.2.1 q5.2.2.2.2.1 q5.2.2.2.2.2 tb ts (r0, rq) h0 h1 h2 h3 fi R) rfl ?_
    have h := Option.some.inj h; subst h
    exact hX_end rfl rfl rfl
  · skip
    have h := gcF c1 h
    refine hX_goM 3 (12) [some (.ref 28), some (.ref 1), none, none] [.ref 1, .ref 31] rfl ?_
    revert h; refine gBindR fun q6 e6 h => ?_
    refine hX_call (r' := zR_11) rfl (mt_11_31_1 N q6 e6) ?_
    refine hX_goM 1 (bif gCmp .eq q6 0 then 19 else 18) [some (.ref 28), some (.ref 1), none, none] [] rfl ?_
    refine hX_if (gCmp .eq q6 0) (fun c7 => ?_) (fun c7 => ?_)
    · skip
      have h := gcT c7 h
      refine hX_goM 3 (24) [some (.ref 28), some (.ref 1), none, none] [.ref 1, .ref 31] rfl ?_
      refine hX_call (r' := zR_10) rfl (ct_10_31_1) ?_
      refine hX_go 3 (32) [some (.ref 28), some (.ref 1), none, none] [.ref 1, .ref 40] (hCm b d k (f_10_31_1_s b s) w ik ex pr wd sn qu tb ts (r0, rq) h0 h1 h2 h3 fi R) rfl ?_
      refine hX_call (r' := zR_10) rfl (ct_10_40_1) ?_
      refine hX_go 9 (50) [some (.ref 28), some (.ref 1), none, none] [] (hCm b d k (f_10_31_1_s b s) (f_10_40_1_w b w) ik 1 0 0 sn qu tb ts (r0, rq) h0 h1 h2 h3 fi R) rfl ?_
      refine hX_goM 3 (55) [some (.ref 28), some (.ref 1), none, none] [.long 0, .ref 29] rfl ?_
      revert h; refine gBindR fun q8 e8 h => ?_
      refine hX_call (r' := zR_6) rfl (mt_6_29 N 0 q8 e8) ?_
      refine hX_go 3 (61) [some (.ref 28), some (.ref 1), none, none] [.int 0, .int 0, .ref 28] (hCm b d k (f_10_31_1_s b s) (f_10_40_1_w b w) ik 1 0 0 q8 qu tb ts (r0, rq) h0 h1 h2 h3 fi R) rfl ?_
      revert h; refine gCondR fun g9 h => ?_
      revert h; refine gCondR fun g10 h => ?_
      refine hX_call (r' := zR_46) rfl (ct_46_28 0 0 g9 (fun u0 u1 => (gImpT (gImpF g10 u0) u1))) ?_
      refine hX_go 2 (66) [some (.ref 28), some (.ref 1), some (.int 0), none] [] (hCm b d k (f_10_31_1_s b s) (f_10_40_1_w b w) ik 1 (f_46_28_pr (f_10_40_1_w b w) 0 q8) (f_46_28_wd (f_10_40_1_w b w) 0 0 q8) (f_46_28_sn (f_10_40_1_w b w) 0 q8) (f_46_28_qu 0 0 (f_10_40_1_w b w) 0 q8 qu) tb ts (r0, rq) h0 h1 h2 h3 fi R) rfl ?_
      revert h; refine gBindR fun q11 e11 h => ?_
      refine lt_45_28_1_66 N 0 (f_10_40_1_w b w) (f_46_28_pr (f_10_40_1_w b w) 0 q8) (f_46_28_wd (f_10_40_1_w b w) 0 0 q8) (f_46_28_sn (f_10_40_1_w b w) 0 q8) (f_46_28_qu 0 0 (f_10_40_1_w b w) 0 q8 qu) q11 e11 ?_
      refine hX_go 0 (161) [some (.ref 28), some (.ref 1), some (.int q11.1), none] [] (hCm b d k (f_10_31_1_s b s) q11.2.1 ik 1 q11.2.2.1 q11.2.2.2.1 q11.2.2.2.2.1 q11.2.2.2.2.2 tb ts (r0, rq) h0 h1 h2 h3 fi R) rfl ?_
      have h := Option.some.inj h; subst h
      exact hX_end rfl rfl rfl
    · skip
      have h := gcF c7 h
      have h := Option.some.inj h; subst h
      exact hX_end rfl rfl rfl

/-- UpOneSide$Search.firstLevel: the loop at 2 -/
def lp_51_28_2 (N : Nat) (y1 : Int32) (pr : Int32) (qu : Nat → Int32) : Nat → Int32 → Option (Int32)
  | 0, _ => none
  | n + 1, y2 =>
    (bif gCmp .ge y2 pr then
      some ((-1))
    else
      (bif gCmp .ge y2 3721 then
        some ((-1))
      else
        (bif gIn y2 3721 then (bif gIn y2 3721 then (bif gCmp .ne (v_47_28 y2 qu) (v_48_28 y2 qu) then
          lp_51_28_2 N y1 pr qu n (y2 + 1)
        else
          (bif gIn y2 3721 then (bif gCmp .lt (v_47_28 y2 qu) y1 then
            lp_51_28_2 N y1 pr qu n (y2 + 1)
          else
            some (y2)) else none)) else none) else none)))
set_option maxRecDepth 20000 in
set_option maxHeartbeats 4000000 in
theorem lt_51_28_2 {LL : Nat} {xs : Nat → Int32} {D N : Nat} {b d k s w : hB} {ik ex pr wd : Int32} {sn : Nat → Int64} {qu tb : Nat → Int32} {ts : Int32} {r0 : Value} {rq : hRq} {h0 h1 h2 h3 : hSt} {fi : Nat → Int32} {R : List gE} {y1 : Int32} : ∀ (n : Nat) (y2 : Int32) (q : Int32), lp_51_28_2 N y1 pr qu n y2 = some q → hX (gO LL xs) (D + 1) zR_51 2 [some (.ref 28), some (.int y1), some (.int y2)] [] (hCm b d k s w ik ex pr wd sn qu tb ts (r0, rq) h0 h1 h2 h3 fi R) (some (.int q)) (hCm b d k s w ik ex pr wd sn qu tb ts (r0, rq) h0 h1 h2 h3 fi R) := by
  intro n
  induction n with
  | zero => intro y2 q h; cases h
  | succ n ih =>
    intro y2 q h
    rw [lp_51_28_2] at h
    refine hX_go 4 (bif gCmp .ge y2 pr then 49 else 10) [some (.ref 28), some (.int y1), some (.int y2)] [] (hCm b d k s w ik ex pr wd sn qu tb ts (r0, rq) h0 h1 h2 h3 fi R) rfl ?_
    refine hX_if (gCmp .ge y2 pr) (fun c1 => ?_) (fun c1 => ?_)
    · skip
      have h := gcT c1 h
      refine hX_goM 1 (50) [some (.ref 28), some (.int y1), some (.int y2)] [.int (-1)] rfl ?_
      have h := Option.some.inj h; subst h
      exact hX_end rfl rfl rfl
    · skip
      have h := gcF c1 h
      refine hX_goM 5 (bif gCmp .ge y2 3721 then 49 else 19) [some (.ref 28), some (.int y1), some (.int y2)] [] rfl ?_
      refine hX_if (gCmp .ge y2 3721) (fun c2 => ?_) (fun c2 => ?_)
      · skip
        have h := gcT c2 h
        refine hX_goM 1 (50) [some (.ref 28), some (.int y1), some (.int y2)] [.int (-1)] rfl ?_
        have h := Option.some.inj h; subst h
        exact hX_end rfl rfl rfl
      · skip
        have h := gcF c2 h
        refine hX_goM 2 (21) [some (.ref 28), some (.int y1), some (.int y2)] [.int y2, .ref 28] rfl ?_
        revert h; refine gCondR fun g3 h => ?_
        refine hX_call (r' := zR_47) rfl (ct_47_28 y2 g3) ?_
        refine hX_goM 2 (26) [some (.ref 28), some (.int y1), some (.int y2)] [.int y2, .ref 28, .int (v_47_28 y2 qu)] rfl ?_
        revert h; refine gCondR fun g4 h => ?_
        refine hX_call (r' := zR_48) rfl (ct_48_28 y2 g4) ?_
        refine hX_goM 1 (bif gCmp .ne (v_47_28 y2 qu) (v_48_28 y2 qu) then 43 else 32) [some (.ref 28), some (.int y1), some (.int y2)] [] rfl ?_
        refine hX_if (gCmp .ne (v_47_28 y2 qu) (v_48_28 y2 qu)) (fun c5 => ?_) (fun c5 => ?_)
        · skip
          have h := gcT c5 h
          refine hX_goM 2 (2) [some (.ref 28), some (.int y1), some (.int (y2 + 1))] [] rfl ?_
          exact ih (y2 + 1) q h
        · skip
          have h := gcF c5 h
          refine hX_goM 2 (34) [some (.ref 28), some (.int y1), some (.int y2)] [.int y2, .ref 28] rfl ?_
          revert h; refine gCondR fun g6 h => ?_
          refine hX_call (r' := zR_47) rfl (ct_47_28 y2 g6) ?_
          refine hX_goM 2 (bif gCmp .lt (v_47_28 y2 qu) y1 then 43 else 41) [some (.ref 28), some (.int y1), some (.int y2)] [] rfl ?_
          refine hX_if (gCmp .lt (v_47_28 y2 qu) y1) (fun c7 => ?_) (fun c7 => ?_)
          · skip
            have h := gcT c7 h
            refine hX_goM 2 (2) [some (.ref 28), some (.int y1), some (.int (y2 + 1))] [] rfl ?_
            exact ih (y2 + 1) q h
          · skip
            have h := gcF c7 h
            refine hX_goM 1 (42) [some (.ref 28), some (.int y1), some (.int y2)] [.int y2] rfl ?_
            have h := Option.some.inj h; subst h
            exact hX_end rfl rfl rfl

/-- UpOneSide$Search.firstLevel(I)I -/
def me_51_28 (N : Nat) (x0 : Int32) (pr : Int32) (qu : Nat → Int32) : Option (Int32) :=
  lp_51_28_2 N x0 pr qu N 0
set_option maxRecDepth 20000 in
set_option maxHeartbeats 4000000 in
theorem mt_51_28 {LL : Nat} {xs : Nat → Int32} {D : Nat} {b d k s w : hB} {ik ex pr wd : Int32} {sn : Nat → Int64} {qu tb : Nat → Int32} {ts : Int32} {r0 : Value} {rq : hRq} {h0 h1 h2 h3 : hSt} {fi : Nat → Int32} {R : List gE} (N : Nat) (x0 : Int32) (q : Int32) (h : me_51_28 N x0 pr qu = some q) : hM (gO LL xs) (D + 1) zR_51 [.ref 28, .int x0] (hCm b d k s w ik ex pr wd sn qu tb ts (r0, rq) h0 h1 h2 h3 fi R) (some (.int q)) (hCm b d k s w ik ex pr wd sn qu tb ts (r0, rq) h0 h1 h2 h3 fi R) := by
  unfold me_51_28 at h
  refine hX_go 0 0 [some (.ref 28), some (.int x0), none] [] (hCm b d k s w ik ex pr wd sn qu tb ts (r0, rq) h0 h1 h2 h3 fi R) rfl ?_
  refine hX_go 2 (2) [some (.ref 28), some (.int x0), some (.int 0)] [] (hCm b d k s w ik ex pr wd sn qu tb ts (r0, rq) h0 h1 h2 h3 fi R) rfl ?_
  exact lt_51_28_2 N 0 q h


/-- UpOneSide.fewest(I)I -/
def me_78_0 (N : Nat) (x0 : Int32) (b : hB) (s : hB) (w : hB) (ex : Int32) (pr : Int32) (wd : Int32) (sn : Nat → Int64) (qu : Nat → Int32) (fi : Nat → Int32) : Option (Int32 × hB × hB × Int32 × Int32 × Int32 × (Nat → Int64) × (Nat → Int32) × (Nat → Int32)) :=
  (bif gCmp .ne (v_112 x0 0 60) 0 then
    (Option.bind (me_45_28_1 N b s w ex pr wd sn qu) fun q2 =>
    (Option.bind (me_51_28 N x0 q2.2.2.2.1 q2.2.2.2.2.2.2) fun q3 =>
    (bif !(gCmp .ge q3 0) || (gIn q3 3721) then some (bif gCmp .ge q3 0 then (v_50_28 q3 q2.2.2.2.2.2.2) else (v_111_0 3), q2.1, q2.2.1, q2.2.2.1, q2.2.2.2.1, q2.2.2.2.2.1, q2.2.2.2.2.2.1, q2.2.2.2.2.2.2, bif gCmp .ge q3 0 then fi else (f_111_0_fi 3 fi)) else none)))
  else
    some (v_111_0 0, s, w, ex, pr, wd, sn, qu, f_111_0_fi 0 fi))
set_option maxRecDepth 20000 in
set_option maxHeartbeats 4000000 in
theorem mt_78_0 {LL : Nat} {xs : Nat → Int32} {D : Nat} {b d k s w : hB} {ik ex pr wd : Int32} {sn : Nat → Int64} {qu tb : Nat → Int32} {ts : Int32} {r0 : Value} {rq : hRq} {h0 h1 h2 h3 : hSt} {fi : Nat → Int32} {R : List gE} (N : Nat) (x0 : Int32) (q : Int32 × hB × hB × Int32 × Int32 × Int32 × (Nat → Int64) × (Nat → Int32) × (Nat → Int32)) (h : me_78_0 N x0 b s w ex pr wd sn qu fi = some q) : hM (gO LL xs) (D + 4) zR_78 [.ref 0, .int x0] (hCm b d k s w ik ex pr wd sn qu tb ts (r0, rq) h0 h1 h2 h3 fi R) (some (.int q.1)) (hCm b d k q.2.1 q.2.2.1 ik q.2.2.2.1 q.2.2.2.2.1 q.2.2.2.2.2.1 q.2.2.2.2.2.2.1 q.2.2.2.2.2.2.2.1 tb ts (r0, rq) h0 h1 h2 h3 q.2.2.2.2.2.2.2.2 R) := by
  unfold me_78_0 at h
  refine hX_go 0 0 [some (.ref 0), some (.int x0), none] [] (hCm b d k s w ik ex pr wd sn qu tb ts (r0, rq) h0 h1 h2 h3 fi R) rfl ?_
  refine hX_go 3 (4) [some (.ref 0), some (.int x0), none] [.int 60, .int 0, .int x0] (hCm b d k s w ik ex pr wd sn qu tb ts (r0, rq) h0 h1 h2 h3 fi R) rfl ?_
  refine hX_call (r' := zR_112) rfl (ct_112 x0 0 60) ?_
  refine hX_goM 1 (bif gCmp .ne (v_112 x0 0 60) 0 then 16 else 10) [some (.ref 0), some (.int x0), none] [] rfl ?_
  refine hX_if (gCmp .ne (v_112 x0 0 60) 0) (fun c1 => ?_) (fun c1 => ?_)
  · skip
    have h := gcT c1 h
    refine hX_goM 4 (24) [some (.ref 0), some (.int x0), none] [.ref 1, .ref 28] rfl ?_
    revert h; refine gBindR fun q2 e2 h => ?_
    refine hX_call (r' := zR_45) rfl (mt_45_28_1 N q2 e2) ?_
    refine hX_go 3 (32) [some (.ref 0), some (.int x0), none] [.int x0, .ref 28] (hCm b d k q2.1 q2.2.1 ik q2.2.2.1 q2.2.2.2.1 q2.2.2.2.2.1 q2.2.2.2.2.2.1 q2.2.2.2.2.2.2 tb ts (r0, rq) h0 h1 h2 h3 fi R) rfl ?_
    revert h; refine gBindR fun q3 e3 h => ?_
    refine hX_call (r' := zR_51) rfl (mt_51_28 N x0 q3 e3) ?_
    refine hX_goM 3 (bif gCmp .ge q3 0 then 48 else 40) [some (.ref 0), some (.int x0), some (.int q3)] [] rfl ?_
    revert h; refine gCondR fun o5 h => ?_
    refine hX_mrg 56 [some (.ref 0), some (.int x0), some (.int q3)] [.int (bif gCmp .ge q3 0 then (v_50_28 q3 q2.2.2.2.2.2.2) else (v_111_0 3))] (hCm b d k q2.1 q2.2.1 ik q2.2.2.1 q2.2.2.2.1 q2.2.2.2.2.1 q2.2.2.2.2.2.1 q2.2.2.2.2.2.2 tb ts (r0, rq) h0 h1 h2 h3 (bif gCmp .ge q3 0 then fi else (f_111_0_fi 3 fi)) R) (fun hk => ?_) ?_
    · skip
      refine hX_if (gCmp .ge q3 0) (fun c6 => ?_) (fun c6 => ?_)
      · skip
        refine hX_goM 3 (53) [some (.ref 0), some (.int x0), some (.int q3)] [.int q3, .ref 28] rfl ?_
        refine hX_call (r' := zR_50) rfl (ct_50_28 q3 (gImpT o5 c6)) ?_
        refine hX_goM 0 (56) [some (.ref 0), some (.int x0), some (.int q3)] [.int (v_50_28 q3 q2.2.2.2.2.2.2)] rfl ?_
        have hk := hk
        simp only [c6, cond_true, cond_false] at hk
        first | exact hk | (simp only [c6, cond_true, cond_false]; exact hk)
      · skip
        refine hX_goM 2 (42) [some (.ref 0), some (.int x0), some (.int q3)] [.int 3, .ref 0] rfl ?_
        refine hX_call (r' := zR_111) rfl (ct_111_0 3 rfl) ?_
        refine hX_go 1 (56) [some (.ref 0), some (.int x0), some (.int q3)] [.int (v_111_0 3)] (hCm b d k q2.1 q2.2.1 ik q2.2.2.1 q2.2.2.2.1 q2.2.2.2.2.1 q2.2.2.2.2.2.1 q2.2.2.2.2.2.2 tb ts (r0, rq) h0 h1 h2 h3 (f_111_0_fi 3 fi) R) rfl ?_
        have hk := hk
        simp only [c6, cond_true, cond_false] at hk
        first | exact hk | (simp only [c6, cond_true, cond_false]; exact hk)
    have h := Option.some.inj h; subst h
    exact hX_end rfl rfl rfl
  · skip
    have h := gcF c1 h
    refine hX_goM 2 (12) [some (.ref 0), some (.int x0), none] [.int 0, .ref 0] rfl ?_
    refine hX_call (r' := zR_111) rfl (ct_111_0 0 rfl) ?_
    refine hX_go 0 (15) [some (.ref 0), some (.int x0), none] [.int (v_111_0 0)] (hCm b d k s w ik ex pr wd sn qu tb ts (r0, rq) h0 h1 h2 h3 (f_111_0_fi 0 fi) R) rfl ?_
    have h := Option.some.inj h; subst h
    exact hX_end rfl rfl rfl


/-- UpOneSide.first(I)I -/
def me_79_0 (N : Nat) (x0 : Int32) (b : hB) (s : hB) (w : hB) (ex : Int32) (pr : Int32) (wd : Int32) (sn : Nat → Int64) (qu : Nat → Int32) (fi : Nat → Int32) : Option (Int32 × hB × hB × Int32 × Int32 × Int32 × (Nat → Int64) × (Nat → Int32) × (Nat → Int32)) :=
  (bif gCmp .ne (v_112 x0 0 60) 0 then
    (Option.bind (me_45_28_1 N b s w ex pr wd sn qu) fun q2 =>
    (Option.bind (me_51_28 N x0 q2.2.2.2.1 q2.2.2.2.2.2.2) fun q3 =>
    (bif !(gCmp .gt q3 0) || (gIn q3 3721) then some (bif gCmp .gt q3 0 then (v_49_28 q3 q2.2.2.2.2.2.2) else (v_111_0 3), q2.1, q2.2.1, q2.2.2.1, q2.2.2.2.1, q2.2.2.2.2.1, q2.2.2.2.2.2.1, q2.2.2.2.2.2.2, bif gCmp .gt q3 0 then fi else (f_111_0_fi 3 fi)) else none)))
  else
    some (v_111_0 0, s, w, ex, pr, wd, sn, qu, f_111_0_fi 0 fi))
set_option maxRecDepth 20000 in
set_option maxHeartbeats 4000000 in
theorem mt_79_0 {LL : Nat} {xs : Nat → Int32} {D : Nat} {b d k s w : hB} {ik ex pr wd : Int32} {sn : Nat → Int64} {qu tb : Nat → Int32} {ts : Int32} {r0 : Value} {rq : hRq} {h0 h1 h2 h3 : hSt} {fi : Nat → Int32} {R : List gE} (N : Nat) (x0 : Int32) (q : Int32 × hB × hB × Int32 × Int32 × Int32 × (Nat → Int64) × (Nat → Int32) × (Nat → Int32)) (h : me_79_0 N x0 b s w ex pr wd sn qu fi = some q) : hM (gO LL xs) (D + 4) zR_79 [.ref 0, .int x0] (hCm b d k s w ik ex pr wd sn qu tb ts (r0, rq) h0 h1 h2 h3 fi R) (some (.int q.1)) (hCm b d k q.2.1 q.2.2.1 ik q.2.2.2.1 q.2.2.2.2.1 q.2.2.2.2.2.1 q.2.2.2.2.2.2.1 q.2.2.2.2.2.2.2.1 tb ts (r0, rq) h0 h1 h2 h3 q.2.2.2.2.2.2.2.2 R) := by
  unfold me_79_0 at h
  refine hX_go 0 0 [some (.ref 0), some (.int x0), none] [] (hCm b d k s w ik ex pr wd sn qu tb ts (r0, rq) h0 h1 h2 h3 fi R) rfl ?_
  refine hX_go 3 (4) [some (.ref 0), some (.int x0), none] [.int 60, .int 0, .int x0] (hCm b d k s w ik ex pr wd sn qu tb ts (r0, rq) h0 h1 h2 h3 fi R) rfl ?_
  refine hX_call (r' := zR_112) rfl (ct_112 x0 0 60) ?_
  refine hX_goM 1 (bif gCmp .ne (v_112 x0 0 60) 0 then 16 else 10) [some (.ref 0), some (.int x0), none] [] rfl ?_
  refine hX_if (gCmp .ne (v_112 x0 0 60) 0) (fun c1 => ?_) (fun c1 => ?_)
  · skip
    have h := gcT c1 h
    refine hX_goM 4 (24) [some (.ref 0), some (.int x0), none] [.ref 1, .ref 28] rfl ?_
    revert h; refine gBindR fun q2 e2 h => ?_
    refine hX_call (r' := zR_45) rfl (mt_45_28_1 N q2 e2) ?_
    refine hX_go 3 (32) [some (.ref 0), some (.int x0), none] [.int x0, .ref 28] (hCm b d k q2.1 q2.2.1 ik q2.2.2.1 q2.2.2.2.1 q2.2.2.2.2.1 q2.2.2.2.2.2.1 q2.2.2.2.2.2.2 tb ts (r0, rq) h0 h1 h2 h3 fi R) rfl ?_
    revert h; refine gBindR fun q3 e3 h => ?_
    refine hX_call (r' := zR_51) rfl (mt_51_28 N x0 q3 e3) ?_
    refine hX_goM 3 (bif gCmp .gt q3 0 then 48 else 40) [some (.ref 0), some (.int x0), some (.int q3)] [] rfl ?_
    revert h; refine gCondR fun o5 h => ?_
    refine hX_mrg 56 [some (.ref 0), some (.int x0), some (.int q3)] [.int (bif gCmp .gt q3 0 then (v_49_28 q3 q2.2.2.2.2.2.2) else (v_111_0 3))] (hCm b d k q2.1 q2.2.1 ik q2.2.2.1 q2.2.2.2.1 q2.2.2.2.2.1 q2.2.2.2.2.2.1 q2.2.2.2.2.2.2 tb ts (r0, rq) h0 h1 h2 h3 (bif gCmp .gt q3 0 then fi else (f_111_0_fi 3 fi)) R) (fun hk => ?_) ?_
    · skip
      refine hX_if (gCmp .gt q3 0) (fun c6 => ?_) (fun c6 => ?_)
      · skip
        refine hX_goM 3 (53) [some (.ref 0), some (.int x0), some (.int q3)] [.int q3, .ref 28] rfl ?_
        refine hX_call (r' := zR_49) rfl (ct_49_28 q3 (gImpT o5 c6)) ?_
        refine hX_goM 0 (56) [some (.ref 0), some (.int x0), some (.int q3)] [.int (v_49_28 q3 q2.2.2.2.2.2.2)] rfl ?_
        have hk := hk
        simp only [c6, cond_true, cond_false] at hk
        first | exact hk | (simp only [c6, cond_true, cond_false]; exact hk)
      · skip
        refine hX_goM 2 (42) [some (.ref 0), some (.int x0), some (.int q3)] [.int 3, .ref 0] rfl ?_
        refine hX_call (r' := zR_111) rfl (ct_111_0 3 rfl) ?_
        refine hX_go 1 (56) [some (.ref 0), some (.int x0), some (.int q3)] [.int (v_111_0 3)] (hCm b d k q2.1 q2.2.1 ik q2.2.2.1 q2.2.2.2.1 q2.2.2.2.2.1 q2.2.2.2.2.2.1 q2.2.2.2.2.2.2 tb ts (r0, rq) h0 h1 h2 h3 (f_111_0_fi 3 fi) R) rfl ?_
        have hk := hk
        simp only [c6, cond_true, cond_false] at hk
        first | exact hk | (simp only [c6, cond_true, cond_false]; exact hk)
    have h := Option.some.inj h; subst h
    exact hX_end rfl rfl rfl
  · skip
    have h := gcF c1 h
    refine hX_goM 2 (12) [some (.ref 0), some (.int x0), none] [.int 0, .ref 0] rfl ?_
    refine hX_call (r' := zR_111) rfl (ct_111_0 0 rfl) ?_
    refine hX_go 0 (15) [some (.ref 0), some (.int x0), none] [.int (v_111_0 0)] (hCm b d k s w ik ex pr wd sn qu tb ts (r0, rq) h0 h1 h2 h3 (f_111_0_fi 0 fi) R) rfl ?_
    have h := Option.some.inj h; subst h
    exact hX_end rfl rfl rfl


/-- UpOneSide.states()I -/
def me_80_0 (N : Nat) (b : hB) (s : hB) (w : hB) (ex : Int32) (pr : Int32) (wd : Int32) (sn : Nat → Int64) (qu : Nat → Int32) : Option (Int32 × hB × hB × Int32 × Int32 × Int32 × (Nat → Int64) × (Nat → Int32)) :=
  (Option.bind (me_45_28_1 N b s w ex pr wd sn qu) fun q1 =>
  some (q1.2.2.2.1, q1.1, q1.2.1, q1.2.2.1, q1.2.2.2.1, q1.2.2.2.2.1, q1.2.2.2.2.2.1, q1.2.2.2.2.2.2))
set_option maxRecDepth 20000 in
set_option maxHeartbeats 4000000 in
theorem mt_80_0 {LL : Nat} {xs : Nat → Int32} {D : Nat} {b d k s w : hB} {ik ex pr wd : Int32} {sn : Nat → Int64} {qu tb : Nat → Int32} {ts : Int32} {r0 : Value} {rq : hRq} {h0 h1 h2 h3 : hSt} {fi : Nat → Int32} {R : List gE} (N : Nat) (q : Int32 × hB × hB × Int32 × Int32 × Int32 × (Nat → Int64) × (Nat → Int32)) (h : me_80_0 N b s w ex pr wd sn qu = some q) : hM (gO LL xs) (D + 4) zR_80 [.ref 0] (hCm b d k s w ik ex pr wd sn qu tb ts (r0, rq) h0 h1 h2 h3 fi R) (some (.int q.1)) (hCm b d k q.2.1 q.2.2.1 ik q.2.2.2.1 q.2.2.2.2.1 q.2.2.2.2.2.1 q.2.2.2.2.2.2.1 q.2.2.2.2.2.2.2 tb ts (r0, rq) h0 h1 h2 h3 fi R) := by
  unfold me_80_0 at h
  refine hX_go 0 0 [some (.ref 0)] [] (hCm b d k s w ik ex pr wd sn qu tb ts (r0, rq) h0 h1 h2 h3 fi R) rfl ?_
  refine hX_go 4 (8) [some (.ref 0)] [.ref 1, .ref 28] (hCm b d k s w ik ex pr wd sn qu tb ts (r0, rq) h0 h1 h2 h3 fi R) rfl ?_
  revert h; refine gBindR fun q1 e1 h => ?_
  refine hX_call (r' := zR_45) rfl (mt_45_28_1 N q1 e1) ?_
  refine hX_go 3 (18) [some (.ref 0)] [.int q1.2.2.2.1] (hCm b d k q1.1 q1.2.1 ik q1.2.2.1 q1.2.2.2.1 q1.2.2.2.2.1 q1.2.2.2.2.2.1 q1.2.2.2.2.2.2 tb ts (r0, rq) h0 h1 h2 h3 fi R) rfl ?_
  have h := Option.some.inj h; subst h
  exact hX_end rfl rfl rfl


/-- UpOneSide.worst()I -/
def me_81_0 (N : Nat) (b : hB) (s : hB) (w : hB) (ex : Int32) (pr : Int32) (wd : Int32) (sn : Nat → Int64) (qu : Nat → Int32) : Option (Int32 × hB × hB × Int32 × Int32 × Int32 × (Nat → Int64) × (Nat → Int32)) :=
  (Option.bind (me_45_28_1 N b s w ex pr wd sn qu) fun q1 =>
  some (q1.2.2.2.2.1, q1.1, q1.2.1, q1.2.2.1, q1.2.2.2.1, q1.2.2.2.2.1, q1.2.2.2.2.2.1, q1.2.2.2.2.2.2))
set_option maxRecDepth 20000 in
set_option maxHeartbeats 4000000 in
theorem mt_81_0 {LL : Nat} {xs : Nat → Int32} {D : Nat} {b d k s w : hB} {ik ex pr wd : Int32} {sn : Nat → Int64} {qu tb : Nat → Int32} {ts : Int32} {r0 : Value} {rq : hRq} {h0 h1 h2 h3 : hSt} {fi : Nat → Int32} {R : List gE} (N : Nat) (q : Int32 × hB × hB × Int32 × Int32 × Int32 × (Nat → Int64) × (Nat → Int32)) (h : me_81_0 N b s w ex pr wd sn qu = some q) : hM (gO LL xs) (D + 4) zR_81 [.ref 0] (hCm b d k s w ik ex pr wd sn qu tb ts (r0, rq) h0 h1 h2 h3 fi R) (some (.int q.1)) (hCm b d k q.2.1 q.2.2.1 ik q.2.2.2.1 q.2.2.2.2.1 q.2.2.2.2.2.1 q.2.2.2.2.2.2.1 q.2.2.2.2.2.2.2 tb ts (r0, rq) h0 h1 h2 h3 fi R) := by
  unfold me_81_0 at h
  refine hX_go 0 0 [some (.ref 0)] [] (hCm b d k s w ik ex pr wd sn qu tb ts (r0, rq) h0 h1 h2 h3 fi R) rfl ?_
  refine hX_go 4 (8) [some (.ref 0)] [.ref 1, .ref 28] (hCm b d k s w ik ex pr wd sn qu tb ts (r0, rq) h0 h1 h2 h3 fi R) rfl ?_
  revert h; refine gBindR fun q1 e1 h => ?_
  refine hX_call (r' := zR_45) rfl (mt_45_28_1 N q1 e1) ?_
  refine hX_go 3 (18) [some (.ref 0)] [.int q1.2.2.2.2.1] (hCm b d k q1.1 q1.2.1 ik q1.2.2.1 q1.2.2.2.1 q1.2.2.2.2.1 q1.2.2.2.2.2.1 q1.2.2.2.2.2.2 tb ts (r0, rq) h0 h1 h2 h3 fi R) rfl ?_
  have h := Option.some.inj h; subst h
  exact hX_end rfl rfl rfl

/-- UpOneSide.badMending(III)Z -/
def v_117_0 (x0 : Int32) (x1 : Int32) (x2 : Int32) (b : hB) : Int32 := bif gCmp .ne (v_113_0 x0 b) 0 then 1 else (bif gCmp .eq (v_112 x1 0 20) 0 then 1 else (bif gCmp .ne (v_112 x2 0 60) 0 then 0 else 1))
set_option maxRecDepth 20000 in
set_option maxHeartbeats 1000000 in
theorem ct_117_0 {LL : Nat} {xs : Nat → Int32} {D : Nat} {b d k s w : hB} {ik ex pr wd : Int32} {sn : Nat → Int64} {qu tb : Nat → Int32} {ts : Int32} {r0 : Value} {rq : hRq} {h0 h1 h2 h3 : hSt} {fi : Nat → Int32} {R : List gE} (x0 : Int32) (x1 : Int32) (x2 : Int32) : hM (gO LL xs) (D + 1) zR_117 [.ref 0, .int x0, .int x1, .int x2] (hCm b d k s w ik ex pr wd sn qu tb ts (r0, rq) h0 h1 h2 h3 fi R) (some (.int (v_117_0 x0 x1 x2 b))) (hCm b d k s w ik ex pr wd sn qu tb ts (r0, rq) h0 h1 h2 h3 fi R) := by
  refine hX_go 0 0 [some (.ref 0), some (.int x0), some (.int x1), some (.int x2)] [] (hCm b d k s w ik ex pr wd sn qu tb ts (r0, rq) h0 h1 h2 h3 fi R) rfl ?_
  refine hX_go 2 (2) [some (.ref 0), some (.int x0), some (.int x1), some (.int x2)] [.int x0, .ref 0] (hCm b d k s w ik ex pr wd sn qu tb ts (r0, rq) h0 h1 h2 h3 fi R) rfl ?_
  refine hX_call (r' := zR_113) rfl (ct_113_0 x0) ?_
  refine hX_goM 1 (bif gCmp .ne (v_113_0 x0 b) 0 then 28 else 8) [some (.ref 0), some (.int x0), some (.int x1), some (.int x2)] [] rfl ?_
  refine hX_if (gCmp .ne (v_113_0 x0 b) 0) (fun c1 => ?_) (fun c1 => ?_)
  · skip
    refine hX_goM 2 (33) [some (.ref 0), some (.int x0), some (.int x1), some (.int x2)] [.int 1] rfl ?_
    exact hX_end rfl (by unfold v_117_0; rw [c1]; rfl) (rfl)
  · skip
    refine hX_goM 3 (12) [some (.ref 0), some (.int x0), some (.int x1), some (.int x2)] [.int 20, .int 0, .int x1] rfl ?_
    refine hX_call (r' := zR_112) rfl (ct_112 x1 0 20) ?_
    refine hX_goM 1 (bif gCmp .eq (v_112 x1 0 20) 0 then 28 else 18) [some (.ref 0), some (.int x0), some (.int x1), some (.int x2)] [] rfl ?_
    refine hX_if (gCmp .eq (v_112 x1 0 20) 0) (fun c2 => ?_) (fun c2 => ?_)
    · skip
      refine hX_goM 2 (33) [some (.ref 0), some (.int x0), some (.int x1), some (.int x2)] [.int 1] rfl ?_
      exact hX_end rfl (by unfold v_117_0; rw [c1, c2]; rfl) (rfl)
    · skip
      refine hX_goM 3 (22) [some (.ref 0), some (.int x0), some (.int x1), some (.int x2)] [.int 60, .int 0, .int x2] rfl ?_
      refine hX_call (r' := zR_112) rfl (ct_112 x2 0 60) ?_
      refine hX_goM 1 (bif gCmp .ne (v_112 x2 0 60) 0 then 32 else 28) [some (.ref 0), some (.int x0), some (.int x1), some (.int x2)] [] rfl ?_
      refine hX_if (gCmp .ne (v_112 x2 0 60) 0) (fun c3 => ?_) (fun c3 => ?_)
      · skip
        refine hX_goM 1 (33) [some (.ref 0), some (.int x0), some (.int x1), some (.int x2)] [.int 0] rfl ?_
        exact hX_end rfl (by unfold v_117_0; rw [c1, c2, c3]; rfl) (rfl)
      · skip
        refine hX_goM 2 (33) [some (.ref 0), some (.int x0), some (.int x1), some (.int x2)] [.int 1] rfl ?_
        exact hX_end rfl (by unfold v_117_0; rw [c1, c2, c3]; rfl) (rfl)

theorem bz_117_0 (x0 : Int32) (x1 : Int32) (x2 : Int32) (b : hB) : (decide (v_117_0 x0 x1 x2 b = 0) || decide (v_117_0 x0 x1 x2 b = 1)) = true := by
  unfold v_117_0
  cases (gCmp .ne (v_113_0 x0 b) 0)
  · cases (gCmp .eq (v_112 x1 0 20) 0)
    · cases (gCmp .ne (v_112 x2 0 60) 0)
      · rfl
      · rfl
    · rfl
  · rfl

/-- UpOneSide$Blind.mend(I)V -/
def f_22_10_d (x0 : Int32) (d : hB) : hB := (d.1, d.2.1, d.2.2.1, d.2.2.2.1, d.2.2.2.2.1, d.2.2.2.2.2.1, d.2.2.2.2.2.2.1, d.2.2.2.2.2.2.2.1, bif gCmp .eq (x0 &&& 8) 0 then (bif gCmp .eq (x0 &&& 4) 0 then (bif gCmp .eq (x0 &&& 2) 0 then (bif gCmp .eq (x0 &&& 1) 0 then d.2.2.2.2.2.2.2.2.1 else (upd d.2.2.2.2.2.2.2.2.1 1 0)) else (upd (bif gCmp .eq (x0 &&& 1) 0 then d.2.2.2.2.2.2.2.2.1 else (upd d.2.2.2.2.2.2.2.2.1 1 0)) 0 0)) else (upd (bif gCmp .eq (x0 &&& 2) 0 then (bif gCmp .eq (x0 &&& 1) 0 then d.2.2.2.2.2.2.2.2.1 else (upd d.2.2.2.2.2.2.2.2.1 1 0)) else (upd (bif gCmp .eq (x0 &&& 1) 0 then d.2.2.2.2.2.2.2.2.1 else (upd d.2.2.2.2.2.2.2.2.1 1 0)) 0 0)) 2 0)) else (upd (bif gCmp .eq (x0 &&& 4) 0 then (bif gCmp .eq (x0 &&& 2) 0 then (bif gCmp .eq (x0 &&& 1) 0 then d.2.2.2.2.2.2.2.2.1 else (upd d.2.2.2.2.2.2.2.2.1 1 0)) else (upd (bif gCmp .eq (x0 &&& 1) 0 then d.2.2.2.2.2.2.2.2.1 else (upd d.2.2.2.2.2.2.2.2.1 1 0)) 0 0)) else (upd (bif gCmp .eq (x0 &&& 2) 0 then (bif gCmp .eq (x0 &&& 1) 0 then d.2.2.2.2.2.2.2.2.1 else (upd d.2.2.2.2.2.2.2.2.1 1 0)) else (upd (bif gCmp .eq (x0 &&& 1) 0 then d.2.2.2.2.2.2.2.2.1 else (upd d.2.2.2.2.2.2.2.2.1 1 0)) 0 0)) 2 0)) 3 60), d.2.2.2.2.2.2.2.2.2)
set_option maxRecDepth 20000 in
set_option maxHeartbeats 1000000 in
theorem ct_22_10 {LL : Nat} {xs : Nat → Int32} {D : Nat} {b d k s w : hB} {ik ex pr wd : Int32} {sn : Nat → Int64} {qu tb : Nat → Int32} {ts : Int32} {r0 : Value} {rq : hRq} {h0 h1 h2 h3 : hSt} {fi : Nat → Int32} {R : List gE} (x0 : Int32) : hM (gO LL xs) (D + 0) zR_22 [.ref 10, .int x0] (hCm b d k s w ik ex pr wd sn qu tb ts (r0, rq) h0 h1 h2 h3 fi R) none (hCm b (f_22_10_d x0 d) k s w ik ex pr wd sn qu tb ts (r0, rq) h0 h1 h2 h3 fi R) := by
  refine hX_go 0 0 [some (.ref 10), some (.int x0)] [] (hCm b d k s w ik ex pr wd sn qu tb ts (r0, rq) h0 h1 h2 h3 fi R) rfl ?_
  refine hX_go 4 (bif gCmp .eq (x0 &&& 1) 0 then 13 else 6) [some (.ref 10), some (.int x0)] [] (hCm b d k s w ik ex pr wd sn qu tb ts (r0, rq) h0 h1 h2 h3 fi R) rfl ?_
  suffices hk : hX (gO LL xs) (D + 0) zR_22 13 [some (.ref 10), some (.int x0)] [] (hCm b (d.1, d.2.1, d.2.2.1, d.2.2.2.1, d.2.2.2.2.1, d.2.2.2.2.2.1, d.2.2.2.2.2.2.1, d.2.2.2.2.2.2.2.1, bif gCmp .eq (x0 &&& 1) 0 then d.2.2.2.2.2.2.2.2.1 else (upd d.2.2.2.2.2.2.2.2.1 1 0), d.2.2.2.2.2.2.2.2.2) k s w ik ex pr wd sn qu tb ts (r0, rq) h0 h1 h2 h3 fi R) none (hCm b (f_22_10_d x0 d) k s w ik ex pr wd sn qu tb ts (r0, rq) h0 h1 h2 h3 fi R) by
    refine hX_if (gCmp .eq (x0 &&& 1) 0) (fun c1 => ?_) (fun c1 => ?_)
    · skip
      have hk := hk
      simp only [c1, cond_true, cond_false] at hk
      first | exact hk | (simp only [c1, cond_true, cond_false]; exact hk)
    · skip
      refine hX_go 5 (13) [some (.ref 10), some (.int x0)] [] (hCm b (d.1, d.2.1, d.2.2.1, d.2.2.2.1, d.2.2.2.2.1, d.2.2.2.2.2.1, d.2.2.2.2.2.2.1, d.2.2.2.2.2.2.2.1, upd d.2.2.2.2.2.2.2.2.1 1 0, d.2.2.2.2.2.2.2.2.2) k s w ik ex pr wd sn qu tb ts (r0, rq) h0 h1 h2 h3 fi R) rfl ?_
      have hk := hk
      simp only [c1, cond_true, cond_false] at hk
      first | exact hk | (simp only [c1, cond_true, cond_false]; exact hk)
  refine hX_go 4 (bif gCmp .eq (x0 &&& 2) 0 then 26 else 19) [some (.ref 10), some (.int x0)] [] (hCm b (d.1, d.2.1, d.2.2.1, d.2.2.2.1, d.2.2.2.2.1, d.2.2.2.2.2.1, d.2.2.2.2.2.2.1, d.2.2.2.2.2.2.2.1, bif gCmp .eq (x0 &&& 1) 0 then d.2.2.2.2.2.2.2.2.1 else (upd d.2.2.2.2.2.2.2.2.1 1 0), d.2.2.2.2.2.2.2.2.2) k s w ik ex pr wd sn qu tb ts (r0, rq) h0 h1 h2 h3 fi R) rfl ?_
  suffices hk : hX (gO LL xs) (D + 0) zR_22 26 [some (.ref 10), some (.int x0)] [] (hCm b (d.1, d.2.1, d.2.2.1, d.2.2.2.1, d.2.2.2.2.1, d.2.2.2.2.2.1, d.2.2.2.2.2.2.1, d.2.2.2.2.2.2.2.1, bif gCmp .eq (x0 &&& 2) 0 then (bif gCmp .eq (x0 &&& 1) 0 then d.2.2.2.2.2.2.2.2.1 else (upd d.2.2.2.2.2.2.2.2.1 1 0)) else (upd (bif gCmp .eq (x0 &&& 1) 0 then d.2.2.2.2.2.2.2.2.1 else (upd d.2.2.2.2.2.2.2.2.1 1 0)) 0 0), d.2.2.2.2.2.2.2.2.2) k s w ik ex pr wd sn qu tb ts (r0, rq) h0 h1 h2 h3 fi R) none (hCm b (f_22_10_d x0 d) k s w ik ex pr wd sn qu tb ts (r0, rq) h0 h1 h2 h3 fi R) by
    refine hX_if (gCmp .eq (x0 &&& 2) 0) (fun c2 => ?_) (fun c2 => ?_)
    · skip
      have hk := hk
      simp only [c2, cond_true, cond_false] at hk
      first | exact hk | (simp only [c2, cond_true, cond_false]; exact hk)
    · skip
      refine hX_go 5 (26) [some (.ref 10), some (.int x0)] [] (hCm b (d.1, d.2.1, d.2.2.1, d.2.2.2.1, d.2.2.2.2.1, d.2.2.2.2.2.1, d.2.2.2.2.2.2.1, d.2.2.2.2.2.2.2.1, upd (bif gCmp .eq (x0 &&& 1) 0 then d.2.2.2.2.2.2.2.2.1 else (upd d.2.2.2.2.2.2.2.2.1 1 0)) 0 0, d.2.2.2.2.2.2.2.2.2) k s w ik ex pr wd sn qu tb ts (r0, rq) h0 h1 h2 h3 fi R) rfl ?_
      have hk := hk
      simp only [c2, cond_true, cond_false] at hk
      first | exact hk | (simp only [c2, cond_true, cond_false]; exact hk)
  refine hX_go 4 (bif gCmp .eq (x0 &&& 4) 0 then 39 else 32) [some (.ref 10), some (.int x0)] [] (hCm b (d.1, d.2.1, d.2.2.1, d.2.2.2.1, d.2.2.2.2.1, d.2.2.2.2.2.1, d.2.2.2.2.2.2.1, d.2.2.2.2.2.2.2.1, bif gCmp .eq (x0 &&& 2) 0 then (bif gCmp .eq (x0 &&& 1) 0 then d.2.2.2.2.2.2.2.2.1 else (upd d.2.2.2.2.2.2.2.2.1 1 0)) else (upd (bif gCmp .eq (x0 &&& 1) 0 then d.2.2.2.2.2.2.2.2.1 else (upd d.2.2.2.2.2.2.2.2.1 1 0)) 0 0), d.2.2.2.2.2.2.2.2.2) k s w ik ex pr wd sn qu tb ts (r0, rq) h0 h1 h2 h3 fi R) rfl ?_
  suffices hk : hX (gO LL xs) (D + 0) zR_22 39 [some (.ref 10), some (.int x0)] [] (hCm b (d.1, d.2.1, d.2.2.1, d.2.2.2.1, d.2.2.2.2.1, d.2.2.2.2.2.1, d.2.2.2.2.2.2.1, d.2.2.2.2.2.2.2.1, bif gCmp .eq (x0 &&& 4) 0 then (bif gCmp .eq (x0 &&& 2) 0 then (bif gCmp .eq (x0 &&& 1) 0 then d.2.2.2.2.2.2.2.2.1 else (upd d.2.2.2.2.2.2.2.2.1 1 0)) else (upd (bif gCmp .eq (x0 &&& 1) 0 then d.2.2.2.2.2.2.2.2.1 else (upd d.2.2.2.2.2.2.2.2.1 1 0)) 0 0)) else (upd (bif gCmp .eq (x0 &&& 2) 0 then (bif gCmp .eq (x0 &&& 1) 0 then d.2.2.2.2.2.2.2.2.1 else (upd d.2.2.2.2.2.2.2.2.1 1 0)) else (upd (bif gCmp .eq (x0 &&& 1) 0 then d.2.2.2.2.2.2.2.2.1 else (upd d.2.2.2.2.2.2.2.2.1 1 0)) 0 0)) 2 0), d.2.2.2.2.2.2.2.2.2) k s w ik ex pr wd sn qu tb ts (r0, rq) h0 h1 h2 h3 fi R) none (hCm b (f_22_10_d x0 d) k s w ik ex pr wd sn qu tb ts (r0, rq) h0 h1 h2 h3 fi R) by
    refine hX_if (gCmp .eq (x0 &&& 4) 0) (fun c3 => ?_) (fun c3 => ?_)
    · skip
      have hk := hk
      simp only [c3, cond_true, cond_false] at hk
      first | exact hk | (simp only [c3, cond_true, cond_false]; exact hk)
    · skip
      refine hX_go 5 (39) [some (.ref 10), some (.int x0)] [] (hCm b (d.1, d.2.1, d.2.2.1, d.2.2.2.1, d.2.2.2.2.1, d.2.2.2.2.2.1, d.2.2.2.2.2.2.1, d.2.2.2.2.2.2.2.1, upd (bif gCmp .eq (x0 &&& 2) 0 then (bif gCmp .eq (x0 &&& 1) 0 then d.2.2.2.2.2.2.2.2.1 else (upd d.2.2.2.2.2.2.2.2.1 1 0)) else (upd (bif gCmp .eq (x0 &&& 1) 0 then d.2.2.2.2.2.2.2.2.1 else (upd d.2.2.2.2.2.2.2.2.1 1 0)) 0 0)) 2 0, d.2.2.2.2.2.2.2.2.2) k s w ik ex pr wd sn qu tb ts (r0, rq) h0 h1 h2 h3 fi R) rfl ?_
      have hk := hk
      simp only [c3, cond_true, cond_false] at hk
      first | exact hk | (simp only [c3, cond_true, cond_false]; exact hk)
  refine hX_go 4 (bif gCmp .eq (x0 &&& 8) 0 then 54 else 46) [some (.ref 10), some (.int x0)] [] (hCm b (d.1, d.2.1, d.2.2.1, d.2.2.2.1, d.2.2.2.2.1, d.2.2.2.2.2.1, d.2.2.2.2.2.2.1, d.2.2.2.2.2.2.2.1, bif gCmp .eq (x0 &&& 4) 0 then (bif gCmp .eq (x0 &&& 2) 0 then (bif gCmp .eq (x0 &&& 1) 0 then d.2.2.2.2.2.2.2.2.1 else (upd d.2.2.2.2.2.2.2.2.1 1 0)) else (upd (bif gCmp .eq (x0 &&& 1) 0 then d.2.2.2.2.2.2.2.2.1 else (upd d.2.2.2.2.2.2.2.2.1 1 0)) 0 0)) else (upd (bif gCmp .eq (x0 &&& 2) 0 then (bif gCmp .eq (x0 &&& 1) 0 then d.2.2.2.2.2.2.2.2.1 else (upd d.2.2.2.2.2.2.2.2.1 1 0)) else (upd (bif gCmp .eq (x0 &&& 1) 0 then d.2.2.2.2.2.2.2.2.1 else (upd d.2.2.2.2.2.2.2.2.1 1 0)) 0 0)) 2 0), d.2.2.2.2.2.2.2.2.2) k s w ik ex pr wd sn qu tb ts (r0, rq) h0 h1 h2 h3 fi R) rfl ?_
  suffices hk : hX (gO LL xs) (D + 0) zR_22 54 [some (.ref 10), some (.int x0)] [] (hCm b (d.1, d.2.1, d.2.2.1, d.2.2.2.1, d.2.2.2.2.1, d.2.2.2.2.2.1, d.2.2.2.2.2.2.1, d.2.2.2.2.2.2.2.1, bif gCmp .eq (x0 &&& 8) 0 then (bif gCmp .eq (x0 &&& 4) 0 then (bif gCmp .eq (x0 &&& 2) 0 then (bif gCmp .eq (x0 &&& 1) 0 then d.2.2.2.2.2.2.2.2.1 else (upd d.2.2.2.2.2.2.2.2.1 1 0)) else (upd (bif gCmp .eq (x0 &&& 1) 0 then d.2.2.2.2.2.2.2.2.1 else (upd d.2.2.2.2.2.2.2.2.1 1 0)) 0 0)) else (upd (bif gCmp .eq (x0 &&& 2) 0 then (bif gCmp .eq (x0 &&& 1) 0 then d.2.2.2.2.2.2.2.2.1 else (upd d.2.2.2.2.2.2.2.2.1 1 0)) else (upd (bif gCmp .eq (x0 &&& 1) 0 then d.2.2.2.2.2.2.2.2.1 else (upd d.2.2.2.2.2.2.2.2.1 1 0)) 0 0)) 2 0)) else (upd (bif gCmp .eq (x0 &&& 4) 0 then (bif gCmp .eq (x0 &&& 2) 0 then (bif gCmp .eq (x0 &&& 1) 0 then d.2.2.2.2.2.2.2.2.1 else (upd d.2.2.2.2.2.2.2.2.1 1 0)) else (upd (bif gCmp .eq (x0 &&& 1) 0 then d.2.2.2.2.2.2.2.2.1 else (upd d.2.2.2.2.2.2.2.2.1 1 0)) 0 0)) else (upd (bif gCmp .eq (x0 &&& 2) 0 then (bif gCmp .eq (x0 &&& 1) 0 then d.2.2.2.2.2.2.2.2.1 else (upd d.2.2.2.2.2.2.2.2.1 1 0)) else (upd (bif gCmp .eq (x0 &&& 1) 0 then d.2.2.2.2.2.2.2.2.1 else (upd d.2.2.2.2.2.2.2.2.1 1 0)) 0 0)) 2 0)) 3 60), d.2.2.2.2.2.2.2.2.2) k s w ik ex pr wd sn qu tb ts (r0, rq) h0 h1 h2 h3 fi R) none (hCm b (f_22_10_d x0 d) k s w ik ex pr wd sn qu tb ts (r0, rq) h0 h1 h2 h3 fi R) by
    refine hX_if (gCmp .eq (x0 &&& 8) 0) (fun c4 => ?_) (fun c4 => ?_)
    · skip
      have hk := hk
      simp only [c4, cond_true, cond_false] at hk
      first | exact hk | (simp only [c4, cond_true, cond_false]; exact hk)
    · skip
      refine hX_go 5 (54) [some (.ref 10), some (.int x0)] [] (hCm b (d.1, d.2.1, d.2.2.1, d.2.2.2.1, d.2.2.2.2.1, d.2.2.2.2.2.1, d.2.2.2.2.2.2.1, d.2.2.2.2.2.2.2.1, upd (bif gCmp .eq (x0 &&& 4) 0 then (bif gCmp .eq (x0 &&& 2) 0 then (bif gCmp .eq (x0 &&& 1) 0 then d.2.2.2.2.2.2.2.2.1 else (upd d.2.2.2.2.2.2.2.2.1 1 0)) else (upd (bif gCmp .eq (x0 &&& 1) 0 then d.2.2.2.2.2.2.2.2.1 else (upd d.2.2.2.2.2.2.2.2.1 1 0)) 0 0)) else (upd (bif gCmp .eq (x0 &&& 2) 0 then (bif gCmp .eq (x0 &&& 1) 0 then d.2.2.2.2.2.2.2.2.1 else (upd d.2.2.2.2.2.2.2.2.1 1 0)) else (upd (bif gCmp .eq (x0 &&& 1) 0 then d.2.2.2.2.2.2.2.2.1 else (upd d.2.2.2.2.2.2.2.2.1 1 0)) 0 0)) 2 0)) 3 60, d.2.2.2.2.2.2.2.2.2) k s w ik ex pr wd sn qu tb ts (r0, rq) h0 h1 h2 h3 fi R) rfl ?_
      have hk := hk
      simp only [c4, cond_true, cond_false] at hk
      first | exact hk | (simp only [c4, cond_true, cond_false]; exact hk)
  exact hX_end rfl (rfl) (rfl)

/-- UpOneSide$Blind.costOf: the loop at 4 -/
def lp_23_1_4 (N : Nat) (y1 : Int32) (b : hB) : Nat → Int32 → Int32 → Option (Int32 × Int32)
  | 0, _, _ => none
  | n + 1, y2, y3 =>
    (bif gCmp .ge y3 4 then
      some (y2, y3)
    else
      (bif (gCmp .eq ((y1 >>> (y3 &&& 31)) &&& 1) 0) || (gIn y3 4) then lp_23_1_4 N y1 b n (bif gCmp .eq ((y1 >>> (y3 &&& 31)) &&& 1) 0 then y2 else (y2 + (b.2.2.2.2.2.2.2.2.2.1 (Int32.toNatClampNeg y3)))) (y3 + 1) else none))
set_option maxRecDepth 20000 in
set_option maxHeartbeats 4000000 in
theorem lt_23_1_4 {LL : Nat} {xs : Nat → Int32} {D N : Nat} {b d k s w : hB} {ik ex pr wd : Int32} {sn : Nat → Int64} {qu tb : Nat → Int32} {ts : Int32} {r0 : Value} {rq : hRq} {h0 h1 h2 h3 : hSt} {fi : Nat → Int32} {R : List gE} {y1 : Int32} {v : Option Value} {M' : List gE} : ∀ (n : Nat) (y2 : Int32) (y3 : Int32) (q : Int32 × Int32), lp_23_1_4 N y1 b n y2 y3 = some q → (kk : hX (gO LL xs) (D + 0) zR_23 32 [some (.ref 1), some (.int y1), some (.int q.1), some (.int q.2)] [] (hCm b d k s w ik ex pr wd sn qu tb ts (r0, rq) h0 h1 h2 h3 fi R) v M') → hX (gO LL xs) (D + 0) zR_23 4 [some (.ref 1), some (.int y1), some (.int y2), some (.int y3)] [] (hCm b d k s w ik ex pr wd sn qu tb ts (r0, rq) h0 h1 h2 h3 fi R) v M' := by
  intro n
  induction n with
  | zero => intro y2 y3 q h; cases h
  | succ n ih =>
    intro y2 y3 q h kk
    rw [lp_23_1_4] at h
    refine hX_go 3 (bif gCmp .ge y3 4 then 32 else 9) [some (.ref 1), some (.int y1), some (.int y2), some (.int y3)] [] (hCm b d k s w ik ex pr wd sn qu tb ts (r0, rq) h0 h1 h2 h3 fi R) rfl ?_
    refine hX_if (gCmp .ge y3 4) (fun c1 => ?_) (fun c1 => ?_)
    · skip
      have h := gcT c1 h
      have h := Option.some.inj h; subst h
      exact kk
    · skip
      have h := gcF c1 h
      refine hX_goM 6 (bif gCmp .eq ((y1 >>> (y3 &&& 31)) &&& 1) 0 then 26 else 17) [some (.ref 1), some (.int y1), some (.int y2), some (.int y3)] [] rfl ?_
      revert h; refine gCondR fun o3 h => ?_
      refine hX_mrg 26 [some (.ref 1), some (.int y1), some (.int (bif gCmp .eq ((y1 >>> (y3 &&& 31)) &&& 1) 0 then y2 else (y2 + (b.2.2.2.2.2.2.2.2.2.1 (Int32.toNatClampNeg y3))))), some (.int y3)] [] (hCm b d k s w ik ex pr wd sn qu tb ts (r0, rq) h0 h1 h2 h3 fi R) (fun hk => ?_) ?_
      · skip
        refine hX_if (gCmp .eq ((y1 >>> (y3 &&& 31)) &&& 1) 0) (fun c4 => ?_) (fun c4 => ?_)
        · skip
          have hk := hk
          simp only [c4, cond_true, cond_false] at hk
          first | exact hk | (simp only [c4, cond_true, cond_false]; exact hk)
        · skip
          refine hX_goM 4 (23) [some (.ref 1), some (.int y1), some (.int y2), some (.int y3)] [.int y3, .ref 6, .int y2] rfl ?_
          refine hX_gM (gIn y3 4) 24 [some (.ref 1), some (.int y1), some (.int y2), some (.int y3)] [.int (b.2.2.2.2.2.2.2.2.2.1 (Int32.toNatClampNeg y3)), .int y2] rfl (gImpF o3 c4) ?_
          refine hX_goM 2 (26) [some (.ref 1), some (.int y1), some (.int (y2 + (b.2.2.2.2.2.2.2.2.2.1 (Int32.toNatClampNeg y3)))), some (.int y3)] [] rfl ?_
          have hk := hk
          simp only [c4, cond_true, cond_false] at hk
          first | exact hk | (simp only [c4, cond_true, cond_false]; exact hk)
      refine hX_goM 2 (4) [some (.ref 1), some (.int y1), some (.int (bif gCmp .eq ((y1 >>> (y3 &&& 31)) &&& 1) 0 then y2 else (y2 + (b.2.2.2.2.2.2.2.2.2.1 (Int32.toNatClampNeg y3))))), some (.int (y3 + 1))] [] rfl ?_
      exact ih (bif gCmp .eq ((y1 >>> (y3 &&& 31)) &&& 1) 0 then y2 else (y2 + (b.2.2.2.2.2.2.2.2.2.1 (Int32.toNatClampNeg y3)))) (y3 + 1) q h kk

/-- UpOneSide$Blind.costOf(I)I -/
def me_23_1 (N : Nat) (x0 : Int32) (b : hB) : Option (Int32) :=
  (Option.bind (lp_23_1_4 N x0 b N 0 0) fun q1 =>
  some (q1.1))
set_option maxRecDepth 20000 in
set_option maxHeartbeats 4000000 in
theorem mt_23_1 {LL : Nat} {xs : Nat → Int32} {D : Nat} {b d k s w : hB} {ik ex pr wd : Int32} {sn : Nat → Int64} {qu tb : Nat → Int32} {ts : Int32} {r0 : Value} {rq : hRq} {h0 h1 h2 h3 : hSt} {fi : Nat → Int32} {R : List gE} (N : Nat) (x0 : Int32) (q : Int32) (h : me_23_1 N x0 b = some q) : hM (gO LL xs) (D + 0) zR_23 [.ref 1, .int x0] (hCm b d k s w ik ex pr wd sn qu tb ts (r0, rq) h0 h1 h2 h3 fi R) (some (.int q)) (hCm b d k s w ik ex pr wd sn qu tb ts (r0, rq) h0 h1 h2 h3 fi R) := by
  unfold me_23_1 at h
  refine hX_go 0 0 [some (.ref 1), some (.int x0), none, none] [] (hCm b d k s w ik ex pr wd sn qu tb ts (r0, rq) h0 h1 h2 h3 fi R) rfl ?_
  refine hX_go 4 (4) [some (.ref 1), some (.int x0), some (.int 0), some (.int 0)] [] (hCm b d k s w ik ex pr wd sn qu tb ts (r0, rq) h0 h1 h2 h3 fi R) rfl ?_
  revert h; refine gBindR fun q1 e1 h => ?_
  refine lt_23_1_4 N 0 0 q1 e1 ?_
  refine hX_goM 1 (33) [some (.ref 1), some (.int x0), some (.int q1.1), some (.int q1.2)] [.int q1.1] rfl ?_
  have h := Option.some.inj h; subst h
  exact hX_end rfl rfl rfl

/-- UpOneSide.cheapest: the loop at 6 -/
def lp_118_0_6 (N : Nat) (y1 : Int32) (y2 : Int32) (y3 : Int32) (b : hB) : Nat → Int32 → Int32 → hB → Option (Int32 × Int32 × hB)
  | 0, _, _, _ => none
  | n + 1, y4, y5, d =>
    (bif gCmp .ge y5 16 then
      some (y4, y5, d)
    else
      (bif gCmp .lt y4 0 then
        (Option.bind (me_116_0 N y1 y2 b (f_22_10_d y5 (f_10_10_1_d b d))) fun q3 =>
        lp_118_0_6 N y1 y2 y3 b n (bif gCmp .gt q3.1 y3 then y4 else y5) (y5 + 1) q3.2)
      else
        (Option.bind (me_23_1 N y5 b) fun q6 =>
        (Option.bind (me_23_1 N y4 b) fun q7 =>
        (bif gCmp .ge q6 q7 then
          lp_118_0_6 N y1 y2 y3 b n y4 (y5 + 1) d
        else
          (Option.bind (me_116_0 N y1 y2 b (f_22_10_d y5 (f_10_10_1_d b d))) fun q9 =>
          lp_118_0_6 N y1 y2 y3 b n (bif gCmp .gt q9.1 y3 then y4 else y5) (y5 + 1) q9.2))))))
set_option maxRecDepth 20000 in
set_option maxHeartbeats 4000000 in
theorem lt_118_0_6 {LL : Nat} {xs : Nat → Int32} {D N : Nat} {b k s w : hB} {ik ex pr wd : Int32} {sn : Nat → Int64} {qu tb : Nat → Int32} {ts : Int32} {r0 : Value} {rq : hRq} {h0 h1 h2 h3 : hSt} {fi : Nat → Int32} {R : List gE} {y1 : Int32} {y2 : Int32} {y3 : Int32} {v : Option Value} {M' : List gE} : ∀ (n : Nat) (y4 : Int32) (y5 : Int32) (d : hB) (q : Int32 × Int32 × hB), lp_118_0_6 N y1 y2 y3 b n y4 y5 d = some q → (kk : hX (gO LL xs) (D + 4) zR_118 79 [some (.ref 0), some (.int y1), some (.int y2), some (.int y3), some (.int q.1), some (.int q.2.1)] [] (hCm b q.2.2 k s w ik ex pr wd sn qu tb ts (r0, rq) h0 h1 h2 h3 fi R) v M') → hX (gO LL xs) (D + 4) zR_118 6 [some (.ref 0), some (.int y1), some (.int y2), some (.int y3), some (.int y4), some (.int y5)] [] (hCm b d k s w ik ex pr wd sn qu tb ts (r0, rq) h0 h1 h2 h3 fi R) v M' := by
  intro n
  induction n with
  | zero => intro y4 y5 d q h; cases h
  | succ n ih =>
    intro y4 y5 d q h kk
    rw [lp_118_0_6] at h
    refine hX_go 3 (bif gCmp .ge y5 16 then 79 else 13) [some (.ref 0), some (.int y1), some (.int y2), some (.int y3), some (.int y4), some (.int y5)] [] (hCm b d k s w ik ex pr wd sn qu tb ts (r0, rq) h0 h1 h2 h3 fi R) rfl ?_
    refine hX_if (gCmp .ge y5 16) (fun c1 => ?_) (fun c1 => ?_)
    · skip
      have h := gcT c1 h
      have h := Option.some.inj h; subst h
      exact kk
    · skip
      have h := gcF c1 h
      refine hX_goM 2 (bif gCmp .lt y4 0 then 39 else 18) [some (.ref 0), some (.int y1), some (.int y2), some (.int y3), some (.int y4), some (.int y5)] [] rfl ?_
      refine hX_if (gCmp .lt y4 0) (fun c2 => ?_) (fun c2 => ?_)
      · skip
        have h := gcT c2 h
        refine hX_goM 4 (47) [some (.ref 0), some (.int y1), some (.int y2), some (.int y3), some (.int y4), some (.int y5)] [.ref 1, .ref 10] rfl ?_
        refine hX_call (r' := zR_10) rfl (ct_10_10_1) ?_
        refine hX_go 3 (56) [some (.ref 0), some (.int y1), some (.int y2), some (.int y3), some (.int y4), some (.int y5)] [.int y5, .ref 10] (hCm b (f_10_10_1_d b d) k s w ik ex pr wd sn qu tb ts (r0, rq) h0 h1 h2 h3 fi R) rfl ?_
        refine hX_call (r' := zR_22) rfl (ct_22_10 y5) ?_
        refine hX_go 3 (62) [some (.ref 0), some (.int y1), some (.int y2), some (.int y3), some (.int y4), some (.int y5)] [.int y2, .int y1, .ref 0] (hCm b (f_22_10_d y5 (f_10_10_1_d b d)) k s w ik ex pr wd sn qu tb ts (r0, rq) h0 h1 h2 h3 fi R) rfl ?_
        revert h; refine gBindR fun q3 e3 h => ?_
        refine hX_call (r' := zR_116) rfl (mt_116_0 N y1 y2 q3 e3) ?_
        refine hX_go 2 (bif gCmp .gt q3.1 y3 then 73 else 69) [some (.ref 0), some (.int y1), some (.int y2), some (.int y3), some (.int y4), some (.int y5)] [] (hCm b q3.2 k s w ik ex pr wd sn qu tb ts (r0, rq) h0 h1 h2 h3 fi R) rfl ?_
        refine hX_mrg 73 [some (.ref 0), some (.int y1), some (.int y2), some (.int y3), some (.int (bif gCmp .gt q3.1 y3 then y4 else y5)), some (.int y5)] [] (hCm b q3.2 k s w ik ex pr wd sn qu tb ts (r0, rq) h0 h1 h2 h3 fi R) (fun hk => ?_) ?_
        · skip
          refine hX_if (gCmp .gt q3.1 y3) (fun c5 => ?_) (fun c5 => ?_)
          · skip
            have hk := hk
            simp only [c5, cond_true, cond_false] at hk
            first | exact hk | (simp only [c5, cond_true, cond_false]; exact hk)
          · skip
            refine hX_goM 2 (73) [some (.ref 0), some (.int y1), some (.int y2), some (.int y3), some (.int y5), some (.int y5)] [] rfl ?_
            have hk := hk
            simp only [c5, cond_true, cond_false] at hk
            first | exact hk | (simp only [c5, cond_true, cond_false]; exact hk)
        refine hX_goM 2 (6) [some (.ref 0), some (.int y1), some (.int y2), some (.int y3), some (.int (bif gCmp .gt q3.1 y3 then y4 else y5)), some (.int (y5 + 1))] [] rfl ?_
        exact ih (bif gCmp .gt q3.1 y3 then y4 else y5) (y5 + 1) q3.2 q h kk
      · skip
        have h := gcF c2 h
        refine hX_goM 3 (24) [some (.ref 0), some (.int y1), some (.int y2), some (.int y3), some (.int y4), some (.int y5)] [.int y5, .ref 1] rfl ?_
        revert h; refine gBindR fun q6 e6 h => ?_
        refine hX_call (r' := zR_23) rfl (mt_23_1 N y5 q6 e6) ?_
        refine hX_goM 3 (33) [some (.ref 0), some (.int y1), some (.int y2), some (.int y3), some (.int y4), some (.int y5)] [.int y4, .ref 1, .int q6] rfl ?_
        revert h; refine gBindR fun q7 e7 h => ?_
        refine hX_call (r' := zR_23) rfl (mt_23_1 N y4 q7 e7) ?_
        refine hX_goM 1 (bif gCmp .ge q6 q7 then 73 else 39) [some (.ref 0), some (.int y1), some (.int y2), some (.int y3), some (.int y4), some (.int y5)] [] rfl ?_
        refine hX_if (gCmp .ge q6 q7) (fun c8 => ?_) (fun c8 => ?_)
        · skip
          have h := gcT c8 h
          refine hX_goM 2 (6) [some (.ref 0), some (.int y1), some (.int y2), some (.int y3), some (.int y4), some (.int (y5 + 1))] [] rfl ?_
          exact ih y4 (y5 + 1) d q h kk
        · skip
          have h := gcF c8 h
          refine hX_goM 4 (47) [some (.ref 0), some (.int y1), some (.int y2), some (.int y3), some (.int y4), some (.int y5)] [.ref 1, .ref 10] rfl ?_
          refine hX_call (r' := zR_10) rfl (ct_10_10_1) ?_
          refine hX_go 3 (56) [some (.ref 0), some (.int y1), some (.int y2), some (.int y3), some (.int y4), some (.int y5)] [.int y5, .ref 10] (hCm b (f_10_10_1_d b d) k s w ik ex pr wd sn qu tb ts (r0, rq) h0 h1 h2 h3 fi R) rfl ?_
          refine hX_call (r' := zR_22) rfl (ct_22_10 y5) ?_
          refine hX_go 3 (62) [some (.ref 0), some (.int y1), some (.int y2), some (.int y3), some (.int y4), some (.int y5)] [.int y2, .int y1, .ref 0] (hCm b (f_22_10_d y5 (f_10_10_1_d b d)) k s w ik ex pr wd sn qu tb ts (r0, rq) h0 h1 h2 h3 fi R) rfl ?_
          revert h; refine gBindR fun q9 e9 h => ?_
          refine hX_call (r' := zR_116) rfl (mt_116_0 N y1 y2 q9 e9) ?_
          refine hX_go 2 (bif gCmp .gt q9.1 y3 then 73 else 69) [some (.ref 0), some (.int y1), some (.int y2), some (.int y3), some (.int y4), some (.int y5)] [] (hCm b q9.2 k s w ik ex pr wd sn qu tb ts (r0, rq) h0 h1 h2 h3 fi R) rfl ?_
          refine hX_mrg 73 [some (.ref 0), some (.int y1), some (.int y2), some (.int y3), some (.int (bif gCmp .gt q9.1 y3 then y4 else y5)), some (.int y5)] [] (hCm b q9.2 k s w ik ex pr wd sn qu tb ts (r0, rq) h0 h1 h2 h3 fi R) (fun hk => ?_) ?_
          · skip
            refine hX_if (gCmp .gt q9.1 y3) (fun c11 => ?_) (fun c11 => ?_)
            · skip
              have hk := hk
              simp only [c11, cond_true, cond_false] at hk
              first | exact hk | (simp only [c11, cond_true, cond_false]; exact hk)
            · skip
              refine hX_goM 2 (73) [some (.ref 0), some (.int y1), some (.int y2), some (.int y3), some (.int y5), some (.int y5)] [] rfl ?_
              have hk := hk
              simp only [c11, cond_true, cond_false] at hk
              first | exact hk | (simp only [c11, cond_true, cond_false]; exact hk)
          refine hX_goM 2 (6) [some (.ref 0), some (.int y1), some (.int y2), some (.int y3), some (.int (bif gCmp .gt q9.1 y3 then y4 else y5)), some (.int (y5 + 1))] [] rfl ?_
          exact ih (bif gCmp .gt q9.1 y3 then y4 else y5) (y5 + 1) q9.2 q h kk

/-- UpOneSide.cheapest(III)I -/
def me_118_0 (N : Nat) (x0 : Int32) (x1 : Int32) (x2 : Int32) (b : hB) (d : hB) : Option (Int32 × hB) :=
  (Option.bind (lp_118_0_6 N x0 x1 x2 b N (-1) 0 d) fun q1 =>
  some (q1.1, q1.2.2))
set_option maxRecDepth 20000 in
set_option maxHeartbeats 4000000 in
theorem mt_118_0 {LL : Nat} {xs : Nat → Int32} {D : Nat} {b d k s w : hB} {ik ex pr wd : Int32} {sn : Nat → Int64} {qu tb : Nat → Int32} {ts : Int32} {r0 : Value} {rq : hRq} {h0 h1 h2 h3 : hSt} {fi : Nat → Int32} {R : List gE} (N : Nat) (x0 : Int32) (x1 : Int32) (x2 : Int32) (q : Int32 × hB) (h : me_118_0 N x0 x1 x2 b d = some q) : hM (gO LL xs) (D + 4) zR_118 [.ref 0, .int x0, .int x1, .int x2] (hCm b d k s w ik ex pr wd sn qu tb ts (r0, rq) h0 h1 h2 h3 fi R) (some (.int q.1)) (hCm b q.2 k s w ik ex pr wd sn qu tb ts (r0, rq) h0 h1 h2 h3 fi R) := by
  unfold me_118_0 at h
  refine hX_go 0 0 [some (.ref 0), some (.int x0), some (.int x1), some (.int x2), none, none] [] (hCm b d k s w ik ex pr wd sn qu tb ts (r0, rq) h0 h1 h2 h3 fi R) rfl ?_
  refine hX_go 4 (6) [some (.ref 0), some (.int x0), some (.int x1), some (.int x2), some (.int (-1)), some (.int 0)] [] (hCm b d k s w ik ex pr wd sn qu tb ts (r0, rq) h0 h1 h2 h3 fi R) rfl ?_
  revert h; refine gBindR fun q1 e1 h => ?_
  refine lt_118_0_6 N (-1) 0 d q1 e1 ?_
  refine hX_go 1 (81) [some (.ref 0), some (.int x0), some (.int x1), some (.int x2), some (.int q1.1), some (.int q1.2.1)] [.int q1.1] (hCm b q1.2.2 k s w ik ex pr wd sn qu tb ts (r0, rq) h0 h1 h2 h3 fi R) rfl ?_
  have h := Option.some.inj h; subst h
  exact hX_end rfl rfl rfl


/-- UpOneSide.mends(III)I -/
def me_82_0 (N : Nat) (x0 : Int32) (x1 : Int32) (x2 : Int32) (b : hB) (d : hB) (fi : Nat → Int32) : Option (Int32 × hB × (Nat → Int32)) :=
  (bif gCmp .eq (v_117_0 x0 x1 x2 b) 0 then
    (Option.bind (me_118_0 N x0 x1 x2 b d) fun q2 =>
    some (bif gCmp .ge q2.1 0 then q2.1 else (v_111_0 3), q2.2, bif gCmp .ge q2.1 0 then fi else (f_111_0_fi 3 fi)))
  else
    some (v_111_0 0, d, f_111_0_fi 0 fi))
set_option maxRecDepth 20000 in
set_option maxHeartbeats 4000000 in
theorem mt_82_0 {LL : Nat} {xs : Nat → Int32} {D : Nat} {b d k s w : hB} {ik ex pr wd : Int32} {sn : Nat → Int64} {qu tb : Nat → Int32} {ts : Int32} {r0 : Value} {rq : hRq} {h0 h1 h2 h3 : hSt} {fi : Nat → Int32} {R : List gE} (N : Nat) (x0 : Int32) (x1 : Int32) (x2 : Int32) (q : Int32 × hB × (Nat → Int32)) (h : me_82_0 N x0 x1 x2 b d fi = some q) : hM (gO LL xs) (D + 5) zR_82 [.ref 0, .int x0, .int x1, .int x2] (hCm b d k s w ik ex pr wd sn qu tb ts (r0, rq) h0 h1 h2 h3 fi R) (some (.int q.1)) (hCm b q.2.1 k s w ik ex pr wd sn qu tb ts (r0, rq) h0 h1 h2 h3 q.2.2 R) := by
  unfold me_82_0 at h
  refine hX_go 0 0 [some (.ref 0), some (.int x0), some (.int x1), some (.int x2), none] [] (hCm b d k s w ik ex pr wd sn qu tb ts (r0, rq) h0 h1 h2 h3 fi R) rfl ?_
  refine hX_go 4 (4) [some (.ref 0), some (.int x0), some (.int x1), some (.int x2), none] [.int x2, .int x1, .int x0, .ref 0] (hCm b d k s w ik ex pr wd sn qu tb ts (r0, rq) h0 h1 h2 h3 fi R) rfl ?_
  refine hX_call (r' := zR_117) rfl (ct_117_0 x0 x1 x2) ?_
  refine hX_goM 1 (bif gCmp .eq (v_117_0 x0 x1 x2 b) 0 then 16 else 10) [some (.ref 0), some (.int x0), some (.int x1), some (.int x2), none] [] rfl ?_
  refine hX_if (gCmp .eq (v_117_0 x0 x1 x2 b) 0) (fun c1 => ?_) (fun c1 => ?_)
  · skip
    have h := gcT c1 h
    refine hX_goM 4 (20) [some (.ref 0), some (.int x0), some (.int x1), some (.int x2), none] [.int x2, .int x1, .int x0, .ref 0] rfl ?_
    revert h; refine gBindR fun q2 e2 h => ?_
    refine hX_call (r' := zR_118) rfl (mt_118_0 N x0 x1 x2 q2 e2) ?_
    refine hX_go 3 (bif gCmp .ge q2.1 0 then 38 else 30) [some (.ref 0), some (.int x0), some (.int x1), some (.int x2), some (.int q2.1)] [] (hCm b q2.2 k s w ik ex pr wd sn qu tb ts (r0, rq) h0 h1 h2 h3 fi R) rfl ?_
    refine hX_mrg 40 [some (.ref 0), some (.int x0), some (.int x1), some (.int x2), some (.int q2.1)] [.int (bif gCmp .ge q2.1 0 then q2.1 else (v_111_0 3))] (hCm b q2.2 k s w ik ex pr wd sn qu tb ts (r0, rq) h0 h1 h2 h3 (bif gCmp .ge q2.1 0 then fi else (f_111_0_fi 3 fi)) R) (fun hk => ?_) ?_
    · skip
      refine hX_if (gCmp .ge q2.1 0) (fun c4 => ?_) (fun c4 => ?_)
      · skip
        refine hX_goM 1 (40) [some (.ref 0), some (.int x0), some (.int x1), some (.int x2), some (.int q2.1)] [.int q2.1] rfl ?_
        have hk := hk
        simp only [c4, cond_true, cond_false] at hk
        first | exact hk | (simp only [c4, cond_true, cond_false]; exact hk)
      · skip
        refine hX_goM 2 (32) [some (.ref 0), some (.int x0), some (.int x1), some (.int x2), some (.int q2.1)] [.int 3, .ref 0] rfl ?_
        refine hX_call (r' := zR_111) rfl (ct_111_0 3 rfl) ?_
        refine hX_go 1 (40) [some (.ref 0), some (.int x0), some (.int x1), some (.int x2), some (.int q2.1)] [.int (v_111_0 3)] (hCm b q2.2 k s w ik ex pr wd sn qu tb ts (r0, rq) h0 h1 h2 h3 (f_111_0_fi 3 fi) R) rfl ?_
        have hk := hk
        simp only [c4, cond_true, cond_false] at hk
        first | exact hk | (simp only [c4, cond_true, cond_false]; exact hk)
    have h := Option.some.inj h; subst h
    exact hX_end rfl rfl rfl
  · skip
    have h := gcF c1 h
    refine hX_goM 2 (12) [some (.ref 0), some (.int x0), some (.int x1), some (.int x2), none] [.int 0, .ref 0] rfl ?_
    refine hX_call (r' := zR_111) rfl (ct_111_0 0 rfl) ?_
    refine hX_go 0 (15) [some (.ref 0), some (.int x0), some (.int x1), some (.int x2), none] [.int (v_111_0 0)] (hCm b d k s w ik ex pr wd sn qu tb ts (r0, rq) h0 h1 h2 h3 (f_111_0_fi 0 fi) R) rfl ?_
    have h := Option.some.inj h; subst h
    exact hX_end rfl rfl rfl


/-- UpOneSide.costs(III)I -/
def me_83_0 (N : Nat) (x0 : Int32) (x1 : Int32) (x2 : Int32) (b : hB) (d : hB) (fi : Nat → Int32) : Option (Int32 × hB × (Nat → Int32)) :=
  (bif gCmp .eq (v_117_0 x0 x1 x2 b) 0 then
    (Option.bind (me_118_0 N x0 x1 x2 b d) fun q2 =>
    (bif gCmp .ge q2.1 0 then
      (Option.bind (me_23_1 N q2.1 b) fun q4 =>
      some (q4, q2.2, fi))
    else
      some (v_111_0 3, q2.2, f_111_0_fi 3 fi)))
  else
    some (v_111_0 0, d, f_111_0_fi 0 fi))
set_option maxRecDepth 20000 in
set_option maxHeartbeats 4000000 in
theorem mt_83_0 {LL : Nat} {xs : Nat → Int32} {D : Nat} {b d k s w : hB} {ik ex pr wd : Int32} {sn : Nat → Int64} {qu tb : Nat → Int32} {ts : Int32} {r0 : Value} {rq : hRq} {h0 h1 h2 h3 : hSt} {fi : Nat → Int32} {R : List gE} (N : Nat) (x0 : Int32) (x1 : Int32) (x2 : Int32) (q : Int32 × hB × (Nat → Int32)) (h : me_83_0 N x0 x1 x2 b d fi = some q) : hM (gO LL xs) (D + 5) zR_83 [.ref 0, .int x0, .int x1, .int x2] (hCm b d k s w ik ex pr wd sn qu tb ts (r0, rq) h0 h1 h2 h3 fi R) (some (.int q.1)) (hCm b q.2.1 k s w ik ex pr wd sn qu tb ts (r0, rq) h0 h1 h2 h3 q.2.2 R) := by
  unfold me_83_0 at h
  refine hX_go 0 0 [some (.ref 0), some (.int x0), some (.int x1), some (.int x2), none] [] (hCm b d k s w ik ex pr wd sn qu tb ts (r0, rq) h0 h1 h2 h3 fi R) rfl ?_
  refine hX_go 4 (4) [some (.ref 0), some (.int x0), some (.int x1), some (.int x2), none] [.int x2, .int x1, .int x0, .ref 0] (hCm b d k s w ik ex pr wd sn qu tb ts (r0, rq) h0 h1 h2 h3 fi R) rfl ?_
  refine hX_call (r' := zR_117) rfl (ct_117_0 x0 x1 x2) ?_
  refine hX_goM 1 (bif gCmp .eq (v_117_0 x0 x1 x2 b) 0 then 16 else 10) [some (.ref 0), some (.int x0), some (.int x1), some (.int x2), none] [] rfl ?_
  refine hX_if (gCmp .eq (v_117_0 x0 x1 x2 b) 0) (fun c1 => ?_) (fun c1 => ?_)
  · skip
    have h := gcT c1 h
    refine hX_goM 4 (20) [some (.ref 0), some (.int x0), some (.int x1), some (.int x2), none] [.int x2, .int x1, .int x0, .ref 0] rfl ?_
    revert h; refine gBindR fun q2 e2 h => ?_
    refine hX_call (r' := zR_118) rfl (mt_118_0 N x0 x1 x2 q2 e2) ?_
    refine hX_go 3 (bif gCmp .ge q2.1 0 then 38 else 30) [some (.ref 0), some (.int x0), some (.int x1), some (.int x2), some (.int q2.1)] [] (hCm b q2.2 k s w ik ex pr wd sn qu tb ts (r0, rq) h0 h1 h2 h3 fi R) rfl ?_
    refine hX_if (gCmp .ge q2.1 0) (fun c3 => ?_) (fun c3 => ?_)
    · skip
      have h := gcT c3 h
      refine hX_goM 3 (44) [some (.ref 0), some (.int x0), some (.int x1), some (.int x2), some (.int q2.1)] [.int q2.1, .ref 1] rfl ?_
      revert h; refine gBindR fun q4 e4 h => ?_
      refine hX_call (r' := zR_23) rfl (mt_23_1 N q2.1 q4 e4) ?_
      refine hX_goM 0 (47) [some (.ref 0), some (.int x0), some (.int x1), some (.int x2), some (.int q2.1)] [.int q4] rfl ?_
      have h := Option.some.inj h; subst h
      exact hX_end rfl rfl rfl
    · skip
      have h := gcF c3 h
      refine hX_goM 2 (32) [some (.ref 0), some (.int x0), some (.int x1), some (.int x2), some (.int q2.1)] [.int 3, .ref 0] rfl ?_
      refine hX_call (r' := zR_111) rfl (ct_111_0 3 rfl) ?_
      refine hX_go 1 (47) [some (.ref 0), some (.int x0), some (.int x1), some (.int x2), some (.int q2.1)] [.int (v_111_0 3)] (hCm b q2.2 k s w ik ex pr wd sn qu tb ts (r0, rq) h0 h1 h2 h3 (f_111_0_fi 3 fi) R) rfl ?_
      have h := Option.some.inj h; subst h
      exact hX_end rfl rfl rfl
  · skip
    have h := gcF c1 h
    refine hX_goM 2 (12) [some (.ref 0), some (.int x0), some (.int x1), some (.int x2), none] [.int 0, .ref 0] rfl ?_
    refine hX_call (r' := zR_111) rfl (ct_111_0 0 rfl) ?_
    refine hX_go 0 (15) [some (.ref 0), some (.int x0), some (.int x1), some (.int x2), none] [.int (v_111_0 0)] (hCm b d k s w ik ex pr wd sn qu tb ts (r0, rq) h0 h1 h2 h3 (f_111_0_fi 0 fi) R) rfl ?_
    have h := Option.some.inj h; subst h
    exact hX_end rfl rfl rfl

/-- UpOneSide$Blind.mend(I)V -/
def f_22_1_b (x0 : Int32) (b : hB) : hB := (b.1, b.2.1, b.2.2.1, b.2.2.2.1, b.2.2.2.2.1, b.2.2.2.2.2.1, b.2.2.2.2.2.2.1, b.2.2.2.2.2.2.2.1, bif gCmp .eq (x0 &&& 8) 0 then (bif gCmp .eq (x0 &&& 4) 0 then (bif gCmp .eq (x0 &&& 2) 0 then (bif gCmp .eq (x0 &&& 1) 0 then b.2.2.2.2.2.2.2.2.1 else (upd b.2.2.2.2.2.2.2.2.1 1 0)) else (upd (bif gCmp .eq (x0 &&& 1) 0 then b.2.2.2.2.2.2.2.2.1 else (upd b.2.2.2.2.2.2.2.2.1 1 0)) 0 0)) else (upd (bif gCmp .eq (x0 &&& 2) 0 then (bif gCmp .eq (x0 &&& 1) 0 then b.2.2.2.2.2.2.2.2.1 else (upd b.2.2.2.2.2.2.2.2.1 1 0)) else (upd (bif gCmp .eq (x0 &&& 1) 0 then b.2.2.2.2.2.2.2.2.1 else (upd b.2.2.2.2.2.2.2.2.1 1 0)) 0 0)) 2 0)) else (upd (bif gCmp .eq (x0 &&& 4) 0 then (bif gCmp .eq (x0 &&& 2) 0 then (bif gCmp .eq (x0 &&& 1) 0 then b.2.2.2.2.2.2.2.2.1 else (upd b.2.2.2.2.2.2.2.2.1 1 0)) else (upd (bif gCmp .eq (x0 &&& 1) 0 then b.2.2.2.2.2.2.2.2.1 else (upd b.2.2.2.2.2.2.2.2.1 1 0)) 0 0)) else (upd (bif gCmp .eq (x0 &&& 2) 0 then (bif gCmp .eq (x0 &&& 1) 0 then b.2.2.2.2.2.2.2.2.1 else (upd b.2.2.2.2.2.2.2.2.1 1 0)) else (upd (bif gCmp .eq (x0 &&& 1) 0 then b.2.2.2.2.2.2.2.2.1 else (upd b.2.2.2.2.2.2.2.2.1 1 0)) 0 0)) 2 0)) 3 60), b.2.2.2.2.2.2.2.2.2)
set_option maxRecDepth 20000 in
set_option maxHeartbeats 1000000 in
theorem ct_22_1 {LL : Nat} {xs : Nat → Int32} {D : Nat} {b d k s w : hB} {ik ex pr wd : Int32} {sn : Nat → Int64} {qu tb : Nat → Int32} {ts : Int32} {r0 : Value} {rq : hRq} {h0 h1 h2 h3 : hSt} {fi : Nat → Int32} {R : List gE} (x0 : Int32) : hM (gO LL xs) (D + 0) zR_22 [.ref 1, .int x0] (hCm b d k s w ik ex pr wd sn qu tb ts (r0, rq) h0 h1 h2 h3 fi R) none (hCm (f_22_1_b x0 b) d k s w ik ex pr wd sn qu tb ts (r0, rq) h0 h1 h2 h3 fi R) := by
  refine hX_go 0 0 [some (.ref 1), some (.int x0)] [] (hCm b d k s w ik ex pr wd sn qu tb ts (r0, rq) h0 h1 h2 h3 fi R) rfl ?_
  refine hX_go 4 (bif gCmp .eq (x0 &&& 1) 0 then 13 else 6) [some (.ref 1), some (.int x0)] [] (hCm b d k s w ik ex pr wd sn qu tb ts (r0, rq) h0 h1 h2 h3 fi R) rfl ?_
  suffices hk : hX (gO LL xs) (D + 0) zR_22 13 [some (.ref 1), some (.int x0)] [] (hCm (b.1, b.2.1, b.2.2.1, b.2.2.2.1, b.2.2.2.2.1, b.2.2.2.2.2.1, b.2.2.2.2.2.2.1, b.2.2.2.2.2.2.2.1, bif gCmp .eq (x0 &&& 1) 0 then b.2.2.2.2.2.2.2.2.1 else (upd b.2.2.2.2.2.2.2.2.1 1 0), b.2.2.2.2.2.2.2.2.2) d k s w ik ex pr wd sn qu tb ts (r0, rq) h0 h1 h2 h3 fi R) none (hCm (f_22_1_b x0 b) d k s w ik ex pr wd sn qu tb ts (r0, rq) h0 h1 h2 h3 fi R) by
    refine hX_if (gCmp .eq (x0 &&& 1) 0) (fun c1 => ?_) (fun c1 => ?_)
    · skip
      have hk := hk
      simp only [c1, cond_true, cond_false] at hk
      first | exact hk | (simp only [c1, cond_true, cond_false]; exact hk)
    · skip
      refine hX_go 5 (13) [some (.ref 1), some (.int x0)] [] (hCm (b.1, b.2.1, b.2.2.1, b.2.2.2.1, b.2.2.2.2.1, b.2.2.2.2.2.1, b.2.2.2.2.2.2.1, b.2.2.2.2.2.2.2.1, upd b.2.2.2.2.2.2.2.2.1 1 0, b.2.2.2.2.2.2.2.2.2) d k s w ik ex pr wd sn qu tb ts (r0, rq) h0 h1 h2 h3 fi R) rfl ?_
      have hk := hk
      simp only [c1, cond_true, cond_false] at hk
      first | exact hk | (simp only [c1, cond_true, cond_false]; exact hk)
  refine hX_go 4 (bif gCmp .eq (x0 &&& 2) 0 then 26 else 19) [some (.ref 1), some (.int x0)] [] (hCm (b.1, b.2.1, b.2.2.1, b.2.2.2.1, b.2.2.2.2.1, b.2.2.2.2.2.1, b.2.2.2.2.2.2.1, b.2.2.2.2.2.2.2.1, bif gCmp .eq (x0 &&& 1) 0 then b.2.2.2.2.2.2.2.2.1 else (upd b.2.2.2.2.2.2.2.2.1 1 0), b.2.2.2.2.2.2.2.2.2) d k s w ik ex pr wd sn qu tb ts (r0, rq) h0 h1 h2 h3 fi R) rfl ?_
  suffices hk : hX (gO LL xs) (D + 0) zR_22 26 [some (.ref 1), some (.int x0)] [] (hCm (b.1, b.2.1, b.2.2.1, b.2.2.2.1, b.2.2.2.2.1, b.2.2.2.2.2.1, b.2.2.2.2.2.2.1, b.2.2.2.2.2.2.2.1, bif gCmp .eq (x0 &&& 2) 0 then (bif gCmp .eq (x0 &&& 1) 0 then b.2.2.2.2.2.2.2.2.1 else (upd b.2.2.2.2.2.2.2.2.1 1 0)) else (upd (bif gCmp .eq (x0 &&& 1) 0 then b.2.2.2.2.2.2.2.2.1 else (upd b.2.2.2.2.2.2.2.2.1 1 0)) 0 0), b.2.2.2.2.2.2.2.2.2) d k s w ik ex pr wd sn qu tb ts (r0, rq) h0 h1 h2 h3 fi R) none (hCm (f_22_1_b x0 b) d k s w ik ex pr wd sn qu tb ts (r0, rq) h0 h1 h2 h3 fi R) by
    refine hX_if (gCmp .eq (x0 &&& 2) 0) (fun c2 => ?_) (fun c2 => ?_)
    · skip
      have hk := hk
      simp only [c2, cond_true, cond_false] at hk
      first | exact hk | (simp only [c2, cond_true, cond_false]; exact hk)
    · skip
      refine hX_go 5 (26) [some (.ref 1), some (.int x0)] [] (hCm (b.1, b.2.1, b.2.2.1, b.2.2.2.1, b.2.2.2.2.1, b.2.2.2.2.2.1, b.2.2.2.2.2.2.1, b.2.2.2.2.2.2.2.1, upd (bif gCmp .eq (x0 &&& 1) 0 then b.2.2.2.2.2.2.2.2.1 else (upd b.2.2.2.2.2.2.2.2.1 1 0)) 0 0, b.2.2.2.2.2.2.2.2.2) d k s w ik ex pr wd sn qu tb ts (r0, rq) h0 h1 h2 h3 fi R) rfl ?_
      have hk := hk
      simp only [c2, cond_true, cond_false] at hk
      first | exact hk | (simp only [c2, cond_true, cond_false]; exact hk)
  refine hX_go 4 (bif gCmp .eq (x0 &&& 4) 0 then 39 else 32) [some (.ref 1), some (.int x0)] [] (hCm (b.1, b.2.1, b.2.2.1, b.2.2.2.1, b.2.2.2.2.1, b.2.2.2.2.2.1, b.2.2.2.2.2.2.1, b.2.2.2.2.2.2.2.1, bif gCmp .eq (x0 &&& 2) 0 then (bif gCmp .eq (x0 &&& 1) 0 then b.2.2.2.2.2.2.2.2.1 else (upd b.2.2.2.2.2.2.2.2.1 1 0)) else (upd (bif gCmp .eq (x0 &&& 1) 0 then b.2.2.2.2.2.2.2.2.1 else (upd b.2.2.2.2.2.2.2.2.1 1 0)) 0 0), b.2.2.2.2.2.2.2.2.2) d k s w ik ex pr wd sn qu tb ts (r0, rq) h0 h1 h2 h3 fi R) rfl ?_
  suffices hk : hX (gO LL xs) (D + 0) zR_22 39 [some (.ref 1), some (.int x0)] [] (hCm (b.1, b.2.1, b.2.2.1, b.2.2.2.1, b.2.2.2.2.1, b.2.2.2.2.2.1, b.2.2.2.2.2.2.1, b.2.2.2.2.2.2.2.1, bif gCmp .eq (x0 &&& 4) 0 then (bif gCmp .eq (x0 &&& 2) 0 then (bif gCmp .eq (x0 &&& 1) 0 then b.2.2.2.2.2.2.2.2.1 else (upd b.2.2.2.2.2.2.2.2.1 1 0)) else (upd (bif gCmp .eq (x0 &&& 1) 0 then b.2.2.2.2.2.2.2.2.1 else (upd b.2.2.2.2.2.2.2.2.1 1 0)) 0 0)) else (upd (bif gCmp .eq (x0 &&& 2) 0 then (bif gCmp .eq (x0 &&& 1) 0 then b.2.2.2.2.2.2.2.2.1 else (upd b.2.2.2.2.2.2.2.2.1 1 0)) else (upd (bif gCmp .eq (x0 &&& 1) 0 then b.2.2.2.2.2.2.2.2.1 else (upd b.2.2.2.2.2.2.2.2.1 1 0)) 0 0)) 2 0), b.2.2.2.2.2.2.2.2.2) d k s w ik ex pr wd sn qu tb ts (r0, rq) h0 h1 h2 h3 fi R) none (hCm (f_22_1_b x0 b) d k s w ik ex pr wd sn qu tb ts (r0, rq) h0 h1 h2 h3 fi R) by
    refine hX_if (gCmp .eq (x0 &&& 4) 0) (fun c3 => ?_) (fun c3 => ?_)
    · skip
      have hk := hk
      simp only [c3, cond_true, cond_false] at hk
      first | exact hk | (simp only [c3, cond_true, cond_false]; exact hk)
    · skip
      refine hX_go 5 (39) [some (.ref 1), some (.int x0)] [] (hCm (b.1, b.2.1, b.2.2.1, b.2.2.2.1, b.2.2.2.2.1, b.2.2.2.2.2.1, b.2.2.2.2.2.2.1, b.2.2.2.2.2.2.2.1, upd (bif gCmp .eq (x0 &&& 2) 0 then (bif gCmp .eq (x0 &&& 1) 0 then b.2.2.2.2.2.2.2.2.1 else (upd b.2.2.2.2.2.2.2.2.1 1 0)) else (upd (bif gCmp .eq (x0 &&& 1) 0 then b.2.2.2.2.2.2.2.2.1 else (upd b.2.2.2.2.2.2.2.2.1 1 0)) 0 0)) 2 0, b.2.2.2.2.2.2.2.2.2) d k s w ik ex pr wd sn qu tb ts (r0, rq) h0 h1 h2 h3 fi R) rfl ?_
      have hk := hk
      simp only [c3, cond_true, cond_false] at hk
      first | exact hk | (simp only [c3, cond_true, cond_false]; exact hk)
  refine hX_go 4 (bif gCmp .eq (x0 &&& 8) 0 then 54 else 46) [some (.ref 1), some (.int x0)] [] (hCm (b.1, b.2.1, b.2.2.1, b.2.2.2.1, b.2.2.2.2.1, b.2.2.2.2.2.1, b.2.2.2.2.2.2.1, b.2.2.2.2.2.2.2.1, bif gCmp .eq (x0 &&& 4) 0 then (bif gCmp .eq (x0 &&& 2) 0 then (bif gCmp .eq (x0 &&& 1) 0 then b.2.2.2.2.2.2.2.2.1 else (upd b.2.2.2.2.2.2.2.2.1 1 0)) else (upd (bif gCmp .eq (x0 &&& 1) 0 then b.2.2.2.2.2.2.2.2.1 else (upd b.2.2.2.2.2.2.2.2.1 1 0)) 0 0)) else (upd (bif gCmp .eq (x0 &&& 2) 0 then (bif gCmp .eq (x0 &&& 1) 0 then b.2.2.2.2.2.2.2.2.1 else (upd b.2.2.2.2.2.2.2.2.1 1 0)) else (upd (bif gCmp .eq (x0 &&& 1) 0 then b.2.2.2.2.2.2.2.2.1 else (upd b.2.2.2.2.2.2.2.2.1 1 0)) 0 0)) 2 0), b.2.2.2.2.2.2.2.2.2) d k s w ik ex pr wd sn qu tb ts (r0, rq) h0 h1 h2 h3 fi R) rfl ?_
  suffices hk : hX (gO LL xs) (D + 0) zR_22 54 [some (.ref 1), some (.int x0)] [] (hCm (b.1, b.2.1, b.2.2.1, b.2.2.2.1, b.2.2.2.2.1, b.2.2.2.2.2.1, b.2.2.2.2.2.2.1, b.2.2.2.2.2.2.2.1, bif gCmp .eq (x0 &&& 8) 0 then (bif gCmp .eq (x0 &&& 4) 0 then (bif gCmp .eq (x0 &&& 2) 0 then (bif gCmp .eq (x0 &&& 1) 0 then b.2.2.2.2.2.2.2.2.1 else (upd b.2.2.2.2.2.2.2.2.1 1 0)) else (upd (bif gCmp .eq (x0 &&& 1) 0 then b.2.2.2.2.2.2.2.2.1 else (upd b.2.2.2.2.2.2.2.2.1 1 0)) 0 0)) else (upd (bif gCmp .eq (x0 &&& 2) 0 then (bif gCmp .eq (x0 &&& 1) 0 then b.2.2.2.2.2.2.2.2.1 else (upd b.2.2.2.2.2.2.2.2.1 1 0)) else (upd (bif gCmp .eq (x0 &&& 1) 0 then b.2.2.2.2.2.2.2.2.1 else (upd b.2.2.2.2.2.2.2.2.1 1 0)) 0 0)) 2 0)) else (upd (bif gCmp .eq (x0 &&& 4) 0 then (bif gCmp .eq (x0 &&& 2) 0 then (bif gCmp .eq (x0 &&& 1) 0 then b.2.2.2.2.2.2.2.2.1 else (upd b.2.2.2.2.2.2.2.2.1 1 0)) else (upd (bif gCmp .eq (x0 &&& 1) 0 then b.2.2.2.2.2.2.2.2.1 else (upd b.2.2.2.2.2.2.2.2.1 1 0)) 0 0)) else (upd (bif gCmp .eq (x0 &&& 2) 0 then (bif gCmp .eq (x0 &&& 1) 0 then b.2.2.2.2.2.2.2.2.1 else (upd b.2.2.2.2.2.2.2.2.1 1 0)) else (upd (bif gCmp .eq (x0 &&& 1) 0 then b.2.2.2.2.2.2.2.2.1 else (upd b.2.2.2.2.2.2.2.2.1 1 0)) 0 0)) 2 0)) 3 60), b.2.2.2.2.2.2.2.2.2) d k s w ik ex pr wd sn qu tb ts (r0, rq) h0 h1 h2 h3 fi R) none (hCm (f_22_1_b x0 b) d k s w ik ex pr wd sn qu tb ts (r0, rq) h0 h1 h2 h3 fi R) by
    refine hX_if (gCmp .eq (x0 &&& 8) 0) (fun c4 => ?_) (fun c4 => ?_)
    · skip
      have hk := hk
      simp only [c4, cond_true, cond_false] at hk
      first | exact hk | (simp only [c4, cond_true, cond_false]; exact hk)
    · skip
      refine hX_go 5 (54) [some (.ref 1), some (.int x0)] [] (hCm (b.1, b.2.1, b.2.2.1, b.2.2.2.1, b.2.2.2.2.1, b.2.2.2.2.2.1, b.2.2.2.2.2.2.1, b.2.2.2.2.2.2.2.1, upd (bif gCmp .eq (x0 &&& 4) 0 then (bif gCmp .eq (x0 &&& 2) 0 then (bif gCmp .eq (x0 &&& 1) 0 then b.2.2.2.2.2.2.2.2.1 else (upd b.2.2.2.2.2.2.2.2.1 1 0)) else (upd (bif gCmp .eq (x0 &&& 1) 0 then b.2.2.2.2.2.2.2.2.1 else (upd b.2.2.2.2.2.2.2.2.1 1 0)) 0 0)) else (upd (bif gCmp .eq (x0 &&& 2) 0 then (bif gCmp .eq (x0 &&& 1) 0 then b.2.2.2.2.2.2.2.2.1 else (upd b.2.2.2.2.2.2.2.2.1 1 0)) else (upd (bif gCmp .eq (x0 &&& 1) 0 then b.2.2.2.2.2.2.2.2.1 else (upd b.2.2.2.2.2.2.2.2.1 1 0)) 0 0)) 2 0)) 3 60, b.2.2.2.2.2.2.2.2.2) d k s w ik ex pr wd sn qu tb ts (r0, rq) h0 h1 h2 h3 fi R) rfl ?_
      have hk := hk
      simp only [c4, cond_true, cond_false] at hk
      first | exact hk | (simp only [c4, cond_true, cond_false]; exact hk)
  exact hX_end rfl (rfl) (rfl)


/-- UpOneSide.mended(I)I -/
def me_84_0 (N : Nat) (x0 : Int32) (b : hB) (fi : Nat → Int32) : Option (Int32 × hB × (Nat → Int32)) :=
  (bif gCmp .ne (v_112 x0 0 15) 0 then
    (Option.bind (me_23_1 N x0 (f_22_1_b x0 b)) fun q2 =>
    some (q2, (f_22_1_b x0 b), fi))
  else
    some (v_111_0 0, b, f_111_0_fi 0 fi))
set_option maxRecDepth 20000 in
set_option maxHeartbeats 4000000 in
theorem mt_84_0 {LL : Nat} {xs : Nat → Int32} {D : Nat} {b d k s w : hB} {ik ex pr wd : Int32} {sn : Nat → Int64} {qu tb : Nat → Int32} {ts : Int32} {r0 : Value} {rq : hRq} {h0 h1 h2 h3 : hSt} {fi : Nat → Int32} {R : List gE} (N : Nat) (x0 : Int32) (q : Int32 × hB × (Nat → Int32)) (h : me_84_0 N x0 b fi = some q) : hM (gO LL xs) (D + 1) zR_84 [.ref 0, .int x0] (hCm b d k s w ik ex pr wd sn qu tb ts (r0, rq) h0 h1 h2 h3 fi R) (some (.int q.1)) (hCm q.2.1 d k s w ik ex pr wd sn qu tb ts (r0, rq) h0 h1 h2 h3 q.2.2 R) := by
  unfold me_84_0 at h
  refine hX_go 0 0 [some (.ref 0), some (.int x0)] [] (hCm b d k s w ik ex pr wd sn qu tb ts (r0, rq) h0 h1 h2 h3 fi R) rfl ?_
  refine hX_go 3 (4) [some (.ref 0), some (.int x0)] [.int 15, .int 0, .int x0] (hCm b d k s w ik ex pr wd sn qu tb ts (r0, rq) h0 h1 h2 h3 fi R) rfl ?_
  refine hX_call (r' := zR_112) rfl (ct_112 x0 0 15) ?_
  refine hX_goM 1 (bif gCmp .ne (v_112 x0 0 15) 0 then 16 else 10) [some (.ref 0), some (.int x0)] [] rfl ?_
  refine hX_if (gCmp .ne (v_112 x0 0 15) 0) (fun c1 => ?_) (fun c1 => ?_)
  · skip
    have h := gcT c1 h
    refine hX_goM 3 (21) [some (.ref 0), some (.int x0)] [.int x0, .ref 1] rfl ?_
    refine hX_call (r' := zR_22) rfl (ct_22_1 x0) ?_
    refine hX_go 3 (29) [some (.ref 0), some (.int x0)] [.int x0, .ref 1] (hCm (f_22_1_b x0 b) d k s w ik ex pr wd sn qu tb ts (r0, rq) h0 h1 h2 h3 fi R) rfl ?_
    revert h; refine gBindR fun q2 e2 h => ?_
    refine hX_call (r' := zR_23) rfl (mt_23_1 N x0 q2 e2) ?_
    refine hX_goM 0 (32) [some (.ref 0), some (.int x0)] [.int q2] rfl ?_
    have h := Option.some.inj h; subst h
    exact hX_end rfl rfl rfl
  · skip
    have h := gcF c1 h
    refine hX_goM 2 (12) [some (.ref 0), some (.int x0)] [.int 0, .ref 0] rfl ?_
    refine hX_call (r' := zR_111) rfl (ct_111_0 0 rfl) ?_
    refine hX_go 0 (15) [some (.ref 0), some (.int x0)] [.int (v_111_0 0)] (hCm b d k s w ik ex pr wd sn qu tb ts (r0, rq) h0 h1 h2 h3 (f_111_0_fi 0 fi) R) rfl ?_
    have h := Option.some.inj h; subst h
    exact hX_end rfl rfl rfl

/-- UpOneSide.exchange([III)I -/
def v_115_8 (x0 : Int32) (b : hB) : Int32 := b.2.2.2.2.2.2.2.2.2.2.2.1 (Int32.toNatClampNeg x0)
def f_115_8_b (x0 : Int32) (x1 : Int32) (b : hB) : hB := (b.1, b.2.1, b.2.2.1, b.2.2.2.1, b.2.2.2.2.1, b.2.2.2.2.2.1, b.2.2.2.2.2.2.1, b.2.2.2.2.2.2.2.1, b.2.2.2.2.2.2.2.2.1, b.2.2.2.2.2.2.2.2.2.1, b.2.2.2.2.2.2.2.2.2.2.1, upd b.2.2.2.2.2.2.2.2.2.2.2.1 (Int32.toNatClampNeg x0) x1, b.2.2.2.2.2.2.2.2.2.2.2.2)
set_option maxRecDepth 20000 in
set_option maxHeartbeats 1000000 in
theorem ct_115_8 {LL : Nat} {xs : Nat → Int32} {D : Nat} {b d k s w : hB} {ik ex pr wd : Int32} {sn : Nat → Int64} {qu tb : Nat → Int32} {ts : Int32} {r0 : Value} {rq : hRq} {h0 h1 h2 h3 : hSt} {fi : Nat → Int32} {R : List gE} (x0 : Int32) (x1 : Int32) (o1 : gIn x0 24 = true) : hM (gO LL xs) (D + 0) zR_115 [.ref 8, .int x0, .int x1] (hCm b d k s w ik ex pr wd sn qu tb ts (r0, rq) h0 h1 h2 h3 fi R) (some (.int (v_115_8 x0 b))) (hCm (f_115_8_b x0 x1 b) d k s w ik ex pr wd sn qu tb ts (r0, rq) h0 h1 h2 h3 fi R) := by
  refine hX_go 0 0 [some (.ref 8), some (.int x0), some (.int x1), none] [] (hCm b d k s w ik ex pr wd sn qu tb ts (r0, rq) h0 h1 h2 h3 fi R) rfl ?_
  refine hX_go 2 (2) [some (.ref 8), some (.int x0), some (.int x1), none] [.int x0, .ref 8] (hCm b d k s w ik ex pr wd sn qu tb ts (r0, rq) h0 h1 h2 h3 fi R) rfl ?_
  refine hX_gM (gIn x0 24) 3 [some (.ref 8), some (.int x0), some (.int x1), none] [.int (b.2.2.2.2.2.2.2.2.2.2.2.1 (Int32.toNatClampNeg x0))] rfl o1 ?_
  refine hX_goM 4 (7) [some (.ref 8), some (.int x0), some (.int x1), some (.int (b.2.2.2.2.2.2.2.2.2.2.2.1 (Int32.toNatClampNeg x0)))] [.int x1, .int x0, .ref 8] rfl ?_
  refine hX_g (gIn x0 24) 8 [some (.ref 8), some (.int x0), some (.int x1), some (.int (b.2.2.2.2.2.2.2.2.2.2.2.1 (Int32.toNatClampNeg x0)))] [] (hCm (b.1, b.2.1, b.2.2.1, b.2.2.2.1, b.2.2.2.2.1, b.2.2.2.2.2.1, b.2.2.2.2.2.2.1, b.2.2.2.2.2.2.2.1, b.2.2.2.2.2.2.2.2.1, b.2.2.2.2.2.2.2.2.2.1, b.2.2.2.2.2.2.2.2.2.2.1, upd b.2.2.2.2.2.2.2.2.2.2.2.1 (Int32.toNatClampNeg x0) x1, b.2.2.2.2.2.2.2.2.2.2.2.2) d k s w ik ex pr wd sn qu tb ts (r0, rq) h0 h1 h2 h3 fi R) rfl o1 ?_
  refine hX_goM 1 (9) [some (.ref 8), some (.int x0), some (.int x1), some (.int (b.2.2.2.2.2.2.2.2.2.2.2.1 (Int32.toNatClampNeg x0)))] [.int (b.2.2.2.2.2.2.2.2.2.2.2.1 (Int32.toNatClampNeg x0))] rfl ?_
  exact hX_end rfl (rfl) (rfl)


/-- UpOneSide.sun(II)I -/
def me_85_0 (N : Nat) (x0 : Int32) (x1 : Int32) (b : hB) (fi : Nat → Int32) : Option (Int32 × hB × (Nat → Int32)) :=
  (bif gCmp .eq (v_112 x0 0 23) 0 then
    some (v_111_0 0, b, f_111_0_fi 0 fi)
  else
    (bif gCmp .ne (v_112 x1 0 60) 0 then
      (bif gIn x0 24 then some (v_115_8 x0 b, (f_115_8_b x0 x1 b), fi) else none)
    else
      some (v_111_0 0, b, f_111_0_fi 0 fi)))
set_option maxRecDepth 20000 in
set_option maxHeartbeats 4000000 in
theorem mt_85_0 {LL : Nat} {xs : Nat → Int32} {D : Nat} {b d k s w : hB} {ik ex pr wd : Int32} {sn : Nat → Int64} {qu tb : Nat → Int32} {ts : Int32} {r0 : Value} {rq : hRq} {h0 h1 h2 h3 : hSt} {fi : Nat → Int32} {R : List gE} (N : Nat) (x0 : Int32) (x1 : Int32) (q : Int32 × hB × (Nat → Int32)) (h : me_85_0 N x0 x1 b fi = some q) : hM (gO LL xs) (D + 1) zR_85 [.ref 0, .int x0, .int x1] (hCm b d k s w ik ex pr wd sn qu tb ts (r0, rq) h0 h1 h2 h3 fi R) (some (.int q.1)) (hCm q.2.1 d k s w ik ex pr wd sn qu tb ts (r0, rq) h0 h1 h2 h3 q.2.2 R) := by
  unfold me_85_0 at h
  refine hX_go 0 0 [some (.ref 0), some (.int x0), some (.int x1)] [] (hCm b d k s w ik ex pr wd sn qu tb ts (r0, rq) h0 h1 h2 h3 fi R) rfl ?_
  refine hX_go 3 (4) [some (.ref 0), some (.int x0), some (.int x1)] [.int 23, .int 0, .int x0] (hCm b d k s w ik ex pr wd sn qu tb ts (r0, rq) h0 h1 h2 h3 fi R) rfl ?_
  refine hX_call (r' := zR_112) rfl (ct_112 x0 0 23) ?_
  refine hX_goM 1 (bif gCmp .eq (v_112 x0 0 23) 0 then 20 else 10) [some (.ref 0), some (.int x0), some (.int x1)] [] rfl ?_
  refine hX_if (gCmp .eq (v_112 x0 0 23) 0) (fun c1 => ?_) (fun c1 => ?_)
  · skip
    have h := gcT c1 h
    refine hX_goM 2 (22) [some (.ref 0), some (.int x0), some (.int x1)] [.int 0, .ref 0] rfl ?_
    refine hX_call (r' := zR_111) rfl (ct_111_0 0 rfl) ?_
    refine hX_go 0 (25) [some (.ref 0), some (.int x0), some (.int x1)] [.int (v_111_0 0)] (hCm b d k s w ik ex pr wd sn qu tb ts (r0, rq) h0 h1 h2 h3 (f_111_0_fi 0 fi) R) rfl ?_
    have h := Option.some.inj h; subst h
    exact hX_end rfl rfl rfl
  · skip
    have h := gcF c1 h
    refine hX_goM 3 (14) [some (.ref 0), some (.int x0), some (.int x1)] [.int 60, .int 0, .int x1] rfl ?_
    refine hX_call (r' := zR_112) rfl (ct_112 x1 0 60) ?_
    refine hX_goM 1 (bif gCmp .ne (v_112 x1 0 60) 0 then 26 else 20) [some (.ref 0), some (.int x0), some (.int x1)] [] rfl ?_
    refine hX_if (gCmp .ne (v_112 x1 0 60) 0) (fun c2 => ?_) (fun c2 => ?_)
    · skip
      have h := gcT c2 h
      refine hX_goM 5 (35) [some (.ref 0), some (.int x0), some (.int x1)] [.int x1, .int x0, .ref 8] rfl ?_
      revert h; refine gCondR fun g3 h => ?_
      refine hX_call (r' := zR_115) rfl (ct_115_8 x0 x1 g3) ?_
      refine hX_go 0 (38) [some (.ref 0), some (.int x0), some (.int x1)] [.int (v_115_8 x0 b)] (hCm (f_115_8_b x0 x1 b) d k s w ik ex pr wd sn qu tb ts (r0, rq) h0 h1 h2 h3 fi R) rfl ?_
      have h := Option.some.inj h; subst h
      exact hX_end rfl rfl rfl
    · skip
      have h := gcF c2 h
      refine hX_goM 2 (22) [some (.ref 0), some (.int x0), some (.int x1)] [.int 0, .ref 0] rfl ?_
      refine hX_call (r' := zR_111) rfl (ct_111_0 0 rfl) ?_
      refine hX_go 0 (25) [some (.ref 0), some (.int x0), some (.int x1)] [.int (v_111_0 0)] (hCm b d k s w ik ex pr wd sn qu tb ts (r0, rq) h0 h1 h2 h3 (f_111_0_fi 0 fi) R) rfl ?_
      have h := Option.some.inj h; subst h
      exact hX_end rfl rfl rfl

/-- UpOneSide$Blind.lightAt(I)I -/
def v_25_1 (x0 : Int32) (b : hB) : Int32 := (if 0 < (b.1 - (b.2.2.2.2.2.2.2.2.2.2.2.1 (Int32.toNatClampNeg x0))) then (b.1 - (b.2.2.2.2.2.2.2.2.2.2.2.1 (Int32.toNatClampNeg x0))) else 0) + (if 0 < (b.2.1 - (b.2.2.2.2.2.2.2.2.2.2.2.1 (Int32.toNatClampNeg x0))) then (b.2.1 - (b.2.2.2.2.2.2.2.2.2.2.2.1 (Int32.toNatClampNeg x0))) else 0)
set_option maxRecDepth 20000 in
set_option maxHeartbeats 1000000 in
theorem ct_25_1 {LL : Nat} {xs : Nat → Int32} {D : Nat} {b d k s w : hB} {ik ex pr wd : Int32} {sn : Nat → Int64} {qu tb : Nat → Int32} {ts : Int32} {r0 : Value} {rq : hRq} {h0 h1 h2 h3 : hSt} {fi : Nat → Int32} {R : List gE} (x0 : Int32) (o1 : gIn x0 24 = true) : hM (gO LL xs) (D + 1) zR_25 [.ref 1, .int x0] (hCm b d k s w ik ex pr wd sn qu tb ts (r0, rq) h0 h1 h2 h3 fi R) (some (.int (v_25_1 x0 b))) (hCm b d k s w ik ex pr wd sn qu tb ts (r0, rq) h0 h1 h2 h3 fi R) := by
  refine hX_go 0 0 [some (.ref 1), some (.int x0)] [] (hCm b d k s w ik ex pr wd sn qu tb ts (r0, rq) h0 h1 h2 h3 fi R) rfl ?_
  refine hX_go 6 (10) [some (.ref 1), some (.int x0)] [.int x0, .ref 8, .int b.1, .int 0] (hCm b d k s w ik ex pr wd sn qu tb ts (r0, rq) h0 h1 h2 h3 fi R) rfl ?_
  refine hX_gM (gIn x0 24) 11 [some (.ref 1), some (.int x0)] [.int (b.2.2.2.2.2.2.2.2.2.2.2.1 (Int32.toNatClampNeg x0)), .int b.1, .int 0] rfl o1 ?_
  refine hX_goM 8 (25) [some (.ref 1), some (.int x0)] [.int x0, .ref 8, .int b.2.1, .int 0, .int (if 0 < (b.1 - (b.2.2.2.2.2.2.2.2.2.2.2.1 (Int32.toNatClampNeg x0))) then (b.1 - (b.2.2.2.2.2.2.2.2.2.2.2.1 (Int32.toNatClampNeg x0))) else 0)] rfl ?_
  refine hX_gM (gIn x0 24) 26 [some (.ref 1), some (.int x0)] [.int (b.2.2.2.2.2.2.2.2.2.2.2.1 (Int32.toNatClampNeg x0)), .int b.2.1, .int 0, .int (if 0 < (b.1 - (b.2.2.2.2.2.2.2.2.2.2.2.1 (Int32.toNatClampNeg x0))) then (b.1 - (b.2.2.2.2.2.2.2.2.2.2.2.1 (Int32.toNatClampNeg x0))) else 0)] rfl o1 ?_
  refine hX_goM 3 (31) [some (.ref 1), some (.int x0)] [.int ((if 0 < (b.1 - (b.2.2.2.2.2.2.2.2.2.2.2.1 (Int32.toNatClampNeg x0))) then (b.1 - (b.2.2.2.2.2.2.2.2.2.2.2.1 (Int32.toNatClampNeg x0))) else 0) + (if 0 < (b.2.1 - (b.2.2.2.2.2.2.2.2.2.2.2.1 (Int32.toNatClampNeg x0))) then (b.2.1 - (b.2.2.2.2.2.2.2.2.2.2.2.1 (Int32.toNatClampNeg x0))) else 0))] rfl ?_
  exact hX_end rfl (rfl) (rfl)

/-- UpOneSide$Blind.dazzles(I)Z -/
def v_24_1 (x0 : Int32) (b : hB) : Int32 := bif gCmp .le b.2.1 (b.2.2.2.2.2.2.2.2.2.2.2.1 (Int32.toNatClampNeg x0)) then 0 else (bif gCmp .lt (b.2.2.2.2.2.2.2.2.2.2.2.1 (Int32.toNatClampNeg x0)) (b.2.2.2.2.2.2.2.2.1 5) then 0 else 1)
set_option maxRecDepth 20000 in
set_option maxHeartbeats 1000000 in
theorem ct_24_1 {LL : Nat} {xs : Nat → Int32} {D : Nat} {b d k s w : hB} {ik ex pr wd : Int32} {sn : Nat → Int64} {qu tb : Nat → Int32} {ts : Int32} {r0 : Value} {rq : hRq} {h0 h1 h2 h3 : hSt} {fi : Nat → Int32} {R : List gE} (x0 : Int32) (o1 : gIn x0 24 = true) : hM (gO LL xs) (D + 0) zR_24 [.ref 1, .int x0] (hCm b d k s w ik ex pr wd sn qu tb ts (r0, rq) h0 h1 h2 h3 fi R) (some (.int (v_24_1 x0 b))) (hCm b d k s w ik ex pr wd sn qu tb ts (r0, rq) h0 h1 h2 h3 fi R) := by
  refine hX_go 0 0 [some (.ref 1), some (.int x0)] [] (hCm b d k s w ik ex pr wd sn qu tb ts (r0, rq) h0 h1 h2 h3 fi R) rfl ?_
  refine hX_go 5 (9) [some (.ref 1), some (.int x0)] [.int x0, .ref 8, .int b.2.1] (hCm b d k s w ik ex pr wd sn qu tb ts (r0, rq) h0 h1 h2 h3 fi R) rfl ?_
  refine hX_gM (gIn x0 24) 10 [some (.ref 1), some (.int x0)] [.int (b.2.2.2.2.2.2.2.2.2.2.2.1 (Int32.toNatClampNeg x0)), .int b.2.1] rfl o1 ?_
  refine hX_goM 1 (bif gCmp .le b.2.1 (b.2.2.2.2.2.2.2.2.2.2.2.1 (Int32.toNatClampNeg x0)) then 32 else 13) [some (.ref 1), some (.int x0)] [] rfl ?_
  refine hX_if (gCmp .le b.2.1 (b.2.2.2.2.2.2.2.2.2.2.2.1 (Int32.toNatClampNeg x0))) (fun c1 => ?_) (fun c1 => ?_)
  · skip
    refine hX_goM 1 (33) [some (.ref 1), some (.int x0)] [.int 0] rfl ?_
    exact hX_end rfl (by unfold v_24_1; rw [c1]; rfl) (rfl)
  · skip
    refine hX_goM 3 (18) [some (.ref 1), some (.int x0)] [.int x0, .ref 8] rfl ?_
    refine hX_gM (gIn x0 24) 19 [some (.ref 1), some (.int x0)] [.int (b.2.2.2.2.2.2.2.2.2.2.2.1 (Int32.toNatClampNeg x0))] rfl o1 ?_
    refine hX_goM 5 (bif gCmp .lt (b.2.2.2.2.2.2.2.2.2.2.2.1 (Int32.toNatClampNeg x0)) (b.2.2.2.2.2.2.2.2.1 5) then 32 else 28) [some (.ref 1), some (.int x0)] [] rfl ?_
    refine hX_if (gCmp .lt (b.2.2.2.2.2.2.2.2.2.2.2.1 (Int32.toNatClampNeg x0)) (b.2.2.2.2.2.2.2.2.1 5)) (fun c2 => ?_) (fun c2 => ?_)
    · skip
      refine hX_goM 1 (33) [some (.ref 1), some (.int x0)] [.int 0] rfl ?_
      exact hX_end rfl (by unfold v_24_1; rw [c1, c2]; rfl) (rfl)
    · skip
      refine hX_goM 2 (33) [some (.ref 1), some (.int x0)] [.int 1] rfl ?_
      exact hX_end rfl (by unfold v_24_1; rw [c1, c2]; rfl) (rfl)

theorem bz_24_1 (x0 : Int32) (b : hB) : (decide (v_24_1 x0 b = 0) || decide (v_24_1 x0 b = 1)) = true := by
  unfold v_24_1
  cases (gCmp .le b.2.1 (b.2.2.2.2.2.2.2.2.2.2.2.1 (Int32.toNatClampNeg x0)))
  · cases (gCmp .lt (b.2.2.2.2.2.2.2.2.2.2.2.1 (Int32.toNatClampNeg x0)) (b.2.2.2.2.2.2.2.2.1 5))
    · rfl
    · rfl
  · rfl


/-- UpOneSide.hour(II)I -/
def me_86_0 (N : Nat) (x0 : Int32) (x1 : Int32) (b : hB) (fi : Nat → Int32) : Option (Int32 × (Nat → Int32)) :=
  (bif gCmp .eq (v_112 x0 0 23) 0 then
    some (v_111_0 0, f_111_0_fi 0 fi)
  else
    (bif gCmp .ne (v_112 x1 0 2) 0 then
      (bif gCmp .ne x1 0 then
        (bif gCmp .ne x1 1 then
          (bif gIn x0 24 then some (v_25_1 x0 b, fi) else none)
        else
          (bif gIn x0 24 then some (bif gCmp .eq (v_24_1 x0 b) 0 then 0 else 1, fi) else none))
      else
        (bif gIn x0 24 then some (b.2.2.2.2.2.2.2.2.2.2.2.1 (Int32.toNatClampNeg x0), fi) else none))
    else
      some (v_111_0 0, f_111_0_fi 0 fi)))
set_option maxRecDepth 20000 in
set_option maxHeartbeats 4000000 in
theorem mt_86_0 {LL : Nat} {xs : Nat → Int32} {D : Nat} {b d k s w : hB} {ik ex pr wd : Int32} {sn : Nat → Int64} {qu tb : Nat → Int32} {ts : Int32} {r0 : Value} {rq : hRq} {h0 h1 h2 h3 : hSt} {fi : Nat → Int32} {R : List gE} (N : Nat) (x0 : Int32) (x1 : Int32) (q : Int32 × (Nat → Int32)) (h : me_86_0 N x0 x1 b fi = some q) : hM (gO LL xs) (D + 2) zR_86 [.ref 0, .int x0, .int x1] (hCm b d k s w ik ex pr wd sn qu tb ts (r0, rq) h0 h1 h2 h3 fi R) (some (.int q.1)) (hCm b d k s w ik ex pr wd sn qu tb ts (r0, rq) h0 h1 h2 h3 q.2 R) := by
  unfold me_86_0 at h
  refine hX_go 0 0 [some (.ref 0), some (.int x0), some (.int x1)] [] (hCm b d k s w ik ex pr wd sn qu tb ts (r0, rq) h0 h1 h2 h3 fi R) rfl ?_
  refine hX_go 3 (4) [some (.ref 0), some (.int x0), some (.int x1)] [.int 23, .int 0, .int x0] (hCm b d k s w ik ex pr wd sn qu tb ts (r0, rq) h0 h1 h2 h3 fi R) rfl ?_
  refine hX_call (r' := zR_112) rfl (ct_112 x0 0 23) ?_
  refine hX_goM 1 (bif gCmp .eq (v_112 x0 0 23) 0 then 19 else 10) [some (.ref 0), some (.int x0), some (.int x1)] [] rfl ?_
  refine hX_if (gCmp .eq (v_112 x0 0 23) 0) (fun c1 => ?_) (fun c1 => ?_)
  · skip
    have h := gcT c1 h
    refine hX_goM 2 (21) [some (.ref 0), some (.int x0), some (.int x1)] [.int 0, .ref 0] rfl ?_
    refine hX_call (r' := zR_111) rfl (ct_111_0 0 rfl) ?_
    refine hX_go 0 (24) [some (.ref 0), some (.int x0), some (.int x1)] [.int (v_111_0 0)] (hCm b d k s w ik ex pr wd sn qu tb ts (r0, rq) h0 h1 h2 h3 (f_111_0_fi 0 fi) R) rfl ?_
    have h := Option.some.inj h; subst h
    exact hX_end rfl rfl rfl
  · skip
    have h := gcF c1 h
    refine hX_goM 3 (13) [some (.ref 0), some (.int x0), some (.int x1)] [.int 2, .int 0, .int x1] rfl ?_
    refine hX_call (r' := zR_112) rfl (ct_112 x1 0 2) ?_
    refine hX_goM 1 (bif gCmp .ne (v_112 x1 0 2) 0 then 25 else 19) [some (.ref 0), some (.int x0), some (.int x1)] [] rfl ?_
    refine hX_if (gCmp .ne (v_112 x1 0 2) 0) (fun c2 => ?_) (fun c2 => ?_)
    · skip
      have h := gcT c2 h
      refine hX_goM 2 (bif gCmp .ne x1 0 then 39 else 29) [some (.ref 0), some (.int x0), some (.int x1)] [] rfl ?_
      refine hX_if (gCmp .ne x1 0) (fun c3 => ?_) (fun c3 => ?_)
      · skip
        have h := gcT c3 h
        refine hX_goM 3 (bif gCmp .ne x1 1 then 61 else 44) [some (.ref 0), some (.int x0), some (.int x1)] [] rfl ?_
        refine hX_if (gCmp .ne x1 1) (fun c4 => ?_) (fun c4 => ?_)
        · skip
          have h := gcT c4 h
          refine hX_goM 3 (66) [some (.ref 0), some (.int x0), some (.int x1)] [.int x0, .ref 1] rfl ?_
          revert h; refine gCondR fun g5 h => ?_
          refine hX_call (r' := zR_25) rfl (ct_25_1 x0 g5) ?_
          refine hX_goM 0 (69) [some (.ref 0), some (.int x0), some (.int x1)] [.int (v_25_1 x0 b)] rfl ?_
          have h := Option.some.inj h; subst h
          exact hX_end rfl rfl rfl
        · skip
          have h := gcF c4 h
          refine hX_goM 3 (49) [some (.ref 0), some (.int x0), some (.int x1)] [.int x0, .ref 1] rfl ?_
          revert h; refine gCondR fun g6 h => ?_
          refine hX_call (r' := zR_24) rfl (ct_24_1 x0 g6) ?_
          refine hX_goM 1 (bif gCmp .eq (v_24_1 x0 b) 0 then 59 else 55) [some (.ref 0), some (.int x0), some (.int x1)] [] rfl ?_
          refine hX_mrg 60 [some (.ref 0), some (.int x0), some (.int x1)] [.int (bif gCmp .eq (v_24_1 x0 b) 0 then 0 else 1)] (hCm b d k s w ik ex pr wd sn qu tb ts (r0, rq) h0 h1 h2 h3 fi R) (fun hk => ?_) ?_
          · skip
            refine hX_if (gCmp .eq (v_24_1 x0 b) 0) (fun c8 => ?_) (fun c8 => ?_)
            · skip
              refine hX_goM 1 (60) [some (.ref 0), some (.int x0), some (.int x1)] [.int 0] rfl ?_
              have hk := hk
              simp only [c8, cond_true, cond_false] at hk
              first | exact hk | (simp only [c8, cond_true, cond_false]; exact hk)
            · skip
              refine hX_goM 2 (60) [some (.ref 0), some (.int x0), some (.int x1)] [.int 1] rfl ?_
              have hk := hk
              simp only [c8, cond_true, cond_false] at hk
              first | exact hk | (simp only [c8, cond_true, cond_false]; exact hk)
          have h := Option.some.inj h; subst h
          exact hX_end rfl rfl rfl
      · skip
        have h := gcF c3 h
        refine hX_goM 4 (37) [some (.ref 0), some (.int x0), some (.int x1)] [.int x0, .ref 8] rfl ?_
        revert h; refine gCondR fun g9 h => ?_
        refine hX_gM (gIn x0 24) 38 [some (.ref 0), some (.int x0), some (.int x1)] [.int (b.2.2.2.2.2.2.2.2.2.2.2.1 (Int32.toNatClampNeg x0))] rfl g9 ?_
        have h := Option.some.inj h; subst h
        exact hX_end rfl rfl rfl
    · skip
      have h := gcF c2 h
      refine hX_goM 2 (21) [some (.ref 0), some (.int x0), some (.int x1)] [.int 0, .ref 0] rfl ?_
      refine hX_call (r' := zR_111) rfl (ct_111_0 0 rfl) ?_
      refine hX_go 0 (24) [some (.ref 0), some (.int x0), some (.int x1)] [.int (v_111_0 0)] (hCm b d k s w ik ex pr wd sn qu tb ts (r0, rq) h0 h1 h2 h3 (f_111_0_fi 0 fi) R) rfl ?_
      have h := Option.some.inj h; subst h
      exact hX_end rfl rfl rfl

/-- UpOneSide.eyes: the loop at 4 -/
def lp_87_0_4 (N : Nat) (b : hB) : Nat → Int32 → Int32 → Option (Int32 × Int32)
  | 0, _, _ => none
  | n + 1, y1, y2 =>
    (bif gCmp .ge y2 24 then
      some (y1, y2)
    else
      (bif gIn y2 24 then lp_87_0_4 N b n (bif gCmp .eq (v_24_1 y2 b) 0 then y1 else (y1 ||| ((1 : Int32) <<< (y2 &&& 31)))) (y2 + 1) else none))
set_option maxRecDepth 20000 in
set_option maxHeartbeats 4000000 in
theorem lt_87_0_4 {LL : Nat} {xs : Nat → Int32} {D N : Nat} {b d k s w : hB} {ik ex pr wd : Int32} {sn : Nat → Int64} {qu tb : Nat → Int32} {ts : Int32} {r0 : Value} {rq : hRq} {h0 h1 h2 h3 : hSt} {fi : Nat → Int32} {R : List gE} {v : Option Value} {M' : List gE} : ∀ (n : Nat) (y1 : Int32) (y2 : Int32) (q : Int32 × Int32), lp_87_0_4 N b n y1 y2 = some q → (kk : hX (gO LL xs) (D + 1) zR_87 33 [some (.ref 0), some (.int q.1), some (.int q.2)] [] (hCm b d k s w ik ex pr wd sn qu tb ts (r0, rq) h0 h1 h2 h3 fi R) v M') → hX (gO LL xs) (D + 1) zR_87 4 [some (.ref 0), some (.int y1), some (.int y2)] [] (hCm b d k s w ik ex pr wd sn qu tb ts (r0, rq) h0 h1 h2 h3 fi R) v M' := by
  intro n
  induction n with
  | zero => intro y1 y2 q h; cases h
  | succ n ih =>
    intro y1 y2 q h kk
    rw [lp_87_0_4] at h
    refine hX_go 3 (bif gCmp .ge y2 24 then 33 else 10) [some (.ref 0), some (.int y1), some (.int y2)] [] (hCm b d k s w ik ex pr wd sn qu tb ts (r0, rq) h0 h1 h2 h3 fi R) rfl ?_
    refine hX_if (gCmp .ge y2 24) (fun c1 => ?_) (fun c1 => ?_)
    · skip
      have h := gcT c1 h
      have h := Option.some.inj h; subst h
      exact kk
    · skip
      have h := gcF c1 h
      refine hX_goM 3 (15) [some (.ref 0), some (.int y1), some (.int y2)] [.int y2, .ref 1] rfl ?_
      revert h; refine gCondR fun g2 h => ?_
      refine hX_call (r' := zR_24) rfl (ct_24_1 y2 g2) ?_
      refine hX_goM 1 (bif gCmp .eq (v_24_1 y2 b) 0 then 27 else 21) [some (.ref 0), some (.int y1), some (.int y2)] [] rfl ?_
      refine hX_mrg 27 [some (.ref 0), some (.int (bif gCmp .eq (v_24_1 y2 b) 0 then y1 else (y1 ||| ((1 : Int32) <<< (y2 &&& 31))))), some (.int y2)] [] (hCm b d k s w ik ex pr wd sn qu tb ts (r0, rq) h0 h1 h2 h3 fi R) (fun hk => ?_) ?_
      · skip
        refine hX_if (gCmp .eq (v_24_1 y2 b) 0) (fun c4 => ?_) (fun c4 => ?_)
        · skip
          have hk := hk
          simp only [c4, cond_true, cond_false] at hk
          first | exact hk | (simp only [c4, cond_true, cond_false]; exact hk)
        · skip
          refine hX_goM 6 (27) [some (.ref 0), some (.int (y1 ||| ((1 : Int32) <<< (y2 &&& 31)))), some (.int y2)] [] rfl ?_
          have hk := hk
          simp only [c4, cond_true, cond_false] at hk
          first | exact hk | (simp only [c4, cond_true, cond_false]; exact hk)
      refine hX_goM 2 (4) [some (.ref 0), some (.int (bif gCmp .eq (v_24_1 y2 b) 0 then y1 else (y1 ||| ((1 : Int32) <<< (y2 &&& 31))))), some (.int (y2 + 1))] [] rfl ?_
      exact ih (bif gCmp .eq (v_24_1 y2 b) 0 then y1 else (y1 ||| ((1 : Int32) <<< (y2 &&& 31)))) (y2 + 1) q h kk

/-- UpOneSide.eyes()I -/
def me_87_0 (N : Nat) (b : hB) : Option (Int32) :=
  (Option.bind (lp_87_0_4 N b N 0 0) fun q1 =>
  some (q1.1))
set_option maxRecDepth 20000 in
set_option maxHeartbeats 4000000 in
theorem mt_87_0 {LL : Nat} {xs : Nat → Int32} {D : Nat} {b d k s w : hB} {ik ex pr wd : Int32} {sn : Nat → Int64} {qu tb : Nat → Int32} {ts : Int32} {r0 : Value} {rq : hRq} {h0 h1 h2 h3 : hSt} {fi : Nat → Int32} {R : List gE} (N : Nat) (q : Int32) (h : me_87_0 N b = some q) : hM (gO LL xs) (D + 1) zR_87 [.ref 0] (hCm b d k s w ik ex pr wd sn qu tb ts (r0, rq) h0 h1 h2 h3 fi R) (some (.int q)) (hCm b d k s w ik ex pr wd sn qu tb ts (r0, rq) h0 h1 h2 h3 fi R) := by
  unfold me_87_0 at h
  refine hX_go 0 0 [some (.ref 0), none, none] [] (hCm b d k s w ik ex pr wd sn qu tb ts (r0, rq) h0 h1 h2 h3 fi R) rfl ?_
  refine hX_go 4 (4) [some (.ref 0), some (.int 0), some (.int 0)] [] (hCm b d k s w ik ex pr wd sn qu tb ts (r0, rq) h0 h1 h2 h3 fi R) rfl ?_
  revert h; refine gBindR fun q1 e1 h => ?_
  refine lt_87_0_4 N 0 0 q1 e1 ?_
  refine hX_goM 1 (34) [some (.ref 0), some (.int q1.1), some (.int q1.2)] [.int q1.1] rfl ?_
  have h := Option.some.inj h; subst h
  exact hX_end rfl rfl rfl

/-- UpOneSide$Blind.dazzles(I)Z -/
def v_24_10 (x0 : Int32) (d : hB) : Int32 := bif gCmp .le d.2.1 (d.2.2.2.2.2.2.2.2.2.2.2.1 (Int32.toNatClampNeg x0)) then 0 else (bif gCmp .lt (d.2.2.2.2.2.2.2.2.2.2.2.1 (Int32.toNatClampNeg x0)) (d.2.2.2.2.2.2.2.2.1 5) then 0 else 1)
set_option maxRecDepth 20000 in
set_option maxHeartbeats 1000000 in
theorem ct_24_10 {LL : Nat} {xs : Nat → Int32} {D : Nat} {b d k s w : hB} {ik ex pr wd : Int32} {sn : Nat → Int64} {qu tb : Nat → Int32} {ts : Int32} {r0 : Value} {rq : hRq} {h0 h1 h2 h3 : hSt} {fi : Nat → Int32} {R : List gE} (x0 : Int32) (o1 : gIn x0 24 = true) : hM (gO LL xs) (D + 0) zR_24 [.ref 10, .int x0] (hCm b d k s w ik ex pr wd sn qu tb ts (r0, rq) h0 h1 h2 h3 fi R) (some (.int (v_24_10 x0 d))) (hCm b d k s w ik ex pr wd sn qu tb ts (r0, rq) h0 h1 h2 h3 fi R) := by
  refine hX_go 0 0 [some (.ref 10), some (.int x0)] [] (hCm b d k s w ik ex pr wd sn qu tb ts (r0, rq) h0 h1 h2 h3 fi R) rfl ?_
  refine hX_go 5 (9) [some (.ref 10), some (.int x0)] [.int x0, .ref 17, .int d.2.1] (hCm b d k s w ik ex pr wd sn qu tb ts (r0, rq) h0 h1 h2 h3 fi R) rfl ?_
  refine hX_gM (gIn x0 24) 10 [some (.ref 10), some (.int x0)] [.int (d.2.2.2.2.2.2.2.2.2.2.2.1 (Int32.toNatClampNeg x0)), .int d.2.1] rfl o1 ?_
  refine hX_goM 1 (bif gCmp .le d.2.1 (d.2.2.2.2.2.2.2.2.2.2.2.1 (Int32.toNatClampNeg x0)) then 32 else 13) [some (.ref 10), some (.int x0)] [] rfl ?_
  refine hX_if (gCmp .le d.2.1 (d.2.2.2.2.2.2.2.2.2.2.2.1 (Int32.toNatClampNeg x0))) (fun c1 => ?_) (fun c1 => ?_)
  · skip
    refine hX_goM 1 (33) [some (.ref 10), some (.int x0)] [.int 0] rfl ?_
    exact hX_end rfl (by unfold v_24_10; rw [c1]; rfl) (rfl)
  · skip
    refine hX_goM 3 (18) [some (.ref 10), some (.int x0)] [.int x0, .ref 17] rfl ?_
    refine hX_gM (gIn x0 24) 19 [some (.ref 10), some (.int x0)] [.int (d.2.2.2.2.2.2.2.2.2.2.2.1 (Int32.toNatClampNeg x0))] rfl o1 ?_
    refine hX_goM 5 (bif gCmp .lt (d.2.2.2.2.2.2.2.2.2.2.2.1 (Int32.toNatClampNeg x0)) (d.2.2.2.2.2.2.2.2.1 5) then 32 else 28) [some (.ref 10), some (.int x0)] [] rfl ?_
    refine hX_if (gCmp .lt (d.2.2.2.2.2.2.2.2.2.2.2.1 (Int32.toNatClampNeg x0)) (d.2.2.2.2.2.2.2.2.1 5)) (fun c2 => ?_) (fun c2 => ?_)
    · skip
      refine hX_goM 1 (33) [some (.ref 10), some (.int x0)] [.int 0] rfl ?_
      exact hX_end rfl (by unfold v_24_10; rw [c1, c2]; rfl) (rfl)
    · skip
      refine hX_goM 2 (33) [some (.ref 10), some (.int x0)] [.int 1] rfl ?_
      exact hX_end rfl (by unfold v_24_10; rw [c1, c2]; rfl) (rfl)

theorem bz_24_10 (x0 : Int32) (d : hB) : (decide (v_24_10 x0 d = 0) || decide (v_24_10 x0 d = 1)) = true := by
  unfold v_24_10
  cases (gCmp .le d.2.1 (d.2.2.2.2.2.2.2.2.2.2.2.1 (Int32.toNatClampNeg x0)))
  · cases (gCmp .lt (d.2.2.2.2.2.2.2.2.2.2.2.1 (Int32.toNatClampNeg x0)) (d.2.2.2.2.2.2.2.2.1 5))
    · rfl
    · rfl
  · rfl

/-- UpOneSide$Blind.lightAt(I)I -/
def v_25_10 (x0 : Int32) (d : hB) : Int32 := (if 0 < (d.1 - (d.2.2.2.2.2.2.2.2.2.2.2.1 (Int32.toNatClampNeg x0))) then (d.1 - (d.2.2.2.2.2.2.2.2.2.2.2.1 (Int32.toNatClampNeg x0))) else 0) + (if 0 < (d.2.1 - (d.2.2.2.2.2.2.2.2.2.2.2.1 (Int32.toNatClampNeg x0))) then (d.2.1 - (d.2.2.2.2.2.2.2.2.2.2.2.1 (Int32.toNatClampNeg x0))) else 0)
set_option maxRecDepth 20000 in
set_option maxHeartbeats 1000000 in
theorem ct_25_10 {LL : Nat} {xs : Nat → Int32} {D : Nat} {b d k s w : hB} {ik ex pr wd : Int32} {sn : Nat → Int64} {qu tb : Nat → Int32} {ts : Int32} {r0 : Value} {rq : hRq} {h0 h1 h2 h3 : hSt} {fi : Nat → Int32} {R : List gE} (x0 : Int32) (o1 : gIn x0 24 = true) : hM (gO LL xs) (D + 1) zR_25 [.ref 10, .int x0] (hCm b d k s w ik ex pr wd sn qu tb ts (r0, rq) h0 h1 h2 h3 fi R) (some (.int (v_25_10 x0 d))) (hCm b d k s w ik ex pr wd sn qu tb ts (r0, rq) h0 h1 h2 h3 fi R) := by
  refine hX_go 0 0 [some (.ref 10), some (.int x0)] [] (hCm b d k s w ik ex pr wd sn qu tb ts (r0, rq) h0 h1 h2 h3 fi R) rfl ?_
  refine hX_go 6 (10) [some (.ref 10), some (.int x0)] [.int x0, .ref 17, .int d.1, .int 0] (hCm b d k s w ik ex pr wd sn qu tb ts (r0, rq) h0 h1 h2 h3 fi R) rfl ?_
  refine hX_gM (gIn x0 24) 11 [some (.ref 10), some (.int x0)] [.int (d.2.2.2.2.2.2.2.2.2.2.2.1 (Int32.toNatClampNeg x0)), .int d.1, .int 0] rfl o1 ?_
  refine hX_goM 8 (25) [some (.ref 10), some (.int x0)] [.int x0, .ref 17, .int d.2.1, .int 0, .int (if 0 < (d.1 - (d.2.2.2.2.2.2.2.2.2.2.2.1 (Int32.toNatClampNeg x0))) then (d.1 - (d.2.2.2.2.2.2.2.2.2.2.2.1 (Int32.toNatClampNeg x0))) else 0)] rfl ?_
  refine hX_gM (gIn x0 24) 26 [some (.ref 10), some (.int x0)] [.int (d.2.2.2.2.2.2.2.2.2.2.2.1 (Int32.toNatClampNeg x0)), .int d.2.1, .int 0, .int (if 0 < (d.1 - (d.2.2.2.2.2.2.2.2.2.2.2.1 (Int32.toNatClampNeg x0))) then (d.1 - (d.2.2.2.2.2.2.2.2.2.2.2.1 (Int32.toNatClampNeg x0))) else 0)] rfl o1 ?_
  refine hX_goM 3 (31) [some (.ref 10), some (.int x0)] [.int ((if 0 < (d.1 - (d.2.2.2.2.2.2.2.2.2.2.2.1 (Int32.toNatClampNeg x0))) then (d.1 - (d.2.2.2.2.2.2.2.2.2.2.2.1 (Int32.toNatClampNeg x0))) else 0) + (if 0 < (d.2.1 - (d.2.2.2.2.2.2.2.2.2.2.2.1 (Int32.toNatClampNeg x0))) then (d.2.1 - (d.2.2.2.2.2.2.2.2.2.2.2.1 (Int32.toNatClampNeg x0))) else 0))] rfl ?_
  exact hX_end rfl (rfl) (rfl)

/-- UpOneSide$Blind.lightOfDay: the loop at 4 -/
def lp_26_10_4 (N : Nat) (d : hB) : Nat → Int32 → Int32 → Option (Int32)
  | 0, _, _ => none
  | n + 1, y1, y2 =>
    (bif gCmp .ge y2 24 then
      some (y1)
    else
      (bif gIn y2 24 then (bif gCmp .eq (v_24_10 y2 d) 0 then
        (bif gIn y2 24 then lp_26_10_4 N d n (y1 + (v_25_10 y2 d)) (y2 + 1) else none)
      else
        some ((-1))) else none))
set_option maxRecDepth 20000 in
set_option maxHeartbeats 4000000 in
theorem lt_26_10_4 {LL : Nat} {xs : Nat → Int32} {D N : Nat} {b d k s w : hB} {ik ex pr wd : Int32} {sn : Nat → Int64} {qu tb : Nat → Int32} {ts : Int32} {r0 : Value} {rq : hRq} {h0 h1 h2 h3 : hSt} {fi : Nat → Int32} {R : List gE} : ∀ (n : Nat) (y1 : Int32) (y2 : Int32) (q : Int32), lp_26_10_4 N d n y1 y2 = some q → hX (gO LL xs) (D + 2) zR_26 4 [some (.ref 10), some (.int y1), some (.int y2)] [] (hCm b d k s w ik ex pr wd sn qu tb ts (r0, rq) h0 h1 h2 h3 fi R) (some (.int q)) (hCm b d k s w ik ex pr wd sn qu tb ts (r0, rq) h0 h1 h2 h3 fi R) := by
  intro n
  induction n with
  | zero => intro y1 y2 q h; cases h
  | succ n ih =>
    intro y1 y2 q h
    rw [lp_26_10_4] at h
    refine hX_go 3 (bif gCmp .ge y2 24 then 34 else 10) [some (.ref 10), some (.int y1), some (.int y2)] [] (hCm b d k s w ik ex pr wd sn qu tb ts (r0, rq) h0 h1 h2 h3 fi R) rfl ?_
    refine hX_if (gCmp .ge y2 24) (fun c1 => ?_) (fun c1 => ?_)
    · skip
      have h := gcT c1 h
      refine hX_goM 1 (35) [some (.ref 10), some (.int y1), some (.int y2)] [.int y1] rfl ?_
      have h := Option.some.inj h; subst h
      exact hX_end rfl rfl rfl
    · skip
      have h := gcF c1 h
      refine hX_goM 2 (12) [some (.ref 10), some (.int y1), some (.int y2)] [.int y2, .ref 10] rfl ?_
      revert h; refine gCondR fun g2 h => ?_
      refine hX_call (r' := zR_24) rfl (ct_24_10 y2 g2) ?_
      refine hX_goM 1 (bif gCmp .eq (v_24_10 y2 d) 0 then 20 else 18) [some (.ref 10), some (.int y1), some (.int y2)] [] rfl ?_
      refine hX_if (gCmp .eq (v_24_10 y2 d) 0) (fun c3 => ?_) (fun c3 => ?_)
      · skip
        have h := gcT c3 h
        refine hX_goM 3 (23) [some (.ref 10), some (.int y1), some (.int y2)] [.int y2, .ref 10, .int y1] rfl ?_
        revert h; refine gCondR fun g4 h => ?_
        refine hX_call (r' := zR_25) rfl (ct_25_10 y2 g4) ?_
        refine hX_goM 4 (4) [some (.ref 10), some (.int (y1 + (v_25_10 y2 d))), some (.int (y2 + 1))] [] rfl ?_
        exact ih (y1 + (v_25_10 y2 d)) (y2 + 1) q h
      · skip
        have h := gcF c3 h
        refine hX_goM 1 (19) [some (.ref 10), some (.int y1), some (.int y2)] [.int (-1)] rfl ?_
        have h := Option.some.inj h; subst h
        exact hX_end rfl rfl rfl

/-- UpOneSide$Blind.lightOfDay()I -/
def me_26_10 (N : Nat) (d : hB) : Option (Int32) :=
  lp_26_10_4 N d N 0 0
set_option maxRecDepth 20000 in
set_option maxHeartbeats 4000000 in
theorem mt_26_10 {LL : Nat} {xs : Nat → Int32} {D : Nat} {b d k s w : hB} {ik ex pr wd : Int32} {sn : Nat → Int64} {qu tb : Nat → Int32} {ts : Int32} {r0 : Value} {rq : hRq} {h0 h1 h2 h3 : hSt} {fi : Nat → Int32} {R : List gE} (N : Nat) (q : Int32) (h : me_26_10 N d = some q) : hM (gO LL xs) (D + 2) zR_26 [.ref 10] (hCm b d k s w ik ex pr wd sn qu tb ts (r0, rq) h0 h1 h2 h3 fi R) (some (.int q)) (hCm b d k s w ik ex pr wd sn qu tb ts (r0, rq) h0 h1 h2 h3 fi R) := by
  unfold me_26_10 at h
  refine hX_go 0 0 [some (.ref 10), none, none] [] (hCm b d k s w ik ex pr wd sn qu tb ts (r0, rq) h0 h1 h2 h3 fi R) rfl ?_
  refine hX_go 4 (4) [some (.ref 10), some (.int 0), some (.int 0)] [] (hCm b d k s w ik ex pr wd sn qu tb ts (r0, rq) h0 h1 h2 h3 fi R) rfl ?_
  exact lt_26_10_4 N 0 0 q h

/-- UpOneSide.best: the loop at 17 -/
def lp_88_0_17 (N : Nat) : Nat → Int32 → Int32 → Int32 → hB → Option (Int32 × Int32 × Int32 × hB)
  | 0, _, _, _, _ => none
  | n + 1, y1, y2, y3, d =>
    (bif gCmp .gt y3 60 then
      some (y1, y2, y3, d)
    else
      (Option.bind (me_26_10 N (y3, y3, d.2.2)) fun q2 =>
      lp_88_0_17 N n (bif gCmp .le q2 y1 then y1 else q2) (bif gCmp .le q2 y1 then y2 else y3) (y3 + 1) (y3, y3, d.2.2)))
set_option maxRecDepth 20000 in
set_option maxHeartbeats 4000000 in
theorem lt_88_0_17 {LL : Nat} {xs : Nat → Int32} {D N : Nat} {b k s w : hB} {ik ex pr wd : Int32} {sn : Nat → Int64} {qu tb : Nat → Int32} {ts : Int32} {r0 : Value} {rq : hRq} {h0 h1 h2 h3 : hSt} {fi : Nat → Int32} {R : List gE} {v : Option Value} {M' : List gE} : ∀ (n : Nat) (y1 : Int32) (y2 : Int32) (y3 : Int32) (d : hB) (q : Int32 × Int32 × Int32 × hB), lp_88_0_17 N n y1 y2 y3 d = some q → (kk : hX (gO LL xs) (D + 3) zR_88 65 [some (.ref 0), some (.int q.1), some (.int q.2.1), some (.int q.2.2.1), none] [] (hCm b q.2.2.2 k s w ik ex pr wd sn qu tb ts (r0, rq) h0 h1 h2 h3 fi R) v M') → hX (gO LL xs) (D + 3) zR_88 17 [some (.ref 0), some (.int y1), some (.int y2), some (.int y3), none] [] (hCm b d k s w ik ex pr wd sn qu tb ts (r0, rq) h0 h1 h2 h3 fi R) v M' := by
  intro n
  induction n with
  | zero => intro y1 y2 y3 d q h; cases h
  | succ n ih =>
    intro y1 y2 y3 d q h kk
    rw [lp_88_0_17] at h
    refine hX_go 3 (bif gCmp .gt y3 60 then 65 else 23) [some (.ref 0), some (.int y1), some (.int y2), some (.int y3), none] [] (hCm b d k s w ik ex pr wd sn qu tb ts (r0, rq) h0 h1 h2 h3 fi R) rfl ?_
    refine hX_if (gCmp .gt y3 60) (fun c1 => ?_) (fun c1 => ?_)
    · skip
      have h := gcT c1 h
      have h := Option.some.inj h; subst h
      exact kk
    · skip
      have h := gcF c1 h
      refine hX_go 9 (40) [some (.ref 0), some (.int y1), some (.int y2), some (.int y3), none] [.ref 0] (hCm b (y3, y3, d.2.2) k s w ik ex pr wd sn qu tb ts (r0, rq) h0 h1 h2 h3 fi R) rfl ?_
      refine hX_goM 1 (43) [some (.ref 0), some (.int y1), some (.int y2), some (.int y3), none] [.ref 10] rfl ?_
      revert h; refine gBindR fun q2 e2 h => ?_
      refine hX_call (r' := zR_26) rfl (mt_26_10 N q2 e2) ?_
      refine hX_goM 4 (bif gCmp .le q2 y1 then 59 else 54) [some (.ref 0), some (.int y1), some (.int y2), some (.int y3), some (.int q2)] [] rfl ?_
      refine hX_mrg 59 [some (.ref 0), some (.int (bif gCmp .le q2 y1 then y1 else q2)), some (.int (bif gCmp .le q2 y1 then y2 else y3)), some (.int y3), some (.int q2)] [] (hCm b (y3, y3, d.2.2) k s w ik ex pr wd sn qu tb ts (r0, rq) h0 h1 h2 h3 fi R) (fun hk => ?_) ?_
      · skip
        refine hX_if (gCmp .le q2 y1) (fun c4 => ?_) (fun c4 => ?_)
        · skip
          have hk := hk
          simp only [c4, cond_true, cond_false] at hk
          first | exact hk | (simp only [c4, cond_true, cond_false]; exact hk)
        · skip
          refine hX_goM 4 (59) [some (.ref 0), some (.int q2), some (.int y3), some (.int y3), some (.int q2)] [] rfl ?_
          have hk := hk
          simp only [c4, cond_true, cond_false] at hk
          first | exact hk | (simp only [c4, cond_true, cond_false]; exact hk)
      refine hX_goM 2 (17) [some (.ref 0), some (.int (bif gCmp .le q2 y1 then y1 else q2)), some (.int (bif gCmp .le q2 y1 then y2 else y3)), some (.int (y3 + 1)), some (.int q2)] [] rfl ?_
      exact hX_wk (gLe_s (gLe_s (gLe_s (gLe_s (gLe_n gLe_0))))) (ih (bif gCmp .le q2 y1 then y1 else q2) (bif gCmp .le q2 y1 then y2 else y3) (y3 + 1) (y3, y3, d.2.2) q h kk)

/-- UpOneSide.best()I -/
def me_88_0 (N : Nat) (b : hB) (d : hB) : Option (Int32 × hB) :=
  (Option.bind (lp_88_0_17 N N (-1) 0 0 (f_10_10_1_d b d)) fun q1 =>
  some (q1.2.1, q1.2.2.2))
set_option maxRecDepth 20000 in
set_option maxHeartbeats 4000000 in
theorem mt_88_0 {LL : Nat} {xs : Nat → Int32} {D : Nat} {b d k s w : hB} {ik ex pr wd : Int32} {sn : Nat → Int64} {qu tb : Nat → Int32} {ts : Int32} {r0 : Value} {rq : hRq} {h0 h1 h2 h3 : hSt} {fi : Nat → Int32} {R : List gE} (N : Nat) (q : Int32 × hB) (h : me_88_0 N b d = some q) : hM (gO LL xs) (D + 3) zR_88 [.ref 0] (hCm b d k s w ik ex pr wd sn qu tb ts (r0, rq) h0 h1 h2 h3 fi R) (some (.int q.1)) (hCm b q.2 k s w ik ex pr wd sn qu tb ts (r0, rq) h0 h1 h2 h3 fi R) := by
  unfold me_88_0 at h
  refine hX_go 0 0 [some (.ref 0), none, none, none, none] [] (hCm b d k s w ik ex pr wd sn qu tb ts (r0, rq) h0 h1 h2 h3 fi R) rfl ?_
  refine hX_go 4 (8) [some (.ref 0), none, none, none, none] [.ref 1, .ref 10] (hCm b d k s w ik ex pr wd sn qu tb ts (r0, rq) h0 h1 h2 h3 fi R) rfl ?_
  refine hX_call (r' := zR_10) rfl (ct_10_10_1) ?_
  refine hX_go 6 (17) [some (.ref 0), some (.int (-1)), some (.int 0), some (.int 0), none] [] (hCm b (f_10_10_1_d b d) k s w ik ex pr wd sn qu tb ts (r0, rq) h0 h1 h2 h3 fi R) rfl ?_
  revert h; refine gBindR fun q1 e1 h => ?_
  refine lt_88_0_17 N (-1) 0 0 (f_10_10_1_d b d) q1 e1 ?_
  refine hX_go 1 (66) [some (.ref 0), some (.int q1.1), some (.int q1.2.1), some (.int q1.2.2.1), none] [.int q1.2.1] (hCm b q1.2.2.2 k s w ik ex pr wd sn qu tb ts (r0, rq) h0 h1 h2 h3 fi R) rfl ?_
  have h := Option.some.inj h; subst h
  exact hX_end rfl rfl rfl

/-- UpOneSide.where: the loop at 4 -/
def lp_89_0_4 (N : Nat) (b : hB) : Nat → Int32 → Int32 → Option (Int32 × Int32)
  | 0, _, _ => none
  | n + 1, y1, y2 =>
    (bif gCmp .ge y2 61 then
      some (y1, y2)
    else
      (bif gIn y2 61 then (bif gIn y1 61 then lp_89_0_4 N b n (bif gCmp .le (b.2.2.2.2.2.2.2.2.2.2.1 (Int32.toNatClampNeg y2)) (b.2.2.2.2.2.2.2.2.2.2.1 (Int32.toNatClampNeg y1)) then y1 else y2) (y2 + 1) else none) else none))
set_option maxRecDepth 20000 in
set_option maxHeartbeats 4000000 in
theorem lt_89_0_4 {LL : Nat} {xs : Nat → Int32} {D N : Nat} {b d k s w : hB} {ik ex pr wd : Int32} {sn : Nat → Int64} {qu tb : Nat → Int32} {ts : Int32} {r0 : Value} {rq : hRq} {h0 h1 h2 h3 : hSt} {fi : Nat → Int32} {R : List gE} {v : Option Value} {M' : List gE} : ∀ (n : Nat) (y1 : Int32) (y2 : Int32) (q : Int32 × Int32), lp_89_0_4 N b n y1 y2 = some q → (kk : hX (gO LL xs) (D + 0) zR_89 39 [some (.ref 0), some (.int q.1), some (.int q.2)] [] (hCm b d k s w ik ex pr wd sn qu tb ts (r0, rq) h0 h1 h2 h3 fi R) v M') → hX (gO LL xs) (D + 0) zR_89 4 [some (.ref 0), some (.int y1), some (.int y2)] [] (hCm b d k s w ik ex pr wd sn qu tb ts (r0, rq) h0 h1 h2 h3 fi R) v M' := by
  intro n
  induction n with
  | zero => intro y1 y2 q h; cases h
  | succ n ih =>
    intro y1 y2 q h kk
    rw [lp_89_0_4] at h
    refine hX_go 3 (bif gCmp .ge y2 61 then 39 else 10) [some (.ref 0), some (.int y1), some (.int y2)] [] (hCm b d k s w ik ex pr wd sn qu tb ts (r0, rq) h0 h1 h2 h3 fi R) rfl ?_
    refine hX_if (gCmp .ge y2 61) (fun c1 => ?_) (fun c1 => ?_)
    · skip
      have h := gcT c1 h
      have h := Option.some.inj h; subst h
      exact kk
    · skip
      have h := gcF c1 h
      refine hX_goM 4 (18) [some (.ref 0), some (.int y1), some (.int y2)] [.int y2, .ref 7] rfl ?_
      revert h; refine gCondR fun g2 h => ?_
      refine hX_gM (gIn y2 61) 19 [some (.ref 0), some (.int y1), some (.int y2)] [.int (b.2.2.2.2.2.2.2.2.2.2.1 (Int32.toNatClampNeg y2))] rfl g2 ?_
      refine hX_goM 4 (27) [some (.ref 0), some (.int y1), some (.int y2)] [.int y1, .ref 7, .int (b.2.2.2.2.2.2.2.2.2.2.1 (Int32.toNatClampNeg y2))] rfl ?_
      revert h; refine gCondR fun g3 h => ?_
      refine hX_gM (gIn y1 61) 28 [some (.ref 0), some (.int y1), some (.int y2)] [.int (b.2.2.2.2.2.2.2.2.2.2.1 (Int32.toNatClampNeg y1)), .int (b.2.2.2.2.2.2.2.2.2.2.1 (Int32.toNatClampNeg y2))] rfl g3 ?_
      refine hX_goM 1 (bif gCmp .le (b.2.2.2.2.2.2.2.2.2.2.1 (Int32.toNatClampNeg y2)) (b.2.2.2.2.2.2.2.2.2.2.1 (Int32.toNatClampNeg y1)) then 33 else 31) [some (.ref 0), some (.int y1), some (.int y2)] [] rfl ?_
      refine hX_mrg 33 [some (.ref 0), some (.int (bif gCmp .le (b.2.2.2.2.2.2.2.2.2.2.1 (Int32.toNatClampNeg y2)) (b.2.2.2.2.2.2.2.2.2.2.1 (Int32.toNatClampNeg y1)) then y1 else y2)), some (.int y2)] [] (hCm b d k s w ik ex pr wd sn qu tb ts (r0, rq) h0 h1 h2 h3 fi R) (fun hk => ?_) ?_
      · skip
        refine hX_if (gCmp .le (b.2.2.2.2.2.2.2.2.2.2.1 (Int32.toNatClampNeg y2)) (b.2.2.2.2.2.2.2.2.2.2.1 (Int32.toNatClampNeg y1))) (fun c5 => ?_) (fun c5 => ?_)
        · skip
          have hk := hk
          simp only [c5, cond_true, cond_false] at hk
          first | exact hk | (simp only [c5, cond_true, cond_false]; exact hk)
        · skip
          refine hX_goM 2 (33) [some (.ref 0), some (.int y2), some (.int y2)] [] rfl ?_
          have hk := hk
          simp only [c5, cond_true, cond_false] at hk
          first | exact hk | (simp only [c5, cond_true, cond_false]; exact hk)
      refine hX_goM 2 (4) [some (.ref 0), some (.int (bif gCmp .le (b.2.2.2.2.2.2.2.2.2.2.1 (Int32.toNatClampNeg y2)) (b.2.2.2.2.2.2.2.2.2.2.1 (Int32.toNatClampNeg y1)) then y1 else y2)), some (.int (y2 + 1))] [] rfl ?_
      exact ih (bif gCmp .le (b.2.2.2.2.2.2.2.2.2.2.1 (Int32.toNatClampNeg y2)) (b.2.2.2.2.2.2.2.2.2.2.1 (Int32.toNatClampNeg y1)) then y1 else y2) (y2 + 1) q h kk

/-- UpOneSide.where()I -/
def me_89_0 (N : Nat) (b : hB) : Option (Int32) :=
  (Option.bind (lp_89_0_4 N b N 0 1) fun q1 =>
  some (q1.1))
set_option maxRecDepth 20000 in
set_option maxHeartbeats 4000000 in
theorem mt_89_0 {LL : Nat} {xs : Nat → Int32} {D : Nat} {b d k s w : hB} {ik ex pr wd : Int32} {sn : Nat → Int64} {qu tb : Nat → Int32} {ts : Int32} {r0 : Value} {rq : hRq} {h0 h1 h2 h3 : hSt} {fi : Nat → Int32} {R : List gE} (N : Nat) (q : Int32) (h : me_89_0 N b = some q) : hM (gO LL xs) (D + 0) zR_89 [.ref 0] (hCm b d k s w ik ex pr wd sn qu tb ts (r0, rq) h0 h1 h2 h3 fi R) (some (.int q)) (hCm b d k s w ik ex pr wd sn qu tb ts (r0, rq) h0 h1 h2 h3 fi R) := by
  unfold me_89_0 at h
  refine hX_go 0 0 [some (.ref 0), none, none] [] (hCm b d k s w ik ex pr wd sn qu tb ts (r0, rq) h0 h1 h2 h3 fi R) rfl ?_
  refine hX_go 4 (4) [some (.ref 0), some (.int 0), some (.int 1)] [] (hCm b d k s w ik ex pr wd sn qu tb ts (r0, rq) h0 h1 h2 h3 fi R) rfl ?_
  revert h; refine gBindR fun q1 e1 h => ?_
  refine lt_89_0_4 N 0 1 q1 e1 ?_
  refine hX_goM 1 (40) [some (.ref 0), some (.int q1.1), some (.int q1.2)] [.int q1.1] rfl ?_
  have h := Option.some.inj h; subst h
  exact hX_end rfl rfl rfl

/-- UpOneSide$Blind.oddsToHold()I -/
def v_27_1 (b : hB) : Int32 := if 0 < (10000 - ((b.2.2.2.2.2.2.2.2.1 4) * (b.2.2.2.2.2.2.2.2.2.2.1 (Int32.toNatClampNeg b.1)))) then (10000 - ((b.2.2.2.2.2.2.2.2.1 4) * (b.2.2.2.2.2.2.2.2.2.2.1 (Int32.toNatClampNeg b.1)))) else 0
set_option maxRecDepth 20000 in
set_option maxHeartbeats 1000000 in
theorem ct_27_1 {LL : Nat} {xs : Nat → Int32} {D : Nat} {b d k s w : hB} {ik ex pr wd : Int32} {sn : Nat → Int64} {qu tb : Nat → Int32} {ts : Int32} {r0 : Value} {rq : hRq} {h0 h1 h2 h3 : hSt} {fi : Nat → Int32} {R : List gE} (o1 : gIn b.1 61 = true) : hM (gO LL xs) (D + 1) zR_27 [.ref 1] (hCm b d k s w ik ex pr wd sn qu tb ts (r0, rq) h0 h1 h2 h3 fi R) (some (.int (v_27_1 b))) (hCm b d k s w ik ex pr wd sn qu tb ts (r0, rq) h0 h1 h2 h3 fi R) := by
  refine hX_go 0 0 [some (.ref 1)] [] (hCm b d k s w ik ex pr wd sn qu tb ts (r0, rq) h0 h1 h2 h3 fi R) rfl ?_
  refine hX_go 9 (15) [some (.ref 1)] [.ref 1, .ref 7, .int (b.2.2.2.2.2.2.2.2.1 4), .int 10000, .int 0] (hCm b d k s w ik ex pr wd sn qu tb ts (r0, rq) h0 h1 h2 h3 fi R) rfl ?_
  refine hX_goM 1 (18) [some (.ref 1)] [.int b.1, .ref 7, .int (b.2.2.2.2.2.2.2.2.1 4), .int 10000, .int 0] rfl ?_
  refine hX_gM (gIn b.1 61) 19 [some (.ref 1)] [.int (b.2.2.2.2.2.2.2.2.2.2.1 (Int32.toNatClampNeg b.1)), .int (b.2.2.2.2.2.2.2.2.1 4), .int 10000, .int 0] rfl o1 ?_
  refine hX_goM 3 (24) [some (.ref 1)] [.int (if 0 < (10000 - ((b.2.2.2.2.2.2.2.2.1 4) * (b.2.2.2.2.2.2.2.2.2.2.1 (Int32.toNatClampNeg b.1)))) then (10000 - ((b.2.2.2.2.2.2.2.2.1 4) * (b.2.2.2.2.2.2.2.2.2.2.1 (Int32.toNatClampNeg b.1)))) else 0)] rfl ?_
  exact hX_end rfl (rfl) (rfl)

/-- UpOneSide.commonPart: the loop at 9 -/
def lp_122_9 (N : Nat) : Nat → Int64 → Int64 → Int32 → Option (Int64 × Int64 × Int32)
  | 0, _, _, _ => none
  | n + 1, y4, y6, y8 =>
    (bif gCmp .ge y8 200 then
      some (y4, y6, y8)
    else
      (bif gCmp .eq (lg_cmp y6 0) 0 then
        some (y4, y6, y8)
      else
        (bif !(decide (y6 = 0)) then lp_122_9 N n y6 (y4 - y4 / y6 * y6) (y8 + 1) else none)))
set_option maxRecDepth 20000 in
set_option maxHeartbeats 4000000 in
theorem lt_122_9 {LL : Nat} {xs : Nat → Int32} {D N : Nat} {b d k s w : hB} {ik ex pr wd : Int32} {sn : Nat → Int64} {qu tb : Nat → Int32} {ts : Int32} {r0 : Value} {rq : hRq} {h0 h1 h2 h3 : hSt} {fi : Nat → Int32} {R : List gE} {y0 : Int64} {y2 : Int64} {v : Option Value} {M' : List gE} : ∀ (n : Nat) (y4 : Int64) (y6 : Int64) (y8 : Int32) (q : Int64 × Int64 × Int32), lp_122_9 N n y4 y6 y8 = some q → (kk : hX (gO LL xs) (D + 0) zR_122 45 [some (.long y0), none, some (.long y2), none, some (.long q.1), none, some (.long q.2.1), none, some (.int q.2.2), none, none] [] (hCm b d k s w ik ex pr wd sn qu tb ts (r0, rq) h0 h1 h2 h3 fi R) v M') → hX (gO LL xs) (D + 0) zR_122 9 [some (.long y0), none, some (.long y2), none, some (.long y4), none, some (.long y6), none, some (.int y8), none, none] [] (hCm b d k s w ik ex pr wd sn qu tb ts (r0, rq) h0 h1 h2 h3 fi R) v M' := by
  intro n
  induction n with
  | zero => intro y4 y6 y8 q h; cases h
  | succ n ih =>
    intro y4 y6 y8 q h kk
    rw [lp_122_9] at h
    refine hX_go 3 (bif gCmp .ge y8 200 then 45 else 17) [some (.long y0), none, some (.long y2), none, some (.long y4), none, some (.long y6), none, some (.int y8), none, none] [] (hCm b d k s w ik ex pr wd sn qu tb ts (r0, rq) h0 h1 h2 h3 fi R) rfl ?_
    refine hX_if (gCmp .ge y8 200) (fun c1 => ?_) (fun c1 => ?_)
    · skip
      have h := gcT c1 h
      have h := Option.some.inj h; subst h
      exact kk
    · skip
      have h := gcF c1 h
      refine hX_goM 4 (bif gCmp .eq (lg_cmp y6 0) 0 then 45 else 24) [some (.long y0), none, some (.long y2), none, some (.long y4), none, some (.long y6), none, some (.int y8), none, none] [] rfl ?_
      refine hX_if (gCmp .eq (lg_cmp y6 0) 0) (fun c2 => ?_) (fun c2 => ?_)
      · skip
        have h := gcT c2 h
        have h := Option.some.inj h; subst h
        exact kk
      · skip
        have h := gcF c2 h
        refine hX_goM 2 (28) [some (.long y0), none, some (.long y2), none, some (.long y4), none, some (.long y6), none, some (.int y8), none, none] [.long y6, .long y4] rfl ?_
        revert h; refine gCondR fun g3 h => ?_
        refine hX_gnM (decide (y6 = 0)) 29 [some (.long y0), none, some (.long y2), none, some (.long y4), none, some (.long y6), none, some (.int y8), none, none] [.long (y4 - y4 / y6 * y6)] rfl (gNot g3) ?_
        refine hX_goM 7 (9) [some (.long y0), none, some (.long y2), none, some (.long y6), none, some (.long (y4 - y4 / y6 * y6)), none, some (.int (y8 + 1)), some (.long (y4 - y4 / y6 * y6)), none] [] rfl ?_
        exact hX_wk (gLe_s (gLe_n (gLe_s (gLe_n (gLe_s (gLe_n (gLe_s (gLe_n (gLe_s (gLe_n (gLe_n gLe_0))))))))))) (ih y6 (y4 - y4 / y6 * y6) (y8 + 1) q h kk)

/-- UpOneSide.commonPart(JJ)J -/
def me_122 (N : Nat) (x0 : Int64) (x1 : Int64) : Option (Int64) :=
  (Option.bind (lp_122_9 N N x0 x1 0) fun q1 =>
  some (q1.1))
set_option maxRecDepth 20000 in
set_option maxHeartbeats 4000000 in
theorem mt_122 {LL : Nat} {xs : Nat → Int32} {D : Nat} {b d k s w : hB} {ik ex pr wd : Int32} {sn : Nat → Int64} {qu tb : Nat → Int32} {ts : Int32} {r0 : Value} {rq : hRq} {h0 h1 h2 h3 : hSt} {fi : Nat → Int32} {R : List gE} (N : Nat) (x0 : Int64) (x1 : Int64) (q : Int64) (h : me_122 N x0 x1 = some q) : hM (gO LL xs) (D + 0) zR_122 [.long x0, .long x1] (hCm b d k s w ik ex pr wd sn qu tb ts (r0, rq) h0 h1 h2 h3 fi R) (some (.long q)) (hCm b d k s w ik ex pr wd sn qu tb ts (r0, rq) h0 h1 h2 h3 fi R) := by
  unfold me_122 at h
  refine hX_go 0 0 [some (.long x0), none, some (.long x1), none, none, none, none, none, none, none, none] [] (hCm b d k s w ik ex pr wd sn qu tb ts (r0, rq) h0 h1 h2 h3 fi R) rfl ?_
  refine hX_go 6 (9) [some (.long x0), none, some (.long x1), none, some (.long x0), none, some (.long x1), none, some (.int 0), none, none] [] (hCm b d k s w ik ex pr wd sn qu tb ts (r0, rq) h0 h1 h2 h3 fi R) rfl ?_
  revert h; refine gBindR fun q1 e1 h => ?_
  refine lt_122_9 N x0 x1 0 q1 e1 ?_
  refine hX_goM 1 (47) [some (.long x0), none, some (.long x1), none, some (.long q1.1), none, some (.long q1.2.1), none, some (.int q1.2.2), none, none] [.long q1.1] rfl ?_
  have h := Option.some.inj h; subst h
  exact hX_end rfl rfl rfl


/-- UpOneSide.inLowestTerms(JJI)J -/
def me_121 (N : Nat) (x0 : Int64) (x1 : Int64) (x2 : Int32) : Option (Int64) :=
  (Option.bind (me_122 N x0 x1) fun q1 =>
  (bif !(gCmp .ne x2 0) || (!(decide ((if q1 < 1 then 1 else q1) = 0))) then (bif (gCmp .ne x2 0) || (!(decide ((if q1 < 1 then 1 else q1) = 0))) then some (bif gCmp .ne x2 0 then (x1 / (if q1 < 1 then 1 else q1)) else (x0 / (if q1 < 1 then 1 else q1))) else none) else none))
set_option maxRecDepth 20000 in
set_option maxHeartbeats 4000000 in
theorem mt_121 {LL : Nat} {xs : Nat → Int32} {D : Nat} {b d k s w : hB} {ik ex pr wd : Int32} {sn : Nat → Int64} {qu tb : Nat → Int32} {ts : Int32} {r0 : Value} {rq : hRq} {h0 h1 h2 h3 : hSt} {fi : Nat → Int32} {R : List gE} (N : Nat) (x0 : Int64) (x1 : Int64) (x2 : Int32) (q : Int64) (h : me_121 N x0 x1 x2 = some q) : hM (gO LL xs) (D + 1) zR_121 [.long x0, .long x1, .int x2] (hCm b d k s w ik ex pr wd sn qu tb ts (r0, rq) h0 h1 h2 h3 fi R) (some (.long q)) (hCm b d k s w ik ex pr wd sn qu tb ts (r0, rq) h0 h1 h2 h3 fi R) := by
  unfold me_121 at h
  refine hX_go 0 0 [some (.long x0), none, some (.long x1), none, some (.int x2), none, none] [] (hCm b d k s w ik ex pr wd sn qu tb ts (r0, rq) h0 h1 h2 h3 fi R) rfl ?_
  refine hX_go 3 (3) [some (.long x0), none, some (.long x1), none, some (.int x2), none, none] [.long x1, .long x0, .long 1] (hCm b d k s w ik ex pr wd sn qu tb ts (r0, rq) h0 h1 h2 h3 fi R) rfl ?_
  revert h; refine gBindR fun q1 e1 h => ?_
  refine hX_call (r' := zR_122) rfl (mt_122 N x0 x1 q1 e1) ?_
  refine hX_goM 4 (bif gCmp .ne x2 0 then 23 else 16) [some (.long x0), none, some (.long x1), none, some (.int x2), some (.long (if q1 < 1 then 1 else q1)), none] [] rfl ?_
  revert h; refine gCondR fun o3 h => ?_
  revert h; refine gCondR fun o4 h => ?_
  refine hX_mrg 27 [some (.long x0), none, some (.long x1), none, some (.int x2), some (.long (if q1 < 1 then 1 else q1)), none] [.long (bif gCmp .ne x2 0 then (x1 / (if q1 < 1 then 1 else q1)) else (x0 / (if q1 < 1 then 1 else q1)))] (hCm b d k s w ik ex pr wd sn qu tb ts (r0, rq) h0 h1 h2 h3 fi R) (fun hk => ?_) ?_
  · skip
    refine hX_if (gCmp .ne x2 0) (fun c5 => ?_) (fun c5 => ?_)
    · skip
      refine hX_goM 2 (26) [some (.long x0), none, some (.long x1), none, some (.int x2), some (.long (if q1 < 1 then 1 else q1)), none] [.long (if q1 < 1 then 1 else q1), .long x1] rfl ?_
      refine hX_gnM (decide ((if q1 < 1 then 1 else q1) = 0)) 27 [some (.long x0), none, some (.long x1), none, some (.int x2), some (.long (if q1 < 1 then 1 else q1)), none] [.long (x1 / (if q1 < 1 then 1 else q1))] rfl (gNot (gImpT o3 c5)) ?_
      have hk := hk
      simp only [c5, cond_true, cond_false] at hk
      first | exact hk | (simp only [c5, cond_true, cond_false]; exact hk)
    · skip
      refine hX_goM 2 (19) [some (.long x0), none, some (.long x1), none, some (.int x2), some (.long (if q1 < 1 then 1 else q1)), none] [.long (if q1 < 1 then 1 else q1), .long x0] rfl ?_
      refine hX_gnM (decide ((if q1 < 1 then 1 else q1) = 0)) 20 [some (.long x0), none, some (.long x1), none, some (.int x2), some (.long (if q1 < 1 then 1 else q1)), none] [.long (x0 / (if q1 < 1 then 1 else q1))] rfl (gNot (gImpF o4 c5)) ?_
      refine hX_goM 1 (27) [some (.long x0), none, some (.long x1), none, some (.int x2), some (.long (if q1 < 1 then 1 else q1)), none] [.long (x0 / (if q1 < 1 then 1 else q1))] rfl ?_
      have hk := hk
      simp only [c5, cond_true, cond_false] at hk
      first | exact hk | (simp only [c5, cond_true, cond_false]; exact hk)
  have h := Option.some.inj h; subst h
  exact hX_end rfl rfl rfl


/-- UpOneSide.holds(I)I -/
def me_90_0 (N : Nat) (x0 : Int32) (b : hB) (fi : Nat → Int32) : Option (Int32 × (Nat → Int32)) :=
  (bif gCmp .ne (v_112 x0 0 1) 0 then
    (bif gIn b.1 61 then (Option.bind (me_121 N (Int32.toInt64 (v_27_1 b)) 10000 x0) fun q3 =>
    some (Int64.toInt32 q3, fi)) else none)
  else
    some (v_111_0 0, f_111_0_fi 0 fi))
set_option maxRecDepth 20000 in
set_option maxHeartbeats 4000000 in
theorem mt_90_0 {LL : Nat} {xs : Nat → Int32} {D : Nat} {b d k s w : hB} {ik ex pr wd : Int32} {sn : Nat → Int64} {qu tb : Nat → Int32} {ts : Int32} {r0 : Value} {rq : hRq} {h0 h1 h2 h3 : hSt} {fi : Nat → Int32} {R : List gE} (N : Nat) (x0 : Int32) (q : Int32 × (Nat → Int32)) (h : me_90_0 N x0 b fi = some q) : hM (gO LL xs) (D + 2) zR_90 [.ref 0, .int x0] (hCm b d k s w ik ex pr wd sn qu tb ts (r0, rq) h0 h1 h2 h3 fi R) (some (.int q.1)) (hCm b d k s w ik ex pr wd sn qu tb ts (r0, rq) h0 h1 h2 h3 q.2 R) := by
  unfold me_90_0 at h
  refine hX_go 0 0 [some (.ref 0), some (.int x0)] [] (hCm b d k s w ik ex pr wd sn qu tb ts (r0, rq) h0 h1 h2 h3 fi R) rfl ?_
  refine hX_go 3 (3) [some (.ref 0), some (.int x0)] [.int 1, .int 0, .int x0] (hCm b d k s w ik ex pr wd sn qu tb ts (r0, rq) h0 h1 h2 h3 fi R) rfl ?_
  refine hX_call (r' := zR_112) rfl (ct_112 x0 0 1) ?_
  refine hX_goM 1 (bif gCmp .ne (v_112 x0 0 1) 0 then 15 else 9) [some (.ref 0), some (.int x0)] [] rfl ?_
  refine hX_if (gCmp .ne (v_112 x0 0 1) 0) (fun c1 => ?_) (fun c1 => ?_)
  · skip
    have h := gcT c1 h
    refine hX_goM 2 (19) [some (.ref 0), some (.int x0)] [.ref 1] rfl ?_
    revert h; refine gCondR fun g2 h => ?_
    refine hX_call (r' := zR_27) rfl (ct_27_1 g2) ?_
    refine hX_goM 3 (27) [some (.ref 0), some (.int x0)] [.int x0, .long 10000, .long (Int32.toInt64 (v_27_1 b))] rfl ?_
    revert h; refine gBindR fun q3 e3 h => ?_
    refine hX_call (r' := zR_121) rfl (mt_121 N (Int32.toInt64 (v_27_1 b)) 10000 x0 q3 e3) ?_
    refine hX_goM 1 (31) [some (.ref 0), some (.int x0)] [.int (Int64.toInt32 q3)] rfl ?_
    have h := Option.some.inj h; subst h
    exact hX_end rfl rfl rfl
  · skip
    have h := gcF c1 h
    refine hX_goM 2 (11) [some (.ref 0), some (.int x0)] [.int 0, .ref 0] rfl ?_
    refine hX_call (r' := zR_111) rfl (ct_111_0 0 rfl) ?_
    refine hX_go 0 (14) [some (.ref 0), some (.int x0)] [.int (v_111_0 0)] (hCm b d k s w ik ex pr wd sn qu tb ts (r0, rq) h0 h1 h2 h3 (f_111_0_fi 0 fi) R) rfl ?_
    have h := Option.some.inj h; subst h
    exact hX_end rfl rfl rfl

/-- UpOneSide$Blind.oddsToHold()I -/
def v_27_10 (d : hB) : Int32 := if 0 < (10000 - ((d.2.2.2.2.2.2.2.2.1 4) * (d.2.2.2.2.2.2.2.2.2.2.1 (Int32.toNatClampNeg d.1)))) then (10000 - ((d.2.2.2.2.2.2.2.2.1 4) * (d.2.2.2.2.2.2.2.2.2.2.1 (Int32.toNatClampNeg d.1)))) else 0
set_option maxRecDepth 20000 in
set_option maxHeartbeats 1000000 in
theorem ct_27_10 {LL : Nat} {xs : Nat → Int32} {D : Nat} {b d k s w : hB} {ik ex pr wd : Int32} {sn : Nat → Int64} {qu tb : Nat → Int32} {ts : Int32} {r0 : Value} {rq : hRq} {h0 h1 h2 h3 : hSt} {fi : Nat → Int32} {R : List gE} (o1 : gIn d.1 61 = true) : hM (gO LL xs) (D + 1) zR_27 [.ref 10] (hCm b d k s w ik ex pr wd sn qu tb ts (r0, rq) h0 h1 h2 h3 fi R) (some (.int (v_27_10 d))) (hCm b d k s w ik ex pr wd sn qu tb ts (r0, rq) h0 h1 h2 h3 fi R) := by
  refine hX_go 0 0 [some (.ref 10)] [] (hCm b d k s w ik ex pr wd sn qu tb ts (r0, rq) h0 h1 h2 h3 fi R) rfl ?_
  refine hX_go 9 (15) [some (.ref 10)] [.ref 10, .ref 16, .int (d.2.2.2.2.2.2.2.2.1 4), .int 10000, .int 0] (hCm b d k s w ik ex pr wd sn qu tb ts (r0, rq) h0 h1 h2 h3 fi R) rfl ?_
  refine hX_goM 1 (18) [some (.ref 10)] [.int d.1, .ref 16, .int (d.2.2.2.2.2.2.2.2.1 4), .int 10000, .int 0] rfl ?_
  refine hX_gM (gIn d.1 61) 19 [some (.ref 10)] [.int (d.2.2.2.2.2.2.2.2.2.2.1 (Int32.toNatClampNeg d.1)), .int (d.2.2.2.2.2.2.2.2.1 4), .int 10000, .int 0] rfl o1 ?_
  refine hX_goM 3 (24) [some (.ref 10)] [.int (if 0 < (10000 - ((d.2.2.2.2.2.2.2.2.1 4) * (d.2.2.2.2.2.2.2.2.2.2.1 (Int32.toNatClampNeg d.1)))) then (10000 - ((d.2.2.2.2.2.2.2.2.1 4) * (d.2.2.2.2.2.2.2.2.2.2.1 (Int32.toNatClampNeg d.1)))) else 0)] rfl ?_
  exact hX_end rfl (rfl) (rfl)

/-- UpOneSide$Blind.perform(I)V -/
def f_20_10_d (x0 : Int32) (d : hB) : hB := (f_18_10_d x0 (d.1, d.2.1, d.2.2.1 + 1, d.2.2.2.1, d.2.2.2.2.1, d.2.2.2.2.2.1, d.2.2.2.2.2.2.1, d.2.2.2.2.2.2.2.1, d.2.2.2.2.2.2.2.2.1, d.2.2.2.2.2.2.2.2.2.1, upd d.2.2.2.2.2.2.2.2.2.2.1 (Int32.toNatClampNeg d.1) (if ((d.2.2.2.2.2.2.2.2.2.2.1 (Int32.toNatClampNeg d.1)) + 1) < 9999 then ((d.2.2.2.2.2.2.2.2.2.2.1 (Int32.toNatClampNeg d.1)) + 1) else 9999), d.2.2.2.2.2.2.2.2.2.2.2))
set_option maxRecDepth 20000 in
set_option maxHeartbeats 1000000 in
theorem ct_20_10 {LL : Nat} {xs : Nat → Int32} {D : Nat} {b d k s w : hB} {ik ex pr wd : Int32} {sn : Nat → Int64} {qu tb : Nat → Int32} {ts : Int32} {r0 : Value} {rq : hRq} {h0 h1 h2 h3 : hSt} {fi : Nat → Int32} {R : List gE} (x0 : Int32) (o1 : gIn d.1 61 = true) (o2 : gIn x0 8 = true) : hM (gO LL xs) (D + 2) zR_20 [.ref 10, .int x0] (hCm b d k s w ik ex pr wd sn qu tb ts (r0, rq) h0 h1 h2 h3 fi R) none (hCm b (f_20_10_d x0 d) k s w ik ex pr wd sn qu tb ts (r0, rq) h0 h1 h2 h3 fi R) := by
  refine hX_go 0 0 [some (.ref 10), some (.int x0)] [] (hCm b d k s w ik ex pr wd sn qu tb ts (r0, rq) h0 h1 h2 h3 fi R) rfl ?_
  refine hX_go 9 (19) [some (.ref 10), some (.int x0)] [.int d.1, .ref 16, .int 9999, .int d.1, .ref 16] (hCm b d k s w ik ex pr wd sn qu tb ts (r0, rq) h0 h1 h2 h3 fi R) rfl ?_
  refine hX_gM (gIn d.1 61) 20 [some (.ref 10), some (.int x0)] [.int (d.2.2.2.2.2.2.2.2.2.2.1 (Int32.toNatClampNeg d.1)), .int 9999, .int d.1, .ref 16] rfl o1 ?_
  refine hX_goM 3 (25) [some (.ref 10), some (.int x0)] [.int (if ((d.2.2.2.2.2.2.2.2.2.2.1 (Int32.toNatClampNeg d.1)) + 1) < 9999 then ((d.2.2.2.2.2.2.2.2.2.2.1 (Int32.toNatClampNeg d.1)) + 1) else 9999), .int d.1, .ref 16] rfl ?_
  refine hX_g (gIn d.1 61) 26 [some (.ref 10), some (.int x0)] [] (hCm b (d.1, d.2.1, d.2.2.1, d.2.2.2.1, d.2.2.2.2.1, d.2.2.2.2.2.1, d.2.2.2.2.2.2.1, d.2.2.2.2.2.2.2.1, d.2.2.2.2.2.2.2.2.1, d.2.2.2.2.2.2.2.2.2.1, upd d.2.2.2.2.2.2.2.2.2.2.1 (Int32.toNatClampNeg d.1) (if ((d.2.2.2.2.2.2.2.2.2.2.1 (Int32.toNatClampNeg d.1)) + 1) < 9999 then ((d.2.2.2.2.2.2.2.2.2.2.1 (Int32.toNatClampNeg d.1)) + 1) else 9999), d.2.2.2.2.2.2.2.2.2.2.2) k s w ik ex pr wd sn qu tb ts (r0, rq) h0 h1 h2 h3 fi R) rfl o1 ?_
  refine hX_go 8 (38) [some (.ref 10), some (.int x0)] [.int x0, .ref 10] (hCm b (d.1, d.2.1, d.2.2.1 + 1, d.2.2.2.1, d.2.2.2.2.1, d.2.2.2.2.2.1, d.2.2.2.2.2.2.1, d.2.2.2.2.2.2.2.1, d.2.2.2.2.2.2.2.2.1, d.2.2.2.2.2.2.2.2.2.1, upd d.2.2.2.2.2.2.2.2.2.2.1 (Int32.toNatClampNeg d.1) (if ((d.2.2.2.2.2.2.2.2.2.2.1 (Int32.toNatClampNeg d.1)) + 1) < 9999 then ((d.2.2.2.2.2.2.2.2.2.2.1 (Int32.toNatClampNeg d.1)) + 1) else 9999), d.2.2.2.2.2.2.2.2.2.2.2) k s w ik ex pr wd sn qu tb ts (r0, rq) h0 h1 h2 h3 fi R) rfl ?_
  refine hX_call (r' := zR_18) rfl (ct_18_10 x0 o2) ?_
  refine hX_go 0 (41) [some (.ref 10), some (.int x0)] [] (hCm b (f_18_10_d x0 (d.1, d.2.1, d.2.2.1 + 1, d.2.2.2.1, d.2.2.2.2.1, d.2.2.2.2.2.1, d.2.2.2.2.2.2.1, d.2.2.2.2.2.2.2.1, d.2.2.2.2.2.2.2.2.1, d.2.2.2.2.2.2.2.2.2.1, upd d.2.2.2.2.2.2.2.2.2.2.1 (Int32.toNatClampNeg d.1) (if ((d.2.2.2.2.2.2.2.2.2.2.1 (Int32.toNatClampNeg d.1)) + 1) < 9999 then ((d.2.2.2.2.2.2.2.2.2.2.1 (Int32.toNatClampNeg d.1)) + 1) else 9999), d.2.2.2.2.2.2.2.2.2.2.2)) k s w ik ex pr wd sn qu tb ts (r0, rq) h0 h1 h2 h3 fi R) rfl ?_
  exact hX_end rfl (rfl) (rfl)

/-- UpOneSide.lasts: the loop at 53 -/
def lp_91_0_53 (N : Nat) (y1 : Int32) (y2 : Int32) : Nat → Int64 → Int64 → Int32 → hB → Option (Int64 × Int64 × Int32 × hB)
  | 0, _, _, _, _ => none
  | n + 1, y4, y6, y8, d =>
    (bif gCmp .ge y8 y2 then
      some (y4, y6, y8, d)
    else
      (bif gIn d.1 61 then (bif gIn d.1 61 then (bif gIn y1 8 then lp_91_0_53 N y1 y2 n (y4 * (Int32.toInt64 (v_27_10 d))) (y6 * 10000) (y8 + 1) (f_20_10_d y1 d) else none) else none) else none))
set_option maxRecDepth 20000 in
set_option maxHeartbeats 4000000 in
theorem lt_91_0_53 {LL : Nat} {xs : Nat → Int32} {D N : Nat} {b k s w : hB} {ik ex pr wd : Int32} {sn : Nat → Int64} {qu tb : Nat → Int32} {ts : Int32} {r0 : Value} {rq : hRq} {h0 h1 h2 h3 : hSt} {fi : Nat → Int32} {R : List gE} {y1 : Int32} {y2 : Int32} {y3 : Int32} {v : Option Value} {M' : List gE} : ∀ (n : Nat) (y4 : Int64) (y6 : Int64) (y8 : Int32) (d : hB) (q : Int64 × Int64 × Int32 × hB), lp_91_0_53 N y1 y2 n y4 y6 y8 d = some q → (kk : hX (gO LL xs) (D + 3) zR_91 94 [some (.ref 0), some (.int y1), some (.int y2), some (.int y3), some (.long q.1), none, some (.long q.2.1), none, some (.int q.2.2.1)] [] (hCm b q.2.2.2 k s w ik ex pr wd sn qu tb ts (r0, rq) h0 h1 h2 h3 fi R) v M') → hX (gO LL xs) (D + 3) zR_91 53 [some (.ref 0), some (.int y1), some (.int y2), some (.int y3), some (.long y4), none, some (.long y6), none, some (.int y8)] [] (hCm b d k s w ik ex pr wd sn qu tb ts (r0, rq) h0 h1 h2 h3 fi R) v M' := by
  intro n
  induction n with
  | zero => intro y4 y6 y8 d q h; cases h
  | succ n ih =>
    intro y4 y6 y8 d q h kk
    rw [lp_91_0_53] at h
    refine hX_go 3 (bif gCmp .ge y8 y2 then 94 else 59) [some (.ref 0), some (.int y1), some (.int y2), some (.int y3), some (.long y4), none, some (.long y6), none, some (.int y8)] [] (hCm b d k s w ik ex pr wd sn qu tb ts (r0, rq) h0 h1 h2 h3 fi R) rfl ?_
    refine hX_if (gCmp .ge y8 y2) (fun c1 => ?_) (fun c1 => ?_)
    · skip
      have h := gcT c1 h
      have h := Option.some.inj h; subst h
      exact kk
    · skip
      have h := gcF c1 h
      refine hX_goM 3 (65) [some (.ref 0), some (.int y1), some (.int y2), some (.int y3), some (.long y4), none, some (.long y6), none, some (.int y8)] [.ref 10, .long y4] rfl ?_
      revert h; refine gCondR fun g2 h => ?_
      refine hX_call (r' := zR_27) rfl (ct_27_10 g2) ?_
      refine hX_goM 9 (84) [some (.ref 0), some (.int y1), some (.int y2), some (.int y3), some (.long (y4 * (Int32.toInt64 (v_27_10 d)))), none, some (.long (y6 * 10000)), none, some (.int y8)] [.ref 10] rfl ?_
      refine hX_goM 1 (85) [some (.ref 0), some (.int y1), some (.int y2), some (.int y3), some (.long (y4 * (Int32.toInt64 (v_27_10 d)))), none, some (.long (y6 * 10000)), none, some (.int y8)] [.int y1, .ref 10] rfl ?_
      revert h; refine gCondR fun g3 h => ?_
      revert h; refine gCondR fun g4 h => ?_
      refine hX_call (r' := zR_20) rfl (ct_20_10 y1 g3 g4) ?_
      refine hX_go 2 (53) [some (.ref 0), some (.int y1), some (.int y2), some (.int y3), some (.long (y4 * (Int32.toInt64 (v_27_10 d)))), none, some (.long (y6 * 10000)), none, some (.int (y8 + 1))] [] (hCm b (f_20_10_d y1 d) k s w ik ex pr wd sn qu tb ts (r0, rq) h0 h1 h2 h3 fi R) rfl ?_
      exact ih (y4 * (Int32.toInt64 (v_27_10 d))) (y6 * 10000) (y8 + 1) (f_20_10_d y1 d) q h kk

/-- UpOneSide.lasts(III)J -/
def me_91_0 (N : Nat) (x0 : Int32) (x1 : Int32) (x2 : Int32) (b : hB) (d : hB) (fi : Nat → Int32) : Option (Int64 × hB × (Nat → Int32)) :=
  (bif gCmp .ne (v_113_0 x0 b) 0 then
    some (Int32.toInt64 (v_111_0 0), d, f_111_0_fi 0 fi)
  else
    (bif gCmp .eq (v_112 x1 0 4) 0 then
      some (Int32.toInt64 (v_111_0 0), d, f_111_0_fi 0 fi)
    else
      (bif gCmp .ne (v_112 x2 0 1) 0 then
        (Option.bind (lp_91_0_53 N x0 x1 N 1 1 0 (f_10_10_1_d b d)) fun q4 =>
        (Option.bind (me_121 N q4.1 q4.2.1 x2) fun q5 =>
        some (q5, q4.2.2.2, fi)))
      else
        some (Int32.toInt64 (v_111_0 0), d, f_111_0_fi 0 fi))))
set_option maxRecDepth 20000 in
set_option maxHeartbeats 4000000 in
theorem mt_91_0 {LL : Nat} {xs : Nat → Int32} {D : Nat} {b d k s w : hB} {ik ex pr wd : Int32} {sn : Nat → Int64} {qu tb : Nat → Int32} {ts : Int32} {r0 : Value} {rq : hRq} {h0 h1 h2 h3 : hSt} {fi : Nat → Int32} {R : List gE} (N : Nat) (x0 : Int32) (x1 : Int32) (x2 : Int32) (q : Int64 × hB × (Nat → Int32)) (h : me_91_0 N x0 x1 x2 b d fi = some q) : hM (gO LL xs) (D + 3) zR_91 [.ref 0, .int x0, .int x1, .int x2] (hCm b d k s w ik ex pr wd sn qu tb ts (r0, rq) h0 h1 h2 h3 fi R) (some (.long q.1)) (hCm b q.2.1 k s w ik ex pr wd sn qu tb ts (r0, rq) h0 h1 h2 h3 q.2.2 R) := by
  unfold me_91_0 at h
  refine hX_go 0 0 [some (.ref 0), some (.int x0), some (.int x1), some (.int x2), none, none, none, none, none] [] (hCm b d k s w ik ex pr wd sn qu tb ts (r0, rq) h0 h1 h2 h3 fi R) rfl ?_
  refine hX_go 2 (2) [some (.ref 0), some (.int x0), some (.int x1), some (.int x2), none, none, none, none, none] [.int x0, .ref 0] (hCm b d k s w ik ex pr wd sn qu tb ts (r0, rq) h0 h1 h2 h3 fi R) rfl ?_
  refine hX_call (r' := zR_113) rfl (ct_113_0 x0) ?_
  refine hX_goM 1 (bif gCmp .ne (v_113_0 x0 b) 0 then 26 else 8) [some (.ref 0), some (.int x0), some (.int x1), some (.int x2), none, none, none, none, none] [] rfl ?_
  refine hX_if (gCmp .ne (v_113_0 x0 b) 0) (fun c1 => ?_) (fun c1 => ?_)
  · skip
    have h := gcT c1 h
    refine hX_goM 2 (28) [some (.ref 0), some (.int x0), some (.int x1), some (.int x2), none, none, none, none, none] [.int 0, .ref 0] rfl ?_
    refine hX_call (r' := zR_111) rfl (ct_111_0 0 rfl) ?_
    refine hX_go 1 (32) [some (.ref 0), some (.int x0), some (.int x1), some (.int x2), none, none, none, none, none] [.long (Int32.toInt64 (v_111_0 0))] (hCm b d k s w ik ex pr wd sn qu tb ts (r0, rq) h0 h1 h2 h3 (f_111_0_fi 0 fi) R) rfl ?_
    have h := Option.some.inj h; subst h
    exact hX_end rfl rfl rfl
  · skip
    have h := gcF c1 h
    refine hX_goM 3 (11) [some (.ref 0), some (.int x0), some (.int x1), some (.int x2), none, none, none, none, none] [.int 4, .int 0, .int x1] rfl ?_
    refine hX_call (r' := zR_112) rfl (ct_112 x1 0 4) ?_
    refine hX_goM 1 (bif gCmp .eq (v_112 x1 0 4) 0 then 26 else 17) [some (.ref 0), some (.int x0), some (.int x1), some (.int x2), none, none, none, none, none] [] rfl ?_
    refine hX_if (gCmp .eq (v_112 x1 0 4) 0) (fun c2 => ?_) (fun c2 => ?_)
    · skip
      have h := gcT c2 h
      refine hX_goM 2 (28) [some (.ref 0), some (.int x0), some (.int x1), some (.int x2), none, none, none, none, none] [.int 0, .ref 0] rfl ?_
      refine hX_call (r' := zR_111) rfl (ct_111_0 0 rfl) ?_
      refine hX_go 1 (32) [some (.ref 0), some (.int x0), some (.int x1), some (.int x2), none, none, none, none, none] [.long (Int32.toInt64 (v_111_0 0))] (hCm b d k s w ik ex pr wd sn qu tb ts (r0, rq) h0 h1 h2 h3 (f_111_0_fi 0 fi) R) rfl ?_
      have h := Option.some.inj h; subst h
      exact hX_end rfl rfl rfl
    · skip
      have h := gcF c2 h
      refine hX_goM 3 (20) [some (.ref 0), some (.int x0), some (.int x1), some (.int x2), none, none, none, none, none] [.int 1, .int 0, .int x2] rfl ?_
      refine hX_call (r' := zR_112) rfl (ct_112 x2 0 1) ?_
      refine hX_goM 1 (bif gCmp .ne (v_112 x2 0 1) 0 then 33 else 26) [some (.ref 0), some (.int x0), some (.int x1), some (.int x2), none, none, none, none, none] [] rfl ?_
      refine hX_if (gCmp .ne (v_112 x2 0 1) 0) (fun c3 => ?_) (fun c3 => ?_)
      · skip
        have h := gcT c3 h
        refine hX_goM 4 (41) [some (.ref 0), some (.int x0), some (.int x1), some (.int x2), none, none, none, none, none] [.ref 1, .ref 10] rfl ?_
        refine hX_call (r' := zR_10) rfl (ct_10_10_1) ?_
        refine hX_go 6 (53) [some (.ref 0), some (.int x0), some (.int x1), some (.int x2), some (.long 1), none, some (.long 1), none, some (.int 0)] [] (hCm b (f_10_10_1_d b d) k s w ik ex pr wd sn qu tb ts (r0, rq) h0 h1 h2 h3 fi R) rfl ?_
        revert h; refine gBindR fun q4 e4 h => ?_
        refine lt_91_0_53 N 1 1 0 (f_10_10_1_d b d) q4 e4 ?_
        refine hX_go 3 (99) [some (.ref 0), some (.int x0), some (.int x1), some (.int x2), some (.long q4.1), none, some (.long q4.2.1), none, some (.int q4.2.2.1)] [.int x2, .long q4.2.1, .long q4.1] (hCm b q4.2.2.2 k s w ik ex pr wd sn qu tb ts (r0, rq) h0 h1 h2 h3 fi R) rfl ?_
        revert h; refine gBindR fun q5 e5 h => ?_
        refine hX_call (r' := zR_121) rfl (mt_121 N q4.1 q4.2.1 x2 q5 e5) ?_
        refine hX_goM 0 (102) [some (.ref 0), some (.int x0), some (.int x1), some (.int x2), some (.long q4.1), none, some (.long q4.2.1), none, some (.int q4.2.2.1)] [.long q5] rfl ?_
        have h := Option.some.inj h; subst h
        exact hX_end rfl rfl rfl
      · skip
        have h := gcF c3 h
        refine hX_goM 2 (28) [some (.ref 0), some (.int x0), some (.int x1), some (.int x2), none, none, none, none, none] [.int 0, .ref 0] rfl ?_
        refine hX_call (r' := zR_111) rfl (ct_111_0 0 rfl) ?_
        refine hX_go 1 (32) [some (.ref 0), some (.int x0), some (.int x1), some (.int x2), none, none, none, none, none] [.long (Int32.toInt64 (v_111_0 0))] (hCm b d k s w ik ex pr wd sn qu tb ts (r0, rq) h0 h1 h2 h3 (f_111_0_fi 0 fi) R) rfl ?_
        have h := Option.some.inj h; subst h
        exact hX_end rfl rfl rfl

theorem ct_114_0_0 {LL : Nat} {xs : Nat → Int32} {D : Nat} {b d k s w : hB} {ik ex pr wd : Int32} {sn : Nat → Int64} {qu tb : Nat → Int32} {ts : Int32} {r0 : Value} {rq : hRq} {h0 h1 h2 h3 : hSt} {fi : Nat → Int32} {R : List gE} (x0 : Int32) (f0 : gCmp .lt x0 0 = true) : hM (gO LL xs) (D + 0) zR_114 [.ref 0, .int x0] (hCm b d k s w ik ex pr wd sn qu tb ts (r0, rq) h0 h1 h2 h3 fi R) (some (.null)) (hCm b d k s w ik ex pr wd sn qu tb ts (r0, rq) h0 h1 h2 h3 fi R) := by
  refine hX_go 0 0 [some (.ref 0), some (.int x0)] [] (hCm b d k s w ik ex pr wd sn qu tb ts (r0, rq) h0 h1 h2 h3 fi R) rfl ?_
  refine hX_go 2 (bif gCmp .lt x0 0 then 13 else 4) [some (.ref 0), some (.int x0)] [] (hCm b d k s w ik ex pr wd sn qu tb ts (r0, rq) h0 h1 h2 h3 fi R) rfl ?_
  refine hX_ifT _ f0 ?_
  refine hX_go 2 23 [some (.ref 0), some (.int x0)] [.null] (hCm b d k s w ik ex pr wd sn qu tb ts (r0, rq) h0 h1 h2 h3 fi R) rfl ?_
  exact hX_end rfl rfl rfl

theorem ct_114_0_1 {LL : Nat} {xs : Nat → Int32} {D : Nat} {b d k s w : hB} {ik ex pr wd : Int32} {sn : Nat → Int64} {qu tb : Nat → Int32} {ts : Int32} {r0 : Value} {rq : hRq} {h0 h1 h2 h3 : hSt} {fi : Nat → Int32} {R : List gE} (x0 : Int32) (f0 : gCmp .lt x0 0 = false) (f1 : gCmp .lt x0 4 = false) : hM (gO LL xs) (D + 0) zR_114 [.ref 0, .int x0] (hCm b d k s w ik ex pr wd sn qu tb ts (r0, rq) h0 h1 h2 h3 fi R) (some (.null)) (hCm b d k s w ik ex pr wd sn qu tb ts (r0, rq) h0 h1 h2 h3 fi R) := by
  refine hX_go 0 0 [some (.ref 0), some (.int x0)] [] (hCm b d k s w ik ex pr wd sn qu tb ts (r0, rq) h0 h1 h2 h3 fi R) rfl ?_
  refine hX_go 2 (bif gCmp .lt x0 0 then 13 else 4) [some (.ref 0), some (.int x0)] [] (hCm b d k s w ik ex pr wd sn qu tb ts (r0, rq) h0 h1 h2 h3 fi R) rfl ?_
  refine hX_ifF _ f0 ?_
  refine hX_go 5 (bif gCmp .lt x0 4 then 17 else 13) [some (.ref 0), some (.int x0)] [] (hCm b d k s w ik ex pr wd sn qu tb ts (r0, rq) h0 h1 h2 h3 fi R) rfl ?_
  refine hX_ifF _ f1 ?_
  refine hX_go 2 23 [some (.ref 0), some (.int x0)] [.null] (hCm b d k s w ik ex pr wd sn qu tb ts (r0, rq) h0 h1 h2 h3 fi R) rfl ?_
  exact hX_end rfl rfl rfl

theorem ct_114_0_2 {LL : Nat} {xs : Nat → Int32} {D : Nat} {b d k s w : hB} {ik ex pr wd : Int32} {sn : Nat → Int64} {qu tb : Nat → Int32} {ts : Int32} {r0 : Value} {rq : hRq} {h0 h1 h2 h3 : hSt} {fi : Nat → Int32} {R : List gE} (x0 : Int32) (f0 : gCmp .lt x0 0 = false) (f1 : gCmp .lt x0 4 = true) (f2 : hEq x0 0 = true) : hM (gO LL xs) (D + 0) zR_114 [.ref 0, .int x0] (hCm b d k s w ik ex pr wd sn qu tb ts (r0, rq) h0 h1 h2 h3 fi R) (some (.ref 55)) (hCm b d k s w ik ex pr wd sn qu tb ts (r0, rq) h0 h1 h2 h3 fi R) := by
  refine hX_go 0 0 [some (.ref 0), some (.int x0)] [] (hCm b d k s w ik ex pr wd sn qu tb ts (r0, rq) h0 h1 h2 h3 fi R) rfl ?_
  refine hX_go 2 (bif gCmp .lt x0 0 then 13 else 4) [some (.ref 0), some (.int x0)] [] (hCm b d k s w ik ex pr wd sn qu tb ts (r0, rq) h0 h1 h2 h3 fi R) rfl ?_
  refine hX_ifF _ f0 ?_
  refine hX_go 5 (bif gCmp .lt x0 4 then 17 else 13) [some (.ref 0), some (.int x0)] [] (hCm b d k s w ik ex pr wd sn qu tb ts (r0, rq) h0 h1 h2 h3 fi R) rfl ?_
  refine hX_ifT _ f1 ?_
  refine hX_go 3 22 [some (.ref 0), some (.int x0)] [.int x0, .ref 53] (hCm b d k s w ik ex pr wd sn qu tb ts (r0, rq) h0 h1 h2 h3 fi R) rfl ?_
  obtain rfl := hSh_at0 f2
  exact hX_go 1 23 [some (.ref 0), some (.int 0)] [.ref 55] (hCm b d k s w ik ex pr wd sn qu tb ts (r0, rq) h0 h1 h2 h3 fi R) rfl (hX_end rfl rfl rfl)

theorem ct_114_0_3 {LL : Nat} {xs : Nat → Int32} {D : Nat} {b d k s w : hB} {ik ex pr wd : Int32} {sn : Nat → Int64} {qu tb : Nat → Int32} {ts : Int32} {r0 : Value} {rq : hRq} {h0 h1 h2 h3 : hSt} {fi : Nat → Int32} {R : List gE} (x0 : Int32) (f0 : gCmp .lt x0 0 = false) (f1 : gCmp .lt x0 4 = true) (f2 : hEq x0 0 = false) (f3 : hEq x0 1 = true) : hM (gO LL xs) (D + 0) zR_114 [.ref 0, .int x0] (hCm b d k s w ik ex pr wd sn qu tb ts (r0, rq) h0 h1 h2 h3 fi R) (some (.ref 57)) (hCm b d k s w ik ex pr wd sn qu tb ts (r0, rq) h0 h1 h2 h3 fi R) := by
  refine hX_go 0 0 [some (.ref 0), some (.int x0)] [] (hCm b d k s w ik ex pr wd sn qu tb ts (r0, rq) h0 h1 h2 h3 fi R) rfl ?_
  refine hX_go 2 (bif gCmp .lt x0 0 then 13 else 4) [some (.ref 0), some (.int x0)] [] (hCm b d k s w ik ex pr wd sn qu tb ts (r0, rq) h0 h1 h2 h3 fi R) rfl ?_
  refine hX_ifF _ f0 ?_
  refine hX_go 5 (bif gCmp .lt x0 4 then 17 else 13) [some (.ref 0), some (.int x0)] [] (hCm b d k s w ik ex pr wd sn qu tb ts (r0, rq) h0 h1 h2 h3 fi R) rfl ?_
  refine hX_ifT _ f1 ?_
  refine hX_go 3 22 [some (.ref 0), some (.int x0)] [.int x0, .ref 53] (hCm b d k s w ik ex pr wd sn qu tb ts (r0, rq) h0 h1 h2 h3 fi R) rfl ?_
  obtain rfl := hSh_at1 f3
  exact hX_go 1 23 [some (.ref 0), some (.int 1)] [.ref 57] (hCm b d k s w ik ex pr wd sn qu tb ts (r0, rq) h0 h1 h2 h3 fi R) rfl (hX_end rfl rfl rfl)

theorem ct_114_0_4 {LL : Nat} {xs : Nat → Int32} {D : Nat} {b d k s w : hB} {ik ex pr wd : Int32} {sn : Nat → Int64} {qu tb : Nat → Int32} {ts : Int32} {r0 : Value} {rq : hRq} {h0 h1 h2 h3 : hSt} {fi : Nat → Int32} {R : List gE} (x0 : Int32) (f0 : gCmp .lt x0 0 = false) (f1 : gCmp .lt x0 4 = true) (f2 : hEq x0 0 = false) (f3 : hEq x0 1 = false) (f4 : hEq x0 2 = true) : hM (gO LL xs) (D + 0) zR_114 [.ref 0, .int x0] (hCm b d k s w ik ex pr wd sn qu tb ts (r0, rq) h0 h1 h2 h3 fi R) (some (.ref 59)) (hCm b d k s w ik ex pr wd sn qu tb ts (r0, rq) h0 h1 h2 h3 fi R) := by
  refine hX_go 0 0 [some (.ref 0), some (.int x0)] [] (hCm b d k s w ik ex pr wd sn qu tb ts (r0, rq) h0 h1 h2 h3 fi R) rfl ?_
  refine hX_go 2 (bif gCmp .lt x0 0 then 13 else 4) [some (.ref 0), some (.int x0)] [] (hCm b d k s w ik ex pr wd sn qu tb ts (r0, rq) h0 h1 h2 h3 fi R) rfl ?_
  refine hX_ifF _ f0 ?_
  refine hX_go 5 (bif gCmp .lt x0 4 then 17 else 13) [some (.ref 0), some (.int x0)] [] (hCm b d k s w ik ex pr wd sn qu tb ts (r0, rq) h0 h1 h2 h3 fi R) rfl ?_
  refine hX_ifT _ f1 ?_
  refine hX_go 3 22 [some (.ref 0), some (.int x0)] [.int x0, .ref 53] (hCm b d k s w ik ex pr wd sn qu tb ts (r0, rq) h0 h1 h2 h3 fi R) rfl ?_
  obtain rfl := hSh_at2 f4
  exact hX_go 1 23 [some (.ref 0), some (.int 2)] [.ref 59] (hCm b d k s w ik ex pr wd sn qu tb ts (r0, rq) h0 h1 h2 h3 fi R) rfl (hX_end rfl rfl rfl)

theorem ct_114_0_5 {LL : Nat} {xs : Nat → Int32} {D : Nat} {b d k s w : hB} {ik ex pr wd : Int32} {sn : Nat → Int64} {qu tb : Nat → Int32} {ts : Int32} {r0 : Value} {rq : hRq} {h0 h1 h2 h3 : hSt} {fi : Nat → Int32} {R : List gE} (x0 : Int32) (f0 : gCmp .lt x0 0 = false) (f1 : gCmp .lt x0 4 = true) (f2 : hEq x0 0 = false) (f3 : hEq x0 1 = false) (f4 : hEq x0 2 = false) : hM (gO LL xs) (D + 0) zR_114 [.ref 0, .int x0] (hCm b d k s w ik ex pr wd sn qu tb ts (r0, rq) h0 h1 h2 h3 fi R) (some (.ref 61)) (hCm b d k s w ik ex pr wd sn qu tb ts (r0, rq) h0 h1 h2 h3 fi R) := by
  refine hX_go 0 0 [some (.ref 0), some (.int x0)] [] (hCm b d k s w ik ex pr wd sn qu tb ts (r0, rq) h0 h1 h2 h3 fi R) rfl ?_
  refine hX_go 2 (bif gCmp .lt x0 0 then 13 else 4) [some (.ref 0), some (.int x0)] [] (hCm b d k s w ik ex pr wd sn qu tb ts (r0, rq) h0 h1 h2 h3 fi R) rfl ?_
  refine hX_ifF _ f0 ?_
  refine hX_go 5 (bif gCmp .lt x0 4 then 17 else 13) [some (.ref 0), some (.int x0)] [] (hCm b d k s w ik ex pr wd sn qu tb ts (r0, rq) h0 h1 h2 h3 fi R) rfl ?_
  refine hX_ifT _ f1 ?_
  refine hX_go 3 22 [some (.ref 0), some (.int x0)] [.int x0, .ref 53] (hCm b d k s w ik ex pr wd sn qu tb ts (r0, rq) h0 h1 h2 h3 fi R) rfl ?_
  obtain rfl := hSh_at3 f0 f1 f2 f3 f4
  exact hX_go 1 23 [some (.ref 0), some (.int 3)] [.ref 61] (hCm b d k s w ik ex pr wd sn qu tb ts (r0, rq) h0 h1 h2 h3 fi R) rfl (hX_end rfl rfl rfl)

/-- UpOneSide$Sheet.isMissing()Z -/
def v_53_55 (h0 : hSt) : Int32 := bif gCmp .ne h0.2.1 0 then 0 else 1
set_option maxRecDepth 20000 in
set_option maxHeartbeats 1000000 in
theorem ct_53_55 {LL : Nat} {xs : Nat → Int32} {D : Nat} {b d k s w : hB} {ik ex pr wd : Int32} {sn : Nat → Int64} {qu tb : Nat → Int32} {ts : Int32} {r0 : Value} {rq : hRq} {h0 h1 h2 h3 : hSt} {fi : Nat → Int32} {R : List gE} : hM (gO LL xs) (D + 0) zR_53 [.ref 55] (hCm b d k s w ik ex pr wd sn qu tb ts (r0, rq) h0 h1 h2 h3 fi R) (some (.int (v_53_55 h0))) (hCm b d k s w ik ex pr wd sn qu tb ts (r0, rq) h0 h1 h2 h3 fi R) := by
  refine hX_go 0 0 [some (.ref 55)] [] (hCm b d k s w ik ex pr wd sn qu tb ts (r0, rq) h0 h1 h2 h3 fi R) rfl ?_
  refine hX_go 3 (bif gCmp .ne h0.2.1 0 then 11 else 7) [some (.ref 55)] [] (hCm b d k s w ik ex pr wd sn qu tb ts (r0, rq) h0 h1 h2 h3 fi R) rfl ?_
  refine hX_if (gCmp .ne h0.2.1 0) (fun c1 => ?_) (fun c1 => ?_)
  · skip
    refine hX_goM 1 (12) [some (.ref 55)] [.int 0] rfl ?_
    exact hX_end rfl (by unfold v_53_55; rw [c1]; rfl) (rfl)
  · skip
    refine hX_goM 2 (12) [some (.ref 55)] [.int 1] rfl ?_
    exact hX_end rfl (by unfold v_53_55; rw [c1]; rfl) (rfl)

theorem bz_53_55 (h0 : hSt) : (decide (v_53_55 h0 = 0) || decide (v_53_55 h0 = 1)) = true := by
  unfold v_53_55
  cases (gCmp .ne h0.2.1 0)
  · rfl
  · rfl

/-- UpOneSide$Sheet.allows(II)Z -/
def v_57_55 (x0 : Int32) (x1 : Int32) (h0 : hSt) : Int32 := bif gCmp .ge x0 h0.2.2 then 1 else (bif gCmp .eq (h0.1 (Int32.toNatClampNeg x0)) (-1) then 1 else (bif gCmp .ne (h0.1 (Int32.toNatClampNeg x0)) x1 then 0 else 1))
set_option maxRecDepth 20000 in
set_option maxHeartbeats 1000000 in
theorem ct_57_55 {LL : Nat} {xs : Nat → Int32} {D : Nat} {b d k s w : hB} {ik ex pr wd : Int32} {sn : Nat → Int64} {qu tb : Nat → Int32} {ts : Int32} {r0 : Value} {rq : hRq} {h0 h1 h2 h3 : hSt} {fi : Nat → Int32} {R : List gE} (x0 : Int32) (x1 : Int32) (o1 : gCmp .ge x0 h0.2.2 = false → gIn x0 40 = true) : hM (gO LL xs) (D + 0) zR_57 [.ref 55, .int x0, .int x1] (hCm b d k s w ik ex pr wd sn qu tb ts (r0, rq) h0 h1 h2 h3 fi R) (some (.int (v_57_55 x0 x1 h0))) (hCm b d k s w ik ex pr wd sn qu tb ts (r0, rq) h0 h1 h2 h3 fi R) := by
  refine hX_go 0 0 [some (.ref 55), some (.int x0), some (.int x1)] [] (hCm b d k s w ik ex pr wd sn qu tb ts (r0, rq) h0 h1 h2 h3 fi R) rfl ?_
  refine hX_go 4 (bif gCmp .ge x0 h0.2.2 then 28 else 8) [some (.ref 55), some (.int x0), some (.int x1)] [] (hCm b d k s w ik ex pr wd sn qu tb ts (r0, rq) h0 h1 h2 h3 fi R) rfl ?_
  refine hX_if (gCmp .ge x0 h0.2.2) (fun c1 => ?_) (fun c1 => ?_)
  · skip
    refine hX_goM 2 (33) [some (.ref 55), some (.int x0), some (.int x1)] [.int 1] rfl ?_
    exact hX_end rfl (by unfold v_57_55; rw [c1]; rfl) (rfl)
  · skip
    refine hX_goM 3 (13) [some (.ref 55), some (.int x0), some (.int x1)] [.int x0, .ref 56] rfl ?_
    refine hX_gM (gIn x0 40) 14 [some (.ref 55), some (.int x0), some (.int x1)] [.int (h0.1 (Int32.toNatClampNeg x0))] rfl (o1 c1) ?_
    refine hX_goM 2 (bif gCmp .eq (h0.1 (Int32.toNatClampNeg x0)) (-1) then 28 else 18) [some (.ref 55), some (.int x0), some (.int x1)] [] rfl ?_
    refine hX_if (gCmp .eq (h0.1 (Int32.toNatClampNeg x0)) (-1)) (fun c2 => ?_) (fun c2 => ?_)
    · skip
      refine hX_goM 2 (33) [some (.ref 55), some (.int x0), some (.int x1)] [.int 1] rfl ?_
      exact hX_end rfl (by unfold v_57_55; rw [c1, c2]; rfl) (rfl)
    · skip
      refine hX_goM 3 (23) [some (.ref 55), some (.int x0), some (.int x1)] [.int x0, .ref 56] rfl ?_
      refine hX_gM (gIn x0 40) 24 [some (.ref 55), some (.int x0), some (.int x1)] [.int (h0.1 (Int32.toNatClampNeg x0))] rfl (o1 c1) ?_
      refine hX_goM 2 (bif gCmp .ne (h0.1 (Int32.toNatClampNeg x0)) x1 then 32 else 28) [some (.ref 55), some (.int x0), some (.int x1)] [] rfl ?_
      refine hX_if (gCmp .ne (h0.1 (Int32.toNatClampNeg x0)) x1) (fun c3 => ?_) (fun c3 => ?_)
      · skip
        refine hX_goM 1 (33) [some (.ref 55), some (.int x0), some (.int x1)] [.int 0] rfl ?_
        exact hX_end rfl (by unfold v_57_55; rw [c1, c2, c3]; rfl) (rfl)
      · skip
        refine hX_goM 2 (33) [some (.ref 55), some (.int x0), some (.int x1)] [.int 1] rfl ?_
        exact hX_end rfl (by unfold v_57_55; rw [c1, c2, c3]; rfl) (rfl)

theorem bz_57_55 (x0 : Int32) (x1 : Int32) (h0 : hSt) : (decide (v_57_55 x0 x1 h0 = 0) || decide (v_57_55 x0 x1 h0 = 1)) = true := by
  unfold v_57_55
  cases (gCmp .ge x0 h0.2.2)
  · cases (gCmp .eq (h0.1 (Int32.toNatClampNeg x0)) (-1))
    · cases (gCmp .ne (h0.1 (Int32.toNatClampNeg x0)) x1)
      · rfl
      · rfl
    · rfl
  · rfl

/-- UpOneSide.follows: the loop at 57 -/
def lp_119_0_55_57 (N : Nat) (y2 : Int32) (h0 : hSt) : Nat → Int32 → hB → Option (Int32 × hB)
  | 0, _, _ => none
  | n + 1, y4, d =>
    (bif gCmp .ge y4 h0.2.2 then
      some (1, d)
    else
      (bif gIn y2 8 then (bif ((gCmp .ge y4 h0.2.2) || (gIn y4 40)) then (bif gCmp .eq (v_57_55 y4 ((f_18_10_d y2 d).1) h0) 0 then
        some (0, (f_18_10_d y2 d))
      else
        (bif ((gCmp .ge (y4 + 1) h0.2.2) || (gIn (y4 + 1) 40)) then (bif gCmp .ne (v_57_55 (y4 + 1) ((f_18_10_d y2 d).2.1) h0) 0 then
          lp_119_0_55_57 N y2 h0 n (y4 + 2) (f_18_10_d y2 d)
        else
          some (0, (f_18_10_d y2 d))) else none)) else none) else none))
set_option maxRecDepth 20000 in
set_option maxHeartbeats 4000000 in
theorem lt_119_0_55_57 {LL : Nat} {xs : Nat → Int32} {D N : Nat} {b k s w : hB} {ik ex pr wd : Int32} {sn : Nat → Int64} {qu tb : Nat → Int32} {ts : Int32} {r0 : Value} {rq : hRq} {h0 h1 h2 h3 : hSt} {fi : Nat → Int32} {R : List gE} {y2 : Int32} {y3 : Int32} : ∀ (n : Nat) (y4 : Int32) (d : hB) (q : Int32 × hB), lp_119_0_55_57 N y2 h0 n y4 d = some q → hX (gO LL xs) (D + 2) zR_119 57 [some (.ref 0), some (.ref 55), some (.int y2), some (.int y3), some (.int y4)] [] (hCm b d k s w ik ex pr wd sn qu tb ts (r0, rq) h0 h1 h2 h3 fi R) (some (.int q.1)) (hCm b q.2 k s w ik ex pr wd sn qu tb ts (r0, rq) h0 h1 h2 h3 fi R) := by
  intro n
  induction n with
  | zero => intro y4 d q h; cases h
  | succ n ih =>
    intro y4 d q h
    rw [lp_119_0_55_57] at h
    refine hX_go 4 (bif gCmp .ge y4 h0.2.2 then 116 else 66) [some (.ref 0), some (.ref 55), some (.int y2), some (.int y3), some (.int y4)] [] (hCm b d k s w ik ex pr wd sn qu tb ts (r0, rq) h0 h1 h2 h3 fi R) rfl ?_
    refine hX_if (gCmp .ge y4 h0.2.2) (fun c1 => ?_) (fun c1 => ?_)
    · skip
      have h := gcT c1 h
      refine hX_goM 1 (117) [some (.ref 0), some (.ref 55), some (.int y2), some (.int y3), some (.int y4)] [.int 1] rfl ?_
      have h := Option.some.inj h; subst h
      exact hX_end rfl rfl rfl
    · skip
      have h := gcF c1 h
      refine hX_goM 3 (71) [some (.ref 0), some (.ref 55), some (.int y2), some (.int y3), some (.int y4)] [.int y2, .ref 10] rfl ?_
      revert h; refine gCondR fun g2 h => ?_
      refine hX_call (r' := zR_18) rfl (ct_18_10 y2 g2) ?_
      refine hX_go 5 (84) [some (.ref 0), some (.ref 55), some (.int y2), some (.int y3), some (.int y4)] [.int ((f_18_10_d y2 d).1), .int y4, .ref 55] (hCm b (f_18_10_d y2 d) k s w ik ex pr wd sn qu tb ts (r0, rq) h0 h1 h2 h3 fi R) rfl ?_
      revert h; refine gCondR fun g3 h => ?_
      refine hX_call (r' := zR_57) rfl (ct_57_55 y4 ((f_18_10_d y2 d).1) (fun u0 => (gImpF g3 u0))) ?_
      refine hX_goM 1 (bif gCmp .eq (v_57_55 y4 ((f_18_10_d y2 d).1) h0) 0 then 108 else 90) [some (.ref 0), some (.ref 55), some (.int y2), some (.int y3), some (.int y4)] [] rfl ?_
      refine hX_if (gCmp .eq (v_57_55 y4 ((f_18_10_d y2 d).1) h0) 0) (fun c4 => ?_) (fun c4 => ?_)
      · skip
        have h := gcT c4 h
        refine hX_goM 1 (109) [some (.ref 0), some (.ref 55), some (.int y2), some (.int y3), some (.int y4)] [.int 0] rfl ?_
        have h := Option.some.inj h; subst h
        exact hX_end rfl rfl rfl
      · skip
        have h := gcF c4 h
        refine hX_goM 7 (102) [some (.ref 0), some (.ref 55), some (.int y2), some (.int y3), some (.int y4)] [.int ((f_18_10_d y2 d).2.1), .int (y4 + 1), .ref 55] rfl ?_
        revert h; refine gCondR fun g5 h => ?_
        refine hX_call (r' := zR_57) rfl (ct_57_55 (y4 + 1) ((f_18_10_d y2 d).2.1) (fun u0 => (gImpF g5 u0))) ?_
        refine hX_goM 1 (bif gCmp .ne (v_57_55 (y4 + 1) ((f_18_10_d y2 d).2.1) h0) 0 then 110 else 108) [some (.ref 0), some (.ref 55), some (.int y2), some (.int y3), some (.int y4)] [] rfl ?_
        refine hX_if (gCmp .ne (v_57_55 (y4 + 1) ((f_18_10_d y2 d).2.1) h0) 0) (fun c6 => ?_) (fun c6 => ?_)
        · skip
          have h := gcT c6 h
          refine hX_goM 2 (57) [some (.ref 0), some (.ref 55), some (.int y2), some (.int y3), some (.int (y4 + 2))] [] rfl ?_
          exact ih (y4 + 2) (f_18_10_d y2 d) q h
        · skip
          have h := gcF c6 h
          refine hX_goM 1 (109) [some (.ref 0), some (.ref 55), some (.int y2), some (.int y3), some (.int y4)] [.int 0] rfl ?_
          have h := Option.some.inj h; subst h
          exact hX_end rfl rfl rfl

/-- UpOneSide.follows(LUpOneSide$Sheet;II)Z -/
def me_119_0_55 (N : Nat) (x0 : Int32) (x1 : Int32) (b : hB) (d : hB) (h0 : hSt) : Option (Int32 × hB) :=
  lp_119_0_55_57 N x0 h0 N 0 (b.1, b.2.1, d.2.2.1, d.2.2.2.1, d.2.2.2.2.1, d.2.2.2.2.2.1, d.2.2.2.2.2.2.1, d.2.2.2.2.2.2.2.1, upd (upd d.2.2.2.2.2.2.2.2.1 1 (x1 / 10)) 2 (x1 - x1 / 10 * 10), d.2.2.2.2.2.2.2.2.2)
set_option maxRecDepth 20000 in
set_option maxHeartbeats 4000000 in
theorem mt_119_0_55 {LL : Nat} {xs : Nat → Int32} {D : Nat} {b d k s w : hB} {ik ex pr wd : Int32} {sn : Nat → Int64} {qu tb : Nat → Int32} {ts : Int32} {r0 : Value} {rq : hRq} {h0 h1 h2 h3 : hSt} {fi : Nat → Int32} {R : List gE} (N : Nat) (x0 : Int32) (x1 : Int32) (q : Int32 × hB) (h : me_119_0_55 N x0 x1 b d h0 = some q) : hM (gO LL xs) (D + 2) zR_119 [.ref 0, .ref 55, .int x0, .int x1] (hCm b d k s w ik ex pr wd sn qu tb ts (r0, rq) h0 h1 h2 h3 fi R) (some (.int q.1)) (hCm b q.2 k s w ik ex pr wd sn qu tb ts (r0, rq) h0 h1 h2 h3 fi R) := by
  unfold me_119_0_55 at h
  refine hX_go 0 0 [some (.ref 0), some (.ref 55), some (.int x0), some (.int x1), none] [] (hCm b d k s w ik ex pr wd sn qu tb ts (r0, rq) h0 h1 h2 h3 fi R) rfl ?_
  refine hX_go 9 (19) [some (.ref 0), some (.ref 55), some (.int x0), some (.int x1), none] [.ref 0, .ref 10] (hCm b (b.1, d.2) k s w ik ex pr wd sn qu tb ts (r0, rq) h0 h1 h2 h3 fi R) rfl ?_
  refine hX_go 9 (39) [some (.ref 0), some (.ref 55), some (.int x0), some (.int x1), none] [.int 10, .int x1, .int 1, .ref 14] (hCm b (b.1, b.2.1, d.2.2) k s w ik ex pr wd sn qu tb ts (r0, rq) h0 h1 h2 h3 fi R) rfl ?_
  refine hX_go 9 (53) [some (.ref 0), some (.ref 55), some (.int x0), some (.int x1), none] [.int (x1 - x1 / 10 * 10), .int 2, .ref 14] (hCm b (b.1, b.2.1, d.2.2.1, d.2.2.2.1, d.2.2.2.2.1, d.2.2.2.2.2.1, d.2.2.2.2.2.2.1, d.2.2.2.2.2.2.2.1, upd d.2.2.2.2.2.2.2.2.1 1 (x1 / 10), d.2.2.2.2.2.2.2.2.2) k s w ik ex pr wd sn qu tb ts (r0, rq) h0 h1 h2 h3 fi R) rfl ?_
  refine hX_go 3 (57) [some (.ref 0), some (.ref 55), some (.int x0), some (.int x1), some (.int 0)] [] (hCm b (b.1, b.2.1, d.2.2.1, d.2.2.2.1, d.2.2.2.2.1, d.2.2.2.2.2.1, d.2.2.2.2.2.2.1, d.2.2.2.2.2.2.2.1, upd (upd d.2.2.2.2.2.2.2.2.1 1 (x1 / 10)) 2 (x1 - x1 / 10 * 10), d.2.2.2.2.2.2.2.2.2) k s w ik ex pr wd sn qu tb ts (r0, rq) h0 h1 h2 h3 fi R) rfl ?_
  exact lt_119_0_55_57 N 0 (b.1, b.2.1, d.2.2.1, d.2.2.2.1, d.2.2.2.2.1, d.2.2.2.2.2.1, d.2.2.2.2.2.2.1, d.2.2.2.2.2.2.2.1, upd (upd d.2.2.2.2.2.2.2.2.1 1 (x1 / 10)) 2 (x1 - x1 / 10 * 10), d.2.2.2.2.2.2.2.2.2) q h

/-- UpOneSide$Sheet.isMissing()Z -/
def v_53_57 (h1 : hSt) : Int32 := bif gCmp .ne h1.2.1 0 then 0 else 1
set_option maxRecDepth 20000 in
set_option maxHeartbeats 1000000 in
theorem ct_53_57 {LL : Nat} {xs : Nat → Int32} {D : Nat} {b d k s w : hB} {ik ex pr wd : Int32} {sn : Nat → Int64} {qu tb : Nat → Int32} {ts : Int32} {r0 : Value} {rq : hRq} {h0 h1 h2 h3 : hSt} {fi : Nat → Int32} {R : List gE} : hM (gO LL xs) (D + 0) zR_53 [.ref 57] (hCm b d k s w ik ex pr wd sn qu tb ts (r0, rq) h0 h1 h2 h3 fi R) (some (.int (v_53_57 h1))) (hCm b d k s w ik ex pr wd sn qu tb ts (r0, rq) h0 h1 h2 h3 fi R) := by
  refine hX_go 0 0 [some (.ref 57)] [] (hCm b d k s w ik ex pr wd sn qu tb ts (r0, rq) h0 h1 h2 h3 fi R) rfl ?_
  refine hX_go 3 (bif gCmp .ne h1.2.1 0 then 11 else 7) [some (.ref 57)] [] (hCm b d k s w ik ex pr wd sn qu tb ts (r0, rq) h0 h1 h2 h3 fi R) rfl ?_
  refine hX_if (gCmp .ne h1.2.1 0) (fun c1 => ?_) (fun c1 => ?_)
  · skip
    refine hX_goM 1 (12) [some (.ref 57)] [.int 0] rfl ?_
    exact hX_end rfl (by unfold v_53_57; rw [c1]; rfl) (rfl)
  · skip
    refine hX_goM 2 (12) [some (.ref 57)] [.int 1] rfl ?_
    exact hX_end rfl (by unfold v_53_57; rw [c1]; rfl) (rfl)

theorem bz_53_57 (h1 : hSt) : (decide (v_53_57 h1 = 0) || decide (v_53_57 h1 = 1)) = true := by
  unfold v_53_57
  cases (gCmp .ne h1.2.1 0)
  · rfl
  · rfl

/-- UpOneSide$Sheet.allows(II)Z -/
def v_57_57 (x0 : Int32) (x1 : Int32) (h1 : hSt) : Int32 := bif gCmp .ge x0 h1.2.2 then 1 else (bif gCmp .eq (h1.1 (Int32.toNatClampNeg x0)) (-1) then 1 else (bif gCmp .ne (h1.1 (Int32.toNatClampNeg x0)) x1 then 0 else 1))
set_option maxRecDepth 20000 in
set_option maxHeartbeats 1000000 in
theorem ct_57_57 {LL : Nat} {xs : Nat → Int32} {D : Nat} {b d k s w : hB} {ik ex pr wd : Int32} {sn : Nat → Int64} {qu tb : Nat → Int32} {ts : Int32} {r0 : Value} {rq : hRq} {h0 h1 h2 h3 : hSt} {fi : Nat → Int32} {R : List gE} (x0 : Int32) (x1 : Int32) (o1 : gCmp .ge x0 h1.2.2 = false → gIn x0 40 = true) : hM (gO LL xs) (D + 0) zR_57 [.ref 57, .int x0, .int x1] (hCm b d k s w ik ex pr wd sn qu tb ts (r0, rq) h0 h1 h2 h3 fi R) (some (.int (v_57_57 x0 x1 h1))) (hCm b d k s w ik ex pr wd sn qu tb ts (r0, rq) h0 h1 h2 h3 fi R) := by
  refine hX_go 0 0 [some (.ref 57), some (.int x0), some (.int x1)] [] (hCm b d k s w ik ex pr wd sn qu tb ts (r0, rq) h0 h1 h2 h3 fi R) rfl ?_
  refine hX_go 4 (bif gCmp .ge x0 h1.2.2 then 28 else 8) [some (.ref 57), some (.int x0), some (.int x1)] [] (hCm b d k s w ik ex pr wd sn qu tb ts (r0, rq) h0 h1 h2 h3 fi R) rfl ?_
  refine hX_if (gCmp .ge x0 h1.2.2) (fun c1 => ?_) (fun c1 => ?_)
  · skip
    refine hX_goM 2 (33) [some (.ref 57), some (.int x0), some (.int x1)] [.int 1] rfl ?_
    exact hX_end rfl (by unfold v_57_57; rw [c1]; rfl) (rfl)
  · skip
    refine hX_goM 3 (13) [some (.ref 57), some (.int x0), some (.int x1)] [.int x0, .ref 58] rfl ?_
    refine hX_gM (gIn x0 40) 14 [some (.ref 57), some (.int x0), some (.int x1)] [.int (h1.1 (Int32.toNatClampNeg x0))] rfl (o1 c1) ?_
    refine hX_goM 2 (bif gCmp .eq (h1.1 (Int32.toNatClampNeg x0)) (-1) then 28 else 18) [some (.ref 57), some (.int x0), some (.int x1)] [] rfl ?_
    refine hX_if (gCmp .eq (h1.1 (Int32.toNatClampNeg x0)) (-1)) (fun c2 => ?_) (fun c2 => ?_)
    · skip
      refine hX_goM 2 (33) [some (.ref 57), some (.int x0), some (.int x1)] [.int 1] rfl ?_
      exact hX_end rfl (by unfold v_57_57; rw [c1, c2]; rfl) (rfl)
    · skip
      refine hX_goM 3 (23) [some (.ref 57), some (.int x0), some (.int x1)] [.int x0, .ref 58] rfl ?_
      refine hX_gM (gIn x0 40) 24 [some (.ref 57), some (.int x0), some (.int x1)] [.int (h1.1 (Int32.toNatClampNeg x0))] rfl (o1 c1) ?_
      refine hX_goM 2 (bif gCmp .ne (h1.1 (Int32.toNatClampNeg x0)) x1 then 32 else 28) [some (.ref 57), some (.int x0), some (.int x1)] [] rfl ?_
      refine hX_if (gCmp .ne (h1.1 (Int32.toNatClampNeg x0)) x1) (fun c3 => ?_) (fun c3 => ?_)
      · skip
        refine hX_goM 1 (33) [some (.ref 57), some (.int x0), some (.int x1)] [.int 0] rfl ?_
        exact hX_end rfl (by unfold v_57_57; rw [c1, c2, c3]; rfl) (rfl)
      · skip
        refine hX_goM 2 (33) [some (.ref 57), some (.int x0), some (.int x1)] [.int 1] rfl ?_
        exact hX_end rfl (by unfold v_57_57; rw [c1, c2, c3]; rfl) (rfl)

theorem bz_57_57 (x0 : Int32) (x1 : Int32) (h1 : hSt) : (decide (v_57_57 x0 x1 h1 = 0) || decide (v_57_57 x0 x1 h1 = 1)) = true := by
  unfold v_57_57
  cases (gCmp .ge x0 h1.2.2)
  · cases (gCmp .eq (h1.1 (Int32.toNatClampNeg x0)) (-1))
    · cases (gCmp .ne (h1.1 (Int32.toNatClampNeg x0)) x1)
      · rfl
      · rfl
    · rfl
  · rfl

/-- UpOneSide.follows: the loop at 57 -/
def lp_119_0_57_57 (N : Nat) (y2 : Int32) (h1 : hSt) : Nat → Int32 → hB → Option (Int32 × hB)
  | 0, _, _ => none
  | n + 1, y4, d =>
    (bif gCmp .ge y4 h1.2.2 then
      some (1, d)
    else
      (bif gIn y2 8 then (bif ((gCmp .ge y4 h1.2.2) || (gIn y4 40)) then (bif gCmp .eq (v_57_57 y4 ((f_18_10_d y2 d).1) h1) 0 then
        some (0, (f_18_10_d y2 d))
      else
        (bif ((gCmp .ge (y4 + 1) h1.2.2) || (gIn (y4 + 1) 40)) then (bif gCmp .ne (v_57_57 (y4 + 1) ((f_18_10_d y2 d).2.1) h1) 0 then
          lp_119_0_57_57 N y2 h1 n (y4 + 2) (f_18_10_d y2 d)
        else
          some (0, (f_18_10_d y2 d))) else none)) else none) else none))
set_option maxRecDepth 20000 in
set_option maxHeartbeats 4000000 in
theorem lt_119_0_57_57 {LL : Nat} {xs : Nat → Int32} {D N : Nat} {b k s w : hB} {ik ex pr wd : Int32} {sn : Nat → Int64} {qu tb : Nat → Int32} {ts : Int32} {r0 : Value} {rq : hRq} {h0 h1 h2 h3 : hSt} {fi : Nat → Int32} {R : List gE} {y2 : Int32} {y3 : Int32} : ∀ (n : Nat) (y4 : Int32) (d : hB) (q : Int32 × hB), lp_119_0_57_57 N y2 h1 n y4 d = some q → hX (gO LL xs) (D + 2) zR_119 57 [some (.ref 0), some (.ref 57), some (.int y2), some (.int y3), some (.int y4)] [] (hCm b d k s w ik ex pr wd sn qu tb ts (r0, rq) h0 h1 h2 h3 fi R) (some (.int q.1)) (hCm b q.2 k s w ik ex pr wd sn qu tb ts (r0, rq) h0 h1 h2 h3 fi R) := by
  intro n
  induction n with
  | zero => intro y4 d q h; cases h
  | succ n ih =>
    intro y4 d q h
    rw [lp_119_0_57_57] at h
    refine hX_go 4 (bif gCmp .ge y4 h1.2.2 then 116 else 66) [some (.ref 0), some (.ref 57), some (.int y2), some (.int y3), some (.int y4)] [] (hCm b d k s w ik ex pr wd sn qu tb ts (r0, rq) h0 h1 h2 h3 fi R) rfl ?_
    refine hX_if (gCmp .ge y4 h1.2.2) (fun c1 => ?_) (fun c1 => ?_)
    · skip
      have h := gcT c1 h
      refine hX_goM 1 (117) [some (.ref 0), some (.ref 57), some (.int y2), some (.int y3), some (.int y4)] [.int 1] rfl ?_
      have h := Option.some.inj h; subst h
      exact hX_end rfl rfl rfl
    · skip
      have h := gcF c1 h
      refine hX_goM 3 (71) [some (.ref 0), some (.ref 57), some (.int y2), some (.int y3), some (.int y4)] [.int y2, .ref 10] rfl ?_
      revert h; refine gCondR fun g2 h => ?_
      refine hX_call (r' := zR_18) rfl (ct_18_10 y2 g2) ?_
      refine hX_go 5 (84) [some (.ref 0), some (.ref 57), some (.int y2), some (.int y3), some (.int y4)] [.int ((f_18_10_d y2 d).1), .int y4, .ref 57] (hCm b (f_18_10_d y2 d) k s w ik ex pr wd sn qu tb ts (r0, rq) h0 h1 h2 h3 fi R) rfl ?_
      revert h; refine gCondR fun g3 h => ?_
      refine hX_call (r' := zR_57) rfl (ct_57_57 y4 ((f_18_10_d y2 d).1) (fun u0 => (gImpF g3 u0))) ?_
      refine hX_goM 1 (bif gCmp .eq (v_57_57 y4 ((f_18_10_d y2 d).1) h1) 0 then 108 else 90) [some (.ref 0), some (.ref 57), some (.int y2), some (.int y3), some (.int y4)] [] rfl ?_
      refine hX_if (gCmp .eq (v_57_57 y4 ((f_18_10_d y2 d).1) h1) 0) (fun c4 => ?_) (fun c4 => ?_)
      · skip
        have h := gcT c4 h
        refine hX_goM 1 (109) [some (.ref 0), some (.ref 57), some (.int y2), some (.int y3), some (.int y4)] [.int 0] rfl ?_
        have h := Option.some.inj h; subst h
        exact hX_end rfl rfl rfl
      · skip
        have h := gcF c4 h
        refine hX_goM 7 (102) [some (.ref 0), some (.ref 57), some (.int y2), some (.int y3), some (.int y4)] [.int ((f_18_10_d y2 d).2.1), .int (y4 + 1), .ref 57] rfl ?_
        revert h; refine gCondR fun g5 h => ?_
        refine hX_call (r' := zR_57) rfl (ct_57_57 (y4 + 1) ((f_18_10_d y2 d).2.1) (fun u0 => (gImpF g5 u0))) ?_
        refine hX_goM 1 (bif gCmp .ne (v_57_57 (y4 + 1) ((f_18_10_d y2 d).2.1) h1) 0 then 110 else 108) [some (.ref 0), some (.ref 57), some (.int y2), some (.int y3), some (.int y4)] [] rfl ?_
        refine hX_if (gCmp .ne (v_57_57 (y4 + 1) ((f_18_10_d y2 d).2.1) h1) 0) (fun c6 => ?_) (fun c6 => ?_)
        · skip
          have h := gcT c6 h
          refine hX_goM 2 (57) [some (.ref 0), some (.ref 57), some (.int y2), some (.int y3), some (.int (y4 + 2))] [] rfl ?_
          exact ih (y4 + 2) (f_18_10_d y2 d) q h
        · skip
          have h := gcF c6 h
          refine hX_goM 1 (109) [some (.ref 0), some (.ref 57), some (.int y2), some (.int y3), some (.int y4)] [.int 0] rfl ?_
          have h := Option.some.inj h; subst h
          exact hX_end rfl rfl rfl

/-- UpOneSide.follows(LUpOneSide$Sheet;II)Z -/
def me_119_0_57 (N : Nat) (x0 : Int32) (x1 : Int32) (b : hB) (d : hB) (h1 : hSt) : Option (Int32 × hB) :=
  lp_119_0_57_57 N x0 h1 N 0 (b.1, b.2.1, d.2.2.1, d.2.2.2.1, d.2.2.2.2.1, d.2.2.2.2.2.1, d.2.2.2.2.2.2.1, d.2.2.2.2.2.2.2.1, upd (upd d.2.2.2.2.2.2.2.2.1 1 (x1 / 10)) 2 (x1 - x1 / 10 * 10), d.2.2.2.2.2.2.2.2.2)
set_option maxRecDepth 20000 in
set_option maxHeartbeats 4000000 in
theorem mt_119_0_57 {LL : Nat} {xs : Nat → Int32} {D : Nat} {b d k s w : hB} {ik ex pr wd : Int32} {sn : Nat → Int64} {qu tb : Nat → Int32} {ts : Int32} {r0 : Value} {rq : hRq} {h0 h1 h2 h3 : hSt} {fi : Nat → Int32} {R : List gE} (N : Nat) (x0 : Int32) (x1 : Int32) (q : Int32 × hB) (h : me_119_0_57 N x0 x1 b d h1 = some q) : hM (gO LL xs) (D + 2) zR_119 [.ref 0, .ref 57, .int x0, .int x1] (hCm b d k s w ik ex pr wd sn qu tb ts (r0, rq) h0 h1 h2 h3 fi R) (some (.int q.1)) (hCm b q.2 k s w ik ex pr wd sn qu tb ts (r0, rq) h0 h1 h2 h3 fi R) := by
  unfold me_119_0_57 at h
  refine hX_go 0 0 [some (.ref 0), some (.ref 57), some (.int x0), some (.int x1), none] [] (hCm b d k s w ik ex pr wd sn qu tb ts (r0, rq) h0 h1 h2 h3 fi R) rfl ?_
  refine hX_go 9 (19) [some (.ref 0), some (.ref 57), some (.int x0), some (.int x1), none] [.ref 0, .ref 10] (hCm b (b.1, d.2) k s w ik ex pr wd sn qu tb ts (r0, rq) h0 h1 h2 h3 fi R) rfl ?_
  refine hX_go 9 (39) [some (.ref 0), some (.ref 57), some (.int x0), some (.int x1), none] [.int 10, .int x1, .int 1, .ref 14] (hCm b (b.1, b.2.1, d.2.2) k s w ik ex pr wd sn qu tb ts (r0, rq) h0 h1 h2 h3 fi R) rfl ?_
  refine hX_go 9 (53) [some (.ref 0), some (.ref 57), some (.int x0), some (.int x1), none] [.int (x1 - x1 / 10 * 10), .int 2, .ref 14] (hCm b (b.1, b.2.1, d.2.2.1, d.2.2.2.1, d.2.2.2.2.1, d.2.2.2.2.2.1, d.2.2.2.2.2.2.1, d.2.2.2.2.2.2.2.1, upd d.2.2.2.2.2.2.2.2.1 1 (x1 / 10), d.2.2.2.2.2.2.2.2.2) k s w ik ex pr wd sn qu tb ts (r0, rq) h0 h1 h2 h3 fi R) rfl ?_
  refine hX_go 3 (57) [some (.ref 0), some (.ref 57), some (.int x0), some (.int x1), some (.int 0)] [] (hCm b (b.1, b.2.1, d.2.2.1, d.2.2.2.1, d.2.2.2.2.1, d.2.2.2.2.2.1, d.2.2.2.2.2.2.1, d.2.2.2.2.2.2.2.1, upd (upd d.2.2.2.2.2.2.2.2.1 1 (x1 / 10)) 2 (x1 - x1 / 10 * 10), d.2.2.2.2.2.2.2.2.2) k s w ik ex pr wd sn qu tb ts (r0, rq) h0 h1 h2 h3 fi R) rfl ?_
  exact lt_119_0_57_57 N 0 (b.1, b.2.1, d.2.2.1, d.2.2.2.1, d.2.2.2.2.1, d.2.2.2.2.2.1, d.2.2.2.2.2.2.1, d.2.2.2.2.2.2.2.1, upd (upd d.2.2.2.2.2.2.2.2.1 1 (x1 / 10)) 2 (x1 - x1 / 10 * 10), d.2.2.2.2.2.2.2.2.2) q h

/-- UpOneSide$Sheet.isMissing()Z -/
def v_53_59 (h2 : hSt) : Int32 := bif gCmp .ne h2.2.1 0 then 0 else 1
set_option maxRecDepth 20000 in
set_option maxHeartbeats 1000000 in
theorem ct_53_59 {LL : Nat} {xs : Nat → Int32} {D : Nat} {b d k s w : hB} {ik ex pr wd : Int32} {sn : Nat → Int64} {qu tb : Nat → Int32} {ts : Int32} {r0 : Value} {rq : hRq} {h0 h1 h2 h3 : hSt} {fi : Nat → Int32} {R : List gE} : hM (gO LL xs) (D + 0) zR_53 [.ref 59] (hCm b d k s w ik ex pr wd sn qu tb ts (r0, rq) h0 h1 h2 h3 fi R) (some (.int (v_53_59 h2))) (hCm b d k s w ik ex pr wd sn qu tb ts (r0, rq) h0 h1 h2 h3 fi R) := by
  refine hX_go 0 0 [some (.ref 59)] [] (hCm b d k s w ik ex pr wd sn qu tb ts (r0, rq) h0 h1 h2 h3 fi R) rfl ?_
  refine hX_go 3 (bif gCmp .ne h2.2.1 0 then 11 else 7) [some (.ref 59)] [] (hCm b d k s w ik ex pr wd sn qu tb ts (r0, rq) h0 h1 h2 h3 fi R) rfl ?_
  refine hX_if (gCmp .ne h2.2.1 0) (fun c1 => ?_) (fun c1 => ?_)
  · skip
    refine hX_goM 1 (12) [some (.ref 59)] [.int 0] rfl ?_
    exact hX_end rfl (by unfold v_53_59; rw [c1]; rfl) (rfl)
  · skip
    refine hX_goM 2 (12) [some (.ref 59)] [.int 1] rfl ?_
    exact hX_end rfl (by unfold v_53_59; rw [c1]; rfl) (rfl)

theorem bz_53_59 (h2 : hSt) : (decide (v_53_59 h2 = 0) || decide (v_53_59 h2 = 1)) = true := by
  unfold v_53_59
  cases (gCmp .ne h2.2.1 0)
  · rfl
  · rfl

/-- UpOneSide$Sheet.allows(II)Z -/
def v_57_59 (x0 : Int32) (x1 : Int32) (h2 : hSt) : Int32 := bif gCmp .ge x0 h2.2.2 then 1 else (bif gCmp .eq (h2.1 (Int32.toNatClampNeg x0)) (-1) then 1 else (bif gCmp .ne (h2.1 (Int32.toNatClampNeg x0)) x1 then 0 else 1))
set_option maxRecDepth 20000 in
set_option maxHeartbeats 1000000 in
theorem ct_57_59 {LL : Nat} {xs : Nat → Int32} {D : Nat} {b d k s w : hB} {ik ex pr wd : Int32} {sn : Nat → Int64} {qu tb : Nat → Int32} {ts : Int32} {r0 : Value} {rq : hRq} {h0 h1 h2 h3 : hSt} {fi : Nat → Int32} {R : List gE} (x0 : Int32) (x1 : Int32) (o1 : gCmp .ge x0 h2.2.2 = false → gIn x0 40 = true) : hM (gO LL xs) (D + 0) zR_57 [.ref 59, .int x0, .int x1] (hCm b d k s w ik ex pr wd sn qu tb ts (r0, rq) h0 h1 h2 h3 fi R) (some (.int (v_57_59 x0 x1 h2))) (hCm b d k s w ik ex pr wd sn qu tb ts (r0, rq) h0 h1 h2 h3 fi R) := by
  refine hX_go 0 0 [some (.ref 59), some (.int x0), some (.int x1)] [] (hCm b d k s w ik ex pr wd sn qu tb ts (r0, rq) h0 h1 h2 h3 fi R) rfl ?_
  refine hX_go 4 (bif gCmp .ge x0 h2.2.2 then 28 else 8) [some (.ref 59), some (.int x0), some (.int x1)] [] (hCm b d k s w ik ex pr wd sn qu tb ts (r0, rq) h0 h1 h2 h3 fi R) rfl ?_
  refine hX_if (gCmp .ge x0 h2.2.2) (fun c1 => ?_) (fun c1 => ?_)
  · skip
    refine hX_goM 2 (33) [some (.ref 59), some (.int x0), some (.int x1)] [.int 1] rfl ?_
    exact hX_end rfl (by unfold v_57_59; rw [c1]; rfl) (rfl)
  · skip
    refine hX_goM 3 (13) [some (.ref 59), some (.int x0), some (.int x1)] [.int x0, .ref 60] rfl ?_
    refine hX_gM (gIn x0 40) 14 [some (.ref 59), some (.int x0), some (.int x1)] [.int (h2.1 (Int32.toNatClampNeg x0))] rfl (o1 c1) ?_
    refine hX_goM 2 (bif gCmp .eq (h2.1 (Int32.toNatClampNeg x0)) (-1) then 28 else 18) [some (.ref 59), some (.int x0), some (.int x1)] [] rfl ?_
    refine hX_if (gCmp .eq (h2.1 (Int32.toNatClampNeg x0)) (-1)) (fun c2 => ?_) (fun c2 => ?_)
    · skip
      refine hX_goM 2 (33) [some (.ref 59), some (.int x0), some (.int x1)] [.int 1] rfl ?_
      exact hX_end rfl (by unfold v_57_59; rw [c1, c2]; rfl) (rfl)
    · skip
      refine hX_goM 3 (23) [some (.ref 59), some (.int x0), some (.int x1)] [.int x0, .ref 60] rfl ?_
      refine hX_gM (gIn x0 40) 24 [some (.ref 59), some (.int x0), some (.int x1)] [.int (h2.1 (Int32.toNatClampNeg x0))] rfl (o1 c1) ?_
      refine hX_goM 2 (bif gCmp .ne (h2.1 (Int32.toNatClampNeg x0)) x1 then 32 else 28) [some (.ref 59), some (.int x0), some (.int x1)] [] rfl ?_
      refine hX_if (gCmp .ne (h2.1 (Int32.toNatClampNeg x0)) x1) (fun c3 => ?_) (fun c3 => ?_)
      · skip
        refine hX_goM 1 (33) [some (.ref 59), some (.int x0), some (.int x1)] [.int 0] rfl ?_
        exact hX_end rfl (by unfold v_57_59; rw [c1, c2, c3]; rfl) (rfl)
      · skip
        refine hX_goM 2 (33) [some (.ref 59), some (.int x0), some (.int x1)] [.int 1] rfl ?_
        exact hX_end rfl (by unfold v_57_59; rw [c1, c2, c3]; rfl) (rfl)

theorem bz_57_59 (x0 : Int32) (x1 : Int32) (h2 : hSt) : (decide (v_57_59 x0 x1 h2 = 0) || decide (v_57_59 x0 x1 h2 = 1)) = true := by
  unfold v_57_59
  cases (gCmp .ge x0 h2.2.2)
  · cases (gCmp .eq (h2.1 (Int32.toNatClampNeg x0)) (-1))
    · cases (gCmp .ne (h2.1 (Int32.toNatClampNeg x0)) x1)
      · rfl
      · rfl
    · rfl
  · rfl

/-- UpOneSide.follows: the loop at 57 -/
def lp_119_0_59_57 (N : Nat) (y2 : Int32) (h2 : hSt) : Nat → Int32 → hB → Option (Int32 × hB)
  | 0, _, _ => none
  | n + 1, y4, d =>
    (bif gCmp .ge y4 h2.2.2 then
      some (1, d)
    else
      (bif gIn y2 8 then (bif ((gCmp .ge y4 h2.2.2) || (gIn y4 40)) then (bif gCmp .eq (v_57_59 y4 ((f_18_10_d y2 d).1) h2) 0 then
        some (0, (f_18_10_d y2 d))
      else
        (bif ((gCmp .ge (y4 + 1) h2.2.2) || (gIn (y4 + 1) 40)) then (bif gCmp .ne (v_57_59 (y4 + 1) ((f_18_10_d y2 d).2.1) h2) 0 then
          lp_119_0_59_57 N y2 h2 n (y4 + 2) (f_18_10_d y2 d)
        else
          some (0, (f_18_10_d y2 d))) else none)) else none) else none))
set_option maxRecDepth 20000 in
set_option maxHeartbeats 4000000 in
theorem lt_119_0_59_57 {LL : Nat} {xs : Nat → Int32} {D N : Nat} {b k s w : hB} {ik ex pr wd : Int32} {sn : Nat → Int64} {qu tb : Nat → Int32} {ts : Int32} {r0 : Value} {rq : hRq} {h0 h1 h2 h3 : hSt} {fi : Nat → Int32} {R : List gE} {y2 : Int32} {y3 : Int32} : ∀ (n : Nat) (y4 : Int32) (d : hB) (q : Int32 × hB), lp_119_0_59_57 N y2 h2 n y4 d = some q → hX (gO LL xs) (D + 2) zR_119 57 [some (.ref 0), some (.ref 59), some (.int y2), some (.int y3), some (.int y4)] [] (hCm b d k s w ik ex pr wd sn qu tb ts (r0, rq) h0 h1 h2 h3 fi R) (some (.int q.1)) (hCm b q.2 k s w ik ex pr wd sn qu tb ts (r0, rq) h0 h1 h2 h3 fi R) := by
  intro n
  induction n with
  | zero => intro y4 d q h; cases h
  | succ n ih =>
    intro y4 d q h
    rw [lp_119_0_59_57] at h
    refine hX_go 4 (bif gCmp .ge y4 h2.2.2 then 116 else 66) [some (.ref 0), some (.ref 59), some (.int y2), some (.int y3), some (.int y4)] [] (hCm b d k s w ik ex pr wd sn qu tb ts (r0, rq) h0 h1 h2 h3 fi R) rfl ?_
    refine hX_if (gCmp .ge y4 h2.2.2) (fun c1 => ?_) (fun c1 => ?_)
    · skip
      have h := gcT c1 h
      refine hX_goM 1 (117) [some (.ref 0), some (.ref 59), some (.int y2), some (.int y3), some (.int y4)] [.int 1] rfl ?_
      have h := Option.some.inj h; subst h
      exact hX_end rfl rfl rfl
    · skip
      have h := gcF c1 h
      refine hX_goM 3 (71) [some (.ref 0), some (.ref 59), some (.int y2), some (.int y3), some (.int y4)] [.int y2, .ref 10] rfl ?_
      revert h; refine gCondR fun g2 h => ?_
      refine hX_call (r' := zR_18) rfl (ct_18_10 y2 g2) ?_
      refine hX_go 5 (84) [some (.ref 0), some (.ref 59), some (.int y2), some (.int y3), some (.int y4)] [.int ((f_18_10_d y2 d).1), .int y4, .ref 59] (hCm b (f_18_10_d y2 d) k s w ik ex pr wd sn qu tb ts (r0, rq) h0 h1 h2 h3 fi R) rfl ?_
      revert h; refine gCondR fun g3 h => ?_
      refine hX_call (r' := zR_57) rfl (ct_57_59 y4 ((f_18_10_d y2 d).1) (fun u0 => (gImpF g3 u0))) ?_
      refine hX_goM 1 (bif gCmp .eq (v_57_59 y4 ((f_18_10_d y2 d).1) h2) 0 then 108 else 90) [some (.ref 0), some (.ref 59), some (.int y2), some (.int y3), some (.int y4)] [] rfl ?_
      refine hX_if (gCmp .eq (v_57_59 y4 ((f_18_10_d y2 d).1) h2) 0) (fun c4 => ?_) (fun c4 => ?_)
      · skip
        have h := gcT c4 h
        refine hX_goM 1 (109) [some (.ref 0), some (.ref 59), some (.int y2), some (.int y3), some (.int y4)] [.int 0] rfl ?_
        have h := Option.some.inj h; subst h
        exact hX_end rfl rfl rfl
      · skip
        have h := gcF c4 h
        refine hX_goM 7 (102) [some (.ref 0), some (.ref 59), some (.int y2), some (.int y3), some (.int y4)] [.int ((f_18_10_d y2 d).2.1), .int (y4 + 1), .ref 59] rfl ?_
        revert h; refine gCondR fun g5 h => ?_
        refine hX_call (r' := zR_57) rfl (ct_57_59 (y4 + 1) ((f_18_10_d y2 d).2.1) (fun u0 => (gImpF g5 u0))) ?_
        refine hX_goM 1 (bif gCmp .ne (v_57_59 (y4 + 1) ((f_18_10_d y2 d).2.1) h2) 0 then 110 else 108) [some (.ref 0), some (.ref 59), some (.int y2), some (.int y3), some (.int y4)] [] rfl ?_
        refine hX_if (gCmp .ne (v_57_59 (y4 + 1) ((f_18_10_d y2 d).2.1) h2) 0) (fun c6 => ?_) (fun c6 => ?_)
        · skip
          have h := gcT c6 h
          refine hX_goM 2 (57) [some (.ref 0), some (.ref 59), some (.int y2), some (.int y3), some (.int (y4 + 2))] [] rfl ?_
          exact ih (y4 + 2) (f_18_10_d y2 d) q h
        · skip
          have h := gcF c6 h
          refine hX_goM 1 (109) [some (.ref 0), some (.ref 59), some (.int y2), some (.int y3), some (.int y4)] [.int 0] rfl ?_
          have h := Option.some.inj h; subst h
          exact hX_end rfl rfl rfl

/-- UpOneSide.follows(LUpOneSide$Sheet;II)Z -/
def me_119_0_59 (N : Nat) (x0 : Int32) (x1 : Int32) (b : hB) (d : hB) (h2 : hSt) : Option (Int32 × hB) :=
  lp_119_0_59_57 N x0 h2 N 0 (b.1, b.2.1, d.2.2.1, d.2.2.2.1, d.2.2.2.2.1, d.2.2.2.2.2.1, d.2.2.2.2.2.2.1, d.2.2.2.2.2.2.2.1, upd (upd d.2.2.2.2.2.2.2.2.1 1 (x1 / 10)) 2 (x1 - x1 / 10 * 10), d.2.2.2.2.2.2.2.2.2)
set_option maxRecDepth 20000 in
set_option maxHeartbeats 4000000 in
theorem mt_119_0_59 {LL : Nat} {xs : Nat → Int32} {D : Nat} {b d k s w : hB} {ik ex pr wd : Int32} {sn : Nat → Int64} {qu tb : Nat → Int32} {ts : Int32} {r0 : Value} {rq : hRq} {h0 h1 h2 h3 : hSt} {fi : Nat → Int32} {R : List gE} (N : Nat) (x0 : Int32) (x1 : Int32) (q : Int32 × hB) (h : me_119_0_59 N x0 x1 b d h2 = some q) : hM (gO LL xs) (D + 2) zR_119 [.ref 0, .ref 59, .int x0, .int x1] (hCm b d k s w ik ex pr wd sn qu tb ts (r0, rq) h0 h1 h2 h3 fi R) (some (.int q.1)) (hCm b q.2 k s w ik ex pr wd sn qu tb ts (r0, rq) h0 h1 h2 h3 fi R) := by
  unfold me_119_0_59 at h
  refine hX_go 0 0 [some (.ref 0), some (.ref 59), some (.int x0), some (.int x1), none] [] (hCm b d k s w ik ex pr wd sn qu tb ts (r0, rq) h0 h1 h2 h3 fi R) rfl ?_
  refine hX_go 9 (19) [some (.ref 0), some (.ref 59), some (.int x0), some (.int x1), none] [.ref 0, .ref 10] (hCm b (b.1, d.2) k s w ik ex pr wd sn qu tb ts (r0, rq) h0 h1 h2 h3 fi R) rfl ?_
  refine hX_go 9 (39) [some (.ref 0), some (.ref 59), some (.int x0), some (.int x1), none] [.int 10, .int x1, .int 1, .ref 14] (hCm b (b.1, b.2.1, d.2.2) k s w ik ex pr wd sn qu tb ts (r0, rq) h0 h1 h2 h3 fi R) rfl ?_
  refine hX_go 9 (53) [some (.ref 0), some (.ref 59), some (.int x0), some (.int x1), none] [.int (x1 - x1 / 10 * 10), .int 2, .ref 14] (hCm b (b.1, b.2.1, d.2.2.1, d.2.2.2.1, d.2.2.2.2.1, d.2.2.2.2.2.1, d.2.2.2.2.2.2.1, d.2.2.2.2.2.2.2.1, upd d.2.2.2.2.2.2.2.2.1 1 (x1 / 10), d.2.2.2.2.2.2.2.2.2) k s w ik ex pr wd sn qu tb ts (r0, rq) h0 h1 h2 h3 fi R) rfl ?_
  refine hX_go 3 (57) [some (.ref 0), some (.ref 59), some (.int x0), some (.int x1), some (.int 0)] [] (hCm b (b.1, b.2.1, d.2.2.1, d.2.2.2.1, d.2.2.2.2.1, d.2.2.2.2.2.1, d.2.2.2.2.2.2.1, d.2.2.2.2.2.2.2.1, upd (upd d.2.2.2.2.2.2.2.2.1 1 (x1 / 10)) 2 (x1 - x1 / 10 * 10), d.2.2.2.2.2.2.2.2.2) k s w ik ex pr wd sn qu tb ts (r0, rq) h0 h1 h2 h3 fi R) rfl ?_
  exact lt_119_0_59_57 N 0 (b.1, b.2.1, d.2.2.1, d.2.2.2.1, d.2.2.2.2.1, d.2.2.2.2.2.1, d.2.2.2.2.2.2.1, d.2.2.2.2.2.2.2.1, upd (upd d.2.2.2.2.2.2.2.2.1 1 (x1 / 10)) 2 (x1 - x1 / 10 * 10), d.2.2.2.2.2.2.2.2.2) q h

/-- UpOneSide$Sheet.isMissing()Z -/
def v_53_61 (h3 : hSt) : Int32 := bif gCmp .ne h3.2.1 0 then 0 else 1
set_option maxRecDepth 20000 in
set_option maxHeartbeats 1000000 in
theorem ct_53_61 {LL : Nat} {xs : Nat → Int32} {D : Nat} {b d k s w : hB} {ik ex pr wd : Int32} {sn : Nat → Int64} {qu tb : Nat → Int32} {ts : Int32} {r0 : Value} {rq : hRq} {h0 h1 h2 h3 : hSt} {fi : Nat → Int32} {R : List gE} : hM (gO LL xs) (D + 0) zR_53 [.ref 61] (hCm b d k s w ik ex pr wd sn qu tb ts (r0, rq) h0 h1 h2 h3 fi R) (some (.int (v_53_61 h3))) (hCm b d k s w ik ex pr wd sn qu tb ts (r0, rq) h0 h1 h2 h3 fi R) := by
  refine hX_go 0 0 [some (.ref 61)] [] (hCm b d k s w ik ex pr wd sn qu tb ts (r0, rq) h0 h1 h2 h3 fi R) rfl ?_
  refine hX_go 3 (bif gCmp .ne h3.2.1 0 then 11 else 7) [some (.ref 61)] [] (hCm b d k s w ik ex pr wd sn qu tb ts (r0, rq) h0 h1 h2 h3 fi R) rfl ?_
  refine hX_if (gCmp .ne h3.2.1 0) (fun c1 => ?_) (fun c1 => ?_)
  · skip
    refine hX_goM 1 (12) [some (.ref 61)] [.int 0] rfl ?_
    exact hX_end rfl (by unfold v_53_61; rw [c1]; rfl) (rfl)
  · skip
    refine hX_goM 2 (12) [some (.ref 61)] [.int 1] rfl ?_
    exact hX_end rfl (by unfold v_53_61; rw [c1]; rfl) (rfl)

theorem bz_53_61 (h3 : hSt) : (decide (v_53_61 h3 = 0) || decide (v_53_61 h3 = 1)) = true := by
  unfold v_53_61
  cases (gCmp .ne h3.2.1 0)
  · rfl
  · rfl

/-- UpOneSide$Sheet.allows(II)Z -/
def v_57_61 (x0 : Int32) (x1 : Int32) (h3 : hSt) : Int32 := bif gCmp .ge x0 h3.2.2 then 1 else (bif gCmp .eq (h3.1 (Int32.toNatClampNeg x0)) (-1) then 1 else (bif gCmp .ne (h3.1 (Int32.toNatClampNeg x0)) x1 then 0 else 1))
set_option maxRecDepth 20000 in
set_option maxHeartbeats 1000000 in
theorem ct_57_61 {LL : Nat} {xs : Nat → Int32} {D : Nat} {b d k s w : hB} {ik ex pr wd : Int32} {sn : Nat → Int64} {qu tb : Nat → Int32} {ts : Int32} {r0 : Value} {rq : hRq} {h0 h1 h2 h3 : hSt} {fi : Nat → Int32} {R : List gE} (x0 : Int32) (x1 : Int32) (o1 : gCmp .ge x0 h3.2.2 = false → gIn x0 40 = true) : hM (gO LL xs) (D + 0) zR_57 [.ref 61, .int x0, .int x1] (hCm b d k s w ik ex pr wd sn qu tb ts (r0, rq) h0 h1 h2 h3 fi R) (some (.int (v_57_61 x0 x1 h3))) (hCm b d k s w ik ex pr wd sn qu tb ts (r0, rq) h0 h1 h2 h3 fi R) := by
  refine hX_go 0 0 [some (.ref 61), some (.int x0), some (.int x1)] [] (hCm b d k s w ik ex pr wd sn qu tb ts (r0, rq) h0 h1 h2 h3 fi R) rfl ?_
  refine hX_go 4 (bif gCmp .ge x0 h3.2.2 then 28 else 8) [some (.ref 61), some (.int x0), some (.int x1)] [] (hCm b d k s w ik ex pr wd sn qu tb ts (r0, rq) h0 h1 h2 h3 fi R) rfl ?_
  refine hX_if (gCmp .ge x0 h3.2.2) (fun c1 => ?_) (fun c1 => ?_)
  · skip
    refine hX_goM 2 (33) [some (.ref 61), some (.int x0), some (.int x1)] [.int 1] rfl ?_
    exact hX_end rfl (by unfold v_57_61; rw [c1]; rfl) (rfl)
  · skip
    refine hX_goM 3 (13) [some (.ref 61), some (.int x0), some (.int x1)] [.int x0, .ref 62] rfl ?_
    refine hX_gM (gIn x0 40) 14 [some (.ref 61), some (.int x0), some (.int x1)] [.int (h3.1 (Int32.toNatClampNeg x0))] rfl (o1 c1) ?_
    refine hX_goM 2 (bif gCmp .eq (h3.1 (Int32.toNatClampNeg x0)) (-1) then 28 else 18) [some (.ref 61), some (.int x0), some (.int x1)] [] rfl ?_
    refine hX_if (gCmp .eq (h3.1 (Int32.toNatClampNeg x0)) (-1)) (fun c2 => ?_) (fun c2 => ?_)
    · skip
      refine hX_goM 2 (33) [some (.ref 61), some (.int x0), some (.int x1)] [.int 1] rfl ?_
      exact hX_end rfl (by unfold v_57_61; rw [c1, c2]; rfl) (rfl)
    · skip
      refine hX_goM 3 (23) [some (.ref 61), some (.int x0), some (.int x1)] [.int x0, .ref 62] rfl ?_
      refine hX_gM (gIn x0 40) 24 [some (.ref 61), some (.int x0), some (.int x1)] [.int (h3.1 (Int32.toNatClampNeg x0))] rfl (o1 c1) ?_
      refine hX_goM 2 (bif gCmp .ne (h3.1 (Int32.toNatClampNeg x0)) x1 then 32 else 28) [some (.ref 61), some (.int x0), some (.int x1)] [] rfl ?_
      refine hX_if (gCmp .ne (h3.1 (Int32.toNatClampNeg x0)) x1) (fun c3 => ?_) (fun c3 => ?_)
      · skip
        refine hX_goM 1 (33) [some (.ref 61), some (.int x0), some (.int x1)] [.int 0] rfl ?_
        exact hX_end rfl (by unfold v_57_61; rw [c1, c2, c3]; rfl) (rfl)
      · skip
        refine hX_goM 2 (33) [some (.ref 61), some (.int x0), some (.int x1)] [.int 1] rfl ?_
        exact hX_end rfl (by unfold v_57_61; rw [c1, c2, c3]; rfl) (rfl)

theorem bz_57_61 (x0 : Int32) (x1 : Int32) (h3 : hSt) : (decide (v_57_61 x0 x1 h3 = 0) || decide (v_57_61 x0 x1 h3 = 1)) = true := by
  unfold v_57_61
  cases (gCmp .ge x0 h3.2.2)
  · cases (gCmp .eq (h3.1 (Int32.toNatClampNeg x0)) (-1))
    · cases (gCmp .ne (h3.1 (Int32.toNatClampNeg x0)) x1)
      · rfl
      · rfl
    · rfl
  · rfl

/-- UpOneSide.follows: the loop at 57 -/
def lp_119_0_61_57 (N : Nat) (y2 : Int32) (h3 : hSt) : Nat → Int32 → hB → Option (Int32 × hB)
  | 0, _, _ => none
  | n + 1, y4, d =>
    (bif gCmp .ge y4 h3.2.2 then
      some (1, d)
    else
      (bif gIn y2 8 then (bif ((gCmp .ge y4 h3.2.2) || (gIn y4 40)) then (bif gCmp .eq (v_57_61 y4 ((f_18_10_d y2 d).1) h3) 0 then
        some (0, (f_18_10_d y2 d))
      else
        (bif ((gCmp .ge (y4 + 1) h3.2.2) || (gIn (y4 + 1) 40)) then (bif gCmp .ne (v_57_61 (y4 + 1) ((f_18_10_d y2 d).2.1) h3) 0 then
          lp_119_0_61_57 N y2 h3 n (y4 + 2) (f_18_10_d y2 d)
        else
          some (0, (f_18_10_d y2 d))) else none)) else none) else none))
set_option maxRecDepth 20000 in
set_option maxHeartbeats 4000000 in
theorem lt_119_0_61_57 {LL : Nat} {xs : Nat → Int32} {D N : Nat} {b k s w : hB} {ik ex pr wd : Int32} {sn : Nat → Int64} {qu tb : Nat → Int32} {ts : Int32} {r0 : Value} {rq : hRq} {h0 h1 h2 h3 : hSt} {fi : Nat → Int32} {R : List gE} {y2 : Int32} {y3 : Int32} : ∀ (n : Nat) (y4 : Int32) (d : hB) (q : Int32 × hB), lp_119_0_61_57 N y2 h3 n y4 d = some q → hX (gO LL xs) (D + 2) zR_119 57 [some (.ref 0), some (.ref 61), some (.int y2), some (.int y3), some (.int y4)] [] (hCm b d k s w ik ex pr wd sn qu tb ts (r0, rq) h0 h1 h2 h3 fi R) (some (.int q.1)) (hCm b q.2 k s w ik ex pr wd sn qu tb ts (r0, rq) h0 h1 h2 h3 fi R) := by
  intro n
  induction n with
  | zero => intro y4 d q h; cases h
  | succ n ih =>
    intro y4 d q h
    rw [lp_119_0_61_57] at h
    refine hX_go 4 (bif gCmp .ge y4 h3.2.2 then 116 else 66) [some (.ref 0), some (.ref 61), some (.int y2), some (.int y3), some (.int y4)] [] (hCm b d k s w ik ex pr wd sn qu tb ts (r0, rq) h0 h1 h2 h3 fi R) rfl ?_
    refine hX_if (gCmp .ge y4 h3.2.2) (fun c1 => ?_) (fun c1 => ?_)
    · skip
      have h := gcT c1 h
      refine hX_goM 1 (117) [some (.ref 0), some (.ref 61), some (.int y2), some (.int y3), some (.int y4)] [.int 1] rfl ?_
      have h := Option.some.inj h; subst h
      exact hX_end rfl rfl rfl
    · skip
      have h := gcF c1 h
      refine hX_goM 3 (71) [some (.ref 0), some (.ref 61), some (.int y2), some (.int y3), some (.int y4)] [.int y2, .ref 10] rfl ?_
      revert h; refine gCondR fun g2 h => ?_
      refine hX_call (r' := zR_18) rfl (ct_18_10 y2 g2) ?_
      refine hX_go 5 (84) [some (.ref 0), some (.ref 61), some (.int y2), some (.int y3), some (.int y4)] [.int ((f_18_10_d y2 d).1), .int y4, .ref 61] (hCm b (f_18_10_d y2 d) k s w ik ex pr wd sn qu tb ts (r0, rq) h0 h1 h2 h3 fi R) rfl ?_
      revert h; refine gCondR fun g3 h => ?_
      refine hX_call (r' := zR_57) rfl (ct_57_61 y4 ((f_18_10_d y2 d).1) (fun u0 => (gImpF g3 u0))) ?_
      refine hX_goM 1 (bif gCmp .eq (v_57_61 y4 ((f_18_10_d y2 d).1) h3) 0 then 108 else 90) [some (.ref 0), some (.ref 61), some (.int y2), some (.int y3), some (.int y4)] [] rfl ?_
      refine hX_if (gCmp .eq (v_57_61 y4 ((f_18_10_d y2 d).1) h3) 0) (fun c4 => ?_) (fun c4 => ?_)
      · skip
        have h := gcT c4 h
        refine hX_goM 1 (109) [some (.ref 0), some (.ref 61), some (.int y2), some (.int y3), some (.int y4)] [.int 0] rfl ?_
        have h := Option.some.inj h; subst h
        exact hX_end rfl rfl rfl
      · skip
        have h := gcF c4 h
        refine hX_goM 7 (102) [some (.ref 0), some (.ref 61), some (.int y2), some (.int y3), some (.int y4)] [.int ((f_18_10_d y2 d).2.1), .int (y4 + 1), .ref 61] rfl ?_
        revert h; refine gCondR fun g5 h => ?_
        refine hX_call (r' := zR_57) rfl (ct_57_61 (y4 + 1) ((f_18_10_d y2 d).2.1) (fun u0 => (gImpF g5 u0))) ?_
        refine hX_goM 1 (bif gCmp .ne (v_57_61 (y4 + 1) ((f_18_10_d y2 d).2.1) h3) 0 then 110 else 108) [some (.ref 0), some (.ref 61), some (.int y2), some (.int y3), some (.int y4)] [] rfl ?_
        refine hX_if (gCmp .ne (v_57_61 (y4 + 1) ((f_18_10_d y2 d).2.1) h3) 0) (fun c6 => ?_) (fun c6 => ?_)
        · skip
          have h := gcT c6 h
          refine hX_goM 2 (57) [some (.ref 0), some (.ref 61), some (.int y2), some (.int y3), some (.int (y4 + 2))] [] rfl ?_
          exact ih (y4 + 2) (f_18_10_d y2 d) q h
        · skip
          have h := gcF c6 h
          refine hX_goM 1 (109) [some (.ref 0), some (.ref 61), some (.int y2), some (.int y3), some (.int y4)] [.int 0] rfl ?_
          have h := Option.some.inj h; subst h
          exact hX_end rfl rfl rfl

/-- UpOneSide.follows(LUpOneSide$Sheet;II)Z -/
def me_119_0_61 (N : Nat) (x0 : Int32) (x1 : Int32) (b : hB) (d : hB) (h3 : hSt) : Option (Int32 × hB) :=
  lp_119_0_61_57 N x0 h3 N 0 (b.1, b.2.1, d.2.2.1, d.2.2.2.1, d.2.2.2.2.1, d.2.2.2.2.2.1, d.2.2.2.2.2.2.1, d.2.2.2.2.2.2.2.1, upd (upd d.2.2.2.2.2.2.2.2.1 1 (x1 / 10)) 2 (x1 - x1 / 10 * 10), d.2.2.2.2.2.2.2.2.2)
set_option maxRecDepth 20000 in
set_option maxHeartbeats 4000000 in
theorem mt_119_0_61 {LL : Nat} {xs : Nat → Int32} {D : Nat} {b d k s w : hB} {ik ex pr wd : Int32} {sn : Nat → Int64} {qu tb : Nat → Int32} {ts : Int32} {r0 : Value} {rq : hRq} {h0 h1 h2 h3 : hSt} {fi : Nat → Int32} {R : List gE} (N : Nat) (x0 : Int32) (x1 : Int32) (q : Int32 × hB) (h : me_119_0_61 N x0 x1 b d h3 = some q) : hM (gO LL xs) (D + 2) zR_119 [.ref 0, .ref 61, .int x0, .int x1] (hCm b d k s w ik ex pr wd sn qu tb ts (r0, rq) h0 h1 h2 h3 fi R) (some (.int q.1)) (hCm b q.2 k s w ik ex pr wd sn qu tb ts (r0, rq) h0 h1 h2 h3 fi R) := by
  unfold me_119_0_61 at h
  refine hX_go 0 0 [some (.ref 0), some (.ref 61), some (.int x0), some (.int x1), none] [] (hCm b d k s w ik ex pr wd sn qu tb ts (r0, rq) h0 h1 h2 h3 fi R) rfl ?_
  refine hX_go 9 (19) [some (.ref 0), some (.ref 61), some (.int x0), some (.int x1), none] [.ref 0, .ref 10] (hCm b (b.1, d.2) k s w ik ex pr wd sn qu tb ts (r0, rq) h0 h1 h2 h3 fi R) rfl ?_
  refine hX_go 9 (39) [some (.ref 0), some (.ref 61), some (.int x0), some (.int x1), none] [.int 10, .int x1, .int 1, .ref 14] (hCm b (b.1, b.2.1, d.2.2) k s w ik ex pr wd sn qu tb ts (r0, rq) h0 h1 h2 h3 fi R) rfl ?_
  refine hX_go 9 (53) [some (.ref 0), some (.ref 61), some (.int x0), some (.int x1), none] [.int (x1 - x1 / 10 * 10), .int 2, .ref 14] (hCm b (b.1, b.2.1, d.2.2.1, d.2.2.2.1, d.2.2.2.2.1, d.2.2.2.2.2.1, d.2.2.2.2.2.2.1, d.2.2.2.2.2.2.2.1, upd d.2.2.2.2.2.2.2.2.1 1 (x1 / 10), d.2.2.2.2.2.2.2.2.2) k s w ik ex pr wd sn qu tb ts (r0, rq) h0 h1 h2 h3 fi R) rfl ?_
  refine hX_go 3 (57) [some (.ref 0), some (.ref 61), some (.int x0), some (.int x1), some (.int 0)] [] (hCm b (b.1, b.2.1, d.2.2.1, d.2.2.2.1, d.2.2.2.2.1, d.2.2.2.2.2.1, d.2.2.2.2.2.2.1, d.2.2.2.2.2.2.2.1, upd (upd d.2.2.2.2.2.2.2.2.1 1 (x1 / 10)) 2 (x1 - x1 / 10 * 10), d.2.2.2.2.2.2.2.2.2) k s w ik ex pr wd sn qu tb ts (r0, rq) h0 h1 h2 h3 fi R) rfl ?_
  exact lt_119_0_61_57 N 0 (b.1, b.2.1, d.2.2.1, d.2.2.2.1, d.2.2.2.2.1, d.2.2.2.2.2.1, d.2.2.2.2.2.2.1, d.2.2.2.2.2.2.2.1, upd (upd d.2.2.2.2.2.2.2.2.1 1 (x1 / 10)) 2 (x1 - x1 / 10 * 10), d.2.2.2.2.2.2.2.2.2) q h

/-- UpOneSide.fits: the loop at 60 -/
def lp_92_0_60_55 (N : Nat) (y2 : Int32) (b : hB) (h0 : hSt) : Nat → Int32 → Int32 → hB → Option (Int32 × Int32 × hB)
  | 0, _, _, _ => none
  | n + 1, y4, y5, d =>
    (bif gCmp .ge y5 100 then
      some (y4, y5, d)
    else
      (Option.bind (me_119_0_55 N y2 y5 b d h0) fun q2 =>
      lp_92_0_60_55 N y2 b h0 n (bif gCmp .eq q2.1 0 then y4 else (y4 + 1)) (y5 + 1) q2.2))
set_option maxRecDepth 20000 in
set_option maxHeartbeats 4000000 in
theorem lt_92_0_60_55 {LL : Nat} {xs : Nat → Int32} {D N : Nat} {b k s w : hB} {ik ex pr wd : Int32} {sn : Nat → Int64} {qu tb : Nat → Int32} {ts : Int32} {r0 : Value} {rq : hRq} {h0 h1 h2 h3 : hSt} {fi : Nat → Int32} {R : List gE} {y1 : Int32} {y2 : Int32} {v : Option Value} {M' : List gE} : ∀ (n : Nat) (y4 : Int32) (y5 : Int32) (d : hB) (q : Int32 × Int32 × hB), lp_92_0_60_55 N y2 b h0 n y4 y5 d = some q → (kk : hX (gO LL xs) (D + 3) zR_92 87 [some (.ref 0), some (.int y1), some (.int y2), some (.ref 55), some (.int q.1), some (.int q.2.1)] [] (hCm b q.2.2 k s w ik ex pr wd sn qu tb ts (r0, rq) h0 h1 h2 h3 fi R) v M') → hX (gO LL xs) (D + 3) zR_92 60 [some (.ref 0), some (.int y1), some (.int y2), some (.ref 55), some (.int y4), some (.int y5)] [] (hCm b d k s w ik ex pr wd sn qu tb ts (r0, rq) h0 h1 h2 h3 fi R) v M' := by
  intro n
  induction n with
  | zero => intro y4 y5 d q h; cases h
  | succ n ih =>
    intro y4 y5 d q h kk
    rw [lp_92_0_60_55] at h
    refine hX_go 3 (bif gCmp .ge y5 100 then 87 else 67) [some (.ref 0), some (.int y1), some (.int y2), some (.ref 55), some (.int y4), some (.int y5)] [] (hCm b d k s w ik ex pr wd sn qu tb ts (r0, rq) h0 h1 h2 h3 fi R) rfl ?_
    refine hX_if (gCmp .ge y5 100) (fun c1 => ?_) (fun c1 => ?_)
    · skip
      have h := gcT c1 h
      have h := Option.some.inj h; subst h
      exact kk
    · skip
      have h := gcF c1 h
      refine hX_goM 4 (72) [some (.ref 0), some (.int y1), some (.int y2), some (.ref 55), some (.int y4), some (.int y5)] [.int y5, .int y2, .ref 55, .ref 0] rfl ?_
      revert h; refine gBindR fun q2 e2 h => ?_
      refine hX_call (r' := zR_119) rfl (mt_119_0_55 N y2 y5 q2 e2) ?_
      refine hX_go 1 (bif gCmp .eq q2.1 0 then 81 else 78) [some (.ref 0), some (.int y1), some (.int y2), some (.ref 55), some (.int y4), some (.int y5)] [] (hCm b q2.2 k s w ik ex pr wd sn qu tb ts (r0, rq) h0 h1 h2 h3 fi R) rfl ?_
      refine hX_mrg 81 [some (.ref 0), some (.int y1), some (.int y2), some (.ref 55), some (.int (bif gCmp .eq q2.1 0 then y4 else (y4 + 1))), some (.int y5)] [] (hCm b q2.2 k s w ik ex pr wd sn qu tb ts (r0, rq) h0 h1 h2 h3 fi R) (fun hk => ?_) ?_
      · skip
        refine hX_if (gCmp .eq q2.1 0) (fun c4 => ?_) (fun c4 => ?_)
        · skip
          have hk := hk
          simp only [c4, cond_true, cond_false] at hk
          first | exact hk | (simp only [c4, cond_true, cond_false]; exact hk)
        · skip
          refine hX_goM 1 (81) [some (.ref 0), some (.int y1), some (.int y2), some (.ref 55), some (.int (y4 + 1)), some (.int y5)] [] rfl ?_
          have hk := hk
          simp only [c4, cond_true, cond_false] at hk
          first | exact hk | (simp only [c4, cond_true, cond_false]; exact hk)
      refine hX_goM 2 (60) [some (.ref 0), some (.int y1), some (.int y2), some (.ref 55), some (.int (bif gCmp .eq q2.1 0 then y4 else (y4 + 1))), some (.int (y5 + 1))] [] rfl ?_
      exact ih (bif gCmp .eq q2.1 0 then y4 else (y4 + 1)) (y5 + 1) q2.2 q h kk

/-- UpOneSide.fits: the loop at 60 -/
def lp_92_0_60_57 (N : Nat) (y2 : Int32) (b : hB) (h1 : hSt) : Nat → Int32 → Int32 → hB → Option (Int32 × Int32 × hB)
  | 0, _, _, _ => none
  | n + 1, y4, y5, d =>
    (bif gCmp .ge y5 100 then
      some (y4, y5, d)
    else
      (Option.bind (me_119_0_57 N y2 y5 b d h1) fun q2 =>
      lp_92_0_60_57 N y2 b h1 n (bif gCmp .eq q2.1 0 then y4 else (y4 + 1)) (y5 + 1) q2.2))
set_option maxRecDepth 20000 in
set_option maxHeartbeats 4000000 in
theorem lt_92_0_60_57 {LL : Nat} {xs : Nat → Int32} {D N : Nat} {b k s w : hB} {ik ex pr wd : Int32} {sn : Nat → Int64} {qu tb : Nat → Int32} {ts : Int32} {r0 : Value} {rq : hRq} {h0 h1 h2 h3 : hSt} {fi : Nat → Int32} {R : List gE} {y1 : Int32} {y2 : Int32} {v : Option Value} {M' : List gE} : ∀ (n : Nat) (y4 : Int32) (y5 : Int32) (d : hB) (q : Int32 × Int32 × hB), lp_92_0_60_57 N y2 b h1 n y4 y5 d = some q → (kk : hX (gO LL xs) (D + 3) zR_92 87 [some (.ref 0), some (.int y1), some (.int y2), some (.ref 57), some (.int q.1), some (.int q.2.1)] [] (hCm b q.2.2 k s w ik ex pr wd sn qu tb ts (r0, rq) h0 h1 h2 h3 fi R) v M') → hX (gO LL xs) (D + 3) zR_92 60 [some (.ref 0), some (.int y1), some (.int y2), some (.ref 57), some (.int y4), some (.int y5)] [] (hCm b d k s w ik ex pr wd sn qu tb ts (r0, rq) h0 h1 h2 h3 fi R) v M' := by
  intro n
  induction n with
  | zero => intro y4 y5 d q h; cases h
  | succ n ih =>
    intro y4 y5 d q h kk
    rw [lp_92_0_60_57] at h
    refine hX_go 3 (bif gCmp .ge y5 100 then 87 else 67) [some (.ref 0), some (.int y1), some (.int y2), some (.ref 57), some (.int y4), some (.int y5)] [] (hCm b d k s w ik ex pr wd sn qu tb ts (r0, rq) h0 h1 h2 h3 fi R) rfl ?_
    refine hX_if (gCmp .ge y5 100) (fun c1 => ?_) (fun c1 => ?_)
    · skip
      have h := gcT c1 h
      have h := Option.some.inj h; subst h
      exact kk
    · skip
      have h := gcF c1 h
      refine hX_goM 4 (72) [some (.ref 0), some (.int y1), some (.int y2), some (.ref 57), some (.int y4), some (.int y5)] [.int y5, .int y2, .ref 57, .ref 0] rfl ?_
      revert h; refine gBindR fun q2 e2 h => ?_
      refine hX_call (r' := zR_119) rfl (mt_119_0_57 N y2 y5 q2 e2) ?_
      refine hX_go 1 (bif gCmp .eq q2.1 0 then 81 else 78) [some (.ref 0), some (.int y1), some (.int y2), some (.ref 57), some (.int y4), some (.int y5)] [] (hCm b q2.2 k s w ik ex pr wd sn qu tb ts (r0, rq) h0 h1 h2 h3 fi R) rfl ?_
      refine hX_mrg 81 [some (.ref 0), some (.int y1), some (.int y2), some (.ref 57), some (.int (bif gCmp .eq q2.1 0 then y4 else (y4 + 1))), some (.int y5)] [] (hCm b q2.2 k s w ik ex pr wd sn qu tb ts (r0, rq) h0 h1 h2 h3 fi R) (fun hk => ?_) ?_
      · skip
        refine hX_if (gCmp .eq q2.1 0) (fun c4 => ?_) (fun c4 => ?_)
        · skip
          have hk := hk
          simp only [c4, cond_true, cond_false] at hk
          first | exact hk | (simp only [c4, cond_true, cond_false]; exact hk)
        · skip
          refine hX_goM 1 (81) [some (.ref 0), some (.int y1), some (.int y2), some (.ref 57), some (.int (y4 + 1)), some (.int y5)] [] rfl ?_
          have hk := hk
          simp only [c4, cond_true, cond_false] at hk
          first | exact hk | (simp only [c4, cond_true, cond_false]; exact hk)
      refine hX_goM 2 (60) [some (.ref 0), some (.int y1), some (.int y2), some (.ref 57), some (.int (bif gCmp .eq q2.1 0 then y4 else (y4 + 1))), some (.int (y5 + 1))] [] rfl ?_
      exact ih (bif gCmp .eq q2.1 0 then y4 else (y4 + 1)) (y5 + 1) q2.2 q h kk
