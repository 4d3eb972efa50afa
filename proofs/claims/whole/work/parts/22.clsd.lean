/-- UpOneSide$Reader.isWord(Ljava/lang/String;)Z -/
def me_38_51_1022 (N : Nat) (tb : Nat → Int32) (rq : hRq) : Option (Int32) :=
  (bif gCmp .ne rq.2.1 1 then
    some (0)
  else
    (Option.bind (me_0_1022 N) fun q2 =>
    (bif gCmp .eq (rq.2.2.2.1 - rq.2.2.1) q2 then
      lp_38_51_1022_28 N tb rq N 0
    else
      some (0))))
set_option maxRecDepth 20000 in
set_option maxHeartbeats 4000000 in
theorem mt_38_51_1022 {LL : Nat} {xs : Nat → Int32} {D : Nat} {b d k s w : hB} {ik ex pr wd : Int32} {sn : Nat → Int64} {qu tb : Nat → Int32} {ts : Int32} {rq : hRq} {h0 h1 h2 h3 : hSt} {fi : Nat → Int32} {R : List gE} (N : Nat) (q : Int32) (h : me_38_51_1022 N tb rq = some q) : hM (gO LL xs) (D + 4) zR_38 [.ref 51, .ref 1022] (hCm b d k s w ik ex pr wd sn qu tb ts (.ref 50, rq) h0 h1 h2 h3 fi R) (some (.int q)) (hCm b d k s w ik ex pr wd sn qu tb ts (.ref 50, rq) h0 h1 h2 h3 fi R) := by
  unfold me_38_51_1022 at h
  refine hX_go 0 0 [some (.ref 51), some (.ref 1022), none] [] (hCm b d k s w ik ex pr wd sn qu tb ts (.ref 50, rq) h0 h1 h2 h3 fi R) rfl ?_
  refine hX_go 4 (bif gCmp .ne rq.2.1 1 then 24 else 8) [some (.ref 51), some (.ref 1022), none] [] (hCm b d k s w ik ex pr wd sn qu tb ts (.ref 50, rq) h0 h1 h2 h3 fi R) rfl ?_
  refine hX_if (gCmp .ne rq.2.1 1) (fun c1 => ?_) (fun c1 => ?_)
  · skip
    have h := gcT c1 h
    refine hX_goM 1 (25) [some (.ref 51), some (.ref 1022), none] [.int 0] rfl ?_
    have h := Option.some.inj h; subst h
    exact hX_end rfl rfl rfl
  · skip
    have h := gcF c1 h
    refine hX_goM 6 (18) [some (.ref 51), some (.ref 1022), none] [.ref 1022, .int (rq.2.2.2.1 - rq.2.2.1)] rfl ?_
    revert h; refine gBindR fun q2 e2 h => ?_
    refine hX_call (r' := zR_0) rfl (mt_0_1022 N q2 e2) ?_
    refine hX_goM 1 (bif gCmp .eq (rq.2.2.2.1 - rq.2.2.1) q2 then 26 else 24) [some (.ref 51), some (.ref 1022), none] [] rfl ?_
    refine hX_if (gCmp .eq (rq.2.2.2.1 - rq.2.2.1) q2) (fun c3 => ?_) (fun c3 => ?_)
    · skip
      have h := gcT c3 h
      refine hX_goM 2 (28) [some (.ref 51), some (.ref 1022), some (.int 0)] [] rfl ?_
      exact lt_38_51_1022_28 N 0 q h
    · skip
      have h := gcF c3 h
      refine hX_goM 1 (25) [some (.ref 51), some (.ref 1022), none] [.int 0] rfl ?_
      have h := Option.some.inj h; subst h
      exact hX_end rfl rfl rfl


/-- java/lang/String.coder()B -/
def me_2_1023 (N : Nat) : Option (Int32) :=
  some (0)
set_option maxRecDepth 20000 in
set_option maxHeartbeats 4000000 in
theorem mt_2_1023 {LL : Nat} {xs : Nat → Int32} {D : Nat} {b d k s w : hB} {ik ex pr wd : Int32} {sn : Nat → Int64} {qu tb : Nat → Int32} {ts : Int32} {r0 : Value} {rq : hRq} {h0 h1 h2 h3 : hSt} {fi : Nat → Int32} {R : List gE} (N : Nat) (q : Int32) (h : me_2_1023 N = some q) : hM (gO LL xs) (D + 0) zR_2 [.ref 1023] (hCm b d k s w ik ex pr wd sn qu tb ts (r0, rq) h0 h1 h2 h3 fi R) (some (.int q)) (hCm b d k s w ik ex pr wd sn qu tb ts (r0, rq) h0 h1 h2 h3 fi R) := by
  unfold me_2_1023 at h
  refine hX_go 0 0 [some (.ref 1023)] [] (hCm b d k s w ik ex pr wd sn qu tb ts (r0, rq) h0 h1 h2 h3 fi R) rfl ?_
  refine hX_go 5 (14) [some (.ref 1023)] [.int 0] (hCm b d k s w ik ex pr wd sn qu tb ts (r0, rq) h0 h1 h2 h3 fi R) rfl ?_
  have h := Option.some.inj h; subst h
  exact hX_end rfl rfl rfl


/-- java/lang/String.length()I -/
def me_0_1023 (N : Nat) : Option (Int32) :=
  (Option.bind (me_2_1023 N) fun q1 =>
  some ((5 : Int32) >>> (q1 &&& 31)))
set_option maxRecDepth 20000 in
set_option maxHeartbeats 4000000 in
theorem mt_0_1023 {LL : Nat} {xs : Nat → Int32} {D : Nat} {b d k s w : hB} {ik ex pr wd : Int32} {sn : Nat → Int64} {qu tb : Nat → Int32} {ts : Int32} {r0 : Value} {rq : hRq} {h0 h1 h2 h3 : hSt} {fi : Nat → Int32} {R : List gE} (N : Nat) (q : Int32) (h : me_0_1023 N = some q) : hM (gO LL xs) (D + 1) zR_0 [.ref 1023] (hCm b d k s w ik ex pr wd sn qu tb ts (r0, rq) h0 h1 h2 h3 fi R) (some (.int q)) (hCm b d k s w ik ex pr wd sn qu tb ts (r0, rq) h0 h1 h2 h3 fi R) := by
  unfold me_0_1023 at h
  refine hX_go 0 0 [some (.ref 1023)] [] (hCm b d k s w ik ex pr wd sn qu tb ts (r0, rq) h0 h1 h2 h3 fi R) rfl ?_
  refine hX_go 4 (6) [some (.ref 1023)] [.ref 1023, .int 5] (hCm b d k s w ik ex pr wd sn qu tb ts (r0, rq) h0 h1 h2 h3 fi R) rfl ?_
  revert h; refine gBindR fun q1 e1 h => ?_
  refine hX_call (r' := zR_2) rfl (mt_2_1023 N q1 e1) ?_
  refine hX_goM 1 (10) [some (.ref 1023)] [.int ((5 : Int32) >>> (q1 &&& 31))] rfl ?_
  have h := Option.some.inj h; subst h
  exact hX_end rfl rfl rfl


/-- java/lang/String.isLatin1()Z -/
def me_3_1023 (N : Nat) : Option (Int32) :=
  some (1)
set_option maxRecDepth 20000 in
set_option maxHeartbeats 4000000 in
theorem mt_3_1023 {LL : Nat} {xs : Nat → Int32} {D : Nat} {b d k s w : hB} {ik ex pr wd : Int32} {sn : Nat → Int64} {qu tb : Nat → Int32} {ts : Int32} {r0 : Value} {rq : hRq} {h0 h1 h2 h3 : hSt} {fi : Nat → Int32} {R : List gE} (N : Nat) (q : Int32) (h : me_3_1023 N = some q) : hM (gO LL xs) (D + 0) zR_3 [.ref 1023] (hCm b d k s w ik ex pr wd sn qu tb ts (r0, rq) h0 h1 h2 h3 fi R) (some (.int q)) (hCm b d k s w ik ex pr wd sn qu tb ts (r0, rq) h0 h1 h2 h3 fi R) := by
  unfold me_3_1023 at h
  refine hX_go 0 0 [some (.ref 1023)] [] (hCm b d k s w ik ex pr wd sn qu tb ts (r0, rq) h0 h1 h2 h3 fi R) rfl ?_
  refine hX_go 7 (18) [some (.ref 1023)] [.int 1] (hCm b d k s w ik ex pr wd sn qu tb ts (r0, rq) h0 h1 h2 h3 fi R) rfl ?_
  have h := Option.some.inj h; subst h
  exact hX_end rfl rfl rfl


/-- java/lang/StringLatin1.charAt([BI)C -/
def me_5_1043 (N : Nat) (x0 : Int32) : Option (Int32) :=
  (Option.bind (me_4 N x0 5) fun q1 =>
  (bif gIn x0 5 then (bif decide (vp_nar .char (((Int32.toUInt32 (((gYf 13) (Int32.toNatClampNeg x0)) &&& 255)) % 65536).toInt32) = ((Int32.toUInt32 (((gYf 13) (Int32.toNatClampNeg x0)) &&& 255)) % 65536).toInt32) then some (((Int32.toUInt32 (((gYf 13) (Int32.toNatClampNeg x0)) &&& 255)) % 65536).toInt32) else none) else none))
set_option maxRecDepth 20000 in
set_option maxHeartbeats 4000000 in
theorem mt_5_1043 {LL : Nat} {xs : Nat → Int32} {D : Nat} {b d k s w : hB} {ik ex pr wd : Int32} {sn : Nat → Int64} {qu tb : Nat → Int32} {ts : Int32} {r0 : Value} {rq : hRq} {h0 h1 h2 h3 : hSt} {fi : Nat → Int32} {R : List gE} (N : Nat) (x0 : Int32) (q : Int32) (h : me_5_1043 N x0 = some q) : hM (gO LL xs) (D + 2) zR_5 [.ref 1043, .int x0] (hCm b d k s w ik ex pr wd sn qu tb ts (r0, rq) h0 h1 h2 h3 fi R) (some (.int q)) (hCm b d k s w ik ex pr wd sn qu tb ts (r0, rq) h0 h1 h2 h3 fi R) := by
  unfold me_5_1043 at h
  refine hX_go 0 0 [some (.ref 1043), some (.int x0)] [] (hCm b d k s w ik ex pr wd sn qu tb ts (r0, rq) h0 h1 h2 h3 fi R) rfl ?_
  refine hX_go 3 (3) [some (.ref 1043), some (.int x0)] [.int 5, .int x0] (hCm b d k s w ik ex pr wd sn qu tb ts (r0, rq) h0 h1 h2 h3 fi R) rfl ?_
  revert h; refine gBindR fun q1 e1 h => ?_
  refine hX_call (r' := zR_4) rfl (mt_4 N x0 5 q1 e1) ?_
  refine hX_goM 2 (8) [some (.ref 1043), some (.int x0)] [.int x0, .ref 1043] rfl ?_
  revert h; refine gCondR fun g2 h => ?_
  refine hX_gM (gIn x0 5) 9 [some (.ref 1043), some (.int x0)] [.int ((gYf 13) (Int32.toNatClampNeg x0))] rfl g2 ?_
  refine hX_goM 3 (14) [some (.ref 1043), some (.int x0)] [.int (((Int32.toUInt32 (((gYf 13) (Int32.toNatClampNeg x0)) &&& 255)) % 65536).toInt32)] rfl ?_
  revert h; refine gCondR fun g3 h => ?_
  have h := Option.some.inj h; subst h
  exact hX_endG (decide (vp_nar .char (((Int32.toUInt32 (((gYf 13) (Int32.toNatClampNeg x0)) &&& 255)) % 65536).toInt32) = ((Int32.toUInt32 (((gYf 13) (Int32.toNatClampNeg x0)) &&& 255)) % 65536).toInt32)) rfl g3 rfl rfl


/-- java/lang/String.charAt(I)C -/
def me_1_1023 (N : Nat) (x0 : Int32) : Option (Int32) :=
  (Option.bind (me_3_1023 N) fun q1 =>
  (bif !(gCmp .eq q1 0) then (Option.bind (me_5_1043 N x0) fun q3 =>
  (bif decide (vp_nar .char q3 = q3) then some (q3) else none)) else none))
set_option maxRecDepth 20000 in
set_option maxHeartbeats 4000000 in
theorem mt_1_1023 {LL : Nat} {xs : Nat → Int32} {D : Nat} {b d k s w : hB} {ik ex pr wd : Int32} {sn : Nat → Int64} {qu tb : Nat → Int32} {ts : Int32} {r0 : Value} {rq : hRq} {h0 h1 h2 h3 : hSt} {fi : Nat → Int32} {R : List gE} (N : Nat) (x0 : Int32) (q : Int32) (h : me_1_1023 N x0 = some q) : hM (gO LL xs) (D + 3) zR_1 [.ref 1023, .int x0] (hCm b d k s w ik ex pr wd sn qu tb ts (r0, rq) h0 h1 h2 h3 fi R) (some (.int q)) (hCm b d k s w ik ex pr wd sn qu tb ts (r0, rq) h0 h1 h2 h3 fi R) := by
  unfold me_1_1023 at h
  refine hX_go 0 0 [some (.ref 1023), some (.int x0)] [] (hCm b d k s w ik ex pr wd sn qu tb ts (r0, rq) h0 h1 h2 h3 fi R) rfl ?_
  refine hX_go 1 (1) [some (.ref 1023), some (.int x0)] [.ref 1023] (hCm b d k s w ik ex pr wd sn qu tb ts (r0, rq) h0 h1 h2 h3 fi R) rfl ?_
  revert h; refine gBindR fun q1 e1 h => ?_
  refine hX_call (r' := zR_3) rfl (mt_3_1023 N q1 e1) ?_
  refine hX_goM 1 (bif gCmp .eq q1 0 then 16 else 7) [some (.ref 1023), some (.int x0)] [] rfl ?_
  revert h; refine gCondR fun g2 h => ?_
  refine hX_ifF (gCmp .eq q1 0) (gNot g2) ?_
  refine hX_goM 3 (12) [some (.ref 1023), some (.int x0)] [.int x0, .ref 1043] rfl ?_
  revert h; refine gBindR fun q3 e3 h => ?_
  refine hX_call (r' := zR_5) rfl (mt_5_1043 N x0 q3 e3) ?_
  refine hX_goM 0 (15) [some (.ref 1023), some (.int x0)] [.int q3] rfl ?_
  revert h; refine gCondR fun g4 h => ?_
  have h := Option.some.inj h; subst h
  exact hX_endG (decide (vp_nar .char q3 = q3)) rfl g4 rfl rfl

/-- UpOneSide$Reader.isWord: the loop at 28 -/
def lp_38_51_1023_28 (N : Nat) (tb : Nat → Int32) (rq : hRq) : Nat → Int32 → Option (Int32)
  | 0, _ => none
  | n + 1, y2 =>
    (Option.bind (me_0_1023 N) fun q1 =>
    (bif gCmp .ge y2 q1 then
      some (1)
    else
      (bif gCmp .ge (rq.2.2.1 + y2) rq.1 then
        some (1)
      else
        (bif gIn (rq.2.2.1 + y2) 120 then (Option.bind (me_1_1023 N y2) fun q5 =>
        (bif gCmp .eq (tb (Int32.toNatClampNeg (rq.2.2.1 + y2))) q5 then
          lp_38_51_1023_28 N tb rq n (y2 + 1)
        else
          some (0))) else none))))
set_option maxRecDepth 20000 in
set_option maxHeartbeats 4000000 in
theorem lt_38_51_1023_28 {LL : Nat} {xs : Nat → Int32} {D N : Nat} {b d k s w : hB} {ik ex pr wd : Int32} {sn : Nat → Int64} {qu tb : Nat → Int32} {ts : Int32} {rq : hRq} {h0 h1 h2 h3 : hSt} {fi : Nat → Int32} {R : List gE} : ∀ (n : Nat) (y2 : Int32) (q : Int32), lp_38_51_1023_28 N tb rq n y2 = some q → hX (gO LL xs) (D + 4) zR_38 28 [some (.ref 51), some (.ref 1023), some (.int y2)] [] (hCm b d k s w ik ex pr wd sn qu tb ts (.ref 50, rq) h0 h1 h2 h3 fi R) (some (.int q)) (hCm b d k s w ik ex pr wd sn qu tb ts (.ref 50, rq) h0 h1 h2 h3 fi R) := by
  intro n
  induction n with
  | zero => intro y2 q h; cases h
  | succ n ih =>
    intro y2 q h
    rw [lp_38_51_1023_28] at h
    refine hX_go 2 (30) [some (.ref 51), some (.ref 1023), some (.int y2)] [.ref 1023, .int y2] (hCm b d k s w ik ex pr wd sn qu tb ts (.ref 50, rq) h0 h1 h2 h3 fi R) rfl ?_
    revert h; refine gBindR fun q1 e1 h => ?_
    refine hX_call (r' := zR_0) rfl (mt_0_1023 N q1 e1) ?_
    refine hX_goM 1 (bif gCmp .ge y2 q1 then 76 else 36) [some (.ref 51), some (.ref 1023), some (.int y2)] [] rfl ?_
    refine hX_if (gCmp .ge y2 q1) (fun c2 => ?_) (fun c2 => ?_)
    · skip
      have h := gcT c2 h
      refine hX_goM 1 (77) [some (.ref 51), some (.ref 1023), some (.int y2)] [.int 1] rfl ?_
      have h := Option.some.inj h; subst h
      exact hX_end rfl rfl rfl
    · skip
      have h := gcF c2 h
      refine hX_goM 7 (bif gCmp .ge (rq.2.2.1 + y2) rq.1 then 76 else 49) [some (.ref 51), some (.ref 1023), some (.int y2)] [] rfl ?_
      refine hX_if (gCmp .ge (rq.2.2.1 + y2) rq.1) (fun c3 => ?_) (fun c3 => ?_)
      · skip
        have h := gcT c3 h
        refine hX_goM 1 (77) [some (.ref 51), some (.ref 1023), some (.int y2)] [.int 1] rfl ?_
        have h := Option.some.inj h; subst h
        exact hX_end rfl rfl rfl
      · skip
        have h := gcF c3 h
        refine hX_goM 6 (59) [some (.ref 51), some (.ref 1023), some (.int y2)] [.int (rq.2.2.1 + y2), .ref 50] rfl ?_
        revert h; refine gCondR fun g4 h => ?_
        refine hX_gM (gIn (rq.2.2.1 + y2) 120) 60 [some (.ref 51), some (.ref 1023), some (.int y2)] [.int (tb (Int32.toNatClampNeg (rq.2.2.1 + y2)))] rfl g4 ?_
        refine hX_goM 2 (62) [some (.ref 51), some (.ref 1023), some (.int y2)] [.int y2, .ref 1023, .int (tb (Int32.toNatClampNeg (rq.2.2.1 + y2)))] rfl ?_
        revert h; refine gBindR fun q5 e5 h => ?_
        refine hX_call (r' := zR_1) rfl (mt_1_1023 N y2 q5 e5) ?_
        refine hX_goM 1 (bif gCmp .eq (tb (Int32.toNatClampNeg (rq.2.2.1 + y2))) q5 then 70 else 68) [some (.ref 51), some (.ref 1023), some (.int y2)] [] rfl ?_
        refine hX_if (gCmp .eq (tb (Int32.toNatClampNeg (rq.2.2.1 + y2))) q5) (fun c6 => ?_) (fun c6 => ?_)
        · skip
          have h := gcT c6 h
          refine hX_goM 2 (28) [some (.ref 51), some (.ref 1023), some (.int (y2 + 1))] [] rfl ?_
          exact ih (y2 + 1) q h
        · skip
          have h := gcF c6 h
          refine hX_goM 1 (69) [some (.ref 51), some (.ref 1023), some (.int y2)] [.int 0] rfl ?_
          have h := Option.some.inj h; subst h
          exact hX_end rfl rfl rfl

/-- UpOneSide$Reader.isWord(Ljava/lang/String;)Z -/
def me_38_51_1023 (N : Nat) (tb : Nat → Int32) (rq : hRq) : Option (Int32) :=
  (bif gCmp .ne rq.2.1 1 then
    some (0)
  else
    (Option.bind (me_0_1023 N) fun q2 =>
    (bif gCmp .eq (rq.2.2.2.1 - rq.2.2.1) q2 then
      lp_38_51_1023_28 N tb rq N 0
    else
      some (0))))
set_option maxRecDepth 20000 in
set_option maxHeartbeats 4000000 in
theorem mt_38_51_1023 {LL : Nat} {xs : Nat → Int32} {D : Nat} {b d k s w : hB} {ik ex pr wd : Int32} {sn : Nat → Int64} {qu tb : Nat → Int32} {ts : Int32} {rq : hRq} {h0 h1 h2 h3 : hSt} {fi : Nat → Int32} {R : List gE} (N : Nat) (q : Int32) (h : me_38_51_1023 N tb rq = some q) : hM (gO LL xs) (D + 4) zR_38 [.ref 51, .ref 1023] (hCm b d k s w ik ex pr wd sn qu tb ts (.ref 50, rq) h0 h1 h2 h3 fi R) (some (.int q)) (hCm b d k s w ik ex pr wd sn qu tb ts (.ref 50, rq) h0 h1 h2 h3 fi R) := by
  unfold me_38_51_1023 at h
  refine hX_go 0 0 [some (.ref 51), some (.ref 1023), none] [] (hCm b d k s w ik ex pr wd sn qu tb ts (.ref 50, rq) h0 h1 h2 h3 fi R) rfl ?_
  refine hX_go 4 (bif gCmp .ne rq.2.1 1 then 24 else 8) [some (.ref 51), some (.ref 1023), none] [] (hCm b d k s w ik ex pr wd sn qu tb ts (.ref 50, rq) h0 h1 h2 h3 fi R) rfl ?_
  refine hX_if (gCmp .ne rq.2.1 1) (fun c1 => ?_) (fun c1 => ?_)
  · skip
    have h := gcT c1 h
    refine hX_goM 1 (25) [some (.ref 51), some (.ref 1023), none] [.int 0] rfl ?_
    have h := Option.some.inj h; subst h
    exact hX_end rfl rfl rfl
  · skip
    have h := gcF c1 h
    refine hX_goM 6 (18) [some (.ref 51), some (.ref 1023), none] [.ref 1023, .int (rq.2.2.2.1 - rq.2.2.1)] rfl ?_
    revert h; refine gBindR fun q2 e2 h => ?_
    refine hX_call (r' := zR_0) rfl (mt_0_1023 N q2 e2) ?_
    refine hX_goM 1 (bif gCmp .eq (rq.2.2.2.1 - rq.2.2.1) q2 then 26 else 24) [some (.ref 51), some (.ref 1023), none] [] rfl ?_
    refine hX_if (gCmp .eq (rq.2.2.2.1 - rq.2.2.1) q2) (fun c3 => ?_) (fun c3 => ?_)
    · skip
      have h := gcT c3 h
      refine hX_goM 2 (28) [some (.ref 51), some (.ref 1023), some (.int 0)] [] rfl ?_
      exact lt_38_51_1023_28 N 0 q h
    · skip
      have h := gcF c3 h
      refine hX_goM 1 (25) [some (.ref 51), some (.ref 1023), none] [.int 0] rfl ?_
      have h := Option.some.inj h; subst h
      exact hX_end rfl rfl rfl


/-- java/lang/String.coder()B -/
def me_2_1024 (N : Nat) : Option (Int32) :=
  some (0)
set_option maxRecDepth 20000 in
set_option maxHeartbeats 4000000 in
theorem mt_2_1024 {LL : Nat} {xs : Nat → Int32} {D : Nat} {b d k s w : hB} {ik ex pr wd : Int32} {sn : Nat → Int64} {qu tb : Nat → Int32} {ts : Int32} {r0 : Value} {rq : hRq} {h0 h1 h2 h3 : hSt} {fi : Nat → Int32} {R : List gE} (N : Nat) (q : Int32) (h : me_2_1024 N = some q) : hM (gO LL xs) (D + 0) zR_2 [.ref 1024] (hCm b d k s w ik ex pr wd sn qu tb ts (r0, rq) h0 h1 h2 h3 fi R) (some (.int q)) (hCm b d k s w ik ex pr wd sn qu tb ts (r0, rq) h0 h1 h2 h3 fi R) := by
  unfold me_2_1024 at h
  refine hX_go 0 0 [some (.ref 1024)] [] (hCm b d k s w ik ex pr wd sn qu tb ts (r0, rq) h0 h1 h2 h3 fi R) rfl ?_
  refine hX_go 5 (14) [some (.ref 1024)] [.int 0] (hCm b d k s w ik ex pr wd sn qu tb ts (r0, rq) h0 h1 h2 h3 fi R) rfl ?_
  have h := Option.some.inj h; subst h
  exact hX_end rfl rfl rfl


/-- java/lang/String.length()I -/
def me_0_1024 (N : Nat) : Option (Int32) :=
  (Option.bind (me_2_1024 N) fun q1 =>
  some ((3 : Int32) >>> (q1 &&& 31)))
set_option maxRecDepth 20000 in
set_option maxHeartbeats 4000000 in
theorem mt_0_1024 {LL : Nat} {xs : Nat → Int32} {D : Nat} {b d k s w : hB} {ik ex pr wd : Int32} {sn : Nat → Int64} {qu tb : Nat → Int32} {ts : Int32} {r0 : Value} {rq : hRq} {h0 h1 h2 h3 : hSt} {fi : Nat → Int32} {R : List gE} (N : Nat) (q : Int32) (h : me_0_1024 N = some q) : hM (gO LL xs) (D + 1) zR_0 [.ref 1024] (hCm b d k s w ik ex pr wd sn qu tb ts (r0, rq) h0 h1 h2 h3 fi R) (some (.int q)) (hCm b d k s w ik ex pr wd sn qu tb ts (r0, rq) h0 h1 h2 h3 fi R) := by
  unfold me_0_1024 at h
  refine hX_go 0 0 [some (.ref 1024)] [] (hCm b d k s w ik ex pr wd sn qu tb ts (r0, rq) h0 h1 h2 h3 fi R) rfl ?_
  refine hX_go 4 (6) [some (.ref 1024)] [.ref 1024, .int 3] (hCm b d k s w ik ex pr wd sn qu tb ts (r0, rq) h0 h1 h2 h3 fi R) rfl ?_
  revert h; refine gBindR fun q1 e1 h => ?_
  refine hX_call (r' := zR_2) rfl (mt_2_1024 N q1 e1) ?_
  refine hX_goM 1 (10) [some (.ref 1024)] [.int ((3 : Int32) >>> (q1 &&& 31))] rfl ?_
  have h := Option.some.inj h; subst h
  exact hX_end rfl rfl rfl


/-- java/lang/String.isLatin1()Z -/
def me_3_1024 (N : Nat) : Option (Int32) :=
  some (1)
set_option maxRecDepth 20000 in
set_option maxHeartbeats 4000000 in
theorem mt_3_1024 {LL : Nat} {xs : Nat → Int32} {D : Nat} {b d k s w : hB} {ik ex pr wd : Int32} {sn : Nat → Int64} {qu tb : Nat → Int32} {ts : Int32} {r0 : Value} {rq : hRq} {h0 h1 h2 h3 : hSt} {fi : Nat → Int32} {R : List gE} (N : Nat) (q : Int32) (h : me_3_1024 N = some q) : hM (gO LL xs) (D + 0) zR_3 [.ref 1024] (hCm b d k s w ik ex pr wd sn qu tb ts (r0, rq) h0 h1 h2 h3 fi R) (some (.int q)) (hCm b d k s w ik ex pr wd sn qu tb ts (r0, rq) h0 h1 h2 h3 fi R) := by
  unfold me_3_1024 at h
  refine hX_go 0 0 [some (.ref 1024)] [] (hCm b d k s w ik ex pr wd sn qu tb ts (r0, rq) h0 h1 h2 h3 fi R) rfl ?_
  refine hX_go 7 (18) [some (.ref 1024)] [.int 1] (hCm b d k s w ik ex pr wd sn qu tb ts (r0, rq) h0 h1 h2 h3 fi R) rfl ?_
  have h := Option.some.inj h; subst h
  exact hX_end rfl rfl rfl


/-- java/lang/StringLatin1.charAt([BI)C -/
def me_5_1044 (N : Nat) (x0 : Int32) : Option (Int32) :=
  (Option.bind (me_4 N x0 3) fun q1 =>
  (bif gIn x0 3 then (bif decide (vp_nar .char (((Int32.toUInt32 (((gYf 14) (Int32.toNatClampNeg x0)) &&& 255)) % 65536).toInt32) = ((Int32.toUInt32 (((gYf 14) (Int32.toNatClampNeg x0)) &&& 255)) % 65536).toInt32) then some (((Int32.toUInt32 (((gYf 14) (Int32.toNatClampNeg x0)) &&& 255)) % 65536).toInt32) else none) else none))
set_option maxRecDepth 20000 in
set_option maxHeartbeats 4000000 in
theorem mt_5_1044 {LL : Nat} {xs : Nat → Int32} {D : Nat} {b d k s w : hB} {ik ex pr wd : Int32} {sn : Nat → Int64} {qu tb : Nat → Int32} {ts : Int32} {r0 : Value} {rq : hRq} {h0 h1 h2 h3 : hSt} {fi : Nat → Int32} {R : List gE} (N : Nat) (x0 : Int32) (q : Int32) (h : me_5_1044 N x0 = some q) : hM (gO LL xs) (D + 2) zR_5 [.ref 1044, .int x0] (hCm b d k s w ik ex pr wd sn qu tb ts (r0, rq) h0 h1 h2 h3 fi R) (some (.int q)) (hCm b d k s w ik ex pr wd sn qu tb ts (r0, rq) h0 h1 h2 h3 fi R) := by
  unfold me_5_1044 at h
  refine hX_go 0 0 [some (.ref 1044), some (.int x0)] [] (hCm b d k s w ik ex pr wd sn qu tb ts (r0, rq) h0 h1 h2 h3 fi R) rfl ?_
  refine hX_go 3 (3) [some (.ref 1044), some (.int x0)] [.int 3, .int x0] (hCm b d k s w ik ex pr wd sn qu tb ts (r0, rq) h0 h1 h2 h3 fi R) rfl ?_
  revert h; refine gBindR fun q1 e1 h => ?_
  refine hX_call (r' := zR_4) rfl (mt_4 N x0 3 q1 e1) ?_
  refine hX_goM 2 (8) [some (.ref 1044), some (.int x0)] [.int x0, .ref 1044] rfl ?_
  revert h; refine gCondR fun g2 h => ?_
  refine hX_gM (gIn x0 3) 9 [some (.ref 1044), some (.int x0)] [.int ((gYf 14) (Int32.toNatClampNeg x0))] rfl g2 ?_
  refine hX_goM 3 (14) [some (.ref 1044), some (.int x0)] [.int (((Int32.toUInt32 (((gYf 14) (Int32.toNatClampNeg x0)) &&& 255)) % 65536).toInt32)] rfl ?_
  revert h; refine gCondR fun g3 h => ?_
  have h := Option.some.inj h; subst h
  exact hX_endG (decide (vp_nar .char (((Int32.toUInt32 (((gYf 14) (Int32.toNatClampNeg x0)) &&& 255)) % 65536).toInt32) = ((Int32.toUInt32 (((gYf 14) (Int32.toNatClampNeg x0)) &&& 255)) % 65536).toInt32)) rfl g3 rfl rfl


/-- java/lang/String.charAt(I)C -/
def me_1_1024 (N : Nat) (x0 : Int32) : Option (Int32) :=
  (Option.bind (me_3_1024 N) fun q1 =>
  (bif !(gCmp .eq q1 0) then (Option.bind (me_5_1044 N x0) fun q3 =>
  (bif decide (vp_nar .char q3 = q3) then some (q3) else none)) else none))
set_option maxRecDepth 20000 in
set_option maxHeartbeats 4000000 in
theorem mt_1_1024 {LL : Nat} {xs : Nat → Int32} {D : Nat} {b d k s w : hB} {ik ex pr wd : Int32} {sn : Nat → Int64} {qu tb : Nat → Int32} {ts : Int32} {r0 : Value} {rq : hRq} {h0 h1 h2 h3 : hSt} {fi : Nat → Int32} {R : List gE} (N : Nat) (x0 : Int32) (q : Int32) (h : me_1_1024 N x0 = some q) : hM (gO LL xs) (D + 3) zR_1 [.ref 1024, .int x0] (hCm b d k s w ik ex pr wd sn qu tb ts (r0, rq) h0 h1 h2 h3 fi R) (some (.int q)) (hCm b d k s w ik ex pr wd sn qu tb ts (r0, rq) h0 h1 h2 h3 fi R) := by
  unfold me_1_1024 at h
  refine hX_go 0 0 [some (.ref 1024), some (.int x0)] [] (hCm b d k s w ik ex pr wd sn qu tb ts (r0, rq) h0 h1 h2 h3 fi R) rfl ?_
  refine hX_go 1 (1) [some (.ref 1024), some (.int x0)] [.ref 1024] (hCm b d k s w ik ex pr wd sn qu tb ts (r0, rq) h0 h1 h2 h3 fi R) rfl ?_
  revert h; refine gBindR fun q1 e1 h => ?_
  refine hX_call (r' := zR_3) rfl (mt_3_1024 N q1 e1) ?_
  refine hX_goM 1 (bif gCmp .eq q1 0 then 16 else 7) [some (.ref 1024), some (.int x0)] [] rfl ?_
  revert h; refine gCondR fun g2 h => ?_
  refine hX_ifF (gCmp .eq q1 0) (gNot g2) ?_
  refine hX_goM 3 (12) [some (.ref 1024), some (.int x0)] [.int x0, .ref 1044] rfl ?_
  revert h; refine gBindR fun q3 e3 h => ?_
  refine hX_call (r' := zR_5) rfl (mt_5_1044 N x0 q3 e3) ?_
  refine hX_goM 0 (15) [some (.ref 1024), some (.int x0)] [.int q3] rfl ?_
  revert h; refine gCondR fun g4 h => ?_
  have h := Option.some.inj h; subst h
  exact hX_endG (decide (vp_nar .char q3 = q3)) rfl g4 rfl rfl

/-- UpOneSide$Reader.isWord: the loop at 28 -/
def lp_38_51_1024_28 (N : Nat) (tb : Nat → Int32) (rq : hRq) : Nat → Int32 → Option (Int32)
  | 0, _ => none
  | n + 1, y2 =>
    (Option.bind (me_0_1024 N) fun q1 =>
    (bif gCmp .ge y2 q1 then
      some (1)
    else
      (bif gCmp .ge (rq.2.2.1 + y2) rq.1 then
        some (1)
      else
        (bif gIn (rq.2.2.1 + y2) 120 then (Option.bind (me_1_1024 N y2) fun q5 =>
        (bif gCmp .eq (tb (Int32.toNatClampNeg (rq.2.2.1 + y2))) q5 then
          lp_38_51_1024_28 N tb rq n (y2 + 1)
        else
          some (0))) else none))))
set_option maxRecDepth 20000 in
set_option maxHeartbeats 4000000 in
theorem lt_38_51_1024_28 {LL : Nat} {xs : Nat → Int32} {D N : Nat} {b d k s w : hB} {ik ex pr wd : Int32} {sn : Nat → Int64} {qu tb : Nat → Int32} {ts : Int32} {rq : hRq} {h0 h1 h2 h3 : hSt} {fi : Nat → Int32} {R : List gE} : ∀ (n : Nat) (y2 : Int32) (q : Int32), lp_38_51_1024_28 N tb rq n y2 = some q → hX (gO LL xs) (D + 4) zR_38 28 [some (.ref 51), some (.ref 1024), some (.int y2)] [] (hCm b d k s w ik ex pr wd sn qu tb ts (.ref 50, rq) h0 h1 h2 h3 fi R) (some (.int q)) (hCm b d k s w ik ex pr wd sn qu tb ts (.ref 50, rq) h0 h1 h2 h3 fi R) := by
  intro n
  induction n with
  | zero => intro y2 q h; cases h
  | succ n ih =>
    intro y2 q h
    rw [lp_38_51_1024_28] at h
    refine hX_go 2 (30) [some (.ref 51), some (.ref 1024), some (.int y2)] [.ref 1024, .int y2] (hCm b d k s w ik ex pr wd sn qu tb ts (.ref 50, rq) h0 h1 h2 h3 fi R) rfl ?_
    revert h; refine gBindR fun q1 e1 h => ?_
    refine hX_call (r' := zR_0) rfl (mt_0_1024 N q1 e1) ?_
    refine hX_goM 1 (bif gCmp .ge y2 q1 then 76 else 36) [some (.ref 51), some (.ref 1024), some (.int y2)] [] rfl ?_
    refine hX_if (gCmp .ge y2 q1) (fun c2 => ?_) (fun c2 => ?_)
    · skip
      have h := gcT c2 h
      refine hX_goM 1 (77) [some (.ref 51), some (.ref 1024), some (.int y2)] [.int 1] rfl ?_
      have h := Option.some.inj h; subst h
      exact hX_end rfl rfl rfl
    · skip
      have h := gcF c2 h
      refine hX_goM 7 (bif gCmp .ge (rq.2.2.1 + y2) rq.1 then 76 else 49) [some (.ref 51), some (.ref 1024), some (.int y2)] [] rfl ?_
      refine hX_if (gCmp .ge (rq.2.2.1 + y2) rq.1) (fun c3 => ?_) (fun c3 => ?_)
      · skip
        have h := gcT c3 h
        refine hX_goM 1 (77) [some (.ref 51), some (.ref 1024), some (.int y2)] [.int 1] rfl ?_
        have h := Option.some.inj h; subst h
        exact hX_end rfl rfl rfl
      · skip
        have h := gcF c3 h
        refine hX_goM 6 (59) [some (.ref 51), some (.ref 1024), some (.int y2)] [.int (rq.2.2.1 + y2), .ref 50] rfl ?_
        revert h; refine gCondR fun g4 h => ?_
        refine hX_gM (gIn (rq.2.2.1 + y2) 120) 60 [some (.ref 51), some (.ref 1024), some (.int y2)] [.int (tb (Int32.toNatClampNeg (rq.2.2.1 + y2)))] rfl g4 ?_
        refine hX_goM 2 (62) [some (.ref 51), some (.ref 1024), some (.int y2)] [.int y2, .ref 1024, .int (tb (Int32.toNatClampNeg (rq.2.2.1 + y2)))] rfl ?_
        revert h; refine gBindR fun q5 e5 h => ?_
        refine hX_call (r' := zR_1) rfl (mt_1_1024 N y2 q5 e5) ?_
        refine hX_goM 1 (bif gCmp .eq (tb (Int32.toNatClampNeg (rq.2.2.1 + y2))) q5 then 70 else 68) [some (.ref 51), some (.ref 1024), some (.int y2)] [] rfl ?_
        refine hX_if (gCmp .eq (tb (Int32.toNatClampNeg (rq.2.2.1 + y2))) q5) (fun c6 => ?_) (fun c6 => ?_)
        · skip
          have h := gcT c6 h
          refine hX_goM 2 (28) [some (.ref 51), some (.ref 1024), some (.int (y2 + 1))] [] rfl ?_
          exact ih (y2 + 1) q h
        · skip
          have h := gcF c6 h
          refine hX_goM 1 (69) [some (.ref 51), some (.ref 1024), some (.int y2)] [.int 0] rfl ?_
          have h := Option.some.inj h; subst h
          exact hX_end rfl rfl rfl

/-- UpOneSide$Reader.isWord(Ljava/lang/String;)Z -/
def me_38_51_1024 (N : Nat) (tb : Nat → Int32) (rq : hRq) : Option (Int32) :=
  (bif gCmp .ne rq.2.1 1 then
    some (0)
  else
    (Option.bind (me_0_1024 N) fun q2 =>
    (bif gCmp .eq (rq.2.2.2.1 - rq.2.2.1) q2 then
      lp_38_51_1024_28 N tb rq N 0
    else
      some (0))))
set_option maxRecDepth 20000 in
set_option maxHeartbeats 4000000 in
theorem mt_38_51_1024 {LL : Nat} {xs : Nat → Int32} {D : Nat} {b d k s w : hB} {ik ex pr wd : Int32} {sn : Nat → Int64} {qu tb : Nat → Int32} {ts : Int32} {rq : hRq} {h0 h1 h2 h3 : hSt} {fi : Nat → Int32} {R : List gE} (N : Nat) (q : Int32) (h : me_38_51_1024 N tb rq = some q) : hM (gO LL xs) (D + 4) zR_38 [.ref 51, .ref 1024] (hCm b d k s w ik ex pr wd sn qu tb ts (.ref 50, rq) h0 h1 h2 h3 fi R) (some (.int q)) (hCm b d k s w ik ex pr wd sn qu tb ts (.ref 50, rq) h0 h1 h2 h3 fi R) := by
  unfold me_38_51_1024 at h
  refine hX_go 0 0 [some (.ref 51), some (.ref 1024), none] [] (hCm b d k s w ik ex pr wd sn qu tb ts (.ref 50, rq) h0 h1 h2 h3 fi R) rfl ?_
  refine hX_go 4 (bif gCmp .ne rq.2.1 1 then 24 else 8) [some (.ref 51), some (.ref 1024), none] [] (hCm b d k s w ik ex pr wd sn qu tb ts (.ref 50, rq) h0 h1 h2 h3 fi R) rfl ?_
  refine hX_if (gCmp .ne rq.2.1 1) (fun c1 => ?_) (fun c1 => ?_)
  · skip
    have h := gcT c1 h
    refine hX_goM 1 (25) [some (.ref 51), some (.ref 1024), none] [.int 0] rfl ?_
    have h := Option.some.inj h; subst h
    exact hX_end rfl rfl rfl
  · skip
    have h := gcF c1 h
    refine hX_goM 6 (18) [some (.ref 51), some (.ref 1024), none] [.ref 1024, .int (rq.2.2.2.1 - rq.2.2.1)] rfl ?_
    revert h; refine gBindR fun q2 e2 h => ?_
    refine hX_call (r' := zR_0) rfl (mt_0_1024 N q2 e2) ?_
    refine hX_goM 1 (bif gCmp .eq (rq.2.2.2.1 - rq.2.2.1) q2 then 26 else 24) [some (.ref 51), some (.ref 1024), none] [] rfl ?_
    refine hX_if (gCmp .eq (rq.2.2.2.1 - rq.2.2.1) q2) (fun c3 => ?_) (fun c3 => ?_)
    · skip
      have h := gcT c3 h
      refine hX_goM 2 (28) [some (.ref 51), some (.ref 1024), some (.int 0)] [] rfl ?_
      exact lt_38_51_1024_28 N 0 q h
    · skip
      have h := gcF c3 h
      refine hX_goM 1 (25) [some (.ref 51), some (.ref 1024), none] [.int 0] rfl ?_
      have h := Option.some.inj h; subst h
      exact hX_end rfl rfl rfl


/-- java/lang/String.coder()B -/
def me_2_1025 (N : Nat) : Option (Int32) :=
  some (0)
set_option maxRecDepth 20000 in
set_option maxHeartbeats 4000000 in
theorem mt_2_1025 {LL : Nat} {xs : Nat → Int32} {D : Nat} {b d k s w : hB} {ik ex pr wd : Int32} {sn : Nat → Int64} {qu tb : Nat → Int32} {ts : Int32} {r0 : Value} {rq : hRq} {h0 h1 h2 h3 : hSt} {fi : Nat → Int32} {R : List gE} (N : Nat) (q : Int32) (h : me_2_1025 N = some q) : hM (gO LL xs) (D + 0) zR_2 [.ref 1025] (hCm b d k s w ik ex pr wd sn qu tb ts (r0, rq) h0 h1 h2 h3 fi R) (some (.int q)) (hCm b d k s w ik ex pr wd sn qu tb ts (r0, rq) h0 h1 h2 h3 fi R) := by
  unfold me_2_1025 at h
  refine hX_go 0 0 [some (.ref 1025)] [] (hCm b d k s w ik ex pr wd sn qu tb ts (r0, rq) h0 h1 h2 h3 fi R) rfl ?_
  refine hX_go 5 (14) [some (.ref 1025)] [.int 0] (hCm b d k s w ik ex pr wd sn qu tb ts (r0, rq) h0 h1 h2 h3 fi R) rfl ?_
  have h := Option.some.inj h; subst h
  exact hX_end rfl rfl rfl


/-- java/lang/String.length()I -/
def me_0_1025 (N : Nat) : Option (Int32) :=
  (Option.bind (me_2_1025 N) fun q1 =>
  some ((2 : Int32) >>> (q1 &&& 31)))
set_option maxRecDepth 20000 in
set_option maxHeartbeats 4000000 in
theorem mt_0_1025 {LL : Nat} {xs : Nat → Int32} {D : Nat} {b d k s w : hB} {ik ex pr wd : Int32} {sn : Nat → Int64} {qu tb : Nat → Int32} {ts : Int32} {r0 : Value} {rq : hRq} {h0 h1 h2 h3 : hSt} {fi : Nat → Int32} {R : List gE} (N : Nat) (q : Int32) (h : me_0_1025 N = some q) : hM (gO LL xs) (D + 1) zR_0 [.ref 1025] (hCm b d k s w ik ex pr wd sn qu tb ts (r0, rq) h0 h1 h2 h3 fi R) (some (.int q)) (hCm b d k s w ik ex pr wd sn qu tb ts (r0, rq) h0 h1 h2 h3 fi R) := by
  unfold me_0_1025 at h
  refine hX_go 0 0 [some (.ref 1025)] [] (hCm b d k s w ik ex pr wd sn qu tb ts (r0, rq) h0 h1 h2 h3 fi R) rfl ?_
  refine hX_go 4 (6) [some (.ref 1025)] [.ref 1025, .int 2] (hCm b d k s w ik ex pr wd sn qu tb ts (r0, rq) h0 h1 h2 h3 fi R) rfl ?_
  revert h; refine gBindR fun q1 e1 h => ?_
  refine hX_call (r' := zR_2) rfl (mt_2_1025 N q1 e1) ?_
  refine hX_goM 1 (10) [some (.ref 1025)] [.int ((2 : Int32) >>> (q1 &&& 31))] rfl ?_
  have h := Option.some.inj h; subst h
  exact hX_end rfl rfl rfl


/-- java/lang/String.isLatin1()Z -/
def me_3_1025 (N : Nat) : Option (Int32) :=
  some (1)
set_option maxRecDepth 20000 in
set_option maxHeartbeats 4000000 in
theorem mt_3_1025 {LL : Nat} {xs : Nat → Int32} {D : Nat} {b d k s w : hB} {ik ex pr wd : Int32} {sn : Nat → Int64} {qu tb : Nat → Int32} {ts : Int32} {r0 : Value} {rq : hRq} {h0 h1 h2 h3 : hSt} {fi : Nat → Int32} {R : List gE} (N : Nat) (q : Int32) (h : me_3_1025 N = some q) : hM (gO LL xs) (D + 0) zR_3 [.ref 1025] (hCm b d k s w ik ex pr wd sn qu tb ts (r0, rq) h0 h1 h2 h3 fi R) (some (.int q)) (hCm b d k s w ik ex pr wd sn qu tb ts (r0, rq) h0 h1 h2 h3 fi R) := by
  unfold me_3_1025 at h
  refine hX_go 0 0 [some (.ref 1025)] [] (hCm b d k s w ik ex pr wd sn qu tb ts (r0, rq) h0 h1 h2 h3 fi R) rfl ?_
  refine hX_go 7 (18) [some (.ref 1025)] [.int 1] (hCm b d k s w ik ex pr wd sn qu tb ts (r0, rq) h0 h1 h2 h3 fi R) rfl ?_
  have h := Option.some.inj h; subst h
  exact hX_end rfl rfl rfl


/-- java/lang/StringLatin1.charAt([BI)C -/
def me_5_1045 (N : Nat) (x0 : Int32) : Option (Int32) :=
  (Option.bind (me_4 N x0 2) fun q1 =>
  (bif gIn x0 2 then (bif decide (vp_nar .char (((Int32.toUInt32 (((gYf 15) (Int32.toNatClampNeg x0)) &&& 255)) % 65536).toInt32) = ((Int32.toUInt32 (((gYf 15) (Int32.toNatClampNeg x0)) &&& 255)) % 65536).toInt32) then some (((Int32.toUInt32 (((gYf 15) (Int32.toNatClampNeg x0)) &&& 255)) % 65536).toInt32) else none) else none))
set_option maxRecDepth 20000 in
set_option maxHeartbeats 4000000 in
theorem mt_5_1045 {LL : Nat} {xs : Nat → Int32} {D : Nat} {b d k s w : hB} {ik ex pr wd : Int32} {sn : Nat → Int64} {qu tb : Nat → Int32} {ts : Int32} {r0 : Value} {rq : hRq} {h0 h1 h2 h3 : hSt} {fi : Nat → Int32} {R : List gE} (N : Nat) (x0 : Int32) (q : Int32) (h : me_5_1045 N x0 = some q) : hM (gO LL xs) (D + 2) zR_5 [.ref 1045, .int x0] (hCm b d k s w ik ex pr wd sn qu tb ts (r0, rq) h0 h1 h2 h3 fi R) (some (.int q)) (hCm b d k s w ik ex pr wd sn qu tb ts (r0, rq) h0 h1 h2 h3 fi R) := by
  unfold me_5_1045 at h
  refine hX_go 0 0 [some (.ref 1045), some (.int x0)] [] (hCm b d k s w ik ex pr wd sn qu tb ts (r0, rq) h0 h1 h2 h3 fi R) rfl ?_
  refine hX_go 3 (3) [some (.ref 1045), some (.int x0)] [.int 2, .int x0] (hCm b d k s w ik ex pr wd sn qu tb ts (r0, rq) h0 h1 h2 h3 fi R) rfl ?_
  revert h; refine gBindR fun q1 e1 h => ?_
  refine hX_call (r' := zR_4) rfl (mt_4 N x0 2 q1 e1) ?_
  refine hX_goM 2 (8) [some (.ref 1045), some (.int x0)] [.int x0, .ref 1045] rfl ?_
  revert h; refine gCondR fun g2 h => ?_
  refine hX_gM (gIn x0 2) 9 [some (.ref 1045), some (.int x0)] [.int ((gYf 15) (Int32.toNatClampNeg x0))] rfl g2 ?_
  refine hX_goM 3 (14) [some (.ref 1045), some (.int x0)] [.int (((Int32.toUInt32 (((gYf 15) (Int32.toNatClampNeg x0)) &&& 255)) % 65536).toInt32)] rfl ?_
  revert h; refine gCondR fun g3 h => ?_
  have h := Option.some.inj h; subst h
  exact hX_endG (decide (vp_nar .char (((Int32.toUInt32 (((gYf 15) (Int32.toNatClampNeg x0)) &&& 255)) % 65536).toInt32) = ((Int32.toUInt32 (((gYf 15) (Int32.toNatClampNeg x0)) &&& 255)) % 65536).toInt32)) rfl g3 rfl rfl


/-- java/lang/String.charAt(I)C -/
def me_1_1025 (N : Nat) (x0 : Int32) : Option (Int32) :=
  (Option.bind (me_3_1025 N) fun q1 =>
  (bif !(gCmp .eq q1 0) then (Option.bind (me_5_1045 N x0) fun q3 =>
  (bif decide (vp_nar .char q3 = q3) then some (q3) else none)) else none))
set_option maxRecDepth 20000 in
set_option maxHeartbeats 4000000 in
theorem mt_1_1025 {LL : Nat} {xs : Nat → Int32} {D : Nat} {b d k s w : hB} {ik ex pr wd : Int32} {sn : Nat → Int64} {qu tb : Nat → Int32} {ts : Int32} {r0 : Value} {rq : hRq} {h0 h1 h2 h3 : hSt} {fi : Nat → Int32} {R : List gE} (N : Nat) (x0 : Int32) (q : Int32) (h : me_1_1025 N x0 = some q) : hM (gO LL xs) (D + 3) zR_1 [.ref 1025, .int x0] (hCm b d k s w ik ex pr wd sn qu tb ts (r0, rq) h0 h1 h2 h3 fi R) (some (.int q)) (hCm b d k s w ik ex pr wd sn qu tb ts (r0, rq) h0 h1 h2 h3 fi R) := by
  unfold me_1_1025 at h
  refine hX_go 0 0 [some (.ref 1025), some (.int x0)] [] (hCm b d k s w ik ex pr wd sn qu tb ts (r0, rq) h0 h1 h2 h3 fi R) rfl ?_
  refine hX_go 1 (1) [some (.ref 1025), some (.int x0)] [.ref 1025] (hCm b d k s w ik ex pr wd sn qu tb ts (r0, rq) h0 h1 h2 h3 fi R) rfl ?_
  revert h; refine gBindR fun q1 e1 h => ?_
  refine hX_call (r' := zR_3) rfl (mt_3_1025 N q1 e1) ?_
  refine hX_goM 1 (bif gCmp .eq q1 0 then 16 else 7) [some (.ref 1025), some (.int x0)] [] rfl ?_
  revert h; refine gCondR fun g2 h => ?_
  refine hX_ifF (gCmp .eq q1 0) (gNot g2) ?_
  refine hX_goM 3 (12) [some (.ref 1025), some (.int x0)] [.int x0, .ref 1045] rfl ?_
  revert h; refine gBindR fun q3 e3 h => ?_
  refine hX_call (r' := zR_5) rfl (mt_5_1045 N x0 q3 e3) ?_
  refine hX_goM 0 (15) [some (.ref 1025), some (.int x0)] [.int q3] rfl ?_
  revert h; refine gCondR fun g4 h => ?_
  have h := Option.some.inj h; subst h
  exact hX_endG (decide (vp_nar .char q3 = q3)) rfl g4 rfl rfl

/-- UpOneSide$Reader.isWord: the loop at 28 -/
def lp_38_51_1025_28 (N : Nat) (tb : Nat → Int32) (rq : hRq) : Nat → Int32 → Option (Int32)
  | 0, _ => none
  | n + 1, y2 =>
    (Option.bind (me_0_1025 N) fun q1 =>
    (bif gCmp .ge y2 q1 then
      some (1)
    else
      (bif gCmp .ge (rq.2.2.1 + y2) rq.1 then
        some (1)
      else
        (bif gIn (rq.2.2.1 + y2) 120 then (Option.bind (me_1_1025 N y2) fun q5 =>
        (bif gCmp .eq (tb (Int32.toNatClampNeg (rq.2.2.1 + y2))) q5 then
          lp_38_51_1025_28 N tb rq n (y2 + 1)
        else
          some (0))) else none))))
set_option maxRecDepth 20000 in
set_option maxHeartbeats 4000000 in
theorem lt_38_51_1025_28 {LL : Nat} {xs : Nat → Int32} {D N : Nat} {b d k s w : hB} {ik ex pr wd : Int32} {sn : Nat → Int64} {qu tb : Nat → Int32} {ts : Int32} {rq : hRq} {h0 h1 h2 h3 : hSt} {fi : Nat → Int32} {R : List gE} : ∀ (n : Nat) (y2 : Int32) (q : Int32), lp_38_51_1025_28 N tb rq n y2 = some q → hX (gO LL xs) (D + 4) zR_38 28 [some (.ref 51), some (.ref 1025), some (.int y2)] [] (hCm b d k s w ik ex pr wd sn qu tb ts (.ref 50, rq) h0 h1 h2 h3 fi R) (some (.int q)) (hCm b d k s w ik ex pr wd sn qu tb ts (.ref 50, rq) h0 h1 h2 h3 fi R) := by
  intro n
  induction n with
  | zero => intro y2 q h; cases h
  | succ n ih =>
    intro y2 q h
    rw [lp_38_51_1025_28] at h
    refine hX_go 2 (30) [some (.ref 51), some (.ref 1025), some (.int y2)] [.ref 1025, .int y2] (hCm b d k s w ik ex pr wd sn qu tb ts (.ref 50, rq) h0 h1 h2 h3 fi R) rfl ?_
    revert h; refine gBindR fun q1 e1 h => ?_
    refine hX_call (r' := zR_0) rfl (mt_0_1025 N q1 e1) ?_
    refine hX_goM 1 (bif gCmp .ge y2 q1 then 76 else 36) [some (.ref 51), some (.ref 1025), some (.int y2)] [] rfl ?_
    refine hX_if (gCmp .ge y2 q1) (fun c2 => ?_) (fun c2 => ?_)
    · skip
      have h := gcT c2 h
      refine hX_goM 1 (77) [some (.ref 51), some (.ref 1025), some (.int y2)] [.int 1] rfl ?_
      have h := Option.some.inj h; subst h
      exact hX_end rfl rfl rfl
    · skip
      have h := gcF c2 h
      refine hX_goM 7 (bif gCmp .ge (rq.2.2.1 + y2) rq.1 then 76 else 49) [some (.ref 51), some (.ref 1025), some (.int y2)] [] rfl ?_
      refine hX_if (gCmp .ge (rq.2.2.1 + y2) rq.1) (fun c3 => ?_) (fun c3 => ?_)
      · skip
        have h := gcT c3 h
        refine hX_goM 1 (77) [some (.ref 51), some (.ref 1025), some (.int y2)] [.int 1] rfl ?_
        have h := Option.some.inj h; subst h
        exact hX_end rfl rfl rfl
      · skip
        have h := gcF c3 h
        refine hX_goM 6 (59) [some (.ref 51), some (.ref 1025), some (.int y2)] [.int (rq.2.2.1 + y2), .ref 50] rfl ?_
        revert h; refine gCondR fun g4 h => ?_
        refine hX_gM (gIn (rq.2.2.1 + y2) 120) 60 [some (.ref 51), some (.ref 1025), some (.int y2)] [.int (tb (Int32.toNatClampNeg (rq.2.2.1 + y2)))] rfl g4 ?_
        refine hX_goM 2 (62) [some (.ref 51), some (.ref 1025), some (.int y2)] [.int y2, .ref 1025, .int (tb (Int32.toNatClampNeg (rq.2.2.1 + y2)))] rfl ?_
        revert h; refine gBindR fun q5 e5 h => ?_
        refine hX_call (r' := zR_1) rfl (mt_1_1025 N y2 q5 e5) ?_
        refine hX_goM 1 (bif gCmp .eq (tb (Int32.toNatClampNeg (rq.2.2.1 + y2))) q5 then 70 else 68) [some (.ref 51), some (.ref 1025), some (.int y2)] [] rfl ?_
        refine hX_if (gCmp .eq (tb (Int32.toNatClampNeg (rq.2.2.1 + y2))) q5) (fun c6 => ?_) (fun c6 => ?_)
        · skip
          have h := gcT c6 h
          refine hX_goM 2 (28) [some (.ref 51), some (.ref 1025), some (.int (y2 + 1))] [] rfl ?_
          exact ih (y2 + 1) q h
        · skip
          have h := gcF c6 h
          refine hX_goM 1 (69) [some (.ref 51), some (.ref 1025), some (.int y2)] [.int 0] rfl ?_
          have h := Option.some.inj h; subst h
          exact hX_end rfl rfl rfl

/-- UpOneSide$Reader.isWord(Ljava/lang/String;)Z -/
def me_38_51_1025 (N : Nat) (tb : Nat → Int32) (rq : hRq) : Option (Int32) :=
  (bif gCmp .ne rq.2.1 1 then
    some (0)
  else
    (Option.bind (me_0_1025 N) fun q2 =>
    (bif gCmp .eq (rq.2.2.2.1 - rq.2.2.1) q2 then
      lp_38_51_1025_28 N tb rq N 0
    else
      some (0))))
set_option maxRecDepth 20000 in
set_option maxHeartbeats 4000000 in
theorem mt_38_51_1025 {LL : Nat} {xs : Nat → Int32} {D : Nat} {b d k s w : hB} {ik ex pr wd : Int32} {sn : Nat → Int64} {qu tb : Nat → Int32} {ts : Int32} {rq : hRq} {h0 h1 h2 h3 : hSt} {fi : Nat → Int32} {R : List gE} (N : Nat) (q : Int32) (h : me_38_51_1025 N tb rq = some q) : hM (gO LL xs) (D + 4) zR_38 [.ref 51, .ref 1025] (hCm b d k s w ik ex pr wd sn qu tb ts (.ref 50, rq) h0 h1 h2 h3 fi R) (some (.int q)) (hCm b d k s w ik ex pr wd sn qu tb ts (.ref 50, rq) h0 h1 h2 h3 fi R) := by
  unfold me_38_51_1025 at h
  refine hX_go 0 0 [some (.ref 51), some (.ref 1025), none] [] (hCm b d k s w ik ex pr wd sn qu tb ts (.ref 50, rq) h0 h1 h2 h3 fi R) rfl ?_
  refine hX_go 4 (bif gCmp .ne rq.2.1 1 then 24 else 8) [some (.ref 51), some (.ref 1025), none] [] (hCm b d k s w ik ex pr wd sn qu tb ts (.ref 50, rq) h0 h1 h2 h3 fi R) rfl ?_
  refine hX_if (gCmp .ne rq.2.1 1) (fun c1 => ?_) (fun c1 => ?_)
  · skip
    have h := gcT c1 h
    refine hX_goM 1 (25) [some (.ref 51), some (.ref 1025), none] [.int 0] rfl ?_
    have h := Option.some.inj h; subst h
    exact hX_end rfl rfl rfl
  · skip
    have h := gcF c1 h
    refine hX_goM 6 (18) [some (.ref 51), some (.ref 1025), none] [.ref 1025, .int (rq.2.2.2.1 - rq.2.2.1)] rfl ?_
    revert h; refine gBindR fun q2 e2 h => ?_
    refine hX_call (r' := zR_0) rfl (mt_0_1025 N q2 e2) ?_
    refine hX_goM 1 (bif gCmp .eq (rq.2.2.2.1 - rq.2.2.1) q2 then 26 else 24) [some (.ref 51), some (.ref 1025), none] [] rfl ?_
    refine hX_if (gCmp .eq (rq.2.2.2.1 - rq.2.2.1) q2) (fun c3 => ?_) (fun c3 => ?_)
    · skip
      have h := gcT c3 h
      refine hX_goM 2 (28) [some (.ref 51), some (.ref 1025), some (.int 0)] [] rfl ?_
      exact lt_38_51_1025_28 N 0 q h
    · skip
      have h := gcF c3 h
      refine hX_goM 1 (25) [some (.ref 51), some (.ref 1025), none] [.int 0] rfl ?_
      have h := Option.some.inj h; subst h
      exact hX_end rfl rfl rfl

/-- UpOneSide$Reader.fail()V -/
def f_39_51_rq (rq : hRq) : hRq := (rq.1, rq.2.1, rq.2.2.1, rq.2.2.2.1, rq.2.2.2.2.1, bif gCmp .ne rq.2.2.2.2.2 (-1) then rq.2.2.2.2.2 else rq.2.2.1)
set_option maxRecDepth 20000 in
set_option maxHeartbeats 1000000 in
theorem ct_39_51 {LL : Nat} {xs : Nat → Int32} {D : Nat} {b d k s w : hB} {ik ex pr wd : Int32} {sn : Nat → Int64} {qu tb : Nat → Int32} {ts : Int32} {r0 : Value} {rq : hRq} {h0 h1 h2 h3 : hSt} {fi : Nat → Int32} {R : List gE} : hM (gO LL xs) (D + 0) zR_39 [.ref 51] (hCm b d k s w ik ex pr wd sn qu tb ts (r0, rq) h0 h1 h2 h3 fi R) none (hCm b d k s w ik ex pr wd sn qu tb ts (r0, (f_39_51_rq rq)) h0 h1 h2 h3 fi R) := by
  refine hX_go 0 0 [some (.ref 51)] [] (hCm b d k s w ik ex pr wd sn qu tb ts (r0, rq) h0 h1 h2 h3 fi R) rfl ?_
  refine hX_go 4 (bif gCmp .ne rq.2.2.2.2.2 (-1) then 16 else 8) [some (.ref 51)] [] (hCm b d k s w ik ex pr wd sn qu tb ts (r0, rq) h0 h1 h2 h3 fi R) rfl ?_
  suffices hk : hX (gO LL xs) (D + 0) zR_39 16 [some (.ref 51)] [] (hCm b d k s w ik ex pr wd sn qu tb ts (r0, (rq.1, rq.2.1, rq.2.2.1, rq.2.2.2.1, rq.2.2.2.2.1, bif gCmp .ne rq.2.2.2.2.2 (-1) then rq.2.2.2.2.2 else rq.2.2.1)) h0 h1 h2 h3 fi R) none (hCm b d k s w ik ex pr wd sn qu tb ts (r0, (f_39_51_rq rq)) h0 h1 h2 h3 fi R) by
    refine hX_if (gCmp .ne rq.2.2.2.2.2 (-1)) (fun c1 => ?_) (fun c1 => ?_)
    · skip
      have hk := hk
      simp only [c1, cond_true, cond_false] at hk
      first | exact hk | (simp only [c1, cond_true, cond_false]; exact hk)
    · skip
      refine hX_go 4 (16) [some (.ref 51)] [] (hCm b d k s w ik ex pr wd sn qu tb ts (r0, (rq.1, rq.2.1, rq.2.2.1, rq.2.2.2.1, rq.2.2.2.2.1, rq.2.2.1)) h0 h1 h2 h3 fi R) rfl ?_
      have hk := hk
      simp only [c1, cond_true, cond_false] at hk
      first | exact hk | (simp only [c1, cond_true, cond_false]; exact hk)
  exact hX_end rfl (rfl) (rfl)


/-- UpOneSide$Reader.number(II)I -/
def me_35_51 (N : Nat) (x0 : Int32) (x1 : Int32) (tb : Nat → Int32) (rq : hRq) : Option (Int32 × hRq) :=
  (bif gCmp .eq (bif gCmp .ge x0 0 then 0 else (bif gCmp .ne rq.2.1 4 then 0 else 1)) 0 then
    (bif gCmp .ne rq.2.1 2 then
      some (0, (f_39_51_rq rq))
    else
      (bif gCmp .le rq.2.2.2.2.1 x1 then
        (Option.bind (me_40_51 N tb rq) fun q10 =>
        some (bif gCmp .eq (bif gCmp .ge x0 0 then 0 else (bif gCmp .ne rq.2.1 4 then 0 else 1)) 0 then rq.2.2.2.2.1 else (-rq.2.2.2.2.1), q10))
      else
        some (0, (f_39_51_rq rq))))
  else
    (Option.bind (me_40_51 N tb rq) fun q11 =>
    (bif gCmp .ne q11.2.1 2 then
      some (0, (f_39_51_rq q11))
    else
      (bif gCmp .le q11.2.2.2.2.1 x1 then
        (Option.bind (me_40_51 N tb q11) fun q16 =>
        some (bif gCmp .eq (bif gCmp .ge x0 0 then 0 else (bif gCmp .ne rq.2.1 4 then 0 else 1)) 0 then q11.2.2.2.2.1 else (-q11.2.2.2.2.1), q16))
      else
        some (0, (f_39_51_rq q11))))))
set_option maxRecDepth 20000 in
set_option maxHeartbeats 4000000 in
theorem mt_35_51 {LL : Nat} {xs : Nat → Int32} {D : Nat} {b d k s w : hB} {ik ex pr wd : Int32} {sn : Nat → Int64} {qu tb : Nat → Int32} {ts : Int32} {rq : hRq} {h0 h1 h2 h3 : hSt} {fi : Nat → Int32} {R : List gE} (N : Nat) (x0 : Int32) (x1 : Int32) (q : Int32 × hRq) (h : me_35_51 N x0 x1 tb rq = some q) : hM (gO LL xs) (D + 2) zR_35 [.ref 51, .int x0, .int x1] (hCm b d k s w ik ex pr wd sn qu tb ts (.ref 50, rq) h0 h1 h2 h3 fi R) (some (.int q.1)) (hCm b d k s w ik ex pr wd sn qu tb ts (.ref 50, q.2) h0 h1 h2 h3 fi R) := by
  unfold me_35_51 at h
  refine hX_go 0 0 [some (.ref 51), some (.int x0), some (.int x1), none, none] [] (hCm b d k s w ik ex pr wd sn qu tb ts (.ref 50, rq) h0 h1 h2 h3 fi R) rfl ?_
  refine hX_go 2 (bif gCmp .ge x0 0 then 16 else 4) [some (.ref 51), some (.int x0), some (.int x1), none, none] [] (hCm b d k s w ik ex pr wd sn qu tb ts (.ref 50, rq) h0 h1 h2 h3 fi R) rfl ?_
  refine hX_mrg 17 [some (.ref 51), some (.int x0), some (.int x1), none, none] [.int (bif gCmp .ge x0 0 then 0 else (bif gCmp .ne rq.2.1 4 then 0 else 1))] (hCm b d k s w ik ex pr wd sn qu tb ts (.ref 50, rq) h0 h1 h2 h3 fi R) (fun hk => ?_) ?_
  · skip
    refine hX_if (gCmp .ge x0 0) (fun c3 => ?_) (fun c3 => ?_)
    · skip
      refine hX_goM 1 (17) [some (.ref 51), some (.int x0), some (.int x1), none, none] [.int 0] rfl ?_
      have hk := hk
      simp only [c3, cond_true, cond_false] at hk
      first | exact hk | (simp only [c3, cond_true, cond_false]; exact hk)
    · skip
      refine hX_goM 4 (bif gCmp .ne rq.2.1 4 then 16 else 12) [some (.ref 51), some (.int x0), some (.int x1), none, none] [] rfl ?_
      refine hX_if (gCmp .ne rq.2.1 4) (fun c4 => ?_) (fun c4 => ?_)
      · skip
        refine hX_goM 1 (17) [some (.ref 51), some (.int x0), some (.int x1), none, none] [.int 0] rfl ?_
        have hk := hk
        simp only [c3, c4, cond_true, cond_false] at hk
        first | exact hk | (simp only [c3, c4, cond_true, cond_false]; exact hk)
      · skip
        refine hX_goM 2 (17) [some (.ref 51), some (.int x0), some (.int x1), none, none] [.int 1] rfl ?_
        have hk := hk
        simp only [c3, c4, cond_true, cond_false] at hk
        first | exact hk | (simp only [c3, c4, cond_true, cond_false]; exact hk)
  refine hX_goM 3 (bif gCmp .eq (bif gCmp .ge x0 0 then 0 else (bif gCmp .ne rq.2.1 4 then 0 else 1)) 0 then 26 else 22) [some (.ref 51), some (.int x0), some (.int x1), some (.int (bif gCmp .ge x0 0 then 0 else (bif gCmp .ne rq.2.1 4 then 0 else 1))), none] [] rfl ?_
  refine hX_if (gCmp .eq (bif gCmp .ge x0 0 then 0 else (bif gCmp .ne rq.2.1 4 then 0 else 1)) 0) (fun c5 => ?_) (fun c5 => ?_)
  · skip
    have h := gcT c5 h
    refine hX_goM 4 (bif gCmp .ne rq.2.1 2 then 42 else 34) [some (.ref 51), some (.int x0), some (.int x1), some (.int (bif gCmp .ge x0 0 then 0 else (bif gCmp .ne rq.2.1 4 then 0 else 1))), none] [] rfl ?_
    refine hX_if (gCmp .ne rq.2.1 2) (fun c6 => ?_) (fun c6 => ?_)
    · skip
      have h := gcT c6 h
      refine hX_goM 1 (43) [some (.ref 51), some (.int x0), some (.int x1), some (.int (bif gCmp .ge x0 0 then 0 else (bif gCmp .ne rq.2.1 4 then 0 else 1))), none] [.ref 51] rfl ?_
      refine hX_call (r' := zR_39) rfl (ct_39_51) ?_
      refine hX_go 1 (47) [some (.ref 51), some (.int x0), some (.int x1), some (.int (bif gCmp .ge x0 0 then 0 else (bif gCmp .ne rq.2.1 4 then 0 else 1))), none] [.int 0] (hCm b d k s w ik ex pr wd sn qu tb ts (.ref 50, (f_39_51_rq rq)) h0 h1 h2 h3 fi R) rfl ?_
      have h := Option.some.inj h; subst h
      exact hX_end rfl rfl rfl
    · skip
      have h := gcF c6 h
      refine hX_goM 4 (bif gCmp .le rq.2.2.2.2.1 x1 then 48 else 42) [some (.ref 51), some (.int x0), some (.int x1), some (.int (bif gCmp .ge x0 0 then 0 else (bif gCmp .ne rq.2.1 4 then 0 else 1))), none] [] rfl ?_
      refine hX_if (gCmp .le rq.2.2.2.2.1 x1) (fun c7 => ?_) (fun c7 => ?_)
      · skip
        have h := gcT c7 h
        refine hX_goM 2 (bif gCmp .eq (bif gCmp .ge x0 0 then 0 else (bif gCmp .ne rq.2.1 4 then 0 else 1)) 0 then 60 else 52) [some (.ref 51), some (.int x0), some (.int x1), some (.int (bif gCmp .ge x0 0 then 0 else (bif gCmp .ne rq.2.1 4 then 0 else 1))), none] [] rfl ?_
        refine hX_mrg 64 [some (.ref 51), some (.int x0), some (.int x1), some (.int (bif gCmp .ge x0 0 then 0 else (bif gCmp .ne rq.2.1 4 then 0 else 1))), none] [.int (bif gCmp .eq (bif gCmp .ge x0 0 then 0 else (bif gCmp .ne rq.2.1 4 then 0 else 1)) 0 then rq.2.2.2.2.1 else (-rq.2.2.2.2.1))] (hCm b d k s w ik ex pr wd sn qu tb ts (.ref 50, rq) h0 h1 h2 h3 fi R) (fun hk => ?_) ?_
        · skip
          refine hX_if (gCmp .eq (bif gCmp .ge x0 0 then 0 else (bif gCmp .ne rq.2.1 4 then 0 else 1)) 0) (fun c9 => ?_) (fun c9 => ?_)
          · skip
            refine hX_goM 2 (64) [some (.ref 51), some (.int x0), some (.int x1), some (.int (bif gCmp .ge x0 0 then 0 else (bif gCmp .ne rq.2.1 4 then 0 else 1))), none] [.int rq.2.2.2.2.1] rfl ?_
            have hk := hk
            simp only [c9, cond_true, cond_false] at hk
            first | exact hk | (simp only [c9, cond_true, cond_false]; exact hk)
          · skip
            refine hX_goM 4 (64) [some (.ref 51), some (.int x0), some (.int x1), some (.int (bif gCmp .ge x0 0 then 0 else (bif gCmp .ne rq.2.1 4 then 0 else 1))), none] [.int (-rq.2.2.2.2.1)] rfl ?_
            have hk := hk
            simp only [c9, cond_true, cond_false] at hk
            first | exact hk | (simp only [c9, cond_true, cond_false]; exact hk)
        refine hX_goM 2 (67) [some (.ref 51), some (.int x0), some (.int x1), some (.int (bif gCmp .ge x0 0 then 0 else (bif gCmp .ne rq.2.1 4 then 0 else 1))), some (.int (bif gCmp .eq (bif gCmp .ge x0 0 then 0 else (bif gCmp .ne rq.2.1 4 then 0 else 1)) 0 then rq.2.2.2.2.1 else (-rq.2.2.2.2.1)))] [.ref 51] rfl ?_
        revert h; refine gBindR fun q10 e10 h => ?_
        refine hX_call (r' := zR_40) rfl (mt_40_51 N q10 e10) ?_
        refine hX_go 1 (72) [some (.ref 51), some (.int x0), some (.int x1), some (.int (bif gCmp .ge x0 0 then 0 else (bif gCmp .ne rq.2.1 4 then 0 else 1))), some (.int (bif gCmp .eq (bif gCmp .ge x0 0 then 0 else (bif gCmp .ne rq.2.1 4 then 0 else 1)) 0 then rq.2.2.2.2.1 else (-rq.2.2.2.2.1)))] [.int (bif gCmp .eq (bif gCmp .ge x0 0 then 0 else (bif gCmp .ne rq.2.1 4 then 0 else 1)) 0 then rq.2.2.2.2.1 else (-rq.2.2.2.2.1))] (hCm b d k s w ik ex pr wd sn qu tb ts (.ref 50, q10) h0 h1 h2 h3 fi R) rfl ?_
        have h := Option.some.inj h; subst h
        exact hX_end rfl rfl rfl
      · skip
        have h := gcF c7 h
        refine hX_goM 1 (43) [some (.ref 51), some (.int x0), some (.int x1), some (.int (bif gCmp .ge x0 0 then 0 else (bif gCmp .ne rq.2.1 4 then 0 else 1))), none] [.ref 51] rfl ?_
        refine hX_call (r' := zR_39) rfl (ct_39_51) ?_
        refine hX_go 1 (47) [some (.ref 51), some (.int x0), some (.int x1), some (.int (bif gCmp .ge x0 0 then 0 else (bif gCmp .ne rq.2.1 4 then 0 else 1))), none] [.int 0] (hCm b d k s w ik ex pr wd sn qu tb ts (.ref 50, (f_39_51_rq rq)) h0 h1 h2 h3 fi R) rfl ?_
        have h := Option.some.inj h; subst h
        exact hX_end rfl rfl rfl
  · skip
    have h := gcF c5 h
    refine hX_goM 1 (23) [some (.ref 51), some (.int x0), some (.int x1), some (.int (bif gCmp .ge x0 0 then 0 else (bif gCmp .ne rq.2.1 4 then 0 else 1))), none] [.ref 51] rfl ?_
    revert h; refine gBindR fun q11 e11 h => ?_
    refine hX_call (r' := zR_40) rfl (mt_40_51 N q11 e11) ?_
    refine hX_go 4 (bif gCmp .ne q11.2.1 2 then 42 else 34) [some (.ref 51), some (.int x0), some (.int x1), some (.int (bif gCmp .ge x0 0 then 0 else (bif gCmp .ne rq.2.1 4 then 0 else 1))), none] [] (hCm b d k s w ik ex pr wd sn qu tb ts (.ref 50, q11) h0 h1 h2 h3 fi R) rfl ?_
    refine hX_if (gCmp .ne q11.2.1 2) (fun c12 => ?_) (fun c12 => ?_)
    · skip
      have h := gcT c12 h
      refine hX_goM 1 (43) [some (.ref 51), some (.int x0), some (.int x1), some (.int (bif gCmp .ge x0 0 then 0 else (bif gCmp .ne rq.2.1 4 then 0 else 1))), none] [.ref 51] rfl ?_
      refine hX_call (r' := zR_39) rfl (ct_39_51) ?_
      refine hX_go 1 (47) [some (.ref 51), some (.int x0), some (.int x1), some (.int (bif gCmp .ge x0 0 then 0 else (bif gCmp .ne rq.2.1 4 then 0 else 1))), none] [.int 0] (hCm b d k s w ik ex pr wd sn qu tb ts (.ref 50, (f_39_51_rq q11)) h0 h1 h2 h3 fi R) rfl ?_
      have h := Option.some.inj h; subst h
      exact hX_end rfl rfl rfl
    · skip
      have h := gcF c12 h
      refine hX_goM 4 (bif gCmp .le q11.2.2.2.2.1 x1 then 48 else 42) [some (.ref 51), some (.int x0), some (.int x1), some (.int (bif gCmp .ge x0 0 then 0 else (bif gCmp .ne rq.2.1 4 then 0 else 1))), none] [] rfl ?_
      refine hX_if (gCmp .le q11.2.2.2.2.1 x1) (fun c13 => ?_) (fun c13 => ?_)
      · skip
        have h := gcT c13 h
        refine hX_goM 2 (bif gCmp .eq (bif gCmp .ge x0 0 then 0 else (bif gCmp .ne rq.2.1 4 then 0 else 1)) 0 then 60 else 52) [some (.ref 51), some (.int x0), some (.int x1), some (.int (bif gCmp .ge x0 0 then 0 else (bif gCmp .ne rq.2.1 4 then 0 else 1))), none] [] rfl ?_
        refine hX_mrg 64 [some (.ref 51), some (.int x0), some (.int x1), some (.int (bif gCmp .ge x0 0 then 0 else (bif gCmp .ne rq.2.1 4 then 0 else 1))), none] [.int (bif gCmp .eq (bif gCmp .ge x0 0 then 0 else (bif gCmp .ne rq.2.1 4 then 0 else 1)) 0 then q11.2.2.2.2.1 else (-q11.2.2.2.2.1))] (hCm b d k s w ik ex pr wd sn qu tb ts (.ref 50, q11) h0 h1 h2 h3 fi R) (fun hk => ?_) ?_
        · skip
          refine hX_if (gCmp .eq (bif gCmp .ge x0 0 then 0 else (bif gCmp .ne rq.2.1 4 then 0 else 1)) 0) (fun c15 => ?_) (fun c15 => ?_)
          · skip
            refine hX_goM 2 (64) [some (.ref 51), some (.int x0), some (.int x1), some (.int (bif gCmp .ge x0 0 then 0 else (bif gCmp .ne rq.2.1 4 then 0 else 1))), none] [.int q11.2.2.2.2.1] rfl ?_
            have hk := hk
            simp only [c15, cond_true, cond_false] at hk
            first | exact hk | (simp only [c15, cond_true, cond_false]; exact hk)
          · skip
            refine hX_goM 4 (64) [some (.ref 51), some (.int x0), some (.int x1), some (.int (bif gCmp .ge x0 0 then 0 else (bif gCmp .ne rq.2.1 4 then 0 else 1))), none] [.int (-q11.2.2.2.2.1)] rfl ?_
            have hk := hk
            simp only [c15, cond_true, cond_false] at hk
            first | exact hk | (simp only [c15, cond_true, cond_false]; exact hk)
        refine hX_goM 2 (67) [some (.ref 51), some (.int x0), some (.int x1), some (.int (bif gCmp .ge x0 0 then 0 else (bif gCmp .ne rq.2.1 4 then 0 else 1))), some (.int (bif gCmp .eq (bif gCmp .ge x0 0 then 0 else (bif gCmp .ne rq.2.1 4 then 0 else 1)) 0 then q11.2.2.2.2.1 else (-q11.2.2.2.2.1)))] [.ref 51] rfl ?_
        revert h; refine gBindR fun q16 e16 h => ?_
        refine hX_call (r' := zR_40) rfl (mt_40_51 N q16 e16) ?_
        refine hX_go 1 (72) [some (.ref 51), some (.int x0), some (.int x1), some (.int (bif gCmp .ge x0 0 then 0 else (bif gCmp .ne rq.2.1 4 then 0 else 1))), some (.int (bif gCmp .eq (bif gCmp .ge x0 0 then 0 else (bif gCmp .ne rq.2.1 4 then 0 else 1)) 0 then q11.2.2.2.2.1 else (-q11.2.2.2.2.1)))] [.int (bif gCmp .eq (bif gCmp .ge x0 0 then 0 else (bif gCmp .ne rq.2.1 4 then 0 else 1)) 0 then q11.2.2.2.2.1 else (-q11.2.2.2.2.1))] (hCm b d k s w ik ex pr wd sn qu tb ts (.ref 50, q16) h0 h1 h2 h3 fi R) rfl ?_
        have h := Option.some.inj h; subst h
        exact hX_end rfl rfl rfl
      · skip
        have h := gcF c13 h
        refine hX_goM 1 (43) [some (.ref 51), some (.int x0), some (.int x1), some (.int (bif gCmp .ge x0 0 then 0 else (bif gCmp .ne rq.2.1 4 then 0 else 1))), none] [.ref 51] rfl ?_
        refine hX_call (r' := zR_39) rfl (ct_39_51) ?_
        refine hX_go 1 (47) [some (.ref 51), some (.int x0), some (.int x1), some (.int (bif gCmp .ge x0 0 then 0 else (bif gCmp .ne rq.2.1 4 then 0 else 1))), none] [.int 0] (hCm b d k s w ik ex pr wd sn qu tb ts (.ref 50, (f_39_51_rq q11)) h0 h1 h2 h3 fi R) rfl ?_
        have h := Option.some.inj h; subst h
        exact hX_end rfl rfl rfl


/-- UpOneSide$Reader.readRule(LUpOneSide$Blind;I)V -/
def me_34_51_10 (N : Nat) (x0 : Int32) (d : hB) (tb : Nat → Int32) (rq : hRq) : Option (hB × hRq) :=
  (Option.bind (me_40_51 N tb rq) fun q1 =>
  (bif gIn x0 6 then (bif gIn x0 6 then (Option.bind (me_35_51 N ((gSa 3).getD (Int32.toNatClampNeg x0) 0) ((gSa 4).getD (Int32.toNatClampNeg x0) 0) tb q1) fun q4 =>
  (bif gIn x0 6 then some ((d.1, d.2.1, d.2.2.1, d.2.2.2.1, d.2.2.2.2.1, d.2.2.2.2.2.1, d.2.2.2.2.2.2.1, d.2.2.2.2.2.2.2.1, upd d.2.2.2.2.2.2.2.2.1 (Int32.toNatClampNeg x0) q4.1, d.2.2.2.2.2.2.2.2.2), q4.2) else none)) else none) else none))
set_option maxRecDepth 20000 in
set_option maxHeartbeats 4000000 in
theorem mt_34_51_10 {LL : Nat} {xs : Nat → Int32} {D : Nat} {b d k s w : hB} {ik ex pr wd : Int32} {sn : Nat → Int64} {qu tb : Nat → Int32} {ts : Int32} {rq : hRq} {h0 h1 h2 h3 : hSt} {fi : Nat → Int32} {R : List gE} (N : Nat) (x0 : Int32) (q : hB × hRq) (h : me_34_51_10 N x0 d tb rq = some q) : hM (gO LL xs) (D + 3) zR_34 [.ref 51, .ref 10, .int x0] (hCm b d k s w ik ex pr wd sn qu tb ts (.ref 50, rq) h0 h1 h2 h3 fi R) none (hCm b q.1 k s w ik ex pr wd sn qu tb ts (.ref 50, q.2) h0 h1 h2 h3 fi R) := by
  unfold me_34_51_10 at h
  refine hX_go 0 0 [some (.ref 51), some (.ref 10), some (.int x0)] [] (hCm b d k s w ik ex pr wd sn qu tb ts (.ref 50, rq) h0 h1 h2 h3 fi R) rfl ?_
  refine hX_go 1 (1) [some (.ref 51), some (.ref 10), some (.int x0)] [.ref 51] (hCm b d k s w ik ex pr wd sn qu tb ts (.ref 50, rq) h0 h1 h2 h3 fi R) rfl ?_
  revert h; refine gBindR fun q1 e1 h => ?_
  refine hX_call (r' := zR_40) rfl (mt_40_51 N q1 e1) ?_
  refine hX_go 6 (14) [some (.ref 51), some (.ref 10), some (.int x0)] [.int x0, .ref 1003, .ref 51, .int x0, .ref 14] (hCm b d k s w ik ex pr wd sn qu tb ts (.ref 50, q1) h0 h1 h2 h3 fi R) rfl ?_
  revert h; refine gCondR fun g2 h => ?_
  refine hX_gM (gIn x0 6) 15 [some (.ref 51), some (.ref 10), some (.int x0)] [.int ((gSa 3).getD (Int32.toNatClampNeg x0) 0), .ref 51, .int x0, .ref 14] rfl g2 ?_
  refine hX_goM 2 (19) [some (.ref 51), some (.ref 10), some (.int x0)] [.int x0, .ref 1004, .int ((gSa 3).getD (Int32.toNatClampNeg x0) 0), .ref 51, .int x0, .ref 14] rfl ?_
  revert h; refine gCondR fun g3 h => ?_
  refine hX_gM (gIn x0 6) 20 [some (.ref 51), some (.ref 10), some (.int x0)] [.int ((gSa 4).getD (Int32.toNatClampNeg x0) 0), .int ((gSa 3).getD (Int32.toNatClampNeg x0) 0), .ref 51, .int x0, .ref 14] rfl g3 ?_
  revert h; refine gBindR fun q4 e4 h => ?_
  refine hX_call (r' := zR_35) rfl (mt_35_51 N ((gSa 3).getD (Int32.toNatClampNeg x0) 0) ((gSa 4).getD (Int32.toNatClampNeg x0) 0) q4 e4) ?_
  refine hX_go 0 (23) [some (.ref 51), some (.ref 10), some (.int x0)] [.int q4.1, .int x0, .ref 14] (hCm b d k s w ik ex pr wd sn qu tb ts (.ref 50, q4.2) h0 h1 h2 h3 fi R) rfl ?_
  revert h; refine gCondR fun g5 h => ?_
  refine hX_g (gIn x0 6) 24 [some (.ref 51), some (.ref 10), some (.int x0)] [] (hCm b (d.1, d.2.1, d.2.2.1, d.2.2.2.1, d.2.2.2.2.1, d.2.2.2.2.2.1, d.2.2.2.2.2.2.1, d.2.2.2.2.2.2.2.1, upd d.2.2.2.2.2.2.2.2.1 (Int32.toNatClampNeg x0) q4.1, d.2.2.2.2.2.2.2.2.2) k s w ik ex pr wd sn qu tb ts (.ref 50, q4.2) h0 h1 h2 h3 fi R) rfl g5 ?_
  have h := Option.some.inj h; subst h
  exact hX_end rfl rfl rfl


/-- java/lang/String.coder()B -/
def me_2_1017 (N : Nat) : Option (Int32) :=
  some (0)
set_option maxRecDepth 20000 in
set_option maxHeartbeats 4000000 in
theorem mt_2_1017 {LL : Nat} {xs : Nat → Int32} {D : Nat} {b d k s w : hB} {ik ex pr wd : Int32} {sn : Nat → Int64} {qu tb : Nat → Int32} {ts : Int32} {r0 : Value} {rq : hRq} {h0 h1 h2 h3 : hSt} {fi : Nat → Int32} {R : List gE} (N : Nat) (q : Int32) (h : me_2_1017 N = some q) : hM (gO LL xs) (D + 0) zR_2 [.ref 1017] (hCm b d k s w ik ex pr wd sn qu tb ts (r0, rq) h0 h1 h2 h3 fi R) (some (.int q)) (hCm b d k s w ik ex pr wd sn qu tb ts (r0, rq) h0 h1 h2 h3 fi R) := by
  unfold me_2_1017 at h
  refine hX_go 0 0 [some (.ref 1017)] [] (hCm b d k s w ik ex pr wd sn qu tb ts (r0, rq) h0 h1 h2 h3 fi R) rfl ?_
  refine hX_go 5 (14) [some (.ref 1017)] [.int 0] (hCm b d k s w ik ex pr wd sn qu tb ts (r0, rq) h0 h1 h2 h3 fi R) rfl ?_
  have h := Option.some.inj h; subst h
  exact hX_end rfl rfl rfl


/-- java/lang/String.length()I -/
def me_0_1017 (N : Nat) : Option (Int32) :=
  (Option.bind (me_2_1017 N) fun q1 =>
  some ((2 : Int32) >>> (q1 &&& 31)))
set_option maxRecDepth 20000 in
set_option maxHeartbeats 4000000 in
theorem mt_0_1017 {LL : Nat} {xs : Nat → Int32} {D : Nat} {b d k s w : hB} {ik ex pr wd : Int32} {sn : Nat → Int64} {qu tb : Nat → Int32} {ts : Int32} {r0 : Value} {rq : hRq} {h0 h1 h2 h3 : hSt} {fi : Nat → Int32} {R : List gE} (N : Nat) (q : Int32) (h : me_0_1017 N = some q) : hM (gO LL xs) (D + 1) zR_0 [.ref 1017] (hCm b d k s w ik ex pr wd sn qu tb ts (r0, rq) h0 h1 h2 h3 fi R) (some (.int q)) (hCm b d k s w ik ex pr wd sn qu tb ts (r0, rq) h0 h1 h2 h3 fi R) := by
  unfold me_0_1017 at h
  refine hX_go 0 0 [some (.ref 1017)] [] (hCm b d k s w ik ex pr wd sn qu tb ts (r0, rq) h0 h1 h2 h3 fi R) rfl ?_
  refine hX_go 4 (6) [some (.ref 1017)] [.ref 1017, .int 2] (hCm b d k s w ik ex pr wd sn qu tb ts (r0, rq) h0 h1 h2 h3 fi R) rfl ?_
  revert h; refine gBindR fun q1 e1 h => ?_
  refine hX_call (r' := zR_2) rfl (mt_2_1017 N q1 e1) ?_
  refine hX_goM 1 (10) [some (.ref 1017)] [.int ((2 : Int32) >>> (q1 &&& 31))] rfl ?_
  have h := Option.some.inj h; subst h
  exact hX_end rfl rfl rfl


/-- java/lang/String.isLatin1()Z -/
def me_3_1017 (N : Nat) : Option (Int32) :=
  some (1)
set_option maxRecDepth 20000 in
set_option maxHeartbeats 4000000 in
theorem mt_3_1017 {LL : Nat} {xs : Nat → Int32} {D : Nat} {b d k s w : hB} {ik ex pr wd : Int32} {sn : Nat → Int64} {qu tb : Nat → Int32} {ts : Int32} {r0 : Value} {rq : hRq} {h0 h1 h2 h3 : hSt} {fi : Nat → Int32} {R : List gE} (N : Nat) (q : Int32) (h : me_3_1017 N = some q) : hM (gO LL xs) (D + 0) zR_3 [.ref 1017] (hCm b d k s w ik ex pr wd sn qu tb ts (r0, rq) h0 h1 h2 h3 fi R) (some (.int q)) (hCm b d k s w ik ex pr wd sn qu tb ts (r0, rq) h0 h1 h2 h3 fi R) := by
  unfold me_3_1017 at h
  refine hX_go 0 0 [some (.ref 1017)] [] (hCm b d k s w ik ex pr wd sn qu tb ts (r0, rq) h0 h1 h2 h3 fi R) rfl ?_
  refine hX_go 7 (18) [some (.ref 1017)] [.int 1] (hCm b d k s w ik ex pr wd sn qu tb ts (r0, rq) h0 h1 h2 h3 fi R) rfl ?_
  have h := Option.some.inj h; subst h
  exact hX_end rfl rfl rfl


/-- java/lang/StringLatin1.charAt([BI)C -/
def me_5_1037 (N : Nat) (x0 : Int32) : Option (Int32) :=
  (Option.bind (me_4 N x0 2) fun q1 =>
  (bif gIn x0 2 then (bif decide (vp_nar .char (((Int32.toUInt32 (((gYf 7) (Int32.toNatClampNeg x0)) &&& 255)) % 65536).toInt32) = ((Int32.toUInt32 (((gYf 7) (Int32.toNatClampNeg x0)) &&& 255)) % 65536).toInt32) then some (((Int32.toUInt32 (((gYf 7) (Int32.toNatClampNeg x0)) &&& 255)) % 65536).toInt32) else none) else none))
set_option maxRecDepth 20000 in
set_option maxHeartbeats 4000000 in
theorem mt_5_1037 {LL : Nat} {xs : Nat → Int32} {D : Nat} {b d k s w : hB} {ik ex pr wd : Int32} {sn : Nat → Int64} {qu tb : Nat → Int32} {ts : Int32} {r0 : Value} {rq : hRq} {h0 h1 h2 h3 : hSt} {fi : Nat → Int32} {R : List gE} (N : Nat) (x0 : Int32) (q : Int32) (h : me_5_1037 N x0 = some q) : hM (gO LL xs) (D + 2) zR_5 [.ref 1037, .int x0] (hCm b d k s w ik ex pr wd sn qu tb ts (r0, rq) h0 h1 h2 h3 fi R) (some (.int q)) (hCm b d k s w ik ex pr wd sn qu tb ts (r0, rq) h0 h1 h2 h3 fi R) := by
  unfold me_5_1037 at h
  refine hX_go 0 0 [some (.ref 1037), some (.int x0)] [] (hCm b d k s w ik ex pr wd sn qu tb ts (r0, rq) h0 h1 h2 h3 fi R) rfl ?_
  refine hX_go 3 (3) [some (.ref 1037), some (.int x0)] [.int 2, .int x0] (hCm b d k s w ik ex pr wd sn qu tb ts (r0, rq) h0 h1 h2 h3 fi R) rfl ?_
  revert h; refine gBindR fun q1 e1 h => ?_
  refine hX_call (r' := zR_4) rfl (mt_4 N x0 2 q1 e1) ?_
  refine hX_goM 2 (8) [some (.ref 1037), some (.int x0)] [.int x0, .ref 1037] rfl ?_
  revert h; refine gCondR fun g2 h => ?_
  refine hX_gM (gIn x0 2) 9 [some (.ref 1037), some (.int x0)] [.int ((gYf 7) (Int32.toNatClampNeg x0))] rfl g2 ?_
  refine hX_goM 3 (14) [some (.ref 1037), some (.int x0)] [.int (((Int32.toUInt32 (((gYf 7) (Int32.toNatClampNeg x0)) &&& 255)) % 65536).toInt32)] rfl ?_
  revert h; refine gCondR fun g3 h => ?_
  have h := Option.some.inj h; subst h
  exact hX_endG (decide (vp_nar .char (((Int32.toUInt32 (((gYf 7) (Int32.toNatClampNeg x0)) &&& 255)) % 65536).toInt32) = ((Int32.toUInt32 (((gYf 7) (Int32.toNatClampNeg x0)) &&& 255)) % 65536).toInt32)) rfl g3 rfl rfl


/-- java/lang/String.charAt(I)C -/
def me_1_1017 (N : Nat) (x0 : Int32) : Option (Int32) :=
  (Option.bind (me_3_1017 N) fun q1 =>
  (bif !(gCmp .eq q1 0) then (Option.bind (me_5_1037 N x0) fun q3 =>
  (bif decide (vp_nar .char q3 = q3) then some (q3) else none)) else none))
set_option maxRecDepth 20000 in
set_option maxHeartbeats 4000000 in
theorem mt_1_1017 {LL : Nat} {xs : Nat → Int32} {D : Nat} {b d k s w : hB} {ik ex pr wd : Int32} {sn : Nat → Int64} {qu tb : Nat → Int32} {ts : Int32} {r0 : Value} {rq : hRq} {h0 h1 h2 h3 : hSt} {fi : Nat → Int32} {R : List gE} (N : Nat) (x0 : Int32) (q : Int32) (h : me_1_1017 N x0 = some q) : hM (gO LL xs) (D + 3) zR_1 [.ref 1017, .int x0] (hCm b d k s w ik ex pr wd sn qu tb ts (r0, rq) h0 h1 h2 h3 fi R) (some (.int q)) (hCm b d k s w ik ex pr wd sn qu tb ts (r0, rq) h0 h1 h2 h3 fi R) := by
  unfold me_1_1017 at h
  refine hX_go 0 0 [some (.ref 1017), some (.int x0)] [] (hCm b d k s w ik ex pr wd sn qu tb ts (r0, rq) h0 h1 h2 h3 fi R) rfl ?_
  refine hX_go 1 (1) [some (.ref 1017), some (.int x0)] [.ref 1017] (hCm b d k s w ik ex pr wd sn qu tb ts (r0, rq) h0 h1 h2 h3 fi R) rfl ?_
  revert h; refine gBindR fun q1 e1 h => ?_
  refine hX_call (r' := zR_3) rfl (mt_3_1017 N q1 e1) ?_
  refine hX_goM 1 (bif gCmp .eq q1 0 then 16 else 7) [some (.ref 1017), some (.int x0)] [] rfl ?_
  revert h; refine gCondR fun g2 h => ?_
  refine hX_ifF (gCmp .eq q1 0) (gNot g2) ?_
  refine hX_goM 3 (12) [some (.ref 1017), some (.int x0)] [.int x0, .ref 1037] rfl ?_
  revert h; refine gBindR fun q3 e3 h => ?_
  refine hX_call (r' := zR_5) rfl (mt_5_1037 N x0 q3 e3) ?_
  refine hX_goM 0 (15) [some (.ref 1017), some (.int x0)] [.int q3] rfl ?_
  revert h; refine gCondR fun g4 h => ?_
  have h := Option.some.inj h; subst h
  exact hX_endG (decide (vp_nar .char q3 = q3)) rfl g4 rfl rfl

/-- UpOneSide$Reader.isWord: the loop at 28 -/
def lp_38_51_1017_28 (N : Nat) (tb : Nat → Int32) (rq : hRq) : Nat → Int32 → Option (Int32)
  | 0, _ => none
  | n + 1, y2 =>
    (Option.bind (me_0_1017 N) fun q1 =>
    (bif gCmp .ge y2 q1 then
      some (1)
    else
      (bif gCmp .ge (rq.2.2.1 + y2) rq.1 then
        some (1)
      else
        (bif gIn (rq.2.2.1 + y2) 120 then (Option.bind (me_1_1017 N y2) fun q5 =>
        (bif gCmp .eq (tb (Int32.toNatClampNeg (rq.2.2.1 + y2))) q5 then
          lp_38_51_1017_28 N tb rq n (y2 + 1)
        else
          some (0))) else none))))
set_option maxRecDepth 20000 in
set_option maxHeartbeats 4000000 in
theorem lt_38_51_1017_28 {LL : Nat} {xs : Nat → Int32} {D N : Nat} {b d k s w : hB} {ik ex pr wd : Int32} {sn : Nat → Int64} {qu tb : Nat → Int32} {ts : Int32} {rq : hRq} {h0 h1 h2 h3 : hSt} {fi : Nat → Int32} {R : List gE} : ∀ (n : Nat) (y2 : Int32) (q : Int32), lp_38_51_1017_28 N tb rq n y2 = some q → hX (gO LL xs) (D + 4) zR_38 28 [some (.ref 51), some (.ref 1017), some (.int y2)] [] (hCm b d k s w ik ex pr wd sn qu tb ts (.ref 50, rq) h0 h1 h2 h3 fi R) (some (.int q)) (hCm b d k s w ik ex pr wd sn qu tb ts (.ref 50, rq) h0 h1 h2 h3 fi R) := by
  intro n
  induction n with
  | zero => intro y2 q h; cases h
  | succ n ih =>
    intro y2 q h
    rw [lp_38_51_1017_28] at h
    refine hX_go 2 (30) [some (.ref 51), some (.ref 1017), some (.int y2)] [.ref 1017, .int y2] (hCm b d k s w ik ex pr wd sn qu tb ts (.ref 50, rq) h0 h1 h2 h3 fi R) rfl ?_
    revert h; refine gBindR fun q1 e1 h => ?_
    refine hX_call (r' := zR_0) rfl (mt_0_1017 N q1 e1) ?_
    refine hX_goM 1 (bif gCmp .ge y2 q1 then 76 else 36) [some (.ref 51), some (.ref 1017), some (.int y2)] [] rfl ?_
    refine hX_if (gCmp .ge y2 q1) (fun c2 => ?_) (fun c2 => ?_)
    · skip
      have h := gcT c2 h
      refine hX_goM 1 (77) [some (.ref 51), some (.ref 1017), some (.int y2)] [.int 1] rfl ?_
      have h := Option.some.inj h; subst h
      exact hX_end rfl rfl rfl
    · skip
      have h := gcF c2 h
      refine hX_goM 7 (bif gCmp .ge (rq.2.2.1 + y2) rq.1 then 76 else 49) [some (.ref 51), some (.ref 1017), some (.int y2)] [] rfl ?_
      refine hX_if (gCmp .ge (rq.2.2.1 + y2) rq.1) (fun c3 => ?_) (fun c3 => ?_)
      · skip
        have h := gcT c3 h
        refine hX_goM 1 (77) [some (.ref 51), some (.ref 1017), some (.int y2)] [.int 1] rfl ?_
        have h := Option.some.inj h; subst h
        exact hX_end rfl rfl rfl
      · skip
        have h := gcF c3 h
        refine hX_goM 6 (59) [some (.ref 51), some (.ref 1017), some (.int y2)] [.int (rq.2.2.1 + y2), .ref 50] rfl ?_
        revert h; refine gCondR fun g4 h => ?_
        refine hX_gM (gIn (rq.2.2.1 + y2) 120) 60 [some (.ref 51), some (.ref 1017), some (.int y2)] [.int (tb (Int32.toNatClampNeg (rq.2.2.1 + y2)))] rfl g4 ?_
        refine hX_goM 2 (62) [some (.ref 51), some (.ref 1017), some (.int y2)] [.int y2, .ref 1017, .int (tb (Int32.toNatClampNeg (rq.2.2.1 + y2)))] rfl ?_
        revert h; refine gBindR fun q5 e5 h => ?_
        refine hX_call (r' := zR_1) rfl (mt_1_1017 N y2 q5 e5) ?_
        refine hX_goM 1 (bif gCmp .eq (tb (Int32.toNatClampNeg (rq.2.2.1 + y2))) q5 then 70 else 68) [some (.ref 51), some (.ref 1017), some (.int y2)] [] rfl ?_
        refine hX_if (gCmp .eq (tb (Int32.toNatClampNeg (rq.2.2.1 + y2))) q5) (fun c6 => ?_) (fun c6 => ?_)
        · skip
          have h := gcT c6 h
          refine hX_goM 2 (28) [some (.ref 51), some (.ref 1017), some (.int (y2 + 1))] [] rfl ?_
          exact ih (y2 + 1) q h
        · skip
          have h := gcF c6 h
          refine hX_goM 1 (69) [some (.ref 51), some (.ref 1017), some (.int y2)] [.int 0] rfl ?_
          have h := Option.some.inj h; subst h
          exact hX_end rfl rfl rfl

/-- UpOneSide$Reader.isWord(Ljava/lang/String;)Z -/
def me_38_51_1017 (N : Nat) (tb : Nat → Int32) (rq : hRq) : Option (Int32) :=
  (bif gCmp .ne rq.2.1 1 then
    some (0)
  else
    (Option.bind (me_0_1017 N) fun q2 =>
    (bif gCmp .eq (rq.2.2.2.1 - rq.2.2.1) q2 then
      lp_38_51_1017_28 N tb rq N 0
    else
      some (0))))
set_option maxRecDepth 20000 in
set_option maxHeartbeats 4000000 in
theorem mt_38_51_1017 {LL : Nat} {xs : Nat → Int32} {D : Nat} {b d k s w : hB} {ik ex pr wd : Int32} {sn : Nat → Int64} {qu tb : Nat → Int32} {ts : Int32} {rq : hRq} {h0 h1 h2 h3 : hSt} {fi : Nat → Int32} {R : List gE} (N : Nat) (q : Int32) (h : me_38_51_1017 N tb rq = some q) : hM (gO LL xs) (D + 4) zR_38 [.ref 51, .ref 1017] (hCm b d k s w ik ex pr wd sn qu tb ts (.ref 50, rq) h0 h1 h2 h3 fi R) (some (.int q)) (hCm b d k s w ik ex pr wd sn qu tb ts (.ref 50, rq) h0 h1 h2 h3 fi R) := by
  unfold me_38_51_1017 at h
  refine hX_go 0 0 [some (.ref 51), some (.ref 1017), none] [] (hCm b d k s w ik ex pr wd sn qu tb ts (.ref 50, rq) h0 h1 h2 h3 fi R) rfl ?_
  refine hX_go 4 (bif gCmp .ne rq.2.1 1 then 24 else 8) [some (.ref 51), some (.ref 1017), none] [] (hCm b d k s w ik ex pr wd sn qu tb ts (.ref 50, rq) h0 h1 h2 h3 fi R) rfl ?_
  refine hX_if (gCmp .ne rq.2.1 1) (fun c1 => ?_) (fun c1 => ?_)
  · skip
    have h := gcT c1 h
    refine hX_goM 1 (25) [some (.ref 51), some (.ref 1017), none] [.int 0] rfl ?_
    have h := Option.some.inj h; subst h
    exact hX_end rfl rfl rfl
  · skip
    have h := gcF c1 h
    refine hX_goM 6 (18) [some (.ref 51), some (.ref 1017), none] [.ref 1017, .int (rq.2.2.2.1 - rq.2.2.1)] rfl ?_
    revert h; refine gBindR fun q2 e2 h => ?_
    refine hX_call (r' := zR_0) rfl (mt_0_1017 N q2 e2) ?_
    refine hX_goM 1 (bif gCmp .eq (rq.2.2.2.1 - rq.2.2.1) q2 then 26 else 24) [some (.ref 51), some (.ref 1017), none] [] rfl ?_
    refine hX_if (gCmp .eq (rq.2.2.2.1 - rq.2.2.1) q2) (fun c3 => ?_) (fun c3 => ?_)
    · skip
      have h := gcT c3 h
      refine hX_goM 2 (28) [some (.ref 51), some (.ref 1017), some (.int 0)] [] rfl ?_
      exact lt_38_51_1017_28 N 0 q h
    · skip
      have h := gcF c3 h
      refine hX_goM 1 (25) [some (.ref 51), some (.ref 1017), none] [.int 0] rfl ?_
      have h := Option.some.inj h; subst h
      exact hX_end rfl rfl rfl


/-- java/lang/String.coder()B -/
def me_2_1018 (N : Nat) : Option (Int32) :=
  some (0)
set_option maxRecDepth 20000 in
set_option maxHeartbeats 4000000 in
theorem mt_2_1018 {LL : Nat} {xs : Nat → Int32} {D : Nat} {b d k s w : hB} {ik ex pr wd : Int32} {sn : Nat → Int64} {qu tb : Nat → Int32} {ts : Int32} {r0 : Value} {rq : hRq} {h0 h1 h2 h3 : hSt} {fi : Nat → Int32} {R : List gE} (N : Nat) (q : Int32) (h : me_2_1018 N = some q) : hM (gO LL xs) (D + 0) zR_2 [.ref 1018] (hCm b d k s w ik ex pr wd sn qu tb ts (r0, rq) h0 h1 h2 h3 fi R) (some (.int q)) (hCm b d k s w ik ex pr wd sn qu tb ts (r0, rq) h0 h1 h2 h3 fi R) := by
  unfold me_2_1018 at h
  refine hX_go 0 0 [some (.ref 1018)] [] (hCm b d k s w ik ex pr wd sn qu tb ts (r0, rq) h0 h1 h2 h3 fi R) rfl ?_
  refine hX_go 5 (14) [some (.ref 1018)] [.int 0] (hCm b d k s w ik ex pr wd sn qu tb ts (r0, rq) h0 h1 h2 h3 fi R) rfl ?_
  have h := Option.some.inj h; subst h
  exact hX_end rfl rfl rfl


/-- java/lang/String.length()I -/
def me_0_1018 (N : Nat) : Option (Int32) :=
  (Option.bind (me_2_1018 N) fun q1 =>
  some ((4 : Int32) >>> (q1 &&& 31)))
set_option maxRecDepth 20000 in
set_option maxHeartbeats 4000000 in
theorem mt_0_1018 {LL : Nat} {xs : Nat → Int32} {D : Nat} {b d k s w : hB} {ik ex pr wd : Int32} {sn : Nat → Int64} {qu tb : Nat → Int32} {ts : Int32} {r0 : Value} {rq : hRq} {h0 h1 h2 h3 : hSt} {fi : Nat → Int32} {R : List gE} (N : Nat) (q : Int32) (h : me_0_1018 N = some q) : hM (gO LL xs) (D + 1) zR_0 [.ref 1018] (hCm b d k s w ik ex pr wd sn qu tb ts (r0, rq) h0 h1 h2 h3 fi R) (some (.int q)) (hCm b d k s w ik ex pr wd sn qu tb ts (r0, rq) h0 h1 h2 h3 fi R) := by
  unfold me_0_1018 at h
  refine hX_go 0 0 [some (.ref 1018)] [] (hCm b d k s w ik ex pr wd sn qu tb ts (r0, rq) h0 h1 h2 h3 fi R) rfl ?_
  refine hX_go 4 (6) [some (.ref 1018)] [.ref 1018, .int 4] (hCm b d k s w ik ex pr wd sn qu tb ts (r0, rq) h0 h1 h2 h3 fi R) rfl ?_
  revert h; refine gBindR fun q1 e1 h => ?_
  refine hX_call (r' := zR_2) rfl (mt_2_1018 N q1 e1) ?_
  refine hX_goM 1 (10) [some (.ref 1018)] [.int ((4 : Int32) >>> (q1 &&& 31))] rfl ?_
  have h := Option.some.inj h; subst h
  exact hX_end rfl rfl rfl


/-- java/lang/String.isLatin1()Z -/
def me_3_1018 (N : Nat) : Option (Int32) :=
  some (1)
set_option maxRecDepth 20000 in
set_option maxHeartbeats 4000000 in
theorem mt_3_1018 {LL : Nat} {xs : Nat → Int32} {D : Nat} {b d k s w : hB} {ik ex pr wd : Int32} {sn : Nat → Int64} {qu tb : Nat → Int32} {ts : Int32} {r0 : Value} {rq : hRq} {h0 h1 h2 h3 : hSt} {fi : Nat → Int32} {R : List gE} (N : Nat) (q : Int32) (h : me_3_1018 N = some q) : hM (gO LL xs) (D + 0) zR_3 [.ref 1018] (hCm b d k s w ik ex pr wd sn qu tb ts (r0, rq) h0 h1 h2 h3 fi R) (some (.int q)) (hCm b d k s w ik ex pr wd sn qu tb ts (r0, rq) h0 h1 h2 h3 fi R) := by
  unfold me_3_1018 at h
  refine hX_go 0 0 [some (.ref 1018)] [] (hCm b d k s w ik ex pr wd sn qu tb ts (r0, rq) h0 h1 h2 h3 fi R) rfl ?_
  refine hX_go 7 (18) [some (.ref 1018)] [.int 1] (hCm b d k s w ik ex pr wd sn qu tb ts (r0, rq) h0 h1 h2 h3 fi R) rfl ?_
  have h := Option.some.inj h; subst h
  exact hX_end rfl rfl rfl


/-- java/lang/StringLatin1.charAt([BI)C -/
def me_5_1038 (N : Nat) (x0 : Int32) : Option (Int32) :=
  (Option.bind (me_4 N x0 4) fun q1 =>
  (bif gIn x0 4 then (bif decide (vp_nar .char (((Int32.toUInt32 (((gYf 8) (Int32.toNatClampNeg x0)) &&& 255)) % 65536).toInt32) = ((Int32.toUInt32 (((gYf 8) (Int32.toNatClampNeg x0)) &&& 255)) % 65536).toInt32) then some (((Int32.toUInt32 (((gYf 8) (Int32.toNatClampNeg x0)) &&& 255)) % 65536).toInt32) else none) else none))
set_option maxRecDepth 20000 in
set_option maxHeartbeats 4000000 in
theorem mt_5_1038 {LL : Nat} {xs : Nat → Int32} {D : Nat} {b d k s w : hB} {ik ex pr wd : Int32} {sn : Nat → Int64} {qu tb : Nat → Int32} {ts : Int32} {r0 : Value} {rq : hRq} {h0 h1 h2 h3 : hSt} {fi : Nat → Int32} {R : List gE} (N : Nat) (x0 : Int32) (q : Int32) (h : me_5_1038 N x0 = some q) : hM (gO LL xs) (D + 2) zR_5 [.ref 1038, .int x0] (hCm b d k s w ik ex pr wd sn qu tb ts (r0, rq) h0 h1 h2 h3 fi R) (some (.int q)) (hCm b d k s w ik ex pr wd sn qu tb ts (r0, rq) h0 h1 h2 h3 fi R) := by
  unfold me_5_1038 at h
  refine hX_go 0 0 [some (.ref 1038), some (.int x0)] [] (hCm b d k s w ik ex pr wd sn qu tb ts (r0, rq) h0 h1 h2 h3 fi R) rfl ?_
  refine hX_go 3 (3) [some (.ref 1038), some (.int x0)] [.int 4, .int x0] (hCm b d k s w ik ex pr wd sn qu tb ts (r0, rq) h0 h1 h2 h3 fi R) rfl ?_
  revert h; refine gBindR fun q1 e1 h => ?_
  refine hX_call (r' := zR_4) rfl (mt_4 N x0 4 q1 e1) ?_
  refine hX_goM 2 (8) [some (.ref 1038), some (.int x0)] [.int x0, .ref 1038] rfl ?_
  revert h; refine gCondR fun g2 h => ?_
  refine hX_gM (gIn x0 4) 9 [some (.ref 1038), some (.int x0)] [.int ((gYf 8) (Int32.toNatClampNeg x0))] rfl g2 ?_
  refine hX_goM 3 (14) [some (.ref 1038), some (.int x0)] [.int (((Int32.toUInt32 (((gYf 8) (Int32.toNatClampNeg x0)) &&& 255)) % 65536).toInt32)] rfl ?_
  revert h; refine gCondR fun g3 h => ?_
  have h := Option.some.inj h; subst h
  exact hX_endG (decide (vp_nar .char (((Int32.toUInt32 (((gYf 8) (Int32.toNatClampNeg x0)) &&& 255)) % 65536).toInt32) = ((Int32.toUInt32 (((gYf 8) (Int32.toNatClampNeg x0)) &&& 255)) % 65536).toInt32)) rfl g3 rfl rfl


/-- java/lang/String.charAt(I)C -/
def me_1_1018 (N : Nat) (x0 : Int32) : Option (Int32) :=
  (Option.bind (me_3_1018 N) fun q1 =>
  (bif !(gCmp .eq q1 0) then (Option.bind (me_5_1038 N x0) fun q3 =>
  (bif decide (vp_nar .char q3 = q3) then some (q3) else none)) else none))
set_option maxRecDepth 20000 in
set_option maxHeartbeats 4000000 in
theorem mt_1_1018 {LL : Nat} {xs : Nat → Int32} {D : Nat} {b d k s w : hB} {ik ex pr wd : Int32} {sn : Nat → Int64} {qu tb : Nat → Int32} {ts : Int32} {r0 : Value} {rq : hRq} {h0 h1 h2 h3 : hSt} {fi : Nat → Int32} {R : List gE} (N : Nat) (x0 : Int32) (q : Int32) (h : me_1_1018 N x0 = some q) : hM (gO LL xs) (D + 3) zR_1 [.ref 1018, .int x0] (hCm b d k s w ik ex pr wd sn qu tb ts (r0, rq) h0 h1 h2 h3 fi R) (some (.int q)) (hCm b d k s w ik ex pr wd sn qu tb ts (r0, rq) h0 h1 h2 h3 fi R) := by
  unfold me_1_1018 at h
  refine hX_go 0 0 [some (.ref 1018), some (.int x0)] [] (hCm b d k s w ik ex pr wd sn qu tb ts (r0, rq) h0 h1 h2 h3 fi R) rfl ?_
  refine hX_go 1 (1) [some (.ref 1018), some (.int x0)] [.ref 1018] (hCm b d k s w ik ex pr wd sn qu tb ts (r0, rq) h0 h1 h2 h3 fi R) rfl ?_
  revert h; refine gBindR fun q1 e1 h => ?_
  refine hX_call (r' := zR_3) rfl (mt_3_1018 N q1 e1) ?_
  refine hX_goM 1 (bif gCmp .eq q1 0 then 16 else 7) [some (.ref 1018), some (.int x0)] [] rfl ?_
  revert h; refine gCondR fun g2 h => ?_
  refine hX_ifF (gCmp .eq q1 0) (gNot g2) ?_
  refine hX_goM 3 (12) [some (.ref 1018), some (.int x0)] [.int x0, .ref 1038] rfl ?_
  revert h; refine gBindR fun q3 e3 h => ?_
  refine hX_call (r' := zR_5) rfl (mt_5_1038 N x0 q3 e3) ?_
  refine hX_goM 0 (15) [some (.ref 1018), some (.int x0)] [.int q3] rfl ?_
  revert h; refine gCondR fun g4 h => ?_
  have h := Option.some.inj h; subst h
  exact hX_endG (decide (vp_nar .char q3 = q3)) rfl g4 rfl rfl

/-- UpOneSide$Reader.isWord: the loop at 28 -/
def lp_38_51_1018_28 (N : Nat) (tb : Nat → Int32) (rq : hRq) : Nat → Int32 → Option (Int32)
  | 0, _ => none
  | n + 1, y2 =>
    (Option.bind (me_0_1018 N) fun q1 =>
    (bif gCmp .ge y2 q1 then
      some (1)
    else
      (bif gCmp .ge (rq.2.2.1 + y2) rq.1 then
        some (1)
      else
        (bif gIn (rq.2.2.1 + y2) 120 then (Option.bind (me_1_1018 N y2) fun q5 =>
        (bif gCmp .eq (tb (Int32.toNatClampNeg (rq.2.2.1 + y2))) q5 then
          lp_38_51_1018_28 N tb rq n (y2 + 1)
        else
          some (0))) else none))))
set_option maxRecDepth 20000 in
set_option maxHeartbeats 4000000 in
theorem lt_38_51_1018_28 {LL : Nat} {xs : Nat → Int32} {D N : Nat} {b d k s w : hB} {ik ex pr wd : Int32} {sn : Nat → Int64} {qu tb : Nat → Int32} {ts : Int32} {rq : hRq} {h0 h1 h2 h3 : hSt} {fi : Nat → Int32} {R : List gE} : ∀ (n : Nat) (y2 : Int32) (q : Int32), lp_38_51_1018_28 N tb rq n y2 = some q → hX (gO LL xs) (D + 4) zR_38 28 [some (.ref 51), some (.ref 1018), some (.int y2)] [] (hCm b d k s w ik ex pr wd sn qu tb ts (.ref 50, rq) h0 h1 h2 h3 fi R) (some (.int q)) (hCm b d k s w ik ex pr wd sn qu tb ts (.ref 50, rq) h0 h1 h2 h3 fi R) := by
  intro n
  induction n with
  | zero => intro y2 q h; cases h
  | succ n ih =>
    intro y2 q h
    rw [lp_38_51_1018_28] at h
    refine hX_go 2 (30) [some (.ref 51), some (.ref 1018), some (.int y2)] [.ref 1018, .int y2] (hCm b d k s w ik ex pr wd sn qu tb ts (.ref 50, rq) h0 h1 h2 h3 fi R) rfl ?_
    revert h; refine gBindR fun q1 e1 h => ?_
    refine hX_call (r' := zR_0) rfl (mt_0_1018 N q1 e1) ?_
    refine hX_goM 1 (bif gCmp .ge y2 q1 then 76 else 36) [some (.ref 51), some (.ref 1018), some (.int y2)] [] rfl ?_
    refine hX_if (gCmp .ge y2 q1) (fun c2 => ?_) (fun c2 => ?_)
    · skip
      have h := gcT c2 h
      refine hX_goM 1 (77) [some (.ref 51), some (.ref 1018), some (.int y2)] [.int 1] rfl ?_
      have h := Option.some.inj h; subst h
      exact hX_end rfl rfl rfl
    · skip
      have h := gcF c2 h
      refine hX_goM 7 (bif gCmp .ge (rq.2.2.1 + y2) rq.1 then 76 else 49) [some (.ref 51), some (.ref 1018), some (.int y2)] [] rfl ?_
      refine hX_if (gCmp .ge (rq.2.2.1 + y2) rq.1) (fun c3 => ?_) (fun c3 => ?_)
      · skip
        have h := gcT c3 h
        refine hX_goM 1 (77) [some (.ref 51), some (.ref 1018), some (.int y2)] [.int 1] rfl ?_
        have h := Option.some.inj h; subst h
        exact hX_end rfl rfl rfl
      · skip
        have h := gcF c3 h
        refine hX_goM 6 (59) [some (.ref 51), some (.ref 1018), some (.int y2)] [.int (rq.2.2.1 + y2), .ref 50] rfl ?_
        revert h; refine gCondR fun g4 h => ?_
        refine hX_gM (gIn (rq.2.2.1 + y2) 120) 60 [some (.ref 51), some (.ref 1018), some (.int y2)] [.int (tb (Int32.toNatClampNeg (rq.2.2.1 + y2)))] rfl g4 ?_
        refine hX_goM 2 (62) [some (.ref 51), some (.ref 1018), some (.int y2)] [.int y2, .ref 1018, .int (tb (Int32.toNatClampNeg (rq.2.2.1 + y2)))] rfl ?_
        revert h; refine gBindR fun q5 e5 h => ?_
        refine hX_call (r' := zR_1) rfl (mt_1_1018 N y2 q5 e5) ?_
        refine hX_goM 1 (bif gCmp .eq (tb (Int32.toNatClampNeg (rq.2.2.1 + y2))) q5 then 70 else 68) [some (.ref 51), some (.ref 1018), some (.int y2)] [] rfl ?_
        refine hX_if (gCmp .eq (tb (Int32.toNatClampNeg (rq.2.2.1 + y2))) q5) (fun c6 => ?_) (fun c6 => ?_)
        · skip
          have h := gcT c6 h
          refine hX_goM 2 (28) [some (.ref 51), some (.ref 1018), some (.int (y2 + 1))] [] rfl ?_
          exact ih (y2 + 1) q h
        · skip
          have h := gcF c6 h
          refine hX_goM 1 (69) [some (.ref 51), some (.ref 1018), some (.int y2)] [.int 0] rfl ?_
          have h := Option.some.inj h; subst h
          exact hX_end rfl rfl rfl

/-- UpOneSide$Reader.isWord(Ljava/lang/String;)Z -/
def me_38_51_1018 (N : Nat) (tb : Nat → Int32) (rq : hRq) : Option (Int32) :=
  (bif gCmp .ne rq.2.1 1 then
    some (0)
  else
    (Option.bind (me_0_1018 N) fun q2 =>
    (bif gCmp .eq (rq.2.2.2.1 - rq.2.2.1) q2 then
      lp_38_51_1018_28 N tb rq N 0
    else
      some (0))))
set_option maxRecDepth 20000 in
set_option maxHeartbeats 4000000 in
theorem mt_38_51_1018 {LL : Nat} {xs : Nat → Int32} {D : Nat} {b d k s w : hB} {ik ex pr wd : Int32} {sn : Nat → Int64} {qu tb : Nat → Int32} {ts : Int32} {rq : hRq} {h0 h1 h2 h3 : hSt} {fi : Nat → Int32} {R : List gE} (N : Nat) (q : Int32) (h : me_38_51_1018 N tb rq = some q) : hM (gO LL xs) (D + 4) zR_38 [.ref 51, .ref 1018] (hCm b d k s w ik ex pr wd sn qu tb ts (.ref 50, rq) h0 h1 h2 h3 fi R) (some (.int q)) (hCm b d k s w ik ex pr wd sn qu tb ts (.ref 50, rq) h0 h1 h2 h3 fi R) := by
  unfold me_38_51_1018 at h
  refine hX_go 0 0 [some (.ref 51), some (.ref 1018), none] [] (hCm b d k s w ik ex pr wd sn qu tb ts (.ref 50, rq) h0 h1 h2 h3 fi R) rfl ?_
  refine hX_go 4 (bif gCmp .ne rq.2.1 1 then 24 else 8) [some (.ref 51), some (.ref 1018), none] [] (hCm b d k s w ik ex pr wd sn qu tb ts (.ref 50, rq) h0 h1 h2 h3 fi R) rfl ?_
  refine hX_if (gCmp .ne rq.2.1 1) (fun c1 => ?_) (fun c1 => ?_)
  · skip
    have h := gcT c1 h
    refine hX_goM 1 (25) [some (.ref 51), some (.ref 1018), none] [.int 0] rfl ?_
    have h := Option.some.inj h; subst h
    exact hX_end rfl rfl rfl
  · skip
    have h := gcF c1 h
    refine hX_goM 6 (18) [some (.ref 51), some (.ref 1018), none] [.ref 1018, .int (rq.2.2.2.1 - rq.2.2.1)] rfl ?_
    revert h; refine gBindR fun q2 e2 h => ?_
    refine hX_call (r' := zR_0) rfl (mt_0_1018 N q2 e2) ?_
    refine hX_goM 1 (bif gCmp .eq (rq.2.2.2.1 - rq.2.2.1) q2 then 26 else 24) [some (.ref 51), some (.ref 1018), none] [] rfl ?_
    refine hX_if (gCmp .eq (rq.2.2.2.1 - rq.2.2.1) q2) (fun c3 => ?_) (fun c3 => ?_)
    · skip
      have h := gcT c3 h
      refine hX_goM 2 (28) [some (.ref 51), some (.ref 1018), some (.int 0)] [] rfl ?_
      exact lt_38_51_1018_28 N 0 q h
    · skip
      have h := gcF c3 h
      refine hX_goM 1 (25) [some (.ref 51), some (.ref 1018), none] [.int 0] rfl ?_
      have h := Option.some.inj h; subst h
      exact hX_end rfl rfl rfl

/-- UpOneSide$Blind.addPull(III)V -/
def f_13_10_d (x0 : Int32) (x1 : Int32) (x2 : Int32) (d : hB) : hB := (d.1, d.2.1, d.2.2.1, d.2.2.2.1, bif gCmp .ge d.2.2.2.2.1 8 then d.2.2.2.2.1 else (d.2.2.2.2.1 + 1), bif gCmp .ge d.2.2.2.2.1 8 then d.2.2.2.2.2.1 else (upd d.2.2.2.2.2.1 (Int32.toNatClampNeg d.2.2.2.2.1) x0), bif gCmp .ge d.2.2.2.2.1 8 then d.2.2.2.2.2.2.1 else (upd d.2.2.2.2.2.2.1 (Int32.toNatClampNeg d.2.2.2.2.1) x1), bif gCmp .ge d.2.2.2.2.1 8 then d.2.2.2.2.2.2.2.1 else (upd d.2.2.2.2.2.2.2.1 (Int32.toNatClampNeg d.2.2.2.2.1) x2), d.2.2.2.2.2.2.2.2)
set_option maxRecDepth 20000 in
set_option maxHeartbeats 1000000 in
theorem ct_13_10 {LL : Nat} {xs : Nat → Int32} {D : Nat} {b d k s w : hB} {ik ex pr wd : Int32} {sn : Nat → Int64} {qu tb : Nat → Int32} {ts : Int32} {r0 : Value} {rq : hRq} {h0 h1 h2 h3 : hSt} {fi : Nat → Int32} {R : List gE} (x0 : Int32) (x1 : Int32) (x2 : Int32) (o1 : gCmp .ge d.2.2.2.2.1 8 = false → gIn d.2.2.2.2.1 8 = true) : hM (gO LL xs) (D + 0) zR_13 [.ref 10, .int x0, .int x1, .int x2] (hCm b d k s w ik ex pr wd sn qu tb ts (r0, rq) h0 h1 h2 h3 fi R) none (hCm b (f_13_10_d x0 x1 x2 d) k s w ik ex pr wd sn qu tb ts (r0, rq) h0 h1 h2 h3 fi R) := by
  refine hX_go 0 0 [some (.ref 10), some (.int x0), some (.int x1), some (.int x2)] [] (hCm b d k s w ik ex pr wd sn qu tb ts (r0, rq) h0 h1 h2 h3 fi R) rfl ?_
  refine hX_go 4 (bif gCmp .ge d.2.2.2.2.1 8 then 49 else 9) [some (.ref 10), some (.int x0), some (.int x1), some (.int x2)] [] (hCm b d k s w ik ex pr wd sn qu tb ts (r0, rq) h0 h1 h2 h3 fi R) rfl ?_
  suffices hk : hX (gO LL xs) (D + 0) zR_13 49 [some (.ref 10), some (.int x0), some (.int x1), some (.int x2)] [] (hCm b (d.1, d.2.1, d.2.2.1, d.2.2.2.1, bif gCmp .ge d.2.2.2.2.1 8 then d.2.2.2.2.1 else (d.2.2.2.2.1 + 1), bif gCmp .ge d.2.2.2.2.1 8 then d.2.2.2.2.2.1 else (upd d.2.2.2.2.2.1 (Int32.toNatClampNeg d.2.2.2.2.1) x0), bif gCmp .ge d.2.2.2.2.1 8 then d.2.2.2.2.2.2.1 else (upd d.2.2.2.2.2.2.1 (Int32.toNatClampNeg d.2.2.2.2.1) x1), bif gCmp .ge d.2.2.2.2.1 8 then d.2.2.2.2.2.2.2.1 else (upd d.2.2.2.2.2.2.2.1 (Int32.toNatClampNeg d.2.2.2.2.1) x2), d.2.2.2.2.2.2.2.2) k s w ik ex pr wd sn qu tb ts (r0, rq) h0 h1 h2 h3 fi R) none (hCm b (f_13_10_d x0 x1 x2 d) k s w ik ex pr wd sn qu tb ts (r0, rq) h0 h1 h2 h3 fi R) by
    refine hX_if (gCmp .ge d.2.2.2.2.1 8) (fun c1 => ?_) (fun c1 => ?_)
    · skip
      have hk := hk
      simp only [c1, cond_true, cond_false] at hk
      first | exact hk | (simp only [c1, cond_true, cond_false]; exact hk)
    · skip
      refine hX_goM 5 (18) [some (.ref 10), some (.int x0), some (.int x1), some (.int x2)] [.int x0, .int d.2.2.2.2.1, .ref 11] rfl ?_
      refine hX_g (gIn d.2.2.2.2.1 8) 19 [some (.ref 10), some (.int x0), some (.int x1), some (.int x2)] [] (hCm b (d.1, d.2.1, d.2.2.1, d.2.2.2.1, d.2.2.2.2.1, upd d.2.2.2.2.2.1 (Int32.toNatClampNeg d.2.2.2.2.1) x0, d.2.2.2.2.2.2) k s w ik ex pr wd sn qu tb ts (r0, rq) h0 h1 h2 h3 fi R) rfl (o1 c1) ?_
      refine hX_goM 5 (28) [some (.ref 10), some (.int x0), some (.int x1), some (.int x2)] [.int x1, .int d.2.2.2.2.1, .ref 12] rfl ?_
      refine hX_g (gIn d.2.2.2.2.1 8) 29 [some (.ref 10), some (.int x0), some (.int x1), some (.int x2)] [] (hCm b (d.1, d.2.1, d.2.2.1, d.2.2.2.1, d.2.2.2.2.1, upd d.2.2.2.2.2.1 (Int32.toNatClampNeg d.2.2.2.2.1) x0, upd d.2.2.2.2.2.2.1 (Int32.toNatClampNeg d.2.2.2.2.1) x1, d.2.2.2.2.2.2.2) k s w ik ex pr wd sn qu tb ts (r0, rq) h0 h1 h2 h3 fi R) rfl (o1 c1) ?_
      refine hX_goM 5 (38) [some (.ref 10), some (.int x0), some (.int x1), some (.int x2)] [.int x2, .int d.2.2.2.2.1, .ref 13] rfl ?_
      refine hX_g (gIn d.2.2.2.2.1 8) 39 [some (.ref 10), some (.int x0), some (.int x1), some (.int x2)] [] (hCm b (d.1, d.2.1, d.2.2.1, d.2.2.2.1, d.2.2.2.2.1, upd d.2.2.2.2.2.1 (Int32.toNatClampNeg d.2.2.2.2.1) x0, upd d.2.2.2.2.2.2.1 (Int32.toNatClampNeg d.2.2.2.2.1) x1, upd d.2.2.2.2.2.2.2.1 (Int32.toNatClampNeg d.2.2.2.2.1) x2, d.2.2.2.2.2.2.2.2) k s w ik ex pr wd sn qu tb ts (r0, rq) h0 h1 h2 h3 fi R) rfl (o1 c1) ?_
      refine hX_go 6 (49) [some (.ref 10), some (.int x0), some (.int x1), some (.int x2)] [] (hCm b (d.1, d.2.1, d.2.2.1, d.2.2.2.1, d.2.2.2.2.1 + 1, upd d.2.2.2.2.2.1 (Int32.toNatClampNeg d.2.2.2.2.1) x0, upd d.2.2.2.2.2.2.1 (Int32.toNatClampNeg d.2.2.2.2.1) x1, upd d.2.2.2.2.2.2.2.1 (Int32.toNatClampNeg d.2.2.2.2.1) x2, d.2.2.2.2.2.2.2.2) k s w ik ex pr wd sn qu tb ts (r0, rq) h0 h1 h2 h3 fi R) rfl ?_
      have hk := hk
      simp only [c1, cond_true, cond_false] at hk
      first | exact hk | (simp only [c1, cond_true, cond_false]; exact hk)
  exact hX_end rfl (rfl) (rfl)


/-- UpOneSide$Reader.readPull(LUpOneSide$Blind;I)V -/
def me_33_51_10 (N : Nat) (x0 : Int32) (d : hB) (tb : Nat → Int32) (rq : hRq) : Option (hB × hRq) :=
  (bif gCmp .lt d.2.2.2.2.1 8 then
    (Option.bind (me_40_51 N tb rq) fun q2 =>
    (Option.bind (me_38_51_1017 N tb q2) fun q3 =>
    (bif gCmp .eq q3 0 then
      (Option.bind (me_38_51_1018 N tb q2) fun q5 =>
      (bif gCmp .eq q5 0 then
        (bif ((gCmp .ge d.2.2.2.2.1 8) || (gIn d.2.2.2.2.1 8)) then some ((f_13_10_d x0 5 0 d), q2) else none)
      else
        (Option.bind (me_40_51 N tb q2) fun q8 =>
        (Option.bind (me_35_51 N (-9) 9 tb q8) fun q9 =>
        (bif ((gCmp .ge d.2.2.2.2.1 8) || (gIn d.2.2.2.2.1 8)) then some ((f_13_10_d x0 5 q9.1 d), q9.2) else none)))))
    else
      (Option.bind (me_40_51 N tb q2) fun q11 =>
      (Option.bind (me_35_51 N (-30) 30 tb q11) fun q12 =>
      (Option.bind (me_38_51_1018 N tb q12.2) fun q13 =>
      (bif gCmp .eq q13 0 then
        (bif ((gCmp .ge d.2.2.2.2.1 8) || (gIn d.2.2.2.2.1 8)) then some ((f_13_10_d x0 q12.1 0 d), q12.2) else none)
      else
        (Option.bind (me_40_51 N tb q12.2) fun q16 =>
        (Option.bind (me_35_51 N (-9) 9 tb q16) fun q17 =>
        (bif ((gCmp .ge d.2.2.2.2.1 8) || (gIn d.2.2.2.2.1 8)) then some ((f_13_10_d x0 q12.1 q17.1 d), q17.2) else none))))))))))
  else
    some (d, (f_39_51_rq rq)))
set_option maxRecDepth 20000 in
set_option maxHeartbeats 4000000 in
theorem mt_33_51_10 {LL : Nat} {xs : Nat → Int32} {D : Nat} {b d k s w : hB} {ik ex pr wd : Int32} {sn : Nat → Int64} {qu tb : Nat → Int32} {ts : Int32} {rq : hRq} {h0 h1 h2 h3 : hSt} {fi : Nat → Int32} {R : List gE} (N : Nat) (x0 : Int32) (q : hB × hRq) (h : me_33_51_10 N x0 d tb rq = some q) : hM (gO LL xs) (D + 5) zR_33 [.ref 51, .ref 10, .int x0] (hCm b d k s w ik ex pr wd sn qu tb ts (.ref 50, rq) h0 h1 h2 h3 fi R) none (hCm b q.1 k s w ik ex pr wd sn qu tb ts (.ref 50, q.2) h0 h1 h2 h3 fi R) := by
  unfold me_33_51_10 at h
  refine hX_go 0 0 [some (.ref 51), some (.ref 10), some (.int x0), none, none] [] (hCm b d k s w ik ex pr wd sn qu tb ts (.ref 50, rq) h0 h1 h2 h3 fi R) rfl ?_
  refine hX_go 4 (bif gCmp .lt d.2.2.2.2.1 8 then 14 else 9) [some (.ref 51), some (.ref 10), some (.int x0), none, none] [] (hCm b d k s w ik ex pr wd sn qu tb ts (.ref 50, rq) h0 h1 h2 h3 fi R) rfl ?_
  refine hX_if (gCmp .lt d.2.2.2.2.1 8) (fun c1 => ?_) (fun c1 => ?_)
  · skip
    have h := gcT c1 h
    refine hX_goM 1 (15) [some (.ref 51), some (.ref 10), some (.int x0), none, none] [.ref 51] rfl ?_
    revert h; refine gBindR fun q2 e2 h => ?_
    refine hX_call (r' := zR_40) rfl (mt_40_51 N q2 e2) ?_
    refine hX_go 4 (23) [some (.ref 51), some (.ref 10), some (.int x0), some (.int 5), none] [.ref 1017, .ref 51] (hCm b d k s w ik ex pr wd sn qu tb ts (.ref 50, q2) h0 h1 h2 h3 fi R) rfl ?_
    revert h; refine gBindR fun q3 e3 h => ?_
    refine hX_call (r' := zR_38) rfl (mt_38_51_1017 N q3 e3) ?_
    refine hX_goM 1 (bif gCmp .eq q3 0 then 48 else 29) [some (.ref 51), some (.ref 10), some (.int x0), some (.int 5), none] [] rfl ?_
    refine hX_if (gCmp .eq q3 0) (fun c4 => ?_) (fun c4 => ?_)
    · skip
      have h := gcT c4 h
      refine hX_goM 4 (54) [some (.ref 51), some (.ref 10), some (.int x0), some (.int 5), some (.int 0)] [.ref 1018, .ref 51] rfl ?_
      revert h; refine gBindR fun q5 e5 h => ?_
      refine hX_call (r' := zR_38) rfl (mt_38_51_1018 N q5 e5) ?_
      refine hX_goM 1 (bif gCmp .eq q5 0 then 80 else 60) [some (.ref 51), some (.ref 10), some (.int x0), some (.int 5), some (.int 0)] [] rfl ?_
      refine hX_if (gCmp .eq q5 0) (fun c6 => ?_) (fun c6 => ?_)
      · skip
        have h := gcT c6 h
        refine hX_goM 4 (85) [some (.ref 51), some (.ref 10), some (.int x0), some (.int 5), some (.int 0)] [.int 0, .int 5, .int x0, .ref 10] rfl ?_
        revert h; refine gCondR fun g7 h => ?_
        refine hX_call (r' := zR_13) rfl (ct_13_10 x0 5 0 (fun u0 => (gImpF g7 u0))) ?_
        refine hX_go 0 (88) [some (.ref 51), some (.ref 10), some (.int x0), some (.int 5), some (.int 0)] [] (hCm b (f_13_10_d x0 5 0 d) k s w ik ex pr wd sn qu tb ts (.ref 50, q2) h0 h1 h2 h3 fi R) rfl ?_
        have h := Option.some.inj h; subst h
        exact hX_end rfl rfl rfl
      · skip
        have h := gcF c6 h
        refine hX_goM 1 (61) [some (.ref 51), some (.ref 10), some (.int x0), some (.int 5), some (.int 0)] [.ref 51] rfl ?_
        revert h; refine gBindR fun q8 e8 h => ?_
        refine hX_call (r' := zR_40) rfl (mt_40_51 N q8 e8) ?_
        refine hX_go 7 (75) [some (.ref 51), some (.ref 10), some (.int x0), some (.int 5), some (.int 0)] [.int 9, .int (-9), .ref 51] (hCm b d k s w ik ex pr wd sn qu tb ts (.ref 50, q8) h0 h1 h2 h3 fi R) rfl ?_
        revert h; refine gBindR fun q9 e9 h => ?_
        refine hX_call (r' := zR_35) rfl (mt_35_51 N (-9) 9 q9 e9) ?_
        refine hX_go 5 (85) [some (.ref 51), some (.ref 10), some (.int x0), some (.int 5), some (.int q9.1)] [.int q9.1, .int 5, .int x0, .ref 10] (hCm b d k s w ik ex pr wd sn qu tb ts (.ref 50, q9.2) h0 h1 h2 h3 fi R) rfl ?_
        revert h; refine gCondR fun g10 h => ?_
        refine hX_call (r' := zR_13) rfl (ct_13_10 x0 5 q9.1 (fun u0 => (gImpF g10 u0))) ?_
        refine hX_go 0 (88) [some (.ref 51), some (.ref 10), some (.int x0), some (.int 5), some (.int q9.1)] [] (hCm b (f_13_10_d x0 5 q9.1 d) k s w ik ex pr wd sn qu tb ts (.ref 50, q9.2) h0 h1 h2 h3 fi R) rfl ?_
        have h := Option.some.inj h; subst h
        exact hX_end rfl rfl rfl
    · skip
      have h := gcF c4 h
      refine hX_goM 1 (30) [some (.ref 51), some (.ref 10), some (.int x0), some (.int 5), none] [.ref 51] rfl ?_
      revert h; refine gBindR fun q11 e11 h => ?_
      refine hX_call (r' := zR_40) rfl (mt_40_51 N q11 e11) ?_
      refine hX_go 7 (44) [some (.ref 51), some (.ref 10), some (.int x0), some (.int 5), none] [.int 30, .int (-30), .ref 51] (hCm b d k s w ik ex pr wd sn qu tb ts (.ref 50, q11) h0 h1 h2 h3 fi R) rfl ?_
      revert h; refine gBindR fun q12 e12 h => ?_
      refine hX_call (r' := zR_35) rfl (mt_35_51 N (-30) 30 q12 e12) ?_
      refine hX_go 5 (54) [some (.ref 51), some (.ref 10), some (.int x0), some (.int q12.1), some (.int 0)] [.ref 1018, .ref 51] (hCm b d k s w ik ex pr wd sn qu tb ts (.ref 50, q12.2) h0 h1 h2 h3 fi R) rfl ?_
      revert h; refine gBindR fun q13 e13 h => ?_
      refine hX_call (r' := zR_38) rfl (mt_38_51_1018 N q13 e13) ?_
      refine hX_goM 1 (bif gCmp .eq q13 0 then 80 else 60) [some (.ref 51), some (.ref 10), some (.int x0), some (.int q12.1), some (.int 0)] [] rfl ?_
      refine hX_if (gCmp .eq q13 0) (fun c14 => ?_) (fun c14 => ?_)
      · skip
        have h := gcT c14 h
        refine hX_goM 4 (85) [some (.ref 51), some (.ref 10), some (.int x0), some (.int q12.1), some (.int 0)] [.int 0, .int q12.1, .int x0, .ref 10] rfl ?_
        revert h; refine gCondR fun g15 h => ?_
        refine hX_call (r' := zR_13) rfl (ct_13_10 x0 q12.1 0 (fun u0 => (gImpF g15 u0))) ?_
        refine hX_go 0 (88) [some (.ref 51), some (.ref 10), some (.int x0), some (.int q12.1), some (.int 0)] [] (hCm b (f_13_10_d x0 q12.1 0 d) k s w ik ex pr wd sn qu tb ts (.ref 50, q12.2) h0 h1 h2 h3 fi R) rfl ?_
        have h := Option.some.inj h; subst h
        exact hX_end rfl rfl rfl
      · skip
        have h := gcF c14 h
        refine hX_goM 1 (61) [some (.ref 51), some (.ref 10), some (.int x0), some (.int q12.1), some (.int 0)] [.ref 51] rfl ?_
        revert h; refine gBindR fun q16 e16 h => ?_
        refine hX_call (r' := zR_40) rfl (mt_40_51 N q16 e16) ?_
        refine hX_go 7 (75) [some (.ref 51), some (.ref 10), some (.int x0), some (.int q12.1), some (.int 0)] [.int 9, .int (-9), .ref 51] (hCm b d k s w ik ex pr wd sn qu tb ts (.ref 50, q16) h0 h1 h2 h3 fi R) rfl ?_
        revert h; refine gBindR fun q17 e17 h => ?_
        refine hX_call (r' := zR_35) rfl (mt_35_51 N (-9) 9 q17 e17) ?_
        refine hX_go 5 (85) [some (.ref 51), some (.ref 10), some (.int x0), some (.int q12.1), some (.int q17.1)] [.int q17.1, .int q12.1, .int x0, .ref 10] (hCm b d k s w ik ex pr wd sn qu tb ts (.ref 50, q17.2) h0 h1 h2 h3 fi R) rfl ?_
        revert h; refine gCondR fun g18 h => ?_
        refine hX_call (r' := zR_13) rfl (ct_13_10 x0 q12.1 q17.1 (fun u0 => (gImpF g18 u0))) ?_
        refine hX_go 0 (88) [some (.ref 51), some (.ref 10), some (.int x0), some (.int q12.1), some (.int q17.1)] [] (hCm b (f_13_10_d x0 q12.1 q17.1 d) k s w ik ex pr wd sn qu tb ts (.ref 50, q17.2) h0 h1 h2 h3 fi R) rfl ?_
        have h := Option.some.inj h; subst h
        exact hX_end rfl rfl rfl
  · skip
    have h := gcF c1 h
    refine hX_goM 1 (10) [some (.ref 51), some (.ref 10), some (.int x0), none, none] [.ref 51] rfl ?_
    refine hX_call (r' := zR_39) rfl (ct_39_51) ?_
    refine hX_go 0 (13) [some (.ref 51), some (.ref 10), some (.int x0), none, none] [] (hCm b d k s w ik ex pr wd sn qu tb ts (.ref 50, (f_39_51_rq rq)) h0 h1 h2 h3 fi R) rfl ?_
    have h := Option.some.inj h; subst h
    exact hX_end rfl rfl rfl


/-- UpOneSide$Reader.readItem(LUpOneSide$Blind;)V -/
def me_32_51_10 (N : Nat) (d : hB) (tb : Nat → Int32) (rq : hRq) : Option (hB × hRq) :=
  (Option.bind (me_36_51 N tb rq) fun q1 =>
  (bif gCmp .lt q1 0 then
    (Option.bind (me_38_51_1019 N tb rq) fun q3 =>
    (bif gCmp .eq q3 0 then
      (Option.bind (me_38_51_1020 N tb rq) fun q5 =>
      (bif gCmp .eq q5 0 then
        (Option.bind (me_38_51_1021 N tb rq) fun q7 =>
        (bif gCmp .eq q7 0 then
          (Option.bind (me_38_51_1022 N tb rq) fun q9 =>
          (bif gCmp .eq q9 0 then
            (Option.bind (me_38_51_1023 N tb rq) fun q11 =>
            (bif gCmp .eq q11 0 then
              (Option.bind (me_38_51_1024 N tb rq) fun q13 =>
              (bif gCmp .eq q13 0 then
                (Option.bind (me_38_51_1025 N tb rq) fun q15 =>
                (bif gCmp .eq q15 0 then
                  some (d, (f_39_51_rq rq))
                else
                  (Option.bind (me_40_51 N tb rq) fun q17 =>
                  (Option.bind (me_35_51 N 0 60 tb q17) fun q18 =>
                  (Option.bind (me_35_51 N 0 60 tb q18.2) fun q19 =>
                  some ((q18.1, q19.1, d.2.2), q19.2))))))
              else
                (Option.bind (me_40_51 N tb rq) fun q20 =>
                (Option.bind (me_35_51 N 0 23 tb q20) fun q21 =>
                (Option.bind (me_35_51 N 0 60 tb q21.2) fun q22 =>
                (bif gIn q21.1 24 then some ((d.1, d.2.1, d.2.2.1, d.2.2.2.1, d.2.2.2.2.1, d.2.2.2.2.2.1, d.2.2.2.2.2.2.1, d.2.2.2.2.2.2.2.1, d.2.2.2.2.2.2.2.2.1, d.2.2.2.2.2.2.2.2.2.1, d.2.2.2.2.2.2.2.2.2.2.1, upd d.2.2.2.2.2.2.2.2.2.2.2.1 (Int32.toNatClampNeg q21.1) q22.1, d.2.2.2.2.2.2.2.2.2.2.2.2), q22.2) else none))))))
            else
              (Option.bind (me_34_51_10 N 5 d tb rq) fun q24 =>
              some (q24.1, q24.2))))
          else
            (Option.bind (me_34_51_10 N 3 d tb rq) fun q25 =>
            some (q25.1, q25.2))))
        else
          (Option.bind (me_34_51_10 N 2 d tb rq) fun q26 =>
          some (q26.1, q26.2))))
      else
        (Option.bind (me_34_51_10 N 1 d tb rq) fun q27 =>
        some (q27.1, q27.2))))
    else
      (Option.bind (me_34_51_10 N 0 d tb rq) fun q28 =>
      some (q28.1, q28.2))))
  else
    (Option.bind (me_33_51_10 N q1 d tb rq) fun q29 =>
    some (q29.1, q29.2))))
set_option maxRecDepth 20000 in
set_option maxHeartbeats 4000000 in
theorem mt_32_51_10 {LL : Nat} {xs : Nat → Int32} {D : Nat} {b d k s w : hB} {ik ex pr wd : Int32} {sn : Nat → Int64} {qu tb : Nat → Int32} {ts : Int32} {rq : hRq} {h0 h1 h2 h3 : hSt} {fi : Nat → Int32} {R : List gE} (N : Nat) (q : hB × hRq) (h : me_32_51_10 N d tb rq = some q) : hM (gO LL xs) (D + 6) zR_32 [.ref 51, .ref 10] (hCm b d k s w ik ex pr wd sn qu tb ts (.ref 50, rq) h0 h1 h2 h3 fi R) none (hCm b q.1 k s w ik ex pr wd sn qu tb ts (.ref 50, q.2) h0 h1 h2 h3 fi R) := by
  unfold me_32_51_10 at h
  refine hX_go 0 0 [some (.ref 51), some (.ref 10), none, none] [] (hCm b d k s w ik ex pr wd sn qu tb ts (.ref 50, rq) h0 h1 h2 h3 fi R) rfl ?_
  refine hX_go 1 (1) [some (.ref 51), some (.ref 10), none, none] [.ref 51] (hCm b d k s w ik ex pr wd sn qu tb ts (.ref 50, rq) h0 h1 h2 h3 fi R) rfl ?_
  revert h; refine gBindR fun q1 e1 h => ?_
  refine hX_call (r' := zR_36) rfl (mt_36_51 N q1 e1) ?_
  refine hX_goM 3 (bif gCmp .lt q1 0 then 18 else 9) [some (.ref 51), some (.ref 10), some (.int q1), none] [] rfl ?_
  refine hX_if (gCmp .lt q1 0) (fun c2 => ?_) (fun c2 => ?_)
  · skip
    have h := gcT c2 h
    refine hX_goM 2 (21) [some (.ref 51), some (.ref 10), some (.int q1), none] [.ref 1019, .ref 51] rfl ?_
    revert h; refine gBindR fun q3 e3 h => ?_
    refine hX_call (r' := zR_38) rfl (mt_38_51_1019 N q3 e3) ?_
    refine hX_goM 1 (bif gCmp .eq q3 0 then 36 else 27) [some (.ref 51), some (.ref 10), some (.int q1), none] [] rfl ?_
    refine hX_if (gCmp .eq q3 0) (fun c4 => ?_) (fun c4 => ?_)
    · skip
      have h := gcT c4 h
      refine hX_goM 2 (39) [some (.ref 51), some (.ref 10), some (.int q1), none] [.ref 1020, .ref 51] rfl ?_
      revert h; refine gBindR fun q5 e5 h => ?_
      refine hX_call (r' := zR_38) rfl (mt_38_51_1020 N q5 e5) ?_
      refine hX_goM 1 (bif gCmp .eq q5 0 then 54 else 45) [some (.ref 51), some (.ref 10), some (.int q1), none] [] rfl ?_
      refine hX_if (gCmp .eq q5 0) (fun c6 => ?_) (fun c6 => ?_)
      · skip
        have h := gcT c6 h
        refine hX_goM 2 (57) [some (.ref 51), some (.ref 10), some (.int q1), none] [.ref 1021, .ref 51] rfl ?_
        revert h; refine gBindR fun q7 e7 h => ?_
        refine hX_call (r' := zR_38) rfl (mt_38_51_1021 N q7 e7) ?_
        refine hX_goM 1 (bif gCmp .eq q7 0 then 72 else 63) [some (.ref 51), some (.ref 10), some (.int q1), none] [] rfl ?_
        refine hX_if (gCmp .eq q7 0) (fun c8 => ?_) (fun c8 => ?_)
        · skip
          have h := gcT c8 h
          refine hX_goM 2 (75) [some (.ref 51), some (.ref 10), some (.int q1), none] [.ref 1022, .ref 51] rfl ?_
          revert h; refine gBindR fun q9 e9 h => ?_
          refine hX_call (r' := zR_38) rfl (mt_38_51_1022 N q9 e9) ?_
          refine hX_goM 1 (bif gCmp .eq q9 0 then 90 else 81) [some (.ref 51), some (.ref 10), some (.int q1), none] [] rfl ?_
          refine hX_if (gCmp .eq q9 0) (fun c10 => ?_) (fun c10 => ?_)
          · skip
            have h := gcT c10 h
            refine hX_goM 2 (93) [some (.ref 51), some (.ref 10), some (.int q1), none] [.ref 1023, .ref 51] rfl ?_
            revert h; refine gBindR fun q11 e11 h => ?_
            refine hX_call (r' := zR_38) rfl (mt_38_51_1023 N q11 e11) ?_
            refine hX_goM 1 (bif gCmp .eq q11 0 then 108 else 99) [some (.ref 51), some (.ref 10), some (.int q1), none] [] rfl ?_
            refine hX_if (gCmp .eq q11 0) (fun c12 => ?_) (fun c12 => ?_)
            · skip
              have h := gcT c12 h
              refine hX_goM 2 (111) [some (.ref 51), some (.ref 10), some (.int q1), none] [.ref 1024, .ref 51] rfl ?_
              revert h; refine gBindR fun q13 e13 h => ?_
              refine hX_call (r' := zR_38) rfl (mt_38_51_1024 N q13 e13) ?_
              refine hX_goM 1 (bif gCmp .eq q13 0 then 145 else 117) [some (.ref 51), some (.ref 10), some (.int q1), none] [] rfl ?_
              refine hX_if (gCmp .eq q13 0) (fun c14 => ?_) (fun c14 => ?_)
              · skip
                have h := gcT c14 h
                refine hX_goM 2 (148) [some (.ref 51), some (.ref 10), some (.int q1), none] [.ref 1025, .ref 51] rfl ?_
                revert h; refine gBindR fun q15 e15 h => ?_
                refine hX_call (r' := zR_38) rfl (mt_38_51_1025 N q15 e15) ?_
                refine hX_goM 1 (bif gCmp .eq q15 0 then 183 else 154) [some (.ref 51), some (.ref 10), some (.int q1), none] [] rfl ?_
                refine hX_if (gCmp .eq q15 0) (fun c16 => ?_) (fun c16 => ?_)
                · skip
                  have h := gcT c16 h
                  refine hX_goM 1 (184) [some (.ref 51), some (.ref 10), some (.int q1), none] [.ref 51] rfl ?_
                  refine hX_call (r' := zR_39) rfl (ct_39_51) ?_
                  refine hX_go 0 (187) [some (.ref 51), some (.ref 10), some (.int q1), none] [] (hCm b d k s w ik ex pr wd sn qu tb ts (.ref 50, (f_39_51_rq rq)) h0 h1 h2 h3 fi R) rfl ?_
                  have h := Option.some.inj h; subst h
                  exact hX_end rfl rfl rfl
                · skip
                  have h := gcF c16 h
                  refine hX_goM 1 (155) [some (.ref 51), some (.ref 10), some (.int q1), none] [.ref 51] rfl ?_
                  revert h; refine gBindR fun q17 e17 h => ?_
                  refine hX_call (r' := zR_40) rfl (mt_40_51 N q17 e17) ?_
                  refine hX_go 4 (163) [some (.ref 51), some (.ref 10), some (.int q1), none] [.int 60, .int 0, .ref 51, .ref 10] (hCm b d k s w ik ex pr wd sn qu tb ts (.ref 50, q17) h0 h1 h2 h3 fi R) rfl ?_
                  revert h; refine gBindR fun q18 e18 h => ?_
                  refine hX_call (r' := zR_35) rfl (mt_35_51 N 0 60 q18 e18) ?_
                  refine hX_go 5 (174) [some (.ref 51), some (.ref 10), some (.int q1), none] [.int 60, .int 0, .ref 51, .ref 10] (hCm b (q18.1, d.2) k s w ik ex pr wd sn qu tb ts (.ref 50, q18.2) h0 h1 h2 h3 fi R) rfl ?_
                  revert h; refine gBindR fun q19 e19 h => ?_
                  refine hX_call (r' := zR_35) rfl (mt_35_51 N 0 60 q19 e19) ?_
                  refine hX_go 2 (187) [some (.ref 51), some (.ref 10), some (.int q1), none] [] (hCm b (q18.1, q19.1, d.2.2) k s w ik ex pr wd sn qu tb ts (.ref 50, q19.2) h0 h1 h2 h3 fi R) rfl ?_
                  have h := Option.some.inj h; subst h
                  exact hX_end rfl rfl rfl
              · skip
                have h := gcF c14 h
                refine hX_goM 1 (118) [some (.ref 51), some (.ref 10), some (.int q1), none] [.ref 51] rfl ?_
                revert h; refine gBindR fun q20 e20 h => ?_
                refine hX_call (r' := zR_40) rfl (mt_40_51 N q20 e20) ?_
                refine hX_go 3 (125) [some (.ref 51), some (.ref 10), some (.int q1), none] [.int 23, .int 0, .ref 51] (hCm b d k s w ik ex pr wd sn qu tb ts (.ref 50, q20) h0 h1 h2 h3 fi R) rfl ?_
                revert h; refine gBindR fun q21 e21 h => ?_
                refine hX_call (r' := zR_35) rfl (mt_35_51 N 0 23 q21 e21) ?_
                refine hX_go 7 (138) [some (.ref 51), some (.ref 10), some (.int q1), some (.int q21.1)] [.int 60, .int 0, .ref 51, .int q21.1, .ref 17] (hCm b d k s w ik ex pr wd sn qu tb ts (.ref 50, q21.2) h0 h1 h2 h3 fi R) rfl ?_
                revert h; refine gBindR fun q22 e22 h => ?_
                refine hX_call (r' := zR_35) rfl (mt_35_51 N 0 60 q22 e22) ?_
                refine hX_go 0 (141) [some (.ref 51), some (.ref 10), some (.int q1), some (.int q21.1)] [.int q22.1, .int q21.1, .ref 17] (hCm b d k s w ik ex pr wd sn qu tb ts (.ref 50, q22.2) h0 h1 h2 h3 fi R) rfl ?_
                revert h; refine gCondR fun g23 h => ?_
                refine hX_g (gIn q21.1 24) 142 [some (.ref 51), some (.ref 10), some (.int q1), some (.int q21.1)] [] (hCm b (d.1, d.2.1, d.2.2.1, d.2.2.2.1, d.2.2.2.2.1, d.2.2.2.2.2.1, d.2.2.2.2.2.2.1, d.2.2.2.2.2.2.2.1, d.2.2.2.2.2.2.2.2.1, d.2.2.2.2.2.2.2.2.2.1, d.2.2.2.2.2.2.2.2.2.2.1, upd d.2.2.2.2.2.2.2.2.2.2.2.1 (Int32.toNatClampNeg q21.1) q22.1, d.2.2.2.2.2.2.2.2.2.2.2.2) k s w ik ex pr wd sn qu tb ts (.ref 50, q22.2) h0 h1 h2 h3 fi R) rfl g23 ?_
                refine hX_goM 1 (187) [some (.ref 51), some (.ref 10), some (.int q1), some (.int q21.1)] [] rfl ?_
                have h := Option.some.inj h; subst h
                exact hX_end rfl rfl rfl
            · skip
              have h := gcF c12 h
              refine hX_goM 3 (102) [some (.ref 51), some (.ref 10), some (.int q1), none] [.int 5, .ref 10, .ref 51] rfl ?_
              revert h; refine gBindR fun q24 e24 h => ?_
              refine hX_call (r' := zR_34) rfl (mt_34_51_10 N 5 q24 e24) ?_
              refine hX_go 1 (187) [some (.ref 51), some (.ref 10), some (.int q1), none] [] (hCm b q24.1 k s w ik ex pr wd sn qu tb ts (.ref 50, q24.2) h0 h1 h2 h3 fi R) rfl ?_
              have h := Option.some.inj h; subst h
              exact hX_end rfl rfl rfl
          · skip
            have h := gcF c10 h
            refine hX_goM 3 (84) [some (.ref 51), some (.ref 10), some (.int q1), none] [.int 3, .ref 10, .ref 51] rfl ?_
            revert h; refine gBindR fun q25 e25 h => ?_
            refine hX_call (r' := zR_34) rfl (mt_34_51_10 N 3 q25 e25) ?_
            refine hX_go 1 (187) [some (.ref 51), some (.ref 10), some (.int q1), none] [] (hCm b q25.1 k s w ik ex pr wd sn qu tb ts (.ref 50, q25.2) h0 h1 h2 h3 fi R) rfl ?_
            have h := Option.some.inj h; subst h
            exact hX_end rfl rfl rfl
        · skip
          have h := gcF c8 h
          refine hX_goM 3 (66) [some (.ref 51), some (.ref 10), some (.int q1), none] [.int 2, .ref 10, .ref 51] rfl ?_
          revert h; refine gBindR fun q26 e26 h => ?_
          refine hX_call (r' := zR_34) rfl (mt_34_51_10 N 2 q26 e26) ?_
          refine hX_go 1 (187) [some (.ref 51), some (.ref 10), some (.int q1), none] [] (hCm b q26.1 k s w ik ex pr wd sn qu tb ts (.ref 50, q26.2) h0 h1 h2 h3 fi R) rfl ?_
          have h := Option.some.inj h; subst h
          exact hX_end rfl rfl rfl
      · skip
        have h := gcF c6 h
        refine hX_goM 3 (48) [some (.ref 51), some (.ref 10), some (.int q1), none] [.int 1, .ref 10, .ref 51] rfl ?_
        revert h; refine gBindR fun q27 e27 h => ?_
        refine hX_call (r' := zR_34) rfl (mt_34_51_10 N 1 q27 e27) ?_
        refine hX_go 1 (187) [some (.ref 51), some (.ref 10), some (.int q1), none] [] (hCm b q27.1 k s w ik ex pr wd sn qu tb ts (.ref 50, q27.2) h0 h1 h2 h3 fi R) rfl ?_
        have h := Option.some.inj h; subst h
        exact hX_end rfl rfl rfl
    · skip
      have h := gcF c4 h
      refine hX_goM 3 (30) [some (.ref 51), some (.ref 10), some (.int q1), none] [.int 0, .ref 10, .ref 51] rfl ?_
      revert h; refine gBindR fun q28 e28 h => ?_
      refine hX_call (r' := zR_34) rfl (mt_34_51_10 N 0 q28 e28) ?_
      refine hX_go 1 (187) [some (.ref 51), some (.ref 10), some (.int q1), none] [] (hCm b q28.1 k s w ik ex pr wd sn qu tb ts (.ref 50, q28.2) h0 h1 h2 h3 fi R) rfl ?_
      have h := Option.some.inj h; subst h
      exact hX_end rfl rfl rfl
  · skip
    have h := gcF c2 h
    refine hX_goM 3 (12) [some (.ref 51), some (.ref 10), some (.int q1), none] [.int q1, .ref 10, .ref 51] rfl ?_
    revert h; refine gBindR fun q29 e29 h => ?_
    refine hX_call (r' := zR_33) rfl (mt_33_51_10 N q1 q29 e29) ?_
    refine hX_go 1 (187) [some (.ref 51), some (.ref 10), some (.int q1), none] [] (hCm b q29.1 k s w ik ex pr wd sn qu tb ts (.ref 50, q29.2) h0 h1 h2 h3 fi R) rfl ?_
    have h := Option.some.inj h; subst h
    exact hX_end rfl rfl rfl

/-- UpOneSide$Reader.read: the loop at 38 -/
def lp_31_51_49_10_38 (N : Nat) (tb : Nat → Int32) : Nat → Int32 → Int32 → Int32 → hB → hRq → Option (Int32 × Int32 × Int32 × hB × hRq)
  | 0, _, _, _, _, _ => none
  | n + 1, y3, y4, y5, d, rq =>
    (bif gCmp .gt y5 rq.1 then
      some (y3, y4, y5, d, rq)
    else
      (bif gCmp .eq y4 0 then
        some (y3, y4, y5, d, rq)
      else
        (bif gCmp .ne rq.2.2.2.2.2 (-1) then
          some (y3, y4, y5, d, rq)
        else
          (Option.bind (me_32_51_10 N d tb rq) fun q4 =>
          (bif gCmp .eq (bif gCmp .ne q4.2.2.1 3 then 0 else 1) 0 then
            lp_31_51_49_10_38 N tb n (y3 + 1) (bif gCmp .ne q4.2.2.1 3 then 0 else 1) (y5 + 1) q4.1 (bif gCmp .eq q4.2.2.1 0 then q4.2.1 else ((f_39_51_rq q4.2).1), bif gCmp .eq q4.2.2.1 0 then q4.2.2.1 else ((f_39_51_rq q4.2).2.1), bif gCmp .eq q4.2.2.1 0 then q4.2.2.2.1 else ((f_39_51_rq q4.2).2.2.1), bif gCmp .eq q4.2.2.1 0 then q4.2.2.2.2.1 else ((f_39_51_rq q4.2).2.2.2.1), bif gCmp .eq q4.2.2.1 0 then q4.2.2.2.2.2.1 else ((f_39_51_rq q4.2).2.2.2.2.1), bif gCmp .eq q4.2.2.1 0 then q4.2.2.2.2.2.2 else ((f_39_51_rq q4.2).2.2.2.2.2))
          else
            (Option.bind (me_40_51 N tb q4.2) fun q10 =>
            lp_31_51_49_10_38 N tb n (y3 + 1) (bif gCmp .ne q4.2.2.1 3 then 0 else 1) (y5 + 1) q4.1 q10))))))
set_option maxRecDepth 20000 in
set_option maxHeartbeats 4000000 in
theorem lt_31_51_49_10_38 {LL : Nat} {xs : Nat → Int32} {D N : Nat} {b k s w : hB} {ik ex pr wd : Int32} {sn : Nat → Int64} {qu tb : Nat → Int32} {ts : Int32}  {h0 h1 h2 h3 : hSt} {fi : Nat → Int32} {R : List gE} {v : Option Value} {M' : List gE} : ∀ (n : Nat) (y3 : Int32) (y4 : Int32) (y5 : Int32) (d : hB) (rq : hRq) (q : Int32 × Int32 × Int32 × hB × hRq), lp_31_51_49_10_38 N tb n y3 y4 y5 d rq = some q → (kk : hX (gO LL xs) (D + 7) zR_31 112 [some (.ref 51), some (.ref 49), some (.ref 10), some (.int q.1), some (.int q.2.1), some (.int q.2.2.1)] [] (hCm b q.2.2.2.1 k s w ik ex pr wd sn qu tb ts (.ref 50, q.2.2.2.2) h0 h1 h2 h3 fi R) v M') → hX (gO LL xs) (D + 7) zR_31 38 [some (.ref 51), some (.ref 49), some (.ref 10), some (.int y3), some (.int y4), some (.int y5)] [] (hCm b d k s w ik ex pr wd sn qu tb ts (.ref 50, rq) h0 h1 h2 h3 fi R) v M' := by
  intro n
  induction n with
  | zero => intro y3 y4 y5 d rq q h; cases h
  | succ n ih =>
    intro y3 y4 y5 d rq q h kk
    rw [lp_31_51_49_10_38] at h
    refine hX_go 4 (bif gCmp .gt y5 rq.1 then 112 else 47) [some (.ref 51), some (.ref 49), some (.ref 10), some (.int y3), some (.int y4), some (.int y5)] [] (hCm b d k s w ik ex pr wd sn qu tb ts (.ref 50, rq) h0 h1 h2 h3 fi R) rfl ?_
    refine hX_if (gCmp .gt y5 rq.1) (fun c1 => ?_) (fun c1 => ?_)
    · skip
      have h := gcT c1 h
      have h := Option.some.inj h; subst h
      exact kk
    · skip
      have h := gcF c1 h
      refine hX_goM 2 (bif gCmp .eq y4 0 then 112 else 52) [some (.ref 51), some (.ref 49), some (.ref 10), some (.int y3), some (.int y4), some (.int y5)] [] rfl ?_
      refine hX_if (gCmp .eq y4 0) (fun c2 => ?_) (fun c2 => ?_)
      · skip
        have h := gcT c2 h
        have h := Option.some.inj h; subst h
        exact kk
      · skip
        have h := gcF c2 h
        refine hX_goM 4 (bif gCmp .ne rq.2.2.2.2.2 (-1) then 112 else 60) [some (.ref 51), some (.ref 49), some (.ref 10), some (.int y3), some (.int y4), some (.int y5)] [] rfl ?_
        refine hX_if (gCmp .ne rq.2.2.2.2.2 (-1)) (fun c3 => ?_) (fun c3 => ?_)
        · skip
          have h := gcT c3 h
          have h := Option.some.inj h; subst h
          exact kk
        · skip
          have h := gcF c3 h
          refine hX_goM 2 (62) [some (.ref 51), some (.ref 49), some (.ref 10), some (.int y3), some (.int y4), some (.int y5)] [.ref 10, .ref 51] rfl ?_
          revert h; refine gBindR fun q4 e4 h => ?_
          refine hX_call (r' := zR_32) rfl (mt_32_51_10 N q4 e4) ?_
          refine hX_go 5 (bif gCmp .ne q4.2.2.1 3 then 80 else 76) [some (.ref 51), some (.ref 49), some (.ref 10), some (.int (y3 + 1)), some (.int y4), some (.int y5)] [] (hCm b q4.1 k s w ik ex pr wd sn qu tb ts (.ref 50, q4.2) h0 h1 h2 h3 fi R) rfl ?_
          refine hX_mrg 81 [some (.ref 51), some (.ref 49), some (.ref 10), some (.int (y3 + 1)), some (.int y4), some (.int y5)] [.int (bif gCmp .ne q4.2.2.1 3 then 0 else 1)] (hCm b q4.1 k s w ik ex pr wd sn qu tb ts (.ref 50, q4.2) h0 h1 h2 h3 fi R) (fun hk => ?_) ?_
          · skip
            refine hX_if (gCmp .ne q4.2.2.1 3) (fun c6 => ?_) (fun c6 => ?_)
            · skip
              refine hX_goM 1 (81) [some (.ref 51), some (.ref 49), some (.ref 10), some (.int (y3 + 1)), some (.int y4), some (.int y5)] [.int 0] rfl ?_
              have hk := hk
              simp only [c6, cond_true, cond_false] at hk
              first | exact hk | (simp only [c6, cond_true, cond_false]; exact hk)
            · skip
              refine hX_goM 2 (81) [some (.ref 51), some (.ref 49), some (.ref 10), some (.int (y3 + 1)), some (.int y4), some (.int y5)] [.int 1] rfl ?_
              have hk := hk
              simp only [c6, cond_true, cond_false] at hk
              first | exact hk | (simp only [c6, cond_true, cond_false]; exact hk)
          refine hX_goM 3 (bif gCmp .eq (bif gCmp .ne q4.2.2.1 3 then 0 else 1) 0 then 95 else 88) [some (.ref 51), some (.ref 49), some (.ref 10), some (.int (y3 + 1)), some (.int (bif gCmp .ne q4.2.2.1 3 then 0 else 1)), some (.int y5)] [] rfl ?_
          refine hX_if (gCmp .eq (bif gCmp .ne q4.2.2.1 3 then 0 else 1) 0) (fun c7 => ?_) (fun c7 => ?_)
          · skip
            have h := gcT c7 h
            refine hX_goM 3 (bif gCmp .eq q4.2.2.1 0 then 106 else 102) [some (.ref 51), some (.ref 49), some (.ref 10), some (.int (y3 + 1)), some (.int (bif gCmp .ne q4.2.2.1 3 then 0 else 1)), some (.int y5)] [] rfl ?_
            refine hX_mrg 106 [some (.ref 51), some (.ref 49), some (.ref 10), some (.int (y3 + 1)), some (.int (bif gCmp .ne q4.2.2.1 3 then 0 else 1)), some (.int y5)] [] (hCm b q4.1 k s w ik ex pr wd sn qu tb ts (.ref 50, (bif gCmp .eq q4.2.2.1 0 then q4.2.1 else ((f_39_51_rq q4.2).1), bif gCmp .eq q4.2.2.1 0 then q4.2.2.1 else ((f_39_51_rq q4.2).2.1), bif gCmp .eq q4.2.2.1 0 then q4.2.2.2.1 else ((f_39_51_rq q4.2).2.2.1), bif gCmp .eq q4.2.2.1 0 then q4.2.2.2.2.1 else ((f_39_51_rq q4.2).2.2.2.1), bif gCmp .eq q4.2.2.1 0 then q4.2.2.2.2.2.1 else ((f_39_51_rq q4.2).2.2.2.2.1), bif gCmp .eq q4.2.2.1 0 then q4.2.2.2.2.2.2 else ((f_39_51_rq q4.2).2.2.2.2.2))) h0 h1 h2 h3 fi R) (fun hk => ?_) ?_
            · skip
              refine hX_if (gCmp .eq q4.2.2.1 0) (fun c9 => ?_) (fun c9 => ?_)
              · skip
                have hk := hk
                simp only [c9, cond_true, cond_false] at hk
                first | exact hk | (simp only [c9, cond_true, cond_false]; exact hk)
              · skip
                refine hX_goM 1 (103) [some (.ref 51), some (.ref 49), some (.ref 10), some (.int (y3 + 1)), some (.int (bif gCmp .ne q4.2.2.1 3 then 0 else 1)), some (.int y5)] [.ref 51] rfl ?_
                refine hX_call (r' := zR_39) rfl (ct_39_51) ?_
                refine hX_go 0 (106) [some (.ref 51), some (.ref 49), some (.ref 10), some (.int (y3 + 1)), some (.int (bif gCmp .ne q4.2.2.1 3 then 0 else 1)), some (.int y5)] [] (hCm b q4.1 k s w ik ex pr wd sn qu tb ts (.ref 50, (f_39_51_rq q4.2)) h0 h1 h2 h3 fi R) rfl ?_
                have hk := hk
                simp only [c9, cond_true, cond_false] at hk
                first | exact hk | (simp only [c9, cond_true, cond_false]; exact hk)
            refine hX_goM 2 (38) [some (.ref 51), some (.ref 49), some (.ref 10), some (.int (y3 + 1)), some (.int (bif gCmp .ne q4.2.2.1 3 then 0 else 1)), some (.int (y5 + 1))] [] rfl ?_
            exact ih (y3 + 1) (bif gCmp .ne q4.2.2.1 3 then 0 else 1) (y5 + 1) q4.1 (bif gCmp .eq q4.2.2.1 0 then q4.2.1 else ((f_39_51_rq q4.2).1), bif gCmp .eq q4.2.2.1 0 then q4.2.2.1 else ((f_39_51_rq q4.2).2.1), bif gCmp .eq q4.2.2.1 0 then q4.2.2.2.1 else ((f_39_51_rq q4.2).2.2.1), bif gCmp .eq q4.2.2.1 0 then q4.2.2.2.2.1 else ((f_39_51_rq q4.2).2.2.2.1), bif gCmp .eq q4.2.2.1 0 then q4.2.2.2.2.2.1 else ((f_39_51_rq q4.2).2.2.2.2.1), bif gCmp .eq q4.2.2.1 0 then q4.2.2.2.2.2.2 else ((f_39_51_rq q4.2).2.2.2.2.2)) q h kk
          · skip
            have h := gcF c7 h
            refine hX_goM 1 (89) [some (.ref 51), some (.ref 49), some (.ref 10), some (.int (y3 + 1)), some (.int (bif gCmp .ne q4.2.2.1 3 then 0 else 1)), some (.int y5)] [.ref 51] rfl ?_
            revert h; refine gBindR fun q10 e10 h => ?_
            refine hX_call (r' := zR_40) rfl (mt_40_51 N q10 e10) ?_
            refine hX_go 3 (38) [some (.ref 51), some (.ref 49), some (.ref 10), some (.int (y3 + 1)), some (.int (bif gCmp .ne q4.2.2.1 3 then 0 else 1)), some (.int (y5 + 1))] [] (hCm b q4.1 k s w ik ex pr wd sn qu tb ts (.ref 50, q10) h0 h1 h2 h3 fi R) rfl ?_
            exact ih (y3 + 1) (bif gCmp .ne q4.2.2.1 3 then 0 else 1) (y5 + 1) q4.1 q10 q h kk

/-- UpOneSide$Reader.read(LUpOneSide$Tape;LUpOneSide$Blind;)I -/
def me_31_51_49_10 (N : Nat) (d : hB) (tb : Nat → Int32) (ts : Int32) (rq : hRq) : Option (Int32 × hB × Value × hRq) :=
  (Option.bind (me_40_51 N tb (ts, rq.2.1, rq.2.2.1, 0, rq.2.2.2.2.1, (-1))) fun q1 =>
  (Option.bind (lp_31_51_49_10_38 N tb N 0 1 0 d q1) fun q2 =>
  some (bif gCmp .ne q2.2.2.2.2.2.2.2.2.2 (-1) then ((-1) - q2.2.2.2.2.2.2.2.2.2) else q2.1, q2.2.2.2.1, .ref 50, q2.2.2.2.2)))
set_option maxRecDepth 20000 in
set_option maxHeartbeats 4000000 in
theorem mt_31_51_49_10 {LL : Nat} {xs : Nat → Int32} {D : Nat} {b d k s w : hB} {ik ex pr wd : Int32} {sn : Nat → Int64} {qu tb : Nat → Int32} {ts : Int32} {r0 : Value} {rq : hRq} {h0 h1 h2 h3 : hSt} {fi : Nat → Int32} {R : List gE} (N : Nat) (q : Int32 × hB × Value × hRq) (h : me_31_51_49_10 N d tb ts rq = some q) : hM (gO LL xs) (D + 7) zR_31 [.ref 51, .ref 49, .ref 10] (hCm b d k s w ik ex pr wd sn qu tb ts (r0, rq) h0 h1 h2 h3 fi R) (some (.int q.1)) (hCm b q.2.1 k s w ik ex pr wd sn qu tb ts (q.2.2.1, q.2.2.2) h0 h1 h2 h3 fi R) := by
  unfold me_31_51_49_10 at h
  refine hX_go 0 0 [some (.ref 51), some (.ref 49), some (.ref 10), none, none, none] [] (hCm b d k s w ik ex pr wd sn qu tb ts (r0, rq) h0 h1 h2 h3 fi R) rfl ?_
  refine hX_go 9 (17) [some (.ref 51), some (.ref 49), some (.ref 10), none, none, none] [.ref 51] (hCm b d k s w ik ex pr wd sn qu tb ts (.ref 50, (ts, rq.2)) h0 h1 h2 h3 fi R) rfl ?_
  refine hX_go 9 (31) [some (.ref 51), some (.ref 49), some (.ref 10), some (.int 0), some (.int 1), none] [] (hCm b d k s w ik ex pr wd sn qu tb ts (.ref 50, (ts, rq.2.1, rq.2.2.1, 0, rq.2.2.2.2.1, (-1))) h0 h1 h2 h3 fi R) rfl ?_
  refine hX_goM 1 (32) [some (.ref 51), some (.ref 49), some (.ref 10), some (.int 0), some (.int 1), none] [.ref 51] rfl ?_
  revert h; refine gBindR fun q1 e1 h => ?_
  refine hX_call (r' := zR_40) rfl (mt_40_51 N q1 e1) ?_
  refine hX_go 2 (38) [some (.ref 51), some (.ref 49), some (.ref 10), some (.int 0), some (.int 1), some (.int 0)] [] (hCm b d k s w ik ex pr wd sn qu tb ts (.ref 50, q1) h0 h1 h2 h3 fi R) rfl ?_
  revert h; refine gBindR fun q2 e2 h => ?_
  refine lt_31_51_49_10_38 N 0 1 0 d q1 q2 e2 ?_
  refine hX_go 4 (bif gCmp .ne q2.2.2.2.2.2.2.2.2.2 (-1) then 124 else 120) [some (.ref 51), some (.ref 49), some (.ref 10), some (.int q2.1), some (.int q2.2.1), some (.int q2.2.2.1)] [] (hCm b q2.2.2.2.1 k s w ik ex pr wd sn qu tb ts (.ref 50, q2.2.2.2.2) h0 h1 h2 h3 fi R) rfl ?_
  refine hX_mrg 130 [some (.ref 51), some (.ref 49), some (.ref 10), some (.int q2.1), some (.int q2.2.1), some (.int q2.2.2.1)] [.int (bif gCmp .ne q2.2.2.2.2.2.2.2.2.2 (-1) then ((-1) - q2.2.2.2.2.2.2.2.2.2) else q2.1)] (hCm b q2.2.2.2.1 k s w ik ex pr wd sn qu tb ts (.ref 50, q2.2.2.2.2) h0 h1 h2 h3 fi R) (fun hk => ?_) ?_
  · skip
    refine hX_if (gCmp .ne q2.2.2.2.2.2.2.2.2.2 (-1)) (fun c4 => ?_) (fun c4 => ?_)
    · skip
      refine hX_goM 4 (130) [some (.ref 51), some (.ref 49), some (.ref 10), some (.int q2.1), some (.int q2.2.1), some (.int q2.2.2.1)] [.int ((-1) - q2.2.2.2.2.2.2.2.2.2)] rfl ?_
      have hk := hk
      simp only [c4, cond_true, cond_false] at hk
      first | exact hk | (simp only [c4, cond_true, cond_false]; exact hk)
    · skip
      refine hX_goM 2 (130) [some (.ref 51), some (.ref 49), some (.ref 10), some (.int q2.1), some (.int q2.2.1), some (.int q2.2.2.1)] [.int q2.1] rfl ?_
      have hk := hk
      simp only [c4, cond_true, cond_false] at hk
      first | exact hk | (simp only [c4, cond_true, cond_false]; exact hk)
  have h := Option.some.inj h; subst h
  exact hX_end rfl rfl rfl

/-- UpOneSide$Blind.takeOver(LUpOneSide$Blind;)V -/
def f_10_1_10_b (b : hB) (d : hB) : hB := (d.1, d.2.1, d.2.2.1, d.2.2.2.1, d.2.2.2.2.1, va_cpy d.2.2.2.2.2.1 b.2.2.2.2.2.1 0 0 8, va_cpy d.2.2.2.2.2.2.1 b.2.2.2.2.2.2.1 0 0 8, va_cpy d.2.2.2.2.2.2.2.1 b.2.2.2.2.2.2.2.1 0 0 8, va_cpy d.2.2.2.2.2.2.2.2.1 b.2.2.2.2.2.2.2.2.1 0 0 6, va_cpy d.2.2.2.2.2.2.2.2.2.1 b.2.2.2.2.2.2.2.2.2.1 0 0 4, va_cpy d.2.2.2.2.2.2.2.2.2.2.1 b.2.2.2.2.2.2.2.2.2.2.1 0 0 61, va_cpy d.2.2.2.2.2.2.2.2.2.2.2.1 b.2.2.2.2.2.2.2.2.2.2.2.1 0 0 24, va_cpy d.2.2.2.2.2.2.2.2.2.2.2.2 b.2.2.2.2.2.2.2.2.2.2.2.2 0 0 10)
set_option maxRecDepth 20000 in
set_option maxHeartbeats 1000000 in
theorem ct_10_1_10 {LL : Nat} {xs : Nat → Int32} {D : Nat} {b d k s w : hB} {ik ex pr wd : Int32} {sn : Nat → Int64} {qu tb : Nat → Int32} {ts : Int32} {r0 : Value} {rq : hRq} {h0 h1 h2 h3 : hSt} {fi : Nat → Int32} {R : List gE} : hM (gO LL xs) (D + 1) zR_10 [.ref 1, .ref 10] (hCm b d k s w ik ex pr wd sn qu tb ts (r0, rq) h0 h1 h2 h3 fi R) none (hCm (f_10_1_10_b b d) d k s w ik ex pr wd sn qu tb ts (r0, rq) h0 h1 h2 h3 fi R) := by
  refine hX_go 0 0 [some (.ref 1), some (.ref 10)] [] (hCm b d k s w ik ex pr wd sn qu tb ts (r0, rq) h0 h1 h2 h3 fi R) rfl ?_
  refine hX_go 9 (17) [some (.ref 1), some (.ref 10)] [.ref 1] (hCm (d.1, d.2.1, b.2.2) d k s w ik ex pr wd sn qu tb ts (r0, rq) h0 h1 h2 h3 fi R) rfl ?_
  refine hX_go 9 (34) [some (.ref 1), some (.ref 10)] [.ref 10, .ref 1] (hCm (d.1, d.2.1, d.2.2.1, d.2.2.2.1, b.2.2.2.2) d k s w ik ex pr wd sn qu tb ts (r0, rq) h0 h1 h2 h3 fi R) rfl ?_
  refine hX_go 9 (52) [some (.ref 1), some (.ref 10)] [.int 8, .int 0, .ref 2, .int 0, .ref 11] (hCm (d.1, d.2.1, d.2.2.1, d.2.2.2.1, d.2.2.2.2.1, b.2.2.2.2.2) d k s w ik ex pr wd sn qu tb ts (r0, rq) h0 h1 h2 h3 fi R) rfl ?_
  refine hX_go 9 (70) [some (.ref 1), some (.ref 10)] [] (hCm (d.1, d.2.1, d.2.2.1, d.2.2.2.1, d.2.2.2.2.1, va_cpy d.2.2.2.2.2.1 b.2.2.2.2.2.1 0 0 8, va_cpy d.2.2.2.2.2.2.1 b.2.2.2.2.2.2.1 0 0 8, b.2.2.2.2.2.2.2) d k s w ik ex pr wd sn qu tb ts (r0, rq) h0 h1 h2 h3 fi R) rfl ?_
  refine hX_go 9 (86) [some (.ref 1), some (.ref 10)] [.ref 10] (hCm (d.1, d.2.1, d.2.2.1, d.2.2.2.1, d.2.2.2.2.1, va_cpy d.2.2.2.2.2.1 b.2.2.2.2.2.1 0 0 8, va_cpy d.2.2.2.2.2.2.1 b.2.2.2.2.2.2.1 0 0 8, va_cpy d.2.2.2.2.2.2.2.1 b.2.2.2.2.2.2.2.1 0 0 8, b.2.2.2.2.2.2.2.2) d k s w ik ex pr wd sn qu tb ts (r0, rq) h0 h1 h2 h3 fi R) rfl ?_
  refine hX_go 9 (103) [some (.ref 1), some (.ref 10)] [] (hCm (d.1, d.2.1, d.2.2.1, d.2.2.2.1, d.2.2.2.2.1, va_cpy d.2.2.2.2.2.1 b.2.2.2.2.2.1 0 0 8, va_cpy d.2.2.2.2.2.2.1 b.2.2.2.2.2.2.1 0 0 8, va_cpy d.2.2.2.2.2.2.2.1 b.2.2.2.2.2.2.2.1 0 0 8, va_cpy d.2.2.2.2.2.2.2.2.1 b.2.2.2.2.2.2.2.2.1 0 0 6, b.2.2.2.2.2.2.2.2.2) d k s w ik ex pr wd sn qu tb ts (r0, rq) h0 h1 h2 h3 fi R) rfl ?_
  refine hX_go 9 (118) [some (.ref 1), some (.ref 10)] [.ref 10] (hCm (d.1, d.2.1, d.2.2.1, d.2.2.2.1, d.2.2.2.2.1, va_cpy d.2.2.2.2.2.1 b.2.2.2.2.2.1 0 0 8, va_cpy d.2.2.2.2.2.2.1 b.2.2.2.2.2.2.1 0 0 8, va_cpy d.2.2.2.2.2.2.2.1 b.2.2.2.2.2.2.2.1 0 0 8, va_cpy d.2.2.2.2.2.2.2.2.1 b.2.2.2.2.2.2.2.2.1 0 0 6, va_cpy d.2.2.2.2.2.2.2.2.2.1 b.2.2.2.2.2.2.2.2.2.1 0 0 4, b.2.2.2.2.2.2.2.2.2.2) d k s w ik ex pr wd sn qu tb ts (r0, rq) h0 h1 h2 h3 fi R) rfl ?_
  refine hX_go 9 (136) [some (.ref 1), some (.ref 10)] [.ref 17] (hCm (d.1, d.2.1, d.2.2.1, d.2.2.2.1, d.2.2.2.2.1, va_cpy d.2.2.2.2.2.1 b.2.2.2.2.2.1 0 0 8, va_cpy d.2.2.2.2.2.2.1 b.2.2.2.2.2.2.1 0 0 8, va_cpy d.2.2.2.2.2.2.2.1 b.2.2.2.2.2.2.2.1 0 0 8, va_cpy d.2.2.2.2.2.2.2.2.1 b.2.2.2.2.2.2.2.2.1 0 0 6, va_cpy d.2.2.2.2.2.2.2.2.2.1 b.2.2.2.2.2.2.2.2.2.1 0 0 4, va_cpy d.2.2.2.2.2.2.2.2.2.2.1 b.2.2.2.2.2.2.2.2.2.2.1 0 0 61, b.2.2.2.2.2.2.2.2.2.2.2) d k s w ik ex pr wd sn qu tb ts (r0, rq) h0 h1 h2 h3 fi R) rfl ?_
  refine hX_go 9 (152) [some (.ref 1), some (.ref 10)] [.int 0, .ref 18] (hCm (d.1, d.2.1, d.2.2.1, d.2.2.2.1, d.2.2.2.2.1, va_cpy d.2.2.2.2.2.1 b.2.2.2.2.2.1 0 0 8, va_cpy d.2.2.2.2.2.2.1 b.2.2.2.2.2.2.1 0 0 8, va_cpy d.2.2.2.2.2.2.2.1 b.2.2.2.2.2.2.2.1 0 0 8, va_cpy d.2.2.2.2.2.2.2.2.1 b.2.2.2.2.2.2.2.2.1 0 0 6, va_cpy d.2.2.2.2.2.2.2.2.2.1 b.2.2.2.2.2.2.2.2.2.1 0 0 4, va_cpy d.2.2.2.2.2.2.2.2.2.2.1 b.2.2.2.2.2.2.2.2.2.2.1 0 0 61, va_cpy d.2.2.2.2.2.2.2.2.2.2.2.1 b.2.2.2.2.2.2.2.2.2.2.2.1 0 0 24, b.2.2.2.2.2.2.2.2.2.2.2.2) d k s w ik ex pr wd sn qu tb ts (r0, rq) h0 h1 h2 h3 fi R) rfl ?_
  refine hX_go 5 (162) [some (.ref 1), some (.ref 10)] [] (hCm (d.1, d.2.1, d.2.2.1, d.2.2.2.1, d.2.2.2.2.1, va_cpy d.2.2.2.2.2.1 b.2.2.2.2.2.1 0 0 8, va_cpy d.2.2.2.2.2.2.1 b.2.2.2.2.2.2.1 0 0 8, va_cpy d.2.2.2.2.2.2.2.1 b.2.2.2.2.2.2.2.1 0 0 8, va_cpy d.2.2.2.2.2.2.2.2.1 b.2.2.2.2.2.2.2.2.1 0 0 6, va_cpy d.2.2.2.2.2.2.2.2.2.1 b.2.2.2.2.2.2.2.2.2.1 0 0 4, va_cpy d.2.2.2.2.2.2.2.2.2.2.1 b.2.2.2.2.2.2.2.2.2.2.1 0 0 61, va_cpy d.2.2.2.2.2.2.2.2.2.2.2.1 b.2.2.2.2.2.2.2.2.2.2.2.1 0 0 24, va_cpy d.2.2.2.2.2.2.2.2.2.2.2.2 b.2.2.2.2.2.2.2.2.2.2.2.2 0 0 10) d k s w ik ex pr wd sn qu tb ts (r0, rq) h0 h1 h2 h3 fi R) rfl ?_
  exact hX_end rfl (rfl) (rfl)


/-- UpOneSide.text()I -/
def me_98_0 (N : Nat) (b : hB) (d : hB) (tb : Nat → Int32) (ts : Int32) (rq : hRq) : Option (Int32 × hB × hB × Int32 × Value × hRq) :=
  (Option.bind (me_31_51_49_10 N (f_10_10_1_d b d) tb ts rq) fun q1 =>
  some (q1.1, (bif gCmp .le q1.1 0 then b.1 else ((f_10_1_10_b b q1.2.1).1), bif gCmp .le q1.1 0 then b.2.1 else ((f_10_1_10_b b q1.2.1).2.1), bif gCmp .le q1.1 0 then b.2.2.1 else ((f_10_1_10_b b q1.2.1).2.2.1), bif gCmp .le q1.1 0 then b.2.2.2.1 else ((f_10_1_10_b b q1.2.1).2.2.2.1), bif gCmp .le q1.1 0 then b.2.2.2.2.1 else ((f_10_1_10_b b q1.2.1).2.2.2.2.1), bif gCmp .le q1.1 0 then b.2.2.2.2.2.1 else ((f_10_1_10_b b q1.2.1).2.2.2.2.2.1), bif gCmp .le q1.1 0 then b.2.2.2.2.2.2.1 else ((f_10_1_10_b b q1.2.1).2.2.2.2.2.2.1), bif gCmp .le q1.1 0 then b.2.2.2.2.2.2.2.1 else ((f_10_1_10_b b q1.2.1).2.2.2.2.2.2.2.1), bif gCmp .le q1.1 0 then b.2.2.2.2.2.2.2.2.1 else ((f_10_1_10_b b q1.2.1).2.2.2.2.2.2.2.2.1), bif gCmp .le q1.1 0 then b.2.2.2.2.2.2.2.2.2.1 else ((f_10_1_10_b b q1.2.1).2.2.2.2.2.2.2.2.2.1), bif gCmp .le q1.1 0 then b.2.2.2.2.2.2.2.2.2.2.1 else ((f_10_1_10_b b q1.2.1).2.2.2.2.2.2.2.2.2.2.1), bif gCmp .le q1.1 0 then b.2.2.2.2.2.2.2.2.2.2.2.1 else ((f_10_1_10_b b q1.2.1).2.2.2.2.2.2.2.2.2.2.2.1), bif gCmp .le q1.1 0 then b.2.2.2.2.2.2.2.2.2.2.2.2 else ((f_10_1_10_b b q1.2.1).2.2.2.2.2.2.2.2.2.2.2.2)), q1.2.1, 0, q1.2.2.1, q1.2.2.2))
set_option maxRecDepth 20000 in
set_option maxHeartbeats 4000000 in
theorem mt_98_0 {LL : Nat} {xs : Nat → Int32} {D : Nat} {b d k s w : hB} {ik ex pr wd : Int32} {sn : Nat → Int64} {qu tb : Nat → Int32} {ts : Int32} {r0 : Value} {rq : hRq} {h0 h1 h2 h3 : hSt} {fi : Nat → Int32} {R : List gE} (N : Nat) (q : Int32 × hB × hB × Int32 × Value × hRq) (h : me_98_0 N b d tb ts rq = some q) : hM (gO LL xs) (D + 8) zR_98 [.ref 0] (hCm b d k s w ik ex pr wd sn qu tb ts (r0, rq) h0 h1 h2 h3 fi R) (some (.int q.1)) (hCm q.2.1 q.2.2.1 k s w ik ex pr wd sn qu tb q.2.2.2.1 (q.2.2.2.2.1, q.2.2.2.2.2) h0 h1 h2 h3 fi R) := by
  unfold me_98_0 at h
  refine hX_go 0 0 [some (.ref 0), none] [] (hCm b d k s w ik ex pr wd sn qu tb ts (r0, rq) h0 h1 h2 h3 fi R) rfl ?_
  refine hX_go 4 (8) [some (.ref 0), none] [.ref 1, .ref 10] (hCm b d k s w ik ex pr wd sn qu tb ts (r0, rq) h0 h1 h2 h3 fi R) rfl ?_
  refine hX_call (r' := zR_10) rfl (ct_10_10_1) ?_
  refine hX_go 6 (23) [some (.ref 0), none] [.ref 10, .ref 49, .ref 51] (hCm b (f_10_10_1_d b d) k s w ik ex pr wd sn qu tb ts (r0, rq) h0 h1 h2 h3 fi R) rfl ?_
  revert h; refine gBindR fun q1 e1 h => ?_
  refine hX_call (r' := zR_31) rfl (mt_31_51_49_10 N q1 e1) ?_
  refine hX_go 3 (bif gCmp .le q1.1 0 then 42 else 31) [some (.ref 0), some (.int q1.1)] [] (hCm b q1.2.1 k s w ik ex pr wd sn qu tb ts (q1.2.2.1, q1.2.2.2) h0 h1 h2 h3 fi R) rfl ?_
  refine hX_mrg 42 [some (.ref 0), some (.int q1.1)] [] (hCm (bif gCmp .le q1.1 0 then b.1 else ((f_10_1_10_b b q1.2.1).1), bif gCmp .le q1.1 0 then b.2.1 else ((f_10_1_10_b b q1.2.1).2.1), bif gCmp .le q1.1 0 then b.2.2.1 else ((f_10_1_10_b b q1.2.1).2.2.1), bif gCmp .le q1.1 0 then b.2.2.2.1 else ((f_10_1_10_b b q1.2.1).2.2.2.1), bif gCmp .le q1.1 0 then b.2.2.2.2.1 else ((f_10_1_10_b b q1.2.1).2.2.2.2.1), bif gCmp .le q1.1 0 then b.2.2.2.2.2.1 else ((f_10_1_10_b b q1.2.1).2.2.2.2.2.1), bif gCmp .le q1.1 0 then b.2.2.2.2.2.2.1 else ((f_10_1_10_b b q1.2.1).2.2.2.2.2.2.1), bif gCmp .le q1.1 0 then b.2.2.2.2.2.2.2.1 else ((f_10_1_10_b b q1.2.1).2.2.2.2.2.2.2.1), bif gCmp .le q1.1 0 then b.2.2.2.2.2.2.2.2.1 else ((f_10_1_10_b b q1.2.1).2.2.2.2.2.2.2.2.1), bif gCmp .le q1.1 0 then b.2.2.2.2.2.2.2.2.2.1 else ((f_10_1_10_b b q1.2.1).2.2.2.2.2.2.2.2.2.1), bif gCmp .le q1.1 0 then b.2.2.2.2.2.2.2.2.2.2.1 else ((f_10_1_10_b b q1.2.1).2.2.2.2.2.2.2.2.2.2.1), bif gCmp .le q1.1 0 then b.2.2.2.2.2.2.2.2.2.2.2.1 else ((f_10_1_10_b b q1.2.1).2.2.2.2.2.2.2.2.2.2.2.1), bif gCmp .le q1.1 0 then b.2.2.2.2.2.2.2.2.2.2.2.2 else ((f_10_1_10_b b q1.2.1).2.2.2.2.2.2.2.2.2.2.2.2)) q1.2.1 k s w ik ex pr wd sn qu tb ts (q1.2.2.1, q1.2.2.2) h0 h1 h2 h3 fi R) (fun hk => ?_) ?_
  · skip
    refine hX_if (gCmp .le q1.1 0) (fun c3 => ?_) (fun c3 => ?_)
    · skip
      have hk := hk
      simp only [c3, cond_true, cond_false] at hk
      first | exact hk | (simp only [c3, cond_true, cond_false]; exact hk)
    · skip
      refine hX_goM 4 (39) [some (.ref 0), some (.int q1.1)] [.ref 10, .ref 1] rfl ?_
      refine hX_call (r' := zR_10) rfl (ct_10_1_10) ?_
      refine hX_go 0 (42) [some (.ref 0), some (.int q1.1)] [] (hCm (f_10_1_10_b b q1.2.1) q1.2.1 k s w ik ex pr wd sn qu tb ts (q1.2.2.1, q1.2.2.2) h0 h1 h2 h3 fi R) rfl ?_
      have hk := hk
      simp only [c3, cond_true, cond_false] at hk
      first | exact hk | (simp only [c3, cond_true, cond_false]; exact hk)
  refine hX_go 5 (51) [some (.ref 0), some (.int q1.1)] [.int q1.1] (hCm (bif gCmp .le q1.1 0 then b.1 else ((f_10_1_10_b b q1.2.1).1), bif gCmp .le q1.1 0 then b.2.1 else ((f_10_1_10_b b q1.2.1).2.1), bif gCmp .le q1.1 0 then b.2.2.1 else ((f_10_1_10_b b q1.2.1).2.2.1), bif gCmp .le q1.1 0 then b.2.2.2.1 else ((f_10_1_10_b b q1.2.1).2.2.2.1), bif gCmp .le q1.1 0 then b.2.2.2.2.1 else ((f_10_1_10_b b q1.2.1).2.2.2.2.1), bif gCmp .le q1.1 0 then b.2.2.2.2.2.1 else ((f_10_1_10_b b q1.2.1).2.2.2.2.2.1), bif gCmp .le q1.1 0 then b.2.2.2.2.2.2.1 else ((f_10_1_10_b b q1.2.1).2.2.2.2.2.2.1), bif gCmp .le q1.1 0 then b.2.2.2.2.2.2.2.1 else ((f_10_1_10_b b q1.2.1).2.2.2.2.2.2.2.1), bif gCmp .le q1.1 0 then b.2.2.2.2.2.2.2.2.1 else ((f_10_1_10_b b q1.2.1).2.2.2.2.2.2.2.2.1), bif gCmp .le q1.1 0 then b.2.2.2.2.2.2.2.2.2.1 else ((f_10_1_10_b b q1.2.1).2.2.2.2.2.2.2.2.2.1), bif gCmp .le q1.1 0 then b.2.2.2.2.2.2.2.2.2.2.1 else ((f_10_1_10_b b q1.2.1).2.2.2.2.2.2.2.2.2.2.1), bif gCmp .le q1.1 0 then b.2.2.2.2.2.2.2.2.2.2.2.1 else ((f_10_1_10_b b q1.2.1).2.2.2.2.2.2.2.2.2.2.2.1), bif gCmp .le q1.1 0 then b.2.2.2.2.2.2.2.2.2.2.2.2 else ((f_10_1_10_b b q1.2.1).2.2.2.2.2.2.2.2.2.2.2.2)) q1.2.1 k s w ik ex pr wd sn qu tb 0 (q1.2.2.1, q1.2.2.2) h0 h1 h2 h3 fi R) rfl ?_
  have h := Option.some.inj h; subst h
  exact hX_end rfl rfl rfl


/-- UpOneSide.hold(II)I -/
def me_99_0 (N : Nat) (x0 : Int32) (x1 : Int32) (b : hB) (fi : Nat → Int32) : Option (Int32 × hB × (Nat → Int32)) :=
  (bif gCmp .eq (v_112 x0 0 9) 0 then
    some (v_111_0 0, b, f_111_0_fi 0 fi)
  else
    (bif gCmp .eq x1 (-1) then
      (bif gIn x0 10 then some (1, (b.1, b.2.1, b.2.2.1, b.2.2.2.1, b.2.2.2.2.1, b.2.2.2.2.2.1, b.2.2.2.2.2.2.1, b.2.2.2.2.2.2.2.1, b.2.2.2.2.2.2.2.2.1, b.2.2.2.2.2.2.2.2.2.1, b.2.2.2.2.2.2.2.2.2.2.1, b.2.2.2.2.2.2.2.2.2.2.2.1, upd b.2.2.2.2.2.2.2.2.2.2.2.2 (Int32.toNatClampNeg x0) x1), fi) else none)
    else
      (bif gCmp .eq (v_113_0 x1 b) 0 then
        (bif gIn x0 10 then some (1, (b.1, b.2.1, b.2.2.1, b.2.2.2.1, b.2.2.2.2.1, b.2.2.2.2.2.1, b.2.2.2.2.2.2.1, b.2.2.2.2.2.2.2.1, b.2.2.2.2.2.2.2.2.1, b.2.2.2.2.2.2.2.2.2.1, b.2.2.2.2.2.2.2.2.2.2.1, b.2.2.2.2.2.2.2.2.2.2.2.1, upd b.2.2.2.2.2.2.2.2.2.2.2.2 (Int32.toNatClampNeg x0) x1), fi) else none)
      else
        some (v_111_0 0, b, f_111_0_fi 0 fi))))
set_option maxRecDepth 20000 in
set_option maxHeartbeats 4000000 in
theorem mt_99_0 {LL : Nat} {xs : Nat → Int32} {D : Nat} {b d k s w : hB} {ik ex pr wd : Int32} {sn : Nat → Int64} {qu tb : Nat → Int32} {ts : Int32} {r0 : Value} {rq : hRq} {h0 h1 h2 h3 : hSt} {fi : Nat → Int32} {R : List gE} (N : Nat) (x0 : Int32) (x1 : Int32) (q : Int32 × hB × (Nat → Int32)) (h : me_99_0 N x0 x1 b fi = some q) : hM (gO LL xs) (D + 1) zR_99 [.ref 0, .int x0, .int x1] (hCm b d k s w ik ex pr wd sn qu tb ts (r0, rq) h0 h1 h2 h3 fi R) (some (.int q.1)) (hCm q.2.1 d k s w ik ex pr wd sn qu tb ts (r0, rq) h0 h1 h2 h3 q.2.2 R) := by
  unfold me_99_0 at h
  refine hX_go 0 0 [some (.ref 0), some (.int x0), some (.int x1)] [] (hCm b d k s w ik ex pr wd sn qu tb ts (r0, rq) h0 h1 h2 h3 fi R) rfl ?_
  refine hX_go 3 (4) [some (.ref 0), some (.int x0), some (.int x1)] [.int 9, .int 0, .int x0] (hCm b d k s w ik ex pr wd sn qu tb ts (r0, rq) h0 h1 h2 h3 fi R) rfl ?_
  refine hX_call (r' := zR_112) rfl (ct_112 x0 0 9) ?_
  refine hX_goM 1 (bif gCmp .eq (v_112 x0 0 9) 0 then 23 else 10) [some (.ref 0), some (.int x0), some (.int x1)] [] rfl ?_
  refine hX_if (gCmp .eq (v_112 x0 0 9) 0) (fun c1 => ?_) (fun c1 => ?_)
  · skip
    have h := gcT c1 h
    refine hX_goM 2 (25) [some (.ref 0), some (.int x0), some (.int x1)] [.int 0, .ref 0] rfl ?_
    refine hX_call (r' := zR_111) rfl (ct_111_0 0 rfl) ?_
    refine hX_go 0 (28) [some (.ref 0), some (.int x0), some (.int x1)] [.int (v_111_0 0)] (hCm b d k s w ik ex pr wd sn qu tb ts (r0, rq) h0 h1 h2 h3 (f_111_0_fi 0 fi) R) rfl ?_
    have h := Option.some.inj h; subst h
    exact hX_end rfl rfl rfl
  · skip
    have h := gcF c1 h
    refine hX_goM 3 (bif gCmp .eq x1 (-1) then 29 else 15) [some (.ref 0), some (.int x0), some (.int x1)] [] rfl ?_
    refine hX_if (gCmp .eq x1 (-1)) (fun c2 => ?_) (fun c2 => ?_)
    · skip
      have h := gcT c2 h
      refine hX_goM 5 (38) [some (.ref 0), some (.int x0), some (.int x1)] [.int x1, .int x0, .ref 9] rfl ?_
      revert h; refine gCondR fun g3 h => ?_
      refine hX_g (gIn x0 10) 39 [some (.ref 0), some (.int x0), some (.int x1)] [] (hCm (b.1, b.2.1, b.2.2.1, b.2.2.2.1, b.2.2.2.2.1, b.2.2.2.2.2.1, b.2.2.2.2.2.2.1, b.2.2.2.2.2.2.2.1, b.2.2.2.2.2.2.2.2.1, b.2.2.2.2.2.2.2.2.2.1, b.2.2.2.2.2.2.2.2.2.2.1, b.2.2.2.2.2.2.2.2.2.2.2.1, upd b.2.2.2.2.2.2.2.2.2.2.2.2 (Int32.toNatClampNeg x0) x1) d k s w ik ex pr wd sn qu tb ts (r0, rq) h0 h1 h2 h3 fi R) rfl g3 ?_
      refine hX_goM 1 (40) [some (.ref 0), some (.int x0), some (.int x1)] [.int 1] rfl ?_
      have h := Option.some.inj h; subst h
      exact hX_end rfl rfl rfl
    · skip
      have h := gcF c2 h
      refine hX_goM 2 (17) [some (.ref 0), some (.int x0), some (.int x1)] [.int x1, .ref 0] rfl ?_
      refine hX_call (r' := zR_113) rfl (ct_113_0 x1) ?_
      refine hX_goM 1 (bif gCmp .eq (v_113_0 x1 b) 0 then 29 else 23) [some (.ref 0), some (.int x0), some (.int x1)] [] rfl ?_
      refine hX_if (gCmp .eq (v_113_0 x1 b) 0) (fun c4 => ?_) (fun c4 => ?_)
      · skip
        have h := gcT c4 h
        refine hX_goM 5 (38) [some (.ref 0), some (.int x0), some (.int x1)] [.int x1, .int x0, .ref 9] rfl ?_
        revert h; refine gCondR fun g5 h => ?_
        refine hX_g (gIn x0 10) 39 [some (.ref 0), some (.int x0), some (.int x1)] [] (hCm (b.1, b.2.1, b.2.2.1, b.2.2.2.1, b.2.2.2.2.1, b.2.2.2.2.2.1, b.2.2.2.2.2.2.1, b.2.2.2.2.2.2.2.1, b.2.2.2.2.2.2.2.2.1, b.2.2.2.2.2.2.2.2.2.1, b.2.2.2.2.2.2.2.2.2.2.1, b.2.2.2.2.2.2.2.2.2.2.2.1, upd b.2.2.2.2.2.2.2.2.2.2.2.2 (Int32.toNatClampNeg x0) x1) d k s w ik ex pr wd sn qu tb ts (r0, rq) h0 h1 h2 h3 fi R) rfl g5 ?_
        refine hX_goM 1 (40) [some (.ref 0), some (.int x0), some (.int x1)] [.int 1] rfl ?_
        have h := Option.some.inj h; subst h
        exact hX_end rfl rfl rfl
      · skip
        have h := gcF c4 h
        refine hX_goM 2 (25) [some (.ref 0), some (.int x0), some (.int x1)] [.int 0, .ref 0] rfl ?_
        refine hX_call (r' := zR_111) rfl (ct_111_0 0 rfl) ?_
        refine hX_go 0 (28) [some (.ref 0), some (.int x0), some (.int x1)] [.int (v_111_0 0)] (hCm b d k s w ik ex pr wd sn qu tb ts (r0, rq) h0 h1 h2 h3 (f_111_0_fi 0 fi) R) rfl ?_
        have h := Option.some.inj h; subst h
        exact hX_end rfl rfl rfl

/-- UpOneSide.isUnder: the loop at 4 -/
def lp_120_4 (N : Nat) (y1 : Int32) : Nat → Int32 → Int32 → Option (Int32)
  | 0, _, _ => none
  | n + 1, y2, y3 =>
    (bif gCmp .ge y3 7 then
      some (0)
    else
      (bif gCmp .lt y2 0 then
        some (0)
      else
        (bif gCmp .ge y2 7 then
          some (0)
        else
          (bif gCmp .ne y2 y1 then
            (bif gIn y2 7 then lp_120_4 N y1 n ((gSa 5).getD (Int32.toNatClampNeg y2) 0) (y3 + 1) else none)
          else
            some (1)))))
set_option maxRecDepth 20000 in
set_option maxHeartbeats 4000000 in
theorem lt_120_4 {LL : Nat} {xs : Nat → Int32} {D N : Nat} {b d k s w : hB} {ik ex pr wd : Int32} {sn : Nat → Int64} {qu tb : Nat → Int32} {ts : Int32} {r0 : Value} {rq : hRq} {h0 h1 h2 h3 : hSt} {fi : Nat → Int32} {R : List gE} {y0 : Int32} {y1 : Int32} : ∀ (n : Nat) (y2 : Int32) (y3 : Int32) (q : Int32), lp_120_4 N y1 n y2 y3 = some q → hX (gO LL xs) (D + 0) zR_120 4 [some (.int y0), some (.int y1), some (.int y2), some (.int y3)] [] (hCm b d k s w ik ex pr wd sn qu tb ts (r0, rq) h0 h1 h2 h3 fi R) (some (.int q)) (hCm b d k s w ik ex pr wd sn qu tb ts (r0, rq) h0 h1 h2 h3 fi R) := by
  intro n
  induction n with
  | zero => intro y2 y3 q h; cases h
  | succ n ih =>
    intro y2 y3 q h
    rw [lp_120_4] at h
    refine hX_go 3 (bif gCmp .ge y3 7 then 41 else 10) [some (.int y0), some (.int y1), some (.int y2), some (.int y3)] [] (hCm b d k s w ik ex pr wd sn qu tb ts (r0, rq) h0 h1 h2 h3 fi R) rfl ?_
    refine hX_if (gCmp .ge y3 7) (fun c1 => ?_) (fun c1 => ?_)
    · skip
      have h := gcT c1 h
      refine hX_goM 1 (42) [some (.int y0), some (.int y1), some (.int y2), some (.int y3)] [.int 0] rfl ?_
      have h := Option.some.inj h; subst h
      exact hX_end rfl rfl rfl
    · skip
      have h := gcF c1 h
      refine hX_goM 2 (bif gCmp .lt y2 0 then 41 else 14) [some (.int y0), some (.int y1), some (.int y2), some (.int y3)] [] rfl ?_
      refine hX_if (gCmp .lt y2 0) (fun c2 => ?_) (fun c2 => ?_)
      · skip
        have h := gcT c2 h
        refine hX_goM 1 (42) [some (.int y0), some (.int y1), some (.int y2), some (.int y3)] [.int 0] rfl ?_
        have h := Option.some.inj h; subst h
        exact hX_end rfl rfl rfl
      · skip
        have h := gcF c2 h
        refine hX_goM 4 (bif gCmp .ge y2 7 then 41 else 22) [some (.int y0), some (.int y1), some (.int y2), some (.int y3)] [] rfl ?_
        refine hX_if (gCmp .ge y2 7) (fun c3 => ?_) (fun c3 => ?_)
        · skip
          have h := gcT c3 h
          refine hX_goM 1 (42) [some (.int y0), some (.int y1), some (.int y2), some (.int y3)] [.int 0] rfl ?_
          have h := Option.some.inj h; subst h
          exact hX_end rfl rfl rfl
        · skip
          have h := gcF c3 h
          refine hX_goM 3 (bif gCmp .ne y2 y1 then 29 else 27) [some (.int y0), some (.int y1), some (.int y2), some (.int y3)] [] rfl ?_
          refine hX_if (gCmp .ne y2 y1) (fun c4 => ?_) (fun c4 => ?_)
          · skip
            have h := gcT c4 h
            refine hX_goM 2 (33) [some (.int y0), some (.int y1), some (.int y2), some (.int y3)] [.int y2, .ref 1005] rfl ?_
            revert h; refine gCondR fun g5 h => ?_
            refine hX_gM (gIn y2 7) 34 [some (.int y0), some (.int y1), some (.int y2), some (.int y3)] [.int ((gSa 5).getD (Int32.toNatClampNeg y2) 0)] rfl g5 ?_
            refine hX_goM 3 (4) [some (.int y0), some (.int y1), some (.int ((gSa 5).getD (Int32.toNatClampNeg y2) 0)), some (.int (y3 + 1))] [] rfl ?_
            exact ih ((gSa 5).getD (Int32.toNatClampNeg y2) 0) (y3 + 1) q h
          · skip
            have h := gcF c4 h
            refine hX_goM 1 (28) [some (.int y0), some (.int y1), some (.int y2), some (.int y3)] [.int 1] rfl ?_
            have h := Option.some.inj h; subst h
            exact hX_end rfl rfl rfl

/-- UpOneSide.isUnder(II)Z -/
def me_120 (N : Nat) (x0 : Int32) (x1 : Int32) : Option (Int32) :=
  lp_120_4 N x1 N x0 0
set_option maxRecDepth 20000 in
set_option maxHeartbeats 4000000 in
theorem mt_120 {LL : Nat} {xs : Nat → Int32} {D : Nat} {b d k s w : hB} {ik ex pr wd : Int32} {sn : Nat → Int64} {qu tb : Nat → Int32} {ts : Int32} {r0 : Value} {rq : hRq} {h0 h1 h2 h3 : hSt} {fi : Nat → Int32} {R : List gE} (N : Nat) (x0 : Int32) (x1 : Int32) (q : Int32) (h : me_120 N x0 x1 = some q) : hM (gO LL xs) (D + 0) zR_120 [.int x0, .int x1] (hCm b d k s w ik ex pr wd sn qu tb ts (r0, rq) h0 h1 h2 h3 fi R) (some (.int q)) (hCm b d k s w ik ex pr wd sn qu tb ts (r0, rq) h0 h1 h2 h3 fi R) := by
  unfold me_120 at h
  refine hX_go 0 0 [some (.int x0), some (.int x1), none, none] [] (hCm b d k s w ik ex pr wd sn qu tb ts (r0, rq) h0 h1 h2 h3 fi R) rfl ?_
  refine hX_go 4 (4) [some (.int x0), some (.int x1), some (.int x0), some (.int 0)] [] (hCm b d k s w ik ex pr wd sn qu tb ts (r0, rq) h0 h1 h2 h3 fi R) rfl ?_
  exact lt_120_4 N x0 0 q h


/-- UpOneSide.as(II)I -/
def me_100_0 (N : Nat) (x0 : Int32) (x1 : Int32) (b : hB) (fi : Nat → Int32) : Option (Int32 × (Nat → Int32)) :=
  (bif gCmp .eq (v_112 x0 0 9) 0 then
    some (v_111_0 0, f_111_0_fi 0 fi)
  else
    (bif gCmp .ne (v_112 x1 0 6) 0 then
      (bif gIn x0 10 then (bif gCmp .eq (v_113_0 (b.2.2.2.2.2.2.2.2.2.2.2.2 (Int32.toNatClampNeg x0)) b) 0 then
        (bif gIn (b.2.2.2.2.2.2.2.2.2.2.2.2 (Int32.toNatClampNeg x0)) 8 then (Option.bind (me_120 N (b.2.2.2.2.2.1 (Int32.toNatClampNeg (b.2.2.2.2.2.2.2.2.2.2.2.2 (Int32.toNatClampNeg x0)))) x1) fun q6 =>
        some (bif gCmp .eq q6 0 then (v_111_0 2) else (b.2.2.2.2.2.2.2.2.2.2.2.2 (Int32.toNatClampNeg x0)), bif gCmp .eq q6 0 then (f_111_0_fi 2 fi) else fi)) else none)
      else
        some (v_111_0 5, f_111_0_fi 5 fi)) else none)
    else
      some (v_111_0 0, f_111_0_fi 0 fi)))
set_option maxRecDepth 20000 in
set_option maxHeartbeats 4000000 in
theorem mt_100_0 {LL : Nat} {xs : Nat → Int32} {D : Nat} {b d k s w : hB} {ik ex pr wd : Int32} {sn : Nat → Int64} {qu tb : Nat → Int32} {ts : Int32} {r0 : Value} {rq : hRq} {h0 h1 h2 h3 : hSt} {fi : Nat → Int32} {R : List gE} (N : Nat) (x0 : Int32) (x1 : Int32) (q : Int32 × (Nat → Int32)) (h : me_100_0 N x0 x1 b fi = some q) : hM (gO LL xs) (D + 1) zR_100 [.ref 0, .int x0, .int x1] (hCm b d k s w ik ex pr wd sn qu tb ts (r0, rq) h0 h1 h2 h3 fi R) (some (.int q.1)) (hCm b d k s w ik ex pr wd sn qu tb ts (r0, rq) h0 h1 h2 h3 q.2 R) := by
  unfold me_100_0 at h
  refine hX_go 0 0 [some (.ref 0), some (.int x0), some (.int x1), none] [] (hCm b d k s w ik ex pr wd sn qu tb ts (r0, rq) h0 h1 h2 h3 fi R) rfl ?_
  refine hX_go 3 (4) [some (.ref 0), some (.int x0), some (.int x1), none] [.int 9, .int 0, .int x0] (hCm b d k s w ik ex pr wd sn qu tb ts (r0, rq) h0 h1 h2 h3 fi R) rfl ?_
  refine hX_call (r' := zR_112) rfl (ct_112 x0 0 9) ?_
  refine hX_goM 1 (bif gCmp .eq (v_112 x0 0 9) 0 then 20 else 10) [some (.ref 0), some (.int x0), some (.int x1), none] [] rfl ?_
  refine hX_if (gCmp .eq (v_112 x0 0 9) 0) (fun c1 => ?_) (fun c1 => ?_)
  · skip
    have h := gcT c1 h
    refine hX_goM 2 (22) [some (.ref 0), some (.int x0), some (.int x1), none] [.int 0, .ref 0] rfl ?_
    refine hX_call (r' := zR_111) rfl (ct_111_0 0 rfl) ?_
    refine hX_go 0 (25) [some (.ref 0), some (.int x0), some (.int x1), none] [.int (v_111_0 0)] (hCm b d k s w ik ex pr wd sn qu tb ts (r0, rq) h0 h1 h2 h3 (f_111_0_fi 0 fi) R) rfl ?_
    have h := Option.some.inj h; subst h
    exact hX_end rfl rfl rfl
  · skip
    have h := gcF c1 h
    refine hX_goM 3 (14) [some (.ref 0), some (.int x0), some (.int x1), none] [.int 6, .int 0, .int x1] rfl ?_
    refine hX_call (r' := zR_112) rfl (ct_112 x1 0 6) ?_
    refine hX_goM 1 (bif gCmp .ne (v_112 x1 0 6) 0 then 26 else 20) [some (.ref 0), some (.int x0), some (.int x1), none] [] rfl ?_
    refine hX_if (gCmp .ne (v_112 x1 0 6) 0) (fun c2 => ?_) (fun c2 => ?_)
    · skip
      have h := gcT c2 h
      refine hX_goM 4 (34) [some (.ref 0), some (.int x0), some (.int x1), none] [.int x0, .ref 9] rfl ?_
      revert h; refine gCondR fun g3 h => ?_
      refine hX_gM (gIn x0 10) 35 [some (.ref 0), some (.int x0), some (.int x1), none] [.int (b.2.2.2.2.2.2.2.2.2.2.2.2 (Int32.toNatClampNeg x0))] rfl g3 ?_
      refine hX_goM 3 (38) [some (.ref 0), some (.int x0), some (.int x1), some (.int (b.2.2.2.2.2.2.2.2.2.2.2.2 (Int32.toNatClampNeg x0)))] [.int (b.2.2.2.2.2.2.2.2.2.2.2.2 (Int32.toNatClampNeg x0)), .ref 0] rfl ?_
      refine hX_call (r' := zR_113) rfl (ct_113_0 (b.2.2.2.2.2.2.2.2.2.2.2.2 (Int32.toNatClampNeg x0))) ?_
      refine hX_goM 1 (bif gCmp .eq (v_113_0 (b.2.2.2.2.2.2.2.2.2.2.2.2 (Int32.toNatClampNeg x0)) b) 0 then 50 else 44) [some (.ref 0), some (.int x0), some (.int x1), some (.int (b.2.2.2.2.2.2.2.2.2.2.2.2 (Int32.toNatClampNeg x0)))] [] rfl ?_
      refine hX_if (gCmp .eq (v_113_0 (b.2.2.2.2.2.2.2.2.2.2.2.2 (Int32.toNatClampNeg x0)) b) 0) (fun c4 => ?_) (fun c4 => ?_)
      · skip
        have h := gcT c4 h
        refine hX_goM 4 (58) [some (.ref 0), some (.int x0), some (.int x1), some (.int (b.2.2.2.2.2.2.2.2.2.2.2.2 (Int32.toNatClampNeg x0)))] [.int (b.2.2.2.2.2.2.2.2.2.2.2.2 (Int32.toNatClampNeg x0)), .ref 2] rfl ?_
        revert h; refine gCondR fun g5 h => ?_
        refine hX_gM (gIn (b.2.2.2.2.2.2.2.2.2.2.2.2 (Int32.toNatClampNeg x0)) 8) 59 [some (.ref 0), some (.int x0), some (.int x1), some (.int (b.2.2.2.2.2.2.2.2.2.2.2.2 (Int32.toNatClampNeg x0)))] [.int (b.2.2.2.2.2.1 (Int32.toNatClampNeg (b.2.2.2.2.2.2.2.2.2.2.2.2 (Int32.toNatClampNeg x0))))] rfl g5 ?_
        refine hX_goM 1 (60) [some (.ref 0), some (.int x0), some (.int x1), some (.int (b.2.2.2.2.2.2.2.2.2.2.2.2 (Int32.toNatClampNeg x0)))] [.int x1, .int (b.2.2.2.2.2.1 (Int32.toNatClampNeg (b.2.2.2.2.2.2.2.2.2.2.2.2 (Int32.toNatClampNeg x0))))] rfl ?_
        revert h; refine gBindR fun q6 e6 h => ?_
        refine hX_call (r' := zR_120) rfl (mt_120 N (b.2.2.2.2.2.1 (Int32.toNatClampNeg (b.2.2.2.2.2.2.2.2.2.2.2.2 (Int32.toNatClampNeg x0)))) x1 q6 e6) ?_
        refine hX_goM 1 (bif gCmp .eq q6 0 then 70 else 66) [some (.ref 0), some (.int x0), some (.int x1), some (.int (b.2.2.2.2.2.2.2.2.2.2.2.2 (Int32.toNatClampNeg x0)))] [] rfl ?_
        refine hX_mrg 75 [some (.ref 0), some (.int x0), some (.int x1), some (.int (b.2.2.2.2.2.2.2.2.2.2.2.2 (Int32.toNatClampNeg x0)))] [.int (bif gCmp .eq q6 0 then (v_111_0 2) else (b.2.2.2.2.2.2.2.2.2.2.2.2 (Int32.toNatClampNeg x0)))] (hCm b d k s w ik ex pr wd sn qu tb ts (r0, rq) h0 h1 h2 h3 (bif gCmp .eq q6 0 then (f_111_0_fi 2 fi) else fi) R) (fun hk => ?_) ?_
        · skip
          refine hX_if (gCmp .eq q6 0) (fun c8 => ?_) (fun c8 => ?_)
          · skip
            refine hX_goM 2 (72) [some (.ref 0), some (.int x0), some (.int x1), some (.int (b.2.2.2.2.2.2.2.2.2.2.2.2 (Int32.toNatClampNeg x0)))] [.int 2, .ref 0] rfl ?_
            refine hX_call (r' := zR_111) rfl (ct_111_0 2 rfl) ?_
            refine hX_go 0 (75) [some (.ref 0), some (.int x0), some (.int x1), some (.int (b.2.2.2.2.2.2.2.2.2.2.2.2 (Int32.toNatClampNeg x0)))] [.int (v_111_0 2)] (hCm b d k s w ik ex pr wd sn qu tb ts (r0, rq) h0 h1 h2 h3 (f_111_0_fi 2 fi) R) rfl ?_
            have hk := hk
            simp only [c8, cond_true, cond_false] at hk
            first | exact hk | (simp only [c8, cond_true, cond_false]; exact hk)
          · skip
            refine hX_goM 2 (75) [some (.ref 0), some (.int x0), some (.int x1), some (.int (b.2.2.2.2.2.2.2.2.2.2.2.2 (Int32.toNatClampNeg x0)))] [.int (b.2.2.2.2.2.2.2.2.2.2.2.2 (Int32.toNatClampNeg x0))] rfl ?_
            have hk := hk
            simp only [c8, cond_true, cond_false] at hk
            first | exact hk | (simp only [c8, cond_true, cond_false]; exact hk)
        have h := Option.some.inj h; subst h
        exact hX_end rfl rfl rfl
      · skip
        have h := gcF c4 h
        refine hX_goM 2 (46) [some (.ref 0), some (.int x0), some (.int x1), some (.int (b.2.2.2.2.2.2.2.2.2.2.2.2 (Int32.toNatClampNeg x0)))] [.int 5, .ref 0] rfl ?_
        refine hX_call (r' := zR_111) rfl (ct_111_0 5 rfl) ?_
        refine hX_go 0 (49) [some (.ref 0), some (.int x0), some (.int x1), some (.int (b.2.2.2.2.2.2.2.2.2.2.2.2 (Int32.toNatClampNeg x0)))] [.int (v_111_0 5)] (hCm b d k s w ik ex pr wd sn qu tb ts (r0, rq) h0 h1 h2 h3 (f_111_0_fi 5 fi) R) rfl ?_
        have h := Option.some.inj h; subst h
        exact hX_end rfl rfl rfl
    · skip
      have h := gcF c2 h
      refine hX_goM 2 (22) [some (.ref 0), some (.int x0), some (.int x1), none] [.int 0, .ref 0] rfl ?_
      refine hX_call (r' := zR_111) rfl (ct_111_0 0 rfl) ?_
      refine hX_go 0 (25) [some (.ref 0), some (.int x0), some (.int x1), none] [.int (v_111_0 0)] (hCm b d k s w ik ex pr wd sn qu tb ts (r0, rq) h0 h1 h2 h3 (f_111_0_fi 0 fi) R) rfl ?_
      have h := Option.some.inj h; subst h
      exact hX_end rfl rfl rfl

/-- java/util/Arrays.fill: the loop at 5 -/
def lp_7_56_5 (N : Nat) (y1 : Int32) (y3 : Int32) : Nat → Int32 → hSt → Option (Int32 × hSt)
  | 0, _, _ => none
  | n + 1, y2, h0 =>
    (bif gCmp .ge y2 y3 then
      some (y2, h0)
    else
      (bif gIn y2 40 then lp_7_56_5 N y1 y3 n (y2 + 1) (upd h0.1 (Int32.toNatClampNeg y2) y1, h0.2) else none))
set_option maxRecDepth 20000 in
set_option maxHeartbeats 4000000 in
theorem lt_7_56_5 {LL : Nat} {xs : Nat → Int32} {D N : Nat} {b d k s w : hB} {ik ex pr wd : Int32} {sn : Nat → Int64} {qu tb : Nat → Int32} {ts : Int32} {r0 : Value} {rq : hRq} {h1 h2 h3 : hSt} {fi : Nat → Int32} {R : List gE} {y1 : Int32} {y3 : Int32} {v : Option Value} {M' : List gE} : ∀ (n : Nat) (y2 : Int32) (h0 : hSt) (q : Int32 × hSt), lp_7_56_5 N y1 y3 n y2 h0 = some q → (kk : hX (gO LL xs) (D + 0) zR_7 20 [some (.ref 56), some (.int y1), some (.int q.1), some (.int y3)] [] (hCm b d k s w ik ex pr wd sn qu tb ts (r0, rq) q.2 h1 h2 h3 fi R) v M') → hX (gO LL xs) (D + 0) zR_7 5 [some (.ref 56), some (.int y1), some (.int y2), some (.int y3)] [] (hCm b d k s w ik ex pr wd sn qu tb ts (r0, rq) h0 h1 h2 h3 fi R) v M' := by
  intro n
  induction n with
  | zero => intro y2 h0 q h; cases h
  | succ n ih =>
    intro y2 h0 q h kk
    rw [lp_7_56_5] at h
    refine hX_go 3 (bif gCmp .ge y2 y3 then 20 else 10) [some (.ref 56), some (.int y1), some (.int y2), some (.int y3)] [] (hCm b d k s w ik ex pr wd sn qu tb ts (r0, rq) h0 h1 h2 h3 fi R) rfl ?_
    refine hX_if (gCmp .ge y2 y3) (fun c1 => ?_) (fun c1 => ?_)
    · skip
      have h := gcT c1 h
      have h := Option.some.inj h; subst h
      exact kk
    · skip
      have h := gcF c1 h
      refine hX_goM 3 (13) [some (.ref 56), some (.int y1), some (.int y2), some (.int y3)] [.int y1, .int y2, .ref 56] rfl ?_
      revert h; refine gCondR fun g2 h => ?_
      refine hX_g (gIn y2 40) 14 [some (.ref 56), some (.int y1), some (.int y2), some (.int y3)] [] (hCm b d k s w ik ex pr wd sn qu tb ts (r0, rq) (upd h0.1 (Int32.toNatClampNeg y2) y1, h0.2) h1 h2 h3 fi R) rfl g2 ?_
      refine hX_goM 2 (5) [some (.ref 56), some (.int y1), some (.int (y2 + 1)), some (.int y3)] [] rfl ?_
      exact ih (y2 + 1) (upd h0.1 (Int32.toNatClampNeg y2) y1, h0.2) q h kk

/-- java/util/Arrays.fill([II)V -/
def me_7_56 (N : Nat) (x0 : Int32) (h0 : hSt) : Option (hSt) :=
  (Option.bind (lp_7_56_5 N x0 40 N 0 h0) fun q1 =>
  some (q1.2))
set_option maxRecDepth 20000 in
set_option maxHeartbeats 4000000 in
theorem mt_7_56 {LL : Nat} {xs : Nat → Int32} {D : Nat} {b d k s w : hB} {ik ex pr wd : Int32} {sn : Nat → Int64} {qu tb : Nat → Int32} {ts : Int32} {r0 : Value} {rq : hRq} {h0 h1 h2 h3 : hSt} {fi : Nat → Int32} {R : List gE} (N : Nat) (x0 : Int32) (q : hSt) (h : me_7_56 N x0 h0 = some q) : hM (gO LL xs) (D + 0) zR_7 [.ref 56, .int x0] (hCm b d k s w ik ex pr wd sn qu tb ts (r0, rq) h0 h1 h2 h3 fi R) none (hCm b d k s w ik ex pr wd sn qu tb ts (r0, rq) q h1 h2 h3 fi R) := by
  unfold me_7_56 at h
  refine hX_go 0 0 [some (.ref 56), some (.int x0), none, none] [] (hCm b d k s w ik ex pr wd sn qu tb ts (r0, rq) h0 h1 h2 h3 fi R) rfl ?_
  refine hX_go 5 (5) [some (.ref 56), some (.int x0), some (.int 0), some (.int 40)] [] (hCm b d k s w ik ex pr wd sn qu tb ts (r0, rq) h0 h1 h2 h3 fi R) rfl ?_
  revert h; refine gBindR fun q1 e1 h => ?_
  refine lt_7_56_5 N 0 h0 q1 e1 ?_
  refine hX_go 0 (20) [some (.ref 56), some (.int x0), some (.int q1.1), some (.int 40)] [] (hCm b d k s w ik ex pr wd sn qu tb ts (r0, rq) q1.2 h1 h2 h3 fi R) rfl ?_
  have h := Option.some.inj h; subst h
  exact hX_end rfl rfl rfl


/-- UpOneSide$Sheet.lay(II)V -/
def me_54_55 (N : Nat) (x0 : Int32) (x1 : Int32) (h0 : hSt) : Option (hSt) :=
  (Option.bind (me_7_56 N 0 (h0.1, x0, bif gCmp .ne x0 0 then x1 else 0)) fun q3 =>
  some (q3))
set_option maxRecDepth 20000 in
set_option maxHeartbeats 4000000 in
theorem mt_54_55 {LL : Nat} {xs : Nat → Int32} {D : Nat} {b d k s w : hB} {ik ex pr wd : Int32} {sn : Nat → Int64} {qu tb : Nat → Int32} {ts : Int32} {r0 : Value} {rq : hRq} {h0 h1 h2 h3 : hSt} {fi : Nat → Int32} {R : List gE} (N : Nat) (x0 : Int32) (x1 : Int32) (q : hSt) (h : me_54_55 N x0 x1 h0 = some q) : hM (gO LL xs) (D + 1) zR_54 [.ref 55, .int x0, .int x1] (hCm b d k s w ik ex pr wd sn qu tb ts (r0, rq) h0 h1 h2 h3 fi R) none (hCm b d k s w ik ex pr wd sn qu tb ts (r0, rq) q h1 h2 h3 fi R) := by
  unfold me_54_55 at h
  refine hX_go 0 0 [some (.ref 55), some (.int x0), some (.int x1)] [] (hCm b d k s w ik ex pr wd sn qu tb ts (r0, rq) h0 h1 h2 h3 fi R) rfl ?_
  refine hX_go 6 (bif gCmp .ne x0 0 then 14 else 10) [some (.ref 55), some (.int x0), some (.int x1)] [.ref 55] (hCm b d k s w ik ex pr wd sn qu tb ts (r0, rq) (h0.1, x0, h0.2.2) h1 h2 h3 fi R) rfl ?_
  refine hX_mrg 15 [some (.ref 55), some (.int x0), some (.int x1)] [.int (bif gCmp .ne x0 0 then x1 else 0), .ref 55] (hCm b d k s w ik ex pr wd sn qu tb ts (r0, rq) (h0.1, x0, h0.2.2) h1 h2 h3 fi R) (fun hk => ?_) ?_
  · skip
    refine hX_if (gCmp .ne x0 0) (fun c2 => ?_) (fun c2 => ?_)
    · skip
      refine hX_goM 1 (15) [some (.ref 55), some (.int x0), some (.int x1)] [.int x1, .ref 55] rfl ?_
      have hk := hk
      simp only [c2, cond_true, cond_false] at hk
      first | exact hk | (simp only [c2, cond_true, cond_false]; exact hk)
    · skip
      refine hX_goM 2 (15) [some (.ref 55), some (.int x0), some (.int x1)] [.int 0, .ref 55] rfl ?_
      have hk := hk
      simp only [c2, cond_true, cond_false] at hk
      first | exact hk | (simp only [c2, cond_true, cond_false]; exact hk)
  refine hX_go 4 (23) [some (.ref 55), some (.int x0), some (.int x1)] [.int 0, .ref 56] (hCm b d k s w ik ex pr wd sn qu tb ts (r0, rq) (h0.1, x0, bif gCmp .ne x0 0 then x1 else 0) h1 h2 h3 fi R) rfl ?_
  revert h; refine gBindR fun q3 e3 h => ?_
  refine hX_call (r' := zR_7) rfl (mt_7_56 N 0 q3 e3) ?_
  refine hX_go 0 (26) [some (.ref 55), some (.int x0), some (.int x1)] [] (hCm b d k s w ik ex pr wd sn qu tb ts (r0, rq) q3 h1 h2 h3 fi R) rfl ?_
  have h := Option.some.inj h; subst h
  exact hX_end rfl rfl rfl

/-- java/util/Arrays.fill: the loop at 5 -/
def lp_7_58_5 (N : Nat) (y1 : Int32) (y3 : Int32) : Nat → Int32 → hSt → Option (Int32 × hSt)
  | 0, _, _ => none
  | n + 1, y2, h1 =>
    (bif gCmp .ge y2 y3 then
      some (y2, h1)
    else
      (bif gIn y2 40 then lp_7_58_5 N y1 y3 n (y2 + 1) (upd h1.1 (Int32.toNatClampNeg y2) y1, h1.2) else none))
set_option maxRecDepth 20000 in
set_option maxHeartbeats 4000000 in
theorem lt_7_58_5 {LL : Nat} {xs : Nat → Int32} {D N : Nat} {b d k s w : hB} {ik ex pr wd : Int32} {sn : Nat → Int64} {qu tb : Nat → Int32} {ts : Int32} {r0 : Value} {rq : hRq} {h0 h2 h3 : hSt} {fi : Nat → Int32} {R : List gE} {y1 : Int32} {y3 : Int32} {v : Option Value} {M' : List gE} : ∀ (n : Nat) (y2 : Int32) (h1 : hSt) (q : Int32 × hSt), lp_7_58_5 N y1 y3 n y2 h1 = some q → (kk : hX (gO LL xs) (D + 0) zR_7 20 [some (.ref 58), some (.int y1), some (.int q.1), some (.int y3)] [] (hCm b d k s w ik ex pr wd sn qu tb ts (r0, rq) h0 q.2 h2 h3 fi R) v M') → hX (gO LL xs) (D + 0) zR_7 5 [some (.ref 58), some (.int y1), some (.int y2), some (.int y3)] [] (hCm b d k s w ik ex pr wd sn qu tb ts (r0, rq) h0 h1 h2 h3 fi R) v M' := by
  intro n
  induction n with
  | zero => intro y2 h1 q h; cases h
  | succ n ih =>
    intro y2 h1 q h kk
    rw [lp_7_58_5] at h
    refine hX_go 3 (bif gCmp .ge y2 y3 then 20 else 10) [some (.ref 58), some (.int y1), some (.int y2), some (.int y3)] [] (hCm b d k s w ik ex pr wd sn qu tb ts (r0, rq) h0 h1 h2 h3 fi R) rfl ?_
    refine hX_if (gCmp .ge y2 y3) (fun c1 => ?_) (fun c1 => ?_)
    · skip
      have h := gcT c1 h
      have h := Option.some.inj h; subst h
      exact kk
    · skip
      have h := gcF c1 h
      refine hX_goM 3 (13) [some (.ref 58), some (.int y1), some (.int y2), some (.int y3)] [.int y1, .int y2, .ref 58] rfl ?_
      revert h; refine gCondR fun g2 h => ?_
      refine hX_g (gIn y2 40) 14 [some (.ref 58), some (.int y1), some (.int y2), some (.int y3)] [] (hCm b d k s w ik ex pr wd sn qu tb ts (r0, rq) h0 (upd h1.1 (Int32.toNatClampNeg y2) y1, h1.2) h2 h3 fi R) rfl g2 ?_
      refine hX_goM 2 (5) [some (.ref 58), some (.int y1), some (.int (y2 + 1)), some (.int y3)] [] rfl ?_
      exact ih (y2 + 1) (upd h1.1 (Int32.toNatClampNeg y2) y1, h1.2) q h kk

/-- java/util/Arrays.fill([II)V -/
def me_7_58 (N : Nat) (x0 : Int32) (h1 : hSt) : Option (hSt) :=
  (Option.bind (lp_7_58_5 N x0 40 N 0 h1) fun q1 =>
  some (q1.2))
set_option maxRecDepth 20000 in
set_option maxHeartbeats 4000000 in
theorem mt_7_58 {LL : Nat} {xs : Nat → Int32} {D : Nat} {b d k s w : hB} {ik ex pr wd : Int32} {sn : Nat → Int64} {qu tb : Nat → Int32} {ts : Int32} {r0 : Value} {rq : hRq} {h0 h1 h2 h3 : hSt} {fi : Nat → Int32} {R : List gE} (N : Nat) (x0 : Int32) (q : hSt) (h : me_7_58 N x0 h1 = some q) : hM (gO LL xs) (D + 0) zR_7 [.ref 58, .int x0] (hCm b d k s w ik ex pr wd sn qu tb ts (r0, rq) h0 h1 h2 h3 fi R) none (hCm b d k s w ik ex pr wd sn qu tb ts (r0, rq) h0 q h2 h3 fi R) := by
  unfold me_7_58 at h
  refine hX_go 0 0 [some (.ref 58), some (.int x0), none, none] [] (hCm b d k s w ik ex pr wd sn qu tb ts (r0, rq) h0 h1 h2 h3 fi R) rfl ?_
  refine hX_go 5 (5) [some (.ref 58), some (.int x0), some (.int 0), some (.int 40)] [] (hCm b d k s w ik ex pr wd sn qu tb ts (r0, rq) h0 h1 h2 h3 fi R) rfl ?_
  revert h; refine gBindR fun q1 e1 h => ?_
  refine lt_7_58_5 N 0 h1 q1 e1 ?_
  refine hX_go 0 (20) [some (.ref 58), some (.int x0), some (.int q1.1), some (.int 40)] [] (hCm b d k s w ik ex pr wd sn qu tb ts (r0, rq) h0 q1.2 h2 h3 fi R) rfl ?_
  have h := Option.some.inj h; subst h
  exact hX_end rfl rfl rfl


/-- UpOneSide$Sheet.lay(II)V -/
def me_54_57 (N : Nat) (x0 : Int32) (x1 : Int32) (h1 : hSt) : Option (hSt) :=
  (Option.bind (me_7_58 N 0 (h1.1, x0, bif gCmp .ne x0 0 then x1 else 0)) fun q3 =>
  some (q3))
set_option maxRecDepth 20000 in
set_option maxHeartbeats 4000000 in
theorem mt_54_57 {LL : Nat} {xs : Nat → Int32} {D : Nat} {b d k s w : hB} {ik ex pr wd : Int32} {sn : Nat → Int64} {qu tb : Nat → Int32} {ts : Int32} {r0 : Value} {rq : hRq} {h0 h1 h2 h3 : hSt} {fi : Nat → Int32} {R : List gE} (N : Nat) (x0 : Int32) (x1 : Int32) (q : hSt) (h : me_54_57 N x0 x1 h1 = some q) : hM (gO LL xs) (D + 1) zR_54 [.ref 57, .int x0, .int x1] (hCm b d k s w ik ex pr wd sn qu tb ts (r0, rq) h0 h1 h2 h3 fi R) none (hCm b d k s w ik ex pr wd sn qu tb ts (r0, rq) h0 q h2 h3 fi R) := by
  unfold me_54_57 at h
  refine hX_go 0 0 [some (.ref 57), some (.int x0), some (.int x1)] [] (hCm b d k s w ik ex pr wd sn qu tb ts (r0, rq) h0 h1 h2 h3 fi R) rfl ?_
  refine hX_go 6 (bif gCmp .ne x0 0 then 14 else 10) [some (.ref 57), some (.int x0), some (.int x1)] [.ref 57] (hCm b d k s w ik ex pr wd sn qu tb ts (r0, rq) h0 (h1.1, x0, h1.2.2) h2 h3 fi R) rfl ?_
  refine hX_mrg 15 [some (.ref 57), some (.int x0), some (.int x1)] [.int (bif gCmp .ne x0 0 then x1 else 0), .ref 57] (hCm b d k s w ik ex pr wd sn qu tb ts (r0, rq) h0 (h1.1, x0, h1.2.2) h2 h3 fi R) (fun hk => ?_) ?_
  · skip
    refine hX_if (gCmp .ne x0 0) (fun c2 => ?_) (fun c2 => ?_)
    · skip
      refine hX_goM 1 (15) [some (.ref 57), some (.int x0), some (.int x1)] [.int x1, .ref 57] rfl ?_
      have hk := hk
      simp only [c2, cond_true, cond_false] at hk
      first | exact hk | (simp only [c2, cond_true, cond_false]; exact hk)
    · skip
      refine hX_goM 2 (15) [some (.ref 57), some (.int x0), some (.int x1)] [.int 0, .ref 57] rfl ?_
      have hk := hk
      simp only [c2, cond_true, cond_false] at hk
      first | exact hk | (simp only [c2, cond_true, cond_false]; exact hk)
  refine hX_go 4 (23) [some (.ref 57), some (.int x0), some (.int x1)] [.int 0, .ref 58] (hCm b d k s w ik ex pr wd sn qu tb ts (r0, rq) h0 (h1.1, x0, bif gCmp .ne x0 0 then x1 else 0) h2 h3 fi R) rfl ?_
  revert h; refine gBindR fun q3 e3 h => ?_
  refine hX_call (r' := zR_7) rfl (mt_7_58 N 0 q3 e3) ?_
  refine hX_go 0 (26) [some (.ref 57), some (.int x0), some (.int x1)] [] (hCm b d k s w ik ex pr wd sn qu tb ts (r0, rq) h0 q3 h2 h3 fi R) rfl ?_
  have h := Option.some.inj h; subst h
  exact hX_end rfl rfl rfl

/-- java/util/Arrays.fill: the loop at 5 -/
def lp_7_60_5 (N : Nat) (y1 : Int32) (y3 : Int32) : Nat → Int32 → hSt → Option (Int32 × hSt)
  | 0, _, _ => none
  | n + 1, y2, h2 =>
    (bif gCmp .ge y2 y3 then
      some (y2, h2)
    else
      (bif gIn y2 40 then lp_7_60_5 N y1 y3 n (y2 + 1) (upd h2.1 (Int32.toNatClampNeg y2) y1, h2.2) else none))
set_option maxRecDepth 20000 in
set_option maxHeartbeats 4000000 in
theorem lt_7_60_5 {LL : Nat} {xs : Nat → Int32} {D N : Nat} {b d k s w : hB} {ik ex pr wd : Int32} {sn : Nat → Int64} {qu tb : Nat → Int32} {ts : Int32} {r0 : Value} {rq : hRq} {h0 h1 h3 : hSt} {fi : Nat → Int32} {R : List gE} {y1 : Int32} {y3 : Int32} {v : Option Value} {M' : List gE} : ∀ (n : Nat) (y2 : Int32) (h2 : hSt) (q : Int32 × hSt), lp_7_60_5 N y1 y3 n y2 h2 = some q → (kk : hX (gO LL xs) (D + 0) zR_7 20 [some (.ref 60), some (.int y1), some (.int q.1), some (.int y3)] [] (hCm b d k s w ik ex pr wd sn qu tb ts (r0, rq) h0 h1 q.2 h3 fi R) v M') → hX (gO LL xs) (D + 0) zR_7 5 [some (.ref 60), some (.int y1), some (.int y2), some (.int y3)] [] (hCm b d k s w ik ex pr wd sn qu tb ts (r0, rq) h0 h1 h2 h3 fi R) v M' := by
  intro n
  induction n with
  | zero => intro y2 h2 q h; cases h
  | succ n ih =>
    intro y2 h2 q h kk
    rw [lp_7_60_5] at h
    refine hX_go 3 (bif gCmp .ge y2 y3 then 20 else 10) [some (.ref 60), some (.int y1), some (.int y2), some (.int y3)] [] (hCm b d k s w ik ex pr wd sn qu tb ts (r0, rq) h0 h1 h2 h3 fi R) rfl ?_
    refine hX_if (gCmp .ge y2 y3) (fun c1 => ?_) (fun c1 => ?_)
    · skip
      have h := gcT c1 h
      have h := Option.some.inj h; subst h
      exact kk
    · skip
      have h := gcF c1 h
      refine hX_goM 3 (13) [some (.ref 60), some (.int y1), some (.int y2), some (.int y3)] [.int y1, .int y2, .ref 60] rfl ?_
      revert h; refine gCondR fun g2 h => ?_
      refine hX_g (gIn y2 40) 14 [some (.ref 60), some (.int y1), some (.int y2), some (.int y3)] [] (hCm b d k s w ik ex pr wd sn qu tb ts (r0, rq) h0 h1 (upd h2.1 (Int32.toNatClampNeg y2) y1, h2.2) h3 fi R) rfl g2 ?_
      refine hX_goM 2 (5) [some (.ref 60), some (.int y1), some (.int (y2 + 1)), some (.int y3)] [] rfl ?_
      exact ih (y2 + 1) (upd h2.1 (Int32.toNatClampNeg y2) y1, h2.2) q h kk

/-- java/util/Arrays.fill([II)V -/
def me_7_60 (N : Nat) (x0 : Int32) (h2 : hSt) : Option (hSt) :=
  (Option.bind (lp_7_60_5 N x0 40 N 0 h2) fun q1 =>
  some (q1.2))
set_option maxRecDepth 20000 in
set_option maxHeartbeats 4000000 in
theorem mt_7_60 {LL : Nat} {xs : Nat → Int32} {D : Nat} {b d k s w : hB} {ik ex pr wd : Int32} {sn : Nat → Int64} {qu tb : Nat → Int32} {ts : Int32} {r0 : Value} {rq : hRq} {h0 h1 h2 h3 : hSt} {fi : Nat → Int32} {R : List gE} (N : Nat) (x0 : Int32) (q : hSt) (h : me_7_60 N x0 h2 = some q) : hM (gO LL xs) (D + 0) zR_7 [.ref 60, .int x0] (hCm b d k s w ik ex pr wd sn qu tb ts (r0, rq) h0 h1 h2 h3 fi R) none (hCm b d k s w ik ex pr wd sn qu tb ts (r0, rq) h0 h1 q h3 fi R) := by
  unfold me_7_60 at h
  refine hX_go 0 0 [some (.ref 60), some (.int x0), none, none] [] (hCm b d k s w ik ex pr wd sn qu tb ts (r0, rq) h0 h1 h2 h3 fi R) rfl ?_
  refine hX_go 5 (5) [some (.ref 60), some (.int x0), some (.int 0), some (.int 40)] [] (hCm b d k s w ik ex pr wd sn qu tb ts (r0, rq) h0 h1 h2 h3 fi R) rfl ?_
  revert h; refine gBindR fun q1 e1 h => ?_
  refine lt_7_60_5 N 0 h2 q1 e1 ?_
  refine hX_go 0 (20) [some (.ref 60), some (.int x0), some (.int q1.1), some (.int 40)] [] (hCm b d k s w ik ex pr wd sn qu tb ts (r0, rq) h0 h1 q1.2 h3 fi R) rfl ?_
  have h := Option.some.inj h; subst h
  exact hX_end rfl rfl rfl


/-- UpOneSide$Sheet.lay(II)V -/
def me_54_59 (N : Nat) (x0 : Int32) (x1 : Int32) (h2 : hSt) : Option (hSt) :=
  (Option.bind (me_7_60 N 0 (h2.1, x0, bif gCmp .ne x0 0 then x1 else 0)) fun q3 =>
  some (q3))
set_option maxRecDepth 20000 in
set_option maxHeartbeats 4000000 in
theorem mt_54_59 {LL : Nat} {xs : Nat → Int32} {D : Nat} {b d k s w : hB} {ik ex pr wd : Int32} {sn : Nat → Int64} {qu tb : Nat → Int32} {ts : Int32} {r0 : Value} {rq : hRq} {h0 h1 h2 h3 : hSt} {fi : Nat → Int32} {R : List gE} (N : Nat) (x0 : Int32) (x1 : Int32) (q : hSt) (h : me_54_59 N x0 x1 h2 = some q) : hM (gO LL xs) (D + 1) zR_54 [.ref 59, .int x0, .int x1] (hCm b d k s w ik ex pr wd sn qu tb ts (r0, rq) h0 h1 h2 h3 fi R) none (hCm b d k s w ik ex pr wd sn qu tb ts (r0, rq) h0 h1 q h3 fi R) := by
  unfold me_54_59 at h
  refine hX_go 0 0 [some (.ref 59), some (.int x0), some (.int x1)] [] (hCm b d k s w ik ex pr wd sn qu tb ts (r0, rq) h0 h1 h2 h3 fi R) rfl ?_
  refine hX_go 6 (bif gCmp .ne x0 0 then 14 else 10) [some (.ref 59), some (.int x0), some (.int x1)] [.ref 59] (hCm b d k s w ik ex pr wd sn qu tb ts (r0, rq) h0 h1 (h2.1, x0, h2.2.2) h3 fi R) rfl ?_
  refine hX_mrg 15 [some (.ref 59), some (.int x0), some (.int x1)] [.int (bif gCmp .ne x0 0 then x1 else 0), .ref 59] (hCm b d k s w ik ex pr wd sn qu tb ts (r0, rq) h0 h1 (h2.1, x0, h2.2.2) h3 fi R) (fun hk => ?_) ?_
  · skip
    refine hX_if (gCmp .ne x0 0) (fun c2 => ?_) (fun c2 => ?_)
    · skip
      refine hX_goM 1 (15) [some (.ref 59), some (.int x0), some (.int x1)] [.int x1, .ref 59] rfl ?_
      have hk := hk
      simp only [c2, cond_true, cond_false] at hk
      first | exact hk | (simp only [c2, cond_true, cond_false]; exact hk)
    · skip
      refine hX_goM 2 (15) [some (.ref 59), some (.int x0), some (.int x1)] [.int 0, .ref 59] rfl ?_
      have hk := hk
      simp only [c2, cond_true, cond_false] at hk
      first | exact hk | (simp only [c2, cond_true, cond_false]; exact hk)
  refine hX_go 4 (23) [some (.ref 59), some (.int x0), some (.int x1)] [.int 0, .ref 60] (hCm b d k s w ik ex pr wd sn qu tb ts (r0, rq) h0 h1 (h2.1, x0, bif gCmp .ne x0 0 then x1 else 0) h3 fi R) rfl ?_
  revert h; refine gBindR fun q3 e3 h => ?_
  refine hX_call (r' := zR_7) rfl (mt_7_60 N 0 q3 e3) ?_
  refine hX_go 0 (26) [some (.ref 59), some (.int x0), some (.int x1)] [] (hCm b d k s w ik ex pr wd sn qu tb ts (r0, rq) h0 h1 q3 h3 fi R) rfl ?_
  have h := Option.some.inj h; subst h
  exact hX_end rfl rfl rfl

/-- java/util/Arrays.fill: the loop at 5 -/
def lp_7_62_5 (N : Nat) (y1 : Int32) (y3 : Int32) : Nat → Int32 → hSt → Option (Int32 × hSt)
  | 0, _, _ => none
  | n + 1, y2, h3 =>
    (bif gCmp .ge y2 y3 then
      some (y2, h3)
    else
      (bif gIn y2 40 then lp_7_62_5 N y1 y3 n (y2 + 1) (upd h3.1 (Int32.toNatClampNeg y2) y1, h3.2) else none))
set_option maxRecDepth 20000 in
set_option maxHeartbeats 4000000 in
theorem lt_7_62_5 {LL : Nat} {xs : Nat → Int32} {D N : Nat} {b d k s w : hB} {ik ex pr wd : Int32} {sn : Nat → Int64} {qu tb : Nat → Int32} {ts : Int32} {r0 : Value} {rq : hRq} {h0 h1 h2 : hSt} {fi : Nat → Int32} {R : List gE} {y1 : Int32} {y3 : Int32} {v : Option Value} {M' : List gE} : ∀ (n : Nat) (y2 : Int32) (h3 : hSt) (q : Int32 × hSt), lp_7_62_5 N y1 y3 n y2 h3 = some q → (kk : hX (gO LL xs) (D + 0) zR_7 20 [some (.ref 62), some (.int y1), some (.int q.1), some (.int y3)] [] (hCm b d k s w ik ex pr wd sn qu tb ts (r0, rq) h0 h1 h2 q.2 fi R) v M') → hX (gO LL xs) (D + 0) zR_7 5 [some (.ref 62), some (.int y1), some (.int y2), some (.int y3)] [] (hCm b d k s w ik ex pr wd sn qu tb ts (r0, rq) h0 h1 h2 h3 fi R) v M' := by
  intro n
  induction n with
  | zero => intro y2 h3 q h; cases h
  | succ n ih =>
    intro y2 h3 q h kk
    rw [lp_7_62_5] at h
    refine hX_go 3 (bif gCmp .ge y2 y3 then 20 else 10) [some (.ref 62), some (.int y1), some (.int y2), some (.int y3)] [] (hCm b d k s w ik ex pr wd sn qu tb ts (r0, rq) h0 h1 h2 h3 fi R) rfl ?_
    refine hX_if (gCmp .ge y2 y3) (fun c1 => ?_) (fun c1 => ?_)
    · skip
      have h := gcT c1 h
      have h := Option.some.inj h; subst h
      exact kk
    · skip
      have h := gcF c1 h
      refine hX_goM 3 (13) [some (.ref 62), some (.int y1), some (.int y2), some (.int y3)] [.int y1, .int y2, .ref 62] rfl ?_
      revert h; refine gCondR fun g2 h => ?_
      refine hX_g (gIn y2 40) 14 [some (.ref 62), some (.int y1), some (.int y2), some (.int y3)] [] (hCm b d k s w ik ex pr wd sn qu tb ts (r0, rq) h0 h1 h2 (upd h3.1 (Int32.toNatClampNeg y2) y1, h3.2) fi R) rfl g2 ?_
      refine hX_goM 2 (5) [some (.ref 62), some (.int y1), some (.int (y2 + 1)), some (.int y3)] [] rfl ?_
      exact ih (y2 + 1) (upd h3.1 (Int32.toNatClampNeg y2) y1, h3.2) q h kk

/-- java/util/Arrays.fill([II)V -/
def me_7_62 (N : Nat) (x0 : Int32) (h3 : hSt) : Option (hSt) :=
  (Option.bind (lp_7_62_5 N x0 40 N 0 h3) fun q1 =>
  some (q1.2))
set_option maxRecDepth 20000 in
set_option maxHeartbeats 4000000 in
theorem mt_7_62 {LL : Nat} {xs : Nat → Int32} {D : Nat} {b d k s w : hB} {ik ex pr wd : Int32} {sn : Nat → Int64} {qu tb : Nat → Int32} {ts : Int32} {r0 : Value} {rq : hRq} {h0 h1 h2 h3 : hSt} {fi : Nat → Int32} {R : List gE} (N : Nat) (x0 : Int32) (q : hSt) (h : me_7_62 N x0 h3 = some q) : hM (gO LL xs) (D + 0) zR_7 [.ref 62, .int x0] (hCm b d k s w ik ex pr wd sn qu tb ts (r0, rq) h0 h1 h2 h3 fi R) none (hCm b d k s w ik ex pr wd sn qu tb ts (r0, rq) h0 h1 h2 q fi R) := by
  unfold me_7_62 at h
  refine hX_go 0 0 [some (.ref 62), some (.int x0), none, none] [] (hCm b d k s w ik ex pr wd sn qu tb ts (r0, rq) h0 h1 h2 h3 fi R) rfl ?_
  refine hX_go 5 (5) [some (.ref 62), some (.int x0), some (.int 0), some (.int 40)] [] (hCm b d k s w ik ex pr wd sn qu tb ts (r0, rq) h0 h1 h2 h3 fi R) rfl ?_
  revert h; refine gBindR fun q1 e1 h => ?_
  refine lt_7_62_5 N 0 h3 q1 e1 ?_
  refine hX_go 0 (20) [some (.ref 62), some (.int x0), some (.int q1.1), some (.int 40)] [] (hCm b d k s w ik ex pr wd sn qu tb ts (r0, rq) h0 h1 h2 q1.2 fi R) rfl ?_
  have h := Option.some.inj h; subst h
  exact hX_end rfl rfl rfl


/-- UpOneSide$Sheet.lay(II)V -/
def me_54_61 (N : Nat) (x0 : Int32) (x1 : Int32) (h3 : hSt) : Option (hSt) :=
  (Option.bind (me_7_62 N 0 (h3.1, x0, bif gCmp .ne x0 0 then x1 else 0)) fun q3 =>
  some (q3))
set_option maxRecDepth 20000 in
set_option maxHeartbeats 4000000 in
theorem mt_54_61 {LL : Nat} {xs : Nat → Int32} {D : Nat} {b d k s w : hB} {ik ex pr wd : Int32} {sn : Nat → Int64} {qu tb : Nat → Int32} {ts : Int32} {r0 : Value} {rq : hRq} {h0 h1 h2 h3 : hSt} {fi : Nat → Int32} {R : List gE} (N : Nat) (x0 : Int32) (x1 : Int32) (q : hSt) (h : me_54_61 N x0 x1 h3 = some q) : hM (gO LL xs) (D + 1) zR_54 [.ref 61, .int x0, .int x1] (hCm b d k s w ik ex pr wd sn qu tb ts (r0, rq) h0 h1 h2 h3 fi R) none (hCm b d k s w ik ex pr wd sn qu tb ts (r0, rq) h0 h1 h2 q fi R) := by
  unfold me_54_61 at h
  refine hX_go 0 0 [some (.ref 61), some (.int x0), some (.int x1)] [] (hCm b d k s w ik ex pr wd sn qu tb ts (r0, rq) h0 h1 h2 h3 fi R) rfl ?_
  refine hX_go 6 (bif gCmp .ne x0 0 then 14 else 10) [some (.ref 61), some (.int x0), some (.int x1)] [.ref 61] (hCm b d k s w ik ex pr wd sn qu tb ts (r0, rq) h0 h1 h2 (h3.1, x0, h3.2.2) fi R) rfl ?_
  refine hX_mrg 15 [some (.ref 61), some (.int x0), some (.int x1)] [.int (bif gCmp .ne x0 0 then x1 else 0), .ref 61] (hCm b d k s w ik ex pr wd sn qu tb ts (r0, rq) h0 h1 h2 (h3.1, x0, h3.2.2) fi R) (fun hk => ?_) ?_
  · skip
    refine hX_if (gCmp .ne x0 0) (fun c2 => ?_) (fun c2 => ?_)
    · skip
      refine hX_goM 1 (15) [some (.ref 61), some (.int x0), some (.int x1)] [.int x1, .ref 61] rfl ?_
      have hk := hk
      simp only [c2, cond_true, cond_false] at hk
      first | exact hk | (simp only [c2, cond_true, cond_false]; exact hk)
    · skip
      refine hX_goM 2 (15) [some (.ref 61), some (.int x0), some (.int x1)] [.int 0, .ref 61] rfl ?_
      have hk := hk
      simp only [c2, cond_true, cond_false] at hk
      first | exact hk | (simp only [c2, cond_true, cond_false]; exact hk)
  refine hX_go 4 (23) [some (.ref 61), some (.int x0), some (.int x1)] [.int 0, .ref 62] (hCm b d k s w ik ex pr wd sn qu tb ts (r0, rq) h0 h1 h2 (h3.1, x0, bif gCmp .ne x0 0 then x1 else 0) fi R) rfl ?_
  revert h; refine gBindR fun q3 e3 h => ?_
  refine hX_call (r' := zR_7) rfl (mt_7_62 N 0 q3 e3) ?_
  refine hX_go 0 (26) [some (.ref 61), some (.int x0), some (.int x1)] [] (hCm b d k s w ik ex pr wd sn qu tb ts (r0, rq) h0 h1 h2 q3 fi R) rfl ?_
  have h := Option.some.inj h; subst h
  exact hX_end rfl rfl rfl


/-- UpOneSide.sheet(III)I -/
def me_101_0 (N : Nat) (x0 : Int32) (x1 : Int32) (x2 : Int32) (h0 : hSt) (h1 : hSt) (h2 : hSt) (h3 : hSt) (fi : Nat → Int32) : Option (Int32 × hSt × hSt × hSt × hSt × (Nat → Int32)) :=
  (bif gCmp .lt x0 0 then
    some (v_111_0 0, h0, h1, h2, h3, f_111_0_fi 0 fi)
  else
    (bif gCmp .lt x0 4 then
      (bif hEq x0 0 then
        (bif gCmp .eq x1 0 then
          (bif gCmp .ge x2 0 then
            (bif gCmp .le x2 40 then
              (Option.bind (me_54_55 N x1 x2 h0) fun q7 =>
              some (q7.2.2, q7, h1, h2, h3, fi))
            else
              some (v_111_0 0, h0, h1, h2, h3, f_111_0_fi 0 fi))
          else
            some (v_111_0 6, h0, h1, h2, h3, f_111_0_fi 6 fi))
        else
          (bif gCmp .eq x1 8 then
            (bif gCmp .ge x2 0 then
              (bif gCmp .le x2 40 then
                (Option.bind (me_54_55 N x1 x2 h0) fun q11 =>
                some (q11.2.2, q11, h1, h2, h3, fi))
              else
                some (v_111_0 0, h0, h1, h2, h3, f_111_0_fi 0 fi))
            else
              some (v_111_0 6, h0, h1, h2, h3, f_111_0_fi 6 fi))
          else
            (bif gCmp .eq x1 16 then
              (bif gCmp .ge x2 0 then
                (bif gCmp .le x2 40 then
                  (Option.bind (me_54_55 N x1 x2 h0) fun q15 =>
                  some (q15.2.2, q15, h1, h2, h3, fi))
                else
                  some (v_111_0 0, h0, h1, h2, h3, f_111_0_fi 0 fi))
              else
                some (v_111_0 6, h0, h1, h2, h3, f_111_0_fi 6 fi))
            else
              (bif gCmp .eq x1 32 then
                (bif gCmp .ge x2 0 then
                  (bif gCmp .le x2 40 then
                    (Option.bind (me_54_55 N x1 x2 h0) fun q19 =>
                    some (q19.2.2, q19, h1, h2, h3, fi))
                  else
                    some (v_111_0 0, h0, h1, h2, h3, f_111_0_fi 0 fi))
                else
                  some (v_111_0 6, h0, h1, h2, h3, f_111_0_fi 6 fi))
              else
                some (v_111_0 0, h0, h1, h2, h3, f_111_0_fi 0 fi)))))
      else
        (bif hEq x0 1 then
          (bif gCmp .eq x1 0 then
            (bif gCmp .ge x2 0 then
              (bif gCmp .le x2 40 then
                (Option.bind (me_54_57 N x1 x2 h1) fun q24 =>
                some (q24.2.2, h0, q24, h2, h3, fi))
              else
                some (v_111_0 0, h0, h1, h2, h3, f_111_0_fi 0 fi))
            else
              some (v_111_0 6, h0, h1, h2, h3, f_111_0_fi 6 fi))
          else
            (bif gCmp .eq x1 8 then
              (bif gCmp .ge x2 0 then
                (bif gCmp .le x2 40 then
                  (Option.bind (me_54_57 N x1 x2 h1) fun q28 =>
                  some (q28.2.2, h0, q28, h2, h3, fi))
                else
                  some (v_111_0 0, h0, h1, h2, h3, f_111_0_fi 0 fi))
              else
                some (v_111_0 6, h0, h1, h2, h3, f_111_0_fi 6 fi))
            else
              (bif gCmp .eq x1 16 then
                (bif gCmp .ge x2 0 then
                  (bif gCmp .le x2 40 then
                    (Option.bind (me_54_57 N x1 x2 h1) fun q32 =>
                    some (q32.2.2, h0, q32, h2, h3, fi))
                  else
                    some (v_111_0 0, h0, h1, h2, h3, f_111_0_fi 0 fi))
                else
                  some (v_111_0 6, h0, h1, h2, h3, f_111_0_fi 6 fi))
              else
                (bif gCmp .eq x1 32 then
                  (bif gCmp .ge x2 0 then
                    (bif gCmp .le x2 40 then
                      (Option.bind (me_54_57 N x1 x2 h1) fun q36 =>
                      some (q36.2.2, h0, q36, h2, h3, fi))
                    else
                      some (v_111_0 0, h0, h1, h2, h3, f_111_0_fi 0 fi))
                  else
                    some (v_111_0 6, h0, h1, h2, h3, f_111_0_fi 6 fi))
                else
                  some (v_111_0 0, h0, h1, h2, h3, f_111_0_fi 0 fi)))))
        else
          (bif hEq x0 2 then
            (bif gCmp .eq x1 0 then
              (bif gCmp .ge x2 0 then
                (bif gCmp .le x2 40 then
                  (Option.bind (me_54_59 N x1 x2 h2) fun q41 =>
                  some (q41.2.2, h0, h1, q41, h3, fi))
                else
                  some (v_111_0 0, h0, h1, h2, h3, f_111_0_fi 0 fi))
              else
                some (v_111_0 6, h0, h1, h2, h3, f_111_0_fi 6 fi))
            else
              (bif gCmp .eq x1 8 then
                (bif gCmp .ge x2 0 then
                  (bif gCmp .le x2 40 then
                    (Option.bind (me_54_59 N x1 x2 h2) fun q45 =>
                    some (q45.2.2, h0, h1, q45, h3, fi))
                  else
                    some (v_111_0 0, h0, h1, h2, h3, f_111_0_fi 0 fi))
                else
                  some (v_111_0 6, h0, h1, h2, h3, f_111_0_fi 6 fi))
              else
                (bif gCmp .eq x1 16 then
                  (bif gCmp .ge x2 0 then
                    (bif gCmp .le x2 40 then
                      (Option.bind (me_54_59 N x1 x2 h2) fun q49 =>
                      some (q49.2.2, h0, h1, q49, h3, fi))
                    else
                      some (v_111_0 0, h0, h1, h2, h3, f_111_0_fi 0 fi))
                  else
                    some (v_111_0 6, h0, h1, h2, h3, f_111_0_fi 6 fi))
                else
                  (bif gCmp .eq x1 32 then
                    (bif gCmp .ge x2 0 then
                      (bif gCmp .le x2 40 then
                        (Option.bind (me_54_59 N x1 x2 h2) fun q53 =>
                        some (q53.2.2, h0, h1, q53, h3, fi))
                      else
                        some (v_111_0 0, h0, h1, h2, h3, f_111_0_fi 0 fi))
                    else
                      some (v_111_0 6, h0, h1, h2, h3, f_111_0_fi 6 fi))
                  else
                    some (v_111_0 0, h0, h1, h2, h3, f_111_0_fi 0 fi)))))
          else
            (bif gCmp .eq x1 0 then
              (bif gCmp .ge x2 0 then
                (bif gCmp .le x2 40 then
                  (Option.bind (me_54_61 N x1 x2 h3) fun q57 =>
                  some (q57.2.2, h0, h1, h2, q57, fi))
                else
                  some (v_111_0 0, h0, h1, h2, h3, f_111_0_fi 0 fi))
              else
                some (v_111_0 6, h0, h1, h2, h3, f_111_0_fi 6 fi))
            else
              (bif gCmp .eq x1 8 then
                (bif gCmp .ge x2 0 then
                  (bif gCmp .le x2 40 then
                    (Option.bind (me_54_61 N x1 x2 h3) fun q61 =>
                    some (q61.2.2, h0, h1, h2, q61, fi))
                  else
                    some (v_111_0 0, h0, h1, h2, h3, f_111_0_fi 0 fi))
                else
                  some (v_111_0 6, h0, h1, h2, h3, f_111_0_fi 6 fi))
              else
                (bif gCmp .eq x1 16 then
                  (bif gCmp .ge x2 0 then
                    (bif gCmp .le x2 40 then
                      (Option.bind (me_54_61 N x1 x2 h3) fun q65 =>
                      some (q65.2.2, h0, h1, h2, q65, fi))
                    else
                      some (v_111_0 0, h0, h1, h2, h3, f_111_0_fi 0 fi))
                  else
                    some (v_111_0 6, h0, h1, h2, h3, f_111_0_fi 6 fi))
                else
                  (bif gCmp .eq x1 32 then
                    (bif gCmp .ge x2 0 then
                      (bif gCmp .le x2 40 then
                        (Option.bind (me_54_61 N x1 x2 h3) fun q69 =>
                        some (q69.2.2, h0, h1, h2, q69, fi))
                      else
                        some (v_111_0 0, h0, h1, h2, h3, f_111_0_fi 0 fi))
                    else
                      some (v_111_0 6, h0, h1, h2, h3, f_111_0_fi 6 fi))
                  else
                    some (v_111_0 0, h0, h1, h2, h3, f_111_0_fi 0 fi))))))))
    else
      some (v_111_0 0, h0, h1, h2, h3, f_111_0_fi 0 fi)))
set_option maxRecDepth 20000 in
set_option maxHeartbeats 4000000 in
theorem mt_101_0 {LL : Nat} {xs : Nat → Int32} {D : Nat} {b d k s w : hB} {ik ex pr wd : Int32} {sn : Nat → Int64} {qu tb : Nat → Int32} {ts : Int32} {r0 : Value} {rq : hRq} {h0 h1 h2 h3 : hSt} {fi : Nat → Int32} {R : List gE} (N : Nat) (x0 : Int32) (x1 : Int32) (x2 : Int32) (q : Int32 × hSt × hSt × hSt × hSt × (Nat → Int32)) (h : me_101_0 N x0 x1 x2 h0 h1 h2 h3 fi = some q) : hM (gO LL xs) (D + 2) zR_101 [.ref 0, .int x0, .int x1, .int x2] (hCm b d k s w ik ex pr wd sn qu tb ts (r0, rq) h0 h1 h2 h3 fi R) (some (.int q.1)) (hCm b d k s w ik ex pr wd sn qu tb ts (r0, rq) q.2.1 q.2.2.1 q.2.2.2.1 q.2.2.2.2.1 q.2.2.2.2.2 R) := by
  unfold me_101_0 at h
  refine hX_go 0 0 [some (.ref 0), some (.int x0), some (.int x1), some (.int x2), none] [] (hCm b d k s w ik ex pr wd sn qu tb ts (r0, rq) h0 h1 h2 h3 fi R) rfl ?_
  refine hX_go 2 (2) [some (.ref 0), some (.int x0), some (.int x1), some (.int x2), none] [.int x0, .ref 0] (hCm b d k s w ik ex pr wd sn qu tb ts (r0, rq) h0 h1 h2 h3 fi R) rfl ?_
  refine hX_bif (gCmp .lt x0 0) (fun c1 => ?_) (fun c1 => ?_)
  · skip
    have h := gcT c1 h
    refine hX_call (r' := zR_114) rfl (ct_114_0_0 x0 c1) ?_
    refine hX_goM 5 (36) [some (.ref 0), some (.int x0), some (.int x1), some (.int x2), some (.null)] [.int 0, .ref 0] rfl ?_
    refine hX_call (r' := zR_111) rfl (ct_111_0 0 rfl) ?_
    refine hX_go 0 (39) [some (.ref 0), some (.int x0), some (.int x1), some (.int x2), some (.null)] [.int (v_111_0 0)] (hCm b d k s w ik ex pr wd sn qu tb ts (r0, rq) h0 h1 h2 h3 (f_111_0_fi 0 fi) R) rfl ?_
    have h := Option.some.inj h; subst h
    exact hX_end rfl rfl rfl
  · skip
    have h := gcF c1 h
    refine hX_bif (gCmp .lt x0 4) (fun c2 => ?_) (fun c2 => ?_)
    · skip
      have h := gcT c2 h
      refine hX_bif (hEq x0 0) (fun c3 => ?_) (fun c3 => ?_)
      · skip
        have h := gcT c3 h
        refine hX_call (r' := zR_114) rfl (ct_114_0_2 x0 c1 c2 c3) ?_
        refine hX_goM 5 (bif gCmp .eq x1 0 then 40 else 16) [some (.ref 0), some (.int x0), some (.int x1), some (.int x2), some (.ref 55)] [] rfl ?_
        refine hX_if (gCmp .eq x1 0) (fun c4 => ?_) (fun c4 => ?_)
        · skip
          have h := gcT c4 h
          refine hX_goM 2 (bif gCmp .ge x2 0 then 51 else 44) [some (.ref 0), some (.int x0), some (.int x1), some (.int x2), some (.ref 55)] [] rfl ?_
          refine hX_if (gCmp .ge x2 0) (fun c5 => ?_) (fun c5 => ?_)
          · skip
            have h := gcT c5 h
            refine hX_goM 3 (bif gCmp .le x2 40 then 63 else 57) [some (.ref 0), some (.int x0), some (.int x1), some (.int x2), some (.ref 55)] [] rfl ?_
            refine hX_if (gCmp .le x2 40) (fun c6 => ?_) (fun c6 => ?_)
            · skip
              have h := gcT c6 h
              refine hX_goM 3 (67) [some (.ref 0), some (.int x0), some (.int x1), some (.int x2), some (.ref 55)] [.int x2, .int x1, .ref 55] rfl ?_
              revert h; refine gBindR fun q7 e7 h => ?_
              refine hX_call (r' := zR_54) rfl (mt_54_55 N x1 x2 q7 e7) ?_
              refine hX_go 2 (75) [some (.ref 0), some (.int x0), some (.int x1), some (.int x2), some (.ref 55)] [.int q7.2.2] (hCm b d k s w ik ex pr wd sn qu tb ts (r0, rq) q7 h1 h2 h3 fi R) rfl ?_
              have h := Option.some.inj h; subst h
              exact hX_end rfl rfl rfl
            · skip
              have h := gcF c6 h
              refine hX_goM 2 (59) [some (.ref 0), some (.int x0), some (.int x1), some (.int x2), some (.ref 55)] [.int 0, .ref 0] rfl ?_
              refine hX_call (r' := zR_111) rfl (ct_111_0 0 rfl) ?_
              refine hX_go 0 (62) [some (.ref 0), some (.int x0), some (.int x1), some (.int x2), some (.ref 55)] [.int (v_111_0 0)] (hCm b d k s w ik ex pr wd sn qu tb ts (r0, rq) h0 h1 h2 h3 (f_111_0_fi 0 fi) R) rfl ?_
              have h := Option.some.inj h; subst h
              exact hX_end rfl rfl rfl
          · skip
            have h := gcF c5 h
            refine hX_goM 2 (47) [some (.ref 0), some (.int x0), some (.int x1), some (.int x2), some (.ref 55)] [.int 6, .ref 0] rfl ?_
            refine hX_call (r' := zR_111) rfl (ct_111_0 6 rfl) ?_
            refine hX_go 0 (50) [some (.ref 0), some (.int x0), some (.int x1), some (.int x2), some (.ref 55)] [.int (v_111_0 6)] (hCm b d k s w ik ex pr wd sn qu tb ts (r0, rq) h0 h1 h2 h3 (f_111_0_fi 6 fi) R) rfl ?_
            have h := Option.some.inj h; subst h
            exact hX_end rfl rfl rfl
        · skip
          have h := gcF c4 h
          refine hX_goM 3 (bif gCmp .eq x1 8 then 40 else 22) [some (.ref 0), some (.int x0), some (.int x1), some (.int x2), some (.ref 55)] [] rfl ?_
          refine hX_if (gCmp .eq x1 8) (fun c8 => ?_) (fun c8 => ?_)
          · skip
            have h := gcT c8 h
            refine hX_goM 2 (bif gCmp .ge x2 0 then 51 else 44) [some (.ref 0), some (.int x0), some (.int x1), some (.int x2), some (.ref 55)] [] rfl ?_
            refine hX_if (gCmp .ge x2 0) (fun c9 => ?_) (fun c9 => ?_)
            · skip
              have h := gcT c9 h
              refine hX_goM 3 (bif gCmp .le x2 40 then 63 else 57) [some (.ref 0), some (.int x0), some (.int x1), some (.int x2), some (.ref 55)] [] rfl ?_
              refine hX_if (gCmp .le x2 40) (fun c10 => ?_) (fun c10 => ?_)
              · skip
                have h := gcT c10 h
                refine hX_goM 3 (67) [some (.ref 0), some (.int x0), some (.int x1), some (.int x2), some (.ref 55)] [.int x2, .int x1, .ref 55] rfl ?_
                revert h; refine gBindR fun q11 e11 h => ?_
                refine hX_call (r' := zR_54) rfl (mt_54_55 N x1 x2 q11 e11) ?_
                refine hX_go 2 (75) [some (.ref 0), some (.int x0), some (.int x1), some (.int x2), some (.ref 55)] [.int q11.2.2] (hCm b d k s w ik ex pr wd sn qu tb ts (r0, rq) q11 h1 h2 h3 fi R) rfl ?_
                have h := Option.some.inj h; subst h
                exact hX_end rfl rfl rfl
              · skip
                have h := gcF c10 h
                refine hX_goM 2 (59) [some (.ref 0), some (.int x0), some (.int x1), some (.int x2), some (.ref 55)] [.int 0, .ref 0] rfl ?_
                refine hX_call (r' := zR_111) rfl (ct_111_0 0 rfl) ?_
                refine hX_go 0 (62) [some (.ref 0), some (.int x0), some (.int x1), some (.int x2), some (.ref 55)] [.int (v_111_0 0)] (hCm b d k s w ik ex pr wd sn qu tb ts (r0, rq) h0 h1 h2 h3 (f_111_0_fi 0 fi) R) rfl ?_
                have h := Option.some.inj h; subst h
                exact hX_end rfl rfl rfl
            · skip
              have h := gcF c9 h
              refine hX_goM 2 (47) [some (.ref 0), some (.int x0), some (.int x1), some (.int x2), some (.ref 55)] [.int 6, .ref 0] rfl ?_
              refine hX_call (r' := zR_111) rfl (ct_111_0 6 rfl) ?_
              refine hX_go 0 (50) [some (.ref 0), some (.int x0), some (.int x1), some (.int x2), some (.ref 55)] [.int (v_111_0 6)] (hCm b d k s w ik ex pr wd sn qu tb ts (r0, rq) h0 h1 h2 h3 (f_111_0_fi 6 fi) R) rfl ?_
              have h := Option.some.inj h; subst h
              exact hX_end rfl rfl rfl
          · skip
            have h := gcF c8 h
            refine hX_goM 3 (bif gCmp .eq x1 16 then 40 else 28) [some (.ref 0), some (.int x0), some (.int x1), some (.int x2), some (.ref 55)] [] rfl ?_
            refine hX_if (gCmp .eq x1 16) (fun c12 => ?_) (fun c12 => ?_)
            · skip
              have h := gcT c12 h
              refine hX_goM 2 (bif gCmp .ge x2 0 then 51 else 44) [some (.ref 0), some (.int x0), some (.int x1), some (.int x2), some (.ref 55)] [] rfl ?_
              refine hX_if (gCmp .ge x2 0) (fun c13 => ?_) (fun c13 => ?_)
              · skip
                have h := gcT c13 h
                refine hX_goM 3 (bif gCmp .le x2 40 then 63 else 57) [some (.ref 0), some (.int x0), some (.int x1), some (.int x2), some (.ref 55)] [] rfl ?_
                refine hX_if (gCmp .le x2 40) (fun c14 => ?_) (fun c14 => ?_)
                · skip
                  have h := gcT c14 h
                  refine hX_goM 3 (67) [some (.ref 0), some (.int x0), some (.int x1), some (.int x2), some (.ref 55)] [.int x2, .int x1, .ref 55] rfl ?_
                  revert h; refine gBindR fun q15 e15 h => ?_
                  refine hX_call (r' := zR_54) rfl (mt_54_55 N x1 x2 q15 e15) ?_
                  refine hX_go 2 (75) [some (.ref 0), some (.int x0), some (.int x1), some (.int x2), some (.ref 55)] [.int q15.2.2] (hCm b d k s w ik ex pr wd sn qu tb ts (r0, rq) q15 h1 h2 h3 fi R) rfl ?_
                  have h := Option.some.inj h; subst h
                  exact hX_end rfl rfl rfl
                · skip
                  have h := gcF c14 h
                  refine hX_goM 2 (59) [some (.ref 0), some (.int x0), some (.int x1), some (.int x2), some (.ref 55)] [.int 0, .ref 0] rfl ?_
                  refine hX_call (r' := zR_111) rfl (ct_111_0 0 rfl) ?_
                  refine hX_go 0 (62) [some (.ref 0), some (.int x0), some (.int x1), some (.int x2), some (.ref 55)] [.int (v_111_0 0)] (hCm b d k s w ik ex pr wd sn qu tb ts (r0, rq) h0 h1 h2 h3 (f_111_0_fi 0 fi) R) rfl ?_
                  have h := Option.some.inj h; subst h
                  exact hX_end rfl rfl rfl
              · skip
                have h := gcF c13 h
                refine hX_goM 2 (47) [some (.ref 0), some (.int x0), some (.int x1), some (.int x2), some (.ref 55)] [.int 6, .ref 0] rfl ?_
                refine hX_call (r' := zR_111) rfl (ct_111_0 6 rfl) ?_
                refine hX_go 0 (50) [some (.ref 0), some (.int x0), some (.int x1), some (.int x2), some (.ref 55)] [.int (v_111_0 6)] (hCm b d k s w ik ex pr wd sn qu tb ts (r0, rq) h0 h1 h2 h3 (f_111_0_fi 6 fi) R) rfl ?_
                have h := Option.some.inj h; subst h
                exact hX_end rfl rfl rfl
            · skip
              have h := gcF c12 h
              refine hX_goM 3 (bif gCmp .eq x1 32 then 40 else 34) [some (.ref 0), some (.int x0), some (.int x1), some (.int x2), some (.ref 55)] [] rfl ?_
              refine hX_if (gCmp .eq x1 32) (fun c16 => ?_) (fun c16 => ?_)
              · skip
                have h := gcT c16 h
                refine hX_goM 2 (bif gCmp .ge x2 0 then 51 else 44) [some (.ref 0), some (.int x0), some (.int x1), some (.int x2), some (.ref 55)] [] rfl ?_
                refine hX_if (gCmp .ge x2 0) (fun c17 => ?_) (fun c17 => ?_)
                · skip
                  have h := gcT c17 h
                  refine hX_goM 3 (bif gCmp .le x2 40 then 63 else 57) [some (.ref 0), some (.int x0), some (.int x1), some (.int x2), some (.ref 55)] [] rfl ?_
                  refine hX_if (gCmp .le x2 40) (fun c18 => ?_) (fun c18 => ?_)
                  · skip
                    have h := gcT c18 h
                    refine hX_goM 3 (67) [some (.ref 0), some (.int x0), some (.int x1), some (.int x2), some (.ref 55)] [.int x2, .int x1, .ref 55] rfl ?_
                    revert h; refine gBindR fun q19 e19 h => ?_
                    refine hX_call (r' := zR_54) rfl (mt_54_55 N x1 x2 q19 e19) ?_
                    refine hX_go 2 (75) [some (.ref 0), some (.int x0), some (.int x1), some (.int x2), some (.ref 55)] [.int q19.2.2] (hCm b d k s w ik ex pr wd sn qu tb ts (r0, rq) q19 h1 h2 h3 fi R) rfl ?_
                    have h := Option.some.inj h; subst h
                    exact hX_end rfl rfl rfl
                  · skip
                    have h := gcF c18 h
                    refine hX_goM 2 (59) [some (.ref 0), some (.int x0), some (.int x1), some (.int x2), some (.ref 55)] [.int 0, .ref 0] rfl ?_
                    refine hX_call (r' := zR_111) rfl (ct_111_0 0 rfl) ?_
                    refine hX_go 0 (62) [some (.ref 0), some (.int x0), some (.int x1), some (.int x2), some (.ref 55)] [.int (v_111_0 0)] (hCm b d k s w ik ex pr wd sn qu tb ts (r0, rq) h0 h1 h2 h3 (f_111_0_fi 0 fi) R) rfl ?_
                    have h := Option.some.inj h; subst h
                    exact hX_end rfl rfl rfl
                · skip
                  have h := gcF c17 h
                  refine hX_goM 2 (47) [some (.ref 0), some (.int x0), some (.int x1), some (.int x2), some (.ref 55)] [.int 6, .ref 0] rfl ?_
                  refine hX_call (r' := zR_111) rfl (ct_111_0 6 rfl) ?_
                  refine hX_go 0 (50) [some (.ref 0), some (.int x0), some (.int x1), some (.int x2), some (.ref 55)] [.int (v_111_0 6)] (hCm b d k s w ik ex pr wd sn qu tb ts (r0, rq) h0 h1 h2 h3 (f_111_0_fi 6 fi) R) rfl ?_
                  have h := Option.some.inj h; subst h
                  exact hX_end rfl rfl rfl
              · skip
                have h := gcF c16 h
                refine hX_goM 2 (36) [some (.ref 0), some (.int x0), some (.int x1), some (.int x2), some (.ref 55)] [.int 0, .ref 0] rfl ?_
                refine hX_call (r' := zR_111) rfl (ct_111_0 0 rfl) ?_
                refine hX_go 0 (39) [some (.ref 0), some (.int x0), some (.int x1), some (.int x2), some (.ref 55)] [.int (v_111_0 0)] (hCm b d k s w ik ex pr wd sn qu tb ts (r0, rq) h0 h1 h2 h3 (f_111_0_fi 0 fi) R) rfl ?_
                have h := Option.some.inj h; subst h
                exact hX_end rfl rfl rfl
      · skip
        have h := gcF c3 h
        refine hX_bif (hEq x0 1) (fun c20 => ?_) (fun c20 => ?_)
        · skip
          have h := gcT c20 h
          refine hX_call (r' := zR_114) rfl (ct_114_0_3 x0 c1 c2 c3 c20) ?_
          refine hX_goM 5 (bif gCmp .eq x1 0 then 40 else 16) [some (.ref 0), some (.int x0), some (.int x1), some (.int x2), some (.ref 57)] [] rfl ?_
          refine hX_if (gCmp .eq x1 0) (fun c21 => ?_) (fun c21 => ?_)
          · skip
            have h := gcT c21 h
            refine hX_goM 2 (bif gCmp .ge x2 0 then 51 else 44) [some (.ref 0), some (.int x0), some (.int x1), some (.int x2), some (.ref 57)] [] rfl ?_
            refine hX_if (gCmp .ge x2 0) (fun c22 => ?_) (fun c22 => ?_)
            · skip
              have h := gcT c22 h
              refine hX_goM 3 (bif gCmp .le x2 40 then 63 else 57) [some (.ref 0), some (.int x0), some (.int x1), some (.int x2), some (.ref 57)] [] rfl ?_
              refine hX_if (gCmp .le x2 40) (fun c23 => ?_) (fun c23 => ?_)
              · skip
                have h := gcT c23 h
                refine hX_goM 3 (67) [some (.ref 0), some (.int x0), some (.int x1), some (.int x2), some (.ref 57)] [.int x2, .int x1, .ref 57] rfl ?_
                revert h; refine gBindR fun q24 e24 h => ?_
                refine hX_call (r' := zR_54) rfl (mt_54_57 N x1 x2 q24 e24) ?_
                refine hX_go 2 (75) [some (.ref 0), some (.int x0), some (.int x1), some (.int x2), some (.ref 57)] [.int q24.2.2] (hCm b d k s w ik ex pr wd sn qu tb ts (r0, rq) h0 q24 h2 h3 fi R) rfl ?_
                have h := Option.some.inj h; subst h
                exact hX_end rfl rfl rfl
              · skip
                have h := gcF c23 h
                refine hX_goM 2 (59) [some (.ref 0), some (.int x0), some (.int x1), some (.int x2), some (.ref 57)] [.int 0, .ref 0] rfl ?_
                refine hX_call (r' := zR_111) rfl (ct_111_0 0 rfl) ?_
                refine hX_go 0 (62) [some (.ref 0), some (.int x0), some (.int x1), some (.int x2), some (.ref 57)] [.int (v_111_0 0)] (hCm b d k s w ik ex pr wd sn qu tb ts (r0, rq) h0 h1 h2 h3 (f_111_0_fi 0 fi) R) rfl ?_
                have h := Option.some.inj h; subst h
                exact hX_end rfl rfl rfl
            · skip
              have h := gcF c22 h
              refine hX_goM 2 (47) [some (.ref 0), some (.int x0), some (.int x1), some (.int x2), some (.ref 57)] [.int 6, .ref 0] rfl ?_
              refine hX_call (r' := zR_111) rfl (ct_111_0 6 rfl) ?_
              refine hX_go 0 (50) [some (.ref 0), some (.int x0), some (.int x1), some (.int x2), some (.ref 57)] [.int (v_111_0 6)] (hCm b d k s w ik ex pr wd sn qu tb ts (r0, rq) h0 h1 h2 h3 (f_111_0_fi 6 fi) R) rfl ?_
              have h := Option.some.inj h; subst h
              exact hX_end rfl rfl rfl
          · skip
            have h := gcF c21 h
            refine hX_goM 3 (bif gCmp .eq x1 8 then 40 else 22) [some (.ref 0), some (.int x0), some (.int x1), some (.int x2), some (.ref 57)] [] rfl ?_
            refine hX_if (gCmp .eq x1 8) (fun c25 => ?_) (fun c25 => ?_)
            · skip
              have h := gcT c25 h
              refine hX_goM 2 (bif gCmp .ge x2 0 then 51 else 44) [some (.ref 0), some (.int x0), some (.int x1), some (.int x2), some (.ref 57)] [] rfl ?_
              refine hX_if (gCmp .ge x2 0) (fun c26 => ?_) (fun c26 => ?_)
              · skip
                have h := gcT c26 h
                refine hX_goM 3 (bif gCmp .le x2 40 then 63 else 57) [some (.ref 0), some (.int x0), some (.int x1), some (.int x2), some (.ref 57)] [] rfl ?_
                refine hX_if (gCmp .le x2 40) (fun c27 => ?_) (fun c27 => ?_)
                · skip
                  have h := gcT c27 h
                  refine hX_goM 3 (67) [some (.ref 0), some (.int x0), some (.int x1), some (.int x2), some (.ref 57)] [.int x2, .int x1, .ref 57] rfl ?_
                  revert h; refine gBindR fun q28 e28 h => ?_
                  refine hX_call (r' := zR_54) rfl (mt_54_57 N x1 x2 q28 e28) ?_
                  refine hX_go 2 (75) [some (.ref 0), some (.int x0), some (.int x1), some (.int x2), some (.ref 57)] [.int q28.2.2] (hCm b d k s w ik ex pr wd sn qu tb ts (r0, rq) h0 q28 h2 h3 fi R) rfl ?_
                  have h := Option.some.inj h; subst h
                  exact hX_end rfl rfl rfl
                · skip
                  have h := gcF c27 h
                  refine hX_goM 2 (59) [some (.ref 0), some (.int x0), some (.int x1), some (.int x2), some (.ref 57)] [.int 0, .ref 0] rfl ?_
                  refine hX_call (r' := zR_111) rfl (ct_111_0 0 rfl) ?_
                  refine hX_go 0 (62) [some (.ref 0), some (.int x0), some (.int x1), some (.int x2), some (.ref 57)] [.int (v_111_0 0)] (hCm b d k s w ik ex pr wd sn qu tb ts (r0, rq) h0 h1 h2 h3 (f_111_0_fi 0 fi) R) rfl ?_
                  have h := Option.some.inj h; subst h
                  exact hX_end rfl rfl rfl
              · skip
                have h := gcF c26 h
                refine hX_goM 2 (47) [some (.ref 0), some (.int x0), some (.int x1), some (.int x2), some (.ref 57)] [.int 6, .ref 0] rfl ?_
                refine hX_call (r' := zR_111) rfl (ct_111_0 6 rfl) ?_
                refine hX_go 0 (50) [some (.ref 0), some (.int x0), some (.int x1), some (.int x2), some (.ref 57)] [.int (v_111_0 6)] (hCm b d k s w ik ex pr wd sn qu tb ts (r0, rq) h0 h1 h2 h3 (f_111_0_fi 6 fi) R) rfl ?_
                have h := Option.some.inj h; subst h
                exact hX_end rfl rfl rfl
            · skip
              have h := gcF c25 h
              refine hX_goM 3 (bif gCmp .eq x1 16 then 40 else 28) [some (.ref 0), some (.int x0), some (.int x1), some (.int x2), some (.ref 57)] [] rfl ?_
              refine hX_if (gCmp .eq x1 16) (fun c29 => ?_) (fun c29 => ?_)
              · skip
                have h := gcT c29 h
                refine hX_goM 2 (bif gCmp .ge x2 0 then 51 else 44) [some (.ref 0), some (.int x0), some (.int x1), some (.int x2), some (.ref 57)] [] rfl ?_
                refine hX_if (gCmp .ge x2 0) (fun c30 => ?_) (fun c30 => ?_)
                · skip
                  have h := gcT c30 h
                  refine hX_goM 3 (bif gCmp .le x2 40 then 63 else 57) [some (.ref 0), some (.int x0), some (.int x1), some (.int x2), some (.ref 57)] [] rfl ?_
                  refine hX_if (gCmp .le x2 40) (fun c31 => ?_) (fun c31 => ?_)
                  · skip
                    have h := gcT c31 h
                    refine hX_goM 3 (67) [some (.ref 0), some (.int x0), some (.int x1), some (.int x2), some (.ref 57)] [.int x2, .int x1, .ref 57] rfl ?_
                    revert h; refine gBindR fun q32 e32 h => ?_
                    refine hX_call (r' := zR_54) rfl (mt_54_57 N x1 x2 q32 e32) ?_
                    refine hX_go 2 (75) [some (.ref 0), some (.int x0), some (.int x1), some (.int x2), some (.ref 57)] [.int q32.2.2] (hCm b d k s w ik ex pr wd sn qu tb ts (r0, rq) h0 q32 h2 h3 fi R) rfl ?_
                    have h := Option.some.inj h; subst h
                    exact hX_end rfl rfl rfl
                  · skip
                    have h := gcF c31 h
                    refine hX_goM 2 (59) [some (.ref 0), some (.int x0), some (.int x1), some (.int x2), some (.ref 57)] [.int 0, .ref 0] rfl ?_
                    refine hX_call (r' := zR_111) rfl (ct_111_0 0 rfl) ?_
                    refine hX_go 0 (62) [some (.ref 0), some (.int x0), some (.int x1), some (.int x2), some (.ref 57)] [.int (v_111_0 0)] (hCm b d k s w ik ex pr wd sn qu tb ts (r0, rq) h0 h1 h2 h3 (f_111_0_fi 0 fi) R) rfl ?_
                    have h := Option.some.inj h; subst h
                    exact hX_end rfl rfl rfl
                · skip
                  have h := gcF c30 h
                  refine hX_goM 2 (47) [some (.ref 0), some (.int x0), some (.int x1), some (.int x2), some (.ref 57)] [.int 6, .ref 0] rfl ?_
                  refine hX_call (r' := zR_111) rfl (ct_111_0 6 rfl) ?_
                  refine hX_go 0 (50) [some (.ref 0), some (.int x0), some (.int x1), some (.int x2), some (.ref 57)] [.int (v_111_0 6)] (hCm b d k s w ik ex pr wd sn qu tb ts (r0, rq) h0 h1 h2 h3 (f_111_0_fi 6 fi) R) rfl ?_
                  have h := Option.some.inj h; subst h
                  exact hX_end rfl rfl rfl
              · skip
                have h := gcF c29 h
                refine hX_goM 3 (bif gCmp .eq x1 32 then 40 else 34) [some (.ref 0), some (.int x0), some (.int x1), some (.int x2), some (.ref 57)] [] rfl ?_
                refine hX_if (gCmp .eq x1 32) (fun c33 => ?_) (fun c33 => ?_)
                · skip
                  have h := gcT c33 h
                  refine hX_goM 2 (bif gCmp .ge x2 0 then 51 else 44) [some (.ref 0), some (.int x0), some (.int x1), some (.int x2), some (.ref 57)] [] rfl ?_
                  refine hX_if (gCmp .ge x2 0) (fun c34 => ?_) (fun c34 => ?_)
                  · skip
                    have h := gcT c34 h
                    refine hX_goM 3 (bif gCmp .le x2 40 then 63 else 57) [some (.ref 0), some (.int x0), some (.int x1), some (.int x2), some (.ref 57)] [] rfl ?_
                    refine hX_if (gCmp .le x2 40) (fun c35 => ?_) (fun c35 => ?_)
                    · skip
                      have h := gcT c35 h
                      refine hX_goM 3 (67) [some (.ref 0), some (.int x0), some (.int x1), some (.int x2), some (.ref 57)] [.int x2, .int x1, .ref 57] rfl ?_
                      revert h; refine gBindR fun q36 e36 h => ?_
                      refine hX_call (r' := zR_54) rfl (mt_54_57 N x1 x2 q36 e36) ?_
                      refine hX_go 2 (75) [some (.ref 0), some (.int x0), some (.int x1), some (.int x2), some (.ref 57)] [.int q36.2.2] (hCm b d k s w ik ex pr wd sn qu tb ts (r0, rq) h0 q36 h2 h3 fi R) rfl ?_
                      have h := Option.some.inj h; subst h
                      exact hX_end rfl rfl rfl
                    · skip
                      have h := gcF c35 h
                      refine hX_goM 2 (59) [some (.ref 0), some (.int x0), some (.int x1), some (.int x2), some (.ref 57)] [.int 0, .ref 0] rfl ?_
                      refine hX_call (r' := zR_111) rfl (ct_111_0 0 rfl) ?_
                      refine hX_go 0 (62) [some (.ref 0), some (.int x0), some (.int x1), some (.int x2), some (.ref 57)] [.int (v_111_0 0)] (hCm b d k s w ik ex pr wd sn qu tb ts (r0, rq) h0 h1 h2 h3 (f_111_0_fi 0 fi) R) rfl ?_
                      have h := Option.some.inj h; subst h
                      exact hX_end rfl rfl rfl
                  · skip
                    have h := gcF c34 h
                    refine hX_goM 2 (47) [some (.ref 0), some (.int x0), some (.int x1), some (.int x2), some (.ref 57)] [.int 6, .ref 0] rfl ?_
                    refine hX_call (r' := zR_111) rfl (ct_111_0 6 rfl) ?_
                    refine hX_go 0 (50) [some (.ref 0), some (.int x0), some (.int x1), some (.int x2), some (.ref 57)] [.int (v_111_0 6)] (hCm b d k s w ik ex pr wd sn qu tb ts (r0, rq) h0 h1 h2 h3 (f_111_0_fi 6 fi) R) rfl ?_
                    have h := Option.some.inj h; subst h
                    exact hX_end rfl rfl rfl
                · skip
                  have h := gcF c33 h
                  refine hX_goM 2 (36) [some (.ref 0), some (.int x0), some (.int x1), some (.int x2), some (.ref 57)] [.int 0, .ref 0] rfl ?_
                  refine hX_call (r' := zR_111) rfl (ct_111_0 0 rfl) ?_
                  refine hX_go 0 (39) [some (.ref 0), some (.int x0), some (.int x1), some (.int x2), some (.ref 57)] [.int (v_111_0 0)] (hCm b d k s w ik ex pr wd sn qu tb ts (r0, rq) h0 h1 h2 h3 (f_111_0_fi 0 fi) R) rfl ?_
                  have h := Option.some.inj h; subst h
                  exact hX_end rfl rfl rfl
        · skip
          have h := gcF c20 h
          refine hX_bif (hEq x0 2) (fun c37 => ?_) (fun c37 => ?_)
          · skip
            have h := gcT c37 h
            refine hX_call (r' := zR_114) rfl (ct_114_0_4 x0 c1 c2 c3 c20 c37) ?_
            refine hX_goM 5 (bif gCmp .eq x1 0 then 40 else 16) [some (.ref 0), some (.int x0), some (.int x1), some (.int x2), some (.ref 59)] [] rfl ?_
            refine hX_if (gCmp .eq x1 0) (fun c38 => ?_) (fun c38 => ?_)
            · skip
              have h := gcT c38 h
              refine hX_goM 2 (bif gCmp .ge x2 0 then 51 else 44) [some (.ref 0), some (.int x0), some (.int x1), some (.int x2), some (.ref 59)] [] rfl ?_
              refine hX_if (gCmp .ge x2 0) (fun c39 => ?_) (fun c39 => ?_)
              · skip
                have h := gcT c39 h
                refine hX_goM 3 (bif gCmp .le x2 40 then 63 else 57) [some (.ref 0), some (.int x0), some (.int x1), some (.int x2), some (.ref 59)] [] rfl ?_
                refine hX_if (gCmp .le x2 40) (fun c40 => ?_) (fun c40 => ?_)
                · skip
                  have h := gcT c40 h
                  refine hX_goM 3 (67) [some (.ref 0), some (.int x0), some (.int x1), some (.int x2), some (.ref 59)] [.int x2, .int x1, .ref 59] rfl ?_
                  revert h; refine gBindR fun q41 e41 h => ?_
                  refine hX_call (r' := zR_54) rfl (mt_54_59 N x1 x2 q41 e41) ?_
                  refine hX_go 2 (75) [some (.ref 0), some (.int x0), some (.int x1), some (.int x2), some (.ref 59)] [.int q41.2.2] (hCm b d k s w ik ex pr wd sn qu tb ts (r0, rq) h0 h1 q41 h3 fi R) rfl ?_
                  have h := Option.some.inj h; subst h
                  exact hX_end rfl rfl rfl
                · skip
                  have h := gcF c40 h
                  refine hX_goM 2 (59) [some (.ref 0), some (.int x0), some (.int x1), some (.int x2), some (.ref 59)] [.int 0, .ref 0] rfl ?_
                  refine hX_call (r' := zR_111) rfl (ct_111_0 0 rfl) ?_
                  refine hX_go 0 (62) [some (.ref 0), some (.int x0), some (.int x1), some (.int x2), some (.ref 59)] [.int (v_111_0 0)] (hCm b d k s w ik ex pr wd sn qu tb ts (r0, rq) h0 h1 h2 h3 (f_111_0_fi 0 fi) R) rfl ?_
                  have h := Option.some.inj h; subst h
                  exact hX_end rfl rfl rfl
              · skip
                have h := gcF c39 h
                refine hX_goM 2 (47) [some (.ref 0), some (.int x0), some (.int x1), some (.int x2), some (.ref 59)] [.int 6, .ref 0] rfl ?_
                refine hX_call (r' := zR_111) rfl (ct_111_0 6 rfl) ?_
                refine hX_go 0 (50) [some (.ref 0), some (.int x0), some (.int x1), some (.int x2), some (.ref 59)] [.int (v_111_0 6)] (hCm b d k s w ik ex pr wd sn qu tb ts (r0, rq) h0 h1 h2 h3 (f_111_0_fi 6 fi) R) rfl ?_
                have h := Option.some.inj h; subst h
                exact hX_end rfl rfl rfl
            · skip
              have h := gcF c38 h
              refine hX_goM 3 (bif gCmp .eq x1 8 then 40 else 22) [some (.ref 0), some (.int x0), some (.int x1), some (.int x2), some (.ref 59)] [] rfl ?_
              refine hX_if (gCmp .eq x1 8) (fun c42 => ?_) (fun c42 => ?_)
              · skip
                have h := gcT c42 h
                refine hX_goM 2 (bif gCmp .ge x2 0 then 51 else 44) [some (.ref 0), some (.int x0), some (.int x1), some (.int x2), some (.ref 59)] [] rfl ?_
                refine hX_if (gCmp .ge x2 0) (fun c43 => ?_) (fun c43 => ?_)
                · skip
                  have h := gcT c43 h
                  refine hX_goM 3 (bif gCmp .le x2 40 then 63 else 57) [some (.ref 0), some (.int x0), some (.int x1), some (.int x2), some (.ref 59)] [] rfl ?_
                  refine hX_if (gCmp .le x2 40) (fun c44 => ?_) (fun c44 => ?_)
                  · skip
                    have h := gcT c44 h
                    refine hX_goM 3 (67) [some (.ref 0), some (.int x0), some (.int x1), some (.int x2), some (.ref 59)] [.int x2, .int x1, .ref 59] rfl ?_
                    revert h; refine gBindR fun q45 e45 h => ?_
                    refine hX_call (r' := zR_54) rfl (mt_54_59 N x1 x2 q45 e45) ?_
                    refine hX_go 2 (75) [some (.ref 0), some (.int x0), some (.int x1), some (.int x2), some (.ref 59)] [.int q45.2.2] (hCm b d k s w ik ex pr wd sn qu tb ts (r0, rq) h0 h1 q45 h3 fi R) rfl ?_
                    have h := Option.some.inj h; subst h
                    exact hX_end rfl rfl rfl
                  · skip
                    have h := gcF c44 h
                    refine hX_goM 2 (59) [some (.ref 0), some (.int x0), some (.int x1), some (.int x2), some (.ref 59)] [.int 0, .ref 0] rfl ?_
                    refine hX_call (r' := zR_111) rfl (ct_111_0 0 rfl) ?_
                    refine hX_go 0 (62) [some (.ref 0), some (.int x0), some (.int x1), some (.int x2), some (.ref 59)] [.int (v_111_0 0)] (hCm b d k s w ik ex pr wd sn qu tb ts (r0, rq) h0 h1 h2 h3 (f_111_0_fi 0 fi) R) rfl ?_
                    have h := Option.some.inj h; subst h
                    exact hX_end rfl rfl rfl
                · skip
                  have h := gcF c43 h
                  refine hX_goM 2 (47) [some (.ref 0), some (.int x0), some (.int x1), some (.int x2), some (.ref 59)] [.int 6, .ref 0] rfl ?_
                  refine hX_call (r' := zR_111) rfl (ct_111_0 6 rfl) ?_
                  refine hX_go 0 (50) [some (.ref 0), some (.int x0), some (.int x1), some (.int x2), some (.ref 59)] [.int (v_111_0 6)] (hCm b d k s w ik ex pr wd sn qu tb ts (r0, rq) h0 h1 h2 h3 (f_111_0_fi 6 fi) R) rfl ?_
                  have h := Option.some.inj h; subst h
                  exact hX_end rfl rfl rfl
              · skip
                have h := gcF c42 h
                refine hX_goM 3 (bif gCmp .eq x1 16 then 40 else 28) [some (.ref 0), some (.int x0), some (.int x1), some (.int x2), some (.ref 59)] [] rfl ?_
                refine hX_if (gCmp .eq x1 16) (fun c46 => ?_) (fun c46 => ?_)
                · skip
                  have h := gcT c46 h
                  refine hX_goM 2 (bif gCmp .ge x2 0 then 51 else 44) [some (.ref 0), some (.int x0), some (.int x1), some (.int x2), some (.ref 59)] [] rfl ?_
                  refine hX_if (gCmp .ge x2 0) (fun c47 => ?_) (fun c47 => ?_)
                  · skip
                    have h := gcT c47 h
                    refine hX_goM 3 (bif gCmp .le x2 40 then 63 else 57) [some (.ref 0), some (.int x0), some (.int x1), some (.int x2), some (.ref 59)] [] rfl ?_
                    refine hX_if (gCmp .le x2 40) (fun c48 => ?_) (fun c48 => ?_)
                    · skip
                      have h := gcT c48 h
                      refine hX_goM 3 (67) [some (.ref 0), some (.int x0), some (.int x1), some (.int x2), some (.ref 59)] [.int x2, .int x1, .ref 59] rfl ?_
                      revert h; refine gBindR fun q49 e49 h => ?_
                      refine hX_call (r' := zR_54) rfl (mt_54_59 N x1 x2 q49 e49) ?_
                      refine hX_go 2 (75) [some (.ref 0), some (.int x0), some (.int x1), some (.int x2), some (.ref 59)] [.int q49.2.2] (hCm b d k s w ik ex pr wd sn qu tb ts (r0, rq) h0 h1 q49 h3 fi R) rfl ?_
                      have h := Option.some.inj h; subst h
                      exact hX_end rfl rfl rfl
                    · skip
                      have h := gcF c48 h
                      refine hX_goM 2 (59) [some (.ref 0), some (.int x0), some (.int x1), some (.int x2), some (.ref 59)] [.int 0, .ref 0] rfl ?_
                      refine hX_call (r' := zR_111) rfl (ct_111_0 0 rfl) ?_
                      refine hX_go 0 (62) [some (.ref 0), some (.int x0), some (.int x1), some (.int x2), some (.ref 59)] [.int (v_111_0 0)] (hCm b d k s w ik ex pr wd sn qu tb ts (r0, rq) h0 h1 h2 h3 (f_111_0_fi 0 fi) R) rfl ?_
                      have h := Option.some.inj h; subst h
                      exact hX_end rfl rfl rfl
                  · skip
                    have h := gcF c47 h
                    refine hX_goM 2 (47) [some (.ref 0), some (.int x0), some (.int x1), some (.int x2), some (.ref 59)] [.int 6, .ref 0] rfl ?_
                    refine hX_call (r' := zR_111) rfl (ct_111_0 6 rfl) ?_
                    refine hX_go 0 (50) [some (.ref 0), some (.int x0), some (.int x1), some (.int x2), some (.ref 59)] [.int (v_111_0 6)] (hCm b d k s w ik ex pr wd sn qu tb ts (r0, rq) h0 h1 h2 h3 (f_111_0_fi 6 fi) R) rfl ?_
                    have h := Option.some.inj h; subst h
                    exact hX_end rfl rfl rfl
                · skip
                  have h := gcF c46 h
                  refine hX_goM 3 (bif gCmp .eq x1 32 then 40 else 34) [some (.ref 0), some (.int x0), some (.int x1), some (.int x2), some (.ref 59)] [] rfl ?_
                  refine hX_if (gCmp .eq x1 32) (fun c50 => ?_) (fun c50 => ?_)
                  · skip
                    have h := gcT c50 h
                    refine hX_goM 2 (bif gCmp .ge x2 0 then 51 else 44) [some (.ref 0), some (.int x0), some (.int x1), some (.int x2), some (.ref 59)] [] rfl ?_
                    refine hX_if (gCmp .ge x2 0) (fun c51 => ?_) (fun c51 => ?_)
                    · skip
                      have h := gcT c51 h
                      refine hX_goM 3 (bif gCmp .le x2 40 then 63 else 57) [some (.ref 0), some (.int x0), some (.int x1), some (.int x2), some (.ref 59)] [] rfl ?_
                      refine hX_if (gCmp .le x2 40) (fun c52 => ?_) (fun c52 => ?_)
                      · skip
                        have h := gcT c52 h
                        refine hX_goM 3 (67) [some (.ref 0), some (.int x0), some (.int x1), some (.int x2), some (.ref 59)] [.int x2, .int x1, .ref 59] rfl ?_
                        revert h; refine gBindR fun q53 e53 h => ?_
                        refine hX_call (r' := zR_54) rfl (mt_54_59 N x1 x2 q53 e53) ?_
                        refine hX_go 2 (75) [some (.ref 0), some (.int x0), some (.int x1), some (.int x2), some (.ref 59)] [.int q53.2.2] (hCm b d k s w ik ex pr wd sn qu tb ts (r0, rq) h0 h1 q53 h3 fi R) rfl ?_
                        have h := Option.some.inj h; subst h
                        exact hX_end rfl rfl rfl
                      · skip
                        have h := gcF c52 h
                        refine hX_goM 2 (59) [some (.ref 0), some (.int x0), some (.int x1), some (.int x2), some (.ref 59)] [.int 0, .ref 0] rfl ?_
                        refine hX_call (r' := zR_111) rfl (ct_111_0 0 rfl) ?_
                        refine hX_go 0 (62) [some (.ref 0), some (.int x0), some (.int x1), some (.int x2), some (.ref 59)] [.int (v_111_0 0)] (hCm b d k s w ik ex pr wd sn qu tb ts (r0, rq) h0 h1 h2 h3 (f_111_0_fi 0 fi) R) rfl ?_
                        have h := Option.some.inj h; subst h
                        exact hX_end rfl rfl rfl
                    · skip
                      have h := gcF c51 h
                      refine hX_goM 2 (47) [some (.ref 0), some (.int x0), some (.int x1), some (.int x2), some (.ref 59)] [.int 6, .ref 0] rfl ?_
                      refine hX_call (r' := zR_111) rfl (ct_111_0 6 rfl) ?_
                      refine hX_go 0 (50) [some (.ref 0), some (.int x0), some (.int x1), some (.int x2), some (.ref 59)] [.int (v_111_0 6)] (hCm b d k s w ik ex pr wd sn qu tb ts (r0, rq) h0 h1 h2 h3 (f_111_0_fi 6 fi) R) rfl ?_
                      have h := Option.some.inj h; subst h
                      exact hX_end rfl rfl rfl
                  · skip
                    have h := gcF c50 h
                    refine hX_goM 2 (36) [some (.ref 0), some (.int x0), some (.int x1), some (.int x2), some (.ref 59)] [.int 0, .ref 0] rfl ?_
                    refine hX_call (r' := zR_111) rfl (ct_111_0 0 rfl) ?_
                    refine hX_go 0 (39) [some (.ref 0), some (.int x0), some (.int x1), some (.int x2), some (.ref 59)] [.int (v_111_0 0)] (hCm b d k s w ik ex pr wd sn qu tb ts (r0, rq) h0 h1 h2 h3 (f_111_0_fi 0 fi) R) rfl ?_
                    have h := Option.some.inj h; subst h
                    exact hX_end rfl rfl rfl
          · skip
            have h := gcF c37 h
            refine hX_call (r' := zR_114) rfl (ct_114_0_5 x0 c1 c2 c3 c20 c37) ?_
            refine hX_goM 5 (bif gCmp .eq x1 0 then 40 else 16) [some (.ref 0), some (.int x0), some (.int x1), some (.int x2), some (.ref 61)] [] rfl ?_
            refine hX_if (gCmp .eq x1 0) (fun c54 => ?_) (fun c54 => ?_)
            · skip
              have h := gcT c54 h
              refine hX_goM 2 (bif gCmp .ge x2 0 then 51 else 44) [some (.ref 0), some (.int x0), some (.int x1), some (.int x2), some (.ref 61)] [] rfl ?_
              refine hX_if (gCmp .ge x2 0) (fun c55 => ?_) (fun c55 => ?_)
              · skip
                have h := gcT c55 h
                refine hX_goM 3 (bif gCmp .le x2 40 then 63 else 57) [some (.ref 0), some (.int x0), some (.int x1), some (.int x2), some (.ref 61)] [] rfl ?_
                refine hX_if (gCmp .le x2 40) (fun c56 => ?_) (fun c56 => ?_)
                · skip
                  have h := gcT c56 h
                  refine hX_goM 3 (67) [some (.ref 0), some (.int x0), some (.int x1), some (.int x2), some (.ref 61)] [.int x2, .int x1, .ref 61] rfl ?_
                  revert h; refine gBindR fun q57 e57 h => ?_
                  refine hX_call (r' := zR_54) rfl (mt_54_61 N x1 x2 q57 e57) ?_
                  refine hX_go 2 (75) [some (.ref 0), some (.int x0), some (.int x1), some (.int x2), some (.ref 61)] [.int q57.2.2] (hCm b d k s w ik ex pr wd sn qu tb ts (r0, rq) h0 h1 h2 q57 fi R) rfl ?_
                  have h := Option.some.inj h; subst h
                  exact hX_end rfl rfl rfl
                · skip
                  have h := gcF c56 h
                  refine hX_goM 2 (59) [some (.ref 0), some (.int x0), some (.int x1), some (.int x2), some (.ref 61)] [.int 0, .ref 0] rfl ?_
                  refine hX_call (r' := zR_111) rfl (ct_111_0 0 rfl) ?_
                  refine hX_go 0 (62) [some (.ref 0), some (.int x0), some (.int x1), some (.int x2), some (.ref 61)] [.int (v_111_0 0)] (hCm b d k s w ik ex pr wd sn qu tb ts (r0, rq) h0 h1 h2 h3 (f_111_0_fi 0 fi) R) rfl ?_
                  have h := Option.some.inj h; subst h
                  exact hX_end rfl rfl rfl
              · skip
                have h := gcF c55 h
                refine hX_goM 2 (47) [some (.ref 0), some (.int x0), some (.int x1), some (.int x2), some (.ref 61)] [.int 6, .ref 0] rfl ?_
                refine hX_call (r' := zR_111) rfl (ct_111_0 6 rfl) ?_
                refine hX_go 0 (50) [some (.ref 0), some (.int x0), some (.int x1), some (.int x2), some (.ref 61)] [.int (v_111_0 6)] (hCm b d k s w ik ex pr wd sn qu tb ts (r0, rq) h0 h1 h2 h3 (f_111_0_fi 6 fi) R) rfl ?_
                have h := Option.some.inj h; subst h
                exact hX_end rfl rfl rfl
            · skip
              have h := gcF c54 h
              refine hX_goM 3 (bif gCmp .eq x1 8 then 40 else 22) [some (.ref 0), some (.int x0), some (.int x1), some (.int x2), some (.ref 61)] [] rfl ?_
              refine hX_if (gCmp .eq x1 8) (fun c58 => ?_) (fun c58 => ?_)
              · skip
                have h := gcT c58 h
                refine hX_goM 2 (bif gCmp .ge x2 0 then 51 else 44) [some (.ref 0), some (.int x0), some (.int x1), some (.int x2), some (.ref 61)] [] rfl ?_
                refine hX_if (gCmp .ge x2 0) (fun c59 => ?_) (fun c59 => ?_)
                · skip
                  have h := gcT c59 h
                  refine hX_goM 3 (bif gCmp .le x2 40 then 63 else 57) [some (.ref 0), some (.int x0), some (.int x1), some (.int x2), some (.ref 61)] [] rfl ?_
                  refine hX_if (gCmp .le x2 40) (fun c60 => ?_) (fun c60 => ?_)
                  · skip
                    have h := gcT c60 h
                    refine hX_goM 3 (67) [some (.ref 0), some (.int x0), some (.int x1), some (.int x2), some (.ref 61)] [.int x2, .int x1, .ref 61] rfl ?_
                    revert h; refine gBindR fun q61 e61 h => ?_
                    refine hX_call (r' := zR_54) rfl (mt_54_61 N x1 x2 q61 e61) ?_
                    refine hX_go 2 (75) [some (.ref 0), some (.int x0), some (.int x1), some (.int x2), some (.ref 61)] [.int q61.2.2] (hCm b d k s w ik ex pr wd sn qu tb ts (r0, rq) h0 h1 h2 q61 fi R) rfl ?_
                    have h := Option.some.inj h; subst h
                    exact hX_end rfl rfl rfl
                  · skip
                    have h := gcF c60 h
                    refine hX_goM 2 (59) [some (.ref 0), some (.int x0), some (.int x1), some (.int x2), some (.ref 61)] [.int 0, .ref 0] rfl ?_
                    refine hX_call (r' := zR_111) rfl (ct_111_0 0 rfl) ?_
                    refine hX_go 0 (62) [some (.ref 0), some (.int x0), some (.int x1), some (.int x2), some (.ref 61)] [.int (v_111_0 0)] (hCm b d k s w ik ex pr wd sn qu tb ts (r0, rq) h0 h1 h2 h3 (f_111_0_fi 0 fi) R) rfl ?_
                    have h := Option.some.inj h; subst h
                    exact hX_end rfl rfl rfl
                · skip
                  have h := gcF c59 h
                  refine hX_goM 2 (47) [some (.ref 0), some (.int x0), some (.int x1), some (.int x2), some (.ref 61)] [.int 6, .ref 0] rfl ?_
                  refine hX_call (r' := zR_111) rfl (ct_111_0 6 rfl) ?_
                  refine hX_go 0 (50) [some (.ref 0), some (.int x0), some (.int x1), some (.int x2), some (.ref 61)] [.int (v_111_0 6)] (hCm b d k s w ik ex pr wd sn qu tb ts (r0, rq) h0 h1 h2 h3 (f_111_0_fi 6 fi) R) rfl ?_
                  have h := Option.some.inj h; subst h
                  exact hX_end rfl rfl rfl
              · skip
                have h := gcF c58 h
                refine hX_goM 3 (bif gCmp .eq x1 16 then 40 else 28) [some (.ref 0), some (.int x0), some (.int x1), some (.int x2), some (.ref 61)] [] rfl ?_
                refine hX_if (gCmp .eq x1 16) (fun c62 => ?_) (fun c62 => ?_)
                · skip
                  have h := gcT c62 h
                  refine hX_goM 2 (bif gCmp .ge x2 0 then 51 else 44) [some (.ref 0), some (.int x0), some (.int x1), some (.int x2), some (.ref 61)] [] rfl ?_
                  refine hX_if (gCmp .ge x2 0) (fun c63 => ?_) (fun c63 => ?_)
                  · skip
                    have h := gcT c63 h
                    refine hX_goM 3 (bif gCmp .le x2 40 then 63 else 57) [some (.ref 0), some (.int x0), some (.int x1), some (.int x2), some (.ref 61)] [] rfl ?_
                    refine hX_if (gCmp .le x2 40) (fun c64 => ?_) (fun c64 => ?_)
                    · skip
                      have h := gcT c64 h
                      refine hX_goM 3 (67) [some (.ref 0), some (.int x0), some (.int x1), some (.int x2), some (.ref 61)] [.int x2, .int x1, .ref 61] rfl ?_
                      revert h; refine gBindR fun q65 e65 h => ?_
                      refine hX_call (r' := zR_54) rfl (mt_54_61 N x1 x2 q65 e65) ?_
                      refine hX_go 2 (75) [some (.ref 0), some (.int x0), some (.int x1), some (.int x2), some (.ref 61)] [.int q65.2.2] (hCm b d k s w ik ex pr wd sn qu tb ts (r0, rq) h0 h1 h2 q65 fi R) rfl ?_
                      have h := Option.some.inj h; subst h
                      exact hX_end rfl rfl rfl
                    · skip
                      have h := gcF c64 h
                      refine hX_goM 2 (59) [some (.ref 0), some (.int x0), some (.int x1), some (.int x2), some (.ref 61)] [.int 0, .ref 0] rfl ?_
                      refine hX_call (r' := zR_111) rfl (ct_111_0 0 rfl) ?_
                      refine hX_go 0 (62) [some (.ref 0), some (.int x0), some (.int x1), some (.int x2), some (.ref 61)] [.int (v_111_0 0)] (hCm b d k s w ik ex pr wd sn qu tb ts (r0, rq) h0 h1 h2 h3 (f_111_0_fi 0 fi) R) rfl ?_
                      have h := Option.some.inj h; subst h
                      exact hX_end rfl rfl rfl
                  · skip
                    have h := gcF c63 h
                    refine hX_goM 2 (47) [some (.ref 0), some (.int x0), some (.int x1), some (.int x2), some (.ref 61)] [.int 6, .ref 0] rfl ?_
                    refine hX_call (r' := zR_111) rfl (ct_111_0 6 rfl) ?_
                    refine hX_go 0 (50) [some (.ref 0), some (.int x0), some (.int x1), some (.int x2), some (.ref 61)] [.int (v_111_0 6)] (hCm b d k s w ik ex pr wd sn qu tb ts (r0, rq) h0 h1 h2 h3 (f_111_0_fi 6 fi) R) rfl ?_
                    have h := Option.some.inj h; subst h
                    exact hX_end rfl rfl rfl
                · skip
                  have h := gcF c62 h
                  refine hX_goM 3 (bif gCmp .eq x1 32 then 40 else 34) [some (.ref 0), some (.int x0), some (.int x1), some (.int x2), some (.ref 61)] [] rfl ?_
                  refine hX_if (gCmp .eq x1 32) (fun c66 => ?_) (fun c66 => ?_)
                  · skip
                    have h := gcT c66 h
                    refine hX_goM 2 (bif gCmp .ge x2 0 then 51 else 44) [some (.ref 0), some (.int x0), some (.int x1), some (.int x2), some (.ref 61)] [] rfl ?_
                    refine hX_if (gCmp .ge x2 0) (fun c67 => ?_) (fun c67 => ?_)
                    · skip
                      have h := gcT c67 h
                      refine hX_goM 3 (bif gCmp .le x2 40 then 63 else 57) [some (.ref 0), some (.int x0), some (.int x1), some (.int x2), some (.ref 61)] [] rfl ?_
                      refine hX_if (gCmp .le x2 40) (fun c68 => ?_) (fun c68 => ?_)
                      · skip
                        have h := gcT c68 h
                        refine hX_goM 3 (67) [some (.ref 0), some (.int x0), some (.int x1), some (.int x2), some (.ref 61)] [.int x2, .int x1, .ref 61] rfl ?_
                        revert h; refine gBindR fun q69 e69 h => ?_
                        refine hX_call (r' := zR_54) rfl (mt_54_61 N x1 x2 q69 e69) ?_
                        refine hX_go 2 (75) [some (.ref 0), some (.int x0), some (.int x1), some (.int x2), some (.ref 61)] [.int q69.2.2] (hCm b d k s w ik ex pr wd sn qu tb ts (r0, rq) h0 h1 h2 q69 fi R) rfl ?_
                        have h := Option.some.inj h; subst h
                        exact hX_end rfl rfl rfl
                      · skip
                        have h := gcF c68 h
                        refine hX_goM 2 (59) [some (.ref 0), some (.int x0), some (.int x1), some (.int x2), some (.ref 61)] [.int 0, .ref 0] rfl ?_
                        refine hX_call (r' := zR_111) rfl (ct_111_0 0 rfl) ?_
                        refine hX_go 0 (62) [some (.ref 0), some (.int x0), some (.int x1), some (.int x2), some (.ref 61)] [.int (v_111_0 0)] (hCm b d k s w ik ex pr wd sn qu tb ts (r0, rq) h0 h1 h2 h3 (f_111_0_fi 0 fi) R) rfl ?_
                        have h := Option.some.inj h; subst h
                        exact hX_end rfl rfl rfl
                    · skip
                      have h := gcF c67 h
                      refine hX_goM 2 (47) [some (.ref 0), some (.int x0), some (.int x1), some (.int x2), some (.ref 61)] [.int 6, .ref 0] rfl ?_
                      refine hX_call (r' := zR_111) rfl (ct_111_0 6 rfl) ?_
                      refine hX_go 0 (50) [some (.ref 0), some (.int x0), some (.int x1), some (.int x2), some (.ref 61)] [.int (v_111_0 6)] (hCm b d k s w ik ex pr wd sn qu tb ts (r0, rq) h0 h1 h2 h3 (f_111_0_fi 6 fi) R) rfl ?_
                      have h := Option.some.inj h; subst h
                      exact hX_end rfl rfl rfl
                  · skip
                    have h := gcF c66 h
                    refine hX_goM 2 (36) [some (.ref 0), some (.int x0), some (.int x1), some (.int x2), some (.ref 61)] [.int 0, .ref 0] rfl ?_
                    refine hX_call (r' := zR_111) rfl (ct_111_0 0 rfl) ?_
                    refine hX_go 0 (39) [some (.ref 0), some (.int x0), some (.int x1), some (.int x2), some (.ref 61)] [.int (v_111_0 0)] (hCm b d k s w ik ex pr wd sn qu tb ts (r0, rq) h0 h1 h2 h3 (f_111_0_fi 0 fi) R) rfl ?_
                    have h := Option.some.inj h; subst h
                    exact hX_end rfl rfl rfl
    · skip
      have h := gcF c2 h
      refine hX_call (r' := zR_114) rfl (ct_114_0_1 x0 c1 c2) ?_
      refine hX_goM 5 (36) [some (.ref 0), some (.int x0), some (.int x1), some (.int x2), some (.null)] [.int 0, .ref 0] rfl ?_
      refine hX_call (r' := zR_111) rfl (ct_111_0 0 rfl) ?_
      refine hX_go 0 (39) [some (.ref 0), some (.int x0), some (.int x1), some (.int x2), some (.null)] [.int (v_111_0 0)] (hCm b d k s w ik ex pr wd sn qu tb ts (r0, rq) h0 h1 h2 h3 (f_111_0_fi 0 fi) R) rfl ?_
      have h := Option.some.inj h; subst h
      exact hX_end rfl rfl rfl

/-- UpOneSide$Sheet.put(II)V -/
def f_55_55_h0 (x0 : Int32) (x1 : Int32) (h0 : hSt) : hSt := (bif gCmp .ne h0.2.1 8 then (bif gCmp .ne h0.2.1 16 then (upd h0.1 (Int32.toNatClampNeg x0) x1) else (upd h0.1 (Int32.toNatClampNeg x0) ((Int32.toInt16 x1).toInt32))) else (upd h0.1 (Int32.toNatClampNeg x0) ((Int32.toInt8 x1).toInt32)), h0.2)
set_option maxRecDepth 20000 in
set_option maxHeartbeats 1000000 in
theorem ct_55_55 {LL : Nat} {xs : Nat → Int32} {D : Nat} {b d k s w : hB} {ik ex pr wd : Int32} {sn : Nat → Int64} {qu tb : Nat → Int32} {ts : Int32} {r0 : Value} {rq : hRq} {h0 h1 h2 h3 : hSt} {fi : Nat → Int32} {R : List gE} (x0 : Int32) (x1 : Int32) (o1 : gCmp .ne h0.2.1 8 = true → gCmp .ne h0.2.1 16 = true → gIn x0 40 = true) (o2 : gCmp .ne h0.2.1 8 = true → gCmp .ne h0.2.1 16 = false → gIn x0 40 = true) (o3 : gCmp .ne h0.2.1 8 = false → gIn x0 40 = true) : hM (gO LL xs) (D + 0) zR_55 [.ref 55, .int x0, .int x1] (hCm b d k s w ik ex pr wd sn qu tb ts (r0, rq) h0 h1 h2 h3 fi R) none (hCm b d k s w ik ex pr wd sn qu tb ts (r0, rq) (f_55_55_h0 x0 x1 h0) h1 h2 h3 fi R) := by
  refine hX_go 0 0 [some (.ref 55), some (.int x0), some (.int x1)] [] (hCm b d k s w ik ex pr wd sn qu tb ts (r0, rq) h0 h1 h2 h3 fi R) rfl ?_
  refine hX_go 4 (bif gCmp .ne h0.2.1 8 then 20 else 9) [some (.ref 55), some (.int x0), some (.int x1)] [] (hCm b d k s w ik ex pr wd sn qu tb ts (r0, rq) h0 h1 h2 h3 fi R) rfl ?_
  suffices hk : hX (gO LL xs) (D + 0) zR_55 47 [some (.ref 55), some (.int x0), some (.int x1)] [] (hCm b d k s w ik ex pr wd sn qu tb ts (r0, rq) (bif gCmp .ne h0.2.1 8 then (bif gCmp .ne h0.2.1 16 then (upd h0.1 (Int32.toNatClampNeg x0) x1) else (upd h0.1 (Int32.toNatClampNeg x0) ((Int32.toInt16 x1).toInt32))) else (upd h0.1 (Int32.toNatClampNeg x0) ((Int32.toInt8 x1).toInt32)), h0.2) h1 h2 h3 fi R) none (hCm b d k s w ik ex pr wd sn qu tb ts (r0, rq) (f_55_55_h0 x0 x1 h0) h1 h2 h3 fi R) by
    refine hX_if (gCmp .ne h0.2.1 8) (fun c1 => ?_) (fun c1 => ?_)
    · skip
      refine hX_goM 4 (bif gCmp .ne h0.2.1 16 then 40 else 29) [some (.ref 55), some (.int x0), some (.int x1)] [] rfl ?_
      refine hX_if (gCmp .ne h0.2.1 16) (fun c2 => ?_) (fun c2 => ?_)
      · skip
        refine hX_goM 4 (46) [some (.ref 55), some (.int x0), some (.int x1)] [.int x1, .int x0, .ref 56] rfl ?_
        refine hX_g (gIn x0 40) 47 [some (.ref 55), some (.int x0), some (.int x1)] [] (hCm b d k s w ik ex pr wd sn qu tb ts (r0, rq) (upd h0.1 (Int32.toNatClampNeg x0) x1, h0.2) h1 h2 h3 fi R) rfl (o1 c1 c2) ?_
        have hk := hk
        simp only [c1, c2, cond_true, cond_false] at hk
        first | exact hk | (simp only [c1, c2, cond_true, cond_false]; exact hk)
      · skip
        refine hX_goM 5 (36) [some (.ref 55), some (.int x0), some (.int x1)] [.int ((Int32.toInt16 x1).toInt32), .int x0, .ref 56] rfl ?_
        refine hX_g (gIn x0 40) 37 [some (.ref 55), some (.int x0), some (.int x1)] [] (hCm b d k s w ik ex pr wd sn qu tb ts (r0, rq) (upd h0.1 (Int32.toNatClampNeg x0) ((Int32.toInt16 x1).toInt32), h0.2) h1 h2 h3 fi R) rfl (o2 c1 c2) ?_
        refine hX_goM 1 (47) [some (.ref 55), some (.int x0), some (.int x1)] [] rfl ?_
        have hk := hk
        simp only [c1, c2, cond_true, cond_false] at hk
        first | exact hk | (simp only [c1, c2, cond_true, cond_false]; exact hk)
    · skip
      refine hX_goM 5 (16) [some (.ref 55), some (.int x0), some (.int x1)] [.int ((Int32.toInt8 x1).toInt32), .int x0, .ref 56] rfl ?_
      refine hX_g (gIn x0 40) 17 [some (.ref 55), some (.int x0), some (.int x1)] [] (hCm b d k s w ik ex pr wd sn qu tb ts (r0, rq) (upd h0.1 (Int32.toNatClampNeg x0) ((Int32.toInt8 x1).toInt32), h0.2) h1 h2 h3 fi R) rfl (o3 c1) ?_
      refine hX_goM 1 (47) [some (.ref 55), some (.int x0), some (.int x1)] [] rfl ?_
      have hk := hk
      simp only [c1, cond_true, cond_false] at hk
      first | exact hk | (simp only [c1, cond_true, cond_false]; exact hk)
  exact hX_end rfl (rfl) (rfl)

/-- UpOneSide$Sheet.put(II)V -/
def f_55_57_h1 (x0 : Int32) (x1 : Int32) (h1 : hSt) : hSt := (bif gCmp .ne h1.2.1 8 then (bif gCmp .ne h1.2.1 16 then (upd h1.1 (Int32.toNatClampNeg x0) x1) else (upd h1.1 (Int32.toNatClampNeg x0) ((Int32.toInt16 x1).toInt32))) else (upd h1.1 (Int32.toNatClampNeg x0) ((Int32.toInt8 x1).toInt32)), h1.2)
set_option maxRecDepth 20000 in
set_option maxHeartbeats 1000000 in
theorem ct_55_57 {LL : Nat} {xs : Nat → Int32} {D : Nat} {b d k s w : hB} {ik ex pr wd : Int32} {sn : Nat → Int64} {qu tb : Nat → Int32} {ts : Int32} {r0 : Value} {rq : hRq} {h0 h1 h2 h3 : hSt} {fi : Nat → Int32} {R : List gE} (x0 : Int32) (x1 : Int32) (o1 : gCmp .ne h1.2.1 8 = true → gCmp .ne h1.2.1 16 = true → gIn x0 40 = true) (o2 : gCmp .ne h1.2.1 8 = true → gCmp .ne h1.2.1 16 = false → gIn x0 40 = true) (o3 : gCmp .ne h1.2.1 8 = false → gIn x0 40 = true) : hM (gO LL xs) (D + 0) zR_55 [.ref 57, .int x0, .int x1] (hCm b d k s w ik ex pr wd sn qu tb ts (r0, rq) h0 h1 h2 h3 fi R) none (hCm b d k s w ik ex pr wd sn qu tb ts (r0, rq) h0 (f_55_57_h1 x0 x1 h1) h2 h3 fi R) := by
  refine hX_go 0 0 [some (.ref 57), some (.int x0), some (.int x1)] [] (hCm b d k s w ik ex pr wd sn qu tb ts (r0, rq) h0 h1 h2 h3 fi R) rfl ?_
  refine hX_go 4 (bif gCmp .ne h1.2.1 8 then 20 else 9) [some (.ref 57), some (.int x0), some (.int x1)] [] (hCm b d k s w ik ex pr wd sn qu tb ts (r0, rq) h0 h1 h2 h3 fi R) rfl ?_
  suffices hk : hX (gO LL xs) (D + 0) zR_55 47 [some (.ref 57), some (.int x0), some (.int x1)] [] (hCm b d k s w ik ex pr wd sn qu tb ts (r0, rq) h0 (bif gCmp .ne h1.2.1 8 then (bif gCmp .ne h1.2.1 16 then (upd h1.1 (Int32.toNatClampNeg x0) x1) else (upd h1.1 (Int32.toNatClampNeg x0) ((Int32.toInt16 x1).toInt32))) else (upd h1.1 (Int32.toNatClampNeg x0) ((Int32.toInt8 x1).toInt32)), h1.2) h2 h3 fi R) none (hCm b d k s w ik ex pr wd sn qu tb ts (r0, rq) h0 (f_55_57_h1 x0 x1 h1) h2 h3 fi R) by
    refine hX_if (gCmp .ne h1.2.1 8) (fun c1 => ?_) (fun c1 => ?_)
    · skip
      refine hX_goM 4 (bif gCmp .ne h1.2.1 16 then 40 else 29) [some (.ref 57), some (.int x0), some (.int x1)] [] rfl ?_
      refine hX_if (gCmp .ne h1.2.1 16) (fun c2 => ?_) (fun c2 => ?_)
      · skip
        refine hX_goM 4 (46) [some (.ref 57), some (.int x0), some (.int x1)] [.int x1, .int x0, .ref 58] rfl ?_
        refine hX_g (gIn x0 40) 47 [some (.ref 57), some (.int x0), some (.int x1)] [] (hCm b d k s w ik ex pr wd sn qu tb ts (r0, rq) h0 (upd h1.1 (Int32.toNatClampNeg x0) x1, h1.2) h2 h3 fi R) rfl (o1 c1 c2) ?_
        have hk := hk
        simp only [c1, c2, cond_true, cond_false] at hk
        first | exact hk | (simp only [c1, c2, cond_true, cond_false]; exact hk)
      · skip
        refine hX_goM 5 (36) [some (.ref 57), some (.int x0), some (.int x1)] [.int ((Int32.toInt16 x1).toInt32), .int x0, .ref 58] rfl ?_
        refine hX_g (gIn x0 40) 37 [some (.ref 57), some (.int x0), some (.int x1)] [] (hCm b d k s w ik ex pr wd sn qu tb ts (r0, rq) h0 (upd h1.1 (Int32.toNatClampNeg x0) ((Int32.toInt16 x1).toInt32), h1.2) h2 h3 fi R) rfl (o2 c1 c2) ?_
        refine hX_goM 1 (47) [some (.ref 57), some (.int x0), some (.int x1)] [] rfl ?_
        have hk := hk
        simp only [c1, c2, cond_true, cond_false] at hk
        first | exact hk | (simp only [c1, c2, cond_true, cond_false]; exact hk)
    · skip
      refine hX_goM 5 (16) [some (.ref 57), some (.int x0), some (.int x1)] [.int ((Int32.toInt8 x1).toInt32), .int x0, .ref 58] rfl ?_
      refine hX_g (gIn x0 40) 17 [some (.ref 57), some (.int x0), some (.int x1)] [] (hCm b d k s w ik ex pr wd sn qu tb ts (r0, rq) h0 (upd h1.1 (Int32.toNatClampNeg x0) ((Int32.toInt8 x1).toInt32), h1.2) h2 h3 fi R) rfl (o3 c1) ?_
      refine hX_goM 1 (47) [some (.ref 57), some (.int x0), some (.int x1)] [] rfl ?_
      have hk := hk
      simp only [c1, cond_true, cond_false] at hk
      first | exact hk | (simp only [c1, cond_true, cond_false]; exact hk)
  exact hX_end rfl (rfl) (rfl)

/-- UpOneSide$Sheet.put(II)V -/
def f_55_59_h2 (x0 : Int32) (x1 : Int32) (h2 : hSt) : hSt := (bif gCmp .ne h2.2.1 8 then (bif gCmp .ne h2.2.1 16 then (upd h2.1 (Int32.toNatClampNeg x0) x1) else (upd h2.1 (Int32.toNatClampNeg x0) ((Int32.toInt16 x1).toInt32))) else (upd h2.1 (Int32.toNatClampNeg x0) ((Int32.toInt8 x1).toInt32)), h2.2)
set_option maxRecDepth 20000 in
set_option maxHeartbeats 1000000 in
theorem ct_55_59 {LL : Nat} {xs : Nat → Int32} {D : Nat} {b d k s w : hB} {ik ex pr wd : Int32} {sn : Nat → Int64} {qu tb : Nat → Int32} {ts : Int32} {r0 : Value} {rq : hRq} {h0 h1 h2 h3 : hSt} {fi : Nat → Int32} {R : List gE} (x0 : Int32) (x1 : Int32) (o1 : gCmp .ne h2.2.1 8 = true → gCmp .ne h2.2.1 16 = true → gIn x0 40 = true) (o2 : gCmp .ne h2.2.1 8 = true → gCmp .ne h2.2.1 16 = false → gIn x0 40 = true) (o3 : gCmp .ne h2.2.1 8 = false → gIn x0 40 = true) : hM (gO LL xs) (D + 0) zR_55 [.ref 59, .int x0, .int x1] (hCm b d k s w ik ex pr wd sn qu tb ts (r0, rq) h0 h1 h2 h3 fi R) none (hCm b d k s w ik ex pr wd sn qu tb ts (r0, rq) h0 h1 (f_55_59_h2 x0 x1 h2) h3 fi R) := by
  refine hX_go 0 0 [some (.ref 59), some (.int x0), some (.int x1)] [] (hCm b d k s w ik ex pr wd sn qu tb ts (r0, rq) h0 h1 h2 h3 fi R) rfl ?_
  refine hX_go 4 (bif gCmp .ne h2.2.1 8 then 20 else 9) [some (.ref 59), some (.int x0), some (.int x1)] [] (hCm b d k s w ik ex pr wd sn qu tb ts (r0, rq) h0 h1 h2 h3 fi R) rfl ?_
  suffices hk : hX (gO LL xs) (D + 0) zR_55 47 [some (.ref 59), some (.int x0), some (.int x1)] [] (hCm b d k s w ik ex pr wd sn qu tb ts (r0, rq) h0 h1 (bif gCmp .ne h2.2.1 8 then (bif gCmp .ne h2.2.1 16 then (upd h2.1 (Int32.toNatClampNeg x0) x1) else (upd h2.1 (Int32.toNatClampNeg x0) ((Int32.toInt16 x1).toInt32))) else (upd h2.1 (Int32.toNatClampNeg x0) ((Int32.toInt8 x1).toInt32)), h2.2) h3 fi R) none (hCm b d k s w ik ex pr wd sn qu tb ts (r0, rq) h0 h1 (f_55_59_h2 x0 x1 h2) h3 fi R) by
    refine hX_if (gCmp .ne h2.2.1 8) (fun c1 => ?_) (fun c1 => ?_)
    · skip
      refine hX_goM 4 (bif gCmp .ne h2.2.1 16 then 40 else 29) [some (.ref 59), some (.int x0), some (.int x1)] [] rfl ?_
      refine hX_if (gCmp .ne h2.2.1 16) (fun c2 => ?_) (fun c2 => ?_)
      · skip
        refine hX_goM 4 (46) [some (.ref 59), some (.int x0), some (.int x1)] [.int x1, .int x0, .ref 60] rfl ?_
        refine hX_g (gIn x0 40) 47 [some (.ref 59), some (.int x0), some (.int x1)] [] (hCm b d k s w ik ex pr wd sn qu tb ts (r0, rq) h0 h1 (upd h2.1 (Int32.toNatClampNeg x0) x1, h2.2) h3 fi R) rfl (o1 c1 c2) ?_
        have hk := hk
        simp only [c1, c2, cond_true, cond_false] at hk
        first | exact hk | (simp only [c1, c2, cond_true, cond_false]; exact hk)
      · skip
        refine hX_goM 5 (36) [some (.ref 59), some (.int x0), some (.int x1)] [.int ((Int32.toInt16 x1).toInt32), .int x0, .ref 60] rfl ?_
        refine hX_g (gIn x0 40) 37 [some (.ref 59), some (.int x0), some (.int x1)] [] (hCm b d k s w ik ex pr wd sn qu tb ts (r0, rq) h0 h1 (upd h2.1 (Int32.toNatClampNeg x0) ((Int32.toInt16 x1).toInt32), h2.2) h3 fi R) rfl (o2 c1 c2) ?_
        refine hX_goM 1 (47) [some (.ref 59), some (.int x0), some (.int x1)] [] rfl ?_
        have hk := hk
        simp only [c1, c2, cond_true, cond_false] at hk
        first | exact hk | (simp only [c1, c2, cond_true, cond_false]; exact hk)
    · skip
      refine hX_goM 5 (16) [some (.ref 59), some (.int x0), some (.int x1)] [.int ((Int32.toInt8 x1).toInt32), .int x0, .ref 60] rfl ?_
      refine hX_g (gIn x0 40) 17 [some (.ref 59), some (.int x0), some (.int x1)] [] (hCm b d k s w ik ex pr wd sn qu tb ts (r0, rq) h0 h1 (upd h2.1 (Int32.toNatClampNeg x0) ((Int32.toInt8 x1).toInt32), h2.2) h3 fi R) rfl (o3 c1) ?_
      refine hX_goM 1 (47) [some (.ref 59), some (.int x0), some (.int x1)] [] rfl ?_
      have hk := hk
      simp only [c1, cond_true, cond_false] at hk
      first | exact hk | (simp only [c1, cond_true, cond_false]; exact hk)
  exact hX_end rfl (rfl) (rfl)

/-- UpOneSide$Sheet.put(II)V -/
def f_55_61_h3 (x0 : Int32) (x1 : Int32) (h3 : hSt) : hSt := (bif gCmp .ne h3.2.1 8 then (bif gCmp .ne h3.2.1 16 then (upd h3.1 (Int32.toNatClampNeg x0) x1) else (upd h3.1 (Int32.toNatClampNeg x0) ((Int32.toInt16 x1).toInt32))) else (upd h3.1 (Int32.toNatClampNeg x0) ((Int32.toInt8 x1).toInt32)), h3.2)
set_option maxRecDepth 20000 in
set_option maxHeartbeats 1000000 in
theorem ct_55_61 {LL : Nat} {xs : Nat → Int32} {D : Nat} {b d k s w : hB} {ik ex pr wd : Int32} {sn : Nat → Int64} {qu tb : Nat → Int32} {ts : Int32} {r0 : Value} {rq : hRq} {h0 h1 h2 h3 : hSt} {fi : Nat → Int32} {R : List gE} (x0 : Int32) (x1 : Int32) (o1 : gCmp .ne h3.2.1 8 = true → gCmp .ne h3.2.1 16 = true → gIn x0 40 = true) (o2 : gCmp .ne h3.2.1 8 = true → gCmp .ne h3.2.1 16 = false → gIn x0 40 = true) (o3 : gCmp .ne h3.2.1 8 = false → gIn x0 40 = true) : hM (gO LL xs) (D + 0) zR_55 [.ref 61, .int x0, .int x1] (hCm b d k s w ik ex pr wd sn qu tb ts (r0, rq) h0 h1 h2 h3 fi R) none (hCm b d k s w ik ex pr wd sn qu tb ts (r0, rq) h0 h1 h2 (f_55_61_h3 x0 x1 h3) fi R) := by
  refine hX_go 0 0 [some (.ref 61), some (.int x0), some (.int x1)] [] (hCm b d k s w ik ex pr wd sn qu tb ts (r0, rq) h0 h1 h2 h3 fi R) rfl ?_
  refine hX_go 4 (bif gCmp .ne h3.2.1 8 then 20 else 9) [some (.ref 61), some (.int x0), some (.int x1)] [] (hCm b d k s w ik ex pr wd sn qu tb ts (r0, rq) h0 h1 h2 h3 fi R) rfl ?_
  suffices hk : hX (gO LL xs) (D + 0) zR_55 47 [some (.ref 61), some (.int x0), some (.int x1)] [] (hCm b d k s w ik ex pr wd sn qu tb ts (r0, rq) h0 h1 h2 (bif gCmp .ne h3.2.1 8 then (bif gCmp .ne h3.2.1 16 then (upd h3.1 (Int32.toNatClampNeg x0) x1) else (upd h3.1 (Int32.toNatClampNeg x0) ((Int32.toInt16 x1).toInt32))) else (upd h3.1 (Int32.toNatClampNeg x0) ((Int32.toInt8 x1).toInt32)), h3.2) fi R) none (hCm b d k s w ik ex pr wd sn qu tb ts (r0, rq) h0 h1 h2 (f_55_61_h3 x0 x1 h3) fi R) by
    refine hX_if (gCmp .ne h3.2.1 8) (fun c1 => ?_) (fun c1 => ?_)
    · skip
      refine hX_goM 4 (bif gCmp .ne h3.2.1 16 then 40 else 29) [some (.ref 61), some (.int x0), some (.int x1)] [] rfl ?_
      refine hX_if (gCmp .ne h3.2.1 16) (fun c2 => ?_) (fun c2 => ?_)
      · skip
        refine hX_goM 4 (46) [some (.ref 61), some (.int x0), some (.int x1)] [.int x1, .int x0, .ref 62] rfl ?_
        refine hX_g (gIn x0 40) 47 [some (.ref 61), some (.int x0), some (.int x1)] [] (hCm b d k s w ik ex pr wd sn qu tb ts (r0, rq) h0 h1 h2 (upd h3.1 (Int32.toNatClampNeg x0) x1, h3.2) fi R) rfl (o1 c1 c2) ?_
        have hk := hk
        simp only [c1, c2, cond_true, cond_false] at hk
        first | exact hk | (simp only [c1, c2, cond_true, cond_false]; exact hk)
      · skip
        refine hX_goM 5 (36) [some (.ref 61), some (.int x0), some (.int x1)] [.int ((Int32.toInt16 x1).toInt32), .int x0, .ref 62] rfl ?_
        refine hX_g (gIn x0 40) 37 [some (.ref 61), some (.int x0), some (.int x1)] [] (hCm b d k s w ik ex pr wd sn qu tb ts (r0, rq) h0 h1 h2 (upd h3.1 (Int32.toNatClampNeg x0) ((Int32.toInt16 x1).toInt32), h3.2) fi R) rfl (o2 c1 c2) ?_
        refine hX_goM 1 (47) [some (.ref 61), some (.int x0), some (.int x1)] [] rfl ?_
        have hk := hk
        simp only [c1, c2, cond_true, cond_false] at hk
        first | exact hk | (simp only [c1, c2, cond_true, cond_false]; exact hk)
    · skip
      refine hX_goM 5 (16) [some (.ref 61), some (.int x0), some (.int x1)] [.int ((Int32.toInt8 x1).toInt32), .int x0, .ref 62] rfl ?_
      refine hX_g (gIn x0 40) 17 [some (.ref 61), some (.int x0), some (.int x1)] [] (hCm b d k s w ik ex pr wd sn qu tb ts (r0, rq) h0 h1 h2 (upd h3.1 (Int32.toNatClampNeg x0) ((Int32.toInt8 x1).toInt32), h3.2) fi R) rfl (o3 c1) ?_
      refine hX_goM 1 (47) [some (.ref 61), some (.int x0), some (.int x1)] [] rfl ?_
      have hk := hk
      simp only [c1, cond_true, cond_false] at hk
      first | exact hk | (simp only [c1, cond_true, cond_false]; exact hk)
  exact hX_end rfl (rfl) (rfl)
