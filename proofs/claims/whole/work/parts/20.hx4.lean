def gLoc : Instr → Bool
  | .iload_n _ => true
  | .iload _ => true
  | .lload_n _ => true
  | .lload _ => true
  | .aload_n _ => true
  | .aload _ => true
  | .istore_n _ => true
  | .istore _ => true
  | .lstore_n _ => true
  | .lstore _ => true
  | .astore_n _ => true
  | .astore _ => true
  | .iinc _ _ => true
  | _ => false
def gPut (L : gL) (s : gS) : gS := (s.1, L, s.2.2.1, s.2.2.2)
theorem gMapc {α β : Type} {f : α → β} {c : Bool} {a b : Option α} : Option.map f (bif c then a else b) = bif c then Option.map f a else Option.map f b := by cases c <;> rfl
set_option maxHeartbeats 4000000 in
theorem gStep_L {O : Nat → Option gE} {fty : Nat → Nat → FieldType} {cn : Nat → String} {d : Nat} {e : gI} {pc : Nat} {L : gL} {st : List Value} {M : List gE} (h : gLoc e.1 = false) : gStep O fty cn d e pc L st M = (gStep O fty cn d e pc [] st M).map (gPut L) := by
  obtain ⟨ins, len, a, b, w, z⟩ := e
  cases ins with
  | iaload =>
    rcases st with _ | ⟨v1, _ | ⟨v2, r⟩⟩
    · rfl
    · cases v1 <;> rfl
    · cases v1 with
      | int i => cases v2 with
        | ref p =>
          simp only [gStep]
          generalize gAt O M p = q
          rcases q with _ | ⟨ty, n, f⟩ | ⟨ci, fs⟩
          · rfl
          · cases ty <;> first | rfl | (rcases f with f | f | f | f | f <;> first | rfl | (dsimp only; rw [gMapc]; rfl) | (dsimp only; rw [gMapc]; congr 1; generalize f _ = q2; cases q2 <;> first | rfl | (dsimp only; rw [gMapc]; rfl)))
          · rfl
        | _ => rfl
      | _ => rfl
  | baload =>
    rcases st with _ | ⟨v1, _ | ⟨v2, r⟩⟩
    · rfl
    · cases v1 <;> rfl
    · cases v1 with
      | int i => cases v2 with
        | ref p =>
          simp only [gStep]
          generalize gAt O M p = q
          rcases q with _ | ⟨ty, n, f⟩ | ⟨ci, fs⟩
          · rfl
          · cases ty <;> first | rfl | (rcases f with f | f | f | f | f <;> first | rfl | (dsimp only; rw [gMapc]; rfl) | (dsimp only; rw [gMapc]; congr 1; generalize f _ = q2; cases q2 <;> first | rfl | (dsimp only; rw [gMapc]; rfl)))
          · rfl
        | _ => rfl
      | _ => rfl
  | caload =>
    rcases st with _ | ⟨v1, _ | ⟨v2, r⟩⟩
    · rfl
    · cases v1 <;> rfl
    · cases v1 with
      | int i => cases v2 with
        | ref p =>
          simp only [gStep]
          generalize gAt O M p = q
          rcases q with _ | ⟨ty, n, f⟩ | ⟨ci, fs⟩
          · rfl
          · cases ty <;> first | rfl | (rcases f with f | f | f | f | f <;> first | rfl | (dsimp only; rw [gMapc]; rfl) | (dsimp only; rw [gMapc]; congr 1; generalize f _ = q2; cases q2 <;> first | rfl | (dsimp only; rw [gMapc]; rfl)))
          · rfl
        | _ => rfl
      | _ => rfl
  | laload =>
    rcases st with _ | ⟨v1, _ | ⟨v2, r⟩⟩
    · rfl
    · cases v1 <;> rfl
    · cases v1 with
      | int i => cases v2 with
        | ref p =>
          simp only [gStep]
          generalize M[p]? = q
          rcases q with _ | ⟨ty, n, f⟩ | ⟨ci, fs⟩
          · rfl
          · cases ty <;> first | rfl | (rcases f with f | f | f | f | f <;> first | rfl | (dsimp only; rw [gMapc]; rfl) | (dsimp only; rw [gMapc]; congr 1; generalize f _ = q2; cases q2 <;> first | rfl | (dsimp only; rw [gMapc]; rfl)))
          · rfl
        | _ => rfl
      | _ => rfl
  | aaload =>
    rcases st with _ | ⟨v1, _ | ⟨v2, r⟩⟩
    · rfl
    · cases v1 <;> rfl
    · cases v1 with
      | int i => cases v2 with
        | ref p =>
          simp only [gStep]
          generalize M[p]? = q
          rcases q with _ | ⟨ty, n, f⟩ | ⟨ci, fs⟩
          · rfl
          · cases ty <;> first | rfl | (rcases f with f | f | f | f | f <;> first | rfl | (dsimp only; rw [gMapc]; rfl) | (dsimp only; rw [gMapc]; congr 1; generalize f _ = q2; cases q2 <;> first | rfl | (dsimp only; rw [gMapc]; rfl)))
          · rfl
        | _ => rfl
      | _ => rfl
  | iastore =>
    rcases st with _ | ⟨v0, _ | ⟨v1, _ | ⟨v2, r⟩⟩⟩
    · rfl
    · cases v0 <;> rfl
    · cases v0 <;> cases v1 <;> rfl
    · cases v0 with
      | int x => cases v1 with
        | int i => cases v2 with
          | ref p =>
            simp only [gStep]
            generalize M[p]? = q
            rcases q with _ | ⟨ty, n, f⟩ | ⟨ci, fs⟩
            · rfl
            · cases ty <;> first | rfl | (rcases f with f | f | f | f | f <;> first | rfl | (dsimp only; rw [gMapc]; rfl) | (dsimp only; rw [gMapc]; congr 1; generalize f _ = q2; cases q2 <;> first | rfl | (dsimp only; rw [gMapc]; rfl)))
            · rfl
          | _ => rfl
        | _ => rfl
      | _ => rfl
  | bastore =>
    rcases st with _ | ⟨v0, _ | ⟨v1, _ | ⟨v2, r⟩⟩⟩
    · rfl
    · cases v0 <;> rfl
    · cases v0 <;> cases v1 <;> rfl
    · cases v0 with
      | int x => cases v1 with
        | int i => cases v2 with
          | ref p =>
            simp only [gStep]
            generalize M[p]? = q
            rcases q with _ | ⟨ty, n, f⟩ | ⟨ci, fs⟩
            · rfl
            · cases ty <;> first | rfl | (rcases f with f | f | f | f | f <;> first | rfl | (dsimp only; rw [gMapc]; rfl) | (dsimp only; rw [gMapc]; congr 1; generalize f _ = q2; cases q2 <;> first | rfl | (dsimp only; rw [gMapc]; rfl)))
            · rfl
          | _ => rfl
        | _ => rfl
      | _ => rfl
  | castore =>
    rcases st with _ | ⟨v0, _ | ⟨v1, _ | ⟨v2, r⟩⟩⟩
    · rfl
    · cases v0 <;> rfl
    · cases v0 <;> cases v1 <;> rfl
    · cases v0 with
      | int x => cases v1 with
        | int i => cases v2 with
          | ref p =>
            simp only [gStep]
            generalize M[p]? = q
            rcases q with _ | ⟨ty, n, f⟩ | ⟨ci, fs⟩
            · rfl
            · cases ty <;> first | rfl | (rcases f with f | f | f | f | f <;> first | rfl | (dsimp only; rw [gMapc]; rfl) | (dsimp only; rw [gMapc]; congr 1; generalize f _ = q2; cases q2 <;> first | rfl | (dsimp only; rw [gMapc]; rfl)))
            · rfl
          | _ => rfl
        | _ => rfl
      | _ => rfl
  | lastore =>
    rcases st with _ | ⟨v0, _ | ⟨v1, _ | ⟨v2, r⟩⟩⟩
    · rfl
    · cases v0 <;> rfl
    · cases v0 <;> cases v1 <;> rfl
    · cases v0 with
      | long x => cases v1 with
        | int i => cases v2 with
          | ref p =>
            simp only [gStep]
            generalize M[p]? = q
            rcases q with _ | ⟨ty, n, f⟩ | ⟨ci, fs⟩
            · rfl
            · cases ty <;> first | rfl | (rcases f with f | f | f | f | f <;> first | rfl | (dsimp only; rw [gMapc]; rfl) | (dsimp only; rw [gMapc]; congr 1; generalize f _ = q2; cases q2 <;> first | rfl | (dsimp only; rw [gMapc]; rfl)))
            · rfl
          | _ => rfl
        | _ => rfl
      | _ => rfl
  | aastore =>
    rcases st with _ | ⟨v0, _ | ⟨v1, _ | ⟨v2, r⟩⟩⟩
    · rfl
    · cases v0 <;> rfl
    · cases v0 <;> cases v1 <;> rfl
    · cases v0 with
      | ref q0 => cases v1 with
        | int i => cases v2 with
          | ref p =>
            simp only [gStep]
            generalize M[p]? = q
            generalize M[q0]? = q1
            rcases q with _ | ⟨ty, n, f⟩ | ⟨ci, fs⟩
            · rfl
            · cases ty <;> first | rfl | (rcases f with f | f | f | f | f <;> first | rfl | (rcases q1 with _ | q1 | ⟨c1, f1⟩ <;> first | rfl | (dsimp only; rw [gMapc]; rfl)))
            · rfl
          | _ => rfl
        | _ => rfl
      | _ => rfl
  | arraylength =>
    rcases st with _ | ⟨v0, r⟩
    · rfl
    · cases v0 with
      | ref p =>
        simp only [gStep]
        generalize gAt O M p = q
        rcases q with _ | ⟨ty, n, f⟩ | ⟨ci, fs⟩ <;> rfl
      | _ => rfl
  | getfield k =>
    rcases st with _ | ⟨v0, r⟩
    · rfl
    · cases v0 with
      | ref p =>
        simp only [gStep]
        generalize gAt O M p = q
        rcases q with _ | q | ⟨ci, fs⟩
        · rfl
        · rfl
        · dsimp only
          rw [gMapc]
          congr 1
          generalize fs[b]? = q2
          cases q2 <;> rfl
      | _ => rfl
  | putfield k =>
    rcases st with _ | ⟨v0, _ | ⟨v1, r⟩⟩
    · rfl
    · rfl
    · cases v1 with
      | ref p =>
        simp only [gStep]
        rw [gMapc]
        congr 1
        generalize M[p]? = q
        rcases q with _ | q | ⟨ci, fs⟩
        · rfl
        · rfl
        · dsimp only
          rw [gMapc]
          rfl
      | _ => rfl
  | tableswitch d0 lo hi offs =>
    rcases st with _ | ⟨v0, r⟩
    · rfl
    · cases v0 with
      | int x =>
        simp only [gStep]
        generalize gSwT pc d0 lo hi offs x = q
        cases q <;> rfl
      | _ => rfl
  | invokespecial k =>
    simp only [gStep]
    rw [gMapc]
    congr 1
    rcases st with _ | ⟨v0, r⟩
    · rfl
    · cases v0 <;> first | rfl | (dsimp only; rw [gMapc]; rfl)
  | invokestatic k =>
    simp only [gStep]
    rw [gMapc]
    congr 1
    · rcases st with _ | ⟨v0, _ | ⟨v1, _ | ⟨v2, _ | ⟨v3, _ | ⟨v4, r⟩⟩⟩⟩⟩
      · rfl
      · cases v0 <;> rfl
      · cases v0 <;> cases v1 <;> rfl
      · cases v0 with
        | int n => cases v1 with
          | int dp => cases v2 <;> rfl
          | _ => rfl
        | _ => rfl
      · cases v0 with
        | int n => cases v1 with
          | int dp => cases v2 with
            | ref q => cases v3 <;> rfl
            | _ => rfl
          | _ => rfl
        | _ => rfl
      · cases v0 with
        | int n => cases v1 with
          | int dp => cases v2 with
            | ref q => cases v3 with
              | int sp => cases v4 with
                | ref p =>
                  dsimp only
                  generalize M[p]? = q0
                  generalize M[q]? = q1
                  rcases q0 with _ | ⟨ty, n0, f⟩ | ⟨ci, fs⟩
                  · rfl
                  · cases ty <;> first | rfl | (rcases f with f | f | f | f | f <;> first | rfl | (rcases q1 with _ | ⟨ty1, n1, f1⟩ | ⟨c1, f1⟩ <;> first | rfl | (cases ty1 <;> first | rfl | (rcases f1 with f1 | f1 | f1 | f1 | f1 <;> first | rfl | (dsimp only; rw [gMapc]; rfl)))))
                  · rfl
                | _ => rfl
              | _ => rfl
            | _ => rfl
          | _ => rfl
        | _ => rfl
    · unfold gMath
      split
      · rw [gMapc]; rfl
      · rw [gMapc]; rfl
      · rw [gMapc]; rfl
      · rw [gMapc]; rfl
      · rfl
  | idiv =>
    rcases st with _ | ⟨v0, _ | ⟨v1, r⟩⟩
    · rfl
    · cases v0 <;> rfl
    · cases v0 <;> cases v1 <;> first | rfl | (simp only [gStep]; rw [gMapc]; rfl)
  | irem =>
    rcases st with _ | ⟨v0, _ | ⟨v1, r⟩⟩
    · rfl
    · cases v0 <;> rfl
    · cases v0 <;> cases v1 <;> first | rfl | (simp only [gStep]; rw [gMapc]; rfl)
  | ldiv =>
    rcases st with _ | ⟨v0, _ | ⟨v1, r⟩⟩
    · rfl
    · cases v0 <;> rfl
    · cases v0 <;> cases v1 <;> first | rfl | (simp only [gStep]; rw [gMapc]; rfl)
  | lrem =>
    rcases st with _ | ⟨v0, _ | ⟨v1, r⟩⟩
    · rfl
    · cases v0 <;> rfl
    · cases v0 <;> cases v1 <;> first | rfl | (simp only [gStep]; rw [gMapc]; rfl)
  | dup =>
    rcases st with _ | ⟨v0, r⟩
    · rfl
    · simp only [gStep]; rw [gMapc]; rfl
  | pop =>
    rcases st with _ | ⟨v0, r⟩
    · rfl
    · simp only [gStep]; rw [gMapc]; rfl
  | dup2 =>
    rcases st with _ | ⟨v0, _ | ⟨v1, r⟩⟩
    · rfl
    · rfl
    · simp only [gStep]; rw [gMapc]; rfl
  | ifnull k =>
    rcases st with _ | ⟨v0, r⟩
    · rfl
    · cases v0 <;> first | rfl | (simp only [gStep]; rw [gMapc]; rfl)
  | ifnonnull k =>
    rcases st with _ | ⟨v0, r⟩
    · rfl
    · cases v0 <;> first | rfl | (simp only [gStep]; rw [gMapc]; rfl)
  | _ => first
    | rfl
    | (exact Bool.noConfusion (show true = false from h))
    | (rcases st with _ | ⟨x, _ | ⟨y, _ | ⟨z1, r⟩⟩⟩ <;> first | rfl | (cases x <;> first | rfl | (cases y <;> rfl)))
theorem gStep_wk {O : Nat → Option gE} {fty : Nat → Nat → FieldType} {cn : Nat → String} {d : Nat} {e : gI} {pc pc' : Nat} {L L2 L' : gL} {st st' : List Value} {M M' : List gE} (hle : gLe L L2) (h : gStep O fty cn d e pc L st M = some (pc', L', st', M')) : ∃ L3, gStep O fty cn d e pc L2 st M = some (pc', L3, st', M') ∧ gLe L' L3 := by
  cases hl : gLoc e.1 with
  | false =>
    rw [gStep_L hl] at h ⊢
    cases hq : gStep O fty cn d e pc [] st M with
    | none => rw [hq] at h; cases h
    | some s =>
      rw [hq] at h
      cases h
      exact ⟨L2, rfl, hle⟩
  | true =>
    obtain ⟨ins, len, a, b, w, z⟩ := e
    have hlen := gLe_len hle
    cases ins
    all_goals first
      | (exact Bool.noConfusion (show false = true from hl))
      | (simp only [gStep, gLdI, gLdL, gLdA] at h ⊢
         split at h <;> first
           | (cases h; done)
           | (rename_i x hx
              cases h
              rw [gLe_get hle hx]
              exact ⟨L2, rfl, hle⟩))
      | (simp only [gStep, gStI, gStL, gStA] at h ⊢
         split at h <;> first
           | (cases h; done)
           | (obtain ⟨g1, g2⟩ := gcond h
              cases g2
              rw [hlen] at g1
              rw [g1]
              exact ⟨_, rfl, gLe_sto hle⟩))
      | skip
    · simp only [gStep] at h ⊢
      split at h
      · rename_i x c hx
        obtain ⟨g1, g2⟩ := gcond h
        cases g2
        rw [hlen] at g1
        rw [gLe_get hle hx]
        dsimp only
        rw [g1]
        exact ⟨_, rfl, gLe_sto hle⟩
      · cases h
theorem gNew_no {O : Nat → Option gE} {fty : Nat → Nat → FieldType} {cn : Nat → String} {df : Nat → List Value} {d : Nat} {e : gI} {pc : Nat} {L : gL} {st : List Value} {M : List gE} {q : gE × List Value × Nat} (h : gNew cn df e st M = some q) : gStep O fty cn d e pc L st M = none := by
  obtain ⟨g1, g2⟩ := gcond h
  obtain ⟨ins, x⟩ := e
  cases ins <;> first | rfl | (cases g2; done)
theorem gEv_wk {O : Nat → Option gE} {fty : Nat → Nat → FieldType} {cn : Nat → String} {df : Nat → List Value} {tb : Nat → Option gR} : ∀ (n d : Nat) (r : gR) (pc : Nat) (L L2 : gL) (st : List Value) (M : List gE) (res : Option Value × List gE × Nat × Nat),
    gLe L L2 → gEv O fty cn df tb n d r pc L st M = some res → gEv O fty cn df tb n d r pc L2 st M = some res := by
  intro n
  induction n with
  | zero => intro d r pc L L2 st M res _ h; cases h
  | succ n ih =>
    intro d r pc L L2 st M res hle h
    rw [gEv] at h ⊢
    cases hf : gFe r pc with
    | none => rw [hf] at h; cases h
    | some ei =>
      rw [hf] at h
      dsimp only at h ⊢
      cases hst : gStep O fty cn d ei pc L st M with
      | some S' =>
        obtain ⟨pc', L', st', M'⟩ := S'
        rw [hst] at h
        obtain ⟨L3, e3, h3⟩ := gStep_wk hle hst
        rw [e3]
        exact ih _ _ _ _ _ _ _ _ h3 h
      | none =>
        rw [hst] at h
        dsimp only at h ⊢
        cases hrt : gRet ei r.1.2.2.2 st with
        | some v1 =>
          rw [hrt] at h
          rw [gRet_step hrt]
          exact h
        | none =>
          rw [hrt] at h
          dsimp only at h ⊢
          cases hnw : gNew cn df ei st M with
          | some q =>
            rw [gNew_no hnw]
            obtain ⟨ce, st', kn⟩ := q
            rw [hnw] at h
            dsimp only at h ⊢
            cases hg : gEv O fty cn df tb n d r (pc + ei.2.1) L (.ref M.length :: st') (M ++ [ce]) with
            | none => rw [hg] at h; cases h
            | some q2 =>
              rw [hg] at h
              rw [ih _ _ _ _ _ _ _ _ hle hg]
              exact h
          | none =>
            rw [hnw] at h
            dsimp only at h ⊢
            cases hcl : gCal O tb ei st M with
            | none => rw [hcl] at h; cases h
            | some q =>
              have hic : gIsCal ei = true := by
                unfold gCal at hcl
                exact (gcond hcl).1
              obtain ⟨e1, e2, e3⟩ := gCal_no (O := O) (fty := fty) (cn := cn) (df := df) (d := d) (ret := r.1.2.2.2) (pc := pc) (L := L2) (st := st) (M := M) hic
              rw [e1]
              dsimp only
              obtain ⟨r', vals, rest⟩ := q
              rw [hcl] at h
              dsimp only at h ⊢
              cases d with
              | zero => cases h
              | succ d' =>
                dsimp only at h ⊢
                cases hg1 : gEv O fty cn df tb n d' r' 0 (gIni r'.1.2.2.1 vals) [] M with
                | none => rw [hg1] at h; cases h
                | some q1 =>
                  obtain ⟨v1, M1, x1, y1⟩ := q1
                  rw [hg1] at h
                  dsimp only at h ⊢
                  cases hg2 : gEv O fty cn df tb n (d' + 1) r (pc + 3) L (v1.toList ++ rest) M1 with
                  | none => rw [hg2] at h; cases h
                  | some q2 =>
                    rw [hg2] at h
                    rw [ih _ _ _ _ _ _ _ _ hle hg2]
                    exact h
theorem hX_wk {O : Nat → Option gE} {d : Nat} {r : gR} {pc : Nat} {L L2 : gL} {st : List Value} {M : List gE} {v : Option Value} {M' : List gE} (hle : gLe L L2) (h : hX O d r pc L st M v M') : hX O d r pc L2 st M v M' := by
  obtain ⟨n, hn⟩ := h
  exact ⟨n, gEv_wk _ _ _ _ _ _ _ _ _ hle hn⟩
