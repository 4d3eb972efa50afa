/-! THE PURE SIDE: runs of methods, over some fuel -/
theorem hEv_up {O : Nat → Option gE} {fty : Nat → Nat → FieldType} {cn : Nat → String} {df : Nat → List Value} {tb : Nat → Option gR} : ∀ (n d : Nat) (r : gR) (pc : Nat) (L : gL) (st : List Value) (M : List gE) (res : Option Value × List gE × Nat × Nat),
    gEv O fty cn df tb n d r pc L st M = some res → gEv O fty cn df tb (n + 1) d r pc L st M = some res := by
  intro n
  induction n with
  | zero => intro d r pc L st M res h; cases h
  | succ n ih =>
    intro d r pc L st M res h
    rw [gEv] at h ⊢
    cases hf : gFe r pc with
    | none => rw [hf] at h; cases h
    | some ei =>
      rw [hf] at h
      dsimp only at h ⊢
      cases hst : gStep O fty cn d ei pc L st M with
      | some S' =>
        rw [hst] at h
        exact ih _ _ _ _ _ _ _ h
      | none =>
        rw [hst] at h
        dsimp only at h ⊢
        cases hrt : gRet ei r.1.2.2.2 st with
        | some v1 =>
          rw [hrt] at h
          exact h
        | none =>
          rw [hrt] at h
          dsimp only at h ⊢
          cases hnw : gNew cn df ei st M with
          | some q =>
            obtain ⟨ce, st', kn⟩ := q
            rw [hnw] at h
            dsimp only at h ⊢
            cases hg : gEv O fty cn df tb n d r (pc + ei.2.1) L (.ref M.length :: st') (M ++ [ce]) with
            | none => rw [hg] at h; cases h
            | some q2 =>
              rw [hg] at h
              rw [ih _ _ _ _ _ _ _ hg]
              exact h
          | none =>
            rw [hnw] at h
            dsimp only at h ⊢
            cases hcl : gCal O tb ei st M with
            | none => rw [hcl] at h; cases h
            | some q =>
              obtain ⟨r', vals, rest⟩ := q
              rw [hcl] at h
              dsimp only at h ⊢
              cases d with
              | zero => cases h
              | succ d' =>
                dsimp only at h ⊢
                cases hg1 : gEv O fty cn df tb n d' r' 0 (gIni r'.1.2.2.1 vals) [] M with
                | none => rw [hg1] at h; cases h
                | some q1 =>
                  obtain ⟨v1, M1, x1, y1⟩ := q1
                  rw [hg1] at h
                  rw [ih _ _ _ _ _ _ _ hg1]
                  dsimp only at h ⊢
                  cases hg2 : gEv O fty cn df tb n (d' + 1) r (pc + 3) L (v1.toList ++ rest) M1 with
                  | none => rw [hg2] at h; cases h
                  | some q2 =>
                    rw [hg2] at h
                    rw [ih _ _ _ _ _ _ _ hg2]
                    exact h
theorem hEv_le {O : Nat → Option gE} {fty : Nat → Nat → FieldType} {cn : Nat → String} {df : Nat → List Value} {tb : Nat → Option gR} {n k d : Nat} {r : gR} {pc : Nat} {L : gL} {st : List Value} {M : List gE} {res : Option Value × List gE × Nat × Nat}
    (h : gEv O fty cn df tb n d r pc L st M = some res) (hk : n ≤ k) : gEv O fty cn df tb k d r pc L st M = some res := by
  induction hk with
  | refl => exact h
  | step _ ih => exact hEv_up _ _ _ _ _ _ _ _ ih
/-- from a place of a method, with those locals, that stack, that memory: it ends, answers v, leaves the memory M', makes nothing -/
def hX (O : Nat → Option gE) (d : Nat) (r : gR) (pc : Nat) (L : gL) (st : List Value) (M : List gE) (v : Option Value) (M' : List gE) : Prop :=
  ∃ n, gEv O gFt gCn gDf gTb0 n d r pc L st M = some (v, M', 0, 0)
/-- a method's contract -/
def hM (O : Nat → Option gE) (d : Nat) (r : gR) (vals : List Value) (M : List gE) (v : Option Value) (M' : List gE) : Prop := hX O d r 0 (gIni r.1.2.2.1 vals) [] M v M'
def hS (O : Nat → Option gE) (d : Nat) (r : gR) (s : gS) : Option gS := match gFe r s.1 with
  | some e => gStep O gFt gCn d e s.1 s.2.1 s.2.2.1 s.2.2.2
  | none => none
def hN (O : Nat → Option gE) (d : Nat) (r : gR) : Nat → gS → Option gS
  | 0, s => some s
  | n + 1, s => match hS O d r s with
    | some s' => hN O d r n s'
    | none => none
theorem hX_1 {O : Nat → Option gE} {d : Nat} {r : gR} {s s' : gS} {v : Option Value} {M' : List gE} (h : hS O d r s = some s') (k : hX O d r s'.1 s'.2.1 s'.2.2.1 s'.2.2.2 v M') : hX O d r s.1 s.2.1 s.2.2.1 s.2.2.2 v M' := by
  obtain ⟨n, hn⟩ := k
  refine ⟨n + 1, ?_⟩
  unfold hS at h
  rw [gEv]
  cases hf : gFe r s.1 with
  | none => rw [hf] at h; cases h
  | some ei =>
    rw [hf] at h
    dsimp only at h ⊢
    rw [h]
    exact hn
theorem hX_N {O : Nat → Option gE} {d : Nat} {r : gR} {v : Option Value} {M' : List gE} : ∀ (n : Nat) (s s' : gS), hN O d r n s = some s' → hX O d r s'.1 s'.2.1 s'.2.2.1 s'.2.2.2 v M' → hX O d r s.1 s.2.1 s.2.2.1 s.2.2.2 v M' := by
  intro n
  induction n with
  | zero => intro s s' h k; cases h; exact k
  | succ n ih =>
    intro s s' h k
    unfold hN at h
    cases h1 : hS O d r s with
    | none => rw [h1] at h; cases h
    | some s1 =>
      rw [h1] at h
      exact hX_1 h1 (ih s1 s' h k)
/-- n steps at once -/
theorem hX_go {O : Nat → Option gE} {d : Nat} {r : gR} {v : Option Value} {M' : List gE} {pc : Nat} {L : gL} {st : List Value} {M : List gE} (n pc' : Nat) (L' : gL) (st' : List Value) (M1 : List gE) (h : hN O d r n (pc, L, st, M) = some (pc', L', st', M1)) (k : hX O d r pc' L' st' M1 v M') : hX O d r pc L st M v M' :=
  hX_N n (pc, L, st, M) (pc', L', st', M1) h k
def hRet (r : gR) (pc : Nat) (st : List Value) : Option (Option Value) := match gFe r pc with
  | some e => gRet e r.1.2.2.2 st
  | none => none
theorem gRet_step {O : Nat → Option gE} {fty : Nat → Nat → FieldType} {cn : Nat → String} {d : Nat} {e : gI} {ret : Option FieldType} {pc : Nat} {L : gL} {st : List Value} {M : List gE} {v : Option Value} (h : gRet e ret st = some v) : gStep O fty cn d e pc L st M = none := by
  obtain ⟨ins, x⟩ := e
  cases ins <;> first | rfl | (exact absurd h (by simp [gRet]))
theorem hX_end {O : Nat → Option gE} {d : Nat} {r : gR} {pc : Nat} {L : gL} {st : List Value} {M M' : List gE} {v v0 : Option Value} (h : hRet r pc st = some v0) (hv : v0 = v) (hM : M = M') : hX O d r pc L st M v M' := by
  subst hv; subst hM
  refine ⟨1, ?_⟩
  unfold hRet at h
  rw [gEv]
  cases hf : gFe r pc with
  | none => rw [hf] at h; cases h
  | some ei =>
    rw [hf] at h
    dsimp only at h ⊢
    rw [gRet_step h]
    dsimp only
    rw [h]
def hCal (O : Nat → Option gE) (r : gR) (pc : Nat) (st : List Value) (M : List gE) : Option (gR × List Value × List Value) := match gFe r pc with
  | some e => gCal O gTb0 e st M
  | none => none
theorem gCal_no {O : Nat → Option gE} {fty : Nat → Nat → FieldType} {cn : Nat → String} {df : Nat → List Value} {d : Nat} {e : gI} {ret : Option FieldType} {pc : Nat} {L : gL} {st : List Value} {M : List gE} (h : gIsCal e = true) : gStep O fty cn d e pc L st M = none ∧ gRet e ret st = none ∧ gNew cn df e st M = none := by
  obtain ⟨ins, len, a, b, x⟩ := e
  cases ins with
  | invokestatic i =>
    have hb : b = 0 := gb h
    subst hb
    refine ⟨rfl, rfl, ?_⟩
    unfold gNew
    cases Nat.blt M.length 1000 <;> rfl
  | invokevirtual i =>
    refine ⟨rfl, rfl, ?_⟩
    unfold gNew
    cases Nat.blt M.length 1000 <;> rfl
  | invokespecial i =>
    have hb : (Nat.beq b 1 || Nat.beq b 2) = true := h
    have hb0 : Nat.beq b 0 = false := by
      rcases Bool.or_eq_true _ _ ▸ hb with h | h <;> rw [gb h] <;> rfl
    refine ⟨?_, rfl, ?_⟩
    · show (bif Nat.beq b 0 then _ else none) = none
      rw [hb0]
      rfl
    · unfold gNew
      cases Nat.blt M.length 1000 <;> rfl
  | _ => exact absurd h (by simp [gIsCal])
theorem hX_call {O : Nat → Option gE} {d : Nat} {r r' : gR} {pc : Nat} {L : gL} {st vals rest : List Value} {M M1 M' : List gE} {v1 v : Option Value} (h : hCal O r pc st M = some (r', vals, rest)) (h1 : hM O d r' vals M v1 M1) (h2 : hX O (d + 1) r (pc + 3) L (v1.toList ++ rest) M1 v M') : hX O (d + 1) r pc L st M v M' := by
  obtain ⟨n1, hn1⟩ := h1
  obtain ⟨n2, hn2⟩ := h2
  refine ⟨n1 + n2 + 1, ?_⟩
  unfold hCal at h
  rw [gEv]
  cases hf : gFe r pc with
  | none => rw [hf] at h; cases h
  | some ei =>
    rw [hf] at h
    dsimp only at h ⊢
    have hic : gIsCal ei = true := by
      unfold gCal at h
      exact (gcond h).1
    obtain ⟨e1, e2, e3⟩ := gCal_no (O := O) (fty := gFt) (cn := gCn) (df := gDf) (d := d + 1) (ret := r.1.2.2.2) (pc := pc) (L := L) (st := st) (M := M) hic
    rw [e1]
    dsimp only
    rw [e2]
    dsimp only
    rw [e3]
    dsimp only
    rw [h]
    dsimp only
    rw [hEv_le hn1 (by omega)]
    dsimp only
    rw [hEv_le hn2 (by omega)]
/-- a branch -/
theorem hX_if {O : Nat → Option gE} {d : Nat} {r : gR} {a q : Nat} {L : gL} {st : List Value} {M M' : List gE} {v : Option Value} (b : Bool) (h1 : b = true → hX O d r a L st M v M') (h2 : b = false → hX O d r q L st M v M') : hX O d r (bif b then a else q) L st M v M' := by
  cases b
  · exact h2 rfl
  · exact h1 rfl
