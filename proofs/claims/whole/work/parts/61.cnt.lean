/-! RUNS THAT MAKE CELLS -/
def hY (O : Nat → Option gE) (d : Nat) (r : gR) (pc : Nat) (L : gL) (st : List Value) (M : List gE) (v : Option Value) (M' : List gE) (x y : Nat) : Prop :=
  ∃ n, gEv O gFt gCn gDf gTb0 n d r pc L st M = some (v, M', x, y)
theorem hY_X {O : Nat → Option gE} {d : Nat} {r : gR} {pc : Nat} {L : gL} {st : List Value} {M M' : List gE} {v : Option Value} (h : hX O d r pc L st M v M') : hY O d r pc L st M v M' 0 0 := h
theorem hY_1 {O : Nat → Option gE} {d : Nat} {r : gR} {s s' : gS} {v : Option Value} {M' : List gE} {x y : Nat} (h : hS O d r s = some s') (k : hY O d r s'.1 s'.2.1 s'.2.2.1 s'.2.2.2 v M' x y) : hY O d r s.1 s.2.1 s.2.2.1 s.2.2.2 v M' x y := by
  obtain ⟨n, hn⟩ := k
  refine ⟨n + 1, ?_⟩
  unfold hS at h
  rw [gEv]
  cases hf : gFe r s.1 with
  | none => rw [hf] at h; cases h
  | some ei =>
    rw [hf] at h
    dsimp only at h ⊢
    rw [h]
    exact hn
theorem hY_N {O : Nat → Option gE} {d : Nat} {r : gR} {v : Option Value} {M' : List gE} {x y : Nat} : ∀ (n : Nat) (s s' : gS), hN O d r n s = some s' → hY O d r s'.1 s'.2.1 s'.2.2.1 s'.2.2.2 v M' x y → hY O d r s.1 s.2.1 s.2.2.1 s.2.2.2 v M' x y := by
  intro n
  induction n with
  | zero => intro s s' h k; cases h; exact k
  | succ n ih =>
    intro s s' h k
    unfold hN at h
    cases h1 : hS O d r s with
    | none => rw [h1] at h; cases h
    | some s1 =>
      rw [h1] at h
      exact hY_1 h1 (ih s1 s' h k)
theorem hY_go {O : Nat → Option gE} {d : Nat} {r : gR} {v : Option Value} {M' : List gE} {x y : Nat} {pc : Nat} {L : gL} {st : List Value} {M : List gE} (n pc' : Nat) (L' : gL) (st' : List Value) (M1 : List gE) (h : hN O d r n (pc, L, st, M) = some (pc', L', st', M1)) (k : hY O d r pc' L' st' M1 v M' x y) : hY O d r pc L st M v M' x y :=
  hY_N n (pc, L, st, M) (pc', L', st', M1) h k
theorem gRet_new {cn : Nat → String} {df : Nat → List Value} {e : gI} {ret : Option FieldType} {st : List Value} {M : List gE} {q : gE × List Value × Nat} (h : gNew cn df e st M = some q) : gRet e ret st = none := by
  obtain ⟨g1, g2⟩ := gcond h
  obtain ⟨ins, z⟩ := e
  cases ins <;> first | rfl | (cases g2; done)
def hNw (r : gR) (pc : Nat) (st : List Value) (M : List gE) : Option (Nat × gE × List Value × Nat) := match gFe r pc with
  | some e => (match gNew gCn gDf e st M with
    | some q => some (pc + e.2.1, q)
    | none => none)
  | none => none
theorem hY_new {O : Nat → Option gE} {d : Nat} {r : gR} {pc : Nat} {L : gL} {st : List Value} {M M' : List gE} {v : Option Value} {x y : Nat} (pc' : Nat) (c : gE) (st' : List Value) (k p : Nat) (h : hNw r pc st M = some (pc', c, st', k)) (hp : M.length = p) (g : hY O d r pc' L (.ref p :: st') (M ++ [c]) v M' x y) : hY O d r pc L st M v M' (x + 1) (y + k) := by
  subst hp
  obtain ⟨n, hn⟩ := g
  refine ⟨n + 1, ?_⟩
  unfold hNw at h
  rw [gEv]
  cases hf : gFe r pc with
  | none => rw [hf] at h; cases h
  | some ei =>
    rw [hf] at h
    dsimp only at h ⊢
    cases hq : gNew gCn gDf ei st M with
    | none => rw [hq] at h; cases h
    | some q =>
      rw [hq] at h
      cases h
      rw [gNew_no hq]
      dsimp only
      rw [gRet_new hq]
      dsimp only
      rw [hn]
theorem hY_end {O : Nat → Option gE} {d : Nat} {r : gR} {pc : Nat} {L : gL} {st : List Value} {M M' : List gE} {v : Option Value} (h : hRet r pc st = some v) (hM : M = M') : hY O d r pc L st M v M' 0 0 := hX_end h rfl hM
theorem hY_call {O : Nat → Option gE} {d : Nat} {r r' : gR} {pc : Nat} {L : gL} {st vals rest : List Value} {M M1 M' : List gE} {v1 v : Option Value} {x1 y1 x y : Nat} (h : hCal O r pc st M = some (r', vals, rest)) (h1 : hY O d r' 0 (gIni r'.1.2.2.1 vals) [] M v1 M1 x1 y1) (h2 : hY O (d + 1) r (pc + 3) L (v1.toList ++ rest) M1 v M' x y) : hY O (d + 1) r pc L st M v M' (x1 + x) (y1 + y) := by
  obtain ⟨n1, hn1⟩ := h1
  obtain ⟨n2, hn2⟩ := h2
  refine ⟨n1 + n2 + 1, ?_⟩
  unfold hCal at h
  rw [gEv]
  cases hf : gFe r pc with
  | none => rw [hf] at h; cases h
  | some ei =>
    rw [hf] at h
    dsimp only at h ⊢
    have hic : gIsCal ei = true := by
      unfold gCal at h
      exact (gcond h).1
    obtain ⟨e1, e2, e3⟩ := gCal_no (O := O) (fty := gFt) (cn := gCn) (df := gDf) (d := d + 1) (ret := r.1.2.2.2) (pc := pc) (L := L) (st := st) (M := M) hic
    rw [e1]
    dsimp only
    rw [e2]
    dsimp only
    rw [e3]
    dsimp only
    rw [h]
    dsimp only
    rw [hEv_le hn1 (by omega)]
    dsimp only
    rw [hEv_le hn2 (by omega)]
