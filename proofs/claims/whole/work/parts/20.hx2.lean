def hEq (x y : Int32) : Bool := decide (x = y)
theorem hNe {x c : Int32} (h : ¬ x = c) : ¬ x.toInt = c.toInt := fun h2 => h (Int32.toInt_inj.mp h2)
/-- a step under a guard -/
theorem hX_g {O : Nat → Option gE} {d : Nat} {r : gR} {v : Option Value} {M' : List gE} {pc : Nat} {L : gL} {st : List Value} {M : List gE} (g : Bool) (pc' : Nat) (L' : gL) (st' : List Value) (M1 : List gE) (h : hS O d r (pc, L, st, M) = bif g then some (pc', L', st', M1) else none) (hg : g = true) (k : hX O d r pc' L' st' M1 v M') : hX O d r pc L st M v M' := by
  rw [hg] at h
  exact hX_1 (s := (pc, L, st, M)) (s' := (pc', L', st', M1)) h k
theorem hX_gn {O : Nat → Option gE} {d : Nat} {r : gR} {v : Option Value} {M' : List gE} {pc : Nat} {L : gL} {st : List Value} {M : List gE} (g : Bool) (pc' : Nat) (L' : gL) (st' : List Value) (M1 : List gE) (h : hS O d r (pc, L, st, M) = bif g then none else some (pc', L', st', M1)) (hg : g = false) (k : hX O d r pc' L' st' M1 v M') : hX O d r pc L st M v M' := by
  rw [hg] at h
  exact hX_1 (s := (pc, L, st, M)) (s' := (pc', L', st', M1)) h k
theorem hX_sw {O : Nat → Option gE} {d : Nat} {r : gR} {v : Option Value} {M' : List gE} {pc : Nat} {L : gL} {st : List Value} {M : List gE} {df lo hi : Int} {offs : Array Int} {len a b w : Nat} {z : Value} {x : Int32} (pc' : Nat) (hf : gFe r pc = some (.tableswitch df lo hi offs, len, a, b, w, z)) (h : gSwT pc df lo hi offs x = some pc') (k : hX O d r pc' L st M v M') : hX O d r pc L (.int x :: st) M v M' := by
  refine hX_1 (s := (pc, L, .int x :: st, M)) (s' := (pc', L, st, M)) ?_ k
  unfold hS
  simp only [hf]
  show (match gSwT pc df lo hi offs x with
      | some t => some (t, L, st, M)
      | none => none) = _
  rw [h]
theorem hX_endZ {O : Nat → Option gE} {d : Nat} {r : gR} {pc : Nat} {L : gL} {M M' : List gE} {v : Option Value} {x : Int32} (h : hRet r pc [.int x] = bif (decide (x = 0) || decide (x = 1)) then some (some (.int x)) else none) (hz : (decide (x = 0) || decide (x = 1)) = true) (hv : some (.int x) = v) (hM : M = M') : hX O d r pc L [.int x] M v M' := by
  rw [hz] at h
  exact hX_end h hv hM
