abbrev hRq : Type := Int32 × Int32 × Int32 × Int32 × Int32 × Int32
theorem gImpT {a b : Bool} (h : (!a || b) = true) (ha : a = true) : b = true := by subst ha; exact h
theorem gImpF {a b : Bool} (h : (a || b) = true) (ha : a = false) : b = true := by subst ha; exact h
theorem hX_mrg {O : Nat → Option gE} {d : Nat} {r : gR} {v : Option Value} {M' : List gE} {pc : Nat} {L : gL} {st : List Value} {M : List gE} (J : Nat) (L1 : gL) (S1 : List Value) (M1 : List gE) (f : hX O d r J L1 S1 M1 v M' → hX O d r pc L st M v M') (k : hX O d r J L1 S1 M1 v M') : hX O d r pc L st M v M' := f k
theorem hX_bif {O : Nat → Option gE} {d : Nat} {r : gR} {v : Option Value} {M' : List gE} {pc : Nat} {L : gL} {st : List Value} {M : List gE} (b : Bool) (h1 : b = true → hX O d r pc L st M v M') (h2 : b = false → hX O d r pc L st M v M') : hX O d r pc L st M v M' := by
  cases b
  · exact h2 rfl
  · exact h1 rfl
theorem hX_ifT {O : Nat → Option gE} {d : Nat} {r : gR} {a q : Nat} {L : gL} {st : List Value} {M M' : List gE} {v : Option Value} (b : Bool) (hb : b = true) (h1 : hX O d r a L st M v M') : hX O d r (bif b then a else q) L st M v M' := by subst hb; exact h1
theorem hX_ifF {O : Nat → Option gE} {d : Nat} {r : gR} {a q : Nat} {L : gL} {st : List Value} {M M' : List gE} {v : Option Value} (b : Bool) (hb : b = false) (h1 : hX O d r q L st M v M') : hX O d r (bif b then a else q) L st M v M' := by subst hb; exact h1
theorem hX_endG {O : Nat → Option gE} {d : Nat} {r : gR} {pc : Nat} {L : gL} {M M' : List gE} {v : Option Value} {x : Int32} (g : Bool) (h : hRet r pc [.int x] = bif g then some (some (.int x)) else none) (hz : g = true) (hv : some (.int x) = v) (hM : M = M') : hX O d r pc L [.int x] M v M' := by
  rw [hz] at h
  exact hX_end h hv hM
theorem gLe_0 : gLe [] [] := trivial
theorem gLe_n {a b : gL} {y : Option Value} (h : gLe a b) : gLe (none :: a) (y :: b) := h
theorem gLe_s {a b : gL} {v : Value} (h : gLe a b) : gLe (some v :: a) (some v :: b) := ⟨rfl, h⟩
theorem hSh_at0 {x : Int32} (h : hEq x 0 = true) : x = 0 := of_decide_eq_true h
theorem hSh_at1 {x : Int32} (h : hEq x 1 = true) : x = 1 := of_decide_eq_true h
theorem hSh_at2 {x : Int32} (h : hEq x 2 = true) : x = 2 := of_decide_eq_true h
theorem hSh_at3 {x : Int32} (f0 : gCmp .lt x 0 = false) (f1 : gCmp .lt x 4 = true) (f2 : hEq x 0 = false) (f3 : hEq x 1 = false) (f4 : hEq x 2 = false) : x = 3 := by
  have g0 : ¬ x < 0 := of_decide_eq_false f0
  have g1 : x < 4 := of_decide_eq_true f1
  have g2 : ¬ x = 0 := of_decide_eq_false f2
  have g3 : ¬ x = 1 := of_decide_eq_false f3
  have g4 : ¬ x = 2 := of_decide_eq_false f4
  rw [Int32.lt_iff_toInt_lt] at g0 g1
  have n2 := hNe g2
  have n3 := hNe g3
  have n4 := hNe g4
  have e0 : (0 : Int32).toInt = 0 := rfl
  have e1 : (1 : Int32).toInt = 1 := rfl
  have e2 : (2 : Int32).toInt = 2 := rfl
  have e4 : (4 : Int32).toInt = 4 := rfl
  have e3 : (3 : Int32).toInt = 3 := rfl
  rw [e0] at g0 n2
  rw [e1] at n3
  rw [e2] at n4
  rw [e4] at g1
  exact Int32.toInt_inj.mp (by rw [e3]; omega)
def gYf (k : Nat) : Nat → Int32 := fun i => (gBy k).getD i 0
theorem hX_goM {O : Nat → Option gE} {d : Nat} {r : gR} {v : Option Value} {M' : List gE} {pc : Nat} {L : gL} {st : List Value} {M : List gE} (n pc' : Nat) (L' : gL) (st' : List Value) (h : hN O d r n (pc, L, st, M) = some (pc', L', st', M)) (k : hX O d r pc' L' st' M v M') : hX O d r pc L st M v M' := hX_go n pc' L' st' M h k
theorem hX_gM {O : Nat → Option gE} {d : Nat} {r : gR} {v : Option Value} {M' : List gE} {pc : Nat} {L : gL} {st : List Value} {M : List gE} (g : Bool) (pc' : Nat) (L' : gL) (st' : List Value) (h : hS O d r (pc, L, st, M) = bif g then some (pc', L', st', M) else none) (hg : g = true) (k : hX O d r pc' L' st' M v M') : hX O d r pc L st M v M' := hX_g g pc' L' st' M h hg k
theorem hX_gnM {O : Nat → Option gE} {d : Nat} {r : gR} {v : Option Value} {M' : List gE} {pc : Nat} {L : gL} {st : List Value} {M : List gE} (g : Bool) (pc' : Nat) (L' : gL) (st' : List Value) (h : hS O d r (pc, L, st, M) = bif g then none else some (pc', L', st', M)) (hg : g = false) (k : hX O d r pc' L' st' M v M') : hX O d r pc L st M v M' := hX_gn g pc' L' st' M h hg k
theorem gBindR {α β : Type} {o : Option α} {k : α → Option β} {r : β} {P : Prop} (f : ∀ q, o = some q → k q = some r → P) : o.bind k = some r → P := fun h => match o, f, h with
  | none, _, h => nomatch h
  | some q, f, h => f q rfl h
theorem gCondR {α : Type} {b : Bool} {y : Option α} {x : α} {P : Prop} (f : b = true → y = some x → P) : (bif b then y else none) = some x → P := fun h => f (gcond h).1 (gcond h).2
