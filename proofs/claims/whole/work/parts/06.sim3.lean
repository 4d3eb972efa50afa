/-! one instruction that neither calls, makes nor leaves -/
section G6
variable {p : Program} {l : Launch} {e : Env} {R : Room} {s : State} {m : MethodId} {args : Array Value} {below : List Frame} {meth : Method} {c : Code} {H : Heap} {locs : List Loc} {cells slots : Nat} {Q : State → Prop}
variable {pc : Nat} {ls : Array Slot}
def gGo (tt : gT) (G : gG) (p : Program) (l : Launch) (e : Env) (R : Room) (s : State) (m : MethodId) (args : Array Value) (below : List Frame) (meth : Method) (c : Code) (cells slots : Nat) (Q : State → Prop) (nL : Nat) (S' : gS) : Prop :=
  ∀ (H' : Heap) (ls' : Array Slot) (locs' : List Loc), lv_has ls' nL (gAL G 0 S'.2.1) → S'.2.1.length = nL → gP tt G s S'.2.2.2 H' → (∀ q ∈ locs', gNo G q.base) →
    W p l e R s m args below meth c H' locs' cells slots Q (F0 m S'.1 ls' (S'.2.2.1.map (gCv G)))
/-- where a method stands -/
def gCx0 (p : Program) (s : State) (m : MethodId) (args : Array Value) (meth : Method) (c : Code) (x : MethodName) (bytes : ByteArray) (nL : Nat) : Prop :=
  p.tables.exec = Jvm.exec ∧ c.code = bytes ∧ c.maxLocals = nL ∧ s.vm.findClass x.cls = some m.cls ∧ (∀ w ∈ gW, w.before args s = true) ∧ (x.name = "<init>" → meth.name = "<init>")
theorem gStI_ok {a pc' : Nat} {L : gL} {st : List Value} {M : List gE} {S' : gS} (h : gStI a pc' L st M = some S') : ∃ x r, st = .int x :: r ∧ a < L.length ∧ S' = (pc', gSto L a (.int x), r, M) := by
  unfold gStI at h
  split at h
  · rename_i x r
    obtain ⟨h1, h2⟩ := gcond h
    exact ⟨x, r, rfl, glt h1, (Option.some.inj h2).symm⟩
  · cases h
theorem gB2_ok {f : Int32 → Int32 → Int32} {pc' : Nat} {L : gL} {st : List Value} {M : List gE} {S' : gS} (h : gB2 f pc' L st M = some S') : ∃ x y r, st = .int y :: .int x :: r ∧ S' = (pc', L, .int (f x y) :: r, M) := by
  unfold gB2 at h
  split at h
  · rename_i y x r
    exact ⟨x, y, r, rfl, (Option.some.inj h).symm⟩
  · cases h
theorem gB2L_ok {f : Int64 → Int64 → Int64} {pc' : Nat} {L : gL} {st : List Value} {M : List gE} {S' : gS} (h : gB2L f pc' L st M = some S') : ∃ x y r, st = .long y :: .long x :: r ∧ S' = (pc', L, .long (f x y) :: r, M) := by
  unfold gB2L at h
  split at h
  · rename_i y x r
    exact ⟨x, y, r, rfl, (Option.some.inj h).symm⟩
  · cases h
theorem gLdI_ok {a pc' : Nat} {L : gL} {st : List Value} {M : List gE} {S' : gS} (h : gLdI a pc' L st M = some S') : ∃ x, L[a]? = some (some (.int x)) ∧ S' = (pc', L, .int x :: st, M) := by
  unfold gLdI at h
  split at h
  · rename_i x hx
    exact ⟨x, hx, (Option.some.inj h).symm⟩
  · cases h
theorem gLdL_ok {a pc' : Nat} {L : gL} {st : List Value} {M : List gE} {S' : gS} (h : gLdL a pc' L st M = some S') : ∃ x, L[a]? = some (some (.long x)) ∧ S' = (pc', L, .long x :: st, M) := by
  unfold gLdL at h
  split at h
  · rename_i x hx
    exact ⟨x, hx, (Option.some.inj h).symm⟩
  · cases h
theorem gLdA_ok {a pc' : Nat} {L : gL} {st : List Value} {M : List gE} {S' : gS} (h : gLdA a pc' L st M = some S') : ∃ v, ((∃ x, v = .ref x) ∨ v = .null) ∧ L[a]? = some (some v) ∧ S' = (pc', L, v :: st, M) := by
  unfold gLdA at h
  split at h
  · rename_i x hx
    exact ⟨.ref x, Or.inl ⟨x, rfl⟩, hx, (Option.some.inj h).symm⟩
  · rename_i hx
    exact ⟨.null, Or.inr rfl, hx, (Option.some.inj h).symm⟩
  · cases h
theorem gStL_ok {a pc' : Nat} {L : gL} {st : List Value} {M : List gE} {S' : gS} (h : gStL a pc' L st M = some S') : ∃ x r, st = .long x :: r ∧ a + 1 < L.length ∧ S' = (pc', gSto L a (.long x), r, M) := by
  unfold gStL at h
  split at h
  · rename_i x r
    obtain ⟨h1, h2⟩ := gcond h
    exact ⟨x, r, rfl, glt h1, (Option.some.inj h2).symm⟩
  · cases h
theorem gStA_ok {a pc' : Nat} {L : gL} {st : List Value} {M : List gE} {S' : gS} (h : gStA a pc' L st M = some S') : ∃ v r, ((∃ x, v = .ref x) ∨ v = .null) ∧ st = v :: r ∧ a < L.length ∧ S' = (pc', gSto L a v, r, M) := by
  unfold gStA at h
  split at h
  · rename_i x r
    obtain ⟨h1, h2⟩ := gcond h
    exact ⟨.ref x, r, Or.inl ⟨x, rfl⟩, rfl, glt h1, (Option.some.inj h2).symm⟩
  · rename_i r
    obtain ⟨h1, h2⟩ := gcond h
    exact ⟨.null, r, Or.inr rfl, rfl, glt h1, (Option.some.inj h2).symm⟩
  · cases h
theorem gCv_ref {G : gG} (hA : gA G) {v : Value} (h : (∃ x, v = .ref x) ∨ v = .null) : (∃ x, gCv G v = .ref x) ∨ gCv G v = .null := by
  rcases h with ⟨k, rfl⟩ | rfl
  · show (∃ x, (bif Nat.beq k 1900 then G.2.2.1 else .ref (G.2.1 k)) = .ref x) ∨ (bif Nat.beq k 1900 then G.2.2.1 else .ref (G.2.1 k)) = .null
    cases Nat.beq k 1900
    · exact Or.inl ⟨_, rfl⟩
    · rcases hA.2 with h | ⟨a, h⟩
      · exact Or.inr h
      · exact Or.inl ⟨a, h⟩
  · exact Or.inr rfl
theorem gCv_new {G : gG} (hA : gA G) {k : Nat} (h : k < 1000) : gCv G (.ref k) = .ref (G.2.2.2.1 + k) := by
  show (bif Nat.beq k 1900 then G.2.2.1 else .ref (G.2.1 k)) = _
  rw [show Nat.beq k 1900 = false from Bool.eq_false_iff.mpr (fun h9 => by have := gb h9; omega)]
  show Value.ref (G.2.1 k) = _
  rw [hA.1 k h]
theorem gCv_old {G : gG} {k : Nat} (h : k ≠ 1900) : gCv G (.ref k) = .ref (G.2.1 k) := by
  show (bif Nat.beq k 1900 then G.2.2.1 else .ref (G.2.1 k)) = _
  rw [show Nat.beq k 1900 = false from Bool.eq_false_iff.mpr (fun h9 => h (gb h9))]
  rfl
end G6
