theorem gcT {α : Type} {c : Bool} {a b : Option α} {r : α} (hc : c = true) (h : (bif c then a else b) = some r) : a = some r := by subst hc; exact h
theorem gcF {α : Type} {c : Bool} {a b : Option α} {r : α} (hc : c = false) (h : (bif c then a else b) = some r) : b = some r := by subst hc; exact h
theorem gBind {α β : Type} {o : Option α} {k : α → Option β} {r : β} (h : o.bind k = some r) : ∃ q, o = some q ∧ k q = some r := by
  cases o with
  | none => cases h
  | some q => exact ⟨q, rfl, h⟩
theorem gNot {b : Bool} (h : (!b) = true) : b = false := by cases b <;> first | rfl | cases h
/-- locals of which more are set -/
def gLe : gL → gL → Prop
  | [], [] => True
  | none :: a, _ :: b => gLe a b
  | some v :: a, y :: b => y = some v ∧ gLe a b
  | _, _ => False
theorem gLe_len : ∀ {a b : gL}, gLe a b → a.length = b.length := by
  intro a
  induction a with
  | nil => intro b h; cases b with
    | nil => rfl
    | cons y b => exact h.elim
  | cons x a ih =>
    intro b h
    cases b with
    | nil => cases x <;> exact h.elim
    | cons y b =>
      cases x with
      | none => exact congrArg (· + 1) (ih h)
      | some v => exact congrArg (· + 1) (ih h.2)
theorem gLe_get : ∀ {a b : gL} {i : Nat} {v : Value}, gLe a b → a[i]? = some (some v) → b[i]? = some (some v) := by
  intro a
  induction a with
  | nil => intro b i v h hv; simp at hv
  | cons x a ih =>
    intro b i v h hv
    cases b with
    | nil => cases x <;> exact h.elim
    | cons y b =>
      cases i with
      | zero =>
        cases x with
        | none => cases hv
        | some w =>
          cases hv
          rw [h.1]
          rfl
      | succ i =>
        cases x with
        | none => exact ih (i := i) h hv
        | some w => exact ih (i := i) h.2 hv
theorem gLe_of : ∀ {a b : gL}, a.length = b.length → (∀ (i : Nat) (v : Value), a[i]? = some (some v) → b[i]? = some (some v)) → gLe a b := by
  intro a
  induction a with
  | nil => intro b hl h; cases b with
    | nil => trivial
    | cons y b => cases hl
  | cons x a ih =>
    intro b hl h
    cases b with
    | nil => cases hl
    | cons y b =>
      have hl' : a.length = b.length := Nat.succ.inj hl
      have ht : gLe a b := ih hl' (fun i v hv => h (i + 1) v hv)
      cases x with
      | none => exact ht
      | some w => exact ⟨Option.some.inj (h 0 w rfl), ht⟩
theorem gLe_clr {a b : gL} {i : Nat} (h : gLe a b) : gLe (gClr a i) (gClr b i) := by
  refine gLe_of (by rw [gClr_len, gClr_len]; exact gLe_len h) fun j v hv => ?_
  obtain ⟨h1, h2⟩ := gClr_get hv
  have h3 := gLe_get h h1
  cases i with
  | zero => exact h3
  | succ k =>
    simp only [gClr]
    split
    · rename_i w hw
      cases hb : Nat.beq w.category 2 with
      | false => exact h3
      | true =>
        by_cases hjk : j = k
        · subst hjk
          rw [hw] at h3
          cases h3
          exact absurd ⟨rfl, gb hb⟩ h2
        · show (b.set k none)[j]? = _
          rw [List.getElem?_set_ne (Ne.symm hjk)]
          exact h3
    · exact h3
theorem gLe_set {a b : gL} {i : Nat} (x : Option Value) (h : gLe a b) : gLe (a.set i x) (b.set i x) := by
  refine gLe_of (by rw [List.length_set, List.length_set]; exact gLe_len h) fun j v hv => ?_
  by_cases hji : i = j
  · subst hji
    have hlt : i < a.length := by
      have := (List.getElem?_eq_some_iff.mp hv).1
      rw [List.length_set] at this
      exact this
    rw [List.getElem?_set_self hlt] at hv
    rw [List.getElem?_set_self (by rw [← gLe_len h]; exact hlt)]
    exact hv
  · rw [List.getElem?_set_ne hji] at hv
    rw [List.getElem?_set_ne hji]
    exact gLe_get h hv
theorem gLe_sto {a b : gL} {i : Nat} {v : Value} (h : gLe a b) : gLe (gSto a i v) (gSto b i v) := by
  unfold gSto
  cases Nat.beq v.category 2
  · exact gLe_set _ (gLe_clr h)
  · exact gLe_set _ (gLe_set _ (gLe_clr h))
