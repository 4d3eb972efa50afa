/-! THE ENGINE IS SOUND: the machine goes as the abstract run does. First: what a memory stands for. -/
/-- the world's fixed part: classes' numbers, addresses, the unknown reference, the first address of new cells, the heap at the start -/
abbrev gG : Type := va_G × (Nat → Nat) × Value × Nat × Heap
def gCv (G : gG) (v : Value) : Value := match v with
  | .ref k => bif Nat.beq k 1900 then G.2.2.1 else .ref (G.2.1 k)
  | v => v
def gNo (G : gG) : Nat → Prop := fun q => G.2.2.2.1 ≤ q
def gCx (G : gG) (x : vp_A) : vp_A := match x with
  | (n, .inr (.inr (.inr (.inr f)))) => (n, .inr (.inr (.inr (.inr (fun j => (f j).map G.2.1)))))
  | x => x
def gCell (tt : gT) (G : gG) (U : State) (H : Heap) (a : Nat) (e : gE) : Prop := match e with
  | .inl x => ∃ cA : ClassId, ArrOfT U cA x.1 ∧ va_RA U cA x.1 ∧ H[a]? = some (vp_cell cA (gCx G x.2))
  | .inr o => va_at G.1 tt.1 (a, .inr (o.1, o.2.map (gCv G))) H
def gOc (tt : gT) (cn : Nat → String) (G : gG) (U : State) (a : Nat) (e : gE) : Prop := match e with
  | .inl x => (match x.2.2 with
    | .inl f => va_T x.1 a x.2.1 (fun j => .int (f j)) (gNo G) U G.2.2.2.2
    | _ => False)
  | .inr o => tt.1.length ≤ o.1 ∧ va_O (cn o.1) a (gNo G) U G.2.2.2.2 ∧ ∀ (k : Nat) (v : Value), o.2[k]? = some v → ∃ q, tt.2.2.2.2.2.1[k]? = some q ∧ va_OF q.1 q.2.1 q.2.2 (gCv G v) a (gNo G) U G.2.2.2.2
/-- what is known of the tables, and of the old cells -/
def gK (tt : gT) (cn : Nat → String) (O : Nat → Option gE) (G : gG) (U : State) : Prop :=
  va_K G.1 tt.1 [] U ∧ (∀ (j : Nat) (e : gE), O j = some e → j ≠ 900 ∧ gOc tt cn G U (G.2.1 (j + 1000)) e) ∧
  (∀ (k : Nat) (q : String × String × String × Value), tt.2.1[k]? = some q → va_Z q.1 q.2.1 q.2.2.1 (gCv G q.2.2.2) (gNo G) U G.2.2.2.2) ∧
  (∀ (k : Nat) (q : String × Nat × String × Nat), tt.2.2.1[k]? = some q → q.2.2.2 ≠ 1900 ∧ vk_R q.1 q.2.1 q.2.2.1 (G.2.1 q.2.2.2) U) ∧
  (∀ (k : Nat) (z : String × Nat × String × String × String × String), tt.2.2.2.1[k]? = some z → va_Nw (.fieldLinkNest z.1 z.2.1 z.2.2.1 z.2.2.2.1 z.2.2.2.2.1 z.2.2.2.2.2) U) ∧
  (∀ (k : Nat) (z : String × Nat × MethodName × String), tt.2.2.2.2.1[k]? = some z → va_Nw (.methodLinkNest z.1 z.2.1 z.2.2.1 z.2.2.2) U) ∧ (∀ C ∈ tt.2.2.2.2.2.2, va_AO C U)
/-- the heap holds the memory -/
def gP (tt : gT) (G : gG) (U : State) (M : List gE) (H : Heap) : Prop :=
  H.size = G.2.2.2.1 + M.length ∧ M.length ≤ 1000 ∧ (∀ (k : Nat) (e : gE), M[k]? = some e → gCell tt G U H (G.2.2.2.1 + k) e) ∧ ∀ q : Nat, q < G.2.2.2.1 → H[q]? = G.2.2.2.2[q]?
def gA (G : gG) : Prop := (∀ k, k < 1000 → G.2.1 k = G.2.2.2.1 + k) ∧ (G.2.2.1 = .null ∨ ∃ a, G.2.2.1 = .ref a)
theorem gK.warm {tt : gT} {cn : Nat → String} {O : Nat → Option gE} {G : gG} {s U : State} (hW : s.WarmedH U.vm) (h : gK tt cn O G s) : gK tt cn O G U := by
  obtain ⟨h1, h2, h3, h4, h5, h6, h7⟩ := h
  refine ⟨va_K.moved hW.alike h1, fun j e he => ⟨(h2 j e he).1, ?_⟩, fun k q hq => va_Z.moved hW.alike (h3 k q hq), fun k q hq => ⟨(h4 k q hq).1, vk_R.warm hW (h4 k q hq).2⟩, fun k z hz => va_Nw.warmF hW (h5 k z hz), fun k z hz => va_Nw.warmM hW (h6 k z hz), fun C hC => va_AO.moved hW.alike (h7 C hC)⟩
  have h := (h2 j e he).2
  obtain ⟨ty, n, x⟩ | o := e
  · rcases x with f | f | f | f | f
    · exact va_T.moved hW.alike h
    · exact h.elim
    · exact h.elim
    · exact h.elim
    · exact h.elim
  · obtain ⟨g1, g2, g3⟩ := h
    refine ⟨g1, va_O.moved hW.alike g2, fun k v hv => ?_⟩
    obtain ⟨q, q1, q2⟩ := g3 k v hv
    exact ⟨q, q1, va_OF.moved hW.alike q2⟩
theorem gCell.moved {tt : gT} {G : gG} {u U : State} {H : Heap} {a : Nat} {e : gE} (hvm : u.vm.Alike U.vm) (h : gCell tt G u H a e) : gCell tt G U H a e := by
  rcases e with x | o
  · obtain ⟨cA, h1, h2, h3⟩ := h
    exact ⟨cA, arrOfT_moved hvm h1, h2.moved hvm, h3⟩
  · exact h
theorem gCell.kept {tt : gT} {G : gG} {U : State} {H H1 : Heap} {a : Nat} {e : gE} (h : gCell tt G U H a e) (hq : H1[a]? = H[a]?) : gCell tt G U H1 a e := by
  rcases e with x | o
  · obtain ⟨cA, h1, h2, h3⟩ := h
    exact ⟨cA, h1, h2, hq.trans h3⟩
  · exact va_at.kept (q := (a, .inr (o.1, o.2.map (gCv G)))) h hq
theorem gP.moved {tt : gT} {G : gG} {u U : State} {M : List gE} {H : Heap} (hvm : u.vm.Alike U.vm) (h : gP tt G u M H) : gP tt G U M H :=
  ⟨h.1, h.2.1, fun k e he => (h.2.2.1 k e he).moved hvm, h.2.2.2⟩
/-- one cell is written -/
theorem gP.put {tt : gT} {G : gG} {U : State} {M : List gE} {H H1 : Heap} {p : Nat} {e : gE} (h : gP tt G U M H) (hp : p < M.length) (z : H1.size = H.size) (oq : ∀ q : Nat, q ≠ G.2.2.2.1 + p → H1[q]? = H[q]?) (he : gCell tt G U H1 (G.2.2.2.1 + p) e) : gP tt G U (M.set p e) H1 := by
  refine ⟨by rw [z, h.1, List.length_set], by rw [List.length_set]; exact h.2.1, fun k e' hk => ?_, fun q hq => by rw [oq q (by omega)]; exact h.2.2.2 q hq⟩
  by_cases hkp : k = p
  · subst hkp
    rw [List.getElem?_set_self hp] at hk
    cases hk
    exact he
  · rw [List.getElem?_set_ne (Ne.symm hkp)] at hk
    exact (h.2.2.1 k e' hk).kept (oq _ (by omega))
/-- one cell is made -/
theorem gP.push {tt : gT} {G : gG} {U : State} {M : List gE} {H H1 : Heap} {e : gE} (h : gP tt G U M H) (hl : M.length < 1000) (z : H1.size = H.size + 1) (oq : ∀ q : Nat, q < H.size → H1[q]? = H[q]?) (he : gCell tt G U H1 H.size e) : gP tt G U (M ++ [e]) H1 := by
  have hz := h.1
  refine ⟨by rw [z, h.1, List.length_append]; rfl, by rw [List.length_append]; show M.length + 1 ≤ 1000; omega, fun k e' hk => ?_, fun q hq => by rw [oq q (by omega)]; exact h.2.2.2 q hq⟩
  by_cases hkl : k < M.length
  · rw [List.getElem?_append_left hkl] at hk
    exact (h.2.2.1 k e' hk).kept (oq _ (by omega))
  · rw [List.getElem?_append_right (by omega)] at hk
    have hz1 : k - M.length < 1 := (List.getElem?_eq_some_iff.mp hk).1
    have hk0 : k = M.length := by omega
    subst hk0
    rw [Nat.sub_self] at hk
    cases hk
    rw [← hz]
    exact he
/-! locals -/
def gAL (G : gG) : Nat → gL → List (Nat × Value)
  | _, [] => []
  | i, none :: t => gAL G (i + 1) t
  | i, some v :: t => (i, gCv G v) :: gAL G (i + 1) t
theorem gAL_mem {G : gG} : ∀ (L : gL) (k : Nat) (q : Nat × Value), q ∈ gAL G k L ↔ ∃ v, k ≤ q.1 ∧ L[q.1 - k]? = some (some v) ∧ q.2 = gCv G v := by
  intro L
  induction L with
  | nil => intro k q; simp [gAL]
  | cons x t ih =>
    intro k q
    have key : (∃ v, k + 1 ≤ q.1 ∧ t[q.1 - (k + 1)]? = some (some v) ∧ q.2 = gCv G v) ↔ ∃ v, k + 1 ≤ q.1 ∧ (x :: t)[q.1 - k]? = some (some v) ∧ q.2 = gCv G v := by
      constructor
      · rintro ⟨v, h1, h2, h3⟩
        exact ⟨v, h1, by rw [show q.1 - k = (q.1 - (k + 1)) + 1 by omega]; exact h2, h3⟩
      · rintro ⟨v, h1, h2, h3⟩
        refine ⟨v, h1, ?_, h3⟩
        rw [show q.1 - k = (q.1 - (k + 1)) + 1 by omega] at h2
        exact h2
    cases x with
    | none =>
      rw [gAL, ih, key]
      constructor
      · rintro ⟨v, h1, h2⟩
        exact ⟨v, by omega, h2⟩
      · rintro ⟨v, h1, h2, h3⟩
        refine ⟨v, ?_, h2, h3⟩
        rcases Nat.lt_or_ge k q.1 with h | h
        · exact h
        · have : q.1 - k = 0 := by omega
          rw [this] at h2
          cases h2
    | some w =>
      rw [gAL, List.mem_cons, ih, key]
      constructor
      · rintro (rfl | ⟨v, h1, h2⟩)
        · exact ⟨w, Nat.le_refl _, by simp, rfl⟩
        · exact ⟨v, by omega, h2⟩
      · rintro ⟨v, h1, h2, h3⟩
        rcases Nat.lt_or_ge k q.1 with h | h
        · exact Or.inr ⟨v, h, h2, h3⟩
        · have e : q.1 = k := by omega
          rw [e, Nat.sub_self] at h2
          cases h2
          exact Or.inl (Prod.ext e h3)
theorem gAL_at {G : gG} {L : gL} {ls : Array Slot} {nL i : Nat} {v : Value} (h : lv_has ls nL (gAL G 0 L)) (hv : L[i]? = some (some v)) : ls[i]? = some (.val (gCv G v)) :=
  h.2.2 (i, gCv G v) ((gAL_mem L 0 _).mpr ⟨v, Nat.zero_le _, hv, rfl⟩)
theorem gCv_cat {G : gG} (hA : gA G) (v : Value) : (gCv G v).category = v.category := by
  cases v with
  | ref k =>
    show (bif Nat.beq k 1900 then G.2.2.1 else .ref (G.2.1 k)).category = 1
    cases h : Nat.beq k 1900
    · rfl
    · rcases hA.2 with h1 | ⟨a, h1⟩ <;> rw [h1] <;> rfl
  | _ => rfl
theorem gClr_get {L : gL} {i j : Nat} {z : Value} (h : (gClr L i)[j]? = some (some z)) : L[j]? = some (some z) ∧ ¬ (j + 1 = i ∧ z.category = 2) := by
  cases i with
  | zero => exact ⟨h, by rintro ⟨h1, -⟩; omega⟩
  | succ k =>
    simp only [gClr] at h
    split at h
    · rename_i v hv
      cases hb : Nat.beq v.category 2 with
      | true =>
        rw [hb] at h
        by_cases hjk : j = k
        · subst hjk
          have hlt := (List.getElem?_eq_some_iff.mp hv).1
          rw [show (bif true then L.set j none else L) = L.set j none from rfl, List.getElem?_set_self hlt] at h
          cases h
        · rw [show (bif true then L.set k none else L) = L.set k none from rfl, List.getElem?_set_ne (Ne.symm hjk)] at h
          exact ⟨h, by rintro ⟨h1, -⟩; omega⟩
      | false =>
        rw [hb] at h
        refine ⟨h, ?_⟩
        rintro ⟨h1, h2⟩
        have hjk : j = k := by omega
        subst hjk
        rw [show (bif false then L.set j none else L) = L from rfl] at h
        rw [hv] at h
        cases h
        rw [h2] at hb
        cases hb
    · rename_i hv
      refine ⟨h, ?_⟩
      rintro ⟨h1, -⟩
      have hjk : j = k := by omega
      subst hjk
      exact hv z h
theorem gClr_len {L : gL} {i : Nat} : (gClr L i).length = L.length := by
  cases i with
  | zero => rfl
  | succ k =>
    simp only [gClr]
    split
    · rename_i v hv
      cases hb : Nat.beq v.category 2 <;> simp
    · rfl
theorem gSto_len {L : gL} {i : Nat} {v : Value} : (gSto L i v).length = L.length := by
  unfold gSto
  cases hb : Nat.beq v.category 2 <;> simp [gClr_len]
theorem gSto_1 {G : gG} (hA : gA G) {L : gL} {ls' : Array Slot} {nL i : Nat} {v : Value} (hc : v.category = 1) (h : lv_has ls' nL ((i, gCv G v) :: (gAL G 0 L).filter (fun q => !(q.1 == i) && !(q.1 + 1 == i && q.2.category == 2)))) : lv_has ls' nL (gAL G 0 (gSto L i v)) := by
  refine ⟨h.1, h.2.1, fun q hq => h.2.2 q ?_⟩
  obtain ⟨w, -, h2, h3⟩ := (gAL_mem _ 0 q).mp hq
  rw [Nat.sub_zero] at h2
  rw [show gSto L i v = (gClr L i).set i (some v) by unfold gSto; rw [hc]; rfl] at h2
  by_cases hqi : q.1 = i
  · have hlt : i < (gClr L i).length := by
      have := (List.getElem?_eq_some_iff.mp h2).1
      rw [List.length_set] at this
      omega
    rw [hqi, List.getElem?_set_self hlt] at h2
    cases h2
    exact List.mem_cons.mpr (Or.inl (Prod.ext hqi h3))
  · rw [List.getElem?_set_ne (Ne.symm hqi)] at h2
    obtain ⟨g1, g2⟩ := gClr_get h2
    refine List.mem_cons.mpr (Or.inr (List.mem_filter.mpr ⟨(gAL_mem _ 0 q).mpr ⟨w, Nat.zero_le _, g1, h3⟩, ?_⟩))
    have hcw : q.2.category = w.category := by rw [h3]; exact gCv_cat hA w
    simp only [Bool.and_eq_true, Bool.not_eq_true', beq_eq_false_iff_ne, ne_eq, Bool.and_eq_false_iff, hcw]
    refine ⟨hqi, ?_⟩
    by_cases h9 : q.1 + 1 = i
    · exact Or.inr (fun h8 => g2 ⟨h9, h8⟩)
    · exact Or.inl h9
theorem gSto_2 {G : gG} (hA : gA G) {L : gL} {ls' : Array Slot} {nL i : Nat} {v : Value} (hc : v.category = 2) (h : lv_has ls' nL ((i, gCv G v) :: (gAL G 0 L).filter (fun q => !(q.1 == i) && (!(q.1 == i + 1) && !(q.1 + 1 == i && q.2.category == 2))))) : lv_has ls' nL (gAL G 0 (gSto L i v)) := by
  refine ⟨h.1, h.2.1, fun q hq => h.2.2 q ?_⟩
  obtain ⟨w, -, h2, h3⟩ := (gAL_mem _ 0 q).mp hq
  rw [Nat.sub_zero] at h2
  rw [show gSto L i v = ((gClr L i).set (i + 1) none).set i (some v) by unfold gSto; rw [hc]; rfl] at h2
  by_cases hqi : q.1 = i
  · have hlt : i < ((gClr L i).set (i + 1) none).length := by
      have := (List.getElem?_eq_some_iff.mp h2).1
      rw [List.length_set] at this
      omega
    rw [hqi, List.getElem?_set_self hlt] at h2
    cases h2
    exact List.mem_cons.mpr (Or.inl (Prod.ext hqi h3))
  · rw [List.getElem?_set_ne (Ne.symm hqi)] at h2
    have hqj : ¬ q.1 = i + 1 := by
      intro hh
      have hlt : i + 1 < (gClr L i).length := by
        have := (List.getElem?_eq_some_iff.mp h2).1
        rw [List.length_set] at this
        omega
      rw [hh, List.getElem?_set_self hlt] at h2
      cases h2
    rw [List.getElem?_set_ne (Ne.symm hqj)] at h2
    obtain ⟨g1, g2⟩ := gClr_get h2
    refine List.mem_cons.mpr (Or.inr (List.mem_filter.mpr ⟨(gAL_mem _ 0 q).mpr ⟨w, Nat.zero_le _, g1, h3⟩, ?_⟩))
    have hcw : q.2.category = w.category := by rw [h3]; exact gCv_cat hA w
    simp only [Bool.and_eq_true, Bool.not_eq_true', beq_eq_false_iff_ne, ne_eq, Bool.and_eq_false_iff, hcw]
    refine ⟨hqi, hqj, ?_⟩
    by_cases h9 : q.1 + 1 = i
    · exact Or.inr (fun h8 => g2 ⟨h9, h8⟩)
    · exact Or.inl h9
theorem gArgs_mem {G : gG} (hA : gA G) : ∀ (vals : List Value) (k : Nat) (q : Nat × Value), q ∈ gAL G k (gArgs vals) → q ∈ lv_args k (vals.map (gCv G)) := by
  intro vals
  induction vals with
  | nil => intro k q h; simp [gArgs, gAL] at h
  | cons v vs ih =>
    intro k q h
    rw [List.map_cons, lv_args, gCv_cat hA]
    unfold gArgs at h
    by_cases hc : v.category = 2
    · rw [hc] at h
      simp only [show Nat.beq 2 2 = true from rfl, cond_true, gAL] at h
      rw [if_pos hc]
      rcases List.mem_cons.mp h with h | h
      · exact List.mem_cons.mpr (Or.inl h)
      · exact List.mem_cons.mpr (Or.inr (ih _ _ h))
    · have hb : Nat.beq v.category 2 = false := by
        rcases lv_cat v with h1 | h1
        · rw [h1]; rfl
        · exact absurd h1 hc
      rw [hb] at h
      simp only [cond_false, gAL] at h
      rw [if_neg hc]
      rcases List.mem_cons.mp h with h | h
      · exact List.mem_cons.mpr (Or.inl h)
      · exact List.mem_cons.mpr (Or.inr (ih _ _ h))
theorem gArgs_len {G : gG} (hA : gA G) (vals : List Value) : (lg_sl (vals.map (gCv G))).length = (gArgs vals).length := by
  induction vals with
  | nil => rfl
  | cons v vs ih =>
    have e : (lg_sl ((v :: vs).map (gCv G))).length = (if v.category = 2 then 2 else 1) + (lg_sl (vs.map (gCv G))).length := by
      unfold lg_sl
      rw [List.map_cons, List.flatMap_cons, List.length_append, gCv_cat hA]
      by_cases hc : v.category = 2
      · rw [if_pos hc, if_pos hc]; rfl
      · rw [if_neg hc, if_neg hc]; rfl
    rw [e, ih]
    simp only [gArgs]
    by_cases hc : v.category = 2
    · rw [if_pos hc, hc]
      show 2 + _ = _ + 2
      omega
    · have hb : Nat.beq v.category 2 = false := by
        rcases lv_cat v with h1 | h1
        · rw [h1]; rfl
        · exact absurd h1 hc
      rw [if_neg hc, hb]
      show 1 + (gArgs vs).length = (gArgs vs).length + 1
      omega
theorem gIni_len {n : Nat} {vals : List Value} (h : (gArgs vals).length ≤ n) : (gIni n vals).length = n := by
  unfold gIni
  rw [List.length_append, List.length_replicate]
  omega
theorem gIni_has {G : gG} (hA : gA G) {n : Nat} {vals : List Value} (h : (gArgs vals).length ≤ n) : lv_has ((lg_sl (vals.map (gCv G)) ++ List.replicate (n - (lg_sl (vals.map (gCv G))).length) Slot.unset).toArray) n (gAL G 0 (gIni n vals)) := by
  have h0 := lv_entry (vals.map (gCv G)) (n := n) (by rw [gArgs_len hA]; exact h)
  refine ⟨h0.1, h0.2.1, fun q hq => h0.2.2 q (gArgs_mem hA _ _ _ ?_)⟩
  obtain ⟨v, h1, h2, h3⟩ := (gAL_mem _ 0 q).mp hq
  refine (gAL_mem _ 0 q).mpr ⟨v, h1, ?_, h3⟩
  unfold gIni at h2
  by_cases hl : q.1 - 0 < (gArgs vals).length
  · rw [List.getElem?_append_left hl] at h2
    exact h2
  · rw [List.getElem?_append_right (by omega)] at h2
    rw [List.getElem?_replicate] at h2
    split at h2 <;> cases h2
