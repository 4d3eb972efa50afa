def gCodeF (tt : gT) (fty : Nat → Nat → FieldType) (cn : Nat → String) (tb : Nat → Option gR) (r : gR) (lo n : Nat) : Bool :=
  (List.range n).all fun i => match r.2.1.2 (lo + i) with
    | none => true
    | some e => gChk tt fty cn tb r.1.1 r.1.2.1 (lo + i) e
def gCodeQ (tt : gT) (fty : Nat → Nat → FieldType) (cn : Nat → String) (tb : Nat → Option gR) (r : gR) (lo hi : Nat) : Prop :=
  ∀ pc, lo ≤ pc → pc < hi → (match r.2.1.2 pc with
    | none => true
    | some e => gChk tt fty cn tb r.1.1 r.1.2.1 pc e) = true
theorem gCodeP {tt : gT} {fty : Nat → Nat → FieldType} {cn : Nat → String} {tb : Nat → Option gR} {r : gR} {lo n : Nat} (h : gCodeF tt fty cn tb r lo n = true) : gCodeQ tt fty cn tb r lo (lo + n) := by
  intro pc h1 h2
  have h3 := List.all_eq_true.mp h (pc - lo) (List.mem_range.mpr (by omega))
  rw [show lo + (pc - lo) = pc by omega] at h3
  exact h3
theorem gCodeT {tt : gT} {fty : Nat → Nat → FieldType} {cn : Nat → String} {tb : Nat → Option gR} {r : gR} {lo mid hi : Nat} (h1 : gCodeQ tt fty cn tb r lo mid) (h2 : gCodeQ tt fty cn tb r mid hi) : gCodeQ tt fty cn tb r lo hi := by
  intro pc h3 h4
  rcases Nat.lt_or_ge pc mid with h | h
  · exact h1 pc h3 h
  · exact h2 pc h h4
theorem gCodeA {tt : gT} {fty : Nat → Nat → FieldType} {cn : Nat → String} {tb : Nat → Option gR} {r : gR} (h : gCodeQ tt fty cn tb r 0 r.2.1.1) : gCode tt fty cn tb r = true :=
  List.all_eq_true.mpr fun pc hp => h pc (Nat.zero_le _) (List.mem_range.mp hp)
theorem zK_123_0 : gCodeF gTT gFt gCn gTb0 zR_123 0 100 = true := by decide +kernel
theorem zK_123_100 : gCodeF gTT gFt gCn gTb0 zR_123 100 100 = true := by decide +kernel
theorem zK_123_200 : gCodeF gTT gFt gCn gTb0 zR_123 200 100 = true := by decide +kernel
theorem zK_123_300 : gCodeF gTT gFt gCn gTb0 zR_123 300 100 = true := by decide +kernel
theorem zK_123_400 : gCodeF gTT gFt gCn gTb0 zR_123 400 100 = true := by decide +kernel
theorem zK_123_500 : gCodeF gTT gFt gCn gTb0 zR_123 500 100 = true := by decide +kernel
theorem zK_123_600 : gCodeF gTT gFt gCn gTb0 zR_123 600 100 = true := by decide +kernel
theorem zK_123_700 : gCodeF gTT gFt gCn gTb0 zR_123 700 100 = true := by decide +kernel
