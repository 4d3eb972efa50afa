theorem gRecv_1 {O : Nat → Option gE} {r : gR} {vals : List Value} {M : List gE} (hk : r.2.2.2.1 = 1) (h : gRecv O r vals M = true) : ∃ q vs ci fs, vals = .ref q :: vs ∧ gAt O M q = some (.inr (ci, fs)) ∧ ci = r.2.2.2.2 := by
  simp only [gRecv, hk] at h
  split at h
  · rename_i q vs
    split at h
    · rename_i ci fs hat
      exact ⟨q, vs, ci, fs, rfl, hat, gb h⟩
    · cases h
  · cases h
theorem gRecv_2 {O : Nat → Option gE} {r : gR} {vals : List Value} {M : List gE} (hk : r.2.2.2.1 = 2) (h : gRecv O r vals M = true) : ∃ q vs, vals = .ref q :: vs ∧ q < 1000 := by
  simp only [gRecv, hk] at h
  split at h
  · rename_i q vs
    exact ⟨q, vs, rfl, glt h⟩
  · cases h
section G9
variable {p : Program} {l : Launch} {e : Env} {R : Room} {s : State} {m : MethodId} {args : Array Value} {below : List Frame} {meth : Method} {c : Code} {H : Heap} {locs : List Loc} {cells slots : Nat} {Q : State → Prop}
variable {pc : Nat} {ls : Array Slot}
theorem gPre {tt : gT} {cn : Nat → String} {O : Nat → Option gE} {G : gG} {vals : List Value} {M : List gE} (hK : gK tt cn O G s) (hP : gP tt G s M H) : ∀ U : State, U.heap = H → s.WarmedH U.vm → gPc tt cn O G vals M (vals.map (gCv G)).toArray U :=
  fun U hU hW => ⟨rfl, by rw [hU]; exact hP.moved hW.alike, hK.warm hW⟩
/-- calling -/
theorem gCall_ok {tt : gT} {fty : Nat → Nat → FieldType} {cn : Nat → String} {df : Nat → List Value} {O : Nat → Option gE} {tb : Nat → Option gR} {G : gG} {x : MethodName} {bytes : ByteArray} {nL : Nat} {ei : gI} {L : gL} {st vals rest : List Value} {M M1 : List gE} {r' : gR} {d' x1 y1 : Nat} {v1 : Option Value}
    (hA : gA G) (hK : gK tt cn O G s) (C0 : gCx0 p s m args meth c x bytes nL) (hT : gTb tt fty cn df tb) (hc : gChk tt fty cn tb x bytes pc ei = true) (hcal : gCal O tb ei st M = some (r', vals, rest))
    (hM : Met l r'.1.1 (gWs r') (gRm d' x1 y1) (gPc tt cn O G vals M) (gQc tt G v1 M1) x1 y1 (gNo G)) (hd : d' + 1 ≤ R.frames ∧ 37 * (d' + 1) ≤ R.locals)
    (hl : lv_has ls nL (gAL G 0 L)) (hP : gP tt G s M H) (hlo : ∀ q ∈ locs, gNo G q.base) (hcells : cells + x1 ≤ R.cells) (hslots : slots + y1 ≤ R.slots)
    (k : ∀ (H1 : Heap) (locs1 : List Loc), gP tt G s M1 H1 → (∀ q ∈ locs1, gNo G q.base) → W p l e R s m args below meth c H1 locs1 (cells + x1) (slots + y1) Q (F0 m (pc + 3) ls ((v1.toList ++ rest).map (gCv G)))) : W p l e R s m args below meth c H locs cells slots Q (F0 m pc ls (st.map (gCv G))) := by
  obtain ⟨hx, hb, hml, hown, hts, hini⟩ := C0
  obtain ⟨ins, len, a, b, w, v9⟩ := ei
  simp only [gChk, Bool.and_eq_true, decide_eq_true_eq] at hc
  obtain ⟨hdc, hc⟩ := hc
  unfold gCal at hcal
  obtain ⟨hcal0, hcal1⟩ := gcond hcal
  clear hcal
  dsimp only at hcal1
  split at hcal1
  rotate_left
  · cases hcal1
  rename_i r9 htb
  obtain ⟨h1, h2⟩ := gcond hcal1
  cases h2
  simp only [Bool.and_eq_true] at h1
  obtain ⟨⟨⟨j1, j2⟩, j3⟩, j4⟩ := h1
  have hsum : (((st.drop r'.2.2.1).map (gCv G)).map fun v => v.category).sum ≤ 8 := by
    rw [List.map_map, show ((fun v => Value.category v) ∘ gCv G) = (fun v => v.category) from funext fun v => gCv_cat hA v]
    exact gle j2
  have hst : st = (st.take r'.2.2.1).reverse.reverse ++ st.drop r'.2.2.1 := by rw [List.reverse_reverse, List.take_append_drop]
  have hvl : (st.take r'.2.2.1).reverse.length = r'.2.2.1 := by rw [List.length_reverse, List.length_take]; have := gle j1; omega
  generalize hva : (st.take r'.2.2.1).reverse = vals at *
  generalize hre : st.drop r'.2.2.1 = rest at *
  obtain ⟨m1, ⟨w9, hmet⟩, -⟩ := hT.2 a r' htb
  simp only [gMet, Bool.and_eq_true, decide_eq_true_eq] at hmet
  obtain ⟨⟨⟨⟨⟨m2, m3⟩, m4⟩, m5⟩, m6⟩, m7⟩ := hmet
  have hgood : ∀ w ∈ gWs r', w ∈ gW := fun w hw => by
    rcases List.mem_cons.mp hw with rfl | hw
    · exact m1
    · exact hw
  have hmaxL : r'.1.2.2.1 ≤ 18 := gle m4
  have hR : (gRm d' x1 y1).frames + 1 ≤ R.frames ∧ 8 + (r'.1.2.2.1 + 11) + (gRm d' x1 y1).locals ≤ R.locals := ⟨hd.1, by show 8 + (_ + 11) + 37 * d' ≤ _; omega⟩
  have hroom : 2 * (F0 m pc ls (st.map (gCv G))).monitorRoom + ((rest.map (gCv G)).map fun v => v.category).sum ≤ 8 := by
    show 2 * 0 + _ ≤ 8
    omega
  have kk : ∀ (H1 : Heap) (locs1 : List Loc), gP tt G s M1 H1 → (∀ q ∈ locs1, gNo G q.base) → W p l e R s m args below meth c H1 locs1 (cells + x1) (slots + y1) Q (F0 m (pc + 3) ls ((v1.map (gCv G)).toList ++ rest.map (gCv G))) := by
    intro H1 locs1 q1 q2
    have h := k H1 locs1 q1 q2
    rw [List.map_append] at h
    cases v1 <;> exact h
  have CF : CallFix p m c bytes nL s args gW x.cls := ⟨hx, hb, hml, hown, hts⟩
  cases ins with
  | invokestatic i =>
    simp only [Bool.and_eq_true] at hc
    obtain ⟨hl1, hc⟩ := hc
    have hb0 : Nat.beq b 0 = true := hcal0
    rw [hb0, cond_true, htb] at hc
    simp only [Bool.and_eq_true] at hc
    obtain ⟨hw, hk⟩ := hc
    obtain rfl := gb hl1
    rw [gb hk] at m7
    simp only [Bool.and_eq_true, decide_eq_true_eq] at m7
    have hcw := va_cwS (R := R) (s := s) (args := args) (own := x.cls) (index := i) (y := r'.1.1) (bytes := r'.1.2.1) (maxL := r'.1.2.2.1) (ret := r'.1.2.2.2) (ws := gWs r') (ws' := gW) (rm := gRm d' x1 y1) (mc := x1) (ms := y1) r'.2.2.1 hts (gGood (fun z hz => by
      rcases List.mem_append.mp hz with hz | hz
      · simp only [List.mem_cons, List.not_mem_nil, or_false] at hz
        rcases hz with rfl | rfl | rfl
        · exact gw hw
        · exact gw m7.1
        · exact gw m2
      · exact hgood z hz)) rfl rfl rfl ⟨m5, m6, m7.2⟩ hR
    refine g_call (va_runS (As := vals.map (gCv G)) (rest := rest.map (gCv G)) (g := F0 m pc ls (st.map (gCv G))) CF hM hcw ⟨gCalling, gPre hK hP⟩ rfl (by rw [List.length_map]; exact hvl) hl.1 (by show st.map (gCv G) = _; rw [hst, List.map_append, List.map_reverse]) hroom hdc ⟨hcells, hslots⟩) hlo kk
  | invokevirtual i =>
    simp only [Bool.and_eq_true] at hc
    obtain ⟨hl1, hc⟩ := hc
    rw [htb] at hc
    simp only [Bool.and_eq_true] at hc
    obtain ⟨hw, hk⟩ := hc
    obtain rfl := gb hl1
    rw [gb hk] at m7
    simp only [Bool.and_eq_true, decide_eq_true_eq] at m7
    obtain ⟨⟨⟨n1, n2⟩, n3⟩, n4⟩ := m7
    obtain ⟨q, vs, ci, fs, rfl, hat, hci⟩ := gRecv_1 (gb hk) j3
    obtain ⟨b1, hb1, hcell⟩ : ∃ b1, gCv G (.ref q) = .ref b1 ∧ ∃ cellB : Cell, H[b1]? = some cellB ∧ cellB.vm.isStatics = false ∧ s.vm.findClass r'.1.1.cls = some cellB.cls := by
      unfold gAt at hat
      cases hq9 : Nat.blt q 1000 with
      | true =>
        rw [hq9, cond_true] at hat
        obtain ⟨rr, hrr, cell, q1, q2, q3, q4⟩ := hP.2.2.1 q _ hat
        obtain ⟨C, T, N⟩ := rr
        obtain ⟨g1, g2, g3, g4, g5, g6, g7⟩ := gcl hrr (hT.1 ci _ hrr)
        obtain ⟨hS, hfc, kC, hkC, hkind⟩ := hK.1.1 ci _ hrr
        refine ⟨_, gCv_new hA (glt hq9), cell, q1, by rw [q3]; rfl, ?_⟩
        rw [← n3, ← hci, g4, q2]
        exact hfc
      | false =>
        rw [hq9, cond_false] at hat
        have hq8 : ¬ q < 1000 := fun h => by have h7 := Nat.ble_eq_true_of_le (show q + 1 ≤ 1000 from h); have h6 : Nat.blt q 1000 = true := h7; rw [h6] at hq9; cases hq9
        obtain ⟨h9, hoc⟩ := hK.2.1 _ _ hat
        obtain ⟨o1, ⟨cell, e1, e2, e3, e4⟩, o3⟩ := hoc
        rw [Nat.sub_add_cancel (Nat.le_of_not_lt hq8)] at e1 e4
        refine ⟨_, gCv_old (show q ≠ 1900 from fun hh => h9 (by rw [hh])), cell, by rw [hP.2.2.2 _ (Nat.lt_of_not_le e4)]; exact e1, e2, ?_⟩
        rw [← n3, ← hci]
        exact e3
    have hps : (parseMethodDescriptor r'.1.1.desc).map (fun d => d.parameters.length) = some vs.length := by
      cases hpd : parseMethodDescriptor r'.1.1.desc with
      | none => rw [hpd] at n4; cases n4
      | some dd =>
        rw [hpd] at n4
        have h5 : dd.parameters.length + 1 = r'.2.2.1 := Option.some.inj n4
        have h6 : vs.length + 1 = r'.2.2.1 := hvl
        show some dd.parameters.length = some vs.length
        rw [show dd.parameters.length = vs.length by omega]
    have hcw := cwV (R := R) (s := s) (args := args) (own := x.cls) (C := r'.1.1.cls) (index := i) (y := r'.1.1) (bytes := r'.1.2.1) (maxL := r'.1.2.2.1) (ret := r'.1.2.2.2) (ws := gWs r') (ws' := gW) (rm := gRm d' x1 y1) (mc := x1) (ms := y1) vs.length hts (gGood (fun z hz => by
      rcases List.mem_append.mp hz with hz | hz
      · simp only [List.mem_cons, List.not_mem_nil, or_false] at hz
        rcases hz with rfl | rfl | rfl | rfl
        · exact gw hw
        · exact gw n1
        · exact gw n2
        · exact gw m2
      · exact hgood z hz)) rfl rfl rfl ⟨rfl, m5, m6, hps⟩ hR
    have hpre := gPre (vals := .ref q :: vs) (tt := tt) (cn := cn) (O := O) (G := G) hK hP
    rw [List.map_cons, hb1] at hpre
    have hr := va_runV (b := b1) (As := vs.map (gCv G)) (rest := rest.map (gCv G)) (g := F0 m pc ls (st.map (gCv G))) (cells := cells) (slots := slots) (locs := locs) (below := below) (e := e) (meth := meth) CF hM hcw ⟨gCalling, hcell, hpre⟩ rfl (by rw [List.length_map]) hl.1 (by
      show st.map (gCv G) = _
      rw [hst, List.map_append, List.map_reverse, List.map_cons, hb1, List.reverse_cons, List.append_assoc]
      rfl) hroom hdc ⟨hcells, hslots⟩
    exact g_call hr hlo kk
  | invokespecial i =>
    simp only [Bool.and_eq_true] at hc
    obtain ⟨hl1, hc⟩ := hc
    have hb12 : (Nat.beq b 1 || Nat.beq b 2) = true := hcal0
    have hb0 : Nat.beq b 0 = false := by
      rcases Bool.or_eq_true _ _ ▸ hb12 with h | h <;> rw [gb h] <;> rfl
    rw [hb0, cond_false, htb] at hc
    simp only [Bool.and_eq_true] at hc
    obtain ⟨hk, hc⟩ := hc
    obtain rfl := gb hl1
    rw [gb hk] at m7
    simp only [Bool.and_eq_true, decide_eq_true_eq] at m7
    obtain ⟨⟨⟨n1, n2⟩, n3⟩, n4⟩ := m7
    obtain ⟨q, vs, rfl, hq1⟩ := gRecv_2 (gb hk) j3
    have hb1 := gCv_new hA hq1
    have hps : (parseMethodDescriptor r'.1.1.desc).map (fun d => d.parameters.length) = some vs.length := by
      cases hpd : parseMethodDescriptor r'.1.1.desc with
      | none => rw [hpd] at n4; cases n4
      | some dd =>
        rw [hpd] at n4
        have h5 : dd.parameters.length + 1 = r'.2.2.1 := Option.some.inj n4
        have h6 : vs.length + 1 = r'.2.2.1 := hvl
        show some dd.parameters.length = some vs.length
        rw [show dd.parameters.length = vs.length by omega]
    have hpre := gPre (vals := .ref q :: vs) (tt := tt) (cn := cn) (O := O) (G := G) hK hP
    rw [List.map_cons, hb1] at hpre
    have hstk : st.map (gCv G) = (vs.map (gCv G)).reverse ++ .ref (G.2.2.2.1 + q) :: rest.map (gCv G) := by
      rw [hst, List.map_append, List.map_reverse, List.map_cons, hb1, List.reverse_cons, List.append_assoc]
      rfl
    have hwr : gWs r' = .code r'.1.1 r'.1.2.1 r'.1.2.2.1 none :: gW := by unfold gWs; rw [n3]
    cases hbb : Nat.beq b 1 with
    | true =>
      rw [hbb, cond_true] at hc
      have hcw := cwI (R := R) (s := s) (args := args) (own := x.cls) (index := i) (y := r'.1.1) (bytes := r'.1.2.1) (maxL := r'.1.2.2.1) (ws := gWs r') (ws' := gW) (rm := gRm d' x1 y1) (mc := x1) (ms := y1) vs.length hts (gGood hgood) hwr rfl rfl (hts _ (gw m2)) (hts _ (gw hc)) (hts _ (gw n1)) n2 ⟨m5, m6, hps⟩ hR
      have hr := va_runI (b := G.2.2.2.1 + q) (As := vs.map (gCv G)) (rest := rest.map (gCv G)) (g := F0 m pc ls (st.map (gCv G))) (cells := cells) (slots := slots) (locs := locs) (below := below) (e := e) (meth := meth) CF hM hcw ⟨gCalling, hpre⟩ rfl (by rw [List.length_map]) hl.1 hstk hroom hdc ⟨hcells, hslots⟩
      exact g_call hr hlo kk
    | false =>
      rw [hbb, cond_false] at hc
      split at hc
      rotate_left
      · cases hc
      rename_i z hz
      simp only [Bool.and_eq_true, decide_eq_true_eq] at hc
      obtain ⟨⟨z1, z2⟩, z3⟩ := hc
      have hnw := hK.2.2.2.2.2.1 w z hz
      rw [z1, gb z2, z3] at hnw
      have hcw := va_cnB (R := R) (s := s) (args := args) (own := x.cls) (host := z.2.2.2) (index := i) (y := r'.1.1) (bytes := r'.1.2.1) (maxL := r'.1.2.2.1) (ret := none) (ws := gWs r') (ws' := gW) (rm := gRm d' x1 y1) (mc := x1) (ms := y1) vs.length hts (gGood hgood) hwr rfl rfl hnw (hts _ (gw m2)) ⟨m5, m6, hps⟩ hR
      have hr := va_runIN (b := G.2.2.2.1 + q) (As := vs.map (gCv G)) (rest := rest.map (gCv G)) (g := F0 m pc ls (st.map (gCv G))) (cells := cells) (slots := slots) (locs := locs) (below := below) (e := e) (meth := meth) CF hM ⟨hcw, n2, hts _ (gw n1)⟩ ⟨gCalling, hpre⟩ rfl (by rw [List.length_map]) hl.1 hstk hroom hdc ⟨hcells, hslots⟩
      exact g_call hr hlo kk
  | _ => exact absurd hcal0 (by simp [gIsCal])
end G9
/-- what the induction shows: the machine goes as the run, from any place of any method -/
def gOK (tt : gT) (fty : Nat → Nat → FieldType) (cn : Nat → String) (df : Nat → List Value) (tb : Nat → Option gR) (O : Nat → Option gE) (G : gG) (l : Launch) (n : Nat) : Prop :=
  ∀ (d : Nat) (r : gR) (pc : Nat) (L : gL) (st : List Value) (M : List gE) (v : Option Value) (M' : List gE) (x y : Nat),
    gEv O fty cn df tb n d r pc L st M = some (v, M', x, y) → gCode tt fty cn tb r = true →
    ∀ (p : Program) (e : Env) (R : Room) (s : State) (m : MethodId) (args : Array Value) (below : List Frame) (meth : Method) (c : Code) (H : Heap) (locs : List Loc) (cells slots : Nat) (Q : State → Prop) (ls : Array Slot),
      gK tt cn O G s → gCx0 p s m args meth c r.1.1 r.1.2.1 r.1.2.2.1 → d ≤ R.frames ∧ 37 * d ≤ R.locals → lv_has ls r.1.2.2.1 (gAL G 0 L) → L.length = r.1.2.2.1 → gP tt G s M H → (∀ q ∈ locs, gNo G q.base) → cells + x ≤ R.cells → slots + y ≤ R.slots →
      (∀ (pc' : Nat) (ei : gI) (st' : List Value) (H' : Heap) (ls' : Array Slot) (locs' : List Loc), gFe r pc' = some ei → gRet ei r.1.2.2.2 st' = some v → gP tt G s M' H' → (∀ q ∈ locs', gNo G q.base) → W p l e R s m args below meth c H' locs' (cells + x) (slots + y) Q (F0 m pc' ls' (st'.map (gCv G)))) →
      W p l e R s m args below meth c H locs cells slots Q (F0 m pc ls (st.map (gCv G)))
theorem gMet_ok {tt : gT} {fty : Nat → Nat → FieldType} {cn : Nat → String} {df : Nat → List Value} {tb : Nat → Option gR} {O : Nat → Option gE} {G : gG} {l : Launch} {n : Nat} (hA : gA G) (ih : gOK tt fty cn df tb O G l n) {d : Nat} {r : gR} {w : Nat × Nat × Nat × Nat} (hw : gMet tt cn r w = true) (hr : gCode tt fty cn tb r = true)
    {vals : List Value} {M : List gE} {v : Option Value} {M' : List gE} {x y : Nat} (hlen : (gArgs vals).length ≤ r.1.2.2.1) (h : gEv O fty cn df tb n d r 0 (gIni r.1.2.2.1 vals) [] M = some (v, M', x, y)) :
    Met l r.1.1 (gWs r) (gRm d x y) (gPc tt cn O G vals M) (gQc tt G v M') x y (gNo G) := by
  simp only [gMet, Bool.and_eq_true, decide_eq_true_eq] at hw
  obtain ⟨⟨⟨⟨⟨m2, m3⟩, m4⟩, m5⟩, m6⟩, m7⟩ := hw
  refine Met.ofW (cc := r.1.2.1) (maxL := r.1.2.2.1) (ret := r.1.2.2.2) m3 rfl ?_
  intro p e s m args below meth c s₁ B hml hv
  obtain ⟨rfl, hP, hK⟩ := hv
  have hts := atoms_spec (ws := gWs r) B.pre
  have C0 : gCx0 p s m (vals.map (gCv G)).toArray meth c r.1.1 r.1.2.1 r.1.2.2.1 := ⟨B.exec, B.bytes, hml, findClass_of_methodNamed B.named, fun w hw => hts w (List.mem_cons_of_mem _ hw), fun h => by rw [(name_of_methodNamed B.named B.method).1]; exact h⟩
  rw [lg_entry_eq]
  refine ih d r 0 _ [] M v M' x y h hr p e _ s m _ below meth c s.heap [] 0 0 _ _ hK C0 ⟨Nat.le_refl _, Nat.le_refl _⟩ (gIni_has hA hlen) (gIni_len hlen) hP (fun q h => by cases h) (by rw [Nat.zero_add]; exact Nat.le_refl _) (by rw [Nat.zero_add]; exact Nat.le_refl _) ?_
  intro pc' ei st' H' ls' locs' hf hrt hP' hlo'
  rw [Nat.zero_add, Nat.zero_add]
  exact gRet_ok hA C0 B.returns B.notSynchronized (gFe_chk hf hr) hrt hP' hlo'
theorem gEv_ok {tt : gT} {fty : Nat → Nat → FieldType} {cn : Nat → String} {df : Nat → List Value} {tb : Nat → Option gR} {O : Nat → Option gE} {G : gG} {l : Launch} (hA : gA G) (hT : gTb tt fty cn df tb) : ∀ n, gOK tt fty cn df tb O G l n := by
  intro n
  induction n with
  | zero => intro d r pc L st M v M' x y h; cases h
  | succ n ih =>
    intro d r pc L st M v M' x y h hr p e R s m args below meth c H locs cells slots Q ls hK C0 hd hl hLn hP hlo hcx hsy hend
    simp only [gEv] at h
    cases hf : gFe r pc with
    | none => rw [hf] at h; cases h
    | some ei =>
      rw [hf] at h
      dsimp only at h
      have hc := gFe_chk hf hr
      cases hst : gStep O fty cn d ei pc L st M with
      | some S' =>
        rw [hst] at h
        obtain ⟨pc', L', st', M1⟩ := S'
        dsimp only at h
        exact gStep_ok hA hK C0 hT.1 hd ⟨by omega, by omega⟩ hc hst hl hLn hP hlo (fun H' ls' locs' a1 a2 a3 a4 => ih d r pc' L' st' M1 v M' x y h hr p e R s m args below meth c H' locs' cells slots Q ls' hK C0 hd a1 a2 a3 a4 hcx hsy hend)
      | none =>
        rw [hst] at h
        dsimp only at h
        cases hrt : gRet ei r.1.2.2.2 st with
        | some v1 =>
          rw [hrt] at h
          cases h
          exact hend pc ei st H ls locs hf hrt hP hlo
        | none =>
          rw [hrt] at h
          dsimp only at h
          cases hnw : gNew cn df ei st M with
          | some q =>
            obtain ⟨ce, st', kn⟩ := q
            rw [hnw] at h
            dsimp only at h
            cases hg : gEv O fty cn df tb n d r (pc + ei.2.1) L (.ref M.length :: st') (M ++ [ce]) with
            | none => rw [hg] at h; cases h
            | some q2 =>
              obtain ⟨v2, M2, x2, y2⟩ := q2
              rw [hg] at h
              cases h
              exact gNew_ok hA hK C0 hT.1 hc hnw hP (by omega) (by omega) (fun H' hP' => ih d r _ L _ _ _ _ _ _ hg hr p e R s m args below meth c H' locs (cells + 1) (slots + kn) Q ls hK C0 hd hl hLn hP' hlo (by omega) (by omega) (fun pc' ei' st'' H'' ls' locs' b1 b2 b3 b4 => by
                have h9 := hend pc' ei' st'' H'' ls' locs' b1 b2 b3 b4
                rw [show cells + 1 + x2 = cells + (x2 + 1) by omega, show slots + kn + y2 = slots + (y2 + kn) by omega]
                exact h9))
          | none =>
            rw [hnw] at h
            dsimp only at h
            cases hcl : gCal O tb ei st M with
            | none => rw [hcl] at h; cases h
            | some q =>
              obtain ⟨r', vals, rest⟩ := q
              rw [hcl] at h
              dsimp only at h
              cases d with
              | zero => cases h
              | succ d' =>
                dsimp only at h
                cases hg1 : gEv O fty cn df tb n d' r' 0 (gIni r'.1.2.2.1 vals) [] M with
                | none => rw [hg1] at h; cases h
                | some q1 =>
                  obtain ⟨v1, M1, x1, y1⟩ := q1
                  rw [hg1] at h
                  dsimp only at h
                  cases hg2 : gEv O fty cn df tb n (d' + 1) r (pc + 3) L (v1.toList ++ rest) M1 with
                  | none => rw [hg2] at h; cases h
                  | some q2 =>
                    obtain ⟨v2, M2, x2, y2⟩ := q2
                    rw [hg2] at h
                    cases h
                    have hcal := hcl
                    unfold gCal at hcal
                    obtain ⟨-, hcal1⟩ := gcond hcal
                    split at hcal1
                    rotate_left
                    · cases hcal1
                    rename_i r9 htb
                    obtain ⟨h1, h2⟩ := gcond hcal1
                    simp only [Bool.and_eq_true] at h1
                    have hlen := gle h1.2
                    simp only [Option.some.injEq, Prod.mk.injEq] at h2
                    obtain ⟨h21, h22, h23⟩ := h2
                    rw [h22, h21] at hlen
                    rw [h21] at htb
                    obtain ⟨-, ⟨w9, hmet⟩, hcode⟩ := hT.2 _ r' htb
                    exact gCall_ok hA hK C0 hT hc hcl (gMet_ok hA ih hmet hcode hlen hg1) hd hl hP hlo (by omega) (by omega) (fun H1 locs1 a1 a2 => ih (d' + 1) r _ L _ _ _ _ _ _ hg2 hr p e R s m args below meth c H1 locs1 (cells + x1) (slots + y1) Q ls hK C0 hd hl hLn a1 a2 (by omega) (by omega) (fun pc' ei' st'' H'' ls' locs' b1 b2 b3 b4 => by
                      have h9 := hend pc' ei' st'' H'' ls' locs' b1 b2 b3 b4
                      rw [show cells + x1 + x2 = cells + (x1 + x2) by omega, show slots + y1 + y2 = slots + (y1 + y2) by omega]
                      exact h9))
