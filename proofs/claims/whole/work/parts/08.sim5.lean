/-! leaving, making, calling; the whole run -/
def gRm (d mc ms : Nat) : Room := { frames := d, cells := mc, slots := ms, locals := 37 * d }
def gQc (tt : gT) (G : gG) (v : Option Value) (M' : List gE) : Array Value → State → Outcome → State → Prop := fun _ _ o t => o = .returned (v.map (gCv G)) ∧ gP tt G t M' t.heap
def gPc (tt : gT) (cn : Nat → String) (O : Nat → Option gE) (G : gG) (vals : List Value) (M : List gE) : Array Value → State → Prop := fun a U => a = (vals.map (gCv G)).toArray ∧ gP tt G U M U.heap ∧ gK tt cn O G U
def gWs (r : gR) : List Jvm.Cond := .code r.1.1 r.1.2.1 r.1.2.2.1 r.1.2.2.2 :: gW
/-- the tables are right -/
def gTb (tt : gT) (fty : Nat → Nat → FieldType) (cn : Nat → String) (df : Nat → List Value) (tb : Nat → Option gR) : Prop :=
  (∀ (ci : Nat) (q : vw_C), tt.1[ci]? = some q → gCls tt fty cn df ci = true) ∧ ∀ (i : Nat) (r : gR), tb i = some r → (.code r.1.1 r.1.2.1 r.1.2.2.1 r.1.2.2.2) ∈ gW ∧ (∃ w, gMet tt cn r w = true) ∧ gCode tt fty cn tb r = true
theorem gFe_chk {tt : gT} {fty : Nat → Nat → FieldType} {cn : Nat → String} {tb : Nat → Option gR} {r : gR} {pc : Nat} {ei : gI} (h : gFe r pc = some ei) (hr : gCode tt fty cn tb r = true) : gChk tt fty cn tb r.1.1 r.1.2.1 pc ei = true := by
  unfold gFe at h
  obtain ⟨h1, h2⟩ := gcond h
  have h3 := List.all_eq_true.mp hr pc (List.mem_range.mpr (glt h1))
  rw [h2] at h3
  exact h3
theorem gGood {ws : List Jvm.Cond} (h : ∀ w ∈ ws, w ∈ gW) : GoodIn gW ws := fun w hw => ⟨h w hw, good_of_word (List.mem_filter.mp (h w hw)).2⟩
theorem gCalling {tt : gT} {cn : Nat → String} {O : Nat → Option gE} {G : gG} {vals : List Value} {M : List gE} : FrameBlind (gPc tt cn O G vals M) := by
  intro a U g mk h
  exact ⟨h.1, gP.moved (u := U) (U := U.calling g mk a) (Vm.Alike.refl U.vm) h.2.1, gK.warm (s := U) (U := U.calling g mk a) (State.WarmedH.refl U) h.2.2⟩
section G8
variable {p : Program} {l : Launch} {e : Env} {R : Room} {s : State} {m : MethodId} {args : Array Value} {below : List Frame} {meth : Method} {c : Code} {H : Heap} {locs : List Loc} {cells slots : Nat} {Q : State → Prop}
variable {pc : Nat} {ls : Array Slot}
theorem g_call {tt : gT} {G : gG} {v : Option Value} {M1 : List gE} {a : Array Value} {st0 rest : List Value} {mc ms : Nat} (hr : va_Run p l e R s m args below meth c H locs cells slots mc ms (F0 m pc ls st0) rest (gQc tt G v M1 a) (gNo G)) (hlo : ∀ q ∈ locs, gNo G q.base)
    (kk : ∀ (H1 : Heap) (locs1 : List Loc), gP tt G s M1 H1 → (∀ q ∈ locs1, gNo G q.base) → W p l e R s m args below meth c H1 locs1 (cells + mc) (slots + ms) Q (F0 m (pc + 3) ls ((v.map (gCv G)).toList ++ rest))) : W p l e R s m args below meth c H locs cells slots Q (F0 m pc ls st0) := by
  intro T hT X
  obtain ⟨v', st₀, t, T', L, h0, X', hL, e1, e2, ⟨hv, hp⟩, st⟩ := hr T hT X
  cases hv
  obtain ⟨t2, a1, b1⟩ := kk T'.heap (locs ++ L) (by rw [e1]; exact hp.moved (by rw [← e2]; exact X'.warmed.alike.symm)) (fun q hq => by
    rcases List.mem_append.mp hq with h | h
    · exact hlo q h
    · exact hL q h) T' rfl X'
  exact ⟨t2, st t2 a1, b1⟩
/-- leaving -/
theorem gRet_ok {tt : gT} {fty : Nat → Nat → FieldType} {cn : Nat → String} {tb : Nat → Option gR} {G : gG} {x : MethodName} {bytes : ByteArray} {nL : Nat} {ret : Option FieldType} {ei : gI} {st : List Value} {v : Option Value} {M : List gE}
    (hA : gA G) (C0 : gCx0 p s m args meth c x bytes nL) (hret : meth.sig.returnType = ret) (hlocks : meth.locks = false) (hc : gChk tt fty cn tb x bytes pc ei = true) (hs : gRet ei ret st = some v) (hP : gP tt G s M H) (hlo : ∀ q ∈ locs, gNo G q.base) :
    W p l e R s m args below meth c H locs cells slots (MQ below (gQc tt G v M) args s cells slots (gNo G)) (F0 m pc ls (st.map (gCv G))) := by
  obtain ⟨hx, hb, hml, hown, hts, hini⟩ := C0
  obtain ⟨ins, len, a, b, w, v9⟩ := ei
  simp only [gChk, Bool.and_eq_true, decide_eq_true_eq] at hc
  obtain ⟨hdc, hc⟩ := hc
  have hq : ∀ t : State, t.heap = H → s.WarmedH t.vm → gQc tt G v M args s (.returned (v.map (gCv G))) t := fun t ht hW => ⟨rfl, by rw [ht]; exact hP.moved hW.alike⟩
  cases ins with
  | ireturn =>
    obtain rfl := gb hc
    simp only [gRet] at hs
    split at hs
    · rename_i x0
      split at hs
      · cases hs
        exact W.iret hx hb hret hq hlo hdc hlocks
      · obtain ⟨h1, h2⟩ := gcond hs
        cases h2
        refine W.zret hx hb hret ?_ hq hlo hdc hlocks
        simp only [Bool.or_eq_true, decide_eq_true_eq] at h1
        rcases h1 with rfl | rfl <;> decide
      · obtain ⟨h1, h2⟩ := gcond hs
        cases h2
        refine W.zret hx hb hret ?_ hq hlo hdc hlocks
        have h3 := of_decide_eq_true h1
        rw [vp_nar_char] at h3
        show Value.int x0.toUInt32.toUInt16.toUInt32.toInt32 = _
        rw [h3]
      · obtain ⟨h1, h2⟩ := gcond hs
        cases h2
        refine W.zret hx hb hret ?_ hq hlo hdc hlocks
        have h3 := of_decide_eq_true h1
        rw [vp_nar_byte] at h3
        show Value.int x0.toInt8.toInt32 = _
        rw [h3]
      · cases hs
    · cases hs
  | lreturn =>
    obtain rfl := gb hc
    simp only [gRet] at hs
    split at hs
    · rename_i x0
      split at hs
      · cases hs
        exact W.lret hx hb hret hq hlo hdc hlocks
      · cases hs
    · cases hs
  | areturn =>
    obtain rfl := gb hc
    simp only [gRet] at hs
    split at hs
    · rename_i C1
      split at hs
      · rename_i z
        cases hs
        exact W.aret (v := gCv G (.ref z)) hx hb hret (Or.inl ⟨_, rfl⟩) (by rcases gCv_ref hA (v := .ref z) (Or.inl ⟨z, rfl⟩) with h | h; exact Or.inr h; exact Or.inl h) hq hlo hdc hlocks
      · cases hs
        exact W.aret (v := .null) hx hb hret (Or.inl ⟨_, rfl⟩) (Or.inl rfl) hq hlo hdc hlocks
      · cases hs
    · rename_i C1
      split at hs
      · rename_i z
        cases hs
        exact W.aret (v := gCv G (.ref z)) hx hb hret (Or.inr ⟨_, rfl⟩) (by rcases gCv_ref hA (v := .ref z) (Or.inl ⟨z, rfl⟩) with h | h; exact Or.inr h; exact Or.inl h) hq hlo hdc hlocks
      · cases hs
        exact W.aret (v := .null) hx hb hret (Or.inr ⟨_, rfl⟩) (Or.inl rfl) hq hlo hdc hlocks
      · cases hs
    · cases hs
  | return_ =>
    obtain rfl := gb hc
    simp only [gRet] at hs
    split at hs
    · split at hs
      · cases hs
        exact W.vret hx hb hret hq hlo hdc hlocks
      · cases hs
    · cases hs
  | _ => exact absurd hs (by simp [gRet])
theorem gDef {G : gG} (ty : FieldType) : gCv G (defaultValue ty) = defaultValue ty := by cases ty <;> rfl
/-- making -/
theorem gNew_ok {tt : gT} {fty : Nat → Nat → FieldType} {cn : Nat → String} {df : Nat → List Value} {O : Nat → Option gE} {tb : Nat → Option gR} {G : gG} {x : MethodName} {bytes : ByteArray} {nL : Nat} {ei : gI} {st st' : List Value} {M : List gE} {ce : gE} {n : Nat}
    (hA : gA G) (hK : gK tt cn O G s) (C0 : gCx0 p s m args meth c x bytes nL) (hCl : ∀ (ci : Nat) (q : vw_C), tt.1[ci]? = some q → gCls tt fty cn df ci = true)
    (hc : gChk tt fty cn tb x bytes pc ei = true) (hs : gNew cn df ei st M = some (ce, st', n)) (hP : gP tt G s M H) (hcells : cells + 1 ≤ R.cells) (hslots : slots + n ≤ R.slots)
    (k : ∀ H' : Heap, gP tt G s (M ++ [ce]) H' → W p l e R s m args below meth c H' locs (cells + 1) (slots + n) Q (F0 m (pc + ei.2.1) ls ((Value.ref M.length :: st').map (gCv G)))) : W p l e R s m args below meth c H locs cells slots Q (F0 m pc ls (st.map (gCv G))) := by
  obtain ⟨hx, hb, hml, hown, hts, hini⟩ := C0
  obtain ⟨ins, len, a, b, w, v9⟩ := ei
  simp only [gChk, Bool.and_eq_true, decide_eq_true_eq] at hc
  obtain ⟨hdc, hc⟩ := hc
  unfold gNew at hs
  obtain ⟨hM0, hs2⟩ := gcond hs
  clear hs
  have hM : M.length < 1000 := glt hM0
  have href : gCv G (.ref M.length) = .ref H.size := by rw [gCv_new hA hM, hP.1]
  simp only [List.map_cons, href] at k
  have hall : ∀ w ∈ lw_tbl, goodWord w = true → w.before args s = true := fun w h1 h2 => hts w (List.mem_filter.mpr ⟨h1, h2⟩)
  cases ins with
  | new i =>
    simp only [Bool.and_eq_true] at hc
    obtain ⟨⟨hl1, hlt⟩, hw⟩ := hc
    obtain rfl := gb hl1
    cases hs2
    have ha : a < tt.1.length := glt hlt
    obtain ⟨⟨C, T, N⟩, hrr⟩ : ∃ q, tt.1[a]? = some q := ⟨_, List.getElem?_eq_getElem ha⟩
    obtain ⟨g1, g2, g3, g4, g5, g6, g7⟩ := gcl hrr (hCl a _ hrr)
    have hKn := hK.1.1 a _ hrr
    have hw2 := hts _ (gw hw)
    dsimp only at hw2 k
    rw [g4] at hw2
    rw [g5] at k hslots
    refine W.newcK hx hb hown hw2 (hall _ g2 (by first | rfl | simp [goodWord, Cond.onTables, Cond.keeps, Cond.steady])) (hall _ g3 (by first | rfl | simp [goodWord, Cond.onTables, Cond.keeps, Cond.steady])) rfl hdc hcells hslots hKn.2.1 rfl fun H1 kC hkC e1 z1 o1 => ?_
    refine k H1 (hP.push hM z1 o1 ?_)
    refine ⟨_, hrr, (u_born (ws := gW) (fty a) hts g1 hKn hkC e1 (fun k hk => (g6 k hk).1)).to fun j hj => ?_⟩
    show defaultValue (fty a j) = ((df a).map (gCv G)).getD j .null
    rw [List.getD_eq_getElem?_getD, List.getElem?_map, (g6 j hj).2]
    exact (gDef _).symm
  | newarray t =>
    simp only [Bool.and_eq_true] at hc
    obtain ⟨hl1, hw⟩ := hc
    obtain rfl := gb hl1
    dsimp only at hs2
    split at hs2
    · rename_i n0 r
      obtain ⟨h1, h2⟩ := gcond hs2
      simp only [Bool.and_eq_true, Bool.not_eq_true', decide_eq_false_iff_not] at h1
      have hle := gle h1.2
      cases t with
      | int =>
        cases h2
        refine va_newaK hx hb (hts _ (gw hw)) rfl hdc rfl h1.1 rfl (by show _ * 4 ≤ _; omega) hcells hslots rfl fun H1 cA e1 z1 o1 hAr hNm => ?_
        exact k H1 (hP.push hM z1 o1 ⟨cA, hAr, hNm, e1⟩)
      | byte =>
        cases h2
        refine va_newaK hx hb (hts _ (gw hw)) rfl hdc rfl h1.1 rfl (by show _ * 1 ≤ _; omega) hcells hslots rfl fun H1 cA e1 z1 o1 hAr hNm => ?_
        exact k H1 (hP.push hM z1 o1 ⟨cA, hAr, hNm, e1⟩)
      | char =>
        cases h2
        refine va_newaK hx hb (hts _ (gw hw)) rfl hdc rfl h1.1 rfl (by show _ * 2 ≤ _; omega) hcells hslots rfl fun H1 cA e1 z1 o1 hAr hNm => ?_
        exact k H1 (hP.push hM z1 o1 ⟨cA, hAr, hNm, e1⟩)
      | long =>
        cases h2
        refine va_newaK hx hb (hts _ (gw hw)) rfl hdc rfl h1.1 rfl (by show _ * 8 ≤ _; omega) hcells hslots rfl fun H1 cA e1 z1 o1 hAr hNm => ?_
        exact k H1 (hP.push hM z1 o1 ⟨cA, hAr, hNm, e1⟩)
      | _ => cases h2
    · cases hs2
  | anewarray i =>
    simp only [Bool.and_eq_true, decide_eq_true_eq] at hc
    obtain ⟨⟨hl1, hw⟩, hw2⟩ := hc
    obtain rfl := gb hl1
    dsimp only at hs2
    split at hs2
    · rename_i n0 r
      obtain ⟨h1, h2⟩ := gcond hs2
      simp only [Bool.and_eq_true, Bool.not_eq_true', decide_eq_false_iff_not] at h1
      have hle := gle h1.2
      cases h2
      refine W.anew hx hb hown (hts _ (gw hw)) (va_AO.use (hK.2.2.2.2.2.2 _ hw2)) rfl hdc rfl h1.1 (by omega) hcells hslots fun cA kA comp f1 f2 f3 f4 => ?_
      have e1 : (H.push ({ cls := cA, slots := Array.replicate n0.toNatClampNeg .null, vm := .none } : Cell))[H.size]? = some (arrV cA n0.toNatClampNeg (fun _ => .null)) := by rw [Array.getElem?_push_size, ← arrV_new]
      refine k _ (hP.push hM (by rw [Array.size_push]) (fun q hq => by rw [Array.getElem?_push, if_neg (Nat.ne_of_lt hq)]) ⟨cA, ?_, ⟨kA, comp, f2, f3, f4, f1⟩, e1⟩)
      exact fun n z => ⟨fun k h => (by cases h), kA, f2, comp, f3⟩
    · cases hs2
  | _ => exact absurd hs2 (by simp)
end G8
