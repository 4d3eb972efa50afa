theorem gFits_ok {G : gG} (hA : gA G) {ty : FieldType} {v : Value} (h : gFits ty v = true) : narrow ty (gCv G v) = gCv G v ∧ fits ty (gCv G v) = true := by
  cases ty with
  | int => cases v <;> first | exact ⟨rfl, rfl⟩ | cases h
  | long => cases v <;> first | exact ⟨rfl, rfl⟩ | cases h
  | boolean =>
    cases v with
    | int z =>
      simp only [gFits, Bool.or_eq_true, decide_eq_true_eq] at h
      rcases h with rfl | rfl
      · show narrow .boolean (.int 0) = .int 0 ∧ fits .boolean (.int 0) = true
        exact ⟨by decide, by decide⟩
      · show narrow .boolean (.int 1) = .int 1 ∧ fits .boolean (.int 1) = true
        exact ⟨by decide, by decide⟩
    | _ => cases h
  | object C =>
    have hv : (∃ z, v = .ref z) ∨ v = .null := by
      cases v with
      | ref z => exact Or.inl ⟨z, rfl⟩
      | null => exact Or.inr rfl
      | _ => cases h
    rcases gCv_ref hA hv with ⟨y, hy⟩ | hy <;> rw [hy] <;> exact ⟨rfl, rfl⟩
  | array C =>
    have hv : (∃ z, v = .ref z) ∨ v = .null := by
      cases v with
      | ref z => exact Or.inl ⟨z, rfl⟩
      | null => exact Or.inr rfl
      | _ => cases h
    rcases gCv_ref hA hv with ⟨y, hy⟩ | hy <;> rw [hy] <;> exact ⟨rfl, rfl⟩
  | _ => cases v <;> cases h
section G7
variable {p : Program} {l : Launch} {e : Env} {R : Room} {s : State} {m : MethodId} {args : Array Value} {below : List Frame} {meth : Method} {c : Code} {H : Heap} {locs : List Loc} {cells slots : Nat} {Q : State → Prop}
variable {pc : Nat} {ls : Array Slot}
theorem gGo_t {tt : gT} {G : gG} {nL a q : Nat} {L : gL} {r : List Value} {M : List gE} {b : Bool} (h : b = true) (k : gGo tt G p l e R s m args below meth c cells slots Q nL (bif b then a else q, L, r, M)) : gGo tt G p l e R s m args below meth c cells slots Q nL (a, L, r, M) := by subst h; exact k
theorem gGo_f {tt : gT} {G : gG} {nL a q : Nat} {L : gL} {r : List Value} {M : List gE} {b : Bool} (h : b = false) (k : gGo tt G p l e R s m args below meth c cells slots Q nL (bif b then a else q, L, r, M)) : gGo tt G p l e R s m args below meth c cells slots Q nL (q, L, r, M) := by subst h; exact k
theorem gAC : (Jvm.Cond.native arraycopyName) ∈ gW ∧ (Jvm.Cond.static arraycopyName) ∈ gW ∧ (Jvm.Cond.initialized "java/lang/System") ∈ gW ∧ (Jvm.Cond.instanceMethod objectInit) ∈ gW ∧ (Jvm.Cond.code objectInit ⟨#[0xb1]⟩ 1 none) ∈ gW :=
  ⟨gw (w := 390) (by decide +kernel), gw (w := 389) (by decide +kernel), gw (w := 64) (by decide +kernel), gw (w := 75) (by decide +kernel), gw (w := 76) (by decide +kernel)⟩
theorem gAM : (Jvm.Cond.initialized "java/lang/Math") ∈ gW ∧ (Jvm.Cond.static Lib.Math.max.name) ∈ gW ∧ (Jvm.Cond.code Lib.Math.max.name Lib.Math.max.code 2 (some .int)) ∈ gW ∧ (Jvm.Cond.static Lib.Math.min.name) ∈ gW ∧ (Jvm.Cond.code Lib.Math.min.name Lib.Math.min.code 2 (some .int)) ∈ gW ∧
    (Jvm.Cond.static Lib.Math.abs.name) ∈ gW ∧ (Jvm.Cond.code Lib.Math.abs.name Lib.Math.abs.code 1 (some .int)) ∈ gW ∧ (Jvm.Cond.static Lib.MathLoose.max_long.x) ∈ gW ∧ (Jvm.Cond.code Lib.MathLoose.max_long.x Lib.MathLoose.max_long.code 4 (some .long)) ∈ gW :=
  ⟨gw (w := 62) (by decide +kernel), gw (w := 359) (by decide +kernel), gw (w := 360) (by decide +kernel), gw (w := 350) (by decide +kernel), gw (w := 351) (by decide +kernel), gw (w := 404) (by decide +kernel), gw (w := 405) (by decide +kernel), gw (w := 562) (by decide +kernel), gw (w := 563) (by decide +kernel)⟩
theorem gcl {tt : gT} {fty : Nat → Nat → FieldType} {cn : Nat → String} {df : Nat → List Value} {ci : Nat} {C : String} {T : u_T} {N : Nat} (hq : tt.1[ci]? = some (C, T, N)) (h : gCls tt fty cn df ci = true) :
    (∀ w ∈ u_ws C T N, w ∈ gW) ∧ (Jvm.Cond.instantiable C N ∈ lw_tbl) ∧ (Jvm.Cond.initialized C ∈ lw_tbl) ∧ cn ci = C ∧ (df ci).length = N ∧ (∀ k, k < N → parseFieldDescriptor (T k).2.2.1 = some (fty ci k) ∧ (df ci)[k]? = some (defaultValue (fty ci k))) ∧ (∀ a, a < N → ∀ b, b < N → a ≠ b → (T a).2.1 ≠ (T b).2.1) := by
  unfold gCls at h
  rw [hq] at h
  simp only [Bool.and_eq_true, decide_eq_true_eq, List.all_eq_true, List.mem_range, Bool.or_eq_true] at h
  obtain ⟨⟨⟨⟨⟨⟨h1, h2⟩, h3⟩, h4⟩, h5⟩, h6⟩, h7⟩ := h
  refine ⟨fun w hw => List.mem_filter.mpr (h1 w hw), h2, h3, h4, gb h5, fun k hk => h6 k hk, fun a ha b hb hab => ?_⟩
  rcases h7 a ha b hb with h | h
  · exact absurd (gb h) hab
  · exact h
set_option maxHeartbeats 4000000 in
set_option maxRecDepth 20000 in
theorem gStep_ok {tt : gT} {fty : Nat → Nat → FieldType} {cn : Nat → String} {df : Nat → List Value} {O : Nat → Option gE} {tb : Nat → Option gR} {G : gG} {x : MethodName} {bytes : ByteArray} {nL d : Nat} {ei : gI} {L : gL} {st : List Value} {M : List gE} {S' : gS}
    (hA : gA G) (hK : gK tt cn O G s) (C0 : gCx0 p s m args meth c x bytes nL) (hCl : ∀ (ci : Nat) (q : vw_C), tt.1[ci]? = some q → gCls tt fty cn df ci = true)
    (hd : d ≤ R.frames ∧ 37 * d ≤ R.locals) (hcs : cells ≤ R.cells ∧ slots ≤ R.slots) (hc : gChk tt fty cn tb x bytes pc ei = true) (hs : gStep O fty cn d ei pc L st M = some S')
    (hl : lv_has ls nL (gAL G 0 L)) (hLn : L.length = nL) (hP : gP tt G s M H) (hlo : ∀ q ∈ locs, gNo G q.base)
    (k : gGo tt G p l e R s m args below meth c cells slots Q nL S') : W p l e R s m args below meth c H locs cells slots Q (F0 m pc ls (st.map (gCv G))) := by
  obtain ⟨hx, hb, hml, hown, hts, hini⟩ := C0
  obtain ⟨ins, len, a, b, w, v⟩ := ei
  simp only [gChk, Bool.and_eq_true, decide_eq_true_eq] at hc
  obtain ⟨hdc, hc⟩ := hc
  cases ins with
  | iconst n =>
    simp only [Bool.and_eq_true, decide_eq_true_eq] at hc
    obtain ⟨hv, hl1⟩ := hc
    obtain rfl := gb hl1
    subst hv
    cases hs
    exact lv_iconst hx hb hdc rfl (k H ls locs hl hLn hP hlo)
  | bipush n =>
    simp only [Bool.and_eq_true, decide_eq_true_eq] at hc
    obtain ⟨hv, hl1⟩ := hc
    obtain rfl := gb hl1
    subst hv
    cases hs
    exact lv_bipush hx hb hdc rfl (k H ls locs hl hLn hP hlo)
  | sipush n =>
    simp only [Bool.and_eq_true, decide_eq_true_eq] at hc
    obtain ⟨hv, hl1⟩ := hc
    obtain rfl := gb hl1
    subst hv
    cases hs
    exact lv_sipush hx hb hdc rfl (k H ls locs hl hLn hP hlo)
  | lconst n =>
    simp only [Bool.and_eq_true, decide_eq_true_eq] at hc
    obtain ⟨hv, hl1⟩ := hc
    obtain rfl := gb hl1
    subst hv
    cases hs
    exact lv_lconst hx hb hdc rfl (k H ls locs hl hLn hP hlo)
  | ldc i =>
    simp only [Bool.and_eq_true] at hc
    obtain ⟨hl1, hc⟩ := hc
    obtain rfl := gb hl1
    cases hs
    cases v with
    | int v => exact lv_ldc hx hb hown (hts _ (gw hc)) hdc (k H ls locs hl hLn hP hlo)
    | ref z =>
      cases hq : tt.2.2.1[w]? with
      | none => simp only [hq] at hc; cases hc
      | some q =>
        simp only [hq, Bool.and_eq_true, decide_eq_true_eq] at hc
        obtain ⟨⟨⟨h1, h2⟩, h3⟩, -⟩ := hc
        obtain ⟨g1, g2⟩ := hK.2.2.2.1 w q hq
        have e2 : q.2.1 = i := gb h2
        have e3 : q.2.2.2 = z := gb h3
        rw [h1, e2, e3] at g2
        rw [e3] at g1
        have kk := k H ls locs hl hLn hP hlo
        simp only [List.map_cons, gCv_old g1] at kk
        exact va_ldcS hx hb hown g2 hdc kk
    | _ => cases hc
  | ldc_w i =>
    simp only [Bool.and_eq_true] at hc
    obtain ⟨hl1, hc⟩ := hc
    obtain rfl := gb hl1
    cases hs
    cases v with
    | int v => exact lv_ldcw hx hb hown (hts _ (gw hc)) hdc (k H ls locs hl hLn hP hlo)
    | _ => cases hc
  | ldc2_w i =>
    simp only [Bool.and_eq_true] at hc
    obtain ⟨hl1, hc⟩ := hc
    obtain rfl := gb hl1
    cases hs
    cases v with
    | long v => exact lv_ldc2 hx hb hown (hts _ (gw hc)) hdc (k H ls locs hl hLn hP hlo)
    | _ => cases hc
  | getstatic i =>
    simp only [Bool.and_eq_true] at hc
    obtain ⟨hl1, hc⟩ := hc
    obtain rfl := gb hl1
    cases hs
    cases hq : tt.2.1[a]? with
    | none => simp only [hq] at hc; cases hc
    | some q =>
      simp only [hq, Bool.and_eq_true, decide_eq_true_eq] at hc
      obtain ⟨hv, hc⟩ := hc
      obtain ⟨cf, kf, fi, f, a1, cell, h1, h2, h3, h4, h5, h6, h7, h8⟩ := hK.2.2.1 a q hq
      rw [hv] at h7
      have h5' : H[a1]? = some cell := by rw [hP.2.2.2 a1 (Nat.lt_of_not_le h8)]; exact h5
      have kk := k H ls locs hl hLn hP hlo
      cases hbb : Nat.beq b 0 with
      | true =>
        simp only [hbb, cond_true] at hc
        exact W.gets hx hb hown (hts _ (gw hc)) h1 h2 h3 h4 h5' (fun e => by rw [e] at h6; cases h6) h7 rfl hdc kk
      | false =>
        simp only [hbb, cond_false] at hc
        cases hz : tt.2.2.2.1[w]? with
        | none => simp only [hz] at hc; cases hc
        | some z =>
          simp only [hz, Bool.and_eq_true, decide_eq_true_eq] at hc
          obtain ⟨⟨⟨⟨z1, z2⟩, z3⟩, z4⟩, z5⟩ := hc
          have g := hK.2.2.2.2.1 w z hz
          rw [z1, gb z2, z3, z4, z5] at g
          exact va_WgetsN hx hb hown (va_Nw.use rfl g) h1 h2 h3 h4 h5' (fun e => by rw [e] at h6; cases h6) h7 rfl hdc kk
  | aconst_null =>
    simp only [Bool.and_eq_true, decide_eq_true_eq] at hc
    obtain ⟨hv, hl1⟩ := hc
    obtain rfl := gb hl1
    subst hv
    cases hs
    exact lv_null hx hb hdc (k H ls locs hl hLn hP hlo)
  | iload_n j =>
    simp only [Bool.and_eq_true] at hc
    obtain ⟨ha, hl1⟩ := hc
    obtain rfl := gb hl1
    obtain rfl := gb ha
    obtain ⟨x0, hx0, rfl⟩ := gLdI_ok hs
    exact lv_iload_n hx hb hdc rfl (gAL_at hl hx0) (k H ls locs hl hLn hP hlo)
  | iload j =>
    simp only [Bool.and_eq_true] at hc
    obtain ⟨ha, hl1⟩ := hc
    obtain rfl := gb hl1
    obtain rfl := gb ha
    obtain ⟨x0, hx0, rfl⟩ := gLdI_ok hs
    exact lv_iload hx hb hdc (gAL_at hl hx0) (k H ls locs hl hLn hP hlo)
  | lload_n j =>
    simp only [Bool.and_eq_true] at hc
    obtain ⟨ha, hl1⟩ := hc
    obtain rfl := gb hl1
    obtain rfl := gb ha
    obtain ⟨x0, hx0, rfl⟩ := gLdL_ok hs
    exact lv_lload_n hx hb hdc rfl (gAL_at hl hx0) (k H ls locs hl hLn hP hlo)
  | lload j =>
    simp only [Bool.and_eq_true] at hc
    obtain ⟨ha, hl1⟩ := hc
    obtain rfl := gb hl1
    obtain rfl := gb ha
    obtain ⟨x0, hx0, rfl⟩ := gLdL_ok hs
    exact lv_lload hx hb hdc (gAL_at hl hx0) (k H ls locs hl hLn hP hlo)
  | aload_n j =>
    simp only [Bool.and_eq_true] at hc
    obtain ⟨ha, hl1⟩ := hc
    obtain rfl := gb hl1
    obtain rfl := gb ha
    obtain ⟨v0, hv0, hx0, rfl⟩ := gLdA_ok hs
    have h1 := gAL_at hl hx0
    have kk := k H ls locs hl hLn hP hlo
    simp only [List.map_cons] at kk
    rcases gCv_ref hA hv0 with ⟨y, hy⟩ | hy
    · rw [hy] at h1 kk
      exact lv_aload_n hx hb hdc rfl h1 kk
    · rw [hy] at h1 kk
      exact lv_aload_nN hx hb hdc rfl h1 kk
  | aload j =>
    simp only [Bool.and_eq_true] at hc
    obtain ⟨ha, hl1⟩ := hc
    obtain rfl := gb hl1
    obtain rfl := gb ha
    obtain ⟨v0, hv0, hx0, rfl⟩ := gLdA_ok hs
    have h1 := gAL_at hl hx0
    have kk := k H ls locs hl hLn hP hlo
    simp only [List.map_cons] at kk
    rcases gCv_ref hA hv0 with ⟨y, hy⟩ | hy
    · rw [hy] at h1 kk
      exact lv_aload hx hb hdc h1 kk
    · rw [hy] at h1 kk
      exact lv_aloadN hx hb hdc h1 kk
  | istore_n j =>
    simp only [Bool.and_eq_true] at hc
    obtain ⟨ha, hl1⟩ := hc
    obtain rfl := gb hl1
    obtain rfl := gb ha
    obtain ⟨x0, r, rfl, hlt, rfl⟩ := gStI_ok hs
    exact lv_istore_n hx hb hdc rfl hl (by rw [← hLn]; exact hlt) rfl (fun ls' h' => k H ls' locs (gSto_1 hA (v := .int x0) rfl h') (by rw [gSto_len]; exact hLn) hP hlo)
  | istore j =>
    simp only [Bool.and_eq_true] at hc
    obtain ⟨ha, hl1⟩ := hc
    obtain rfl := gb hl1
    obtain rfl := gb ha
    obtain ⟨x0, r, rfl, hlt, rfl⟩ := gStI_ok hs
    exact lv_istore hx hb hdc hl (by rw [← hLn]; exact hlt) rfl (fun ls' h' => k H ls' locs (gSto_1 hA (v := .int x0) rfl h') (by rw [gSto_len]; exact hLn) hP hlo)
  | lstore_n j =>
    simp only [Bool.and_eq_true] at hc
    obtain ⟨ha, hl1⟩ := hc
    obtain rfl := gb hl1
    obtain rfl := gb ha
    obtain ⟨x0, r, rfl, hlt, rfl⟩ := gStL_ok hs
    exact lv_lstore_n hx hb hdc rfl hl (by rw [← hLn]; exact hlt) rfl (fun ls' h' => k H ls' locs (gSto_2 hA (v := .long x0) rfl h') (by rw [gSto_len]; exact hLn) hP hlo)
  | lstore j =>
    simp only [Bool.and_eq_true] at hc
    obtain ⟨ha, hl1⟩ := hc
    obtain rfl := gb hl1
    obtain rfl := gb ha
    obtain ⟨x0, r, rfl, hlt, rfl⟩ := gStL_ok hs
    exact lv_lstore hx hb hdc hl (by rw [← hLn]; exact hlt) rfl (fun ls' h' => k H ls' locs (gSto_2 hA (v := .long x0) rfl h') (by rw [gSto_len]; exact hLn) hP hlo)
  | astore_n j =>
    simp only [Bool.and_eq_true] at hc
    obtain ⟨ha, hl1⟩ := hc
    obtain rfl := gb hl1
    obtain rfl := gb ha
    obtain ⟨v0, r, hv0, rfl, hlt, rfl⟩ := gStA_ok hs
    have h1 : v0.category = 1 := by rcases hv0 with ⟨y, rfl⟩ | rfl <;> rfl
    rw [List.map_cons]
    rcases gCv_ref hA hv0 with ⟨y, hy⟩ | hy
    · rw [hy]
      exact lv_astore_n hx hb hdc rfl hl (by rw [← hLn]; exact hlt) rfl (fun ls' h' => k H ls' locs (gSto_1 hA h1 (by rw [hy]; exact h')) (by rw [gSto_len]; exact hLn) hP hlo)
    · rw [hy]
      exact lv_astore_nN hx hb hdc rfl hl (by rw [← hLn]; exact hlt) rfl (fun ls' h' => k H ls' locs (gSto_1 hA h1 (by rw [hy]; exact h')) (by rw [gSto_len]; exact hLn) hP hlo)
  | astore j =>
    simp only [Bool.and_eq_true] at hc
    obtain ⟨ha, hl1⟩ := hc
    obtain rfl := gb hl1
    obtain rfl := gb ha
    obtain ⟨v0, r, hv0, rfl, hlt, rfl⟩ := gStA_ok hs
    have h1 : v0.category = 1 := by rcases hv0 with ⟨y, rfl⟩ | rfl <;> rfl
    rw [List.map_cons]
    rcases gCv_ref hA hv0 with ⟨y, hy⟩ | hy
    · rw [hy]
      exact lv_astore hx hb hdc hl (by rw [← hLn]; exact hlt) rfl (fun ls' h' => k H ls' locs (gSto_1 hA h1 (by rw [hy]; exact h')) (by rw [gSto_len]; exact hLn) hP hlo)
    · rw [hy]
      exact lv_astoreN hx hb hdc hl (by rw [← hLn]; exact hlt) rfl (fun ls' h' => k H ls' locs (gSto_1 hA h1 (by rw [hy]; exact h')) (by rw [gSto_len]; exact hLn) hP hlo)
  | iinc j n =>
    simp only [Bool.and_eq_true, decide_eq_true_eq] at hc
    obtain ⟨⟨ha, hl1⟩, hv⟩ := hc
    obtain rfl := gb hl1
    obtain rfl := gb ha
    subst hv
    simp only [gStep] at hs
    split at hs
    · rename_i x0 n0 hx0 hn0
      obtain ⟨h1, h2⟩ := gcond hs
      cases hn0
      cases h2
      have hg := gAL_at hl hx0
      obtain ⟨kq, hkq⟩ := List.getElem?_of_mem ((gAL_mem _ 0 (a, Value.int x0)).mpr ⟨.int x0, Nat.zero_le _, hx0, rfl⟩)
      exact lv_iinc hx hb hdc hl (k := kq) hkq rfl (by rw [← hLn]; exact glt h1) rfl (fun ls' h' => k H ls' locs (gSto_1 hA (v := .int (x0 + Int32.ofInt n)) rfl h') (by rw [gSto_len]; exact hLn) hP hlo)
    · cases hs
  | iadd =>
    obtain rfl := gb hc
    obtain ⟨x0, y0, r, rfl, rfl⟩ := gB2_ok hs
    exact lv_iadd hx hb hdc (k H ls locs hl hLn hP hlo)
  | isub =>
    obtain rfl := gb hc
    obtain ⟨x0, y0, r, rfl, rfl⟩ := gB2_ok hs
    exact lv_isub hx hb hdc (k H ls locs hl hLn hP hlo)
  | imul =>
    obtain rfl := gb hc
    obtain ⟨x0, y0, r, rfl, rfl⟩ := gB2_ok hs
    exact lv_imul hx hb hdc (k H ls locs hl hLn hP hlo)
  | iand =>
    obtain rfl := gb hc
    obtain ⟨x0, y0, r, rfl, rfl⟩ := gB2_ok hs
    exact lv_iand hx hb hdc (k H ls locs hl hLn hP hlo)
  | ior =>
    obtain rfl := gb hc
    obtain ⟨x0, y0, r, rfl, rfl⟩ := gB2_ok hs
    exact lv_ior hx hb hdc (k H ls locs hl hLn hP hlo)
  | ishl =>
    obtain rfl := gb hc
    obtain ⟨x0, y0, r, rfl, rfl⟩ := gB2_ok hs
    exact lv_ishl hx hb hdc (k H ls locs hl hLn hP hlo)
  | ishr =>
    obtain rfl := gb hc
    obtain ⟨x0, y0, r, rfl, rfl⟩ := gB2_ok hs
    exact lv_ishr hx hb hdc (k H ls locs hl hLn hP hlo)
  | iushr =>
    obtain rfl := gb hc
    obtain ⟨x0, y0, r, rfl, rfl⟩ := gB2_ok hs
    exact lv_iushr hx hb hdc rfl (k H ls locs hl hLn hP hlo)
  | ladd =>
    obtain rfl := gb hc
    obtain ⟨x0, y0, r, rfl, rfl⟩ := gB2L_ok hs
    exact lv_ladd hx hb hdc (k H ls locs hl hLn hP hlo)
  | lsub =>
    obtain rfl := gb hc
    obtain ⟨x0, y0, r, rfl, rfl⟩ := gB2L_ok hs
    exact lv_lsub hx hb hdc (k H ls locs hl hLn hP hlo)
  | lmul =>
    obtain rfl := gb hc
    obtain ⟨x0, y0, r, rfl, rfl⟩ := gB2L_ok hs
    exact lv_lmul hx hb hdc (k H ls locs hl hLn hP hlo)
  | land =>
    obtain rfl := gb hc
    obtain ⟨x0, y0, r, rfl, rfl⟩ := gB2L_ok hs
    exact lv_land hx hb hdc (k H ls locs hl hLn hP hlo)
  | lor =>
    obtain rfl := gb hc
    obtain ⟨x0, y0, r, rfl, rfl⟩ := gB2L_ok hs
    exact lv_lor hx hb hdc (k H ls locs hl hLn hP hlo)
  | idiv =>
    obtain rfl := gb hc
    simp only [gStep] at hs
    split at hs
    · rename_i y0 x0 r
      cases hz : decide (y0 = 0) with
      | true => simp only [hz, cond_true] at hs; cases hs
      | false =>
        simp only [hz, cond_false] at hs
        cases hs
        exact lv_idiv hx hb hdc (of_decide_eq_false hz) (k H ls locs hl hLn hP hlo)
    · cases hs
  | irem =>
    obtain rfl := gb hc
    simp only [gStep] at hs
    split at hs
    · rename_i y0 x0 r
      cases hz : decide (y0 = 0) with
      | true => simp only [hz, cond_true] at hs; cases hs
      | false =>
        simp only [hz, cond_false] at hs
        cases hs
        exact lv_irem hx hb hdc (of_decide_eq_false hz) (k H ls locs hl hLn hP hlo)
    · cases hs
  | ldiv =>
    obtain rfl := gb hc
    simp only [gStep] at hs
    split at hs
    · rename_i y0 x0 r
      cases hz : decide (y0 = 0) with
      | true => simp only [hz, cond_true] at hs; cases hs
      | false =>
        simp only [hz, cond_false] at hs
        cases hs
        exact lv_ldiv hx hb hdc (of_decide_eq_false hz) (k H ls locs hl hLn hP hlo)
    · cases hs
  | lrem =>
    obtain rfl := gb hc
    simp only [gStep] at hs
    split at hs
    · rename_i y0 x0 r
      cases hz : decide (y0 = 0) with
      | true => simp only [hz, cond_true] at hs; cases hs
      | false =>
        simp only [hz, cond_false] at hs
        cases hs
        exact lv_lrem hx hb hdc (of_decide_eq_false hz) (k H ls locs hl hLn hP hlo)
    · cases hs
  | lshl =>
    obtain rfl := gb hc
    simp only [gStep] at hs
    split at hs
    · rename_i y0 x0 r
      cases hs
      exact lv_lshl hx hb hdc rfl (k H ls locs hl hLn hP hlo)
    · cases hs
  | lcmp =>
    obtain rfl := gb hc
    simp only [gStep] at hs
    split at hs
    · rename_i y0 x0 r
      cases hs
      exact W.lcmp hx hb hdc (k H ls locs hl hLn hP hlo)
    · cases hs
  | ineg =>
    obtain rfl := gb hc
    simp only [gStep] at hs
    split at hs
    · rename_i x0 r
      cases hs
      exact lv_ineg hx hb hdc (k H ls locs hl hLn hP hlo)
    · cases hs
  | i2l =>
    obtain rfl := gb hc
    simp only [gStep] at hs
    split at hs
    · rename_i x0 r
      cases hs
      exact lv_i2l hx hb hdc rfl (k H ls locs hl hLn hP hlo)
    · cases hs
  | l2i =>
    obtain rfl := gb hc
    simp only [gStep] at hs
    split at hs
    · rename_i x0 r
      cases hs
      exact lv_l2i hx hb hdc rfl (k H ls locs hl hLn hP hlo)
    · cases hs
  | i2b =>
    obtain rfl := gb hc
    simp only [gStep] at hs
    split at hs
    · rename_i x0 r
      cases hs
      exact lv_i2b hx hb hdc rfl (k H ls locs hl hLn hP hlo)
    · cases hs
  | i2s =>
    obtain rfl := gb hc
    simp only [gStep] at hs
    split at hs
    · rename_i x0 r
      cases hs
      exact lv_i2s hx hb hdc rfl (k H ls locs hl hLn hP hlo)
    · cases hs
  | i2c =>
    obtain rfl := gb hc
    simp only [gStep] at hs
    split at hs
    · rename_i x0 r
      cases hs
      exact lv_i2c hx hb hdc rfl (k H ls locs hl hLn hP hlo)
    · cases hs
  | dup =>
    obtain rfl := gb hc
    simp only [gStep] at hs
    split at hs
    · rename_i x0 r
      obtain ⟨h1, h2⟩ := gcond hs
      cases h2
      exact lv_dup hx hb hdc (by rw [gCv_cat hA]; exact gb h1) (k H ls locs hl hLn hP hlo)
    · cases hs
  | dup2 =>
    obtain rfl := gb hc
    simp only [gStep] at hs
    split at hs
    · rename_i x0 y0 r
      obtain ⟨h1, h2⟩ := gcond hs
      cases h2
      simp only [Bool.and_eq_true] at h1
      exact lv_dup2_11 hx hb hdc (by rw [gCv_cat hA]; exact gb h1.1) (by rw [gCv_cat hA]; exact gb h1.2) (k H ls locs hl hLn hP hlo)
    · cases hs
  | pop =>
    obtain rfl := gb hc
    simp only [gStep] at hs
    split at hs
    · rename_i x0 r
      obtain ⟨h1, h2⟩ := gcond hs
      cases h2
      exact lv_pop hx hb hdc (by rw [gCv_cat hA]; exact gb h1) (k H ls locs hl hLn hP hlo)
    · cases hs
  | ifCond cd off =>
    simp only [Bool.and_eq_true, decide_eq_true_eq] at hc
    obtain ⟨hl1, ht⟩ := hc
    obtain rfl := gb hl1
    simp only [gStep] at hs
    split at hs
    · rename_i x0 r
      cases hs
      cases cd with
      | eq => exact lv_if_eq hx hb hdc ht (fun h => gGo_t (b := gCmp .eq _ _) (decide_eq_true h) k H ls locs hl hLn hP hlo) (fun h => gGo_f (b := gCmp .eq _ _) (decide_eq_false h) k H ls locs hl hLn hP hlo)
      | ne => exact lv_if_ne hx hb hdc ht (fun h => gGo_t (b := gCmp .ne _ _) (by simp [gCmp, h]) k H ls locs hl hLn hP hlo) (fun h => gGo_f (b := gCmp .ne _ _) (by simp [gCmp, h]) k H ls locs hl hLn hP hlo)
      | lt => exact lv_if_lt hx hb hdc ht (fun h => gGo_t (b := gCmp .lt _ _) (decide_eq_true h) k H ls locs hl hLn hP hlo) (fun h => gGo_f (b := gCmp .lt _ _) (decide_eq_false h) k H ls locs hl hLn hP hlo)
      | ge => exact lv_if_ge hx hb hdc ht (fun h => gGo_t (b := gCmp .ge _ _) (decide_eq_true h) k H ls locs hl hLn hP hlo) (fun h => gGo_f (b := gCmp .ge _ _) (decide_eq_false h) k H ls locs hl hLn hP hlo)
      | gt => exact lv_if_gt hx hb hdc ht (fun h => gGo_t (b := gCmp .gt _ _) (decide_eq_true h) k H ls locs hl hLn hP hlo) (fun h => gGo_f (b := gCmp .gt _ _) (decide_eq_false h) k H ls locs hl hLn hP hlo)
      | le => exact lv_if_le hx hb hdc ht (fun h => gGo_t (b := gCmp .le _ _) (decide_eq_true h) k H ls locs hl hLn hP hlo) (fun h => gGo_f (b := gCmp .le _ _) (decide_eq_false h) k H ls locs hl hLn hP hlo)
    · cases hs
  | if_icmp cd off =>
    simp only [Bool.and_eq_true, decide_eq_true_eq] at hc
    obtain ⟨hl1, ht⟩ := hc
    obtain rfl := gb hl1
    simp only [gStep] at hs
    split at hs
    · rename_i y0 x0 r
      cases hs
      cases cd with
      | eq => exact lv_icmp_eq hx hb hdc ht (fun h => gGo_t (b := gCmp .eq _ _) (decide_eq_true h) k H ls locs hl hLn hP hlo) (fun h => gGo_f (b := gCmp .eq _ _) (decide_eq_false h) k H ls locs hl hLn hP hlo)
      | ne => exact lv_icmp_ne hx hb hdc ht (fun h => gGo_t (b := gCmp .ne _ _) (by simp [gCmp, h]) k H ls locs hl hLn hP hlo) (fun h => gGo_f (b := gCmp .ne _ _) (by simp [gCmp, h]) k H ls locs hl hLn hP hlo)
      | lt => exact lv_icmp_lt hx hb hdc ht (fun h => gGo_t (b := gCmp .lt _ _) (decide_eq_true h) k H ls locs hl hLn hP hlo) (fun h => gGo_f (b := gCmp .lt _ _) (decide_eq_false h) k H ls locs hl hLn hP hlo)
      | ge => exact lv_icmp_ge hx hb hdc ht (fun h => gGo_t (b := gCmp .ge _ _) (decide_eq_true h) k H ls locs hl hLn hP hlo) (fun h => gGo_f (b := gCmp .ge _ _) (decide_eq_false h) k H ls locs hl hLn hP hlo)
      | gt => exact lv_icmp_gt hx hb hdc ht (fun h => gGo_t (b := gCmp .gt _ _) (decide_eq_true h) k H ls locs hl hLn hP hlo) (fun h => gGo_f (b := gCmp .gt _ _) (decide_eq_false h) k H ls locs hl hLn hP hlo)
      | le => exact lv_icmp_le hx hb hdc ht (fun h => gGo_t (b := gCmp .le _ _) (decide_eq_true h) k H ls locs hl hLn hP hlo) (fun h => gGo_f (b := gCmp .le _ _) (decide_eq_false h) k H ls locs hl hLn hP hlo)
    · cases hs
  | ifnull off =>
    simp only [Bool.and_eq_true, decide_eq_true_eq] at hc
    obtain ⟨hl1, ht⟩ := hc
    obtain rfl := gb hl1
    simp only [gStep] at hs
    split at hs
    · rename_i z r
      obtain ⟨h1, h2⟩ := gcond hs
      cases h2
      rw [List.map_cons, gCv_new hA (glt h1)]
      exact lv_ifnull hx hb hdc (k H ls locs hl hLn hP hlo)
    · rename_i r
      cases hs
      exact lv_ifnullN hx hb hdc ht (k H ls locs hl hLn hP hlo)
    · cases hs
  | ifnonnull off =>
    simp only [Bool.and_eq_true, decide_eq_true_eq] at hc
    obtain ⟨hl1, ht⟩ := hc
    obtain rfl := gb hl1
    simp only [gStep] at hs
    split at hs
    · rename_i z r
      obtain ⟨h1, h2⟩ := gcond hs
      cases h2
      rw [List.map_cons, gCv_new hA (glt h1)]
      exact lv_ifnonnull hx hb hdc ht (k H ls locs hl hLn hP hlo)
    · rename_i r
      cases hs
      exact lv_ifnonnullN hx hb hdc (k H ls locs hl hLn hP hlo)
    · cases hs
  | goto off =>
    simp only [Bool.and_eq_true, decide_eq_true_eq] at hc
    obtain ⟨hl1, ht⟩ := hc
    cases hs
    obtain rfl := gb hl1
    exact lv_goto hx hb hdc ht (k H ls locs hl hLn hP hlo)
  | tableswitch df lo hi offs =>
    simp only [Bool.and_eq_true, decide_eq_true_eq, List.all_eq_true] at hc
    obtain ⟨h0, hoff⟩ := hc
    simp only [gStep] at hs
    split at hs
    · rename_i x0 r
      split at hs
      · rename_i t ht
        cases hs
        unfold gSwT at ht
        cases hz : (decide (x0.toInt < lo) || decide (hi < x0.toInt)) with
        | true =>
          rw [hz, cond_true] at ht
          cases ht
          simp only [Bool.or_eq_true, decide_eq_true_eq] at hz
          exact lv_tableOut hx hb hdc hz (by omega) (k H ls locs hl hLn hP hlo)
        | false =>
          rw [hz, cond_false] at ht
          simp only [Bool.or_eq_false_iff, decide_eq_false_iff_not] at hz
          split at ht
          · rename_i o ho
            cases ht
            have h9 := hoff o (by rw [Array.mem_toList_iff]; exact Array.mem_of_getElem? ho)
            exact lv_tableIn hx hb hdc hz.1 hz.2 ho (by omega) (k H ls locs hl hLn hP hlo)
          · cases ht
      · cases hs
    · cases hs
  | getfield i =>
    simp only [Bool.and_eq_true] at hc
    obtain ⟨hl1, hc⟩ := hc
    obtain rfl := gb hl1
    simp only [gStep] at hs
    split at hs
    · rename_i q r
      split at hs
      · rename_i ci fs hat
        obtain ⟨h1, h2⟩ := gcond hs
        obtain rfl := gb h1
        split at h2
        · rename_i v0 hv0
          cases h2
          have kk := k H ls locs hl hLn hP hlo
          unfold gAt at hat
          cases hq9 : Nat.blt q 1000 with
          | true =>
            rw [hq9, cond_true] at hat
            have hcell := hP.2.2.1 q _ hat
            rw [List.map_cons, gCv_new hA (glt hq9)]
            obtain ⟨rr, hrr, -⟩ := id hcell
            have hci : ci < tt.1.length := (List.getElem?_eq_some_iff.mp hrr).1
            rw [show Nat.blt ci tt.1.length = true from Nat.ble_eq_true_of_le hci, cond_true] at hc
            obtain ⟨C, T, N⟩ := rr
            rw [hrr] at hc
            simp only [Bool.and_eq_true] at hc
            obtain ⟨c1, c2⟩ := hc
            obtain ⟨g1, g2, g3, g4, g5, g6, g7⟩ := gcl hrr (hCl ci _ hrr)
            exact va_get (Ts := gW) hx hb hts g1 hown hK.1 (g_at (q := (G.2.2.2.1 + q, .inr (ci, fs.map (gCv G)))) hcell) 0 rfl hrr b (glt c1) (hts _ (gw c2)) (fun _ h => h) (by show (fs.map (gCv G))[b]? = some (gCv G v0); rw [List.getElem?_map, hv0]; rfl) hdc kk
          | false =>
            rw [hq9, cond_false] at hat
            have hq8 : ¬ q < 1000 := fun h => by have h7 := Nat.ble_eq_true_of_le (show q + 1 ≤ 1000 from h); have h6 : Nat.blt q 1000 = true := h7; rw [h6] at hq9; cases hq9
            obtain ⟨h9, hoc⟩ := hK.2.1 _ _ hat
            obtain ⟨o1, o2, o3⟩ := hoc
            obtain ⟨qq, hqq, cf, kf, fi, f, cell, e1, e2, e3, e4, e5, e6⟩ := o3 b v0 hv0
            rw [show Nat.blt ci tt.1.length = false from Bool.eq_false_iff.mpr (fun h => by have := glt h; omega), cond_false] at hc
            rw [hqq] at hc
            rw [Nat.sub_add_cancel (Nat.le_of_not_lt hq8)] at e3 e6
            rw [List.map_cons, gCv_old (show q ≠ 1900 from fun hh => h9 (by rw [hh]))]
            exact W.getf hx hb hown (hts _ (gw hc)) e1 e2 (by rw [hP.2.2.2 _ (Nat.lt_of_not_le e6)]; exact e3) e4 e5 rfl rfl hdc kk
        · cases h2
      · cases hs
    · cases hs
  | putfield i =>
    simp only [Bool.and_eq_true] at hc
    obtain ⟨hl1, hc⟩ := hc
    obtain rfl := gb hl1
    simp only [gStep] at hs
    split at hs
    · rename_i v0 q r
      obtain ⟨hq9, h1⟩ := gcond hs
      split at h1
      · rename_i ci fs hat
        obtain ⟨h2, h3⟩ := gcond h1
        cases h3
        simp only [Bool.and_eq_true] at h2
        obtain ⟨⟨h2, h4⟩, h5⟩ := h2
        obtain rfl := gb h2
        have hcell := hP.2.2.1 q _ hat
        obtain ⟨rr, hrr, cell, q1, q2, q3, q4⟩ := id hcell
        obtain ⟨C, T, N⟩ := rr
        rw [hrr] at hc
        simp only [Bool.and_eq_true, Bool.or_eq_true, Bool.not_eq_true', decide_eq_true_eq] at hc
        obtain ⟨⟨c1, c2⟩, c3⟩ := hc
        have hk : b < N := glt c1
        obtain ⟨g1, g2, g3, g4, g5, g6, g7⟩ := gcl hrr (hCl ci _ hrr)
        have hap := va_apart (own := x.cls) (Ts := gW) hts g1 (fty ci) (fun k hk => (g6 k hk).1) g7 hK.1 hrr
        obtain ⟨hS, hfc, kC, hkC, hkind⟩ := hK.1.1 ci _ hrr
        obtain ⟨cf, kf, fi, f, hi, hsl⟩ := hS b hk
        have hst := (u_facts hfc hkC (u_lays (ws := gW) hts g1 hk) hi).1
        have hfit : narrow (fty ci b) (gCv G v0) = gCv G v0 ∧ fits (fty ci b) (gCv G v0) = true := gFits_ok hA h5
        rw [List.map_cons, List.map_cons, gCv_new hA (glt hq9)]
        have fin : ∀ H' : Heap, H'[G.2.2.2.1 + q]? = some (cell.setSlot f.slot (gCv G v0)) → H'.size = H.size → (∀ z, z ≠ G.2.2.2.1 + q → H'[z]? = H[z]?) → W p l e R s m args below meth c H' (locs ++ [⟨G.2.2.2.1 + q, f.slot⟩]) cells slots Q (F0 m (pc + 3) ls (r.map (gCv G))) := by
          intro H' e1 e2 e3
          refine k H' ls _ hl hLn (hP.put (List.getElem?_eq_some_iff.mp hat).1 e2 e3 ?_) ?_
          · refine ⟨_, hrr, ?_⟩
            show t_OB _ _ _ _ H' (vp_V ((fs.set b v0).map (gCv G)))
            rw [List.map_set]
            refine t_OB.to (V := updV (vp_V (fs.map (gCv G))) b (gCv G v0)) ⟨_, e1, q2, q3, ?_⟩ (fun j _ => vp_updV_set (by rw [List.length_map]; exact glt h4) (gCv G v0) j)
            rw [hsl]
            exact t_set q4 hap hk (gCv G v0)
          · intro z hz
            rcases List.mem_append.mp hz with hz | hz
            · exact hlo z hz
            · rw [List.mem_singleton.mp hz]
              exact Nat.le_add_right _ _
        rcases c3 with c3 | ⟨c3, c4⟩
        · have hlay := hts _ (g1 _ (u_in_lay hk))
          unfold u_lay at hlay
          rw [if_neg (by rw [c3]; decide)] at hlay
          have h6 := u_store hfc hkC hkind hlay hi (g6 b hk).1 hfit.1 hfit.2
          exact W.putK hx hb (f := f) ⟨hown, hts _ (gw c2), ⟨_, _, _, hi⟩, hst⟩ (by rw [q2]; exact h6) q1 q3 (by rw [hsl]; exact k2_hasslot (q4 b hk)) rfl rfl hdc fin
        · have h6 := u_fits hfc hkC hkind (u_lays (ws := gW) hts g1 hk) hi (g6 b hk).1 hfit.1 hfit.2
          by_cases hfin : (T b).2.2.2 = true
          · have hlay := hts _ (g1 _ (u_in_lay hk))
            unfold u_lay at hlay
            rw [if_pos hfin] at hlay
            have hcf : m.cls = cf := by
              obtain ⟨_, _, c', _, _, _, -, -, hf', -, -, -, hown2, -⟩ := Cond.laysFinal_spec hlay
              have e1 : c' = cf := by have := hi.symm.trans hf'; simp at this; exact this.1.symm
              rw [c4] at hown2
              rw [← e1]; exact Option.some.inj (hown.symm.trans hown2)
            exact W.putFinK hx hb hown (hts _ (gw c2)) hi hst hcf (hini c3) (by rw [q2]; exact h6) q1 q3 (by rw [hsl]; exact k2_hasslot (q4 b hk)) rfl rfl hdc fin
          · have hlay := hts _ (g1 _ (u_in_lay hk))
            unfold u_lay at hlay
            rw [if_neg hfin] at hlay
            have h6 := u_store hfc hkC hkind hlay hi (g6 b hk).1 hfit.1 hfit.2
            exact W.putK hx hb (f := f) ⟨hown, hts _ (gw c2), ⟨_, _, _, hi⟩, hst⟩ (by rw [q2]; exact h6) q1 q3 (by rw [hsl]; exact k2_hasslot (q4 b hk)) rfl rfl hdc fin
      · cases h1
    · cases hs
  | iaload =>
    obtain rfl := gb hc
    simp only [gStep] at hs
    split at hs
    · rename_i i q r
      split at hs
      · rename_i n f hat
        obtain ⟨h1, h2⟩ := gcond hs
        cases h2
        have kk := k H ls locs hl hLn hP hlo
        unfold gAt at hat
        cases hq9 : Nat.blt q 1000 with
        | true =>
          rw [hq9, cond_true] at hat
          obtain ⟨cA, a1, a2, a3⟩ := hP.2.2.1 q _ hat
          rw [List.map_cons, List.map_cons, gCv_new hA (glt hq9)]
          exact va_iald hx hb (g_K hK.1 a1 a2) (g_at (q := (G.2.2.2.1 + q, .inl (cA, n, .inl f))) a3) 0 0 rfl rfl (gIn_ok h1) hdc kk
        | false =>
          rw [hq9, cond_false] at hat
          have hq8 : ¬ q < 1000 := fun h => by have h7 := Nat.ble_eq_true_of_le (show q + 1 ≤ 1000 from h); have h6 : Nat.blt q 1000 = true := h7; rw [h6] at hq9; cases hq9
          obtain ⟨h9, cell, e1, e2, e3, e4, e5, e6, e7⟩ := hK.2.1 _ _ hat
          rw [Nat.sub_add_cancel (Nat.le_of_not_lt hq8)] at e1 e7
          rw [List.map_cons, List.map_cons, gCv_old (show q ≠ 1900 from fun hh => h9 (by rw [hh]))]
          have hin := gIn_ok h1
          have hlt : i.toNatClampNeg < n := Nat.not_le.mp fun z => hin (Or.inr z)
          exact W.iald (v := .int (f i.toNatClampNeg)) hx hb (by rw [hP.2.2.2 _ (Nat.lt_of_not_le e7)]; exact e1) e2 e3 (fun z => hin (z.imp id (fun z => Nat.le_trans e4 z))) (e6 _ hlt) rfl rfl hdc kk
      · cases hs
    · cases hs
  | baload =>
    obtain rfl := gb hc
    simp only [gStep] at hs
    split at hs
    · rename_i i q r
      split at hs
      · rename_i n f hat
        obtain ⟨h1, h2⟩ := gcond hs
        cases h2
        have kk := k H ls locs hl hLn hP hlo
        unfold gAt at hat
        cases hq9 : Nat.blt q 1000 with
        | true =>
          rw [hq9, cond_true] at hat
          obtain ⟨cA, a1, a2, a3⟩ := hP.2.2.1 q _ hat
          rw [List.map_cons, List.map_cons, gCv_new hA (glt hq9)]
          exact va_bald hx hb (g_K hK.1 a1 a2) (g_at (q := (G.2.2.2.1 + q, .inl (cA, n, .inl f))) a3) 0 0 rfl rfl (gIn_ok h1) hdc kk
        | false =>
          rw [hq9, cond_false] at hat
          have hq8 : ¬ q < 1000 := fun h => by have h7 := Nat.ble_eq_true_of_le (show q + 1 ≤ 1000 from h); have h6 : Nat.blt q 1000 = true := h7; rw [h6] at hq9; cases hq9
          obtain ⟨h9, cell, e1, e2, e3, e4, e5, e6, e7⟩ := hK.2.1 _ _ hat
          rw [Nat.sub_add_cancel (Nat.le_of_not_lt hq8)] at e1 e7
          rw [List.map_cons, List.map_cons, gCv_old (show q ≠ 1900 from fun hh => h9 (by rw [hh]))]
          have hin := gIn_ok h1
          have hlt : i.toNatClampNeg < n := Nat.not_le.mp fun z => hin (Or.inr z)
          exact W.bald (v := .int (f i.toNatClampNeg)) hx hb (by rw [hP.2.2.2 _ (Nat.lt_of_not_le e7)]; exact e1) e2 e3 (fun z => hin (z.imp id (fun z => Nat.le_trans e4 z))) (e6 _ hlt) rfl rfl hdc kk
      · cases hs
    · cases hs
  | caload =>
    obtain rfl := gb hc
    simp only [gStep] at hs
    split at hs
    · rename_i i q r
      split at hs
      · rename_i n f hat
        obtain ⟨h1, h2⟩ := gcond hs
        cases h2
        have kk := k H ls locs hl hLn hP hlo
        simp only [Bool.and_eq_true] at h1
        have hq9 := h1.1
        try (unfold gAt at hat; rw [hq9, cond_true] at hat)
        obtain ⟨cA, a1, a2, a3⟩ := hP.2.2.1 q _ hat
        rw [List.map_cons, List.map_cons, gCv_new hA (glt hq9)]
        exact va_cald hx hb (g_K hK.1 a1 a2) (g_at (q := (G.2.2.2.1 + q, .inl (cA, n, .inl f))) a3) 0 0 rfl rfl (gIn_ok h1.2) hdc kk
      · cases hs
    · cases hs
  | laload =>
    obtain rfl := gb hc
    simp only [gStep] at hs
    split at hs
    · rename_i i q r
      split at hs
      · rename_i n f hat
        obtain ⟨h1, h2⟩ := gcond hs
        cases h2
        have kk := k H ls locs hl hLn hP hlo
        simp only [Bool.and_eq_true] at h1
        have hq9 := h1.1
        try (unfold gAt at hat; rw [hq9, cond_true] at hat)
        obtain ⟨cA, a1, a2, a3⟩ := hP.2.2.1 q _ hat
        rw [List.map_cons, List.map_cons, gCv_new hA (glt hq9)]
        exact va_lald hx hb (g_K hK.1 a1 a2) (g_at (q := (G.2.2.2.1 + q, .inl (cA, n, .inr (.inl f)))) a3) 0 0 rfl rfl (gIn_ok h1.2) hdc kk
      · cases hs
    · cases hs
  | aaload =>
    obtain rfl := gb hc
    simp only [gStep] at hs
    split at hs
    · rename_i i q r
      split at hs
      · rename_i C n f hat
        obtain ⟨h1, h2⟩ := gcond hs
        simp only [Bool.and_eq_true] at h1
        have hq9 := h1.1
        have hin := gIn_ok h1.2
        have hlt : i.toNatClampNeg < n := Nat.not_le.mp fun z => hin (Or.inr z)
        obtain ⟨cA, a1, a2, a3⟩ := hP.2.2.1 q _ hat
        rw [List.map_cons, List.map_cons, gCv_new hA (glt hq9)]
        have go : ∀ v : Value, va_rf ((f i.toNatClampNeg).map G.2.1) = v → W p l e R s m args below meth c H locs cells slots Q (F0 m (pc + 1) ls (v :: r.map (gCv G))) → W p l e R s m args below meth c H locs cells slots Q (F0 m pc ls (.int i :: .ref (G.2.2.2.1 + q) :: r.map (gCv G))) := by
          intro v hv kk
          exact W.aald (v := v) hx hb a3 (a1 n (fun j => va_rf ((f j).map G.2.1))) rfl (fun z => by cases z) (by show ¬ (i < 0 ∨ (arrV _ _ _).slots.size ≤ _); rw [arrV_size]; exact hin) (by show (arrV cA n (fun j => va_rf ((f j).map G.2.1))).slots[i.toNatClampNeg]? = some v; rw [arrV_read _ _ hlt]; exact congrArg some hv) rfl rfl hdc kk
        split at h2
        · rename_i z hz
          obtain ⟨h3, h4⟩ := gcond h2
          cases h4
          have kk := k H ls locs hl hLn hP hlo
          simp only [List.map_cons, gCv_old (show z ≠ 1900 by have := glt h3; omega)] at kk
          exact go (.ref (G.2.1 z)) (by rw [hz]; rfl) kk
        · rename_i hz
          cases h2
          exact go .null (by rw [hz]; rfl) (k H ls locs hl hLn hP hlo)
      · cases hs
    · cases hs
  | iastore =>
    obtain rfl := gb hc
    simp only [gStep] at hs
    split at hs
    · rename_i x0 i q r
      split at hs
      · rename_i n f hat
        obtain ⟨h1, h2⟩ := gcond hs
        cases h2
        simp only [Bool.and_eq_true] at h1
        have hin := gIn_ok h1.2
        obtain ⟨cA, a1, a2, a3⟩ := hP.2.2.1 q _ hat
        rw [List.map_cons, List.map_cons, List.map_cons, gCv_new hA (glt h1.1)]
        refine W.iast hx hb a3 (a1 n (fun j => Value.int (f j))) (fun z => by cases z) (by show ¬ (i < 0 ∨ (arrV _ _ _).slots.size ≤ _); rw [arrV_size]; exact hin) rfl rfl hdc fun H1 e1 e2 e3 => ?_
        refine k H1 ls _ hl hLn (hP.put (List.getElem?_eq_some_iff.mp hat).1 e2 e3 ⟨cA, a1, a2, ?_⟩) ?_
        · rw [e1]
          show some ((arrV cA n (fun j => Value.int (f j))).setSlot i.toNatClampNeg (.int x0)) = some (arrV cA n (fun j => Value.int (upd f i.toNatClampNeg x0 j)))
          rw [arrV_store]
          congr 2
          funext z
          by_cases hz : z = i.toNatClampNeg
          · subst hz
            simp [updV, upd, vp_updL]
          · simp [updV, upd, vp_updL, hz]
        · intro z hz
          rcases List.mem_append.mp hz with hz | hz
          · exact hlo z hz
          · rw [List.mem_singleton.mp hz]
            exact Nat.le_add_right _ _
      · cases hs
    · cases hs
  | bastore =>
    obtain rfl := gb hc
    simp only [gStep] at hs
    split at hs
    · rename_i x0 i q r
      split at hs
      · rename_i n f hat
        obtain ⟨h1, h2⟩ := gcond hs
        cases h2
        simp only [Bool.and_eq_true] at h1
        have hin := gIn_ok h1.2
        obtain ⟨cA, a1, a2, a3⟩ := hP.2.2.1 q _ hat
        rw [List.map_cons, List.map_cons, List.map_cons, gCv_new hA (glt h1.1)]
        refine W.bast hx hb a3 (a1 n (fun j => Value.int (f j))) (fun z => by cases z) (by show ¬ (i < 0 ∨ (arrV _ _ _).slots.size ≤ _); rw [arrV_size]; exact hin) rfl rfl hdc fun H1 e1 e2 e3 => ?_
        refine k H1 ls _ hl hLn (hP.put (List.getElem?_eq_some_iff.mp hat).1 e2 e3 ⟨cA, a1, a2, ?_⟩) ?_
        · rw [e1]
          show some ((arrV cA n (fun j => Value.int (f j))).setSlot i.toNatClampNeg (.int x0.toInt8.toInt32)) = some (arrV cA n (fun j => Value.int (upd f i.toNatClampNeg x0.toInt8.toInt32 j)))
          rw [arrV_store]
          congr 2
          funext z
          by_cases hz : z = i.toNatClampNeg
          · subst hz
            simp [updV, upd, vp_updL]
          · simp [updV, upd, vp_updL, hz]
        · intro z hz
          rcases List.mem_append.mp hz with hz | hz
          · exact hlo z hz
          · rw [List.mem_singleton.mp hz]
            exact Nat.le_add_right _ _
      · cases hs
    · cases hs
  | castore =>
    obtain rfl := gb hc
    simp only [gStep] at hs
    split at hs
    · rename_i x0 i q r
      split at hs
      · rename_i n f hat
        obtain ⟨h1, h2⟩ := gcond hs
        cases h2
        simp only [Bool.and_eq_true] at h1
        have hin := gIn_ok h1.2
        obtain ⟨cA, a1, a2, a3⟩ := hP.2.2.1 q _ hat
        rw [List.map_cons, List.map_cons, List.map_cons, gCv_new hA (glt h1.1)]
        refine W.cast hx hb a3 (a1 n (fun j => Value.int (f j))) (fun z => by cases z) (by show ¬ (i < 0 ∨ (arrV _ _ _).slots.size ≤ _); rw [arrV_size]; exact hin) rfl rfl hdc fun H1 e1 e2 e3 => ?_
        refine k H1 ls _ hl hLn (hP.put (List.getElem?_eq_some_iff.mp hat).1 e2 e3 ⟨cA, a1, a2, ?_⟩) ?_
        · rw [e1]
          show some ((arrV cA n (fun j => Value.int (f j))).setSlot i.toNatClampNeg (.int x0.toUInt32.toUInt16.toUInt32.toInt32)) = some (arrV cA n (fun j => Value.int (upd f i.toNatClampNeg x0.toUInt32.toUInt16.toUInt32.toInt32 j)))
          rw [arrV_store]
          congr 2
          funext z
          by_cases hz : z = i.toNatClampNeg
          · subst hz
            simp [updV, upd, vp_updL]
          · simp [updV, upd, vp_updL, hz]
        · intro z hz
          rcases List.mem_append.mp hz with hz | hz
          · exact hlo z hz
          · rw [List.mem_singleton.mp hz]
            exact Nat.le_add_right _ _
      · cases hs
    · cases hs
  | lastore =>
    obtain rfl := gb hc
    simp only [gStep] at hs
    split at hs
    · rename_i x0 i q r
      split at hs
      · rename_i n f hat
        obtain ⟨h1, h2⟩ := gcond hs
        cases h2
        simp only [Bool.and_eq_true] at h1
        have hin := gIn_ok h1.2
        obtain ⟨cA, a1, a2, a3⟩ := hP.2.2.1 q _ hat
        rw [List.map_cons, List.map_cons, List.map_cons, gCv_new hA (glt h1.1)]
        refine W.last hx hb a3 (a1 n (fun j => Value.long (f j))) (fun z => by cases z) (by show ¬ (i < 0 ∨ (arrV _ _ _).slots.size ≤ _); rw [arrV_size]; exact hin) rfl rfl hdc fun H1 e1 e2 e3 => ?_
        refine k H1 ls _ hl hLn (hP.put (List.getElem?_eq_some_iff.mp hat).1 e2 e3 ⟨cA, a1, a2, ?_⟩) ?_
        · rw [e1]
          show some ((arrV cA n (fun j => Value.long (f j))).setSlot i.toNatClampNeg (.long x0)) = some (arrV cA n (fun j => Value.long (vp_updL f i.toNatClampNeg x0 j)))
          rw [arrV_store]
          congr 2
          funext z
          by_cases hz : z = i.toNatClampNeg
          · subst hz
            simp [updV, upd, vp_updL]
          · simp [updV, upd, vp_updL, hz]
        · intro z hz
          rcases List.mem_append.mp hz with hz | hz
          · exact hlo z hz
          · rw [List.mem_singleton.mp hz]
            exact Nat.le_add_right _ _
      · cases hs
    · cases hs
  | aastore =>
    obtain rfl := gb hc
    simp only [gStep] at hs
    split at hs
    · rename_i z i q r
      split at hs
      · rename_i C n f ci fs hat hat2
        obtain ⟨h1, h2⟩ := gcond hs
        cases h2
        simp only [Bool.and_eq_true, decide_eq_true_eq] at h1
        obtain ⟨⟨⟨hq9, hz9⟩, hin0⟩, hcn⟩ := h1
        have hin := gIn_ok hin0
        obtain ⟨cA, a1, a2, a3⟩ := hP.2.2.1 q _ hat
        obtain ⟨rr, hrr, cell, q1, q2, q3, q4⟩ := hP.2.2.1 z _ hat2
        obtain ⟨C9, T, N⟩ := rr
        obtain ⟨g1, g2, g3, g4, g5, g6, g7⟩ := gcl hrr (hCl ci _ hrr)
        have hCC : C9 = C := g4.symm.trans hcn
        subst hCC
        obtain ⟨kA, comp, b1, b2, b3, b4⟩ := a2
        obtain ⟨kcomp, hkc, -⟩ := Vm.findClass_spec b3
        obtain ⟨hS, hfc, kC, hkC, hkind⟩ := hK.1.1 ci _ hrr
        rw [List.map_cons, List.map_cons, List.map_cons, gCv_new hA (glt hq9), gCv_new hA (glt hz9)]
        refine W.aast hx hb a3 (fun _ h => by cases h) (fun h => by cases h) (k := kA) (kv := kC) (kcomp := kcomp) (comp := comp) (t := .object C9) b1 b2 rfl hkc ?_ q1 (fun _ h => by rw [q3] at h; cases h) (by rw [q2]; exact hkC) ?_ rfl rfl hdc fun H1 e1 e2 e3 => ?_
        · constructor
          · exact fun h => hin (Or.inl h)
          · show _ < (arrV _ _ _).slots.size
            rw [arrV_size]
            exact Nat.lt_of_not_le fun h => hin (Or.inr h)
        · have e9 : cell.cls = comp := by rw [q2]; exact Option.some.inj (hfc.symm.trans b3)
          rw [e9]
          exact va_asg _ _
        refine k H1 ls _ hl hLn (hP.put (List.getElem?_eq_some_iff.mp hat).1 e2 e3 ⟨cA, a1, ⟨kA, comp, b1, b2, b3, b4⟩, ?_⟩) ?_
        · rw [e1]
          show some ((arrV cA n (fun j => va_rf ((f j).map G.2.1))).setSlot i.toNatClampNeg (.ref (G.2.2.2.1 + z))) = some (arrV cA n (fun j => va_rf ((va_up f i.toNatClampNeg (some z) j).map G.2.1)))
          rw [arrV_store]
          congr 2
          funext y
          by_cases hy : y = i.toNatClampNeg
          · subst hy
            simp [updV, va_up, va_rf, hA.1 z (glt hz9)]
          · simp [updV, va_up, hy]
        · intro y hy
          rcases List.mem_append.mp hy with hy | hy
          · exact hlo y hy
          · rw [List.mem_singleton.mp hy]
            exact Nat.le_add_right _ _
      · cases hs
    · cases hs
  | arraylength =>
    obtain rfl := gb hc
    simp only [gStep] at hs
    split at hs
    · rename_i q r
      split at hs
      · rename_i ty n y hat
        cases hs
        have kk := k H ls locs hl hLn hP hlo
        unfold gAt at hat
        cases hq9 : Nat.blt q 1000 with
        | true =>
          rw [hq9, cond_true] at hat
          obtain ⟨cA, a1, a2, a3⟩ := hP.2.2.1 q _ hat
          rw [List.map_cons, gCv_new hA (glt hq9)]
          have e9 : (gCx G (n, y)).1 = n := by rcases y with f | f | f | f | f <;> rfl
          exact va_alen hx hb (g_K hK.1 a1 a2) (g_at (q := (G.2.2.2.1 + q, .inl (cA, gCx G (n, y)))) a3) 0 0 rfl rfl (by rw [e9]) hdc kk
        | false =>
          rw [hq9, cond_false] at hat
          have hq8 : ¬ q < 1000 := fun h => by have h7 := Nat.ble_eq_true_of_le (show q + 1 ≤ 1000 from h); have h6 : Nat.blt q 1000 = true := h7; rw [h6] at hq9; cases hq9
          obtain ⟨h9, hoc⟩ := hK.2.1 _ _ hat
          rcases y with f | f | f | f | f
          · obtain ⟨cell, e1, e2, e3, e4, e5, e6, e7⟩ := hoc
            rw [Nat.sub_add_cancel (Nat.le_of_not_lt hq8)] at e1 e7
            rw [List.map_cons, gCv_old (show q ≠ 1900 from fun hh => h9 (by rw [hh]))]
            exact W.alen hx hb (by rw [hP.2.2.2 _ (Nat.lt_of_not_le e7)]; exact e1) e2 e5 rfl rfl hdc kk
          · exact hoc.elim
          · exact hoc.elim
          · exact hoc.elim
          · exact hoc.elim
      · cases hs
    · cases hs
  | invokespecial i =>
    simp only [Bool.and_eq_true] at hc
    obtain ⟨hl1, hc⟩ := hc
    obtain rfl := gb hl1
    simp only [gStep] at hs
    obtain ⟨hb0, hs2⟩ := gcond hs
    rw [hb0, cond_true] at hc
    split at hs2
    · rename_i q r
      obtain ⟨h1, h2⟩ := gcond hs2
      cases h2
      simp only [Bool.and_eq_true] at h1
      have h3 := gle h1.2
      have h4 := glt h1.1.2
      have hsum : ((r.map (gCv G)).map fun v => v.category).sum ≤ 8 := by
        rw [List.map_map, show ((fun v => Value.category v) ∘ gCv G) = (fun v => v.category) from funext fun v => gCv_cat hA v]
        exact h3
      rw [List.map_cons, gCv_new hA (glt h1.1.1)]
      exact W.objInit hx hb hown (hts _ (gw hc)) (hts _ gAC.2.2.2.1) (hts _ gAC.2.2.2.2) rfl (by rw [hml]; exact hl.1) rfl hdc (by omega) (by show 2 * 0 + _ + 12 ≤ _; omega) (k H ls locs hl hLn hP hlo)
    · cases hs2
  | invokestatic i =>
    simp only [Bool.and_eq_true] at hc
    obtain ⟨hl1, hc⟩ := hc
    obtain rfl := gb hl1
    cases hb1 : Nat.beq b 1 with
    | true =>
     have hs2 := hs
     simp only [gStep, hb1, cond_true] at hs2
     clear hs
     rw [show Nat.beq b 0 = false by rw [gb hb1]; rfl, cond_false, hb1, cond_true] at hc
     split at hs2
     · rename_i n dp z sp q r
       split at hs2
       · rename_i n0 f n1 g hat hat2
         obtain ⟨h1, h2⟩ := gcond hs2
         cases h2
         simp only [Bool.and_eq_true, Bool.not_eq_true', decide_eq_false_iff_not] at h1
         obtain ⟨⟨⟨⟨⟨⟨⟨h4, h3⟩, hq9, hz9⟩, j1⟩, j2⟩, j3⟩, j4⟩, j5⟩ := h1
         have h3 := gle h3
         have h4 := glt h4
         have hsum : ((r.map (gCv G)).map fun v => v.category).sum ≤ 8 := by
           rw [List.map_map, show ((fun v => Value.category v) ∘ gCv G) = (fun v => v.category) from funext fun v => gCv_cat hA v]
           exact h3
         obtain ⟨cA, a1, a2, a3⟩ := hP.2.2.1 q _ hat
         obtain ⟨cB, b1, b2, b3⟩ := hP.2.2.1 z _ hat2
         simp only [List.map_cons]
         rw [gCv_new hA (glt hq9), gCv_new hA (glt hz9)]
         have hnf : nativeFrameWords "java/lang/System" "arraycopy" 5 ≤ 17 := by decide
         refine g_copy hx hb (by rw [hml]; exact hl.1.symm) hown (hts _ (gw hc)) (hts _ gAC.1) (hts _ gAC.2.1) (hts _ gAC.2.2.1) a3 b3 a1 b1 j1 j2 j3 (gle j4) (gle j5) (by omega) (by omega) hdc fun H1 L1 e1 e2 e3 e4 => ?_
         refine k H1 ls _ hl hLn (hP.put (List.getElem?_eq_some_iff.mp hat2).1 e2 e3 ⟨cB, b1, b2, e1⟩) ?_
         intro y hy
         rcases List.mem_append.mp hy with hy | hy
         · exact hlo y hy
         · show G.2.2.2.1 ≤ y.base
           rw [e4 y hy]
           exact Nat.le_add_right _ _
       · cases hs2
     · cases hs2
    | false =>
     have hs2 := hs
     simp only [gStep, hb1, cond_false] at hs2
     clear hs
     unfold gMath at hs2
     have hsum : ∀ r : List Value, Nat.ble (r.map fun v => v.category).sum 8 = true → ((r.map (gCv G)).map fun v => v.category).sum ≤ 8 := by
      intro r h3
      rw [List.map_map, show ((fun v => Value.category v) ∘ gCv G) = (fun v => v.category) from funext fun v => gCv_cat hA v]
      exact gle h3
     split at hs2
     · rename_i y0 x0 r
       obtain ⟨h1, h2⟩ := gcond hs2
       cases h2
       simp only [Bool.and_eq_true] at h1
       have h3 := hsum r h1.2
       have h4 := glt h1.1
       exact va_mmax hx hb (by rw [hml]; exact hl.1.symm) hown (hts _ (gw hc)) (hts _ gAM.2.1) (hts _ gAM.1) (hts _ gAM.2.2.1) (by omega) (by omega) hcs.1 hcs.2 hdc (k H ls locs hl hLn hP hlo)
     · rename_i y0 x0 r
       obtain ⟨h1, h2⟩ := gcond hs2
       cases h2
       simp only [Bool.and_eq_true] at h1
       have h3 := hsum r h1.2
       have h4 := glt h1.1
       exact va_mmin hx hb (by rw [hml]; exact hl.1.symm) hown (hts _ (gw hc)) (hts _ gAM.2.2.2.1) (hts _ gAM.1) (hts _ gAM.2.2.2.2.1) (by omega) (by omega) hcs.1 hcs.2 hdc (k H ls locs hl hLn hP hlo)
     · rename_i x0 r
       obtain ⟨h1, h2⟩ := gcond hs2
       cases h2
       simp only [Bool.and_eq_true] at h1
       have h3 := hsum r h1.2
       have h4 := glt h1.1
       exact va_mabs hx hb (by rw [hml]; exact hl.1.symm) hown (hts _ (gw hc)) (hts _ gAM.2.2.2.2.2.1) (hts _ gAM.1) (hts _ gAM.2.2.2.2.2.2.1) (by omega) (by omega) hcs.1 hcs.2 hdc (k H ls locs hl hLn hP hlo)
     · rename_i y0 x0 r
       obtain ⟨h1, h2⟩ := gcond hs2
       cases h2
       simp only [Bool.and_eq_true] at h1
       have h3 := hsum r h1.2
       have h4 := glt h1.1
       have hc2 : (Nat.beq 5 5 && gWd w (.methodLink x.cls i Lib.MathLoose.max_long.x)) = true := hc
       simp only [Bool.and_eq_true] at hc2
       exact va_mmax_long hx hb (by rw [hml]; exact hl.1.symm) hown (hts _ (gw hc2.2)) (hts _ gAM.2.2.2.2.2.2.2.1) (hts _ gAM.1) (hts _ gAM.2.2.2.2.2.2.2.2) (by omega) (by omega) hcs.1 hcs.2 hdc (k H ls locs hl hLn hP hlo)
     · cases hs2
  | _ => exact absurd hs (by simp [gStep])
end G7
