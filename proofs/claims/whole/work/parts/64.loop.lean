/-! THE LAW'S LOOP -/
def zLo (i : Int32) : gL := [some (.ref 1000), some (.ref 0), some (.ref 63), some (.int i)]
def zX (L : Nat) (xs : Nat → Int32) (pc : Nat) (K : gL) (st : List Value) (M : List gE) : Prop := ∃ M', hX (gO L xs) 12 zR_223 pc K st M (some (.int 1)) M'
theorem hCal_of {O : Nat → Option gE} {r r' : gR} {pc : Nat} {st vals rest : List Value} {M : List gE} (e : gI) (hf : gFe r pc = some e) (hi : gIsCal e = true) (ht : gTb0 e.2.2.1 = some r') (hn : Nat.ble r'.2.2.1 st.length = true) (hv : (st.take r'.2.2.1).reverse = vals) (hd : st.drop r'.2.2.1 = rest) (hs : Nat.ble (rest.map fun v => v.category).sum 8 = true) (hl : Nat.ble (gArgs vals).length r'.1.2.2.1 = true) (hr : gRecv O r' vals M = true) : hCal O r pc st M = some (r', vals, rest) := by
  subst hv; subst hd
  unfold hCal
  rw [hf]
  dsimp only
  unfold gCal
  rw [hi, ht]
  dsimp only [cond_true]
  rw [hn, hs, hr, hl]
  rfl
theorem zIn {n k L : Nat} (h : n + k < L) (hL : L ≤ 3072) : gIn (nI n + nI k) L = true := by
  rw [nI_add]
  exact jin h (by omega)
theorem zCmp (x : Int64) : lg_cmp x x = 0 := by
  have h : ¬ x < x := fun h => by have := Int64.lt_iff_toInt_lt.mp h; omega
  unfold lg_cmp
  first | (rw [if_neg h, if_pos rfl]; done) | (rw [if_neg h, if_neg h]; done) | (simp [h]; done)
theorem w_0 {L : Nat} {xs : Nat → Int32} {i : Int32} {M : List gE} (hg : gIn (i + 1) L = true ∧ gIn (i + 2) L = true ∧ gIn (i + 3) L = true ∧ gIn (i + 4) L = true ∧ gIn (i + 5) L = true) (hZ : jZ M) (K : ∀ M2, jZ M2 → zX L xs 1599 (zLo i) [] M2) : zX L xs 248 (zLo i) [] M := by
  obtain ⟨v, M1, M2, r1, c1, r2, c2, hZ2⟩ := z_pull (L := L) (xs := xs) (xs (i + 1).toNatClampNeg) hZ
  obtain ⟨M9, k⟩ := K M2 hZ2
  refine ⟨M9, ?_⟩
  refine hX_goM 5 253 (zLo i) [.int (i + 1), .ref 1000, .ref 0] rfl ?_
  refine hX_gM (gIn (i + 1) L) 254 (zLo i) [.int (xs (i + 1).toNatClampNeg), .ref 0] rfl hg.1 ?_
  refine hX_call (d := 11) (r' := zR_61) (vals := [.ref 0, .int (xs (i + 1).toNatClampNeg)]) (rest := []) (M1 := M1) (v1 := some (.int v)) (hCal_of _ rfl rfl rfl rfl rfl rfl rfl rfl r1) c1 ?_
  refine hX_goM 5 262 (zLo i) [.int (i + 1), .ref 1000, .ref 63, .int v] rfl ?_
  refine hX_gM (gIn (i + 1) L) 263 (zLo i) [.int (xs (i + 1).toNatClampNeg), .ref 63, .int v] rfl hg.1 ?_
  refine hX_call (d := 11) (r' := zR_139) (vals := [.ref 63, .int (xs (i + 1).toNatClampNeg)]) (rest := [.int v]) (M1 := M2) (v1 := some (.int v)) (hCal_of _ rfl rfl rfl rfl rfl rfl rfl rfl r2) c2 ?_
  refine hX_goM 1 (bif gCmp .eq v v then 1599 else 269) (zLo i) [] rfl ?_
  exact hX_ifT _ (decide_eq_true rfl) k
theorem w_1 {L : Nat} {xs : Nat → Int32} {i : Int32} {M : List gE} (hg : gIn (i + 1) L = true ∧ gIn (i + 2) L = true ∧ gIn (i + 3) L = true ∧ gIn (i + 4) L = true ∧ gIn (i + 5) L = true) (hZ : jZ M) (K : ∀ M2, jZ M2 → zX L xs 1599 (zLo i) [] M2) : zX L xs 271 (zLo i) [] M := by
  obtain ⟨v, M1, M2, r1, c1, r2, c2, hZ2⟩ := z_of (L := L) (xs := xs) (xs (i + 1).toNatClampNeg) (xs (i + 2).toNatClampNeg) hZ
  obtain ⟨M9, k⟩ := K M2 hZ2
  refine ⟨M9, ?_⟩
  refine hX_goM 5 276 (zLo i) [.int (i + 1), .ref 1000, .ref 0] rfl ?_
  refine hX_gM (gIn (i + 1) L) 277 (zLo i) [.int (xs (i + 1).toNatClampNeg), .ref 0] rfl hg.1 ?_
  refine hX_goM 4 281 (zLo i) [.int (i + 2), .ref 1000, .int (xs (i + 1).toNatClampNeg), .ref 0] rfl ?_
  refine hX_gM (gIn (i + 2) L) 282 (zLo i) [.int (xs (i + 2).toNatClampNeg), .int (xs (i + 1).toNatClampNeg), .ref 0] rfl hg.2.1 ?_
  refine hX_call (d := 11) (r' := zR_62) (vals := [.ref 0, .int (xs (i + 1).toNatClampNeg), .int (xs (i + 2).toNatClampNeg)]) (rest := []) (M1 := M1) (v1 := some (.int v)) (hCal_of _ rfl rfl rfl rfl rfl rfl rfl rfl r1) c1 ?_
  refine hX_goM 5 290 (zLo i) [.int (i + 1), .ref 1000, .ref 63, .int v] rfl ?_
  refine hX_gM (gIn (i + 1) L) 291 (zLo i) [.int (xs (i + 1).toNatClampNeg), .ref 63, .int v] rfl hg.1 ?_
  refine hX_goM 4 295 (zLo i) [.int (i + 2), .ref 1000, .int (xs (i + 1).toNatClampNeg), .ref 63, .int v] rfl ?_
  refine hX_gM (gIn (i + 2) L) 296 (zLo i) [.int (xs (i + 2).toNatClampNeg), .int (xs (i + 1).toNatClampNeg), .ref 63, .int v] rfl hg.2.1 ?_
  refine hX_call (d := 11) (r' := zR_140) (vals := [.ref 63, .int (xs (i + 1).toNatClampNeg), .int (xs (i + 2).toNatClampNeg)]) (rest := [.int v]) (M1 := M2) (v1 := some (.int v)) (hCal_of _ rfl rfl rfl rfl rfl rfl rfl rfl r2) c2 ?_
  refine hX_goM 1 (bif gCmp .eq v v then 1599 else 302) (zLo i) [] rfl ?_
  exact hX_ifT _ (decide_eq_true rfl) k
theorem w_2 {L : Nat} {xs : Nat → Int32} {i : Int32} {M : List gE} (hg : gIn (i + 1) L = true ∧ gIn (i + 2) L = true ∧ gIn (i + 3) L = true ∧ gIn (i + 4) L = true ∧ gIn (i + 5) L = true) (hZ : jZ M) (K : ∀ M2, jZ M2 → zX L xs 1599 (zLo i) [] M2) : zX L xs 304 (zLo i) [] M := by
  obtain ⟨v, M1, M2, r1, c1, r2, c2, hZ2⟩ := z_change (L := L) (xs := xs) (xs (i + 1).toNatClampNeg) (xs (i + 2).toNatClampNeg) (xs (i + 3).toNatClampNeg) hZ
  obtain ⟨M9, k⟩ := K M2 hZ2
  refine ⟨M9, ?_⟩
  refine hX_goM 5 309 (zLo i) [.int (i + 1), .ref 1000, .ref 0] rfl ?_
  refine hX_gM (gIn (i + 1) L) 310 (zLo i) [.int (xs (i + 1).toNatClampNeg), .ref 0] rfl hg.1 ?_
  refine hX_goM 4 314 (zLo i) [.int (i + 2), .ref 1000, .int (xs (i + 1).toNatClampNeg), .ref 0] rfl ?_
  refine hX_gM (gIn (i + 2) L) 315 (zLo i) [.int (xs (i + 2).toNatClampNeg), .int (xs (i + 1).toNatClampNeg), .ref 0] rfl hg.2.1 ?_
  refine hX_goM 4 319 (zLo i) [.int (i + 3), .ref 1000, .int (xs (i + 2).toNatClampNeg), .int (xs (i + 1).toNatClampNeg), .ref 0] rfl ?_
  refine hX_gM (gIn (i + 3) L) 320 (zLo i) [.int (xs (i + 3).toNatClampNeg), .int (xs (i + 2).toNatClampNeg), .int (xs (i + 1).toNatClampNeg), .ref 0] rfl hg.2.2.1 ?_
  refine hX_call (d := 11) (r' := zR_63) (vals := [.ref 0, .int (xs (i + 1).toNatClampNeg), .int (xs (i + 2).toNatClampNeg), .int (xs (i + 3).toNatClampNeg)]) (rest := []) (M1 := M1) (v1 := some (.int v)) (hCal_of _ rfl rfl rfl rfl rfl rfl rfl rfl r1) c1 ?_
  refine hX_goM 5 328 (zLo i) [.int (i + 1), .ref 1000, .ref 63, .int v] rfl ?_
  refine hX_gM (gIn (i + 1) L) 329 (zLo i) [.int (xs (i + 1).toNatClampNeg), .ref 63, .int v] rfl hg.1 ?_
  refine hX_goM 4 333 (zLo i) [.int (i + 2), .ref 1000, .int (xs (i + 1).toNatClampNeg), .ref 63, .int v] rfl ?_
  refine hX_gM (gIn (i + 2) L) 334 (zLo i) [.int (xs (i + 2).toNatClampNeg), .int (xs (i + 1).toNatClampNeg), .ref 63, .int v] rfl hg.2.1 ?_
  refine hX_goM 4 338 (zLo i) [.int (i + 3), .ref 1000, .int (xs (i + 2).toNatClampNeg), .int (xs (i + 1).toNatClampNeg), .ref 63, .int v] rfl ?_
  refine hX_gM (gIn (i + 3) L) 339 (zLo i) [.int (xs (i + 3).toNatClampNeg), .int (xs (i + 2).toNatClampNeg), .int (xs (i + 1).toNatClampNeg), .ref 63, .int v] rfl hg.2.2.1 ?_
  refine hX_call (d := 11) (r' := zR_141) (vals := [.ref 63, .int (xs (i + 1).toNatClampNeg), .int (xs (i + 2).toNatClampNeg), .int (xs (i + 3).toNatClampNeg)]) (rest := [.int v]) (M1 := M2) (v1 := some (.int v)) (hCal_of _ rfl rfl rfl rfl rfl rfl rfl rfl r2) c2 ?_
  refine hX_goM 1 (bif gCmp .eq v v then 1599 else 345) (zLo i) [] rfl ?_
  exact hX_ifT _ (decide_eq_true rfl) k
theorem w_3 {L : Nat} {xs : Nat → Int32} {i : Int32} {M : List gE} (hg : gIn (i + 1) L = true ∧ gIn (i + 2) L = true ∧ gIn (i + 3) L = true ∧ gIn (i + 4) L = true ∧ gIn (i + 5) L = true) (hZ : jZ M) (K : ∀ M2, jZ M2 → zX L xs 1599 (zLo i) [] M2) : zX L xs 347 (zLo i) [] M := by
  obtain ⟨v, M1, M2, r1, c1, r2, c2, hZ2⟩ := z_rule (L := L) (xs := xs) (xs (i + 1).toNatClampNeg) (xs (i + 2).toNatClampNeg) hZ
  obtain ⟨M9, k⟩ := K M2 hZ2
  refine ⟨M9, ?_⟩
  refine hX_goM 5 352 (zLo i) [.int (i + 1), .ref 1000, .ref 0] rfl ?_
  refine hX_gM (gIn (i + 1) L) 353 (zLo i) [.int (xs (i + 1).toNatClampNeg), .ref 0] rfl hg.1 ?_
  refine hX_goM 4 357 (zLo i) [.int (i + 2), .ref 1000, .int (xs (i + 1).toNatClampNeg), .ref 0] rfl ?_
  refine hX_gM (gIn (i + 2) L) 358 (zLo i) [.int (xs (i + 2).toNatClampNeg), .int (xs (i + 1).toNatClampNeg), .ref 0] rfl hg.2.1 ?_
  refine hX_call (d := 11) (r' := zR_64) (vals := [.ref 0, .int (xs (i + 1).toNatClampNeg), .int (xs (i + 2).toNatClampNeg)]) (rest := []) (M1 := M1) (v1 := some (.int v)) (hCal_of _ rfl rfl rfl rfl rfl rfl rfl rfl r1) c1 ?_
  refine hX_goM 5 366 (zLo i) [.int (i + 1), .ref 1000, .ref 63, .int v] rfl ?_
  refine hX_gM (gIn (i + 1) L) 367 (zLo i) [.int (xs (i + 1).toNatClampNeg), .ref 63, .int v] rfl hg.1 ?_
  refine hX_goM 4 371 (zLo i) [.int (i + 2), .ref 1000, .int (xs (i + 1).toNatClampNeg), .ref 63, .int v] rfl ?_
  refine hX_gM (gIn (i + 2) L) 372 (zLo i) [.int (xs (i + 2).toNatClampNeg), .int (xs (i + 1).toNatClampNeg), .ref 63, .int v] rfl hg.2.1 ?_
  refine hX_call (d := 11) (r' := zR_143) (vals := [.ref 63, .int (xs (i + 1).toNatClampNeg), .int (xs (i + 2).toNatClampNeg)]) (rest := [.int v]) (M1 := M2) (v1 := some (.int v)) (hCal_of _ rfl rfl rfl rfl rfl rfl rfl rfl r2) c2 ?_
  refine hX_goM 1 (bif gCmp .eq v v then 1599 else 378) (zLo i) [] rfl ?_
  exact hX_ifT _ (decide_eq_true rfl) k
theorem w_4 {L : Nat} {xs : Nat → Int32} {i : Int32} {M : List gE} (hg : gIn (i + 1) L = true ∧ gIn (i + 2) L = true ∧ gIn (i + 3) L = true ∧ gIn (i + 4) L = true ∧ gIn (i + 5) L = true) (hZ : jZ M) (K : ∀ M2, jZ M2 → zX L xs 1599 (zLo i) [] M2) : zX L xs 380 (zLo i) [] M := by
  obtain ⟨v, M1, M2, r1, c1, r2, c2, hZ2⟩ := z_ruled (L := L) (xs := xs) (xs (i + 1).toNatClampNeg) hZ
  obtain ⟨M9, k⟩ := K M2 hZ2
  refine ⟨M9, ?_⟩
  refine hX_goM 5 385 (zLo i) [.int (i + 1), .ref 1000, .ref 0] rfl ?_
  refine hX_gM (gIn (i + 1) L) 386 (zLo i) [.int (xs (i + 1).toNatClampNeg), .ref 0] rfl hg.1 ?_
  refine hX_call (d := 11) (r' := zR_65) (vals := [.ref 0, .int (xs (i + 1).toNatClampNeg)]) (rest := []) (M1 := M1) (v1 := some (.int v)) (hCal_of _ rfl rfl rfl rfl rfl rfl rfl rfl r1) c1 ?_
  refine hX_goM 5 394 (zLo i) [.int (i + 1), .ref 1000, .ref 63, .int v] rfl ?_
  refine hX_gM (gIn (i + 1) L) 395 (zLo i) [.int (xs (i + 1).toNatClampNeg), .ref 63, .int v] rfl hg.1 ?_
  refine hX_call (d := 11) (r' := zR_144) (vals := [.ref 63, .int (xs (i + 1).toNatClampNeg)]) (rest := [.int v]) (M1 := M2) (v1 := some (.int v)) (hCal_of _ rfl rfl rfl rfl rfl rfl rfl rfl r2) c2 ?_
  refine hX_goM 1 (bif gCmp .eq v v then 1599 else 401) (zLo i) [] rfl ?_
  exact hX_ifT _ (decide_eq_true rfl) k
theorem w_5 {L : Nat} {xs : Nat → Int32} {i : Int32} {M : List gE} (hg : gIn (i + 1) L = true ∧ gIn (i + 2) L = true ∧ gIn (i + 3) L = true ∧ gIn (i + 4) L = true ∧ gIn (i + 5) L = true) (hZ : jZ M) (K : ∀ M2, jZ M2 → zX L xs 1599 (zLo i) [] M2) : zX L xs 403 (zLo i) [] M := by
  obtain ⟨v, M1, M2, r1, c1, r2, c2, hZ2⟩ := z_price (L := L) (xs := xs) (xs (i + 1).toNatClampNeg) (xs (i + 2).toNatClampNeg) hZ
  obtain ⟨M9, k⟩ := K M2 hZ2
  refine ⟨M9, ?_⟩
  refine hX_goM 5 408 (zLo i) [.int (i + 1), .ref 1000, .ref 0] rfl ?_
  refine hX_gM (gIn (i + 1) L) 409 (zLo i) [.int (xs (i + 1).toNatClampNeg), .ref 0] rfl hg.1 ?_
  refine hX_goM 4 413 (zLo i) [.int (i + 2), .ref 1000, .int (xs (i + 1).toNatClampNeg), .ref 0] rfl ?_
  refine hX_gM (gIn (i + 2) L) 414 (zLo i) [.int (xs (i + 2).toNatClampNeg), .int (xs (i + 1).toNatClampNeg), .ref 0] rfl hg.2.1 ?_
  refine hX_call (d := 11) (r' := zR_66) (vals := [.ref 0, .int (xs (i + 1).toNatClampNeg), .int (xs (i + 2).toNatClampNeg)]) (rest := []) (M1 := M1) (v1 := some (.int v)) (hCal_of _ rfl rfl rfl rfl rfl rfl rfl rfl r1) c1 ?_
  refine hX_goM 5 422 (zLo i) [.int (i + 1), .ref 1000, .ref 63, .int v] rfl ?_
  refine hX_gM (gIn (i + 1) L) 423 (zLo i) [.int (xs (i + 1).toNatClampNeg), .ref 63, .int v] rfl hg.1 ?_
  refine hX_goM 4 427 (zLo i) [.int (i + 2), .ref 1000, .int (xs (i + 1).toNatClampNeg), .ref 63, .int v] rfl ?_
  refine hX_gM (gIn (i + 2) L) 428 (zLo i) [.int (xs (i + 2).toNatClampNeg), .int (xs (i + 1).toNatClampNeg), .ref 63, .int v] rfl hg.2.1 ?_
  refine hX_call (d := 11) (r' := zR_145) (vals := [.ref 63, .int (xs (i + 1).toNatClampNeg), .int (xs (i + 2).toNatClampNeg)]) (rest := [.int v]) (M1 := M2) (v1 := some (.int v)) (hCal_of _ rfl rfl rfl rfl rfl rfl rfl rfl r2) c2 ?_
  refine hX_goM 1 (bif gCmp .eq v v then 1599 else 434) (zLo i) [] rfl ?_
  exact hX_ifT _ (decide_eq_true rfl) k
theorem w_6 {L : Nat} {xs : Nat → Int32} {i : Int32} {M : List gE} (hg : gIn (i + 1) L = true ∧ gIn (i + 2) L = true ∧ gIn (i + 3) L = true ∧ gIn (i + 4) L = true ∧ gIn (i + 5) L = true) (hZ : jZ M) (K : ∀ M2, jZ M2 → zX L xs 1599 (zLo i) [] M2) : zX L xs 436 (zLo i) [] M := by
  obtain ⟨v, M1, M2, r1, c1, r2, c2, hZ2⟩ := z_up (L := L) (xs := xs) (xs (i + 1).toNatClampNeg) (xs (i + 2).toNatClampNeg) hZ
  obtain ⟨M9, k⟩ := K M2 hZ2
  refine ⟨M9, ?_⟩
  refine hX_goM 5 441 (zLo i) [.int (i + 1), .ref 1000, .ref 0] rfl ?_
  refine hX_gM (gIn (i + 1) L) 442 (zLo i) [.int (xs (i + 1).toNatClampNeg), .ref 0] rfl hg.1 ?_
  refine hX_goM 4 446 (zLo i) [.int (i + 2), .ref 1000, .int (xs (i + 1).toNatClampNeg), .ref 0] rfl ?_
  refine hX_gM (gIn (i + 2) L) 447 (zLo i) [.int (xs (i + 2).toNatClampNeg), .int (xs (i + 1).toNatClampNeg), .ref 0] rfl hg.2.1 ?_
  refine hX_call (d := 11) (r' := zR_67) (vals := [.ref 0, .int (xs (i + 1).toNatClampNeg), .int (xs (i + 2).toNatClampNeg)]) (rest := []) (M1 := M1) (v1 := some (.int v)) (hCal_of _ rfl rfl rfl rfl rfl rfl rfl rfl r1) c1 ?_
  refine hX_goM 5 455 (zLo i) [.int (i + 1), .ref 1000, .ref 63, .int v] rfl ?_
  refine hX_gM (gIn (i + 1) L) 456 (zLo i) [.int (xs (i + 1).toNatClampNeg), .ref 63, .int v] rfl hg.1 ?_
  refine hX_goM 4 460 (zLo i) [.int (i + 2), .ref 1000, .int (xs (i + 1).toNatClampNeg), .ref 63, .int v] rfl ?_
  refine hX_gM (gIn (i + 2) L) 461 (zLo i) [.int (xs (i + 2).toNatClampNeg), .int (xs (i + 1).toNatClampNeg), .ref 63, .int v] rfl hg.2.1 ?_
  refine hX_call (d := 11) (r' := zR_147) (vals := [.ref 63, .int (xs (i + 1).toNatClampNeg), .int (xs (i + 2).toNatClampNeg)]) (rest := [.int v]) (M1 := M2) (v1 := some (.int v)) (hCal_of _ rfl rfl rfl rfl rfl rfl rfl rfl r2) c2 ?_
  refine hX_goM 1 (bif gCmp .eq v v then 1599 else 467) (zLo i) [] rfl ?_
  exact hX_ifT _ (decide_eq_true rfl) k
theorem w_7 {L : Nat} {xs : Nat → Int32} {i : Int32} {M : List gE} (hg : gIn (i + 1) L = true ∧ gIn (i + 2) L = true ∧ gIn (i + 3) L = true ∧ gIn (i + 4) L = true ∧ gIn (i + 5) L = true) (hZ : jZ M) (K : ∀ M2, jZ M2 → zX L xs 1599 (zLo i) [] M2) : zX L xs 469 (zLo i) [] M := by
  obtain ⟨v, M1, M2, r1, c1, r2, c2, hZ2⟩ := z_does (L := L) (xs := xs) (xs (i + 1).toNatClampNeg) hZ
  obtain ⟨M9, k⟩ := K M2 hZ2
  refine ⟨M9, ?_⟩
  refine hX_goM 5 474 (zLo i) [.int (i + 1), .ref 1000, .ref 0] rfl ?_
  refine hX_gM (gIn (i + 1) L) 475 (zLo i) [.int (xs (i + 1).toNatClampNeg), .ref 0] rfl hg.1 ?_
  refine hX_call (d := 11) (r' := zR_68) (vals := [.ref 0, .int (xs (i + 1).toNatClampNeg)]) (rest := []) (M1 := M1) (v1 := some (.int v)) (hCal_of _ rfl rfl rfl rfl rfl rfl rfl rfl r1) c1 ?_
  refine hX_goM 5 483 (zLo i) [.int (i + 1), .ref 1000, .ref 63, .int v] rfl ?_
  refine hX_gM (gIn (i + 1) L) 484 (zLo i) [.int (xs (i + 1).toNatClampNeg), .ref 63, .int v] rfl hg.1 ?_
  refine hX_call (d := 11) (r' := zR_149) (vals := [.ref 63, .int (xs (i + 1).toNatClampNeg)]) (rest := [.int v]) (M1 := M2) (v1 := some (.int v)) (hCal_of _ rfl rfl rfl rfl rfl rfl rfl rfl r2) c2 ?_
  refine hX_goM 1 (bif gCmp .eq v v then 1599 else 490) (zLo i) [] rfl ?_
  exact hX_ifT _ (decide_eq_true rfl) k
theorem w_8 {L : Nat} {xs : Nat → Int32} {i : Int32} {M : List gE} (hg : gIn (i + 1) L = true ∧ gIn (i + 2) L = true ∧ gIn (i + 3) L = true ∧ gIn (i + 4) L = true ∧ gIn (i + 5) L = true) (hZ : jZ M) (K : ∀ M2, jZ M2 → zX L xs 1599 (zLo i) [] M2) : zX L xs 492 (zLo i) [] M := by
  obtain ⟨v, M1, M2, r1, c1, r2, c2, hZ2⟩ := z_now (L := L) (xs := xs) (xs (i + 1).toNatClampNeg) hZ
  obtain ⟨M9, k⟩ := K M2 hZ2
  refine ⟨M9, ?_⟩
  refine hX_goM 5 497 (zLo i) [.int (i + 1), .ref 1000, .ref 0] rfl ?_
  refine hX_gM (gIn (i + 1) L) 498 (zLo i) [.int (xs (i + 1).toNatClampNeg), .ref 0] rfl hg.1 ?_
  refine hX_call (d := 11) (r' := zR_69) (vals := [.ref 0, .int (xs (i + 1).toNatClampNeg)]) (rest := []) (M1 := M1) (v1 := some (.int v)) (hCal_of _ rfl rfl rfl rfl rfl rfl rfl rfl r1) c1 ?_
  refine hX_goM 5 506 (zLo i) [.int (i + 1), .ref 1000, .ref 63, .int v] rfl ?_
  refine hX_gM (gIn (i + 1) L) 507 (zLo i) [.int (xs (i + 1).toNatClampNeg), .ref 63, .int v] rfl hg.1 ?_
  refine hX_call (d := 11) (r' := zR_150) (vals := [.ref 63, .int (xs (i + 1).toNatClampNeg)]) (rest := [.int v]) (M1 := M2) (v1 := some (.int v)) (hCal_of _ rfl rfl rfl rfl rfl rfl rfl rfl r2) c2 ?_
  refine hX_goM 1 (bif gCmp .eq v v then 1599 else 513) (zLo i) [] rfl ?_
  exact hX_ifT _ (decide_eq_true rfl) k
theorem w_9 {L : Nat} {xs : Nat → Int32} {i : Int32} {M : List gE} (hg : gIn (i + 1) L = true ∧ gIn (i + 2) L = true ∧ gIn (i + 3) L = true ∧ gIn (i + 4) L = true ∧ gIn (i + 5) L = true) (hZ : jZ M) (K : ∀ M2, jZ M2 → zX L xs 1599 (zLo i) [] M2) : zX L xs 515 (zLo i) [] M := by
  obtain ⟨v, M1, M2, r1, c1, r2, c2, hZ2⟩ := z_wear (L := L) (xs := xs) (xs (i + 1).toNatClampNeg) hZ
  obtain ⟨M9, k⟩ := K M2 hZ2
  refine ⟨M9, ?_⟩
  refine hX_goM 5 520 (zLo i) [.int (i + 1), .ref 1000, .ref 0] rfl ?_
  refine hX_gM (gIn (i + 1) L) 521 (zLo i) [.int (xs (i + 1).toNatClampNeg), .ref 0] rfl hg.1 ?_
  refine hX_call (d := 11) (r' := zR_70) (vals := [.ref 0, .int (xs (i + 1).toNatClampNeg)]) (rest := []) (M1 := M1) (v1 := some (.int v)) (hCal_of _ rfl rfl rfl rfl rfl rfl rfl rfl r1) c1 ?_
  refine hX_goM 5 529 (zLo i) [.int (i + 1), .ref 1000, .ref 63, .int v] rfl ?_
  refine hX_gM (gIn (i + 1) L) 530 (zLo i) [.int (xs (i + 1).toNatClampNeg), .ref 63, .int v] rfl hg.1 ?_
  refine hX_call (d := 11) (r' := zR_151) (vals := [.ref 63, .int (xs (i + 1).toNatClampNeg)]) (rest := [.int v]) (M1 := M2) (v1 := some (.int v)) (hCal_of _ rfl rfl rfl rfl rfl rfl rfl rfl r2) c2 ?_
  refine hX_goM 1 (bif gCmp .eq v v then 1599 else 536) (zLo i) [] rfl ?_
  exact hX_ifT _ (decide_eq_true rfl) k
theorem w_10 {L : Nat} {xs : Nat → Int32} {i : Int32} {M : List gE} (hg : gIn (i + 1) L = true ∧ gIn (i + 2) L = true ∧ gIn (i + 3) L = true ∧ gIn (i + 4) L = true ∧ gIn (i + 5) L = true) (hZ : jZ M) (K : ∀ M2, jZ M2 → zX L xs 1599 (zLo i) [] M2) : zX L xs 538 (zLo i) [] M := by
  obtain ⟨v, M1, M2, r1, c1, r2, c2, hZ2⟩ := z_cord (L := L) (xs := xs)  hZ
  obtain ⟨M9, k⟩ := K M2 hZ2
  refine ⟨M9, ?_⟩
  refine hX_goM 1 539 (zLo i) [.ref 0] rfl ?_
  refine hX_call (d := 11) (r' := zR_71) (vals := [.ref 0]) (rest := []) (M1 := M1) (v1 := some (.int v)) (hCal_of _ rfl rfl rfl rfl rfl rfl rfl rfl r1) c1 ?_
  refine hX_goM 1 543 (zLo i) [.ref 63, .int v] rfl ?_
  refine hX_call (d := 11) (r' := zR_153) (vals := [.ref 63]) (rest := [.int v]) (M1 := M2) (v1 := some (.int v)) (hCal_of _ rfl rfl rfl rfl rfl rfl rfl rfl r2) c2 ?_
  refine hX_goM 1 (bif gCmp .eq v v then 1599 else 549) (zLo i) [] rfl ?_
  exact hX_ifT _ (decide_eq_true rfl) k
theorem w_11 {L : Nat} {xs : Nat → Int32} {i : Int32} {M : List gE} (hg : gIn (i + 1) L = true ∧ gIn (i + 2) L = true ∧ gIn (i + 3) L = true ∧ gIn (i + 4) L = true ∧ gIn (i + 5) L = true) (hZ : jZ M) (K : ∀ M2, jZ M2 → zX L xs 1599 (zLo i) [] M2) : zX L xs 551 (zLo i) [] M := by
  obtain ⟨v, M1, M2, r1, c1, r2, c2, hZ2⟩ := z_after (L := L) (xs := xs) (xs (i + 1).toNatClampNeg) (xs (i + 2).toNatClampNeg) hZ
  obtain ⟨M9, k⟩ := K M2 hZ2
  refine ⟨M9, ?_⟩
  refine hX_goM 5 556 (zLo i) [.int (i + 1), .ref 1000, .ref 0] rfl ?_
  refine hX_gM (gIn (i + 1) L) 557 (zLo i) [.int (xs (i + 1).toNatClampNeg), .ref 0] rfl hg.1 ?_
  refine hX_goM 4 561 (zLo i) [.int (i + 2), .ref 1000, .int (xs (i + 1).toNatClampNeg), .ref 0] rfl ?_
  refine hX_gM (gIn (i + 2) L) 562 (zLo i) [.int (xs (i + 2).toNatClampNeg), .int (xs (i + 1).toNatClampNeg), .ref 0] rfl hg.2.1 ?_
  refine hX_call (d := 11) (r' := zR_72) (vals := [.ref 0, .int (xs (i + 1).toNatClampNeg), .int (xs (i + 2).toNatClampNeg)]) (rest := []) (M1 := M1) (v1 := some (.int v)) (hCal_of _ rfl rfl rfl rfl rfl rfl rfl rfl r1) c1 ?_
  refine hX_goM 5 570 (zLo i) [.int (i + 1), .ref 1000, .ref 63, .int v] rfl ?_
  refine hX_gM (gIn (i + 1) L) 571 (zLo i) [.int (xs (i + 1).toNatClampNeg), .ref 63, .int v] rfl hg.1 ?_
  refine hX_goM 4 575 (zLo i) [.int (i + 2), .ref 1000, .int (xs (i + 1).toNatClampNeg), .ref 63, .int v] rfl ?_
  refine hX_gM (gIn (i + 2) L) 576 (zLo i) [.int (xs (i + 2).toNatClampNeg), .int (xs (i + 1).toNatClampNeg), .ref 63, .int v] rfl hg.2.1 ?_
  refine hX_call (d := 11) (r' := zR_154) (vals := [.ref 63, .int (xs (i + 1).toNatClampNeg), .int (xs (i + 2).toNatClampNeg)]) (rest := [.int v]) (M1 := M2) (v1 := some (.int v)) (hCal_of _ rfl rfl rfl rfl rfl rfl rfl rfl r2) c2 ?_
  refine hX_goM 1 (bif gCmp .eq v v then 1599 else 582) (zLo i) [] rfl ?_
  exact hX_ifT _ (decide_eq_true rfl) k
theorem w_12 {L : Nat} {xs : Nat → Int32} {i : Int32} {M : List gE} (hg : gIn (i + 1) L = true ∧ gIn (i + 2) L = true ∧ gIn (i + 3) L = true ∧ gIn (i + 4) L = true ∧ gIn (i + 5) L = true) (hZ : jZ M) (K : ∀ M2, jZ M2 → zX L xs 1599 (zLo i) [] M2) : zX L xs 584 (zLo i) [] M := by
  obtain ⟨v, M1, M2, r1, c1, r2, c2, hZ2⟩ := z_sign (L := L) (xs := xs) (xs (i + 1).toNatClampNeg) hZ
  obtain ⟨M9, k⟩ := K M2 hZ2
  refine ⟨M9, ?_⟩
  refine hX_goM 5 589 (zLo i) [.int (i + 1), .ref 1000, .ref 0] rfl ?_
  refine hX_gM (gIn (i + 1) L) 590 (zLo i) [.int (xs (i + 1).toNatClampNeg), .ref 0] rfl hg.1 ?_
  refine hX_call (d := 11) (r' := zR_73) (vals := [.ref 0, .int (xs (i + 1).toNatClampNeg)]) (rest := []) (M1 := M1) (v1 := some (.int v)) (hCal_of _ rfl rfl rfl rfl rfl rfl rfl rfl r1) c1 ?_
  refine hX_goM 5 598 (zLo i) [.int (i + 1), .ref 1000, .ref 63, .int v] rfl ?_
  refine hX_gM (gIn (i + 1) L) 599 (zLo i) [.int (xs (i + 1).toNatClampNeg), .ref 63, .int v] rfl hg.1 ?_
  refine hX_call (d := 11) (r' := zR_155) (vals := [.ref 63, .int (xs (i + 1).toNatClampNeg)]) (rest := [.int v]) (M1 := M2) (v1 := some (.int v)) (hCal_of _ rfl rfl rfl rfl rfl rfl rfl rfl r2) c2 ?_
  refine hX_goM 1 (bif gCmp .eq v v then 1599 else 605) (zLo i) [] rfl ?_
  exact hX_ifT _ (decide_eq_true rfl) k
theorem w_13 {L : Nat} {xs : Nat → Int32} {i : Int32} {M : List gE} (hg : gIn (i + 1) L = true ∧ gIn (i + 2) L = true ∧ gIn (i + 3) L = true ∧ gIn (i + 4) L = true ∧ gIn (i + 5) L = true) (hZ : jZ M) (K : ∀ M2, jZ M2 → zX L xs 1599 (zLo i) [] M2) : zX L xs 607 (zLo i) [] M := by
  obtain ⟨v, M1, M2, r1, c1, r2, c2, hZ2⟩ := z_stays (L := L) (xs := xs) (xs (i + 1).toNatClampNeg) hZ
  obtain ⟨M9, k⟩ := K M2 hZ2
  refine ⟨M9, ?_⟩
  refine hX_goM 5 612 (zLo i) [.int (i + 1), .ref 1000, .ref 0] rfl ?_
  refine hX_gM (gIn (i + 1) L) 613 (zLo i) [.int (xs (i + 1).toNatClampNeg), .ref 0] rfl hg.1 ?_
  refine hX_call (d := 11) (r' := zR_74) (vals := [.ref 0, .int (xs (i + 1).toNatClampNeg)]) (rest := []) (M1 := M1) (v1 := some (.int v)) (hCal_of _ rfl rfl rfl rfl rfl rfl rfl rfl r1) c1 ?_
  refine hX_goM 5 621 (zLo i) [.int (i + 1), .ref 1000, .ref 63, .int v] rfl ?_
  refine hX_gM (gIn (i + 1) L) 622 (zLo i) [.int (xs (i + 1).toNatClampNeg), .ref 63, .int v] rfl hg.1 ?_
  refine hX_call (d := 11) (r' := zR_156) (vals := [.ref 63, .int (xs (i + 1).toNatClampNeg)]) (rest := [.int v]) (M1 := M2) (v1 := some (.int v)) (hCal_of _ rfl rfl rfl rfl rfl rfl rfl rfl r2) c2 ?_
  refine hX_goM 1 (bif gCmp .eq v v then 1599 else 628) (zLo i) [] rfl ?_
  exact hX_ifT _ (decide_eq_true rfl) k
theorem w_14 {L : Nat} {xs : Nat → Int32} {i : Int32} {M : List gE} (hg : gIn (i + 1) L = true ∧ gIn (i + 2) L = true ∧ gIn (i + 3) L = true ∧ gIn (i + 4) L = true ∧ gIn (i + 5) L = true) (hZ : jZ M) (K : ∀ M2, jZ M2 → zX L xs 1599 (zLo i) [] M2) : zX L xs 630 (zLo i) [] M := by
  obtain ⟨v, M1, M2, r1, c1, r2, c2, hZ2⟩ := z_often (L := L) (xs := xs) (xs (i + 1).toNatClampNeg) (xs (i + 2).toNatClampNeg) hZ
  obtain ⟨M9, k⟩ := K M2 hZ2
  refine ⟨M9, ?_⟩
  refine hX_goM 5 635 (zLo i) [.int (i + 1), .ref 1000, .ref 0] rfl ?_
  refine hX_gM (gIn (i + 1) L) 636 (zLo i) [.int (xs (i + 1).toNatClampNeg), .ref 0] rfl hg.1 ?_
  refine hX_goM 4 640 (zLo i) [.int (i + 2), .ref 1000, .int (xs (i + 1).toNatClampNeg), .ref 0] rfl ?_
  refine hX_gM (gIn (i + 2) L) 641 (zLo i) [.int (xs (i + 2).toNatClampNeg), .int (xs (i + 1).toNatClampNeg), .ref 0] rfl hg.2.1 ?_
  refine hX_call (d := 11) (r' := zR_75) (vals := [.ref 0, .int (xs (i + 1).toNatClampNeg), .int (xs (i + 2).toNatClampNeg)]) (rest := []) (M1 := M1) (v1 := some (.int v)) (hCal_of _ rfl rfl rfl rfl rfl rfl rfl rfl r1) c1 ?_
  refine hX_goM 5 649 (zLo i) [.int (i + 1), .ref 1000, .ref 63, .int v] rfl ?_
  refine hX_gM (gIn (i + 1) L) 650 (zLo i) [.int (xs (i + 1).toNatClampNeg), .ref 63, .int v] rfl hg.1 ?_
  refine hX_goM 4 654 (zLo i) [.int (i + 2), .ref 1000, .int (xs (i + 1).toNatClampNeg), .ref 63, .int v] rfl ?_
  refine hX_gM (gIn (i + 2) L) 655 (zLo i) [.int (xs (i + 2).toNatClampNeg), .int (xs (i + 1).toNatClampNeg), .ref 63, .int v] rfl hg.2.1 ?_
  refine hX_call (d := 11) (r' := zR_157) (vals := [.ref 63, .int (xs (i + 1).toNatClampNeg), .int (xs (i + 2).toNatClampNeg)]) (rest := [.int v]) (M1 := M2) (v1 := some (.int v)) (hCal_of _ rfl rfl rfl rfl rfl rfl rfl rfl r2) c2 ?_
  refine hX_goM 1 (bif gCmp .eq v v then 1599 else 661) (zLo i) [] rfl ?_
  exact hX_ifT _ (decide_eq_true rfl) k
theorem w_15 {L : Nat} {xs : Nat → Int32} {i : Int32} {M : List gE} (hg : gIn (i + 1) L = true ∧ gIn (i + 2) L = true ∧ gIn (i + 3) L = true ∧ gIn (i + 4) L = true ∧ gIn (i + 5) L = true) (hZ : jZ M) (K : ∀ M2, jZ M2 → zX L xs 1599 (zLo i) [] M2) : zX L xs 663 (zLo i) [] M := by
  obtain ⟨v, M1, M2, r1, c1, r2, c2, hZ2⟩ := z_knot (L := L) (xs := xs) (xs (i + 1).toNatClampNeg) (xs (i + 2).toNatClampNeg) hZ
  obtain ⟨M9, k⟩ := K M2 hZ2
  refine ⟨M9, ?_⟩
  refine hX_goM 5 668 (zLo i) [.int (i + 1), .ref 1000, .ref 0] rfl ?_
  refine hX_gM (gIn (i + 1) L) 669 (zLo i) [.int (xs (i + 1).toNatClampNeg), .ref 0] rfl hg.1 ?_
  refine hX_goM 4 673 (zLo i) [.int (i + 2), .ref 1000, .int (xs (i + 1).toNatClampNeg), .ref 0] rfl ?_
  refine hX_gM (gIn (i + 2) L) 674 (zLo i) [.int (xs (i + 2).toNatClampNeg), .int (xs (i + 1).toNatClampNeg), .ref 0] rfl hg.2.1 ?_
  refine hX_call (d := 11) (r' := zR_76) (vals := [.ref 0, .int (xs (i + 1).toNatClampNeg), .int (xs (i + 2).toNatClampNeg)]) (rest := []) (M1 := M1) (v1 := some (.int v)) (hCal_of _ rfl rfl rfl rfl rfl rfl rfl rfl r1) c1 ?_
  refine hX_goM 5 682 (zLo i) [.int (i + 1), .ref 1000, .ref 63, .int v] rfl ?_
  refine hX_gM (gIn (i + 1) L) 683 (zLo i) [.int (xs (i + 1).toNatClampNeg), .ref 63, .int v] rfl hg.1 ?_
  refine hX_goM 4 687 (zLo i) [.int (i + 2), .ref 1000, .int (xs (i + 1).toNatClampNeg), .ref 63, .int v] rfl ?_
  refine hX_gM (gIn (i + 2) L) 688 (zLo i) [.int (xs (i + 2).toNatClampNeg), .int (xs (i + 1).toNatClampNeg), .ref 63, .int v] rfl hg.2.1 ?_
  refine hX_call (d := 11) (r' := zR_158) (vals := [.ref 63, .int (xs (i + 1).toNatClampNeg), .int (xs (i + 2).toNatClampNeg)]) (rest := [.int v]) (M1 := M2) (v1 := some (.int v)) (hCal_of _ rfl rfl rfl rfl rfl rfl rfl rfl r2) c2 ?_
  refine hX_goM 1 (bif gCmp .eq v v then 1599 else 694) (zLo i) [] rfl ?_
  exact hX_ifT _ (decide_eq_true rfl) k
theorem w_16 {L : Nat} {xs : Nat → Int32} {i : Int32} {M : List gE} (hg : gIn (i + 1) L = true ∧ gIn (i + 2) L = true ∧ gIn (i + 3) L = true ∧ gIn (i + 4) L = true ∧ gIn (i + 5) L = true) (hZ : jZ M) (K : ∀ M2, jZ M2 → zX L xs 1599 (zLo i) [] M2) : zX L xs 696 (zLo i) [] M := by
  obtain ⟨v, M1, M2, r1, c1, r2, c2, hZ2⟩ := z_kindFor (L := L) (xs := xs) (xs (i + 1).toNatClampNeg) (xs (i + 2).toNatClampNeg) hZ
  obtain ⟨M9, k⟩ := K M2 hZ2
  refine ⟨M9, ?_⟩
  refine hX_goM 5 701 (zLo i) [.int (i + 1), .ref 1000, .ref 0] rfl ?_
  refine hX_gM (gIn (i + 1) L) 702 (zLo i) [.int (xs (i + 1).toNatClampNeg), .ref 0] rfl hg.1 ?_
  refine hX_goM 4 706 (zLo i) [.int (i + 2), .ref 1000, .int (xs (i + 1).toNatClampNeg), .ref 0] rfl ?_
  refine hX_gM (gIn (i + 2) L) 707 (zLo i) [.int (xs (i + 2).toNatClampNeg), .int (xs (i + 1).toNatClampNeg), .ref 0] rfl hg.2.1 ?_
  refine hX_call (d := 11) (r' := zR_77) (vals := [.ref 0, .int (xs (i + 1).toNatClampNeg), .int (xs (i + 2).toNatClampNeg)]) (rest := []) (M1 := M1) (v1 := some (.int v)) (hCal_of _ rfl rfl rfl rfl rfl rfl rfl rfl r1) c1 ?_
  refine hX_goM 5 715 (zLo i) [.int (i + 1), .ref 1000, .ref 63, .int v] rfl ?_
  refine hX_gM (gIn (i + 1) L) 716 (zLo i) [.int (xs (i + 1).toNatClampNeg), .ref 63, .int v] rfl hg.1 ?_
  refine hX_goM 4 720 (zLo i) [.int (i + 2), .ref 1000, .int (xs (i + 1).toNatClampNeg), .ref 63, .int v] rfl ?_
  refine hX_gM (gIn (i + 2) L) 721 (zLo i) [.int (xs (i + 2).toNatClampNeg), .int (xs (i + 1).toNatClampNeg), .ref 63, .int v] rfl hg.2.1 ?_
  refine hX_call (d := 11) (r' := zR_159) (vals := [.ref 63, .int (xs (i + 1).toNatClampNeg), .int (xs (i + 2).toNatClampNeg)]) (rest := [.int v]) (M1 := M2) (v1 := some (.int v)) (hCal_of _ rfl rfl rfl rfl rfl rfl rfl rfl r2) c2 ?_
  refine hX_goM 1 (bif gCmp .eq v v then 1599 else 727) (zLo i) [] rfl ?_
  exact hX_ifT _ (decide_eq_true rfl) k
theorem w_17 {L : Nat} {xs : Nat → Int32} {i : Int32} {M : List gE} (hg : gIn (i + 1) L = true ∧ gIn (i + 2) L = true ∧ gIn (i + 3) L = true ∧ gIn (i + 4) L = true ∧ gIn (i + 5) L = true) (hZ : jZ M) (K : ∀ M2, jZ M2 → zX L xs 1599 (zLo i) [] M2) : zX L xs 729 (zLo i) [] M := by
  obtain ⟨v, M1, M2, r1, c1, r2, c2, hZ2⟩ := z_fewest (L := L) (xs := xs) (xs (i + 1).toNatClampNeg) hZ
  obtain ⟨M9, k⟩ := K M2 hZ2
  refine ⟨M9, ?_⟩
  refine hX_goM 5 734 (zLo i) [.int (i + 1), .ref 1000, .ref 0] rfl ?_
  refine hX_gM (gIn (i + 1) L) 735 (zLo i) [.int (xs (i + 1).toNatClampNeg), .ref 0] rfl hg.1 ?_
  refine hX_call (d := 11) (r' := zR_78) (vals := [.ref 0, .int (xs (i + 1).toNatClampNeg)]) (rest := []) (M1 := M1) (v1 := some (.int v)) (hCal_of _ rfl rfl rfl rfl rfl rfl rfl rfl r1) c1 ?_
  refine hX_goM 5 743 (zLo i) [.int (i + 1), .ref 1000, .ref 63, .int v] rfl ?_
  refine hX_gM (gIn (i + 1) L) 744 (zLo i) [.int (xs (i + 1).toNatClampNeg), .ref 63, .int v] rfl hg.1 ?_
  refine hX_call (d := 11) (r' := zR_162) (vals := [.ref 63, .int (xs (i + 1).toNatClampNeg)]) (rest := [.int v]) (M1 := M2) (v1 := some (.int v)) (hCal_of _ rfl rfl rfl rfl rfl rfl rfl rfl r2) c2 ?_
  refine hX_goM 1 (bif gCmp .eq v v then 1599 else 750) (zLo i) [] rfl ?_
  exact hX_ifT _ (decide_eq_true rfl) k
theorem w_18 {L : Nat} {xs : Nat → Int32} {i : Int32} {M : List gE} (hg : gIn (i + 1) L = true ∧ gIn (i + 2) L = true ∧ gIn (i + 3) L = true ∧ gIn (i + 4) L = true ∧ gIn (i + 5) L = true) (hZ : jZ M) (K : ∀ M2, jZ M2 → zX L xs 1599 (zLo i) [] M2) : zX L xs 752 (zLo i) [] M := by
  obtain ⟨v, M1, M2, r1, c1, r2, c2, hZ2⟩ := z_first (L := L) (xs := xs) (xs (i + 1).toNatClampNeg) hZ
  obtain ⟨M9, k⟩ := K M2 hZ2
  refine ⟨M9, ?_⟩
  refine hX_goM 5 757 (zLo i) [.int (i + 1), .ref 1000, .ref 0] rfl ?_
  refine hX_gM (gIn (i + 1) L) 758 (zLo i) [.int (xs (i + 1).toNatClampNeg), .ref 0] rfl hg.1 ?_
  refine hX_call (d := 11) (r' := zR_79) (vals := [.ref 0, .int (xs (i + 1).toNatClampNeg)]) (rest := []) (M1 := M1) (v1 := some (.int v)) (hCal_of _ rfl rfl rfl rfl rfl rfl rfl rfl r1) c1 ?_
  refine hX_goM 5 766 (zLo i) [.int (i + 1), .ref 1000, .ref 63, .int v] rfl ?_
  refine hX_gM (gIn (i + 1) L) 767 (zLo i) [.int (xs (i + 1).toNatClampNeg), .ref 63, .int v] rfl hg.1 ?_
  refine hX_call (d := 11) (r' := zR_163) (vals := [.ref 63, .int (xs (i + 1).toNatClampNeg)]) (rest := [.int v]) (M1 := M2) (v1 := some (.int v)) (hCal_of _ rfl rfl rfl rfl rfl rfl rfl rfl r2) c2 ?_
  refine hX_goM 1 (bif gCmp .eq v v then 1599 else 773) (zLo i) [] rfl ?_
  exact hX_ifT _ (decide_eq_true rfl) k
theorem w_19 {L : Nat} {xs : Nat → Int32} {i : Int32} {M : List gE} (hg : gIn (i + 1) L = true ∧ gIn (i + 2) L = true ∧ gIn (i + 3) L = true ∧ gIn (i + 4) L = true ∧ gIn (i + 5) L = true) (hZ : jZ M) (K : ∀ M2, jZ M2 → zX L xs 1599 (zLo i) [] M2) : zX L xs 775 (zLo i) [] M := by
  obtain ⟨v, M1, M2, r1, c1, r2, c2, hZ2⟩ := z_states (L := L) (xs := xs)  hZ
  obtain ⟨M9, k⟩ := K M2 hZ2
  refine ⟨M9, ?_⟩
  refine hX_goM 1 776 (zLo i) [.ref 0] rfl ?_
  refine hX_call (d := 11) (r' := zR_80) (vals := [.ref 0]) (rest := []) (M1 := M1) (v1 := some (.int v)) (hCal_of _ rfl rfl rfl rfl rfl rfl rfl rfl r1) c1 ?_
  refine hX_goM 1 780 (zLo i) [.ref 63, .int v] rfl ?_
  refine hX_call (d := 11) (r' := zR_164) (vals := [.ref 63]) (rest := [.int v]) (M1 := M2) (v1 := some (.int v)) (hCal_of _ rfl rfl rfl rfl rfl rfl rfl rfl r2) c2 ?_
  refine hX_goM 1 (bif gCmp .eq v v then 1599 else 786) (zLo i) [] rfl ?_
  exact hX_ifT _ (decide_eq_true rfl) k
theorem w_20 {L : Nat} {xs : Nat → Int32} {i : Int32} {M : List gE} (hg : gIn (i + 1) L = true ∧ gIn (i + 2) L = true ∧ gIn (i + 3) L = true ∧ gIn (i + 4) L = true ∧ gIn (i + 5) L = true) (hZ : jZ M) (K : ∀ M2, jZ M2 → zX L xs 1599 (zLo i) [] M2) : zX L xs 788 (zLo i) [] M := by
  obtain ⟨v, M1, M2, r1, c1, r2, c2, hZ2⟩ := z_worst (L := L) (xs := xs)  hZ
  obtain ⟨M9, k⟩ := K M2 hZ2
  refine ⟨M9, ?_⟩
  refine hX_goM 1 789 (zLo i) [.ref 0] rfl ?_
  refine hX_call (d := 11) (r' := zR_81) (vals := [.ref 0]) (rest := []) (M1 := M1) (v1 := some (.int v)) (hCal_of _ rfl rfl rfl rfl rfl rfl rfl rfl r1) c1 ?_
  refine hX_goM 1 793 (zLo i) [.ref 63, .int v] rfl ?_
  refine hX_call (d := 11) (r' := zR_165) (vals := [.ref 63]) (rest := [.int v]) (M1 := M2) (v1 := some (.int v)) (hCal_of _ rfl rfl rfl rfl rfl rfl rfl rfl r2) c2 ?_
  refine hX_goM 1 (bif gCmp .eq v v then 1599 else 799) (zLo i) [] rfl ?_
  exact hX_ifT _ (decide_eq_true rfl) k
theorem w_21 {L : Nat} {xs : Nat → Int32} {i : Int32} {M : List gE} (hg : gIn (i + 1) L = true ∧ gIn (i + 2) L = true ∧ gIn (i + 3) L = true ∧ gIn (i + 4) L = true ∧ gIn (i + 5) L = true) (hZ : jZ M) (K : ∀ M2, jZ M2 → zX L xs 1599 (zLo i) [] M2) : zX L xs 801 (zLo i) [] M := by
  obtain ⟨v, M1, M2, r1, c1, r2, c2, hZ2⟩ := z_mends (L := L) (xs := xs) (xs (i + 1).toNatClampNeg) (xs (i + 2).toNatClampNeg) (xs (i + 3).toNatClampNeg) hZ
  obtain ⟨M9, k⟩ := K M2 hZ2
  refine ⟨M9, ?_⟩
  refine hX_goM 5 806 (zLo i) [.int (i + 1), .ref 1000, .ref 0] rfl ?_
  refine hX_gM (gIn (i + 1) L) 807 (zLo i) [.int (xs (i + 1).toNatClampNeg), .ref 0] rfl hg.1 ?_
  refine hX_goM 4 811 (zLo i) [.int (i + 2), .ref 1000, .int (xs (i + 1).toNatClampNeg), .ref 0] rfl ?_
  refine hX_gM (gIn (i + 2) L) 812 (zLo i) [.int (xs (i + 2).toNatClampNeg), .int (xs (i + 1).toNatClampNeg), .ref 0] rfl hg.2.1 ?_
  refine hX_goM 4 816 (zLo i) [.int (i + 3), .ref 1000, .int (xs (i + 2).toNatClampNeg), .int (xs (i + 1).toNatClampNeg), .ref 0] rfl ?_
  refine hX_gM (gIn (i + 3) L) 817 (zLo i) [.int (xs (i + 3).toNatClampNeg), .int (xs (i + 2).toNatClampNeg), .int (xs (i + 1).toNatClampNeg), .ref 0] rfl hg.2.2.1 ?_
  refine hX_call (d := 11) (r' := zR_82) (vals := [.ref 0, .int (xs (i + 1).toNatClampNeg), .int (xs (i + 2).toNatClampNeg), .int (xs (i + 3).toNatClampNeg)]) (rest := []) (M1 := M1) (v1 := some (.int v)) (hCal_of _ rfl rfl rfl rfl rfl rfl rfl rfl r1) c1 ?_
  refine hX_goM 5 825 (zLo i) [.int (i + 1), .ref 1000, .ref 63, .int v] rfl ?_
  refine hX_gM (gIn (i + 1) L) 826 (zLo i) [.int (xs (i + 1).toNatClampNeg), .ref 63, .int v] rfl hg.1 ?_
  refine hX_goM 4 830 (zLo i) [.int (i + 2), .ref 1000, .int (xs (i + 1).toNatClampNeg), .ref 63, .int v] rfl ?_
  refine hX_gM (gIn (i + 2) L) 831 (zLo i) [.int (xs (i + 2).toNatClampNeg), .int (xs (i + 1).toNatClampNeg), .ref 63, .int v] rfl hg.2.1 ?_
  refine hX_goM 4 835 (zLo i) [.int (i + 3), .ref 1000, .int (xs (i + 2).toNatClampNeg), .int (xs (i + 1).toNatClampNeg), .ref 63, .int v] rfl ?_
  refine hX_gM (gIn (i + 3) L) 836 (zLo i) [.int (xs (i + 3).toNatClampNeg), .int (xs (i + 2).toNatClampNeg), .int (xs (i + 1).toNatClampNeg), .ref 63, .int v] rfl hg.2.2.1 ?_
  refine hX_call (d := 11) (r' := zR_170) (vals := [.ref 63, .int (xs (i + 1).toNatClampNeg), .int (xs (i + 2).toNatClampNeg), .int (xs (i + 3).toNatClampNeg)]) (rest := [.int v]) (M1 := M2) (v1 := some (.int v)) (hCal_of _ rfl rfl rfl rfl rfl rfl rfl rfl r2) c2 ?_
  refine hX_goM 1 (bif gCmp .eq v v then 1599 else 842) (zLo i) [] rfl ?_
  exact hX_ifT _ (decide_eq_true rfl) k
theorem w_22 {L : Nat} {xs : Nat → Int32} {i : Int32} {M : List gE} (hg : gIn (i + 1) L = true ∧ gIn (i + 2) L = true ∧ gIn (i + 3) L = true ∧ gIn (i + 4) L = true ∧ gIn (i + 5) L = true) (hZ : jZ M) (K : ∀ M2, jZ M2 → zX L xs 1599 (zLo i) [] M2) : zX L xs 844 (zLo i) [] M := by
  obtain ⟨v, M1, M2, r1, c1, r2, c2, hZ2⟩ := z_costs (L := L) (xs := xs) (xs (i + 1).toNatClampNeg) (xs (i + 2).toNatClampNeg) (xs (i + 3).toNatClampNeg) hZ
  obtain ⟨M9, k⟩ := K M2 hZ2
  refine ⟨M9, ?_⟩
  refine hX_goM 5 849 (zLo i) [.int (i + 1), .ref 1000, .ref 0] rfl ?_
  refine hX_gM (gIn (i + 1) L) 850 (zLo i) [.int (xs (i + 1).toNatClampNeg), .ref 0] rfl hg.1 ?_
  refine hX_goM 4 854 (zLo i) [.int (i + 2), .ref 1000, .int (xs (i + 1).toNatClampNeg), .ref 0] rfl ?_
  refine hX_gM (gIn (i + 2) L) 855 (zLo i) [.int (xs (i + 2).toNatClampNeg), .int (xs (i + 1).toNatClampNeg), .ref 0] rfl hg.2.1 ?_
  refine hX_goM 4 859 (zLo i) [.int (i + 3), .ref 1000, .int (xs (i + 2).toNatClampNeg), .int (xs (i + 1).toNatClampNeg), .ref 0] rfl ?_
  refine hX_gM (gIn (i + 3) L) 860 (zLo i) [.int (xs (i + 3).toNatClampNeg), .int (xs (i + 2).toNatClampNeg), .int (xs (i + 1).toNatClampNeg), .ref 0] rfl hg.2.2.1 ?_
  refine hX_call (d := 11) (r' := zR_83) (vals := [.ref 0, .int (xs (i + 1).toNatClampNeg), .int (xs (i + 2).toNatClampNeg), .int (xs (i + 3).toNatClampNeg)]) (rest := []) (M1 := M1) (v1 := some (.int v)) (hCal_of _ rfl rfl rfl rfl rfl rfl rfl rfl r1) c1 ?_
  refine hX_goM 5 868 (zLo i) [.int (i + 1), .ref 1000, .ref 63, .int v] rfl ?_
  refine hX_gM (gIn (i + 1) L) 869 (zLo i) [.int (xs (i + 1).toNatClampNeg), .ref 63, .int v] rfl hg.1 ?_
  refine hX_goM 4 873 (zLo i) [.int (i + 2), .ref 1000, .int (xs (i + 1).toNatClampNeg), .ref 63, .int v] rfl ?_
  refine hX_gM (gIn (i + 2) L) 874 (zLo i) [.int (xs (i + 2).toNatClampNeg), .int (xs (i + 1).toNatClampNeg), .ref 63, .int v] rfl hg.2.1 ?_
  refine hX_goM 4 878 (zLo i) [.int (i + 3), .ref 1000, .int (xs (i + 2).toNatClampNeg), .int (xs (i + 1).toNatClampNeg), .ref 63, .int v] rfl ?_
  refine hX_gM (gIn (i + 3) L) 879 (zLo i) [.int (xs (i + 3).toNatClampNeg), .int (xs (i + 2).toNatClampNeg), .int (xs (i + 1).toNatClampNeg), .ref 63, .int v] rfl hg.2.2.1 ?_
  refine hX_call (d := 11) (r' := zR_171) (vals := [.ref 63, .int (xs (i + 1).toNatClampNeg), .int (xs (i + 2).toNatClampNeg), .int (xs (i + 3).toNatClampNeg)]) (rest := [.int v]) (M1 := M2) (v1 := some (.int v)) (hCal_of _ rfl rfl rfl rfl rfl rfl rfl rfl r2) c2 ?_
  refine hX_goM 1 (bif gCmp .eq v v then 1599 else 885) (zLo i) [] rfl ?_
  exact hX_ifT _ (decide_eq_true rfl) k
theorem w_23 {L : Nat} {xs : Nat → Int32} {i : Int32} {M : List gE} (hg : gIn (i + 1) L = true ∧ gIn (i + 2) L = true ∧ gIn (i + 3) L = true ∧ gIn (i + 4) L = true ∧ gIn (i + 5) L = true) (hZ : jZ M) (K : ∀ M2, jZ M2 → zX L xs 1599 (zLo i) [] M2) : zX L xs 887 (zLo i) [] M := by
  obtain ⟨v, M1, M2, r1, c1, r2, c2, hZ2⟩ := z_mended (L := L) (xs := xs) (xs (i + 1).toNatClampNeg) hZ
  obtain ⟨M9, k⟩ := K M2 hZ2
  refine ⟨M9, ?_⟩
  refine hX_goM 5 892 (zLo i) [.int (i + 1), .ref 1000, .ref 0] rfl ?_
  refine hX_gM (gIn (i + 1) L) 893 (zLo i) [.int (xs (i + 1).toNatClampNeg), .ref 0] rfl hg.1 ?_
  refine hX_call (d := 11) (r' := zR_84) (vals := [.ref 0, .int (xs (i + 1).toNatClampNeg)]) (rest := []) (M1 := M1) (v1 := some (.int v)) (hCal_of _ rfl rfl rfl rfl rfl rfl rfl rfl r1) c1 ?_
  refine hX_goM 5 901 (zLo i) [.int (i + 1), .ref 1000, .ref 63, .int v] rfl ?_
  refine hX_gM (gIn (i + 1) L) 902 (zLo i) [.int (xs (i + 1).toNatClampNeg), .ref 63, .int v] rfl hg.1 ?_
  refine hX_call (d := 11) (r' := zR_172) (vals := [.ref 63, .int (xs (i + 1).toNatClampNeg)]) (rest := [.int v]) (M1 := M2) (v1 := some (.int v)) (hCal_of _ rfl rfl rfl rfl rfl rfl rfl rfl r2) c2 ?_
  refine hX_goM 1 (bif gCmp .eq v v then 1599 else 908) (zLo i) [] rfl ?_
  exact hX_ifT _ (decide_eq_true rfl) k
theorem w_24 {L : Nat} {xs : Nat → Int32} {i : Int32} {M : List gE} (hg : gIn (i + 1) L = true ∧ gIn (i + 2) L = true ∧ gIn (i + 3) L = true ∧ gIn (i + 4) L = true ∧ gIn (i + 5) L = true) (hZ : jZ M) (K : ∀ M2, jZ M2 → zX L xs 1599 (zLo i) [] M2) : zX L xs 910 (zLo i) [] M := by
  obtain ⟨v, M1, M2, r1, c1, r2, c2, hZ2⟩ := z_sun (L := L) (xs := xs) (xs (i + 1).toNatClampNeg) (xs (i + 2).toNatClampNeg) hZ
  obtain ⟨M9, k⟩ := K M2 hZ2
  refine ⟨M9, ?_⟩
  refine hX_goM 5 915 (zLo i) [.int (i + 1), .ref 1000, .ref 0] rfl ?_
  refine hX_gM (gIn (i + 1) L) 916 (zLo i) [.int (xs (i + 1).toNatClampNeg), .ref 0] rfl hg.1 ?_
  refine hX_goM 4 920 (zLo i) [.int (i + 2), .ref 1000, .int (xs (i + 1).toNatClampNeg), .ref 0] rfl ?_
  refine hX_gM (gIn (i + 2) L) 921 (zLo i) [.int (xs (i + 2).toNatClampNeg), .int (xs (i + 1).toNatClampNeg), .ref 0] rfl hg.2.1 ?_
  refine hX_call (d := 11) (r' := zR_85) (vals := [.ref 0, .int (xs (i + 1).toNatClampNeg), .int (xs (i + 2).toNatClampNeg)]) (rest := []) (M1 := M1) (v1 := some (.int v)) (hCal_of _ rfl rfl rfl rfl rfl rfl rfl rfl r1) c1 ?_
  refine hX_goM 5 929 (zLo i) [.int (i + 1), .ref 1000, .ref 63, .int v] rfl ?_
  refine hX_gM (gIn (i + 1) L) 930 (zLo i) [.int (xs (i + 1).toNatClampNeg), .ref 63, .int v] rfl hg.1 ?_
  refine hX_goM 4 934 (zLo i) [.int (i + 2), .ref 1000, .int (xs (i + 1).toNatClampNeg), .ref 63, .int v] rfl ?_
  refine hX_gM (gIn (i + 2) L) 935 (zLo i) [.int (xs (i + 2).toNatClampNeg), .int (xs (i + 1).toNatClampNeg), .ref 63, .int v] rfl hg.2.1 ?_
  refine hX_call (d := 11) (r' := zR_174) (vals := [.ref 63, .int (xs (i + 1).toNatClampNeg), .int (xs (i + 2).toNatClampNeg)]) (rest := [.int v]) (M1 := M2) (v1 := some (.int v)) (hCal_of _ rfl rfl rfl rfl rfl rfl rfl rfl r2) c2 ?_
  refine hX_goM 1 (bif gCmp .eq v v then 1599 else 941) (zLo i) [] rfl ?_
  exact hX_ifT _ (decide_eq_true rfl) k
theorem w_25 {L : Nat} {xs : Nat → Int32} {i : Int32} {M : List gE} (hg : gIn (i + 1) L = true ∧ gIn (i + 2) L = true ∧ gIn (i + 3) L = true ∧ gIn (i + 4) L = true ∧ gIn (i + 5) L = true) (hZ : jZ M) (K : ∀ M2, jZ M2 → zX L xs 1599 (zLo i) [] M2) : zX L xs 943 (zLo i) [] M := by
  obtain ⟨v, M1, M2, r1, c1, r2, c2, hZ2⟩ := z_hour (L := L) (xs := xs) (xs (i + 1).toNatClampNeg) (xs (i + 2).toNatClampNeg) hZ
  obtain ⟨M9, k⟩ := K M2 hZ2
  refine ⟨M9, ?_⟩
  refine hX_goM 5 948 (zLo i) [.int (i + 1), .ref 1000, .ref 0] rfl ?_
  refine hX_gM (gIn (i + 1) L) 949 (zLo i) [.int (xs (i + 1).toNatClampNeg), .ref 0] rfl hg.1 ?_
  refine hX_goM 4 953 (zLo i) [.int (i + 2), .ref 1000, .int (xs (i + 1).toNatClampNeg), .ref 0] rfl ?_
  refine hX_gM (gIn (i + 2) L) 954 (zLo i) [.int (xs (i + 2).toNatClampNeg), .int (xs (i + 1).toNatClampNeg), .ref 0] rfl hg.2.1 ?_
  refine hX_call (d := 11) (r' := zR_86) (vals := [.ref 0, .int (xs (i + 1).toNatClampNeg), .int (xs (i + 2).toNatClampNeg)]) (rest := []) (M1 := M1) (v1 := some (.int v)) (hCal_of _ rfl rfl rfl rfl rfl rfl rfl rfl r1) c1 ?_
  refine hX_goM 5 962 (zLo i) [.int (i + 1), .ref 1000, .ref 63, .int v] rfl ?_
  refine hX_gM (gIn (i + 1) L) 963 (zLo i) [.int (xs (i + 1).toNatClampNeg), .ref 63, .int v] rfl hg.1 ?_
  refine hX_goM 4 967 (zLo i) [.int (i + 2), .ref 1000, .int (xs (i + 1).toNatClampNeg), .ref 63, .int v] rfl ?_
  refine hX_gM (gIn (i + 2) L) 968 (zLo i) [.int (xs (i + 2).toNatClampNeg), .int (xs (i + 1).toNatClampNeg), .ref 63, .int v] rfl hg.2.1 ?_
  refine hX_call (d := 11) (r' := zR_177) (vals := [.ref 63, .int (xs (i + 1).toNatClampNeg), .int (xs (i + 2).toNatClampNeg)]) (rest := [.int v]) (M1 := M2) (v1 := some (.int v)) (hCal_of _ rfl rfl rfl rfl rfl rfl rfl rfl r2) c2 ?_
  refine hX_goM 1 (bif gCmp .eq v v then 1599 else 974) (zLo i) [] rfl ?_
  exact hX_ifT _ (decide_eq_true rfl) k
theorem w_26 {L : Nat} {xs : Nat → Int32} {i : Int32} {M : List gE} (hg : gIn (i + 1) L = true ∧ gIn (i + 2) L = true ∧ gIn (i + 3) L = true ∧ gIn (i + 4) L = true ∧ gIn (i + 5) L = true) (hZ : jZ M) (K : ∀ M2, jZ M2 → zX L xs 1599 (zLo i) [] M2) : zX L xs 976 (zLo i) [] M := by
  obtain ⟨v, M1, M2, r1, c1, r2, c2, hZ2⟩ := z_eyes (L := L) (xs := xs)  hZ
  obtain ⟨M9, k⟩ := K M2 hZ2
  refine ⟨M9, ?_⟩
  refine hX_goM 1 977 (zLo i) [.ref 0] rfl ?_
  refine hX_call (d := 11) (r' := zR_87) (vals := [.ref 0]) (rest := []) (M1 := M1) (v1 := some (.int v)) (hCal_of _ rfl rfl rfl rfl rfl rfl rfl rfl r1) c1 ?_
  refine hX_goM 1 981 (zLo i) [.ref 63, .int v] rfl ?_
  refine hX_call (d := 11) (r' := zR_178) (vals := [.ref 63]) (rest := [.int v]) (M1 := M2) (v1 := some (.int v)) (hCal_of _ rfl rfl rfl rfl rfl rfl rfl rfl r2) c2 ?_
  refine hX_goM 1 (bif gCmp .eq v v then 1599 else 987) (zLo i) [] rfl ?_
  exact hX_ifT _ (decide_eq_true rfl) k
theorem w_27 {L : Nat} {xs : Nat → Int32} {i : Int32} {M : List gE} (hg : gIn (i + 1) L = true ∧ gIn (i + 2) L = true ∧ gIn (i + 3) L = true ∧ gIn (i + 4) L = true ∧ gIn (i + 5) L = true) (hZ : jZ M) (K : ∀ M2, jZ M2 → zX L xs 1599 (zLo i) [] M2) : zX L xs 989 (zLo i) [] M := by
  obtain ⟨v, M1, M2, r1, c1, r2, c2, hZ2⟩ := z_best (L := L) (xs := xs)  hZ
  obtain ⟨M9, k⟩ := K M2 hZ2
  refine ⟨M9, ?_⟩
  refine hX_goM 1 990 (zLo i) [.ref 0] rfl ?_
  refine hX_call (d := 11) (r' := zR_88) (vals := [.ref 0]) (rest := []) (M1 := M1) (v1 := some (.int v)) (hCal_of _ rfl rfl rfl rfl rfl rfl rfl rfl r1) c1 ?_
  refine hX_goM 1 994 (zLo i) [.ref 63, .int v] rfl ?_
  refine hX_call (d := 11) (r' := zR_179) (vals := [.ref 63]) (rest := [.int v]) (M1 := M2) (v1 := some (.int v)) (hCal_of _ rfl rfl rfl rfl rfl rfl rfl rfl r2) c2 ?_
  refine hX_goM 1 (bif gCmp .eq v v then 1599 else 1000) (zLo i) [] rfl ?_
  exact hX_ifT _ (decide_eq_true rfl) k
theorem w_28 {L : Nat} {xs : Nat → Int32} {i : Int32} {M : List gE} (hg : gIn (i + 1) L = true ∧ gIn (i + 2) L = true ∧ gIn (i + 3) L = true ∧ gIn (i + 4) L = true ∧ gIn (i + 5) L = true) (hZ : jZ M) (K : ∀ M2, jZ M2 → zX L xs 1599 (zLo i) [] M2) : zX L xs 1002 (zLo i) [] M := by
  obtain ⟨v, M1, M2, r1, c1, r2, c2, hZ2⟩ := z_where (L := L) (xs := xs)  hZ
  obtain ⟨M9, k⟩ := K M2 hZ2
  refine ⟨M9, ?_⟩
  refine hX_goM 1 1003 (zLo i) [.ref 0] rfl ?_
  refine hX_call (d := 11) (r' := zR_89) (vals := [.ref 0]) (rest := []) (M1 := M1) (v1 := some (.int v)) (hCal_of _ rfl rfl rfl rfl rfl rfl rfl rfl r1) c1 ?_
  refine hX_goM 1 1007 (zLo i) [.ref 63, .int v] rfl ?_
  refine hX_call (d := 11) (r' := zR_180) (vals := [.ref 63]) (rest := [.int v]) (M1 := M2) (v1 := some (.int v)) (hCal_of _ rfl rfl rfl rfl rfl rfl rfl rfl r2) c2 ?_
  refine hX_goM 1 (bif gCmp .eq v v then 1599 else 1013) (zLo i) [] rfl ?_
  exact hX_ifT _ (decide_eq_true rfl) k
theorem w_29 {L : Nat} {xs : Nat → Int32} {i : Int32} {M : List gE} (hg : gIn (i + 1) L = true ∧ gIn (i + 2) L = true ∧ gIn (i + 3) L = true ∧ gIn (i + 4) L = true ∧ gIn (i + 5) L = true) (hZ : jZ M) (K : ∀ M2, jZ M2 → zX L xs 1599 (zLo i) [] M2) : zX L xs 1015 (zLo i) [] M := by
  obtain ⟨v, M1, M2, r1, c1, r2, c2, hZ2⟩ := z_holds (L := L) (xs := xs) (xs (i + 1).toNatClampNeg) hZ
  obtain ⟨M9, k⟩ := K M2 hZ2
  refine ⟨M9, ?_⟩
  refine hX_goM 5 1020 (zLo i) [.int (i + 1), .ref 1000, .ref 0] rfl ?_
  refine hX_gM (gIn (i + 1) L) 1021 (zLo i) [.int (xs (i + 1).toNatClampNeg), .ref 0] rfl hg.1 ?_
  refine hX_call (d := 11) (r' := zR_90) (vals := [.ref 0, .int (xs (i + 1).toNatClampNeg)]) (rest := []) (M1 := M1) (v1 := some (.int v)) (hCal_of _ rfl rfl rfl rfl rfl rfl rfl rfl r1) c1 ?_
  refine hX_goM 5 1029 (zLo i) [.int (i + 1), .ref 1000, .ref 63, .int v] rfl ?_
  refine hX_gM (gIn (i + 1) L) 1030 (zLo i) [.int (xs (i + 1).toNatClampNeg), .ref 63, .int v] rfl hg.1 ?_
  refine hX_call (d := 11) (r' := zR_183) (vals := [.ref 63, .int (xs (i + 1).toNatClampNeg)]) (rest := [.int v]) (M1 := M2) (v1 := some (.int v)) (hCal_of _ rfl rfl rfl rfl rfl rfl rfl rfl r2) c2 ?_
  refine hX_goM 1 (bif gCmp .eq v v then 1599 else 1036) (zLo i) [] rfl ?_
  exact hX_ifT _ (decide_eq_true rfl) k
theorem w_30 {L : Nat} {xs : Nat → Int32} {i : Int32} {M : List gE} (hg : gIn (i + 1) L = true ∧ gIn (i + 2) L = true ∧ gIn (i + 3) L = true ∧ gIn (i + 4) L = true ∧ gIn (i + 5) L = true) (hZ : jZ M) (K : ∀ M2, jZ M2 → zX L xs 1599 (zLo i) [] M2) : zX L xs 1038 (zLo i) [] M := by
  obtain ⟨v, M1, M2, r1, c1, r2, c2, hZ2⟩ := z_lasts (L := L) (xs := xs) (xs (i + 1).toNatClampNeg) (xs (i + 2).toNatClampNeg) (xs (i + 3).toNatClampNeg) hZ
  obtain ⟨M9, k⟩ := K M2 hZ2
  refine ⟨M9, ?_⟩
  refine hX_goM 5 1043 (zLo i) [.int (i + 1), .ref 1000, .ref 0] rfl ?_
  refine hX_gM (gIn (i + 1) L) 1044 (zLo i) [.int (xs (i + 1).toNatClampNeg), .ref 0] rfl hg.1 ?_
  refine hX_goM 4 1048 (zLo i) [.int (i + 2), .ref 1000, .int (xs (i + 1).toNatClampNeg), .ref 0] rfl ?_
  refine hX_gM (gIn (i + 2) L) 1049 (zLo i) [.int (xs (i + 2).toNatClampNeg), .int (xs (i + 1).toNatClampNeg), .ref 0] rfl hg.2.1 ?_
  refine hX_goM 4 1053 (zLo i) [.int (i + 3), .ref 1000, .int (xs (i + 2).toNatClampNeg), .int (xs (i + 1).toNatClampNeg), .ref 0] rfl ?_
  refine hX_gM (gIn (i + 3) L) 1054 (zLo i) [.int (xs (i + 3).toNatClampNeg), .int (xs (i + 2).toNatClampNeg), .int (xs (i + 1).toNatClampNeg), .ref 0] rfl hg.2.2.1 ?_
  refine hX_call (d := 11) (r' := zR_91) (vals := [.ref 0, .int (xs (i + 1).toNatClampNeg), .int (xs (i + 2).toNatClampNeg), .int (xs (i + 3).toNatClampNeg)]) (rest := []) (M1 := M1) (v1 := some (.long v)) (hCal_of _ rfl rfl rfl rfl rfl rfl rfl rfl r1) c1 ?_
  refine hX_goM 5 1062 (zLo i) [.int (i + 1), .ref 1000, .ref 63, .long v] rfl ?_
  refine hX_gM (gIn (i + 1) L) 1063 (zLo i) [.int (xs (i + 1).toNatClampNeg), .ref 63, .long v] rfl hg.1 ?_
  refine hX_goM 4 1067 (zLo i) [.int (i + 2), .ref 1000, .int (xs (i + 1).toNatClampNeg), .ref 63, .long v] rfl ?_
  refine hX_gM (gIn (i + 2) L) 1068 (zLo i) [.int (xs (i + 2).toNatClampNeg), .int (xs (i + 1).toNatClampNeg), .ref 63, .long v] rfl hg.2.1 ?_
  refine hX_goM 4 1072 (zLo i) [.int (i + 3), .ref 1000, .int (xs (i + 2).toNatClampNeg), .int (xs (i + 1).toNatClampNeg), .ref 63, .long v] rfl ?_
  refine hX_gM (gIn (i + 3) L) 1073 (zLo i) [.int (xs (i + 3).toNatClampNeg), .int (xs (i + 2).toNatClampNeg), .int (xs (i + 1).toNatClampNeg), .ref 63, .long v] rfl hg.2.2.1 ?_
  refine hX_call (d := 11) (r' := zR_184) (vals := [.ref 63, .int (xs (i + 1).toNatClampNeg), .int (xs (i + 2).toNatClampNeg), .int (xs (i + 3).toNatClampNeg)]) (rest := [.long v]) (M1 := M2) (v1 := some (.long v)) (hCal_of _ rfl rfl rfl rfl rfl rfl rfl rfl r2) c2 ?_
  refine hX_goM 2 (bif gCmp .eq (lg_cmp v v) 0 then 1599 else 1080) (zLo i) [] rfl ?_
  refine hX_ifT _ ?_ k
  rw [zCmp v]; rfl
theorem w_31 {L : Nat} {xs : Nat → Int32} {i : Int32} {M : List gE} (hg : gIn (i + 1) L = true ∧ gIn (i + 2) L = true ∧ gIn (i + 3) L = true ∧ gIn (i + 4) L = true ∧ gIn (i + 5) L = true) (hZ : jZ M) (K : ∀ M2, jZ M2 → zX L xs 1599 (zLo i) [] M2) : zX L xs 1082 (zLo i) [] M := by
  obtain ⟨v, M1, M2, r1, c1, r2, c2, hZ2⟩ := z_fits (L := L) (xs := xs) (xs (i + 1).toNatClampNeg) (xs (i + 2).toNatClampNeg) hZ
  obtain ⟨M9, k⟩ := K M2 hZ2
  refine ⟨M9, ?_⟩
  refine hX_goM 5 1087 (zLo i) [.int (i + 1), .ref 1000, .ref 0] rfl ?_
  refine hX_gM (gIn (i + 1) L) 1088 (zLo i) [.int (xs (i + 1).toNatClampNeg), .ref 0] rfl hg.1 ?_
  refine hX_goM 4 1092 (zLo i) [.int (i + 2), .ref 1000, .int (xs (i + 1).toNatClampNeg), .ref 0] rfl ?_
  refine hX_gM (gIn (i + 2) L) 1093 (zLo i) [.int (xs (i + 2).toNatClampNeg), .int (xs (i + 1).toNatClampNeg), .ref 0] rfl hg.2.1 ?_
  refine hX_call (d := 11) (r' := zR_92) (vals := [.ref 0, .int (xs (i + 1).toNatClampNeg), .int (xs (i + 2).toNatClampNeg)]) (rest := []) (M1 := M1) (v1 := some (.int v)) (hCal_of _ rfl rfl rfl rfl rfl rfl rfl rfl r1) c1 ?_
  refine hX_goM 5 1101 (zLo i) [.int (i + 1), .ref 1000, .ref 63, .int v] rfl ?_
  refine hX_gM (gIn (i + 1) L) 1102 (zLo i) [.int (xs (i + 1).toNatClampNeg), .ref 63, .int v] rfl hg.1 ?_
  refine hX_goM 4 1106 (zLo i) [.int (i + 2), .ref 1000, .int (xs (i + 1).toNatClampNeg), .ref 63, .int v] rfl ?_
  refine hX_gM (gIn (i + 2) L) 1107 (zLo i) [.int (xs (i + 2).toNatClampNeg), .int (xs (i + 1).toNatClampNeg), .ref 63, .int v] rfl hg.2.1 ?_
  refine hX_call (d := 11) (r' := zR_190) (vals := [.ref 63, .int (xs (i + 1).toNatClampNeg), .int (xs (i + 2).toNatClampNeg)]) (rest := [.int v]) (M1 := M2) (v1 := some (.int v)) (hCal_of _ rfl rfl rfl rfl rfl rfl rfl rfl r2) c2 ?_
  refine hX_goM 1 (bif gCmp .eq v v then 1599 else 1113) (zLo i) [] rfl ?_
  exact hX_ifT _ (decide_eq_true rfl) k
theorem w_32 {L : Nat} {xs : Nat → Int32} {i : Int32} {M : List gE} (hg : gIn (i + 1) L = true ∧ gIn (i + 2) L = true ∧ gIn (i + 3) L = true ∧ gIn (i + 4) L = true ∧ gIn (i + 5) L = true) (hZ : jZ M) (K : ∀ M2, jZ M2 → zX L xs 1599 (zLo i) [] M2) : zX L xs 1115 (zLo i) [] M := by
  obtain ⟨v, M1, M2, r1, c1, r2, c2, hZ2⟩ := z_slips (L := L) (xs := xs) (xs (i + 1).toNatClampNeg) (xs (i + 2).toNatClampNeg) hZ
  obtain ⟨M9, k⟩ := K M2 hZ2
  refine ⟨M9, ?_⟩
  refine hX_goM 5 1120 (zLo i) [.int (i + 1), .ref 1000, .ref 0] rfl ?_
  refine hX_gM (gIn (i + 1) L) 1121 (zLo i) [.int (xs (i + 1).toNatClampNeg), .ref 0] rfl hg.1 ?_
  refine hX_goM 4 1125 (zLo i) [.int (i + 2), .ref 1000, .int (xs (i + 1).toNatClampNeg), .ref 0] rfl ?_
  refine hX_gM (gIn (i + 2) L) 1126 (zLo i) [.int (xs (i + 2).toNatClampNeg), .int (xs (i + 1).toNatClampNeg), .ref 0] rfl hg.2.1 ?_
  refine hX_call (d := 11) (r' := zR_93) (vals := [.ref 0, .int (xs (i + 1).toNatClampNeg), .int (xs (i + 2).toNatClampNeg)]) (rest := []) (M1 := M1) (v1 := some (.int v)) (hCal_of _ rfl rfl rfl rfl rfl rfl rfl rfl r1) c1 ?_
  refine hX_goM 5 1134 (zLo i) [.int (i + 1), .ref 1000, .ref 63, .int v] rfl ?_
  refine hX_gM (gIn (i + 1) L) 1135 (zLo i) [.int (xs (i + 1).toNatClampNeg), .ref 63, .int v] rfl hg.1 ?_
  refine hX_goM 4 1139 (zLo i) [.int (i + 2), .ref 1000, .int (xs (i + 1).toNatClampNeg), .ref 63, .int v] rfl ?_
  refine hX_gM (gIn (i + 2) L) 1140 (zLo i) [.int (xs (i + 2).toNatClampNeg), .int (xs (i + 1).toNatClampNeg), .ref 63, .int v] rfl hg.2.1 ?_
  refine hX_call (d := 11) (r' := zR_191) (vals := [.ref 63, .int (xs (i + 1).toNatClampNeg), .int (xs (i + 2).toNatClampNeg)]) (rest := [.int v]) (M1 := M2) (v1 := some (.int v)) (hCal_of _ rfl rfl rfl rfl rfl rfl rfl rfl r2) c2 ?_
  refine hX_goM 1 (bif gCmp .eq v v then 1599 else 1146) (zLo i) [] rfl ?_
  exact hX_ifT _ (decide_eq_true rfl) k
theorem w_33 {L : Nat} {xs : Nat → Int32} {i : Int32} {M : List gE} (hg : gIn (i + 1) L = true ∧ gIn (i + 2) L = true ∧ gIn (i + 3) L = true ∧ gIn (i + 4) L = true ∧ gIn (i + 5) L = true) (hZ : jZ M) (K : ∀ M2, jZ M2 → zX L xs 1599 (zLo i) [] M2) : zX L xs 1148 (zLo i) [] M := by
  obtain ⟨v, M1, M2, r1, c1, r2, c2, hZ2⟩ := z_hands (L := L) (xs := xs) (xs (i + 1).toNatClampNeg) hZ
  obtain ⟨M9, k⟩ := K M2 hZ2
  refine ⟨M9, ?_⟩
  refine hX_goM 5 1153 (zLo i) [.int (i + 1), .ref 1000, .ref 0] rfl ?_
  refine hX_gM (gIn (i + 1) L) 1154 (zLo i) [.int (xs (i + 1).toNatClampNeg), .ref 0] rfl hg.1 ?_
  refine hX_call (d := 11) (r' := zR_94) (vals := [.ref 0, .int (xs (i + 1).toNatClampNeg)]) (rest := []) (M1 := M1) (v1 := some (.int v)) (hCal_of _ rfl rfl rfl rfl rfl rfl rfl rfl r1) c1 ?_
  refine hX_goM 5 1162 (zLo i) [.int (i + 1), .ref 1000, .ref 63, .int v] rfl ?_
  refine hX_gM (gIn (i + 1) L) 1163 (zLo i) [.int (xs (i + 1).toNatClampNeg), .ref 63, .int v] rfl hg.1 ?_
  refine hX_call (d := 11) (r' := zR_193) (vals := [.ref 63, .int (xs (i + 1).toNatClampNeg)]) (rest := [.int v]) (M1 := M2) (v1 := some (.int v)) (hCal_of _ rfl rfl rfl rfl rfl rfl rfl rfl r2) c2 ?_
  refine hX_goM 1 (bif gCmp .eq v v then 1599 else 1169) (zLo i) [] rfl ?_
  exact hX_ifT _ (decide_eq_true rfl) k
theorem w_34 {L : Nat} {xs : Nat → Int32} {i : Int32} {M : List gE} (hg : gIn (i + 1) L = true ∧ gIn (i + 2) L = true ∧ gIn (i + 3) L = true ∧ gIn (i + 4) L = true ∧ gIn (i + 5) L = true) (hZ : jZ M) (K : ∀ M2, jZ M2 → zX L xs 1599 (zLo i) [] M2) : zX L xs 1171 (zLo i) [] M := by
  obtain ⟨v, M1, M2, r1, c1, r2, c2, hZ2⟩ := z_seed (L := L) (xs := xs) (xs (i + 1).toNatClampNeg) hZ
  obtain ⟨M9, k⟩ := K M2 hZ2
  refine ⟨M9, ?_⟩
  refine hX_goM 5 1176 (zLo i) [.int (i + 1), .ref 1000, .ref 0] rfl ?_
  refine hX_gM (gIn (i + 1) L) 1177 (zLo i) [.int (xs (i + 1).toNatClampNeg), .ref 0] rfl hg.1 ?_
  refine hX_call (d := 11) (r' := zR_95) (vals := [.ref 0, .int (xs (i + 1).toNatClampNeg)]) (rest := []) (M1 := M1) (v1 := some (.int v)) (hCal_of _ rfl rfl rfl rfl rfl rfl rfl rfl r1) c1 ?_
  refine hX_goM 5 1185 (zLo i) [.int (i + 1), .ref 1000, .ref 63, .int v] rfl ?_
  refine hX_gM (gIn (i + 1) L) 1186 (zLo i) [.int (xs (i + 1).toNatClampNeg), .ref 63, .int v] rfl hg.1 ?_
  refine hX_call (d := 11) (r' := zR_194) (vals := [.ref 63, .int (xs (i + 1).toNatClampNeg)]) (rest := [.int v]) (M1 := M2) (v1 := some (.int v)) (hCal_of _ rfl rfl rfl rfl rfl rfl rfl rfl r2) c2 ?_
  refine hX_goM 1 (bif gCmp .eq v v then 1599 else 1192) (zLo i) [] rfl ?_
  exact hX_ifT _ (decide_eq_true rfl) k
theorem w_35 {L : Nat} {xs : Nat → Int32} {i : Int32} {M : List gE} (hg : gIn (i + 1) L = true ∧ gIn (i + 2) L = true ∧ gIn (i + 3) L = true ∧ gIn (i + 4) L = true ∧ gIn (i + 5) L = true) (hZ : jZ M) (K : ∀ M2, jZ M2 → zX L xs 1599 (zLo i) [] M2) : zX L xs 1194 (zLo i) [] M := by
  obtain ⟨v, M1, M2, r1, c1, r2, c2, hZ2⟩ := z_feed (L := L) (xs := xs) (xs (i + 1).toNatClampNeg) (xs (i + 2).toNatClampNeg) hZ
  obtain ⟨M9, k⟩ := K M2 hZ2
  refine ⟨M9, ?_⟩
  refine hX_goM 5 1199 (zLo i) [.int (i + 1), .ref 1000, .ref 0] rfl ?_
  refine hX_gM (gIn (i + 1) L) 1200 (zLo i) [.int (xs (i + 1).toNatClampNeg), .ref 0] rfl hg.1 ?_
  refine hX_goM 4 1204 (zLo i) [.int (i + 2), .ref 1000, .int (xs (i + 1).toNatClampNeg), .ref 0] rfl ?_
  refine hX_gM (gIn (i + 2) L) 1205 (zLo i) [.int (xs (i + 2).toNatClampNeg), .int (xs (i + 1).toNatClampNeg), .ref 0] rfl hg.2.1 ?_
  refine hX_call (d := 11) (r' := zR_96) (vals := [.ref 0, .int (xs (i + 1).toNatClampNeg), .int (xs (i + 2).toNatClampNeg)]) (rest := []) (M1 := M1) (v1 := some (.int v)) (hCal_of _ rfl rfl rfl rfl rfl rfl rfl rfl r1) c1 ?_
  refine hX_goM 5 1213 (zLo i) [.int (i + 1), .ref 1000, .ref 63, .int v] rfl ?_
  refine hX_gM (gIn (i + 1) L) 1214 (zLo i) [.int (xs (i + 1).toNatClampNeg), .ref 63, .int v] rfl hg.1 ?_
  refine hX_goM 4 1218 (zLo i) [.int (i + 2), .ref 1000, .int (xs (i + 1).toNatClampNeg), .ref 63, .int v] rfl ?_
  refine hX_gM (gIn (i + 2) L) 1219 (zLo i) [.int (xs (i + 2).toNatClampNeg), .int (xs (i + 1).toNatClampNeg), .ref 63, .int v] rfl hg.2.1 ?_
  refine hX_call (d := 11) (r' := zR_197) (vals := [.ref 63, .int (xs (i + 1).toNatClampNeg), .int (xs (i + 2).toNatClampNeg)]) (rest := [.int v]) (M1 := M2) (v1 := some (.int v)) (hCal_of _ rfl rfl rfl rfl rfl rfl rfl rfl r2) c2 ?_
  refine hX_goM 1 (bif gCmp .eq v v then 1599 else 1225) (zLo i) [] rfl ?_
  exact hX_ifT _ (decide_eq_true rfl) k
theorem w_36 {L : Nat} {xs : Nat → Int32} {i : Int32} {M : List gE} (hg : gIn (i + 1) L = true ∧ gIn (i + 2) L = true ∧ gIn (i + 3) L = true ∧ gIn (i + 4) L = true ∧ gIn (i + 5) L = true) (hZ : jZ M) (K : ∀ M2, jZ M2 → zX L xs 1599 (zLo i) [] M2) : zX L xs 1227 (zLo i) [] M := by
  obtain ⟨v, M1, M2, r1, c1, r2, c2, hZ2⟩ := z_wipe (L := L) (xs := xs)  hZ
  obtain ⟨M9, k⟩ := K M2 hZ2
  refine ⟨M9, ?_⟩
  refine hX_goM 1 1228 (zLo i) [.ref 0] rfl ?_
  refine hX_call (d := 11) (r' := zR_97) (vals := [.ref 0]) (rest := []) (M1 := M1) (v1 := some (.int v)) (hCal_of _ rfl rfl rfl rfl rfl rfl rfl rfl r1) c1 ?_
  refine hX_goM 1 1232 (zLo i) [.ref 63, .int v] rfl ?_
  refine hX_call (d := 11) (r' := zR_198) (vals := [.ref 63]) (rest := [.int v]) (M1 := M2) (v1 := some (.int v)) (hCal_of _ rfl rfl rfl rfl rfl rfl rfl rfl r2) c2 ?_
  refine hX_goM 1 (bif gCmp .eq v v then 1599 else 1238) (zLo i) [] rfl ?_
  exact hX_ifT _ (decide_eq_true rfl) k
theorem w_37 {L : Nat} {xs : Nat → Int32} {i : Int32} {M : List gE} (hg : gIn (i + 1) L = true ∧ gIn (i + 2) L = true ∧ gIn (i + 3) L = true ∧ gIn (i + 4) L = true ∧ gIn (i + 5) L = true) (hZ : jZ M) (K : ∀ M2, jZ M2 → zX L xs 1599 (zLo i) [] M2) : zX L xs 1240 (zLo i) [] M := by
  obtain ⟨v, M1, M2, r1, c1, r2, c2, hZ2⟩ := z_text (L := L) (xs := xs)  hZ
  obtain ⟨M9, k⟩ := K M2 hZ2
  refine ⟨M9, ?_⟩
  refine hX_goM 1 1241 (zLo i) [.ref 0] rfl ?_
  refine hX_call (d := 11) (r' := zR_98) (vals := [.ref 0]) (rest := []) (M1 := M1) (v1 := some (.int v)) (hCal_of _ rfl rfl rfl rfl rfl rfl rfl rfl r1) c1 ?_
  refine hX_goM 1 1245 (zLo i) [.ref 63, .int v] rfl ?_
  refine hX_call (d := 11) (r' := zR_208) (vals := [.ref 63]) (rest := [.int v]) (M1 := M2) (v1 := some (.int v)) (hCal_of _ rfl rfl rfl rfl rfl rfl rfl rfl r2) c2 ?_
  refine hX_goM 1 (bif gCmp .eq v v then 1599 else 1251) (zLo i) [] rfl ?_
  exact hX_ifT _ (decide_eq_true rfl) k
theorem w_38 {L : Nat} {xs : Nat → Int32} {i : Int32} {M : List gE} (hg : gIn (i + 1) L = true ∧ gIn (i + 2) L = true ∧ gIn (i + 3) L = true ∧ gIn (i + 4) L = true ∧ gIn (i + 5) L = true) (hZ : jZ M) (K : ∀ M2, jZ M2 → zX L xs 1599 (zLo i) [] M2) : zX L xs 1253 (zLo i) [] M := by
  obtain ⟨v, M1, M2, r1, c1, r2, c2, hZ2⟩ := z_hold (L := L) (xs := xs) (xs (i + 1).toNatClampNeg) (xs (i + 2).toNatClampNeg) hZ
  obtain ⟨M9, k⟩ := K M2 hZ2
  refine ⟨M9, ?_⟩
  refine hX_goM 5 1258 (zLo i) [.int (i + 1), .ref 1000, .ref 0] rfl ?_
  refine hX_gM (gIn (i + 1) L) 1259 (zLo i) [.int (xs (i + 1).toNatClampNeg), .ref 0] rfl hg.1 ?_
  refine hX_goM 4 1263 (zLo i) [.int (i + 2), .ref 1000, .int (xs (i + 1).toNatClampNeg), .ref 0] rfl ?_
  refine hX_gM (gIn (i + 2) L) 1264 (zLo i) [.int (xs (i + 2).toNatClampNeg), .int (xs (i + 1).toNatClampNeg), .ref 0] rfl hg.2.1 ?_
  refine hX_call (d := 11) (r' := zR_99) (vals := [.ref 0, .int (xs (i + 1).toNatClampNeg), .int (xs (i + 2).toNatClampNeg)]) (rest := []) (M1 := M1) (v1 := some (.int v)) (hCal_of _ rfl rfl rfl rfl rfl rfl rfl rfl r1) c1 ?_
  refine hX_goM 5 1272 (zLo i) [.int (i + 1), .ref 1000, .ref 63, .int v] rfl ?_
  refine hX_gM (gIn (i + 1) L) 1273 (zLo i) [.int (xs (i + 1).toNatClampNeg), .ref 63, .int v] rfl hg.1 ?_
  refine hX_goM 4 1277 (zLo i) [.int (i + 2), .ref 1000, .int (xs (i + 1).toNatClampNeg), .ref 63, .int v] rfl ?_
  refine hX_gM (gIn (i + 2) L) 1278 (zLo i) [.int (xs (i + 2).toNatClampNeg), .int (xs (i + 1).toNatClampNeg), .ref 63, .int v] rfl hg.2.1 ?_
  refine hX_call (d := 11) (r' := zR_210) (vals := [.ref 63, .int (xs (i + 1).toNatClampNeg), .int (xs (i + 2).toNatClampNeg)]) (rest := [.int v]) (M1 := M2) (v1 := some (.int v)) (hCal_of _ rfl rfl rfl rfl rfl rfl rfl rfl r2) c2 ?_
  refine hX_goM 1 (bif gCmp .eq v v then 1599 else 1284) (zLo i) [] rfl ?_
  exact hX_ifT _ (decide_eq_true rfl) k
theorem w_39 {L : Nat} {xs : Nat → Int32} {i : Int32} {M : List gE} (hg : gIn (i + 1) L = true ∧ gIn (i + 2) L = true ∧ gIn (i + 3) L = true ∧ gIn (i + 4) L = true ∧ gIn (i + 5) L = true) (hZ : jZ M) (K : ∀ M2, jZ M2 → zX L xs 1599 (zLo i) [] M2) : zX L xs 1286 (zLo i) [] M := by
  obtain ⟨v, M1, M2, r1, c1, r2, c2, hZ2⟩ := z_as (L := L) (xs := xs) (xs (i + 1).toNatClampNeg) (xs (i + 2).toNatClampNeg) hZ
  obtain ⟨M9, k⟩ := K M2 hZ2
  refine ⟨M9, ?_⟩
  refine hX_goM 5 1291 (zLo i) [.int (i + 1), .ref 1000, .ref 0] rfl ?_
  refine hX_gM (gIn (i + 1) L) 1292 (zLo i) [.int (xs (i + 1).toNatClampNeg), .ref 0] rfl hg.1 ?_
  refine hX_goM 4 1296 (zLo i) [.int (i + 2), .ref 1000, .int (xs (i + 1).toNatClampNeg), .ref 0] rfl ?_
  refine hX_gM (gIn (i + 2) L) 1297 (zLo i) [.int (xs (i + 2).toNatClampNeg), .int (xs (i + 1).toNatClampNeg), .ref 0] rfl hg.2.1 ?_
  refine hX_call (d := 11) (r' := zR_100) (vals := [.ref 0, .int (xs (i + 1).toNatClampNeg), .int (xs (i + 2).toNatClampNeg)]) (rest := []) (M1 := M1) (v1 := some (.int v)) (hCal_of _ rfl rfl rfl rfl rfl rfl rfl rfl r1) c1 ?_
  refine hX_goM 5 1305 (zLo i) [.int (i + 1), .ref 1000, .ref 63, .int v] rfl ?_
  refine hX_gM (gIn (i + 1) L) 1306 (zLo i) [.int (xs (i + 1).toNatClampNeg), .ref 63, .int v] rfl hg.1 ?_
  refine hX_goM 4 1310 (zLo i) [.int (i + 2), .ref 1000, .int (xs (i + 1).toNatClampNeg), .ref 63, .int v] rfl ?_
  refine hX_gM (gIn (i + 2) L) 1311 (zLo i) [.int (xs (i + 2).toNatClampNeg), .int (xs (i + 1).toNatClampNeg), .ref 63, .int v] rfl hg.2.1 ?_
  refine hX_call (d := 11) (r' := zR_212) (vals := [.ref 63, .int (xs (i + 1).toNatClampNeg), .int (xs (i + 2).toNatClampNeg)]) (rest := [.int v]) (M1 := M2) (v1 := some (.int v)) (hCal_of _ rfl rfl rfl rfl rfl rfl rfl rfl r2) c2 ?_
  refine hX_goM 1 (bif gCmp .eq v v then 1599 else 1317) (zLo i) [] rfl ?_
  exact hX_ifT _ (decide_eq_true rfl) k
theorem w_40 {L : Nat} {xs : Nat → Int32} {i : Int32} {M : List gE} (hg : gIn (i + 1) L = true ∧ gIn (i + 2) L = true ∧ gIn (i + 3) L = true ∧ gIn (i + 4) L = true ∧ gIn (i + 5) L = true) (hZ : jZ M) (K : ∀ M2, jZ M2 → zX L xs 1599 (zLo i) [] M2) : zX L xs 1319 (zLo i) [] M := by
  obtain ⟨v, M1, M2, r1, c1, r2, c2, hZ2⟩ := z_sheet (L := L) (xs := xs) (xs (i + 1).toNatClampNeg) (xs (i + 2).toNatClampNeg) (xs (i + 3).toNatClampNeg) hZ
  obtain ⟨M9, k⟩ := K M2 hZ2
  refine ⟨M9, ?_⟩
  refine hX_goM 5 1324 (zLo i) [.int (i + 1), .ref 1000, .ref 0] rfl ?_
  refine hX_gM (gIn (i + 1) L) 1325 (zLo i) [.int (xs (i + 1).toNatClampNeg), .ref 0] rfl hg.1 ?_
  refine hX_goM 4 1329 (zLo i) [.int (i + 2), .ref 1000, .int (xs (i + 1).toNatClampNeg), .ref 0] rfl ?_
  refine hX_gM (gIn (i + 2) L) 1330 (zLo i) [.int (xs (i + 2).toNatClampNeg), .int (xs (i + 1).toNatClampNeg), .ref 0] rfl hg.2.1 ?_
  refine hX_goM 4 1334 (zLo i) [.int (i + 3), .ref 1000, .int (xs (i + 2).toNatClampNeg), .int (xs (i + 1).toNatClampNeg), .ref 0] rfl ?_
  refine hX_gM (gIn (i + 3) L) 1335 (zLo i) [.int (xs (i + 3).toNatClampNeg), .int (xs (i + 2).toNatClampNeg), .int (xs (i + 1).toNatClampNeg), .ref 0] rfl hg.2.2.1 ?_
  refine hX_call (d := 11) (r' := zR_101) (vals := [.ref 0, .int (xs (i + 1).toNatClampNeg), .int (xs (i + 2).toNatClampNeg), .int (xs (i + 3).toNatClampNeg)]) (rest := []) (M1 := M1) (v1 := some (.int v)) (hCal_of _ rfl rfl rfl rfl rfl rfl rfl rfl r1) c1 ?_
  refine hX_goM 5 1343 (zLo i) [.int (i + 1), .ref 1000, .ref 63, .int v] rfl ?_
  refine hX_gM (gIn (i + 1) L) 1344 (zLo i) [.int (xs (i + 1).toNatClampNeg), .ref 63, .int v] rfl hg.1 ?_
  refine hX_goM 4 1348 (zLo i) [.int (i + 2), .ref 1000, .int (xs (i + 1).toNatClampNeg), .ref 63, .int v] rfl ?_
  refine hX_gM (gIn (i + 2) L) 1349 (zLo i) [.int (xs (i + 2).toNatClampNeg), .int (xs (i + 1).toNatClampNeg), .ref 63, .int v] rfl hg.2.1 ?_
  refine hX_goM 4 1353 (zLo i) [.int (i + 3), .ref 1000, .int (xs (i + 2).toNatClampNeg), .int (xs (i + 1).toNatClampNeg), .ref 63, .int v] rfl ?_
  refine hX_gM (gIn (i + 3) L) 1354 (zLo i) [.int (xs (i + 3).toNatClampNeg), .int (xs (i + 2).toNatClampNeg), .int (xs (i + 1).toNatClampNeg), .ref 63, .int v] rfl hg.2.2.1 ?_
  refine hX_call (d := 11) (r' := zR_213) (vals := [.ref 63, .int (xs (i + 1).toNatClampNeg), .int (xs (i + 2).toNatClampNeg), .int (xs (i + 3).toNatClampNeg)]) (rest := [.int v]) (M1 := M2) (v1 := some (.int v)) (hCal_of _ rfl rfl rfl rfl rfl rfl rfl rfl r2) c2 ?_
  refine hX_goM 1 (bif gCmp .eq v v then 1599 else 1360) (zLo i) [] rfl ?_
  exact hX_ifT _ (decide_eq_true rfl) k
theorem w_41 {L : Nat} {xs : Nat → Int32} {i : Int32} {M : List gE} (hg : gIn (i + 1) L = true ∧ gIn (i + 2) L = true ∧ gIn (i + 3) L = true ∧ gIn (i + 4) L = true ∧ gIn (i + 5) L = true) (hZ : jZ M) (K : ∀ M2, jZ M2 → zX L xs 1599 (zLo i) [] M2) : zX L xs 1362 (zLo i) [] M := by
  obtain ⟨v, M1, M2, r1, c1, r2, c2, hZ2⟩ := z_write (L := L) (xs := xs) (xs (i + 1).toNatClampNeg) (xs (i + 2).toNatClampNeg) (xs (i + 3).toNatClampNeg) hZ
  obtain ⟨M9, k⟩ := K M2 hZ2
  refine ⟨M9, ?_⟩
  refine hX_goM 5 1367 (zLo i) [.int (i + 1), .ref 1000, .ref 0] rfl ?_
  refine hX_gM (gIn (i + 1) L) 1368 (zLo i) [.int (xs (i + 1).toNatClampNeg), .ref 0] rfl hg.1 ?_
  refine hX_goM 4 1372 (zLo i) [.int (i + 2), .ref 1000, .int (xs (i + 1).toNatClampNeg), .ref 0] rfl ?_
  refine hX_gM (gIn (i + 2) L) 1373 (zLo i) [.int (xs (i + 2).toNatClampNeg), .int (xs (i + 1).toNatClampNeg), .ref 0] rfl hg.2.1 ?_
  refine hX_goM 4 1377 (zLo i) [.int (i + 3), .ref 1000, .int (xs (i + 2).toNatClampNeg), .int (xs (i + 1).toNatClampNeg), .ref 0] rfl ?_
  refine hX_gM (gIn (i + 3) L) 1378 (zLo i) [.int (xs (i + 3).toNatClampNeg), .int (xs (i + 2).toNatClampNeg), .int (xs (i + 1).toNatClampNeg), .ref 0] rfl hg.2.2.1 ?_
  refine hX_call (d := 11) (r' := zR_102) (vals := [.ref 0, .int (xs (i + 1).toNatClampNeg), .int (xs (i + 2).toNatClampNeg), .int (xs (i + 3).toNatClampNeg)]) (rest := []) (M1 := M1) (v1 := some (.int v)) (hCal_of _ rfl rfl rfl rfl rfl rfl rfl rfl r1) c1 ?_
  refine hX_goM 5 1386 (zLo i) [.int (i + 1), .ref 1000, .ref 63, .int v] rfl ?_
  refine hX_gM (gIn (i + 1) L) 1387 (zLo i) [.int (xs (i + 1).toNatClampNeg), .ref 63, .int v] rfl hg.1 ?_
  refine hX_goM 4 1391 (zLo i) [.int (i + 2), .ref 1000, .int (xs (i + 1).toNatClampNeg), .ref 63, .int v] rfl ?_
  refine hX_gM (gIn (i + 2) L) 1392 (zLo i) [.int (xs (i + 2).toNatClampNeg), .int (xs (i + 1).toNatClampNeg), .ref 63, .int v] rfl hg.2.1 ?_
  refine hX_goM 4 1396 (zLo i) [.int (i + 3), .ref 1000, .int (xs (i + 2).toNatClampNeg), .int (xs (i + 1).toNatClampNeg), .ref 63, .int v] rfl ?_
  refine hX_gM (gIn (i + 3) L) 1397 (zLo i) [.int (xs (i + 3).toNatClampNeg), .int (xs (i + 2).toNatClampNeg), .int (xs (i + 1).toNatClampNeg), .ref 63, .int v] rfl hg.2.2.1 ?_
  refine hX_call (d := 11) (r' := zR_214) (vals := [.ref 63, .int (xs (i + 1).toNatClampNeg), .int (xs (i + 2).toNatClampNeg), .int (xs (i + 3).toNatClampNeg)]) (rest := [.int v]) (M1 := M2) (v1 := some (.int v)) (hCal_of _ rfl rfl rfl rfl rfl rfl rfl rfl r2) c2 ?_
  refine hX_goM 1 (bif gCmp .eq v v then 1599 else 1403) (zLo i) [] rfl ?_
  exact hX_ifT _ (decide_eq_true rfl) k
theorem w_42 {L : Nat} {xs : Nat → Int32} {i : Int32} {M : List gE} (hg : gIn (i + 1) L = true ∧ gIn (i + 2) L = true ∧ gIn (i + 3) L = true ∧ gIn (i + 4) L = true ∧ gIn (i + 5) L = true) (hZ : jZ M) (K : ∀ M2, jZ M2 → zX L xs 1599 (zLo i) [] M2) : zX L xs 1405 (zLo i) [] M := by
  obtain ⟨v, M1, M2, r1, c1, r2, c2, hZ2⟩ := z_copy (L := L) (xs := xs) (xs (i + 1).toNatClampNeg) (xs (i + 2).toNatClampNeg) (xs (i + 3).toNatClampNeg) (xs (i + 4).toNatClampNeg) (xs (i + 5).toNatClampNeg) hZ
  obtain ⟨M9, k⟩ := K M2 hZ2
  refine ⟨M9, ?_⟩
  refine hX_goM 5 1410 (zLo i) [.int (i + 1), .ref 1000, .ref 0] rfl ?_
  refine hX_gM (gIn (i + 1) L) 1411 (zLo i) [.int (xs (i + 1).toNatClampNeg), .ref 0] rfl hg.1 ?_
  refine hX_goM 4 1415 (zLo i) [.int (i + 2), .ref 1000, .int (xs (i + 1).toNatClampNeg), .ref 0] rfl ?_
  refine hX_gM (gIn (i + 2) L) 1416 (zLo i) [.int (xs (i + 2).toNatClampNeg), .int (xs (i + 1).toNatClampNeg), .ref 0] rfl hg.2.1 ?_
  refine hX_goM 4 1420 (zLo i) [.int (i + 3), .ref 1000, .int (xs (i + 2).toNatClampNeg), .int (xs (i + 1).toNatClampNeg), .ref 0] rfl ?_
  refine hX_gM (gIn (i + 3) L) 1421 (zLo i) [.int (xs (i + 3).toNatClampNeg), .int (xs (i + 2).toNatClampNeg), .int (xs (i + 1).toNatClampNeg), .ref 0] rfl hg.2.2.1 ?_
  refine hX_goM 4 1425 (zLo i) [.int (i + 4), .ref 1000, .int (xs (i + 3).toNatClampNeg), .int (xs (i + 2).toNatClampNeg), .int (xs (i + 1).toNatClampNeg), .ref 0] rfl ?_
  refine hX_gM (gIn (i + 4) L) 1426 (zLo i) [.int (xs (i + 4).toNatClampNeg), .int (xs (i + 3).toNatClampNeg), .int (xs (i + 2).toNatClampNeg), .int (xs (i + 1).toNatClampNeg), .ref 0] rfl hg.2.2.2.1 ?_
  refine hX_goM 4 1430 (zLo i) [.int (i + 5), .ref 1000, .int (xs (i + 4).toNatClampNeg), .int (xs (i + 3).toNatClampNeg), .int (xs (i + 2).toNatClampNeg), .int (xs (i + 1).toNatClampNeg), .ref 0] rfl ?_
  refine hX_gM (gIn (i + 5) L) 1431 (zLo i) [.int (xs (i + 5).toNatClampNeg), .int (xs (i + 4).toNatClampNeg), .int (xs (i + 3).toNatClampNeg), .int (xs (i + 2).toNatClampNeg), .int (xs (i + 1).toNatClampNeg), .ref 0] rfl hg.2.2.2.2 ?_
  refine hX_call (d := 11) (r' := zR_103) (vals := [.ref 0, .int (xs (i + 1).toNatClampNeg), .int (xs (i + 2).toNatClampNeg), .int (xs (i + 3).toNatClampNeg), .int (xs (i + 4).toNatClampNeg), .int (xs (i + 5).toNatClampNeg)]) (rest := []) (M1 := M1) (v1 := some (.int v)) (hCal_of _ rfl rfl rfl rfl rfl rfl rfl rfl r1) c1 ?_
  refine hX_goM 5 1439 (zLo i) [.int (i + 1), .ref 1000, .ref 63, .int v] rfl ?_
  refine hX_gM (gIn (i + 1) L) 1440 (zLo i) [.int (xs (i + 1).toNatClampNeg), .ref 63, .int v] rfl hg.1 ?_
  refine hX_goM 4 1444 (zLo i) [.int (i + 2), .ref 1000, .int (xs (i + 1).toNatClampNeg), .ref 63, .int v] rfl ?_
  refine hX_gM (gIn (i + 2) L) 1445 (zLo i) [.int (xs (i + 2).toNatClampNeg), .int (xs (i + 1).toNatClampNeg), .ref 63, .int v] rfl hg.2.1 ?_
  refine hX_goM 4 1449 (zLo i) [.int (i + 3), .ref 1000, .int (xs (i + 2).toNatClampNeg), .int (xs (i + 1).toNatClampNeg), .ref 63, .int v] rfl ?_
  refine hX_gM (gIn (i + 3) L) 1450 (zLo i) [.int (xs (i + 3).toNatClampNeg), .int (xs (i + 2).toNatClampNeg), .int (xs (i + 1).toNatClampNeg), .ref 63, .int v] rfl hg.2.2.1 ?_
  refine hX_goM 4 1454 (zLo i) [.int (i + 4), .ref 1000, .int (xs (i + 3).toNatClampNeg), .int (xs (i + 2).toNatClampNeg), .int (xs (i + 1).toNatClampNeg), .ref 63, .int v] rfl ?_
  refine hX_gM (gIn (i + 4) L) 1455 (zLo i) [.int (xs (i + 4).toNatClampNeg), .int (xs (i + 3).toNatClampNeg), .int (xs (i + 2).toNatClampNeg), .int (xs (i + 1).toNatClampNeg), .ref 63, .int v] rfl hg.2.2.2.1 ?_
  refine hX_goM 4 1459 (zLo i) [.int (i + 5), .ref 1000, .int (xs (i + 4).toNatClampNeg), .int (xs (i + 3).toNatClampNeg), .int (xs (i + 2).toNatClampNeg), .int (xs (i + 1).toNatClampNeg), .ref 63, .int v] rfl ?_
  refine hX_gM (gIn (i + 5) L) 1460 (zLo i) [.int (xs (i + 5).toNatClampNeg), .int (xs (i + 4).toNatClampNeg), .int (xs (i + 3).toNatClampNeg), .int (xs (i + 2).toNatClampNeg), .int (xs (i + 1).toNatClampNeg), .ref 63, .int v] rfl hg.2.2.2.2 ?_
  refine hX_call (d := 11) (r' := zR_215) (vals := [.ref 63, .int (xs (i + 1).toNatClampNeg), .int (xs (i + 2).toNatClampNeg), .int (xs (i + 3).toNatClampNeg), .int (xs (i + 4).toNatClampNeg), .int (xs (i + 5).toNatClampNeg)]) (rest := [.int v]) (M1 := M2) (v1 := some (.int v)) (hCal_of _ rfl rfl rfl rfl rfl rfl rfl rfl r2) c2 ?_
  refine hX_goM 1 (bif gCmp .eq v v then 1599 else 1466) (zLo i) [] rfl ?_
  exact hX_ifT _ (decide_eq_true rfl) k
theorem w_43 {L : Nat} {xs : Nat → Int32} {i : Int32} {M : List gE} (hg : gIn (i + 1) L = true ∧ gIn (i + 2) L = true ∧ gIn (i + 3) L = true ∧ gIn (i + 4) L = true ∧ gIn (i + 5) L = true) (hZ : jZ M) (K : ∀ M2, jZ M2 → zX L xs 1599 (zLo i) [] M2) : zX L xs 1468 (zLo i) [] M := by
  obtain ⟨v, M1, M2, r1, c1, r2, c2, hZ2⟩ := z_load (L := L) (xs := xs) (xs (i + 1).toNatClampNeg) hZ
  obtain ⟨M9, k⟩ := K M2 hZ2
  refine ⟨M9, ?_⟩
  refine hX_goM 5 1473 (zLo i) [.int (i + 1), .ref 1000, .ref 0] rfl ?_
  refine hX_gM (gIn (i + 1) L) 1474 (zLo i) [.int (xs (i + 1).toNatClampNeg), .ref 0] rfl hg.1 ?_
  refine hX_call (d := 11) (r' := zR_104) (vals := [.ref 0, .int (xs (i + 1).toNatClampNeg)]) (rest := []) (M1 := M1) (v1 := some (.int v)) (hCal_of _ rfl rfl rfl rfl rfl rfl rfl rfl r1) c1 ?_
  refine hX_goM 5 1482 (zLo i) [.int (i + 1), .ref 1000, .ref 63, .int v] rfl ?_
  refine hX_gM (gIn (i + 1) L) 1483 (zLo i) [.int (xs (i + 1).toNatClampNeg), .ref 63, .int v] rfl hg.1 ?_
  refine hX_call (d := 11) (r' := zR_216) (vals := [.ref 63, .int (xs (i + 1).toNatClampNeg)]) (rest := [.int v]) (M1 := M2) (v1 := some (.int v)) (hCal_of _ rfl rfl rfl rfl rfl rfl rfl rfl r2) c2 ?_
  refine hX_goM 1 (bif gCmp .eq v v then 1599 else 1489) (zLo i) [] rfl ?_
  exact hX_ifT _ (decide_eq_true rfl) k
theorem w_44 {L : Nat} {xs : Nat → Int32} {i : Int32} {M : List gE} (hg : gIn (i + 1) L = true ∧ gIn (i + 2) L = true ∧ gIn (i + 3) L = true ∧ gIn (i + 4) L = true ∧ gIn (i + 5) L = true) (hZ : jZ M) (K : ∀ M2, jZ M2 → zX L xs 1599 (zLo i) [] M2) : zX L xs 1491 (zLo i) [] M := by
  obtain ⟨v, M1, M2, r1, c1, r2, c2, hZ2⟩ := z_judge (L := L) (xs := xs) (xs (i + 1).toNatClampNeg) hZ
  obtain ⟨M9, k⟩ := K M2 hZ2
  refine ⟨M9, ?_⟩
  refine hX_goM 5 1496 (zLo i) [.int (i + 1), .ref 1000, .ref 0] rfl ?_
  refine hX_gM (gIn (i + 1) L) 1497 (zLo i) [.int (xs (i + 1).toNatClampNeg), .ref 0] rfl hg.1 ?_
  refine hX_call (d := 11) (r' := zR_105) (vals := [.ref 0, .int (xs (i + 1).toNatClampNeg)]) (rest := []) (M1 := M1) (v1 := some (.int v)) (hCal_of _ rfl rfl rfl rfl rfl rfl rfl rfl r1) c1 ?_
  refine hX_goM 5 1505 (zLo i) [.int (i + 1), .ref 1000, .ref 63, .int v] rfl ?_
  refine hX_gM (gIn (i + 1) L) 1506 (zLo i) [.int (xs (i + 1).toNatClampNeg), .ref 63, .int v] rfl hg.1 ?_
  refine hX_call (d := 11) (r' := zR_217) (vals := [.ref 63, .int (xs (i + 1).toNatClampNeg)]) (rest := [.int v]) (M1 := M2) (v1 := some (.int v)) (hCal_of _ rfl rfl rfl rfl rfl rfl rfl rfl r2) c2 ?_
  refine hX_goM 1 (bif gCmp .eq v v then 1599 else 1512) (zLo i) [] rfl ?_
  exact hX_ifT _ (decide_eq_true rfl) k
theorem w_45 {L : Nat} {xs : Nat → Int32} {i : Int32} {M : List gE} (hg : gIn (i + 1) L = true ∧ gIn (i + 2) L = true ∧ gIn (i + 3) L = true ∧ gIn (i + 4) L = true ∧ gIn (i + 5) L = true) (hZ : jZ M) (K : ∀ M2, jZ M2 → zX L xs 1599 (zLo i) [] M2) : zX L xs 1514 (zLo i) [] M := by
  obtain ⟨v, M1, M2, r1, c1, r2, c2, hZ2⟩ := z_image (L := L) (xs := xs)  hZ
  obtain ⟨M9, k⟩ := K M2 hZ2
  refine ⟨M9, ?_⟩
  refine hX_goM 1 1515 (zLo i) [.ref 0] rfl ?_
  refine hX_call (d := 11) (r' := zR_106) (vals := [.ref 0]) (rest := []) (M1 := M1) (v1 := some (.int v)) (hCal_of _ rfl rfl rfl rfl rfl rfl rfl rfl r1) c1 ?_
  refine hX_goM 1 1519 (zLo i) [.ref 63, .int v] rfl ?_
  refine hX_call (d := 11) (r' := zR_218) (vals := [.ref 63]) (rest := [.int v]) (M1 := M2) (v1 := some (.int v)) (hCal_of _ rfl rfl rfl rfl rfl rfl rfl rfl r2) c2 ?_
  refine hX_goM 1 (bif gCmp .eq v v then 1599 else 1525) (zLo i) [] rfl ?_
  exact hX_ifT _ (decide_eq_true rfl) k
theorem w_46 {L : Nat} {xs : Nat → Int32} {i : Int32} {M : List gE} (hg : gIn (i + 1) L = true ∧ gIn (i + 2) L = true ∧ gIn (i + 3) L = true ∧ gIn (i + 4) L = true ∧ gIn (i + 5) L = true) (hZ : jZ M) (K : ∀ M2, jZ M2 → zX L xs 1599 (zLo i) [] M2) : zX L xs 1527 (zLo i) [] M := by
  obtain ⟨v, M1, M2, r1, c1, r2, c2, hZ2⟩ := z_undo (L := L) (xs := xs)  hZ
  obtain ⟨M9, k⟩ := K M2 hZ2
  refine ⟨M9, ?_⟩
  refine hX_goM 1 1528 (zLo i) [.ref 0] rfl ?_
  refine hX_call (d := 11) (r' := zR_107) (vals := [.ref 0]) (rest := []) (M1 := M1) (v1 := some (.int v)) (hCal_of _ rfl rfl rfl rfl rfl rfl rfl rfl r1) c1 ?_
  refine hX_goM 1 1532 (zLo i) [.ref 63, .int v] rfl ?_
  refine hX_call (d := 11) (r' := zR_219) (vals := [.ref 63]) (rest := [.int v]) (M1 := M2) (v1 := some (.int v)) (hCal_of _ rfl rfl rfl rfl rfl rfl rfl rfl r2) c2 ?_
  refine hX_goM 1 (bif gCmp .eq v v then 1599 else 1538) (zLo i) [] rfl ?_
  exact hX_ifT _ (decide_eq_true rfl) k
theorem w_47 {L : Nat} {xs : Nat → Int32} {i : Int32} {M : List gE} (hg : gIn (i + 1) L = true ∧ gIn (i + 2) L = true ∧ gIn (i + 3) L = true ∧ gIn (i + 4) L = true ∧ gIn (i + 5) L = true) (hZ : jZ M) (K : ∀ M2, jZ M2 → zX L xs 1599 (zLo i) [] M2) : zX L xs 1540 (zLo i) [] M := by
  obtain ⟨v, M1, M2, r1, c1, r2, c2, hZ2⟩ := z_tear (L := L) (xs := xs)  hZ
  obtain ⟨M9, k⟩ := K M2 hZ2
  refine ⟨M9, ?_⟩
  refine hX_goM 1 1541 (zLo i) [.ref 0] rfl ?_
  refine hX_call (d := 11) (r' := zR_108) (vals := [.ref 0]) (rest := []) (M1 := M1) (v1 := some (.int v)) (hCal_of _ rfl rfl rfl rfl rfl rfl rfl rfl r1) c1 ?_
  refine hX_goM 1 1545 (zLo i) [.ref 63, .int v] rfl ?_
  refine hX_call (d := 11) (r' := zR_220) (vals := [.ref 63]) (rest := [.int v]) (M1 := M2) (v1 := some (.int v)) (hCal_of _ rfl rfl rfl rfl rfl rfl rfl rfl r2) c2 ?_
  refine hX_goM 1 (bif gCmp .eq v v then 1599 else 1551) (zLo i) [] rfl ?_
  exact hX_ifT _ (decide_eq_true rfl) k
theorem w_48 {L : Nat} {xs : Nat → Int32} {i : Int32} {M : List gE} (hg : gIn (i + 1) L = true ∧ gIn (i + 2) L = true ∧ gIn (i + 3) L = true ∧ gIn (i + 4) L = true ∧ gIn (i + 5) L = true) (hZ : jZ M) (K : ∀ M2, jZ M2 → zX L xs 1599 (zLo i) [] M2) : zX L xs 1553 (zLo i) [] M := by
  obtain ⟨v, M1, M2, r1, c1, r2, c2, hZ2⟩ := z_count (L := L) (xs := xs) (xs (i + 1).toNatClampNeg) hZ
  obtain ⟨M9, k⟩ := K M2 hZ2
  refine ⟨M9, ?_⟩
  refine hX_goM 5 1558 (zLo i) [.int (i + 1), .ref 1000, .ref 0] rfl ?_
  refine hX_gM (gIn (i + 1) L) 1559 (zLo i) [.int (xs (i + 1).toNatClampNeg), .ref 0] rfl hg.1 ?_
  refine hX_call (d := 11) (r' := zR_109) (vals := [.ref 0, .int (xs (i + 1).toNatClampNeg)]) (rest := []) (M1 := M1) (v1 := some (.int v)) (hCal_of _ rfl rfl rfl rfl rfl rfl rfl rfl r1) c1 ?_
  refine hX_goM 5 1567 (zLo i) [.int (i + 1), .ref 1000, .ref 63, .int v] rfl ?_
  refine hX_gM (gIn (i + 1) L) 1568 (zLo i) [.int (xs (i + 1).toNatClampNeg), .ref 63, .int v] rfl hg.1 ?_
  refine hX_call (d := 11) (r' := zR_221) (vals := [.ref 63, .int (xs (i + 1).toNatClampNeg)]) (rest := [.int v]) (M1 := M2) (v1 := some (.int v)) (hCal_of _ rfl rfl rfl rfl rfl rfl rfl rfl r2) c2 ?_
  refine hX_goM 1 (bif gCmp .eq v v then 1599 else 1574) (zLo i) [] rfl ?_
  exact hX_ifT _ (decide_eq_true rfl) k
theorem w_49 {L : Nat} {xs : Nat → Int32} {i : Int32} {M : List gE} (hg : gIn (i + 1) L = true ∧ gIn (i + 2) L = true ∧ gIn (i + 3) L = true ∧ gIn (i + 4) L = true ∧ gIn (i + 5) L = true) (hZ : jZ M) (K : ∀ M2, jZ M2 → zX L xs 1599 (zLo i) [] M2) : zX L xs 1576 (zLo i) [] M := by
  obtain ⟨v, M1, M2, r1, c1, r2, c2, hZ2⟩ := z_status (L := L) (xs := xs) (xs (i + 1).toNatClampNeg) hZ
  obtain ⟨M9, k⟩ := K M2 hZ2
  refine ⟨M9, ?_⟩
  refine hX_goM 5 1581 (zLo i) [.int (i + 1), .ref 1000, .ref 0] rfl ?_
  refine hX_gM (gIn (i + 1) L) 1582 (zLo i) [.int (xs (i + 1).toNatClampNeg), .ref 0] rfl hg.1 ?_
  refine hX_call (d := 11) (r' := zR_110) (vals := [.ref 0, .int (xs (i + 1).toNatClampNeg)]) (rest := []) (M1 := M1) (v1 := some (.int v)) (hCal_of _ rfl rfl rfl rfl rfl rfl rfl rfl r1) c1 ?_
  refine hX_goM 5 1590 (zLo i) [.int (i + 1), .ref 1000, .ref 63, .int v] rfl ?_
  refine hX_gM (gIn (i + 1) L) 1591 (zLo i) [.int (xs (i + 1).toNatClampNeg), .ref 63, .int v] rfl hg.1 ?_
  refine hX_call (d := 11) (r' := zR_222) (vals := [.ref 63, .int (xs (i + 1).toNatClampNeg)]) (rest := [.int v]) (M1 := M2) (v1 := some (.int v)) (hCal_of _ rfl rfl rfl rfl rfl rfl rfl rfl r2) c2 ?_
  refine hX_goM 1 (bif gCmp .eq v v then 1599 else 1597) (zLo i) [] rfl ?_
  exact hX_ifT _ (decide_eq_true rfl) k
def tg (j : Nat) : Nat := match j with
  | 0 => 248
  | 1 => 271
  | 2 => 304
  | 3 => 347
  | 4 => 380
  | 5 => 403
  | 6 => 436
  | 7 => 469
  | 8 => 492
  | 9 => 515
  | 10 => 538
  | 11 => 551
  | 12 => 584
  | 13 => 607
  | 14 => 630
  | 15 => 663
  | 16 => 696
  | 17 => 729
  | 18 => 752
  | 19 => 775
  | 20 => 788
  | 21 => 801
  | 22 => 844
  | 23 => 887
  | 24 => 910
  | 25 => 943
  | 26 => 976
  | 27 => 989
  | 28 => 1002
  | 29 => 1015
  | 30 => 1038
  | 31 => 1082
  | 32 => 1115
  | 33 => 1148
  | 34 => 1171
  | 35 => 1194
  | 36 => 1227
  | 37 => 1240
  | 38 => 1253
  | 39 => 1286
  | 40 => 1319
  | 41 => 1362
  | 42 => 1405
  | 43 => 1468
  | 44 => 1491
  | 45 => 1514
  | 46 => 1527
  | 47 => 1540
  | 48 => 1553
  | 49 => 1576
  | _ => 1599
theorem zAll {L : Nat} {xs : Nat → Int32} {i : Int32} {M : List gE} (hg : gIn (i + 1) L = true ∧ gIn (i + 2) L = true ∧ gIn (i + 3) L = true ∧ gIn (i + 4) L = true ∧ gIn (i + 5) L = true) (hZ : jZ M) (K : ∀ M2, jZ M2 → zX L xs 1599 (zLo i) [] M2) : ∀ j, j < 51 → zX L xs (tg j) (zLo i) [] M
  | 0, _ => w_0 hg hZ K
  | 1, _ => w_1 hg hZ K
  | 2, _ => w_2 hg hZ K
  | 3, _ => w_3 hg hZ K
  | 4, _ => w_4 hg hZ K
  | 5, _ => w_5 hg hZ K
  | 6, _ => w_6 hg hZ K
  | 7, _ => w_7 hg hZ K
  | 8, _ => w_8 hg hZ K
  | 9, _ => w_9 hg hZ K
  | 10, _ => w_10 hg hZ K
  | 11, _ => w_11 hg hZ K
  | 12, _ => w_12 hg hZ K
  | 13, _ => w_13 hg hZ K
  | 14, _ => w_14 hg hZ K
  | 15, _ => w_15 hg hZ K
  | 16, _ => w_16 hg hZ K
  | 17, _ => w_17 hg hZ K
  | 18, _ => w_18 hg hZ K
  | 19, _ => w_19 hg hZ K
  | 20, _ => w_20 hg hZ K
  | 21, _ => w_21 hg hZ K
  | 22, _ => w_22 hg hZ K
  | 23, _ => w_23 hg hZ K
  | 24, _ => w_24 hg hZ K
  | 25, _ => w_25 hg hZ K
  | 26, _ => w_26 hg hZ K
  | 27, _ => w_27 hg hZ K
  | 28, _ => w_28 hg hZ K
  | 29, _ => w_29 hg hZ K
  | 30, _ => w_30 hg hZ K
  | 31, _ => w_31 hg hZ K
  | 32, _ => w_32 hg hZ K
  | 33, _ => w_33 hg hZ K
  | 34, _ => w_34 hg hZ K
  | 35, _ => w_35 hg hZ K
  | 36, _ => w_36 hg hZ K
  | 37, _ => w_37 hg hZ K
  | 38, _ => w_38 hg hZ K
  | 39, _ => w_39 hg hZ K
  | 40, _ => w_40 hg hZ K
  | 41, _ => w_41 hg hZ K
  | 42, _ => w_42 hg hZ K
  | 43, _ => w_43 hg hZ K
  | 44, _ => w_44 hg hZ K
  | 45, _ => w_45 hg hZ K
  | 46, _ => w_46 hg hZ K
  | 47, _ => w_47 hg hZ K
  | 48, _ => w_48 hg hZ K
  | 49, _ => w_49 hg hZ K
  | 50, _ => K M hZ
  | n + 51, h => absurd h (by omega)
theorem zSw (x : Int32) : ∃ j, j < 51 ∧ gSwT 33 1566 0 49 #[215, 238, 271, 314, 347, 370, 403, 436, 459, 482, 505, 518, 551, 574, 597, 630, 663, 696, 719, 742, 755, 768, 811, 854, 877, 910, 943, 956, 969, 982, 1005, 1049, 1082, 1115, 1138, 1161, 1194, 1207, 1220, 1253, 1286, 1329, 1372, 1435, 1458, 1481, 1494, 1507, 1520, 1543] x = some (tg j) := by
  unfold gSwT
  cases hb : (decide (x.toInt < 0) || decide (49 < x.toInt)) with
  | true => exact ⟨50, by decide, rfl⟩
  | false =>
    simp only [Bool.or_eq_false_iff, decide_eq_false_iff_not] at hb
    obtain ⟨h1, h2⟩ := hb
    have hk : (x.toInt - 0).toNat < 50 := by omega
    refine ⟨(x.toInt - 0).toNat, by omega, ?_⟩
    generalize (x.toInt - 0).toNat = k at hk
    have h : ∀ k, k < 50 → (match (#[215, 238, 271, 314, 347, 370, 403, 436, 459, 482, 505, 518, 551, 574, 597, 630, 663, 696, 719, 742, 755, 768, 811, 854, 877, 910, 943, 956, 969, 982, 1005, 1049, 1082, 1115, 1138, 1161, 1194, 1207, 1220, 1253, 1286, 1329, 1372, 1435, 1458, 1481, 1494, 1507, 1520, 1543] : Array Int)[k]? with | some o => some (((33 : Nat) : Int) + o).toNat | none => none) = some (tg k) := by decide +kernel
    exact h k hk
theorem zLoop {L : Nat} {xs : Nat → Int32} (hL : L ≤ 3072) : ∀ (m n : Nat) (M : List gE), L + 6 ≤ n + m → n ≤ L → jZ M → zX L xs 18 (zLo (nI n)) [] M := by
  intro m
  induction m with
  | zero => intro n M h1 h2 hZ; omega
  | succ m ih =>
    intro n M h1 h2 hZ
    have hs : (nI L - 6).toInt = (L : Int) - 6 := by
      rw [Int32.toInt_sub, nI_toInt (by omega)]
      show ((L : Int) - 6).bmod (2 ^ 32) = _
      exact Int.bmod_eq_of_le (by omega) (by omega)
    cases hc : gCmp .gt (nI n) (nI L - 6) with
    | true =>
      refine ⟨M, ?_⟩
      refine hX_goM 6 (bif gCmp .gt (nI n) (nI L - 6) then 1605 else 27) (zLo (nI n)) [] rfl ?_
      refine hX_ifT _ hc ?_
      refine hX_goM 1 1606 (zLo (nI n)) [.int 1] rfl ?_
      exact hX_end rfl rfl rfl
    | false =>
      have h6 : n + 6 ≤ L := by
        have h7 : ¬ (nI L - 6 < nI n) := of_decide_eq_false hc
        rw [Int32.lt_iff_toInt_lt, hs, nI_toInt (by omega)] at h7
        omega
      have hg : gIn (nI n + 1) L = true ∧ gIn (nI n + 2) L = true ∧ gIn (nI n + 3) L = true ∧ gIn (nI n + 4) L = true ∧ gIn (nI n + 5) L = true :=
        ⟨zIn (k := 1) (by omega) hL, zIn (k := 2) (by omega) hL, zIn (k := 3) (by omega) hL, zIn (k := 4) (by omega) hL, zIn (k := 5) (by omega) hL⟩
      have h0 : gIn (nI n) L = true := by
        have := zIn (n := n) (k := 0) (by omega) hL
        rw [nI_add] at this
        exact this
      have K : ∀ M2, jZ M2 → zX L xs 1599 (zLo (nI n)) [] M2 := by
        intro M2 hZ2
        obtain ⟨M9, k⟩ := ih (n + 6) M2 (by omega) h6 hZ2
        refine ⟨M9, ?_⟩
        rw [← nI_add] at k
        exact hX_goM 2 18 (zLo (nI n + nI 6)) [] rfl k
      obtain ⟨j, hj, hsw⟩ := zSw ((xs (nI n).toNatClampNeg) &&& 63)
      obtain ⟨M9, k⟩ := zAll hg hZ K j hj
      refine ⟨M9, ?_⟩
      refine hX_goM 6 (bif gCmp .gt (nI n) (nI L - 6) then 1605 else 27) (zLo (nI n)) [] rfl ?_
      refine hX_ifF _ hc ?_
      refine hX_goM 2 29 (zLo (nI n)) [.int (nI n), .ref 1000] rfl ?_
      refine hX_gM (gIn (nI n) L) 30 (zLo (nI n)) [.int (xs (nI n).toNatClampNeg)] rfl h0 ?_
      refine hX_goM 2 33 (zLo (nI n)) [.int ((xs (nI n).toNatClampNeg) &&& 63)] rfl ?_
      exact hX_sw (tg j) rfl hsw k
theorem law_runs (L : Nat) (xs : Nat → Int32) (hL : L ≤ 3072) : ∃ (n : Nat) (M' : List gE) (x y : Nat), gEv (gO L xs) gFt gCn gDf gTb0 n 12 zR_law 0 (gIni 4 [.ref 1000]) [] [] = some (some (.int 1), M', x, y) ∧ x ≤ 600000 ∧ y ≤ 7302250 := by
  obtain ⟨M9, k⟩ := zLoop (xs := xs) hL (L + 6) 0 zm_224 (by omega) (by omega) zZ0
  have h : hX (gO L xs) 12 zR_223 16 [some (.ref 1000), some (.ref 0), some (.ref 63), none] [] zm_224 (some (.int 1)) M9 := hX_goM 2 18 (zLo (nI 0)) [] rfl k
  obtain ⟨n, hn⟩ := zt_law h
  exact ⟨n, M9, _, _, hn, by decide, by decide⟩
