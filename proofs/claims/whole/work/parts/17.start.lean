/-! THE START: the old cells, and the law's walk out of the abstract run of its body -/
abbrev zR_law : gR := zR_223
theorem zK_law : gCode gTT gFt gCn gTb0 zR_law = true := zK_223
def gSa (j : Nat) : List Int32 := match j with
  | 1 => [0, -30, -9]
  | 2 => [6, 30, 9]
  | 3 => [-9, 0, 0, 0, 0, 0]
  | 4 => [9, 9, 9, 60, 99, 60]
  | 5 => [-1, 0, 0, 2, 3, 0, 5]
  | _ => []
def gSn (j : Nat) : String := match j with
  | 1 => "TRAIT_LEAST"
  | 2 => "TRAIT_MOST"
  | 3 => "RULE_LEAST"
  | 4 => "RULE_MOST"
  | _ => "UNDER"
def gBy (i : Nat) : List Int32 := match i with
  | 0 => [101, 118, 101, 110]
  | 1 => [115, 108, 97, 110, 116, 105, 110, 103]
  | 2 => [115, 108, 105, 112, 112, 105, 110, 103]
  | 3 => [102, 97, 110, 110, 101, 100]
  | 4 => [99, 97, 117, 103, 104, 116]
  | 5 => [106, 97, 109, 109, 101, 100]
  | 6 => [112, 117, 108, 108]
  | 7 => [98, 121]
  | 8 => [108, 101, 97, 110]
  | 9 => [107, 110, 111, 116]
  | 10 => [115, 108, 105, 112]
  | 11 => [119, 105, 110, 100]
  | 12 => [99, 117, 114, 116, 97, 105, 110]
  | 13 => [99, 104, 97, 105, 114]
  | 14 => [115, 117, 110]
  | 15 => [117, 112]
  | _ => []
def gIx (i : Nat) : Nat := match i with
  | 0 => 123
  | 1 => 125
  | 2 => 127
  | 3 => 129
  | 4 => 131
  | 5 => 133
  | 6 => 135
  | 7 => 96
  | 8 => 104
  | 9 => 56
  | 10 => 65
  | 11 => 67
  | 12 => 69
  | 13 => 71
  | 14 => 73
  | 15 => 85
  | _ => 0
def gTx (i : Nat) : String := match i with
  | 0 => "even"
  | 1 => "slanting"
  | 2 => "slipping"
  | 3 => "fanned"
  | 4 => "caught"
  | 5 => "jammed"
  | 6 => "pull"
  | 7 => "by"
  | 8 => "lean"
  | 9 => "knot"
  | 10 => "slip"
  | 11 => "wind"
  | 12 => "curtain"
  | 13 => "chai\x72"
  | 14 => "sun"
  | 15 => "up"
  | _ => ""
/-- the old cells: 0 the script, 1 to 5 static arrays, 10 to 25 String constants, 30 to 45 their bytes -/
def gO (L : Nat) (xs : Nat → Int32) (j : Nat) : Option gE :=
  bif Nat.beq j 0 then some (.inl (.int, L, .inl xs)) else bif Nat.blt j 6 then some (.inl (.int, (gSa j).length, .inl (fun i => (gSa j).getD i 0))) else
  bif Nat.ble 10 j && Nat.blt j 26 then some (.inr (7, [.ref (j + 1020), .int 0])) else
  bif Nat.ble 30 j && Nat.blt j 46 then some (.inl (.byte, (gBy (j - 30)).length, .inl (fun i => (gBy (j - 30)).getD i 0))) else none
def gAd (N0 b : Nat) (tS adK adV : Nat → Nat) (k : Nat) : Nat := if k < 1000 then N0 + k else if k = 1000 then b else if k < 1006 then tS (k - 1000) else if k < 1030 then adK (k - 1010) else adV (k - 1030)
abbrev gFl : List Jvm.Cond := flatC (Jvm.Cond.and given_1 narrow_1)
abbrev gTs (j : Nat) : Term := .static "UpOneSide" (gSn j) "[I"
abbrev gTk (i : Nat) : Term := .string "UpOneSide$Reade\x72" (gIx i)
theorem gs_1 : ∀ j, j < 5 → Jvm.Cond.arrayOf (gTs (j + 1)) .int ∈ gFl := by decide +kernel
theorem gs_2 : ∀ j, j < 5 → Jvm.Cond.eq (.length (gTs (j + 1))) (.int (Int32.ofNat (gSa (j + 1)).length)) ∈ gFl := by decide +kernel
theorem gs_3 : ∀ j, j < 5 → ∀ i, i < (gSa (j + 1)).length → Jvm.Cond.eq (.elem (gTs (j + 1)) (.int (Int32.ofNat i))) (.int ((gSa (j + 1)).getD i 0)) ∈ gFl := by decide +kernel
theorem gs_4 : ∀ j, j < 5 → Jvm.Cond.laysStatic "UpOneSide" (gSn (j + 1)) "[I" ∈ lw_tbl := by decide +kernel
theorem gs_5 : Jvm.Cond.initialized "UpOneSide" ∈ lw_tbl := by decide +kernel
theorem gk_1 : ∀ i, i < 16 → gFl[([49, 57, 70, 84, 97, 111, 126, 140, 153, 169, 186, 204, 223, 246, 268, 289] : List Nat).getD i 0]? = some (Jvm.Cond.exactly (gTk i) "java/lang/String") := by decide +kernel
theorem gk_2 : ∀ i, i < 16 → gFl[([50, 58, 71, 85, 98, 112, 127, 141, 154, 170, 187, 205, 224, 247, 269, 290] : List Nat).getD i 0]? = some (Jvm.Cond.eq (.field (gTk i) "java/lang/String" "code\x72" "B") (.int 0)) := by decide +kernel
theorem gk_3 : ∀ i, i < 16 → gFl[([51, 59, 72, 86, 99, 113, 128, 142, 155, 171, 188, 206, 225, 248, 270, 291] : List Nat).getD i 0]? = some (Jvm.Cond.arrayOf (.field (gTk i) "java/lang/String" "value" "[B") .byte) := by decide +kernel
def gLen : List Nat := [4, 8, 8, 6, 6, 6, 4, 2, 4, 4, 4, 4, 7, 5, 3, 2]
def gByl : List (List Int32) := [[101, 118, 101, 110], [115, 108, 97, 110, 116, 105, 110, 103], [115, 108, 105, 112, 112, 105, 110, 103], [102, 97, 110, 110, 101, 100], [99, 97, 117, 103, 104, 116], [106, 97, 109, 109, 101, 100], [112, 117, 108, 108], [98, 121], [108, 101, 97, 110], [107, 110, 111, 116], [115, 108, 105, 112], [119, 105, 110, 100], [99, 117, 114, 116, 97, 105, 110], [99, 104, 97, 105, 114], [115, 117, 110], [117, 112]]
theorem gk_4 : ∀ i, i < 16 → gFl[([52, 60, 73, 87, 100, 114, 129, 143, 156, 172, 189, 207, 226, 249, 271, 292] : List Nat).getD i 0]? = some (Jvm.Cond.eq (.length (.field (gTk i) "java/lang/String" "value" "[B")) (.int (Int32.ofNat (gLen.getD i 0)))) := by decide +kernel
theorem gk_5 : ∀ i, i < 16 → ∀ j, j < gLen.getD i 0 → gFl[(([[53, 54, 55, 56], [61, 62, 63, 64, 65, 66, 67, 68], [74, 75, 76, 77, 78, 79, 80, 81], [88, 89, 90, 91, 92, 93], [101, 102, 103, 104, 105, 106], [115, 116, 117, 118, 119, 120], [130, 131, 132, 133], [144, 145], [157, 158, 159, 160], [173, 174, 175, 176], [190, 191, 192, 193], [208, 209, 210, 211], [227, 228, 229, 230, 231, 232, 233], [250, 251, 252, 253, 254], [272, 273, 274], [293, 294]] : List (List Nat)).getD i []).getD j 0]? = some (Jvm.Cond.eq (.elem (.field (gTk i) "java/lang/String" "value" "[B") (.int (Int32.ofNat j))) (.int ((gByl.getD i []).getD j 0))) := by decide +kernel
theorem gk_6 : ∀ i, i < 16 → ∀ j, j < 16 → i < j → gFl[(([[0, 69, 82, 94, 107, 121, 134, 146, 161, 177, 194, 212, 234, 255, 275, 295], [0, 0, 83, 95, 108, 122, 135, 147, 162, 178, 195, 213, 235, 256, 276, 296], [0, 0, 0, 96, 109, 123, 136, 148, 163, 179, 196, 214, 236, 257, 277, 297], [0, 0, 0, 0, 110, 124, 137, 149, 164, 180, 197, 215, 237, 258, 278, 298], [0, 0, 0, 0, 0, 125, 138, 150, 165, 181, 198, 216, 238, 259, 279, 299], [0, 0, 0, 0, 0, 0, 139, 151, 166, 182, 199, 217, 239, 260, 280, 300], [0, 0, 0, 0, 0, 0, 0, 152, 167, 183, 200, 218, 240, 261, 281, 301], [0, 0, 0, 0, 0, 0, 0, 0, 168, 184, 201, 219, 241, 262, 282, 302], [0, 0, 0, 0, 0, 0, 0, 0, 0, 185, 202, 220, 242, 263, 283, 303], [0, 0, 0, 0, 0, 0, 0, 0, 0, 0, 203, 221, 243, 264, 284, 304], [0, 0, 0, 0, 0, 0, 0, 0, 0, 0, 0, 222, 244, 265, 285, 305], [0, 0, 0, 0, 0, 0, 0, 0, 0, 0, 0, 0, 245, 266, 286, 306], [0, 0, 0, 0, 0, 0, 0, 0, 0, 0, 0, 0, 0, 267, 287, 307], [0, 0, 0, 0, 0, 0, 0, 0, 0, 0, 0, 0, 0, 0, 288, 308], [0, 0, 0, 0, 0, 0, 0, 0, 0, 0, 0, 0, 0, 0, 0, 309], [0, 0, 0, 0, 0, 0, 0, 0, 0, 0, 0, 0, 0, 0, 0, 0]] : List (List Nat)).getD i []).getD j 0]? = some (Jvm.Cond.not (Jvm.Cond.eq (gTk i) (gTk j))) := by decide +kernel
theorem gk_7 : ∀ i, i < 16 → Jvm.Cond.stringRef "UpOneSide$Reade\x72" (gIx i) (gTx i) ∈ lw_tbl := by decide +kernel
theorem gk_8 : ∀ i, i < 16 → gLen.getD i 0 = (gBy i).length ∧ gByl.getD i [] = gBy i ∧ gLen.getD i 0 < 2 ^ 31 := by decide +kernel
theorem gk_9 : ∀ i, i < 16 → gTT.2.2.1[i]? = some ("UpOneSide$Reade\x72", gIx i, gTx i, 1010 + i) := by decide +kernel
theorem gn_1 : ∀ i, i < 4 → (match gTT.2.2.2.1[i]? with | some z => decide (Jvm.Cond.fieldLinkNest z.1 z.2.1 z.2.2.1 z.2.2.2.1 z.2.2.2.2.1 z.2.2.2.2.2 ∈ lw_tbl) | none => true) = true := by decide +kernel
theorem gn_2 : ∀ i, i < 6 → (match gTT.2.2.2.2.1[i]? with | some z => decide (Jvm.Cond.methodLinkNest z.1 z.2.1 z.2.2.1 z.2.2.2 ∈ lw_tbl) | none => true) = true := by decide +kernel
theorem gn_3 : Jvm.Cond.arrayOver (.object "UpOneSide$Sheet") ∈ lw_tbl := by decide +kernel
theorem gn_4 : Jvm.Cond.laysStatic "java/lang/String" "COMPACT_STRINGS" "Z" ∈ lw_tbl ∧ Jvm.Cond.initialized "java/lang/String" ∈ lw_tbl ∧ Jvm.Cond.eq (.static "java/lang/String" "COMPACT_STRINGS" "Z") (.int 1) ∈ gFl := by decide +kernel
theorem gn_5 : Jvm.Cond.laysStatic "jdk/internal/util/Preconditions" "SIOOBE_FORMATTER" "Ljava/util/function/BiFunction;" ∈ lw_tbl ∧ Jvm.Cond.initialized "jdk/internal/util/Preconditions" ∈ lw_tbl ∧ Jvm.Cond.isRef (.static "jdk/internal/util/Preconditions" "SIOOBE_FORMATTER" "Ljava/util/function/BiFunction;") ∈ gFl := by decide +kernel
theorem gAd_new {N0 b : Nat} {tS adK adV : Nat → Nat} {k : Nat} (h : k < 1000) : gAd N0 b tS adK adV k = N0 + k := if_pos h
theorem gAd_b {N0 b : Nat} {tS adK adV : Nat → Nat} : gAd N0 b tS adK adV 1000 = b := by
  unfold gAd
  rw [if_neg (by omega), if_pos rfl]
theorem gAd_S {N0 b : Nat} {tS adK adV : Nat → Nat} {j : Nat} (h1 : 1 ≤ j) (h2 : j < 6) : gAd N0 b tS adK adV (j + 1000) = tS j := by
  unfold gAd
  rw [if_neg (by omega), if_neg (by omega), if_pos (by omega), show j + 1000 - 1000 = j by omega]
theorem gAd_K {N0 b : Nat} {tS adK adV : Nat → Nat} {j : Nat} (h1 : 10 ≤ j) (h2 : j < 26) : gAd N0 b tS adK adV (j + 1000) = adK (j - 10) := by
  unfold gAd
  rw [if_neg (by omega), if_neg (by omega), if_neg (by omega), if_pos (by omega), show j + 1000 - 1010 = j - 10 by omega]
theorem gAd_V {N0 b : Nat} {tS adK adV : Nat → Nat} {j : Nat} (h1 : 30 ≤ j) (h2 : j < 46) : gAd N0 b tS adK adV (j + 1000) = adV (j - 30) := by
  unfold gAd
  rw [if_neg (by omega), if_neg (by omega), if_neg (by omega), if_neg (by omega), show j + 1000 - 1030 = j - 30 by omega]
theorem gAd_V' {N0 b : Nat} {tS adK adV : Nat → Nat} {j : Nat} (h1 : 10 ≤ j) (h2 : j < 26) : gAd N0 b tS adK adV (j + 1020) = adV (j - 10) := by
  unfold gAd
  rw [if_neg (by omega), if_neg (by omega), if_neg (by omega), if_neg (by omega), show j + 1020 - 1030 = j - 10 by omega]
theorem g_start {p : Program} {e : Env} {s : State} {m : MethodId} {below : List Frame} {meth : Method} {c : Code} {b L : Nat} {xs : Nat → Int32} (C0 : lw_At p s m meth c b L xs) :
    ∃ G : gG, gA G ∧ gK gTT gCn (gO L xs) G s ∧ G.2.2.2.1 = s.heap.size ∧ G.2.2.2.2 = s.heap ∧ G.2.1 1000 = b := by
  obtain ⟨hx, hb, hr, hml, hown, hts, hX, hbl, hlocks, hgv⟩ := C0
  have hs := flat_of_before _ hgv
  have hA : ∀ a : Nat, a < s.heap.size → ¬ (fun q : Nat => s.heap.size ≤ q) a := fun a h => Nat.not_le.mpr h
  have hg : ∀ w ∈ gW, w.before #[Value.ref b] s = true := fun w hw => hts w (List.mem_filter.mp hw).1
  have h1 : ∀ ci : Nat, ∃ z : ClassId × (Nat → Nat), ∀ q, gTT.1[ci]? = some q → u_Kn s q.1 q.2.1 q.2.2 z.1 z.2 := by
    intro ci
    cases hq : gTT.1[ci]? with
    | none => exact ⟨(0, fun _ => 0), fun q h => by cases h⟩
    | some q =>
      obtain ⟨C, T, N⟩ := q
      obtain ⟨g1, g2, -⟩ := gcl hq (gcl_ok ci _ hq)
      obtain ⟨cC, iS, h⟩ := u_known (n := N) hg g1 (hts _ g2)
      exact ⟨(cC, iS), fun q h9 => by cases h9; exact h⟩
  obtain ⟨zD, hD⟩ := Classical.axiomOfChoice h1
  have h2 : ∀ j : Nat, ∃ t : Nat, j < 5 → va_T .int t (gSa (j + 1)).length (fun i => .int ((gSa (j + 1)).getD i 0)) (fun q : Nat => s.heap.size ≤ q) s s.heap ∧ va_Z "UpOneSide" (gSn (j + 1)) "[I" (.ref t) (fun q : Nat => s.heap.size ≤ q) s s.heap := by
    intro j
    by_cases hj : j < 5
    · have hlen : (gSa (j + 1)).length < 2 ^ 31 := by
        have : ∀ j, j < 5 → (gSa (j + 1)).length < 2 ^ 31 := by decide +kernel
        exact this j hj
      obtain ⟨t, ht, hT⟩ := va_Tof (f := fun i => .int ((gSa (j + 1)).getD i 0)) (A := fun q : Nat => s.heap.size ≤ q) hlen (hs _ (gs_1 j hj)) (va_eqt (hs _ (gs_2 j hj))) (fun i hi => va_eqt (hs _ (gs_3 j hj i hi))) hA
      exact ⟨t, fun _ => ⟨hT, va_Zof (hts _ (gs_4 j hj)) (hts _ gs_5) ht hA⟩⟩
    · exact ⟨0, fun h => absurd h hj⟩
  obtain ⟨tS, hS⟩ := Classical.axiomOfChoice h2
  obtain ⟨adK, adV, hvs, hev⟩ := vk_Sof (args := #[Value.ref b]) (s := s) (N := 16) (tm := gTk) (len := gLen) (byt := gByl) (A := fun q : Nat => s.heap.size ≤ q) (fun i hi => (gk_8 i hi).2.2) (fun i hi => hs _ (List.mem_of_getElem? (gk_1 i hi))) (fun i hi => hs _ (List.mem_of_getElem? (gk_2 i hi))) (fun i hi => hs _ (List.mem_of_getElem? (gk_3 i hi))) (fun i hi => hs _ (List.mem_of_getElem? (gk_4 i hi))) (fun i hi j hj => hs _ (List.mem_of_getElem? (gk_5 i hi j hj)))
    (fun i j hi hj hij => by
      rcases Nat.lt_or_gt_of_ne hij with h | h
      · exact Or.inl (hs _ (List.mem_of_getElem? (gk_6 i hi j hj h)))
      · exact Or.inr (hs _ (List.mem_of_getElem? (gk_6 j hj i hi h)))) hA
  obtain ⟨sp, hsp, hZsp⟩ : ∃ sp : Value, (sp = .null ∨ ∃ a, sp = .ref a) ∧ va_Z "jdk/internal/util/Preconditions" "SIOOBE_FORMATTER" "Ljava/util/function/BiFunction;" sp (fun q : Nat => s.heap.size ≤ q) s s.heap := by
    rcases va_Zqof (A := fun q : Nat => s.heap.size ≤ q) (hts _ gn_5.1) (hts _ gn_5.2.1) (hs _ gn_5.2.2) hA with h | ⟨t, h⟩
    · exact ⟨.null, Or.inl rfl, h⟩
    · exact ⟨.ref t, Or.inr ⟨t, rfl⟩, h⟩
  obtain ⟨G, hGe⟩ : ∃ G : gG, G = ((fun k => (zD k).1, fun k => (zD k).2), gAd s.heap.size b (fun j => tS (j - 1)) adK adV, sp, s.heap.size, s.heap) := ⟨_, rfl⟩
  have e0 : G.1 = (fun k => (zD k).1, fun k => (zD k).2) := by rw [hGe]
  have e1 : G.2.1 = gAd s.heap.size b (fun j => tS (j - 1)) adK adV := by rw [hGe]
  have e2 : G.2.2.1 = sp := by rw [hGe]
  have e3 : G.2.2.2.1 = s.heap.size := by rw [hGe]
  have e4 : G.2.2.2.2 = s.heap := by rw [hGe]
  clear hGe
  have e5 : gNo G = fun q : Nat => s.heap.size ≤ q := by funext q; unfold gNo; rw [e3]
  refine ⟨G, ⟨fun k hk => by rw [e1, e3]; exact gAd_new hk, by rw [e2]; exact hsp⟩, ⟨⟨fun ci q hq => by rw [e0]; exact hD ci q hq, fun k q h => by simp at h⟩, ?_, ?_, ?_, ?_, ?_, ?_⟩, e3, e4, by rw [e1]; exact gAd_b⟩
  · intro j e he
    unfold gO at he
    cases h0 : Nat.beq j 0 with
    | true =>
      rw [h0, cond_true] at he
      cases he
      have hj := gb h0
      subst hj
      refine ⟨by decide, ?_⟩
      obtain ⟨scr, x1, x2, x3, x4, x5⟩ := hX
      unfold gOc
      rw [e4, e5, e1, gAd_b]
      exact ⟨scr, x1, x2, x3, Nat.le_of_eq x4.symm, by rw [x4] <;> rfl, x5, hA b hbl⟩
    | false =>
      rw [h0, cond_false] at he
      have hj0 : j ≠ 0 := fun h => by rw [h] at h0; cases h0
      cases h6 : Nat.blt j 6 with
      | true =>
        rw [h6, cond_true] at he
        cases he
        have hj6 := glt h6
        refine ⟨by omega, ?_⟩
        have h := (hS (j - 1) (by omega)).1
        rw [show j - 1 + 1 = j by omega] at h
        unfold gOc
        rw [e4, e5, e1, gAd_S (by omega) hj6]
        exact h
      | false =>
        rw [h6, cond_false] at he
        cases h7 : (Nat.ble 10 j && Nat.blt j 26) with
        | true =>
          rw [h7, cond_true] at he
          cases he
          simp only [Bool.and_eq_true] at h7
          have l1 := gle h7.1
          have l2 := glt h7.2
          obtain ⟨v1, v2, v3, v4⟩ := hvs.1 (j - 10) (by omega)
          refine ⟨by omega, ?_⟩
          unfold gOc
          rw [e4, e5]
          have ea : G.2.1 (j + 1000) = adK (j - 10) := by rw [e1]; exact gAd_K l1 l2
          rw [ea]
          refine ⟨Nat.le_refl _, v1, fun k v hv => ?_⟩
          match k, hv with
          | 0, hv =>
            cases hv
            refine ⟨("java/lang/String", "value", "[B"), rfl, ?_⟩
            rw [gCv_old (show j + 1020 ≠ 1900 by omega), e1, gAd_V' l1 l2]
            exact v3
          | 1, hv =>
            cases hv
            exact ⟨("java/lang/String", "code\x72", "B"), rfl, v2⟩
          | k + 2, hv => simp at hv
        | false =>
          rw [h7, cond_false] at he
          cases h8 : (Nat.ble 30 j && Nat.blt j 46) with
          | true =>
            rw [h8, cond_true] at he
            cases he
            simp only [Bool.and_eq_true] at h8
            have l1 := gle h8.1
            have l2 := glt h8.2
            obtain ⟨v1, v2, v3, v4⟩ := hvs.1 (j - 30) (by omega)
            refine ⟨by omega, ?_⟩
            unfold gOc
            rw [e4, e5, e1, gAd_V l1 l2]
            have g8 := gk_8 (j - 30) (by omega)
            rw [g8.1, g8.2.1] at v4
            exact v4
          | false => rw [h8, cond_false] at he; cases he
  · intro k q hq
    rw [e4, e5]
    have er : ∀ i : Nat, i < 5 → gCv G (.ref (1001 + i)) = .ref (tS i) := by
      intro i hi
      rw [gCv_old (by omega), e1, show 1001 + i = (i + 1) + 1000 by omega, gAd_S (by omega) (by omega)]
      rfl
    match k, hq with
    | 0, hq => cases hq; rw [er 0 (by omega)]; exact (hS 0 (by omega)).2
    | 1, hq => cases hq; rw [er 1 (by omega)]; exact (hS 1 (by omega)).2
    | 2, hq => cases hq; rw [er 2 (by omega)]; exact (hS 2 (by omega)).2
    | 3, hq => cases hq; rw [er 3 (by omega)]; exact (hS 3 (by omega)).2
    | 4, hq => cases hq; rw [er 4 (by omega)]; exact (hS 4 (by omega)).2
    | 5, hq => cases hq; exact va_Zof (hts _ gn_4.1) (hts _ gn_4.2.1) (va_eqi (hs _ gn_4.2.2)) hA
    | 6, hq =>
      cases hq
      have es : gCv G (.ref 1900) = sp := e2
      rw [es]
      exact hZsp
    | k + 7, hq => simp [gTT] at hq
  · intro k q hq
    have hk : k < 16 := (List.getElem?_eq_some_iff.mp hq).1
    rw [gk_9 k hk] at hq
    cases hq
    have ea : G.2.1 (1010 + k) = adK k := by
      rw [e1, show 1010 + k = (k + 10) + 1000 by omega, gAd_K (by omega) (by omega)]
      rfl
    refine ⟨?_, ?_⟩
    · show 1010 + k ≠ 1900
      omega
    · rw [ea]
      exact vk_R.of (A := #[Value.ref b]) (hts _ (gk_7 k hk)) (hev k hk)
  · intro k z hz
    have hk : k < 4 := (List.getElem?_eq_some_iff.mp hz).1
    have h := gn_1 k hk
    rw [hz] at h
    exact va_Nw.of rfl (hts _ (of_decide_eq_true h))
  · intro k z hz
    have hk : k < 6 := (List.getElem?_eq_some_iff.mp hz).1
    have h := gn_2 k hk
    rw [hz] at h
    exact va_Nw.of rfl (hts _ (of_decide_eq_true h))
  · intro C hC
    rw [List.mem_singleton.mp hC]
    exact va_AO.of (hts _ gn_3)
