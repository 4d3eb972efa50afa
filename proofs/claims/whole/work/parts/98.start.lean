set_option maxHeartbeats 4000000 in
theorem whole_start {p : Program} {e : Env} {s : State} {m : MethodId} {below : List Frame} {meth : Method} {c : Code} (l : Launch) (hflags : l.flags = flags0) {b L : Nat} {xs : Nat → Int32} (hL : L ≤ 3072) (C0 : lw_At p s m meth c b L xs) : W p l e room_1 s m #[Value.ref b] below meth c s.heap [] 0 0 (lw_Z below #[Value.ref b] s) (entryFrame m ([Value.ref b] : List Value).toArray 4) := by
  obtain ⟨G, hA, hK, hG1, hG2, hG3⟩ := g_start (e := e) (below := below) C0
  obtain ⟨hx, hb, hr, hml, hown, hts, hX, hbl, hlocks, hgv⟩ := id C0
  obtain ⟨n, M', x1, y1, hev, hx1, hy1⟩ := law_runs L xs hL
  have hc0 : gCv G (.ref 1000) = .ref b := by rw [gCv_old (by decide), hG3]
  have hargs : ([Value.ref b] : List Value) = [Value.ref 1000].map (gCv G) := by rw [List.map_cons, hc0]; rfl
  have hfr : entryFrame m ([Value.ref b] : List Value).toArray 4 = F0 m 0 ((lg_sl ([Value.ref 1000].map (gCv G)) ++ List.replicate (4 - (lg_sl ([Value.ref 1000].map (gCv G))).length) Slot.unset).toArray) [] := by
    rw [hargs, lg_entry_eq]
  rw [hfr]
  have hP : gP gTT G s [] s.heap := ⟨by rw [hG1]; rfl, Nat.zero_le _, fun k e h => by simp at h, fun q _ => by rw [hG2]⟩
  have C1 : gCx0 p s m #[Value.ref b] meth c zR_law.1.1 zR_law.1.2.1 zR_law.1.2.2.1 := ⟨hx, hb, hml, hown, fun w hw => hts w (List.mem_filter.mp hw).1, fun h => absurd h (by decide)⟩
  refine gEv_ok (l := l) hA gTb_ok n 12 zR_law 0 _ [] [] _ _ _ _ hev zK_law p e room_1 s m #[Value.ref b] below meth c s.heap [] 0 0 _ _ hK C1 ⟨Nat.le_refl _, Nat.le_refl _⟩ (gIni_has hA (by decide)) (gIni_len (by decide)) hP (fun q h => by cases h) (by rw [Nat.zero_add]; exact hx1) (by rw [Nat.zero_add]; exact hy1) ?_
  intro pc' ei st' H' ls' locs' hf hrt hP' hlo'
  refine W.widen (k := 600000) (n := 7302250) (by omega) (by omega) ?_
  refine va_forget (fun q hq => by have h9 := hlo' q hq; rw [← hG1]; exact h9) ?_
  have hc := gFe_chk hf zK_law
  obtain ⟨ins, len, a, b9, w, v9⟩ := ei
  simp only [gChk, Bool.and_eq_true, decide_eq_true_eq] at hc
  obtain ⟨hdc, hc⟩ := hc
  cases ins with
  | ireturn =>
    obtain rfl := gb hc
    simp only [gRet] at hrt
    split at hrt
    · rename_i x0
      obtain ⟨h1, h2⟩ := gcond hrt
      cases h2
      exact lw_ret hx hb hr hlocks hdc
    · cases hrt
  | lreturn =>
    simp only [gRet] at hrt
    split at hrt <;> cases hrt
  | areturn =>
    simp only [gRet] at hrt
    cases hrt
  | return_ =>
    simp only [gRet] at hrt
    split at hrt <;> cases hrt
  | _ => exact absurd hrt (by simp [gRet])
