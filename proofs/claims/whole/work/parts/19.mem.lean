/-! THE MEMORY: the class's 63 cells, the model's 16 -/
abbrev hB : Type := Int32 × Int32 × Int32 × Int32 × Int32 × (Nat → Int32) × (Nat → Int32) × (Nat → Int32) × (Nat → Int32) × (Nat → Int32) × (Nat → Int32) × (Nat → Int32) × (Nat → Int32)
abbrev hSt : Type := (Nat → Int32) × Int32 × Int32
abbrev hRd : Type := Value × Int32 × Int32 × Int32 × Int32 × Int32 × Int32
def hBo (n : Nat) (x : hB) : List gE := [.inr (0, [.int x.1, .int x.2.1, .int x.2.2.1, .int x.2.2.2.1, .int x.2.2.2.2.1, .ref (n + 1), .ref (n + 2), .ref (n + 3), .ref (n + 4), .ref (n + 5), .ref (n + 6), .ref (n + 7), .ref (n + 8)]),
  .inl (.int, 8, .inl x.2.2.2.2.2.1), .inl (.int, 8, .inl x.2.2.2.2.2.2.1), .inl (.int, 8, .inl x.2.2.2.2.2.2.2.1), .inl (.int, 6, .inl x.2.2.2.2.2.2.2.2.1), .inl (.int, 4, .inl x.2.2.2.2.2.2.2.2.2.1), .inl (.int, 61, .inl x.2.2.2.2.2.2.2.2.2.2.1), .inl (.int, 24, .inl x.2.2.2.2.2.2.2.2.2.2.2.1), .inl (.int, 10, .inl x.2.2.2.2.2.2.2.2.2.2.2.2)]
def hSh (n : Nat) (x : hSt) : List gE := [.inr (3, [.ref (n + 1), .int x.2.1, .int x.2.2]), .inl (.int, 40, .inl x.1)]
def hShR : Nat → Option Nat := va_up (va_up (va_up (va_up (fun _ => none) 0 (some 55)) 1 (some 57)) 2 (some 59)) 3 (some 61)
def hCm (b d k s w : hB) (ik ex pr wd : Int32) (sn : Nat → Int64) (qu tb : Nat → Int32) (ts : Int32) (rd : hRd) (h0 h1 h2 h3 : hSt) (fi : Nat → Int32) (R : List gE) : List gE :=
  .inr (5, [.ref 1, .ref 10, .ref 19, .int ik, .ref 28, .ref 49, .ref 51, .ref 53, .ref 54]) :: (hBo 1 b ++ (hBo 10 d ++ (hBo 19 k ++ (.inr (2, [.ref 29, .ref 30, .ref 31, .ref 40, .int ex, .int pr, .int wd]) :: .inl (.long, 61, .inr (.inl sn)) :: .inl (.int, 3721, .inl qu) ::
    (hBo 31 s ++ (hBo 40 w ++ (.inr (4, [.ref 50, .int ts]) :: .inl (.byte, 120, .inl tb) :: .inr (1, [rd.1, .int rd.2.1, .int rd.2.2.1, .int rd.2.2.2.1, .int rd.2.2.2.2.1, .int rd.2.2.2.2.2.1, .int rd.2.2.2.2.2.2]) :: .inl (.byte, 0, .inl (fun _ => 0)) ::
      .inl (.object "UpOneSide$Sheet", 4, .inr (.inr (.inr (.inr hShR)))) :: .inl (.int, 7, .inl fi) :: (hSh 55 h0 ++ (hSh 57 h1 ++ (hSh 59 h2 ++ (hSh 61 h3 ++ R)))))))))))
/-- the first 63 cells, whatever they are -/
def hPf (c : Nat → gE) (R : List gE) : List gE := c 0 :: c 1 :: c 2 :: c 3 :: c 4 :: c 5 :: c 6 :: c 7 :: c 8 :: c 9 :: c 10 :: c 11 :: c 12 :: c 13 :: c 14 :: c 15 :: c 16 :: c 17 :: c 18 :: c 19 :: c 20 :: c 21 :: c 22 :: c 23 :: c 24 :: c 25 :: c 26 :: c 27 :: c 28 :: c 29 :: c 30 :: c 31 :: c 32 :: c 33 :: c 34 :: c 35 :: c 36 :: c 37 :: c 38 :: c 39 :: c 40 :: c 41 :: c 42 :: c 43 :: c 44 :: c 45 :: c 46 :: c 47 :: c 48 :: c 49 :: c 50 :: c 51 :: c 52 :: c 53 :: c 54 :: c 55 :: c 56 :: c 57 :: c 58 :: c 59 :: c 60 :: c 61 :: c 62 :: R
def hTab (l : List Int32) : Nat → Int32 := fun i => l.getD i 0
def hLeL : List Int32 := [112, 117, 108, 108, 32, 32, 32, 32, 101, 118, 101, 110, 32, 32, 32, 32, 115, 108, 97, 110, 116, 105, 110, 103, 115, 108, 105, 112, 112, 105, 110, 103, 102, 97, 110, 110, 101, 100, 32, 32, 99, 97, 117, 103, 104, 116, 32, 32, 106, 97, 109, 109, 101, 100, 32, 32]
def hOtL : List Int32 := [107, 110, 111, 116, 32, 32, 32, 32, 115, 108, 105, 112, 32, 32, 32, 32, 119, 105, 110, 100, 32, 32, 32, 32, 99, 117, 114, 116, 97, 105, 110, 32, 99, 104, 97, 105, 114, 32, 32, 32, 115, 117, 110, 32, 32, 32, 32, 32, 117, 112, 32, 32, 32, 32, 32, 32]
def hMoL : List Int32 := [98, 121, 32, 32, 32, 32, 32, 32, 108, 101, 97, 110, 32, 32, 32, 32]
def hLe : Nat → Int32 := hTab hLeL
def hOt : Nat → Int32 := hTab hOtL
def hMo : Nat → Int32 := hTab hMoL
def hMm (c0 : Nat → gE) (m_s m_kp m_as : Nat → Int32) (m_ik : Int32) (m_fo : Nat → Int32) (m_tl m_tr : Int32) (m_fa m_od : Nat → Int32) (m_rc : Int32) (m_be : Nat → Int32) (m_ft : Int32) (m_tp : Nat → Int32) (m_td m_tk m_bg m_en : Int32) (m_vl : Int64) (m_sg : Int32) (m_wi m_si m_ce m_ca : Nat → Int32) : List gE :=
  hPf c0 [.inr (6, [.ref 64, .ref 65, .ref 66, .int m_ik, .ref 67, .int m_tl, .int m_tr, .ref 68, .ref 69, .int m_rc, .ref 70, .int m_ft, .ref 71, .int m_td, .int m_tk, .int m_bg, .int m_en, .long m_vl, .ref 72, .ref 73, .ref 74, .int m_sg, .ref 75, .ref 76, .ref 77, .ref 78]),
    .inl (.int, 134, .inl m_s), .inl (.int, 134, .inl m_kp), .inl (.int, 134, .inl m_as), .inl (.int, 7, .inl m_fo), .inl (.int, 3721, .inl m_fa), .inl (.int, 3721, .inl m_od), .inl (.int, 4, .inl m_be), .inl (.int, 120, .inl m_tp), .inl (.char, 56, .inl hLe), .inl (.char, 56, .inl hOt), .inl (.char, 16, .inl hMo), .inl (.int, 4, .inl m_wi), .inl (.int, 4, .inl m_si), .inl (.int, 160, .inl m_ce), .inl (.int, 40, .inl m_ca)]
