theorem chance_loop {n q : Nat} (z : Int32) (hn5 : n ≤ 5) {p kk pt : Nat} (hp : p < n) (hk : kk ≤ 12) (hpt : pt ≤ 1) (hq1 : 1 ≤ q) (hq : q ≤ 20) : ∀ (m j n1 n2 e : Nat) (X M : zS), j + m = q → m < n1 → m < n2 → e ≤ j → Inv X M → X.2.1 0 10 = nI n → M.2.1 0 11 = nI n → ∃ r X' M', fX7_chance_L56 0 n1 z (nI q) (nI p) (nI kk) (nI pt) (nI e) (nI j) X = some (r, X') ∧ fX8_chance_L54 0 n2 z (nI q) (nI p) (nI kk) (nI pt) (lN e) (nI j) M = some (r, M') ∧ Inv X' M'
  | m, j, 0, _, _, _, _, _, h, _, _, _, _, _ => by omega
  | m, j, _, 0, _, _, _, _, _, h, _, _, _, _ => by omega
  | 0, j, n1 + 1, n2 + 1, e, X, M, h1, _, _, he, hI, _, _ => by
    have c : nI q ≤ nI j := nI_le (by omega) (by omega)
    obtain ⟨r, r1, r2⟩ := low_both (a := e) (b := q) (p := pt) (by omega) hq1 hq hpt X M
    refine ⟨r, X, M, ?_, ?_, hI⟩
    · simp only [fX7_chance_L56, if_pos c, r1, obs]
    · simp only [fX8_chance_L54, if_pos c, nI_l (show q < 2 ^ 31 by omega), r2, obs]
  | m + 1, j, n1 + 1, n2 + 1, e, X, M, h1, h2, h3, he, hI, hnX, hnM => by
    have c : ¬ nI q ≤ nI j := nI_ge (by omega) (by omega)
    have hX := hI.1.1
    have hM := hI.1.2
    obtain ⟨k, nu, s, hd, nh, d, t, sp, F, hV, hd9, hsp, hPM, hRM, hq', X1, e1, f1, hPX, h77, hac⟩ := view_of hI hn5 hnX hnM hp
    have hI1 := hI.keep f1 (frN.rf M)
    obtain ⟨r, X', M', hr, x1, x2, x3, x4⟩ := had_both (th_of hV (f1.sh hX) hPX h77 hM hPM hRM hq' hsp) hac (show 6 ≤ 40 by decide) hd9 (z + nI j)
    have x1' : fX7_hadByDrawing (some 7) (z + nI j) 6 X1 = some (nI r, X') := x1
    have x2' : fX8_hadDrawn 0 (z + nI j) (nI p) 6 M = some (nI r, M') := x2
    have hI2 := hI1.keep x3.c x4
    have hnX2 : X'.2.1 0 10 = nI n := ((f1.tr x3.c).at (by decide) (by decide) (Or.inl (by decide))).trans hnX
    have hnM2 : M'.2.1 0 11 = nI n := (x4.at (Or.inr (Or.inl (by decide))) (by decide) (by decide)).trans hnM
    by_cases cr : r < kk
    · have cr' : nI r < nI kk := nI_lt cr (by omega)
      obtain ⟨r', X2, M2, y1, y2, y3⟩ := chance_loop z hn5 hp hk hpt hq1 hq m (j + 1) n1 n2 e X' M' (by omega) (by omega) (by omega) (by omega) hI2 hnX2 hnM2
      refine ⟨r', X2, M2, ?_, ?_, y3⟩
      · simp only [fX7_chance_L56, fX7_chance_j93, zokX_0, zokX_1, zokX_2, zokX_3, zokX_4, zokX_5, zokX_6, zokX_7, zokX_8, zokX_9, zokX_10, zokX_11, zokX_12, zokX_13, zokX_14, zokX_15, zokX_16, zlaX_1, zlaX_2, zlaX_3, zlaX_4, zlaX_5, zlaX_6, zlaX_8, zlaX_11, zlaX_12, zlaX_13, zlaX_15, zlaX_16, zp_1, zp_h, zp_r, zp_l, zletE, obs, spXe_0, spXe_1, spXe_2, spXe_3, spXe_4, spXe_5, spXe_6, spXe_7, spXe_8, spXe_9, spXe_10, spXe_11, spXe_12, spXe_13, spXe_14, spXe_15, spXe_16, hX.1, if_neg c, e1, if_neg s7, x1', if_pos cr', nI_1]
        exact y1
      · have w : lN e + 0 = lN e := by simp
        simp only [fX8_chance_L54, fX8_chance_j83, zokM_0, zokM_1, zokM_2, zokM_3, zokM_4, zokM_5, zokM_6, zokM_7, zokM_8, zokM_9, zokM_10, zokM_11, zokM_12, zokM_13, zokM_14, zokM_15, zlaM_1, zlaM_2, zlaM_3, zlaM_4, zlaM_5, zlaM_6, zlaM_7, zlaM_8, zlaM_9, zlaM_10, zlaM_11, zlaM_12, zlaM_13, zlaM_14, zlaM_15, zp_1, zp_h, zp_r, zp_l, zletE, obs, spMe_0, spMe_1, spMe_2, spMe_3, spMe_4, spMe_5, spMe_6, spMe_7, spMe_8, spMe_9, spMe_10, spMe_11, spMe_12, spMe_13, spMe_14, spMe_15, hM.1, if_neg c, x2', if_pos cr', nI_1, w]
        exact y2
    · have cr' : ¬ nI r < nI kk := nI_nlt (by omega) (by omega)
      obtain ⟨r', X2, M2, y1, y2, y3⟩ := chance_loop z hn5 hp hk hpt hq1 hq m (j + 1) n1 n2 (e + 1) X' M' (by omega) (by omega) (by omega) (by omega) hI2 hnX2 hnM2
      refine ⟨r', X2, M2, ?_, ?_, y3⟩
      · simp only [fX7_chance_L56, fX7_chance_j93, zokX_0, zokX_1, zokX_2, zokX_3, zokX_4, zokX_5, zokX_6, zokX_7, zokX_8, zokX_9, zokX_10, zokX_11, zokX_12, zokX_13, zokX_14, zokX_15, zokX_16, zlaX_1, zlaX_2, zlaX_3, zlaX_4, zlaX_5, zlaX_6, zlaX_8, zlaX_11, zlaX_12, zlaX_13, zlaX_15, zlaX_16, zp_1, zp_h, zp_r, zp_l, zletE, obs, spXe_0, spXe_1, spXe_2, spXe_3, spXe_4, spXe_5, spXe_6, spXe_7, spXe_8, spXe_9, spXe_10, spXe_11, spXe_12, spXe_13, spXe_14, spXe_15, spXe_16, hX.1, if_neg c, e1, if_neg s7, x1', if_neg cr', nI_1]
        exact y1
      · simp only [fX8_chance_L54, fX8_chance_j83, zokM_0, zokM_1, zokM_2, zokM_3, zokM_4, zokM_5, zokM_6, zokM_7, zokM_8, zokM_9, zokM_10, zokM_11, zokM_12, zokM_13, zokM_14, zokM_15, zlaM_1, zlaM_2, zlaM_3, zlaM_4, zlaM_5, zlaM_6, zlaM_7, zlaM_8, zlaM_9, zlaM_10, zlaM_11, zlaM_12, zlaM_13, zlaM_14, zlaM_15, zp_1, zp_h, zp_r, zp_l, zletE, obs, spMe_0, spMe_1, spMe_2, spMe_3, spMe_4, spMe_5, spMe_6, spMe_7, spMe_8, spMe_9, spMe_10, spMe_11, spMe_12, spMe_13, spMe_14, spMe_15, hM.1, if_neg c, x2', if_neg cr', nI_1, lN_1]
        exact y2
theorem l20 : (20 : Int64) = (20 : Int32).toInt64 := by decide
theorem m_20 (a : Int32) (M : zS) : fX8_in a.toInt64 1 20 M = some ((if a < 1 then 0 else if 20 < a then 0 else 1), M) := by
  rw [in_eq, l1, l20]
  simp only [tl]
theorem t_chance (z q b w v : Int32) : TM2 Inv (fun st => fX7_chance 0 z q b w v st) (fun st => fX8_chance 0 z q b w v st) := by
  intro X M h
  obtain ⟨n, hn5, hnX, hnM⟩ := many_of h.2.2.1
  have hX := h.1.1
  have hM := h.1.2
  have l12 : (12 : Int64) = (nI 12).toInt64 := by decide
  have l1' : (1 : Int64) = (nI 1).toInt64 := by decide
  have bad : ∀ (ex : fX7_chance 0 z q b w v X = some (-4611686018427387904, X)) (em : fX8_chance 0 z q b w v M = some (-4611686018427387904, M)), ∃ r X' M', fX7_chance 0 z q b w v X = some (r, X') ∧ fX8_chance 0 z q b w v M = some (r, M') ∧ Inv X' M' := fun ex em => ⟨_, X, M, ex, em, h⟩
  by_cases q1 : q < 1
  · exact bad (by simp only [fX7_chance, if_pos q1]) (by simp only [fX8_chance, m_20, obs, if_pos q1, if_true])
  · by_cases q2 : 20 < q
    · exact bad (by simp only [fX7_chance, if_neg q1, if_pos q2]) (by simp only [fX8_chance, m_20, obs, if_neg q1, if_pos q2, if_true])
    · obtain ⟨qn, hq1, hq2, rfl⟩ : ∃ qn, 1 ≤ qn ∧ qn ≤ 20 ∧ q = nI qn := by
        rcases one_cases 21 (by decide) q with hq | ⟨qn, hqn, rfl⟩
        · rcases hq with hq | hq
          · exact absurd (Int32.lt_of_lt_of_le hq (by decide)) q1
          · exact absurd (Int32.lt_of_lt_of_le (show (20 : Int32) < nI 21 by decide) hq) q2
        · refine ⟨qn, ?_, by omega, rfl⟩
          rcases Nat.eq_zero_or_pos qn with e | e
          · subst e; exact absurd (by decide) q1
          · exact e
      rcases one_cases n (by omega) b with hb | ⟨p, hp, rfl⟩
      · exact bad (by simp only [fX7_chance, zokX_0, zokX_1, zokX_2, zokX_3, zokX_4, zokX_5, zokX_6, zokX_7, zokX_8, zokX_9, zokX_10, zokX_11, zokX_12, zokX_13, zokX_14, zokX_15, zokX_16, zlaX_1, zlaX_2, zlaX_3, zlaX_4, zlaX_5, zlaX_6, zlaX_8, zlaX_11, zlaX_12, zlaX_13, zlaX_15, zlaX_16, zp_1, zp_h, zp_r, zp_l, zletE, obs, spXe_0, spXe_1, spXe_2, spXe_3, spXe_4, spXe_5, spXe_6, spXe_7, spXe_8, spXe_9, spXe_10, spXe_11, spXe_12, spXe_13, spXe_14, spXe_15, spXe_16, hX.1, if_neg q1, if_neg q2, x_seat0 hX hnX hb, if_true]) (by simp only [fX8_chance, m_20, zokM_0, zokM_1, zokM_2, zokM_3, zokM_4, zokM_5, zokM_6, zokM_7, zokM_8, zokM_9, zokM_10, zokM_11, zokM_12, zokM_13, zokM_14, zokM_15, zlaM_1, zlaM_2, zlaM_3, zlaM_4, zlaM_5, zlaM_6, zlaM_7, zlaM_8, zlaM_9, zlaM_10, zlaM_11, zlaM_12, zlaM_13, zlaM_14, zlaM_15, zp_1, zp_h, zp_r, zp_l, zletE, obs, spMe_0, spMe_1, spMe_2, spMe_3, spMe_4, spMe_5, spMe_6, spMe_7, spMe_8, spMe_9, spMe_10, spMe_11, spMe_12, spMe_13, spMe_14, spMe_15, hM.1, if_neg q1, if_neg q2, if_neg n10, m_one0 hM hnM hn5 hb, if_true])
      · have one := m_one1 hM hnM hn5 hp
        have seat := x_seat1 hX hnX hn5 hp
        rcases one_cases 13 (by decide) w with hw | ⟨kk, hk, rfl⟩
        · refine bad ?_ (by simp only [fX8_chance, m_20, zokM_0, zokM_1, zokM_2, zokM_3, zokM_4, zokM_5, zokM_6, zokM_7, zokM_8, zokM_9, zokM_10, zokM_11, zokM_12, zokM_13, zokM_14, zokM_15, zlaM_1, zlaM_2, zlaM_3, zlaM_4, zlaM_5, zlaM_6, zlaM_7, zlaM_8, zlaM_9, zlaM_10, zlaM_11, zlaM_12, zlaM_13, zlaM_14, zlaM_15, zp_1, zp_h, zp_r, zp_l, zletE, obs, spMe_0, spMe_1, spMe_2, spMe_3, spMe_4, spMe_5, spMe_6, spMe_7, spMe_8, spMe_9, spMe_10, spMe_11, spMe_12, spMe_13, spMe_14, spMe_15, hM.1, if_neg q1, if_neg q2, if_neg n10, one, m_in0 12 (by decide) l12 hw, if_true])
          by_cases c0 : w < 0
          · simp only [fX7_chance, zokX_0, zokX_1, zokX_2, zokX_3, zokX_4, zokX_5, zokX_6, zokX_7, zokX_8, zokX_9, zokX_10, zokX_11, zokX_12, zokX_13, zokX_14, zokX_15, zokX_16, zlaX_1, zlaX_2, zlaX_3, zlaX_4, zlaX_5, zlaX_6, zlaX_8, zlaX_11, zlaX_12, zlaX_13, zlaX_15, zlaX_16, zp_1, zp_h, zp_r, zp_l, zletE, obs, spXe_0, spXe_1, spXe_2, spXe_3, spXe_4, spXe_5, spXe_6, spXe_7, spXe_8, spXe_9, spXe_10, spXe_11, spXe_12, spXe_13, spXe_14, spXe_15, spXe_16, hX.1, if_neg q1, if_neg q2, seat, if_neg (ss22 p), if_pos c0]
          · have c1 : 12 < w := Int32.lt_of_lt_of_le (nI_lt (a := 12) (b := 13) (by decide) (by decide)) (hw.resolve_left c0)
            simp only [fX7_chance, zokX_0, zokX_1, zokX_2, zokX_3, zokX_4, zokX_5, zokX_6, zokX_7, zokX_8, zokX_9, zokX_10, zokX_11, zokX_12, zokX_13, zokX_14, zokX_15, zokX_16, zlaX_1, zlaX_2, zlaX_3, zlaX_4, zlaX_5, zlaX_6, zlaX_8, zlaX_11, zlaX_12, zlaX_13, zlaX_15, zlaX_16, zp_1, zp_h, zp_r, zp_l, zletE, obs, spXe_0, spXe_1, spXe_2, spXe_3, spXe_4, spXe_5, spXe_6, spXe_7, spXe_8, spXe_9, spXe_10, spXe_11, spXe_12, spXe_13, spXe_14, spXe_15, spXe_16, hX.1, if_neg q1, if_neg q2, seat, if_neg (ss22 p), if_neg c0, if_pos c1]
        · have k0 : ¬ nI kk < 0 := nI_pos (by omega)
          have k1 : ¬ (12 : Int32) < nI kk := nI_nlt (a := 12) (by omega) (by decide)
          have hik := m_in1 12 (by decide) l12 hk M
          rcases one_cases 2 (by decide) v with hv | ⟨pt, hpt, rfl⟩
          · refine bad ?_ (by simp only [fX8_chance, m_20, zokM_0, zokM_1, zokM_2, zokM_3, zokM_4, zokM_5, zokM_6, zokM_7, zokM_8, zokM_9, zokM_10, zokM_11, zokM_12, zokM_13, zokM_14, zokM_15, zlaM_1, zlaM_2, zlaM_3, zlaM_4, zlaM_5, zlaM_6, zlaM_7, zlaM_8, zlaM_9, zlaM_10, zlaM_11, zlaM_12, zlaM_13, zlaM_14, zlaM_15, zp_1, zp_h, zp_r, zp_l, zletE, obs, spMe_0, spMe_1, spMe_2, spMe_3, spMe_4, spMe_5, spMe_6, spMe_7, spMe_8, spMe_9, spMe_10, spMe_11, spMe_12, spMe_13, spMe_14, spMe_15, hM.1, if_neg q1, if_neg q2, if_neg n10, one, hik, m_in0 1 (by decide) l1' hv, if_true])
            by_cases c0 : v < 0
            · simp only [fX7_chance, zokX_0, zokX_1, zokX_2, zokX_3, zokX_4, zokX_5, zokX_6, zokX_7, zokX_8, zokX_9, zokX_10, zokX_11, zokX_12, zokX_13, zokX_14, zokX_15, zokX_16, zlaX_1, zlaX_2, zlaX_3, zlaX_4, zlaX_5, zlaX_6, zlaX_8, zlaX_11, zlaX_12, zlaX_13, zlaX_15, zlaX_16, zp_1, zp_h, zp_r, zp_l, zletE, obs, spXe_0, spXe_1, spXe_2, spXe_3, spXe_4, spXe_5, spXe_6, spXe_7, spXe_8, spXe_9, spXe_10, spXe_11, spXe_12, spXe_13, spXe_14, spXe_15, spXe_16, hX.1, if_neg q1, if_neg q2, seat, if_neg (ss22 p), if_neg k0, if_neg k1, if_pos c0]
            · have c1 : ¬ v ≤ 1 := Int32.not_le.mpr (Int32.lt_of_lt_of_le (nI_lt (a := 1) (b := 2) (by decide) (by decide)) (hv.resolve_left c0))
              simp only [fX7_chance, zokX_0, zokX_1, zokX_2, zokX_3, zokX_4, zokX_5, zokX_6, zokX_7, zokX_8, zokX_9, zokX_10, zokX_11, zokX_12, zokX_13, zokX_14, zokX_15, zokX_16, zlaX_1, zlaX_2, zlaX_3, zlaX_4, zlaX_5, zlaX_6, zlaX_8, zlaX_11, zlaX_12, zlaX_13, zlaX_15, zlaX_16, zp_1, zp_h, zp_r, zp_l, zletE, obs, spXe_0, spXe_1, spXe_2, spXe_3, spXe_4, spXe_5, spXe_6, spXe_7, spXe_8, spXe_9, spXe_10, spXe_11, spXe_12, spXe_13, spXe_14, spXe_15, spXe_16, hX.1, if_neg q1, if_neg q2, seat, if_neg (ss22 p), if_neg k0, if_neg k1, if_neg c0, if_neg c1]
          · have v0 : ¬ nI pt < 0 := nI_pos (by omega)
            have v1 : nI pt ≤ (1 : Int32) := nI_le (b := 1) (by omega) (by decide)
            have hip := m_in1 1 (by decide) l1' hpt M
            obtain ⟨r, X', M', y1, y2, y3⟩ := chance_loop z hn5 hp (show kk ≤ 12 by omega) (show pt ≤ 1 by omega) hq1 hq2 qn 0 zF zF 0 X M (by omega) (by show qn < 5000; omega) (by show qn < 5000; omega) (by omega) h hnX hnM
            have y1' : fX7_chance_L56 0 zF z (nI qn) (nI p) (nI kk) (nI pt) 0 0 X = some (r, X') := y1
            have y2' : fX8_chance_L54 0 zF z (nI qn) (nI p) (nI kk) (nI pt) 0 0 M = some (r, M') := y2
            exact ⟨r, X', M', by simp only [fX7_chance, zokX_0, zokX_1, zokX_2, zokX_3, zokX_4, zokX_5, zokX_6, zokX_7, zokX_8, zokX_9, zokX_10, zokX_11, zokX_12, zokX_13, zokX_14, zokX_15, zokX_16, zlaX_1, zlaX_2, zlaX_3, zlaX_4, zlaX_5, zlaX_6, zlaX_8, zlaX_11, zlaX_12, zlaX_13, zlaX_15, zlaX_16, zp_1, zp_h, zp_r, zp_l, zletE, obs, spXe_0, spXe_1, spXe_2, spXe_3, spXe_4, spXe_5, spXe_6, spXe_7, spXe_8, spXe_9, spXe_10, spXe_11, spXe_12, spXe_13, spXe_14, spXe_15, spXe_16, hX.1, if_neg q1, if_neg q2, seat, if_neg (ss22 p), if_neg k0, if_neg k1, if_neg v0, if_pos v1, y1'], by simp only [fX8_chance, m_20, zokM_0, zokM_1, zokM_2, zokM_3, zokM_4, zokM_5, zokM_6, zokM_7, zokM_8, zokM_9, zokM_10, zokM_11, zokM_12, zokM_13, zokM_14, zokM_15, zlaM_1, zlaM_2, zlaM_3, zlaM_4, zlaM_5, zlaM_6, zlaM_7, zlaM_8, zlaM_9, zlaM_10, zlaM_11, zlaM_12, zlaM_13, zlaM_14, zlaM_15, zp_1, zp_h, zp_r, zp_l, zletE, obs, spMe_0, spMe_1, spMe_2, spMe_3, spMe_4, spMe_5, spMe_6, spMe_7, spMe_8, spMe_9, spMe_10, spMe_11, spMe_12, spMe_13, spMe_14, spMe_15, hM.1, if_neg q1, if_neg q2, if_neg n10, one, hik, hip, y2'], y3⟩
