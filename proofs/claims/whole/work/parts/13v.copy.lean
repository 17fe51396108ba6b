/-- the reference's copying, upward or downward -/
theorem m_cpUp {q1 q2 i j n : Nat} (h1 : q1 < 4) (h2 : q2 < 4) (hi : i + n ≤ 40) (hj : j + n ≤ 40) (hd : 40 * q2 + j ≤ 40 * q1 + i ∨ 40 * q1 + i + n ≤ 40 * q2 + j) : ∀ (m t f : Nat) (M : zS), t + m = n → m < f → shM M → ∃ M', fX8_copy_L121 0 f (nI q1) (nI i) (nI q2) (nI j) (nI n) 0 (nI t) M = some (nI n, M') ∧ M'.1 = M.1 ∧ M'.2.2.2 = M.2.2.2 ∧ ∀ o k, M'.2.1 o k = if o = 15 ∧ 40 * q2 + j + t ≤ k ∧ k < 40 * q2 + j + n then M.2.1 15 (40 * q1 + i + (k - (40 * q2 + j))) else M.2.1 o k
  | m, t, 0, _, _, h, _ => by omega
  | 0, t, f + 1, M, e, _, hM => by
    have c : nI n ≤ nI t := nI_le (by omega) (by omega)
    exact ⟨M, by simp only [fX8_copy_L121, if_pos c], rfl, rfl, fun o k => by rw [if_neg (by omega)]⟩
  | m + 1, t, f + 1, M, e, hf, hM => by
    have c : ¬ nI n ≤ nI t := nI_ge (by omega) (by omega)
    have r15 : M.2.2.2 0 45 = some 15 := hM.r (by decide) (by decide)
    have ia : (40 : Int32) * nI q1 + nI i + nI t = nI (40 * q1 + i + t) := by rw [idx40s, nI_add]
    have ib : (40 : Int32) * nI q2 + nI j + nI t = nI (40 * q2 + j + t) := by rw [idx40s, nI_add]
    have za : zix spM 15 (nI (40 * q1 + i + t)) = some (40 * q1 + i + t) := zix_of rfl (by show 40 * q1 + i + t < 160; omega) (by decide)
    have zb : zix spM 15 (nI (40 * q2 + j + t)) = some (40 * q2 + j + t) := zix_of rfl (by show 40 * q2 + j + t < 160; omega) (by decide)
    obtain ⟨M', e1, e2, e3, e4⟩ := m_cpUp h1 h2 hi hj hd m (t + 1) f (zp M 15 (40 * q2 + j + t) (M.2.1 15 (40 * q1 + i + t))) (by omega) (by omega) hM
    refine ⟨M', ?_, e2, e3, fun o k => ?_⟩
    · simp only [fX8_copy_L121, fX8_copy_j145, zokM_0, zokM_1, zokM_2, zokM_3, zokM_4, zokM_5, zokM_6, zokM_7, zokM_8, zokM_9, zokM_10, zokM_11, zokM_12, zokM_13, zokM_14, zokM_15, zlaM_1, zlaM_2, zlaM_3, zlaM_4, zlaM_5, zlaM_6, zlaM_7, zlaM_8, zlaM_9, zlaM_10, zlaM_11, zlaM_12, zlaM_13, zlaM_14, zlaM_15, zp_1, zp_h, zp_r, zp_l, zletE, obs, spMe_0, spMe_1, spMe_2, spMe_3, spMe_4, spMe_5, spMe_6, spMe_7, spMe_8, spMe_9, spMe_10, spMe_11, spMe_12, spMe_13, spMe_14, spMe_15, hM.1, if_neg c, if_true, r15, ia, ib, za, zb, nI_1]
      exact e1
    · rw [e4]
      by_cases c1 : o = 15 ∧ 40 * q2 + j + (t + 1) ≤ k ∧ k < 40 * q2 + j + n
      · rw [if_pos c1, if_pos (by omega), zp_h, if_neg (by omega)]
      · rw [if_neg c1, zp_h]
        by_cases c2 : o = 15 ∧ k = 40 * q2 + j + t
        · rw [if_pos c2, if_pos (by omega), show 40 * q1 + i + (k - (40 * q2 + j)) = 40 * q1 + i + t by omega]
        · rw [if_neg c2, if_neg (by omega)]
theorem m_cpDn {q1 q2 i j n : Nat} (h1 : q1 < 4) (h2 : q2 < 4) (hi : i + n ≤ 40) (hj : j + n ≤ 40) (hd : 40 * q1 + i ≤ 40 * q2 + j) : ∀ (m t f : Nat) (M : zS), t + m = n → m < f → shM M → ∃ M', fX8_copy_L121 0 f (nI q1) (nI i) (nI q2) (nI j) (nI n) 1 (nI t) M = some (nI n, M') ∧ M'.1 = M.1 ∧ M'.2.2.2 = M.2.2.2 ∧ ∀ o k, M'.2.1 o k = if o = 15 ∧ 40 * q2 + j ≤ k ∧ k < 40 * q2 + j + (n - t) then M.2.1 15 (40 * q1 + i + (k - (40 * q2 + j))) else M.2.1 o k
  | m, t, 0, _, _, h, _ => by omega
  | 0, t, f + 1, M, e, _, hM => by
    have c : nI n ≤ nI t := nI_le (by omega) (by omega)
    exact ⟨M, by simp only [fX8_copy_L121, if_pos c], rfl, rfl, fun o k => by rw [if_neg (by omega)]⟩
  | m + 1, t, f + 1, M, e, hf, hM => by
    have c : ¬ nI n ≤ nI t := nI_ge (by omega) (by omega)
    have r15 : M.2.2.2 0 45 = some 15 := hM.r (by decide) (by decide)
    have i0 : nI n - (1 : Int32) - nI t = nI m := by
      rw [show nI n - (1 : Int32) = nI (n - 1) from pk_sub (b := 1) (by omega), pk_sub (by omega), show n - 1 - t = m by omega]
    have ia : (40 : Int32) * nI q1 + nI i + nI m = nI (40 * q1 + i + m) := by rw [idx40s, nI_add]
    have ib : (40 : Int32) * nI q2 + nI j + nI m = nI (40 * q2 + j + m) := by rw [idx40s, nI_add]
    have za : zix spM 15 (nI (40 * q1 + i + m)) = some (40 * q1 + i + m) := zix_of rfl (by show 40 * q1 + i + m < 160; omega) (by decide)
    have zb : zix spM 15 (nI (40 * q2 + j + m)) = some (40 * q2 + j + m) := zix_of rfl (by show 40 * q2 + j + m < 160; omega) (by decide)
    obtain ⟨M', e1, e2, e3, e4⟩ := m_cpDn h1 h2 hi hj hd m (t + 1) f (zp M 15 (40 * q2 + j + m) (M.2.1 15 (40 * q1 + i + m))) (by omega) (by omega) hM
    refine ⟨M', ?_, e2, e3, fun o k => ?_⟩
    · simp only [fX8_copy_L121, fX8_copy_j145, zokM_0, zokM_1, zokM_2, zokM_3, zokM_4, zokM_5, zokM_6, zokM_7, zokM_8, zokM_9, zokM_10, zokM_11, zokM_12, zokM_13, zokM_14, zokM_15, zlaM_1, zlaM_2, zlaM_3, zlaM_4, zlaM_5, zlaM_6, zlaM_7, zlaM_8, zlaM_9, zlaM_10, zlaM_11, zlaM_12, zlaM_13, zlaM_14, zlaM_15, zp_1, zp_h, zp_r, zp_l, zletE, obs, spMe_0, spMe_1, spMe_2, spMe_3, spMe_4, spMe_5, spMe_6, spMe_7, spMe_8, spMe_9, spMe_10, spMe_11, spMe_12, spMe_13, spMe_14, spMe_15, hM.1, if_neg c, if_neg z01, r15, i0, ia, ib, za, zb, nI_1]
      exact e1
    · rw [e4]
      by_cases c1 : o = 15 ∧ 40 * q2 + j ≤ k ∧ k < 40 * q2 + j + (n - (t + 1))
      · rw [if_pos c1, if_pos (by omega), zp_h, if_neg (by omega)]
      · rw [if_neg c1, zp_h]
        by_cases c2 : o = 15 ∧ k = 40 * q2 + j + m
        · rw [if_pos c2, if_pos (by omega), show 40 * q1 + i + (k - (40 * q2 + j)) = 40 * q1 + i + m by omega]
        · rw [if_neg c2, if_neg (by omega)]
set_option maxHeartbeats 1000000 in
theorem t_copy (a i b j n : Int32) : TM2 Inv (fun st => fX7_copy 0 a i b j n st) (fun st => fX8_copy 0 a i b j n st) := by
  intro X M h
  have hInv := h
  obtain ⟨⟨hX, hM⟩, hL, hD, hA, hP, hF, hS, hI, hT⟩ := h
  rcases one_cases 4 (by decide) a with ha | ⟨q1, h1, rfl⟩
  · refine ⟨-2, X, M, ?_, by simp only [fX8_copy, obs, m_sheet0 M ha, if_true], hInv⟩
    rcases one_cases 4 (by decide) b with hb | ⟨q2, h2, rfl⟩
    · simp only [fX7_copy, zokX_0, zokX_1, zokX_2, zokX_3, zokX_4, zokX_5, zokX_6, zokX_7, zokX_8, zokX_9, zokX_10, zokX_11, zokX_12, zokX_13, zokX_14, zokX_15, zokX_16, zlaX_1, zlaX_2, zlaX_3, zlaX_4, zlaX_5, zlaX_6, zlaX_8, zlaX_11, zlaX_12, zlaX_13, zlaX_15, zlaX_16, zp_1, zp_h, zp_r, zp_l, zletE, obs, spXe_0, spXe_1, spXe_2, spXe_3, spXe_4, spXe_5, spXe_6, spXe_7, spXe_8, spXe_9, spXe_10, spXe_11, spXe_12, spXe_13, spXe_14, spXe_15, spXe_16, hX.1, x_sheet0 hX ha, x_sheet0 hX hb, if_true]
    · simp only [fX7_copy, zokX_0, zokX_1, zokX_2, zokX_3, zokX_4, zokX_5, zokX_6, zokX_7, zokX_8, zokX_9, zokX_10, zokX_11, zokX_12, zokX_13, zokX_14, zokX_15, zokX_16, zlaX_1, zlaX_2, zlaX_3, zlaX_4, zlaX_5, zlaX_6, zlaX_8, zlaX_11, zlaX_12, zlaX_13, zlaX_15, zlaX_16, zp_1, zp_h, zp_r, zp_l, zletE, obs, spXe_0, spXe_1, spXe_2, spXe_3, spXe_4, spXe_5, spXe_6, spXe_7, spXe_8, spXe_9, spXe_10, spXe_11, spXe_12, spXe_13, spXe_14, spXe_15, spXe_16, hX.1, x_sheet0 hX ha, x_sheet1 hX h2, if_true]
  · have xs := x_sheet1 hX h1
    have ms := m_sheet1 M h1
    rcases one_cases 4 (by decide) b with hb | ⟨q2, h2, rfl⟩
    · exact ⟨-2, X, M, by simp only [fX7_copy, zokX_0, zokX_1, zokX_2, zokX_3, zokX_4, zokX_5, zokX_6, zokX_7, zokX_8, zokX_9, zokX_10, zokX_11, zokX_12, zokX_13, zokX_14, zokX_15, zokX_16, zlaX_1, zlaX_2, zlaX_3, zlaX_4, zlaX_5, zlaX_6, zlaX_8, zlaX_11, zlaX_12, zlaX_13, zlaX_15, zlaX_16, zp_1, zp_h, zp_r, zp_l, zletE, obs, spXe_0, spXe_1, spXe_2, spXe_3, spXe_4, spXe_5, spXe_6, spXe_7, spXe_8, spXe_9, spXe_10, spXe_11, spXe_12, spXe_13, spXe_14, spXe_15, spXe_16, hX.1, xs, x_sheet0 hX hb, if_neg (ss51 q1), if_true], by simp only [fX8_copy, obs, ms, if_neg n10, m_sheet0 M hb, if_true], hInv⟩
    · have xs2 := x_sheet1 hX h2
      have ms2 := m_sheet1 M h2
      have r42 : M.2.2.2 0 42 = some 12 := hM.r (by decide) (by decide)
      have r43 : M.2.2.2 0 43 = some 13 := hM.r (by decide) (by decide)
      have r44 : M.2.2.2 0 44 = some 14 := hM.r (by decide) (by decide)
      have z12 : zix spM 12 (nI q1) = some q1 := zix_of rfl h1 (by decide)
      have z13 : zix spM 13 (nI q1) = some q1 := zix_of rfl h1 (by decide)
      have z14 : zix spM 14 (nI q1) = some q1 := zix_of rfl h1 (by decide)
      have y12 : zix spM 12 (nI q2) = some q2 := zix_of rfl h2 (by decide)
      have y13 : zix spM 13 (nI q2) = some q2 := zix_of rfl h2 (by decide)
      have y14 : zix spM 14 (nI q2) = some q2 := zix_of rfl h2 (by decide)
      have zs := zok_sheet hX.1 h1
      have zs2 := zok_sheet hX.1 h2
      have xm := x_miss hX h1
      have xm2 := x_miss hX h2
      rcases sht_of hS h1 with ⟨w1, w2⟩ | ⟨w1, w2, m1, hS1⟩
      · rw [if_pos w1] at xm
        exact ⟨-11, X, M, by simp only [fX7_copy, zokX_0, zokX_1, zokX_2, zokX_3, zokX_4, zokX_5, zokX_6, zokX_7, zokX_8, zokX_9, zokX_10, zokX_11, zokX_12, zokX_13, zokX_14, zokX_15, zokX_16, zlaX_1, zlaX_2, zlaX_3, zlaX_4, zlaX_5, zlaX_6, zlaX_8, zlaX_11, zlaX_12, zlaX_13, zlaX_15, zlaX_16, zp_1, zp_h, zp_r, zp_l, zletE, obs, spXe_0, spXe_1, spXe_2, spXe_3, spXe_4, spXe_5, spXe_6, spXe_7, spXe_8, spXe_9, spXe_10, spXe_11, spXe_12, spXe_13, spXe_14, spXe_15, spXe_16, hX.1, xs, xs2, if_neg (ss51 q1), if_neg (ss51 q2), zs, xm, if_neg n10], by simp only [fX8_copy, zokM_0, zokM_1, zokM_2, zokM_3, zokM_4, zokM_5, zokM_6, zokM_7, zokM_8, zokM_9, zokM_10, zokM_11, zokM_12, zokM_13, zokM_14, zokM_15, zlaM_1, zlaM_2, zlaM_3, zlaM_4, zlaM_5, zlaM_6, zlaM_7, zlaM_8, zlaM_9, zlaM_10, zlaM_11, zlaM_12, zlaM_13, zlaM_14, zlaM_15, zp_1, zp_h, zp_r, zp_l, zletE, obs, spMe_0, spMe_1, spMe_2, spMe_3, spMe_4, spMe_5, spMe_6, spMe_7, spMe_8, spMe_9, spMe_10, spMe_11, spMe_12, spMe_13, spMe_14, spMe_15, hM.1, ms, ms2, if_neg n10, r42, z12, w2, if_true], hInv⟩
      · rw [if_neg w1] at xm
        have w2' : ¬ M.2.1 12 q1 = 0 := by rw [w2]; decide
        rcases sht_of hS h2 with ⟨v1, v2⟩ | ⟨v1, v2, m2, hS2⟩
        · rw [if_pos v1] at xm2
          exact ⟨-11, X, M, by simp only [fX7_copy, zokX_0, zokX_1, zokX_2, zokX_3, zokX_4, zokX_5, zokX_6, zokX_7, zokX_8, zokX_9, zokX_10, zokX_11, zokX_12, zokX_13, zokX_14, zokX_15, zokX_16, zlaX_1, zlaX_2, zlaX_3, zlaX_4, zlaX_5, zlaX_6, zlaX_8, zlaX_11, zlaX_12, zlaX_13, zlaX_15, zlaX_16, zp_1, zp_h, zp_r, zp_l, zletE, obs, spXe_0, spXe_1, spXe_2, spXe_3, spXe_4, spXe_5, spXe_6, spXe_7, spXe_8, spXe_9, spXe_10, spXe_11, spXe_12, spXe_13, spXe_14, spXe_15, spXe_16, hX.1, xs, xs2, if_neg (ss51 q1), if_neg (ss51 q2), zs, xm, if_true, zs2, xm2, if_neg n10], by simp only [fX8_copy, zokM_0, zokM_1, zokM_2, zokM_3, zokM_4, zokM_5, zokM_6, zokM_7, zokM_8, zokM_9, zokM_10, zokM_11, zokM_12, zokM_13, zokM_14, zokM_15, zlaM_1, zlaM_2, zlaM_3, zlaM_4, zlaM_5, zlaM_6, zlaM_7, zlaM_8, zlaM_9, zlaM_10, zlaM_11, zlaM_12, zlaM_13, zlaM_14, zlaM_15, zp_1, zp_h, zp_r, zp_l, zletE, obs, spMe_0, spMe_1, spMe_2, spMe_3, spMe_4, spMe_5, spMe_6, spMe_7, spMe_8, spMe_9, spMe_10, spMe_11, spMe_12, spMe_13, spMe_14, spMe_15, hM.1, ms, ms2, if_neg n10, r42, z12, if_neg w2', y12, v2, if_true], hInv⟩
        · rw [if_neg v1] at xm2
          have v2' : ¬ M.2.1 12 q2 = 0 := by rw [v2]; decide
          have e1 : M.2.1 13 q1 = X.2.1 (51 + 2 * q1) 1 := (hS q1 h1).1.resolve_right w1
          have e2 : M.2.1 13 q2 = X.2.1 (51 + 2 * q2) 1 := (hS q2 h2).1.resolve_right v1
          by_cases c : X.2.1 (51 + 2 * q1) 1 = X.2.1 (51 + 2 * q2) 1
          · have c' : M.2.1 13 q1 = M.2.1 13 q2 := by rw [e1, e2]; exact c
            obtain ⟨-, a40, a3, a14, a5⟩ := hS1
            obtain ⟨-, b40, b3, b14, b5⟩ := hS2
            have hh1 := x_holds hX h1 i n
            have hh2 := x_holds hX h2 j n
            rw [a3] at hh1
            rw [b3] at hh2
            by_cases bad : n < 0 ∨ i < 0 ∨ j < 0 ∨ nI m1 - n < i ∨ nI m2 - n < j
            · refine ⟨-12, X, M, ?_, ?_, hInv⟩
              · by_cases g1 : n < 0 ∨ i < 0 ∨ nI m1 - n < i
                · have k1 : (if i < 0 then (0 : Int32) else if n < 0 then 0 else if nI m1 - n < i then 0 else 1) = 0 := by
                    by_cases p1 : i < 0
                    · rw [if_pos p1]
                    · rw [if_neg p1]
                      by_cases p2 : n < 0
                      · rw [if_pos p2]
                      · rw [if_neg p2, if_pos ((g1.resolve_left p2).resolve_left p1)]
                  rw [k1] at hh1
                  simp only [fX7_copy, zokX_0, zokX_1, zokX_2, zokX_3, zokX_4, zokX_5, zokX_6, zokX_7, zokX_8, zokX_9, zokX_10, zokX_11, zokX_12, zokX_13, zokX_14, zokX_15, zokX_16, zlaX_1, zlaX_2, zlaX_3, zlaX_4, zlaX_5, zlaX_6, zlaX_8, zlaX_11, zlaX_12, zlaX_13, zlaX_15, zlaX_16, zp_1, zp_h, zp_r, zp_l, zletE, obs, spXe_0, spXe_1, spXe_2, spXe_3, spXe_4, spXe_5, spXe_6, spXe_7, spXe_8, spXe_9, spXe_10, spXe_11, spXe_12, spXe_13, spXe_14, spXe_15, spXe_16, hX.1, xs, xs2, if_neg (ss51 q1), if_neg (ss51 q2), zs, xm, if_true, zs2, xm2, if_pos c, hh1]
                · have p1 : ¬ n < 0 := fun q => g1 (Or.inl q)
                  have p2 : ¬ i < 0 := fun q => g1 (Or.inr (Or.inl q))
                  have p3 : ¬ nI m1 - n < i := fun q => g1 (Or.inr (Or.inr q))
                  rw [if_neg p2, if_neg p1, if_neg p3] at hh1
                  have k2 : (if j < 0 then (0 : Int32) else if n < 0 then 0 else if nI m2 - n < j then 0 else 1) = 0 := by
                    by_cases p4 : j < 0
                    · rw [if_pos p4]
                    · rw [if_neg p4, if_neg p1, if_pos ((((bad.resolve_left p1).resolve_left p2).resolve_left p4).resolve_left p3)]
                  rw [k2] at hh2
                  simp only [fX7_copy, zokX_0, zokX_1, zokX_2, zokX_3, zokX_4, zokX_5, zokX_6, zokX_7, zokX_8, zokX_9, zokX_10, zokX_11, zokX_12, zokX_13, zokX_14, zokX_15, zokX_16, zlaX_1, zlaX_2, zlaX_3, zlaX_4, zlaX_5, zlaX_6, zlaX_8, zlaX_11, zlaX_12, zlaX_13, zlaX_15, zlaX_16, zp_1, zp_h, zp_r, zp_l, zletE, obs, spXe_0, spXe_1, spXe_2, spXe_3, spXe_4, spXe_5, spXe_6, spXe_7, spXe_8, spXe_9, spXe_10, spXe_11, spXe_12, spXe_13, spXe_14, spXe_15, spXe_16, hX.1, xs, xs2, if_neg (ss51 q1), if_neg (ss51 q2), zs, xm, if_true, zs2, xm2, if_pos c, hh1, if_neg z01, hh2]
              · by_cases p1 : n < 0
                · simp only [fX8_copy, zokM_0, zokM_1, zokM_2, zokM_3, zokM_4, zokM_5, zokM_6, zokM_7, zokM_8, zokM_9, zokM_10, zokM_11, zokM_12, zokM_13, zokM_14, zokM_15, zlaM_1, zlaM_2, zlaM_3, zlaM_4, zlaM_5, zlaM_6, zlaM_7, zlaM_8, zlaM_9, zlaM_10, zlaM_11, zlaM_12, zlaM_13, zlaM_14, zlaM_15, zp_1, zp_h, zp_r, zp_l, zletE, obs, spMe_0, spMe_1, spMe_2, spMe_3, spMe_4, spMe_5, spMe_6, spMe_7, spMe_8, spMe_9, spMe_10, spMe_11, spMe_12, spMe_13, spMe_14, spMe_15, hM.1, ms, ms2, if_neg n10, r42, z12, if_neg w2', y12, if_neg v2', r43, z13, y13, if_pos c', if_pos p1]
                · by_cases p2 : i < 0
                  · simp only [fX8_copy, zokM_0, zokM_1, zokM_2, zokM_3, zokM_4, zokM_5, zokM_6, zokM_7, zokM_8, zokM_9, zokM_10, zokM_11, zokM_12, zokM_13, zokM_14, zokM_15, zlaM_1, zlaM_2, zlaM_3, zlaM_4, zlaM_5, zlaM_6, zlaM_7, zlaM_8, zlaM_9, zlaM_10, zlaM_11, zlaM_12, zlaM_13, zlaM_14, zlaM_15, zp_1, zp_h, zp_r, zp_l, zletE, obs, spMe_0, spMe_1, spMe_2, spMe_3, spMe_4, spMe_5, spMe_6, spMe_7, spMe_8, spMe_9, spMe_10, spMe_11, spMe_12, spMe_13, spMe_14, spMe_15, hM.1, ms, ms2, if_neg n10, r42, z12, if_neg w2', y12, if_neg v2', r43, z13, y13, if_pos c', if_neg p1, if_pos p2]
                  · by_cases p3 : j < 0
                    · simp only [fX8_copy, zokM_0, zokM_1, zokM_2, zokM_3, zokM_4, zokM_5, zokM_6, zokM_7, zokM_8, zokM_9, zokM_10, zokM_11, zokM_12, zokM_13, zokM_14, zokM_15, zlaM_1, zlaM_2, zlaM_3, zlaM_4, zlaM_5, zlaM_6, zlaM_7, zlaM_8, zlaM_9, zlaM_10, zlaM_11, zlaM_12, zlaM_13, zlaM_14, zlaM_15, zp_1, zp_h, zp_r, zp_l, zletE, obs, spMe_0, spMe_1, spMe_2, spMe_3, spMe_4, spMe_5, spMe_6, spMe_7, spMe_8, spMe_9, spMe_10, spMe_11, spMe_12, spMe_13, spMe_14, spMe_15, hM.1, ms, ms2, if_neg n10, r42, z12, if_neg w2', y12, if_neg v2', r43, z13, y13, if_pos c', if_neg p1, if_neg p2, if_pos p3]
                    · by_cases p4 : nI m1 - n < i
                      · simp only [fX8_copy, zokM_0, zokM_1, zokM_2, zokM_3, zokM_4, zokM_5, zokM_6, zokM_7, zokM_8, zokM_9, zokM_10, zokM_11, zokM_12, zokM_13, zokM_14, zokM_15, zlaM_1, zlaM_2, zlaM_3, zlaM_4, zlaM_5, zlaM_6, zlaM_7, zlaM_8, zlaM_9, zlaM_10, zlaM_11, zlaM_12, zlaM_13, zlaM_14, zlaM_15, zp_1, zp_h, zp_r, zp_l, zletE, obs, spMe_0, spMe_1, spMe_2, spMe_3, spMe_4, spMe_5, spMe_6, spMe_7, spMe_8, spMe_9, spMe_10, spMe_11, spMe_12, spMe_13, spMe_14, spMe_15, hM.1, ms, ms2, if_neg n10, r42, z12, if_neg w2', y12, if_neg v2', r43, z13, y13, if_pos c', if_neg p1, if_neg p2, if_neg p3, r44, z14, a14, if_pos p4]
                      · have p5 : ¬ j ≤ nI m2 - n := Int32.not_le.mpr ((((bad.resolve_left p1).resolve_left p2).resolve_left p3).resolve_left p4)
                        simp only [fX8_copy, zokM_0, zokM_1, zokM_2, zokM_3, zokM_4, zokM_5, zokM_6, zokM_7, zokM_8, zokM_9, zokM_10, zokM_11, zokM_12, zokM_13, zokM_14, zokM_15, zlaM_1, zlaM_2, zlaM_3, zlaM_4, zlaM_5, zlaM_6, zlaM_7, zlaM_8, zlaM_9, zlaM_10, zlaM_11, zlaM_12, zlaM_13, zlaM_14, zlaM_15, zp_1, zp_h, zp_r, zp_l, zletE, obs, spMe_0, spMe_1, spMe_2, spMe_3, spMe_4, spMe_5, spMe_6, spMe_7, spMe_8, spMe_9, spMe_10, spMe_11, spMe_12, spMe_13, spMe_14, spMe_15, hM.1, ms, ms2, if_neg n10, r42, z12, if_neg w2', y12, if_neg v2', r43, z13, y13, if_pos c', if_neg p1, if_neg p2, if_neg p3, r44, z14, a14, if_neg p4, y14, b14, if_neg p5]
            · have p1 : ¬ n < 0 := fun q => bad (Or.inl q)
              have p2 : ¬ i < 0 := fun q => bad (Or.inr (Or.inl q))
              have p3 : ¬ j < 0 := fun q => bad (Or.inr (Or.inr (Or.inl q)))
              have p4 : ¬ nI m1 - n < i := fun q => bad (Or.inr (Or.inr (Or.inr (Or.inl q))))
              have p5 : ¬ nI m2 - n < j := fun q => bad (Or.inr (Or.inr (Or.inr (Or.inr q))))
              have p6 : j ≤ nI m2 - n := Int32.not_lt.mp p5
              rw [if_neg p2, if_neg p1, if_neg p4] at hh1
              rw [if_neg p3, if_neg p1, if_neg p5] at hh2
              obtain ⟨n', hn', rfl⟩ := nI_of p1
              obtain ⟨i', hi', rfl⟩ := nI_of p2
              obtain ⟨j', hj', rfl⟩ := nI_of p3
              have t1 : ∀ m0 : Nat, m0 ≤ 40 → (nI m0 - nI n').toInt = (m0 : Int) - n' := fun m0 hm0 => by
                rw [Int32.toInt_sub, nI_toInt (by omega), nI_toInt hn']
                exact Int.bmod_eq_of_le (by omega) (by omega)
              have u1 : i' + n' ≤ m1 := by
                have q := Int32.not_lt.mp p4
                rw [Int32.le_iff_toInt_le, t1 m1 a40, nI_toInt hi'] at q
                omega
              have u2 : j' + n' ≤ m2 := by
                rw [Int32.le_iff_toInt_le, t1 m2 b40, nI_toInt hj'] at p6
                omega
              have cl1 : (nI i').toNatClampNeg = i' := nI_clamp hi'
              have cl2 : (nI j').toNatClampNeg = j' := nI_clamp hj'
              have cl3 : (nI n').toNatClampNeg = n' := nI_clamp hn'
              have cb : zcpyBad spX (52 + 2 * q1) (52 + 2 * q2) (nI i') (nI j') (nI n') = false := by
                unfold zcpyBad
                rw [cl1, cl2, cl3, (spX_sheet h1).2, (spX_sheet h2).2, decide_eq_false p1, decide_eq_false p2, decide_eq_false p3, decide_eq_false (show ¬ (9, 40).2 < i' + n' by show ¬ 40 < i' + n'; omega), decide_eq_false (show ¬ (9, 40).2 < j' + n' by show ¬ 40 < j' + n'; omega)]
                rfl
              have hm : ∃ M', fX8_copy 0 (nI q1) (nI i') (nI q2) (nI j') (nI n') M = some (nI n', M') ∧ M'.1 = M.1 ∧ M'.2.2.2 = M.2.2.2 ∧ ∀ o k, M'.2.1 o k = if o = 15 ∧ 40 * q2 + j' ≤ k ∧ k < 40 * q2 + j' + n' then M.2.1 15 (40 * q1 + i' + (k - (40 * q2 + j'))) else M.2.1 o k := by
                by_cases eq : q1 = q2
                · subst eq
                  have em : m2 = m1 := (nI_inj (by omega) (by omega)).mp (b14.symm.trans a14)
                  subst em
                  by_cases up : i' < j'
                  · obtain ⟨M', m1', m2', m3', m4'⟩ := m_cpDn h1 h1 (show i' + n' ≤ 40 by omega) (show j' + n' ≤ 40 by omega) (by omega) n' 0 zF M (by omega) (by show n' < 5000; omega) hM
                    have m1'' : fX8_copy_L121 0 zF (nI q1) (nI i') (nI q1) (nI j') (nI n') 1 0 M = some (nI n', M') := m1'
                    have up' : ¬ nI j' ≤ nI i' := nI_ge up (by omega)
                    refine ⟨M', ?_, m2', m3', fun o k => by rw [m4']; rfl⟩
                    simp only [fX8_copy, fX8_copy_j116, zokM_0, zokM_1, zokM_2, zokM_3, zokM_4, zokM_5, zokM_6, zokM_7, zokM_8, zokM_9, zokM_10, zokM_11, zokM_12, zokM_13, zokM_14, zokM_15, zlaM_1, zlaM_2, zlaM_3, zlaM_4, zlaM_5, zlaM_6, zlaM_7, zlaM_8, zlaM_9, zlaM_10, zlaM_11, zlaM_12, zlaM_13, zlaM_14, zlaM_15, zp_1, zp_h, zp_r, zp_l, zletE, obs, spMe_0, spMe_1, spMe_2, spMe_3, spMe_4, spMe_5, spMe_6, spMe_7, spMe_8, spMe_9, spMe_10, spMe_11, spMe_12, spMe_13, spMe_14, spMe_15, hM.1, ms, if_neg n10, r42, z12, if_neg w2', r43, z13, if_true, if_neg p1, if_neg p2, if_neg p3, r44, z14, a14, b14, if_neg p4, if_pos p6, if_neg up', m1'']
                  · obtain ⟨M', m1', m2', m3', m4'⟩ := m_cpUp h1 h1 (show i' + n' ≤ 40 by omega) (show j' + n' ≤ 40 by omega) (Or.inl (by omega)) n' 0 zF M (by omega) (by show n' < 5000; omega) hM
                    have m1'' : fX8_copy_L121 0 zF (nI q1) (nI i') (nI q1) (nI j') (nI n') 0 0 M = some (nI n', M') := m1'
                    have up' : nI j' ≤ nI i' := nI_le (by omega) (by omega)
                    refine ⟨M', ?_, m2', m3', fun o k => by rw [m4']; rfl⟩
                    simp only [fX8_copy, fX8_copy_j115, fX8_copy_j116, zokM_0, zokM_1, zokM_2, zokM_3, zokM_4, zokM_5, zokM_6, zokM_7, zokM_8, zokM_9, zokM_10, zokM_11, zokM_12, zokM_13, zokM_14, zokM_15, zlaM_1, zlaM_2, zlaM_3, zlaM_4, zlaM_5, zlaM_6, zlaM_7, zlaM_8, zlaM_9, zlaM_10, zlaM_11, zlaM_12, zlaM_13, zlaM_14, zlaM_15, zp_1, zp_h, zp_r, zp_l, zletE, obs, spMe_0, spMe_1, spMe_2, spMe_3, spMe_4, spMe_5, spMe_6, spMe_7, spMe_8, spMe_9, spMe_10, spMe_11, spMe_12, spMe_13, spMe_14, spMe_15, hM.1, ms, if_neg n10, r42, z12, if_neg w2', r43, z13, if_true, if_neg p1, if_neg p2, if_neg p3, r44, z14, a14, b14, if_neg p4, if_pos p6, if_pos up', m1'']
                · have eq' : ¬ nI q1 = nI q2 := kne (by omega) (by omega) eq
                  obtain ⟨M', m1', m2', m3', m4'⟩ := m_cpUp h1 h2 (show i' + n' ≤ 40 by omega) (show j' + n' ≤ 40 by omega) (by omega) n' 0 zF M (by omega) (by show n' < 5000; omega) hM
                  have m1'' : fX8_copy_L121 0 zF (nI q1) (nI i') (nI q2) (nI j') (nI n') 0 0 M = some (nI n', M') := m1'
                  refine ⟨M', ?_, m2', m3', fun o k => by rw [m4']; rfl⟩
                  simp only [fX8_copy, fX8_copy_j115, fX8_copy_j116, zokM_0, zokM_1, zokM_2, zokM_3, zokM_4, zokM_5, zokM_6, zokM_7, zokM_8, zokM_9, zokM_10, zokM_11, zokM_12, zokM_13, zokM_14, zokM_15, zlaM_1, zlaM_2, zlaM_3, zlaM_4, zlaM_5, zlaM_6, zlaM_7, zlaM_8, zlaM_9, zlaM_10, zlaM_11, zlaM_12, zlaM_13, zlaM_14, zlaM_15, zp_1, zp_h, zp_r, zp_l, zletE, obs, spMe_0, spMe_1, spMe_2, spMe_3, spMe_4, spMe_5, spMe_6, spMe_7, spMe_8, spMe_9, spMe_10, spMe_11, spMe_12, spMe_13, spMe_14, spMe_15, hM.1, ms, ms2, if_neg n10, r42, z12, if_neg w2', y12, if_neg v2', r43, z13, y13, if_pos c', if_neg p1, if_neg p2, if_neg p3, r44, z14, a14, if_neg p4, y14, b14, if_pos p6, if_neg eq', m1'']
              obtain ⟨M', k1, k2, k3, k4⟩ := hm
              have xc : ∀ o k, (zcpy X (52 + 2 * q1) (52 + 2 * q2) (nI i') (nI j') (nI n')).2.1 o k = if o = 52 + 2 * q2 ∧ j' ≤ k ∧ k < j' + n' then X.2.1 (52 + 2 * q1) (i' + (k - j')) else X.2.1 o k := fun o k => by
                unfold zcpy va_cpy
                rw [cl1, cl2, cl3]
                by_cases eo : o = 52 + 2 * q2
                · subst eo
                  simp only [if_true, true_and]
                · simp only [eo, if_false, false_and]
              refine ⟨nI n', zcpy X (52 + 2 * q1) (52 + 2 * q2) (nI i') (nI j') (nI n'), M', ?_, k1, hInv.shts ⟨rfl, fun _ _ => Or.inr rfl, fun o k => ?_⟩ ⟨k2, k3, fun o k => ?_⟩ (fun s hs => ?_)⟩
              · simp only [fX7_copy, zokX_0, zokX_1, zokX_2, zokX_3, zokX_4, zokX_5, zokX_6, zokX_7, zokX_8, zokX_9, zokX_10, zokX_11, zokX_12, zokX_13, zokX_14, zokX_15, zokX_16, zlaX_1, zlaX_2, zlaX_3, zlaX_4, zlaX_5, zlaX_6, zlaX_8, zlaX_11, zlaX_12, zlaX_13, zlaX_15, zlaX_16, zp_1, zp_h, zp_r, zp_l, zletE, obs, spXe_0, spXe_1, spXe_2, spXe_3, spXe_4, spXe_5, spXe_6, spXe_7, spXe_8, spXe_9, spXe_10, spXe_11, spXe_12, spXe_13, spXe_14, spXe_15, spXe_16, hX.1, xs, xs2, if_neg (ss51 q1), if_neg (ss51 q2), zs, xm, if_true, zs2, xm2, if_pos c, hh1, if_neg z01, hh2, rX_cells hX h1, rX_cells hX h2, zok_cells hX.1 h1, zok_cells hX.1 h2, cb, Bool.false_eq_true, if_false]
              · by_cases e : 51 ≤ o
                · exact Or.inr (Or.inr (Or.inr (Or.inl e)))
                · exact Or.inr (Or.inr (Or.inr (Or.inr (by rw [xc, if_neg (by omega)]))))
              · by_cases e : 12 ≤ o
                · exact Or.inr (Or.inr (Or.inr (Or.inl e)))
                · exact Or.inr (Or.inr (Or.inr (Or.inr (by rw [k4, if_neg (by omega)]))))
              · obtain ⟨d1, d2⟩ := hS s hs
                rw [xc, if_neg (by omega), xc, if_neg (by omega), k4, if_neg (by omega), k4, if_neg (by omega), k4, if_neg (by omega)]
                refine ⟨d1, ?_⟩
                rcases d2 with d2 | ⟨d2, d3, u, g1, g2, g3, g4⟩
                · exact Or.inl d2
                · refine Or.inr ⟨d2, d3, u, g1, g2, g3, fun k hk => ?_⟩
                  rw [xc, k4]
                  by_cases es : s = q2 ∧ j' ≤ k ∧ k < j' + n'
                  · obtain ⟨rfl, ek⟩ := es
                    rw [if_pos ⟨rfl, ek⟩, if_pos ⟨rfl, by omega, by omega⟩, a5 _ (by omega), show 40 * q1 + i' + (40 * s + k - (40 * s + j')) = 40 * q1 + (i' + (k - j')) by omega]
                  · rw [if_neg (by omega), if_neg (by omega)]
                    exact g4 k hk
          · have c' : ¬ M.2.1 13 q1 = M.2.1 13 q2 := by rw [e1, e2]; exact c
            exact ⟨-13, X, M, by simp only [fX7_copy, zokX_0, zokX_1, zokX_2, zokX_3, zokX_4, zokX_5, zokX_6, zokX_7, zokX_8, zokX_9, zokX_10, zokX_11, zokX_12, zokX_13, zokX_14, zokX_15, zokX_16, zlaX_1, zlaX_2, zlaX_3, zlaX_4, zlaX_5, zlaX_6, zlaX_8, zlaX_11, zlaX_12, zlaX_13, zlaX_15, zlaX_16, zp_1, zp_h, zp_r, zp_l, zletE, obs, spXe_0, spXe_1, spXe_2, spXe_3, spXe_4, spXe_5, spXe_6, spXe_7, spXe_8, spXe_9, spXe_10, spXe_11, spXe_12, spXe_13, spXe_14, spXe_15, spXe_16, hX.1, xs, xs2, if_neg (ss51 q1), if_neg (ss51 q2), zs, xm, if_true, zs2, xm2, if_neg c], by simp only [fX8_copy, zokM_0, zokM_1, zokM_2, zokM_3, zokM_4, zokM_5, zokM_6, zokM_7, zokM_8, zokM_9, zokM_10, zokM_11, zokM_12, zokM_13, zokM_14, zokM_15, zlaM_1, zlaM_2, zlaM_3, zlaM_4, zlaM_5, zlaM_6, zlaM_7, zlaM_8, zlaM_9, zlaM_10, zlaM_11, zlaM_12, zlaM_13, zlaM_14, zlaM_15, zp_1, zp_h, zp_r, zp_l, zletE, obs, spMe_0, spMe_1, spMe_2, spMe_3, spMe_4, spMe_5, spMe_6, spMe_7, spMe_8, spMe_9, spMe_10, spMe_11, spMe_12, spMe_13, spMe_14, spMe_15, hM.1, ms, ms2, if_neg n10, r42, z12, if_neg w2', y12, if_neg v2', r43, z13, y13, if_neg c'], hInv⟩
