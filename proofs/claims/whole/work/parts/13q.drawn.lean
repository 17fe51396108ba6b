set_option maxHeartbeats 1000000 in
theorem t_row (a b w : Int32) : TM2 Inv (fun st => fX7_row 0 a b w st) (fun st => fX8_row 0 a b w st) := by
  intro X M h
  obtain ⟨n, hn5, hnX, hnM⟩ := many_of h.2.2.1
  have hX := h.1.1
  have hM := h.1.2
  have l5 : (5 : Int64) = (nI 5).toInt64 := by decide
  rcases one_cases n (by omega) b with hb | ⟨p, hp, rfl⟩
  · refine ⟨-1000, X, M, ?_, ?_, h⟩
    · rcases one_cases 4 (by decide) a with ha | ⟨q, hq, rfl⟩
      · simp only [fX7_row, zokX_0, zokX_1, zokX_2, zokX_3, zokX_4, zokX_5, zokX_6, zokX_7, zokX_8, zokX_9, zokX_10, zokX_11, zokX_12, zokX_13, zokX_14, zokX_15, zokX_16, zlaX_1, zlaX_2, zlaX_3, zlaX_4, zlaX_5, zlaX_6, zlaX_8, zlaX_11, zlaX_12, zlaX_13, zlaX_15, zlaX_16, zp_1, zp_h, zp_r, zp_l, zletE, obs, spXe_0, spXe_1, spXe_2, spXe_3, spXe_4, spXe_5, spXe_6, spXe_7, spXe_8, spXe_9, spXe_10, spXe_11, spXe_12, spXe_13, spXe_14, spXe_15, spXe_16, hX.1, x_visit0 hX hnX hb, x_sheet0 hX ha, if_true]
      · simp only [fX7_row, zokX_0, zokX_1, zokX_2, zokX_3, zokX_4, zokX_5, zokX_6, zokX_7, zokX_8, zokX_9, zokX_10, zokX_11, zokX_12, zokX_13, zokX_14, zokX_15, zokX_16, zlaX_1, zlaX_2, zlaX_3, zlaX_4, zlaX_5, zlaX_6, zlaX_8, zlaX_11, zlaX_12, zlaX_13, zlaX_15, zlaX_16, zp_1, zp_h, zp_r, zp_l, zletE, obs, spXe_0, spXe_1, spXe_2, spXe_3, spXe_4, spXe_5, spXe_6, spXe_7, spXe_8, spXe_9, spXe_10, spXe_11, spXe_12, spXe_13, spXe_14, spXe_15, spXe_16, hX.1, x_visit0 hX hnX hb, x_sheet1 hX hq, if_neg (ss51 q), if_true]
    · rcases one_cases 4 (by decide) a with ha | ⟨q, hq, rfl⟩
      · simp only [fX8_row, obs, m_sheet0 M ha, if_true]
      · simp only [fX8_row, zokM_0, zokM_1, zokM_2, zokM_3, zokM_4, zokM_5, zokM_6, zokM_7, zokM_8, zokM_9, zokM_10, zokM_11, zokM_12, zokM_13, zokM_14, zokM_15, zlaM_1, zlaM_2, zlaM_3, zlaM_4, zlaM_5, zlaM_6, zlaM_7, zlaM_8, zlaM_9, zlaM_10, zlaM_11, zlaM_12, zlaM_13, zlaM_14, zlaM_15, zp_1, zp_h, zp_r, zp_l, zletE, obs, spMe_0, spMe_1, spMe_2, spMe_3, spMe_4, spMe_5, spMe_6, spMe_7, spMe_8, spMe_9, spMe_10, spMe_11, spMe_12, spMe_13, spMe_14, spMe_15, hM.1, m_sheet1 M hq, if_neg n10, m_one0 hM hnM hn5 hb, if_true]
  · obtain ⟨k, nu, s, hd, nh, d, t, sp, F, hV, hd9, hsp, hPM, hRM, hq', X1, e1, f1, hPX, h77, hac⟩ := view_of h hn5 hnX hnM hp
    have hX1 := f1.sh hX
    have hX1n := hX1.1
    have one := m_one1 hM hnM hn5 hp
    rcases one_cases 4 (by decide) a with ha | ⟨q, hq, rfl⟩
    · exact ⟨-1000, X1, M, by simp only [fX7_row, zokX_0, zokX_1, zokX_2, zokX_3, zokX_4, zokX_5, zokX_6, zokX_7, zokX_8, zokX_9, zokX_10, zokX_11, zokX_12, zokX_13, zokX_14, zokX_15, zokX_16, zlaX_1, zlaX_2, zlaX_3, zlaX_4, zlaX_5, zlaX_6, zlaX_8, zlaX_11, zlaX_12, zlaX_13, zlaX_15, zlaX_16, zp_1, zp_h, zp_r, zp_l, zletE, obs, spXe_0, spXe_1, spXe_2, spXe_3, spXe_4, spXe_5, spXe_6, spXe_7, spXe_8, spXe_9, spXe_10, spXe_11, spXe_12, spXe_13, spXe_14, spXe_15, spXe_16, hX.1, hX1n, e1, x_sheet0 hX1 ha, if_true], by simp only [fX8_row, obs, m_sheet0 M ha, if_true], h.keep f1 (frN.rf M)⟩
    · have hI1 := h.keep f1 (frN.rf M)
      rcases one_cases 6 (by decide) w with hw | ⟨j, hj, rfl⟩
      · refine ⟨-1000, X1, M, ?_, by simp only [fX8_row, zokM_0, zokM_1, zokM_2, zokM_3, zokM_4, zokM_5, zokM_6, zokM_7, zokM_8, zokM_9, zokM_10, zokM_11, zokM_12, zokM_13, zokM_14, zokM_15, zlaM_1, zlaM_2, zlaM_3, zlaM_4, zlaM_5, zlaM_6, zlaM_7, zlaM_8, zlaM_9, zlaM_10, zlaM_11, zlaM_12, zlaM_13, zlaM_14, zlaM_15, zp_1, zp_h, zp_r, zp_l, zletE, obs, spMe_0, spMe_1, spMe_2, spMe_3, spMe_4, spMe_5, spMe_6, spMe_7, spMe_8, spMe_9, spMe_10, spMe_11, spMe_12, spMe_13, spMe_14, spMe_15, hM.1, m_sheet1 M hq, if_neg n10, one, m_in0 5 (by decide) l5 hw, if_true], hI1⟩
        by_cases c0 : w < 0
        · simp only [fX7_row, zokX_0, zokX_1, zokX_2, zokX_3, zokX_4, zokX_5, zokX_6, zokX_7, zokX_8, zokX_9, zokX_10, zokX_11, zokX_12, zokX_13, zokX_14, zokX_15, zokX_16, zlaX_1, zlaX_2, zlaX_3, zlaX_4, zlaX_5, zlaX_6, zlaX_8, zlaX_11, zlaX_12, zlaX_13, zlaX_15, zlaX_16, zp_1, zp_h, zp_r, zp_l, zletE, obs, spXe_0, spXe_1, spXe_2, spXe_3, spXe_4, spXe_5, spXe_6, spXe_7, spXe_8, spXe_9, spXe_10, spXe_11, spXe_12, spXe_13, spXe_14, spXe_15, spXe_16, hX.1, hX1n, e1, x_sheet1 hX1 hq, if_neg (ss51 q), if_neg s7, if_pos c0]
        · have c1 : ¬ w ≤ 5 := Int32.not_le.mpr (Int32.lt_of_lt_of_le (nI_lt (a := 5) (b := 6) (by decide) (by decide)) (hw.resolve_left c0))
          simp only [fX7_row, zokX_0, zokX_1, zokX_2, zokX_3, zokX_4, zokX_5, zokX_6, zokX_7, zokX_8, zokX_9, zokX_10, zokX_11, zokX_12, zokX_13, zokX_14, zokX_15, zokX_16, zlaX_1, zlaX_2, zlaX_3, zlaX_4, zlaX_5, zlaX_6, zlaX_8, zlaX_11, zlaX_12, zlaX_13, zlaX_15, zlaX_16, zp_1, zp_h, zp_r, zp_l, zletE, obs, spXe_0, spXe_1, spXe_2, spXe_3, spXe_4, spXe_5, spXe_6, spXe_7, spXe_8, spXe_9, spXe_10, spXe_11, spXe_12, spXe_13, spXe_14, spXe_15, spXe_16, hX.1, hX1n, e1, x_sheet1 hX1 hq, if_neg (ss51 q), if_neg s7, if_neg c0, if_neg c1]
      · have c0 : ¬ nI j < 0 := nI_pos (by omega)
        have c1 : nI j ≤ (5 : Int32) := nI_le (b := 5) (by omega) (by decide)
        have hin := m_in1 5 (by decide) l5 hj M
        have hT := th_of hV hX1 hPX h77 hM hPM hRM hq' hsp
        rcases row_both hT hac hI1.2.2.2.2.2.2.1 hq with ⟨r, hr, ex, em⟩ | ⟨ex, em, m0, hm40, h14, go⟩
        · exact ⟨r, X1, M, by simp only [fX7_row, zokX_0, zokX_1, zokX_2, zokX_3, zokX_4, zokX_5, zokX_6, zokX_7, zokX_8, zokX_9, zokX_10, zokX_11, zokX_12, zokX_13, zokX_14, zokX_15, zokX_16, zlaX_1, zlaX_2, zlaX_3, zlaX_4, zlaX_5, zlaX_6, zlaX_8, zlaX_11, zlaX_12, zlaX_13, zlaX_15, zlaX_16, zp_1, zp_h, zp_r, zp_l, zletE, obs, spXe_0, spXe_1, spXe_2, spXe_3, spXe_4, spXe_5, spXe_6, spXe_7, spXe_8, spXe_9, spXe_10, spXe_11, spXe_12, spXe_13, spXe_14, spXe_15, spXe_16, hX.1, hX1n, e1, x_sheet1 hX1 hq, if_neg (ss51 q), if_neg s7, if_neg c0, if_pos c1, ex, if_neg hr], by simp only [fX8_row, zokM_0, zokM_1, zokM_2, zokM_3, zokM_4, zokM_5, zokM_6, zokM_7, zokM_8, zokM_9, zokM_10, zokM_11, zokM_12, zokM_13, zokM_14, zokM_15, zlaM_1, zlaM_2, zlaM_3, zlaM_4, zlaM_5, zlaM_6, zlaM_7, zlaM_8, zlaM_9, zlaM_10, zlaM_11, zlaM_12, zlaM_13, zlaM_14, zlaM_15, zp_1, zp_h, zp_r, zp_l, zletE, obs, spMe_0, spMe_1, spMe_2, spMe_3, spMe_4, spMe_5, spMe_6, spMe_7, spMe_8, spMe_9, spMe_10, spMe_11, spMe_12, spMe_13, spMe_14, spMe_15, hM.1, m_sheet1 M hq, if_neg n10, one, hin, em, if_neg hr], hI1⟩
        · obtain ⟨Ma, ea, ea1, ea2, ea3⟩ := m_aside 20 0 zF M hM rfl (by decide)
          have ea' : fX8_laysAside 0 M = some ((), Ma) := ea
          have hTa := hT.aside ⟨ea1, ea2, ea3⟩
          obtain ⟨X', M', s', h', sp', l, gi, mi, jy, pd, a1, a2, a3, a4, hT', hx', hm', hg'⟩ := go Ma hTa (fun o i ho => by rw [ea3, if_neg (by omega), if_neg (by omega)])
          have hM' := hT'.2.2.2.2.1
          obtain ⟨M3, b1, b2⟩ := laid (p := p) (M := M) (M1 := Ma) (M2 := M') ⟨ea1, ea2, ea3⟩ ⟨a4.1, a4.2.1, fun o i => by
            rcases a4.2.2 o i with z | z | z
            · exact Or.inl ⟨z.1, Or.inr z.2⟩
            · exact Or.inr (Or.inl z)
            · exact Or.inr (Or.inr z)⟩ (show p < 5 by omega) hM'
          have hX'n := hT'.2.1.1
          have hM'n := hM'.1
          have han := hTa.2.2.2.2.1.1
          have hI' := hI1.keep a3.c b2
          have back : ∀ v, fX8_row_j115 0 v M' = some (v, M3) := fun v => by simp only [fX8_row_j115, zokM_0, zokM_1, zokM_2, zokM_3, zokM_4, zokM_5, zokM_6, zokM_7, zokM_8, zokM_9, zokM_10, zokM_11, zokM_12, zokM_13, zokM_14, zokM_15, zlaM_1, zlaM_2, zlaM_3, zlaM_4, zlaM_5, zlaM_6, zlaM_7, zlaM_8, zlaM_9, zlaM_10, zlaM_11, zlaM_12, zlaM_13, zlaM_14, zlaM_15, zp_1, zp_h, zp_r, zp_l, zletE, obs, spMe_0, spMe_1, spMe_2, spMe_3, spMe_4, spMe_5, spMe_6, spMe_7, spMe_8, spMe_9, spMe_10, spMe_11, spMe_12, spMe_13, spMe_14, spMe_15, hM'n, b1]
          obtain ⟨x1, x2, x3, x4, x5⟩ := hx'
          obtain ⟨m1, m2, m3, m4⟩ := hm'
          obtain ⟨-, -, hP', x7', -, hQ', -, -, -⟩ := hT'
          have r10 : M'.2.2.2 0 10 = some 6 := hM'.r (by decide) (by decide)
          rcases (show j = 0 ∨ j = 1 ∨ j = 2 ∨ j = 3 ∨ j = 4 ∨ j = 5 by omega) with rfl | rfl | rfl | rfl | rfl | rfl
          · exact ⟨l, X', M3, by simp only [fX7_row, zokX_0, zokX_1, zokX_2, zokX_3, zokX_4, zokX_5, zokX_6, zokX_7, zokX_8, zokX_9, zokX_10, zokX_11, zokX_12, zokX_13, zokX_14, zokX_15, zokX_16, zlaX_1, zlaX_2, zlaX_3, zlaX_4, zlaX_5, zlaX_6, zlaX_8, zlaX_11, zlaX_12, zlaX_13, zlaX_15, zlaX_16, zp_1, zp_h, zp_r, zp_l, zletE, obs, spXe_0, spXe_1, spXe_2, spXe_3, spXe_4, spXe_5, spXe_6, spXe_7, spXe_8, spXe_9, spXe_10, spXe_11, spXe_12, spXe_13, spXe_14, spXe_15, spXe_16, hX.1, hX1n, hX'n, e1, x_sheet1 hX1 hq, if_neg (ss51 q), if_neg s7, if_neg c0, if_pos c1, ex, if_true, a1, if_pos (show nI 0 = (0 : Int32) from rfl), x1], by simp only [fX8_row, zokM_0, zokM_1, zokM_2, zokM_3, zokM_4, zokM_5, zokM_6, zokM_7, zokM_8, zokM_9, zokM_10, zokM_11, zokM_12, zokM_13, zokM_14, zokM_15, zlaM_1, zlaM_2, zlaM_3, zlaM_4, zlaM_5, zlaM_6, zlaM_7, zlaM_8, zlaM_9, zlaM_10, zlaM_11, zlaM_12, zlaM_13, zlaM_14, zlaM_15, zp_1, zp_h, zp_r, zp_l, zletE, obs, spMe_0, spMe_1, spMe_2, spMe_3, spMe_4, spMe_5, spMe_6, spMe_7, spMe_8, spMe_9, spMe_10, spMe_11, spMe_12, spMe_13, spMe_14, spMe_15, hM.1, han, hM'n, m_sheet1 M hq, if_neg n10, one, hin, em, if_true, ea', a2, if_pos (show nI 0 = (0 : Int32) from rfl), back, m1], hI'⟩
          · have z0 : ¬ nI 1 = (0 : Int32) := by decide
            exact ⟨nI mi, X', M3, by simp only [fX7_row, zokX_0, zokX_1, zokX_2, zokX_3, zokX_4, zokX_5, zokX_6, zokX_7, zokX_8, zokX_9, zokX_10, zokX_11, zokX_12, zokX_13, zokX_14, zokX_15, zokX_16, zlaX_1, zlaX_2, zlaX_3, zlaX_4, zlaX_5, zlaX_6, zlaX_8, zlaX_11, zlaX_12, zlaX_13, zlaX_15, zlaX_16, zp_1, zp_h, zp_r, zp_l, zletE, obs, spXe_0, spXe_1, spXe_2, spXe_3, spXe_4, spXe_5, spXe_6, spXe_7, spXe_8, spXe_9, spXe_10, spXe_11, spXe_12, spXe_13, spXe_14, spXe_15, spXe_16, hX.1, hX1n, hX'n, e1, x_sheet1 hX1 hq, if_neg (ss51 q), if_neg s7, if_neg c0, if_pos c1, ex, if_true, a1, if_neg z0, if_pos (show nI 1 = (1 : Int32) from rfl), x3], by simp only [fX8_row, zokM_0, zokM_1, zokM_2, zokM_3, zokM_4, zokM_5, zokM_6, zokM_7, zokM_8, zokM_9, zokM_10, zokM_11, zokM_12, zokM_13, zokM_14, zokM_15, zlaM_1, zlaM_2, zlaM_3, zlaM_4, zlaM_5, zlaM_6, zlaM_7, zlaM_8, zlaM_9, zlaM_10, zlaM_11, zlaM_12, zlaM_13, zlaM_14, zlaM_15, zp_1, zp_h, zp_r, zp_l, zletE, obs, spMe_0, spMe_1, spMe_2, spMe_3, spMe_4, spMe_5, spMe_6, spMe_7, spMe_8, spMe_9, spMe_10, spMe_11, spMe_12, spMe_13, spMe_14, spMe_15, hM.1, han, hM'n, m_sheet1 M hq, if_neg n10, one, hin, em, if_true, ea', a2, if_neg z0, if_pos (show nI 1 = (1 : Int32) from rfl), back, m2], hI'⟩
          · have z0 : ¬ nI 2 = (0 : Int32) := by decide
            have z1 : ¬ nI 2 = (1 : Int32) := by decide
            exact ⟨jy, X', M3, by simp only [fX7_row, zokX_0, zokX_1, zokX_2, zokX_3, zokX_4, zokX_5, zokX_6, zokX_7, zokX_8, zokX_9, zokX_10, zokX_11, zokX_12, zokX_13, zokX_14, zokX_15, zokX_16, zlaX_1, zlaX_2, zlaX_3, zlaX_4, zlaX_5, zlaX_6, zlaX_8, zlaX_11, zlaX_12, zlaX_13, zlaX_15, zlaX_16, zp_1, zp_h, zp_r, zp_l, zletE, obs, spXe_0, spXe_1, spXe_2, spXe_3, spXe_4, spXe_5, spXe_6, spXe_7, spXe_8, spXe_9, spXe_10, spXe_11, spXe_12, spXe_13, spXe_14, spXe_15, spXe_16, hX.1, hX1n, hX'n, e1, x_sheet1 hX1 hq, if_neg (ss51 q), if_neg s7, if_neg c0, if_pos c1, ex, if_true, a1, if_neg z0, if_neg z1, if_pos (show nI 2 = (2 : Int32) from rfl), x4], by simp only [fX8_row, zokM_0, zokM_1, zokM_2, zokM_3, zokM_4, zokM_5, zokM_6, zokM_7, zokM_8, zokM_9, zokM_10, zokM_11, zokM_12, zokM_13, zokM_14, zokM_15, zlaM_1, zlaM_2, zlaM_3, zlaM_4, zlaM_5, zlaM_6, zlaM_7, zlaM_8, zlaM_9, zlaM_10, zlaM_11, zlaM_12, zlaM_13, zlaM_14, zlaM_15, zp_1, zp_h, zp_r, zp_l, zletE, obs, spMe_0, spMe_1, spMe_2, spMe_3, spMe_4, spMe_5, spMe_6, spMe_7, spMe_8, spMe_9, spMe_10, spMe_11, spMe_12, spMe_13, spMe_14, spMe_15, hM.1, han, hM'n, m_sheet1 M hq, if_neg n10, one, hin, em, if_true, ea', a2, if_neg z0, if_neg z1, if_pos (show nI 2 = (2 : Int32) from rfl), back, m3], hI'⟩
          · have z0 : ¬ nI 3 = (0 : Int32) := by decide
            have z1 : ¬ nI 3 = (1 : Int32) := by decide
            have z2 : ¬ nI 3 = (2 : Int32) := by decide
            exact ⟨pd, X', M3, by simp only [fX7_row, zokX_0, zokX_1, zokX_2, zokX_3, zokX_4, zokX_5, zokX_6, zokX_7, zokX_8, zokX_9, zokX_10, zokX_11, zokX_12, zokX_13, zokX_14, zokX_15, zokX_16, zlaX_1, zlaX_2, zlaX_3, zlaX_4, zlaX_5, zlaX_6, zlaX_8, zlaX_11, zlaX_12, zlaX_13, zlaX_15, zlaX_16, zp_1, zp_h, zp_r, zp_l, zletE, obs, spXe_0, spXe_1, spXe_2, spXe_3, spXe_4, spXe_5, spXe_6, spXe_7, spXe_8, spXe_9, spXe_10, spXe_11, spXe_12, spXe_13, spXe_14, spXe_15, spXe_16, hX.1, hX1n, hX'n, e1, x_sheet1 hX1 hq, if_neg (ss51 q), if_neg s7, if_neg c0, if_pos c1, ex, if_true, a1, if_neg z0, if_neg z1, if_neg z2, if_pos (show nI 3 = (3 : Int32) from rfl), x5], by simp only [fX8_row, zokM_0, zokM_1, zokM_2, zokM_3, zokM_4, zokM_5, zokM_6, zokM_7, zokM_8, zokM_9, zokM_10, zokM_11, zokM_12, zokM_13, zokM_14, zokM_15, zlaM_1, zlaM_2, zlaM_3, zlaM_4, zlaM_5, zlaM_6, zlaM_7, zlaM_8, zlaM_9, zlaM_10, zlaM_11, zlaM_12, zlaM_13, zlaM_14, zlaM_15, zp_1, zp_h, zp_r, zp_l, zletE, obs, spMe_0, spMe_1, spMe_2, spMe_3, spMe_4, spMe_5, spMe_6, spMe_7, spMe_8, spMe_9, spMe_10, spMe_11, spMe_12, spMe_13, spMe_14, spMe_15, hM.1, han, hM'n, m_sheet1 M hq, if_neg n10, one, hin, em, if_true, ea', a2, if_neg z0, if_neg z1, if_neg z2, if_pos (show nI 3 = (3 : Int32) from rfl), back, m4], hI'⟩
          · have z0 : ¬ nI 4 = (0 : Int32) := by decide
            have z1 : ¬ nI 4 = (1 : Int32) := by decide
            have z2 : ¬ nI 4 = (2 : Int32) := by decide
            have z3 : ¬ nI 4 = (3 : Int32) := by decide
            have ix : (4 : Int32) * nI p + nI 4 - 3 = nI (4 * p + 1) := by
              rw [idx4]
              show nI (4 * p + 4) - nI 3 = _
              rw [pk_sub (by omega), show 4 * p + 4 - 3 = 4 * p + 1 by omega]
            have zz : zix spM 6 (nI (4 * p + 1)) = some (4 * p + 1) := zix_of rfl (by show 4 * p + 1 < 20; omega) (by decide)
            exact ⟨nI s', X', M3, by simp only [fX7_row, zokX_0, zokX_1, zokX_2, zokX_3, zokX_4, zokX_5, zokX_6, zokX_7, zokX_8, zokX_9, zokX_10, zokX_11, zokX_12, zokX_13, zokX_14, zokX_15, zokX_16, zlaX_1, zlaX_2, zlaX_3, zlaX_4, zlaX_5, zlaX_6, zlaX_8, zlaX_11, zlaX_12, zlaX_13, zlaX_15, zlaX_16, zp_1, zp_h, zp_r, zp_l, zletE, obs, spXe_0, spXe_1, spXe_2, spXe_3, spXe_4, spXe_5, spXe_6, spXe_7, spXe_8, spXe_9, spXe_10, spXe_11, spXe_12, spXe_13, spXe_14, spXe_15, spXe_16, hX.1, hX1n, hX'n, e1, x_sheet1 hX1 hq, if_neg (ss51 q), if_neg s7, if_neg c0, if_pos c1, ex, if_true, a1, if_neg z0, if_neg z1, if_neg z2, if_neg z3, if_pos (show nI 4 = (4 : Int32) from rfl), hP'.2.2.2.1], by simp only [fX8_row, zokM_0, zokM_1, zokM_2, zokM_3, zokM_4, zokM_5, zokM_6, zokM_7, zokM_8, zokM_9, zokM_10, zokM_11, zokM_12, zokM_13, zokM_14, zokM_15, zlaM_1, zlaM_2, zlaM_3, zlaM_4, zlaM_5, zlaM_6, zlaM_7, zlaM_8, zlaM_9, zlaM_10, zlaM_11, zlaM_12, zlaM_13, zlaM_14, zlaM_15, zp_1, zp_h, zp_r, zp_l, zletE, obs, spMe_0, spMe_1, spMe_2, spMe_3, spMe_4, spMe_5, spMe_6, spMe_7, spMe_8, spMe_9, spMe_10, spMe_11, spMe_12, spMe_13, spMe_14, spMe_15, hM.1, han, hM'n, m_sheet1 M hq, if_neg n10, one, hin, em, if_true, ea', a2, if_neg z0, if_neg z1, if_neg z2, if_neg z3, r10, ix, zz, back, hQ'.2.2.2.2.2.2.1], hI'⟩
          · have z0 : ¬ nI 5 = (0 : Int32) := by decide
            have z1 : ¬ nI 5 = (1 : Int32) := by decide
            have z2 : ¬ nI 5 = (2 : Int32) := by decide
            have z3 : ¬ nI 5 = (3 : Int32) := by decide
            have z4 : ¬ nI 5 = (4 : Int32) := by decide
            have ix : (4 : Int32) * nI p + nI 5 - 3 = nI (4 * p + 2) := by
              rw [idx4]
              show nI (4 * p + 5) - nI 3 = _
              rw [pk_sub (by omega), show 4 * p + 5 - 3 = 4 * p + 2 by omega]
            have zz : zix spM 6 (nI (4 * p + 2)) = some (4 * p + 2) := zix_of rfl (by show 4 * p + 2 < 20; omega) (by decide)
            exact ⟨nI h', X', M3, by simp only [fX7_row, zokX_0, zokX_1, zokX_2, zokX_3, zokX_4, zokX_5, zokX_6, zokX_7, zokX_8, zokX_9, zokX_10, zokX_11, zokX_12, zokX_13, zokX_14, zokX_15, zokX_16, zlaX_1, zlaX_2, zlaX_3, zlaX_4, zlaX_5, zlaX_6, zlaX_8, zlaX_11, zlaX_12, zlaX_13, zlaX_15, zlaX_16, zp_1, zp_h, zp_r, zp_l, zletE, obs, spXe_0, spXe_1, spXe_2, spXe_3, spXe_4, spXe_5, spXe_6, spXe_7, spXe_8, spXe_9, spXe_10, spXe_11, spXe_12, spXe_13, spXe_14, spXe_15, spXe_16, hX.1, hX1n, hX'n, e1, x_sheet1 hX1 hq, if_neg (ss51 q), if_neg s7, if_neg c0, if_pos c1, ex, if_true, a1, if_neg z0, if_neg z1, if_neg z2, if_neg z3, if_neg z4, hP'.2.2.2.2.1], by simp only [fX8_row, zokM_0, zokM_1, zokM_2, zokM_3, zokM_4, zokM_5, zokM_6, zokM_7, zokM_8, zokM_9, zokM_10, zokM_11, zokM_12, zokM_13, zokM_14, zokM_15, zlaM_1, zlaM_2, zlaM_3, zlaM_4, zlaM_5, zlaM_6, zlaM_7, zlaM_8, zlaM_9, zlaM_10, zlaM_11, zlaM_12, zlaM_13, zlaM_14, zlaM_15, zp_1, zp_h, zp_r, zp_l, zletE, obs, spMe_0, spMe_1, spMe_2, spMe_3, spMe_4, spMe_5, spMe_6, spMe_7, spMe_8, spMe_9, spMe_10, spMe_11, spMe_12, spMe_13, spMe_14, spMe_15, hM.1, han, hM'n, m_sheet1 M hq, if_neg n10, one, hin, em, if_true, ea', a2, if_neg z0, if_neg z1, if_neg z2, if_neg z3, r10, ix, zz, back, hQ'.2.2.2.2.2.2.2.1], hI'⟩
/-- the THING that a SEED draws -/
def drN (z : Int32) : Nat := z.toBitVec.toNat / 2 ^ 9 % 12
theorem dr_eq (z : Int32) : (1 : Int32) <<< ((((z.toUInt32 >>> ((9 : Int32).toUInt32 &&& Int32.toUInt32 31)).toInt32) - ((z.toUInt32 >>> ((9 : Int32).toUInt32 &&& Int32.toUInt32 31)).toInt32) / (12 : Int32) * (12 : Int32)) &&& 31) = nI (2 ^ drN z) := by
  have hz : z.toBitVec.toNat < 2 ^ 32 := z.toBitVec.isLt
  have e1 : (z.toUInt32 >>> ((9 : Int32).toUInt32 &&& Int32.toUInt32 31)).toInt32 = nI (z.toBitVec.toNat / 2 ^ 9) := by
    have h := pk_ushrN hz 9 9 (by decide)
    rw [← i_self] at h
    exact h
  have e2 : nI (z.toBitVec.toNat / 2 ^ 9) - nI (z.toBitVec.toNat / 2 ^ 9) / (12 : Int32) * (12 : Int32) = nI (drN z) := pk_rem (d := 12) (by omega) (by decide) (by decide)
  rw [e1, e2]
  exact n_shl1 (by unfold drN; omega)
theorem dr_lt (z : Int32) : drN z < 12 := Nat.mod_lt _ (by decide)
/-- all that askings that are drawn may change -/
def frU (p : Nat) (M M' : zS) : Prop := M'.1 = M.1 ∧ M'.2.2.2 = M.2.2.2 ∧ ∀ o k, (o = 0 ∧ (k = 7 ∨ (13 ≤ k ∧ k ≤ 38 ∧ k ≠ 31))) ∨ (o = 6 ∧ 4 * p + 1 ≤ k ∧ k ≤ 4 * p + 3) ∨ M'.2.1 o k = M.2.1 o k
theorem frU.tr {p : Nat} {X Y Z : zS} (h : frU p X Y) (g : frU p Y Z) : frU p X Z := ⟨g.1.trans h.1, g.2.1.trans h.2.1, fun o k => by
  rcases h.2.2 o k with a | a | a
  · exact Or.inl a
  · exact Or.inr (Or.inl a)
  · rcases g.2.2 o k with b | b | b
    · exact Or.inl b
    · exact Or.inr (Or.inl b)
    · exact Or.inr (Or.inr (b.trans a))⟩
theorem frB.u {p : Nat} {M M1 : zS} (h : frB p M M1) (v : Int32) : frU p M (zp M1 0 7 v) := ⟨h.1, h.2.1, fun o k => by
  rcases h.2.2 o k with a | a | a
  · exact Or.inl ⟨a.1, Or.inr ⟨a.2.1, by omega, by omega⟩⟩
  · exact Or.inr (Or.inl a)
  · by_cases e : o = 0 ∧ k = 7
    · exact Or.inl ⟨e.1, Or.inl e.2⟩
    · exact Or.inr (Or.inr (by rw [zp_h, if_neg e]; exact a))⟩
theorem draw_loop {p n0 q : Nat} {L : Nat → Nat} {k nu nh t : Nat} {F : Nat → (Nat → Int32) → Int32} : ∀ (m j n n' : Nat) (X M : zS) (z : Int32) (s h d sp : Nat) (a10 a11 a12 a13 a14 : Int32), j + m = q → m < n → m < n' → q ≤ 40 → d + m ≤ 2000 → Th X M p n0 L k nu s h nh d t sp F → acX X a10 a11 a12 a13 a14 → ∃ X' M' r, r ≤ 12 ∧ fX7_hadByDrawing_L5 n (some 7) (nI q) z (nI j) X = some (nI r, X') ∧ fX8_hadDrawn_L10 0 n' (nI p) (nI q) z (nI j) M = (fX8_laysBack 0 M').bind (fun q6 => some (nI r, q6.2)) ∧ frA X X' ∧ frU p M M' ∧ shM M'
  | m, j, 0, n', _, _, _, _, _, _, _, _, _, _, _, _, _, h, _, _, _, _, _ => by omega
  | m, j, n, 0, _, _, _, _, _, _, _, _, _, _, _, _, _, _, h, _, _, _, _ => by omega
  | 0, j, n + 1, n' + 1, X, M, z, s, h, d, sp, a10, a11, a12, a13, a14, e, _, _, hq, _, hT, _ => by
    obtain ⟨hV, hX, hP, h7, hM, hQ, hR, hq', hsp⟩ := hT
    have hh : h ≤ 4095 := hV.2.2.2.2.1
    have c : nI q ≤ nI j := nI_le (by omega) (by omega)
    have r10 : M.2.2.2 0 10 = some 6 := hM.r (by decide) (by decide)
    have i2 : (4 : Int32) * nI p + 2 = nI (4 * p + 2) := idx4 p 2
    have z2 : zix spM 6 (nI (4 * p + 2)) = some (4 * p + 2) := zix_of rfl (by show 4 * p + 2 < 20; have := hQ.2.1; have := hQ.2.2.1; omega) (by decide)
    refine ⟨X, M, pc h, pc_le h, ?_, ?_, frA.rf X, ⟨rfl, rfl, fun _ _ => Or.inr (Or.inr rfl)⟩, hM⟩
    · simp only [fX7_hadByDrawing_L5, zokX_0, zokX_1, zokX_2, zokX_3, zokX_4, zokX_5, zokX_6, zokX_7, zokX_8, zokX_9, zokX_10, zokX_11, zokX_12, zokX_13, zokX_14, zokX_15, zokX_16, zlaX_1, zlaX_2, zlaX_3, zlaX_4, zlaX_5, zlaX_6, zlaX_8, zlaX_11, zlaX_12, zlaX_13, zlaX_15, zlaX_16, zp_1, zp_h, zp_r, zp_l, zletE, obs, spXe_0, spXe_1, spXe_2, spXe_3, spXe_4, spXe_5, spXe_6, spXe_7, spXe_8, spXe_9, spXe_10, spXe_11, spXe_12, spXe_13, spXe_14, spXe_15, spXe_16, hX.1, if_pos c, hP.2.2.2.2.1, x_bits hh]
    · simp only [fX8_hadDrawn_L10, zokM_0, zokM_1, zokM_2, zokM_3, zokM_4, zokM_5, zokM_6, zokM_7, zokM_8, zokM_9, zokM_10, zokM_11, zokM_12, zokM_13, zokM_14, zokM_15, zlaM_1, zlaM_2, zlaM_3, zlaM_4, zlaM_5, zlaM_6, zlaM_7, zlaM_8, zlaM_9, zlaM_10, zlaM_11, zlaM_12, zlaM_13, zlaM_14, zlaM_15, zp_1, zp_h, zp_r, zp_l, zletE, obs, spMe_0, spMe_1, spMe_2, spMe_3, spMe_4, spMe_5, spMe_6, spMe_7, spMe_8, spMe_9, spMe_10, spMe_11, spMe_12, spMe_13, spMe_14, spMe_15, hM.1, if_pos c, r10, i2, z2, hQ.2.2.2.2.2.2.2.1, m_bits hh]
  | m + 1, j, n + 1, n' + 1, X, M, z, s, h, d, sp, a10, a11, a12, a13, a14, e, hn, hn', hq, hd, hT, hac => by
    have hX := hT.2.1
    have hM := hT.2.2.2.2.1
    have c : ¬ nI q ≤ nI j := nI_ge (by omega) (by omega)
    have d12 : ¬ (12 : Int32) = 0 := by decide
    obtain ⟨X1, M1, s', h', sp', g, gl, cc, e1, e2, f1, f2, hT1, m28, m29, hac1⟩ := th_step hT hac (p2_le (dr_lt (z * 1103515245 + 12345)))
    have hX1n := hT1.2.1.1
    have hM1n := hT1.2.2.2.2.1.1
    have d9 := hT1.2.2.1.2.2.2.2.2.2.1
    have d7 := hT1.2.2.2.2.2.1.2.2.2.2.2.2.2.2.1
    have hT2 := hT1.day (show d + 1 ≤ 2000 by omega)
    have hac2 : ∃ b10 b11 b12 b13 b14, acX (zp X1 7 9 (nI (d + 1))) b10 b11 b12 b13 b14 := ⟨_, _, _, _, _, rfl, rfl, rfl, rfl, rfl⟩
    obtain ⟨b10, b11, b12, b13, b14, hac3⟩ := hac2
    obtain ⟨X', M', r, hr, x1, x2, x3, x4, x5⟩ := draw_loop m (j + 1) n n' _ _ (z * 1103515245 + 12345) s' h' (d + 1) sp' b10 b11 b12 b13 b14 (by omega) (by omega) (by omega) hq (by omega) hT2 hac3
    refine ⟨X', M', r, hr, ?_, ?_, (f1.zp _ _).tr x3, (f2.u _).tr x4, x5⟩
    · simp only [fX7_hadByDrawing_L5, zokX_0, zokX_1, zokX_2, zokX_3, zokX_4, zokX_5, zokX_6, zokX_7, zokX_8, zokX_9, zokX_10, zokX_11, zokX_12, zokX_13, zokX_14, zokX_15, zokX_16, zlaX_1, zlaX_2, zlaX_3, zlaX_4, zlaX_5, zlaX_6, zlaX_8, zlaX_11, zlaX_12, zlaX_13, zlaX_15, zlaX_16, zp_1, zp_h, zp_r, zp_l, zletE, obs, spXe_0, spXe_1, spXe_2, spXe_3, spXe_4, spXe_5, spXe_6, spXe_7, spXe_8, spXe_9, spXe_10, spXe_11, spXe_12, spXe_13, spXe_14, spXe_15, spXe_16, hX.1, hX1n, if_neg c, if_neg d12, dr_eq, e1, d9, nI_1]
      exact x1
    · simp only [fX8_hadDrawn_L10, zokM_0, zokM_1, zokM_2, zokM_3, zokM_4, zokM_5, zokM_6, zokM_7, zokM_8, zokM_9, zokM_10, zokM_11, zokM_12, zokM_13, zokM_14, zokM_15, zlaM_1, zlaM_2, zlaM_3, zlaM_4, zlaM_5, zlaM_6, zlaM_7, zlaM_8, zlaM_9, zlaM_10, zlaM_11, zlaM_12, zlaM_13, zlaM_14, zlaM_15, zp_1, zp_h, zp_r, zp_l, zletE, obs, spMe_0, spMe_1, spMe_2, spMe_3, spMe_4, spMe_5, spMe_6, spMe_7, spMe_8, spMe_9, spMe_10, spMe_11, spMe_12, spMe_13, spMe_14, spMe_15, hM.1, hM1n, if_neg c, if_neg d12, dr_eq, e2, d7, nI_1]
      exact x2
theorem had_both {X M : zS} {p n0 q : Nat} {L : Nat → Nat} {k nu s h nh d t sp : Nat} {F : Nat → (Nat → Int32) → Int32} (hT : Th X M p n0 L k nu s h nh d t sp F) {a10 a11 a12 a13 a14 : Int32} (hac : acX X a10 a11 a12 a13 a14) (hq : q ≤ 40) (hd : d ≤ 999) (z : Int32) : ∃ r X' M', r ≤ 12 ∧ fX7_hadByDrawing (some 7) z (nI q) X = some (nI r, X') ∧ fX8_hadDrawn 0 z (nI p) (nI q) M = some (nI r, M') ∧ frA X X' ∧ frN M M' := by
  have hM := hT.2.2.2.2.1
  obtain ⟨Ma, ea, ea1, ea2, ea3⟩ := m_aside 20 0 zF M hM rfl (by decide)
  have ea' : fX8_laysAside 0 M = some ((), Ma) := ea
  have hTa := hT.aside ⟨ea1, ea2, ea3⟩
  have hp5 : p < 5 := by have := hT.2.2.2.2.2.1.2.1; have := hT.2.2.2.2.2.1.2.2.1; omega
  obtain ⟨X', M', r, hr, x1, x2, x3, x4, x5⟩ := draw_loop (q := q) q 0 zF zF X Ma z s h d sp a10 a11 a12 a13 a14 (by omega) (by show q < 5000; omega) (by show q < 5000; omega) hq (by omega) hTa hac
  obtain ⟨M3, b1, b2⟩ := laid (p := p) (M := M) (M1 := Ma) (M2 := M') ⟨ea1, ea2, ea3⟩ x4 hp5 x5
  refine ⟨r, X', M3, hr, x1, ?_, x3, b2⟩
  have x2' : fX8_hadDrawn_L10 0 zF (nI p) (nI q) z 0 Ma = _ := x2
  have han := hTa.2.2.2.2.1.1
  simp only [fX8_hadDrawn, zokM_0, zokM_1, zokM_2, zokM_3, zokM_4, zokM_5, zokM_6, zokM_7, zokM_8, zokM_9, zokM_10, zokM_11, zokM_12, zokM_13, zokM_14, zokM_15, zlaM_1, zlaM_2, zlaM_3, zlaM_4, zlaM_5, zlaM_6, zlaM_7, zlaM_8, zlaM_9, zlaM_10, zlaM_11, zlaM_12, zlaM_13, zlaM_14, zlaM_15, zp_1, zp_h, zp_r, zp_l, zletE, obs, spMe_0, spMe_1, spMe_2, spMe_3, spMe_4, spMe_5, spMe_6, spMe_7, spMe_8, spMe_9, spMe_10, spMe_11, spMe_12, spMe_13, spMe_14, spMe_15, hM.1, ea', x2', b1]
theorem t_drawn (z b w : Int32) : TM2 Inv (fun st => fX7_drawn 0 z b w st) (fun st => fX8_drawn 0 z b w st) := by
  intro X M h
  obtain ⟨n, hn5, hnX, hnM⟩ := many_of h.2.2.1
  have hX := h.1.1
  have hM := h.1.2
  have l40 : (40 : Int64) = (nI 40).toInt64 := by decide
  rcases one_cases n (by omega) b with hb | ⟨p, hp, rfl⟩
  · exact ⟨-2, X, M, by simp only [fX7_drawn, zokX_0, zokX_1, zokX_2, zokX_3, zokX_4, zokX_5, zokX_6, zokX_7, zokX_8, zokX_9, zokX_10, zokX_11, zokX_12, zokX_13, zokX_14, zokX_15, zokX_16, zlaX_1, zlaX_2, zlaX_3, zlaX_4, zlaX_5, zlaX_6, zlaX_8, zlaX_11, zlaX_12, zlaX_13, zlaX_15, zlaX_16, zp_1, zp_h, zp_r, zp_l, zletE, obs, spXe_0, spXe_1, spXe_2, spXe_3, spXe_4, spXe_5, spXe_6, spXe_7, spXe_8, spXe_9, spXe_10, spXe_11, spXe_12, spXe_13, spXe_14, spXe_15, spXe_16, hX.1, x_visit0 hX hnX hb, if_true], by simp only [fX8_drawn, fX8_drawn_j30, zokM_0, zokM_1, zokM_2, zokM_3, zokM_4, zokM_5, zokM_6, zokM_7, zokM_8, zokM_9, zokM_10, zokM_11, zokM_12, zokM_13, zokM_14, zokM_15, zlaM_1, zlaM_2, zlaM_3, zlaM_4, zlaM_5, zlaM_6, zlaM_7, zlaM_8, zlaM_9, zlaM_10, zlaM_11, zlaM_12, zlaM_13, zlaM_14, zlaM_15, zp_1, zp_h, zp_r, zp_l, zletE, obs, spMe_0, spMe_1, spMe_2, spMe_3, spMe_4, spMe_5, spMe_6, spMe_7, spMe_8, spMe_9, spMe_10, spMe_11, spMe_12, spMe_13, spMe_14, spMe_15, hM.1, m_one0 hM hnM hn5 hb, if_true], h⟩
  · obtain ⟨k, nu, s, hd, nh, d, t, sp, F, hV, hd9, hsp, hPM, hRM, hq', X1, e1, f1, hPX, h77, hac⟩ := view_of h hn5 hnX hnM hp
    have hX1 := f1.sh hX
    have hI1 := h.keep f1 (frN.rf M)
    have one := m_one1 hM hnM hn5 hp
    rcases one_cases 41 (by decide) w with hw | ⟨q, hq, rfl⟩
    · refine ⟨-2, X1, M, ?_, by simp only [fX8_drawn, fX8_drawn_j30, zokM_0, zokM_1, zokM_2, zokM_3, zokM_4, zokM_5, zokM_6, zokM_7, zokM_8, zokM_9, zokM_10, zokM_11, zokM_12, zokM_13, zokM_14, zokM_15, zlaM_1, zlaM_2, zlaM_3, zlaM_4, zlaM_5, zlaM_6, zlaM_7, zlaM_8, zlaM_9, zlaM_10, zlaM_11, zlaM_12, zlaM_13, zlaM_14, zlaM_15, zp_1, zp_h, zp_r, zp_l, zletE, obs, spMe_0, spMe_1, spMe_2, spMe_3, spMe_4, spMe_5, spMe_6, spMe_7, spMe_8, spMe_9, spMe_10, spMe_11, spMe_12, spMe_13, spMe_14, spMe_15, hM.1, one, if_neg n10, m_in0 40 (by decide) l40 hw, if_true], hI1⟩
      by_cases c0 : w < 0
      · simp only [fX7_drawn, zokX_0, zokX_1, zokX_2, zokX_3, zokX_4, zokX_5, zokX_6, zokX_7, zokX_8, zokX_9, zokX_10, zokX_11, zokX_12, zokX_13, zokX_14, zokX_15, zokX_16, zlaX_1, zlaX_2, zlaX_3, zlaX_4, zlaX_5, zlaX_6, zlaX_8, zlaX_11, zlaX_12, zlaX_13, zlaX_15, zlaX_16, zp_1, zp_h, zp_r, zp_l, zletE, obs, spXe_0, spXe_1, spXe_2, spXe_3, spXe_4, spXe_5, spXe_6, spXe_7, spXe_8, spXe_9, spXe_10, spXe_11, spXe_12, spXe_13, spXe_14, spXe_15, spXe_16, hX.1, e1, if_neg s7, if_pos c0]
      · have c1 : ¬ w ≤ 40 := Int32.not_le.mpr (Int32.lt_of_lt_of_le (nI_lt (a := 40) (b := 41) (by decide) (by decide)) (hw.resolve_left c0))
        simp only [fX7_drawn, zokX_0, zokX_1, zokX_2, zokX_3, zokX_4, zokX_5, zokX_6, zokX_7, zokX_8, zokX_9, zokX_10, zokX_11, zokX_12, zokX_13, zokX_14, zokX_15, zokX_16, zlaX_1, zlaX_2, zlaX_3, zlaX_4, zlaX_5, zlaX_6, zlaX_8, zlaX_11, zlaX_12, zlaX_13, zlaX_15, zlaX_16, zp_1, zp_h, zp_r, zp_l, zletE, obs, spXe_0, spXe_1, spXe_2, spXe_3, spXe_4, spXe_5, spXe_6, spXe_7, spXe_8, spXe_9, spXe_10, spXe_11, spXe_12, spXe_13, spXe_14, spXe_15, spXe_16, hX.1, e1, if_neg s7, if_neg c0, if_neg c1]
    · have c0 : ¬ nI q < 0 := nI_pos (by omega)
      have c1 : nI q ≤ (40 : Int32) := nI_le (b := 40) (by omega) (by decide)
      have hin := m_in1 40 (by decide) l40 hq M
      obtain ⟨r, X', M', hr, x1, x2, x3, x4⟩ := had_both (th_of hV hX1 hPX h77 hM hPM hRM hq' hsp) hac (show q ≤ 40 by omega) hd9 z
      exact ⟨nI r, X', M', by simp only [fX7_drawn, zokX_0, zokX_1, zokX_2, zokX_3, zokX_4, zokX_5, zokX_6, zokX_7, zokX_8, zokX_9, zokX_10, zokX_11, zokX_12, zokX_13, zokX_14, zokX_15, zokX_16, zlaX_1, zlaX_2, zlaX_3, zlaX_4, zlaX_5, zlaX_6, zlaX_8, zlaX_11, zlaX_12, zlaX_13, zlaX_15, zlaX_16, zp_1, zp_h, zp_r, zp_l, zletE, obs, spXe_0, spXe_1, spXe_2, spXe_3, spXe_4, spXe_5, spXe_6, spXe_7, spXe_8, spXe_9, spXe_10, spXe_11, spXe_12, spXe_13, spXe_14, spXe_15, spXe_16, hX.1, e1, if_neg s7, if_neg c0, if_pos c1, x1], by simp only [fX8_drawn, zokM_0, zokM_1, zokM_2, zokM_3, zokM_4, zokM_5, zokM_6, zokM_7, zokM_8, zokM_9, zokM_10, zokM_11, zokM_12, zokM_13, zokM_14, zokM_15, zlaM_1, zlaM_2, zlaM_3, zlaM_4, zlaM_5, zlaM_6, zlaM_7, zlaM_8, zlaM_9, zlaM_10, zlaM_11, zlaM_12, zlaM_13, zlaM_14, zlaM_15, zp_1, zp_h, zp_r, zp_l, zletE, obs, spMe_0, spMe_1, spMe_2, spMe_3, spMe_4, spMe_5, spMe_6, spMe_7, spMe_8, spMe_9, spMe_10, spMe_11, spMe_12, spMe_13, spMe_14, spMe_15, hM.1, one, if_neg n10, hin, x2], hI1.keep x3.c x4⟩
