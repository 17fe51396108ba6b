theorem one_cases (n : Nat) (hn : n < 2 ^ 31) (a : Int32) : (a < 0 ∨ nI n ≤ a) ∨ ∃ p, p < n ∧ a = nI p := by
  rcases cases_in a n hn with h | h | ⟨k, hk, e, -⟩
  · exact Or.inl (Or.inl h)
  · exact Or.inl (Or.inr h.1)
  · exact Or.inr ⟨k, hk, e⟩
theorem set_cases (a : Int32) : (a < 1 ∨ 4095 < a) ∨ ∃ st, 1 ≤ st ∧ st ≤ 4095 ∧ a = nI st := by
  rcases cases_in a 4096 (by decide) with h | h | ⟨k, hk, e, -⟩
  · refine Or.inl (Or.inl ?_)
    rw [Int32.lt_iff_toInt_lt] at h ⊢
    have h0 : (0 : Int32).toInt = 0 := by decide
    have h1 : (1 : Int32).toInt = 1 := by decide
    omega
  · exact Or.inl (Or.inr (Int32.lt_of_lt_of_le (nI_lt (a := 4095) (b := 4096) (by decide) (by decide)) h.1))
  · by_cases c : k = 0
    · subst c; exact Or.inl (Or.inl (by rw [e]; decide))
    · exact Or.inr ⟨k, by omega, by omega, e⟩
theorem x_isAsked0 {a : Int32} (h : a < 1 ∨ 4095 < a) (X : zS) : fX7_isAsked a X = some (0, X) := by
  by_cases c : a < 1
  · simp only [fX7_isAsked, fX7_isAsked_j16, if_pos c]
  · simp only [fX7_isAsked, fX7_isAsked_j16, if_neg c, if_pos (h.resolve_left c)]
theorem x_isAsked1 {st : Nat} (h1 : 1 ≤ st) (h2 : st ≤ 4095) (X : zS) : fX7_isAsked (nI st) X = some (1, X) := by
  have c : ¬ nI st < (1 : Int32) := nI_nlt (b := 1) h1 (by omega)
  have c2 : ¬ (4095 : Int32) < nI st := nI_nlt (a := 4095) h2 (by decide)
  simp only [fX7_isAsked, if_neg c, if_neg c2]
theorem l1 : (1 : Int64) = (1 : Int32).toInt64 := by decide
theorem l4095 : (4095 : Int64) = (4095 : Int32).toInt64 := by decide
theorem m_set0 {a : Int32} (h : a < 1 ∨ 4095 < a) (M : zS) : fX8_in a.toInt64 1 4095 M = some (0, M) := by
  rw [in_eq, l1, l4095]
  simp only [tl]
  by_cases c : a < 1
  · rw [if_pos c]
  · rw [if_neg c, if_pos (h.resolve_left c)]
theorem m_set1 {st : Nat} (h1 : 1 ≤ st) (h2 : st ≤ 4095) (M : zS) : fX8_in (nI st).toInt64 1 4095 M = some (1, M) := by
  have c : ¬ nI st < (1 : Int32) := nI_nlt (b := 1) h1 (by omega)
  have c2 : ¬ (4095 : Int32) < nI st := nI_nlt (a := 4095) h2 (by decide)
  rw [in_eq, l1, l4095]
  simp only [tl]
  rw [if_neg c, if_neg c2]
/-- a number 0 .. n - 1 told by which: the reference's in() -/
theorem m_in0 {a : Int32} (n : Nat) (hn : n + 1 < 2 ^ 31) {z : Int64} (hz : z = (nI n).toInt64) (h : a < 0 ∨ nI (n + 1) ≤ a) (M : zS) : fX8_in a.toInt64 0 z M = some (0, M) := by
  rw [in_1 a z (nI n) hz]
  by_cases c : a < 0
  · rw [if_pos c]
  · rw [if_neg c, if_pos (Int32.lt_of_lt_of_le (nI_lt (by omega) hn) (h.resolve_left c))]
theorem m_in1 {k : Nat} (n : Nat) (hn : n + 1 < 2 ^ 31) {z : Int64} (hz : z = (nI n).toInt64) (h : k < n + 1) (M : zS) : fX8_in (nI k).toInt64 0 z M = some (1, M) := by
  rw [in_1 (nI k) z (nI n) hz, if_neg (nI_pos (by omega)), if_neg (nI_nlt (by omega) (by omega))]
theorem n10 : ¬ (1 : Int32) = 0 := by decide
theorem s7 : ¬ (some 7 = (none : Option Nat)) := fun q => by cases q
set_option maxHeartbeats 1000000 in
theorem t_asks (a w v : Int32) : TM2 Inv (fun st => fX7_asks 0 a w v st) (fun st => fX8_asks 0 a w v st) := by
  intro X M h
  obtain ⟨n, hn5, hnX, hnM⟩ := many_of h.2.2.1
  have hX := h.1.1
  have hM := h.1.2
  rcases one_cases n (by omega) a with ha | ⟨p, hp, rfl⟩
  · exact ⟨-2, X, M, by simp only [fX7_asks, zokX_0, zokX_1, zokX_2, zokX_3, zokX_4, zokX_5, zokX_6, zokX_7, zokX_8, zokX_9, zokX_10, zokX_11, zokX_12, zokX_13, zokX_14, zokX_15, zokX_16, zlaX_1, zlaX_2, zlaX_3, zlaX_4, zlaX_5, zlaX_6, zlaX_8, zlaX_11, zlaX_12, zlaX_13, zlaX_15, zlaX_16, zp_1, zp_h, zp_r, zp_l, zletE, obs, spXe_0, spXe_1, spXe_2, spXe_3, spXe_4, spXe_5, spXe_6, spXe_7, spXe_8, spXe_9, spXe_10, spXe_11, spXe_12, spXe_13, spXe_14, spXe_15, spXe_16, hX.1, x_visit0 hX hnX ha, if_true], by simp only [fX8_asks, zokM_0, zokM_1, zokM_2, zokM_3, zokM_4, zokM_5, zokM_6, zokM_7, zokM_8, zokM_9, zokM_10, zokM_11, zokM_12, zokM_13, zokM_14, zokM_15, zlaM_1, zlaM_2, zlaM_3, zlaM_4, zlaM_5, zlaM_6, zlaM_7, zlaM_8, zlaM_9, zlaM_10, zlaM_11, zlaM_12, zlaM_13, zlaM_14, zlaM_15, zp_1, zp_h, zp_r, zp_l, zletE, obs, spMe_0, spMe_1, spMe_2, spMe_3, spMe_4, spMe_5, spMe_6, spMe_7, spMe_8, spMe_9, spMe_10, spMe_11, spMe_12, spMe_13, spMe_14, spMe_15, hM.1, m_one0 hM hnM hn5 ha, if_true], h⟩
  · obtain ⟨k, nu, s, hd, nh, d, t, sp, F, hV, hd9, hsp, hPM, hRM, hq, X1, e1, f1, hPX, h77, hac⟩ := view_of h hn5 hnX hnM hp
    have hX1 := f1.sh hX
    have one := m_one1 hM hnM hn5 hp
    rcases set_cases w with hw | ⟨st, s1, s2, rfl⟩
    · exact ⟨-2, X1, M, by simp only [fX7_asks, zokX_0, zokX_1, zokX_2, zokX_3, zokX_4, zokX_5, zokX_6, zokX_7, zokX_8, zokX_9, zokX_10, zokX_11, zokX_12, zokX_13, zokX_14, zokX_15, zokX_16, zlaX_1, zlaX_2, zlaX_3, zlaX_4, zlaX_5, zlaX_6, zlaX_8, zlaX_11, zlaX_12, zlaX_13, zlaX_15, zlaX_16, zp_1, zp_h, zp_r, zp_l, zletE, obs, spXe_0, spXe_1, spXe_2, spXe_3, spXe_4, spXe_5, spXe_6, spXe_7, spXe_8, spXe_9, spXe_10, spXe_11, spXe_12, spXe_13, spXe_14, spXe_15, spXe_16, hX.1, e1, if_neg s7, x_isAsked0 hw, if_true], by simp only [fX8_asks, zokM_0, zokM_1, zokM_2, zokM_3, zokM_4, zokM_5, zokM_6, zokM_7, zokM_8, zokM_9, zokM_10, zokM_11, zokM_12, zokM_13, zokM_14, zokM_15, zlaM_1, zlaM_2, zlaM_3, zlaM_4, zlaM_5, zlaM_6, zlaM_7, zlaM_8, zlaM_9, zlaM_10, zlaM_11, zlaM_12, zlaM_13, zlaM_14, zlaM_15, zp_1, zp_h, zp_r, zp_l, zletE, obs, spMe_0, spMe_1, spMe_2, spMe_3, spMe_4, spMe_5, spMe_6, spMe_7, spMe_8, spMe_9, spMe_10, spMe_11, spMe_12, spMe_13, spMe_14, spMe_15, hM.1, one, if_neg n10, m_set0 hw, if_true], h.keep f1 (frN.rf M)⟩
    · rcases one_cases 4 (by decide) v with hv | ⟨j, hj, rfl⟩
      · have q : ∀ j : Nat, j < 4 → ¬ v = nI j := fun j hj e => by
          rcases hv with hv | hv
          · exact nI_pos (n := j) (by omega) (e ▸ hv)
          · rw [e] at hv; exact nI_ge (b := 4) hj (by decide) hv
        have q0 : ¬ v = (0 : Int32) := q 0 (by decide)
        have q1 : ¬ v = (1 : Int32) := q 1 (by decide)
        have q2 : ¬ v = (2 : Int32) := q 2 (by decide)
        have q3 : ¬ v = (3 : Int32) := q 3 (by decide)
        exact ⟨-2, X1, M, by simp only [fX7_asks, zokX_0, zokX_1, zokX_2, zokX_3, zokX_4, zokX_5, zokX_6, zokX_7, zokX_8, zokX_9, zokX_10, zokX_11, zokX_12, zokX_13, zokX_14, zokX_15, zokX_16, zlaX_1, zlaX_2, zlaX_3, zlaX_4, zlaX_5, zlaX_6, zlaX_8, zlaX_11, zlaX_12, zlaX_13, zlaX_15, zlaX_16, zp_1, zp_h, zp_r, zp_l, zletE, obs, spXe_0, spXe_1, spXe_2, spXe_3, spXe_4, spXe_5, spXe_6, spXe_7, spXe_8, spXe_9, spXe_10, spXe_11, spXe_12, spXe_13, spXe_14, spXe_15, spXe_16, hX.1, e1, if_neg s7, x_isAsked1 s1 s2, if_neg n10, if_neg q0, if_neg q1, if_neg q2, if_neg q3], by simp only [fX8_asks, zokM_0, zokM_1, zokM_2, zokM_3, zokM_4, zokM_5, zokM_6, zokM_7, zokM_8, zokM_9, zokM_10, zokM_11, zokM_12, zokM_13, zokM_14, zokM_15, zlaM_1, zlaM_2, zlaM_3, zlaM_4, zlaM_5, zlaM_6, zlaM_7, zlaM_8, zlaM_9, zlaM_10, zlaM_11, zlaM_12, zlaM_13, zlaM_14, zlaM_15, zp_1, zp_h, zp_r, zp_l, zletE, obs, spMe_0, spMe_1, spMe_2, spMe_3, spMe_4, spMe_5, spMe_6, spMe_7, spMe_8, spMe_9, spMe_10, spMe_11, spMe_12, spMe_13, spMe_14, spMe_15, hM.1, one, if_neg n10, m_set1 s1 s2, m_in0 3 (by decide) (show (3 : Int64) = (nI 3).toInt64 by decide) hv, if_true], h.keep f1 (frN.rf M)⟩
      · have hin := m_in1 3 (by decide) (show (3 : Int64) = (nI 3).toInt64 by decide) hj M
        have hX1n := hX1.1
        rcases (show j = 0 ∨ j = 1 ∨ j = 2 ∨ j = 3 by omega) with rfl | rfl | rfl | rfl
        · have eX := x_open hX1 hV hPX.1 hPX.2.1 hPX.2.2.2.1 hPX.2.2.2.2.1 hPX.2.2.2.2.2.1 s2
          have eM := m_open hM hV hPM s2
          exact ⟨nI (opN (lkN M) k s hd nh st), X1, M, by simp only [fX7_asks, zokX_0, zokX_1, zokX_2, zokX_3, zokX_4, zokX_5, zokX_6, zokX_7, zokX_8, zokX_9, zokX_10, zokX_11, zokX_12, zokX_13, zokX_14, zokX_15, zokX_16, zlaX_1, zlaX_2, zlaX_3, zlaX_4, zlaX_5, zlaX_6, zlaX_8, zlaX_11, zlaX_12, zlaX_13, zlaX_15, zlaX_16, zp_1, zp_h, zp_r, zp_l, zletE, obs, spXe_0, spXe_1, spXe_2, spXe_3, spXe_4, spXe_5, spXe_6, spXe_7, spXe_8, spXe_9, spXe_10, spXe_11, spXe_12, spXe_13, spXe_14, spXe_15, spXe_16, hX.1, hX1n, e1, if_neg s7, x_isAsked1 s1 s2, if_neg n10, if_pos (show nI 0 = (0 : Int32) from rfl), eX], by simp only [fX8_asks, zokM_0, zokM_1, zokM_2, zokM_3, zokM_4, zokM_5, zokM_6, zokM_7, zokM_8, zokM_9, zokM_10, zokM_11, zokM_12, zokM_13, zokM_14, zokM_15, zlaM_1, zlaM_2, zlaM_3, zlaM_4, zlaM_5, zlaM_6, zlaM_7, zlaM_8, zlaM_9, zlaM_10, zlaM_11, zlaM_12, zlaM_13, zlaM_14, zlaM_15, zp_1, zp_h, zp_r, zp_l, zletE, obs, spMe_0, spMe_1, spMe_2, spMe_3, spMe_4, spMe_5, spMe_6, spMe_7, spMe_8, spMe_9, spMe_10, spMe_11, spMe_12, spMe_13, spMe_14, spMe_15, hM.1, one, if_neg n10, m_set1 s1 s2, hin, if_pos (show nI 0 = (0 : Int32) from rfl), eM], h.keep f1 (frN.rf M)⟩
        · obtain ⟨X2, eX, f2⟩ := x_given hX1 hV hPX s2
          obtain ⟨M2, eM, g2⟩ := m_given hM hV hPM hRM s2
          exact ⟨gvS (lkN M) k nu s hd nh d F st, X2, M2, by simp only [fX7_asks, zokX_0, zokX_1, zokX_2, zokX_3, zokX_4, zokX_5, zokX_6, zokX_7, zokX_8, zokX_9, zokX_10, zokX_11, zokX_12, zokX_13, zokX_14, zokX_15, zokX_16, zlaX_1, zlaX_2, zlaX_3, zlaX_4, zlaX_5, zlaX_6, zlaX_8, zlaX_11, zlaX_12, zlaX_13, zlaX_15, zlaX_16, zp_1, zp_h, zp_r, zp_l, zletE, obs, spXe_0, spXe_1, spXe_2, spXe_3, spXe_4, spXe_5, spXe_6, spXe_7, spXe_8, spXe_9, spXe_10, spXe_11, spXe_12, spXe_13, spXe_14, spXe_15, spXe_16, hX.1, hX1n, e1, if_neg s7, x_isAsked1 s1 s2, if_neg n10, if_neg (show ¬ nI 1 = (0 : Int32) by decide), if_pos (show nI 1 = (1 : Int32) from rfl), eX], by simp only [fX8_asks, zokM_0, zokM_1, zokM_2, zokM_3, zokM_4, zokM_5, zokM_6, zokM_7, zokM_8, zokM_9, zokM_10, zokM_11, zokM_12, zokM_13, zokM_14, zokM_15, zlaM_1, zlaM_2, zlaM_3, zlaM_4, zlaM_5, zlaM_6, zlaM_7, zlaM_8, zlaM_9, zlaM_10, zlaM_11, zlaM_12, zlaM_13, zlaM_14, zlaM_15, zp_1, zp_h, zp_r, zp_l, zletE, obs, spMe_0, spMe_1, spMe_2, spMe_3, spMe_4, spMe_5, spMe_6, spMe_7, spMe_8, spMe_9, spMe_10, spMe_11, spMe_12, spMe_13, spMe_14, spMe_15, hM.1, one, if_neg n10, m_set1 s1 s2, hin, if_neg (show ¬ nI 1 = (0 : Int32) by decide), if_pos (show nI 1 = (1 : Int32) from rfl), eM], h.keep (f1.tr f2.a.c) g2.n⟩
        · have eX := x_shut7 hX1 hPX.1 hV.2.1 hPX.2.1 s2
          have eM := m_shut8 hM (show p < 5 by omega) hPM.1 hV.2.1 hPM.2.2.2.2.1 s2
          exact ⟨nI (shN (lkN M) k st), X1, M, by simp only [fX7_asks, zokX_0, zokX_1, zokX_2, zokX_3, zokX_4, zokX_5, zokX_6, zokX_7, zokX_8, zokX_9, zokX_10, zokX_11, zokX_12, zokX_13, zokX_14, zokX_15, zokX_16, zlaX_1, zlaX_2, zlaX_3, zlaX_4, zlaX_5, zlaX_6, zlaX_8, zlaX_11, zlaX_12, zlaX_13, zlaX_15, zlaX_16, zp_1, zp_h, zp_r, zp_l, zletE, obs, spXe_0, spXe_1, spXe_2, spXe_3, spXe_4, spXe_5, spXe_6, spXe_7, spXe_8, spXe_9, spXe_10, spXe_11, spXe_12, spXe_13, spXe_14, spXe_15, spXe_16, hX.1, hX1n, e1, if_neg s7, x_isAsked1 s1 s2, if_neg n10, if_neg (show ¬ nI 2 = (0 : Int32) by decide), if_neg (show ¬ nI 2 = (1 : Int32) by decide), if_pos (show nI 2 = (2 : Int32) from rfl), eX], by simp only [fX8_asks, zokM_0, zokM_1, zokM_2, zokM_3, zokM_4, zokM_5, zokM_6, zokM_7, zokM_8, zokM_9, zokM_10, zokM_11, zokM_12, zokM_13, zokM_14, zokM_15, zlaM_1, zlaM_2, zlaM_3, zlaM_4, zlaM_5, zlaM_6, zlaM_7, zlaM_8, zlaM_9, zlaM_10, zlaM_11, zlaM_12, zlaM_13, zlaM_14, zlaM_15, zp_1, zp_h, zp_r, zp_l, zletE, obs, spMe_0, spMe_1, spMe_2, spMe_3, spMe_4, spMe_5, spMe_6, spMe_7, spMe_8, spMe_9, spMe_10, spMe_11, spMe_12, spMe_13, spMe_14, spMe_15, hM.1, one, if_neg n10, m_set1 s1 s2, hin, if_neg (show ¬ nI 2 = (0 : Int32) by decide), if_neg (show ¬ nI 2 = (1 : Int32) by decide), if_pos (show nI 2 = (2 : Int32) from rfl), eM], h.keep f1 (frN.rf M)⟩
        · obtain ⟨X2, eX, f2⟩ := x_cost7 hX1 hV hPX s2
          obtain ⟨M2, eM, g2⟩ := m_cost8 hM hV hPM hRM s2
          exact ⟨csS nu hd d F st, X2, M2, by simp only [fX7_asks, zokX_0, zokX_1, zokX_2, zokX_3, zokX_4, zokX_5, zokX_6, zokX_7, zokX_8, zokX_9, zokX_10, zokX_11, zokX_12, zokX_13, zokX_14, zokX_15, zokX_16, zlaX_1, zlaX_2, zlaX_3, zlaX_4, zlaX_5, zlaX_6, zlaX_8, zlaX_11, zlaX_12, zlaX_13, zlaX_15, zlaX_16, zp_1, zp_h, zp_r, zp_l, zletE, obs, spXe_0, spXe_1, spXe_2, spXe_3, spXe_4, spXe_5, spXe_6, spXe_7, spXe_8, spXe_9, spXe_10, spXe_11, spXe_12, spXe_13, spXe_14, spXe_15, spXe_16, hX.1, hX1n, e1, if_neg s7, x_isAsked1 s1 s2, if_neg n10, if_neg (show ¬ nI 3 = (0 : Int32) by decide), if_neg (show ¬ nI 3 = (1 : Int32) by decide), if_neg (show ¬ nI 3 = (2 : Int32) by decide), if_pos (show nI 3 = (3 : Int32) from rfl), eX], by simp only [fX8_asks, zokM_0, zokM_1, zokM_2, zokM_3, zokM_4, zokM_5, zokM_6, zokM_7, zokM_8, zokM_9, zokM_10, zokM_11, zokM_12, zokM_13, zokM_14, zokM_15, zlaM_1, zlaM_2, zlaM_3, zlaM_4, zlaM_5, zlaM_6, zlaM_7, zlaM_8, zlaM_9, zlaM_10, zlaM_11, zlaM_12, zlaM_13, zlaM_14, zlaM_15, zp_1, zp_h, zp_r, zp_l, zletE, obs, spMe_0, spMe_1, spMe_2, spMe_3, spMe_4, spMe_5, spMe_6, spMe_7, spMe_8, spMe_9, spMe_10, spMe_11, spMe_12, spMe_13, spMe_14, spMe_15, hM.1, one, if_neg n10, m_set1 s1 s2, hin, if_neg (show ¬ nI 3 = (0 : Int32) by decide), if_neg (show ¬ nI 3 = (1 : Int32) by decide), if_neg (show ¬ nI 3 = (2 : Int32) by decide), eM], h.keep (f1.tr f2.a.c) g2.n⟩
theorem t_glad (a w : Int32) : TM2 Inv (fun st => fX7_glad 0 a w st) (fun st => fX8_glad 0 a w st) := by
  intro X M h
  obtain ⟨n, hn5, hnX, hnM⟩ := many_of h.2.2.1
  have hX := h.1.1
  have hM := h.1.2
  rcases one_cases n (by omega) a with ha | ⟨p, hp, rfl⟩
  · exact ⟨-1000, X, M, by simp only [fX7_glad, fX7_glad_j17, zokX_0, zokX_1, zokX_2, zokX_3, zokX_4, zokX_5, zokX_6, zokX_7, zokX_8, zokX_9, zokX_10, zokX_11, zokX_12, zokX_13, zokX_14, zokX_15, zokX_16, zlaX_1, zlaX_2, zlaX_3, zlaX_4, zlaX_5, zlaX_6, zlaX_8, zlaX_11, zlaX_12, zlaX_13, zlaX_15, zlaX_16, zp_1, zp_h, zp_r, zp_l, zletE, obs, spXe_0, spXe_1, spXe_2, spXe_3, spXe_4, spXe_5, spXe_6, spXe_7, spXe_8, spXe_9, spXe_10, spXe_11, spXe_12, spXe_13, spXe_14, spXe_15, spXe_16, hX.1, x_visit0 hX hnX ha, if_true], by simp only [fX8_glad, fX8_glad_j24, zokM_0, zokM_1, zokM_2, zokM_3, zokM_4, zokM_5, zokM_6, zokM_7, zokM_8, zokM_9, zokM_10, zokM_11, zokM_12, zokM_13, zokM_14, zokM_15, zlaM_1, zlaM_2, zlaM_3, zlaM_4, zlaM_5, zlaM_6, zlaM_7, zlaM_8, zlaM_9, zlaM_10, zlaM_11, zlaM_12, zlaM_13, zlaM_14, zlaM_15, zp_1, zp_h, zp_r, zp_l, zletE, obs, spMe_0, spMe_1, spMe_2, spMe_3, spMe_4, spMe_5, spMe_6, spMe_7, spMe_8, spMe_9, spMe_10, spMe_11, spMe_12, spMe_13, spMe_14, spMe_15, hM.1, m_one0 hM hnM hn5 ha, if_true], h⟩
  · obtain ⟨k, nu, s, hd, nh, d, t, sp, F, hV, hd9, hsp, hPM, hRM, hq, X1, e1, f1, hPX, h77, hac⟩ := view_of h hn5 hnX hnM hp
    have hX1 := f1.sh hX
    have hX1n := hX1.1
    have one := m_one1 hM hnM hn5 hp
    rcases one_cases 12 (by decide) w with hw | ⟨g, hg, rfl⟩
    · exact ⟨-1000, X1, M, by simp only [fX7_glad, fX7_glad_j17, zokX_0, zokX_1, zokX_2, zokX_3, zokX_4, zokX_5, zokX_6, zokX_7, zokX_8, zokX_9, zokX_10, zokX_11, zokX_12, zokX_13, zokX_14, zokX_15, zokX_16, zlaX_1, zlaX_2, zlaX_3, zlaX_4, zlaX_5, zlaX_6, zlaX_8, zlaX_11, zlaX_12, zlaX_13, zlaX_15, zlaX_16, zp_1, zp_h, zp_r, zp_l, zletE, obs, spXe_0, spXe_1, spXe_2, spXe_3, spXe_4, spXe_5, spXe_6, spXe_7, spXe_8, spXe_9, spXe_10, spXe_11, spXe_12, spXe_13, spXe_14, spXe_15, spXe_16, hX.1, e1, if_neg s7, x_thing0 X1 hw, if_true], by simp only [fX8_glad, fX8_glad_j24, zokM_0, zokM_1, zokM_2, zokM_3, zokM_4, zokM_5, zokM_6, zokM_7, zokM_8, zokM_9, zokM_10, zokM_11, zokM_12, zokM_13, zokM_14, zokM_15, zlaM_1, zlaM_2, zlaM_3, zlaM_4, zlaM_5, zlaM_6, zlaM_7, zlaM_8, zlaM_9, zlaM_10, zlaM_11, zlaM_12, zlaM_13, zlaM_14, zlaM_15, zp_1, zp_h, zp_r, zp_l, zletE, obs, spMe_0, spMe_1, spMe_2, spMe_3, spMe_4, spMe_5, spMe_6, spMe_7, spMe_8, spMe_9, spMe_10, spMe_11, spMe_12, spMe_13, spMe_14, spMe_15, hM.1, one, if_neg n10, m_thing0 M hw, if_true], h.keep f1 (frN.rf M)⟩
    · obtain ⟨X2, eX, f2⟩ := x_glad7 hX1 hV hPX hg
      obtain ⟨M2, eM, g2⟩ := m_glad8 hM hV hPM hRM hg
      exact ⟨gdS k nu hd nh d F g, X2, M2, by simp only [fX7_glad, zokX_0, zokX_1, zokX_2, zokX_3, zokX_4, zokX_5, zokX_6, zokX_7, zokX_8, zokX_9, zokX_10, zokX_11, zokX_12, zokX_13, zokX_14, zokX_15, zokX_16, zlaX_1, zlaX_2, zlaX_3, zlaX_4, zlaX_5, zlaX_6, zlaX_8, zlaX_11, zlaX_12, zlaX_13, zlaX_15, zlaX_16, zp_1, zp_h, zp_r, zp_l, zletE, obs, spXe_0, spXe_1, spXe_2, spXe_3, spXe_4, spXe_5, spXe_6, spXe_7, spXe_8, spXe_9, spXe_10, spXe_11, spXe_12, spXe_13, spXe_14, spXe_15, spXe_16, hX.1, hX1n, e1, if_neg s7, x_thing1 X1 hg, if_neg n10, eX], by simp only [fX8_glad, zokM_0, zokM_1, zokM_2, zokM_3, zokM_4, zokM_5, zokM_6, zokM_7, zokM_8, zokM_9, zokM_10, zokM_11, zokM_12, zokM_13, zokM_14, zokM_15, zlaM_1, zlaM_2, zlaM_3, zlaM_4, zlaM_5, zlaM_6, zlaM_7, zlaM_8, zlaM_9, zlaM_10, zlaM_11, zlaM_12, zlaM_13, zlaM_14, zlaM_15, zp_1, zp_h, zp_r, zp_l, zletE, obs, spMe_0, spMe_1, spMe_2, spMe_3, spMe_4, spMe_5, spMe_6, spMe_7, spMe_8, spMe_9, spMe_10, spMe_11, spMe_12, spMe_13, spMe_14, spMe_15, hM.1, one, if_neg n10, m_thing1 M hg, eM], h.keep (f1.tr f2.a.c) g2.n⟩
