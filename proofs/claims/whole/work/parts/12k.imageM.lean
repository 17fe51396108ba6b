theorem m_im12 : ∀ (m t n : Nat) (M : zS), shM M → t + m = 12 → m < n → ∃ M', fX8_image_L2 0 n (nI t) M = fX8_image_L28 0 zF 0 M' ∧ shM M' ∧ ∀ o k, M'.2.1 o k = if o = 10 ∧ t ≤ k ∧ k < 12 then M.2.1 4 k else M.2.1 o k
  | m, t, 0, _, _, _, h => by omega
  | 0, t, n + 1, M, h1, h2, _ => by
    have e : t = 12 := by omega
    subst e
    refine ⟨M, ?_, h1, fun o k => by rw [if_neg (by omega)]⟩
    rw [fX8_image_L2, if_pos (show (12 : Int32) ≤ nI 12 from by decide)]
  | m + 1, t, n + 1, M, hM, h2, h3 => by
    have c : ¬ (12 : Int32) ≤ nI t := nI_ge (b := 12) (a := t) (by omega) (by decide)
    have r8 : M.2.2.2 0 8 = some 4 := hM.r (by decide) (by decide)
    have r37 : M.2.2.2 0 37 = some 10 := hM.r (by decide) (by decide)
    have za : zix spM 4 (nI t) = some t := zix_of rfl (by show t < 12; omega) (by decide)
    have zd : zix spM 10 (nI t) = some t := zix_of rfl (by show t < 12; omega) (by decide)
    obtain ⟨M', e1, e2, e4⟩ := m_im12 m (t + 1) n (zp M 10 t (M.2.1 4 t)) (hM.zp _ _ _) (by omega) (by omega)
    refine ⟨M', ?_, e2, fun o k => ?_⟩
    · simp only [fX8_image_L2, if_neg c, zokM_0, zokM_1, zokM_2, zokM_3, zokM_4, zokM_5, zokM_6, zokM_7, zokM_8, zokM_9, zokM_10, zokM_11, zokM_12, zokM_13, zokM_14, zokM_15, zlaM_1, zlaM_2, zlaM_3, zlaM_4, zlaM_5, zlaM_6, zlaM_7, zlaM_8, zlaM_9, zlaM_10, zlaM_11, zlaM_12, zlaM_13, zlaM_14, zlaM_15, zp_1, zp_h, zp_r, zp_l, zlet, Option.bind_some, spMe_0, spMe_1, spMe_2, spMe_3, spMe_4, spMe_5, spMe_6, spMe_7, spMe_8, spMe_9, spMe_10, spMe_11, spMe_12, spMe_13, spMe_14, spMe_15, hM.1, r8, r37, za, zd, nI_1]
      exact e1
    · rw [e4]
      by_cases c1 : o = 10 ∧ t + 1 ≤ k ∧ k < 12
      · rw [if_pos c1, if_pos ⟨c1.1, by omega, c1.2.2⟩, zp_h, if_neg (by omega)]
      · rw [if_neg c1, zp_h]
        by_cases c2 : o = 10 ∧ k = t
        · obtain ⟨rfl, rfl⟩ := c2
          rw [if_pos ⟨rfl, rfl⟩, if_pos ⟨rfl, Nat.le_refl _, by omega⟩]
        · rw [if_neg c2, if_neg (by omega)]
theorem m_im20 : ∀ (m t n : Nat) (M : zS), shM M → t + m = 20 → m < n → ∃ M', fX8_image_L28 0 n (nI t) M = some (M'.2.1 0 11, zp (zp (zp M' 0 39 (M'.2.1 0 11)) 0 40 (M'.2.1 0 7)) 0 41 (M'.2.1 0 4)) ∧ shM M' ∧ ∀ o k, M'.2.1 o k = if o = 11 ∧ t ≤ k ∧ k < 20 then M.2.1 6 k else M.2.1 o k
  | m, t, 0, _, _, _, h => by omega
  | 0, t, n + 1, M, h1, h2, _ => by
    have e : t = 20 := by omega
    subst e
    refine ⟨M, ?_, h1, fun o k => by rw [if_neg (by omega)]⟩
    simp [fX8_image_L28, if_pos (show (20 : Int32) ≤ nI 20 from by decide), zokM_0, zokM_1, zokM_2, zokM_3, zokM_4, zokM_5, zokM_6, zokM_7, zokM_8, zokM_9, zokM_10, zokM_11, zokM_12, zokM_13, zokM_14, zokM_15, zlaM_1, zlaM_2, zlaM_3, zlaM_4, zlaM_5, zlaM_6, zlaM_7, zlaM_8, zlaM_9, zlaM_10, zlaM_11, zlaM_12, zlaM_13, zlaM_14, zlaM_15, zp_1, zp_h, zp_r, zp_l, zlet, Option.bind_some, spMe_0, spMe_1, spMe_2, spMe_3, spMe_4, spMe_5, spMe_6, spMe_7, spMe_8, spMe_9, spMe_10, spMe_11, spMe_12, spMe_13, spMe_14, spMe_15, h1.1]
  | m + 1, t, n + 1, M, hM, h2, h3 => by
    have c : ¬ (20 : Int32) ≤ nI t := nI_ge (b := 20) (a := t) (by omega) (by decide)
    have r10 : M.2.2.2 0 10 = some 6 := hM.r (by decide) (by decide)
    have r38 : M.2.2.2 0 38 = some 11 := hM.r (by decide) (by decide)
    have za : zix spM 6 (nI t) = some t := zix_of rfl (by show t < 20; omega) (by decide)
    have zd : zix spM 11 (nI t) = some t := zix_of rfl (by show t < 20; omega) (by decide)
    obtain ⟨M', e1, e2, e4⟩ := m_im20 m (t + 1) n (zp M 11 t (M.2.1 6 t)) (hM.zp _ _ _) (by omega) (by omega)
    refine ⟨M', ?_, e2, fun o k => ?_⟩
    · simp only [fX8_image_L28, if_neg c, zokM_0, zokM_1, zokM_2, zokM_3, zokM_4, zokM_5, zokM_6, zokM_7, zokM_8, zokM_9, zokM_10, zokM_11, zokM_12, zokM_13, zokM_14, zokM_15, zlaM_1, zlaM_2, zlaM_3, zlaM_4, zlaM_5, zlaM_6, zlaM_7, zlaM_8, zlaM_9, zlaM_10, zlaM_11, zlaM_12, zlaM_13, zlaM_14, zlaM_15, zp_1, zp_h, zp_r, zp_l, zlet, Option.bind_some, spMe_0, spMe_1, spMe_2, spMe_3, spMe_4, spMe_5, spMe_6, spMe_7, spMe_8, spMe_9, spMe_10, spMe_11, spMe_12, spMe_13, spMe_14, spMe_15, hM.1, r10, r38, za, zd, nI_1]
      exact e1
    · rw [e4]
      by_cases c1 : o = 11 ∧ t + 1 ≤ k ∧ k < 20
      · rw [if_pos c1, if_pos ⟨c1.1, by omega, c1.2.2⟩, zp_h, if_neg (by omega)]
      · rw [if_neg c1, zp_h]
        by_cases c2 : o = 11 ∧ k = t
        · obtain ⟨rfl, rfl⟩ := c2
          rw [if_pos ⟨rfl, rfl⟩, if_pos ⟨rfl, Nat.le_refl _, by omega⟩]
        · rw [if_neg c2, if_neg (by omega)]
