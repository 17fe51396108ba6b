theorem x_back {X : zS} (hX : shX X) (hne : ¬ X.2.1 14 4 = -1) : ∃ X', fX7_back 0 X = some (X.2.1 14 4, X') ∧ shX X' ∧ (∀ k, k < 12 → X'.2.1 1 k = X.2.1 15 k) ∧ (∀ i, i < 5 → ∀ k, k < 5 → X'.2.1 (22 + i) k = X.2.1 (17 + i) k) ∧ X'.2.1 0 10 = X.2.1 14 4 ∧ X'.2.1 0 9 = X.2.1 14 2 ∧ X'.2.1 0 12 = X.2.1 14 3 ∧ ∀ o k, (o ≠ 0 ∨ (k ≠ 9 ∧ k ≠ 10 ∧ k ≠ 12)) → o ≠ 1 → ¬ (22 ≤ o ∧ o < 27) → X'.2.1 o k = X.2.1 o k := by
  have r00 : X.2.2.2 0 0 = some 1 := hX.r (by decide) (by decide) (by decide) (by decide)
  have r03 : X.2.2.2 0 3 = some 4 := hX.r (by decide) (by decide) (by decide) (by decide)
  have r08 : X.2.2.2 0 8 = some 14 := hX.r (by decide) (by decide) (by decide) (by decide)
  have r140 : X.2.2.2 14 0 = some 15 := hX.r (by decide) (by decide) (by decide) (by decide)
  have r141 : X.2.2.2 14 1 = some 16 := hX.r (by decide) (by decide) (by decide) (by decide)
  obtain ⟨X1, a1, a2, a3, a4⟩ := x_cpL (a := 15) (d := 1) rfl rfl (by decide) (by decide) (by decide) 12 0 zF X hX.1 rfl (by decide)
  obtain ⟨X2, b1, b2, b3, b4⟩ := x_cpA (sa := 16) (da := 4) (ra := 17) (rd := 22) rfl rfl (by decide) (by decide) (by decide) (by decide) (fun i hi => by rcases (show i = 0 ∨ i = 1 ∨ i = 2 ∨ i = 3 ∨ i = 4 by omega) with rfl | rfl | rfl | rfl | rfl <;> rfl) (fun i hi => spX_seat hi) (by decide) 5 0 zF X1 a2 (fun i hi => by
    rw [a3, hX.r (by decide) (by omega) (by omega) (by omega)]
    rcases (show i = 0 ∨ i = 1 ∨ i = 2 ∨ i = 3 ∨ i = 4 by omega) with rfl | rfl | rfl | rfl | rfl <;> rfl) (fun i hi => by rw [a3]; exact rX_seat hX hi) rfl (by decide)
  have h12 : ∀ o k, o ≠ 1 → ¬ (22 ≤ o ∧ o < 27) → X2.2.1 o k = X.2.1 o k := fun o k h1 h2 => by
    rw [b4, if_neg (by omega), a4, if_neg (by omega)]
  have c4 := h12 14 4 (by decide) (by decide)
  have c2 := h12 14 2 (by decide) (by decide)
  have c3 := h12 14 3 (by decide) (by decide)
  refine ⟨zp (zp (zp X2 0 9 (X.2.1 14 2)) 0 12 (X.2.1 14 3)) 0 10 (X.2.1 14 4), ?_, ⟨b2, ?_⟩, ?_, ?_, ?_, ?_, ?_, ?_⟩
  · have a1' : fX1_copyLikes (some 15) (some 1) X = some ((), X1) := a1
    have b1' : fX1_copyAskers (some 16) (some 4) X1 = some ((), X2) := b1
    simp [fX7_back, fX1_layBack, zokX_0, zokX_1, zokX_2, zokX_3, zokX_4, zokX_5, zokX_6, zokX_7, zokX_8, zokX_9, zokX_10, zokX_11, zokX_12, zokX_13, zokX_14, zokX_15, zokX_16, zlaX_1, zlaX_2, zlaX_3, zlaX_4, zlaX_5, zlaX_6, zlaX_8, zlaX_11, zlaX_12, zlaX_13, zlaX_15, zlaX_16, zp_1, zp_h, zp_r, zp_l, zlet, Option.bind_some, spXe_0, spXe_1, spXe_2, spXe_3, spXe_4, spXe_5, spXe_6, spXe_7, spXe_8, spXe_9, spXe_10, spXe_11, spXe_12, spXe_13, spXe_14, spXe_15, spXe_16, zokX_14, hX.1, a2, b2, a3, b3, r00, r03, r08, r140, r141, a1', b1', c4, c2, c3, hne]
  · intro o ho k hk
    show _ ∨ _ ∨ X2.2.2.2 o k = rX o k
    rw [b3, a3]
    exact hX.2 o ho k hk
  · intro k hk
    rw [zp_h, if_neg (by omega), zp_h, if_neg (by omega), zp_h, if_neg (by omega), b4, if_neg (by omega), a4, if_pos ⟨rfl, by omega, hk⟩]
  · intro i hi k hk
    rw [zp_h, if_neg (by omega), zp_h, if_neg (by omega), zp_h, if_neg (by omega), b4, if_pos ⟨⟨by omega, by omega⟩, hk⟩, a4, if_neg (by omega), show 17 + (22 + i - 22) = 17 + i by omega]
  · simp [zp_h]
  · simp [zp_h]
  · simp [zp_h]
  · intro o k h1 h2 h3
    rw [zp_h, if_neg (by omega), zp_h, if_neg (by omega), zp_h, if_neg (by omega)]
    exact h12 o k h2 h3
theorem m_bk12 : ∀ (m t n : Nat) (M : zS), shM M → t + m = 12 → m < n → ∃ M', fX8_back_L13 0 n (nI t) M = fX8_back_L39 0 zF 0 M' ∧ shM M' ∧ ∀ o k, M'.2.1 o k = if o = 4 ∧ t ≤ k ∧ k < 12 then M.2.1 10 k else M.2.1 o k
  | m, t, 0, _, _, _, h => by omega
  | 0, t, n + 1, M, h1, h2, _ => by
    have e : t = 12 := by omega
    subst e
    refine ⟨M, ?_, h1, fun o k => by rw [if_neg (by omega)]⟩
    rw [fX8_back_L13, if_pos (show (12 : Int32) ≤ nI 12 from by decide)]
  | m + 1, t, n + 1, M, hM, h2, h3 => by
    have c : ¬ (12 : Int32) ≤ nI t := nI_ge (b := 12) (a := t) (by omega) (by decide)
    have r8 : M.2.2.2 0 8 = some 4 := hM.r (by decide) (by decide)
    have r37 : M.2.2.2 0 37 = some 10 := hM.r (by decide) (by decide)
    have za : zix spM 4 (nI t) = some t := zix_of rfl (by show t < 12; omega) (by decide)
    have zd : zix spM 10 (nI t) = some t := zix_of rfl (by show t < 12; omega) (by decide)
    obtain ⟨M', e1, e2, e4⟩ := m_bk12 m (t + 1) n (zp M 4 t (M.2.1 10 t)) (hM.zp _ _ _) (by omega) (by omega)
    refine ⟨M', ?_, e2, fun o k => ?_⟩
    · simp only [fX8_back_L13, if_neg c, zokM_0, zokM_1, zokM_2, zokM_3, zokM_4, zokM_5, zokM_6, zokM_7, zokM_8, zokM_9, zokM_10, zokM_11, zokM_12, zokM_13, zokM_14, zokM_15, zlaM_1, zlaM_2, zlaM_3, zlaM_4, zlaM_5, zlaM_6, zlaM_7, zlaM_8, zlaM_9, zlaM_10, zlaM_11, zlaM_12, zlaM_13, zlaM_14, zlaM_15, zp_1, zp_h, zp_r, zp_l, zlet, Option.bind_some, spMe_0, spMe_1, spMe_2, spMe_3, spMe_4, spMe_5, spMe_6, spMe_7, spMe_8, spMe_9, spMe_10, spMe_11, spMe_12, spMe_13, spMe_14, spMe_15, hM.1, r8, r37, za, zd, nI_1]
      exact e1
    · rw [e4]
      by_cases c1 : o = 4 ∧ t + 1 ≤ k ∧ k < 12
      · rw [if_pos c1, if_pos ⟨c1.1, by omega, c1.2.2⟩, zp_h, if_neg (by omega)]
      · rw [if_neg c1, zp_h]
        by_cases c2 : o = 4 ∧ k = t
        · obtain ⟨rfl, rfl⟩ := c2
          rw [if_pos ⟨rfl, rfl⟩, if_pos ⟨rfl, Nat.le_refl _, by omega⟩]
        · rw [if_neg c2, if_neg (by omega)]
theorem m_bk20 : ∀ (m t n : Nat) (M : zS), shM M → t + m = 20 → m < n → ∃ M', fX8_back_L39 0 n (nI t) M = some (M'.2.1 0 39, zp (zp (zp M' 0 11 (M'.2.1 0 39)) 0 7 (M'.2.1 0 40)) 0 4 (M'.2.1 0 41)) ∧ shM M' ∧ ∀ o k, M'.2.1 o k = if o = 6 ∧ t ≤ k ∧ k < 20 then M.2.1 11 k else M.2.1 o k
  | m, t, 0, _, _, _, h => by omega
  | 0, t, n + 1, M, h1, h2, _ => by
    have e : t = 20 := by omega
    subst e
    refine ⟨M, ?_, h1, fun o k => by rw [if_neg (by omega)]⟩
    simp [fX8_back_L39, if_pos (show (20 : Int32) ≤ nI 20 from by decide), zokM_0, zokM_1, zokM_2, zokM_3, zokM_4, zokM_5, zokM_6, zokM_7, zokM_8, zokM_9, zokM_10, zokM_11, zokM_12, zokM_13, zokM_14, zokM_15, zlaM_1, zlaM_2, zlaM_3, zlaM_4, zlaM_5, zlaM_6, zlaM_7, zlaM_8, zlaM_9, zlaM_10, zlaM_11, zlaM_12, zlaM_13, zlaM_14, zlaM_15, zp_1, zp_h, zp_r, zp_l, zlet, Option.bind_some, spMe_0, spMe_1, spMe_2, spMe_3, spMe_4, spMe_5, spMe_6, spMe_7, spMe_8, spMe_9, spMe_10, spMe_11, spMe_12, spMe_13, spMe_14, spMe_15, h1.1]
  | m + 1, t, n + 1, M, hM, h2, h3 => by
    have c : ¬ (20 : Int32) ≤ nI t := nI_ge (b := 20) (a := t) (by omega) (by decide)
    have r10 : M.2.2.2 0 10 = some 6 := hM.r (by decide) (by decide)
    have r38 : M.2.2.2 0 38 = some 11 := hM.r (by decide) (by decide)
    have za : zix spM 6 (nI t) = some t := zix_of rfl (by show t < 20; omega) (by decide)
    have zd : zix spM 11 (nI t) = some t := zix_of rfl (by show t < 20; omega) (by decide)
    obtain ⟨M', e1, e2, e4⟩ := m_bk20 m (t + 1) n (zp M 6 t (M.2.1 11 t)) (hM.zp _ _ _) (by omega) (by omega)
    refine ⟨M', ?_, e2, fun o k => ?_⟩
    · simp only [fX8_back_L39, if_neg c, zokM_0, zokM_1, zokM_2, zokM_3, zokM_4, zokM_5, zokM_6, zokM_7, zokM_8, zokM_9, zokM_10, zokM_11, zokM_12, zokM_13, zokM_14, zokM_15, zlaM_1, zlaM_2, zlaM_3, zlaM_4, zlaM_5, zlaM_6, zlaM_7, zlaM_8, zlaM_9, zlaM_10, zlaM_11, zlaM_12, zlaM_13, zlaM_14, zlaM_15, zp_1, zp_h, zp_r, zp_l, zlet, Option.bind_some, spMe_0, spMe_1, spMe_2, spMe_3, spMe_4, spMe_5, spMe_6, spMe_7, spMe_8, spMe_9, spMe_10, spMe_11, spMe_12, spMe_13, spMe_14, spMe_15, hM.1, r10, r38, za, zd, nI_1]
      exact e1
    · rw [e4]
      by_cases c1 : o = 6 ∧ t + 1 ≤ k ∧ k < 20
      · rw [if_pos c1, if_pos ⟨c1.1, by omega, c1.2.2⟩, zp_h, if_neg (by omega)]
      · rw [if_neg c1, zp_h]
        by_cases c2 : o = 6 ∧ k = t
        · obtain ⟨rfl, rfl⟩ := c2
          rw [if_pos ⟨rfl, rfl⟩, if_pos ⟨rfl, Nat.le_refl _, by omega⟩]
        · rw [if_neg c2, if_neg (by omega)]
