theorem x_image {X : zS} (hX : shX X) : ∃ X', fX7_image 0 X = some (X.2.1 0 10, X') ∧ shX X' ∧ (∀ k, k < 12 → X'.2.1 15 k = X.2.1 1 k) ∧ (∀ i, i < 5 → ∀ k, k < 5 → X'.2.1 (17 + i) k = X.2.1 (22 + i) k) ∧ X'.2.1 14 4 = X.2.1 0 10 ∧ X'.2.1 14 2 = X.2.1 0 9 ∧ X'.2.1 14 3 = X.2.1 0 12 ∧ ∀ o k, o ≠ 14 → o ≠ 15 → ¬ (17 ≤ o ∧ o < 22) → X'.2.1 o k = X.2.1 o k := by
  have r00 : X.2.2.2 0 0 = some 1 := hX.r (by decide) (by decide) (by decide) (by decide)
  have r03 : X.2.2.2 0 3 = some 4 := hX.r (by decide) (by decide) (by decide) (by decide)
  have r08 : X.2.2.2 0 8 = some 14 := hX.r (by decide) (by decide) (by decide) (by decide)
  have r140 : X.2.2.2 14 0 = some 15 := hX.r (by decide) (by decide) (by decide) (by decide)
  have r141 : X.2.2.2 14 1 = some 16 := hX.r (by decide) (by decide) (by decide) (by decide)
  obtain ⟨X1, a1, a2, a3, a4⟩ := x_cpL (a := 1) (d := 15) rfl rfl (by decide) (by decide) (by decide) 12 0 zF X hX.1 rfl (by decide)
  obtain ⟨X2, b1, b2, b3, b4⟩ := x_cpA (sa := 4) (da := 16) (ra := 22) (rd := 17) rfl rfl (by decide) (by decide) (by decide) (by decide) (fun i hi => spX_seat hi) (fun i hi => by rcases (show i = 0 ∨ i = 1 ∨ i = 2 ∨ i = 3 ∨ i = 4 by omega) with rfl | rfl | rfl | rfl | rfl <;> rfl) (by decide) 5 0 zF X1 a2 (fun i hi => by rw [a3]; exact rX_seat hX hi) (fun i hi => by
    rw [a3, hX.r (by decide) (by omega) (by omega) (by omega)]
    rcases (show i = 0 ∨ i = 1 ∨ i = 2 ∨ i = 3 ∨ i = 4 by omega) with rfl | rfl | rfl | rfl | rfl <;> rfl) rfl (by decide)
  have h12 : ∀ o k, o ≠ 15 → ¬ (17 ≤ o ∧ o < 22) → X2.2.1 o k = X.2.1 o k := fun o k h1 h2 => by
    rw [b4, if_neg (by omega), a4, if_neg (by omega)]
  have c10 := h12 0 10 (by decide) (by decide)
  have c9 := h12 0 9 (by decide) (by decide)
  have c12 := h12 0 12 (by decide) (by decide)
  refine ⟨zp (zp (zp X2 14 4 (X.2.1 0 10)) 14 2 (X.2.1 0 9)) 14 3 (X.2.1 0 12), ?_, ⟨b2, ?_⟩, ?_, ?_, ?_, ?_, ?_, ?_⟩
  · have a1' : fX1_copyLikes (some 1) (some 15) X = some ((), X1) := a1
    have b1' : fX1_copyAskers (some 4) (some 16) X1 = some ((), X2) := b1
    simp [fX7_image, fX1_keep, zokX_0, zokX_1, zokX_2, zokX_3, zokX_4, zokX_5, zokX_6, zokX_7, zokX_8, zokX_9, zokX_10, zokX_11, zokX_12, zokX_13, zokX_14, zokX_15, zokX_16, zlaX_1, zlaX_2, zlaX_3, zlaX_4, zlaX_5, zlaX_6, zlaX_8, zlaX_11, zlaX_12, zlaX_13, zlaX_15, zlaX_16, zp_1, zp_h, zp_r, zp_l, zlet, Option.bind_some, spXe_0, spXe_1, spXe_2, spXe_3, spXe_4, spXe_5, spXe_6, spXe_7, spXe_8, spXe_9, spXe_10, spXe_11, spXe_12, spXe_13, spXe_14, spXe_15, spXe_16, zokX_14, hX.1, a2, b2, a3, b3, r00, r03, r08, r140, r141, a1', b1', c10, c9, c12]
  · intro o ho k hk
    show _ ∨ _ ∨ X2.2.2.2 o k = rX o k
    rw [b3, a3]
    exact hX.2 o ho k hk
  · intro k hk
    rw [zp_h, if_neg (by omega), zp_h, if_neg (by omega), zp_h, if_neg (by omega), b4, if_neg (by omega), a4, if_pos ⟨rfl, by omega, hk⟩]
  · intro i hi k hk
    rw [zp_h, if_neg (by omega), zp_h, if_neg (by omega), zp_h, if_neg (by omega), b4, if_pos ⟨⟨by omega, by omega⟩, hk⟩, a4, if_neg (by omega), show 22 + (17 + i - 17) = 22 + i by omega]
  · simp [zp_h]
  · simp [zp_h]
  · simp [zp_h]
  · intro o k h1 h2 h3
    rw [zp_h, if_neg (by omega), zp_h, if_neg (by omega), zp_h, if_neg (by omega)]
    exact h12 o k h2 h3
theorem m_image {M : zS} (hM : shM M) : ∃ M', fX8_image 0 M = some (M.2.1 0 11, M') ∧ shM M' ∧ (∀ k, k < 12 → M'.2.1 10 k = M.2.1 4 k) ∧ (∀ k, k < 20 → M'.2.1 11 k = M.2.1 6 k) ∧ M'.2.1 0 39 = M.2.1 0 11 ∧ M'.2.1 0 40 = M.2.1 0 7 ∧ M'.2.1 0 41 = M.2.1 0 4 ∧ ∀ o k, o ≠ 10 → o ≠ 11 → (o ≠ 0 ∨ k < 39 ∨ 41 < k) → M'.2.1 o k = M.2.1 o k := by
  obtain ⟨M1, a1, a2, a4⟩ := m_im12 12 0 zF M hM rfl (by decide)
  obtain ⟨M2, b1, b2, b4⟩ := m_im20 20 0 zF M1 a2 rfl (by decide)
  have h12 : ∀ o k, o ≠ 10 → o ≠ 11 → M2.2.1 o k = M.2.1 o k := fun o k h1 h2 => by
    rw [b4, if_neg (by omega), a4, if_neg (by omega)]
  have c11 := h12 0 11 (by decide) (by decide)
  have c7 := h12 0 7 (by decide) (by decide)
  have c4 := h12 0 4 (by decide) (by decide)
  rw [c11, c7, c4] at b1
  refine ⟨_, a1.trans b1, b2, ?_, ?_, ?_, ?_, ?_, ?_⟩
  · intro k hk
    rw [zp_h, if_neg (by omega), zp_h, if_neg (by omega), zp_h, if_neg (by omega), b4, if_neg (by omega), a4, if_pos ⟨rfl, by omega, hk⟩]
  · intro k hk
    rw [zp_h, if_neg (by omega), zp_h, if_neg (by omega), zp_h, if_neg (by omega), b4, if_pos ⟨rfl, by omega, hk⟩, a4, if_neg (by omega)]
  · simp [zp_h]
  · simp [zp_h]
  · simp [zp_h]
  · intro o k h1 h2 h3
    rw [zp_h, if_neg (by omega), zp_h, if_neg (by omega), zp_h, if_neg (by omega)]
    exact h12 o k h1 h2
