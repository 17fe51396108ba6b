theorem m_back {M : zS} (hM : shM M) (hne : ¬ M.2.1 0 39 = -1) : ∃ M', fX8_back 0 M = some (M.2.1 0 39, M') ∧ shM M' ∧ (∀ k, k < 12 → M'.2.1 4 k = M.2.1 10 k) ∧ (∀ k, k < 20 → M'.2.1 6 k = M.2.1 11 k) ∧ M'.2.1 0 11 = M.2.1 0 39 ∧ M'.2.1 0 7 = M.2.1 0 40 ∧ M'.2.1 0 4 = M.2.1 0 41 ∧ ∀ o k, o ≠ 4 → o ≠ 6 → (o ≠ 0 ∨ (k ≠ 11 ∧ k ≠ 7 ∧ k ≠ 4)) → M'.2.1 o k = M.2.1 o k := by
  obtain ⟨M1, a1, a2, a4⟩ := m_bk12 12 0 zF M hM rfl (by decide)
  obtain ⟨M2, b1, b2, b4⟩ := m_bk20 20 0 zF M1 a2 rfl (by decide)
  have h12 : ∀ o k, o ≠ 4 → o ≠ 6 → M2.2.1 o k = M.2.1 o k := fun o k h1 h2 => by
    rw [b4, if_neg (by omega), a4, if_neg (by omega)]
  rw [h12 0 39 (by decide) (by decide), h12 0 40 (by decide) (by decide), h12 0 41 (by decide) (by decide)] at b1
  refine ⟨zp (zp (zp M2 0 11 (M.2.1 0 39)) 0 7 (M.2.1 0 40)) 0 4 (M.2.1 0 41), ?_, b2, ?_, ?_, ?_, ?_, ?_, ?_⟩
  · have e : fX8_back 0 M = fX8_back_L13 0 zF 0 M := by
      simp only [fX8_back, zokM_0 hM.1, Option.bind_some, if_neg hne]
    exact e.trans (a1.trans b1)
  · intro k hk
    rw [zp_h, if_neg (by omega), zp_h, if_neg (by omega), zp_h, if_neg (by omega), b4, if_neg (by omega), a4, if_pos ⟨rfl, by omega, hk⟩]
  · intro k hk
    rw [zp_h, if_neg (by omega), zp_h, if_neg (by omega), zp_h, if_neg (by omega), b4, if_pos ⟨rfl, by omega, hk⟩, a4, if_neg (by omega)]
  · simp [zp_h]
  · simp [zp_h]
  · simp [zp_h]
  · intro o k h1 h2 h3
    rw [zp_h, if_neg (by omega), zp_h, if_neg (by omega), zp_h, if_neg (by omega)]
    exact h12 o k h1 h2
