theorem m_set24 {M : zS} {k : Nat} (hk : k < 5) (of v : Int32) (h : v < 0 ∨ nI (most k) < v) : fX8_set_j24 0 (nI k) of v M = some (-2, M) := by
  by_cases h0 : v < 0
  · simp only [fX8_set_j24, m_most hk, Option.bind_some, in_0, if_pos h0, if_true]
  · simp only [fX8_set_j24, m_most hk, Option.bind_some, in_0, if_neg h0, if_pos (h.resolve_left h0), if_true]
theorem m_set_bad {M : zS} (hM : shM M) {n : Nat} (hn : M.2.1 0 11 = nI n) (h5 : n ≤ 5) {k : Nat} (hk : k < 5) (of v : Int32) (h : v < 0 ∨ nI (most k) < v) : fX8_set 0 (nI k) of v M = some (-2, M) := by
  have hi := fun st => in_1 (nI k) 4 4 (by decide) st
  have c0 : ¬ nI k < 0 := nI_pos (by omega)
  have c1 : ¬ (4 : Int32) < nI k := nI_nlt (a := 4) (by omega) (by decide)
  by_cases k0 : nI k ≤ 0
  · simp only [fX8_set, hi, Option.bind_some, if_neg c0, if_neg c1, if_neg one0, if_pos k0, m_set24 hk of v h]
  · by_cases ha : of < 0 ∨ nI n ≤ of
    · simp only [fX8_set, hi, zokM_0, zokM_1, zokM_2, zokM_3, zokM_4, zokM_5, zokM_6, zokM_7, zokM_8, zokM_9, zokM_10, zokM_11, zokM_12, zokM_13, zokM_14, zokM_15, zlaM_1, zlaM_2, zlaM_3, zlaM_4, zlaM_5, zlaM_6, zlaM_7, zlaM_8, zlaM_9, zlaM_10, zlaM_11, zlaM_12, zlaM_13, zlaM_14, zlaM_15, zp_1, zp_h, zp_r, zp_l, zlet, Option.bind_some, spMe_0, spMe_1, spMe_2, spMe_3, spMe_4, spMe_5, spMe_6, spMe_7, spMe_8, spMe_9, spMe_10, spMe_11, spMe_12, spMe_13, spMe_14, spMe_15, if_neg c0, if_neg c1, if_neg one0, if_neg k0, hM.1, m_one0 hM hn h5 ha, if_true]
    · rcases cases_in of n (by omega) with h0 | ⟨h1, h0⟩ | ⟨p, hp, rfl, h0⟩
      · exact absurd (Or.inl h0) ha
      · exact absurd (Or.inr h1) ha
      · simp only [fX8_set, hi, zokM_0, zokM_1, zokM_2, zokM_3, zokM_4, zokM_5, zokM_6, zokM_7, zokM_8, zokM_9, zokM_10, zokM_11, zokM_12, zokM_13, zokM_14, zokM_15, zlaM_1, zlaM_2, zlaM_3, zlaM_4, zlaM_5, zlaM_6, zlaM_7, zlaM_8, zlaM_9, zlaM_10, zlaM_11, zlaM_12, zlaM_13, zlaM_14, zlaM_15, zp_1, zp_h, zp_r, zp_l, zlet, Option.bind_some, spMe_0, spMe_1, spMe_2, spMe_3, spMe_4, spMe_5, spMe_6, spMe_7, spMe_8, spMe_9, spMe_10, spMe_11, spMe_12, spMe_13, spMe_14, spMe_15, if_neg c0, if_neg c1, if_neg one0, if_neg k0, hM.1, m_one1 hM hn h5 hp, m_set24 hk _ v h]
theorem tm_set (a of v : Int32) : TM2 Inv (fun st => fX7_set 0 a of v st) (fun st => fX8_set 0 a of v st) := by
  intro X M h
  have hInv := h
  obtain ⟨⟨hX, hM⟩, hL, hD, hA, hP, hF, hS, hI, hT⟩ := h
  obtain ⟨n, hn5, hnX, hnM⟩ := many_of hD
  have hi := fun st => in_1 a 4 4 (by decide) st
  rcases cases_in a 5 (by decide) with f0 | ⟨f1, f0⟩ | ⟨k, hk, rfl, f0⟩
  · refine ⟨-2, X, M, ?_, ?_, hInv⟩
    · simp only [fX7_set, if_pos f0]
    · simp only [fX8_set, hi, Option.bind_some, if_pos f0, if_true]
  · have f3 : (4 : Int32) < a := Int32.lt_of_lt_of_le (nI_lt (a := 4) (b := 5) (by decide) (by decide)) f1
    refine ⟨-2, X, M, ?_, ?_, hInv⟩
    · simp only [fX7_set, if_neg f0, if_pos f3]
    · simp only [fX8_set, hi, Option.bind_some, if_neg f0, if_pos f3, if_true]
  · have f3 : ¬ (4 : Int32) < nI k := nI_nlt (a := 4) (by omega) (by decide)
    have hml := most_lt k
    rcases cases_in v (most k + 1) (by omega) with g0 | ⟨g1, g0⟩ | ⟨w, hw, rfl, g0⟩
    · refine ⟨-2, X, M, ?_, m_set_bad hM hnM hn5 hk of v (Or.inl g0), hInv⟩
      simp only [fX7_set, if_neg f0, if_neg f3, if_pos g0]
    · have g3 : nI (most k) < v := Int32.lt_of_lt_of_le (nI_lt (by omega) (by omega)) g1
      refine ⟨-2, X, M, ?_, m_set_bad hM hnM hn5 hk of v (Or.inr g3), hInv⟩
      simp only [fX7_set, if_neg f0, if_neg f3, if_neg g0, x_most hk, Option.bind_some, if_neg (Int32.not_le.mpr g3)]
    · have g2 : nI w ≤ nI (most k) := nI_le (by omega) (by omega)
      have g3 : ¬ nI (most k) < nI w := Int32.not_lt.mpr g2
      by_cases k0 : k = 0
      · subst k0
        have hw9 : w ≤ 999 := by have h1 : most 0 = 999 := rfl; omega
        obtain ⟨⟨d1, d2⟩, D2, D3, D4⟩ := id hD
        refine ⟨M.2.1 0 7, zp X 0 9 (nI w), zp M 0 7 (nI w), ?_, ?_, ⟨hX.zp _ _ _, hM.zp _ _ _⟩, ?_, ?_, ?_, ?_, ?_, ?_, ?_, ?_⟩
        · simp only [fX7_set, if_neg f0, if_neg f3, if_neg g0, x_most hk, if_pos g2, if_pos (show nI 0 = (0 : Int32) from rfl), zokX_0, zokX_1, zokX_2, zokX_3, zokX_4, zokX_5, zokX_6, zokX_7, zokX_8, zokX_9, zokX_10, zokX_11, zokX_12, zokX_13, zokX_14, zokX_15, zokX_16, zlaX_1, zlaX_2, zlaX_3, zlaX_4, zlaX_5, zlaX_6, zlaX_8, zlaX_11, zlaX_12, zlaX_13, zlaX_15, zlaX_16, zp_1, zp_h, zp_r, zp_l, zlet, Option.bind_some, spXe_0, spXe_1, spXe_2, spXe_3, spXe_4, spXe_5, spXe_6, spXe_7, spXe_8, spXe_9, spXe_10, spXe_11, spXe_12, spXe_13, spXe_14, spXe_15, spXe_16, hX.1, d1]
        · have hi0 : ∀ st, fX8_in ((0 : Int32).toInt64) 0 4 st = some (1, st) := fun st => rfl
          have hm0 : ∀ st, fX8_mostOf 0 st = some (nI (most 0), st) := fun st => rfl
          show fX8_set 0 0 of (nI w) M = _
          simp only [fX8_set, fX8_set_j24, hi0, if_neg one0, if_pos (show (0 : Int32) ≤ (0 : Int32) by decide), hm0, zokM_0, zokM_1, zokM_2, zokM_3, zokM_4, zokM_5, zokM_6, zokM_7, zokM_8, zokM_9, zokM_10, zokM_11, zokM_12, zokM_13, zokM_14, zokM_15, zlaM_1, zlaM_2, zlaM_3, zlaM_4, zlaM_5, zlaM_6, zlaM_7, zlaM_8, zlaM_9, zlaM_10, zlaM_11, zlaM_12, zlaM_13, zlaM_14, zlaM_15, zp_1, zp_h, zp_r, zp_l, zlet, Option.bind_some, spMe_0, spMe_1, spMe_2, spMe_3, spMe_4, spMe_5, spMe_6, spMe_7, spMe_8, spMe_9, spMe_10, spMe_11, spMe_12, spMe_13, spMe_14, spMe_15, in_0, if_neg g0, if_neg g3, hM.1, m_told0 hM, m_lays0 hM]
        · simpa [InvL, zp_h, addne] using hL
        · exact ⟨⟨by simp [zp_h], w, hw9, by simp [zp_h]⟩, by simpa [zp_h] using D2, by simpa [zp_h] using D3, by simpa [zp_h] using D4⟩
        · simpa [InvA, zp_h, addne] using hA
        · simpa [InvP, zp_h, addne] using hP
        · simpa [InvF, zp_h, addne] using hF
        · simpa [InvS, zp_h, addne] using hS
        · simpa [InvI, zp_h, addne] using hI
        · exact hT.mono (by simp [zp_h, addne]) (fun t ht => by simp [zp_h, addne]) (fun t ht => by simp [zp_h, addne])
      · have k1 : 1 ≤ k := by omega
        have c2 : ¬ nI k ≤ 0 := nI_nle (by omega) (by omega)
        have c5 : ¬ nI k = 0 := nI_ne0 (by omega) (by omega)
        by_cases ha : of < 0 ∨ nI n ≤ of
        · refine ⟨-2, X, M, ?_, ?_, hInv⟩
          · simp only [fX7_set, if_neg f0, if_neg f3, if_neg g0, x_most hk, if_pos g2, if_neg c5, zokX_0, zokX_1, zokX_2, zokX_3, zokX_4, zokX_5, zokX_6, zokX_7, zokX_8, zokX_9, zokX_10, zokX_11, zokX_12, zokX_13, zokX_14, zokX_15, zokX_16, zlaX_1, zlaX_2, zlaX_3, zlaX_4, zlaX_5, zlaX_6, zlaX_8, zlaX_11, zlaX_12, zlaX_13, zlaX_15, zlaX_16, zp_1, zp_h, zp_r, zp_l, zlet, Option.bind_some, spXe_0, spXe_1, spXe_2, spXe_3, spXe_4, spXe_5, spXe_6, spXe_7, spXe_8, spXe_9, spXe_10, spXe_11, spXe_12, spXe_13, spXe_14, spXe_15, spXe_16, hX.1, x_seat0 hX hnX ha, if_true]
          · simp only [fX8_set, hi, zokM_0, zokM_1, zokM_2, zokM_3, zokM_4, zokM_5, zokM_6, zokM_7, zokM_8, zokM_9, zokM_10, zokM_11, zokM_12, zokM_13, zokM_14, zokM_15, zlaM_1, zlaM_2, zlaM_3, zlaM_4, zlaM_5, zlaM_6, zlaM_7, zlaM_8, zlaM_9, zlaM_10, zlaM_11, zlaM_12, zlaM_13, zlaM_14, zlaM_15, zp_1, zp_h, zp_r, zp_l, zlet, Option.bind_some, spMe_0, spMe_1, spMe_2, spMe_3, spMe_4, spMe_5, spMe_6, spMe_7, spMe_8, spMe_9, spMe_10, spMe_11, spMe_12, spMe_13, spMe_14, spMe_15, if_neg f0, if_neg f3, if_neg one0, if_neg c2, hM.1, m_one0 hM hnM hn5 ha, if_true]
        · rcases cases_in of n (by omega) with h0 | ⟨h1, h0⟩ | ⟨p, hp, rfl, h0⟩
          · exact absurd (Or.inl h0) ha
          · exact absurd (Or.inr h1) ha
          · have hp5 : p < 5 := by omega
            have hA1 : X.2.1 (22 + p) k = M.2.1 6 (4 * p + k - 1) := by
              have h2 := hA.1 p hp5 (k - 1) (by omega)
              rw [show k - 1 + 1 = k by omega, show 4 * p + (k - 1) = 4 * p + k - 1 by omega] at h2
              exact h2
            refine ⟨M.2.1 6 (4 * p + k - 1), zp X (22 + p) k (nI w), zp M 6 (4 * p + k - 1) (nI w), ?_, ?_, ⟨hX.zp _ _ _, hM.zp _ _ _⟩, ?_, ?_, ?_, ?_, ?_, ?_, ?_, ?_⟩
            · simp only [fX7_set, if_neg f0, if_neg f3, if_neg g0, x_most hk, if_pos g2, if_neg c5, zokX_0, zokX_1, zokX_2, zokX_3, zokX_4, zokX_5, zokX_6, zokX_7, zokX_8, zokX_9, zokX_10, zokX_11, zokX_12, zokX_13, zokX_14, zokX_15, zokX_16, zlaX_1, zlaX_2, zlaX_3, zlaX_4, zlaX_5, zlaX_6, zlaX_8, zlaX_11, zlaX_12, zlaX_13, zlaX_15, zlaX_16, zp_1, zp_h, zp_r, zp_l, zlet, Option.bind_some, spXe_0, spXe_1, spXe_2, spXe_3, spXe_4, spXe_5, spXe_6, spXe_7, spXe_8, spXe_9, spXe_10, spXe_11, spXe_12, spXe_13, spXe_14, spXe_15, spXe_16, hX.1, x_seat1 hX hnX hn5 hp, if_neg (show ¬ (some (22 + p) = none) from fun q => by cases q), zok_seat hX.1 hp5, x_tell hX hp5 k1 (by omega), hA1, x_change hX hp5 k1 (show k ≤ 4 by omega)]
            · simp only [fX8_set, fX8_set_j24, hi, if_neg f0, if_neg f3, if_neg one0, if_neg c2, m_most hk, zokM_0, zokM_1, zokM_2, zokM_3, zokM_4, zokM_5, zokM_6, zokM_7, zokM_8, zokM_9, zokM_10, zokM_11, zokM_12, zokM_13, zokM_14, zokM_15, zlaM_1, zlaM_2, zlaM_3, zlaM_4, zlaM_5, zlaM_6, zlaM_7, zlaM_8, zlaM_9, zlaM_10, zlaM_11, zlaM_12, zlaM_13, zlaM_14, zlaM_15, zp_1, zp_h, zp_r, zp_l, zlet, Option.bind_some, spMe_0, spMe_1, spMe_2, spMe_3, spMe_4, spMe_5, spMe_6, spMe_7, spMe_8, spMe_9, spMe_10, spMe_11, spMe_12, spMe_13, spMe_14, spMe_15, in_0, if_neg g0, if_neg g3, hM.1, m_one1 hM hnM hn5 hp, m_told1 hM hnM hn5 hp k1 (show k ≤ 4 by omega), m_lays1 hM hp5 k1 (show k ≤ 4 by omega)]
            · simpa [InvL, zp_h, addne, neadd] using hL
            · simpa [InvD, zp_h, addne, neadd] using hD
            · refine ⟨fun i hi j hj => ?_, fun i hi => ?_, fun i hi hi5 => ?_⟩
              · by_cases e : i = p ∧ j + 1 = k
                · obtain ⟨rfl, rfl⟩ := e
                  rw [zp_h, zp_h, if_pos ⟨rfl, rfl⟩, if_pos ⟨rfl, by omega⟩]
                · have e2 : ¬ (22 + i = 22 + p ∧ j + 1 = k) := by omega
                  have e3 : ¬ 4 * i + j = 4 * p + k - 1 := by omega
                  rw [zp_h, zp_h, if_neg e2, if_neg (fun q => e3 q.2)]
                  exact hA.1 i hi j hj
              · obtain ⟨w1, w2, w3, w4⟩ := hA.2.1 i hi
                have key : ∀ j b, j < 4 → NiR (M.2.1 6 (4 * i + j)) b → (j + 1 = k → w ≤ b) → NiR ((zp M 6 (4 * p + k - 1) (nI w)).2.1 6 (4 * i + j)) b := fun j b hj h1 h2 => by
                  by_cases e : i = p ∧ j + 1 = k
                  · rw [zp_h, if_pos ⟨rfl, by omega⟩]
                    exact ⟨w, h2 e.2, rfl⟩
                  · rw [zp_h, if_neg (fun q => by have := q.2; omega)]
                    exact h1
                have hm1 : most 1 = 9 := rfl
                have hm2 : most 2 = 4095 := rfl
                have hm3 : most 3 = 4095 := rfl
                have hm4 : most 4 = 9999 := rfl
                exact ⟨key 0 9 (by decide) w1 (fun e => by rw [← e] at hw; have : most (0 + 1) = 9 := rfl; omega), key 1 4095 (by decide) w2 (fun e => by rw [← e] at hw; have : most (1 + 1) = 4095 := rfl; omega), key 2 4095 (by decide) w3 (fun e => by rw [← e] at hw; have : most (2 + 1) = 4095 := rfl; omega), key 3 9999 (by decide) w4 (fun e => by rw [← e] at hw; have : most (3 + 1) = 9999 := rfl; omega)⟩
              · have e2 : ¬ (22 + i = 22 + p ∧ 0 = k) := by omega
                have h3 := hA.2.2 i (by simpa [zp_h] using hi) hi5
                have e4 : ¬ ((5 : Nat) = 6 ∧ i = 4 * p + k - 1) := by omega
                show (zp X (22 + p) k (nI w)).2.1 (22 + i) 0 = (zp M 6 (4 * p + k - 1) (nI w)).2.1 5 i ∧ NiR ((zp M 6 (4 * p + k - 1) (nI w)).2.1 5 i) 5
                rw [zp_h, zp_h, if_neg e2, if_neg e4]
                exact h3
            · simpa [InvP, zp_h, addne, neadd] using hP
            · simpa [InvF, zp_h, addne, neadd] using hF
            · have q1 : ∀ s, ¬ (51 + 2 * s = 22 + p) := fun s => by omega
              have q2 : ∀ s, ¬ (52 + 2 * s = 22 + p) := fun s => by omega
              simpa [InvS, zp_h, q1, q2, addne] using hS
            · obtain ⟨I1, I2⟩ := hI
              have e1 : ∀ i, i < 5 → ¬ 17 + i = 22 + p := fun i hi => by omega
              refine ⟨by simpa [zp_h, neadd] using I1, ?_⟩
              rcases I2 with I2 | ⟨k0, nn, k1, k2, k3, k4, k5, k6, k7, k8, k9, k10, k11⟩
              · exact Or.inl (by simpa [zp_h] using I2)
              · exact Or.inr ⟨k0, nn, k1, k2, by simpa [zp_h] using k3, by simpa [zp_h] using k4, by simpa [zp_h, neadd] using k5, by simpa [zp_h] using k6, by simpa [zp_h, neadd] using k7, by simpa [zp_h, neadd] using k8, fun i hi q hq => by simpa [zp_h, e1 i hi] using k9 i hi q hq, by simpa [zp_h] using k10, fun i hi => by simpa [zp_h, e1 i (by omega)] using k11 i hi⟩
            · have q4 : ∀ t, ¬ (27 + 4 * t = 22 + p) := fun t => by omega
              have q5 : ∀ t, ¬ (28 + 4 * t = 22 + p) := fun t => by omega
              have q6 : ∀ t, ¬ (29 + 4 * t = 22 + p) := fun t => by omega
              exact hT.mono (by simp [zp_h]) (fun t ht => by simp [zp_h, q4, q5, q6, addne]) (fun t ht => by simp [zp_h])
