theorem t_cell (a c v : Int32) : TM2 Inv (fun st => fX7_cell 0 a c v st) (fun st => fX8_cell 0 a c v st) := by
  intro X M h
  have hInv := h
  obtain ⟨⟨hX, hM⟩, hL, hD, hA, hP, hF, hS, hI, hT⟩ := h
  have r12 : M.2.2.2 0 42 = some 12 := hM.r (by decide) (by decide)
  have r13 : M.2.2.2 0 43 = some 13 := hM.r (by decide) (by decide)
  have r14 : M.2.2.2 0 44 = some 14 := hM.r (by decide) (by decide)
  have r15 : M.2.2.2 0 45 = some 15 := hM.r (by decide) (by decide)
  by_cases ha : a < 0 ∨ nI 4 ≤ a
  · refine ⟨-2, X, M, ?_, ?_, hInv⟩
    · simp [fX7_cell, zokX_0, zokX_1, zokX_2, zokX_3, zokX_4, zokX_5, zokX_6, zokX_7, zokX_8, zokX_9, zokX_10, zokX_11, zokX_12, zokX_13, zokX_14, zokX_15, zokX_16, zlaX_1, zlaX_2, zlaX_3, zlaX_4, zlaX_5, zlaX_6, zlaX_8, zlaX_11, zlaX_12, zlaX_13, zlaX_15, zlaX_16, zp_1, zp_h, zp_r, zp_l, zlet, Option.bind_some, spXe_0, spXe_1, spXe_2, spXe_3, spXe_4, spXe_5, spXe_6, spXe_7, spXe_8, spXe_9, spXe_10, spXe_11, spXe_12, spXe_13, spXe_14, spXe_15, spXe_16, hX.1, x_sheet0 hX ha]
    · simp [fX8_cell, m_sheet0 M ha]
  · rcases cases_in a 4 (by decide) with h0 | ⟨h1, h0⟩ | ⟨k, hk, rfl, h0⟩
    · exact absurd (Or.inl h0) ha
    · exact absurd (Or.inr h1) ha
    · have z12 : zix spM 12 (nI k) = some k := zix_of rfl hk (by decide)
      have z13 : zix spM 13 (nI k) = some k := zix_of rfl hk (by decide)
      have z14 : zix spM 14 (nI k) = some k := zix_of rfl hk (by decide)
      obtain ⟨s1, s2⟩ := hS k hk
      rcases s2 with ⟨q1, q2, q3⟩ | ⟨⟨t, ht, q1⟩, q2, n, hn40, q3, q4, q5⟩
      · refine ⟨-11, X, M, ?_, ?_, hInv⟩
        · simp [fX7_cell, zokX_0, zokX_1, zokX_2, zokX_3, zokX_4, zokX_5, zokX_6, zokX_7, zokX_8, zokX_9, zokX_10, zokX_11, zokX_12, zokX_13, zokX_14, zokX_15, zokX_16, zlaX_1, zlaX_2, zlaX_3, zlaX_4, zlaX_5, zlaX_6, zlaX_8, zlaX_11, zlaX_12, zlaX_13, zlaX_15, zlaX_16, zp_1, zp_h, zp_r, zp_l, zlet, Option.bind_some, spXe_0, spXe_1, spXe_2, spXe_3, spXe_4, spXe_5, spXe_6, spXe_7, spXe_8, spXe_9, spXe_10, spXe_11, spXe_12, spXe_13, spXe_14, spXe_15, spXe_16, hX.1, x_sheet1 hX hk, zok_sheet hX.1 hk, x_miss hX hk, q1]
        · simp [fX8_cell, m_sheet1 M hk, zokM_0, zokM_1, zokM_2, zokM_3, zokM_4, zokM_5, zokM_6, zokM_7, zokM_8, zokM_9, zokM_10, zokM_11, zokM_12, zokM_13, zokM_14, zokM_15, zlaM_1, zlaM_2, zlaM_3, zlaM_4, zlaM_5, zlaM_6, zlaM_7, zlaM_8, zlaM_9, zlaM_10, zlaM_11, zlaM_12, zlaM_13, zlaM_14, zlaM_15, zp_1, zp_h, zp_r, zp_l, zlet, Option.bind_some, in_eq, spMe_0, spMe_1, spMe_2, spMe_3, spMe_4, spMe_5, spMe_6, spMe_7, spMe_8, spMe_9, spMe_10, spMe_11, spMe_12, spMe_13, spMe_14, spMe_15, hM.1, r12, z12, q2]
      · have hne : ¬ nI t = (-1 : Int32) := fun q => absurd q (by rcases (show t = 0 ∨ t = 1 ∨ t = 2 by omega) with rfl | rfl | rfl <;> decide)
        have hs13 : M.2.1 13 k = nI t := by
          rcases s1 with e | e
          · exact e.trans q1
          · exact absurd (q1.symm.trans e) hne
        have hq2 : ¬ M.2.1 12 k = 0 := by rw [q2]; decide
        by_cases hc : c < 0 ∨ nI n ≤ c
        · refine ⟨-12, X, M, ?_, ?_, hInv⟩
          · by_cases c0 : c < 0
            · simp [fX7_cell, zokX_0, zokX_1, zokX_2, zokX_3, zokX_4, zokX_5, zokX_6, zokX_7, zokX_8, zokX_9, zokX_10, zokX_11, zokX_12, zokX_13, zokX_14, zokX_15, zokX_16, zlaX_1, zlaX_2, zlaX_3, zlaX_4, zlaX_5, zlaX_6, zlaX_8, zlaX_11, zlaX_12, zlaX_13, zlaX_15, zlaX_16, zp_1, zp_h, zp_r, zp_l, zlet, Option.bind_some, spXe_0, spXe_1, spXe_2, spXe_3, spXe_4, spXe_5, spXe_6, spXe_7, spXe_8, spXe_9, spXe_10, spXe_11, spXe_12, spXe_13, spXe_14, spXe_15, spXe_16, hX.1, x_sheet1 hX hk, zok_sheet hX.1 hk, x_miss hX hk, q1, hne, c0]
            · have c1 : ¬ c < nI n := Int32.not_lt.mpr (hc.resolve_left c0)
              simp only [fX7_cell, zokX_0, zokX_1, zokX_2, zokX_3, zokX_4, zokX_5, zokX_6, zokX_7, zokX_8, zokX_9, zokX_10, zokX_11, zokX_12, zokX_13, zokX_14, zokX_15, zokX_16, zlaX_1, zlaX_2, zlaX_3, zlaX_4, zlaX_5, zlaX_6, zlaX_8, zlaX_11, zlaX_12, zlaX_13, zlaX_15, zlaX_16, zp_1, zp_h, zp_r, zp_l, zlet, Option.bind_some, spXe_0, spXe_1, spXe_2, spXe_3, spXe_4, spXe_5, spXe_6, spXe_7, spXe_8, spXe_9, spXe_10, spXe_11, spXe_12, spXe_13, spXe_14, spXe_15, spXe_16, hX.1, x_sheet1 hX hk, zok_sheet hX.1 hk, x_miss hX hk, q1, if_neg hne, if_neg c0, q3, if_neg c1, if_true, if_neg (show ¬ (some (51 + 2 * k) = none) from fun q => by cases q)]
          · by_cases c0 : c < 0
            · simp only [fX8_cell, m_sheet1 M hk, zokM_0, zokM_1, zokM_2, zokM_3, zokM_4, zokM_5, zokM_6, zokM_7, zokM_8, zokM_9, zokM_10, zokM_11, zokM_12, zokM_13, zokM_14, zokM_15, zlaM_1, zlaM_2, zlaM_3, zlaM_4, zlaM_5, zlaM_6, zlaM_7, zlaM_8, zlaM_9, zlaM_10, zlaM_11, zlaM_12, zlaM_13, zlaM_14, zlaM_15, zp_1, zp_h, zp_r, zp_l, zlet, Option.bind_some, spMe_0, spMe_1, spMe_2, spMe_3, spMe_4, spMe_5, spMe_6, spMe_7, spMe_8, spMe_9, spMe_10, spMe_11, spMe_12, spMe_13, spMe_14, spMe_15, in_0, hM.1, r12, z12, if_neg hq2, if_neg one0, r14, z14, q4, if_pos c0, if_true]
            · have c1 : nI n - 1 < c := by
                rw [Int32.lt_iff_toInt_lt]
                have h1 := hc.resolve_left c0
                rw [Int32.le_iff_toInt_le] at h1
                have e1 : (nI n - 1).toInt = (n : Int) - 1 := pk_sub_toInt (a := n) (b := 1) (by omega) (by decide)
                have e2 : (nI n).toInt = (n : Int) := nI_toInt (by omega)
                omega
              simp only [fX8_cell, m_sheet1 M hk, zokM_0, zokM_1, zokM_2, zokM_3, zokM_4, zokM_5, zokM_6, zokM_7, zokM_8, zokM_9, zokM_10, zokM_11, zokM_12, zokM_13, zokM_14, zokM_15, zlaM_1, zlaM_2, zlaM_3, zlaM_4, zlaM_5, zlaM_6, zlaM_7, zlaM_8, zlaM_9, zlaM_10, zlaM_11, zlaM_12, zlaM_13, zlaM_14, zlaM_15, zp_1, zp_h, zp_r, zp_l, zlet, Option.bind_some, spMe_0, spMe_1, spMe_2, spMe_3, spMe_4, spMe_5, spMe_6, spMe_7, spMe_8, spMe_9, spMe_10, spMe_11, spMe_12, spMe_13, spMe_14, spMe_15, in_0, hM.1, r12, z12, if_neg hq2, if_neg one0, r14, z14, q4, if_neg c0, if_pos c1, if_true]
        · rcases cases_in c n (by omega) with c0 | ⟨c1, c0⟩ | ⟨i, hi, rfl, c0⟩
          · exact absurd (Or.inl c0) hc
          · exact absurd (Or.inr c1) hc
          · have c1 : nI i < nI n := nI_lt hi (by omega)
            have c2 : ¬ nI n - 1 < nI i := by
              rw [Int32.lt_iff_toInt_lt]
              have e1 : (nI n - 1).toInt = (n : Int) - 1 := pk_sub_toInt (a := n) (b := 1) (by omega) (by decide)
              have e2 : (nI i).toInt = (i : Int) := nI_toInt (by omega)
              omega
            have z15 : zix spM 15 (nI (40 * k + i)) = some (40 * k + i) := zix_of rfl (by show 40 * k + i < 160; omega) (by decide)
            refine ⟨1, zp X (52 + 2 * k) i (castS (nI t) v), zp M 15 (40 * k + i) (castS (nI t) v), ?_, ?_, ⟨hX.zp _ _ _, hM.zp _ _ _⟩, ?_, ?_, ?_, ?_, ?_, ?_, ?_, ?_⟩
            · simp only [fX7_cell, zokX_0, zokX_1, zokX_2, zokX_3, zokX_4, zokX_5, zokX_6, zokX_7, zokX_8, zokX_9, zokX_10, zokX_11, zokX_12, zokX_13, zokX_14, zokX_15, zokX_16, zlaX_1, zlaX_2, zlaX_3, zlaX_4, zlaX_5, zlaX_6, zlaX_8, zlaX_11, zlaX_12, zlaX_13, zlaX_15, zlaX_16, zp_1, zp_h, zp_r, zp_l, zlet, Option.bind_some, spXe_0, spXe_1, spXe_2, spXe_3, spXe_4, spXe_5, spXe_6, spXe_7, spXe_8, spXe_9, spXe_10, spXe_11, spXe_12, spXe_13, spXe_14, spXe_15, spXe_16, hX.1, x_sheet1 hX hk, zok_sheet hX.1 hk, x_miss hX hk, q1, if_neg hne, if_neg c0, q3, if_pos c1, if_true, if_neg (show ¬ (some (51 + 2 * k) = none) from fun q => by cases q), x_put hX hk q3 hn40 hi]
            · unfold castS
              by_cases t0 : nI t = 0
              · simp only [fX8_cell, m_sheet1 M hk, zokM_0, zokM_1, zokM_2, zokM_3, zokM_4, zokM_5, zokM_6, zokM_7, zokM_8, zokM_9, zokM_10, zokM_11, zokM_12, zokM_13, zokM_14, zokM_15, zlaM_1, zlaM_2, zlaM_3, zlaM_4, zlaM_5, zlaM_6, zlaM_7, zlaM_8, zlaM_9, zlaM_10, zlaM_11, zlaM_12, zlaM_13, zlaM_14, zlaM_15, zp_1, zp_h, zp_r, zp_l, zlet, Option.bind_some, spMe_0, spMe_1, spMe_2, spMe_3, spMe_4, spMe_5, spMe_6, spMe_7, spMe_8, spMe_9, spMe_10, spMe_11, spMe_12, spMe_13, spMe_14, spMe_15, in_0, hM.1, r12, z12, if_neg hq2, if_neg one0, r14, z14, q4, if_neg c0, if_neg c2, r13, z13, hs13, r15, if_pos t0, idx40s, z15]
              · by_cases t1 : nI t = 1
                · simp only [fX8_cell, m_sheet1 M hk, zokM_0, zokM_1, zokM_2, zokM_3, zokM_4, zokM_5, zokM_6, zokM_7, zokM_8, zokM_9, zokM_10, zokM_11, zokM_12, zokM_13, zokM_14, zokM_15, zlaM_1, zlaM_2, zlaM_3, zlaM_4, zlaM_5, zlaM_6, zlaM_7, zlaM_8, zlaM_9, zlaM_10, zlaM_11, zlaM_12, zlaM_13, zlaM_14, zlaM_15, zp_1, zp_h, zp_r, zp_l, zlet, Option.bind_some, spMe_0, spMe_1, spMe_2, spMe_3, spMe_4, spMe_5, spMe_6, spMe_7, spMe_8, spMe_9, spMe_10, spMe_11, spMe_12, spMe_13, spMe_14, spMe_15, in_0, hM.1, r12, z12, if_neg hq2, if_neg one0, r14, z14, q4, if_neg c0, if_neg c2, r13, z13, hs13, r15, if_neg t0, if_pos t1, idx40s, z15]
                · simp only [fX8_cell, m_sheet1 M hk, zokM_0, zokM_1, zokM_2, zokM_3, zokM_4, zokM_5, zokM_6, zokM_7, zokM_8, zokM_9, zokM_10, zokM_11, zokM_12, zokM_13, zokM_14, zokM_15, zlaM_1, zlaM_2, zlaM_3, zlaM_4, zlaM_5, zlaM_6, zlaM_7, zlaM_8, zlaM_9, zlaM_10, zlaM_11, zlaM_12, zlaM_13, zlaM_14, zlaM_15, zp_1, zp_h, zp_r, zp_l, zlet, Option.bind_some, spMe_0, spMe_1, spMe_2, spMe_3, spMe_4, spMe_5, spMe_6, spMe_7, spMe_8, spMe_9, spMe_10, spMe_11, spMe_12, spMe_13, spMe_14, spMe_15, in_0, hM.1, r12, z12, if_neg hq2, if_neg one0, r14, z14, q4, if_neg c0, if_neg c2, r13, z13, hs13, r15, if_neg t0, if_neg t1, idx40s, z15]
            · simpa [InvL, zp_h, addne, neadd] using hL
            · simpa [InvD, zp_h, addne, neadd] using hD
            · have e1 : ∀ i, i < 5 → ¬ 22 + i = 52 + 2 * k := fun i hi => by omega
              exact ⟨fun i hi k2 hk2 => by simpa [zp_h, e1 i hi] using hA.1 i hi k2 hk2, by simpa [zp_h] using hA.2.1, fun i hi hi5 => by simpa [zp_h, e1 i hi5] using hA.2.2 i (by simpa [zp_h] using hi) hi5⟩
            · simpa [InvP, zp_h, addne, neadd] using hP
            · simpa [InvF, zp_h, addne, neadd] using hF
            · intro s hs
              have e1 : ¬ 51 + 2 * s = 52 + 2 * k := by omega
              obtain ⟨w1, w2⟩ := hS s hs
              refine ⟨by simpa [zp_h, e1] using w1, ?_⟩
              rcases w2 with w2 | ⟨w2, w3, m, m1, m2, m3, m4⟩
              · exact Or.inl (by simpa [zp_h, e1] using w2)
              · refine Or.inr ⟨by simpa [zp_h, e1] using w2, by simpa [zp_h] using w3, m, m1, by simpa [zp_h, e1] using m2, by simpa [zp_h] using m3, fun j hj => ?_⟩
                by_cases e : s = k ∧ j = i
                · obtain ⟨rfl, rfl⟩ := e; simp [zp_h]
                · have e2 : ¬ (52 + 2 * s = 52 + 2 * k ∧ j = i) := by omega
                  have e3 : ¬ (40 * s + j = 40 * k + i) := by omega
                  rw [zp_h, zp_h, if_neg e2, if_neg (fun q => e3 q.2)]; exact m4 j hj
            · obtain ⟨I1, I2⟩ := hI
              have e1 : ∀ i, i < 5 → ¬ 17 + i = 52 + 2 * k := fun i hi => by omega
              refine ⟨by simpa [zp_h, neadd] using I1, ?_⟩
              rcases I2 with I2 | ⟨k0, nn, k1, k2, k3, k4, k5, k6, k7, k8, k9, k10, k11⟩
              · exact Or.inl (by simpa [zp_h] using I2)
              · exact Or.inr ⟨k0, nn, k1, k2, by simpa [zp_h] using k3, by simpa [zp_h] using k4, by simpa [zp_h, neadd] using k5, by simpa [zp_h] using k6, by simpa [zp_h, neadd] using k7, by simpa [zp_h, neadd] using k8, fun p hp q hq => by simpa [zp_h, e1 p hp] using k9 p hp q hq, by simpa [zp_h] using k10, fun p hp => by simpa [zp_h, e1 p (by omega)] using k11 p hp⟩
            · have e1 : ∀ t, t < 6 → ¬ 27 + 4 * t = 52 + 2 * k := fun t ht => by omega
              have e2 : ∀ t, t < 6 → ¬ 28 + 4 * t = 52 + 2 * k := fun t ht => by omega
              have e3 : ∀ t, t < 6 → ¬ 29 + 4 * t = 52 + 2 * k := fun t ht => by omega
              exact hT.mono (by simp [zp_h]) (fun t ht => by simp [zp_h, e1 t ht, e2 t ht, e3 t ht]) (fun t ht => by simp [zp_h])
