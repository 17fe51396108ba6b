theorem idx4 (k j : Nat) : (4 : Int32) * nI k + nI j = nI (4 * k + j) := by
  show nI 4 * nI k + nI j = _
  rw [pk_mul, nI_add]
theorem many_of {X M : zS} (h : InvD X M) : ∃ n, n ≤ 5 ∧ X.2.1 0 10 = nI n ∧ M.2.1 0 11 = nI n := by
  obtain ⟨-, ⟨h1, n, hn, h2⟩, -⟩ := h
  exact ⟨n, hn, h1.trans h2, h2⟩
theorem t_share (a c : Int32) : TM2 Inv (fun st => fX7_share 0 a c st) (fun st => fX8_share 0 a c st) := by
  intro X M h
  have hInv := h
  obtain ⟨⟨hX, hM⟩, hL, hD, hA, hP, hF, hS, hI, hT⟩ := h
  obtain ⟨n, hn5, hnX, hnM⟩ := many_of hD
  have hi := fun st => in_1 c 1 1 (by decide) st
  by_cases ha : a < 0 ∨ nI n ≤ a
  · refine ⟨-4611686018427387904, X, M, ?_, ?_, hInv⟩
    · simp [fX7_share, zokX_0, zokX_1, zokX_2, zokX_3, zokX_4, zokX_5, zokX_6, zokX_7, zokX_8, zokX_9, zokX_10, zokX_11, zokX_12, zokX_13, zokX_14, zokX_15, zokX_16, zlaX_1, zlaX_2, zlaX_3, zlaX_4, zlaX_5, zlaX_6, zlaX_8, zlaX_11, zlaX_12, zlaX_13, zlaX_15, zlaX_16, zp_1, zp_h, zp_r, zp_l, zlet, Option.bind_some, spXe_0, spXe_1, spXe_2, spXe_3, spXe_4, spXe_5, spXe_6, spXe_7, spXe_8, spXe_9, spXe_10, spXe_11, spXe_12, spXe_13, spXe_14, spXe_15, spXe_16, hX.1, x_seat0 hX hnX ha]
    · simp [fX8_share, fX8_share_j42, zokM_0, zokM_1, zokM_2, zokM_3, zokM_4, zokM_5, zokM_6, zokM_7, zokM_8, zokM_9, zokM_10, zokM_11, zokM_12, zokM_13, zokM_14, zokM_15, zlaM_1, zlaM_2, zlaM_3, zlaM_4, zlaM_5, zlaM_6, zlaM_7, zlaM_8, zlaM_9, zlaM_10, zlaM_11, zlaM_12, zlaM_13, zlaM_14, zlaM_15, zp_1, zp_h, zp_r, zp_l, zlet, Option.bind_some, in_eq, spMe_0, spMe_1, spMe_2, spMe_3, spMe_4, spMe_5, spMe_6, spMe_7, spMe_8, spMe_9, spMe_10, spMe_11, spMe_12, spMe_13, spMe_14, spMe_15, hM.1, m_one0 hM hnM hn5 ha]
  · rcases cases_in a n (by omega) with h0 | ⟨h1, h0⟩ | ⟨k, hk, rfl, h0⟩
    · exact absurd (Or.inl h0) ha
    · exact absurd (Or.inr h1) ha
    · rcases cases_in c 2 (by decide) with g0 | ⟨g1, g0⟩ | ⟨j, hj, rfl, g0⟩
      · refine ⟨-4611686018427387904, X, M, ?_, ?_, hInv⟩
        · simp [fX7_share, zokX_0, zokX_1, zokX_2, zokX_3, zokX_4, zokX_5, zokX_6, zokX_7, zokX_8, zokX_9, zokX_10, zokX_11, zokX_12, zokX_13, zokX_14, zokX_15, zokX_16, zlaX_1, zlaX_2, zlaX_3, zlaX_4, zlaX_5, zlaX_6, zlaX_8, zlaX_11, zlaX_12, zlaX_13, zlaX_15, zlaX_16, zp_1, zp_h, zp_r, zp_l, zlet, Option.bind_some, spXe_0, spXe_1, spXe_2, spXe_3, spXe_4, spXe_5, spXe_6, spXe_7, spXe_8, spXe_9, spXe_10, spXe_11, spXe_12, spXe_13, spXe_14, spXe_15, spXe_16, hX.1, x_seat1 hX hnX hn5 hk, g0]
        · simp [fX8_share, fX8_share_j42, zokM_0, zokM_1, zokM_2, zokM_3, zokM_4, zokM_5, zokM_6, zokM_7, zokM_8, zokM_9, zokM_10, zokM_11, zokM_12, zokM_13, zokM_14, zokM_15, zlaM_1, zlaM_2, zlaM_3, zlaM_4, zlaM_5, zlaM_6, zlaM_7, zlaM_8, zlaM_9, zlaM_10, zlaM_11, zlaM_12, zlaM_13, zlaM_14, zlaM_15, zp_1, zp_h, zp_r, zp_l, zlet, Option.bind_some, spMe_0, spMe_1, spMe_2, spMe_3, spMe_4, spMe_5, spMe_6, spMe_7, spMe_8, spMe_9, spMe_10, spMe_11, spMe_12, spMe_13, spMe_14, spMe_15, hM.1, m_one1 hM hnM hn5 hk, hi, g0]
      · have g2 : ¬ c ≤ 1 := Int32.not_le.mpr (Int32.lt_of_lt_of_le (nI_lt (a := 1) (b := 2) (by decide) (by decide)) g1)
        have g3 : (1 : Int32) < c := Int32.not_le.mp g2
        refine ⟨-4611686018427387904, X, M, ?_, ?_, hInv⟩
        · simp [fX7_share, zokX_0, zokX_1, zokX_2, zokX_3, zokX_4, zokX_5, zokX_6, zokX_7, zokX_8, zokX_9, zokX_10, zokX_11, zokX_12, zokX_13, zokX_14, zokX_15, zokX_16, zlaX_1, zlaX_2, zlaX_3, zlaX_4, zlaX_5, zlaX_6, zlaX_8, zlaX_11, zlaX_12, zlaX_13, zlaX_15, zlaX_16, zp_1, zp_h, zp_r, zp_l, zlet, Option.bind_some, spXe_0, spXe_1, spXe_2, spXe_3, spXe_4, spXe_5, spXe_6, spXe_7, spXe_8, spXe_9, spXe_10, spXe_11, spXe_12, spXe_13, spXe_14, spXe_15, spXe_16, hX.1, x_seat1 hX hnX hn5 hk, g0, g2]
        · simp [fX8_share, fX8_share_j42, zokM_0, zokM_1, zokM_2, zokM_3, zokM_4, zokM_5, zokM_6, zokM_7, zokM_8, zokM_9, zokM_10, zokM_11, zokM_12, zokM_13, zokM_14, zokM_15, zlaM_1, zlaM_2, zlaM_3, zlaM_4, zlaM_5, zlaM_6, zlaM_7, zlaM_8, zlaM_9, zlaM_10, zlaM_11, zlaM_12, zlaM_13, zlaM_14, zlaM_15, zp_1, zp_h, zp_r, zp_l, zlet, Option.bind_some, spMe_0, spMe_1, spMe_2, spMe_3, spMe_4, spMe_5, spMe_6, spMe_7, spMe_8, spMe_9, spMe_10, spMe_11, spMe_12, spMe_13, spMe_14, spMe_15, hM.1, m_one1 hM hnM hn5 hk, hi, g0, g3]
      · have g2 : nI j ≤ (1 : Int32) := nI_le (b := 1) (by omega) (by decide)
        have g3 : ¬ (1 : Int32) < nI j := Int32.not_lt.mpr g2
        have hk5 : k < 5 := by omega
        obtain ⟨u, hu, hu2⟩ := (hA.2.1 k hk5).2.2.1
        have hu3 : X.2.1 (22 + k) 3 = nI u := (hA.1 k hk5 2 (by decide)).trans hu2
        have hr : M.2.2.2 0 10 = some 6 := hM.r (by decide) (by decide)
        have hz : zix spM 6 (nI (4 * k + 2)) = some (4 * k + 2) := zix_of rfl (by show 4 * k + 2 < 20; omega) (by decide)
        obtain ⟨r, r1, r2⟩ := low_both (a := pc u) (b := 12) (p := j) (Nat.le_trans (pc_le u) (by decide)) (by decide) (by decide) (by omega) X M
        have r1 : fX7_lowest (nI (pc u)) 12 (nI j) X = some (r, X) := r1
        have r2 : fX8_lowest (nI (pc u)).toInt64 12 (nI j) M = some (r, M) := by rw [nI_l (by have := pc_le u; omega)]; exact r2
        have i4 : (4 : Int32) * nI k + 2 = nI (4 * k + 2) := idx4 k 2
        refine ⟨r, X, M, ?_, ?_, hInv⟩
        · simp [fX7_share, zokX_0, zokX_1, zokX_2, zokX_3, zokX_4, zokX_5, zokX_6, zokX_7, zokX_8, zokX_9, zokX_10, zokX_11, zokX_12, zokX_13, zokX_14, zokX_15, zokX_16, zlaX_1, zlaX_2, zlaX_3, zlaX_4, zlaX_5, zlaX_6, zlaX_8, zlaX_11, zlaX_12, zlaX_13, zlaX_15, zlaX_16, zp_1, zp_h, zp_r, zp_l, zlet, Option.bind_some, spXe_0, spXe_1, spXe_2, spXe_3, spXe_4, spXe_5, spXe_6, spXe_7, spXe_8, spXe_9, spXe_10, spXe_11, spXe_12, spXe_13, spXe_14, spXe_15, spXe_16, hX.1, x_seat1 hX hnX hn5 hk, g0, g2, zok_seat hX.1 hk5, hu3, x_bits hu, r1]
        · simp [fX8_share, zokM_0, zokM_1, zokM_2, zokM_3, zokM_4, zokM_5, zokM_6, zokM_7, zokM_8, zokM_9, zokM_10, zokM_11, zokM_12, zokM_13, zokM_14, zokM_15, zlaM_1, zlaM_2, zlaM_3, zlaM_4, zlaM_5, zlaM_6, zlaM_7, zlaM_8, zlaM_9, zlaM_10, zlaM_11, zlaM_12, zlaM_13, zlaM_14, zlaM_15, zp_1, zp_h, zp_r, zp_l, zlet, Option.bind_some, spMe_0, spMe_1, spMe_2, spMe_3, spMe_4, spMe_5, spMe_6, spMe_7, spMe_8, spMe_9, spMe_10, spMe_11, spMe_12, spMe_13, spMe_14, spMe_15, hM.1, m_one1 hM hnM hn5 hk, hi, g0, g3, hr, i4, hz, hu2, m_bits hu, r2]
