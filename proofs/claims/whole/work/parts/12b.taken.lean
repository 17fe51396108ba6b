def tkF : Nat → Nat → Bool
  | i, j => i == j || (i == 1 && j == 0) || (i == 2 && j == 0) || (i == 3 && (j == 1 || j == 0)) || (i == 4 && (j == 2 || j == 0)) || (i == 5 && j == 0)
set_option maxRecDepth 100000 in
theorem x_tk (X : zS) (r : Option Nat) {i j : Nat} (hi : i < 6) (hj : j < 6) : fX7_taken_L35 0 zF (nI j) r (nI i) 0 X = if tkF i j = true then ((zok spX X r 0).bind fun o => some (X.2.1 o 1, X)) else some (-13, X) := by
  rcases (show i = 0 ∨ i = 1 ∨ i = 2 ∨ i = 3 ∨ i = 4 ∨ i = 5 by omega) with rfl | rfl | rfl | rfl | rfl | rfl <;> rcases (show j = 0 ∨ j = 1 ∨ j = 2 ∨ j = 3 ∨ j = 4 ∨ j = 5 by omega) with rfl | rfl | rfl | rfl | rfl | rfl <;> rfl
set_option maxRecDepth 100000 in
theorem m_tk (M : zS) (a : Int32) {i j : Nat} (hi : i < 6) (hj : j < 6) : fX8_taken_L33 0 zF a (nI j) (nI i) M = if tkF i j = true then ((zok spM M (some 0) 8).bind fun o1 => (zok spM M (M.2.2.2 o1 10) 9).bind fun o2 => (zix spM o2 ((4 : Int32) * a)).bind fun j3 => some ((M.2.1 o2 j3), M)) else some (-13, M) := by
  rcases (show i = 0 ∨ i = 1 ∨ i = 2 ∨ i = 3 ∨ i = 4 ∨ i = 5 by omega) with rfl | rfl | rfl | rfl | rfl | rfl <;> rcases (show j = 0 ∨ j = 1 ∨ j = 2 ∨ j = 3 ∨ j = 4 ∨ j = 5 by omega) with rfl | rfl | rfl | rfl | rfl | rfl <;> rfl
theorem idx40 (k : Nat) : (4 : Int32) * nI k = nI (4 * k) := pk_mul 4 k
theorem kind_of {X M : zS} (hA : InvA X M) {n : Nat} (hn : M.2.1 0 11 = nI n) (h5 : n ≤ 5) {k : Nat} (hk : k < n) : ∃ i, i < 6 ∧ X.2.1 (22 + k) 0 = nI i ∧ M.2.1 5 k = nI i := by
  obtain ⟨h1, i, hi, h2⟩ := hA.2.2 k (by rw [hn]; exact nI_lt hk (by omega)) (by omega)
  exact ⟨i, by omega, h1.trans h2, h2⟩
theorem t_taken (a c : Int32) : TM2 Inv (fun st => fX7_taken 0 a c st) (fun st => fX8_taken 0 a c st) := by
  intro X M h
  have hInv := h
  obtain ⟨⟨hX, hM⟩, hL, hD, hA, hP, hF, hS, hI, hT⟩ := h
  obtain ⟨n, hn5, hnX, hnM⟩ := many_of hD
  have hi := fun st => in_1 c 5 5 (by decide) st
  rcases cases_in c 6 (by decide) with g0 | ⟨g1, g0⟩ | ⟨j, hj, rfl, g0⟩
  · refine ⟨-2, X, M, ?_, ?_, hInv⟩
    · simp [fX7_taken, g0]
    · simp [fX8_taken, hi, g0]
  · have g2 : ¬ c < 6 := Int32.not_lt.mpr g1
    have g3 : (5 : Int32) < c := Int32.lt_of_lt_of_le (nI_lt (a := 5) (b := 6) (by decide) (by decide)) g1
    refine ⟨-2, X, M, ?_, ?_, hInv⟩
    · simp only [fX7_taken, if_neg g0, if_neg g2]
    · simp only [fX8_taken, hi, Option.bind_some, if_neg g0, if_pos g3, if_true]
  · have g2 : nI j < (6 : Int32) := nI_lt (b := 6) hj (by decide)
    have g3 : ¬ (5 : Int32) < nI j := nI_nlt (a := 5) (by omega) (by decide)
    by_cases ha : a < 0 ∨ nI n ≤ a
    · refine ⟨-11, X, M, ?_, ?_, hInv⟩
      · simp only [fX7_taken, if_neg g0, if_pos g2, zokX_0, zokX_1, zokX_2, zokX_3, zokX_4, zokX_5, zokX_6, zokX_7, zokX_8, zokX_9, zokX_10, zokX_11, zokX_12, zokX_13, zokX_14, zokX_15, zokX_16, zlaX_1, zlaX_2, zlaX_3, zlaX_4, zlaX_5, zlaX_6, zlaX_8, zlaX_11, zlaX_12, zlaX_13, zlaX_15, zlaX_16, zp_1, zp_h, zp_r, zp_l, zlet, Option.bind_some, spXe_0, spXe_1, spXe_2, spXe_3, spXe_4, spXe_5, spXe_6, spXe_7, spXe_8, spXe_9, spXe_10, spXe_11, spXe_12, spXe_13, spXe_14, spXe_15, spXe_16, hX.1, x_seat0 hX hnX ha, if_true]
      · simp only [fX8_taken, hi, if_neg g0, if_neg g3, if_neg one0, zokM_0, zokM_1, zokM_2, zokM_3, zokM_4, zokM_5, zokM_6, zokM_7, zokM_8, zokM_9, zokM_10, zokM_11, zokM_12, zokM_13, zokM_14, zokM_15, zlaM_1, zlaM_2, zlaM_3, zlaM_4, zlaM_5, zlaM_6, zlaM_7, zlaM_8, zlaM_9, zlaM_10, zlaM_11, zlaM_12, zlaM_13, zlaM_14, zlaM_15, zp_1, zp_h, zp_r, zp_l, zlet, Option.bind_some, spMe_0, spMe_1, spMe_2, spMe_3, spMe_4, spMe_5, spMe_6, spMe_7, spMe_8, spMe_9, spMe_10, spMe_11, spMe_12, spMe_13, spMe_14, spMe_15, hM.1, m_one0 hM hnM hn5 ha, if_true]
    · rcases cases_in a n (by omega) with h0 | ⟨h1, h0⟩ | ⟨k, hk, rfl, h0⟩
      · exact absurd (Or.inl h0) ha
      · exact absurd (Or.inr h1) ha
      · have hk5 : k < 5 := by omega
        obtain ⟨i, hi6, hi1, hi2⟩ := kind_of hA hnM hn5 hk
        have hu : X.2.1 (22 + k) 1 = M.2.1 6 (4 * k) := hA.1 k hk5 0 (by decide)
        have hr : M.2.2.2 0 9 = some 5 := hM.r (by decide) (by decide)
        have hr2 : M.2.2.2 0 10 = some 6 := hM.r (by decide) (by decide)
        have hz : zix spM 5 (nI k) = some k := zix_of rfl (by show k < 5; omega) (by decide)
        have hz2 : zix spM 6 (nI (4 * k)) = some (4 * k) := zix_of rfl (by show 4 * k < 20; omega) (by decide)
        refine ⟨if tkF i j = true then M.2.1 6 (4 * k) else -13, X, M, ?_, ?_, hInv⟩
        · simp only [fX7_taken, if_neg g0, if_pos g2, zokX_0, zokX_1, zokX_2, zokX_3, zokX_4, zokX_5, zokX_6, zokX_7, zokX_8, zokX_9, zokX_10, zokX_11, zokX_12, zokX_13, zokX_14, zokX_15, zokX_16, zlaX_1, zlaX_2, zlaX_3, zlaX_4, zlaX_5, zlaX_6, zlaX_8, zlaX_11, zlaX_12, zlaX_13, zlaX_15, zlaX_16, zp_1, zp_h, zp_r, zp_l, zlet, Option.bind_some, spXe_0, spXe_1, spXe_2, spXe_3, spXe_4, spXe_5, spXe_6, spXe_7, spXe_8, spXe_9, spXe_10, spXe_11, spXe_12, spXe_13, spXe_14, spXe_15, spXe_16, hX.1, x_seat1 hX hnX hn5 hk, if_neg (show ¬ (some (22 + k) = none) from fun q => by cases q), zok_seat hX.1 hk5, hi1, x_tk X _ hi6 hj, hu]
          split <;> rfl
        · simp only [fX8_taken, hi, if_neg g0, if_neg g3, if_neg one0, zokM_0, zokM_1, zokM_2, zokM_3, zokM_4, zokM_5, zokM_6, zokM_7, zokM_8, zokM_9, zokM_10, zokM_11, zokM_12, zokM_13, zokM_14, zokM_15, zlaM_1, zlaM_2, zlaM_3, zlaM_4, zlaM_5, zlaM_6, zlaM_7, zlaM_8, zlaM_9, zlaM_10, zlaM_11, zlaM_12, zlaM_13, zlaM_14, zlaM_15, zp_1, zp_h, zp_r, zp_l, zlet, Option.bind_some, spMe_0, spMe_1, spMe_2, spMe_3, spMe_4, spMe_5, spMe_6, spMe_7, spMe_8, spMe_9, spMe_10, spMe_11, spMe_12, spMe_13, spMe_14, spMe_15, hM.1, m_one1 hM hnM hn5 hk, hr, hz, hi2, m_tk M _ hi6 hj, hr2, idx40, hz2]
          split <;> rfl
