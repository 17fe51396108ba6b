theorem x_thing0 {a : Int32} (X : zS) (h : a < 0 ∨ nI 12 ≤ a) : fX7_isThing a X = some (0, X) := by
  by_cases h0 : a < 0
  · simp [fX7_isThing, fX7_isThing_j14, h0]
  · have h1 : (12 : Int32) ≤ a := h.resolve_left h0
    simp [fX7_isThing, fX7_isThing_j14, h0, h1]
theorem x_thing1 {k : Nat} (X : zS) (h : k < 12) : fX7_isThing (nI k) X = some (1, X) := by
  have h0 : ¬ nI k < 0 := nI_pos (by omega)
  have h1 : ¬ (12 : Int32) ≤ nI k := nI_ge (b := 12) (a := k) h (by decide)
  simp [fX7_isThing, fX7_isThing_j14, h0, h1]
theorem m_thing0 {a : Int32} (M : zS) (h : a < 0 ∨ nI 12 ≤ a) : fX8_isThing a M = some (0, M) := by
  have hi := in_1 a 11 11 (by decide) M
  by_cases h0 : a < 0
  · simp [fX8_isThing, hi, h0]
  · have h1 : (11 : Int32) < a := Int32.lt_of_lt_of_le (nI_lt (a := 11) (b := 12) (by decide) (by decide)) (h.resolve_left h0)
    simp [fX8_isThing, hi, h0, h1]
theorem m_thing1 {k : Nat} (M : zS) (h : k < 12) : fX8_isThing (nI k) M = some (1, M) := by
  have hi := in_1 (nI k) 11 11 (by decide) M
  have h0 : ¬ nI k < 0 := nI_pos (by omega)
  have h1 : ¬ (11 : Int32) < nI k := nI_nlt (a := 11) (by omega) (by decide)
  simp [fX8_isThing, hi, h0, h1]
theorem x_seat0 {X : zS} (hX : shX X) {n : Nat} (hn : X.2.1 0 10 = nI n) {a : Int32} (h : a < 0 ∨ nI n ≤ a) : fX7_seat 0 a X = some (none, X) := by
  by_cases h0 : a < 0
  · simp [fX7_seat, fX7_seat_j30, h0]
  · have h1 : nI n ≤ a := h.resolve_left h0
    simp [fX7_seat, fX7_seat_j30, h0, zokX_0, zokX_1, zokX_2, zokX_3, zokX_4, zokX_5, zokX_6, zokX_7, zokX_8, zokX_9, zokX_10, zokX_11, zokX_12, zokX_13, zokX_14, zokX_15, zokX_16, zlaX_1, zlaX_2, zlaX_3, zlaX_4, zlaX_5, zlaX_6, zlaX_8, zlaX_11, zlaX_12, zlaX_13, zlaX_15, zlaX_16, zp_1, zp_h, zp_r, zp_l, zlet, Option.bind_some, spXe_0, spXe_1, spXe_2, spXe_3, spXe_4, spXe_5, spXe_6, spXe_7, spXe_8, spXe_9, spXe_10, spXe_11, spXe_12, spXe_13, spXe_14, spXe_15, spXe_16, hX.1, hn, h1]
theorem spX_seat {k : Nat} (h : k < 5) : spX (22 + k) = (0, 5) := by
  rcases (show k = 0 ∨ k = 1 ∨ k = 2 ∨ k = 3 ∨ k = 4 by omega) with rfl | rfl | rfl | rfl | rfl <;> rfl
theorem rX_seat {X : zS} (hX : shX X) {k : Nat} (h : k < 5) : X.2.2.2 4 k = some (22 + k) := by
  rw [hX.r (by decide) (by omega) (by omega) (by omega)]
  rcases (show k = 0 ∨ k = 1 ∨ k = 2 ∨ k = 3 ∨ k = 4 by omega) with rfl | rfl | rfl | rfl | rfl <;> rfl
theorem zok_seat {X : zS} (hX : X.1 = 59) {k : Nat} (h : k < 5) : zok spX X (some (22 + k)) 0 = some (22 + k) := zok_of (by rw [hX]; omega) (by rw [spX_seat h])
theorem x_seat1 {X : zS} (hX : shX X) {n : Nat} (hn : X.2.1 0 10 = nI n) (h5 : n ≤ 5) {k : Nat} (h : k < n) : fX7_seat 0 (nI k) X = some (some (22 + k), X) := by
  have h0 : ¬ nI k < 0 := nI_pos (by omega)
  have h1 : ¬ nI n ≤ nI k := nI_ge h (by omega)
  have h2 : ¬ (5 : Int32) ≤ nI k := nI_ge (b := 5) (a := k) (by omega) (by decide)
  have hr : X.2.2.2 0 3 = some 4 := hX.r (by decide) (by decide) (by decide) (by decide)
  have hz : zix spX 4 (nI k) = some k := zix_of rfl (by show k < 5; omega) (by decide)
  simp [fX7_seat, fX7_seat_j30, h0, zokX_0, zokX_1, zokX_2, zokX_3, zokX_4, zokX_5, zokX_6, zokX_7, zokX_8, zokX_9, zokX_10, zokX_11, zokX_12, zokX_13, zokX_14, zokX_15, zokX_16, zlaX_1, zlaX_2, zlaX_3, zlaX_4, zlaX_5, zlaX_6, zlaX_8, zlaX_11, zlaX_12, zlaX_13, zlaX_15, zlaX_16, zp_1, zp_h, zp_r, zp_l, zlet, Option.bind_some, spXe_0, spXe_1, spXe_2, spXe_3, spXe_4, spXe_5, spXe_6, spXe_7, spXe_8, spXe_9, spXe_10, spXe_11, spXe_12, spXe_13, spXe_14, spXe_15, spXe_16, hX.1, hn, h1, hr, h2, hz, rX_seat hX (show k < 5 by omega)]
theorem m_one0 {M : zS} (hM : shM M) {n : Nat} (hn : M.2.1 0 11 = nI n) (h5 : n ≤ 5) {a : Int32} (h : a < 0 ∨ nI n ≤ a) : fX8_isOne 0 a M = some (0, M) := by
  by_cases h0 : a < 0
  · simp [fX8_isOne, zokM_0, zokM_1, zokM_2, zokM_3, zokM_4, zokM_5, zokM_6, zokM_7, zokM_8, zokM_9, zokM_10, zokM_11, zokM_12, zokM_13, zokM_14, zokM_15, zlaM_1, zlaM_2, zlaM_3, zlaM_4, zlaM_5, zlaM_6, zlaM_7, zlaM_8, zlaM_9, zlaM_10, zlaM_11, zlaM_12, zlaM_13, zlaM_14, zlaM_15, zp_1, zp_h, zp_r, zp_l, zlet, Option.bind_some, in_0, spMe_0, spMe_1, spMe_2, spMe_3, spMe_4, spMe_5, spMe_6, spMe_7, spMe_8, spMe_9, spMe_10, spMe_11, spMe_12, spMe_13, spMe_14, spMe_15, hM.1, hn, h0]
  · have h1 : nI n ≤ a := h.resolve_left h0
    have h2 : nI n - 1 < a := by
      rw [Int32.lt_iff_toInt_lt]
      rw [Int32.le_iff_toInt_le] at h1
      have e1 : (nI n - 1).toInt = (n : Int) - 1 := pk_sub_toInt (a := n) (b := 1) (by omega) (by decide)
      have e2 : (nI n).toInt = (n : Int) := nI_toInt (by omega)
      omega
    simp [fX8_isOne, zokM_0, zokM_1, zokM_2, zokM_3, zokM_4, zokM_5, zokM_6, zokM_7, zokM_8, zokM_9, zokM_10, zokM_11, zokM_12, zokM_13, zokM_14, zokM_15, zlaM_1, zlaM_2, zlaM_3, zlaM_4, zlaM_5, zlaM_6, zlaM_7, zlaM_8, zlaM_9, zlaM_10, zlaM_11, zlaM_12, zlaM_13, zlaM_14, zlaM_15, zp_1, zp_h, zp_r, zp_l, zlet, Option.bind_some, in_0, spMe_0, spMe_1, spMe_2, spMe_3, spMe_4, spMe_5, spMe_6, spMe_7, spMe_8, spMe_9, spMe_10, spMe_11, spMe_12, spMe_13, spMe_14, spMe_15, hM.1, hn, h0, h2]
theorem m_one1 {M : zS} (hM : shM M) {n : Nat} (hn : M.2.1 0 11 = nI n) (h5 : n ≤ 5) {k : Nat} (h : k < n) : fX8_isOne 0 (nI k) M = some (1, M) := by
  have h0 : ¬ nI k < 0 := nI_pos (by omega)
  obtain ⟨n1, rfl⟩ : ∃ n1, n = n1 + 1 := ⟨n - 1, by omega⟩
  have h2 : ¬ nI (n1 + 1) - 1 < nI k := by rw [nI_m1]; exact nI_nlt (by omega) (by omega)
  simp [fX8_isOne, zokM_0, zokM_1, zokM_2, zokM_3, zokM_4, zokM_5, zokM_6, zokM_7, zokM_8, zokM_9, zokM_10, zokM_11, zokM_12, zokM_13, zokM_14, zokM_15, zlaM_1, zlaM_2, zlaM_3, zlaM_4, zlaM_5, zlaM_6, zlaM_7, zlaM_8, zlaM_9, zlaM_10, zlaM_11, zlaM_12, zlaM_13, zlaM_14, zlaM_15, zp_1, zp_h, zp_r, zp_l, zlet, Option.bind_some, in_0, spMe_0, spMe_1, spMe_2, spMe_3, spMe_4, spMe_5, spMe_6, spMe_7, spMe_8, spMe_9, spMe_10, spMe_11, spMe_12, spMe_13, spMe_14, spMe_15, hM.1, hn, h0, h2]
