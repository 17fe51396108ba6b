theorem spX_sheet {k : Nat} (h : k < 4) : spX (51 + 2 * k) = (3, 3) ∧ spX (52 + 2 * k) = (9, 40) := by
  rcases (show k = 0 ∨ k = 1 ∨ k = 2 ∨ k = 3 by omega) with rfl | rfl | rfl | rfl <;> exact ⟨rfl, rfl⟩
theorem rX_sheet {X : zS} (hX : shX X) {k : Nat} (h : k < 4) : X.2.2.2 6 k = some (51 + 2 * k) ∧ X.2.2.2 (51 + 2 * k) 0 = some (52 + 2 * k) := by
  rw [hX.r (by decide) (by omega) (by omega) (by omega), hX.r (by omega) (by omega) (by omega) (by omega)]
  rcases (show k = 0 ∨ k = 1 ∨ k = 2 ∨ k = 3 by omega) with rfl | rfl | rfl | rfl <;> exact ⟨rfl, rfl⟩
theorem rX_cells {X : zS} (hX : shX X) {k : Nat} (h : k < 4) : X.2.2.2 (51 + 2 * k) 0 = some (52 + 2 * k) := (rX_sheet hX h).2
theorem zok_sheet {X : zS} (hX : X.1 = 59) {k : Nat} (h : k < 4) : zok spX X (some (51 + 2 * k)) 3 = some (51 + 2 * k) := zok_of (by rw [hX]; omega) (by rw [(spX_sheet h).1])
theorem zok_cells {X : zS} (hX : X.1 = 59) {k : Nat} (h : k < 4) : zok spX X (some (52 + 2 * k)) 9 = some (52 + 2 * k) := zok_of (by rw [hX]; omega) (by rw [(spX_sheet h).2])
theorem zla_cells {X : zS} (hX : X.1 = 59) {k : Nat} (h : k < 4) : zla spX X (some (52 + 2 * k)) = some (52 + 2 * k) := zla_of (by rw [hX]; omega) (by rw [(spX_sheet h).2]; decide)
theorem zix_cells {k i : Nat} (h : k < 4) (hi : i < 40) : zix spX (52 + 2 * k) (nI i) = some i := zix_of rfl (by rw [(spX_sheet h).2]; exact hi) (by rw [(spX_sheet h).2]; decide)
theorem x_sheet0 {X : zS} (hX : shX X) {a : Int32} (h : a < 0 ∨ nI 4 ≤ a) : fX7_sheetAt 0 a X = some (none, X) := by
  have hr : X.2.2.2 0 5 = some 6 := hX.r (by decide) (by decide) (by decide) (by decide)
  by_cases h0 : a < 0
  · simp [fX7_sheetAt, fX7_sheetAt_j22, h0]
  · have h1 : (4 : Int32) ≤ a := h.resolve_left h0
    simp [fX7_sheetAt, fX7_sheetAt_j22, h0, zokX_0, zokX_1, zokX_2, zokX_3, zokX_4, zokX_5, zokX_6, zokX_7, zokX_8, zokX_9, zokX_10, zokX_11, zokX_12, zokX_13, zokX_14, zokX_15, zokX_16, zlaX_1, zlaX_2, zlaX_3, zlaX_4, zlaX_5, zlaX_6, zlaX_8, zlaX_11, zlaX_12, zlaX_13, zlaX_15, zlaX_16, zp_1, zp_h, zp_r, zp_l, zlet, Option.bind_some, spXe_0, spXe_1, spXe_2, spXe_3, spXe_4, spXe_5, spXe_6, spXe_7, spXe_8, spXe_9, spXe_10, spXe_11, spXe_12, spXe_13, spXe_14, spXe_15, spXe_16, hX.1, hr, h1]
theorem x_sheet1 {X : zS} (hX : shX X) {k : Nat} (h : k < 4) : fX7_sheetAt 0 (nI k) X = some (some (51 + 2 * k), X) := by
  have hr : X.2.2.2 0 5 = some 6 := hX.r (by decide) (by decide) (by decide) (by decide)
  have h0 : ¬ nI k < 0 := nI_pos (by omega)
  have h2 : ¬ (4 : Int32) ≤ nI k := nI_ge (b := 4) (a := k) h (by decide)
  have hz : zix spX 6 (nI k) = some k := zix_of rfl (by show k < 4; omega) (by decide)
  simp [fX7_sheetAt, fX7_sheetAt_j22, h0, zokX_0, zokX_1, zokX_2, zokX_3, zokX_4, zokX_5, zokX_6, zokX_7, zokX_8, zokX_9, zokX_10, zokX_11, zokX_12, zokX_13, zokX_14, zokX_15, zokX_16, zlaX_1, zlaX_2, zlaX_3, zlaX_4, zlaX_5, zlaX_6, zlaX_8, zlaX_11, zlaX_12, zlaX_13, zlaX_15, zlaX_16, zp_1, zp_h, zp_r, zp_l, zlet, Option.bind_some, spXe_0, spXe_1, spXe_2, spXe_3, spXe_4, spXe_5, spXe_6, spXe_7, spXe_8, spXe_9, spXe_10, spXe_11, spXe_12, spXe_13, spXe_14, spXe_15, spXe_16, hX.1, hr, h2, hz, (rX_sheet hX h).1]
theorem m_sheet0 {a : Int32} (M : zS) (h : a < 0 ∨ nI 4 ≤ a) : fX8_isSheet a M = some (0, M) := by
  have hi := in_1 a 3 3 (by decide) M
  by_cases h0 : a < 0
  · simp [fX8_isSheet, hi, h0]
  · have h1 : (3 : Int32) < a := Int32.lt_of_lt_of_le (nI_lt (a := 3) (b := 4) (by decide) (by decide)) (h.resolve_left h0)
    simp [fX8_isSheet, hi, h0, h1]
theorem m_sheet1 {k : Nat} (M : zS) (h : k < 4) : fX8_isSheet (nI k) M = some (1, M) := by
  have hi := in_1 (nI k) 3 3 (by decide) M
  have h0 : ¬ nI k < 0 := nI_pos (by omega)
  have h1 : ¬ (3 : Int32) < nI k := nI_nlt (a := 3) (by omega) (by decide)
  simp [fX8_isSheet, hi, h0, h1]
/-- a number as a sheet of that sort keeps it -/
def castS (sort v : Int32) : Int32 := if sort = 0 then v.toInt8.toInt32 else if sort = 1 then v.toInt16.toInt32 else v
theorem x_put {X : zS} (hX : shX X) {k : Nat} (h : k < 4) {n i : Nat} (hn : X.2.1 (51 + 2 * k) 2 = nI n) (h40 : n ≤ 40) (hi : i < n) (v : Int32) : fX3_put (51 + 2 * k) (nI i) v X = some ((), zp X (52 + 2 * k) i (castS (X.2.1 (51 + 2 * k) 1) v)) := by
  have h0 : ¬ nI i < 0 := nI_pos (by omega)
  have h1 : ¬ nI n ≤ nI i := nI_ge hi (by omega)
  have h2 : nI i < (40 : Int32) := nI_lt (b := 40) (by omega) (by decide)
  have h3 : i < 40 := by omega
  unfold castS
  by_cases c0 : X.2.1 (51 + 2 * k) 1 = 0
  · simp [fX3_put, h0, zok_sheet, zok_cells, zla_cells, zix_cells, rX_cells hX h, h, hX.1, hn, h1, (spX_sheet h).2, h2, h3, c0, zlet]
  · by_cases c1 : X.2.1 (51 + 2 * k) 1 = 1
    · simp [fX3_put, h0, zok_sheet, zok_cells, zla_cells, zix_cells, rX_cells hX h, h, hX.1, hn, h1, (spX_sheet h).2, h2, h3, c1, zlet]
    · simp [fX3_put, h0, zok_sheet, zok_cells, zla_cells, zix_cells, rX_cells hX h, h, hX.1, hn, h1, (spX_sheet h).2, h2, h3, c0, c1, zlet]
theorem x_miss {X : zS} (hX : shX X) {k : Nat} (h : k < 4) : fX3_isMissing (51 + 2 * k) X = some (if X.2.1 (51 + 2 * k) 1 = -1 then 1 else 0, X) := by
  simp only [fX3_isMissing, zok_sheet hX.1 h, Option.bind_some]
  split <;> rfl
theorem idx40s (k i : Nat) : (40 : Int32) * nI k + nI i = nI (40 * k + i) := by
  show nI 40 * nI k + nI i = _
  rw [pk_mul, nI_add]
