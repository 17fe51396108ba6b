theorem x_tell {X : zS} (hX : shX X) {p k : Nat} (hp : p < 5) (h1 : 1 ≤ k) (h4 : k ≤ 4) : fX0_tell (22 + p) (nI k) X = some (X.2.1 (22 + p) k, X) := by
  rcases (show k = 1 ∨ k = 2 ∨ k = 3 ∨ k = 4 by omega) with rfl | rfl | rfl | rfl <;> simp [fX0_tell, nI, zok_seat, hX.1, hp]
theorem x_change {X : zS} (hX : shX X) {p k : Nat} (hp : p < 5) (h1 : 1 ≤ k) (h4 : k ≤ 4) (v : Int32) : fX0_change (22 + p) (nI k) v X = some ((), zp X (22 + p) k v) := by
  rcases (show k = 1 ∨ k = 2 ∨ k = 3 ∨ k = 4 by omega) with rfl | rfl | rfl | rfl <;> simp [fX0_change, nI, zok_seat, hX.1, hp, zlet]
theorem idxr {p k : Nat} (h1 : 1 ≤ k) : (4 : Int32) * nI p + nI k - 1 = nI (4 * p + k - 1) := by
  obtain ⟨j, rfl⟩ : ∃ j, k = j + 1 := ⟨k - 1, by omega⟩
  rw [idx4, show 4 * p + (j + 1) = (4 * p + j) + 1 by omega, nI_m1]
  rfl
theorem m_told1 {M : zS} (hM : shM M) {n : Nat} (hn : M.2.1 0 11 = nI n) (h5 : n ≤ 5) {p k : Nat} (hp : p < n) (h1 : 1 ≤ k) (h4 : k ≤ 4) : fX8_told 0 (nI p) (nI k) M = some (M.2.1 6 (4 * p + k - 1), M) := by
  have hi := fun st => in_1 (nI k) 7 7 (by decide) st
  have c0 : ¬ nI k < 0 := nI_pos (by omega)
  have c1 : ¬ (7 : Int32) < nI k := nI_nlt (a := 7) (by omega) (by decide)
  have c2 : ¬ nI k ≤ 0 := nI_nle (by omega) (by omega)
  have c3 : ¬ nI k = (7 : Int32) := fun q => absurd ((nI_inj (b := 7) (by omega) (by decide)).mp q) (by omega)
  have c4 : ¬ (6 : Int32) ≤ nI k := nI_ge (b := 6) (by omega) (by decide)
  have c5 : ¬ nI k = 0 := nI_ne0 (by omega) (by omega)
  have c6 : ¬ (5 : Int32) ≤ nI k := nI_ge (b := 5) (by omega) (by decide)
  have hr : M.2.2.2 0 10 = some 6 := hM.r (by decide) (by decide)
  have hz : zix spM 6 (nI (4 * p + k - 1)) = some (4 * p + k - 1) := zix_of rfl (by show 4 * p + k - 1 < 20; omega) (by decide)
  simp only [fX8_told, fX8_told_j43, hi, zokM_0, zokM_1, zokM_2, zokM_3, zokM_4, zokM_5, zokM_6, zokM_7, zokM_8, zokM_9, zokM_10, zokM_11, zokM_12, zokM_13, zokM_14, zokM_15, zlaM_1, zlaM_2, zlaM_3, zlaM_4, zlaM_5, zlaM_6, zlaM_7, zlaM_8, zlaM_9, zlaM_10, zlaM_11, zlaM_12, zlaM_13, zlaM_14, zlaM_15, zp_1, zp_h, zp_r, zp_l, zlet, Option.bind_some, spMe_0, spMe_1, spMe_2, spMe_3, spMe_4, spMe_5, spMe_6, spMe_7, spMe_8, spMe_9, spMe_10, spMe_11, spMe_12, spMe_13, spMe_14, spMe_15, if_neg c0, if_neg c1, if_neg c2, if_neg c3, if_neg c4, if_neg c5, if_neg c6, if_neg one0, m_one1 hM hn h5 hp, hM.1, hr, idxr h1, hz]
theorem m_lays1 {M : zS} (hM : shM M) {p k : Nat} (hp : p < 5) (h1 : 1 ≤ k) (h4 : k ≤ 4) (v : Int32) : fX8_lays 0 (nI k) (nI p) v M = some ((), zp M 6 (4 * p + k - 1) v) := by
  have c5 : ¬ nI k = 0 := nI_ne0 (by omega) (by omega)
  have c6 : ¬ (5 : Int32) ≤ nI k := nI_ge (b := 5) (by omega) (by decide)
  have hr : M.2.2.2 0 10 = some 6 := hM.r (by decide) (by decide)
  have hz : zix spM 6 (nI (4 * p + k - 1)) = some (4 * p + k - 1) := zix_of rfl (by show 4 * p + k - 1 < 20; omega) (by decide)
  simp only [fX8_lays, zokM_0, zokM_1, zokM_2, zokM_3, zokM_4, zokM_5, zokM_6, zokM_7, zokM_8, zokM_9, zokM_10, zokM_11, zokM_12, zokM_13, zokM_14, zokM_15, zlaM_1, zlaM_2, zlaM_3, zlaM_4, zlaM_5, zlaM_6, zlaM_7, zlaM_8, zlaM_9, zlaM_10, zlaM_11, zlaM_12, zlaM_13, zlaM_14, zlaM_15, zp_1, zp_h, zp_r, zp_l, zlet, Option.bind_some, spMe_0, spMe_1, spMe_2, spMe_3, spMe_4, spMe_5, spMe_6, spMe_7, spMe_8, spMe_9, spMe_10, spMe_11, spMe_12, spMe_13, spMe_14, spMe_15, if_neg c5, if_neg c6, hM.1, hr, idxr h1, hz]
theorem m_told0 {M : zS} (hM : shM M) (a : Int32) : fX8_told 0 a 0 M = some (M.2.1 0 7, M) := by
  simp [fX8_told, fX8_told_j43, zokM_0, zokM_1, zokM_2, zokM_3, zokM_4, zokM_5, zokM_6, zokM_7, zokM_8, zokM_9, zokM_10, zokM_11, zokM_12, zokM_13, zokM_14, zokM_15, zlaM_1, zlaM_2, zlaM_3, zlaM_4, zlaM_5, zlaM_6, zlaM_7, zlaM_8, zlaM_9, zlaM_10, zlaM_11, zlaM_12, zlaM_13, zlaM_14, zlaM_15, zp_1, zp_h, zp_r, zp_l, zlet, Option.bind_some, in_eq, spMe_0, spMe_1, spMe_2, spMe_3, spMe_4, spMe_5, spMe_6, spMe_7, spMe_8, spMe_9, spMe_10, spMe_11, spMe_12, spMe_13, spMe_14, spMe_15, hM.1]
theorem m_lays0 {M : zS} (hM : shM M) (a v : Int32) : fX8_lays 0 0 a v M = some ((), zp M 0 7 v) := by
  simp [fX8_lays, zokM_0, zokM_1, zokM_2, zokM_3, zokM_4, zokM_5, zokM_6, zokM_7, zokM_8, zokM_9, zokM_10, zokM_11, zokM_12, zokM_13, zokM_14, zokM_15, zlaM_1, zlaM_2, zlaM_3, zlaM_4, zlaM_5, zlaM_6, zlaM_7, zlaM_8, zlaM_9, zlaM_10, zlaM_11, zlaM_12, zlaM_13, zlaM_14, zlaM_15, zp_1, zp_h, zp_r, zp_l, zlet, Option.bind_some, in_eq, spMe_0, spMe_1, spMe_2, spMe_3, spMe_4, spMe_5, spMe_6, spMe_7, spMe_8, spMe_9, spMe_10, spMe_11, spMe_12, spMe_13, spMe_14, spMe_15, hM.1]
def most (k : Nat) : Nat := if k = 0 then 999 else if k = 1 then 9 else if k = 4 then 9999 else 4095
theorem x_most {k : Nat} (h : k < 5) (X : zS) : fX7_mostOf (nI k) X = some (nI (most k), X) := by
  rcases (show k = 0 ∨ k = 1 ∨ k = 2 ∨ k = 3 ∨ k = 4 by omega) with rfl | rfl | rfl | rfl | rfl <;> rfl
theorem m_most {k : Nat} (h : k < 5) (M : zS) : fX8_mostOf (nI k) M = some (nI (most k), M) := by
  rcases (show k = 0 ∨ k = 1 ∨ k = 2 ∨ k = 3 ∨ k = 4 by omega) with rfl | rfl | rfl | rfl | rfl <;> rfl
theorem most_lt (k : Nat) : most k ≤ 9999 := by unfold most; split <;> (try split) <;> (try split) <;> omega
