/-- the reference, THING by THING: shut to one, or not, and back -/
theorem m_turned {M0 : zS} (hM0 : shM M0) {q p s : Nat} (hp5 : p < 5) (hs : M0.2.1 6 (4 * p + 1) = nI s) {P : Nat → Bool} (hp : ∀ (M : zS) (v : Nat), v < 12 → frM M0 M → ∃ r M', fX8_firstOther 0 (nI q) (nI p) (zp M 6 (4 * p + 1) (nI (s ^^^ 2 ^ v))) = some (r, M') ∧ frM (zp M 6 (4 * p + 1) (nI (s ^^^ 2 ^ v))) M' ∧ (r = -1 ↔ P v = true)) : ∀ (m j n acc : Nat) (M : zS), j + m = 12 → m < n → frM M0 M → ∃ M', fX8_turnedSet_L5 0 n (nI q) (nI p) (nI acc) (nI j) M = some (nI (stU P m j acc), M') ∧ frM M0 M'
  | m, j, 0, _, _, _, h, _ => by omega
  | 0, j, n + 1, acc, M, e, _, hf => by
    have c : (12 : Int32) ≤ nI j := by rw [show j = 12 by omega]; decide
    refine ⟨M, ?_, hf⟩
    simp only [fX8_turnedSet_L5, if_pos c]
    rfl
  | m + 1, j, n + 1, acc, M, e, hn, hf => by
    have c : ¬ (12 : Int32) ≤ nI j := nI_ge (b := 12) (by omega) (by decide)
    have hsh := n_shl1 (show j < 31 by omega)
    have hM := hf.sh hM0
    have r10 : M.2.2.2 0 10 = some 6 := hM.r (by decide) (by decide)
    have i1 : (4 : Int32) * nI p + 1 = nI (4 * p + 1) := idx4 p 1
    have z1 : zix spM 6 (nI (4 * p + 1)) = some (4 * p + 1) := zix_of rfl (by show 4 * p + 1 < 20; omega) (by decide)
    have s1 : M.2.1 6 (4 * p + 1) = nI s := (hf.at (Or.inl (by decide))).trans hs
    obtain ⟨r, M1, e1, f1, hr⟩ := hp M j (by omega) hf
    have hz : (zp M 6 (4 * p + 1) (nI (s ^^^ 2 ^ j))).1 = 16 := hM.1
    have hM1 := f1.sh (show shM (zp M 6 (4 * p + 1) (nI (s ^^^ 2 ^ j))) from hM)
    have r10' : M1.2.2.2 0 10 = some 6 := hM1.r (by decide) (by decide)
    have s2 : M1.2.1 6 (4 * p + 1) = nI (s ^^^ 2 ^ j) := (f1.at (Or.inl (by decide))).trans (by rw [zp_h, if_pos ⟨rfl, rfl⟩])
    have xx : s ^^^ 2 ^ j ^^^ 2 ^ j = s := by rw [Nat.xor_assoc, Nat.xor_self, Nat.xor_zero]
    have hf2 : frM M0 (zp M1 6 (4 * p + 1) (nI s)) := ⟨f1.1.trans hf.1, f1.2.1.trans hf.2.1, fun o k => by
      by_cases e : o = 6 ∧ k = 4 * p + 1
      · rw [zp_h, if_pos e, e.1, e.2]; exact Or.inr hs.symm
      · rw [zp_h, if_neg e]
        rcases f1.2.2 o k with a | a
        · exact Or.inl a
        · rw [zp_h, if_neg e] at a
          rcases hf.2.2 o k with b | b
          · exact Or.inl b
          · exact Or.inr (a.trans b)⟩
    rw [stU]
    by_cases hP : P j = true
    · have hr1 : r = -1 := hr.mpr hP
      obtain ⟨M2, e2, f2⟩ := m_turned hM0 hp5 hs hp m (j + 1) n (acc ||| 2 ^ j) _ (by omega) (by omega) hf2
      refine ⟨M2, ?_, f2⟩
      rw [if_pos hP]
      simp only [fX8_turnedSet_L5, fX8_turnedSet_j45, if_neg c, zokM_0, zokM_1, zokM_2, zokM_3, zokM_4, zokM_5, zokM_6, zokM_7, zokM_8, zokM_9, zokM_10, zokM_11, zokM_12, zokM_13, zokM_14, zokM_15, zlaM_1, zlaM_2, zlaM_3, zlaM_4, zlaM_5, zlaM_6, zlaM_7, zlaM_8, zlaM_9, zlaM_10, zlaM_11, zlaM_12, zlaM_13, zlaM_14, zlaM_15, zp_1, zp_h, zp_r, zp_l, zletE, obs, spMe_0, spMe_1, spMe_2, spMe_3, spMe_4, spMe_5, spMe_6, spMe_7, spMe_8, spMe_9, spMe_10, spMe_11, spMe_12, spMe_13, spMe_14, spMe_15, hM.1, hz, hM1.1, r10, r10', i1, z1, s1, hsh, n_xor, e1, if_pos hr1, s2, xx, n_or, nI_1]
      exact e2
    · have hr1 : ¬ r = -1 := fun q => hP (hr.mp q)
      obtain ⟨M2, e2, f2⟩ := m_turned hM0 hp5 hs hp m (j + 1) n acc _ (by omega) (by omega) hf2
      refine ⟨M2, ?_, f2⟩
      rw [if_neg hP]
      have w0 : nI acc ||| ((0 : Int32) <<< (nI j &&& 31)) = nI acc := by rw [show (0 : Int32) = nI 0 from rfl, n_shl (show j < 31 by omega) 0 (by decide), n_or, Nat.zero_mul, Nat.or_zero]
      simp only [fX8_turnedSet_L5, fX8_turnedSet_j45, if_neg c, zokM_0, zokM_1, zokM_2, zokM_3, zokM_4, zokM_5, zokM_6, zokM_7, zokM_8, zokM_9, zokM_10, zokM_11, zokM_12, zokM_13, zokM_14, zokM_15, zlaM_1, zlaM_2, zlaM_3, zlaM_4, zlaM_5, zlaM_6, zlaM_7, zlaM_8, zlaM_9, zlaM_10, zlaM_11, zlaM_12, zlaM_13, zlaM_14, zlaM_15, zp_1, zp_h, zp_r, zp_l, zletE, obs, spMe_0, spMe_1, spMe_2, spMe_3, spMe_4, spMe_5, spMe_6, spMe_7, spMe_8, spMe_9, spMe_10, spMe_11, spMe_12, spMe_13, spMe_14, spMe_15, hM.1, hz, hM1.1, r10, r10', i1, z1, s1, hsh, n_xor, e1, if_neg hr1, s2, xx, w0, nI_1]
      exact e2
/-- ASKERS of whom it is so -/
theorem x_afterall {q n : Nat} : ∀ (m j f acc : Nat) (X : zS), j + m = 5 → n ≤ j → m < f → shX X → X.2.1 0 10 = nI n → fX7_fittingAskers_L4 0 f (some (51 + 2 * q)) (nI acc) (nI j) X = some (nI acc, X)
  | m, j, 0, _, _, _, _, h, _, _ => by omega
  | 0, j, f + 1, acc, X, e, _, _, hX, _ => by
    have c : (5 : Int32) ≤ nI j := by rw [show j = 5 by omega]; decide
    simp only [fX7_fittingAskers_L4, if_pos c]
  | m + 1, j, f + 1, acc, X, e, hn, hf, hX, h10 => by
    have c : ¬ (5 : Int32) ≤ nI j := nI_ge (b := 5) (by omega) (by decide)
    have ev := x_visit0 hX h10 (a := nI j) (Or.inr (nI_le hn (by omega)))
    simp only [fX7_fittingAskers_L4, fX7_fittingAskers_j37, zokX_0, zokX_1, zokX_2, zokX_3, zokX_4, zokX_5, zokX_6, zokX_7, zokX_8, zokX_9, zokX_10, zokX_11, zokX_12, zokX_13, zokX_14, zokX_15, zokX_16, zlaX_1, zlaX_2, zlaX_3, zlaX_4, zlaX_5, zlaX_6, zlaX_8, zlaX_11, zlaX_12, zlaX_13, zlaX_15, zlaX_16, zp_1, zp_h, zp_r, zp_l, zletE, obs, spXe_0, spXe_1, spXe_2, spXe_3, spXe_4, spXe_5, spXe_6, spXe_7, spXe_8, spXe_9, spXe_10, spXe_11, spXe_12, spXe_13, spXe_14, spXe_15, spXe_16, hX.1, if_neg c, ev, if_true, nI_1]
    exact x_afterall m (j + 1) f acc X (by omega) (by omega) (by omega) hX h10
theorem askers_both {q m0 n : Nat} (h12 : m0 ≤ 12) (hn5 : n ≤ 5) : ∀ (m j f f' acc : Nat) (X M : zS), j + m = n → m + 5 < f → m < f' → Inv X M → X.2.1 0 10 = nI n → M.2.1 0 11 = nI n → Sht X M q m0 → ∃ r X' M', fX7_fittingAskers_L4 0 f (some (51 + 2 * q)) (nI acc) (nI j) X = some (r, X') ∧ fX8_likeSet_L4 0 f' (nI q) (nI acc) (nI j) M = some (r, M') ∧ Inv X' M'
  | m, j, 0, _, _, _, _, _, h, _, _, _, _, _ => by omega
  | m, j, _, 0, _, _, _, _, _, h, _, _, _, _ => by omega
  | 0, j, f + 1, f' + 1, acc, X, M, e, hf, _, hI, hnX, hnM, hS => by
    have hM := hI.1.2
    have c : nI n ≤ nI j := nI_le (by omega) (by omega)
    refine ⟨nI acc, X, M, x_afterall (5 - j) j (f + 1) acc X (by omega) (by omega) (by omega) hI.1.1 hnX, ?_, hI⟩
    simp only [fX8_likeSet_L4, zokM_0, zokM_1, zokM_2, zokM_3, zokM_4, zokM_5, zokM_6, zokM_7, zokM_8, zokM_9, zokM_10, zokM_11, zokM_12, zokM_13, zokM_14, zokM_15, zlaM_1, zlaM_2, zlaM_3, zlaM_4, zlaM_5, zlaM_6, zlaM_7, zlaM_8, zlaM_9, zlaM_10, zlaM_11, zlaM_12, zlaM_13, zlaM_14, zlaM_15, zp_1, zp_h, zp_r, zp_l, zletE, obs, spMe_0, spMe_1, spMe_2, spMe_3, spMe_4, spMe_5, spMe_6, spMe_7, spMe_8, spMe_9, spMe_10, spMe_11, spMe_12, spMe_13, spMe_14, spMe_15, hM.1, hnM, if_pos c]
  | m + 1, j, f + 1, f' + 1, acc, X, M, e, hf, hf', hI, hnX, hnM, hS => by
    have hX := hI.1.1
    have hM := hI.1.2
    have c5 : ¬ (5 : Int32) ≤ nI j := nI_ge (b := 5) (by omega) (by decide)
    have c : ¬ nI n ≤ nI j := nI_ge (by omega) (by omega)
    have hsh := n_shl1 (show j < 31 by omega)
    obtain ⟨k, nu, s, hd, nh, d, t, sp, F, hV, hd9, hsp, hPM, hRM, hq', X1, e1, f1, hPX, h77, hac⟩ := view_of hI hn5 hnX hnM (show j < n by omega)
    have hX1 := f1.sh hX
    have hS1 : Sht X1 M q m0 := hS.fr (fun o i ho => f1.at (by omega) (by omega) (Or.inr ho)) (fun _ _ _ => rfl)
    obtain ⟨r1, X2, x1, x2, x3, x4⟩ := x_first0 h12 hV hX1 hPX hS1
    obtain ⟨r2, M2, m1, m2, m3, m4⟩ := m_first0 (M0 := M) h12 hS.1 hV hM hPM hRM hS.2.2.2.1 (fun _ => rfl)
    have hrr : r2 = r1 := by rw [x4, m4]
    subst hrr
    have hI2 := hI.keep (f1.tr x2.a.c) m2.n
    have hnX2 : X2.2.1 0 10 = nI n := ((f1.tr x2.a.c).at (by decide) (by decide) (Or.inl (by decide))).trans hnX
    have hnM2 : M2.2.1 0 11 = nI n := (m2.at (Or.inr (Or.inl (by decide)))).trans hnM
    have hS2 : Sht X2 M2 q m0 := hS1.fr (fun o i ho => x2.at (by omega) (Or.inr ho)) (fun o i ho => m2.at (Or.inl (by omega)))
    by_cases hr : r2 = -1
    · obtain ⟨r, X', M', y1, y2, y3⟩ := askers_both h12 hn5 m (j + 1) f f' (acc ||| 2 ^ j) X2 M2 (by omega) (by omega) (by omega) hI2 hnX2 hnM2 hS2
      refine ⟨r, X', M', ?_, ?_, y3⟩
      · simp only [fX7_fittingAskers_L4, fX7_fittingAskers_j37, zokX_0, zokX_1, zokX_2, zokX_3, zokX_4, zokX_5, zokX_6, zokX_7, zokX_8, zokX_9, zokX_10, zokX_11, zokX_12, zokX_13, zokX_14, zokX_15, zokX_16, zlaX_1, zlaX_2, zlaX_3, zlaX_4, zlaX_5, zlaX_6, zlaX_8, zlaX_11, zlaX_12, zlaX_13, zlaX_15, zlaX_16, zp_1, zp_h, zp_r, zp_l, zletE, obs, spXe_0, spXe_1, spXe_2, spXe_3, spXe_4, spXe_5, spXe_6, spXe_7, spXe_8, spXe_9, spXe_10, spXe_11, spXe_12, spXe_13, spXe_14, spXe_15, spXe_16, hX.1, if_neg c5, e1, if_neg s7, x1, if_pos hr, hsh, n_or, nI_1]
        exact y1
      · simp only [fX8_likeSet_L4, fX8_likeSet_j28, zokM_0, zokM_1, zokM_2, zokM_3, zokM_4, zokM_5, zokM_6, zokM_7, zokM_8, zokM_9, zokM_10, zokM_11, zokM_12, zokM_13, zokM_14, zokM_15, zlaM_1, zlaM_2, zlaM_3, zlaM_4, zlaM_5, zlaM_6, zlaM_7, zlaM_8, zlaM_9, zlaM_10, zlaM_11, zlaM_12, zlaM_13, zlaM_14, zlaM_15, zp_1, zp_h, zp_r, zp_l, zletE, obs, spMe_0, spMe_1, spMe_2, spMe_3, spMe_4, spMe_5, spMe_6, spMe_7, spMe_8, spMe_9, spMe_10, spMe_11, spMe_12, spMe_13, spMe_14, spMe_15, hM.1, hnM, if_neg c, m1, if_pos hr, hsh, n_or, nI_1]
        exact y2
    · obtain ⟨r, X', M', y1, y2, y3⟩ := askers_both h12 hn5 m (j + 1) f f' acc X2 M2 (by omega) (by omega) (by omega) hI2 hnX2 hnM2 hS2
      refine ⟨r, X', M', ?_, ?_, y3⟩
      · simp only [fX7_fittingAskers_L4, fX7_fittingAskers_j37, zokX_0, zokX_1, zokX_2, zokX_3, zokX_4, zokX_5, zokX_6, zokX_7, zokX_8, zokX_9, zokX_10, zokX_11, zokX_12, zokX_13, zokX_14, zokX_15, zokX_16, zlaX_1, zlaX_2, zlaX_3, zlaX_4, zlaX_5, zlaX_6, zlaX_8, zlaX_11, zlaX_12, zlaX_13, zlaX_15, zlaX_16, zp_1, zp_h, zp_r, zp_l, zletE, obs, spXe_0, spXe_1, spXe_2, spXe_3, spXe_4, spXe_5, spXe_6, spXe_7, spXe_8, spXe_9, spXe_10, spXe_11, spXe_12, spXe_13, spXe_14, spXe_15, spXe_16, hX.1, if_neg c5, e1, if_neg s7, x1, if_neg hr, nI_1]
        exact y1
      · have w0 : nI acc ||| ((0 : Int32) <<< (nI j &&& 31)) = nI acc := by rw [show (0 : Int32) = nI 0 from rfl, n_shl (show j < 31 by omega) 0 (by decide), n_or, Nat.zero_mul, Nat.or_zero]
        simp only [fX8_likeSet_L4, fX8_likeSet_j28, zokM_0, zokM_1, zokM_2, zokM_3, zokM_4, zokM_5, zokM_6, zokM_7, zokM_8, zokM_9, zokM_10, zokM_11, zokM_12, zokM_13, zokM_14, zokM_15, zlaM_1, zlaM_2, zlaM_3, zlaM_4, zlaM_5, zlaM_6, zlaM_7, zlaM_8, zlaM_9, zlaM_10, zlaM_11, zlaM_12, zlaM_13, zlaM_14, zlaM_15, zp_1, zp_h, zp_r, zp_l, zletE, obs, spMe_0, spMe_1, spMe_2, spMe_3, spMe_4, spMe_5, spMe_6, spMe_7, spMe_8, spMe_9, spMe_10, spMe_11, spMe_12, spMe_13, spMe_14, spMe_15, hM.1, hnM, if_neg c, m1, if_neg hr, w0, nI_1]
        exact y2
/-- what is laid -/
theorem m_laysK {M : zS} (hM : shM M) {p : Nat} (hp : p < 5) (v : Int32) : fX8_lays 0 5 (nI p) v M = some ((), zp M 5 p v) := by
  have r9 : M.2.2.2 0 9 = some 5 := hM.r (by decide) (by decide)
  have z5 : zix spM 5 (nI p) = some p := zix_of rfl hp (by decide)
  simp only [fX8_lays, if_neg (show ¬ (5 : Int32) = 0 by decide), if_pos (show (5 : Int32) ≤ 5 by decide), if_true, zokM_0, zokM_1, zokM_2, zokM_3, zokM_4, zokM_5, zokM_6, zokM_7, zokM_8, zokM_9, zokM_10, zokM_11, zokM_12, zokM_13, zokM_14, zokM_15, zlaM_1, zlaM_2, zlaM_3, zlaM_4, zlaM_5, zlaM_6, zlaM_7, zlaM_8, zlaM_9, zlaM_10, zlaM_11, zlaM_12, zlaM_13, zlaM_14, zlaM_15, zp_1, zp_h, zp_r, zp_l, zletE, obs, spMe_0, spMe_1, spMe_2, spMe_3, spMe_4, spMe_5, spMe_6, spMe_7, spMe_8, spMe_9, spMe_10, spMe_11, spMe_12, spMe_13, spMe_14, spMe_15, hM.1, r9, z5]
theorem m_laysR {M : zS} (hM : shM M) (a v : Int32) : fX8_lays 0 6 a v M = some ((), zp M 0 4 v) := by
  simp only [fX8_lays, if_neg (show ¬ (6 : Int32) = 0 by decide), if_pos (show (5 : Int32) ≤ 6 by decide), if_neg (show ¬ (6 : Int32) = 5 by decide), zokM_0, zokM_1, zokM_2, zokM_3, zokM_4, zokM_5, zokM_6, zokM_7, zokM_8, zokM_9, zokM_10, zokM_11, zokM_12, zokM_13, zokM_14, zokM_15, zlaM_1, zlaM_2, zlaM_3, zlaM_4, zlaM_5, zlaM_6, zlaM_7, zlaM_8, zlaM_9, zlaM_10, zlaM_11, zlaM_12, zlaM_13, zlaM_14, zlaM_15, zp_1, zp_h, zp_r, zp_l, zletE, obs, spMe_0, spMe_1, spMe_2, spMe_3, spMe_4, spMe_5, spMe_6, spMe_7, spMe_8, spMe_9, spMe_10, spMe_11, spMe_12, spMe_13, spMe_14, spMe_15, hM.1]
theorem m_toldK {M : zS} (hM : shM M) {n : Nat} (hn : M.2.1 0 11 = nI n) (h5 : n ≤ 5) {p : Nat} (hp : p < n) : fX8_told 0 (nI p) 5 M = some (M.2.1 5 p, M) := by
  have hi := m_in1 7 (by decide) (show (7 : Int64) = (nI 7).toInt64 by decide) (show 5 < 8 by decide) M
  have hi' : fX8_in ((5 : Int32)).toInt64 0 7 M = some (1, M) := hi
  have r9 : M.2.2.2 0 9 = some 5 := hM.r (by decide) (by decide)
  have z5 : zix spM 5 (nI p) = some p := zix_of rfl (by show p < 5; omega) (by decide)
  simp only [fX8_told, fX8_told_j43, hi', zokM_0, zokM_1, zokM_2, zokM_3, zokM_4, zokM_5, zokM_6, zokM_7, zokM_8, zokM_9, zokM_10, zokM_11, zokM_12, zokM_13, zokM_14, zokM_15, zlaM_1, zlaM_2, zlaM_3, zlaM_4, zlaM_5, zlaM_6, zlaM_7, zlaM_8, zlaM_9, zlaM_10, zlaM_11, zlaM_12, zlaM_13, zlaM_14, zlaM_15, zp_1, zp_h, zp_r, zp_l, zletE, obs, spMe_0, spMe_1, spMe_2, spMe_3, spMe_4, spMe_5, spMe_6, spMe_7, spMe_8, spMe_9, spMe_10, spMe_11, spMe_12, spMe_13, spMe_14, spMe_15, hM.1, if_neg n10, if_neg (show ¬ (5 : Int32) ≤ 0 by decide), if_neg (show ¬ (5 : Int32) = 7 by decide), m_one1 hM hn h5 hp, if_neg (show ¬ (6 : Int32) ≤ 5 by decide), if_neg (show ¬ (5 : Int32) = 0 by decide), if_pos (show (5 : Int32) ≤ 5 by decide), r9, z5]
set_option maxHeartbeats 2000000 in
theorem t_tells (a b w : Int32) : TM2 Inv (fun st => fX7_tells 0 a b w st) (fun st => fX8_tells 0 a b w st) := by
  intro X M h
  obtain ⟨n, hn5, hnX, hnM⟩ := many_of h.2.2.1
  have hX := h.1.1
  have hM := h.1.2
  have l7 : (7 : Int64) = (nI 7).toInt64 := by decide
  rcases one_cases 4 (by decide) a with ha | ⟨q, hq, rfl⟩
  · rcases one_cases n (by omega) b with hb | ⟨p, hp, rfl⟩
    · exact ⟨-2, X, M, by simp only [fX7_tells, zokX_0, zokX_1, zokX_2, zokX_3, zokX_4, zokX_5, zokX_6, zokX_7, zokX_8, zokX_9, zokX_10, zokX_11, zokX_12, zokX_13, zokX_14, zokX_15, zokX_16, zlaX_1, zlaX_2, zlaX_3, zlaX_4, zlaX_5, zlaX_6, zlaX_8, zlaX_11, zlaX_12, zlaX_13, zlaX_15, zlaX_16, zp_1, zp_h, zp_r, zp_l, zletE, obs, spXe_0, spXe_1, spXe_2, spXe_3, spXe_4, spXe_5, spXe_6, spXe_7, spXe_8, spXe_9, spXe_10, spXe_11, spXe_12, spXe_13, spXe_14, spXe_15, spXe_16, hX.1, x_sheet0 hX ha, x_visit0 hX hnX hb, if_true], by simp only [fX8_tells, obs, m_sheet0 M ha, if_true], h⟩
    · obtain ⟨k, nu, s, hd, nh, d, t, sp, F, hV, hd9, hsp, hPM, hRM, hq', X1, e1, f1, hPX, h77, hac⟩ := view_of h hn5 hnX hnM hp
      exact ⟨-2, X1, M, by simp only [fX7_tells, zokX_0, zokX_1, zokX_2, zokX_3, zokX_4, zokX_5, zokX_6, zokX_7, zokX_8, zokX_9, zokX_10, zokX_11, zokX_12, zokX_13, zokX_14, zokX_15, zokX_16, zlaX_1, zlaX_2, zlaX_3, zlaX_4, zlaX_5, zlaX_6, zlaX_8, zlaX_11, zlaX_12, zlaX_13, zlaX_15, zlaX_16, zp_1, zp_h, zp_r, zp_l, zletE, obs, spXe_0, spXe_1, spXe_2, spXe_3, spXe_4, spXe_5, spXe_6, spXe_7, spXe_8, spXe_9, spXe_10, spXe_11, spXe_12, spXe_13, spXe_14, spXe_15, spXe_16, hX.1, x_sheet0 hX ha, e1, if_true], by simp only [fX8_tells, obs, m_sheet0 M ha, if_true], h.keep f1 (frN.rf M)⟩
  · rcases one_cases n (by omega) b with hb | ⟨p, hp, rfl⟩
    · exact ⟨-2, X, M, by simp only [fX7_tells, zokX_0, zokX_1, zokX_2, zokX_3, zokX_4, zokX_5, zokX_6, zokX_7, zokX_8, zokX_9, zokX_10, zokX_11, zokX_12, zokX_13, zokX_14, zokX_15, zokX_16, zlaX_1, zlaX_2, zlaX_3, zlaX_4, zlaX_5, zlaX_6, zlaX_8, zlaX_11, zlaX_12, zlaX_13, zlaX_15, zlaX_16, zp_1, zp_h, zp_r, zp_l, zletE, obs, spXe_0, spXe_1, spXe_2, spXe_3, spXe_4, spXe_5, spXe_6, spXe_7, spXe_8, spXe_9, spXe_10, spXe_11, spXe_12, spXe_13, spXe_14, spXe_15, spXe_16, hX.1, x_sheet1 hX hq, x_visit0 hX hnX hb, if_neg (ss51 q), if_true], by simp only [fX8_tells, zokM_0, zokM_1, zokM_2, zokM_3, zokM_4, zokM_5, zokM_6, zokM_7, zokM_8, zokM_9, zokM_10, zokM_11, zokM_12, zokM_13, zokM_14, zokM_15, zlaM_1, zlaM_2, zlaM_3, zlaM_4, zlaM_5, zlaM_6, zlaM_7, zlaM_8, zlaM_9, zlaM_10, zlaM_11, zlaM_12, zlaM_13, zlaM_14, zlaM_15, zp_1, zp_h, zp_r, zp_l, zletE, obs, spMe_0, spMe_1, spMe_2, spMe_3, spMe_4, spMe_5, spMe_6, spMe_7, spMe_8, spMe_9, spMe_10, spMe_11, spMe_12, spMe_13, spMe_14, spMe_15, hM.1, m_sheet1 M hq, if_neg n10, m_one0 hM hnM hn5 hb, if_true], h⟩
    · obtain ⟨k, nu, s, hd, nh, d, t, sp, F, hV, hd9, hsp, hPM, hRM, hq', X1, e1, f1, hPX, h77, hac⟩ := view_of h hn5 hnX hnM hp
      have hX1 := f1.sh hX
      have hX1n := hX1.1
      have hI1 := h.keep f1 (frN.rf M)
      have one := m_one1 hM hnM hn5 hp
      have xs := x_sheet1 hX hq
      have ms := m_sheet1 M hq
      rcases one_cases 8 (by decide) w with hw | ⟨j, hj, rfl⟩
      · refine ⟨-2, X1, M, ?_, by simp only [fX8_tells, zokM_0, zokM_1, zokM_2, zokM_3, zokM_4, zokM_5, zokM_6, zokM_7, zokM_8, zokM_9, zokM_10, zokM_11, zokM_12, zokM_13, zokM_14, zokM_15, zlaM_1, zlaM_2, zlaM_3, zlaM_4, zlaM_5, zlaM_6, zlaM_7, zlaM_8, zlaM_9, zlaM_10, zlaM_11, zlaM_12, zlaM_13, zlaM_14, zlaM_15, zp_1, zp_h, zp_r, zp_l, zletE, obs, spMe_0, spMe_1, spMe_2, spMe_3, spMe_4, spMe_5, spMe_6, spMe_7, spMe_8, spMe_9, spMe_10, spMe_11, spMe_12, spMe_13, spMe_14, spMe_15, hM.1, ms, if_neg n10, one, m_in0 7 (by decide) l7 hw, if_true], hI1⟩
        by_cases c0 : w < 0
        · simp only [fX7_tells, zokX_0, zokX_1, zokX_2, zokX_3, zokX_4, zokX_5, zokX_6, zokX_7, zokX_8, zokX_9, zokX_10, zokX_11, zokX_12, zokX_13, zokX_14, zokX_15, zokX_16, zlaX_1, zlaX_2, zlaX_3, zlaX_4, zlaX_5, zlaX_6, zlaX_8, zlaX_11, zlaX_12, zlaX_13, zlaX_15, zlaX_16, zp_1, zp_h, zp_r, zp_l, zletE, obs, spXe_0, spXe_1, spXe_2, spXe_3, spXe_4, spXe_5, spXe_6, spXe_7, spXe_8, spXe_9, spXe_10, spXe_11, spXe_12, spXe_13, spXe_14, spXe_15, spXe_16, hX.1, xs, e1, if_neg (ss51 q), if_neg s7, if_pos c0]
        · have c1 : ¬ w ≤ 7 := Int32.not_le.mpr (Int32.lt_of_lt_of_le (nI_lt (a := 7) (b := 8) (by decide) (by decide)) (hw.resolve_left c0))
          simp only [fX7_tells, zokX_0, zokX_1, zokX_2, zokX_3, zokX_4, zokX_5, zokX_6, zokX_7, zokX_8, zokX_9, zokX_10, zokX_11, zokX_12, zokX_13, zokX_14, zokX_15, zokX_16, zlaX_1, zlaX_2, zlaX_3, zlaX_4, zlaX_5, zlaX_6, zlaX_8, zlaX_11, zlaX_12, zlaX_13, zlaX_15, zlaX_16, zp_1, zp_h, zp_r, zp_l, zletE, obs, spXe_0, spXe_1, spXe_2, spXe_3, spXe_4, spXe_5, spXe_6, spXe_7, spXe_8, spXe_9, spXe_10, spXe_11, spXe_12, spXe_13, spXe_14, spXe_15, spXe_16, hX.1, xs, e1, if_neg (ss51 q), if_neg s7, if_neg c0, if_neg c1]
      · have c0 : ¬ nI j < 0 := nI_pos (by omega)
        have c1 : nI j ≤ (7 : Int32) := nI_le (b := 7) (by omega) (by decide)
        have hin := m_in1 7 (by decide) l7 hj M
        have r42 : M.2.2.2 0 42 = some 12 := hM.r (by decide) (by decide)
        have r44 : M.2.2.2 0 44 = some 14 := hM.r (by decide) (by decide)
        have z12 : zix spM 12 (nI q) = some q := zix_of rfl hq (by decide)
        have z14 : zix spM 14 (nI q) = some q := zix_of rfl hq (by decide)
        have zs := zok_sheet hX1.1 hq
        have xm := x_miss hX1 hq
        rcases sht_of hI1.2.2.2.2.2.2.1 hq with ⟨w1, w2⟩ | ⟨w1, w2, m0, hS1⟩
        · rw [if_pos w1] at xm
          exact ⟨-11, X1, M, by simp only [fX7_tells, zokX_0, zokX_1, zokX_2, zokX_3, zokX_4, zokX_5, zokX_6, zokX_7, zokX_8, zokX_9, zokX_10, zokX_11, zokX_12, zokX_13, zokX_14, zokX_15, zokX_16, zlaX_1, zlaX_2, zlaX_3, zlaX_4, zlaX_5, zlaX_6, zlaX_8, zlaX_11, zlaX_12, zlaX_13, zlaX_15, zlaX_16, zp_1, zp_h, zp_r, zp_l, zletE, obs, spXe_0, spXe_1, spXe_2, spXe_3, spXe_4, spXe_5, spXe_6, spXe_7, spXe_8, spXe_9, spXe_10, spXe_11, spXe_12, spXe_13, spXe_14, spXe_15, spXe_16, hX.1, xs, e1, if_neg (ss51 q), if_neg s7, if_neg c0, if_pos c1, zs, xm, if_neg n10], by simp only [fX8_tells, zokM_0, zokM_1, zokM_2, zokM_3, zokM_4, zokM_5, zokM_6, zokM_7, zokM_8, zokM_9, zokM_10, zokM_11, zokM_12, zokM_13, zokM_14, zokM_15, zlaM_1, zlaM_2, zlaM_3, zlaM_4, zlaM_5, zlaM_6, zlaM_7, zlaM_8, zlaM_9, zlaM_10, zlaM_11, zlaM_12, zlaM_13, zlaM_14, zlaM_15, zp_1, zp_h, zp_r, zp_l, zletE, obs, spMe_0, spMe_1, spMe_2, spMe_3, spMe_4, spMe_5, spMe_6, spMe_7, spMe_8, spMe_9, spMe_10, spMe_11, spMe_12, spMe_13, spMe_14, spMe_15, hM.1, ms, if_neg n10, one, hin, r42, z12, w2, if_true], hI1⟩
        · have w2' : ¬ M.2.1 12 q = 0 := by rw [w2]; decide
          rw [if_neg w1] at xm
          have h3 := hS1.2.2.1
          have h14 := hS1.2.2.2.1
          have h40 := hS1.2.1
          by_cases h12 : m0 ≤ 12
          · have c12 : nI m0 ≤ (12 : Int32) := nI_le (b := 12) h12 (by decide)
            have hV' : SyN (lkN M) ∧ k < 6 ∧ nu ≤ 9 ∧ s ≤ 4095 ∧ hd ≤ 4095 ∧ nh ≤ 4095 ∧ d ≤ 2000 := hV
            obtain ⟨v1, v2, v3, v4, v5, v6, v7⟩ := hV'
            have hp5 : p < 5 := by omega
            have hQ0 := hPM
            obtain ⟨qa, qa1, qa2, qa3, qa4, qa5, qa6, qa7, qa8, qa9⟩ := hPM
            have hP0 := hPX
            obtain ⟨pa, pa3, pa4, pa5, pa6, pa8, pa9, pt, pr, pT⟩ := hPX
            rcases (show j = 0 ∨ j = 1 ∨ j = 2 ∨ j = 3 ∨ j = 4 ∨ j = 5 ∨ j = 6 ∨ j = 7 by omega) with rfl | rfl | rfl | rfl | rfl | rfl | rfl | rfl
            · obtain ⟨r1, X2, x1, x2, x3, x4⟩ := x_first0 h12 hV hX1 hP0 hS1
              obtain ⟨r2, M2, m1, m2, m3, m4⟩ := m_first0 (M0 := M) h12 hq hV hM hQ0 hRM h14 (fun _ => rfl)
              have hrr : r2 = r1 := by rw [x4, m4]
              subst hrr
              exact ⟨r2, X2, M2, by simp only [fX7_tells, zokX_0, zokX_1, zokX_2, zokX_3, zokX_4, zokX_5, zokX_6, zokX_7, zokX_8, zokX_9, zokX_10, zokX_11, zokX_12, zokX_13, zokX_14, zokX_15, zokX_16, zlaX_1, zlaX_2, zlaX_3, zlaX_4, zlaX_5, zlaX_6, zlaX_8, zlaX_11, zlaX_12, zlaX_13, zlaX_15, zlaX_16, zp_1, zp_h, zp_r, zp_l, zletE, obs, spXe_0, spXe_1, spXe_2, spXe_3, spXe_4, spXe_5, spXe_6, spXe_7, spXe_8, spXe_9, spXe_10, spXe_11, spXe_12, spXe_13, spXe_14, spXe_15, spXe_16, hX.1, hX1n, xs, e1, if_neg (ss51 q), if_neg s7, if_neg c0, if_pos c1, zs, xm, if_true, h3, if_pos c12, if_pos (show nI 0 = (0 : Int32) from rfl), x1], by simp only [fX8_tells, fX8_tells_j66, zokM_0, zokM_1, zokM_2, zokM_3, zokM_4, zokM_5, zokM_6, zokM_7, zokM_8, zokM_9, zokM_10, zokM_11, zokM_12, zokM_13, zokM_14, zokM_15, zlaM_1, zlaM_2, zlaM_3, zlaM_4, zlaM_5, zlaM_6, zlaM_7, zlaM_8, zlaM_9, zlaM_10, zlaM_11, zlaM_12, zlaM_13, zlaM_14, zlaM_15, zp_1, zp_h, zp_r, zp_l, zletE, obs, spMe_0, spMe_1, spMe_2, spMe_3, spMe_4, spMe_5, spMe_6, spMe_7, spMe_8, spMe_9, spMe_10, spMe_11, spMe_12, spMe_13, spMe_14, spMe_15, hM.1, ms, if_neg n10, one, hin, r42, z12, if_neg w2', r44, z14, h14, if_pos c12, if_pos (show nI 0 = (0 : Int32) from rfl), m1], hI1.keep x2.a.c m2.n⟩
            · -- KINDS
              obtain ⟨X2, x1, x2⟩ := x_kinds hX1 (q := q) (P := fun v => ftB (lkN M) (fun j => M.2.1 15 (40 * q + j)) m0 v nu s hd nh d F) (fun Y v hv hf => by
                obtain ⟨y1, y2, y3, y4, y5⟩ := hf.pc hP0 (nI v)
                obtain ⟨r, X', z1, z2, z3, -⟩ := x_first0 (M0 := M) h12 (k := v) ⟨v1, hv, v3, v4, v5, v6, v7⟩ (hf.sh hX1 _) ⟨y1, y3, (y2 4 (by decide)).trans pa4, (y2 5 (by decide)).trans pa5, (y2 6 (by decide)).trans pa6, (y2 8 (by decide)).trans pa8, (y2 9 (by decide)).trans pa9, pt, y4, y5⟩ (hf.sht hS1 _)
                exact ⟨r, X', z1, z2, z3⟩) 6 0 zF 0 X1 rfl (by decide) (frV.rf 3 X1)
              obtain ⟨M2, m1, m2⟩ := m_tellsL hM (q := q) (p := p) (so := 5) (sk := p) (last1 := 6) (sort := 5) (w := 1) (P := fun v => ftB (lkN M) (fun j => M.2.1 15 (40 * q + j)) m0 v nu s hd nh d F) (fun N v hN => m_laysK hN hp5 v) (fun N v hv hf => by
                have g : ∀ o i, (o ≠ 0 ∨ i < 13 ∨ 27 < i) → ¬ (o = 5 ∧ i = p) → (zp N 5 p (nI v)).2.1 o i = M.2.1 o i := fun o i h1 h2 => hf.at _ h1 h2
                obtain ⟨r, M', z1, z2, z3, -⟩ := m_first0 (M := zp N 5 p (nI v)) (M0 := M) h12 hq (k := v) ⟨v1, hv, v3, v4, v5, v6, v7⟩ (hf.sh hM) ⟨fun u hu => (g _ _ (Or.inl (by decide)) (by omega)).trans (qa u hu), qa1, qa2, (g _ _ (Or.inr (Or.inl (by decide))) (by omega)).trans qa3, by rw [zp_h, if_pos ⟨rfl, rfl⟩], (g _ _ (Or.inl (by decide)) (by omega)).trans qa5, (g _ _ (Or.inl (by decide)) (by omega)).trans qa6, (g _ _ (Or.inl (by decide)) (by omega)).trans qa7, (g _ _ (Or.inr (Or.inl (by decide))) (by omega)).trans qa8, by rw [g _ _ (Or.inl (by decide)) (by omega)]; exact qa9⟩ ⟨(g _ _ (Or.inr (Or.inl (by decide))) (by omega)).trans hRM.1, hRM.2.mono (fun i _ => g _ _ (Or.inl (by decide)) (by omega)) (g _ _ (Or.inl (by decide)) (by omega))⟩ ((g _ _ (Or.inl (by decide)) (by omega)).trans h14) (fun i => g _ _ (Or.inl (by decide)) (by omega))
                exact ⟨r, M', z1, z2, z3⟩) (by decide) 6 zF 0 0 (-1) M (Nat.le_refl _) (by decide) ⟨rfl, rfl, fun _ _ => Or.inr (Or.inr rfl)⟩
              rw [if_neg (by decide), if_neg (by decide), ← st_eq _ (by decide)] at m1
              have x1' : fX7_fittingKinds (some (51 + 2 * q)) (some 7) X1 = some (_, X2) := x1
              have m1' : fX8_tells_L206 0 zF (nI q) (nI p) (nI 1) 5 (M.2.1 5 p) 0 0 (-1) 5 M = some (_, M2) := m1
              refine ⟨_, X2, M2, (by simp only [fX7_tells, zokX_0, zokX_1, zokX_2, zokX_3, zokX_4, zokX_5, zokX_6, zokX_7, zokX_8, zokX_9, zokX_10, zokX_11, zokX_12, zokX_13, zokX_14, zokX_15, zokX_16, zlaX_1, zlaX_2, zlaX_3, zlaX_4, zlaX_5, zlaX_6, zlaX_8, zlaX_11, zlaX_12, zlaX_13, zlaX_15, zlaX_16, zp_1, zp_h, zp_r, zp_l, zletE, obs, spXe_0, spXe_1, spXe_2, spXe_3, spXe_4, spXe_5, spXe_6, spXe_7, spXe_8, spXe_9, spXe_10, spXe_11, spXe_12, spXe_13, spXe_14, spXe_15, spXe_16, hX.1, hX1n, xs, e1, if_neg (ss51 q), if_neg s7, if_neg c0, if_pos c1, zs, xm, if_true, h3, if_pos c12, if_neg (show ¬ nI 1 = (0 : Int32) by decide), if_pos (show nI 1 = (1 : Int32) from rfl), x1']; rfl), ?_, hI1.keep x2.a.c m2.n⟩
              simp only [fX8_tells, fX8_tells_j127, fX8_tells_j150, fX8_tells_j191, zokM_0, zokM_1, zokM_2, zokM_3, zokM_4, zokM_5, zokM_6, zokM_7, zokM_8, zokM_9, zokM_10, zokM_11, zokM_12, zokM_13, zokM_14, zokM_15, zlaM_1, zlaM_2, zlaM_3, zlaM_4, zlaM_5, zlaM_6, zlaM_7, zlaM_8, zlaM_9, zlaM_10, zlaM_11, zlaM_12, zlaM_13, zlaM_14, zlaM_15, zp_1, zp_h, zp_r, zp_l, zletE, obs, spMe_0, spMe_1, spMe_2, spMe_3, spMe_4, spMe_5, spMe_6, spMe_7, spMe_8, spMe_9, spMe_10, spMe_11, spMe_12, spMe_13, spMe_14, spMe_15, hM.1, ms, if_neg n10, one, hin, r42, z12, if_neg w2', r44, z14, h14, if_pos c12, if_neg (show ¬ nI 1 = (0 : Int32) by decide), if_neg (show ¬ nI 1 = (7 : Int32) by decide), if_neg (show ¬ nI 1 = (5 : Int32) by decide), if_pos (show nI 1 = (1 : Int32) from rfl), if_neg (show ¬ (5 : Int32) = 6 by decide), m_toldK hM hnM hn5 hp, if_true, m1']
            · -- NUMBERS
              obtain ⟨X2, x1, x2⟩ := x_nums hX1 (q := q) (P := fun v => ftB (lkN M) (fun j => M.2.1 15 (40 * q + j)) m0 k v s hd nh d F) (fun Y v hv hf => by
                obtain ⟨y1, y2, y3, y4, y5⟩ := hf.pc hP0 (nI v)
                obtain ⟨r, X', z1, z2, z3, -⟩ := x_first0 (M0 := M) h12 (nu := v) ⟨v1, v2, by omega, v4, v5, v6, v7⟩ (hf.sh hX1 _) ⟨y1, (y2 3 (by decide)).trans pa3, y3, (y2 5 (by decide)).trans pa5, (y2 6 (by decide)).trans pa6, (y2 8 (by decide)).trans pa8, (y2 9 (by decide)).trans pa9, pt, y4, y5⟩ (hf.sht hS1 _)
                exact ⟨r, X', z1, z2, z3⟩) 10 0 zF 0 X1 rfl (by decide) (frV.rf 4 X1)
              have hl1 : ∀ (N : zS) (v : Int32), shM N → fX8_lays 0 1 (nI p) v N = some ((), zp N 6 (4 * p) v) := fun N v hN => by
                have e := m_lays1 hN hp5 (k := 1) (by decide) (by decide) v
                rw [show 4 * p + 1 - 1 = 4 * p by omega] at e
                exact e
              obtain ⟨M2, m1, m2⟩ := m_tellsL hM (q := q) (p := p) (so := 6) (sk := 4 * p) (last1 := 10) (sort := 1) (w := 2) (P := fun v => ftB (lkN M) (fun j => M.2.1 15 (40 * q + j)) m0 k v s hd nh d F) hl1 (fun N v hv hf => by
                have g : ∀ o i, (o ≠ 0 ∨ i < 13 ∨ 27 < i) → ¬ (o = 6 ∧ i = 4 * p) → (zp N 6 (4 * p) (nI v)).2.1 o i = M.2.1 o i := fun o i h1 h2 => hf.at _ h1 h2
                obtain ⟨r, M', z1, z2, z3, -⟩ := m_first0 (M := zp N 6 (4 * p) (nI v)) (M0 := M) h12 hq (nu := v) ⟨v1, v2, by omega, v4, v5, v6, v7⟩ (hf.sh hM) ⟨fun u hu => (g _ _ (Or.inl (by decide)) (by omega)).trans (qa u hu), qa1, qa2, (g _ _ (Or.inr (Or.inl (by decide))) (by omega)).trans qa3, (g _ _ (Or.inl (by decide)) (by omega)).trans qa4, by rw [zp_h, if_pos ⟨rfl, rfl⟩], (g _ _ (Or.inl (by decide)) (by omega)).trans qa6, (g _ _ (Or.inl (by decide)) (by omega)).trans qa7, (g _ _ (Or.inr (Or.inl (by decide))) (by omega)).trans qa8, by rw [g _ _ (Or.inl (by decide)) (by omega)]; exact qa9⟩ ⟨(g _ _ (Or.inr (Or.inl (by decide))) (by omega)).trans hRM.1, hRM.2.mono (fun i _ => g _ _ (Or.inl (by decide)) (by omega)) (g _ _ (Or.inl (by decide)) (by omega))⟩ ((g _ _ (Or.inl (by decide)) (by omega)).trans h14) (fun i => g _ _ (Or.inl (by decide)) (by omega))
                exact ⟨r, M', z1, z2, z3⟩) (by decide) 10 zF 0 0 (-1) M (Nat.le_refl _) (by decide) ⟨rfl, rfl, fun _ _ => Or.inr (Or.inr rfl)⟩
              rw [if_neg (by decide), if_neg (by decide), ← st_eq _ (by decide)] at m1
              have x1' : fX7_fittingNumbers (some (51 + 2 * q)) (some 7) X1 = some (_, X2) := x1
              have m1' : fX8_tells_L206 0 zF (nI q) (nI p) (nI 2) 1 (M.2.1 6 (4 * p)) 0 0 (-1) 9 M = some (_, M2) := m1
              have tt : fX8_told 0 (nI p) 1 M = some (M.2.1 6 (4 * p), M) := m_told1 hM hnM hn5 hp (k := 1) (by decide) (by decide)
              refine ⟨_, X2, M2, (by simp only [fX7_tells, zokX_0, zokX_1, zokX_2, zokX_3, zokX_4, zokX_5, zokX_6, zokX_7, zokX_8, zokX_9, zokX_10, zokX_11, zokX_12, zokX_13, zokX_14, zokX_15, zokX_16, zlaX_1, zlaX_2, zlaX_3, zlaX_4, zlaX_5, zlaX_6, zlaX_8, zlaX_11, zlaX_12, zlaX_13, zlaX_15, zlaX_16, zp_1, zp_h, zp_r, zp_l, zletE, obs, spXe_0, spXe_1, spXe_2, spXe_3, spXe_4, spXe_5, spXe_6, spXe_7, spXe_8, spXe_9, spXe_10, spXe_11, spXe_12, spXe_13, spXe_14, spXe_15, spXe_16, hX.1, hX1n, xs, e1, if_neg (ss51 q), if_neg s7, if_neg c0, if_pos c1, zs, xm, if_true, h3, if_pos c12, if_neg (show ¬ nI 2 = (0 : Int32) by decide), if_neg (show ¬ nI 2 = (1 : Int32) by decide), if_pos (show nI 2 = (2 : Int32) from rfl), x1']; rfl), ?_, hI1.keep x2.a.c m2.n⟩
              simp only [fX8_tells, fX8_tells_j127, fX8_tells_j150, fX8_tells_j191, zokM_0, zokM_1, zokM_2, zokM_3, zokM_4, zokM_5, zokM_6, zokM_7, zokM_8, zokM_9, zokM_10, zokM_11, zokM_12, zokM_13, zokM_14, zokM_15, zlaM_1, zlaM_2, zlaM_3, zlaM_4, zlaM_5, zlaM_6, zlaM_7, zlaM_8, zlaM_9, zlaM_10, zlaM_11, zlaM_12, zlaM_13, zlaM_14, zlaM_15, zp_1, zp_h, zp_r, zp_l, zletE, obs, spMe_0, spMe_1, spMe_2, spMe_3, spMe_4, spMe_5, spMe_6, spMe_7, spMe_8, spMe_9, spMe_10, spMe_11, spMe_12, spMe_13, spMe_14, spMe_15, hM.1, ms, if_neg n10, one, hin, r42, z12, if_neg w2', r44, z14, h14, if_pos c12, if_neg (show ¬ nI 2 = (0 : Int32) by decide), if_neg (show ¬ nI 2 = (7 : Int32) by decide), if_neg (show ¬ nI 2 = (5 : Int32) by decide), if_neg (show ¬ nI 2 = (1 : Int32) by decide), if_pos (show nI 2 = (2 : Int32) from rfl), if_neg (show ¬ (1 : Int32) = 6 by decide), if_neg (show ¬ (1 : Int32) = 5 by decide), tt, if_true, m1']
            · obtain ⟨X2, x1, x2⟩ := x_days hX1 (q := q) (P := (fun v => ftB (lkN M) (fun j => M.2.1 15 (40 * q + j)) m0 k nu s hd nh v F)) (fun Y v hv hf => by
                obtain ⟨y1, y2, y3, y4, y5⟩ := hf.pc hP0 (nI v)
                obtain ⟨r, X', z1, z2, z3, -⟩ := x_first0 (M0 := M) h12 (d := v) ⟨v1, v2, v3, v4, v5, v6, by omega⟩ (hf.sh hX1 _) ⟨y1, (y2 3 (by decide)).trans pa3, (y2 4 (by decide)).trans pa4, (y2 5 (by decide)).trans pa5, (y2 6 (by decide)).trans pa6, (y2 8 (by decide)).trans pa8, y3, pt, y4, y5⟩ (hf.sht hS1 _)
                exact ⟨r, X', z1, z2, z3⟩) 100 0 zF 0 X1 rfl (by decide) (frV.rf 9 X1)
              obtain ⟨M2, m1, m2⟩ := m_tellsL hM (q := q) (p := p) (so := 0) (sk := 7) (last1 := 100) (sort := 0) (w := 3) (P := (fun v => ftB (lkN M) (fun j => M.2.1 15 (40 * q + j)) m0 k nu s hd nh v F)) (fun N v hN => m_lays0 hN (nI p) v) (fun N v hv hf => by
                have g : ∀ o i, (o ≠ 0 ∨ i < 13 ∨ 27 < i) → ¬ (o = 0 ∧ i = 7) → (zp N 0 7 (nI v)).2.1 o i = M.2.1 o i := fun o i h1 h2 => hf.at _ h1 h2
                obtain ⟨r, M', z1, z2, z3, -⟩ := m_first0 (M := zp N 0 7 (nI v)) (M0 := M) h12 hq (d := v) ⟨v1, v2, v3, v4, v5, v6, by omega⟩ (hf.sh hM) ⟨fun u hu => (g _ _ (Or.inl (by decide)) (by omega)).trans (qa u hu), qa1, qa2, (g _ _ (Or.inr (Or.inl (by decide))) (by omega)).trans qa3, (g _ _ (Or.inl (by decide)) (by omega)).trans qa4, (g _ _ (Or.inl (by decide)) (by omega)).trans qa5, (g _ _ (Or.inl (by decide)) (by omega)).trans qa6, (g _ _ (Or.inl (by decide)) (by omega)).trans qa7, by rw [zp_h, if_pos ⟨rfl, rfl⟩], by rw [g _ _ (Or.inl (by decide)) (by omega)]; exact qa9⟩ ⟨(g _ _ (Or.inr (Or.inl (by decide))) (by omega)).trans hRM.1, hRM.2.mono (fun i _ => g _ _ (Or.inl (by decide)) (by omega)) (g _ _ (Or.inl (by decide)) (by omega))⟩ ((g _ _ (Or.inl (by decide)) (by omega)).trans h14) (fun i => g _ _ (Or.inl (by decide)) (by omega))
                exact ⟨r, M', z1, z2, z3⟩) (by decide) 100 zF 0 0 (-1) M (Nat.le_refl _) (by decide) ⟨rfl, rfl, fun _ _ => Or.inr (Or.inr rfl)⟩
              rw [if_pos rfl, ctD_acc, ← ctU_acc _ 100 0 0] at m1
              have x1' : fX7_fittingDays (some (51 + 2 * q)) (some 7) X1 = some (_, X2) := x1
              have m1' : fX8_tells_L206 0 zF (nI q) (nI p) (nI 3) 0 (M.2.1 0 7) 0 0 (-1) 99 M = some (_, M2) := m1
              have tt := m_told0 hM (nI p)
              refine ⟨_, X2, M2, (by simp only [fX7_tells, zokX_0, zokX_1, zokX_2, zokX_3, zokX_4, zokX_5, zokX_6, zokX_7, zokX_8, zokX_9, zokX_10, zokX_11, zokX_12, zokX_13, zokX_14, zokX_15, zokX_16, zlaX_1, zlaX_2, zlaX_3, zlaX_4, zlaX_5, zlaX_6, zlaX_8, zlaX_11, zlaX_12, zlaX_13, zlaX_15, zlaX_16, zp_1, zp_h, zp_r, zp_l, zletE, obs, spXe_0, spXe_1, spXe_2, spXe_3, spXe_4, spXe_5, spXe_6, spXe_7, spXe_8, spXe_9, spXe_10, spXe_11, spXe_12, spXe_13, spXe_14, spXe_15, spXe_16, hX.1, hX1n, xs, e1, if_neg (ss51 q), if_neg s7, if_neg c0, if_pos c1, zs, xm, if_true, h3, if_pos c12, if_neg (show ¬ nI 3 = (0 : Int32) by decide), if_neg (show ¬ nI 3 = (1 : Int32) by decide), if_neg (show ¬ nI 3 = (2 : Int32) by decide), if_pos (show nI 3 = (3 : Int32) from rfl), x1']; rfl), ?_, hI1.keep x2.a.c m2.n⟩
              simp only [fX8_tells, fX8_tells_j127, fX8_tells_j150, fX8_tells_j191, zokM_0, zokM_1, zokM_2, zokM_3, zokM_4, zokM_5, zokM_6, zokM_7, zokM_8, zokM_9, zokM_10, zokM_11, zokM_12, zokM_13, zokM_14, zokM_15, zlaM_1, zlaM_2, zlaM_3, zlaM_4, zlaM_5, zlaM_6, zlaM_7, zlaM_8, zlaM_9, zlaM_10, zlaM_11, zlaM_12, zlaM_13, zlaM_14, zlaM_15, zp_1, zp_h, zp_r, zp_l, zletE, obs, spMe_0, spMe_1, spMe_2, spMe_3, spMe_4, spMe_5, spMe_6, spMe_7, spMe_8, spMe_9, spMe_10, spMe_11, spMe_12, spMe_13, spMe_14, spMe_15, hM.1, ms, if_neg n10, one, hin, r42, z12, if_neg w2', r44, z14, h14, if_pos c12, if_neg (show ¬ nI 3 = (0 : Int32) by decide), if_neg (show ¬ nI 3 = (7 : Int32) by decide), if_neg (show ¬ nI 3 = (5 : Int32) by decide), if_neg (show ¬ nI 3 = (1 : Int32) by decide), if_neg (show ¬ nI 3 = (2 : Int32) by decide), if_neg (show ¬ nI 3 = (6 : Int32) by decide), if_neg (show ¬ (0 : Int32) = 6 by decide), if_neg (show ¬ (0 : Int32) = 5 by decide), if_neg (show ¬ (0 : Int32) = 1 by decide), tt, m1']
            · obtain ⟨X2, x1, x2⟩ := x_fday hX1 (q := q) (P := (fun v => ftB (lkN M) (fun j => M.2.1 15 (40 * q + j)) m0 k nu s hd nh v F)) (fun Y v hv hf => by
                obtain ⟨y1, y2, y3, y4, y5⟩ := hf.pc hP0 (nI v)
                obtain ⟨r, X', z1, z2, z3, -⟩ := x_first0 (M0 := M) h12 (d := v) ⟨v1, v2, v3, v4, v5, v6, by omega⟩ (hf.sh hX1 _) ⟨y1, (y2 3 (by decide)).trans pa3, (y2 4 (by decide)).trans pa4, (y2 5 (by decide)).trans pa5, (y2 6 (by decide)).trans pa6, (y2 8 (by decide)).trans pa8, y3, pt, y4, y5⟩ (hf.sht hS1 _)
                exact ⟨r, X', z1, z2, z3⟩) 100 0 zF X1 rfl (by decide) (frV.rf 9 X1)
              obtain ⟨M2, m1, m2⟩ := m_tellsL hM (q := q) (p := p) (so := 0) (sk := 7) (last1 := 100) (sort := 0) (w := 4) (P := (fun v => ftB (lkN M) (fun j => M.2.1 15 (40 * q + j)) m0 k nu s hd nh v F)) (fun N v hN => m_lays0 hN (nI p) v) (fun N v hv hf => by
                have g : ∀ o i, (o ≠ 0 ∨ i < 13 ∨ 27 < i) → ¬ (o = 0 ∧ i = 7) → (zp N 0 7 (nI v)).2.1 o i = M.2.1 o i := fun o i h1 h2 => hf.at _ h1 h2
                obtain ⟨r, M', z1, z2, z3, -⟩ := m_first0 (M := zp N 0 7 (nI v)) (M0 := M) h12 hq (d := v) ⟨v1, v2, v3, v4, v5, v6, by omega⟩ (hf.sh hM) ⟨fun u hu => (g _ _ (Or.inl (by decide)) (by omega)).trans (qa u hu), qa1, qa2, (g _ _ (Or.inr (Or.inl (by decide))) (by omega)).trans qa3, (g _ _ (Or.inl (by decide)) (by omega)).trans qa4, (g _ _ (Or.inl (by decide)) (by omega)).trans qa5, (g _ _ (Or.inl (by decide)) (by omega)).trans qa6, (g _ _ (Or.inl (by decide)) (by omega)).trans qa7, by rw [zp_h, if_pos ⟨rfl, rfl⟩], by rw [g _ _ (Or.inl (by decide)) (by omega)]; exact qa9⟩ ⟨(g _ _ (Or.inr (Or.inl (by decide))) (by omega)).trans hRM.1, hRM.2.mono (fun i _ => g _ _ (Or.inl (by decide)) (by omega)) (g _ _ (Or.inl (by decide)) (by omega))⟩ ((g _ _ (Or.inl (by decide)) (by omega)).trans h14) (fun i => g _ _ (Or.inl (by decide)) (by omega))
                exact ⟨r, M', z1, z2, z3⟩) (by decide) 100 zF 0 0 (-1) M (Nat.le_refl _) (by decide) ⟨rfl, rfl, fun _ _ => Or.inr (Or.inr rfl)⟩
              rw [if_neg (by decide), if_pos rfl, lsD_fsU _ 100 0 (-1) rfl] at m1
              have x1' : fX7_firstFittingDay (some (51 + 2 * q)) (some 7) X1 = some (_, X2) := x1
              have m1' : fX8_tells_L206 0 zF (nI q) (nI p) (nI 4) 0 (M.2.1 0 7) 0 0 (-1) 99 M = some (_, M2) := m1
              have tt := m_told0 hM (nI p)
              refine ⟨_, X2, M2, (by simp only [fX7_tells, zokX_0, zokX_1, zokX_2, zokX_3, zokX_4, zokX_5, zokX_6, zokX_7, zokX_8, zokX_9, zokX_10, zokX_11, zokX_12, zokX_13, zokX_14, zokX_15, zokX_16, zlaX_1, zlaX_2, zlaX_3, zlaX_4, zlaX_5, zlaX_6, zlaX_8, zlaX_11, zlaX_12, zlaX_13, zlaX_15, zlaX_16, zp_1, zp_h, zp_r, zp_l, zletE, obs, spXe_0, spXe_1, spXe_2, spXe_3, spXe_4, spXe_5, spXe_6, spXe_7, spXe_8, spXe_9, spXe_10, spXe_11, spXe_12, spXe_13, spXe_14, spXe_15, spXe_16, hX.1, hX1n, xs, e1, if_neg (ss51 q), if_neg s7, if_neg c0, if_pos c1, zs, xm, if_true, h3, if_pos c12, if_neg (show ¬ nI 4 = (0 : Int32) by decide), if_neg (show ¬ nI 4 = (1 : Int32) by decide), if_neg (show ¬ nI 4 = (2 : Int32) by decide), if_neg (show ¬ nI 4 = (3 : Int32) by decide), if_pos (show nI 4 = (4 : Int32) from rfl), x1']; rfl), ?_, hI1.keep x2.a.c m2.n⟩
              simp only [fX8_tells, fX8_tells_j127, fX8_tells_j150, fX8_tells_j191, zokM_0, zokM_1, zokM_2, zokM_3, zokM_4, zokM_5, zokM_6, zokM_7, zokM_8, zokM_9, zokM_10, zokM_11, zokM_12, zokM_13, zokM_14, zokM_15, zlaM_1, zlaM_2, zlaM_3, zlaM_4, zlaM_5, zlaM_6, zlaM_7, zlaM_8, zlaM_9, zlaM_10, zlaM_11, zlaM_12, zlaM_13, zlaM_14, zlaM_15, zp_1, zp_h, zp_r, zp_l, zletE, obs, spMe_0, spMe_1, spMe_2, spMe_3, spMe_4, spMe_5, spMe_6, spMe_7, spMe_8, spMe_9, spMe_10, spMe_11, spMe_12, spMe_13, spMe_14, spMe_15, hM.1, ms, if_neg n10, one, hin, r42, z12, if_neg w2', r44, z14, h14, if_pos c12, if_neg (show ¬ nI 4 = (0 : Int32) by decide), if_neg (show ¬ nI 4 = (7 : Int32) by decide), if_neg (show ¬ nI 4 = (5 : Int32) by decide), if_neg (show ¬ nI 4 = (1 : Int32) by decide), if_neg (show ¬ nI 4 = (2 : Int32) by decide), if_neg (show ¬ nI 4 = (6 : Int32) by decide), if_neg (show ¬ (0 : Int32) = 6 by decide), if_neg (show ¬ (0 : Int32) = 5 by decide), if_neg (show ¬ (0 : Int32) = 1 by decide), tt, m1']
            · have sx : ∀ v, v < 12 → s ^^^ 2 ^ v ≤ 4095 := fun v hv => by
                have h1 := p2_le hv
                have := Nat.xor_lt_two_pow (n := 12) (x := s) (y := 2 ^ v) (by omega) (by omega)
                omega
              obtain ⟨X2, x1, x2⟩ := x_things hX1 (q := q) (s := s) (P := (fun v => ftB (lkN M) (fun j => M.2.1 15 (40 * q + j)) m0 k nu (s ^^^ 2 ^ v) hd nh d F)) (fun Y v hv hf => by
                obtain ⟨y1, y2, y3, y4, y5⟩ := hf.pc hP0 (nI (s ^^^ 2 ^ v))
                obtain ⟨r, X', z1, z2, z3, -⟩ := x_first0 (M0 := M) h12 (s := s ^^^ 2 ^ v) ⟨v1, v2, v3, sx v hv, v5, v6, v7⟩ (hf.sh hX1 _) ⟨y1, (y2 3 (by decide)).trans pa3, (y2 4 (by decide)).trans pa4, y3, (y2 6 (by decide)).trans pa6, (y2 8 (by decide)).trans pa8, (y2 9 (by decide)).trans pa9, pt, y4, y5⟩ (hf.sht hS1 _)
                exact ⟨r, X', z1, z2, z3⟩) 12 0 zF 0 X1 rfl (by decide) (frV.rf 5 X1)
              obtain ⟨M2, m1, m2⟩ := m_turned hM (q := q) hp5 qa6 (P := (fun v => ftB (lkN M) (fun j => M.2.1 15 (40 * q + j)) m0 k nu (s ^^^ 2 ^ v) hd nh d F)) (fun N v hv hf => by
                have g : ∀ o i, (o ≠ 0 ∨ i < 13 ∨ 27 < i) → ¬ (o = 6 ∧ i = 4 * p + 1) → (zp N 6 (4 * p + 1) (nI (s ^^^ 2 ^ v))).2.1 o i = M.2.1 o i := fun o i h1 h2 => by rw [zp_h, if_neg h2]; exact hf.at h1
                obtain ⟨r, M', z1, z2, z3, -⟩ := m_first0 (M := zp N 6 (4 * p + 1) (nI (s ^^^ 2 ^ v))) (M0 := M) h12 hq (s := s ^^^ 2 ^ v) ⟨v1, v2, v3, sx v hv, v5, v6, v7⟩ (hf.sh hM) ⟨fun u hu => (g _ _ (Or.inl (by decide)) (by omega)).trans (qa u hu), qa1, qa2, (g _ _ (Or.inr (Or.inl (by decide))) (by omega)).trans qa3, (g _ _ (Or.inl (by decide)) (by omega)).trans qa4, (g _ _ (Or.inl (by decide)) (by omega)).trans qa5, by rw [zp_h, if_pos ⟨rfl, rfl⟩], (g _ _ (Or.inl (by decide)) (by omega)).trans qa7, (g _ _ (Or.inr (Or.inl (by decide))) (by omega)).trans qa8, by rw [g _ _ (Or.inl (by decide)) (by omega)]; exact qa9⟩ ⟨(g _ _ (Or.inr (Or.inl (by decide))) (by omega)).trans hRM.1, hRM.2.mono (fun i _ => g _ _ (Or.inl (by decide)) (by omega)) (g _ _ (Or.inl (by decide)) (by omega))⟩ ((g _ _ (Or.inl (by decide)) (by omega)).trans h14) (fun i => g _ _ (Or.inl (by decide)) (by omega))
                exact ⟨r, M', z1, z2, z3⟩) 12 0 zF 0 M rfl (by decide) (frM.rf M)
              have x1' : fX7_fittingThings_L10 zF (some (51 + 2 * q)) (some 7) 0 (nI s) 0 X1 = some (_, X2) := x1
              have m1' : fX8_turnedSet 0 (nI q) (nI p) M = some (_, M2) := m1
              refine ⟨_, X2, M2, (by simp only [fX7_tells, zokX_0, zokX_1, zokX_2, zokX_3, zokX_4, zokX_5, zokX_6, zokX_7, zokX_8, zokX_9, zokX_10, zokX_11, zokX_12, zokX_13, zokX_14, zokX_15, zokX_16, zlaX_1, zlaX_2, zlaX_3, zlaX_4, zlaX_5, zlaX_6, zlaX_8, zlaX_11, zlaX_12, zlaX_13, zlaX_15, zlaX_16, zp_1, zp_h, zp_r, zp_l, zletE, obs, spXe_0, spXe_1, spXe_2, spXe_3, spXe_4, spXe_5, spXe_6, spXe_7, spXe_8, spXe_9, spXe_10, spXe_11, spXe_12, spXe_13, spXe_14, spXe_15, spXe_16, hX.1, hX1n, xs, e1, if_neg (ss51 q), if_neg s7, if_neg c0, if_pos c1, zs, xm, if_true, h3, if_pos c12, if_neg (show ¬ nI 5 = (0 : Int32) by decide), if_neg (show ¬ nI 5 = (1 : Int32) by decide), if_neg (show ¬ nI 5 = (2 : Int32) by decide), if_neg (show ¬ nI 5 = (3 : Int32) by decide), if_neg (show ¬ nI 5 = (4 : Int32) by decide), if_pos (show nI 5 = (5 : Int32) from rfl), fX7_fittingThings, pa5, x1']; rfl), ?_, hI1.keep x2.a.c m2.n⟩
              simp only [fX8_tells, fX8_tells_j127, fX8_tells_j150, fX8_tells_j191, zokM_0, zokM_1, zokM_2, zokM_3, zokM_4, zokM_5, zokM_6, zokM_7, zokM_8, zokM_9, zokM_10, zokM_11, zokM_12, zokM_13, zokM_14, zokM_15, zlaM_1, zlaM_2, zlaM_3, zlaM_4, zlaM_5, zlaM_6, zlaM_7, zlaM_8, zlaM_9, zlaM_10, zlaM_11, zlaM_12, zlaM_13, zlaM_14, zlaM_15, zp_1, zp_h, zp_r, zp_l, zletE, obs, spMe_0, spMe_1, spMe_2, spMe_3, spMe_4, spMe_5, spMe_6, spMe_7, spMe_8, spMe_9, spMe_10, spMe_11, spMe_12, spMe_13, spMe_14, spMe_15, hM.1, ms, if_neg n10, one, hin, r42, z12, if_neg w2', r44, z14, h14, if_pos c12, if_neg (show ¬ nI 5 = (0 : Int32) by decide), if_neg (show ¬ nI 5 = (7 : Int32) by decide), if_pos (show nI 5 = (5 : Int32) from rfl), m1']
            · obtain ⟨-, -, ⟨cX, cnt, cn1, cn6, cM⟩, -⟩ := hI1.2.2.1
              have hTt := hI1.2.2.2.2.2.2.2.2
              have ex : ∀ v, ∃ F : Nat → (Nat → Int32) → Int32, v < cnt → TxX X1 v F ∧ TxM M v F := fun v => by
                by_cases hv : v < cnt
                · obtain ⟨F, a, b⟩ := hTt v (by omega) (by rw [cM]; exact nI_lt hv (by omega))
                  exact ⟨F, fun _ => ⟨a, b⟩⟩
                · exact ⟨F, fun q => absurd q hv⟩
              obtain ⟨Fv, hFv⟩ := Classical.skolem.mp ex
              obtain ⟨X2, x1, x2⟩ := x_texts hX1 (q := q) cn6 (cX.trans cM) (P := (fun v => ftB (lkN M) (fun j => M.2.1 15 (40 * q + j)) m0 k nu s hd nh d (Fv v))) (fun Y v hv hf => by
                have g : ∀ o i, o ≠ 8 → o < 27 ∨ 51 ≤ o → (zpr Y 7 2 (some (27 + 4 * v))).2.1 o i = X1.2.1 o i := fun o i h8 ho => by
                  rw [zpr_h]
                  rcases hf.2.2 o i with z | ⟨u, hu, z⟩ | z
                  · exact absurd z h8
                  · omega
                  · exact z
                have cd := fun u hu => hf.c.code (t := u) hu
                have hYs : shX (zpr Y 7 2 (some (27 + 4 * v))) := ⟨hf.1.trans hX1.1, fun o ho i hi => by
                  rw [zpr_r]
                  by_cases e : o = 7 ∧ i = 2
                  · exact Or.inl e
                  · rw [if_neg e]
                    rcases hf.2.1 o i with z | z
                    · exact absurd z e
                    · rw [z]; exact hX1.2 o ho i hi⟩
                obtain ⟨r, X', z1, z2, z3, -⟩ := x_first0 (M0 := M) (X := zpr Y 7 2 (some (27 + 4 * v))) h12 (t := v) (F := Fv v) ⟨v1, v2, v3, v4, v5, v6, v7⟩ hYs ⟨fun u hu => (g _ _ (by decide) (Or.inl (by decide))).trans (pa u hu), (g _ _ (by decide) (Or.inl (by decide))).trans pa3, (g _ _ (by decide) (Or.inl (by decide))).trans pa4, (g _ _ (by decide) (Or.inl (by decide))).trans pa5, (g _ _ (by decide) (Or.inl (by decide))).trans pa6, (g _ _ (by decide) (Or.inl (by decide))).trans pa8, (g _ _ (by decide) (Or.inl (by decide))).trans pa9, by omega, by rw [zpr_r, if_pos ⟨rfl, rfl⟩], (hFv v hv).1.mono (cd v (by omega)).1 (cd v (by omega)).2.1 (cd v (by omega)).2.2⟩ (hS1.fr (fun o i ho => g o i (by omega) (Or.inr ho)) (fun _ _ _ => rfl))
                exact ⟨r, X', z1, z2, z3⟩) cnt 0 zF 0 X1 (by omega) (by show cnt < 5000; omega) ⟨rfl, fun _ _ => Or.inr rfl, fun _ _ => Or.inr (Or.inr rfl)⟩
              obtain ⟨M2, m1, m2⟩ := m_tellsL hM (q := q) (p := p) (so := 0) (sk := 4) (last1 := cnt) (sort := 6) (w := 6) (P := (fun v => ftB (lkN M) (fun j => M.2.1 15 (40 * q + j)) m0 k nu s hd nh d (Fv v))) (fun N v hN => m_laysR hN (nI p) v) (fun N v hv hf => by
                have g : ∀ o i, (o ≠ 0 ∨ i < 13 ∨ 27 < i) → ¬ (o = 0 ∧ i = 4) → (zp N 0 4 (nI v)).2.1 o i = M.2.1 o i := fun o i h1 h2 => hf.at _ h1 h2
                obtain ⟨r, M', z1, z2, z3, -⟩ := m_first0 (M := zp N 0 4 (nI v)) (M0 := M) h12 hq (t := v) (F := Fv v) hV (hf.sh hM) ⟨fun u hu => (g _ _ (Or.inl (by decide)) (by omega)).trans (qa u hu), qa1, qa2, (g _ _ (Or.inr (Or.inl (by decide))) (by omega)).trans qa3, (g _ _ (Or.inl (by decide)) (by omega)).trans qa4, (g _ _ (Or.inl (by decide)) (by omega)).trans qa5, (g _ _ (Or.inl (by decide)) (by omega)).trans qa6, (g _ _ (Or.inl (by decide)) (by omega)).trans qa7, (g _ _ (Or.inr (Or.inl (by decide))) (by omega)).trans qa8, by rw [g _ _ (Or.inl (by decide)) (by omega)]; exact qa9⟩ ⟨by rw [zp_h, if_pos ⟨rfl, rfl⟩], (hFv v hv).2.mono (fun i _ => g _ _ (Or.inl (by decide)) (by omega)) (g _ _ (Or.inl (by decide)) (by omega))⟩ ((g _ _ (Or.inl (by decide)) (by omega)).trans h14) (fun i => g _ _ (Or.inl (by decide)) (by omega))
                exact ⟨r, M', z1, z2, z3⟩) (by omega) cnt zF 0 0 (-1) M (Nat.le_refl _) (by show cnt < 5000; omega) ⟨rfl, rfl, fun _ _ => Or.inr (Or.inr rfl)⟩
              rw [if_neg (by decide), if_neg (by decide), ← st_eq _ (by omega)] at m1
              have x1' : fX7_fittingTexts 0 (some (51 + 2 * q)) (some 7) X1 = some (_, X2) := x1
              have m1' : fX8_tells_L206 0 zF (nI q) (nI p) (nI 6) 6 (M.2.1 0 4) 0 0 (-1) (nI cnt - 1) M = some (_, M2) := m1
              refine ⟨_, X2, M2, (by simp only [fX7_tells, zokX_0, zokX_1, zokX_2, zokX_3, zokX_4, zokX_5, zokX_6, zokX_7, zokX_8, zokX_9, zokX_10, zokX_11, zokX_12, zokX_13, zokX_14, zokX_15, zokX_16, zlaX_1, zlaX_2, zlaX_3, zlaX_4, zlaX_5, zlaX_6, zlaX_8, zlaX_11, zlaX_12, zlaX_13, zlaX_15, zlaX_16, zp_1, zp_h, zp_r, zp_l, zletE, obs, spXe_0, spXe_1, spXe_2, spXe_3, spXe_4, spXe_5, spXe_6, spXe_7, spXe_8, spXe_9, spXe_10, spXe_11, spXe_12, spXe_13, spXe_14, spXe_15, spXe_16, hX.1, hX1n, xs, e1, if_neg (ss51 q), if_neg s7, if_neg c0, if_pos c1, zs, xm, if_true, h3, if_pos c12, if_neg (show ¬ nI 6 = (0 : Int32) by decide), if_neg (show ¬ nI 6 = (1 : Int32) by decide), if_neg (show ¬ nI 6 = (2 : Int32) by decide), if_neg (show ¬ nI 6 = (3 : Int32) by decide), if_neg (show ¬ nI 6 = (4 : Int32) by decide), if_neg (show ¬ nI 6 = (5 : Int32) by decide), if_pos (show nI 6 = (6 : Int32) from rfl), x1']; rfl), ?_, hI1.keep x2.c m2.n⟩
              simp only [fX8_tells, fX8_tells_j127, fX8_tells_j150, fX8_tells_j191, zokM_0, zokM_1, zokM_2, zokM_3, zokM_4, zokM_5, zokM_6, zokM_7, zokM_8, zokM_9, zokM_10, zokM_11, zokM_12, zokM_13, zokM_14, zokM_15, zlaM_1, zlaM_2, zlaM_3, zlaM_4, zlaM_5, zlaM_6, zlaM_7, zlaM_8, zlaM_9, zlaM_10, zlaM_11, zlaM_12, zlaM_13, zlaM_14, zlaM_15, zp_1, zp_h, zp_r, zp_l, zletE, obs, spMe_0, spMe_1, spMe_2, spMe_3, spMe_4, spMe_5, spMe_6, spMe_7, spMe_8, spMe_9, spMe_10, spMe_11, spMe_12, spMe_13, spMe_14, spMe_15, hM.1, ms, if_neg n10, one, hin, r42, z12, if_neg w2', r44, z14, h14, if_pos c12, if_neg (show ¬ nI 6 = (0 : Int32) by decide), if_neg (show ¬ nI 6 = (7 : Int32) by decide), if_neg (show ¬ nI 6 = (5 : Int32) by decide), if_neg (show ¬ nI 6 = (1 : Int32) by decide), if_neg (show ¬ nI 6 = (2 : Int32) by decide), if_pos (show nI 6 = (6 : Int32) from rfl), if_true, cM, m1']
            · obtain ⟨r, X', M', y1, y2, y3⟩ := askers_both h12 hn5 n 0 zF zF 0 X1 M (by omega) (by show n + 5 < 5000; omega) (by show n < 5000; omega) hI1 ((f1.at (by decide) (by decide) (Or.inl (by decide))).trans hnX) hnM hS1
              have y1' : fX7_fittingAskers 0 (some (51 + 2 * q)) X1 = some (r, X') := y1
              have y2' : fX8_likeSet 0 (nI q) M = some (r, M') := y2
              exact ⟨r, X', M', by simp only [fX7_tells, zokX_0, zokX_1, zokX_2, zokX_3, zokX_4, zokX_5, zokX_6, zokX_7, zokX_8, zokX_9, zokX_10, zokX_11, zokX_12, zokX_13, zokX_14, zokX_15, zokX_16, zlaX_1, zlaX_2, zlaX_3, zlaX_4, zlaX_5, zlaX_6, zlaX_8, zlaX_11, zlaX_12, zlaX_13, zlaX_15, zlaX_16, zp_1, zp_h, zp_r, zp_l, zletE, obs, spXe_0, spXe_1, spXe_2, spXe_3, spXe_4, spXe_5, spXe_6, spXe_7, spXe_8, spXe_9, spXe_10, spXe_11, spXe_12, spXe_13, spXe_14, spXe_15, spXe_16, hX.1, hX1n, xs, e1, if_neg (ss51 q), if_neg s7, if_neg c0, if_pos c1, zs, xm, if_true, h3, if_pos c12, if_neg (show ¬ nI 7 = (0 : Int32) by decide), if_neg (show ¬ nI 7 = (1 : Int32) by decide), if_neg (show ¬ nI 7 = (2 : Int32) by decide), if_neg (show ¬ nI 7 = (3 : Int32) by decide), if_neg (show ¬ nI 7 = (4 : Int32) by decide), if_neg (show ¬ nI 7 = (5 : Int32) by decide), if_neg (show ¬ nI 7 = (6 : Int32) by decide), y1'], by simp only [fX8_tells, fX8_tells_j66, zokM_0, zokM_1, zokM_2, zokM_3, zokM_4, zokM_5, zokM_6, zokM_7, zokM_8, zokM_9, zokM_10, zokM_11, zokM_12, zokM_13, zokM_14, zokM_15, zlaM_1, zlaM_2, zlaM_3, zlaM_4, zlaM_5, zlaM_6, zlaM_7, zlaM_8, zlaM_9, zlaM_10, zlaM_11, zlaM_12, zlaM_13, zlaM_14, zlaM_15, zp_1, zp_h, zp_r, zp_l, zletE, obs, spMe_0, spMe_1, spMe_2, spMe_3, spMe_4, spMe_5, spMe_6, spMe_7, spMe_8, spMe_9, spMe_10, spMe_11, spMe_12, spMe_13, spMe_14, spMe_15, hM.1, ms, if_neg n10, one, hin, r42, z12, if_neg w2', r44, z14, h14, if_pos c12, if_neg (show ¬ nI 7 = (0 : Int32) by decide), if_pos (show nI 7 = (7 : Int32) from rfl), y2'], y3⟩
          · have c12 : ¬ nI m0 ≤ (12 : Int32) := nI_ge (a := 12) (by omega) (by omega)
            exact ⟨-2, X1, M, by simp only [fX7_tells, zokX_0, zokX_1, zokX_2, zokX_3, zokX_4, zokX_5, zokX_6, zokX_7, zokX_8, zokX_9, zokX_10, zokX_11, zokX_12, zokX_13, zokX_14, zokX_15, zokX_16, zlaX_1, zlaX_2, zlaX_3, zlaX_4, zlaX_5, zlaX_6, zlaX_8, zlaX_11, zlaX_12, zlaX_13, zlaX_15, zlaX_16, zp_1, zp_h, zp_r, zp_l, zletE, obs, spXe_0, spXe_1, spXe_2, spXe_3, spXe_4, spXe_5, spXe_6, spXe_7, spXe_8, spXe_9, spXe_10, spXe_11, spXe_12, spXe_13, spXe_14, spXe_15, spXe_16, hX.1, hX1n, xs, e1, if_neg (ss51 q), if_neg s7, if_neg c0, if_pos c1, zs, xm, if_true, h3, if_neg c12], by simp only [fX8_tells, zokM_0, zokM_1, zokM_2, zokM_3, zokM_4, zokM_5, zokM_6, zokM_7, zokM_8, zokM_9, zokM_10, zokM_11, zokM_12, zokM_13, zokM_14, zokM_15, zlaM_1, zlaM_2, zlaM_3, zlaM_4, zlaM_5, zlaM_6, zlaM_7, zlaM_8, zlaM_9, zlaM_10, zlaM_11, zlaM_12, zlaM_13, zlaM_14, zlaM_15, zp_1, zp_h, zp_r, zp_l, zletE, obs, spMe_0, spMe_1, spMe_2, spMe_3, spMe_4, spMe_5, spMe_6, spMe_7, spMe_8, spMe_9, spMe_10, spMe_11, spMe_12, spMe_13, spMe_14, spMe_15, hM.1, ms, if_neg n10, one, hin, r42, z12, if_neg w2', r44, z14, h14, if_neg c12], hI1⟩
