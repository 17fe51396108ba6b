/-- the first place that is otherwise than what is given; -1 -/
def foS (gv c : Nat → Int32) : Nat → Nat → Int32
  | 0, _ => -1
  | m + 1, j => if c j = gv j then foS gv c m (j + 1) else nI j
theorem x_first {M0 : zS} {q m0 : Nat} (h12 : m0 ≤ 12) {L : Nat → Nat} {k nu s h nh d t : Nat} {F : Nat → (Nat → Int32) → Int32} (hV : Vok L k nu s h nh d) : ∀ (m j n : Nat) (X : zS), j + m = m0 → m < n → shX X → PcX X L k nu s h nh d t F → Sht X M0 q m0 → ∃ X', fX7_firstOther_L2 n (some (51 + 2 * q)) (some 7) (nI j) X = some (foS (fun j => gvS L k nu s h nh d F (2 ^ j)) (fun j => M0.2.1 15 (40 * q + j)) m j, X') ∧ frX X X'
  | m, j, 0, _, _, h, _, _, _ => by omega
  | 0, j, n + 1, X, e, _, hX, hP, hS => by
    obtain ⟨h1, h2, h3, h4, h5⟩ := hS
    have c : nI m0 ≤ nI j := nI_le (by omega) (by omega)
    refine ⟨X, ?_, frX.rf X⟩
    simp only [fX7_firstOther_L2, obs, zok_sheet hX.1 h1, h3, if_pos c]
    rfl
  | m + 1, j, n + 1, X, e, hn, hX, hP, hS => by
    have hS0 := hS
    obtain ⟨h1, h2, h3, h4, h5⟩ := hS
    have c : ¬ nI m0 ≤ nI j := nI_ge (by omega) (by omega)
    have c12 : ¬ (12 : Int32) ≤ nI j := nI_ge (b := 12) (by omega) (by decide)
    have ea := x_at hX h1 h3 h2 (show j < m0 by omega)
    rw [h5 j (by omega)] at ea
    have hsh := n_shl1 (show j < 31 by omega)
    obtain ⟨X1, e1, f1⟩ := x_given hX hV hP (p2_le (show j < 12 by omega))
    rw [foS]
    by_cases cc : M0.2.1 15 (40 * q + j) = gvS L k nu s h nh d F (2 ^ j)
    · obtain ⟨X2, e2, f2⟩ := x_first h12 hV m (j + 1) n X1 (by omega) (by omega) (f1.sh hX) (hP.fr f1) (hS0.fr (fun o i ho => f1.at (by omega) (Or.inr ho)) (fun _ _ _ => rfl))
      refine ⟨X2, ?_, f1.tr f2⟩
      rw [if_pos cc]
      simp only [fX7_firstOther_L2, obs, zok_sheet hX.1 h1, h3, if_neg c, if_neg c12, ea, zokX_7 hX.1, hsh, e1, if_pos cc, nI_1]
      exact e2
    · refine ⟨X1, ?_, f1⟩
      rw [if_neg cc]
      simp only [fX7_firstOther_L2, obs, zok_sheet hX.1 h1, h3, if_neg c, if_neg c12, ea, zokX_7 hX.1, hsh, e1, if_neg cc]
theorem m_first {q m0 p n0 : Nat} (h12 : m0 ≤ 12) (hq : q < 4) {L : Nat → Nat} {k nu s h nh d t : Nat} {F : Nat → (Nat → Int32) → Int32} (hV : Vok L k nu s h nh d) : ∀ (m j n : Nat) (M : zS), j + m = m0 → m < n → shM M → PcM M p n0 L k nu s h nh d → RlM M t F → M.2.1 14 q = nI m0 → ∃ M', fX8_firstOther_L2 0 n (nI q) (nI p) (nI j) M = some (foS (fun j => gvS L k nu s h nh d F (2 ^ j)) (fun j => M.2.1 15 (40 * q + j)) m j, M') ∧ frM M M'
  | m, j, 0, _, _, h, _, _, _, _ => by omega
  | 0, j, n + 1, M, e, _, hM, hP, hR, h14 => by
    have r14 : M.2.2.2 0 44 = some 14 := hM.r (by decide) (by decide)
    have z14 : zix spM 14 (nI q) = some q := zix_of rfl hq (by decide)
    have c : nI m0 ≤ nI j := nI_le (by omega) (by omega)
    refine ⟨M, ?_, frM.rf M⟩
    simp only [fX8_firstOther_L2, zokM_0, zokM_1, zokM_2, zokM_3, zokM_4, zokM_5, zokM_6, zokM_7, zokM_8, zokM_9, zokM_10, zokM_11, zokM_12, zokM_13, zokM_14, zokM_15, zlaM_1, zlaM_2, zlaM_3, zlaM_4, zlaM_5, zlaM_6, zlaM_7, zlaM_8, zlaM_9, zlaM_10, zlaM_11, zlaM_12, zlaM_13, zlaM_14, zlaM_15, zp_1, zp_h, zp_r, zp_l, zletE, obs, spMe_0, spMe_1, spMe_2, spMe_3, spMe_4, spMe_5, spMe_6, spMe_7, spMe_8, spMe_9, spMe_10, spMe_11, spMe_12, spMe_13, spMe_14, spMe_15, hM.1, r14, z14, h14, if_pos c]
    rfl
  | m + 1, j, n + 1, M, e, hn, hM, hP, hR, h14 => by
    have r14 : M.2.2.2 0 44 = some 14 := hM.r (by decide) (by decide)
    have z14 : zix spM 14 (nI q) = some q := zix_of rfl hq (by decide)
    have z15 : zix spM 15 (nI (40 * q + j)) = some (40 * q + j) := zix_of rfl (by show 40 * q + j < 160; omega) (by decide)
    have c : ¬ nI m0 ≤ nI j := nI_ge (by omega) (by omega)
    have hsh := n_shl1 (show j < 31 by omega)
    obtain ⟨M1, e1, f1⟩ := m_given hM hV hP hR (p2_le (show j < 12 by omega))
    have hM1 := f1.sh hM
    have hM1n := hM1.1
    have r15 : M1.2.2.2 0 45 = some 15 := hM1.r (by decide) (by decide)
    have s15 : ∀ i, M1.2.1 15 i = M.2.1 15 i := fun i => f1.at (Or.inl (by decide))
    rw [foS]
    by_cases cc : M.2.1 15 (40 * q + j) = gvS L k nu s h nh d F (2 ^ j)
    · obtain ⟨M2, e2, f2⟩ := m_first h12 hq hV m (j + 1) n M1 (by omega) (by omega) hM1 (hP.fr f1) (hR.fr f1) ((f1.at (Or.inl (by decide))).trans h14)
      refine ⟨M2, ?_, f1.tr f2⟩
      rw [if_pos cc]
      simp only [fX8_firstOther_L2, zokM_0, zokM_1, zokM_2, zokM_3, zokM_4, zokM_5, zokM_6, zokM_7, zokM_8, zokM_9, zokM_10, zokM_11, zokM_12, zokM_13, zokM_14, zokM_15, zlaM_1, zlaM_2, zlaM_3, zlaM_4, zlaM_5, zlaM_6, zlaM_7, zlaM_8, zlaM_9, zlaM_10, zlaM_11, zlaM_12, zlaM_13, zlaM_14, zlaM_15, zp_1, zp_h, zp_r, zp_l, zletE, obs, spMe_0, spMe_1, spMe_2, spMe_3, spMe_4, spMe_5, spMe_6, spMe_7, spMe_8, spMe_9, spMe_10, spMe_11, spMe_12, spMe_13, spMe_14, spMe_15, hM.1, hM1n, r14, z14, h14, if_neg c, hsh, e1, r15, idx40s, z15, s15, if_pos cc.symm, nI_1]
      rw [e2]
      simp only [s15]
    · have cc' : ¬ gvS L k nu s h nh d F (2 ^ j) = M.2.1 15 (40 * q + j) := fun e => cc e.symm
      refine ⟨M1, ?_, f1⟩
      rw [if_neg cc]
      simp only [fX8_firstOther_L2, zokM_0, zokM_1, zokM_2, zokM_3, zokM_4, zokM_5, zokM_6, zokM_7, zokM_8, zokM_9, zokM_10, zokM_11, zokM_12, zokM_13, zokM_14, zokM_15, zlaM_1, zlaM_2, zlaM_3, zlaM_4, zlaM_5, zlaM_6, zlaM_7, zlaM_8, zlaM_9, zlaM_10, zlaM_11, zlaM_12, zlaM_13, zlaM_14, zlaM_15, zp_1, zp_h, zp_r, zp_l, zletE, obs, spMe_0, spMe_1, spMe_2, spMe_3, spMe_4, spMe_5, spMe_6, spMe_7, spMe_8, spMe_9, spMe_10, spMe_11, spMe_12, spMe_13, spMe_14, spMe_15, hM.1, hM1n, r14, z14, h14, if_neg c, hsh, e1, r15, idx40s, z15, s15, if_neg cc']
/-- whether all would be so -/
def ftB (L : Nat → Nat) (c : Nat → Int32) (m0 : Nat) (k nu s h nh d : Nat) (F : Nat → (Nat → Int32) → Int32) : Bool := decide (foS (fun j => gvS L k nu s h nh d F (2 ^ j)) c m0 0 = -1)
theorem x_first0 {M0 X : zS} {q m0 : Nat} (h12 : m0 ≤ 12) {L : Nat → Nat} {k nu s h nh d t : Nat} {F : Nat → (Nat → Int32) → Int32} (hV : Vok L k nu s h nh d) (hX : shX X) (hP : PcX X L k nu s h nh d t F) (hS : Sht X M0 q m0) : ∃ r X', fX7_firstOther (some (51 + 2 * q)) (some 7) X = some (r, X') ∧ frX X X' ∧ (r = -1 ↔ ftB L (fun j => M0.2.1 15 (40 * q + j)) m0 k nu s h nh d F = true) ∧ r = foS (fun j => gvS L k nu s h nh d F (2 ^ j)) (fun j => M0.2.1 15 (40 * q + j)) m0 0 := by
  obtain ⟨X', e1, f1⟩ := x_first h12 hV m0 0 zF X (by omega) (by show m0 < 5000; omega) hX hP hS
  exact ⟨_, X', e1, f1, by unfold ftB; simp, rfl⟩
theorem m_first0 {M0 M : zS} {q m0 p n0 : Nat} (h12 : m0 ≤ 12) (hq : q < 4) {L : Nat → Nat} {k nu s h nh d t : Nat} {F : Nat → (Nat → Int32) → Int32} (hV : Vok L k nu s h nh d) (hM : shM M) (hP : PcM M p n0 L k nu s h nh d) (hR : RlM M t F) (h14 : M.2.1 14 q = nI m0) (h15 : ∀ i, M.2.1 15 i = M0.2.1 15 i) : ∃ r M', fX8_firstOther 0 (nI q) (nI p) M = some (r, M') ∧ frM M M' ∧ (r = -1 ↔ ftB L (fun j => M0.2.1 15 (40 * q + j)) m0 k nu s h nh d F = true) ∧ r = foS (fun j => gvS L k nu s h nh d F (2 ^ j)) (fun j => M0.2.1 15 (40 * q + j)) m0 0 := by
  obtain ⟨M', e1, f1⟩ := m_first h12 hq hV m0 0 zF M (by omega) (by show m0 < 5000; omega) hM hP hR h14
  have e : (fun j => M.2.1 15 (40 * q + j)) = fun j => M0.2.1 15 (40 * q + j) := funext fun j => h15 _
  rw [e] at e1
  exact ⟨_, M', e1, f1, by unfold ftB; simp, rfl⟩
/-- upward: bits, how many, the first -/
def stU (P : Nat → Bool) : Nat → Nat → Nat → Nat
  | 0, _, acc => acc
  | m + 1, j, acc => stU P m (j + 1) (if P j = true then acc ||| 2 ^ j else acc)
def ctU (P : Nat → Bool) : Nat → Nat → Nat → Nat
  | 0, _, acc => acc
  | m + 1, j, acc => ctU P m (j + 1) (if P j = true then acc + 1 else acc)
def fsU (P : Nat → Bool) : Nat → Nat → Int32
  | 0, _ => -1
  | m + 1, j => if P j = true then nI j else fsU P m (j + 1)
/-- downward likewise -/
def stD (P : Nat → Bool) : Nat → Nat → Nat
  | 0, acc => acc
  | v + 1, acc => stD P v (if P v = true then acc ||| (if 10 ≤ v then 0 else 2 ^ v) else acc)
def ctD (P : Nat → Bool) : Nat → Nat → Nat
  | 0, acc => acc
  | v + 1, acc => ctD P v (if P v = true then acc + 1 else acc)
def lsD (P : Nat → Bool) : Nat → Int32 → Int32
  | 0, acc => acc
  | v + 1, acc => lsD P v (if P v = true then nI v else acc)
theorem stU_tb (P : Nat → Bool) (i : Nat) : ∀ (m j acc : Nat), (stU P m j acc).testBit i = (acc.testBit i || (decide (j ≤ i) && decide (i < j + m) && P i))
  | 0, j, acc => by
    rw [stU]
    by_cases h : j ≤ i
    · rw [decide_eq_false (show ¬ i < j + 0 by omega)]; simp
    · simp [h]
  | m + 1, j, acc => by
    rw [stU, stU_tb P i m (j + 1)]
    have e : (if P j = true then acc ||| 2 ^ j else acc).testBit i = (acc.testBit i || (decide (j = i) && P i)) := by
      by_cases c : P j = true
      · rw [if_pos c, Nat.testBit_or, Nat.testBit_two_pow]
        by_cases e : j = i
        · subst e; simp [c]
        · simp [e]
      · rw [if_neg c]
        by_cases e : j = i
        · subst e; simp [c]
        · simp [e]
    rw [e]
    by_cases e : j = i
    · subst e
      rw [decide_eq_false (show ¬ j + 1 ≤ j by omega), decide_eq_true (show j < j + (m + 1) by omega)]
      simp
    · by_cases c : j ≤ i
      · have e9 : decide (i < j + 1 + m) = decide (i < j + (m + 1)) := by rw [decide_eq_decide]; omega
        rw [decide_eq_true (show j + 1 ≤ i by omega), decide_eq_true c, e9, decide_eq_false e]
        simp
      · rw [decide_eq_false (show ¬ j + 1 ≤ i by omega), decide_eq_false c, decide_eq_false e]
        simp
theorem stD_tb (P : Nat → Bool) (i : Nat) : ∀ (v acc : Nat), v ≤ 10 → (stD P v acc).testBit i = (acc.testBit i || (decide (i < v) && P i))
  | 0, acc, _ => by simp [stD]
  | v + 1, acc, hv => by
    rw [stD, stD_tb P i v _ (by omega), if_neg (show ¬ 10 ≤ v by omega)]
    have e : (if P v = true then acc ||| 2 ^ v else acc).testBit i = (acc.testBit i || (decide (v = i) && P i)) := by
      by_cases c : P v = true
      · rw [if_pos c, Nat.testBit_or, Nat.testBit_two_pow]
        by_cases e : v = i
        · subst e; simp [c]
        · simp [e]
      · rw [if_neg c]
        by_cases e : v = i
        · subst e; simp [c]
        · simp [e]
    rw [e]
    by_cases e : v = i
    · subst e
      rw [decide_eq_false (show ¬ v < v by omega), decide_eq_true (show v < v + 1 by omega)]
      simp
    · have e9 : decide (i < v + 1) = decide (i < v) := by rw [decide_eq_decide]; omega
      rw [decide_eq_false e, e9]
      simp
theorem st_eq (P : Nat → Bool) {v : Nat} (hv : v ≤ 10) : stU P v 0 0 = stD P v 0 := by
  apply Nat.eq_of_testBit_eq
  intro i
  rw [stU_tb, stD_tb P i v 0 hv]
  simp
theorem ctU_acc (P : Nat → Bool) : ∀ (m j acc : Nat), ctU P m j acc = acc + ct P m j
  | 0, _, _ => rfl
  | m + 1, j, acc => by
    rw [ctU, ct, ctU_acc P m (j + 1)]
    split <;> omega
theorem ct_snoc (P : Nat → Bool) : ∀ (m j : Nat), ct P (m + 1) j = ct P m j + (if P (j + m) = true then 1 else 0)
  | 0, j => by rw [ct, ct, ct]; simp
  | m + 1, j => by
    rw [ct, ct_snoc P m (j + 1), ct, show j + 1 + m = j + (m + 1) by omega]
    omega
theorem ctD_acc (P : Nat → Bool) : ∀ (v acc : Nat), ctD P v acc = acc + ct P v 0
  | 0, _ => rfl
  | v + 1, acc => by
    rw [ctD, ctD_acc P v, ct_snoc, Nat.zero_add]
    split <;> omega
/-- the least, downward, is the first, upward -/
theorem lsD_fsU (P : Nat → Bool) : ∀ (v m : Nat) (acc : Int32), acc = fsU P m v → lsD P v acc = fsU P (v + m) 0
  | 0, m, acc, h => by rw [lsD, h, Nat.zero_add]
  | v + 1, m, acc, h => by
    rw [lsD, lsD_fsU P v (m + 1), show v + (m + 1) = v + 1 + m by omega]
    rw [fsU, h]
