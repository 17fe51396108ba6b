/-! what the reference asks of a TOKEN -/
theorem lg_eq0 (x y : Int64) : lg_cmp x y = 0 ↔ x = y := by
  unfold lg_cmp
  by_cases h : x > y
  · rw [if_pos h]
    constructor
    · intro q; exact absurd q (by decide)
    · intro q; subst q; exact absurd h (Int64.lt_irrefl)
  · rw [if_neg h]
    by_cases e : x = y
    · rw [if_pos e]; exact ⟨fun _ => e, fun _ => rfl⟩
    · rw [if_neg e]
      exact ⟨fun q => absurd q (by decide), fun q => absurd q e⟩
theorem i64_inj {a b : Int32} (h : a.toInt64 = b.toInt64) : a = b := by
  have := congrArg Int64.toInt h
  rw [Int32.toInt_toInt64, Int32.toInt_toInt64] at this
  exact Int32.toInt_inj.mp this
def By8 (B : Nat → Int32) (n : Nat) : Prop := ∀ j, j < n → NiR (B j) 255
/-- the reference stands at TOKEN i, o open, none bad -/
def AtM (B : Nat → Int32) (n b o i : Nat) (M : zS) : Prop := ByM B n b M ∧ By8 B n ∧ M.2.1 0 26 = 0 ∧ M.2.1 0 25 = nI o ∧ NxM B n (psT B n i) M ∧ psT B n i ≤ n
theorem tk_kinds (B : Nat → Int32) (n p : Nat) : (tkK B n p = 0 ∧ tkC B n p = 8) ∨ (tkK B n p = 1 ∧ isLt (byB B n (tkS B n p)) = true ∧ tkC B n p = wdC B n (tkS B n p) (tkE B n p) ∧ tkE B n p = skp isLt B n (tkS B n p + 1)) ∨ (tkK B n p = 2 ∧ tkC B n p = 7) ∨ (tkK B n p = 3 ∧ isSg (byB B n (tkS B n p)) = true ∧ tkC B n p = byB B n (tkS B n p)) ∨ (tkK B n p = 4 ∧ tkC B n p = 9) := by
  unfold tkK tkC
  by_cases h1 : byB B n (tkS B n p) = -1
  · rw [if_pos h1, if_pos h1]; exact Or.inl ⟨rfl, rfl⟩
  · rw [if_neg h1, if_neg h1]
    cases h2 : isLt (byB B n (tkS B n p)) with
    | true => exact Or.inr (Or.inl ⟨rfl, rfl, rfl, by unfold tkE; rw [h2, if_pos rfl]⟩)
    | false =>
      simp only [Bool.false_eq_true, if_false]
      cases h3 : isDg (byB B n (tkS B n p)) with
      | true =>
        by_cases h4 : tkE B n p - tkS B n p ≤ 4
        · simp [h4]
        · simp [h4]
      | false =>
        simp only [Bool.false_eq_true, if_false]
        cases h5 : isSg (byB B n (tkS B n p)) with
        | true => simp
        | false => simp
theorem sg_6 {c : Int32} (h : isSg c = true) : 6 < c ∧ ¬ c = 7 ∧ ¬ c = 8 ∧ ¬ c = 9 := by
  rcases sg_or h with w | w | w | w | w | w | w | w <;> subst w <;> decide
theorem wdC_6 (B : Nat → Int32) (n s e : Nat) : ¬ wdC B n s e < -6 ∧ (¬ 6 < wdC B n s e ∨ wdC B n s e = 9) ∧ ¬ wdC B n s e = 7 ∧ ¬ wdC B n s e = 8 := by
  rcases wd_cases B n s e with ⟨j, hj, _, e1⟩ | ⟨_, e1⟩
  · rw [e1]
    have := cdW_9 j hj
    exact ⟨this.2.2.2.1, Or.inl this.2.2.2.2.1, this.2.1, this.2.2.1⟩
  · rw [e1]; decide
theorem m_sign {B : Nat → Int32} {n b o i : Nat} {M : zS} (h : AtM B n b o i M) {c : Int32} (hc : isSg c = true) : fX8_isSign 0 c M = some (if tC B n i = c then 1 else 0, M) := by
  obtain ⟨hB, h8, h26, h25, ⟨x1, x2, x3, x4, x5⟩, hp⟩ := h
  have hM := hB.1
  obtain ⟨c6, c7, c8, c9⟩ := sg_6 hc
  show _ = some (if tkC B n (psT B n i) = c then 1 else 0, M)
  rcases tk_kinds B n (psT B n i) with ⟨k, t⟩ | ⟨k, _, t, _⟩ | ⟨k, t⟩ | ⟨k, _, t⟩ | ⟨k, t⟩
  · rw [t, if_neg (fun q => c8 q.symm)]
    simp only [fX8_isSign, fX8_isSign_j29, zokM_0, zokM_1, zokM_2, zokM_3, zokM_4, zokM_5, zokM_6, zokM_7, zokM_8, zokM_9, zokM_10, zokM_11, zokM_12, zokM_13, zokM_14, zokM_15, zlaM_1, zlaM_2, zlaM_3, zlaM_4, zlaM_5, zlaM_6, zlaM_7, zlaM_8, zlaM_9, zlaM_10, zlaM_11, zlaM_12, zlaM_13, zlaM_14, zlaM_15, zp_1, zp_h, zp_r, zp_l, zletE, obs, spMe_0, spMe_1, spMe_2, spMe_3, spMe_4, spMe_5, spMe_6, spMe_7, spMe_8, spMe_9, spMe_10, spMe_11, spMe_12, spMe_13, spMe_14, spMe_15, hM.1, h26, x2, k, if_true, if_neg (show ¬ nI 0 = (3 : Int32) by decide)]
  · rw [t, if_neg (fun q => by
      rcases (wdC_6 B n (tkS B n (psT B n i)) (tkE B n (psT B n i))).2.1 with w | w
      · rw [q] at w; exact w c6
      · rw [q] at w; exact c9 w)]
    simp only [fX8_isSign, fX8_isSign_j29, zokM_0, zokM_1, zokM_2, zokM_3, zokM_4, zokM_5, zokM_6, zokM_7, zokM_8, zokM_9, zokM_10, zokM_11, zokM_12, zokM_13, zokM_14, zokM_15, zlaM_1, zlaM_2, zlaM_3, zlaM_4, zlaM_5, zlaM_6, zlaM_7, zlaM_8, zlaM_9, zlaM_10, zlaM_11, zlaM_12, zlaM_13, zlaM_14, zlaM_15, zp_1, zp_h, zp_r, zp_l, zletE, obs, spMe_0, spMe_1, spMe_2, spMe_3, spMe_4, spMe_5, spMe_6, spMe_7, spMe_8, spMe_9, spMe_10, spMe_11, spMe_12, spMe_13, spMe_14, spMe_15, hM.1, h26, x2, k, if_true, if_neg (show ¬ nI 1 = (3 : Int32) by decide)]
  · rw [t, if_neg (fun q => c7 q.symm)]
    simp only [fX8_isSign, fX8_isSign_j29, zokM_0, zokM_1, zokM_2, zokM_3, zokM_4, zokM_5, zokM_6, zokM_7, zokM_8, zokM_9, zokM_10, zokM_11, zokM_12, zokM_13, zokM_14, zokM_15, zlaM_1, zlaM_2, zlaM_3, zlaM_4, zlaM_5, zlaM_6, zlaM_7, zlaM_8, zlaM_9, zlaM_10, zlaM_11, zlaM_12, zlaM_13, zlaM_14, zlaM_15, zp_1, zp_h, zp_r, zp_l, zletE, obs, spMe_0, spMe_1, spMe_2, spMe_3, spMe_4, spMe_5, spMe_6, spMe_7, spMe_8, spMe_9, spMe_10, spMe_11, spMe_12, spMe_13, spMe_14, spMe_15, hM.1, h26, x2, k, if_true, if_neg (show ¬ nI 2 = (3 : Int32) by decide)]
  · rw [t]
    have e3 : nI 3 = (3 : Int32) := by decide
    by_cases e : byB B n (tkS B n (psT B n i)) = c
    · rw [if_pos e]
      simp only [fX8_isSign, fX8_isSign_j29, zokM_0, zokM_1, zokM_2, zokM_3, zokM_4, zokM_5, zokM_6, zokM_7, zokM_8, zokM_9, zokM_10, zokM_11, zokM_12, zokM_13, zokM_14, zokM_15, zlaM_1, zlaM_2, zlaM_3, zlaM_4, zlaM_5, zlaM_6, zlaM_7, zlaM_8, zlaM_9, zlaM_10, zlaM_11, zlaM_12, zlaM_13, zlaM_14, zlaM_15, zp_1, zp_h, zp_r, zp_l, zletE, obs, spMe_0, spMe_1, spMe_2, spMe_3, spMe_4, spMe_5, spMe_6, spMe_7, spMe_8, spMe_9, spMe_10, spMe_11, spMe_12, spMe_13, spMe_14, spMe_15, hM.1, h26, x2, k, e3, x5 k, if_true, if_pos ((lg_eq0 _ _).mpr (congrArg Int32.toInt64 e))]
    · rw [if_neg e]
      simp only [fX8_isSign, fX8_isSign_j29, zokM_0, zokM_1, zokM_2, zokM_3, zokM_4, zokM_5, zokM_6, zokM_7, zokM_8, zokM_9, zokM_10, zokM_11, zokM_12, zokM_13, zokM_14, zokM_15, zlaM_1, zlaM_2, zlaM_3, zlaM_4, zlaM_5, zlaM_6, zlaM_7, zlaM_8, zlaM_9, zlaM_10, zlaM_11, zlaM_12, zlaM_13, zlaM_14, zlaM_15, zp_1, zp_h, zp_r, zp_l, zletE, obs, spMe_0, spMe_1, spMe_2, spMe_3, spMe_4, spMe_5, spMe_6, spMe_7, spMe_8, spMe_9, spMe_10, spMe_11, spMe_12, spMe_13, spMe_14, spMe_15, hM.1, h26, x2, k, e3, x5 k, if_true, if_neg (fun q => e (i64_inj ((lg_eq0 _ _).mp q)))]
  · rw [t, if_neg (fun q => c9 q.symm)]
    simp only [fX8_isSign, fX8_isSign_j29, zokM_0, zokM_1, zokM_2, zokM_3, zokM_4, zokM_5, zokM_6, zokM_7, zokM_8, zokM_9, zokM_10, zokM_11, zokM_12, zokM_13, zokM_14, zokM_15, zlaM_1, zlaM_2, zlaM_3, zlaM_4, zlaM_5, zlaM_6, zlaM_7, zlaM_8, zlaM_9, zlaM_10, zlaM_11, zlaM_12, zlaM_13, zlaM_14, zlaM_15, zp_1, zp_h, zp_r, zp_l, zletE, obs, spMe_0, spMe_1, spMe_2, spMe_3, spMe_4, spMe_5, spMe_6, spMe_7, spMe_8, spMe_9, spMe_10, spMe_11, spMe_12, spMe_13, spMe_14, spMe_15, hM.1, h26, x2, k, if_true, if_neg (show ¬ nI 4 = (3 : Int32) by decide)]
theorem m_sign1 {M : zS} (hM : shM M) (h26 : M.2.1 0 26 = 1) (c : Int32) : fX8_isSign 0 c M = some (0, M) := by
  simp only [fX8_isSign, fX8_isSign_j29, zokM_0, zokM_1, zokM_2, zokM_3, zokM_4, zokM_5, zokM_6, zokM_7, zokM_8, zokM_9, zokM_10, zokM_11, zokM_12, zokM_13, zokM_14, zokM_15, zlaM_1, zlaM_2, zlaM_3, zlaM_4, zlaM_5, zlaM_6, zlaM_7, zlaM_8, zlaM_9, zlaM_10, zlaM_11, zlaM_12, zlaM_13, zlaM_14, zlaM_15, zp_1, zp_h, zp_r, zp_l, zletE, obs, spMe_0, spMe_1, spMe_2, spMe_3, spMe_4, spMe_5, spMe_6, spMe_7, spMe_8, spMe_9, spMe_10, spMe_11, spMe_12, spMe_13, spMe_14, spMe_15, hM.1, h26, if_neg (show ¬ (1 : Int32) = 0 by decide)]
/-- letter k of the WORD at s .. e is a; 0: there is none -/
def okL (B : Nat → Int32) (n s e k : Nat) (a : Int32) : Bool := if e ≤ s + k then decide (a = 0) else decide (byB B n (s + k) = a)
theorem m_letter {B : Nat → Int32} {n b s e : Nat} {M : zS} (hB : ByM B n b M) (h23 : M.2.1 0 23 = nI s) (h21 : M.2.1 0 21 = nI e) (hs : s ≤ 160) (he : e ≤ 161) {k : Nat} (hk : k ≤ 7) (a : Int32) : fX8_isLetter 0 (nI k) a M = some (if okL B n s e k a = true then 1 else 0, M) := by
  have hM := hB.1
  unfold okL
  have ea : nI s + nI k = nI (s + k) := nI_add s k
  by_cases c : e ≤ s + k
  · have c1 : nI e ≤ nI (s + k) := nI_le c (by omega)
    rw [if_pos c]
    by_cases d : a = 0
    · subst d
      simp only [fX8_isLetter, zokM_0, zokM_1, zokM_2, zokM_3, zokM_4, zokM_5, zokM_6, zokM_7, zokM_8, zokM_9, zokM_10, zokM_11, zokM_12, zokM_13, zokM_14, zokM_15, zlaM_1, zlaM_2, zlaM_3, zlaM_4, zlaM_5, zlaM_6, zlaM_7, zlaM_8, zlaM_9, zlaM_10, zlaM_11, zlaM_12, zlaM_13, zlaM_14, zlaM_15, zp_1, zp_h, zp_r, zp_l, zletE, obs, spMe_0, spMe_1, spMe_2, spMe_3, spMe_4, spMe_5, spMe_6, spMe_7, spMe_8, spMe_9, spMe_10, spMe_11, spMe_12, spMe_13, spMe_14, spMe_15, hM.1, h23, h21, ea, if_pos c1, if_true, decide_true]
    · simp only [fX8_isLetter, zokM_0, zokM_1, zokM_2, zokM_3, zokM_4, zokM_5, zokM_6, zokM_7, zokM_8, zokM_9, zokM_10, zokM_11, zokM_12, zokM_13, zokM_14, zokM_15, zlaM_1, zlaM_2, zlaM_3, zlaM_4, zlaM_5, zlaM_6, zlaM_7, zlaM_8, zlaM_9, zlaM_10, zlaM_11, zlaM_12, zlaM_13, zlaM_14, zlaM_15, zp_1, zp_h, zp_r, zp_l, zletE, obs, spMe_0, spMe_1, spMe_2, spMe_3, spMe_4, spMe_5, spMe_6, spMe_7, spMe_8, spMe_9, spMe_10, spMe_11, spMe_12, spMe_13, spMe_14, spMe_15, hM.1, h23, h21, ea, if_pos c1, if_neg d, decide_eq_true_eq]
  · have c1 : ¬ nI e ≤ nI (s + k) := nI_ge (by omega) (by omega)
    rw [if_neg c]
    by_cases d : byB B n (s + k) = a
    · simp only [fX8_isLetter, zokM_0, zokM_1, zokM_2, zokM_3, zokM_4, zokM_5, zokM_6, zokM_7, zokM_8, zokM_9, zokM_10, zokM_11, zokM_12, zokM_13, zokM_14, zokM_15, zlaM_1, zlaM_2, zlaM_3, zlaM_4, zlaM_5, zlaM_6, zlaM_7, zlaM_8, zlaM_9, zlaM_10, zlaM_11, zlaM_12, zlaM_13, zlaM_14, zlaM_15, zp_1, zp_h, zp_r, zp_l, zletE, obs, spMe_0, spMe_1, spMe_2, spMe_3, spMe_4, spMe_5, spMe_6, spMe_7, spMe_8, spMe_9, spMe_10, spMe_11, spMe_12, spMe_13, spMe_14, spMe_15, hM.1, h23, h21, ea, if_neg c1, m_byte hB (i := s + k) (by omega), if_pos d, decide_eq_true_eq]
    · simp only [fX8_isLetter, zokM_0, zokM_1, zokM_2, zokM_3, zokM_4, zokM_5, zokM_6, zokM_7, zokM_8, zokM_9, zokM_10, zokM_11, zokM_12, zokM_13, zokM_14, zokM_15, zlaM_1, zlaM_2, zlaM_3, zlaM_4, zlaM_5, zlaM_6, zlaM_7, zlaM_8, zlaM_9, zlaM_10, zlaM_11, zlaM_12, zlaM_13, zlaM_14, zlaM_15, zp_1, zp_h, zp_r, zp_l, zletE, obs, spMe_0, spMe_1, spMe_2, spMe_3, spMe_4, spMe_5, spMe_6, spMe_7, spMe_8, spMe_9, spMe_10, spMe_11, spMe_12, spMe_13, spMe_14, spMe_15, hM.1, h23, h21, ea, if_neg c1, m_byte hB (i := s + k) (by omega), if_neg d, decide_eq_true_eq]
theorem it0 (b : Bool) (A C : Option (Int32 × zS)) : (if (if b = true then (1 : Int32) else 0) = 0 then A else C) = if b = true then C else A := by
  cases b <;> rfl
theorem itA (b c : Bool) (M : zS) : (if b = true then some ((if c = true then (1 : Int32) else 0), M) else some ((0 : Int32), M)) = some ((if (b && c) = true then (1 : Int32) else 0), M) := by
  cases b <;> rfl
theorem itZ (b : Bool) (M : zS) : (if b = true then some ((1 : Int32), M) else some ((0 : Int32), M)) = some ((if b = true then (1 : Int32) else 0), M) := by
  cases b <;> rfl
theorem m_word {B : Nat → Int32} {n b s e : Nat} {M : zS} (hB : ByM B n b M) (h26 : M.2.1 0 26 = 0) (h22 : M.2.1 0 22 = 1) (h23 : M.2.1 0 23 = nI s) (h21 : M.2.1 0 21 = nI e) (hs : s ≤ 160) (he : e ≤ 161) (a1 a2 a3 a4 a5 a6 a7 a8 : Int32) : fX8_isWord 0 a1 a2 a3 a4 a5 a6 a7 a8 M = some (if (decide (e ≤ s + 8) && (okL B n s e 0 a1 && (okL B n s e 1 a2 && (okL B n s e 2 a3 && (okL B n s e 3 a4 && (okL B n s e 4 a5 && (okL B n s e 5 a6 && (okL B n s e 6 a7 && okL B n s e 7 a8)))))))) = true then 1 else 0, M) := by
  have hM := hB.1
  have l0 : fX8_isLetter 0 0 a1 M = _ := m_letter hB h23 h21 hs he (k := 0) (by decide) a1
  have l1 : fX8_isLetter 0 1 a2 M = _ := m_letter hB h23 h21 hs he (k := 1) (by decide) a2
  have l2 : fX8_isLetter 0 2 a3 M = _ := m_letter hB h23 h21 hs he (k := 2) (by decide) a3
  have l3 : fX8_isLetter 0 3 a4 M = _ := m_letter hB h23 h21 hs he (k := 3) (by decide) a4
  have l4 : fX8_isLetter 0 4 a5 M = _ := m_letter hB h23 h21 hs he (k := 4) (by decide) a5
  have l5 : fX8_isLetter 0 5 a6 M = _ := m_letter hB h23 h21 hs he (k := 5) (by decide) a6
  have l6 : fX8_isLetter 0 6 a7 M = _ := m_letter hB h23 h21 hs he (k := 6) (by decide) a7
  have l7 : fX8_isLetter 0 7 a8 M = _ := m_letter hB h23 h21 hs he (k := 7) (by decide) a8
  have ea : nI s + (8 : Int32) = nI (s + 8) := nI_add s 8
  by_cases c : e ≤ s + 8
  · have c1 : ¬ nI (s + 8) < nI e := nI_nlt c (by omega)
    simp only [fX8_isWord, fX8_isWord_j112, zokM_0, zokM_1, zokM_2, zokM_3, zokM_4, zokM_5, zokM_6, zokM_7, zokM_8, zokM_9, zokM_10, zokM_11, zokM_12, zokM_13, zokM_14, zokM_15, zlaM_1, zlaM_2, zlaM_3, zlaM_4, zlaM_5, zlaM_6, zlaM_7, zlaM_8, zlaM_9, zlaM_10, zlaM_11, zlaM_12, zlaM_13, zlaM_14, zlaM_15, zp_1, zp_h, zp_r, zp_l, zletE, obs, spMe_0, spMe_1, spMe_2, spMe_3, spMe_4, spMe_5, spMe_6, spMe_7, spMe_8, spMe_9, spMe_10, spMe_11, spMe_12, spMe_13, spMe_14, spMe_15, hM.1, h26, h22, h23, h21, ea, if_neg c1, if_true, l0, l1, l2, l3, l4, l5, l6, l7, it0, itZ, itA, decide_eq_true c, Bool.true_and]
  · have c1 : nI (s + 8) < nI e := nI_lt (by omega) (by omega)
    simp only [fX8_isWord, fX8_isWord_j112, zokM_0, zokM_1, zokM_2, zokM_3, zokM_4, zokM_5, zokM_6, zokM_7, zokM_8, zokM_9, zokM_10, zokM_11, zokM_12, zokM_13, zokM_14, zokM_15, zlaM_1, zlaM_2, zlaM_3, zlaM_4, zlaM_5, zlaM_6, zlaM_7, zlaM_8, zlaM_9, zlaM_10, zlaM_11, zlaM_12, zlaM_13, zlaM_14, zlaM_15, zp_1, zp_h, zp_r, zp_l, zletE, obs, spMe_0, spMe_1, spMe_2, spMe_3, spMe_4, spMe_5, spMe_6, spMe_7, spMe_8, spMe_9, spMe_10, spMe_11, spMe_12, spMe_13, spMe_14, spMe_15, hM.1, h26, h22, h23, h21, ea, if_pos c1, if_true, decide_eq_false c, Bool.false_and, Bool.false_eq_true, if_false]
theorem m_word1 {M : zS} (hM : shM M) (h26 : M.2.1 0 26 = 1) (a1 a2 a3 a4 a5 a6 a7 a8 : Int32) : fX8_isWord 0 a1 a2 a3 a4 a5 a6 a7 a8 M = some (0, M) := by
  simp only [fX8_isWord, fX8_isWord_j112, zokM_0, zokM_1, zokM_2, zokM_3, zokM_4, zokM_5, zokM_6, zokM_7, zokM_8, zokM_9, zokM_10, zokM_11, zokM_12, zokM_13, zokM_14, zokM_15, zlaM_1, zlaM_2, zlaM_3, zlaM_4, zlaM_5, zlaM_6, zlaM_7, zlaM_8, zlaM_9, zlaM_10, zlaM_11, zlaM_12, zlaM_13, zlaM_14, zlaM_15, zp_1, zp_h, zp_r, zp_l, zletE, obs, spMe_0, spMe_1, spMe_2, spMe_3, spMe_4, spMe_5, spMe_6, spMe_7, spMe_8, spMe_9, spMe_10, spMe_11, spMe_12, spMe_13, spMe_14, spMe_15, hM.1, h26, if_neg (show ¬ (1 : Int32) = 0 by decide)]
theorem alE_iff (B : Nat → Int32) (n : Nat) : ∀ (w : List Int32) (s : Nat), alE B n w s = true ↔ ∀ k, k < w.length → byB B n (s + k) = w.getD k 0
  | [], s => ⟨fun _ k h => absurd h (Nat.not_lt_zero _), fun _ => rfl⟩
  | c :: cs, s => by
    rw [alE, Bool.and_eq_true, beq_iff_eq, alE_iff B n cs (s + 1)]
    constructor
    · intro ⟨h1, h2⟩ k hk
      cases k with
      | zero => exact h1
      | succ k =>
        have := h2 k (by simpa using hk)
        rw [show s + (k + 1) = s + 1 + k by omega, this]
        rfl
    · intro h
      refine ⟨h 0 (by simp), fun k hk => ?_⟩
      have := h (k + 1) (by simpa using hk)
      rw [show s + 1 + k = s + (k + 1) by omega, this]
      rfl
theorem wd_ok {B : Nat → Int32} {n s e : Nat} {w : List Int32} (hl : w.length ≤ 8) (hnz : ∀ k, k < w.length → ¬ w.getD k 0 = 0) (hse : s < e) (hlt : ∀ k, s ≤ k → k < e → ¬ byB B n k = 0) : (decide (e ≤ s + 8) && (okL B n s e 0 (w.getD 0 0) && (okL B n s e 1 (w.getD 1 0) && (okL B n s e 2 (w.getD 2 0) && (okL B n s e 3 (w.getD 3 0) && (okL B n s e 4 (w.getD 4 0) && (okL B n s e 5 (w.getD 5 0) && (okL B n s e 6 (w.getD 6 0) && okL B n s e 7 (w.getD 7 0))))))))) = true ↔ mW B n w s e = true := by
  unfold mW
  simp only [Bool.and_eq_true, decide_eq_true_eq, alE_iff]
  constructor
  · rintro ⟨h8, k0, k1, k2, k3, k4, k5, k6, k7⟩
    have hk : ∀ k, k < 8 → okL B n s e k (w.getD k 0) = true := fun k hk => by
      rcases (show k = 0 ∨ k = 1 ∨ k = 2 ∨ k = 3 ∨ k = 4 ∨ k = 5 ∨ k = 6 ∨ k = 7 by omega) with rfl | rfl | rfl | rfl | rfl | rfl | rfl | rfl <;> assumption
    have g1 : ¬ s + w.length < e := fun q => by
      have := hk w.length (by omega)
      unfold okL at this
      rw [if_neg (by omega), decide_eq_true_eq] at this
      refine hlt (s + w.length) (by omega) q (this.trans ?_)
      rw [List.getD_eq_getElem?_getD, List.getElem?_eq_none (Nat.le_refl _)]
      rfl
    have g2 : ¬ e < s + w.length := fun q => by
      have := hk (e - s) (by omega)
      unfold okL at this
      rw [if_pos (by omega), decide_eq_true_eq] at this
      exact hnz (e - s) (by omega) this
    refine ⟨by omega, fun k hk2 => ?_⟩
    have := hk k (by omega)
    unfold okL at this
    rw [if_neg (by omega), decide_eq_true_eq] at this
    exact this
  · rintro ⟨he, ha⟩
    have hk : ∀ k, okL B n s e k (w.getD k 0) = true := fun k => by
      unfold okL
      by_cases c : e ≤ s + k
      · rw [if_pos c, decide_eq_true_eq, List.getD_eq_getElem?_getD, List.getElem?_eq_none (by omega)]
        rfl
      · rw [if_neg c, decide_eq_true_eq]
        exact ha k (by omega)
    exact ⟨by omega, hk 0, hk 1, hk 2, hk 3, hk 4, hk 5, hk 6, hk 7⟩
theorem wd_fine : ∀ j, j < 12 → (wd j).length ≤ 8 ∧ ∀ k, k < (wd j).length → ¬ (wd j).getD k 0 = 0 := by decide
theorem m_isW {B : Nat → Int32} {n b o i : Nat} {M : zS} (h : AtM B n b o i M) {j : Nat} (hj : j < 12) {a1 a2 a3 a4 a5 a6 a7 a8 : Int32} (hw : [a1, a2, a3, a4, a5, a6, a7, a8] = [(wd j).getD 0 0, (wd j).getD 1 0, (wd j).getD 2 0, (wd j).getD 3 0, (wd j).getD 4 0, (wd j).getD 5 0, (wd j).getD 6 0, (wd j).getD 7 0]) : fX8_isWord 0 a1 a2 a3 a4 a5 a6 a7 a8 M = some (if tC B n i = cdW j then 1 else 0, M) := by
  obtain ⟨hB, h8, h26, h25, ⟨x1, x2, x3, x4, x5⟩, hp⟩ := h
  have hM := hB.1
  have c9 := cdW_9 j hj
  show _ = some (if tkC B n (psT B n i) = cdW j then 1 else 0, M)
  rcases tk_kinds B n (psT B n i) with ⟨k, t⟩ | ⟨k, hl, t, te⟩ | ⟨k, t⟩ | ⟨k, hg, t⟩ | ⟨k, t⟩
  · rw [t, if_neg (fun q => c9.2.2.1 q.symm)]
    simp only [fX8_isWord, fX8_isWord_j112, zokM_0, zokM_1, zokM_2, zokM_3, zokM_4, zokM_5, zokM_6, zokM_7, zokM_8, zokM_9, zokM_10, zokM_11, zokM_12, zokM_13, zokM_14, zokM_15, zlaM_1, zlaM_2, zlaM_3, zlaM_4, zlaM_5, zlaM_6, zlaM_7, zlaM_8, zlaM_9, zlaM_10, zlaM_11, zlaM_12, zlaM_13, zlaM_14, zlaM_15, zp_1, zp_h, zp_r, zp_l, zletE, obs, spMe_0, spMe_1, spMe_2, spMe_3, spMe_4, spMe_5, spMe_6, spMe_7, spMe_8, spMe_9, spMe_10, spMe_11, spMe_12, spMe_13, spMe_14, spMe_15, hM.1, h26, x2, k, if_true, if_neg (show ¬ nI 0 = (1 : Int32) by decide)]
  · have hne : ¬ byB B n (tkS B n (psT B n i)) = -1 := fun q => by rw [q, isLt_m1] at hl; cases hl
    have hin := byB_in hne
    have hn := hB.2.2.2.1
    have hle := tkE_le B hne
    rw [k] at x2
    injection hw with w1 hw
    injection hw with w2 hw
    injection hw with w3 hw
    injection hw with w4 hw
    injection hw with w5 hw
    injection hw with w6 hw
    injection hw with w7 hw
    injection hw with w8 hw
    rw [m_word hB h26 x2 x1 (x3 (Or.inl k)) (by omega) (by omega), w1, w2, w3, w4, w5, w6, w7, w8, t]
    have wk := wd_fine j hj
    have hlt : ∀ q, tkS B n (psT B n i) ≤ q → q < tkE B n (psT B n i) → ¬ byB B n q = 0 := fun q q1 q2 q3 => by
      by_cases e : q = tkS B n (psT B n i)
      · rw [← e, q3] at hl
        exact absurd hl (by decide)
      · rw [te] at q2
        have := sk_in B n (p := isLt) _ _ q (show tkS B n (psT B n i) + 1 ≤ q by omega) q2
        rw [q3] at this
        exact absurd this (by decide)
    have key := wd_ok (B := B) (n := n) wk.1 wk.2 (tkE_gt B n (psT B n i)) hlt
    have key2 := wd_iff B n (tkS B n (psT B n i)) (tkE B n (psT B n i)) hj
    by_cases e : wdC B n (tkS B n (psT B n i)) (tkE B n (psT B n i)) = cdW j
    · rw [if_pos e, if_pos (key.mpr (key2.mp e))]
    · rw [if_neg e, if_neg (fun q => e (key2.mpr (key.mp q)))]
  · rw [t, if_neg (fun q => c9.2.1 q.symm)]
    simp only [fX8_isWord, fX8_isWord_j112, zokM_0, zokM_1, zokM_2, zokM_3, zokM_4, zokM_5, zokM_6, zokM_7, zokM_8, zokM_9, zokM_10, zokM_11, zokM_12, zokM_13, zokM_14, zokM_15, zlaM_1, zlaM_2, zlaM_3, zlaM_4, zlaM_5, zlaM_6, zlaM_7, zlaM_8, zlaM_9, zlaM_10, zlaM_11, zlaM_12, zlaM_13, zlaM_14, zlaM_15, zp_1, zp_h, zp_r, zp_l, zletE, obs, spMe_0, spMe_1, spMe_2, spMe_3, spMe_4, spMe_5, spMe_6, spMe_7, spMe_8, spMe_9, spMe_10, spMe_11, spMe_12, spMe_13, spMe_14, spMe_15, hM.1, h26, x2, k, if_true, if_neg (show ¬ nI 2 = (1 : Int32) by decide)]
  · rw [t, if_neg (fun q => by rw [q] at hg; exact c9.2.2.2.2.1 (sg_6 hg).1)]
    simp only [fX8_isWord, fX8_isWord_j112, zokM_0, zokM_1, zokM_2, zokM_3, zokM_4, zokM_5, zokM_6, zokM_7, zokM_8, zokM_9, zokM_10, zokM_11, zokM_12, zokM_13, zokM_14, zokM_15, zlaM_1, zlaM_2, zlaM_3, zlaM_4, zlaM_5, zlaM_6, zlaM_7, zlaM_8, zlaM_9, zlaM_10, zlaM_11, zlaM_12, zlaM_13, zlaM_14, zlaM_15, zp_1, zp_h, zp_r, zp_l, zletE, obs, spMe_0, spMe_1, spMe_2, spMe_3, spMe_4, spMe_5, spMe_6, spMe_7, spMe_8, spMe_9, spMe_10, spMe_11, spMe_12, spMe_13, spMe_14, spMe_15, hM.1, h26, x2, k, if_true, if_neg (show ¬ nI 3 = (1 : Int32) by decide)]
  · rw [t, if_neg (fun q => c9.1 q.symm)]
    simp only [fX8_isWord, fX8_isWord_j112, zokM_0, zokM_1, zokM_2, zokM_3, zokM_4, zokM_5, zokM_6, zokM_7, zokM_8, zokM_9, zokM_10, zokM_11, zokM_12, zokM_13, zokM_14, zokM_15, zlaM_1, zlaM_2, zlaM_3, zlaM_4, zlaM_5, zlaM_6, zlaM_7, zlaM_8, zlaM_9, zlaM_10, zlaM_11, zlaM_12, zlaM_13, zlaM_14, zlaM_15, zp_1, zp_h, zp_r, zp_l, zletE, obs, spMe_0, spMe_1, spMe_2, spMe_3, spMe_4, spMe_5, spMe_6, spMe_7, spMe_8, spMe_9, spMe_10, spMe_11, spMe_12, spMe_13, spMe_14, spMe_15, hM.1, h26, x2, k, if_true, if_neg (show ¬ nI 4 = (1 : Int32) by decide)]
/-- what fail() leaves -/
def flM (M : zS) : zS := zp (zp M 0 26 1) 0 27 (M.2.1 0 23)
theorem m_fail {M : zS} (hM : shM M) (h26 : M.2.1 0 26 = 0) : fX8_fail 0 M = some ((), flM M) := by
  simp only [fX8_fail, zokM_0, zokM_1, zokM_2, zokM_3, zokM_4, zokM_5, zokM_6, zokM_7, zokM_8, zokM_9, zokM_10, zokM_11, zokM_12, zokM_13, zokM_14, zokM_15, zlaM_1, zlaM_2, zlaM_3, zlaM_4, zlaM_5, zlaM_6, zlaM_7, zlaM_8, zlaM_9, zlaM_10, zlaM_11, zlaM_12, zlaM_13, zlaM_14, zlaM_15, zp_1, zp_h, zp_r, zp_l, zletE, obs, spMe_0, spMe_1, spMe_2, spMe_3, spMe_4, spMe_5, spMe_6, spMe_7, spMe_8, spMe_9, spMe_10, spMe_11, spMe_12, spMe_13, spMe_14, spMe_15, hM.1, h26, if_true]
  rfl
theorem m_fail1 {M : zS} (hM : shM M) (h26 : M.2.1 0 26 = 1) : fX8_fail 0 M = some ((), M) := by
  simp only [fX8_fail, zokM_0, zokM_1, zokM_2, zokM_3, zokM_4, zokM_5, zokM_6, zokM_7, zokM_8, zokM_9, zokM_10, zokM_11, zokM_12, zokM_13, zokM_14, zokM_15, zlaM_1, zlaM_2, zlaM_3, zlaM_4, zlaM_5, zlaM_6, zlaM_7, zlaM_8, zlaM_9, zlaM_10, zlaM_11, zlaM_12, zlaM_13, zlaM_14, zlaM_15, zp_1, zp_h, zp_r, zp_l, zletE, obs, spMe_0, spMe_1, spMe_2, spMe_3, spMe_4, spMe_5, spMe_6, spMe_7, spMe_8, spMe_9, spMe_10, spMe_11, spMe_12, spMe_13, spMe_14, spMe_15, hM.1, h26, if_neg (show ¬ (1 : Int32) = 0 by decide)]
theorem scrM.rf (M : zS) : scrM M M := ⟨rfl, rfl, fun _ _ => Or.inr rfl⟩
theorem scrM.tr {X Y Z : zS} (h : scrM X Y) (g : scrM Y Z) : scrM X Z := ⟨g.1.trans h.1, g.2.1.trans h.2.1, fun o k => by
  rcases h.2.2 o k with a | a
  · exact Or.inl a
  · rcases g.2.2 o k with b | b
    · exact Or.inl b
    · exact Or.inr (b.trans a)⟩
theorem scrM.zp {X Y : zS} (h : scrM X Y) {k : Nat} (hk : 19 ≤ k ∧ k ≤ 27) (v : Int32) : scrM X (zp Y 0 k v) := ⟨h.1, h.2.1, fun o j => by
  rcases h.2.2 o j with a | a
  · exact Or.inl a
  · by_cases e : o = 0 ∧ j = k
    · exact Or.inl ⟨e.1, by omega⟩
    · exact Or.inr (by rw [zp_h, if_neg e]; exact a)⟩
theorem scrM.at {X X' : zS} (h : scrM X X') {o k : Nat} (h1 : o ≠ 0 ∨ k < 19 ∨ 27 < k) : X'.2.1 o k = X.2.1 o k := by
  rcases h.2.2 o k with a | a
  · omega
  · exact a
theorem scrM.sh {X X' : zS} (h : scrM X X') (hM : shM X) : shM X' := ⟨h.1.trans hM.1, fun o ho k hk => by rw [h.2.1]; exact hM.2 o ho k hk⟩
theorem scrM.env {X X' : zS} (h : scrM X X') : envM X' = envM X := by
  funext k
  unfold envM
  by_cases c : k < 6
  · rw [if_pos c, if_pos c]; exact h.at (Or.inr (Or.inl (by omega)))
  · rw [if_neg c, if_neg c]
theorem frQ.sc {M M' : zS} (h : frQ M M') : scrM M M' := ⟨h.1, h.2.1, fun o k => by
  rcases h.2.2 o k with a | a
  · exact Or.inl ⟨a.1, by omega, by omega⟩
  · exact Or.inr a⟩
theorem ByM.zp {B : Nat → Int32} {n b : Nat} {M : zS} (h : ByM B n b M) {k : Nat} (hk : 21 ≤ k) (v : Int32) : ByM B n b (zp M 0 k v) := ⟨h.1, by rw [zp_h, if_neg (by omega)]; exact h.2.1, by rw [zp_h, if_neg (by omega)]; exact h.2.2.1, h.2.2.2.1, h.2.2.2.2.1, fun j hj => by rw [zp_h, if_neg (by omega)]; exact h.2.2.2.2.2 j hj⟩
theorem NxM.zp {B : Nat → Int32} {n p : Nat} {M : zS} (h : NxM B n p M) {k : Nat} (hk : 24 ≤ k) (v : Int32) : NxM B n p (zp M 0 k v) := by
  unfold NxM
  rw [zp_h, if_neg (by omega), zp_h, if_neg (by omega), zp_h, if_neg (by omega)]
  exact h
theorem AtM.op {B : Nat → Int32} {n b o i : Nat} {M : zS} (h : AtM B n b o i M) (o' : Nat) : AtM B n b o' i (zp M 0 25 (nI o')) := ⟨h.1.zp (by decide) _, h.2.1, by rw [zp_h, if_neg (by decide)]; exact h.2.2.1, by rw [zp_h, if_pos ⟨rfl, rfl⟩], h.2.2.2.2.1.zp (by decide) _, h.2.2.2.2.2⟩
theorem AtM.fl {B : Nat → Int32} {n b o i : Nat} {M : zS} (h : AtM B n b o i M) : scrM M (flM M) ∧ (flM M).2.1 0 26 = 1 ∧ (flM M).2.1 0 27 = nI (tkS B n (psT B n i)) := by
  refine ⟨((scrM.rf M).zp (k := 26) (by decide) 1).zp (k := 27) (by decide) _, ?_, ?_⟩
  · unfold flM; rw [zp_h, if_neg (by decide), zp_h, if_pos ⟨rfl, rfl⟩]
  · unfold flM; rw [zp_h, if_pos ⟨rfl, rfl⟩]; exact h.2.2.2.2.1.1
theorem m_nx {B : Nat → Int32} {n b o i : Nat} {M : zS} (h : AtM B n b o i M) (hk : ¬ tkK B n (psT B n i) = 0 ∧ ¬ tkK B n (psT B n i) = 4) : ∃ M', fX8_next 0 M = some ((), M') ∧ AtM B n b o (i + 1) M' ∧ scrM M M' := by
  obtain ⟨hB, h8, h26, h25, ⟨x1, x2, x3, x4, x5⟩, hp⟩ := h
  have hne : ¬ byB B n (tkS B n (psT B n i)) = -1 := fun q => hk.1 (by unfold tkK; rw [if_pos q])
  have hle := tkE_le B hne
  have hk3 : tkK B n (psT B n i) = 1 ∨ tkK B n (psT B n i) = 2 ∨ tkK B n (psT B n i) = 3 := by
    rcases tk_kinds B n (psT B n i) with ⟨k, t⟩ | ⟨k, hl, t, te⟩ | ⟨k, t⟩ | ⟨k, hg, t⟩ | ⟨k, t⟩ <;> omega
  obtain ⟨M', y1, y2, y3⟩ := m_next (p := tkE B n (psT B n i)) hB h8 (x3 hk3) hle
  exact ⟨M', y1, ⟨hB.fr y2, h8, (y2.at (Or.inr (Or.inr (by decide)))).trans h26, (y2.at (Or.inr (Or.inr (by decide)))).trans h25, y3, hle⟩, y2.sc⟩
theorem tc_k {B : Nat → Int32} {n i : Nat} (h8 : ¬ tC B n i = 8) (h9 : ¬ tC B n i = 9) : ¬ tkK B n (psT B n i) = 0 ∧ ¬ tkK B n (psT B n i) = 4 := by
  have h8 : ¬ tkC B n (psT B n i) = 8 := h8
  have h9 : ¬ tkC B n (psT B n i) = 9 := h9
  rcases tk_kinds B n (psT B n i) with ⟨k, t⟩ | ⟨k, hl, t, te⟩ | ⟨k, t⟩ | ⟨k, hg, t⟩ | ⟨k, t⟩
  · exact absurd t h8
  · omega
  · omega
  · omega
  · exact absurd t h9
theorem m_nxt {B : Nat → Int32} {n b o i : Nat} {M : zS} (h : AtM B n b o i M) {c : Int32} (hc : tC B n i = c) (h8 : ¬ c = 8) (h9 : ¬ c = 9) : ∃ M', fX8_next 0 M = some ((), M') ∧ AtM B n b o (i + 1) M' ∧ scrM M M' := m_nx h (tc_k (fun q => h8 (hc.symm.trans q)) (fun q => h9 (hc.symm.trans q)))
theorem m_opens {B : Nat → Int32} {n b o i : Nat} {M : zS} (h : AtM B n b o i M) (ho : o < 5) {c : Int32} (hc : tC B n i = c) (h8 : ¬ c = 8) (h9 : ¬ c = 9) : ∃ M', fX8_opens 0 M = some (1, M') ∧ AtM B n b (o + 1) (i + 1) M' ∧ scrM M M' := by
  have hM := h.1.1
  have h25 := h.2.2.2.1
  have c5 : ¬ nI o = (5 : Int32) := fun q => by have := (nI_eq (a := o) (b := 5) (by omega) (by omega)).mp q; omega
  obtain ⟨M', y1, y2, y3⟩ := m_nxt (h.op (o + 1)) hc h8 h9
  refine ⟨M', ?_, y2, ((scrM.rf M).zp (k := 25) (by decide) _).tr y3⟩
  simp only [fX8_opens, zokM_0, zokM_1, zokM_2, zokM_3, zokM_4, zokM_5, zokM_6, zokM_7, zokM_8, zokM_9, zokM_10, zokM_11, zokM_12, zokM_13, zokM_14, zokM_15, zlaM_1, zlaM_2, zlaM_3, zlaM_4, zlaM_5, zlaM_6, zlaM_7, zlaM_8, zlaM_9, zlaM_10, zlaM_11, zlaM_12, zlaM_13, zlaM_14, zlaM_15, zp_1, zp_h, zp_r, zp_l, zletE, obs, spMe_0, spMe_1, spMe_2, spMe_3, spMe_4, spMe_5, spMe_6, spMe_7, spMe_8, spMe_9, spMe_10, spMe_11, spMe_12, spMe_13, spMe_14, spMe_15, hM.1, h25, if_neg c5, nI_1, y1]
theorem m_opens5 {B : Nat → Int32} {n b i : Nat} {M : zS} (h : AtM B n b 5 i M) : fX8_opens 0 M = some (0, flM M) := by
  have hM := h.1.1
  have h25 := h.2.2.2.1
  have c5 : nI 5 = (5 : Int32) := by decide
  simp only [fX8_opens, zokM_0, zokM_1, zokM_2, zokM_3, zokM_4, zokM_5, zokM_6, zokM_7, zokM_8, zokM_9, zokM_10, zokM_11, zokM_12, zokM_13, zokM_14, zokM_15, zlaM_1, zlaM_2, zlaM_3, zlaM_4, zlaM_5, zlaM_6, zlaM_7, zlaM_8, zlaM_9, zlaM_10, zlaM_11, zlaM_12, zlaM_13, zlaM_14, zlaM_15, zp_1, zp_h, zp_r, zp_l, zletE, obs, spMe_0, spMe_1, spMe_2, spMe_3, spMe_4, spMe_5, spMe_6, spMe_7, spMe_8, spMe_9, spMe_10, spMe_11, spMe_12, spMe_13, spMe_14, spMe_15, hM.1, h25, c5, if_true, m_fail hM h.2.2.1]
