/-- the class scans these bytes -/
def ByX (B : Nat → Int32) (n : Nat) (X : zS) : Prop := shX X ∧ X.2.1 10 4 = nI n ∧ n ≤ 160 ∧ ∀ j, j < n → X.2.1 3 j = B j
/-- alike but for the TOKEN's own numbers -/
def frK (X X' : zS) : Prop := X'.1 = X.1 ∧ X'.2.2.2 = X.2.2.2 ∧ ∀ o k, (o = 10 ∧ 5 ≤ k ∧ k ≤ 7) ∨ X'.2.1 o k = X.2.1 o k
theorem frK.rf (X : zS) : frK X X := ⟨rfl, rfl, fun _ _ => Or.inr rfl⟩
theorem frK.tr {X Y Z : zS} (h : frK X Y) (g : frK Y Z) : frK X Z := ⟨g.1.trans h.1, g.2.1.trans h.2.1, fun o k => by
  rcases h.2.2 o k with a | a
  · exact Or.inl a
  · rcases g.2.2 o k with b | b
    · exact Or.inl b
    · exact Or.inr (b.trans a)⟩
theorem frK.zp {X Y : zS} (h : frK X Y) {k : Nat} (hk : 5 ≤ k ∧ k ≤ 7) (v : Int32) : frK X (zp Y 10 k v) := ⟨h.1, h.2.1, fun o j => by
  rcases h.2.2 o j with a | a
  · exact Or.inl a
  · by_cases e : o = 10 ∧ j = k
    · exact Or.inl ⟨e.1, by omega⟩
    · exact Or.inr (by rw [zp_h, if_neg e]; exact a)⟩
theorem frK.at {X X' : zS} (h : frK X X') {o k : Nat} (h1 : o ≠ 10 ∨ k < 5) : X'.2.1 o k = X.2.1 o k := by
  rcases h.2.2 o k with a | a
  · omega
  · exact a
theorem ByX.fr {B : Nat → Int32} {n : Nat} {X X' : zS} (h : ByX B n X) (g : frK X X') : ByX B n X' := ⟨⟨g.1.trans h.1.1, fun o ho k hk => by rw [g.2.1]; exact h.1.2 o ho k hk⟩, (g.at (Or.inr (by decide))).trans h.2.1, h.2.2.1, fun j hj => (g.at (Or.inl (by decide))).trans (h.2.2.2 j hj)⟩
theorem x_byte {B : Nat → Int32} {n : Nat} {X : zS} (h : ByX B n X) {i : Nat} (hi : i < 2 ^ 31) : fX5_byteAt 10 (nI i) X = some (byB B n i, X) := by
  obtain ⟨hX, h4, hn, hB⟩ := h
  have r0 : X.2.2.2 10 0 = some 3 := hX.r (by decide) (by decide) (by decide) (by decide)
  have h0 : ¬ nI i < 0 := nI_pos hi
  unfold byB
  by_cases c : i < n
  · have c1 : ¬ nI n ≤ nI i := nI_ge c (by omega)
    have c2 : ¬ Int32.ofNat 160 ≤ nI i := nI_ge (b := 160) (by omega) (by decide)
    have hz : zix spX 3 (nI i) = some i := zix_of rfl (by show i < 160; omega) (by decide)
    rw [if_pos c]
    simp only [fX5_byteAt, if_neg h0, zokX_0, zokX_1, zokX_2, zokX_3, zokX_4, zokX_5, zokX_6, zokX_7, zokX_8, zokX_9, zokX_10, zokX_11, zokX_12, zokX_13, zokX_14, zokX_15, zokX_16, zlaX_1, zlaX_2, zlaX_3, zlaX_4, zlaX_5, zlaX_6, zlaX_8, zlaX_11, zlaX_12, zlaX_13, zlaX_15, zlaX_16, zp_1, zp_h, zp_r, zp_l, zletE, obs, spXe_0, spXe_1, spXe_2, spXe_3, spXe_4, spXe_5, spXe_6, spXe_7, spXe_8, spXe_9, spXe_10, spXe_11, spXe_12, spXe_13, spXe_14, spXe_15, spXe_16, hX.1, h4, if_neg c1, r0, c2, if_false, hz, hB i c]
  · have c1 : nI n ≤ nI i := nI_le (by omega) hi
    rw [if_neg c]
    simp only [fX5_byteAt, fX5_byteAt_j30, if_neg h0, zokX_0, zokX_1, zokX_2, zokX_3, zokX_4, zokX_5, zokX_6, zokX_7, zokX_8, zokX_9, zokX_10, zokX_11, zokX_12, zokX_13, zokX_14, zokX_15, zokX_16, zlaX_1, zlaX_2, zlaX_3, zlaX_4, zlaX_5, zlaX_6, zlaX_8, zlaX_11, zlaX_12, zlaX_13, zlaX_15, zlaX_16, zp_1, zp_h, zp_r, zp_l, zletE, obs, spXe_0, spXe_1, spXe_2, spXe_3, spXe_4, spXe_5, spXe_6, spXe_7, spXe_8, spXe_9, spXe_10, spXe_11, spXe_12, spXe_13, spXe_14, spXe_15, spXe_16, hX.1, h4, if_pos c1]
theorem x_bl (b : Int32) (X : zS) : fX5_isBlank b X = some (if isBl b = true then 1 else 0, X) := by
  unfold fX5_isBlank fX5_isBlank_j12 isBl
  by_cases c1 : b = 32
  · rw [if_pos c1, decide_eq_true c1]; rfl
  · rw [if_neg c1, decide_eq_false c1]
    by_cases c2 : b = 10
    · rw [if_pos c2, decide_eq_true c2]; rfl
    · rw [if_neg c2, decide_eq_false c2]; rfl
theorem x_lt (b : Int32) (X : zS) : fX5_isLetter b X = some (if isLt b = true then 1 else 0, X) := by
  unfold fX5_isLetter fX5_isLetter_j16 isLt
  by_cases c1 : b < 97
  · rw [if_pos c1, decide_eq_true c1]; rfl
  · rw [if_neg c1, decide_eq_false c1]
    by_cases c2 : 122 < b
    · rw [if_pos c2, decide_eq_true c2]; rfl
    · rw [if_neg c2, decide_eq_false c2]; rfl
theorem x_dg (b : Int32) (X : zS) : fX5_isDigit b X = some (if isDg b = true then 1 else 0, X) := by
  unfold fX5_isDigit fX5_isDigit_j16 isDg
  by_cases c1 : b < 48
  · rw [if_pos c1, decide_eq_true c1]; rfl
  · rw [if_neg c1, decide_eq_false c1]
    by_cases c2 : 57 < b
    · rw [if_pos c2, decide_eq_true c2]; rfl
    · rw [if_neg c2, decide_eq_false c2]; rfl
theorem x_sg (b : Int32) (X : zS) : fX5_isSign b X = some (if isSg b = true then 1 else 0, X) := by
  unfold fX5_isSign isSg
  by_cases c1 : b = 40
  · rw [if_pos c1, decide_eq_true c1]; rfl
  · rw [if_neg c1, decide_eq_false c1]
    by_cases c2 : b = 41
    · rw [if_pos c2, decide_eq_true c2]; rfl
    · rw [if_neg c2, decide_eq_false c2]
      by_cases c3 : b = 42
      · rw [if_pos c3, decide_eq_true c3]; rfl
      · rw [if_neg c3, decide_eq_false c3]
        by_cases c4 : b = 43
        · rw [if_pos c4, decide_eq_true c4]; rfl
        · rw [if_neg c4, decide_eq_false c4]
          by_cases c5 : b = 45
          · rw [if_pos c5, decide_eq_true c5]; rfl
          · rw [if_neg c5, decide_eq_false c5]
            by_cases c6 : b = 59
            · rw [if_pos c6, decide_eq_true c6]; rfl
            · rw [if_neg c6, decide_eq_false c6]
              by_cases c7 : b = 60
              · rw [if_pos c7, decide_eq_true c7]; rfl
              · rw [if_neg c7, decide_eq_false c7]
                by_cases c8 : b = 61
                · rw [if_pos c8, decide_eq_true c8]; rfl
                · rw [if_neg c8, decide_eq_false c8]; rfl
theorem b1z (b : Bool) : ((if b = true then (1 : Int32) else 0) = 0) = (b = false) := by cases b <;> decide
/-- skipping blanks -/
theorem x_skB {B : Nat → Int32} {n : Nat} : ∀ (m i c f : Nat) (X : zS), ByX B n X → X.2.1 10 5 = nI i → i ≤ n → n - i ≤ m → c + m ≤ 160 → m < f → ∃ X', fX5_scanOne_L10 10 f (nI c) X = fX5_scanOne_j47 10 X' ∧ frK X X' ∧ X'.2.1 10 5 = nI (sk isBl B n m i)
  | m, i, c, 0, _, _, _, _, _, _, h => by omega
  | 0, i, c, f + 1, X, hB, h5, hi, hm, hc, _ => by
    have hX := hB.1
    have hn := hB.2.2.1
    refine ⟨X, ?_, frK.rf X, h5⟩
    by_cases cc : (160 : Int32) ≤ nI c
    · simp only [fX5_scanOne_L10, if_pos cc]
    · have e1 := x_byte hB (i := i) (by omega)
      have e2 : byB B n i = -1 := by unfold byB; rw [if_neg (by omega)]
      rw [e2] at e1
      simp only [fX5_scanOne_L10, if_neg cc, zokX_0, zokX_1, zokX_2, zokX_3, zokX_4, zokX_5, zokX_6, zokX_7, zokX_8, zokX_9, zokX_10, zokX_11, zokX_12, zokX_13, zokX_14, zokX_15, zokX_16, zlaX_1, zlaX_2, zlaX_3, zlaX_4, zlaX_5, zlaX_6, zlaX_8, zlaX_11, zlaX_12, zlaX_13, zlaX_15, zlaX_16, zp_1, zp_h, zp_r, zp_l, zletE, obs, spXe_0, spXe_1, spXe_2, spXe_3, spXe_4, spXe_5, spXe_6, spXe_7, spXe_8, spXe_9, spXe_10, spXe_11, spXe_12, spXe_13, spXe_14, spXe_15, spXe_16, hX.1, h5, e1, x_bl, isBl_m1, Bool.false_eq_true, if_false, if_true]
  | m + 1, i, c, f + 1, X, hB, h5, hi, hm, hc, hf => by
    have hX := hB.1
    have hn := hB.2.2.1
    have cc : ¬ (160 : Int32) ≤ nI c := nI_ge (b := 160) (by omega) (by decide)
    have e1 := x_byte hB (i := i) (by omega)
    rw [sk]
    cases hb : isBl (byB B n i) with
    | false =>
      refine ⟨X, ?_, frK.rf X, by rw [if_neg (by decide)]; exact h5⟩
      simp only [fX5_scanOne_L10, if_neg cc, zokX_0, zokX_1, zokX_2, zokX_3, zokX_4, zokX_5, zokX_6, zokX_7, zokX_8, zokX_9, zokX_10, zokX_11, zokX_12, zokX_13, zokX_14, zokX_15, zokX_16, zlaX_1, zlaX_2, zlaX_3, zlaX_4, zlaX_5, zlaX_6, zlaX_8, zlaX_11, zlaX_12, zlaX_13, zlaX_15, zlaX_16, zp_1, zp_h, zp_r, zp_l, zletE, obs, spXe_0, spXe_1, spXe_2, spXe_3, spXe_4, spXe_5, spXe_6, spXe_7, spXe_8, spXe_9, spXe_10, spXe_11, spXe_12, spXe_13, spXe_14, spXe_15, spXe_16, hX.1, h5, e1, x_bl, hb, Bool.false_eq_true, if_false, if_true]
    | true =>
      have hin : i < n := by
        refine byB_in (B := B) (fun q => ?_)
        rw [q, isBl_m1] at hb
        cases hb
      have g : frK X (zp X 10 5 (nI (i + 1))) := (frK.rf X).zp (by decide) _
      obtain ⟨X', y1, y2, y3⟩ := x_skB m (i + 1) (c + 1) f (zp X 10 5 (nI (i + 1))) (hB.fr g) (by simp [zp_h]) (by omega) (by omega) (by omega) (by omega)
      refine ⟨X', ?_, g.tr y2, by rw [if_pos rfl]; exact y3⟩
      simp only [fX5_scanOne_L10, if_neg cc, zokX_0, zokX_1, zokX_2, zokX_3, zokX_4, zokX_5, zokX_6, zokX_7, zokX_8, zokX_9, zokX_10, zokX_11, zokX_12, zokX_13, zokX_14, zokX_15, zokX_16, zlaX_1, zlaX_2, zlaX_3, zlaX_4, zlaX_5, zlaX_6, zlaX_8, zlaX_11, zlaX_12, zlaX_13, zlaX_15, zlaX_16, zp_1, zp_h, zp_r, zp_l, zletE, obs, spXe_0, spXe_1, spXe_2, spXe_3, spXe_4, spXe_5, spXe_6, spXe_7, spXe_8, spXe_9, spXe_10, spXe_11, spXe_12, spXe_13, spXe_14, spXe_15, spXe_16, hX.1, h5, e1, x_bl, hb, if_true, if_neg n10, nI_1]
      exact y1
/-- skipping letters -/
theorem x_skW {B : Nat → Int32} {n : Nat} : ∀ (m i c f : Nat) (X : zS), ByX B n X → X.2.1 10 6 = nI i → i ≤ n + 1 → n - i ≤ m → c + m ≤ 160 → m < f → ∃ X', fX5_scanWord_L2 10 f (nI c) X = fX5_scanWord_j39 10 X' ∧ frK X X' ∧ X'.2.1 10 6 = nI (sk isLt B n m i) ∧ X'.2.1 10 5 = X.2.1 10 5 ∧ X'.2.1 10 7 = X.2.1 10 7
  | m, i, c, 0, _, _, _, _, _, _, h => by omega
  | 0, i, c, f + 1, X, hB, h5, hi, hm, hc, _ => by
    have hX := hB.1
    have hn := hB.2.2.1
    refine ⟨X, ?_, frK.rf X, h5, rfl, rfl⟩
    by_cases cc : (160 : Int32) ≤ nI c
    · simp only [fX5_scanWord_L2, if_pos cc]
    · have e1 := x_byte hB (i := i) (by omega)
      have e2 : byB B n i = -1 := by unfold byB; rw [if_neg (by omega)]
      rw [e2] at e1
      simp only [fX5_scanWord_L2, if_neg cc, zokX_0, zokX_1, zokX_2, zokX_3, zokX_4, zokX_5, zokX_6, zokX_7, zokX_8, zokX_9, zokX_10, zokX_11, zokX_12, zokX_13, zokX_14, zokX_15, zokX_16, zlaX_1, zlaX_2, zlaX_3, zlaX_4, zlaX_5, zlaX_6, zlaX_8, zlaX_11, zlaX_12, zlaX_13, zlaX_15, zlaX_16, zp_1, zp_h, zp_r, zp_l, zletE, obs, spXe_0, spXe_1, spXe_2, spXe_3, spXe_4, spXe_5, spXe_6, spXe_7, spXe_8, spXe_9, spXe_10, spXe_11, spXe_12, spXe_13, spXe_14, spXe_15, spXe_16, hX.1, h5, e1, x_lt, isLt_m1, Bool.false_eq_true, if_false, if_true]
  | m + 1, i, c, f + 1, X, hB, h5, hi, hm, hc, hf => by
    have hX := hB.1
    have hn := hB.2.2.1
    have cc : ¬ (160 : Int32) ≤ nI c := nI_ge (b := 160) (by omega) (by decide)
    have e1 := x_byte hB (i := i) (by omega)
    rw [sk]
    cases hb : isLt (byB B n i) with
    | false =>
      refine ⟨X, ?_, frK.rf X, by rw [if_neg (by decide)]; exact h5, rfl, rfl⟩
      simp only [fX5_scanWord_L2, if_neg cc, zokX_0, zokX_1, zokX_2, zokX_3, zokX_4, zokX_5, zokX_6, zokX_7, zokX_8, zokX_9, zokX_10, zokX_11, zokX_12, zokX_13, zokX_14, zokX_15, zokX_16, zlaX_1, zlaX_2, zlaX_3, zlaX_4, zlaX_5, zlaX_6, zlaX_8, zlaX_11, zlaX_12, zlaX_13, zlaX_15, zlaX_16, zp_1, zp_h, zp_r, zp_l, zletE, obs, spXe_0, spXe_1, spXe_2, spXe_3, spXe_4, spXe_5, spXe_6, spXe_7, spXe_8, spXe_9, spXe_10, spXe_11, spXe_12, spXe_13, spXe_14, spXe_15, spXe_16, hX.1, h5, e1, x_lt, hb, Bool.false_eq_true, if_false, if_true]
    | true =>
      have hin : i < n := by
        refine byB_in (B := B) (fun q => ?_)
        rw [q, isLt_m1] at hb
        cases hb
      have g : frK X (zp X 10 6 (nI (i + 1))) := (frK.rf X).zp (by decide) _
      obtain ⟨X', y1, y2, y3, y4, y5⟩ := x_skW m (i + 1) (c + 1) f (zp X 10 6 (nI (i + 1))) (hB.fr g) (by simp [zp_h]) (by omega) (by omega) (by omega) (by omega)
      refine ⟨X', ?_, g.tr y2, by rw [if_pos rfl]; exact y3, y4.trans (by simp [zp_h]), y5.trans (by simp [zp_h])⟩
      simp only [fX5_scanWord_L2, if_neg cc, zokX_0, zokX_1, zokX_2, zokX_3, zokX_4, zokX_5, zokX_6, zokX_7, zokX_8, zokX_9, zokX_10, zokX_11, zokX_12, zokX_13, zokX_14, zokX_15, zokX_16, zlaX_1, zlaX_2, zlaX_3, zlaX_4, zlaX_5, zlaX_6, zlaX_8, zlaX_11, zlaX_12, zlaX_13, zlaX_15, zlaX_16, zp_1, zp_h, zp_r, zp_l, zletE, obs, spXe_0, spXe_1, spXe_2, spXe_3, spXe_4, spXe_5, spXe_6, spXe_7, spXe_8, spXe_9, spXe_10, spXe_11, spXe_12, spXe_13, spXe_14, spXe_15, spXe_16, hX.1, h5, e1, x_lt, hb, if_true, if_neg n10, nI_1]
      exact y1
theorem x_skN {B : Nat → Int32} {n : Nat} : ∀ (m i c f : Nat) (X : zS), ByX B n X → X.2.1 10 6 = nI i → i ≤ n + 1 → n - i ≤ m → c + m ≤ 160 → m < f → ∃ X', fX5_scanNumber_L2 10 f (nI c) X = fX5_scanNumber_j39 10 X' ∧ frK X X' ∧ X'.2.1 10 6 = nI (sk isDg B n m i) ∧ X'.2.1 10 5 = X.2.1 10 5 ∧ X'.2.1 10 7 = X.2.1 10 7
  | m, i, c, 0, _, _, _, _, _, _, h => by omega
  | 0, i, c, f + 1, X, hB, h5, hi, hm, hc, _ => by
    have hX := hB.1
    have hn := hB.2.2.1
    refine ⟨X, ?_, frK.rf X, h5, rfl, rfl⟩
    by_cases cc : (160 : Int32) ≤ nI c
    · simp only [fX5_scanNumber_L2, if_pos cc]
    · have e1 := x_byte hB (i := i) (by omega)
      have e2 : byB B n i = -1 := by unfold byB; rw [if_neg (by omega)]
      rw [e2] at e1
      simp only [fX5_scanNumber_L2, if_neg cc, zokX_0, zokX_1, zokX_2, zokX_3, zokX_4, zokX_5, zokX_6, zokX_7, zokX_8, zokX_9, zokX_10, zokX_11, zokX_12, zokX_13, zokX_14, zokX_15, zokX_16, zlaX_1, zlaX_2, zlaX_3, zlaX_4, zlaX_5, zlaX_6, zlaX_8, zlaX_11, zlaX_12, zlaX_13, zlaX_15, zlaX_16, zp_1, zp_h, zp_r, zp_l, zletE, obs, spXe_0, spXe_1, spXe_2, spXe_3, spXe_4, spXe_5, spXe_6, spXe_7, spXe_8, spXe_9, spXe_10, spXe_11, spXe_12, spXe_13, spXe_14, spXe_15, spXe_16, hX.1, h5, e1, x_dg, isDg_m1, Bool.false_eq_true, if_false, if_true]
  | m + 1, i, c, f + 1, X, hB, h5, hi, hm, hc, hf => by
    have hX := hB.1
    have hn := hB.2.2.1
    have cc : ¬ (160 : Int32) ≤ nI c := nI_ge (b := 160) (by omega) (by decide)
    have e1 := x_byte hB (i := i) (by omega)
    rw [sk]
    cases hb : isDg (byB B n i) with
    | false =>
      refine ⟨X, ?_, frK.rf X, by rw [if_neg (by decide)]; exact h5, rfl, rfl⟩
      simp only [fX5_scanNumber_L2, if_neg cc, zokX_0, zokX_1, zokX_2, zokX_3, zokX_4, zokX_5, zokX_6, zokX_7, zokX_8, zokX_9, zokX_10, zokX_11, zokX_12, zokX_13, zokX_14, zokX_15, zokX_16, zlaX_1, zlaX_2, zlaX_3, zlaX_4, zlaX_5, zlaX_6, zlaX_8, zlaX_11, zlaX_12, zlaX_13, zlaX_15, zlaX_16, zp_1, zp_h, zp_r, zp_l, zletE, obs, spXe_0, spXe_1, spXe_2, spXe_3, spXe_4, spXe_5, spXe_6, spXe_7, spXe_8, spXe_9, spXe_10, spXe_11, spXe_12, spXe_13, spXe_14, spXe_15, spXe_16, hX.1, h5, e1, x_dg, hb, Bool.false_eq_true, if_false, if_true]
    | true =>
      have hin : i < n := by
        refine byB_in (B := B) (fun q => ?_)
        rw [q, isDg_m1] at hb
        cases hb
      have g : frK X (zp X 10 6 (nI (i + 1))) := (frK.rf X).zp (by decide) _
      obtain ⟨X', y1, y2, y3, y4, y5⟩ := x_skN m (i + 1) (c + 1) f (zp X 10 6 (nI (i + 1))) (hB.fr g) (by simp [zp_h]) (by omega) (by omega) (by omega) (by omega)
      refine ⟨X', ?_, g.tr y2, by rw [if_pos rfl]; exact y3, y4.trans (by simp [zp_h]), y5.trans (by simp [zp_h])⟩
      simp only [fX5_scanNumber_L2, if_neg cc, zokX_0, zokX_1, zokX_2, zokX_3, zokX_4, zokX_5, zokX_6, zokX_7, zokX_8, zokX_9, zokX_10, zokX_11, zokX_12, zokX_13, zokX_14, zokX_15, zokX_16, zlaX_1, zlaX_2, zlaX_3, zlaX_4, zlaX_5, zlaX_6, zlaX_8, zlaX_11, zlaX_12, zlaX_13, zlaX_15, zlaX_16, zp_1, zp_h, zp_r, zp_l, zletE, obs, spXe_0, spXe_1, spXe_2, spXe_3, spXe_4, spXe_5, spXe_6, spXe_7, spXe_8, spXe_9, spXe_10, spXe_11, spXe_12, spXe_13, spXe_14, spXe_15, spXe_16, hX.1, h5, e1, x_dg, hb, if_true, if_neg n10, nI_1]
      exact y1
/-- a word, letter by letter -/
theorem len_ok : ∀ j, j < 12 → Int32.ofNat (zLen.getD j 0) >>> ((0 : Int32) &&& 31) = nI (wd j).length ∧ zLen.getD j 0 = (wd j).length ∧ (wd j).length ≤ 6 := by decide +kernel
theorem chr_ok : ∀ j, j < 12 → ∀ k, k < 6 → (((((zByt.getD j []).getD k 0) &&& 255).toUInt32 % 65536).toInt32) = (wd j).getD k 0 := by decide +kernel
theorem drop_c {l : List Int32} {k : Nat} (h : k < l.length) : l.drop k = l.getD k 0 :: l.drop (k + 1) := by
  rw [List.drop_eq_getElem_cons h]
  congr 1
  simp [List.getD_eq_getElem?_getD, h]
theorem x_isW20 {B : Nat → Int32} {n : Nat} {X : zS} (hB : ByX B n X) {j s : Nat} (hj : j < 12) (h5 : X.2.1 10 5 = nI s) (hs : s ≤ 1000) : ∀ (m k f : Nat), k + m = (wd j).length → m < f → fX5_isWord_L20 10 f j (nI k) X = some (if alE B n ((wd j).drop k) (s + k) = true then 1 else 0, X)
  | m, k, 0, _, h => by omega
  | 0, k, f + 1, e, _ => by
    obtain ⟨l1, l2, l3⟩ := len_ok j hj
    have c : nI (wd j).length ≤ nI k := nI_le (by omega) (by omega)
    rw [List.drop_eq_nil_of_le (by omega)]
    simp only [fX5_isWord_L20, if_pos hj, fJ0_length_8abf5, l1, obs, if_pos c]
    rfl
  | m + 1, k, f + 1, e, hf => by
    obtain ⟨l1, l2, l3⟩ := len_ok j hj
    have hX := hB.1
    have c : ¬ nI (wd j).length ≤ nI k := nI_ge (by omega) (by omega)
    have ih := x_isW20 hB hj h5 hs m (k + 1) f (by omega) (by omega)
    have hsk : nI s + nI k = nI (s + k) := nI_add s k
    have eb := x_byte hB (i := s + k) (by omega)
    have k0 : ¬ nI k < 0 := nI_pos (by omega)
    have ck : (nI k).toNatClampNeg = k := nI_clamp (by omega)
    have hch : fJ0_charAt_5068e j (nI k) X = some ((wd j).getD k 0, X) := by
      unfold fJ0_charAt_5068e
      rw [ck, if_neg (fun q => by
        rcases q with q | q
        · exact k0 q
        · omega), chr_ok j hj k (by omega)]
    rw [drop_c (show k < (wd j).length by omega), alE]
    by_cases cc : byB B n (s + k) = (wd j).getD k 0
    · have b1 : (byB B n (s + k) == (wd j).getD k 0) = true := by rw [beq_iff_eq]; exact cc
      rw [b1, Bool.true_and]
      simp only [fX5_isWord_L20, if_pos hj, fJ0_length_8abf5, l1, zokX_0, zokX_1, zokX_2, zokX_3, zokX_4, zokX_5, zokX_6, zokX_7, zokX_8, zokX_9, zokX_10, zokX_11, zokX_12, zokX_13, zokX_14, zokX_15, zokX_16, zlaX_1, zlaX_2, zlaX_3, zlaX_4, zlaX_5, zlaX_6, zlaX_8, zlaX_11, zlaX_12, zlaX_13, zlaX_15, zlaX_16, zp_1, zp_h, zp_r, zp_l, zletE, obs, spXe_0, spXe_1, spXe_2, spXe_3, spXe_4, spXe_5, spXe_6, spXe_7, spXe_8, spXe_9, spXe_10, spXe_11, spXe_12, spXe_13, spXe_14, spXe_15, spXe_16, hX.1, if_neg c, h5, hsk, eb, hch, if_pos cc, nI_1, ih, Nat.add_assoc]
    · have b1 : (byB B n (s + k) == (wd j).getD k 0) = false := by rw [beq_eq_false_iff_ne]; exact cc
      rw [b1, Bool.false_and]
      simp only [fX5_isWord_L20, if_pos hj, fJ0_length_8abf5, l1, zokX_0, zokX_1, zokX_2, zokX_3, zokX_4, zokX_5, zokX_6, zokX_7, zokX_8, zokX_9, zokX_10, zokX_11, zokX_12, zokX_13, zokX_14, zokX_15, zokX_16, zlaX_1, zlaX_2, zlaX_3, zlaX_4, zlaX_5, zlaX_6, zlaX_8, zlaX_11, zlaX_12, zlaX_13, zlaX_15, zlaX_16, zp_1, zp_h, zp_r, zp_l, zletE, obs, spXe_0, spXe_1, spXe_2, spXe_3, spXe_4, spXe_5, spXe_6, spXe_7, spXe_8, spXe_9, spXe_10, spXe_11, spXe_12, spXe_13, spXe_14, spXe_15, spXe_16, hX.1, if_neg c, h5, hsk, eb, hch, if_neg cc, nI_1, Bool.false_eq_true, if_false]
theorem x_isW {B : Nat → Int32} {n : Nat} {X : zS} (hB : ByX B n X) {j s e : Nat} (hj : j < 12) (h5 : X.2.1 10 5 = nI s) (h6 : X.2.1 10 6 = nI e) (hs : s ≤ e) (he : e ≤ 1000) : fX5_isWord 10 j X = some (if mW B n (wd j) s e = true then 1 else 0, X) := by
  obtain ⟨l1, l2, l3⟩ := len_ok j hj
  have hX := hB.1
  have hes : nI e - nI s = nI (e - s) := pk_sub hs
  unfold mW
  by_cases c : e = s + (wd j).length
  · have c1 : nI (e - s) = nI (wd j).length := by rw [show e - s = (wd j).length by omega]
    have w := x_isW20 hB hj h5 (by omega) (wd j).length 0 zF (by omega) (by show (wd j).length < 5000; omega)
    have w' : fX5_isWord_L20 10 zF j 0 X = some (if alE B n (wd j) s = true then 1 else 0, X) := w
    rw [decide_eq_true c, Bool.true_and]
    simp only [fX5_isWord, zokX_0, zokX_1, zokX_2, zokX_3, zokX_4, zokX_5, zokX_6, zokX_7, zokX_8, zokX_9, zokX_10, zokX_11, zokX_12, zokX_13, zokX_14, zokX_15, zokX_16, zlaX_1, zlaX_2, zlaX_3, zlaX_4, zlaX_5, zlaX_6, zlaX_8, zlaX_11, zlaX_12, zlaX_13, zlaX_15, zlaX_16, zp_1, zp_h, zp_r, zp_l, zletE, obs, spXe_0, spXe_1, spXe_2, spXe_3, spXe_4, spXe_5, spXe_6, spXe_7, spXe_8, spXe_9, spXe_10, spXe_11, spXe_12, spXe_13, spXe_14, spXe_15, spXe_16, hX.1, if_pos hj, fJ0_length_8abf5, l1, h5, h6, hes, if_pos c1, w']
  · have c1 : ¬ nI (e - s) = nI (wd j).length := kne (by omega) (by omega) (by omega)
    rw [decide_eq_false c, Bool.false_and]
    simp only [fX5_isWord, zokX_0, zokX_1, zokX_2, zokX_3, zokX_4, zokX_5, zokX_6, zokX_7, zokX_8, zokX_9, zokX_10, zokX_11, zokX_12, zokX_13, zokX_14, zokX_15, zokX_16, zlaX_1, zlaX_2, zlaX_3, zlaX_4, zlaX_5, zlaX_6, zlaX_8, zlaX_11, zlaX_12, zlaX_13, zlaX_15, zlaX_16, zp_1, zp_h, zp_r, zp_l, zletE, obs, spXe_0, spXe_1, spXe_2, spXe_3, spXe_4, spXe_5, spXe_6, spXe_7, spXe_8, spXe_9, spXe_10, spXe_11, spXe_12, spXe_13, spXe_14, spXe_15, spXe_16, hX.1, if_pos hj, fJ0_length_8abf5, l1, h5, h6, hes, if_neg c1, Bool.false_eq_true, if_false]
theorem x_word39 {B : Nat → Int32} {n : Nat} {X : zS} (hB : ByX B n X) {s e : Nat} (h5 : X.2.1 10 5 = nI s) (h6 : X.2.1 10 6 = nI e) (hs : s ≤ e) (he : e ≤ 1000) : fX5_scanWord_j39 10 X = some (wdC B n s e, X) := by
  have hX := hB.1
  have w := fun j hj => x_isW hB (j := j) hj h5 h6 hs he
  unfold wdC
  simp only [fX5_scanWord_j39, zokX_0, zokX_1, zokX_2, zokX_3, zokX_4, zokX_5, zokX_6, zokX_7, zokX_8, zokX_9, zokX_10, zokX_11, zokX_12, zokX_13, zokX_14, zokX_15, zokX_16, zlaX_1, zlaX_2, zlaX_3, zlaX_4, zlaX_5, zlaX_6, zlaX_8, zlaX_11, zlaX_12, zlaX_13, zlaX_15, zlaX_16, zp_1, zp_h, zp_r, zp_l, zletE, obs, spXe_0, spXe_1, spXe_2, spXe_3, spXe_4, spXe_5, spXe_6, spXe_7, spXe_8, spXe_9, spXe_10, spXe_11, spXe_12, spXe_13, spXe_14, spXe_15, spXe_16, hX.1, w 0 (by decide), w 1 (by decide), w 2 (by decide), w 3 (by decide), w 4 (by decide), w 5 (by decide), w 6 (by decide), w 7 (by decide), w 8 (by decide), w 9 (by decide), w 10 (by decide), w 11 (by decide), b1z]
  cases mW B n (wd 0) s e with
  | true => rfl
  | false =>
    cases mW B n (wd 1) s e with
    | true => rfl
    | false =>
      cases mW B n (wd 2) s e with
      | true => rfl
      | false =>
        cases mW B n (wd 3) s e with
        | true => rfl
        | false =>
          cases mW B n (wd 4) s e with
          | true => rfl
          | false =>
            cases mW B n (wd 5) s e with
            | true => rfl
            | false =>
              cases mW B n (wd 6) s e with
              | true => rfl
              | false =>
                cases mW B n (wd 7) s e with
                | true => rfl
                | false =>
                  cases mW B n (wd 8) s e with
                  | true => rfl
                  | false =>
                    cases mW B n (wd 9) s e with
                    | true => rfl
                    | false =>
                      cases mW B n (wd 10) s e with
                      | true => rfl
                      | false =>
                        cases mW B n (wd 11) s e with
                        | true => rfl
                        | false =>
                          rfl
/-- a number's worth -/
theorem x_num60 {B : Nat → Int32} {n : Nat} {e : Nat} (he : e ≤ 1000) : ∀ (m s acc f : Nat) (X : zS), ByX B n X → X.2.1 10 6 = nI e → X.2.1 10 7 = nI acc → s + m = e → (∀ j, s ≤ j → j < e → isDg (byB B n j) = true) → m < f → ∃ X', fX5_scanNumber_L60 10 f (nI s) X = some (7, X') ∧ frK X X' ∧ X'.2.1 10 7 = nI (vlF B n m s acc) ∧ X'.2.1 10 5 = X.2.1 10 5 ∧ X'.2.1 10 6 = X.2.1 10 6
  | m, s, acc, 0, _, _, _, _, _, _, h => by omega
  | 0, s, acc, f + 1, X, hB, h6, h7, hm, hd, _ => by
    have hX := hB.1
    have c : nI e ≤ nI s := nI_le (by omega) (by omega)
    refine ⟨X, ?_, frK.rf X, h7, rfl, rfl⟩
    simp only [fX5_scanNumber_L60, zokX_0, zokX_1, zokX_2, zokX_3, zokX_4, zokX_5, zokX_6, zokX_7, zokX_8, zokX_9, zokX_10, zokX_11, zokX_12, zokX_13, zokX_14, zokX_15, zokX_16, zlaX_1, zlaX_2, zlaX_3, zlaX_4, zlaX_5, zlaX_6, zlaX_8, zlaX_11, zlaX_12, zlaX_13, zlaX_15, zlaX_16, zp_1, zp_h, zp_r, zp_l, zletE, obs, spXe_0, spXe_1, spXe_2, spXe_3, spXe_4, spXe_5, spXe_6, spXe_7, spXe_8, spXe_9, spXe_10, spXe_11, spXe_12, spXe_13, spXe_14, spXe_15, spXe_16, hX.1, h6, if_pos c]
  | m + 1, s, acc, f + 1, X, hB, h6, h7, hm, hd, hf => by
    have hX := hB.1
    have c : ¬ nI e ≤ nI s := nI_ge (by omega) (by omega)
    have eb := x_byte hB (i := s) (by omega)
    obtain ⟨j, j1, j2, ej⟩ := isDg_r (hd s (Nat.le_refl _) (by omega))
    have hv : nI acc * (10 : Int32) + byB B n s - (48 : Int32) = nI (acc * 10 + dgN (byB B n s)) := by
      have hdn : dgN (byB B n s) = j - 48 := by unfold dgN; rw [ej, nI_clamp (by omega)]
      rw [hdn, ej]
      show nI acc * nI 10 + nI j - nI 48 = _
      rw [pk_mul, nI_add, pk_sub (by omega), show acc * 10 + j - 48 = acc * 10 + (j - 48) by omega]
    have g : frK X (zp X 10 7 (nI (acc * 10 + dgN (byB B n s)))) := (frK.rf X).zp (by decide) _
    obtain ⟨X', y1, y2, y3, y4, y5⟩ := x_num60 he m (s + 1) (acc * 10 + dgN (byB B n s)) f (zp X 10 7 (nI (acc * 10 + dgN (byB B n s)))) (hB.fr g) (by simp [zp_h, h6]) (by simp [zp_h]) (by omega) (fun j h1 h2 => hd j (by omega) h2) (by omega)
    refine ⟨X', ?_, g.tr y2, y3, y4.trans (by simp [zp_h]), y5.trans (by simp [zp_h])⟩
    simp only [fX5_scanNumber_L60, zokX_0, zokX_1, zokX_2, zokX_3, zokX_4, zokX_5, zokX_6, zokX_7, zokX_8, zokX_9, zokX_10, zokX_11, zokX_12, zokX_13, zokX_14, zokX_15, zokX_16, zlaX_1, zlaX_2, zlaX_3, zlaX_4, zlaX_5, zlaX_6, zlaX_8, zlaX_11, zlaX_12, zlaX_13, zlaX_15, zlaX_16, zp_1, zp_h, zp_r, zp_l, zletE, obs, spXe_0, spXe_1, spXe_2, spXe_3, spXe_4, spXe_5, spXe_6, spXe_7, spXe_8, spXe_9, spXe_10, spXe_11, spXe_12, spXe_13, spXe_14, spXe_15, spXe_16, hX.1, h6, if_neg c, eb, h7, hv, nI_1]
    exact y1
theorem x_scanOne {B : Nat → Int32} {n p : Nat} {X : zS} (hB : ByX B n X) (h6 : X.2.1 10 6 = nI p) (hp : p ≤ n) : ∃ X', fX5_scanOne 10 X = some (tkC B n p, X') ∧ frK X X' ∧ X'.2.1 10 5 = nI (tkS B n p) ∧ X'.2.1 10 6 = nI (tkE B n p) ∧ X'.2.1 10 7 = nI (tkV B n p) := by
  have hn := hB.2.2.1
  have hX := hB.1
  have g0 : frK X (zp X 10 5 (nI p)) := (frK.rf X).zp (by decide) _
  obtain ⟨X1, a1, a2, a3⟩ := x_skB (n - p) p 0 zF (zp X 10 5 (nI p)) (hB.fr g0) (by simp [zp_h]) hp (Nat.le_refl _) (by omega) (by show n - p < 5000; omega)
  have a3 : X1.2.1 10 5 = nI (tkS B n p) := a3
  have a1 : fX5_scanOne_L10 10 zF 0 (zp X 10 5 (nI p)) = fX5_scanOne_j47 10 X1 := a1
  have hs := tkS_le B hp
  have hB1 := hB.fr (g0.tr a2)
  have hX1 := hB1.1
  have eb := x_byte hB1 (i := tkS B n p) (by omega)
  have e0 : fX5_scanOne 10 X = fX5_scanOne_j47 10 X1 := by
    simp only [fX5_scanOne, zokX_0, zokX_1, zokX_2, zokX_3, zokX_4, zokX_5, zokX_6, zokX_7, zokX_8, zokX_9, zokX_10, zokX_11, zokX_12, zokX_13, zokX_14, zokX_15, zokX_16, zlaX_1, zlaX_2, zlaX_3, zlaX_4, zlaX_5, zlaX_6, zlaX_8, zlaX_11, zlaX_12, zlaX_13, zlaX_15, zlaX_16, zp_1, zp_h, zp_r, zp_l, zletE, obs, spXe_0, spXe_1, spXe_2, spXe_3, spXe_4, spXe_5, spXe_6, spXe_7, spXe_8, spXe_9, spXe_10, spXe_11, spXe_12, spXe_13, spXe_14, spXe_15, spXe_16, hX.1, h6]
    exact a1
  rw [e0]
  let X2 := zp (zp X1 10 6 (nI (tkS B n p + 1))) 10 7 0
  have g2 : frK X1 X2 := ((frK.rf X1).zp (k := 6) (by decide) _).zp (k := 7) (by decide) _
  have hB2 := hB1.fr g2
  have f2 : frK X X2 := (g0.tr a2).tr g2
  have k5 : X2.2.1 10 5 = nI (tkS B n p) := by simp [X2, zp_h, a3]
  have k6 : X2.2.1 10 6 = nI (tkS B n p + 1) := by simp [X2, zp_h]
  have k7 : X2.2.1 10 7 = nI 0 := by simp [X2, zp_h, nI_0]
  have e1 : fX5_scanOne_j47 10 X1 = (if byB B n (tkS B n p) = -1 then some ((8 : Int32), X2) else (fX5_isLetter (byB B n (tkS B n p)) X2).bind fun q9 => if q9.1 = 0 then ((fX5_isDigit (byB B n (tkS B n p)) q9.2).bind fun q10 => if q10.1 = 0 then ((fX5_isSign (byB B n (tkS B n p)) q10.2).bind fun q11 => if q11.1 = 0 then (some ((9 : Int32), q11.2)) else (some (byB B n (tkS B n p), q11.2))) else ((zok spX q10.2 (some 10) 5).bind fun o13 => (fX5_scanNumber o13 q10.2).bind fun q12 => some (q12.1, q12.2))) else ((zok spX q9.2 (some 10) 5).bind fun o15 => (fX5_scanWord o15 q9.2).bind fun q14 => some (q14.1, q14.2))) := by
    simp only [fX5_scanOne_j47, zokX_0, zokX_1, zokX_2, zokX_3, zokX_4, zokX_5, zokX_6, zokX_7, zokX_8, zokX_9, zokX_10, zokX_11, zokX_12, zokX_13, zokX_14, zokX_15, zokX_16, zlaX_1, zlaX_2, zlaX_3, zlaX_4, zlaX_5, zlaX_6, zlaX_8, zlaX_11, zlaX_12, zlaX_13, zlaX_15, zlaX_16, zp_1, zp_h, zp_r, zp_l, zletE, obs, spXe_0, spXe_1, spXe_2, spXe_3, spXe_4, spXe_5, spXe_6, spXe_7, spXe_8, spXe_9, spXe_10, spXe_11, spXe_12, spXe_13, spXe_14, spXe_15, spXe_16, hX1.1, a3, eb, nI_1]
    rfl
  rw [e1]
  have hX2n : X2.1 = 59 := hB2.1.1
  unfold tkC tkV tkE
  by_cases c1 : byB B n (tkS B n p) = -1
  · rw [if_pos c1, if_pos c1, c1, isLt_m1, isDg_m1]
    exact ⟨X2, rfl, f2, k5, k6, k7⟩
  · rw [if_neg c1, if_neg c1, x_lt, obs]
    have hin := byB_in c1
    cases hl : isLt (byB B n (tkS B n p)) with
    | true =>
      obtain ⟨X3, b1, b2, b3, b4, b5⟩ := x_skW (n - (tkS B n p + 1)) (tkS B n p + 1) 0 zF X2 hB2 k6 (by omega) (Nat.le_refl _) (by omega) (by show n - (tkS B n p + 1) < 5000; omega)
      have b1 : fX5_scanWord 10 X2 = fX5_scanWord_j39 10 X3 := b1
      have b3 : X3.2.1 10 6 = nI (skp isLt B n (tkS B n p + 1)) := b3
      have hge := skp_ge isLt B n (tkS B n p + 1)
      have hle := skp_le isLt B (n := n) (i := tkS B n p + 1) (by omega)
      have w := x_word39 (hB2.fr b2) (b4.trans k5) b3 (by omega) (by omega)
      refine ⟨X3, ?_, f2.tr b2, b4.trans k5, b3, b5.trans k7⟩
      simp only [if_true, if_neg n10, zokX_10 hX2n, obs, b1, w]
    | false =>
      simp only [Bool.false_eq_true, if_false, if_true, x_dg, obs]
      cases hd : isDg (byB B n (tkS B n p)) with
      | true =>
        obtain ⟨X3, b1, b2, b3, b4, b5⟩ := x_skN (n - (tkS B n p + 1)) (tkS B n p + 1) 0 zF X2 hB2 k6 (by omega) (Nat.le_refl _) (by omega) (by show n - (tkS B n p + 1) < 5000; omega)
        have b1 : fX5_scanNumber 10 X2 = fX5_scanNumber_j39 10 X3 := b1
        have b3 : X3.2.1 10 6 = nI (skp isDg B n (tkS B n p + 1)) := b3
        have hge := skp_ge isDg B n (tkS B n p + 1)
        have hle := skp_le isDg B (n := n) (i := tkS B n p + 1) (by omega)
        have hB3 := hB2.fr b2
        have hX3n := hB3.1.1
        have c5 : X3.2.1 10 5 = nI (tkS B n p) := b4.trans k5
        have hsub : nI (skp isDg B n (tkS B n p + 1)) - nI (tkS B n p) = nI (skp isDg B n (tkS B n p + 1) - tkS B n p) := pk_sub (by omega)
        simp only [if_true, if_neg n10, zokX_10 hX2n, obs, b1]
        by_cases c4 : skp isDg B n (tkS B n p + 1) - tkS B n p ≤ 4
        · have c4' : nI (skp isDg B n (tkS B n p + 1) - tkS B n p) ≤ 4 := nI_le (b := 4) c4 (by decide)
          have alld : ∀ j, tkS B n p ≤ j → j < skp isDg B n (tkS B n p + 1) → isDg (byB B n j) = true := fun j h1 h2 => by
            by_cases ee : j = tkS B n p
            · rw [ee]; exact hd
            · exact sk_in B n _ (tkS B n p + 1) j (by omega) h2
          obtain ⟨X4, d1, d2, d3, d4, d5⟩ := x_num60 (e := skp isDg B n (tkS B n p + 1)) (by omega) (skp isDg B n (tkS B n p + 1) - tkS B n p) (tkS B n p) 0 zF X3 hB3 b3 (b5.trans k7) (by omega) alld (by show skp isDg B n (tkS B n p + 1) - tkS B n p < 5000; omega)
          refine ⟨X4, ?_, (f2.tr b2).tr d2, d4.trans c5, d5.trans b3, ?_⟩
          · simp only [fX5_scanNumber_j39, zokX_10 hX3n, obs, zletE, b3, c5, hsub, if_pos c4', d1, if_pos c4]
          · rw [if_pos c4]; exact d3
        · have c4' : ¬ nI (skp isDg B n (tkS B n p + 1) - tkS B n p) ≤ 4 := nI_ge (a := 4) (by omega) (by omega)
          refine ⟨X3, ?_, f2.tr b2, c5, b3, ?_⟩
          · simp only [fX5_scanNumber_j39, zokX_10 hX3n, obs, b3, c5, hsub, if_neg c4', if_neg c4]
          · rw [if_neg c4]; exact b5.trans k7
      | false =>
        simp only [Bool.false_eq_true, if_false, if_true, x_sg, obs]
        cases hg : isSg (byB B n (tkS B n p)) with
        | true => exact ⟨X2, by simp only [if_true, if_neg n10], f2, k5, k6, k7⟩
        | false => exact ⟨X2, by simp only [Bool.false_eq_true, if_false, if_true], f2, k5, k6, k7⟩
