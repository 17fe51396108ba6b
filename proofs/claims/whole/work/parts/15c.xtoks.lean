/-- the TOKENS up to i stand in the rows -/
def TkX (B : Nat → Int32) (n : Nat) (X : zS) (i : Nat) : Prop := X.2.1 11 i = tC B n i ∧ X.2.1 12 i = nI (tkS B n (psT B n i)) ∧ X.2.1 13 i = nI (tkV B n (psT B n i))
/-- alike but for the TOKENS -/
def frL (X X' : zS) : Prop := X'.1 = X.1 ∧ X'.2.2.2 = X.2.2.2 ∧ ∀ o k, (o = 10 ∧ 4 ≤ k ∧ k ≤ 7) ∨ o = 11 ∨ o = 12 ∨ o = 13 ∨ X'.2.1 o k = X.2.1 o k
theorem frL.tr {X Y Z : zS} (h : frL X Y) (g : frL Y Z) : frL X Z := ⟨g.1.trans h.1, g.2.1.trans h.2.1, fun o k => by
  rcases h.2.2 o k with a | a | a | a | a
  · exact Or.inl a
  · exact Or.inr (Or.inl a)
  · exact Or.inr (Or.inr (Or.inl a))
  · exact Or.inr (Or.inr (Or.inr (Or.inl a)))
  · rcases g.2.2 o k with b | b | b | b | b
    · exact Or.inl b
    · exact Or.inr (Or.inl b)
    · exact Or.inr (Or.inr (Or.inl b))
    · exact Or.inr (Or.inr (Or.inr (Or.inl b)))
    · exact Or.inr (Or.inr (Or.inr (Or.inr (b.trans a))))⟩
theorem frK.l {X X' : zS} (h : frK X X') : frL X X' := ⟨h.1, h.2.1, fun o k => by
  rcases h.2.2 o k with a | a
  · exact Or.inl ⟨a.1, by omega, a.2.2⟩
  · exact Or.inr (Or.inr (Or.inr (Or.inr a)))⟩
theorem x_scanL {B : Nat → Int32} {n : Nat} : ∀ (m i f : Nat) (y2 : Int32) (X : zS), i + m = 161 → m < f → ByX B n X → X.2.1 10 6 = nI (psT B n i) → vt B n i → ¬ y2 = 8 → ¬ y2 = 9 → (∀ j, j < i → TkX B n X j) → ∃ X', fX5_scan_L15 10 f y2 (nI i) X = some ((), X') ∧ frL X X' ∧ X'.2.1 10 4 = nI n ∧ ∀ j, vt B n j → TkX B n X' j
  | m, i, 0, _, _, _, h, _, _, _, _, _, _ => by omega
  | 0, i, f + 1, y2, X, e, _, hB, _, hv, _, _, _ => by
    have := vt_le hv
    have := hB.2.2.1
    omega
  | m + 1, i, f + 1, y2, X, e, hf, hB, h6, hv, y8, y9, ht => by
    have hX := hB.1
    have hn := hB.2.2.1
    have hps := vt_ps i hv
    have c : ¬ Int32.ofNat 161 ≤ nI i := nI_ge (b := 161) (by omega) (by decide)
    have r1 : X.2.2.2 10 1 = some 11 := hX.r (by decide) (by decide) (by decide) (by decide)
    obtain ⟨X1, a1, a2, a5, a6, a7⟩ := x_scanOne hB h6 hps.2
    have hB1 := hB.fr a2
    have hX1 := hB1.1
    have q1 : X1.2.2.2 10 1 = some 11 := hX1.r (by decide) (by decide) (by decide) (by decide)
    have q2 : X1.2.2.2 10 2 = some 12 := hX1.r (by decide) (by decide) (by decide) (by decide)
    have q3 : X1.2.2.2 10 3 = some 13 := hX1.r (by decide) (by decide) (by decide) (by decide)
    have z1 : zix spX 11 (nI i) = some i := zix_of rfl (by show i < 161; omega) (by decide)
    have z2 : zix spX 12 (nI i) = some i := zix_of rfl (by show i < 161; omega) (by decide)
    have z3 : zix spX 13 (nI i) = some i := zix_of rfl (by show i < 161; omega) (by decide)
    let X2 := zp (zp (zp X1 11 i (tC B n i)) 12 i (nI (tkS B n (psT B n i)))) 13 i (nI (tkV B n (psT B n i)))
    have hX2n : X2.1 = 59 := hX1.1
    have f2 : frL X1 X2 := ⟨rfl, rfl, fun o k => by
      by_cases e1 : o = 11
      · exact Or.inr (Or.inl e1)
      · by_cases e2 : o = 12
        · exact Or.inr (Or.inr (Or.inl e2))
        · by_cases e3 : o = 13
          · exact Or.inr (Or.inr (Or.inr (Or.inl e3)))
          · refine Or.inr (Or.inr (Or.inr (Or.inr ?_)))
            show (zp (zp (zp X1 11 i (tC B n i)) 12 i (nI (tkS B n (psT B n i)))) 13 i (nI (tkV B n (psT B n i)))).2.1 o k = _
            rw [zp_h, if_neg (by omega), zp_h, if_neg (by omega), zp_h, if_neg (by omega)]⟩
    have o10 : ∀ o k, o < 11 → X2.2.1 o k = X1.2.1 o k := fun o k ho => by
      show (zp (zp (zp X1 11 i (tC B n i)) 12 i (nI (tkS B n (psT B n i)))) 13 i (nI (tkV B n (psT B n i)))).2.1 o k = _
      rw [zp_h, if_neg (by omega), zp_h, if_neg (by omega), zp_h, if_neg (by omega)]
    have hB2 : ByX B n X2 := ⟨hX1, (o10 _ _ (by decide)).trans hB1.2.1, hn, fun j hj => (o10 _ _ (by decide)).trans (hB1.2.2.2 j hj)⟩
    have ht2 : ∀ j, j < i + 1 → TkX B n X2 j := fun j hj => by
      unfold TkX
      show (zp (zp (zp X1 11 i (tC B n i)) 12 i (nI (tkS B n (psT B n i)))) 13 i (nI (tkV B n (psT B n i)))).2.1 11 j = _ ∧ (zp (zp (zp X1 11 i (tC B n i)) 12 i (nI (tkS B n (psT B n i)))) 13 i (nI (tkV B n (psT B n i)))).2.1 12 j = _ ∧ (zp (zp (zp X1 11 i (tC B n i)) 12 i (nI (tkS B n (psT B n i)))) 13 i (nI (tkV B n (psT B n i)))).2.1 13 j = _
      by_cases e : j = i
      · subst e
        refine ⟨?_, ?_, ?_⟩ <;> simp [zp_h]
      · have h1 : ∀ o, X1.2.1 o j = X.2.1 o j ∨ o = 10 := fun o => by
          by_cases eo : o = 10
          · exact Or.inr eo
          · exact Or.inl (a2.at (Or.inl eo))
        obtain ⟨t1, t2, t3⟩ := ht j (by omega)
        refine ⟨?_, ?_, ?_⟩
        · rw [zp_h, if_neg (by omega), zp_h, if_neg (by omega), zp_h, if_neg (by omega), a2.at (Or.inl (by decide))]; exact t1
        · rw [zp_h, if_neg (by omega), zp_h, if_neg (by omega), zp_h, if_neg (by omega), a2.at (Or.inl (by decide))]; exact t2
        · rw [zp_h, if_neg (by omega), zp_h, if_neg (by omega), zp_h, if_neg (by omega), a2.at (Or.inl (by decide))]; exact t3
    have step : fX5_scan_L15 10 (f + 1) y2 (nI i) X = fX5_scan_L15 10 f (tC B n i) (nI (i + 1)) X2 := by
      rw [fX5_scan_L15]
      simp only [zokX_0, zokX_1, zokX_2, zokX_3, zokX_4, zokX_5, zokX_6, zokX_7, zokX_8, zokX_9, zokX_10, zokX_11, zokX_12, zokX_13, zokX_14, zokX_15, zokX_16, zlaX_1, zlaX_2, zlaX_3, zlaX_4, zlaX_5, zlaX_6, zlaX_8, zlaX_11, zlaX_12, zlaX_13, zlaX_15, zlaX_16, zp_1, zp_h, zp_r, zp_l, zletE, obs, spXe_0, spXe_1, spXe_2, spXe_3, spXe_4, spXe_5, spXe_6, spXe_7, spXe_8, spXe_9, spXe_10, spXe_11, spXe_12, spXe_13, spXe_14, spXe_15, spXe_16, hX.1, hX1.1, r1, c, if_false, if_neg y8, if_neg y9, a1, q1, q2, q3, z1, z2, z3, a5, a7, Nat.reduceEqDiff, false_and, nI_1]
      rfl
    rw [step]
    by_cases c8 : tC B n i = 8
    · have hlast : ∀ j, vt B n j → j < i + 1 := fun j hj => by
        rcases Nat.lt_or_ge j (i + 1) with w | w
        · exact w
        · exact absurd c8 (hj i (by omega)).1
      refine ⟨X2, ?_, a2.l.tr f2, hB2.2.1, fun j hj => ht2 j (hlast j hj)⟩
      obtain ⟨f', rfl⟩ : ∃ f', f = f' + 1 := ⟨f - 1, by omega⟩
      have r1' : X2.2.2.2 10 1 = some 11 := q1
      rw [fX5_scan_L15]
      by_cases cc : Int32.ofNat 161 ≤ nI (i + 1)
      · simp only [zokX_0, zokX_1, zokX_2, zokX_3, zokX_4, zokX_5, zokX_6, zokX_7, zokX_8, zokX_9, zokX_10, zokX_11, zokX_12, zokX_13, zokX_14, zokX_15, zokX_16, zlaX_1, zlaX_2, zlaX_3, zlaX_4, zlaX_5, zlaX_6, zlaX_8, zlaX_11, zlaX_12, zlaX_13, zlaX_15, zlaX_16, zp_1, zp_h, zp_r, zp_l, zletE, obs, spXe_0, spXe_1, spXe_2, spXe_3, spXe_4, spXe_5, spXe_6, spXe_7, spXe_8, spXe_9, spXe_10, spXe_11, spXe_12, spXe_13, spXe_14, spXe_15, spXe_16, hX2n, r1', cc, if_true]
      · simp only [zokX_0, zokX_1, zokX_2, zokX_3, zokX_4, zokX_5, zokX_6, zokX_7, zokX_8, zokX_9, zokX_10, zokX_11, zokX_12, zokX_13, zokX_14, zokX_15, zokX_16, zlaX_1, zlaX_2, zlaX_3, zlaX_4, zlaX_5, zlaX_6, zlaX_8, zlaX_11, zlaX_12, zlaX_13, zlaX_15, zlaX_16, zp_1, zp_h, zp_r, zp_l, zletE, obs, spXe_0, spXe_1, spXe_2, spXe_3, spXe_4, spXe_5, spXe_6, spXe_7, spXe_8, spXe_9, spXe_10, spXe_11, spXe_12, spXe_13, spXe_14, spXe_15, spXe_16, hX2n, r1', cc, if_false, c8, if_true]
    · by_cases c9 : tC B n i = 9
      · have hlast : ∀ j, vt B n j → j < i + 1 := fun j hj => by
          rcases Nat.lt_or_ge j (i + 1) with w | w
          · exact w
          · exact absurd c9 (hj i (by omega)).2
        refine ⟨X2, ?_, a2.l.tr f2, hB2.2.1, fun j hj => ht2 j (hlast j hj)⟩
        obtain ⟨f', rfl⟩ : ∃ f', f = f' + 1 := ⟨f - 1, by omega⟩
        have r1' : X2.2.2.2 10 1 = some 11 := q1
        rw [fX5_scan_L15]
        by_cases cc : Int32.ofNat 161 ≤ nI (i + 1)
        · simp only [zokX_0, zokX_1, zokX_2, zokX_3, zokX_4, zokX_5, zokX_6, zokX_7, zokX_8, zokX_9, zokX_10, zokX_11, zokX_12, zokX_13, zokX_14, zokX_15, zokX_16, zlaX_1, zlaX_2, zlaX_3, zlaX_4, zlaX_5, zlaX_6, zlaX_8, zlaX_11, zlaX_12, zlaX_13, zlaX_15, zlaX_16, zp_1, zp_h, zp_r, zp_l, zletE, obs, spXe_0, spXe_1, spXe_2, spXe_3, spXe_4, spXe_5, spXe_6, spXe_7, spXe_8, spXe_9, spXe_10, spXe_11, spXe_12, spXe_13, spXe_14, spXe_15, spXe_16, hX2n, r1', cc, if_true]
        · simp only [zokX_0, zokX_1, zokX_2, zokX_3, zokX_4, zokX_5, zokX_6, zokX_7, zokX_8, zokX_9, zokX_10, zokX_11, zokX_12, zokX_13, zokX_14, zokX_15, zokX_16, zlaX_1, zlaX_2, zlaX_3, zlaX_4, zlaX_5, zlaX_6, zlaX_8, zlaX_11, zlaX_12, zlaX_13, zlaX_15, zlaX_16, zp_1, zp_h, zp_r, zp_l, zletE, obs, spXe_0, spXe_1, spXe_2, spXe_3, spXe_4, spXe_5, spXe_6, spXe_7, spXe_8, spXe_9, spXe_10, spXe_11, spXe_12, spXe_13, spXe_14, spXe_15, spXe_16, hX2n, r1', cc, if_false, c9, if_true, if_neg (show ¬ (9 : Int32) = 8 by decide)]
      · obtain ⟨X', b1, b2, b3, b4⟩ := x_scanL m (i + 1) f (tC B n i) X2 (by omega) (by omega) hB2 ((o10 _ _ (by decide)).trans a6) (vt_s hv c8 c9) c8 c9 ht2
        exact ⟨X', b1, (a2.l.tr f2).tr b2, b3, b4⟩
theorem x_scan {B : Nat → Int32} {n : Nat} {X : zS} (hX : shX X) (hn : n ≤ 160) (hB : ∀ j, j < n → X.2.1 3 j = B j) : ∃ X', fX5_scan 10 (nI n) X = some ((), X') ∧ frL X X' ∧ X'.2.1 10 4 = nI n ∧ ∀ j, vt B n j → TkX B n X' j := by
  let X1 := zp (zp X 10 4 (nI n)) 10 6 0
  have hB1 : ByX B n X1 := ⟨hX, by simp [X1, zp_h], hn, fun j hj => by
    show (zp (zp X 10 4 (nI n)) 10 6 0).2.1 3 j = _
    rw [zp_h, if_neg (by omega), zp_h, if_neg (by omega)]
    exact hB j hj⟩
  obtain ⟨X', a1, a2, a3, a4⟩ := x_scanL 161 0 zF 7 X1 rfl (by decide) hB1 (by simp [X1, zp_h]; rfl) (vt_0 B n) (by decide) (by decide) (fun j h => absurd h (Nat.not_lt_zero _))
  have a1 : fX5_scan_L15 10 zF 7 0 (zp (zp X 10 4 (nI n)) 10 6 0) = some ((), X') := a1
  have f1 : frL X X1 := ⟨rfl, rfl, fun o k => by
    by_cases e : o = 10 ∧ 4 ≤ k ∧ k ≤ 7
    · exact Or.inl e
    · refine Or.inr (Or.inr (Or.inr (Or.inr ?_)))
      show (zp (zp X 10 4 (nI n)) 10 6 0).2.1 o k = _
      rw [zp_h, if_neg (by omega), zp_h, if_neg (by omega)]⟩
  refine ⟨X', ?_, f1.tr a2, a3, a4⟩
  simp only [fX5_scan, zokX_0, zokX_1, zokX_2, zokX_3, zokX_4, zokX_5, zokX_6, zokX_7, zokX_8, zokX_9, zokX_10, zokX_11, zokX_12, zokX_13, zokX_14, zokX_15, zokX_16, zlaX_1, zlaX_2, zlaX_3, zlaX_4, zlaX_5, zlaX_6, zlaX_8, zlaX_11, zlaX_12, zlaX_13, zlaX_15, zlaX_16, zp_1, zp_h, zp_r, zp_l, zletE, obs, spXe_0, spXe_1, spXe_2, spXe_3, spXe_4, spXe_5, spXe_6, spXe_7, spXe_8, spXe_9, spXe_10, spXe_11, spXe_12, spXe_13, spXe_14, spXe_15, spXe_16, hX.1]
  exact a1
