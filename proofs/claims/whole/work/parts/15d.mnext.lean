/-- the reference reads these bytes -/
def ByM (B : Nat → Int32) (n b : Nat) (M : zS) : Prop := shM M ∧ M.2.1 0 19 = nI b ∧ M.2.1 0 20 = nI n ∧ n ≤ 160 ∧ b + 160 ≤ 960 ∧ ∀ j, j < n → M.2.1 1 (b + j) = B j
/-- alike but for the TOKEN's own numbers -/
def frQ (M M' : zS) : Prop := M'.1 = M.1 ∧ M'.2.2.2 = M.2.2.2 ∧ ∀ o k, (o = 0 ∧ 21 ≤ k ∧ k ≤ 23) ∨ M'.2.1 o k = M.2.1 o k
theorem frQ.rf (M : zS) : frQ M M := ⟨rfl, rfl, fun _ _ => Or.inr rfl⟩
theorem frQ.tr {X Y Z : zS} (h : frQ X Y) (g : frQ Y Z) : frQ X Z := ⟨g.1.trans h.1, g.2.1.trans h.2.1, fun o k => by
  rcases h.2.2 o k with a | a
  · exact Or.inl a
  · rcases g.2.2 o k with b | b
    · exact Or.inl b
    · exact Or.inr (b.trans a)⟩
theorem frQ.zp {X Y : zS} (h : frQ X Y) {k : Nat} (hk : 21 ≤ k ∧ k ≤ 23) (v : Int32) : frQ X (zp Y 0 k v) := ⟨h.1, h.2.1, fun o j => by
  rcases h.2.2 o j with a | a
  · exact Or.inl a
  · by_cases e : o = 0 ∧ j = k
    · exact Or.inl ⟨e.1, by omega⟩
    · exact Or.inr (by rw [zp_h, if_neg e]; exact a)⟩
theorem frQ.zpl {X Y : zS} (h : frQ X Y) (o : Nat) (v : Int64) : frQ X (zpl Y o v) := h
theorem frQ.at {X X' : zS} (h : frQ X X') {o k : Nat} (h1 : o ≠ 0 ∨ k < 21 ∨ 23 < k) : X'.2.1 o k = X.2.1 o k := by
  rcases h.2.2 o k with a | a
  · omega
  · exact a
theorem ByM.fr {B : Nat → Int32} {n b : Nat} {M M' : zS} (h : ByM B n b M) (g : frQ M M') : ByM B n b M' := ⟨⟨g.1.trans h.1.1, fun o ho k hk => by rw [g.2.1]; exact h.1.2 o ho k hk⟩, (g.at (Or.inr (Or.inl (by decide)))).trans h.2.1, (g.at (Or.inr (Or.inl (by decide)))).trans h.2.2.1, h.2.2.2.1, h.2.2.2.2.1, fun j hj => (g.at (Or.inl (by decide))).trans (h.2.2.2.2.2 j hj)⟩
theorem m_byte {B : Nat → Int32} {n b : Nat} {M : zS} (h : ByM B n b M) {i : Nat} (hi : i < 2 ^ 31) : fX8_byteAt 0 (nI i) M = some (byB B n i, M) := by
  obtain ⟨hM, h19, h20, hn, hb, hB⟩ := h
  have r1 : M.2.2.2 0 1 = some 1 := hM.r (by decide) (by decide)
  unfold byB
  by_cases c : i < n
  · have c1 : ¬ nI n ≤ nI i := nI_ge c (by omega)
    have ia : nI b + nI i = nI (b + i) := nI_add b i
    have hz : zix spM 1 (nI (b + i)) = some (b + i) := zix_of rfl (by show b + i < 960; omega) (by decide)
    rw [if_pos c]
    simp only [fX8_byteAt, zokM_0, zokM_1, zokM_2, zokM_3, zokM_4, zokM_5, zokM_6, zokM_7, zokM_8, zokM_9, zokM_10, zokM_11, zokM_12, zokM_13, zokM_14, zokM_15, zlaM_1, zlaM_2, zlaM_3, zlaM_4, zlaM_5, zlaM_6, zlaM_7, zlaM_8, zlaM_9, zlaM_10, zlaM_11, zlaM_12, zlaM_13, zlaM_14, zlaM_15, zp_1, zp_h, zp_r, zp_l, zletE, obs, spMe_0, spMe_1, spMe_2, spMe_3, spMe_4, spMe_5, spMe_6, spMe_7, spMe_8, spMe_9, spMe_10, spMe_11, spMe_12, spMe_13, spMe_14, spMe_15, hM.1, h20, if_neg c1, r1, h19, ia, hz, hB i c]
  · have c1 : nI n ≤ nI i := nI_le (by omega) hi
    rw [if_neg c]
    simp only [fX8_byteAt, zokM_0, zokM_1, zokM_2, zokM_3, zokM_4, zokM_5, zokM_6, zokM_7, zokM_8, zokM_9, zokM_10, zokM_11, zokM_12, zokM_13, zokM_14, zokM_15, zlaM_1, zlaM_2, zlaM_3, zlaM_4, zlaM_5, zlaM_6, zlaM_7, zlaM_8, zlaM_9, zlaM_10, zlaM_11, zlaM_12, zlaM_13, zlaM_14, zlaM_15, zp_1, zp_h, zp_r, zp_l, zletE, obs, spMe_0, spMe_1, spMe_2, spMe_3, spMe_4, spMe_5, spMe_6, spMe_7, spMe_8, spMe_9, spMe_10, spMe_11, spMe_12, spMe_13, spMe_14, spMe_15, hM.1, h20, if_pos c1]
theorem m_lt (b : Int32) (M : zS) : fX8_in b.toInt64 97 122 M = some (if isLt b = true then 1 else 0, M) := by
  rw [in_eq, show (97 : Int64) = (97 : Int32).toInt64 by decide, show (122 : Int64) = (122 : Int32).toInt64 by decide]
  simp only [tl]
  unfold isLt
  by_cases c1 : b < 97
  · rw [if_pos c1, decide_eq_true c1]; rfl
  · rw [if_neg c1, decide_eq_false c1]
    by_cases c2 : 122 < b
    · rw [if_pos c2, decide_eq_true c2]; rfl
    · rw [if_neg c2, decide_eq_false c2]; rfl
theorem m_dg (b : Int32) (M : zS) : fX8_in b.toInt64 48 57 M = some (if isDg b = true then 1 else 0, M) := by
  rw [in_eq, show (48 : Int64) = (48 : Int32).toInt64 by decide, show (57 : Int64) = (57 : Int32).toInt64 by decide]
  simp only [tl]
  unfold isDg
  by_cases c1 : b < 48
  · rw [if_pos c1, decide_eq_true c1]; rfl
  · rw [if_neg c1, decide_eq_false c1]
    by_cases c2 : 57 < b
    · rw [if_pos c2, decide_eq_true c2]; rfl
    · rw [if_neg c2, decide_eq_false c2]; rfl
theorem m_skB {B : Nat → Int32} {n b : Nat} : ∀ (m i f : Nat) (M : zS), ByM B n b M → M.2.1 0 21 = nI i → i ≤ n → n - i ≤ m → m < f → ∃ M' f', fX8_next_L0 0 f M = fX8_next_L0 0 (f' + 1) M' ∧ frQ M M' ∧ M'.2.1 0 21 = nI (sk isBl B n m i)
  | m, i, 0, _, _, _, _, _, h => by omega
  | 0, i, f + 1, M, hB, h21, _, _, _ => ⟨M, f, rfl, frQ.rf M, h21⟩
  | m + 1, i, f + 1, M, hB, h21, hi, hm, hf => by
    have hM := hB.1
    have hn := hB.2.2.2.1
    have e1 := m_byte hB (i := i) (by omega)
    rw [sk]
    cases hb : isBl (byB B n i) with
    | false => exact ⟨M, f, rfl, frQ.rf M, by rw [if_neg (by decide)]; exact h21⟩
    | true =>
      have hin : i < n := by
        refine byB_in (B := B) (fun q => ?_)
        rw [q, isBl_m1] at hb
        cases hb
      have g : frQ M (zp M 0 21 (nI (i + 1))) := (frQ.rf M).zp (by decide) _
      obtain ⟨M', f', y1, y2, y3⟩ := m_skB m (i + 1) f (zp M 0 21 (nI (i + 1))) (hB.fr g) (by simp [zp_h]) (by omega) (by omega) (by omega)
      refine ⟨M', f', ?_, g.tr y2, by rw [if_pos rfl]; exact y3⟩
      rw [← y1, fX8_next_L0]
      by_cases c32 : byB B n i = 32
      · simp only [fX8_next_j26, zokM_0, zokM_1, zokM_2, zokM_3, zokM_4, zokM_5, zokM_6, zokM_7, zokM_8, zokM_9, zokM_10, zokM_11, zokM_12, zokM_13, zokM_14, zokM_15, zlaM_1, zlaM_2, zlaM_3, zlaM_4, zlaM_5, zlaM_6, zlaM_7, zlaM_8, zlaM_9, zlaM_10, zlaM_11, zlaM_12, zlaM_13, zlaM_14, zlaM_15, zp_1, zp_h, zp_r, zp_l, zletE, obs, spMe_0, spMe_1, spMe_2, spMe_3, spMe_4, spMe_5, spMe_6, spMe_7, spMe_8, spMe_9, spMe_10, spMe_11, spMe_12, spMe_13, spMe_14, spMe_15, hM.1, h21, e1, if_pos c32, nI_1]
      · have c10 : byB B n i = 10 := by
          unfold isBl at hb
          rw [Bool.or_eq_true, decide_eq_true_eq, decide_eq_true_eq] at hb
          exact hb.resolve_left c32
        simp only [fX8_next_j26, zokM_0, zokM_1, zokM_2, zokM_3, zokM_4, zokM_5, zokM_6, zokM_7, zokM_8, zokM_9, zokM_10, zokM_11, zokM_12, zokM_13, zokM_14, zokM_15, zlaM_1, zlaM_2, zlaM_3, zlaM_4, zlaM_5, zlaM_6, zlaM_7, zlaM_8, zlaM_9, zlaM_10, zlaM_11, zlaM_12, zlaM_13, zlaM_14, zlaM_15, zp_1, zp_h, zp_r, zp_l, zletE, obs, spMe_0, spMe_1, spMe_2, spMe_3, spMe_4, spMe_5, spMe_6, spMe_7, spMe_8, spMe_9, spMe_10, spMe_11, spMe_12, spMe_13, spMe_14, spMe_15, hM.1, h21, e1, if_neg c32, if_pos c10, nI_1]
theorem m_skW {B : Nat → Int32} {n b : Nat} : ∀ (m i f : Nat) (M : zS), ByM B n b M → M.2.1 0 21 = nI i → i ≤ n + 1 → n - i ≤ m → m < f → ∃ M', fX8_next_L100 0 f M = some ((), M') ∧ frQ M M' ∧ M'.2.1 0 21 = nI (sk isLt B n m i) ∧ M'.2.1 0 22 = M.2.1 0 22 ∧ M'.2.1 0 23 = M.2.1 0 23 ∧ M'.2.2.1 = M.2.2.1
  | m, i, 0, _, _, _, _, _, h => by omega
  | 0, i, f + 1, M, hB, h21, hi, hm, _ => by
    have hM := hB.1
    have hn := hB.2.2.2.1
    have e1 := m_byte hB (i := i) (by omega)
    have e2 : byB B n i = -1 := by unfold byB; rw [if_neg (by omega)]
    rw [e2] at e1
    refine ⟨M, ?_, frQ.rf M, h21, rfl, rfl, rfl⟩
    simp only [fX8_next_L100, zokM_0, zokM_1, zokM_2, zokM_3, zokM_4, zokM_5, zokM_6, zokM_7, zokM_8, zokM_9, zokM_10, zokM_11, zokM_12, zokM_13, zokM_14, zokM_15, zlaM_1, zlaM_2, zlaM_3, zlaM_4, zlaM_5, zlaM_6, zlaM_7, zlaM_8, zlaM_9, zlaM_10, zlaM_11, zlaM_12, zlaM_13, zlaM_14, zlaM_15, zp_1, zp_h, zp_r, zp_l, zletE, obs, spMe_0, spMe_1, spMe_2, spMe_3, spMe_4, spMe_5, spMe_6, spMe_7, spMe_8, spMe_9, spMe_10, spMe_11, spMe_12, spMe_13, spMe_14, spMe_15, hM.1, h21, e1, m_lt, isLt_m1, Bool.false_eq_true, if_false, if_true]
  | m + 1, i, f + 1, M, hB, h21, hi, hm, hf => by
    have hM := hB.1
    have hn := hB.2.2.2.1
    have e1 := m_byte hB (i := i) (by omega)
    rw [sk]
    cases hb : isLt (byB B n i) with
    | false =>
      refine ⟨M, ?_, frQ.rf M, by rw [if_neg (by decide)]; exact h21, rfl, rfl, rfl⟩
      simp only [fX8_next_L100, zokM_0, zokM_1, zokM_2, zokM_3, zokM_4, zokM_5, zokM_6, zokM_7, zokM_8, zokM_9, zokM_10, zokM_11, zokM_12, zokM_13, zokM_14, zokM_15, zlaM_1, zlaM_2, zlaM_3, zlaM_4, zlaM_5, zlaM_6, zlaM_7, zlaM_8, zlaM_9, zlaM_10, zlaM_11, zlaM_12, zlaM_13, zlaM_14, zlaM_15, zp_1, zp_h, zp_r, zp_l, zletE, obs, spMe_0, spMe_1, spMe_2, spMe_3, spMe_4, spMe_5, spMe_6, spMe_7, spMe_8, spMe_9, spMe_10, spMe_11, spMe_12, spMe_13, spMe_14, spMe_15, hM.1, h21, e1, m_lt, hb, Bool.false_eq_true, if_false, if_true]
    | true =>
      have hin : i < n := by
        refine byB_in (B := B) (fun q => ?_)
        rw [q, isLt_m1] at hb
        cases hb
      have g : frQ M (zp M 0 21 (nI (i + 1))) := (frQ.rf M).zp (by decide) _
      obtain ⟨M', y1, y2, y3, y4, y5, y6⟩ := m_skW m (i + 1) f (zp M 0 21 (nI (i + 1))) (hB.fr g) (by simp [zp_h]) (by omega) (by omega) (by omega)
      refine ⟨M', ?_, g.tr y2, by rw [if_pos rfl]; exact y3, y4.trans (by simp [zp_h]), y5.trans (by simp [zp_h]), y6⟩
      simp only [fX8_next_L100, zokM_0, zokM_1, zokM_2, zokM_3, zokM_4, zokM_5, zokM_6, zokM_7, zokM_8, zokM_9, zokM_10, zokM_11, zokM_12, zokM_13, zokM_14, zokM_15, zlaM_1, zlaM_2, zlaM_3, zlaM_4, zlaM_5, zlaM_6, zlaM_7, zlaM_8, zlaM_9, zlaM_10, zlaM_11, zlaM_12, zlaM_13, zlaM_14, zlaM_15, zp_1, zp_h, zp_r, zp_l, zletE, obs, spMe_0, spMe_1, spMe_2, spMe_3, spMe_4, spMe_5, spMe_6, spMe_7, spMe_8, spMe_9, spMe_10, spMe_11, spMe_12, spMe_13, spMe_14, spMe_15, hM.1, h21, e1, m_lt, hb, if_true, if_neg n10, nI_1]
      exact y1
theorem m_skN {B : Nat → Int32} {n b : Nat} : ∀ (m i c acc f : Nat) (M : zS), ByM B n b M → M.2.1 0 21 = nI i → i ≤ n + 1 → n - i ≤ m → m < f → c + m ≤ 400 → (c ≤ 4 → M.2.2.1 0 = lN acc) → ∃ M', fX8_next_L160 0 f (nI c) M = some ((), M') ∧ frQ M M' ∧ M'.2.1 0 21 = nI (sk isDg B n m i) ∧ M'.2.1 0 23 = M.2.1 0 23 ∧ M'.2.1 0 22 = nI (if c + (sk isDg B n m i - i) ≤ 4 then 2 else 4) ∧ (c + (sk isDg B n m i - i) ≤ 4 → M'.2.2.1 0 = lN (vlF B n (sk isDg B n m i - i) i acc))
  | m, i, c, acc, 0, _, _, _, _, _, h, _, _ => by omega
  | m, i, c, acc, f + 1, M, hB, h21, hi, hm, hf, hc, hl => by
    have hM := hB.1
    have hn := hB.2.2.2.1
    have e1 := m_byte hB (i := i) (by omega)
    have stop : isDg (byB B n i) = false → ∃ M', fX8_next_L160 0 (f + 1) (nI c) M = some ((), M') ∧ frQ M M' ∧ M'.2.1 0 21 = nI i ∧ M'.2.1 0 23 = M.2.1 0 23 ∧ M'.2.1 0 22 = nI (if c ≤ 4 then 2 else 4) ∧ (c ≤ 4 → M'.2.2.1 0 = lN acc) := fun hb => by
      by_cases c4 : c ≤ 4
      · have c4' : nI c ≤ (4 : Int32) := nI_le (b := 4) c4 (by decide)
        refine ⟨zp M 0 22 2, ?_, (frQ.rf M).zp (by decide) _, by simp [zp_h, h21], by simp [zp_h], by rw [if_pos c4]; simp [zp_h]; rfl, fun _ => hl c4⟩
        simp only [fX8_next_L160, fX8_next_j246, zokM_0, zokM_1, zokM_2, zokM_3, zokM_4, zokM_5, zokM_6, zokM_7, zokM_8, zokM_9, zokM_10, zokM_11, zokM_12, zokM_13, zokM_14, zokM_15, zlaM_1, zlaM_2, zlaM_3, zlaM_4, zlaM_5, zlaM_6, zlaM_7, zlaM_8, zlaM_9, zlaM_10, zlaM_11, zlaM_12, zlaM_13, zlaM_14, zlaM_15, zp_1, zp_h, zp_r, zp_l, zletE, obs, spMe_0, spMe_1, spMe_2, spMe_3, spMe_4, spMe_5, spMe_6, spMe_7, spMe_8, spMe_9, spMe_10, spMe_11, spMe_12, spMe_13, spMe_14, spMe_15, hM.1, h21, e1, m_dg, hb, Bool.false_eq_true, if_false, if_true, if_pos c4']
      · have c4' : ¬ nI c ≤ (4 : Int32) := nI_ge (a := 4) (by omega) (by omega)
        refine ⟨zp M 0 22 4, ?_, (frQ.rf M).zp (by decide) _, by simp [zp_h, h21], by simp [zp_h], by rw [if_neg c4]; simp [zp_h]; rfl, fun q => absurd q c4⟩
        simp only [fX8_next_L160, fX8_next_j246, zokM_0, zokM_1, zokM_2, zokM_3, zokM_4, zokM_5, zokM_6, zokM_7, zokM_8, zokM_9, zokM_10, zokM_11, zokM_12, zokM_13, zokM_14, zokM_15, zlaM_1, zlaM_2, zlaM_3, zlaM_4, zlaM_5, zlaM_6, zlaM_7, zlaM_8, zlaM_9, zlaM_10, zlaM_11, zlaM_12, zlaM_13, zlaM_14, zlaM_15, zp_1, zp_h, zp_r, zp_l, zletE, obs, spMe_0, spMe_1, spMe_2, spMe_3, spMe_4, spMe_5, spMe_6, spMe_7, spMe_8, spMe_9, spMe_10, spMe_11, spMe_12, spMe_13, spMe_14, spMe_15, hM.1, h21, e1, m_dg, hb, Bool.false_eq_true, if_false, if_true, if_neg c4']
    cases m with
    | zero =>
      have e2 : byB B n i = -1 := by unfold byB; rw [if_neg (by omega)]
      obtain ⟨M', y1, y2, y3, y4, y5, y6⟩ := stop (by rw [e2]; exact isDg_m1)
      rw [sk, Nat.sub_self, Nat.add_zero, vlF]
      exact ⟨M', y1, y2, y3, y4, y5, y6⟩
    | succ m =>
      cases hb : isDg (byB B n i) with
      | false =>
        obtain ⟨M', y1, y2, y3, y4, y5, y6⟩ := stop hb
        rw [sk, hb, if_neg (by decide), Nat.sub_self, Nat.add_zero, vlF]
        exact ⟨M', y1, y2, y3, y4, y5, y6⟩
      | true =>
        have hin : i < n := by
          refine byB_in (B := B) (fun q => ?_)
          rw [q, isDg_m1] at hb
          cases hb
        have hge := (sk_ge isDg B n m (i + 1)).1
        obtain ⟨j, j1, j2, ej⟩ := isDg_r hb
        have hdn : dgN (byB B n i) = j - 48 := by unfold dgN; rw [ej, nI_clamp (by omega)]
        rw [sk, hb, if_pos rfl]
        by_cases c4 : c < 4
        · have c4' : ¬ (4 : Int32) ≤ nI c := nI_ge (b := 4) (by omega) (by decide)
          have hv : (10 : Int64) * lN acc + (byB B n i).toInt64 - (48 : Int64) = lN (acc * 10 + dgN (byB B n i)) := by
            rw [hdn, ej, nI_l (by omega)]
            show lN 10 * lN acc + lN j - lN 48 = _
            rw [lN_mul, lN_add, lN_sub (by omega), show 10 * acc + j - 48 = acc * 10 + (j - 48) by omega]
          let M1 := zp (zpl M 0 (lN (acc * 10 + dgN (byB B n i)))) 0 21 (nI (i + 1))
          have g : frQ M M1 := ((frQ.rf M).zpl 0 _).zp (k := 21) (by decide) _
          obtain ⟨M', y1, y2, y3, y4, y5, y6⟩ := m_skN m (i + 1) (c + 1) (acc * 10 + dgN (byB B n i)) f M1 (hB.fr g) (by simp [M1, zp_h]) (by omega) (by omega) (by omega) (by omega) (fun _ => by simp [M1, zp_l, zpl_l])
          have ea : c + 1 + (sk isDg B n m (i + 1) - (i + 1)) = c + (sk isDg B n m (i + 1) - i) := by omega
          rw [ea] at y5 y6
          refine ⟨M', ?_, g.tr y2, y3, y4.trans (by simp [M1, zp_h, zpl_h]), y5, fun q => ?_⟩
          · simp only [fX8_next_L160, fX8_next_j216, zokM_0, zokM_1, zokM_2, zokM_3, zokM_4, zokM_5, zokM_6, zokM_7, zokM_8, zokM_9, zokM_10, zokM_11, zokM_12, zokM_13, zokM_14, zokM_15, zlaM_1, zlaM_2, zlaM_3, zlaM_4, zlaM_5, zlaM_6, zlaM_7, zlaM_8, zlaM_9, zlaM_10, zlaM_11, zlaM_12, zlaM_13, zlaM_14, zlaM_15, zp_1, zp_h, zp_r, zp_l, zletE, obs, spMe_0, spMe_1, spMe_2, spMe_3, spMe_4, spMe_5, spMe_6, spMe_7, spMe_8, spMe_9, spMe_10, spMe_11, spMe_12, spMe_13, spMe_14, spMe_15, zpl_1, zpl_h, zpl_r, hM.1, h21, e1, m_dg, hb, if_true, if_neg n10, if_neg c4', hl (by omega), hv, nI_1]
            exact y1
          · rw [y6 q, show sk isDg B n m (i + 1) - i = (sk isDg B n m (i + 1) - (i + 1)) + 1 by omega, vlF]
        · have c4' : (4 : Int32) ≤ nI c := nI_le (a := 4) (by omega) (by omega)
          let M1 := zp (zpl M 0 (M.2.2.1 0)) 0 21 (nI (i + 1))
          have g : frQ M M1 := ((frQ.rf M).zpl 0 _).zp (k := 21) (by decide) _
          obtain ⟨M', y1, y2, y3, y4, y5, y6⟩ := m_skN m (i + 1) (c + 1) 0 f M1 (hB.fr g) (by simp [M1, zp_h]) (by omega) (by omega) (by omega) (by omega) (fun q => by omega)
          have ea : c + 1 + (sk isDg B n m (i + 1) - (i + 1)) = c + (sk isDg B n m (i + 1) - i) := by omega
          rw [ea] at y5
          refine ⟨M', ?_, g.tr y2, y3, y4.trans (by simp [M1, zp_h, zpl_h]), y5, fun q => by omega⟩
          simp only [fX8_next_L160, fX8_next_j216, zokM_0, zokM_1, zokM_2, zokM_3, zokM_4, zokM_5, zokM_6, zokM_7, zokM_8, zokM_9, zokM_10, zokM_11, zokM_12, zokM_13, zokM_14, zokM_15, zlaM_1, zlaM_2, zlaM_3, zlaM_4, zlaM_5, zlaM_6, zlaM_7, zlaM_8, zlaM_9, zlaM_10, zlaM_11, zlaM_12, zlaM_13, zlaM_14, zlaM_15, zp_1, zp_h, zp_r, zp_l, zletE, obs, spMe_0, spMe_1, spMe_2, spMe_3, spMe_4, spMe_5, spMe_6, spMe_7, spMe_8, spMe_9, spMe_10, spMe_11, spMe_12, spMe_13, spMe_14, spMe_15, zpl_1, zpl_h, zpl_r, hM.1, h21, e1, m_dg, hb, if_true, if_neg n10, if_pos c4', nI_1]
          exact y1
theorem sg_or {b : Int32} (h : isSg b = true) : b = 40 ∨ b = 41 ∨ b = 42 ∨ b = 43 ∨ b = 45 ∨ b = 59 ∨ b = 60 ∨ b = 61 := by
  unfold isSg at h
  simp only [Bool.or_eq_true, decide_eq_true_eq] at h
  exact h
theorem sg_not {b : Int32} (h : isSg b = false) : ¬ b = 40 ∧ ¬ b = 41 ∧ ¬ b = 42 ∧ ¬ b = 43 ∧ ¬ b = 45 ∧ ¬ b = 59 ∧ ¬ b = 60 ∧ ¬ b = 61 := by
  unfold isSg at h
  simp only [Bool.or_eq_false_iff, decide_eq_false_iff_not] at h
  exact h
/-- what next() finds -/
def NxM (B : Nat → Int32) (n p : Nat) (M : zS) : Prop := M.2.1 0 23 = nI (tkS B n p) ∧ M.2.1 0 22 = nI (tkK B n p) ∧ (tkK B n p = 1 ∨ tkK B n p = 2 ∨ tkK B n p = 3 → M.2.1 0 21 = nI (tkE B n p)) ∧ (tkK B n p = 2 → M.2.2.1 0 = lN (tkV B n p)) ∧ (tkK B n p = 3 → M.2.2.1 0 = (byB B n (tkS B n p)).toInt64)
theorem by_nn {B : Nat → Int32} {n : Nat} (hB : ∀ j, j < n → NiR (B j) 255) {i : Nat} (h : ¬ byB B n i = -1) : (0 : Int32) ≤ byB B n i := by
  have hi := byB_in h
  unfold byB
  rw [if_pos hi]
  obtain ⟨k, hk, e⟩ := hB i hi
  rw [e]
  exact nI_pos' (by omega)
theorem m_next {B : Nat → Int32} {n b p : Nat} {M : zS} (hB : ByM B n b M) (hb8 : ∀ j, j < n → NiR (B j) 255) (h21 : M.2.1 0 21 = nI p) (hp : p ≤ n) : ∃ M', fX8_next 0 M = some ((), M') ∧ frQ M M' ∧ NxM B n p M' := by
  have hn := hB.2.2.2.1
  obtain ⟨M1, f', a1, a2, a3⟩ := m_skB (n - p) p zF M hB h21 hp (Nat.le_refl _) (by show n - p < 5000; omega)
  have a1 : fX8_next 0 M = fX8_next_L0 0 (f' + 1) M1 := a1
  have a3 : M1.2.1 0 21 = nI (tkS B n p) := a3
  have hs := tkS_le B hp
  have hB1 := hB.fr a2
  have hM1 := hB1.1
  have e1 := m_byte hB1 (i := tkS B n p) (by omega)
  have hbl : isBl (byB B n (tkS B n p)) = false := skp_stop isBl_m1 B n p
  have c32 : ¬ byB B n (tkS B n p) = 32 := fun q => by rw [q] at hbl; exact absurd hbl (by decide)
  have c10 : ¬ byB B n (tkS B n p) = 10 := fun q => by rw [q] at hbl; exact absurd hbl (by decide)
  have g2 : frQ M1 (zp M1 0 23 (nI (tkS B n p))) := (frQ.rf M1).zp (by decide) _
  have hB2 := hB1.fr g2
  have e2 := m_byte hB2 (i := tkS B n p) (by omega)
  let M3 := zp (zp M1 0 23 (nI (tkS B n p))) 0 22 4
  have g3 : frQ M1 M3 := g2.zp (by decide) _
  have hM3n : M3.1 = 16 := hM1.1
  have f3 : frQ M M3 := a2.tr g3
  have hB3 := hB1.fr g3
  have k21 : M3.2.1 0 21 = nI (tkS B n p) := by simp [M3, zp_h, a3]
  have k23 : M3.2.1 0 23 = nI (tkS B n p) := by simp [M3, zp_h]
  have k22 : M3.2.1 0 22 = 4 := by simp [M3, zp_h]
  have k20 : M3.2.1 0 20 = nI n := hB3.2.2.1
  rw [a1, fX8_next_L0]
  unfold NxM tkK tkV tkE
  by_cases c1 : byB B n (tkS B n p) = -1
  · rw [if_pos c1, c1, isLt_m1, isDg_m1]
    have hend : tkS B n p = n := by
      have : ¬ tkS B n p < n := fun q => by
        unfold byB at c1
        rw [if_pos q] at c1
        obtain ⟨k, hk, e⟩ := hb8 _ q
        rw [e] at c1
        have := congrArg Int32.toInt c1
        rw [nI_toInt (by omega)] at this
        have h2 : (-1 : Int32).toInt = -1 := by decide
        omega
      omega
    rw [c1] at e1 e2 c32 c10
    have ng : ¬ (0 : Int32) ≤ -1 := by decide
    refine ⟨zp (zp M3 0 22 0) 0 23 (nI n), ?_, (f3.zp (k := 22) (by decide) _).zp (k := 23) (by decide) _, by rw [hend]; simp [zp_h], by simp [zp_h, nI_0], fun q => by omega, fun q => by omega, fun q => by omega⟩
    have k20' : M1.2.1 0 20 = nI n := hB1.2.2.1
    simp only [zokM_0, zokM_1, zokM_2, zokM_3, zokM_4, zokM_5, zokM_6, zokM_7, zokM_8, zokM_9, zokM_10, zokM_11, zokM_12, zokM_13, zokM_14, zokM_15, zlaM_1, zlaM_2, zlaM_3, zlaM_4, zlaM_5, zlaM_6, zlaM_7, zlaM_8, zlaM_9, zlaM_10, zlaM_11, zlaM_12, zlaM_13, zlaM_14, zlaM_15, zp_1, zp_h, zp_r, zp_l, zletE, obs, spMe_0, spMe_1, spMe_2, spMe_3, spMe_4, spMe_5, spMe_6, spMe_7, spMe_8, spMe_9, spMe_10, spMe_11, spMe_12, spMe_13, spMe_14, spMe_15, hM1.1, a3, e1, if_neg c32, if_neg c10, e2, Nat.reduceEqDiff, and_false, if_false, if_neg ng, k20']
    rfl
  · have hin := byB_in c1
    have nn := by_nn hb8 c1
    rw [if_neg c1]
    cases hl : isLt (byB B n (tkS B n p)) with
    | true =>
      have g4 : frQ M3 (zp M3 0 22 1) := (frQ.rf M3).zp (by decide) _
      have h21' : (zp M3 0 22 1).2.1 0 21 = nI (tkS B n p) := by rw [zp_h, if_neg (by decide)]; exact k21
      obtain ⟨M5, b1, b2, b3, b4, b5, b6⟩ := m_skW (B := B) (n := n) (b := b) (n - tkS B n p) (tkS B n p) zF (zp M3 0 22 1) (hB3.fr g4) h21' (by omega) (Nat.le_refl _) (by show n - tkS B n p < 5000; omega)
      have hsk : sk isLt B n (n - tkS B n p) (tkS B n p) = skp isLt B n (tkS B n p + 1) := by
        unfold skp
        obtain ⟨d, hd⟩ : ∃ d, n - tkS B n p = d + 1 := ⟨n - tkS B n p - 1, by omega⟩
        rw [hd, sk, hl, if_pos rfl, show n - (tkS B n p + 1) = d by omega]
      rw [hsk] at b3
      refine ⟨M5, ?_, (f3.tr g4).tr b2, b5.trans (by rw [zp_h, if_neg (by decide)]; exact k23), b4.trans (by rw [zp_h, if_pos ⟨rfl, rfl⟩]; rfl), fun _ => b3, fun q => by simp at q, fun q => by simp at q⟩
      simp only [zokM_0, zokM_1, zokM_2, zokM_3, zokM_4, zokM_5, zokM_6, zokM_7, zokM_8, zokM_9, zokM_10, zokM_11, zokM_12, zokM_13, zokM_14, zokM_15, zlaM_1, zlaM_2, zlaM_3, zlaM_4, zlaM_5, zlaM_6, zlaM_7, zlaM_8, zlaM_9, zlaM_10, zlaM_11, zlaM_12, zlaM_13, zlaM_14, zlaM_15, zp_1, zp_h, zp_r, zp_l, zletE, obs, spMe_0, spMe_1, spMe_2, spMe_3, spMe_4, spMe_5, spMe_6, spMe_7, spMe_8, spMe_9, spMe_10, spMe_11, spMe_12, spMe_13, spMe_14, spMe_15, hM1.1, a3, e1, if_neg c32, if_neg c10, e2, Nat.reduceEqDiff, and_false, if_false, if_pos nn, m_lt, hl, if_true, if_neg n10]
      exact b1
    | false =>
      simp only [Bool.false_eq_true, if_false]
      cases hd : isDg (byB B n (tkS B n p)) with
      | true =>
        let M4 := zpl (zp M3 0 22 2) 0 0
        have g4 : frQ M3 M4 := (((frQ.rf M3).zp (k := 22) (by decide) 2).zpl 0 0)
        have h21' : M4.2.1 0 21 = nI (tkS B n p) := by
          show (zp M3 0 22 2).2.1 0 21 = _
          rw [zp_h, if_neg (by decide)]; exact k21
        obtain ⟨M5, b1, b2, b3, b4, b5, b6⟩ := m_skN (B := B) (n := n) (b := b) (n - tkS B n p) (tkS B n p) 0 0 zF M4 (hB3.fr g4) h21' (by omega) (Nat.le_refl _) (by show n - tkS B n p < 5000; omega) (by omega) (fun _ => by show (zpl (zp M3 0 22 2) 0 0).2.2.1 0 = _; rw [zpl_l, if_pos rfl]; rfl)
        have hsk : sk isDg B n (n - tkS B n p) (tkS B n p) = skp isDg B n (tkS B n p + 1) := by
          unfold skp
          obtain ⟨d, hdd⟩ : ∃ d, n - tkS B n p = d + 1 := ⟨n - tkS B n p - 1, by omega⟩
          rw [hdd, sk, hd, if_pos rfl, show n - (tkS B n p + 1) = d by omega]
        rw [hsk] at b3 b5 b6
        rw [Nat.zero_add] at b5 b6
        have b1' : fX8_next_L160 0 zF 0 M4 = some ((), M5) := b1
        refine ⟨M5, ?_, (f3.tr g4).tr b2, b4.trans ?_, ?_, fun _ => by simpa using b3, fun q => ?_, fun q => ?_⟩
        · simp only [zokM_0, zokM_1, zokM_2, zokM_3, zokM_4, zokM_5, zokM_6, zokM_7, zokM_8, zokM_9, zokM_10, zokM_11, zokM_12, zokM_13, zokM_14, zokM_15, zlaM_1, zlaM_2, zlaM_3, zlaM_4, zlaM_5, zlaM_6, zlaM_7, zlaM_8, zlaM_9, zlaM_10, zlaM_11, zlaM_12, zlaM_13, zlaM_14, zlaM_15, zp_1, zp_h, zp_r, zp_l, zletE, obs, spMe_0, spMe_1, spMe_2, spMe_3, spMe_4, spMe_5, spMe_6, spMe_7, spMe_8, spMe_9, spMe_10, spMe_11, spMe_12, spMe_13, spMe_14, spMe_15, hM1.1, a3, e1, if_neg c32, if_neg c10, e2, Nat.reduceEqDiff, and_false, if_false, if_pos nn, m_lt, hl, Bool.false_eq_true, if_true, m_dg, hd, if_neg n10]
          exact b1'
        · show (zp M3 0 22 2).2.1 0 23 = _
          rw [zp_h, if_neg (by decide)]; exact k23
        · rw [b5]
          simp only [if_true]
        · by_cases c4 : skp isDg B n (tkS B n p + 1) - tkS B n p ≤ 4
          · simp only [if_true, if_pos c4]; exact b6 c4
          · simp only [if_true, if_neg c4] at q; omega
        · simp only [if_true] at q
          split at q <;> omega
      | false =>
        simp only [Bool.false_eq_true, if_false]
        cases hg : isSg (byB B n (tkS B n p)) with
        | true =>
          refine ⟨zp (zpl (zp M3 0 22 3) 0 (byB B n (tkS B n p)).toInt64) 0 21 (nI (tkS B n p + 1)), ?_, ((f3.zp (k := 22) (by decide) 3).zpl 0 _).zp (k := 21) (by decide) _, ?_, ?_, fun _ => ?_, fun q => ?_, fun _ => ?_⟩
          · rcases sg_or hg with w | w | w | w | w | w | w | w
            all_goals
              rw [w] at e1 e2 c32 c10 nn hl hd ⊢
              simp only [zokM_0, zokM_1, zokM_2, zokM_3, zokM_4, zokM_5, zokM_6, zokM_7, zokM_8, zokM_9, zokM_10, zokM_11, zokM_12, zokM_13, zokM_14, zokM_15, zlaM_1, zlaM_2, zlaM_3, zlaM_4, zlaM_5, zlaM_6, zlaM_7, zlaM_8, zlaM_9, zlaM_10, zlaM_11, zlaM_12, zlaM_13, zlaM_14, zlaM_15, zp_1, zp_h, zp_r, zp_l, zletE, obs, spMe_0, spMe_1, spMe_2, spMe_3, spMe_4, spMe_5, spMe_6, spMe_7, spMe_8, spMe_9, spMe_10, spMe_11, spMe_12, spMe_13, spMe_14, spMe_15, zpl_1, zpl_h, zpl_r, hM1.1, a3, e1, if_neg c32, if_neg c10, e2, Nat.reduceEqDiff, and_false, if_false, if_pos nn, m_lt, hl, Bool.false_eq_true, if_true, m_dg, hd]
              simp [fX8_next_j300, zokM_0, hM1.1, zp_1, zp_h, zpl_1, zpl_h, zletE, obs, a3, nI_1, M3]
          · show (zp (zp M3 0 22 3) 0 21 _).2.1 0 23 = _
            rw [zp_h, if_neg (by decide), zp_h, if_neg (by decide)]; exact k23
          · show (zp (zp M3 0 22 3) 0 21 _).2.1 0 22 = _
            rw [zp_h, if_neg (by decide), zp_h, if_pos ⟨rfl, rfl⟩]; rfl
          · rw [zp_h, if_pos ⟨rfl, rfl⟩]
          · simp at q
          · rw [zp_l, zpl_l, if_pos rfl]
        | false =>
          obtain ⟨s1, s2, s3, s4, s5, s6, s7, s8⟩ := sg_not hg
          refine ⟨M3, ?_, f3, k23, k22, fun q => by simp at q, fun q => by simp at q, fun q => by simp at q⟩
          simp only [zokM_0, zokM_1, zokM_2, zokM_3, zokM_4, zokM_5, zokM_6, zokM_7, zokM_8, zokM_9, zokM_10, zokM_11, zokM_12, zokM_13, zokM_14, zokM_15, zlaM_1, zlaM_2, zlaM_3, zlaM_4, zlaM_5, zlaM_6, zlaM_7, zlaM_8, zlaM_9, zlaM_10, zlaM_11, zlaM_12, zlaM_13, zlaM_14, zlaM_15, zp_1, zp_h, zp_r, zp_l, zletE, obs, spMe_0, spMe_1, spMe_2, spMe_3, spMe_4, spMe_5, spMe_6, spMe_7, spMe_8, spMe_9, spMe_10, spMe_11, spMe_12, spMe_13, spMe_14, spMe_15, hM1.1, a3, e1, if_neg c32, if_neg c10, e2, Nat.reduceEqDiff, and_false, if_false, if_pos nn, m_lt, hl, Bool.false_eq_true, if_true, m_dg, hd, if_neg s1, if_neg s2, if_neg s3, if_neg s4, if_neg s5, if_neg s6, if_neg s7, if_neg s8]
          rfl
