/-- alike but for one in thought, names, stacks, and the sheets -/
def frG (X X' : zS) : Prop := X'.1 = X.1 ∧ (∀ o k, (o = 7 ∧ k = 2) ∨ X'.2.2.2 o k = X.2.2.2 o k) ∧ ∀ o k, o = 7 ∨ o = 8 ∨ (∃ t, t < 6 ∧ ((o = 27 + 4 * t ∧ k = 5) ∨ o = 30 + 4 * t)) ∨ 51 ≤ o ∨ X'.2.1 o k = X.2.1 o k
def frH (M M' : zS) : Prop := M'.1 = M.1 ∧ M'.2.2.2 = M.2.2.2 ∧ ∀ o k, (o = 0 ∧ 13 ≤ k ∧ k ≤ 38) ∨ o = 8 ∨ o = 9 ∨ 12 ≤ o ∨ M'.2.1 o k = M.2.1 o k
theorem frC.g {X X' : zS} (h : frC X X') : frG X X' := ⟨h.1, h.2.1, fun o k => by
  rcases h.2.2 o k with a | a | a | a
  · exact Or.inl a
  · exact Or.inr (Or.inl a)
  · exact Or.inr (Or.inr (Or.inl a))
  · exact Or.inr (Or.inr (Or.inr (Or.inr a)))⟩
theorem frN.h {M M' : zS} (h : frN M M') : frH M M' := ⟨h.1, h.2.1, fun o k => by
  rcases h.2.2 o k with a | a | a | a
  · exact Or.inl a
  · exact Or.inr (Or.inl a)
  · exact Or.inr (Or.inr (Or.inl a))
  · exact Or.inr (Or.inr (Or.inr (Or.inr a)))⟩
theorem frG.tr {X Y Z : zS} (h : frG X Y) (g : frG Y Z) : frG X Z := ⟨g.1.trans h.1, fun o k => by
  rcases h.2.1 o k with a | a
  · exact Or.inl a
  · rcases g.2.1 o k with b | b
    · exact Or.inl b
    · exact Or.inr (b.trans a), fun o k => by
  rcases h.2.2 o k with a | a | a | a | a
  · exact Or.inl a
  · exact Or.inr (Or.inl a)
  · exact Or.inr (Or.inr (Or.inl a))
  · exact Or.inr (Or.inr (Or.inr (Or.inl a)))
  · rcases g.2.2 o k with b | b | b | b | b
    · exact Or.inl b
    · exact Or.inr (Or.inl b)
    · exact Or.inr (Or.inr (Or.inl b))
    · exact Or.inr (Or.inr (Or.inr (Or.inl b)))
    · exact Or.inr (Or.inr (Or.inr (Or.inr (b.trans a))))⟩
theorem frH.tr {X Y Z : zS} (h : frH X Y) (g : frH Y Z) : frH X Z := ⟨g.1.trans h.1, g.2.1.trans h.2.1, fun o k => by
  rcases h.2.2 o k with a | a | a | a | a
  · exact Or.inl a
  · exact Or.inr (Or.inl a)
  · exact Or.inr (Or.inr (Or.inl a))
  · exact Or.inr (Or.inr (Or.inr (Or.inl a)))
  · rcases g.2.2 o k with b | b | b | b | b
    · exact Or.inl b
    · exact Or.inr (Or.inl b)
    · exact Or.inr (Or.inr (Or.inl b))
    · exact Or.inr (Or.inr (Or.inr (Or.inl b)))
    · exact Or.inr (Or.inr (Or.inr (Or.inr (b.trans a))))⟩
theorem frG.at {X X' : zS} (h : frG X X') {o k : Nat} (h7 : o ≠ 7) (h8 : o ≠ 8) (ht : o < 27) : X'.2.1 o k = X.2.1 o k := by
  rcases h.2.2 o k with a | a | ⟨t, h1, h2⟩ | a | a
  · exact absurd a h7
  · exact absurd a h8
  · omega
  · omega
  · exact a
theorem frG.code {X X' : zS} (h : frG X X') {t : Nat} (ht : t < 6) : (∀ k, X'.2.1 (27 + 4 * t) k = X.2.1 (27 + 4 * t) k ∨ k = 5) ∧ (∀ k, X'.2.1 (28 + 4 * t) k = X.2.1 (28 + 4 * t) k) ∧ (∀ k, X'.2.1 (29 + 4 * t) k = X.2.1 (29 + 4 * t) k) := by
  refine ⟨fun k => ?_, fun k => ?_, fun k => ?_⟩
  · rcases h.2.2 (27 + 4 * t) k with a | a | ⟨u, h1, h2⟩ | a | a
    · omega
    · omega
    · rcases h2 with h2 | h2
      · exact Or.inr h2.2
      · omega
    · omega
    · exact Or.inl a
  · rcases h.2.2 (28 + 4 * t) k with a | a | ⟨u, h1, h2⟩ | a | a
    · omega
    · omega
    · omega
    · omega
    · exact a
  · rcases h.2.2 (29 + 4 * t) k with a | a | ⟨u, h1, h2⟩ | a | a
    · omega
    · omega
    · omega
    · omega
    · exact a
theorem frG.sh {X X' : zS} (h : frG X X') (hX : shX X) : shX X' := ⟨h.1.trans hX.1, fun o ho k hk => by
  rcases h.2.1 o k with a | a
  · exact Or.inl a
  · rw [a]; exact hX.2 o ho k hk⟩
theorem frH.at {M M' : zS} (h : frH M M') {o k : Nat} (h1 : o ≠ 0 ∨ k < 13 ∨ 38 < k) (h2 : o ≠ 8) (h3 : o ≠ 9) (h4 : o < 12) : M'.2.1 o k = M.2.1 o k := by
  rcases h.2.2 o k with a | a | a | a | a
  · omega
  · omega
  · omega
  · omega
  · exact a
theorem frH.sh {M M' : zS} (h : frH M M') (hM : shM M) : shM M' := ⟨h.1.trans hM.1, fun o ho k hk => by rw [h.2.1]; exact hM.2 o ho k hk⟩
theorem Inv.shts {X M X' M' : zS} (h : Inv X M) (f : frG X X') (g : frH M M') (hS' : InvS X' M') : Inv X' M' := by
  obtain ⟨⟨hX, hM⟩, hL, hD, hA, hP, hF, hS, hI, hT⟩ := h
  have e1 : ∀ k, X'.2.1 1 k = X.2.1 1 k := fun k => f.at (by decide) (by decide) (by decide)
  have e0 : ∀ k, X'.2.1 0 k = X.2.1 0 k := fun k => f.at (by decide) (by decide) (by decide)
  have e2 : ∀ k, X'.2.1 2 k = X.2.1 2 k := fun k => f.at (by decide) (by decide) (by decide)
  have e3 : ∀ k, X'.2.1 3 k = X.2.1 3 k := fun k => f.at (by decide) (by decide) (by decide)
  have e14 : ∀ k, X'.2.1 14 k = X.2.1 14 k := fun k => f.at (by decide) (by decide) (by decide)
  have e15 : ∀ k, X'.2.1 15 k = X.2.1 15 k := fun k => f.at (by decide) (by decide) (by decide)
  have e17 : ∀ i k, i < 5 → X'.2.1 (17 + i) k = X.2.1 (17 + i) k := fun i k hi => f.at (by omega) (by omega) (by omega)
  have e22 : ∀ i k, i < 5 → X'.2.1 (22 + i) k = X.2.1 (22 + i) k := fun i k hi => f.at (by omega) (by omega) (by omega)
  have m : ∀ o k, o ≠ 0 → o ≠ 8 → o ≠ 9 → o < 12 → M'.2.1 o k = M.2.1 o k := fun o k h0 h8 h9 h12 => g.at (Or.inl h0) h8 h9 h12
  have m4 : (fun t => M'.2.1 4 t) = fun t => M.2.1 4 t := funext fun t => m 4 t (by decide) (by decide) (by decide) (by decide)
  have m10 : (fun t => M'.2.1 10 t) = fun t => M.2.1 10 t := funext fun t => m 10 t (by decide) (by decide) (by decide) (by decide)
  have m0 : ∀ k, k < 13 → M'.2.1 0 k = M.2.1 0 k := fun k hk => g.at (Or.inr (Or.inl hk)) (by decide) (by decide) (by decide)
  have m39 : M'.2.1 0 39 = M.2.1 0 39 := g.at (Or.inr (Or.inr (by decide))) (by decide) (by decide) (by decide)
  have m40 : M'.2.1 0 40 = M.2.1 0 40 := g.at (Or.inr (Or.inr (by decide))) (by decide) (by decide) (by decide)
  have m41 : M'.2.1 0 41 = M.2.1 0 41 := g.at (Or.inr (Or.inr (by decide))) (by decide) (by decide) (by decide)
  refine ⟨⟨f.sh hX, g.sh hM⟩, ?_, ?_, ?_, ?_, ?_, ?_, ?_, ?_⟩
  · refine ⟨fun t ht => by rw [e1, congrFun m4 t]; exact hL.1 t ht, by rw [m4]; exact hL.2⟩
  · unfold InvD
    rw [e0, e0, e0, e0, m0 7 (by decide), m0 11 (by decide), m0 3 (by decide), m0 4 (by decide)]
    exact hD
  · refine ⟨fun i hi k hk => by rw [e22 i _ hi, m 6 _ (by decide) (by decide) (by decide) (by decide)]; exact hA.1 i hi k hk, fun i hi => (hA.2.1 i hi).congr (fun k _ => m 6 _ (by decide) (by decide) (by decide) (by decide)), fun i hi hi5 => ?_⟩
    rw [m0 11 (by decide)] at hi
    rw [e22 i _ hi5, m 5 _ (by decide) (by decide) (by decide) (by decide)]
    exact hA.2.2 i hi hi5
  · obtain ⟨p1, n, hn, p2, p3⟩ := hP
    refine ⟨by rw [e0, m0 6 (by decide)]; exact p1, n, hn, by rw [m0 6 (by decide)]; exact p2, fun j hj => ?_⟩
    rw [e3, m 3 _ (by decide) (by decide) (by decide) (by decide)]
    exact p3 j hj
  · intro j hj
    rw [e2, m 7 _ (by decide) (by decide) (by decide) (by decide)]
    exact hF j hj
  · exact hS'
  · obtain ⟨I1, I2⟩ := hI
    refine ⟨by rw [e14, m39]; exact I1, ?_⟩
    rcases I2 with I2 | ⟨k, n, k1, k2, k3, k4, k5, k6, k7, ⟨k8, c, r, c1, c2, c3, c4⟩, k9, k10, k11⟩
    · exact Or.inl (m39.trans I2)
    · exact Or.inr ⟨k, n, k1, k2, m39.trans k3, (m0 11 (by decide)).trans k4, fun t ht => by rw [e15, congrFun m10 t]; exact k5 t ht, by rw [m10]; exact k6, by rw [e14, m40]; exact k7, ⟨by rw [e14, m41]; exact k8, c, r, c1, c2, (m0 3 (by decide)).trans c3, m41.trans c4⟩, fun i hi j hj => by rw [e17 i _ hi, m 11 _ (by decide) (by decide) (by decide) (by decide)]; exact k9 i hi j hj, fun i hi => (k10 i hi).congr (fun j _ => m 11 _ (by decide) (by decide) (by decide) (by decide)), fun i hi => by rw [e17 i _ (by omega), m 5 _ (by decide) (by decide) (by decide) (by decide)]; exact k11 i hi⟩
  · exact hT.mono (m0 3 (by decide)) (fun t ht => f.code ht) (fun t ht => ⟨fun j hj => m 1 _ (by decide) (by decide) (by decide) (by decide), m 2 _ (by decide) (by decide) (by decide) (by decide)⟩)
/-- all of a sheet's cells become 0 -/
theorem x_zero {q : Nat} (hq : q < 4) : ∀ (m t n : Nat) (X : zS), shX X → t + m = 40 → m < n → ∃ X', fX3_become_L24 (51 + 2 * q) n (nI t) X = some ((), X') ∧ X'.1 = X.1 ∧ X'.2.2.2 = X.2.2.2 ∧ ∀ o k, X'.2.1 o k = if o = 52 + 2 * q ∧ t ≤ k ∧ k < 40 then 0 else X.2.1 o k
  | m, t, 0, _, _, _, h => by omega
  | 0, t, n + 1, X, hX, h2, _ => by
    have e : t = 40 := by omega
    subst e
    have c : Int32.ofNat 40 ≤ nI 40 := by decide
    refine ⟨X, ?_, rfl, rfl, fun o k => by rw [if_neg (by omega)]⟩
    simp only [fX3_become_L24, obs, zok_sheet hX.1 hq, rX_cells hX hq, zla_cells hX.1 hq, (spX_sheet hq).2, c, if_true]
  | m + 1, t, n + 1, X, hX, h2, h3 => by
    have c : ¬ Int32.ofNat 40 ≤ nI t := nI_ge (b := 40) (a := t) (by omega) (by decide)
    obtain ⟨X', e1, e2, e3, e4⟩ := x_zero hq m (t + 1) n (zp X (52 + 2 * q) t 0) (hX.zp _ _ _) (by omega) (by omega)
    refine ⟨X', ?_, e2, e3, fun o k => ?_⟩
    · simp only [fX3_become_L24, obs, zletE, zok_sheet hX.1 hq, rX_cells hX hq, zla_cells hX.1 hq, (spX_sheet hq).2, c, if_false, zok_cells hX.1 hq, zix_cells hq (show t < 40 by omega), nI_1]
      exact e1
    · rw [e4]
      by_cases c1 : o = 52 + 2 * q ∧ t + 1 ≤ k ∧ k < 40
      · rw [if_pos c1, if_pos ⟨c1.1, by omega, c1.2.2⟩]
      · rw [if_neg c1, zp_h]
        by_cases c2 : o = 52 + 2 * q ∧ k = t
        · rw [if_pos c2, if_pos ⟨c2.1, by omega, by omega⟩]
        · rw [if_neg c2, if_neg (by omega)]
theorem x_bec {X : zS} (hX : shX X) {q : Nat} (hq : q < 4) (v : Int32) {n : Nat} (hn : n ≤ 40) : ∃ X', fX3_become (51 + 2 * q) v (nI n) X = some ((), X') ∧ X'.1 = X.1 ∧ X'.2.2.2 = X.2.2.2 ∧ ∀ o k, X'.2.1 o k = if o = 52 + 2 * q ∧ k < 40 then 0 else if o = 51 + 2 * q ∧ k = 2 then nI n else if o = 51 + 2 * q ∧ k = 1 then v else X.2.1 o k := by
  obtain ⟨X', e1, e2, e3, e4⟩ := x_zero hq 40 0 zF (zp (zp X (51 + 2 * q) 1 v) (51 + 2 * q) 2 (nI n)) ((hX.zp _ _ _).zp _ _ _) rfl (by decide)
  have e1' : fX3_become_L24 (51 + 2 * q) zF 0 (zp (zp X (51 + 2 * q) 1 v) (51 + 2 * q) 2 (nI n)) = some ((), X') := e1
  have hX1 : shX (zp X (51 + 2 * q) 1 v) := hX.zp _ _ _
  have hc : (if (0 : Int32) < (if Int32.ofNat 40 < nI n then Int32.ofNat 40 else nI n) then (if Int32.ofNat 40 < nI n then Int32.ofNat 40 else nI n) else 0) = nI n := by
    rw [if_neg (show ¬ Int32.ofNat 40 < nI n from nI_nlt (a := 40) hn (by decide))]
    rcases Nat.eq_zero_or_pos n with rfl | hp
    · rw [if_neg (by decide)]; rfl
    · rw [if_pos (show (0 : Int32) < nI n from nI_lt (a := 0) hp (by omega))]
  refine ⟨X', ?_, e2, e3, fun o k => ?_⟩
  · simp only [fX3_become, obs, zletE, zok_sheet hX.1 hq, zok_sheet hX1.1 hq, rX_cells hX1 hq, zla_cells hX1.1 hq, (spX_sheet hq).2]
    refine Eq.trans ?_ e1'
    congr 2
  · rw [e4]
    by_cases c1 : o = 52 + 2 * q ∧ k < 40
    · rw [if_pos ⟨c1.1, by omega, c1.2⟩, if_pos c1]
    · rw [if_neg (by omega), if_neg c1, zp_h, zp_h]
theorem m_zero {q n : Nat} (hq : q < 4) (hn : n ≤ 40) {v : Int32} (hv : ¬ v < 0) : ∀ (m t f : Nat) (M : zS), shM M → t + m = n → m < f → ∃ M', fX8_sheet_L77 0 f (nI q) v (nI n) (nI t) M = some (1, M') ∧ M'.1 = M.1 ∧ M'.2.2.2 = M.2.2.2 ∧ ∀ o k, M'.2.1 o k = if o = 15 ∧ 40 * q + t ≤ k ∧ k < 40 * q + n then 0 else M.2.1 o k
  | m, t, 0, _, _, _, h => by omega
  | 0, t, f + 1, M, hM, h2, _ => by
    have c : nI n ≤ nI t := nI_le (by omega) (by omega)
    refine ⟨M, ?_, rfl, rfl, fun o k => by rw [if_neg (by omega)]⟩
    simp only [fX8_sheet_L77, if_pos c]
  | m + 1, t, f + 1, M, hM, h2, h3 => by
    have c : ¬ nI n ≤ nI t := nI_ge (by omega) (by omega)
    have r15 : M.2.2.2 0 45 = some 15 := hM.r (by decide) (by decide)
    have z15 : zix spM 15 (nI (40 * q + t)) = some (40 * q + t) := zix_of rfl (by show 40 * q + t < 160; omega) (by decide)
    obtain ⟨M', e1, e2, e3, e4⟩ := m_zero hq hn hv m (t + 1) f (zp M 15 (40 * q + t) 0) (hM.zp _ _ _) (by omega) (by omega)
    refine ⟨M', ?_, e2, e3, fun o k => ?_⟩
    · simp only [fX8_sheet_L77, if_neg c, if_neg hv, zokM_0, zokM_1, zokM_2, zokM_3, zokM_4, zokM_5, zokM_6, zokM_7, zokM_8, zokM_9, zokM_10, zokM_11, zokM_12, zokM_13, zokM_14, zokM_15, zlaM_1, zlaM_2, zlaM_3, zlaM_4, zlaM_5, zlaM_6, zlaM_7, zlaM_8, zlaM_9, zlaM_10, zlaM_11, zlaM_12, zlaM_13, zlaM_14, zlaM_15, zp_1, zp_h, zp_r, zp_l, zletE, obs, spMe_0, spMe_1, spMe_2, spMe_3, spMe_4, spMe_5, spMe_6, spMe_7, spMe_8, spMe_9, spMe_10, spMe_11, spMe_12, spMe_13, spMe_14, spMe_15, hM.1, r15, idx40s, z15, nI_1]
      exact e1
    · rw [e4]
      by_cases c1 : o = 15 ∧ 40 * q + (t + 1) ≤ k ∧ k < 40 * q + n
      · rw [if_pos c1, if_pos (by omega)]
      · rw [if_neg c1, zp_h]
        by_cases c2 : o = 15 ∧ k = 40 * q + t
        · rw [if_pos c2, if_pos (by omega)]
        · rw [if_neg c2, if_neg (by omega)]
/-- a SHEET becomes a row of n of a sort, on both sides -/
theorem sheet_both {X M : zS} (hX : shX X) (hM : shM M) (hS : InvS X M) {q st n : Nat} (hq : q < 4) (hst : st ≤ 2) (hn : n ≤ 40) : ∃ X' M', fX3_become (51 + 2 * q) (nI st) (nI n) X = some ((), X') ∧ fX8_sheet 0 (nI q) (nI st) (nI n) M = some (1, M') ∧ X'.1 = X.1 ∧ X'.2.2.2 = X.2.2.2 ∧ (∀ o k, o < 51 → X'.2.1 o k = X.2.1 o k) ∧ M'.1 = M.1 ∧ M'.2.2.2 = M.2.2.2 ∧ (∀ o k, o < 12 → M'.2.1 o k = M.2.1 o k) ∧ InvS X' M' ∧ X'.2.1 (51 + 2 * q) 1 = nI st ∧ X'.2.1 (51 + 2 * q) 2 = nI n ∧ M'.2.1 12 q = 1 ∧ M'.2.1 14 q = nI n := by
  obtain ⟨X', x1, x2, x3, x4⟩ := x_bec hX hq (nI st) hn
  have v0 : ¬ nI st < 0 := nI_pos (by omega)
  have r42 : M.2.2.2 0 42 = some 12 := hM.r (by decide) (by decide)
  have r43 : M.2.2.2 0 43 = some 13 := hM.r (by decide) (by decide)
  have r44 : M.2.2.2 0 44 = some 14 := hM.r (by decide) (by decide)
  have z12 : zix spM 12 (nI q) = some q := zix_of rfl hq (by decide)
  have z13 : zix spM 13 (nI q) = some q := zix_of rfl hq (by decide)
  have z14 : zix spM 14 (nI q) = some q := zix_of rfl hq (by decide)
  let M1 := zp (zp (zp M 12 q 1) 13 q (nI st)) 14 q (nI n)
  have hM1 : shM M1 := hM
  obtain ⟨M', m1, m2, m3, m4⟩ := m_zero hq hn v0 n 0 zF M1 hM1 (by omega) (by show n < 5000; omega)
  have m1' : fX8_sheet_L77 0 zF (nI q) (nI st) (nI n) 0 (zp (zp (zp M 12 q 1) 13 q (nI st)) 14 q (nI n)) = some (1, M') := m1
  have m4' : ∀ o k, M'.2.1 o k = if o = 15 ∧ 40 * q + 0 ≤ k ∧ k < 40 * q + n then 0 else if o = 14 ∧ k = q then nI n else if o = 13 ∧ k = q then nI st else if o = 12 ∧ k = q then 1 else M.2.1 o k := fun o k => by rw [m4]; rfl
  have hl2 : fX8_in (nI st).toInt64 (-1) 2 M = some (1, M) := by
    rw [in_eq, show (-1 : Int64) = (-1 : Int32).toInt64 by decide, show (2 : Int64) = (2 : Int32).toInt64 by decide]
    simp only [tl]
    rw [if_neg (show ¬ nI st < -1 by rcases (show st = 0 ∨ st = 1 ∨ st = 2 by omega) with rfl | rfl | rfl <;> decide), if_neg (show ¬ (2 : Int32) < nI st from nI_nlt (a := 2) (by omega) (by decide))]
  have n0 : (0 : Int32) ≤ nI n := nI_pos' (by omega)
  have n40 : nI n ≤ (40 : Int32) := nI_le (b := 40) (by omega) (by decide)
  refine ⟨X', M', x1, ?_, x2, x3, fun o k ho => ?_, m2, m3, fun o k ho => ?_, fun s hs => ?_, ?_, ?_, ?_, ?_⟩
  · have nar : vp_nar .boolean 1 = 1 := by decide
    simp only [fX8_sheet, fX8_sheet_j34, fX8_sheet_j45, fX8_sheet_j59, obs, m_sheet1 M hq, if_neg n10, hl2, if_neg v0, if_pos n40, if_pos n0, zletE, zokM_0 hM.1, r42, zokM_12 hM.1, z12, zp_1, zp_r, r43, zokM_13 hM.1, z13, r44, zokM_14 hM.1, z14, nar, zokM_0 (show (zp M 12 q 1).1 = 16 from hM.1), zokM_13 (show (zp M 12 q 1).1 = 16 from hM.1), zokM_0 (show (zp (zp M 12 q 1) 13 q (nI st)).1 = 16 from hM.1), zokM_14 (show (zp (zp M 12 q 1) 13 q (nI st)).1 = 16 from hM.1)]
    exact m1'
  · rw [x4, if_neg (by omega), if_neg (by omega), if_neg (by omega)]
  · rw [m4', if_neg (by omega), if_neg (by omega), if_neg (by omega), if_neg (by omega)]
  · obtain ⟨w1, w2⟩ := hS s hs
    by_cases e : s = q
    · subst e
      have a1 : X'.2.1 (51 + 2 * s) 1 = nI st := by rw [x4, if_neg (by omega), if_neg (by omega), if_pos ⟨rfl, rfl⟩]
      have a2 : X'.2.1 (51 + 2 * s) 2 = nI n := by rw [x4, if_neg (by omega), if_pos ⟨rfl, rfl⟩]
      have b2 : M'.2.1 12 s = 1 := by rw [m4', if_neg (by omega), if_neg (by omega), if_neg (by omega), if_pos ⟨rfl, rfl⟩]
      have b3 : M'.2.1 13 s = nI st := by rw [m4', if_neg (by omega), if_neg (by omega), if_pos ⟨rfl, rfl⟩]
      have b4 : M'.2.1 14 s = nI n := by rw [m4', if_neg (by omega), if_pos ⟨rfl, rfl⟩]
      refine ⟨Or.inl (b3.trans a1.symm), Or.inr ⟨⟨st, hst, a1⟩, b2, n, hn, a2, b4, fun j hj => ?_⟩⟩
      rw [x4, if_pos ⟨rfl, by omega⟩, m4', if_pos ⟨rfl, by omega, by omega⟩]
    · have a1 : ∀ k, X'.2.1 (51 + 2 * s) k = X.2.1 (51 + 2 * s) k := fun k => by rw [x4, if_neg (by omega), if_neg (by omega), if_neg (by omega)]
      have a2 : ∀ k, X'.2.1 (52 + 2 * s) k = X.2.1 (52 + 2 * s) k := fun k => by rw [x4, if_neg (by omega), if_neg (by omega), if_neg (by omega)]
      have b : ∀ o, o < 15 → M'.2.1 o s = M.2.1 o s := fun o ho => by rw [m4', if_neg (by omega), if_neg (by omega), if_neg (by omega), if_neg (by omega)]
      rw [a1, a1, b 13 (by decide), b 12 (by decide), b 14 (by decide)]
      refine ⟨w1, ?_⟩
      rcases w2 with w2 | ⟨w2, w3, u, u1, u2, u3, u4⟩
      · exact Or.inl w2
      · exact Or.inr ⟨w2, w3, u, u1, u2, u3, fun j hj => by rw [a2, m4', if_neg (by omega), if_neg (by omega), if_neg (by omega), if_neg (by omega)]; exact u4 j hj⟩
  · rw [x4, if_neg (by omega), if_neg (by omega), if_pos ⟨rfl, rfl⟩]
  · rw [x4, if_neg (by omega), if_pos ⟨rfl, rfl⟩]
  · rw [m4', if_neg (by omega), if_neg (by omega), if_neg (by omega), if_pos ⟨rfl, rfl⟩]
  · rw [m4', if_neg (by omega), if_pos ⟨rfl, rfl⟩]
