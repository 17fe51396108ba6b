/-- one of ASKERS in thought, on both sides -/
def Th (X M : zS) (p n : Nat) (L : Nat → Nat) (k nu s h nh d t sp : Nat) (F : Nat → (Nat → Int32) → Int32) : Prop := Vok L k nu s h nh d ∧ shX X ∧ PcX X L k nu s h nh d t F ∧ X.2.1 7 7 = nI sp ∧ shM M ∧ PcM M p n L k nu s h nh d ∧ RlM M t F ∧ M.2.1 6 (4 * p + 3) = nI sp ∧ sp ≤ 9999
theorem th_step {X M : zS} {p n : Nat} {L : Nat → Nat} {k nu s h nh d t sp : Nat} {F : Nat → (Nat → Int32) → Int32} (hT : Th X M p n L k nu s h nh d t sp F) {a10 a11 a12 a13 a14 : Int32} (ha : acX X a10 a11 a12 a13 a14) {st : Nat} (hst : st ≤ 4095) : ∃ X' M' s' h' sp' g gl c, fX6_askFor 7 (nI st) X = some (g, X') ∧ fX8_asked 0 (nI p) (nI st) M = some (g, M') ∧ frA X X' ∧ frB p M M' ∧ Th X' M' p n L k nu s' h' nh d t sp' F ∧ M'.2.1 0 28 = gl ∧ M'.2.1 0 29 = c ∧ ((g = -1 ∧ gl = 0 ∧ acX X' g a11 (a12 + 1) a13 (a14 + c)) ∨ (¬ g = -1 ∧ acX X' g (a11 + 1) a12 (a13 + gl) (a14 + c))) := by
  obtain ⟨hV, hX, hP, h7, hM, hQ, hR, hq, hsp⟩ := hT
  obtain ⟨X', e1, f1, p1, x7, ac⟩ := x_asked hX hV hP h7 ha hst
  obtain ⟨M', e2, f2, p2, m3, m28, m29⟩ := m_asked hM hV hQ hR hq hsp hst
  obtain ⟨c, hc, hcs⟩ := csS_nat nu h d F st
  obtain ⟨c1, c2⟩ := spS_nat hsp hc
  rw [hcs, c1] at x7 m3
  have hg := gv_or' (L := L) (k := k) (nu := nu) (s := s) (h := h) (nh := nh) (d := d) (F := F) (st := st)
  refine ⟨X', M', s ||| shN L k st, hdS h (gvS L k nu s h nh d F st), min (sp + c) 9999, gvS L k nu s h nh d F st, _, _, e1, e2, f1, f2, ⟨⟨hV.1, hV.2.1, hV.2.2.1, or_le hV.2.2.2.1 (shN_le hV.1 k hst), hdS_le hV.2.2.2.2.1 hg, hV.2.2.2.2.2.1, hV.2.2.2.2.2.2⟩, f1.sh hX, p1, x7, f2.sh hM, p2, hR.frb f2, m3, c2⟩, m28, m29, ?_⟩
  by_cases e : gvS L k nu s h nh d F st = -1
  · refine Or.inl ⟨e, by rw [if_pos e], ?_⟩
    rw [if_pos e, if_pos e, if_pos e] at ac
    exact ac
  · refine Or.inr ⟨e, ?_⟩
    rw [if_neg e, if_neg e, if_neg e] at ac
    rw [if_neg e]
    exact ac
/-- all that the reference's askings in a row may change, but p's row -/
def frT (p : Nat) (M M' : zS) : Prop := M'.1 = M.1 ∧ M'.2.2.2 = M.2.2.2 ∧ ∀ o k, (o = 0 ∧ 13 ≤ k ∧ k ≤ 38 ∧ k ≠ 31) ∨ (o = 6 ∧ 4 * p + 1 ≤ k ∧ k ≤ 4 * p + 3) ∨ M'.2.1 o k = M.2.1 o k
theorem frT.rf (p : Nat) (M : zS) : frT p M M := ⟨rfl, rfl, fun _ _ => Or.inr (Or.inr rfl)⟩
theorem frB.t {p : Nat} {M M' : zS} (h : frB p M M') : frT p M M' := ⟨h.1, h.2.1, fun o k => by
  rcases h.2.2 o k with a | a | a
  · exact Or.inl ⟨a.1, a.2.1, by omega⟩
  · exact Or.inr (Or.inl a)
  · exact Or.inr (Or.inr a)⟩
theorem frT.tr {p : Nat} {X Y Z : zS} (h : frT p X Y) (g : frT p Y Z) : frT p X Z := ⟨g.1.trans h.1, g.2.1.trans h.2.1, fun o k => by
  rcases h.2.2 o k with a | a | a
  · exact Or.inl a
  · exact Or.inr (Or.inl a)
  · rcases g.2.2 o k with b | b | b
    · exact Or.inl b
    · exact Or.inr (Or.inl b)
    · exact Or.inr (Or.inr (b.trans a))⟩
theorem frT.zp0 {p : Nat} {M N : zS} (h : frT p M N) {k : Nat} (hk : 13 ≤ k ∧ k ≤ 38 ∧ k ≠ 31) (v : Int32) : frT p M (zp N 0 k v) := ⟨h.1, h.2.1, fun o j => by
  rcases h.2.2 o j with a | a | a
  · exact Or.inl a
  · exact Or.inr (Or.inl a)
  · by_cases e : o = 0 ∧ j = k
    · exact Or.inl ⟨e.1, by omega⟩
    · exact Or.inr (Or.inr (by rw [zp_h, if_neg e]; exact a))⟩
theorem frT.at {p : Nat} {M M' : zS} (h : frT p M M') {o k : Nat} (h1 : o ≠ 0 ∨ k < 13 ∨ 38 < k) (h2 : o ≠ 6 ∨ k < 4 * p + 1 ∨ 4 * p + 3 < k) : M'.2.1 o k = M.2.1 o k := by
  rcases h.2.2 o k with a | a | a
  · omega
  · omega
  · exact a
theorem frT.s {p : Nat} {M M' : zS} (h : frT p M M') : frS M M' := ⟨h.1, h.2.1, fun o k => by
  rcases h.2.2 o k with a | a | a
  · exact Or.inl ⟨a.1, a.2.1, a.2.2.1⟩
  · exact Or.inr (Or.inr (Or.inr (Or.inl a.1)))
  · exact Or.inr (Or.inr (Or.inr (Or.inr a)))⟩
/-- numbers of the reference that the thought doesn't hang on -/
theorem Th.m0 {X M : zS} {p n : Nat} {L : Nat → Nat} {k nu s h nh d t sp : Nat} {F : Nat → (Nat → Int32) → Int32} (hT : Th X M p n L k nu s h nh d t sp F) {j : Nat} (hj : 13 ≤ j) (v : Int32) : Th X (zp M 0 j v) p n L k nu s h nh d t sp F := by
  obtain ⟨hV, hX, hP, h7, hM, ⟨a, a1, a2, a3, a4, a5, a6, a7, a8, a9⟩, ⟨r1, r2⟩, hq, hsp⟩ := hT
  have q : ∀ o i, o ≠ 0 ∨ i < 13 → (zp M 0 j v).2.1 o i = M.2.1 o i := fun o i h => by rw [zp_h, if_neg (by omega)]
  refine ⟨hV, hX, hP, h7, hM, ⟨fun u hu => (q _ _ (Or.inl (by decide))).trans (a u hu), a1, a2, (q _ _ (Or.inr (by decide))).trans a3, (q _ _ (Or.inl (by decide))).trans a4, (q _ _ (Or.inl (by decide))).trans a5, (q _ _ (Or.inl (by decide))).trans a6, (q _ _ (Or.inl (by decide))).trans a7, (q _ _ (Or.inr (by decide))).trans a8, by rw [q _ _ (Or.inl (by decide))]; exact a9⟩, ⟨(q _ _ (Or.inr (by decide))).trans r1, r2.mono (fun i _ => q _ _ (Or.inl (by decide))) (q _ _ (Or.inl (by decide)))⟩, (q _ _ (Or.inl (by decide))).trans hq, hsp⟩
/-- a DAY more, in thought -/
theorem Th.day {X M : zS} {p n : Nat} {L : Nat → Nat} {k nu s h nh d t sp : Nat} {F : Nat → (Nat → Int32) → Int32} (hT : Th X M p n L k nu s h nh d t sp F) (hd : d + 1 ≤ 2000) : Th (zp X 7 9 (nI (d + 1))) (zp M 0 7 (nI (d + 1))) p n L k nu s h nh (d + 1) t sp F := by
  obtain ⟨⟨v1, v2, v3, v4, v5, v6, -⟩, hX, ⟨b, b3, b4, b5, b6, b8, b9, bt, br, bT⟩, h7, hM, ⟨a, a1, a2, a3, a4, a5, a6, a7, a8, a9⟩, ⟨r1, r2⟩, hq, hsp⟩ := hT
  have q : ∀ o i, o ≠ 0 ∨ i ≠ 7 → (zp M 0 7 (nI (d + 1))).2.1 o i = M.2.1 o i := fun o i h => by rw [zp_h, if_neg (by omega)]
  have x : ∀ o i, o ≠ 7 ∨ i ≠ 9 → (zp X 7 9 (nI (d + 1))).2.1 o i = X.2.1 o i := fun o i h => by rw [zp_h, if_neg (by omega)]
  refine ⟨⟨v1, v2, v3, v4, v5, v6, hd⟩, hX, ⟨fun u hu => (x _ _ (Or.inl (by decide))).trans (b u hu), (x _ _ (Or.inr (by decide))).trans b3, (x _ _ (Or.inr (by decide))).trans b4, (x _ _ (Or.inr (by decide))).trans b5, (x _ _ (Or.inr (by decide))).trans b6, (x _ _ (Or.inr (by decide))).trans b8, by rw [zp_h, if_pos ⟨rfl, rfl⟩], bt, br, bT.mono (fun i => Or.inl (x _ _ (Or.inl (by omega)))) (fun i => x _ _ (Or.inl (by omega))) (fun i => x _ _ (Or.inl (by omega)))⟩, (x _ _ (Or.inr (by decide))).trans h7, hM, ⟨fun u hu => (q _ _ (Or.inl (by decide))).trans (a u hu), a1, a2, (q _ _ (Or.inr (by decide))).trans a3, (q _ _ (Or.inl (by decide))).trans a4, (q _ _ (Or.inl (by decide))).trans a5, (q _ _ (Or.inl (by decide))).trans a6, (q _ _ (Or.inl (by decide))).trans a7, by rw [zp_h, if_pos ⟨rfl, rfl⟩], by rw [q _ _ (Or.inl (by decide))]; exact a9⟩, ⟨(q _ _ (Or.inr (by decide))).trans r1, r2.mono (fun i _ => q _ _ (Or.inl (by decide))) (q _ _ (Or.inl (by decide)))⟩, (q _ _ (Or.inl (by decide))).trans hq, hsp⟩
/-- laying aside and back -/
theorem m_aside : ∀ (m t n : Nat) (M : zS), shM M → t + m = 20 → m < n → ∃ M', fX8_laysAside_L2 0 n (nI t) M = some ((), M') ∧ M'.1 = M.1 ∧ M'.2.2.2 = M.2.2.2 ∧ ∀ o k, M'.2.1 o k = if o = 8 ∧ t ≤ k ∧ k < 20 then M.2.1 6 k else if o = 0 ∧ k = 31 then M.2.1 0 7 else M.2.1 o k
  | m, t, 0, _, _, _, h => by omega
  | 0, t, n + 1, M, h1, h2, _ => by
    have e : t = 20 := by omega
    subst e
    refine ⟨zp M 0 31 (M.2.1 0 7), ?_, rfl, rfl, fun o k => by rw [zp_h, if_neg (show ¬ (o = 8 ∧ 20 ≤ k ∧ k < 20) by omega)]⟩
    simp only [fX8_laysAside_L2, if_pos (show (20 : Int32) ≤ nI 20 from by decide), zokM_0, zokM_1, zokM_2, zokM_3, zokM_4, zokM_5, zokM_6, zokM_7, zokM_8, zokM_9, zokM_10, zokM_11, zokM_12, zokM_13, zokM_14, zokM_15, zlaM_1, zlaM_2, zlaM_3, zlaM_4, zlaM_5, zlaM_6, zlaM_7, zlaM_8, zlaM_9, zlaM_10, zlaM_11, zlaM_12, zlaM_13, zlaM_14, zlaM_15, zp_1, zp_h, zp_r, zp_l, zletE, obs, spMe_0, spMe_1, spMe_2, spMe_3, spMe_4, spMe_5, spMe_6, spMe_7, spMe_8, spMe_9, spMe_10, spMe_11, spMe_12, spMe_13, spMe_14, spMe_15, h1.1]
  | m + 1, t, n + 1, M, hM, h2, h3 => by
    have c : ¬ (20 : Int32) ≤ nI t := nI_ge (b := 20) (a := t) (by omega) (by decide)
    have r10 : M.2.2.2 0 10 = some 6 := hM.r (by decide) (by decide)
    have r30 : M.2.2.2 0 30 = some 8 := hM.r (by decide) (by decide)
    have za : zix spM 6 (nI t) = some t := zix_of rfl (by show t < 20; omega) (by decide)
    have zd : zix spM 8 (nI t) = some t := zix_of rfl (by show t < 20; omega) (by decide)
    obtain ⟨M', e1, e2, e3, e4⟩ := m_aside m (t + 1) n (zp M 8 t (M.2.1 6 t)) (hM.zp _ _ _) (by omega) (by omega)
    refine ⟨M', ?_, e2, e3, fun o k => ?_⟩
    · simp only [fX8_laysAside_L2, if_neg c, zokM_0, zokM_1, zokM_2, zokM_3, zokM_4, zokM_5, zokM_6, zokM_7, zokM_8, zokM_9, zokM_10, zokM_11, zokM_12, zokM_13, zokM_14, zokM_15, zlaM_1, zlaM_2, zlaM_3, zlaM_4, zlaM_5, zlaM_6, zlaM_7, zlaM_8, zlaM_9, zlaM_10, zlaM_11, zlaM_12, zlaM_13, zlaM_14, zlaM_15, zp_1, zp_h, zp_r, zp_l, zletE, obs, spMe_0, spMe_1, spMe_2, spMe_3, spMe_4, spMe_5, spMe_6, spMe_7, spMe_8, spMe_9, spMe_10, spMe_11, spMe_12, spMe_13, spMe_14, spMe_15, hM.1, r10, r30, za, zd, nI_1]
      exact e1
    · rw [e4]
      by_cases c1 : o = 8 ∧ t + 1 ≤ k ∧ k < 20
      · rw [if_pos c1, if_pos ⟨c1.1, by omega, c1.2.2⟩, zp_h, if_neg (by omega)]
      · rw [if_neg c1, zp_h, zp_h]
        by_cases c2 : o = 8 ∧ k = t
        · obtain ⟨rfl, rfl⟩ := c2
          rw [if_neg (show ¬ ((8 : Nat) = 0 ∧ k = 31) by omega), if_pos ⟨rfl, rfl⟩, if_pos ⟨rfl, Nat.le_refl _, by omega⟩]
        · rw [if_neg c2, if_neg (show ¬ (o = 8 ∧ t ≤ k ∧ k < 20) by omega), if_neg (show ¬ ((0 : Nat) = 8 ∧ 7 = t) by omega)]
theorem m_back2 : ∀ (m t n : Nat) (M : zS), shM M → t + m = 20 → m < n → ∃ M', fX8_laysBack_L2 0 n (nI t) M = some ((), M') ∧ M'.1 = M.1 ∧ M'.2.2.2 = M.2.2.2 ∧ ∀ o k, M'.2.1 o k = if o = 6 ∧ t ≤ k ∧ k < 20 then M.2.1 8 k else if o = 0 ∧ k = 7 then M.2.1 0 31 else M.2.1 o k
  | m, t, 0, _, _, _, h => by omega
  | 0, t, n + 1, M, h1, h2, _ => by
    have e : t = 20 := by omega
    subst e
    refine ⟨zp M 0 7 (M.2.1 0 31), ?_, rfl, rfl, fun o k => by rw [zp_h, if_neg (show ¬ (o = 6 ∧ 20 ≤ k ∧ k < 20) by omega)]⟩
    simp only [fX8_laysBack_L2, if_pos (show (20 : Int32) ≤ nI 20 from by decide), zokM_0, zokM_1, zokM_2, zokM_3, zokM_4, zokM_5, zokM_6, zokM_7, zokM_8, zokM_9, zokM_10, zokM_11, zokM_12, zokM_13, zokM_14, zokM_15, zlaM_1, zlaM_2, zlaM_3, zlaM_4, zlaM_5, zlaM_6, zlaM_7, zlaM_8, zlaM_9, zlaM_10, zlaM_11, zlaM_12, zlaM_13, zlaM_14, zlaM_15, zp_1, zp_h, zp_r, zp_l, zletE, obs, spMe_0, spMe_1, spMe_2, spMe_3, spMe_4, spMe_5, spMe_6, spMe_7, spMe_8, spMe_9, spMe_10, spMe_11, spMe_12, spMe_13, spMe_14, spMe_15, h1.1]
  | m + 1, t, n + 1, M, hM, h2, h3 => by
    have c : ¬ (20 : Int32) ≤ nI t := nI_ge (b := 20) (a := t) (by omega) (by decide)
    have r10 : M.2.2.2 0 10 = some 6 := hM.r (by decide) (by decide)
    have r30 : M.2.2.2 0 30 = some 8 := hM.r (by decide) (by decide)
    have za : zix spM 6 (nI t) = some t := zix_of rfl (by show t < 20; omega) (by decide)
    have zd : zix spM 8 (nI t) = some t := zix_of rfl (by show t < 20; omega) (by decide)
    obtain ⟨M', e1, e2, e3, e4⟩ := m_back2 m (t + 1) n (zp M 6 t (M.2.1 8 t)) (hM.zp _ _ _) (by omega) (by omega)
    refine ⟨M', ?_, e2, e3, fun o k => ?_⟩
    · simp only [fX8_laysBack_L2, if_neg c, zokM_0, zokM_1, zokM_2, zokM_3, zokM_4, zokM_5, zokM_6, zokM_7, zokM_8, zokM_9, zokM_10, zokM_11, zokM_12, zokM_13, zokM_14, zokM_15, zlaM_1, zlaM_2, zlaM_3, zlaM_4, zlaM_5, zlaM_6, zlaM_7, zlaM_8, zlaM_9, zlaM_10, zlaM_11, zlaM_12, zlaM_13, zlaM_14, zlaM_15, zp_1, zp_h, zp_r, zp_l, zletE, obs, spMe_0, spMe_1, spMe_2, spMe_3, spMe_4, spMe_5, spMe_6, spMe_7, spMe_8, spMe_9, spMe_10, spMe_11, spMe_12, spMe_13, spMe_14, spMe_15, hM.1, r10, r30, za, zd, nI_1]
      exact e1
    · rw [e4]
      by_cases c1 : o = 6 ∧ t + 1 ≤ k ∧ k < 20
      · rw [if_pos c1, if_pos ⟨c1.1, by omega, c1.2.2⟩, zp_h, if_neg (by omega)]
      · rw [if_neg c1, zp_h, zp_h]
        by_cases c2 : o = 6 ∧ k = t
        · obtain ⟨rfl, rfl⟩ := c2
          rw [if_neg (show ¬ ((6 : Nat) = 0 ∧ k = 7) by omega), if_pos ⟨rfl, rfl⟩, if_pos ⟨rfl, Nat.le_refl _, by omega⟩]
        · rw [if_neg c2, if_neg (show ¬ (o = 6 ∧ t ≤ k ∧ k < 20) by omega), if_neg (show ¬ ((0 : Nat) = 6 ∧ 31 = t) by omega)]
/-- laid aside, changed in thought, laid back: as it was -/
theorem laid {p : Nat} {M M1 M2 : zS} (h1 : M1.1 = M.1 ∧ M1.2.2.2 = M.2.2.2 ∧ ∀ o k, M1.2.1 o k = if o = 8 ∧ 0 ≤ k ∧ k < 20 then M.2.1 6 k else if o = 0 ∧ k = 31 then M.2.1 0 7 else M.2.1 o k) (h2 : M2.1 = M1.1 ∧ M2.2.2.2 = M1.2.2.2 ∧ ∀ o k, (o = 0 ∧ (k = 7 ∨ (13 ≤ k ∧ k ≤ 38 ∧ k ≠ 31))) ∨ (o = 6 ∧ 4 * p + 1 ≤ k ∧ k ≤ 4 * p + 3) ∨ M2.2.1 o k = M1.2.1 o k) (hp : p < 5) (hM2 : shM M2) : ∃ M3, fX8_laysBack 0 M2 = some ((), M3) ∧ frN M M3 := by
  obtain ⟨M3, e1, e2, e3, e4⟩ := m_back2 20 0 zF M2 hM2 rfl (by decide)
  refine ⟨M3, e1, e2.trans (h2.1.trans h1.1), e3.trans (h2.2.1.trans h1.2.1), fun o k => ?_⟩
  rw [e4]
  by_cases c6 : o = 6 ∧ 0 ≤ k ∧ k < 20
  · rw [if_pos c6]
    rcases h2.2.2 8 k with a | a | a
    · omega
    · omega
    · rw [a, h1.2.2, if_pos ⟨rfl, c6.2⟩, c6.1]
      exact Or.inr (Or.inr (Or.inr rfl))
  · rw [if_neg c6]
    by_cases c7 : o = 0 ∧ k = 7
    · rw [if_pos c7]
      rcases h2.2.2 0 31 with a | a | a
      · omega
      · omega
      · rw [a, h1.2.2, if_neg (by omega), if_pos ⟨rfl, rfl⟩, c7.1, c7.2]
        exact Or.inr (Or.inr (Or.inr rfl))
    · rw [if_neg c7]
      rcases h2.2.2 o k with a | a | a
      · exact Or.inl (by omega)
      · omega
      · rw [a, h1.2.2]
        by_cases c8 : o = 8
        · exact Or.inr (Or.inl c8)
        · rw [if_neg (by omega)]
          by_cases c9 : o = 0 ∧ k = 31
          · exact Or.inl (by omega)
          · rw [if_neg c9]; exact Or.inr (Or.inr (Or.inr rfl))
/-- the thought, laid aside -/
theorem Th.aside {X M M1 : zS} {p n : Nat} {L : Nat → Nat} {k nu s h nh d t sp : Nat} {F : Nat → (Nat → Int32) → Int32} (hT : Th X M p n L k nu s h nh d t sp F) (h1 : M1.1 = M.1 ∧ M1.2.2.2 = M.2.2.2 ∧ ∀ o k, M1.2.1 o k = if o = 8 ∧ 0 ≤ k ∧ k < 20 then M.2.1 6 k else if o = 0 ∧ k = 31 then M.2.1 0 7 else M.2.1 o k) : Th X M1 p n L k nu s h nh d t sp F := by
  obtain ⟨hV, hX, hP, h7, hM, ⟨a, a1, a2, a3, a4, a5, a6, a7, a8, a9⟩, ⟨r1, r2⟩, hq, hsp⟩ := hT
  have q : ∀ o i, o ≠ 8 → (o ≠ 0 ∨ i ≠ 31) → M1.2.1 o i = M.2.1 o i := fun o i h8 h => by rw [h1.2.2, if_neg (by omega), if_neg (by omega)]
  refine ⟨hV, hX, hP, h7, ⟨h1.1.trans hM.1, fun o ho i hi => by rw [h1.2.1]; exact hM.2 o ho i hi⟩, ⟨fun u hu => (q _ _ (by decide) (Or.inl (by decide))).trans (a u hu), a1, a2, (q _ _ (by decide) (Or.inr (by decide))).trans a3, (q _ _ (by decide) (Or.inl (by decide))).trans a4, (q _ _ (by decide) (Or.inl (by decide))).trans a5, (q _ _ (by decide) (Or.inl (by decide))).trans a6, (q _ _ (by decide) (Or.inl (by decide))).trans a7, (q _ _ (by decide) (Or.inr (by decide))).trans a8, by rw [q _ _ (by decide) (Or.inl (by decide))]; exact a9⟩, ⟨(q _ _ (by decide) (Or.inr (by decide))).trans r1, r2.mono (fun i _ => q _ _ (by decide) (Or.inl (by decide))) (q _ _ (by decide) (Or.inl (by decide)))⟩, (q _ _ (by decide) (Or.inl (by decide))).trans hq, hsp⟩
theorem x_at {X : zS} (hX : shX X) {k : Nat} (h : k < 4) {n i : Nat} (hn : X.2.1 (51 + 2 * k) 2 = nI n) (h40 : n ≤ 40) (hi : i < n) : fX3_at (51 + 2 * k) (nI i) X = some (X.2.1 (52 + 2 * k) i, X) := by
  have h0 : ¬ nI i < 0 := nI_pos (by omega)
  have h1 : ¬ nI n ≤ nI i := nI_ge hi (by omega)
  have h2 : ¬ Int32.ofNat 40 ≤ nI i := nI_ge (b := 40) (by omega) (by decide)
  simp only [fX3_at, obs, if_neg h0, zok_sheet hX.1 h, hn, if_neg h1, rX_cells hX h, zla_cells hX.1 h, (spX_sheet h).2, h2, if_false, zok_cells hX.1 h, zix_cells h (show i < 40 by omega)]
/-- a sheet that is there, on both sides -/
def Sht (X M : zS) (q m : Nat) : Prop := q < 4 ∧ m ≤ 40 ∧ X.2.1 (51 + 2 * q) 2 = nI m ∧ M.2.1 14 q = nI m ∧ ∀ j, j < m → X.2.1 (52 + 2 * q) j = M.2.1 15 (40 * q + j)
theorem Sht.fr {X M X' M' : zS} {q m : Nat} (h : Sht X M q m) (f : ∀ o k, 51 ≤ o → X'.2.1 o k = X.2.1 o k) (g : ∀ o k, 10 ≤ o → M'.2.1 o k = M.2.1 o k) : Sht X' M' q m := by
  obtain ⟨h1, h2, h3, h4, h5⟩ := h
  exact ⟨h1, h2, (f _ _ (by omega)).trans h3, (g _ _ (by decide)).trans h4, fun j hj => by rw [f _ _ (by omega), g _ _ (by decide)]; exact h5 j hj⟩
/-- what a sheet's numbers are refused for -/
def rbF (c : Nat → Int32) : Nat → Nat → Int32
  | 0, _ => 0
  | m + 1, j => if c j < 1 ∨ 4095 < c j then -1002 else rbF c m (j + 1)
theorem rbF_0 {c : Nat → Int32} : ∀ (m j : Nat), rbF c m j = 0 → ∀ i, j ≤ i → i < j + m → ∃ st, 1 ≤ st ∧ st ≤ 4095 ∧ c i = nI st
  | 0, j, _, i, h1, h2 => by omega
  | m + 1, j, h, i, h1, h2 => by
    rw [rbF] at h
    by_cases b : c j < 1 ∨ 4095 < c j
    · rw [if_pos b] at h; exact absurd h (by decide)
    · rw [if_neg b] at h
      by_cases e : i = j
      · subst e
        rcases set_cases (c i) with q | q
        · exact absurd q b
        · exact q
      · exact rbF_0 m (j + 1) h i (by omega) (by omega)
theorem x_refuse {X M : zS} (hX : shX X) {q m0 : Nat} (hS : Sht X M q m0) : ∀ (m j n : Nat), j + m = m0 → m < n → fX7_rowRefusal_L13 n (some (51 + 2 * q)) (nI j) X = some (rbF (fun j => M.2.1 15 (40 * q + j)) m j, X)
  | m, j, 0, _, h => by omega
  | 0, j, n + 1, e, _ => by
    obtain ⟨h1, h2, h3, h4, h5⟩ := hS
    have c : nI m0 ≤ nI j := nI_le (by omega) (by omega)
    simp only [fX7_rowRefusal_L13, obs, zok_sheet hX.1 h1, h3, if_pos c]
    rfl
  | m + 1, j, n + 1, e, hn => by
    have ih := x_refuse hX hS m (j + 1) n (by omega) (by omega)
    obtain ⟨h1, h2, h3, h4, h5⟩ := hS
    have c : ¬ nI m0 ≤ nI j := nI_ge (by omega) (by omega)
    have ea := x_at hX h1 h3 h2 (show j < m0 by omega)
    rw [h5 j (by omega)] at ea
    rw [rbF]
    by_cases b : M.2.1 15 (40 * q + j) < 1 ∨ 4095 < M.2.1 15 (40 * q + j)
    · rw [if_pos b]
      simp only [fX7_rowRefusal_L13, obs, zok_sheet hX.1 h1, h3, if_neg c, ea, x_isAsked0 b, if_true]
    · rw [if_neg b]
      rcases set_cases (M.2.1 15 (40 * q + j)) with w | ⟨st, s1, s2, s3⟩
      · exact absurd w b
      · simp only [fX7_rowRefusal_L13, obs, zok_sheet hX.1 h1, h3, if_neg c, ea, s3, x_isAsked1 s1 s2, if_neg n10, nI_1]
        exact ih
theorem m_refuse {X M : zS} (hM : shM M) {q m0 : Nat} (hS : Sht X M q m0) : ∀ (m j n : Nat), j + m = m0 → m < n → fX8_rowBad_L15 0 n (nI q) (nI j) M = some (rbF (fun j => M.2.1 15 (40 * q + j)) m j, M)
  | m, j, 0, _, h => by omega
  | 0, j, n + 1, e, _ => by
    obtain ⟨h1, h2, h3, h4, h5⟩ := hS
    have r14 : M.2.2.2 0 44 = some 14 := hM.r (by decide) (by decide)
    have z14 : zix spM 14 (nI q) = some q := zix_of rfl h1 (by decide)
    have c : nI m0 ≤ nI j := nI_le (by omega) (by omega)
    simp only [fX8_rowBad_L15, zokM_0, zokM_1, zokM_2, zokM_3, zokM_4, zokM_5, zokM_6, zokM_7, zokM_8, zokM_9, zokM_10, zokM_11, zokM_12, zokM_13, zokM_14, zokM_15, zlaM_1, zlaM_2, zlaM_3, zlaM_4, zlaM_5, zlaM_6, zlaM_7, zlaM_8, zlaM_9, zlaM_10, zlaM_11, zlaM_12, zlaM_13, zlaM_14, zlaM_15, zp_1, zp_h, zp_r, zp_l, zletE, obs, spMe_0, spMe_1, spMe_2, spMe_3, spMe_4, spMe_5, spMe_6, spMe_7, spMe_8, spMe_9, spMe_10, spMe_11, spMe_12, spMe_13, spMe_14, spMe_15, hM.1, r14, z14, h4, if_pos c]
    rfl
  | m + 1, j, n + 1, e, hn => by
    have ih := m_refuse hM hS m (j + 1) n (by omega) (by omega)
    obtain ⟨h1, h2, h3, h4, h5⟩ := hS
    have r14 : M.2.2.2 0 44 = some 14 := hM.r (by decide) (by decide)
    have r15 : M.2.2.2 0 45 = some 15 := hM.r (by decide) (by decide)
    have z14 : zix spM 14 (nI q) = some q := zix_of rfl h1 (by decide)
    have z15 : zix spM 15 (nI (40 * q + j)) = some (40 * q + j) := zix_of rfl (by show 40 * q + j < 160; omega) (by decide)
    have c : ¬ nI m0 ≤ nI j := nI_ge (by omega) (by omega)
    rw [rbF]
    by_cases b : M.2.1 15 (40 * q + j) < 1 ∨ 4095 < M.2.1 15 (40 * q + j)
    · rw [if_pos b]
      simp only [fX8_rowBad_L15, zokM_0, zokM_1, zokM_2, zokM_3, zokM_4, zokM_5, zokM_6, zokM_7, zokM_8, zokM_9, zokM_10, zokM_11, zokM_12, zokM_13, zokM_14, zokM_15, zlaM_1, zlaM_2, zlaM_3, zlaM_4, zlaM_5, zlaM_6, zlaM_7, zlaM_8, zlaM_9, zlaM_10, zlaM_11, zlaM_12, zlaM_13, zlaM_14, zlaM_15, zp_1, zp_h, zp_r, zp_l, zletE, obs, spMe_0, spMe_1, spMe_2, spMe_3, spMe_4, spMe_5, spMe_6, spMe_7, spMe_8, spMe_9, spMe_10, spMe_11, spMe_12, spMe_13, spMe_14, spMe_15, hM.1, r14, z14, h4, if_neg c, r15, idx40s, z15, m_set0 b, if_true]
    · rw [if_neg b]
      rcases set_cases (M.2.1 15 (40 * q + j)) with w | ⟨st, s1, s2, s3⟩
      · exact absurd w b
      · simp only [fX8_rowBad_L15, zokM_0, zokM_1, zokM_2, zokM_3, zokM_4, zokM_5, zokM_6, zokM_7, zokM_8, zokM_9, zokM_10, zokM_11, zokM_12, zokM_13, zokM_14, zokM_15, zlaM_1, zlaM_2, zlaM_3, zlaM_4, zlaM_5, zlaM_6, zlaM_7, zlaM_8, zlaM_9, zlaM_10, zlaM_11, zlaM_12, zlaM_13, zlaM_14, zlaM_15, zp_1, zp_h, zp_r, zp_l, zletE, obs, spMe_0, spMe_1, spMe_2, spMe_3, spMe_4, spMe_5, spMe_6, spMe_7, spMe_8, spMe_9, spMe_10, spMe_11, spMe_12, spMe_13, spMe_14, spMe_15, hM.1, r14, z14, h4, if_neg c, r15, idx40s, z15, s3, m_set1 s1 s2, if_neg n10, nI_1]
        exact ih
