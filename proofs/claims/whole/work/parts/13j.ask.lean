/-- alike but for one in thought, names, stacks, and what ASKERS had shut, had, spent -/
def frR (X X' : zS) : Prop := X'.1 = X.1 ∧ (∀ o k, (o = 7 ∧ k = 2) ∨ X'.2.2.2 o k = X.2.2.2 o k) ∧ ∀ o k, o = 7 ∨ o = 8 ∨ (∃ t, t < 6 ∧ ((o = 27 + 4 * t ∧ k = 5) ∨ o = 30 + 4 * t)) ∨ (22 ≤ o ∧ o < 27 ∧ 2 ≤ k) ∨ X'.2.1 o k = X.2.1 o k
def frS (M M' : zS) : Prop := M'.1 = M.1 ∧ M'.2.2.2 = M.2.2.2 ∧ ∀ o k, (o = 0 ∧ 13 ≤ k ∧ k ≤ 38) ∨ o = 8 ∨ o = 9 ∨ o = 6 ∨ M'.2.1 o k = M.2.1 o k
theorem frC.r {X X' : zS} (h : frC X X') : frR X X' := ⟨h.1, h.2.1, fun o k => by
  rcases h.2.2 o k with a | a | a | a
  · exact Or.inl a
  · exact Or.inr (Or.inl a)
  · exact Or.inr (Or.inr (Or.inl a))
  · exact Or.inr (Or.inr (Or.inr (Or.inr a)))⟩
theorem frR.at {X X' : zS} (h : frR X X') {o k : Nat} (h7 : o ≠ 7) (h8 : o ≠ 8) (ht : (o < 22 ∨ 51 ≤ o) ∨ (o < 27 ∧ k < 2)) : X'.2.1 o k = X.2.1 o k := by
  rcases h.2.2 o k with a | a | ⟨t, h1, h2⟩ | a | a
  · exact absurd a h7
  · exact absurd a h8
  · omega
  · omega
  · exact a
theorem frR.code {X X' : zS} (h : frR X X') {t : Nat} (ht : t < 6) : (∀ k, X'.2.1 (27 + 4 * t) k = X.2.1 (27 + 4 * t) k ∨ k = 5) ∧ (∀ k, X'.2.1 (28 + 4 * t) k = X.2.1 (28 + 4 * t) k) ∧ (∀ k, X'.2.1 (29 + 4 * t) k = X.2.1 (29 + 4 * t) k) := by
  refine ⟨fun k => ?_, fun k => ?_, fun k => ?_⟩
  · rcases h.2.2 (27 + 4 * t) k with a | a | ⟨u, h1, h2⟩ | a | a
    · omega
    · omega
    · rcases h2 with h2 | h2
      · exact Or.inr h2.2
      · omega
    · omega
    · exact Or.inl a
  · rcases h.2.2 (28 + 4 * t) k with a | a | ⟨u, h1, h2⟩ | a | a
    · omega
    · omega
    · omega
    · omega
    · exact a
  · rcases h.2.2 (29 + 4 * t) k with a | a | ⟨u, h1, h2⟩ | a | a
    · omega
    · omega
    · omega
    · omega
    · exact a
theorem frR.sh {X X' : zS} (h : frR X X') (hX : shX X) : shX X' := ⟨h.1.trans hX.1, fun o ho k hk => by
  rcases h.2.1 o k with a | a
  · exact Or.inl a
  · rw [a]; exact hX.2 o ho k hk⟩
theorem frS.at {M M' : zS} (h : frS M M') {o k : Nat} (h1 : o ≠ 0 ∨ k < 13 ∨ 38 < k) (h2 : o ≠ 8) (h3 : o ≠ 9) (h4 : o ≠ 6) : M'.2.1 o k = M.2.1 o k := by
  rcases h.2.2 o k with a | a | a | a | a
  · omega
  · omega
  · omega
  · omega
  · exact a
theorem frS.sh {M M' : zS} (h : frS M M') (hM : shM M) : shM M' := ⟨h.1.trans hM.1, fun o ho k hk => by rw [h.2.1]; exact hM.2 o ho k hk⟩
theorem Inv.rows {X M X' M' : zS} (h : Inv X M) (f : frR X X') (g : frS M M') (hA1 : ∀ i, i < 5 → ∀ k, k < 4 → X'.2.1 (22 + i) (k + 1) = M'.2.1 6 (4 * i + k)) (hA2 : ∀ i, i < 5 → RowOK (fun k => M'.2.1 6 (4 * i + k))) : Inv X' M' := by
  obtain ⟨⟨hX, hM⟩, hL, hD, hA, hP, hF, hS, hI, hT⟩ := h
  have e1 : ∀ k, X'.2.1 1 k = X.2.1 1 k := fun k => f.at (by decide) (by decide) (Or.inl (Or.inl (by decide)))
  have e0 : ∀ k, X'.2.1 0 k = X.2.1 0 k := fun k => f.at (by decide) (by decide) (Or.inl (Or.inl (by decide)))
  have e2 : ∀ k, X'.2.1 2 k = X.2.1 2 k := fun k => f.at (by decide) (by decide) (Or.inl (Or.inl (by decide)))
  have e3 : ∀ k, X'.2.1 3 k = X.2.1 3 k := fun k => f.at (by decide) (by decide) (Or.inl (Or.inl (by decide)))
  have e14 : ∀ k, X'.2.1 14 k = X.2.1 14 k := fun k => f.at (by decide) (by decide) (Or.inl (Or.inl (by decide)))
  have e15 : ∀ k, X'.2.1 15 k = X.2.1 15 k := fun k => f.at (by decide) (by decide) (Or.inl (Or.inl (by decide)))
  have e17 : ∀ i k, i < 5 → X'.2.1 (17 + i) k = X.2.1 (17 + i) k := fun i k hi => f.at (by omega) (by omega) (Or.inl (Or.inl (by omega)))
  have e22 : ∀ i, i < 5 → X'.2.1 (22 + i) 0 = X.2.1 (22 + i) 0 := fun i hi => f.at (by omega) (by omega) (Or.inr ⟨by omega, by decide⟩)
  have e51 : ∀ s k, X'.2.1 (51 + 2 * s) k = X.2.1 (51 + 2 * s) k := fun s k => f.at (by omega) (by omega) (Or.inl (Or.inr (by omega)))
  have e52 : ∀ s k, X'.2.1 (52 + 2 * s) k = X.2.1 (52 + 2 * s) k := fun s k => f.at (by omega) (by omega) (Or.inl (Or.inr (by omega)))
  have m : ∀ o k, o ≠ 0 → o ≠ 8 → o ≠ 9 → o ≠ 6 → M'.2.1 o k = M.2.1 o k := fun o k h0 h8 h9 h6 => g.at (Or.inl h0) h8 h9 h6
  have m4 : (fun t => M'.2.1 4 t) = fun t => M.2.1 4 t := funext fun t => m 4 t (by decide) (by decide) (by decide) (by decide)
  have m10 : (fun t => M'.2.1 10 t) = fun t => M.2.1 10 t := funext fun t => m 10 t (by decide) (by decide) (by decide) (by decide)
  have m0 : ∀ k, k < 13 → M'.2.1 0 k = M.2.1 0 k := fun k hk => g.at (Or.inr (Or.inl hk)) (by decide) (by decide) (by decide)
  have m39 : M'.2.1 0 39 = M.2.1 0 39 := g.at (Or.inr (Or.inr (by decide))) (by decide) (by decide) (by decide)
  have m40 : M'.2.1 0 40 = M.2.1 0 40 := g.at (Or.inr (Or.inr (by decide))) (by decide) (by decide) (by decide)
  have m41 : M'.2.1 0 41 = M.2.1 0 41 := g.at (Or.inr (Or.inr (by decide))) (by decide) (by decide) (by decide)
  refine ⟨⟨f.sh hX, g.sh hM⟩, ?_, ?_, ?_, ?_, ?_, ?_, ?_, ?_⟩
  · refine ⟨fun t ht => by rw [e1, congrFun m4 t]; exact hL.1 t ht, by rw [m4]; exact hL.2⟩
  · unfold InvD
    rw [e0, e0, e0, e0, m0 7 (by decide), m0 11 (by decide), m0 3 (by decide), m0 4 (by decide)]
    exact hD
  · refine ⟨hA1, hA2, fun i hi hi5 => ?_⟩
    rw [m0 11 (by decide)] at hi
    rw [e22 i hi5, m 5 _ (by decide) (by decide) (by decide) (by decide)]
    exact hA.2.2 i hi hi5
  · obtain ⟨p1, n, hn, p2, p3⟩ := hP
    refine ⟨by rw [e0, m0 6 (by decide)]; exact p1, n, hn, by rw [m0 6 (by decide)]; exact p2, fun j hj => ?_⟩
    rw [e3, m 3 _ (by decide) (by decide) (by decide) (by decide)]
    exact p3 j hj
  · intro j hj
    rw [e2, m 7 _ (by decide) (by decide) (by decide) (by decide)]
    exact hF j hj
  · intro s hs
    obtain ⟨w1, w2⟩ := hS s hs
    rw [e51, e51, m 13 _ (by decide) (by decide) (by decide) (by decide), m 12 _ (by decide) (by decide) (by decide) (by decide), m 14 _ (by decide) (by decide) (by decide) (by decide)]
    refine ⟨w1, ?_⟩
    rcases w2 with w2 | ⟨w2, w3, q, q1, q2, q3, q4⟩
    · exact Or.inl w2
    · exact Or.inr ⟨w2, w3, q, q1, q2, q3, fun j hj => by rw [e52, m 15 _ (by decide) (by decide) (by decide) (by decide)]; exact q4 j hj⟩
  · obtain ⟨I1, I2⟩ := hI
    refine ⟨by rw [e14, m39]; exact I1, ?_⟩
    rcases I2 with I2 | ⟨k, n, k1, k2, k3, k4, k5, k6, k7, ⟨k8, c, r, c1, c2, c3, c4⟩, k9, k10, k11⟩
    · exact Or.inl (m39.trans I2)
    · exact Or.inr ⟨k, n, k1, k2, m39.trans k3, (m0 11 (by decide)).trans k4, fun t ht => by rw [e15, congrFun m10 t]; exact k5 t ht, by rw [m10]; exact k6, by rw [e14, m40]; exact k7, ⟨by rw [e14, m41]; exact k8, c, r, c1, c2, (m0 3 (by decide)).trans c3, m41.trans c4⟩, fun i hi j hj => by rw [e17 i _ hi, m 11 _ (by decide) (by decide) (by decide) (by decide)]; exact k9 i hi j hj, fun i hi => (k10 i hi).congr (fun j _ => m 11 _ (by decide) (by decide) (by decide) (by decide)), fun i hi => by rw [e17 i _ (by omega), m 5 _ (by decide) (by decide) (by decide) (by decide)]; exact k11 i hi⟩
  · exact hT.mono (m0 3 (by decide)) (fun t ht => f.code ht) (fun t ht => ⟨fun j hj => m 1 _ (by decide) (by decide) (by decide) (by decide), m 2 _ (by decide) (by decide) (by decide) (by decide)⟩)
/-- X with the row of p as the one in thought has it -/
def lvX (X : zS) (p : Nat) : zS := zp (zp (zp X (22 + p) 2 (X.2.1 7 5)) (22 + p) 3 (X.2.1 7 6)) (22 + p) 4 (X.2.1 7 7)
theorem x_leaveTo {X : zS} (hX : X.1 = 59) {p : Nat} (hp : p < 5) : fX6_leaveTo 7 (some (22 + p)) X = some ((), lvX X p) := by
  have z : ∀ Y : zS, Y.1 = 59 → zok spX Y (some (22 + p)) 0 = some (22 + p) := fun Y hY => zok_seat hY hp
  have q : (7 = 22 + p) = False := by simp; omega
  simp only [fX6_leaveTo, zokX_0, zokX_1, zokX_2, zokX_3, zokX_4, zokX_5, zokX_6, zokX_7, zokX_8, zokX_9, zokX_10, zokX_11, zokX_12, zokX_13, zokX_14, zokX_15, zokX_16, zlaX_1, zlaX_2, zlaX_3, zlaX_4, zlaX_5, zlaX_6, zlaX_8, zlaX_11, zlaX_12, zlaX_13, zlaX_15, zlaX_16, zp_1, zp_h, zp_r, zp_l, zletE, obs, spXe_0, spXe_1, spXe_2, spXe_3, spXe_4, spXe_5, spXe_6, spXe_7, spXe_8, spXe_9, spXe_10, spXe_11, spXe_12, spXe_13, spXe_14, spXe_15, spXe_16, hX, z, q, false_and, if_false]
  rfl
/-- what was asked in thought comes true: the invariant stays -/
theorem Inv.left0 {X M X1 M1 : zS} (h : Inv X M) {p : Nat} (hp : p < 5) (f : frC X X1) (g6 : ∀ k, ¬ (4 * p + 1 ≤ k ∧ k ≤ 4 * p + 3) → M1.2.1 6 k = M.2.1 6 k) (gS : frS M M1) {s' h' sp' : Nat} (hs : s' ≤ 4095) (hh : h' ≤ 4095) (hsp : sp' ≤ 9999) (x5 : X1.2.1 7 5 = nI s') (x6 : X1.2.1 7 6 = nI h') (x7 : X1.2.1 7 7 = nI sp') (m1 : M1.2.1 6 (4 * p + 1) = nI s') (m2 : M1.2.1 6 (4 * p + 2) = nI h') (m3 : M1.2.1 6 (4 * p + 3) = nI sp') : Inv (lvX X1 p) M1 := by
  have e22 : ∀ i k, i < 5 → X1.2.1 (22 + i) k = X.2.1 (22 + i) k := fun i k hi => f.at (by omega) (by omega) (Or.inl (by omega))
  have hA := h.2.2.2.1
  have hl : ∀ i k, i < 5 → (lvX X1 p).2.1 (22 + i) k = if i = p then (if k = 4 then nI sp' else if k = 3 then nI h' else if k = 2 then nI s' else X.2.1 (22 + i) k) else X.2.1 (22 + i) k := fun i k hi => by
    have q : (22 + i = 22 + p) = (i = p) := by simp
    simp only [lvX, zp_h, x5, x6, x7, q, e22 i k hi]
    by_cases e : i = p
    · subst e
      simp only [true_and, if_true]
    · simp only [e, false_and, if_false]
  refine h.rows ⟨f.1, f.2.1, fun o k => ?_⟩ gS (fun i hi k hk => ?_) (fun i hi => ?_)
  · by_cases e : o = 22 + p ∧ 2 ≤ k
    · exact Or.inr (Or.inr (Or.inr (Or.inl (by omega))))
    · rcases f.2.2 o k with a | a | a | a
      · exact Or.inl a
      · exact Or.inr (Or.inl a)
      · exact Or.inr (Or.inr (Or.inl a))
      · refine Or.inr (Or.inr (Or.inr (Or.inr ?_)))
        have q4 : ¬ (o = 22 + p ∧ k = 4) := by omega
        have q3 : ¬ (o = 22 + p ∧ k = 3) := by omega
        have q2 : ¬ (o = 22 + p ∧ k = 2) := by omega
        simp only [lvX, zp_h, if_neg q4, if_neg q3, if_neg q2]
        exact a
  · rw [hl i _ hi]
    by_cases e : i = p
    · subst e
      rw [if_pos rfl]
      rcases (show k = 0 ∨ k = 1 ∨ k = 2 ∨ k = 3 by omega) with rfl | rfl | rfl | rfl
      · simp only [Nat.reduceAdd, Nat.reduceEqDiff, if_false]
        rw [g6 _ (by omega)]
        exact hA.1 i hi 0 hk
      · exact m1.symm
      · exact m2.symm
      · exact m3.symm
    · rw [if_neg e, g6 _ (by omega)]
      exact hA.1 i hi k hk
  · by_cases e : i = p
    · subst e
      refine ⟨?_, ⟨s', hs, m1⟩, ⟨h', hh, m2⟩, ⟨sp', hsp, m3⟩⟩
      show NiR (M1.2.1 6 (4 * i + 0)) 9
      rw [g6 _ (by omega)]
      exact (hA.2.1 i hi).1
    · exact (hA.2.1 i hi).congr (fun k hk => g6 _ (by omega))
theorem Inv.left {X M X1 M1 : zS} (h : Inv X M) {p : Nat} (hp : p < 5) (f : frC X X1) (g : frB p M M1) {s' h' sp' : Nat} (hs : s' ≤ 4095) (hh : h' ≤ 4095) (hsp : sp' ≤ 9999) (x5 : X1.2.1 7 5 = nI s') (x6 : X1.2.1 7 6 = nI h') (x7 : X1.2.1 7 7 = nI sp') (m1 : M1.2.1 6 (4 * p + 1) = nI s') (m2 : M1.2.1 6 (4 * p + 2) = nI h') (m3 : M1.2.1 6 (4 * p + 3) = nI sp') : Inv (lvX X1 p) M1 :=
  h.left0 hp f (fun k hk => g.at (Or.inl (by decide)) (Or.inr (by omega))) ⟨g.1, g.2.1, fun o k => by
    rcases g.2.2 o k with a | a | a
    · exact Or.inl ⟨a.1, a.2.1, by omega⟩
    · exact Or.inr (Or.inr (Or.inr (Or.inl a.1)))
    · exact Or.inr (Or.inr (Or.inr (Or.inr a)))⟩ hs hh hsp x5 x6 x7 m1 m2 m3
theorem t_ask (a w : Int32) : TM2 Inv (fun st => fX7_ask 0 a w st) (fun st => fX8_ask 0 a w st) := by
  intro X M h
  obtain ⟨n, hn5, hnX, hnM⟩ := many_of h.2.2.1
  have hX := h.1.1
  have hM := h.1.2
  rcases one_cases n (by omega) a with ha | ⟨p, hp, rfl⟩
  · exact ⟨-2, X, M, by simp only [fX7_ask, zokX_0, zokX_1, zokX_2, zokX_3, zokX_4, zokX_5, zokX_6, zokX_7, zokX_8, zokX_9, zokX_10, zokX_11, zokX_12, zokX_13, zokX_14, zokX_15, zokX_16, zlaX_1, zlaX_2, zlaX_3, zlaX_4, zlaX_5, zlaX_6, zlaX_8, zlaX_11, zlaX_12, zlaX_13, zlaX_15, zlaX_16, zp_1, zp_h, zp_r, zp_l, zletE, obs, spXe_0, spXe_1, spXe_2, spXe_3, spXe_4, spXe_5, spXe_6, spXe_7, spXe_8, spXe_9, spXe_10, spXe_11, spXe_12, spXe_13, spXe_14, spXe_15, spXe_16, hX.1, x_visit0 hX hnX ha, x_seat0 hX hnX ha, if_true], by simp only [fX8_ask, fX8_ask_j29, zokM_0, zokM_1, zokM_2, zokM_3, zokM_4, zokM_5, zokM_6, zokM_7, zokM_8, zokM_9, zokM_10, zokM_11, zokM_12, zokM_13, zokM_14, zokM_15, zlaM_1, zlaM_2, zlaM_3, zlaM_4, zlaM_5, zlaM_6, zlaM_7, zlaM_8, zlaM_9, zlaM_10, zlaM_11, zlaM_12, zlaM_13, zlaM_14, zlaM_15, zp_1, zp_h, zp_r, zp_l, zletE, obs, spMe_0, spMe_1, spMe_2, spMe_3, spMe_4, spMe_5, spMe_6, spMe_7, spMe_8, spMe_9, spMe_10, spMe_11, spMe_12, spMe_13, spMe_14, spMe_15, hM.1, m_one0 hM hnM hn5 ha, if_true], h⟩
  · obtain ⟨k, nu, s, hd, nh, d, t, sp, F, hV, hd9, hsp, hPM, hRM, hq, X1, e1, f1, hPX, h77, hac⟩ := view_of h hn5 hnX hnM hp
    have hX1 := f1.sh hX
    have hX1n := hX1.1
    have one := m_one1 hM hnM hn5 hp
    have hnX1 : X1.2.1 0 10 = nI n := (f1.at (by decide) (by decide) (Or.inl (by decide))).trans hnX
    have seat := x_seat1 hX1 hnX1 hn5 hp
    have ss : ¬ (some (22 + p) = none) := fun q => by cases q
    rcases set_cases w with hw | ⟨st, s1, s2, rfl⟩
    · exact ⟨-2, X1, M, by simp only [fX7_ask, zokX_0, zokX_1, zokX_2, zokX_3, zokX_4, zokX_5, zokX_6, zokX_7, zokX_8, zokX_9, zokX_10, zokX_11, zokX_12, zokX_13, zokX_14, zokX_15, zokX_16, zlaX_1, zlaX_2, zlaX_3, zlaX_4, zlaX_5, zlaX_6, zlaX_8, zlaX_11, zlaX_12, zlaX_13, zlaX_15, zlaX_16, zp_1, zp_h, zp_r, zp_l, zletE, obs, spXe_0, spXe_1, spXe_2, spXe_3, spXe_4, spXe_5, spXe_6, spXe_7, spXe_8, spXe_9, spXe_10, spXe_11, spXe_12, spXe_13, spXe_14, spXe_15, spXe_16, hX.1, hX1n, e1, seat, if_neg s7, if_neg ss, x_isAsked0 hw, if_true], by simp only [fX8_ask, fX8_ask_j29, zokM_0, zokM_1, zokM_2, zokM_3, zokM_4, zokM_5, zokM_6, zokM_7, zokM_8, zokM_9, zokM_10, zokM_11, zokM_12, zokM_13, zokM_14, zokM_15, zlaM_1, zlaM_2, zlaM_3, zlaM_4, zlaM_5, zlaM_6, zlaM_7, zlaM_8, zlaM_9, zlaM_10, zlaM_11, zlaM_12, zlaM_13, zlaM_14, zlaM_15, zp_1, zp_h, zp_r, zp_l, zletE, obs, spMe_0, spMe_1, spMe_2, spMe_3, spMe_4, spMe_5, spMe_6, spMe_7, spMe_8, spMe_9, spMe_10, spMe_11, spMe_12, spMe_13, spMe_14, spMe_15, hM.1, one, if_neg n10, m_set0 hw, if_true], h.keep f1 (frN.rf M)⟩
    · obtain ⟨X2, eX, f2, hP2, x7, -⟩ := x_asked hX1 hV hPX h77 hac s2
      obtain ⟨M2, eM, g2, hQ2, m3, -⟩ := m_asked hM hV hPM hRM hq hsp s2
      have hX2n := (f2.sh hX1).1
      obtain ⟨c, hc, hcs⟩ := csS_nat nu hd d F st
      obtain ⟨c1, c2⟩ := spS_nat hsp hc
      rw [hcs, c1] at x7 m3
      have hg := gv_or (L := lkN M) (k := k) (nu := nu) (s := s) (h := hd) (nh := nh) (d := d) (F := F) (st := st)
      have hg' : gvS (lkN M) k nu s hd nh d F st = -1 ∨ ∃ j, j < 12 ∧ gvS (lkN M) k nu s hd nh d F st = nI j := by
        rcases hg with e | ⟨j, j1, -, j2⟩
        · exact Or.inl e
        · exact Or.inr ⟨j, j1, j2⟩
      exact ⟨gvS (lkN M) k nu s hd nh d F st, lvX X2 p, M2, by simp only [fX7_ask, zokX_0, zokX_1, zokX_2, zokX_3, zokX_4, zokX_5, zokX_6, zokX_7, zokX_8, zokX_9, zokX_10, zokX_11, zokX_12, zokX_13, zokX_14, zokX_15, zokX_16, zlaX_1, zlaX_2, zlaX_3, zlaX_4, zlaX_5, zlaX_6, zlaX_8, zlaX_11, zlaX_12, zlaX_13, zlaX_15, zlaX_16, zp_1, zp_h, zp_r, zp_l, zletE, obs, spXe_0, spXe_1, spXe_2, spXe_3, spXe_4, spXe_5, spXe_6, spXe_7, spXe_8, spXe_9, spXe_10, spXe_11, spXe_12, spXe_13, spXe_14, spXe_15, spXe_16, hX.1, hX1n, hX2n, e1, seat, if_neg s7, if_neg ss, x_isAsked1 s1 s2, if_neg n10, eX, x_leaveTo hX2n (show p < 5 by omega)], by simp only [fX8_ask, zokM_0, zokM_1, zokM_2, zokM_3, zokM_4, zokM_5, zokM_6, zokM_7, zokM_8, zokM_9, zokM_10, zokM_11, zokM_12, zokM_13, zokM_14, zokM_15, zlaM_1, zlaM_2, zlaM_3, zlaM_4, zlaM_5, zlaM_6, zlaM_7, zlaM_8, zlaM_9, zlaM_10, zlaM_11, zlaM_12, zlaM_13, zlaM_14, zlaM_15, zp_1, zp_h, zp_r, zp_l, zletE, obs, spMe_0, spMe_1, spMe_2, spMe_3, spMe_4, spMe_5, spMe_6, spMe_7, spMe_8, spMe_9, spMe_10, spMe_11, spMe_12, spMe_13, spMe_14, spMe_15, hM.1, one, if_neg n10, m_set1 s1 s2, eM], h.left (show p < 5 by omega) (f1.tr f2.c) g2 (or_le hV.2.2.2.1 (shN_le hV.1 k s2)) (hdS_le hV.2.2.2.2.1 hg') c2 hP2.2.2.2.1 hP2.2.2.2.2.1 x7 hQ2.2.2.2.2.2.2.1 hQ2.2.2.2.2.2.2.2.1 m3⟩
