theorem TxX.mono {X Y : zS} {t : Nat} {F : Nat → (Nat → Int32) → Int32} (h : TxX X t F) (h1 : ∀ k, Y.2.1 (27 + 4 * t) k = X.2.1 (27 + 4 * t) k ∨ k = 5) (h2 : ∀ k, Y.2.1 (28 + 4 * t) k = X.2.1 (28 + 4 * t) k) (h3 : ∀ k, Y.2.1 (29 + 4 * t) k = X.2.1 (29 + 4 * t) k) : TxX Y t F := fun X' hs g1 g2 g3 w hw => h X' hs (fun k => by
  rcases g1 k with e | e
  · rcases h1 k with e2 | e2
    · exact Or.inl (e.trans e2)
    · exact Or.inr e2
  · exact Or.inr e) (fun k => (g2 k).trans (h2 k)) (fun k => (g3 k).trans (h3 k)) w hw
theorem TxM.mono {M N : zS} {t : Nat} {F : Nat → (Nat → Int32) → Int32} (h : TxM M t F) (h1 : ∀ j, j < 160 → N.2.1 1 (160 * t + j) = M.2.1 1 (160 * t + j)) (h2 : N.2.1 2 t = M.2.1 2 t) : TxM N t F := fun M' hs g1 g2 w hw => h M' hs (fun j hj => (g1 j hj).trans (h1 j hj)) (g2.trans h2) w hw
theorem InvT.mono {X M Y N : zS} (h : InvT X M) (h0 : N.2.1 0 3 = M.2.1 0 3) (hX : ∀ t, t < 6 → (∀ k, Y.2.1 (27 + 4 * t) k = X.2.1 (27 + 4 * t) k ∨ k = 5) ∧ (∀ k, Y.2.1 (28 + 4 * t) k = X.2.1 (28 + 4 * t) k) ∧ (∀ k, Y.2.1 (29 + 4 * t) k = X.2.1 (29 + 4 * t) k)) (hM : ∀ t, t < 6 → (∀ j, j < 160 → N.2.1 1 (160 * t + j) = M.2.1 1 (160 * t + j)) ∧ N.2.1 2 t = M.2.1 2 t) : InvT Y N := fun t ht hn => by
  rw [h0] at hn
  obtain ⟨F, f1, f2⟩ := h t ht hn
  exact ⟨F, f1.mono (hX t ht).1 (hX t ht).2.1 (hX t ht).2.2, f2.mono (hM t ht).1 (hM t ht).2⟩
theorem nI_inj {a b : Nat} (ha : a < 2 ^ 31) (hb : b < 2 ^ 31) : nI a = nI b ↔ a = b := nI_eq ha hb
theorem t_day : TM2 Inv (fun st => fX7_day 0 st) (fun st => fX8_day 0 st) := by
  intro X M h
  obtain ⟨⟨hX, hM⟩, hL, ⟨⟨d1, d, hd, d2⟩, hD2⟩, hA, hP, hF, hS, hI, hT⟩ := h
  have ex : fX7_day 0 X = some (if X.2.1 0 9 < 999 then (X.2.1 0 9 + 1, zp X 0 9 (X.2.1 0 9 + 1)) else (-3, X)) := by
    simp [fX7_day, zokX_0, zokX_1, zokX_2, zokX_3, zokX_4, zokX_5, zokX_6, zokX_7, zokX_8, zokX_9, zokX_10, zokX_11, zokX_12, zokX_13, zokX_14, zokX_15, zokX_16, zlaX_1, zlaX_2, zlaX_3, zlaX_4, zlaX_5, zlaX_6, zlaX_8, zlaX_11, zlaX_12, zlaX_13, zlaX_15, zlaX_16, zp_1, zp_h, zp_r, zp_l, zlet, Option.bind_some, spXe_0, spXe_1, spXe_2, spXe_3, spXe_4, spXe_5, spXe_6, spXe_7, spXe_8, spXe_9, spXe_10, spXe_11, spXe_12, spXe_13, spXe_14, spXe_15, spXe_16, hX.1]
    split <;> rfl
  have em : fX8_day 0 M = some (if M.2.1 0 7 = 999 then (-3, M) else (M.2.1 0 7 + 1, zp M 0 7 (M.2.1 0 7 + 1))) := by
    simp [fX8_day, zokM_0, zokM_1, zokM_2, zokM_3, zokM_4, zokM_5, zokM_6, zokM_7, zokM_8, zokM_9, zokM_10, zokM_11, zokM_12, zokM_13, zokM_14, zokM_15, zlaM_1, zlaM_2, zlaM_3, zlaM_4, zlaM_5, zlaM_6, zlaM_7, zlaM_8, zlaM_9, zlaM_10, zlaM_11, zlaM_12, zlaM_13, zlaM_14, zlaM_15, zp_1, zp_h, zp_r, zp_l, zlet, Option.bind_some, in_eq, spMe_0, spMe_1, spMe_2, spMe_3, spMe_4, spMe_5, spMe_6, spMe_7, spMe_8, spMe_9, spMe_10, spMe_11, spMe_12, spMe_13, spMe_14, spMe_15, hM.1]
    split <;> rfl
  by_cases hc : d = 999
  · subst hc
    refine ⟨-3, X, M, ?_, ?_, ⟨hX, hM⟩, hL, ⟨⟨d1, 999, hd, d2⟩, hD2⟩, hA, hP, hF, hS, hI, hT⟩
    · show fX7_day 0 X = _
      rw [ex, d1, d2, if_neg (by decide)]
    · show fX8_day 0 M = _
      rw [em, d2, if_pos (by decide)]
  · refine ⟨nI (d + 1), zp X 0 9 (nI (d + 1)), zp M 0 7 (nI (d + 1)), ?_, ?_, ⟨hX.zp _ _ _, hM.zp _ _ _⟩, ?_, ?_, ?_, ?_, ?_, ?_, ?_, ?_⟩
    · show fX7_day 0 X = _
      rw [ex, d1, d2, if_pos (show nI d < (999 : Int32) from nI_lt (b := 999) (by omega) (by decide)), nI_1]
    · show fX8_day 0 M = _
      rw [em, d2, if_neg (show ¬ nI d = (999 : Int32) from fun q => hc ((nI_inj (b := 999) (by omega) (by decide)).mp q)), nI_1]
    · simpa [InvL, zp_h] using hL
    · refine ⟨⟨by simp [zp_h], ⟨d + 1, by omega, by simp [zp_h]⟩⟩, ?_⟩
      simpa [zp_h] using hD2
    · simpa [InvA, zp_h] using hA
    · simpa [InvP, zp_h] using hP
    · simpa [InvF, zp_h] using hF
    · simpa [InvS, zp_h] using hS
    · simpa [InvI, zp_h] using hI
    · exact hT.mono (by simp [zp_h]) (fun t ht => by simp [zp_h]) (fun t ht => by simp [zp_h])
theorem tl {x y : Int32} : x.toInt64 < y.toInt64 ↔ x < y := by
  rw [Int64.lt_iff_toInt_lt, Int32.lt_iff_toInt_lt, Int32.toInt_toInt64, Int32.toInt_toInt64]
theorem l0 : (0 : Int64) = (0 : Int32).toInt64 := by decide
theorem in_0 (x y : Int32) (st : zS) : fX8_in x.toInt64 0 y.toInt64 st = some ((if x < 0 then 0 else if y < x then 0 else 1), st) := by
  rw [in_eq, l0]
  simp only [tl]
theorem in_1 (x : Int32) (z : Int64) (y : Int32) (hz : z = y.toInt64) (st : zS) : fX8_in x.toInt64 0 z st = some ((if x < 0 then 0 else if y < x then 0 else 1), st) := by
  rw [hz, in_0]
/-- a number within 0 .. n, or not -/
theorem cases_in (x : Int32) (n : Nat) (hn : n < 2 ^ 31) : x < 0 ∨ (nI n ≤ x ∧ ¬ x < 0) ∨ ∃ k, k < n ∧ x = nI k ∧ ¬ x < 0 := by
  rcases pk_ix x hn with h | h | ⟨j, hj, e⟩
  · exact Or.inl h
  · refine Or.inr (Or.inl ⟨h, ?_⟩)
    intro q
    have h0 := nI_pos' hn
    rw [Int32.lt_iff_toInt_lt] at q
    rw [Int32.le_iff_toInt_le] at h h0
    omega
  · exact Or.inr (Or.inr ⟨j, hj, e, by rw [e]; exact nI_pos (by omega)⟩)
theorem addne {a i b : Nat} (h : b < a) : (a + i = b) = False := by simp; omega
theorem one0 : ¬ (1 : Int32) = 0 := by decide
theorem nI_m1 {n : Nat} : nI (n + 1) - 1 = nI n := nI_pred n
theorem t_force (a : Int32) : TM2 Inv (fun st => fX7_force 0 a st) (fun st => fX8_force 0 a st) := by
  intro X M h
  obtain ⟨⟨hX, hM⟩, hL, hD, hA, hP, hF, hS, hI, hT⟩ := h
  obtain ⟨D1, D2, ⟨d3, n', hn1, hn6, hn⟩, ⟨d4, n, r, hr, hn6', hn', hr'⟩⟩ := id hD
  obtain ⟨n1, rfl⟩ : ∃ n1, n = n1 + 1 := ⟨n - 1, by omega⟩
  have hm : nI (n1 + 1) - 1 = nI n1 := nI_m1
  rcases cases_in a (n1 + 1) (by omega) with h0 | ⟨h1, h0⟩ | ⟨k, hk, rfl, h0⟩
  · refine ⟨-2, X, M, ?_, ?_, ⟨hX, hM⟩, hL, hD, hA, hP, hF, hS, hI, hT⟩
    · simp [fX7_force, h0]
    · simp [fX8_force, zokM_0, zokM_1, zokM_2, zokM_3, zokM_4, zokM_5, zokM_6, zokM_7, zokM_8, zokM_9, zokM_10, zokM_11, zokM_12, zokM_13, zokM_14, zokM_15, zlaM_1, zlaM_2, zlaM_3, zlaM_4, zlaM_5, zlaM_6, zlaM_7, zlaM_8, zlaM_9, zlaM_10, zlaM_11, zlaM_12, zlaM_13, zlaM_14, zlaM_15, zp_1, zp_h, zp_r, zp_l, zlet, Option.bind_some, in_0, spMe_0, spMe_1, spMe_2, spMe_3, spMe_4, spMe_5, spMe_6, spMe_7, spMe_8, spMe_9, spMe_10, spMe_11, spMe_12, spMe_13, spMe_14, spMe_15, hM.1, hn', hm, h0]
  · have h2 : ¬ a < nI (n1 + 1) := Int32.not_lt.mpr h1
    have h3 : nI n1 < a := Int32.lt_of_lt_of_le (nI_lt (by omega) (by omega)) h1
    refine ⟨-2, X, M, ?_, ?_, ⟨hX, hM⟩, hL, hD, hA, hP, hF, hS, hI, hT⟩
    · simp only [fX7_force, zokX_0, zokX_1, zokX_2, zokX_3, zokX_4, zokX_5, zokX_6, zokX_7, zokX_8, zokX_9, zokX_10, zokX_11, zokX_12, zokX_13, zokX_14, zokX_15, zokX_16, zlaX_1, zlaX_2, zlaX_3, zlaX_4, zlaX_5, zlaX_6, zlaX_8, zlaX_11, zlaX_12, zlaX_13, zlaX_15, zlaX_16, zp_1, zp_h, zp_r, zp_l, zlet, Option.bind_some, spXe_0, spXe_1, spXe_2, spXe_3, spXe_4, spXe_5, spXe_6, spXe_7, spXe_8, spXe_9, spXe_10, spXe_11, spXe_12, spXe_13, spXe_14, spXe_15, spXe_16, hX.1, d3, hn', if_neg h0, if_neg h2]
    · simp only [fX8_force, zokM_0, zokM_1, zokM_2, zokM_3, zokM_4, zokM_5, zokM_6, zokM_7, zokM_8, zokM_9, zokM_10, zokM_11, zokM_12, zokM_13, zokM_14, zokM_15, zlaM_1, zlaM_2, zlaM_3, zlaM_4, zlaM_5, zlaM_6, zlaM_7, zlaM_8, zlaM_9, zlaM_10, zlaM_11, zlaM_12, zlaM_13, zlaM_14, zlaM_15, zp_1, zp_h, zp_r, zp_l, zlet, Option.bind_some, in_0, spMe_0, spMe_1, spMe_2, spMe_3, spMe_4, spMe_5, spMe_6, spMe_7, spMe_8, spMe_9, spMe_10, spMe_11, spMe_12, spMe_13, spMe_14, spMe_15, hM.1, hn', hm, if_neg h0, if_pos h3, if_true]
  · have h2 : nI k < nI (n1 + 1) := nI_lt hk (by omega)
    have h3 : ¬ nI n1 < nI k := nI_nlt (by omega) (by omega)
    refine ⟨nI r, zp X 0 12 (nI k), zp M 0 4 (nI k), ?_, ?_, ⟨hX.zp _ _ _, hM.zp _ _ _⟩, ?_, ?_, ?_, ?_, ?_, ?_, ?_, ?_⟩
    · simp only [fX7_force, zokX_0, zokX_1, zokX_2, zokX_3, zokX_4, zokX_5, zokX_6, zokX_7, zokX_8, zokX_9, zokX_10, zokX_11, zokX_12, zokX_13, zokX_14, zokX_15, zokX_16, zlaX_1, zlaX_2, zlaX_3, zlaX_4, zlaX_5, zlaX_6, zlaX_8, zlaX_11, zlaX_12, zlaX_13, zlaX_15, zlaX_16, zp_1, zp_h, zp_r, zp_l, zlet, Option.bind_some, spXe_0, spXe_1, spXe_2, spXe_3, spXe_4, spXe_5, spXe_6, spXe_7, spXe_8, spXe_9, spXe_10, spXe_11, spXe_12, spXe_13, spXe_14, spXe_15, spXe_16, hX.1, d3, hn', if_neg h0, if_pos h2, d4, hr']
    · simp only [fX8_force, zokM_0, zokM_1, zokM_2, zokM_3, zokM_4, zokM_5, zokM_6, zokM_7, zokM_8, zokM_9, zokM_10, zokM_11, zokM_12, zokM_13, zokM_14, zokM_15, zlaM_1, zlaM_2, zlaM_3, zlaM_4, zlaM_5, zlaM_6, zlaM_7, zlaM_8, zlaM_9, zlaM_10, zlaM_11, zlaM_12, zlaM_13, zlaM_14, zlaM_15, zp_1, zp_h, zp_r, zp_l, zlet, Option.bind_some, in_0, spMe_0, spMe_1, spMe_2, spMe_3, spMe_4, spMe_5, spMe_6, spMe_7, spMe_8, spMe_9, spMe_10, spMe_11, spMe_12, spMe_13, spMe_14, spMe_15, hM.1, hn', hm, if_neg h0, if_neg h3, if_neg one0, hr']
    · simpa [InvL, zp_h, addne] using hL
    · exact ⟨by simpa [zp_h] using D1, by simpa [zp_h] using D2, ⟨by simpa [zp_h] using d3, n', hn1, hn6, by simpa [zp_h] using hn⟩, ⟨by simp [zp_h], n1 + 1, k, hk, hn6', by simpa [zp_h] using hn', by simp [zp_h]⟩⟩
    · simpa [InvA, zp_h, addne] using hA
    · simpa [InvP, zp_h, addne] using hP
    · simpa [InvF, zp_h, addne] using hF
    · simpa [InvS, zp_h, addne] using hS
    · simpa [InvI, zp_h, addne] using hI
    · exact hT.mono (by simp [zp_h, addne]) (fun t ht => by simp [zp_h, addne]) (fun t ht => by simp [zp_h, addne])
theorem t_feed (a : Int32) : TM2 Inv (fun st => fX7_feed 0 a st) (fun st => fX8_feed 0 a st) := by
  intro X M h
  obtain ⟨⟨hX, hM⟩, hL, hD, hA, hP, hF, hS, hI, hT⟩ := h
  obtain ⟨p1, n, hn, p2, p3⟩ := id hP
  have hr : X.2.2.2 0 2 = some 3 := hX.r (by decide) (by decide) (by decide) (by decide)
  have hr2 : M.2.2.2 0 5 = some 3 := hM.r (by decide) (by decide)
  have hi := fun st => in_1 a 255 255 (by decide) st
  have hn0 : ¬ nI n < 0 := nI_pos (by omega)
  rcases cases_in a 256 (by decide) with h0 | ⟨h1, h0⟩ | ⟨k, hk, rfl, h0⟩
  · refine ⟨-2, X, M, ?_, ?_, ⟨hX, hM⟩, hL, hD, hA, hP, hF, hS, hI, hT⟩
    · simp only [fX7_feed, if_pos h0]
    · simp only [fX8_feed, hi, zokM_0, zokM_1, zokM_2, zokM_3, zokM_4, zokM_5, zokM_6, zokM_7, zokM_8, zokM_9, zokM_10, zokM_11, zokM_12, zokM_13, zokM_14, zokM_15, zlaM_1, zlaM_2, zlaM_3, zlaM_4, zlaM_5, zlaM_6, zlaM_7, zlaM_8, zlaM_9, zlaM_10, zlaM_11, zlaM_12, zlaM_13, zlaM_14, zlaM_15, zp_1, zp_h, zp_r, zp_l, zlet, Option.bind_some, in_eq, spMe_0, spMe_1, spMe_2, spMe_3, spMe_4, spMe_5, spMe_6, spMe_7, spMe_8, spMe_9, spMe_10, spMe_11, spMe_12, spMe_13, spMe_14, spMe_15, hM.1, if_pos h0, if_true]
  · have h3 : (255 : Int32) < a := Int32.lt_of_lt_of_le (nI_lt (a := 255) (b := 256) (by decide) (by decide)) h1
    have h2 : ¬ a ≤ 255 := Int32.not_le.mpr h3
    refine ⟨-2, X, M, ?_, ?_, ⟨hX, hM⟩, hL, hD, hA, hP, hF, hS, hI, hT⟩
    · simp only [fX7_feed, if_neg h0, if_neg h2]
    · simp only [fX8_feed, hi, zokM_0, zokM_1, zokM_2, zokM_3, zokM_4, zokM_5, zokM_6, zokM_7, zokM_8, zokM_9, zokM_10, zokM_11, zokM_12, zokM_13, zokM_14, zokM_15, zlaM_1, zlaM_2, zlaM_3, zlaM_4, zlaM_5, zlaM_6, zlaM_7, zlaM_8, zlaM_9, zlaM_10, zlaM_11, zlaM_12, zlaM_13, zlaM_14, zlaM_15, zp_1, zp_h, zp_r, zp_l, zlet, Option.bind_some, in_eq, spMe_0, spMe_1, spMe_2, spMe_3, spMe_4, spMe_5, spMe_6, spMe_7, spMe_8, spMe_9, spMe_10, spMe_11, spMe_12, spMe_13, spMe_14, spMe_15, hM.1, if_neg h0, if_pos h3, if_true]
  · have h2 : nI k ≤ 255 := nI_le (b := 255) (by omega) (by decide)
    have h3 : ¬ (255 : Int32) < nI k := Int32.not_lt.mpr h2
    by_cases hc : n = 160
    · subst hc
      have h4 : ¬ nI 160 < Int32.ofNat 160 := by decide
      refine ⟨-4, X, M, ?_, ?_, ⟨hX, hM⟩, hL, hD, hA, hP, hF, hS, hI, hT⟩
      · simp only [fX7_feed, zokX_0, zokX_1, zokX_2, zokX_3, zokX_4, zokX_5, zokX_6, zokX_7, zokX_8, zokX_9, zokX_10, zokX_11, zokX_12, zokX_13, zokX_14, zokX_15, zokX_16, zlaX_1, zlaX_2, zlaX_3, zlaX_4, zlaX_5, zlaX_6, zlaX_8, zlaX_11, zlaX_12, zlaX_13, zlaX_15, zlaX_16, zp_1, zp_h, zp_r, zp_l, zlet, Option.bind_some, spXe_0, spXe_1, spXe_2, spXe_3, spXe_4, spXe_5, spXe_6, spXe_7, spXe_8, spXe_9, spXe_10, spXe_11, spXe_12, spXe_13, spXe_14, spXe_15, spXe_16, hX.1, hr, p1, p2, if_neg h0, if_pos h2, if_neg hn0, if_neg h4]
      · simp only [fX8_feed, hi, zokM_0, zokM_1, zokM_2, zokM_3, zokM_4, zokM_5, zokM_6, zokM_7, zokM_8, zokM_9, zokM_10, zokM_11, zokM_12, zokM_13, zokM_14, zokM_15, zlaM_1, zlaM_2, zlaM_3, zlaM_4, zlaM_5, zlaM_6, zlaM_7, zlaM_8, zlaM_9, zlaM_10, zlaM_11, zlaM_12, zlaM_13, zlaM_14, zlaM_15, zp_1, zp_h, zp_r, zp_l, zlet, Option.bind_some, in_eq, spMe_0, spMe_1, spMe_2, spMe_3, spMe_4, spMe_5, spMe_6, spMe_7, spMe_8, spMe_9, spMe_10, spMe_11, spMe_12, spMe_13, spMe_14, spMe_15, hM.1, if_neg h0, if_neg h3, if_neg one0, p2, if_pos (show nI 160 = (160 : Int32) from rfl)]
    · have h4 : nI n < (160 : Int32) := nI_lt (b := 160) (by omega) (by decide)
      have h5 : ¬ nI n = (160 : Int32) := fun q => hc ((nI_inj (b := 160) (by omega) (by decide)).mp q)
      have hz : zix spX 3 (nI n) = some n := zix_of rfl (by show n < 160; omega) (by decide)
      have hz2 : zix spM 3 (nI n) = some n := zix_of rfl (by show n < 160; omega) (by decide)
      refine ⟨nI (n + 1), zp (zp X 3 n (nI k)) 0 13 (nI (n + 1)), zp (zp M 3 n (nI k)) 0 6 (nI (n + 1)), ?_, ?_, ⟨(hX.zp _ _ _).zp _ _ _, (hM.zp _ _ _).zp _ _ _⟩, ?_, ?_, ?_, ?_, ?_, ?_, ?_, ?_⟩
      · simp [fX7_feed, zokX_0, zokX_1, zokX_2, zokX_3, zokX_4, zokX_5, zokX_6, zokX_7, zokX_8, zokX_9, zokX_10, zokX_11, zokX_12, zokX_13, zokX_14, zokX_15, zokX_16, zlaX_1, zlaX_2, zlaX_3, zlaX_4, zlaX_5, zlaX_6, zlaX_8, zlaX_11, zlaX_12, zlaX_13, zlaX_15, zlaX_16, zp_1, zp_h, zp_r, zp_l, zlet, Option.bind_some, spXe_0, spXe_1, spXe_2, spXe_3, spXe_4, spXe_5, spXe_6, spXe_7, spXe_8, spXe_9, spXe_10, spXe_11, spXe_12, spXe_13, spXe_14, spXe_15, spXe_16, hX.1, hr, p1, p2, h0, h2, hn0, h4, hz, nI_1]
        done
      · simp [fX8_feed, hi, zokM_0, zokM_1, zokM_2, zokM_3, zokM_4, zokM_5, zokM_6, zokM_7, zokM_8, zokM_9, zokM_10, zokM_11, zokM_12, zokM_13, zokM_14, zokM_15, zlaM_1, zlaM_2, zlaM_3, zlaM_4, zlaM_5, zlaM_6, zlaM_7, zlaM_8, zlaM_9, zlaM_10, zlaM_11, zlaM_12, zlaM_13, zlaM_14, zlaM_15, zp_1, zp_h, zp_r, zp_l, zlet, Option.bind_some, in_eq, spMe_0, spMe_1, spMe_2, spMe_3, spMe_4, spMe_5, spMe_6, spMe_7, spMe_8, spMe_9, spMe_10, spMe_11, spMe_12, spMe_13, spMe_14, spMe_15, hM.1, hr2, h0, h3, p2, h5, hz2, nI_1]
        done
      · simpa [InvL, zp_h, addne] using hL
      · simpa [InvD, zp_h, addne] using hD
      · simpa [InvA, zp_h, addne] using hA
      · refine ⟨by simp [zp_h], n + 1, by omega, by simp [zp_h], fun j hj => ?_⟩
        by_cases e : j = n
        · subst e; exact ⟨by simp [zp_h], k, by omega, by simp [zp_h]⟩
        · simpa [zp_h, e] using p3 j (by omega)
      · simpa [InvF, zp_h, addne] using hF
      · simpa [InvS, zp_h, addne] using hS
      · simpa [InvI, zp_h, addne] using hI
      · exact hT.mono (by simp [zp_h, addne]) (fun t ht => by simp [zp_h, addne]) (fun t ht => by simp [zp_h, addne])
