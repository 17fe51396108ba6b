theorem TxX.mono {X Y : zS} {t : Nat} {F : Nat → (Nat → Int32) → Int32} (h : TxX X t F) (h1 : ∀ k, Y.2.1 (27 + 4 * t) k = X.2.1 (27 + 4 * t) k ∨ k = 5) (h2 : ∀ k, Y.2.1 (28 + 4 * t) k = X.2.1 (28 + 4 * t) k) (h3 : ∀ k, Y.2.1 (29 + 4 * t) k = X.2.1 (29 + 4 * t) k) : TxX Y t F := fun X' hs g1 g2 g3 w hw => h X' hs (fun k => by
  rcases g1 k with e | e
  · rcases h1 k with e2 | e2
    · exact Or.inl (e.trans e2)
    · exact Or.inr e2
  · exact Or.inr e) (fun k => (g2 k).trans (h2 k)) (fun k => (g3 k).trans (h3 k)) w hw
theorem TxM.mono {M N : zS} {t : Nat} {F : Nat → (Nat → Int32) → Int32} (h : TxM M t F) (h1 : ∀ j, j < 160 → N.2.1 1 (160 * t + j) = M.2.1 1 (160 * t + j)) (h2 : N.2.1 2 t = M.2.1 2 t) : TxM N t F := fun M' hs g1 g2 w hw => h M' hs (fun j hj => (g1 j hj).trans (h1 j hj)) (g2.trans h2) w hw
theorem InvT.mono {X M Y N : zS} (h : InvT X M) (h0 : N.2.1 0 3 = M.2.1 0 3) (hX : ∀ t, t < 6 → (∀ k, Y.2.1 (27 + 4 * t) k = X.2.1 (27 + 4 * t) k ∨ k = 5) ∧ (∀ k, Y.2.1 (28 + 4 * t) k = X.2.1 (28 + 4 * t) k) ∧ (∀ k, Y.2.1 (29 + 4 * t) k = X.2.1 (29 + 4 * t) k)) (hM : ∀ t, t < 6 → (∀ j, j < 160 → N.2.1 1 (160 * t + j) = M.2.1 1 (160 * t + j)) ∧ N.2.1 2 t = M.2.1 2 t) : InvT Y N := fun t ht hn => by
  rw [h0] at hn
  obtain ⟨F, f1, f2⟩ := h t ht hn
  exact ⟨F, f1.mono (hX t ht).1 (hX t ht).2.1 (hX t ht).2.2, f2.mono (hM t ht).1 (hM t ht).2⟩
theorem nI_inj {a b : Nat} (ha : a < 2 ^ 31) (hb : b < 2 ^ 31) : nI a = nI b ↔ a = b := nI_eq ha hb
theorem t_day : TM2 Inv (fun st => fX7_day 0 st) (fun st => fX8_day 0 st) := by
  intro X M h
  obtain ⟨⟨hX, hM⟩, hL, ⟨⟨d1, d, hd, d2⟩, hD2⟩, hA, hP, hF, hS, hI, hT⟩ := h
  have ex : fX7_day 0 X = some (if X.2.1 0 9 < 999 then (X.2.1 0 9 + 1, zp X 0 9 (X.2.1 0 9 + 1)) else (-3, X)) := by
    simp [fX7_day, zokX_0, zokX_1, zokX_2, zokX_3, zokX_4, zokX_5, zokX_6, zokX_7, zokX_8, zokX_9, zokX_10, zokX_11, zokX_12, zokX_13, zokX_14, zokX_15, zokX_16, zlaX_1, zlaX_2, zlaX_3, zlaX_4, zlaX_5, zlaX_6, zlaX_8, zlaX_11, zlaX_12, zlaX_13, zlaX_15, zlaX_16, zp_1, zp_h, zp_r, zp_l, zlet, Option.bind_some, spXe_0, spXe_1, spXe_2, spXe_3, spXe_4, spXe_5, spXe_6, spXe_7, spXe_8, spXe_9, spXe_10, spXe_11, spXe_12, spXe_13, spXe_14, spXe_15, spXe_16, hX.1]
    split <;> rfl
  have em : fX8_day 0 M = some (if M.2.1 0 7 = 999 then (-3, M) else (M.2.1 0 7 + 1, zp M 0 7 (M.2.1 0 7 + 1))) := by
    simp [fX8_day, zokM_0, zokM_1, zokM_2, zokM_3, zokM_4, zokM_5, zokM_6, zokM_7, zokM_8, zokM_9, zokM_10, zokM_11, zokM_12, zokM_13, zokM_14, zokM_15, zlaM_1, zlaM_2, zlaM_3, zlaM_4, zlaM_5, zlaM_6, zlaM_7, zlaM_8, zlaM_9, zlaM_10, zlaM_11, zlaM_12, zlaM_13, zlaM_14, zlaM_15, zp_1, zp_h, zp_r, zp_l, zlet, Option.bind_some, in_eq, spMe_0, spMe_1, spMe_2, spMe_3, spMe_4, spMe_5, spMe_6, spMe_7, spMe_8, spMe_9, spMe_10, spMe_11, spMe_12, spMe_13, spMe_14, spMe_15, hM.1]
    split <;> rfl
  by_cases hc : d = 999
  · subst hc
    refine ⟨-3, X, M, ?_, ?_, ⟨hX, hM⟩, hL, ⟨⟨d1, 999, hd, d2⟩, hD2⟩, hA, hP, hF, hS, hI, hT⟩
    · show fX7_day 0 X = _
      rw [ex, d1, d2, if_neg (by decide)]
    · show fX8_day 0 M = _
      rw [em, d2, if_pos (by decide)]
  · refine ⟨nI (d + 1), zp X 0 9 (nI (d + 1)), zp M 0 7 (nI (d + 1)), ?_, ?_, ⟨hX.zp _ _ _, hM.zp _ _ _⟩, ?_, ?_, ?_, ?_, ?_, ?_, ?_, ?_⟩
    · show fX7_day 0 X = _
      rw [ex, d1, d2, if_pos (show nI d < (999 : Int32) from nI_lt (b := 999) (by omega) (by decide)), nI_1]
    · show fX8_day 0 M = _
      rw [em, d2, if_neg (show ¬ nI d = (999 : Int32) from fun q => hc ((nI_inj (b := 999) (by omega) (by decide)).mp q)), nI_1]
    · simpa [InvL, zp_h] using hL
    · refine ⟨⟨by simp [zp_h], ⟨d + 1, by omega, by simp [zp_h]⟩⟩, ?_⟩
      simpa [zp_h] using hD2
    · simpa [InvA, zp_h] using hA
    · simpa [InvP, zp_h] using hP
    · simpa [InvF, zp_h] using hF
    · simpa [InvS, zp_h] using hS
    · simpa [InvI, zp_h] using hI
    · exact hT.mono (by simp [zp_h]) (fun t ht => by simp [zp_h]) (fun t ht => by simp [zp_h])
