theorem neadd {a i b : Nat} (h : b < a) : (b = a + i) = False := by simp; omega
theorem RowOK.congr {f g : Nat → Int32} (h : RowOK g) (e : ∀ k, k < 4 → f k = g k) : RowOK f := by
  unfold RowOK at h ⊢
  rw [e 0 (by decide), e 1 (by decide), e 2 (by decide), e 3 (by decide)]
  exact h
theorem addeq {a i j : Nat} : (a + i = a + j) = (i = j) := by simp
theorem t_asker (a c : Int32) : TM2 Inv (fun st => fX7_asker 0 a c st) (fun st => fX8_asker 0 a c st) := by
  intro X M h
  have hInv := h
  obtain ⟨⟨hX, hM⟩, hL, hD, hA, hP, hF, hS, hI, hT⟩ := h
  obtain ⟨n, hn5, hnX, hnM⟩ := many_of hD
  have hi5 := fun st => in_1 a 5 5 (by decide) st
  have hi9 := fun st => in_1 c 9 9 (by decide) st
  rcases cases_in a 6 (by decide) with f0 | ⟨f1, f0⟩ | ⟨i, hi, rfl, f0⟩
  · refine ⟨-2, X, M, ?_, ?_, hInv⟩
    · simp only [fX7_asker, if_pos f0]
    · simp only [fX8_asker, hi5, Option.bind_some, if_pos f0, if_true]
  · have f2 : (6 : Int32) ≤ a := f1
    have f3 : (5 : Int32) < a := Int32.lt_of_lt_of_le (nI_lt (a := 5) (b := 6) (by decide) (by decide)) f1
    refine ⟨-2, X, M, ?_, ?_, hInv⟩
    · simp only [fX7_asker, if_neg f0, if_pos f2]
    · simp only [fX8_asker, hi5, Option.bind_some, if_neg f0, if_pos f3, if_true]
  · have f2 : ¬ (6 : Int32) ≤ nI i := nI_ge (b := 6) hi (by decide)
    have f3 : ¬ (5 : Int32) < nI i := nI_nlt (a := 5) (by omega) (by decide)
    rcases cases_in c 10 (by decide) with g0 | ⟨g1, g0⟩ | ⟨j, hj, rfl, g0⟩
    · refine ⟨-2, X, M, ?_, ?_, hInv⟩
      · simp only [fX7_asker, if_neg f0, if_neg f2, if_pos g0]
      · simp only [fX8_asker, hi5, hi9, Option.bind_some, if_neg f0, if_neg f3, if_neg one0, if_pos g0, if_true]
    · have g2 : ¬ c ≤ 9 := Int32.not_le.mpr (Int32.lt_of_lt_of_le (nI_lt (a := 9) (b := 10) (by decide) (by decide)) g1)
      have g3 : (9 : Int32) < c := Int32.not_le.mp g2
      refine ⟨-2, X, M, ?_, ?_, hInv⟩
      · simp only [fX7_asker, if_neg f0, if_neg f2, if_neg g0, if_neg g2]
      · simp only [fX8_asker, hi5, hi9, Option.bind_some, if_neg f0, if_neg f3, if_neg one0, if_neg g0, if_pos g3, if_true]
    · have g2 : nI j ≤ (9 : Int32) := nI_le (b := 9) (by omega) (by decide)
      have g3 : ¬ (9 : Int32) < nI j := Int32.not_lt.mpr g2
      have n0 : ¬ nI n < 0 := nI_pos (by omega)
      have hr : X.2.2.2 0 3 = some 4 := hX.r (by decide) (by decide) (by decide) (by decide)
      by_cases hc : n = 5
      · subst hc
        refine ⟨-4, X, M, ?_, ?_, hInv⟩
        · simp only [fX7_asker, if_neg f0, if_neg f2, if_neg g0, if_pos g2, zokX_0, zokX_1, zokX_2, zokX_3, zokX_4, zokX_5, zokX_6, zokX_7, zokX_8, zokX_9, zokX_10, zokX_11, zokX_12, zokX_13, zokX_14, zokX_15, zokX_16, zlaX_1, zlaX_2, zlaX_3, zlaX_4, zlaX_5, zlaX_6, zlaX_8, zlaX_11, zlaX_12, zlaX_13, zlaX_15, zlaX_16, zp_1, zp_h, zp_r, zp_l, zlet, Option.bind_some, spXe_0, spXe_1, spXe_2, spXe_3, spXe_4, spXe_5, spXe_6, spXe_7, spXe_8, spXe_9, spXe_10, spXe_11, spXe_12, spXe_13, spXe_14, spXe_15, spXe_16, hX.1, hnX, if_neg n0, hr, if_neg (show ¬ nI 5 < Int32.ofNat 5 by decide)]
        · simp only [fX8_asker, hi5, hi9, if_neg f0, if_neg f3, if_neg one0, if_neg g0, if_neg g3, zokM_0, zokM_1, zokM_2, zokM_3, zokM_4, zokM_5, zokM_6, zokM_7, zokM_8, zokM_9, zokM_10, zokM_11, zokM_12, zokM_13, zokM_14, zokM_15, zlaM_1, zlaM_2, zlaM_3, zlaM_4, zlaM_5, zlaM_6, zlaM_7, zlaM_8, zlaM_9, zlaM_10, zlaM_11, zlaM_12, zlaM_13, zlaM_14, zlaM_15, zp_1, zp_h, zp_r, zp_l, zlet, Option.bind_some, spMe_0, spMe_1, spMe_2, spMe_3, spMe_4, spMe_5, spMe_6, spMe_7, spMe_8, spMe_9, spMe_10, spMe_11, spMe_12, spMe_13, spMe_14, spMe_15, hM.1, hnM, if_pos (show nI 5 = (5 : Int32) from rfl)]
      · have hn : n < 5 := by omega
        have n1 : nI n < (5 : Int32) := nI_lt (b := 5) hn (by decide)
        have n2 : ¬ nI n = (5 : Int32) := fun q => hc ((nI_inj (b := 5) (by omega) (by decide)).mp q)
        have hz : zix spX 4 (nI n) = some n := zix_of rfl (by show n < 5; omega) (by decide)
        have hr2 : M.2.2.2 0 9 = some 5 := hM.r (by decide) (by decide)
        have hr3 : M.2.2.2 0 10 = some 6 := hM.r (by decide) (by decide)
        have hz2 : zix spM 5 (nI n) = some n := zix_of rfl (by show n < 5; omega) (by decide)
        have z0' : zix spM 6 (nI (4 * n)) = some (4 * n) := zix_of rfl (by show 4 * n < 20; omega) (by decide)
        have z1' : zix spM 6 (nI (4 * n + 1)) = some (4 * n + 1) := zix_of rfl (by show 4 * n + 1 < 20; omega) (by decide)
        have z2' : zix spM 6 (nI (4 * n + 2)) = some (4 * n + 2) := zix_of rfl (by show 4 * n + 2 < 20; omega) (by decide)
        have z3' : zix spM 6 (nI (4 * n + 3)) = some (4 * n + 3) := zix_of rfl (by show 4 * n + 3 < 20; omega) (by decide)
        have i0 : (4 : Int32) * nI n = nI (4 * n) := idx40 n
        have i1 : nI (4 * n) + (1 : Int32) = nI (4 * n + 1) := nI_add _ 1
        have i2 : nI (4 * n) + (2 : Int32) = nI (4 * n + 2) := nI_add _ 2
        have i3 : nI (4 * n) + (3 : Int32) = nI (4 * n + 3) := nI_add _ 3
        refine ⟨nI n, zp (zp (zp (zp (zp (zp X (22 + n) 0 (nI i)) (22 + n) 1 (nI j)) (22 + n) 2 0) (22 + n) 3 0) (22 + n) 4 0) 0 10 (nI (n + 1)), zp (zp (zp (zp (zp (zp M 5 n (nI i)) 6 (4 * n) (nI j)) 6 (4 * n + 1) 0) 6 (4 * n + 2) 0) 6 (4 * n + 3) 0) 0 11 (nI (n + 1)), ?_, ?_, ⟨⟨hX.1, hX.2⟩, ⟨hM.1, hM.2⟩⟩, ?_, ?_, ?_, ?_, ?_, ?_, ?_, ?_⟩
        · simp [fX7_asker, fX0_come, f0, f2, g0, g2, zokX_0, zokX_1, zokX_2, zokX_3, zokX_4, zokX_5, zokX_6, zokX_7, zokX_8, zokX_9, zokX_10, zokX_11, zokX_12, zokX_13, zokX_14, zokX_15, zokX_16, zlaX_1, zlaX_2, zlaX_3, zlaX_4, zlaX_5, zlaX_6, zlaX_8, zlaX_11, zlaX_12, zlaX_13, zlaX_15, zlaX_16, zp_1, zp_h, zp_r, zp_l, zlet, Option.bind_some, spXe_0, spXe_1, spXe_2, spXe_3, spXe_4, spXe_5, spXe_6, spXe_7, spXe_8, spXe_9, spXe_10, spXe_11, spXe_12, spXe_13, spXe_14, spXe_15, spXe_16, hX.1, hnX, n0, hr, n1, hz, rX_seat hX hn, zok_seat, hn, neadd, nI_1, nI_m1]
          done
        · simp [fX8_asker, hi5, hi9, f0, f3, g0, g3, zokM_0, zokM_1, zokM_2, zokM_3, zokM_4, zokM_5, zokM_6, zokM_7, zokM_8, zokM_9, zokM_10, zokM_11, zokM_12, zokM_13, zokM_14, zokM_15, zlaM_1, zlaM_2, zlaM_3, zlaM_4, zlaM_5, zlaM_6, zlaM_7, zlaM_8, zlaM_9, zlaM_10, zlaM_11, zlaM_12, zlaM_13, zlaM_14, zlaM_15, zp_1, zp_h, zp_r, zp_l, zlet, Option.bind_some, spMe_0, spMe_1, spMe_2, spMe_3, spMe_4, spMe_5, spMe_6, spMe_7, spMe_8, spMe_9, spMe_10, spMe_11, spMe_12, spMe_13, spMe_14, spMe_15, hM.1, hnM, n2, hr2, hr3, hz2, i0, i1, i2, i3, z0', z1', z2', z3', nI_1, nI_m1]
          done
        · simpa [InvL, zp_h, neadd] using hL
        · obtain ⟨D1, D2, D3, D4⟩ := hD
          exact ⟨by simpa [zp_h, neadd] using D1, ⟨by simp [zp_h], n + 1, by omega, by simp [zp_h]⟩, by simpa [zp_h, neadd] using D3, by simpa [zp_h, neadd] using D4⟩
        · obtain ⟨A1, A2, A3⟩ := hA
          refine ⟨fun p hp k hk => ?_, fun p hp => ?_, fun p hp hp5 => ?_⟩
          · by_cases e : p = n
            · subst e
              rcases (show k = 0 ∨ k = 1 ∨ k = 2 ∨ k = 3 by omega) with rfl | rfl | rfl | rfl <;> simp [zp_h, addne]
            · have e0 : ¬ 4 * p + k = 4 * n := by omega
              have e1 : ¬ 4 * p + k = 4 * n + 1 := by omega
              have e2 : ¬ 4 * p + k = 4 * n + 2 := by omega
              have e3 : ¬ 4 * p + k = 4 * n + 3 := by omega
              simpa [zp_h, addne, addeq, e, e0, e1, e2, e3] using A1 p hp k hk
          · by_cases e : p = n
            · subst e
              refine ⟨⟨j, by omega, ?_⟩, ⟨0, by omega, ?_⟩, ⟨0, by omega, ?_⟩, ⟨0, by omega, ?_⟩⟩ <;> simp [zp_h, nI_0]
            · have e0 : ∀ k, k < 4 → ¬ 4 * p + k = 4 * n := fun k hk => by omega
              have e1 : ∀ k, k < 4 → ¬ 4 * p + k = 4 * n + 1 := fun k hk => by omega
              have e2 : ∀ k, k < 4 → ¬ 4 * p + k = 4 * n + 2 := fun k hk => by omega
              have e3 : ∀ k, k < 4 → ¬ 4 * p + k = 4 * n + 3 := fun k hk => by omega
              have hh : ∀ k, k < 4 → (zp (zp (zp (zp (zp (zp M 5 n (nI i)) 6 (4 * n) (nI j)) 6 (4 * n + 1) 0) 6 (4 * n + 2) 0) 6 (4 * n + 3) 0) 0 11 (nI (n + 1))).2.1 6 (4 * p + k) = M.2.1 6 (4 * p + k) := fun k hk => by simp [zp_h, e0 k hk, e1 k hk, e2 k hk, e3 k hk]
              exact (A2 p hp).congr hh
          · by_cases e : p = n
            · subst e
              exact ⟨by simp [zp_h, addne], i, by omega, by simp [zp_h]⟩
            · have hlt : p < n := by
                have h2 : nI p < nI (n + 1) := by simpa [zp_h] using hp
                have h3 : p < n + 1 := (nI_ltI (by omega) (by omega)).mp h2
                omega
              simpa [zp_h, addne, addeq, e] using A3 p (by rw [hnM]; exact nI_lt hlt (by omega)) hp5
        · simpa [InvP, zp_h, neadd] using hP
        · simpa [InvF, zp_h, neadd] using hF
        · have q1 : ∀ s, ¬ (51 + 2 * s = 22 + n) := fun s => by omega
          have q2 : ∀ s, ¬ (52 + 2 * s = 22 + n) := fun s => by omega
          simpa [InvS, zp_h, q1, q2, addne] using hS
        · obtain ⟨I1, I2⟩ := hI
          refine ⟨by simpa [zp_h, neadd] using I1, ?_⟩
          rcases I2 with I2 | ⟨k, nn, k1, k2, k3, k4, k5, k6, k7, k8, k9, k10, k11⟩
          · exact Or.inl (by simpa [zp_h] using I2)
          · have hnn : n = nn := (nI_inj (by omega) (by omega)).mp (hnM.symm.trans k4)
            subst hnn
            have q3 : ∀ p, p < 5 → ¬ (17 + p = 22 + n) := fun p hp => by omega
            refine Or.inr ⟨k, n + 1, by omega, by omega, by simpa [zp_h] using k3, by simp [zp_h], by simpa [zp_h, neadd] using k5, by simpa [zp_h] using k6, by simpa [zp_h, neadd] using k7, by simpa [zp_h, neadd] using k8, fun p hp q hq => by simpa [zp_h, q3 p hp, addne] using k9 p hp q hq, by simpa [zp_h] using k10, fun p hp => ?_⟩
            have e : ¬ p = n := by omega
            simpa [zp_h, q3 p (by omega), addne, e] using k11 p hp
        · have q4 : ∀ t, ¬ (27 + 4 * t = 22 + n) := fun t => by omega
          have q5 : ∀ t, ¬ (28 + 4 * t = 22 + n) := fun t => by omega
          have q6 : ∀ t, ¬ (29 + 4 * t = 22 + n) := fun t => by omega
          exact hT.mono (by simp [zp_h]) (fun t ht => by simp [zp_h, q4, q5, q6, addne]) (fun t ht => by simp [zp_h])
