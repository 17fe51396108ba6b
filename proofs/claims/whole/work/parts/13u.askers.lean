theorem asker_fr (a c : Int32) : ∀ X M, Inv X M → ∃ r X' M', fX7_asker 0 a c X = some (r, X') ∧ fX8_asker 0 a c M = some (r, M') ∧ (∀ o k, 51 ≤ o → X'.2.1 o k = X.2.1 o k) ∧ (∀ o k, 12 ≤ o → M'.2.1 o k = M.2.1 o k) ∧ Inv X' M' := by
  intro X M h
  have hInv := h
  obtain ⟨⟨hX, hM⟩, hL, hD, hA, hP, hF, hS, hI, hT⟩ := h
  obtain ⟨n, hn5, hnX, hnM⟩ := many_of hD
  have hi5 := fun st => in_1 a 5 5 (by decide) st
  have hi9 := fun st => in_1 c 9 9 (by decide) st
  rcases cases_in a 6 (by decide) with f0 | ⟨f1, f0⟩ | ⟨i, hi, rfl, f0⟩
  · refine ⟨-2, X, M, ?_, ?_, fun _ _ _ => rfl, fun _ _ _ => rfl, hInv⟩
    · simp only [fX7_asker, if_pos f0]
    · simp only [fX8_asker, hi5, Option.bind_some, if_pos f0, if_true]
  · have f2 : (6 : Int32) ≤ a := f1
    have f3 : (5 : Int32) < a := Int32.lt_of_lt_of_le (nI_lt (a := 5) (b := 6) (by decide) (by decide)) f1
    refine ⟨-2, X, M, ?_, ?_, fun _ _ _ => rfl, fun _ _ _ => rfl, hInv⟩
    · simp only [fX7_asker, if_neg f0, if_pos f2]
    · simp only [fX8_asker, hi5, Option.bind_some, if_neg f0, if_pos f3, if_true]
  · have f2 : ¬ (6 : Int32) ≤ nI i := nI_ge (b := 6) hi (by decide)
    have f3 : ¬ (5 : Int32) < nI i := nI_nlt (a := 5) (by omega) (by decide)
    rcases cases_in c 10 (by decide) with g0 | ⟨g1, g0⟩ | ⟨j, hj, rfl, g0⟩
    · refine ⟨-2, X, M, ?_, ?_, fun _ _ _ => rfl, fun _ _ _ => rfl, hInv⟩
      · simp only [fX7_asker, if_neg f0, if_neg f2, if_pos g0]
      · simp only [fX8_asker, hi5, hi9, Option.bind_some, if_neg f0, if_neg f3, if_neg one0, if_pos g0, if_true]
    · have g2 : ¬ c ≤ 9 := Int32.not_le.mpr (Int32.lt_of_lt_of_le (nI_lt (a := 9) (b := 10) (by decide) (by decide)) g1)
      have g3 : (9 : Int32) < c := Int32.not_le.mp g2
      refine ⟨-2, X, M, ?_, ?_, fun _ _ _ => rfl, fun _ _ _ => rfl, hInv⟩
      · simp only [fX7_asker, if_neg f0, if_neg f2, if_neg g0, if_neg g2]
      · simp only [fX8_asker, hi5, hi9, Option.bind_some, if_neg f0, if_neg f3, if_neg one0, if_neg g0, if_pos g3, if_true]
    · have g2 : nI j ≤ (9 : Int32) := nI_le (b := 9) (by omega) (by decide)
      have g3 : ¬ (9 : Int32) < nI j := Int32.not_lt.mpr g2
      have n0 : ¬ nI n < 0 := nI_pos (by omega)
      have hr : X.2.2.2 0 3 = some 4 := hX.r (by decide) (by decide) (by decide) (by decide)
      by_cases hc : n = 5
      · subst hc
        refine ⟨-4, X, M, ?_, ?_, fun _ _ _ => rfl, fun _ _ _ => rfl, hInv⟩
        · simp only [fX7_asker, if_neg f0, if_neg f2, if_neg g0, if_pos g2, zokX_0, zokX_1, zokX_2, zokX_3, zokX_4, zokX_5, zokX_6, zokX_7, zokX_8, zokX_9, zokX_10, zokX_11, zokX_12, zokX_13, zokX_14, zokX_15, zokX_16, zlaX_1, zlaX_2, zlaX_3, zlaX_4, zlaX_5, zlaX_6, zlaX_8, zlaX_11, zlaX_12, zlaX_13, zlaX_15, zlaX_16, zp_1, zp_h, zp_r, zp_l, zlet, Option.bind_some, spXe_0, spXe_1, spXe_2, spXe_3, spXe_4, spXe_5, spXe_6, spXe_7, spXe_8, spXe_9, spXe_10, spXe_11, spXe_12, spXe_13, spXe_14, spXe_15, spXe_16, hX.1, hnX, if_neg n0, hr, if_neg (show ¬ nI 5 < Int32.ofNat 5 by decide)]
        · simp only [fX8_asker, hi5, hi9, if_neg f0, if_neg f3, if_neg one0, if_neg g0, if_neg g3, zokM_0, zokM_1, zokM_2, zokM_3, zokM_4, zokM_5, zokM_6, zokM_7, zokM_8, zokM_9, zokM_10, zokM_11, zokM_12, zokM_13, zokM_14, zokM_15, zlaM_1, zlaM_2, zlaM_3, zlaM_4, zlaM_5, zlaM_6, zlaM_7, zlaM_8, zlaM_9, zlaM_10, zlaM_11, zlaM_12, zlaM_13, zlaM_14, zlaM_15, zp_1, zp_h, zp_r, zp_l, zlet, Option.bind_some, spMe_0, spMe_1, spMe_2, spMe_3, spMe_4, spMe_5, spMe_6, spMe_7, spMe_8, spMe_9, spMe_10, spMe_11, spMe_12, spMe_13, spMe_14, spMe_15, hM.1, hnM, if_pos (show nI 5 = (5 : Int32) from rfl)]
      · have hn : n < 5 := by omega
        have n1 : nI n < (5 : Int32) := nI_lt (b := 5) hn (by decide)
        have n2 : ¬ nI n = (5 : Int32) := fun q => hc ((nI_inj (b := 5) (by omega) (by decide)).mp q)
        have hz : zix spX 4 (nI n) = some n := zix_of rfl (by show n < 5; omega) (by decide)
        have hr2 : M.2.2.2 0 9 = some 5 := hM.r (by decide) (by decide)
        have hr3 : M.2.2.2 0 10 = some 6 := hM.r (by decide) (by decide)
        have hz2 : zix spM 5 (nI n) = some n := zix_of rfl (by show n < 5; omega) (by decide)
        have z0' : zix spM 6 (nI (4 * n)) = some (4 * n) := zix_of rfl (by show 4 * n < 20; omega) (by decide)
        have z1' : zix spM 6 (nI (4 * n + 1)) = some (4 * n + 1) := zix_of rfl (by show 4 * n + 1 < 20; omega) (by decide)
        have z2' : zix spM 6 (nI (4 * n + 2)) = some (4 * n + 2) := zix_of rfl (by show 4 * n + 2 < 20; omega) (by decide)
        have z3' : zix spM 6 (nI (4 * n + 3)) = some (4 * n + 3) := zix_of rfl (by show 4 * n + 3 < 20; omega) (by decide)
        have i0 : (4 : Int32) * nI n = nI (4 * n) := idx40 n
        have i1 : nI (4 * n) + (1 : Int32) = nI (4 * n + 1) := nI_add _ 1
        have i2 : nI (4 * n) + (2 : Int32) = nI (4 * n + 2) := nI_add _ 2
        have i3 : nI (4 * n) + (3 : Int32) = nI (4 * n + 3) := nI_add _ 3
        refine ⟨nI n, zp (zp (zp (zp (zp (zp X (22 + n) 0 (nI i)) (22 + n) 1 (nI j)) (22 + n) 2 0) (22 + n) 3 0) (22 + n) 4 0) 0 10 (nI (n + 1)), zp (zp (zp (zp (zp (zp M 5 n (nI i)) 6 (4 * n) (nI j)) 6 (4 * n + 1) 0) 6 (4 * n + 2) 0) 6 (4 * n + 3) 0) 0 11 (nI (n + 1)), ?_, ?_, fun o k ho => by rw [zp_h, if_neg (by omega), zp_h, if_neg (by omega), zp_h, if_neg (by omega), zp_h, if_neg (by omega), zp_h, if_neg (by omega), zp_h, if_neg (by omega)], fun o k ho => by rw [zp_h, if_neg (by omega), zp_h, if_neg (by omega), zp_h, if_neg (by omega), zp_h, if_neg (by omega), zp_h, if_neg (by omega), zp_h, if_neg (by omega)], ⟨⟨hX.1, hX.2⟩, ⟨hM.1, hM.2⟩⟩, ?_, ?_, ?_, ?_, ?_, ?_, ?_, ?_⟩
        · simp [fX7_asker, fX0_come, f0, f2, g0, g2, zokX_0, zokX_1, zokX_2, zokX_3, zokX_4, zokX_5, zokX_6, zokX_7, zokX_8, zokX_9, zokX_10, zokX_11, zokX_12, zokX_13, zokX_14, zokX_15, zokX_16, zlaX_1, zlaX_2, zlaX_3, zlaX_4, zlaX_5, zlaX_6, zlaX_8, zlaX_11, zlaX_12, zlaX_13, zlaX_15, zlaX_16, zp_1, zp_h, zp_r, zp_l, zlet, Option.bind_some, spXe_0, spXe_1, spXe_2, spXe_3, spXe_4, spXe_5, spXe_6, spXe_7, spXe_8, spXe_9, spXe_10, spXe_11, spXe_12, spXe_13, spXe_14, spXe_15, spXe_16, hX.1, hnX, n0, hr, n1, hz, rX_seat hX hn, zok_seat, hn, neadd, nI_1, nI_m1]
          done
        · simp [fX8_asker, hi5, hi9, f0, f3, g0, g3, zokM_0, zokM_1, zokM_2, zokM_3, zokM_4, zokM_5, zokM_6, zokM_7, zokM_8, zokM_9, zokM_10, zokM_11, zokM_12, zokM_13, zokM_14, zokM_15, zlaM_1, zlaM_2, zlaM_3, zlaM_4, zlaM_5, zlaM_6, zlaM_7, zlaM_8, zlaM_9, zlaM_10, zlaM_11, zlaM_12, zlaM_13, zlaM_14, zlaM_15, zp_1, zp_h, zp_r, zp_l, zlet, Option.bind_some, spMe_0, spMe_1, spMe_2, spMe_3, spMe_4, spMe_5, spMe_6, spMe_7, spMe_8, spMe_9, spMe_10, spMe_11, spMe_12, spMe_13, spMe_14, spMe_15, hM.1, hnM, n2, hr2, hr3, hz2, i0, i1, i2, i3, z0', z1', z2', z3', nI_1, nI_m1]
          done
        · simpa [InvL, zp_h, neadd] using hL
        · obtain ⟨D1, D2, D3, D4⟩ := hD
          exact ⟨by simpa [zp_h, neadd] using D1, ⟨by simp [zp_h], n + 1, by omega, by simp [zp_h]⟩, by simpa [zp_h, neadd] using D3, by simpa [zp_h, neadd] using D4⟩
        · obtain ⟨A1, A2, A3⟩ := hA
          refine ⟨fun p hp k hk => ?_, fun p hp => ?_, fun p hp hp5 => ?_⟩
          · by_cases e : p = n
            · subst e
              rcases (show k = 0 ∨ k = 1 ∨ k = 2 ∨ k = 3 by omega) with rfl | rfl | rfl | rfl <;> simp [zp_h, addne]
            · have e0 : ¬ 4 * p + k = 4 * n := by omega
              have e1 : ¬ 4 * p + k = 4 * n + 1 := by omega
              have e2 : ¬ 4 * p + k = 4 * n + 2 := by omega
              have e3 : ¬ 4 * p + k = 4 * n + 3 := by omega
              simpa [zp_h, addne, addeq, e, e0, e1, e2, e3] using A1 p hp k hk
          · by_cases e : p = n
            · subst e
              refine ⟨⟨j, by omega, ?_⟩, ⟨0, by omega, ?_⟩, ⟨0, by omega, ?_⟩, ⟨0, by omega, ?_⟩⟩ <;> simp [zp_h, nI_0]
            · have e0 : ∀ k, k < 4 → ¬ 4 * p + k = 4 * n := fun k hk => by omega
              have e1 : ∀ k, k < 4 → ¬ 4 * p + k = 4 * n + 1 := fun k hk => by omega
              have e2 : ∀ k, k < 4 → ¬ 4 * p + k = 4 * n + 2 := fun k hk => by omega
              have e3 : ∀ k, k < 4 → ¬ 4 * p + k = 4 * n + 3 := fun k hk => by omega
              have hh : ∀ k, k < 4 → (zp (zp (zp (zp (zp (zp M 5 n (nI i)) 6 (4 * n) (nI j)) 6 (4 * n + 1) 0) 6 (4 * n + 2) 0) 6 (4 * n + 3) 0) 0 11 (nI (n + 1))).2.1 6 (4 * p + k) = M.2.1 6 (4 * p + k) := fun k hk => by simp [zp_h, e0 k hk, e1 k hk, e2 k hk, e3 k hk]
              exact (A2 p hp).congr hh
          · by_cases e : p = n
            · subst e
              exact ⟨by simp [zp_h, addne], i, by omega, by simp [zp_h]⟩
            · have hlt : p < n := by
                have h2 : nI p < nI (n + 1) := by simpa [zp_h] using hp
                have h3 : p < n + 1 := (nI_ltI (by omega) (by omega)).mp h2
                omega
              simpa [zp_h, addne, addeq, e] using A3 p (by rw [hnM]; exact nI_lt hlt (by omega)) hp5
        · simpa [InvP, zp_h, neadd] using hP
        · simpa [InvF, zp_h, neadd] using hF
        · have q1 : ∀ s, ¬ (51 + 2 * s = 22 + n) := fun s => by omega
          have q2 : ∀ s, ¬ (52 + 2 * s = 22 + n) := fun s => by omega
          simpa [InvS, zp_h, q1, q2, addne] using hS
        · obtain ⟨I1, I2⟩ := hI
          refine ⟨by simpa [zp_h, neadd] using I1, ?_⟩
          rcases I2 with I2 | ⟨k, nn, k1, k2, k3, k4, k5, k6, k7, k8, k9, k10, k11⟩
          · exact Or.inl (by simpa [zp_h] using I2)
          · have hnn : n = nn := (nI_inj (by omega) (by omega)).mp (hnM.symm.trans k4)
            subst hnn
            have q3 : ∀ p, p < 5 → ¬ (17 + p = 22 + n) := fun p hp => by omega
            refine Or.inr ⟨k, n + 1, by omega, by omega, by simpa [zp_h] using k3, by simp [zp_h], by simpa [zp_h, neadd] using k5, by simpa [zp_h] using k6, by simpa [zp_h, neadd] using k7, by simpa [zp_h, neadd] using k8, fun p hp q hq => by simpa [zp_h, q3 p hp, addne] using k9 p hp q hq, by simpa [zp_h] using k10, fun p hp => ?_⟩
            have e : ¬ p = n := by omega
            simpa [zp_h, q3 p (by omega), addne, e] using k11 p hp
        · have q4 : ∀ t, ¬ (27 + 4 * t = 22 + n) := fun t => by omega
          have q5 : ∀ t, ¬ (28 + 4 * t = 22 + n) := fun t => by omega
          have q6 : ∀ t, ¬ (29 + 4 * t = 22 + n) := fun t => by omega
          exact hT.mono (by simp [zp_h]) (fun t ht => by simp [zp_h, q4, q5, q6, addne]) (fun t ht => by simp [zp_h])

theorem x_holds {X : zS} (hX : shX X) {q : Nat} (hq : q < 4) (a b : Int32) : fX3_holds (51 + 2 * q) a b X = some (if a < 0 then 0 else if b < 0 then 0 else if X.2.1 (51 + 2 * q) 2 - b < a then 0 else 1, X) := by
  unfold fX3_holds fX3_holds_j22
  rw [zok_sheet hX.1 hq, obs]
  split
  · rfl
  · split
    · rfl
    · split <;> rfl
theorem z01 : ¬ ((1 : Int32) = 0) := by decide
/-- the loop of askers -/
theorem askers_loop {q m0 f : Nat} (hf : f ≤ 40) {n0 : Nat} (hn0 : n0 ≤ 5) : ∀ (m k n n' c : Nat) (X M : zS), k + m = n0 → m < n → m < n' → c ≤ k → Inv X M → Sht X M q m0 → ∃ r X' M', fX7_askers_L75 0 n (nI n0) (some (51 + 2 * q)) (nI c) (nI (f + 2 * k)) (nI k) X = some (r, X') ∧ fX8_askers_L75 0 n' (nI q) (nI f) (nI n0) (nI c) (nI k) M = some (r, M') ∧ Inv X' M'
  | m, k, 0, _, _, _, _, _, h, _, _, _, _ => by omega
  | m, k, _, 0, _, _, _, _, _, h, _, _, _ => by omega
  | 0, k, n + 1, n' + 1, c, X, M, e, _, _, hc, hI, hS => by
    have cc : nI n0 ≤ nI k := nI_le (by omega) (by omega)
    refine ⟨nI c, X, M, ?_, ?_, hI⟩
    · simp only [fX7_askers_L75, if_pos cc]
    · simp only [fX8_askers_L75, if_pos cc]
  | m + 1, k, n + 1, n' + 1, c, X, M, e, hn, hn', hc, hI, hS => by
    have hS0 := hS
    obtain ⟨hq, h40, h3, h14, h5⟩ := hS
    have hX := hI.1.1
    have hM := hI.1.2
    have cc : ¬ nI n0 ≤ nI k := nI_ge (by omega) (by omega)
    have f0 : ¬ nI f < 0 := nI_pos (by omega)
    have a0 : ¬ nI (f + 2 * k) < 0 := nI_pos (by omega)
    have t0 : ¬ (2 : Int32) < 0 := by decide
    have r14 : M.2.2.2 0 44 = some 14 := hM.r (by decide) (by decide)
    have r15 : M.2.2.2 0 45 = some 15 := hM.r (by decide) (by decide)
    have z14 : zix spM 14 (nI q) = some q := zix_of rfl hq (by decide)
    have i2 : (2 : Int32) * nI k = nI (2 * k) := pk_mul 2 k
    have eh := x_holds hX hq (nI (f + 2 * k)) 2
    rw [h3, if_neg a0, if_neg t0] at eh
    by_cases c1 : f + 2 * k + 2 ≤ m0
    · have w1 : ¬ nI m0 - 2 < nI (f + 2 * k) := by
        rw [show nI m0 - (2 : Int32) = nI (m0 - 2) from pk_sub (b := 2) (by omega)]
        exact nI_nlt (by omega) (by omega)
      have w2 : nI f ≤ nI m0 - nI (2 * k) - 2 := by
        rw [pk_sub (show 2 * k ≤ m0 by omega), show nI (m0 - 2 * k) - (2 : Int32) = nI (m0 - 2 * k - 2) from pk_sub (b := 2) (by omega)]
        exact nI_le (by omega) (by omega)
      rw [if_neg w1] at eh
      have ea := x_at hX hq h3 h40 (show f + 2 * k < m0 by omega)
      have eb := x_at hX hq h3 h40 (show f + 2 * k + 1 < m0 by omega)
      rw [h5 _ (by omega)] at ea eb
      have ix : (40 : Int32) * nI q + nI f + nI (2 * k) = nI (40 * q + (f + 2 * k)) := by
        rw [idx40s, nI_add, show 40 * q + f + 2 * k = 40 * q + (f + 2 * k) by omega]
      have za : zix spM 15 (nI (40 * q + (f + 2 * k))) = some (40 * q + (f + 2 * k)) := zix_of rfl (by show 40 * q + (f + 2 * k) < 160; omega) (by decide)
      have zb : zix spM 15 (nI (40 * q + (f + 2 * k) + 1)) = some (40 * q + (f + 2 * k + 1)) := zix_of rfl (by show 40 * q + (f + 2 * k + 1) < 160; omega) (by decide)
      obtain ⟨r, X1, M1, x1, m1, x2, m2, hI1⟩ := asker_fr (M.2.1 15 (40 * q + (f + 2 * k))) (M.2.1 15 (40 * q + (f + 2 * k + 1))) X M hI
      have hS1 : Sht X1 M1 q m0 := by
        obtain ⟨h1, h2, h3, h4, h5⟩ := hS0
        exact ⟨h1, h2, (x2 _ _ (by omega)).trans h3, (m2 _ _ (by decide)).trans h4, fun j hj => by rw [x2 _ _ (by omega), m2 _ _ (by decide)]; exact h5 j hj⟩
      have nxt : nI (f + 2 * k) + 2 = nI (f + 2 * (k + 1)) := by
        show nI (f + 2 * k) + nI 2 = _
        rw [nI_add, show f + 2 * k + 2 = f + 2 * (k + 1) by omega]
      by_cases rr : r < 0
      · obtain ⟨r', X', M', y1, y2, y3⟩ := askers_loop hf hn0 m (k + 1) n n' c X1 M1 (by omega) (by omega) (by omega) (by omega) hI1 hS1
        refine ⟨r', X', M', ?_, ?_, y3⟩
        · simp only [fX7_askers_L75, fX7_askers_j122, zokX_0, zokX_1, zokX_2, zokX_3, zokX_4, zokX_5, zokX_6, zokX_7, zokX_8, zokX_9, zokX_10, zokX_11, zokX_12, zokX_13, zokX_14, zokX_15, zokX_16, zlaX_1, zlaX_2, zlaX_3, zlaX_4, zlaX_5, zlaX_6, zlaX_8, zlaX_11, zlaX_12, zlaX_13, zlaX_15, zlaX_16, zp_1, zp_h, zp_r, zp_l, zletE, obs, spXe_0, spXe_1, spXe_2, spXe_3, spXe_4, spXe_5, spXe_6, spXe_7, spXe_8, spXe_9, spXe_10, spXe_11, spXe_12, spXe_13, spXe_14, spXe_15, spXe_16, hX.1, if_neg cc, zok_sheet hX.1 hq, eh, if_neg z01, ea, nI_1, eb, x1, if_pos rr, nxt]
          exact y1
        · have w : nI c + 0 = nI c := by simp
          simp only [fX8_askers_L75, fX8_askers_j149, zokM_0, zokM_1, zokM_2, zokM_3, zokM_4, zokM_5, zokM_6, zokM_7, zokM_8, zokM_9, zokM_10, zokM_11, zokM_12, zokM_13, zokM_14, zokM_15, zlaM_1, zlaM_2, zlaM_3, zlaM_4, zlaM_5, zlaM_6, zlaM_7, zlaM_8, zlaM_9, zlaM_10, zlaM_11, zlaM_12, zlaM_13, zlaM_14, zlaM_15, zp_1, zp_h, zp_r, zp_l, zletE, obs, spMe_0, spMe_1, spMe_2, spMe_3, spMe_4, spMe_5, spMe_6, spMe_7, spMe_8, spMe_9, spMe_10, spMe_11, spMe_12, spMe_13, spMe_14, spMe_15, hM.1, if_neg cc, if_neg f0, r14, z14, h14, i2, if_pos w2, r15, ix, za, nI_1, zb, m1, if_pos rr, w]
          exact y2
      · obtain ⟨r', X', M', y1, y2, y3⟩ := askers_loop hf hn0 m (k + 1) n n' (c + 1) X1 M1 (by omega) (by omega) (by omega) (by omega) hI1 hS1
        refine ⟨r', X', M', ?_, ?_, y3⟩
        · simp only [fX7_askers_L75, fX7_askers_j122, zokX_0, zokX_1, zokX_2, zokX_3, zokX_4, zokX_5, zokX_6, zokX_7, zokX_8, zokX_9, zokX_10, zokX_11, zokX_12, zokX_13, zokX_14, zokX_15, zokX_16, zlaX_1, zlaX_2, zlaX_3, zlaX_4, zlaX_5, zlaX_6, zlaX_8, zlaX_11, zlaX_12, zlaX_13, zlaX_15, zlaX_16, zp_1, zp_h, zp_r, zp_l, zletE, obs, spXe_0, spXe_1, spXe_2, spXe_3, spXe_4, spXe_5, spXe_6, spXe_7, spXe_8, spXe_9, spXe_10, spXe_11, spXe_12, spXe_13, spXe_14, spXe_15, spXe_16, hX.1, if_neg cc, zok_sheet hX.1 hq, eh, if_neg z01, ea, nI_1, eb, x1, if_neg rr, nxt]
          exact y1
        · simp only [fX8_askers_L75, fX8_askers_j149, zokM_0, zokM_1, zokM_2, zokM_3, zokM_4, zokM_5, zokM_6, zokM_7, zokM_8, zokM_9, zokM_10, zokM_11, zokM_12, zokM_13, zokM_14, zokM_15, zlaM_1, zlaM_2, zlaM_3, zlaM_4, zlaM_5, zlaM_6, zlaM_7, zlaM_8, zlaM_9, zlaM_10, zlaM_11, zlaM_12, zlaM_13, zlaM_14, zlaM_15, zp_1, zp_h, zp_r, zp_l, zletE, obs, spMe_0, spMe_1, spMe_2, spMe_3, spMe_4, spMe_5, spMe_6, spMe_7, spMe_8, spMe_9, spMe_10, spMe_11, spMe_12, spMe_13, spMe_14, spMe_15, hM.1, if_neg cc, if_neg f0, r14, z14, h14, i2, if_pos w2, r15, ix, za, nI_1, zb, m1, if_neg rr]
          exact y2
    · have e2 : (nI m0 - (2 : Int32)).toInt = (m0 : Int) - 2 := pk_sub_toInt (a := m0) (b := 2) (by omega) (by decide)
      have w1 : nI m0 - 2 < nI (f + 2 * k) := by
        rw [Int32.lt_iff_toInt_lt, e2, nI_toInt (by omega)]
        omega
      have w2 : ¬ nI f ≤ nI m0 - nI (2 * k) - 2 := by
        have e3 : nI m0 - nI (2 * k) - 2 = nI m0 - nI (2 * k + 2) := by
          rw [Int32.sub_sub]
          congr 1
          exact nI_add (2 * k) 2
        rw [e3, Int32.le_iff_toInt_le, pk_sub_toInt (by omega) (by omega), nI_toInt (by omega)]
        omega
      rw [if_pos w1] at eh
      refine ⟨-12, X, M, ?_, ?_, hI⟩
      · simp only [fX7_askers_L75, obs, if_neg cc, zok_sheet hX.1 hq, eh, if_true]
      · simp only [fX8_askers_L75, zokM_0, zokM_1, zokM_2, zokM_3, zokM_4, zokM_5, zokM_6, zokM_7, zokM_8, zokM_9, zokM_10, zokM_11, zokM_12, zokM_13, zokM_14, zokM_15, zlaM_1, zlaM_2, zlaM_3, zlaM_4, zlaM_5, zlaM_6, zlaM_7, zlaM_8, zlaM_9, zlaM_10, zlaM_11, zlaM_12, zlaM_13, zlaM_14, zlaM_15, zp_1, zp_h, zp_r, zp_l, zletE, obs, spMe_0, spMe_1, spMe_2, spMe_3, spMe_4, spMe_5, spMe_6, spMe_7, spMe_8, spMe_9, spMe_10, spMe_11, spMe_12, spMe_13, spMe_14, spMe_15, hM.1, if_neg cc, if_neg f0, r14, z14, h14, i2, if_neg w2]
/-- a place outside -/
theorem askers_bad {X M : zS} {q m0 : Nat} {fr : Int32} (hf : fr < 0 ∨ nI 41 ≤ fr) {n0 : Nat} (hn0 : n0 ≤ 5) (hX : shX X) (hM : shM M) (hS : Sht X M q m0) (u : Nat) : ∃ r, fX7_askers_L75 0 (u + 1) (nI n0) (some (51 + 2 * q)) 0 fr 0 X = some (r, X) ∧ fX8_askers_L75 0 (u + 1) (nI q) fr (nI n0) 0 0 M = some (r, M) := by
  obtain ⟨hq, h40, h3, h14, h5⟩ := hS
  by_cases c0 : nI n0 ≤ 0
  · exact ⟨0, by simp only [fX7_askers_L75, if_pos c0], by simp only [fX8_askers_L75, if_pos c0]⟩
  · have t0 : ¬ (2 : Int32) < 0 := by decide
    have r14 : M.2.2.2 0 44 = some 14 := hM.r (by decide) (by decide)
    have z14 : zix spM 14 (nI q) = some q := zix_of rfl hq (by decide)
    have eh := x_holds hX hq fr 2
    by_cases f0 : fr < 0
    · rw [if_pos f0] at eh
      exact ⟨-12, by simp only [fX7_askers_L75, obs, if_neg c0, zok_sheet hX.1 hq, eh, if_true], by simp only [fX8_askers_L75, if_neg c0, if_pos f0]⟩
    · have f1 := hf.resolve_left f0
      rw [Int32.le_iff_toInt_le, nI_toInt (by decide)] at f1
      have e2 : (nI m0 - (2 : Int32)).toInt = (m0 : Int) - 2 := pk_sub_toInt (a := m0) (b := 2) (by omega) (by decide)
      have w1 : nI m0 - 2 < fr := by
        rw [Int32.lt_iff_toInt_lt, e2]
        omega
      have w2 : ¬ fr ≤ nI m0 - (2 : Int32) * 0 - 2 := by
        rw [show nI m0 - (2 : Int32) * 0 - 2 = nI m0 - 2 by simp, Int32.le_iff_toInt_le, e2]
        omega
      rw [h3, if_neg f0, if_neg t0, if_pos w1] at eh
      exact ⟨-12, by simp only [fX7_askers_L75, obs, if_neg c0, zok_sheet hX.1 hq, eh, if_true], by simp only [fX8_askers_L75, zokM_0, zokM_1, zokM_2, zokM_3, zokM_4, zokM_5, zokM_6, zokM_7, zokM_8, zokM_9, zokM_10, zokM_11, zokM_12, zokM_13, zokM_14, zokM_15, zlaM_1, zlaM_2, zlaM_3, zlaM_4, zlaM_5, zlaM_6, zlaM_7, zlaM_8, zlaM_9, zlaM_10, zlaM_11, zlaM_12, zlaM_13, zlaM_14, zlaM_15, zp_1, zp_h, zp_r, zp_l, zletE, obs, spMe_0, spMe_1, spMe_2, spMe_3, spMe_4, spMe_5, spMe_6, spMe_7, spMe_8, spMe_9, spMe_10, spMe_11, spMe_12, spMe_13, spMe_14, spMe_15, hM.1, if_neg c0, if_neg f0, r14, z14, h14, if_neg w2]⟩
theorem t_askers (a b f c : Int32) : TM2 Inv (fun st => fX7_askers 0 a b f c st) (fun st => fX8_askers 0 a b f c st) := by
  intro X M h
  have hInv := h
  obtain ⟨⟨hX, hM⟩, hL, hD, hA, hP, hF, hS, hI, hT⟩ := h
  have l2 : (2 : Int64) = (nI 2).toInt64 := by decide
  have l5 : (5 : Int64) = (nI 5).toInt64 := by decide
  rcases one_cases 4 (by decide) a with ha | ⟨q, hq, rfl⟩
  · exact ⟨-2, X, M, by simp only [fX7_askers, zokX_0, zokX_1, zokX_2, zokX_3, zokX_4, zokX_5, zokX_6, zokX_7, zokX_8, zokX_9, zokX_10, zokX_11, zokX_12, zokX_13, zokX_14, zokX_15, zokX_16, zlaX_1, zlaX_2, zlaX_3, zlaX_4, zlaX_5, zlaX_6, zlaX_8, zlaX_11, zlaX_12, zlaX_13, zlaX_15, zlaX_16, zp_1, zp_h, zp_r, zp_l, zletE, obs, spXe_0, spXe_1, spXe_2, spXe_3, spXe_4, spXe_5, spXe_6, spXe_7, spXe_8, spXe_9, spXe_10, spXe_11, spXe_12, spXe_13, spXe_14, spXe_15, spXe_16, hX.1, x_sheet0 hX ha, if_true], by simp only [fX8_askers, obs, m_sheet0 M ha, if_true], hInv⟩
  · have xs := x_sheet1 hX hq
    have ms := m_sheet1 M hq
    rcases one_cases 3 (by decide) b with hb | ⟨s0, hs0, rfl⟩
    · refine ⟨-2, X, M, ?_, by simp only [fX8_askers, obs, ms, if_neg n10, m_in0 2 (by decide) l2 hb, if_true], hInv⟩
      by_cases b0 : b < 0
      · simp only [fX7_askers, zokX_0, zokX_1, zokX_2, zokX_3, zokX_4, zokX_5, zokX_6, zokX_7, zokX_8, zokX_9, zokX_10, zokX_11, zokX_12, zokX_13, zokX_14, zokX_15, zokX_16, zlaX_1, zlaX_2, zlaX_3, zlaX_4, zlaX_5, zlaX_6, zlaX_8, zlaX_11, zlaX_12, zlaX_13, zlaX_15, zlaX_16, zp_1, zp_h, zp_r, zp_l, zletE, obs, spXe_0, spXe_1, spXe_2, spXe_3, spXe_4, spXe_5, spXe_6, spXe_7, spXe_8, spXe_9, spXe_10, spXe_11, spXe_12, spXe_13, spXe_14, spXe_15, spXe_16, hX.1, xs, if_neg (ss51 q), if_pos b0]
      · have b1 : 2 < b := Int32.lt_of_lt_of_le (show (2 : Int32) < nI 3 by decide) (hb.resolve_left b0)
        simp only [fX7_askers, zokX_0, zokX_1, zokX_2, zokX_3, zokX_4, zokX_5, zokX_6, zokX_7, zokX_8, zokX_9, zokX_10, zokX_11, zokX_12, zokX_13, zokX_14, zokX_15, zokX_16, zlaX_1, zlaX_2, zlaX_3, zlaX_4, zlaX_5, zlaX_6, zlaX_8, zlaX_11, zlaX_12, zlaX_13, zlaX_15, zlaX_16, zp_1, zp_h, zp_r, zp_l, zletE, obs, spXe_0, spXe_1, spXe_2, spXe_3, spXe_4, spXe_5, spXe_6, spXe_7, spXe_8, spXe_9, spXe_10, spXe_11, spXe_12, spXe_13, spXe_14, spXe_15, spXe_16, hX.1, xs, if_neg (ss51 q), if_neg b0, if_pos b1]
    · have b0 : ¬ nI s0 < 0 := nI_pos (by omega)
      have b1 : ¬ (2 : Int32) < nI s0 := nI_nlt (a := 2) (by omega) (by decide)
      have mb := m_in1 2 (by decide) l2 hs0 M
      rcases one_cases 6 (by decide) c with hc | ⟨n0, hn0, rfl⟩
      · refine ⟨-2, X, M, ?_, by simp only [fX8_askers, obs, ms, if_neg n10, mb, m_in0 5 (by decide) l5 hc, if_true], hInv⟩
        by_cases c0 : c < 0
        · simp only [fX7_askers, zokX_0, zokX_1, zokX_2, zokX_3, zokX_4, zokX_5, zokX_6, zokX_7, zokX_8, zokX_9, zokX_10, zokX_11, zokX_12, zokX_13, zokX_14, zokX_15, zokX_16, zlaX_1, zlaX_2, zlaX_3, zlaX_4, zlaX_5, zlaX_6, zlaX_8, zlaX_11, zlaX_12, zlaX_13, zlaX_15, zlaX_16, zp_1, zp_h, zp_r, zp_l, zletE, obs, spXe_0, spXe_1, spXe_2, spXe_3, spXe_4, spXe_5, spXe_6, spXe_7, spXe_8, spXe_9, spXe_10, spXe_11, spXe_12, spXe_13, spXe_14, spXe_15, spXe_16, hX.1, xs, if_neg (ss51 q), if_neg b0, if_neg b1, if_pos c0]
        · have c1 : ¬ c ≤ 5 := Int32.not_le.mpr (Int32.lt_of_lt_of_le (show (5 : Int32) < nI 6 by decide) (hc.resolve_left c0))
          simp only [fX7_askers, zokX_0, zokX_1, zokX_2, zokX_3, zokX_4, zokX_5, zokX_6, zokX_7, zokX_8, zokX_9, zokX_10, zokX_11, zokX_12, zokX_13, zokX_14, zokX_15, zokX_16, zlaX_1, zlaX_2, zlaX_3, zlaX_4, zlaX_5, zlaX_6, zlaX_8, zlaX_11, zlaX_12, zlaX_13, zlaX_15, zlaX_16, zp_1, zp_h, zp_r, zp_l, zletE, obs, spXe_0, spXe_1, spXe_2, spXe_3, spXe_4, spXe_5, spXe_6, spXe_7, spXe_8, spXe_9, spXe_10, spXe_11, spXe_12, spXe_13, spXe_14, spXe_15, spXe_16, hX.1, xs, if_neg (ss51 q), if_neg b0, if_neg b1, if_neg c0, if_neg c1]
      · have c0 : ¬ nI n0 < 0 := nI_pos (by omega)
        have c1 : nI n0 ≤ (5 : Int32) := nI_le (b := 5) (by omega) (by decide)
        have mc := m_in1 5 (by decide) l5 hn0 M
        have r42 : M.2.2.2 0 42 = some 12 := hM.r (by decide) (by decide)
        have r43 : M.2.2.2 0 43 = some 13 := hM.r (by decide) (by decide)
        have z12 : zix spM 12 (nI q) = some q := zix_of rfl hq (by decide)
        have z13 : zix spM 13 (nI q) = some q := zix_of rfl hq (by decide)
        have zs := zok_sheet hX.1 hq
        have xm := x_miss hX hq
        rcases sht_of hS hq with ⟨w1, w2⟩ | ⟨w1, w2, m0, hSh⟩
        · rw [if_pos w1] at xm
          exact ⟨-11, X, M, by simp only [fX7_askers, fX7_askers_j55, zokX_0, zokX_1, zokX_2, zokX_3, zokX_4, zokX_5, zokX_6, zokX_7, zokX_8, zokX_9, zokX_10, zokX_11, zokX_12, zokX_13, zokX_14, zokX_15, zokX_16, zlaX_1, zlaX_2, zlaX_3, zlaX_4, zlaX_5, zlaX_6, zlaX_8, zlaX_11, zlaX_12, zlaX_13, zlaX_15, zlaX_16, zp_1, zp_h, zp_r, zp_l, zletE, obs, spXe_0, spXe_1, spXe_2, spXe_3, spXe_4, spXe_5, spXe_6, spXe_7, spXe_8, spXe_9, spXe_10, spXe_11, spXe_12, spXe_13, spXe_14, spXe_15, spXe_16, hX.1, xs, if_neg (ss51 q), if_neg b0, if_neg b1, if_neg c0, if_pos c1, zs, xm, if_neg n10], by simp only [fX8_askers, fX8_askers_j57, zokM_0, zokM_1, zokM_2, zokM_3, zokM_4, zokM_5, zokM_6, zokM_7, zokM_8, zokM_9, zokM_10, zokM_11, zokM_12, zokM_13, zokM_14, zokM_15, zlaM_1, zlaM_2, zlaM_3, zlaM_4, zlaM_5, zlaM_6, zlaM_7, zlaM_8, zlaM_9, zlaM_10, zlaM_11, zlaM_12, zlaM_13, zlaM_14, zlaM_15, zp_1, zp_h, zp_r, zp_l, zletE, obs, spMe_0, spMe_1, spMe_2, spMe_3, spMe_4, spMe_5, spMe_6, spMe_7, spMe_8, spMe_9, spMe_10, spMe_11, spMe_12, spMe_13, spMe_14, spMe_15, hM.1, ms, if_neg n10, mb, mc, r42, z12, w2, if_true], hInv⟩
        · have w2' : ¬ M.2.1 12 q = 0 := by rw [w2]; decide
          rw [if_neg w1] at xm
          have w3 : M.2.1 13 q = X.2.1 (51 + 2 * q) 1 := (hS q hq).1.resolve_right w1
          by_cases c2 : X.2.1 (51 + 2 * q) 1 = nI s0
          · have go : ∃ r X' M', fX7_askers_L75 0 zF (nI n0) (some (51 + 2 * q)) 0 f 0 X = some (r, X') ∧ fX8_askers_L75 0 zF (nI q) f (nI n0) 0 0 M = some (r, M') ∧ Inv X' M' := by
              rcases one_cases 41 (by decide) f with hf | ⟨f, hf, rfl⟩
              · obtain ⟨r, y1, y2⟩ := askers_bad hf (show n0 ≤ 5 by omega) hX hM hSh 4999
                exact ⟨r, X, M, y1, y2, hInv⟩
              · obtain ⟨r, X', M', y1, y2, y3⟩ := askers_loop (f := f) (show f ≤ 40 by omega) (show n0 ≤ 5 by omega) n0 0 zF zF 0 X M (by omega) (by show n0 < 5000; omega) (by show n0 < 5000; omega) (by omega) hInv hSh
                exact ⟨r, X', M', y1, y2, y3⟩
            obtain ⟨r, X', M', y1, y2, y3⟩ := go
            have c3 : M.2.1 13 q = nI s0 := w3.trans c2
            exact ⟨r, X', M', by simp only [fX7_askers, fX7_askers_j55, zokX_0, zokX_1, zokX_2, zokX_3, zokX_4, zokX_5, zokX_6, zokX_7, zokX_8, zokX_9, zokX_10, zokX_11, zokX_12, zokX_13, zokX_14, zokX_15, zokX_16, zlaX_1, zlaX_2, zlaX_3, zlaX_4, zlaX_5, zlaX_6, zlaX_8, zlaX_11, zlaX_12, zlaX_13, zlaX_15, zlaX_16, zp_1, zp_h, zp_r, zp_l, zletE, obs, spXe_0, spXe_1, spXe_2, spXe_3, spXe_4, spXe_5, spXe_6, spXe_7, spXe_8, spXe_9, spXe_10, spXe_11, spXe_12, spXe_13, spXe_14, spXe_15, spXe_16, hX.1, xs, if_neg (ss51 q), if_neg b0, if_neg b1, if_neg c0, if_pos c1, zs, xm, if_true, if_pos c2, y1], by simp only [fX8_askers, fX8_askers_j57, zokM_0, zokM_1, zokM_2, zokM_3, zokM_4, zokM_5, zokM_6, zokM_7, zokM_8, zokM_9, zokM_10, zokM_11, zokM_12, zokM_13, zokM_14, zokM_15, zlaM_1, zlaM_2, zlaM_3, zlaM_4, zlaM_5, zlaM_6, zlaM_7, zlaM_8, zlaM_9, zlaM_10, zlaM_11, zlaM_12, zlaM_13, zlaM_14, zlaM_15, zp_1, zp_h, zp_r, zp_l, zletE, obs, spMe_0, spMe_1, spMe_2, spMe_3, spMe_4, spMe_5, spMe_6, spMe_7, spMe_8, spMe_9, spMe_10, spMe_11, spMe_12, spMe_13, spMe_14, spMe_15, hM.1, ms, if_neg n10, mb, mc, r42, z12, if_neg w2', r43, z13, if_pos c3, y2], y3⟩
          · have c3 : ¬ M.2.1 13 q = nI s0 := by rw [w3]; exact c2
            exact ⟨-13, X, M, by simp only [fX7_askers, zokX_0, zokX_1, zokX_2, zokX_3, zokX_4, zokX_5, zokX_6, zokX_7, zokX_8, zokX_9, zokX_10, zokX_11, zokX_12, zokX_13, zokX_14, zokX_15, zokX_16, zlaX_1, zlaX_2, zlaX_3, zlaX_4, zlaX_5, zlaX_6, zlaX_8, zlaX_11, zlaX_12, zlaX_13, zlaX_15, zlaX_16, zp_1, zp_h, zp_r, zp_l, zletE, obs, spXe_0, spXe_1, spXe_2, spXe_3, spXe_4, spXe_5, spXe_6, spXe_7, spXe_8, spXe_9, spXe_10, spXe_11, spXe_12, spXe_13, spXe_14, spXe_15, spXe_16, hX.1, xs, if_neg (ss51 q), if_neg b0, if_neg b1, if_neg c0, if_pos c1, zs, xm, if_true, if_neg c2], by simp only [fX8_askers, zokM_0, zokM_1, zokM_2, zokM_3, zokM_4, zokM_5, zokM_6, zokM_7, zokM_8, zokM_9, zokM_10, zokM_11, zokM_12, zokM_13, zokM_14, zokM_15, zlaM_1, zlaM_2, zlaM_3, zlaM_4, zlaM_5, zlaM_6, zlaM_7, zlaM_8, zlaM_9, zlaM_10, zlaM_11, zlaM_12, zlaM_13, zlaM_14, zlaM_15, zp_1, zp_h, zp_r, zp_l, zletE, obs, spMe_0, spMe_1, spMe_2, spMe_3, spMe_4, spMe_5, spMe_6, spMe_7, spMe_8, spMe_9, spMe_10, spMe_11, spMe_12, spMe_13, spMe_14, spMe_15, hM.1, ms, if_neg n10, mb, mc, r42, z12, if_neg w2', r43, z13, if_neg c3], hInv⟩
