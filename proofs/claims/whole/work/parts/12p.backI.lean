theorem t_back : TM2 Inv (fun st => fX7_back 0 st) (fun st => fX8_back 0 st) := by
  intro X M h
  have hInv := h
  obtain ⟨⟨hX, hM⟩, hL, hD, hA, hP, hF, hS, hI, hT⟩ := h
  obtain ⟨I1, I2⟩ := hI
  rcases I2 with I2 | ⟨k, n, k1, k2, k3, k4, k5, k6, ⟨k7, k7'⟩, ⟨k8, c, r, c1, c2, c3, c4⟩, k9, k10, k11⟩
  · have r08 : X.2.2.2 0 8 = some 14 := hX.r (by decide) (by decide) (by decide) (by decide)
    refine ⟨-3, X, M, ?_, ?_, hInv⟩
    · simp [fX7_back, zokX_0, zokX_1, zokX_2, zokX_3, zokX_4, zokX_5, zokX_6, zokX_7, zokX_8, zokX_9, zokX_10, zokX_11, zokX_12, zokX_13, zokX_14, zokX_15, zokX_16, zlaX_1, zlaX_2, zlaX_3, zlaX_4, zlaX_5, zlaX_6, zlaX_8, zlaX_11, zlaX_12, zlaX_13, zlaX_15, zlaX_16, zp_1, zp_h, zp_r, zp_l, zlet, Option.bind_some, spXe_0, spXe_1, spXe_2, spXe_3, spXe_4, spXe_5, spXe_6, spXe_7, spXe_8, spXe_9, spXe_10, spXe_11, spXe_12, spXe_13, spXe_14, spXe_15, spXe_16, zokX_14, hX.1, r08, I1.trans I2]
    · simp [fX8_back, zokM_0, zokM_1, zokM_2, zokM_3, zokM_4, zokM_5, zokM_6, zokM_7, zokM_8, zokM_9, zokM_10, zokM_11, zokM_12, zokM_13, zokM_14, zokM_15, zlaM_1, zlaM_2, zlaM_3, zlaM_4, zlaM_5, zlaM_6, zlaM_7, zlaM_8, zlaM_9, zlaM_10, zlaM_11, zlaM_12, zlaM_13, zlaM_14, zlaM_15, zp_1, zp_h, zp_r, zp_l, zlet, Option.bind_some, spMe_0, spMe_1, spMe_2, spMe_3, spMe_4, spMe_5, spMe_6, spMe_7, spMe_8, spMe_9, spMe_10, spMe_11, spMe_12, spMe_13, spMe_14, spMe_15, hM.1, I2]
  · have hneM : ¬ M.2.1 0 39 = -1 := by
      rw [k3]
      intro q
      have h1 := nI_pos' (n := k) (by omega)
      rw [q] at h1
      exact absurd h1 (by decide)
    obtain ⟨X', ex, hX', x1, x22, xm, xd, xr, sx⟩ := x_back hX (by rw [I1]; exact hneM)
    obtain ⟨M', em, hM', m4, m6, mm, md, mr, sm⟩ := m_back hM hneM
    have hm3 : M'.2.1 0 3 = M.2.1 0 3 := sm 0 3 (by decide) (by decide) (Or.inr (by decide))
    have hlkK : LkOK (fun t => M.2.1 10 t) := k6
    refine ⟨M.2.1 0 39, X', M', by rw [← I1]; exact ex, em, ⟨hX', hM'⟩, ?_, ?_, ?_, ?_, ?_, ?_, ?_, ?_⟩
    · refine ⟨fun t ht => by rw [x1 t ht, m4 t ht]; exact k5 t ht, fun t ht => ?_, fun t ht => ?_, fun a ha b hb => ?_⟩
      · show NiR (M'.2.1 4 t) 4095
        rw [m4 t ht]; exact k6.1 t ht
      · show zbit (M'.2.1 4 t) t = false
        rw [m4 t ht]; exact k6.2.1 t ht
      · show zbit (M'.2.1 4 a) b = zbit (M'.2.1 4 b) a
        rw [m4 a ha, m4 b hb]; exact k6.2.2 a ha b hb
    · obtain ⟨-, -, ⟨d3, d3'⟩, -⟩ := hD
      refine ⟨⟨by rw [xd, md]; exact k7, by rw [md]; exact k7'⟩, ⟨by rw [xm, mm]; exact I1, ⟨k, by omega, by rw [mm]; exact k3⟩⟩, ⟨by rw [sx 0 11 (Or.inr (by decide)) (by decide) (by decide), hm3]; exact d3, by rw [hm3]; exact d3'⟩, ⟨by rw [xr, mr]; exact k8, c, r, c1, c2, by rw [hm3]; exact c3, by rw [mr]; exact c4⟩⟩
    · refine ⟨fun i hi j hj => by rw [x22 i hi _ (by omega), m6 _ (by omega)]; exact k9 i hi j hj, fun i hi => (k10 i hi).congr (fun j hj => m6 _ (by omega)), fun i hi hi5 => ?_⟩
      rw [mm, k3] at hi
      have hik : i < k := (nI_ltI (by omega) (by omega)).mp hi
      have hmk : M'.2.1 5 i = M.2.1 5 i := sm 5 i (by decide) (by decide) (Or.inl (by decide))
      rw [x22 i hi5 0 (by decide), hmk]
      exact ⟨k11 i hik, (hA.2.2 i (by rw [k4]; exact nI_lt (by omega) (by omega)) hi5).2⟩
    · obtain ⟨p1, p, p2, p3, p4⟩ := hP
      have s6 : M'.2.1 0 6 = M.2.1 0 6 := sm 0 6 (by decide) (by decide) (Or.inr (by decide))
      refine ⟨by rw [sx 0 13 (Or.inr (by decide)) (by decide) (by decide), s6]; exact p1, p, p2, by rw [s6]; exact p3, fun j hj => ?_⟩
      rw [sx 3 j (Or.inl (by decide)) (by decide) (by decide), sm 3 j (by decide) (by decide) (Or.inl (by decide))]
      exact p4 j hj
    · intro j hj
      rw [sx 2 j (Or.inl (by decide)) (by decide) (by decide), sm 7 j (by decide) (by decide) (Or.inl (by decide))]
      exact hF j hj
    · intro s hs
      obtain ⟨w1, w2⟩ := hS s hs
      have a1 : ∀ k, X'.2.1 (51 + 2 * s) k = X.2.1 (51 + 2 * s) k := fun k => sx _ k (Or.inl (by omega)) (by omega) (by omega)
      have a2 : ∀ k, X'.2.1 (52 + 2 * s) k = X.2.1 (52 + 2 * s) k := fun k => sx _ k (Or.inl (by omega)) (by omega) (by omega)
      rw [a1, a1, sm 13 _ (by decide) (by decide) (Or.inl (by decide)), sm 12 _ (by decide) (by decide) (Or.inl (by decide)), sm 14 _ (by decide) (by decide) (Or.inl (by decide))]
      refine ⟨w1, ?_⟩
      rcases w2 with w2 | ⟨w2, w3, m, m1, m2, m3, m5⟩
      · exact Or.inl w2
      · exact Or.inr ⟨w2, w3, m, m1, m2, m3, fun j hj => by rw [a2, sm 15 _ (by decide) (by decide) (Or.inl (by decide))]; exact m5 j hj⟩
    · have y14 : ∀ j, X'.2.1 14 j = X.2.1 14 j := fun j => sx 14 j (Or.inl (by decide)) (by decide) (by decide)
      have y15 : ∀ j, X'.2.1 15 j = X.2.1 15 j := fun j => sx 15 j (Or.inl (by decide)) (by decide) (by decide)
      have y17 : ∀ i j, i < 5 → X'.2.1 (17 + i) j = X.2.1 (17 + i) j := fun i j hi => sx _ j (Or.inl (by omega)) (by omega) (by omega)
      have n39 : M'.2.1 0 39 = M.2.1 0 39 := sm 0 39 (by decide) (by decide) (Or.inr (by decide))
      have n40 : M'.2.1 0 40 = M.2.1 0 40 := sm 0 40 (by decide) (by decide) (Or.inr (by decide))
      have n41 : M'.2.1 0 41 = M.2.1 0 41 := sm 0 41 (by decide) (by decide) (Or.inr (by decide))
      have n10 : (fun t => M'.2.1 10 t) = (fun t => M.2.1 10 t) := funext fun t => sm 10 t (by decide) (by decide) (Or.inl (by decide))
      have n11 : ∀ j, M'.2.1 11 j = M.2.1 11 j := fun j => sm 11 j (by decide) (by decide) (Or.inl (by decide))
      have n5 : ∀ j, M'.2.1 5 j = M.2.1 5 j := fun j => sm 5 j (by decide) (by decide) (Or.inl (by decide))
      refine ⟨by rw [y14, n39]; exact I1, Or.inr ⟨k, k, Nat.le_refl k, by omega, n39.trans k3, mm.trans k3, fun t ht => by rw [y15, congrFun n10 t]; exact k5 t ht, by rw [n10]; exact k6, ⟨by rw [y14, n40]; exact k7, by rw [n40]; exact k7'⟩, ⟨by rw [y14, n41]; exact k8, c, r, c1, c2, by rw [hm3]; exact c3, by rw [n41]; exact c4⟩, fun i hi j hj => by rw [y17 i _ hi, n11]; exact k9 i hi j hj, fun i hi => (k10 i hi).congr (fun j _ => n11 _), fun i hi => by rw [y17 i _ (by omega), n5]; exact k11 i hi⟩⟩
    · exact hT.mono hm3 (fun t ht => ⟨fun j => Or.inl (sx _ j (Or.inl (by omega)) (by omega) (by omega)), fun j => sx _ j (Or.inl (by omega)) (by omega) (by omega), fun j => sx _ j (Or.inl (by omega)) (by omega) (by omega)⟩) (fun t ht => ⟨fun j hj => sm 1 _ (by decide) (by decide) (Or.inl (by decide)), sm 2 _ (by decide) (by decide) (Or.inl (by decide))⟩)
