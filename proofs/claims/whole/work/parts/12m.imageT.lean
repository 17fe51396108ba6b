theorem t_image : TM2 Inv (fun st => fX7_image 0 st) (fun st => fX8_image 0 st) := by
  intro X M h
  obtain ⟨⟨hX, hM⟩, hL, hD, hA, hP, hF, hS, hI, hT⟩ := h
  obtain ⟨X', ex, hX', x15, x17, xm, xd, xr, sx⟩ := x_image hX
  obtain ⟨M', em, hM', m10, m11, mm, md, mr, sm⟩ := m_image hM
  have sx0 : ∀ k, X'.2.1 0 k = X.2.1 0 k := fun k => sx 0 k (by decide) (by decide) (by decide)
  have sm0 : ∀ k, k < 39 → M'.2.1 0 k = M.2.1 0 k := fun k hk => sm 0 k (by decide) (by decide) (Or.inr (Or.inl hk))
  have smo : ∀ o k, o ≠ 10 → o ≠ 11 → o ≠ 0 → M'.2.1 o k = M.2.1 o k := fun o k h1 h2 h3 => sm o k h1 h2 (Or.inl h3)
  obtain ⟨n, hn5, hnX, hnM⟩ := many_of hD
  have hlk : (fun t => M'.2.1 4 t) = (fun t => M.2.1 4 t) := funext fun t => smo 4 t (by decide) (by decide) (by decide)
  have hmo : M.2.1 0 11 = X.2.1 0 10 := hD.2.1.1.symm
  refine ⟨X.2.1 0 10, X', M', ex, by rw [← hmo]; exact em, ⟨hX', hM'⟩, ?_, ?_, ?_, ?_, ?_, ?_, ?_, ?_⟩
  · refine ⟨fun t ht => ?_, by rw [hlk]; exact hL.2⟩
    rw [sx 1 t (by decide) (by decide) (by decide), smo 4 t (by decide) (by decide) (by decide)]
    exact hL.1 t ht
  · unfold InvD
    rw [sx0, sx0, sx0, sx0, sm0 7 (by decide), sm0 11 (by decide), sm0 3 (by decide), sm0 4 (by decide)]
    exact hD
  · refine ⟨fun i hi k hk => ?_, fun i hi => ?_, fun i hi hi5 => ?_⟩
    · rw [sx _ _ (by omega) (by omega) (by omega), smo 6 _ (by decide) (by decide) (by decide)]
      exact hA.1 i hi k hk
    · exact (hA.2.1 i hi).congr (fun k _ => smo 6 _ (by decide) (by decide) (by decide))
    · rw [sm0 11 (by decide)] at hi
      rw [sx _ _ (by omega) (by omega) (by omega), smo 5 _ (by decide) (by decide) (by decide)]
      exact hA.2.2 i hi hi5
  · obtain ⟨p1, p, p2, p3, p4⟩ := hP
    refine ⟨by rw [sx0, sm0 6 (by decide)]; exact p1, p, p2, by rw [sm0 6 (by decide)]; exact p3, fun j hj => ?_⟩
    rw [sx 3 j (by decide) (by decide) (by decide), smo 3 j (by decide) (by decide) (by decide)]
    exact p4 j hj
  · intro j hj
    rw [sx 2 j (by decide) (by decide) (by decide), smo 7 j (by decide) (by decide) (by decide)]
    exact hF j hj
  · intro s hs
    obtain ⟨w1, w2⟩ := hS s hs
    have a1 : ∀ k, X'.2.1 (51 + 2 * s) k = X.2.1 (51 + 2 * s) k := fun k => sx _ k (by omega) (by omega) (by omega)
    have a2 : ∀ k, X'.2.1 (52 + 2 * s) k = X.2.1 (52 + 2 * s) k := fun k => sx _ k (by omega) (by omega) (by omega)
    rw [a1, a1, smo 13 _ (by decide) (by decide) (by decide), smo 12 _ (by decide) (by decide) (by decide), smo 14 _ (by decide) (by decide) (by decide)]
    refine ⟨w1, ?_⟩
    rcases w2 with w2 | ⟨w2, w3, m, m1, m2, m3, m4⟩
    · exact Or.inl w2
    · exact Or.inr ⟨w2, w3, m, m1, m2, m3, fun j hj => by rw [a2, smo 15 _ (by decide) (by decide) (by decide)]; exact m4 j hj⟩
  · refine ⟨by rw [xm, mm]; exact hD.2.1.1, Or.inr ⟨n, n, Nat.le_refl n, hn5, mm.trans hnM, (sm0 11 (by decide)).trans hnM, fun t ht => ?_, ?_, ⟨by rw [xd, md]; exact hD.1.1, by rw [md]; exact hD.1.2⟩, ⟨by rw [xr, mr]; exact hD.2.2.2.1, ?_⟩, fun i hi j hj => ?_, fun i hi => ?_, fun i hi => ?_⟩⟩
    · rw [x15 t ht, m10 t ht]
      exact hL.1 t ht
    · obtain ⟨l1, l2, l3⟩ := hL.2
      refine ⟨fun t ht => ?_, fun t ht => ?_, fun a ha c hc => ?_⟩
      · show NiR (M'.2.1 10 t) 4095
        rw [m10 t ht]; exact l1 t ht
      · show zbit (M'.2.1 10 t) t = false
        rw [m10 t ht]; exact l2 t ht
      · show zbit (M'.2.1 10 a) c = zbit (M'.2.1 10 c) a
        rw [m10 a ha, m10 c hc]; exact l3 a ha c hc
    · obtain ⟨-, -, -, -, c, r, h1, h2, h3, h4⟩ := hD
      exact ⟨c, r, h1, h2, by rw [sm0 3 (by decide)]; exact h3, by rw [mr]; exact h4⟩
    · rw [x17 i hi _ (by omega), m11 _ (by omega)]
      exact hA.1 i hi j hj
    · exact (hA.2.1 i hi).congr (fun k hk => m11 _ (by omega))
    · rw [x17 i (by omega) 0 (by decide), smo 5 _ (by decide) (by decide) (by decide)]
      exact (hA.2.2 i (by rw [hnM]; exact nI_lt hi (by omega)) (by omega)).1
  · exact hT.mono (sm0 3 (by decide)) (fun t ht => ⟨fun k => Or.inl (sx _ k (by omega) (by omega) (by omega)), fun k => sx _ k (by omega) (by omega) (by omega), fun k => sx _ k (by omega) (by omega) (by omega)⟩) (fun t ht => ⟨fun j hj => smo 1 _ (by decide) (by decide) (by decide), smo 2 _ (by decide) (by decide) (by decide)⟩)
