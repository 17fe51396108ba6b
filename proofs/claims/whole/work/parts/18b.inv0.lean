theorem eX0 : fX7_init 0 (znew z0) = some ((), X0) := by
  have h := iniX.1
  unfold X0
  cases hq : fX7_init 0 (znew z0) with
  | none => rw [hq] at h; cases h
  | some q => rfl
theorem eM0 : fX8_init 0 (znew z0) = some ((), M0) := by
  have h := iniM.1
  unfold M0
  cases hq : fX8_init 0 (znew z0) with
  | none => rw [hq] at h; cases h
  | some q => rfl
theorem b0_8 : By8 B0 40 := by
  have : ∀ j, j < 40 → (B0 j).toNatClampNeg ≤ 255 ∧ B0 j = nI (B0 j).toNatClampNeg := by decide +kernel
  exact fun j hj => ⟨_, (this j hj).1, (this j hj).2⟩
theorem rd0_e : ∃ v1 v2 v3, rd3 (tC B0 40) (rdP (tC B0 40) (vlT B0 40) 5).1 = .inr (([-5], [-1], [-2]), (v1, v2, v3)) := by
  have h := rd0_t
  unfold rd0 at h
  cases hr : rd3 (tC B0 40) (rdP (tC B0 40) (vlT B0 40) 5).1 with
  | inl e => rw [hr] at h; cases h
  | inr r =>
    obtain ⟨⟨c1, c2, c3⟩, v1, v2, v3⟩ := r
    rw [hr] at h
    simp only [Bool.and_eq_true, decide_eq_true_eq] at h
    obtain ⟨⟨h1, h2⟩, h3⟩ := h
    subst h1; subst h2; subst h3
    exact ⟨v1, v2, v3, rfl⟩
theorem lk0 {f : Nat → Int32} (h : ∀ t, t < 12 → f t = 0) : LkOK f := by
  have z : ∀ b, zbit 0 b = false := fun b => by unfold zbit; simp
  exact ⟨fun t ht => ⟨0, by decide, (h t ht).trans nI_0.symm⟩, fun t ht => by rw [h t ht]; exact z t, fun a ha b hb => by rw [h a ha, h b hb, z, z]⟩
theorem nir0 {x : Int32} {n : Nat} (h : x = 0) : NiR x n := ⟨0, Nat.zero_le _, h.trans nI_0.symm⟩
theorem inv_of {X M : zS} (iX : IniX X) (iM : IniM M) (iF : IniF X M) : Inv X M := by
  obtain ⟨⟨hX1, hX2⟩, x1, ⟨x9, x10, x11, x12, x13⟩, xA, xS, x144, ⟨c3, d0, d1, d2, c4, e0, e1, e2⟩⟩ := iX
  obtain ⟨⟨hM1, hM2⟩, m4, ⟨m07, m011, m03, m04, m06, m039⟩, m6, m12, ⟨m20, m1⟩⟩ := iM
  have hX : shX X := ⟨hX1, hX2⟩
  have hM : shM M := ⟨hM1, hM2⟩
  refine ⟨⟨hX, hM⟩, ⟨fun t ht => (x1 t ht).trans (m4 t ht).symm, lk0 m4⟩, ⟨⟨x9.trans m07.symm, nir0 m07⟩, ⟨x10.trans m011.symm, nir0 m011⟩, ⟨x11.trans m03.symm, 1, Nat.le_refl _, by decide, m03.trans (by decide)⟩, ⟨x12.trans m04.symm, 1, 0, by decide, by decide, m03.trans (by decide), m04.trans nI_0.symm⟩⟩, ⟨fun i hi k hk => (xA i hi k hk).trans (m6 (4 * i + k) (by omega)).symm, fun i hi => ⟨nir0 (m6 _ (by omega)), nir0 (m6 _ (by omega)), nir0 (m6 _ (by omega)), nir0 (m6 _ (by omega))⟩, fun i hi hi5 => ?_⟩, ⟨x13.trans m06.symm, 0, Nat.zero_le _, m06.trans nI_0.symm, fun j hj => absurd hj (Nat.not_lt_zero _)⟩, fun j hj => ?_, fun s hs => ⟨Or.inr (xS s hs).1, Or.inl ⟨(xS s hs).1, m12 s hs, (xS s hs).2⟩⟩, ⟨x144.trans m039.symm, Or.inl m039⟩, fun t ht hlt => ?_⟩
  · rw [m011] at hi
    exact absurd hi (nI_pos (by omega))
  · obtain ⟨f1, f2, f3, f4⟩ := iF j hj
    exact ⟨f1, _, f2, f3, f4⟩
  · have t0 : t = 0 := by
      rw [m03] at hlt
      have := (nI_ltI (a := t) (b := 1) (by omega) (by decide)).mp hlt
      omega
    subst t0
    have hV := vlT_nn b0_8
    obtain ⟨v1, v2, v3, hr⟩ := rd0_e
    have okr := ok_rd3 (ok_rd (B := B0) (n := 40) (V := vlT B0 40) hV 5).1 hr
    refine ⟨fun w => w3 w v1 v2 v3, ?_, ?_⟩
    · refine x_val (by decide) (by decide) okr.1.1 okr.1.2.1 okr.1.2.2 (by omega) ⟨c3.trans (by decide), fun j hj => ?_⟩ ⟨c4.trans (by decide), fun j hj => ?_⟩
      · have hj : j < 3 := hj
        rcases (show j = 0 ∨ j = 1 ∨ j = 2 by omega) with rfl | rfl | rfl
        · exact d0
        · exact d1
        · exact d2
      · have hj : j < 3 := hj
        rcases (show j = 0 ∨ j = 1 ∨ j = 2 by omega) with rfl | rfl | rfl
        · exact e0.trans (by decide)
        · exact e1.trans (by decide)
        · exact e2.trans (by decide)
    · intro Y hY y1 y2 w hw
      have rY := m_read (B := B0) (n := 40) (t := 0) (M := Y) hY (by decide) (by decide) b0_8 (fun j hj => (y1 j (by omega)).trans (by rw [Nat.mul_zero, Nat.zero_add]; exact m1 j hj)) (y2.trans (m20.trans (by decide))) hV hw
      rw [hr] at rY
      obtain ⟨M4, g1, g2, -⟩ := rY
      exact ⟨M4, g1, g2⟩
theorem inv0 : Inv X0 M0 := inv_of iniX.2 iniM.2 iniF
