theorem half_ok : (List.range 199).all (fun a => bnd ((nI a - 99) / 2) == (nI a - 99) / 2 && (decide (-99 ≤ ((nI a - 99) / (2 : Int32)).toInt) && decide (((nI a - 99) / (2 : Int32)).toInt ≤ 99))) = true := by decide +kernel
theorem half_bnd {v : Int32} (h1 : -99 ≤ v.toInt) (h2 : v.toInt ≤ 99) : bnd (v / 2) = v / 2 ∧ -99 ≤ (v / 2).toInt ∧ (v / 2).toInt ≤ 99 := by
  obtain ⟨a, ha, rfl⟩ := small_of h1 h2
  have h := List.all_eq_true.mp half_ok a (List.mem_range.mpr ha)
  simp only [Bool.and_eq_true, beq_iff_eq, decide_eq_true_eq] at h
  exact ⟨h.1, h.2.1, h.2.2⟩
/-- how GLAD one is of THING g -/
def gdS (k nu h nh d : Nat) (F : Nat → (Nat → Int32) → Int32) (g : Nat) : Int32 :=
  if k = 1 then bnd (tlS F 1 (nI g) 0 0 nu h d) / 2
  else if k = 2 then (if nh.testBit g = true then 0 else bnd (tlS F 1 (nI g) 0 0 nu h d))
  else if k = 3 then bnd (bnd (tlS F 1 (nI g) 0 0 nu h d) / 2 + nI nu)
  else if k = 4 then (if nh.testBit g = true then 0 else bnd (2 * bnd (tlS F 1 (nI g) 0 0 nu h d)))
  else if k = 5 then 9
  else bnd (tlS F 1 (nI g) 0 0 nu h d)
theorem gdS_int (k nu h nh d : Nat) (F : Nat → (Nat → Int32) → Int32) (g : Nat) : -99 ≤ (gdS k nu h nh d F g).toInt ∧ (gdS k nu h nh d F g).toInt ≤ 99 := by
  obtain ⟨-, -, z⟩ := i99
  have h9 : (9 : Int32).toInt = 9 := by decide
  unfold gdS
  split
  · exact (half_bnd (bnd_int _).1 (bnd_int _).2).2
  · split
    · split
      · omega
      · exact bnd_int _
    · split
      · exact bnd_int _
      · split
        · split
          · omega
          · exact bnd_int _
        · split
          · omega
          · exact bnd_int _
theorem x_glad7 {X : zS} (hX : shX X) {L : Nat → Nat} {k nu s h nh d t : Nat} {F : Nat → (Nat → Int32) → Int32} (hV : Vok L k nu s h nh d) (hP : PcX X L k nu s h nh d t F) {g : Nat} (hg : g < 12) : ∃ X', fX6_gladOf 7 (nI g) X = some (gdS k nu h nh d F g, X') ∧ frX X X' := by
  have hP0 := hP
  obtain ⟨hL, vk, vu, vs, vh, vn, vd, ht, vr, hT⟩ := hP
  obtain ⟨X', e1, f1⟩ := x_tell7 hX vu vh hV.2.2.2.2.1 vd ht vr hT (w := 1) (by decide) (nI g) 0 0
  obtain ⟨b1, b2⟩ := bnd_int (tlS F 1 (nI g) 0 0 nu h d)
  have hX' := f1.sh hX
  have hXn := hX'.1
  have hnh : nh ≤ 4095 := hV.2.2.2.2.2.1
  obtain ⟨-, vk', vu', -, -, vn', vd', -⟩ := hP0.fr f1
  have e1' : fX6_tellBy 7 1 (nI g) 0 0 X = _ := e1
  have hk := hV.2.1
  have k1 : ∀ j : Nat, j < 6 → k ≠ j → ¬ nI k = nI j := fun j hj e => kne (by omega) (by omega) e
  have h20 : ¬ (2 : Int32) = 0 := by decide
  refine ⟨X', ?_, f1⟩
  unfold gdS
  by_cases c1 : k = 1
  · subst c1
    simp only [fX6_gladOf, zokX_0, zokX_1, zokX_2, zokX_3, zokX_4, zokX_5, zokX_6, zokX_7, zokX_8, zokX_9, zokX_10, zokX_11, zokX_12, zokX_13, zokX_14, zokX_15, zokX_16, zlaX_1, zlaX_2, zlaX_3, zlaX_4, zlaX_5, zlaX_6, zlaX_8, zlaX_11, zlaX_12, zlaX_13, zlaX_15, zlaX_16, zp_1, zp_h, zp_r, zp_l, zletE, obs, spXe_0, spXe_1, spXe_2, spXe_3, spXe_4, spXe_5, spXe_6, spXe_7, spXe_8, spXe_9, spXe_10, spXe_11, spXe_12, spXe_13, spXe_14, spXe_15, spXe_16, hX.1, hXn, e1', vk', if_pos (show nI 1 = (1 : Int32) from rfl), if_neg h20, if_true]
  · have q1 : ¬ nI k = (1 : Int32) := k1 1 (by decide) c1
    rw [if_neg c1]
    by_cases c2 : k = 2
    · subst c2
      rw [if_pos rfl]
      cases hb : nh.testBit g with
      | true =>
        have c : ¬ ((nI nh >>> (nI g &&& 31)) &&& (1 : Int32) = 0) := fun q => by rw [n_bit0 hnh (show g < 31 by omega), hb] at q; cases q
        simp only [fX6_gladOf, fX6_gladAsTwin, zokX_0, zokX_1, zokX_2, zokX_3, zokX_4, zokX_5, zokX_6, zokX_7, zokX_8, zokX_9, zokX_10, zokX_11, zokX_12, zokX_13, zokX_14, zokX_15, zokX_16, zlaX_1, zlaX_2, zlaX_3, zlaX_4, zlaX_5, zlaX_6, zlaX_8, zlaX_11, zlaX_12, zlaX_13, zlaX_15, zlaX_16, zp_1, zp_h, zp_r, zp_l, zletE, obs, spXe_0, spXe_1, spXe_2, spXe_3, spXe_4, spXe_5, spXe_6, spXe_7, spXe_8, spXe_9, spXe_10, spXe_11, spXe_12, spXe_13, spXe_14, spXe_15, spXe_16, hX.1, hXn, e1', vk', if_neg q1, if_pos (show nI 2 = (2 : Int32) from rfl), vn', if_neg c, if_true]
      | false =>
        have c := (n_bit0 hnh (show g < 31 by omega)).mpr hb
        simp only [fX6_gladOf, fX6_gladAsTwin, zokX_0, zokX_1, zokX_2, zokX_3, zokX_4, zokX_5, zokX_6, zokX_7, zokX_8, zokX_9, zokX_10, zokX_11, zokX_12, zokX_13, zokX_14, zokX_15, zokX_16, zlaX_1, zlaX_2, zlaX_3, zlaX_4, zlaX_5, zlaX_6, zlaX_8, zlaX_11, zlaX_12, zlaX_13, zlaX_15, zlaX_16, zp_1, zp_h, zp_r, zp_l, zletE, obs, spXe_0, spXe_1, spXe_2, spXe_3, spXe_4, spXe_5, spXe_6, spXe_7, spXe_8, spXe_9, spXe_10, spXe_11, spXe_12, spXe_13, spXe_14, spXe_15, spXe_16, hX.1, hXn, e1', vk', if_neg q1, if_pos (show nI 2 = (2 : Int32) from rfl), vn', if_pos c, if_neg (show ¬ (false = true) by decide)]
    · have q2 : ¬ nI k = (2 : Int32) := k1 2 (by decide) c2
      rw [if_neg c2]
      by_cases c3 : k = 3
      · subst c3
        simp only [fX6_gladOf, fX6_bounded, zokX_0, zokX_1, zokX_2, zokX_3, zokX_4, zokX_5, zokX_6, zokX_7, zokX_8, zokX_9, zokX_10, zokX_11, zokX_12, zokX_13, zokX_14, zokX_15, zokX_16, zlaX_1, zlaX_2, zlaX_3, zlaX_4, zlaX_5, zlaX_6, zlaX_8, zlaX_11, zlaX_12, zlaX_13, zlaX_15, zlaX_16, zp_1, zp_h, zp_r, zp_l, zletE, obs, spXe_0, spXe_1, spXe_2, spXe_3, spXe_4, spXe_5, spXe_6, spXe_7, spXe_8, spXe_9, spXe_10, spXe_11, spXe_12, spXe_13, spXe_14, spXe_15, spXe_16, hX.1, hXn, e1', vk', vu', if_neg q1, if_neg q2, if_pos (show nI 3 = (3 : Int32) from rfl), if_neg h20, if_true]
        rfl
      · have q3 : ¬ nI k = (3 : Int32) := k1 3 (by decide) c3
        rw [if_neg c3]
        by_cases c4 : k = 4
        · subst c4
          rw [if_pos rfl]
          cases hb : nh.testBit g with
          | true =>
            have c : ¬ ((nI nh >>> (nI g &&& 31)) &&& (1 : Int32) = 0) := fun q => by rw [n_bit0 hnh (show g < 31 by omega), hb] at q; cases q
            simp only [fX6_gladOf, fX6_gladAsTwin, fX6_bounded, zokX_0, zokX_1, zokX_2, zokX_3, zokX_4, zokX_5, zokX_6, zokX_7, zokX_8, zokX_9, zokX_10, zokX_11, zokX_12, zokX_13, zokX_14, zokX_15, zokX_16, zlaX_1, zlaX_2, zlaX_3, zlaX_4, zlaX_5, zlaX_6, zlaX_8, zlaX_11, zlaX_12, zlaX_13, zlaX_15, zlaX_16, zp_1, zp_h, zp_r, zp_l, zletE, obs, spXe_0, spXe_1, spXe_2, spXe_3, spXe_4, spXe_5, spXe_6, spXe_7, spXe_8, spXe_9, spXe_10, spXe_11, spXe_12, spXe_13, spXe_14, spXe_15, spXe_16, hX.1, hXn, e1', vk', if_neg q1, if_neg q2, if_neg q3, if_pos (show nI 4 = (4 : Int32) from rfl), vn', if_neg c, if_true]
            rfl
          | false =>
            have c := (n_bit0 hnh (show g < 31 by omega)).mpr hb
            simp only [fX6_gladOf, fX6_gladAsTwin, fX6_bounded, zokX_0, zokX_1, zokX_2, zokX_3, zokX_4, zokX_5, zokX_6, zokX_7, zokX_8, zokX_9, zokX_10, zokX_11, zokX_12, zokX_13, zokX_14, zokX_15, zokX_16, zlaX_1, zlaX_2, zlaX_3, zlaX_4, zlaX_5, zlaX_6, zlaX_8, zlaX_11, zlaX_12, zlaX_13, zlaX_15, zlaX_16, zp_1, zp_h, zp_r, zp_l, zletE, obs, spXe_0, spXe_1, spXe_2, spXe_3, spXe_4, spXe_5, spXe_6, spXe_7, spXe_8, spXe_9, spXe_10, spXe_11, spXe_12, spXe_13, spXe_14, spXe_15, spXe_16, hX.1, hXn, e1', vk', if_neg q1, if_neg q2, if_neg q3, if_pos (show nI 4 = (4 : Int32) from rfl), vn', if_pos c, if_neg (show ¬ (false = true) by decide)]
            rfl
        · have q4 : ¬ nI k = (4 : Int32) := k1 4 (by decide) c4
          rw [if_neg c4]
          by_cases c5 : k = 5
          · subst c5
            simp only [fX6_gladOf, zokX_0, zokX_1, zokX_2, zokX_3, zokX_4, zokX_5, zokX_6, zokX_7, zokX_8, zokX_9, zokX_10, zokX_11, zokX_12, zokX_13, zokX_14, zokX_15, zokX_16, zlaX_1, zlaX_2, zlaX_3, zlaX_4, zlaX_5, zlaX_6, zlaX_8, zlaX_11, zlaX_12, zlaX_13, zlaX_15, zlaX_16, zp_1, zp_h, zp_r, zp_l, zletE, obs, spXe_0, spXe_1, spXe_2, spXe_3, spXe_4, spXe_5, spXe_6, spXe_7, spXe_8, spXe_9, spXe_10, spXe_11, spXe_12, spXe_13, spXe_14, spXe_15, spXe_16, hX.1, hXn, e1', vk', if_neg q1, if_neg q2, if_neg q3, if_neg q4, if_pos (show nI 5 = (5 : Int32) from rfl), if_true]
          · have q5 : ¬ nI k = (5 : Int32) := k1 5 (by decide) c5
            simp only [fX6_gladOf, zokX_0, zokX_1, zokX_2, zokX_3, zokX_4, zokX_5, zokX_6, zokX_7, zokX_8, zokX_9, zokX_10, zokX_11, zokX_12, zokX_13, zokX_14, zokX_15, zokX_16, zlaX_1, zlaX_2, zlaX_3, zlaX_4, zlaX_5, zlaX_6, zlaX_8, zlaX_11, zlaX_12, zlaX_13, zlaX_15, zlaX_16, zp_1, zp_h, zp_r, zp_l, zletE, obs, spXe_0, spXe_1, spXe_2, spXe_3, spXe_4, spXe_5, spXe_6, spXe_7, spXe_8, spXe_9, spXe_10, spXe_11, spXe_12, spXe_13, spXe_14, spXe_15, spXe_16, hX.1, hXn, e1', vk', if_neg q1, if_neg q2, if_neg q3, if_neg q4, if_neg q5, if_neg c5]
theorem m_glad40 {M : zS} (hM : shM M) {p n : Nat} {L : Nat → Nat} {k nu s h nh d t : Nat} {F : Nat → (Nat → Int32) → Int32} (hV : Vok L k nu s h nh d) (hP : PcM M p n L k nu s h nh d) (hR : RlM M t F) {g : Nat} (h5 : k ≠ 5) (hb : k = 2 ∨ k = 4 → nh.testBit g = false) : ∃ M', fX8_gladOf_j40 0 (nI p) (nI g) (nI k) M = some (gdS k nu h nh d F g, M') ∧ frM M M' := by
  obtain ⟨M', e1, f1⟩ := m_says hM hP hV.2.2.2.2.1 hR.1 hR.2 (w := 1) (by decide) (nI g) 0 0
  rw [if_neg (by decide)] at e1
  have e1' : fX8_says 0 1 (nI p) (nI g) 0 0 M = _ := e1
  obtain ⟨b1, b2⟩ := bnd_int (tlS F 1 (nI g) 0 0 nu h d)
  have hM' := f1.sh hM
  have hMn := hM'.1
  obtain ⟨-, hp5, hn, -, -, pu, -⟩ := hP.fr f1
  have r10 : M'.2.2.2 0 10 = some 6 := hM'.r (by decide) (by decide)
  have i0 : (4 : Int32) * nI p = nI (4 * p) := idx40 p
  have z0' : zix spM 6 (nI (4 * p)) = some (4 * p) := zix_of rfl (by show 4 * p < 20; omega) (by decide)
  have hk := hV.2.1
  have k1 : ∀ j : Nat, j < 6 → k ≠ j → ¬ nI k = nI j := fun j hj e => kne (by omega) (by omega) e
  have h20 : ¬ (2 : Int32) = 0 := by decide
  refine ⟨M', ?_, f1⟩
  unfold gdS
  by_cases c1 : k = 1
  · subst c1
    simp only [fX8_gladOf_j40, fX8_gladOf_j98, zokM_0, zokM_1, zokM_2, zokM_3, zokM_4, zokM_5, zokM_6, zokM_7, zokM_8, zokM_9, zokM_10, zokM_11, zokM_12, zokM_13, zokM_14, zokM_15, zlaM_1, zlaM_2, zlaM_3, zlaM_4, zlaM_5, zlaM_6, zlaM_7, zlaM_8, zlaM_9, zlaM_10, zlaM_11, zlaM_12, zlaM_13, zlaM_14, zlaM_15, zp_1, zp_h, zp_r, zp_l, zletE, obs, spMe_0, spMe_1, spMe_2, spMe_3, spMe_4, spMe_5, spMe_6, spMe_7, spMe_8, spMe_9, spMe_10, spMe_11, spMe_12, spMe_13, spMe_14, spMe_15, hM.1, e1', if_pos (show nI 1 = (1 : Int32) from rfl), if_neg h20, if_true, bnd_within, (half_bnd b1 b2).1]
  · have q1 : ¬ nI k = (1 : Int32) := k1 1 (by decide) c1
    rw [if_neg c1]
    by_cases c2 : k = 2
    · subst c2
      rw [if_pos rfl, hb (Or.inl rfl), if_neg (by decide)]
      simp only [fX8_gladOf_j40, fX8_gladOf_j98, zokM_0, zokM_1, zokM_2, zokM_3, zokM_4, zokM_5, zokM_6, zokM_7, zokM_8, zokM_9, zokM_10, zokM_11, zokM_12, zokM_13, zokM_14, zokM_15, zlaM_1, zlaM_2, zlaM_3, zlaM_4, zlaM_5, zlaM_6, zlaM_7, zlaM_8, zlaM_9, zlaM_10, zlaM_11, zlaM_12, zlaM_13, zlaM_14, zlaM_15, zp_1, zp_h, zp_r, zp_l, zletE, obs, spMe_0, spMe_1, spMe_2, spMe_3, spMe_4, spMe_5, spMe_6, spMe_7, spMe_8, spMe_9, spMe_10, spMe_11, spMe_12, spMe_13, spMe_14, spMe_15, hM.1, e1', if_neg q1, if_neg (show ¬ nI 2 = (3 : Int32) by decide), if_neg (show ¬ nI 2 = (4 : Int32) by decide), bnd_within, bnd_bnd]
    · rw [if_neg c2]
      by_cases c3 : k = 3
      · subst c3
        simp only [fX8_gladOf_j40, fX8_gladOf_j98, zokM_0, zokM_1, zokM_2, zokM_3, zokM_4, zokM_5, zokM_6, zokM_7, zokM_8, zokM_9, zokM_10, zokM_11, zokM_12, zokM_13, zokM_14, zokM_15, zlaM_1, zlaM_2, zlaM_3, zlaM_4, zlaM_5, zlaM_6, zlaM_7, zlaM_8, zlaM_9, zlaM_10, zlaM_11, zlaM_12, zlaM_13, zlaM_14, zlaM_15, zp_1, zp_h, zp_r, zp_l, zletE, obs, spMe_0, spMe_1, spMe_2, spMe_3, spMe_4, spMe_5, spMe_6, spMe_7, spMe_8, spMe_9, spMe_10, spMe_11, spMe_12, spMe_13, spMe_14, spMe_15, hM.1, hMn, e1', if_neg q1, if_pos (show nI 3 = (3 : Int32) from rfl), if_neg h20, r10, i0, z0', pu, bnd_within, if_true]
      · have q3 : ¬ nI k = (3 : Int32) := k1 3 (by decide) c3
        rw [if_neg c3]
        by_cases c4 : k = 4
        · subst c4
          rw [if_pos rfl, hb (Or.inr rfl), if_neg (by decide)]
          simp only [fX8_gladOf_j40, fX8_gladOf_j98, zokM_0, zokM_1, zokM_2, zokM_3, zokM_4, zokM_5, zokM_6, zokM_7, zokM_8, zokM_9, zokM_10, zokM_11, zokM_12, zokM_13, zokM_14, zokM_15, zlaM_1, zlaM_2, zlaM_3, zlaM_4, zlaM_5, zlaM_6, zlaM_7, zlaM_8, zlaM_9, zlaM_10, zlaM_11, zlaM_12, zlaM_13, zlaM_14, zlaM_15, zp_1, zp_h, zp_r, zp_l, zletE, obs, spMe_0, spMe_1, spMe_2, spMe_3, spMe_4, spMe_5, spMe_6, spMe_7, spMe_8, spMe_9, spMe_10, spMe_11, spMe_12, spMe_13, spMe_14, spMe_15, hM.1, e1', if_neg q1, if_neg q3, if_pos (show nI 4 = (4 : Int32) from rfl), bnd_within]
        · have q4 : ¬ nI k = (4 : Int32) := k1 4 (by decide) c4
          rw [if_neg c4, if_neg h5]
          simp only [fX8_gladOf_j40, fX8_gladOf_j98, zokM_0, zokM_1, zokM_2, zokM_3, zokM_4, zokM_5, zokM_6, zokM_7, zokM_8, zokM_9, zokM_10, zokM_11, zokM_12, zokM_13, zokM_14, zokM_15, zlaM_1, zlaM_2, zlaM_3, zlaM_4, zlaM_5, zlaM_6, zlaM_7, zlaM_8, zlaM_9, zlaM_10, zlaM_11, zlaM_12, zlaM_13, zlaM_14, zlaM_15, zp_1, zp_h, zp_r, zp_l, zletE, obs, spMe_0, spMe_1, spMe_2, spMe_3, spMe_4, spMe_5, spMe_6, spMe_7, spMe_8, spMe_9, spMe_10, spMe_11, spMe_12, spMe_13, spMe_14, spMe_15, hM.1, e1', if_neg q1, if_neg q3, if_neg q4, bnd_within, bnd_bnd]
theorem m_glad8 {M : zS} (hM : shM M) {p n : Nat} {L : Nat → Nat} {k nu s h nh d t : Nat} {F : Nat → (Nat → Int32) → Int32} (hV : Vok L k nu s h nh d) (hP : PcM M p n L k nu s h nh d) (hR : RlM M t F) {g : Nat} (hg : g < 12) : ∃ M', fX8_gladOf 0 (nI p) (nI g) M = some (gdS k nu h nh d F g, M') ∧ frM M M' := by
  have hP0 := hP
  have enh := m_nh hM hP
  obtain ⟨hL, hp5, hn, pm, pk, pu, ps, ph, pd, -⟩ := hP
  have r9 : M.2.2.2 0 9 = some 5 := hM.r (by decide) (by decide)
  have z5 : zix spM 5 (nI p) = some p := zix_of rfl (by show p < 5; omega) (by decide)
  have hnh : nh ≤ 4095 := hV.2.2.2.2.2.1
  have hk := hV.2.1
  have k1 : ∀ j : Nat, j < 6 → k ≠ j → ¬ nI k = nI j := fun j hj e => kne (by omega) (by omega) e
  by_cases c5 : k = 5
  · subst c5
    refine ⟨M, ?_, frM.rf M⟩
    unfold gdS
    simp only [fX8_gladOf, zokM_0, zokM_1, zokM_2, zokM_3, zokM_4, zokM_5, zokM_6, zokM_7, zokM_8, zokM_9, zokM_10, zokM_11, zokM_12, zokM_13, zokM_14, zokM_15, zlaM_1, zlaM_2, zlaM_3, zlaM_4, zlaM_5, zlaM_6, zlaM_7, zlaM_8, zlaM_9, zlaM_10, zlaM_11, zlaM_12, zlaM_13, zlaM_14, zlaM_15, zp_1, zp_h, zp_r, zp_l, zletE, obs, spMe_0, spMe_1, spMe_2, spMe_3, spMe_4, spMe_5, spMe_6, spMe_7, spMe_8, spMe_9, spMe_10, spMe_11, spMe_12, spMe_13, spMe_14, spMe_15, hM.1, r9, z5, pk, if_pos (show nI 5 = (5 : Int32) from rfl)]
    rfl
  · have q5 : ¬ nI k = (5 : Int32) := k1 5 (by decide) c5
    by_cases c24 : k = 2 ∨ k = 4
    · have hj : fX8_gladOf 0 (nI p) (nI g) M = fX8_gladOf_j25 0 (nI p) (nI g) (nI k) M := by
        rcases c24 with rfl | rfl
        · simp only [fX8_gladOf, zokM_0, zokM_1, zokM_2, zokM_3, zokM_4, zokM_5, zokM_6, zokM_7, zokM_8, zokM_9, zokM_10, zokM_11, zokM_12, zokM_13, zokM_14, zokM_15, zlaM_1, zlaM_2, zlaM_3, zlaM_4, zlaM_5, zlaM_6, zlaM_7, zlaM_8, zlaM_9, zlaM_10, zlaM_11, zlaM_12, zlaM_13, zlaM_14, zlaM_15, zp_1, zp_h, zp_r, zp_l, zletE, obs, spMe_0, spMe_1, spMe_2, spMe_3, spMe_4, spMe_5, spMe_6, spMe_7, spMe_8, spMe_9, spMe_10, spMe_11, spMe_12, spMe_13, spMe_14, spMe_15, hM.1, r9, z5, pk, if_neg q5, if_pos (show nI 2 = (2 : Int32) from rfl)]
        · simp only [fX8_gladOf, zokM_0, zokM_1, zokM_2, zokM_3, zokM_4, zokM_5, zokM_6, zokM_7, zokM_8, zokM_9, zokM_10, zokM_11, zokM_12, zokM_13, zokM_14, zokM_15, zlaM_1, zlaM_2, zlaM_3, zlaM_4, zlaM_5, zlaM_6, zlaM_7, zlaM_8, zlaM_9, zlaM_10, zlaM_11, zlaM_12, zlaM_13, zlaM_14, zlaM_15, zp_1, zp_h, zp_r, zp_l, zletE, obs, spMe_0, spMe_1, spMe_2, spMe_3, spMe_4, spMe_5, spMe_6, spMe_7, spMe_8, spMe_9, spMe_10, spMe_11, spMe_12, spMe_13, spMe_14, spMe_15, hM.1, r9, z5, pk, if_neg q5, if_neg (show ¬ nI 4 = (2 : Int32) by decide), if_pos (show nI 4 = (4 : Int32) from rfl)]
      rw [hj]
      cases hb : nh.testBit g with
      | true =>
        refine ⟨M, ?_, frM.rf M⟩
        have c := (n_bit1 hnh (show g < 31 by omega)).mpr hb
        simp only [fX8_gladOf_j25, zokM_0, zokM_1, zokM_2, zokM_3, zokM_4, zokM_5, zokM_6, zokM_7, zokM_8, zokM_9, zokM_10, zokM_11, zokM_12, zokM_13, zokM_14, zokM_15, zlaM_1, zlaM_2, zlaM_3, zlaM_4, zlaM_5, zlaM_6, zlaM_7, zlaM_8, zlaM_9, zlaM_10, zlaM_11, zlaM_12, zlaM_13, zlaM_14, zlaM_15, zp_1, zp_h, zp_r, zp_l, zletE, obs, spMe_0, spMe_1, spMe_2, spMe_3, spMe_4, spMe_5, spMe_6, spMe_7, spMe_8, spMe_9, spMe_10, spMe_11, spMe_12, spMe_13, spMe_14, spMe_15, hM.1, enh, if_pos c]
        unfold gdS
        rcases c24 with rfl | rfl
        · rw [if_neg (by decide), if_pos rfl, hb, if_pos rfl]
        · rw [if_neg (by decide), if_neg (by decide), if_neg (by decide), if_pos rfl, hb, if_pos rfl]
      | false =>
        have c : ¬ ((nI nh >>> (nI g &&& 31)) &&& (1 : Int32) = 1) := fun q => by rw [n_bit1 hnh (show g < 31 by omega), hb] at q; cases q
        obtain ⟨M', e1, f1⟩ := m_glad40 hM hV hP0 hR (g := g) c5 (fun _ => hb)
        refine ⟨M', ?_, f1⟩
        simp only [fX8_gladOf_j25, zokM_0, zokM_1, zokM_2, zokM_3, zokM_4, zokM_5, zokM_6, zokM_7, zokM_8, zokM_9, zokM_10, zokM_11, zokM_12, zokM_13, zokM_14, zokM_15, zlaM_1, zlaM_2, zlaM_3, zlaM_4, zlaM_5, zlaM_6, zlaM_7, zlaM_8, zlaM_9, zlaM_10, zlaM_11, zlaM_12, zlaM_13, zlaM_14, zlaM_15, zp_1, zp_h, zp_r, zp_l, zletE, obs, spMe_0, spMe_1, spMe_2, spMe_3, spMe_4, spMe_5, spMe_6, spMe_7, spMe_8, spMe_9, spMe_10, spMe_11, spMe_12, spMe_13, spMe_14, spMe_15, hM.1, enh, if_neg c, e1]
    · have q2 : ¬ nI k = (2 : Int32) := k1 2 (by decide) (fun e => c24 (Or.inl e))
      have q4 : ¬ nI k = (4 : Int32) := k1 4 (by decide) (fun e => c24 (Or.inr e))
      obtain ⟨M', e1, f1⟩ := m_glad40 hM hV hP0 hR (g := g) c5 (fun q => absurd q c24)
      refine ⟨M', ?_, f1⟩
      simp only [fX8_gladOf, zokM_0, zokM_1, zokM_2, zokM_3, zokM_4, zokM_5, zokM_6, zokM_7, zokM_8, zokM_9, zokM_10, zokM_11, zokM_12, zokM_13, zokM_14, zokM_15, zlaM_1, zlaM_2, zlaM_3, zlaM_4, zlaM_5, zlaM_6, zlaM_7, zlaM_8, zlaM_9, zlaM_10, zlaM_11, zlaM_12, zlaM_13, zlaM_14, zlaM_15, zp_1, zp_h, zp_r, zp_l, zletE, obs, spMe_0, spMe_1, spMe_2, spMe_3, spMe_4, spMe_5, spMe_6, spMe_7, spMe_8, spMe_9, spMe_10, spMe_11, spMe_12, spMe_13, spMe_14, spMe_15, hM.1, r9, z5, pk, if_neg q5, if_neg q2, if_neg q4, e1]
/-- what asking for a set COSTS -/
def csS (nu h d : Nat) (F : Nat → (Nat → Int32) → Int32) (st : Nat) : Int32 := bn0 (tlS F 2 0 (nI (pc st)) 0 nu h d)
theorem bn0_nat (v : Int32) : ∃ c, c ≤ 99 ∧ bn0 v = nI c := by
  unfold bn0
  obtain ⟨-, h2, h3⟩ := i99
  by_cases a : v < 99
  · rw [if_pos a]
    have a' := Int32.lt_iff_toInt_lt.mp a
    by_cases b : (0 : Int32) < v
    · rw [if_pos b]
      have b' := Int32.lt_iff_toInt_lt.mp b
      refine ⟨v.toInt.toNat, by omega, Int32.toInt_inj.mp ?_⟩
      rw [nI_toInt (by omega)]
      omega
    · rw [if_neg b]; exact ⟨0, by omega, rfl⟩
  · rw [if_neg a, if_pos (by decide)]; exact ⟨99, by omega, rfl⟩
theorem csS_nat (nu h d : Nat) (F : Nat → (Nat → Int32) → Int32) (st : Nat) : ∃ c, c ≤ 99 ∧ csS nu h d F st = nI c := bn0_nat _
theorem x_cost7 {X : zS} (hX : shX X) {L : Nat → Nat} {k nu s h nh d t : Nat} {F : Nat → (Nat → Int32) → Int32} (hV : Vok L k nu s h nh d) (hP : PcX X L k nu s h nh d t F) {st : Nat} (hst : st ≤ 4095) : ∃ X', fX6_costOf 7 (nI st) X = some (csS nu h d F st, X') ∧ frX X X' := by
  obtain ⟨hL, vk, vu, vs, vh, vn, vd, ht, vr, hT⟩ := hP
  obtain ⟨X', e1, f1⟩ := x_tell7 hX vu vh hV.2.2.2.2.1 vd ht vr hT (w := 2) (by decide) 0 (nI (pc st)) 0
  have e1' : fX6_tellBy 7 2 0 (nI (pc st)) 0 X = _ := e1
  refine ⟨X', ?_, f1⟩
  simp only [fX6_costOf, zokX_0, zokX_1, zokX_2, zokX_3, zokX_4, zokX_5, zokX_6, zokX_7, zokX_8, zokX_9, zokX_10, zokX_11, zokX_12, zokX_13, zokX_14, zokX_15, zokX_16, zlaX_1, zlaX_2, zlaX_3, zlaX_4, zlaX_5, zlaX_6, zlaX_8, zlaX_11, zlaX_12, zlaX_13, zlaX_15, zlaX_16, zp_1, zp_h, zp_r, zp_l, zletE, obs, spXe_0, spXe_1, spXe_2, spXe_3, spXe_4, spXe_5, spXe_6, spXe_7, spXe_8, spXe_9, spXe_10, spXe_11, spXe_12, spXe_13, spXe_14, spXe_15, spXe_16, hX.1, x_bits hst, e1']
  show some (bn0 (bnd (tlS F 2 0 (nI (pc st)) 0 nu h d)), X') = _
  rw [bn0_bnd]
  rfl
theorem m_cost8 {M : zS} (hM : shM M) {p n : Nat} {L : Nat → Nat} {k nu s h nh d t : Nat} {F : Nat → (Nat → Int32) → Int32} (hV : Vok L k nu s h nh d) (hP : PcM M p n L k nu s h nh d) (hR : RlM M t F) {st : Nat} (hst : st ≤ 4095) : ∃ M', fX8_costsOf 0 (nI p) (nI st) M = some (csS nu h d F st, M') ∧ frM M M' := by
  obtain ⟨M', e1, f1⟩ := m_says hM hP hV.2.2.2.2.1 hR.1 hR.2 (w := 2) (by decide) 0 (nI (pc st)) 0
  rw [if_pos rfl] at e1
  have e1' : fX8_says 0 2 (nI p) 0 (nI (pc st)) 0 M = _ := e1
  refine ⟨M', ?_, f1⟩
  simp only [fX8_costsOf, zokM_0, zokM_1, zokM_2, zokM_3, zokM_4, zokM_5, zokM_6, zokM_7, zokM_8, zokM_9, zokM_10, zokM_11, zokM_12, zokM_13, zokM_14, zokM_15, zlaM_1, zlaM_2, zlaM_3, zlaM_4, zlaM_5, zlaM_6, zlaM_7, zlaM_8, zlaM_9, zlaM_10, zlaM_11, zlaM_12, zlaM_13, zlaM_14, zlaM_15, zp_1, zp_h, zp_r, zp_l, zletE, obs, spMe_0, spMe_1, spMe_2, spMe_3, spMe_4, spMe_5, spMe_6, spMe_7, spMe_8, spMe_9, spMe_10, spMe_11, spMe_12, spMe_13, spMe_14, spMe_15, hM.1, m_bits hst, e1']
  rfl
/-- what asking for a set SHUTS -/
def shN (L : Nat → Nat) (k st : Nat) : Nat :=
  if k = 1 ∨ k = 3 then st &&& (-(nI st)).toBitVec.toNat else if k = 2 ∨ k = 4 then st ||| laN L st 12 0 0 else if k = 5 then 0 else st
theorem shN_le {L : Nat → Nat} (hL : SyN L) (k : Nat) {st : Nat} (hst : st ≤ 4095) : shN L k st ≤ 4095 := by
  unfold shN
  split
  · exact Nat.le_trans Nat.and_le_left hst
  · split
    · exact or_le hst (laN_le hL.1 st 12 0 0 rfl (by decide))
    · split
      · omega
      · exact hst
theorem i_self (x : Int32) : x = nI x.toBitVec.toNat := by
  apply Int32.toBitVec_inj.1
  show x.toBitVec = BitVec.ofNat 32 x.toBitVec.toNat
  simp
theorem low_n (st : Nat) : nI st &&& (-(nI st)) = nI (st &&& (-(nI st)).toBitVec.toNat) := by
  rw [← n_and, ← i_self]
theorem x_shut7 {X : zS} (hX : shX X) {L : Nat → Nat} (hL : LkX X L) {k : Nat} (hk : k < 6) (vk : X.2.1 7 3 = nI k) {st : Nat} (hst : st ≤ 4095) : fX6_shutBy 7 (nI st) X = some (nI (shN L k st), X) := by
  have ela := x_la0 hX hL hst
  rcases (show k = 0 ∨ k = 1 ∨ k = 2 ∨ k = 3 ∨ k = 4 ∨ k = 5 by omega) with rfl | rfl | rfl | rfl | rfl | rfl
  · simp only [fX6_shutBy, zokX_0, zokX_1, zokX_2, zokX_3, zokX_4, zokX_5, zokX_6, zokX_7, zokX_8, zokX_9, zokX_10, zokX_11, zokX_12, zokX_13, zokX_14, zokX_15, zokX_16, zlaX_1, zlaX_2, zlaX_3, zlaX_4, zlaX_5, zlaX_6, zlaX_8, zlaX_11, zlaX_12, zlaX_13, zlaX_15, zlaX_16, zp_1, zp_h, zp_r, zp_l, zletE, obs, spXe_0, spXe_1, spXe_2, spXe_3, spXe_4, spXe_5, spXe_6, spXe_7, spXe_8, spXe_9, spXe_10, spXe_11, spXe_12, spXe_13, spXe_14, spXe_15, spXe_16, hX.1, vk, if_neg (show ¬ nI 0 = (1 : Int32) by decide), if_neg (show ¬ nI 0 = (2 : Int32) by decide), if_neg (show ¬ nI 0 = (3 : Int32) by decide), if_neg (show ¬ nI 0 = (4 : Int32) by decide), if_neg (show ¬ nI 0 = (5 : Int32) by decide)]
    rfl
  · simp only [fX6_shutBy, fX6_shutBy_j40, zokX_0, zokX_1, zokX_2, zokX_3, zokX_4, zokX_5, zokX_6, zokX_7, zokX_8, zokX_9, zokX_10, zokX_11, zokX_12, zokX_13, zokX_14, zokX_15, zokX_16, zlaX_1, zlaX_2, zlaX_3, zlaX_4, zlaX_5, zlaX_6, zlaX_8, zlaX_11, zlaX_12, zlaX_13, zlaX_15, zlaX_16, zp_1, zp_h, zp_r, zp_l, zletE, obs, spXe_0, spXe_1, spXe_2, spXe_3, spXe_4, spXe_5, spXe_6, spXe_7, spXe_8, spXe_9, spXe_10, spXe_11, spXe_12, spXe_13, spXe_14, spXe_15, spXe_16, hX.1, vk, if_pos (show nI 1 = (1 : Int32) from rfl), low_n]
    rfl
  · simp only [fX6_shutBy, fX6_shutBy_j45, zokX_0, zokX_1, zokX_2, zokX_3, zokX_4, zokX_5, zokX_6, zokX_7, zokX_8, zokX_9, zokX_10, zokX_11, zokX_12, zokX_13, zokX_14, zokX_15, zokX_16, zlaX_1, zlaX_2, zlaX_3, zlaX_4, zlaX_5, zlaX_6, zlaX_8, zlaX_11, zlaX_12, zlaX_13, zlaX_15, zlaX_16, zp_1, zp_h, zp_r, zp_l, zletE, obs, spXe_0, spXe_1, spXe_2, spXe_3, spXe_4, spXe_5, spXe_6, spXe_7, spXe_8, spXe_9, spXe_10, spXe_11, spXe_12, spXe_13, spXe_14, spXe_15, spXe_16, hX.1, vk, if_neg (show ¬ nI 2 = (1 : Int32) by decide), if_pos (show nI 2 = (2 : Int32) from rfl), ela, n_or]
    rfl
  · simp only [fX6_shutBy, fX6_shutBy_j40, zokX_0, zokX_1, zokX_2, zokX_3, zokX_4, zokX_5, zokX_6, zokX_7, zokX_8, zokX_9, zokX_10, zokX_11, zokX_12, zokX_13, zokX_14, zokX_15, zokX_16, zlaX_1, zlaX_2, zlaX_3, zlaX_4, zlaX_5, zlaX_6, zlaX_8, zlaX_11, zlaX_12, zlaX_13, zlaX_15, zlaX_16, zp_1, zp_h, zp_r, zp_l, zletE, obs, spXe_0, spXe_1, spXe_2, spXe_3, spXe_4, spXe_5, spXe_6, spXe_7, spXe_8, spXe_9, spXe_10, spXe_11, spXe_12, spXe_13, spXe_14, spXe_15, spXe_16, hX.1, vk, if_neg (show ¬ nI 3 = (1 : Int32) by decide), if_neg (show ¬ nI 3 = (2 : Int32) by decide), if_pos (show nI 3 = (3 : Int32) from rfl), low_n]
    rfl
  · simp only [fX6_shutBy, fX6_shutBy_j45, zokX_0, zokX_1, zokX_2, zokX_3, zokX_4, zokX_5, zokX_6, zokX_7, zokX_8, zokX_9, zokX_10, zokX_11, zokX_12, zokX_13, zokX_14, zokX_15, zokX_16, zlaX_1, zlaX_2, zlaX_3, zlaX_4, zlaX_5, zlaX_6, zlaX_8, zlaX_11, zlaX_12, zlaX_13, zlaX_15, zlaX_16, zp_1, zp_h, zp_r, zp_l, zletE, obs, spXe_0, spXe_1, spXe_2, spXe_3, spXe_4, spXe_5, spXe_6, spXe_7, spXe_8, spXe_9, spXe_10, spXe_11, spXe_12, spXe_13, spXe_14, spXe_15, spXe_16, hX.1, vk, if_neg (show ¬ nI 4 = (1 : Int32) by decide), if_neg (show ¬ nI 4 = (2 : Int32) by decide), if_neg (show ¬ nI 4 = (3 : Int32) by decide), if_pos (show nI 4 = (4 : Int32) from rfl), ela, n_or]
    rfl
  · simp only [fX6_shutBy, zokX_0, zokX_1, zokX_2, zokX_3, zokX_4, zokX_5, zokX_6, zokX_7, zokX_8, zokX_9, zokX_10, zokX_11, zokX_12, zokX_13, zokX_14, zokX_15, zokX_16, zlaX_1, zlaX_2, zlaX_3, zlaX_4, zlaX_5, zlaX_6, zlaX_8, zlaX_11, zlaX_12, zlaX_13, zlaX_15, zlaX_16, zp_1, zp_h, zp_r, zp_l, zletE, obs, spXe_0, spXe_1, spXe_2, spXe_3, spXe_4, spXe_5, spXe_6, spXe_7, spXe_8, spXe_9, spXe_10, spXe_11, spXe_12, spXe_13, spXe_14, spXe_15, spXe_16, hX.1, vk, if_neg (show ¬ nI 5 = (1 : Int32) by decide), if_neg (show ¬ nI 5 = (2 : Int32) by decide), if_neg (show ¬ nI 5 = (3 : Int32) by decide), if_neg (show ¬ nI 5 = (4 : Int32) by decide), if_pos (show nI 5 = (5 : Int32) from rfl)]
    rfl
theorem m_shut8 {M : zS} (hM : shM M) {p : Nat} (hp : p < 5) {L : Nat → Nat} (hL : LkM M L) {k : Nat} (hk : k < 6) (pk : M.2.1 5 p = nI k) {st : Nat} (hst : st ≤ 4095) : fX8_shutsBy 0 (nI p) (nI st) M = some (nI (shN L k st), M) := by
  have ela := m_la0 hM hL hst
  have r9 : M.2.2.2 0 9 = some 5 := hM.r (by decide) (by decide)
  have z5 : zix spM 5 (nI p) = some p := zix_of rfl (by show p < 5; omega) (by decide)
  rcases (show k = 0 ∨ k = 1 ∨ k = 2 ∨ k = 3 ∨ k = 4 ∨ k = 5 by omega) with rfl | rfl | rfl | rfl | rfl | rfl
  · simp only [fX8_shutsBy, zokM_0, zokM_1, zokM_2, zokM_3, zokM_4, zokM_5, zokM_6, zokM_7, zokM_8, zokM_9, zokM_10, zokM_11, zokM_12, zokM_13, zokM_14, zokM_15, zlaM_1, zlaM_2, zlaM_3, zlaM_4, zlaM_5, zlaM_6, zlaM_7, zlaM_8, zlaM_9, zlaM_10, zlaM_11, zlaM_12, zlaM_13, zlaM_14, zlaM_15, zp_1, zp_h, zp_r, zp_l, zletE, obs, spMe_0, spMe_1, spMe_2, spMe_3, spMe_4, spMe_5, spMe_6, spMe_7, spMe_8, spMe_9, spMe_10, spMe_11, spMe_12, spMe_13, spMe_14, spMe_15, hM.1, r9, z5, pk, if_neg (show ¬ nI 0 = (5 : Int32) by decide), if_neg (show ¬ nI 0 = (1 : Int32) by decide), if_neg (show ¬ nI 0 = (3 : Int32) by decide), if_pos (show nI 0 = (0 : Int32) from rfl)]
    rfl
  · simp only [fX8_shutsBy, fX8_shutsBy_j26, zokM_0, zokM_1, zokM_2, zokM_3, zokM_4, zokM_5, zokM_6, zokM_7, zokM_8, zokM_9, zokM_10, zokM_11, zokM_12, zokM_13, zokM_14, zokM_15, zlaM_1, zlaM_2, zlaM_3, zlaM_4, zlaM_5, zlaM_6, zlaM_7, zlaM_8, zlaM_9, zlaM_10, zlaM_11, zlaM_12, zlaM_13, zlaM_14, zlaM_15, zp_1, zp_h, zp_r, zp_l, zletE, obs, spMe_0, spMe_1, spMe_2, spMe_3, spMe_4, spMe_5, spMe_6, spMe_7, spMe_8, spMe_9, spMe_10, spMe_11, spMe_12, spMe_13, spMe_14, spMe_15, hM.1, r9, z5, pk, if_neg (show ¬ nI 1 = (5 : Int32) by decide), if_pos (show nI 1 = (1 : Int32) from rfl), low_n]
    rfl
  · simp only [fX8_shutsBy, zokM_0, zokM_1, zokM_2, zokM_3, zokM_4, zokM_5, zokM_6, zokM_7, zokM_8, zokM_9, zokM_10, zokM_11, zokM_12, zokM_13, zokM_14, zokM_15, zlaM_1, zlaM_2, zlaM_3, zlaM_4, zlaM_5, zlaM_6, zlaM_7, zlaM_8, zlaM_9, zlaM_10, zlaM_11, zlaM_12, zlaM_13, zlaM_14, zlaM_15, zp_1, zp_h, zp_r, zp_l, zletE, obs, spMe_0, spMe_1, spMe_2, spMe_3, spMe_4, spMe_5, spMe_6, spMe_7, spMe_8, spMe_9, spMe_10, spMe_11, spMe_12, spMe_13, spMe_14, spMe_15, hM.1, r9, z5, pk, if_neg (show ¬ nI 2 = (5 : Int32) by decide), if_neg (show ¬ nI 2 = (1 : Int32) by decide), if_neg (show ¬ nI 2 = (3 : Int32) by decide), if_neg (show ¬ nI 2 = (0 : Int32) by decide), ela, n_or]
    rfl
  · simp only [fX8_shutsBy, fX8_shutsBy_j26, zokM_0, zokM_1, zokM_2, zokM_3, zokM_4, zokM_5, zokM_6, zokM_7, zokM_8, zokM_9, zokM_10, zokM_11, zokM_12, zokM_13, zokM_14, zokM_15, zlaM_1, zlaM_2, zlaM_3, zlaM_4, zlaM_5, zlaM_6, zlaM_7, zlaM_8, zlaM_9, zlaM_10, zlaM_11, zlaM_12, zlaM_13, zlaM_14, zlaM_15, zp_1, zp_h, zp_r, zp_l, zletE, obs, spMe_0, spMe_1, spMe_2, spMe_3, spMe_4, spMe_5, spMe_6, spMe_7, spMe_8, spMe_9, spMe_10, spMe_11, spMe_12, spMe_13, spMe_14, spMe_15, hM.1, r9, z5, pk, if_neg (show ¬ nI 3 = (5 : Int32) by decide), if_neg (show ¬ nI 3 = (1 : Int32) by decide), if_pos (show nI 3 = (3 : Int32) from rfl), low_n]
    rfl
  · simp only [fX8_shutsBy, zokM_0, zokM_1, zokM_2, zokM_3, zokM_4, zokM_5, zokM_6, zokM_7, zokM_8, zokM_9, zokM_10, zokM_11, zokM_12, zokM_13, zokM_14, zokM_15, zlaM_1, zlaM_2, zlaM_3, zlaM_4, zlaM_5, zlaM_6, zlaM_7, zlaM_8, zlaM_9, zlaM_10, zlaM_11, zlaM_12, zlaM_13, zlaM_14, zlaM_15, zp_1, zp_h, zp_r, zp_l, zletE, obs, spMe_0, spMe_1, spMe_2, spMe_3, spMe_4, spMe_5, spMe_6, spMe_7, spMe_8, spMe_9, spMe_10, spMe_11, spMe_12, spMe_13, spMe_14, spMe_15, hM.1, r9, z5, pk, if_neg (show ¬ nI 4 = (5 : Int32) by decide), if_neg (show ¬ nI 4 = (1 : Int32) by decide), if_neg (show ¬ nI 4 = (3 : Int32) by decide), if_neg (show ¬ nI 4 = (0 : Int32) by decide), ela, n_or]
    rfl
  · simp only [fX8_shutsBy, zokM_0, zokM_1, zokM_2, zokM_3, zokM_4, zokM_5, zokM_6, zokM_7, zokM_8, zokM_9, zokM_10, zokM_11, zokM_12, zokM_13, zokM_14, zokM_15, zlaM_1, zlaM_2, zlaM_3, zlaM_4, zlaM_5, zlaM_6, zlaM_7, zlaM_8, zlaM_9, zlaM_10, zlaM_11, zlaM_12, zlaM_13, zlaM_14, zlaM_15, zp_1, zp_h, zp_r, zp_l, zletE, obs, spMe_0, spMe_1, spMe_2, spMe_3, spMe_4, spMe_5, spMe_6, spMe_7, spMe_8, spMe_9, spMe_10, spMe_11, spMe_12, spMe_13, spMe_14, spMe_15, hM.1, r9, z5, pk, if_pos (show nI 5 = (5 : Int32) from rfl)]
    rfl
