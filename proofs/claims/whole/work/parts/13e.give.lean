theorem x_given {X : zS} (hX : shX X) {L : Nat → Nat} {k nu s h nh d t : Nat} {F : Nat → (Nat → Int32) → Int32} (hV : Vok L k nu s h nh d) (hP : PcX X L k nu s h nh d t F) {st : Nat} (hst : st ≤ 4095) : ∃ X', fX6_givenBy 7 (nI st) X = some (gvS L k nu s h nh d F st, X') ∧ frX X X' := by
  have hP0 := hP
  obtain ⟨hL, vk, vu, vs, vh, vn, vd, ht, vr, hT⟩ := hP
  have eo := x_open hX hV hL vk vs vh vn hst
  have hle := opN_le L k s h nh st
  have hpc := pc_le (opN L k s h nh st)
  unfold gvS
  by_cases c : opN L k s h nh st = 0
  · rw [if_pos c]
    have e0 : pc (opN L k s h nh st) = 0 := (pc_zero hle).mpr c
    have g0 : ¬ (0 : Int32) < nI (pc (opN L k s h nh st)) := by rw [e0]; exact Int32.lt_irrefl
    refine ⟨X, ?_, frX.rf X⟩
    simp only [fX6_givenBy, zokX_0, zokX_1, zokX_2, zokX_3, zokX_4, zokX_5, zokX_6, zokX_7, zokX_8, zokX_9, zokX_10, zokX_11, zokX_12, zokX_13, zokX_14, zokX_15, zokX_16, zlaX_1, zlaX_2, zlaX_3, zlaX_4, zlaX_5, zlaX_6, zlaX_8, zlaX_11, zlaX_12, zlaX_13, zlaX_15, zlaX_16, zp_1, zp_h, zp_r, zp_l, zletE, obs, spXe_0, spXe_1, spXe_2, spXe_3, spXe_4, spXe_5, spXe_6, spXe_7, spXe_8, spXe_9, spXe_10, spXe_11, spXe_12, spXe_13, spXe_14, spXe_15, spXe_16, hX.1, eo, x_bits hle, if_neg g0]
  · rw [if_neg c]
    have hp : 1 ≤ pc (opN L k s h nh st) := Nat.pos_of_ne_zero (fun q => c ((pc_zero hle).mp q))
    have g0 : (0 : Int32) < nI (pc (opN L k s h nh st)) := nI_lt (a := 0) (by omega) (by omega)
    obtain ⟨X', e1, f1⟩ := x_tell7 hX vu vh hV.2.2.2.2.1 vd ht vr hT (w := 0) (by decide) 0 (nI (pc st)) (nI (pc (opN L k s h nh st)))
    obtain ⟨b1, b2⟩ := bnd_int (tlS F 0 0 (nI (pc st)) (nI (pc (opN L k s h nh st))) nu h d)
    have hX' := f1.sh hX
    obtain ⟨-, vk', vu', -, -, -, vd', -⟩ := hP0.fr f1
    have e2 := x_pick hX' hV vk' vu' vd' b1 b2 hp hpc
    obtain ⟨-, -, hf⟩ := fm_both b1 b2 hp hpc X X
    have hlt := pkN_lt (k := k) (nu := nu) (d := d) _ hf hp
    have e3 : fX6_bitAt_L4 zF (nI (opN L k s h nh st)) (nI (pkN k nu d (bnd (tlS F 0 0 (nI (pc st)) (nI (pc (opN L k s h nh st))) nu h d)) (pc (opN L k s h nh st)))) 0 X' = some (nI (nbN (opN L k s h nh st) 12 0 (pkN k nu d (bnd (tlS F 0 0 (nI (pc st)) (nI (pc (opN L k s h nh st))) nu h d)) (pc (opN L k s h nh st)))), X') := x_bitAt hle X' 12 0 zF _ rfl (by decide) (by rw [← pc_ct]; exact hlt)
    refine ⟨X', ?_, f1⟩
    have e1' : fX6_tellBy 7 0 0 (nI (pc st)) (nI (pc (opN L k s h nh st))) X = _ := e1
    have hXn := hX'.1
    simp only [fX6_givenBy, zokX_0, zokX_1, zokX_2, zokX_3, zokX_4, zokX_5, zokX_6, zokX_7, zokX_8, zokX_9, zokX_10, zokX_11, zokX_12, zokX_13, zokX_14, zokX_15, zokX_16, zlaX_1, zlaX_2, zlaX_3, zlaX_4, zlaX_5, zlaX_6, zlaX_8, zlaX_11, zlaX_12, zlaX_13, zlaX_15, zlaX_16, zp_1, zp_h, zp_r, zp_l, zletE, obs, spXe_0, spXe_1, spXe_2, spXe_3, spXe_4, spXe_5, spXe_6, spXe_7, spXe_8, spXe_9, spXe_10, spXe_11, spXe_12, spXe_13, spXe_14, spXe_15, spXe_16, hX.1, hXn, eo, x_bits hle, x_bits hst, if_pos g0, e1', e2, fX6_bitAt, e3]
theorem m_given {M : zS} (hM : shM M) {p n : Nat} {L : Nat → Nat} {k nu s h nh d t : Nat} {F : Nat → (Nat → Int32) → Int32} (hV : Vok L k nu s h nh d) (hP : PcM M p n L k nu s h nh d) (hR : RlM M t F) {st : Nat} (hst : st ≤ 4095) : ∃ M', fX8_given 0 (nI p) (nI st) M = some (gvS L k nu s h nh d F st, M') ∧ frM M M' := by
  have hP0 := hP
  have eo := m_open hM hV hP hst
  obtain ⟨hL, hp5, hn, pm, pk, pu, ps, ph, pd, -⟩ := hP
  have r9 : M.2.2.2 0 9 = some 5 := hM.r (by decide) (by decide)
  have r10 : M.2.2.2 0 10 = some 6 := hM.r (by decide) (by decide)
  have z5 : zix spM 5 (nI p) = some p := zix_of rfl (by show p < 5; omega) (by decide)
  have i0 : (4 : Int32) * nI p = nI (4 * p) := idx40 p
  have z0' : zix spM 6 (nI (4 * p)) = some (4 * p) := zix_of rfl (by show 4 * p < 20; omega) (by decide)
  have hle := opN_le L k s h nh st
  have hpc := pc_le (opN L k s h nh st)
  unfold gvS
  by_cases c : opN L k s h nh st = 0
  · rw [if_pos c]
    refine ⟨M, ?_, frM.rf M⟩
    have c' : nI (opN L k s h nh st) = 0 := by rw [c]; rfl
    simp only [fX8_given, zokM_0, zokM_1, zokM_2, zokM_3, zokM_4, zokM_5, zokM_6, zokM_7, zokM_8, zokM_9, zokM_10, zokM_11, zokM_12, zokM_13, zokM_14, zokM_15, zlaM_1, zlaM_2, zlaM_3, zlaM_4, zlaM_5, zlaM_6, zlaM_7, zlaM_8, zlaM_9, zlaM_10, zlaM_11, zlaM_12, zlaM_13, zlaM_14, zlaM_15, zp_1, zp_h, zp_r, zp_l, zletE, obs, spMe_0, spMe_1, spMe_2, spMe_3, spMe_4, spMe_5, spMe_6, spMe_7, spMe_8, spMe_9, spMe_10, spMe_11, spMe_12, spMe_13, spMe_14, spMe_15, hM.1, eo, if_pos c']
  · rw [if_neg c]
    have c' : ¬ nI (opN L k s h nh st) = 0 := nI_ne0 (Nat.pos_of_ne_zero c) (by omega)
    have hp : 1 ≤ pc (opN L k s h nh st) := Nat.pos_of_ne_zero (fun q => c ((pc_zero hle).mp q))
    have nn0 : ¬ nI (pc (opN L k s h nh st)) = 0 := nI_ne0 (by omega) (by omega)
    obtain ⟨M', e1, f1⟩ := m_says hM hP0 hV.2.2.2.2.1 hR.1 hR.2 (w := 0) (by decide) 0 (nI (pc st)) (nI (pc (opN L k s h nh st)))
    rw [if_neg (by decide)] at e1
    have e1' : fX8_says 0 0 (nI p) 0 (nI (pc st)) (nI (pc (opN L k s h nh st))) M = _ := e1
    obtain ⟨b1, b2⟩ := bnd_int (tlS F 0 0 (nI (pc st)) (nI (pc (opN L k s h nh st))) nu h d)
    obtain ⟨-, fm, hf⟩ := fm_both b1 b2 hp hpc M' M'
    have hlt := pkN_lt (k := k) (nu := nu) (d := d) _ hf hp
    have hlt2 : ∀ (N : zS), fX8_given_L125 0 zF (nI (opN L k s h nh st)) 0 (nI (pkN k nu d (bnd (tlS F 0 0 (nI (pc st)) (nI (pc (opN L k s h nh st))) nu h d)) (pc (opN L k s h nh st)))) N = some (nI (nbN (opN L k s h nh st) 12 0 (pkN k nu d (bnd (tlS F 0 0 (nI (pc st)) (nI (pc (opN L k s h nh st))) nu h d)) (pc (opN L k s h nh st)))), N) := fun N => m_bitAt hle N 12 0 zF _ rfl (by decide) (by rw [← pc_ct]; exact hlt)
    have em1 : nI (pc (opN L k s h nh st)) - 1 = nI (pc (opN L k s h nh st) - 1) := by
      obtain ⟨b, hb⟩ : ∃ b, pc (opN L k s h nh st) = b + 1 := ⟨pc (opN L k s h nh st) - 1, by omega⟩
      rw [hb]
      exact nI_pred b
    have hk := hV.2.1
    have k1 : ∀ j : Nat, j < 6 → k ≠ j → ¬ nI k = nI j := fun j hj e => kne (by omega) (by omega) e
    have hd := hV.2.2.2.2.2.2
    have h10 : ¬ (1 : Int32) = 0 := by decide
    unfold pkN at hlt2 ⊢
    by_cases c1 : k = 1
    · subst c1
      refine ⟨M, ?_, frM.rf M⟩
      rw [if_pos rfl] at hlt2 ⊢
      have hl : ∀ N, fX8_given_L125 0 zF (nI (opN L 1 s h nh st)) 0 0 N = _ := hlt2
      simp only [fX8_given, fX8_given_j53, fX8_given_j54, fX8_given_j116, zokM_0, zokM_1, zokM_2, zokM_3, zokM_4, zokM_5, zokM_6, zokM_7, zokM_8, zokM_9, zokM_10, zokM_11, zokM_12, zokM_13, zokM_14, zokM_15, zlaM_1, zlaM_2, zlaM_3, zlaM_4, zlaM_5, zlaM_6, zlaM_7, zlaM_8, zlaM_9, zlaM_10, zlaM_11, zlaM_12, zlaM_13, zlaM_14, zlaM_15, zp_1, zp_h, zp_r, zp_l, zletE, obs, spMe_0, spMe_1, spMe_2, spMe_3, spMe_4, spMe_5, spMe_6, spMe_7, spMe_8, spMe_9, spMe_10, spMe_11, spMe_12, spMe_13, spMe_14, spMe_15, hM.1, eo, if_neg c', m_bits hle, r9, z5, pk, if_neg (show ¬ nI 1 = (2 : Int32) by decide), if_neg (show ¬ nI 1 = (4 : Int32) by decide), if_true, if_pos (show nI 1 = (1 : Int32) from rfl), hl]
    · have q1 : ¬ nI k = (1 : Int32) := k1 1 (by decide) c1
      rw [if_neg c1] at hlt2 ⊢
      by_cases c2 : k = 2
      · subst c2
        rw [if_pos rfl] at hlt2 ⊢
        refine ⟨M, ?_, frM.rf M⟩
        simp only [fX8_given, fX8_given_j49, fX8_given_j54, fX8_given_j116, zokM_0, zokM_1, zokM_2, zokM_3, zokM_4, zokM_5, zokM_6, zokM_7, zokM_8, zokM_9, zokM_10, zokM_11, zokM_12, zokM_13, zokM_14, zokM_15, zlaM_1, zlaM_2, zlaM_3, zlaM_4, zlaM_5, zlaM_6, zlaM_7, zlaM_8, zlaM_9, zlaM_10, zlaM_11, zlaM_12, zlaM_13, zlaM_14, zlaM_15, zp_1, zp_h, zp_r, zp_l, zletE, obs, spMe_0, spMe_1, spMe_2, spMe_3, spMe_4, spMe_5, spMe_6, spMe_7, spMe_8, spMe_9, spMe_10, spMe_11, spMe_12, spMe_13, spMe_14, spMe_15, hM.1, eo, if_neg c', m_bits hle, r9, z5, pk, if_pos (show nI 2 = (2 : Int32) from rfl), if_neg h10, em1, hlt2]
      · have q2 : ¬ nI k = (2 : Int32) := k1 2 (by decide) c2
        rw [if_neg c2] at hlt2 ⊢
        by_cases c3 : k = 3
        · subst c3
          rw [if_pos rfl] at hlt2 ⊢
          have e : nI nu - nI nu / nI (pc (opN L 3 s h nh st)) * nI (pc (opN L 3 s h nh st)) = nI (nu % pc (opN L 3 s h nh st)) := pk_rem (by have := hV.2.2.1; omega) (by omega) (by omega)
          refine ⟨M, ?_, frM.rf M⟩
          simp only [fX8_given, fX8_given_j53, fX8_given_j54, fX8_given_j116, zokM_0, zokM_1, zokM_2, zokM_3, zokM_4, zokM_5, zokM_6, zokM_7, zokM_8, zokM_9, zokM_10, zokM_11, zokM_12, zokM_13, zokM_14, zokM_15, zlaM_1, zlaM_2, zlaM_3, zlaM_4, zlaM_5, zlaM_6, zlaM_7, zlaM_8, zlaM_9, zlaM_10, zlaM_11, zlaM_12, zlaM_13, zlaM_14, zlaM_15, zp_1, zp_h, zp_r, zp_l, zletE, obs, spMe_0, spMe_1, spMe_2, spMe_3, spMe_4, spMe_5, spMe_6, spMe_7, spMe_8, spMe_9, spMe_10, spMe_11, spMe_12, spMe_13, spMe_14, spMe_15, hM.1, eo, if_neg c', m_bits hle, r9, r10, z5, pk, if_neg q2, if_neg (show ¬ nI 3 = (4 : Int32) by decide), if_true, if_neg q1, if_pos (show nI 3 = (3 : Int32) from rfl), i0, z0', pu, if_neg nn0, e, hlt2]
        · have q3 : ¬ nI k = (3 : Int32) := k1 3 (by decide) c3
          rw [if_neg c3] at hlt2 ⊢
          have hM'n := (f1.sh hM).1
          by_cases c4 : k = 4
          · subst c4
            rw [if_pos rfl] at hlt2 ⊢
            by_cases cd : d % 2 = 0
            · rw [if_pos cd] at hlt2 ⊢
              have e2 : ¬ nI (d % 2) = 1 := by rw [cd]; decide
              refine ⟨M', ?_, f1⟩
              simp only [fX8_given, fX8_given_j53, fX8_given_j54, fX8_given_j116, zokM_0, zokM_1, zokM_2, zokM_3, zokM_4, zokM_5, zokM_6, zokM_7, zokM_8, zokM_9, zokM_10, zokM_11, zokM_12, zokM_13, zokM_14, zokM_15, zlaM_1, zlaM_2, zlaM_3, zlaM_4, zlaM_5, zlaM_6, zlaM_7, zlaM_8, zlaM_9, zlaM_10, zlaM_11, zlaM_12, zlaM_13, zlaM_14, zlaM_15, zp_1, zp_h, zp_r, zp_l, zletE, obs, spMe_0, spMe_1, spMe_2, spMe_3, spMe_4, spMe_5, spMe_6, spMe_7, spMe_8, spMe_9, spMe_10, spMe_11, spMe_12, spMe_13, spMe_14, spMe_15, hM.1, hM'n, eo, if_neg c', m_bits hle, m_bits hst, r9, z5, pk, if_neg q2, if_pos (show nI 4 = (4 : Int32) from rfl), if_neg (show ¬ (2 : Int32) = 0 by decide), pd, d_mod hd, if_neg e2, if_true, if_neg q1, if_neg q3, e1', fm, hlt2]
            · rw [if_neg cd] at hlt2 ⊢
              have e2 : nI (d % 2) = 1 := by rw [show d % 2 = 1 by omega]; rfl
              refine ⟨M, ?_, frM.rf M⟩
              simp only [fX8_given, fX8_given_j49, fX8_given_j54, fX8_given_j116, zokM_0, zokM_1, zokM_2, zokM_3, zokM_4, zokM_5, zokM_6, zokM_7, zokM_8, zokM_9, zokM_10, zokM_11, zokM_12, zokM_13, zokM_14, zokM_15, zlaM_1, zlaM_2, zlaM_3, zlaM_4, zlaM_5, zlaM_6, zlaM_7, zlaM_8, zlaM_9, zlaM_10, zlaM_11, zlaM_12, zlaM_13, zlaM_14, zlaM_15, zp_1, zp_h, zp_r, zp_l, zletE, obs, spMe_0, spMe_1, spMe_2, spMe_3, spMe_4, spMe_5, spMe_6, spMe_7, spMe_8, spMe_9, spMe_10, spMe_11, spMe_12, spMe_13, spMe_14, spMe_15, hM.1, eo, if_neg c', m_bits hle, r9, z5, pk, if_neg q2, if_pos (show nI 4 = (4 : Int32) from rfl), if_neg (show ¬ (2 : Int32) = 0 by decide), pd, d_mod hd, if_pos e2, if_neg h10, em1, hlt2]
          · have q4 : ¬ nI k = (4 : Int32) := k1 4 (by decide) c4
            rw [if_neg c4] at hlt2 ⊢
            refine ⟨M', ?_, f1⟩
            simp only [fX8_given, fX8_given_j53, fX8_given_j54, fX8_given_j116, zokM_0, zokM_1, zokM_2, zokM_3, zokM_4, zokM_5, zokM_6, zokM_7, zokM_8, zokM_9, zokM_10, zokM_11, zokM_12, zokM_13, zokM_14, zokM_15, zlaM_1, zlaM_2, zlaM_3, zlaM_4, zlaM_5, zlaM_6, zlaM_7, zlaM_8, zlaM_9, zlaM_10, zlaM_11, zlaM_12, zlaM_13, zlaM_14, zlaM_15, zp_1, zp_h, zp_r, zp_l, zletE, obs, spMe_0, spMe_1, spMe_2, spMe_3, spMe_4, spMe_5, spMe_6, spMe_7, spMe_8, spMe_9, spMe_10, spMe_11, spMe_12, spMe_13, spMe_14, spMe_15, hM.1, hM'n, eo, if_neg c', m_bits hle, m_bits hst, r9, z5, pk, if_neg q2, if_neg q4, if_true, if_neg q1, if_neg q3, e1', fm, hlt2]
