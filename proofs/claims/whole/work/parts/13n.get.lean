theorem ccB0 {gv cs : Nat → Int32} {g : Int32} {b j : Nat} (h : ¬ gv j = g) : ccB gv cs g b j = false := by
  unfold ccB
  have : (gv j == g) = false := by rw [beq_eq_false_iff_ne]; exact h
  rw [this]
  rfl
theorem ccB1 {gv cs : Nat → Int32} {g : Int32} {b j : Nat} (h : gv j = g) : ccB gv cs g b j = !(decide (bvI cs 100 b ≤ cs j)) := by
  unfold ccB
  have : (gv j == g) = true := by rw [beq_iff_eq]; exact h
  rw [this]
  rfl
theorem m100 {c : Nat} (h : c ≤ 99) : ¬ (100 : Int32) ≤ nI c := nI_ge (b := 100) (a := c) (by omega) (by decide)
theorem x_cheap {L : Nat → Nat} {k nu s h nh d t : Nat} {F : Nat → (Nat → Int32) → Int32} (hV : Vok L k nu s h nh d) {fs : Nat → Nat} (hfs : ∀ j, j < 298 → 1 ≤ fs j ∧ fs j ≤ 4095) (g : Int32) : ∀ (m j n b : Nat) (X : zS), shX X → PcX X L k nu s h nh d t F → FwX X fs → b ≤ 298 → j + m = 298 → m < n → ∃ X', fX7_cheapestSet_L8 0 n (some 7) g (bsI fs b) (bvI (fun j => csS nu h d F (fs j)) 0 b) (nI j) X = some (bsI fs (bF (ccB (fun j => gvS L k nu s h nh d F (fs j)) (fun j => csS nu h d F (fs j)) g) m j b), X') ∧ frX X X'
  | m, j, 0, _, _, _, _, _, _, _, h => by omega
  | 0, j, n + 1, b, X, hX, hP, hW, hb, hj, _ => by
    have e : j = 298 := by omega
    subst e
    have r01 : X.2.2.2 0 1 = some 2 := hX.r (by decide) (by decide) (by decide) (by decide)
    have c : Int32.ofNat 298 ≤ nI 298 := by decide
    refine ⟨X, ?_, frX.rf X⟩
    simp only [fX7_cheapestSet_L8, zokX_0, zokX_1, zokX_2, zokX_3, zokX_4, zokX_5, zokX_6, zokX_7, zokX_8, zokX_9, zokX_10, zokX_11, zokX_12, zokX_13, zokX_14, zokX_15, zokX_16, zlaX_1, zlaX_2, zlaX_3, zlaX_4, zlaX_5, zlaX_6, zlaX_8, zlaX_11, zlaX_12, zlaX_13, zlaX_15, zlaX_16, zp_1, zp_h, zp_r, zp_l, zletE, obs, spXe_0, spXe_1, spXe_2, spXe_3, spXe_4, spXe_5, spXe_6, spXe_7, spXe_8, spXe_9, spXe_10, spXe_11, spXe_12, spXe_13, spXe_14, spXe_15, spXe_16, hX.1, r01, c, if_true]
    rfl
  | m + 1, j, n + 1, b, X, hX, hP, hW, hb, hj, hn => by
    have r01 : X.2.2.2 0 1 = some 2 := hX.r (by decide) (by decide) (by decide) (by decide)
    have c : ¬ Int32.ofNat 298 ≤ nI j := nI_ge (b := 298) (a := j) (by omega) (by decide)
    have hz : zix spX 2 (nI j) = some j := zix_of rfl (by show j < 298; omega) (by decide)
    obtain ⟨X1, e1, f1⟩ := x_given hX hV hP (hfs j (by omega)).2
    have hX1 := f1.sh hX
    have hP1 := hP.fr f1
    have hW1 := hW.fr f1
    have hX1n := hX1.1
    have r01' : X1.2.2.2 0 1 = some 2 := hX1.r (by decide) (by decide) (by decide) (by decide)
    rw [bF]
    by_cases hg : gvS L k nu s h nh d F (fs j) = g
    · obtain ⟨X2, e2, f2⟩ := x_cost7 hX1 hV hP1 (hfs j (by omega)).2
      have hX2 := f2.sh hX1
      have hP2 := hP1.fr f2
      have hW2 := hW1.fr f2
      have hX2n := hX2.1
      have r01'' : X2.2.2.2 0 1 = some 2 := hX2.r (by decide) (by decide) (by decide) (by decide)
      have hcg : ccB (fun j => gvS L k nu s h nh d F (fs j)) (fun j => csS nu h d F (fs j)) g b j = !(decide (bvI (fun j => csS nu h d F (fs j)) 100 b ≤ csS nu h d F (fs j))) := ccB1 (gv := fun j => gvS L k nu s h nh d F (fs j)) (cs := fun j => csS nu h d F (fs j)) hg
      have take : ∃ X', fX7_cheapestSet_L8 0 n (some 7) g (nI (fs j)) (csS nu h d F (fs j)) (nI (j + 1)) X2 = some (bsI fs (bF (ccB (fun j => gvS L k nu s h nh d F (fs j)) (fun j => csS nu h d F (fs j)) g) m (j + 1) j), X') ∧ frX X2 X' := by
        have := x_cheap hV hfs g m (j + 1) n j X2 hX2 hP2 hW2 (by omega) (by omega) (by omega)
        rw [show bsI fs j = nI (fs j) from if_neg (by omega), show bvI (fun j => csS nu h d F (fs j)) 0 j = csS nu h d F (fs j) from if_neg (by omega)] at this
        exact this
      by_cases cb : b = 298
      · have c1 : bsI fs b = -1 := if_pos cb
        obtain ⟨X3, e3, f3⟩ := take
        refine ⟨X3, ?_, (f1.tr f2).tr f3⟩
        obtain ⟨q, hq, hqc⟩ := csS_nat nu h d F (fs j)
        have hc : ccB (fun j => gvS L k nu s h nh d F (fs j)) (fun j => csS nu h d F (fs j)) g b j = true := by
          rw [hcg, show bvI (fun j => csS nu h d F (fs j)) 100 b = 100 from if_pos cb, hqc, decide_eq_false (m100 hq)]
          rfl
        simp only [fX7_cheapestSet_L8, fX7_cheapestSet_j61, fX7_cheapestSet_j73, zokX_0, zokX_1, zokX_2, zokX_3, zokX_4, zokX_5, zokX_6, zokX_7, zokX_8, zokX_9, zokX_10, zokX_11, zokX_12, zokX_13, zokX_14, zokX_15, zokX_16, zlaX_1, zlaX_2, zlaX_3, zlaX_4, zlaX_5, zlaX_6, zlaX_8, zlaX_11, zlaX_12, zlaX_13, zlaX_15, zlaX_16, zp_1, zp_h, zp_r, zp_l, zletE, obs, spXe_0, spXe_1, spXe_2, spXe_3, spXe_4, spXe_5, spXe_6, spXe_7, spXe_8, spXe_9, spXe_10, spXe_11, spXe_12, spXe_13, spXe_14, spXe_15, spXe_16, hX.1, hX1n, hX2n, r01, r01', r01'', c, if_false, hz, hW j (by omega), hW1 j (by omega), hW2 j (by omega), e1, if_pos hg, e2, if_pos c1, nI_1]
        rw [hc, if_pos rfl]
        exact e3
      · have c1 : ¬ bsI fs b = -1 := fun q => cb ((bs_ne hfs hb).mp q)
        have hv : bvI (fun j => csS nu h d F (fs j)) 100 b = bvI (fun j => csS nu h d F (fs j)) 0 b := by unfold bvI; rw [if_neg cb, if_neg cb]
        by_cases c2 : bvI (fun j => csS nu h d F (fs j)) 0 b ≤ csS nu h d F (fs j)
        · obtain ⟨X3, e3, f3⟩ := x_cheap hV hfs g m (j + 1) n b X2 hX2 hP2 hW2 hb (by omega) (by omega)
          refine ⟨X3, ?_, (f1.tr f2).tr f3⟩
          rw [hv, decide_eq_true c2] at hcg
          simp only [fX7_cheapestSet_L8, fX7_cheapestSet_j73, zokX_0, zokX_1, zokX_2, zokX_3, zokX_4, zokX_5, zokX_6, zokX_7, zokX_8, zokX_9, zokX_10, zokX_11, zokX_12, zokX_13, zokX_14, zokX_15, zokX_16, zlaX_1, zlaX_2, zlaX_3, zlaX_4, zlaX_5, zlaX_6, zlaX_8, zlaX_11, zlaX_12, zlaX_13, zlaX_15, zlaX_16, zp_1, zp_h, zp_r, zp_l, zletE, obs, spXe_0, spXe_1, spXe_2, spXe_3, spXe_4, spXe_5, spXe_6, spXe_7, spXe_8, spXe_9, spXe_10, spXe_11, spXe_12, spXe_13, spXe_14, spXe_15, spXe_16, hX.1, hX1n, hX2n, r01, r01', c, if_false, hz, hW j (by omega), hW1 j (by omega), e1, if_pos hg, e2, if_neg c1, if_pos c2, nI_1]
          rw [hcg, if_neg (show ¬ ((!true) = true) by decide)]
          exact e3
        · obtain ⟨X3, e3, f3⟩ := take
          refine ⟨X3, ?_, (f1.tr f2).tr f3⟩
          rw [hv, decide_eq_false c2] at hcg
          simp only [fX7_cheapestSet_L8, fX7_cheapestSet_j61, fX7_cheapestSet_j73, zokX_0, zokX_1, zokX_2, zokX_3, zokX_4, zokX_5, zokX_6, zokX_7, zokX_8, zokX_9, zokX_10, zokX_11, zokX_12, zokX_13, zokX_14, zokX_15, zokX_16, zlaX_1, zlaX_2, zlaX_3, zlaX_4, zlaX_5, zlaX_6, zlaX_8, zlaX_11, zlaX_12, zlaX_13, zlaX_15, zlaX_16, zp_1, zp_h, zp_r, zp_l, zletE, obs, spXe_0, spXe_1, spXe_2, spXe_3, spXe_4, spXe_5, spXe_6, spXe_7, spXe_8, spXe_9, spXe_10, spXe_11, spXe_12, spXe_13, spXe_14, spXe_15, spXe_16, hX.1, hX1n, hX2n, r01, r01', r01'', c, if_false, hz, hW j (by omega), hW1 j (by omega), hW2 j (by omega), e1, if_pos hg, e2, if_neg c1, if_neg c2, nI_1]
          rw [hcg, if_pos (show (!false) = true by decide)]
          exact e3
    · obtain ⟨X2, e2, f2⟩ := x_cheap hV hfs g m (j + 1) n b X1 hX1 hP1 hW1 hb (by omega) (by omega)
      refine ⟨X2, ?_, f1.tr f2⟩
      have hc : ccB (fun j => gvS L k nu s h nh d F (fs j)) (fun j => csS nu h d F (fs j)) g b j = false := ccB0 (gv := fun j => gvS L k nu s h nh d F (fs j)) hg
      simp only [fX7_cheapestSet_L8, fX7_cheapestSet_j73, zokX_0, zokX_1, zokX_2, zokX_3, zokX_4, zokX_5, zokX_6, zokX_7, zokX_8, zokX_9, zokX_10, zokX_11, zokX_12, zokX_13, zokX_14, zokX_15, zokX_16, zlaX_1, zlaX_2, zlaX_3, zlaX_4, zlaX_5, zlaX_6, zlaX_8, zlaX_11, zlaX_12, zlaX_13, zlaX_15, zlaX_16, zp_1, zp_h, zp_r, zp_l, zletE, obs, spXe_0, spXe_1, spXe_2, spXe_3, spXe_4, spXe_5, spXe_6, spXe_7, spXe_8, spXe_9, spXe_10, spXe_11, spXe_12, spXe_13, spXe_14, spXe_15, spXe_16, hX.1, r01, c, if_false, hz, hW j (by omega), e1, if_neg hg, nI_1]
      rw [hc, if_neg (show ¬ (false = true) by decide)]
      exact e2
theorem m_cheap {p n0 : Nat} {L : Nat → Nat} {k nu s h nh d t : Nat} {F : Nat → (Nat → Int32) → Int32} (hV : Vok L k nu s h nh d) {fs : Nat → Nat} (hfs : ∀ j, j < 298 → 1 ≤ fs j ∧ fs j ≤ 4095) (g w : Int32) : ∀ (m j n b : Nat) (M : zS), shM M → PcM M p n0 L k nu s h nh d → RlM M t F → FwM M fs → b ≤ 298 → j + m = 298 → m < n → ∃ M', fX8_get_L38 0 n (nI p) g w (bsI fs b) (bvI (fun j => csS nu h d F (fs j)) 100 b) (nI j) M = some (if w = 0 then bsI fs (bF (ccB (fun j => gvS L k nu s h nh d F (fs j)) (fun j => csS nu h d F (fs j)) g) m j b) else if bsI fs (bF (ccB (fun j => gvS L k nu s h nh d F (fs j)) (fun j => csS nu h d F (fs j)) g) m j b) = -1 then -1 else bvI (fun j => csS nu h d F (fs j)) 100 (bF (ccB (fun j => gvS L k nu s h nh d F (fs j)) (fun j => csS nu h d F (fs j)) g) m j b), M') ∧ frM M M'
  | m, j, 0, _, _, _, _, _, _, _, _, h => by omega
  | 0, j, n + 1, b, M, hM, hP, hR, hW, hb, hj, _ => by
    have e : j = 298 := by omega
    subst e
    refine ⟨M, ?_, frM.rf M⟩
    rw [bF]
    simp only [fX8_get_L38, fX8_get_j118, if_pos (show (298 : Int32) ≤ nI 298 from by decide)]
    by_cases c : w = 0
    · rw [if_pos c, if_pos c]
    · rw [if_neg c, if_neg c]
      by_cases c2 : bsI fs b = -1
      · rw [if_pos c2, if_pos c2, c2]
      · rw [if_neg c2, if_neg c2]
  | m + 1, j, n + 1, b, M, hM, hP, hR, hW, hb, hj, hn => by
    have r12 : M.2.2.2 0 12 = some 7 := hM.r (by decide) (by decide)
    have c : ¬ (298 : Int32) ≤ nI j := nI_ge (b := 298) (a := j) (by omega) (by decide)
    have hz : zix spM 7 (nI j) = some j := zix_of rfl (by show j < 298; omega) (by decide)
    obtain ⟨M1, e1, f1⟩ := m_given hM hV hP hR (hfs j (by omega)).2
    have hM1 := f1.sh hM
    have hP1 := hP.fr f1
    have hR1 := hR.fr f1
    have hW1 := hW.fr f1
    have hM1n := hM1.1
    have r12' : M1.2.2.2 0 12 = some 7 := hM1.r (by decide) (by decide)
    rw [bF]
    by_cases hg : gvS L k nu s h nh d F (fs j) = g
    · obtain ⟨M2, e2, f2⟩ := m_cost8 hM1 hV hP1 hR1 (hfs j (by omega)).2
      have hM2 := f2.sh hM1
      have hP2 := hP1.fr f2
      have hR2 := hR1.fr f2
      have hW2 := hW1.fr f2
      have hM2n := hM2.1
      have r12'' : M2.2.2.2 0 12 = some 7 := hM2.r (by decide) (by decide)
      have hcg : ccB (fun j => gvS L k nu s h nh d F (fs j)) (fun j => csS nu h d F (fs j)) g b j = !(decide (bvI (fun j => csS nu h d F (fs j)) 100 b ≤ csS nu h d F (fs j))) := ccB1 (gv := fun j => gvS L k nu s h nh d F (fs j)) (cs := fun j => csS nu h d F (fs j)) hg
      by_cases c2 : bvI (fun j => csS nu h d F (fs j)) 100 b ≤ csS nu h d F (fs j)
      · obtain ⟨M3, e3, f3⟩ := m_cheap hV hfs g w m (j + 1) n b M2 hM2 hP2 hR2 hW2 hb (by omega) (by omega)
        refine ⟨M3, ?_, (f1.tr f2).tr f3⟩
        rw [decide_eq_true c2] at hcg
        simp only [fX8_get_L38, fX8_get_j102, zokM_0, zokM_1, zokM_2, zokM_3, zokM_4, zokM_5, zokM_6, zokM_7, zokM_8, zokM_9, zokM_10, zokM_11, zokM_12, zokM_13, zokM_14, zokM_15, zlaM_1, zlaM_2, zlaM_3, zlaM_4, zlaM_5, zlaM_6, zlaM_7, zlaM_8, zlaM_9, zlaM_10, zlaM_11, zlaM_12, zlaM_13, zlaM_14, zlaM_15, zp_1, zp_h, zp_r, zp_l, zletE, obs, spMe_0, spMe_1, spMe_2, spMe_3, spMe_4, spMe_5, spMe_6, spMe_7, spMe_8, spMe_9, spMe_10, spMe_11, spMe_12, spMe_13, spMe_14, spMe_15, hM.1, hM1n, r12, r12', if_neg c, hz, hW j (by omega), hW1 j (by omega), e1, if_pos hg, e2, if_pos c2, nI_1]
        rw [hcg, if_neg (show ¬ ((!true) = true) by decide)]
        exact e3
      · obtain ⟨M3, e3, f3⟩ := m_cost8 hM2 hV hP2 hR2 (hfs j (by omega)).2
        have hM3 := f3.sh hM2
        have hM3n := hM3.1
        have := m_cheap hV hfs g w m (j + 1) n j M3 hM3 (hP2.fr f3) (hR2.fr f3) (hW2.fr f3) (by omega) (by omega) (by omega)
        rw [show bsI fs j = nI (fs j) from if_neg (by omega), show bvI (fun j => csS nu h d F (fs j)) 100 j = csS nu h d F (fs j) from if_neg (by omega)] at this
        obtain ⟨M4, e4, f4⟩ := this
        refine ⟨M4, ?_, ((f1.tr f2).tr f3).tr f4⟩
        rw [decide_eq_false c2] at hcg
        simp only [fX8_get_L38, fX8_get_j102, zokM_0, zokM_1, zokM_2, zokM_3, zokM_4, zokM_5, zokM_6, zokM_7, zokM_8, zokM_9, zokM_10, zokM_11, zokM_12, zokM_13, zokM_14, zokM_15, zlaM_1, zlaM_2, zlaM_3, zlaM_4, zlaM_5, zlaM_6, zlaM_7, zlaM_8, zlaM_9, zlaM_10, zlaM_11, zlaM_12, zlaM_13, zlaM_14, zlaM_15, zp_1, zp_h, zp_r, zp_l, zletE, obs, spMe_0, spMe_1, spMe_2, spMe_3, spMe_4, spMe_5, spMe_6, spMe_7, spMe_8, spMe_9, spMe_10, spMe_11, spMe_12, spMe_13, spMe_14, spMe_15, hM.1, hM1n, hM2n, hM3n, r12, r12', r12'', if_neg c, hz, hW j (by omega), hW1 j (by omega), hW2 j (by omega), e1, if_pos hg, e2, if_neg c2, e3, nI_1]
        rw [hcg, if_pos (show (!false) = true by decide)]
        exact e4
    · obtain ⟨M2, e2, f2⟩ := m_cheap hV hfs g w m (j + 1) n b M1 hM1 hP1 hR1 hW1 hb (by omega) (by omega)
      refine ⟨M2, ?_, f1.tr f2⟩
      have hc : ccB (fun j => gvS L k nu s h nh d F (fs j)) (fun j => csS nu h d F (fs j)) g b j = false := ccB0 (gv := fun j => gvS L k nu s h nh d F (fs j)) hg
      simp only [fX8_get_L38, fX8_get_j102, zokM_0, zokM_1, zokM_2, zokM_3, zokM_4, zokM_5, zokM_6, zokM_7, zokM_8, zokM_9, zokM_10, zokM_11, zokM_12, zokM_13, zokM_14, zokM_15, zlaM_1, zlaM_2, zlaM_3, zlaM_4, zlaM_5, zlaM_6, zlaM_7, zlaM_8, zlaM_9, zlaM_10, zlaM_11, zlaM_12, zlaM_13, zlaM_14, zlaM_15, zp_1, zp_h, zp_r, zp_l, zletE, obs, spMe_0, spMe_1, spMe_2, spMe_3, spMe_4, spMe_5, spMe_6, spMe_7, spMe_8, spMe_9, spMe_10, spMe_11, spMe_12, spMe_13, spMe_14, spMe_15, hM.1, r12, if_neg c, hz, hW j (by omega), e1, if_neg hg, nI_1]
      rw [hc, if_neg (show ¬ (false = true) by decide)]
      exact e2
theorem t_get (a g w : Int32) : TM2 Inv (fun st => fX7_get 0 a g w st) (fun st => fX8_get 0 a g w st) := by
  intro X M h
  obtain ⟨n, hn5, hnX, hnM⟩ := many_of h.2.2.1
  have hX := h.1.1
  have hM := h.1.2
  have l1 : (1 : Int64) = (nI 1).toInt64 := by decide
  rcases one_cases n (by omega) a with ha | ⟨p, hp, rfl⟩
  · exact ⟨-2, X, M, by simp only [fX7_get, zokX_0, zokX_1, zokX_2, zokX_3, zokX_4, zokX_5, zokX_6, zokX_7, zokX_8, zokX_9, zokX_10, zokX_11, zokX_12, zokX_13, zokX_14, zokX_15, zokX_16, zlaX_1, zlaX_2, zlaX_3, zlaX_4, zlaX_5, zlaX_6, zlaX_8, zlaX_11, zlaX_12, zlaX_13, zlaX_15, zlaX_16, zp_1, zp_h, zp_r, zp_l, zletE, obs, spXe_0, spXe_1, spXe_2, spXe_3, spXe_4, spXe_5, spXe_6, spXe_7, spXe_8, spXe_9, spXe_10, spXe_11, spXe_12, spXe_13, spXe_14, spXe_15, spXe_16, hX.1, x_visit0 hX hnX ha, if_true], by simp only [fX8_get, zokM_0, zokM_1, zokM_2, zokM_3, zokM_4, zokM_5, zokM_6, zokM_7, zokM_8, zokM_9, zokM_10, zokM_11, zokM_12, zokM_13, zokM_14, zokM_15, zlaM_1, zlaM_2, zlaM_3, zlaM_4, zlaM_5, zlaM_6, zlaM_7, zlaM_8, zlaM_9, zlaM_10, zlaM_11, zlaM_12, zlaM_13, zlaM_14, zlaM_15, zp_1, zp_h, zp_r, zp_l, zletE, obs, spMe_0, spMe_1, spMe_2, spMe_3, spMe_4, spMe_5, spMe_6, spMe_7, spMe_8, spMe_9, spMe_10, spMe_11, spMe_12, spMe_13, spMe_14, spMe_15, hM.1, m_one0 hM hnM hn5 ha, if_true], h⟩
  · obtain ⟨k, nu, s, hd, nh, d, t, sp, F, hV, hd9, hsp, hPM, hRM, hq, X1, e1, f1, hPX, h77, hac⟩ := view_of h hn5 hnX hnM hp
    have hX1 := f1.sh hX
    have hX1n := hX1.1
    have one := m_one1 hM hnM hn5 hp
    rcases one_cases 12 (by decide) g with hg | ⟨g, hg, rfl⟩
    · exact ⟨-2, X1, M, by simp only [fX7_get, zokX_0, zokX_1, zokX_2, zokX_3, zokX_4, zokX_5, zokX_6, zokX_7, zokX_8, zokX_9, zokX_10, zokX_11, zokX_12, zokX_13, zokX_14, zokX_15, zokX_16, zlaX_1, zlaX_2, zlaX_3, zlaX_4, zlaX_5, zlaX_6, zlaX_8, zlaX_11, zlaX_12, zlaX_13, zlaX_15, zlaX_16, zp_1, zp_h, zp_r, zp_l, zletE, obs, spXe_0, spXe_1, spXe_2, spXe_3, spXe_4, spXe_5, spXe_6, spXe_7, spXe_8, spXe_9, spXe_10, spXe_11, spXe_12, spXe_13, spXe_14, spXe_15, spXe_16, hX.1, e1, if_neg s7, x_thing0 X1 hg, if_true], by simp only [fX8_get, zokM_0, zokM_1, zokM_2, zokM_3, zokM_4, zokM_5, zokM_6, zokM_7, zokM_8, zokM_9, zokM_10, zokM_11, zokM_12, zokM_13, zokM_14, zokM_15, zlaM_1, zlaM_2, zlaM_3, zlaM_4, zlaM_5, zlaM_6, zlaM_7, zlaM_8, zlaM_9, zlaM_10, zlaM_11, zlaM_12, zlaM_13, zlaM_14, zlaM_15, zp_1, zp_h, zp_r, zp_l, zletE, obs, spMe_0, spMe_1, spMe_2, spMe_3, spMe_4, spMe_5, spMe_6, spMe_7, spMe_8, spMe_9, spMe_10, spMe_11, spMe_12, spMe_13, spMe_14, spMe_15, hM.1, one, if_neg n10, m_thing0 M hg, if_true], h.keep f1 (frN.rf M)⟩
    · have xt := x_thing1 X1 hg
      have mt := m_thing1 M hg
      rcases one_cases 2 (by decide) w with hw | ⟨j, hj, rfl⟩
      · refine ⟨-2, X1, M, ?_, by simp only [fX8_get, zokM_0, zokM_1, zokM_2, zokM_3, zokM_4, zokM_5, zokM_6, zokM_7, zokM_8, zokM_9, zokM_10, zokM_11, zokM_12, zokM_13, zokM_14, zokM_15, zlaM_1, zlaM_2, zlaM_3, zlaM_4, zlaM_5, zlaM_6, zlaM_7, zlaM_8, zlaM_9, zlaM_10, zlaM_11, zlaM_12, zlaM_13, zlaM_14, zlaM_15, zp_1, zp_h, zp_r, zp_l, zletE, obs, spMe_0, spMe_1, spMe_2, spMe_3, spMe_4, spMe_5, spMe_6, spMe_7, spMe_8, spMe_9, spMe_10, spMe_11, spMe_12, spMe_13, spMe_14, spMe_15, hM.1, one, mt, if_neg n10, m_in0 1 (by decide) l1 hw, if_true], h.keep f1 (frN.rf M)⟩
        by_cases c0 : w < 0
        · simp only [fX7_get, zokX_0, zokX_1, zokX_2, zokX_3, zokX_4, zokX_5, zokX_6, zokX_7, zokX_8, zokX_9, zokX_10, zokX_11, zokX_12, zokX_13, zokX_14, zokX_15, zokX_16, zlaX_1, zlaX_2, zlaX_3, zlaX_4, zlaX_5, zlaX_6, zlaX_8, zlaX_11, zlaX_12, zlaX_13, zlaX_15, zlaX_16, zp_1, zp_h, zp_r, zp_l, zletE, obs, spXe_0, spXe_1, spXe_2, spXe_3, spXe_4, spXe_5, spXe_6, spXe_7, spXe_8, spXe_9, spXe_10, spXe_11, spXe_12, spXe_13, spXe_14, spXe_15, spXe_16, hX.1, e1, if_neg s7, xt, if_neg n10, if_pos c0]
        · have c1 : ¬ w ≤ 1 := Int32.not_le.mpr (Int32.lt_of_lt_of_le (nI_lt (a := 1) (b := 2) (by decide) (by decide)) (hw.resolve_left c0))
          simp only [fX7_get, zokX_0, zokX_1, zokX_2, zokX_3, zokX_4, zokX_5, zokX_6, zokX_7, zokX_8, zokX_9, zokX_10, zokX_11, zokX_12, zokX_13, zokX_14, zokX_15, zokX_16, zlaX_1, zlaX_2, zlaX_3, zlaX_4, zlaX_5, zlaX_6, zlaX_8, zlaX_11, zlaX_12, zlaX_13, zlaX_15, zlaX_16, zp_1, zp_h, zp_r, zp_l, zletE, obs, spXe_0, spXe_1, spXe_2, spXe_3, spXe_4, spXe_5, spXe_6, spXe_7, spXe_8, spXe_9, spXe_10, spXe_11, spXe_12, spXe_13, spXe_14, spXe_15, spXe_16, hX.1, e1, if_neg s7, xt, if_neg n10, if_neg c0, if_neg c1]
      · have c0 : ¬ nI j < 0 := nI_pos (by omega)
        have c1 : nI j ≤ (1 : Int32) := nI_le (b := 1) (by omega) (by decide)
        have hin := m_in1 1 (by decide) l1 hj M
        obtain ⟨fx, fm, fl⟩ := fw_of h.2.2.2.2.2.1
        obtain ⟨X2, eX, f2⟩ := x_cheap hV fl (nI g) 298 0 zF 298 X1 hX1 hPX (fx.c f1) (by omega) rfl (by decide)
        obtain ⟨M2, eM, g2⟩ := m_cheap hV fl (nI g) (nI j) 298 0 zF 298 M hM hPM hRM fm (by omega) rfl (by decide)
        generalize hB : bF (ccB (fun j => gvS (lkN M) k nu s hd nh d F (fsN M j)) (fun j => csS nu hd d F (fsN M j)) (nI g)) 298 0 298 = B at eX eM
        have hB1 : B ≤ 298 := by rw [← hB]; exact bF_le 298 0 298 rfl (by omega)
        have eX' : fX7_cheapestSet_L8 0 zF (some 7) (nI g) (-1) 0 0 X1 = some (bsI (fsN M) B, X2) := eX
        have eM' : fX8_get_L38 0 zF (nI p) (nI g) (nI j) (-1) 100 0 M = _ := eM
        rcases (show j = 0 ∨ j = 1 by omega) with rfl | rfl
        · exact ⟨bsI (fsN M) B, X2, M2, by simp only [fX7_get, fX7_get_j50, fX7_cheapestSet, zokX_0, zokX_1, zokX_2, zokX_3, zokX_4, zokX_5, zokX_6, zokX_7, zokX_8, zokX_9, zokX_10, zokX_11, zokX_12, zokX_13, zokX_14, zokX_15, zokX_16, zlaX_1, zlaX_2, zlaX_3, zlaX_4, zlaX_5, zlaX_6, zlaX_8, zlaX_11, zlaX_12, zlaX_13, zlaX_15, zlaX_16, zp_1, zp_h, zp_r, zp_l, zletE, obs, spXe_0, spXe_1, spXe_2, spXe_3, spXe_4, spXe_5, spXe_6, spXe_7, spXe_8, spXe_9, spXe_10, spXe_11, spXe_12, spXe_13, spXe_14, spXe_15, spXe_16, hX.1, hX1n, e1, if_neg s7, xt, if_neg n10, if_neg c0, if_pos c1, eX', if_pos (show nI 0 = (0 : Int32) from rfl)], by simp only [fX8_get, zokM_0, zokM_1, zokM_2, zokM_3, zokM_4, zokM_5, zokM_6, zokM_7, zokM_8, zokM_9, zokM_10, zokM_11, zokM_12, zokM_13, zokM_14, zokM_15, zlaM_1, zlaM_2, zlaM_3, zlaM_4, zlaM_5, zlaM_6, zlaM_7, zlaM_8, zlaM_9, zlaM_10, zlaM_11, zlaM_12, zlaM_13, zlaM_14, zlaM_15, zp_1, zp_h, zp_r, zp_l, zletE, obs, spMe_0, spMe_1, spMe_2, spMe_3, spMe_4, spMe_5, spMe_6, spMe_7, spMe_8, spMe_9, spMe_10, spMe_11, spMe_12, spMe_13, spMe_14, spMe_15, hM.1, one, mt, if_neg n10, hin, eM', if_pos (show nI 0 = (0 : Int32) from rfl)], h.keep (f1.tr f2.a.c) g2.n⟩
        · have z1 : ¬ nI 1 = (0 : Int32) := by decide
          by_cases cB : B = 298
          · have q1 : bsI (fsN M) B = -1 := if_pos cB
            exact ⟨-1, X2, M2, by simp only [fX7_get, fX7_get_j50, fX7_cheapestSet, zokX_0, zokX_1, zokX_2, zokX_3, zokX_4, zokX_5, zokX_6, zokX_7, zokX_8, zokX_9, zokX_10, zokX_11, zokX_12, zokX_13, zokX_14, zokX_15, zokX_16, zlaX_1, zlaX_2, zlaX_3, zlaX_4, zlaX_5, zlaX_6, zlaX_8, zlaX_11, zlaX_12, zlaX_13, zlaX_15, zlaX_16, zp_1, zp_h, zp_r, zp_l, zletE, obs, spXe_0, spXe_1, spXe_2, spXe_3, spXe_4, spXe_5, spXe_6, spXe_7, spXe_8, spXe_9, spXe_10, spXe_11, spXe_12, spXe_13, spXe_14, spXe_15, spXe_16, hX.1, hX1n, e1, if_neg s7, xt, if_neg n10, if_neg c0, if_pos c1, eX', if_neg z1, q1, if_true], by simp only [fX8_get, zokM_0, zokM_1, zokM_2, zokM_3, zokM_4, zokM_5, zokM_6, zokM_7, zokM_8, zokM_9, zokM_10, zokM_11, zokM_12, zokM_13, zokM_14, zokM_15, zlaM_1, zlaM_2, zlaM_3, zlaM_4, zlaM_5, zlaM_6, zlaM_7, zlaM_8, zlaM_9, zlaM_10, zlaM_11, zlaM_12, zlaM_13, zlaM_14, zlaM_15, zp_1, zp_h, zp_r, zp_l, zletE, obs, spMe_0, spMe_1, spMe_2, spMe_3, spMe_4, spMe_5, spMe_6, spMe_7, spMe_8, spMe_9, spMe_10, spMe_11, spMe_12, spMe_13, spMe_14, spMe_15, hM.1, one, mt, if_neg n10, hin, eM', if_neg z1, if_pos q1], h.keep (f1.tr f2.a.c) g2.n⟩
          · have hBl : B < 298 := by omega
            have q1 : bsI (fsN M) B = nI (fsN M B) := if_neg cB
            have q2 : ¬ nI (fsN M B) = -1 := by rw [← q1]; exact fun q => cB ((bs_ne fl hB1).mp q)
            have hX2 := f2.sh hX1
            have hX2n := hX2.1
            obtain ⟨X3, e3, f3⟩ := x_cost7 hX2 hV (hPX.fr f2) (fl B hBl).2
            rw [q1] at eX' eM'
            exact ⟨csS nu hd d F (fsN M B), X3, M2, by simp only [fX7_get, fX7_get_j50, fX7_cheapestSet, zokX_0, zokX_1, zokX_2, zokX_3, zokX_4, zokX_5, zokX_6, zokX_7, zokX_8, zokX_9, zokX_10, zokX_11, zokX_12, zokX_13, zokX_14, zokX_15, zokX_16, zlaX_1, zlaX_2, zlaX_3, zlaX_4, zlaX_5, zlaX_6, zlaX_8, zlaX_11, zlaX_12, zlaX_13, zlaX_15, zlaX_16, zp_1, zp_h, zp_r, zp_l, zletE, obs, spXe_0, spXe_1, spXe_2, spXe_3, spXe_4, spXe_5, spXe_6, spXe_7, spXe_8, spXe_9, spXe_10, spXe_11, spXe_12, spXe_13, spXe_14, spXe_15, spXe_16, hX.1, hX1n, hX2n, e1, if_neg s7, xt, if_neg n10, if_neg c0, if_pos c1, eX', if_neg z1, if_neg q2, e3], by simp only [fX8_get, zokM_0, zokM_1, zokM_2, zokM_3, zokM_4, zokM_5, zokM_6, zokM_7, zokM_8, zokM_9, zokM_10, zokM_11, zokM_12, zokM_13, zokM_14, zokM_15, zlaM_1, zlaM_2, zlaM_3, zlaM_4, zlaM_5, zlaM_6, zlaM_7, zlaM_8, zlaM_9, zlaM_10, zlaM_11, zlaM_12, zlaM_13, zlaM_14, zlaM_15, zp_1, zp_h, zp_r, zp_l, zletE, obs, spMe_0, spMe_1, spMe_2, spMe_3, spMe_4, spMe_5, spMe_6, spMe_7, spMe_8, spMe_9, spMe_10, spMe_11, spMe_12, spMe_13, spMe_14, spMe_15, hM.1, one, mt, if_neg n10, hin, eM', if_neg z1, if_neg q2, show bvI (fun j => csS nu hd d F (fsN M j)) 100 B = csS nu hd d F (fsN M B) from if_neg cB], h.keep ((f1.tr f2.a.c).tr f3.a.c) g2.n⟩
/-- LEAVE: b is the best set so far, 0: none -/
def lvB (op : Nat → Nat) (g : Nat) (b st : Nat) : Bool := !(decide ((if b = 0 then 13 else pc b) ≤ pc st)) && decide (op st = 2 ^ g)
def lbI (b : Nat) : Int32 := if b = 0 then -1 else nI b
def lfI (b : Nat) : Int32 := nI (if b = 0 then 13 else pc b)
theorem lf_le {b st : Nat} (hb : b ≤ 4095) : (lfI b ≤ nI (pc st)) ↔ (if b = 0 then 13 else pc b) ≤ pc st := by
  unfold lfI
  have h1 := pc_le b
  have h2 := pc_le st
  exact nI_leI (by split <;> omega) (by omega)
theorem bF_le2 {c : Nat → Nat → Bool} : ∀ (m j b : Nat), j + m = 4096 → b ≤ 4095 → bF c m j b ≤ 4095
  | 0, _, _, _, h => h
  | m + 1, j, b, h1, h => by
    rw [bF]
    refine bF_le2 m (j + 1) _ (by omega) ?_
    split <;> omega
theorem x_fewest {X : zS} (hX : shX X) {L : Nat → Nat} {k nu s h nh d t : Nat} {F : Nat → (Nat → Int32) → Int32} (hV : Vok L k nu s h nh d) (hP : PcX X L k nu s h nh d t F) {g : Nat} (hg : g < 12) : ∀ (m j n b : Nat), b ≤ 4095 → 1 ≤ j → j + m = 4096 → m < n → fX7_fewestLeaving_L8 n (some 7) (nI g) (lbI b) (lfI b) (nI j) X = some (lbI (bF (lvB (opN L k s h nh) g) m j b), X)
  | m, j, 0, _, _, _, _, h => by omega
  | 0, j, n + 1, b, _, _, hj, _ => by
    have e : j = 4096 := by omega
    subst e
    simp only [fX7_fewestLeaving_L8, if_pos (show (4095 : Int32) < nI 4096 by decide)]
    rfl
  | m + 1, j, n + 1, b, hb, h1, hj, hn => by
    have hj2 : j ≤ 4095 := by omega
    have c : ¬ (4095 : Int32) < nI j := nI_nlt (a := 4095) hj2 (by decide)
    have eo := x_open hX hV hP.1 hP.2.1 hP.2.2.2.1 hP.2.2.2.2.1 hP.2.2.2.2.2.1 hj2
    have hsh := n_shl1 (show g < 31 by omega)
    have hpj := pc_le j
    rw [bF]
    by_cases c1 : (if b = 0 then 13 else pc b) ≤ pc j
    · have c1' := (lf_le hb).mpr c1
      have hl : lvB (opN L k s h nh) g b j = false := by unfold lvB; rw [decide_eq_true c1]; rfl
      simp only [fX7_fewestLeaving_L8, fX7_fewestLeaving_j42, fX7_fewestLeaving_j43, fX7_fewestLeaving_j68, if_neg c, x_bits hj2, obs, zletE, if_pos c1', if_true, nI_1]
      rw [hl, if_neg (show ¬ (false = true) by decide)]
      exact x_fewest hX hV hP hg m (j + 1) n b hb (by omega) (by omega) (by omega)
    · have c1' : ¬ lfI b ≤ nI (pc j) := fun q => c1 ((lf_le hb).mp q)
      have hl : lvB (opN L k s h nh) g b j = decide (opN L k s h nh j = 2 ^ g) := by unfold lvB; rw [decide_eq_false c1]; rfl
      have ole := opN_le L k s h nh j
      have p2 := p2_le hg
      cases hb2 : j.testBit g with
      | true =>
        have cb : ¬ ((nI j >>> (nI g &&& 31)) &&& (1 : Int32) = 0) := fun q => by rw [n_bit0 hj2 (show g < 31 by omega), hb2] at q; cases q
        have hne : ¬ opN L k s h nh j = 2 ^ g := fun q => by have := ops_p2 q; rw [hb2] at this; cases this
        simp only [fX7_fewestLeaving_L8, fX7_fewestLeaving_j42, fX7_fewestLeaving_j43, fX7_fewestLeaving_j68, if_neg c, x_bits hj2, obs, zletE, if_neg c1', if_neg cb, if_true, nI_1]
        rw [hl, decide_eq_false hne, if_neg (show ¬ (false = true) by decide)]
        exact x_fewest hX hV hP hg m (j + 1) n b hb (by omega) (by omega) (by omega)
      | false =>
        have cb := (n_bit0 hj2 (show g < 31 by omega)).mpr hb2
        by_cases c2 : opN L k s h nh j = 2 ^ g
        · have c2' : nI (opN L k s h nh j) = nI (2 ^ g) := by rw [c2]
          simp only [fX7_fewestLeaving_L8, fX7_fewestLeaving_j43, fX7_fewestLeaving_j68, zokX_0, zokX_1, zokX_2, zokX_3, zokX_4, zokX_5, zokX_6, zokX_7, zokX_8, zokX_9, zokX_10, zokX_11, zokX_12, zokX_13, zokX_14, zokX_15, zokX_16, zlaX_1, zlaX_2, zlaX_3, zlaX_4, zlaX_5, zlaX_6, zlaX_8, zlaX_11, zlaX_12, zlaX_13, zlaX_15, zlaX_16, zp_1, zp_h, zp_r, zp_l, zletE, obs, spXe_0, spXe_1, spXe_2, spXe_3, spXe_4, spXe_5, spXe_6, spXe_7, spXe_8, spXe_9, spXe_10, spXe_11, spXe_12, spXe_13, spXe_14, spXe_15, spXe_16, hX.1, if_neg c, x_bits hj2, if_neg c1', if_pos cb, if_neg n10, eo, hsh, if_pos c2', nI_1]
          rw [hl, decide_eq_true c2, if_pos rfl]
          have := x_fewest hX hV hP hg m (j + 1) n j hj2 (by omega) (by omega) (by omega)
          rw [show lbI j = nI j from if_neg (by omega), show lfI j = nI (pc j) from by unfold lfI; rw [if_neg (by omega)]] at this
          exact this
        · have c2' : ¬ nI (opN L k s h nh j) = nI (2 ^ g) := kne (by omega) (by omega) c2
          simp only [fX7_fewestLeaving_L8, fX7_fewestLeaving_j43, fX7_fewestLeaving_j68, zokX_0, zokX_1, zokX_2, zokX_3, zokX_4, zokX_5, zokX_6, zokX_7, zokX_8, zokX_9, zokX_10, zokX_11, zokX_12, zokX_13, zokX_14, zokX_15, zokX_16, zlaX_1, zlaX_2, zlaX_3, zlaX_4, zlaX_5, zlaX_6, zlaX_8, zlaX_11, zlaX_12, zlaX_13, zlaX_15, zlaX_16, zp_1, zp_h, zp_r, zp_l, zletE, obs, spXe_0, spXe_1, spXe_2, spXe_3, spXe_4, spXe_5, spXe_6, spXe_7, spXe_8, spXe_9, spXe_10, spXe_11, spXe_12, spXe_13, spXe_14, spXe_15, spXe_16, hX.1, if_neg c, x_bits hj2, if_neg c1', if_pos cb, if_neg n10, eo, hsh, if_neg c2', nI_1]
          rw [hl, decide_eq_false c2, if_neg (show ¬ (false = true) by decide)]
          exact x_fewest hX hV hP hg m (j + 1) n b hb (by omega) (by omega) (by omega)
theorem m_fewest {M : zS} (hM : shM M) {p n0 : Nat} {L : Nat → Nat} {k nu s h nh d : Nat} (hV : Vok L k nu s h nh d) (hP : PcM M p n0 L k nu s h nh d) {g : Nat} (hg : g < 12) (w : Int32) : ∀ (m j n b : Nat), b ≤ 4095 → 1 ≤ j → j + m = 4096 → m < n → fX8_leave_L38 0 n (nI p) (nI g) w (lbI b) (lfI b) (nI j) M = some (if w = 0 then lbI (bF (lvB (opN L k s h nh) g) m j b) else if lbI (bF (lvB (opN L k s h nh) g) m j b) = -1 then -1 else lfI (bF (lvB (opN L k s h nh) g) m j b), M)
  | m, j, 0, _, _, _, _, h => by omega
  | 0, j, n + 1, b, _, _, hj, _ => by
    have e : j = 4096 := by omega
    subst e
    rw [bF]
    simp only [fX8_leave_L38, fX8_leave_j96, if_pos (show (4095 : Int32) < nI 4096 by decide)]
    by_cases c : w = 0
    · rw [if_pos c, if_pos c]
    · rw [if_neg c, if_neg c]
      by_cases c2 : lbI b = -1
      · rw [if_pos c2, if_pos c2, c2]
      · rw [if_neg c2, if_neg c2]
  | m + 1, j, n + 1, b, hb, h1, hj, hn => by
    have hj2 : j ≤ 4095 := by omega
    have c : ¬ (4095 : Int32) < nI j := nI_nlt (a := 4095) hj2 (by decide)
    have eo := m_open hM hV hP hj2
    have hsh := n_shl1 (show g < 31 by omega)
    have hpj := pc_le j
    rw [bF]
    by_cases c1 : (if b = 0 then 13 else pc b) ≤ pc j
    · have c1' := (lf_le hb).mpr c1
      have hl : lvB (opN L k s h nh) g b j = false := by unfold lvB; rw [decide_eq_true c1]; rfl
      simp only [fX8_leave_L38, fX8_leave_j80, if_neg c, m_bits hj2, obs, zletE, if_pos c1', nI_1]
      rw [hl, if_neg (show ¬ (false = true) by decide)]
      exact m_fewest hM hV hP hg w m (j + 1) n b hb (by omega) (by omega) (by omega)
    · have c1' : ¬ lfI b ≤ nI (pc j) := fun q => c1 ((lf_le hb).mp q)
      have hl : lvB (opN L k s h nh) g b j = decide (opN L k s h nh j = 2 ^ g) := by unfold lvB; rw [decide_eq_false c1]; rfl
      have ole := opN_le L k s h nh j
      have p2 := p2_le hg
      by_cases c2 : opN L k s h nh j = 2 ^ g
      · have c2' : nI (opN L k s h nh j) = nI (2 ^ g) := by rw [c2]
        simp only [fX8_leave_L38, fX8_leave_j80, zokM_0, zokM_1, zokM_2, zokM_3, zokM_4, zokM_5, zokM_6, zokM_7, zokM_8, zokM_9, zokM_10, zokM_11, zokM_12, zokM_13, zokM_14, zokM_15, zlaM_1, zlaM_2, zlaM_3, zlaM_4, zlaM_5, zlaM_6, zlaM_7, zlaM_8, zlaM_9, zlaM_10, zlaM_11, zlaM_12, zlaM_13, zlaM_14, zlaM_15, zp_1, zp_h, zp_r, zp_l, zletE, obs, spMe_0, spMe_1, spMe_2, spMe_3, spMe_4, spMe_5, spMe_6, spMe_7, spMe_8, spMe_9, spMe_10, spMe_11, spMe_12, spMe_13, spMe_14, spMe_15, hM.1, if_neg c, m_bits hj2, if_neg c1', eo, hsh, if_pos c2', nI_1]
        rw [hl, decide_eq_true c2, if_pos (show true = true from rfl)]
        have := m_fewest hM hV hP hg w m (j + 1) n j hj2 (by omega) (by omega) (by omega)
        rw [show lbI j = nI j from if_neg (by omega), show lfI j = nI (pc j) from by unfold lfI; rw [if_neg (by omega)]] at this
        exact this
      · have c2' : ¬ nI (opN L k s h nh j) = nI (2 ^ g) := kne (by omega) (by omega) c2
        simp only [fX8_leave_L38, fX8_leave_j80, zokM_0, zokM_1, zokM_2, zokM_3, zokM_4, zokM_5, zokM_6, zokM_7, zokM_8, zokM_9, zokM_10, zokM_11, zokM_12, zokM_13, zokM_14, zokM_15, zlaM_1, zlaM_2, zlaM_3, zlaM_4, zlaM_5, zlaM_6, zlaM_7, zlaM_8, zlaM_9, zlaM_10, zlaM_11, zlaM_12, zlaM_13, zlaM_14, zlaM_15, zp_1, zp_h, zp_r, zp_l, zletE, obs, spMe_0, spMe_1, spMe_2, spMe_3, spMe_4, spMe_5, spMe_6, spMe_7, spMe_8, spMe_9, spMe_10, spMe_11, spMe_12, spMe_13, spMe_14, spMe_15, hM.1, if_neg c, m_bits hj2, if_neg c1', eo, hsh, if_neg c2', nI_1]
        rw [hl, decide_eq_false c2, if_neg (show ¬ (false = true) by decide)]
        exact m_fewest hM hV hP hg w m (j + 1) n b hb (by omega) (by omega) (by omega)
theorem t_leave (a g w : Int32) : TM2 Inv (fun st => fX7_leave 0 a g w st) (fun st => fX8_leave 0 a g w st) := by
  intro X M h
  obtain ⟨n, hn5, hnX, hnM⟩ := many_of h.2.2.1
  have hX := h.1.1
  have hM := h.1.2
  have l1 : (1 : Int64) = (nI 1).toInt64 := by decide
  rcases one_cases n (by omega) a with ha | ⟨p, hp, rfl⟩
  · exact ⟨-2, X, M, by simp only [fX7_leave, zokX_0, zokX_1, zokX_2, zokX_3, zokX_4, zokX_5, zokX_6, zokX_7, zokX_8, zokX_9, zokX_10, zokX_11, zokX_12, zokX_13, zokX_14, zokX_15, zokX_16, zlaX_1, zlaX_2, zlaX_3, zlaX_4, zlaX_5, zlaX_6, zlaX_8, zlaX_11, zlaX_12, zlaX_13, zlaX_15, zlaX_16, zp_1, zp_h, zp_r, zp_l, zletE, obs, spXe_0, spXe_1, spXe_2, spXe_3, spXe_4, spXe_5, spXe_6, spXe_7, spXe_8, spXe_9, spXe_10, spXe_11, spXe_12, spXe_13, spXe_14, spXe_15, spXe_16, hX.1, x_visit0 hX hnX ha, if_true], by simp only [fX8_leave, zokM_0, zokM_1, zokM_2, zokM_3, zokM_4, zokM_5, zokM_6, zokM_7, zokM_8, zokM_9, zokM_10, zokM_11, zokM_12, zokM_13, zokM_14, zokM_15, zlaM_1, zlaM_2, zlaM_3, zlaM_4, zlaM_5, zlaM_6, zlaM_7, zlaM_8, zlaM_9, zlaM_10, zlaM_11, zlaM_12, zlaM_13, zlaM_14, zlaM_15, zp_1, zp_h, zp_r, zp_l, zletE, obs, spMe_0, spMe_1, spMe_2, spMe_3, spMe_4, spMe_5, spMe_6, spMe_7, spMe_8, spMe_9, spMe_10, spMe_11, spMe_12, spMe_13, spMe_14, spMe_15, hM.1, m_one0 hM hnM hn5 ha, if_true], h⟩
  · obtain ⟨k, nu, s, hd, nh, d, t, sp, F, hV, hd9, hsp, hPM, hRM, hq, X1, e1, f1, hPX, h77, hac⟩ := view_of h hn5 hnX hnM hp
    have hX1 := f1.sh hX
    have hX1n := hX1.1
    have one := m_one1 hM hnM hn5 hp
    rcases one_cases 12 (by decide) g with hg | ⟨g, hg, rfl⟩
    · exact ⟨-2, X1, M, by simp only [fX7_leave, zokX_0, zokX_1, zokX_2, zokX_3, zokX_4, zokX_5, zokX_6, zokX_7, zokX_8, zokX_9, zokX_10, zokX_11, zokX_12, zokX_13, zokX_14, zokX_15, zokX_16, zlaX_1, zlaX_2, zlaX_3, zlaX_4, zlaX_5, zlaX_6, zlaX_8, zlaX_11, zlaX_12, zlaX_13, zlaX_15, zlaX_16, zp_1, zp_h, zp_r, zp_l, zletE, obs, spXe_0, spXe_1, spXe_2, spXe_3, spXe_4, spXe_5, spXe_6, spXe_7, spXe_8, spXe_9, spXe_10, spXe_11, spXe_12, spXe_13, spXe_14, spXe_15, spXe_16, hX.1, e1, if_neg s7, x_thing0 X1 hg, if_true], by simp only [fX8_leave, zokM_0, zokM_1, zokM_2, zokM_3, zokM_4, zokM_5, zokM_6, zokM_7, zokM_8, zokM_9, zokM_10, zokM_11, zokM_12, zokM_13, zokM_14, zokM_15, zlaM_1, zlaM_2, zlaM_3, zlaM_4, zlaM_5, zlaM_6, zlaM_7, zlaM_8, zlaM_9, zlaM_10, zlaM_11, zlaM_12, zlaM_13, zlaM_14, zlaM_15, zp_1, zp_h, zp_r, zp_l, zletE, obs, spMe_0, spMe_1, spMe_2, spMe_3, spMe_4, spMe_5, spMe_6, spMe_7, spMe_8, spMe_9, spMe_10, spMe_11, spMe_12, spMe_13, spMe_14, spMe_15, hM.1, one, if_neg n10, m_thing0 M hg, if_true], h.keep f1 (frN.rf M)⟩
    · have xt := x_thing1 X1 hg
      have mt := m_thing1 M hg
      rcases one_cases 2 (by decide) w with hw | ⟨j, hj, rfl⟩
      · refine ⟨-2, X1, M, ?_, by simp only [fX8_leave, zokM_0, zokM_1, zokM_2, zokM_3, zokM_4, zokM_5, zokM_6, zokM_7, zokM_8, zokM_9, zokM_10, zokM_11, zokM_12, zokM_13, zokM_14, zokM_15, zlaM_1, zlaM_2, zlaM_3, zlaM_4, zlaM_5, zlaM_6, zlaM_7, zlaM_8, zlaM_9, zlaM_10, zlaM_11, zlaM_12, zlaM_13, zlaM_14, zlaM_15, zp_1, zp_h, zp_r, zp_l, zletE, obs, spMe_0, spMe_1, spMe_2, spMe_3, spMe_4, spMe_5, spMe_6, spMe_7, spMe_8, spMe_9, spMe_10, spMe_11, spMe_12, spMe_13, spMe_14, spMe_15, hM.1, one, mt, if_neg n10, m_in0 1 (by decide) l1 hw, if_true], h.keep f1 (frN.rf M)⟩
        by_cases c0 : w < 0
        · simp only [fX7_leave, zokX_0, zokX_1, zokX_2, zokX_3, zokX_4, zokX_5, zokX_6, zokX_7, zokX_8, zokX_9, zokX_10, zokX_11, zokX_12, zokX_13, zokX_14, zokX_15, zokX_16, zlaX_1, zlaX_2, zlaX_3, zlaX_4, zlaX_5, zlaX_6, zlaX_8, zlaX_11, zlaX_12, zlaX_13, zlaX_15, zlaX_16, zp_1, zp_h, zp_r, zp_l, zletE, obs, spXe_0, spXe_1, spXe_2, spXe_3, spXe_4, spXe_5, spXe_6, spXe_7, spXe_8, spXe_9, spXe_10, spXe_11, spXe_12, spXe_13, spXe_14, spXe_15, spXe_16, hX.1, e1, if_neg s7, xt, if_neg n10, if_pos c0]
        · have c1 : ¬ w ≤ 1 := Int32.not_le.mpr (Int32.lt_of_lt_of_le (nI_lt (a := 1) (b := 2) (by decide) (by decide)) (hw.resolve_left c0))
          simp only [fX7_leave, zokX_0, zokX_1, zokX_2, zokX_3, zokX_4, zokX_5, zokX_6, zokX_7, zokX_8, zokX_9, zokX_10, zokX_11, zokX_12, zokX_13, zokX_14, zokX_15, zokX_16, zlaX_1, zlaX_2, zlaX_3, zlaX_4, zlaX_5, zlaX_6, zlaX_8, zlaX_11, zlaX_12, zlaX_13, zlaX_15, zlaX_16, zp_1, zp_h, zp_r, zp_l, zletE, obs, spXe_0, spXe_1, spXe_2, spXe_3, spXe_4, spXe_5, spXe_6, spXe_7, spXe_8, spXe_9, spXe_10, spXe_11, spXe_12, spXe_13, spXe_14, spXe_15, spXe_16, hX.1, e1, if_neg s7, xt, if_neg n10, if_neg c0, if_neg c1]
      · have c0 : ¬ nI j < 0 := nI_pos (by omega)
        have c1 : nI j ≤ (1 : Int32) := nI_le (b := 1) (by omega) (by decide)
        have hin := m_in1 1 (by decide) l1 hj M
        have eX := x_fewest hX1 hV hPX hg 4095 1 zF 0 (by omega) (by omega) rfl (by decide)
        have eM := m_fewest hM hV hPM hg (nI j) 4095 1 zF 0 (by omega) (by omega) rfl (by decide)
        generalize hB : bF (lvB (opN (lkN M) k s hd nh) g) 4095 1 0 = B at eX eM
        have hB1 : B ≤ 4095 := by rw [← hB]; exact bF_le2 4095 1 0 rfl (by omega)
        have eX' : fX7_fewestLeaving_L8 zF (some 7) (nI g) (-1) 13 1 X1 = some (lbI B, X1) := eX
        have eM' : fX8_leave_L38 0 zF (nI p) (nI g) (nI j) (-1) 13 1 M = _ := eM
        rcases (show j = 0 ∨ j = 1 by omega) with rfl | rfl
        · exact ⟨lbI B, X1, M, by simp only [fX7_leave, fX7_leave_j49, fX7_fewestLeaving, zokX_0, zokX_1, zokX_2, zokX_3, zokX_4, zokX_5, zokX_6, zokX_7, zokX_8, zokX_9, zokX_10, zokX_11, zokX_12, zokX_13, zokX_14, zokX_15, zokX_16, zlaX_1, zlaX_2, zlaX_3, zlaX_4, zlaX_5, zlaX_6, zlaX_8, zlaX_11, zlaX_12, zlaX_13, zlaX_15, zlaX_16, zp_1, zp_h, zp_r, zp_l, zletE, obs, spXe_0, spXe_1, spXe_2, spXe_3, spXe_4, spXe_5, spXe_6, spXe_7, spXe_8, spXe_9, spXe_10, spXe_11, spXe_12, spXe_13, spXe_14, spXe_15, spXe_16, hX.1, e1, if_neg s7, xt, if_neg n10, if_neg c0, if_pos c1, eX', if_pos (show nI 0 = (0 : Int32) from rfl)], by simp only [fX8_leave, zokM_0, zokM_1, zokM_2, zokM_3, zokM_4, zokM_5, zokM_6, zokM_7, zokM_8, zokM_9, zokM_10, zokM_11, zokM_12, zokM_13, zokM_14, zokM_15, zlaM_1, zlaM_2, zlaM_3, zlaM_4, zlaM_5, zlaM_6, zlaM_7, zlaM_8, zlaM_9, zlaM_10, zlaM_11, zlaM_12, zlaM_13, zlaM_14, zlaM_15, zp_1, zp_h, zp_r, zp_l, zletE, obs, spMe_0, spMe_1, spMe_2, spMe_3, spMe_4, spMe_5, spMe_6, spMe_7, spMe_8, spMe_9, spMe_10, spMe_11, spMe_12, spMe_13, spMe_14, spMe_15, hM.1, one, mt, if_neg n10, hin, eM', if_pos (show nI 0 = (0 : Int32) from rfl)], h.keep f1 (frN.rf M)⟩
        · have z1 : ¬ nI 1 = (0 : Int32) := by decide
          by_cases cB : B = 0
          · have q1 : lbI B = -1 := if_pos cB
            exact ⟨-1, X1, M, by simp only [fX7_leave, fX7_leave_j49, fX7_fewestLeaving, zokX_0, zokX_1, zokX_2, zokX_3, zokX_4, zokX_5, zokX_6, zokX_7, zokX_8, zokX_9, zokX_10, zokX_11, zokX_12, zokX_13, zokX_14, zokX_15, zokX_16, zlaX_1, zlaX_2, zlaX_3, zlaX_4, zlaX_5, zlaX_6, zlaX_8, zlaX_11, zlaX_12, zlaX_13, zlaX_15, zlaX_16, zp_1, zp_h, zp_r, zp_l, zletE, obs, spXe_0, spXe_1, spXe_2, spXe_3, spXe_4, spXe_5, spXe_6, spXe_7, spXe_8, spXe_9, spXe_10, spXe_11, spXe_12, spXe_13, spXe_14, spXe_15, spXe_16, hX.1, e1, if_neg s7, xt, if_neg n10, if_neg c0, if_pos c1, eX', if_neg z1, q1, if_true], by simp only [fX8_leave, zokM_0, zokM_1, zokM_2, zokM_3, zokM_4, zokM_5, zokM_6, zokM_7, zokM_8, zokM_9, zokM_10, zokM_11, zokM_12, zokM_13, zokM_14, zokM_15, zlaM_1, zlaM_2, zlaM_3, zlaM_4, zlaM_5, zlaM_6, zlaM_7, zlaM_8, zlaM_9, zlaM_10, zlaM_11, zlaM_12, zlaM_13, zlaM_14, zlaM_15, zp_1, zp_h, zp_r, zp_l, zletE, obs, spMe_0, spMe_1, spMe_2, spMe_3, spMe_4, spMe_5, spMe_6, spMe_7, spMe_8, spMe_9, spMe_10, spMe_11, spMe_12, spMe_13, spMe_14, spMe_15, hM.1, one, mt, if_neg n10, hin, eM', if_neg z1, if_pos q1], h.keep f1 (frN.rf M)⟩
          · have q1 : lbI B = nI B := if_neg cB
            have q2 : ¬ nI B = -1 := fun q => by
              have := congrArg Int32.toInt q
              rw [nI_toInt (by omega)] at this
              have h2 : (-1 : Int32).toInt = -1 := by decide
              omega
            rw [q1] at eX' eM'
            exact ⟨nI (pc B), X1, M, by simp only [fX7_leave, fX7_leave_j49, fX7_fewestLeaving, zokX_0, zokX_1, zokX_2, zokX_3, zokX_4, zokX_5, zokX_6, zokX_7, zokX_8, zokX_9, zokX_10, zokX_11, zokX_12, zokX_13, zokX_14, zokX_15, zokX_16, zlaX_1, zlaX_2, zlaX_3, zlaX_4, zlaX_5, zlaX_6, zlaX_8, zlaX_11, zlaX_12, zlaX_13, zlaX_15, zlaX_16, zp_1, zp_h, zp_r, zp_l, zletE, obs, spXe_0, spXe_1, spXe_2, spXe_3, spXe_4, spXe_5, spXe_6, spXe_7, spXe_8, spXe_9, spXe_10, spXe_11, spXe_12, spXe_13, spXe_14, spXe_15, spXe_16, hX.1, e1, if_neg s7, xt, if_neg n10, if_neg c0, if_pos c1, eX', if_neg z1, if_neg q2, x_bits hB1], by simp only [fX8_leave, zokM_0, zokM_1, zokM_2, zokM_3, zokM_4, zokM_5, zokM_6, zokM_7, zokM_8, zokM_9, zokM_10, zokM_11, zokM_12, zokM_13, zokM_14, zokM_15, zlaM_1, zlaM_2, zlaM_3, zlaM_4, zlaM_5, zlaM_6, zlaM_7, zlaM_8, zlaM_9, zlaM_10, zlaM_11, zlaM_12, zlaM_13, zlaM_14, zlaM_15, zp_1, zp_h, zp_r, zp_l, zletE, obs, spMe_0, spMe_1, spMe_2, spMe_3, spMe_4, spMe_5, spMe_6, spMe_7, spMe_8, spMe_9, spMe_10, spMe_11, spMe_12, spMe_13, spMe_14, spMe_15, hM.1, one, mt, if_neg n10, hin, eM', if_neg z1, if_neg q2, show lfI B = nI (pc B) from by unfold lfI; rw [if_neg cB]], h.keep f1 (frN.rf M)⟩
