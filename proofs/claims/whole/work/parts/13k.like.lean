/-- LIKE a .. b set or taken away -/
def lkS (x b c : Nat) : Nat := dn x (2 ^ b) ||| (c * 2 ^ b)
theorem lkS_le {x b c : Nat} (hx : x ≤ 4095) (hb : b < 12) (hc : c ≤ 1) : lkS x b c ≤ 4095 := by
  refine or_le (Nat.le_trans (dn_le _ _) hx) ?_
  have := p2_le hb
  rcases (show c = 0 ∨ c = 1 by omega) with rfl | rfl <;> omega
theorem lkS_tb {x b c : Nat} (hx : x ≤ 4095) (hc : c ≤ 1) (i : Nat) : (lkS x b c).testBit i = if b = i then decide (c = 1) else x.testBit i := by
  unfold lkS
  rw [Nat.testBit_or, dn_tb hx, Nat.testBit_two_pow]
  rcases (show c = 0 ∨ c = 1 by omega) with rfl | rfl
  · by_cases e : b = i <;> simp [e]
  · by_cases e : b = i <;> simp [e, Nat.testBit_two_pow]
theorem lk_int {x b c : Nat} (hx : x ≤ 4095) (hb : b < 12) (hc : c ≤ 1) : (nI x &&& (((1 : Int32) <<< (nI b &&& 31)) ^^^ (-1))) ||| (nI c <<< (nI b &&& 31)) = nI (lkS x b c) := by
  rw [n_shl1 (show b < 31 by omega), n_shl (show b < 31 by omega) c hc, n_dn hx, n_or]
  rfl
theorem t_like (a b c : Int32) : TM2 Inv (fun st => fX7_like 0 a b c st) (fun st => fX8_like 0 a b c st) := by
  intro X M h
  have hInv := h
  obtain ⟨⟨hX, hM⟩, hL, hD, hA, hP, hF, hS, hI, hT⟩ := h
  have r00 : X.2.2.2 0 0 = some 1 := hX.r (by decide) (by decide) (by decide) (by decide)
  have r8 : M.2.2.2 0 8 = some 4 := hM.r (by decide) (by decide)
  rcases one_cases 12 (by decide) a with ha | ⟨i, hi, rfl⟩
  · exact ⟨-2, X, M, by simp only [fX7_like, x_thing0 X ha, obs, if_true], by simp only [fX8_like, m_thing0 M ha, obs, if_true], hInv⟩
  · have xi := x_thing1 X hi
    have mi := m_thing1 M hi
    rcases one_cases 12 (by decide) b with hb | ⟨j, hj, rfl⟩
    · exact ⟨-2, X, M, by simp only [fX7_like, xi, x_thing0 X hb, obs, if_neg n10, if_true], by simp only [fX8_like, mi, m_thing0 M hb, obs, if_neg n10, if_true], hInv⟩
    · have xj := x_thing1 X hj
      have mj := m_thing1 M hj
      by_cases e : i = j
      · subst e
        exact ⟨-2, X, M, by simp only [fX7_like, xi, obs, if_neg n10, if_true], by simp only [fX8_like, mi, obs, if_neg n10, if_true], hInv⟩
      · have e' : ¬ nI i = nI j := kne (by omega) (by omega) e
        rcases one_cases 2 (by decide) c with hc | ⟨o, ho, rfl⟩
        · refine ⟨-2, X, M, ?_, by simp only [fX8_like, mi, mj, obs, if_neg n10, if_neg e', m_in0 1 (by decide) (show (1 : Int64) = (nI 1).toInt64 by decide) hc, if_true], hInv⟩
          by_cases c0 : c < 0
          · simp only [fX7_like, xi, xj, obs, if_neg n10, if_neg e', if_pos c0]
          · have c1 : ¬ c ≤ 1 := Int32.not_le.mpr (Int32.lt_of_lt_of_le (nI_lt (a := 1) (b := 2) (by decide) (by decide)) (hc.resolve_left c0))
            simp only [fX7_like, xi, xj, obs, if_neg n10, if_neg e', if_neg c0, if_neg c1]
        · have c0 : ¬ nI o < 0 := nI_pos (by omega)
          have c1 : nI o ≤ (1 : Int32) := nI_le (b := 1) (by omega) (by decide)
          obtain ⟨sy, lm, lx⟩ := lk_of hL
          have ho1 : o ≤ 1 := by omega
          have li := sy.1 i hi
          have lj := sy.1 j hj
          have hzi : zix spX 1 (nI i) = some i := zix_of rfl (by show i < 12; omega) (by decide)
          have hzj : zix spX 1 (nI j) = some j := zix_of rfl (by show j < 12; omega) (by decide)
          have mzi : zix spM 4 (nI i) = some i := zix_of rfl (by show i < 12; omega) (by decide)
          have mzj : zix spM 4 (nI j) = some j := zix_of rfl (by show j < 12; omega) (by decide)
          have ji : (j = i) = False := by simp; omega
          have w1 := lk_int li hj ho1
          have w2 := lk_int lj hi ho1
          have hm := m_in1 1 (by decide) (show (1 : Int64) = (nI 1).toInt64 by decide) ho M
          refine ⟨(nI (lkN M i) >>> (nI j &&& 31)) &&& 1, zp (zp X 1 i (nI (lkS (lkN M i) j o))) 1 j (nI (lkS (lkN M j) i o)), zp (zp M 4 i (nI (lkS (lkN M i) j o))) 4 j (nI (lkS (lkN M j) i o)), ?_, ?_, ⟨(hX.zp _ _ _).zp _ _ _, (hM.zp _ _ _).zp _ _ _⟩, ?_, ?_, ?_, ?_, ?_, ?_, ?_, ?_⟩
          · simp only [fX7_like, xi, xj, zokX_0, zokX_1, zokX_2, zokX_3, zokX_4, zokX_5, zokX_6, zokX_7, zokX_8, zokX_9, zokX_10, zokX_11, zokX_12, zokX_13, zokX_14, zokX_15, zokX_16, zlaX_1, zlaX_2, zlaX_3, zlaX_4, zlaX_5, zlaX_6, zlaX_8, zlaX_11, zlaX_12, zlaX_13, zlaX_15, zlaX_16, zp_1, zp_h, zp_r, zp_l, zletE, obs, spXe_0, spXe_1, spXe_2, spXe_3, spXe_4, spXe_5, spXe_6, spXe_7, spXe_8, spXe_9, spXe_10, spXe_11, spXe_12, spXe_13, spXe_14, spXe_15, spXe_16, hX.1, if_neg n10, if_neg e', if_neg c0, if_pos c1, r00, hzi, hzj, lx i hi, lx j hj, w1, w2, ji, and_false, if_false]
          · simp only [fX8_like, mi, mj, zokM_0, zokM_1, zokM_2, zokM_3, zokM_4, zokM_5, zokM_6, zokM_7, zokM_8, zokM_9, zokM_10, zokM_11, zokM_12, zokM_13, zokM_14, zokM_15, zlaM_1, zlaM_2, zlaM_3, zlaM_4, zlaM_5, zlaM_6, zlaM_7, zlaM_8, zlaM_9, zlaM_10, zlaM_11, zlaM_12, zlaM_13, zlaM_14, zlaM_15, zp_1, zp_h, zp_r, zp_l, zletE, obs, spMe_0, spMe_1, spMe_2, spMe_3, spMe_4, spMe_5, spMe_6, spMe_7, spMe_8, spMe_9, spMe_10, spMe_11, spMe_12, spMe_13, spMe_14, spMe_15, hM.1, if_neg n10, if_neg e', hm, r8, mzi, mzj, lm i hi, lm j hj, w1, w2, ji, and_false, if_false]
          · have hv : ∀ t, t < 12 → (zp (zp M 4 i (nI (lkS (lkN M i) j o))) 4 j (nI (lkS (lkN M j) i o))).2.1 4 t = nI (if t = j then lkS (lkN M j) i o else if t = i then lkS (lkN M i) j o else lkN M t) := fun t ht => by
              rw [zp_h, zp_h]
              by_cases e1 : t = j
              · rw [if_pos ⟨rfl, e1⟩, if_pos e1]
              · rw [if_neg (fun q => e1 q.2), if_neg e1]
                by_cases e2 : t = i
                · rw [if_pos ⟨rfl, e2⟩, if_pos e2]
                · rw [if_neg (fun q => e2 q.2), if_neg e2]; exact lm t ht
            have hle : ∀ t, t < 12 → (if t = j then lkS (lkN M j) i o else if t = i then lkS (lkN M i) j o else lkN M t) ≤ 4095 := fun t ht => by
              split
              · exact lkS_le lj hi ho1
              · split
                · exact lkS_le li hj ho1
                · exact sy.1 t ht
            have hbit : ∀ t, t < 12 → ∀ u, zbit ((zp (zp M 4 i (nI (lkS (lkN M i) j o))) 4 j (nI (lkS (lkN M j) i o))).2.1 4 t) u = if (t = i ∧ u = j) ∨ (t = j ∧ u = i) then decide (o = 1) else (lkN M t).testBit u := fun t ht u => by
              rw [hv t ht, zb_tb (hle t ht)]
              by_cases e1 : t = j
              · subst e1
                rw [if_pos rfl, lkS_tb lj ho1]
                by_cases e2 : i = u
                · rw [if_pos e2, if_pos (Or.inr ⟨rfl, e2.symm⟩)]
                · rw [if_neg e2, if_neg (by omega)]
              · rw [if_neg e1]
                by_cases e2 : t = i
                · subst e2
                  rw [if_pos rfl, lkS_tb li ho1]
                  by_cases e3 : j = u
                  · rw [if_pos e3, if_pos (Or.inl ⟨rfl, e3.symm⟩)]
                  · rw [if_neg e3, if_neg (by omega)]
                · rw [if_neg e2, if_neg (by omega)]
            refine ⟨fun t ht => ?_, fun t ht => ⟨_, hle t ht, hv t ht⟩, fun t ht => ?_, fun x hx y hy => ?_⟩
            · show (zp (zp X 1 i (nI (lkS (lkN M i) j o))) 1 j (nI (lkS (lkN M j) i o))).2.1 1 t = (zp (zp M 4 i (nI (lkS (lkN M i) j o))) 4 j (nI (lkS (lkN M j) i o))).2.1 4 t
              simp only [zp_h, true_and, hL.1 t ht]
            · show zbit ((zp (zp M 4 i (nI (lkS (lkN M i) j o))) 4 j (nI (lkS (lkN M j) i o))).2.1 4 t) t = false
              rw [hbit t ht, if_neg (by omega)]
              exact sy.2.1 t ht
            · show zbit ((zp (zp M 4 i (nI (lkS (lkN M i) j o))) 4 j (nI (lkS (lkN M j) i o))).2.1 4 x) y = zbit ((zp (zp M 4 i (nI (lkS (lkN M i) j o))) 4 j (nI (lkS (lkN M j) i o))).2.1 4 y) x
              rw [hbit x hx, hbit y hy]
              by_cases e1 : (x = i ∧ y = j) ∨ (x = j ∧ y = i)
              · rw [if_pos e1, if_pos (by omega)]
              · rw [if_neg e1, if_neg (by omega)]
                exact sy.2.2 x hx y hy
          · simpa [InvD, zp_h] using hD
          · simpa [InvA, zp_h, addne] using hA
          · simpa [InvP, zp_h] using hP
          · simpa [InvF, zp_h] using hF
          · simpa [InvS, zp_h, addne] using hS
          · simpa [InvI, zp_h, addne] using hI
          · exact hT.mono (by simp [zp_h]) (fun t ht => by simp [zp_h, addne]) (fun t ht => by simp [zp_h])
