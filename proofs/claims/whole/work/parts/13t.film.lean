theorem t_sheet (a b c : Int32) : TM2 Inv (fun st => fX7_sheet 0 a b c st) (fun st => fX8_sheet 0 a b c st) := by
  intro X M h
  have hInv := h
  obtain ⟨⟨hX, hM⟩, hL, hD, hA, hP, hF, hS, hI, hT⟩ := h
  rcases one_cases 4 (by decide) a with ha | ⟨q, hq, rfl⟩
  · exact ⟨-2, X, M, by simp only [fX7_sheet, zokX_0, zokX_1, zokX_2, zokX_3, zokX_4, zokX_5, zokX_6, zokX_7, zokX_8, zokX_9, zokX_10, zokX_11, zokX_12, zokX_13, zokX_14, zokX_15, zokX_16, zlaX_1, zlaX_2, zlaX_3, zlaX_4, zlaX_5, zlaX_6, zlaX_8, zlaX_11, zlaX_12, zlaX_13, zlaX_15, zlaX_16, zp_1, zp_h, zp_r, zp_l, zletE, obs, spXe_0, spXe_1, spXe_2, spXe_3, spXe_4, spXe_5, spXe_6, spXe_7, spXe_8, spXe_9, spXe_10, spXe_11, spXe_12, spXe_13, spXe_14, spXe_15, spXe_16, hX.1, x_sheet0 hX ha, if_true], by simp only [fX8_sheet, obs, m_sheet0 M ha, if_true], hInv⟩
  · have em : ∀ v : Int32, fX8_in v.toInt64 (-1) 2 M = some ((if v < -1 then 0 else if 2 < v then 0 else 1), M) := fun v => by
      rw [in_eq, show (-1 : Int64) = (-1 : Int32).toInt64 by decide, show (2 : Int64) = (2 : Int32).toInt64 by decide]
      simp only [tl]
    by_cases b1 : b < -1
    · exact ⟨-2, X, M, by simp only [fX7_sheet, zokX_0, zokX_1, zokX_2, zokX_3, zokX_4, zokX_5, zokX_6, zokX_7, zokX_8, zokX_9, zokX_10, zokX_11, zokX_12, zokX_13, zokX_14, zokX_15, zokX_16, zlaX_1, zlaX_2, zlaX_3, zlaX_4, zlaX_5, zlaX_6, zlaX_8, zlaX_11, zlaX_12, zlaX_13, zlaX_15, zlaX_16, zp_1, zp_h, zp_r, zp_l, zletE, obs, spXe_0, spXe_1, spXe_2, spXe_3, spXe_4, spXe_5, spXe_6, spXe_7, spXe_8, spXe_9, spXe_10, spXe_11, spXe_12, spXe_13, spXe_14, spXe_15, spXe_16, hX.1, x_sheet1 hX hq, if_neg (ss51 q), if_pos b1], by simp only [fX8_sheet, obs, m_sheet1 M hq, if_neg n10, em, if_pos b1, if_true], hInv⟩
    · by_cases b2 : 2 < b
      · have b2' : ¬ b ≤ 2 := Int32.not_le.mpr b2
        exact ⟨-2, X, M, by simp only [fX7_sheet, zokX_0, zokX_1, zokX_2, zokX_3, zokX_4, zokX_5, zokX_6, zokX_7, zokX_8, zokX_9, zokX_10, zokX_11, zokX_12, zokX_13, zokX_14, zokX_15, zokX_16, zlaX_1, zlaX_2, zlaX_3, zlaX_4, zlaX_5, zlaX_6, zlaX_8, zlaX_11, zlaX_12, zlaX_13, zlaX_15, zlaX_16, zp_1, zp_h, zp_r, zp_l, zletE, obs, spXe_0, spXe_1, spXe_2, spXe_3, spXe_4, spXe_5, spXe_6, spXe_7, spXe_8, spXe_9, spXe_10, spXe_11, spXe_12, spXe_13, spXe_14, spXe_15, spXe_16, hX.1, x_sheet1 hX hq, if_neg (ss51 q), if_neg b1, if_neg b2'], by simp only [fX8_sheet, obs, m_sheet1 M hq, if_neg n10, em, if_neg b1, if_pos b2, if_true], hInv⟩
      · have b2' : b ≤ 2 := Int32.not_lt.mp b2
        by_cases b3 : b = -1
        · subst b3
          obtain ⟨X', x1, x2, x3, x4⟩ := x_bec hX hq (-1) (show 0 ≤ 40 by omega)
          have x1' : fX3_become (51 + 2 * q) (-1) 0 X = some ((), X') := x1
          have r42 : M.2.2.2 0 42 = some 12 := hM.r (by decide) (by decide)
          have r43 : M.2.2.2 0 43 = some 13 := hM.r (by decide) (by decide)
          have r44 : M.2.2.2 0 44 = some 14 := hM.r (by decide) (by decide)
          have z12 : zix spM 12 (nI q) = some q := zix_of rfl hq (by decide)
          have z13 : zix spM 13 (nI q) = some q := zix_of rfl hq (by decide)
          have z14 : zix spM 14 (nI q) = some q := zix_of rfl hq (by decide)
          have nar : vp_nar .boolean 0 = 0 := by decide
          have ng : (-1 : Int32) < 0 := by decide
          have lp : fX8_sheet_L77 0 zF (nI q) (-1) c 0 (zp (zp (zp M 12 q 0) 13 q (-1)) 14 q c) = some (1, zp (zp (zp M 12 q 0) 13 q (-1)) 14 q c) := by
            show fX8_sheet_L77 0 (4999 + 1) (nI q) (-1) c 0 _ = _
            rw [fX8_sheet_L77]
            by_cases c0 : c ≤ 0
            · rw [if_pos c0]
            · rw [if_neg c0, if_pos ng]
          refine ⟨1, X', zp (zp (zp M 12 q 0) 13 q (-1)) 14 q c, ?_, ?_, hInv.shts ⟨x2, fun o k => Or.inr (by rw [x3]), fun o k => ?_⟩ ⟨rfl, rfl, fun o k => ?_⟩ (fun s hs => ?_)⟩
          · simp only [fX7_sheet, zokX_0, zokX_1, zokX_2, zokX_3, zokX_4, zokX_5, zokX_6, zokX_7, zokX_8, zokX_9, zokX_10, zokX_11, zokX_12, zokX_13, zokX_14, zokX_15, zokX_16, zlaX_1, zlaX_2, zlaX_3, zlaX_4, zlaX_5, zlaX_6, zlaX_8, zlaX_11, zlaX_12, zlaX_13, zlaX_15, zlaX_16, zp_1, zp_h, zp_r, zp_l, zletE, obs, spXe_0, spXe_1, spXe_2, spXe_3, spXe_4, spXe_5, spXe_6, spXe_7, spXe_8, spXe_9, spXe_10, spXe_11, spXe_12, spXe_13, spXe_14, spXe_15, spXe_16, hX.1, x_sheet1 hX hq, if_neg (ss51 q), if_neg b1, if_pos b2', if_true, zok_sheet hX.1 hq, x1']
          · simp only [fX8_sheet, fX8_sheet_j34, fX8_sheet_j45, fX8_sheet_j59, obs, m_sheet1 M hq, if_neg n10, em, if_neg b1, if_neg b2, if_pos ng, zletE, zokM_0 hM.1, r42, zokM_12 hM.1, z12, zp_1, zp_r, r43, z13, r44, z14, nar, zokM_0 (show (zp M 12 q 0).1 = 16 from hM.1), zokM_13 (show (zp M 12 q 0).1 = 16 from hM.1), zokM_0 (show (zp (zp M 12 q 0) 13 q (-1)).1 = 16 from hM.1), zokM_14 (show (zp (zp M 12 q 0) 13 q (-1)).1 = 16 from hM.1)]
            exact lp
          · by_cases e : 51 ≤ o
            · exact Or.inr (Or.inr (Or.inr (Or.inl e)))
            · exact Or.inr (Or.inr (Or.inr (Or.inr (by rw [x4, if_neg (by omega), if_neg (by omega), if_neg (by omega)]))))
          · by_cases e : 12 ≤ o
            · exact Or.inr (Or.inr (Or.inr (Or.inl e)))
            · exact Or.inr (Or.inr (Or.inr (Or.inr (by rw [zp_h, if_neg (by omega), zp_h, if_neg (by omega), zp_h, if_neg (by omega)]))))
          · obtain ⟨w1, w2⟩ := hS s hs
            by_cases e : s = q
            · subst e
              have a1 : X'.2.1 (51 + 2 * s) 1 = -1 := by rw [x4, if_neg (by omega), if_neg (by omega), if_pos ⟨rfl, rfl⟩]
              have a2 : X'.2.1 (51 + 2 * s) 2 = 0 := by rw [x4, if_neg (by omega), if_pos ⟨rfl, rfl⟩]; rfl
              refine ⟨Or.inr a1, Or.inl ⟨a1, ?_, a2⟩⟩
              rw [zp_h, if_neg (by omega), zp_h, if_neg (by omega), zp_h, if_pos ⟨rfl, rfl⟩]
            · have a1 : ∀ k, X'.2.1 (51 + 2 * s) k = X.2.1 (51 + 2 * s) k := fun k => by rw [x4, if_neg (by omega), if_neg (by omega), if_neg (by omega)]
              have a2 : ∀ k, X'.2.1 (52 + 2 * s) k = X.2.1 (52 + 2 * s) k := fun k => by rw [x4, if_neg (by omega), if_neg (by omega), if_neg (by omega)]
              have b : ∀ o, (zp (zp (zp M 12 q 0) 13 q (-1)) 14 q c).2.1 o s = M.2.1 o s := fun o => by rw [zp_h, if_neg (by omega), zp_h, if_neg (by omega), zp_h, if_neg (by omega)]
              have b15 : ∀ k, (zp (zp (zp M 12 q 0) 13 q (-1)) 14 q c).2.1 15 k = M.2.1 15 k := fun k => by rw [zp_h, if_neg (by omega), zp_h, if_neg (by omega), zp_h, if_neg (by omega)]
              rw [a1, a1, b 13, b 12, b 14]
              refine ⟨w1, ?_⟩
              rcases w2 with w2 | ⟨w2, w3, u, u1, u2, u3, u4⟩
              · exact Or.inl w2
              · exact Or.inr ⟨w2, w3, u, u1, u2, u3, fun j hj => by rw [a2, b15]; exact u4 j hj⟩
        · obtain ⟨s0, hs0, rfl⟩ : ∃ s0, s0 < 3 ∧ b = nI s0 := by
            rcases one_cases 3 (by decide) b with hb | hb
            · rcases hb with hb | hb
              · exfalso
                apply b3
                apply Int32.toInt_inj.mp
                rw [Int32.lt_iff_toInt_lt] at hb b1
                have e1 : (-1 : Int32).toInt = -1 := by decide
                have e0 : (0 : Int32).toInt = 0 := by decide
                omega
              · exact absurd (Int32.lt_of_lt_of_le (show (2 : Int32) < nI 3 by decide) hb) b2
            · exact hb
          have v0 : ¬ nI s0 < 0 := nI_pos (by omega)
          by_cases c1 : c ≤ 40
          · by_cases c0 : 0 ≤ c
            · obtain ⟨n, hn, rfl⟩ : ∃ n, n < 41 ∧ c = nI n := by
                rcases one_cases 41 (by decide) c with hc | hc
                · rcases hc with hc | hc
                  · exact absurd c0 (Int32.not_le.mpr hc)
                  · exact absurd c1 (Int32.not_le.mpr (Int32.lt_of_lt_of_le (show (40 : Int32) < nI 41 by decide) hc))
                · exact hc
              obtain ⟨X', M', x1, m1, x2, x3, x4, m2, m3, m4, hS', -⟩ := sheet_both hX hM hS hq (show s0 ≤ 2 by omega) (show n ≤ 40 by omega)
              refine ⟨1, X', M', ?_, m1, hInv.shts ⟨x2, fun o k => Or.inr (by rw [x3]), fun o k => ?_⟩ ⟨m2, m3, fun o k => ?_⟩ hS'⟩
              · simp only [fX7_sheet, zokX_0, zokX_1, zokX_2, zokX_3, zokX_4, zokX_5, zokX_6, zokX_7, zokX_8, zokX_9, zokX_10, zokX_11, zokX_12, zokX_13, zokX_14, zokX_15, zokX_16, zlaX_1, zlaX_2, zlaX_3, zlaX_4, zlaX_5, zlaX_6, zlaX_8, zlaX_11, zlaX_12, zlaX_13, zlaX_15, zlaX_16, zp_1, zp_h, zp_r, zp_l, zletE, obs, spXe_0, spXe_1, spXe_2, spXe_3, spXe_4, spXe_5, spXe_6, spXe_7, spXe_8, spXe_9, spXe_10, spXe_11, spXe_12, spXe_13, spXe_14, spXe_15, spXe_16, hX.1, x_sheet1 hX hq, if_neg (ss51 q), if_neg b1, if_pos b2', if_neg b3, if_pos c1, if_pos c0, zok_sheet hX.1 hq, x1]
              · by_cases e : 51 ≤ o
                · exact Or.inr (Or.inr (Or.inr (Or.inl e)))
                · exact Or.inr (Or.inr (Or.inr (Or.inr (x4 o k (by omega)))))
              · by_cases e : 12 ≤ o
                · exact Or.inr (Or.inr (Or.inr (Or.inl e)))
                · exact Or.inr (Or.inr (Or.inr (Or.inr (m4 o k (by omega)))))
            · exact ⟨-14, X, M, by simp only [fX7_sheet, zokX_0, zokX_1, zokX_2, zokX_3, zokX_4, zokX_5, zokX_6, zokX_7, zokX_8, zokX_9, zokX_10, zokX_11, zokX_12, zokX_13, zokX_14, zokX_15, zokX_16, zlaX_1, zlaX_2, zlaX_3, zlaX_4, zlaX_5, zlaX_6, zlaX_8, zlaX_11, zlaX_12, zlaX_13, zlaX_15, zlaX_16, zp_1, zp_h, zp_r, zp_l, zletE, obs, spXe_0, spXe_1, spXe_2, spXe_3, spXe_4, spXe_5, spXe_6, spXe_7, spXe_8, spXe_9, spXe_10, spXe_11, spXe_12, spXe_13, spXe_14, spXe_15, spXe_16, hX.1, x_sheet1 hX hq, if_neg (ss51 q), if_neg b1, if_pos b2', if_neg b3, if_pos c1, if_neg c0], by simp only [fX8_sheet, fX8_sheet_j34, obs, m_sheet1 M hq, if_neg n10, em, if_neg b1, if_neg b2, if_neg v0, if_pos c1, if_neg c0], hInv⟩
          · exact ⟨-2, X, M, by simp only [fX7_sheet, zokX_0, zokX_1, zokX_2, zokX_3, zokX_4, zokX_5, zokX_6, zokX_7, zokX_8, zokX_9, zokX_10, zokX_11, zokX_12, zokX_13, zokX_14, zokX_15, zokX_16, zlaX_1, zlaX_2, zlaX_3, zlaX_4, zlaX_5, zlaX_6, zlaX_8, zlaX_11, zlaX_12, zlaX_13, zlaX_15, zlaX_16, zp_1, zp_h, zp_r, zp_l, zletE, obs, spXe_0, spXe_1, spXe_2, spXe_3, spXe_4, spXe_5, spXe_6, spXe_7, spXe_8, spXe_9, spXe_10, spXe_11, spXe_12, spXe_13, spXe_14, spXe_15, spXe_16, hX.1, x_sheet1 hX hq, if_neg (ss51 q), if_neg b1, if_pos b2', if_neg b3, if_neg c1], by simp only [fX8_sheet, obs, m_sheet1 M hq, if_neg n10, em, if_neg b1, if_neg b2, if_neg v0, if_neg c1], hInv⟩
/-- the loop of film -/
theorem film_loop {p n0 q : Nat} {L : Nat → Nat} {k nu s h nh d t : Nat} {F : Nat → (Nat → Int32) → Int32} (hV : Vok L k nu s h nh d) (hq : q < 4) : ∀ (m j n n' c : Nat) (X M : zS), j + m = 12 → m < n → m < n' → shX X → PcX X L k nu s h nh d t F → shM M → PcM M p n0 L k nu s h nh d → RlM M t F → InvS X M → X.2.1 (51 + 2 * q) 1 = 0 → X.2.1 (51 + 2 * q) 2 = nI 12 → M.2.1 12 q = 1 → M.2.1 14 q = nI 12 → ∃ r X' M', fX7_film_L38 0 n (some (51 + 2 * q)) (some 7) (nI c) (nI j) X = some (r, X') ∧ fX8_film_L32 0 n' (nI q) (nI p) (nI c) (nI j) M = some (r, M') ∧ frG X X' ∧ frH M M' ∧ InvS X' M'
  | m, j, 0, _, _, _, _, _, h, _, _, _, _, _, _, _, _, _, _, _ => by omega
  | m, j, _, 0, _, _, _, _, _, h, _, _, _, _, _, _, _, _, _, _ => by omega
  | 0, j, n + 1, n' + 1, c, X, M, e, _, _, hX, hP, hM, hQ, hR, hS, _, _, _, _ => by
    have c12 : (12 : Int32) ≤ nI j := by rw [show j = 12 by omega]; decide
    refine ⟨nI c, X, M, ?_, ?_, (frC.rf X).g, (frN.rf M).h, hS⟩
    · simp only [fX7_film_L38, if_pos c12]
    · simp only [fX8_film_L32, if_pos c12]
  | m + 1, j, n + 1, n' + 1, c, X, M, e, hn, hn', hX, hP, hM, hQ, hR, hS, x1, x2, m1, m2 => by
    have c12 : ¬ (12 : Int32) ≤ nI j := nI_ge (b := 12) (by omega) (by decide)
    have hp2 := p2_le (show j < 12 by omega)
    have hsh := n_shl1 (show j < 31 by omega)
    obtain ⟨X1, e1, f1⟩ := x_given hX hV hP hp2
    obtain ⟨M1, e2, f2⟩ := m_given hM hV hQ hR hp2
    have hX1 := f1.sh hX
    have hM1 := f2.sh hM
    have y1 : X1.2.1 (51 + 2 * q) 1 = 0 := (f1.at (by omega) (Or.inr (by omega))).trans x1
    have y2 : X1.2.1 (51 + 2 * q) 2 = nI 12 := (f1.at (by omega) (Or.inr (by omega))).trans x2
    have ep := x_put hX1 hq y2 (by decide) (show j < 12 by omega) (gvS L k nu s h nh d F (2 ^ j))
    have hg := gv_or' (L := L) (k := k) (nu := nu) (s := s) (h := h) (nh := nh) (d := d) (F := F) (st := 2 ^ j)
    have hcast : castS 0 (gvS L k nu s h nh d F (2 ^ j)) = gvS L k nu s h nh d F (2 ^ j) := by
      unfold castS
      rw [if_pos rfl]
      rcases hg with hg | ⟨g, g12, hg⟩
      · rw [hg]; decide
      · rw [hg]
        rcases (show g = 0 ∨ g = 1 ∨ g = 2 ∨ g = 3 ∨ g = 4 ∨ g = 5 ∨ g = 6 ∨ g = 7 ∨ g = 8 ∨ g = 9 ∨ g = 10 ∨ g = 11 by omega) with rfl | rfl | rfl | rfl | rfl | rfl | rfl | rfl | rfl | rfl | rfl | rfl <;> decide
    rw [y1, hcast] at ep
    have r45 : M1.2.2.2 0 45 = some 15 := hM1.r (by decide) (by decide)
    have z15 : zix spM 15 (nI (40 * q + j)) = some (40 * q + j) := zix_of rfl (by show 40 * q + j < 160; omega) (by decide)
    generalize hgv : gvS L k nu s h nh d F (2 ^ j) = g at *
    let X2 := zp X1 (52 + 2 * q) j g
    let M2 := zp M1 15 (40 * q + j) g
    have fx : frG X X2 := f1.a.c.g.tr ⟨rfl, fun _ _ => Or.inr rfl, fun o i => by
      by_cases e : 51 ≤ o
      · exact Or.inr (Or.inr (Or.inr (Or.inl e)))
      · exact Or.inr (Or.inr (Or.inr (Or.inr (by show (zp X1 (52 + 2 * q) j g).2.1 o i = _; rw [zp_h, if_neg (by omega)]))))⟩
    have fm : frH M M2 := f2.n.h.tr ⟨rfl, rfl, fun o i => by
      by_cases e : 12 ≤ o
      · exact Or.inr (Or.inr (Or.inr (Or.inl e)))
      · exact Or.inr (Or.inr (Or.inr (Or.inr (by show (zp M1 15 (40 * q + j) g).2.1 o i = _; rw [zp_h, if_neg (by omega)]))))⟩
    have q1 : ∀ o i, o ≠ 52 + 2 * q → X2.2.1 o i = X1.2.1 o i := fun o i ho => by show (zp X1 (52 + 2 * q) j g).2.1 o i = _; rw [zp_h, if_neg (by omega)]
    have q2 : ∀ o i, o ≠ 15 → M2.2.1 o i = M1.2.1 o i := fun o i ho => by show (zp M1 15 (40 * q + j) g).2.1 o i = _; rw [zp_h, if_neg (by omega)]
    have hP2 : PcX X2 L k nu s h nh d t F := by
      obtain ⟨a, a3, a4, a5, a6, a8, a9, at', ar, aT⟩ := hP.fr f1
      exact ⟨fun u hu => (q1 _ _ (by omega)).trans (a u hu), (q1 _ _ (by omega)).trans a3, (q1 _ _ (by omega)).trans a4, (q1 _ _ (by omega)).trans a5, (q1 _ _ (by omega)).trans a6, (q1 _ _ (by omega)).trans a8, (q1 _ _ (by omega)).trans a9, at', ar, aT.mono (fun i => Or.inl (q1 _ _ (by omega))) (fun i => q1 _ _ (by omega)) (fun i => q1 _ _ (by omega))⟩
    have hQ2 : PcM M2 p n0 L k nu s h nh d := by
      obtain ⟨a, a1, a2, a3, a4, a5, a6, a7, a8, a9⟩ := hQ.fr f2
      exact ⟨fun u hu => (q2 _ _ (by decide)).trans (a u hu), a1, a2, (q2 _ _ (by decide)).trans a3, (q2 _ _ (by decide)).trans a4, (q2 _ _ (by decide)).trans a5, (q2 _ _ (by decide)).trans a6, (q2 _ _ (by decide)).trans a7, (q2 _ _ (by decide)).trans a8, by rw [q2 _ _ (by decide)]; exact a9⟩
    have hR2 : RlM M2 t F := by
      obtain ⟨a, b⟩ := hR.fr f2
      exact ⟨(q2 _ _ (by decide)).trans a, b.mono (fun i _ => q2 _ _ (by decide)) (q2 _ _ (by decide))⟩
    have hS1 : InvS X1 M1 := fun s hs => by
      have a1 : ∀ k, X1.2.1 (51 + 2 * s) k = X.2.1 (51 + 2 * s) k := fun k => f1.at (by omega) (Or.inr (by omega))
      have a2 : ∀ k, X1.2.1 (52 + 2 * s) k = X.2.1 (52 + 2 * s) k := fun k => f1.at (by omega) (Or.inr (by omega))
      have b : ∀ o k, o ≠ 0 → M1.2.1 o k = M.2.1 o k := fun o k ho => f2.at (Or.inl ho)
      obtain ⟨w1, w2⟩ := hS s hs
      rw [a1, a1, b 13 _ (by decide), b 12 _ (by decide), b 14 _ (by decide)]
      refine ⟨w1, ?_⟩
      rcases w2 with w2 | ⟨w2, w3, u, u1, u2, u3, u4⟩
      · exact Or.inl w2
      · exact Or.inr ⟨w2, w3, u, u1, u2, u3, fun j hj => by rw [a2, b 15 _ (by decide)]; exact u4 j hj⟩
    have hS2 : InvS X2 M2 := fun s hs => by
      obtain ⟨w1, w2⟩ := hS1 s hs
      rw [q1 _ _ (by omega), q1 _ _ (by omega), q2 13 _ (by decide), q2 12 _ (by decide), q2 14 _ (by decide)]
      refine ⟨w1, ?_⟩
      rcases w2 with w2 | ⟨w2, w3, u, u1, u2, u3, u4⟩
      · exact Or.inl w2
      · refine Or.inr ⟨w2, w3, u, u1, u2, u3, fun i hi => ?_⟩
        show (zp X1 (52 + 2 * q) j g).2.1 (52 + 2 * s) i = (zp M1 15 (40 * q + j) g).2.1 15 (40 * s + i)
        rw [zp_h, zp_h]
        by_cases e : s = q ∧ i = j
        · obtain ⟨rfl, rfl⟩ := e
          rw [if_pos ⟨rfl, rfl⟩, if_pos ⟨rfl, rfl⟩]
        · rw [if_neg (by omega), if_neg (by omega)]
          exact u4 i hi
    have b1 : M1.2.1 12 q = 1 := (f2.at (Or.inl (by decide))).trans m1
    have b2 : M1.2.1 14 q = nI 12 := (f2.at (Or.inl (by decide))).trans m2
    have hM1n := hM1.1
    have hX1n := hX1.1
    have go := fun c' => film_loop hV hq m (j + 1) n n' c' X2 M2 (by omega) (by omega) (by omega) hX1 hP2 hM1 hQ2 hR2 hS2 ((q1 _ _ (by omega)).trans y1) ((q1 _ _ (by omega)).trans y2) ((q2 _ _ (by decide)).trans b1) ((q2 _ _ (by decide)).trans b2)
    by_cases hg1 : g = -1
    · obtain ⟨r, X', M', a1, a2, a3, a4, a5⟩ := go c
      refine ⟨r, X', M', ?_, ?_, fx.tr a3, fm.tr a4, a5⟩
      · simp only [fX7_film_L38, fX7_film_j73, zokX_0, zokX_1, zokX_2, zokX_3, zokX_4, zokX_5, zokX_6, zokX_7, zokX_8, zokX_9, zokX_10, zokX_11, zokX_12, zokX_13, zokX_14, zokX_15, zokX_16, zlaX_1, zlaX_2, zlaX_3, zlaX_4, zlaX_5, zlaX_6, zlaX_8, zlaX_11, zlaX_12, zlaX_13, zlaX_15, zlaX_16, zp_1, zp_h, zp_r, zp_l, zletE, obs, spXe_0, spXe_1, spXe_2, spXe_3, spXe_4, spXe_5, spXe_6, spXe_7, spXe_8, spXe_9, spXe_10, spXe_11, spXe_12, spXe_13, spXe_14, spXe_15, spXe_16, hX.1, hX1n, if_neg c12, hsh, e1, zok_sheet hX1n hq, ep, if_pos hg1, nI_1]
        exact a1
      · have w : nI c + 0 = nI c := by simp
        simp only [fX8_film_L32, fX8_film_j76, zokM_0, zokM_1, zokM_2, zokM_3, zokM_4, zokM_5, zokM_6, zokM_7, zokM_8, zokM_9, zokM_10, zokM_11, zokM_12, zokM_13, zokM_14, zokM_15, zlaM_1, zlaM_2, zlaM_3, zlaM_4, zlaM_5, zlaM_6, zlaM_7, zlaM_8, zlaM_9, zlaM_10, zlaM_11, zlaM_12, zlaM_13, zlaM_14, zlaM_15, zp_1, zp_h, zp_r, zp_l, zletE, obs, spMe_0, spMe_1, spMe_2, spMe_3, spMe_4, spMe_5, spMe_6, spMe_7, spMe_8, spMe_9, spMe_10, spMe_11, spMe_12, spMe_13, spMe_14, spMe_15, hM.1, hM1n, if_neg c12, hsh, e2, r45, idx40s, z15, if_pos hg1, nI_1, w]
        exact a2
    · obtain ⟨r, X', M', a1, a2, a3, a4, a5⟩ := go (c + 1)
      refine ⟨r, X', M', ?_, ?_, fx.tr a3, fm.tr a4, a5⟩
      · simp only [fX7_film_L38, fX7_film_j73, zokX_0, zokX_1, zokX_2, zokX_3, zokX_4, zokX_5, zokX_6, zokX_7, zokX_8, zokX_9, zokX_10, zokX_11, zokX_12, zokX_13, zokX_14, zokX_15, zokX_16, zlaX_1, zlaX_2, zlaX_3, zlaX_4, zlaX_5, zlaX_6, zlaX_8, zlaX_11, zlaX_12, zlaX_13, zlaX_15, zlaX_16, zp_1, zp_h, zp_r, zp_l, zletE, obs, spXe_0, spXe_1, spXe_2, spXe_3, spXe_4, spXe_5, spXe_6, spXe_7, spXe_8, spXe_9, spXe_10, spXe_11, spXe_12, spXe_13, spXe_14, spXe_15, spXe_16, hX.1, hX1n, if_neg c12, hsh, e1, zok_sheet hX1n hq, ep, if_neg hg1, nI_1]
        exact a1
      · simp only [fX8_film_L32, fX8_film_j76, zokM_0, zokM_1, zokM_2, zokM_3, zokM_4, zokM_5, zokM_6, zokM_7, zokM_8, zokM_9, zokM_10, zokM_11, zokM_12, zokM_13, zokM_14, zokM_15, zlaM_1, zlaM_2, zlaM_3, zlaM_4, zlaM_5, zlaM_6, zlaM_7, zlaM_8, zlaM_9, zlaM_10, zlaM_11, zlaM_12, zlaM_13, zlaM_14, zlaM_15, zp_1, zp_h, zp_r, zp_l, zletE, obs, spMe_0, spMe_1, spMe_2, spMe_3, spMe_4, spMe_5, spMe_6, spMe_7, spMe_8, spMe_9, spMe_10, spMe_11, spMe_12, spMe_13, spMe_14, spMe_15, hM.1, hM1n, if_neg c12, hsh, e2, r45, idx40s, z15, if_neg hg1, nI_1]
        exact a2
theorem t_film (a b : Int32) : TM2 Inv (fun st => fX7_film 0 a b st) (fun st => fX8_film 0 a b st) := by
  intro X M h
  obtain ⟨n, hn5, hnX, hnM⟩ := many_of h.2.2.1
  have hX := h.1.1
  have hM := h.1.2
  rcases one_cases 4 (by decide) a with ha | ⟨q, hq, rfl⟩
  · rcases one_cases n (by omega) b with hb | ⟨p, hp, rfl⟩
    · exact ⟨-2, X, M, by simp only [fX7_film, zokX_0, zokX_1, zokX_2, zokX_3, zokX_4, zokX_5, zokX_6, zokX_7, zokX_8, zokX_9, zokX_10, zokX_11, zokX_12, zokX_13, zokX_14, zokX_15, zokX_16, zlaX_1, zlaX_2, zlaX_3, zlaX_4, zlaX_5, zlaX_6, zlaX_8, zlaX_11, zlaX_12, zlaX_13, zlaX_15, zlaX_16, zp_1, zp_h, zp_r, zp_l, zletE, obs, spXe_0, spXe_1, spXe_2, spXe_3, spXe_4, spXe_5, spXe_6, spXe_7, spXe_8, spXe_9, spXe_10, spXe_11, spXe_12, spXe_13, spXe_14, spXe_15, spXe_16, hX.1, x_sheet0 hX ha, x_visit0 hX hnX hb, if_true], by simp only [fX8_film, obs, m_sheet0 M ha, if_true], h⟩
    · obtain ⟨k, nu, s, hd, nh, d, t, sp, F, hV, hd9, hsp, hPM, hRM, hq', X1, e1, f1, hPX, h77, hac⟩ := view_of h hn5 hnX hnM hp
      exact ⟨-2, X1, M, by simp only [fX7_film, zokX_0, zokX_1, zokX_2, zokX_3, zokX_4, zokX_5, zokX_6, zokX_7, zokX_8, zokX_9, zokX_10, zokX_11, zokX_12, zokX_13, zokX_14, zokX_15, zokX_16, zlaX_1, zlaX_2, zlaX_3, zlaX_4, zlaX_5, zlaX_6, zlaX_8, zlaX_11, zlaX_12, zlaX_13, zlaX_15, zlaX_16, zp_1, zp_h, zp_r, zp_l, zletE, obs, spXe_0, spXe_1, spXe_2, spXe_3, spXe_4, spXe_5, spXe_6, spXe_7, spXe_8, spXe_9, spXe_10, spXe_11, spXe_12, spXe_13, spXe_14, spXe_15, spXe_16, hX.1, x_sheet0 hX ha, e1, if_true], by simp only [fX8_film, obs, m_sheet0 M ha, if_true], h.keep f1 (frN.rf M)⟩
  · rcases one_cases n (by omega) b with hb | ⟨p, hp, rfl⟩
    · exact ⟨-2, X, M, by simp only [fX7_film, zokX_0, zokX_1, zokX_2, zokX_3, zokX_4, zokX_5, zokX_6, zokX_7, zokX_8, zokX_9, zokX_10, zokX_11, zokX_12, zokX_13, zokX_14, zokX_15, zokX_16, zlaX_1, zlaX_2, zlaX_3, zlaX_4, zlaX_5, zlaX_6, zlaX_8, zlaX_11, zlaX_12, zlaX_13, zlaX_15, zlaX_16, zp_1, zp_h, zp_r, zp_l, zletE, obs, spXe_0, spXe_1, spXe_2, spXe_3, spXe_4, spXe_5, spXe_6, spXe_7, spXe_8, spXe_9, spXe_10, spXe_11, spXe_12, spXe_13, spXe_14, spXe_15, spXe_16, hX.1, x_sheet1 hX hq, x_visit0 hX hnX hb, if_neg (ss51 q), if_true], by simp only [fX8_film, zokM_0, zokM_1, zokM_2, zokM_3, zokM_4, zokM_5, zokM_6, zokM_7, zokM_8, zokM_9, zokM_10, zokM_11, zokM_12, zokM_13, zokM_14, zokM_15, zlaM_1, zlaM_2, zlaM_3, zlaM_4, zlaM_5, zlaM_6, zlaM_7, zlaM_8, zlaM_9, zlaM_10, zlaM_11, zlaM_12, zlaM_13, zlaM_14, zlaM_15, zp_1, zp_h, zp_r, zp_l, zletE, obs, spMe_0, spMe_1, spMe_2, spMe_3, spMe_4, spMe_5, spMe_6, spMe_7, spMe_8, spMe_9, spMe_10, spMe_11, spMe_12, spMe_13, spMe_14, spMe_15, hM.1, m_sheet1 M hq, if_neg n10, m_one0 hM hnM hn5 hb, if_true], h⟩
    · obtain ⟨k, nu, s, hd, nh, d, t, sp, F, hV, hd9, hsp, hPM, hRM, hq', X1, e1, f1, hPX, h77, hac⟩ := view_of h hn5 hnX hnM hp
      have hX1 := f1.sh hX
      have hI1 := h.keep f1 (frN.rf M)
      obtain ⟨X2, M2, x1, m1, x2, x3, x4, m2, m3, m4, hS2, y1, y2, b1, b2⟩ := sheet_both hX1 hM hI1.2.2.2.2.2.2.1 hq (show 0 ≤ 2 by omega) (show 12 ≤ 40 by omega)
      have x1' : fX3_become (51 + 2 * q) 0 12 X1 = some ((), X2) := x1
      have m1' : fX8_sheet 0 (nI q) 0 12 M = some (1, M2) := m1
      have gx : frG X1 X2 := ⟨x2, fun o k => Or.inr (by rw [x3]), fun o k => by
        by_cases e : 51 ≤ o
        · exact Or.inr (Or.inr (Or.inr (Or.inl e)))
        · exact Or.inr (Or.inr (Or.inr (Or.inr (x4 o k (by omega)))))⟩
      have gm : frH M M2 := ⟨m2, m3, fun o k => by
        by_cases e : 12 ≤ o
        · exact Or.inr (Or.inr (Or.inr (Or.inl e)))
        · exact Or.inr (Or.inr (Or.inr (Or.inr (m4 o k (by omega)))))⟩
      have hX2 := gx.sh hX1
      have hM2 := gm.sh hM
      have hP2 : PcX X2 (lkN M) k nu s hd nh d t F := by
        obtain ⟨a, a3, a4, a5, a6, a8, a9, at', ar, aT⟩ := hPX
        exact ⟨fun u hu => (x4 _ _ (by omega)).trans (a u hu), (x4 _ _ (by omega)).trans a3, (x4 _ _ (by omega)).trans a4, (x4 _ _ (by omega)).trans a5, (x4 _ _ (by omega)).trans a6, (x4 _ _ (by omega)).trans a8, (x4 _ _ (by omega)).trans a9, at', by rw [x3]; exact ar, aT.mono (fun i => Or.inl (x4 _ _ (by omega))) (fun i => x4 _ _ (by omega)) (fun i => x4 _ _ (by omega))⟩
      have hQ2 : PcM M2 p n (lkN M) k nu s hd nh d := by
        obtain ⟨a, a1, a2, a3, a4, a5, a6, a7, a8, a9⟩ := hPM
        exact ⟨fun u hu => (m4 _ _ (by decide)).trans (a u hu), a1, a2, (m4 _ _ (by decide)).trans a3, (m4 _ _ (by decide)).trans a4, (m4 _ _ (by decide)).trans a5, (m4 _ _ (by decide)).trans a6, (m4 _ _ (by decide)).trans a7, (m4 _ _ (by decide)).trans a8, by rw [m4 _ _ (by decide)]; exact a9⟩
      have hR2 : RlM M2 t F := ⟨(m4 _ _ (by decide)).trans hRM.1, hRM.2.mono (fun i _ => m4 _ _ (by decide)) (m4 _ _ (by decide))⟩
      obtain ⟨r, X', M', a1, a2, a3, a4, a5⟩ := film_loop hV hq 12 0 zF zF 0 X2 M2 rfl (by decide) (by decide) hX2 hP2 hM2 hQ2 hR2 hS2 y1 y2 b1 b2
      have a1' : fX7_film_L38 0 zF (some (51 + 2 * q)) (some 7) 0 0 X2 = some (r, X') := a1
      have a2' : fX8_film_L32 0 zF (nI q) (nI p) 0 0 M2 = some (r, M') := a2
      exact ⟨r, X', M', by simp only [fX7_film, zokX_0, zokX_1, zokX_2, zokX_3, zokX_4, zokX_5, zokX_6, zokX_7, zokX_8, zokX_9, zokX_10, zokX_11, zokX_12, zokX_13, zokX_14, zokX_15, zokX_16, zlaX_1, zlaX_2, zlaX_3, zlaX_4, zlaX_5, zlaX_6, zlaX_8, zlaX_11, zlaX_12, zlaX_13, zlaX_15, zlaX_16, zp_1, zp_h, zp_r, zp_l, zletE, obs, spXe_0, spXe_1, spXe_2, spXe_3, spXe_4, spXe_5, spXe_6, spXe_7, spXe_8, spXe_9, spXe_10, spXe_11, spXe_12, spXe_13, spXe_14, spXe_15, spXe_16, hX.1, x_sheet1 hX hq, e1, if_neg (ss51 q), if_neg s7, zok_sheet hX1.1 hq, x1', a1'], by simp only [fX8_film, zokM_0, zokM_1, zokM_2, zokM_3, zokM_4, zokM_5, zokM_6, zokM_7, zokM_8, zokM_9, zokM_10, zokM_11, zokM_12, zokM_13, zokM_14, zokM_15, zlaM_1, zlaM_2, zlaM_3, zlaM_4, zlaM_5, zlaM_6, zlaM_7, zlaM_8, zlaM_9, zlaM_10, zlaM_11, zlaM_12, zlaM_13, zlaM_14, zlaM_15, zp_1, zp_h, zp_r, zp_l, zletE, obs, spMe_0, spMe_1, spMe_2, spMe_3, spMe_4, spMe_5, spMe_6, spMe_7, spMe_8, spMe_9, spMe_10, spMe_11, spMe_12, spMe_13, spMe_14, spMe_15, hM.1, m_sheet1 M hq, if_neg n10, m_one1 hM hnM hn5 hp, m1', a2'], hI1.shts (gx.tr a3) (gm.tr a4) a5⟩
