/-- the first that is best: b is the place of the best so far -/
def bF (c : Nat → Nat → Bool) : Nat → Nat → Nat → Nat
  | 0, _, b => b
  | m + 1, j, b => bF c m (j + 1) (if c b j = true then j else b)
def bsI (fs : Nat → Nat) (b : Nat) : Int32 := if b = 298 then -1 else nI (fs b)
def bvI (v : Nat → Int32) (w : Int32) (b : Nat) : Int32 := if b = 298 then w else v b
/-- how GLAD by the set at j -/
def glI (gv : Nat → Int32) (gd : Nat → Int32) (j : Nat) : Int32 := gd (gv j).toNatClampNeg
def gcB (gv : Nat → Int32) (gd : Nat → Int32) (b j : Nat) : Bool := !(gv j == -1) && !(decide (glI gv gd j ≤ bvI (glI gv gd) (-1000) b))
def ccB (gv : Nat → Int32) (cs : Nat → Int32) (g : Int32) (b j : Nat) : Bool := (gv j == g) && !(decide (bvI cs 100 b ≤ cs j))
theorem bF_le {c : Nat → Nat → Bool} : ∀ (m j b : Nat), j + m = 298 → b ≤ 298 → bF c m j b ≤ 298
  | 0, _, _, _, h => h
  | m + 1, j, b, h1, h => by
    rw [bF]
    refine bF_le m (j + 1) _ (by omega) ?_
    split <;> omega
theorem gcB_gv {gv gd : Nat → Int32} : ∀ (m j b : Nat), (b = 298 ∨ ¬ gv b = -1) → (bF (gcB gv gd) m j b = 298 ∨ ¬ gv (bF (gcB gv gd) m j b) = -1)
  | 0, _, _, h => h
  | m + 1, j, b, h => by
    rw [bF]
    refine gcB_gv m (j + 1) _ ?_
    by_cases c : gcB gv gd b j = true
    · rw [if_pos c]
      unfold gcB at c
      simp only [Bool.and_eq_true, Bool.not_eq_true', beq_eq_false_iff_ne] at c
      exact Or.inr c.1
    · rw [if_neg c]; exact h
theorem bs_ne {fs : Nat → Nat} (hfs : ∀ j, j < 298 → 1 ≤ fs j ∧ fs j ≤ 4095) {b : Nat} (hb : b ≤ 298) : bsI fs b = -1 ↔ b = 298 := by
  unfold bsI
  constructor
  · intro h
    by_cases c : b = 298
    · exact c
    · rw [if_neg c] at h
      have := congrArg Int32.toInt h
      rw [nI_toInt (by have := (hfs b (by omega)).2; omega)] at this
      have h2 : (-1 : Int32).toInt = -1 := by decide
      omega
  · intro h; rw [if_pos h]
theorem m1000 {v : Int32} (h : -99 ≤ v.toInt) : ¬ v ≤ -1000 := by
  rw [Int32.le_iff_toInt_le]
  have h2 : (-1000 : Int32).toInt = -1000 := by decide
  omega
theorem gcB0 {gv gd : Nat → Int32} {b j : Nat} (h : gv j = -1) : gcB gv gd b j = false := by unfold gcB; rw [h]; rfl
theorem glI1 {gv gd : Nat → Int32} {j g : Nat} (h : gv j = nI g) (hg : g < 12) : glI gv gd j = gd g := by unfold glI; rw [h, nI_clamp (by omega)]
theorem gcB1 {gv gd : Nat → Int32} {b j g : Nat} (h : gv j = nI g) (hg : g < 12) : gcB gv gd b j = !(decide (gd g ≤ bvI (glI gv gd) (-1000) b)) := by
  unfold gcB
  rw [glI1 h hg, h]
  have : (nI g == -1) = false := by rw [beq_eq_false_iff_ne]; exact nI_ne_m1 hg
  rw [this]
  rfl
theorem x_gladset {L : Nat → Nat} {k nu s h nh d t : Nat} {F : Nat → (Nat → Int32) → Int32} (hV : Vok L k nu s h nh d) {fs : Nat → Nat} (hfs : ∀ j, j < 298 → 1 ≤ fs j ∧ fs j ≤ 4095) : ∀ (m j n b : Nat) (X : zS), shX X → PcX X L k nu s h nh d t F → FwX X fs → b ≤ 298 → j + m = 298 → m < n → ∃ X', fX7_gladdestSet_L7 0 n (some 7) (bsI fs b) (bvI (glI (fun j => gvS L k nu s h nh d F (fs j)) (gdS k nu h nh d F)) 0 b) (nI j) X = some (bsI fs (bF (gcB (fun j => gvS L k nu s h nh d F (fs j)) (gdS k nu h nh d F)) m j b), X') ∧ frX X X'
  | m, j, 0, _, _, _, _, _, _, _, h => by omega
  | 0, j, n + 1, b, X, hX, hP, hW, hb, hj, _ => by
    have e : j = 298 := by omega
    subst e
    have r01 : X.2.2.2 0 1 = some 2 := hX.r (by decide) (by decide) (by decide) (by decide)
    have c : Int32.ofNat 298 ≤ nI 298 := by decide
    refine ⟨X, ?_, frX.rf X⟩
    simp only [fX7_gladdestSet_L7, zokX_0, zokX_1, zokX_2, zokX_3, zokX_4, zokX_5, zokX_6, zokX_7, zokX_8, zokX_9, zokX_10, zokX_11, zokX_12, zokX_13, zokX_14, zokX_15, zokX_16, zlaX_1, zlaX_2, zlaX_3, zlaX_4, zlaX_5, zlaX_6, zlaX_8, zlaX_11, zlaX_12, zlaX_13, zlaX_15, zlaX_16, zp_1, zp_h, zp_r, zp_l, zletE, obs, spXe_0, spXe_1, spXe_2, spXe_3, spXe_4, spXe_5, spXe_6, spXe_7, spXe_8, spXe_9, spXe_10, spXe_11, spXe_12, spXe_13, spXe_14, spXe_15, spXe_16, hX.1, r01, c, if_true]
    rfl
  | m + 1, j, n + 1, b, X, hX, hP, hW, hb, hj, hn => by
    have r01 : X.2.2.2 0 1 = some 2 := hX.r (by decide) (by decide) (by decide) (by decide)
    have c : ¬ Int32.ofNat 298 ≤ nI j := nI_ge (b := 298) (a := j) (by omega) (by decide)
    have hz : zix spX 2 (nI j) = some j := zix_of rfl (by show j < 298; omega) (by decide)
    obtain ⟨X1, e1, f1⟩ := x_given hX hV hP (hfs j (by omega)).2
    have hX1 := f1.sh hX
    have hP1 := hP.fr f1
    have hW1 := hW.fr f1
    rw [bF]
    rcases gv_or' (L := L) (k := k) (nu := nu) (s := s) (h := h) (nh := nh) (d := d) (F := F) (st := fs j) with hg | ⟨g, hg12, hg⟩
    · obtain ⟨X2, e2, f2⟩ := x_gladset hV hfs m (j + 1) n b X1 hX1 hP1 hW1 hb (by omega) (by omega)
      refine ⟨X2, ?_, f1.tr f2⟩
      rw [hg] at e1
      have hc : gcB (fun j => gvS L k nu s h nh d F (fs j)) (gdS k nu h nh d F) b j = false := gcB0 (gv := fun j => gvS L k nu s h nh d F (fs j)) hg
      simp only [fX7_gladdestSet_L7, fX7_gladdestSet_j69, zokX_0, zokX_1, zokX_2, zokX_3, zokX_4, zokX_5, zokX_6, zokX_7, zokX_8, zokX_9, zokX_10, zokX_11, zokX_12, zokX_13, zokX_14, zokX_15, zokX_16, zlaX_1, zlaX_2, zlaX_3, zlaX_4, zlaX_5, zlaX_6, zlaX_8, zlaX_11, zlaX_12, zlaX_13, zlaX_15, zlaX_16, zp_1, zp_h, zp_r, zp_l, zletE, obs, spXe_0, spXe_1, spXe_2, spXe_3, spXe_4, spXe_5, spXe_6, spXe_7, spXe_8, spXe_9, spXe_10, spXe_11, spXe_12, spXe_13, spXe_14, spXe_15, spXe_16, hX.1, r01, c, if_false, hz, hW j (by omega), e1, if_true, nI_1]
      rw [hc, if_neg (show ¬ (false = true) by decide)]
      exact e2
    · obtain ⟨X2, e2, f2⟩ := x_glad7 hX1 hV hP1 hg12
      have hX2 := f2.sh hX1
      have hP2 := hP1.fr f2
      have hW2 := hW1.fr f2
      have r01' : X2.2.2.2 0 1 = some 2 := hX2.r (by decide) (by decide) (by decide) (by decide)
      have hgl : glI (fun j => gvS L k nu s h nh d F (fs j)) (gdS k nu h nh d F) j = gdS k nu h nh d F g := glI1 (gv := fun j => gvS L k nu s h nh d F (fs j)) hg hg12
      have hX1n := hX1.1
      have hX2n := hX2.1
      have hne := nI_ne_m1 hg12
      rw [hg] at e1
      have hcg : gcB (fun j => gvS L k nu s h nh d F (fs j)) (gdS k nu h nh d F) b j = !(decide (gdS k nu h nh d F g ≤ bvI (glI (fun j => gvS L k nu s h nh d F (fs j)) (gdS k nu h nh d F)) (-1000) b)) := gcB1 (gv := fun j => gvS L k nu s h nh d F (fs j)) hg hg12
      have hgi := (gdS_int k nu h nh d F g).1
      have take : ∃ X', fX7_gladdestSet_L7 0 n (some 7) (nI (fs j)) (gdS k nu h nh d F g) (nI (j + 1)) X2 = some (bsI fs (bF (gcB (fun j => gvS L k nu s h nh d F (fs j)) (gdS k nu h nh d F)) m (j + 1) j), X') ∧ frX X2 X' := by
        have := x_gladset hV hfs m (j + 1) n j X2 hX2 hP2 hW2 (by omega) (by omega) (by omega)
        rw [show bsI fs j = nI (fs j) from if_neg (by omega), show bvI (glI (fun j => gvS L k nu s h nh d F (fs j)) (gdS k nu h nh d F)) 0 j = gdS k nu h nh d F g from (if_neg (by omega)).trans hgl] at this
        exact this
      by_cases cb : b = 298
      · have c1 : bsI fs b = -1 := by unfold bsI; rw [if_pos cb]
        obtain ⟨X3, e3, f3⟩ := take
        refine ⟨X3, ?_, (f1.tr f2).tr f3⟩
        have hc : gcB (fun j => gvS L k nu s h nh d F (fs j)) (gdS k nu h nh d F) b j = true := by
          rw [hcg]
          have : bvI (glI (fun j => gvS L k nu s h nh d F (fs j)) (gdS k nu h nh d F)) (-1000) b = -1000 := by unfold bvI; rw [if_pos cb]
          rw [this, decide_eq_false (m1000 hgi)]
          rfl
        simp only [fX7_gladdestSet_L7, fX7_gladdestSet_j58, fX7_gladdestSet_j69, zokX_0, zokX_1, zokX_2, zokX_3, zokX_4, zokX_5, zokX_6, zokX_7, zokX_8, zokX_9, zokX_10, zokX_11, zokX_12, zokX_13, zokX_14, zokX_15, zokX_16, zlaX_1, zlaX_2, zlaX_3, zlaX_4, zlaX_5, zlaX_6, zlaX_8, zlaX_11, zlaX_12, zlaX_13, zlaX_15, zlaX_16, zp_1, zp_h, zp_r, zp_l, zletE, obs, spXe_0, spXe_1, spXe_2, spXe_3, spXe_4, spXe_5, spXe_6, spXe_7, spXe_8, spXe_9, spXe_10, spXe_11, spXe_12, spXe_13, spXe_14, spXe_15, spXe_16, hX.1, hX1n, hX2n, r01, r01', c, if_false, hz, hW j (by omega), hW2 j (by omega), e1, if_neg hne, e2, if_pos c1, nI_1]
        rw [hc, if_pos rfl]
        exact e3
      · have c1 : ¬ bsI fs b = -1 := fun q => cb ((bs_ne hfs hb).mp q)
        have hv : bvI (glI (fun j => gvS L k nu s h nh d F (fs j)) (gdS k nu h nh d F)) (-1000) b = bvI (glI (fun j => gvS L k nu s h nh d F (fs j)) (gdS k nu h nh d F)) 0 b := by unfold bvI; rw [if_neg cb, if_neg cb]
        by_cases c2 : gdS k nu h nh d F g ≤ bvI (glI (fun j => gvS L k nu s h nh d F (fs j)) (gdS k nu h nh d F)) 0 b
        · obtain ⟨X3, e3, f3⟩ := x_gladset hV hfs m (j + 1) n b X2 hX2 hP2 hW2 hb (by omega) (by omega)
          refine ⟨X3, ?_, (f1.tr f2).tr f3⟩
          have hc : gcB (fun j => gvS L k nu s h nh d F (fs j)) (gdS k nu h nh d F) b j = false := by rw [hcg, hv, decide_eq_true c2]; rfl
          simp only [fX7_gladdestSet_L7, fX7_gladdestSet_j69, zokX_0, zokX_1, zokX_2, zokX_3, zokX_4, zokX_5, zokX_6, zokX_7, zokX_8, zokX_9, zokX_10, zokX_11, zokX_12, zokX_13, zokX_14, zokX_15, zokX_16, zlaX_1, zlaX_2, zlaX_3, zlaX_4, zlaX_5, zlaX_6, zlaX_8, zlaX_11, zlaX_12, zlaX_13, zlaX_15, zlaX_16, zp_1, zp_h, zp_r, zp_l, zletE, obs, spXe_0, spXe_1, spXe_2, spXe_3, spXe_4, spXe_5, spXe_6, spXe_7, spXe_8, spXe_9, spXe_10, spXe_11, spXe_12, spXe_13, spXe_14, spXe_15, spXe_16, hX.1, hX1n, hX2n, r01, c, if_false, hz, hW j (by omega), e1, if_neg hne, e2, if_neg c1, if_pos c2, nI_1]
          rw [hc, if_neg (show ¬ (false = true) by decide)]
          exact e3
        · obtain ⟨X3, e3, f3⟩ := take
          refine ⟨X3, ?_, (f1.tr f2).tr f3⟩
          have hc : gcB (fun j => gvS L k nu s h nh d F (fs j)) (gdS k nu h nh d F) b j = true := by rw [hcg, hv, decide_eq_false c2]; rfl
          simp only [fX7_gladdestSet_L7, fX7_gladdestSet_j58, fX7_gladdestSet_j69, zokX_0, zokX_1, zokX_2, zokX_3, zokX_4, zokX_5, zokX_6, zokX_7, zokX_8, zokX_9, zokX_10, zokX_11, zokX_12, zokX_13, zokX_14, zokX_15, zokX_16, zlaX_1, zlaX_2, zlaX_3, zlaX_4, zlaX_5, zlaX_6, zlaX_8, zlaX_11, zlaX_12, zlaX_13, zlaX_15, zlaX_16, zp_1, zp_h, zp_r, zp_l, zletE, obs, spXe_0, spXe_1, spXe_2, spXe_3, spXe_4, spXe_5, spXe_6, spXe_7, spXe_8, spXe_9, spXe_10, spXe_11, spXe_12, spXe_13, spXe_14, spXe_15, spXe_16, hX.1, hX1n, hX2n, r01, r01', c, if_false, hz, hW j (by omega), hW2 j (by omega), e1, if_neg hne, e2, if_neg c1, if_neg c2, nI_1]
          rw [hc, if_pos rfl]
          exact e3
theorem m_gladset {p n0 : Nat} {L : Nat → Nat} {k nu s h nh d t : Nat} {F : Nat → (Nat → Int32) → Int32} (hV : Vok L k nu s h nh d) {fs : Nat → Nat} (hfs : ∀ j, j < 298 → 1 ≤ fs j ∧ fs j ≤ 4095) (w : Int32) : ∀ (m j n b : Nat) (M : zS), shM M → PcM M p n0 L k nu s h nh d → RlM M t F → FwM M fs → b ≤ 298 → j + m = 298 → m < n → ∃ M', fX8_gladdest_L32 0 n (nI p) w (bsI fs b) (bvI (glI (fun j => gvS L k nu s h nh d F (fs j)) (gdS k nu h nh d F)) (-1000) b) (nI j) M = some (if w = 0 then bsI fs (bF (gcB (fun j => gvS L k nu s h nh d F (fs j)) (gdS k nu h nh d F)) m j b) else bvI (glI (fun j => gvS L k nu s h nh d F (fs j)) (gdS k nu h nh d F)) (-1000) (bF (gcB (fun j => gvS L k nu s h nh d F (fs j)) (gdS k nu h nh d F)) m j b), M') ∧ frM M M'
  | m, j, 0, _, _, _, _, _, _, _, _, h => by omega
  | 0, j, n + 1, b, M, hM, hP, hR, hW, hb, hj, _ => by
    have e : j = 298 := by omega
    subst e
    refine ⟨M, ?_, frM.rf M⟩
    simp only [fX8_gladdest_L32, if_pos (show (298 : Int32) ≤ nI 298 from by decide), bF]
    by_cases c : w = 0
    · rw [if_pos c, if_pos c]
    · rw [if_neg c, if_neg c]
  | m + 1, j, n + 1, b, M, hM, hP, hR, hW, hb, hj, hn => by
    have r12 : M.2.2.2 0 12 = some 7 := hM.r (by decide) (by decide)
    have c : ¬ (298 : Int32) ≤ nI j := nI_ge (b := 298) (a := j) (by omega) (by decide)
    have hz : zix spM 7 (nI j) = some j := zix_of rfl (by show j < 298; omega) (by decide)
    obtain ⟨M1, e1, f1⟩ := m_given hM hV hP hR (hfs j (by omega)).2
    have hM1 := f1.sh hM
    have hP1 := hP.fr f1
    have hR1 := hR.fr f1
    have hW1 := hW.fr f1
    rw [bF]
    rcases gv_or' (L := L) (k := k) (nu := nu) (s := s) (h := h) (nh := nh) (d := d) (F := F) (st := fs j) with hg | ⟨g, hg12, hg⟩
    · obtain ⟨M2, e2, f2⟩ := m_gladset hV hfs w m (j + 1) n b M1 hM1 hP1 hR1 hW1 hb (by omega) (by omega)
      refine ⟨M2, ?_, f1.tr f2⟩
      rw [hg] at e1
      have hc : gcB (fun j => gvS L k nu s h nh d F (fs j)) (gdS k nu h nh d F) b j = false := gcB0 (gv := fun j => gvS L k nu s h nh d F (fs j)) hg
      have hle : (-1000 : Int32) ≤ bvI (glI (fun j => gvS L k nu s h nh d F (fs j)) (gdS k nu h nh d F)) (-1000) b := by
        unfold bvI
        split
        · exact Int32.le_refl _
        · have := (gdS_int k nu h nh d F ((gvS L k nu s h nh d F (fs b)).toNatClampNeg)).1
          rw [Int32.le_iff_toInt_le]
          have h2 : (-1000 : Int32).toInt = -1000 := by decide
          show _ ≤ (gdS k nu h nh d F ((gvS L k nu s h nh d F (fs b)).toNatClampNeg)).toInt
          omega
      simp only [fX8_gladdest_L32, fX8_gladdest_j73, fX8_gladdest_j94, zokM_0, zokM_1, zokM_2, zokM_3, zokM_4, zokM_5, zokM_6, zokM_7, zokM_8, zokM_9, zokM_10, zokM_11, zokM_12, zokM_13, zokM_14, zokM_15, zlaM_1, zlaM_2, zlaM_3, zlaM_4, zlaM_5, zlaM_6, zlaM_7, zlaM_8, zlaM_9, zlaM_10, zlaM_11, zlaM_12, zlaM_13, zlaM_14, zlaM_15, zp_1, zp_h, zp_r, zp_l, zletE, obs, spMe_0, spMe_1, spMe_2, spMe_3, spMe_4, spMe_5, spMe_6, spMe_7, spMe_8, spMe_9, spMe_10, spMe_11, spMe_12, spMe_13, spMe_14, spMe_15, hM.1, r12, if_neg c, hz, hW j (by omega), e1, if_true, if_pos hle, nI_1]
      rw [hc, if_neg (show ¬ (false = true) by decide)]
      exact e2
    · obtain ⟨M2, e2, f2⟩ := m_glad8 hM1 hV hP1 hR1 hg12
      have hM2 := f2.sh hM1
      have hP2 := hP1.fr f2
      have hR2 := hR1.fr f2
      have hW2 := hW1.fr f2
      have r12' : M2.2.2.2 0 12 = some 7 := hM2.r (by decide) (by decide)
      have hgl : glI (fun j => gvS L k nu s h nh d F (fs j)) (gdS k nu h nh d F) j = gdS k nu h nh d F g := glI1 (gv := fun j => gvS L k nu s h nh d F (fs j)) hg hg12
      have hM1n := hM1.1
      have hM2n := hM2.1
      have hne := nI_ne_m1 hg12
      rw [hg] at e1
      have hcg : gcB (fun j => gvS L k nu s h nh d F (fs j)) (gdS k nu h nh d F) b j = !(decide (gdS k nu h nh d F g ≤ bvI (glI (fun j => gvS L k nu s h nh d F (fs j)) (gdS k nu h nh d F)) (-1000) b)) := gcB1 (gv := fun j => gvS L k nu s h nh d F (fs j)) hg hg12
      by_cases c2 : gdS k nu h nh d F g ≤ bvI (glI (fun j => gvS L k nu s h nh d F (fs j)) (gdS k nu h nh d F)) (-1000) b
      · obtain ⟨M3, e3, f3⟩ := m_gladset hV hfs w m (j + 1) n b M2 hM2 hP2 hR2 hW2 hb (by omega) (by omega)
        refine ⟨M3, ?_, (f1.tr f2).tr f3⟩
        rw [decide_eq_true c2] at hcg
        simp only [fX8_gladdest_L32, fX8_gladdest_j73, fX8_gladdest_j94, zokM_0, zokM_1, zokM_2, zokM_3, zokM_4, zokM_5, zokM_6, zokM_7, zokM_8, zokM_9, zokM_10, zokM_11, zokM_12, zokM_13, zokM_14, zokM_15, zlaM_1, zlaM_2, zlaM_3, zlaM_4, zlaM_5, zlaM_6, zlaM_7, zlaM_8, zlaM_9, zlaM_10, zlaM_11, zlaM_12, zlaM_13, zlaM_14, zlaM_15, zp_1, zp_h, zp_r, zp_l, zletE, obs, spMe_0, spMe_1, spMe_2, spMe_3, spMe_4, spMe_5, spMe_6, spMe_7, spMe_8, spMe_9, spMe_10, spMe_11, spMe_12, spMe_13, spMe_14, spMe_15, hM.1, hM1n, r12, if_neg c, hz, hW j (by omega), e1, if_neg hne, e2, if_pos c2, nI_1]
        rw [hcg, if_neg (show ¬ ((!true) = true) by decide)]
        exact e3
      · have := m_gladset hV hfs w m (j + 1) n j M2 hM2 hP2 hR2 hW2 (by omega) (by omega) (by omega)
        rw [show bsI fs j = nI (fs j) from if_neg (by omega), show bvI (glI (fun j => gvS L k nu s h nh d F (fs j)) (gdS k nu h nh d F)) (-1000) j = gdS k nu h nh d F g from (if_neg (by omega)).trans hgl] at this
        obtain ⟨M3, e3, f3⟩ := this
        refine ⟨M3, ?_, (f1.tr f2).tr f3⟩
        rw [decide_eq_false c2] at hcg
        simp only [fX8_gladdest_L32, fX8_gladdest_j73, fX8_gladdest_j94, zokM_0, zokM_1, zokM_2, zokM_3, zokM_4, zokM_5, zokM_6, zokM_7, zokM_8, zokM_9, zokM_10, zokM_11, zokM_12, zokM_13, zokM_14, zokM_15, zlaM_1, zlaM_2, zlaM_3, zlaM_4, zlaM_5, zlaM_6, zlaM_7, zlaM_8, zlaM_9, zlaM_10, zlaM_11, zlaM_12, zlaM_13, zlaM_14, zlaM_15, zp_1, zp_h, zp_r, zp_l, zletE, obs, spMe_0, spMe_1, spMe_2, spMe_3, spMe_4, spMe_5, spMe_6, spMe_7, spMe_8, spMe_9, spMe_10, spMe_11, spMe_12, spMe_13, spMe_14, spMe_15, hM.1, hM1n, hM2n, r12, r12', if_neg c, hz, hW j (by omega), hW2 j (by omega), e1, if_neg hne, e2, if_neg c2, nI_1]
        rw [hcg, if_pos (show (!false) = true by decide)]
        exact e3
theorem t_gladdest (a w : Int32) : TM2 Inv (fun st => fX7_gladdest 0 a w st) (fun st => fX8_gladdest 0 a w st) := by
  intro X M h
  obtain ⟨n, hn5, hnX, hnM⟩ := many_of h.2.2.1
  have hX := h.1.1
  have hM := h.1.2
  have l1 : (1 : Int64) = (nI 1).toInt64 := by decide
  rcases one_cases n (by omega) a with ha | ⟨p, hp, rfl⟩
  · exact ⟨-2000, X, M, by simp only [fX7_gladdest, zokX_0, zokX_1, zokX_2, zokX_3, zokX_4, zokX_5, zokX_6, zokX_7, zokX_8, zokX_9, zokX_10, zokX_11, zokX_12, zokX_13, zokX_14, zokX_15, zokX_16, zlaX_1, zlaX_2, zlaX_3, zlaX_4, zlaX_5, zlaX_6, zlaX_8, zlaX_11, zlaX_12, zlaX_13, zlaX_15, zlaX_16, zp_1, zp_h, zp_r, zp_l, zletE, obs, spXe_0, spXe_1, spXe_2, spXe_3, spXe_4, spXe_5, spXe_6, spXe_7, spXe_8, spXe_9, spXe_10, spXe_11, spXe_12, spXe_13, spXe_14, spXe_15, spXe_16, hX.1, x_visit0 hX hnX ha, if_true], by simp only [fX8_gladdest, zokM_0, zokM_1, zokM_2, zokM_3, zokM_4, zokM_5, zokM_6, zokM_7, zokM_8, zokM_9, zokM_10, zokM_11, zokM_12, zokM_13, zokM_14, zokM_15, zlaM_1, zlaM_2, zlaM_3, zlaM_4, zlaM_5, zlaM_6, zlaM_7, zlaM_8, zlaM_9, zlaM_10, zlaM_11, zlaM_12, zlaM_13, zlaM_14, zlaM_15, zp_1, zp_h, zp_r, zp_l, zletE, obs, spMe_0, spMe_1, spMe_2, spMe_3, spMe_4, spMe_5, spMe_6, spMe_7, spMe_8, spMe_9, spMe_10, spMe_11, spMe_12, spMe_13, spMe_14, spMe_15, hM.1, m_one0 hM hnM hn5 ha, if_true], h⟩
  · obtain ⟨k, nu, s, hd, nh, d, t, sp, F, hV, hd9, hsp, hPM, hRM, hq, X1, e1, f1, hPX, h77, hac⟩ := view_of h hn5 hnX hnM hp
    have hX1 := f1.sh hX
    have hX1n := hX1.1
    have one := m_one1 hM hnM hn5 hp
    rcases one_cases 2 (by decide) w with hw | ⟨j, hj, rfl⟩
    · refine ⟨-2000, X1, M, ?_, by simp only [fX8_gladdest, zokM_0, zokM_1, zokM_2, zokM_3, zokM_4, zokM_5, zokM_6, zokM_7, zokM_8, zokM_9, zokM_10, zokM_11, zokM_12, zokM_13, zokM_14, zokM_15, zlaM_1, zlaM_2, zlaM_3, zlaM_4, zlaM_5, zlaM_6, zlaM_7, zlaM_8, zlaM_9, zlaM_10, zlaM_11, zlaM_12, zlaM_13, zlaM_14, zlaM_15, zp_1, zp_h, zp_r, zp_l, zletE, obs, spMe_0, spMe_1, spMe_2, spMe_3, spMe_4, spMe_5, spMe_6, spMe_7, spMe_8, spMe_9, spMe_10, spMe_11, spMe_12, spMe_13, spMe_14, spMe_15, hM.1, one, if_neg n10, m_in0 1 (by decide) l1 hw, if_true], h.keep f1 (frN.rf M)⟩
      by_cases c0 : w < 0
      · simp only [fX7_gladdest, zokX_0, zokX_1, zokX_2, zokX_3, zokX_4, zokX_5, zokX_6, zokX_7, zokX_8, zokX_9, zokX_10, zokX_11, zokX_12, zokX_13, zokX_14, zokX_15, zokX_16, zlaX_1, zlaX_2, zlaX_3, zlaX_4, zlaX_5, zlaX_6, zlaX_8, zlaX_11, zlaX_12, zlaX_13, zlaX_15, zlaX_16, zp_1, zp_h, zp_r, zp_l, zletE, obs, spXe_0, spXe_1, spXe_2, spXe_3, spXe_4, spXe_5, spXe_6, spXe_7, spXe_8, spXe_9, spXe_10, spXe_11, spXe_12, spXe_13, spXe_14, spXe_15, spXe_16, hX.1, e1, if_neg s7, if_pos c0]
      · have c1 : ¬ w ≤ 1 := Int32.not_le.mpr (Int32.lt_of_lt_of_le (nI_lt (a := 1) (b := 2) (by decide) (by decide)) (hw.resolve_left c0))
        simp only [fX7_gladdest, zokX_0, zokX_1, zokX_2, zokX_3, zokX_4, zokX_5, zokX_6, zokX_7, zokX_8, zokX_9, zokX_10, zokX_11, zokX_12, zokX_13, zokX_14, zokX_15, zokX_16, zlaX_1, zlaX_2, zlaX_3, zlaX_4, zlaX_5, zlaX_6, zlaX_8, zlaX_11, zlaX_12, zlaX_13, zlaX_15, zlaX_16, zp_1, zp_h, zp_r, zp_l, zletE, obs, spXe_0, spXe_1, spXe_2, spXe_3, spXe_4, spXe_5, spXe_6, spXe_7, spXe_8, spXe_9, spXe_10, spXe_11, spXe_12, spXe_13, spXe_14, spXe_15, spXe_16, hX.1, e1, if_neg s7, if_neg c0, if_neg c1]
    · have c0 : ¬ nI j < 0 := nI_pos (by omega)
      have c1 : nI j ≤ (1 : Int32) := nI_le (b := 1) (by omega) (by decide)
      have hin := m_in1 1 (by decide) l1 hj M
      obtain ⟨fx, fm, fl⟩ := fw_of h.2.2.2.2.2.1
      obtain ⟨X2, eX, f2⟩ := x_gladset hV fl 298 0 zF 298 X1 hX1 hPX (fx.c f1) (by omega) rfl (by decide)
      obtain ⟨M2, eM, g2⟩ := m_gladset hV fl (nI j) 298 0 zF 298 M hM hPM hRM fm (by omega) rfl (by decide)
      generalize hB : bF (gcB (fun j => gvS (lkN M) k nu s hd nh d F (fsN M j)) (gdS k nu hd nh d F)) 298 0 298 = B at eX eM
      have hB1 : B ≤ 298 := by rw [← hB]; exact bF_le 298 0 298 rfl (by omega)
      have hB2 : B = 298 ∨ ¬ gvS (lkN M) k nu s hd nh d F (fsN M B) = -1 := by rw [← hB]; exact gcB_gv 298 0 298 (Or.inl rfl)
      have eX' : fX7_gladdestSet_L7 0 zF (some 7) (-1) 0 0 X1 = some (bsI (fsN M) B, X2) := eX
      have eM' : fX8_gladdest_L32 0 zF (nI p) (nI j) (-1) (-1000) 0 M = _ := eM
      rcases (show j = 0 ∨ j = 1 by omega) with rfl | rfl
      · exact ⟨bsI (fsN M) B, X2, M2, by simp only [fX7_gladdest, fX7_gladdestSet, zokX_0, zokX_1, zokX_2, zokX_3, zokX_4, zokX_5, zokX_6, zokX_7, zokX_8, zokX_9, zokX_10, zokX_11, zokX_12, zokX_13, zokX_14, zokX_15, zokX_16, zlaX_1, zlaX_2, zlaX_3, zlaX_4, zlaX_5, zlaX_6, zlaX_8, zlaX_11, zlaX_12, zlaX_13, zlaX_15, zlaX_16, zp_1, zp_h, zp_r, zp_l, zletE, obs, spXe_0, spXe_1, spXe_2, spXe_3, spXe_4, spXe_5, spXe_6, spXe_7, spXe_8, spXe_9, spXe_10, spXe_11, spXe_12, spXe_13, spXe_14, spXe_15, spXe_16, hX.1, hX1n, e1, if_neg s7, if_neg c0, if_pos c1, eX', if_pos (show nI 0 = (0 : Int32) from rfl)], by simp only [fX8_gladdest, zokM_0, zokM_1, zokM_2, zokM_3, zokM_4, zokM_5, zokM_6, zokM_7, zokM_8, zokM_9, zokM_10, zokM_11, zokM_12, zokM_13, zokM_14, zokM_15, zlaM_1, zlaM_2, zlaM_3, zlaM_4, zlaM_5, zlaM_6, zlaM_7, zlaM_8, zlaM_9, zlaM_10, zlaM_11, zlaM_12, zlaM_13, zlaM_14, zlaM_15, zp_1, zp_h, zp_r, zp_l, zletE, obs, spMe_0, spMe_1, spMe_2, spMe_3, spMe_4, spMe_5, spMe_6, spMe_7, spMe_8, spMe_9, spMe_10, spMe_11, spMe_12, spMe_13, spMe_14, spMe_15, hM.1, one, if_neg n10, hin, eM', if_pos (show nI 0 = (0 : Int32) from rfl)], h.keep (f1.tr f2.a.c) g2.n⟩
      · have z1 : ¬ nI 1 = (0 : Int32) := by decide
        by_cases cB : B = 298
        · have q1 : bsI (fsN M) B = -1 := by unfold bsI; rw [if_pos cB]
          exact ⟨-1000, X2, M2, by simp only [fX7_gladdest, fX7_gladdestSet, zokX_0, zokX_1, zokX_2, zokX_3, zokX_4, zokX_5, zokX_6, zokX_7, zokX_8, zokX_9, zokX_10, zokX_11, zokX_12, zokX_13, zokX_14, zokX_15, zokX_16, zlaX_1, zlaX_2, zlaX_3, zlaX_4, zlaX_5, zlaX_6, zlaX_8, zlaX_11, zlaX_12, zlaX_13, zlaX_15, zlaX_16, zp_1, zp_h, zp_r, zp_l, zletE, obs, spXe_0, spXe_1, spXe_2, spXe_3, spXe_4, spXe_5, spXe_6, spXe_7, spXe_8, spXe_9, spXe_10, spXe_11, spXe_12, spXe_13, spXe_14, spXe_15, spXe_16, hX.1, hX1n, e1, if_neg s7, if_neg c0, if_pos c1, eX', if_neg z1, if_pos q1], by simp only [fX8_gladdest, zokM_0, zokM_1, zokM_2, zokM_3, zokM_4, zokM_5, zokM_6, zokM_7, zokM_8, zokM_9, zokM_10, zokM_11, zokM_12, zokM_13, zokM_14, zokM_15, zlaM_1, zlaM_2, zlaM_3, zlaM_4, zlaM_5, zlaM_6, zlaM_7, zlaM_8, zlaM_9, zlaM_10, zlaM_11, zlaM_12, zlaM_13, zlaM_14, zlaM_15, zp_1, zp_h, zp_r, zp_l, zletE, obs, spMe_0, spMe_1, spMe_2, spMe_3, spMe_4, spMe_5, spMe_6, spMe_7, spMe_8, spMe_9, spMe_10, spMe_11, spMe_12, spMe_13, spMe_14, spMe_15, hM.1, one, if_neg n10, hin, eM', if_neg z1, show bvI (glI (fun j => gvS (lkN M) k nu s hd nh d F (fsN M j)) (gdS k nu hd nh d F)) (-1000) B = -1000 from by unfold bvI; rw [if_pos cB]], h.keep (f1.tr f2.a.c) g2.n⟩
        · have hBl : B < 298 := by omega
          have q1 : bsI (fsN M) B = nI (fsN M B) := by unfold bsI; rw [if_neg cB]
          have q2 : ¬ nI (fsN M B) = -1 := by rw [← q1]; exact fun q => cB ((bs_ne fl hB1).mp q)
          have hX2 := f2.sh hX1
          have hP2 := hPX.fr f2
          obtain ⟨X3, e3, f3⟩ := x_given hX2 hV hP2 (fl B hBl).2
          have hX3 := f3.sh hX2
          have hP3 := hP2.fr f3
          rcases gv_or' (L := lkN M) (k := k) (nu := nu) (s := s) (h := hd) (nh := nh) (d := d) (F := F) (st := fsN M B) with hg | ⟨g, hg12, hg⟩
          · rcases hB2 with q | q
            · exact absurd q cB
            · exact absurd hg q
          · obtain ⟨X4, e4, f4⟩ := x_glad7 hX3 hV hP3 hg12
            rw [hg] at e3
            have hX2n := hX2.1
            have hX3n := hX3.1
            have q3 : bvI (glI (fun j => gvS (lkN M) k nu s hd nh d F (fsN M j)) (gdS k nu hd nh d F)) (-1000) B = gdS k nu hd nh d F g := (if_neg cB).trans (glI1 (gv := fun j => gvS (lkN M) k nu s hd nh d F (fsN M j)) hg hg12)
            rw [q1] at eX'
            exact ⟨gdS k nu hd nh d F g, X4, M2, by simp only [fX7_gladdest, fX7_gladdestSet, zokX_0, zokX_1, zokX_2, zokX_3, zokX_4, zokX_5, zokX_6, zokX_7, zokX_8, zokX_9, zokX_10, zokX_11, zokX_12, zokX_13, zokX_14, zokX_15, zokX_16, zlaX_1, zlaX_2, zlaX_3, zlaX_4, zlaX_5, zlaX_6, zlaX_8, zlaX_11, zlaX_12, zlaX_13, zlaX_15, zlaX_16, zp_1, zp_h, zp_r, zp_l, zletE, obs, spXe_0, spXe_1, spXe_2, spXe_3, spXe_4, spXe_5, spXe_6, spXe_7, spXe_8, spXe_9, spXe_10, spXe_11, spXe_12, spXe_13, spXe_14, spXe_15, spXe_16, hX.1, hX1n, hX2n, hX3n, e1, if_neg s7, if_neg c0, if_pos c1, eX', if_neg z1, if_neg q2, e3, e4], by simp only [fX8_gladdest, zokM_0, zokM_1, zokM_2, zokM_3, zokM_4, zokM_5, zokM_6, zokM_7, zokM_8, zokM_9, zokM_10, zokM_11, zokM_12, zokM_13, zokM_14, zokM_15, zlaM_1, zlaM_2, zlaM_3, zlaM_4, zlaM_5, zlaM_6, zlaM_7, zlaM_8, zlaM_9, zlaM_10, zlaM_11, zlaM_12, zlaM_13, zlaM_14, zlaM_15, zp_1, zp_h, zp_r, zp_l, zletE, obs, spMe_0, spMe_1, spMe_2, spMe_3, spMe_4, spMe_5, spMe_6, spMe_7, spMe_8, spMe_9, spMe_10, spMe_11, spMe_12, spMe_13, spMe_14, spMe_15, hM.1, one, if_neg n10, hin, eM', if_neg z1, q3], h.keep (((f1.tr f2.a.c).tr f3.a.c).tr f4.a.c) g2.n⟩
