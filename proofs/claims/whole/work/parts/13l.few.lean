theorem dn_or {a : Nat} (ha : a ≤ 4095) (b c : Nat) : dn (dn a b) c = dn a (b ||| c) := by
  apply Nat.eq_of_testBit_eq
  intro i
  rw [dn_tb (Nat.le_trans (dn_le a b) ha), dn_tb ha, dn_tb ha, Nat.testBit_or]
  cases a.testBit i <;> cases b.testBit i <;> cases c.testBit i <;> rfl
theorem and_4095 {x : Nat} (h : x ≤ 4095) : nI x &&& (4095 : Int32) = nI x := by
  have e := pk_andN (n := x) (by omega) (m := 4095) 12 (by decide)
  rw [e, Nat.mod_eq_of_lt (by omega)]
theorem dn0 : dn 4095 0 = 4095 := by decide
theorem ops_out {L : Nat → Nat} {k s h nh st g : Nat} (hg : (opN L k s h nh st).testBit g = true) : st.testBit g = false := by
  have a : dn 4095 st ≤ 4095 := dn_le _ _
  have b : ∀ x y, x ≤ 4095 → dn x y ≤ 4095 := fun x y h => Nat.le_trans (dn_le x y) h
  have key : ∀ x y, x ≤ 4095 → (dn x y).testBit g = true → x.testBit g = true := fun x y hx h2 => by
    rw [dn_tb hx] at h2
    simp only [Bool.and_eq_true] at h2
    exact h2.1
  have base : (dn 4095 st).testBit g = true → st.testBit g = false := fun h2 => by
    rw [dn_tb (by omega)] at h2
    simp only [Bool.and_eq_true, Bool.not_eq_true'] at h2
    exact h2.2
  apply base
  unfold opN at hg
  split at hg
  · exact key _ _ a (key _ _ (b _ _ a) hg)
  · split at hg
    · exact key _ _ a (key _ _ (b _ _ a) (key _ _ (b _ _ (b _ _ a)) hg))
    · split at hg
      · exact key _ _ a hg
      · split at hg
        · exact key _ _ a (key _ _ (b _ _ a) (key _ _ (b _ _ (b _ _ a)) (key _ _ (b _ _ (b _ _ (b _ _ a))) hg)))
        · split at hg
          · exact key _ _ a (key _ _ (b _ _ a) (key _ _ (b _ _ (b _ _ a)) hg))
          · exact key _ _ a (key _ _ (b _ _ a) hg)
theorem ops_p2 {L : Nat → Nat} {k s h nh st g : Nat} (e : opN L k s h nh st = 2 ^ g) : st.testBit g = false := ops_out (k := k) (L := L) (s := s) (h := h) (nh := nh) (by rw [e, Nat.testBit_two_pow]; simp)
def FwX (X : zS) (fs : Nat → Nat) : Prop := ∀ j, j < 298 → X.2.1 2 j = nI (fs j)
def FwM (M : zS) (fs : Nat → Nat) : Prop := ∀ j, j < 298 → M.2.1 7 j = nI (fs j)
def fsN (M : zS) (j : Nat) : Nat := (M.2.1 7 j).toBitVec.toNat
theorem fw_of {X M : zS} (h : InvF X M) : FwX X (fsN M) ∧ FwM M (fsN M) ∧ ∀ j, j < 298 → 1 ≤ fsN M j ∧ fsN M j ≤ 4095 := by
  have e : ∀ j, j < 298 → M.2.1 7 j = nI (fsN M j) ∧ 1 ≤ fsN M j ∧ fsN M j ≤ 4095 := fun j hj => by
    obtain ⟨n, n1, n2, hn⟩ := (h j hj).2
    have hv : fsN M j = n := by
      unfold fsN
      rw [hn]
      exact pk_tn (by omega)
    rw [hv]
    exact ⟨hn, n1, n2⟩
  exact ⟨fun j hj => (h j hj).1.trans (e j hj).1, fun j hj => (e j hj).1, fun j hj => (e j hj).2⟩
theorem FwX.fr {X X' : zS} {fs : Nat → Nat} (h : FwX X fs) (g : frX X X') : FwX X' fs := fun j hj => (g.at (by decide) (Or.inl (by decide))).trans (h j hj)
theorem FwX.c {X X' : zS} {fs : Nat → Nat} (h : FwX X fs) (g : frC X X') : FwX X' fs := fun j hj => (g.at (by decide) (by decide) (Or.inl (by decide))).trans (h j hj)
theorem FwM.fr {X X' : zS} {fs : Nat → Nat} (h : FwM X fs) (g : frM X X') : FwM X' fs := fun j hj => (g.at (Or.inl (by decide))).trans (h j hj)
/-- all that is given -/
def nvF (gv : Nat → Int32) : Nat → Nat → Nat → Nat
  | 0, _, acc => acc
  | m + 1, j, acc => nvF gv m (j + 1) (hdS acc (gv j))
theorem gv_or' {L : Nat → Nat} {k nu s h nh d : Nat} {F : Nat → (Nat → Int32) → Int32} {st : Nat} : gvS L k nu s h nh d F st = -1 ∨ ∃ g, g < 12 ∧ gvS L k nu s h nh d F st = nI g := by
  rcases gv_or (L := L) (k := k) (nu := nu) (s := s) (h := h) (nh := nh) (d := d) (F := F) (st := st) with e | ⟨j, j1, -, j2⟩
  · exact Or.inl e
  · exact Or.inr ⟨j, j1, j2⟩
theorem x_never {L : Nat → Nat} {k nu s h nh d t : Nat} {F : Nat → (Nat → Int32) → Int32} (hV : Vok L k nu s h nh d) {fs : Nat → Nat} (hfs : ∀ j, j < 298 → fs j ≤ 4095) : ∀ (m j n acc : Nat) (X : zS), shX X → PcX X L k nu s h nh d t F → FwX X fs → acc ≤ 4095 → j + m = 298 → m < n → ∃ X', fX7_neverGiven_L19 0 n (some 7) (nI acc) (nI j) X = some (nI (dn 4095 (nvF (fun j => gvS L k nu s h nh d F (fs j)) m j acc)), X') ∧ frX X X'
  | m, j, 0, _, _, _, _, _, _, _, h => by omega
  | 0, j, n + 1, acc, X, hX, hP, hW, ha, hj, _ => by
    have e : j = 298 := by omega
    subst e
    have r01 : X.2.2.2 0 1 = some 2 := hX.r (by decide) (by decide) (by decide) (by decide)
    have c : Int32.ofNat 298 ≤ nI 298 := by decide
    refine ⟨X, ?_, frX.rf X⟩
    simp only [fX7_neverGiven_L19, zokX_0, zokX_1, zokX_2, zokX_3, zokX_4, zokX_5, zokX_6, zokX_7, zokX_8, zokX_9, zokX_10, zokX_11, zokX_12, zokX_13, zokX_14, zokX_15, zokX_16, zlaX_1, zlaX_2, zlaX_3, zlaX_4, zlaX_5, zlaX_6, zlaX_8, zlaX_11, zlaX_12, zlaX_13, zlaX_15, zlaX_16, zp_1, zp_h, zp_r, zp_l, zletE, obs, spXe_0, spXe_1, spXe_2, spXe_3, spXe_4, spXe_5, spXe_6, spXe_7, spXe_8, spXe_9, spXe_10, spXe_11, spXe_12, spXe_13, spXe_14, spXe_15, spXe_16, hX.1, r01, c, if_true, n_dn0]
    rfl
  | m + 1, j, n + 1, acc, X, hX, hP, hW, ha, hj, hn => by
    have r01 : X.2.2.2 0 1 = some 2 := hX.r (by decide) (by decide) (by decide) (by decide)
    have c : ¬ Int32.ofNat 298 ≤ nI j := nI_ge (b := 298) (a := j) (by omega) (by decide)
    have hz : zix spX 2 (nI j) = some j := zix_of rfl (by show j < 298; omega) (by decide)
    obtain ⟨X1, e1, f1⟩ := x_given hX hV hP (hfs j (by omega))
    have hX1 := f1.sh hX
    rw [nvF]
    rcases gv_or' (L := L) (k := k) (nu := nu) (s := s) (h := h) (nh := nh) (d := d) (F := F) (st := fs j) with hg | ⟨g, hg12, hg⟩
    · obtain ⟨X2, e2, f2⟩ := x_never hV hfs m (j + 1) n acc X1 hX1 (hP.fr f1) (hW.fr f1) ha (by omega) (by omega)
      refine ⟨X2, ?_, f1.tr f2⟩
      rw [hg] at e1
      have hh : hdS acc (gvS L k nu s h nh d F (fs j)) = acc := by unfold hdS; rw [hg, if_pos rfl]
      simp only [fX7_neverGiven_L19, fX7_neverGiven_j57, zokX_0, zokX_1, zokX_2, zokX_3, zokX_4, zokX_5, zokX_6, zokX_7, zokX_8, zokX_9, zokX_10, zokX_11, zokX_12, zokX_13, zokX_14, zokX_15, zokX_16, zlaX_1, zlaX_2, zlaX_3, zlaX_4, zlaX_5, zlaX_6, zlaX_8, zlaX_11, zlaX_12, zlaX_13, zlaX_15, zlaX_16, zp_1, zp_h, zp_r, zp_l, zletE, obs, spXe_0, spXe_1, spXe_2, spXe_3, spXe_4, spXe_5, spXe_6, spXe_7, spXe_8, spXe_9, spXe_10, spXe_11, spXe_12, spXe_13, spXe_14, spXe_15, spXe_16, hX.1, r01, c, if_false, hz, hW j (by omega), e1, x_thing0 X1 (a := -1) (Or.inl (by decide)), if_true, nI_1, hh]
      exact e2
    · have hh : hdS acc (gvS L k nu s h nh d F (fs j)) = acc ||| 2 ^ g := by unfold hdS; rw [hg, if_neg (nI_ne_m1 hg12), nI_clamp (by omega)]
      obtain ⟨X2, e2, f2⟩ := x_never hV hfs m (j + 1) n (acc ||| 2 ^ g) X1 hX1 (hP.fr f1) (hW.fr f1) (or_le ha (p2_le hg12)) (by omega) (by omega)
      refine ⟨X2, ?_, f1.tr f2⟩
      rw [hg] at e1
      simp only [fX7_neverGiven_L19, fX7_neverGiven_j57, zokX_0, zokX_1, zokX_2, zokX_3, zokX_4, zokX_5, zokX_6, zokX_7, zokX_8, zokX_9, zokX_10, zokX_11, zokX_12, zokX_13, zokX_14, zokX_15, zokX_16, zlaX_1, zlaX_2, zlaX_3, zlaX_4, zlaX_5, zlaX_6, zlaX_8, zlaX_11, zlaX_12, zlaX_13, zlaX_15, zlaX_16, zp_1, zp_h, zp_r, zp_l, zletE, obs, spXe_0, spXe_1, spXe_2, spXe_3, spXe_4, spXe_5, spXe_6, spXe_7, spXe_8, spXe_9, spXe_10, spXe_11, spXe_12, spXe_13, spXe_14, spXe_15, spXe_16, hX.1, r01, c, if_false, hz, hW j (by omega), e1, x_thing1 X1 hg12, if_neg n10, n_shl1 (show g < 31 by omega), n_or, nI_1, hh]
      exact e2
theorem m_never {p n0 : Nat} {L : Nat → Nat} {k nu s h nh d t : Nat} {F : Nat → (Nat → Int32) → Int32} (hV : Vok L k nu s h nh d) {fs : Nat → Nat} (hfs : ∀ j, j < 298 → fs j ≤ 4095) : ∀ (m j n acc : Nat) (M : zS), shM M → PcM M p n0 L k nu s h nh d → RlM M t F → FwM M fs → acc ≤ 4095 → j + m = 298 → m < n → ∃ M', fX8_neverOf_L6 0 n (nI p) (nI (dn 4095 acc)) (nI j) M = some (nI (dn 4095 (nvF (fun j => gvS L k nu s h nh d F (fs j)) m j acc)), M') ∧ frM M M'
  | m, j, 0, _, _, _, _, _, _, _, _, h => by omega
  | 0, j, n + 1, acc, M, hM, hP, hR, hW, ha, hj, _ => by
    have e : j = 298 := by omega
    subst e
    refine ⟨M, ?_, frM.rf M⟩
    simp only [fX8_neverOf_L6, if_pos (show (298 : Int32) ≤ nI 298 from by decide)]
    rfl
  | m + 1, j, n + 1, acc, M, hM, hP, hR, hW, ha, hj, hn => by
    have r12 : M.2.2.2 0 12 = some 7 := hM.r (by decide) (by decide)
    have c : ¬ (298 : Int32) ≤ nI j := nI_ge (b := 298) (a := j) (by omega) (by decide)
    have hz : zix spM 7 (nI j) = some j := zix_of rfl (by show j < 298; omega) (by decide)
    obtain ⟨M1, e1, f1⟩ := m_given hM hV hP hR (hfs j (by omega))
    have hM1 := f1.sh hM
    have hle : dn 4095 acc ≤ 4095 := dn_le _ _
    rw [nvF]
    rcases gv_or' (L := L) (k := k) (nu := nu) (s := s) (h := h) (nh := nh) (d := d) (F := F) (st := fs j) with hg | ⟨g, hg12, hg⟩
    · obtain ⟨M2, e2, f2⟩ := m_never hV hfs m (j + 1) n acc M1 hM1 (hP.fr f1) (hR.fr f1) (hW.fr f1) ha (by omega) (by omega)
      refine ⟨M2, ?_, f1.tr f2⟩
      rw [hg] at e1
      have hh : hdS acc (gvS L k nu s h nh d F (fs j)) = acc := by unfold hdS; rw [hg, if_pos rfl]
      simp only [fX8_neverOf_L6, fX8_neverOf_j45, zokM_0, zokM_1, zokM_2, zokM_3, zokM_4, zokM_5, zokM_6, zokM_7, zokM_8, zokM_9, zokM_10, zokM_11, zokM_12, zokM_13, zokM_14, zokM_15, zlaM_1, zlaM_2, zlaM_3, zlaM_4, zlaM_5, zlaM_6, zlaM_7, zlaM_8, zlaM_9, zlaM_10, zlaM_11, zlaM_12, zlaM_13, zlaM_14, zlaM_15, zp_1, zp_h, zp_r, zp_l, zletE, obs, spMe_0, spMe_1, spMe_2, spMe_3, spMe_4, spMe_5, spMe_6, spMe_7, spMe_8, spMe_9, spMe_10, spMe_11, spMe_12, spMe_13, spMe_14, spMe_15, hM.1, r12, if_neg c, hz, hW j (by omega), e1, if_true, nI_1, and_4095 hle, hh]
      exact e2
    · have hh : hdS acc (gvS L k nu s h nh d F (fs j)) = acc ||| 2 ^ g := by unfold hdS; rw [hg, if_neg (nI_ne_m1 hg12), nI_clamp (by omega)]
      obtain ⟨M2, e2, f2⟩ := m_never hV hfs m (j + 1) n (acc ||| 2 ^ g) M1 hM1 (hP.fr f1) (hR.fr f1) (hW.fr f1) (or_le ha (p2_le hg12)) (by omega) (by omega)
      refine ⟨M2, ?_, f1.tr f2⟩
      rw [hg] at e1
      simp only [fX8_neverOf_L6, fX8_neverOf_j45, zokM_0, zokM_1, zokM_2, zokM_3, zokM_4, zokM_5, zokM_6, zokM_7, zokM_8, zokM_9, zokM_10, zokM_11, zokM_12, zokM_13, zokM_14, zokM_15, zlaM_1, zlaM_2, zlaM_3, zlaM_4, zlaM_5, zlaM_6, zlaM_7, zlaM_8, zlaM_9, zlaM_10, zlaM_11, zlaM_12, zlaM_13, zlaM_14, zlaM_15, zp_1, zp_h, zp_r, zp_l, zletE, obs, spMe_0, spMe_1, spMe_2, spMe_3, spMe_4, spMe_5, spMe_6, spMe_7, spMe_8, spMe_9, spMe_10, spMe_11, spMe_12, spMe_13, spMe_14, spMe_15, hM.1, r12, if_neg c, hz, hW j (by omega), e1, if_neg (nI_ne_m1 hg12), n_shl1 (show g < 31 by omega), n_dn hle, dn_or (show 4095 ≤ 4095 by omega), nI_1, hh]
      exact e2
theorem t_told (a w : Int32) : TM2 Inv (fun st => fX7_told 0 a w st) (fun st => fX8_told 0 a w st) := by
  intro X M h
  have hInv := h
  obtain ⟨n, hn5, hnX, hnM⟩ := many_of h.2.2.1
  obtain ⟨⟨hX, hM⟩, hL, hD, hA, hP, hF, hS, hI, hT⟩ := h
  have h7 : (7 : Int64) = (nI 7).toInt64 := by decide
  rcases one_cases 8 (by decide) w with hw | ⟨j, hj, rfl⟩
  · have q : ∀ j : Nat, j < 8 → ¬ w = nI j := fun j hj e => by
      rcases hw with hv | hv
      · exact nI_pos (n := j) (by omega) (e ▸ hv)
      · rw [e] at hv; exact nI_ge (b := 8) hj (by decide) hv
    have q0 : ¬ w = (0 : Int32) := q 0 (by decide)
    have q7 : ¬ w = (7 : Int32) := q 7 (by decide)
    refine ⟨-2, X, M, ?_, by simp only [fX8_told, zokM_0, zokM_1, zokM_2, zokM_3, zokM_4, zokM_5, zokM_6, zokM_7, zokM_8, zokM_9, zokM_10, zokM_11, zokM_12, zokM_13, zokM_14, zokM_15, zlaM_1, zlaM_2, zlaM_3, zlaM_4, zlaM_5, zlaM_6, zlaM_7, zlaM_8, zlaM_9, zlaM_10, zlaM_11, zlaM_12, zlaM_13, zlaM_14, zlaM_15, zp_1, zp_h, zp_r, zp_l, zletE, obs, spMe_0, spMe_1, spMe_2, spMe_3, spMe_4, spMe_5, spMe_6, spMe_7, spMe_8, spMe_9, spMe_10, spMe_11, spMe_12, spMe_13, spMe_14, spMe_15, m_in0 7 (by decide) h7 hw, if_true], hInv⟩
    rcases one_cases n (by omega) a with ha | ⟨p, hp, rfl⟩
    · simp only [fX7_told, zokX_0, zokX_1, zokX_2, zokX_3, zokX_4, zokX_5, zokX_6, zokX_7, zokX_8, zokX_9, zokX_10, zokX_11, zokX_12, zokX_13, zokX_14, zokX_15, zokX_16, zlaX_1, zlaX_2, zlaX_3, zlaX_4, zlaX_5, zlaX_6, zlaX_8, zlaX_11, zlaX_12, zlaX_13, zlaX_15, zlaX_16, zp_1, zp_h, zp_r, zp_l, zletE, obs, spXe_0, spXe_1, spXe_2, spXe_3, spXe_4, spXe_5, spXe_6, spXe_7, spXe_8, spXe_9, spXe_10, spXe_11, spXe_12, spXe_13, spXe_14, spXe_15, spXe_16, hX.1, if_neg q0, if_neg q7, x_seat0 hX hnX ha, if_true]
    · have ss : ¬ (some (22 + p) = none) := fun q => by cases q
      by_cases w0 : w < 0
      · simp only [fX7_told, zokX_0, zokX_1, zokX_2, zokX_3, zokX_4, zokX_5, zokX_6, zokX_7, zokX_8, zokX_9, zokX_10, zokX_11, zokX_12, zokX_13, zokX_14, zokX_15, zokX_16, zlaX_1, zlaX_2, zlaX_3, zlaX_4, zlaX_5, zlaX_6, zlaX_8, zlaX_11, zlaX_12, zlaX_13, zlaX_15, zlaX_16, zp_1, zp_h, zp_r, zp_l, zletE, obs, spXe_0, spXe_1, spXe_2, spXe_3, spXe_4, spXe_5, spXe_6, spXe_7, spXe_8, spXe_9, spXe_10, spXe_11, spXe_12, spXe_13, spXe_14, spXe_15, spXe_16, hX.1, if_neg q0, if_neg q7, x_seat1 hX hnX hn5 hp, if_neg ss, if_pos w0]
      · have w1 : ¬ w ≤ 7 := Int32.not_le.mpr (Int32.lt_of_lt_of_le (nI_lt (a := 7) (b := 8) (by decide) (by decide)) (hw.resolve_left w0))
        simp only [fX7_told, zokX_0, zokX_1, zokX_2, zokX_3, zokX_4, zokX_5, zokX_6, zokX_7, zokX_8, zokX_9, zokX_10, zokX_11, zokX_12, zokX_13, zokX_14, zokX_15, zokX_16, zlaX_1, zlaX_2, zlaX_3, zlaX_4, zlaX_5, zlaX_6, zlaX_8, zlaX_11, zlaX_12, zlaX_13, zlaX_15, zlaX_16, zp_1, zp_h, zp_r, zp_l, zletE, obs, spXe_0, spXe_1, spXe_2, spXe_3, spXe_4, spXe_5, spXe_6, spXe_7, spXe_8, spXe_9, spXe_10, spXe_11, spXe_12, spXe_13, spXe_14, spXe_15, spXe_16, hX.1, if_neg q0, if_neg q7, x_seat1 hX hnX hn5 hp, if_neg ss, if_neg w0, if_neg w1]
  · have hin := m_in1 7 (by decide) h7 hj M
    have w0 : ¬ nI j < 0 := nI_pos (by omega)
    have w1 : nI j ≤ (7 : Int32) := nI_le (b := 7) (by omega) (by decide)
    by_cases j0 : j = 0
    · subst j0
      refine ⟨M.2.1 0 7, X, M, ?_, m_told0 hM a, hInv⟩
      simp only [fX7_told, zokX_0, zokX_1, zokX_2, zokX_3, zokX_4, zokX_5, zokX_6, zokX_7, zokX_8, zokX_9, zokX_10, zokX_11, zokX_12, zokX_13, zokX_14, zokX_15, zokX_16, zlaX_1, zlaX_2, zlaX_3, zlaX_4, zlaX_5, zlaX_6, zlaX_8, zlaX_11, zlaX_12, zlaX_13, zlaX_15, zlaX_16, zp_1, zp_h, zp_r, zp_l, zletE, obs, spXe_0, spXe_1, spXe_2, spXe_3, spXe_4, spXe_5, spXe_6, spXe_7, spXe_8, spXe_9, spXe_10, spXe_11, spXe_12, spXe_13, spXe_14, spXe_15, spXe_16, hX.1, if_pos (show nI 0 = (0 : Int32) from rfl), hD.1.1]
    · have q0 : ¬ nI j = (0 : Int32) := nI_ne0 (by omega) (by omega)
      have p0 : ¬ nI j ≤ 0 := nI_nle (by omega) (by omega)
      by_cases j7 : j = 7
      · subst j7
        have z : nI 7 = (7 : Int32) := rfl
        rcases one_cases 12 (by decide) a with ha | ⟨i, hi, rfl⟩
        · exact ⟨-2, X, M, by simp only [fX7_told, obs, if_neg q0, if_pos z, x_thing0 X ha, if_true], by simp only [fX8_told, zokM_0, zokM_1, zokM_2, zokM_3, zokM_4, zokM_5, zokM_6, zokM_7, zokM_8, zokM_9, zokM_10, zokM_11, zokM_12, zokM_13, zokM_14, zokM_15, zlaM_1, zlaM_2, zlaM_3, zlaM_4, zlaM_5, zlaM_6, zlaM_7, zlaM_8, zlaM_9, zlaM_10, zlaM_11, zlaM_12, zlaM_13, zlaM_14, zlaM_15, zp_1, zp_h, zp_r, zp_l, zletE, obs, spMe_0, spMe_1, spMe_2, spMe_3, spMe_4, spMe_5, spMe_6, spMe_7, spMe_8, spMe_9, spMe_10, spMe_11, spMe_12, spMe_13, spMe_14, spMe_15, hin, if_neg n10, if_neg p0, if_pos z, m_thing0 M ha, if_true], hInv⟩
        · have r00 : X.2.2.2 0 0 = some 1 := hX.r (by decide) (by decide) (by decide) (by decide)
          have r8 : M.2.2.2 0 8 = some 4 := hM.r (by decide) (by decide)
          have hz : zix spX 1 (nI i) = some i := zix_of rfl (by show i < 12; omega) (by decide)
          have mz : zix spM 4 (nI i) = some i := zix_of rfl (by show i < 12; omega) (by decide)
          exact ⟨M.2.1 4 i, X, M, by simp only [fX7_told, zokX_0, zokX_1, zokX_2, zokX_3, zokX_4, zokX_5, zokX_6, zokX_7, zokX_8, zokX_9, zokX_10, zokX_11, zokX_12, zokX_13, zokX_14, zokX_15, zokX_16, zlaX_1, zlaX_2, zlaX_3, zlaX_4, zlaX_5, zlaX_6, zlaX_8, zlaX_11, zlaX_12, zlaX_13, zlaX_15, zlaX_16, zp_1, zp_h, zp_r, zp_l, zletE, obs, spXe_0, spXe_1, spXe_2, spXe_3, spXe_4, spXe_5, spXe_6, spXe_7, spXe_8, spXe_9, spXe_10, spXe_11, spXe_12, spXe_13, spXe_14, spXe_15, spXe_16, hX.1, if_neg q0, if_pos z, x_thing1 X hi, if_neg n10, r00, hz, hL.1 i hi], by simp only [fX8_told, fX8_told_j43, zokM_0, zokM_1, zokM_2, zokM_3, zokM_4, zokM_5, zokM_6, zokM_7, zokM_8, zokM_9, zokM_10, zokM_11, zokM_12, zokM_13, zokM_14, zokM_15, zlaM_1, zlaM_2, zlaM_3, zlaM_4, zlaM_5, zlaM_6, zlaM_7, zlaM_8, zlaM_9, zlaM_10, zlaM_11, zlaM_12, zlaM_13, zlaM_14, zlaM_15, zp_1, zp_h, zp_r, zp_l, zletE, obs, spMe_0, spMe_1, spMe_2, spMe_3, spMe_4, spMe_5, spMe_6, spMe_7, spMe_8, spMe_9, spMe_10, spMe_11, spMe_12, spMe_13, spMe_14, spMe_15, hM.1, hin, if_neg n10, if_neg p0, if_pos z, m_thing1 M hi, if_pos (show (6 : Int32) ≤ nI 7 by decide), if_neg (show ¬ nI 7 = (6 : Int32) by decide), r8, mz], hInv⟩
      · have q7 : ¬ nI j = (7 : Int32) := kne (b := 7) (by omega) (by decide) j7
        rcases one_cases n (by omega) a with ha | ⟨p, hp, rfl⟩
        · exact ⟨-2, X, M, by simp only [fX7_told, zokX_0, zokX_1, zokX_2, zokX_3, zokX_4, zokX_5, zokX_6, zokX_7, zokX_8, zokX_9, zokX_10, zokX_11, zokX_12, zokX_13, zokX_14, zokX_15, zokX_16, zlaX_1, zlaX_2, zlaX_3, zlaX_4, zlaX_5, zlaX_6, zlaX_8, zlaX_11, zlaX_12, zlaX_13, zlaX_15, zlaX_16, zp_1, zp_h, zp_r, zp_l, zletE, obs, spXe_0, spXe_1, spXe_2, spXe_3, spXe_4, spXe_5, spXe_6, spXe_7, spXe_8, spXe_9, spXe_10, spXe_11, spXe_12, spXe_13, spXe_14, spXe_15, spXe_16, hX.1, if_neg q0, if_neg q7, x_seat0 hX hnX ha, if_true], by simp only [fX8_told, zokM_0, zokM_1, zokM_2, zokM_3, zokM_4, zokM_5, zokM_6, zokM_7, zokM_8, zokM_9, zokM_10, zokM_11, zokM_12, zokM_13, zokM_14, zokM_15, zlaM_1, zlaM_2, zlaM_3, zlaM_4, zlaM_5, zlaM_6, zlaM_7, zlaM_8, zlaM_9, zlaM_10, zlaM_11, zlaM_12, zlaM_13, zlaM_14, zlaM_15, zp_1, zp_h, zp_r, zp_l, zletE, obs, spMe_0, spMe_1, spMe_2, spMe_3, spMe_4, spMe_5, spMe_6, spMe_7, spMe_8, spMe_9, spMe_10, spMe_11, spMe_12, spMe_13, spMe_14, spMe_15, hM.1, hin, if_neg n10, if_neg p0, if_neg q7, m_one0 hM hnM hn5 ha, if_true], hInv⟩
        · have ss : ¬ (some (22 + p) = none) := fun q => by cases q
          have seat := x_seat1 hX hnX hn5 hp
          have zs := zok_seat hX.1 (show p < 5 by omega)
          by_cases j6 : j = 6
          · subst j6
            obtain ⟨k, nu, s, hd, nh, d, t, sp, F, hV, hd9, hsp, hPM, hRM, hq, X1, e1, f1, hPX, h77, hac⟩ := view_of hInv hn5 hnX hnM hp
            obtain ⟨fx, fm, fl⟩ := fw_of hF
            obtain ⟨X2, eX, f2⟩ := x_never hV (fun j hj => (fl j hj).2) 298 0 zF 0 X1 (f1.sh hX) hPX (fx.c f1) (by omega) rfl (by decide)
            obtain ⟨M2, eM, g2⟩ := m_never hV (fun j hj => (fl j hj).2) 298 0 zF 0 M hM hPM hRM fm (by omega) rfl (by decide)
            rw [dn0] at eM
            have eM' : fX8_neverOf_L6 0 zF (nI p) 4095 0 M = some _ := eM
            have eX' : fX7_neverGiven_L19 0 zF (some 7) 0 0 X1 = some _ := eX
            refine ⟨nI (dn 4095 (nvF (fun j => gvS (lkN M) k nu s hd nh d F (fsN M j)) 298 0 0)), X2, M2, ?_, ?_, hInv.keep (f1.tr f2.a.c) g2.n⟩
            · simp only [fX7_told, fX7_neverGiven, zokX_0, zokX_1, zokX_2, zokX_3, zokX_4, zokX_5, zokX_6, zokX_7, zokX_8, zokX_9, zokX_10, zokX_11, zokX_12, zokX_13, zokX_14, zokX_15, zokX_16, zlaX_1, zlaX_2, zlaX_3, zlaX_4, zlaX_5, zlaX_6, zlaX_8, zlaX_11, zlaX_12, zlaX_13, zlaX_15, zlaX_16, zp_1, zp_h, zp_r, zp_l, zletE, obs, spXe_0, spXe_1, spXe_2, spXe_3, spXe_4, spXe_5, spXe_6, spXe_7, spXe_8, spXe_9, spXe_10, spXe_11, spXe_12, spXe_13, spXe_14, spXe_15, spXe_16, hX.1, if_neg q0, if_neg q7, seat, if_neg ss, if_neg w0, if_pos w1, if_pos (show nI 6 = (6 : Int32) from rfl), e1, if_neg s7, eX']
            · simp only [fX8_told, fX8_told_j43, fX8_neverOf, zokM_0, zokM_1, zokM_2, zokM_3, zokM_4, zokM_5, zokM_6, zokM_7, zokM_8, zokM_9, zokM_10, zokM_11, zokM_12, zokM_13, zokM_14, zokM_15, zlaM_1, zlaM_2, zlaM_3, zlaM_4, zlaM_5, zlaM_6, zlaM_7, zlaM_8, zlaM_9, zlaM_10, zlaM_11, zlaM_12, zlaM_13, zlaM_14, zlaM_15, zp_1, zp_h, zp_r, zp_l, zletE, obs, spMe_0, spMe_1, spMe_2, spMe_3, spMe_4, spMe_5, spMe_6, spMe_7, spMe_8, spMe_9, spMe_10, spMe_11, spMe_12, spMe_13, spMe_14, spMe_15, hM.1, hin, if_neg n10, if_neg p0, if_neg q7, m_one1 hM hnM hn5 hp, if_pos (show (6 : Int32) ≤ nI 6 by decide), if_pos (show nI 6 = (6 : Int32) from rfl), eM']
          · have q6 : ¬ nI j = (6 : Int32) := kne (b := 6) (by omega) (by decide) j6
            by_cases j5 : j = 5
            · subst j5
              obtain ⟨i, hi6, hi1, hi2⟩ := kind_of hA hnM hn5 hp
              have r9 : M.2.2.2 0 9 = some 5 := hM.r (by decide) (by decide)
              have z5 : zix spM 5 (nI p) = some p := zix_of rfl (by show p < 5; omega) (by decide)
              exact ⟨nI i, X, M, by simp only [fX7_told, fX0_tell, zokX_0, zokX_1, zokX_2, zokX_3, zokX_4, zokX_5, zokX_6, zokX_7, zokX_8, zokX_9, zokX_10, zokX_11, zokX_12, zokX_13, zokX_14, zokX_15, zokX_16, zlaX_1, zlaX_2, zlaX_3, zlaX_4, zlaX_5, zlaX_6, zlaX_8, zlaX_11, zlaX_12, zlaX_13, zlaX_15, zlaX_16, zp_1, zp_h, zp_r, zp_l, zletE, obs, spXe_0, spXe_1, spXe_2, spXe_3, spXe_4, spXe_5, spXe_6, spXe_7, spXe_8, spXe_9, spXe_10, spXe_11, spXe_12, spXe_13, spXe_14, spXe_15, spXe_16, hX.1, if_neg q0, if_neg q7, seat, if_neg ss, if_neg w0, if_pos w1, if_neg q6, zs, if_neg (show ¬ nI 5 = (1 : Int32) by decide), if_neg (show ¬ nI 5 = (2 : Int32) by decide), if_neg (show ¬ nI 5 = (3 : Int32) by decide), if_neg (show ¬ nI 5 = (4 : Int32) by decide), hi1], by simp only [fX8_told, fX8_told_j43, zokM_0, zokM_1, zokM_2, zokM_3, zokM_4, zokM_5, zokM_6, zokM_7, zokM_8, zokM_9, zokM_10, zokM_11, zokM_12, zokM_13, zokM_14, zokM_15, zlaM_1, zlaM_2, zlaM_3, zlaM_4, zlaM_5, zlaM_6, zlaM_7, zlaM_8, zlaM_9, zlaM_10, zlaM_11, zlaM_12, zlaM_13, zlaM_14, zlaM_15, zp_1, zp_h, zp_r, zp_l, zletE, obs, spMe_0, spMe_1, spMe_2, spMe_3, spMe_4, spMe_5, spMe_6, spMe_7, spMe_8, spMe_9, spMe_10, spMe_11, spMe_12, spMe_13, spMe_14, spMe_15, hM.1, hin, if_neg n10, if_neg p0, if_neg q7, m_one1 hM hnM hn5 hp, if_neg (show ¬ (6 : Int32) ≤ nI 5 by decide), if_neg q0, if_pos (show (5 : Int32) ≤ nI 5 by decide), r9, z5, hi2], hInv⟩
            · have e2 := m_told1 hM hnM hn5 hp (show 1 ≤ j by omega) (show j ≤ 4 by omega)
              have e3 := x_tell hX (show p < 5 by omega) (show 1 ≤ j by omega) (show j ≤ 4 by omega)
              have e4 := hA.1 p (by omega) (j - 1) (by omega)
              rw [show j - 1 + 1 = j by omega, show 4 * p + (j - 1) = 4 * p + j - 1 by omega] at e4
              refine ⟨M.2.1 6 (4 * p + j - 1), X, M, ?_, e2, hInv⟩
              simp only [fX7_told, zokX_0, zokX_1, zokX_2, zokX_3, zokX_4, zokX_5, zokX_6, zokX_7, zokX_8, zokX_9, zokX_10, zokX_11, zokX_12, zokX_13, zokX_14, zokX_15, zokX_16, zlaX_1, zlaX_2, zlaX_3, zlaX_4, zlaX_5, zlaX_6, zlaX_8, zlaX_11, zlaX_12, zlaX_13, zlaX_15, zlaX_16, zp_1, zp_h, zp_r, zp_l, zletE, obs, spXe_0, spXe_1, spXe_2, spXe_3, spXe_4, spXe_5, spXe_6, spXe_7, spXe_8, spXe_9, spXe_10, spXe_11, spXe_12, spXe_13, spXe_14, spXe_15, spXe_16, hX.1, if_neg q0, if_neg q7, seat, if_neg ss, if_neg w0, if_pos w1, if_neg q6, zs, e3, e4]
