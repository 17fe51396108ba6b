/-! floorMod and modulo of -99 .. 99 by 1 .. 12 -/
def fmF (v n : Int32) : Int32 := match fX8_modulo v n z0 with
  | some q => q.1
  | none => 0
def chkF (v : Int32) (n : Nat) : Bool := ((fJ9_floorMod_7cf53 v (nI n) z0).map (fun q => q.1) == some (fmF v (nI n))) && ((fX8_modulo v (nI n) z0).isSome && (decide ((fmF v (nI n)).toNatClampNeg < n) && (fmF v (nI n) == nI (fmF v (nI n)).toNatClampNeg)))
set_option maxRecDepth 100000 in
theorem chkF_all : (List.range 199).all (fun a => (List.range 12).all (fun b => chkF (nI a - 99) (b + 1))) = true := by decide +kernel
theorem small_of {v : Int32} (h1 : -99 ≤ v.toInt) (h2 : v.toInt ≤ 99) : ∃ a, a < 199 ∧ v = nI a - 99 := by
  refine ⟨(v.toInt + 99).toNat, by omega, Int32.toInt_inj.mp ?_⟩
  have e : (nI (v.toInt + 99).toNat - nI 99).toInt = (((v.toInt + 99).toNat : Nat) : Int) - ((99 : Nat) : Int) := pk_sub_toInt (by omega) (by decide)
  show v.toInt = (nI (v.toInt + 99).toNat - nI 99).toInt
  rw [e]
  omega
def fmN (v : Int32) (n : Nat) : Nat := (fmF v (nI n)).toNatClampNeg
theorem fj9_st (v n : Int32) (X : zS) : fJ9_floorMod_7cf53 v n X = (fJ9_floorMod_7cf53 v n z0).map (fun q => (q.1, X)) := by
  simp only [fJ9_floorMod_7cf53, zlet]
  repeat' split
  all_goals rfl
theorem fx8m_st (v n : Int32) (X : zS) : fX8_modulo v n X = (fX8_modulo v n z0).map (fun q => (q.1, X)) := by
  unfold fX8_modulo
  split
  · rfl
  · split <;> rfl
theorem fm_both {v : Int32} (h1 : -99 ≤ v.toInt) (h2 : v.toInt ≤ 99) {n : Nat} (hn : 1 ≤ n) (hn2 : n ≤ 12) (X M : zS) : fJ9_floorMod_7cf53 v (nI n) X = some (nI (fmN v n), X) ∧ fX8_modulo v (nI n) M = some (nI (fmN v n), M) ∧ fmN v n < n := by
  obtain ⟨a, ha, rfl⟩ := small_of h1 h2
  have h3 := List.all_eq_true.mp (List.all_eq_true.mp chkF_all a (List.mem_range.mpr ha)) (n - 1) (List.mem_range.mpr (by omega))
  rw [show n - 1 + 1 = n by omega] at h3
  unfold chkF at h3
  simp only [Bool.and_eq_true, beq_iff_eq, decide_eq_true_eq] at h3
  obtain ⟨g1, g2, g3, g4⟩ := h3
  refine ⟨?_, ?_, g3⟩
  · rw [fj9_st]
    cases h : fJ9_floorMod_7cf53 (nI a - 99) (nI n) z0 with
    | none => rw [h] at g1; cases g1
    | some q =>
      rw [h] at g1
      have e : q.1 = fmF (nI a - 99) (nI n) := Option.some.inj g1
      show some (q.1, X) = _
      rw [e, g4]
      rfl
  · rw [fx8m_st]
    have e : fmF (nI a - 99) (nI n) = (match fX8_modulo (nI a - 99) (nI n) z0 with | some q => q.1 | none => 0) := rfl
    cases h : fX8_modulo (nI a - 99) (nI n) z0 with
    | none => rw [h] at g2; cases g2
    | some q =>
      rw [h] at e
      show some (q.1, M) = _
      have e : fmF (nI a - 99) (nI n) = q.1 := e
      rw [← e, g4]
      rfl
/-- the how manieth bit of o that is set, the least first -/
def nbN (o : Nat) : Nat → Nat → Nat → Nat
  | 0, t, _ => t
  | m + 1, t, a => if o.testBit t = true then (if a = 0 then t else nbN o m (t + 1) (a - 1)) else nbN o m (t + 1) a
theorem nbN_lt (o : Nat) : ∀ (m t a : Nat), t + m = 12 → a < ct (fun j => o.testBit j) m t → nbN o m t a < 12 ∧ o.testBit (nbN o m t a) = true
  | 0, t, a, _, h => by simp [ct] at h
  | m + 1, t, a, h1, h => by
    rw [nbN]
    rw [ct] at h
    cases hb : o.testBit t with
    | false =>
      rw [if_neg (by simp)]
      rw [hb] at h
      exact nbN_lt o m (t + 1) a (by omega) (by simpa using h)
    | true =>
      rw [hb] at h
      rw [if_pos rfl]
      by_cases c : a = 0
      · rw [if_pos c]
        exact ⟨by omega, hb⟩
      · rw [if_neg c]
        rw [if_pos rfl] at h
        exact nbN_lt o m (t + 1) (a - 1) (by omega) (by omega)
theorem x_bitAt {o : Nat} (ho : o ≤ 4095) (X : zS) : ∀ (m t n a : Nat), t + m = 12 → m < n → a < ct (fun j => o.testBit j) m t → fX6_bitAt_L4 n (nI o) (nI a) (nI t) X = some (nI (nbN o m t a), X)
  | _, _, 0, _, _, h, _ => by omega
  | 0, t, n + 1, a, _, _, h => by simp [ct] at h
  | m + 1, t, n + 1, a, h1, h2, h => by
    have h3 : ¬ (12 : Int32) ≤ nI t := nI_ge (b := 12) (a := t) (by omega) (by decide)
    have hc := ct_le (fun j => o.testBit j) m (t + 1)
    rw [nbN]
    rw [ct] at h
    cases hb : o.testBit t with
    | false =>
      rw [hb] at h
      have c := (n_bit0 ho (show t < 31 by omega)).mpr hb
      simp only [fX6_bitAt_L4, fX6_bitAt_j30, if_neg h3, if_pos c, nI_1]
      exact x_bitAt ho X m (t + 1) n a (by omega) (by omega) (by simpa using h)
    | true =>
      rw [hb, if_pos rfl] at h
      have c : ¬ ((nI o >>> (nI t &&& 31)) &&& (1 : Int32) = 0) := fun q => by rw [n_bit0 ho (show t < 31 by omega), hb] at q; cases q
      rw [if_pos rfl]
      by_cases e : a = 0
      · subst e
        simp only [fX6_bitAt_L4, if_neg h3, if_neg c, if_pos nI_0, if_true]
      · have e' : ¬ nI a = 0 := nI_ne0 (by omega) (by omega)
        have e2 : nI a + (-1) = nI (a - 1) := by
          obtain ⟨b, rfl⟩ : ∃ b, a = b + 1 := ⟨a - 1, by omega⟩
          exact pk_m1 b
        simp only [fX6_bitAt_L4, fX6_bitAt_j30, if_neg h3, if_neg c, if_neg e', nI_1, e2, if_neg e]
        exact x_bitAt ho X m (t + 1) n (a - 1) (by omega) (by omega) (by omega)
theorem m_bitAt {o : Nat} (ho : o ≤ 4095) (M : zS) : ∀ (m t n a : Nat), t + m = 12 → m < n → a < ct (fun j => o.testBit j) m t → fX8_given_L125 0 n (nI o) (nI t) (nI a) M = some (nI (nbN o m t a), M)
  | _, _, 0, _, _, h, _ => by omega
  | 0, t, n + 1, a, _, _, h => by simp [ct] at h
  | m + 1, t, n + 1, a, h1, h2, h => by
    have hc := ct_le (fun j => o.testBit j) m (t + 1)
    rw [nbN]
    rw [ct] at h
    cases hb : o.testBit t with
    | false =>
      rw [hb] at h
      have c := (n_bit0 ho (show t < 31 by omega)).mpr hb
      have ih := m_bitAt ho M m (t + 1) n a (by omega) (by omega) (by simpa using h)
      have e : nI a - 0 = nI a := by simp
      by_cases g : 0 < nI a
      · simp only [fX8_given_L125, fX8_given_j139, if_pos g, nI_1, zlet, c, e]
        exact ih
      · simp only [fX8_given_L125, fX8_given_j139, if_neg g, if_pos c, nI_1, zlet, c, e]
        exact ih
    | true =>
      rw [hb, if_pos rfl] at h
      have c := (n_bit1 ho (show t < 31 by omega)).mpr hb
      have c0 : ¬ ((1 : Int32) = 0) := by decide
      rw [if_pos rfl]
      by_cases e : a = 0
      · subst e
        have g : ¬ (0 : Int32) < nI 0 := by decide
        simp only [fX8_given_L125, if_neg g, c, if_neg c0, if_true]
      · have g : 0 < nI a := nI_lt (a := 0) (by omega) (by omega)
        have e2 : nI a - 1 = nI (a - 1) := by
          obtain ⟨b, rfl⟩ : ∃ b, a = b + 1 := ⟨a - 1, by omega⟩
          exact nI_pred b
        simp only [fX8_given_L125, fX8_given_j139, if_pos g, nI_1, zlet, c, e2, if_neg e]
        exact m_bitAt ho M m (t + 1) n (a - 1) (by omega) (by omega) (by omega)
/-- which of n is PICKED -/
def pkN (k nu d : Nat) (v : Int32) (n : Nat) : Nat := if k = 1 then 0 else if k = 2 then n - 1 else if k = 3 then nu % n else if k = 4 then (if d % 2 = 0 then fmN v n else n - 1) else fmN v n
/-- what is given by a set; -1: nothing -/
def gvS (L : Nat → Nat) (k nu s h nh d : Nat) (F : Nat → (Nat → Int32) → Int32) (st : Nat) : Int32 :=
  if opN L k s h nh st = 0 then -1 else nI (nbN (opN L k s h nh st) 12 0 (pkN k nu d (bnd (tlS F 0 0 (nI (pc st)) (nI (pc (opN L k s h nh st))) nu h d)) (pc (opN L k s h nh st))))
theorem pkN_lt {k nu d : Nat} (v : Int32) {n : Nat} (hf : fmN v n < n) (hn : 1 ≤ n) : pkN k nu d v n < n := by
  unfold pkN
  split
  · omega
  · split
    · omega
    · split
      · exact Nat.mod_lt _ hn
      · split
        · split
          · exact hf
          · omega
        · exact hf
theorem gv_or {L : Nat → Nat} {k nu s h nh d : Nat} {F : Nat → (Nat → Int32) → Int32} {st : Nat} : gvS L k nu s h nh d F st = -1 ∨ ∃ g, g < 12 ∧ (opN L k s h nh st).testBit g = true ∧ gvS L k nu s h nh d F st = nI g := by
  unfold gvS
  by_cases c : opN L k s h nh st = 0
  · rw [if_pos c]; exact Or.inl rfl
  · rw [if_neg c]
    right
    have ho := opN_le L k s h nh st
    have hp : 1 ≤ pc (opN L k s h nh st) := Nat.pos_of_ne_zero (fun q => c ((pc_zero ho).mp q))
    obtain ⟨b1, b2⟩ := bnd_int (tlS F 0 0 (nI (pc st)) (nI (pc (opN L k s h nh st))) nu h d)
    obtain ⟨-, -, hf⟩ := fm_both b1 b2 hp (pc_le _) z0 z0
    have hlt := pkN_lt (k := k) (nu := nu) (d := d) _ hf hp
    rw [pc_ct (opN L k s h nh st)] at hlt
    have h2 := nbN_lt (opN L k s h nh st) 12 0 _ rfl hlt
    rw [← pc_ct] at h2
    exact ⟨_, h2.1, h2.2, rfl⟩
/-- the class's picture of one of ASKERS in thought -/
def PcX (X : zS) (L : Nat → Nat) (k nu s h nh d t : Nat) (F : Nat → (Nat → Int32) → Int32) : Prop := LkX X L ∧ X.2.1 7 3 = nI k ∧ X.2.1 7 4 = nI nu ∧ X.2.1 7 5 = nI s ∧ X.2.1 7 6 = nI h ∧ X.2.1 7 8 = nI nh ∧ X.2.1 7 9 = nI d ∧ t < 6 ∧ X.2.2.2 7 2 = some (27 + 4 * t) ∧ TxX X t F
theorem PcX.fr {X X' : zS} {L : Nat → Nat} {k nu s h nh d t : Nat} {F : Nat → (Nat → Int32) → Int32} (hq : PcX X L k nu s h nh d t F) (g : frX X X') : PcX X' L k nu s h nh d t F := by
  obtain ⟨a, a3, a4, a5, a6, a8, a9, at', ar, aT⟩ := hq
  have e : ∀ j, X'.2.1 7 j = X.2.1 7 j := fun j => g.at (by decide) (Or.inl (by decide))
  exact ⟨g.like a, (e 3).trans a3, (e 4).trans a4, (e 5).trans a5, (e 6).trans a6, (e 8).trans a8, (e 9).trans a9, at', by rw [g.2.1]; exact ar, g.tx at' aT⟩
theorem PcM.fr {M M' : zS} {p n : Nat} {L : Nat → Nat} {k nu s h nh d : Nat} (hq : PcM M p n L k nu s h nh d) (g : frM M M') : PcM M' p n L k nu s h nh d := by
  obtain ⟨a, a1, a2, a3, a4, a5, a6, a7, a8, a9⟩ := hq
  have e : ∀ o j, o ≠ 0 ∨ j < 13 ∨ 27 < j → M'.2.1 o j = M.2.1 o j := fun o j q => g.at q
  exact ⟨fun t ht => (e 4 t (Or.inl (by decide))).trans (a t ht), a1, a2, (e 0 11 (Or.inr (Or.inl (by decide)))).trans a3, (e 5 p (Or.inl (by decide))).trans a4, (e 6 _ (Or.inl (by decide))).trans a5, (e 6 _ (Or.inl (by decide))).trans a6, (e 6 _ (Or.inl (by decide))).trans a7, (e 0 7 (Or.inr (Or.inl (by decide)))).trans a8, by rw [e 6 _ (Or.inl (by decide))]; exact a9⟩
/-- THE RULE, as the reference keeps it -/
def RlM (M : zS) (t : Nat) (F : Nat → (Nat → Int32) → Int32) : Prop := M.2.1 0 4 = nI t ∧ TxM M t F
theorem RlM.fr {M M' : zS} {t : Nat} {F : Nat → (Nat → Int32) → Int32} (h : RlM M t F) (g : frM M M') : RlM M' t F := ⟨(g.at (Or.inr (Or.inl (by decide)))).trans h.1, g.tx h.2⟩
theorem d_mod {d : Nat} (hd : d ≤ 2000) : nI d - nI d / (2 : Int32) * (2 : Int32) = nI (d % 2) := pk_rem (a := d) (d := 2) (by omega) (by decide) (by decide)
theorem x_pick {X : zS} (hX : shX X) {L : Nat → Nat} {k nu s h nh d : Nat} (hV : Vok L k nu s h nh d) (vk : X.2.1 7 3 = nI k) (vu : X.2.1 7 4 = nI nu) (vd : X.2.1 7 9 = nI d) {v : Int32} (v1 : -99 ≤ v.toInt) (v2 : v.toInt ≤ 99) {n : Nat} (hn : 1 ≤ n) (hn2 : n ≤ 12) : fX6_pickOf 7 (nI n) v X = some (nI (pkN k nu d v n), X) := by
  have h0 : 0 < nI n := nI_lt (a := 0) (by omega) (by omega)
  obtain ⟨f1, -, f2⟩ := fm_both v1 v2 hn hn2 X X
  have hnu : -99 ≤ (nI nu).toInt ∧ (nI nu).toInt ≤ 99 := by
    have := hV.2.2.1
    rw [nI_toInt (by omega)]; omega
  have hf3 : fJ9_floorMod_7cf53 (nI nu) (nI n) X = some (nI (nu % n), X) := by
    have hnn : ¬ nI n = 0 := nI_ne0 (by omega) (by omega)
    have e : nI nu - nI nu / nI n * nI n = nI (nu % n) := pk_rem (by have := hV.2.2.1; omega) (by omega) (by omega)
    have e2 : (0 : Int32) ≤ nI nu ^^^ nI n := by
      rw [n_xor]
      refine nI_pos' ?_
      have := Nat.xor_lt_two_pow (n := 12) (x := nu) (y := n) (by have := hV.2.2.1; omega) (by omega)
      omega
    simp only [fJ9_floorMod_7cf53, zlet, if_neg hnn, e, if_pos e2]
  have e1 : nI n - 1 = nI (n - 1) := by
    obtain ⟨b, rfl⟩ : ∃ b, n = b + 1 := ⟨n - 1, by omega⟩
    exact nI_pred b
  have hk := hV.2.1
  have k1 : ∀ j : Nat, j < 6 → k ≠ j → ¬ nI k = nI j := fun j hj e => kne (by omega) (by omega) e
  have hd := hV.2.2.2.2.2.2
  unfold pkN
  by_cases c1 : k = 1
  · subst c1
    simp only [fX6_pickOf, if_pos h0, zokX_0, zokX_1, zokX_2, zokX_3, zokX_4, zokX_5, zokX_6, zokX_7, zokX_8, zokX_9, zokX_10, zokX_11, zokX_12, zokX_13, zokX_14, zokX_15, zokX_16, zlaX_1, zlaX_2, zlaX_3, zlaX_4, zlaX_5, zlaX_6, zlaX_8, zlaX_11, zlaX_12, zlaX_13, zlaX_15, zlaX_16, zp_1, zp_h, zp_r, zp_l, zletE, obs, spXe_0, spXe_1, spXe_2, spXe_3, spXe_4, spXe_5, spXe_6, spXe_7, spXe_8, spXe_9, spXe_10, spXe_11, spXe_12, spXe_13, spXe_14, spXe_15, spXe_16, hX.1, vk, if_pos (show nI 1 = (1 : Int32) from rfl), if_true]
    rfl
  · have q1 : ¬ nI k = (1 : Int32) := k1 1 (by decide) c1
    by_cases c2 : k = 2
    · subst c2
      simp only [fX6_pickOf, if_pos h0, zokX_0, zokX_1, zokX_2, zokX_3, zokX_4, zokX_5, zokX_6, zokX_7, zokX_8, zokX_9, zokX_10, zokX_11, zokX_12, zokX_13, zokX_14, zokX_15, zokX_16, zlaX_1, zlaX_2, zlaX_3, zlaX_4, zlaX_5, zlaX_6, zlaX_8, zlaX_11, zlaX_12, zlaX_13, zlaX_15, zlaX_16, zp_1, zp_h, zp_r, zp_l, zletE, obs, spXe_0, spXe_1, spXe_2, spXe_3, spXe_4, spXe_5, spXe_6, spXe_7, spXe_8, spXe_9, spXe_10, spXe_11, spXe_12, spXe_13, spXe_14, spXe_15, spXe_16, hX.1, vk, if_neg q1, if_pos (show nI 2 = (2 : Int32) from rfl), e1, if_neg c1, if_true]
    · have q2 : ¬ nI k = (2 : Int32) := k1 2 (by decide) c2
      by_cases c3 : k = 3
      · subst c3
        simp only [fX6_pickOf, if_pos h0, zokX_0, zokX_1, zokX_2, zokX_3, zokX_4, zokX_5, zokX_6, zokX_7, zokX_8, zokX_9, zokX_10, zokX_11, zokX_12, zokX_13, zokX_14, zokX_15, zokX_16, zlaX_1, zlaX_2, zlaX_3, zlaX_4, zlaX_5, zlaX_6, zlaX_8, zlaX_11, zlaX_12, zlaX_13, zlaX_15, zlaX_16, zp_1, zp_h, zp_r, zp_l, zletE, obs, spXe_0, spXe_1, spXe_2, spXe_3, spXe_4, spXe_5, spXe_6, spXe_7, spXe_8, spXe_9, spXe_10, spXe_11, spXe_12, spXe_13, spXe_14, spXe_15, spXe_16, hX.1, vk, vu, if_neg q1, if_neg q2, if_pos (show nI 3 = (3 : Int32) from rfl), hf3, if_neg c1, if_neg c2, if_true]
      · have q3 : ¬ nI k = (3 : Int32) := k1 3 (by decide) c3
        by_cases c4 : k = 4
        · subst c4
          by_cases cd : d % 2 = 0
          · have e2 : nI (d % 2) = 0 := by rw [cd]; rfl
            simp only [fX6_pickOf, if_pos h0, zokX_0, zokX_1, zokX_2, zokX_3, zokX_4, zokX_5, zokX_6, zokX_7, zokX_8, zokX_9, zokX_10, zokX_11, zokX_12, zokX_13, zokX_14, zokX_15, zokX_16, zlaX_1, zlaX_2, zlaX_3, zlaX_4, zlaX_5, zlaX_6, zlaX_8, zlaX_11, zlaX_12, zlaX_13, zlaX_15, zlaX_16, zp_1, zp_h, zp_r, zp_l, zletE, obs, spXe_0, spXe_1, spXe_2, spXe_3, spXe_4, spXe_5, spXe_6, spXe_7, spXe_8, spXe_9, spXe_10, spXe_11, spXe_12, spXe_13, spXe_14, spXe_15, spXe_16, hX.1, vk, vd, if_neg q1, if_neg q2, if_neg q3, if_pos (show nI 4 = (4 : Int32) from rfl), if_neg (show ¬ (2 : Int32) = 0 by decide), d_mod hd, if_pos e2, f1, if_neg c1, if_neg c2, if_neg c3, if_true, if_pos cd]
          · have e2 : ¬ nI (d % 2) = 0 := nI_ne0 (by omega) (by omega)
            simp only [fX6_pickOf, if_pos h0, zokX_0, zokX_1, zokX_2, zokX_3, zokX_4, zokX_5, zokX_6, zokX_7, zokX_8, zokX_9, zokX_10, zokX_11, zokX_12, zokX_13, zokX_14, zokX_15, zokX_16, zlaX_1, zlaX_2, zlaX_3, zlaX_4, zlaX_5, zlaX_6, zlaX_8, zlaX_11, zlaX_12, zlaX_13, zlaX_15, zlaX_16, zp_1, zp_h, zp_r, zp_l, zletE, obs, spXe_0, spXe_1, spXe_2, spXe_3, spXe_4, spXe_5, spXe_6, spXe_7, spXe_8, spXe_9, spXe_10, spXe_11, spXe_12, spXe_13, spXe_14, spXe_15, spXe_16, hX.1, vk, vd, if_neg q1, if_neg q2, if_neg q3, if_pos (show nI 4 = (4 : Int32) from rfl), if_neg (show ¬ (2 : Int32) = 0 by decide), d_mod hd, if_neg e2, e1, if_neg c1, if_neg c2, if_neg c3, if_true, if_neg cd]
        · have q4 : ¬ nI k = (4 : Int32) := k1 4 (by decide) c4
          simp only [fX6_pickOf, if_pos h0, zokX_0, zokX_1, zokX_2, zokX_3, zokX_4, zokX_5, zokX_6, zokX_7, zokX_8, zokX_9, zokX_10, zokX_11, zokX_12, zokX_13, zokX_14, zokX_15, zokX_16, zlaX_1, zlaX_2, zlaX_3, zlaX_4, zlaX_5, zlaX_6, zlaX_8, zlaX_11, zlaX_12, zlaX_13, zlaX_15, zlaX_16, zp_1, zp_h, zp_r, zp_l, zletE, obs, spXe_0, spXe_1, spXe_2, spXe_3, spXe_4, spXe_5, spXe_6, spXe_7, spXe_8, spXe_9, spXe_10, spXe_11, spXe_12, spXe_13, spXe_14, spXe_15, spXe_16, hX.1, vk, if_neg q1, if_neg q2, if_neg q3, if_neg q4, f1, if_neg c1, if_neg c2, if_neg c3, if_neg c4]
