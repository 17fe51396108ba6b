/-- alike but for field f of the one in thought, names, stacks -/
def frV (f : Nat) (X X' : zS) : Prop := X'.1 = X.1 ∧ X'.2.2.2 = X.2.2.2 ∧ ∀ o k, o = 8 ∨ (∃ t, t < 6 ∧ ((o = 27 + 4 * t ∧ k = 5) ∨ o = 30 + 4 * t)) ∨ (o = 7 ∧ k = f) ∨ X'.2.1 o k = X.2.1 o k
theorem frV.rf (f : Nat) (X : zS) : frV f X X := ⟨rfl, rfl, fun _ _ => Or.inr (Or.inr (Or.inr rfl))⟩
theorem frV.step {f : Nat} {X0 X X' : zS} {v : Int32} (h : frV f X0 X) (g : frX (zp X 7 f v) X') : frV f X0 X' := ⟨g.1.trans h.1, g.2.1.trans h.2.1, fun o k => by
  rcases g.2.2 o k with a | a | a
  · exact Or.inl a
  · exact Or.inr (Or.inl a)
  · by_cases e : o = 7 ∧ k = f
    · exact Or.inr (Or.inr (Or.inl e))
    · rw [zp_h, if_neg e] at a
      rcases h.2.2 o k with b | b | b | b
      · exact Or.inl b
      · exact Or.inr (Or.inl b)
      · exact Or.inr (Or.inr (Or.inl b))
      · exact Or.inr (Or.inr (Or.inr (a.trans b)))⟩
theorem frV.a {f : Nat} {X X' : zS} (h : frV f X X') : frA X X' := ⟨h.1, h.2.1, fun o k => by
  rcases h.2.2 o k with a | a | a | a
  · exact Or.inr (Or.inl a)
  · exact Or.inr (Or.inr (Or.inl a))
  · exact Or.inl a.1
  · exact Or.inr (Or.inr (Or.inr a))⟩
/-- the picture with field f changed -/
theorem frV.pc {f : Nat} {X0 X : zS} (h : frV f X0 X) {L : Nat → Nat} {k nu s hd nh d t : Nat} {F : Nat → (Nat → Int32) → Int32} (hP : PcX X0 L k nu s hd nh d t F) (v : Int32) : LkX (zp X 7 f v) L ∧ (∀ j, j ≠ f → (zp X 7 f v).2.1 7 j = X0.2.1 7 j) ∧ (zp X 7 f v).2.1 7 f = v ∧ (zp X 7 f v).2.2.2 7 2 = some (27 + 4 * t) ∧ TxX (zp X 7 f v) t F := by
  obtain ⟨a, a3, a4, a5, a6, a8, a9, at', ar, aT⟩ := hP
  have g : frA X0 (zp X 7 f v) := h.a.zp f v
  refine ⟨g.like a, fun j hj => ?_, by rw [zp_h, if_pos ⟨rfl, rfl⟩], ?_, g.tx at' aT⟩
  · rw [zp_h, if_neg (fun q => hj q.2)]
    rcases h.2.2 7 j with b | ⟨u, hu, b⟩ | b | b
    · omega
    · omega
    · exact absurd b.2 hj
    · exact b
  · rw [zp_r, h.2.1]; exact ar
theorem frV.sht {f : Nat} {X0 X M : zS} {q m : Nat} (h : frV f X0 X) (hS : Sht X0 M q m) (v : Int32) : Sht (zp X 7 f v) M q m := hS.fr (fun o k ho => by
  rw [zp_h, if_neg (by omega)]
  exact h.a.at (by omega) (by omega) (Or.inr ho)) (fun _ _ _ => rfl)
theorem frV.sh {f : Nat} {X0 X : zS} (h : frV f X0 X) (hX : shX X0) (v : Int32) : shX (zp X 7 f v) := h.a.sh hX
theorem x_kinds {X0 : zS} (hX0 : shX X0) {q : Nat} {P : Nat → Bool} (hp : ∀ (X : zS) (v : Nat), v < 6 → frV 3 X0 X → ∃ r X', fX7_firstOther (some (51 + 2 * q)) (some 7) (zp X 7 3 (nI v)) = some (r, X') ∧ frX (zp X 7 3 (nI v)) X' ∧ (r = -1 ↔ P v = true)) : ∀ (m j n acc : Nat) (X : zS), j + m = 6 → m < n → frV 3 X0 X → ∃ X', fX7_fittingKinds_L4 n (some (51 + 2 * q)) (some 7) (nI acc) (nI j) X = some (nI (stU P m j acc), X') ∧ frV 3 X0 X'
  | m, j, 0, _, _, _, h, _ => by omega
  | 0, j, n + 1, acc, X, e, _, hf => by
    have c : (6 : Int32) ≤ nI j := by rw [show j = 6 by omega]; decide
    refine ⟨X, ?_, hf⟩
    simp only [fX7_fittingKinds_L4, if_pos c]
    rfl
  | m + 1, j, n + 1, acc, X, e, hn, hf => by
    have c : ¬ (6 : Int32) ≤ nI j := nI_ge (b := 6) (by omega) (by decide)
    have hsh := n_shl1 (show j < 31 by omega)
    have hXn : X.1 = 59 := hf.1.trans hX0.1
    obtain ⟨r, X1, e1, f1, hr⟩ := hp X j (by omega) hf
    have hf1 := hf.step f1
    rw [stU]
    by_cases hP : P j = true
    · have hr1 : r = -1 := hr.mpr hP
      obtain ⟨X2, e2, f2⟩ := x_kinds hX0 hp m (j + 1) n (acc ||| 2 ^ j) X1 (by omega) (by omega) hf1
      refine ⟨X2, ?_, f2⟩
      rw [if_pos hP]
      simp only [fX7_fittingKinds_L4, fX7_fittingKinds_j30, zokX_0, zokX_1, zokX_2, zokX_3, zokX_4, zokX_5, zokX_6, zokX_7, zokX_8, zokX_9, zokX_10, zokX_11, zokX_12, zokX_13, zokX_14, zokX_15, zokX_16, zlaX_1, zlaX_2, zlaX_3, zlaX_4, zlaX_5, zlaX_6, zlaX_8, zlaX_11, zlaX_12, zlaX_13, zlaX_15, zlaX_16, zp_1, zp_h, zp_r, zp_l, zletE, obs, spXe_0, spXe_1, spXe_2, spXe_3, spXe_4, spXe_5, spXe_6, spXe_7, spXe_8, spXe_9, spXe_10, spXe_11, spXe_12, spXe_13, spXe_14, spXe_15, spXe_16, hXn, if_neg c, e1, if_pos hr1, hsh, n_or, nI_1]
      exact e2
    · have hr1 : ¬ r = -1 := fun q => hP (hr.mp q)
      obtain ⟨X2, e2, f2⟩ := x_kinds hX0 hp m (j + 1) n acc X1 (by omega) (by omega) hf1
      refine ⟨X2, ?_, f2⟩
      rw [if_neg hP]
      simp only [fX7_fittingKinds_L4, fX7_fittingKinds_j30, zokX_0, zokX_1, zokX_2, zokX_3, zokX_4, zokX_5, zokX_6, zokX_7, zokX_8, zokX_9, zokX_10, zokX_11, zokX_12, zokX_13, zokX_14, zokX_15, zokX_16, zlaX_1, zlaX_2, zlaX_3, zlaX_4, zlaX_5, zlaX_6, zlaX_8, zlaX_11, zlaX_12, zlaX_13, zlaX_15, zlaX_16, zp_1, zp_h, zp_r, zp_l, zletE, obs, spXe_0, spXe_1, spXe_2, spXe_3, spXe_4, spXe_5, spXe_6, spXe_7, spXe_8, spXe_9, spXe_10, spXe_11, spXe_12, spXe_13, spXe_14, spXe_15, spXe_16, hXn, if_neg c, e1, if_neg hr1, nI_1]
      exact e2
theorem x_nums {X0 : zS} (hX0 : shX X0) {q : Nat} {P : Nat → Bool} (hp : ∀ (X : zS) (v : Nat), v < 10 → frV 4 X0 X → ∃ r X', fX7_firstOther (some (51 + 2 * q)) (some 7) (zp X 7 4 (nI v)) = some (r, X') ∧ frX (zp X 7 4 (nI v)) X' ∧ (r = -1 ↔ P v = true)) : ∀ (m j n acc : Nat) (X : zS), j + m = 10 → m < n → frV 4 X0 X → ∃ X', fX7_fittingNumbers_L4 n (some (51 + 2 * q)) (some 7) (nI acc) (nI j) X = some (nI (stU P m j acc), X') ∧ frV 4 X0 X'
  | m, j, 0, _, _, _, h, _ => by omega
  | 0, j, n + 1, acc, X, e, _, hf => by
    have c : (9 : Int32) < nI j := by rw [show j = 10 by omega]; decide
    refine ⟨X, ?_, hf⟩
    simp only [fX7_fittingNumbers_L4, if_pos c]
    rfl
  | m + 1, j, n + 1, acc, X, e, hn, hf => by
    have c : ¬ (9 : Int32) < nI j := nI_nlt (a := 9) (by omega) (by decide)
    have hsh := n_shl1 (show j < 31 by omega)
    have hXn : X.1 = 59 := hf.1.trans hX0.1
    obtain ⟨r, X1, e1, f1, hr⟩ := hp X j (by omega) hf
    have hf1 := hf.step f1
    rw [stU]
    by_cases hP : P j = true
    · have hr1 : r = -1 := hr.mpr hP
      obtain ⟨X2, e2, f2⟩ := x_nums hX0 hp m (j + 1) n (acc ||| 2 ^ j) X1 (by omega) (by omega) hf1
      refine ⟨X2, ?_, f2⟩
      rw [if_pos hP]
      simp only [fX7_fittingNumbers_L4, fX7_fittingNumbers_j30, zokX_0, zokX_1, zokX_2, zokX_3, zokX_4, zokX_5, zokX_6, zokX_7, zokX_8, zokX_9, zokX_10, zokX_11, zokX_12, zokX_13, zokX_14, zokX_15, zokX_16, zlaX_1, zlaX_2, zlaX_3, zlaX_4, zlaX_5, zlaX_6, zlaX_8, zlaX_11, zlaX_12, zlaX_13, zlaX_15, zlaX_16, zp_1, zp_h, zp_r, zp_l, zletE, obs, spXe_0, spXe_1, spXe_2, spXe_3, spXe_4, spXe_5, spXe_6, spXe_7, spXe_8, spXe_9, spXe_10, spXe_11, spXe_12, spXe_13, spXe_14, spXe_15, spXe_16, hXn, if_neg c, e1, if_pos hr1, hsh, n_or, nI_1]
      exact e2
    · have hr1 : ¬ r = -1 := fun q => hP (hr.mp q)
      obtain ⟨X2, e2, f2⟩ := x_nums hX0 hp m (j + 1) n acc X1 (by omega) (by omega) hf1
      refine ⟨X2, ?_, f2⟩
      rw [if_neg hP]
      simp only [fX7_fittingNumbers_L4, fX7_fittingNumbers_j30, zokX_0, zokX_1, zokX_2, zokX_3, zokX_4, zokX_5, zokX_6, zokX_7, zokX_8, zokX_9, zokX_10, zokX_11, zokX_12, zokX_13, zokX_14, zokX_15, zokX_16, zlaX_1, zlaX_2, zlaX_3, zlaX_4, zlaX_5, zlaX_6, zlaX_8, zlaX_11, zlaX_12, zlaX_13, zlaX_15, zlaX_16, zp_1, zp_h, zp_r, zp_l, zletE, obs, spXe_0, spXe_1, spXe_2, spXe_3, spXe_4, spXe_5, spXe_6, spXe_7, spXe_8, spXe_9, spXe_10, spXe_11, spXe_12, spXe_13, spXe_14, spXe_15, spXe_16, hXn, if_neg c, e1, if_neg hr1, nI_1]
      exact e2
theorem x_days {X0 : zS} (hX0 : shX X0) {q : Nat} {P : Nat → Bool} (hp : ∀ (X : zS) (v : Nat), v < 100 → frV 9 X0 X → ∃ r X', fX7_firstOther (some (51 + 2 * q)) (some 7) (zp X 7 9 (nI v)) = some (r, X') ∧ frX (zp X 7 9 (nI v)) X' ∧ (r = -1 ↔ P v = true)) : ∀ (m j n acc : Nat) (X : zS), j + m = 100 → m < n → frV 9 X0 X → ∃ X', fX7_fittingDays_L4 n (some (51 + 2 * q)) (some 7) (nI acc) (nI j) X = some (nI (ctU P m j acc), X') ∧ frV 9 X0 X'
  | m, j, 0, _, _, _, h, _ => by omega
  | 0, j, n + 1, acc, X, e, _, hf => by
    have c : (100 : Int32) ≤ nI j := by rw [show j = 100 by omega]; decide
    refine ⟨X, ?_, hf⟩
    simp only [fX7_fittingDays_L4, if_pos c]
    rfl
  | m + 1, j, n + 1, acc, X, e, hn, hf => by
    have c : ¬ (100 : Int32) ≤ nI j := nI_ge (b := 100) (by omega) (by decide)
    have hXn : X.1 = 59 := hf.1.trans hX0.1
    obtain ⟨r, X1, e1, f1, hr⟩ := hp X j (by omega) hf
    have hf1 := hf.step f1
    rw [ctU]
    by_cases hP : P j = true
    · have hr1 : r = -1 := hr.mpr hP
      obtain ⟨X2, e2, f2⟩ := x_days hX0 hp m (j + 1) n (acc + 1) X1 (by omega) (by omega) hf1
      refine ⟨X2, ?_, f2⟩
      rw [if_pos hP]
      simp only [fX7_fittingDays_L4, fX7_fittingDays_j27, zokX_0, zokX_1, zokX_2, zokX_3, zokX_4, zokX_5, zokX_6, zokX_7, zokX_8, zokX_9, zokX_10, zokX_11, zokX_12, zokX_13, zokX_14, zokX_15, zokX_16, zlaX_1, zlaX_2, zlaX_3, zlaX_4, zlaX_5, zlaX_6, zlaX_8, zlaX_11, zlaX_12, zlaX_13, zlaX_15, zlaX_16, zp_1, zp_h, zp_r, zp_l, zletE, obs, spXe_0, spXe_1, spXe_2, spXe_3, spXe_4, spXe_5, spXe_6, spXe_7, spXe_8, spXe_9, spXe_10, spXe_11, spXe_12, spXe_13, spXe_14, spXe_15, spXe_16, hXn, if_neg c, e1, if_pos hr1, nI_1]
      exact e2
    · have hr1 : ¬ r = -1 := fun q => hP (hr.mp q)
      obtain ⟨X2, e2, f2⟩ := x_days hX0 hp m (j + 1) n acc X1 (by omega) (by omega) hf1
      refine ⟨X2, ?_, f2⟩
      rw [if_neg hP]
      simp only [fX7_fittingDays_L4, fX7_fittingDays_j27, zokX_0, zokX_1, zokX_2, zokX_3, zokX_4, zokX_5, zokX_6, zokX_7, zokX_8, zokX_9, zokX_10, zokX_11, zokX_12, zokX_13, zokX_14, zokX_15, zokX_16, zlaX_1, zlaX_2, zlaX_3, zlaX_4, zlaX_5, zlaX_6, zlaX_8, zlaX_11, zlaX_12, zlaX_13, zlaX_15, zlaX_16, zp_1, zp_h, zp_r, zp_l, zletE, obs, spXe_0, spXe_1, spXe_2, spXe_3, spXe_4, spXe_5, spXe_6, spXe_7, spXe_8, spXe_9, spXe_10, spXe_11, spXe_12, spXe_13, spXe_14, spXe_15, spXe_16, hXn, if_neg c, e1, if_neg hr1, nI_1]
      exact e2
theorem x_fday {X0 : zS} (hX0 : shX X0) {q : Nat} {P : Nat → Bool} (hp : ∀ (X : zS) (v : Nat), v < 100 → frV 9 X0 X → ∃ r X', fX7_firstOther (some (51 + 2 * q)) (some 7) (zp X 7 9 (nI v)) = some (r, X') ∧ frX (zp X 7 9 (nI v)) X' ∧ (r = -1 ↔ P v = true)) : ∀ (m j n : Nat) (X : zS), j + m = 100 → m < n → frV 9 X0 X → ∃ X', fX7_firstFittingDay_L2 n (some (51 + 2 * q)) (some 7) (nI j) X = some (fsU P m j, X') ∧ frV 9 X0 X'
  | m, j, 0, _, _, h, _ => by omega
  | 0, j, n + 1, X, e, _, hf => by
    have c : (100 : Int32) ≤ nI j := by rw [show j = 100 by omega]; decide
    refine ⟨X, ?_, hf⟩
    simp only [fX7_firstFittingDay_L2, if_pos c]
    rfl
  | m + 1, j, n + 1, X, e, hn, hf => by
    have c : ¬ (100 : Int32) ≤ nI j := nI_ge (b := 100) (by omega) (by decide)
    have hXn : X.1 = 59 := hf.1.trans hX0.1
    obtain ⟨r, X1, e1, f1, hr⟩ := hp X j (by omega) hf
    have hf1 := hf.step f1
    rw [fsU]
    by_cases hP : P j = true
    · have hr1 : r = -1 := hr.mpr hP
      refine ⟨X1, ?_, hf1⟩
      rw [if_pos hP]
      simp only [fX7_firstFittingDay_L2, zokX_0, zokX_1, zokX_2, zokX_3, zokX_4, zokX_5, zokX_6, zokX_7, zokX_8, zokX_9, zokX_10, zokX_11, zokX_12, zokX_13, zokX_14, zokX_15, zokX_16, zlaX_1, zlaX_2, zlaX_3, zlaX_4, zlaX_5, zlaX_6, zlaX_8, zlaX_11, zlaX_12, zlaX_13, zlaX_15, zlaX_16, zp_1, zp_h, zp_r, zp_l, zletE, obs, spXe_0, spXe_1, spXe_2, spXe_3, spXe_4, spXe_5, spXe_6, spXe_7, spXe_8, spXe_9, spXe_10, spXe_11, spXe_12, spXe_13, spXe_14, spXe_15, spXe_16, hXn, if_neg c, e1, if_pos hr1]
    · have hr1 : ¬ r = -1 := fun q => hP (hr.mp q)
      obtain ⟨X2, e2, f2⟩ := x_fday hX0 hp m (j + 1) n X1 (by omega) (by omega) hf1
      refine ⟨X2, ?_, f2⟩
      rw [if_neg hP]
      simp only [fX7_firstFittingDay_L2, zokX_0, zokX_1, zokX_2, zokX_3, zokX_4, zokX_5, zokX_6, zokX_7, zokX_8, zokX_9, zokX_10, zokX_11, zokX_12, zokX_13, zokX_14, zokX_15, zokX_16, zlaX_1, zlaX_2, zlaX_3, zlaX_4, zlaX_5, zlaX_6, zlaX_8, zlaX_11, zlaX_12, zlaX_13, zlaX_15, zlaX_16, zp_1, zp_h, zp_r, zp_l, zletE, obs, spXe_0, spXe_1, spXe_2, spXe_3, spXe_4, spXe_5, spXe_6, spXe_7, spXe_8, spXe_9, spXe_10, spXe_11, spXe_12, spXe_13, spXe_14, spXe_15, spXe_16, hXn, if_neg c, e1, if_neg hr1, nI_1]
      exact e2
theorem x_things {X0 : zS} (hX0 : shX X0) {q s : Nat} {P : Nat → Bool} (hp : ∀ (X : zS) (v : Nat), v < 12 → frV 5 X0 X → ∃ r X', fX7_firstOther (some (51 + 2 * q)) (some 7) (zp X 7 5 (nI (s ^^^ 2 ^ v))) = some (r, X') ∧ frX (zp X 7 5 (nI (s ^^^ 2 ^ v))) X' ∧ (r = -1 ↔ P v = true)) : ∀ (m j n acc : Nat) (X : zS), j + m = 12 → m < n → frV 5 X0 X → ∃ X', fX7_fittingThings_L10 n (some (51 + 2 * q)) (some 7) (nI acc) (nI s) (nI j) X = some (nI (stU P m j acc), X') ∧ frV 5 X0 X'
  | m, j, 0, _, _, _, h, _ => by omega
  | 0, j, n + 1, acc, X, e, _, hf => by
    have c : (12 : Int32) ≤ nI j := by rw [show j = 12 by omega]; decide
    refine ⟨X, ?_, hf⟩
    simp only [fX7_fittingThings_L10, if_pos c]
    rfl
  | m + 1, j, n + 1, acc, X, e, hn, hf => by
    have c : ¬ (12 : Int32) ≤ nI j := nI_ge (b := 12) (by omega) (by decide)
    have hsh := n_shl1 (show j < 31 by omega)
    have hXn : X.1 = 59 := hf.1.trans hX0.1
    obtain ⟨r, X1, e1, f1, hr⟩ := hp X j (by omega) hf
    have hf1 := hf.step f1
    rw [stU]
    by_cases hP : P j = true
    · have hr1 : r = -1 := hr.mpr hP
      obtain ⟨X2, e2, f2⟩ := x_things hX0 hp m (j + 1) n (acc ||| 2 ^ j) X1 (by omega) (by omega) hf1
      refine ⟨X2, ?_, f2⟩
      rw [if_pos hP]
      simp only [fX7_fittingThings_L10, fX7_fittingThings_j43, zokX_0, zokX_1, zokX_2, zokX_3, zokX_4, zokX_5, zokX_6, zokX_7, zokX_8, zokX_9, zokX_10, zokX_11, zokX_12, zokX_13, zokX_14, zokX_15, zokX_16, zlaX_1, zlaX_2, zlaX_3, zlaX_4, zlaX_5, zlaX_6, zlaX_8, zlaX_11, zlaX_12, zlaX_13, zlaX_15, zlaX_16, zp_1, zp_h, zp_r, zp_l, zletE, obs, spXe_0, spXe_1, spXe_2, spXe_3, spXe_4, spXe_5, spXe_6, spXe_7, spXe_8, spXe_9, spXe_10, spXe_11, spXe_12, spXe_13, spXe_14, spXe_15, spXe_16, hXn, if_neg c, hsh, n_xor, e1, if_pos hr1, n_or, nI_1]
      exact e2
    · have hr1 : ¬ r = -1 := fun q => hP (hr.mp q)
      obtain ⟨X2, e2, f2⟩ := x_things hX0 hp m (j + 1) n acc X1 (by omega) (by omega) hf1
      refine ⟨X2, ?_, f2⟩
      rw [if_neg hP]
      simp only [fX7_fittingThings_L10, fX7_fittingThings_j43, zokX_0, zokX_1, zokX_2, zokX_3, zokX_4, zokX_5, zokX_6, zokX_7, zokX_8, zokX_9, zokX_10, zokX_11, zokX_12, zokX_13, zokX_14, zokX_15, zokX_16, zlaX_1, zlaX_2, zlaX_3, zlaX_4, zlaX_5, zlaX_6, zlaX_8, zlaX_11, zlaX_12, zlaX_13, zlaX_15, zlaX_16, zp_1, zp_h, zp_r, zp_l, zletE, obs, spXe_0, spXe_1, spXe_2, spXe_3, spXe_4, spXe_5, spXe_6, spXe_7, spXe_8, spXe_9, spXe_10, spXe_11, spXe_12, spXe_13, spXe_14, spXe_15, spXe_16, hXn, if_neg c, hsh, n_xor, e1, if_neg hr1, nI_1]
      exact e2
/-- TEXTS: alike but for THE RULE of the one in thought, names, stacks -/
def frY (X X' : zS) : Prop := X'.1 = X.1 ∧ (∀ o k, (o = 7 ∧ k = 2) ∨ X'.2.2.2 o k = X.2.2.2 o k) ∧ ∀ o k, o = 8 ∨ (∃ t, t < 6 ∧ ((o = 27 + 4 * t ∧ k = 5) ∨ o = 30 + 4 * t)) ∨ X'.2.1 o k = X.2.1 o k
theorem frY.step {X0 X X' : zS} {v : Option Nat} (h : frY X0 X) (g : frX (zpr X 7 2 v) X') : frY X0 X' := ⟨g.1.trans h.1, fun o k => by
  rw [g.2.1, zpr_r]
  by_cases e : o = 7 ∧ k = 2
  · exact Or.inl e
  · rw [if_neg e]; exact h.2.1 o k, fun o k => by
  rcases g.2.2 o k with a | a | a
  · exact Or.inl a
  · exact Or.inr (Or.inl a)
  · rw [zpr_h] at a
    rcases h.2.2 o k with b | b | b
    · exact Or.inl b
    · exact Or.inr (Or.inl b)
    · exact Or.inr (Or.inr (a.trans b))⟩
theorem frY.c {X X' : zS} (h : frY X X') : frC X X' := ⟨h.1, h.2.1, fun o k => Or.inr (h.2.2 o k)⟩
theorem x_texts {X0 : zS} (hX0 : shX X0) {q cnt : Nat} (hc : cnt ≤ 6) (h11 : X0.2.1 0 11 = nI cnt) {P : Nat → Bool} (hp : ∀ (X : zS) (v : Nat), v < cnt → frY X0 X → ∃ r X', fX7_firstOther (some (51 + 2 * q)) (some 7) (zpr X 7 2 (some (27 + 4 * v))) = some (r, X') ∧ frX (zpr X 7 2 (some (27 + 4 * v))) X' ∧ (r = -1 ↔ P v = true)) : ∀ (m j n acc : Nat) (X : zS), j + m = cnt → m < n → frY X0 X → ∃ X', fX7_fittingTexts_L5 0 n (some (51 + 2 * q)) (some 7) (nI acc) (nI j) X = some (nI (stU P m j acc), X') ∧ frY X0 X'
  | m, j, 0, _, _, _, h, _ => by omega
  | 0, j, n + 1, acc, X, e, _, hf => by
    have hXn : X.1 = 59 := hf.1.trans hX0.1
    have c11 : X.2.1 0 11 = nI cnt := (hf.c.at (by decide) (by decide) (Or.inl (by decide))).trans h11
    have c : nI cnt ≤ nI j := nI_le (by omega) (by omega)
    refine ⟨X, ?_, hf⟩
    simp only [fX7_fittingTexts_L5, zokX_0, zokX_1, zokX_2, zokX_3, zokX_4, zokX_5, zokX_6, zokX_7, zokX_8, zokX_9, zokX_10, zokX_11, zokX_12, zokX_13, zokX_14, zokX_15, zokX_16, zlaX_1, zlaX_2, zlaX_3, zlaX_4, zlaX_5, zlaX_6, zlaX_8, zlaX_11, zlaX_12, zlaX_13, zlaX_15, zlaX_16, zp_1, zp_h, zp_r, zp_l, zletE, obs, spXe_0, spXe_1, spXe_2, spXe_3, spXe_4, spXe_5, spXe_6, spXe_7, spXe_8, spXe_9, spXe_10, spXe_11, spXe_12, spXe_13, spXe_14, spXe_15, spXe_16, hXn, c11, if_pos c]
    rfl
  | m + 1, j, n + 1, acc, X, e, hn, hf => by
    have hX := hf.c.sh hX0
    have hXn := hX.1
    have c11 : X.2.1 0 11 = nI cnt := (hf.c.at (by decide) (by decide) (Or.inl (by decide))).trans h11
    have c : ¬ nI cnt ≤ nI j := nI_ge (by omega) (by omega)
    have c6 : ¬ (6 : Int32) ≤ nI j := nI_ge (b := 6) (by omega) (by decide)
    have hsh := n_shl1 (show j < 31 by omega)
    have et := x_textAt hX (show j < 6 by omega)
    obtain ⟨r, X1, e1, f1, hr⟩ := hp X j (by omega) hf
    have hf1 := hf.step f1
    rw [stU]
    by_cases hP : P j = true
    · have hr1 : r = -1 := hr.mpr hP
      obtain ⟨X2, e2, f2⟩ := x_texts hX0 hc h11 hp m (j + 1) n (acc ||| 2 ^ j) X1 (by omega) (by omega) hf1
      refine ⟨X2, ?_, f2⟩
      rw [if_pos hP]
      simp only [fX7_fittingTexts_L5, fX7_fittingTexts_j47, zokX_0, zokX_1, zokX_2, zokX_3, zokX_4, zokX_5, zokX_6, zokX_7, zokX_8, zokX_9, zokX_10, zokX_11, zokX_12, zokX_13, zokX_14, zokX_15, zokX_16, zlaX_1, zlaX_2, zlaX_3, zlaX_4, zlaX_5, zlaX_6, zlaX_8, zlaX_11, zlaX_12, zlaX_13, zlaX_15, zlaX_16, zp_1, zp_h, zp_r, zp_l, zletE, obs, spXe_0, spXe_1, spXe_2, spXe_3, spXe_4, spXe_5, spXe_6, spXe_7, spXe_8, spXe_9, spXe_10, spXe_11, spXe_12, spXe_13, spXe_14, spXe_15, spXe_16, hXn, c11, if_neg c, if_neg c6, et, e1, if_pos hr1, hsh, n_or, nI_1]
      exact e2
    · have hr1 : ¬ r = -1 := fun q => hP (hr.mp q)
      obtain ⟨X2, e2, f2⟩ := x_texts hX0 hc h11 hp m (j + 1) n acc X1 (by omega) (by omega) hf1
      refine ⟨X2, ?_, f2⟩
      rw [if_neg hP]
      simp only [fX7_fittingTexts_L5, fX7_fittingTexts_j47, zokX_0, zokX_1, zokX_2, zokX_3, zokX_4, zokX_5, zokX_6, zokX_7, zokX_8, zokX_9, zokX_10, zokX_11, zokX_12, zokX_13, zokX_14, zokX_15, zokX_16, zlaX_1, zlaX_2, zlaX_3, zlaX_4, zlaX_5, zlaX_6, zlaX_8, zlaX_11, zlaX_12, zlaX_13, zlaX_15, zlaX_16, zp_1, zp_h, zp_r, zp_l, zletE, obs, spXe_0, spXe_1, spXe_2, spXe_3, spXe_4, spXe_5, spXe_6, spXe_7, spXe_8, spXe_9, spXe_10, spXe_11, spXe_12, spXe_13, spXe_14, spXe_15, spXe_16, hXn, c11, if_neg c, if_neg c6, et, e1, if_neg hr1, nI_1]
      exact e2
/-- alike but for one place, the names, the reading's own numbers -/
def frW (so sk : Nat) (M M' : zS) : Prop := M'.1 = M.1 ∧ M'.2.2.2 = M.2.2.2 ∧ ∀ o k, (o = 0 ∧ 13 ≤ k ∧ k ≤ 27) ∨ (o = so ∧ k = sk) ∨ M'.2.1 o k = M.2.1 o k
theorem frW.step {so sk : Nat} {M0 M M' : zS} {v : Int32} (h : frW so sk M0 M) (g : frM (zp M so sk v) M') : frW so sk M0 M' := ⟨g.1.trans h.1, g.2.1.trans h.2.1, fun o k => by
  rcases g.2.2 o k with a | a
  · exact Or.inl a
  · by_cases e : o = so ∧ k = sk
    · exact Or.inr (Or.inl e)
    · rw [zp_h, if_neg e] at a
      rcases h.2.2 o k with b | b | b
      · exact Or.inl b
      · exact Or.inr (Or.inl b)
      · exact Or.inr (Or.inr (a.trans b))⟩
theorem frW.back {so sk : Nat} {M0 M : zS} (h : frW so sk M0 M) : frM M0 (zp M so sk (M0.2.1 so sk)) := ⟨h.1, h.2.1, fun o k => by
  by_cases e : o = so ∧ k = sk
  · rw [zp_h, if_pos e, e.1, e.2]; exact Or.inr rfl
  · rw [zp_h, if_neg e]
    rcases h.2.2 o k with b | b | b
    · exact Or.inl b
    · exact absurd b e
    · exact Or.inr b⟩
theorem frW.sh {so sk : Nat} {M0 M : zS} (h : frW so sk M0 M) (hM : shM M0) : shM M := ⟨h.1.trans hM.1, fun o ho k hk => by rw [h.2.1]; exact hM.2 o ho k hk⟩
theorem frW.at {so sk : Nat} {M0 M : zS} (h : frW so sk M0 M) (v : Int32) {o k : Nat} (h1 : o ≠ 0 ∨ k < 13 ∨ 27 < k) (h2 : ¬ (o = so ∧ k = sk)) : (zp M so sk v).2.1 o k = M0.2.1 o k := by
  rw [zp_h, if_neg h2]
  rcases h.2.2 o k with b | b | b
  · omega
  · exact absurd b h2
  · exact b
theorem a_m1 (v : Nat) : nI v + (-1) = nI v - 1 := by rw [Int32.sub_eq_add_neg]
theorem m_tellsL {M0 : zS} (hM0 : shM M0) {q p so sk last1 : Nat} {sort w : Int32} {P : Nat → Bool} (hl : ∀ (M : zS) (v : Int32), shM M → fX8_lays 0 sort (nI p) v M = some ((), zp M so sk v)) (hp : ∀ (M : zS) (v : Nat), v < last1 → frW so sk M0 M → ∃ r M', fX8_firstOther 0 (nI q) (nI p) (zp M so sk (nI v)) = some (r, M') ∧ frM (zp M so sk (nI v)) M' ∧ (r = -1 ↔ P v = true)) (h100 : last1 ≤ 100) : ∀ (v n set cn : Nat) (ls : Int32) (M : zS), v ≤ last1 → v < n → frW so sk M0 M → ∃ M', fX8_tells_L206 0 n (nI q) (nI p) w sort (M0.2.1 so sk) (nI set) (nI cn) ls (nI v - 1) M = some (if w = 3 then nI (ctD P v cn) else if w = 4 then lsD P v ls else nI (stD P v set), M') ∧ frM M0 M'
  | v, 0, _, _, _, _, _, h, _ => by omega
  | 0, n + 1, set, cn, ls, M, _, _, hf => by
    have c : nI 0 - 1 < 0 := by decide
    have hM := hf.sh hM0
    refine ⟨zp M so sk (M0.2.1 so sk), ?_, hf.back⟩
    simp only [fX8_tells_L206, if_pos c, zokM_0, zokM_1, zokM_2, zokM_3, zokM_4, zokM_5, zokM_6, zokM_7, zokM_8, zokM_9, zokM_10, zokM_11, zokM_12, zokM_13, zokM_14, zokM_15, zlaM_1, zlaM_2, zlaM_3, zlaM_4, zlaM_5, zlaM_6, zlaM_7, zlaM_8, zlaM_9, zlaM_10, zlaM_11, zlaM_12, zlaM_13, zlaM_14, zlaM_15, zp_1, zp_h, zp_r, zp_l, zletE, obs, spMe_0, spMe_1, spMe_2, spMe_3, spMe_4, spMe_5, spMe_6, spMe_7, spMe_8, spMe_9, spMe_10, spMe_11, spMe_12, spMe_13, spMe_14, spMe_15, hM.1, hl M _ hM]
    by_cases c3 : w = 3
    · rw [if_pos c3, if_pos c3]; rfl
    · rw [if_neg c3, if_neg c3]
      by_cases c4 : w = 4
      · rw [if_pos c4, if_pos c4]; rfl
      · rw [if_neg c4, if_neg c4]; rfl
  | v + 1, n + 1, set, cn, ls, M, hv, hn, hf => by
    have c : ¬ nI v < 0 := nI_pos (by omega)
    have hM := hf.sh hM0
    obtain ⟨r, M1, e1, f1, hr⟩ := hp M v (by omega) hf
    have hf1 := hf.step f1
    have hz : (zp M so sk (nI v)).1 = 16 := hM.1
    rw [nI_pred, ctD, lsD, stD]
    by_cases hP : P v = true
    · have hr1 : r = -1 := hr.mpr hP
      rw [if_pos hP, if_pos hP, if_pos hP]
      by_cases c10 : 10 ≤ v
      · have c10' : (10 : Int32) ≤ nI v := nI_le (a := 10) c10 (by omega)
        obtain ⟨M2, e2, f2⟩ := m_tellsL hM0 hl hp h100 v n set (cn + 1) (nI v) M1 (by omega) (by omega) hf1
        refine ⟨M2, ?_, f2⟩
        have w0 : nI set ||| (0 : Int32) = nI set := by rw [← nI_0, n_or, Nat.or_zero]
        rw [if_pos c10, Nat.or_zero]
        simp only [fX8_tells_L206, fX8_tells_j247, fX8_tells_j257, if_neg c, zokM_0, zokM_1, zokM_2, zokM_3, zokM_4, zokM_5, zokM_6, zokM_7, zokM_8, zokM_9, zokM_10, zokM_11, zokM_12, zokM_13, zokM_14, zokM_15, zlaM_1, zlaM_2, zlaM_3, zlaM_4, zlaM_5, zlaM_6, zlaM_7, zlaM_8, zlaM_9, zlaM_10, zlaM_11, zlaM_12, zlaM_13, zlaM_14, zlaM_15, zp_1, zp_h, zp_r, zp_l, zletE, obs, spMe_0, spMe_1, spMe_2, spMe_3, spMe_4, spMe_5, spMe_6, spMe_7, spMe_8, spMe_9, spMe_10, spMe_11, spMe_12, spMe_13, spMe_14, spMe_15, hM.1, hz, hl M _ hM, e1, if_pos hr1, if_pos c10', w0, nI_1, a_m1]
        exact e2
      · have c10' : ¬ (10 : Int32) ≤ nI v := nI_ge (b := 10) (by omega) (by decide)
        have hsh := n_shl1 (show v < 31 by omega)
        obtain ⟨M2, e2, f2⟩ := m_tellsL hM0 hl hp h100 v n (set ||| 2 ^ v) (cn + 1) (nI v) M1 (by omega) (by omega) hf1
        refine ⟨M2, ?_, f2⟩
        rw [if_neg c10]
        simp only [fX8_tells_L206, fX8_tells_j247, fX8_tells_j257, if_neg c, zokM_0, zokM_1, zokM_2, zokM_3, zokM_4, zokM_5, zokM_6, zokM_7, zokM_8, zokM_9, zokM_10, zokM_11, zokM_12, zokM_13, zokM_14, zokM_15, zlaM_1, zlaM_2, zlaM_3, zlaM_4, zlaM_5, zlaM_6, zlaM_7, zlaM_8, zlaM_9, zlaM_10, zlaM_11, zlaM_12, zlaM_13, zlaM_14, zlaM_15, zp_1, zp_h, zp_r, zp_l, zletE, obs, spMe_0, spMe_1, spMe_2, spMe_3, spMe_4, spMe_5, spMe_6, spMe_7, spMe_8, spMe_9, spMe_10, spMe_11, spMe_12, spMe_13, spMe_14, spMe_15, hM.1, hz, hl M _ hM, e1, if_pos hr1, if_neg c10', hsh, n_or, nI_1, a_m1]
        exact e2
    · have hr1 : ¬ r = -1 := fun q => hP (hr.mp q)
      rw [if_neg hP, if_neg hP, if_neg hP]
      obtain ⟨M2, e2, f2⟩ := m_tellsL hM0 hl hp h100 v n set cn ls M1 (by omega) (by omega) hf1
      refine ⟨M2, ?_, f2⟩
      simp only [fX8_tells_L206, fX8_tells_j257, if_neg c, zokM_0, zokM_1, zokM_2, zokM_3, zokM_4, zokM_5, zokM_6, zokM_7, zokM_8, zokM_9, zokM_10, zokM_11, zokM_12, zokM_13, zokM_14, zokM_15, zlaM_1, zlaM_2, zlaM_3, zlaM_4, zlaM_5, zlaM_6, zlaM_7, zlaM_8, zlaM_9, zlaM_10, zlaM_11, zlaM_12, zlaM_13, zlaM_14, zlaM_15, zp_1, zp_h, zp_r, zp_l, zletE, obs, spMe_0, spMe_1, spMe_2, spMe_3, spMe_4, spMe_5, spMe_6, spMe_7, spMe_8, spMe_9, spMe_10, spMe_11, spMe_12, spMe_13, spMe_14, spMe_15, hM.1, hz, hl M _ hM, e1, if_neg hr1, a_m1]
      exact e2
