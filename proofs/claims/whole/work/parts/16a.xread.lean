/-! the class's reading -/
/-- what is left alone but for the reader's TOKEN and fault, and a TEXT's codes -/
def frE (t : Nat) (X X' : zS) : Prop := X'.1 = X.1 ∧ X'.2.2.2 = X.2.2.2 ∧ ∀ o k, (o = 9 ∧ 2 ≤ k ∧ k ≤ 4) ∨ (o = 27 + 4 * t ∧ k = 3) ∨ o = 28 + 4 * t ∨ X'.2.1 o k = X.2.1 o k
theorem frE.rf (t : Nat) (X : zS) : frE t X X := ⟨rfl, rfl, fun _ _ => Or.inr (Or.inr (Or.inr rfl))⟩
theorem frE.tr {t : Nat} {X Y Z : zS} (h : frE t X Y) (g : frE t Y Z) : frE t X Z := ⟨g.1.trans h.1, g.2.1.trans h.2.1, fun o k => by
  rcases h.2.2 o k with a | a | a | a
  · exact Or.inl a
  · exact Or.inr (Or.inl a)
  · exact Or.inr (Or.inr (Or.inl a))
  · rcases g.2.2 o k with b | b | b | b
    · exact Or.inl b
    · exact Or.inr (Or.inl b)
    · exact Or.inr (Or.inr (Or.inl b))
    · exact Or.inr (Or.inr (Or.inr (b.trans a)))⟩
theorem frE.zp9 {t : Nat} {X Y : zS} (h : frE t X Y) {k : Nat} (hk : 2 ≤ k ∧ k ≤ 4) (v : Int32) : frE t X (zp Y 9 k v) := ⟨h.1, h.2.1, fun o j => by
  rcases h.2.2 o j with a | a | a | a
  · exact Or.inl a
  · exact Or.inr (Or.inl a)
  · exact Or.inr (Or.inr (Or.inl a))
  · by_cases e : o = 9 ∧ j = k
    · exact Or.inl ⟨e.1, by omega⟩
    · exact Or.inr (Or.inr (Or.inr (by rw [zp_h, if_neg e]; exact a)))⟩
theorem frE.at {t : Nat} {X X' : zS} (h : frE t X X') {o k : Nat} (h1 : o ≠ 9 ∨ k < 2 ∨ 4 < k) (h2 : o ≠ 27 + 4 * t ∨ k ≠ 3) (h3 : o ≠ 28 + 4 * t) : X'.2.1 o k = X.2.1 o k := by
  rcases h.2.2 o k with a | a | a | a
  · omega
  · omega
  · exact absurd a h3
  · exact a
theorem frE.sh {t : Nat} {X X' : zS} (h : frE t X X') (hX : shX X) : shX X' := ⟨h.1.trans hX.1, fun o ho k hk => by rw [h.2.1]; exact hX.2 o ho k hk⟩
/-- the reader reads these TOKENS into TEXT t -/
def BsX (B : Nat → Int32) (n t : Nat) (X : zS) : Prop := shX X ∧ X.2.2.2 9 1 = some (27 + 4 * t) ∧ t < 6 ∧ n ≤ 160 ∧ ∀ j, vt B n j → TkX B n X j
theorem BsX.fr {B : Nat → Int32} {n t : Nat} {X X' : zS} (h : BsX B n t X) (g : frE t X X') : BsX B n t X' := ⟨g.sh h.1, by rw [g.2.1]; exact h.2.1, h.2.2.1, h.2.2.2.1, fun j hj => by
  obtain ⟨a, b, c⟩ := h.2.2.2.2 j hj
  exact ⟨(g.at (Or.inl (by decide)) (Or.inl (by omega)) (by omega)).trans a, (g.at (Or.inl (by decide)) (Or.inl (by omega)) (by omega)).trans b, (g.at (Or.inl (by decide)) (Or.inl (by omega)) (by omega)).trans c⟩⟩
def CdX (t : Nat) (cs : List Int32) (X : zS) : Prop := X.2.1 (27 + 4 * t) 3 = nI cs.length ∧ ∀ j, j < cs.length → X.2.1 (28 + 4 * t) j = cs.getD j 0
/-- it stands at TOKEN i, having written cs -/
def AtX (B : Nat → Int32) (n t i : Nat) (cs : List Int32) (X : zS) : Prop := BsX B n t X ∧ X.2.1 9 2 = nI i ∧ X.2.1 9 3 = tC B n i ∧ X.2.1 9 4 = -1 ∧ CdX t cs X
/-- it has failed, at TOKEN e -/
def FlX (B : Nat → Int32) (n t e : Nat) (X : zS) : Prop := BsX B n t X ∧ X.2.1 9 3 = 9 ∧ X.2.1 9 4 = nI (tkS B n (psT B n e)) ∧ tkS B n (psT B n e) ≤ 160
theorem CdX.fr9 {t : Nat} {cs : List Int32} {X : zS} (h : CdX t cs X) (k : Nat) (v : Int32) : CdX t cs (zp X 9 k v) := ⟨by rw [zp_h, if_neg (by omega)]; exact h.1, fun j hj => by rw [zp_h, if_neg (by omega)]; exact h.2 j hj⟩
theorem x_tx {X : zS} (hX : shX X) {t : Nat} (ht : t < 6) : zok spX X (some (27 + 4 * t)) 4 = some (27 + 4 * t) ∧ zok spX X (some (28 + 4 * t)) 9 = some (28 + 4 * t) ∧ zla spX X (some (28 + 4 * t)) = some (28 + 4 * t) ∧ zok spX X (some (29 + 4 * t)) 9 = some (29 + 4 * t) ∧ zla spX X (some (29 + 4 * t)) = some (29 + 4 * t) ∧ zok spX X (some (30 + 4 * t)) 9 = some (30 + 4 * t) ∧ zla spX X (some (30 + 4 * t)) = some (30 + 4 * t) := by
  obtain ⟨s1, s2, s3, s4⟩ := spX_text ht
  exact ⟨zok_of (by rw [hX.1]; omega) (by rw [s1]), zok_of (by rw [hX.1]; omega) (by rw [s2]), zla_of (by rw [hX.1]; omega) (by rw [s2]; decide), zok_of (by rw [hX.1]; omega) (by rw [s3]), zla_of (by rw [hX.1]; omega) (by rw [s3]; decide), zok_of (by rw [hX.1]; omega) (by rw [s4]), zla_of (by rw [hX.1]; omega) (by rw [s4]; decide)⟩
/-- add(), whatever stands there -/
theorem x_add {B : Nat → Int32} {n t : Nat} {X : zS} (h : BsX B n t X) (c : Int32) : ∃ X', fX2_add 9 c X = some ((), X') ∧ frE t X X' ∧ (∀ k, X'.2.1 9 k = X.2.1 9 k) := by
  obtain ⟨hX, h91, ht, hn, hT⟩ := h
  obtain ⟨s1, s2, s3, s4⟩ := spX_text ht
  have rt := rX_text hX ht
  have z := x_tx hX ht
  have hne : ¬ (some (27 + 4 * t) = none) := fun q => by cases q
  by_cases c0 : X.2.1 (27 + 4 * t) 3 < 0
  · refine ⟨X, ?_, frE.rf t X, fun _ => rfl⟩
    simp only [fX2_add, fX4_add, zokX_9, obs, zletE, hX.1, h91, if_neg hne, z.1, if_pos c0]
  · by_cases c1 : X.2.1 (27 + 4 * t) 3 < Int32.ofNat 160
    · obtain ⟨k, hk, ek⟩ := nI_of c0
      have hk2 : k < 160 := by
        rw [ek] at c1
        have := (nI_ltI (a := k) (b := 160) hk (by decide)).mp c1
        exact this
      have hz : zix spX (28 + 4 * t) (nI k) = some k := zix_of rfl (by rw [s2]; exact hk2) (by rw [s2]; decide)
      have c1' : nI k < Int32.ofNat (spX (28 + 4 * t)).2 := by rw [s2, ← ek]; exact c1
      have c0' : ¬ nI k < 0 := by rw [← ek]; exact c0
      let X1 := zp X (28 + 4 * t) k c
      have z2 := x_tx (X := X1) hX ht
      refine ⟨zp X1 (27 + 4 * t) 3 (X1.2.1 (27 + 4 * t) 3 + 1), ?_, ⟨rfl, rfl, fun o j => ?_⟩, fun j => ?_⟩
      · simp only [fX2_add, fX4_add, zokX_9, obs, zletE, hX.1, h91, if_neg hne, z.1, rt.2.1, z.2.2.1, z.2.1, ek, if_neg c0', c1', if_true, hz, z2.1, X1]
      · by_cases e1 : o = 27 + 4 * t ∧ j = 3
        · exact Or.inr (Or.inl e1)
        · by_cases e2 : o = 28 + 4 * t
          · exact Or.inr (Or.inr (Or.inl e2))
          · refine Or.inr (Or.inr (Or.inr ?_))
            show (zp (zp X (28 + 4 * t) k c) (27 + 4 * t) 3 _).2.1 o j = _
            rw [zp_h, if_neg e1, zp_h, if_neg (fun q => e2 q.1)]
      · show (zp (zp X (28 + 4 * t) k c) (27 + 4 * t) 3 _).2.1 9 j = _
        rw [zp_h, if_neg (by omega), zp_h, if_neg (by omega)]
    · have c1' : ¬ X.2.1 (27 + 4 * t) 3 < Int32.ofNat (spX (28 + 4 * t)).2 := by rw [s2]; exact c1
      refine ⟨X, ?_, frE.rf t X, fun _ => rfl⟩
      simp only [fX2_add, fX4_add, zokX_9, obs, zletE, hX.1, h91, if_neg hne, z.1, rt.2.1, z.2.2.1, if_neg c0, c1', if_false]
theorem x_addF {B : Nat → Int32} {n t e : Nat} {X : zS} (h : FlX B n t e X) (c : Int32) : ∃ X', fX2_add 9 c X = some ((), X') ∧ FlX B n t e X' ∧ frE t X X' := by
  obtain ⟨X', a, b, d⟩ := x_add h.1 c
  exact ⟨X', a, ⟨h.1.fr b, (d 3).trans h.2.1, (d 4).trans h.2.2.1, h.2.2.2⟩, b⟩
theorem x_addA {B : Nat → Int32} {n t i : Nat} {cs : List Int32} {X : zS} (h : AtX B n t i cs X) (hl : cs.length < 160) (c : Int32) : ∃ X', fX2_add 9 c X = some ((), X') ∧ AtX B n t i (cs ++ [c]) X' ∧ frE t X X' := by
  obtain ⟨hB, a2, a3, a4, ⟨d1, d2⟩⟩ := h
  have hB0 := hB
  obtain ⟨hX, h91, ht, hn, hT⟩ := hB
  obtain ⟨s1, s2, s3, s4⟩ := spX_text ht
  have rt := rX_text hX ht
  have z := x_tx hX ht
  have hne : ¬ (some (27 + 4 * t) = none) := fun q => by cases q
  have hz : zix spX (28 + 4 * t) (nI cs.length) = some cs.length := zix_of rfl (by rw [s2]; exact hl) (by rw [s2]; decide)
  have c1' : nI cs.length < Int32.ofNat (spX (28 + 4 * t)).2 := by rw [s2]; exact nI_lt hl (by decide)
  have c0' : ¬ nI cs.length < 0 := nI_pos (by omega)
  let X1 := zp X (28 + 4 * t) cs.length c
  have z2 := x_tx (X := X1) hX ht
  have hX1 : X1.2.1 (27 + 4 * t) 3 = nI cs.length := by
    show (zp X (28 + 4 * t) cs.length c).2.1 (27 + 4 * t) 3 = _
    rw [zp_h, if_neg (by omega)]; exact d1
  have g : frE t X (zp X1 (27 + 4 * t) 3 (nI (cs.length + 1))) := ⟨rfl, rfl, fun o j => by
    by_cases e1 : o = 27 + 4 * t ∧ j = 3
    · exact Or.inr (Or.inl e1)
    · by_cases e2 : o = 28 + 4 * t
      · exact Or.inr (Or.inr (Or.inl e2))
      · refine Or.inr (Or.inr (Or.inr ?_))
        show (zp (zp X (28 + 4 * t) cs.length c) (27 + 4 * t) 3 _).2.1 o j = _
        rw [zp_h, if_neg e1, zp_h, if_neg (fun q => e2 q.1)]⟩
  have o9 : ∀ j, (zp X1 (27 + 4 * t) 3 (nI (cs.length + 1))).2.1 9 j = X.2.1 9 j := fun j => by
    show (zp (zp X (28 + 4 * t) cs.length c) (27 + 4 * t) 3 _).2.1 9 j = _
    rw [zp_h, if_neg (by omega), zp_h, if_neg (by omega)]
  refine ⟨zp X1 (27 + 4 * t) 3 (nI (cs.length + 1)), ?_, ⟨hB0.fr g, (o9 2).trans a2, (o9 3).trans a3, (o9 4).trans a4, ⟨?_, fun j hj => ?_⟩⟩, g⟩
  · have hX1' : (zp X (28 + 4 * t) cs.length c).2.1 (27 + 4 * t) 3 = nI cs.length := hX1
    simp only [fX2_add, fX4_add, zokX_9, obs, zletE, hX.1, h91, if_neg hne, z.1, rt.2.1, z.2.2.1, z.2.1, d1, if_neg c0', c1', if_true, hz, z2.1, X1, hX1', nI_1]
  · rw [zp_h, if_pos ⟨rfl, rfl⟩, List.length_append]; rfl
  · show (zp (zp X (28 + 4 * t) cs.length c) (27 + 4 * t) 3 _).2.1 (28 + 4 * t) j = _
    rw [zp_h, if_neg (by omega), zp_h]
    rw [List.length_append, List.length_singleton] at hj
    by_cases e : j = cs.length
    · subst e
      rw [if_pos ⟨rfl, rfl⟩, List.getD_eq_getElem?_getD, List.getElem?_append_right (Nat.le_refl _), Nat.sub_self]
      rfl
    · rw [if_neg (by omega), d2 j (by omega), List.getD_eq_getElem?_getD, List.getD_eq_getElem?_getD, List.getElem?_append_left (by omega)]
theorem x_adv {B : Nat → Int32} {n t i : Nat} {cs : List Int32} {X : zS} (h : AtX B n t i cs X) (hv : vt B n (i + 1)) : ∃ X', fX2_advance 9 X = some ((), X') ∧ AtX B n t (i + 1) cs X' ∧ frE t X X' := by
  obtain ⟨hB, a2, a3, a4, hC⟩ := h
  have hX := hB.1
  have hle := vt_le hv
  have hn := hB.2.2.2.1
  have r0 : X.2.2.2 9 0 = some 10 := hX.r (by decide) (by decide) (by decide) (by decide)
  have r1 : X.2.2.2 10 1 = some 11 := hX.r (by decide) (by decide) (by decide) (by decide)
  have c0 : ¬ nI (i + 1) < 0 := nI_pos (by omega)
  have c1 : ¬ Int32.ofNat 161 ≤ nI (i + 1) := nI_ge (b := 161) (by omega) (by decide)
  have hz : zix spX 11 (nI (i + 1)) = some (i + 1) := zix_of rfl (by show i + 1 < 161; omega) (by decide)
  have tk := (hB.2.2.2.2 (i + 1) hv).1
  have g : frE t X (zp (zp X 9 2 (nI (i + 1))) 9 3 (tC B n (i + 1))) := ((frE.rf t X).zp9 (k := 2) (by decide) _).zp9 (k := 3) (by decide) _
  refine ⟨_, ?_, ⟨hB.fr g, ?_, ?_, ?_, (hC.fr9 2 _).fr9 3 _⟩, g⟩
  · simp only [fX2_advance, fX5_sortOf, zokX_0, zokX_1, zokX_2, zokX_3, zokX_4, zokX_5, zokX_6, zokX_7, zokX_8, zokX_9, zokX_10, zokX_11, zokX_12, zokX_13, zokX_14, zokX_15, zokX_16, zlaX_1, zlaX_2, zlaX_3, zlaX_4, zlaX_5, zlaX_6, zlaX_8, zlaX_11, zlaX_12, zlaX_13, zlaX_15, zlaX_16, zp_1, zp_h, zp_r, zp_l, zletE, obs, spXe_0, spXe_1, spXe_2, spXe_3, spXe_4, spXe_5, spXe_6, spXe_7, spXe_8, spXe_9, spXe_10, spXe_11, spXe_12, spXe_13, spXe_14, spXe_15, spXe_16, hX.1, a2, nI_1, r0, r1, if_true, and_self, if_neg c0, c1, if_false, hz, tk, Nat.reduceEqDiff, false_and]
  · rw [zp_h, if_neg (by decide), zp_h, if_pos ⟨rfl, rfl⟩]
  · rw [zp_h, if_pos ⟨rfl, rfl⟩]
  · rw [zp_h, if_neg (by decide), zp_h, if_neg (by decide)]; exact a4
theorem x_fail {B : Nat → Int32} {n t i : Nat} {cs : List Int32} {X : zS} (h : AtX B n t i cs X) (hv : vt B n i) : ∃ X', fX2_fail 9 X = some ((), X') ∧ FlX B n t i X' ∧ frE t X X' := by
  obtain ⟨hB, a2, a3, a4, hC⟩ := h
  have hX := hB.1
  have hle := vt_le hv
  have hn := hB.2.2.2.1
  have hps := vt_ps i hv
  have hs := tkS_le B (p := psT B n i) hps.2
  have r0 : X.2.2.2 9 0 = some 10 := hX.r (by decide) (by decide) (by decide) (by decide)
  have r2 : X.2.2.2 10 2 = some 12 := hX.r (by decide) (by decide) (by decide) (by decide)
  have c0 : ¬ nI i < 0 := nI_pos (by omega)
  have c1 : ¬ Int32.ofNat 161 ≤ nI i := nI_ge (b := 161) (by omega) (by decide)
  have hz : zix spX 12 (nI i) = some i := zix_of rfl (by show i < 161; omega) (by decide)
  have tk := (hB.2.2.2.2 i hv).2.1
  have g : frE t X (zp (zp X 9 4 (nI (tkS B n (psT B n i)))) 9 3 9) := ((frE.rf t X).zp9 (k := 4) (by decide) _).zp9 (k := 3) (by decide) _
  refine ⟨_, ?_, ⟨hB.fr g, ?_, ?_, by omega⟩, g⟩
  · simp only [fX2_fail, fX5_startOf, zokX_0, zokX_1, zokX_2, zokX_3, zokX_4, zokX_5, zokX_6, zokX_7, zokX_8, zokX_9, zokX_10, zokX_11, zokX_12, zokX_13, zokX_14, zokX_15, zokX_16, zlaX_1, zlaX_2, zlaX_3, zlaX_4, zlaX_5, zlaX_6, zlaX_8, zlaX_11, zlaX_12, zlaX_13, zlaX_15, zlaX_16, zp_1, zp_h, zp_r, zp_l, zletE, obs, spXe_0, spXe_1, spXe_2, spXe_3, spXe_4, spXe_5, spXe_6, spXe_7, spXe_8, spXe_9, spXe_10, spXe_11, spXe_12, spXe_13, spXe_14, spXe_15, spXe_16, hX.1, a4, if_true, a2, r0, r2, if_neg c0, c1, if_false, hz, tk]
  · rw [zp_h, if_pos ⟨rfl, rfl⟩]
  · rw [zp_h, if_neg (by decide), zp_h, if_pos ⟨rfl, rfl⟩]
theorem x_fail1 {B : Nat → Int32} {n t e : Nat} {X : zS} (h : FlX B n t e X) : ∃ X', fX2_fail 9 X = some ((), X') ∧ FlX B n t e X' ∧ frE t X X' := by
  obtain ⟨hB, a3, a4, hle⟩ := h
  have hX := hB.1
  have c : ¬ nI (tkS B n (psT B n e)) = -1 := fun q => by
    have := congrArg Int32.toInt q
    rw [nI_toInt (by omega)] at this
    have h2 : (-1 : Int32).toInt = -1 := by decide
    omega
  have g : frE t X (zp X 9 3 9) := (frE.rf t X).zp9 (k := 3) (by decide) _
  refine ⟨_, ?_, ⟨hB.fr g, ?_, ?_, hle⟩, g⟩
  · simp only [fX2_fail, zokX_0, zokX_1, zokX_2, zokX_3, zokX_4, zokX_5, zokX_6, zokX_7, zokX_8, zokX_9, zokX_10, zokX_11, zokX_12, zokX_13, zokX_14, zokX_15, zokX_16, zlaX_1, zlaX_2, zlaX_3, zlaX_4, zlaX_5, zlaX_6, zlaX_8, zlaX_11, zlaX_12, zlaX_13, zlaX_15, zlaX_16, zp_1, zp_h, zp_r, zp_l, zletE, obs, spXe_0, spXe_1, spXe_2, spXe_3, spXe_4, spXe_5, spXe_6, spXe_7, spXe_8, spXe_9, spXe_10, spXe_11, spXe_12, spXe_13, spXe_14, spXe_15, spXe_16, hX.1, a4, if_neg c]
  · rw [zp_h, if_pos ⟨rfl, rfl⟩]
  · rw [zp_h, if_neg (by decide)]; exact a4
theorem x_expF {B : Nat → Int32} {n t e : Nat} {X : zS} (h : FlX B n t e X) {c : Int32} (hc : ¬ c = 9) : ∃ X', fX2_expect 9 c X = some ((), X') ∧ FlX B n t e X' ∧ frE t X X' := by
  obtain ⟨X', a, b, d⟩ := x_fail1 h
  have hc' : ¬ (9 : Int32) = c := fun q => hc q.symm
  refine ⟨X', ?_, b, d⟩
  simp only [fX2_expect, zokX_0, zokX_1, zokX_2, zokX_3, zokX_4, zokX_5, zokX_6, zokX_7, zokX_8, zokX_9, zokX_10, zokX_11, zokX_12, zokX_13, zokX_14, zokX_15, zokX_16, zlaX_1, zlaX_2, zlaX_3, zlaX_4, zlaX_5, zlaX_6, zlaX_8, zlaX_11, zlaX_12, zlaX_13, zlaX_15, zlaX_16, zp_1, zp_h, zp_r, zp_l, zletE, obs, spXe_0, spXe_1, spXe_2, spXe_3, spXe_4, spXe_5, spXe_6, spXe_7, spXe_8, spXe_9, spXe_10, spXe_11, spXe_12, spXe_13, spXe_14, spXe_15, spXe_16, h.1.1.1, h.2.1, if_neg hc', a]
theorem x_expY {B : Nat → Int32} {n t i : Nat} {cs : List Int32} {X : zS} (h : AtX B n t i cs X) (hv : vt B n i) {c : Int32} (hc : tC B n i = c) (h8 : ¬ c = 8) (h9 : ¬ c = 9) : ∃ X', fX2_expect 9 c X = some ((), X') ∧ AtX B n t (i + 1) cs X' ∧ frE t X X' := by
  obtain ⟨X', a, b, d⟩ := x_adv h (op_vt hv hc h8 h9)
  refine ⟨X', ?_, b, d⟩
  simp only [fX2_expect, zokX_0, zokX_1, zokX_2, zokX_3, zokX_4, zokX_5, zokX_6, zokX_7, zokX_8, zokX_9, zokX_10, zokX_11, zokX_12, zokX_13, zokX_14, zokX_15, zokX_16, zlaX_1, zlaX_2, zlaX_3, zlaX_4, zlaX_5, zlaX_6, zlaX_8, zlaX_11, zlaX_12, zlaX_13, zlaX_15, zlaX_16, zp_1, zp_h, zp_r, zp_l, zletE, obs, spXe_0, spXe_1, spXe_2, spXe_3, spXe_4, spXe_5, spXe_6, spXe_7, spXe_8, spXe_9, spXe_10, spXe_11, spXe_12, spXe_13, spXe_14, spXe_15, spXe_16, h.1.1.1, h.2.2.1, if_pos hc, a]
theorem x_expN {B : Nat → Int32} {n t i : Nat} {cs : List Int32} {X : zS} (h : AtX B n t i cs X) (hv : vt B n i) {c : Int32} (hc : ¬ tC B n i = c) : ∃ X', fX2_expect 9 c X = some ((), X') ∧ FlX B n t i X' ∧ frE t X X' := by
  obtain ⟨X', a, b, d⟩ := x_fail h hv
  refine ⟨X', ?_, b, d⟩
  simp only [fX2_expect, zokX_0, zokX_1, zokX_2, zokX_3, zokX_4, zokX_5, zokX_6, zokX_7, zokX_8, zokX_9, zokX_10, zokX_11, zokX_12, zokX_13, zokX_14, zokX_15, zokX_16, zlaX_1, zlaX_2, zlaX_3, zlaX_4, zlaX_5, zlaX_6, zlaX_8, zlaX_11, zlaX_12, zlaX_13, zlaX_15, zlaX_16, zp_1, zp_h, zp_r, zp_l, zletE, obs, spXe_0, spXe_1, spXe_2, spXe_3, spXe_4, spXe_5, spXe_6, spXe_7, spXe_8, spXe_9, spXe_10, spXe_11, spXe_12, spXe_13, spXe_14, spXe_15, spXe_16, h.1.1.1, h.2.2.1, if_neg hc, a]
