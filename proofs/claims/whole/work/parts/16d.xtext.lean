/-! the class reads a TEXT -/
def frPt (t : Nat) (X X' : zS) : Prop := X'.1 = X.1 ∧ X'.2.2.2 = X.2.2.2 ∧ ∀ o k, o = 9 ∨ (27 + 4 * t ≤ o ∧ o ≤ 29 + 4 * t) ∨ X'.2.1 o k = X.2.1 o k
theorem frE.p {t : Nat} {X X' : zS} (h : frE t X X') : frPt t X X' := ⟨h.1, h.2.1, fun o k => by
  rcases h.2.2 o k with a | a | a | a
  · exact Or.inl a.1
  · exact Or.inr (Or.inl (by omega))
  · exact Or.inr (Or.inl (by omega))
  · exact Or.inr (Or.inr a)⟩
theorem frPt.tr {t : Nat} {X Y Z : zS} (h : frPt t X Y) (g : frPt t Y Z) : frPt t X Z := ⟨g.1.trans h.1, g.2.1.trans h.2.1, fun o k => by
  rcases h.2.2 o k with a | a | a
  · exact Or.inl a
  · exact Or.inr (Or.inl a)
  · rcases g.2.2 o k with b | b | b
    · exact Or.inl b
    · exact Or.inr (Or.inl b)
    · exact Or.inr (Or.inr (b.trans a))⟩
theorem frPt.at {t : Nat} {X X' : zS} (h : frPt t X X') {o k : Nat} (h1 : o ≠ 9) (h2 : o < 27) : X'.2.1 o k = X.2.1 o k := by
  rcases h.2.2 o k with a | a | a
  · exact absurd a h1
  · omega
  · exact a
theorem BsX.frp {B : Nat → Int32} {n t : Nat} {X X' : zS} (h : BsX B n t X) (g : frPt t X X') : BsX B n t X' := ⟨⟨g.1.trans h.1.1, fun o ho k hk => by rw [g.2.1]; exact h.1.2 o ho k hk⟩, by rw [g.2.1]; exact h.2.1, h.2.2.1, h.2.2.2.1, fun j hj => by
  obtain ⟨a, b, c⟩ := h.2.2.2.2 j hj
  exact ⟨(g.at (by decide) (by decide)).trans a, (g.at (by decide) (by decide)).trans b, (g.at (by decide) (by decide)).trans c⟩⟩
/-- where its PARTS end -/
def EdX (t : Nat) (es : List Nat) (X : zS) : Prop := X.2.1 (27 + 4 * t) 4 = nI es.length ∧ ∀ j, j < es.length → X.2.1 (29 + 4 * t) j = nI (es.getD j 0)
theorem EdX.fr {t : Nat} {es : List Nat} {X X' : zS} (h : EdX t es X) (g : frE t X X') : EdX t es X' := ⟨(g.at (Or.inl (by omega)) (Or.inr (by decide)) (by omega)).trans h.1, fun j hj => (g.at (Or.inl (by omega)) (Or.inl (by omega)) (by omega)).trans (h.2 j hj)⟩
theorem x_end {B : Nat → Int32} {n t i : Nat} {cs : List Int32} {es : List Nat} {X : zS} (h : AtX B n t i cs X) (he : EdX t es X) (hl : es.length < 3) : ∃ X', fX4_endPart (27 + 4 * t) X = some ((), X') ∧ AtX B n t i cs X' ∧ EdX t (es ++ [cs.length]) X' ∧ frPt t X X' := by
  obtain ⟨hB, a2, a3, a4, ⟨d1, d2⟩⟩ := h
  have hB0 := hB
  obtain ⟨hX, h91, ht, hn, hT⟩ := hB
  obtain ⟨e1, e2⟩ := he
  obtain ⟨s1, s2, s3, s4⟩ := spX_text ht
  have rt := rX_text hX ht
  have z := x_tx hX ht
  have hz : zix spX (29 + 4 * t) (nI es.length) = some es.length := zix_of rfl (by rw [s3]; exact hl) (by rw [s3]; decide)
  have c1' : nI es.length < Int32.ofNat (spX (29 + 4 * t)).2 := by rw [s3]; exact nI_lt hl (by decide)
  have c0' : ¬ nI es.length < 0 := nI_pos (by omega)
  let X1 := zp X (29 + 4 * t) es.length (nI cs.length)
  have z2 := x_tx (X := X1) hX ht
  have hX1 : (zp X (29 + 4 * t) es.length (nI cs.length)).2.1 (27 + 4 * t) 4 = nI es.length := by
    rw [zp_h, if_neg (by omega)]; exact e1
  have oth : ∀ o j, ¬ (o = 27 + 4 * t ∧ j = 4) → ¬ o = 29 + 4 * t → (zp X1 (27 + 4 * t) 4 (nI (es.length + 1))).2.1 o j = X.2.1 o j := fun o j q1 q2 => by
    show (zp (zp X (29 + 4 * t) es.length (nI cs.length)) (27 + 4 * t) 4 _).2.1 o j = _
    rw [zp_h, if_neg q1, zp_h, if_neg (fun q => q2 q.1)]
  have g : frPt t X (zp X1 (27 + 4 * t) 4 (nI (es.length + 1))) := ⟨rfl, rfl, fun o j => by
    by_cases q1 : o = 27 + 4 * t
    · exact Or.inr (Or.inl (by omega))
    · by_cases q2 : o = 29 + 4 * t
      · exact Or.inr (Or.inl (by omega))
      · exact Or.inr (Or.inr (oth o j (fun q => q1 q.1) q2))⟩
  refine ⟨zp X1 (27 + 4 * t) 4 (nI (es.length + 1)), ?_, ⟨hB0.frp g, (oth 9 2 (by omega) (by omega)).trans a2, (oth 9 3 (by omega) (by omega)).trans a3, (oth 9 4 (by omega) (by omega)).trans a4, (oth _ 3 (by omega) (by omega)).trans d1, fun j hj => (oth _ j (by omega) (by omega)).trans (d2 j hj)⟩, ⟨?_, fun j hj => ?_⟩, g⟩
  · simp only [fX4_endPart, obs, zletE, e1, z.1, rt.2.2.1, z.2.2.2.2.1, z.2.2.2.1, d1, if_neg c0', c1', if_true, hz, z2.1, X1, hX1, nI_1]
  · rw [zp_h, if_pos ⟨rfl, rfl⟩, List.length_append]; rfl
  · show (zp (zp X (29 + 4 * t) es.length (nI cs.length)) (27 + 4 * t) 4 _).2.1 (29 + 4 * t) j = _
    rw [zp_h, if_neg (by omega), zp_h]
    rw [List.length_append, List.length_singleton] at hj
    by_cases e : j = es.length
    · subst e
      rw [if_pos ⟨rfl, rfl⟩, List.getD_eq_getElem?_getD, List.getElem?_append_right (Nat.le_refl _), Nat.sub_self]
      rfl
    · rw [if_neg (by omega), e2 j (by omega), List.getD_eq_getElem?_getD, List.getD_eq_getElem?_getD, List.getElem?_append_left (by omega)]
theorem x_endF {B : Nat → Int32} {n t e : Nat} {X : zS} (h : FlX B n t e X) : ∃ X', fX4_endPart (27 + 4 * t) X = some ((), X') ∧ FlX B n t e X' ∧ frPt t X X' := by
  obtain ⟨hB, a3, a4, hle⟩ := h
  have hB0 := hB
  obtain ⟨hX, h91, ht, hn, hT⟩ := hB
  obtain ⟨s1, s2, s3, s4⟩ := spX_text ht
  have rt := rX_text hX ht
  have z := x_tx hX ht
  have rf : frPt t X X := (frE.rf t X).p
  by_cases c0 : X.2.1 (27 + 4 * t) 4 < 0
  · refine ⟨X, ?_, ⟨hB0, a3, a4, hle⟩, rf⟩
    simp only [fX4_endPart, obs, zletE, z.1, if_pos c0]
  · by_cases c1 : X.2.1 (27 + 4 * t) 4 < Int32.ofNat 3
    · obtain ⟨k, hk, ek⟩ := nI_of c0
      have hk2 : k < 3 := by
        rw [ek] at c1
        exact (nI_ltI (a := k) (b := 3) hk (by decide)).mp c1
      have hz : zix spX (29 + 4 * t) (nI k) = some k := zix_of rfl (by rw [s3]; exact hk2) (by rw [s3]; decide)
      have c1' : nI k < Int32.ofNat (spX (29 + 4 * t)).2 := by rw [s3, ← ek]; exact c1
      have c0' : ¬ nI k < 0 := by rw [← ek]; exact c0
      let X1 := zp X (29 + 4 * t) k (X.2.1 (27 + 4 * t) 3)
      have z2 := x_tx (X := X1) hX ht
      have oth : ∀ o j, ¬ o = 27 + 4 * t → ¬ o = 29 + 4 * t → (zp X1 (27 + 4 * t) 4 (X1.2.1 (27 + 4 * t) 4 + 1)).2.1 o j = X.2.1 o j := fun o j q1 q2 => by
        show (zp (zp X (29 + 4 * t) k (X.2.1 (27 + 4 * t) 3)) (27 + 4 * t) 4 _).2.1 o j = _
        rw [zp_h, if_neg (fun q => q1 q.1), zp_h, if_neg (fun q => q2 q.1)]
      have g : frPt t X (zp X1 (27 + 4 * t) 4 (X1.2.1 (27 + 4 * t) 4 + 1)) := ⟨rfl, rfl, fun o j => by
        by_cases q1 : o = 27 + 4 * t
        · exact Or.inr (Or.inl (by omega))
        · by_cases q2 : o = 29 + 4 * t
          · exact Or.inr (Or.inl (by omega))
          · exact Or.inr (Or.inr (oth o j q1 q2))⟩
      refine ⟨zp X1 (27 + 4 * t) 4 (X1.2.1 (27 + 4 * t) 4 + 1), ?_, ⟨hB0.frp g, (oth 9 3 (by omega) (by omega)).trans a3, (oth 9 4 (by omega) (by omega)).trans a4, hle⟩, g⟩
      simp only [fX4_endPart, obs, zletE, ek, z.1, rt.2.2.1, z.2.2.2.2.1, z.2.2.2.1, if_neg c0', c1', if_true, hz, z2.1, X1]
    · have c1' : ¬ X.2.1 (27 + 4 * t) 4 < Int32.ofNat (spX (29 + 4 * t)).2 := by rw [s3]; exact c1
      refine ⟨X, ?_, ⟨hB0, a3, a4, hle⟩, rf⟩
      simp only [fX4_endPart, obs, zletE, z.1, rt.2.2.1, z.2.2.2.2.1, if_neg c0, c1', if_false]
theorem x_part {B : Nat → Int32} {n t i : Nat} {cs : List Int32} {es : List Nat} {X : zS} (hV : ∀ i, ¬ vlT B n i < 0) {key : Int32} (h8 : ¬ key = 8) (h9 : ¬ key = 9) (hA : AtX B n t i cs X) (hv : vt B n i) (hl : cs.length ≤ i) (he : EdX t es X) (hs : es.length < 3) : match ptP (tC B n) (rdP (tC B n) (vlT B n) 5).1 key i with
    | .inl e => ∃ X', fX2_readPart 9 key X = some ((), X') ∧ FlX B n t e X' ∧ frPt t X X'
    | .inr (i', cs', _) => ∃ X', fX2_readPart 9 key X = some ((), X') ∧ AtX B n t i' (cs ++ cs') X' ∧ EdX t (es ++ [(cs ++ cs').length]) X' ∧ frPt t X X' := by
  have hX := hA.1.1
  obtain ⟨⟨lp, ld⟩, -⟩ := lv_x (B := B) (n := n) (t := t) hV 5 (Nat.le_refl _)
  have hO := (ok_rd (B := B) (n := n) (V := vlT B n) hV 5).1
  have hne : ¬ (some (27 + 4 * t) = none) := fun q => by cases q
  have dead : ∀ e X1, fX2_expect 9 key X = some ((), X1) → FlX B n t e X1 → frE t X X1 → ∃ X', fX2_readPart 9 key X = some ((), X') ∧ FlX B n t e X' ∧ frPt t X X' := fun e X1 q1 q2 q3 => by
    obtain ⟨X2, b1, b2, b3⟩ := ld e X1 q2
    have b1 : (zRd 7).1 9 0 X1 = some ((), X2) := b1
    obtain ⟨X3, g1, g2, g3⟩ := x_expF b2 (c := 59) (by decide)
    obtain ⟨X4, j1, j2, j3⟩ := x_endF g2
    refine ⟨X4, ?_, j2, ((q3.tr b3).tr g3).p.tr j3⟩
    simp only [fX2_readPart, zokX_9, obs, zletE, hX.1, q1, q2.1.1.1, b1, b2.1.1.1, g1, g2.1.1.1, g2.1.2.1, if_neg hne, (x_tx g2.1.1 g2.1.2.2.1).1, j1]
  unfold ptP
  by_cases c : tC B n i = key
  · rw [if_pos c]
    have hv1 := op_vt hv c h8 h9
    obtain ⟨X1, a1, a2, a3⟩ := x_expY hA hv c h8 h9
    have hr := lp (i + 1) cs X1 hv1 (by omega) a2
    have hk := hO (i + 1) hv1
    cases hp : (rdP (tC B n) (vlT B n) 5).1 (i + 1) with
    | inl e =>
      rw [hp] at hr
      obtain ⟨X2, b1, b2, b3⟩ := hr
      have b1 : (zRd 7).1 9 0 X1 = some ((), X2) := b1
      obtain ⟨X3, g1, g2, g3⟩ := x_expF b2 (c := 59) (by decide)
      obtain ⟨X4, j1, j2, j3⟩ := x_endF g2
      refine ⟨X4, ?_, j2, ((a3.tr b3).tr g3).p.tr j3⟩
      simp only [fX2_readPart, zokX_9, obs, zletE, hX.1, a1, a2.1.1.1, b1, b2.1.1.1, g1, g2.1.1.1, g2.1.2.1, if_neg hne, (x_tx g2.1.1 g2.1.2.2.1).1, j1]
    | inr r =>
      obtain ⟨i', cs', v⟩ := r
      rw [hp] at hr hk
      obtain ⟨X2, b1, b2, b3⟩ := hr
      obtain ⟨k1, k2, k3, -⟩ := hk
      have b1 : (zRd 7).1 9 0 X1 = some ((), X2) := b1
      by_cases d : tC B n i' = 59
      · simp only [if_pos d]
        obtain ⟨X3, g1, g2, g3⟩ := x_expY b2 k2 d (by decide) (by decide)
        obtain ⟨X4, j1, j2, j4, j3⟩ := x_end g2 (((he.fr a3).fr b3).fr g3) hs
        refine ⟨X4, ?_, j2, j4, ((a3.tr b3).tr g3).p.tr j3⟩
        simp only [fX2_readPart, zokX_9, obs, zletE, hX.1, a1, a2.1.1.1, b1, b2.1.1.1, g1, g2.1.1.1, g2.1.2.1, if_neg hne, (x_tx g2.1.1 g2.1.2.2.1).1, j1]
      · simp only [if_neg d]
        obtain ⟨X3, g1, g2, g3⟩ := x_expN b2 k2 d
        obtain ⟨X4, j1, j2, j3⟩ := x_endF g2
        refine ⟨X4, ?_, j2, ((a3.tr b3).tr g3).p.tr j3⟩
        simp only [fX2_readPart, zokX_9, obs, zletE, hX.1, a1, a2.1.1.1, b1, b2.1.1.1, g1, g2.1.1.1, g2.1.2.1, if_neg hne, (x_tx g2.1.1 g2.1.2.2.1).1, j1]
  · rw [if_neg c]
    obtain ⟨X1, a1, a2, a3⟩ := x_expN hA hv c
    exact dead i X1 a1 a2 a3
theorem x_partF {B : Nat → Int32} {n t e : Nat} {X : zS} (hV : ∀ i, ¬ vlT B n i < 0) {key : Int32} (h9 : ¬ key = 9) (hF : FlX B n t e X) : ∃ X', fX2_readPart 9 key X = some ((), X') ∧ FlX B n t e X' ∧ frPt t X X' := by
  obtain ⟨⟨-, ld⟩, -⟩ := lv_x (B := B) (n := n) (t := t) hV 5 (Nat.le_refl _)
  have hne : ¬ (some (27 + 4 * t) = none) := fun q => by cases q
  obtain ⟨X1, a1, a2, a3⟩ := x_expF hF h9
  obtain ⟨X2, b1, b2, b3⟩ := ld e X1 a2
  have b1 : (zRd 7).1 9 0 X1 = some ((), X2) := b1
  obtain ⟨X3, g1, g2, g3⟩ := x_expF b2 (c := 59) (by decide)
  obtain ⟨X4, j1, j2, j3⟩ := x_endF g2
  refine ⟨X4, ?_, j2, ((a3.tr b3).tr g3).p.tr j3⟩
  simp only [fX2_readPart, zokX_9, obs, zletE, hF.1.1.1, a1, a2.1.1.1, b1, b2.1.1.1, g1, g2.1.1.1, g2.1.2.1, if_neg hne, (x_tx g2.1.1 g2.1.2.2.1).1, j1]
/-- what a reading leaves alone -/
def frTx (t : Nat) (X X' : zS) : Prop := X'.1 = X.1 ∧ (∀ o k, (o = 9 ∧ k = 1) ∨ X'.2.2.2 o k = X.2.2.2 o k) ∧ ∀ o k, (9 ≤ o ∧ o ≤ 13) ∨ (27 + 4 * t ≤ o ∧ o ≤ 29 + 4 * t) ∨ X'.2.1 o k = X.2.1 o k
theorem frTx.sh {t : Nat} {X X' : zS} (h : frTx t X X') (hX : shX X) : shX X' := ⟨h.1.trans hX.1, fun o ho k hk => by
  rcases h.2.1 o k with a | a
  · exact Or.inr (Or.inl a)
  · rw [a]; exact hX.2 o ho k hk⟩
theorem x_read {B : Nat → Int32} {n t : Nat} {X : zS} (hX : shX X) (ht : t < 6) (hn : n ≤ 160) (hb : ∀ j, j < n → X.2.1 3 j = B j) (hV : ∀ i, ¬ vlT B n i < 0) : match rd3 (tC B n) (rdP (tC B n) (vlT B n) 5).1 with
    | .inl e => ∃ X', fX2_read 9 (nI n) (some (27 + 4 * t)) X = some (nI (tkS B n (psT B n e)), X') ∧ frTx t X X' ∧ tkS B n (psT B n e) ≤ 160
    | .inr ((c1, c2, c3), _) => ∃ X', fX2_read 9 (nI n) (some (27 + 4 * t)) X = some (-1, X') ∧ frTx t X X' ∧ CdX t (c1 ++ c2 ++ c3) X' ∧ EdX t [c1.length, (c1 ++ c2).length, (c1 ++ c2 ++ c3).length] X' := by
  let X0 := zpr (zp (zp X (27 + 4 * t) 3 0) (27 + 4 * t) 4 0) 9 1 (some (27 + 4 * t))
  have hX0 : shX X0 := ((hX.zp _ _ _).zp _ _ _).text _
  have o0 : ∀ o k, ¬ o = 27 + 4 * t → X0.2.1 o k = X.2.1 o k := fun o k q => by
    show (zp (zp X (27 + 4 * t) 3 0) (27 + 4 * t) 4 0).2.1 o k = _
    rw [zp_h, if_neg (fun w => q w.1), zp_h, if_neg (fun w => q w.1)]
  obtain ⟨X1, y1, y2, y3, y4⟩ := x_scan (B := B) hX0 hn (fun j hj => (o0 3 j (by omega)).trans (hb j hj))
  have hX1 : shX X1 := ⟨y2.1.trans hX0.1, fun o ho k hk => by rw [y2.2.1]; exact hX0.2 o ho k hk⟩
  have y2o : ∀ o k, o < 10 ∨ 13 < o → X1.2.1 o k = X0.2.1 o k := fun o k q => by
    rcases y2.2.2 o k with a | a | a | a | a
    · omega
    · omega
    · omega
    · omega
    · exact a
  let X2 := zp (zp (zp X1 9 2 0) 9 3 (tC B n 0)) 9 4 (-1)
  have g2 : frE t X1 X2 := (((frE.rf t X1).zp9 (k := 2) (by decide) _).zp9 (k := 3) (by decide) _).zp9 (k := 4) (by decide) _
  have h91 : X1.2.2.2 9 1 = some (27 + 4 * t) := by
    rw [y2.2.1]
    show (zpr _ 9 1 (some (27 + 4 * t))).2.2.2 9 1 = _
    rw [zpr_r, if_pos ⟨rfl, rfl⟩]
  have hB1 : BsX B n t X1 := ⟨hX1, h91, ht, hn, y4⟩
  have h23 : X2.2.1 (27 + 4 * t) 3 = nI 0 := by
    show (zp (zp (zp X1 9 2 0) 9 3 (tC B n 0)) 9 4 (-1)).2.1 (27 + 4 * t) 3 = nI 0
    rw [zp_h, if_neg (by omega), zp_h, if_neg (by omega), zp_h, if_neg (by omega), y2o _ _ (Or.inr (by omega))]
    show (zp (zp X (27 + 4 * t) 3 0) (27 + 4 * t) 4 0).2.1 (27 + 4 * t) 3 = nI 0
    rw [zp_h, if_neg (by omega), zp_h, if_pos ⟨rfl, rfl⟩]; rfl
  have hA : AtX B n t 0 [] X2 := ⟨hB1.fr g2, by simp [X2, zp_h]; rfl, by simp [X2, zp_h], by simp [X2, zp_h], h23, fun j hj => absurd hj (Nat.not_lt_zero _)⟩
  have hE : EdX t [] X2 := ⟨by
    show (zp (zp (zp X1 9 2 0) 9 3 (tC B n 0)) 9 4 (-1)).2.1 (27 + 4 * t) 4 = nI 0
    rw [zp_h, if_neg (by omega), zp_h, if_neg (by omega), zp_h, if_neg (by omega), y2o _ _ (Or.inr (by omega))]
    show (zp (zp X (27 + 4 * t) 3 0) (27 + 4 * t) 4 0).2.1 (27 + 4 * t) 4 = nI 0
    rw [zp_h, if_pos ⟨rfl, rfl⟩]; rfl, fun j hj => absurd hj (Nat.not_lt_zero _)⟩
  have fin : ∀ X', frPt t X2 X' → frTx t X X' := fun X' g => ⟨g.1.trans (y2.1), fun o k => by
    by_cases e : o = 9 ∧ k = 1
    · exact Or.inl e
    · refine Or.inr ?_
      have q1 : X'.2.2.2 = X1.2.2.2 := g.2.1
      rw [q1, y2.2.1]
      show (zpr _ 9 1 (some (27 + 4 * t))).2.2.2 o k = _
      rw [zpr_r, if_neg e]
      rfl, fun o k => by
    by_cases e1 : 9 ≤ o ∧ o ≤ 13
    · exact Or.inl e1
    · by_cases e2 : 27 + 4 * t ≤ o ∧ o ≤ 29 + 4 * t
      · exact Or.inr (Or.inl e2)
      · refine Or.inr (Or.inr ?_)
        rcases g.2.2 o k with a | a | a
        · omega
        · exact absurd a e2
        · rw [a]
          show (zp (zp (zp X1 9 2 0) 9 3 (tC B n 0)) 9 4 (-1)).2.1 o k = _
          rw [zp_h, if_neg (by omega), zp_h, if_neg (by omega), zp_h, if_neg (by omega), y2o _ _ (by omega)]
          exact o0 o k (by omega)⟩
  have hn160 : 0 ≤ 160 := by decide
  have tk0 := (y4 0 (vt_0 B n)).1
  have hst : fX2_read 9 (nI n) (some (27 + 4 * t)) X = (fX2_readPart 9 4 X2).bind fun q14 => (zok spX q14.2 (some 9) 2).bind fun o23 => (fX2_readPart o23 (5 : Int32) q14.2).bind fun q15 => (zok spX q15.2 (some 9) 2).bind fun o22 => (fX2_readPart o22 (6 : Int32) q15.2).bind fun q16 => (zok spX q16.2 (some 9) 2).bind fun o17 => if (q16.2.2.1 o17 3) = (8 : Int32) then ((zok spX q16.2 (some 9) 2).bind fun o18 => some ((q16.2.2.1 o18 4), q16.2)) else ((zok spX q16.2 (some 9) 2).bind fun o21 => (fX2_fail o21 q16.2).bind fun q19 => (zok spX q19.2 (some 9) 2).bind fun o20 => some ((q19.2.2.1 o20 4), q19.2)) := by
    have za := x_tx hX ht
    have zb := x_tx (X := zp X (27 + 4 * t) 3 0) hX ht
    have r0 : X.2.2.2 9 0 = some 10 := hX.r (by decide) (by decide) (by decide) (by decide)
    have r0' : X1.2.2.2 9 0 = some 10 := hX1.r (by decide) (by decide) (by decide) (by decide)
    have r1' : X1.2.2.2 10 1 = some 11 := hX1.r (by decide) (by decide) (by decide) (by decide)
    have y1' : fX5_scan 10 (nI n) (zpr (zp (zp X (27 + 4 * t) 3 0) (27 + 4 * t) 4 0) 9 1 (some (27 + 4 * t))) = some ((), X1) := y1
    have c1 : ¬ Int32.ofNat 161 ≤ 0 := by decide
    have hz : zix spX 11 0 = some 0 := zix_of (j := 0) rfl (by decide) (by decide)
    simp only [fX2_read, fX4_clear, fX5_sortOf, zokX_0, zokX_1, zokX_2, zokX_3, zokX_4, zokX_5, zokX_6, zokX_7, zokX_8, zokX_9, zokX_10, zokX_11, zokX_12, zokX_13, zokX_14, zokX_15, zokX_16, zlaX_1, zlaX_2, zlaX_3, zlaX_4, zlaX_5, zlaX_6, zlaX_8, zlaX_11, zlaX_12, zlaX_13, zlaX_15, zlaX_16, zp_1, zp_h, zp_r, zp_l, zletE, obs, spXe_0, spXe_1, spXe_2, spXe_3, spXe_4, spXe_5, spXe_6, spXe_7, spXe_8, spXe_9, spXe_10, spXe_11, spXe_12, spXe_13, spXe_14, spXe_15, spXe_16, zpr_1, zpr_r, hX.1, hX1.1, za.1, zb.1, r0, y1', r0', r1', if_neg (show ¬ (0 : Int32) < 0 by decide), c1, if_false, hz, tk0, Nat.reduceEqDiff, and_false, false_and, Nat.zero_ne_one, X2]
  rw [hst]
  unfold rd3
  have q1 := x_part hV (key := 4) (by decide) (by decide) hA (vt_0 B n) (Nat.zero_le _) hE (by decide)
  have hO := (ok_rd (B := B) (n := n) (V := vlT B n) hV 5).1
  have k1 := hO.pt (key := 4) (by decide) (by decide) 0 (vt_0 B n)
  cases p1 : ptP (tC B n) (rdP (tC B n) (vlT B n) 5).1 4 0 with
  | inl e =>
    rw [p1] at q1
    obtain ⟨X3, a1, a2, a3⟩ := q1
    obtain ⟨X4, b1, b2, b3⟩ := x_partF hV (key := 5) (by decide) a2
    obtain ⟨X5, d1, d2, d3⟩ := x_partF hV (key := 6) (by decide) b2
    obtain ⟨X6, j1, j2, j3⟩ := x_fail1 d2
    refine ⟨X6, ?_, fin X6 (((a3.tr b3).tr d3).tr j3.p), j2.2.2.2⟩
    simp only [a1, obs, zokX_9, a2.1.1.1, b1, b2.1.1.1, d1, d2.1.1.1, d2.2.1, if_neg (show ¬ (9 : Int32) = 8 by decide), j1, j2.1.1.1, j2.2.2.1]
  | inr r =>
    obtain ⟨i1, c1, v1⟩ := r
    rw [p1] at q1 k1
    obtain ⟨X3, a1, a2, a4, a3⟩ := q1
    obtain ⟨-, k1, l1, -⟩ := k1
    have q2 := x_part hV (key := 5) (by decide) (by decide) a2 k1 (by rw [List.nil_append]; omega) a4 (by simp)
    have k2 := hO.pt (key := 5) (by decide) (by decide) i1 k1
    simp only [a1, obs, zokX_9, a2.1.1.1]
    cases p2 : ptP (tC B n) (rdP (tC B n) (vlT B n) 5).1 5 i1 with
    | inl e =>
      rw [p2] at q2
      obtain ⟨X4, b1, b2, b3⟩ := q2
      obtain ⟨X5, d1, d2, d3⟩ := x_partF hV (key := 6) (by decide) b2
      obtain ⟨X6, j1, j2, j3⟩ := x_fail1 d2
      refine ⟨X6, ?_, fin X6 (((a3.tr b3).tr d3).tr j3.p), j2.2.2.2⟩
      simp only [obs, zokX_9, b1, b2.1.1.1, d1, d2.1.1.1, d2.2.1, if_neg (show ¬ (9 : Int32) = 8 by decide), j1, j2.1.1.1, j2.2.2.1]
    | inr r =>
      obtain ⟨i2, c2, v2⟩ := r
      rw [p2] at q2 k2
      obtain ⟨X4, b1, b2, b4, b3⟩ := q2
      obtain ⟨m1, k2, l2, -⟩ := k2
      have q3 := x_part hV (key := 6) (by decide) (by decide) b2 k2 (by rw [List.length_append, List.nil_append]; omega) b4 (by simp)
      have k3 := hO.pt (key := 6) (by decide) (by decide) i2 k2
      simp only [b1, obs, zokX_9, b2.1.1.1]
      cases p3 : ptP (tC B n) (rdP (tC B n) (vlT B n) 5).1 6 i2 with
      | inl e =>
        rw [p3] at q3
        obtain ⟨X5, d1, d2, d3⟩ := q3
        obtain ⟨X6, j1, j2, j3⟩ := x_fail1 d2
        refine ⟨X6, ?_, fin X6 (((a3.tr b3).tr d3).tr j3.p), j2.2.2.2⟩
        simp only [obs, zokX_9, d1, d2.1.1.1, d2.2.1, if_neg (show ¬ (9 : Int32) = 8 by decide), j1, j2.1.1.1, j2.2.2.1]
      | inr r =>
        obtain ⟨i3, c3, v3⟩ := r
        rw [p3] at q3 k3
        obtain ⟨X5, d1, d2, d4, d3⟩ := q3
        obtain ⟨m2, k3, l3, -⟩ := k3
        by_cases c8 : tC B n i3 = 8
        · simp only [if_pos c8]
          refine ⟨X5, ?_, fin X5 ((a3.tr b3).tr d3), d2.2.2.2.2, d4⟩
          simp only [obs, zokX_9, d1, d2.1.1.1, d2.2.2.1, if_pos c8, d2.2.2.2.1]
        · simp only [if_neg c8]
          obtain ⟨X6, j1, j2, j3⟩ := x_fail d2 k3
          refine ⟨X6, ?_, fin X6 (((a3.tr b3).tr d3).tr j3.p), j2.2.2.2⟩
          simp only [obs, zokX_9, d1, d2.1.1.1, d2.2.2.1, if_neg c8, j1, j2.1.1.1, j2.2.2.1]
