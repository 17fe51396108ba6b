/-- what one HAD behind an asking by which g is given -/
def hdS (h : Nat) (g : Int32) : Nat := if g = -1 then h else h ||| 2 ^ g.toNatClampNeg
theorem hdS_le {h : Nat} (hh : h ≤ 4095) {g : Int32} (hg : g = -1 ∨ ∃ j, j < 12 ∧ g = nI j) : hdS h g ≤ 4095 := by
  unfold hdS
  rcases hg with rfl | ⟨j, hj, rfl⟩
  · rw [if_pos rfl]; exact hh
  · split
    · exact hh
    · rw [nI_clamp (by omega)]; exact or_le hh (p2_le hj)
theorem nI_ne_m1 {j : Nat} (hj : j < 12) : ¬ nI j = (-1 : Int32) := fun q => by
  have := congrArg Int32.toInt q
  rw [nI_toInt (by omega)] at this
  have h2 : (-1 : Int32).toInt = -1 := by decide
  omega
/-- SPENT, 9999 at most -/
def spS (sp : Nat) (c : Int32) : Int32 := if nI sp + c < 9999 then nI sp + c else 9999
theorem spS_nat {sp : Nat} (h : sp ≤ 9999) {c : Nat} (hc : c ≤ 99) : spS sp (nI c) = nI (min (sp + c) 9999) ∧ min (sp + c) 9999 ≤ 9999 := by
  refine ⟨?_, by omega⟩
  unfold spS
  rw [nI_add]
  by_cases e : sp + c < 9999
  · rw [if_pos (show nI (sp + c) < (9999 : Int32) from nI_lt (b := 9999) e (by decide)), show min (sp + c) 9999 = sp + c by omega]
  · rw [if_neg (show ¬ nI (sp + c) < (9999 : Int32) from nI_nlt (b := 9999) (by omega) (by omega)), show min (sp + c) 9999 = 9999 by omega]
    rfl
theorem spS_within {sp : Nat} (h : sp ≤ 9999) {c : Nat} (hc : c ≤ 99) (M : zS) : fX8_within (nI sp + nI c) 0 9999 M = some (spS sp (nI c), M) := by
  unfold fX8_within spS
  rw [nI_add, if_pos (nI_pos' (by omega))]
  by_cases e : sp + c < 9999
  · rw [if_pos (show nI (sp + c) < (9999 : Int32) from nI_lt (b := 9999) e (by decide)), if_pos (show nI (sp + c) ≤ (9999 : Int32) from nI_le (b := 9999) (by omega) (by decide))]
  · rw [if_neg (show ¬ nI (sp + c) < (9999 : Int32) from nI_nlt (b := 9999) (by omega) (by omega))]
    by_cases e2 : sp + c ≤ 9999
    · rw [if_pos (show nI (sp + c) ≤ (9999 : Int32) from nI_le (b := 9999) e2 (by decide)), show sp + c = 9999 by omega]
      rfl
    · rw [if_neg (show ¬ nI (sp + c) ≤ (9999 : Int32) from nI_ge (b := sp + c) (a := 9999) (by omega) (by omega))]
/-- X and X' are alike but for the one in thought, the names' row, the TEXTS' stacks -/
def frA (X X' : zS) : Prop := X'.1 = X.1 ∧ X'.2.2.2 = X.2.2.2 ∧ ∀ o k, o = 7 ∨ o = 8 ∨ (∃ t, t < 6 ∧ ((o = 27 + 4 * t ∧ k = 5) ∨ o = 30 + 4 * t)) ∨ X'.2.1 o k = X.2.1 o k
theorem frX.a {X X' : zS} (h : frX X X') : frA X X' := ⟨h.1, h.2.1, fun o k => Or.inr (h.2.2 o k)⟩
theorem frA.rf (X : zS) : frA X X := (frX.rf X).a
theorem frA.tr {X Y Z : zS} (h : frA X Y) (g : frA Y Z) : frA X Z := ⟨g.1.trans h.1, g.2.1.trans h.2.1, fun o k => by
  rcases h.2.2 o k with a | a | a | a
  · exact Or.inl a
  · exact Or.inr (Or.inl a)
  · exact Or.inr (Or.inr (Or.inl a))
  · rcases g.2.2 o k with b | b | b | b
    · exact Or.inl b
    · exact Or.inr (Or.inl b)
    · exact Or.inr (Or.inr (Or.inl b))
    · exact Or.inr (Or.inr (Or.inr (b.trans a)))⟩
theorem frA.zp {X Y : zS} (h : frA X Y) (k : Nat) (v : Int32) : frA X (zp Y 7 k v) := ⟨h.1, h.2.1, fun o j => by
  rcases h.2.2 o j with a | a | a | a
  · exact Or.inl a
  · exact Or.inr (Or.inl a)
  · exact Or.inr (Or.inr (Or.inl a))
  · by_cases e : o = 7
    · exact Or.inl e
    · exact Or.inr (Or.inr (Or.inr (by rw [zp_h, if_neg (fun q => e q.1)]; exact a)))⟩
theorem frA.at {X X' : zS} (h : frA X X') {o k : Nat} (h7 : o ≠ 7) (h8 : o ≠ 8) (ht : o < 27 ∨ 51 ≤ o) : X'.2.1 o k = X.2.1 o k := by
  rcases h.2.2 o k with a | a | ⟨t, h1, h2⟩ | a
  · exact absurd a h7
  · exact absurd a h8
  · omega
  · exact a
theorem frA.code {X X' : zS} (h : frA X X') {t : Nat} (ht : t < 6) : (∀ k, X'.2.1 (27 + 4 * t) k = X.2.1 (27 + 4 * t) k ∨ k = 5) ∧ (∀ k, X'.2.1 (28 + 4 * t) k = X.2.1 (28 + 4 * t) k) ∧ (∀ k, X'.2.1 (29 + 4 * t) k = X.2.1 (29 + 4 * t) k) := by
  refine ⟨fun k => ?_, fun k => ?_, fun k => ?_⟩
  · rcases h.2.2 (27 + 4 * t) k with a | a | ⟨u, h1, h2⟩ | a
    · omega
    · omega
    · rcases h2 with h2 | h2
      · exact Or.inr h2.2
      · omega
    · exact Or.inl a
  · rcases h.2.2 (28 + 4 * t) k with a | a | ⟨u, h1, h2⟩ | a
    · omega
    · omega
    · omega
    · exact a
  · rcases h.2.2 (29 + 4 * t) k with a | a | ⟨u, h1, h2⟩ | a
    · omega
    · omega
    · omega
    · exact a
theorem frA.sh {X X' : zS} (h : frA X X') (hX : shX X) : shX X' := ⟨h.1.trans hX.1, fun o ho k hk => by rw [h.2.1]; exact hX.2 o ho k hk⟩
theorem frA.tx {X X' : zS} (h : frA X X') {t : Nat} (ht : t < 6) {F : Nat → (Nat → Int32) → Int32} (g : TxX X t F) : TxX X' t F := g.mono (h.code ht).1 (h.code ht).2.1 (h.code ht).2.2
theorem frA.like {X X' : zS} (h : frA X X') {L : Nat → Nat} (g : LkX X L) : LkX X' L := fun t ht => (h.at (by decide) (by decide) (Or.inl (by decide))).trans (g t ht)
theorem x_zp7 (X : zS) (k j : Nat) (v : Int32) : (zp X 7 k v).2.1 7 j = if j = k then v else X.2.1 7 j := by
  rw [zp_h]
  by_cases e : j = k
  · rw [if_pos ⟨rfl, e⟩, if_pos e]
  · rw [if_neg (fun q => e q.2), if_neg e]
/-- what askings in thought leave: last, gifts, misses, joy, paid -/
def acX (X : zS) (a10 a11 a12 a13 a14 : Int32) : Prop := X.2.1 7 10 = a10 ∧ X.2.1 7 11 = a11 ∧ X.2.1 7 12 = a12 ∧ X.2.1 7 13 = a13 ∧ X.2.1 7 14 = a14
theorem x_asked {X : zS} (hX : shX X) {L : Nat → Nat} {k nu s h nh d t sp : Nat} {F : Nat → (Nat → Int32) → Int32} (hV : Vok L k nu s h nh d) (hP : PcX X L k nu s h nh d t F) (v7 : X.2.1 7 7 = nI sp) {a10 a11 a12 a13 a14 : Int32} (ha : acX X a10 a11 a12 a13 a14) {st : Nat} (hst : st ≤ 4095) : ∃ X', fX6_askFor 7 (nI st) X = some (gvS L k nu s h nh d F st, X') ∧ frA X X' ∧ PcX X' L k nu (s ||| shN L k st) (hdS h (gvS L k nu s h nh d F st)) nh d t F ∧ X'.2.1 7 7 = spS sp (csS nu h d F st) ∧ acX X' (gvS L k nu s h nh d F st) (if gvS L k nu s h nh d F st = -1 then a11 else a11 + 1) (if gvS L k nu s h nh d F st = -1 then a12 + 1 else a12) (if gvS L k nu s h nh d F st = -1 then a13 else a13 + gdS k nu h nh d F (gvS L k nu s h nh d F st).toNatClampNeg) (a14 + csS nu h d F st) := by
  have hP0 := hP
  obtain ⟨X1, e1, f1⟩ := x_given hX hV hP hst
  have hX1 := f1.sh hX
  have hP1 := hP0.fr f1
  have es := x_shut7 hX1 hP1.1 hV.2.1 hP1.2.1 hst
  obtain ⟨X2, e2, f2⟩ := x_cost7 hX1 hV hP1 hst
  have hX2 := f2.sh hX1
  have hP2 := hP1.fr f2
  have f12 := f1.tr f2
  have g7 : ∀ j, X2.2.1 7 j = X.2.1 7 j := fun j => f12.at (by decide) (Or.inl (by decide))
  obtain ⟨c10, c11, c12, c13, c14⟩ := ha
  have n1 := hX.1
  have n2 := hX1.1
  have n3 := hX2.1
  rcases gv_or (L := L) (k := k) (nu := nu) (s := s) (h := h) (nh := nh) (d := d) (F := F) (st := st) with hg | ⟨g, hg12, hgo, hg⟩
  · rw [hg] at e1 ⊢
    refine ⟨zp (zp (zp (zp (zp X2 7 12 (a12 + 1)) 7 5 (nI (s ||| shN L k st))) 7 14 (a14 + csS nu h d F st)) 7 7 (spS sp (csS nu h d F st))) 7 10 (-1), ?_, ?_, ?_, ?_, ?_⟩
    · simp only [fX6_askFor, fX6_askFor_j73, zokX_0, zokX_1, zokX_2, zokX_3, zokX_4, zokX_5, zokX_6, zokX_7, zokX_8, zokX_9, zokX_10, zokX_11, zokX_12, zokX_13, zokX_14, zokX_15, zokX_16, zlaX_1, zlaX_2, zlaX_3, zlaX_4, zlaX_5, zlaX_6, zlaX_8, zlaX_11, zlaX_12, zlaX_13, zlaX_15, zlaX_16, zp_1, zp_h, zp_r, zp_l, zletE, obs, spXe_0, spXe_1, spXe_2, spXe_3, spXe_4, spXe_5, spXe_6, spXe_7, spXe_8, spXe_9, spXe_10, spXe_11, spXe_12, spXe_13, spXe_14, spXe_15, spXe_16, n1, n2, n3, e1, es, e2, if_true, x_zp7, Nat.reduceEqDiff, true_and, and_false, false_and, if_false, g7, hP0.2.2.2.1, v7, c10, c11, c12, c13, c14, n_or]
      rfl
    · exact ((((f12.a.zp _ _).zp _ _).zp _ _).zp _ _).zp _ _
    · obtain ⟨hL, vk, vu, vs, vh, vn, vd, ht, vr, hT⟩ := hP2
      have ff : frA X2 (zp (zp (zp (zp (zp X2 7 12 (a12 + 1)) 7 5 (nI (s ||| shN L k st))) 7 14 (a14 + csS nu h d F st)) 7 7 (spS sp (csS nu h d F st))) 7 10 (-1)) := (((((frA.rf X2).zp _ _).zp _ _).zp _ _).zp _ _).zp _ _
      refine ⟨ff.like hL, ?_, ?_, ?_, ?_, ?_, ?_, ht, vr, ff.tx ht hT⟩
      · simp only [x_zp7, Nat.reduceEqDiff, true_and, and_false, false_and, if_false]; exact vk
      · simp only [x_zp7, Nat.reduceEqDiff, true_and, and_false, false_and, if_false]; exact vu
      · simp only [x_zp7, Nat.reduceEqDiff, true_and, and_false, false_and, if_false, if_true]
      · simp only [x_zp7, Nat.reduceEqDiff, true_and, and_false, false_and, if_false]; exact vh
      · simp only [x_zp7, Nat.reduceEqDiff, true_and, and_false, false_and, if_false]; exact vn
      · simp only [x_zp7, Nat.reduceEqDiff, true_and, and_false, false_and, if_false]; exact vd
    · simp only [x_zp7, Nat.reduceEqDiff, true_and, and_false, false_and, if_false, if_true]
    · refine ⟨?_, ?_, ?_, ?_, ?_⟩ <;> simp only [x_zp7, Nat.reduceEqDiff, true_and, and_false, false_and, if_false, if_true, g7, c11, c13]
  · have hne := nI_ne_m1 hg12
    have hcl : (nI g).toNatClampNeg = g := nI_clamp (by omega)
    have hP3 : PcX (zp X2 7 11 (a11 + 1)) L k nu s h nh d t F := by
      obtain ⟨hL, vk, vu, vs, vh, vn, vd, ht, vr, hT⟩ := hP2
      have ff : frA X2 (zp X2 7 11 (a11 + 1)) := (frA.rf X2).zp _ _
      refine ⟨ff.like hL, ?_, ?_, ?_, ?_, ?_, ?_, ht, vr, ff.tx ht hT⟩ <;> simp only [x_zp7, Nat.reduceEqDiff, true_and, and_false, false_and, if_false] <;> assumption
    obtain ⟨X3, e3, f3⟩ := x_glad7 (X := zp X2 7 11 (a11 + 1)) hX2 hV hP3 hg12
    have hX3 := f3.sh (show shX (zp X2 7 11 (a11 + 1)) from hX2)
    have hP4 := hP3.fr f3
    have n4 := hX3.1
    have g7' : ∀ j, X3.2.1 7 j = if j = 11 then a11 + 1 else X.2.1 7 j := fun j => by
      rw [f3.at (by decide) (Or.inl (by decide)), x_zp7, g7]
    have hsh := n_shl1 (show g < 31 by omega)
    rw [hg] at e1 ⊢
    have hh' : hdS h (nI g) = h ||| 2 ^ g := by
      unfold hdS
      rw [if_neg hne, hcl]
    rw [hh', if_neg hne, if_neg hne, if_neg hne, hcl]
    refine ⟨zp (zp (zp (zp (zp (zp X3 7 13 (a13 + gdS k nu h nh d F g)) 7 6 (nI (h ||| 2 ^ g))) 7 5 (nI (s ||| shN L k st))) 7 14 (a14 + csS nu h d F st)) 7 7 (spS sp (csS nu h d F st))) 7 10 (nI g), ?_, ?_, ?_, ?_, ?_⟩
    · simp only [fX6_askFor, fX6_askFor_j73, zokX_0, zokX_1, zokX_2, zokX_3, zokX_4, zokX_5, zokX_6, zokX_7, zokX_8, zokX_9, zokX_10, zokX_11, zokX_12, zokX_13, zokX_14, zokX_15, zokX_16, zlaX_1, zlaX_2, zlaX_3, zlaX_4, zlaX_5, zlaX_6, zlaX_8, zlaX_11, zlaX_12, zlaX_13, zlaX_15, zlaX_16, zp_1, zp_h, zp_r, zp_l, zletE, obs, spXe_0, spXe_1, spXe_2, spXe_3, spXe_4, spXe_5, spXe_6, spXe_7, spXe_8, spXe_9, spXe_10, spXe_11, spXe_12, spXe_13, spXe_14, spXe_15, spXe_16, n1, n2, n3, n4, e1, es, e2, e3, if_neg hne, x_zp7, Nat.reduceEqDiff, true_and, and_false, false_and, if_false, if_true, g7, g7', hP0.2.2.2.1, hP0.2.2.2.2.1, v7, c10, c11, c12, c13, c14, n_or, hsh]
      rfl
    · exact (((((((f12.a.zp _ _).tr f3.a).zp _ _).zp _ _).zp _ _).zp _ _).zp _ _).zp _ _
    · obtain ⟨hL, vk, vu, vs, vh, vn, vd, ht, vr, hT⟩ := hP4
      have ff : frA X3 (zp (zp (zp (zp (zp (zp X3 7 13 (a13 + gdS k nu h nh d F g)) 7 6 (nI (h ||| 2 ^ g))) 7 5 (nI (s ||| shN L k st))) 7 14 (a14 + csS nu h d F st)) 7 7 (spS sp (csS nu h d F st))) 7 10 (nI g)) := ((((((frA.rf X3).zp _ _).zp _ _).zp _ _).zp _ _).zp _ _).zp _ _
      refine ⟨ff.like hL, ?_, ?_, ?_, ?_, ?_, ?_, ht, vr, ff.tx ht hT⟩
      · simp only [x_zp7, Nat.reduceEqDiff, true_and, and_false, false_and, if_false]; exact vk
      · simp only [x_zp7, Nat.reduceEqDiff, true_and, and_false, false_and, if_false]; exact vu
      · simp only [x_zp7, Nat.reduceEqDiff, true_and, and_false, false_and, if_false, if_true]
      · simp only [x_zp7, Nat.reduceEqDiff, true_and, and_false, false_and, if_false, if_true]
      · simp only [x_zp7, Nat.reduceEqDiff, true_and, and_false, false_and, if_false]; exact vn
      · simp only [x_zp7, Nat.reduceEqDiff, true_and, and_false, false_and, if_false]; exact vd
    · simp only [x_zp7, Nat.reduceEqDiff, true_and, and_false, false_and, if_false, if_true]
    · refine ⟨?_, ?_, ?_, ?_, ?_⟩ <;> simp only [x_zp7, Nat.reduceEqDiff, true_and, and_false, false_and, if_false, if_true, g7', c11, c12, c13]
/-- M and M' are alike but for the reading's own numbers, how glad, how dear, and the row of p -/
def frB (p : Nat) (M M' : zS) : Prop := M'.1 = M.1 ∧ M'.2.2.2 = M.2.2.2 ∧ ∀ o k, (o = 0 ∧ 13 ≤ k ∧ k ≤ 29) ∨ (o = 6 ∧ 4 * p + 1 ≤ k ∧ k ≤ 4 * p + 3) ∨ M'.2.1 o k = M.2.1 o k
theorem frM.b {M M' : zS} (h : frM M M') (p : Nat) : frB p M M' := ⟨h.1, h.2.1, fun o k => by
  rcases h.2.2 o k with a | a
  · exact Or.inl ⟨a.1, a.2.1, by omega⟩
  · exact Or.inr (Or.inr a)⟩
theorem frB.rf (p : Nat) (M : zS) : frB p M M := (frM.rf M).b p
theorem frB.tr {p : Nat} {X Y Z : zS} (h : frB p X Y) (g : frB p Y Z) : frB p X Z := ⟨g.1.trans h.1, g.2.1.trans h.2.1, fun o k => by
  rcases h.2.2 o k with a | a | a
  · exact Or.inl a
  · exact Or.inr (Or.inl a)
  · rcases g.2.2 o k with b | b | b
    · exact Or.inl b
    · exact Or.inr (Or.inl b)
    · exact Or.inr (Or.inr (b.trans a))⟩
theorem frB.zp0 {p : Nat} {M N : zS} (h : frB p M N) {k : Nat} (hk : 13 ≤ k ∧ k ≤ 29) (v : Int32) : frB p M (zp N 0 k v) := ⟨h.1, h.2.1, fun o j => by
  rcases h.2.2 o j with a | a | a
  · exact Or.inl a
  · exact Or.inr (Or.inl a)
  · by_cases e : o = 0 ∧ j = k
    · exact Or.inl ⟨e.1, by omega⟩
    · exact Or.inr (Or.inr (by rw [zp_h, if_neg e]; exact a))⟩
theorem frB.zp6 {p : Nat} {M N : zS} (h : frB p M N) {k : Nat} (hk : 4 * p + 1 ≤ k ∧ k ≤ 4 * p + 3) (v : Int32) : frB p M (zp N 6 k v) := ⟨h.1, h.2.1, fun o j => by
  rcases h.2.2 o j with a | a | a
  · exact Or.inl a
  · exact Or.inr (Or.inl a)
  · by_cases e : o = 6 ∧ j = k
    · exact Or.inr (Or.inl ⟨e.1, by omega⟩)
    · exact Or.inr (Or.inr (by rw [zp_h, if_neg e]; exact a))⟩
theorem frB.at {p : Nat} {M M' : zS} (h : frB p M M') {o k : Nat} (h1 : o ≠ 0 ∨ k < 13 ∨ 29 < k) (h2 : o ≠ 6 ∨ k < 4 * p + 1 ∨ 4 * p + 3 < k) : M'.2.1 o k = M.2.1 o k := by
  rcases h.2.2 o k with a | a | a
  · omega
  · omega
  · exact a
theorem frB.sh {p : Nat} {M M' : zS} (h : frB p M M') (hM : shM M) : shM M' := ⟨h.1.trans hM.1, fun o ho k hk => by rw [h.2.1]; exact hM.2 o ho k hk⟩
theorem frB.tx {p : Nat} {M M' : zS} (h : frB p M M') {t : Nat} {F : Nat → (Nat → Int32) → Int32} (g : TxM M t F) : TxM M' t F := g.mono (fun j _ => h.at (Or.inl (by decide)) (Or.inl (by decide))) (h.at (Or.inl (by decide)) (Or.inl (by decide)))
theorem RlM.frb {p : Nat} {M M' : zS} {t : Nat} {F : Nat → (Nat → Int32) → Int32} (h : RlM M t F) (g : frB p M M') : RlM M' t F := ⟨(g.at (Or.inr (Or.inl (by decide))) (Or.inl (by decide))).trans h.1, g.tx h.2⟩
theorem PcM.frb {M M' : zS} {p n : Nat} {L : Nat → Nat} {k nu s h nh d : Nat} (hp : PcM M p n L k nu s h nh d) (g : frB p M M') {s' h' : Nat} (e1 : M'.2.1 6 (4 * p + 1) = nI s') (e2 : M'.2.1 6 (4 * p + 2) = nI h') : PcM M' p n L k nu s' h' nh d := by
  obtain ⟨a, a1, a2, a3, a4, a5, a6, a7, a8, a9⟩ := hp
  refine ⟨fun t ht => (g.at (Or.inl (by decide)) (Or.inl (by decide))).trans (a t ht), a1, a2, (g.at (Or.inr (Or.inl (by decide))) (Or.inl (by decide))).trans a3, (g.at (Or.inl (by decide)) (Or.inl (by decide))).trans a4, (g.at (Or.inl (by decide)) (Or.inr (Or.inl (by omega)))).trans a5, e1, e2, (g.at (Or.inr (Or.inl (by decide))) (Or.inl (by decide))).trans a8, ?_⟩
  by_cases c : n = 1
  · rw [if_pos c] at a9 ⊢; exact a9
  · rw [if_neg c] at a9 ⊢
    rw [g.at (Or.inl (by decide)) (Or.inr (by split <;> omega))]
    exact a9
theorem m_asked67 {M : zS} (hM : shM M) {p n : Nat} (hp : p < 5) {s h sp c : Nat} (ps : M.2.1 6 (4 * p + 1) = nI s) (pq : M.2.1 6 (4 * p + 3) = nI sp) (hsp : sp ≤ 9999) (hc : c ≤ 99) (pc29 : M.2.1 0 29 = nI c) (g : Int32) (sh hb : Nat) : fX8_asked_j67 0 (nI p) g (nI sh) (some 6) (nI (4 * p + 2)) (nI h) (nI hb) M = some (g, zp (zp (zp M 6 (4 * p + 2) (nI (h ||| hb))) 6 (4 * p + 1) (nI (s ||| sh))) 6 (4 * p + 3) (spS sp (nI c))) := by
  have r10 : M.2.2.2 0 10 = some 6 := hM.r (by decide) (by decide)
  have i1 : (4 : Int32) * nI p + 1 = nI (4 * p + 1) := idx4 p 1
  have i3 : (4 : Int32) * nI p + 3 = nI (4 * p + 3) := idx4 p 3
  have z1 : zix spM 6 (nI (4 * p + 1)) = some (4 * p + 1) := zix_of rfl (by show 4 * p + 1 < 20; omega) (by decide)
  have z2 : zix spM 6 (nI (4 * p + 2)) = some (4 * p + 2) := zix_of rfl (by show 4 * p + 2 < 20; omega) (by decide)
  have z3 : zix spM 6 (nI (4 * p + 3)) = some (4 * p + 3) := zix_of rfl (by show 4 * p + 3 < 20; omega) (by decide)
  have q12 : (4 * p + 1 = 4 * p + 2) = False := by simp
  have q32 : (4 * p + 3 = 4 * p + 2) = False := by simp
  have q31 : (4 * p + 3 = 4 * p + 1) = False := by simp
  simp only [fX8_asked_j67, zokM_0, zokM_1, zokM_2, zokM_3, zokM_4, zokM_5, zokM_6, zokM_7, zokM_8, zokM_9, zokM_10, zokM_11, zokM_12, zokM_13, zokM_14, zokM_15, zlaM_1, zlaM_2, zlaM_3, zlaM_4, zlaM_5, zlaM_6, zlaM_7, zlaM_8, zlaM_9, zlaM_10, zlaM_11, zlaM_12, zlaM_13, zlaM_14, zlaM_15, zp_1, zp_h, zp_r, zp_l, zletE, obs, spMe_0, spMe_1, spMe_2, spMe_3, spMe_4, spMe_5, spMe_6, spMe_7, spMe_8, spMe_9, spMe_10, spMe_11, spMe_12, spMe_13, spMe_14, spMe_15, hM.1, r10, i1, i3, z1, z2, z3, q12, q32, q31, Nat.reduceEqDiff, true_and, false_and, if_false, ps, pq, pc29, n_or, spS_within hsp hc]
theorem m_asked {M : zS} (hM : shM M) {p n : Nat} {L : Nat → Nat} {k nu s h nh d t sp : Nat} {F : Nat → (Nat → Int32) → Int32} (hV : Vok L k nu s h nh d) (hP : PcM M p n L k nu s h nh d) (hR : RlM M t F) (pq : M.2.1 6 (4 * p + 3) = nI sp) (hsp : sp ≤ 9999) {st : Nat} (hst : st ≤ 4095) : ∃ M', fX8_asked 0 (nI p) (nI st) M = some (gvS L k nu s h nh d F st, M') ∧ frB p M M' ∧ PcM M' p n L k nu (s ||| shN L k st) (hdS h (gvS L k nu s h nh d F st)) nh d ∧ M'.2.1 6 (4 * p + 3) = spS sp (csS nu h d F st) ∧ M'.2.1 0 28 = (if gvS L k nu s h nh d F st = -1 then 0 else gdS k nu h nh d F (gvS L k nu s h nh d F st).toNatClampNeg) ∧ M'.2.1 0 29 = csS nu h d F st := by
  have hP0 := hP
  have hp5 : p < 5 := by have := hP.2.1; have := hP.2.2.1; omega
  obtain ⟨M1, e1, f1⟩ := m_given hM hV hP hR hst
  have hM1 := f1.sh hM
  have hP1 := hP0.fr f1
  have hR1 := hR.fr f1
  -- how glad
  have gl : ∃ M2 gl, (∀ g, gvS L k nu s h nh d F st = g → fX8_asked 0 (nI p) (nI st) M = fX8_asked_j23 0 (nI p) (nI st) g (some 0) gl M2) ∧ frM M M2 ∧ gl = (if gvS L k nu s h nh d F st = -1 then 0 else gdS k nu h nh d F (gvS L k nu s h nh d F st).toNatClampNeg) := by
    rcases gv_or (L := L) (k := k) (nu := nu) (s := s) (h := h) (nh := nh) (d := d) (F := F) (st := st) with hg | ⟨g, hg12, hgo, hg⟩
    · refine ⟨M1, 0, fun g' hg' => ?_, f1, by rw [if_pos hg]⟩
      rw [hg] at e1 hg'
      subst hg'
      simp only [fX8_asked, zokM_0, zokM_1, zokM_2, zokM_3, zokM_4, zokM_5, zokM_6, zokM_7, zokM_8, zokM_9, zokM_10, zokM_11, zokM_12, zokM_13, zokM_14, zokM_15, zlaM_1, zlaM_2, zlaM_3, zlaM_4, zlaM_5, zlaM_6, zlaM_7, zlaM_8, zlaM_9, zlaM_10, zlaM_11, zlaM_12, zlaM_13, zlaM_14, zlaM_15, zp_1, zp_h, zp_r, zp_l, zletE, obs, spMe_0, spMe_1, spMe_2, spMe_3, spMe_4, spMe_5, spMe_6, spMe_7, spMe_8, spMe_9, spMe_10, spMe_11, spMe_12, spMe_13, spMe_14, spMe_15, hM.1, e1, if_true]
    · obtain ⟨M2, e2, f2⟩ := m_glad8 hM1 hV hP1 hR1 hg12
      have hne := nI_ne_m1 hg12
      refine ⟨M2, _, fun g' hg' => ?_, f1.tr f2, by rw [hg, if_neg hne, nI_clamp (by omega)]⟩
      rw [hg] at e1 hg'
      subst hg'
      simp only [fX8_asked, zokM_0, zokM_1, zokM_2, zokM_3, zokM_4, zokM_5, zokM_6, zokM_7, zokM_8, zokM_9, zokM_10, zokM_11, zokM_12, zokM_13, zokM_14, zokM_15, zlaM_1, zlaM_2, zlaM_3, zlaM_4, zlaM_5, zlaM_6, zlaM_7, zlaM_8, zlaM_9, zlaM_10, zlaM_11, zlaM_12, zlaM_13, zlaM_14, zlaM_15, zp_1, zp_h, zp_r, zp_l, zletE, obs, spMe_0, spMe_1, spMe_2, spMe_3, spMe_4, spMe_5, spMe_6, spMe_7, spMe_8, spMe_9, spMe_10, spMe_11, spMe_12, spMe_13, spMe_14, spMe_15, hM.1, hM1.1, e1, if_neg hne, e2]
  obtain ⟨M2, gl, e2, f2, hgl⟩ := gl
  rw [e2 _ rfl, ← hgl]
  have hM2 := f2.sh hM
  have f2' : frB p M (zp M2 0 28 gl) := (f2.b p).zp0 (by decide) _
  have q6 : ∀ j : Nat, ¬ ((6 : Nat) = 0 ∧ j = 28) := fun j => by omega
  have hM2' : shM (zp M2 0 28 gl) := hM2
  have hP2 : PcM (zp M2 0 28 gl) p n L k nu s h nh d := hP0.frb f2' (by rw [zp_h, if_neg (q6 _), f2.at (Or.inl (by decide))]; exact hP0.2.2.2.2.2.2.1) (by rw [zp_h, if_neg (q6 _), f2.at (Or.inl (by decide))]; exact hP0.2.2.2.2.2.2.2.1)
  obtain ⟨M3, e3, f3⟩ := m_cost8 hM2' hV hP2 (hR.frb f2') hst
  obtain ⟨c, hc, hcs⟩ := csS_nat nu h d F st
  have hM3 := f3.sh hM2'
  have f3' : frB p M (zp M3 0 29 (nI c)) := (f2'.tr (f3.b p)).zp0 (by decide) _
  have hP3 := hP2.fr f3
  have hM3' : shM (zp M3 0 29 (nI c)) := hM3
  have q29 : ∀ o j : Nat, o ≠ 0 → ¬ (o = 0 ∧ j = 29) := fun o j e => by omega
  have es := m_shut8 hM3' hp5 (L := L) (fun u hu => by rw [zp_h, if_neg (by omega)]; exact hP3.1 u hu) hV.2.1 (by rw [zp_h, if_neg (by omega)]; exact hP3.2.2.2.2.1) hst
  have i2 : (4 : Int32) * nI p + 2 = nI (4 * p + 2) := idx4 p 2
  have z2 : zix spM 6 (nI (4 * p + 2)) = some (4 * p + 2) := zix_of rfl (by show 4 * p + 2 < 20; omega) (by decide)
  have r10 : M3.2.2.2 0 10 = some 6 := hM3.r (by decide) (by decide)
  have n1 := hM.1
  have n2 := hM2.1
  have n3 := hM3.1
  have w1 : (zp M3 0 29 (nI c)).2.1 6 (4 * p + 1) = nI s := by rw [zp_h, if_neg (by omega)]; exact hP3.2.2.2.2.2.2.1
  have w2 : M3.2.1 6 (4 * p + 2) = nI h := hP3.2.2.2.2.2.2.2.1
  have w3 : (zp M3 0 29 (nI c)).2.1 6 (4 * p + 3) = nI sp := by
    rw [zp_h, if_neg (by omega), f3.at (Or.inl (by decide)), zp_h, if_neg (by omega), f2.at (Or.inl (by decide))]; exact pq
  have w4 : (zp M3 0 29 (nI c)).2.1 0 29 = nI c := by simp [zp_h]
  have key : ∀ hb, fX8_asked_j67 0 (nI p) (gvS L k nu s h nh d F st) (nI (shN L k st)) (some 6) (nI (4 * p + 2)) (nI h) (nI hb) (zp M3 0 29 (nI c)) = _ := fun hb => m_asked67 (n := n) hM3' hp5 w1 w3 hsp hc w4 (gvS L k nu s h nh d F st) (shN L k st) hb
  have hh : ∃ hb, h ||| hb = hdS h (gvS L k nu s h nh d F st) ∧ fX8_asked_j23 0 (nI p) (nI st) (gvS L k nu s h nh d F st) (some 0) gl M2 = fX8_asked_j67 0 (nI p) (gvS L k nu s h nh d F st) (nI (shN L k st)) (some 6) (nI (4 * p + 2)) (nI h) (nI hb) (zp M3 0 29 (nI c)) := by
    have q6' : ∀ j : Nat, ¬ ((6 : Nat) = 0 ∧ j = 29) := fun j => by omega
    rcases gv_or (L := L) (k := k) (nu := nu) (s := s) (h := h) (nh := nh) (d := d) (F := F) (st := st) with hg | ⟨g, hg12, hgo, hg⟩
    · rw [hg]
      refine ⟨0, by unfold hdS; rw [if_pos rfl, Nat.or_zero], ?_⟩
      simp only [fX8_asked_j23, zokM_0, zokM_1, zokM_2, zokM_3, zokM_4, zokM_5, zokM_6, zokM_7, zokM_8, zokM_9, zokM_10, zokM_11, zokM_12, zokM_13, zokM_14, zokM_15, zlaM_1, zlaM_2, zlaM_3, zlaM_4, zlaM_5, zlaM_6, zlaM_7, zlaM_8, zlaM_9, zlaM_10, zlaM_11, zlaM_12, zlaM_13, zlaM_14, zlaM_15, zp_1, zp_h, zp_r, zp_l, zletE, obs, spMe_0, spMe_1, spMe_2, spMe_3, spMe_4, spMe_5, spMe_6, spMe_7, spMe_8, spMe_9, spMe_10, spMe_11, spMe_12, spMe_13, spMe_14, spMe_15, n2, n3, e3, hcs, es, r10, i2, z2, if_neg (q6' _), w2, if_true]
      rfl
    · have hne := nI_ne_m1 hg12
      rw [hg]
      refine ⟨2 ^ g, by unfold hdS; rw [if_neg hne, nI_clamp (by omega)], ?_⟩
      have hsh := n_shl1 (show g < 31 by omega)
      simp only [fX8_asked_j23, zokM_0, zokM_1, zokM_2, zokM_3, zokM_4, zokM_5, zokM_6, zokM_7, zokM_8, zokM_9, zokM_10, zokM_11, zokM_12, zokM_13, zokM_14, zokM_15, zlaM_1, zlaM_2, zlaM_3, zlaM_4, zlaM_5, zlaM_6, zlaM_7, zlaM_8, zlaM_9, zlaM_10, zlaM_11, zlaM_12, zlaM_13, zlaM_14, zlaM_15, zp_1, zp_h, zp_r, zp_l, zletE, obs, spMe_0, spMe_1, spMe_2, spMe_3, spMe_4, spMe_5, spMe_6, spMe_7, spMe_8, spMe_9, spMe_10, spMe_11, spMe_12, spMe_13, spMe_14, spMe_15, n2, n3, e3, hcs, es, r10, i2, z2, if_neg (q6' _), w2, if_neg hne, hsh]
  obtain ⟨hb, hhb, e4⟩ := hh
  rw [e4, key hb, hhb, hcs]
  have ff : frB p M (zp (zp (zp (zp M3 0 29 (nI c)) 6 (4 * p + 2) (nI (hdS h (gvS L k nu s h nh d F st)))) 6 (4 * p + 1) (nI (s ||| shN L k st))) 6 (4 * p + 3) (spS sp (nI c))) := ((f3'.zp6 (by omega) _).zp6 (by omega) _).zp6 (by omega) _
  refine ⟨_, rfl, ff, hP0.frb ff ?_ ?_, ?_, ?_, ?_⟩
  · rw [zp_h, if_neg (by omega), zp_h, if_pos ⟨rfl, rfl⟩]
  · rw [zp_h, if_neg (by omega), zp_h, if_neg (by omega), zp_h, if_pos ⟨rfl, rfl⟩]
  · rw [zp_h, if_pos ⟨rfl, rfl⟩]
  · rw [zp_h, if_neg (by omega), zp_h, if_neg (by omega), zp_h, if_neg (by omega), zp_h, if_neg (by omega), f3.at (Or.inr (Or.inr (by decide))), zp_h, if_pos ⟨rfl, rfl⟩]
  · rw [zp_h, if_neg (by omega), zp_h, if_neg (by omega), zp_h, if_neg (by omega), zp_h, if_pos ⟨rfl, rfl⟩]
