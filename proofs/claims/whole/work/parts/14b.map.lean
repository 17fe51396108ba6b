/-- a set and a THING at j -/
def okP (c : Nat → Int32) (j : Nat) : Bool := !(decide (c j < 0)) && (!(decide (4095 < c j)) && !(decide (c (j + 1) < 0 ∨ nI 12 ≤ c (j + 1))))
def vdB (c : Nat → Int32) : Nat → Nat → Bool
  | 0, _ => true
  | m + 1, j => okP c j && vdB c m (j + 2)
theorem okP_of {c : Nat → Int32} {j : Nat} (h : okP c j = true) : ∃ st th, st ≤ 4095 ∧ th < 12 ∧ c j = nI st ∧ c (j + 1) = nI th := by
  unfold okP at h
  simp only [Bool.and_eq_true, Bool.not_eq_true', decide_eq_false_iff_not] at h
  obtain ⟨h1, h2, h3⟩ := h
  rcases one_cases 4096 (by decide) (c j) with q | ⟨st, hst, e⟩
  · rcases q with q | q
    · exact absurd q h1
    · exact absurd (Int32.lt_of_lt_of_le (show (4095 : Int32) < nI 4096 by decide) q) h2
  · rcases one_cases 12 (by decide) (c (j + 1)) with q | ⟨th, hth, e2⟩
    · exact absurd q h3
    · exact ⟨st, th, by omega, hth, e, e2⟩
theorem x_vd {X M : zS} (hX : shX X) {q m0 : Nat} (hS : Sht X M q m0) : ∀ (m j n : Nat), j + 2 * m = m0 → m < n → fX7_tellsSetsAndThings_L13 n (some (51 + 2 * q)) (nI j) X = some (if vdB (fun j => M.2.1 15 (40 * q + j)) m j = true then 1 else 0, X)
  | m, j, 0, _, h => by omega
  | 0, j, n + 1, e, _ => by
    obtain ⟨h1, h2, h3, h4, h5⟩ := hS
    have c : nI m0 ≤ nI (j + 1) := nI_le (by omega) (by omega)
    simp only [fX7_tellsSetsAndThings_L13, obs, zok_sheet hX.1 h1, h3, nI_1, if_pos c]
    rfl
  | m + 1, j, n + 1, e, hn => by
    have ih := x_vd hX hS m (j + 2) n (by omega) (by omega)
    obtain ⟨h1, h2, h3, h4, h5⟩ := hS
    have c : ¬ nI m0 ≤ nI (j + 1) := nI_ge (by omega) (by omega)
    have ea := x_at hX h1 h3 h2 (show j < m0 by omega)
    have eb := x_at hX h1 h3 h2 (show j + 1 < m0 by omega)
    rw [h5 _ (by omega)] at ea eb
    have n2 : nI j + 2 = nI (j + 2) := nI_add j 2
    rw [vdB, okP]
    by_cases c1 : M.2.1 15 (40 * q + j) < 0
    · rw [decide_eq_true c1]
      simp only [fX7_tellsSetsAndThings_L13, obs, zletE, zok_sheet hX.1 h1, h3, nI_1, if_neg c, ea, if_pos c1]
      rfl
    · by_cases c2 : 4095 < M.2.1 15 (40 * q + j)
      · rw [decide_eq_false c1, decide_eq_true c2]
        simp only [fX7_tellsSetsAndThings_L13, obs, zletE, zok_sheet hX.1 h1, h3, nI_1, if_neg c, ea, if_neg c1, if_pos c2]
        rfl
      · by_cases c3 : M.2.1 15 (40 * q + (j + 1)) < 0 ∨ nI 12 ≤ M.2.1 15 (40 * q + (j + 1))
        · rw [decide_eq_false c1, decide_eq_false c2, decide_eq_true c3]
          simp only [fX7_tellsSetsAndThings_L13, obs, zletE, zok_sheet hX.1 h1, h3, nI_1, if_neg c, ea, if_neg c1, if_neg c2, eb, x_thing0 X c3, if_true]
          rfl
        · rw [decide_eq_false c1, decide_eq_false c2, decide_eq_false c3]
          rcases one_cases 12 (by decide) (M.2.1 15 (40 * q + (j + 1))) with w | ⟨th, hth, e2⟩
          · exact absurd w c3
          · rw [e2] at eb
            simp only [fX7_tellsSetsAndThings_L13, obs, zletE, zok_sheet hX.1 h1, h3, nI_1, if_neg c, ea, if_neg c1, if_neg c2, eb, x_thing1 X hth, if_neg n10, n2, ih]
            rfl
/-- ruled out by one of the twos -/
def rlB (sn tn : Nat → Nat) : Nat → Nat → Nat → Nat → Bool
  | 0, _, _, _ => false
  | m + 1, i, x, y => ((sn i).testBit x && (!(x == tn i) && y == tn i)) || ((sn i).testBit y && (!(y == tn i) && x == tn i)) || rlB sn tn m (i + 1) x y
theorem rlB_sym (sn tn : Nat → Nat) : ∀ (m i x y : Nat), rlB sn tn m i x y = rlB sn tn m i y x
  | 0, _, _, _ => rfl
  | m + 1, i, x, y => by
    rw [rlB, rlB, rlB_sym sn tn m (i + 1) x y, Bool.or_comm ((sn i).testBit x && _)]
theorem rlB_irr (sn tn : Nat → Nat) : ∀ (m i x : Nat), rlB sn tn m i x x = false
  | 0, _, _ => rfl
  | m + 1, i, x => by
    rw [rlB, rlB_irr sn tn m (i + 1) x]
    cases (sn i).testBit x <;> cases (x == tn i) <;> rfl
theorem x_rule {X : zS} (hX : shX X) {q m0 h : Nat} (hq : q < 4) (h40 : m0 ≤ 40) (e0 : m0 = 2 * h) (h3 : X.2.1 (51 + 2 * q) 2 = nI m0) {sn tn : Nat → Nat} (hc : ∀ i, i < h → sn i ≤ 4095 ∧ tn i < 12 ∧ X.2.1 (52 + 2 * q) (2 * i) = nI (sn i) ∧ X.2.1 (52 + 2 * q) (2 * i + 1) = nI (tn i)) {x y : Nat} (hx : x < 12) (hy : y < 12) (hxy : x ≠ y) : ∀ (m i n : Nat), i + m = h → m < n → fX7_isRuledOut_L2 n (some (51 + 2 * q)) (nI x) (nI y) (nI (2 * i)) X = some (if rlB sn tn m i x y = true then 1 else 0, X)
  | m, i, 0, _, hh => by omega
  | 0, i, n + 1, e, _ => by
    have c : nI m0 ≤ nI (2 * i + 1) := nI_le (by omega) (by omega)
    simp only [fX7_isRuledOut_L2, obs, zok_sheet hX.1 hq, h3, nI_1, if_pos c]
    rfl
  | m + 1, i, n + 1, e, hn => by
    have ih := x_rule hX hq h40 e0 h3 hc hx hy hxy m (i + 1) n (by omega) (by omega)
    have c : ¬ nI m0 ≤ nI (2 * i + 1) := nI_ge (by omega) (by omega)
    have ea := x_at hX hq h3 h40 (show 2 * i < m0 by omega)
    have eb := x_at hX hq h3 h40 (show 2 * i + 1 < m0 by omega)
    obtain ⟨s1, s2, s3, s4⟩ := hc i (by omega)
    rw [s3] at ea
    rw [s4] at eb
    have n2 : nI (2 * i) + 2 = nI (2 * (i + 1)) := by
      show nI (2 * i) + nI 2 = _
      rw [nI_add, show 2 * i + 2 = 2 * (i + 1) by omega]
    rw [rlB]
    by_cases tx : tn i = x
    · have tx' : nI (tn i) = nI x := by rw [tx]
      have tyn : ¬ nI (tn i) = nI y := kne (by omega) (by omega) (by omega)
      have b1 : (x == tn i) = true := by rw [beq_iff_eq]; exact tx.symm
      have b2 : (y == tn i) = false := by rw [beq_eq_false_iff_ne]; omega
      cases hb : (sn i).testBit y with
      | true =>
        have c0 : ¬ ((nI (sn i) >>> (nI y &&& 31)) &&& (1 : Int32) = 0) := fun z => by rw [n_bit0 s1 (show y < 31 by omega), hb] at z; cases z
        simp only [fX7_isRuledOut_L2, fX7_isRuledOut_j45, fX7_isRuledOut_j62, obs, zletE, zok_sheet hX.1 hq, h3, nI_1, if_neg c, ea, eb, if_pos tx', if_neg c0, b1, b2]
        simp
      | false =>
        have c0 := (n_bit0 s1 (show y < 31 by omega)).mpr hb
        simp only [fX7_isRuledOut_L2, fX7_isRuledOut_j45, fX7_isRuledOut_j62, obs, zletE, zok_sheet hX.1 hq, h3, nI_1, if_neg c, ea, eb, if_pos tx', if_pos c0, if_neg tyn, n2, ih, b1, b2]
        simp
    · have tx' : ¬ nI (tn i) = nI x := kne (by omega) (by omega) tx
      have b1 : (x == tn i) = false := by rw [beq_eq_false_iff_ne]; omega
      by_cases ty : tn i = y
      · have ty' : nI (tn i) = nI y := by rw [ty]
        have b2 : (y == tn i) = true := by rw [beq_iff_eq]; exact ty.symm
        cases hb : (sn i).testBit x with
        | true =>
          have c0 : ¬ ((nI (sn i) >>> (nI x &&& 31)) &&& (1 : Int32) = 0) := fun z => by rw [n_bit0 s1 (show x < 31 by omega), hb] at z; cases z
          simp only [fX7_isRuledOut_L2, fX7_isRuledOut_j45, fX7_isRuledOut_j62, obs, zletE, zok_sheet hX.1 hq, h3, nI_1, if_neg c, ea, eb, if_neg tx', if_pos ty', if_neg c0, b1, b2]
          simp
        | false =>
          have c0 := (n_bit0 s1 (show x < 31 by omega)).mpr hb
          simp only [fX7_isRuledOut_L2, fX7_isRuledOut_j45, fX7_isRuledOut_j62, obs, zletE, zok_sheet hX.1 hq, h3, nI_1, if_neg c, ea, eb, if_neg tx', if_pos ty', if_pos c0, n2, ih, b1, b2]
          simp
      · have ty' : ¬ nI (tn i) = nI y := kne (by omega) (by omega) ty
        have b2 : (y == tn i) = false := by rw [beq_eq_false_iff_ne]; omega
        simp only [fX7_isRuledOut_L2, fX7_isRuledOut_j45, fX7_isRuledOut_j62, obs, zletE, zok_sheet hX.1 hq, h3, nI_1, if_neg c, ea, eb, if_neg tx', if_neg ty', n2, ih, b1, b2]
        simp
def rl1 (sn tn : Nat → Nat) (h x y : Nat) : Nat := if rlB sn tn h 0 x y = true then 1 else 0
theorem x_map48 {X : zS} (hX : shX X) {q m0 h : Nat} (hq : q < 4) (h40 : m0 ≤ 40) (e0 : m0 = 2 * h) (h3 : X.2.1 (51 + 2 * q) 2 = nI m0) {sn tn : Nat → Nat} (hc : ∀ i, i < h → sn i ≤ 4095 ∧ tn i < 12 ∧ X.2.1 (52 + 2 * q) (2 * i) = nI (sn i) ∧ X.2.1 (52 + 2 * q) (2 * i + 1) = nI (tn i)) (k38 : Option Nat → Int32 → Int32 → zS → Option (Int32 × zS)) {x : Nat} (hx : x < 12) : ∀ (m y n acc : Nat), y + m = x → m < n → fX7_map_L48 0 k38 n (some (51 + 2 * q)) (nI acc) (nI x) (nI y) X = k38 (some (51 + 2 * q)) (nI (acc + sm (rl1 sn tn h x) m y)) (nI (x + 1)) X
  | m, y, 0, _, _, hh => by omega
  | 0, y, n + 1, acc, e, _ => by
    have c : nI x ≤ nI y := nI_le (by omega) (by omega)
    simp only [fX7_map_L48, if_pos c, nI_1]
    rfl
  | m + 1, y, n + 1, acc, e, hn => by
    have c : ¬ nI x ≤ nI y := nI_ge (by omega) (by omega)
    have er := x_rule hX hq h40 e0 h3 hc hx (show y < 12 by omega) (show x ≠ y by omega) h 0 zF (by omega) (by show h < 5000; omega)
    have er' : fX7_isRuledOut (some (51 + 2 * q)) (nI x) (nI y) X = _ := er
    rw [sm, rl1]
    cases hb : rlB sn tn h 0 x y with
    | true =>
      rw [hb, if_pos rfl] at er'
      have ih := x_map48 hX hq h40 e0 h3 hc k38 hx m (y + 1) n (acc + 1) (by omega) (by omega)
      simp only [fX7_map_L48, fX7_map_j69, obs, if_neg c, er', if_neg n10, nI_1]
      rw [ih, if_pos trivial, Nat.add_assoc]
    | false =>
      rw [hb, if_neg (by decide)] at er'
      have ih := x_map48 hX hq h40 e0 h3 hc k38 hx m (y + 1) n acc (by omega) (by omega)
      simp only [fX7_map_L48, fX7_map_j69, obs, if_neg c, er', if_true, nI_1]
      rw [ih, if_neg (by decide), Nat.zero_add]
theorem x_map38 {X : zS} (hX : shX X) {q m0 h : Nat} (hq : q < 4) (h40 : m0 ≤ 40) (e0 : m0 = 2 * h) (h3 : X.2.1 (51 + 2 * q) 2 = nI m0) {sn tn : Nat → Nat} (hc : ∀ i, i < h → sn i ≤ 4095 ∧ tn i < 12 ∧ X.2.1 (52 + 2 * q) (2 * i) = nI (sn i) ∧ X.2.1 (52 + 2 * q) (2 * i + 1) = nI (tn i)) : ∀ (m x n acc : Nat), x + m = 12 → m < n → fX7_map_L38 0 n (some (51 + 2 * q)) (nI acc) (nI x) X = some (nI (acc + sm (fun x => sm (rl1 sn tn h x) x 0) m x), X)
  | m, x, 0, _, _, hh => by omega
  | 0, x, n + 1, acc, e, _ => by
    have c : (12 : Int32) ≤ nI x := by rw [show x = 12 by omega]; decide
    simp only [fX7_map_L38, if_pos c]
    rfl
  | m + 1, x, n + 1, acc, e, hn => by
    have c : ¬ (12 : Int32) ≤ nI x := nI_ge (b := 12) (by omega) (by decide)
    have h1 := x_map48 hX hq h40 e0 h3 hc (fX7_map_L38 0 n) (show x < 12 by omega) x 0 zF acc (by omega) (by show x < 5000; omega)
    have h1' : fX7_map_L48 0 (fX7_map_L38 0 n) zF (some (51 + 2 * q)) (nI acc) (nI x) 0 X = _ := h1
    simp only [fX7_map_L38, if_neg c]
    rw [h1', x_map38 hX hq h40 e0 h3 hc m (x + 1) n _ (by omega) (by omega), sm, Nat.add_assoc]
/-- only what can't be LIKE is changed -/
def frP (M M' : zS) : Prop := M'.1 = M.1 ∧ M'.2.2.2 = M.2.2.2 ∧ ∀ o k, o = 9 ∨ M'.2.1 o k = M.2.1 o k
theorem frP.rf (M : zS) : frP M M := ⟨rfl, rfl, fun _ _ => Or.inr rfl⟩
theorem frP.tr {X Y Z : zS} (h : frP X Y) (g : frP Y Z) : frP X Z := ⟨g.1.trans h.1, g.2.1.trans h.2.1, fun o k => by
  rcases h.2.2 o k with a | a
  · exact Or.inl a
  · rcases g.2.2 o k with b | b
    · exact Or.inl b
    · exact Or.inr (b.trans a)⟩
theorem frP.zp {M N : zS} (h : frP M N) (k : Nat) (v : Int32) : frP M (zp N 9 k v) := ⟨h.1, h.2.1, fun o j => by
  rcases h.2.2 o j with a | a
  · exact Or.inl a
  · by_cases e : o = 9
    · exact Or.inl e
    · exact Or.inr (by rw [zp_h, if_neg (fun q => e q.1)]; exact a)⟩
theorem frP.at {M M' : zS} (h : frP M M') {o k : Nat} (ho : o ≠ 9) : M'.2.1 o k = M.2.1 o k := (h.2.2 o k).resolve_left ho
theorem frP.sh {M M' : zS} (h : frP M M') (hM : shM M) : shM M' := ⟨h.1.trans hM.1, fun o ho k hk => by rw [h.2.1]; exact hM.2 o ho k hk⟩
theorem frP.n {M M' : zS} (h : frP M M') : frN M M' := ⟨h.1, h.2.1, fun o k => by
  rcases h.2.2 o k with a | a
  · exact Or.inr (Or.inr (Or.inl a))
  · exact Or.inr (Or.inr (Or.inr a))⟩
def ApM (M : zS) (B : Nat → Nat → Bool) : Prop := ∀ x, x < 12 → ∃ n, n ≤ 4095 ∧ M.2.1 9 x = nI n ∧ ∀ y, y < 12 → n.testBit y = B x y
theorem ApM.congr {M : zS} {B C : Nat → Nat → Bool} (h : ApM M B) (e : ∀ x, x < 12 → ∀ y, y < 12 → B x y = C x y) : ApM M C := fun x hx => by
  obtain ⟨n, h1, h2, h3⟩ := h x hx
  exact ⟨n, h1, h2, fun y hy => (h3 y hy).trans (e x hx y hy)⟩
theorem m_map39 : ∀ (m t n : Nat) (a : Int32) (M : zS), shM M → t + m = 12 → m < n → ∃ M', fX8_map_L39 0 n a (nI t) M = fX8_map_L60 0 zF a 0 M' ∧ frP M M' ∧ ∀ k, M'.2.1 9 k = if t ≤ k ∧ k < 12 then 0 else M.2.1 9 k
  | m, t, 0, _, _, _, _, h => by omega
  | 0, t, n + 1, a, M, hM, e, _ => by
    have c : (12 : Int32) ≤ nI t := by rw [show t = 12 by omega]; decide
    refine ⟨M, ?_, frP.rf M, fun k => by rw [if_neg (by omega)]⟩
    rw [fX8_map_L39, if_pos c]
  | m + 1, t, n + 1, a, M, hM, e, hn => by
    have c : ¬ (12 : Int32) ≤ nI t := nI_ge (b := 12) (by omega) (by decide)
    have r36 : M.2.2.2 0 36 = some 9 := hM.r (by decide) (by decide)
    have z9 : zix spM 9 (nI t) = some t := zix_of rfl (by show t < 12; omega) (by decide)
    obtain ⟨M', e1, e2, e3⟩ := m_map39 m (t + 1) n a (zp M 9 t 0) (hM.zp _ _ _) (by omega) (by omega)
    refine ⟨M', ?_, ((frP.rf M).zp t 0).tr e2, fun k => ?_⟩
    · rw [← e1, fX8_map_L39]
      simp only [zokM_0, zokM_1, zokM_2, zokM_3, zokM_4, zokM_5, zokM_6, zokM_7, zokM_8, zokM_9, zokM_10, zokM_11, zokM_12, zokM_13, zokM_14, zokM_15, zlaM_1, zlaM_2, zlaM_3, zlaM_4, zlaM_5, zlaM_6, zlaM_7, zlaM_8, zlaM_9, zlaM_10, zlaM_11, zlaM_12, zlaM_13, zlaM_14, zlaM_15, zp_1, zp_h, zp_r, zp_l, zletE, obs, spMe_0, spMe_1, spMe_2, spMe_3, spMe_4, spMe_5, spMe_6, spMe_7, spMe_8, spMe_9, spMe_10, spMe_11, spMe_12, spMe_13, spMe_14, spMe_15, hM.1, if_neg c, r36, z9, nI_1]
    · rw [e3]
      by_cases c1 : t + 1 ≤ k ∧ k < 12
      · rw [if_pos c1, if_pos (by omega)]
      · rw [if_neg c1, zp_h]
        by_cases c2 : k = t
        · rw [if_pos ⟨rfl, c2⟩, if_pos (by omega)]
        · rw [if_neg (fun w => c2 w.2), if_neg (by omega)]
/-- what a set and a THING add, from t on -/
def adB (st th t x y : Nat) : Bool := (decide (t ≤ x) && (st.testBit x && (!(x == th) && y == th))) || (decide (t ≤ y) && (st.testBit y && (!(y == th) && x == th)))
theorem m_map123 (k60 : Int32 → Int32 → zS → Option (Int32 × zS)) (a : Int32) (j : Nat) {st th : Nat} (hst : st ≤ 4095) (hth : th < 12) : ∀ (m t n : Nat) (M : zS) (B : Nat → Nat → Bool), shM M → ApM M B → t + m = 12 → m < n → ∃ M', fX8_map_L123 0 k60 n a (nI j) (nI st) (nI th) (nI t) M = k60 a (nI (j + 2)) M' ∧ frP M M' ∧ ApM M' (fun x y => B x y || adB st th t x y)
  | m, t, 0, _, _, _, _, _, h => by omega
  | 0, t, n + 1, M, B, hM, hB, e, _ => by
    have c : (12 : Int32) ≤ nI t := by rw [show t = 12 by omega]; decide
    have n2 : nI j + 2 = nI (j + 2) := nI_add j 2
    refine ⟨M, ?_, frP.rf M, hB.congr (fun x hx y hy => ?_)⟩
    · rw [fX8_map_L123, if_pos c, n2]
    · unfold adB
      rw [decide_eq_false (show ¬ t ≤ x by omega), decide_eq_false (show ¬ t ≤ y by omega)]
      simp
  | m + 1, t, n + 1, M, B, hM, hB, e, hn => by
    have c : ¬ (12 : Int32) ≤ nI t := nI_ge (b := 12) (by omega) (by decide)
    have r36 : M.2.2.2 0 36 = some 9 := hM.r (by decide) (by decide)
    have z9 : zix spM 9 (nI t) = some t := zix_of rfl (by show t < 12; omega) (by decide)
    have y9 : zix spM 9 (nI th) = some th := zix_of rfl hth (by decide)
    by_cases cc : st.testBit t = true ∧ t ≠ th
    · obtain ⟨cb, ct⟩ := cc
      have c1 := (n_bit1 hst (show t < 31 by omega)).mpr cb
      have c2 : ¬ nI t = nI th := kne (by omega) (by omega) ct
      obtain ⟨u, hu, eu, bu⟩ := hB t (by omega)
      obtain ⟨v, hv, ev, bv⟩ := hB th hth
      have h1 := n_shl1 (show th < 31 by omega)
      have h2 := n_shl1 (show t < 31 by omega)
      have tt : (th = t) = False := by simp; omega
      have hB1 : ApM (zp (zp M 9 t (nI (u ||| 2 ^ th))) 9 th (nI (v ||| 2 ^ t))) (fun x y => B x y || (x == t && y == th) || (x == th && y == t)) := fun x hx => by
        by_cases e1 : x = th
        · subst e1
          refine ⟨v ||| 2 ^ t, or_le hv (p2_le (by omega)), by rw [zp_h, if_pos ⟨rfl, rfl⟩], fun y hy => ?_⟩
          have b1 : (x == t) = false := by rw [beq_eq_false_iff_ne]; omega
          show _ = (B x y || (x == t && y == x) || (x == x && y == t))
          rw [Nat.testBit_or, bv y hy, Nat.testBit_two_pow, b1]
          by_cases e2 : t = y
          · subst e2; simp
          · have b2 : (y == t) = false := by rw [beq_eq_false_iff_ne]; omega
            simp [b2, e2]
        · by_cases e2 : x = t
          · subst e2
            refine ⟨u ||| 2 ^ th, or_le hu (p2_le hth), by rw [zp_h, if_neg (fun w => e1 w.2), zp_h, if_pos ⟨rfl, rfl⟩], fun y hy => ?_⟩
            have b1 : (x == th) = false := by rw [beq_eq_false_iff_ne]; omega
            show _ = (B x y || (x == x && y == th) || (x == th && y == x))
            rw [Nat.testBit_or, bu y hy, Nat.testBit_two_pow, b1]
            by_cases e3 : th = y
            · subst e3; simp
            · have b2 : (y == th) = false := by rw [beq_eq_false_iff_ne]; omega
              simp [b2, e3]
          · obtain ⟨w, hw, ew, bw⟩ := hB x hx
            refine ⟨w, hw, by rw [zp_h, if_neg (fun z => e1 z.2), zp_h, if_neg (fun z => e2 z.2)]; exact ew, fun y hy => ?_⟩
            have b1 : (x == th) = false := by rw [beq_eq_false_iff_ne]; omega
            have b2 : (x == t) = false := by rw [beq_eq_false_iff_ne]; omega
            show _ = (B x y || (x == t && y == th) || (x == th && y == t))
            rw [bw y hy, b1, b2]
            simp
      obtain ⟨M', e1, e2, e3⟩ := m_map123 k60 a j hst hth m (t + 1) n _ _ ((hM.zp _ _ _).zp _ _ _) hB1 (by omega) (by omega)
      refine ⟨M', ?_, (((frP.rf M).zp _ _).zp _ _).tr e2, e3.congr (fun x hx y hy => ?_)⟩
      · rw [← e1, fX8_map_L123]
        simp only [fX8_map_j175, zokM_0, zokM_1, zokM_2, zokM_3, zokM_4, zokM_5, zokM_6, zokM_7, zokM_8, zokM_9, zokM_10, zokM_11, zokM_12, zokM_13, zokM_14, zokM_15, zlaM_1, zlaM_2, zlaM_3, zlaM_4, zlaM_5, zlaM_6, zlaM_7, zlaM_8, zlaM_9, zlaM_10, zlaM_11, zlaM_12, zlaM_13, zlaM_14, zlaM_15, zp_1, zp_h, zp_r, zp_l, zletE, obs, spMe_0, spMe_1, spMe_2, spMe_3, spMe_4, spMe_5, spMe_6, spMe_7, spMe_8, spMe_9, spMe_10, spMe_11, spMe_12, spMe_13, spMe_14, spMe_15, hM.1, if_neg c, if_pos c1, if_neg c2, r36, z9, y9, eu, h1, h2, tt, and_false, if_false, ev, n_or, nI_1]
      · unfold adB
        by_cases x1 : x = t
        · subst x1
          have b1 : (x == x) = true := by simp
          have b2 : (x == th) = false := by rw [beq_eq_false_iff_ne]; exact ct
          rw [decide_eq_false (show ¬ x + 1 ≤ x by omega), decide_eq_true (show x ≤ x by omega), cb, b1, b2]
          cases B x y <;> cases (y == th) <;> simp
        · have b1 : (x == t) = false := by rw [beq_eq_false_iff_ne]; exact x1
          have d1 : decide (t + 1 ≤ x) = decide (t ≤ x) := by rw [decide_eq_decide]; omega
          rw [b1, d1]
          by_cases y1 : y = t
          · subst y1
            have b2 : (y == y) = true := by simp
            have b3 : (y == th) = false := by rw [beq_eq_false_iff_ne]; exact ct
            rw [decide_eq_false (show ¬ y + 1 ≤ y by omega), decide_eq_true (show y ≤ y by omega), cb, b2, b3]
            cases B x y <;> cases (x == th) <;> simp
          · have b2 : (y == t) = false := by rw [beq_eq_false_iff_ne]; exact y1
            have d2 : decide (t + 1 ≤ y) = decide (t ≤ y) := by rw [decide_eq_decide]; omega
            rw [b2, d2]
            simp
    · obtain ⟨M', e1, e2, e3⟩ := m_map123 k60 a j hst hth m (t + 1) n M B hM hB (by omega) (by omega)
      refine ⟨M', ?_, e2, e3.congr (fun x hx y hy => ?_)⟩
      · rw [← e1, fX8_map_L123, if_neg c]
        cases cb : st.testBit t with
        | false =>
          have c1 : ¬ ((nI st >>> (nI t &&& 31)) &&& (1 : Int32) = 1) := fun q => by rw [n_bit1 hst (show t < 31 by omega), cb] at q; cases q
          simp only [fX8_map_j175, if_neg c1, nI_1]
        | true =>
          have c1 := (n_bit1 hst (show t < 31 by omega)).mpr cb
          have ct : t = th := by
            by_cases w : t = th
            · exact w
            · exact absurd ⟨cb, w⟩ cc
          have c2 : nI t = nI th := by rw [ct]
          simp only [fX8_map_j175, if_pos c1, if_pos c2, nI_1]
      · unfold adB
        have key : ∀ z w : Nat, (decide (t + 1 ≤ z) && (st.testBit z && (!(z == th) && w == th))) = (decide (t ≤ z) && (st.testBit z && (!(z == th) && w == th))) := fun z w => by
          by_cases e1 : z = t
          · subst e1
            cases cb : st.testBit z with
            | false => simp
            | true =>
              have ct : z = th := by
                by_cases w : z = th
                · exact w
                · exact absurd ⟨cb, w⟩ cc
              have b : (z == th) = true := by rw [beq_iff_eq]; exact ct
              rw [b]; simp
          · have d1 : decide (t + 1 ≤ z) = decide (t ≤ z) := by rw [decide_eq_decide]; omega
            rw [d1]
        rw [key x y, key y x]
theorem m_map60 {q m0 h : Nat} (hq : q < 4) (h40 : m0 ≤ 40) (e0 : m0 = 2 * h) {c : Nat → Int32} {sn tn : Nat → Nat} (hc : ∀ i, i < h → okP c (2 * i) = true → sn i ≤ 4095 ∧ tn i < 12 ∧ c (2 * i) = nI (sn i) ∧ c (2 * i + 1) = nI (tn i)) : ∀ (m i n : Nat) (M : zS) (B : Nat → Nat → Bool), shM M → ApM M B → M.2.1 14 q = nI m0 → (∀ j, j < m0 → M.2.1 15 (40 * q + j) = c j) → i + m = h → m < n → ∃ M', frP M M' ∧ ((vdB c m (2 * i) = false ∧ fX8_map_L60 0 n (nI q) (nI (2 * i)) M = some (-2, M')) ∨ (vdB c m (2 * i) = true ∧ fX8_map_L60 0 n (nI q) (nI (2 * i)) M = fX8_map_L191 0 zF 0 0 M' ∧ ApM M' (fun x y => B x y || rlB sn tn m i x y)))
  | m, i, 0, _, _, _, _, _, _, _, hh => by omega
  | 0, i, n + 1, M, B, hM, hB, h14, hcl, e, _ => by
    have r14 : M.2.2.2 0 44 = some 14 := hM.r (by decide) (by decide)
    have z14 : zix spM 14 (nI q) = some q := zix_of rfl hq (by decide)
    have cc : nI m0 ≤ nI (2 * i) := nI_le (by omega) (by omega)
    refine ⟨M, frP.rf M, Or.inr ⟨rfl, ?_, hB.congr (fun x _ y _ => by rw [rlB]; simp)⟩⟩
    rw [fX8_map_L60]
    simp only [zokM_0, zokM_1, zokM_2, zokM_3, zokM_4, zokM_5, zokM_6, zokM_7, zokM_8, zokM_9, zokM_10, zokM_11, zokM_12, zokM_13, zokM_14, zokM_15, zlaM_1, zlaM_2, zlaM_3, zlaM_4, zlaM_5, zlaM_6, zlaM_7, zlaM_8, zlaM_9, zlaM_10, zlaM_11, zlaM_12, zlaM_13, zlaM_14, zlaM_15, zp_1, zp_h, zp_r, zp_l, zletE, obs, spMe_0, spMe_1, spMe_2, spMe_3, spMe_4, spMe_5, spMe_6, spMe_7, spMe_8, spMe_9, spMe_10, spMe_11, spMe_12, spMe_13, spMe_14, spMe_15, hM.1, r14, z14, h14, if_pos cc]
  | m + 1, i, n + 1, M, B, hM, hB, h14, hcl, e, hn => by
    have r14 : M.2.2.2 0 44 = some 14 := hM.r (by decide) (by decide)
    have r15 : M.2.2.2 0 45 = some 15 := hM.r (by decide) (by decide)
    have z14 : zix spM 14 (nI q) = some q := zix_of rfl hq (by decide)
    have cc : ¬ nI m0 ≤ nI (2 * i) := nI_ge (by omega) (by omega)
    have za : zix spM 15 (nI (40 * q + 2 * i)) = some (40 * q + 2 * i) := zix_of rfl (by show 40 * q + 2 * i < 160; omega) (by decide)
    have zb : zix spM 15 (nI (40 * q + 2 * i + 1)) = some (40 * q + (2 * i + 1)) := zix_of rfl (by show 40 * q + (2 * i + 1) < 160; omega) (by decide)
    have ea := hcl (2 * i) (by omega)
    have eb := hcl (2 * i + 1) (by omega)
    have l4 : (4095 : Int64) = (nI 4095).toInt64 := by decide
    cases hok : okP c (2 * i) with
    | false =>
      have v0 : vdB c (m + 1) (2 * i) = false := by rw [vdB, hok]; rfl
      refine ⟨M, frP.rf M, Or.inl ⟨v0, ?_⟩⟩
      rw [fX8_map_L60]
      unfold okP at hok
      rcases one_cases 4096 (by decide) (c (2 * i)) with w | ⟨st, hst, es⟩
      · have mi := m_in0 4095 (by decide) l4 w M
        simp only [zokM_0, zokM_1, zokM_2, zokM_3, zokM_4, zokM_5, zokM_6, zokM_7, zokM_8, zokM_9, zokM_10, zokM_11, zokM_12, zokM_13, zokM_14, zokM_15, zlaM_1, zlaM_2, zlaM_3, zlaM_4, zlaM_5, zlaM_6, zlaM_7, zlaM_8, zlaM_9, zlaM_10, zlaM_11, zlaM_12, zlaM_13, zlaM_14, zlaM_15, zp_1, zp_h, zp_r, zp_l, zletE, obs, spMe_0, spMe_1, spMe_2, spMe_3, spMe_4, spMe_5, spMe_6, spMe_7, spMe_8, spMe_9, spMe_10, spMe_11, spMe_12, spMe_13, spMe_14, spMe_15, hM.1, r14, z14, h14, if_neg cc, r15, idx40s, za, nI_1, zb, ea, eb, mi, if_true]
      · have mi := m_in1 4095 (by decide) l4 hst M
        rw [← es] at mi
        have d1 : ¬ c (2 * i) < 0 := by rw [es]; exact nI_pos (by omega)
        have d2 : ¬ 4095 < c (2 * i) := by rw [es]; exact nI_nlt (a := 4095) (by omega) (by decide)
        rw [decide_eq_false d1, decide_eq_false d2] at hok
        simp only [Bool.not_false, Bool.true_and, Bool.not_eq_false', decide_eq_true_eq] at hok
        simp only [zokM_0, zokM_1, zokM_2, zokM_3, zokM_4, zokM_5, zokM_6, zokM_7, zokM_8, zokM_9, zokM_10, zokM_11, zokM_12, zokM_13, zokM_14, zokM_15, zlaM_1, zlaM_2, zlaM_3, zlaM_4, zlaM_5, zlaM_6, zlaM_7, zlaM_8, zlaM_9, zlaM_10, zlaM_11, zlaM_12, zlaM_13, zlaM_14, zlaM_15, zp_1, zp_h, zp_r, zp_l, zletE, obs, spMe_0, spMe_1, spMe_2, spMe_3, spMe_4, spMe_5, spMe_6, spMe_7, spMe_8, spMe_9, spMe_10, spMe_11, spMe_12, spMe_13, spMe_14, spMe_15, hM.1, r14, z14, h14, if_neg cc, r15, idx40s, za, nI_1, zb, ea, eb, mi, if_neg n10, m_thing0 M hok, if_true]
    | true =>
      obtain ⟨s1, s2, s3, s4⟩ := hc i (by omega) hok
      have mi := m_in1 (k := sn i) 4095 (by decide) l4 (by omega) M
      obtain ⟨M1, e1, e2, e3⟩ := m_map123 (fX8_map_L60 0 n) (nI q) (2 * i) s1 s2 12 0 zF M B hM hB rfl (by decide)
      have e1' : fX8_map_L123 0 (fX8_map_L60 0 n) zF (nI q) (nI (2 * i)) (nI (sn i)) (nI (tn i)) 0 M = fX8_map_L60 0 n (nI q) (nI (2 * (i + 1))) M1 := e1
      have step : fX8_map_L60 0 (n + 1) (nI q) (nI (2 * i)) M = fX8_map_L60 0 n (nI q) (nI (2 * (i + 1))) M1 := by
        rw [← e1', fX8_map_L60]
        simp only [zokM_0, zokM_1, zokM_2, zokM_3, zokM_4, zokM_5, zokM_6, zokM_7, zokM_8, zokM_9, zokM_10, zokM_11, zokM_12, zokM_13, zokM_14, zokM_15, zlaM_1, zlaM_2, zlaM_3, zlaM_4, zlaM_5, zlaM_6, zlaM_7, zlaM_8, zlaM_9, zlaM_10, zlaM_11, zlaM_12, zlaM_13, zlaM_14, zlaM_15, zp_1, zp_h, zp_r, zp_l, zletE, obs, spMe_0, spMe_1, spMe_2, spMe_3, spMe_4, spMe_5, spMe_6, spMe_7, spMe_8, spMe_9, spMe_10, spMe_11, spMe_12, spMe_13, spMe_14, spMe_15, hM.1, r14, z14, h14, if_neg cc, r15, idx40s, za, nI_1, zb, ea, eb, s3, s4, mi, if_neg n10, m_thing1 M s2]
      have v1 : vdB c (m + 1) (2 * i) = vdB c m (2 * (i + 1)) := by rw [vdB, hok, Bool.true_and, show 2 * i + 2 = 2 * (i + 1) by omega]
      obtain ⟨M', f1, f2⟩ := m_map60 hq h40 e0 hc m (i + 1) n M1 _ (e2.sh hM) e3 ((e2.at (by decide)).trans h14) (fun j hj => (e2.at (by decide)).trans (hcl j hj)) (by omega) (by omega)
      refine ⟨M', e2.tr f1, ?_⟩
      rw [v1, step]
      rcases f2 with f2 | ⟨g1, g2, g3⟩
      · exact Or.inl f2
      · refine Or.inr ⟨g1, g2, g3.congr (fun x hx y hy => ?_)⟩
        unfold adB
        rw [rlB, decide_eq_true (show 0 ≤ x by omega), decide_eq_true (show 0 ≤ y by omega)]
        simp only [Bool.true_and, Bool.or_assoc]
theorem m_map191 {M : zS} (hM : shM M) {B : Nat → Nat → Bool} (hB : ApM M B) : ∀ (m t n acc : Nat), t + m = 12 → m < n → acc ≤ 12 * t → fX8_map_L191 0 n (nI acc) (nI t) M = some (nI ((acc + sm (fun x => sm (fun y => if B x y = true then 1 else 0) 12 0) m t) / 2), M)
  | m, t, 0, _, _, h, _ => by omega
  | 0, t, n + 1, acc, e, _, ha => by
    have c : (12 : Int32) ≤ nI t := by rw [show t = 12 by omega]; decide
    have d : nI acc / (2 : Int32) = nI (acc / 2) := pk_div (d := 2) (by omega) (by decide) (by decide)
    simp only [fX8_map_L191, if_pos c, if_neg (show ¬ (2 : Int32) = 0 by decide), d]
    rfl
  | m + 1, t, n + 1, acc, e, hn, ha => by
    have c : ¬ (12 : Int32) ≤ nI t := nI_ge (b := 12) (by omega) (by decide)
    have r36 : M.2.2.2 0 36 = some 9 := hM.r (by decide) (by decide)
    have z9 : zix spM 9 (nI t) = some t := zix_of rfl (by show t < 12; omega) (by decide)
    obtain ⟨u, hu, eu, bu⟩ := hB t (by omega)
    have hs : pc u = sm (fun y => if B t y = true then 1 else 0) 12 0 := by
      rw [pc_ct, ct_sm]
      exact sm_congr 12 0 (fun y _ hy => by rw [bu y (by omega)])
    have := pc_le u
    simp only [fX8_map_L191, zokM_0, zokM_1, zokM_2, zokM_3, zokM_4, zokM_5, zokM_6, zokM_7, zokM_8, zokM_9, zokM_10, zokM_11, zokM_12, zokM_13, zokM_14, zokM_15, zlaM_1, zlaM_2, zlaM_3, zlaM_4, zlaM_5, zlaM_6, zlaM_7, zlaM_8, zlaM_9, zlaM_10, zlaM_11, zlaM_12, zlaM_13, zlaM_14, zlaM_15, zp_1, zp_h, zp_r, zp_l, zletE, obs, spMe_0, spMe_1, spMe_2, spMe_3, spMe_4, spMe_5, spMe_6, spMe_7, spMe_8, spMe_9, spMe_10, spMe_11, spMe_12, spMe_13, spMe_14, spMe_15, hM.1, if_neg c, r36, z9, eu, m_bits hu, nI_add, nI_1]
    rw [m_map191 hM hB m (t + 1) n (acc + pc u) (by omega) (by omega) (by omega), sm, ← hs, Nat.add_assoc]
/-- twos: half of all that are counted both ways -/
theorem twos {B : Nat → Nat → Bool} (h1 : ∀ x y, B x y = B y x) (h2 : ∀ x, B x x = false) : sm (fun x => sm (fun y => if B x y = true then 1 else 0) 12 0) 12 0 / 2 = sm (fun x => sm (fun y => if B x y = true then 1 else 0) x 0) 12 0 := by
  have e1 : sm (fun x => sm (fun y => if B x y = true then 1 else 0) x 0) 12 0 = sm (fun x => sm (fun y => if y < x then (if B x y = true then 1 else 0) else 0) 12 0) 12 0 := sm_congr 12 0 (fun x _ hx => sm_below _ (by omega))
  have e2 : sm (fun x => sm (fun y => if x < y then (if B x y = true then 1 else 0) else 0) 12 0) 12 0 = sm (fun x => sm (fun y => if y < x then (if B x y = true then 1 else 0) else 0) 12 0) 12 0 := by
    rw [sm_swap]
    refine sm_congr 12 0 (fun y _ _ => sm_congr 12 0 (fun x _ _ => ?_))
    rw [h1 x y]
  have e3 : sm (fun x => sm (fun y => if B x y = true then 1 else 0) 12 0) 12 0 = sm (fun x => sm (fun y => if y < x then (if B x y = true then 1 else 0) else 0) 12 0 + sm (fun y => if x < y then (if B x y = true then 1 else 0) else 0) 12 0) 12 0 := by
    refine sm_congr 12 0 (fun x _ _ => ?_)
    rw [← sm_plus]
    refine sm_congr 12 0 (fun y _ _ => ?_)
    rcases Nat.lt_trichotomy x y with c | c | c
    · rw [if_neg (show ¬ y < x by omega), if_pos c, Nat.zero_add]
    · subst c
      rw [h2 x, if_neg (show ¬ x < x by omega)]
      rfl
    · rw [if_pos c, if_neg (show ¬ x < y by omega), Nat.add_zero]
  rw [e3, sm_plus, e2, e1]
  omega
theorem t_map (a : Int32) : TM2 Inv (fun st => fX7_map 0 a st) (fun st => fX8_map 0 a st) := by
  intro X M h
  have hInv := h
  obtain ⟨⟨hX, hM⟩, hL, hD, hA, hP, hF, hS, hI, hT⟩ := h
  rcases one_cases 4 (by decide) a with ha | ⟨q, hq, rfl⟩
  · exact ⟨-2, X, M, by simp only [fX7_map, zokX_0, zokX_1, zokX_2, zokX_3, zokX_4, zokX_5, zokX_6, zokX_7, zokX_8, zokX_9, zokX_10, zokX_11, zokX_12, zokX_13, zokX_14, zokX_15, zokX_16, zlaX_1, zlaX_2, zlaX_3, zlaX_4, zlaX_5, zlaX_6, zlaX_8, zlaX_11, zlaX_12, zlaX_13, zlaX_15, zlaX_16, zp_1, zp_h, zp_r, zp_l, zletE, obs, spXe_0, spXe_1, spXe_2, spXe_3, spXe_4, spXe_5, spXe_6, spXe_7, spXe_8, spXe_9, spXe_10, spXe_11, spXe_12, spXe_13, spXe_14, spXe_15, spXe_16, hX.1, x_sheet0 hX ha, if_true], by simp only [fX8_map, obs, m_sheet0 M ha, if_true], hInv⟩
  · have xs := x_sheet1 hX hq
    have ms := m_sheet1 M hq
    have r42 : M.2.2.2 0 42 = some 12 := hM.r (by decide) (by decide)
    have r44 : M.2.2.2 0 44 = some 14 := hM.r (by decide) (by decide)
    have z12 : zix spM 12 (nI q) = some q := zix_of rfl hq (by decide)
    have z14 : zix spM 14 (nI q) = some q := zix_of rfl hq (by decide)
    have zs := zok_sheet hX.1 hq
    have xm := x_miss hX hq
    have d20 : ¬ (2 : Int32) = 0 := by decide
    rcases sht_of hS hq with ⟨w1, w2⟩ | ⟨w1, w2, m0, hSh⟩
    · rw [if_pos w1] at xm
      exact ⟨-11, X, M, by simp only [fX7_map, zokX_0, zokX_1, zokX_2, zokX_3, zokX_4, zokX_5, zokX_6, zokX_7, zokX_8, zokX_9, zokX_10, zokX_11, zokX_12, zokX_13, zokX_14, zokX_15, zokX_16, zlaX_1, zlaX_2, zlaX_3, zlaX_4, zlaX_5, zlaX_6, zlaX_8, zlaX_11, zlaX_12, zlaX_13, zlaX_15, zlaX_16, zp_1, zp_h, zp_r, zp_l, zletE, obs, spXe_0, spXe_1, spXe_2, spXe_3, spXe_4, spXe_5, spXe_6, spXe_7, spXe_8, spXe_9, spXe_10, spXe_11, spXe_12, spXe_13, spXe_14, spXe_15, spXe_16, hX.1, xs, if_neg (ss51 q), zs, xm, if_neg n10], by simp only [fX8_map, zokM_0, zokM_1, zokM_2, zokM_3, zokM_4, zokM_5, zokM_6, zokM_7, zokM_8, zokM_9, zokM_10, zokM_11, zokM_12, zokM_13, zokM_14, zokM_15, zlaM_1, zlaM_2, zlaM_3, zlaM_4, zlaM_5, zlaM_6, zlaM_7, zlaM_8, zlaM_9, zlaM_10, zlaM_11, zlaM_12, zlaM_13, zlaM_14, zlaM_15, zp_1, zp_h, zp_r, zp_l, zletE, obs, spMe_0, spMe_1, spMe_2, spMe_3, spMe_4, spMe_5, spMe_6, spMe_7, spMe_8, spMe_9, spMe_10, spMe_11, spMe_12, spMe_13, spMe_14, spMe_15, hM.1, ms, if_neg n10, r42, z12, w2, if_true], hInv⟩
    · have w2' : ¬ M.2.1 12 q = 0 := by rw [w2]; decide
      rw [if_neg w1] at xm
      have hSh0 := hSh
      obtain ⟨-, h40, h3, h14, h5⟩ := hSh
      have rm : nI m0 - nI m0 / (2 : Int32) * (2 : Int32) = nI (m0 % 2) := pk_rem (d := 2) (by omega) (by decide) (by decide)
      by_cases odd : m0 % 2 = 1
      · have o1 : nI (m0 % 2) = 1 := by rw [odd]; rfl
        have o0 : ¬ nI (m0 % 2) = 0 := by rw [odd]; decide
        exact ⟨-2, X, M, by simp only [fX7_map, fX7_tellsSetsAndThings, zokX_0, zokX_1, zokX_2, zokX_3, zokX_4, zokX_5, zokX_6, zokX_7, zokX_8, zokX_9, zokX_10, zokX_11, zokX_12, zokX_13, zokX_14, zokX_15, zokX_16, zlaX_1, zlaX_2, zlaX_3, zlaX_4, zlaX_5, zlaX_6, zlaX_8, zlaX_11, zlaX_12, zlaX_13, zlaX_15, zlaX_16, zp_1, zp_h, zp_r, zp_l, zletE, obs, spXe_0, spXe_1, spXe_2, spXe_3, spXe_4, spXe_5, spXe_6, spXe_7, spXe_8, spXe_9, spXe_10, spXe_11, spXe_12, spXe_13, spXe_14, spXe_15, spXe_16, hX.1, xs, if_neg (ss51 q), zs, xm, if_true, if_neg d20, h3, rm, if_neg o0], by simp only [fX8_map, zokM_0, zokM_1, zokM_2, zokM_3, zokM_4, zokM_5, zokM_6, zokM_7, zokM_8, zokM_9, zokM_10, zokM_11, zokM_12, zokM_13, zokM_14, zokM_15, zlaM_1, zlaM_2, zlaM_3, zlaM_4, zlaM_5, zlaM_6, zlaM_7, zlaM_8, zlaM_9, zlaM_10, zlaM_11, zlaM_12, zlaM_13, zlaM_14, zlaM_15, zp_1, zp_h, zp_r, zp_l, zletE, obs, spMe_0, spMe_1, spMe_2, spMe_3, spMe_4, spMe_5, spMe_6, spMe_7, spMe_8, spMe_9, spMe_10, spMe_11, spMe_12, spMe_13, spMe_14, spMe_15, hM.1, ms, if_neg n10, r42, z12, if_neg w2', r44, z14, if_neg d20, h14, rm, if_pos o1], hInv⟩
      · have o1 : ¬ nI (m0 % 2) = 1 := by rw [show m0 % 2 = 0 by omega]; decide
        have o0 : nI (m0 % 2) = 0 := by rw [show m0 % 2 = 0 by omega]; rfl
        obtain ⟨hh, e0⟩ : ∃ hh, m0 = 2 * hh := ⟨m0 / 2, by omega⟩
        have xv := x_vd hX hSh0 hh 0 zF (by omega) (by show hh < 5000; omega)
        have xv' : fX7_tellsSetsAndThings (some (51 + 2 * q)) X = some (if vdB (fun j => M.2.1 15 (40 * q + j)) hh 0 = true then 1 else 0, X) := by
          simp only [fX7_tellsSetsAndThings, obs, zs, if_neg d20, h3, rm, if_pos o0]
          exact xv
        let sn : Nat → Nat := fun i => (M.2.1 15 (40 * q + 2 * i)).toBitVec.toNat
        let tn : Nat → Nat := fun i => (M.2.1 15 (40 * q + (2 * i + 1))).toBitVec.toNat
        have hc : ∀ i, i < hh → okP (fun j => M.2.1 15 (40 * q + j)) (2 * i) = true → sn i ≤ 4095 ∧ tn i < 12 ∧ M.2.1 15 (40 * q + 2 * i) = nI (sn i) ∧ M.2.1 15 (40 * q + (2 * i + 1)) = nI (tn i) := fun i hi hok => by
          obtain ⟨st, th, a1, a2, a3, a4⟩ := okP_of hok
          have b1 : sn i = st := by
            show (M.2.1 15 (40 * q + 2 * i)).toBitVec.toNat = st
            rw [a3]; exact pk_tn (by omega)
          have b2 : tn i = th := by
            show (M.2.1 15 (40 * q + (2 * i + 1))).toBitVec.toNat = th
            rw [a4]; exact pk_tn (by omega)
          rw [b1, b2]
          exact ⟨a1, a2, a3, a4⟩
        obtain ⟨M1, m1, m2, m3⟩ := m_map39 12 0 zF (nI q) M hM rfl (by decide)
        have m1' : fX8_map_L39 0 zF (nI q) 0 M = _ := m1
        have hM1 := m2.sh hM
        have hB1 : ApM M1 (fun _ _ => false) := fun x hx => ⟨0, by omega, by rw [m3, if_pos (by omega)]; rfl, fun y _ => Nat.zero_testBit y⟩
        obtain ⟨M2, m4, m5⟩ := m_map60 hq h40 e0 (c := fun j => M.2.1 15 (40 * q + j)) hc hh 0 zF M1 _ hM1 hB1 ((m2.at (by decide)).trans h14) (fun j _ => m2.at (by decide)) (by omega) (by show hh < 5000; omega)
        have em : fX8_map 0 (nI q) M = fX8_map_L60 0 zF (nI q) 0 M1 := by
          simp only [fX8_map, zokM_0, zokM_1, zokM_2, zokM_3, zokM_4, zokM_5, zokM_6, zokM_7, zokM_8, zokM_9, zokM_10, zokM_11, zokM_12, zokM_13, zokM_14, zokM_15, zlaM_1, zlaM_2, zlaM_3, zlaM_4, zlaM_5, zlaM_6, zlaM_7, zlaM_8, zlaM_9, zlaM_10, zlaM_11, zlaM_12, zlaM_13, zlaM_14, zlaM_15, zp_1, zp_h, zp_r, zp_l, zletE, obs, spMe_0, spMe_1, spMe_2, spMe_3, spMe_4, spMe_5, spMe_6, spMe_7, spMe_8, spMe_9, spMe_10, spMe_11, spMe_12, spMe_13, spMe_14, spMe_15, hM.1, ms, if_neg n10, r42, z12, if_neg w2', r44, z14, if_neg d20, h14, rm, if_neg o1, m1']
        rcases m5 with ⟨v0, m6⟩ | ⟨v1, m6, m7⟩
        · have v0' : vdB (fun j => M.2.1 15 (40 * q + j)) hh 0 = false := v0
          rw [v0', if_neg (by decide)] at xv'
          exact ⟨-2, X, M2, by simp only [fX7_map, zokX_0, zokX_1, zokX_2, zokX_3, zokX_4, zokX_5, zokX_6, zokX_7, zokX_8, zokX_9, zokX_10, zokX_11, zokX_12, zokX_13, zokX_14, zokX_15, zokX_16, zlaX_1, zlaX_2, zlaX_3, zlaX_4, zlaX_5, zlaX_6, zlaX_8, zlaX_11, zlaX_12, zlaX_13, zlaX_15, zlaX_16, zp_1, zp_h, zp_r, zp_l, zletE, obs, spXe_0, spXe_1, spXe_2, spXe_3, spXe_4, spXe_5, spXe_6, spXe_7, spXe_8, spXe_9, spXe_10, spXe_11, spXe_12, spXe_13, spXe_14, spXe_15, spXe_16, hX.1, xs, if_neg (ss51 q), zs, xm, if_true, xv'], em.trans m6, hInv.keep (frC.rf X) (m2.tr m4).n⟩
        · have v1' : vdB (fun j => M.2.1 15 (40 * q + j)) hh 0 = true := v1
          rw [v1', if_pos rfl] at xv'
          have ok : ∀ (m j : Nat), vdB (fun j => M.2.1 15 (40 * q + j)) m (2 * j) = true → ∀ i, j ≤ i → i < j + m → okP (fun j => M.2.1 15 (40 * q + j)) (2 * i) = true := fun m => by
            induction m with
            | zero => intro j _ i h1 h2; omega
            | succ m ih =>
              intro j hv i h1 h2
              rw [vdB, Bool.and_eq_true] at hv
              by_cases e : i = j
              · subst e; exact hv.1
              · exact ih (j + 1) hv.2 i (by omega) (by omega)
          have hcx : ∀ i, i < hh → sn i ≤ 4095 ∧ tn i < 12 ∧ X.2.1 (52 + 2 * q) (2 * i) = nI (sn i) ∧ X.2.1 (52 + 2 * q) (2 * i + 1) = nI (tn i) := fun i hi => by
            obtain ⟨a1, a2, a3, a4⟩ := hc i hi (ok hh 0 v1' i (by omega) (by omega))
            exact ⟨a1, a2, (h5 _ (by omega)).trans a3, (h5 _ (by omega)).trans a4⟩
          have xr := x_map38 hX hq h40 e0 h3 hcx 12 0 zF 0 rfl (by decide)
          have xr' : fX7_map_L38 0 zF (some (51 + 2 * q)) 0 0 X = _ := xr
          have hB2 : ApM M2 (rlB sn tn hh 0) := m7.congr (fun x _ y _ => by simp)
          have mr := m_map191 (m4.sh hM1) hB2 12 0 zF 0 rfl (by decide) (by omega)
          have mr' : fX8_map_L191 0 zF 0 0 M2 = _ := mr
          rw [Nat.zero_add, twos (rlB_sym sn tn hh 0) (rlB_irr sn tn hh 0)] at mr'
          rw [Nat.zero_add] at xr'
          refine ⟨_, X, M2, (by simp only [fX7_map, zokX_0, zokX_1, zokX_2, zokX_3, zokX_4, zokX_5, zokX_6, zokX_7, zokX_8, zokX_9, zokX_10, zokX_11, zokX_12, zokX_13, zokX_14, zokX_15, zokX_16, zlaX_1, zlaX_2, zlaX_3, zlaX_4, zlaX_5, zlaX_6, zlaX_8, zlaX_11, zlaX_12, zlaX_13, zlaX_15, zlaX_16, zp_1, zp_h, zp_r, zp_l, zletE, obs, spXe_0, spXe_1, spXe_2, spXe_3, spXe_4, spXe_5, spXe_6, spXe_7, spXe_8, spXe_9, spXe_10, spXe_11, spXe_12, spXe_13, spXe_14, spXe_15, spXe_16, hX.1, xs, if_neg (ss51 q), zs, xm, if_true, xv', if_neg n10, xr']; rfl), em.trans (m6.trans mr'), hInv.keep (frC.rf X) (m2.tr m4).n⟩
