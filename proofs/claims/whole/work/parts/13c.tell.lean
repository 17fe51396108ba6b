/-- X and X' are alike but for the names' row and the TEXTS' stacks -/
def frX (X X' : zS) : Prop := X'.1 = X.1 ∧ X'.2.2.2 = X.2.2.2 ∧ ∀ o k, o = 8 ∨ (∃ t, t < 6 ∧ ((o = 27 + 4 * t ∧ k = 5) ∨ o = 30 + 4 * t)) ∨ X'.2.1 o k = X.2.1 o k
/-- M and M' are alike but for the names and the reading's own numbers -/
def frM (M M' : zS) : Prop := M'.1 = M.1 ∧ M'.2.2.2 = M.2.2.2 ∧ ∀ o k, (o = 0 ∧ 13 ≤ k ∧ k ≤ 27) ∨ M'.2.1 o k = M.2.1 o k
theorem frX.rf (X : zS) : frX X X := ⟨rfl, rfl, fun _ _ => Or.inr (Or.inr rfl)⟩
theorem frM.rf (M : zS) : frM M M := ⟨rfl, rfl, fun _ _ => Or.inr rfl⟩
theorem frX.tr {X Y Z : zS} (h : frX X Y) (g : frX Y Z) : frX X Z := ⟨g.1.trans h.1, g.2.1.trans h.2.1, fun o k => by
  rcases h.2.2 o k with a | a | a
  · exact Or.inl a
  · exact Or.inr (Or.inl a)
  · rcases g.2.2 o k with b | b | b
    · exact Or.inl b
    · exact Or.inr (Or.inl b)
    · exact Or.inr (Or.inr (b.trans a))⟩
theorem frM.tr {X Y Z : zS} (h : frM X Y) (g : frM Y Z) : frM X Z := ⟨g.1.trans h.1, g.2.1.trans h.2.1, fun o k => by
  rcases h.2.2 o k with a | a
  · exact Or.inl a
  · rcases g.2.2 o k with b | b
    · exact Or.inl b
    · exact Or.inr (b.trans a)⟩
/-- numbers outside the names' row and the stacks -/
theorem frX.at {X X' : zS} (h : frX X X') {o k : Nat} (h8 : o ≠ 8) (ht : o < 27 ∨ 51 ≤ o) : X'.2.1 o k = X.2.1 o k := by
  rcases h.2.2 o k with a | ⟨t, h1, h2⟩ | a
  · exact absurd a h8
  · omega
  · exact a
theorem frX.code {X X' : zS} (h : frX X X') {t : Nat} (ht : t < 6) : (∀ k, X'.2.1 (27 + 4 * t) k = X.2.1 (27 + 4 * t) k ∨ k = 5) ∧ (∀ k, X'.2.1 (28 + 4 * t) k = X.2.1 (28 + 4 * t) k) ∧ (∀ k, X'.2.1 (29 + 4 * t) k = X.2.1 (29 + 4 * t) k) := by
  refine ⟨fun k => ?_, fun k => ?_, fun k => ?_⟩
  · rcases h.2.2 (27 + 4 * t) k with a | ⟨u, h1, h2⟩ | a
    · omega
    · rcases h2 with h2 | h2
      · exact Or.inr h2.2
      · omega
    · exact Or.inl a
  · rcases h.2.2 (28 + 4 * t) k with a | ⟨u, h1, h2⟩ | a
    · omega
    · omega
    · exact a
  · rcases h.2.2 (29 + 4 * t) k with a | ⟨u, h1, h2⟩ | a
    · omega
    · omega
    · exact a
theorem frX.sh {X X' : zS} (h : frX X X') (hX : shX X) : shX X' := ⟨h.1.trans hX.1, fun o ho k hk => by rw [h.2.1]; exact hX.2 o ho k hk⟩
theorem frM.sh {M M' : zS} (h : frM M M') (hM : shM M) : shM M' := ⟨h.1.trans hM.1, fun o ho k hk => by rw [h.2.1]; exact hM.2 o ho k hk⟩
theorem frM.at {M M' : zS} (h : frM M M') {o k : Nat} (h1 : o ≠ 0 ∨ k < 13 ∨ 27 < k) : M'.2.1 o k = M.2.1 o k := by
  rcases h.2.2 o k with a | a
  · omega
  · exact a
theorem frX.tx {X X' : zS} (h : frX X X') {t : Nat} (ht : t < 6) {F : Nat → (Nat → Int32) → Int32} (g : TxX X t F) : TxX X' t F := g.mono (h.code ht).1 (h.code ht).2.1 (h.code ht).2.2
theorem frM.tx {M M' : zS} (h : frM M M') {t : Nat} {F : Nat → (Nat → Int32) → Int32} (g : TxM M t F) : TxM M' t F := g.mono (fun j _ => h.at (Or.inl (by decide))) (h.at (Or.inl (by decide)))
theorem frX.like {X X' : zS} (h : frX X X') {L : Nat → Nat} (g : LkX X L) : LkX X' L := fun t ht => (h.at (by decide) (Or.inl (by decide))).trans (g t ht)
/-- the names' values -/
def enV (a b c d e f : Int32) : Nat → Int32
  | 0 => a
  | 1 => b
  | 2 => c
  | 3 => d
  | 4 => e
  | 5 => f
  | _ => 0
theorem envX_eq {X : zS} {a b c d e f : Int32} (h0 : X.2.1 8 0 = a) (h1 : X.2.1 8 1 = b) (h2 : X.2.1 8 2 = c) (h3 : X.2.1 8 3 = d) (h4 : X.2.1 8 4 = e) (h5 : X.2.1 8 5 = f) : envX X = enV a b c d e f := by
  funext k
  unfold envX
  match k with
  | 0 => exact h0
  | 1 => exact h1
  | 2 => exact h2
  | 3 => exact h3
  | 4 => exact h4
  | 5 => exact h5
  | k + 6 => rw [if_neg (by omega)]; rfl
theorem envM_eq {M : zS} {a b c d e f : Int32} (h0 : M.2.1 0 13 = a) (h1 : M.2.1 0 14 = b) (h2 : M.2.1 0 15 = c) (h3 : M.2.1 0 16 = d) (h4 : M.2.1 0 17 = e) (h5 : M.2.1 0 18 = f) : envM M = enV a b c d e f := by
  funext k
  unfold envM
  match k with
  | 0 => exact h0
  | 1 => exact h1
  | 2 => exact h2
  | 3 => exact h3
  | 4 => exact h4
  | 5 => exact h5
  | k + 6 => rw [if_neg (by omega)]; rfl
/-- -99 .. 99, else the bound -/
def bnd (v : Int32) : Int32 := if (-99 : Int32) < (if v < (99 : Int32) then v else (99 : Int32)) then (if v < (99 : Int32) then v else (99 : Int32)) else (-99 : Int32)
/-- part w of a TEXT that says F, of one with number nu, on day d, who had h -/
def tlS (F : Nat → (Nat → Int32) → Int32) (w : Nat) (th wo wa : Int32) (nu h d : Nat) : Int32 := F w (enV th wo wa (nI nu) (nI d) (nI (pc h)))
theorem x_place : fX4_placeOf = fun a st => some ((-1 : Int32) - a, st) := rfl
theorem x_put8 {X : zS} (hX : shX X) {j : Nat} (hj : j < 6) {a : Int32} (ha : (-1 : Int32) - a = nI j) (v : Int32) : fX6_put 7 a v X = some ((), zp X 8 j v) := by
  have r71 : X.2.2.2 7 1 = some 8 := hX.r (by decide) (by decide) (by decide) (by decide)
  have h0 : ¬ nI j < 0 := nI_pos (by omega)
  have h2 : ¬ Int32.ofNat 6 ≤ nI j := nI_ge (b := 6) (a := j) hj (by decide)
  have hz : zix spX 8 (nI j) = some j := zix_of rfl (by show j < 6; omega) (by decide)
  simp only [fX6_put, x_place, ha, zokX_0, zokX_1, zokX_2, zokX_3, zokX_4, zokX_5, zokX_6, zokX_7, zokX_8, zokX_9, zokX_10, zokX_11, zokX_12, zokX_13, zokX_14, zokX_15, zokX_16, zlaX_1, zlaX_2, zlaX_3, zlaX_4, zlaX_5, zlaX_6, zlaX_8, zlaX_11, zlaX_12, zlaX_13, zlaX_15, zlaX_16, zp_1, zp_h, zp_r, zp_l, zletE, obs, spXe_0, spXe_1, spXe_2, spXe_3, spXe_4, spXe_5, spXe_6, spXe_7, spXe_8, spXe_9, spXe_10, spXe_11, spXe_12, spXe_13, spXe_14, spXe_15, spXe_16, hX.1, r71, if_neg h0, h2, if_false, hz]
theorem sc_fr {t : Nat} (ht : t < 6) {X X' : zS} (h : scrX t X X') : frX X X' := ⟨h.1, h.2.1, fun o k => by
  rcases h.2.2 o k with a | a | a
  · exact Or.inr (Or.inl ⟨t, ht, Or.inl a⟩)
  · exact Or.inr (Or.inl ⟨t, ht, Or.inr a⟩)
  · exact Or.inr (Or.inr a)⟩
theorem sc_frM {M M' : zS} (h : scrM M M') : frM M M' := ⟨h.1, h.2.1, fun o k => by
  rcases h.2.2 o k with a | a
  · exact Or.inl ⟨a.1, by omega, a.2.2⟩
  · exact Or.inr a⟩
theorem x_tell7 {X : zS} (hX : shX X) {nu h d t : Nat} {F : Nat → (Nat → Int32) → Int32} (v4 : X.2.1 7 4 = nI nu) (v6 : X.2.1 7 6 = nI h) (hh : h ≤ 4095) (v9 : X.2.1 7 9 = nI d) (ht : t < 6) (vr : X.2.2.2 7 2 = some (27 + 4 * t)) (hT : TxX X t F) {w : Nat} (hw : w < 3) (th wo wa : Int32) : ∃ X', fX6_tellBy 7 (nI w) th wo wa X = some (bnd (tlS F w th wo wa nu h d), X') ∧ frX X X' := by
  have hs4 : spX (27 + 4 * t) = (4, 6) := by
    rcases (show t = 0 ∨ t = 1 ∨ t = 2 ∨ t = 3 ∨ t = 4 ∨ t = 5 by omega) with rfl | rfl | rfl | rfl | rfl | rfl <;> rfl
  let X1 := zp (zp (zp (zp (zp (zp X 8 0 th) 8 1 wo) 8 2 wa) 8 3 (nI nu)) 8 4 (nI d)) 8 5 (nI (pc h))
  have hX1 : shX X1 := hX
  have z4 : zok spX X1 (some (27 + 4 * t)) 4 = some (27 + 4 * t) := zok_of (by show 27 + 4 * t < X.1; rw [hX.1]; omega) (by rw [hs4])
  have f1 : frX X X1 := ⟨rfl, rfl, fun o k => by
    by_cases e : o = 8
    · exact Or.inl e
    · exact Or.inr (Or.inr (by simp [X1, zp_h, e]))⟩
  obtain ⟨X2, e2, s2⟩ := hT X1 hX1 (f1.code ht).1 (f1.code ht).2.1 (f1.code ht).2.2 w hw
  have ee : envX X1 = enV th wo wa (nI nu) (nI d) (nI (pc h)) := envX_eq (by simp [X1, zp_h]) (by simp [X1, zp_h]) (by simp [X1, zp_h]) (by simp [X1, zp_h]) (by simp [X1, zp_h]) (by simp [X1, zp_h])
  rw [ee] at e2
  refine ⟨X2, ?_, f1.tr (sc_fr ht s2)⟩
  have r71 : X.2.2.2 7 1 = some 8 := hX.r (by decide) (by decide) (by decide) (by decide)
  have p0 := fun (Y : zS) (hY : shX Y) v => x_put8 hY (j := 0) (by decide) (a := -1) (by decide) v
  have p1 := fun (Y : zS) (hY : shX Y) v => x_put8 hY (j := 1) (by decide) (a := -2) (by decide) v
  have p2 := fun (Y : zS) (hY : shX Y) v => x_put8 hY (j := 2) (by decide) (a := -3) (by decide) v
  have p3 := fun (Y : zS) (hY : shX Y) v => x_put8 hY (j := 3) (by decide) (a := -4) (by decide) v
  have p4 := fun (Y : zS) (hY : shX Y) v => x_put8 hY (j := 4) (by decide) (a := -5) (by decide) v
  have p5 := fun (Y : zS) (hY : shX Y) v => x_put8 hY (j := 5) (by decide) (a := -6) (by decide) v
  have q0 := p0 X hX th
  have q1 := p1 (zp X 8 0 th) hX wo
  have q2 := p2 (zp (zp X 8 0 th) 8 1 wo) hX wa
  have q3 := p3 (zp (zp (zp X 8 0 th) 8 1 wo) 8 2 wa) hX (nI nu)
  have q4 := p4 (zp (zp (zp (zp X 8 0 th) 8 1 wo) 8 2 wa) 8 3 (nI nu)) hX (nI d)
  have q5 := p5 (zp (zp (zp (zp (zp X 8 0 th) 8 1 wo) 8 2 wa) 8 3 (nI nu)) 8 4 (nI d)) hX (nI (pc h))
  have hne : ¬ (some (27 + 4 * t) = none) := fun q => by cases q
  have n7 : ∀ {a k : Nat}, (7 = 8 ∧ a = k) = False := fun {a k} => by simp
  simp only [fX6_tellBy, zokX_0, zokX_1, zokX_2, zokX_3, zokX_4, zokX_5, zokX_6, zokX_7, zokX_8, zokX_9, zokX_10, zokX_11, zokX_12, zokX_13, zokX_14, zokX_15, zokX_16, zlaX_1, zlaX_2, zlaX_3, zlaX_4, zlaX_5, zlaX_6, zlaX_8, zlaX_11, zlaX_12, zlaX_13, zlaX_15, zlaX_16, zp_1, zp_h, zp_r, zp_l, zletE, obs, spXe_0, spXe_1, spXe_2, spXe_3, spXe_4, spXe_5, spXe_6, spXe_7, spXe_8, spXe_9, spXe_10, spXe_11, spXe_12, spXe_13, spXe_14, spXe_15, spXe_16, hX.1, vr, if_neg hne, q0, q1, q2, q3, q4, q5, n7, if_false, v4, v6, v9, x_bits hh, r71]
  show ((zok spX X1 (some (27 + 4 * t)) 4).bind fun o16 => (fX4_valueOf o16 (nI w) (some 8) X1).bind fun q14 => (fX6_bounded q14.1 q14.2).bind fun q15 => some (q15.1, q15.2)) = _
  rw [z4, Option.bind_some, e2]
  rfl
theorem i99 : (-99 : Int32).toInt = -99 ∧ (99 : Int32).toInt = 99 ∧ (0 : Int32).toInt = 0 := by decide
theorem bnd_within (v : Int32) (M : zS) : fX8_within v (-99) 99 M = some (bnd v, M) := by
  unfold fX8_within bnd
  obtain ⟨h1, h2, -⟩ := i99
  by_cases a : v < 99
  · have a2 : v ≤ 99 := Int32.le_of_lt a
    by_cases b : (-99 : Int32) < v
    · rw [if_pos (Int32.le_of_lt b), if_pos a2, if_pos a, if_pos b]
    · rw [if_pos a, if_neg b]
      by_cases c : (-99 : Int32) ≤ v
      · have e : v = -99 := Int32.toInt_inj.mp (by rw [Int32.le_iff_toInt_le] at c; rw [Int32.lt_iff_toInt_lt] at b; omega)
        rw [if_pos c, if_pos a2, e]
      · rw [if_neg c]
  · have c : (-99 : Int32) ≤ v := by rw [Int32.lt_iff_toInt_lt] at a; rw [Int32.le_iff_toInt_le]; omega
    rw [if_neg a, if_pos (show (-99 : Int32) < 99 by decide), if_pos c]
    by_cases d : v ≤ 99
    · have e : v = 99 := Int32.toInt_inj.mp (by rw [Int32.le_iff_toInt_le] at d; rw [Int32.lt_iff_toInt_lt] at a; omega)
      rw [if_pos d, e]
    · rw [if_neg d]
/-- costs: 0 .. 99 -/
def bn0 (v : Int32) : Int32 := if (0 : Int32) < (if v < (99 : Int32) then v else (99 : Int32)) then (if v < (99 : Int32) then v else (99 : Int32)) else (0 : Int32)
theorem bn0_within (v : Int32) (M : zS) : fX8_within v 0 99 M = some (bn0 v, M) := by
  unfold fX8_within bn0
  obtain ⟨-, h2, h1⟩ := i99
  by_cases a : v < 99
  · have a2 : v ≤ 99 := Int32.le_of_lt a
    by_cases b : (0 : Int32) < v
    · rw [if_pos (Int32.le_of_lt b), if_pos a2, if_pos a, if_pos b]
    · rw [if_pos a, if_neg b]
      by_cases c : (0 : Int32) ≤ v
      · have e : v = 0 := Int32.toInt_inj.mp (by rw [Int32.le_iff_toInt_le] at c; rw [Int32.lt_iff_toInt_lt] at b; omega)
        rw [if_pos c, if_pos a2, e]
      · rw [if_neg c]
  · have c : (0 : Int32) ≤ v := by rw [Int32.lt_iff_toInt_lt] at a; rw [Int32.le_iff_toInt_le]; omega
    rw [if_neg a, if_pos (show (0 : Int32) < 99 by decide), if_pos c]
    by_cases d : v ≤ 99
    · have e : v = 99 := Int32.toInt_inj.mp (by rw [Int32.le_iff_toInt_le] at d; rw [Int32.lt_iff_toInt_lt] at a; omega)
      rw [if_pos d, e]
    · rw [if_neg d]
theorem m_says {M : zS} (hM : shM M) {p n : Nat} {L : Nat → Nat} {k nu s h nh d t : Nat} {F : Nat → (Nat → Int32) → Int32} (hP : PcM M p n L k nu s h nh d) (hh : h ≤ 4095) (vr : M.2.1 0 4 = nI t) (hT : TxM M t F) {w : Nat} (hw : w < 3) (th wo wa : Int32) : ∃ M', fX8_says 0 (nI w) (nI p) th wo wa M = some (if w = 2 then bn0 (tlS F w th wo wa nu h d) else bnd (tlS F w th wo wa nu h d), M') ∧ frM M M' := by
  obtain ⟨hL, hp, hn, pm, pk, pu, ps, ph, pd, -⟩ := hP
  have r10 : M.2.2.2 0 10 = some 6 := hM.r (by decide) (by decide)
  have i0 : (4 : Int32) * nI p = nI (4 * p) := idx40 p
  have i2 : nI (4 * p) + 2 = nI (4 * p + 2) := nI_add _ 2
  have z0' : zix spM 6 (nI (4 * p)) = some (4 * p) := zix_of rfl (by show 4 * p < 20; omega) (by decide)
  have z2' : zix spM 6 (nI (4 * p + 2)) = some (4 * p + 2) := zix_of rfl (by show 4 * p + 2 < 20; omega) (by decide)
  let M1 := zp (zp (zp (zp (zp (zp M 0 13 th) 0 14 wo) 0 15 wa) 0 16 (nI nu)) 0 17 (nI d)) 0 18 (nI (pc h))
  have hM1 : shM M1 := hM
  have f1 : frM M M1 := ⟨rfl, rfl, fun o k => by
    by_cases e : o = 0 ∧ 13 ≤ k ∧ k ≤ 27
    · exact Or.inl e
    · refine Or.inr ?_
      have e0 : ¬ (o = 0 ∧ k = 13) := by omega
      have e1 : ¬ (o = 0 ∧ k = 14) := by omega
      have e2 : ¬ (o = 0 ∧ k = 15) := by omega
      have e3 : ¬ (o = 0 ∧ k = 16) := by omega
      have e4 : ¬ (o = 0 ∧ k = 17) := by omega
      have e5 : ¬ (o = 0 ∧ k = 18) := by omega
      show (zp (zp (zp (zp (zp (zp M 0 13 th) 0 14 wo) 0 15 wa) 0 16 (nI nu)) 0 17 (nI d)) 0 18 (nI (pc h))).2.1 o k = _
      simp only [zp_h, e0, e1, e2, e3, e4, e5, if_false]⟩
  obtain ⟨M2, e2, s2⟩ := hT M1 hM1 (fun j _ => f1.at (Or.inl (by decide))) (f1.at (Or.inl (by decide))) w hw
  have ee : envM M1 = enV th wo wa (nI nu) (nI d) (nI (pc h)) := envM_eq (by simp [M1, zp_h]) (by simp [M1, zp_h]) (by simp [M1, zp_h]) (by simp [M1, zp_h]) (by simp [M1, zp_h]) (by simp [M1, zp_h])
  rw [ee] at e2
  refine ⟨M2, ?_, f1.tr (sc_frM s2)⟩
  have n6 : ∀ {a k : Nat}, (6 = 0 ∧ a = k) = False := fun {a k} => by simp
  have e2 : fX8_read 0 (nI t) (nI w) (zp (zp (zp (zp (zp (zp M 0 13 th) 0 14 wo) 0 15 wa) 0 16 (nI nu)) 0 17 (nI d)) 0 18 (nI (pc h))) = some (tlS F w th wo wa nu h d, M2) := e2
  by_cases c : w = 2
  · subst c
    simp only [fX8_says, zokM_0, zokM_1, zokM_2, zokM_3, zokM_4, zokM_5, zokM_6, zokM_7, zokM_8, zokM_9, zokM_10, zokM_11, zokM_12, zokM_13, zokM_14, zokM_15, zlaM_1, zlaM_2, zlaM_3, zlaM_4, zlaM_5, zlaM_6, zlaM_7, zlaM_8, zlaM_9, zlaM_10, zlaM_11, zlaM_12, zlaM_13, zlaM_14, zlaM_15, zp_1, zp_h, zp_r, zp_l, zletE, obs, spMe_0, spMe_1, spMe_2, spMe_3, spMe_4, spMe_5, spMe_6, spMe_7, spMe_8, spMe_9, spMe_10, spMe_11, spMe_12, spMe_13, spMe_14, spMe_15, hM.1, r10, i0, i2, z0', z2', false_and, true_and, if_false, pu, pd, ph, m_bits hh, vr, Nat.reduceEqDiff, and_false, and_true, e2, if_pos (show nI 2 = (2 : Int32) from rfl), fX8_says_j74, bn0_within, if_true]
  · have c' : ¬ nI w = (2 : Int32) := kne (b := 2) (by omega) (by decide) c
    simp only [fX8_says, zokM_0, zokM_1, zokM_2, zokM_3, zokM_4, zokM_5, zokM_6, zokM_7, zokM_8, zokM_9, zokM_10, zokM_11, zokM_12, zokM_13, zokM_14, zokM_15, zlaM_1, zlaM_2, zlaM_3, zlaM_4, zlaM_5, zlaM_6, zlaM_7, zlaM_8, zlaM_9, zlaM_10, zlaM_11, zlaM_12, zlaM_13, zlaM_14, zlaM_15, zp_1, zp_h, zp_r, zp_l, zletE, obs, spMe_0, spMe_1, spMe_2, spMe_3, spMe_4, spMe_5, spMe_6, spMe_7, spMe_8, spMe_9, spMe_10, spMe_11, spMe_12, spMe_13, spMe_14, spMe_15, hM.1, r10, i0, i2, z0', z2', false_and, true_and, if_false, pu, pd, ph, m_bits hh, vr, Nat.reduceEqDiff, and_false, and_true, e2, if_neg c', fX8_says_j74, bnd_within, if_neg c]
theorem bnd_int (v : Int32) : -99 ≤ (bnd v).toInt ∧ (bnd v).toInt ≤ 99 := by
  unfold bnd
  obtain ⟨h1, h2, -⟩ := i99
  by_cases a : v < 99
  · rw [if_pos a]
    have a' := Int32.lt_iff_toInt_lt.mp a
    by_cases b : (-99 : Int32) < v
    · rw [if_pos b]
      have b' := Int32.lt_iff_toInt_lt.mp b
      omega
    · rw [if_neg b]; omega
  · rw [if_neg a, if_pos (by decide)]; omega
theorem bnd_of {v : Int32} (h1 : -99 ≤ v.toInt) (h2 : v.toInt ≤ 99) : bnd v = v := by
  have h := bnd_within v z0
  obtain ⟨g1, g2, -⟩ := i99
  have a : (-99 : Int32) ≤ v := by rw [Int32.le_iff_toInt_le]; omega
  have b : v ≤ 99 := by rw [Int32.le_iff_toInt_le]; omega
  unfold fX8_within at h
  rw [if_pos a, if_pos b] at h
  exact (congrArg Prod.fst (Option.some.inj h)).symm
theorem bnd_bnd (v : Int32) : bnd (bnd v) = bnd v := bnd_of (bnd_int v).1 (bnd_int v).2
/-- bounded twice is bounded once: 0 .. 99 of what is -99 .. 99 -/
theorem bn0_bnd (v : Int32) : bn0 (bnd v) = bn0 v := by
  obtain ⟨h1, h2, h3⟩ := i99
  by_cases a : v < 99
  · by_cases b : (-99 : Int32) < v
    · have e : bnd v = v := by unfold bnd; rw [if_pos a, if_pos b]
      rw [e]
    · have e : bnd v = -99 := by unfold bnd; rw [if_pos a, if_neg b]
      have c : ¬ (0 : Int32) < v := by rw [Int32.lt_iff_toInt_lt] at b ⊢; omega
      rw [e]
      unfold bn0
      rw [if_pos a, if_neg c]
      decide
  · have e : bnd v = 99 := by unfold bnd; rw [if_neg a]; rfl
    rw [e]
    unfold bn0
    rw [if_neg a]
    rfl
