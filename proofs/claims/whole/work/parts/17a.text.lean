/-! text() -/
theorem dgN_le {b : Int32} (h : NiR b 255 ∨ b = -1) : dgN b ≤ 207 := by
  unfold dgN
  rcases h with ⟨k, hk, rfl⟩ | rfl
  · rw [nI_clamp (by omega)]; omega
  · decide
theorem byB_r {B : Nat → Int32} {n : Nat} (h8 : By8 B n) (i : Nat) : NiR (byB B n i) 255 ∨ byB B n i = -1 := by
  unfold byB
  by_cases c : i < n
  · rw [if_pos c]; exact Or.inl (h8 i c)
  · rw [if_neg c]; exact Or.inr rfl
theorem vlF_le {B : Nat → Int32} {n : Nat} (h8 : By8 B n) : ∀ m s acc, vlF B n m s acc ≤ (acc + 23) * 10 ^ m
  | 0, s, acc => by rw [vlF]; omega
  | m + 1, s, acc => by
    rw [vlF]
    have h1 := vlF_le h8 m (s + 1) (acc * 10 + dgN (byB B n s))
    have h2 := dgN_le (byB_r h8 s)
    have h3 : (acc * 10 + dgN (byB B n s) + 23) * 10 ^ m ≤ (10 * (acc + 23)) * 10 ^ m := Nat.mul_le_mul_right _ (by omega)
    rw [Nat.pow_succ, show (acc + 23) * (10 ^ m * 10) = (10 * (acc + 23)) * 10 ^ m by rw [Nat.mul_comm (10 ^ m) 10, ← Nat.mul_assoc, Nat.mul_comm (acc + 23) 10]]
    omega
theorem vlT_nn {B : Nat → Int32} {n : Nat} (h8 : By8 B n) (i : Nat) : ¬ vlT B n i < 0 := by
  unfold vlT
  refine nI_pos ?_
  unfold tkV
  split
  · decide
  · split
    · split
      · rename_i c
        refine Nat.lt_of_le_of_lt (vlF_le h8 _ _ _) ?_
        rcases (show tkE B n (psT B n i) - tkS B n (psT B n i) = 0 ∨ tkE B n (psT B n i) - tkS B n (psT B n i) = 1 ∨ tkE B n (psT B n i) - tkS B n (psT B n i) = 2 ∨ tkE B n (psT B n i) - tkS B n (psT B n i) = 3 ∨ tkE B n (psT B n i) - tkS B n (psT B n i) = 4 by omega) with e | e | e | e | e <;> rw [e] <;> decide
      · decide
    · decide
/-- what text() may change -/
def fxX (t : Nat) (X X' : zS) : Prop := ∀ o k, (o = 0 ∧ (k = 11 ∨ k = 13)) ∨ (9 ≤ o ∧ o ≤ 13) ∨ (27 + 4 * t ≤ o ∧ o ≤ 29 + 4 * t) ∨ X'.2.1 o k = X.2.1 o k
def fxM (t : Nat) (M M' : zS) : Prop := ∀ o k, (o = 0 ∧ (k = 3 ∨ k = 6 ∨ (19 ≤ k ∧ k ≤ 27))) ∨ (o = 1 ∧ 160 * t ≤ k ∧ k < 160 * t + 160) ∨ (o = 2 ∧ k = t) ∨ M'.2.1 o k = M.2.1 o k
theorem Inv.text {X M X' M' : zS} {t q : Nat} (h : Inv X M) (ht : t < 6) (hk : M.2.1 0 3 = nI t) (hX' : shX X') (hM' : shM M') (fx : fxX t X X') (fm : fxM t M M') (x13 : X'.2.1 0 13 = 0) (m6 : M'.2.1 0 6 = 0) (x11 : X'.2.1 0 11 = nI q) (m3 : M'.2.1 0 3 = nI q) (hq : t ≤ q ∧ q ≤ t + 1) (hn : q = t + 1 → ∃ F : Nat → (Nat → Int32) → Int32, TxX X' t F ∧ TxM M' t F) : Inv X' M' := by
  obtain ⟨⟨hX, hM⟩, hL, ⟨D1, D2, ⟨D3, k3, k31, k36, k3e⟩, ⟨D4, k4, r4, r4k, k46, k4e, r4e⟩⟩, hA, hP, hF, hS, hI, hT⟩ := h
  have e3 : k3 = t := (nI_inj (by omega) (by omega)).mp (k3e.symm.trans hk)
  have e4 : k4 = t := (nI_inj (by omega) (by omega)).mp (k4e.symm.trans hk)
  have ox : ∀ o, ¬ (9 ≤ o ∧ o ≤ 13) → ¬ o = 0 → ¬ (27 + 4 * t ≤ o ∧ o ≤ 29 + 4 * t) → X'.2.1 o = X.2.1 o := fun o q1 q2 q3 => funext fun k => by
    rcases fx o k with a | a | a | a
    · exact absurd a.1 q2
    · exact absurd a q1
    · exact absurd a q3
    · exact a
  have x0 : ∀ k, ¬ k = 11 → ¬ k = 13 → X'.2.1 0 k = X.2.1 0 k := fun k q1 q2 => by
    rcases fx 0 k with a | a | a | a
    · omega
    · omega
    · omega
    · exact a
  have om : ∀ o, ¬ o = 0 → ¬ o = 1 → ¬ o = 2 → M'.2.1 o = M.2.1 o := fun o q1 q2 q3 => funext fun k => by
    rcases fm o k with a | a | a | a
    · exact absurd a.1 q1
    · exact absurd a.1 q2
    · exact absurd a.1 q3
    · exact a
  have m0 : ∀ k, ¬ k = 3 → ¬ k = 6 → (k < 19 ∨ 27 < k) → M'.2.1 0 k = M.2.1 0 k := fun k q1 q2 q3 => by
    rcases fm 0 k with a | a | a | a
    · omega
    · omega
    · omega
    · exact a
  have xo1 := ox 1 (by omega) (by omega) (by omega)
  have xo2 := ox 2 (by omega) (by omega) (by omega)
  have xo14 := ox 14 (by omega) (by omega) (by omega)
  have xo15 := ox 15 (by omega) (by omega) (by omega)
  have m4 := om 4 (by omega) (by omega) (by omega)
  have m5 := om 5 (by omega) (by omega) (by omega)
  have m6' := om 6 (by omega) (by omega) (by omega)
  have m7 := om 7 (by omega) (by omega) (by omega)
  have m10 := om 10 (by omega) (by omega) (by omega)
  have m11 := om 11 (by omega) (by omega) (by omega)
  have m12 := om 12 (by omega) (by omega) (by omega)
  have m13 := om 13 (by omega) (by omega) (by omega)
  have m14 := om 14 (by omega) (by omega) (by omega)
  have m15 := om 15 (by omega) (by omega) (by omega)
  have M11 := m0 11 (by omega) (by omega) (by omega)
  refine ⟨⟨hX', hM'⟩, ?_, ⟨?_, ?_, ⟨x11.trans m3.symm, q, by omega, by omega, m3⟩, ?_, q, r4, by omega, by omega, m3, ?_⟩, ?_, ?_, ?_, ?_, ?_, ?_⟩
  · unfold InvL
    rw [xo1, m4]
    exact hL
  · rw [x0 9 (by omega) (by omega), m0 7 (by omega) (by omega) (by omega)]; exact D1
  · rw [x0 10 (by omega) (by omega), M11]; exact D2
  · rw [x0 12 (by omega) (by omega), m0 4 (by omega) (by omega) (by omega)]; exact D4
  · rw [m0 4 (by omega) (by omega) (by omega)]; exact r4e
  · obtain ⟨a1, a2, a3⟩ := hA
    refine ⟨fun i hi k hk => ?_, fun i hi => ?_, fun i hi hi5 => ?_⟩
    · rw [ox (22 + i) (by omega) (by omega) (by omega), m6']; exact a1 i hi k hk
    · rw [m6']; exact a2 i hi
    · rw [M11] at hi
      rw [ox (22 + i) (by omega) (by omega) (by omega), m5]; exact a3 i hi hi5
  · exact ⟨x13.trans m6.symm, 0, by omega, m6, fun j hj => absurd hj (Nat.not_lt_zero _)⟩
  · unfold InvF
    rw [xo2, m7]
    exact hF
  · intro s hs
    rw [ox (51 + 2 * s) (by omega) (by omega) (by omega), ox (52 + 2 * s) (by omega) (by omega) (by omega), m12, m13, m14, m15]
    exact hS s hs
  · obtain ⟨i1, i2⟩ := hI
    have M39 := m0 39 (by omega) (by omega) (by omega)
    refine ⟨by rw [xo14, M39]; exact i1, ?_⟩
    rcases i2 with i2 | ⟨k, n, j1, j2, j3, j4, j5, j6, j7, ⟨j8, c, r, rc, c6, ce, re⟩, j9, j10, j11⟩
    · exact Or.inl (by rw [M39]; exact i2)
    · have ec : c = t := (nI_inj (by omega) (by omega)).mp (ce.symm.trans hk)
      refine Or.inr ⟨k, n, j1, j2, by rw [M39]; exact j3, by rw [M11]; exact j4, by rw [xo15, m10]; exact j5, by rw [m10]; exact j6, by rw [xo14, m0 40 (by omega) (by omega) (by omega)]; exact j7, ⟨by rw [xo14, m0 41 (by omega) (by omega) (by omega)]; exact j8, q, r, by omega, by omega, m3, by rw [m0 41 (by omega) (by omega) (by omega)]; exact re⟩, fun i hi j hj => ?_, fun i hi => ?_, fun i hi => ?_⟩
      · rw [ox (17 + i) (by omega) (by omega) (by omega), m11]; exact j9 i hi j hj
      · rw [m11]; exact j10 i hi
      · rw [ox (17 + i) (by omega) (by omega) (by omega), m5]; exact j11 i hi
  · intro u hu hlt
    rw [m3] at hlt
    have hu' : u < q := (nI_ltI (by omega) (by omega)).mp hlt
    by_cases e : u = t
    · subst e
      exact hn (by omega)
    · have hut : u < t := by omega
      obtain ⟨F, f1, f2⟩ := hT u hu (by rw [hk]; exact nI_lt hut (by omega))
      have ou : ∀ d, d < 3 → X'.2.1 (27 + d + 4 * u) = X.2.1 (27 + d + 4 * u) := fun d hd => ox _ (by omega) (by omega) (by omega)
      refine ⟨F, f1.mono (fun k => Or.inl (congrFun (ou 0 (by omega)) k)) (fun k => congrFun (ou 1 (by omega)) k) (fun k => congrFun (ou 2 (by omega)) k), f2.mono (fun j hj => ?_) ?_⟩
      · rcases fm 1 (160 * u + j) with a | a | a | a
        · omega
        · omega
        · omega
        · exact a
      · rcases fm 2 u with a | a | a | a
        · omega
        · omega
        · omega
        · exact a
/-- the tape, copied -/
theorem m_tape {n t : Nat} (hn : n ≤ 160) (ht : t < 6) : ∀ (m j f : Nat) (M : zS), j + m = n → m < f → shM M → M.2.1 0 3 = nI t → M.2.1 0 6 = nI n → ∃ f' M', fX8_text_L14 0 f (nI j) M = fX8_text_L14 0 (f' + 1) (nI n) M' ∧ M'.1 = M.1 ∧ M'.2.2.2 = M.2.2.2 ∧ (∀ o i, (o = 1 ∧ 160 * t ≤ i ∧ i < 160 * t + 160) ∨ M'.2.1 o i = M.2.1 o i) ∧ (∀ i, j ≤ i → i < n → M'.2.1 1 (160 * t + i) = M.2.1 3 i) ∧ (∀ i, i < j → M'.2.1 1 (160 * t + i) = M.2.1 1 (160 * t + i))
  | m, j, 0, _, _, h, _, _, _ => by omega
  | 0, j, f + 1, M, e, _, hM, _, _ => by
    have : j = n := by omega
    subst this
    exact ⟨f, M, rfl, rfl, rfl, fun _ _ => Or.inr rfl, fun i h1 h2 => by omega, fun i _ => rfl⟩
  | m + 1, j, f + 1, M, e, hf, hM, h3, h6 => by
    have c : ¬ nI n ≤ nI j := nI_ge (by omega) (by omega)
    have r5 : M.2.2.2 0 5 = some 3 := hM.r (by decide) (by decide)
    have r1 : M.2.2.2 0 1 = some 1 := hM.r (by decide) (by decide)
    have z3 : zix spM 3 (nI j) = some j := zix_of rfl (by show j < 160; omega) (by decide)
    have e1 : (160 : Int32) * nI t + nI j = nI (160 * t + j) := by
      show nI 160 * nI t + nI j = _
      rw [nI_mul, nI_add]
    have z1 : zix spM 1 (nI (160 * t + j)) = some (160 * t + j) := zix_of rfl (by show 160 * t + j < 960; omega) (by decide)
    let M1 := zp M 1 (160 * t + j) (M.2.1 3 j)
    have o1 : ∀ o i, ¬ (o = 1 ∧ i = 160 * t + j) → M1.2.1 o i = M.2.1 o i := fun o i q => by
      show (zp M 1 (160 * t + j) (M.2.1 3 j)).2.1 o i = _
      rw [zp_h, if_neg q]
    obtain ⟨f', M', y1, y2, y3, y4, y5, y6⟩ := m_tape hn ht m (j + 1) f M1 (by omega) (by omega) (hM.zp _ _ _) ((o1 0 3 (by omega)).trans h3) ((o1 0 6 (by omega)).trans h6)
    refine ⟨f', M', ?_, y2, y3, fun o i => ?_, fun i q1 q2 => ?_, fun i q1 => ?_⟩
    · rw [← y1, fX8_text_L14]
      simp only [zokM_0, zokM_1, zokM_2, zokM_3, zokM_4, zokM_5, zokM_6, zokM_7, zokM_8, zokM_9, zokM_10, zokM_11, zokM_12, zokM_13, zokM_14, zokM_15, zlaM_1, zlaM_2, zlaM_3, zlaM_4, zlaM_5, zlaM_6, zlaM_7, zlaM_8, zlaM_9, zlaM_10, zlaM_11, zlaM_12, zlaM_13, zlaM_14, zlaM_15, zp_1, zp_h, zp_r, zp_l, zletE, obs, spMe_0, spMe_1, spMe_2, spMe_3, spMe_4, spMe_5, spMe_6, spMe_7, spMe_8, spMe_9, spMe_10, spMe_11, spMe_12, spMe_13, spMe_14, spMe_15, hM.1, h6, if_neg c, r5, r1, z3, h3, e1, z1, nI_1]
      rfl
    · rcases y4 o i with a | a
      · exact Or.inl a
      · by_cases q : o = 1 ∧ i = 160 * t + j
        · exact Or.inl ⟨q.1, by omega, by omega⟩
        · exact Or.inr (a.trans (o1 o i q))
    · by_cases q : i = j
      · subst q
        rw [y6 i (by omega)]
        show (zp M 1 (160 * t + i) (M.2.1 3 i)).2.1 1 (160 * t + i) = _
        rw [zp_h, if_pos ⟨rfl, rfl⟩]
      · rw [y5 i (by omega) q2]
        exact o1 3 i (by omega)
    · rw [y6 i (by omega)]
      exact o1 1 _ (by omega)
theorem t_text : TM2 Inv (fun st => fX7_text 0 st) (fun st => fX8_text 0 st) := by
  intro X M h
  have h0 := h
  obtain ⟨⟨hX, hM⟩, hL, ⟨D1, D2, ⟨D3, t, t1, t6, te⟩, D4⟩, hA, ⟨p1, n, hn, p2, p3⟩, hF, hS, hI, hT⟩ := h
  rw [te] at D3
  by_cases c6 : t = 6
  · subst c6
    refine ⟨-4, X, M, ?_, ?_, h0⟩
    · simp only [fX7_text, fX7_text_j21, zokX_0, obs, zletE, hX.1, D3, if_pos (show (6 : Int32) ≤ nI 6 by decide), if_true]
    · simp only [fX8_text, zokM_0, obs, zletE, hM.1, te, if_pos (show nI 6 = (6 : Int32) by decide)]
  · have ht : t < 6 := by omega
    have cX : ¬ (6 : Int32) ≤ nI t := nI_ge (b := 6) ht (by decide)
    have cM : ¬ nI t = (6 : Int32) := fun q => by have := (nI_inj (a := t) (b := 6) (by omega) (by omega)).mp q; omega
    let B : Nat → Int32 := fun j => M.2.1 3 j
    have h8 : By8 B n := fun j hj => (p3 j hj).2
    have hV := vlT_nn h8
    obtain ⟨f', M1, a1, a2, a3, a4, a5, a6⟩ := m_tape hn ht n 0 zF M (by omega) (by show n < 5000; omega) hM te p2
    have hM1 : shM M1 := ⟨a2.trans hM.1, fun o ho k hk => by rw [a3]; exact hM.2 o ho k hk⟩
    let M2 := zp (zp M1 2 t (nI n)) 0 6 0
    have hM2 : shM M2 := (hM1.zp _ _ _).zp _ _ _
    have o2 : ∀ o i, ¬ (o = 2 ∧ i = t) → ¬ (o = 0 ∧ i = 6) → M2.2.1 o i = M1.2.1 o i := fun o i q1 q2 => by
      show (zp (zp M1 2 t (nI n)) 0 6 0).2.1 o i = _
      rw [zp_h, if_neg q2, zp_h, if_neg q1]
    have o1 : ∀ o i, ¬ o = 1 → M1.2.1 o i = M.2.1 o i := fun o i q => (a4 o i).resolve_left (fun w => q w.1)
    have hb2 : ∀ j, j < n → M2.2.1 1 (160 * t + j) = B j := fun j hj => (o2 _ _ (by omega) (by omega)).trans (a5 j (Nat.zero_le _) hj)
    have hs2 : M2.2.1 2 t = nI n := by
      show (zp (zp M1 2 t (nI n)) 0 6 0).2.1 2 t = _
      rw [zp_h, if_neg (by omega), zp_h, if_pos ⟨rfl, rfl⟩]
    have r2 : M1.2.2.2 0 2 = some 2 := hM1.r (by decide) (by decide)
    have z2 : zix spM 2 (nI t) = some t := zix_of rfl (by show t < 6; exact ht) (by decide)
    have e13 : M1.2.1 0 3 = nI t := (o1 0 3 (by decide)).trans te
    have e16 : M1.2.1 0 6 = nI n := (o1 0 6 (by decide)).trans p2
    have e23 : M2.2.1 0 3 = nI t := (o2 0 3 (by omega) (by omega)).trans e13
    have nn : nI n ≤ nI n := Int32.le_refl _
    have fm2 : ∀ M3, scrM M2 M3 → fxM t M M3 := fun M3 g o i => by
      rcases g.2.2 o i with q | q
      · exact Or.inl ⟨q.1, Or.inr (Or.inr q.2)⟩
      · by_cases q1 : o = 2 ∧ i = t
        · exact Or.inr (Or.inr (Or.inl q1))
        · by_cases q2 : o = 0 ∧ i = 6
          · exact Or.inl ⟨q2.1, Or.inr (Or.inl q2.2)⟩
          · rcases a4 o i with w | w
            · exact Or.inr (Or.inl w)
            · exact Or.inr (Or.inr (Or.inr (q.trans ((o2 o i q1 q2).trans w))))
    have hst : fX8_text 0 M = (fX8_read 0 (nI t) 0 M2).bind fun q11 => zlet (q11.1) fun v12 => (zok spM q11.2 (some 0) 8).bind fun o13 => if (q11.2.2.1 o13 26) = 0 then ((zok spM q11.2 (some 0) 8).bind fun o14 => (zok spM q11.2 (some 0) 8).bind fun o15 => zlet (zp q11.2 o15 3 ((q11.2.2.1 o14 3) + (1 : Int32))) fun st16 => (zok spM st16 (some 0) 8).bind fun o17 => some (((st16.2.1 o17 3) - (1 : Int32)), st16)) else ((zok spM q11.2 (some 0) 8).bind fun o18 => some (((-100 : Int32) - (q11.2.2.1 o18 27)), q11.2)) := by
      have q0 : fX8_text 0 M = fX8_text_L14 0 zF (nI 0) M := by
        simp only [fX8_text, zokM_0, obs, zletE, hM.1, te, if_neg cM]
        rfl
      rw [q0, a1, fX8_text_L14]
      simp only [zokM_0, zokM_1, zokM_2, zokM_3, zokM_4, zokM_5, zokM_6, zokM_7, zokM_8, zokM_9, zokM_10, zokM_11, zokM_12, zokM_13, zokM_14, zokM_15, zlaM_1, zlaM_2, zlaM_3, zlaM_4, zlaM_5, zlaM_6, zlaM_7, zlaM_8, zlaM_9, zlaM_10, zlaM_11, zlaM_12, zlaM_13, zlaM_14, zlaM_15, zp_1, zp_h, zp_r, zp_l, zletE, obs, spMe_0, spMe_1, spMe_2, spMe_3, spMe_4, spMe_5, spMe_6, spMe_7, spMe_8, spMe_9, spMe_10, spMe_11, spMe_12, spMe_13, spMe_14, spMe_15, hM1.1, e16, if_pos nn, r2, e13, z2, if_neg (show ¬ ((0 : Nat) = 2 ∧ 3 = t) by omega), Nat.reduceEqDiff, and_false, false_and, if_false, Nat.zero_ne_one, show ¬ (0 : Nat) = 2 by decide, M2]
    have hx3 : ∀ j, j < n → X.2.1 3 j = B j := fun j hj => (p3 j hj).1
    have rX := x_read (B := B) (n := n) (t := t) hX ht hn hx3 hV
    have rM := m_read (B := B) (n := n) (t := t) (M := M2) hM2 ht hn h8 hb2 hs2 hV (w := 0) (by decide)
    have r7 : X.2.2.2 0 7 = some 9 := hX.r (by decide) (by decide) (by decide) (by decide)
    have x13 : X.2.1 0 13 = nI n := p1.trans p2
    have hne : ¬ (some (27 + 4 * t) = none) := fun q => by cases q
    have fxx : ∀ X3, frTx t X X3 → fxX t X X3 := fun X3 g o i => by
      rcases g.2.2 o i with q | q | q
      · exact Or.inr (Or.inl q)
      · exact Or.inr (Or.inr (Or.inl q))
      · exact Or.inr (Or.inr (Or.inr q))
    cases hr : rd3 (tC B n) (rdP (tC B n) (vlT B n) 5).1 with
    | inl e =>
      rw [hr] at rX rM
      obtain ⟨X3, b1, b2, b3⟩ := rX
      obtain ⟨v, M3, d1, d2, d3, d4⟩ := rM
      have hX3 := b2.sh hX
      have hM3 := d2.sh hM2
      have nm : ¬ nI (tkS B n (psT B n e)) = -1 := fun q => by
        have := congrArg Int32.toInt q
        rw [nI_toInt (by omega)] at this
        have h2 : (-1 : Int32).toInt = -1 := by decide
        omega
      refine ⟨-100 - nI (tkS B n (psT B n e)), zp X3 0 13 0, M3, ?_, ?_, ?_⟩
      · simp only [fX7_text, fX7_text_j21, zokX_0, zokX_9, obs, zletE, hX.1, D3, if_neg cX, x_textAt hX ht, if_neg hne, r7, x13, b1, hX3.1, if_neg nm]
      · refine hst.trans ?_
        have d1 : fX8_read 0 (nI t) 0 M2 = some (v, M3) := d1
        simp only [d1, obs, zletE, zokM_0, hM3.1, d3, if_neg n10, d4]
      · have m3e : M3.2.1 0 3 = nI t := (d2.at (Or.inr (Or.inl (by decide)))).trans e23
        have fx3 := fxx X3 b2
        have x11 : X3.2.1 0 11 = nI t := by
          rcases b2.2.2 0 11 with q | q | q
          · omega
          · omega
          · exact q.trans D3
        refine Inv.text (q := t) h0 ht te (hX3.zp _ _ _) hM3 (fun o i => ?_) (fm2 M3 d2) (by rw [zp_h, if_pos ⟨rfl, rfl⟩]) ?_ (by rw [zp_h, if_neg (by omega)]; exact x11) m3e ⟨Nat.le_refl _, by omega⟩ (fun q => by omega)
        · by_cases q : o = 0 ∧ i = 13
          · exact Or.inl ⟨q.1, Or.inr q.2⟩
          · rw [zp_h, if_neg q]; exact fx3 o i
        · rw [d2.at (Or.inr (Or.inl (by decide)))]
          show (zp (zp M1 2 t (nI n)) 0 6 0).2.1 0 6 = _
          rw [zp_h, if_pos ⟨rfl, rfl⟩]
    | inr r =>
      obtain ⟨⟨c1, c2, c3⟩, v1, v2, v3⟩ := r
      have okr := ok_rd3 (ok_rd (B := B) (n := n) (V := vlT B n) hV 5).1 hr
      rw [hr] at rX rM
      obtain ⟨X3, b1, b2, b3, b4⟩ := rX
      obtain ⟨M3, d1, d2, d3⟩ := rM
      have hX3 := b2.sh hX
      have hM3 := d2.sh hM2
      have m3e : M3.2.1 0 3 = nI t := (d2.at (Or.inr (Or.inl (by decide)))).trans e23
      have x11 : X3.2.1 0 11 = nI t := by
        rcases b2.2.2 0 11 with q | q | q
        · omega
        · omega
        · exact q.trans D3
      have x11' : (zp X3 0 13 0).2.1 0 11 = nI t := by rw [zp_h, if_neg (by omega)]; exact x11
      have hz3 : shX (zp X3 0 13 0) := hX3.zp _ _ _
      refine ⟨nI t, zp (zp X3 0 13 0) 0 11 (nI (t + 1)), zp M3 0 3 (nI (t + 1)), ?_, ?_, ?_⟩
      · simp only [fX7_text, fX7_text_j21, zokX_0, zokX_9, obs, zletE, hX.1, D3, if_neg cX, x_textAt hX ht, if_neg hne, r7, x13, b1, hX3.1, if_true, zp_1, x11', nI_1]
        rw [zp_h, if_pos ⟨rfl, rfl⟩, nI_un]
      · refine hst.trans ?_
        have d1 : fX8_read 0 (nI t) 0 M2 = some (w3 0 v1 v2 v3 (envM M2), M3) := d1
        simp only [d1, obs, zletE, zokM_0, hM3.1, d3, if_true, zp_1, m3e, nI_1]
        rw [zp_h, if_pos ⟨rfl, rfl⟩, nI_un]
      · refine Inv.text (q := t + 1) h0 ht te ((hX3.zp _ _ _).zp _ _ _) (hM3.zp _ _ _) (fun o i => ?_) (fun o i => ?_) (by rw [zp_h, if_neg (by omega), zp_h, if_pos ⟨rfl, rfl⟩]) ?_ (by rw [zp_h, if_pos ⟨rfl, rfl⟩]) (by rw [zp_h, if_pos ⟨rfl, rfl⟩]) ⟨by omega, Nat.le_refl _⟩ (fun _ => ⟨fun w => w3 w v1 v2 v3, ?_, ?_⟩)
        · by_cases q : o = 0 ∧ (i = 11 ∨ i = 13)
          · exact Or.inl q
          · rw [zp_h, if_neg (by omega), zp_h, if_neg (by omega)]; exact fxx X3 b2 o i
        · by_cases q : o = 0 ∧ i = 3
          · exact Or.inl ⟨q.1, Or.inl q.2⟩
          · rw [zp_h, if_neg q]; exact fm2 M3 d2 o i
        · rw [zp_h, if_neg (by omega), d2.at (Or.inr (Or.inl (by decide)))]
          show (zp (zp M1 2 t (nI n)) 0 6 0).2.1 0 6 = _
          rw [zp_h, if_pos ⟨rfl, rfl⟩]
        · exact (x_val ht (by decide) okr.1.1 okr.1.2.1 okr.1.2.2 (by omega) b3 b4).mono (fun k => Or.inl (by rw [zp_h, if_neg (by omega), zp_h, if_neg (by omega)])) (fun k => by rw [zp_h, if_neg (by omega), zp_h, if_neg (by omega)]) (fun k => by rw [zp_h, if_neg (by omega), zp_h, if_neg (by omega)])
        · intro Y hY y1 y2 w hw
          have hsz : ∀ k, (zp M3 0 3 (nI (t + 1))).2.1 2 k = M3.2.1 2 k := fun k => by rw [zp_h, if_neg (by omega)]
          have hs1 : ∀ k, (zp M3 0 3 (nI (t + 1))).2.1 1 k = M3.2.1 1 k := fun k => by rw [zp_h, if_neg (by omega)]
          have rY := m_read (B := B) (n := n) (t := t) (M := Y) hY ht hn h8 (fun j hj => (y1 j (by omega)).trans ((hs1 _).trans ((d2.at (Or.inl (by decide))).trans (hb2 j hj)))) (y2.trans ((hsz _).trans ((d2.at (Or.inl (by decide))).trans hs2))) hV hw
          rw [hr] at rY
          obtain ⟨M4, g1, g2, -⟩ := rY
          exact ⟨M4, g1, g2⟩
