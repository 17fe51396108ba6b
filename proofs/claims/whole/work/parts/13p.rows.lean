def acM (M : zS) (l : Int32) (mi : Nat) (jy pd : Int32) : Prop := M.2.1 0 32 = l ∧ M.2.1 0 33 = nI mi ∧ M.2.1 0 34 = jy ∧ M.2.1 0 35 = pd
theorem ask_loop {p n0 q m0 : Nat} {L : Nat → Nat} {k nu nh d t : Nat} {F : Nat → (Nat → Int32) → Int32} : ∀ (m j n n' : Nat) (X M : zS) (s h sp : Nat) (l : Int32) (gi mi : Nat) (jy pd : Int32), j + m = m0 → m < n → m < n' → Th X M p n0 L k nu s h nh d t sp F → acX X l (nI gi) (nI mi) jy pd → acM M l mi jy pd → gi + mi = j → Sht X M q m0 → (∀ i, i < m0 → ∃ st, 1 ≤ st ∧ st ≤ 4095 ∧ M.2.1 15 (40 * q + i) = nI st) → ∃ X' M' s' h' sp' l' gi' mi' jy' pd', fX7_askInRow_L2 n (some 7) (some (51 + 2 * q)) (nI j) X = some ((), X') ∧ fX8_askAll_L22 0 n' (nI q) (nI p) (nI j) M = some ((), M') ∧ frA X X' ∧ frT p M M' ∧ Th X' M' p n0 L k nu s' h' nh d t sp' F ∧ acX X' l' (nI gi') (nI mi') jy' pd' ∧ acM M' l' mi' jy' pd' ∧ gi' + mi' = m0
  | m, j, 0, n', _, _, _, _, _, _, _, _, _, _, _, h, _, _, _, _, _, _, _ => by omega
  | m, j, n, 0, _, _, _, _, _, _, _, _, _, _, _, _, h, _, _, _, _, _, _ => by omega
  | 0, j, n + 1, n' + 1, X, M, s, h, sp, l, gi, mi, jy, pd, e, _, _, hT, hx, hm, hg, hS, _ => by
    obtain ⟨h1, h2, h3, h4, h5⟩ := hS
    have hX := hT.2.1
    have hM := hT.2.2.2.2.1
    have c : nI m0 ≤ nI j := nI_le (by omega) (by omega)
    have r14 : M.2.2.2 0 44 = some 14 := hM.r (by decide) (by decide)
    have z14 : zix spM 14 (nI q) = some q := zix_of rfl h1 (by decide)
    refine ⟨X, M, s, h, sp, l, gi, mi, jy, pd, ?_, ?_, frA.rf X, frT.rf p M, hT, hx, hm, by omega⟩
    · simp only [fX7_askInRow_L2, obs, zok_sheet hX.1 h1, h3, if_pos c]
    · simp only [fX8_askAll_L22, zokM_0, zokM_1, zokM_2, zokM_3, zokM_4, zokM_5, zokM_6, zokM_7, zokM_8, zokM_9, zokM_10, zokM_11, zokM_12, zokM_13, zokM_14, zokM_15, zlaM_1, zlaM_2, zlaM_3, zlaM_4, zlaM_5, zlaM_6, zlaM_7, zlaM_8, zlaM_9, zlaM_10, zlaM_11, zlaM_12, zlaM_13, zlaM_14, zlaM_15, zp_1, zp_h, zp_r, zp_l, zletE, obs, spMe_0, spMe_1, spMe_2, spMe_3, spMe_4, spMe_5, spMe_6, spMe_7, spMe_8, spMe_9, spMe_10, spMe_11, spMe_12, spMe_13, spMe_14, spMe_15, hM.1, r14, z14, h4, if_pos c]
  | m + 1, j, n + 1, n' + 1, X, M, s, h, sp, l, gi, mi, jy, pd, e, hn, hn', hT, hx, hm, hg, hS, hc => by
    have hS0 := hS
    obtain ⟨h1, h2, h3, h4, h5⟩ := hS
    have hX := hT.2.1
    have hM := hT.2.2.2.2.1
    have c : ¬ nI m0 ≤ nI j := nI_ge (by omega) (by omega)
    have r14 : M.2.2.2 0 44 = some 14 := hM.r (by decide) (by decide)
    have r15 : M.2.2.2 0 45 = some 15 := hM.r (by decide) (by decide)
    have z14 : zix spM 14 (nI q) = some q := zix_of rfl h1 (by decide)
    have z15 : zix spM 15 (nI (40 * q + j)) = some (40 * q + j) := zix_of rfl (by show 40 * q + j < 160; omega) (by decide)
    have ea := x_at hX h1 h3 h2 (show j < m0 by omega)
    rw [h5 j (by omega)] at ea
    obtain ⟨st, s1, s2, s3⟩ := hc j (by omega)
    rw [s3] at ea
    obtain ⟨X1, M1, s', h', sp', g, gl, cc, e1, e2, f1, f2, hT1, m28, m29, hac⟩ := th_step hT hx s2
    have hX1n := hT1.2.1.1
    have hM1n := hT1.2.2.2.2.1.1
    have nz : ∀ i, 30 ≤ i → M1.2.1 0 i = M.2.1 0 i := fun i hi => f2.at (Or.inr (Or.inr (by omega))) (Or.inl (by decide))
    have go : ∀ (gi' mi' : Nat) (jy' : Int32), acX X1 g (nI gi') (nI mi') jy' (pd + cc) → gi' + mi' = j + 1 → ∀ M2, M2 = zp (zp (zp (zp M1 0 32 g) 0 33 (nI mi')) 0 34 jy') 0 35 (pd + cc) → ∃ X' M' s' h' sp' l' gi' mi' jy' pd', fX7_askInRow_L2 n (some 7) (some (51 + 2 * q)) (nI (j + 1)) X1 = some ((), X') ∧ fX8_askAll_L22 0 n' (nI q) (nI p) (nI (j + 1)) M2 = some ((), M') ∧ frA X X' ∧ frT p M M' ∧ Th X' M' p n0 L k nu s' h' nh d t sp' F ∧ acX X' l' (nI gi') (nI mi') jy' pd' ∧ acM M' l' mi' jy' pd' ∧ gi' + mi' = m0 := fun gi' mi' jy' hx' hg' M2 hM2 => by
      have f3 : frT p M M2 := by
        rw [hM2]
        exact (((f2.t.zp0 (k := 32) (by decide) _).zp0 (k := 33) (by decide) _).zp0 (k := 34) (by decide) _).zp0 (k := 35) (by decide) _
      have hT2 : Th X1 M2 p n0 L k nu s' h' nh d t sp' F := by
        rw [hM2]
        exact (((hT1.m0 (j := 32) (by decide) _).m0 (j := 33) (by decide) _).m0 (j := 34) (by decide) _).m0 (j := 35) (by decide) _
      have hm2 : acM M2 g mi' jy' (pd + cc) := by
        rw [hM2]
        refine ⟨?_, ?_, ?_, ?_⟩ <;> simp [zp_h]
      have hS2 : Sht X1 M2 q m0 := hS0.fr (fun o k ho => f1.at (by omega) (by omega) (Or.inr ho)) (fun o k ho => f3.at (Or.inl (by omega)) (Or.inl (by omega)))
      obtain ⟨X', M', s'', h'', sp'', l', g'', m'', j'', p'', a1, a2, a3, a4, a5⟩ := ask_loop m (j + 1) n n' X1 M2 s' h' sp' g gi' mi' jy' (pd + cc) (by omega) (by omega) (by omega) hT2 hx' hm2 hg' hS2 (fun i hi => by rw [f3.at (Or.inl (by decide)) (Or.inl (by decide))]; exact hc i hi)
      exact ⟨X', M', s'', h'', sp'', l', g'', m'', j'', p'', a1, a2, f1.tr a3, f3.tr a4, a5⟩
    obtain ⟨u1, u2, u3, u4⟩ := hm
    rcases hac with ⟨g1, g2, hx'⟩ | ⟨g1, hx'⟩
    · rw [nI_1] at hx'
      obtain ⟨X', M', s'', h'', sp'', l', g'', m'', j'', p'', a1, a2, a3⟩ := go gi (mi + 1) jy hx' (by omega) _ rfl
      refine ⟨X', M', s'', h'', sp'', l', g'', m'', j'', p'', ?_, ?_, a3⟩
      · simp only [fX7_askInRow_L2, obs, zok_sheet hX.1 h1, h3, if_neg c, ea, zokX_7 hX.1, e1, nI_1]
        exact a1
      · have w : jy + gl = jy := by rw [g2]; simp
        simp only [fX8_askAll_L22, fX8_askAll_j70, zokM_0, zokM_1, zokM_2, zokM_3, zokM_4, zokM_5, zokM_6, zokM_7, zokM_8, zokM_9, zokM_10, zokM_11, zokM_12, zokM_13, zokM_14, zokM_15, zlaM_1, zlaM_2, zlaM_3, zlaM_4, zlaM_5, zlaM_6, zlaM_7, zlaM_8, zlaM_9, zlaM_10, zlaM_11, zlaM_12, zlaM_13, zlaM_14, zlaM_15, zp_1, zp_h, zp_r, zp_l, zletE, obs, spMe_0, spMe_1, spMe_2, spMe_3, spMe_4, spMe_5, spMe_6, spMe_7, spMe_8, spMe_9, spMe_10, spMe_11, spMe_12, spMe_13, spMe_14, spMe_15, hM.1, hM1n, r14, z14, h4, if_neg c, r15, idx40s, z15, s3, e2, true_and, Nat.reduceEqDiff, if_true, if_false, if_pos g1, nz 33 (by decide), nz 34 (by decide), nz 35 (by decide), m28, m29, u2, u3, u4, nI_1, w]
        exact a2
    · rw [nI_1] at hx'
      obtain ⟨X', M', s'', h'', sp'', l', g'', m'', j'', p'', a1, a2, a3⟩ := go (gi + 1) mi (jy + gl) hx' (by omega) _ rfl
      refine ⟨X', M', s'', h'', sp'', l', g'', m'', j'', p'', ?_, ?_, a3⟩
      · simp only [fX7_askInRow_L2, obs, zok_sheet hX.1 h1, h3, if_neg c, ea, zokX_7 hX.1, e1, nI_1]
        exact a1
      · have w : nI mi + 0 = nI mi := by simp
        simp only [fX8_askAll_L22, fX8_askAll_j70, zokM_0, zokM_1, zokM_2, zokM_3, zokM_4, zokM_5, zokM_6, zokM_7, zokM_8, zokM_9, zokM_10, zokM_11, zokM_12, zokM_13, zokM_14, zokM_15, zlaM_1, zlaM_2, zlaM_3, zlaM_4, zlaM_5, zlaM_6, zlaM_7, zlaM_8, zlaM_9, zlaM_10, zlaM_11, zlaM_12, zlaM_13, zlaM_14, zlaM_15, zp_1, zp_h, zp_r, zp_l, zletE, obs, spMe_0, spMe_1, spMe_2, spMe_3, spMe_4, spMe_5, spMe_6, spMe_7, spMe_8, spMe_9, spMe_10, spMe_11, spMe_12, spMe_13, spMe_14, spMe_15, hM.1, hM1n, r14, z14, h4, if_neg c, r15, idx40s, z15, s3, e2, true_and, Nat.reduceEqDiff, if_true, if_false, if_neg g1, nz 33 (by decide), nz 34 (by decide), nz 35 (by decide), m28, m29, u2, u3, u4, nI_1, w]
        exact a2
/-- a sheet, seen from both sides: missing, or there -/
theorem sht_of {X M : zS} (h : InvS X M) {q : Nat} (hq : q < 4) : (X.2.1 (51 + 2 * q) 1 = -1 ∧ M.2.1 12 q = 0) ∨ (¬ X.2.1 (51 + 2 * q) 1 = -1 ∧ M.2.1 12 q = 1 ∧ ∃ m, Sht X M q m) := by
  obtain ⟨s1, s2⟩ := h q hq
  rcases s2 with ⟨q1, q2, q3⟩ | ⟨⟨t, ht, q1⟩, q2, n, hn40, q3, q4, q5⟩
  · exact Or.inl ⟨q1, q2⟩
  · refine Or.inr ⟨fun e => ?_, q2, n, hq, hn40, q3, q4, q5⟩
    rw [q1] at e
    rcases (show t = 0 ∨ t = 1 ∨ t = 2 by omega) with rfl | rfl | rfl <;> exact absurd e (by decide)
/-- the thought as it begins -/
theorem th_of {X1 M : zS} {p n : Nat} {L : Nat → Nat} {k nu s h nh d t sp : Nat} {F : Nat → (Nat → Int32) → Int32} (hV : Vok L k nu s h nh d) (hX1 : shX X1) (hP : PcX X1 L k nu s h nh d t F) (h77 : X1.2.1 7 7 = nI sp) (hM : shM M) (hQ : PcM M p n L k nu s h nh d) (hR : RlM M t F) (hq : M.2.1 6 (4 * p + 3) = nI sp) (hsp : sp ≤ 9999) : Th X1 M p n L k nu s h nh d t sp F := ⟨hV, hX1, hP, h77, hM, hQ, hR, hq, hsp⟩
/-- a ROW: why it is refused, or what it brings, on both sides -/
theorem row_both {X1 M : zS} {p n0 q : Nat} {L : Nat → Nat} {k nu s h nh d t sp : Nat} {F : Nat → (Nat → Int32) → Int32} (hT : Th X1 M p n0 L k nu s h nh d t sp F) (hac : acX X1 (-1) 0 0 0 0) (hS : InvS X1 M) (hq : q < 4) : (∃ r, ¬ r = 0 ∧ fX7_rowRefusal (some (51 + 2 * q)) X1 = some (r, X1) ∧ fX8_rowBad 0 (nI q) M = some (r, M)) ∨ (fX7_rowRefusal (some (51 + 2 * q)) X1 = some (0, X1) ∧ fX8_rowBad 0 (nI q) M = some (0, M) ∧ ∃ m0, m0 ≤ 40 ∧ M.2.1 14 q = nI m0 ∧ ∀ M1, Th X1 M1 p n0 L k nu s h nh d t sp F → (∀ o i, 10 ≤ o → M1.2.1 o i = M.2.1 o i) → ∃ X' M' s' h' sp' l gi mi jy pd, fX7_askInRow (some 7) (some (51 + 2 * q)) X1 = some ((), X') ∧ fX8_askAll 0 (nI q) (nI p) M1 = some ((), M') ∧ frA X1 X' ∧ frT p M1 M' ∧ Th X' M' p n0 L k nu s' h' nh d t sp' F ∧ acX X' l (nI gi) (nI mi) jy pd ∧ acM M' l mi jy pd ∧ gi + mi = m0) := by
  have hX := hT.2.1
  have hM := hT.2.2.2.2.1
  have r42 : M.2.2.2 0 42 = some 12 := hM.r (by decide) (by decide)
  have z12 : zix spM 12 (nI q) = some q := zix_of rfl hq (by decide)
  rcases sht_of hS hq with ⟨b1, b2⟩ | ⟨b1, b2, m0, hSh⟩
  · refine Or.inl ⟨-1011, by decide, ?_, ?_⟩
    · simp only [fX7_rowRefusal, obs, zok_sheet hX.1 hq, x_miss hX hq, if_pos b1, if_neg n10]
    · simp only [fX8_rowBad, zokM_0, zokM_1, zokM_2, zokM_3, zokM_4, zokM_5, zokM_6, zokM_7, zokM_8, zokM_9, zokM_10, zokM_11, zokM_12, zokM_13, zokM_14, zokM_15, zlaM_1, zlaM_2, zlaM_3, zlaM_4, zlaM_5, zlaM_6, zlaM_7, zlaM_8, zlaM_9, zlaM_10, zlaM_11, zlaM_12, zlaM_13, zlaM_14, zlaM_15, zp_1, zp_h, zp_r, zp_l, zletE, obs, spMe_0, spMe_1, spMe_2, spMe_3, spMe_4, spMe_5, spMe_6, spMe_7, spMe_8, spMe_9, spMe_10, spMe_11, spMe_12, spMe_13, spMe_14, spMe_15, hM.1, r42, z12, b2, if_true]
  · have b2' : ¬ M.2.1 12 q = 0 := by rw [b2]; decide
    have hm40 := hSh.2.1
    have ex := x_refuse hX hSh m0 0 zF (by omega) (by show m0 < 5000; omega)
    have em := m_refuse hM hSh m0 0 zF (by omega) (by show m0 < 5000; omega)
    have ex' : fX7_rowRefusal (some (51 + 2 * q)) X1 = some (rbF (fun j => M.2.1 15 (40 * q + j)) m0 0, X1) := by
      simp only [fX7_rowRefusal, obs, zok_sheet hX.1 hq, x_miss hX hq, if_neg b1, if_true]
      exact ex
    have em' : fX8_rowBad 0 (nI q) M = some (rbF (fun j => M.2.1 15 (40 * q + j)) m0 0, M) := by
      simp only [fX8_rowBad, zokM_0, zokM_1, zokM_2, zokM_3, zokM_4, zokM_5, zokM_6, zokM_7, zokM_8, zokM_9, zokM_10, zokM_11, zokM_12, zokM_13, zokM_14, zokM_15, zlaM_1, zlaM_2, zlaM_3, zlaM_4, zlaM_5, zlaM_6, zlaM_7, zlaM_8, zlaM_9, zlaM_10, zlaM_11, zlaM_12, zlaM_13, zlaM_14, zlaM_15, zp_1, zp_h, zp_r, zp_l, zletE, obs, spMe_0, spMe_1, spMe_2, spMe_3, spMe_4, spMe_5, spMe_6, spMe_7, spMe_8, spMe_9, spMe_10, spMe_11, spMe_12, spMe_13, spMe_14, spMe_15, hM.1, r42, z12, if_neg b2']
      exact em
    by_cases c : rbF (fun j => M.2.1 15 (40 * q + j)) m0 0 = 0
    · refine Or.inr ⟨by rw [ex', c], by rw [em', c], m0, hm40, hSh.2.2.2.1, fun M1 hT1 hM1 => ?_⟩
      have hcl := rbF_0 m0 0 c
      let M2 := zp (zp (zp (zp M1 0 32 (-1)) 0 33 0) 0 34 0) 0 35 0
      have hM1n := hT1.2.2.2.2.1.1
      have hT2 : Th X1 M2 p n0 L k nu s h nh d t sp F := (((hT1.m0 (j := 32) (by decide) _).m0 (j := 33) (by decide) _).m0 (j := 34) (by decide) _).m0 (j := 35) (by decide) _
      have q0 : ∀ o i, 10 ≤ o → M2.2.1 o i = M.2.1 o i := fun o i ho => by
        show (zp (zp (zp (zp M1 0 32 (-1)) 0 33 0) 0 34 0) 0 35 0).2.1 o i = _
        rw [zp_h, if_neg (by omega), zp_h, if_neg (by omega), zp_h, if_neg (by omega), zp_h, if_neg (by omega)]
        exact hM1 o i ho
      obtain ⟨X', M', s', h', sp', l, gi, mi, jy, pd, a1, a2, a3, a4, a5⟩ := ask_loop (q := q) (m0 := m0) m0 0 zF zF X1 M2 s h sp (-1) 0 0 0 0 (by omega) (by show m0 < 5000; omega) (by show m0 < 5000; omega) hT2 hac ⟨by simp [M2, zp_h], by simp [M2, zp_h, nI_0], by simp [M2, zp_h], by simp [M2, zp_h]⟩ rfl (hSh.fr (fun _ _ _ => rfl) q0) (fun i hi => by rw [q0 _ _ (by decide)]; exact hcl i (by omega) (by omega))
      refine ⟨X', M', s', h', sp', l, gi, mi, jy, pd, a1, ?_, a3, ?_, a5⟩
      · simp only [fX8_askAll, zokM_0, zokM_1, zokM_2, zokM_3, zokM_4, zokM_5, zokM_6, zokM_7, zokM_8, zokM_9, zokM_10, zokM_11, zokM_12, zokM_13, zokM_14, zokM_15, zlaM_1, zlaM_2, zlaM_3, zlaM_4, zlaM_5, zlaM_6, zlaM_7, zlaM_8, zlaM_9, zlaM_10, zlaM_11, zlaM_12, zlaM_13, zlaM_14, zlaM_15, zp_1, zp_h, zp_r, zp_l, zletE, obs, spMe_0, spMe_1, spMe_2, spMe_3, spMe_4, spMe_5, spMe_6, spMe_7, spMe_8, spMe_9, spMe_10, spMe_11, spMe_12, spMe_13, spMe_14, spMe_15, hM1n]
        exact a2
      · exact ((((frT.rf p M1).zp0 (k := 32) (by decide) _).zp0 (k := 33) (by decide) _).zp0 (k := 34) (by decide) _).zp0 (k := 35) (by decide) _ |>.tr a4
    · exact Or.inl ⟨_, c, ex', em'⟩
theorem ss51 (q : Nat) : ¬ (some (51 + 2 * q) = (none : Option Nat)) := fun e => by cases e
theorem ss22 (p : Nat) : ¬ (some (22 + p) = (none : Option Nat)) := fun e => by cases e
theorem t_rows (a b : Int32) : TM2 Inv (fun st => fX7_rows 0 a b st) (fun st => fX8_rows 0 a b st) := by
  intro X M h
  obtain ⟨n, hn5, hnX, hnM⟩ := many_of h.2.2.1
  have hX := h.1.1
  have hM := h.1.2
  rcases one_cases n (by omega) b with hb | ⟨p, hp, rfl⟩
  · refine ⟨-1000, X, M, ?_, ?_, h⟩
    · rcases one_cases 4 (by decide) a with ha | ⟨q, hq, rfl⟩
      · simp only [fX7_rows, zokX_0, zokX_1, zokX_2, zokX_3, zokX_4, zokX_5, zokX_6, zokX_7, zokX_8, zokX_9, zokX_10, zokX_11, zokX_12, zokX_13, zokX_14, zokX_15, zokX_16, zlaX_1, zlaX_2, zlaX_3, zlaX_4, zlaX_5, zlaX_6, zlaX_8, zlaX_11, zlaX_12, zlaX_13, zlaX_15, zlaX_16, zp_1, zp_h, zp_r, zp_l, zletE, obs, spXe_0, spXe_1, spXe_2, spXe_3, spXe_4, spXe_5, spXe_6, spXe_7, spXe_8, spXe_9, spXe_10, spXe_11, spXe_12, spXe_13, spXe_14, spXe_15, spXe_16, hX.1, x_visit0 hX hnX hb, x_seat0 hX hnX hb, x_sheet0 hX ha, if_true]
      · simp only [fX7_rows, zokX_0, zokX_1, zokX_2, zokX_3, zokX_4, zokX_5, zokX_6, zokX_7, zokX_8, zokX_9, zokX_10, zokX_11, zokX_12, zokX_13, zokX_14, zokX_15, zokX_16, zlaX_1, zlaX_2, zlaX_3, zlaX_4, zlaX_5, zlaX_6, zlaX_8, zlaX_11, zlaX_12, zlaX_13, zlaX_15, zlaX_16, zp_1, zp_h, zp_r, zp_l, zletE, obs, spXe_0, spXe_1, spXe_2, spXe_3, spXe_4, spXe_5, spXe_6, spXe_7, spXe_8, spXe_9, spXe_10, spXe_11, spXe_12, spXe_13, spXe_14, spXe_15, spXe_16, hX.1, x_visit0 hX hnX hb, x_seat0 hX hnX hb, x_sheet1 hX hq, if_neg (ss51 q), if_true]
    · rcases one_cases 4 (by decide) a with ha | ⟨q, hq, rfl⟩
      · simp only [fX8_rows, obs, m_sheet0 M ha, if_true]
      · simp only [fX8_rows, zokM_0, zokM_1, zokM_2, zokM_3, zokM_4, zokM_5, zokM_6, zokM_7, zokM_8, zokM_9, zokM_10, zokM_11, zokM_12, zokM_13, zokM_14, zokM_15, zlaM_1, zlaM_2, zlaM_3, zlaM_4, zlaM_5, zlaM_6, zlaM_7, zlaM_8, zlaM_9, zlaM_10, zlaM_11, zlaM_12, zlaM_13, zlaM_14, zlaM_15, zp_1, zp_h, zp_r, zp_l, zletE, obs, spMe_0, spMe_1, spMe_2, spMe_3, spMe_4, spMe_5, spMe_6, spMe_7, spMe_8, spMe_9, spMe_10, spMe_11, spMe_12, spMe_13, spMe_14, spMe_15, hM.1, m_sheet1 M hq, if_neg n10, m_one0 hM hnM hn5 hb, if_true]
  · obtain ⟨k, nu, s, hd, nh, d, t, sp, F, hV, hd9, hsp, hPM, hRM, hq', X1, e1, f1, hPX, h77, hac⟩ := view_of h hn5 hnX hnM hp
    have hX1 := f1.sh hX
    have hX1n := hX1.1
    have one := m_one1 hM hnM hn5 hp
    have hnX1 : X1.2.1 0 10 = nI n := (f1.at (by decide) (by decide) (Or.inl (by decide))).trans hnX
    have seat := x_seat1 hX1 hnX1 hn5 hp
    rcases one_cases 4 (by decide) a with ha | ⟨q, hq, rfl⟩
    · exact ⟨-1000, X1, M, by simp only [fX7_rows, zokX_0, zokX_1, zokX_2, zokX_3, zokX_4, zokX_5, zokX_6, zokX_7, zokX_8, zokX_9, zokX_10, zokX_11, zokX_12, zokX_13, zokX_14, zokX_15, zokX_16, zlaX_1, zlaX_2, zlaX_3, zlaX_4, zlaX_5, zlaX_6, zlaX_8, zlaX_11, zlaX_12, zlaX_13, zlaX_15, zlaX_16, zp_1, zp_h, zp_r, zp_l, zletE, obs, spXe_0, spXe_1, spXe_2, spXe_3, spXe_4, spXe_5, spXe_6, spXe_7, spXe_8, spXe_9, spXe_10, spXe_11, spXe_12, spXe_13, spXe_14, spXe_15, spXe_16, hX.1, hX1n, e1, seat, x_sheet0 hX1 ha, if_true], by simp only [fX8_rows, obs, m_sheet0 M ha, if_true], h.keep f1 (frN.rf M)⟩
    · have hI1 := h.keep f1 (frN.rf M)
      have hT := th_of hV hX1 hPX h77 hM hPM hRM hq' hsp
      rcases row_both hT hac hI1.2.2.2.2.2.2.1 hq with ⟨r, hr, ex, em⟩ | ⟨ex, em, m0, hm40, h14, go⟩
      · exact ⟨r, X1, M, by simp only [fX7_rows, zokX_0, zokX_1, zokX_2, zokX_3, zokX_4, zokX_5, zokX_6, zokX_7, zokX_8, zokX_9, zokX_10, zokX_11, zokX_12, zokX_13, zokX_14, zokX_15, zokX_16, zlaX_1, zlaX_2, zlaX_3, zlaX_4, zlaX_5, zlaX_6, zlaX_8, zlaX_11, zlaX_12, zlaX_13, zlaX_15, zlaX_16, zp_1, zp_h, zp_r, zp_l, zletE, obs, spXe_0, spXe_1, spXe_2, spXe_3, spXe_4, spXe_5, spXe_6, spXe_7, spXe_8, spXe_9, spXe_10, spXe_11, spXe_12, spXe_13, spXe_14, spXe_15, spXe_16, hX.1, hX1n, e1, seat, x_sheet1 hX1 hq, if_neg (ss51 q), if_neg s7, if_neg (ss22 p), ex, if_neg hr], by simp only [fX8_rows, zokM_0, zokM_1, zokM_2, zokM_3, zokM_4, zokM_5, zokM_6, zokM_7, zokM_8, zokM_9, zokM_10, zokM_11, zokM_12, zokM_13, zokM_14, zokM_15, zlaM_1, zlaM_2, zlaM_3, zlaM_4, zlaM_5, zlaM_6, zlaM_7, zlaM_8, zlaM_9, zlaM_10, zlaM_11, zlaM_12, zlaM_13, zlaM_14, zlaM_15, zp_1, zp_h, zp_r, zp_l, zletE, obs, spMe_0, spMe_1, spMe_2, spMe_3, spMe_4, spMe_5, spMe_6, spMe_7, spMe_8, spMe_9, spMe_10, spMe_11, spMe_12, spMe_13, spMe_14, spMe_15, hM.1, m_sheet1 M hq, if_neg n10, one, em, if_neg hr], hI1⟩
      · obtain ⟨X', M', s', h', sp', l, gi, mi, jy, pd, a1, a2, a3, a4, hT', hx', hm', hg'⟩ := go M hT (fun _ _ _ => rfl)
        have hX'n := hT'.2.1.1
        have hM'n := hT'.2.2.2.2.1.1
        have r14 : M'.2.2.2 0 44 = some 14 := hT'.2.2.2.2.1.r (by decide) (by decide)
        have z14 : zix spM 14 (nI q) = some q := zix_of rfl hq (by decide)
        have h14' : M'.2.1 14 q = nI m0 := (a4.at (Or.inl (by decide)) (Or.inl (by decide))).trans h14
        have sub : nI m0 - nI mi = nI gi := by rw [pk_sub (by omega), show m0 - mi = gi by omega]
        have hlv : (lvX X' p).2.1 7 11 = nI gi := by
          unfold lvX
          rw [zp_h, if_neg (by omega), zp_h, if_neg (by omega), zp_h, if_neg (by omega)]
          exact hx'.2.1
        obtain ⟨hV', -, hP', x7', -, hQ', -, m3', hsp'⟩ := hT'
        exact ⟨nI gi, lvX X' p, M', by simp only [fX7_rows, zokX_0, zokX_1, zokX_2, zokX_3, zokX_4, zokX_5, zokX_6, zokX_7, zokX_8, zokX_9, zokX_10, zokX_11, zokX_12, zokX_13, zokX_14, zokX_15, zokX_16, zlaX_1, zlaX_2, zlaX_3, zlaX_4, zlaX_5, zlaX_6, zlaX_8, zlaX_11, zlaX_12, zlaX_13, zlaX_15, zlaX_16, zp_1, zp_h, zp_r, zp_l, zletE, obs, spXe_0, spXe_1, spXe_2, spXe_3, spXe_4, spXe_5, spXe_6, spXe_7, spXe_8, spXe_9, spXe_10, spXe_11, spXe_12, spXe_13, spXe_14, spXe_15, spXe_16, hX.1, hX1n, hX'n, e1, seat, x_sheet1 hX1 hq, if_neg (ss51 q), if_neg s7, if_neg (ss22 p), ex, if_true, a1, x_leaveTo hX'n (show p < 5 by omega), zokX_7 (show (lvX X' p).1 = 59 from hX'n), hlv], by simp only [fX8_rows, zokM_0, zokM_1, zokM_2, zokM_3, zokM_4, zokM_5, zokM_6, zokM_7, zokM_8, zokM_9, zokM_10, zokM_11, zokM_12, zokM_13, zokM_14, zokM_15, zlaM_1, zlaM_2, zlaM_3, zlaM_4, zlaM_5, zlaM_6, zlaM_7, zlaM_8, zlaM_9, zlaM_10, zlaM_11, zlaM_12, zlaM_13, zlaM_14, zlaM_15, zp_1, zp_h, zp_r, zp_l, zletE, obs, spMe_0, spMe_1, spMe_2, spMe_3, spMe_4, spMe_5, spMe_6, spMe_7, spMe_8, spMe_9, spMe_10, spMe_11, spMe_12, spMe_13, spMe_14, spMe_15, hM.1, hM'n, m_sheet1 M hq, if_neg n10, one, em, if_true, a2, r14, z14, h14', hm'.2.1, sub], hI1.left0 (show p < 5 by omega) a3.c (fun i hi => a4.at (Or.inl (by decide)) (Or.inr (by omega))) a4.s hV'.2.2.2.1 hV'.2.2.2.2.1 hsp' hP'.2.2.2.1 hP'.2.2.2.2.1 x7' hQ'.2.2.2.2.2.2.1 hQ'.2.2.2.2.2.2.2.1 m3'⟩
