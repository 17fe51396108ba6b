/-! a TEXT: three PARTS and the end -/
def ptP (T : Nat → Int32) (E : Nat → PR) (key : Int32) (i : Nat) : PR := if T i = key then (match E (i + 1) with
    | .inl e => .inl e
    | .inr (i', cs, v) => if T i' = 59 then .inr (i' + 1, cs, v) else .inl i') else .inl i
abbrev Val : Type := (Nat → Int32) → Int32
def rd3 (T : Nat → Int32) (E : Nat → PR) : Nat ⊕ ((List Int32 × (List Int32 × List Int32)) × (Val × (Val × Val))) := match ptP T E 4 0 with
  | .inl e => .inl e
  | .inr (i1, c1, v1) => match ptP T E 5 i1 with
    | .inl e => .inl e
    | .inr (i2, c2, v2) => match ptP T E 6 i2 with
      | .inl e => .inl e
      | .inr (i3, c3, v3) => if T i3 = 8 then .inr ((c1, c2, c3), (v1, v2, v3)) else .inl i3
theorem OkF.pt {B : Nat → Int32} {n h : Nat} {E : Nat → PR} (hE : OkF B n h E) {key : Int32} (h8 : ¬ key = 8) (h9 : ¬ key = 9) : OkF B n h (ptP (tC B n) E key) := fun i hv => by
  unfold ptP
  by_cases c : tC B n i = key
  · rw [if_pos c]
    have hr := hE (i + 1) (op_vt hv c h8 h9)
    cases hp : E (i + 1) with
    | inl e => rw [hp] at hr; exact hr
    | inr r =>
      obtain ⟨i', cs, v⟩ := r
      rw [hp] at hr
      obtain ⟨r1, r2, r3, r4⟩ := hr
      show OkR B n h i (if tC B n i' = 59 then _ else _)
      by_cases d : tC B n i' = 59
      · rw [if_pos d]; exact ⟨by omega, op_vt r2 d (by decide) (by decide), by omega, r4⟩
      · rw [if_neg d]; exact r2
  · rw [if_neg c]; exact hv
theorem ok_rd3 {B : Nat → Int32} {n h : Nat} {E : Nat → PR} (hE : OkF B n h E) {c1 c2 c3 : List Int32} {v1 v2 v3 : Val} (e : rd3 (tC B n) E = .inr ((c1, c2, c3), (v1, v2, v3))) : (Says h c1 v1 ∧ Says h c2 v2 ∧ Says h c3 v3) ∧ c1.length + c2.length + c3.length ≤ n := by
  unfold rd3 at e
  have k1 := hE.pt (key := 4) (by decide) (by decide) 0 (vt_0 B n)
  cases p1 : ptP (tC B n) E 4 0 with
  | inl q => rw [p1] at e; cases e
  | inr r =>
    obtain ⟨i1, d1, w1⟩ := r
    rw [p1] at e k1
    obtain ⟨a1, a2, a3, a4⟩ := k1
    have k2 := hE.pt (key := 5) (by decide) (by decide) i1 a2
    cases p2 : ptP (tC B n) E 5 i1 with
    | inl q => simp only [p2] at e; cases e
    | inr r =>
      obtain ⟨i2, d2, w2⟩ := r
      simp only [p2] at e
      rw [p2] at k2
      obtain ⟨b1, b2, b3, b4⟩ := k2
      have k3 := hE.pt (key := 6) (by decide) (by decide) i2 b2
      cases p3 : ptP (tC B n) E 6 i2 with
      | inl q => simp only [p3] at e; cases e
      | inr r =>
        obtain ⟨i3, d3, w3⟩ := r
        simp only [p3] at e
        rw [p3] at k3
        obtain ⟨g1, g2, g3, g4⟩ := k3
        by_cases c8 : tC B n i3 = 8
        · rw [if_pos c8] at e
          injection e with e
          injection e with e1 e2
          injection e1 with e1 e3
          injection e3 with e3 e4
          injection e2 with e2 e5
          injection e5 with e5 e6
          subst e1; subst e3; subst e4; subst e2; subst e5; subst e6
          have := vt_le g2
          exact ⟨⟨a4, b4, g4⟩, by omega⟩
        · rw [if_neg c8] at e; cases e
theorem m_part {B : Nat → Int32} {n b : Nat} {E : Nat → PR} (hE : PsM B n b 0 (fX8_either0 0) E) (key : Int32) (h8 : ¬ key = 8) (h9 : ¬ key = 9) : ∀ i M, vt B n i → AtM B n b 0 i M → RdM B n b 0 M (fX8_part 0 (if tC B n i = key then 1 else 0) M) (ptP (tC B n) E key i) := fun i M hv hA => by
  have hM := hA.1.1
  have h26 := hA.2.2.1
  unfold ptP
  by_cases c : tC B n i = key
  · rw [if_pos c, if_pos c]
    obtain ⟨M1, y1, y2, y3⟩ := m_nxt hA c h8 h9
    have hM1 := y2.1.1
    have hr := hE (i + 1) M1 (op_vt hv c h8 h9) y2
    cases hp : E (i + 1) with
    | inl e =>
      rw [hp] at hr
      obtain ⟨w, M2, b1, b2, b3, b4⟩ := hr
      have hM2 : shM M2 := b2.sh hM1
      refine ⟨w, M2, ?_, y3.tr b2, b3, b4⟩
      simp only [fX8_part, fX8_part_j8, fX8_part_j19, fX8_part_j34, fX8_part_j48, zokM_0, zokM_8, zletE, obs, hM.1, if_neg n10, h26, if_true, y1, hM1.1, y2.2.2.1, b1, hM2.1, m_sign1 hM2 b3, m_fail1 hM2 b3, b3]
    | inr r =>
      obtain ⟨i', cs, v⟩ := r
      rw [hp] at hr
      obtain ⟨M2, b1, b2, b3⟩ := hr
      have hM2 := b2.1.1
      rw [y3.env] at b1
      show RdM B n b 0 M _ (if tC B n i' = 59 then _ else _)
      by_cases d : tC B n i' = 59
      · rw [if_pos d]
        obtain ⟨M3, g1, g2, g3⟩ := m_nxt b2 d (by decide) (by decide)
        refine ⟨M3, ?_, g2, (y3.tr b3).tr g3⟩
        simp only [fX8_part, fX8_part_j8, fX8_part_j19, fX8_part_j34, fX8_part_j48, zokM_0, zokM_8, zletE, obs, hM.1, if_neg n10, h26, if_true, y1, hM1.1, y2.2.2.1, b1, hM2.1, m_sign b2 (c := 59) (by decide), if_pos d, b2.2.2.1, g1]
      · rw [if_neg d]
        have zf := b2.fl
        have hMf : shM (flM M2) := zf.1.sh hM2
        refine ⟨v (envM M), flM M2, ?_, (y3.tr b3).tr zf.1, zf.2.1, zf.2.2⟩
        simp only [fX8_part, fX8_part_j8, fX8_part_j19, fX8_part_j34, fX8_part_j48, zokM_0, zokM_8, zletE, obs, hM.1, if_neg n10, h26, if_true, y1, hM1.1, y2.2.2.1, b1, hM2.1, m_sign b2 (c := 59) (by decide), if_neg d, m_fail hM2 b2.2.2.1, hMf.1, zf.2.1]
  · rw [if_neg c, if_neg c]
    have zf := hA.fl
    have hMf : shM (flM M) := zf.1.sh hM
    refine ⟨0, flM M, ?_, zf.1, zf.2.1, zf.2.2⟩
    simp only [fX8_part, fX8_part_j8, fX8_part_j19, fX8_part_j34, fX8_part_j48, zokM_0, zokM_8, zletE, obs, hM.1, if_true, m_fail hM h26, hMf.1, zf.2.1, if_neg n10, m_sign1 hMf zf.2.1, m_fail1 hMf zf.2.1]
theorem nI_mul (a b : Nat) : nI a * nI b = nI (a * b) := (Int32.ofNat_mul a b).symm
def w3 (w : Nat) (a b c : Val) : Val := if w = 0 then a else if w = 1 then b else c
theorem j146_of {w : Nat} (hw : w < 3) (a b c : Int32) (M : zS) : fX8_read_j146 0 (nI w) a b c M = some (if w = 0 then a else if w = 1 then b else c, M) := by
  rcases (show w = 0 ∨ w = 1 ∨ w = 2 by omega) with rfl | rfl | rfl
  · simp only [fX8_read_j146, nI_0, if_true]
  · simp only [fX8_read_j146, show nI 1 = (1 : Int32) by decide, if_neg n10, if_true, if_neg (show ¬ 1 = 0 by decide)]
  · simp only [fX8_read_j146, if_neg (show ¬ nI 2 = (0 : Int32) by decide), if_neg (show ¬ nI 2 = (1 : Int32) by decide), if_neg (show ¬ 2 = 0 by decide), if_neg (show ¬ 2 = 1 by decide)]
def vlT (B : Nat → Int32) (n : Nat) : Nat → Int32 := fun i => nI (tkV B n (psT B n i))
theorem m_read {B : Nat → Int32} {n t : Nat} {M : zS} (hM : shM M) (ht : t < 6) (hn : n ≤ 160) (h8 : By8 B n) (hb : ∀ j, j < n → M.2.1 1 (160 * t + j) = B j) (hs : M.2.1 2 t = nI n) (hV : ∀ i, ¬ nI (tkV B n (psT B n i)) < 0) {w : Nat} (hw : w < 3) : match rd3 (tC B n) (rdP (tC B n) (vlT B n) 5).1 with
    | .inl e => ∃ v M', fX8_read 0 (nI t) (nI w) M = some (v, M') ∧ scrM M M' ∧ M'.2.1 0 26 = 1 ∧ M'.2.1 0 27 = nI (tkS B n (psT B n e))
    | .inr (_, (v1, v2, v3)) => ∃ M', fX8_read 0 (nI t) (nI w) M = some (w3 w v1 v2 v3 (envM M), M') ∧ scrM M M' ∧ M'.2.1 0 26 = 0 := by
  have hE : PsM B n (160 * t) 0 (fX8_either0 0) (rdP (tC B n) (vlT B n) 5).1 := (lv_m0 hV).1
  have hO := (ok_rd (B := B) (n := n) (V := vlT B n) hV 5).1
  have e160 : (160 : Int32) * nI t = nI (160 * t) := nI_mul 160 t
  have hz : zix spM 2 (nI t) = some t := zix_of rfl (by show t < 6; exact ht) (by decide)
  have r2 : M.2.2.2 0 2 = some 2 := hM.r (by decide) (by decide)
  let M6 := zp (zp (zp (zp (zp M 0 19 (nI (160 * t))) 0 20 (nI n)) 0 21 0) 0 25 0) 0 26 0
  have s6 : scrM M M6 := (((((scrM.rf M).zp (k := 19) (by decide) _).zp (k := 20) (by decide) _).zp (k := 21) (by decide) _).zp (k := 25) (by decide) _).zp (k := 26) (by decide) _
  have hM6 : shM M6 := s6.sh hM
  have hB6 : ByM B n (160 * t) M6 := ⟨hM6, by simp [M6, zp_h], by simp [M6, zp_h], hn, by omega, fun j hj => (s6.at (Or.inl (by decide))).trans (hb j hj)⟩
  obtain ⟨M7, y1, y2, y3⟩ := m_next (p := 0) hB6 h8 (by simp [M6, zp_h]; rfl) (Nat.zero_le _)
  have hA : AtM B n (160 * t) 0 0 M7 := ⟨hB6.fr y2, h8, (y2.at (Or.inr (Or.inr (by decide)))).trans (by simp [M6, zp_h]), (y2.at (Or.inr (Or.inr (by decide)))).trans (by simp [M6, zp_h]; rfl), y3, Nat.zero_le _⟩
  have s7 : scrM M M7 := s6.tr y2.sc
  have hM7 := hA.1.1
  have v0 := vt_0 B n
  have isW : ∀ {i : Nat} {M : zS}, AtM B n (160 * t) 0 i M → fX8_isWord 0 103 105 118 101 115 0 0 0 M = some (if tC B n i = 4 then 1 else 0, M) ∧ fX8_isWord 0 103 108 97 100 115 0 0 0 M = some (if tC B n i = 5 then 1 else 0, M) ∧ fX8_isWord 0 99 111 115 116 115 0 0 0 M = some (if tC B n i = 6 then 1 else 0, M) := fun h => ⟨m_isW h (j := 6) (by decide) rfl, m_isW h (j := 7) (by decide) rfl, m_isW h (j := 8) (by decide) rfl⟩
  have hst : fX8_read 0 (nI t) (nI w) M = (fX8_part 0 (if tC B n 0 = 4 then 1 else 0) M7).bind fun q25 => (zok spM q25.2 (some 0) 8).bind fun o27 => if (q25.2.2.1 o27 26) = 0 then ((zok spM q25.2 (some 0) 8).bind fun o31 => (fX8_isWord o31 (103 : Int32) (108 : Int32) (97 : Int32) (100 : Int32) (115 : Int32) (0 : Int32) (0 : Int32) (0 : Int32) q25.2).bind fun q28 => (zok spM q28.2 (some 0) 8).bind fun o30 => (fX8_part o30 q28.1 q28.2).bind fun q29 => fX8_read_j92 0 (nI w) q25.1 q29.1 q29.2) else (fX8_read_j92 0 (nI w) q25.1 (0 : Int32) q25.2) := by
    simp only [fX8_read, zokM_0, zokM_1, zokM_2, zokM_3, zokM_4, zokM_5, zokM_6, zokM_7, zokM_8, zokM_9, zokM_10, zokM_11, zokM_12, zokM_13, zokM_14, zokM_15, zlaM_1, zlaM_2, zlaM_3, zlaM_4, zlaM_5, zlaM_6, zlaM_7, zlaM_8, zlaM_9, zlaM_10, zlaM_11, zlaM_12, zlaM_13, zlaM_14, zlaM_15, zp_1, zp_h, zp_r, zp_l, zletE, obs, spMe_0, spMe_1, spMe_2, spMe_3, spMe_4, spMe_5, spMe_6, spMe_7, spMe_8, spMe_9, spMe_10, spMe_11, spMe_12, spMe_13, spMe_14, spMe_15, hM.1, e160, r2, hz, if_neg (show ¬ (2 = 0 ∧ t = 19) by omega), hs]
    have y1' : fX8_next 0 (zp (zp (zp (zp (zp M 0 19 (nI (160 * t))) 0 20 (nI n)) 0 21 0) 0 25 0) 0 26 0) = some ((), M7) := y1
    simp only [y1', obs, zokM_0, hM7.1, (isW hA).1]
  rw [hst]
  unfold rd3
  have q1 := m_part hE 4 (by decide) (by decide) 0 M7 v0 hA
  have k1 := hO.pt (key := 4) (by decide) (by decide) 0 v0
  have nb : ¬ (1 : Int32) = 0 := n10
  cases p1 : ptP (tC B n) (rdP (tC B n) (vlT B n) 5).1 4 0 with
  | inl e =>
    rw [p1] at q1
    obtain ⟨x1, M8, a1, a2, a3, a4⟩ := q1
    have hM8 : shM M8 := a2.sh hM7
    refine ⟨if w = 0 then x1 else if w = 1 then 0 else 0, M8, ?_, s7.tr a2, a3, a4⟩
    simp only [a1, obs, zokM_8, zokM_0, hM8.1, a3, if_neg nb, fX8_read_j92, fX8_read_j126, j146_of hw]
  | inr r =>
    obtain ⟨i1, c1, v1⟩ := r
    rw [p1] at q1 k1
    obtain ⟨M8, a1, a2, a3⟩ := q1
    obtain ⟨-, k1, -, -⟩ := k1
    have hM8 := a2.1.1
    rw [s7.env] at a1
    have q2 := m_part hE 5 (by decide) (by decide) i1 M8 k1 a2
    have k2 := hO.pt (key := 5) (by decide) (by decide) i1 k1
    simp only [a1, obs, zokM_8, zokM_0, hM8.1, a2.2.2.1, if_true, (isW a2).2.1]
    cases p2 : ptP (tC B n) (rdP (tC B n) (vlT B n) 5).1 5 i1 with
    | inl e =>
      rw [p2] at q2
      obtain ⟨x1, M9, b1, b2, b3, b4⟩ := q2
      have hM9 : shM M9 := b2.sh hM8
      refine ⟨if w = 0 then v1 (envM M) else if w = 1 then x1 else 0, M9, ?_, (s7.tr a3).tr b2, b3, b4⟩
      simp only [b1, obs, zokM_8, zokM_0, hM9.1, b3, if_neg nb, fX8_read_j92, fX8_read_j126, j146_of hw]
    | inr r =>
      obtain ⟨i2, c2, v2⟩ := r
      rw [p2] at q2 k2
      obtain ⟨M9, b1, b2, b3⟩ := q2
      obtain ⟨-, k2, -, -⟩ := k2
      have hM9 := b2.1.1
      rw [a3.env, s7.env] at b1
      have q3 := m_part hE 6 (by decide) (by decide) i2 M9 k2 b2
      have k3 := hO.pt (key := 6) (by decide) (by decide) i2 k2
      simp only [b1, obs, zokM_8, zokM_0, hM9.1, b2.2.2.1, if_true, (isW b2).2.2, fX8_read_j92]
      cases p3 : ptP (tC B n) (rdP (tC B n) (vlT B n) 5).1 6 i2 with
      | inl e =>
        rw [p3] at q3
        obtain ⟨x1, M10, g1, g2, g3, g4⟩ := q3
        have hM10 : shM M10 := g2.sh hM9
        refine ⟨if w = 0 then v1 (envM M) else if w = 1 then v2 (envM M) else x1, M10, ?_, ((s7.tr a3).tr b3).tr g2, g3, g4⟩
        simp only [g1, obs, zokM_8, zokM_0, hM10.1, g3, if_neg nb, fX8_read_j126, j146_of hw]
      | inr r =>
        obtain ⟨i3, c3, v3⟩ := r
        rw [p3] at q3 k3
        obtain ⟨M10, g1, g2, g3⟩ := q3
        have hM10 := g2.1.1
        rw [b3.env, a3.env, s7.env] at g1
        have x2 : M10.2.1 0 22 = nI (tkK B n (psT B n i3)) := g2.2.2.2.2.1.2.1
        by_cases c8 : tC B n i3 = 8
        · have hk : tkK B n (psT B n i3) = 0 := by
            have c8 : tkC B n (psT B n i3) = 8 := c8
            rcases tk_kinds B n (psT B n i3) with ⟨k, x⟩ | ⟨k, hl, x, te⟩ | ⟨k, x⟩ | ⟨k, hg, x⟩ | ⟨k, x⟩
            · exact k
            · exact absurd (x.symm.trans c8) (wdC_6 _ _ _ _).2.2.2
            · exact absurd (x.symm.trans c8) (by decide)
            · exact absurd (x.symm.trans c8) (sg_6 hg).2.2.1
            · exact absurd (x.symm.trans c8) (by decide)
          rw [hk] at x2
          simp only [if_pos c8]
          refine ⟨M10, ?_, ((s7.tr a3).tr b3).tr g3, g2.2.2.1⟩
          simp only [g1, obs, zokM_8, zokM_0, hM10.1, g2.2.2.1, if_true, x2, nI_0, fX8_read_j126, j146_of hw]
          unfold w3
          split
          · rfl
          · split <;> rfl
        · have hk : ¬ nI (tkK B n (psT B n i3)) = 0 := by
            have c8 : ¬ tkC B n (psT B n i3) = 8 := c8
            rcases tk_kinds B n (psT B n i3) with ⟨k, x⟩ | ⟨k, hl, x, te⟩ | ⟨k, x⟩ | ⟨k, hg, x⟩ | ⟨k, x⟩
            · exact absurd x c8
            · rw [k]; decide
            · rw [k]; decide
            · rw [k]; decide
            · rw [k]; decide
          simp only [if_neg c8]
          have zf := g2.fl
          refine ⟨if w = 0 then v1 (envM M) else if w = 1 then v2 (envM M) else v3 (envM M), flM M10, ?_, (((s7.tr a3).tr b3).tr g3).tr zf.1, zf.2.1, zf.2.2⟩
          simp only [g1, obs, zokM_8, zokM_0, hM10.1, g2.2.2.1, if_true, x2, if_neg hk, fX8_read_j126, m_fail hM10 g2.2.2.1, j146_of hw]
