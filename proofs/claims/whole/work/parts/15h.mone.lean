/-! the reference: NOT and ONE -/
theorem AtM.lg {B : Nat → Int32} {n b o i : Nat} {M : zS} (hA : AtM B n b o i M) {c : Int32} (hc : tC B n i = c) (hg : isSg c = true) : M.2.2.1 0 = c.toInt64 := by
  obtain ⟨-, -, -, -, ⟨x1, x2, x3, x4, x5⟩, -⟩ := hA
  obtain ⟨c6, c7, c8, c9⟩ := sg_6 hg
  have hc : tkC B n (psT B n i) = c := hc
  rcases tk_kinds B n (psT B n i) with ⟨k, t⟩ | ⟨k, hl, t, te⟩ | ⟨k, t⟩ | ⟨k, hg, t⟩ | ⟨k, t⟩
  · exact absurd (hc.symm.trans t) c8
  · have q := hc.symm.trans t
    rcases (wdC_6 B n (tkS B n (psT B n i)) (tkE B n (psT B n i))).2.1 with w | w
    · rw [← q] at w; exact absurd c6 w
    · rw [← q] at w; exact absurd w c9
  · exact absurd (hc.symm.trans t) c7
  · rw [x5 k, ← hc, t]
  · exact absurd (hc.symm.trans t) c9
theorem zp_bad {M : zS} (v : Int32) : (zp M 0 25 v).2.1 0 26 = M.2.1 0 26 ∧ (zp M 0 25 v).2.1 0 27 = M.2.1 0 27 ∧ scrM M (zp M 0 25 v) := ⟨by rw [zp_h, if_neg (by decide)], by rw [zp_h, if_neg (by decide)], (scrM.rf M).zp (by decide) v⟩
theorem nI_un (o : Nat) : nI (o + 1) - 1 = nI o := nI_pred o
/-- NOT, when the word NOT leads -/
def ntT (can : Bool) (pN : Nat → PR) (i : Nat) : PR := if can = true then (match pN (i + 1) with
    | .inl e => .inl e
    | .inr (i', cs, v) => .inr (i', cs ++ [-18], fun e => if v e = 0 then 1 else 0)) else .inl i
theorem nt_t {B : Nat → Int32} {n b o : Nat} {T : zS → Option (Int32 × zS)} {sub : Nat → zS → Option (Int32 × zS)} {pN : Nat → PR} (ho : o < 5)
    (hT : ∀ st, T st = (zok spM st (some 0) 8).bind fun o22 => (fX8_opens o22 st).bind fun q15 => if q15.1 = 0 then (some ((0 : Int32), q15.2)) else ((zok spM q15.2 (some 0) 8).bind fun o21 => (sub o21 q15.2).bind fun q16 => zlet (q16.1) fun v17 => (zok spM q16.2 (some 0) 8).bind fun o18 => (zok spM q16.2 (some 0) 8).bind fun o19 => zlet (zp q16.2 o19 25 ((q16.2.2.1 o18 25) - (1 : Int32))) fun st20 => if v17 = 0 then (some ((1 : Int32), st20)) else (some ((0 : Int32), st20))))
    (hp : PsM B n b (o + 1) (sub 0) pN) : ∀ i M, vt B n i → AtM B n b o i M → tC B n i = 3 → RdM B n b o M (T M) (ntT true pN i) := fun i M hv hA h3 => by
  have hM := hA.1.1
  obtain ⟨M1, y1, y2, y3⟩ := m_opens hA ho h3 (by decide) (by decide)
  have hr := hp (i + 1) M1 (op_vt hv h3 (by decide) (by decide)) y2
  have hM1 := y2.1.1
  unfold ntT
  rw [if_pos rfl, hT]
  cases hpi : pN (i + 1) with
  | inl e =>
    rw [hpi] at hr
    obtain ⟨w, M2, b1, b2, b3, b4⟩ := hr
    have hM2 : shM M2 := b2.sh hM1
    have z := zp_bad (M := M2) (M2.2.1 0 25 - 1)
    refine ⟨if w = 0 then 1 else 0, zp M2 0 25 (M2.2.1 0 25 - 1), ?_, (y3.tr b2).tr z.2.2, z.1.trans b3, z.2.1.trans b4⟩
    simp only [zokM_0, zokM_1, zokM_2, zokM_3, zokM_4, zokM_5, zokM_6, zokM_7, zokM_8, zokM_9, zokM_10, zokM_11, zokM_12, zokM_13, zokM_14, zokM_15, zlaM_1, zlaM_2, zlaM_3, zlaM_4, zlaM_5, zlaM_6, zlaM_7, zlaM_8, zlaM_9, zlaM_10, zlaM_11, zlaM_12, zlaM_13, zlaM_14, zlaM_15, zp_1, zp_h, zp_r, zp_l, zletE, obs, spMe_0, spMe_1, spMe_2, spMe_3, spMe_4, spMe_5, spMe_6, spMe_7, spMe_8, spMe_9, spMe_10, spMe_11, spMe_12, spMe_13, spMe_14, spMe_15, hM.1, y1, if_neg n10, hM1.1, b1, hM2.1]
    split <;> rfl
  | inr r =>
    obtain ⟨i', cs', v'⟩ := r
    rw [hpi] at hr
    obtain ⟨M2, b1, b2, b3⟩ := hr
    have hM2 := b2.1.1
    refine ⟨zp M2 0 25 (nI o), ?_, b2.op o, (y3.tr b3).tr (zp_bad _).2.2⟩
    simp only [zokM_0, zokM_1, zokM_2, zokM_3, zokM_4, zokM_5, zokM_6, zokM_7, zokM_8, zokM_9, zokM_10, zokM_11, zokM_12, zokM_13, zokM_14, zokM_15, zlaM_1, zlaM_2, zlaM_3, zlaM_4, zlaM_5, zlaM_6, zlaM_7, zlaM_8, zlaM_9, zlaM_10, zlaM_11, zlaM_12, zlaM_13, zlaM_14, zlaM_15, zp_1, zp_h, zp_r, zp_l, zletE, obs, spMe_0, spMe_1, spMe_2, spMe_3, spMe_4, spMe_5, spMe_6, spMe_7, spMe_8, spMe_9, spMe_10, spMe_11, spMe_12, spMe_13, spMe_14, spMe_15, hM.1, y1, if_neg n10, hM1.1, b1, hM2.1, b2.2.2.2.1, nI_un, y3.env]
    split <;> rfl
theorem nt_f {B : Nat → Int32} {n b : Nat} {T : zS → Option (Int32 × zS)} {pN : Nat → PR}
    (hT : ∀ st, T st = (zok spM st (some 0) 8).bind fun o16 => (fX8_opens o16 st).bind fun q15 => some ((0 : Int32), q15.2)) : ∀ i M, vt B n i → AtM B n b 5 i M → tC B n i = 3 → RdM B n b 5 M (T M) (ntT false pN i) := fun i M hv hA h3 => by
  have hM := hA.1.1
  have z := hA.fl
  refine ⟨0, flM M, ?_, z.1, z.2.1, z.2.2⟩
  rw [hT]
  simp only [zokM_0, zokM_1, zokM_2, zokM_3, zokM_4, zokM_5, zokM_6, zokM_7, zokM_8, zokM_9, zokM_10, zokM_11, zokM_12, zokM_13, zokM_14, zokM_15, zlaM_1, zlaM_2, zlaM_3, zlaM_4, zlaM_5, zlaM_6, zlaM_7, zlaM_8, zlaM_9, zlaM_10, zlaM_11, zlaM_12, zlaM_13, zlaM_14, zlaM_15, zp_1, zp_h, zp_r, zp_l, zletE, obs, spMe_0, spMe_1, spMe_2, spMe_3, spMe_4, spMe_5, spMe_6, spMe_7, spMe_8, spMe_9, spMe_10, spMe_11, spMe_12, spMe_13, spMe_14, spMe_15, hM.1, m_opens5 hA]
theorem nt_m {B : Nat → Int32} {n b o : Nat} {can : Bool} {N T : zS → Option (Int32 × zS)} {J : Int32 → zS → Option (Int32 × zS)} {K : Int32 → Int32 → zS → Option (Int32 × zS)} {sub : Nat → zS → Option (Int32 × zS)} {pN pS : Nat → PR} {h : Nat}
    (hN : ∀ st, N st = (zok spM st (some 0) 8).bind fun o17 => (fX8_isWord o17 (110 : Int32) (111 : Int32) (116 : Int32) (0 : Int32) (0 : Int32) (0 : Int32) (0 : Int32) (0 : Int32) st).bind fun q7 => if q7.1 = 0 then ((zok spM q7.2 (some 0) 8).bind fun o14 => (sub o14 q7.2).bind fun q8 => zlet (q8.1) fun v9 => (zok spM q8.2 (some 0) 8).bind fun o13 => (fX8_isSign o13 (60 : Int32) q8.2).bind fun q10 => if q10.1 = 0 then ((zok spM q10.2 (some 0) 8).bind fun o12 => (fX8_isSign o12 (61 : Int32) q10.2).bind fun q11 => if q11.1 = 0 then (some (v9, q11.2)) else (J v9 q11.2)) else (J v9 q10.2)) else T q7.2)
    (hJ : ∀ y1 st, J y1 st = (zok spM st (some 0) 8).bind fun o6 => if (lg_cmp (st.2.2.1 o6) (60 : Int64)) = 0 then (K y1 (1 : Int32) st) else (K y1 (0 : Int32) st))
    (hK : ∀ y1 s0 st, K y1 s0 st = (zok spM st (some 0) 8).bind fun o5 => (fX8_next o5 st).bind fun q1 => (zok spM q1.2 (some 0) 8).bind fun o4 => (sub o4 q1.2).bind fun q2 => zlet (q2.1) fun v3 => if s0 = 0 then (if y1 = v3 then (some ((1 : Int32), q2.2)) else (some ((0 : Int32), q2.2))) else (if v3 ≤ y1 then (some ((0 : Int32), q2.2)) else (some ((1 : Int32), q2.2))))
    (hT : ∀ i M, vt B n i → AtM B n b o i M → tC B n i = 3 → RdM B n b o M (T M) (ntT can pN i))
    (hok : OkF B n h pS) (hp : PsM B n b o (sub 0) pS) : PsM B n b o N (ntP (tC B n) can pN pS) := fun i M hv hA => by
  have hM := hA.1.1
  have hw := m_isW hA (j := 11) (by decide) (a1 := 110) (a2 := 111) (a3 := 116) (a4 := 0) (a5 := 0) (a6 := 0) (a7 := 0) (a8 := 0) rfl
  rw [show cdW 11 = 3 from rfl] at hw
  unfold ntP
  by_cases c3 : tC B n i = 3
  · rw [if_pos c3] at hw ⊢
    have := hT i M hv hA c3
    rw [hN]
    simp only [zokM_0, zokM_1, zokM_2, zokM_3, zokM_4, zokM_5, zokM_6, zokM_7, zokM_8, zokM_9, zokM_10, zokM_11, zokM_12, zokM_13, zokM_14, zokM_15, zlaM_1, zlaM_2, zlaM_3, zlaM_4, zlaM_5, zlaM_6, zlaM_7, zlaM_8, zlaM_9, zlaM_10, zlaM_11, zlaM_12, zlaM_13, zlaM_14, zlaM_15, zp_1, zp_h, zp_r, zp_l, zletE, obs, spMe_0, spMe_1, spMe_2, spMe_3, spMe_4, spMe_5, spMe_6, spMe_7, spMe_8, spMe_9, spMe_10, spMe_11, spMe_12, spMe_13, spMe_14, spMe_15, hM.1, hw, if_neg n10]
    exact this
  · rw [if_neg c3] at hw ⊢
    have hr := hp i M hv hA
    have hk := hok i hv
    rw [hN]
    cases hpi : pS i with
    | inl e =>
      rw [hpi] at hr
      obtain ⟨w, M2, b1, b2, b3, b4⟩ := hr
      have hM2 : shM M2 := b2.sh hM
      refine ⟨w, M2, ?_, b2, b3, b4⟩
      simp only [zokM_0, zokM_1, zokM_2, zokM_3, zokM_4, zokM_5, zokM_6, zokM_7, zokM_8, zokM_9, zokM_10, zokM_11, zokM_12, zokM_13, zokM_14, zokM_15, zlaM_1, zlaM_2, zlaM_3, zlaM_4, zlaM_5, zlaM_6, zlaM_7, zlaM_8, zlaM_9, zlaM_10, zlaM_11, zlaM_12, zlaM_13, zlaM_14, zlaM_15, zp_1, zp_h, zp_r, zp_l, zletE, obs, spMe_0, spMe_1, spMe_2, spMe_3, spMe_4, spMe_5, spMe_6, spMe_7, spMe_8, spMe_9, spMe_10, spMe_11, spMe_12, spMe_13, spMe_14, spMe_15, hM.1, hw, if_true, b1, hM2.1, m_sign1 hM2 b3]
    | inr r =>
      obtain ⟨i1, c1, v1⟩ := r
      rw [hpi] at hr hk
      obtain ⟨M2, b1, b2, b3⟩ := hr
      obtain ⟨k1, k2, -, -⟩ := hk
      have hM2 := b2.1.1
      show RdM B n b o M _ (if tC B n i1 = 60 ∨ tC B n i1 = 61 then _ else _)
      by_cases d1 : tC B n i1 = 60
      · obtain ⟨M3, y1, y2, y3⟩ := m_nxt b2 d1 (by decide) (by decide)
        have hM3 := y2.1.1
        have hr2 := hp (i1 + 1) M3 (op_vt k2 d1 (by decide) (by decide)) y2
        have e2 : lg_cmp (M2.2.2.1 0) 60 = 0 := by rw [b2.lg d1 (by decide)]; decide
        rw [if_pos (Or.inl d1), if_pos d1]
        cases hpj : pS (i1 + 1) with
        | inl e =>
          rw [hpj] at hr2
          obtain ⟨w, M4, g1, g2, g3, g4⟩ := hr2
          refine ⟨if w ≤ v1 (envM M) then 0 else 1, M4, ?_, (b3.tr y3).tr g2, g3, g4⟩
          simp only [zokM_0, zokM_1, zokM_2, zokM_3, zokM_4, zokM_5, zokM_6, zokM_7, zokM_8, zokM_9, zokM_10, zokM_11, zokM_12, zokM_13, zokM_14, zokM_15, zlaM_1, zlaM_2, zlaM_3, zlaM_4, zlaM_5, zlaM_6, zlaM_7, zlaM_8, zlaM_9, zlaM_10, zlaM_11, zlaM_12, zlaM_13, zlaM_14, zlaM_15, zp_1, zp_h, zp_r, zp_l, zletE, obs, spMe_0, spMe_1, spMe_2, spMe_3, spMe_4, spMe_5, spMe_6, spMe_7, spMe_8, spMe_9, spMe_10, spMe_11, spMe_12, spMe_13, spMe_14, spMe_15, hM.1, hw, if_true, b1, hM2.1, m_sign b2 (c := 60) (by decide), if_pos d1, if_neg n10, hJ, e2, hK, y1, hM3.1, g1]
          split <;> rfl
        | inr r' =>
          obtain ⟨i2, c2, v2⟩ := r'
          rw [hpj] at hr2
          obtain ⟨M4, g1, g2, g3⟩ := hr2
          rw [y3.env, b3.env] at g1
          refine ⟨M4, ?_, g2, (b3.tr y3).tr g3⟩
          show _ = some ((if v2 (envM M) ≤ v1 (envM M) then 0 else 1), M4)
          simp only [zokM_0, zokM_1, zokM_2, zokM_3, zokM_4, zokM_5, zokM_6, zokM_7, zokM_8, zokM_9, zokM_10, zokM_11, zokM_12, zokM_13, zokM_14, zokM_15, zlaM_1, zlaM_2, zlaM_3, zlaM_4, zlaM_5, zlaM_6, zlaM_7, zlaM_8, zlaM_9, zlaM_10, zlaM_11, zlaM_12, zlaM_13, zlaM_14, zlaM_15, zp_1, zp_h, zp_r, zp_l, zletE, obs, spMe_0, spMe_1, spMe_2, spMe_3, spMe_4, spMe_5, spMe_6, spMe_7, spMe_8, spMe_9, spMe_10, spMe_11, spMe_12, spMe_13, spMe_14, spMe_15, hM.1, hw, if_true, b1, hM2.1, m_sign b2 (c := 60) (by decide), if_pos d1, if_neg n10, hJ, e2, hK, y1, hM3.1, g1]
          split <;> rfl
      · by_cases d2 : tC B n i1 = 61
        · obtain ⟨M3, y1, y2, y3⟩ := m_nxt b2 d2 (by decide) (by decide)
          have hM3 := y2.1.1
          have hr2 := hp (i1 + 1) M3 (op_vt k2 d2 (by decide) (by decide)) y2
          have e2 : ¬ lg_cmp (M2.2.2.1 0) 60 = 0 := by rw [b2.lg d2 (by decide)]; decide
          rw [if_pos (Or.inr d2), if_neg d1]
          cases hpj : pS (i1 + 1) with
          | inl e =>
            rw [hpj] at hr2
            obtain ⟨w, M4, g1, g2, g3, g4⟩ := hr2
            refine ⟨if v1 (envM M) = w then 1 else 0, M4, ?_, (b3.tr y3).tr g2, g3, g4⟩
            simp only [zokM_0, zokM_1, zokM_2, zokM_3, zokM_4, zokM_5, zokM_6, zokM_7, zokM_8, zokM_9, zokM_10, zokM_11, zokM_12, zokM_13, zokM_14, zokM_15, zlaM_1, zlaM_2, zlaM_3, zlaM_4, zlaM_5, zlaM_6, zlaM_7, zlaM_8, zlaM_9, zlaM_10, zlaM_11, zlaM_12, zlaM_13, zlaM_14, zlaM_15, zp_1, zp_h, zp_r, zp_l, zletE, obs, spMe_0, spMe_1, spMe_2, spMe_3, spMe_4, spMe_5, spMe_6, spMe_7, spMe_8, spMe_9, spMe_10, spMe_11, spMe_12, spMe_13, spMe_14, spMe_15, hM.1, hw, if_true, b1, hM2.1, m_sign b2 (c := 60) (by decide), m_sign b2 (c := 61) (by decide), if_neg d1, if_pos d2, if_neg n10, hJ, if_neg e2, hK, y1, hM3.1, g1]
            split <;> rfl
          | inr r' =>
            obtain ⟨i2, c2, v2⟩ := r'
            rw [hpj] at hr2
            obtain ⟨M4, g1, g2, g3⟩ := hr2
            rw [y3.env, b3.env] at g1
            refine ⟨M4, ?_, g2, (b3.tr y3).tr g3⟩
            show _ = some ((if v1 (envM M) = v2 (envM M) then 1 else 0), M4)
            simp only [zokM_0, zokM_1, zokM_2, zokM_3, zokM_4, zokM_5, zokM_6, zokM_7, zokM_8, zokM_9, zokM_10, zokM_11, zokM_12, zokM_13, zokM_14, zokM_15, zlaM_1, zlaM_2, zlaM_3, zlaM_4, zlaM_5, zlaM_6, zlaM_7, zlaM_8, zlaM_9, zlaM_10, zlaM_11, zlaM_12, zlaM_13, zlaM_14, zlaM_15, zp_1, zp_h, zp_r, zp_l, zletE, obs, spMe_0, spMe_1, spMe_2, spMe_3, spMe_4, spMe_5, spMe_6, spMe_7, spMe_8, spMe_9, spMe_10, spMe_11, spMe_12, spMe_13, spMe_14, spMe_15, hM.1, hw, if_true, b1, hM2.1, m_sign b2 (c := 60) (by decide), m_sign b2 (c := 61) (by decide), if_neg d1, if_pos d2, if_neg n10, hJ, if_neg e2, hK, y1, hM3.1, g1]
            split <;> rfl
        · rw [if_neg (fun q => q.elim d1 d2)]
          refine ⟨M2, ?_, b2, b3⟩
          simp only [zokM_0, zokM_1, zokM_2, zokM_3, zokM_4, zokM_5, zokM_6, zokM_7, zokM_8, zokM_9, zokM_10, zokM_11, zokM_12, zokM_13, zokM_14, zokM_15, zlaM_1, zlaM_2, zlaM_3, zlaM_4, zlaM_5, zlaM_6, zlaM_7, zlaM_8, zlaM_9, zlaM_10, zlaM_11, zlaM_12, zlaM_13, zlaM_14, zlaM_15, zp_1, zp_h, zp_r, zp_l, zletE, obs, spMe_0, spMe_1, spMe_2, spMe_3, spMe_4, spMe_5, spMe_6, spMe_7, spMe_8, spMe_9, spMe_10, spMe_11, spMe_12, spMe_13, spMe_14, spMe_15, hM.1, hw, if_true, b1, hM2.1, m_sign b2 (c := 60) (by decide), m_sign b2 (c := 61) (by decide), if_neg d1, if_neg d2]
/-! a NAME -/
theorem m_isWk {B : Nat → Int32} {n b o i : Nat} {M : zS} (h : AtM B n b o i M) {k : Nat} (hk : k < 12) (hc : tC B n i = cdW k) {j : Nat} (hj : j < 12) {a1 a2 a3 a4 a5 a6 a7 a8 : Int32} (hw : [a1, a2, a3, a4, a5, a6, a7, a8] = [(wd j).getD 0 0, (wd j).getD 1 0, (wd j).getD 2 0, (wd j).getD 3 0, (wd j).getD 4 0, (wd j).getD 5 0, (wd j).getD 6 0, (wd j).getD 7 0]) : fX8_isWord 0 a1 a2 a3 a4 a5 a6 a7 a8 M = some (if k = j then 1 else 0, M) := by
  rw [m_isW h hj hw, hc]
  by_cases e : k = j
  · subst e; rw [if_pos rfl, if_pos rfl]
  · rw [if_neg e, if_neg (fun q => e (cdW_inj k hk j hj q))]
theorem m_name {B : Nat → Int32} {n b o i : Nat} {M : zS} (h : AtM B n b o i M) (hk : tkK B n (psT B n i) = 1) : (∃ k, k < 6 ∧ tC B n i = cdW k ∧ fX8_name 0 M = some (envM M k, M)) ∨ ((-1 < tC B n i ∧ ¬ tC B n i = 7 ∧ ¬ tC B n i = 45 ∧ ¬ tC B n i = 40) ∧ fX8_name 0 M = some (0, flM M)) := by
  have hM := h.1.1
  have h26 := h.2.2.1
  have ht : tC B n i = wdC B n (tkS B n (psT B n i)) (tkE B n (psT B n i)) := by
    show tkC B n (psT B n i) = _
    rcases tk_kinds B n (psT B n i) with ⟨k, t⟩ | ⟨k, hl, t, te⟩ | ⟨k, t⟩ | ⟨k, hg, t⟩ | ⟨k, t⟩
    · omega
    · exact t
    · omega
    · omega
    · omega
  rcases wd_cases B n (tkS B n (psT B n i)) (tkE B n (psT B n i)) with ⟨j, hj, -, e1⟩ | ⟨-, e1⟩
  · have hc := ht.trans e1
    have w0 := m_isWk h hj hc (j := 0) (by decide) (a1 := 116) (a2 := 104) (a3 := 105) (a4 := 110) (a5 := 103) (a6 := 0) (a7 := 0) (a8 := 0) rfl
    have w1 := m_isWk h hj hc (j := 1) (by decide) (a1 := 119) (a2 := 111) (a3 := 114) (a4 := 100) (a5 := 115) (a6 := 0) (a7 := 0) (a8 := 0) rfl
    have w2 := m_isWk h hj hc (j := 2) (by decide) (a1 := 119) (a2 := 97) (a3 := 121) (a4 := 115) (a5 := 0) (a6 := 0) (a7 := 0) (a8 := 0) rfl
    have w3 := m_isWk h hj hc (j := 3) (by decide) (a1 := 110) (a2 := 117) (a3 := 109) (a4 := 98) (a5 := 101) (a6 := 114) (a7 := 0) (a8 := 0) rfl
    have w4 := m_isWk h hj hc (j := 4) (by decide) (a1 := 100) (a2 := 97) (a3 := 121) (a4 := 0) (a5 := 0) (a6 := 0) (a7 := 0) (a8 := 0) rfl
    have w5 := m_isWk h hj hc (j := 5) (by decide) (a1 := 104) (a2 := 97) (a3 := 100) (a4 := 0) (a5 := 0) (a6 := 0) (a7 := 0) (a8 := 0) rfl
    by_cases k6 : j < 6
    · refine Or.inl ⟨j, k6, hc, ?_⟩
      unfold envM
      rw [if_pos k6]
      rcases (show j = 0 ∨ j = 1 ∨ j = 2 ∨ j = 3 ∨ j = 4 ∨ j = 5 by omega) with rfl | rfl | rfl | rfl | rfl | rfl
      all_goals simp (decide := true) only [fX8_name, zokM_0, zokM_1, zokM_2, zokM_3, zokM_4, zokM_5, zokM_6, zokM_7, zokM_8, zokM_9, zokM_10, zokM_11, zokM_12, zokM_13, zokM_14, zokM_15, zlaM_1, zlaM_2, zlaM_3, zlaM_4, zlaM_5, zlaM_6, zlaM_7, zlaM_8, zlaM_9, zlaM_10, zlaM_11, zlaM_12, zlaM_13, zlaM_14, zlaM_15, zp_1, zp_h, zp_r, zp_l, zletE, obs, spMe_0, spMe_1, spMe_2, spMe_3, spMe_4, spMe_5, spMe_6, spMe_7, spMe_8, spMe_9, spMe_10, spMe_11, spMe_12, spMe_13, spMe_14, spMe_15, hM.1, w0, w1, w2, w3, w4, w5, if_true, if_false, if_neg n10]
    · refine Or.inr ⟨?_, ?_⟩
      · rw [hc]
        rcases (show j = 6 ∨ j = 7 ∨ j = 8 ∨ j = 9 ∨ j = 10 ∨ j = 11 by omega) with rfl | rfl | rfl | rfl | rfl | rfl <;> decide
      · simp only [fX8_name, zokM_0, zokM_1, zokM_2, zokM_3, zokM_4, zokM_5, zokM_6, zokM_7, zokM_8, zokM_9, zokM_10, zokM_11, zokM_12, zokM_13, zokM_14, zokM_15, zlaM_1, zlaM_2, zlaM_3, zlaM_4, zlaM_5, zlaM_6, zlaM_7, zlaM_8, zlaM_9, zlaM_10, zlaM_11, zlaM_12, zlaM_13, zlaM_14, zlaM_15, zp_1, zp_h, zp_r, zp_l, zletE, obs, spMe_0, spMe_1, spMe_2, spMe_3, spMe_4, spMe_5, spMe_6, spMe_7, spMe_8, spMe_9, spMe_10, spMe_11, spMe_12, spMe_13, spMe_14, spMe_15, hM.1, w0, w1, w2, w3, w4, w5, if_neg (show ¬ j = 0 by omega), if_neg (show ¬ j = 1 by omega), if_neg (show ¬ j = 2 by omega), if_neg (show ¬ j = 3 by omega), if_neg (show ¬ j = 4 by omega), if_neg (show ¬ j = 5 by omega), if_true, m_fail hM h26]
  · have hc := ht.trans e1
    have w0 := m_isW h (j := 0) (by decide) (a1 := 116) (a2 := 104) (a3 := 105) (a4 := 110) (a5 := 103) (a6 := 0) (a7 := 0) (a8 := 0) rfl
    have w1 := m_isW h (j := 1) (by decide) (a1 := 119) (a2 := 111) (a3 := 114) (a4 := 100) (a5 := 115) (a6 := 0) (a7 := 0) (a8 := 0) rfl
    have w2 := m_isW h (j := 2) (by decide) (a1 := 119) (a2 := 97) (a3 := 121) (a4 := 115) (a5 := 0) (a6 := 0) (a7 := 0) (a8 := 0) rfl
    have w3 := m_isW h (j := 3) (by decide) (a1 := 110) (a2 := 117) (a3 := 109) (a4 := 98) (a5 := 101) (a6 := 114) (a7 := 0) (a8 := 0) rfl
    have w4 := m_isW h (j := 4) (by decide) (a1 := 100) (a2 := 97) (a3 := 121) (a4 := 0) (a5 := 0) (a6 := 0) (a7 := 0) (a8 := 0) rfl
    have w5 := m_isW h (j := 5) (by decide) (a1 := 104) (a2 := 97) (a3 := 100) (a4 := 0) (a5 := 0) (a6 := 0) (a7 := 0) (a8 := 0) rfl
    refine Or.inr ⟨by rw [hc]; decide, ?_⟩
    rw [hc] at w0 w1 w2 w3 w4 w5
    rw [if_neg (by decide)] at w0 w1 w2 w3 w4 w5
    simp only [fX8_name, zokM_0, zokM_1, zokM_2, zokM_3, zokM_4, zokM_5, zokM_6, zokM_7, zokM_8, zokM_9, zokM_10, zokM_11, zokM_12, zokM_13, zokM_14, zokM_15, zlaM_1, zlaM_2, zlaM_3, zlaM_4, zlaM_5, zlaM_6, zlaM_7, zlaM_8, zlaM_9, zlaM_10, zlaM_11, zlaM_12, zlaM_13, zlaM_14, zlaM_15, zp_1, zp_h, zp_r, zp_l, zletE, obs, spMe_0, spMe_1, spMe_2, spMe_3, spMe_4, spMe_5, spMe_6, spMe_7, spMe_8, spMe_9, spMe_10, spMe_11, spMe_12, spMe_13, spMe_14, spMe_15, hM.1, w0, w1, w2, w3, w4, w5, if_true, m_fail hM h26]
/-- ONE, when `-` leads; when `(` leads -/
def onN (can : Bool) (pO : Nat → PR) (i : Nat) : PR := if can = true then (match pO (i + 1) with
    | .inl e => .inl e
    | .inr (i', cs, v) => .inr (i', cs ++ [-19], fun e => -(v e))) else .inl i
def onO (T : Nat → Int32) (can : Bool) (pE : Nat → PR) (i : Nat) : PR := if can = true then (match pE (i + 1) with
    | .inl e => .inl e
    | .inr (i', cs, v) => if T i' = 41 then .inr (i' + 1, cs, v) else .inl i') else .inl i
theorem on_n {B : Nat → Int32} {n b o : Nat} {T : zS → Option (Int32 × zS)} {sub : Nat → zS → Option (Int32 × zS)} {pO : Nat → PR} (ho : o < 5)
    (hT : ∀ st, T st = (zok spM st (some 0) 8).bind fun o42 => (fX8_opens o42 st).bind fun q35 => if q35.1 = 0 then (some ((0 : Int32), q35.2)) else ((zok spM q35.2 (some 0) 8).bind fun o41 => (sub o41 q35.2).bind fun q36 => zlet ((-q36.1)) fun v37 => (zok spM q36.2 (some 0) 8).bind fun o38 => (zok spM q36.2 (some 0) 8).bind fun o39 => zlet (zp q36.2 o39 25 ((q36.2.2.1 o38 25) - (1 : Int32))) fun st40 => some (v37, st40)))
    (hp : PsM B n b (o + 1) (sub 0) pO) : ∀ i M, vt B n i → AtM B n b o i M → tC B n i = 45 → RdM B n b o M (T M) (onN true pO i) := fun i M hv hA h3 => by
  have hM := hA.1.1
  obtain ⟨M1, y1, y2, y3⟩ := m_opens hA ho h3 (by decide) (by decide)
  have hr := hp (i + 1) M1 (op_vt hv h3 (by decide) (by decide)) y2
  have hM1 := y2.1.1
  unfold onN
  rw [if_pos rfl, hT]
  cases hpi : pO (i + 1) with
  | inl e =>
    rw [hpi] at hr
    obtain ⟨w, M2, b1, b2, b3, b4⟩ := hr
    have hM2 : shM M2 := b2.sh hM1
    have z := zp_bad (M := M2) (M2.2.1 0 25 - 1)
    refine ⟨-w, zp M2 0 25 (M2.2.1 0 25 - 1), ?_, (y3.tr b2).tr z.2.2, z.1.trans b3, z.2.1.trans b4⟩
    simp only [zokM_0, zokM_1, zokM_2, zokM_3, zokM_4, zokM_5, zokM_6, zokM_7, zokM_8, zokM_9, zokM_10, zokM_11, zokM_12, zokM_13, zokM_14, zokM_15, zlaM_1, zlaM_2, zlaM_3, zlaM_4, zlaM_5, zlaM_6, zlaM_7, zlaM_8, zlaM_9, zlaM_10, zlaM_11, zlaM_12, zlaM_13, zlaM_14, zlaM_15, zp_1, zp_h, zp_r, zp_l, zletE, obs, spMe_0, spMe_1, spMe_2, spMe_3, spMe_4, spMe_5, spMe_6, spMe_7, spMe_8, spMe_9, spMe_10, spMe_11, spMe_12, spMe_13, spMe_14, spMe_15, hM.1, y1, if_neg n10, hM1.1, b1, hM2.1]
  | inr r =>
    obtain ⟨i', cs', v'⟩ := r
    rw [hpi] at hr
    obtain ⟨M2, b1, b2, b3⟩ := hr
    have hM2 := b2.1.1
    refine ⟨zp M2 0 25 (nI o), ?_, b2.op o, (y3.tr b3).tr (zp_bad _).2.2⟩
    simp only [zokM_0, zokM_1, zokM_2, zokM_3, zokM_4, zokM_5, zokM_6, zokM_7, zokM_8, zokM_9, zokM_10, zokM_11, zokM_12, zokM_13, zokM_14, zokM_15, zlaM_1, zlaM_2, zlaM_3, zlaM_4, zlaM_5, zlaM_6, zlaM_7, zlaM_8, zlaM_9, zlaM_10, zlaM_11, zlaM_12, zlaM_13, zlaM_14, zlaM_15, zp_1, zp_h, zp_r, zp_l, zletE, obs, spMe_0, spMe_1, spMe_2, spMe_3, spMe_4, spMe_5, spMe_6, spMe_7, spMe_8, spMe_9, spMe_10, spMe_11, spMe_12, spMe_13, spMe_14, spMe_15, hM.1, y1, if_neg n10, hM1.1, b1, hM2.1, b2.2.2.2.1, nI_un, y3.env]
theorem on_nf {B : Nat → Int32} {n b : Nat} {T : zS → Option (Int32 × zS)} {pO : Nat → PR}
    (hT : ∀ st, T st = (zok spM st (some 0) 8).bind fun o16 => (fX8_opens o16 st).bind fun q15 => some ((0 : Int32), q15.2)) : ∀ i M, vt B n i → AtM B n b 5 i M → tC B n i = 45 → RdM B n b 5 M (T M) (onN false pO i) := fun i M hv hA h3 => by
  have hM := hA.1.1
  have z := hA.fl
  refine ⟨0, flM M, ?_, z.1, z.2.1, z.2.2⟩
  rw [hT]
  simp only [zokM_0, zokM_1, zokM_2, zokM_3, zokM_4, zokM_5, zokM_6, zokM_7, zokM_8, zokM_9, zokM_10, zokM_11, zokM_12, zokM_13, zokM_14, zokM_15, zlaM_1, zlaM_2, zlaM_3, zlaM_4, zlaM_5, zlaM_6, zlaM_7, zlaM_8, zlaM_9, zlaM_10, zlaM_11, zlaM_12, zlaM_13, zlaM_14, zlaM_15, zp_1, zp_h, zp_r, zp_l, zletE, obs, spMe_0, spMe_1, spMe_2, spMe_3, spMe_4, spMe_5, spMe_6, spMe_7, spMe_8, spMe_9, spMe_10, spMe_11, spMe_12, spMe_13, spMe_14, spMe_15, hM.1, m_opens5 hA]
theorem on_of {B : Nat → Int32} {n b : Nat} {T : zS → Option (Int32 × zS)} {pE : Nat → PR}
    (hT : ∀ st, T st = (zok spM st (some 0) 8).bind fun o16 => (fX8_opens o16 st).bind fun q15 => some ((0 : Int32), q15.2)) : ∀ i M, vt B n i → AtM B n b 5 i M → tC B n i = 40 → RdM B n b 5 M (T M) (onO (tC B n) false pE i) := fun i M hv hA h3 => by
  have hM := hA.1.1
  have z := hA.fl
  refine ⟨0, flM M, ?_, z.1, z.2.1, z.2.2⟩
  rw [hT]
  simp only [zokM_0, zokM_1, zokM_2, zokM_3, zokM_4, zokM_5, zokM_6, zokM_7, zokM_8, zokM_9, zokM_10, zokM_11, zokM_12, zokM_13, zokM_14, zokM_15, zlaM_1, zlaM_2, zlaM_3, zlaM_4, zlaM_5, zlaM_6, zlaM_7, zlaM_8, zlaM_9, zlaM_10, zlaM_11, zlaM_12, zlaM_13, zlaM_14, zlaM_15, zp_1, zp_h, zp_r, zp_l, zletE, obs, spMe_0, spMe_1, spMe_2, spMe_3, spMe_4, spMe_5, spMe_6, spMe_7, spMe_8, spMe_9, spMe_10, spMe_11, spMe_12, spMe_13, spMe_14, spMe_15, hM.1, m_opens5 hA]
theorem on_o {B : Nat → Int32} {n b o : Nat} {T : zS → Option (Int32 × zS)} {J : Int32 → zS → Option (Int32 × zS)} {sub : Nat → zS → Option (Int32 × zS)} {pE : Nat → PR} (ho : o < 5)
    (hT : ∀ st, T st = (zok spM st (some 0) 8).bind fun o33 => (fX8_opens o33 st).bind fun q25 => if q25.1 = 0 then (some ((0 : Int32), q25.2)) else ((zok spM q25.2 (some 0) 8).bind fun o32 => (sub o32 q25.2).bind fun q26 => zlet (q26.1) fun v27 => (zok spM q26.2 (some 0) 8).bind fun o31 => (fX8_isSign o31 (41 : Int32) q26.2).bind fun q28 => if q28.1 = 0 then ((zok spM q28.2 (some 0) 8).bind fun o30 => (fX8_fail o30 q28.2).bind fun q29 => J v27 q29.2) else (J v27 q28.2)))
    (hJ : ∀ y1 st, J y1 st = (zok spM st (some 0) 8).bind fun o1 => (zok spM st (some 0) 8).bind fun o2 => zlet (zp st o2 25 ((st.2.1 o1 25) - (1 : Int32))) fun st3 => (zok spM st3 (some 0) 8).bind fun o4 => if (st3.2.1 o4 26) = 0 then ((zok spM st3 (some 0) 8).bind fun o6 => (fX8_next o6 st3).bind fun q5 => some (y1, q5.2)) else (some (y1, st3)))
    (hok : ∀ i, vt B n i → OkR B n 31 i (pE i))
    (hp : PsM B n b (o + 1) (sub 0) pE) : ∀ i M, vt B n i → AtM B n b o i M → tC B n i = 40 → RdM B n b o M (T M) (onO (tC B n) true pE i) := fun i M hv hA h3 => by
  have hM := hA.1.1
  obtain ⟨M1, y1, y2, y3⟩ := m_opens hA ho h3 (by decide) (by decide)
  have hr := hp (i + 1) M1 (op_vt hv h3 (by decide) (by decide)) y2
  have hM1 := y2.1.1
  have one : ¬ (1 : Int32) = 0 := n10
  unfold onO
  rw [if_pos rfl, hT]
  cases hpi : pE (i + 1) with
  | inl e =>
    rw [hpi] at hr
    obtain ⟨w, M2, b1, b2, b3, b4⟩ := hr
    have hM2 : shM M2 := b2.sh hM1
    have z := zp_bad (M := M2) (M2.2.1 0 25 - 1)
    have z1 := z.1.trans b3
    have hM3 : shM (zp M2 0 25 (M2.2.1 0 25 - 1)) := hM2.zp _ _ _
    refine ⟨w, zp M2 0 25 (M2.2.1 0 25 - 1), ?_, (y3.tr b2).tr z.2.2, z1, z.2.1.trans b4⟩
    simp only [zokM_0, zokM_8, zletE, obs, hM.1, y1, if_neg n10, hM1.1, b1, hM2.1, m_sign1 hM2 b3, if_true, m_fail1 hM2 b3, hJ, hM3.1, z1]
  | inr r =>
    obtain ⟨i', cs', v'⟩ := r
    rw [hpi] at hr
    obtain ⟨M2, b1, b2, b3⟩ := hr
    have hM2 := b2.1.1
    show RdM B n b o M _ (if tC B n i' = 41 then _ else _)
    by_cases d : tC B n i' = 41
    · rw [if_pos d]
      have b2' := b2.op o
      obtain ⟨M3, g1, g2, g3⟩ := m_nxt b2' d (by decide) (by decide)
      have hM3 := b2'.1.1
      have z1 := b2'.2.2.1
      refine ⟨M3, ?_, g2, ((y3.tr b3).tr (zp_bad _).2.2).tr g3⟩
      simp only [zokM_0, zokM_8, zletE, obs, hM.1, y1, if_neg n10, hM1.1, b1, hM2.1, m_sign b2 (c := 41) (by decide), if_pos d, hJ, b2.2.2.2.1, nI_un, hM3.1, z1, if_true, g1, y3.env]
    · rw [if_neg d]
      have zf := b2.fl
      have hMf : shM (flM M2) := zf.1.sh hM2
      have z := zp_bad (M := flM M2) ((flM M2).2.1 0 25 - 1)
      have z1 := z.1.trans zf.2.1
      have hM3 : shM (zp (flM M2) 0 25 ((flM M2).2.1 0 25 - 1)) := hMf.zp _ _ _
      refine ⟨v' (envM M1), zp (flM M2) 0 25 ((flM M2).2.1 0 25 - 1), ?_, ((y3.tr b3).tr zf.1).tr z.2.2, z1, z.2.1.trans zf.2.2⟩
      simp only [zokM_0, zokM_8, zletE, obs, hM.1, y1, if_neg n10, hM1.1, b1, hM2.1, m_sign b2 (c := 41) (by decide), if_neg d, if_true, m_fail hM2 b2.2.2.1, hJ, hMf.1, hM3.1, z1]
theorem on_m {B : Nat → Int32} {n b o : Nat} {can : Bool} {A TN TP : zS → Option (Int32 × zS)} {J W : Int32 → zS → Option (Int32 × zS)} {pE pO : Nat → PR}
    (hA : ∀ st, A st = (zok spM st (some 0) 8).bind fun o43 => (fX8_isSign o43 (45 : Int32) st).bind fun q17 => if q17.1 = 0 then ((zok spM q17.2 (some 0) 8).bind fun o34 => (fX8_isSign o34 (40 : Int32) q17.2).bind fun q18 => if q18.1 = 0 then ((zok spM q18.2 (some 0) 8).bind fun o19 => if (q18.2.2.1 o19 26) = 0 then ((zok spM q18.2 (some 0) 8).bind fun o20 => if (q18.2.2.1 o20 22) = (2 : Int32) then ((zok spM q18.2 (some 0) 8).bind fun o21 => zlet (((q18.2.2.2.1 o21).toInt32)) fun v22 => (zok spM q18.2 (some 0) 8).bind fun o24 => (fX8_next o24 q18.2).bind fun q23 => some (v22, q23.2)) else (J 0 q18.2)) else (J 0 q18.2)) else TP q18.2) else TN q17.2)
    (hJ : ∀ y1 st, J y1 st = (zok spM st (some 0) 8).bind fun o9 => if (st.2.1 o9 26) = 0 then ((zok spM st (some 0) 8).bind fun o10 => if (st.2.1 o10 22) = (1 : Int32) then ((zok spM st (some 0) 8).bind fun o16 => (fX8_name o16 st).bind fun q11 => zlet (q11.1) fun v12 => (zok spM q11.2 (some 0) 8).bind fun o13 => if (q11.2.2.1 o13 26) = 0 then ((zok spM q11.2 (some 0) 8).bind fun o15 => (fX8_next o15 q11.2).bind fun q14 => some (v12, q14.2)) else (some (v12, q11.2))) else (W y1 st)) else (W y1 st))
    (hW : ∀ y1 st, W y1 st = (zok spM st (some 0) 8).bind fun o8 => (fX8_fail o8 st).bind fun q7 => some (y1, q7.2))
    (hTN : ∀ i M, vt B n i → AtM B n b o i M → tC B n i = 45 → RdM B n b o M (TN M) (onN can pO i))
    (hTP : ∀ i M, vt B n i → AtM B n b o i M → tC B n i = 40 → RdM B n b o M (TP M) (onO (tC B n) can pE i)) : PsM B n b o A (onP (tC B n) (fun i => nI (tkV B n (psT B n i))) can pE pO) := fun i M hv h => by
  have hM := h.1.1
  have h26 := h.2.2.1
  have h22 := h.2.2.2.2.1.2.1
  have z := h.fl
  have s45 := m_sign h (c := 45) (by decide)
  have s40 := m_sign h (c := 40) (by decide)
  unfold onP
  have bad : ¬ tC B n i = 7 → -1 < tC B n i → ¬ tC B n i = 45 → ¬ tC B n i = 40 → A M = some (0, flM M) → RdM B n b o M (A M) (if tC B n i = 7 then .inr (i + 1, [nI (tkV B n (psT B n i))], fun _ => nI (tkV B n (psT B n i))) else if ¬ -1 < tC B n i ∧ ¬ tC B n i < -6 then .inr (i + 1, [tC B n i], fun e => e (-1 - tC B n i).toNatClampNeg) else if tC B n i = 45 then onN can pO i else if tC B n i = 40 then onO (tC B n) can pE i else .inl i) := fun q7 q1 q45 q40 e => by
    rw [if_neg q7, if_neg (fun q => q.1 q1), if_neg q45, if_neg q40]
    exact ⟨0, flM M, e, z.1, z.2.1, z.2.2⟩
  show RdM B n b o M (A M) (if tC B n i = 7 then .inr (i + 1, [nI (tkV B n (psT B n i))], fun _ => nI (tkV B n (psT B n i))) else if ¬ -1 < tC B n i ∧ ¬ tC B n i < -6 then .inr (i + 1, [tC B n i], fun e => e (-1 - tC B n i).toNatClampNeg) else if tC B n i = 45 then onN can pO i else if tC B n i = 40 then onO (tC B n) can pE i else .inl i)
  rcases tk_kinds B n (psT B n i) with ⟨k, t⟩ | ⟨k, hl, t, te⟩ | ⟨k, t⟩ | ⟨k, hg, t⟩ | ⟨k, t⟩
  · have t : tC B n i = 8 := t
    rw [k] at h22
    have c1 : ¬ tC B n i = 45 := by rw [t]; decide
    have c2 : ¬ tC B n i = 40 := by rw [t]; decide
    rw [if_neg c1] at s45
    rw [if_neg c2] at s40
    refine bad (by rw [t]; decide) (by rw [t]; decide) c1 c2 ?_
    rw [hA]
    simp only [zokM_0, zokM_1, zokM_2, zokM_3, zokM_4, zokM_5, zokM_6, zokM_7, zokM_8, zokM_9, zokM_10, zokM_11, zokM_12, zokM_13, zokM_14, zokM_15, zlaM_1, zlaM_2, zlaM_3, zlaM_4, zlaM_5, zlaM_6, zlaM_7, zlaM_8, zlaM_9, zlaM_10, zlaM_11, zlaM_12, zlaM_13, zlaM_14, zlaM_15, zp_1, zp_h, zp_r, zp_l, zletE, obs, spMe_0, spMe_1, spMe_2, spMe_3, spMe_4, spMe_5, spMe_6, spMe_7, spMe_8, spMe_9, spMe_10, spMe_11, spMe_12, spMe_13, spMe_14, spMe_15, hM.1, s45, s40, if_true, h26, h22, if_neg (show ¬ nI 0 = (2 : Int32) by decide), hJ, if_neg (show ¬ nI 0 = (1 : Int32) by decide), hW, m_fail hM h26]
  · rw [k] at h22
    rcases m_name h k with ⟨w, w1, w2, w3⟩ | ⟨⟨w1, w2, w3, w4⟩, w5⟩
    · have cf : ∀ w, w < 6 → ¬ cdW w = 7 ∧ ¬ -1 < cdW w ∧ ¬ cdW w < -6 ∧ ¬ cdW w = 45 ∧ ¬ cdW w = 40 ∧ (-1 - cdW w).toNatClampNeg = w := by decide
      obtain ⟨f1, f2, f3, f4, f5, f6⟩ := cf w w1
      have c1 : ¬ tC B n i = 45 := by rw [w2]; exact f4
      have c2 : ¬ tC B n i = 40 := by rw [w2]; exact f5
      rw [if_neg c1] at s45
      rw [if_neg c2] at s40
      obtain ⟨M1, y1, y2, y3⟩ := m_nx h (by omega)
      rw [if_neg (by rw [w2]; exact f1), if_pos (by rw [w2]; exact ⟨f2, f3⟩)]
      refine ⟨M1, ?_, y2, y3⟩
      rw [hA]
      have e1 : nI 1 = (1 : Int32) := by decide
      simp only [zokM_0, zokM_1, zokM_2, zokM_3, zokM_4, zokM_5, zokM_6, zokM_7, zokM_8, zokM_9, zokM_10, zokM_11, zokM_12, zokM_13, zokM_14, zokM_15, zlaM_1, zlaM_2, zlaM_3, zlaM_4, zlaM_5, zlaM_6, zlaM_7, zlaM_8, zlaM_9, zlaM_10, zlaM_11, zlaM_12, zlaM_13, zlaM_14, zlaM_15, zp_1, zp_h, zp_r, zp_l, zletE, obs, spMe_0, spMe_1, spMe_2, spMe_3, spMe_4, spMe_5, spMe_6, spMe_7, spMe_8, spMe_9, spMe_10, spMe_11, spMe_12, spMe_13, spMe_14, spMe_15, hM.1, s45, s40, if_true, h26, h22, e1, if_neg (show ¬ (1 : Int32) = 2 by decide), hJ, w3, y1, w2, f6]
    · rw [if_neg w3] at s45
      rw [if_neg w4] at s40
      refine bad w2 w1 w3 w4 ?_
      rw [hA]
      have e1 : nI 1 = (1 : Int32) := by decide
      have hMf : shM (flM M) := z.1.sh hM
      simp only [zokM_0, zokM_1, zokM_2, zokM_3, zokM_4, zokM_5, zokM_6, zokM_7, zokM_8, zokM_9, zokM_10, zokM_11, zokM_12, zokM_13, zokM_14, zokM_15, zlaM_1, zlaM_2, zlaM_3, zlaM_4, zlaM_5, zlaM_6, zlaM_7, zlaM_8, zlaM_9, zlaM_10, zlaM_11, zlaM_12, zlaM_13, zlaM_14, zlaM_15, zp_1, zp_h, zp_r, zp_l, zletE, obs, spMe_0, spMe_1, spMe_2, spMe_3, spMe_4, spMe_5, spMe_6, spMe_7, spMe_8, spMe_9, spMe_10, spMe_11, spMe_12, spMe_13, spMe_14, spMe_15, hM.1, s45, s40, if_true, h26, h22, e1, if_neg (show ¬ (1 : Int32) = 2 by decide), hJ, w5, hMf.1, z.2.1, if_neg n10]
  · have t : tC B n i = 7 := t
    rw [k] at h22
    have c1 : ¬ tC B n i = 45 := by rw [t]; decide
    have c2 : ¬ tC B n i = 40 := by rw [t]; decide
    rw [if_neg c1] at s45
    rw [if_neg c2] at s40
    obtain ⟨M1, y1, y2, y3⟩ := m_nx h (by omega)
    rw [if_pos t]
    refine ⟨M1, ?_, y2, y3⟩
    rw [hA]
    have e2 : nI 2 = (2 : Int32) := by decide
    simp only [zokM_0, zokM_1, zokM_2, zokM_3, zokM_4, zokM_5, zokM_6, zokM_7, zokM_8, zokM_9, zokM_10, zokM_11, zokM_12, zokM_13, zokM_14, zokM_15, zlaM_1, zlaM_2, zlaM_3, zlaM_4, zlaM_5, zlaM_6, zlaM_7, zlaM_8, zlaM_9, zlaM_10, zlaM_11, zlaM_12, zlaM_13, zlaM_14, zlaM_15, zp_1, zp_h, zp_r, zp_l, zletE, obs, spMe_0, spMe_1, spMe_2, spMe_3, spMe_4, spMe_5, spMe_6, spMe_7, spMe_8, spMe_9, spMe_10, spMe_11, spMe_12, spMe_13, spMe_14, spMe_15, hM.1, s45, s40, if_true, h26, h22, e2, y1, h.2.2.2.2.1.2.2.2.1 k, lN_i]
  · have t : tC B n i = byB B n (tkS B n (psT B n i)) := t
    rw [k] at h22
    rw [← t] at hg
    obtain ⟨g6, g7, g8, g9⟩ := sg_6 hg
    have g1 : -1 < tC B n i := Int32.lt_trans (by decide) g6
    by_cases c1 : tC B n i = 45
    · rw [if_neg g7, if_neg (fun q => q.1 g1), if_pos c1]
      rw [if_pos c1] at s45
      have := hTN i M hv h c1
      rw [hA]
      simp only [zokM_0, zokM_1, zokM_2, zokM_3, zokM_4, zokM_5, zokM_6, zokM_7, zokM_8, zokM_9, zokM_10, zokM_11, zokM_12, zokM_13, zokM_14, zokM_15, zlaM_1, zlaM_2, zlaM_3, zlaM_4, zlaM_5, zlaM_6, zlaM_7, zlaM_8, zlaM_9, zlaM_10, zlaM_11, zlaM_12, zlaM_13, zlaM_14, zlaM_15, zp_1, zp_h, zp_r, zp_l, zletE, obs, spMe_0, spMe_1, spMe_2, spMe_3, spMe_4, spMe_5, spMe_6, spMe_7, spMe_8, spMe_9, spMe_10, spMe_11, spMe_12, spMe_13, spMe_14, spMe_15, hM.1, s45, if_neg n10]
      exact this
    · rw [if_neg c1] at s45
      by_cases c2 : tC B n i = 40
      · rw [if_neg g7, if_neg (fun q => q.1 g1), if_neg c1, if_pos c2]
        rw [if_pos c2] at s40
        have := hTP i M hv h c2
        rw [hA]
        simp only [zokM_0, zokM_1, zokM_2, zokM_3, zokM_4, zokM_5, zokM_6, zokM_7, zokM_8, zokM_9, zokM_10, zokM_11, zokM_12, zokM_13, zokM_14, zokM_15, zlaM_1, zlaM_2, zlaM_3, zlaM_4, zlaM_5, zlaM_6, zlaM_7, zlaM_8, zlaM_9, zlaM_10, zlaM_11, zlaM_12, zlaM_13, zlaM_14, zlaM_15, zp_1, zp_h, zp_r, zp_l, zletE, obs, spMe_0, spMe_1, spMe_2, spMe_3, spMe_4, spMe_5, spMe_6, spMe_7, spMe_8, spMe_9, spMe_10, spMe_11, spMe_12, spMe_13, spMe_14, spMe_15, hM.1, s45, s40, if_true, if_neg n10]
        exact this
      · rw [if_neg c2] at s40
        refine bad g7 g1 c1 c2 ?_
        rw [hA]
        simp only [zokM_0, zokM_1, zokM_2, zokM_3, zokM_4, zokM_5, zokM_6, zokM_7, zokM_8, zokM_9, zokM_10, zokM_11, zokM_12, zokM_13, zokM_14, zokM_15, zlaM_1, zlaM_2, zlaM_3, zlaM_4, zlaM_5, zlaM_6, zlaM_7, zlaM_8, zlaM_9, zlaM_10, zlaM_11, zlaM_12, zlaM_13, zlaM_14, zlaM_15, zp_1, zp_h, zp_r, zp_l, zletE, obs, spMe_0, spMe_1, spMe_2, spMe_3, spMe_4, spMe_5, spMe_6, spMe_7, spMe_8, spMe_9, spMe_10, spMe_11, spMe_12, spMe_13, spMe_14, spMe_15, hM.1, s45, s40, if_true, h26, h22, if_neg (show ¬ nI 3 = (2 : Int32) by decide), hJ, if_neg (show ¬ nI 3 = (1 : Int32) by decide), hW, m_fail hM h26]
  · have t : tC B n i = 9 := t
    rw [k] at h22
    have c1 : ¬ tC B n i = 45 := by rw [t]; decide
    have c2 : ¬ tC B n i = 40 := by rw [t]; decide
    rw [if_neg c1] at s45
    rw [if_neg c2] at s40
    refine bad (by rw [t]; decide) (by rw [t]; decide) c1 c2 ?_
    rw [hA]
    simp only [zokM_0, zokM_1, zokM_2, zokM_3, zokM_4, zokM_5, zokM_6, zokM_7, zokM_8, zokM_9, zokM_10, zokM_11, zokM_12, zokM_13, zokM_14, zokM_15, zlaM_1, zlaM_2, zlaM_3, zlaM_4, zlaM_5, zlaM_6, zlaM_7, zlaM_8, zlaM_9, zlaM_10, zlaM_11, zlaM_12, zlaM_13, zlaM_14, zlaM_15, zp_1, zp_h, zp_r, zp_l, zletE, obs, spMe_0, spMe_1, spMe_2, spMe_3, spMe_4, spMe_5, spMe_6, spMe_7, spMe_8, spMe_9, spMe_10, spMe_11, spMe_12, spMe_13, spMe_14, spMe_15, hM.1, s45, s40, if_true, h26, h22, if_neg (show ¬ nI 4 = (2 : Int32) by decide), hJ, if_neg (show ¬ nI 4 = (1 : Int32) by decide), hW, m_fail hM h26]
