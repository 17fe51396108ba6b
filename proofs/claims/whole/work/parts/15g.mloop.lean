/-! the reference's reading of the grammar -/
def RdM (B : Nat → Int32) (n b o : Nat) (M0 : zS) (R : Option (Int32 × zS)) : PR → Prop
  | .inl e => ∃ v M', R = some (v, M') ∧ scrM M0 M' ∧ M'.2.1 0 26 = 1 ∧ M'.2.1 0 27 = nI (tkS B n (psT B n e))
  | .inr (i', _, v) => ∃ M', R = some (v (envM M0), M') ∧ AtM B n b o i' M' ∧ scrM M0 M'
def PsM (B : Nat → Int32) (n b o : Nat) (f : zS → Option (Int32 × zS)) (p : Nat → PR) : Prop := ∀ i M, vt B n i → AtM B n b o i M → RdM B n b o M (f M) (p i)
theorem lp_m {B : Nat → Int32} {n b o : Nat} {F : Nat → Int32 → zS → Option (Int32 × zS)} {sub : zS → Option (Int32 × zS)} {p : Nat → PR} {op : Nat → Int32} {h : Nat}
    (hstop : ∀ f y M i, AtM B n b o i M → op i = 0 → F (f + 1) y M = some (y, M))
    (hgo : ∀ f y M i, AtM B n b o i M → ¬ op i = 0 → ∃ M1, AtM B n b o (i + 1) M1 ∧ scrM M M1 ∧ ∀ v M2, shM M2 → sub M1 = some (v, M2) → F (f + 1) y M = F f (bo (op i) y v) M2)
    (hdead : ∀ f y M, shM M → M.2.1 0 26 = 1 → F (f + 1) y M = some (y, M))
    (hop : OkOp B n op) (hok : OkF B n h p) (hp : PsM B n b o sub p) :
    ∀ (m i f : Nat) (M0 M : zS) (cs : List Int32) (v : (Nat → Int32) → Int32), vt B n i → AtM B n b o i M → scrM M0 M → n ≤ i + m → m < f → RdM B n b o M0 (F f (v (envM M0)) M) (lpP p op m i cs v)
  | m, i, 0, _, _, _, _, _, _, _, _, q => by omega
  | 0, i, f + 1, M0, M, cs, v, hv, hA, hs, hn, _ => by
    have h8 := vt_end hv (by omega)
    have h0 : op i = 0 := by
      by_cases c : op i = 0
      · exact c
      · exact absurd h8 (hop i c).1.1
    rw [lpP]
    exact ⟨M, hstop f _ M i hA h0, hA, hs⟩
  | m + 1, i, f + 1, M0, M, cs, v, hv, hA, hs, hn, hf => by
    rw [lpP]
    by_cases c : op i = 0
    · rw [if_pos c]
      exact ⟨M, hstop f _ M i hA c, hA, hs⟩
    · rw [if_neg c]
      obtain ⟨⟨q8, q9⟩, -⟩ := hop i c
      obtain ⟨M1, a1, a2, a3⟩ := hgo f (v (envM M0)) M i hA c
      have hv1 := vt_s hv q8 q9
      have hr := hp (i + 1) M1 hv1 a1
      have hk := hok (i + 1) hv1
      cases hpi : p (i + 1) with
      | inl e =>
        rw [hpi] at hr
        obtain ⟨w, M2, b1, b2, b3, b4⟩ := hr
        obtain ⟨f', rfl⟩ : ∃ f', f = f' + 1 := ⟨f - 1, by omega⟩
        have hM2 : shM M2 := b2.sh a1.1.1
        exact ⟨_, M2, (a3 w M2 hM2 b1).trans (hdead f' _ M2 hM2 b3), (hs.tr a2).tr b2, b3, b4⟩
      | inr r =>
        obtain ⟨i', cs', v'⟩ := r
        rw [hpi] at hr hk
        obtain ⟨M2, b1, b2, b3⟩ := hr
        obtain ⟨k1, k2, -, -⟩ := hk
        have e1 : envM M1 = envM M0 := a2.env.trans hs.env
        have := lp_m hstop hgo hdead hop hok hp m i' f M0 M2 (cs ++ cs' ++ [op i]) (fun e => bo (op i) (v e) (v' e)) k2 b2 ((hs.tr a2).tr b3) (by omega) (by omega)
        rw [a3 _ M2 b2.1.1 b1, e1]
        exact this
theorem ch_m {B : Nat → Int32} {n b o : Nat} {F : Nat → Int32 → zS → Option (Int32 × zS)} {G sub : zS → Option (Int32 × zS)} {p : Nat → PR} {op : Nat → Int32} {h : Nat}
    (hG : ∀ M v M', shM M → sub M = some (v, M') → G M = F zF v M')
    (hstop : ∀ f y M i, AtM B n b o i M → op i = 0 → F (f + 1) y M = some (y, M))
    (hgo : ∀ f y M i, AtM B n b o i M → ¬ op i = 0 → ∃ M1, AtM B n b o (i + 1) M1 ∧ scrM M M1 ∧ ∀ v M2, shM M2 → sub M1 = some (v, M2) → F (f + 1) y M = F f (bo (op i) y v) M2)
    (hdead : ∀ f y M, shM M → M.2.1 0 26 = 1 → F (f + 1) y M = some (y, M))
    (hop : OkOp B n op) (hok : OkF B n h p) (hp : PsM B n b o sub p) : PsM B n b o G (chP p op) := fun i M hv hA => by
  have hr := hp i M hv hA
  have hk := hok i hv
  unfold chP
  cases hpi : p i with
  | inl e =>
    rw [hpi] at hr
    obtain ⟨w, M2, b1, b2, b3, b4⟩ := hr
    have hM2 : shM M2 := b2.sh hA.1.1
    exact ⟨_, M2, (hG M w M2 hA.1.1 b1).trans (hdead 4999 _ M2 hM2 b3), b2, b3, b4⟩
  | inr r =>
    obtain ⟨i', cs', v'⟩ := r
    rw [hpi] at hr hk
    obtain ⟨M2, b1, b2, b3⟩ := hr
    obtain ⟨k1, k2, -, -⟩ := hk
    rw [hG M _ M2 hA.1.1 b1]
    have hn := hA.1.2.2.2.1
    exact lp_m hstop hgo hdead hop hok hp 160 i' zF M M2 cs' v' k2 b2 b3 (by omega) (by decide)
/-! `*` -/
theorem tm_m {B : Nat → Int32} {n b o : Nat} {F : Nat → Int32 → zS → Option (Int32 × zS)} {G : zS → Option (Int32 × zS)} {sub : Nat → zS → Option (Int32 × zS)} {p : Nat → PR} {h : Nat}
    (hF : ∀ n y1 st, F (n + 1) y1 st = (zok spM st (some 0) 8).bind fun o7 => (fX8_isSign o7 (42 : Int32) st).bind fun q1 => if q1.1 = 0 then (some (y1, q1.2)) else ((zok spM q1.2 (some 0) 8).bind fun o6 => (fX8_next o6 q1.2).bind fun q2 => (zok spM q2.2 (some 0) 8).bind fun o5 => (sub o5 q2.2).bind fun q3 => zlet ((y1 * q3.1)) fun v4 => F n v4 q3.2))
    (hG : ∀ st, G st = (zok spM st (some 0) 8).bind fun o10 => (sub o10 st).bind fun q8 => zlet (q8.1) fun v9 => F zF v9 q8.2)
    (hok : OkF B n h p) (hp : PsM B n b o (sub 0) p) : PsM B n b o G (chP p (oTm (tC B n))) := by
  refine ch_m (F := F) (fun M v M' hM e => ?_) (fun f y M i hA c => ?_) (fun f y M i hA c => ?_) (fun f y M hM h26 => ?_) (okTm B n) hok hp
  · rw [hG]
    simp only [zokM_0, zokM_1, zokM_2, zokM_3, zokM_4, zokM_5, zokM_6, zokM_7, zokM_8, zokM_9, zokM_10, zokM_11, zokM_12, zokM_13, zokM_14, zokM_15, zlaM_1, zlaM_2, zlaM_3, zlaM_4, zlaM_5, zlaM_6, zlaM_7, zlaM_8, zlaM_9, zlaM_10, zlaM_11, zlaM_12, zlaM_13, zlaM_14, zlaM_15, zp_1, zp_h, zp_r, zp_l, zletE, obs, spMe_0, spMe_1, spMe_2, spMe_3, spMe_4, spMe_5, spMe_6, spMe_7, spMe_8, spMe_9, spMe_10, spMe_11, spMe_12, spMe_13, spMe_14, spMe_15, hM.1, e]
  · have c2 : ¬ tC B n i = 42 := fun q => by unfold oTm at c; rw [if_pos q] at c; exact absurd c (by decide)
    have hM := hA.1.1
    rw [hF]
    simp only [zokM_0, zokM_1, zokM_2, zokM_3, zokM_4, zokM_5, zokM_6, zokM_7, zokM_8, zokM_9, zokM_10, zokM_11, zokM_12, zokM_13, zokM_14, zokM_15, zlaM_1, zlaM_2, zlaM_3, zlaM_4, zlaM_5, zlaM_6, zlaM_7, zlaM_8, zlaM_9, zlaM_10, zlaM_11, zlaM_12, zlaM_13, zlaM_14, zlaM_15, zp_1, zp_h, zp_r, zp_l, zletE, obs, spMe_0, spMe_1, spMe_2, spMe_3, spMe_4, spMe_5, spMe_6, spMe_7, spMe_8, spMe_9, spMe_10, spMe_11, spMe_12, spMe_13, spMe_14, spMe_15, hM.1, m_sign hA (c := 42) (by decide), if_neg c2, if_true]
  · have c2 : tC B n i = 42 := by
      unfold oTm at c
      by_cases d : tC B n i = 42
      · exact d
      · rw [if_neg d] at c; exact absurd rfl c
    have hM := hA.1.1
    obtain ⟨M1, y1, y2, y3⟩ := m_nxt hA c2 (by decide) (by decide)
    refine ⟨M1, y2, y3, fun v M2 _ e => ?_⟩
    have e1 : oTm (tC B n) i = -13 := by unfold oTm; rw [if_pos c2]
    rw [hF, e1]
    simp only [zokM_0, zokM_1, zokM_2, zokM_3, zokM_4, zokM_5, zokM_6, zokM_7, zokM_8, zokM_9, zokM_10, zokM_11, zokM_12, zokM_13, zokM_14, zokM_15, zlaM_1, zlaM_2, zlaM_3, zlaM_4, zlaM_5, zlaM_6, zlaM_7, zlaM_8, zlaM_9, zlaM_10, zlaM_11, zlaM_12, zlaM_13, zlaM_14, zlaM_15, zp_1, zp_h, zp_r, zp_l, zletE, obs, spMe_0, spMe_1, spMe_2, spMe_3, spMe_4, spMe_5, spMe_6, spMe_7, spMe_8, spMe_9, spMe_10, spMe_11, spMe_12, spMe_13, spMe_14, spMe_15, hM.1, y2.1.1.1, m_sign hA (c := 42) (by decide), if_pos c2, if_neg n10, y1, e]
    rfl
  · rw [hF]
    simp only [zokM_0, zokM_1, zokM_2, zokM_3, zokM_4, zokM_5, zokM_6, zokM_7, zokM_8, zokM_9, zokM_10, zokM_11, zokM_12, zokM_13, zokM_14, zokM_15, zlaM_1, zlaM_2, zlaM_3, zlaM_4, zlaM_5, zlaM_6, zlaM_7, zlaM_8, zlaM_9, zlaM_10, zlaM_11, zlaM_12, zlaM_13, zlaM_14, zlaM_15, zp_1, zp_h, zp_r, zp_l, zletE, obs, spMe_0, spMe_1, spMe_2, spMe_3, spMe_4, spMe_5, spMe_6, spMe_7, spMe_8, spMe_9, spMe_10, spMe_11, spMe_12, spMe_13, spMe_14, spMe_15, hM.1, m_sign1 hM h26, if_true]
/-! `+` and `-` -/
theorem sm_m {B : Nat → Int32} {n b o : Nat} {F : Nat → Int32 → zS → Option (Int32 × zS)} {J : Nat → Int32 → zS → Option (Int32 × zS)} {K : Nat → Int32 → Int32 → zS → Option (Int32 × zS)} {G : zS → Option (Int32 × zS)} {sub : Nat → zS → Option (Int32 × zS)} {p : Nat → PR} {h : Nat}
    (hF : ∀ n y1 st, F (n + 1) y1 st = (zok spM st (some 0) 8).bind fun o10 => (fX8_isSign o10 (43 : Int32) st).bind fun q7 => if q7.1 = 0 then ((zok spM q7.2 (some 0) 8).bind fun o9 => (fX8_isSign o9 (45 : Int32) q7.2).bind fun q8 => if q8.1 = 0 then (some (y1, q8.2)) else (J n y1 q8.2)) else (J n y1 q7.2))
    (hJ : ∀ n y1 st, J n y1 st = (zok spM st (some 0) 8).bind fun o6 => if (lg_cmp (st.2.2.1 o6) (43 : Int64)) = 0 then (K n y1 (1 : Int32) st) else (K n y1 (0 : Int32) st))
    (hK : ∀ n y1 s0 st, K n y1 s0 st = (zok spM st (some 0) 8).bind fun o5 => (fX8_next o5 st).bind fun q1 => (zok spM q1.2 (some 0) 8).bind fun o4 => (sub o4 q1.2).bind fun q2 => zlet (q2.1) fun v3 => if s0 = 0 then (F n (y1 - v3) q2.2) else (F n (y1 + v3) q2.2))
    (hG : ∀ st, G st = (zok spM st (some 0) 8).bind fun o10 => (sub o10 st).bind fun q8 => zlet (q8.1) fun v9 => F zF v9 q8.2)
    (hok : OkF B n h p) (hp : PsM B n b o (sub 0) p) : PsM B n b o G (chP p (oSm (tC B n))) := by
  refine ch_m (F := F) (fun M v M' hM e => ?_) (fun f y M i hA c => ?_) (fun f y M i hA c => ?_) (fun f y M hM h26 => ?_) (okSm B n) hok hp
  · rw [hG]
    simp only [zokM_0, zokM_1, zokM_2, zokM_3, zokM_4, zokM_5, zokM_6, zokM_7, zokM_8, zokM_9, zokM_10, zokM_11, zokM_12, zokM_13, zokM_14, zokM_15, zlaM_1, zlaM_2, zlaM_3, zlaM_4, zlaM_5, zlaM_6, zlaM_7, zlaM_8, zlaM_9, zlaM_10, zlaM_11, zlaM_12, zlaM_13, zlaM_14, zlaM_15, zp_1, zp_h, zp_r, zp_l, zletE, obs, spMe_0, spMe_1, spMe_2, spMe_3, spMe_4, spMe_5, spMe_6, spMe_7, spMe_8, spMe_9, spMe_10, spMe_11, spMe_12, spMe_13, spMe_14, spMe_15, hM.1, e]
  · have c2 : ¬ tC B n i = 43 := fun q => by unfold oSm at c; rw [if_pos q] at c; exact absurd c (by decide)
    have c3 : ¬ tC B n i = 45 := fun q => by unfold oSm at c; rw [if_neg c2, if_pos q] at c; exact absurd c (by decide)
    have hM := hA.1.1
    rw [hF]
    simp only [zokM_0, zokM_1, zokM_2, zokM_3, zokM_4, zokM_5, zokM_6, zokM_7, zokM_8, zokM_9, zokM_10, zokM_11, zokM_12, zokM_13, zokM_14, zokM_15, zlaM_1, zlaM_2, zlaM_3, zlaM_4, zlaM_5, zlaM_6, zlaM_7, zlaM_8, zlaM_9, zlaM_10, zlaM_11, zlaM_12, zlaM_13, zlaM_14, zlaM_15, zp_1, zp_h, zp_r, zp_l, zletE, obs, spMe_0, spMe_1, spMe_2, spMe_3, spMe_4, spMe_5, spMe_6, spMe_7, spMe_8, spMe_9, spMe_10, spMe_11, spMe_12, spMe_13, spMe_14, spMe_15, hM.1, m_sign hA (c := 43) (by decide), m_sign hA (c := 45) (by decide), if_neg c2, if_neg c3, if_true]
  · have hM := hA.1.1
    have lg : ∀ c : Int32, tC B n i = c → isSg c = true → M.2.2.1 0 = c.toInt64 := fun c hc hg => by
      obtain ⟨-, -, -, -, ⟨x1, x2, x3, x4, x5⟩, -⟩ := hA
      obtain ⟨c6, c7, c8, c9⟩ := sg_6 hg
      have hc : tkC B n (psT B n i) = c := hc
      rcases tk_kinds B n (psT B n i) with ⟨k, t⟩ | ⟨k, hl, t, te⟩ | ⟨k, t⟩ | ⟨k, hg, t⟩ | ⟨k, t⟩
      · exact absurd (hc.symm.trans t) c8
      · have q := hc.symm.trans t
        rcases (wdC_6 B n (tkS B n (psT B n i)) (tkE B n (psT B n i))).2.1 with w | w
        · rw [← q] at w; exact absurd c6 w
        · rw [← q] at w; exact absurd w c9
      · exact absurd (hc.symm.trans t) c7
      · rw [x5 k, ← hc, t]
      · exact absurd (hc.symm.trans t) c9
    by_cases c2 : tC B n i = 43
    · obtain ⟨M1, y1, y2, y3⟩ := m_nxt hA c2 (by decide) (by decide)
      refine ⟨M1, y2, y3, fun v M2 _ e => ?_⟩
      have e1 : oSm (tC B n) i = -11 := by unfold oSm; rw [if_pos c2]
      have e2 : lg_cmp (M.2.2.1 0) 43 = 0 := by rw [lg 43 c2 (by decide)]; decide
      rw [hF, e1]
      simp only [zokM_0, zokM_1, zokM_2, zokM_3, zokM_4, zokM_5, zokM_6, zokM_7, zokM_8, zokM_9, zokM_10, zokM_11, zokM_12, zokM_13, zokM_14, zokM_15, zlaM_1, zlaM_2, zlaM_3, zlaM_4, zlaM_5, zlaM_6, zlaM_7, zlaM_8, zlaM_9, zlaM_10, zlaM_11, zlaM_12, zlaM_13, zlaM_14, zlaM_15, zp_1, zp_h, zp_r, zp_l, zletE, obs, spMe_0, spMe_1, spMe_2, spMe_3, spMe_4, spMe_5, spMe_6, spMe_7, spMe_8, spMe_9, spMe_10, spMe_11, spMe_12, spMe_13, spMe_14, spMe_15, hM.1, y2.1.1.1, m_sign hA (c := 43) (by decide), if_pos c2, if_neg n10, hJ, hK, e2, if_true, y1, e]
      rfl
    · have c3 : tC B n i = 45 := by
        unfold oSm at c
        rw [if_neg c2] at c
        by_cases d : tC B n i = 45
        · exact d
        · rw [if_neg d] at c; exact absurd rfl c
      obtain ⟨M1, y1, y2, y3⟩ := m_nxt hA c3 (by decide) (by decide)
      refine ⟨M1, y2, y3, fun v M2 _ e => ?_⟩
      have e1 : oSm (tC B n) i = -12 := by unfold oSm; rw [if_neg c2, if_pos c3]
      have e2 : ¬ lg_cmp (M.2.2.1 0) 43 = 0 := by rw [lg 45 c3 (by decide)]; decide
      rw [hF, e1]
      simp only [zokM_0, zokM_1, zokM_2, zokM_3, zokM_4, zokM_5, zokM_6, zokM_7, zokM_8, zokM_9, zokM_10, zokM_11, zokM_12, zokM_13, zokM_14, zokM_15, zlaM_1, zlaM_2, zlaM_3, zlaM_4, zlaM_5, zlaM_6, zlaM_7, zlaM_8, zlaM_9, zlaM_10, zlaM_11, zlaM_12, zlaM_13, zlaM_14, zlaM_15, zp_1, zp_h, zp_r, zp_l, zletE, obs, spMe_0, spMe_1, spMe_2, spMe_3, spMe_4, spMe_5, spMe_6, spMe_7, spMe_8, spMe_9, spMe_10, spMe_11, spMe_12, spMe_13, spMe_14, spMe_15, hM.1, y2.1.1.1, m_sign hA (c := 43) (by decide), m_sign hA (c := 45) (by decide), if_neg c2, if_pos c3, if_neg n10, hJ, hK, if_neg e2, if_true, y1, e]
      rfl
  · rw [hF]
    simp only [zokM_0, zokM_1, zokM_2, zokM_3, zokM_4, zokM_5, zokM_6, zokM_7, zokM_8, zokM_9, zokM_10, zokM_11, zokM_12, zokM_13, zokM_14, zokM_15, zlaM_1, zlaM_2, zlaM_3, zlaM_4, zlaM_5, zlaM_6, zlaM_7, zlaM_8, zlaM_9, zlaM_10, zlaM_11, zlaM_12, zlaM_13, zlaM_14, zlaM_15, zp_1, zp_h, zp_r, zp_l, zletE, obs, spMe_0, spMe_1, spMe_2, spMe_3, spMe_4, spMe_5, spMe_6, spMe_7, spMe_8, spMe_9, spMe_10, spMe_11, spMe_12, spMe_13, spMe_14, spMe_15, hM.1, m_sign1 hM h26, if_true]
/-! and, or -/
theorem bt_m {B : Nat → Int32} {n b o : Nat} {F : Nat → Int32 → zS → Option (Int32 × zS)} {G : zS → Option (Int32 × zS)} {sub : Nat → zS → Option (Int32 × zS)} {p : Nat → PR} {h : Nat}
    (hF : ∀ n y1 st, F (n + 1) y1 st = (zok spM st (some 0) 8).bind fun o7 => (fX8_isWord o7 (97 : Int32) (110 : Int32) (100 : Int32) (0 : Int32) (0 : Int32) (0 : Int32) (0 : Int32) (0 : Int32) st).bind fun q1 => if q1.1 = 0 then (some (y1, q1.2)) else ((zok spM q1.2 (some 0) 8).bind fun o6 => (fX8_next o6 q1.2).bind fun q2 => (zok spM q2.2 (some 0) 8).bind fun o5 => (sub o5 q2.2).bind fun q3 => zlet (q3.1) fun v4 => if y1 = 0 then (F n 0 q3.2) else (if v4 = 0 then (F n 0 q3.2) else (F n (1 : Int32) q3.2))))
    (hG : ∀ st, G st = (zok spM st (some 0) 8).bind fun o10 => (sub o10 st).bind fun q8 => zlet (q8.1) fun v9 => F zF v9 q8.2)
    (hok : OkF B n h p) (hp : PsM B n b o (sub 0) p) : PsM B n b o G (chP p (oBt (tC B n))) := by
  refine ch_m (F := F) (fun M v M' hM e => ?_) (fun f y M i hA c => ?_) (fun f y M i hA c => ?_) (fun f y M hM h26 => ?_) (okBt B n) hok hp
  · rw [hG]
    simp only [zokM_0, zokM_1, zokM_2, zokM_3, zokM_4, zokM_5, zokM_6, zokM_7, zokM_8, zokM_9, zokM_10, zokM_11, zokM_12, zokM_13, zokM_14, zokM_15, zlaM_1, zlaM_2, zlaM_3, zlaM_4, zlaM_5, zlaM_6, zlaM_7, zlaM_8, zlaM_9, zlaM_10, zlaM_11, zlaM_12, zlaM_13, zlaM_14, zlaM_15, zp_1, zp_h, zp_r, zp_l, zletE, obs, spMe_0, spMe_1, spMe_2, spMe_3, spMe_4, spMe_5, spMe_6, spMe_7, spMe_8, spMe_9, spMe_10, spMe_11, spMe_12, spMe_13, spMe_14, spMe_15, hM.1, e]
  · have c2 : ¬ tC B n i = 2 := fun q => by unfold oBt at c; rw [if_pos q] at c; exact absurd c (by decide)
    have hM := hA.1.1
    have hw := m_isW hA (j := 10) (by decide) (a1 := 97) (a2 := 110) (a3 := 100) (a4 := 0) (a5 := 0) (a6 := 0) (a7 := 0) (a8 := 0) rfl
    rw [show cdW 10 = 2 from rfl, if_neg c2] at hw
    rw [hF]
    simp only [zokM_0, zokM_1, zokM_2, zokM_3, zokM_4, zokM_5, zokM_6, zokM_7, zokM_8, zokM_9, zokM_10, zokM_11, zokM_12, zokM_13, zokM_14, zokM_15, zlaM_1, zlaM_2, zlaM_3, zlaM_4, zlaM_5, zlaM_6, zlaM_7, zlaM_8, zlaM_9, zlaM_10, zlaM_11, zlaM_12, zlaM_13, zlaM_14, zlaM_15, zp_1, zp_h, zp_r, zp_l, zletE, obs, spMe_0, spMe_1, spMe_2, spMe_3, spMe_4, spMe_5, spMe_6, spMe_7, spMe_8, spMe_9, spMe_10, spMe_11, spMe_12, spMe_13, spMe_14, spMe_15, hM.1, hw, if_true]
  · have c2 : tC B n i = 2 := by
      unfold oBt at c
      by_cases d : tC B n i = 2
      · exact d
      · rw [if_neg d] at c; exact absurd rfl c
    have hM := hA.1.1
    have hw := m_isW hA (j := 10) (by decide) (a1 := 97) (a2 := 110) (a3 := 100) (a4 := 0) (a5 := 0) (a6 := 0) (a7 := 0) (a8 := 0) rfl
    rw [show cdW 10 = 2 from rfl, if_pos c2] at hw
    obtain ⟨M1, y1, y2, y3⟩ := m_nxt hA c2 (by decide) (by decide)
    refine ⟨M1, y2, y3, fun v M2 _ e => ?_⟩
    have e1 : oBt (tC B n) i = -16 := by unfold oBt; rw [if_pos c2]
    rw [hF, e1]
    have eb : bo (-16) y v = (if y = 0 then 0 else if v = 0 then 0 else 1) := rfl
    rw [eb]
    by_cases d1 : y = 0
    · simp only [zokM_0, zokM_1, zokM_2, zokM_3, zokM_4, zokM_5, zokM_6, zokM_7, zokM_8, zokM_9, zokM_10, zokM_11, zokM_12, zokM_13, zokM_14, zokM_15, zlaM_1, zlaM_2, zlaM_3, zlaM_4, zlaM_5, zlaM_6, zlaM_7, zlaM_8, zlaM_9, zlaM_10, zlaM_11, zlaM_12, zlaM_13, zlaM_14, zlaM_15, zp_1, zp_h, zp_r, zp_l, zletE, obs, spMe_0, spMe_1, spMe_2, spMe_3, spMe_4, spMe_5, spMe_6, spMe_7, spMe_8, spMe_9, spMe_10, spMe_11, spMe_12, spMe_13, spMe_14, spMe_15, hM.1, y2.1.1.1, hw, if_neg n10, y1, e, if_pos d1]
    · by_cases d2 : v = 0
      · simp only [zokM_0, zokM_1, zokM_2, zokM_3, zokM_4, zokM_5, zokM_6, zokM_7, zokM_8, zokM_9, zokM_10, zokM_11, zokM_12, zokM_13, zokM_14, zokM_15, zlaM_1, zlaM_2, zlaM_3, zlaM_4, zlaM_5, zlaM_6, zlaM_7, zlaM_8, zlaM_9, zlaM_10, zlaM_11, zlaM_12, zlaM_13, zlaM_14, zlaM_15, zp_1, zp_h, zp_r, zp_l, zletE, obs, spMe_0, spMe_1, spMe_2, spMe_3, spMe_4, spMe_5, spMe_6, spMe_7, spMe_8, spMe_9, spMe_10, spMe_11, spMe_12, spMe_13, spMe_14, spMe_15, hM.1, y2.1.1.1, hw, if_neg n10, y1, e, if_neg d1, if_pos d2]
      · simp only [zokM_0, zokM_1, zokM_2, zokM_3, zokM_4, zokM_5, zokM_6, zokM_7, zokM_8, zokM_9, zokM_10, zokM_11, zokM_12, zokM_13, zokM_14, zokM_15, zlaM_1, zlaM_2, zlaM_3, zlaM_4, zlaM_5, zlaM_6, zlaM_7, zlaM_8, zlaM_9, zlaM_10, zlaM_11, zlaM_12, zlaM_13, zlaM_14, zlaM_15, zp_1, zp_h, zp_r, zp_l, zletE, obs, spMe_0, spMe_1, spMe_2, spMe_3, spMe_4, spMe_5, spMe_6, spMe_7, spMe_8, spMe_9, spMe_10, spMe_11, spMe_12, spMe_13, spMe_14, spMe_15, hM.1, y2.1.1.1, hw, if_neg n10, y1, e, if_neg d1, if_neg d2]
  · rw [hF]
    simp only [zokM_0, zokM_1, zokM_2, zokM_3, zokM_4, zokM_5, zokM_6, zokM_7, zokM_8, zokM_9, zokM_10, zokM_11, zokM_12, zokM_13, zokM_14, zokM_15, zlaM_1, zlaM_2, zlaM_3, zlaM_4, zlaM_5, zlaM_6, zlaM_7, zlaM_8, zlaM_9, zlaM_10, zlaM_11, zlaM_12, zlaM_13, zlaM_14, zlaM_15, zp_1, zp_h, zp_r, zp_l, zletE, obs, spMe_0, spMe_1, spMe_2, spMe_3, spMe_4, spMe_5, spMe_6, spMe_7, spMe_8, spMe_9, spMe_10, spMe_11, spMe_12, spMe_13, spMe_14, spMe_15, hM.1, m_word1 hM h26, if_true]
theorem et_m {B : Nat → Int32} {n b o : Nat} {F : Nat → Int32 → zS → Option (Int32 × zS)} {G : zS → Option (Int32 × zS)} {sub : Nat → zS → Option (Int32 × zS)} {p : Nat → PR} {h : Nat}
    (hF : ∀ n y1 st, F (n + 1) y1 st = (zok spM st (some 0) 8).bind fun o7 => (fX8_isWord o7 (111 : Int32) (114 : Int32) (0 : Int32) (0 : Int32) (0 : Int32) (0 : Int32) (0 : Int32) (0 : Int32) st).bind fun q1 => if q1.1 = 0 then (some (y1, q1.2)) else ((zok spM q1.2 (some 0) 8).bind fun o6 => (fX8_next o6 q1.2).bind fun q2 => (zok spM q2.2 (some 0) 8).bind fun o5 => (sub o5 q2.2).bind fun q3 => zlet (q3.1) fun v4 => if y1 = 0 then (if v4 = 0 then (F n (0 : Int32) q3.2) else (F n 1 q3.2)) else (F n 1 q3.2)))
    (hG : ∀ st, G st = (zok spM st (some 0) 8).bind fun o10 => (sub o10 st).bind fun q8 => zlet (q8.1) fun v9 => F zF v9 q8.2)
    (hok : OkF B n h p) (hp : PsM B n b o (sub 0) p) : PsM B n b o G (chP p (oEt (tC B n))) := by
  refine ch_m (F := F) (fun M v M' hM e => ?_) (fun f y M i hA c => ?_) (fun f y M i hA c => ?_) (fun f y M hM h26 => ?_) (okEt B n) hok hp
  · rw [hG]
    simp only [zokM_0, zokM_1, zokM_2, zokM_3, zokM_4, zokM_5, zokM_6, zokM_7, zokM_8, zokM_9, zokM_10, zokM_11, zokM_12, zokM_13, zokM_14, zokM_15, zlaM_1, zlaM_2, zlaM_3, zlaM_4, zlaM_5, zlaM_6, zlaM_7, zlaM_8, zlaM_9, zlaM_10, zlaM_11, zlaM_12, zlaM_13, zlaM_14, zlaM_15, zp_1, zp_h, zp_r, zp_l, zletE, obs, spMe_0, spMe_1, spMe_2, spMe_3, spMe_4, spMe_5, spMe_6, spMe_7, spMe_8, spMe_9, spMe_10, spMe_11, spMe_12, spMe_13, spMe_14, spMe_15, hM.1, e]
  · have c2 : ¬ tC B n i = 1 := fun q => by unfold oEt at c; rw [if_pos q] at c; exact absurd c (by decide)
    have hM := hA.1.1
    have hw := m_isW hA (j := 9) (by decide) (a1 := 111) (a2 := 114) (a3 := 0) (a4 := 0) (a5 := 0) (a6 := 0) (a7 := 0) (a8 := 0) rfl
    rw [show cdW 9 = 1 from rfl, if_neg c2] at hw
    rw [hF]
    simp only [zokM_0, zokM_1, zokM_2, zokM_3, zokM_4, zokM_5, zokM_6, zokM_7, zokM_8, zokM_9, zokM_10, zokM_11, zokM_12, zokM_13, zokM_14, zokM_15, zlaM_1, zlaM_2, zlaM_3, zlaM_4, zlaM_5, zlaM_6, zlaM_7, zlaM_8, zlaM_9, zlaM_10, zlaM_11, zlaM_12, zlaM_13, zlaM_14, zlaM_15, zp_1, zp_h, zp_r, zp_l, zletE, obs, spMe_0, spMe_1, spMe_2, spMe_3, spMe_4, spMe_5, spMe_6, spMe_7, spMe_8, spMe_9, spMe_10, spMe_11, spMe_12, spMe_13, spMe_14, spMe_15, hM.1, hw, if_true]
  · have c2 : tC B n i = 1 := by
      unfold oEt at c
      by_cases d : tC B n i = 1
      · exact d
      · rw [if_neg d] at c; exact absurd rfl c
    have hM := hA.1.1
    have hw := m_isW hA (j := 9) (by decide) (a1 := 111) (a2 := 114) (a3 := 0) (a4 := 0) (a5 := 0) (a6 := 0) (a7 := 0) (a8 := 0) rfl
    rw [show cdW 9 = 1 from rfl, if_pos c2] at hw
    obtain ⟨M1, y1, y2, y3⟩ := m_nxt hA c2 (by decide) (by decide)
    refine ⟨M1, y2, y3, fun v M2 _ e => ?_⟩
    have e1 : oEt (tC B n) i = -17 := by unfold oEt; rw [if_pos c2]
    rw [hF, e1]
    have eb : bo (-17) y v = (if y = 0 then (if v = 0 then 0 else 1) else 1) := rfl
    rw [eb]
    by_cases d1 : y = 0
    · by_cases d2 : v = 0
      · simp only [zokM_0, zokM_1, zokM_2, zokM_3, zokM_4, zokM_5, zokM_6, zokM_7, zokM_8, zokM_9, zokM_10, zokM_11, zokM_12, zokM_13, zokM_14, zokM_15, zlaM_1, zlaM_2, zlaM_3, zlaM_4, zlaM_5, zlaM_6, zlaM_7, zlaM_8, zlaM_9, zlaM_10, zlaM_11, zlaM_12, zlaM_13, zlaM_14, zlaM_15, zp_1, zp_h, zp_r, zp_l, zletE, obs, spMe_0, spMe_1, spMe_2, spMe_3, spMe_4, spMe_5, spMe_6, spMe_7, spMe_8, spMe_9, spMe_10, spMe_11, spMe_12, spMe_13, spMe_14, spMe_15, hM.1, y2.1.1.1, hw, if_neg n10, y1, e, if_pos d1, if_pos d2]
      · simp only [zokM_0, zokM_1, zokM_2, zokM_3, zokM_4, zokM_5, zokM_6, zokM_7, zokM_8, zokM_9, zokM_10, zokM_11, zokM_12, zokM_13, zokM_14, zokM_15, zlaM_1, zlaM_2, zlaM_3, zlaM_4, zlaM_5, zlaM_6, zlaM_7, zlaM_8, zlaM_9, zlaM_10, zlaM_11, zlaM_12, zlaM_13, zlaM_14, zlaM_15, zp_1, zp_h, zp_r, zp_l, zletE, obs, spMe_0, spMe_1, spMe_2, spMe_3, spMe_4, spMe_5, spMe_6, spMe_7, spMe_8, spMe_9, spMe_10, spMe_11, spMe_12, spMe_13, spMe_14, spMe_15, hM.1, y2.1.1.1, hw, if_neg n10, y1, e, if_pos d1, if_neg d2]
    · simp only [zokM_0, zokM_1, zokM_2, zokM_3, zokM_4, zokM_5, zokM_6, zokM_7, zokM_8, zokM_9, zokM_10, zokM_11, zokM_12, zokM_13, zokM_14, zokM_15, zlaM_1, zlaM_2, zlaM_3, zlaM_4, zlaM_5, zlaM_6, zlaM_7, zlaM_8, zlaM_9, zlaM_10, zlaM_11, zlaM_12, zlaM_13, zlaM_14, zlaM_15, zp_1, zp_h, zp_r, zp_l, zletE, obs, spMe_0, spMe_1, spMe_2, spMe_3, spMe_4, spMe_5, spMe_6, spMe_7, spMe_8, spMe_9, spMe_10, spMe_11, spMe_12, spMe_13, spMe_14, spMe_15, hM.1, y2.1.1.1, hw, if_neg n10, y1, e, if_neg d1]
  · rw [hF]
    simp only [zokM_0, zokM_1, zokM_2, zokM_3, zokM_4, zokM_5, zokM_6, zokM_7, zokM_8, zokM_9, zokM_10, zokM_11, zokM_12, zokM_13, zokM_14, zokM_15, zlaM_1, zlaM_2, zlaM_3, zlaM_4, zlaM_5, zlaM_6, zlaM_7, zlaM_8, zlaM_9, zlaM_10, zlaM_11, zlaM_12, zlaM_13, zlaM_14, zlaM_15, zp_1, zp_h, zp_r, zp_l, zletE, obs, spMe_0, spMe_1, spMe_2, spMe_3, spMe_4, spMe_5, spMe_6, spMe_7, spMe_8, spMe_9, spMe_10, spMe_11, spMe_12, spMe_13, spMe_14, spMe_15, hM.1, m_word1 hM h26, if_true]
