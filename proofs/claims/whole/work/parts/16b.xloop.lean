/-! the class's reading of the grammar -/
abbrev zP : Type := Nat → Int32 → zS → Option (Unit × zS)
def RdX (B : Nat → Int32) (n t : Nat) (X0 : zS) (cs0 : List Int32) (R : Option (Unit × zS)) : PR → Prop
  | .inl e => ∃ X', R = some ((), X') ∧ FlX B n t e X' ∧ frE t X0 X'
  | .inr (i', cs, _) => ∃ X', R = some ((), X') ∧ AtX B n t i' (cs0 ++ cs) X' ∧ frE t X0 X'
def PsX (B : Nat → Int32) (n t : Nat) (d : Int32) (f : zP) (p : Nat → PR) : Prop := ∀ i cs X, vt B n i → cs.length ≤ i → AtX B n t i cs X → RdX B n t X cs (f 9 d X) (p i)
def DdX (B : Nat → Int32) (n t : Nat) (d : Int32) (f : zP) : Prop := ∀ e X, FlX B n t e X → ∃ X', f 9 d X = some ((), X') ∧ FlX B n t e X' ∧ frE t X X'
theorem lp_x {B : Nat → Int32} {n t : Nat} {d : Int32} {F : Nat → Int32 → Int32 → zS → Option (Unit × zS)} {sub : zP} {p : Nat → PR} {op : Nat → Int32} {h : Nat}
    (hstop : ∀ f c X i cs, c ≤ 160 → AtX B n t i cs X → (op i = 0 ∨ c = 160) → F (f + 1) d (nI c) X = some ((), X))
    (hgo : ∀ f c X i cs, c < 160 → vt B n i → AtX B n t i cs X → ¬ op i = 0 → ∃ X1, AtX B n t (i + 1) cs X1 ∧ frE t X X1 ∧ ∀ X2 X3, shX X2 → shX X3 → sub 9 d X1 = some ((), X2) → fX2_add 9 (op i) X2 = some ((), X3) → F (f + 1) d (nI c) X = F f d (nI (c + 1)) X3)
    (hdead : ∀ f c e X, c ≤ 160 → FlX B n t e X → F (f + 1) d (nI c) X = some ((), X))
    (hop : OkOp B n op) (hok : OkF B n h p) (hp : PsX B n t d sub p) :
    ∀ (m c i f : Nat) (X0 X : zS) (cs0 cs : List Int32) (v : (Nat → Int32) → Int32), vt B n i → (cs0 ++ cs).length ≤ i → AtX B n t i (cs0 ++ cs) X → frE t X0 X → c + m = 160 → m < f → RdX B n t X0 cs0 (F f d (nI c) X) (lpP p op m i cs v)
  | m, c, i, 0, _, _, _, _, _, _, _, _, _, _, q => by omega
  | 0, c, i, f + 1, X0, X, cs0, cs, v, hv, hl, hA, hs, hn, _ => by
    rw [lpP]
    exact ⟨X, hstop f c X i _ (by omega) hA (Or.inr (by omega)), hA, hs⟩
  | m + 1, c, i, f + 1, X0, X, cs0, cs, v, hv, hl, hA, hs, hn, hf => by
    rw [lpP]
    by_cases e0 : op i = 0
    · rw [if_pos e0]
      exact ⟨X, hstop f c X i _ (by omega) hA (Or.inl e0), hA, hs⟩
    · rw [if_neg e0]
      obtain ⟨⟨q8, q9⟩, -⟩ := hop i e0
      obtain ⟨X1, a1, a2, a3⟩ := hgo f c X i _ (by omega) hv hA e0
      have hv1 := vt_s hv q8 q9
      have hr := hp (i + 1) _ X1 hv1 (by omega) a1
      have hk := hok (i + 1) hv1
      cases hpi : p (i + 1) with
      | inl e =>
        rw [hpi] at hr
        obtain ⟨X2, b1, b2, b3⟩ := hr
        obtain ⟨X3, g1, g2, g3⟩ := x_addF b2 (op i)
        obtain ⟨f', rfl⟩ : ∃ f', f = f' + 1 := ⟨f - 1, by omega⟩
        exact ⟨X3, (a3 X2 X3 b2.1.1 g2.1.1 b1 g1).trans (hdead f' _ e X3 (by omega) g2), g2, ((hs.tr a2).tr b3).tr g3⟩
      | inr r =>
        obtain ⟨i', cs', v'⟩ := r
        rw [hpi] at hr hk
        obtain ⟨X2, b1, b2, b3⟩ := hr
        obtain ⟨k1, k2, k3, -⟩ := hk
        have hle := vt_le k2
        have hn160 := b2.1.2.2.2.1
        have hlen : (cs0 ++ cs ++ cs').length < i' := by
          rw [List.length_append]
          omega
        obtain ⟨X3, g1, g2, g3⟩ := x_addA b2 (by omega) (op i)
        have e1 : cs0 ++ cs ++ cs' ++ [op i] = cs0 ++ (cs ++ cs' ++ [op i]) := by simp only [List.append_assoc]
        rw [e1] at g2
        have hlen2 : (cs0 ++ (cs ++ cs' ++ [op i])).length ≤ i' := by
          rw [← e1, List.length_append, List.length_singleton]
          omega
        have := lp_x hstop hgo hdead hop hok hp m (c + 1) i' f X0 X3 cs0 (cs ++ cs' ++ [op i]) (fun e => bo (op i) (v e) (v' e)) k2 hlen2 g2 (((hs.tr a2).tr b3).tr g3) (by omega) (by omega)
        rw [a3 X2 X3 b2.1.1 g2.1.1 b1 g1]
        exact this
theorem ch_x {B : Nat → Int32} {n t : Nat} {d : Int32} {F : Nat → Int32 → Int32 → zS → Option (Unit × zS)} {G sub : zP} {p : Nat → PR} {op : Nat → Int32} {h : Nat}
    (hG : ∀ X X', shX X → sub 9 d X = some ((), X') → G 9 d X = F zF d 0 X')
    (hstop : ∀ f c X i cs, c ≤ 160 → AtX B n t i cs X → (op i = 0 ∨ c = 160) → F (f + 1) d (nI c) X = some ((), X))
    (hgo : ∀ f c X i cs, c < 160 → vt B n i → AtX B n t i cs X → ¬ op i = 0 → ∃ X1, AtX B n t (i + 1) cs X1 ∧ frE t X X1 ∧ ∀ X2 X3, shX X2 → shX X3 → sub 9 d X1 = some ((), X2) → fX2_add 9 (op i) X2 = some ((), X3) → F (f + 1) d (nI c) X = F f d (nI (c + 1)) X3)
    (hdead : ∀ f c e X, c ≤ 160 → FlX B n t e X → F (f + 1) d (nI c) X = some ((), X))
    (hop : OkOp B n op) (hok : OkF B n h p) (hp : PsX B n t d sub p) (hd : DdX B n t d sub) : PsX B n t d G (chP p op) ∧ DdX B n t d G := by
  have dd : ∀ e X, FlX B n t e X → F zF d 0 X = some ((), X) := fun e X hX => hdead 4999 0 e X (by decide) hX
  refine ⟨fun i cs X hv hl hA => ?_, fun e X hF => ?_⟩
  · have hr := hp i cs X hv hl hA
    have hk := hok i hv
    unfold chP
    cases hpi : p i with
    | inl e =>
      rw [hpi] at hr
      obtain ⟨X2, b1, b2, b3⟩ := hr
      exact ⟨X2, (hG X X2 hA.1.1 b1).trans (dd e X2 b2), b2, b3⟩
    | inr r =>
      obtain ⟨i', cs', v'⟩ := r
      rw [hpi] at hr hk
      obtain ⟨X2, b1, b2, b3⟩ := hr
      obtain ⟨k1, k2, k3, -⟩ := hk
      rw [hG X X2 hA.1.1 b1]
      exact lp_x hstop hgo hdead hop hok hp 160 0 i' zF X X2 cs cs' v' k2 (by rw [List.length_append]; omega) b2 b3 rfl (by decide)
  · obtain ⟨X2, b1, b2, b3⟩ := hd e X hF
    exact ⟨X2, (hG X X2 hF.1.1 b1).trans (dd e X2 b2), b2, b3⟩
theorem n160 {c : Nat} (h : c < 160) : ¬ (160 : Int32) ≤ nI c := nI_ge (b := 160) h (by decide)
theorem tm_x {B : Nat → Int32} {n t : Nat} {d : Int32} {sub : zP} {p : Nat → PR} {h : Nat} (hok : OkF B n h p) (hp : PsX B n t d sub p) (hd : DdX B n t d sub) : PsX B n t d (fX2_readTerm sub) (chP p (oTm (tC B n))) ∧ DdX B n t d (fX2_readTerm sub) := by
  refine ch_x (F := fX2_readTerm_L7 sub 9) (fun X X' hX e => ?_) (fun f c X i cs hc hA e => ?_) (fun f c X i cs hc hv hA e => ?_) (fun f c e X hc hF => ?_) (okTm B n) hok hp hd
  · simp only [fX2_readTerm, zokX_0, zokX_1, zokX_2, zokX_3, zokX_4, zokX_5, zokX_6, zokX_7, zokX_8, zokX_9, zokX_10, zokX_11, zokX_12, zokX_13, zokX_14, zokX_15, zokX_16, zlaX_1, zlaX_2, zlaX_3, zlaX_4, zlaX_5, zlaX_6, zlaX_8, zlaX_11, zlaX_12, zlaX_13, zlaX_15, zlaX_16, zp_1, zp_h, zp_r, zp_l, zletE, obs, spXe_0, spXe_1, spXe_2, spXe_3, spXe_4, spXe_5, spXe_6, spXe_7, spXe_8, spXe_9, spXe_10, spXe_11, spXe_12, spXe_13, spXe_14, spXe_15, spXe_16, hX.1, e]
  · rcases Nat.lt_or_ge c 160 with w | w
    · have e := e.resolve_right (by omega)
      have c2 : ¬ tC B n i = 42 := fun q => by unfold oTm at e; rw [if_pos q] at e; exact absurd e (by decide)
      simp only [fX2_readTerm_L7, zokX_0, zokX_1, zokX_2, zokX_3, zokX_4, zokX_5, zokX_6, zokX_7, zokX_8, zokX_9, zokX_10, zokX_11, zokX_12, zokX_13, zokX_14, zokX_15, zokX_16, zlaX_1, zlaX_2, zlaX_3, zlaX_4, zlaX_5, zlaX_6, zlaX_8, zlaX_11, zlaX_12, zlaX_13, zlaX_15, zlaX_16, zp_1, zp_h, zp_r, zp_l, zletE, obs, spXe_0, spXe_1, spXe_2, spXe_3, spXe_4, spXe_5, spXe_6, spXe_7, spXe_8, spXe_9, spXe_10, spXe_11, spXe_12, spXe_13, spXe_14, spXe_15, spXe_16, hA.1.1.1, if_neg (n160 w), hA.2.2.1, if_neg c2]
    · have : c = 160 := by omega
      subst this
      simp only [fX2_readTerm_L7, if_pos (show (160 : Int32) ≤ nI 160 by decide)]
  · have c2 : tC B n i = 42 := by
      unfold oTm at e
      by_cases q : tC B n i = 42
      · exact q
      · rw [if_neg q] at e; exact absurd rfl e
    have e1 : oTm (tC B n) i = -13 := by unfold oTm; rw [if_pos c2]
    obtain ⟨X1, y1, y2, y3⟩ := x_adv hA (op_vt hv c2 (by decide) (by decide))
    refine ⟨X1, y2, y3, fun X2 X3 h2 h3 g1 g2 => ?_⟩
    rw [e1] at g2
    simp only [fX2_readTerm_L7, zokX_0, zokX_1, zokX_2, zokX_3, zokX_4, zokX_5, zokX_6, zokX_7, zokX_8, zokX_9, zokX_10, zokX_11, zokX_12, zokX_13, zokX_14, zokX_15, zokX_16, zlaX_1, zlaX_2, zlaX_3, zlaX_4, zlaX_5, zlaX_6, zlaX_8, zlaX_11, zlaX_12, zlaX_13, zlaX_15, zlaX_16, zp_1, zp_h, zp_r, zp_l, zletE, obs, spXe_0, spXe_1, spXe_2, spXe_3, spXe_4, spXe_5, spXe_6, spXe_7, spXe_8, spXe_9, spXe_10, spXe_11, spXe_12, spXe_13, spXe_14, spXe_15, spXe_16, hA.1.1.1, if_neg (n160 hc), hA.2.2.1, if_pos c2, y1, y2.1.1.1, g1, h2.1, g2, nI_1]
  · rcases Nat.lt_or_ge c 160 with w | w
    · simp only [fX2_readTerm_L7, zokX_0, zokX_1, zokX_2, zokX_3, zokX_4, zokX_5, zokX_6, zokX_7, zokX_8, zokX_9, zokX_10, zokX_11, zokX_12, zokX_13, zokX_14, zokX_15, zokX_16, zlaX_1, zlaX_2, zlaX_3, zlaX_4, zlaX_5, zlaX_6, zlaX_8, zlaX_11, zlaX_12, zlaX_13, zlaX_15, zlaX_16, zp_1, zp_h, zp_r, zp_l, zletE, obs, spXe_0, spXe_1, spXe_2, spXe_3, spXe_4, spXe_5, spXe_6, spXe_7, spXe_8, spXe_9, spXe_10, spXe_11, spXe_12, spXe_13, spXe_14, spXe_15, spXe_16, hF.1.1.1, if_neg (n160 w), hF.2.1, if_neg (show ¬ (9 : Int32) = 42 by decide)]
    · have : c = 160 := by omega
      subst this
      simp only [fX2_readTerm_L7, if_pos (show (160 : Int32) ≤ nI 160 by decide)]
theorem sm_x {B : Nat → Int32} {n t : Nat} {d : Int32} {sub : zP} {p : Nat → PR} {h : Nat} (hok : OkF B n h p) (hp : PsX B n t d sub p) (hd : DdX B n t d sub) : PsX B n t d (fX2_readSum sub) (chP p (oSm (tC B n))) ∧ DdX B n t d (fX2_readSum sub) := by
  refine ch_x (F := fX2_readSum_L7 sub 9) (fun X X' hX e => ?_) (fun f c X i cs hc hA e => ?_) (fun f c X i cs hc hv hA e => ?_) (fun f c e X hc hF => ?_) (okSm B n) hok hp hd
  · simp only [fX2_readSum, zokX_0, zokX_1, zokX_2, zokX_3, zokX_4, zokX_5, zokX_6, zokX_7, zokX_8, zokX_9, zokX_10, zokX_11, zokX_12, zokX_13, zokX_14, zokX_15, zokX_16, zlaX_1, zlaX_2, zlaX_3, zlaX_4, zlaX_5, zlaX_6, zlaX_8, zlaX_11, zlaX_12, zlaX_13, zlaX_15, zlaX_16, zp_1, zp_h, zp_r, zp_l, zletE, obs, spXe_0, spXe_1, spXe_2, spXe_3, spXe_4, spXe_5, spXe_6, spXe_7, spXe_8, spXe_9, spXe_10, spXe_11, spXe_12, spXe_13, spXe_14, spXe_15, spXe_16, hX.1, e]
  · rcases Nat.lt_or_ge c 160 with w | w
    · have e := e.resolve_right (by omega)
      have c2 : ¬ tC B n i = 43 := fun q => by unfold oSm at e; rw [if_pos q] at e; exact absurd e (by decide)
      have c3 : ¬ tC B n i = 45 := fun q => by unfold oSm at e; rw [if_neg c2, if_pos q] at e; exact absurd e (by decide)
      simp only [fX2_readSum_L7, zokX_0, zokX_1, zokX_2, zokX_3, zokX_4, zokX_5, zokX_6, zokX_7, zokX_8, zokX_9, zokX_10, zokX_11, zokX_12, zokX_13, zokX_14, zokX_15, zokX_16, zlaX_1, zlaX_2, zlaX_3, zlaX_4, zlaX_5, zlaX_6, zlaX_8, zlaX_11, zlaX_12, zlaX_13, zlaX_15, zlaX_16, zp_1, zp_h, zp_r, zp_l, zletE, obs, spXe_0, spXe_1, spXe_2, spXe_3, spXe_4, spXe_5, spXe_6, spXe_7, spXe_8, spXe_9, spXe_10, spXe_11, spXe_12, spXe_13, spXe_14, spXe_15, spXe_16, hA.1.1.1, if_neg (n160 w), hA.2.2.1, if_neg c2, if_neg c3]
    · have : c = 160 := by omega
      subst this
      simp only [fX2_readSum_L7, if_pos (show (160 : Int32) ≤ nI 160 by decide)]
  · by_cases c2 : tC B n i = 43
    · have e1 : oSm (tC B n) i = -11 := by unfold oSm; rw [if_pos c2]
      obtain ⟨X1, y1, y2, y3⟩ := x_adv hA (op_vt hv c2 (by decide) (by decide))
      refine ⟨X1, y2, y3, fun X2 X3 h2 h3 g1 g2 => ?_⟩
      rw [e1] at g2
      simp only [fX2_readSum_L7, fX2_readSum_j32, fX2_readSum_j48, zokX_0, zokX_1, zokX_2, zokX_3, zokX_4, zokX_5, zokX_6, zokX_7, zokX_8, zokX_9, zokX_10, zokX_11, zokX_12, zokX_13, zokX_14, zokX_15, zokX_16, zlaX_1, zlaX_2, zlaX_3, zlaX_4, zlaX_5, zlaX_6, zlaX_8, zlaX_11, zlaX_12, zlaX_13, zlaX_15, zlaX_16, zp_1, zp_h, zp_r, zp_l, zletE, obs, spXe_0, spXe_1, spXe_2, spXe_3, spXe_4, spXe_5, spXe_6, spXe_7, spXe_8, spXe_9, spXe_10, spXe_11, spXe_12, spXe_13, spXe_14, spXe_15, spXe_16, hA.1.1.1, if_neg (n160 hc), hA.2.2.1, if_pos c2, y1, y2.1.1.1, g1, h2.1, g2, nI_1]
    · have c3 : tC B n i = 45 := by
        unfold oSm at e
        rw [if_neg c2] at e
        by_cases q : tC B n i = 45
        · exact q
        · rw [if_neg q] at e; exact absurd rfl e
      have e1 : oSm (tC B n) i = -12 := by unfold oSm; rw [if_neg c2, if_pos c3]
      obtain ⟨X1, y1, y2, y3⟩ := x_adv hA (op_vt hv c3 (by decide) (by decide))
      refine ⟨X1, y2, y3, fun X2 X3 h2 h3 g1 g2 => ?_⟩
      rw [e1] at g2
      simp only [fX2_readSum_L7, fX2_readSum_j32, fX2_readSum_j48, zokX_0, zokX_1, zokX_2, zokX_3, zokX_4, zokX_5, zokX_6, zokX_7, zokX_8, zokX_9, zokX_10, zokX_11, zokX_12, zokX_13, zokX_14, zokX_15, zokX_16, zlaX_1, zlaX_2, zlaX_3, zlaX_4, zlaX_5, zlaX_6, zlaX_8, zlaX_11, zlaX_12, zlaX_13, zlaX_15, zlaX_16, zp_1, zp_h, zp_r, zp_l, zletE, obs, spXe_0, spXe_1, spXe_2, spXe_3, spXe_4, spXe_5, spXe_6, spXe_7, spXe_8, spXe_9, spXe_10, spXe_11, spXe_12, spXe_13, spXe_14, spXe_15, spXe_16, hA.1.1.1, if_neg (n160 hc), hA.2.2.1, if_neg c2, if_pos c3, y1, y2.1.1.1, g1, h2.1, g2, nI_1]
  · rcases Nat.lt_or_ge c 160 with w | w
    · simp only [fX2_readSum_L7, zokX_0, zokX_1, zokX_2, zokX_3, zokX_4, zokX_5, zokX_6, zokX_7, zokX_8, zokX_9, zokX_10, zokX_11, zokX_12, zokX_13, zokX_14, zokX_15, zokX_16, zlaX_1, zlaX_2, zlaX_3, zlaX_4, zlaX_5, zlaX_6, zlaX_8, zlaX_11, zlaX_12, zlaX_13, zlaX_15, zlaX_16, zp_1, zp_h, zp_r, zp_l, zletE, obs, spXe_0, spXe_1, spXe_2, spXe_3, spXe_4, spXe_5, spXe_6, spXe_7, spXe_8, spXe_9, spXe_10, spXe_11, spXe_12, spXe_13, spXe_14, spXe_15, spXe_16, hF.1.1.1, if_neg (n160 w), hF.2.1, if_neg (show ¬ (9 : Int32) = 43 by decide), if_neg (show ¬ (9 : Int32) = 45 by decide)]
    · have : c = 160 := by omega
      subst this
      simp only [fX2_readSum_L7, if_pos (show (160 : Int32) ≤ nI 160 by decide)]
theorem bt_x {B : Nat → Int32} {n t : Nat} {d : Int32} {sub : zP} {p : Nat → PR} {h : Nat} (hok : OkF B n h p) (hp : PsX B n t d sub p) (hd : DdX B n t d sub) : PsX B n t d (fX2_readBoth sub) (chP p (oBt (tC B n))) ∧ DdX B n t d (fX2_readBoth sub) := by
  refine ch_x (F := fX2_readBoth_L7 sub 9) (fun X X' hX e => ?_) (fun f c X i cs hc hA e => ?_) (fun f c X i cs hc hv hA e => ?_) (fun f c e X hc hF => ?_) (okBt B n) hok hp hd
  · simp only [fX2_readBoth, zokX_0, zokX_1, zokX_2, zokX_3, zokX_4, zokX_5, zokX_6, zokX_7, zokX_8, zokX_9, zokX_10, zokX_11, zokX_12, zokX_13, zokX_14, zokX_15, zokX_16, zlaX_1, zlaX_2, zlaX_3, zlaX_4, zlaX_5, zlaX_6, zlaX_8, zlaX_11, zlaX_12, zlaX_13, zlaX_15, zlaX_16, zp_1, zp_h, zp_r, zp_l, zletE, obs, spXe_0, spXe_1, spXe_2, spXe_3, spXe_4, spXe_5, spXe_6, spXe_7, spXe_8, spXe_9, spXe_10, spXe_11, spXe_12, spXe_13, spXe_14, spXe_15, spXe_16, hX.1, e]
  · rcases Nat.lt_or_ge c 160 with w | w
    · have e := e.resolve_right (by omega)
      have c2 : ¬ tC B n i = 2 := fun q => by unfold oBt at e; rw [if_pos q] at e; exact absurd e (by decide)
      simp only [fX2_readBoth_L7, zokX_0, zokX_1, zokX_2, zokX_3, zokX_4, zokX_5, zokX_6, zokX_7, zokX_8, zokX_9, zokX_10, zokX_11, zokX_12, zokX_13, zokX_14, zokX_15, zokX_16, zlaX_1, zlaX_2, zlaX_3, zlaX_4, zlaX_5, zlaX_6, zlaX_8, zlaX_11, zlaX_12, zlaX_13, zlaX_15, zlaX_16, zp_1, zp_h, zp_r, zp_l, zletE, obs, spXe_0, spXe_1, spXe_2, spXe_3, spXe_4, spXe_5, spXe_6, spXe_7, spXe_8, spXe_9, spXe_10, spXe_11, spXe_12, spXe_13, spXe_14, spXe_15, spXe_16, hA.1.1.1, if_neg (n160 w), hA.2.2.1, if_neg c2]
    · have : c = 160 := by omega
      subst this
      simp only [fX2_readBoth_L7, if_pos (show (160 : Int32) ≤ nI 160 by decide)]
  · have c2 : tC B n i = 2 := by
      unfold oBt at e
      by_cases q : tC B n i = 2
      · exact q
      · rw [if_neg q] at e; exact absurd rfl e
    have e1 : oBt (tC B n) i = -16 := by unfold oBt; rw [if_pos c2]
    obtain ⟨X1, y1, y2, y3⟩ := x_adv hA (op_vt hv c2 (by decide) (by decide))
    refine ⟨X1, y2, y3, fun X2 X3 h2 h3 g1 g2 => ?_⟩
    rw [e1] at g2
    simp only [fX2_readBoth_L7, zokX_0, zokX_1, zokX_2, zokX_3, zokX_4, zokX_5, zokX_6, zokX_7, zokX_8, zokX_9, zokX_10, zokX_11, zokX_12, zokX_13, zokX_14, zokX_15, zokX_16, zlaX_1, zlaX_2, zlaX_3, zlaX_4, zlaX_5, zlaX_6, zlaX_8, zlaX_11, zlaX_12, zlaX_13, zlaX_15, zlaX_16, zp_1, zp_h, zp_r, zp_l, zletE, obs, spXe_0, spXe_1, spXe_2, spXe_3, spXe_4, spXe_5, spXe_6, spXe_7, spXe_8, spXe_9, spXe_10, spXe_11, spXe_12, spXe_13, spXe_14, spXe_15, spXe_16, hA.1.1.1, if_neg (n160 hc), hA.2.2.1, if_pos c2, y1, y2.1.1.1, g1, h2.1, g2, nI_1]
  · rcases Nat.lt_or_ge c 160 with w | w
    · simp only [fX2_readBoth_L7, zokX_0, zokX_1, zokX_2, zokX_3, zokX_4, zokX_5, zokX_6, zokX_7, zokX_8, zokX_9, zokX_10, zokX_11, zokX_12, zokX_13, zokX_14, zokX_15, zokX_16, zlaX_1, zlaX_2, zlaX_3, zlaX_4, zlaX_5, zlaX_6, zlaX_8, zlaX_11, zlaX_12, zlaX_13, zlaX_15, zlaX_16, zp_1, zp_h, zp_r, zp_l, zletE, obs, spXe_0, spXe_1, spXe_2, spXe_3, spXe_4, spXe_5, spXe_6, spXe_7, spXe_8, spXe_9, spXe_10, spXe_11, spXe_12, spXe_13, spXe_14, spXe_15, spXe_16, hF.1.1.1, if_neg (n160 w), hF.2.1, if_neg (show ¬ (9 : Int32) = 2 by decide)]
    · have : c = 160 := by omega
      subst this
      simp only [fX2_readBoth_L7, if_pos (show (160 : Int32) ≤ nI 160 by decide)]
theorem et_x {B : Nat → Int32} {n t : Nat} {d : Int32} {sub : zP} {p : Nat → PR} {h : Nat} (hok : OkF B n h p) (hp : PsX B n t d sub p) (hd : DdX B n t d sub) : PsX B n t d (fX2_readEither sub) (chP p (oEt (tC B n))) ∧ DdX B n t d (fX2_readEither sub) := by
  refine ch_x (F := fX2_readEither_L7 sub 9) (fun X X' hX e => ?_) (fun f c X i cs hc hA e => ?_) (fun f c X i cs hc hv hA e => ?_) (fun f c e X hc hF => ?_) (okEt B n) hok hp hd
  · simp only [fX2_readEither, zokX_0, zokX_1, zokX_2, zokX_3, zokX_4, zokX_5, zokX_6, zokX_7, zokX_8, zokX_9, zokX_10, zokX_11, zokX_12, zokX_13, zokX_14, zokX_15, zokX_16, zlaX_1, zlaX_2, zlaX_3, zlaX_4, zlaX_5, zlaX_6, zlaX_8, zlaX_11, zlaX_12, zlaX_13, zlaX_15, zlaX_16, zp_1, zp_h, zp_r, zp_l, zletE, obs, spXe_0, spXe_1, spXe_2, spXe_3, spXe_4, spXe_5, spXe_6, spXe_7, spXe_8, spXe_9, spXe_10, spXe_11, spXe_12, spXe_13, spXe_14, spXe_15, spXe_16, hX.1, e]
  · rcases Nat.lt_or_ge c 160 with w | w
    · have e := e.resolve_right (by omega)
      have c2 : ¬ tC B n i = 1 := fun q => by unfold oEt at e; rw [if_pos q] at e; exact absurd e (by decide)
      simp only [fX2_readEither_L7, zokX_0, zokX_1, zokX_2, zokX_3, zokX_4, zokX_5, zokX_6, zokX_7, zokX_8, zokX_9, zokX_10, zokX_11, zokX_12, zokX_13, zokX_14, zokX_15, zokX_16, zlaX_1, zlaX_2, zlaX_3, zlaX_4, zlaX_5, zlaX_6, zlaX_8, zlaX_11, zlaX_12, zlaX_13, zlaX_15, zlaX_16, zp_1, zp_h, zp_r, zp_l, zletE, obs, spXe_0, spXe_1, spXe_2, spXe_3, spXe_4, spXe_5, spXe_6, spXe_7, spXe_8, spXe_9, spXe_10, spXe_11, spXe_12, spXe_13, spXe_14, spXe_15, spXe_16, hA.1.1.1, if_neg (n160 w), hA.2.2.1, if_neg c2]
    · have : c = 160 := by omega
      subst this
      simp only [fX2_readEither_L7, if_pos (show (160 : Int32) ≤ nI 160 by decide)]
  · have c2 : tC B n i = 1 := by
      unfold oEt at e
      by_cases q : tC B n i = 1
      · exact q
      · rw [if_neg q] at e; exact absurd rfl e
    have e1 : oEt (tC B n) i = -17 := by unfold oEt; rw [if_pos c2]
    obtain ⟨X1, y1, y2, y3⟩ := x_adv hA (op_vt hv c2 (by decide) (by decide))
    refine ⟨X1, y2, y3, fun X2 X3 h2 h3 g1 g2 => ?_⟩
    rw [e1] at g2
    simp only [fX2_readEither_L7, zokX_0, zokX_1, zokX_2, zokX_3, zokX_4, zokX_5, zokX_6, zokX_7, zokX_8, zokX_9, zokX_10, zokX_11, zokX_12, zokX_13, zokX_14, zokX_15, zokX_16, zlaX_1, zlaX_2, zlaX_3, zlaX_4, zlaX_5, zlaX_6, zlaX_8, zlaX_11, zlaX_12, zlaX_13, zlaX_15, zlaX_16, zp_1, zp_h, zp_r, zp_l, zletE, obs, spXe_0, spXe_1, spXe_2, spXe_3, spXe_4, spXe_5, spXe_6, spXe_7, spXe_8, spXe_9, spXe_10, spXe_11, spXe_12, spXe_13, spXe_14, spXe_15, spXe_16, hA.1.1.1, if_neg (n160 hc), hA.2.2.1, if_pos c2, y1, y2.1.1.1, g1, h2.1, g2, nI_1]
  · rcases Nat.lt_or_ge c 160 with w | w
    · simp only [fX2_readEither_L7, zokX_0, zokX_1, zokX_2, zokX_3, zokX_4, zokX_5, zokX_6, zokX_7, zokX_8, zokX_9, zokX_10, zokX_11, zokX_12, zokX_13, zokX_14, zokX_15, zokX_16, zlaX_1, zlaX_2, zlaX_3, zlaX_4, zlaX_5, zlaX_6, zlaX_8, zlaX_11, zlaX_12, zlaX_13, zlaX_15, zlaX_16, zp_1, zp_h, zp_r, zp_l, zletE, obs, spXe_0, spXe_1, spXe_2, spXe_3, spXe_4, spXe_5, spXe_6, spXe_7, spXe_8, spXe_9, spXe_10, spXe_11, spXe_12, spXe_13, spXe_14, spXe_15, spXe_16, hF.1.1.1, if_neg (n160 w), hF.2.1, if_neg (show ¬ (9 : Int32) = 1 by decide)]
    · have : c = 160 := by omega
      subst this
      simp only [fX2_readEither_L7, if_pos (show (160 : Int32) ≤ nI 160 by decide)]
