/-! the class: NOT and ONE -/
theorem x_may0 {B : Nat → Int32} {n t i : Nat} {cs : List Int32} {X : zS} (h : AtX B n t i cs X) (hv : vt B n i) {d : Int32} (hd : (5 : Int32) ≤ d) : ∃ X', fX2_mayOpen 9 d X = some (0, X') ∧ FlX B n t i X' ∧ frE t X X' := by
  obtain ⟨X', a, b, c⟩ := x_fail h hv
  refine ⟨X', ?_, b, c⟩
  simp only [fX2_mayOpen, zokX_0, zokX_1, zokX_2, zokX_3, zokX_4, zokX_5, zokX_6, zokX_7, zokX_8, zokX_9, zokX_10, zokX_11, zokX_12, zokX_13, zokX_14, zokX_15, zokX_16, zlaX_1, zlaX_2, zlaX_3, zlaX_4, zlaX_5, zlaX_6, zlaX_8, zlaX_11, zlaX_12, zlaX_13, zlaX_15, zlaX_16, zp_1, zp_h, zp_r, zp_l, zletE, obs, spXe_0, spXe_1, spXe_2, spXe_3, spXe_4, spXe_5, spXe_6, spXe_7, spXe_8, spXe_9, spXe_10, spXe_11, spXe_12, spXe_13, spXe_14, spXe_15, spXe_16, if_pos hd, h.1.1.1, a]
theorem x_may1 {d : Int32} (hd : ¬ (5 : Int32) ≤ d) (X : zS) : fX2_mayOpen 9 d X = some (1, X) := by
  simp only [fX2_mayOpen, if_neg hd]
theorem nt_x {B : Nat → Int32} {n t : Nat} {can : Bool} {d : Int32} {gN gS : zP} {pN pS : Nat → PR} {h : Nat}
    (hc1 : can = true → (¬ (5 : Int32) ≤ d ∧ PsX B n t (d + 1) gN pN ∧ DdX B n t (d + 1) gN ∧ OkF B n (h + 1) pN)) (hc0 : can = false → (5 : Int32) ≤ d)
    (hok : OkF B n h pS) (hp : PsX B n t d gS pS) (hd : DdX B n t d gS) : PsX B n t d (fX2_readNot gN gS) (ntP (tC B n) can pN pS) ∧ DdX B n t d (fX2_readNot gN gS) := by
  refine ⟨fun i cs X hv hl hA => ?_, fun e X hF => ?_⟩
  · have hX := hA.1.1
    have hn := hA.1.2.2.2.1
    unfold ntP
    by_cases c3 : tC B n i = 3
    · rw [if_pos c3]
      cases can with
      | false =>
        rw [if_neg (by decide)]
        obtain ⟨X1, a1, a2, a3⟩ := x_may0 hA hv (hc0 rfl)
        refine ⟨X1, ?_, a2, a3⟩
        simp only [fX2_readNot, zokX_0, zokX_1, zokX_2, zokX_3, zokX_4, zokX_5, zokX_6, zokX_7, zokX_8, zokX_9, zokX_10, zokX_11, zokX_12, zokX_13, zokX_14, zokX_15, zokX_16, zlaX_1, zlaX_2, zlaX_3, zlaX_4, zlaX_5, zlaX_6, zlaX_8, zlaX_11, zlaX_12, zlaX_13, zlaX_15, zlaX_16, zp_1, zp_h, zp_r, zp_l, zletE, obs, spXe_0, spXe_1, spXe_2, spXe_3, spXe_4, spXe_5, spXe_6, spXe_7, spXe_8, spXe_9, spXe_10, spXe_11, spXe_12, spXe_13, spXe_14, spXe_15, spXe_16, hX.1, hA.2.2.1, if_pos c3, a1, if_true]
      | true =>
        rw [if_pos rfl]
        obtain ⟨d5, hpN, hdN, hkN⟩ := hc1 rfl
        have hv1 := op_vt hv c3 (by decide) (by decide)
        obtain ⟨X1, a1, a2, a3⟩ := x_adv hA hv1
        have hr := hpN (i + 1) cs X1 hv1 (by omega) a2
        have hk := hkN (i + 1) hv1
        cases hpi : pN (i + 1) with
        | inl e =>
          rw [hpi] at hr
          obtain ⟨X2, b1, b2, b3⟩ := hr
          obtain ⟨X3, g1, g2, g3⟩ := x_addF b2 (-18)
          refine ⟨X3, ?_, g2, (a3.tr b3).tr g3⟩
          simp only [fX2_readNot, zokX_0, zokX_1, zokX_2, zokX_3, zokX_4, zokX_5, zokX_6, zokX_7, zokX_8, zokX_9, zokX_10, zokX_11, zokX_12, zokX_13, zokX_14, zokX_15, zokX_16, zlaX_1, zlaX_2, zlaX_3, zlaX_4, zlaX_5, zlaX_6, zlaX_8, zlaX_11, zlaX_12, zlaX_13, zlaX_15, zlaX_16, zp_1, zp_h, zp_r, zp_l, zletE, obs, spXe_0, spXe_1, spXe_2, spXe_3, spXe_4, spXe_5, spXe_6, spXe_7, spXe_8, spXe_9, spXe_10, spXe_11, spXe_12, spXe_13, spXe_14, spXe_15, spXe_16, hX.1, hA.2.2.1, if_pos c3, x_may1 d5, if_neg n10, a1, a2.1.1.1, b1, b2.1.1.1, g1]
        | inr r =>
          obtain ⟨i', cs', v'⟩ := r
          rw [hpi] at hr hk
          obtain ⟨X2, b1, b2, b3⟩ := hr
          obtain ⟨k1, k2, k3, -⟩ := hk
          have hle := vt_le k2
          obtain ⟨X3, g1, g2, g3⟩ := x_addA b2 (by rw [List.length_append]; omega) (-18)
          refine ⟨X3, ?_, by rw [← List.append_assoc]; exact g2, (a3.tr b3).tr g3⟩
          simp only [fX2_readNot, zokX_0, zokX_1, zokX_2, zokX_3, zokX_4, zokX_5, zokX_6, zokX_7, zokX_8, zokX_9, zokX_10, zokX_11, zokX_12, zokX_13, zokX_14, zokX_15, zokX_16, zlaX_1, zlaX_2, zlaX_3, zlaX_4, zlaX_5, zlaX_6, zlaX_8, zlaX_11, zlaX_12, zlaX_13, zlaX_15, zlaX_16, zp_1, zp_h, zp_r, zp_l, zletE, obs, spXe_0, spXe_1, spXe_2, spXe_3, spXe_4, spXe_5, spXe_6, spXe_7, spXe_8, spXe_9, spXe_10, spXe_11, spXe_12, spXe_13, spXe_14, spXe_15, spXe_16, hX.1, hA.2.2.1, if_pos c3, x_may1 d5, if_neg n10, a1, a2.1.1.1, b1, b2.1.1.1, g1]
    · rw [if_neg c3]
      have hr := hp i cs X hv hl hA
      have hk := hok i hv
      cases hpi : pS i with
      | inl e =>
        rw [hpi] at hr
        obtain ⟨X1, b1, b2, b3⟩ := hr
        refine ⟨X1, ?_, b2, b3⟩
        simp only [fX2_readNot, zokX_0, zokX_1, zokX_2, zokX_3, zokX_4, zokX_5, zokX_6, zokX_7, zokX_8, zokX_9, zokX_10, zokX_11, zokX_12, zokX_13, zokX_14, zokX_15, zokX_16, zlaX_1, zlaX_2, zlaX_3, zlaX_4, zlaX_5, zlaX_6, zlaX_8, zlaX_11, zlaX_12, zlaX_13, zlaX_15, zlaX_16, zp_1, zp_h, zp_r, zp_l, zletE, obs, spXe_0, spXe_1, spXe_2, spXe_3, spXe_4, spXe_5, spXe_6, spXe_7, spXe_8, spXe_9, spXe_10, spXe_11, spXe_12, spXe_13, spXe_14, spXe_15, spXe_16, hX.1, hA.2.2.1, if_neg c3, b1, b2.1.1.1, b2.2.1, if_neg (show ¬ (9 : Int32) = 60 by decide), if_neg (show ¬ (9 : Int32) = 61 by decide)]
      | inr r =>
        obtain ⟨i1, c1, v1⟩ := r
        rw [hpi] at hr hk
        obtain ⟨X1, b1, b2, b3⟩ := hr
        obtain ⟨k1, k2, k3, -⟩ := hk
        show RdX B n t X cs _ (if tC B n i1 = 60 ∨ tC B n i1 = 61 then _ else _)
        by_cases cc : tC B n i1 = 60 ∨ tC B n i1 = 61
        · rw [if_pos cc]
          have hv1 : vt B n (i1 + 1) := by
            rcases cc with w | w
            · exact op_vt k2 w (by decide) (by decide)
            · exact op_vt k2 w (by decide) (by decide)
          obtain ⟨X2, y1, y2, y3⟩ := x_adv b2 hv1
          have hr2 := hp (i1 + 1) (cs ++ c1) X2 hv1 (by rw [List.length_append]; omega) y2
          have hk2 := hok (i1 + 1) hv1
          cases hpj : pS (i1 + 1) with
          | inl e =>
            rw [hpj] at hr2
            obtain ⟨X3, g1, g2, g3⟩ := hr2
            obtain ⟨X4, j1, j2, j3⟩ := x_addF g2 (if tC B n i1 = 60 then -14 else -15)
            refine ⟨X4, ?_, j2, ((b3.tr y3).tr g3).tr j3⟩
            by_cases d1 : tC B n i1 = 60
            · rw [if_pos d1] at j1
              simp only [fX2_readNot, fX2_readNot_j59, fX2_readNot_j75, zokX_0, zokX_1, zokX_2, zokX_3, zokX_4, zokX_5, zokX_6, zokX_7, zokX_8, zokX_9, zokX_10, zokX_11, zokX_12, zokX_13, zokX_14, zokX_15, zokX_16, zlaX_1, zlaX_2, zlaX_3, zlaX_4, zlaX_5, zlaX_6, zlaX_8, zlaX_11, zlaX_12, zlaX_13, zlaX_15, zlaX_16, zp_1, zp_h, zp_r, zp_l, zletE, obs, spXe_0, spXe_1, spXe_2, spXe_3, spXe_4, spXe_5, spXe_6, spXe_7, spXe_8, spXe_9, spXe_10, spXe_11, spXe_12, spXe_13, spXe_14, spXe_15, spXe_16, hX.1, hA.2.2.1, if_neg c3, b1, b2.1.1.1, b2.2.2.1, if_pos d1, y1, y2.1.1.1, g1, g2.1.1.1, j1]
            · rw [if_neg d1] at j1
              simp only [fX2_readNot, fX2_readNot_j59, fX2_readNot_j75, zokX_0, zokX_1, zokX_2, zokX_3, zokX_4, zokX_5, zokX_6, zokX_7, zokX_8, zokX_9, zokX_10, zokX_11, zokX_12, zokX_13, zokX_14, zokX_15, zokX_16, zlaX_1, zlaX_2, zlaX_3, zlaX_4, zlaX_5, zlaX_6, zlaX_8, zlaX_11, zlaX_12, zlaX_13, zlaX_15, zlaX_16, zp_1, zp_h, zp_r, zp_l, zletE, obs, spXe_0, spXe_1, spXe_2, spXe_3, spXe_4, spXe_5, spXe_6, spXe_7, spXe_8, spXe_9, spXe_10, spXe_11, spXe_12, spXe_13, spXe_14, spXe_15, spXe_16, hX.1, hA.2.2.1, if_neg c3, b1, b2.1.1.1, b2.2.2.1, if_neg d1, if_pos (cc.resolve_left d1), y1, y2.1.1.1, g1, g2.1.1.1, j1]
          | inr r' =>
            obtain ⟨i2, c2, v2⟩ := r'
            rw [hpj] at hr2 hk2
            obtain ⟨X3, g1, g2, g3⟩ := hr2
            obtain ⟨l1, l2, l3, -⟩ := hk2
            have hle := vt_le l2
            obtain ⟨X4, j1, j2, j3⟩ := x_addA g2 (by rw [List.length_append, List.length_append]; omega) (if tC B n i1 = 60 then -14 else -15)
            refine ⟨X4, ?_, ?_, ((b3.tr y3).tr g3).tr j3⟩
            · by_cases d1 : tC B n i1 = 60
              · rw [if_pos d1] at j1
                simp only [fX2_readNot, fX2_readNot_j59, fX2_readNot_j75, zokX_0, zokX_1, zokX_2, zokX_3, zokX_4, zokX_5, zokX_6, zokX_7, zokX_8, zokX_9, zokX_10, zokX_11, zokX_12, zokX_13, zokX_14, zokX_15, zokX_16, zlaX_1, zlaX_2, zlaX_3, zlaX_4, zlaX_5, zlaX_6, zlaX_8, zlaX_11, zlaX_12, zlaX_13, zlaX_15, zlaX_16, zp_1, zp_h, zp_r, zp_l, zletE, obs, spXe_0, spXe_1, spXe_2, spXe_3, spXe_4, spXe_5, spXe_6, spXe_7, spXe_8, spXe_9, spXe_10, spXe_11, spXe_12, spXe_13, spXe_14, spXe_15, spXe_16, hX.1, hA.2.2.1, if_neg c3, b1, b2.1.1.1, b2.2.2.1, if_pos d1, y1, y2.1.1.1, g1, g2.1.1.1, j1]
              · rw [if_neg d1] at j1
                simp only [fX2_readNot, fX2_readNot_j59, fX2_readNot_j75, zokX_0, zokX_1, zokX_2, zokX_3, zokX_4, zokX_5, zokX_6, zokX_7, zokX_8, zokX_9, zokX_10, zokX_11, zokX_12, zokX_13, zokX_14, zokX_15, zokX_16, zlaX_1, zlaX_2, zlaX_3, zlaX_4, zlaX_5, zlaX_6, zlaX_8, zlaX_11, zlaX_12, zlaX_13, zlaX_15, zlaX_16, zp_1, zp_h, zp_r, zp_l, zletE, obs, spXe_0, spXe_1, spXe_2, spXe_3, spXe_4, spXe_5, spXe_6, spXe_7, spXe_8, spXe_9, spXe_10, spXe_11, spXe_12, spXe_13, spXe_14, spXe_15, spXe_16, hX.1, hA.2.2.1, if_neg c3, b1, b2.1.1.1, b2.2.2.1, if_neg d1, if_pos (cc.resolve_left d1), y1, y2.1.1.1, g1, g2.1.1.1, j1]
            · have e1 : cs ++ c1 ++ c2 ++ [if tC B n i1 = 60 then (-14 : Int32) else -15] = cs ++ (c1 ++ c2 ++ [if tC B n i1 = 60 then (-14 : Int32) else -15]) := by simp only [List.append_assoc]
              rw [← e1]
              exact j2
        · rw [if_neg cc]
          refine ⟨X1, ?_, b2, b3⟩
          simp only [fX2_readNot, zokX_0, zokX_1, zokX_2, zokX_3, zokX_4, zokX_5, zokX_6, zokX_7, zokX_8, zokX_9, zokX_10, zokX_11, zokX_12, zokX_13, zokX_14, zokX_15, zokX_16, zlaX_1, zlaX_2, zlaX_3, zlaX_4, zlaX_5, zlaX_6, zlaX_8, zlaX_11, zlaX_12, zlaX_13, zlaX_15, zlaX_16, zp_1, zp_h, zp_r, zp_l, zletE, obs, spXe_0, spXe_1, spXe_2, spXe_3, spXe_4, spXe_5, spXe_6, spXe_7, spXe_8, spXe_9, spXe_10, spXe_11, spXe_12, spXe_13, spXe_14, spXe_15, spXe_16, hX.1, hA.2.2.1, if_neg c3, b1, b2.1.1.1, b2.2.2.1, if_neg (fun q => cc (Or.inl q)), if_neg (fun q => cc (Or.inr q))]
  · obtain ⟨X1, b1, b2, b3⟩ := hd e X hF
    refine ⟨X1, ?_, b2, b3⟩
    simp only [fX2_readNot, zokX_0, zokX_1, zokX_2, zokX_3, zokX_4, zokX_5, zokX_6, zokX_7, zokX_8, zokX_9, zokX_10, zokX_11, zokX_12, zokX_13, zokX_14, zokX_15, zokX_16, zlaX_1, zlaX_2, zlaX_3, zlaX_4, zlaX_5, zlaX_6, zlaX_8, zlaX_11, zlaX_12, zlaX_13, zlaX_15, zlaX_16, zp_1, zp_h, zp_r, zp_l, zletE, obs, spXe_0, spXe_1, spXe_2, spXe_3, spXe_4, spXe_5, spXe_6, spXe_7, spXe_8, spXe_9, spXe_10, spXe_11, spXe_12, spXe_13, spXe_14, spXe_15, spXe_16, hF.1.1.1, hF.2.1, if_neg (show ¬ (9 : Int32) = 3 by decide), b1, b2.1.1.1, b2.2.1, if_neg (show ¬ (9 : Int32) = 60 by decide), if_neg (show ¬ (9 : Int32) = 61 by decide)]
theorem x_isName (c : Int32) (X : zS) : fX4_isName c X = some (if -1 < c then 0 else if c < -6 then 0 else 1, X) := by
  unfold fX4_isName fX4_isName_j15
  by_cases h1 : (-1 : Int32) < c
  · rw [if_pos h1, if_pos h1]
  · rw [if_neg h1, if_neg h1]
    by_cases h2 : c < -6
    · rw [if_pos h2, if_pos h2]
    · rw [if_neg h2, if_neg h2]
theorem on_x {B : Nat → Int32} {n t : Nat} {can : Bool} {d : Int32} {gE gO : zP} {pE pO : Nat → PR} {h : Nat}
    (hc1 : can = true → (¬ (5 : Int32) ≤ d ∧ (PsX B n t (d + 1) gE pE ∧ OkF B n h pE) ∧ (PsX B n t (d + 1) gO pO ∧ OkF B n h pO))) (hc0 : can = false → (5 : Int32) ≤ d) : PsX B n t d (fX2_readOne gE gO) (onP (tC B n) (vlT B n) can pE pO) ∧ DdX B n t d (fX2_readOne gE gO) := by
  refine ⟨fun i cs X hv hl hA => ?_, fun e X hF => ?_⟩
  · have hX := hA.1.1
    have hn := hA.1.2.2.2.1
    have hle := vt_le hv
    have h3 := hA.2.2.1
    unfold onP
    by_cases c7 : tC B n i = 7
    · rw [if_pos c7]
      have hv1 := op_vt hv c7 (by decide) (by decide)
      have hle1 := vt_le hv1
      obtain ⟨X1, a1, a2, a3⟩ := x_addA hA (by omega) (vlT B n i)
      obtain ⟨X2, b1, b2, b3⟩ := x_adv a2 hv1
      have r0 : X.2.2.2 9 0 = some 10 := hX.r (by decide) (by decide) (by decide) (by decide)
      have r3 : X.2.2.2 10 3 = some 13 := hX.r (by decide) (by decide) (by decide) (by decide)
      have c0 : ¬ nI i < 0 := nI_pos (by omega)
      have c1 : ¬ Int32.ofNat 161 ≤ nI i := nI_ge (b := 161) (by omega) (by decide)
      have hz : zix spX 13 (nI i) = some i := zix_of rfl (by show i < 161; omega) (by decide)
      have tk : X.2.1 13 i = vlT B n i := (hA.1.2.2.2.2 i hv).2.2
      refine ⟨X2, ?_, b2, a3.tr b3⟩
      simp only [fX2_readOne, fX2_readOne_j19, fX2_readOne_j47, fX5_valueOf, zokX_0, zokX_1, zokX_2, zokX_3, zokX_4, zokX_5, zokX_6, zokX_7, zokX_8, zokX_9, zokX_10, zokX_11, zokX_12, zokX_13, zokX_14, zokX_15, zokX_16, zlaX_1, zlaX_2, zlaX_3, zlaX_4, zlaX_5, zlaX_6, zlaX_8, zlaX_11, zlaX_12, zlaX_13, zlaX_15, zlaX_16, zp_1, zp_h, zp_r, zp_l, zletE, obs, spXe_0, spXe_1, spXe_2, spXe_3, spXe_4, spXe_5, spXe_6, spXe_7, spXe_8, spXe_9, spXe_10, spXe_11, spXe_12, spXe_13, spXe_14, spXe_15, spXe_16, hX.1, h3, if_pos c7, r0, hA.2.1, if_neg c0, r3, c1, if_false, hz, tk, a1, a2.1.1.1, b1]
    · rw [if_neg c7]
      by_cases cn : ¬ -1 < tC B n i ∧ ¬ tC B n i < -6
      · rw [if_pos cn]
        have e8 : ¬ tC B n i = 8 := fun q => cn.1 (by rw [q]; decide)
        have e9 : ¬ tC B n i = 9 := fun q => cn.1 (by rw [q]; decide)
        have hv1 := vt_s hv e8 e9
        have hle1 := vt_le hv1
        obtain ⟨X1, a1, a2, a3⟩ := x_addA hA (by omega) (tC B n i)
        obtain ⟨X2, b1, b2, b3⟩ := x_adv a2 hv1
        refine ⟨X2, ?_, b2, a3.tr b3⟩
        simp only [fX2_readOne, fX2_readOne_j19, fX2_readOne_j47, zokX_0, zokX_1, zokX_2, zokX_3, zokX_4, zokX_5, zokX_6, zokX_7, zokX_8, zokX_9, zokX_10, zokX_11, zokX_12, zokX_13, zokX_14, zokX_15, zokX_16, zlaX_1, zlaX_2, zlaX_3, zlaX_4, zlaX_5, zlaX_6, zlaX_8, zlaX_11, zlaX_12, zlaX_13, zlaX_15, zlaX_16, zp_1, zp_h, zp_r, zp_l, zletE, obs, spXe_0, spXe_1, spXe_2, spXe_3, spXe_4, spXe_5, spXe_6, spXe_7, spXe_8, spXe_9, spXe_10, spXe_11, spXe_12, spXe_13, spXe_14, spXe_15, spXe_16, hX.1, h3, if_neg c7, x_isName, if_neg cn.1, if_neg cn.2, if_neg n10, a1, a2.1.1.1, b1]
      · rw [if_neg cn]
        have hnm : fX4_isName (tC B n i) X = some (0, X) := by
          rw [x_isName]
          by_cases q1 : -1 < tC B n i
          · rw [if_pos q1]
          · rw [if_neg q1]
            by_cases q2 : tC B n i < -6
            · rw [if_pos q2]
            · exact absurd ⟨q1, q2⟩ cn
        by_cases c45 : tC B n i = 45
        · rw [if_pos c45]
          cases can with
          | false =>
            rw [if_neg (by decide)]
            obtain ⟨X1, a1, a2, a3⟩ := x_may0 hA hv (hc0 rfl)
            obtain ⟨X2, b1, b2, b3⟩ := x_fail1 a2
            refine ⟨X2, ?_, b2, a3.tr b3⟩
            simp only [fX2_readOne, fX2_readOne_j94, fX2_readOne_j131, zokX_0, zokX_1, zokX_2, zokX_3, zokX_4, zokX_5, zokX_6, zokX_7, zokX_8, zokX_9, zokX_10, zokX_11, zokX_12, zokX_13, zokX_14, zokX_15, zokX_16, zlaX_1, zlaX_2, zlaX_3, zlaX_4, zlaX_5, zlaX_6, zlaX_8, zlaX_11, zlaX_12, zlaX_13, zlaX_15, zlaX_16, zp_1, zp_h, zp_r, zp_l, zletE, obs, spXe_0, spXe_1, spXe_2, spXe_3, spXe_4, spXe_5, spXe_6, spXe_7, spXe_8, spXe_9, spXe_10, spXe_11, spXe_12, spXe_13, spXe_14, spXe_15, spXe_16, hX.1, h3, if_neg c7, hnm, if_true, if_pos c45, a1, a2.1.1.1, a2.2.1, if_neg (show ¬ (9 : Int32) = 40 by decide), b1]
          | true =>
            rw [if_pos rfl]
            obtain ⟨d5, -, hpO, hkO⟩ := hc1 rfl
            have hv1 := op_vt hv c45 (by decide) (by decide)
            obtain ⟨X1, a1, a2, a3⟩ := x_adv hA hv1
            have hr := hpO (i + 1) cs X1 hv1 (by omega) a2
            have hk := hkO (i + 1) hv1
            cases hpi : pO (i + 1) with
            | inl e =>
              rw [hpi] at hr
              obtain ⟨X2, b1, b2, b3⟩ := hr
              obtain ⟨X3, g1, g2, g3⟩ := x_addF b2 (-19)
              refine ⟨X3, ?_, g2, (a3.tr b3).tr g3⟩
              simp only [fX2_readOne, zokX_0, zokX_1, zokX_2, zokX_3, zokX_4, zokX_5, zokX_6, zokX_7, zokX_8, zokX_9, zokX_10, zokX_11, zokX_12, zokX_13, zokX_14, zokX_15, zokX_16, zlaX_1, zlaX_2, zlaX_3, zlaX_4, zlaX_5, zlaX_6, zlaX_8, zlaX_11, zlaX_12, zlaX_13, zlaX_15, zlaX_16, zp_1, zp_h, zp_r, zp_l, zletE, obs, spXe_0, spXe_1, spXe_2, spXe_3, spXe_4, spXe_5, spXe_6, spXe_7, spXe_8, spXe_9, spXe_10, spXe_11, spXe_12, spXe_13, spXe_14, spXe_15, spXe_16, hX.1, h3, if_neg c7, hnm, if_true, if_pos c45, x_may1 d5, if_neg n10, a1, a2.1.1.1, b1, b2.1.1.1, g1]
            | inr r =>
              obtain ⟨i', cs', v'⟩ := r
              rw [hpi] at hr hk
              obtain ⟨X2, b1, b2, b3⟩ := hr
              obtain ⟨k1, k2, k3, -⟩ := hk
              have hle2 := vt_le k2
              obtain ⟨X3, g1, g2, g3⟩ := x_addA b2 (by rw [List.length_append]; omega) (-19)
              refine ⟨X3, ?_, by rw [← List.append_assoc]; exact g2, (a3.tr b3).tr g3⟩
              simp only [fX2_readOne, zokX_0, zokX_1, zokX_2, zokX_3, zokX_4, zokX_5, zokX_6, zokX_7, zokX_8, zokX_9, zokX_10, zokX_11, zokX_12, zokX_13, zokX_14, zokX_15, zokX_16, zlaX_1, zlaX_2, zlaX_3, zlaX_4, zlaX_5, zlaX_6, zlaX_8, zlaX_11, zlaX_12, zlaX_13, zlaX_15, zlaX_16, zp_1, zp_h, zp_r, zp_l, zletE, obs, spXe_0, spXe_1, spXe_2, spXe_3, spXe_4, spXe_5, spXe_6, spXe_7, spXe_8, spXe_9, spXe_10, spXe_11, spXe_12, spXe_13, spXe_14, spXe_15, spXe_16, hX.1, h3, if_neg c7, hnm, if_true, if_pos c45, x_may1 d5, if_neg n10, a1, a2.1.1.1, b1, b2.1.1.1, g1]
        · rw [if_neg c45]
          by_cases c40 : tC B n i = 40
          · rw [if_pos c40]
            cases can with
            | false =>
              rw [if_neg (by decide)]
              obtain ⟨X1, a1, a2, a3⟩ := x_may0 hA hv (hc0 rfl)
              obtain ⟨X2, b1, b2, b3⟩ := x_fail1 a2
              refine ⟨X2, ?_, b2, a3.tr b3⟩
              simp only [fX2_readOne, fX2_readOne_j94, fX2_readOne_j131, zokX_0, zokX_1, zokX_2, zokX_3, zokX_4, zokX_5, zokX_6, zokX_7, zokX_8, zokX_9, zokX_10, zokX_11, zokX_12, zokX_13, zokX_14, zokX_15, zokX_16, zlaX_1, zlaX_2, zlaX_3, zlaX_4, zlaX_5, zlaX_6, zlaX_8, zlaX_11, zlaX_12, zlaX_13, zlaX_15, zlaX_16, zp_1, zp_h, zp_r, zp_l, zletE, obs, spXe_0, spXe_1, spXe_2, spXe_3, spXe_4, spXe_5, spXe_6, spXe_7, spXe_8, spXe_9, spXe_10, spXe_11, spXe_12, spXe_13, spXe_14, spXe_15, spXe_16, hX.1, h3, if_neg c7, hnm, if_true, if_neg c45, if_pos c40, a1, a2.1.1.1, b1]
            | true =>
              rw [if_pos rfl]
              obtain ⟨d5, ⟨hpE, hkE⟩, -⟩ := hc1 rfl
              have hv1 := op_vt hv c40 (by decide) (by decide)
              obtain ⟨X1, a1, a2, a3⟩ := x_adv hA hv1
              have hr := hpE (i + 1) cs X1 hv1 (by omega) a2
              have hk := hkE (i + 1) hv1
              cases hpi : pE (i + 1) with
              | inl e =>
                rw [hpi] at hr
                obtain ⟨X2, b1, b2, b3⟩ := hr
                obtain ⟨X3, g1, g2, g3⟩ := x_expF b2 (c := 41) (by decide)
                refine ⟨X3, ?_, g2, (a3.tr b3).tr g3⟩
                simp only [fX2_readOne, fX2_readOne_j94, zokX_0, zokX_1, zokX_2, zokX_3, zokX_4, zokX_5, zokX_6, zokX_7, zokX_8, zokX_9, zokX_10, zokX_11, zokX_12, zokX_13, zokX_14, zokX_15, zokX_16, zlaX_1, zlaX_2, zlaX_3, zlaX_4, zlaX_5, zlaX_6, zlaX_8, zlaX_11, zlaX_12, zlaX_13, zlaX_15, zlaX_16, zp_1, zp_h, zp_r, zp_l, zletE, obs, spXe_0, spXe_1, spXe_2, spXe_3, spXe_4, spXe_5, spXe_6, spXe_7, spXe_8, spXe_9, spXe_10, spXe_11, spXe_12, spXe_13, spXe_14, spXe_15, spXe_16, hX.1, h3, if_neg c7, hnm, if_true, if_neg c45, if_pos c40, x_may1 d5, if_neg n10, a1, a2.1.1.1, b1, b2.1.1.1, g1]
              | inr r =>
                obtain ⟨i', cs', v'⟩ := r
                rw [hpi] at hr hk
                obtain ⟨X2, b1, b2, b3⟩ := hr
                obtain ⟨k1, k2, k3, -⟩ := hk
                show RdX B n t X cs _ (if tC B n i' = 41 then _ else _)
                by_cases c41 : tC B n i' = 41
                · rw [if_pos c41]
                  obtain ⟨X3, g1, g2, g3⟩ := x_expY b2 k2 c41 (by decide) (by decide)
                  refine ⟨X3, ?_, g2, (a3.tr b3).tr g3⟩
                  simp only [fX2_readOne, fX2_readOne_j94, zokX_0, zokX_1, zokX_2, zokX_3, zokX_4, zokX_5, zokX_6, zokX_7, zokX_8, zokX_9, zokX_10, zokX_11, zokX_12, zokX_13, zokX_14, zokX_15, zokX_16, zlaX_1, zlaX_2, zlaX_3, zlaX_4, zlaX_5, zlaX_6, zlaX_8, zlaX_11, zlaX_12, zlaX_13, zlaX_15, zlaX_16, zp_1, zp_h, zp_r, zp_l, zletE, obs, spXe_0, spXe_1, spXe_2, spXe_3, spXe_4, spXe_5, spXe_6, spXe_7, spXe_8, spXe_9, spXe_10, spXe_11, spXe_12, spXe_13, spXe_14, spXe_15, spXe_16, hX.1, h3, if_neg c7, hnm, if_true, if_neg c45, if_pos c40, x_may1 d5, if_neg n10, a1, a2.1.1.1, b1, b2.1.1.1, g1]
                · rw [if_neg c41]
                  obtain ⟨X3, g1, g2, g3⟩ := x_expN b2 k2 c41
                  refine ⟨X3, ?_, g2, (a3.tr b3).tr g3⟩
                  simp only [fX2_readOne, fX2_readOne_j94, zokX_0, zokX_1, zokX_2, zokX_3, zokX_4, zokX_5, zokX_6, zokX_7, zokX_8, zokX_9, zokX_10, zokX_11, zokX_12, zokX_13, zokX_14, zokX_15, zokX_16, zlaX_1, zlaX_2, zlaX_3, zlaX_4, zlaX_5, zlaX_6, zlaX_8, zlaX_11, zlaX_12, zlaX_13, zlaX_15, zlaX_16, zp_1, zp_h, zp_r, zp_l, zletE, obs, spXe_0, spXe_1, spXe_2, spXe_3, spXe_4, spXe_5, spXe_6, spXe_7, spXe_8, spXe_9, spXe_10, spXe_11, spXe_12, spXe_13, spXe_14, spXe_15, spXe_16, hX.1, h3, if_neg c7, hnm, if_true, if_neg c45, if_pos c40, x_may1 d5, if_neg n10, a1, a2.1.1.1, b1, b2.1.1.1, g1]
          · rw [if_neg c40]
            obtain ⟨X1, a1, a2, a3⟩ := x_fail hA hv
            refine ⟨X1, ?_, a2, a3⟩
            simp only [fX2_readOne, fX2_readOne_j94, fX2_readOne_j131, zokX_0, zokX_1, zokX_2, zokX_3, zokX_4, zokX_5, zokX_6, zokX_7, zokX_8, zokX_9, zokX_10, zokX_11, zokX_12, zokX_13, zokX_14, zokX_15, zokX_16, zlaX_1, zlaX_2, zlaX_3, zlaX_4, zlaX_5, zlaX_6, zlaX_8, zlaX_11, zlaX_12, zlaX_13, zlaX_15, zlaX_16, zp_1, zp_h, zp_r, zp_l, zletE, obs, spXe_0, spXe_1, spXe_2, spXe_3, spXe_4, spXe_5, spXe_6, spXe_7, spXe_8, spXe_9, spXe_10, spXe_11, spXe_12, spXe_13, spXe_14, spXe_15, spXe_16, hX.1, h3, if_neg c7, hnm, if_true, if_neg c45, if_neg c40, a1]
  · obtain ⟨X1, b1, b2, b3⟩ := x_fail1 hF
    refine ⟨X1, ?_, b2, b3⟩
    simp only [fX2_readOne, fX2_readOne_j94, fX2_readOne_j131, zokX_0, zokX_1, zokX_2, zokX_3, zokX_4, zokX_5, zokX_6, zokX_7, zokX_8, zokX_9, zokX_10, zokX_11, zokX_12, zokX_13, zokX_14, zokX_15, zokX_16, zlaX_1, zlaX_2, zlaX_3, zlaX_4, zlaX_5, zlaX_6, zlaX_8, zlaX_11, zlaX_12, zlaX_13, zlaX_15, zlaX_16, zp_1, zp_h, zp_r, zp_l, zletE, obs, spXe_0, spXe_1, spXe_2, spXe_3, spXe_4, spXe_5, spXe_6, spXe_7, spXe_8, spXe_9, spXe_10, spXe_11, spXe_12, spXe_13, spXe_14, spXe_15, spXe_16, hF.1.1.1, hF.2.1, if_neg (show ¬ (9 : Int32) = 7 by decide), x_isName, if_pos (show (-1 : Int32) < 9 by decide), if_true, if_neg (show ¬ (9 : Int32) = 45 by decide), if_neg (show ¬ (9 : Int32) = 40 by decide), b1]
/-- one level -/
theorem lv_x1 {B : Nat → Int32} {n t : Nat} (hV : ∀ i, ¬ vlT B n i < 0) {can : Bool} {d : Int32} {gE gO gN : zP} {pE pO pN : Nat → PR} {h : Nat} (hh : 1 ≤ h)
    (hc1 : can = true → (¬ (5 : Int32) ≤ d ∧ (PsX B n t (d + 1) gE pE ∧ OkF B n h pE) ∧ (PsX B n t (d + 1) gO pO ∧ OkF B n h pO) ∧ (PsX B n t (d + 1) gN pN ∧ DdX B n t (d + 1) gN ∧ OkF B n h pN))) (hc0 : can = false → (5 : Int32) ≤ d) : (PsX B n t d (fX2_readEither (fX2_readBoth (fX2_readNot gN (fX2_readSum (fX2_readTerm (fX2_readOne gE gO)))))) (etP (tC B n) (vlT B n) can pE pO pN) ∧ DdX B n t d (fX2_readEither (fX2_readBoth (fX2_readNot gN (fX2_readSum (fX2_readTerm (fX2_readOne gE gO))))))) ∧ (PsX B n t d (fX2_readOne gE gO) (onP (tC B n) (vlT B n) can pE pO) ∧ DdX B n t d (fX2_readOne gE gO)) ∧ (PsX B n t d (fX2_readNot gN (fX2_readSum (fX2_readTerm (fX2_readOne gE gO)))) (nnP (tC B n) (vlT B n) can pE pO pN) ∧ DdX B n t d (fX2_readNot gN (fX2_readSum (fX2_readTerm (fX2_readOne gE gO))))) := by
  obtain ⟨ka, kb, kc, kd, ke⟩ := OkF.lv (B := B) (n := n) (h := h) (V := vlT B n) hV (can := can) (pE := pE) (pO := pO) (pN := pN) hh (fun q => (hc1 q).2.1.2) (fun q => (hc1 q).2.2.1.2) (fun q => (hc1 q).2.2.2.2.2)
  have a := on_x (B := B) (n := n) (t := t) (can := can) (d := d) (gE := gE) (gO := gO) (pE := pE) (pO := pO) (h := h) (fun q => ⟨(hc1 q).1, (hc1 q).2.1, (hc1 q).2.2.1⟩) hc0
  have tm := tm_x ka a.1 a.2
  have sm := sm_x (ka.ch (okTm B n)) tm.1 tm.2
  have nn : PsX B n t d (fX2_readNot gN (fX2_readSum (fX2_readTerm (fX2_readOne gE gO)))) (nnP (tC B n) (vlT B n) can pE pO pN) ∧ DdX B n t d (fX2_readNot gN (fX2_readSum (fX2_readTerm (fX2_readOne gE gO)))) := nt_x (h := h + 2) (fun q => ⟨(hc1 q).1, (hc1 q).2.2.2.1, (hc1 q).2.2.2.2.1, (hc1 q).2.2.2.2.2.up (by omega)⟩) hc0 kb sm.1 sm.2
  have bt := bt_x kc nn.1 nn.2
  have et := et_x kd bt.1 bt.2
  exact ⟨et, a, nn⟩
theorem lv_x {B : Nat → Int32} {n t : Nat} (hV : ∀ i, ¬ vlT B n i < 0) : ∀ r, r ≤ 5 → (PsX B n t (nI (5 - r)) (zRd (r + 2)).1 (rdP (tC B n) (vlT B n) r).1 ∧ DdX B n t (nI (5 - r)) (zRd (r + 2)).1) ∧ (PsX B n t (nI (5 - r)) (zRd (r + 2)).2.1 (rdP (tC B n) (vlT B n) r).2.1 ∧ DdX B n t (nI (5 - r)) (zRd (r + 2)).2.1) ∧ (PsX B n t (nI (5 - r)) (zRd (r + 2)).2.2 (rdP (tC B n) (vlT B n) r).2.2 ∧ DdX B n t (nI (5 - r)) (zRd (r + 2)).2.2)
  | 0, _ => lv_x1 hV (can := false) (h := 1) (Nat.le_refl _) (fun q => by cases q) (fun _ => by decide)
  | r + 1, hr => by
    obtain ⟨⟨e1, e2⟩, ⟨o1, o2⟩, ⟨n1, n2⟩⟩ := lv_x hV r (by omega)
    obtain ⟨i1, i2, i3⟩ := ok_rd (B := B) (n := n) (V := vlT B n) hV r
    have e : nI (5 - r) = nI (5 - (r + 1)) + 1 := by rw [nI_1, show 5 - (r + 1) + 1 = 5 - r by omega]
    rw [e] at e1 e2 o1 o2 n1 n2
    have c5 : ¬ (5 : Int32) ≤ nI (5 - (r + 1)) := nI_ge (b := 5) (by omega) (by decide)
    exact lv_x1 hV (can := true) (h := 5 * r + 6) (by omega) (fun _ => ⟨c5, ⟨e1, i1⟩, ⟨o1, i2⟩, ⟨n1, n2, i3⟩⟩) (fun q => by cases q)
