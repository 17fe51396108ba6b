theorem zw_809 : Cond.fieldLink RX8 41 "WellGivesOtherModel" "likesKept" "[I" ∈ wsL_law := zr_6 _ (by decide +kernel)
theorem hf_X8_41 : Cond.fieldLink RX8 41 "WellGivesOtherModel" "likesKept" "[I" ∈ wsL_law := zw_809
theorem zw_810 : Cond.fieldLink RX8 44 "WellGivesOtherModel" "rowsKept" "[I" ∈ wsL_law := zr_6 _ (by decide +kernel)
theorem hf_X8_44 : Cond.fieldLink RX8 44 "WellGivesOtherModel" "rowsKept" "[I" ∈ wsL_law := zw_810
theorem zw_811 : Cond.fieldLink RX8 440 "WellGivesOtherModel" "dayKept" "I" ∈ wsL_law := zr_48 _ (by decide +kernel)
theorem hf_X8_440 : Cond.fieldLink RX8 440 "WellGivesOtherModel" "dayKept" "I" ∈ wsL_law := zw_811
theorem zw_812 : Cond.fieldLink RX8 443 "WellGivesOtherModel" "ruleKept" "I" ∈ wsL_law := zr_48 _ (by decide +kernel)
theorem hf_X8_443 : Cond.fieldLink RX8 443 "WellGivesOtherModel" "ruleKept" "I" ∈ wsL_law := zw_812
theorem zw_813 : Cond.fieldLink RX8 47 "WellGivesOtherModel" "manyKept" "I" ∈ wsL_law := zr_6 _ (by decide +kernel)
theorem hf_X8_47 : Cond.fieldLink RX8 47 "WellGivesOtherModel" "manyKept" "I" ∈ wsL_law := zw_813
abbrev rmX8_back : Room := { frames := 1, cells := 0, slots := 0, locals := 40 }
def fX8_back_L39 (this : Nat) : Nat → Int32 → zS → Option (Int32 × zS)
  | 0, _, _ => none
  | n + 1, y1, st => if (20 : Int32) ≤ y1 then ((zok spM st (some this) 8).bind fun o1 => (zok spM st (some this) 8).bind fun o2 => zlet (zp st o2 11 (st.2.1 o1 39)) fun st3 => (zok spM st3 (some this) 8).bind fun o4 => (zok spM st3 (some this) 8).bind fun o5 => zlet (zp st3 o5 7 (st3.2.1 o4 40)) fun st6 => (zok spM st6 (some this) 8).bind fun o7 => (zok spM st6 (some this) 8).bind fun o8 => zlet (zp st6 o8 4 (st6.2.1 o7 41)) fun st9 => (zok spM st9 (some this) 8).bind fun o10 => some ((st9.2.1 o10 11), st9)) else ((zok spM st (some this) 8).bind fun o11 => (zok spM st (some this) 8).bind fun o12 => (zok spM st (st.2.2.2 o12 38) 9).bind fun o13 => (zix spM o13 y1).bind fun j14 => (zok spM st (st.2.2.2 o11 10) 9).bind fun o15 => (zix spM o15 y1).bind fun j16 => zlet (zp st o15 j16 (st.2.1 o13 j14)) fun st17 => (fX8_back_L39 this n) (y1 + (1 : Int32)) st17)
def fX8_back_L13 (this : Nat) : Nat → Int32 → zS → Option (Int32 × zS)
  | 0, _, _ => none
  | n + 1, y1, st => if (12 : Int32) ≤ y1 then (fX8_back_L39 this zF (0 : Int32) st) else ((zok spM st (some this) 8).bind fun o18 => (zok spM st (some this) 8).bind fun o19 => (zok spM st (st.2.2.2 o19 37) 9).bind fun o20 => (zix spM o20 y1).bind fun j21 => (zok spM st (st.2.2.2 o18 8) 9).bind fun o22 => (zix spM o22 y1).bind fun j23 => zlet (zp st o22 j23 (st.2.1 o20 j21)) fun st24 => (fX8_back_L13 this n) (y1 + (1 : Int32)) st24)
def fX8_back (this : Nat) (st : zS) : Option (Int32 × zS) :=
  (zok spM st (some this) 8).bind fun o25 => if (st.2.1 o25 39) = (-1 : Int32) then (some ((-3 : Int32), st)) else (fX8_back_L13 this zF (0 : Int32) st)
set_option maxRecDepth 100000 in
set_option maxHeartbeats 4000000 in
theorem kX8_back (l : Launch) (Z : zZ) (b : Nat) (x : Option Nat) (this : Nat) (st : zS) : zC l Z spM b x yX8_back (.code yX8_back cX8_back 2 (some .int)) (rmX8_back) rI [vP (some this)] st (fX8_back this st) := by
  refine z_start (own := RX8) rfl (by decide +kernel) (Nat.le_of_ble_eq_true rfl) rfl (fun p e s m args below meth c res Q A X hK hr hlocks hQ => ?_)
  have J39 : ∀ (n39 : Nat) (y1 : Int32) (st : zS), zs p l e (rmX8_back) s m args below meth c Q Z spM b x A 2 0 0 res (fX8_back_L39 this n39 y1 st) 39 [(0, vP (some this)), (1, vI y1)] [] st := by
    intro n39
    induction n39 with
    | zero => intros; exact z_none
    | succ n39 ih39 =>
      intro y1 st
      rw [fX8_back_L39]
      refine z_iload_n X (q := 1) dX8_back_39 rfl rfl ?_
      refine z_bipush X (v := (20 : Int32)) dX8_back_40 (by decide) ?_
      refine z_icmp_ge X (tgt := 63) dX8_back_42 (by decide) (fun _ => ?_) (fun _ => ?_)
      · refine z_aload_n X (q := 0) dX8_back_63 rfl rfl ?_
        refine z_aload_n X (q := 0) dX8_back_64 rfl rfl ?_
        refine z_geti X hK (N := 46) (ci := 8) (k := 39) rfl (by decide) inlX8 (by decide) hf_X8_47 rfl spM_X8 rfl dX8_back_65 (fun o1 _ => ?_)
        refine z_puti X hK (N := 46) (ci := 8) (k := 11) rfl (by decide) inlX8 tyX8 tyX8_ok nmX8 (by decide) hf_X8_74 rfl rfl spM_X8 rfl (by decide +kernel) dX8_back_68 (fun o2 st3 _ => ?_)
        refine z_aload_n X (q := 0) dX8_back_71 rfl rfl ?_
        refine z_aload_n X (q := 0) dX8_back_72 rfl rfl ?_
        refine z_geti X hK (N := 46) (ci := 8) (k := 40) rfl (by decide) inlX8 (by decide) hf_X8_440 rfl spM_X8 rfl dX8_back_73 (fun o4 _ => ?_)
        refine z_puti X hK (N := 46) (ci := 8) (k := 7) rfl (by decide) inlX8 tyX8 tyX8_ok nmX8 (by decide) hf_X8_103 rfl rfl spM_X8 rfl (by decide +kernel) dX8_back_76 (fun o5 st6 _ => ?_)
        refine z_aload_n X (q := 0) dX8_back_79 rfl rfl ?_
        refine z_aload_n X (q := 0) dX8_back_80 rfl rfl ?_
        refine z_geti X hK (N := 46) (ci := 8) (k := 41) rfl (by decide) inlX8 (by decide) hf_X8_443 rfl spM_X8 rfl dX8_back_81 (fun o7 _ => ?_)
        refine z_puti X hK (N := 46) (ci := 8) (k := 4) rfl (by decide) inlX8 tyX8 tyX8_ok nmX8 (by decide) hf_X8_106 rfl rfl spM_X8 rfl (by decide +kernel) dX8_back_84 (fun o8 st9 _ => ?_)
        refine z_aload_n X (q := 0) dX8_back_87 rfl rfl ?_
        refine z_geti X hK (N := 46) (ci := 8) (k := 11) rfl (by decide) inlX8 (by decide) hf_X8_74 rfl spM_X8 rfl dX8_back_88 (fun o10 _ => ?_)
        subst hQ; exact z_iret X hlocks hr dX8_back_91
      · refine z_aload_n X (q := 0) dX8_back_45 rfl rfl ?_
        refine z_getr X hK (N := 46) (ci := 8) (k := 10) rfl (by decide) inlX8 (by decide) hf_X8_29 rfl spM_X8 rfl dX8_back_46 (fun o11 _ => ?_)
        refine z_iload_n X (q := 1) dX8_back_49 rfl rfl ?_
        refine z_aload_n X (q := 0) dX8_back_50 rfl rfl ?_
        refine z_getr X hK (N := 46) (ci := 8) (k := 38) rfl (by decide) inlX8 (by decide) hf_X8_44 rfl spM_X8 rfl dX8_back_51 (fun o12 _ => ?_)
        refine z_iload_n X (q := 1) dX8_back_54 rfl rfl ?_
        refine z_iald X hK dX8_back_55 (fun o13 j14 _ _ => ?_)
        refine z_iast X hK dX8_back_56 (fun o15 j16 st17 _ _ => ?_)
        refine z_iinc X (q := 1) (y := y1 + (1 : Int32)) dX8_back_57 rfl rfl (Nat.le_of_ble_eq_true rfl) rfl ?_
        refine z_goto X (tgt := 39) dX8_back_60 (by decide) ?_
        exact z_sub [1, 0] (ih39 _ _) rfl
  have J13 : ∀ (n13 : Nat) (y1 : Int32) (st : zS), zs p l e (rmX8_back) s m args below meth c Q Z spM b x A 2 0 0 res (fX8_back_L13 this n13 y1 st) 13 [(0, vP (some this)), (1, vI y1)] [] st := by
    intro n13
    induction n13 with
    | zero => intros; exact z_none
    | succ n13 ih13 =>
      intro y1 st
      rw [fX8_back_L13]
      refine z_iload_n X (q := 1) dX8_back_13 rfl rfl ?_
      refine z_bipush X (v := (12 : Int32)) dX8_back_14 (by decide) ?_
      refine z_icmp_ge X (tgt := 37) dX8_back_16 (by decide) (fun _ => ?_) (fun _ => ?_)
      · refine z_iconst X (v := (0 : Int32)) dX8_back_37 (by decide) ?_
        refine z_istore_n X dX8_back_38 rfl (Nat.le_of_ble_eq_true rfl) rfl ?_
        exact z_sub [1, 0] (J39 _ _ _) rfl
      · refine z_aload_n X (q := 0) dX8_back_19 rfl rfl ?_
        refine z_getr X hK (N := 46) (ci := 8) (k := 8) rfl (by decide) inlX8 (by decide) hf_X8_23 rfl spM_X8 rfl dX8_back_20 (fun o18 _ => ?_)
        refine z_iload_n X (q := 1) dX8_back_23 rfl rfl ?_
        refine z_aload_n X (q := 0) dX8_back_24 rfl rfl ?_
        refine z_getr X hK (N := 46) (ci := 8) (k := 37) rfl (by decide) inlX8 (by decide) hf_X8_41 rfl spM_X8 rfl dX8_back_25 (fun o19 _ => ?_)
        refine z_iload_n X (q := 1) dX8_back_28 rfl rfl ?_
        refine z_iald X hK dX8_back_29 (fun o20 j21 _ _ => ?_)
        refine z_iast X hK dX8_back_30 (fun o22 j23 st24 _ _ => ?_)
        refine z_iinc X (q := 1) (y := y1 + (1 : Int32)) dX8_back_31 rfl rfl (Nat.le_of_ble_eq_true rfl) rfl ?_
        refine z_goto X (tgt := 13) dX8_back_34 (by decide) ?_
        exact z_sub [1, 0] (ih13 _ _) rfl
  rw [fX8_back]
  refine z_aload_n X (q := 0) dX8_back_0 rfl rfl ?_
  refine z_geti X hK (N := 46) (ci := 8) (k := 39) rfl (by decide) inlX8 (by decide) hf_X8_47 rfl spM_X8 rfl dX8_back_1 (fun o25 _ => ?_)
  refine z_iconst X (v := (-1 : Int32)) dX8_back_4 (by decide) ?_
  refine z_icmp_ne X (tgt := 11) dX8_back_5 (by decide) (fun _ => ?_) (fun _ => ?_)
  · refine z_iconst X (v := (0 : Int32)) dX8_back_11 (by decide) ?_
    refine z_istore_n X dX8_back_12 rfl (Nat.le_of_ble_eq_true rfl) rfl ?_
    exact z_sub [1, 0] (J13 _ _ _) rfl
  · refine z_bipush X (v := (-3 : Int32)) dX8_back_8 (by decide) ?_
    subst hQ; exact z_iret X hlocks hr dX8_back_10
abbrev rmX8_cell : Room := { frames := 3, cells := 0, slots := 0, locals := 85 }
def fX8_cell (this : Nat) (a1 : Int32) (a2 : Int32) (a3 : Int32) (st : zS) : Option (Int32 × zS) :=
  (fX8_isSheet a1 st).bind fun q1 => if q1.1 = 0 then (some ((-2 : Int32), q1.2)) else ((zok spM q1.2 (some this) 8).bind fun o2 => (zok spM q1.2 (q1.2.2.2.2 o2 42) 10).bind fun o3 => (zix spM o3 a1).bind fun j4 => if (q1.2.2.1 o3 j4) = 0 then (some ((-11 : Int32), q1.2)) else ((zok spM q1.2 (some this) 8).bind fun o5 => (zok spM q1.2 (q1.2.2.2.2 o5 44) 9).bind fun o6 => (zix spM o6 a1).bind fun j7 => (fX8_in (a2.toInt64) (0 : Int64) (((q1.2.2.1 o6 j7) - (1 : Int32)).toInt64) q1.2).bind fun q8 => if q8.1 = 0 then (some ((-12 : Int32), q8.2)) else ((zok spM q8.2 (some this) 8).bind fun o9 => (zok spM q8.2 (some this) 8).bind fun o10 => (zok spM q8.2 (q8.2.2.2.2 o10 43) 9).bind fun o11 => (zix spM o11 a1).bind fun j12 => if (q8.2.2.1 o11 j12) = 0 then ((zok spM q8.2 (q8.2.2.2.2 o9 45) 9).bind fun o22 => (zix spM o22 (((40 : Int32) * a1) + a2)).bind fun j23 => zlet (zp q8.2 o22 j23 (a3.toInt8.toInt32)) fun st24 => some ((1 : Int32), st24)) else ((zok spM q8.2 (some this) 8).bind fun o13 => (zok spM q8.2 (q8.2.2.2.2 o13 43) 9).bind fun o14 => (zix spM o14 a1).bind fun j15 => if (q8.2.2.1 o14 j15) = (1 : Int32) then ((zok spM q8.2 (q8.2.2.2.2 o9 45) 9).bind fun o19 => (zix spM o19 (((40 : Int32) * a1) + a2)).bind fun j20 => zlet (zp q8.2 o19 j20 (a3.toInt16.toInt32)) fun st21 => some ((1 : Int32), st21)) else ((zok spM q8.2 (q8.2.2.2.2 o9 45) 9).bind fun o16 => (zix spM o16 (((40 : Int32) * a1) + a2)).bind fun j17 => zlet (zp q8.2 o16 j17 a3) fun st18 => some ((1 : Int32), st18))))))
set_option maxRecDepth 100000 in
set_option maxHeartbeats 4000000 in
theorem kX8_cell (l : Launch) (Z : zZ) (b : Nat) (x : Option Nat) (this : Nat) (a1 : Int32) (a2 : Int32) (a3 : Int32) (st : zS) : zC l Z spM b x yX8_cell (.code yX8_cell cX8_cell 4 (some .int)) (rmX8_cell) rI [vP (some this), vI a1, vI a2, vI a3] st (fX8_cell this a1 a2 a3 st) := by
  refine z_start (own := RX8) rfl (by decide +kernel) (Nat.le_of_ble_eq_true rfl) rfl (fun p e s m args below meth c res Q A X hK hr hlocks hQ => ?_)
  rw [fX8_cell]
  refine z_iload_n X (q := 1) dX8_cell_0 rfl rfl ?_
  refine z_callS X hK (As := [vI a1]) (kX8_isSheet l Z  b x _ _) hk_X8_390 ⟨rfl, rfl⟩ hd_X8_isSheet.2 ⟨Nat.le_of_ble_eq_true rfl, Nat.le_of_ble_eq_true rfl⟩ ⟨Nat.le_of_ble_eq_true rfl, Nat.le_of_ble_eq_true rfl⟩ rfl rfl (Nat.le_of_ble_eq_true rfl) dX8_cell_1 (fun q1 => ?_)
  refine z_if_ne X (tgt := 10) dX8_cell_4 (by decide) (fun _ => ?_) (fun _ => ?_)
  · refine z_aload_n X (q := 0) dX8_cell_10 rfl rfl ?_
    refine z_getr X hK (N := 46) (ci := 8) (k := 42) rfl (by decide) inlX8 (by decide) hf_X8_50 rfl spM_X8 rfl dX8_cell_11 (fun o2 _ => ?_)
    refine z_iload_n X (q := 1) dX8_cell_14 rfl rfl ?_
    refine z_zald X hK dX8_cell_15 (fun o3 j4 _ _ => ?_)
    refine z_if_ne X (tgt := 22) dX8_cell_16 (by decide) (fun _ => ?_) (fun _ => ?_)
    · refine z_iload_n X (q := 2) dX8_cell_22 rfl rfl ?_
      refine z_i2l X dX8_cell_23 ?_
      refine z_lconst X (v := (0 : Int64)) dX8_cell_24 (by decide) ?_
      refine z_aload_n X (q := 0) dX8_cell_25 rfl rfl ?_
      refine z_getr X hK (N := 46) (ci := 8) (k := 44) rfl (by decide) inlX8 (by decide) hf_X8_57 rfl spM_X8 rfl dX8_cell_26 (fun o5 _ => ?_)
      refine z_iload_n X (q := 1) dX8_cell_29 rfl rfl ?_
      refine z_iald X hK dX8_cell_30 (fun o6 j7 _ _ => ?_)
      refine z_iconst X (v := (1 : Int32)) dX8_cell_31 (by decide) ?_
      refine z_isub X dX8_cell_32 ?_
      refine z_i2l X dX8_cell_33 ?_
      refine z_callS X hK (As := [vL (a2.toInt64), vL (0 : Int64), vL (((q1.2.2.1 o6 j7) - (1 : Int32)).toInt64)]) (kX8_in l Z  b x _ _ _ _) hk_X8_77 ⟨rfl, rfl⟩ hd_X8_in.2 ⟨Nat.le_of_ble_eq_true rfl, Nat.le_of_ble_eq_true rfl⟩ ⟨Nat.le_of_ble_eq_true rfl, Nat.le_of_ble_eq_true rfl⟩ rfl rfl (Nat.le_of_ble_eq_true rfl) dX8_cell_34 (fun q8 => ?_)
      refine z_if_ne X (tgt := 43) dX8_cell_37 (by decide) (fun _ => ?_) (fun _ => ?_)
      · refine z_aload_n X (q := 0) dX8_cell_43 rfl rfl ?_
        refine z_getr X hK (N := 46) (ci := 8) (k := 45) rfl (by decide) inlX8 (by decide) hf_X8_60 rfl spM_X8 rfl dX8_cell_44 (fun o9 _ => ?_)
        refine z_bipush X (v := (40 : Int32)) dX8_cell_47 (by decide) ?_
        refine z_iload_n X (q := 1) dX8_cell_49 rfl rfl ?_
        refine z_imul X dX8_cell_50 ?_
        refine z_iload_n X (q := 2) dX8_cell_51 rfl rfl ?_
        refine z_iadd X dX8_cell_52 ?_
        refine z_aload_n X (q := 0) dX8_cell_53 rfl rfl ?_
        refine z_getr X hK (N := 46) (ci := 8) (k := 43) rfl (by decide) inlX8 (by decide) hf_X8_54 rfl spM_X8 rfl dX8_cell_54 (fun o10 _ => ?_)
        refine z_iload_n X (q := 1) dX8_cell_57 rfl rfl ?_
        refine z_iald X hK dX8_cell_58 (fun o11 j12 _ _ => ?_)
        refine z_if_ne X (tgt := 67) dX8_cell_59 (by decide) (fun _ => ?_) (fun _ => ?_)
        · refine z_aload_n X (q := 0) dX8_cell_67 rfl rfl ?_
          refine z_getr X hK (N := 46) (ci := 8) (k := 43) rfl (by decide) inlX8 (by decide) hf_X8_54 rfl spM_X8 rfl dX8_cell_68 (fun o13 _ => ?_)
          refine z_iload_n X (q := 1) dX8_cell_71 rfl rfl ?_
          refine z_iald X hK dX8_cell_72 (fun o14 j15 _ _ => ?_)
          refine z_iconst X (v := (1 : Int32)) dX8_cell_73 (by decide) ?_
          refine z_icmp_ne X (tgt := 82) dX8_cell_74 (by decide) (fun _ => ?_) (fun _ => ?_)
          · refine z_iload_n X (q := 3) dX8_cell_82 rfl rfl ?_
            refine z_iast X hK dX8_cell_83 (fun o16 j17 st18 _ _ => ?_)
            refine z_iconst X (v := (1 : Int32)) dX8_cell_84 (by decide) ?_
            subst hQ; exact z_iret X hlocks hr dX8_cell_85
          · refine z_iload_n X (q := 3) dX8_cell_77 rfl rfl ?_
            refine z_i2s X dX8_cell_78 ?_
            refine z_goto X (tgt := 83) dX8_cell_79 (by decide) ?_
            refine z_iast X hK dX8_cell_83 (fun o19 j20 st21 _ _ => ?_)
            refine z_iconst X (v := (1 : Int32)) dX8_cell_84 (by decide) ?_
            subst hQ; exact z_iret X hlocks hr dX8_cell_85
        · refine z_iload_n X (q := 3) dX8_cell_62 rfl rfl ?_
          refine z_i2b X dX8_cell_63 ?_
          refine z_goto X (tgt := 83) dX8_cell_64 (by decide) ?_
          refine z_iast X hK dX8_cell_83 (fun o22 j23 st24 _ _ => ?_)
          refine z_iconst X (v := (1 : Int32)) dX8_cell_84 (by decide) ?_
          subst hQ; exact z_iret X hlocks hr dX8_cell_85
      · refine z_bipush X (v := (-12 : Int32)) dX8_cell_40 (by decide) ?_
        subst hQ; exact z_iret X hlocks hr dX8_cell_42
    · refine z_bipush X (v := (-11 : Int32)) dX8_cell_19 (by decide) ?_
      subst hQ; exact z_iret X hlocks hr dX8_cell_21
  · refine z_bipush X (v := (-2 : Int32)) dX8_cell_7 (by decide) ?_
    subst hQ; exact z_iret X hlocks hr dX8_cell_9
theorem zw_814 : Cond.fieldLink RX8 35 "WellGivesOtherModel" "was" "[I" ∈ wsL_law := zr_6 _ (by decide +kernel)
theorem hf_X8_35 : Cond.fieldLink RX8 35 "WellGivesOtherModel" "was" "[I" ∈ wsL_law := zw_814
theorem zw_815 : Cond.fieldLink RX8 375 "WellGivesOtherModel" "dayWas" "I" ∈ wsL_law := zr_38 _ (by decide +kernel)
theorem hf_X8_375 : Cond.fieldLink RX8 375 "WellGivesOtherModel" "dayWas" "I" ∈ wsL_law := zw_815
abbrev rmX8_laysAside : Room := { frames := 1, cells := 0, slots := 0, locals := 40 }
def fX8_laysAside_L2 (this : Nat) : Nat → Int32 → zS → Option (Unit × zS)
  | 0, _, _ => none
  | n + 1, y1, st => if (20 : Int32) ≤ y1 then ((zok spM st (some this) 8).bind fun o1 => (zok spM st (some this) 8).bind fun o2 => zlet (zp st o2 31 (st.2.1 o1 7)) fun st3 => some ((), st3)) else ((zok spM st (some this) 8).bind fun o4 => (zok spM st (some this) 8).bind fun o5 => (zok spM st (st.2.2.2 o5 10) 9).bind fun o6 => (zix spM o6 y1).bind fun j7 => (zok spM st (st.2.2.2 o4 30) 9).bind fun o8 => (zix spM o8 y1).bind fun j9 => zlet (zp st o8 j9 (st.2.1 o6 j7)) fun st10 => (fX8_laysAside_L2 this n) (y1 + (1 : Int32)) st10)
def fX8_laysAside (this : Nat) (st : zS) : Option (Unit × zS) :=
  fX8_laysAside_L2 this zF (0 : Int32) st
set_option maxRecDepth 100000 in
set_option maxHeartbeats 4000000 in
theorem kX8_laysAside (l : Launch) (Z : zZ) (b : Nat) (x : Option Nat) (this : Nat) (st : zS) : zC l Z spM b x yX8_laysAside (.code yX8_laysAside cX8_laysAside 2 none) (rmX8_laysAside) rV [vP (some this)] st (fX8_laysAside this st) := by
  refine z_start (own := RX8) rfl (by decide +kernel) (Nat.le_of_ble_eq_true rfl) rfl (fun p e s m args below meth c res Q A X hK hr hlocks hQ => ?_)
  have J2 : ∀ (n2 : Nat) (y1 : Int32) (st : zS), zs p l e (rmX8_laysAside) s m args below meth c Q Z spM b x A 2 0 0 res (fX8_laysAside_L2 this n2 y1 st) 2 [(0, vP (some this)), (1, vI y1)] [] st := by
    intro n2
    induction n2 with
    | zero => intros; exact z_none
    | succ n2 ih2 =>
      intro y1 st
      rw [fX8_laysAside_L2]
      refine z_iload_n X (q := 1) dX8_laysAside_2 rfl rfl ?_
      refine z_bipush X (v := (20 : Int32)) dX8_laysAside_3 (by decide) ?_
      refine z_icmp_ge X (tgt := 26) dX8_laysAside_5 (by decide) (fun _ => ?_) (fun _ => ?_)
      · refine z_aload_n X (q := 0) dX8_laysAside_26 rfl rfl ?_
        refine z_aload_n X (q := 0) dX8_laysAside_27 rfl rfl ?_
        refine z_geti X hK (N := 46) (ci := 8) (k := 7) rfl (by decide) inlX8 (by decide) hf_X8_103 rfl spM_X8 rfl dX8_laysAside_28 (fun o1 _ => ?_)
        refine z_puti X hK (N := 46) (ci := 8) (k := 31) rfl (by decide) inlX8 tyX8 tyX8_ok nmX8 (by decide) hf_X8_375 rfl rfl spM_X8 rfl (by decide +kernel) dX8_laysAside_31 (fun o2 st3 _ => ?_)
        subst hQ; exact z_vret X hlocks hr dX8_laysAside_34
      · refine z_aload_n X (q := 0) dX8_laysAside_8 rfl rfl ?_
        refine z_getr X hK (N := 46) (ci := 8) (k := 30) rfl (by decide) inlX8 (by decide) hf_X8_35 rfl spM_X8 rfl dX8_laysAside_9 (fun o4 _ => ?_)
        refine z_iload_n X (q := 1) dX8_laysAside_12 rfl rfl ?_
        refine z_aload_n X (q := 0) dX8_laysAside_13 rfl rfl ?_
        refine z_getr X hK (N := 46) (ci := 8) (k := 10) rfl (by decide) inlX8 (by decide) hf_X8_29 rfl spM_X8 rfl dX8_laysAside_14 (fun o5 _ => ?_)
        refine z_iload_n X (q := 1) dX8_laysAside_17 rfl rfl ?_
        refine z_iald X hK dX8_laysAside_18 (fun o6 j7 _ _ => ?_)
        refine z_iast X hK dX8_laysAside_19 (fun o8 j9 st10 _ _ => ?_)
        refine z_iinc X (q := 1) (y := y1 + (1 : Int32)) dX8_laysAside_20 rfl rfl (Nat.le_of_ble_eq_true rfl) rfl ?_
        refine z_goto X (tgt := 2) dX8_laysAside_23 (by decide) ?_
        exact z_sub [1, 0] (ih2 _ _) rfl
  rw [fX8_laysAside]
  refine z_iconst X (v := (0 : Int32)) dX8_laysAside_0 (by decide) ?_
  refine z_istore_n X dX8_laysAside_1 rfl (Nat.le_of_ble_eq_true rfl) rfl ?_
  exact z_sub [1, 0] (J2 _ _ _) rfl
abbrev rmX8_laysBack : Room := { frames := 1, cells := 0, slots := 0, locals := 40 }
def fX8_laysBack_L2 (this : Nat) : Nat → Int32 → zS → Option (Unit × zS)
  | 0, _, _ => none
  | n + 1, y1, st => if (20 : Int32) ≤ y1 then ((zok spM st (some this) 8).bind fun o1 => (zok spM st (some this) 8).bind fun o2 => zlet (zp st o2 7 (st.2.1 o1 31)) fun st3 => some ((), st3)) else ((zok spM st (some this) 8).bind fun o4 => (zok spM st (some this) 8).bind fun o5 => (zok spM st (st.2.2.2 o5 30) 9).bind fun o6 => (zix spM o6 y1).bind fun j7 => (zok spM st (st.2.2.2 o4 10) 9).bind fun o8 => (zix spM o8 y1).bind fun j9 => zlet (zp st o8 j9 (st.2.1 o6 j7)) fun st10 => (fX8_laysBack_L2 this n) (y1 + (1 : Int32)) st10)
def fX8_laysBack (this : Nat) (st : zS) : Option (Unit × zS) :=
  fX8_laysBack_L2 this zF (0 : Int32) st
set_option maxRecDepth 100000 in
set_option maxHeartbeats 4000000 in
theorem kX8_laysBack (l : Launch) (Z : zZ) (b : Nat) (x : Option Nat) (this : Nat) (st : zS) : zC l Z spM b x yX8_laysBack (.code yX8_laysBack cX8_laysBack 2 none) (rmX8_laysBack) rV [vP (some this)] st (fX8_laysBack this st) := by
  refine z_start (own := RX8) rfl (by decide +kernel) (Nat.le_of_ble_eq_true rfl) rfl (fun p e s m args below meth c res Q A X hK hr hlocks hQ => ?_)
  have J2 : ∀ (n2 : Nat) (y1 : Int32) (st : zS), zs p l e (rmX8_laysBack) s m args below meth c Q Z spM b x A 2 0 0 res (fX8_laysBack_L2 this n2 y1 st) 2 [(0, vP (some this)), (1, vI y1)] [] st := by
    intro n2
    induction n2 with
    | zero => intros; exact z_none
    | succ n2 ih2 =>
      intro y1 st
      rw [fX8_laysBack_L2]
      refine z_iload_n X (q := 1) dX8_laysBack_2 rfl rfl ?_
      refine z_bipush X (v := (20 : Int32)) dX8_laysBack_3 (by decide) ?_
      refine z_icmp_ge X (tgt := 26) dX8_laysBack_5 (by decide) (fun _ => ?_) (fun _ => ?_)
      · refine z_aload_n X (q := 0) dX8_laysBack_26 rfl rfl ?_
        refine z_aload_n X (q := 0) dX8_laysBack_27 rfl rfl ?_
        refine z_geti X hK (N := 46) (ci := 8) (k := 31) rfl (by decide) inlX8 (by decide) hf_X8_375 rfl spM_X8 rfl dX8_laysBack_28 (fun o1 _ => ?_)
        refine z_puti X hK (N := 46) (ci := 8) (k := 7) rfl (by decide) inlX8 tyX8 tyX8_ok nmX8 (by decide) hf_X8_103 rfl rfl spM_X8 rfl (by decide +kernel) dX8_laysBack_31 (fun o2 st3 _ => ?_)
        subst hQ; exact z_vret X hlocks hr dX8_laysBack_34
      · refine z_aload_n X (q := 0) dX8_laysBack_8 rfl rfl ?_
        refine z_getr X hK (N := 46) (ci := 8) (k := 10) rfl (by decide) inlX8 (by decide) hf_X8_29 rfl spM_X8 rfl dX8_laysBack_9 (fun o4 _ => ?_)
        refine z_iload_n X (q := 1) dX8_laysBack_12 rfl rfl ?_
        refine z_aload_n X (q := 0) dX8_laysBack_13 rfl rfl ?_
        refine z_getr X hK (N := 46) (ci := 8) (k := 30) rfl (by decide) inlX8 (by decide) hf_X8_35 rfl spM_X8 rfl dX8_laysBack_14 (fun o5 _ => ?_)
        refine z_iload_n X (q := 1) dX8_laysBack_17 rfl rfl ?_
        refine z_iald X hK dX8_laysBack_18 (fun o6 j7 _ _ => ?_)
        refine z_iast X hK dX8_laysBack_19 (fun o8 j9 st10 _ _ => ?_)
        refine z_iinc X (q := 1) (y := y1 + (1 : Int32)) dX8_laysBack_20 rfl rfl (Nat.le_of_ble_eq_true rfl) rfl ?_
        refine z_goto X (tgt := 2) dX8_laysBack_23 (by decide) ?_
        exact z_sub [1, 0] (ih2 _ _) rfl
  rw [fX8_laysBack]
  refine z_iconst X (v := (0 : Int32)) dX8_laysBack_0 (by decide) ?_
  refine z_istore_n X dX8_laysBack_1 rfl (Nat.le_of_ble_eq_true rfl) rfl ?_
  exact z_sub [1, 0] (J2 _ _ _) rfl
theorem zw_816 : Cond.methodLink RX8 396 yX8_laysAside ∈ wsL_law := zr_38 _ (by decide +kernel)
theorem zw_817 : Cond.instanceMethod yX8_laysAside ∈ wsL_law := zr_38 _ (by decide +kernel)
theorem zw_818 : Cond.selects RX8 yX8_laysAside yX8_laysAside ∈ wsL_law := zr_38 _ (by decide +kernel)
theorem zw_819 : Cond.code yX8_laysAside cX8_laysAside 2 none ∈ wsL_law := zr_38 _ (by decide +kernel)
theorem hk_X8_396 : ∀ w ∈ ([Cond.methodLink RX8 396 yX8_laysAside, Cond.instanceMethod yX8_laysAside, Cond.selects RX8 yX8_laysAside yX8_laysAside, Cond.initialized RX8, Cond.code yX8_laysAside cX8_laysAside 2 none] : List Cond), w ∈ wsL_law := List.forall_mem_cons.mpr ⟨zw_816, List.forall_mem_cons.mpr ⟨zw_817, List.forall_mem_cons.mpr ⟨zw_818, List.forall_mem_cons.mpr ⟨zw_525, List.forall_mem_cons.mpr ⟨zw_819, fun _ h => absurd h List.not_mem_nil⟩⟩⟩⟩⟩
theorem zw_820 : Cond.methodLink RX8 403 yX8_laysBack ∈ wsL_law := zr_38 _ (by decide +kernel)
theorem zw_821 : Cond.instanceMethod yX8_laysBack ∈ wsL_law := zr_38 _ (by decide +kernel)
theorem zw_822 : Cond.selects RX8 yX8_laysBack yX8_laysBack ∈ wsL_law := zr_38 _ (by decide +kernel)
theorem zw_823 : Cond.code yX8_laysBack cX8_laysBack 2 none ∈ wsL_law := zr_38 _ (by decide +kernel)
theorem hk_X8_403 : ∀ w ∈ ([Cond.methodLink RX8 403 yX8_laysBack, Cond.instanceMethod yX8_laysBack, Cond.selects RX8 yX8_laysBack yX8_laysBack, Cond.initialized RX8, Cond.code yX8_laysBack cX8_laysBack 2 none] : List Cond), w ∈ wsL_law := List.forall_mem_cons.mpr ⟨zw_820, List.forall_mem_cons.mpr ⟨zw_821, List.forall_mem_cons.mpr ⟨zw_822, List.forall_mem_cons.mpr ⟨zw_525, List.forall_mem_cons.mpr ⟨zw_823, fun _ h => absurd h List.not_mem_nil⟩⟩⟩⟩⟩
theorem hd_X8_laysAside : yX8_laysAside.cls = RX8 ∧ yX8_laysAside.cls ≠ "java/lang/invoke/MethodHandle" ∧ yX8_laysAside.cls ≠ "java/lang/invoke/VarHandle" ∧ (parseMethodDescriptor yX8_laysAside.desc).map (fun d => d.parameters.length) = some 0 := by decide +kernel
theorem hd_X8_laysBack : yX8_laysBack.cls = RX8 ∧ yX8_laysBack.cls ≠ "java/lang/invoke/MethodHandle" ∧ yX8_laysBack.cls ≠ "java/lang/invoke/VarHandle" ∧ (parseMethodDescriptor yX8_laysBack.desc).map (fun d => d.parameters.length) = some 0 := by decide +kernel
theorem zw_824 : Cond.constant RX8 432 (1103515245) ∈ wsL_law := zr_47 _ (by decide +kernel)
theorem hc_X8_432 : Cond.constant RX8 432 (1103515245) ∈ wsL_law := zw_824
abbrev rmX8_hadDrawn : Room := { frames := 46, cells := 0, slots := 0, locals := 1048 }
def fX8_hadDrawn_L10 (this : Nat) : Nat → Int32 → Int32 → Int32 → Int32 → zS → Option (Int32 × zS)
  | 0, _, _, _, _, _ => none
  | n + 1, y2, y3, y4, y5, st => if y3 ≤ y5 then ((zok spM st (some this) 8).bind fun o1 => (zok spM st (st.2.2.2 o1 10) 9).bind fun o2 => (zix spM o2 (((4 : Int32) * y2) + (2 : Int32))).bind fun j3 => (fX8_bitsOf (st.2.1 o2 j3) st).bind fun q4 => zlet (q4.1) fun v5 => (zok spM q4.2 (some this) 8).bind fun o7 => (fX8_laysBack o7 q4.2).bind fun q6 => some (v5, q6.2)) else (zlet (((y4 * (1103515245 : Int32)) + (12345 : Int32))) fun v8 => if (12 : Int32) = 0 then none else (zok spM st (some this) 8).bind fun o13 => (fX8_asked o13 y2 ((1 : Int32) <<< ((((v8.toUInt32 >>> ((9 : Int32).toUInt32 &&& Int32.toUInt32 31)).toInt32) - ((v8.toUInt32 >>> ((9 : Int32).toUInt32 &&& Int32.toUInt32 31)).toInt32) / (12 : Int32) * (12 : Int32)) &&& 31)) st).bind fun q9 => (zok spM q9.2 (some this) 8).bind fun o10 => (zok spM q9.2 (some this) 8).bind fun o11 => zlet (zp q9.2 o11 7 ((q9.2.2.1 o10 7) + (1 : Int32))) fun st12 => (fX8_hadDrawn_L10 this n) y2 y3 v8 (y5 + (1 : Int32)) st12)
def fX8_hadDrawn (this : Nat) (a1 : Int32) (a2 : Int32) (a3 : Int32) (st : zS) : Option (Int32 × zS) :=
  (zok spM st (some this) 8).bind fun o15 => (fX8_laysAside o15 st).bind fun q14 => fX8_hadDrawn_L10 this zF a2 a3 a1 (0 : Int32) q14.2
set_option maxRecDepth 100000 in
set_option maxHeartbeats 4000000 in
theorem kX8_hadDrawn (l : Launch) (Z : zZ) (b : Nat) (x : Option Nat) (this : Nat) (a1 : Int32) (a2 : Int32) (a3 : Int32) (st : zS) : zC l Z spM b x yX8_hadDrawn (.code yX8_hadDrawn cX8_hadDrawn 6 (some .int)) (rmX8_hadDrawn) rI [vP (some this), vI a1, vI a2, vI a3] st (fX8_hadDrawn this a1 a2 a3 st) := by
  refine z_start (own := RX8) rfl (by decide +kernel) (Nat.le_of_ble_eq_true rfl) rfl (fun p e s m args below meth c res Q A X hK hr hlocks hQ => ?_)
  have J10 : ∀ (n10 : Nat) (y2 : Int32) (y3 : Int32) (y4 : Int32) (y5 : Int32) (st : zS), zs p l e (rmX8_hadDrawn) s m args below meth c Q Z spM b x A 6 0 0 res (fX8_hadDrawn_L10 this n10 y2 y3 y4 y5 st) 10 [(0, vP (some this)), (2, vI y2), (3, vI y3), (4, vI y4), (5, vI y5)] [] st := by
    intro n10
    induction n10 with
    | zero => intros; exact z_none
    | succ n10 ih10 =>
      intro y2 y3 y4 y5 st
      rw [fX8_hadDrawn_L10]
      refine z_iload X (q := 4) dX8_hadDrawn_10 rfl ?_
      refine z_iload_n X (q := 2) dX8_hadDrawn_12 rfl rfl ?_
      refine z_icmp_ge X (tgt := 60) dX8_hadDrawn_13 (by decide) (fun _ => ?_) (fun _ => ?_)
      · refine z_aload_n X (q := 0) dX8_hadDrawn_60 rfl rfl ?_
        refine z_getr X hK (N := 46) (ci := 8) (k := 10) rfl (by decide) inlX8 (by decide) hf_X8_29 rfl spM_X8 rfl dX8_hadDrawn_61 (fun o1 _ => ?_)
        refine z_iconst X (v := (4 : Int32)) dX8_hadDrawn_64 (by decide) ?_
        refine z_iload_n X (q := 1) dX8_hadDrawn_65 rfl rfl ?_
        refine z_imul X dX8_hadDrawn_66 ?_
        refine z_iconst X (v := (2 : Int32)) dX8_hadDrawn_67 (by decide) ?_
        refine z_iadd X dX8_hadDrawn_68 ?_
        refine z_iald X hK dX8_hadDrawn_69 (fun o2 j3 _ _ => ?_)
        refine z_callS X hK (As := [vI (st.2.1 o2 j3)]) (kX8_bitsOf l Z  b x _ _) hk_X8_63 ⟨rfl, rfl⟩ hd_X8_bitsOf.2 ⟨Nat.le_of_ble_eq_true rfl, Nat.le_of_ble_eq_true rfl⟩ ⟨Nat.le_of_ble_eq_true rfl, Nat.le_of_ble_eq_true rfl⟩ rfl rfl (Nat.le_of_ble_eq_true rfl) dX8_hadDrawn_70 (fun q4 => ?_)
        refine z_name (fun v5 => ?_)
        refine z_istore X dX8_hadDrawn_73 (Nat.le_of_ble_eq_true rfl) rfl ?_
        refine z_aload_n X (q := 1) dX8_hadDrawn_75 rfl rfl ?_
        refine z_callV X hK (As := []) (ci := 8) rfl (by decide) (fun o => (kX8_laysBack l Z  b x o _)) hk_X8_403 ⟨rfl, rfl⟩ hd_X8_laysBack ⟨Nat.le_of_ble_eq_true rfl, Nat.le_of_ble_eq_true rfl⟩ ⟨Nat.le_of_ble_eq_true rfl, Nat.le_of_ble_eq_true rfl⟩ rfl rfl (Nat.le_of_ble_eq_true rfl) dX8_hadDrawn_76 (fun _ q6 _ => ?_)
        refine z_iload X (q := 0) dX8_hadDrawn_79 rfl ?_
        subst hQ; exact z_iret X hlocks hr dX8_hadDrawn_81
      · refine z_iload X (q := 3) dX8_hadDrawn_16 rfl ?_
        refine z_ldcw X (v := (1103515245 : Int32)) (hc_X8_432) dX8_hadDrawn_18 ?_
        refine z_imul X dX8_hadDrawn_21 ?_
        refine z_sipush X (v := (12345 : Int32)) dX8_hadDrawn_22 (by decide) ?_
        refine z_iadd X dX8_hadDrawn_25 ?_
        refine z_name (fun v8 => ?_)
        refine z_istore X dX8_hadDrawn_26 (Nat.le_of_ble_eq_true rfl) rfl ?_
        refine z_aload_n X (q := 1) dX8_hadDrawn_28 rfl rfl ?_
        refine z_iload_n X (q := 2) dX8_hadDrawn_29 rfl rfl ?_
        refine z_iconst X (v := (1 : Int32)) dX8_hadDrawn_30 (by decide) ?_
        refine z_iload X (q := 0) dX8_hadDrawn_31 rfl ?_
        refine z_bipush X (v := (9 : Int32)) dX8_hadDrawn_33 (by decide) ?_
        refine z_iushr X dX8_hadDrawn_35 ?_
        refine z_bipush X (v := (12 : Int32)) dX8_hadDrawn_36 (by decide) ?_
        refine z_irem X dX8_hadDrawn_38 (fun _ => ?_)
        refine z_ishl X dX8_hadDrawn_39 ?_
        refine z_callV X hK (As := [vI y2, vI ((1 : Int32) <<< ((((v8.toUInt32 >>> ((9 : Int32).toUInt32 &&& Int32.toUInt32 31)).toInt32) - ((v8.toUInt32 >>> ((9 : Int32).toUInt32 &&& Int32.toUInt32 31)).toInt32) / (12 : Int32) * (12 : Int32)) &&& 31))]) (ci := 8) rfl (by decide) (fun o => (kX8_asked l Z  b x o _ _ _)) hk_X8_372 ⟨rfl, rfl⟩ hd_X8_asked ⟨Nat.le_of_ble_eq_true rfl, Nat.le_of_ble_eq_true rfl⟩ ⟨Nat.le_of_ble_eq_true rfl, Nat.le_of_ble_eq_true rfl⟩ rfl rfl (Nat.le_of_ble_eq_true rfl) dX8_hadDrawn_40 (fun _ q9 _ => ?_)
        refine z_pop X dX8_hadDrawn_43 rfl ?_
        refine z_aload_n X (q := 1) dX8_hadDrawn_44 rfl rfl ?_
        refine z_dup X dX8_hadDrawn_45 rfl ?_
        refine z_geti X hK (N := 46) (ci := 8) (k := 7) rfl (by decide) inlX8 (by decide) hf_X8_103 rfl spM_X8 rfl dX8_hadDrawn_46 (fun o10 _ => ?_)
        refine z_iconst X (v := (1 : Int32)) dX8_hadDrawn_49 (by decide) ?_
        refine z_iadd X dX8_hadDrawn_50 ?_
        refine z_puti X hK (N := 46) (ci := 8) (k := 7) rfl (by decide) inlX8 tyX8 tyX8_ok nmX8 (by decide) hf_X8_103 rfl rfl spM_X8 rfl (by decide +kernel) dX8_hadDrawn_51 (fun o11 st12 _ => ?_)
        refine z_iinc X (q := 4) (y := y5 + (1 : Int32)) dX8_hadDrawn_54 rfl rfl (Nat.le_of_ble_eq_true rfl) rfl ?_
        refine z_goto X (tgt := 10) dX8_hadDrawn_57 (by decide) ?_
        exact z_sub [2, 3, 4, 1, 0] (ih10 _ _ _ _ _) rfl
  rw [fX8_hadDrawn]
  refine z_aload_n X (q := 0) dX8_hadDrawn_0 rfl rfl ?_
  refine z_callV X hK (As := []) (ci := 8) rfl (by decide) (fun o => (kX8_laysAside l Z  b x o _)) hk_X8_396 ⟨rfl, rfl⟩ hd_X8_laysAside ⟨Nat.le_of_ble_eq_true rfl, Nat.le_of_ble_eq_true rfl⟩ ⟨Nat.le_of_ble_eq_true rfl, Nat.le_of_ble_eq_true rfl⟩ rfl rfl (Nat.le_of_ble_eq_true rfl) dX8_hadDrawn_1 (fun _ q14 _ => ?_)
  refine z_iload_n X (q := 1) dX8_hadDrawn_4 rfl rfl ?_
  refine z_istore X dX8_hadDrawn_5 (Nat.le_of_ble_eq_true rfl) rfl ?_
  refine z_iconst X (v := (0 : Int32)) dX8_hadDrawn_7 (by decide) ?_
  refine z_istore X dX8_hadDrawn_8 (Nat.le_of_ble_eq_true rfl) rfl ?_
  exact z_sub [2, 4, 5, 1, 0] (J10 _ _ _ _ _ _) rfl
abbrev rmX8_lowest : Room := { frames := 1, cells := 0, slots := 0, locals := 40 }
def fX8_lowest_L6 : Nat → Int64 → Int64 → Int32 → Int64 → Int64 → zS → Option (Int64 × zS)
  | 0, _, _, _, _, _, _ => none
  | n + 1, y0, y2, y4, y5, y7, st => if (lg_cmp y7 (0 : Int64)) = 0 then (if y4 = 0 then (if y5 = 0 then none else some ((y0 / y5), st)) else (if y5 = 0 then none else some ((y2 / y5), st))) else (if y7 = 0 then none else zlet ((y5 - y5 / y7 * y7)) fun v1 => (fX8_lowest_L6 n) y0 y2 y4 y7 v1 st)
def fX8_lowest (a0 : Int64) (a2 : Int64) (a4 : Int32) (st : zS) : Option (Int64 × zS) :=
  fX8_lowest_L6 zF a0 a2 a4 a0 a2 st
set_option maxRecDepth 100000 in
set_option maxHeartbeats 4000000 in
theorem kX8_lowest (l : Launch) (Z : zZ) (b : Nat) (x : Option Nat) (a0 : Int64) (a2 : Int64) (a4 : Int32) (st : zS) : zC l Z spM b x yX8_lowest (.code yX8_lowest cX8_lowest 11 (some .long)) (rmX8_lowest) rL [vL a0, vL a2, vI a4] st (fX8_lowest a0 a2 a4 st) := by
  refine z_start (own := RX8) rfl (by decide +kernel) (Nat.le_of_ble_eq_true rfl) rfl (fun p e s m args below meth c res Q A X hK hr hlocks hQ => ?_)
  have J6 : ∀ (n6 : Nat) (y0 : Int64) (y2 : Int64) (y4 : Int32) (y5 : Int64) (y7 : Int64) (st : zS), zs p l e (rmX8_lowest) s m args below meth c Q Z spM b x A 11 0 0 res (fX8_lowest_L6 n6 y0 y2 y4 y5 y7 st) 6 [(0, vL y0), (2, vL y2), (4, vI y4), (5, vL y5), (7, vL y7)] [] st := by
    intro n6
    induction n6 with
    | zero => intros; exact z_none
    | succ n6 ih6 =>
      intro y0 y2 y4 y5 y7 st
      rw [fX8_lowest_L6]
      refine z_lload X (q := 4) dX8_lowest_6 rfl ?_
      refine z_lconst X (v := (0 : Int64)) dX8_lowest_8 (by decide) ?_
      refine z_lcmp X dX8_lowest_9 ?_
      refine z_if_eq X (tgt := 31) dX8_lowest_10 (by decide) (fun _ => ?_) (fun _ => ?_)
      · refine z_iload X (q := 2) dX8_lowest_31 rfl ?_
        refine z_if_ne X (tgt := 43) dX8_lowest_33 (by decide) (fun _ => ?_) (fun _ => ?_)
        · refine z_lload_n X (q := 1) dX8_lowest_43 rfl rfl ?_
          refine z_lload X (q := 3) dX8_lowest_44 rfl ?_
          refine z_ldiv X dX8_lowest_46 (fun _ => ?_)
          subst hQ; exact z_lret X hlocks hr dX8_lowest_47
        · refine z_lload_n X (q := 0) dX8_lowest_36 rfl rfl ?_
          refine z_lload X (q := 3) dX8_lowest_37 rfl ?_
          refine z_ldiv X dX8_lowest_39 (fun _ => ?_)
          refine z_goto X (tgt := 47) dX8_lowest_40 (by decide) ?_
          subst hQ; exact z_lret X hlocks hr dX8_lowest_47
      · refine z_lload X (q := 3) dX8_lowest_13 rfl ?_
        refine z_lload X (q := 4) dX8_lowest_15 rfl ?_
        refine z_lrem X dX8_lowest_17 (fun _ => ?_)
        refine z_nameL (fun v1 => ?_)
        refine z_lstore X dX8_lowest_18 (Nat.le_of_ble_eq_true rfl) rfl ?_
        refine z_lload X (q := 5) dX8_lowest_20 rfl ?_
        refine z_lstore X dX8_lowest_22 (Nat.le_of_ble_eq_true rfl) rfl ?_
        refine z_lload X (q := 1) dX8_lowest_24 rfl ?_
        refine z_lstore X dX8_lowest_26 (Nat.le_of_ble_eq_true rfl) rfl ?_
        refine z_goto X (tgt := 6) dX8_lowest_28 (by decide) ?_
        exact z_sub [3, 4, 5, 1, 0] (ih6 _ _ _ _ _ _) rfl
  rw [fX8_lowest]
  refine z_lload_n X (q := 0) dX8_lowest_0 rfl rfl ?_
  refine z_lstore X dX8_lowest_1 (Nat.le_of_ble_eq_true rfl) rfl ?_
  refine z_lload_n X (q := 2) dX8_lowest_3 rfl rfl ?_
  refine z_lstore X dX8_lowest_4 (Nat.le_of_ble_eq_true rfl) rfl ?_
  exact z_sub [2, 3, 4, 1, 0] (J6 _ _ _ _ _ _ _) rfl
theorem zw_825 : Cond.methodLink RX8 414 yX8_lowest ∈ wsL_law := zr_43 _ (by decide +kernel)
theorem zw_826 : Cond.static yX8_lowest ∈ wsL_law := zr_43 _ (by decide +kernel)
theorem zw_827 : Cond.code yX8_lowest cX8_lowest 11 (some .long) ∈ wsL_law := zr_43 _ (by decide +kernel)
theorem hk_X8_414 : ∀ w ∈ ([Cond.methodLink RX8 414 yX8_lowest, Cond.static yX8_lowest, Cond.initialized RX8, Cond.code yX8_lowest cX8_lowest 11 (some .long)] : List Cond), w ∈ wsL_law := List.forall_mem_cons.mpr ⟨zw_825, List.forall_mem_cons.mpr ⟨zw_826, List.forall_mem_cons.mpr ⟨zw_525, List.forall_mem_cons.mpr ⟨zw_827, fun _ h => absurd h List.not_mem_nil⟩⟩⟩⟩
theorem zw_828 : Cond.methodLink RX8 435 yX8_hadDrawn ∈ wsL_law := zr_46 _ (by decide +kernel)
theorem zw_829 : Cond.instanceMethod yX8_hadDrawn ∈ wsL_law := zr_47 _ (by decide +kernel)
theorem zw_830 : Cond.selects RX8 yX8_hadDrawn yX8_hadDrawn ∈ wsL_law := zr_47 _ (by decide +kernel)
theorem zw_831 : Cond.code yX8_hadDrawn cX8_hadDrawn 6 (some .int) ∈ wsL_law := zr_47 _ (by decide +kernel)
theorem hk_X8_435 : ∀ w ∈ ([Cond.methodLink RX8 435 yX8_hadDrawn, Cond.instanceMethod yX8_hadDrawn, Cond.selects RX8 yX8_hadDrawn yX8_hadDrawn, Cond.initialized RX8, Cond.code yX8_hadDrawn cX8_hadDrawn 6 (some .int)] : List Cond), w ∈ wsL_law := List.forall_mem_cons.mpr ⟨zw_828, List.forall_mem_cons.mpr ⟨zw_829, List.forall_mem_cons.mpr ⟨zw_830, List.forall_mem_cons.mpr ⟨zw_525, List.forall_mem_cons.mpr ⟨zw_831, fun _ h => absurd h List.not_mem_nil⟩⟩⟩⟩⟩
theorem hd_X8_hadDrawn : yX8_hadDrawn.cls = RX8 ∧ yX8_hadDrawn.cls ≠ "java/lang/invoke/MethodHandle" ∧ yX8_hadDrawn.cls ≠ "java/lang/invoke/VarHandle" ∧ (parseMethodDescriptor yX8_hadDrawn.desc).map (fun d => d.parameters.length) = some 3 := by decide +kernel
theorem hd_X8_lowest : yX8_lowest.cls = RX8 ∧ yX8_lowest.cls ≠ "java/lang/invoke/MethodHandle" ∧ yX8_lowest.cls ≠ "java/lang/invoke/VarHandle" ∧ (parseMethodDescriptor yX8_lowest.desc).map (fun d => d.parameters.length) = some 3 := by decide +kernel
theorem zw_832 : Cond.constantLong RX8 412 (12) ∈ wsL_law := zr_43 _ (by decide +kernel)
theorem hc_X8_412 : Cond.constantLong RX8 412 (12) ∈ wsL_law := zw_832
theorem zw_833 : Cond.constantLong RX8 418 (-4611686018427387904) ∈ wsL_law := zr_43 _ (by decide +kernel)
theorem hc_X8_418 : Cond.constantLong RX8 418 (-4611686018427387904) ∈ wsL_law := zw_833
theorem zw_834 : Cond.constantLong RX8 438 (20) ∈ wsL_law := zr_47 _ (by decide +kernel)
theorem hc_X8_438 : Cond.constantLong RX8 438 (20) ∈ wsL_law := zw_834
abbrev rmX8_chance : Room := { frames := 47, cells := 0, slots := 0, locals := 1073 }
def fX8_chance_j83 (this : Nat) (k54 : Int32 → Int32 → Int32 → Int32 → Int32 → Int64 → Int32 → zS → Option (Int64 × zS)) (y1 : Int32) (y2 : Int32) (y3 : Int32) (y4 : Int32) (y5 : Int32) (y8 : Int32) (s0 : Int64) (s1 : Int64) (st : zS) : Option (Int64 × zS) :=
  zlet ((s0 + s1)) fun v1 => k54 y1 y2 y3 y4 y5 v1 (y8 + (1 : Int32)) st
def fX8_chance_L54 (this : Nat) : Nat → Int32 → Int32 → Int32 → Int32 → Int32 → Int64 → Int32 → zS → Option (Int64 × zS)
  | 0, _, _, _, _, _, _, _, _ => none
  | n + 1, y1, y2, y3, y4, y5, y6, y8, st => if y2 ≤ y8 then ((fX8_lowest y6 (y2.toInt64) y5 st).bind fun q2 => some (q2.1, q2.2)) else ((zok spM st (some this) 8).bind fun o4 => (fX8_hadDrawn o4 (y1 + y8) y3 (6 : Int32) st).bind fun q3 => if q3.1 < y4 then (fX8_chance_j83 this (fX8_chance_L54 this n) y1 y2 y3 y4 y5 y8 y6 (0 : Int64) q3.2) else (fX8_chance_j83 this (fX8_chance_L54 this n) y1 y2 y3 y4 y5 y8 y6 (1 : Int64) q3.2))
def fX8_chance (this : Nat) (a1 : Int32) (a2 : Int32) (a3 : Int32) (a4 : Int32) (a5 : Int32) (st : zS) : Option (Int64 × zS) :=
  (fX8_in (a2.toInt64) (1 : Int64) (20 : Int64) st).bind fun q5 => if q5.1 = 0 then (some ((-4611686018427387904 : Int64), q5.2)) else ((zok spM q5.2 (some this) 8).bind fun o9 => (fX8_isOne o9 a3 q5.2).bind fun q6 => if q6.1 = 0 then (some ((-4611686018427387904 : Int64), q6.2)) else ((fX8_in (a4.toInt64) (0 : Int64) (12 : Int64) q6.2).bind fun q7 => if q7.1 = 0 then (some ((-4611686018427387904 : Int64), q7.2)) else ((fX8_in (a5.toInt64) (0 : Int64) (1 : Int64) q7.2).bind fun q8 => if q8.1 = 0 then (some ((-4611686018427387904 : Int64), q8.2)) else (fX8_chance_L54 this zF a1 a2 a3 a4 a5 (0 : Int64) (0 : Int32) q8.2))))
set_option maxRecDepth 100000 in
set_option maxHeartbeats 4000000 in
theorem kX8_chance (l : Launch) (Z : zZ) (b : Nat) (x : Option Nat) (this : Nat) (a1 : Int32) (a2 : Int32) (a3 : Int32) (a4 : Int32) (a5 : Int32) (st : zS) : zC l Z spM b x yX8_chance (.code yX8_chance cX8_chance 9 (some .long)) (rmX8_chance) rL [vP (some this), vI a1, vI a2, vI a3, vI a4, vI a5] st (fX8_chance this a1 a2 a3 a4 a5 st) := by
  refine z_start (own := RX8) rfl (by decide +kernel) (Nat.le_of_ble_eq_true rfl) rfl (fun p e s m args below meth c res Q A X hK hr hlocks hQ => ?_)
  have J54 : ∀ (n54 : Nat) (y1 : Int32) (y2 : Int32) (y3 : Int32) (y4 : Int32) (y5 : Int32) (y6 : Int64) (y8 : Int32) (st : zS), zs p l e (rmX8_chance) s m args below meth c Q Z spM b x A 9 0 0 res (fX8_chance_L54 this n54 y1 y2 y3 y4 y5 y6 y8 st) 54 [(0, vP (some this)), (1, vI y1), (2, vI y2), (3, vI y3), (4, vI y4), (5, vI y5), (6, vL y6), (8, vI y8)] [] st := by
    intro n54
    induction n54 with
    | zero => intros; exact z_none
    | succ n54 ih54 =>
      have J83 : ∀ (y1 : Int32) (y2 : Int32) (y3 : Int32) (y4 : Int32) (y5 : Int32) (y8 : Int32) (s0 : Int64) (s1 : Int64) (st : zS), zs p l e (rmX8_chance) s m args below meth c Q Z spM b x A 9 0 0 res (fX8_chance_j83 this (fX8_chance_L54 this n54) y1 y2 y3 y4 y5 y8 s0 s1 st) 83 [(0, vP (some this)), (1, vI y1), (2, vI y2), (3, vI y3), (4, vI y4), (5, vI y5), (8, vI y8)] [vL s1, vL s0] st := by
        intro y1 y2 y3 y4 y5 y8 s0 s1 st
        rw [fX8_chance_j83]
        refine z_ladd X dX8_chance_83 ?_
        refine z_nameL (fun v1 => ?_)
        refine z_lstore X dX8_chance_84 (Nat.le_of_ble_eq_true rfl) rfl ?_
        refine z_iinc X (q := 7) (y := y8 + (1 : Int32)) dX8_chance_86 rfl rfl (Nat.le_of_ble_eq_true rfl) rfl ?_
        refine z_goto X (tgt := 54) dX8_chance_89 (by decide) ?_
        exact z_sub [2, 3, 4, 5, 6, 7, 1, 0] (ih54 _ _ _ _ _ _ _ _) rfl
      intro y1 y2 y3 y4 y5 y6 y8 st
      rw [fX8_chance_L54]
      refine z_iload X (q := 7) dX8_chance_54 rfl ?_
      refine z_iload_n X (q := 2) dX8_chance_56 rfl rfl ?_
      refine z_icmp_ge X (tgt := 92) dX8_chance_57 (by decide) (fun _ => ?_) (fun _ => ?_)
      · refine z_lload X (q := 6) dX8_chance_92 rfl ?_
        refine z_iload_n X (q := 2) dX8_chance_94 rfl rfl ?_
        refine z_i2l X dX8_chance_95 ?_
        refine z_iload X (q := 5) dX8_chance_96 rfl ?_
        refine z_callS X hK (As := [vL y6, vL (y2.toInt64), vI y5]) (kX8_lowest l Z  b x _ _ _ _) hk_X8_414 ⟨rfl, rfl⟩ hd_X8_lowest.2 ⟨Nat.le_of_ble_eq_true rfl, Nat.le_of_ble_eq_true rfl⟩ ⟨Nat.le_of_ble_eq_true rfl, Nat.le_of_ble_eq_true rfl⟩ rfl rfl (Nat.le_of_ble_eq_true rfl) dX8_chance_98 (fun q2 => ?_)
        subst hQ; exact z_lret X hlocks hr dX8_chance_101
      · refine z_lload X (q := 6) dX8_chance_60 rfl ?_
        refine z_aload_n X (q := 0) dX8_chance_62 rfl rfl ?_
        refine z_iload_n X (q := 1) dX8_chance_63 rfl rfl ?_
        refine z_iload X (q := 7) dX8_chance_64 rfl ?_
        refine z_iadd X dX8_chance_66 ?_
        refine z_iload_n X (q := 3) dX8_chance_67 rfl rfl ?_
        refine z_bipush X (v := (6 : Int32)) dX8_chance_68 (by decide) ?_
        refine z_callV X hK (As := [vI (y1 + y8), vI y3, vI (6 : Int32)]) (ci := 8) rfl (by decide) (fun o => (kX8_hadDrawn l Z  b x o _ _ _ _)) hk_X8_435 ⟨rfl, rfl⟩ hd_X8_hadDrawn ⟨Nat.le_of_ble_eq_true rfl, Nat.le_of_ble_eq_true rfl⟩ ⟨Nat.le_of_ble_eq_true rfl, Nat.le_of_ble_eq_true rfl⟩ rfl rfl (Nat.le_of_ble_eq_true rfl) dX8_chance_70 (fun _ q3 _ => ?_)
        refine z_iload X (q := 4) dX8_chance_73 rfl ?_
        refine z_icmp_lt X (tgt := 82) dX8_chance_75 (by decide) (fun _ => ?_) (fun _ => ?_)
        · refine z_lconst X (v := (0 : Int64)) dX8_chance_82 (by decide) ?_
          exact z_sub [0, 1, 2, 3, 4, 5, 7] (J83 _ _ _ _ _ _ _ _ _) rfl
        · refine z_lconst X (v := (1 : Int64)) dX8_chance_78 (by decide) ?_
          refine z_goto X (tgt := 83) dX8_chance_79 (by decide) ?_
          exact z_sub [0, 1, 2, 3, 4, 5, 7] (J83 _ _ _ _ _ _ _ _ _) rfl
  rw [fX8_chance]
  refine z_iload_n X (q := 2) dX8_chance_0 rfl rfl ?_
  refine z_i2l X dX8_chance_1 ?_
  refine z_lconst X (v := (1 : Int64)) dX8_chance_2 (by decide) ?_
  refine z_ldc2 X (v := (20 : Int64)) (hc_X8_438) dX8_chance_3 ?_
  refine z_callS X hK (As := [vL (a2.toInt64), vL (1 : Int64), vL (20 : Int64)]) (kX8_in l Z  b x _ _ _ _) hk_X8_77 ⟨rfl, rfl⟩ hd_X8_in.2 ⟨Nat.le_of_ble_eq_true rfl, Nat.le_of_ble_eq_true rfl⟩ ⟨Nat.le_of_ble_eq_true rfl, Nat.le_of_ble_eq_true rfl⟩ rfl rfl (Nat.le_of_ble_eq_true rfl) dX8_chance_6 (fun q5 => ?_)
  refine z_if_eq X (tgt := 44) dX8_chance_9 (by decide) (fun _ => ?_) (fun _ => ?_)
  · refine z_ldc2 X (v := (-4611686018427387904 : Int64)) (hc_X8_418) dX8_chance_44 ?_
    subst hQ; exact z_lret X hlocks hr dX8_chance_47
  · refine z_aload_n X (q := 0) dX8_chance_12 rfl rfl ?_
    refine z_iload_n X (q := 3) dX8_chance_13 rfl rfl ?_
    refine z_callV X hK (As := [vI a3]) (ci := 8) rfl (by decide) (fun o => (kX8_isOne l Z  b x o _ _)) hk_X8_89 ⟨rfl, rfl⟩ hd_X8_isOne ⟨Nat.le_of_ble_eq_true rfl, Nat.le_of_ble_eq_true rfl⟩ ⟨Nat.le_of_ble_eq_true rfl, Nat.le_of_ble_eq_true rfl⟩ rfl rfl (Nat.le_of_ble_eq_true rfl) dX8_chance_14 (fun _ q6 _ => ?_)
    refine z_if_eq X (tgt := 44) dX8_chance_17 (by decide) (fun _ => ?_) (fun _ => ?_)
    · refine z_ldc2 X (v := (-4611686018427387904 : Int64)) (hc_X8_418) dX8_chance_44 ?_
      subst hQ; exact z_lret X hlocks hr dX8_chance_47
    · refine z_iload X (q := 4) dX8_chance_20 rfl ?_
      refine z_i2l X dX8_chance_22 ?_
      refine z_lconst X (v := (0 : Int64)) dX8_chance_23 (by decide) ?_
      refine z_ldc2 X (v := (12 : Int64)) (hc_X8_412) dX8_chance_24 ?_
      refine z_callS X hK (As := [vL (a4.toInt64), vL (0 : Int64), vL (12 : Int64)]) (kX8_in l Z  b x _ _ _ _) hk_X8_77 ⟨rfl, rfl⟩ hd_X8_in.2 ⟨Nat.le_of_ble_eq_true rfl, Nat.le_of_ble_eq_true rfl⟩ ⟨Nat.le_of_ble_eq_true rfl, Nat.le_of_ble_eq_true rfl⟩ rfl rfl (Nat.le_of_ble_eq_true rfl) dX8_chance_27 (fun q7 => ?_)
      refine z_if_eq X (tgt := 44) dX8_chance_30 (by decide) (fun _ => ?_) (fun _ => ?_)
      · refine z_ldc2 X (v := (-4611686018427387904 : Int64)) (hc_X8_418) dX8_chance_44 ?_
        subst hQ; exact z_lret X hlocks hr dX8_chance_47
      · refine z_iload X (q := 5) dX8_chance_33 rfl ?_
        refine z_i2l X dX8_chance_35 ?_
        refine z_lconst X (v := (0 : Int64)) dX8_chance_36 (by decide) ?_
        refine z_lconst X (v := (1 : Int64)) dX8_chance_37 (by decide) ?_
        refine z_callS X hK (As := [vL (a5.toInt64), vL (0 : Int64), vL (1 : Int64)]) (kX8_in l Z  b x _ _ _ _) hk_X8_77 ⟨rfl, rfl⟩ hd_X8_in.2 ⟨Nat.le_of_ble_eq_true rfl, Nat.le_of_ble_eq_true rfl⟩ ⟨Nat.le_of_ble_eq_true rfl, Nat.le_of_ble_eq_true rfl⟩ rfl rfl (Nat.le_of_ble_eq_true rfl) dX8_chance_38 (fun q8 => ?_)
        refine z_if_ne X (tgt := 48) dX8_chance_41 (by decide) (fun _ => ?_) (fun _ => ?_)
        · refine z_lconst X (v := (0 : Int64)) dX8_chance_48 (by decide) ?_
          refine z_lstore X dX8_chance_49 (Nat.le_of_ble_eq_true rfl) rfl ?_
          refine z_iconst X (v := (0 : Int32)) dX8_chance_51 (by decide) ?_
          refine z_istore X dX8_chance_52 (Nat.le_of_ble_eq_true rfl) rfl ?_
          exact z_sub [2, 3, 4, 5, 6, 7, 1, 0] (J54 _ _ _ _ _ _ _ _ _) rfl
        · refine z_ldc2 X (v := (-4611686018427387904 : Int64)) (hc_X8_418) dX8_chance_44 ?_
          subst hQ; exact z_lret X hlocks hr dX8_chance_47
abbrev rmX8_cliques : Room := { frames := 2, cells := 0, slots := 0, locals := 62 }
def fX8_cliques_j66 (this : Nat) (k4 : Int32 → Int32 → zS → Option (Int32 × zS)) (k14 : Int32 → Int32 → Int32 → zS → Option (Int32 × zS)) (y2 : Int32) (y3 : Int32) (s0 : Int32) (s1 : Int32) (st : zS) : Option (Int32 × zS) :=
  zlet ((s0 + s1)) fun v1 => k14 v1 y2 (y3 + (1 : Int32)) st
def fX8_cliques_L14 (this : Nat) (k4 : Int32 → Int32 → zS → Option (Int32 × zS)) : Nat → Int32 → Int32 → Int32 → zS → Option (Int32 × zS)
  | 0, _, _, _, _ => none
  | n + 1, y1, y2, y3, st => if (12 : Int32) ≤ y3 then (k4 y1 (y2 + (1 : Int32)) st) else ((zok spM st (some this) 8).bind fun o2 => (zok spM st (st.2.2.2 o2 8) 9).bind fun o3 => (zix spM o3 y2).bind fun j4 => (zok spM st (some this) 8).bind fun o5 => (zok spM st (st.2.2.2 o5 8) 9).bind fun o6 => (zix spM o6 y3).bind fun j7 => zlet ((((st.2.1 o3 j4) &&& (st.2.1 o6 j7)) &&& (-((1 : Int32) <<< ((y3 + (1 : Int32)) &&& 31))))) fun v8 => (zok spM st (some this) 8).bind fun o9 => (zok spM st (st.2.2.2 o9 8) 9).bind fun o10 => (zix spM o10 y2).bind fun j11 => if (((st.2.1 o10 j11) >>> (y3 &&& 31)) &&& (1 : Int32)) = (1 : Int32) then ((fX8_bitsOf v8 st).bind fun q12 => fX8_cliques_j66 this k4 (fX8_cliques_L14 this k4 n) y2 y3 y1 q12.1 q12.2) else (fX8_cliques_j66 this k4 (fX8_cliques_L14 this k4 n) y2 y3 y1 (0 : Int32) st))
def fX8_cliques_L4 (this : Nat) : Nat → Int32 → Int32 → zS → Option (Int32 × zS)
  | 0, _, _, _ => none
  | n + 1, y1, y2, st => if (12 : Int32) ≤ y2 then (some (y1, st)) else (zlet ((y2 + (1 : Int32))) fun v13 => fX8_cliques_L14 this (fX8_cliques_L4 this n) zF y1 y2 v13 st)
def fX8_cliques (this : Nat) (st : zS) : Option (Int32 × zS) :=
  fX8_cliques_L4 this zF (0 : Int32) (0 : Int32) st
set_option maxRecDepth 100000 in
set_option maxHeartbeats 4000000 in
theorem kX8_cliques (l : Launch) (Z : zZ) (b : Nat) (x : Option Nat) (this : Nat) (st : zS) : zC l Z spM b x yX8_cliques (.code yX8_cliques cX8_cliques 5 (some .int)) (rmX8_cliques) rI [vP (some this)] st (fX8_cliques this st) := by
  refine z_start (own := RX8) rfl (by decide +kernel) (Nat.le_of_ble_eq_true rfl) rfl (fun p e s m args below meth c res Q A X hK hr hlocks hQ => ?_)
  have J4 : ∀ (n4 : Nat) (y1 : Int32) (y2 : Int32) (st : zS), zs p l e (rmX8_cliques) s m args below meth c Q Z spM b x A 5 0 0 res (fX8_cliques_L4 this n4 y1 y2 st) 4 [(0, vP (some this)), (1, vI y1), (2, vI y2)] [] st := by
    intro n4
    induction n4 with
    | zero => intros; exact z_none
    | succ n4 ih4 =>
      have J14 : ∀ (n14 : Nat) (y1 : Int32) (y2 : Int32) (y3 : Int32) (st : zS), zs p l e (rmX8_cliques) s m args below meth c Q Z spM b x A 5 0 0 res (fX8_cliques_L14 this (fX8_cliques_L4 this n4) n14 y1 y2 y3 st) 14 [(0, vP (some this)), (1, vI y1), (2, vI y2), (3, vI y3)] [] st := by
        intro n14
        induction n14 with
        | zero => intros; exact z_none
        | succ n14 ih14 =>
          have J66 : ∀ (y2 : Int32) (y3 : Int32) (s0 : Int32) (s1 : Int32) (st : zS), zs p l e (rmX8_cliques) s m args below meth c Q Z spM b x A 5 0 0 res (fX8_cliques_j66 this (fX8_cliques_L4 this n4) (fX8_cliques_L14 this (fX8_cliques_L4 this n4) n14) y2 y3 s0 s1 st) 66 [(0, vP (some this)), (2, vI y2), (3, vI y3)] [vI s1, vI s0] st := by
            intro y2 y3 s0 s1 st
            rw [fX8_cliques_j66]
            refine z_iadd X dX8_cliques_66 ?_
            refine z_name (fun v1 => ?_)
            refine z_istore_n X dX8_cliques_67 rfl (Nat.le_of_ble_eq_true rfl) rfl ?_
            refine z_iinc X (q := 3) (y := y3 + (1 : Int32)) dX8_cliques_68 rfl rfl (Nat.le_of_ble_eq_true rfl) rfl ?_
            refine z_goto X (tgt := 14) dX8_cliques_71 (by decide) ?_
            exact z_sub [2, 1, 3, 0] (ih14 _ _ _ _) rfl
          intro y1 y2 y3 st
          rw [fX8_cliques_L14]
          refine z_iload_n X (q := 3) dX8_cliques_14 rfl rfl ?_
          refine z_bipush X (v := (12 : Int32)) dX8_cliques_15 (by decide) ?_
          refine z_icmp_ge X (tgt := 74) dX8_cliques_17 (by decide) (fun _ => ?_) (fun _ => ?_)
          · refine z_iinc X (q := 2) (y := y2 + (1 : Int32)) dX8_cliques_74 rfl rfl (Nat.le_of_ble_eq_true rfl) rfl ?_
            refine z_goto X (tgt := 4) dX8_cliques_77 (by decide) ?_
            exact z_sub [1, 2, 0] (ih4 _ _ _) rfl
          · refine z_aload_n X (q := 0) dX8_cliques_20 rfl rfl ?_
            refine z_getr X hK (N := 46) (ci := 8) (k := 8) rfl (by decide) inlX8 (by decide) hf_X8_23 rfl spM_X8 rfl dX8_cliques_21 (fun o2 _ => ?_)
            refine z_iload_n X (q := 2) dX8_cliques_24 rfl rfl ?_
            refine z_iald X hK dX8_cliques_25 (fun o3 j4 _ _ => ?_)
            refine z_aload_n X (q := 0) dX8_cliques_26 rfl rfl ?_
            refine z_getr X hK (N := 46) (ci := 8) (k := 8) rfl (by decide) inlX8 (by decide) hf_X8_23 rfl spM_X8 rfl dX8_cliques_27 (fun o5 _ => ?_)
            refine z_iload_n X (q := 3) dX8_cliques_30 rfl rfl ?_
            refine z_iald X hK dX8_cliques_31 (fun o6 j7 _ _ => ?_)
            refine z_iand X dX8_cliques_32 ?_
            refine z_iconst X (v := (1 : Int32)) dX8_cliques_33 (by decide) ?_
            refine z_iload_n X (q := 3) dX8_cliques_34 rfl rfl ?_
            refine z_iconst X (v := (1 : Int32)) dX8_cliques_35 (by decide) ?_
            refine z_iadd X dX8_cliques_36 ?_
            refine z_ishl X dX8_cliques_37 ?_
            refine z_ineg X dX8_cliques_38 ?_
            refine z_iand X dX8_cliques_39 ?_
            refine z_name (fun v8 => ?_)
            refine z_istore X dX8_cliques_40 (Nat.le_of_ble_eq_true rfl) rfl ?_
            refine z_iload_n X (q := 2) dX8_cliques_42 rfl rfl ?_
            refine z_aload_n X (q := 1) dX8_cliques_43 rfl rfl ?_
            refine z_getr X hK (N := 46) (ci := 8) (k := 8) rfl (by decide) inlX8 (by decide) hf_X8_23 rfl spM_X8 rfl dX8_cliques_44 (fun o9 _ => ?_)
            refine z_iload_n X (q := 3) dX8_cliques_47 rfl rfl ?_
            refine z_iald X hK dX8_cliques_48 (fun o10 j11 _ _ => ?_)
            refine z_iload_n X (q := 4) dX8_cliques_49 rfl rfl ?_
            refine z_ishr X dX8_cliques_50 ?_
            refine z_iconst X (v := (1 : Int32)) dX8_cliques_51 (by decide) ?_
            refine z_iand X dX8_cliques_52 ?_
            refine z_iconst X (v := (1 : Int32)) dX8_cliques_53 (by decide) ?_
            refine z_icmp_ne X (tgt := 65) dX8_cliques_54 (by decide) (fun _ => ?_) (fun _ => ?_)
            · refine z_iconst X (v := (0 : Int32)) dX8_cliques_65 (by decide) ?_
              exact z_sub [1, 3, 4] (J66 _ _ _ _ _) rfl
            · refine z_iload X (q := 0) dX8_cliques_57 rfl ?_
              refine z_callS X hK (As := [vI v8]) (kX8_bitsOf l Z  b x _ _) hk_X8_63 ⟨rfl, rfl⟩ hd_X8_bitsOf.2 ⟨Nat.le_of_ble_eq_true rfl, Nat.le_of_ble_eq_true rfl⟩ ⟨Nat.le_of_ble_eq_true rfl, Nat.le_of_ble_eq_true rfl⟩ rfl rfl (Nat.le_of_ble_eq_true rfl) dX8_cliques_59 (fun q12 => ?_)
              refine z_goto X (tgt := 66) dX8_cliques_62 (by decide) ?_
              exact z_sub [1, 3, 4] (J66 _ _ _ _ _) rfl
      intro y1 y2 st
      rw [fX8_cliques_L4]
      refine z_iload_n X (q := 2) dX8_cliques_4 rfl rfl ?_
      refine z_bipush X (v := (12 : Int32)) dX8_cliques_5 (by decide) ?_
      refine z_icmp_ge X (tgt := 80) dX8_cliques_7 (by decide) (fun _ => ?_) (fun _ => ?_)
      · refine z_iload_n X (q := 1) dX8_cliques_80 rfl rfl ?_
        subst hQ; exact z_iret X hlocks hr dX8_cliques_81
      · refine z_iload_n X (q := 2) dX8_cliques_10 rfl rfl ?_
        refine z_iconst X (v := (1 : Int32)) dX8_cliques_11 (by decide) ?_
        refine z_iadd X dX8_cliques_12 ?_
        refine z_name (fun v13 => ?_)
        refine z_istore_n X dX8_cliques_13 rfl (Nat.le_of_ble_eq_true rfl) rfl ?_
        exact z_sub [1, 2, 3, 0] (J14 _ _ _ _ _) rfl
  rw [fX8_cliques]
  refine z_iconst X (v := (0 : Int32)) dX8_cliques_0 (by decide) ?_
  refine z_istore_n X dX8_cliques_1 rfl (Nat.le_of_ble_eq_true rfl) rfl ?_
  refine z_iconst X (v := (0 : Int32)) dX8_cliques_2 (by decide) ?_
  refine z_istore_n X dX8_cliques_3 rfl (Nat.le_of_ble_eq_true rfl) rfl ?_
  exact z_sub [2, 1, 0] (J4 _ _ _ _) rfl
abbrev rmX8_copy : Room := { frames := 3, cells := 0, slots := 0, locals := 85 }
def fX8_copy_j145 (this : Nat) (k121 : Int32 → Int32 → Int32 → Int32 → Int32 → Int32 → Int32 → zS → Option (Int32 × zS)) (y1 : Int32) (y2 : Int32) (y3 : Int32) (y4 : Int32) (y5 : Int32) (y6 : Int32) (y7 : Int32) (s0 : Int32) (st : zS) : Option (Int32 × zS) :=
  (zok spM st (some this) 8).bind fun o1 => (zok spM st (some this) 8).bind fun o2 => (zok spM st (st.2.2.2 o2 45) 9).bind fun o3 => (zix spM o3 ((((40 : Int32) * y1) + y2) + s0)).bind fun j4 => (zok spM st (st.2.2.2 o1 45) 9).bind fun o5 => (zix spM o5 ((((40 : Int32) * y3) + y4) + s0)).bind fun j6 => zlet (zp st o5 j6 (st.2.1 o3 j4)) fun st7 => k121 y1 y2 y3 y4 y5 y6 (y7 + (1 : Int32)) st7
def fX8_copy_L121 (this : Nat) : Nat → Int32 → Int32 → Int32 → Int32 → Int32 → Int32 → Int32 → zS → Option (Int32 × zS)
  | 0, _, _, _, _, _, _, _, _ => none
  | n + 1, y1, y2, y3, y4, y5, y6, y7, st => if y5 ≤ y7 then (some (y5, st)) else (if y6 = 0 then (fX8_copy_j145 this (fX8_copy_L121 this n) y1 y2 y3 y4 y5 y6 y7 y7 st) else (fX8_copy_j145 this (fX8_copy_L121 this n) y1 y2 y3 y4 y5 y6 y7 ((y5 - (1 : Int32)) - y7) st))
def fX8_copy_j116 (this : Nat) (y1 : Int32) (y2 : Int32) (y3 : Int32) (y4 : Int32) (y5 : Int32) (s0 : Int32) (st : zS) : Option (Int32 × zS) :=
  fX8_copy_L121 this zF y1 y2 y3 y4 y5 s0 (0 : Int32) st
def fX8_copy_j115 (this : Nat) (y1 : Int32) (y2 : Int32) (y3 : Int32) (y4 : Int32) (y5 : Int32) (st : zS) : Option (Int32 × zS) :=
  fX8_copy_j116 this y1 y2 y3 y4 y5 (0 : Int32) st
def fX8_copy (this : Nat) (a1 : Int32) (a2 : Int32) (a3 : Int32) (a4 : Int32) (a5 : Int32) (st : zS) : Option (Int32 × zS) :=
  (fX8_isSheet a1 st).bind fun q8 => if q8.1 = 0 then (some ((-2 : Int32), q8.2)) else ((fX8_isSheet a3 q8.2).bind fun q9 => if q9.1 = 0 then (some ((-2 : Int32), q9.2)) else ((zok spM q9.2 (some this) 8).bind fun o10 => (zok spM q9.2 (q9.2.2.2.2 o10 42) 10).bind fun o11 => (zix spM o11 a1).bind fun j12 => if (q9.2.2.1 o11 j12) = 0 then (some ((-11 : Int32), q9.2)) else ((zok spM q9.2 (some this) 8).bind fun o13 => (zok spM q9.2 (q9.2.2.2.2 o13 42) 10).bind fun o14 => (zix spM o14 a3).bind fun j15 => if (q9.2.2.1 o14 j15) = 0 then (some ((-11 : Int32), q9.2)) else ((zok spM q9.2 (some this) 8).bind fun o16 => (zok spM q9.2 (q9.2.2.2.2 o16 43) 9).bind fun o17 => (zix spM o17 a1).bind fun j18 => (zok spM q9.2 (some this) 8).bind fun o19 => (zok spM q9.2 (q9.2.2.2.2 o19 43) 9).bind fun o20 => (zix spM o20 a3).bind fun j21 => if (q9.2.2.1 o17 j18) = (q9.2.2.1 o20 j21) then (if a5 < 0 then (some ((-12 : Int32), q9.2)) else (if a2 < 0 then (some ((-12 : Int32), q9.2)) else (if a4 < 0 then (some ((-12 : Int32), q9.2)) else ((zok spM q9.2 (some this) 8).bind fun o22 => (zok spM q9.2 (q9.2.2.2.2 o22 44) 9).bind fun o23 => (zix spM o23 a1).bind fun j24 => if ((q9.2.2.1 o23 j24) - a5) < a2 then (some ((-12 : Int32), q9.2)) else ((zok spM q9.2 (some this) 8).bind fun o25 => (zok spM q9.2 (q9.2.2.2.2 o25 44) 9).bind fun o26 => (zix spM o26 a3).bind fun j27 => if a4 ≤ ((q9.2.2.1 o26 j27) - a5) then (if a1 = a3 then (if a4 ≤ a2 then (fX8_copy_j115 this a1 a2 a3 a4 a5 q9.2) else (fX8_copy_j116 this a1 a2 a3 a4 a5 (1 : Int32) q9.2)) else (fX8_copy_j115 this a1 a2 a3 a4 a5 q9.2)) else (some ((-12 : Int32), q9.2))))))) else (some ((-13 : Int32), q9.2))))))
set_option maxRecDepth 100000 in
set_option maxHeartbeats 4000000 in
theorem kX8_copy (l : Launch) (Z : zZ) (b : Nat) (x : Option Nat) (this : Nat) (a1 : Int32) (a2 : Int32) (a3 : Int32) (a4 : Int32) (a5 : Int32) (st : zS) : zC l Z spM b x yX8_copy (.code yX8_copy cX8_copy 9 (some .int)) (rmX8_copy) rI [vP (some this), vI a1, vI a2, vI a3, vI a4, vI a5] st (fX8_copy this a1 a2 a3 a4 a5 st) := by
  refine z_start (own := RX8) rfl (by decide +kernel) (Nat.le_of_ble_eq_true rfl) rfl (fun p e s m args below meth c res Q A X hK hr hlocks hQ => ?_)
  have J121 : ∀ (n121 : Nat) (y1 : Int32) (y2 : Int32) (y3 : Int32) (y4 : Int32) (y5 : Int32) (y6 : Int32) (y7 : Int32) (st : zS), zs p l e (rmX8_copy) s m args below meth c Q Z spM b x A 9 0 0 res (fX8_copy_L121 this n121 y1 y2 y3 y4 y5 y6 y7 st) 121 [(0, vP (some this)), (1, vI y1), (2, vI y2), (3, vI y3), (4, vI y4), (5, vI y5), (6, vI y6), (7, vI y7)] [] st := by
    intro n121
    induction n121 with
    | zero => intros; exact z_none
    | succ n121 ih121 =>
      have J145 : ∀ (y1 : Int32) (y2 : Int32) (y3 : Int32) (y4 : Int32) (y5 : Int32) (y6 : Int32) (y7 : Int32) (s0 : Int32) (st : zS), zs p l e (rmX8_copy) s m args below meth c Q Z spM b x A 9 0 0 res (fX8_copy_j145 this (fX8_copy_L121 this n121) y1 y2 y3 y4 y5 y6 y7 s0 st) 145 [(0, vP (some this)), (1, vI y1), (2, vI y2), (3, vI y3), (4, vI y4), (5, vI y5), (6, vI y6), (7, vI y7)] [vI s0] st := by
        intro y1 y2 y3 y4 y5 y6 y7 s0 st
        rw [fX8_copy_j145]
        refine z_istore X dX8_copy_145 (Nat.le_of_ble_eq_true rfl) rfl ?_
        refine z_aload_n X (q := 1) dX8_copy_147 rfl rfl ?_
        refine z_getr X hK (N := 46) (ci := 8) (k := 45) rfl (by decide) inlX8 (by decide) hf_X8_60 rfl spM_X8 rfl dX8_copy_148 (fun o1 _ => ?_)
        refine z_bipush X (v := (40 : Int32)) dX8_copy_151 (by decide) ?_
        refine z_iload_n X (q := 4) dX8_copy_153 rfl rfl ?_
        refine z_imul X dX8_copy_154 ?_
        refine z_iload X (q := 5) dX8_copy_155 rfl ?_
        refine z_iadd X dX8_copy_157 ?_
        refine z_iload X (q := 0) dX8_copy_158 rfl ?_
        refine z_iadd X dX8_copy_160 ?_
        refine z_aload_n X (q := 1) dX8_copy_161 rfl rfl ?_
        refine z_getr X hK (N := 46) (ci := 8) (k := 45) rfl (by decide) inlX8 (by decide) hf_X8_60 rfl spM_X8 rfl dX8_copy_162 (fun o2 _ => ?_)
        refine z_bipush X (v := (40 : Int32)) dX8_copy_165 (by decide) ?_
        refine z_iload_n X (q := 2) dX8_copy_167 rfl rfl ?_
        refine z_imul X dX8_copy_168 ?_
        refine z_iload_n X (q := 3) dX8_copy_169 rfl rfl ?_
        refine z_iadd X dX8_copy_170 ?_
        refine z_iload X (q := 0) dX8_copy_171 rfl ?_
        refine z_iadd X dX8_copy_173 ?_
        refine z_iald X hK dX8_copy_174 (fun o3 j4 _ _ => ?_)
        refine z_iast X hK dX8_copy_175 (fun o5 j6 st7 _ _ => ?_)
        refine z_iinc X (q := 8) (y := y7 + (1 : Int32)) dX8_copy_176 rfl rfl (Nat.le_of_ble_eq_true rfl) rfl ?_
        refine z_goto X (tgt := 121) dX8_copy_179 (by decide) ?_
        exact z_sub [2, 3, 4, 5, 6, 7, 8, 0] (ih121 _ _ _ _ _ _ _ _) rfl
      intro y1 y2 y3 y4 y5 y6 y7 st
      rw [fX8_copy_L121]
      refine z_iload X (q := 7) dX8_copy_121 rfl ?_
      refine z_iload X (q := 5) dX8_copy_123 rfl ?_
      refine z_icmp_ge X (tgt := 182) dX8_copy_125 (by decide) (fun _ => ?_) (fun _ => ?_)
      · refine z_iload X (q := 5) dX8_copy_182 rfl ?_
        subst hQ; exact z_iret X hlocks hr dX8_copy_184
      · refine z_iload X (q := 6) dX8_copy_128 rfl ?_
        refine z_if_eq X (tgt := 143) dX8_copy_130 (by decide) (fun _ => ?_) (fun _ => ?_)
        · refine z_iload X (q := 7) dX8_copy_143 rfl ?_
          exact z_sub [0, 1, 2, 3, 4, 5, 6, 7] (J145 _ _ _ _ _ _ _ _ _) rfl
        · refine z_iload X (q := 5) dX8_copy_133 rfl ?_
          refine z_iconst X (v := (1 : Int32)) dX8_copy_135 (by decide) ?_
          refine z_isub X dX8_copy_136 ?_
          refine z_iload X (q := 7) dX8_copy_137 rfl ?_
          refine z_isub X dX8_copy_139 ?_
          refine z_goto X (tgt := 145) dX8_copy_140 (by decide) ?_
          exact z_sub [0, 1, 2, 3, 4, 5, 6, 7] (J145 _ _ _ _ _ _ _ _ _) rfl
  have J116 : ∀ (y1 : Int32) (y2 : Int32) (y3 : Int32) (y4 : Int32) (y5 : Int32) (s0 : Int32) (st : zS), zs p l e (rmX8_copy) s m args below meth c Q Z spM b x A 9 0 0 res (fX8_copy_j116 this y1 y2 y3 y4 y5 s0 st) 116 [(0, vP (some this)), (1, vI y1), (2, vI y2), (3, vI y3), (4, vI y4), (5, vI y5)] [vI s0] st := by
    intro y1 y2 y3 y4 y5 s0 st
    rw [fX8_copy_j116]
    refine z_istore X dX8_copy_116 (Nat.le_of_ble_eq_true rfl) rfl ?_
    refine z_iconst X (v := (0 : Int32)) dX8_copy_118 (by decide) ?_
    refine z_istore X dX8_copy_119 (Nat.le_of_ble_eq_true rfl) rfl ?_
    exact z_sub [2, 3, 4, 5, 6, 7, 1, 0] (J121 _ _ _ _ _ _ _ _ _) rfl
  have J115 : ∀ (y1 : Int32) (y2 : Int32) (y3 : Int32) (y4 : Int32) (y5 : Int32) (st : zS), zs p l e (rmX8_copy) s m args below meth c Q Z spM b x A 9 0 0 res (fX8_copy_j115 this y1 y2 y3 y4 y5 st) 115 [(0, vP (some this)), (1, vI y1), (2, vI y2), (3, vI y3), (4, vI y4), (5, vI y5)] [] st := by
    intro y1 y2 y3 y4 y5 st
    rw [fX8_copy_j115]
    refine z_iconst X (v := (0 : Int32)) dX8_copy_115 (by decide) ?_
    exact z_sub [0, 1, 2, 3, 4, 5] (J116 _ _ _ _ _ _ _) rfl
  rw [fX8_copy]
  refine z_iload_n X (q := 1) dX8_copy_0 rfl rfl ?_
  refine z_callS X hK (As := [vI a1]) (kX8_isSheet l Z  b x _ _) hk_X8_390 ⟨rfl, rfl⟩ hd_X8_isSheet.2 ⟨Nat.le_of_ble_eq_true rfl, Nat.le_of_ble_eq_true rfl⟩ ⟨Nat.le_of_ble_eq_true rfl, Nat.le_of_ble_eq_true rfl⟩ rfl rfl (Nat.le_of_ble_eq_true rfl) dX8_copy_1 (fun q8 => ?_)
  refine z_if_eq X (tgt := 14) dX8_copy_4 (by decide) (fun _ => ?_) (fun _ => ?_)
  · refine z_bipush X (v := (-2 : Int32)) dX8_copy_14 (by decide) ?_
    subst hQ; exact z_iret X hlocks hr dX8_copy_16
  · refine z_iload_n X (q := 3) dX8_copy_7 rfl rfl ?_
    refine z_callS X hK (As := [vI a3]) (kX8_isSheet l Z  b x _ _) hk_X8_390 ⟨rfl, rfl⟩ hd_X8_isSheet.2 ⟨Nat.le_of_ble_eq_true rfl, Nat.le_of_ble_eq_true rfl⟩ ⟨Nat.le_of_ble_eq_true rfl, Nat.le_of_ble_eq_true rfl⟩ rfl rfl (Nat.le_of_ble_eq_true rfl) dX8_copy_8 (fun q9 => ?_)
    refine z_if_ne X (tgt := 17) dX8_copy_11 (by decide) (fun _ => ?_) (fun _ => ?_)
    · refine z_aload_n X (q := 0) dX8_copy_17 rfl rfl ?_
      refine z_getr X hK (N := 46) (ci := 8) (k := 42) rfl (by decide) inlX8 (by decide) hf_X8_50 rfl spM_X8 rfl dX8_copy_18 (fun o10 _ => ?_)
      refine z_iload_n X (q := 1) dX8_copy_21 rfl rfl ?_
      refine z_zald X hK dX8_copy_22 (fun o11 j12 _ _ => ?_)
      refine z_if_eq X (tgt := 35) dX8_copy_23 (by decide) (fun _ => ?_) (fun _ => ?_)
      · refine z_bipush X (v := (-11 : Int32)) dX8_copy_35 (by decide) ?_
        subst hQ; exact z_iret X hlocks hr dX8_copy_37
      · refine z_aload_n X (q := 0) dX8_copy_26 rfl rfl ?_
        refine z_getr X hK (N := 46) (ci := 8) (k := 42) rfl (by decide) inlX8 (by decide) hf_X8_50 rfl spM_X8 rfl dX8_copy_27 (fun o13 _ => ?_)
        refine z_iload_n X (q := 3) dX8_copy_30 rfl rfl ?_
        refine z_zald X hK dX8_copy_31 (fun o14 j15 _ _ => ?_)
        refine z_if_ne X (tgt := 38) dX8_copy_32 (by decide) (fun _ => ?_) (fun _ => ?_)
        · refine z_aload_n X (q := 0) dX8_copy_38 rfl rfl ?_
          refine z_getr X hK (N := 46) (ci := 8) (k := 43) rfl (by decide) inlX8 (by decide) hf_X8_54 rfl spM_X8 rfl dX8_copy_39 (fun o16 _ => ?_)
          refine z_iload_n X (q := 1) dX8_copy_42 rfl rfl ?_
          refine z_iald X hK dX8_copy_43 (fun o17 j18 _ _ => ?_)
          refine z_aload_n X (q := 0) dX8_copy_44 rfl rfl ?_
          refine z_getr X hK (N := 46) (ci := 8) (k := 43) rfl (by decide) inlX8 (by decide) hf_X8_54 rfl spM_X8 rfl dX8_copy_45 (fun o19 _ => ?_)
          refine z_iload_n X (q := 3) dX8_copy_48 rfl rfl ?_
          refine z_iald X hK dX8_copy_49 (fun o20 j21 _ _ => ?_)
          refine z_icmp_eq X (tgt := 56) dX8_copy_50 (by decide) (fun _ => ?_) (fun _ => ?_)
          · refine z_iload X (q := 5) dX8_copy_56 rfl ?_
            refine z_if_lt X (tgt := 97) dX8_copy_58 (by decide) (fun _ => ?_) (fun _ => ?_)
            · refine z_bipush X (v := (-12 : Int32)) dX8_copy_97 (by decide) ?_
              subst hQ; exact z_iret X hlocks hr dX8_copy_99
            · refine z_iload_n X (q := 2) dX8_copy_61 rfl rfl ?_
              refine z_if_lt X (tgt := 97) dX8_copy_62 (by decide) (fun _ => ?_) (fun _ => ?_)
              · refine z_bipush X (v := (-12 : Int32)) dX8_copy_97 (by decide) ?_
                subst hQ; exact z_iret X hlocks hr dX8_copy_99
              · refine z_iload X (q := 4) dX8_copy_65 rfl ?_
                refine z_if_lt X (tgt := 97) dX8_copy_67 (by decide) (fun _ => ?_) (fun _ => ?_)
                · refine z_bipush X (v := (-12 : Int32)) dX8_copy_97 (by decide) ?_
                  subst hQ; exact z_iret X hlocks hr dX8_copy_99
                · refine z_iload_n X (q := 2) dX8_copy_70 rfl rfl ?_
                  refine z_aload_n X (q := 0) dX8_copy_71 rfl rfl ?_
                  refine z_getr X hK (N := 46) (ci := 8) (k := 44) rfl (by decide) inlX8 (by decide) hf_X8_57 rfl spM_X8 rfl dX8_copy_72 (fun o22 _ => ?_)
                  refine z_iload_n X (q := 1) dX8_copy_75 rfl rfl ?_
                  refine z_iald X hK dX8_copy_76 (fun o23 j24 _ _ => ?_)
                  refine z_iload X (q := 5) dX8_copy_77 rfl ?_
                  refine z_isub X dX8_copy_79 ?_
                  refine z_icmp_gt X (tgt := 97) dX8_copy_80 (by decide) (fun _ => ?_) (fun _ => ?_)
                  · refine z_bipush X (v := (-12 : Int32)) dX8_copy_97 (by decide) ?_
                    subst hQ; exact z_iret X hlocks hr dX8_copy_99
                  · refine z_iload X (q := 4) dX8_copy_83 rfl ?_
                    refine z_aload_n X (q := 0) dX8_copy_85 rfl rfl ?_
                    refine z_getr X hK (N := 46) (ci := 8) (k := 44) rfl (by decide) inlX8 (by decide) hf_X8_57 rfl spM_X8 rfl dX8_copy_86 (fun o25 _ => ?_)
                    refine z_iload_n X (q := 3) dX8_copy_89 rfl rfl ?_
                    refine z_iald X hK dX8_copy_90 (fun o26 j27 _ _ => ?_)
                    refine z_iload X (q := 5) dX8_copy_91 rfl ?_
                    refine z_isub X dX8_copy_93 ?_
                    refine z_icmp_le X (tgt := 100) dX8_copy_94 (by decide) (fun _ => ?_) (fun _ => ?_)
                    · refine z_iload_n X (q := 1) dX8_copy_100 rfl rfl ?_
                      refine z_iload_n X (q := 3) dX8_copy_101 rfl rfl ?_
                      refine z_icmp_ne X (tgt := 115) dX8_copy_102 (by decide) (fun _ => ?_) (fun _ => ?_)
                      · exact z_sub [0, 1, 2, 3, 4, 5] (J115 _ _ _ _ _ _) rfl
                      · refine z_iload_n X (q := 2) dX8_copy_105 rfl rfl ?_
                        refine z_iload X (q := 4) dX8_copy_106 rfl ?_
                        refine z_icmp_ge X (tgt := 115) dX8_copy_108 (by decide) (fun _ => ?_) (fun _ => ?_)
                        · exact z_sub [0, 1, 2, 3, 4, 5] (J115 _ _ _ _ _ _) rfl
                        · refine z_iconst X (v := (1 : Int32)) dX8_copy_111 (by decide) ?_
                          refine z_goto X (tgt := 116) dX8_copy_112 (by decide) ?_
                          exact z_sub [0, 1, 2, 3, 4, 5] (J116 _ _ _ _ _ _ _) rfl
                    · refine z_bipush X (v := (-12 : Int32)) dX8_copy_97 (by decide) ?_
                      subst hQ; exact z_iret X hlocks hr dX8_copy_99
          · refine z_bipush X (v := (-13 : Int32)) dX8_copy_53 (by decide) ?_
            subst hQ; exact z_iret X hlocks hr dX8_copy_55
        · refine z_bipush X (v := (-11 : Int32)) dX8_copy_35 (by decide) ?_
          subst hQ; exact z_iret X hlocks hr dX8_copy_37
    · refine z_bipush X (v := (-2 : Int32)) dX8_copy_14 (by decide) ?_
      subst hQ; exact z_iret X hlocks hr dX8_copy_16
abbrev rmX8_likeTwos : Room := { frames := 2, cells := 0, slots := 0, locals := 62 }
def fX8_likeTwos_L4 (this : Nat) : Nat → Int32 → Int32 → zS → Option (Int32 × zS)
  | 0, _, _, _ => none
  | n + 1, y1, y2, st => if (12 : Int32) ≤ y2 then (if (2 : Int32) = 0 then none else some ((y1 / (2 : Int32)), st)) else ((zok spM st (some this) 8).bind fun o1 => (zok spM st (st.2.2.2 o1 8) 9).bind fun o2 => (zix spM o2 y2).bind fun j3 => (fX8_bitsOf (st.2.1 o2 j3) st).bind fun q4 => zlet ((y1 + q4.1)) fun v5 => (fX8_likeTwos_L4 this n) v5 (y2 + (1 : Int32)) q4.2)
def fX8_likeTwos (this : Nat) (st : zS) : Option (Int32 × zS) :=
  fX8_likeTwos_L4 this zF (0 : Int32) (0 : Int32) st
set_option maxRecDepth 100000 in
set_option maxHeartbeats 4000000 in
theorem kX8_likeTwos (l : Launch) (Z : zZ) (b : Nat) (x : Option Nat) (this : Nat) (st : zS) : zC l Z spM b x yX8_likeTwos (.code yX8_likeTwos cX8_likeTwos 3 (some .int)) (rmX8_likeTwos) rI [vP (some this)] st (fX8_likeTwos this st) := by
  refine z_start (own := RX8) rfl (by decide +kernel) (Nat.le_of_ble_eq_true rfl) rfl (fun p e s m args below meth c res Q A X hK hr hlocks hQ => ?_)
  have J4 : ∀ (n4 : Nat) (y1 : Int32) (y2 : Int32) (st : zS), zs p l e (rmX8_likeTwos) s m args below meth c Q Z spM b x A 3 0 0 res (fX8_likeTwos_L4 this n4 y1 y2 st) 4 [(0, vP (some this)), (1, vI y1), (2, vI y2)] [] st := by
    intro n4
    induction n4 with
    | zero => intros; exact z_none
    | succ n4 ih4 =>
      intro y1 y2 st
      rw [fX8_likeTwos_L4]
      refine z_iload_n X (q := 2) dX8_likeTwos_4 rfl rfl ?_
      refine z_bipush X (v := (12 : Int32)) dX8_likeTwos_5 (by decide) ?_
      refine z_icmp_ge X (tgt := 28) dX8_likeTwos_7 (by decide) (fun _ => ?_) (fun _ => ?_)
      · refine z_iload_n X (q := 1) dX8_likeTwos_28 rfl rfl ?_
        refine z_iconst X (v := (2 : Int32)) dX8_likeTwos_29 (by decide) ?_
        refine z_idiv X dX8_likeTwos_30 (fun _ => ?_)
        subst hQ; exact z_iret X hlocks hr dX8_likeTwos_31
      · refine z_iload_n X (q := 1) dX8_likeTwos_10 rfl rfl ?_
        refine z_aload_n X (q := 0) dX8_likeTwos_11 rfl rfl ?_
        refine z_getr X hK (N := 46) (ci := 8) (k := 8) rfl (by decide) inlX8 (by decide) hf_X8_23 rfl spM_X8 rfl dX8_likeTwos_12 (fun o1 _ => ?_)
        refine z_iload_n X (q := 2) dX8_likeTwos_15 rfl rfl ?_
        refine z_iald X hK dX8_likeTwos_16 (fun o2 j3 _ _ => ?_)
        refine z_callS X hK (As := [vI (st.2.1 o2 j3)]) (kX8_bitsOf l Z  b x _ _) hk_X8_63 ⟨rfl, rfl⟩ hd_X8_bitsOf.2 ⟨Nat.le_of_ble_eq_true rfl, Nat.le_of_ble_eq_true rfl⟩ ⟨Nat.le_of_ble_eq_true rfl, Nat.le_of_ble_eq_true rfl⟩ rfl rfl (Nat.le_of_ble_eq_true rfl) dX8_likeTwos_17 (fun q4 => ?_)
        refine z_iadd X dX8_likeTwos_20 ?_
        refine z_name (fun v5 => ?_)
        refine z_istore_n X dX8_likeTwos_21 rfl (Nat.le_of_ble_eq_true rfl) rfl ?_
        refine z_iinc X (q := 2) (y := y2 + (1 : Int32)) dX8_likeTwos_22 rfl rfl (Nat.le_of_ble_eq_true rfl) rfl ?_
        refine z_goto X (tgt := 4) dX8_likeTwos_25 (by decide) ?_
        exact z_sub [2, 1, 0] (ih4 _ _ _) rfl
  rw [fX8_likeTwos]
  refine z_iconst X (v := (0 : Int32)) dX8_likeTwos_0 (by decide) ?_
  refine z_istore_n X dX8_likeTwos_1 rfl (Nat.le_of_ble_eq_true rfl) rfl ?_
  refine z_iconst X (v := (0 : Int32)) dX8_likeTwos_2 (by decide) ?_
  refine z_istore_n X dX8_likeTwos_3 rfl (Nat.le_of_ble_eq_true rfl) rfl ?_
  exact z_sub [2, 1, 0] (J4 _ _ _ _) rfl
theorem zw_835 : Cond.methodLink RX8 409 yX8_likeTwos ∈ wsL_law := zr_42 _ (by decide +kernel)
theorem zw_836 : Cond.instanceMethod yX8_likeTwos ∈ wsL_law := zr_42 _ (by decide +kernel)
theorem zw_837 : Cond.selects RX8 yX8_likeTwos yX8_likeTwos ∈ wsL_law := zr_42 _ (by decide +kernel)
theorem zw_838 : Cond.code yX8_likeTwos cX8_likeTwos 3 (some .int) ∈ wsL_law := zr_42 _ (by decide +kernel)
theorem hk_X8_409 : ∀ w ∈ ([Cond.methodLink RX8 409 yX8_likeTwos, Cond.instanceMethod yX8_likeTwos, Cond.selects RX8 yX8_likeTwos yX8_likeTwos, Cond.initialized RX8, Cond.code yX8_likeTwos cX8_likeTwos 3 (some .int)] : List Cond), w ∈ wsL_law := List.forall_mem_cons.mpr ⟨zw_835, List.forall_mem_cons.mpr ⟨zw_836, List.forall_mem_cons.mpr ⟨zw_837, List.forall_mem_cons.mpr ⟨zw_525, List.forall_mem_cons.mpr ⟨zw_838, fun _ h => absurd h List.not_mem_nil⟩⟩⟩⟩⟩
theorem hd_X8_likeTwos : yX8_likeTwos.cls = RX8 ∧ yX8_likeTwos.cls ≠ "java/lang/invoke/MethodHandle" ∧ yX8_likeTwos.cls ≠ "java/lang/invoke/VarHandle" ∧ (parseMethodDescriptor yX8_likeTwos.desc).map (fun d => d.parameters.length) = some 0 := by decide +kernel
theorem zw_839 : Cond.fieldLink RX8 120 "WellGivesOtherModel" "taped" "I" ∈ wsL_law := zr_27 _ (by decide +kernel)
theorem hf_X8_120 : Cond.fieldLink RX8 120 "WellGivesOtherModel" "taped" "I" ∈ wsL_law := zw_839
theorem zw_840 : Cond.fieldLink RX8 71 "WellGivesOtherModel" "textCount" "I" ∈ wsL_law := zr_6 _ (by decide +kernel)
theorem hf_X8_71 : Cond.fieldLink RX8 71 "WellGivesOtherModel" "textCount" "I" ∈ wsL_law := zw_840
abbrev rmX8_count : Room := { frames := 3, cells := 0, slots := 0, locals := 84 }
def fX8_count (this : Nat) (a1 : Int32) (st : zS) : Option (Int32 × zS) :=
  (fX8_in (a1.toInt64) (0 : Int64) (5 : Int64) st).bind fun q1 => if q1.1 = 0 then (some ((-2 : Int32), q1.2)) else (if a1 = 0 then ((zok spM q1.2 (some this) 8).bind fun o8 => some ((q1.2.2.1 o8 11), q1.2)) else (if a1 = (1 : Int32) then ((zok spM q1.2 (some this) 8).bind fun o7 => (fX8_likeTwos o7 q1.2).bind fun q6 => some (q6.1, q6.2)) else (if a1 = (2 : Int32) then ((zok spM q1.2 (some this) 8).bind fun o5 => some ((q1.2.2.1 o5 7), q1.2)) else (if a1 = (3 : Int32) then ((zok spM q1.2 (some this) 8).bind fun o4 => some ((q1.2.2.1 o4 3), q1.2)) else (if a1 = (4 : Int32) then ((zok spM q1.2 (some this) 8).bind fun o3 => some ((q1.2.2.1 o3 6), q1.2)) else ((zok spM q1.2 (some this) 8).bind fun o2 => some ((q1.2.2.1 o2 4), q1.2)))))))
set_option maxRecDepth 100000 in
set_option maxHeartbeats 4000000 in
theorem kX8_count (l : Launch) (Z : zZ) (b : Nat) (x : Option Nat) (this : Nat) (a1 : Int32) (st : zS) : zC l Z spM b x yX8_count (.code yX8_count cX8_count 2 (some .int)) (rmX8_count) rI [vP (some this), vI a1] st (fX8_count this a1 st) := by
  refine z_start (own := RX8) rfl (by decide +kernel) (Nat.le_of_ble_eq_true rfl) rfl (fun p e s m args below meth c res Q A X hK hr hlocks hQ => ?_)
  rw [fX8_count]
  refine z_iload_n X (q := 1) dX8_count_0 rfl rfl ?_
  refine z_i2l X dX8_count_1 ?_
  refine z_lconst X (v := (0 : Int64)) dX8_count_2 (by decide) ?_
  refine z_ldc2 X (v := (5 : Int64)) (hc_X8_109) dX8_count_3 ?_
  refine z_callS X hK (As := [vL (a1.toInt64), vL (0 : Int64), vL (5 : Int64)]) (kX8_in l Z  b x _ _ _ _) hk_X8_77 ⟨rfl, rfl⟩ hd_X8_in.2 ⟨Nat.le_of_ble_eq_true rfl, Nat.le_of_ble_eq_true rfl⟩ ⟨Nat.le_of_ble_eq_true rfl, Nat.le_of_ble_eq_true rfl⟩ rfl rfl (Nat.le_of_ble_eq_true rfl) dX8_count_6 (fun q1 => ?_)
  refine z_if_ne X (tgt := 15) dX8_count_9 (by decide) (fun _ => ?_) (fun _ => ?_)
  · refine z_iload_n X (q := 1) dX8_count_15 rfl rfl ?_
    refine z_if_ne X (tgt := 26) dX8_count_16 (by decide) (fun _ => ?_) (fun _ => ?_)
    · refine z_iload_n X (q := 1) dX8_count_26 rfl rfl ?_
      refine z_iconst X (v := (1 : Int32)) dX8_count_27 (by decide) ?_
      refine z_icmp_ne X (tgt := 38) dX8_count_28 (by decide) (fun _ => ?_) (fun _ => ?_)
      · refine z_iload_n X (q := 1) dX8_count_38 rfl rfl ?_
        refine z_iconst X (v := (2 : Int32)) dX8_count_39 (by decide) ?_
        refine z_icmp_ne X (tgt := 50) dX8_count_40 (by decide) (fun _ => ?_) (fun _ => ?_)
        · refine z_iload_n X (q := 1) dX8_count_50 rfl rfl ?_
          refine z_iconst X (v := (3 : Int32)) dX8_count_51 (by decide) ?_
          refine z_icmp_ne X (tgt := 62) dX8_count_52 (by decide) (fun _ => ?_) (fun _ => ?_)
          · refine z_iload_n X (q := 1) dX8_count_62 rfl rfl ?_
            refine z_iconst X (v := (4 : Int32)) dX8_count_63 (by decide) ?_
            refine z_icmp_ne X (tgt := 74) dX8_count_64 (by decide) (fun _ => ?_) (fun _ => ?_)
            · refine z_aload_n X (q := 0) dX8_count_74 rfl rfl ?_
              refine z_geti X hK (N := 46) (ci := 8) (k := 4) rfl (by decide) inlX8 (by decide) hf_X8_106 rfl spM_X8 rfl dX8_count_75 (fun o2 _ => ?_)
              subst hQ; exact z_iret X hlocks hr dX8_count_78
            · refine z_aload_n X (q := 0) dX8_count_67 rfl rfl ?_
              refine z_geti X hK (N := 46) (ci := 8) (k := 6) rfl (by decide) inlX8 (by decide) hf_X8_120 rfl spM_X8 rfl dX8_count_68 (fun o3 _ => ?_)
              refine z_goto X (tgt := 78) dX8_count_71 (by decide) ?_
              subst hQ; exact z_iret X hlocks hr dX8_count_78
          · refine z_aload_n X (q := 0) dX8_count_55 rfl rfl ?_
            refine z_geti X hK (N := 46) (ci := 8) (k := 3) rfl (by decide) inlX8 (by decide) hf_X8_71 rfl spM_X8 rfl dX8_count_56 (fun o4 _ => ?_)
            refine z_goto X (tgt := 78) dX8_count_59 (by decide) ?_
            subst hQ; exact z_iret X hlocks hr dX8_count_78
        · refine z_aload_n X (q := 0) dX8_count_43 rfl rfl ?_
          refine z_geti X hK (N := 46) (ci := 8) (k := 7) rfl (by decide) inlX8 (by decide) hf_X8_103 rfl spM_X8 rfl dX8_count_44 (fun o5 _ => ?_)
          refine z_goto X (tgt := 78) dX8_count_47 (by decide) ?_
          subst hQ; exact z_iret X hlocks hr dX8_count_78
      · refine z_aload_n X (q := 0) dX8_count_31 rfl rfl ?_
        refine z_callV X hK (As := []) (ci := 8) rfl (by decide) (fun o => (kX8_likeTwos l Z  b x o _)) hk_X8_409 ⟨rfl, rfl⟩ hd_X8_likeTwos ⟨Nat.le_of_ble_eq_true rfl, Nat.le_of_ble_eq_true rfl⟩ ⟨Nat.le_of_ble_eq_true rfl, Nat.le_of_ble_eq_true rfl⟩ rfl rfl (Nat.le_of_ble_eq_true rfl) dX8_count_32 (fun _ q6 _ => ?_)
        refine z_goto X (tgt := 78) dX8_count_35 (by decide) ?_
        subst hQ; exact z_iret X hlocks hr dX8_count_78
    · refine z_aload_n X (q := 0) dX8_count_19 rfl rfl ?_
      refine z_geti X hK (N := 46) (ci := 8) (k := 11) rfl (by decide) inlX8 (by decide) hf_X8_74 rfl spM_X8 rfl dX8_count_20 (fun o8 _ => ?_)
      refine z_goto X (tgt := 78) dX8_count_23 (by decide) ?_
      subst hQ; exact z_iret X hlocks hr dX8_count_78
  · refine z_bipush X (v := (-2 : Int32)) dX8_count_12 (by decide) ?_
    subst hQ; exact z_iret X hlocks hr dX8_count_14
abbrev rmX8_day : Room := { frames := 1, cells := 0, slots := 0, locals := 40 }
def fX8_day (this : Nat) (st : zS) : Option (Int32 × zS) :=
  (zok spM st (some this) 8).bind fun o1 => if (st.2.1 o1 7) = (999 : Int32) then (some ((-3 : Int32), st)) else ((zok spM st (some this) 8).bind fun o2 => (zok spM st (some this) 8).bind fun o3 => zlet (zp st o3 7 ((st.2.1 o2 7) + (1 : Int32))) fun st4 => (zok spM st4 (some this) 8).bind fun o5 => some ((st4.2.1 o5 7), st4))
set_option maxRecDepth 100000 in
set_option maxHeartbeats 4000000 in
theorem kX8_day (l : Launch) (Z : zZ) (b : Nat) (x : Option Nat) (this : Nat) (st : zS) : zC l Z spM b x yX8_day (.code yX8_day cX8_day 1 (some .int)) (rmX8_day) rI [vP (some this)] st (fX8_day this st) := by
  refine z_start (own := RX8) rfl (by decide +kernel) (Nat.le_of_ble_eq_true rfl) rfl (fun p e s m args below meth c res Q A X hK hr hlocks hQ => ?_)
  rw [fX8_day]
  refine z_aload_n X (q := 0) dX8_day_0 rfl rfl ?_
  refine z_geti X hK (N := 46) (ci := 8) (k := 7) rfl (by decide) inlX8 (by decide) hf_X8_103 rfl spM_X8 rfl dX8_day_1 (fun o1 _ => ?_)
  refine z_sipush X (v := (999 : Int32)) dX8_day_4 (by decide) ?_
  refine z_icmp_ne X (tgt := 13) dX8_day_7 (by decide) (fun _ => ?_) (fun _ => ?_)
  · refine z_aload_n X (q := 0) dX8_day_13 rfl rfl ?_
    refine z_dup X dX8_day_14 rfl ?_
    refine z_geti X hK (N := 46) (ci := 8) (k := 7) rfl (by decide) inlX8 (by decide) hf_X8_103 rfl spM_X8 rfl dX8_day_15 (fun o2 _ => ?_)
    refine z_iconst X (v := (1 : Int32)) dX8_day_18 (by decide) ?_
    refine z_iadd X dX8_day_19 ?_
    refine z_puti X hK (N := 46) (ci := 8) (k := 7) rfl (by decide) inlX8 tyX8 tyX8_ok nmX8 (by decide) hf_X8_103 rfl rfl spM_X8 rfl (by decide +kernel) dX8_day_20 (fun o3 st4 _ => ?_)
    refine z_aload_n X (q := 0) dX8_day_23 rfl rfl ?_
    refine z_geti X hK (N := 46) (ci := 8) (k := 7) rfl (by decide) inlX8 (by decide) hf_X8_103 rfl spM_X8 rfl dX8_day_24 (fun o5 _ => ?_)
    subst hQ; exact z_iret X hlocks hr dX8_day_27
  · refine z_bipush X (v := (-3 : Int32)) dX8_day_10 (by decide) ?_
    subst hQ; exact z_iret X hlocks hr dX8_day_12
theorem zw_841 : Cond.constantLong RX8 433 (40) ∈ wsL_law := zr_46 _ (by decide +kernel)
theorem hc_X8_433 : Cond.constantLong RX8 433 (40) ∈ wsL_law := zw_841
abbrev rmX8_drawn : Room := { frames := 47, cells := 0, slots := 0, locals := 1073 }
def fX8_drawn_j30 (this : Nat) (st : zS) : Option (Int32 × zS) :=
  some ((-2 : Int32), st)
def fX8_drawn (this : Nat) (a1 : Int32) (a2 : Int32) (a3 : Int32) (st : zS) : Option (Int32 × zS) :=
  (zok spM st (some this) 8).bind fun o5 => (fX8_isOne o5 a2 st).bind fun q1 => if q1.1 = 0 then (fX8_drawn_j30 this q1.2) else ((fX8_in (a3.toInt64) (0 : Int64) (40 : Int64) q1.2).bind fun q2 => if q2.1 = 0 then (fX8_drawn_j30 this q2.2) else ((zok spM q2.2 (some this) 8).bind fun o4 => (fX8_hadDrawn o4 a1 a2 a3 q2.2).bind fun q3 => some (q3.1, q3.2)))
set_option maxRecDepth 100000 in
set_option maxHeartbeats 4000000 in
theorem kX8_drawn (l : Launch) (Z : zZ) (b : Nat) (x : Option Nat) (this : Nat) (a1 : Int32) (a2 : Int32) (a3 : Int32) (st : zS) : zC l Z spM b x yX8_drawn (.code yX8_drawn cX8_drawn 4 (some .int)) (rmX8_drawn) rI [vP (some this), vI a1, vI a2, vI a3] st (fX8_drawn this a1 a2 a3 st) := by
  refine z_start (own := RX8) rfl (by decide +kernel) (Nat.le_of_ble_eq_true rfl) rfl (fun p e s m args below meth c res Q A X hK hr hlocks hQ => ?_)
  have J30 : ∀ (st : zS), zs p l e (rmX8_drawn) s m args below meth c Q Z spM b x A 4 0 0 res (fX8_drawn_j30 this st) 30 [] [] st := by
    intro  st
    rw [fX8_drawn_j30]
    refine z_bipush X (v := (-2 : Int32)) dX8_drawn_30 (by decide) ?_
    subst hQ; exact z_iret X hlocks hr dX8_drawn_32
  rw [fX8_drawn]
  refine z_aload_n X (q := 0) dX8_drawn_0 rfl rfl ?_
  refine z_iload_n X (q := 2) dX8_drawn_1 rfl rfl ?_
  refine z_callV X hK (As := [vI a2]) (ci := 8) rfl (by decide) (fun o => (kX8_isOne l Z  b x o _ _)) hk_X8_89 ⟨rfl, rfl⟩ hd_X8_isOne ⟨Nat.le_of_ble_eq_true rfl, Nat.le_of_ble_eq_true rfl⟩ ⟨Nat.le_of_ble_eq_true rfl, Nat.le_of_ble_eq_true rfl⟩ rfl rfl (Nat.le_of_ble_eq_true rfl) dX8_drawn_2 (fun _ q1 _ => ?_)
  refine z_if_eq X (tgt := 30) dX8_drawn_5 (by decide) (fun _ => ?_) (fun _ => ?_)
  · exact z_sub [] (J30  _) rfl
  · refine z_iload_n X (q := 3) dX8_drawn_8 rfl rfl ?_
    refine z_i2l X dX8_drawn_9 ?_
    refine z_lconst X (v := (0 : Int64)) dX8_drawn_10 (by decide) ?_
    refine z_ldc2 X (v := (40 : Int64)) (hc_X8_433) dX8_drawn_11 ?_
    refine z_callS X hK (As := [vL (a3.toInt64), vL (0 : Int64), vL (40 : Int64)]) (kX8_in l Z  b x _ _ _ _) hk_X8_77 ⟨rfl, rfl⟩ hd_X8_in.2 ⟨Nat.le_of_ble_eq_true rfl, Nat.le_of_ble_eq_true rfl⟩ ⟨Nat.le_of_ble_eq_true rfl, Nat.le_of_ble_eq_true rfl⟩ rfl rfl (Nat.le_of_ble_eq_true rfl) dX8_drawn_14 (fun q2 => ?_)
    refine z_if_eq X (tgt := 30) dX8_drawn_17 (by decide) (fun _ => ?_) (fun _ => ?_)
    · exact z_sub [] (J30  _) rfl
    · refine z_aload_n X (q := 0) dX8_drawn_20 rfl rfl ?_
      refine z_iload_n X (q := 1) dX8_drawn_21 rfl rfl ?_
      refine z_iload_n X (q := 2) dX8_drawn_22 rfl rfl ?_
      refine z_iload_n X (q := 3) dX8_drawn_23 rfl rfl ?_
      refine z_callV X hK (As := [vI a1, vI a2, vI a3]) (ci := 8) rfl (by decide) (fun o => (kX8_hadDrawn l Z  b x o _ _ _ _)) hk_X8_435 ⟨rfl, rfl⟩ hd_X8_hadDrawn ⟨Nat.le_of_ble_eq_true rfl, Nat.le_of_ble_eq_true rfl⟩ ⟨Nat.le_of_ble_eq_true rfl, Nat.le_of_ble_eq_true rfl⟩ rfl rfl (Nat.le_of_ble_eq_true rfl) dX8_drawn_24 (fun _ q3 _ => ?_)
      refine z_goto X (tgt := 32) dX8_drawn_27 (by decide) ?_
      subst hQ; exact z_iret X hlocks hr dX8_drawn_32
theorem zw_842 : Cond.constantLong RX8 118 (255) ∈ wsL_law := zr_27 _ (by decide +kernel)
theorem hc_X8_118 : Cond.constantLong RX8 118 (255) ∈ wsL_law := zw_842
theorem zw_843 : Cond.fieldLink RX8 20 "WellGivesOtherModel" "tape" "[I" ∈ wsL_law := zr_6 _ (by decide +kernel)
theorem hf_X8_20 : Cond.fieldLink RX8 20 "WellGivesOtherModel" "tape" "[I" ∈ wsL_law := zw_843
abbrev rmX8_feed : Room := { frames := 2, cells := 0, slots := 0, locals := 65 }
def fX8_feed (this : Nat) (a1 : Int32) (st : zS) : Option (Int32 × zS) :=
  (fX8_in (a1.toInt64) (0 : Int64) (255 : Int64) st).bind fun q1 => if q1.1 = 0 then (some ((-2 : Int32), q1.2)) else ((zok spM q1.2 (some this) 8).bind fun o2 => if (q1.2.2.1 o2 6) = (160 : Int32) then (some ((-4 : Int32), q1.2)) else ((zok spM q1.2 (some this) 8).bind fun o3 => (zok spM q1.2 (some this) 8).bind fun o4 => (zok spM q1.2 (q1.2.2.2.2 o3 5) 9).bind fun o5 => (zix spM o5 (q1.2.2.1 o4 6)).bind fun j6 => zlet (zp q1.2 o5 j6 a1) fun st7 => (zok spM st7 (some this) 8).bind fun o8 => (zok spM st7 (some this) 8).bind fun o9 => zlet (zp st7 o9 6 ((st7.2.1 o8 6) + (1 : Int32))) fun st10 => (zok spM st10 (some this) 8).bind fun o11 => some ((st10.2.1 o11 6), st10)))
set_option maxRecDepth 100000 in
set_option maxHeartbeats 4000000 in
theorem kX8_feed (l : Launch) (Z : zZ) (b : Nat) (x : Option Nat) (this : Nat) (a1 : Int32) (st : zS) : zC l Z spM b x yX8_feed (.code yX8_feed cX8_feed 2 (some .int)) (rmX8_feed) rI [vP (some this), vI a1] st (fX8_feed this a1 st) := by
  refine z_start (own := RX8) rfl (by decide +kernel) (Nat.le_of_ble_eq_true rfl) rfl (fun p e s m args below meth c res Q A X hK hr hlocks hQ => ?_)
  rw [fX8_feed]
  refine z_iload_n X (q := 1) dX8_feed_0 rfl rfl ?_
  refine z_i2l X dX8_feed_1 ?_
  refine z_lconst X (v := (0 : Int64)) dX8_feed_2 (by decide) ?_
  refine z_ldc2 X (v := (255 : Int64)) (hc_X8_118) dX8_feed_3 ?_
  refine z_callS X hK (As := [vL (a1.toInt64), vL (0 : Int64), vL (255 : Int64)]) (kX8_in l Z  b x _ _ _ _) hk_X8_77 ⟨rfl, rfl⟩ hd_X8_in.2 ⟨Nat.le_of_ble_eq_true rfl, Nat.le_of_ble_eq_true rfl⟩ ⟨Nat.le_of_ble_eq_true rfl, Nat.le_of_ble_eq_true rfl⟩ rfl rfl (Nat.le_of_ble_eq_true rfl) dX8_feed_6 (fun q1 => ?_)
  refine z_if_ne X (tgt := 15) dX8_feed_9 (by decide) (fun _ => ?_) (fun _ => ?_)
  · refine z_aload_n X (q := 0) dX8_feed_15 rfl rfl ?_
    refine z_geti X hK (N := 46) (ci := 8) (k := 6) rfl (by decide) inlX8 (by decide) hf_X8_120 rfl spM_X8 rfl dX8_feed_16 (fun o2 _ => ?_)
    refine z_sipush X (v := (160 : Int32)) dX8_feed_19 (by decide) ?_
    refine z_icmp_ne X (tgt := 28) dX8_feed_22 (by decide) (fun _ => ?_) (fun _ => ?_)
    · refine z_aload_n X (q := 0) dX8_feed_28 rfl rfl ?_
      refine z_getr X hK (N := 46) (ci := 8) (k := 5) rfl (by decide) inlX8 (by decide) hf_X8_20 rfl spM_X8 rfl dX8_feed_29 (fun o3 _ => ?_)
      refine z_aload_n X (q := 0) dX8_feed_32 rfl rfl ?_
      refine z_geti X hK (N := 46) (ci := 8) (k := 6) rfl (by decide) inlX8 (by decide) hf_X8_120 rfl spM_X8 rfl dX8_feed_33 (fun o4 _ => ?_)
      refine z_iload_n X (q := 1) dX8_feed_36 rfl rfl ?_
      refine z_iast X hK dX8_feed_37 (fun o5 j6 st7 _ _ => ?_)
      refine z_aload_n X (q := 0) dX8_feed_38 rfl rfl ?_
      refine z_dup X dX8_feed_39 rfl ?_
      refine z_geti X hK (N := 46) (ci := 8) (k := 6) rfl (by decide) inlX8 (by decide) hf_X8_120 rfl spM_X8 rfl dX8_feed_40 (fun o8 _ => ?_)
      refine z_iconst X (v := (1 : Int32)) dX8_feed_43 (by decide) ?_
      refine z_iadd X dX8_feed_44 ?_
      refine z_puti X hK (N := 46) (ci := 8) (k := 6) rfl (by decide) inlX8 tyX8 tyX8_ok nmX8 (by decide) hf_X8_120 rfl rfl spM_X8 rfl (by decide +kernel) dX8_feed_45 (fun o9 st10 _ => ?_)
      refine z_aload_n X (q := 0) dX8_feed_48 rfl rfl ?_
      refine z_geti X hK (N := 46) (ci := 8) (k := 6) rfl (by decide) inlX8 (by decide) hf_X8_120 rfl spM_X8 rfl dX8_feed_49 (fun o11 _ => ?_)
      subst hQ; exact z_iret X hlocks hr dX8_feed_52
    · refine z_bipush X (v := (-4 : Int32)) dX8_feed_25 (by decide) ?_
      subst hQ; exact z_iret X hlocks hr dX8_feed_27
  · refine z_bipush X (v := (-2 : Int32)) dX8_feed_12 (by decide) ?_
    subst hQ; exact z_iret X hlocks hr dX8_feed_14
theorem zw_844 : Cond.constantLong RX8 446 (-1) ∈ wsL_law := zr_46 _ (by decide +kernel)
theorem hc_X8_446 : Cond.constantLong RX8 446 (-1) ∈ wsL_law := zw_844
abbrev rmX8_sheet : Room := { frames := 3, cells := 0, slots := 0, locals := 85 }
def fX8_sheet_L77 (this : Nat) : Nat → Int32 → Int32 → Int32 → Int32 → zS → Option (Int32 × zS)
  | 0, _, _, _, _, _ => none
  | n + 1, y1, y2, y3, y4, st => if y3 ≤ y4 then (some ((1 : Int32), st)) else (if y2 < 0 then (some ((1 : Int32), st)) else ((zok spM st (some this) 8).bind fun o1 => (zok spM st (st.2.2.2 o1 45) 9).bind fun o2 => (zix spM o2 (((40 : Int32) * y1) + y4)).bind fun j3 => zlet (zp st o2 j3 (0 : Int32)) fun st4 => (fX8_sheet_L77 this n) y1 y2 y3 (y4 + (1 : Int32)) st4))
def fX8_sheet_j59 (this : Nat) (y1 : Int32) (y2 : Int32) (y3 : Int32) (s0 : Option Nat) (s1 : Int32) (s2 : Int32) (st : zS) : Option (Int32 × zS) :=
  (zok spM st s0 10).bind fun o5 => (zix spM o5 s1).bind fun j6 => zlet (zp st o5 j6 (vp_nar .boolean s2)) fun st7 => (zok spM st7 (some this) 8).bind fun o8 => (zok spM st7 (st7.2.2.2 o8 43) 9).bind fun o9 => (zix spM o9 y1).bind fun j10 => zlet (zp st7 o9 j10 y2) fun st11 => (zok spM st11 (some this) 8).bind fun o12 => (zok spM st11 (st11.2.2.2 o12 44) 9).bind fun o13 => (zix spM o13 y1).bind fun j14 => zlet (zp st11 o13 j14 y3) fun st15 => fX8_sheet_L77 this zF y1 y2 y3 (0 : Int32) st15
def fX8_sheet_j45 (this : Nat) (y1 : Int32) (y2 : Int32) (y3 : Int32) (st : zS) : Option (Int32 × zS) :=
  (zok spM st (some this) 8).bind fun o16 => if y2 < 0 then (fX8_sheet_j59 this y1 y2 y3 (st.2.2.2 o16 42) y1 (0 : Int32) st) else (fX8_sheet_j59 this y1 y2 y3 (st.2.2.2 o16 42) y1 (1 : Int32) st)
def fX8_sheet_j34 (this : Nat) (y1 : Int32) (y2 : Int32) (y3 : Int32) (st : zS) : Option (Int32 × zS) :=
  if y2 < 0 then (fX8_sheet_j45 this y1 y2 y3 st) else (if 0 ≤ y3 then (fX8_sheet_j45 this y1 y2 y3 st) else (some ((-14 : Int32), st)))
def fX8_sheet (this : Nat) (a1 : Int32) (a2 : Int32) (a3 : Int32) (st : zS) : Option (Int32 × zS) :=
  (fX8_isSheet a1 st).bind fun q17 => if q17.1 = 0 then (some ((-2 : Int32), q17.2)) else ((fX8_in (a2.toInt64) (-1 : Int64) (2 : Int64) q17.2).bind fun q18 => if q18.1 = 0 then (some ((-2 : Int32), q18.2)) else (if a2 < 0 then (fX8_sheet_j34 this a1 a2 a3 q18.2) else (if a3 ≤ (40 : Int32) then (fX8_sheet_j34 this a1 a2 a3 q18.2) else (some ((-2 : Int32), q18.2)))))
set_option maxRecDepth 100000 in
set_option maxHeartbeats 4000000 in
theorem kX8_sheet (l : Launch) (Z : zZ) (b : Nat) (x : Option Nat) (this : Nat) (a1 : Int32) (a2 : Int32) (a3 : Int32) (st : zS) : zC l Z spM b x yX8_sheet (.code yX8_sheet cX8_sheet 5 (some .int)) (rmX8_sheet) rI [vP (some this), vI a1, vI a2, vI a3] st (fX8_sheet this a1 a2 a3 st) := by
  refine z_start (own := RX8) rfl (by decide +kernel) (Nat.le_of_ble_eq_true rfl) rfl (fun p e s m args below meth c res Q A X hK hr hlocks hQ => ?_)
  have J77 : ∀ (n77 : Nat) (y1 : Int32) (y2 : Int32) (y3 : Int32) (y4 : Int32) (st : zS), zs p l e (rmX8_sheet) s m args below meth c Q Z spM b x A 5 0 0 res (fX8_sheet_L77 this n77 y1 y2 y3 y4 st) 77 [(0, vP (some this)), (1, vI y1), (2, vI y2), (3, vI y3), (4, vI y4)] [] st := by
    intro n77
    induction n77 with
    | zero => intros; exact z_none
    | succ n77 ih77 =>
      intro y1 y2 y3 y4 st
      rw [fX8_sheet_L77]
      refine z_iload X (q := 4) dX8_sheet_77 rfl ?_
      refine z_iload_n X (q := 3) dX8_sheet_79 rfl rfl ?_
      refine z_icmp_ge X (tgt := 106) dX8_sheet_80 (by decide) (fun _ => ?_) (fun _ => ?_)
      · refine z_iconst X (v := (1 : Int32)) dX8_sheet_106 (by decide) ?_
        subst hQ; exact z_iret X hlocks hr dX8_sheet_107
      · refine z_iload_n X (q := 2) dX8_sheet_83 rfl rfl ?_
        refine z_if_lt X (tgt := 106) dX8_sheet_84 (by decide) (fun _ => ?_) (fun _ => ?_)
        · refine z_iconst X (v := (1 : Int32)) dX8_sheet_106 (by decide) ?_
          subst hQ; exact z_iret X hlocks hr dX8_sheet_107
        · refine z_aload_n X (q := 0) dX8_sheet_87 rfl rfl ?_
          refine z_getr X hK (N := 46) (ci := 8) (k := 45) rfl (by decide) inlX8 (by decide) hf_X8_60 rfl spM_X8 rfl dX8_sheet_88 (fun o1 _ => ?_)
          refine z_bipush X (v := (40 : Int32)) dX8_sheet_91 (by decide) ?_
          refine z_iload_n X (q := 1) dX8_sheet_93 rfl rfl ?_
          refine z_imul X dX8_sheet_94 ?_
          refine z_iload X (q := 4) dX8_sheet_95 rfl ?_
          refine z_iadd X dX8_sheet_97 ?_
          refine z_iconst X (v := (0 : Int32)) dX8_sheet_98 (by decide) ?_
          refine z_iast X hK dX8_sheet_99 (fun o2 j3 st4 _ _ => ?_)
          refine z_iinc X (q := 4) (y := y4 + (1 : Int32)) dX8_sheet_100 rfl rfl (Nat.le_of_ble_eq_true rfl) rfl ?_
          refine z_goto X (tgt := 77) dX8_sheet_103 (by decide) ?_
          exact z_sub [1, 2, 3, 4, 0] (ih77 _ _ _ _ _) rfl
  have J59 : ∀ (y1 : Int32) (y2 : Int32) (y3 : Int32) (s0 : Option Nat) (s1 : Int32) (s2 : Int32) (st : zS), zs p l e (rmX8_sheet) s m args below meth c Q Z spM b x A 5 0 0 res (fX8_sheet_j59 this y1 y2 y3 s0 s1 s2 st) 59 [(0, vP (some this)), (1, vI y1), (2, vI y2), (3, vI y3)] [vI s2, vI s1, vP s0] st := by
    intro y1 y2 y3 s0 s1 s2 st
    rw [fX8_sheet_j59]
    refine z_zast X hK dX8_sheet_59 (fun o5 j6 st7 _ _ => ?_)
    refine z_aload_n X (q := 0) dX8_sheet_60 rfl rfl ?_
    refine z_getr X hK (N := 46) (ci := 8) (k := 43) rfl (by decide) inlX8 (by decide) hf_X8_54 rfl spM_X8 rfl dX8_sheet_61 (fun o8 _ => ?_)
    refine z_iload_n X (q := 1) dX8_sheet_64 rfl rfl ?_
    refine z_iload_n X (q := 2) dX8_sheet_65 rfl rfl ?_
    refine z_iast X hK dX8_sheet_66 (fun o9 j10 st11 _ _ => ?_)
    refine z_aload_n X (q := 0) dX8_sheet_67 rfl rfl ?_
    refine z_getr X hK (N := 46) (ci := 8) (k := 44) rfl (by decide) inlX8 (by decide) hf_X8_57 rfl spM_X8 rfl dX8_sheet_68 (fun o12 _ => ?_)
    refine z_iload_n X (q := 1) dX8_sheet_71 rfl rfl ?_
    refine z_iload_n X (q := 3) dX8_sheet_72 rfl rfl ?_
    refine z_iast X hK dX8_sheet_73 (fun o13 j14 st15 _ _ => ?_)
    refine z_iconst X (v := (0 : Int32)) dX8_sheet_74 (by decide) ?_
    refine z_istore X dX8_sheet_75 (Nat.le_of_ble_eq_true rfl) rfl ?_
    exact z_sub [1, 2, 3, 4, 0] (J77 _ _ _ _ _ _) rfl
  have J45 : ∀ (y1 : Int32) (y2 : Int32) (y3 : Int32) (st : zS), zs p l e (rmX8_sheet) s m args below meth c Q Z spM b x A 5 0 0 res (fX8_sheet_j45 this y1 y2 y3 st) 45 [(0, vP (some this)), (1, vI y1), (2, vI y2), (3, vI y3)] [] st := by
    intro y1 y2 y3 st
    rw [fX8_sheet_j45]
    refine z_aload_n X (q := 0) dX8_sheet_45 rfl rfl ?_
    refine z_getr X hK (N := 46) (ci := 8) (k := 42) rfl (by decide) inlX8 (by decide) hf_X8_50 rfl spM_X8 rfl dX8_sheet_46 (fun o16 _ => ?_)
    refine z_iload_n X (q := 1) dX8_sheet_49 rfl rfl ?_
    refine z_iload_n X (q := 2) dX8_sheet_50 rfl rfl ?_
    refine z_if_lt X (tgt := 58) dX8_sheet_51 (by decide) (fun _ => ?_) (fun _ => ?_)
    · refine z_iconst X (v := (0 : Int32)) dX8_sheet_58 (by decide) ?_
      exact z_sub [0, 1, 2, 3] (J59 _ _ _ _ _ _ _) rfl
    · refine z_iconst X (v := (1 : Int32)) dX8_sheet_54 (by decide) ?_
      refine z_goto X (tgt := 59) dX8_sheet_55 (by decide) ?_
      exact z_sub [0, 1, 2, 3] (J59 _ _ _ _ _ _ _) rfl
  have J34 : ∀ (y1 : Int32) (y2 : Int32) (y3 : Int32) (st : zS), zs p l e (rmX8_sheet) s m args below meth c Q Z spM b x A 5 0 0 res (fX8_sheet_j34 this y1 y2 y3 st) 34 [(0, vP (some this)), (1, vI y1), (2, vI y2), (3, vI y3)] [] st := by
    intro y1 y2 y3 st
    rw [fX8_sheet_j34]
    refine z_iload_n X (q := 2) dX8_sheet_34 rfl rfl ?_
    refine z_if_lt X (tgt := 45) dX8_sheet_35 (by decide) (fun _ => ?_) (fun _ => ?_)
    · exact z_sub [0, 1, 2, 3] (J45 _ _ _ _) rfl
    · refine z_iload_n X (q := 3) dX8_sheet_38 rfl rfl ?_
      refine z_if_ge X (tgt := 45) dX8_sheet_39 (by decide) (fun _ => ?_) (fun _ => ?_)
      · exact z_sub [0, 1, 2, 3] (J45 _ _ _ _) rfl
      · refine z_bipush X (v := (-14 : Int32)) dX8_sheet_42 (by decide) ?_
        subst hQ; exact z_iret X hlocks hr dX8_sheet_44
  rw [fX8_sheet]
  refine z_iload_n X (q := 1) dX8_sheet_0 rfl rfl ?_
  refine z_callS X hK (As := [vI a1]) (kX8_isSheet l Z  b x _ _) hk_X8_390 ⟨rfl, rfl⟩ hd_X8_isSheet.2 ⟨Nat.le_of_ble_eq_true rfl, Nat.le_of_ble_eq_true rfl⟩ ⟨Nat.le_of_ble_eq_true rfl, Nat.le_of_ble_eq_true rfl⟩ rfl rfl (Nat.le_of_ble_eq_true rfl) dX8_sheet_1 (fun q17 => ?_)
  refine z_if_eq X (tgt := 31) dX8_sheet_4 (by decide) (fun _ => ?_) (fun _ => ?_)
  · refine z_bipush X (v := (-2 : Int32)) dX8_sheet_31 (by decide) ?_
    subst hQ; exact z_iret X hlocks hr dX8_sheet_33
  · refine z_iload_n X (q := 2) dX8_sheet_7 rfl rfl ?_
    refine z_i2l X dX8_sheet_8 ?_
    refine z_ldc2 X (v := (-1 : Int64)) (hc_X8_446) dX8_sheet_9 ?_
    refine z_ldc2 X (v := (2 : Int64)) (hc_X8_448) dX8_sheet_12 ?_
    refine z_callS X hK (As := [vL (a2.toInt64), vL (-1 : Int64), vL (2 : Int64)]) (kX8_in l Z  b x _ _ _ _) hk_X8_77 ⟨rfl, rfl⟩ hd_X8_in.2 ⟨Nat.le_of_ble_eq_true rfl, Nat.le_of_ble_eq_true rfl⟩ ⟨Nat.le_of_ble_eq_true rfl, Nat.le_of_ble_eq_true rfl⟩ rfl rfl (Nat.le_of_ble_eq_true rfl) dX8_sheet_15 (fun q18 => ?_)
    refine z_if_eq X (tgt := 31) dX8_sheet_18 (by decide) (fun _ => ?_) (fun _ => ?_)
    · refine z_bipush X (v := (-2 : Int32)) dX8_sheet_31 (by decide) ?_
      subst hQ; exact z_iret X hlocks hr dX8_sheet_33
    · refine z_iload_n X (q := 2) dX8_sheet_21 rfl rfl ?_
      refine z_if_lt X (tgt := 34) dX8_sheet_22 (by decide) (fun _ => ?_) (fun _ => ?_)
      · exact z_sub [0, 1, 2, 3] (J34 _ _ _ _) rfl
      · refine z_iload_n X (q := 3) dX8_sheet_25 rfl rfl ?_
        refine z_bipush X (v := (40 : Int32)) dX8_sheet_26 (by decide) ?_
        refine z_icmp_le X (tgt := 34) dX8_sheet_28 (by decide) (fun _ => ?_) (fun _ => ?_)
        · exact z_sub [0, 1, 2, 3] (J34 _ _ _ _) rfl
        · refine z_bipush X (v := (-2 : Int32)) dX8_sheet_31 (by decide) ?_
          subst hQ; exact z_iret X hlocks hr dX8_sheet_33
theorem zw_845 : Cond.methodLink RX8 429 yX8_sheet ∈ wsL_law := zr_46 _ (by decide +kernel)
theorem zw_846 : Cond.instanceMethod yX8_sheet ∈ wsL_law := zr_46 _ (by decide +kernel)
theorem zw_847 : Cond.selects RX8 yX8_sheet yX8_sheet ∈ wsL_law := zr_46 _ (by decide +kernel)
theorem zw_848 : Cond.code yX8_sheet cX8_sheet 5 (some .int) ∈ wsL_law := zr_46 _ (by decide +kernel)
theorem hk_X8_429 : ∀ w ∈ ([Cond.methodLink RX8 429 yX8_sheet, Cond.instanceMethod yX8_sheet, Cond.selects RX8 yX8_sheet yX8_sheet, Cond.initialized RX8, Cond.code yX8_sheet cX8_sheet 5 (some .int)] : List Cond), w ∈ wsL_law := List.forall_mem_cons.mpr ⟨zw_845, List.forall_mem_cons.mpr ⟨zw_846, List.forall_mem_cons.mpr ⟨zw_847, List.forall_mem_cons.mpr ⟨zw_525, List.forall_mem_cons.mpr ⟨zw_848, fun _ h => absurd h List.not_mem_nil⟩⟩⟩⟩⟩
theorem hd_X8_sheet : yX8_sheet.cls = RX8 ∧ yX8_sheet.cls ≠ "java/lang/invoke/MethodHandle" ∧ yX8_sheet.cls ≠ "java/lang/invoke/VarHandle" ∧ (parseMethodDescriptor yX8_sheet.desc).map (fun d => d.parameters.length) = some 3 := by decide +kernel
abbrev rmX8_film : Room := { frames := 45, cells := 0, slots := 0, locals := 1024 }
def fX8_film_j76 (this : Nat) (k32 : Int32 → Int32 → Int32 → Int32 → zS → Option (Int32 × zS)) (y1 : Int32) (y2 : Int32) (y4 : Int32) (s0 : Int32) (s1 : Int32) (st : zS) : Option (Int32 × zS) :=
  zlet ((s0 + s1)) fun v1 => k32 y1 y2 v1 (y4 + (1 : Int32)) st
def fX8_film_L32 (this : Nat) : Nat → Int32 → Int32 → Int32 → Int32 → zS → Option (Int32 × zS)
  | 0, _, _, _, _, _ => none
  | n + 1, y1, y2, y3, y4, st => if (12 : Int32) ≤ y4 then (some (y3, st)) else ((zok spM st (some this) 8).bind fun o8 => (fX8_given o8 y2 ((1 : Int32) <<< (y4 &&& 31)) st).bind fun q2 => zlet (q2.1) fun v3 => (zok spM q2.2 (some this) 8).bind fun o4 => (zok spM q2.2 (q2.2.2.2.2 o4 45) 9).bind fun o5 => (zix spM o5 (((40 : Int32) * y1) + y4)).bind fun j6 => zlet (zp q2.2 o5 j6 v3) fun st7 => if v3 = (-1 : Int32) then (fX8_film_j76 this (fX8_film_L32 this n) y1 y2 y4 y3 (0 : Int32) st7) else (fX8_film_j76 this (fX8_film_L32 this n) y1 y2 y4 y3 (1 : Int32) st7))
def fX8_film (this : Nat) (a1 : Int32) (a2 : Int32) (st : zS) : Option (Int32 × zS) :=
  (fX8_isSheet a1 st).bind fun q9 => if q9.1 = 0 then (some ((-2 : Int32), q9.2)) else ((zok spM q9.2 (some this) 8).bind fun o13 => (fX8_isOne o13 a2 q9.2).bind fun q10 => if q10.1 = 0 then (some ((-2 : Int32), q10.2)) else ((zok spM q10.2 (some this) 8).bind fun o12 => (fX8_sheet o12 a1 (0 : Int32) (12 : Int32) q10.2).bind fun q11 => fX8_film_L32 this zF a1 a2 (0 : Int32) (0 : Int32) q11.2))
set_option maxRecDepth 100000 in
set_option maxHeartbeats 4000000 in
theorem kX8_film (l : Launch) (Z : zZ) (b : Nat) (x : Option Nat) (this : Nat) (a1 : Int32) (a2 : Int32) (st : zS) : zC l Z spM b x yX8_film (.code yX8_film cX8_film 6 (some .int)) (rmX8_film) rI [vP (some this), vI a1, vI a2] st (fX8_film this a1 a2 st) := by
  refine z_start (own := RX8) rfl (by decide +kernel) (Nat.le_of_ble_eq_true rfl) rfl (fun p e s m args below meth c res Q A X hK hr hlocks hQ => ?_)
  have J32 : ∀ (n32 : Nat) (y1 : Int32) (y2 : Int32) (y3 : Int32) (y4 : Int32) (st : zS), zs p l e (rmX8_film) s m args below meth c Q Z spM b x A 6 0 0 res (fX8_film_L32 this n32 y1 y2 y3 y4 st) 32 [(0, vP (some this)), (1, vI y1), (2, vI y2), (3, vI y3), (4, vI y4)] [] st := by
    intro n32
    induction n32 with
    | zero => intros; exact z_none
    | succ n32 ih32 =>
      have J76 : ∀ (y1 : Int32) (y2 : Int32) (y4 : Int32) (s0 : Int32) (s1 : Int32) (st : zS), zs p l e (rmX8_film) s m args below meth c Q Z spM b x A 6 0 0 res (fX8_film_j76 this (fX8_film_L32 this n32) y1 y2 y4 s0 s1 st) 76 [(0, vP (some this)), (1, vI y1), (2, vI y2), (4, vI y4)] [vI s1, vI s0] st := by
        intro y1 y2 y4 s0 s1 st
        rw [fX8_film_j76]
        refine z_iadd X dX8_film_76 ?_
        refine z_name (fun v1 => ?_)
        refine z_istore_n X dX8_film_77 rfl (Nat.le_of_ble_eq_true rfl) rfl ?_
        refine z_iinc X (q := 4) (y := y4 + (1 : Int32)) dX8_film_78 rfl rfl (Nat.le_of_ble_eq_true rfl) rfl ?_
        refine z_goto X (tgt := 32) dX8_film_81 (by decide) ?_
        exact z_sub [2, 3, 4, 1, 0] (ih32 _ _ _ _ _) rfl
      intro y1 y2 y3 y4 st
      rw [fX8_film_L32]
      refine z_iload X (q := 4) dX8_film_32 rfl ?_
      refine z_bipush X (v := (12 : Int32)) dX8_film_34 (by decide) ?_
      refine z_icmp_ge X (tgt := 84) dX8_film_36 (by decide) (fun _ => ?_) (fun _ => ?_)
      · refine z_iload_n X (q := 3) dX8_film_84 rfl rfl ?_
        subst hQ; exact z_iret X hlocks hr dX8_film_85
      · refine z_aload_n X (q := 0) dX8_film_39 rfl rfl ?_
        refine z_iload_n X (q := 2) dX8_film_40 rfl rfl ?_
        refine z_iconst X (v := (1 : Int32)) dX8_film_41 (by decide) ?_
        refine z_iload X (q := 4) dX8_film_42 rfl ?_
        refine z_ishl X dX8_film_44 ?_
        refine z_callV X hK (As := [vI y2, vI ((1 : Int32) <<< (y4 &&& 31))]) (ci := 8) rfl (by decide) (fun o => (kX8_given l Z  b x o _ _ _)) hk_X8_354 ⟨rfl, rfl⟩ hd_X8_given ⟨Nat.le_of_ble_eq_true rfl, Nat.le_of_ble_eq_true rfl⟩ ⟨Nat.le_of_ble_eq_true rfl, Nat.le_of_ble_eq_true rfl⟩ rfl rfl (Nat.le_of_ble_eq_true rfl) dX8_film_45 (fun _ q2 _ => ?_)
        refine z_name (fun v3 => ?_)
        refine z_istore X dX8_film_48 (Nat.le_of_ble_eq_true rfl) rfl ?_
        refine z_aload_n X (q := 1) dX8_film_50 rfl rfl ?_
        refine z_getr X hK (N := 46) (ci := 8) (k := 45) rfl (by decide) inlX8 (by decide) hf_X8_60 rfl spM_X8 rfl dX8_film_51 (fun o4 _ => ?_)
        refine z_bipush X (v := (40 : Int32)) dX8_film_54 (by decide) ?_
        refine z_iload_n X (q := 2) dX8_film_56 rfl rfl ?_
        refine z_imul X dX8_film_57 ?_
        refine z_iload X (q := 5) dX8_film_58 rfl ?_
        refine z_iadd X dX8_film_60 ?_
        refine z_iload X (q := 0) dX8_film_61 rfl ?_
        refine z_iast X hK dX8_film_63 (fun o5 j6 st7 _ _ => ?_)
        refine z_iload_n X (q := 4) dX8_film_64 rfl rfl ?_
        refine z_iload X (q := 0) dX8_film_65 rfl ?_
        refine z_iconst X (v := (-1 : Int32)) dX8_film_67 (by decide) ?_
        refine z_icmp_ne X (tgt := 75) dX8_film_68 (by decide) (fun _ => ?_) (fun _ => ?_)
        · refine z_iconst X (v := (1 : Int32)) dX8_film_75 (by decide) ?_
          exact z_sub [1, 2, 3, 5] (J76 _ _ _ _ _ _) rfl
        · refine z_iconst X (v := (0 : Int32)) dX8_film_71 (by decide) ?_
          refine z_goto X (tgt := 76) dX8_film_72 (by decide) ?_
          exact z_sub [1, 2, 3, 5] (J76 _ _ _ _ _ _) rfl
  rw [fX8_film]
  refine z_iload_n X (q := 1) dX8_film_0 rfl rfl ?_
  refine z_callS X hK (As := [vI a1]) (kX8_isSheet l Z  b x _ _) hk_X8_390 ⟨rfl, rfl⟩ hd_X8_isSheet.2 ⟨Nat.le_of_ble_eq_true rfl, Nat.le_of_ble_eq_true rfl⟩ ⟨Nat.le_of_ble_eq_true rfl, Nat.le_of_ble_eq_true rfl⟩ rfl rfl (Nat.le_of_ble_eq_true rfl) dX8_film_1 (fun q9 => ?_)
  refine z_if_eq X (tgt := 15) dX8_film_4 (by decide) (fun _ => ?_) (fun _ => ?_)
  · refine z_bipush X (v := (-2 : Int32)) dX8_film_15 (by decide) ?_
    subst hQ; exact z_iret X hlocks hr dX8_film_17
  · refine z_aload_n X (q := 0) dX8_film_7 rfl rfl ?_
    refine z_iload_n X (q := 2) dX8_film_8 rfl rfl ?_
    refine z_callV X hK (As := [vI a2]) (ci := 8) rfl (by decide) (fun o => (kX8_isOne l Z  b x o _ _)) hk_X8_89 ⟨rfl, rfl⟩ hd_X8_isOne ⟨Nat.le_of_ble_eq_true rfl, Nat.le_of_ble_eq_true rfl⟩ ⟨Nat.le_of_ble_eq_true rfl, Nat.le_of_ble_eq_true rfl⟩ rfl rfl (Nat.le_of_ble_eq_true rfl) dX8_film_9 (fun _ q10 _ => ?_)
    refine z_if_ne X (tgt := 18) dX8_film_12 (by decide) (fun _ => ?_) (fun _ => ?_)
    · refine z_aload_n X (q := 0) dX8_film_18 rfl rfl ?_
      refine z_iload_n X (q := 1) dX8_film_19 rfl rfl ?_
      refine z_iconst X (v := (0 : Int32)) dX8_film_20 (by decide) ?_
      refine z_bipush X (v := (12 : Int32)) dX8_film_21 (by decide) ?_
      refine z_callV X hK (As := [vI a1, vI (0 : Int32), vI (12 : Int32)]) (ci := 8) rfl (by decide) (fun o => (kX8_sheet l Z  b x o _ _ _ _)) hk_X8_429 ⟨rfl, rfl⟩ hd_X8_sheet ⟨Nat.le_of_ble_eq_true rfl, Nat.le_of_ble_eq_true rfl⟩ ⟨Nat.le_of_ble_eq_true rfl, Nat.le_of_ble_eq_true rfl⟩ rfl rfl (Nat.le_of_ble_eq_true rfl) dX8_film_23 (fun _ q11 _ => ?_)
      refine z_pop X dX8_film_26 rfl ?_
      refine z_iconst X (v := (0 : Int32)) dX8_film_27 (by decide) ?_
      refine z_istore_n X dX8_film_28 rfl (Nat.le_of_ble_eq_true rfl) rfl ?_
      refine z_iconst X (v := (0 : Int32)) dX8_film_29 (by decide) ?_
      refine z_istore X dX8_film_30 (Nat.le_of_ble_eq_true rfl) rfl ?_
      exact z_sub [2, 3, 4, 1, 0] (J32 _ _ _ _ _ _) rfl
    · refine z_bipush X (v := (-2 : Int32)) dX8_film_15 (by decide) ?_
      subst hQ; exact z_iret X hlocks hr dX8_film_17
abbrev rmX8_firstOther : Room := { frames := 45, cells := 0, slots := 0, locals := 1024 }
def fX8_firstOther_L2 (this : Nat) : Nat → Int32 → Int32 → Int32 → zS → Option (Int32 × zS)
  | 0, _, _, _, _ => none
  | n + 1, y1, y2, y3, st => (zok spM st (some this) 8).bind fun o1 => (zok spM st (st.2.2.2 o1 44) 9).bind fun o2 => (zix spM o2 y1).bind fun j3 => if (st.2.1 o2 j3) ≤ y3 then (some ((-1 : Int32), st)) else ((zok spM st (some this) 8).bind fun o8 => (fX8_given o8 y2 ((1 : Int32) <<< (y3 &&& 31)) st).bind fun q4 => (zok spM q4.2 (some this) 8).bind fun o5 => (zok spM q4.2 (q4.2.2.2.2 o5 45) 9).bind fun o6 => (zix spM o6 (((40 : Int32) * y1) + y3)).bind fun j7 => if q4.1 = (q4.2.2.1 o6 j7) then ((fX8_firstOther_L2 this n) y1 y2 (y3 + (1 : Int32)) q4.2) else (some (y3, q4.2)))
def fX8_firstOther (this : Nat) (a1 : Int32) (a2 : Int32) (st : zS) : Option (Int32 × zS) :=
  fX8_firstOther_L2 this zF a1 a2 (0 : Int32) st
set_option maxRecDepth 100000 in
set_option maxHeartbeats 4000000 in
theorem kX8_firstOther (l : Launch) (Z : zZ) (b : Nat) (x : Option Nat) (this : Nat) (a1 : Int32) (a2 : Int32) (st : zS) : zC l Z spM b x yX8_firstOther (.code yX8_firstOther cX8_firstOther 4 (some .int)) (rmX8_firstOther) rI [vP (some this), vI a1, vI a2] st (fX8_firstOther this a1 a2 st) := by
  refine z_start (own := RX8) rfl (by decide +kernel) (Nat.le_of_ble_eq_true rfl) rfl (fun p e s m args below meth c res Q A X hK hr hlocks hQ => ?_)
  have J2 : ∀ (n2 : Nat) (y1 : Int32) (y2 : Int32) (y3 : Int32) (st : zS), zs p l e (rmX8_firstOther) s m args below meth c Q Z spM b x A 4 0 0 res (fX8_firstOther_L2 this n2 y1 y2 y3 st) 2 [(0, vP (some this)), (1, vI y1), (2, vI y2), (3, vI y3)] [] st := by
    intro n2
    induction n2 with
    | zero => intros; exact z_none
    | succ n2 ih2 =>
      intro y1 y2 y3 st
      rw [fX8_firstOther_L2]
      refine z_iload_n X (q := 3) dX8_firstOther_2 rfl rfl ?_
      refine z_aload_n X (q := 0) dX8_firstOther_3 rfl rfl ?_
      refine z_getr X hK (N := 46) (ci := 8) (k := 44) rfl (by decide) inlX8 (by decide) hf_X8_57 rfl spM_X8 rfl dX8_firstOther_4 (fun o1 _ => ?_)
      refine z_iload_n X (q := 1) dX8_firstOther_7 rfl rfl ?_
      refine z_iald X hK dX8_firstOther_8 (fun o2 j3 _ _ => ?_)
      refine z_icmp_ge X (tgt := 42) dX8_firstOther_9 (by decide) (fun _ => ?_) (fun _ => ?_)
      · refine z_iconst X (v := (-1 : Int32)) dX8_firstOther_42 (by decide) ?_
        subst hQ; exact z_iret X hlocks hr dX8_firstOther_43
      · refine z_aload_n X (q := 0) dX8_firstOther_12 rfl rfl ?_
        refine z_iload_n X (q := 2) dX8_firstOther_13 rfl rfl ?_
        refine z_iconst X (v := (1 : Int32)) dX8_firstOther_14 (by decide) ?_
        refine z_iload_n X (q := 3) dX8_firstOther_15 rfl rfl ?_
        refine z_ishl X dX8_firstOther_16 ?_
        refine z_callV X hK (As := [vI y2, vI ((1 : Int32) <<< (y3 &&& 31))]) (ci := 8) rfl (by decide) (fun o => (kX8_given l Z  b x o _ _ _)) hk_X8_354 ⟨rfl, rfl⟩ hd_X8_given ⟨Nat.le_of_ble_eq_true rfl, Nat.le_of_ble_eq_true rfl⟩ ⟨Nat.le_of_ble_eq_true rfl, Nat.le_of_ble_eq_true rfl⟩ rfl rfl (Nat.le_of_ble_eq_true rfl) dX8_firstOther_17 (fun _ q4 _ => ?_)
        refine z_aload_n X (q := 0) dX8_firstOther_20 rfl rfl ?_
        refine z_getr X hK (N := 46) (ci := 8) (k := 45) rfl (by decide) inlX8 (by decide) hf_X8_60 rfl spM_X8 rfl dX8_firstOther_21 (fun o5 _ => ?_)
        refine z_bipush X (v := (40 : Int32)) dX8_firstOther_24 (by decide) ?_
        refine z_iload_n X (q := 1) dX8_firstOther_26 rfl rfl ?_
        refine z_imul X dX8_firstOther_27 ?_
        refine z_iload_n X (q := 3) dX8_firstOther_28 rfl rfl ?_
        refine z_iadd X dX8_firstOther_29 ?_
        refine z_iald X hK dX8_firstOther_30 (fun o6 j7 _ _ => ?_)
        refine z_icmp_eq X (tgt := 36) dX8_firstOther_31 (by decide) (fun _ => ?_) (fun _ => ?_)
        · refine z_iinc X (q := 3) (y := y3 + (1 : Int32)) dX8_firstOther_36 rfl rfl (Nat.le_of_ble_eq_true rfl) rfl ?_
          refine z_goto X (tgt := 2) dX8_firstOther_39 (by decide) ?_
          exact z_sub [1, 2, 3, 0] (ih2 _ _ _ _) rfl
        · refine z_iload_n X (q := 3) dX8_firstOther_34 rfl rfl ?_
          subst hQ; exact z_iret X hlocks hr dX8_firstOther_35
  rw [fX8_firstOther]
  refine z_iconst X (v := (0 : Int32)) dX8_firstOther_0 (by decide) ?_
  refine z_istore_n X dX8_firstOther_1 rfl (Nat.le_of_ble_eq_true rfl) rfl ?_
  exact z_sub [1, 2, 3, 0] (J2 _ _ _ _ _) rfl
