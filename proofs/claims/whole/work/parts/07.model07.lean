abbrev rmX8_rows : Room := { frames := 47, cells := 0, slots := 0, locals := 1071 }
def fX8_rows (this : Nat) (a1 : Int32) (a2 : Int32) (st : zS) : Option (Int32 × zS) :=
  (fX8_isSheet a1 st).bind fun q1 => if q1.1 = 0 then (some ((-1000 : Int32), q1.2)) else ((zok spM q1.2 (some this) 8).bind fun o12 => (fX8_isOne o12 a2 q1.2).bind fun q2 => if q2.1 = 0 then (some ((-1000 : Int32), q2.2)) else ((zok spM q2.2 (some this) 8).bind fun o11 => (fX8_rowBad o11 a1 q2.2).bind fun q3 => zlet (q3.1) fun v4 => if v4 = 0 then ((zok spM q3.2 (some this) 8).bind fun o10 => (fX8_askAll o10 a1 a2 q3.2).bind fun q5 => (zok spM q5.2 (some this) 8).bind fun o6 => (zok spM q5.2 (q5.2.2.2.2 o6 44) 9).bind fun o7 => (zix spM o7 a1).bind fun j8 => (zok spM q5.2 (some this) 8).bind fun o9 => some (((q5.2.2.1 o7 j8) - (q5.2.2.1 o9 33)), q5.2)) else (some (v4, q3.2))))
set_option maxRecDepth 100000 in
set_option maxHeartbeats 4000000 in
theorem kX8_rows (l : Launch) (Z : zZ) (b : Nat) (x : Option Nat) (this : Nat) (a1 : Int32) (a2 : Int32) (st : zS) : zC l Z spM b x yX8_rows (.code yX8_rows cX8_rows 4 (some .int)) (rmX8_rows) rI [vP (some this), vI a1, vI a2] st (fX8_rows this a1 a2 st) := by
  refine z_start (own := RX8) rfl (by decide +kernel) (Nat.le_of_ble_eq_true rfl) rfl (fun p e s m args below meth c res Q A X hK hr hlocks hQ => ?_)
  rw [fX8_rows]
  refine z_iload_n X (q := 1) dX8_rows_0 rfl rfl ?_
  refine z_callS X hK (As := [vI a1]) (kX8_isSheet l Z  b x _ _) hk_X8_390 ⟨rfl, rfl⟩ hd_X8_isSheet.2 ⟨Nat.le_of_ble_eq_true rfl, Nat.le_of_ble_eq_true rfl⟩ ⟨Nat.le_of_ble_eq_true rfl, Nat.le_of_ble_eq_true rfl⟩ rfl rfl (Nat.le_of_ble_eq_true rfl) dX8_rows_1 (fun q1 => ?_)
  refine z_if_eq X (tgt := 15) dX8_rows_4 (by decide) (fun _ => ?_) (fun _ => ?_)
  · refine z_sipush X (v := (-1000 : Int32)) dX8_rows_15 (by decide) ?_
    subst hQ; exact z_iret X hlocks hr dX8_rows_18
  · refine z_aload_n X (q := 0) dX8_rows_7 rfl rfl ?_
    refine z_iload_n X (q := 2) dX8_rows_8 rfl rfl ?_
    refine z_callV X hK (As := [vI a2]) (ci := 8) rfl (by decide) (fun o => (kX8_isOne l Z  b x o _ _)) hk_X8_89 ⟨rfl, rfl⟩ hd_X8_isOne ⟨Nat.le_of_ble_eq_true rfl, Nat.le_of_ble_eq_true rfl⟩ ⟨Nat.le_of_ble_eq_true rfl, Nat.le_of_ble_eq_true rfl⟩ rfl rfl (Nat.le_of_ble_eq_true rfl) dX8_rows_9 (fun _ q2 _ => ?_)
    refine z_if_ne X (tgt := 19) dX8_rows_12 (by decide) (fun _ => ?_) (fun _ => ?_)
    · refine z_aload_n X (q := 0) dX8_rows_19 rfl rfl ?_
      refine z_iload_n X (q := 1) dX8_rows_20 rfl rfl ?_
      refine z_callV X hK (As := [vI a1]) (ci := 8) rfl (by decide) (fun o => (kX8_rowBad l Z  b x o _ _)) hk_X8_393 ⟨rfl, rfl⟩ hd_X8_rowBad ⟨Nat.le_of_ble_eq_true rfl, Nat.le_of_ble_eq_true rfl⟩ ⟨Nat.le_of_ble_eq_true rfl, Nat.le_of_ble_eq_true rfl⟩ rfl rfl (Nat.le_of_ble_eq_true rfl) dX8_rows_21 (fun _ q3 _ => ?_)
      refine z_name (fun v4 => ?_)
      refine z_istore_n X dX8_rows_24 rfl (Nat.le_of_ble_eq_true rfl) rfl ?_
      refine z_iload_n X (q := 0) dX8_rows_25 rfl rfl ?_
      refine z_if_eq X (tgt := 31) dX8_rows_26 (by decide) (fun _ => ?_) (fun _ => ?_)
      · refine z_aload_n X (q := 1) dX8_rows_31 rfl rfl ?_
        refine z_iload_n X (q := 2) dX8_rows_32 rfl rfl ?_
        refine z_iload_n X (q := 3) dX8_rows_33 rfl rfl ?_
        refine z_callV X hK (As := [vI a1, vI a2]) (ci := 8) rfl (by decide) (fun o => (kX8_askAll l Z  b x o _ _ _)) hk_X8_399 ⟨rfl, rfl⟩ hd_X8_askAll ⟨Nat.le_of_ble_eq_true rfl, Nat.le_of_ble_eq_true rfl⟩ ⟨Nat.le_of_ble_eq_true rfl, Nat.le_of_ble_eq_true rfl⟩ rfl rfl (Nat.le_of_ble_eq_true rfl) dX8_rows_34 (fun _ q5 _ => ?_)
        refine z_aload_n X (q := 1) dX8_rows_37 rfl rfl ?_
        refine z_getr X hK (N := 46) (ci := 8) (k := 44) rfl (by decide) inlX8 (by decide) hf_X8_57 rfl spM_X8 rfl dX8_rows_38 (fun o6 _ => ?_)
        refine z_iload_n X (q := 2) dX8_rows_41 rfl rfl ?_
        refine z_iald X hK dX8_rows_42 (fun o7 j8 _ _ => ?_)
        refine z_aload_n X (q := 1) dX8_rows_43 rfl rfl ?_
        refine z_geti X hK (N := 46) (ci := 8) (k := 33) rfl (by decide) inlX8 (by decide) hf_X8_381 rfl spM_X8 rfl dX8_rows_44 (fun o9 _ => ?_)
        refine z_isub X dX8_rows_47 ?_
        subst hQ; exact z_iret X hlocks hr dX8_rows_48
      · refine z_iload_n X (q := 0) dX8_rows_29 rfl rfl ?_
        subst hQ; exact z_iret X hlocks hr dX8_rows_30
    · refine z_sipush X (v := (-1000 : Int32)) dX8_rows_15 (by decide) ?_
      subst hQ; exact z_iret X hlocks hr dX8_rows_18
theorem zw_871 : Cond.methodLink RX8 115 yX8_neverOf ∈ wsL_law := zr_9 _ (by decide +kernel)
theorem zw_872 : Cond.instanceMethod yX8_neverOf ∈ wsL_law := zr_9 _ (by decide +kernel)
theorem zw_873 : Cond.selects RX8 yX8_neverOf yX8_neverOf ∈ wsL_law := zr_9 _ (by decide +kernel)
theorem zw_874 : Cond.code yX8_neverOf cX8_neverOf 5 (some .int) ∈ wsL_law := zr_9 _ (by decide +kernel)
theorem hk_X8_115 : ∀ w ∈ ([Cond.methodLink RX8 115 yX8_neverOf, Cond.instanceMethod yX8_neverOf, Cond.selects RX8 yX8_neverOf yX8_neverOf, Cond.initialized RX8, Cond.code yX8_neverOf cX8_neverOf 5 (some .int)] : List Cond), w ∈ wsL_law := List.forall_mem_cons.mpr ⟨zw_871, List.forall_mem_cons.mpr ⟨zw_872, List.forall_mem_cons.mpr ⟨zw_873, List.forall_mem_cons.mpr ⟨zw_525, List.forall_mem_cons.mpr ⟨zw_874, fun _ h => absurd h List.not_mem_nil⟩⟩⟩⟩⟩
theorem hd_X8_neverOf : yX8_neverOf.cls = RX8 ∧ yX8_neverOf.cls ≠ "java/lang/invoke/MethodHandle" ∧ yX8_neverOf.cls ≠ "java/lang/invoke/VarHandle" ∧ (parseMethodDescriptor yX8_neverOf.desc).map (fun d => d.parameters.length) = some 1 := by decide +kernel
theorem zw_875 : Cond.constantLong RX8 113 (7) ∈ wsL_law := zr_9 _ (by decide +kernel)
theorem hc_X8_113 : Cond.constantLong RX8 113 (7) ∈ wsL_law := zw_875
abbrev rmX8_told : Room := { frames := 46, cells := 0, slots := 0, locals := 1048 }
def fX8_told_j43 (this : Nat) (y1 : Int32) (y2 : Int32) (st : zS) : Option (Int32 × zS) :=
  if (6 : Int32) ≤ y2 then (if y2 = (6 : Int32) then ((zok spM st (some this) 8).bind fun o5 => (fX8_neverOf o5 y1 st).bind fun q4 => some (q4.1, q4.2)) else ((zok spM st (some this) 8).bind fun o1 => (zok spM st (st.2.2.2 o1 8) 9).bind fun o2 => (zix spM o2 y1).bind fun j3 => some ((st.2.1 o2 j3), st))) else (if y2 = 0 then ((zok spM st (some this) 8).bind fun o12 => some ((st.2.1 o12 7), st)) else (if (5 : Int32) ≤ y2 then ((zok spM st (some this) 8).bind fun o6 => (zok spM st (st.2.2.2 o6 9) 9).bind fun o7 => (zix spM o7 y1).bind fun j8 => some ((st.2.1 o7 j8), st)) else ((zok spM st (some this) 8).bind fun o9 => (zok spM st (st.2.2.2 o9 10) 9).bind fun o10 => (zix spM o10 ((((4 : Int32) * y1) + y2) - (1 : Int32))).bind fun j11 => some ((st.2.1 o10 j11), st))))
def fX8_told (this : Nat) (a1 : Int32) (a2 : Int32) (st : zS) : Option (Int32 × zS) :=
  (fX8_in (a2.toInt64) (0 : Int64) (7 : Int64) st).bind fun q13 => if q13.1 = 0 then (some ((-2 : Int32), q13.2)) else (if a2 ≤ 0 then (fX8_told_j43 this a1 a2 q13.2) else (if a2 = (7 : Int32) then ((fX8_isThing a1 q13.2).bind fun q16 => if q16.1 = 0 then (some ((-2 : Int32), q16.2)) else (fX8_told_j43 this a1 a2 q16.2)) else ((zok spM q13.2 (some this) 8).bind fun o15 => (fX8_isOne o15 a1 q13.2).bind fun q14 => if q14.1 = 0 then (some ((-2 : Int32), q14.2)) else (fX8_told_j43 this a1 a2 q14.2))))
set_option maxRecDepth 100000 in
set_option maxHeartbeats 4000000 in
theorem kX8_told (l : Launch) (Z : zZ) (b : Nat) (x : Option Nat) (this : Nat) (a1 : Int32) (a2 : Int32) (st : zS) : zC l Z spM b x yX8_told (.code yX8_told cX8_told 3 (some .int)) (rmX8_told) rI [vP (some this), vI a1, vI a2] st (fX8_told this a1 a2 st) := by
  refine z_start (own := RX8) rfl (by decide +kernel) (Nat.le_of_ble_eq_true rfl) rfl (fun p e s m args below meth c res Q A X hK hr hlocks hQ => ?_)
  have J43 : ∀ (y1 : Int32) (y2 : Int32) (st : zS), zs p l e (rmX8_told) s m args below meth c Q Z spM b x A 3 0 0 res (fX8_told_j43 this y1 y2 st) 43 [(0, vP (some this)), (1, vI y1), (2, vI y2)] [] st := by
    intro y1 y2 st
    rw [fX8_told_j43]
    refine z_iload_n X (q := 2) dX8_told_43 rfl rfl ?_
    refine z_bipush X (v := (6 : Int32)) dX8_told_44 (by decide) ?_
    refine z_icmp_ge X (tgt := 87) dX8_told_46 (by decide) (fun _ => ?_) (fun _ => ?_)
    · refine z_iload_n X (q := 2) dX8_told_87 rfl rfl ?_
      refine z_bipush X (v := (6 : Int32)) dX8_told_88 (by decide) ?_
      refine z_icmp_ne X (tgt := 101) dX8_told_90 (by decide) (fun _ => ?_) (fun _ => ?_)
      · refine z_aload_n X (q := 0) dX8_told_101 rfl rfl ?_
        refine z_getr X hK (N := 46) (ci := 8) (k := 8) rfl (by decide) inlX8 (by decide) hf_X8_23 rfl spM_X8 rfl dX8_told_102 (fun o1 _ => ?_)
        refine z_iload_n X (q := 1) dX8_told_105 rfl rfl ?_
        refine z_iald X hK dX8_told_106 (fun o2 j3 _ _ => ?_)
        subst hQ; exact z_iret X hlocks hr dX8_told_107
      · refine z_aload_n X (q := 0) dX8_told_93 rfl rfl ?_
        refine z_iload_n X (q := 1) dX8_told_94 rfl rfl ?_
        refine z_callV X hK (As := [vI y1]) (ci := 8) rfl (by decide) (fun o => (kX8_neverOf l Z  b x o _ _)) hk_X8_115 ⟨rfl, rfl⟩ hd_X8_neverOf ⟨Nat.le_of_ble_eq_true rfl, Nat.le_of_ble_eq_true rfl⟩ ⟨Nat.le_of_ble_eq_true rfl, Nat.le_of_ble_eq_true rfl⟩ rfl rfl (Nat.le_of_ble_eq_true rfl) dX8_told_95 (fun _ q4 _ => ?_)
        refine z_goto X (tgt := 107) dX8_told_98 (by decide) ?_
        subst hQ; exact z_iret X hlocks hr dX8_told_107
    · refine z_iload_n X (q := 2) dX8_told_49 rfl rfl ?_
      refine z_if_ne X (tgt := 60) dX8_told_50 (by decide) (fun _ => ?_) (fun _ => ?_)
      · refine z_iload_n X (q := 2) dX8_told_60 rfl rfl ?_
        refine z_iconst X (v := (5 : Int32)) dX8_told_61 (by decide) ?_
        refine z_icmp_ge X (tgt := 80) dX8_told_62 (by decide) (fun _ => ?_) (fun _ => ?_)
        · refine z_aload_n X (q := 0) dX8_told_80 rfl rfl ?_
          refine z_getr X hK (N := 46) (ci := 8) (k := 9) rfl (by decide) inlX8 (by decide) hf_X8_26 rfl spM_X8 rfl dX8_told_81 (fun o6 _ => ?_)
          refine z_iload_n X (q := 1) dX8_told_84 rfl rfl ?_
          refine z_iald X hK dX8_told_85 (fun o7 j8 _ _ => ?_)
          subst hQ; exact z_iret X hlocks hr dX8_told_86
        · refine z_aload_n X (q := 0) dX8_told_65 rfl rfl ?_
          refine z_getr X hK (N := 46) (ci := 8) (k := 10) rfl (by decide) inlX8 (by decide) hf_X8_29 rfl spM_X8 rfl dX8_told_66 (fun o9 _ => ?_)
          refine z_iconst X (v := (4 : Int32)) dX8_told_69 (by decide) ?_
          refine z_iload_n X (q := 1) dX8_told_70 rfl rfl ?_
          refine z_imul X dX8_told_71 ?_
          refine z_iload_n X (q := 2) dX8_told_72 rfl rfl ?_
          refine z_iadd X dX8_told_73 ?_
          refine z_iconst X (v := (1 : Int32)) dX8_told_74 (by decide) ?_
          refine z_isub X dX8_told_75 ?_
          refine z_iald X hK dX8_told_76 (fun o10 j11 _ _ => ?_)
          refine z_goto X (tgt := 86) dX8_told_77 (by decide) ?_
          subst hQ; exact z_iret X hlocks hr dX8_told_86
      · refine z_aload_n X (q := 0) dX8_told_53 rfl rfl ?_
        refine z_geti X hK (N := 46) (ci := 8) (k := 7) rfl (by decide) inlX8 (by decide) hf_X8_103 rfl spM_X8 rfl dX8_told_54 (fun o12 _ => ?_)
        refine z_goto X (tgt := 86) dX8_told_57 (by decide) ?_
        subst hQ; exact z_iret X hlocks hr dX8_told_86
  rw [fX8_told]
  refine z_iload_n X (q := 2) dX8_told_0 rfl rfl ?_
  refine z_i2l X dX8_told_1 ?_
  refine z_lconst X (v := (0 : Int64)) dX8_told_2 (by decide) ?_
  refine z_ldc2 X (v := (7 : Int64)) (hc_X8_113) dX8_told_3 ?_
  refine z_callS X hK (As := [vL (a2.toInt64), vL (0 : Int64), vL (7 : Int64)]) (kX8_in l Z  b x _ _ _ _) hk_X8_77 ⟨rfl, rfl⟩ hd_X8_in.2 ⟨Nat.le_of_ble_eq_true rfl, Nat.le_of_ble_eq_true rfl⟩ ⟨Nat.le_of_ble_eq_true rfl, Nat.le_of_ble_eq_true rfl⟩ rfl rfl (Nat.le_of_ble_eq_true rfl) dX8_told_6 (fun q13 => ?_)
  refine z_if_eq X (tgt := 40) dX8_told_9 (by decide) (fun _ => ?_) (fun _ => ?_)
  · refine z_bipush X (v := (-2 : Int32)) dX8_told_40 (by decide) ?_
    subst hQ; exact z_iret X hlocks hr dX8_told_42
  · refine z_iload_n X (q := 2) dX8_told_12 rfl rfl ?_
    refine z_if_le X (tgt := 43) dX8_told_13 (by decide) (fun _ => ?_) (fun _ => ?_)
    · exact z_sub [0, 1, 2] (J43 _ _ _) rfl
    · refine z_iload_n X (q := 2) dX8_told_16 rfl rfl ?_
      refine z_bipush X (v := (7 : Int32)) dX8_told_17 (by decide) ?_
      refine z_icmp_ne X (tgt := 32) dX8_told_19 (by decide) (fun _ => ?_) (fun _ => ?_)
      · refine z_aload_n X (q := 0) dX8_told_32 rfl rfl ?_
        refine z_iload_n X (q := 1) dX8_told_33 rfl rfl ?_
        refine z_callV X hK (As := [vI a1]) (ci := 8) rfl (by decide) (fun o => (kX8_isOne l Z  b x o _ _)) hk_X8_89 ⟨rfl, rfl⟩ hd_X8_isOne ⟨Nat.le_of_ble_eq_true rfl, Nat.le_of_ble_eq_true rfl⟩ ⟨Nat.le_of_ble_eq_true rfl, Nat.le_of_ble_eq_true rfl⟩ rfl rfl (Nat.le_of_ble_eq_true rfl) dX8_told_34 (fun _ q14 _ => ?_)
        refine z_if_ne X (tgt := 43) dX8_told_37 (by decide) (fun _ => ?_) (fun _ => ?_)
        · exact z_sub [0, 1, 2] (J43 _ _ _) rfl
        · refine z_bipush X (v := (-2 : Int32)) dX8_told_40 (by decide) ?_
          subst hQ; exact z_iret X hlocks hr dX8_told_42
      · refine z_iload_n X (q := 1) dX8_told_22 rfl rfl ?_
        refine z_callS X hK (As := [vI a1]) (kX8_isThing l Z  b x _ _) hk_X8_83 ⟨rfl, rfl⟩ hd_X8_isThing.2 ⟨Nat.le_of_ble_eq_true rfl, Nat.le_of_ble_eq_true rfl⟩ ⟨Nat.le_of_ble_eq_true rfl, Nat.le_of_ble_eq_true rfl⟩ rfl rfl (Nat.le_of_ble_eq_true rfl) dX8_told_23 (fun q16 => ?_)
        refine z_if_ne X (tgt := 43) dX8_told_26 (by decide) (fun _ => ?_) (fun _ => ?_)
        · exact z_sub [0, 1, 2] (J43 _ _ _) rfl
        · refine z_goto X (tgt := 40) dX8_told_29 (by decide) ?_
          refine z_bipush X (v := (-2 : Int32)) dX8_told_40 (by decide) ?_
          subst hQ; exact z_iret X hlocks hr dX8_told_42
theorem zw_876 : Cond.methodLink RX8 92 yX8_mostOf ∈ wsL_law := zr_9 _ (by decide +kernel)
theorem zw_877 : Cond.static yX8_mostOf ∈ wsL_law := zr_9 _ (by decide +kernel)
theorem zw_878 : Cond.code yX8_mostOf cX8_mostOf 1 (some .int) ∈ wsL_law := zr_9 _ (by decide +kernel)
theorem hk_X8_92 : ∀ w ∈ ([Cond.methodLink RX8 92 yX8_mostOf, Cond.static yX8_mostOf, Cond.initialized RX8, Cond.code yX8_mostOf cX8_mostOf 1 (some .int)] : List Cond), w ∈ wsL_law := List.forall_mem_cons.mpr ⟨zw_876, List.forall_mem_cons.mpr ⟨zw_877, List.forall_mem_cons.mpr ⟨zw_525, List.forall_mem_cons.mpr ⟨zw_878, fun _ h => absurd h List.not_mem_nil⟩⟩⟩⟩
theorem zw_879 : Cond.methodLink RX8 95 yX8_told ∈ wsL_law := zr_9 _ (by decide +kernel)
theorem zw_880 : Cond.instanceMethod yX8_told ∈ wsL_law := zr_9 _ (by decide +kernel)
theorem zw_881 : Cond.selects RX8 yX8_told yX8_told ∈ wsL_law := zr_9 _ (by decide +kernel)
theorem zw_882 : Cond.code yX8_told cX8_told 3 (some .int) ∈ wsL_law := zr_9 _ (by decide +kernel)
theorem hk_X8_95 : ∀ w ∈ ([Cond.methodLink RX8 95 yX8_told, Cond.instanceMethod yX8_told, Cond.selects RX8 yX8_told yX8_told, Cond.initialized RX8, Cond.code yX8_told cX8_told 3 (some .int)] : List Cond), w ∈ wsL_law := List.forall_mem_cons.mpr ⟨zw_879, List.forall_mem_cons.mpr ⟨zw_880, List.forall_mem_cons.mpr ⟨zw_881, List.forall_mem_cons.mpr ⟨zw_525, List.forall_mem_cons.mpr ⟨zw_882, fun _ h => absurd h List.not_mem_nil⟩⟩⟩⟩⟩
theorem zw_883 : Cond.methodLink RX8 99 yX8_lays ∈ wsL_law := zr_19 _ (by decide +kernel)
theorem zw_884 : Cond.instanceMethod yX8_lays ∈ wsL_law := zr_19 _ (by decide +kernel)
theorem zw_885 : Cond.selects RX8 yX8_lays yX8_lays ∈ wsL_law := zr_19 _ (by decide +kernel)
theorem zw_886 : Cond.code yX8_lays cX8_lays 4 none ∈ wsL_law := zr_19 _ (by decide +kernel)
theorem hk_X8_99 : ∀ w ∈ ([Cond.methodLink RX8 99 yX8_lays, Cond.instanceMethod yX8_lays, Cond.selects RX8 yX8_lays yX8_lays, Cond.initialized RX8, Cond.code yX8_lays cX8_lays 4 none] : List Cond), w ∈ wsL_law := List.forall_mem_cons.mpr ⟨zw_883, List.forall_mem_cons.mpr ⟨zw_884, List.forall_mem_cons.mpr ⟨zw_885, List.forall_mem_cons.mpr ⟨zw_525, List.forall_mem_cons.mpr ⟨zw_886, fun _ h => absurd h List.not_mem_nil⟩⟩⟩⟩⟩
theorem hd_X8_lays : yX8_lays.cls = RX8 ∧ yX8_lays.cls ≠ "java/lang/invoke/MethodHandle" ∧ yX8_lays.cls ≠ "java/lang/invoke/VarHandle" ∧ (parseMethodDescriptor yX8_lays.desc).map (fun d => d.parameters.length) = some 3 := by decide +kernel
theorem hd_X8_mostOf : yX8_mostOf.cls = RX8 ∧ yX8_mostOf.cls ≠ "java/lang/invoke/MethodHandle" ∧ yX8_mostOf.cls ≠ "java/lang/invoke/VarHandle" ∧ (parseMethodDescriptor yX8_mostOf.desc).map (fun d => d.parameters.length) = some 1 := by decide +kernel
theorem hd_X8_told : yX8_told.cls = RX8 ∧ yX8_told.cls ≠ "java/lang/invoke/MethodHandle" ∧ yX8_told.cls ≠ "java/lang/invoke/VarHandle" ∧ (parseMethodDescriptor yX8_told.desc).map (fun d => d.parameters.length) = some 2 := by decide +kernel
theorem zw_887 : Cond.constantLong RX8 87 (4) ∈ wsL_law := zr_9 _ (by decide +kernel)
theorem hc_X8_87 : Cond.constantLong RX8 87 (4) ∈ wsL_law := zw_887
abbrev rmX8_set : Room := { frames := 47, cells := 0, slots := 0, locals := 1070 }
def fX8_set_j24 (this : Nat) (y1 : Int32) (y2 : Int32) (y3 : Int32) (st : zS) : Option (Int32 × zS) :=
  (fX8_mostOf y1 st).bind fun q1 => (fX8_in (y3.toInt64) (0 : Int64) (q1.1.toInt64) q1.2).bind fun q2 => if q2.1 = 0 then (some ((-2 : Int32), q2.2)) else ((zok spM q2.2 (some this) 8).bind fun o7 => (fX8_told o7 y2 y1 q2.2).bind fun q3 => zlet (q3.1) fun v4 => (zok spM q3.2 (some this) 8).bind fun o6 => (fX8_lays o6 y1 y2 y3 q3.2).bind fun q5 => some (v4, q5.2))
def fX8_set (this : Nat) (a1 : Int32) (a2 : Int32) (a3 : Int32) (st : zS) : Option (Int32 × zS) :=
  (fX8_in (a1.toInt64) (0 : Int64) (4 : Int64) st).bind fun q8 => if q8.1 = 0 then (some ((-2 : Int32), q8.2)) else (if a1 ≤ 0 then (fX8_set_j24 this a1 a2 a3 q8.2) else ((zok spM q8.2 (some this) 8).bind fun o10 => (fX8_isOne o10 a2 q8.2).bind fun q9 => if q9.1 = 0 then (some ((-2 : Int32), q9.2)) else (fX8_set_j24 this a1 a2 a3 q9.2)))
set_option maxRecDepth 100000 in
set_option maxHeartbeats 4000000 in
theorem kX8_set (l : Launch) (Z : zZ) (b : Nat) (x : Option Nat) (this : Nat) (a1 : Int32) (a2 : Int32) (a3 : Int32) (st : zS) : zC l Z spM b x yX8_set (.code yX8_set cX8_set 5 (some .int)) (rmX8_set) rI [vP (some this), vI a1, vI a2, vI a3] st (fX8_set this a1 a2 a3 st) := by
  refine z_start (own := RX8) rfl (by decide +kernel) (Nat.le_of_ble_eq_true rfl) rfl (fun p e s m args below meth c res Q A X hK hr hlocks hQ => ?_)
  have J24 : ∀ (y1 : Int32) (y2 : Int32) (y3 : Int32) (st : zS), zs p l e (rmX8_set) s m args below meth c Q Z spM b x A 5 0 0 res (fX8_set_j24 this y1 y2 y3 st) 24 [(0, vP (some this)), (1, vI y1), (2, vI y2), (3, vI y3)] [] st := by
    intro y1 y2 y3 st
    rw [fX8_set_j24]
    refine z_iload_n X (q := 3) dX8_set_24 rfl rfl ?_
    refine z_i2l X dX8_set_25 ?_
    refine z_lconst X (v := (0 : Int64)) dX8_set_26 (by decide) ?_
    refine z_iload_n X (q := 1) dX8_set_27 rfl rfl ?_
    refine z_callS X hK (As := [vI y1]) (kX8_mostOf l Z  b x _ _) hk_X8_92 ⟨rfl, rfl⟩ hd_X8_mostOf.2 ⟨Nat.le_of_ble_eq_true rfl, Nat.le_of_ble_eq_true rfl⟩ ⟨Nat.le_of_ble_eq_true rfl, Nat.le_of_ble_eq_true rfl⟩ rfl rfl (Nat.le_of_ble_eq_true rfl) dX8_set_28 (fun q1 => ?_)
    refine z_i2l X dX8_set_31 ?_
    refine z_callS X hK (As := [vL (y3.toInt64), vL (0 : Int64), vL (q1.1.toInt64)]) (kX8_in l Z  b x _ _ _ _) hk_X8_77 ⟨rfl, rfl⟩ hd_X8_in.2 ⟨Nat.le_of_ble_eq_true rfl, Nat.le_of_ble_eq_true rfl⟩ ⟨Nat.le_of_ble_eq_true rfl, Nat.le_of_ble_eq_true rfl⟩ rfl rfl (Nat.le_of_ble_eq_true rfl) dX8_set_32 (fun q2 => ?_)
    refine z_if_ne X (tgt := 41) dX8_set_35 (by decide) (fun _ => ?_) (fun _ => ?_)
    · refine z_aload_n X (q := 0) dX8_set_41 rfl rfl ?_
      refine z_iload_n X (q := 2) dX8_set_42 rfl rfl ?_
      refine z_iload_n X (q := 1) dX8_set_43 rfl rfl ?_
      refine z_callV X hK (As := [vI y2, vI y1]) (ci := 8) rfl (by decide) (fun o => (kX8_told l Z  b x o _ _ _)) hk_X8_95 ⟨rfl, rfl⟩ hd_X8_told ⟨Nat.le_of_ble_eq_true rfl, Nat.le_of_ble_eq_true rfl⟩ ⟨Nat.le_of_ble_eq_true rfl, Nat.le_of_ble_eq_true rfl⟩ rfl rfl (Nat.le_of_ble_eq_true rfl) dX8_set_44 (fun _ q3 _ => ?_)
      refine z_name (fun v4 => ?_)
      refine z_istore X dX8_set_47 (Nat.le_of_ble_eq_true rfl) rfl ?_
      refine z_aload_n X (q := 1) dX8_set_49 rfl rfl ?_
      refine z_iload_n X (q := 2) dX8_set_50 rfl rfl ?_
      refine z_iload_n X (q := 3) dX8_set_51 rfl rfl ?_
      refine z_iload_n X (q := 4) dX8_set_52 rfl rfl ?_
      refine z_callV X hK (As := [vI y1, vI y2, vI y3]) (ci := 8) rfl (by decide) (fun o => (kX8_lays l Z  b x o _ _ _ _)) hk_X8_99 ⟨rfl, rfl⟩ hd_X8_lays ⟨Nat.le_of_ble_eq_true rfl, Nat.le_of_ble_eq_true rfl⟩ ⟨Nat.le_of_ble_eq_true rfl, Nat.le_of_ble_eq_true rfl⟩ rfl rfl (Nat.le_of_ble_eq_true rfl) dX8_set_53 (fun _ q5 _ => ?_)
      refine z_iload X (q := 0) dX8_set_56 rfl ?_
      subst hQ; exact z_iret X hlocks hr dX8_set_58
    · refine z_bipush X (v := (-2 : Int32)) dX8_set_38 (by decide) ?_
      subst hQ; exact z_iret X hlocks hr dX8_set_40
  rw [fX8_set]
  refine z_iload_n X (q := 1) dX8_set_0 rfl rfl ?_
  refine z_i2l X dX8_set_1 ?_
  refine z_lconst X (v := (0 : Int64)) dX8_set_2 (by decide) ?_
  refine z_ldc2 X (v := (4 : Int64)) (hc_X8_87) dX8_set_3 ?_
  refine z_callS X hK (As := [vL (a1.toInt64), vL (0 : Int64), vL (4 : Int64)]) (kX8_in l Z  b x _ _ _ _) hk_X8_77 ⟨rfl, rfl⟩ hd_X8_in.2 ⟨Nat.le_of_ble_eq_true rfl, Nat.le_of_ble_eq_true rfl⟩ ⟨Nat.le_of_ble_eq_true rfl, Nat.le_of_ble_eq_true rfl⟩ rfl rfl (Nat.le_of_ble_eq_true rfl) dX8_set_6 (fun q8 => ?_)
  refine z_if_eq X (tgt := 38) dX8_set_9 (by decide) (fun _ => ?_) (fun _ => ?_)
  · refine z_bipush X (v := (-2 : Int32)) dX8_set_38 (by decide) ?_
    subst hQ; exact z_iret X hlocks hr dX8_set_40
  · refine z_iload_n X (q := 1) dX8_set_12 rfl rfl ?_
    refine z_if_le X (tgt := 24) dX8_set_13 (by decide) (fun _ => ?_) (fun _ => ?_)
    · exact z_sub [0, 1, 2, 3] (J24 _ _ _ _) rfl
    · refine z_aload_n X (q := 0) dX8_set_16 rfl rfl ?_
      refine z_iload_n X (q := 2) dX8_set_17 rfl rfl ?_
      refine z_callV X hK (As := [vI a2]) (ci := 8) rfl (by decide) (fun o => (kX8_isOne l Z  b x o _ _)) hk_X8_89 ⟨rfl, rfl⟩ hd_X8_isOne ⟨Nat.le_of_ble_eq_true rfl, Nat.le_of_ble_eq_true rfl⟩ ⟨Nat.le_of_ble_eq_true rfl, Nat.le_of_ble_eq_true rfl⟩ rfl rfl (Nat.le_of_ble_eq_true rfl) dX8_set_18 (fun _ q9 _ => ?_)
      refine z_if_eq X (tgt := 38) dX8_set_21 (by decide) (fun _ => ?_) (fun _ => ?_)
      · refine z_bipush X (v := (-2 : Int32)) dX8_set_38 (by decide) ?_
        subst hQ; exact z_iret X hlocks hr dX8_set_40
      · exact z_sub [0, 1, 2, 3] (J24 _ _ _ _) rfl
abbrev rmX8_share : Room := { frames := 3, cells := 0, slots := 0, locals := 86 }
def fX8_share_j42 (this : Nat) (st : zS) : Option (Int64 × zS) :=
  some ((-4611686018427387904 : Int64), st)
def fX8_share (this : Nat) (a1 : Int32) (a2 : Int32) (st : zS) : Option (Int64 × zS) :=
  (zok spM st (some this) 8).bind fun o8 => (fX8_isOne o8 a1 st).bind fun q1 => if q1.1 = 0 then (fX8_share_j42 this q1.2) else ((fX8_in (a2.toInt64) (0 : Int64) (1 : Int64) q1.2).bind fun q2 => if q2.1 = 0 then (fX8_share_j42 this q2.2) else ((zok spM q2.2 (some this) 8).bind fun o3 => (zok spM q2.2 (q2.2.2.2.2 o3 10) 9).bind fun o4 => (zix spM o4 (((4 : Int32) * a1) + (2 : Int32))).bind fun j5 => (fX8_bitsOf (q2.2.2.1 o4 j5) q2.2).bind fun q6 => (fX8_lowest (q6.1.toInt64) (12 : Int64) a2 q6.2).bind fun q7 => some (q7.1, q7.2)))
set_option maxRecDepth 100000 in
set_option maxHeartbeats 4000000 in
theorem kX8_share (l : Launch) (Z : zZ) (b : Nat) (x : Option Nat) (this : Nat) (a1 : Int32) (a2 : Int32) (st : zS) : zC l Z spM b x yX8_share (.code yX8_share cX8_share 3 (some .long)) (rmX8_share) rL [vP (some this), vI a1, vI a2] st (fX8_share this a1 a2 st) := by
  refine z_start (own := RX8) rfl (by decide +kernel) (Nat.le_of_ble_eq_true rfl) rfl (fun p e s m args below meth c res Q A X hK hr hlocks hQ => ?_)
  have J42 : ∀ (st : zS), zs p l e (rmX8_share) s m args below meth c Q Z spM b x A 3 0 0 res (fX8_share_j42 this st) 42 [] [] st := by
    intro  st
    rw [fX8_share_j42]
    refine z_ldc2 X (v := (-4611686018427387904 : Int64)) (hc_X8_418) dX8_share_42 ?_
    subst hQ; exact z_lret X hlocks hr dX8_share_45
  rw [fX8_share]
  refine z_aload_n X (q := 0) dX8_share_0 rfl rfl ?_
  refine z_iload_n X (q := 1) dX8_share_1 rfl rfl ?_
  refine z_callV X hK (As := [vI a1]) (ci := 8) rfl (by decide) (fun o => (kX8_isOne l Z  b x o _ _)) hk_X8_89 ⟨rfl, rfl⟩ hd_X8_isOne ⟨Nat.le_of_ble_eq_true rfl, Nat.le_of_ble_eq_true rfl⟩ ⟨Nat.le_of_ble_eq_true rfl, Nat.le_of_ble_eq_true rfl⟩ rfl rfl (Nat.le_of_ble_eq_true rfl) dX8_share_2 (fun _ q1 _ => ?_)
  refine z_if_eq X (tgt := 42) dX8_share_5 (by decide) (fun _ => ?_) (fun _ => ?_)
  · exact z_sub [] (J42  _) rfl
  · refine z_iload_n X (q := 2) dX8_share_8 rfl rfl ?_
    refine z_i2l X dX8_share_9 ?_
    refine z_lconst X (v := (0 : Int64)) dX8_share_10 (by decide) ?_
    refine z_lconst X (v := (1 : Int64)) dX8_share_11 (by decide) ?_
    refine z_callS X hK (As := [vL (a2.toInt64), vL (0 : Int64), vL (1 : Int64)]) (kX8_in l Z  b x _ _ _ _) hk_X8_77 ⟨rfl, rfl⟩ hd_X8_in.2 ⟨Nat.le_of_ble_eq_true rfl, Nat.le_of_ble_eq_true rfl⟩ ⟨Nat.le_of_ble_eq_true rfl, Nat.le_of_ble_eq_true rfl⟩ rfl rfl (Nat.le_of_ble_eq_true rfl) dX8_share_12 (fun q2 => ?_)
    refine z_if_eq X (tgt := 42) dX8_share_15 (by decide) (fun _ => ?_) (fun _ => ?_)
    · exact z_sub [] (J42  _) rfl
    · refine z_aload_n X (q := 0) dX8_share_18 rfl rfl ?_
      refine z_getr X hK (N := 46) (ci := 8) (k := 10) rfl (by decide) inlX8 (by decide) hf_X8_29 rfl spM_X8 rfl dX8_share_19 (fun o3 _ => ?_)
      refine z_iconst X (v := (4 : Int32)) dX8_share_22 (by decide) ?_
      refine z_iload_n X (q := 1) dX8_share_23 rfl rfl ?_
      refine z_imul X dX8_share_24 ?_
      refine z_iconst X (v := (2 : Int32)) dX8_share_25 (by decide) ?_
      refine z_iadd X dX8_share_26 ?_
      refine z_iald X hK dX8_share_27 (fun o4 j5 _ _ => ?_)
      refine z_callS X hK (As := [vI (q2.2.2.1 o4 j5)]) (kX8_bitsOf l Z  b x _ _) hk_X8_63 ⟨rfl, rfl⟩ hd_X8_bitsOf.2 ⟨Nat.le_of_ble_eq_true rfl, Nat.le_of_ble_eq_true rfl⟩ ⟨Nat.le_of_ble_eq_true rfl, Nat.le_of_ble_eq_true rfl⟩ rfl rfl (Nat.le_of_ble_eq_true rfl) dX8_share_28 (fun q6 => ?_)
      refine z_i2l X dX8_share_31 ?_
      refine z_ldc2 X (v := (12 : Int64)) (hc_X8_412) dX8_share_32 ?_
      refine z_iload_n X (q := 2) dX8_share_35 rfl rfl ?_
      refine z_callS X hK (As := [vL (q6.1.toInt64), vL (12 : Int64), vI a2]) (kX8_lowest l Z  b x _ _ _ _) hk_X8_414 ⟨rfl, rfl⟩ hd_X8_lowest.2 ⟨Nat.le_of_ble_eq_true rfl, Nat.le_of_ble_eq_true rfl⟩ ⟨Nat.le_of_ble_eq_true rfl, Nat.le_of_ble_eq_true rfl⟩ rfl rfl (Nat.le_of_ble_eq_true rfl) dX8_share_36 (fun q7 => ?_)
      refine z_goto X (tgt := 45) dX8_share_39 (by decide) ?_
      subst hQ; exact z_lret X hlocks hr dX8_share_45
theorem zw_888 : Cond.methodLink RX8 453 yX8_over ∈ wsL_law := zr_51 _ (by decide +kernel)
theorem zw_889 : Cond.static yX8_over ∈ wsL_law := zr_51 _ (by decide +kernel)
theorem zw_890 : Cond.code yX8_over cX8_over 1 (some .int) ∈ wsL_law := zr_51 _ (by decide +kernel)
theorem hk_X8_453 : ∀ w ∈ ([Cond.methodLink RX8 453 yX8_over, Cond.static yX8_over, Cond.initialized RX8, Cond.code yX8_over cX8_over 1 (some .int)] : List Cond), w ∈ wsL_law := List.forall_mem_cons.mpr ⟨zw_888, List.forall_mem_cons.mpr ⟨zw_889, List.forall_mem_cons.mpr ⟨zw_525, List.forall_mem_cons.mpr ⟨zw_890, fun _ h => absurd h List.not_mem_nil⟩⟩⟩⟩
theorem hd_X8_over : yX8_over.cls = RX8 ∧ yX8_over.cls ≠ "java/lang/invoke/MethodHandle" ∧ yX8_over.cls ≠ "java/lang/invoke/VarHandle" ∧ (parseMethodDescriptor yX8_over.desc).map (fun d => d.parameters.length) = some 1 := by decide +kernel
abbrev rmX8_taken : Room := { frames := 3, cells := 0, slots := 0, locals := 86 }
def fX8_taken_j51 (this : Nat) (y1 : Int32) (y2 : Int32) (y3 : Int32) (st : zS) : Option (Int32 × zS) :=
  if y3 = y2 then ((zok spM st (some this) 8).bind fun o1 => (zok spM st (st.2.2.2 o1 10) 9).bind fun o2 => (zix spM o2 ((4 : Int32) * y1)).bind fun j3 => some ((st.2.1 o2 j3), st)) else (some ((-13 : Int32), st))
def fX8_taken_L33 (this : Nat) : Nat → Int32 → Int32 → Int32 → zS → Option (Int32 × zS)
  | 0, _, _, _, _ => none
  | n + 1, y1, y2, y3, st => if y3 = (-1 : Int32) then (fX8_taken_j51 this y1 y2 y3 st) else (if y3 = y2 then (fX8_taken_j51 this y1 y2 y3 st) else ((fX8_over y3 st).bind fun q4 => zlet (q4.1) fun v5 => (fX8_taken_L33 this n) y1 y2 v5 q4.2))
def fX8_taken (this : Nat) (a1 : Int32) (a2 : Int32) (st : zS) : Option (Int32 × zS) :=
  (fX8_in (a2.toInt64) (0 : Int64) (5 : Int64) st).bind fun q6 => if q6.1 = 0 then (some ((-2 : Int32), q6.2)) else ((zok spM q6.2 (some this) 8).bind fun o12 => (fX8_isOne o12 a1 q6.2).bind fun q7 => if q7.1 = 0 then (some ((-11 : Int32), q7.2)) else ((zok spM q7.2 (some this) 8).bind fun o8 => (zok spM q7.2 (q7.2.2.2.2 o8 9) 9).bind fun o9 => (zix spM o9 a1).bind fun j10 => zlet ((q7.2.2.1 o9 j10)) fun v11 => fX8_taken_L33 this zF a1 a2 v11 q7.2))
set_option maxRecDepth 100000 in
set_option maxHeartbeats 4000000 in
theorem kX8_taken (l : Launch) (Z : zZ) (b : Nat) (x : Option Nat) (this : Nat) (a1 : Int32) (a2 : Int32) (st : zS) : zC l Z spM b x yX8_taken (.code yX8_taken cX8_taken 4 (some .int)) (rmX8_taken) rI [vP (some this), vI a1, vI a2] st (fX8_taken this a1 a2 st) := by
  refine z_start (own := RX8) rfl (by decide +kernel) (Nat.le_of_ble_eq_true rfl) rfl (fun p e s m args below meth c res Q A X hK hr hlocks hQ => ?_)
  have J51 : ∀ (y1 : Int32) (y2 : Int32) (y3 : Int32) (st : zS), zs p l e (rmX8_taken) s m args below meth c Q Z spM b x A 4 0 0 res (fX8_taken_j51 this y1 y2 y3 st) 51 [(0, vP (some this)), (1, vI y1), (2, vI y2), (3, vI y3)] [] st := by
    intro y1 y2 y3 st
    rw [fX8_taken_j51]
    refine z_iload_n X (q := 3) dX8_taken_51 rfl rfl ?_
    refine z_iload_n X (q := 2) dX8_taken_52 rfl rfl ?_
    refine z_icmp_ne X (tgt := 67) dX8_taken_53 (by decide) (fun _ => ?_) (fun _ => ?_)
    · refine z_bipush X (v := (-13 : Int32)) dX8_taken_67 (by decide) ?_
      subst hQ; exact z_iret X hlocks hr dX8_taken_69
    · refine z_aload_n X (q := 0) dX8_taken_56 rfl rfl ?_
      refine z_getr X hK (N := 46) (ci := 8) (k := 10) rfl (by decide) inlX8 (by decide) hf_X8_29 rfl spM_X8 rfl dX8_taken_57 (fun o1 _ => ?_)
      refine z_iconst X (v := (4 : Int32)) dX8_taken_60 (by decide) ?_
      refine z_iload_n X (q := 1) dX8_taken_61 rfl rfl ?_
      refine z_imul X dX8_taken_62 ?_
      refine z_iald X hK dX8_taken_63 (fun o2 j3 _ _ => ?_)
      refine z_goto X (tgt := 69) dX8_taken_64 (by decide) ?_
      subst hQ; exact z_iret X hlocks hr dX8_taken_69
  have J33 : ∀ (n33 : Nat) (y1 : Int32) (y2 : Int32) (y3 : Int32) (st : zS), zs p l e (rmX8_taken) s m args below meth c Q Z spM b x A 4 0 0 res (fX8_taken_L33 this n33 y1 y2 y3 st) 33 [(0, vP (some this)), (1, vI y1), (2, vI y2), (3, vI y3)] [] st := by
    intro n33
    induction n33 with
    | zero => intros; exact z_none
    | succ n33 ih33 =>
      intro y1 y2 y3 st
      rw [fX8_taken_L33]
      refine z_iload_n X (q := 3) dX8_taken_33 rfl rfl ?_
      refine z_iconst X (v := (-1 : Int32)) dX8_taken_34 (by decide) ?_
      refine z_icmp_eq X (tgt := 51) dX8_taken_35 (by decide) (fun _ => ?_) (fun _ => ?_)
      · exact z_sub [0, 1, 2, 3] (J51 _ _ _ _) rfl
      · refine z_iload_n X (q := 3) dX8_taken_38 rfl rfl ?_
        refine z_iload_n X (q := 2) dX8_taken_39 rfl rfl ?_
        refine z_icmp_eq X (tgt := 51) dX8_taken_40 (by decide) (fun _ => ?_) (fun _ => ?_)
        · exact z_sub [0, 1, 2, 3] (J51 _ _ _ _) rfl
        · refine z_iload_n X (q := 3) dX8_taken_43 rfl rfl ?_
          refine z_callS X hK (As := [vI y3]) (kX8_over l Z  b x _ _) hk_X8_453 ⟨rfl, rfl⟩ hd_X8_over.2 ⟨Nat.le_of_ble_eq_true rfl, Nat.le_of_ble_eq_true rfl⟩ ⟨Nat.le_of_ble_eq_true rfl, Nat.le_of_ble_eq_true rfl⟩ rfl rfl (Nat.le_of_ble_eq_true rfl) dX8_taken_44 (fun q4 => ?_)
          refine z_name (fun v5 => ?_)
          refine z_istore_n X dX8_taken_47 rfl (Nat.le_of_ble_eq_true rfl) rfl ?_
          refine z_goto X (tgt := 33) dX8_taken_48 (by decide) ?_
          exact z_sub [1, 2, 3, 0] (ih33 _ _ _ _) rfl
  rw [fX8_taken]
  refine z_iload_n X (q := 2) dX8_taken_0 rfl rfl ?_
  refine z_i2l X dX8_taken_1 ?_
  refine z_lconst X (v := (0 : Int64)) dX8_taken_2 (by decide) ?_
  refine z_ldc2 X (v := (5 : Int64)) (hc_X8_109) dX8_taken_3 ?_
  refine z_callS X hK (As := [vL (a2.toInt64), vL (0 : Int64), vL (5 : Int64)]) (kX8_in l Z  b x _ _ _ _) hk_X8_77 ⟨rfl, rfl⟩ hd_X8_in.2 ⟨Nat.le_of_ble_eq_true rfl, Nat.le_of_ble_eq_true rfl⟩ ⟨Nat.le_of_ble_eq_true rfl, Nat.le_of_ble_eq_true rfl⟩ rfl rfl (Nat.le_of_ble_eq_true rfl) dX8_taken_6 (fun q6 => ?_)
  refine z_if_ne X (tgt := 15) dX8_taken_9 (by decide) (fun _ => ?_) (fun _ => ?_)
  · refine z_aload_n X (q := 0) dX8_taken_15 rfl rfl ?_
    refine z_iload_n X (q := 1) dX8_taken_16 rfl rfl ?_
    refine z_callV X hK (As := [vI a1]) (ci := 8) rfl (by decide) (fun o => (kX8_isOne l Z  b x o _ _)) hk_X8_89 ⟨rfl, rfl⟩ hd_X8_isOne ⟨Nat.le_of_ble_eq_true rfl, Nat.le_of_ble_eq_true rfl⟩ ⟨Nat.le_of_ble_eq_true rfl, Nat.le_of_ble_eq_true rfl⟩ rfl rfl (Nat.le_of_ble_eq_true rfl) dX8_taken_17 (fun _ q7 _ => ?_)
    refine z_if_ne X (tgt := 26) dX8_taken_20 (by decide) (fun _ => ?_) (fun _ => ?_)
    · refine z_aload_n X (q := 0) dX8_taken_26 rfl rfl ?_
      refine z_getr X hK (N := 46) (ci := 8) (k := 9) rfl (by decide) inlX8 (by decide) hf_X8_26 rfl spM_X8 rfl dX8_taken_27 (fun o8 _ => ?_)
      refine z_iload_n X (q := 1) dX8_taken_30 rfl rfl ?_
      refine z_iald X hK dX8_taken_31 (fun o9 j10 _ _ => ?_)
      refine z_name (fun v11 => ?_)
      refine z_istore_n X dX8_taken_32 rfl (Nat.le_of_ble_eq_true rfl) rfl ?_
      exact z_sub [1, 2, 3, 0] (J33 _ _ _ _ _) rfl
    · refine z_bipush X (v := (-11 : Int32)) dX8_taken_23 (by decide) ?_
      subst hQ; exact z_iret X hlocks hr dX8_taken_25
  · refine z_bipush X (v := (-2 : Int32)) dX8_taken_12 (by decide) ?_
    subst hQ; exact z_iret X hlocks hr dX8_taken_14
abbrev rmX8_turnedSet : Room := { frames := 46, cells := 0, slots := 0, locals := 1047 }
def fX8_turnedSet_j45 (this : Nat) (k5 : Int32 → Int32 → Int32 → Int32 → zS → Option (Int32 × zS)) (y1 : Int32) (y2 : Int32) (y4 : Int32) (s0 : Int32) (s1 : Int32) (st : zS) : Option (Int32 × zS) :=
  zlet ((s0 ||| (s1 <<< (y4 &&& 31)))) fun v1 => (zok spM st (some this) 8).bind fun o2 => (zok spM st (st.2.2.2 o2 10) 9).bind fun o3 => (zix spM o3 (((4 : Int32) * y2) + (1 : Int32))).bind fun j4 => (zok spM st (st.2.2.2 o2 10) 9).bind fun o5 => (zix spM o5 (((4 : Int32) * y2) + (1 : Int32))).bind fun j6 => zlet (zp st o5 j6 ((st.2.1 o3 j4) ^^^ ((1 : Int32) <<< (y4 &&& 31)))) fun st7 => k5 y1 y2 v1 (y4 + (1 : Int32)) st7
def fX8_turnedSet_L5 (this : Nat) : Nat → Int32 → Int32 → Int32 → Int32 → zS → Option (Int32 × zS)
  | 0, _, _, _, _, _ => none
  | n + 1, y1, y2, y3, y4, st => if (12 : Int32) ≤ y4 then (some (y3, st)) else ((zok spM st (some this) 8).bind fun o8 => (zok spM st (st.2.2.2 o8 10) 9).bind fun o9 => (zix spM o9 (((4 : Int32) * y2) + (1 : Int32))).bind fun j10 => (zok spM st (st.2.2.2 o8 10) 9).bind fun o11 => (zix spM o11 (((4 : Int32) * y2) + (1 : Int32))).bind fun j12 => zlet (zp st o11 j12 ((st.2.1 o9 j10) ^^^ ((1 : Int32) <<< (y4 &&& 31)))) fun st13 => (zok spM st13 (some this) 8).bind fun o15 => (fX8_firstOther o15 y1 y2 st13).bind fun q14 => if q14.1 = (-1 : Int32) then (fX8_turnedSet_j45 this (fX8_turnedSet_L5 this n) y1 y2 y4 y3 (1 : Int32) q14.2) else (fX8_turnedSet_j45 this (fX8_turnedSet_L5 this n) y1 y2 y4 y3 (0 : Int32) q14.2))
def fX8_turnedSet (this : Nat) (a1 : Int32) (a2 : Int32) (st : zS) : Option (Int32 × zS) :=
  fX8_turnedSet_L5 this zF a1 a2 (0 : Int32) (0 : Int32) st
set_option maxRecDepth 100000 in
set_option maxHeartbeats 4000000 in
theorem kX8_turnedSet (l : Launch) (Z : zZ) (b : Nat) (x : Option Nat) (this : Nat) (a1 : Int32) (a2 : Int32) (st : zS) : zC l Z spM b x yX8_turnedSet (.code yX8_turnedSet cX8_turnedSet 5 (some .int)) (rmX8_turnedSet) rI [vP (some this), vI a1, vI a2] st (fX8_turnedSet this a1 a2 st) := by
  refine z_start (own := RX8) rfl (by decide +kernel) (Nat.le_of_ble_eq_true rfl) rfl (fun p e s m args below meth c res Q A X hK hr hlocks hQ => ?_)
  have J5 : ∀ (n5 : Nat) (y1 : Int32) (y2 : Int32) (y3 : Int32) (y4 : Int32) (st : zS), zs p l e (rmX8_turnedSet) s m args below meth c Q Z spM b x A 5 0 0 res (fX8_turnedSet_L5 this n5 y1 y2 y3 y4 st) 5 [(0, vP (some this)), (1, vI y1), (2, vI y2), (3, vI y3), (4, vI y4)] [] st := by
    intro n5
    induction n5 with
    | zero => intros; exact z_none
    | succ n5 ih5 =>
      have J45 : ∀ (y1 : Int32) (y2 : Int32) (y4 : Int32) (s0 : Int32) (s1 : Int32) (st : zS), zs p l e (rmX8_turnedSet) s m args below meth c Q Z spM b x A 5 0 0 res (fX8_turnedSet_j45 this (fX8_turnedSet_L5 this n5) y1 y2 y4 s0 s1 st) 45 [(0, vP (some this)), (1, vI y1), (2, vI y2), (4, vI y4)] [vI s1, vI s0] st := by
        intro y1 y2 y4 s0 s1 st
        rw [fX8_turnedSet_j45]
        refine z_iload X (q := 3) dX8_turnedSet_45 rfl ?_
        refine z_ishl X dX8_turnedSet_47 ?_
        refine z_ior X dX8_turnedSet_48 ?_
        refine z_name (fun v1 => ?_)
        refine z_istore_n X dX8_turnedSet_49 rfl (Nat.le_of_ble_eq_true rfl) rfl ?_
        refine z_aload_n X (q := 1) dX8_turnedSet_50 rfl rfl ?_
        refine z_getr X hK (N := 46) (ci := 8) (k := 10) rfl (by decide) inlX8 (by decide) hf_X8_29 rfl spM_X8 rfl dX8_turnedSet_51 (fun o2 _ => ?_)
        refine z_iconst X (v := (4 : Int32)) dX8_turnedSet_54 (by decide) ?_
        refine z_iload_n X (q := 3) dX8_turnedSet_55 rfl rfl ?_
        refine z_imul X dX8_turnedSet_56 ?_
        refine z_iconst X (v := (1 : Int32)) dX8_turnedSet_57 (by decide) ?_
        refine z_iadd X dX8_turnedSet_58 ?_
        refine z_dup2 X dX8_turnedSet_59 rfl rfl ?_
        refine z_iald X hK dX8_turnedSet_60 (fun o3 j4 _ _ => ?_)
        refine z_iconst X (v := (1 : Int32)) dX8_turnedSet_61 (by decide) ?_
        refine z_iload X (q := 4) dX8_turnedSet_62 rfl ?_
        refine z_ishl X dX8_turnedSet_64 ?_
        refine z_ixor X dX8_turnedSet_65 ?_
        refine z_iast X hK dX8_turnedSet_66 (fun o5 j6 st7 _ _ => ?_)
        refine z_iinc X (q := 4) (y := y4 + (1 : Int32)) dX8_turnedSet_67 rfl rfl (Nat.le_of_ble_eq_true rfl) rfl ?_
        refine z_goto X (tgt := 5) dX8_turnedSet_70 (by decide) ?_
        exact z_sub [2, 3, 4, 1, 0] (ih5 _ _ _ _ _) rfl
      intro y1 y2 y3 y4 st
      rw [fX8_turnedSet_L5]
      refine z_iload X (q := 4) dX8_turnedSet_5 rfl ?_
      refine z_bipush X (v := (12 : Int32)) dX8_turnedSet_7 (by decide) ?_
      refine z_icmp_ge X (tgt := 73) dX8_turnedSet_9 (by decide) (fun _ => ?_) (fun _ => ?_)
      · refine z_iload_n X (q := 3) dX8_turnedSet_73 rfl rfl ?_
        subst hQ; exact z_iret X hlocks hr dX8_turnedSet_74
      · refine z_aload_n X (q := 0) dX8_turnedSet_12 rfl rfl ?_
        refine z_getr X hK (N := 46) (ci := 8) (k := 10) rfl (by decide) inlX8 (by decide) hf_X8_29 rfl spM_X8 rfl dX8_turnedSet_13 (fun o8 _ => ?_)
        refine z_iconst X (v := (4 : Int32)) dX8_turnedSet_16 (by decide) ?_
        refine z_iload_n X (q := 2) dX8_turnedSet_17 rfl rfl ?_
        refine z_imul X dX8_turnedSet_18 ?_
        refine z_iconst X (v := (1 : Int32)) dX8_turnedSet_19 (by decide) ?_
        refine z_iadd X dX8_turnedSet_20 ?_
        refine z_dup2 X dX8_turnedSet_21 rfl rfl ?_
        refine z_iald X hK dX8_turnedSet_22 (fun o9 j10 _ _ => ?_)
        refine z_iconst X (v := (1 : Int32)) dX8_turnedSet_23 (by decide) ?_
        refine z_iload X (q := 4) dX8_turnedSet_24 rfl ?_
        refine z_ishl X dX8_turnedSet_26 ?_
        refine z_ixor X dX8_turnedSet_27 ?_
        refine z_iast X hK dX8_turnedSet_28 (fun o11 j12 st13 _ _ => ?_)
        refine z_iload_n X (q := 3) dX8_turnedSet_29 rfl rfl ?_
        refine z_aload_n X (q := 0) dX8_turnedSet_30 rfl rfl ?_
        refine z_iload_n X (q := 1) dX8_turnedSet_31 rfl rfl ?_
        refine z_iload_n X (q := 2) dX8_turnedSet_32 rfl rfl ?_
        refine z_callV X hK (As := [vI y1, vI y2]) (ci := 8) rfl (by decide) (fun o => (kX8_firstOther l Z  b x o _ _ _)) hk_X8_420 ⟨rfl, rfl⟩ hd_X8_firstOther ⟨Nat.le_of_ble_eq_true rfl, Nat.le_of_ble_eq_true rfl⟩ ⟨Nat.le_of_ble_eq_true rfl, Nat.le_of_ble_eq_true rfl⟩ rfl rfl (Nat.le_of_ble_eq_true rfl) dX8_turnedSet_33 (fun _ q14 _ => ?_)
        refine z_iconst X (v := (-1 : Int32)) dX8_turnedSet_36 (by decide) ?_
        refine z_icmp_ne X (tgt := 44) dX8_turnedSet_37 (by decide) (fun _ => ?_) (fun _ => ?_)
        · refine z_iconst X (v := (0 : Int32)) dX8_turnedSet_44 (by decide) ?_
          exact z_sub [0, 1, 2, 4] (J45 _ _ _ _ _ _) rfl
        · refine z_iconst X (v := (1 : Int32)) dX8_turnedSet_40 (by decide) ?_
          refine z_goto X (tgt := 45) dX8_turnedSet_41 (by decide) ?_
          exact z_sub [0, 1, 2, 4] (J45 _ _ _ _ _ _) rfl
  rw [fX8_turnedSet]
  refine z_iconst X (v := (0 : Int32)) dX8_turnedSet_0 (by decide) ?_
  refine z_istore_n X dX8_turnedSet_1 rfl (Nat.le_of_ble_eq_true rfl) rfl ?_
  refine z_iconst X (v := (0 : Int32)) dX8_turnedSet_2 (by decide) ?_
  refine z_istore X dX8_turnedSet_3 (Nat.le_of_ble_eq_true rfl) rfl ?_
  exact z_sub [2, 3, 4, 1, 0] (J5 _ _ _ _ _ _) rfl
theorem zw_891 : Cond.methodLink RX8 423 yX8_likeSet ∈ wsL_law := zr_45 _ (by decide +kernel)
theorem zw_892 : Cond.instanceMethod yX8_likeSet ∈ wsL_law := zr_45 _ (by decide +kernel)
theorem zw_893 : Cond.selects RX8 yX8_likeSet yX8_likeSet ∈ wsL_law := zr_45 _ (by decide +kernel)
theorem zw_894 : Cond.code yX8_likeSet cX8_likeSet 4 (some .int) ∈ wsL_law := zr_45 _ (by decide +kernel)
theorem hk_X8_423 : ∀ w ∈ ([Cond.methodLink RX8 423 yX8_likeSet, Cond.instanceMethod yX8_likeSet, Cond.selects RX8 yX8_likeSet yX8_likeSet, Cond.initialized RX8, Cond.code yX8_likeSet cX8_likeSet 4 (some .int)] : List Cond), w ∈ wsL_law := List.forall_mem_cons.mpr ⟨zw_891, List.forall_mem_cons.mpr ⟨zw_892, List.forall_mem_cons.mpr ⟨zw_893, List.forall_mem_cons.mpr ⟨zw_525, List.forall_mem_cons.mpr ⟨zw_894, fun _ h => absurd h List.not_mem_nil⟩⟩⟩⟩⟩
theorem zw_895 : Cond.methodLink RX8 426 yX8_turnedSet ∈ wsL_law := zr_45 _ (by decide +kernel)
theorem zw_896 : Cond.instanceMethod yX8_turnedSet ∈ wsL_law := zr_45 _ (by decide +kernel)
theorem zw_897 : Cond.selects RX8 yX8_turnedSet yX8_turnedSet ∈ wsL_law := zr_45 _ (by decide +kernel)
theorem zw_898 : Cond.code yX8_turnedSet cX8_turnedSet 5 (some .int) ∈ wsL_law := zr_45 _ (by decide +kernel)
theorem hk_X8_426 : ∀ w ∈ ([Cond.methodLink RX8 426 yX8_turnedSet, Cond.instanceMethod yX8_turnedSet, Cond.selects RX8 yX8_turnedSet yX8_turnedSet, Cond.initialized RX8, Cond.code yX8_turnedSet cX8_turnedSet 5 (some .int)] : List Cond), w ∈ wsL_law := List.forall_mem_cons.mpr ⟨zw_895, List.forall_mem_cons.mpr ⟨zw_896, List.forall_mem_cons.mpr ⟨zw_897, List.forall_mem_cons.mpr ⟨zw_525, List.forall_mem_cons.mpr ⟨zw_898, fun _ h => absurd h List.not_mem_nil⟩⟩⟩⟩⟩
theorem hd_X8_likeSet : yX8_likeSet.cls = RX8 ∧ yX8_likeSet.cls ≠ "java/lang/invoke/MethodHandle" ∧ yX8_likeSet.cls ≠ "java/lang/invoke/VarHandle" ∧ (parseMethodDescriptor yX8_likeSet.desc).map (fun d => d.parameters.length) = some 1 := by decide +kernel
theorem hd_X8_turnedSet : yX8_turnedSet.cls = RX8 ∧ yX8_turnedSet.cls ≠ "java/lang/invoke/MethodHandle" ∧ yX8_turnedSet.cls ≠ "java/lang/invoke/VarHandle" ∧ (parseMethodDescriptor yX8_turnedSet.desc).map (fun d => d.parameters.length) = some 2 := by decide +kernel
abbrev rmX8_tells : Room := { frames := 47, cells := 0, slots := 0, locals := 1071 }
def fX8_tells_j66 (this : Nat) (y1 : Int32) (y2 : Int32) (y3 : Int32) (st : zS) : Option (Int32 × zS) :=
  if y3 = 0 then ((zok spM st (some this) 8).bind fun o4 => (fX8_firstOther o4 y1 y2 st).bind fun q3 => some (q3.1, q3.2)) else ((zok spM st (some this) 8).bind fun o2 => (fX8_likeSet o2 y1 st).bind fun q1 => some (q1.1, q1.2))
def fX8_tells_j257 (this : Nat) (k206 : Int32 → Int32 → Int32 → Int32 → Int32 → Int32 → Int32 → Int32 → Int32 → zS → Option (Int32 × zS)) (y1 : Int32) (y2 : Int32) (y3 : Int32) (y4 : Int32) (y5 : Int32) (y7 : Int32) (y8 : Int32) (y9 : Int32) (y10 : Int32) (st : zS) : Option (Int32 × zS) :=
  k206 y1 y2 y3 y4 y5 y7 y8 y9 (y10 + (-1 : Int32)) st
def fX8_tells_j247 (this : Nat) (k206 : Int32 → Int32 → Int32 → Int32 → Int32 → Int32 → Int32 → Int32 → Int32 → zS → Option (Int32 × zS)) (y1 : Int32) (y2 : Int32) (y3 : Int32) (y4 : Int32) (y5 : Int32) (y8 : Int32) (y10 : Int32) (s0 : Int32) (s1 : Int32) (st : zS) : Option (Int32 × zS) :=
  zlet ((s0 ||| s1)) fun v5 => fX8_tells_j257 this k206 y1 y2 y3 y4 y5 v5 (y8 + (1 : Int32)) y10 y10 st
def fX8_tells_L206 (this : Nat) : Nat → Int32 → Int32 → Int32 → Int32 → Int32 → Int32 → Int32 → Int32 → Int32 → zS → Option (Int32 × zS)
  | 0, _, _, _, _, _, _, _, _, _, _ => none
  | n + 1, y1, y2, y3, y4, y5, y7, y8, y9, y10, st => if y10 < 0 then ((zok spM st (some this) 8).bind fun o7 => (fX8_lays o7 y4 y2 y5 st).bind fun q6 => if y3 = (3 : Int32) then (some (y8, q6.2)) else (if y3 = (4 : Int32) then (some (y9, q6.2)) else (some (y7, q6.2)))) else ((zok spM st (some this) 8).bind fun o11 => (fX8_lays o11 y4 y2 y10 st).bind fun q8 => (zok spM q8.2 (some this) 8).bind fun o10 => (fX8_firstOther o10 y1 y2 q8.2).bind fun q9 => if q9.1 = (-1 : Int32) then (if (10 : Int32) ≤ y10 then (fX8_tells_j247 this (fX8_tells_L206 this n) y1 y2 y3 y4 y5 y8 y10 y7 (0 : Int32) q9.2) else (fX8_tells_j247 this (fX8_tells_L206 this n) y1 y2 y3 y4 y5 y8 y10 y7 ((1 : Int32) <<< (y10 &&& 31)) q9.2)) else (fX8_tells_j257 this (fX8_tells_L206 this n) y1 y2 y3 y4 y5 y7 y8 y9 y10 q9.2))
def fX8_tells_j191 (this : Nat) (y1 : Int32) (y2 : Int32) (y3 : Int32) (y4 : Int32) (y5 : Int32) (s0 : Int32) (st : zS) : Option (Int32 × zS) :=
  fX8_tells_L206 this zF y1 y2 y3 y4 y5 (0 : Int32) (0 : Int32) (-1 : Int32) s0 st
def fX8_tells_j150 (this : Nat) (y1 : Int32) (y2 : Int32) (y3 : Int32) (y4 : Int32) (s0 : Int32) (st : zS) : Option (Int32 × zS) :=
  if y4 = (6 : Int32) then ((zok spM st (some this) 8).bind fun o12 => fX8_tells_j191 this y1 y2 y3 y4 s0 ((st.2.1 o12 3) - (1 : Int32)) st) else (if y4 = (5 : Int32) then (fX8_tells_j191 this y1 y2 y3 y4 s0 (5 : Int32) st) else (if y4 = (1 : Int32) then (fX8_tells_j191 this y1 y2 y3 y4 s0 (9 : Int32) st) else (fX8_tells_j191 this y1 y2 y3 y4 s0 (99 : Int32) st)))
def fX8_tells_j127 (this : Nat) (y1 : Int32) (y2 : Int32) (y3 : Int32) (s0 : Int32) (st : zS) : Option (Int32 × zS) :=
  if s0 = (6 : Int32) then ((zok spM st (some this) 8).bind fun o15 => fX8_tells_j150 this y1 y2 y3 s0 (st.2.1 o15 4) st) else ((zok spM st (some this) 8).bind fun o14 => (fX8_told o14 y2 s0 st).bind fun q13 => fX8_tells_j150 this y1 y2 y3 s0 q13.1 q13.2)
def fX8_tells (this : Nat) (a1 : Int32) (a2 : Int32) (a3 : Int32) (st : zS) : Option (Int32 × zS) :=
  (fX8_isSheet a1 st).bind fun q16 => if q16.1 = 0 then (some ((-2 : Int32), q16.2)) else ((zok spM q16.2 (some this) 8).bind fun o27 => (fX8_isOne o27 a2 q16.2).bind fun q17 => if q17.1 = 0 then (some ((-2 : Int32), q17.2)) else ((fX8_in (a3.toInt64) (0 : Int64) (7 : Int64) q17.2).bind fun q18 => if q18.1 = 0 then (some ((-2 : Int32), q18.2)) else ((zok spM q18.2 (some this) 8).bind fun o19 => (zok spM q18.2 (q18.2.2.2.2 o19 42) 10).bind fun o20 => (zix spM o20 a1).bind fun j21 => if (q18.2.2.1 o20 j21) = 0 then (some ((-11 : Int32), q18.2)) else ((zok spM q18.2 (some this) 8).bind fun o22 => (zok spM q18.2 (q18.2.2.2.2 o22 44) 9).bind fun o23 => (zix spM o23 a1).bind fun j24 => if (q18.2.2.1 o23 j24) ≤ (12 : Int32) then (if a3 = 0 then (fX8_tells_j66 this a1 a2 a3 q18.2) else (if a3 = (7 : Int32) then (fX8_tells_j66 this a1 a2 a3 q18.2) else (if a3 = (5 : Int32) then ((zok spM q18.2 (some this) 8).bind fun o26 => (fX8_turnedSet o26 a1 a2 q18.2).bind fun q25 => some (q25.1, q25.2)) else (if a3 = (1 : Int32) then (fX8_tells_j127 this a1 a2 a3 (5 : Int32) q18.2) else (if a3 = (2 : Int32) then (fX8_tells_j127 this a1 a2 a3 (1 : Int32) q18.2) else (if a3 = (6 : Int32) then (fX8_tells_j127 this a1 a2 a3 (6 : Int32) q18.2) else (fX8_tells_j127 this a1 a2 a3 (0 : Int32) q18.2))))))) else (some ((-2 : Int32), q18.2))))))
set_option maxRecDepth 100000 in
set_option maxHeartbeats 4000000 in
theorem kX8_tells (l : Launch) (Z : zZ) (b : Nat) (x : Option Nat) (this : Nat) (a1 : Int32) (a2 : Int32) (a3 : Int32) (st : zS) : zC l Z spM b x yX8_tells (.code yX8_tells cX8_tells 11 (some .int)) (rmX8_tells) rI [vP (some this), vI a1, vI a2, vI a3] st (fX8_tells this a1 a2 a3 st) := by
  refine z_start (own := RX8) rfl (by decide +kernel) (Nat.le_of_ble_eq_true rfl) rfl (fun p e s m args below meth c res Q A X hK hr hlocks hQ => ?_)
  have J66 : ∀ (y1 : Int32) (y2 : Int32) (y3 : Int32) (st : zS), zs p l e (rmX8_tells) s m args below meth c Q Z spM b x A 11 0 0 res (fX8_tells_j66 this y1 y2 y3 st) 66 [(0, vP (some this)), (1, vI y1), (2, vI y2), (3, vI y3)] [] st := by
    intro y1 y2 y3 st
    rw [fX8_tells_j66]
    refine z_iload_n X (q := 3) dX8_tells_66 rfl rfl ?_
    refine z_if_ne X (tgt := 79) dX8_tells_67 (by decide) (fun _ => ?_) (fun _ => ?_)
    · refine z_aload_n X (q := 0) dX8_tells_79 rfl rfl ?_
      refine z_iload_n X (q := 1) dX8_tells_80 rfl rfl ?_
      refine z_callV X hK (As := [vI y1]) (ci := 8) rfl (by decide) (fun o => (kX8_likeSet l Z  b x o _ _)) hk_X8_423 ⟨rfl, rfl⟩ hd_X8_likeSet ⟨Nat.le_of_ble_eq_true rfl, Nat.le_of_ble_eq_true rfl⟩ ⟨Nat.le_of_ble_eq_true rfl, Nat.le_of_ble_eq_true rfl⟩ rfl rfl (Nat.le_of_ble_eq_true rfl) dX8_tells_81 (fun _ q1 _ => ?_)
      subst hQ; exact z_iret X hlocks hr dX8_tells_84
    · refine z_aload_n X (q := 0) dX8_tells_70 rfl rfl ?_
      refine z_iload_n X (q := 1) dX8_tells_71 rfl rfl ?_
      refine z_iload_n X (q := 2) dX8_tells_72 rfl rfl ?_
      refine z_callV X hK (As := [vI y1, vI y2]) (ci := 8) rfl (by decide) (fun o => (kX8_firstOther l Z  b x o _ _ _)) hk_X8_420 ⟨rfl, rfl⟩ hd_X8_firstOther ⟨Nat.le_of_ble_eq_true rfl, Nat.le_of_ble_eq_true rfl⟩ ⟨Nat.le_of_ble_eq_true rfl, Nat.le_of_ble_eq_true rfl⟩ rfl rfl (Nat.le_of_ble_eq_true rfl) dX8_tells_73 (fun _ q3 _ => ?_)
      refine z_goto X (tgt := 84) dX8_tells_76 (by decide) ?_
      subst hQ; exact z_iret X hlocks hr dX8_tells_84
  have J206 : ∀ (n206 : Nat) (y1 : Int32) (y2 : Int32) (y3 : Int32) (y4 : Int32) (y5 : Int32) (y7 : Int32) (y8 : Int32) (y9 : Int32) (y10 : Int32) (st : zS), zs p l e (rmX8_tells) s m args below meth c Q Z spM b x A 11 0 0 res (fX8_tells_L206 this n206 y1 y2 y3 y4 y5 y7 y8 y9 y10 st) 206 [(0, vP (some this)), (1, vI y1), (2, vI y2), (3, vI y3), (4, vI y4), (5, vI y5), (7, vI y7), (8, vI y8), (9, vI y9), (10, vI y10)] [] st := by
    intro n206
    induction n206 with
    | zero => intros; exact z_none
    | succ n206 ih206 =>
      have J257 : ∀ (y1 : Int32) (y2 : Int32) (y3 : Int32) (y4 : Int32) (y5 : Int32) (y7 : Int32) (y8 : Int32) (y9 : Int32) (y10 : Int32) (st : zS), zs p l e (rmX8_tells) s m args below meth c Q Z spM b x A 11 0 0 res (fX8_tells_j257 this (fX8_tells_L206 this n206) y1 y2 y3 y4 y5 y7 y8 y9 y10 st) 257 [(0, vP (some this)), (1, vI y1), (2, vI y2), (3, vI y3), (4, vI y4), (5, vI y5), (7, vI y7), (8, vI y8), (9, vI y9), (10, vI y10)] [] st := by
        intro y1 y2 y3 y4 y5 y7 y8 y9 y10 st
        rw [fX8_tells_j257]
        refine z_iinc X (q := 9) (y := y10 + (-1 : Int32)) dX8_tells_257 rfl rfl (Nat.le_of_ble_eq_true rfl) rfl ?_
        refine z_goto X (tgt := 206) dX8_tells_260 (by decide) ?_
        exact z_sub [1, 2, 3, 4, 5, 6, 7, 8, 9, 0] (ih206 _ _ _ _ _ _ _ _ _ _) rfl
      have J247 : ∀ (y1 : Int32) (y2 : Int32) (y3 : Int32) (y4 : Int32) (y5 : Int32) (y8 : Int32) (y10 : Int32) (s0 : Int32) (s1 : Int32) (st : zS), zs p l e (rmX8_tells) s m args below meth c Q Z spM b x A 11 0 0 res (fX8_tells_j247 this (fX8_tells_L206 this n206) y1 y2 y3 y4 y5 y8 y10 s0 s1 st) 247 [(0, vP (some this)), (1, vI y1), (2, vI y2), (3, vI y3), (4, vI y4), (5, vI y5), (8, vI y8), (10, vI y10)] [vI s1, vI s0] st := by
        intro y1 y2 y3 y4 y5 y8 y10 s0 s1 st
        rw [fX8_tells_j247]
        refine z_ior X dX8_tells_247 ?_
        refine z_name (fun v5 => ?_)
        refine z_istore X dX8_tells_248 (Nat.le_of_ble_eq_true rfl) rfl ?_
        refine z_iinc X (q := 7) (y := y8 + (1 : Int32)) dX8_tells_250 rfl rfl (Nat.le_of_ble_eq_true rfl) rfl ?_
        refine z_iload X (q := 8) dX8_tells_253 rfl ?_
        refine z_istore X dX8_tells_255 (Nat.le_of_ble_eq_true rfl) rfl ?_
        exact z_sub [3, 4, 5, 6, 7, 8, 2, 1, 0, 9] (J257 _ _ _ _ _ _ _ _ _ _) rfl
      intro y1 y2 y3 y4 y5 y7 y8 y9 y10 st
      rw [fX8_tells_L206]
      refine z_iload X (q := 9) dX8_tells_206 rfl ?_
      refine z_if_lt X (tgt := 263) dX8_tells_208 (by decide) (fun _ => ?_) (fun _ => ?_)
      · refine z_aload_n X (q := 0) dX8_tells_263 rfl rfl ?_
        refine z_iload X (q := 4) dX8_tells_264 rfl ?_
        refine z_iload_n X (q := 2) dX8_tells_266 rfl rfl ?_
        refine z_iload X (q := 5) dX8_tells_267 rfl ?_
        refine z_callV X hK (As := [vI y4, vI y2, vI y5]) (ci := 8) rfl (by decide) (fun o => (kX8_lays l Z  b x o _ _ _ _)) hk_X8_99 ⟨rfl, rfl⟩ hd_X8_lays ⟨Nat.le_of_ble_eq_true rfl, Nat.le_of_ble_eq_true rfl⟩ ⟨Nat.le_of_ble_eq_true rfl, Nat.le_of_ble_eq_true rfl⟩ rfl rfl (Nat.le_of_ble_eq_true rfl) dX8_tells_269 (fun _ q6 _ => ?_)
        refine z_iload_n X (q := 3) dX8_tells_272 rfl rfl ?_
        refine z_iconst X (v := (3 : Int32)) dX8_tells_273 (by decide) ?_
        refine z_icmp_ne X (tgt := 282) dX8_tells_274 (by decide) (fun _ => ?_) (fun _ => ?_)
        · refine z_iload_n X (q := 3) dX8_tells_282 rfl rfl ?_
          refine z_iconst X (v := (4 : Int32)) dX8_tells_283 (by decide) ?_
          refine z_icmp_ne X (tgt := 292) dX8_tells_284 (by decide) (fun _ => ?_) (fun _ => ?_)
          · refine z_iload X (q := 6) dX8_tells_292 rfl ?_
            subst hQ; exact z_iret X hlocks hr dX8_tells_294
          · refine z_iload X (q := 8) dX8_tells_287 rfl ?_
            refine z_goto X (tgt := 294) dX8_tells_289 (by decide) ?_
            subst hQ; exact z_iret X hlocks hr dX8_tells_294
        · refine z_iload X (q := 7) dX8_tells_277 rfl ?_
          refine z_goto X (tgt := 294) dX8_tells_279 (by decide) ?_
          subst hQ; exact z_iret X hlocks hr dX8_tells_294
      · refine z_aload_n X (q := 0) dX8_tells_211 rfl rfl ?_
        refine z_iload X (q := 4) dX8_tells_212 rfl ?_
        refine z_iload_n X (q := 2) dX8_tells_214 rfl rfl ?_
        refine z_iload X (q := 9) dX8_tells_215 rfl ?_
        refine z_callV X hK (As := [vI y4, vI y2, vI y10]) (ci := 8) rfl (by decide) (fun o => (kX8_lays l Z  b x o _ _ _ _)) hk_X8_99 ⟨rfl, rfl⟩ hd_X8_lays ⟨Nat.le_of_ble_eq_true rfl, Nat.le_of_ble_eq_true rfl⟩ ⟨Nat.le_of_ble_eq_true rfl, Nat.le_of_ble_eq_true rfl⟩ rfl rfl (Nat.le_of_ble_eq_true rfl) dX8_tells_217 (fun _ q8 _ => ?_)
        refine z_aload_n X (q := 0) dX8_tells_220 rfl rfl ?_
        refine z_iload_n X (q := 1) dX8_tells_221 rfl rfl ?_
        refine z_iload_n X (q := 2) dX8_tells_222 rfl rfl ?_
        refine z_callV X hK (As := [vI y1, vI y2]) (ci := 8) rfl (by decide) (fun o => (kX8_firstOther l Z  b x o _ _ _)) hk_X8_420 ⟨rfl, rfl⟩ hd_X8_firstOther ⟨Nat.le_of_ble_eq_true rfl, Nat.le_of_ble_eq_true rfl⟩ ⟨Nat.le_of_ble_eq_true rfl, Nat.le_of_ble_eq_true rfl⟩ rfl rfl (Nat.le_of_ble_eq_true rfl) dX8_tells_223 (fun _ q9 _ => ?_)
        refine z_iconst X (v := (-1 : Int32)) dX8_tells_226 (by decide) ?_
        refine z_icmp_ne X (tgt := 257) dX8_tells_227 (by decide) (fun _ => ?_) (fun _ => ?_)
        · exact z_sub [0, 1, 2, 3, 4, 5, 6, 7, 8, 9] (J257 _ _ _ _ _ _ _ _ _ _) rfl
        · refine z_iload X (q := 6) dX8_tells_230 rfl ?_
          refine z_iload X (q := 9) dX8_tells_232 rfl ?_
          refine z_bipush X (v := (10 : Int32)) dX8_tells_234 (by decide) ?_
          refine z_icmp_ge X (tgt := 246) dX8_tells_236 (by decide) (fun _ => ?_) (fun _ => ?_)
          · refine z_iconst X (v := (0 : Int32)) dX8_tells_246 (by decide) ?_
            exact z_sub [0, 1, 2, 3, 4, 5, 7, 9] (J247 _ _ _ _ _ _ _ _ _ _) rfl
          · refine z_iconst X (v := (1 : Int32)) dX8_tells_239 (by decide) ?_
            refine z_iload X (q := 9) dX8_tells_240 rfl ?_
            refine z_ishl X dX8_tells_242 ?_
            refine z_goto X (tgt := 247) dX8_tells_243 (by decide) ?_
            exact z_sub [0, 1, 2, 3, 4, 5, 7, 9] (J247 _ _ _ _ _ _ _ _ _ _) rfl
  have J191 : ∀ (y1 : Int32) (y2 : Int32) (y3 : Int32) (y4 : Int32) (y5 : Int32) (s0 : Int32) (st : zS), zs p l e (rmX8_tells) s m args below meth c Q Z spM b x A 11 0 0 res (fX8_tells_j191 this y1 y2 y3 y4 y5 s0 st) 191 [(0, vP (some this)), (1, vI y1), (2, vI y2), (3, vI y3), (4, vI y4), (5, vI y5)] [vI s0] st := by
    intro y1 y2 y3 y4 y5 s0 st
    rw [fX8_tells_j191]
    refine z_istore X dX8_tells_191 (Nat.le_of_ble_eq_true rfl) rfl ?_
    refine z_iconst X (v := (0 : Int32)) dX8_tells_193 (by decide) ?_
    refine z_istore X dX8_tells_194 (Nat.le_of_ble_eq_true rfl) rfl ?_
    refine z_iconst X (v := (0 : Int32)) dX8_tells_196 (by decide) ?_
    refine z_istore X dX8_tells_197 (Nat.le_of_ble_eq_true rfl) rfl ?_
    refine z_iconst X (v := (-1 : Int32)) dX8_tells_199 (by decide) ?_
    refine z_istore X dX8_tells_200 (Nat.le_of_ble_eq_true rfl) rfl ?_
    refine z_iload X (q := 3) dX8_tells_202 rfl ?_
    refine z_istore X dX8_tells_204 (Nat.le_of_ble_eq_true rfl) rfl ?_
    exact z_sub [5, 6, 7, 8, 9, 10, 3, 2, 1, 0] (J206 _ _ _ _ _ _ _ _ _ _ _) rfl
  have J150 : ∀ (y1 : Int32) (y2 : Int32) (y3 : Int32) (y4 : Int32) (s0 : Int32) (st : zS), zs p l e (rmX8_tells) s m args below meth c Q Z spM b x A 11 0 0 res (fX8_tells_j150 this y1 y2 y3 y4 s0 st) 150 [(0, vP (some this)), (1, vI y1), (2, vI y2), (3, vI y3), (4, vI y4)] [vI s0] st := by
    intro y1 y2 y3 y4 s0 st
    rw [fX8_tells_j150]
    refine z_istore X dX8_tells_150 (Nat.le_of_ble_eq_true rfl) rfl ?_
    refine z_iload X (q := 5) dX8_tells_152 rfl ?_
    refine z_bipush X (v := (6 : Int32)) dX8_tells_154 (by decide) ?_
    refine z_icmp_ne X (tgt := 168) dX8_tells_156 (by decide) (fun _ => ?_) (fun _ => ?_)
    · refine z_iload X (q := 5) dX8_tells_168 rfl ?_
      refine z_iconst X (v := (5 : Int32)) dX8_tells_170 (by decide) ?_
      refine z_icmp_ne X (tgt := 178) dX8_tells_171 (by decide) (fun _ => ?_) (fun _ => ?_)
      · refine z_iload X (q := 5) dX8_tells_178 rfl ?_
        refine z_iconst X (v := (1 : Int32)) dX8_tells_180 (by decide) ?_
        refine z_icmp_ne X (tgt := 189) dX8_tells_181 (by decide) (fun _ => ?_) (fun _ => ?_)
        · refine z_bipush X (v := (99 : Int32)) dX8_tells_189 (by decide) ?_
          exact z_sub [1, 2, 3, 4, 5, 0] (J191 _ _ _ _ _ _ _) rfl
        · refine z_bipush X (v := (9 : Int32)) dX8_tells_184 (by decide) ?_
          refine z_goto X (tgt := 191) dX8_tells_186 (by decide) ?_
          exact z_sub [1, 2, 3, 4, 5, 0] (J191 _ _ _ _ _ _ _) rfl
      · refine z_iconst X (v := (5 : Int32)) dX8_tells_174 (by decide) ?_
        refine z_goto X (tgt := 191) dX8_tells_175 (by decide) ?_
        exact z_sub [1, 2, 3, 4, 5, 0] (J191 _ _ _ _ _ _ _) rfl
    · refine z_aload_n X (q := 1) dX8_tells_159 rfl rfl ?_
      refine z_geti X hK (N := 46) (ci := 8) (k := 3) rfl (by decide) inlX8 (by decide) hf_X8_71 rfl spM_X8 rfl dX8_tells_160 (fun o12 _ => ?_)
      refine z_iconst X (v := (1 : Int32)) dX8_tells_163 (by decide) ?_
      refine z_isub X dX8_tells_164 ?_
      refine z_goto X (tgt := 191) dX8_tells_165 (by decide) ?_
      exact z_sub [1, 2, 3, 4, 5, 0] (J191 _ _ _ _ _ _ _) rfl
  have J127 : ∀ (y1 : Int32) (y2 : Int32) (y3 : Int32) (s0 : Int32) (st : zS), zs p l e (rmX8_tells) s m args below meth c Q Z spM b x A 11 0 0 res (fX8_tells_j127 this y1 y2 y3 s0 st) 127 [(0, vP (some this)), (1, vI y1), (2, vI y2), (3, vI y3)] [vI s0] st := by
    intro y1 y2 y3 s0 st
    rw [fX8_tells_j127]
    refine z_istore X dX8_tells_127 (Nat.le_of_ble_eq_true rfl) rfl ?_
    refine z_iload X (q := 0) dX8_tells_129 rfl ?_
    refine z_bipush X (v := (6 : Int32)) dX8_tells_131 (by decide) ?_
    refine z_icmp_ne X (tgt := 143) dX8_tells_133 (by decide) (fun _ => ?_) (fun _ => ?_)
    · refine z_aload_n X (q := 1) dX8_tells_143 rfl rfl ?_
      refine z_iload_n X (q := 3) dX8_tells_144 rfl rfl ?_
      refine z_iload X (q := 0) dX8_tells_145 rfl ?_
      refine z_callV X hK (As := [vI y2, vI s0]) (ci := 8) rfl (by decide) (fun o => (kX8_told l Z  b x o _ _ _)) hk_X8_95 ⟨rfl, rfl⟩ hd_X8_told ⟨Nat.le_of_ble_eq_true rfl, Nat.le_of_ble_eq_true rfl⟩ ⟨Nat.le_of_ble_eq_true rfl, Nat.le_of_ble_eq_true rfl⟩ rfl rfl (Nat.le_of_ble_eq_true rfl) dX8_tells_147 (fun _ q13 _ => ?_)
      exact z_sub [1, 2, 3, 4, 0] (J150 _ _ _ _ _ _) rfl
    · refine z_aload_n X (q := 1) dX8_tells_136 rfl rfl ?_
      refine z_geti X hK (N := 46) (ci := 8) (k := 4) rfl (by decide) inlX8 (by decide) hf_X8_106 rfl spM_X8 rfl dX8_tells_137 (fun o15 _ => ?_)
      refine z_goto X (tgt := 150) dX8_tells_140 (by decide) ?_
      exact z_sub [1, 2, 3, 4, 0] (J150 _ _ _ _ _ _) rfl
  rw [fX8_tells]
  refine z_iload_n X (q := 1) dX8_tells_0 rfl rfl ?_
  refine z_callS X hK (As := [vI a1]) (kX8_isSheet l Z  b x _ _) hk_X8_390 ⟨rfl, rfl⟩ hd_X8_isSheet.2 ⟨Nat.le_of_ble_eq_true rfl, Nat.le_of_ble_eq_true rfl⟩ ⟨Nat.le_of_ble_eq_true rfl, Nat.le_of_ble_eq_true rfl⟩ rfl rfl (Nat.le_of_ble_eq_true rfl) dX8_tells_1 (fun q16 => ?_)
  refine z_if_eq X (tgt := 27) dX8_tells_4 (by decide) (fun _ => ?_) (fun _ => ?_)
  · refine z_bipush X (v := (-2 : Int32)) dX8_tells_27 (by decide) ?_
    subst hQ; exact z_iret X hlocks hr dX8_tells_29
  · refine z_aload_n X (q := 0) dX8_tells_7 rfl rfl ?_
    refine z_iload_n X (q := 2) dX8_tells_8 rfl rfl ?_
    refine z_callV X hK (As := [vI a2]) (ci := 8) rfl (by decide) (fun o => (kX8_isOne l Z  b x o _ _)) hk_X8_89 ⟨rfl, rfl⟩ hd_X8_isOne ⟨Nat.le_of_ble_eq_true rfl, Nat.le_of_ble_eq_true rfl⟩ ⟨Nat.le_of_ble_eq_true rfl, Nat.le_of_ble_eq_true rfl⟩ rfl rfl (Nat.le_of_ble_eq_true rfl) dX8_tells_9 (fun _ q17 _ => ?_)
    refine z_if_eq X (tgt := 27) dX8_tells_12 (by decide) (fun _ => ?_) (fun _ => ?_)
    · refine z_bipush X (v := (-2 : Int32)) dX8_tells_27 (by decide) ?_
      subst hQ; exact z_iret X hlocks hr dX8_tells_29
    · refine z_iload_n X (q := 3) dX8_tells_15 rfl rfl ?_
      refine z_i2l X dX8_tells_16 ?_
      refine z_lconst X (v := (0 : Int64)) dX8_tells_17 (by decide) ?_
      refine z_ldc2 X (v := (7 : Int64)) (hc_X8_113) dX8_tells_18 ?_
      refine z_callS X hK (As := [vL (a3.toInt64), vL (0 : Int64), vL (7 : Int64)]) (kX8_in l Z  b x _ _ _ _) hk_X8_77 ⟨rfl, rfl⟩ hd_X8_in.2 ⟨Nat.le_of_ble_eq_true rfl, Nat.le_of_ble_eq_true rfl⟩ ⟨Nat.le_of_ble_eq_true rfl, Nat.le_of_ble_eq_true rfl⟩ rfl rfl (Nat.le_of_ble_eq_true rfl) dX8_tells_21 (fun q18 => ?_)
      refine z_if_ne X (tgt := 30) dX8_tells_24 (by decide) (fun _ => ?_) (fun _ => ?_)
      · refine z_aload_n X (q := 0) dX8_tells_30 rfl rfl ?_
        refine z_getr X hK (N := 46) (ci := 8) (k := 42) rfl (by decide) inlX8 (by decide) hf_X8_50 rfl spM_X8 rfl dX8_tells_31 (fun o19 _ => ?_)
        refine z_iload_n X (q := 1) dX8_tells_34 rfl rfl ?_
        refine z_zald X hK dX8_tells_35 (fun o20 j21 _ _ => ?_)
        refine z_if_ne X (tgt := 42) dX8_tells_36 (by decide) (fun _ => ?_) (fun _ => ?_)
        · refine z_aload_n X (q := 0) dX8_tells_42 rfl rfl ?_
          refine z_getr X hK (N := 46) (ci := 8) (k := 44) rfl (by decide) inlX8 (by decide) hf_X8_57 rfl spM_X8 rfl dX8_tells_43 (fun o22 _ => ?_)
          refine z_iload_n X (q := 1) dX8_tells_46 rfl rfl ?_
          refine z_iald X hK dX8_tells_47 (fun o23 j24 _ _ => ?_)
          refine z_bipush X (v := (12 : Int32)) dX8_tells_48 (by decide) ?_
          refine z_icmp_le X (tgt := 56) dX8_tells_50 (by decide) (fun _ => ?_) (fun _ => ?_)
          · refine z_iload_n X (q := 3) dX8_tells_56 rfl rfl ?_
            refine z_if_eq X (tgt := 66) dX8_tells_57 (by decide) (fun _ => ?_) (fun _ => ?_)
            · exact z_sub [0, 1, 2, 3] (J66 _ _ _ _) rfl
            · refine z_iload_n X (q := 3) dX8_tells_60 rfl rfl ?_
              refine z_bipush X (v := (7 : Int32)) dX8_tells_61 (by decide) ?_
              refine z_icmp_ne X (tgt := 85) dX8_tells_63 (by decide) (fun _ => ?_) (fun _ => ?_)
              · refine z_iload_n X (q := 3) dX8_tells_85 rfl rfl ?_
                refine z_iconst X (v := (5 : Int32)) dX8_tells_86 (by decide) ?_
                refine z_icmp_ne X (tgt := 97) dX8_tells_87 (by decide) (fun _ => ?_) (fun _ => ?_)
                · refine z_iload_n X (q := 3) dX8_tells_97 rfl rfl ?_
                  refine z_iconst X (v := (1 : Int32)) dX8_tells_98 (by decide) ?_
                  refine z_icmp_ne X (tgt := 106) dX8_tells_99 (by decide) (fun _ => ?_) (fun _ => ?_)
                  · refine z_iload_n X (q := 3) dX8_tells_106 rfl rfl ?_
                    refine z_iconst X (v := (2 : Int32)) dX8_tells_107 (by decide) ?_
                    refine z_icmp_ne X (tgt := 115) dX8_tells_108 (by decide) (fun _ => ?_) (fun _ => ?_)
                    · refine z_iload_n X (q := 3) dX8_tells_115 rfl rfl ?_
                      refine z_bipush X (v := (6 : Int32)) dX8_tells_116 (by decide) ?_
                      refine z_icmp_ne X (tgt := 126) dX8_tells_118 (by decide) (fun _ => ?_) (fun _ => ?_)
                      · refine z_iconst X (v := (0 : Int32)) dX8_tells_126 (by decide) ?_
                        exact z_sub [0, 1, 2, 3] (J127 _ _ _ _ _) rfl
                      · refine z_bipush X (v := (6 : Int32)) dX8_tells_121 (by decide) ?_
                        refine z_goto X (tgt := 127) dX8_tells_123 (by decide) ?_
                        exact z_sub [0, 1, 2, 3] (J127 _ _ _ _ _) rfl
                    · refine z_iconst X (v := (1 : Int32)) dX8_tells_111 (by decide) ?_
                      refine z_goto X (tgt := 127) dX8_tells_112 (by decide) ?_
                      exact z_sub [0, 1, 2, 3] (J127 _ _ _ _ _) rfl
                  · refine z_iconst X (v := (5 : Int32)) dX8_tells_102 (by decide) ?_
                    refine z_goto X (tgt := 127) dX8_tells_103 (by decide) ?_
                    exact z_sub [0, 1, 2, 3] (J127 _ _ _ _ _) rfl
                · refine z_aload_n X (q := 0) dX8_tells_90 rfl rfl ?_
                  refine z_iload_n X (q := 1) dX8_tells_91 rfl rfl ?_
                  refine z_iload_n X (q := 2) dX8_tells_92 rfl rfl ?_
                  refine z_callV X hK (As := [vI a1, vI a2]) (ci := 8) rfl (by decide) (fun o => (kX8_turnedSet l Z  b x o _ _ _)) hk_X8_426 ⟨rfl, rfl⟩ hd_X8_turnedSet ⟨Nat.le_of_ble_eq_true rfl, Nat.le_of_ble_eq_true rfl⟩ ⟨Nat.le_of_ble_eq_true rfl, Nat.le_of_ble_eq_true rfl⟩ rfl rfl (Nat.le_of_ble_eq_true rfl) dX8_tells_93 (fun _ q25 _ => ?_)
                  subst hQ; exact z_iret X hlocks hr dX8_tells_96
              · exact z_sub [0, 1, 2, 3] (J66 _ _ _ _) rfl
          · refine z_bipush X (v := (-2 : Int32)) dX8_tells_53 (by decide) ?_
            subst hQ; exact z_iret X hlocks hr dX8_tells_55
        · refine z_bipush X (v := (-11 : Int32)) dX8_tells_39 (by decide) ?_
          subst hQ; exact z_iret X hlocks hr dX8_tells_41
      · refine z_bipush X (v := (-2 : Int32)) dX8_tells_27 (by decide) ?_
        subst hQ; exact z_iret X hlocks hr dX8_tells_29
abbrev rmX8_text : Room := { frames := 43, cells := 0, slots := 0, locals := 970 }
def fX8_text_L14 (this : Nat) : Nat → Int32 → zS → Option (Int32 × zS)
  | 0, _, _ => none
  | n + 1, y1, st => (zok spM st (some this) 8).bind fun o1 => if (st.2.1 o1 6) ≤ y1 then ((zok spM st (some this) 8).bind fun o2 => (zok spM st (some this) 8).bind fun o3 => (zok spM st (some this) 8).bind fun o4 => (zok spM st (st.2.2.2 o2 2) 9).bind fun o5 => (zix spM o5 (st.2.1 o3 3)).bind fun j6 => zlet (zp st o5 j6 (st.2.1 o4 6)) fun st7 => (zok spM st7 (some this) 8).bind fun o8 => zlet (zp st7 o8 6 (0 : Int32)) fun st9 => (zok spM st9 (some this) 8).bind fun o10 => (zok spM st9 (some this) 8).bind fun o19 => (fX8_read o19 (st9.2.1 o10 3) (0 : Int32) st9).bind fun q11 => zlet (q11.1) fun v12 => (zok spM q11.2 (some this) 8).bind fun o13 => if (q11.2.2.1 o13 26) = 0 then ((zok spM q11.2 (some this) 8).bind fun o14 => (zok spM q11.2 (some this) 8).bind fun o15 => zlet (zp q11.2 o15 3 ((q11.2.2.1 o14 3) + (1 : Int32))) fun st16 => (zok spM st16 (some this) 8).bind fun o17 => some (((st16.2.1 o17 3) - (1 : Int32)), st16)) else ((zok spM q11.2 (some this) 8).bind fun o18 => some (((-100 : Int32) - (q11.2.2.1 o18 27)), q11.2))) else ((zok spM st (some this) 8).bind fun o20 => (zok spM st (some this) 8).bind fun o21 => (zok spM st (some this) 8).bind fun o22 => (zok spM st (st.2.2.2 o22 5) 9).bind fun o23 => (zix spM o23 y1).bind fun j24 => (zok spM st (st.2.2.2 o20 1) 9).bind fun o25 => (zix spM o25 (((160 : Int32) * (st.2.1 o21 3)) + y1)).bind fun j26 => zlet (zp st o25 j26 (st.2.1 o23 j24)) fun st27 => (fX8_text_L14 this n) (y1 + (1 : Int32)) st27)
def fX8_text (this : Nat) (st : zS) : Option (Int32 × zS) :=
  (zok spM st (some this) 8).bind fun o28 => if (st.2.1 o28 3) = (6 : Int32) then (some ((-4 : Int32), st)) else (fX8_text_L14 this zF (0 : Int32) st)
set_option maxRecDepth 100000 in
set_option maxHeartbeats 4000000 in
theorem kX8_text (l : Launch) (Z : zZ) (b : Nat) (x : Option Nat) (this : Nat) (st : zS) : zC l Z spM b x yX8_text (.code yX8_text cX8_text 2 (some .int)) (rmX8_text) rI [vP (some this)] st (fX8_text this st) := by
  refine z_start (own := RX8) rfl (by decide +kernel) (Nat.le_of_ble_eq_true rfl) rfl (fun p e s m args below meth c res Q A X hK hr hlocks hQ => ?_)
  have J14 : ∀ (n14 : Nat) (y1 : Int32) (st : zS), zs p l e (rmX8_text) s m args below meth c Q Z spM b x A 2 0 0 res (fX8_text_L14 this n14 y1 st) 14 [(0, vP (some this)), (1, vI y1)] [] st := by
    intro n14
    induction n14 with
    | zero => intros; exact z_none
    | succ n14 ih14 =>
      intro y1 st
      rw [fX8_text_L14]
      refine z_iload_n X (q := 1) dX8_text_14 rfl rfl ?_
      refine z_aload_n X (q := 0) dX8_text_15 rfl rfl ?_
      refine z_geti X hK (N := 46) (ci := 8) (k := 6) rfl (by decide) inlX8 (by decide) hf_X8_120 rfl spM_X8 rfl dX8_text_16 (fun o1 _ => ?_)
      refine z_icmp_ge X (tgt := 49) dX8_text_19 (by decide) (fun _ => ?_) (fun _ => ?_)
      · refine z_aload_n X (q := 0) dX8_text_49 rfl rfl ?_
        refine z_getr X hK (N := 46) (ci := 8) (k := 2) rfl (by decide) inlX8 (by decide) hf_X8_17 rfl spM_X8 rfl dX8_text_50 (fun o2 _ => ?_)
        refine z_aload_n X (q := 0) dX8_text_53 rfl rfl ?_
        refine z_geti X hK (N := 46) (ci := 8) (k := 3) rfl (by decide) inlX8 (by decide) hf_X8_71 rfl spM_X8 rfl dX8_text_54 (fun o3 _ => ?_)
        refine z_aload_n X (q := 0) dX8_text_57 rfl rfl ?_
        refine z_geti X hK (N := 46) (ci := 8) (k := 6) rfl (by decide) inlX8 (by decide) hf_X8_120 rfl spM_X8 rfl dX8_text_58 (fun o4 _ => ?_)
        refine z_iast X hK dX8_text_61 (fun o5 j6 st7 _ _ => ?_)
        refine z_aload_n X (q := 0) dX8_text_62 rfl rfl ?_
        refine z_iconst X (v := (0 : Int32)) dX8_text_63 (by decide) ?_
        refine z_puti X hK (N := 46) (ci := 8) (k := 6) rfl (by decide) inlX8 tyX8 tyX8_ok nmX8 (by decide) hf_X8_120 rfl rfl spM_X8 rfl (by decide +kernel) dX8_text_64 (fun o8 st9 _ => ?_)
        refine z_aload_n X (q := 0) dX8_text_67 rfl rfl ?_
        refine z_aload_n X (q := 0) dX8_text_68 rfl rfl ?_
        refine z_geti X hK (N := 46) (ci := 8) (k := 3) rfl (by decide) inlX8 (by decide) hf_X8_71 rfl spM_X8 rfl dX8_text_69 (fun o10 _ => ?_)
        refine z_iconst X (v := (0 : Int32)) dX8_text_72 (by decide) ?_
        refine z_callV X hK (As := [vI (st9.2.1 o10 3), vI (0 : Int32)]) (ci := 8) rfl (by decide) (fun o => (kX8_read l Z  b x o _ _ _)) hk_X8_324 ⟨rfl, rfl⟩ hd_X8_read ⟨Nat.le_of_ble_eq_true rfl, Nat.le_of_ble_eq_true rfl⟩ ⟨Nat.le_of_ble_eq_true rfl, Nat.le_of_ble_eq_true rfl⟩ rfl rfl (Nat.le_of_ble_eq_true rfl) dX8_text_73 (fun _ q11 _ => ?_)
        refine z_name (fun v12 => ?_)
        refine z_istore_n X dX8_text_76 rfl (Nat.le_of_ble_eq_true rfl) rfl ?_
        refine z_aload_n X (q := 1) dX8_text_77 rfl rfl ?_
        refine z_geti X hK (N := 46) (ci := 8) (k := 26) rfl (by decide) inlX8 (by decide) hf_X8_155 rfl spM_X8 rfl dX8_text_78 (fun o13 _ => ?_)
        refine z_if_eq X (tgt := 92) dX8_text_81 (by decide) (fun _ => ?_) (fun _ => ?_)
        · refine z_aload_n X (q := 1) dX8_text_92 rfl rfl ?_
          refine z_dup X dX8_text_93 rfl ?_
          refine z_geti X hK (N := 46) (ci := 8) (k := 3) rfl (by decide) inlX8 (by decide) hf_X8_71 rfl spM_X8 rfl dX8_text_94 (fun o14 _ => ?_)
          refine z_iconst X (v := (1 : Int32)) dX8_text_97 (by decide) ?_
          refine z_iadd X dX8_text_98 ?_
          refine z_puti X hK (N := 46) (ci := 8) (k := 3) rfl (by decide) inlX8 tyX8 tyX8_ok nmX8 (by decide) hf_X8_71 rfl rfl spM_X8 rfl (by decide +kernel) dX8_text_99 (fun o15 st16 _ => ?_)
          refine z_aload_n X (q := 1) dX8_text_102 rfl rfl ?_
          refine z_geti X hK (N := 46) (ci := 8) (k := 3) rfl (by decide) inlX8 (by decide) hf_X8_71 rfl spM_X8 rfl dX8_text_103 (fun o17 _ => ?_)
          refine z_iconst X (v := (1 : Int32)) dX8_text_106 (by decide) ?_
          refine z_isub X dX8_text_107 ?_
          subst hQ; exact z_iret X hlocks hr dX8_text_108
        · refine z_bipush X (v := (-100 : Int32)) dX8_text_84 (by decide) ?_
          refine z_aload_n X (q := 1) dX8_text_86 rfl rfl ?_
          refine z_geti X hK (N := 46) (ci := 8) (k := 27) rfl (by decide) inlX8 (by decide) hf_X8_159 rfl spM_X8 rfl dX8_text_87 (fun o18 _ => ?_)
          refine z_isub X dX8_text_90 ?_
          subst hQ; exact z_iret X hlocks hr dX8_text_91
      · refine z_aload_n X (q := 0) dX8_text_22 rfl rfl ?_
        refine z_getr X hK (N := 46) (ci := 8) (k := 1) rfl (by decide) inlX8 (by decide) hf_X8_13 rfl spM_X8 rfl dX8_text_23 (fun o20 _ => ?_)
        refine z_sipush X (v := (160 : Int32)) dX8_text_26 (by decide) ?_
        refine z_aload_n X (q := 0) dX8_text_29 rfl rfl ?_
        refine z_geti X hK (N := 46) (ci := 8) (k := 3) rfl (by decide) inlX8 (by decide) hf_X8_71 rfl spM_X8 rfl dX8_text_30 (fun o21 _ => ?_)
        refine z_imul X dX8_text_33 ?_
        refine z_iload_n X (q := 1) dX8_text_34 rfl rfl ?_
        refine z_iadd X dX8_text_35 ?_
        refine z_aload_n X (q := 0) dX8_text_36 rfl rfl ?_
        refine z_getr X hK (N := 46) (ci := 8) (k := 5) rfl (by decide) inlX8 (by decide) hf_X8_20 rfl spM_X8 rfl dX8_text_37 (fun o22 _ => ?_)
        refine z_iload_n X (q := 1) dX8_text_40 rfl rfl ?_
        refine z_iald X hK dX8_text_41 (fun o23 j24 _ _ => ?_)
        refine z_iast X hK dX8_text_42 (fun o25 j26 st27 _ _ => ?_)
        refine z_iinc X (q := 1) (y := y1 + (1 : Int32)) dX8_text_43 rfl rfl (Nat.le_of_ble_eq_true rfl) rfl ?_
        refine z_goto X (tgt := 14) dX8_text_46 (by decide) ?_
        exact z_sub [1, 0] (ih14 _ _) rfl
  rw [fX8_text]
  refine z_aload_n X (q := 0) dX8_text_0 rfl rfl ?_
  refine z_geti X hK (N := 46) (ci := 8) (k := 3) rfl (by decide) inlX8 (by decide) hf_X8_71 rfl spM_X8 rfl dX8_text_1 (fun o28 _ => ?_)
  refine z_bipush X (v := (6 : Int32)) dX8_text_4 (by decide) ?_
  refine z_icmp_ne X (tgt := 12) dX8_text_6 (by decide) (fun _ => ?_) (fun _ => ?_)
  · refine z_iconst X (v := (0 : Int32)) dX8_text_12 (by decide) ?_
    refine z_istore_n X dX8_text_13 rfl (Nat.le_of_ble_eq_true rfl) rfl ?_
    exact z_sub [1, 0] (J14 _ _ _) rfl
  · refine z_bipush X (v := (-4 : Int32)) dX8_text_9 (by decide) ?_
    subst hQ; exact z_iret X hlocks hr dX8_text_11
