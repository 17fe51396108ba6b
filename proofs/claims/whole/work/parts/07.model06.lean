abbrev rmX8_force : Room := { frames := 2, cells := 0, slots := 0, locals := 65 }
def fX8_force (this : Nat) (a1 : Int32) (st : zS) : Option (Int32 × zS) :=
  (zok spM st (some this) 8).bind fun o1 => (fX8_in (a1.toInt64) (0 : Int64) (((st.2.1 o1 3) - (1 : Int32)).toInt64) st).bind fun q2 => if q2.1 = 0 then (some ((-2 : Int32), q2.2)) else ((zok spM q2.2 (some this) 8).bind fun o3 => zlet ((q2.2.2.1 o3 4)) fun v4 => (zok spM q2.2 (some this) 8).bind fun o5 => zlet (zp q2.2 o5 4 a1) fun st6 => some (v4, st6))
set_option maxRecDepth 100000 in
set_option maxHeartbeats 4000000 in
theorem kX8_force (l : Launch) (Z : zZ) (b : Nat) (x : Option Nat) (this : Nat) (a1 : Int32) (st : zS) : zC l Z spM b x yX8_force (.code yX8_force cX8_force 3 (some .int)) (rmX8_force) rI [vP (some this), vI a1] st (fX8_force this a1 st) := by
  refine z_start (own := RX8) rfl (by decide +kernel) (Nat.le_of_ble_eq_true rfl) rfl (fun p e s m args below meth c res Q A X hK hr hlocks hQ => ?_)
  rw [fX8_force]
  refine z_iload_n X (q := 1) dX8_force_0 rfl rfl ?_
  refine z_i2l X dX8_force_1 ?_
  refine z_lconst X (v := (0 : Int64)) dX8_force_2 (by decide) ?_
  refine z_aload_n X (q := 0) dX8_force_3 rfl rfl ?_
  refine z_geti X hK (N := 46) (ci := 8) (k := 3) rfl (by decide) inlX8 (by decide) hf_X8_71 rfl spM_X8 rfl dX8_force_4 (fun o1 _ => ?_)
  refine z_iconst X (v := (1 : Int32)) dX8_force_7 (by decide) ?_
  refine z_isub X dX8_force_8 ?_
  refine z_i2l X dX8_force_9 ?_
  refine z_callS X hK (As := [vL (a1.toInt64), vL (0 : Int64), vL (((st.2.1 o1 3) - (1 : Int32)).toInt64)]) (kX8_in l Z  b x _ _ _ _) hk_X8_77 ⟨rfl, rfl⟩ hd_X8_in.2 ⟨Nat.le_of_ble_eq_true rfl, Nat.le_of_ble_eq_true rfl⟩ ⟨Nat.le_of_ble_eq_true rfl, Nat.le_of_ble_eq_true rfl⟩ rfl rfl (Nat.le_of_ble_eq_true rfl) dX8_force_10 (fun q2 => ?_)
  refine z_if_ne X (tgt := 19) dX8_force_13 (by decide) (fun _ => ?_) (fun _ => ?_)
  · refine z_aload_n X (q := 0) dX8_force_19 rfl rfl ?_
    refine z_geti X hK (N := 46) (ci := 8) (k := 4) rfl (by decide) inlX8 (by decide) hf_X8_106 rfl spM_X8 rfl dX8_force_20 (fun o3 _ => ?_)
    refine z_name (fun v4 => ?_)
    refine z_istore_n X dX8_force_23 rfl (Nat.le_of_ble_eq_true rfl) rfl ?_
    refine z_aload_n X (q := 1) dX8_force_24 rfl rfl ?_
    refine z_iload_n X (q := 2) dX8_force_25 rfl rfl ?_
    refine z_puti X hK (N := 46) (ci := 8) (k := 4) rfl (by decide) inlX8 tyX8 tyX8_ok nmX8 (by decide) hf_X8_106 rfl rfl spM_X8 rfl (by decide +kernel) dX8_force_26 (fun o5 st6 _ => ?_)
    refine z_iload_n X (q := 0) dX8_force_29 rfl rfl ?_
    subst hQ; exact z_iret X hlocks hr dX8_force_30
  · refine z_bipush X (v := (-2 : Int32)) dX8_force_16 (by decide) ?_
    subst hQ; exact z_iret X hlocks hr dX8_force_18
theorem zw_849 : Cond.constantLong RX8 81 (11) ∈ wsL_law := zr_7 _ (by decide +kernel)
theorem hc_X8_81 : Cond.constantLong RX8 81 (11) ∈ wsL_law := zw_849
abbrev rmX8_isThing : Room := { frames := 2, cells := 0, slots := 0, locals := 65 }
def fX8_isThing (a0 : Int32) (st : zS) : Option (Int32 × zS) :=
  (fX8_in (a0.toInt64) (0 : Int64) (11 : Int64) st).bind fun q1 => if q1.1 = 0 ∨ q1.1 = 1 then some (q1.1, q1.2) else none
set_option maxRecDepth 100000 in
set_option maxHeartbeats 4000000 in
theorem kX8_isThing (l : Launch) (Z : zZ) (b : Nat) (x : Option Nat) (a0 : Int32) (st : zS) : zC l Z spM b x yX8_isThing (.code yX8_isThing cX8_isThing 1 (some .boolean)) (rmX8_isThing) rI [vI a0] st (fX8_isThing a0 st) := by
  refine z_start (own := RX8) rfl (by decide +kernel) (Nat.le_of_ble_eq_true rfl) rfl (fun p e s m args below meth c res Q A X hK hr hlocks hQ => ?_)
  rw [fX8_isThing]
  refine z_iload_n X (q := 0) dX8_isThing_0 rfl rfl ?_
  refine z_i2l X dX8_isThing_1 ?_
  refine z_lconst X (v := (0 : Int64)) dX8_isThing_2 (by decide) ?_
  refine z_ldc2 X (v := (11 : Int64)) (hc_X8_81) dX8_isThing_3 ?_
  refine z_callS X hK (As := [vL (a0.toInt64), vL (0 : Int64), vL (11 : Int64)]) (kX8_in l Z  b x _ _ _ _) hk_X8_77 ⟨rfl, rfl⟩ hd_X8_in.2 ⟨Nat.le_of_ble_eq_true rfl, Nat.le_of_ble_eq_true rfl⟩ ⟨Nat.le_of_ble_eq_true rfl, Nat.le_of_ble_eq_true rfl⟩ rfl rfl (Nat.le_of_ble_eq_true rfl) dX8_isThing_6 (fun q1 => ?_)
  subst hQ; exact z_zret X hlocks hr dX8_isThing_9
theorem zw_850 : Cond.methodLink RX8 83 yX8_isThing ∈ wsL_law := zr_7 _ (by decide +kernel)
theorem zw_851 : Cond.static yX8_isThing ∈ wsL_law := zr_7 _ (by decide +kernel)
theorem zw_852 : Cond.code yX8_isThing cX8_isThing 1 (some .boolean) ∈ wsL_law := zr_7 _ (by decide +kernel)
theorem hk_X8_83 : ∀ w ∈ ([Cond.methodLink RX8 83 yX8_isThing, Cond.static yX8_isThing, Cond.initialized RX8, Cond.code yX8_isThing cX8_isThing 1 (some .boolean)] : List Cond), w ∈ wsL_law := List.forall_mem_cons.mpr ⟨zw_850, List.forall_mem_cons.mpr ⟨zw_851, List.forall_mem_cons.mpr ⟨zw_525, List.forall_mem_cons.mpr ⟨zw_852, fun _ h => absurd h List.not_mem_nil⟩⟩⟩⟩
theorem hd_X8_isThing : yX8_isThing.cls = RX8 ∧ yX8_isThing.cls ≠ "java/lang/invoke/MethodHandle" ∧ yX8_isThing.cls ≠ "java/lang/invoke/VarHandle" ∧ (parseMethodDescriptor yX8_isThing.desc).map (fun d => d.parameters.length) = some 1 := by decide +kernel
theorem zw_853 : Cond.fieldLink RX8 32 "WellGivesOtherModel" "sets" "[I" ∈ wsL_law := zr_6 _ (by decide +kernel)
theorem hf_X8_32 : Cond.fieldLink RX8 32 "WellGivesOtherModel" "sets" "[I" ∈ wsL_law := zw_853
abbrev rmX8_get : Room := { frames := 45, cells := 0, slots := 0, locals := 1024 }
def fX8_get_j102 (this : Nat) (k38 : Int32 → Int32 → Int32 → Int32 → Int32 → Int32 → zS → Option (Int32 × zS)) (y1 : Int32) (y2 : Int32) (y3 : Int32) (y4 : Int32) (y5 : Int32) (y6 : Int32) (st : zS) : Option (Int32 × zS) :=
  k38 y1 y2 y3 y4 y5 (y6 + (1 : Int32)) st
def fX8_get_j118 (this : Nat) (y4 : Int32) (st : zS) : Option (Int32 × zS) :=
  some (y4, st)
def fX8_get_L38 (this : Nat) : Nat → Int32 → Int32 → Int32 → Int32 → Int32 → Int32 → zS → Option (Int32 × zS)
  | 0, _, _, _, _, _, _, _ => none
  | n + 1, y1, y2, y3, y4, y5, y6, st => if (298 : Int32) ≤ y6 then (if y3 = 0 then (fX8_get_j118 this y4 st) else (if y4 = (-1 : Int32) then (fX8_get_j118 this y4 st) else (some (y5, st)))) else ((zok spM st (some this) 8).bind fun o1 => (zok spM st (st.2.2.2 o1 12) 9).bind fun o2 => (zix spM o2 y6).bind fun j3 => (zok spM st (some this) 8).bind fun o20 => (fX8_given o20 y1 (st.2.1 o2 j3) st).bind fun q4 => if q4.1 = y2 then ((zok spM q4.2 (some this) 8).bind fun o5 => (zok spM q4.2 (q4.2.2.2.2 o5 12) 9).bind fun o6 => (zix spM o6 y6).bind fun j7 => (zok spM q4.2 (some this) 8).bind fun o19 => (fX8_costsOf o19 y1 (q4.2.2.1 o6 j7) q4.2).bind fun q8 => if y5 ≤ q8.1 then (fX8_get_j102 this (fX8_get_L38 this n) y1 y2 y3 y4 y5 y6 q8.2) else ((zok spM q8.2 (some this) 8).bind fun o9 => (zok spM q8.2 (q8.2.2.2.2 o9 12) 9).bind fun o10 => (zix spM o10 y6).bind fun j11 => zlet ((q8.2.2.1 o10 j11)) fun v12 => (zok spM q8.2 (some this) 8).bind fun o13 => (zok spM q8.2 (q8.2.2.2.2 o13 12) 9).bind fun o14 => (zix spM o14 y6).bind fun j15 => (zok spM q8.2 (some this) 8).bind fun o18 => (fX8_costsOf o18 y1 (q8.2.2.1 o14 j15) q8.2).bind fun q16 => zlet (q16.1) fun v17 => fX8_get_j102 this (fX8_get_L38 this n) y1 y2 y3 v12 v17 y6 q16.2)) else (fX8_get_j102 this (fX8_get_L38 this n) y1 y2 y3 y4 y5 y6 q4.2))
def fX8_get (this : Nat) (a1 : Int32) (a2 : Int32) (a3 : Int32) (st : zS) : Option (Int32 × zS) :=
  (zok spM st (some this) 8).bind fun o24 => (fX8_isOne o24 a1 st).bind fun q21 => if q21.1 = 0 then (some ((-2 : Int32), q21.2)) else ((fX8_isThing a2 q21.2).bind fun q22 => if q22.1 = 0 then (some ((-2 : Int32), q22.2)) else ((fX8_in (a3.toInt64) (0 : Int64) (1 : Int64) q22.2).bind fun q23 => if q23.1 = 0 then (some ((-2 : Int32), q23.2)) else (fX8_get_L38 this zF a1 a2 a3 (-1 : Int32) (100 : Int32) (0 : Int32) q23.2)))
set_option maxRecDepth 100000 in
set_option maxHeartbeats 4000000 in
theorem kX8_get (l : Launch) (Z : zZ) (b : Nat) (x : Option Nat) (this : Nat) (a1 : Int32) (a2 : Int32) (a3 : Int32) (st : zS) : zC l Z spM b x yX8_get (.code yX8_get cX8_get 7 (some .int)) (rmX8_get) rI [vP (some this), vI a1, vI a2, vI a3] st (fX8_get this a1 a2 a3 st) := by
  refine z_start (own := RX8) rfl (by decide +kernel) (Nat.le_of_ble_eq_true rfl) rfl (fun p e s m args below meth c res Q A X hK hr hlocks hQ => ?_)
  have J118 : ∀ (y4 : Int32) (st : zS), zs p l e (rmX8_get) s m args below meth c Q Z spM b x A 7 0 0 res (fX8_get_j118 this y4 st) 118 [(4, vI y4)] [] st := by
    intro y4 st
    rw [fX8_get_j118]
    refine z_iload X (q := 0) dX8_get_118 rfl ?_
    refine z_goto X (tgt := 125) dX8_get_120 (by decide) ?_
    subst hQ; exact z_iret X hlocks hr dX8_get_125
  have J38 : ∀ (n38 : Nat) (y1 : Int32) (y2 : Int32) (y3 : Int32) (y4 : Int32) (y5 : Int32) (y6 : Int32) (st : zS), zs p l e (rmX8_get) s m args below meth c Q Z spM b x A 7 0 0 res (fX8_get_L38 this n38 y1 y2 y3 y4 y5 y6 st) 38 [(0, vP (some this)), (1, vI y1), (2, vI y2), (3, vI y3), (4, vI y4), (5, vI y5), (6, vI y6)] [] st := by
    intro n38
    induction n38 with
    | zero => intros; exact z_none
    | succ n38 ih38 =>
      have J102 : ∀ (y1 : Int32) (y2 : Int32) (y3 : Int32) (y4 : Int32) (y5 : Int32) (y6 : Int32) (st : zS), zs p l e (rmX8_get) s m args below meth c Q Z spM b x A 7 0 0 res (fX8_get_j102 this (fX8_get_L38 this n38) y1 y2 y3 y4 y5 y6 st) 102 [(0, vP (some this)), (1, vI y1), (2, vI y2), (3, vI y3), (4, vI y4), (5, vI y5), (6, vI y6)] [] st := by
        intro y1 y2 y3 y4 y5 y6 st
        rw [fX8_get_j102]
        refine z_iinc X (q := 6) (y := y6 + (1 : Int32)) dX8_get_102 rfl rfl (Nat.le_of_ble_eq_true rfl) rfl ?_
        refine z_goto X (tgt := 38) dX8_get_105 (by decide) ?_
        exact z_sub [1, 2, 3, 4, 5, 6, 0] (ih38 _ _ _ _ _ _ _) rfl
      intro y1 y2 y3 y4 y5 y6 st
      rw [fX8_get_L38]
      refine z_iload X (q := 6) dX8_get_38 rfl ?_
      refine z_sipush X (v := (298 : Int32)) dX8_get_40 (by decide) ?_
      refine z_icmp_ge X (tgt := 108) dX8_get_43 (by decide) (fun _ => ?_) (fun _ => ?_)
      · refine z_iload_n X (q := 3) dX8_get_108 rfl rfl ?_
        refine z_if_eq X (tgt := 118) dX8_get_109 (by decide) (fun _ => ?_) (fun _ => ?_)
        · exact z_sub [4] (J118 _ _) rfl
        · refine z_iload X (q := 4) dX8_get_112 rfl ?_
          refine z_iconst X (v := (-1 : Int32)) dX8_get_114 (by decide) ?_
          refine z_icmp_ne X (tgt := 123) dX8_get_115 (by decide) (fun _ => ?_) (fun _ => ?_)
          · refine z_iload X (q := 5) dX8_get_123 rfl ?_
            subst hQ; exact z_iret X hlocks hr dX8_get_125
          · exact z_sub [4] (J118 _ _) rfl
      · refine z_aload_n X (q := 0) dX8_get_46 rfl rfl ?_
        refine z_iload_n X (q := 1) dX8_get_47 rfl rfl ?_
        refine z_aload_n X (q := 0) dX8_get_48 rfl rfl ?_
        refine z_getr X hK (N := 46) (ci := 8) (k := 12) rfl (by decide) inlX8 (by decide) hf_X8_32 rfl spM_X8 rfl dX8_get_49 (fun o1 _ => ?_)
        refine z_iload X (q := 6) dX8_get_52 rfl ?_
        refine z_iald X hK dX8_get_54 (fun o2 j3 _ _ => ?_)
        refine z_callV X hK (As := [vI y1, vI (st.2.1 o2 j3)]) (ci := 8) rfl (by decide) (fun o => (kX8_given l Z  b x o _ _ _)) hk_X8_354 ⟨rfl, rfl⟩ hd_X8_given ⟨Nat.le_of_ble_eq_true rfl, Nat.le_of_ble_eq_true rfl⟩ ⟨Nat.le_of_ble_eq_true rfl, Nat.le_of_ble_eq_true rfl⟩ rfl rfl (Nat.le_of_ble_eq_true rfl) dX8_get_55 (fun _ q4 _ => ?_)
        refine z_iload_n X (q := 2) dX8_get_58 rfl rfl ?_
        refine z_icmp_ne X (tgt := 102) dX8_get_59 (by decide) (fun _ => ?_) (fun _ => ?_)
        · exact z_sub [0, 1, 2, 3, 4, 5, 6] (J102 _ _ _ _ _ _ _) rfl
        · refine z_aload_n X (q := 0) dX8_get_62 rfl rfl ?_
          refine z_iload_n X (q := 1) dX8_get_63 rfl rfl ?_
          refine z_aload_n X (q := 0) dX8_get_64 rfl rfl ?_
          refine z_getr X hK (N := 46) (ci := 8) (k := 12) rfl (by decide) inlX8 (by decide) hf_X8_32 rfl spM_X8 rfl dX8_get_65 (fun o5 _ => ?_)
          refine z_iload X (q := 6) dX8_get_68 rfl ?_
          refine z_iald X hK dX8_get_70 (fun o6 j7 _ _ => ?_)
          refine z_callV X hK (As := [vI y1, vI (q4.2.2.1 o6 j7)]) (ci := 8) rfl (by decide) (fun o => (kX8_costsOf l Z  b x o _ _ _)) hk_X8_360 ⟨rfl, rfl⟩ hd_X8_costsOf ⟨Nat.le_of_ble_eq_true rfl, Nat.le_of_ble_eq_true rfl⟩ ⟨Nat.le_of_ble_eq_true rfl, Nat.le_of_ble_eq_true rfl⟩ rfl rfl (Nat.le_of_ble_eq_true rfl) dX8_get_71 (fun _ q8 _ => ?_)
          refine z_iload X (q := 5) dX8_get_74 rfl ?_
          refine z_icmp_ge X (tgt := 102) dX8_get_76 (by decide) (fun _ => ?_) (fun _ => ?_)
          · exact z_sub [0, 1, 2, 3, 4, 5, 6] (J102 _ _ _ _ _ _ _) rfl
          · refine z_aload_n X (q := 0) dX8_get_79 rfl rfl ?_
            refine z_getr X hK (N := 46) (ci := 8) (k := 12) rfl (by decide) inlX8 (by decide) hf_X8_32 rfl spM_X8 rfl dX8_get_80 (fun o9 _ => ?_)
            refine z_iload X (q := 6) dX8_get_83 rfl ?_
            refine z_iald X hK dX8_get_85 (fun o10 j11 _ _ => ?_)
            refine z_name (fun v12 => ?_)
            refine z_istore X dX8_get_86 (Nat.le_of_ble_eq_true rfl) rfl ?_
            refine z_aload_n X (q := 1) dX8_get_88 rfl rfl ?_
            refine z_iload_n X (q := 2) dX8_get_89 rfl rfl ?_
            refine z_aload_n X (q := 1) dX8_get_90 rfl rfl ?_
            refine z_getr X hK (N := 46) (ci := 8) (k := 12) rfl (by decide) inlX8 (by decide) hf_X8_32 rfl spM_X8 rfl dX8_get_91 (fun o13 _ => ?_)
            refine z_iload X (q := 6) dX8_get_94 rfl ?_
            refine z_iald X hK dX8_get_96 (fun o14 j15 _ _ => ?_)
            refine z_callV X hK (As := [vI y1, vI (q8.2.2.1 o14 j15)]) (ci := 8) rfl (by decide) (fun o => (kX8_costsOf l Z  b x o _ _ _)) hk_X8_360 ⟨rfl, rfl⟩ hd_X8_costsOf ⟨Nat.le_of_ble_eq_true rfl, Nat.le_of_ble_eq_true rfl⟩ ⟨Nat.le_of_ble_eq_true rfl, Nat.le_of_ble_eq_true rfl⟩ rfl rfl (Nat.le_of_ble_eq_true rfl) dX8_get_97 (fun _ q16 _ => ?_)
            refine z_name (fun v17 => ?_)
            refine z_istore X dX8_get_100 (Nat.le_of_ble_eq_true rfl) rfl ?_
            exact z_sub [2, 3, 4, 5, 1, 0, 6] (J102 _ _ _ _ _ _ _) rfl
  rw [fX8_get]
  refine z_aload_n X (q := 0) dX8_get_0 rfl rfl ?_
  refine z_iload_n X (q := 1) dX8_get_1 rfl rfl ?_
  refine z_callV X hK (As := [vI a1]) (ci := 8) rfl (by decide) (fun o => (kX8_isOne l Z  b x o _ _)) hk_X8_89 ⟨rfl, rfl⟩ hd_X8_isOne ⟨Nat.le_of_ble_eq_true rfl, Nat.le_of_ble_eq_true rfl⟩ ⟨Nat.le_of_ble_eq_true rfl, Nat.le_of_ble_eq_true rfl⟩ rfl rfl (Nat.le_of_ble_eq_true rfl) dX8_get_2 (fun _ q21 _ => ?_)
  refine z_if_eq X (tgt := 25) dX8_get_5 (by decide) (fun _ => ?_) (fun _ => ?_)
  · refine z_bipush X (v := (-2 : Int32)) dX8_get_25 (by decide) ?_
    subst hQ; exact z_iret X hlocks hr dX8_get_27
  · refine z_iload_n X (q := 2) dX8_get_8 rfl rfl ?_
    refine z_callS X hK (As := [vI a2]) (kX8_isThing l Z  b x _ _) hk_X8_83 ⟨rfl, rfl⟩ hd_X8_isThing.2 ⟨Nat.le_of_ble_eq_true rfl, Nat.le_of_ble_eq_true rfl⟩ ⟨Nat.le_of_ble_eq_true rfl, Nat.le_of_ble_eq_true rfl⟩ rfl rfl (Nat.le_of_ble_eq_true rfl) dX8_get_9 (fun q22 => ?_)
    refine z_if_eq X (tgt := 25) dX8_get_12 (by decide) (fun _ => ?_) (fun _ => ?_)
    · refine z_bipush X (v := (-2 : Int32)) dX8_get_25 (by decide) ?_
      subst hQ; exact z_iret X hlocks hr dX8_get_27
    · refine z_iload_n X (q := 3) dX8_get_15 rfl rfl ?_
      refine z_i2l X dX8_get_16 ?_
      refine z_lconst X (v := (0 : Int64)) dX8_get_17 (by decide) ?_
      refine z_lconst X (v := (1 : Int64)) dX8_get_18 (by decide) ?_
      refine z_callS X hK (As := [vL (a3.toInt64), vL (0 : Int64), vL (1 : Int64)]) (kX8_in l Z  b x _ _ _ _) hk_X8_77 ⟨rfl, rfl⟩ hd_X8_in.2 ⟨Nat.le_of_ble_eq_true rfl, Nat.le_of_ble_eq_true rfl⟩ ⟨Nat.le_of_ble_eq_true rfl, Nat.le_of_ble_eq_true rfl⟩ rfl rfl (Nat.le_of_ble_eq_true rfl) dX8_get_19 (fun q23 => ?_)
      refine z_if_ne X (tgt := 28) dX8_get_22 (by decide) (fun _ => ?_) (fun _ => ?_)
      · refine z_iconst X (v := (-1 : Int32)) dX8_get_28 (by decide) ?_
        refine z_istore X dX8_get_29 (Nat.le_of_ble_eq_true rfl) rfl ?_
        refine z_bipush X (v := (100 : Int32)) dX8_get_31 (by decide) ?_
        refine z_istore X dX8_get_33 (Nat.le_of_ble_eq_true rfl) rfl ?_
        refine z_iconst X (v := (0 : Int32)) dX8_get_35 (by decide) ?_
        refine z_istore X dX8_get_36 (Nat.le_of_ble_eq_true rfl) rfl ?_
        exact z_sub [3, 4, 5, 6, 2, 1, 0] (J38 _ _ _ _ _ _ _ _) rfl
      · refine z_bipush X (v := (-2 : Int32)) dX8_get_25 (by decide) ?_
        subst hQ; exact z_iret X hlocks hr dX8_get_27
abbrev rmX8_glad : Room := { frames := 45, cells := 0, slots := 0, locals := 1019 }
def fX8_glad_j24 (this : Nat) (st : zS) : Option (Int32 × zS) :=
  some ((-1000 : Int32), st)
def fX8_glad (this : Nat) (a1 : Int32) (a2 : Int32) (st : zS) : Option (Int32 × zS) :=
  (zok spM st (some this) 8).bind fun o5 => (fX8_isOne o5 a1 st).bind fun q1 => if q1.1 = 0 then (fX8_glad_j24 this q1.2) else ((fX8_isThing a2 q1.2).bind fun q2 => if q2.1 = 0 then (fX8_glad_j24 this q2.2) else ((zok spM q2.2 (some this) 8).bind fun o4 => (fX8_gladOf o4 a1 a2 q2.2).bind fun q3 => some (q3.1, q3.2)))
set_option maxRecDepth 100000 in
set_option maxHeartbeats 4000000 in
theorem kX8_glad (l : Launch) (Z : zZ) (b : Nat) (x : Option Nat) (this : Nat) (a1 : Int32) (a2 : Int32) (st : zS) : zC l Z spM b x yX8_glad (.code yX8_glad cX8_glad 3 (some .int)) (rmX8_glad) rI [vP (some this), vI a1, vI a2] st (fX8_glad this a1 a2 st) := by
  refine z_start (own := RX8) rfl (by decide +kernel) (Nat.le_of_ble_eq_true rfl) rfl (fun p e s m args below meth c res Q A X hK hr hlocks hQ => ?_)
  have J24 : ∀ (st : zS), zs p l e (rmX8_glad) s m args below meth c Q Z spM b x A 3 0 0 res (fX8_glad_j24 this st) 24 [] [] st := by
    intro  st
    rw [fX8_glad_j24]
    refine z_sipush X (v := (-1000 : Int32)) dX8_glad_24 (by decide) ?_
    subst hQ; exact z_iret X hlocks hr dX8_glad_27
  rw [fX8_glad]
  refine z_aload_n X (q := 0) dX8_glad_0 rfl rfl ?_
  refine z_iload_n X (q := 1) dX8_glad_1 rfl rfl ?_
  refine z_callV X hK (As := [vI a1]) (ci := 8) rfl (by decide) (fun o => (kX8_isOne l Z  b x o _ _)) hk_X8_89 ⟨rfl, rfl⟩ hd_X8_isOne ⟨Nat.le_of_ble_eq_true rfl, Nat.le_of_ble_eq_true rfl⟩ ⟨Nat.le_of_ble_eq_true rfl, Nat.le_of_ble_eq_true rfl⟩ rfl rfl (Nat.le_of_ble_eq_true rfl) dX8_glad_2 (fun _ q1 _ => ?_)
  refine z_if_eq X (tgt := 24) dX8_glad_5 (by decide) (fun _ => ?_) (fun _ => ?_)
  · exact z_sub [] (J24  _) rfl
  · refine z_iload_n X (q := 2) dX8_glad_8 rfl rfl ?_
    refine z_callS X hK (As := [vI a2]) (kX8_isThing l Z  b x _ _) hk_X8_83 ⟨rfl, rfl⟩ hd_X8_isThing.2 ⟨Nat.le_of_ble_eq_true rfl, Nat.le_of_ble_eq_true rfl⟩ ⟨Nat.le_of_ble_eq_true rfl, Nat.le_of_ble_eq_true rfl⟩ rfl rfl (Nat.le_of_ble_eq_true rfl) dX8_glad_9 (fun q2 => ?_)
    refine z_if_eq X (tgt := 24) dX8_glad_12 (by decide) (fun _ => ?_) (fun _ => ?_)
    · exact z_sub [] (J24  _) rfl
    · refine z_aload_n X (q := 0) dX8_glad_15 rfl rfl ?_
      refine z_iload_n X (q := 1) dX8_glad_16 rfl rfl ?_
      refine z_iload_n X (q := 2) dX8_glad_17 rfl rfl ?_
      refine z_callV X hK (As := [vI a1, vI a2]) (ci := 8) rfl (by decide) (fun o => (kX8_gladOf l Z  b x o _ _ _)) hk_X8_363 ⟨rfl, rfl⟩ hd_X8_gladOf ⟨Nat.le_of_ble_eq_true rfl, Nat.le_of_ble_eq_true rfl⟩ ⟨Nat.le_of_ble_eq_true rfl, Nat.le_of_ble_eq_true rfl⟩ rfl rfl (Nat.le_of_ble_eq_true rfl) dX8_glad_18 (fun _ q3 _ => ?_)
      refine z_goto X (tgt := 27) dX8_glad_21 (by decide) ?_
      subst hQ; exact z_iret X hlocks hr dX8_glad_27
abbrev rmX8_gladdest : Room := { frames := 45, cells := 0, slots := 0, locals := 1024 }
def fX8_gladdest_j94 (this : Nat) (k32 : Int32 → Int32 → Int32 → Int32 → Int32 → zS → Option (Int32 × zS)) (y1 : Int32) (y2 : Int32) (y3 : Int32) (y4 : Int32) (y5 : Int32) (st : zS) : Option (Int32 × zS) :=
  k32 y1 y2 y3 y4 (y5 + (1 : Int32)) st
def fX8_gladdest_j73 (this : Nat) (k32 : Int32 → Int32 → Int32 → Int32 → Int32 → zS → Option (Int32 × zS)) (y1 : Int32) (y2 : Int32) (y3 : Int32) (y4 : Int32) (y5 : Int32) (s0 : Int32) (st : zS) : Option (Int32 × zS) :=
  if s0 ≤ y4 then (fX8_gladdest_j94 this k32 y1 y2 y3 y4 y5 st) else ((zok spM st (some this) 8).bind fun o1 => (zok spM st (st.2.2.2 o1 12) 9).bind fun o2 => (zix spM o2 y5).bind fun j3 => zlet ((st.2.1 o2 j3)) fun v4 => fX8_gladdest_j94 this k32 y1 y2 v4 s0 y5 st)
def fX8_gladdest_L32 (this : Nat) : Nat → Int32 → Int32 → Int32 → Int32 → Int32 → zS → Option (Int32 × zS)
  | 0, _, _, _, _, _, _ => none
  | n + 1, y1, y2, y3, y4, y5, st => if (298 : Int32) ≤ y5 then (if y2 = 0 then (some (y3, st)) else (some (y4, st))) else ((zok spM st (some this) 8).bind fun o5 => (zok spM st (st.2.2.2 o5 12) 9).bind fun o6 => (zix spM o6 y5).bind fun j7 => (zok spM st (some this) 8).bind fun o12 => (fX8_given o12 y1 (st.2.1 o6 j7) st).bind fun q8 => zlet (q8.1) fun v9 => if v9 = (-1 : Int32) then (fX8_gladdest_j73 this (fX8_gladdest_L32 this n) y1 y2 y3 y4 y5 (-1000 : Int32) q8.2) else ((zok spM q8.2 (some this) 8).bind fun o11 => (fX8_gladOf o11 y1 v9 q8.2).bind fun q10 => fX8_gladdest_j73 this (fX8_gladdest_L32 this n) y1 y2 y3 y4 y5 q10.1 q10.2))
def fX8_gladdest (this : Nat) (a1 : Int32) (a2 : Int32) (st : zS) : Option (Int32 × zS) :=
  (zok spM st (some this) 8).bind fun o15 => (fX8_isOne o15 a1 st).bind fun q13 => if q13.1 = 0 then (some ((-2000 : Int32), q13.2)) else ((fX8_in (a2.toInt64) (0 : Int64) (1 : Int64) q13.2).bind fun q14 => if q14.1 = 0 then (some ((-2000 : Int32), q14.2)) else (fX8_gladdest_L32 this zF a1 a2 (-1 : Int32) (-1000 : Int32) (0 : Int32) q14.2))
set_option maxRecDepth 100000 in
set_option maxHeartbeats 4000000 in
theorem kX8_gladdest (l : Launch) (Z : zZ) (b : Nat) (x : Option Nat) (this : Nat) (a1 : Int32) (a2 : Int32) (st : zS) : zC l Z spM b x yX8_gladdest (.code yX8_gladdest cX8_gladdest 8 (some .int)) (rmX8_gladdest) rI [vP (some this), vI a1, vI a2] st (fX8_gladdest this a1 a2 st) := by
  refine z_start (own := RX8) rfl (by decide +kernel) (Nat.le_of_ble_eq_true rfl) rfl (fun p e s m args below meth c res Q A X hK hr hlocks hQ => ?_)
  have J32 : ∀ (n32 : Nat) (y1 : Int32) (y2 : Int32) (y3 : Int32) (y4 : Int32) (y5 : Int32) (st : zS), zs p l e (rmX8_gladdest) s m args below meth c Q Z spM b x A 8 0 0 res (fX8_gladdest_L32 this n32 y1 y2 y3 y4 y5 st) 32 [(0, vP (some this)), (1, vI y1), (2, vI y2), (3, vI y3), (4, vI y4), (5, vI y5)] [] st := by
    intro n32
    induction n32 with
    | zero => intros; exact z_none
    | succ n32 ih32 =>
      have J94 : ∀ (y1 : Int32) (y2 : Int32) (y3 : Int32) (y4 : Int32) (y5 : Int32) (st : zS), zs p l e (rmX8_gladdest) s m args below meth c Q Z spM b x A 8 0 0 res (fX8_gladdest_j94 this (fX8_gladdest_L32 this n32) y1 y2 y3 y4 y5 st) 94 [(0, vP (some this)), (1, vI y1), (2, vI y2), (3, vI y3), (4, vI y4), (5, vI y5)] [] st := by
        intro y1 y2 y3 y4 y5 st
        rw [fX8_gladdest_j94]
        refine z_iinc X (q := 5) (y := y5 + (1 : Int32)) dX8_gladdest_94 rfl rfl (Nat.le_of_ble_eq_true rfl) rfl ?_
        refine z_goto X (tgt := 32) dX8_gladdest_97 (by decide) ?_
        exact z_sub [1, 2, 3, 4, 5, 0] (ih32 _ _ _ _ _ _) rfl
      have J73 : ∀ (y1 : Int32) (y2 : Int32) (y3 : Int32) (y4 : Int32) (y5 : Int32) (s0 : Int32) (st : zS), zs p l e (rmX8_gladdest) s m args below meth c Q Z spM b x A 8 0 0 res (fX8_gladdest_j73 this (fX8_gladdest_L32 this n32) y1 y2 y3 y4 y5 s0 st) 73 [(0, vP (some this)), (1, vI y1), (2, vI y2), (3, vI y3), (4, vI y4), (5, vI y5)] [vI s0] st := by
        intro y1 y2 y3 y4 y5 s0 st
        rw [fX8_gladdest_j73]
        refine z_istore X dX8_gladdest_73 (Nat.le_of_ble_eq_true rfl) rfl ?_
        refine z_iload X (q := 0) dX8_gladdest_75 rfl ?_
        refine z_iload X (q := 5) dX8_gladdest_77 rfl ?_
        refine z_icmp_le X (tgt := 94) dX8_gladdest_79 (by decide) (fun _ => ?_) (fun _ => ?_)
        · exact z_sub [1, 2, 3, 4, 5, 6] (J94 _ _ _ _ _ _) rfl
        · refine z_aload_n X (q := 1) dX8_gladdest_82 rfl rfl ?_
          refine z_getr X hK (N := 46) (ci := 8) (k := 12) rfl (by decide) inlX8 (by decide) hf_X8_32 rfl spM_X8 rfl dX8_gladdest_83 (fun o1 _ => ?_)
          refine z_iload X (q := 6) dX8_gladdest_86 rfl ?_
          refine z_iald X hK dX8_gladdest_88 (fun o2 j3 _ _ => ?_)
          refine z_name (fun v4 => ?_)
          refine z_istore_n X dX8_gladdest_89 rfl (Nat.le_of_ble_eq_true rfl) rfl ?_
          refine z_iload X (q := 1) dX8_gladdest_90 rfl ?_
          refine z_istore X dX8_gladdest_92 (Nat.le_of_ble_eq_true rfl) rfl ?_
          exact z_sub [3, 4, 5, 1, 0, 6] (J94 _ _ _ _ _ _) rfl
      intro y1 y2 y3 y4 y5 st
      rw [fX8_gladdest_L32]
      refine z_iload X (q := 5) dX8_gladdest_32 rfl ?_
      refine z_sipush X (v := (298 : Int32)) dX8_gladdest_34 (by decide) ?_
      refine z_icmp_ge X (tgt := 100) dX8_gladdest_37 (by decide) (fun _ => ?_) (fun _ => ?_)
      · refine z_iload_n X (q := 2) dX8_gladdest_100 rfl rfl ?_
        refine z_if_ne X (tgt := 108) dX8_gladdest_101 (by decide) (fun _ => ?_) (fun _ => ?_)
        · refine z_iload X (q := 4) dX8_gladdest_108 rfl ?_
          subst hQ; exact z_iret X hlocks hr dX8_gladdest_110
        · refine z_iload_n X (q := 3) dX8_gladdest_104 rfl rfl ?_
          refine z_goto X (tgt := 110) dX8_gladdest_105 (by decide) ?_
          subst hQ; exact z_iret X hlocks hr dX8_gladdest_110
      · refine z_aload_n X (q := 0) dX8_gladdest_40 rfl rfl ?_
        refine z_iload_n X (q := 1) dX8_gladdest_41 rfl rfl ?_
        refine z_aload_n X (q := 0) dX8_gladdest_42 rfl rfl ?_
        refine z_getr X hK (N := 46) (ci := 8) (k := 12) rfl (by decide) inlX8 (by decide) hf_X8_32 rfl spM_X8 rfl dX8_gladdest_43 (fun o5 _ => ?_)
        refine z_iload X (q := 5) dX8_gladdest_46 rfl ?_
        refine z_iald X hK dX8_gladdest_48 (fun o6 j7 _ _ => ?_)
        refine z_callV X hK (As := [vI y1, vI (st.2.1 o6 j7)]) (ci := 8) rfl (by decide) (fun o => (kX8_given l Z  b x o _ _ _)) hk_X8_354 ⟨rfl, rfl⟩ hd_X8_given ⟨Nat.le_of_ble_eq_true rfl, Nat.le_of_ble_eq_true rfl⟩ ⟨Nat.le_of_ble_eq_true rfl, Nat.le_of_ble_eq_true rfl⟩ rfl rfl (Nat.le_of_ble_eq_true rfl) dX8_gladdest_49 (fun _ q8 _ => ?_)
        refine z_name (fun v9 => ?_)
        refine z_istore X dX8_gladdest_52 (Nat.le_of_ble_eq_true rfl) rfl ?_
        refine z_iload X (q := 0) dX8_gladdest_54 rfl ?_
        refine z_iconst X (v := (-1 : Int32)) dX8_gladdest_56 (by decide) ?_
        refine z_icmp_ne X (tgt := 66) dX8_gladdest_57 (by decide) (fun _ => ?_) (fun _ => ?_)
        · refine z_aload_n X (q := 1) dX8_gladdest_66 rfl rfl ?_
          refine z_iload_n X (q := 2) dX8_gladdest_67 rfl rfl ?_
          refine z_iload X (q := 0) dX8_gladdest_68 rfl ?_
          refine z_callV X hK (As := [vI y1, vI v9]) (ci := 8) rfl (by decide) (fun o => (kX8_gladOf l Z  b x o _ _ _)) hk_X8_363 ⟨rfl, rfl⟩ hd_X8_gladOf ⟨Nat.le_of_ble_eq_true rfl, Nat.le_of_ble_eq_true rfl⟩ ⟨Nat.le_of_ble_eq_true rfl, Nat.le_of_ble_eq_true rfl⟩ rfl rfl (Nat.le_of_ble_eq_true rfl) dX8_gladdest_70 (fun _ q10 _ => ?_)
          exact z_sub [1, 2, 3, 4, 5, 6] (J73 _ _ _ _ _ _ _) rfl
        · refine z_sipush X (v := (-1000 : Int32)) dX8_gladdest_60 (by decide) ?_
          refine z_goto X (tgt := 73) dX8_gladdest_63 (by decide) ?_
          exact z_sub [1, 2, 3, 4, 5, 6] (J73 _ _ _ _ _ _ _) rfl
  rw [fX8_gladdest]
  refine z_aload_n X (q := 0) dX8_gladdest_0 rfl rfl ?_
  refine z_iload_n X (q := 1) dX8_gladdest_1 rfl rfl ?_
  refine z_callV X hK (As := [vI a1]) (ci := 8) rfl (by decide) (fun o => (kX8_isOne l Z  b x o _ _)) hk_X8_89 ⟨rfl, rfl⟩ hd_X8_isOne ⟨Nat.le_of_ble_eq_true rfl, Nat.le_of_ble_eq_true rfl⟩ ⟨Nat.le_of_ble_eq_true rfl, Nat.le_of_ble_eq_true rfl⟩ rfl rfl (Nat.le_of_ble_eq_true rfl) dX8_gladdest_2 (fun _ q13 _ => ?_)
  refine z_if_eq X (tgt := 18) dX8_gladdest_5 (by decide) (fun _ => ?_) (fun _ => ?_)
  · refine z_sipush X (v := (-2000 : Int32)) dX8_gladdest_18 (by decide) ?_
    subst hQ; exact z_iret X hlocks hr dX8_gladdest_21
  · refine z_iload_n X (q := 2) dX8_gladdest_8 rfl rfl ?_
    refine z_i2l X dX8_gladdest_9 ?_
    refine z_lconst X (v := (0 : Int64)) dX8_gladdest_10 (by decide) ?_
    refine z_lconst X (v := (1 : Int64)) dX8_gladdest_11 (by decide) ?_
    refine z_callS X hK (As := [vL (a2.toInt64), vL (0 : Int64), vL (1 : Int64)]) (kX8_in l Z  b x _ _ _ _) hk_X8_77 ⟨rfl, rfl⟩ hd_X8_in.2 ⟨Nat.le_of_ble_eq_true rfl, Nat.le_of_ble_eq_true rfl⟩ ⟨Nat.le_of_ble_eq_true rfl, Nat.le_of_ble_eq_true rfl⟩ rfl rfl (Nat.le_of_ble_eq_true rfl) dX8_gladdest_12 (fun q14 => ?_)
    refine z_if_ne X (tgt := 22) dX8_gladdest_15 (by decide) (fun _ => ?_) (fun _ => ?_)
    · refine z_iconst X (v := (-1 : Int32)) dX8_gladdest_22 (by decide) ?_
      refine z_istore_n X dX8_gladdest_23 rfl (Nat.le_of_ble_eq_true rfl) rfl ?_
      refine z_sipush X (v := (-1000 : Int32)) dX8_gladdest_24 (by decide) ?_
      refine z_istore X dX8_gladdest_27 (Nat.le_of_ble_eq_true rfl) rfl ?_
      refine z_iconst X (v := (0 : Int32)) dX8_gladdest_29 (by decide) ?_
      refine z_istore X dX8_gladdest_30 (Nat.le_of_ble_eq_true rfl) rfl ?_
      exact z_sub [3, 4, 5, 2, 1, 0] (J32 _ _ _ _ _ _ _) rfl
    · refine z_sipush X (v := (-2000 : Int32)) dX8_gladdest_18 (by decide) ?_
      subst hQ; exact z_iret X hlocks hr dX8_gladdest_21
abbrev rmX8_image : Room := { frames := 1, cells := 0, slots := 0, locals := 40 }
def fX8_image_L28 (this : Nat) : Nat → Int32 → zS → Option (Int32 × zS)
  | 0, _, _ => none
  | n + 1, y1, st => if (20 : Int32) ≤ y1 then ((zok spM st (some this) 8).bind fun o1 => (zok spM st (some this) 8).bind fun o2 => zlet (zp st o2 39 (st.2.1 o1 11)) fun st3 => (zok spM st3 (some this) 8).bind fun o4 => (zok spM st3 (some this) 8).bind fun o5 => zlet (zp st3 o5 40 (st3.2.1 o4 7)) fun st6 => (zok spM st6 (some this) 8).bind fun o7 => (zok spM st6 (some this) 8).bind fun o8 => zlet (zp st6 o8 41 (st6.2.1 o7 4)) fun st9 => (zok spM st9 (some this) 8).bind fun o10 => some ((st9.2.1 o10 11), st9)) else ((zok spM st (some this) 8).bind fun o11 => (zok spM st (some this) 8).bind fun o12 => (zok spM st (st.2.2.2 o12 10) 9).bind fun o13 => (zix spM o13 y1).bind fun j14 => (zok spM st (st.2.2.2 o11 38) 9).bind fun o15 => (zix spM o15 y1).bind fun j16 => zlet (zp st o15 j16 (st.2.1 o13 j14)) fun st17 => (fX8_image_L28 this n) (y1 + (1 : Int32)) st17)
def fX8_image_L2 (this : Nat) : Nat → Int32 → zS → Option (Int32 × zS)
  | 0, _, _ => none
  | n + 1, y1, st => if (12 : Int32) ≤ y1 then (fX8_image_L28 this zF (0 : Int32) st) else ((zok spM st (some this) 8).bind fun o18 => (zok spM st (some this) 8).bind fun o19 => (zok spM st (st.2.2.2 o19 8) 9).bind fun o20 => (zix spM o20 y1).bind fun j21 => (zok spM st (st.2.2.2 o18 37) 9).bind fun o22 => (zix spM o22 y1).bind fun j23 => zlet (zp st o22 j23 (st.2.1 o20 j21)) fun st24 => (fX8_image_L2 this n) (y1 + (1 : Int32)) st24)
def fX8_image (this : Nat) (st : zS) : Option (Int32 × zS) :=
  fX8_image_L2 this zF (0 : Int32) st
set_option maxRecDepth 100000 in
set_option maxHeartbeats 4000000 in
theorem kX8_image (l : Launch) (Z : zZ) (b : Nat) (x : Option Nat) (this : Nat) (st : zS) : zC l Z spM b x yX8_image (.code yX8_image cX8_image 2 (some .int)) (rmX8_image) rI [vP (some this)] st (fX8_image this st) := by
  refine z_start (own := RX8) rfl (by decide +kernel) (Nat.le_of_ble_eq_true rfl) rfl (fun p e s m args below meth c res Q A X hK hr hlocks hQ => ?_)
  have J28 : ∀ (n28 : Nat) (y1 : Int32) (st : zS), zs p l e (rmX8_image) s m args below meth c Q Z spM b x A 2 0 0 res (fX8_image_L28 this n28 y1 st) 28 [(0, vP (some this)), (1, vI y1)] [] st := by
    intro n28
    induction n28 with
    | zero => intros; exact z_none
    | succ n28 ih28 =>
      intro y1 st
      rw [fX8_image_L28]
      refine z_iload_n X (q := 1) dX8_image_28 rfl rfl ?_
      refine z_bipush X (v := (20 : Int32)) dX8_image_29 (by decide) ?_
      refine z_icmp_ge X (tgt := 52) dX8_image_31 (by decide) (fun _ => ?_) (fun _ => ?_)
      · refine z_aload_n X (q := 0) dX8_image_52 rfl rfl ?_
        refine z_aload_n X (q := 0) dX8_image_53 rfl rfl ?_
        refine z_geti X hK (N := 46) (ci := 8) (k := 11) rfl (by decide) inlX8 (by decide) hf_X8_74 rfl spM_X8 rfl dX8_image_54 (fun o1 _ => ?_)
        refine z_puti X hK (N := 46) (ci := 8) (k := 39) rfl (by decide) inlX8 tyX8 tyX8_ok nmX8 (by decide) hf_X8_47 rfl rfl spM_X8 rfl (by decide +kernel) dX8_image_57 (fun o2 st3 _ => ?_)
        refine z_aload_n X (q := 0) dX8_image_60 rfl rfl ?_
        refine z_aload_n X (q := 0) dX8_image_61 rfl rfl ?_
        refine z_geti X hK (N := 46) (ci := 8) (k := 7) rfl (by decide) inlX8 (by decide) hf_X8_103 rfl spM_X8 rfl dX8_image_62 (fun o4 _ => ?_)
        refine z_puti X hK (N := 46) (ci := 8) (k := 40) rfl (by decide) inlX8 tyX8 tyX8_ok nmX8 (by decide) hf_X8_440 rfl rfl spM_X8 rfl (by decide +kernel) dX8_image_65 (fun o5 st6 _ => ?_)
        refine z_aload_n X (q := 0) dX8_image_68 rfl rfl ?_
        refine z_aload_n X (q := 0) dX8_image_69 rfl rfl ?_
        refine z_geti X hK (N := 46) (ci := 8) (k := 4) rfl (by decide) inlX8 (by decide) hf_X8_106 rfl spM_X8 rfl dX8_image_70 (fun o7 _ => ?_)
        refine z_puti X hK (N := 46) (ci := 8) (k := 41) rfl (by decide) inlX8 tyX8 tyX8_ok nmX8 (by decide) hf_X8_443 rfl rfl spM_X8 rfl (by decide +kernel) dX8_image_73 (fun o8 st9 _ => ?_)
        refine z_aload_n X (q := 0) dX8_image_76 rfl rfl ?_
        refine z_geti X hK (N := 46) (ci := 8) (k := 11) rfl (by decide) inlX8 (by decide) hf_X8_74 rfl spM_X8 rfl dX8_image_77 (fun o10 _ => ?_)
        subst hQ; exact z_iret X hlocks hr dX8_image_80
      · refine z_aload_n X (q := 0) dX8_image_34 rfl rfl ?_
        refine z_getr X hK (N := 46) (ci := 8) (k := 38) rfl (by decide) inlX8 (by decide) hf_X8_44 rfl spM_X8 rfl dX8_image_35 (fun o11 _ => ?_)
        refine z_iload_n X (q := 1) dX8_image_38 rfl rfl ?_
        refine z_aload_n X (q := 0) dX8_image_39 rfl rfl ?_
        refine z_getr X hK (N := 46) (ci := 8) (k := 10) rfl (by decide) inlX8 (by decide) hf_X8_29 rfl spM_X8 rfl dX8_image_40 (fun o12 _ => ?_)
        refine z_iload_n X (q := 1) dX8_image_43 rfl rfl ?_
        refine z_iald X hK dX8_image_44 (fun o13 j14 _ _ => ?_)
        refine z_iast X hK dX8_image_45 (fun o15 j16 st17 _ _ => ?_)
        refine z_iinc X (q := 1) (y := y1 + (1 : Int32)) dX8_image_46 rfl rfl (Nat.le_of_ble_eq_true rfl) rfl ?_
        refine z_goto X (tgt := 28) dX8_image_49 (by decide) ?_
        exact z_sub [1, 0] (ih28 _ _) rfl
  have J2 : ∀ (n2 : Nat) (y1 : Int32) (st : zS), zs p l e (rmX8_image) s m args below meth c Q Z spM b x A 2 0 0 res (fX8_image_L2 this n2 y1 st) 2 [(0, vP (some this)), (1, vI y1)] [] st := by
    intro n2
    induction n2 with
    | zero => intros; exact z_none
    | succ n2 ih2 =>
      intro y1 st
      rw [fX8_image_L2]
      refine z_iload_n X (q := 1) dX8_image_2 rfl rfl ?_
      refine z_bipush X (v := (12 : Int32)) dX8_image_3 (by decide) ?_
      refine z_icmp_ge X (tgt := 26) dX8_image_5 (by decide) (fun _ => ?_) (fun _ => ?_)
      · refine z_iconst X (v := (0 : Int32)) dX8_image_26 (by decide) ?_
        refine z_istore_n X dX8_image_27 rfl (Nat.le_of_ble_eq_true rfl) rfl ?_
        exact z_sub [1, 0] (J28 _ _ _) rfl
      · refine z_aload_n X (q := 0) dX8_image_8 rfl rfl ?_
        refine z_getr X hK (N := 46) (ci := 8) (k := 37) rfl (by decide) inlX8 (by decide) hf_X8_41 rfl spM_X8 rfl dX8_image_9 (fun o18 _ => ?_)
        refine z_iload_n X (q := 1) dX8_image_12 rfl rfl ?_
        refine z_aload_n X (q := 0) dX8_image_13 rfl rfl ?_
        refine z_getr X hK (N := 46) (ci := 8) (k := 8) rfl (by decide) inlX8 (by decide) hf_X8_23 rfl spM_X8 rfl dX8_image_14 (fun o19 _ => ?_)
        refine z_iload_n X (q := 1) dX8_image_17 rfl rfl ?_
        refine z_iald X hK dX8_image_18 (fun o20 j21 _ _ => ?_)
        refine z_iast X hK dX8_image_19 (fun o22 j23 st24 _ _ => ?_)
        refine z_iinc X (q := 1) (y := y1 + (1 : Int32)) dX8_image_20 rfl rfl (Nat.le_of_ble_eq_true rfl) rfl ?_
        refine z_goto X (tgt := 2) dX8_image_23 (by decide) ?_
        exact z_sub [1, 0] (ih2 _ _) rfl
  rw [fX8_image]
  refine z_iconst X (v := (0 : Int32)) dX8_image_0 (by decide) ?_
  refine z_istore_n X dX8_image_1 rfl (Nat.le_of_ble_eq_true rfl) rfl ?_
  exact z_sub [1, 0] (J2 _ _ _) rfl
abbrev rmX8_spell : Room := { frames := 1, cells := 0, slots := 0, locals := 40 }
def fX8_spell (this : Nat) (a1 : Int32) (a2 : Int32) (a3 : Int32) (a4 : Int32) (a5 : Int32) (a6 : Int32) (a7 : Int32) (a8 : Int32) (a9 : Int32) (st : zS) : Option (Unit × zS) :=
  (zok spM st (some this) 8).bind fun o1 => (zok spM st (st.2.2.2 o1 1) 9).bind fun o2 => (zix spM o2 a1).bind fun j3 => zlet (zp st o2 j3 a2) fun st4 => (zok spM st4 (some this) 8).bind fun o5 => (zok spM st4 (st4.2.2.2 o5 1) 9).bind fun o6 => (zix spM o6 (a1 + (1 : Int32))).bind fun j7 => zlet (zp st4 o6 j7 a3) fun st8 => (zok spM st8 (some this) 8).bind fun o9 => (zok spM st8 (st8.2.2.2 o9 1) 9).bind fun o10 => (zix spM o10 (a1 + (2 : Int32))).bind fun j11 => zlet (zp st8 o10 j11 a4) fun st12 => (zok spM st12 (some this) 8).bind fun o13 => (zok spM st12 (st12.2.2.2 o13 1) 9).bind fun o14 => (zix spM o14 (a1 + (3 : Int32))).bind fun j15 => zlet (zp st12 o14 j15 a5) fun st16 => (zok spM st16 (some this) 8).bind fun o17 => (zok spM st16 (st16.2.2.2 o17 1) 9).bind fun o18 => (zix spM o18 (a1 + (4 : Int32))).bind fun j19 => zlet (zp st16 o18 j19 a6) fun st20 => (zok spM st20 (some this) 8).bind fun o21 => (zok spM st20 (st20.2.2.2 o21 1) 9).bind fun o22 => (zix spM o22 (a1 + (5 : Int32))).bind fun j23 => zlet (zp st20 o22 j23 a7) fun st24 => (zok spM st24 (some this) 8).bind fun o25 => (zok spM st24 (st24.2.2.2 o25 1) 9).bind fun o26 => (zix spM o26 (a1 + (6 : Int32))).bind fun j27 => zlet (zp st24 o26 j27 a8) fun st28 => (zok spM st28 (some this) 8).bind fun o29 => (zok spM st28 (st28.2.2.2 o29 1) 9).bind fun o30 => (zix spM o30 (a1 + (7 : Int32))).bind fun j31 => zlet (zp st28 o30 j31 a9) fun st32 => some ((), st32)
set_option maxRecDepth 100000 in
set_option maxHeartbeats 4000000 in
theorem kX8_spell (l : Launch) (Z : zZ) (b : Nat) (x : Option Nat) (this : Nat) (a1 : Int32) (a2 : Int32) (a3 : Int32) (a4 : Int32) (a5 : Int32) (a6 : Int32) (a7 : Int32) (a8 : Int32) (a9 : Int32) (st : zS) : zC l Z spM b x yX8_spell (.code yX8_spell cX8_spell 10 none) (rmX8_spell) rV [vP (some this), vI a1, vI a2, vI a3, vI a4, vI a5, vI a6, vI a7, vI a8, vI a9] st (fX8_spell this a1 a2 a3 a4 a5 a6 a7 a8 a9 st) := by
  refine z_start (own := RX8) rfl (by decide +kernel) (Nat.le_of_ble_eq_true rfl) rfl (fun p e s m args below meth c res Q A X hK hr hlocks hQ => ?_)
  rw [fX8_spell]
  refine z_aload_n X (q := 0) dX8_spell_0 rfl rfl ?_
  refine z_getr X hK (N := 46) (ci := 8) (k := 1) rfl (by decide) inlX8 (by decide) hf_X8_13 rfl spM_X8 rfl dX8_spell_1 (fun o1 _ => ?_)
  refine z_iload_n X (q := 1) dX8_spell_4 rfl rfl ?_
  refine z_iload_n X (q := 2) dX8_spell_5 rfl rfl ?_
  refine z_iast X hK dX8_spell_6 (fun o2 j3 st4 _ _ => ?_)
  refine z_aload_n X (q := 0) dX8_spell_7 rfl rfl ?_
  refine z_getr X hK (N := 46) (ci := 8) (k := 1) rfl (by decide) inlX8 (by decide) hf_X8_13 rfl spM_X8 rfl dX8_spell_8 (fun o5 _ => ?_)
  refine z_iload_n X (q := 1) dX8_spell_11 rfl rfl ?_
  refine z_iconst X (v := (1 : Int32)) dX8_spell_12 (by decide) ?_
  refine z_iadd X dX8_spell_13 ?_
  refine z_iload_n X (q := 3) dX8_spell_14 rfl rfl ?_
  refine z_iast X hK dX8_spell_15 (fun o6 j7 st8 _ _ => ?_)
  refine z_aload_n X (q := 0) dX8_spell_16 rfl rfl ?_
  refine z_getr X hK (N := 46) (ci := 8) (k := 1) rfl (by decide) inlX8 (by decide) hf_X8_13 rfl spM_X8 rfl dX8_spell_17 (fun o9 _ => ?_)
  refine z_iload_n X (q := 1) dX8_spell_20 rfl rfl ?_
  refine z_iconst X (v := (2 : Int32)) dX8_spell_21 (by decide) ?_
  refine z_iadd X dX8_spell_22 ?_
  refine z_iload X (q := 4) dX8_spell_23 rfl ?_
  refine z_iast X hK dX8_spell_25 (fun o10 j11 st12 _ _ => ?_)
  refine z_aload_n X (q := 0) dX8_spell_26 rfl rfl ?_
  refine z_getr X hK (N := 46) (ci := 8) (k := 1) rfl (by decide) inlX8 (by decide) hf_X8_13 rfl spM_X8 rfl dX8_spell_27 (fun o13 _ => ?_)
  refine z_iload_n X (q := 1) dX8_spell_30 rfl rfl ?_
  refine z_iconst X (v := (3 : Int32)) dX8_spell_31 (by decide) ?_
  refine z_iadd X dX8_spell_32 ?_
  refine z_iload X (q := 5) dX8_spell_33 rfl ?_
  refine z_iast X hK dX8_spell_35 (fun o14 j15 st16 _ _ => ?_)
  refine z_aload_n X (q := 0) dX8_spell_36 rfl rfl ?_
  refine z_getr X hK (N := 46) (ci := 8) (k := 1) rfl (by decide) inlX8 (by decide) hf_X8_13 rfl spM_X8 rfl dX8_spell_37 (fun o17 _ => ?_)
  refine z_iload_n X (q := 1) dX8_spell_40 rfl rfl ?_
  refine z_iconst X (v := (4 : Int32)) dX8_spell_41 (by decide) ?_
  refine z_iadd X dX8_spell_42 ?_
  refine z_iload X (q := 6) dX8_spell_43 rfl ?_
  refine z_iast X hK dX8_spell_45 (fun o18 j19 st20 _ _ => ?_)
  refine z_aload_n X (q := 0) dX8_spell_46 rfl rfl ?_
  refine z_getr X hK (N := 46) (ci := 8) (k := 1) rfl (by decide) inlX8 (by decide) hf_X8_13 rfl spM_X8 rfl dX8_spell_47 (fun o21 _ => ?_)
  refine z_iload_n X (q := 1) dX8_spell_50 rfl rfl ?_
  refine z_iconst X (v := (5 : Int32)) dX8_spell_51 (by decide) ?_
  refine z_iadd X dX8_spell_52 ?_
  refine z_iload X (q := 7) dX8_spell_53 rfl ?_
  refine z_iast X hK dX8_spell_55 (fun o22 j23 st24 _ _ => ?_)
  refine z_aload_n X (q := 0) dX8_spell_56 rfl rfl ?_
  refine z_getr X hK (N := 46) (ci := 8) (k := 1) rfl (by decide) inlX8 (by decide) hf_X8_13 rfl spM_X8 rfl dX8_spell_57 (fun o25 _ => ?_)
  refine z_iload_n X (q := 1) dX8_spell_60 rfl rfl ?_
  refine z_bipush X (v := (6 : Int32)) dX8_spell_61 (by decide) ?_
  refine z_iadd X dX8_spell_63 ?_
  refine z_iload X (q := 8) dX8_spell_64 rfl ?_
  refine z_iast X hK dX8_spell_66 (fun o26 j27 st28 _ _ => ?_)
  refine z_aload_n X (q := 0) dX8_spell_67 rfl rfl ?_
  refine z_getr X hK (N := 46) (ci := 8) (k := 1) rfl (by decide) inlX8 (by decide) hf_X8_13 rfl spM_X8 rfl dX8_spell_68 (fun o29 _ => ?_)
  refine z_iload_n X (q := 1) dX8_spell_71 rfl rfl ?_
  refine z_bipush X (v := (7 : Int32)) dX8_spell_72 (by decide) ?_
  refine z_iadd X dX8_spell_74 ?_
  refine z_iload X (q := 9) dX8_spell_75 rfl ?_
  refine z_iast X hK dX8_spell_77 (fun o30 j31 st32 _ _ => ?_)
  subst hQ; exact z_vret X hlocks hr dX8_spell_78
abbrev rmX8_lays : Room := { frames := 1, cells := 0, slots := 0, locals := 40 }
def fX8_lays (this : Nat) (a1 : Int32) (a2 : Int32) (a3 : Int32) (st : zS) : Option (Unit × zS) :=
  if a1 = 0 then ((zok spM st (some this) 8).bind fun o11 => zlet (zp st o11 7 a3) fun st12 => some ((), st12)) else (if (5 : Int32) ≤ a1 then (if a1 = (5 : Int32) then ((zok spM st (some this) 8).bind fun o3 => (zok spM st (st.2.2.2 o3 9) 9).bind fun o4 => (zix spM o4 a2).bind fun j5 => zlet (zp st o4 j5 a3) fun st6 => some ((), st6)) else ((zok spM st (some this) 8).bind fun o1 => zlet (zp st o1 4 a3) fun st2 => some ((), st2))) else ((zok spM st (some this) 8).bind fun o7 => (zok spM st (st.2.2.2 o7 10) 9).bind fun o8 => (zix spM o8 ((((4 : Int32) * a2) + a1) - (1 : Int32))).bind fun j9 => zlet (zp st o8 j9 a3) fun st10 => some ((), st10)))
set_option maxRecDepth 100000 in
set_option maxHeartbeats 4000000 in
theorem kX8_lays (l : Launch) (Z : zZ) (b : Nat) (x : Option Nat) (this : Nat) (a1 : Int32) (a2 : Int32) (a3 : Int32) (st : zS) : zC l Z spM b x yX8_lays (.code yX8_lays cX8_lays 4 none) (rmX8_lays) rV [vP (some this), vI a1, vI a2, vI a3] st (fX8_lays this a1 a2 a3 st) := by
  refine z_start (own := RX8) rfl (by decide +kernel) (Nat.le_of_ble_eq_true rfl) rfl (fun p e s m args below meth c res Q A X hK hr hlocks hQ => ?_)
  rw [fX8_lays]
  refine z_iload_n X (q := 1) dX8_lays_0 rfl rfl ?_
  refine z_if_ne X (tgt := 12) dX8_lays_1 (by decide) (fun _ => ?_) (fun _ => ?_)
  · refine z_iload_n X (q := 1) dX8_lays_12 rfl rfl ?_
    refine z_iconst X (v := (5 : Int32)) dX8_lays_13 (by decide) ?_
    refine z_icmp_ge X (tgt := 33) dX8_lays_14 (by decide) (fun _ => ?_) (fun _ => ?_)
    · refine z_iload_n X (q := 1) dX8_lays_33 rfl rfl ?_
      refine z_iconst X (v := (5 : Int32)) dX8_lays_34 (by decide) ?_
      refine z_icmp_ne X (tgt := 48) dX8_lays_35 (by decide) (fun _ => ?_) (fun _ => ?_)
      · refine z_aload_n X (q := 0) dX8_lays_48 rfl rfl ?_
        refine z_iload_n X (q := 3) dX8_lays_49 rfl rfl ?_
        refine z_puti X hK (N := 46) (ci := 8) (k := 4) rfl (by decide) inlX8 tyX8 tyX8_ok nmX8 (by decide) hf_X8_106 rfl rfl spM_X8 rfl (by decide +kernel) dX8_lays_50 (fun o1 st2 _ => ?_)
        subst hQ; exact z_vret X hlocks hr dX8_lays_53
      · refine z_aload_n X (q := 0) dX8_lays_38 rfl rfl ?_
        refine z_getr X hK (N := 46) (ci := 8) (k := 9) rfl (by decide) inlX8 (by decide) hf_X8_26 rfl spM_X8 rfl dX8_lays_39 (fun o3 _ => ?_)
        refine z_iload_n X (q := 2) dX8_lays_42 rfl rfl ?_
        refine z_iload_n X (q := 3) dX8_lays_43 rfl rfl ?_
        refine z_iast X hK dX8_lays_44 (fun o4 j5 st6 _ _ => ?_)
        refine z_goto X (tgt := 53) dX8_lays_45 (by decide) ?_
        subst hQ; exact z_vret X hlocks hr dX8_lays_53
    · refine z_aload_n X (q := 0) dX8_lays_17 rfl rfl ?_
      refine z_getr X hK (N := 46) (ci := 8) (k := 10) rfl (by decide) inlX8 (by decide) hf_X8_29 rfl spM_X8 rfl dX8_lays_18 (fun o7 _ => ?_)
      refine z_iconst X (v := (4 : Int32)) dX8_lays_21 (by decide) ?_
      refine z_iload_n X (q := 2) dX8_lays_22 rfl rfl ?_
      refine z_imul X dX8_lays_23 ?_
      refine z_iload_n X (q := 1) dX8_lays_24 rfl rfl ?_
      refine z_iadd X dX8_lays_25 ?_
      refine z_iconst X (v := (1 : Int32)) dX8_lays_26 (by decide) ?_
      refine z_isub X dX8_lays_27 ?_
      refine z_iload_n X (q := 3) dX8_lays_28 rfl rfl ?_
      refine z_iast X hK dX8_lays_29 (fun o8 j9 st10 _ _ => ?_)
      refine z_goto X (tgt := 53) dX8_lays_30 (by decide) ?_
      subst hQ; exact z_vret X hlocks hr dX8_lays_53
  · refine z_aload_n X (q := 0) dX8_lays_4 rfl rfl ?_
    refine z_iload_n X (q := 3) dX8_lays_5 rfl rfl ?_
    refine z_puti X hK (N := 46) (ci := 8) (k := 7) rfl (by decide) inlX8 tyX8 tyX8_ok nmX8 (by decide) hf_X8_103 rfl rfl spM_X8 rfl (by decide +kernel) dX8_lays_6 (fun o11 st12 _ => ?_)
    refine z_goto X (tgt := 53) dX8_lays_9 (by decide) ?_
    subst hQ; exact z_vret X hlocks hr dX8_lays_53
abbrev rmX8_leave : Room := { frames := 4, cells := 0, slots := 0, locals := 109 }
def fX8_leave_j80 (this : Nat) (k38 : Int32 → Int32 → Int32 → Int32 → Int32 → Int32 → zS → Option (Int32 × zS)) (y1 : Int32) (y2 : Int32) (y3 : Int32) (y4 : Int32) (y5 : Int32) (y6 : Int32) (st : zS) : Option (Int32 × zS) :=
  k38 y1 y2 y3 y4 y5 (y6 + (1 : Int32)) st
def fX8_leave_j96 (this : Nat) (y4 : Int32) (st : zS) : Option (Int32 × zS) :=
  some (y4, st)
def fX8_leave_L38 (this : Nat) : Nat → Int32 → Int32 → Int32 → Int32 → Int32 → Int32 → zS → Option (Int32 × zS)
  | 0, _, _, _, _, _, _, _ => none
  | n + 1, y1, y2, y3, y4, y5, y6, st => if (4095 : Int32) < y6 then (if y3 = 0 then (fX8_leave_j96 this y4 st) else (if y4 = (-1 : Int32) then (fX8_leave_j96 this y4 st) else (some (y5, st)))) else ((fX8_bitsOf y6 st).bind fun q1 => if y5 ≤ q1.1 then (fX8_leave_j80 this (fX8_leave_L38 this n) y1 y2 y3 y4 y5 y6 q1.2) else ((zok spM q1.2 (some this) 8).bind fun o5 => (fX8_openTo o5 y1 y6 q1.2).bind fun q2 => if q2.1 = ((1 : Int32) <<< (y2 &&& 31)) then ((fX8_bitsOf y6 q2.2).bind fun q3 => zlet (q3.1) fun v4 => fX8_leave_j80 this (fX8_leave_L38 this n) y1 y2 y3 y6 v4 y6 q3.2) else (fX8_leave_j80 this (fX8_leave_L38 this n) y1 y2 y3 y4 y5 y6 q2.2)))
def fX8_leave (this : Nat) (a1 : Int32) (a2 : Int32) (a3 : Int32) (st : zS) : Option (Int32 × zS) :=
  (zok spM st (some this) 8).bind fun o9 => (fX8_isOne o9 a1 st).bind fun q6 => if q6.1 = 0 then (some ((-2 : Int32), q6.2)) else ((fX8_isThing a2 q6.2).bind fun q7 => if q7.1 = 0 then (some ((-2 : Int32), q7.2)) else ((fX8_in (a3.toInt64) (0 : Int64) (1 : Int64) q7.2).bind fun q8 => if q8.1 = 0 then (some ((-2 : Int32), q8.2)) else (fX8_leave_L38 this zF a1 a2 a3 (-1 : Int32) (13 : Int32) (1 : Int32) q8.2)))
set_option maxRecDepth 100000 in
set_option maxHeartbeats 4000000 in
theorem kX8_leave (l : Launch) (Z : zZ) (b : Nat) (x : Option Nat) (this : Nat) (a1 : Int32) (a2 : Int32) (a3 : Int32) (st : zS) : zC l Z spM b x yX8_leave (.code yX8_leave cX8_leave 7 (some .int)) (rmX8_leave) rI [vP (some this), vI a1, vI a2, vI a3] st (fX8_leave this a1 a2 a3 st) := by
  refine z_start (own := RX8) rfl (by decide +kernel) (Nat.le_of_ble_eq_true rfl) rfl (fun p e s m args below meth c res Q A X hK hr hlocks hQ => ?_)
  have J96 : ∀ (y4 : Int32) (st : zS), zs p l e (rmX8_leave) s m args below meth c Q Z spM b x A 7 0 0 res (fX8_leave_j96 this y4 st) 96 [(4, vI y4)] [] st := by
    intro y4 st
    rw [fX8_leave_j96]
    refine z_iload X (q := 0) dX8_leave_96 rfl ?_
    refine z_goto X (tgt := 103) dX8_leave_98 (by decide) ?_
    subst hQ; exact z_iret X hlocks hr dX8_leave_103
  have J38 : ∀ (n38 : Nat) (y1 : Int32) (y2 : Int32) (y3 : Int32) (y4 : Int32) (y5 : Int32) (y6 : Int32) (st : zS), zs p l e (rmX8_leave) s m args below meth c Q Z spM b x A 7 0 0 res (fX8_leave_L38 this n38 y1 y2 y3 y4 y5 y6 st) 38 [(0, vP (some this)), (1, vI y1), (2, vI y2), (3, vI y3), (4, vI y4), (5, vI y5), (6, vI y6)] [] st := by
    intro n38
    induction n38 with
    | zero => intros; exact z_none
    | succ n38 ih38 =>
      have J80 : ∀ (y1 : Int32) (y2 : Int32) (y3 : Int32) (y4 : Int32) (y5 : Int32) (y6 : Int32) (st : zS), zs p l e (rmX8_leave) s m args below meth c Q Z spM b x A 7 0 0 res (fX8_leave_j80 this (fX8_leave_L38 this n38) y1 y2 y3 y4 y5 y6 st) 80 [(0, vP (some this)), (1, vI y1), (2, vI y2), (3, vI y3), (4, vI y4), (5, vI y5), (6, vI y6)] [] st := by
        intro y1 y2 y3 y4 y5 y6 st
        rw [fX8_leave_j80]
        refine z_iinc X (q := 6) (y := y6 + (1 : Int32)) dX8_leave_80 rfl rfl (Nat.le_of_ble_eq_true rfl) rfl ?_
        refine z_goto X (tgt := 38) dX8_leave_83 (by decide) ?_
        exact z_sub [1, 2, 3, 4, 5, 6, 0] (ih38 _ _ _ _ _ _ _) rfl
      intro y1 y2 y3 y4 y5 y6 st
      rw [fX8_leave_L38]
      refine z_iload X (q := 6) dX8_leave_38 rfl ?_
      refine z_sipush X (v := (4095 : Int32)) dX8_leave_40 (by decide) ?_
      refine z_icmp_gt X (tgt := 86) dX8_leave_43 (by decide) (fun _ => ?_) (fun _ => ?_)
      · refine z_iload_n X (q := 3) dX8_leave_86 rfl rfl ?_
        refine z_if_eq X (tgt := 96) dX8_leave_87 (by decide) (fun _ => ?_) (fun _ => ?_)
        · exact z_sub [4] (J96 _ _) rfl
        · refine z_iload X (q := 4) dX8_leave_90 rfl ?_
          refine z_iconst X (v := (-1 : Int32)) dX8_leave_92 (by decide) ?_
          refine z_icmp_ne X (tgt := 101) dX8_leave_93 (by decide) (fun _ => ?_) (fun _ => ?_)
          · refine z_iload X (q := 5) dX8_leave_101 rfl ?_
            subst hQ; exact z_iret X hlocks hr dX8_leave_103
          · exact z_sub [4] (J96 _ _) rfl
      · refine z_iload X (q := 6) dX8_leave_46 rfl ?_
        refine z_callS X hK (As := [vI y6]) (kX8_bitsOf l Z  b x _ _) hk_X8_63 ⟨rfl, rfl⟩ hd_X8_bitsOf.2 ⟨Nat.le_of_ble_eq_true rfl, Nat.le_of_ble_eq_true rfl⟩ ⟨Nat.le_of_ble_eq_true rfl, Nat.le_of_ble_eq_true rfl⟩ rfl rfl (Nat.le_of_ble_eq_true rfl) dX8_leave_48 (fun q1 => ?_)
        refine z_iload X (q := 5) dX8_leave_51 rfl ?_
        refine z_icmp_ge X (tgt := 80) dX8_leave_53 (by decide) (fun _ => ?_) (fun _ => ?_)
        · exact z_sub [0, 1, 2, 3, 4, 5, 6] (J80 _ _ _ _ _ _ _) rfl
        · refine z_aload_n X (q := 0) dX8_leave_56 rfl rfl ?_
          refine z_iload_n X (q := 1) dX8_leave_57 rfl rfl ?_
          refine z_iload X (q := 6) dX8_leave_58 rfl ?_
          refine z_callV X hK (As := [vI y1, vI y6]) (ci := 8) rfl (by decide) (fun o => (kX8_openTo l Z  b x o _ _ _)) hk_X8_340 ⟨rfl, rfl⟩ hd_X8_openTo ⟨Nat.le_of_ble_eq_true rfl, Nat.le_of_ble_eq_true rfl⟩ ⟨Nat.le_of_ble_eq_true rfl, Nat.le_of_ble_eq_true rfl⟩ rfl rfl (Nat.le_of_ble_eq_true rfl) dX8_leave_60 (fun _ q2 _ => ?_)
          refine z_iconst X (v := (1 : Int32)) dX8_leave_63 (by decide) ?_
          refine z_iload_n X (q := 2) dX8_leave_64 rfl rfl ?_
          refine z_ishl X dX8_leave_65 ?_
          refine z_icmp_ne X (tgt := 80) dX8_leave_66 (by decide) (fun _ => ?_) (fun _ => ?_)
          · exact z_sub [0, 1, 2, 3, 4, 5, 6] (J80 _ _ _ _ _ _ _) rfl
          · refine z_iload X (q := 6) dX8_leave_69 rfl ?_
            refine z_istore X dX8_leave_71 (Nat.le_of_ble_eq_true rfl) rfl ?_
            refine z_iload X (q := 6) dX8_leave_73 rfl ?_
            refine z_callS X hK (As := [vI y6]) (kX8_bitsOf l Z  b x _ _) hk_X8_63 ⟨rfl, rfl⟩ hd_X8_bitsOf.2 ⟨Nat.le_of_ble_eq_true rfl, Nat.le_of_ble_eq_true rfl⟩ ⟨Nat.le_of_ble_eq_true rfl, Nat.le_of_ble_eq_true rfl⟩ rfl rfl (Nat.le_of_ble_eq_true rfl) dX8_leave_75 (fun q3 => ?_)
            refine z_name (fun v4 => ?_)
            refine z_istore X dX8_leave_78 (Nat.le_of_ble_eq_true rfl) rfl ?_
            exact z_sub [2, 3, 4, 5, 1, 0, 6] (J80 _ _ _ _ _ _ _) rfl
  rw [fX8_leave]
  refine z_aload_n X (q := 0) dX8_leave_0 rfl rfl ?_
  refine z_iload_n X (q := 1) dX8_leave_1 rfl rfl ?_
  refine z_callV X hK (As := [vI a1]) (ci := 8) rfl (by decide) (fun o => (kX8_isOne l Z  b x o _ _)) hk_X8_89 ⟨rfl, rfl⟩ hd_X8_isOne ⟨Nat.le_of_ble_eq_true rfl, Nat.le_of_ble_eq_true rfl⟩ ⟨Nat.le_of_ble_eq_true rfl, Nat.le_of_ble_eq_true rfl⟩ rfl rfl (Nat.le_of_ble_eq_true rfl) dX8_leave_2 (fun _ q6 _ => ?_)
  refine z_if_eq X (tgt := 25) dX8_leave_5 (by decide) (fun _ => ?_) (fun _ => ?_)
  · refine z_bipush X (v := (-2 : Int32)) dX8_leave_25 (by decide) ?_
    subst hQ; exact z_iret X hlocks hr dX8_leave_27
  · refine z_iload_n X (q := 2) dX8_leave_8 rfl rfl ?_
    refine z_callS X hK (As := [vI a2]) (kX8_isThing l Z  b x _ _) hk_X8_83 ⟨rfl, rfl⟩ hd_X8_isThing.2 ⟨Nat.le_of_ble_eq_true rfl, Nat.le_of_ble_eq_true rfl⟩ ⟨Nat.le_of_ble_eq_true rfl, Nat.le_of_ble_eq_true rfl⟩ rfl rfl (Nat.le_of_ble_eq_true rfl) dX8_leave_9 (fun q7 => ?_)
    refine z_if_eq X (tgt := 25) dX8_leave_12 (by decide) (fun _ => ?_) (fun _ => ?_)
    · refine z_bipush X (v := (-2 : Int32)) dX8_leave_25 (by decide) ?_
      subst hQ; exact z_iret X hlocks hr dX8_leave_27
    · refine z_iload_n X (q := 3) dX8_leave_15 rfl rfl ?_
      refine z_i2l X dX8_leave_16 ?_
      refine z_lconst X (v := (0 : Int64)) dX8_leave_17 (by decide) ?_
      refine z_lconst X (v := (1 : Int64)) dX8_leave_18 (by decide) ?_
      refine z_callS X hK (As := [vL (a3.toInt64), vL (0 : Int64), vL (1 : Int64)]) (kX8_in l Z  b x _ _ _ _) hk_X8_77 ⟨rfl, rfl⟩ hd_X8_in.2 ⟨Nat.le_of_ble_eq_true rfl, Nat.le_of_ble_eq_true rfl⟩ ⟨Nat.le_of_ble_eq_true rfl, Nat.le_of_ble_eq_true rfl⟩ rfl rfl (Nat.le_of_ble_eq_true rfl) dX8_leave_19 (fun q8 => ?_)
      refine z_if_ne X (tgt := 28) dX8_leave_22 (by decide) (fun _ => ?_) (fun _ => ?_)
      · refine z_iconst X (v := (-1 : Int32)) dX8_leave_28 (by decide) ?_
        refine z_istore X dX8_leave_29 (Nat.le_of_ble_eq_true rfl) rfl ?_
        refine z_bipush X (v := (13 : Int32)) dX8_leave_31 (by decide) ?_
        refine z_istore X dX8_leave_33 (Nat.le_of_ble_eq_true rfl) rfl ?_
        refine z_iconst X (v := (1 : Int32)) dX8_leave_35 (by decide) ?_
        refine z_istore X dX8_leave_36 (Nat.le_of_ble_eq_true rfl) rfl ?_
        exact z_sub [3, 4, 5, 6, 2, 1, 0] (J38 _ _ _ _ _ _ _ _) rfl
      · refine z_bipush X (v := (-2 : Int32)) dX8_leave_25 (by decide) ?_
        subst hQ; exact z_iret X hlocks hr dX8_leave_27
abbrev rmX8_like : Room := { frames := 3, cells := 0, slots := 0, locals := 85 }
def fX8_like (this : Nat) (a1 : Int32) (a2 : Int32) (a3 : Int32) (st : zS) : Option (Int32 × zS) :=
  (fX8_isThing a1 st).bind fun q1 => if q1.1 = 0 then (some ((-2 : Int32), q1.2)) else ((fX8_isThing a2 q1.2).bind fun q2 => if q2.1 = 0 then (some ((-2 : Int32), q2.2)) else (if a1 = a2 then (some ((-2 : Int32), q2.2)) else ((fX8_in (a3.toInt64) (0 : Int64) (1 : Int64) q2.2).bind fun q3 => if q3.1 = 0 then (some ((-2 : Int32), q3.2)) else ((zok spM q3.2 (some this) 8).bind fun o4 => (zok spM q3.2 (q3.2.2.2.2 o4 8) 9).bind fun o5 => (zix spM o5 a1).bind fun j6 => zlet ((((q3.2.2.1 o5 j6) >>> (a2 &&& 31)) &&& (1 : Int32))) fun v7 => (zok spM q3.2 (some this) 8).bind fun o8 => (zok spM q3.2 (some this) 8).bind fun o9 => (zok spM q3.2 (q3.2.2.2.2 o9 8) 9).bind fun o10 => (zix spM o10 a1).bind fun j11 => (zok spM q3.2 (q3.2.2.2.2 o8 8) 9).bind fun o12 => (zix spM o12 a1).bind fun j13 => zlet (zp q3.2 o12 j13 (((q3.2.2.1 o10 j11) &&& (((1 : Int32) <<< (a2 &&& 31)) ^^^ (-1 : Int32))) ||| (a3 <<< (a2 &&& 31)))) fun st14 => (zok spM st14 (some this) 8).bind fun o15 => (zok spM st14 (some this) 8).bind fun o16 => (zok spM st14 (st14.2.2.2 o16 8) 9).bind fun o17 => (zix spM o17 a2).bind fun j18 => (zok spM st14 (st14.2.2.2 o15 8) 9).bind fun o19 => (zix spM o19 a2).bind fun j20 => zlet (zp st14 o19 j20 (((st14.2.1 o17 j18) &&& (((1 : Int32) <<< (a1 &&& 31)) ^^^ (-1 : Int32))) ||| (a3 <<< (a1 &&& 31)))) fun st21 => some (v7, st21)))))
set_option maxRecDepth 100000 in
set_option maxHeartbeats 4000000 in
theorem kX8_like (l : Launch) (Z : zZ) (b : Nat) (x : Option Nat) (this : Nat) (a1 : Int32) (a2 : Int32) (a3 : Int32) (st : zS) : zC l Z spM b x yX8_like (.code yX8_like cX8_like 5 (some .int)) (rmX8_like) rI [vP (some this), vI a1, vI a2, vI a3] st (fX8_like this a1 a2 a3 st) := by
  refine z_start (own := RX8) rfl (by decide +kernel) (Nat.le_of_ble_eq_true rfl) rfl (fun p e s m args below meth c res Q A X hK hr hlocks hQ => ?_)
  rw [fX8_like]
  refine z_iload_n X (q := 1) dX8_like_0 rfl rfl ?_
  refine z_callS X hK (As := [vI a1]) (kX8_isThing l Z  b x _ _) hk_X8_83 ⟨rfl, rfl⟩ hd_X8_isThing.2 ⟨Nat.le_of_ble_eq_true rfl, Nat.le_of_ble_eq_true rfl⟩ ⟨Nat.le_of_ble_eq_true rfl, Nat.le_of_ble_eq_true rfl⟩ rfl rfl (Nat.le_of_ble_eq_true rfl) dX8_like_1 (fun q1 => ?_)
  refine z_if_eq X (tgt := 29) dX8_like_4 (by decide) (fun _ => ?_) (fun _ => ?_)
  · refine z_bipush X (v := (-2 : Int32)) dX8_like_29 (by decide) ?_
    subst hQ; exact z_iret X hlocks hr dX8_like_31
  · refine z_iload_n X (q := 2) dX8_like_7 rfl rfl ?_
    refine z_callS X hK (As := [vI a2]) (kX8_isThing l Z  b x _ _) hk_X8_83 ⟨rfl, rfl⟩ hd_X8_isThing.2 ⟨Nat.le_of_ble_eq_true rfl, Nat.le_of_ble_eq_true rfl⟩ ⟨Nat.le_of_ble_eq_true rfl, Nat.le_of_ble_eq_true rfl⟩ rfl rfl (Nat.le_of_ble_eq_true rfl) dX8_like_8 (fun q2 => ?_)
    refine z_if_eq X (tgt := 29) dX8_like_11 (by decide) (fun _ => ?_) (fun _ => ?_)
    · refine z_bipush X (v := (-2 : Int32)) dX8_like_29 (by decide) ?_
      subst hQ; exact z_iret X hlocks hr dX8_like_31
    · refine z_iload_n X (q := 1) dX8_like_14 rfl rfl ?_
      refine z_iload_n X (q := 2) dX8_like_15 rfl rfl ?_
      refine z_icmp_eq X (tgt := 29) dX8_like_16 (by decide) (fun _ => ?_) (fun _ => ?_)
      · refine z_bipush X (v := (-2 : Int32)) dX8_like_29 (by decide) ?_
        subst hQ; exact z_iret X hlocks hr dX8_like_31
      · refine z_iload_n X (q := 3) dX8_like_19 rfl rfl ?_
        refine z_i2l X dX8_like_20 ?_
        refine z_lconst X (v := (0 : Int64)) dX8_like_21 (by decide) ?_
        refine z_lconst X (v := (1 : Int64)) dX8_like_22 (by decide) ?_
        refine z_callS X hK (As := [vL (a3.toInt64), vL (0 : Int64), vL (1 : Int64)]) (kX8_in l Z  b x _ _ _ _) hk_X8_77 ⟨rfl, rfl⟩ hd_X8_in.2 ⟨Nat.le_of_ble_eq_true rfl, Nat.le_of_ble_eq_true rfl⟩ ⟨Nat.le_of_ble_eq_true rfl, Nat.le_of_ble_eq_true rfl⟩ rfl rfl (Nat.le_of_ble_eq_true rfl) dX8_like_23 (fun q3 => ?_)
        refine z_if_ne X (tgt := 32) dX8_like_26 (by decide) (fun _ => ?_) (fun _ => ?_)
        · refine z_aload_n X (q := 0) dX8_like_32 rfl rfl ?_
          refine z_getr X hK (N := 46) (ci := 8) (k := 8) rfl (by decide) inlX8 (by decide) hf_X8_23 rfl spM_X8 rfl dX8_like_33 (fun o4 _ => ?_)
          refine z_iload_n X (q := 1) dX8_like_36 rfl rfl ?_
          refine z_iald X hK dX8_like_37 (fun o5 j6 _ _ => ?_)
          refine z_iload_n X (q := 2) dX8_like_38 rfl rfl ?_
          refine z_ishr X dX8_like_39 ?_
          refine z_iconst X (v := (1 : Int32)) dX8_like_40 (by decide) ?_
          refine z_iand X dX8_like_41 ?_
          refine z_name (fun v7 => ?_)
          refine z_istore X dX8_like_42 (Nat.le_of_ble_eq_true rfl) rfl ?_
          refine z_aload_n X (q := 1) dX8_like_44 rfl rfl ?_
          refine z_getr X hK (N := 46) (ci := 8) (k := 8) rfl (by decide) inlX8 (by decide) hf_X8_23 rfl spM_X8 rfl dX8_like_45 (fun o8 _ => ?_)
          refine z_iload_n X (q := 2) dX8_like_48 rfl rfl ?_
          refine z_aload_n X (q := 1) dX8_like_49 rfl rfl ?_
          refine z_getr X hK (N := 46) (ci := 8) (k := 8) rfl (by decide) inlX8 (by decide) hf_X8_23 rfl spM_X8 rfl dX8_like_50 (fun o9 _ => ?_)
          refine z_iload_n X (q := 2) dX8_like_53 rfl rfl ?_
          refine z_iald X hK dX8_like_54 (fun o10 j11 _ _ => ?_)
          refine z_iconst X (v := (1 : Int32)) dX8_like_55 (by decide) ?_
          refine z_iload_n X (q := 3) dX8_like_56 rfl rfl ?_
          refine z_ishl X dX8_like_57 ?_
          refine z_iconst X (v := (-1 : Int32)) dX8_like_58 (by decide) ?_
          refine z_ixor X dX8_like_59 ?_
          refine z_iand X dX8_like_60 ?_
          refine z_iload_n X (q := 4) dX8_like_61 rfl rfl ?_
          refine z_iload_n X (q := 3) dX8_like_62 rfl rfl ?_
          refine z_ishl X dX8_like_63 ?_
          refine z_ior X dX8_like_64 ?_
          refine z_iast X hK dX8_like_65 (fun o12 j13 st14 _ _ => ?_)
          refine z_aload_n X (q := 1) dX8_like_66 rfl rfl ?_
          refine z_getr X hK (N := 46) (ci := 8) (k := 8) rfl (by decide) inlX8 (by decide) hf_X8_23 rfl spM_X8 rfl dX8_like_67 (fun o15 _ => ?_)
          refine z_iload_n X (q := 3) dX8_like_70 rfl rfl ?_
          refine z_aload_n X (q := 1) dX8_like_71 rfl rfl ?_
          refine z_getr X hK (N := 46) (ci := 8) (k := 8) rfl (by decide) inlX8 (by decide) hf_X8_23 rfl spM_X8 rfl dX8_like_72 (fun o16 _ => ?_)
          refine z_iload_n X (q := 3) dX8_like_75 rfl rfl ?_
          refine z_iald X hK dX8_like_76 (fun o17 j18 _ _ => ?_)
          refine z_iconst X (v := (1 : Int32)) dX8_like_77 (by decide) ?_
          refine z_iload_n X (q := 2) dX8_like_78 rfl rfl ?_
          refine z_ishl X dX8_like_79 ?_
          refine z_iconst X (v := (-1 : Int32)) dX8_like_80 (by decide) ?_
          refine z_ixor X dX8_like_81 ?_
          refine z_iand X dX8_like_82 ?_
          refine z_iload_n X (q := 4) dX8_like_83 rfl rfl ?_
          refine z_iload_n X (q := 2) dX8_like_84 rfl rfl ?_
          refine z_ishl X dX8_like_85 ?_
          refine z_ior X dX8_like_86 ?_
          refine z_iast X hK dX8_like_87 (fun o19 j20 st21 _ _ => ?_)
          refine z_iload X (q := 0) dX8_like_88 rfl ?_
          subst hQ; exact z_iret X hlocks hr dX8_like_90
        · refine z_bipush X (v := (-2 : Int32)) dX8_like_29 (by decide) ?_
          subst hQ; exact z_iret X hlocks hr dX8_like_31
theorem zw_854 : Cond.methodLink RX8 420 yX8_firstOther ∈ wsL_law := zr_44 _ (by decide +kernel)
theorem zw_855 : Cond.instanceMethod yX8_firstOther ∈ wsL_law := zr_44 _ (by decide +kernel)
theorem zw_856 : Cond.selects RX8 yX8_firstOther yX8_firstOther ∈ wsL_law := zr_45 _ (by decide +kernel)
theorem zw_857 : Cond.code yX8_firstOther cX8_firstOther 4 (some .int) ∈ wsL_law := zr_45 _ (by decide +kernel)
theorem hk_X8_420 : ∀ w ∈ ([Cond.methodLink RX8 420 yX8_firstOther, Cond.instanceMethod yX8_firstOther, Cond.selects RX8 yX8_firstOther yX8_firstOther, Cond.initialized RX8, Cond.code yX8_firstOther cX8_firstOther 4 (some .int)] : List Cond), w ∈ wsL_law := List.forall_mem_cons.mpr ⟨zw_854, List.forall_mem_cons.mpr ⟨zw_855, List.forall_mem_cons.mpr ⟨zw_856, List.forall_mem_cons.mpr ⟨zw_525, List.forall_mem_cons.mpr ⟨zw_857, fun _ h => absurd h List.not_mem_nil⟩⟩⟩⟩⟩
theorem hd_X8_firstOther : yX8_firstOther.cls = RX8 ∧ yX8_firstOther.cls ≠ "java/lang/invoke/MethodHandle" ∧ yX8_firstOther.cls ≠ "java/lang/invoke/VarHandle" ∧ (parseMethodDescriptor yX8_firstOther.desc).map (fun d => d.parameters.length) = some 2 := by decide +kernel
abbrev rmX8_likeSet : Room := { frames := 46, cells := 0, slots := 0, locals := 1047 }
def fX8_likeSet_j28 (this : Nat) (k4 : Int32 → Int32 → Int32 → zS → Option (Int32 × zS)) (y1 : Int32) (y3 : Int32) (s0 : Int32) (s1 : Int32) (st : zS) : Option (Int32 × zS) :=
  zlet ((s0 ||| (s1 <<< (y3 &&& 31)))) fun v1 => k4 y1 v1 (y3 + (1 : Int32)) st
def fX8_likeSet_L4 (this : Nat) : Nat → Int32 → Int32 → Int32 → zS → Option (Int32 × zS)
  | 0, _, _, _, _ => none
  | n + 1, y1, y2, y3, st => (zok spM st (some this) 8).bind fun o2 => if (st.2.1 o2 11) ≤ y3 then (some (y2, st)) else ((zok spM st (some this) 8).bind fun o4 => (fX8_firstOther o4 y1 y3 st).bind fun q3 => if q3.1 = (-1 : Int32) then (fX8_likeSet_j28 this (fX8_likeSet_L4 this n) y1 y3 y2 (1 : Int32) q3.2) else (fX8_likeSet_j28 this (fX8_likeSet_L4 this n) y1 y3 y2 (0 : Int32) q3.2))
def fX8_likeSet (this : Nat) (a1 : Int32) (st : zS) : Option (Int32 × zS) :=
  fX8_likeSet_L4 this zF a1 (0 : Int32) (0 : Int32) st
set_option maxRecDepth 100000 in
set_option maxHeartbeats 4000000 in
theorem kX8_likeSet (l : Launch) (Z : zZ) (b : Nat) (x : Option Nat) (this : Nat) (a1 : Int32) (st : zS) : zC l Z spM b x yX8_likeSet (.code yX8_likeSet cX8_likeSet 4 (some .int)) (rmX8_likeSet) rI [vP (some this), vI a1] st (fX8_likeSet this a1 st) := by
  refine z_start (own := RX8) rfl (by decide +kernel) (Nat.le_of_ble_eq_true rfl) rfl (fun p e s m args below meth c res Q A X hK hr hlocks hQ => ?_)
  have J4 : ∀ (n4 : Nat) (y1 : Int32) (y2 : Int32) (y3 : Int32) (st : zS), zs p l e (rmX8_likeSet) s m args below meth c Q Z spM b x A 4 0 0 res (fX8_likeSet_L4 this n4 y1 y2 y3 st) 4 [(0, vP (some this)), (1, vI y1), (2, vI y2), (3, vI y3)] [] st := by
    intro n4
    induction n4 with
    | zero => intros; exact z_none
    | succ n4 ih4 =>
      have J28 : ∀ (y1 : Int32) (y3 : Int32) (s0 : Int32) (s1 : Int32) (st : zS), zs p l e (rmX8_likeSet) s m args below meth c Q Z spM b x A 4 0 0 res (fX8_likeSet_j28 this (fX8_likeSet_L4 this n4) y1 y3 s0 s1 st) 28 [(0, vP (some this)), (1, vI y1), (3, vI y3)] [vI s1, vI s0] st := by
        intro y1 y3 s0 s1 st
        rw [fX8_likeSet_j28]
        refine z_iload_n X (q := 2) dX8_likeSet_28 rfl rfl ?_
        refine z_ishl X dX8_likeSet_29 ?_
        refine z_ior X dX8_likeSet_30 ?_
        refine z_name (fun v1 => ?_)
        refine z_istore_n X dX8_likeSet_31 rfl (Nat.le_of_ble_eq_true rfl) rfl ?_
        refine z_iinc X (q := 3) (y := y3 + (1 : Int32)) dX8_likeSet_32 rfl rfl (Nat.le_of_ble_eq_true rfl) rfl ?_
        refine z_goto X (tgt := 4) dX8_likeSet_35 (by decide) ?_
        exact z_sub [2, 3, 1, 0] (ih4 _ _ _ _) rfl
      intro y1 y2 y3 st
      rw [fX8_likeSet_L4]
      refine z_iload_n X (q := 3) dX8_likeSet_4 rfl rfl ?_
      refine z_aload_n X (q := 0) dX8_likeSet_5 rfl rfl ?_
      refine z_geti X hK (N := 46) (ci := 8) (k := 11) rfl (by decide) inlX8 (by decide) hf_X8_74 rfl spM_X8 rfl dX8_likeSet_6 (fun o2 _ => ?_)
      refine z_icmp_ge X (tgt := 38) dX8_likeSet_9 (by decide) (fun _ => ?_) (fun _ => ?_)
      · refine z_iload_n X (q := 2) dX8_likeSet_38 rfl rfl ?_
        subst hQ; exact z_iret X hlocks hr dX8_likeSet_39
      · refine z_iload_n X (q := 2) dX8_likeSet_12 rfl rfl ?_
        refine z_aload_n X (q := 0) dX8_likeSet_13 rfl rfl ?_
        refine z_iload_n X (q := 1) dX8_likeSet_14 rfl rfl ?_
        refine z_iload_n X (q := 3) dX8_likeSet_15 rfl rfl ?_
        refine z_callV X hK (As := [vI y1, vI y3]) (ci := 8) rfl (by decide) (fun o => (kX8_firstOther l Z  b x o _ _ _)) hk_X8_420 ⟨rfl, rfl⟩ hd_X8_firstOther ⟨Nat.le_of_ble_eq_true rfl, Nat.le_of_ble_eq_true rfl⟩ ⟨Nat.le_of_ble_eq_true rfl, Nat.le_of_ble_eq_true rfl⟩ rfl rfl (Nat.le_of_ble_eq_true rfl) dX8_likeSet_16 (fun _ q3 _ => ?_)
        refine z_iconst X (v := (-1 : Int32)) dX8_likeSet_19 (by decide) ?_
        refine z_icmp_ne X (tgt := 27) dX8_likeSet_20 (by decide) (fun _ => ?_) (fun _ => ?_)
        · refine z_iconst X (v := (0 : Int32)) dX8_likeSet_27 (by decide) ?_
          exact z_sub [0, 1, 3] (J28 _ _ _ _ _) rfl
        · refine z_iconst X (v := (1 : Int32)) dX8_likeSet_23 (by decide) ?_
          refine z_goto X (tgt := 28) dX8_likeSet_24 (by decide) ?_
          exact z_sub [0, 1, 3] (J28 _ _ _ _ _) rfl
  rw [fX8_likeSet]
  refine z_iconst X (v := (0 : Int32)) dX8_likeSet_0 (by decide) ?_
  refine z_istore_n X dX8_likeSet_1 rfl (Nat.le_of_ble_eq_true rfl) rfl ?_
  refine z_iconst X (v := (0 : Int32)) dX8_likeSet_2 (by decide) ?_
  refine z_istore_n X dX8_likeSet_3 rfl (Nat.le_of_ble_eq_true rfl) rfl ?_
  exact z_sub [2, 3, 1, 0] (J4 _ _ _ _ _) rfl
theorem zw_858 : Cond.fieldLink RX8 38 "WellGivesOtherModel" "apart" "[I" ∈ wsL_law := zr_6 _ (by decide +kernel)
theorem hf_X8_38 : Cond.fieldLink RX8 38 "WellGivesOtherModel" "apart" "[I" ∈ wsL_law := zw_858
abbrev rmX8_map : Room := { frames := 3, cells := 0, slots := 0, locals := 85 }
def fX8_map_j175 (this : Nat) (k60 : Int32 → Int32 → zS → Option (Int32 × zS)) (k123 : Int32 → Int32 → Int32 → Int32 → Int32 → zS → Option (Int32 × zS)) (y1 : Int32) (y2 : Int32) (y3 : Int32) (y4 : Int32) (y5 : Int32) (st : zS) : Option (Int32 × zS) :=
  k123 y1 y2 y3 y4 (y5 + (1 : Int32)) st
def fX8_map_L123 (this : Nat) (k60 : Int32 → Int32 → zS → Option (Int32 × zS)) : Nat → Int32 → Int32 → Int32 → Int32 → Int32 → zS → Option (Int32 × zS)
  | 0, _, _, _, _, _, _ => none
  | n + 1, y1, y2, y3, y4, y5, st => if (12 : Int32) ≤ y5 then (k60 y1 (y2 + (2 : Int32)) st) else (if ((y3 >>> (y5 &&& 31)) &&& (1 : Int32)) = (1 : Int32) then (if y5 = y4 then (fX8_map_j175 this k60 (fX8_map_L123 this k60 n) y1 y2 y3 y4 y5 st) else ((zok spM st (some this) 8).bind fun o1 => (zok spM st (st.2.2.2 o1 36) 9).bind fun o2 => (zix spM o2 y5).bind fun j3 => (zok spM st (st.2.2.2 o1 36) 9).bind fun o4 => (zix spM o4 y5).bind fun j5 => zlet (zp st o4 j5 ((st.2.1 o2 j3) ||| ((1 : Int32) <<< (y4 &&& 31)))) fun st6 => (zok spM st6 (some this) 8).bind fun o7 => (zok spM st6 (st6.2.2.2 o7 36) 9).bind fun o8 => (zix spM o8 y4).bind fun j9 => (zok spM st6 (st6.2.2.2 o7 36) 9).bind fun o10 => (zix spM o10 y4).bind fun j11 => zlet (zp st6 o10 j11 ((st6.2.1 o8 j9) ||| ((1 : Int32) <<< (y5 &&& 31)))) fun st12 => fX8_map_j175 this k60 (fX8_map_L123 this k60 n) y1 y2 y3 y4 y5 st12)) else (fX8_map_j175 this k60 (fX8_map_L123 this k60 n) y1 y2 y3 y4 y5 st))
def fX8_map_L191 (this : Nat) : Nat → Int32 → Int32 → zS → Option (Int32 × zS)
  | 0, _, _, _ => none
  | n + 1, y2, y3, st => if (12 : Int32) ≤ y3 then (if (2 : Int32) = 0 then none else some ((y2 / (2 : Int32)), st)) else ((zok spM st (some this) 8).bind fun o13 => (zok spM st (st.2.2.2 o13 36) 9).bind fun o14 => (zix spM o14 y3).bind fun j15 => (fX8_bitsOf (st.2.1 o14 j15) st).bind fun q16 => zlet ((y2 + q16.1)) fun v17 => (fX8_map_L191 this n) v17 (y3 + (1 : Int32)) q16.2)
def fX8_map_L60 (this : Nat) : Nat → Int32 → Int32 → zS → Option (Int32 × zS)
  | 0, _, _, _ => none
  | n + 1, y1, y2, st => (zok spM st (some this) 8).bind fun o18 => (zok spM st (st.2.2.2 o18 44) 9).bind fun o19 => (zix spM o19 y1).bind fun j20 => if (st.2.1 o19 j20) ≤ y2 then (fX8_map_L191 this zF (0 : Int32) (0 : Int32) st) else ((zok spM st (some this) 8).bind fun o21 => (zok spM st (st.2.2.2 o21 45) 9).bind fun o22 => (zix spM o22 (((40 : Int32) * y1) + y2)).bind fun j23 => zlet ((st.2.1 o22 j23)) fun v24 => (zok spM st (some this) 8).bind fun o25 => (zok spM st (st.2.2.2 o25 45) 9).bind fun o26 => (zix spM o26 ((((40 : Int32) * y1) + y2) + (1 : Int32))).bind fun j27 => zlet ((st.2.1 o26 j27)) fun v28 => (fX8_in (v24.toInt64) (0 : Int64) (4095 : Int64) st).bind fun q29 => if q29.1 = 0 then (some ((-2 : Int32), q29.2)) else ((fX8_isThing v28 q29.2).bind fun q30 => if q30.1 = 0 then (some ((-2 : Int32), q30.2)) else (fX8_map_L123 this (fX8_map_L60 this n) zF y1 y2 v24 v28 (0 : Int32) q30.2)))
def fX8_map_L39 (this : Nat) : Nat → Int32 → Int32 → zS → Option (Int32 × zS)
  | 0, _, _, _ => none
  | n + 1, y1, y2, st => if (12 : Int32) ≤ y2 then (fX8_map_L60 this zF y1 (0 : Int32) st) else ((zok spM st (some this) 8).bind fun o31 => (zok spM st (st.2.2.2 o31 36) 9).bind fun o32 => (zix spM o32 y2).bind fun j33 => zlet (zp st o32 j33 (0 : Int32)) fun st34 => (fX8_map_L39 this n) y1 (y2 + (1 : Int32)) st34)
def fX8_map (this : Nat) (a1 : Int32) (st : zS) : Option (Int32 × zS) :=
  (fX8_isSheet a1 st).bind fun q35 => if q35.1 = 0 then (some ((-2 : Int32), q35.2)) else ((zok spM q35.2 (some this) 8).bind fun o36 => (zok spM q35.2 (q35.2.2.2.2 o36 42) 10).bind fun o37 => (zix spM o37 a1).bind fun j38 => if (q35.2.2.1 o37 j38) = 0 then (some ((-11 : Int32), q35.2)) else ((zok spM q35.2 (some this) 8).bind fun o39 => (zok spM q35.2 (q35.2.2.2.2 o39 44) 9).bind fun o40 => (zix spM o40 a1).bind fun j41 => if (2 : Int32) = 0 then none else if ((q35.2.2.1 o40 j41) - (q35.2.2.1 o40 j41) / (2 : Int32) * (2 : Int32)) = (1 : Int32) then (some ((-2 : Int32), q35.2)) else (fX8_map_L39 this zF a1 (0 : Int32) q35.2)))
set_option maxRecDepth 100000 in
set_option maxHeartbeats 4000000 in
theorem kX8_map (l : Launch) (Z : zZ) (b : Nat) (x : Option Nat) (this : Nat) (a1 : Int32) (st : zS) : zC l Z spM b x yX8_map (.code yX8_map cX8_map 6 (some .int)) (rmX8_map) rI [vP (some this), vI a1] st (fX8_map this a1 st) := by
  refine z_start (own := RX8) rfl (by decide +kernel) (Nat.le_of_ble_eq_true rfl) rfl (fun p e s m args below meth c res Q A X hK hr hlocks hQ => ?_)
  have J191 : ∀ (n191 : Nat) (y2 : Int32) (y3 : Int32) (st : zS), zs p l e (rmX8_map) s m args below meth c Q Z spM b x A 6 0 0 res (fX8_map_L191 this n191 y2 y3 st) 191 [(0, vP (some this)), (2, vI y2), (3, vI y3)] [] st := by
    intro n191
    induction n191 with
    | zero => intros; exact z_none
    | succ n191 ih191 =>
      intro y2 y3 st
      rw [fX8_map_L191]
      refine z_iload_n X (q := 2) dX8_map_191 rfl rfl ?_
      refine z_bipush X (v := (12 : Int32)) dX8_map_192 (by decide) ?_
      refine z_icmp_ge X (tgt := 215) dX8_map_194 (by decide) (fun _ => ?_) (fun _ => ?_)
      · refine z_iload_n X (q := 1) dX8_map_215 rfl rfl ?_
        refine z_iconst X (v := (2 : Int32)) dX8_map_216 (by decide) ?_
        refine z_idiv X dX8_map_217 (fun _ => ?_)
        subst hQ; exact z_iret X hlocks hr dX8_map_218
      · refine z_iload_n X (q := 1) dX8_map_197 rfl rfl ?_
        refine z_aload_n X (q := 0) dX8_map_198 rfl rfl ?_
        refine z_getr X hK (N := 46) (ci := 8) (k := 36) rfl (by decide) inlX8 (by decide) hf_X8_38 rfl spM_X8 rfl dX8_map_199 (fun o13 _ => ?_)
        refine z_iload_n X (q := 2) dX8_map_202 rfl rfl ?_
        refine z_iald X hK dX8_map_203 (fun o14 j15 _ _ => ?_)
        refine z_callS X hK (As := [vI (st.2.1 o14 j15)]) (kX8_bitsOf l Z  b x _ _) hk_X8_63 ⟨rfl, rfl⟩ hd_X8_bitsOf.2 ⟨Nat.le_of_ble_eq_true rfl, Nat.le_of_ble_eq_true rfl⟩ ⟨Nat.le_of_ble_eq_true rfl, Nat.le_of_ble_eq_true rfl⟩ rfl rfl (Nat.le_of_ble_eq_true rfl) dX8_map_204 (fun q16 => ?_)
        refine z_iadd X dX8_map_207 ?_
        refine z_name (fun v17 => ?_)
        refine z_istore_n X dX8_map_208 rfl (Nat.le_of_ble_eq_true rfl) rfl ?_
        refine z_iinc X (q := 2) (y := y3 + (1 : Int32)) dX8_map_209 rfl rfl (Nat.le_of_ble_eq_true rfl) rfl ?_
        refine z_goto X (tgt := 191) dX8_map_212 (by decide) ?_
        exact z_sub [2, 1, 0] (ih191 _ _ _) rfl
  have J60 : ∀ (n60 : Nat) (y1 : Int32) (y2 : Int32) (st : zS), zs p l e (rmX8_map) s m args below meth c Q Z spM b x A 6 0 0 res (fX8_map_L60 this n60 y1 y2 st) 60 [(0, vP (some this)), (1, vI y1), (2, vI y2)] [] st := by
    intro n60
    induction n60 with
    | zero => intros; exact z_none
    | succ n60 ih60 =>
      have J123 : ∀ (n123 : Nat) (y1 : Int32) (y2 : Int32) (y3 : Int32) (y4 : Int32) (y5 : Int32) (st : zS), zs p l e (rmX8_map) s m args below meth c Q Z spM b x A 6 0 0 res (fX8_map_L123 this (fX8_map_L60 this n60) n123 y1 y2 y3 y4 y5 st) 123 [(0, vP (some this)), (1, vI y1), (2, vI y2), (3, vI y3), (4, vI y4), (5, vI y5)] [] st := by
        intro n123
        induction n123 with
        | zero => intros; exact z_none
        | succ n123 ih123 =>
          have J175 : ∀ (y1 : Int32) (y2 : Int32) (y3 : Int32) (y4 : Int32) (y5 : Int32) (st : zS), zs p l e (rmX8_map) s m args below meth c Q Z spM b x A 6 0 0 res (fX8_map_j175 this (fX8_map_L60 this n60) (fX8_map_L123 this (fX8_map_L60 this n60) n123) y1 y2 y3 y4 y5 st) 175 [(0, vP (some this)), (1, vI y1), (2, vI y2), (3, vI y3), (4, vI y4), (5, vI y5)] [] st := by
            intro y1 y2 y3 y4 y5 st
            rw [fX8_map_j175]
            refine z_iinc X (q := 5) (y := y5 + (1 : Int32)) dX8_map_175 rfl rfl (Nat.le_of_ble_eq_true rfl) rfl ?_
            refine z_goto X (tgt := 123) dX8_map_178 (by decide) ?_
            exact z_sub [1, 2, 3, 4, 5, 0] (ih123 _ _ _ _ _ _) rfl
          intro y1 y2 y3 y4 y5 st
          rw [fX8_map_L123]
          refine z_iload X (q := 5) dX8_map_123 rfl ?_
          refine z_bipush X (v := (12 : Int32)) dX8_map_125 (by decide) ?_
          refine z_icmp_ge X (tgt := 181) dX8_map_127 (by decide) (fun _ => ?_) (fun _ => ?_)
          · refine z_iinc X (q := 2) (y := y2 + (2 : Int32)) dX8_map_181 rfl rfl (Nat.le_of_ble_eq_true rfl) rfl ?_
            refine z_goto X (tgt := 60) dX8_map_184 (by decide) ?_
            exact z_sub [1, 2, 0] (ih60 _ _ _) rfl
          · refine z_iload_n X (q := 3) dX8_map_130 rfl rfl ?_
            refine z_iload X (q := 5) dX8_map_131 rfl ?_
            refine z_ishr X dX8_map_133 ?_
            refine z_iconst X (v := (1 : Int32)) dX8_map_134 (by decide) ?_
            refine z_iand X dX8_map_135 ?_
            refine z_iconst X (v := (1 : Int32)) dX8_map_136 (by decide) ?_
            refine z_icmp_ne X (tgt := 175) dX8_map_137 (by decide) (fun _ => ?_) (fun _ => ?_)
            · exact z_sub [0, 1, 2, 3, 4, 5] (J175 _ _ _ _ _ _) rfl
            · refine z_iload X (q := 5) dX8_map_140 rfl ?_
              refine z_iload X (q := 4) dX8_map_142 rfl ?_
              refine z_icmp_eq X (tgt := 175) dX8_map_144 (by decide) (fun _ => ?_) (fun _ => ?_)
              · exact z_sub [0, 1, 2, 3, 4, 5] (J175 _ _ _ _ _ _) rfl
              · refine z_aload_n X (q := 0) dX8_map_147 rfl rfl ?_
                refine z_getr X hK (N := 46) (ci := 8) (k := 36) rfl (by decide) inlX8 (by decide) hf_X8_38 rfl spM_X8 rfl dX8_map_148 (fun o1 _ => ?_)
                refine z_iload X (q := 5) dX8_map_151 rfl ?_
                refine z_dup2 X dX8_map_153 rfl rfl ?_
                refine z_iald X hK dX8_map_154 (fun o2 j3 _ _ => ?_)
                refine z_iconst X (v := (1 : Int32)) dX8_map_155 (by decide) ?_
                refine z_iload X (q := 4) dX8_map_156 rfl ?_
                refine z_ishl X dX8_map_158 ?_
                refine z_ior X dX8_map_159 ?_
                refine z_iast X hK dX8_map_160 (fun o4 j5 st6 _ _ => ?_)
                refine z_aload_n X (q := 0) dX8_map_161 rfl rfl ?_
                refine z_getr X hK (N := 46) (ci := 8) (k := 36) rfl (by decide) inlX8 (by decide) hf_X8_38 rfl spM_X8 rfl dX8_map_162 (fun o7 _ => ?_)
                refine z_iload X (q := 4) dX8_map_165 rfl ?_
                refine z_dup2 X dX8_map_167 rfl rfl ?_
                refine z_iald X hK dX8_map_168 (fun o8 j9 _ _ => ?_)
                refine z_iconst X (v := (1 : Int32)) dX8_map_169 (by decide) ?_
                refine z_iload X (q := 5) dX8_map_170 rfl ?_
                refine z_ishl X dX8_map_172 ?_
                refine z_ior X dX8_map_173 ?_
                refine z_iast X hK dX8_map_174 (fun o10 j11 st12 _ _ => ?_)
                exact z_sub [0, 1, 2, 3, 4, 5] (J175 _ _ _ _ _ _) rfl
      intro y1 y2 st
      rw [fX8_map_L60]
      refine z_iload_n X (q := 2) dX8_map_60 rfl rfl ?_
      refine z_aload_n X (q := 0) dX8_map_61 rfl rfl ?_
      refine z_getr X hK (N := 46) (ci := 8) (k := 44) rfl (by decide) inlX8 (by decide) hf_X8_57 rfl spM_X8 rfl dX8_map_62 (fun o18 _ => ?_)
      refine z_iload_n X (q := 1) dX8_map_65 rfl rfl ?_
      refine z_iald X hK dX8_map_66 (fun o19 j20 _ _ => ?_)
      refine z_icmp_ge X (tgt := 187) dX8_map_67 (by decide) (fun _ => ?_) (fun _ => ?_)
      · refine z_iconst X (v := (0 : Int32)) dX8_map_187 (by decide) ?_
        refine z_istore_n X dX8_map_188 rfl (Nat.le_of_ble_eq_true rfl) rfl ?_
        refine z_iconst X (v := (0 : Int32)) dX8_map_189 (by decide) ?_
        refine z_istore_n X dX8_map_190 rfl (Nat.le_of_ble_eq_true rfl) rfl ?_
        exact z_sub [2, 1, 0] (J191 _ _ _ _) rfl
      · refine z_aload_n X (q := 0) dX8_map_70 rfl rfl ?_
        refine z_getr X hK (N := 46) (ci := 8) (k := 45) rfl (by decide) inlX8 (by decide) hf_X8_60 rfl spM_X8 rfl dX8_map_71 (fun o21 _ => ?_)
        refine z_bipush X (v := (40 : Int32)) dX8_map_74 (by decide) ?_
        refine z_iload_n X (q := 1) dX8_map_76 rfl rfl ?_
        refine z_imul X dX8_map_77 ?_
        refine z_iload_n X (q := 2) dX8_map_78 rfl rfl ?_
        refine z_iadd X dX8_map_79 ?_
        refine z_iald X hK dX8_map_80 (fun o22 j23 _ _ => ?_)
        refine z_name (fun v24 => ?_)
        refine z_istore_n X dX8_map_81 rfl (Nat.le_of_ble_eq_true rfl) rfl ?_
        refine z_aload_n X (q := 1) dX8_map_82 rfl rfl ?_
        refine z_getr X hK (N := 46) (ci := 8) (k := 45) rfl (by decide) inlX8 (by decide) hf_X8_60 rfl spM_X8 rfl dX8_map_83 (fun o25 _ => ?_)
        refine z_bipush X (v := (40 : Int32)) dX8_map_86 (by decide) ?_
        refine z_iload_n X (q := 2) dX8_map_88 rfl rfl ?_
        refine z_imul X dX8_map_89 ?_
        refine z_iload_n X (q := 3) dX8_map_90 rfl rfl ?_
        refine z_iadd X dX8_map_91 ?_
        refine z_iconst X (v := (1 : Int32)) dX8_map_92 (by decide) ?_
        refine z_iadd X dX8_map_93 ?_
        refine z_iald X hK dX8_map_94 (fun o26 j27 _ _ => ?_)
        refine z_name (fun v28 => ?_)
        refine z_istore X dX8_map_95 (Nat.le_of_ble_eq_true rfl) rfl ?_
        refine z_iload_n X (q := 1) dX8_map_97 rfl rfl ?_
        refine z_i2l X dX8_map_98 ?_
        refine z_lconst X (v := (0 : Int64)) dX8_map_99 (by decide) ?_
        refine z_ldc2 X (v := (4095 : Int64)) (hc_X8_350) dX8_map_100 ?_
        refine z_callS X hK (As := [vL (v24.toInt64), vL (0 : Int64), vL (4095 : Int64)]) (kX8_in l Z  b x _ _ _ _) hk_X8_77 ⟨rfl, rfl⟩ hd_X8_in.2 ⟨Nat.le_of_ble_eq_true rfl, Nat.le_of_ble_eq_true rfl⟩ ⟨Nat.le_of_ble_eq_true rfl, Nat.le_of_ble_eq_true rfl⟩ rfl rfl (Nat.le_of_ble_eq_true rfl) dX8_map_103 (fun q29 => ?_)
        refine z_if_eq X (tgt := 117) dX8_map_106 (by decide) (fun _ => ?_) (fun _ => ?_)
        · refine z_bipush X (v := (-2 : Int32)) dX8_map_117 (by decide) ?_
          subst hQ; exact z_iret X hlocks hr dX8_map_119
        · refine z_iload X (q := 0) dX8_map_109 rfl ?_
          refine z_callS X hK (As := [vI v28]) (kX8_isThing l Z  b x _ _) hk_X8_83 ⟨rfl, rfl⟩ hd_X8_isThing.2 ⟨Nat.le_of_ble_eq_true rfl, Nat.le_of_ble_eq_true rfl⟩ ⟨Nat.le_of_ble_eq_true rfl, Nat.le_of_ble_eq_true rfl⟩ rfl rfl (Nat.le_of_ble_eq_true rfl) dX8_map_111 (fun q30 => ?_)
          refine z_if_ne X (tgt := 120) dX8_map_114 (by decide) (fun _ => ?_) (fun _ => ?_)
          · refine z_iconst X (v := (0 : Int32)) dX8_map_120 (by decide) ?_
            refine z_istore X dX8_map_121 (Nat.le_of_ble_eq_true rfl) rfl ?_
            exact z_sub [3, 4, 5, 2, 1, 0] (J123 _ _ _ _ _ _ _) rfl
          · refine z_bipush X (v := (-2 : Int32)) dX8_map_117 (by decide) ?_
            subst hQ; exact z_iret X hlocks hr dX8_map_119
  have J39 : ∀ (n39 : Nat) (y1 : Int32) (y2 : Int32) (st : zS), zs p l e (rmX8_map) s m args below meth c Q Z spM b x A 6 0 0 res (fX8_map_L39 this n39 y1 y2 st) 39 [(0, vP (some this)), (1, vI y1), (2, vI y2)] [] st := by
    intro n39
    induction n39 with
    | zero => intros; exact z_none
    | succ n39 ih39 =>
      intro y1 y2 st
      rw [fX8_map_L39]
      refine z_iload_n X (q := 2) dX8_map_39 rfl rfl ?_
      refine z_bipush X (v := (12 : Int32)) dX8_map_40 (by decide) ?_
      refine z_icmp_ge X (tgt := 58) dX8_map_42 (by decide) (fun _ => ?_) (fun _ => ?_)
      · refine z_iconst X (v := (0 : Int32)) dX8_map_58 (by decide) ?_
        refine z_istore_n X dX8_map_59 rfl (Nat.le_of_ble_eq_true rfl) rfl ?_
        exact z_sub [1, 2, 0] (J60 _ _ _ _) rfl
      · refine z_aload_n X (q := 0) dX8_map_45 rfl rfl ?_
        refine z_getr X hK (N := 46) (ci := 8) (k := 36) rfl (by decide) inlX8 (by decide) hf_X8_38 rfl spM_X8 rfl dX8_map_46 (fun o31 _ => ?_)
        refine z_iload_n X (q := 2) dX8_map_49 rfl rfl ?_
        refine z_iconst X (v := (0 : Int32)) dX8_map_50 (by decide) ?_
        refine z_iast X hK dX8_map_51 (fun o32 j33 st34 _ _ => ?_)
        refine z_iinc X (q := 2) (y := y2 + (1 : Int32)) dX8_map_52 rfl rfl (Nat.le_of_ble_eq_true rfl) rfl ?_
        refine z_goto X (tgt := 39) dX8_map_55 (by decide) ?_
        exact z_sub [1, 2, 0] (ih39 _ _ _) rfl
  rw [fX8_map]
  refine z_iload_n X (q := 1) dX8_map_0 rfl rfl ?_
  refine z_callS X hK (As := [vI a1]) (kX8_isSheet l Z  b x _ _) hk_X8_390 ⟨rfl, rfl⟩ hd_X8_isSheet.2 ⟨Nat.le_of_ble_eq_true rfl, Nat.le_of_ble_eq_true rfl⟩ ⟨Nat.le_of_ble_eq_true rfl, Nat.le_of_ble_eq_true rfl⟩ rfl rfl (Nat.le_of_ble_eq_true rfl) dX8_map_1 (fun q35 => ?_)
  refine z_if_ne X (tgt := 10) dX8_map_4 (by decide) (fun _ => ?_) (fun _ => ?_)
  · refine z_aload_n X (q := 0) dX8_map_10 rfl rfl ?_
    refine z_getr X hK (N := 46) (ci := 8) (k := 42) rfl (by decide) inlX8 (by decide) hf_X8_50 rfl spM_X8 rfl dX8_map_11 (fun o36 _ => ?_)
    refine z_iload_n X (q := 1) dX8_map_14 rfl rfl ?_
    refine z_zald X hK dX8_map_15 (fun o37 j38 _ _ => ?_)
    refine z_if_ne X (tgt := 22) dX8_map_16 (by decide) (fun _ => ?_) (fun _ => ?_)
    · refine z_aload_n X (q := 0) dX8_map_22 rfl rfl ?_
      refine z_getr X hK (N := 46) (ci := 8) (k := 44) rfl (by decide) inlX8 (by decide) hf_X8_57 rfl spM_X8 rfl dX8_map_23 (fun o39 _ => ?_)
      refine z_iload_n X (q := 1) dX8_map_26 rfl rfl ?_
      refine z_iald X hK dX8_map_27 (fun o40 j41 _ _ => ?_)
      refine z_iconst X (v := (2 : Int32)) dX8_map_28 (by decide) ?_
      refine z_irem X dX8_map_29 (fun _ => ?_)
      refine z_iconst X (v := (1 : Int32)) dX8_map_30 (by decide) ?_
      refine z_icmp_ne X (tgt := 37) dX8_map_31 (by decide) (fun _ => ?_) (fun _ => ?_)
      · refine z_iconst X (v := (0 : Int32)) dX8_map_37 (by decide) ?_
        refine z_istore_n X dX8_map_38 rfl (Nat.le_of_ble_eq_true rfl) rfl ?_
        exact z_sub [1, 2, 0] (J39 _ _ _ _) rfl
      · refine z_bipush X (v := (-2 : Int32)) dX8_map_34 (by decide) ?_
        subst hQ; exact z_iret X hlocks hr dX8_map_36
    · refine z_bipush X (v := (-11 : Int32)) dX8_map_19 (by decide) ?_
      subst hQ; exact z_iret X hlocks hr dX8_map_21
  · refine z_bipush X (v := (-2 : Int32)) dX8_map_7 (by decide) ?_
    subst hQ; exact z_iret X hlocks hr dX8_map_9
abbrev rmX8_mostOf : Room := { frames := 1, cells := 0, slots := 0, locals := 40 }
def fX8_mostOf (a0 : Int32) (st : zS) : Option (Int32 × zS) :=
  if a0 = 0 then (some ((999 : Int32), st)) else (if a0 = (1 : Int32) then (some ((9 : Int32), st)) else (if a0 = (4 : Int32) then (some ((9999 : Int32), st)) else (some ((4095 : Int32), st))))
set_option maxRecDepth 100000 in
set_option maxHeartbeats 4000000 in
theorem kX8_mostOf (l : Launch) (Z : zZ) (b : Nat) (x : Option Nat) (a0 : Int32) (st : zS) : zC l Z spM b x yX8_mostOf (.code yX8_mostOf cX8_mostOf 1 (some .int)) (rmX8_mostOf) rI [vI a0] st (fX8_mostOf a0 st) := by
  refine z_start (own := RX8) rfl (by decide +kernel) (Nat.le_of_ble_eq_true rfl) rfl (fun p e s m args below meth c res Q A X hK hr hlocks hQ => ?_)
  rw [fX8_mostOf]
  refine z_iload_n X (q := 0) dX8_mostOf_0 rfl rfl ?_
  refine z_if_ne X (tgt := 10) dX8_mostOf_1 (by decide) (fun _ => ?_) (fun _ => ?_)
  · refine z_iload_n X (q := 0) dX8_mostOf_10 rfl rfl ?_
    refine z_iconst X (v := (1 : Int32)) dX8_mostOf_11 (by decide) ?_
    refine z_icmp_ne X (tgt := 20) dX8_mostOf_12 (by decide) (fun _ => ?_) (fun _ => ?_)
    · refine z_iload_n X (q := 0) dX8_mostOf_20 rfl rfl ?_
      refine z_iconst X (v := (4 : Int32)) dX8_mostOf_21 (by decide) ?_
      refine z_icmp_ne X (tgt := 31) dX8_mostOf_22 (by decide) (fun _ => ?_) (fun _ => ?_)
      · refine z_sipush X (v := (4095 : Int32)) dX8_mostOf_31 (by decide) ?_
        subst hQ; exact z_iret X hlocks hr dX8_mostOf_34
      · refine z_sipush X (v := (9999 : Int32)) dX8_mostOf_25 (by decide) ?_
        refine z_goto X (tgt := 34) dX8_mostOf_28 (by decide) ?_
        subst hQ; exact z_iret X hlocks hr dX8_mostOf_34
    · refine z_bipush X (v := (9 : Int32)) dX8_mostOf_15 (by decide) ?_
      refine z_goto X (tgt := 34) dX8_mostOf_17 (by decide) ?_
      subst hQ; exact z_iret X hlocks hr dX8_mostOf_34
  · refine z_sipush X (v := (999 : Int32)) dX8_mostOf_4 (by decide) ?_
    refine z_goto X (tgt := 34) dX8_mostOf_7 (by decide) ?_
    subst hQ; exact z_iret X hlocks hr dX8_mostOf_34
theorem zw_859 : Cond.methodLink RX8 406 yX8_cliques ∈ wsL_law := zr_42 _ (by decide +kernel)
theorem zw_860 : Cond.instanceMethod yX8_cliques ∈ wsL_law := zr_42 _ (by decide +kernel)
theorem zw_861 : Cond.selects RX8 yX8_cliques yX8_cliques ∈ wsL_law := zr_42 _ (by decide +kernel)
theorem zw_862 : Cond.code yX8_cliques cX8_cliques 5 (some .int) ∈ wsL_law := zr_42 _ (by decide +kernel)
theorem hk_X8_406 : ∀ w ∈ ([Cond.methodLink RX8 406 yX8_cliques, Cond.instanceMethod yX8_cliques, Cond.selects RX8 yX8_cliques yX8_cliques, Cond.initialized RX8, Cond.code yX8_cliques cX8_cliques 5 (some .int)] : List Cond), w ∈ wsL_law := List.forall_mem_cons.mpr ⟨zw_859, List.forall_mem_cons.mpr ⟨zw_860, List.forall_mem_cons.mpr ⟨zw_861, List.forall_mem_cons.mpr ⟨zw_525, List.forall_mem_cons.mpr ⟨zw_862, fun _ h => absurd h List.not_mem_nil⟩⟩⟩⟩⟩
theorem hd_X8_cliques : yX8_cliques.cls = RX8 ∧ yX8_cliques.cls ≠ "java/lang/invoke/MethodHandle" ∧ yX8_cliques.cls ≠ "java/lang/invoke/VarHandle" ∧ (parseMethodDescriptor yX8_cliques.desc).map (fun d => d.parameters.length) = some 0 := by decide +kernel
abbrev rmX8_net : Room := { frames := 3, cells := 0, slots := 0, locals := 86 }
def fX8_net_j51 (this : Nat) (k19 : Int32 → Int32 → Int32 → zS → Option (Int32 × zS)) (y1 : Int32) (y3 : Int32) (s0 : Int32) (st : zS) : Option (Int32 × zS) :=
  k19 y1 s0 (y3 + (1 : Int32)) st
def fX8_net_L19 (this : Nat) : Nat → Int32 → Int32 → Int32 → zS → Option (Int32 × zS)
  | 0, _, _, _, _ => none
  | n + 1, y1, y2, y3, st => if (12 : Int32) ≤ y3 then (if y1 = 0 then ((zok spM st (some this) 8).bind fun o8 => (fX8_cliques o8 st).bind fun q7 => some (q7.1, q7.2)) else (if y1 = (1 : Int32) then (some (y2, st)) else (if y1 = (2 : Int32) then ((zok spM st (some this) 8).bind fun o3 => (zok spM st (st.2.2.2 o3 8) 9).bind fun o4 => (zix spM o4 y2).bind fun j5 => (fX8_bitsOf (st.2.1 o4 j5) st).bind fun q6 => some (q6.1, q6.2)) else ((zok spM st (some this) 8).bind fun o2 => (fX8_likeTwos o2 st).bind fun q1 => some (q1.1, q1.2))))) else ((zok spM st (some this) 8).bind fun o9 => (zok spM st (st.2.2.2 o9 8) 9).bind fun o10 => (zix spM o10 y3).bind fun j11 => (fX8_bitsOf (st.2.1 o10 j11) st).bind fun q12 => (zok spM q12.2 (some this) 8).bind fun o13 => (zok spM q12.2 (q12.2.2.2.2 o13 8) 9).bind fun o14 => (zix spM o14 y2).bind fun j15 => (fX8_bitsOf (q12.2.2.1 o14 j15) q12.2).bind fun q16 => if q12.1 ≤ q16.1 then (fX8_net_j51 this (fX8_net_L19 this n) y1 y3 y2 q16.2) else (fX8_net_j51 this (fX8_net_L19 this n) y1 y3 y3 q16.2))
def fX8_net (this : Nat) (a1 : Int32) (st : zS) : Option (Int32 × zS) :=
  (fX8_in (a1.toInt64) (0 : Int64) (3 : Int64) st).bind fun q17 => if q17.1 = 0 then (some ((-2 : Int32), q17.2)) else (fX8_net_L19 this zF a1 (0 : Int32) (1 : Int32) q17.2)
set_option maxRecDepth 100000 in
set_option maxHeartbeats 4000000 in
theorem kX8_net (l : Launch) (Z : zZ) (b : Nat) (x : Option Nat) (this : Nat) (a1 : Int32) (st : zS) : zC l Z spM b x yX8_net (.code yX8_net cX8_net 4 (some .int)) (rmX8_net) rI [vP (some this), vI a1] st (fX8_net this a1 st) := by
  refine z_start (own := RX8) rfl (by decide +kernel) (Nat.le_of_ble_eq_true rfl) rfl (fun p e s m args below meth c res Q A X hK hr hlocks hQ => ?_)
  have J19 : ∀ (n19 : Nat) (y1 : Int32) (y2 : Int32) (y3 : Int32) (st : zS), zs p l e (rmX8_net) s m args below meth c Q Z spM b x A 4 0 0 res (fX8_net_L19 this n19 y1 y2 y3 st) 19 [(0, vP (some this)), (1, vI y1), (2, vI y2), (3, vI y3)] [] st := by
    intro n19
    induction n19 with
    | zero => intros; exact z_none
    | succ n19 ih19 =>
      have J51 : ∀ (y1 : Int32) (y3 : Int32) (s0 : Int32) (st : zS), zs p l e (rmX8_net) s m args below meth c Q Z spM b x A 4 0 0 res (fX8_net_j51 this (fX8_net_L19 this n19) y1 y3 s0 st) 51 [(0, vP (some this)), (1, vI y1), (3, vI y3)] [vI s0] st := by
        intro y1 y3 s0 st
        rw [fX8_net_j51]
        refine z_istore_n X dX8_net_51 rfl (Nat.le_of_ble_eq_true rfl) rfl ?_
        refine z_iinc X (q := 3) (y := y3 + (1 : Int32)) dX8_net_52 rfl rfl (Nat.le_of_ble_eq_true rfl) rfl ?_
        refine z_goto X (tgt := 19) dX8_net_55 (by decide) ?_
        exact z_sub [2, 3, 1, 0] (ih19 _ _ _ _) rfl
      intro y1 y2 y3 st
      rw [fX8_net_L19]
      refine z_iload_n X (q := 3) dX8_net_19 rfl rfl ?_
      refine z_bipush X (v := (12 : Int32)) dX8_net_20 (by decide) ?_
      refine z_icmp_ge X (tgt := 58) dX8_net_22 (by decide) (fun _ => ?_) (fun _ => ?_)
      · refine z_iload_n X (q := 1) dX8_net_58 rfl rfl ?_
        refine z_if_ne X (tgt := 69) dX8_net_59 (by decide) (fun _ => ?_) (fun _ => ?_)
        · refine z_iload_n X (q := 1) dX8_net_69 rfl rfl ?_
          refine z_iconst X (v := (1 : Int32)) dX8_net_70 (by decide) ?_
          refine z_icmp_ne X (tgt := 78) dX8_net_71 (by decide) (fun _ => ?_) (fun _ => ?_)
          · refine z_iload_n X (q := 1) dX8_net_78 rfl rfl ?_
            refine z_iconst X (v := (2 : Int32)) dX8_net_79 (by decide) ?_
            refine z_icmp_ne X (tgt := 95) dX8_net_80 (by decide) (fun _ => ?_) (fun _ => ?_)
            · refine z_aload_n X (q := 0) dX8_net_95 rfl rfl ?_
              refine z_callV X hK (As := []) (ci := 8) rfl (by decide) (fun o => (kX8_likeTwos l Z  b x o _)) hk_X8_409 ⟨rfl, rfl⟩ hd_X8_likeTwos ⟨Nat.le_of_ble_eq_true rfl, Nat.le_of_ble_eq_true rfl⟩ ⟨Nat.le_of_ble_eq_true rfl, Nat.le_of_ble_eq_true rfl⟩ rfl rfl (Nat.le_of_ble_eq_true rfl) dX8_net_96 (fun _ q1 _ => ?_)
              subst hQ; exact z_iret X hlocks hr dX8_net_99
            · refine z_aload_n X (q := 0) dX8_net_83 rfl rfl ?_
              refine z_getr X hK (N := 46) (ci := 8) (k := 8) rfl (by decide) inlX8 (by decide) hf_X8_23 rfl spM_X8 rfl dX8_net_84 (fun o3 _ => ?_)
              refine z_iload_n X (q := 2) dX8_net_87 rfl rfl ?_
              refine z_iald X hK dX8_net_88 (fun o4 j5 _ _ => ?_)
              refine z_callS X hK (As := [vI (st.2.1 o4 j5)]) (kX8_bitsOf l Z  b x _ _) hk_X8_63 ⟨rfl, rfl⟩ hd_X8_bitsOf.2 ⟨Nat.le_of_ble_eq_true rfl, Nat.le_of_ble_eq_true rfl⟩ ⟨Nat.le_of_ble_eq_true rfl, Nat.le_of_ble_eq_true rfl⟩ rfl rfl (Nat.le_of_ble_eq_true rfl) dX8_net_89 (fun q6 => ?_)
              refine z_goto X (tgt := 99) dX8_net_92 (by decide) ?_
              subst hQ; exact z_iret X hlocks hr dX8_net_99
          · refine z_iload_n X (q := 2) dX8_net_74 rfl rfl ?_
            refine z_goto X (tgt := 99) dX8_net_75 (by decide) ?_
            subst hQ; exact z_iret X hlocks hr dX8_net_99
        · refine z_aload_n X (q := 0) dX8_net_62 rfl rfl ?_
          refine z_callV X hK (As := []) (ci := 8) rfl (by decide) (fun o => (kX8_cliques l Z  b x o _)) hk_X8_406 ⟨rfl, rfl⟩ hd_X8_cliques ⟨Nat.le_of_ble_eq_true rfl, Nat.le_of_ble_eq_true rfl⟩ ⟨Nat.le_of_ble_eq_true rfl, Nat.le_of_ble_eq_true rfl⟩ rfl rfl (Nat.le_of_ble_eq_true rfl) dX8_net_63 (fun _ q7 _ => ?_)
          refine z_goto X (tgt := 99) dX8_net_66 (by decide) ?_
          subst hQ; exact z_iret X hlocks hr dX8_net_99
      · refine z_aload_n X (q := 0) dX8_net_25 rfl rfl ?_
        refine z_getr X hK (N := 46) (ci := 8) (k := 8) rfl (by decide) inlX8 (by decide) hf_X8_23 rfl spM_X8 rfl dX8_net_26 (fun o9 _ => ?_)
        refine z_iload_n X (q := 3) dX8_net_29 rfl rfl ?_
        refine z_iald X hK dX8_net_30 (fun o10 j11 _ _ => ?_)
        refine z_callS X hK (As := [vI (st.2.1 o10 j11)]) (kX8_bitsOf l Z  b x _ _) hk_X8_63 ⟨rfl, rfl⟩ hd_X8_bitsOf.2 ⟨Nat.le_of_ble_eq_true rfl, Nat.le_of_ble_eq_true rfl⟩ ⟨Nat.le_of_ble_eq_true rfl, Nat.le_of_ble_eq_true rfl⟩ rfl rfl (Nat.le_of_ble_eq_true rfl) dX8_net_31 (fun q12 => ?_)
        refine z_aload_n X (q := 0) dX8_net_34 rfl rfl ?_
        refine z_getr X hK (N := 46) (ci := 8) (k := 8) rfl (by decide) inlX8 (by decide) hf_X8_23 rfl spM_X8 rfl dX8_net_35 (fun o13 _ => ?_)
        refine z_iload_n X (q := 2) dX8_net_38 rfl rfl ?_
        refine z_iald X hK dX8_net_39 (fun o14 j15 _ _ => ?_)
        refine z_callS X hK (As := [vI (q12.2.2.1 o14 j15)]) (kX8_bitsOf l Z  b x _ _) hk_X8_63 ⟨rfl, rfl⟩ hd_X8_bitsOf.2 ⟨Nat.le_of_ble_eq_true rfl, Nat.le_of_ble_eq_true rfl⟩ ⟨Nat.le_of_ble_eq_true rfl, Nat.le_of_ble_eq_true rfl⟩ rfl rfl (Nat.le_of_ble_eq_true rfl) dX8_net_40 (fun q16 => ?_)
        refine z_icmp_le X (tgt := 50) dX8_net_43 (by decide) (fun _ => ?_) (fun _ => ?_)
        · refine z_iload_n X (q := 2) dX8_net_50 rfl rfl ?_
          exact z_sub [0, 1, 3] (J51 _ _ _ _) rfl
        · refine z_iload_n X (q := 3) dX8_net_46 rfl rfl ?_
          refine z_goto X (tgt := 51) dX8_net_47 (by decide) ?_
          exact z_sub [0, 1, 3] (J51 _ _ _ _) rfl
  rw [fX8_net]
  refine z_iload_n X (q := 1) dX8_net_0 rfl rfl ?_
  refine z_i2l X dX8_net_1 ?_
  refine z_lconst X (v := (0 : Int64)) dX8_net_2 (by decide) ?_
  refine z_ldc2 X (v := (3 : Int64)) (hc_X8_352) dX8_net_3 ?_
  refine z_callS X hK (As := [vL (a1.toInt64), vL (0 : Int64), vL (3 : Int64)]) (kX8_in l Z  b x _ _ _ _) hk_X8_77 ⟨rfl, rfl⟩ hd_X8_in.2 ⟨Nat.le_of_ble_eq_true rfl, Nat.le_of_ble_eq_true rfl⟩ ⟨Nat.le_of_ble_eq_true rfl, Nat.le_of_ble_eq_true rfl⟩ rfl rfl (Nat.le_of_ble_eq_true rfl) dX8_net_6 (fun q17 => ?_)
  refine z_if_ne X (tgt := 15) dX8_net_9 (by decide) (fun _ => ?_) (fun _ => ?_)
  · refine z_iconst X (v := (0 : Int32)) dX8_net_15 (by decide) ?_
    refine z_istore_n X dX8_net_16 rfl (Nat.le_of_ble_eq_true rfl) rfl ?_
    refine z_iconst X (v := (1 : Int32)) dX8_net_17 (by decide) ?_
    refine z_istore_n X dX8_net_18 rfl (Nat.le_of_ble_eq_true rfl) rfl ?_
    exact z_sub [2, 3, 1, 0] (J19 _ _ _ _ _) rfl
  · refine z_bipush X (v := (-2 : Int32)) dX8_net_12 (by decide) ?_
    subst hQ; exact z_iret X hlocks hr dX8_net_14
abbrev rmX8_neverOf : Room := { frames := 45, cells := 0, slots := 0, locals := 1024 }
def fX8_neverOf_j45 (this : Nat) (k6 : Int32 → Int32 → Int32 → zS → Option (Int32 × zS)) (y1 : Int32) (y3 : Int32) (s0 : Int32) (s1 : Int32) (st : zS) : Option (Int32 × zS) :=
  zlet ((s0 &&& s1)) fun v1 => k6 y1 v1 (y3 + (1 : Int32)) st
def fX8_neverOf_L6 (this : Nat) : Nat → Int32 → Int32 → Int32 → zS → Option (Int32 × zS)
  | 0, _, _, _, _ => none
  | n + 1, y1, y2, y3, st => if (298 : Int32) ≤ y3 then (some (y2, st)) else ((zok spM st (some this) 8).bind fun o2 => (zok spM st (st.2.2.2 o2 12) 9).bind fun o3 => (zix spM o3 y3).bind fun j4 => (zok spM st (some this) 8).bind fun o7 => (fX8_given o7 y1 (st.2.1 o3 j4) st).bind fun q5 => zlet (q5.1) fun v6 => if v6 = (-1 : Int32) then (fX8_neverOf_j45 this (fX8_neverOf_L6 this n) y1 y3 y2 (4095 : Int32) q5.2) else (fX8_neverOf_j45 this (fX8_neverOf_L6 this n) y1 y3 y2 (((1 : Int32) <<< (v6 &&& 31)) ^^^ (-1 : Int32)) q5.2))
def fX8_neverOf (this : Nat) (a1 : Int32) (st : zS) : Option (Int32 × zS) :=
  fX8_neverOf_L6 this zF a1 (4095 : Int32) (0 : Int32) st
set_option maxRecDepth 100000 in
set_option maxHeartbeats 4000000 in
theorem kX8_neverOf (l : Launch) (Z : zZ) (b : Nat) (x : Option Nat) (this : Nat) (a1 : Int32) (st : zS) : zC l Z spM b x yX8_neverOf (.code yX8_neverOf cX8_neverOf 5 (some .int)) (rmX8_neverOf) rI [vP (some this), vI a1] st (fX8_neverOf this a1 st) := by
  refine z_start (own := RX8) rfl (by decide +kernel) (Nat.le_of_ble_eq_true rfl) rfl (fun p e s m args below meth c res Q A X hK hr hlocks hQ => ?_)
  have J6 : ∀ (n6 : Nat) (y1 : Int32) (y2 : Int32) (y3 : Int32) (st : zS), zs p l e (rmX8_neverOf) s m args below meth c Q Z spM b x A 5 0 0 res (fX8_neverOf_L6 this n6 y1 y2 y3 st) 6 [(0, vP (some this)), (1, vI y1), (2, vI y2), (3, vI y3)] [] st := by
    intro n6
    induction n6 with
    | zero => intros; exact z_none
    | succ n6 ih6 =>
      have J45 : ∀ (y1 : Int32) (y3 : Int32) (s0 : Int32) (s1 : Int32) (st : zS), zs p l e (rmX8_neverOf) s m args below meth c Q Z spM b x A 5 0 0 res (fX8_neverOf_j45 this (fX8_neverOf_L6 this n6) y1 y3 s0 s1 st) 45 [(0, vP (some this)), (1, vI y1), (3, vI y3)] [vI s1, vI s0] st := by
        intro y1 y3 s0 s1 st
        rw [fX8_neverOf_j45]
        refine z_iand X dX8_neverOf_45 ?_
        refine z_name (fun v1 => ?_)
        refine z_istore_n X dX8_neverOf_46 rfl (Nat.le_of_ble_eq_true rfl) rfl ?_
        refine z_iinc X (q := 3) (y := y3 + (1 : Int32)) dX8_neverOf_47 rfl rfl (Nat.le_of_ble_eq_true rfl) rfl ?_
        refine z_goto X (tgt := 6) dX8_neverOf_50 (by decide) ?_
        exact z_sub [2, 3, 1, 0] (ih6 _ _ _ _) rfl
      intro y1 y2 y3 st
      rw [fX8_neverOf_L6]
      refine z_iload_n X (q := 3) dX8_neverOf_6 rfl rfl ?_
      refine z_sipush X (v := (298 : Int32)) dX8_neverOf_7 (by decide) ?_
      refine z_icmp_ge X (tgt := 53) dX8_neverOf_10 (by decide) (fun _ => ?_) (fun _ => ?_)
      · refine z_iload_n X (q := 2) dX8_neverOf_53 rfl rfl ?_
        subst hQ; exact z_iret X hlocks hr dX8_neverOf_54
      · refine z_aload_n X (q := 0) dX8_neverOf_13 rfl rfl ?_
        refine z_iload_n X (q := 1) dX8_neverOf_14 rfl rfl ?_
        refine z_aload_n X (q := 0) dX8_neverOf_15 rfl rfl ?_
        refine z_getr X hK (N := 46) (ci := 8) (k := 12) rfl (by decide) inlX8 (by decide) hf_X8_32 rfl spM_X8 rfl dX8_neverOf_16 (fun o2 _ => ?_)
        refine z_iload_n X (q := 3) dX8_neverOf_19 rfl rfl ?_
        refine z_iald X hK dX8_neverOf_20 (fun o3 j4 _ _ => ?_)
        refine z_callV X hK (As := [vI y1, vI (st.2.1 o3 j4)]) (ci := 8) rfl (by decide) (fun o => (kX8_given l Z  b x o _ _ _)) hk_X8_354 ⟨rfl, rfl⟩ hd_X8_given ⟨Nat.le_of_ble_eq_true rfl, Nat.le_of_ble_eq_true rfl⟩ ⟨Nat.le_of_ble_eq_true rfl, Nat.le_of_ble_eq_true rfl⟩ rfl rfl (Nat.le_of_ble_eq_true rfl) dX8_neverOf_21 (fun _ q5 _ => ?_)
        refine z_name (fun v6 => ?_)
        refine z_istore X dX8_neverOf_24 (Nat.le_of_ble_eq_true rfl) rfl ?_
        refine z_iload_n X (q := 3) dX8_neverOf_26 rfl rfl ?_
        refine z_iload X (q := 0) dX8_neverOf_27 rfl ?_
        refine z_iconst X (v := (-1 : Int32)) dX8_neverOf_29 (by decide) ?_
        refine z_icmp_ne X (tgt := 39) dX8_neverOf_30 (by decide) (fun _ => ?_) (fun _ => ?_)
        · refine z_iconst X (v := (1 : Int32)) dX8_neverOf_39 (by decide) ?_
          refine z_iload X (q := 0) dX8_neverOf_40 rfl ?_
          refine z_ishl X dX8_neverOf_42 ?_
          refine z_iconst X (v := (-1 : Int32)) dX8_neverOf_43 (by decide) ?_
          refine z_ixor X dX8_neverOf_44 ?_
          exact z_sub [1, 2, 4] (J45 _ _ _ _ _) rfl
        · refine z_sipush X (v := (4095 : Int32)) dX8_neverOf_33 (by decide) ?_
          refine z_goto X (tgt := 45) dX8_neverOf_36 (by decide) ?_
          exact z_sub [1, 2, 4] (J45 _ _ _ _ _) rfl
  rw [fX8_neverOf]
  refine z_sipush X (v := (4095 : Int32)) dX8_neverOf_0 (by decide) ?_
  refine z_istore_n X dX8_neverOf_3 rfl (Nat.le_of_ble_eq_true rfl) rfl ?_
  refine z_iconst X (v := (0 : Int32)) dX8_neverOf_4 (by decide) ?_
  refine z_istore_n X dX8_neverOf_5 rfl (Nat.le_of_ble_eq_true rfl) rfl ?_
  exact z_sub [2, 3, 1, 0] (J6 _ _ _ _ _) rfl
abbrev rmX8_over : Room := { frames := 1, cells := 0, slots := 0, locals := 40 }
def fX8_over (a0 : Int32) (st : zS) : Option (Int32 × zS) :=
  if a0 = 0 then (some ((-1 : Int32), st)) else (if a0 = (3 : Int32) then (some ((1 : Int32), st)) else (if a0 = (4 : Int32) then (some ((2 : Int32), st)) else (some ((0 : Int32), st))))
set_option maxRecDepth 100000 in
set_option maxHeartbeats 4000000 in
theorem kX8_over (l : Launch) (Z : zZ) (b : Nat) (x : Option Nat) (a0 : Int32) (st : zS) : zC l Z spM b x yX8_over (.code yX8_over cX8_over 1 (some .int)) (rmX8_over) rI [vI a0] st (fX8_over a0 st) := by
  refine z_start (own := RX8) rfl (by decide +kernel) (Nat.le_of_ble_eq_true rfl) rfl (fun p e s m args below meth c res Q A X hK hr hlocks hQ => ?_)
  rw [fX8_over]
  refine z_iload_n X (q := 0) dX8_over_0 rfl rfl ?_
  refine z_if_ne X (tgt := 8) dX8_over_1 (by decide) (fun _ => ?_) (fun _ => ?_)
  · refine z_iload_n X (q := 0) dX8_over_8 rfl rfl ?_
    refine z_iconst X (v := (3 : Int32)) dX8_over_9 (by decide) ?_
    refine z_icmp_ne X (tgt := 17) dX8_over_10 (by decide) (fun _ => ?_) (fun _ => ?_)
    · refine z_iload_n X (q := 0) dX8_over_17 rfl rfl ?_
      refine z_iconst X (v := (4 : Int32)) dX8_over_18 (by decide) ?_
      refine z_icmp_ne X (tgt := 26) dX8_over_19 (by decide) (fun _ => ?_) (fun _ => ?_)
      · refine z_iconst X (v := (0 : Int32)) dX8_over_26 (by decide) ?_
        subst hQ; exact z_iret X hlocks hr dX8_over_27
      · refine z_iconst X (v := (2 : Int32)) dX8_over_22 (by decide) ?_
        refine z_goto X (tgt := 27) dX8_over_23 (by decide) ?_
        subst hQ; exact z_iret X hlocks hr dX8_over_27
    · refine z_iconst X (v := (1 : Int32)) dX8_over_13 (by decide) ?_
      refine z_goto X (tgt := 27) dX8_over_14 (by decide) ?_
      subst hQ; exact z_iret X hlocks hr dX8_over_27
  · refine z_iconst X (v := (-1 : Int32)) dX8_over_4 (by decide) ?_
    refine z_goto X (tgt := 27) dX8_over_5 (by decide) ?_
    subst hQ; exact z_iret X hlocks hr dX8_over_27
abbrev rmX8_rowBad : Room := { frames := 2, cells := 0, slots := 0, locals := 65 }
def fX8_rowBad_L15 (this : Nat) : Nat → Int32 → Int32 → zS → Option (Int32 × zS)
  | 0, _, _, _ => none
  | n + 1, y1, y2, st => (zok spM st (some this) 8).bind fun o1 => (zok spM st (st.2.2.2 o1 44) 9).bind fun o2 => (zix spM o2 y1).bind fun j3 => if (st.2.1 o2 j3) ≤ y2 then (some ((0 : Int32), st)) else ((zok spM st (some this) 8).bind fun o4 => (zok spM st (st.2.2.2 o4 45) 9).bind fun o5 => (zix spM o5 (((40 : Int32) * y1) + y2)).bind fun j6 => (fX8_in ((st.2.1 o5 j6).toInt64) (1 : Int64) (4095 : Int64) st).bind fun q7 => if q7.1 = 0 then (some ((-1002 : Int32), q7.2)) else ((fX8_rowBad_L15 this n) y1 (y2 + (1 : Int32)) q7.2))
def fX8_rowBad (this : Nat) (a1 : Int32) (st : zS) : Option (Int32 × zS) :=
  (zok spM st (some this) 8).bind fun o8 => (zok spM st (st.2.2.2 o8 42) 10).bind fun o9 => (zix spM o9 a1).bind fun j10 => if (st.2.1 o9 j10) = 0 then (some ((-1011 : Int32), st)) else (fX8_rowBad_L15 this zF a1 (0 : Int32) st)
set_option maxRecDepth 100000 in
set_option maxHeartbeats 4000000 in
theorem kX8_rowBad (l : Launch) (Z : zZ) (b : Nat) (x : Option Nat) (this : Nat) (a1 : Int32) (st : zS) : zC l Z spM b x yX8_rowBad (.code yX8_rowBad cX8_rowBad 3 (some .int)) (rmX8_rowBad) rI [vP (some this), vI a1] st (fX8_rowBad this a1 st) := by
  refine z_start (own := RX8) rfl (by decide +kernel) (Nat.le_of_ble_eq_true rfl) rfl (fun p e s m args below meth c res Q A X hK hr hlocks hQ => ?_)
  have J15 : ∀ (n15 : Nat) (y1 : Int32) (y2 : Int32) (st : zS), zs p l e (rmX8_rowBad) s m args below meth c Q Z spM b x A 3 0 0 res (fX8_rowBad_L15 this n15 y1 y2 st) 15 [(0, vP (some this)), (1, vI y1), (2, vI y2)] [] st := by
    intro n15
    induction n15 with
    | zero => intros; exact z_none
    | succ n15 ih15 =>
      intro y1 y2 st
      rw [fX8_rowBad_L15]
      refine z_iload_n X (q := 2) dX8_rowBad_15 rfl rfl ?_
      refine z_aload_n X (q := 0) dX8_rowBad_16 rfl rfl ?_
      refine z_getr X hK (N := 46) (ci := 8) (k := 44) rfl (by decide) inlX8 (by decide) hf_X8_57 rfl spM_X8 rfl dX8_rowBad_17 (fun o1 _ => ?_)
      refine z_iload_n X (q := 1) dX8_rowBad_20 rfl rfl ?_
      refine z_iald X hK dX8_rowBad_21 (fun o2 j3 _ _ => ?_)
      refine z_icmp_ge X (tgt := 57) dX8_rowBad_22 (by decide) (fun _ => ?_) (fun _ => ?_)
      · refine z_iconst X (v := (0 : Int32)) dX8_rowBad_57 (by decide) ?_
        subst hQ; exact z_iret X hlocks hr dX8_rowBad_58
      · refine z_aload_n X (q := 0) dX8_rowBad_25 rfl rfl ?_
        refine z_getr X hK (N := 46) (ci := 8) (k := 45) rfl (by decide) inlX8 (by decide) hf_X8_60 rfl spM_X8 rfl dX8_rowBad_26 (fun o4 _ => ?_)
        refine z_bipush X (v := (40 : Int32)) dX8_rowBad_29 (by decide) ?_
        refine z_iload_n X (q := 1) dX8_rowBad_31 rfl rfl ?_
        refine z_imul X dX8_rowBad_32 ?_
        refine z_iload_n X (q := 2) dX8_rowBad_33 rfl rfl ?_
        refine z_iadd X dX8_rowBad_34 ?_
        refine z_iald X hK dX8_rowBad_35 (fun o5 j6 _ _ => ?_)
        refine z_i2l X dX8_rowBad_36 ?_
        refine z_lconst X (v := (1 : Int64)) dX8_rowBad_37 (by decide) ?_
        refine z_ldc2 X (v := (4095 : Int64)) (hc_X8_350) dX8_rowBad_38 ?_
        refine z_callS X hK (As := [vL ((st.2.1 o5 j6).toInt64), vL (1 : Int64), vL (4095 : Int64)]) (kX8_in l Z  b x _ _ _ _) hk_X8_77 ⟨rfl, rfl⟩ hd_X8_in.2 ⟨Nat.le_of_ble_eq_true rfl, Nat.le_of_ble_eq_true rfl⟩ ⟨Nat.le_of_ble_eq_true rfl, Nat.le_of_ble_eq_true rfl⟩ rfl rfl (Nat.le_of_ble_eq_true rfl) dX8_rowBad_41 (fun q7 => ?_)
        refine z_if_ne X (tgt := 51) dX8_rowBad_44 (by decide) (fun _ => ?_) (fun _ => ?_)
        · refine z_iinc X (q := 2) (y := y2 + (1 : Int32)) dX8_rowBad_51 rfl rfl (Nat.le_of_ble_eq_true rfl) rfl ?_
          refine z_goto X (tgt := 15) dX8_rowBad_54 (by decide) ?_
          exact z_sub [1, 2, 0] (ih15 _ _ _) rfl
        · refine z_sipush X (v := (-1002 : Int32)) dX8_rowBad_47 (by decide) ?_
          subst hQ; exact z_iret X hlocks hr dX8_rowBad_50
  rw [fX8_rowBad]
  refine z_aload_n X (q := 0) dX8_rowBad_0 rfl rfl ?_
  refine z_getr X hK (N := 46) (ci := 8) (k := 42) rfl (by decide) inlX8 (by decide) hf_X8_50 rfl spM_X8 rfl dX8_rowBad_1 (fun o8 _ => ?_)
  refine z_iload_n X (q := 1) dX8_rowBad_4 rfl rfl ?_
  refine z_zald X hK dX8_rowBad_5 (fun o9 j10 _ _ => ?_)
  refine z_if_ne X (tgt := 13) dX8_rowBad_6 (by decide) (fun _ => ?_) (fun _ => ?_)
  · refine z_iconst X (v := (0 : Int32)) dX8_rowBad_13 (by decide) ?_
    refine z_istore_n X dX8_rowBad_14 rfl (Nat.le_of_ble_eq_true rfl) rfl ?_
    exact z_sub [1, 2, 0] (J15 _ _ _ _) rfl
  · refine z_sipush X (v := (-1011 : Int32)) dX8_rowBad_9 (by decide) ?_
    subst hQ; exact z_iret X hlocks hr dX8_rowBad_12
theorem zw_863 : Cond.methodLink RX8 393 yX8_rowBad ∈ wsL_law := zr_38 _ (by decide +kernel)
theorem zw_864 : Cond.instanceMethod yX8_rowBad ∈ wsL_law := zr_38 _ (by decide +kernel)
theorem zw_865 : Cond.selects RX8 yX8_rowBad yX8_rowBad ∈ wsL_law := zr_38 _ (by decide +kernel)
theorem zw_866 : Cond.code yX8_rowBad cX8_rowBad 3 (some .int) ∈ wsL_law := zr_38 _ (by decide +kernel)
theorem hk_X8_393 : ∀ w ∈ ([Cond.methodLink RX8 393 yX8_rowBad, Cond.instanceMethod yX8_rowBad, Cond.selects RX8 yX8_rowBad yX8_rowBad, Cond.initialized RX8, Cond.code yX8_rowBad cX8_rowBad 3 (some .int)] : List Cond), w ∈ wsL_law := List.forall_mem_cons.mpr ⟨zw_863, List.forall_mem_cons.mpr ⟨zw_864, List.forall_mem_cons.mpr ⟨zw_865, List.forall_mem_cons.mpr ⟨zw_525, List.forall_mem_cons.mpr ⟨zw_866, fun _ h => absurd h List.not_mem_nil⟩⟩⟩⟩⟩
theorem zw_867 : Cond.methodLink RX8 399 yX8_askAll ∈ wsL_law := zr_38 _ (by decide +kernel)
theorem zw_868 : Cond.instanceMethod yX8_askAll ∈ wsL_law := zr_38 _ (by decide +kernel)
theorem zw_869 : Cond.selects RX8 yX8_askAll yX8_askAll ∈ wsL_law := zr_38 _ (by decide +kernel)
theorem zw_870 : Cond.code yX8_askAll cX8_askAll 4 none ∈ wsL_law := zr_38 _ (by decide +kernel)
theorem hk_X8_399 : ∀ w ∈ ([Cond.methodLink RX8 399 yX8_askAll, Cond.instanceMethod yX8_askAll, Cond.selects RX8 yX8_askAll yX8_askAll, Cond.initialized RX8, Cond.code yX8_askAll cX8_askAll 4 none] : List Cond), w ∈ wsL_law := List.forall_mem_cons.mpr ⟨zw_867, List.forall_mem_cons.mpr ⟨zw_868, List.forall_mem_cons.mpr ⟨zw_869, List.forall_mem_cons.mpr ⟨zw_525, List.forall_mem_cons.mpr ⟨zw_870, fun _ h => absurd h List.not_mem_nil⟩⟩⟩⟩⟩
theorem hd_X8_askAll : yX8_askAll.cls = RX8 ∧ yX8_askAll.cls ≠ "java/lang/invoke/MethodHandle" ∧ yX8_askAll.cls ≠ "java/lang/invoke/VarHandle" ∧ (parseMethodDescriptor yX8_askAll.desc).map (fun d => d.parameters.length) = some 2 := by decide +kernel
theorem hd_X8_rowBad : yX8_rowBad.cls = RX8 ∧ yX8_rowBad.cls ≠ "java/lang/invoke/MethodHandle" ∧ yX8_rowBad.cls ≠ "java/lang/invoke/VarHandle" ∧ (parseMethodDescriptor yX8_rowBad.desc).map (fun d => d.parameters.length) = some 1 := by decide +kernel
abbrev rmX8_row : Room := { frames := 47, cells := 0, slots := 0, locals := 1071 }
def fX8_row_j115 (this : Nat) (s0 : Int32) (st : zS) : Option (Int32 × zS) :=
  (zok spM st (some this) 8).bind fun o2 => (fX8_laysBack o2 st).bind fun q1 => some (s0, q1.2)
def fX8_row (this : Nat) (a1 : Int32) (a2 : Int32) (a3 : Int32) (st : zS) : Option (Int32 × zS) :=
  (fX8_isSheet a1 st).bind fun q3 => if q3.1 = 0 then (some ((-1000 : Int32), q3.2)) else ((zok spM q3.2 (some this) 8).bind fun o20 => (fX8_isOne o20 a2 q3.2).bind fun q4 => if q4.1 = 0 then (some ((-1000 : Int32), q4.2)) else ((fX8_in (a3.toInt64) (0 : Int64) (5 : Int64) q4.2).bind fun q5 => if q5.1 = 0 then (some ((-1000 : Int32), q5.2)) else ((zok spM q5.2 (some this) 8).bind fun o19 => (fX8_rowBad o19 a1 q5.2).bind fun q6 => zlet (q6.1) fun v7 => if v7 = 0 then ((zok spM q6.2 (some this) 8).bind fun o18 => (fX8_laysAside o18 q6.2).bind fun q8 => (zok spM q8.2 (some this) 8).bind fun o17 => (fX8_askAll o17 a1 a2 q8.2).bind fun q9 => if a3 = 0 then ((zok spM q9.2 (some this) 8).bind fun o16 => fX8_row_j115 this (q9.2.2.1 o16 32) q9.2) else (if a3 = (1 : Int32) then ((zok spM q9.2 (some this) 8).bind fun o15 => fX8_row_j115 this (q9.2.2.1 o15 33) q9.2) else (if a3 = (2 : Int32) then ((zok spM q9.2 (some this) 8).bind fun o14 => fX8_row_j115 this (q9.2.2.1 o14 34) q9.2) else (if a3 = (3 : Int32) then ((zok spM q9.2 (some this) 8).bind fun o13 => fX8_row_j115 this (q9.2.2.1 o13 35) q9.2) else ((zok spM q9.2 (some this) 8).bind fun o10 => (zok spM q9.2 (q9.2.2.2.2 o10 10) 9).bind fun o11 => (zix spM o11 ((((4 : Int32) * a2) + a3) - (3 : Int32))).bind fun j12 => fX8_row_j115 this (q9.2.2.1 o11 j12) q9.2))))) else (some (v7, q6.2)))))
set_option maxRecDepth 100000 in
set_option maxHeartbeats 4000000 in
theorem kX8_row (l : Launch) (Z : zZ) (b : Nat) (x : Option Nat) (this : Nat) (a1 : Int32) (a2 : Int32) (a3 : Int32) (st : zS) : zC l Z spM b x yX8_row (.code yX8_row cX8_row 6 (some .int)) (rmX8_row) rI [vP (some this), vI a1, vI a2, vI a3] st (fX8_row this a1 a2 a3 st) := by
  refine z_start (own := RX8) rfl (by decide +kernel) (Nat.le_of_ble_eq_true rfl) rfl (fun p e s m args below meth c res Q A X hK hr hlocks hQ => ?_)
  have J115 : ∀ (s0 : Int32) (st : zS), zs p l e (rmX8_row) s m args below meth c Q Z spM b x A 6 0 0 res (fX8_row_j115 this s0 st) 115 [(0, vP (some this))] [vI s0] st := by
    intro s0 st
    rw [fX8_row_j115]
    refine z_istore X dX8_row_115 (Nat.le_of_ble_eq_true rfl) rfl ?_
    refine z_aload_n X (q := 1) dX8_row_117 rfl rfl ?_
    refine z_callV X hK (As := []) (ci := 8) rfl (by decide) (fun o => (kX8_laysBack l Z  b x o _)) hk_X8_403 ⟨rfl, rfl⟩ hd_X8_laysBack ⟨Nat.le_of_ble_eq_true rfl, Nat.le_of_ble_eq_true rfl⟩ ⟨Nat.le_of_ble_eq_true rfl, Nat.le_of_ble_eq_true rfl⟩ rfl rfl (Nat.le_of_ble_eq_true rfl) dX8_row_118 (fun _ q1 _ => ?_)
    refine z_iload X (q := 0) dX8_row_121 rfl ?_
    subst hQ; exact z_iret X hlocks hr dX8_row_123
  rw [fX8_row]
  refine z_iload_n X (q := 1) dX8_row_0 rfl rfl ?_
  refine z_callS X hK (As := [vI a1]) (kX8_isSheet l Z  b x _ _) hk_X8_390 ⟨rfl, rfl⟩ hd_X8_isSheet.2 ⟨Nat.le_of_ble_eq_true rfl, Nat.le_of_ble_eq_true rfl⟩ ⟨Nat.le_of_ble_eq_true rfl, Nat.le_of_ble_eq_true rfl⟩ rfl rfl (Nat.le_of_ble_eq_true rfl) dX8_row_1 (fun q3 => ?_)
  refine z_if_eq X (tgt := 27) dX8_row_4 (by decide) (fun _ => ?_) (fun _ => ?_)
  · refine z_sipush X (v := (-1000 : Int32)) dX8_row_27 (by decide) ?_
    subst hQ; exact z_iret X hlocks hr dX8_row_30
  · refine z_aload_n X (q := 0) dX8_row_7 rfl rfl ?_
    refine z_iload_n X (q := 2) dX8_row_8 rfl rfl ?_
    refine z_callV X hK (As := [vI a2]) (ci := 8) rfl (by decide) (fun o => (kX8_isOne l Z  b x o _ _)) hk_X8_89 ⟨rfl, rfl⟩ hd_X8_isOne ⟨Nat.le_of_ble_eq_true rfl, Nat.le_of_ble_eq_true rfl⟩ ⟨Nat.le_of_ble_eq_true rfl, Nat.le_of_ble_eq_true rfl⟩ rfl rfl (Nat.le_of_ble_eq_true rfl) dX8_row_9 (fun _ q4 _ => ?_)
    refine z_if_eq X (tgt := 27) dX8_row_12 (by decide) (fun _ => ?_) (fun _ => ?_)
    · refine z_sipush X (v := (-1000 : Int32)) dX8_row_27 (by decide) ?_
      subst hQ; exact z_iret X hlocks hr dX8_row_30
    · refine z_iload_n X (q := 3) dX8_row_15 rfl rfl ?_
      refine z_i2l X dX8_row_16 ?_
      refine z_lconst X (v := (0 : Int64)) dX8_row_17 (by decide) ?_
      refine z_ldc2 X (v := (5 : Int64)) (hc_X8_109) dX8_row_18 ?_
      refine z_callS X hK (As := [vL (a3.toInt64), vL (0 : Int64), vL (5 : Int64)]) (kX8_in l Z  b x _ _ _ _) hk_X8_77 ⟨rfl, rfl⟩ hd_X8_in.2 ⟨Nat.le_of_ble_eq_true rfl, Nat.le_of_ble_eq_true rfl⟩ ⟨Nat.le_of_ble_eq_true rfl, Nat.le_of_ble_eq_true rfl⟩ rfl rfl (Nat.le_of_ble_eq_true rfl) dX8_row_21 (fun q5 => ?_)
      refine z_if_ne X (tgt := 31) dX8_row_24 (by decide) (fun _ => ?_) (fun _ => ?_)
      · refine z_aload_n X (q := 0) dX8_row_31 rfl rfl ?_
        refine z_iload_n X (q := 1) dX8_row_32 rfl rfl ?_
        refine z_callV X hK (As := [vI a1]) (ci := 8) rfl (by decide) (fun o => (kX8_rowBad l Z  b x o _ _)) hk_X8_393 ⟨rfl, rfl⟩ hd_X8_rowBad ⟨Nat.le_of_ble_eq_true rfl, Nat.le_of_ble_eq_true rfl⟩ ⟨Nat.le_of_ble_eq_true rfl, Nat.le_of_ble_eq_true rfl⟩ rfl rfl (Nat.le_of_ble_eq_true rfl) dX8_row_33 (fun _ q6 _ => ?_)
        refine z_name (fun v7 => ?_)
        refine z_istore X dX8_row_36 (Nat.le_of_ble_eq_true rfl) rfl ?_
        refine z_iload X (q := 0) dX8_row_38 rfl ?_
        refine z_if_eq X (tgt := 46) dX8_row_40 (by decide) (fun _ => ?_) (fun _ => ?_)
        · refine z_aload_n X (q := 1) dX8_row_46 rfl rfl ?_
          refine z_callV X hK (As := []) (ci := 8) rfl (by decide) (fun o => (kX8_laysAside l Z  b x o _)) hk_X8_396 ⟨rfl, rfl⟩ hd_X8_laysAside ⟨Nat.le_of_ble_eq_true rfl, Nat.le_of_ble_eq_true rfl⟩ ⟨Nat.le_of_ble_eq_true rfl, Nat.le_of_ble_eq_true rfl⟩ rfl rfl (Nat.le_of_ble_eq_true rfl) dX8_row_47 (fun _ q8 _ => ?_)
          refine z_aload_n X (q := 1) dX8_row_50 rfl rfl ?_
          refine z_iload_n X (q := 2) dX8_row_51 rfl rfl ?_
          refine z_iload_n X (q := 3) dX8_row_52 rfl rfl ?_
          refine z_callV X hK (As := [vI a1, vI a2]) (ci := 8) rfl (by decide) (fun o => (kX8_askAll l Z  b x o _ _ _)) hk_X8_399 ⟨rfl, rfl⟩ hd_X8_askAll ⟨Nat.le_of_ble_eq_true rfl, Nat.le_of_ble_eq_true rfl⟩ ⟨Nat.le_of_ble_eq_true rfl, Nat.le_of_ble_eq_true rfl⟩ rfl rfl (Nat.le_of_ble_eq_true rfl) dX8_row_53 (fun _ q9 _ => ?_)
          refine z_iload_n X (q := 4) dX8_row_56 rfl rfl ?_
          refine z_if_ne X (tgt := 67) dX8_row_57 (by decide) (fun _ => ?_) (fun _ => ?_)
          · refine z_iload_n X (q := 4) dX8_row_67 rfl rfl ?_
            refine z_iconst X (v := (1 : Int32)) dX8_row_68 (by decide) ?_
            refine z_icmp_ne X (tgt := 79) dX8_row_69 (by decide) (fun _ => ?_) (fun _ => ?_)
            · refine z_iload_n X (q := 4) dX8_row_79 rfl rfl ?_
              refine z_iconst X (v := (2 : Int32)) dX8_row_80 (by decide) ?_
              refine z_icmp_ne X (tgt := 91) dX8_row_81 (by decide) (fun _ => ?_) (fun _ => ?_)
              · refine z_iload_n X (q := 4) dX8_row_91 rfl rfl ?_
                refine z_iconst X (v := (3 : Int32)) dX8_row_92 (by decide) ?_
                refine z_icmp_ne X (tgt := 103) dX8_row_93 (by decide) (fun _ => ?_) (fun _ => ?_)
                · refine z_aload_n X (q := 1) dX8_row_103 rfl rfl ?_
                  refine z_getr X hK (N := 46) (ci := 8) (k := 10) rfl (by decide) inlX8 (by decide) hf_X8_29 rfl spM_X8 rfl dX8_row_104 (fun o10 _ => ?_)
                  refine z_iconst X (v := (4 : Int32)) dX8_row_107 (by decide) ?_
                  refine z_iload_n X (q := 3) dX8_row_108 rfl rfl ?_
                  refine z_imul X dX8_row_109 ?_
                  refine z_iload_n X (q := 4) dX8_row_110 rfl rfl ?_
                  refine z_iadd X dX8_row_111 ?_
                  refine z_iconst X (v := (3 : Int32)) dX8_row_112 (by decide) ?_
                  refine z_isub X dX8_row_113 ?_
                  refine z_iald X hK dX8_row_114 (fun o11 j12 _ _ => ?_)
                  exact z_sub [1] (J115 _ _) rfl
                · refine z_aload_n X (q := 1) dX8_row_96 rfl rfl ?_
                  refine z_geti X hK (N := 46) (ci := 8) (k := 35) rfl (by decide) inlX8 (by decide) hf_X8_387 rfl spM_X8 rfl dX8_row_97 (fun o13 _ => ?_)
                  refine z_goto X (tgt := 115) dX8_row_100 (by decide) ?_
                  exact z_sub [1] (J115 _ _) rfl
              · refine z_aload_n X (q := 1) dX8_row_84 rfl rfl ?_
                refine z_geti X hK (N := 46) (ci := 8) (k := 34) rfl (by decide) inlX8 (by decide) hf_X8_384 rfl spM_X8 rfl dX8_row_85 (fun o14 _ => ?_)
                refine z_goto X (tgt := 115) dX8_row_88 (by decide) ?_
                exact z_sub [1] (J115 _ _) rfl
            · refine z_aload_n X (q := 1) dX8_row_72 rfl rfl ?_
              refine z_geti X hK (N := 46) (ci := 8) (k := 33) rfl (by decide) inlX8 (by decide) hf_X8_381 rfl spM_X8 rfl dX8_row_73 (fun o15 _ => ?_)
              refine z_goto X (tgt := 115) dX8_row_76 (by decide) ?_
              exact z_sub [1] (J115 _ _) rfl
          · refine z_aload_n X (q := 1) dX8_row_60 rfl rfl ?_
            refine z_geti X hK (N := 46) (ci := 8) (k := 32) rfl (by decide) inlX8 (by decide) hf_X8_378 rfl spM_X8 rfl dX8_row_61 (fun o16 _ => ?_)
            refine z_goto X (tgt := 115) dX8_row_64 (by decide) ?_
            exact z_sub [1] (J115 _ _) rfl
        · refine z_iload X (q := 0) dX8_row_43 rfl ?_
          subst hQ; exact z_iret X hlocks hr dX8_row_45
      · refine z_sipush X (v := (-1000 : Int32)) dX8_row_27 (by decide) ?_
        subst hQ; exact z_iret X hlocks hr dX8_row_30
