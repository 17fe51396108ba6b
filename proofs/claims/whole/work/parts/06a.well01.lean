abbrev rmX7_likesOf : Room := { frames := 1, cells := 0, slots := 0, locals := 40 }
def fX7_likesOf_j22 (this : Nat) (st : zS) : Option (Int32 × zS) :=
  some ((0 : Int32), st)
def fX7_likesOf (this : Nat) (a1 : Int32) (st : zS) : Option (Int32 × zS) :=
  if a1 < 0 then (fX7_likesOf_j22 this st) else ((zok spX st (some this) 7).bind fun o1 => (zla spX st (st.2.2.2 o1 0)).bind fun o2 => if (Int32.ofNat (spX o2).2) ≤ a1 then (fX7_likesOf_j22 this st) else ((zok spX st (some this) 7).bind fun o3 => (zok spX st (st.2.2.2 o3 0) 9).bind fun o4 => (zix spX o4 a1).bind fun j5 => some ((st.2.1 o4 j5), st)))
set_option maxRecDepth 100000 in
set_option maxHeartbeats 4000000 in
theorem kX7_likesOf (l : Launch) (Z : zZ) (b : Nat) (x : Option Nat) (this : Nat) (a1 : Int32) (st : zS) : zC l Z spX b x yX7_likesOf (.code yX7_likesOf cX7_likesOf 2 (some .int)) (rmX7_likesOf) rI [vP (some this), vI a1] st (fX7_likesOf this a1 st) := by
  refine z_start (own := RX7) rfl (by decide +kernel) (Nat.le_of_ble_eq_true rfl) rfl (fun p e s m args below meth c res Q A X hK hr hlocks hQ => ?_)
  have J22 : ∀ (st : zS), zs p l e (rmX7_likesOf) s m args below meth c Q Z spX b x A 2 0 0 res (fX7_likesOf_j22 this st) 22 [] [] st := by
    intro  st
    rw [fX7_likesOf_j22]
    refine z_iconst X (v := (0 : Int32)) dX7_likesOf_22 (by decide) ?_
    subst hQ; exact z_iret X hlocks hr dX7_likesOf_23
  rw [fX7_likesOf]
  refine z_iload_n X (q := 1) dX7_likesOf_0 rfl rfl ?_
  refine z_if_lt X (tgt := 22) dX7_likesOf_1 (by decide) (fun _ => ?_) (fun _ => ?_)
  · exact z_sub [] (J22  _) rfl
  · refine z_iload_n X (q := 1) dX7_likesOf_4 rfl rfl ?_
    refine z_aload_n X (q := 0) dX7_likesOf_5 rfl rfl ?_
    refine z_getr X hK (N := 14) (ci := 7) (k := 0) rfl (by decide) inlX7 (by decide) hf_X7_9 rfl spX_X7 rfl dX7_likesOf_6 (fun o1 _ => ?_)
    refine z_alen X hK dX7_likesOf_9 spX_14 (fun o2 _ => ?_)
    refine z_icmp_ge X (tgt := 22) dX7_likesOf_10 (by decide) (fun _ => ?_) (fun _ => ?_)
    · exact z_sub [] (J22  _) rfl
    · refine z_aload_n X (q := 0) dX7_likesOf_13 rfl rfl ?_
      refine z_getr X hK (N := 14) (ci := 7) (k := 0) rfl (by decide) inlX7 (by decide) hf_X7_9 rfl spX_X7 rfl dX7_likesOf_14 (fun o3 _ => ?_)
      refine z_iload_n X (q := 1) dX7_likesOf_17 rfl rfl ?_
      refine z_iald X hK dX7_likesOf_18 (fun o4 j5 _ _ => ?_)
      refine z_goto X (tgt := 23) dX7_likesOf_19 (by decide) ?_
      subst hQ; exact z_iret X hlocks hr dX7_likesOf_23
theorem zw_404 : Cond.methodLink RX7 215 yX7_likesOf ∈ wsL_law := zr_41 _ (by decide +kernel)
theorem zw_405 : Cond.instanceMethod yX7_likesOf ∈ wsL_law := zr_41 _ (by decide +kernel)
theorem zw_406 : Cond.selects RX7 yX7_likesOf yX7_likesOf ∈ wsL_law := zr_41 _ (by decide +kernel)
theorem zw_407 : Cond.code yX7_likesOf cX7_likesOf 2 (some .int) ∈ wsL_law := zr_41 _ (by decide +kernel)
theorem hk_X7_215 : ∀ w ∈ ([Cond.methodLink RX7 215 yX7_likesOf, Cond.instanceMethod yX7_likesOf, Cond.selects RX7 yX7_likesOf yX7_likesOf, Cond.initialized RX7, Cond.code yX7_likesOf cX7_likesOf 2 (some .int)] : List Cond), w ∈ wsL_law := List.forall_mem_cons.mpr ⟨zw_404, List.forall_mem_cons.mpr ⟨zw_405, List.forall_mem_cons.mpr ⟨zw_406, List.forall_mem_cons.mpr ⟨zw_322, List.forall_mem_cons.mpr ⟨zw_407, fun _ h => absurd h List.not_mem_nil⟩⟩⟩⟩⟩
theorem hd_X7_likesOf : yX7_likesOf.cls = RX7 ∧ yX7_likesOf.cls ≠ "java/lang/invoke/MethodHandle" ∧ yX7_likesOf.cls ≠ "java/lang/invoke/VarHandle" ∧ (parseMethodDescriptor yX7_likesOf.desc).map (fun d => d.parameters.length) = some 1 := by decide +kernel
abbrev rmX7_cliques : Room := { frames := 2, cells := 0, slots := 0, locals := 61 }
def fX7_cliques_j59 (this : Nat) (k4 : Int32 → Int32 → zS → Option (Int32 × zS)) (k12 : Int32 → Int32 → Int32 → zS → Option (Int32 × zS)) (y1 : Int32) (y2 : Int32) (y3 : Int32) (st : zS) : Option (Int32 × zS) :=
  k12 y1 y2 (y3 + (1 : Int32)) st
def fX7_cliques_L12 (this : Nat) (k4 : Int32 → Int32 → zS → Option (Int32 × zS)) : Nat → Int32 → Int32 → Int32 → zS → Option (Int32 × zS)
  | 0, _, _, _, _ => none
  | n + 1, y1, y2, y3, st => if y2 ≤ y3 then (k4 y1 (y2 + (1 : Int32)) st) else ((zok spX st (some this) 7).bind fun o9 => (fX7_likesOf o9 y2 st).bind fun q1 => if ((q1.1 >>> (y3 &&& 31)) &&& (1 : Int32)) = 0 then (fX7_cliques_j59 this k4 (fX7_cliques_L12 this k4 n) y1 y2 y3 q1.2) else ((zok spX q1.2 (some this) 7).bind fun o8 => (fX7_likesOf o8 y2 q1.2).bind fun q2 => (zok spX q2.2 (some this) 7).bind fun o7 => (fX7_likesOf o7 y3 q2.2).bind fun q3 => zlet (((q2.1 &&& q3.1) &&& (((1 : Int32) <<< (y3 &&& 31)) - (1 : Int32)))) fun v4 => (fJ6_bitCount_0f7a4 v4 q3.2).bind fun q5 => zlet ((y1 + q5.1)) fun v6 => fX7_cliques_j59 this k4 (fX7_cliques_L12 this k4 n) v6 y2 y3 q5.2))
def fX7_cliques_L4 (this : Nat) : Nat → Int32 → Int32 → zS → Option (Int32 × zS)
  | 0, _, _, _ => none
  | n + 1, y1, y2, st => if (12 : Int32) ≤ y2 then (some (y1, st)) else (fX7_cliques_L12 this (fX7_cliques_L4 this n) zF y1 y2 (0 : Int32) st)
def fX7_cliques (this : Nat) (st : zS) : Option (Int32 × zS) :=
  fX7_cliques_L4 this zF (0 : Int32) (0 : Int32) st
set_option maxRecDepth 100000 in
set_option maxHeartbeats 4000000 in
theorem kX7_cliques (l : Launch) (Z : zZ) (b : Nat) (x : Option Nat) (this : Nat) (st : zS) : zC l Z spX b x yX7_cliques (.code yX7_cliques cX7_cliques 5 (some .int)) (rmX7_cliques) rI [vP (some this)] st (fX7_cliques this st) := by
  refine z_start (own := RX7) rfl (by decide +kernel) (Nat.le_of_ble_eq_true rfl) rfl (fun p e s m args below meth c res Q A X hK hr hlocks hQ => ?_)
  have J4 : ∀ (n4 : Nat) (y1 : Int32) (y2 : Int32) (st : zS), zs p l e (rmX7_cliques) s m args below meth c Q Z spX b x A 5 0 0 res (fX7_cliques_L4 this n4 y1 y2 st) 4 [(0, vP (some this)), (1, vI y1), (2, vI y2)] [] st := by
    intro n4
    induction n4 with
    | zero => intros; exact z_none
    | succ n4 ih4 =>
      have J12 : ∀ (n12 : Nat) (y1 : Int32) (y2 : Int32) (y3 : Int32) (st : zS), zs p l e (rmX7_cliques) s m args below meth c Q Z spX b x A 5 0 0 res (fX7_cliques_L12 this (fX7_cliques_L4 this n4) n12 y1 y2 y3 st) 12 [(0, vP (some this)), (1, vI y1), (2, vI y2), (3, vI y3)] [] st := by
        intro n12
        induction n12 with
        | zero => intros; exact z_none
        | succ n12 ih12 =>
          have J59 : ∀ (y1 : Int32) (y2 : Int32) (y3 : Int32) (st : zS), zs p l e (rmX7_cliques) s m args below meth c Q Z spX b x A 5 0 0 res (fX7_cliques_j59 this (fX7_cliques_L4 this n4) (fX7_cliques_L12 this (fX7_cliques_L4 this n4) n12) y1 y2 y3 st) 59 [(0, vP (some this)), (1, vI y1), (2, vI y2), (3, vI y3)] [] st := by
            intro y1 y2 y3 st
            rw [fX7_cliques_j59]
            refine z_iinc X (q := 3) (y := y3 + (1 : Int32)) dX7_cliques_59 rfl rfl (Nat.le_of_ble_eq_true rfl) rfl ?_
            refine z_goto X (tgt := 12) dX7_cliques_62 (by decide) ?_
            exact z_sub [1, 2, 3, 0] (ih12 _ _ _ _) rfl
          intro y1 y2 y3 st
          rw [fX7_cliques_L12]
          refine z_iload_n X (q := 3) dX7_cliques_12 rfl rfl ?_
          refine z_iload_n X (q := 2) dX7_cliques_13 rfl rfl ?_
          refine z_icmp_ge X (tgt := 65) dX7_cliques_14 (by decide) (fun _ => ?_) (fun _ => ?_)
          · refine z_iinc X (q := 2) (y := y2 + (1 : Int32)) dX7_cliques_65 rfl rfl (Nat.le_of_ble_eq_true rfl) rfl ?_
            refine z_goto X (tgt := 4) dX7_cliques_68 (by decide) ?_
            exact z_sub [1, 2, 0] (ih4 _ _ _) rfl
          · refine z_aload_n X (q := 0) dX7_cliques_17 rfl rfl ?_
            refine z_iload_n X (q := 2) dX7_cliques_18 rfl rfl ?_
            refine z_callV X hK (As := [vI y2]) (ci := 7) rfl (by decide) (fun o => (kX7_likesOf l Z  b x o _ _)) hk_X7_215 ⟨rfl, rfl⟩ hd_X7_likesOf ⟨Nat.le_of_ble_eq_true rfl, Nat.le_of_ble_eq_true rfl⟩ ⟨Nat.le_of_ble_eq_true rfl, Nat.le_of_ble_eq_true rfl⟩ rfl rfl (Nat.le_of_ble_eq_true rfl) dX7_cliques_19 (fun _ q1 _ => ?_)
            refine z_iload_n X (q := 3) dX7_cliques_22 rfl rfl ?_
            refine z_ishr X dX7_cliques_23 ?_
            refine z_iconst X (v := (1 : Int32)) dX7_cliques_24 (by decide) ?_
            refine z_iand X dX7_cliques_25 ?_
            refine z_if_ne X (tgt := 32) dX7_cliques_26 (by decide) (fun _ => ?_) (fun _ => ?_)
            · refine z_aload_n X (q := 0) dX7_cliques_32 rfl rfl ?_
              refine z_iload_n X (q := 2) dX7_cliques_33 rfl rfl ?_
              refine z_callV X hK (As := [vI y2]) (ci := 7) rfl (by decide) (fun o => (kX7_likesOf l Z  b x o _ _)) hk_X7_215 ⟨rfl, rfl⟩ hd_X7_likesOf ⟨Nat.le_of_ble_eq_true rfl, Nat.le_of_ble_eq_true rfl⟩ ⟨Nat.le_of_ble_eq_true rfl, Nat.le_of_ble_eq_true rfl⟩ rfl rfl (Nat.le_of_ble_eq_true rfl) dX7_cliques_34 (fun _ q2 _ => ?_)
              refine z_aload_n X (q := 0) dX7_cliques_37 rfl rfl ?_
              refine z_iload_n X (q := 3) dX7_cliques_38 rfl rfl ?_
              refine z_callV X hK (As := [vI y3]) (ci := 7) rfl (by decide) (fun o => (kX7_likesOf l Z  b x o _ _)) hk_X7_215 ⟨rfl, rfl⟩ hd_X7_likesOf ⟨Nat.le_of_ble_eq_true rfl, Nat.le_of_ble_eq_true rfl⟩ ⟨Nat.le_of_ble_eq_true rfl, Nat.le_of_ble_eq_true rfl⟩ rfl rfl (Nat.le_of_ble_eq_true rfl) dX7_cliques_39 (fun _ q3 _ => ?_)
              refine z_iand X dX7_cliques_42 ?_
              refine z_iconst X (v := (1 : Int32)) dX7_cliques_43 (by decide) ?_
              refine z_iload_n X (q := 3) dX7_cliques_44 rfl rfl ?_
              refine z_ishl X dX7_cliques_45 ?_
              refine z_iconst X (v := (1 : Int32)) dX7_cliques_46 (by decide) ?_
              refine z_isub X dX7_cliques_47 ?_
              refine z_iand X dX7_cliques_48 ?_
              refine z_name (fun v4 => ?_)
              refine z_istore X dX7_cliques_49 (Nat.le_of_ble_eq_true rfl) rfl ?_
              refine z_iload_n X (q := 2) dX7_cliques_51 rfl rfl ?_
              refine z_iload X (q := 0) dX7_cliques_52 rfl ?_
              refine z_callS X hK (As := [vI v4]) (kJ6_bitCount_0f7a4 l Z spX b x _ _) hk_X7_184 ⟨rfl, rfl⟩ hd_J6_bitCount_0f7a4.2 ⟨Nat.le_of_ble_eq_true rfl, Nat.le_of_ble_eq_true rfl⟩ ⟨Nat.le_of_ble_eq_true rfl, Nat.le_of_ble_eq_true rfl⟩ rfl rfl (Nat.le_of_ble_eq_true rfl) dX7_cliques_54 (fun q5 => ?_)
              refine z_iadd X dX7_cliques_57 ?_
              refine z_name (fun v6 => ?_)
              refine z_istore_n X dX7_cliques_58 rfl (Nat.le_of_ble_eq_true rfl) rfl ?_
              exact z_sub [2, 0, 3, 4] (J59 _ _ _ _) rfl
            · refine z_goto X (tgt := 59) dX7_cliques_29 (by decide) ?_
              exact z_sub [0, 1, 2, 3] (J59 _ _ _ _) rfl
      intro y1 y2 st
      rw [fX7_cliques_L4]
      refine z_iload_n X (q := 2) dX7_cliques_4 rfl rfl ?_
      refine z_bipush X (v := (12 : Int32)) dX7_cliques_5 (by decide) ?_
      refine z_icmp_ge X (tgt := 71) dX7_cliques_7 (by decide) (fun _ => ?_) (fun _ => ?_)
      · refine z_iload_n X (q := 1) dX7_cliques_71 rfl rfl ?_
        subst hQ; exact z_iret X hlocks hr dX7_cliques_72
      · refine z_iconst X (v := (0 : Int32)) dX7_cliques_10 (by decide) ?_
        refine z_istore_n X dX7_cliques_11 rfl (Nat.le_of_ble_eq_true rfl) rfl ?_
        exact z_sub [1, 2, 3, 0] (J12 _ _ _ _ _) rfl
  rw [fX7_cliques]
  refine z_iconst X (v := (0 : Int32)) dX7_cliques_0 (by decide) ?_
  refine z_istore_n X dX7_cliques_1 rfl (Nat.le_of_ble_eq_true rfl) rfl ?_
  refine z_iconst X (v := (0 : Int32)) dX7_cliques_2 (by decide) ?_
  refine z_istore_n X dX7_cliques_3 rfl (Nat.le_of_ble_eq_true rfl) rfl ?_
  exact z_sub [2, 1, 0] (J4 _ _ _ _) rfl
theorem zw_408 : Cond.fieldLink RX7 284 "WellGivesOther$Sheet" "cells" "[I" ∈ wsL_law := zr_50 _ (by decide +kernel)
theorem hf_X7_284 : Cond.fieldLink RX7 284 "WellGivesOther$Sheet" "cells" "[I" ∈ wsL_law := zw_408
abbrev rmX7_copy : Room := { frames := 2, cells := 0, slots := 0, locals := 62 }
def fX7_copy (this : Nat) (a1 : Int32) (a2 : Int32) (a3 : Int32) (a4 : Int32) (a5 : Int32) (st : zS) : Option (Int32 × zS) :=
  (zok spX st (some this) 7).bind fun o19 => (fX7_sheetAt o19 a1 st).bind fun q1 => (zok spX q1.2 (some this) 7).bind fun o18 => (fX7_sheetAt o18 a3 q1.2).bind fun q2 => if q1.1 = none then (some ((-2 : Int32), q2.2)) else (if q2.1 = none then (some ((-2 : Int32), q2.2)) else ((zok spX q2.2 q1.1 3).bind fun o17 => (fX3_isMissing o17 q2.2).bind fun q3 => if q3.1 = 0 then ((zok spX q3.2 q2.1 3).bind fun o16 => (fX3_isMissing o16 q3.2).bind fun q4 => if q4.1 = 0 then ((zok spX q4.2 q1.1 3).bind fun o5 => (zok spX q4.2 q2.1 3).bind fun o6 => if (q4.2.2.1 o5 1) = (q4.2.2.1 o6 1) then ((zok spX q4.2 q1.1 3).bind fun o15 => (fX3_holds o15 a2 a5 q4.2).bind fun q7 => if q7.1 = 0 then (some ((-12 : Int32), q7.2)) else ((zok spX q7.2 q2.1 3).bind fun o14 => (fX3_holds o14 a4 a5 q7.2).bind fun q8 => if q8.1 = 0 then (some ((-12 : Int32), q8.2)) else ((zok spX q8.2 q1.1 3).bind fun o9 => (zok spX q8.2 q2.1 3).bind fun o10 => (zok spX q8.2 (q8.2.2.2.2 o9 0) 9).bind fun o11 => (zok spX q8.2 (q8.2.2.2.2 o10 0) 9).bind fun o12 => if zcpyBad spX o11 o12 a2 a4 a5 then none else zlet (zcpy q8.2 o11 o12 a2 a4 a5) fun st13 => some (a5, st13)))) else (some ((-13 : Int32), q4.2))) else (some ((-11 : Int32), q4.2))) else (some ((-11 : Int32), q3.2))))
set_option maxRecDepth 100000 in
set_option maxHeartbeats 4000000 in
theorem kX7_copy (l : Launch) (Z : zZ) (b : Nat) (x : Option Nat) (hx : x = none) (this : Nat) (a1 : Int32) (a2 : Int32) (a3 : Int32) (a4 : Int32) (a5 : Int32) (st : zS) : zC l Z spX b x yX7_copy (.code yX7_copy cX7_copy 8 (some .int)) (rmX7_copy) rI [vP (some this), vI a1, vI a2, vI a3, vI a4, vI a5] st (fX7_copy this a1 a2 a3 a4 a5 st) := by
  refine z_start (own := RX7) rfl (by decide +kernel) (Nat.le_of_ble_eq_true rfl) rfl (fun p e s m args below meth c res Q A X hK hr hlocks hQ => ?_)
  rw [fX7_copy]
  refine z_aload_n X (q := 0) dX7_copy_0 rfl rfl ?_
  refine z_iload_n X (q := 1) dX7_copy_1 rfl rfl ?_
  refine z_callV X hK (As := [vI a1]) (ci := 7) rfl (by decide) (fun o => (kX7_sheetAt l Z  b x o _ _)) hk_X7_147 ⟨rfl, rfl⟩ hd_X7_sheetAt ⟨Nat.le_of_ble_eq_true rfl, Nat.le_of_ble_eq_true rfl⟩ ⟨Nat.le_of_ble_eq_true rfl, Nat.le_of_ble_eq_true rfl⟩ rfl rfl (Nat.le_of_ble_eq_true rfl) dX7_copy_2 (fun _ q1 _ => ?_)
  refine z_astore X dX7_copy_5 (Nat.le_of_ble_eq_true rfl) rfl ?_
  refine z_aload_n X (q := 1) dX7_copy_7 rfl rfl ?_
  refine z_iload_n X (q := 4) dX7_copy_8 rfl rfl ?_
  refine z_callV X hK (As := [vI a3]) (ci := 7) rfl (by decide) (fun o => (kX7_sheetAt l Z  b x o _ _)) hk_X7_147 ⟨rfl, rfl⟩ hd_X7_sheetAt ⟨Nat.le_of_ble_eq_true rfl, Nat.le_of_ble_eq_true rfl⟩ ⟨Nat.le_of_ble_eq_true rfl, Nat.le_of_ble_eq_true rfl⟩ rfl rfl (Nat.le_of_ble_eq_true rfl) dX7_copy_9 (fun _ q2 _ => ?_)
  refine z_astore X dX7_copy_12 (Nat.le_of_ble_eq_true rfl) rfl ?_
  refine z_aload X (q := 1) dX7_copy_14 rfl ?_
  refine z_ifnull X (tgt := 24) dX7_copy_16 (by decide) (fun _ => ?_) (fun _ => ?_)
  · refine z_bipush X (v := (-2 : Int32)) dX7_copy_24 (by decide) ?_
    subst hQ; exact z_iret X hlocks hr dX7_copy_26
  · refine z_aload X (q := 0) dX7_copy_19 rfl ?_
    refine z_ifnonnull X (tgt := 27) dX7_copy_21 (by decide) (fun _ => ?_) (fun _ => ?_)
    · refine z_aload X (q := 1) dX7_copy_27 rfl ?_
      refine z_callV X hK (As := []) (ci := 3) rfl (by decide) (fun o => (kX3_isMissing l Z  b x o _)) hk_X7_196 ⟨rfl, rfl⟩ hd_X3_isMissing ⟨Nat.le_of_ble_eq_true rfl, Nat.le_of_ble_eq_true rfl⟩ ⟨Nat.le_of_ble_eq_true rfl, Nat.le_of_ble_eq_true rfl⟩ rfl rfl (Nat.le_of_ble_eq_true rfl) dX7_copy_29 (fun _ q3 _ => ?_)
      refine z_if_ne X (tgt := 43) dX7_copy_32 (by decide) (fun _ => ?_) (fun _ => ?_)
      · refine z_bipush X (v := (-11 : Int32)) dX7_copy_43 (by decide) ?_
        subst hQ; exact z_iret X hlocks hr dX7_copy_45
      · refine z_aload X (q := 0) dX7_copy_35 rfl ?_
        refine z_callV X hK (As := []) (ci := 3) rfl (by decide) (fun o => (kX3_isMissing l Z  b x o _)) hk_X7_196 ⟨rfl, rfl⟩ hd_X3_isMissing ⟨Nat.le_of_ble_eq_true rfl, Nat.le_of_ble_eq_true rfl⟩ ⟨Nat.le_of_ble_eq_true rfl, Nat.le_of_ble_eq_true rfl⟩ rfl rfl (Nat.le_of_ble_eq_true rfl) dX7_copy_37 (fun _ q4 _ => ?_)
        refine z_if_eq X (tgt := 46) dX7_copy_40 (by decide) (fun _ => ?_) (fun _ => ?_)
        · refine z_aload X (q := 1) dX7_copy_46 rfl ?_
          refine z_geti X hK (N := 3) (ci := 3) (k := 1) rfl (by decide) inlX3 (by decide) hf_X7_277 rfl spX_X3 rfl dX7_copy_48 (fun o5 _ => ?_)
          refine z_aload X (q := 0) dX7_copy_51 rfl ?_
          refine z_geti X hK (N := 3) (ci := 3) (k := 1) rfl (by decide) inlX3 (by decide) hf_X7_277 rfl spX_X3 rfl dX7_copy_53 (fun o6 _ => ?_)
          refine z_icmp_eq X (tgt := 62) dX7_copy_56 (by decide) (fun _ => ?_) (fun _ => ?_)
          · refine z_aload X (q := 1) dX7_copy_62 rfl ?_
            refine z_iload_n X (q := 4) dX7_copy_64 rfl rfl ?_
            refine z_iload X (q := 7) dX7_copy_65 rfl ?_
            refine z_callV X hK (As := [vI a2, vI a5]) (ci := 3) rfl (by decide) (fun o => (kX3_holds l Z  b x o _ _ _)) hk_X7_280 ⟨rfl, rfl⟩ hd_X3_holds ⟨Nat.le_of_ble_eq_true rfl, Nat.le_of_ble_eq_true rfl⟩ ⟨Nat.le_of_ble_eq_true rfl, Nat.le_of_ble_eq_true rfl⟩ rfl rfl (Nat.le_of_ble_eq_true rfl) dX7_copy_67 (fun _ q7 _ => ?_)
            refine z_if_eq X (tgt := 85) dX7_copy_70 (by decide) (fun _ => ?_) (fun _ => ?_)
            · refine z_bipush X (v := (-12 : Int32)) dX7_copy_85 (by decide) ?_
              subst hQ; exact z_iret X hlocks hr dX7_copy_87
            · refine z_aload X (q := 0) dX7_copy_73 rfl ?_
              refine z_iload X (q := 6) dX7_copy_75 rfl ?_
              refine z_iload X (q := 7) dX7_copy_77 rfl ?_
              refine z_callV X hK (As := [vI a4, vI a5]) (ci := 3) rfl (by decide) (fun o => (kX3_holds l Z  b x o _ _ _)) hk_X7_280 ⟨rfl, rfl⟩ hd_X3_holds ⟨Nat.le_of_ble_eq_true rfl, Nat.le_of_ble_eq_true rfl⟩ ⟨Nat.le_of_ble_eq_true rfl, Nat.le_of_ble_eq_true rfl⟩ rfl rfl (Nat.le_of_ble_eq_true rfl) dX7_copy_79 (fun _ q8 _ => ?_)
              refine z_if_ne X (tgt := 88) dX7_copy_82 (by decide) (fun _ => ?_) (fun _ => ?_)
              · refine z_aload X (q := 1) dX7_copy_88 rfl ?_
                refine z_getr X hK (N := 3) (ci := 3) (k := 0) rfl (by decide) inlX3 (by decide) hf_X7_284 rfl spX_X3 rfl dX7_copy_90 (fun o9 _ => ?_)
                refine z_iload_n X (q := 4) dX7_copy_93 rfl rfl ?_
                refine z_aload X (q := 0) dX7_copy_94 rfl ?_
                refine z_getr X hK (N := 3) (ci := 3) (k := 0) rfl (by decide) inlX3 (by decide) hf_X7_284 rfl spX_X3 rfl dX7_copy_96 (fun o10 _ => ?_)
                refine z_iload X (q := 6) dX7_copy_99 rfl ?_
                refine z_iload X (q := 7) dX7_copy_101 rfl ?_
                refine z_copy X hK hx hs_copy ⟨Nat.le_of_ble_eq_true rfl, Nat.le_of_ble_eq_true rfl⟩ (Nat.le_of_ble_eq_true rfl) dX7_copy_103 (fun o11 o12 st13 => ?_)
                refine z_iload X (q := 7) dX7_copy_106 rfl ?_
                subst hQ; exact z_iret X hlocks hr dX7_copy_108
              · refine z_bipush X (v := (-12 : Int32)) dX7_copy_85 (by decide) ?_
                subst hQ; exact z_iret X hlocks hr dX7_copy_87
          · refine z_bipush X (v := (-13 : Int32)) dX7_copy_59 (by decide) ?_
            subst hQ; exact z_iret X hlocks hr dX7_copy_61
        · refine z_bipush X (v := (-11 : Int32)) dX7_copy_43 (by decide) ?_
          subst hQ; exact z_iret X hlocks hr dX7_copy_45
    · refine z_bipush X (v := (-2 : Int32)) dX7_copy_24 (by decide) ?_
      subst hQ; exact z_iret X hlocks hr dX7_copy_26
abbrev rmX7_likeTwos : Room := { frames := 2, cells := 0, slots := 0, locals := 61 }
def fX7_likeTwos_L4 (this : Nat) : Nat → Int32 → Int32 → zS → Option (Int32 × zS)
  | 0, _, _, _ => none
  | n + 1, y1, y2, st => if (12 : Int32) ≤ y2 then (if (2 : Int32) = 0 then none else some ((y1 / (2 : Int32)), st)) else ((zok spX st (some this) 7).bind fun o4 => (fX7_likesOf o4 y2 st).bind fun q1 => (fJ6_bitCount_0f7a4 q1.1 q1.2).bind fun q2 => zlet ((y1 + q2.1)) fun v3 => (fX7_likeTwos_L4 this n) v3 (y2 + (1 : Int32)) q2.2)
def fX7_likeTwos (this : Nat) (st : zS) : Option (Int32 × zS) :=
  fX7_likeTwos_L4 this zF (0 : Int32) (0 : Int32) st
set_option maxRecDepth 100000 in
set_option maxHeartbeats 4000000 in
theorem kX7_likeTwos (l : Launch) (Z : zZ) (b : Nat) (x : Option Nat) (this : Nat) (st : zS) : zC l Z spX b x yX7_likeTwos (.code yX7_likeTwos cX7_likeTwos 3 (some .int)) (rmX7_likeTwos) rI [vP (some this)] st (fX7_likeTwos this st) := by
  refine z_start (own := RX7) rfl (by decide +kernel) (Nat.le_of_ble_eq_true rfl) rfl (fun p e s m args below meth c res Q A X hK hr hlocks hQ => ?_)
  have J4 : ∀ (n4 : Nat) (y1 : Int32) (y2 : Int32) (st : zS), zs p l e (rmX7_likeTwos) s m args below meth c Q Z spX b x A 3 0 0 res (fX7_likeTwos_L4 this n4 y1 y2 st) 4 [(0, vP (some this)), (1, vI y1), (2, vI y2)] [] st := by
    intro n4
    induction n4 with
    | zero => intros; exact z_none
    | succ n4 ih4 =>
      intro y1 y2 st
      rw [fX7_likeTwos_L4]
      refine z_iload_n X (q := 2) dX7_likeTwos_4 rfl rfl ?_
      refine z_bipush X (v := (12 : Int32)) dX7_likeTwos_5 (by decide) ?_
      refine z_icmp_ge X (tgt := 27) dX7_likeTwos_7 (by decide) (fun _ => ?_) (fun _ => ?_)
      · refine z_iload_n X (q := 1) dX7_likeTwos_27 rfl rfl ?_
        refine z_iconst X (v := (2 : Int32)) dX7_likeTwos_28 (by decide) ?_
        refine z_idiv X dX7_likeTwos_29 (fun _ => ?_)
        subst hQ; exact z_iret X hlocks hr dX7_likeTwos_30
      · refine z_iload_n X (q := 1) dX7_likeTwos_10 rfl rfl ?_
        refine z_aload_n X (q := 0) dX7_likeTwos_11 rfl rfl ?_
        refine z_iload_n X (q := 2) dX7_likeTwos_12 rfl rfl ?_
        refine z_callV X hK (As := [vI y2]) (ci := 7) rfl (by decide) (fun o => (kX7_likesOf l Z  b x o _ _)) hk_X7_215 ⟨rfl, rfl⟩ hd_X7_likesOf ⟨Nat.le_of_ble_eq_true rfl, Nat.le_of_ble_eq_true rfl⟩ ⟨Nat.le_of_ble_eq_true rfl, Nat.le_of_ble_eq_true rfl⟩ rfl rfl (Nat.le_of_ble_eq_true rfl) dX7_likeTwos_13 (fun _ q1 _ => ?_)
        refine z_callS X hK (As := [vI q1.1]) (kJ6_bitCount_0f7a4 l Z spX b x _ _) hk_X7_184 ⟨rfl, rfl⟩ hd_J6_bitCount_0f7a4.2 ⟨Nat.le_of_ble_eq_true rfl, Nat.le_of_ble_eq_true rfl⟩ ⟨Nat.le_of_ble_eq_true rfl, Nat.le_of_ble_eq_true rfl⟩ rfl rfl (Nat.le_of_ble_eq_true rfl) dX7_likeTwos_16 (fun q2 => ?_)
        refine z_iadd X dX7_likeTwos_19 ?_
        refine z_name (fun v3 => ?_)
        refine z_istore_n X dX7_likeTwos_20 rfl (Nat.le_of_ble_eq_true rfl) rfl ?_
        refine z_iinc X (q := 2) (y := y2 + (1 : Int32)) dX7_likeTwos_21 rfl rfl (Nat.le_of_ble_eq_true rfl) rfl ?_
        refine z_goto X (tgt := 4) dX7_likeTwos_24 (by decide) ?_
        exact z_sub [2, 1, 0] (ih4 _ _ _) rfl
  rw [fX7_likeTwos]
  refine z_iconst X (v := (0 : Int32)) dX7_likeTwos_0 (by decide) ?_
  refine z_istore_n X dX7_likeTwos_1 rfl (Nat.le_of_ble_eq_true rfl) rfl ?_
  refine z_iconst X (v := (0 : Int32)) dX7_likeTwos_2 (by decide) ?_
  refine z_istore_n X dX7_likeTwos_3 rfl (Nat.le_of_ble_eq_true rfl) rfl ?_
  exact z_sub [2, 1, 0] (J4 _ _ _ _) rfl
theorem zw_409 : Cond.methodLink RX7 218 yX7_likeTwos ∈ wsL_law := zr_41 _ (by decide +kernel)
theorem zw_410 : Cond.instanceMethod yX7_likeTwos ∈ wsL_law := zr_42 _ (by decide +kernel)
theorem zw_411 : Cond.selects RX7 yX7_likeTwos yX7_likeTwos ∈ wsL_law := zr_42 _ (by decide +kernel)
theorem zw_412 : Cond.code yX7_likeTwos cX7_likeTwos 3 (some .int) ∈ wsL_law := zr_42 _ (by decide +kernel)
theorem hk_X7_218 : ∀ w ∈ ([Cond.methodLink RX7 218 yX7_likeTwos, Cond.instanceMethod yX7_likeTwos, Cond.selects RX7 yX7_likeTwos yX7_likeTwos, Cond.initialized RX7, Cond.code yX7_likeTwos cX7_likeTwos 3 (some .int)] : List Cond), w ∈ wsL_law := List.forall_mem_cons.mpr ⟨zw_409, List.forall_mem_cons.mpr ⟨zw_410, List.forall_mem_cons.mpr ⟨zw_411, List.forall_mem_cons.mpr ⟨zw_322, List.forall_mem_cons.mpr ⟨zw_412, fun _ h => absurd h List.not_mem_nil⟩⟩⟩⟩⟩
theorem hd_X7_likeTwos : yX7_likeTwos.cls = RX7 ∧ yX7_likeTwos.cls ≠ "java/lang/invoke/MethodHandle" ∧ yX7_likeTwos.cls ≠ "java/lang/invoke/VarHandle" ∧ (parseMethodDescriptor yX7_likeTwos.desc).map (fun d => d.parameters.length) = some 0 := by decide +kernel
theorem zw_413 : Cond.fieldLink RX7 130 "WellGivesOther" "tapeSize" "I" ∈ wsL_law := zr_27 _ (by decide +kernel)
theorem hf_X7_130 : Cond.fieldLink RX7 130 "WellGivesOther" "tapeSize" "I" ∈ wsL_law := zw_413
theorem zw_414 : Cond.fieldLink RX7 60 "WellGivesOther" "textCount" "I" ∈ wsL_law := zr_2 _ (by decide +kernel)
theorem hf_X7_60 : Cond.fieldLink RX7 60 "WellGivesOther" "textCount" "I" ∈ wsL_law := zw_414
abbrev rmX7_count : Room := { frames := 3, cells := 0, slots := 0, locals := 83 }
def fX7_count (this : Nat) (a1 : Int32) (st : zS) : Option (Int32 × zS) :=
  if a1 = (0 : Int32) then ((zok spX st (some this) 7).bind fun o2 => some ((st.2.1 o2 10), st)) else (if a1 = (1 : Int32) then ((zok spX st (some this) 7).bind fun o5 => (fX7_likeTwos o5 st).bind fun q4 => some (q4.1, q4.2)) else (if a1 = (2 : Int32) then ((zok spX st (some this) 7).bind fun o7 => some ((st.2.1 o7 9), st)) else (if a1 = (3 : Int32) then ((zok spX st (some this) 7).bind fun o9 => some ((st.2.1 o9 11), st)) else (if a1 = (4 : Int32) then ((zok spX st (some this) 7).bind fun o11 => some ((st.2.1 o11 13), st)) else (if a1 = (5 : Int32) then ((zok spX st (some this) 7).bind fun o13 => some ((st.2.1 o13 12), st)) else (some ((-2 : Int32), st)))))))
set_option maxRecDepth 100000 in
set_option maxHeartbeats 4000000 in
theorem kX7_count (l : Launch) (Z : zZ) (b : Nat) (x : Option Nat) (this : Nat) (a1 : Int32) (st : zS) : zC l Z spX b x yX7_count (.code yX7_count cX7_count 2 (some .int)) (rmX7_count) rI [vP (some this), vI a1] st (fX7_count this a1 st) := by
  refine z_start (own := RX7) rfl (by decide +kernel) (Nat.le_of_ble_eq_true rfl) rfl (fun p e s m args below meth c res Q A X hK hr hlocks hQ => ?_)
  rw [fX7_count]
  refine z_iload_n X (q := 1) dX7_count_0 rfl rfl ?_
  refine z_ite (fun h1 => ?_) (fun h1 => ?_)
  · refine z_tabIn X (off := 39) (tgt := 40) dX7_count_1 (by rw [h1]; decide) (by rw [h1]; decide) (by rw [h1]; rfl) (by decide) ?_
    refine z_aload_n X (q := 0) dX7_count_40 rfl rfl ?_
    refine z_geti X hK (N := 14) (ci := 7) (k := 10) rfl (by decide) inlX7 (by decide) hf_X7_99 rfl spX_X7 rfl dX7_count_41 (fun o2 _ => ?_)
    subst hQ; exact z_iret X hlocks hr dX7_count_44
  refine z_ite (fun h3 => ?_) (fun h3 => ?_)
  · refine z_tabIn X (off := 44) (tgt := 45) dX7_count_1 (by rw [h3]; decide) (by rw [h3]; decide) (by rw [h3]; rfl) (by decide) ?_
    refine z_aload_n X (q := 0) dX7_count_45 rfl rfl ?_
    refine z_callV X hK (As := []) (ci := 7) rfl (by decide) (fun o => (kX7_likeTwos l Z  b x o _)) hk_X7_218 ⟨rfl, rfl⟩ hd_X7_likeTwos ⟨Nat.le_of_ble_eq_true rfl, Nat.le_of_ble_eq_true rfl⟩ ⟨Nat.le_of_ble_eq_true rfl, Nat.le_of_ble_eq_true rfl⟩ rfl rfl (Nat.le_of_ble_eq_true rfl) dX7_count_46 (fun _ q4 _ => ?_)
    subst hQ; exact z_iret X hlocks hr dX7_count_49
  refine z_ite (fun h6 => ?_) (fun h6 => ?_)
  · refine z_tabIn X (off := 49) (tgt := 50) dX7_count_1 (by rw [h6]; decide) (by rw [h6]; decide) (by rw [h6]; rfl) (by decide) ?_
    refine z_aload_n X (q := 0) dX7_count_50 rfl rfl ?_
    refine z_geti X hK (N := 14) (ci := 7) (k := 9) rfl (by decide) inlX7 (by decide) hf_X7_85 rfl spX_X7 rfl dX7_count_51 (fun o7 _ => ?_)
    subst hQ; exact z_iret X hlocks hr dX7_count_54
  refine z_ite (fun h8 => ?_) (fun h8 => ?_)
  · refine z_tabIn X (off := 54) (tgt := 55) dX7_count_1 (by rw [h8]; decide) (by rw [h8]; decide) (by rw [h8]; rfl) (by decide) ?_
    refine z_aload_n X (q := 0) dX7_count_55 rfl rfl ?_
    refine z_geti X hK (N := 14) (ci := 7) (k := 11) rfl (by decide) inlX7 (by decide) hf_X7_60 rfl spX_X7 rfl dX7_count_56 (fun o9 _ => ?_)
    subst hQ; exact z_iret X hlocks hr dX7_count_59
  refine z_ite (fun h10 => ?_) (fun h10 => ?_)
  · refine z_tabIn X (off := 59) (tgt := 60) dX7_count_1 (by rw [h10]; decide) (by rw [h10]; decide) (by rw [h10]; rfl) (by decide) ?_
    refine z_aload_n X (q := 0) dX7_count_60 rfl rfl ?_
    refine z_geti X hK (N := 14) (ci := 7) (k := 13) rfl (by decide) inlX7 (by decide) hf_X7_130 rfl spX_X7 rfl dX7_count_61 (fun o11 _ => ?_)
    subst hQ; exact z_iret X hlocks hr dX7_count_64
  refine z_ite (fun h12 => ?_) (fun h12 => ?_)
  · refine z_tabIn X (off := 64) (tgt := 65) dX7_count_1 (by rw [h12]; decide) (by rw [h12]; decide) (by rw [h12]; rfl) (by decide) ?_
    refine z_aload_n X (q := 0) dX7_count_65 rfl rfl ?_
    refine z_geti X hK (N := 14) (ci := 7) (k := 12) rfl (by decide) inlX7 (by decide) hf_X7_137 rfl spX_X7 rfl dX7_count_66 (fun o13 _ => ?_)
    subst hQ; exact z_iret X hlocks hr dX7_count_69
  refine z_tabOut X (tgt := 70) dX7_count_1 (by have := lv_neT (a := 0) h1 (by decide); have := lv_neT (a := 1) h3 (by decide); have := lv_neT (a := 2) h6 (by decide); have := lv_neT (a := 3) h8 (by decide); have := lv_neT (a := 4) h10 (by decide); have := lv_neT (a := 5) h12 (by decide); omega) (by decide) ?_
  refine z_bipush X (v := (-2 : Int32)) dX7_count_70 (by decide) ?_
  subst hQ; exact z_iret X hlocks hr dX7_count_72
abbrev rmX7_day : Room := { frames := 1, cells := 0, slots := 0, locals := 40 }
def fX7_day (this : Nat) (st : zS) : Option (Int32 × zS) :=
  (zok spX st (some this) 7).bind fun o1 => if (st.2.1 o1 9) < (999 : Int32) then ((zok spX st (some this) 7).bind fun o2 => (zok spX st (some this) 7).bind fun o3 => zlet (zp st o3 9 ((st.2.1 o2 9) + (1 : Int32))) fun st4 => (zok spX st4 (some this) 7).bind fun o5 => some ((st4.2.1 o5 9), st4)) else (some ((-3 : Int32), st))
set_option maxRecDepth 100000 in
set_option maxHeartbeats 4000000 in
theorem kX7_day (l : Launch) (Z : zZ) (b : Nat) (x : Option Nat) (this : Nat) (st : zS) : zC l Z spX b x yX7_day (.code yX7_day cX7_day 1 (some .int)) (rmX7_day) rI [vP (some this)] st (fX7_day this st) := by
  refine z_start (own := RX7) rfl (by decide +kernel) (Nat.le_of_ble_eq_true rfl) rfl (fun p e s m args below meth c res Q A X hK hr hlocks hQ => ?_)
  rw [fX7_day]
  refine z_aload_n X (q := 0) dX7_day_0 rfl rfl ?_
  refine z_geti X hK (N := 14) (ci := 7) (k := 9) rfl (by decide) inlX7 (by decide) hf_X7_85 rfl spX_X7 rfl dX7_day_1 (fun o1 _ => ?_)
  refine z_sipush X (v := (999 : Int32)) dX7_day_4 (by decide) ?_
  refine z_icmp_lt X (tgt := 13) dX7_day_7 (by decide) (fun _ => ?_) (fun _ => ?_)
  · refine z_aload_n X (q := 0) dX7_day_13 rfl rfl ?_
    refine z_dup X dX7_day_14 rfl ?_
    refine z_geti X hK (N := 14) (ci := 7) (k := 9) rfl (by decide) inlX7 (by decide) hf_X7_85 rfl spX_X7 rfl dX7_day_15 (fun o2 _ => ?_)
    refine z_iconst X (v := (1 : Int32)) dX7_day_18 (by decide) ?_
    refine z_iadd X dX7_day_19 ?_
    refine z_puti X hK (N := 14) (ci := 7) (k := 9) rfl (by decide) inlX7 tyX7 tyX7_ok nmX7 (by decide) hf_X7_85 rfl rfl spX_X7 rfl (by decide +kernel) dX7_day_20 (fun o3 st4 _ => ?_)
    refine z_aload_n X (q := 0) dX7_day_23 rfl rfl ?_
    refine z_geti X hK (N := 14) (ci := 7) (k := 9) rfl (by decide) inlX7 (by decide) hf_X7_85 rfl spX_X7 rfl dX7_day_24 (fun o5 _ => ?_)
    subst hQ; exact z_iret X hlocks hr dX7_day_27
  · refine z_bipush X (v := (-3 : Int32)) dX7_day_10 (by decide) ?_
    subst hQ; exact z_iret X hlocks hr dX7_day_12
abbrev rmX7_drawn : Room := { frames := 7, cells := 0, slots := 0, locals := 184 }
def fX7_drawn (this : Nat) (a1 : Int32) (a2 : Int32) (a3 : Int32) (st : zS) : Option (Int32 × zS) :=
  (zok spX st (some this) 7).bind fun o3 => (fX7_visitOf o3 a2 st).bind fun q1 => if q1.1 = none then (some ((-2 : Int32), q1.2)) else (if a3 < 0 then (some ((-2 : Int32), q1.2)) else (if a3 ≤ (40 : Int32) then ((fX7_hadByDrawing q1.1 a1 a3 q1.2).bind fun q2 => some (q2.1, q2.2)) else (some ((-2 : Int32), q1.2))))
set_option maxRecDepth 100000 in
set_option maxHeartbeats 4000000 in
theorem kX7_drawn (l : Launch) (Z : zZ) (b : Nat) (x : Option Nat) (this : Nat) (a1 : Int32) (a2 : Int32) (a3 : Int32) (st : zS) : zC l Z spX b x yX7_drawn (.code yX7_drawn cX7_drawn 5 (some .int)) (rmX7_drawn) rI [vP (some this), vI a1, vI a2, vI a3] st (fX7_drawn this a1 a2 a3 st) := by
  refine z_start (own := RX7) rfl (by decide +kernel) (Nat.le_of_ble_eq_true rfl) rfl (fun p e s m args below meth c res Q A X hK hr hlocks hQ => ?_)
  rw [fX7_drawn]
  refine z_aload_n X (q := 0) dX7_drawn_0 rfl rfl ?_
  refine z_iload_n X (q := 2) dX7_drawn_1 rfl rfl ?_
  refine z_callV X hK (As := [vI a2]) (ci := 7) rfl (by decide) (fun o => (kX7_visitOf l Z  b x o _ _)) hk_X7_108 ⟨rfl, rfl⟩ hd_X7_visitOf ⟨Nat.le_of_ble_eq_true rfl, Nat.le_of_ble_eq_true rfl⟩ ⟨Nat.le_of_ble_eq_true rfl, Nat.le_of_ble_eq_true rfl⟩ rfl rfl (Nat.le_of_ble_eq_true rfl) dX7_drawn_2 (fun _ q1 _ => ?_)
  refine z_astore X dX7_drawn_5 (Nat.le_of_ble_eq_true rfl) rfl ?_
  refine z_aload X (q := 0) dX7_drawn_7 rfl ?_
  refine z_ifnull X (tgt := 22) dX7_drawn_9 (by decide) (fun _ => ?_) (fun _ => ?_)
  · refine z_bipush X (v := (-2 : Int32)) dX7_drawn_22 (by decide) ?_
    subst hQ; exact z_iret X hlocks hr dX7_drawn_24
  · refine z_iload_n X (q := 4) dX7_drawn_12 rfl rfl ?_
    refine z_if_lt X (tgt := 22) dX7_drawn_13 (by decide) (fun _ => ?_) (fun _ => ?_)
    · refine z_bipush X (v := (-2 : Int32)) dX7_drawn_22 (by decide) ?_
      subst hQ; exact z_iret X hlocks hr dX7_drawn_24
    · refine z_iload_n X (q := 4) dX7_drawn_16 rfl rfl ?_
      refine z_bipush X (v := (40 : Int32)) dX7_drawn_17 (by decide) ?_
      refine z_icmp_le X (tgt := 25) dX7_drawn_19 (by decide) (fun _ => ?_) (fun _ => ?_)
      · refine z_aload X (q := 0) dX7_drawn_25 rfl ?_
        refine z_iload_n X (q := 2) dX7_drawn_27 rfl rfl ?_
        refine z_iload_n X (q := 4) dX7_drawn_28 rfl rfl ?_
        refine z_callS X hK (As := [vP q1.1, vI a1, vI a3]) (kX7_hadByDrawing l Z  b x _ _ _ _) hk_X7_262 ⟨rfl, rfl⟩ hd_X7_hadByDrawing.2 ⟨Nat.le_of_ble_eq_true rfl, Nat.le_of_ble_eq_true rfl⟩ ⟨Nat.le_of_ble_eq_true rfl, Nat.le_of_ble_eq_true rfl⟩ rfl rfl (Nat.le_of_ble_eq_true rfl) dX7_drawn_29 (fun q2 => ?_)
        subst hQ; exact z_iret X hlocks hr dX7_drawn_32
      · refine z_bipush X (v := (-2 : Int32)) dX7_drawn_22 (by decide) ?_
        subst hQ; exact z_iret X hlocks hr dX7_drawn_24
theorem zw_415 : Cond.fieldLink RX7 16 "WellGivesOther" "tape" "[I" ∈ wsL_law := zr_1 _ (by decide +kernel)
theorem hf_X7_16 : Cond.fieldLink RX7 16 "WellGivesOther" "tape" "[I" ∈ wsL_law := zw_415
abbrev rmX7_feed : Room := { frames := 1, cells := 0, slots := 0, locals := 40 }
def fX7_feed (this : Nat) (a1 : Int32) (st : zS) : Option (Int32 × zS) :=
  if a1 < 0 then (some ((-2 : Int32), st)) else (if a1 ≤ (255 : Int32) then ((zok spX st (some this) 7).bind fun o1 => if (st.2.1 o1 13) < 0 then (some ((-4 : Int32), st)) else ((zok spX st (some this) 7).bind fun o2 => (zok spX st (some this) 7).bind fun o3 => (zla spX st (st.2.2.2 o3 2)).bind fun o4 => if (st.2.1 o2 13) < (Int32.ofNat (spX o4).2) then ((zok spX st (some this) 7).bind fun o5 => (zok spX st (some this) 7).bind fun o6 => (zok spX st (st.2.2.2 o5 2) 9).bind fun o7 => (zix spX o7 (st.2.1 o6 13)).bind fun j8 => zlet (zp st o7 j8 a1) fun st9 => (zok spX st9 (some this) 7).bind fun o10 => (zok spX st9 (some this) 7).bind fun o11 => zlet (zp st9 o11 13 ((st9.2.1 o10 13) + (1 : Int32))) fun st12 => (zok spX st12 (some this) 7).bind fun o13 => some ((st12.2.1 o13 13), st12)) else (some ((-4 : Int32), st)))) else (some ((-2 : Int32), st)))
set_option maxRecDepth 100000 in
set_option maxHeartbeats 4000000 in
theorem kX7_feed (l : Launch) (Z : zZ) (b : Nat) (x : Option Nat) (this : Nat) (a1 : Int32) (st : zS) : zC l Z spX b x yX7_feed (.code yX7_feed cX7_feed 2 (some .int)) (rmX7_feed) rI [vP (some this), vI a1] st (fX7_feed this a1 st) := by
  refine z_start (own := RX7) rfl (by decide +kernel) (Nat.le_of_ble_eq_true rfl) rfl (fun p e s m args below meth c res Q A X hK hr hlocks hQ => ?_)
  rw [fX7_feed]
  refine z_iload_n X (q := 1) dX7_feed_0 rfl rfl ?_
  refine z_if_lt X (tgt := 11) dX7_feed_1 (by decide) (fun _ => ?_) (fun _ => ?_)
  · refine z_bipush X (v := (-2 : Int32)) dX7_feed_11 (by decide) ?_
    subst hQ; exact z_iret X hlocks hr dX7_feed_13
  · refine z_iload_n X (q := 1) dX7_feed_4 rfl rfl ?_
    refine z_sipush X (v := (255 : Int32)) dX7_feed_5 (by decide) ?_
    refine z_icmp_le X (tgt := 14) dX7_feed_8 (by decide) (fun _ => ?_) (fun _ => ?_)
    · refine z_aload_n X (q := 0) dX7_feed_14 rfl rfl ?_
      refine z_geti X hK (N := 14) (ci := 7) (k := 13) rfl (by decide) inlX7 (by decide) hf_X7_130 rfl spX_X7 rfl dX7_feed_15 (fun o1 _ => ?_)
      refine z_if_lt X (tgt := 33) dX7_feed_18 (by decide) (fun _ => ?_) (fun _ => ?_)
      · refine z_bipush X (v := (-4 : Int32)) dX7_feed_33 (by decide) ?_
        subst hQ; exact z_iret X hlocks hr dX7_feed_35
      · refine z_aload_n X (q := 0) dX7_feed_21 rfl rfl ?_
        refine z_geti X hK (N := 14) (ci := 7) (k := 13) rfl (by decide) inlX7 (by decide) hf_X7_130 rfl spX_X7 rfl dX7_feed_22 (fun o2 _ => ?_)
        refine z_aload_n X (q := 0) dX7_feed_25 rfl rfl ?_
        refine z_getr X hK (N := 14) (ci := 7) (k := 2) rfl (by decide) inlX7 (by decide) hf_X7_16 rfl spX_X7 rfl dX7_feed_26 (fun o3 _ => ?_)
        refine z_alen X hK dX7_feed_29 spX_14 (fun o4 _ => ?_)
        refine z_icmp_lt X (tgt := 36) dX7_feed_30 (by decide) (fun _ => ?_) (fun _ => ?_)
        · refine z_aload_n X (q := 0) dX7_feed_36 rfl rfl ?_
          refine z_getr X hK (N := 14) (ci := 7) (k := 2) rfl (by decide) inlX7 (by decide) hf_X7_16 rfl spX_X7 rfl dX7_feed_37 (fun o5 _ => ?_)
          refine z_aload_n X (q := 0) dX7_feed_40 rfl rfl ?_
          refine z_geti X hK (N := 14) (ci := 7) (k := 13) rfl (by decide) inlX7 (by decide) hf_X7_130 rfl spX_X7 rfl dX7_feed_41 (fun o6 _ => ?_)
          refine z_iload_n X (q := 1) dX7_feed_44 rfl rfl ?_
          refine z_iast X hK dX7_feed_45 (fun o7 j8 st9 _ _ => ?_)
          refine z_aload_n X (q := 0) dX7_feed_46 rfl rfl ?_
          refine z_dup X dX7_feed_47 rfl ?_
          refine z_geti X hK (N := 14) (ci := 7) (k := 13) rfl (by decide) inlX7 (by decide) hf_X7_130 rfl spX_X7 rfl dX7_feed_48 (fun o10 _ => ?_)
          refine z_iconst X (v := (1 : Int32)) dX7_feed_51 (by decide) ?_
          refine z_iadd X dX7_feed_52 ?_
          refine z_puti X hK (N := 14) (ci := 7) (k := 13) rfl (by decide) inlX7 tyX7 tyX7_ok nmX7 (by decide) hf_X7_130 rfl rfl spX_X7 rfl (by decide +kernel) dX7_feed_53 (fun o11 st12 _ => ?_)
          refine z_aload_n X (q := 0) dX7_feed_56 rfl rfl ?_
          refine z_geti X hK (N := 14) (ci := 7) (k := 13) rfl (by decide) inlX7 (by decide) hf_X7_130 rfl spX_X7 rfl dX7_feed_57 (fun o13 _ => ?_)
          subst hQ; exact z_iret X hlocks hr dX7_feed_60
        · refine z_bipush X (v := (-4 : Int32)) dX7_feed_33 (by decide) ?_
          subst hQ; exact z_iret X hlocks hr dX7_feed_35
    · refine z_bipush X (v := (-2 : Int32)) dX7_feed_11 (by decide) ?_
      subst hQ; exact z_iret X hlocks hr dX7_feed_13
abbrev rmX7_fewestLeaving : Room := { frames := 4, cells := 0, slots := 0, locals := 107 }
def fX7_fewestLeaving_j68 (k8 : Option Nat → Int32 → Int32 → Int32 → Int32 → zS → Option (Int32 × zS)) (y0 : Option Nat) (y1 : Int32) (y2 : Int32) (y3 : Int32) (y4 : Int32) (st : zS) : Option (Int32 × zS) :=
  k8 y0 y1 y2 y3 (y4 + (1 : Int32)) st
def fX7_fewestLeaving_j43 (k8 : Option Nat → Int32 → Int32 → Int32 → Int32 → zS → Option (Int32 × zS)) (y0 : Option Nat) (y1 : Int32) (y2 : Int32) (y3 : Int32) (y4 : Int32) (y5 : Int32) (s0 : Int32) (st : zS) : Option (Int32 × zS) :=
  if s0 = 0 then (fX7_fewestLeaving_j68 k8 y0 y1 y2 y3 y4 st) else ((zok spX st y0 6).bind fun o2 => (fX6_openBy o2 y4 st).bind fun q1 => if q1.1 = ((1 : Int32) <<< (y1 &&& 31)) then (fX7_fewestLeaving_j68 k8 y0 y1 y4 y5 y4 q1.2) else (fX7_fewestLeaving_j68 k8 y0 y1 y2 y3 y4 q1.2))
def fX7_fewestLeaving_j42 (k8 : Option Nat → Int32 → Int32 → Int32 → Int32 → zS → Option (Int32 × zS)) (y0 : Option Nat) (y1 : Int32) (y2 : Int32) (y3 : Int32) (y4 : Int32) (y5 : Int32) (st : zS) : Option (Int32 × zS) :=
  fX7_fewestLeaving_j43 k8 y0 y1 y2 y3 y4 y5 (0 : Int32) st
def fX7_fewestLeaving_L8 : Nat → Option Nat → Int32 → Int32 → Int32 → Int32 → zS → Option (Int32 × zS)
  | 0, _, _, _, _, _, _ => none
  | n + 1, y0, y1, y2, y3, y4, st => if (4095 : Int32) < y4 then (some (y2, st)) else ((fJ6_bitCount_0f7a4 y4 st).bind fun q3 => zlet (q3.1) fun v4 => if y3 ≤ v4 then (fX7_fewestLeaving_j42 (fX7_fewestLeaving_L8 n) y0 y1 y2 y3 y4 v4 q3.2) else (if ((y4 >>> (y1 &&& 31)) &&& (1 : Int32)) = 0 then (fX7_fewestLeaving_j43 (fX7_fewestLeaving_L8 n) y0 y1 y2 y3 y4 v4 (1 : Int32) q3.2) else (fX7_fewestLeaving_j42 (fX7_fewestLeaving_L8 n) y0 y1 y2 y3 y4 v4 q3.2)))
def fX7_fewestLeaving (a0 : Option Nat) (a1 : Int32) (st : zS) : Option (Int32 × zS) :=
  fX7_fewestLeaving_L8 zF a0 a1 (-1 : Int32) (13 : Int32) (1 : Int32) st
set_option maxRecDepth 100000 in
set_option maxHeartbeats 4000000 in
theorem kX7_fewestLeaving (l : Launch) (Z : zZ) (b : Nat) (x : Option Nat) (a0 : Option Nat) (a1 : Int32) (st : zS) : zC l Z spX b x yX7_fewestLeaving (.code yX7_fewestLeaving cX7_fewestLeaving 7 (some .int)) (rmX7_fewestLeaving) rI [vP a0, vI a1] st (fX7_fewestLeaving a0 a1 st) := by
  refine z_start (own := RX7) rfl (by decide +kernel) (Nat.le_of_ble_eq_true rfl) rfl (fun p e s m args below meth c res Q A X hK hr hlocks hQ => ?_)
  have J8 : ∀ (n8 : Nat) (y0 : Option Nat) (y1 : Int32) (y2 : Int32) (y3 : Int32) (y4 : Int32) (st : zS), zs p l e (rmX7_fewestLeaving) s m args below meth c Q Z spX b x A 7 0 0 res (fX7_fewestLeaving_L8 n8 y0 y1 y2 y3 y4 st) 8 [(0, vP y0), (1, vI y1), (2, vI y2), (3, vI y3), (4, vI y4)] [] st := by
    intro n8
    induction n8 with
    | zero => intros; exact z_none
    | succ n8 ih8 =>
      have J68 : ∀ (y0 : Option Nat) (y1 : Int32) (y2 : Int32) (y3 : Int32) (y4 : Int32) (st : zS), zs p l e (rmX7_fewestLeaving) s m args below meth c Q Z spX b x A 7 0 0 res (fX7_fewestLeaving_j68 (fX7_fewestLeaving_L8 n8) y0 y1 y2 y3 y4 st) 68 [(0, vP y0), (1, vI y1), (2, vI y2), (3, vI y3), (4, vI y4)] [] st := by
        intro y0 y1 y2 y3 y4 st
        rw [fX7_fewestLeaving_j68]
        refine z_iinc X (q := 4) (y := y4 + (1 : Int32)) dX7_fewestLeaving_68 rfl rfl (Nat.le_of_ble_eq_true rfl) rfl ?_
        refine z_goto X (tgt := 8) dX7_fewestLeaving_71 (by decide) ?_
        exact z_sub [1, 2, 3, 4, 0] (ih8 _ _ _ _ _ _) rfl
      have J43 : ∀ (y0 : Option Nat) (y1 : Int32) (y2 : Int32) (y3 : Int32) (y4 : Int32) (y5 : Int32) (s0 : Int32) (st : zS), zs p l e (rmX7_fewestLeaving) s m args below meth c Q Z spX b x A 7 0 0 res (fX7_fewestLeaving_j43 (fX7_fewestLeaving_L8 n8) y0 y1 y2 y3 y4 y5 s0 st) 43 [(0, vP y0), (1, vI y1), (2, vI y2), (3, vI y3), (4, vI y4), (5, vI y5)] [vI s0] st := by
        intro y0 y1 y2 y3 y4 y5 s0 st
        rw [fX7_fewestLeaving_j43]
        refine z_istore X dX7_fewestLeaving_43 (Nat.le_of_ble_eq_true rfl) rfl ?_
        refine z_iload X (q := 0) dX7_fewestLeaving_45 rfl ?_
        refine z_if_eq X (tgt := 68) dX7_fewestLeaving_47 (by decide) (fun _ => ?_) (fun _ => ?_)
        · exact z_sub [1, 2, 3, 4, 5] (J68 _ _ _ _ _ _) rfl
        · refine z_aload_n X (q := 1) dX7_fewestLeaving_50 rfl rfl ?_
          refine z_iload X (q := 5) dX7_fewestLeaving_51 rfl ?_
          refine z_callV X hK (As := [vI y4]) (ci := 6) rfl (by decide) (fun o => (kX6_openBy l Z  b x o _ _)) hk_X7_115 ⟨rfl, rfl⟩ hd_X6_openBy ⟨Nat.le_of_ble_eq_true rfl, Nat.le_of_ble_eq_true rfl⟩ ⟨Nat.le_of_ble_eq_true rfl, Nat.le_of_ble_eq_true rfl⟩ rfl rfl (Nat.le_of_ble_eq_true rfl) dX7_fewestLeaving_53 (fun _ q1 _ => ?_)
          refine z_iconst X (v := (1 : Int32)) dX7_fewestLeaving_56 (by decide) ?_
          refine z_iload_n X (q := 2) dX7_fewestLeaving_57 rfl rfl ?_
          refine z_ishl X dX7_fewestLeaving_58 ?_
          refine z_icmp_ne X (tgt := 68) dX7_fewestLeaving_59 (by decide) (fun _ => ?_) (fun _ => ?_)
          · exact z_sub [1, 2, 3, 4, 5] (J68 _ _ _ _ _ _) rfl
          · refine z_iload X (q := 5) dX7_fewestLeaving_62 rfl ?_
            refine z_istore_n X dX7_fewestLeaving_64 rfl (Nat.le_of_ble_eq_true rfl) rfl ?_
            refine z_iload X (q := 6) dX7_fewestLeaving_65 rfl ?_
            refine z_istore_n X dX7_fewestLeaving_67 rfl (Nat.le_of_ble_eq_true rfl) rfl ?_
            exact z_sub [3, 4, 1, 0, 5] (J68 _ _ _ _ _ _) rfl
      have J42 : ∀ (y0 : Option Nat) (y1 : Int32) (y2 : Int32) (y3 : Int32) (y4 : Int32) (y5 : Int32) (st : zS), zs p l e (rmX7_fewestLeaving) s m args below meth c Q Z spX b x A 7 0 0 res (fX7_fewestLeaving_j42 (fX7_fewestLeaving_L8 n8) y0 y1 y2 y3 y4 y5 st) 42 [(0, vP y0), (1, vI y1), (2, vI y2), (3, vI y3), (4, vI y4), (5, vI y5)] [] st := by
        intro y0 y1 y2 y3 y4 y5 st
        rw [fX7_fewestLeaving_j42]
        refine z_iconst X (v := (0 : Int32)) dX7_fewestLeaving_42 (by decide) ?_
        exact z_sub [0, 1, 2, 3, 4, 5] (J43 _ _ _ _ _ _ _ _) rfl
      intro y0 y1 y2 y3 y4 st
      rw [fX7_fewestLeaving_L8]
      refine z_iload X (q := 4) dX7_fewestLeaving_8 rfl ?_
      refine z_sipush X (v := (4095 : Int32)) dX7_fewestLeaving_10 (by decide) ?_
      refine z_icmp_gt X (tgt := 74) dX7_fewestLeaving_13 (by decide) (fun _ => ?_) (fun _ => ?_)
      · refine z_iload_n X (q := 2) dX7_fewestLeaving_74 rfl rfl ?_
        subst hQ; exact z_iret X hlocks hr dX7_fewestLeaving_75
      · refine z_iload X (q := 4) dX7_fewestLeaving_16 rfl ?_
        refine z_callS X hK (As := [vI y4]) (kJ6_bitCount_0f7a4 l Z spX b x _ _) hk_X7_184 ⟨rfl, rfl⟩ hd_J6_bitCount_0f7a4.2 ⟨Nat.le_of_ble_eq_true rfl, Nat.le_of_ble_eq_true rfl⟩ ⟨Nat.le_of_ble_eq_true rfl, Nat.le_of_ble_eq_true rfl⟩ rfl rfl (Nat.le_of_ble_eq_true rfl) dX7_fewestLeaving_18 (fun q3 => ?_)
        refine z_name (fun v4 => ?_)
        refine z_istore X dX7_fewestLeaving_21 (Nat.le_of_ble_eq_true rfl) rfl ?_
        refine z_iload X (q := 0) dX7_fewestLeaving_23 rfl ?_
        refine z_iload_n X (q := 4) dX7_fewestLeaving_25 rfl rfl ?_
        refine z_icmp_ge X (tgt := 42) dX7_fewestLeaving_26 (by decide) (fun _ => ?_) (fun _ => ?_)
        · exact z_sub [1, 2, 3, 4, 5, 0] (J42 _ _ _ _ _ _ _) rfl
        · refine z_iload X (q := 5) dX7_fewestLeaving_29 rfl ?_
          refine z_iload_n X (q := 2) dX7_fewestLeaving_31 rfl rfl ?_
          refine z_ishr X dX7_fewestLeaving_32 ?_
          refine z_iconst X (v := (1 : Int32)) dX7_fewestLeaving_33 (by decide) ?_
          refine z_iand X dX7_fewestLeaving_34 ?_
          refine z_if_ne X (tgt := 42) dX7_fewestLeaving_35 (by decide) (fun _ => ?_) (fun _ => ?_)
          · exact z_sub [1, 2, 3, 4, 5, 0] (J42 _ _ _ _ _ _ _) rfl
          · refine z_iconst X (v := (1 : Int32)) dX7_fewestLeaving_38 (by decide) ?_
            refine z_goto X (tgt := 43) dX7_fewestLeaving_39 (by decide) ?_
            exact z_sub [1, 2, 3, 4, 5, 0] (J43 _ _ _ _ _ _ _ _) rfl
  rw [fX7_fewestLeaving]
  refine z_iconst X (v := (-1 : Int32)) dX7_fewestLeaving_0 (by decide) ?_
  refine z_istore_n X dX7_fewestLeaving_1 rfl (Nat.le_of_ble_eq_true rfl) rfl ?_
  refine z_bipush X (v := (13 : Int32)) dX7_fewestLeaving_2 (by decide) ?_
  refine z_istore_n X dX7_fewestLeaving_4 rfl (Nat.le_of_ble_eq_true rfl) rfl ?_
  refine z_iconst X (v := (1 : Int32)) dX7_fewestLeaving_5 (by decide) ?_
  refine z_istore X dX7_fewestLeaving_6 (Nat.le_of_ble_eq_true rfl) rfl ?_
  exact z_sub [3, 4, 2, 1, 0] (J8 _ _ _ _ _ _ _) rfl
abbrev rmX7_fillFewSets : Room := { frames := 2, cells := 0, slots := 0, locals := 60 }
def fX7_fillFewSets_j45 (this : Nat) (k4 : Int32 → Int32 → zS → Option (Unit × zS)) (k11 : Int32 → Int32 → Int32 → zS → Option (Unit × zS)) (y1 : Int32) (y2 : Int32) (y3 : Int32) (st : zS) : Option (Unit × zS) :=
  k11 y1 y2 (y3 + (1 : Int32)) st
def fX7_fillFewSets_L11 (this : Nat) (k4 : Int32 → Int32 → zS → Option (Unit × zS)) : Nat → Int32 → Int32 → Int32 → zS → Option (Unit × zS)
  | 0, _, _, _, _ => none
  | n + 1, y1, y2, y3, st => if (4095 : Int32) < y3 then (k4 y1 (y2 + (1 : Int32)) st) else ((fJ6_bitCount_0f7a4 y3 st).bind fun q1 => if q1.1 = y2 then ((zok spX q1.2 (some this) 7).bind fun o2 => (zla spX q1.2 (q1.2.2.2.2 o2 1)).bind fun o3 => if (Int32.ofNat (spX o3).2) ≤ y1 then (fX7_fillFewSets_j45 this k4 (fX7_fillFewSets_L11 this k4 n) y1 y2 y3 q1.2) else ((zok spX q1.2 (some this) 7).bind fun o4 => (zok spX q1.2 (q1.2.2.2.2 o4 1) 9).bind fun o5 => (zix spX o5 y1).bind fun j6 => zlet (zp q1.2 o5 j6 y3) fun st7 => fX7_fillFewSets_j45 this k4 (fX7_fillFewSets_L11 this k4 n) (y1 + (1 : Int32)) y2 y3 st7)) else (fX7_fillFewSets_j45 this k4 (fX7_fillFewSets_L11 this k4 n) y1 y2 y3 q1.2))
def fX7_fillFewSets_L4 (this : Nat) : Nat → Int32 → Int32 → zS → Option (Unit × zS)
  | 0, _, _, _ => none
  | n + 1, y1, y2, st => if (3 : Int32) < y2 then (some ((), st)) else (fX7_fillFewSets_L11 this (fX7_fillFewSets_L4 this n) zF y1 y2 (1 : Int32) st)
def fX7_fillFewSets (this : Nat) (st : zS) : Option (Unit × zS) :=
  fX7_fillFewSets_L4 this zF (0 : Int32) (1 : Int32) st
set_option maxRecDepth 100000 in
set_option maxHeartbeats 4000000 in
theorem kX7_fillFewSets (l : Launch) (Z : zZ) (b : Nat) (x : Option Nat) (this : Nat) (st : zS) : zC l Z spX b x yX7_fillFewSets (.code yX7_fillFewSets cX7_fillFewSets 4 none) (rmX7_fillFewSets) rV [vP (some this)] st (fX7_fillFewSets this st) := by
  refine z_start (own := RX7) rfl (by decide +kernel) (Nat.le_of_ble_eq_true rfl) rfl (fun p e s m args below meth c res Q A X hK hr hlocks hQ => ?_)
  have J4 : ∀ (n4 : Nat) (y1 : Int32) (y2 : Int32) (st : zS), zs p l e (rmX7_fillFewSets) s m args below meth c Q Z spX b x A 4 0 0 res (fX7_fillFewSets_L4 this n4 y1 y2 st) 4 [(0, vP (some this)), (1, vI y1), (2, vI y2)] [] st := by
    intro n4
    induction n4 with
    | zero => intros; exact z_none
    | succ n4 ih4 =>
      have J11 : ∀ (n11 : Nat) (y1 : Int32) (y2 : Int32) (y3 : Int32) (st : zS), zs p l e (rmX7_fillFewSets) s m args below meth c Q Z spX b x A 4 0 0 res (fX7_fillFewSets_L11 this (fX7_fillFewSets_L4 this n4) n11 y1 y2 y3 st) 11 [(0, vP (some this)), (1, vI y1), (2, vI y2), (3, vI y3)] [] st := by
        intro n11
        induction n11 with
        | zero => intros; exact z_none
        | succ n11 ih11 =>
          have J45 : ∀ (y1 : Int32) (y2 : Int32) (y3 : Int32) (st : zS), zs p l e (rmX7_fillFewSets) s m args below meth c Q Z spX b x A 4 0 0 res (fX7_fillFewSets_j45 this (fX7_fillFewSets_L4 this n4) (fX7_fillFewSets_L11 this (fX7_fillFewSets_L4 this n4) n11) y1 y2 y3 st) 45 [(0, vP (some this)), (1, vI y1), (2, vI y2), (3, vI y3)] [] st := by
            intro y1 y2 y3 st
            rw [fX7_fillFewSets_j45]
            refine z_iinc X (q := 3) (y := y3 + (1 : Int32)) dX7_fillFewSets_45 rfl rfl (Nat.le_of_ble_eq_true rfl) rfl ?_
            refine z_goto X (tgt := 11) dX7_fillFewSets_48 (by decide) ?_
            exact z_sub [1, 2, 3, 0] (ih11 _ _ _ _) rfl
          intro y1 y2 y3 st
          rw [fX7_fillFewSets_L11]
          refine z_iload_n X (q := 3) dX7_fillFewSets_11 rfl rfl ?_
          refine z_sipush X (v := (4095 : Int32)) dX7_fillFewSets_12 (by decide) ?_
          refine z_icmp_gt X (tgt := 51) dX7_fillFewSets_15 (by decide) (fun _ => ?_) (fun _ => ?_)
          · refine z_iinc X (q := 2) (y := y2 + (1 : Int32)) dX7_fillFewSets_51 rfl rfl (Nat.le_of_ble_eq_true rfl) rfl ?_
            refine z_goto X (tgt := 4) dX7_fillFewSets_54 (by decide) ?_
            exact z_sub [1, 2, 0] (ih4 _ _ _) rfl
          · refine z_iload_n X (q := 3) dX7_fillFewSets_18 rfl rfl ?_
            refine z_callS X hK (As := [vI y3]) (kJ6_bitCount_0f7a4 l Z spX b x _ _) hk_X7_184 ⟨rfl, rfl⟩ hd_J6_bitCount_0f7a4.2 ⟨Nat.le_of_ble_eq_true rfl, Nat.le_of_ble_eq_true rfl⟩ ⟨Nat.le_of_ble_eq_true rfl, Nat.le_of_ble_eq_true rfl⟩ rfl rfl (Nat.le_of_ble_eq_true rfl) dX7_fillFewSets_19 (fun q1 => ?_)
            refine z_iload_n X (q := 2) dX7_fillFewSets_22 rfl rfl ?_
            refine z_icmp_ne X (tgt := 45) dX7_fillFewSets_23 (by decide) (fun _ => ?_) (fun _ => ?_)
            · exact z_sub [0, 1, 2, 3] (J45 _ _ _ _) rfl
            · refine z_iload_n X (q := 1) dX7_fillFewSets_26 rfl rfl ?_
              refine z_aload_n X (q := 0) dX7_fillFewSets_27 rfl rfl ?_
              refine z_getr X hK (N := 14) (ci := 7) (k := 1) rfl (by decide) inlX7 (by decide) hf_X7_13 rfl spX_X7 rfl dX7_fillFewSets_28 (fun o2 _ => ?_)
              refine z_alen X hK dX7_fillFewSets_31 spX_14 (fun o3 _ => ?_)
              refine z_icmp_ge X (tgt := 45) dX7_fillFewSets_32 (by decide) (fun _ => ?_) (fun _ => ?_)
              · exact z_sub [0, 1, 2, 3] (J45 _ _ _ _) rfl
              · refine z_aload_n X (q := 0) dX7_fillFewSets_35 rfl rfl ?_
                refine z_getr X hK (N := 14) (ci := 7) (k := 1) rfl (by decide) inlX7 (by decide) hf_X7_13 rfl spX_X7 rfl dX7_fillFewSets_36 (fun o4 _ => ?_)
                refine z_iload_n X (q := 1) dX7_fillFewSets_39 rfl rfl ?_
                refine z_iload_n X (q := 3) dX7_fillFewSets_40 rfl rfl ?_
                refine z_iast X hK dX7_fillFewSets_41 (fun o5 j6 st7 _ _ => ?_)
                refine z_iinc X (q := 1) (y := y1 + (1 : Int32)) dX7_fillFewSets_42 rfl rfl (Nat.le_of_ble_eq_true rfl) rfl ?_
                exact z_sub [1, 0, 2, 3] (J45 _ _ _ _) rfl
      intro y1 y2 st
      rw [fX7_fillFewSets_L4]
      refine z_iload_n X (q := 2) dX7_fillFewSets_4 rfl rfl ?_
      refine z_iconst X (v := (3 : Int32)) dX7_fillFewSets_5 (by decide) ?_
      refine z_icmp_gt X (tgt := 57) dX7_fillFewSets_6 (by decide) (fun _ => ?_) (fun _ => ?_)
      · subst hQ; exact z_vret X hlocks hr dX7_fillFewSets_57
      · refine z_iconst X (v := (1 : Int32)) dX7_fillFewSets_9 (by decide) ?_
        refine z_istore_n X dX7_fillFewSets_10 rfl (Nat.le_of_ble_eq_true rfl) rfl ?_
        exact z_sub [1, 2, 3, 0] (J11 _ _ _ _ _) rfl
  rw [fX7_fillFewSets]
  refine z_iconst X (v := (0 : Int32)) dX7_fillFewSets_0 (by decide) ?_
  refine z_istore_n X dX7_fillFewSets_1 rfl (Nat.le_of_ble_eq_true rfl) rfl ?_
  refine z_iconst X (v := (1 : Int32)) dX7_fillFewSets_2 (by decide) ?_
  refine z_istore_n X dX7_fillFewSets_3 rfl (Nat.le_of_ble_eq_true rfl) rfl ?_
  exact z_sub [2, 1, 0] (J4 _ _ _ _) rfl
theorem zw_416 : Cond.methodLink RX7 256 yX3_become ∈ wsL_law := zr_45 _ (by decide +kernel)
theorem zw_417 : Cond.instanceMethod yX3_become ∈ wsL_law := zr_45 _ (by decide +kernel)
theorem zw_418 : Cond.selects RX3 yX3_become yX3_become ∈ wsL_law := zr_45 _ (by decide +kernel)
theorem zw_419 : Cond.code yX3_become cX3_become 4 none ∈ wsL_law := zr_45 _ (by decide +kernel)
theorem hk_X7_256 : ∀ w ∈ ([Cond.methodLink RX7 256 yX3_become, Cond.instanceMethod yX3_become, Cond.selects RX3 yX3_become yX3_become, Cond.initialized RX3, Cond.code yX3_become cX3_become 4 none] : List Cond), w ∈ wsL_law := List.forall_mem_cons.mpr ⟨zw_416, List.forall_mem_cons.mpr ⟨zw_417, List.forall_mem_cons.mpr ⟨zw_418, List.forall_mem_cons.mpr ⟨zw_350, List.forall_mem_cons.mpr ⟨zw_419, fun _ h => absurd h List.not_mem_nil⟩⟩⟩⟩⟩
theorem hd_X3_become : yX3_become.cls = RX3 ∧ yX3_become.cls ≠ "java/lang/invoke/MethodHandle" ∧ yX3_become.cls ≠ "java/lang/invoke/VarHandle" ∧ (parseMethodDescriptor yX3_become.desc).map (fun d => d.parameters.length) = some 2 := by decide +kernel
abbrev rmX7_film : Room := { frames := 5, cells := 0, slots := 0, locals := 136 }
def fX7_film_j73 (this : Nat) (k38 : Option Nat → Option Nat → Int32 → Int32 → zS → Option (Int32 × zS)) (y3 : Option Nat) (y4 : Option Nat) (y5 : Int32) (y6 : Int32) (st : zS) : Option (Int32 × zS) :=
  k38 y3 y4 y5 (y6 + (1 : Int32)) st
def fX7_film_L38 (this : Nat) : Nat → Option Nat → Option Nat → Int32 → Int32 → zS → Option (Int32 × zS)
  | 0, _, _, _, _, _ => none
  | n + 1, y3, y4, y5, y6, st => if (12 : Int32) ≤ y6 then (some (y5, st)) else ((zok spX st y4 6).bind fun o5 => (fX6_givenBy o5 ((1 : Int32) <<< (y6 &&& 31)) st).bind fun q1 => zlet (q1.1) fun v2 => (zok spX q1.2 y3 3).bind fun o4 => (fX3_put o4 y6 v2 q1.2).bind fun q3 => if v2 = (-1 : Int32) then (fX7_film_j73 this (fX7_film_L38 this n) y3 y4 y5 y6 q3.2) else (fX7_film_j73 this (fX7_film_L38 this n) y3 y4 (y5 + (1 : Int32)) y6 q3.2))
def fX7_film (this : Nat) (a1 : Int32) (a2 : Int32) (st : zS) : Option (Int32 × zS) :=
  (zok spX st (some this) 7).bind fun o11 => (fX7_sheetAt o11 a1 st).bind fun q6 => (zok spX q6.2 (some this) 7).bind fun o10 => (fX7_visitOf o10 a2 q6.2).bind fun q7 => if q6.1 = none then (some ((-2 : Int32), q7.2)) else (if q7.1 = none then (some ((-2 : Int32), q7.2)) else ((zok spX q7.2 q6.1 3).bind fun o9 => (fX3_become o9 (0 : Int32) (12 : Int32) q7.2).bind fun q8 => fX7_film_L38 this zF q6.1 q7.1 (0 : Int32) (0 : Int32) q8.2))
set_option maxRecDepth 100000 in
set_option maxHeartbeats 4000000 in
theorem kX7_film (l : Launch) (Z : zZ) (b : Nat) (x : Option Nat) (this : Nat) (a1 : Int32) (a2 : Int32) (st : zS) : zC l Z spX b x yX7_film (.code yX7_film cX7_film 8 (some .int)) (rmX7_film) rI [vP (some this), vI a1, vI a2] st (fX7_film this a1 a2 st) := by
  refine z_start (own := RX7) rfl (by decide +kernel) (Nat.le_of_ble_eq_true rfl) rfl (fun p e s m args below meth c res Q A X hK hr hlocks hQ => ?_)
  have J38 : ∀ (n38 : Nat) (y3 : Option Nat) (y4 : Option Nat) (y5 : Int32) (y6 : Int32) (st : zS), zs p l e (rmX7_film) s m args below meth c Q Z spX b x A 8 0 0 res (fX7_film_L38 this n38 y3 y4 y5 y6 st) 38 [(3, vP y3), (4, vP y4), (5, vI y5), (6, vI y6)] [] st := by
    intro n38
    induction n38 with
    | zero => intros; exact z_none
    | succ n38 ih38 =>
      have J73 : ∀ (y3 : Option Nat) (y4 : Option Nat) (y5 : Int32) (y6 : Int32) (st : zS), zs p l e (rmX7_film) s m args below meth c Q Z spX b x A 8 0 0 res (fX7_film_j73 this (fX7_film_L38 this n38) y3 y4 y5 y6 st) 73 [(3, vP y3), (4, vP y4), (5, vI y5), (6, vI y6)] [] st := by
        intro y3 y4 y5 y6 st
        rw [fX7_film_j73]
        refine z_iinc X (q := 3) (y := y6 + (1 : Int32)) dX7_film_73 rfl rfl (Nat.le_of_ble_eq_true rfl) rfl ?_
        refine z_goto X (tgt := 38) dX7_film_76 (by decide) ?_
        exact z_sub [1, 2, 3, 0] (ih38 _ _ _ _ _) rfl
      intro y3 y4 y5 y6 st
      rw [fX7_film_L38]
      refine z_iload X (q := 3) dX7_film_38 rfl ?_
      refine z_bipush X (v := (12 : Int32)) dX7_film_40 (by decide) ?_
      refine z_icmp_ge X (tgt := 79) dX7_film_42 (by decide) (fun _ => ?_) (fun _ => ?_)
      · refine z_iload X (q := 2) dX7_film_79 rfl ?_
        subst hQ; exact z_iret X hlocks hr dX7_film_81
      · refine z_aload X (q := 1) dX7_film_45 rfl ?_
        refine z_iconst X (v := (1 : Int32)) dX7_film_47 (by decide) ?_
        refine z_iload X (q := 3) dX7_film_48 rfl ?_
        refine z_ishl X dX7_film_50 ?_
        refine z_callV X hK (As := [vI ((1 : Int32) <<< (y6 &&& 31))]) (ci := 6) rfl (by decide) (fun o => (kX6_givenBy l Z  b x o _ _)) hk_X7_118 ⟨rfl, rfl⟩ hd_X6_givenBy ⟨Nat.le_of_ble_eq_true rfl, Nat.le_of_ble_eq_true rfl⟩ ⟨Nat.le_of_ble_eq_true rfl, Nat.le_of_ble_eq_true rfl⟩ rfl rfl (Nat.le_of_ble_eq_true rfl) dX7_film_51 (fun _ q1 _ => ?_)
        refine z_name (fun v2 => ?_)
        refine z_istore X dX7_film_54 (Nat.le_of_ble_eq_true rfl) rfl ?_
        refine z_aload_n X (q := 1) dX7_film_56 rfl rfl ?_
        refine z_iload X (q := 4) dX7_film_57 rfl ?_
        refine z_iload X (q := 0) dX7_film_59 rfl ?_
        refine z_callV X hK (As := [vI y6, vI v2]) (ci := 3) rfl (by decide) (fun o => (kX3_put l Z  b x o _ _ _)) hk_X7_259 ⟨rfl, rfl⟩ hd_X3_put ⟨Nat.le_of_ble_eq_true rfl, Nat.le_of_ble_eq_true rfl⟩ ⟨Nat.le_of_ble_eq_true rfl, Nat.le_of_ble_eq_true rfl⟩ rfl rfl (Nat.le_of_ble_eq_true rfl) dX7_film_61 (fun _ q3 _ => ?_)
        refine z_iload X (q := 0) dX7_film_64 rfl ?_
        refine z_iconst X (v := (-1 : Int32)) dX7_film_66 (by decide) ?_
        refine z_icmp_eq X (tgt := 73) dX7_film_67 (by decide) (fun _ => ?_) (fun _ => ?_)
        · exact z_sub [1, 2, 3, 4] (J73 _ _ _ _ _) rfl
        · refine z_iinc X (q := 3) (y := y5 + (1 : Int32)) dX7_film_70 rfl rfl (Nat.le_of_ble_eq_true rfl) rfl ?_
          exact z_sub [2, 3, 0, 4] (J73 _ _ _ _ _) rfl
  rw [fX7_film]
  refine z_aload_n X (q := 0) dX7_film_0 rfl rfl ?_
  refine z_iload_n X (q := 1) dX7_film_1 rfl rfl ?_
  refine z_callV X hK (As := [vI a1]) (ci := 7) rfl (by decide) (fun o => (kX7_sheetAt l Z  b x o _ _)) hk_X7_147 ⟨rfl, rfl⟩ hd_X7_sheetAt ⟨Nat.le_of_ble_eq_true rfl, Nat.le_of_ble_eq_true rfl⟩ ⟨Nat.le_of_ble_eq_true rfl, Nat.le_of_ble_eq_true rfl⟩ rfl rfl (Nat.le_of_ble_eq_true rfl) dX7_film_2 (fun _ q6 _ => ?_)
  refine z_astore_n X dX7_film_5 rfl (Nat.le_of_ble_eq_true rfl) rfl ?_
  refine z_aload_n X (q := 1) dX7_film_6 rfl rfl ?_
  refine z_iload_n X (q := 3) dX7_film_7 rfl rfl ?_
  refine z_callV X hK (As := [vI a2]) (ci := 7) rfl (by decide) (fun o => (kX7_visitOf l Z  b x o _ _)) hk_X7_108 ⟨rfl, rfl⟩ hd_X7_visitOf ⟨Nat.le_of_ble_eq_true rfl, Nat.le_of_ble_eq_true rfl⟩ ⟨Nat.le_of_ble_eq_true rfl, Nat.le_of_ble_eq_true rfl⟩ rfl rfl (Nat.le_of_ble_eq_true rfl) dX7_film_8 (fun _ q7 _ => ?_)
  refine z_astore X dX7_film_11 (Nat.le_of_ble_eq_true rfl) rfl ?_
  refine z_aload_n X (q := 1) dX7_film_13 rfl rfl ?_
  refine z_ifnull X (tgt := 22) dX7_film_14 (by decide) (fun _ => ?_) (fun _ => ?_)
  · refine z_bipush X (v := (-2 : Int32)) dX7_film_22 (by decide) ?_
    subst hQ; exact z_iret X hlocks hr dX7_film_24
  · refine z_aload X (q := 0) dX7_film_17 rfl ?_
    refine z_ifnonnull X (tgt := 25) dX7_film_19 (by decide) (fun _ => ?_) (fun _ => ?_)
    · refine z_aload_n X (q := 1) dX7_film_25 rfl rfl ?_
      refine z_iconst X (v := (0 : Int32)) dX7_film_26 (by decide) ?_
      refine z_bipush X (v := (12 : Int32)) dX7_film_27 (by decide) ?_
      refine z_callV X hK (As := [vI (0 : Int32), vI (12 : Int32)]) (ci := 3) rfl (by decide) (fun o => (kX3_become l Z  b x o _ _ _)) hk_X7_256 ⟨rfl, rfl⟩ hd_X3_become ⟨Nat.le_of_ble_eq_true rfl, Nat.le_of_ble_eq_true rfl⟩ ⟨Nat.le_of_ble_eq_true rfl, Nat.le_of_ble_eq_true rfl⟩ rfl rfl (Nat.le_of_ble_eq_true rfl) dX7_film_29 (fun _ q8 _ => ?_)
      refine z_iconst X (v := (0 : Int32)) dX7_film_32 (by decide) ?_
      refine z_istore X dX7_film_33 (Nat.le_of_ble_eq_true rfl) rfl ?_
      refine z_iconst X (v := (0 : Int32)) dX7_film_35 (by decide) ?_
      refine z_istore X dX7_film_36 (Nat.le_of_ble_eq_true rfl) rfl ?_
      exact z_sub [3, 2, 1, 0] (J38 _ _ _ _ _ _) rfl
    · refine z_bipush X (v := (-2 : Int32)) dX7_film_22 (by decide) ?_
      subst hQ; exact z_iret X hlocks hr dX7_film_24
abbrev rmX7_firstOther : Room := { frames := 5, cells := 0, slots := 0, locals := 136 }
def fX7_firstOther_L2 : Nat → Option Nat → Option Nat → Int32 → zS → Option (Int32 × zS)
  | 0, _, _, _, _ => none
  | n + 1, y0, y1, y2, st => (zok spX st y0 3).bind fun o1 => if (st.2.1 o1 2) ≤ y2 then (some ((-1 : Int32), st)) else (if (12 : Int32) ≤ y2 then (some ((-1 : Int32), st)) else ((zok spX st y0 3).bind fun o5 => (fX3_at o5 y2 st).bind fun q2 => (zok spX q2.2 y1 6).bind fun o4 => (fX6_givenBy o4 ((1 : Int32) <<< (y2 &&& 31)) q2.2).bind fun q3 => if q2.1 = q3.1 then ((fX7_firstOther_L2 n) y0 y1 (y2 + (1 : Int32)) q3.2) else (some (y2, q3.2))))
def fX7_firstOther (a0 : Option Nat) (a1 : Option Nat) (st : zS) : Option (Int32 × zS) :=
  fX7_firstOther_L2 zF a0 a1 (0 : Int32) st
set_option maxRecDepth 100000 in
set_option maxHeartbeats 4000000 in
theorem kX7_firstOther (l : Launch) (Z : zZ) (b : Nat) (x : Option Nat) (a0 : Option Nat) (a1 : Option Nat) (st : zS) : zC l Z spX b x yX7_firstOther (.code yX7_firstOther cX7_firstOther 3 (some .int)) (rmX7_firstOther) rI [vP a0, vP a1] st (fX7_firstOther a0 a1 st) := by
  refine z_start (own := RX7) rfl (by decide +kernel) (Nat.le_of_ble_eq_true rfl) rfl (fun p e s m args below meth c res Q A X hK hr hlocks hQ => ?_)
  have J2 : ∀ (n2 : Nat) (y0 : Option Nat) (y1 : Option Nat) (y2 : Int32) (st : zS), zs p l e (rmX7_firstOther) s m args below meth c Q Z spX b x A 3 0 0 res (fX7_firstOther_L2 n2 y0 y1 y2 st) 2 [(0, vP y0), (1, vP y1), (2, vI y2)] [] st := by
    intro n2
    induction n2 with
    | zero => intros; exact z_none
    | succ n2 ih2 =>
      intro y0 y1 y2 st
      rw [fX7_firstOther_L2]
      refine z_iload_n X (q := 2) dX7_firstOther_2 rfl rfl ?_
      refine z_aload_n X (q := 0) dX7_firstOther_3 rfl rfl ?_
      refine z_geti X hK (N := 3) (ci := 3) (k := 2) rfl (by decide) inlX3 (by decide) hf_X7_228 rfl spX_X3 rfl dX7_firstOther_4 (fun o1 _ => ?_)
      refine z_icmp_ge X (tgt := 39) dX7_firstOther_7 (by decide) (fun _ => ?_) (fun _ => ?_)
      · refine z_iconst X (v := (-1 : Int32)) dX7_firstOther_39 (by decide) ?_
        subst hQ; exact z_iret X hlocks hr dX7_firstOther_40
      · refine z_iload_n X (q := 2) dX7_firstOther_10 rfl rfl ?_
        refine z_bipush X (v := (12 : Int32)) dX7_firstOther_11 (by decide) ?_
        refine z_icmp_ge X (tgt := 39) dX7_firstOther_13 (by decide) (fun _ => ?_) (fun _ => ?_)
        · refine z_iconst X (v := (-1 : Int32)) dX7_firstOther_39 (by decide) ?_
          subst hQ; exact z_iret X hlocks hr dX7_firstOther_40
        · refine z_aload_n X (q := 0) dX7_firstOther_16 rfl rfl ?_
          refine z_iload_n X (q := 2) dX7_firstOther_17 rfl rfl ?_
          refine z_callV X hK (As := [vI y2]) (ci := 3) rfl (by decide) (fun o => (kX3_at l Z  b x o _ _)) hk_X7_293 ⟨rfl, rfl⟩ hd_X3_at ⟨Nat.le_of_ble_eq_true rfl, Nat.le_of_ble_eq_true rfl⟩ ⟨Nat.le_of_ble_eq_true rfl, Nat.le_of_ble_eq_true rfl⟩ rfl rfl (Nat.le_of_ble_eq_true rfl) dX7_firstOther_18 (fun _ q2 _ => ?_)
          refine z_aload_n X (q := 1) dX7_firstOther_21 rfl rfl ?_
          refine z_iconst X (v := (1 : Int32)) dX7_firstOther_22 (by decide) ?_
          refine z_iload_n X (q := 2) dX7_firstOther_23 rfl rfl ?_
          refine z_ishl X dX7_firstOther_24 ?_
          refine z_callV X hK (As := [vI ((1 : Int32) <<< (y2 &&& 31))]) (ci := 6) rfl (by decide) (fun o => (kX6_givenBy l Z  b x o _ _)) hk_X7_118 ⟨rfl, rfl⟩ hd_X6_givenBy ⟨Nat.le_of_ble_eq_true rfl, Nat.le_of_ble_eq_true rfl⟩ ⟨Nat.le_of_ble_eq_true rfl, Nat.le_of_ble_eq_true rfl⟩ rfl rfl (Nat.le_of_ble_eq_true rfl) dX7_firstOther_25 (fun _ q3 _ => ?_)
          refine z_icmp_eq X (tgt := 33) dX7_firstOther_28 (by decide) (fun _ => ?_) (fun _ => ?_)
          · refine z_iinc X (q := 2) (y := y2 + (1 : Int32)) dX7_firstOther_33 rfl rfl (Nat.le_of_ble_eq_true rfl) rfl ?_
            refine z_goto X (tgt := 2) dX7_firstOther_36 (by decide) ?_
            exact z_sub [1, 2, 0] (ih2 _ _ _ _) rfl
          · refine z_iload_n X (q := 2) dX7_firstOther_31 rfl rfl ?_
            subst hQ; exact z_iret X hlocks hr dX7_firstOther_32
  rw [fX7_firstOther]
  refine z_iconst X (v := (0 : Int32)) dX7_firstOther_0 (by decide) ?_
  refine z_istore_n X dX7_firstOther_1 rfl (Nat.le_of_ble_eq_true rfl) rfl ?_
  exact z_sub [1, 2, 0] (J2 _ _ _ _ _) rfl
theorem zw_420 : Cond.methodLink RX7 231 yX7_firstOther ∈ wsL_law := zr_43 _ (by decide +kernel)
theorem zw_421 : Cond.static yX7_firstOther ∈ wsL_law := zr_43 _ (by decide +kernel)
theorem zw_422 : Cond.code yX7_firstOther cX7_firstOther 3 (some .int) ∈ wsL_law := zr_43 _ (by decide +kernel)
theorem hk_X7_231 : ∀ w ∈ ([Cond.methodLink RX7 231 yX7_firstOther, Cond.static yX7_firstOther, Cond.initialized RX7, Cond.code yX7_firstOther cX7_firstOther 3 (some .int)] : List Cond), w ∈ wsL_law := List.forall_mem_cons.mpr ⟨zw_420, List.forall_mem_cons.mpr ⟨zw_421, List.forall_mem_cons.mpr ⟨zw_322, List.forall_mem_cons.mpr ⟨zw_422, fun _ h => absurd h List.not_mem_nil⟩⟩⟩⟩
theorem hd_X7_firstOther : yX7_firstOther.cls = RX7 ∧ yX7_firstOther.cls ≠ "java/lang/invoke/MethodHandle" ∧ yX7_firstOther.cls ≠ "java/lang/invoke/VarHandle" ∧ (parseMethodDescriptor yX7_firstOther.desc).map (fun d => d.parameters.length) = some 2 := by decide +kernel
abbrev rmX7_firstFittingDay : Room := { frames := 6, cells := 0, slots := 0, locals := 158 }
def fX7_firstFittingDay_L2 : Nat → Option Nat → Option Nat → Int32 → zS → Option (Int32 × zS)
  | 0, _, _, _, _ => none
  | n + 1, y0, y1, y2, st => if (100 : Int32) ≤ y2 then (some ((-1 : Int32), st)) else ((zok spX st y1 6).bind fun o1 => zlet (zp st o1 9 y2) fun st2 => (fX7_firstOther y0 y1 st2).bind fun q3 => if q3.1 = (-1 : Int32) then (some (y2, q3.2)) else ((fX7_firstFittingDay_L2 n) y0 y1 (y2 + (1 : Int32)) q3.2))
def fX7_firstFittingDay (a0 : Option Nat) (a1 : Option Nat) (st : zS) : Option (Int32 × zS) :=
  fX7_firstFittingDay_L2 zF a0 a1 (0 : Int32) st
set_option maxRecDepth 100000 in
set_option maxHeartbeats 4000000 in
theorem kX7_firstFittingDay (l : Launch) (Z : zZ) (b : Nat) (x : Option Nat) (a0 : Option Nat) (a1 : Option Nat) (st : zS) : zC l Z spX b x yX7_firstFittingDay (.code yX7_firstFittingDay cX7_firstFittingDay 3 (some .int)) (rmX7_firstFittingDay) rI [vP a0, vP a1] st (fX7_firstFittingDay a0 a1 st) := by
  refine z_start (own := RX7) rfl (by decide +kernel) (Nat.le_of_ble_eq_true rfl) rfl (fun p e s m args below meth c res Q A X hK hr hlocks hQ => ?_)
  have J2 : ∀ (n2 : Nat) (y0 : Option Nat) (y1 : Option Nat) (y2 : Int32) (st : zS), zs p l e (rmX7_firstFittingDay) s m args below meth c Q Z spX b x A 3 0 0 res (fX7_firstFittingDay_L2 n2 y0 y1 y2 st) 2 [(0, vP y0), (1, vP y1), (2, vI y2)] [] st := by
    intro n2
    induction n2 with
    | zero => intros; exact z_none
    | succ n2 ih2 =>
      intro y0 y1 y2 st
      rw [fX7_firstFittingDay_L2]
      refine z_iload_n X (q := 2) dX7_firstFittingDay_2 rfl rfl ?_
      refine z_bipush X (v := (100 : Int32)) dX7_firstFittingDay_3 (by decide) ?_
      refine z_icmp_ge X (tgt := 30) dX7_firstFittingDay_5 (by decide) (fun _ => ?_) (fun _ => ?_)
      · refine z_iconst X (v := (-1 : Int32)) dX7_firstFittingDay_30 (by decide) ?_
        subst hQ; exact z_iret X hlocks hr dX7_firstFittingDay_31
      · refine z_aload_n X (q := 1) dX7_firstFittingDay_8 rfl rfl ?_
        refine z_iload_n X (q := 2) dX7_firstFittingDay_9 rfl rfl ?_
        refine z_puti X hK (N := 15) (ci := 6) (k := 9) rfl (by decide) inlX6 tyX6 tyX6_ok nmX6 (by decide) hf_X7_315 rfl rfl spX_X6 rfl (by decide +kernel) dX7_firstFittingDay_10 (fun o1 st2 _ => ?_)
        refine z_aload_n X (q := 0) dX7_firstFittingDay_13 rfl rfl ?_
        refine z_aload_n X (q := 1) dX7_firstFittingDay_14 rfl rfl ?_
        refine z_callS X hK (As := [vP y0, vP y1]) (kX7_firstOther l Z  b x _ _ _) hk_X7_231 ⟨rfl, rfl⟩ hd_X7_firstOther.2 ⟨Nat.le_of_ble_eq_true rfl, Nat.le_of_ble_eq_true rfl⟩ ⟨Nat.le_of_ble_eq_true rfl, Nat.le_of_ble_eq_true rfl⟩ rfl rfl (Nat.le_of_ble_eq_true rfl) dX7_firstFittingDay_15 (fun q3 => ?_)
        refine z_iconst X (v := (-1 : Int32)) dX7_firstFittingDay_18 (by decide) ?_
        refine z_icmp_ne X (tgt := 24) dX7_firstFittingDay_19 (by decide) (fun _ => ?_) (fun _ => ?_)
        · refine z_iinc X (q := 2) (y := y2 + (1 : Int32)) dX7_firstFittingDay_24 rfl rfl (Nat.le_of_ble_eq_true rfl) rfl ?_
          refine z_goto X (tgt := 2) dX7_firstFittingDay_27 (by decide) ?_
          exact z_sub [1, 2, 0] (ih2 _ _ _ _) rfl
        · refine z_iload_n X (q := 2) dX7_firstFittingDay_22 rfl rfl ?_
          subst hQ; exact z_iret X hlocks hr dX7_firstFittingDay_23
  rw [fX7_firstFittingDay]
  refine z_iconst X (v := (0 : Int32)) dX7_firstFittingDay_0 (by decide) ?_
  refine z_istore_n X dX7_firstFittingDay_1 rfl (Nat.le_of_ble_eq_true rfl) rfl ?_
  exact z_sub [1, 2, 0] (J2 _ _ _ _ _) rfl
abbrev rmX7_fittingAskers : Room := { frames := 6, cells := 0, slots := 0, locals := 158 }
def fX7_fittingAskers_j37 (this : Nat) (k4 : Option Nat → Int32 → Int32 → zS → Option (Int32 × zS)) (y1 : Option Nat) (y2 : Int32) (y3 : Int32) (st : zS) : Option (Int32 × zS) :=
  k4 y1 y2 (y3 + (1 : Int32)) st
def fX7_fittingAskers_L4 (this : Nat) : Nat → Option Nat → Int32 → Int32 → zS → Option (Int32 × zS)
  | 0, _, _, _, _ => none
  | n + 1, y1, y2, y3, st => if (5 : Int32) ≤ y3 then (some (y2, st)) else ((zok spX st (some this) 7).bind fun o4 => (fX7_visitOf o4 y3 st).bind fun q1 => if q1.1 = none then (fX7_fittingAskers_j37 this (fX7_fittingAskers_L4 this n) y1 y2 y3 q1.2) else ((fX7_firstOther y1 q1.1 q1.2).bind fun q2 => if q2.1 = (-1 : Int32) then (zlet ((y2 ||| ((1 : Int32) <<< (y3 &&& 31)))) fun v3 => fX7_fittingAskers_j37 this (fX7_fittingAskers_L4 this n) y1 v3 y3 q2.2) else (fX7_fittingAskers_j37 this (fX7_fittingAskers_L4 this n) y1 y2 y3 q2.2)))
def fX7_fittingAskers (this : Nat) (a1 : Option Nat) (st : zS) : Option (Int32 × zS) :=
  fX7_fittingAskers_L4 this zF a1 (0 : Int32) (0 : Int32) st
set_option maxRecDepth 100000 in
set_option maxHeartbeats 4000000 in
theorem kX7_fittingAskers (l : Launch) (Z : zZ) (b : Nat) (x : Option Nat) (this : Nat) (a1 : Option Nat) (st : zS) : zC l Z spX b x yX7_fittingAskers (.code yX7_fittingAskers cX7_fittingAskers 5 (some .int)) (rmX7_fittingAskers) rI [vP (some this), vP a1] st (fX7_fittingAskers this a1 st) := by
  refine z_start (own := RX7) rfl (by decide +kernel) (Nat.le_of_ble_eq_true rfl) rfl (fun p e s m args below meth c res Q A X hK hr hlocks hQ => ?_)
  have J4 : ∀ (n4 : Nat) (y1 : Option Nat) (y2 : Int32) (y3 : Int32) (st : zS), zs p l e (rmX7_fittingAskers) s m args below meth c Q Z spX b x A 5 0 0 res (fX7_fittingAskers_L4 this n4 y1 y2 y3 st) 4 [(0, vP (some this)), (1, vP y1), (2, vI y2), (3, vI y3)] [] st := by
    intro n4
    induction n4 with
    | zero => intros; exact z_none
    | succ n4 ih4 =>
      have J37 : ∀ (y1 : Option Nat) (y2 : Int32) (y3 : Int32) (st : zS), zs p l e (rmX7_fittingAskers) s m args below meth c Q Z spX b x A 5 0 0 res (fX7_fittingAskers_j37 this (fX7_fittingAskers_L4 this n4) y1 y2 y3 st) 37 [(0, vP (some this)), (1, vP y1), (2, vI y2), (3, vI y3)] [] st := by
        intro y1 y2 y3 st
        rw [fX7_fittingAskers_j37]
        refine z_iinc X (q := 3) (y := y3 + (1 : Int32)) dX7_fittingAskers_37 rfl rfl (Nat.le_of_ble_eq_true rfl) rfl ?_
        refine z_goto X (tgt := 4) dX7_fittingAskers_40 (by decide) ?_
        exact z_sub [1, 2, 3, 0] (ih4 _ _ _ _) rfl
      intro y1 y2 y3 st
      rw [fX7_fittingAskers_L4]
      refine z_iload_n X (q := 3) dX7_fittingAskers_4 rfl rfl ?_
      refine z_iconst X (v := (5 : Int32)) dX7_fittingAskers_5 (by decide) ?_
      refine z_icmp_ge X (tgt := 43) dX7_fittingAskers_6 (by decide) (fun _ => ?_) (fun _ => ?_)
      · refine z_iload_n X (q := 2) dX7_fittingAskers_43 rfl rfl ?_
        subst hQ; exact z_iret X hlocks hr dX7_fittingAskers_44
      · refine z_aload_n X (q := 0) dX7_fittingAskers_9 rfl rfl ?_
        refine z_iload_n X (q := 3) dX7_fittingAskers_10 rfl rfl ?_
        refine z_callV X hK (As := [vI y3]) (ci := 7) rfl (by decide) (fun o => (kX7_visitOf l Z  b x o _ _)) hk_X7_108 ⟨rfl, rfl⟩ hd_X7_visitOf ⟨Nat.le_of_ble_eq_true rfl, Nat.le_of_ble_eq_true rfl⟩ ⟨Nat.le_of_ble_eq_true rfl, Nat.le_of_ble_eq_true rfl⟩ rfl rfl (Nat.le_of_ble_eq_true rfl) dX7_fittingAskers_11 (fun _ q1 _ => ?_)
        refine z_astore X dX7_fittingAskers_14 (Nat.le_of_ble_eq_true rfl) rfl ?_
        refine z_aload X (q := 0) dX7_fittingAskers_16 rfl ?_
        refine z_ifnull X (tgt := 37) dX7_fittingAskers_18 (by decide) (fun _ => ?_) (fun _ => ?_)
        · exact z_sub [1, 2, 3, 4] (J37 _ _ _ _) rfl
        · refine z_aload_n X (q := 2) dX7_fittingAskers_21 rfl rfl ?_
          refine z_aload X (q := 0) dX7_fittingAskers_22 rfl ?_
          refine z_callS X hK (As := [vP y1, vP q1.1]) (kX7_firstOther l Z  b x _ _ _) hk_X7_231 ⟨rfl, rfl⟩ hd_X7_firstOther.2 ⟨Nat.le_of_ble_eq_true rfl, Nat.le_of_ble_eq_true rfl⟩ ⟨Nat.le_of_ble_eq_true rfl, Nat.le_of_ble_eq_true rfl⟩ rfl rfl (Nat.le_of_ble_eq_true rfl) dX7_fittingAskers_24 (fun q2 => ?_)
          refine z_iconst X (v := (-1 : Int32)) dX7_fittingAskers_27 (by decide) ?_
          refine z_icmp_ne X (tgt := 37) dX7_fittingAskers_28 (by decide) (fun _ => ?_) (fun _ => ?_)
          · exact z_sub [1, 2, 3, 4] (J37 _ _ _ _) rfl
          · refine z_iload_n X (q := 3) dX7_fittingAskers_31 rfl rfl ?_
            refine z_iconst X (v := (1 : Int32)) dX7_fittingAskers_32 (by decide) ?_
            refine z_iload_n X (q := 4) dX7_fittingAskers_33 rfl rfl ?_
            refine z_ishl X dX7_fittingAskers_34 ?_
            refine z_ior X dX7_fittingAskers_35 ?_
            refine z_name (fun v3 => ?_)
            refine z_istore_n X dX7_fittingAskers_36 rfl (Nat.le_of_ble_eq_true rfl) rfl ?_
            exact z_sub [2, 3, 0, 4] (J37 _ _ _ _) rfl
  rw [fX7_fittingAskers]
  refine z_iconst X (v := (0 : Int32)) dX7_fittingAskers_0 (by decide) ?_
  refine z_istore_n X dX7_fittingAskers_1 rfl (Nat.le_of_ble_eq_true rfl) rfl ?_
  refine z_iconst X (v := (0 : Int32)) dX7_fittingAskers_2 (by decide) ?_
  refine z_istore_n X dX7_fittingAskers_3 rfl (Nat.le_of_ble_eq_true rfl) rfl ?_
  exact z_sub [2, 3, 1, 0] (J4 _ _ _ _ _) rfl
abbrev rmX7_fittingDays : Room := { frames := 6, cells := 0, slots := 0, locals := 158 }
def fX7_fittingDays_j27 (k4 : Option Nat → Option Nat → Int32 → Int32 → zS → Option (Int32 × zS)) (y0 : Option Nat) (y1 : Option Nat) (y2 : Int32) (y3 : Int32) (st : zS) : Option (Int32 × zS) :=
  k4 y0 y1 y2 (y3 + (1 : Int32)) st
def fX7_fittingDays_L4 : Nat → Option Nat → Option Nat → Int32 → Int32 → zS → Option (Int32 × zS)
  | 0, _, _, _, _, _ => none
  | n + 1, y0, y1, y2, y3, st => if (100 : Int32) ≤ y3 then (some (y2, st)) else ((zok spX st y1 6).bind fun o1 => zlet (zp st o1 9 y3) fun st2 => (fX7_firstOther y0 y1 st2).bind fun q3 => if q3.1 = (-1 : Int32) then (fX7_fittingDays_j27 (fX7_fittingDays_L4 n) y0 y1 (y2 + (1 : Int32)) y3 q3.2) else (fX7_fittingDays_j27 (fX7_fittingDays_L4 n) y0 y1 y2 y3 q3.2))
def fX7_fittingDays (a0 : Option Nat) (a1 : Option Nat) (st : zS) : Option (Int32 × zS) :=
  fX7_fittingDays_L4 zF a0 a1 (0 : Int32) (0 : Int32) st
set_option maxRecDepth 100000 in
set_option maxHeartbeats 4000000 in
theorem kX7_fittingDays (l : Launch) (Z : zZ) (b : Nat) (x : Option Nat) (a0 : Option Nat) (a1 : Option Nat) (st : zS) : zC l Z spX b x yX7_fittingDays (.code yX7_fittingDays cX7_fittingDays 4 (some .int)) (rmX7_fittingDays) rI [vP a0, vP a1] st (fX7_fittingDays a0 a1 st) := by
  refine z_start (own := RX7) rfl (by decide +kernel) (Nat.le_of_ble_eq_true rfl) rfl (fun p e s m args below meth c res Q A X hK hr hlocks hQ => ?_)
  have J4 : ∀ (n4 : Nat) (y0 : Option Nat) (y1 : Option Nat) (y2 : Int32) (y3 : Int32) (st : zS), zs p l e (rmX7_fittingDays) s m args below meth c Q Z spX b x A 4 0 0 res (fX7_fittingDays_L4 n4 y0 y1 y2 y3 st) 4 [(0, vP y0), (1, vP y1), (2, vI y2), (3, vI y3)] [] st := by
    intro n4
    induction n4 with
    | zero => intros; exact z_none
    | succ n4 ih4 =>
      have J27 : ∀ (y0 : Option Nat) (y1 : Option Nat) (y2 : Int32) (y3 : Int32) (st : zS), zs p l e (rmX7_fittingDays) s m args below meth c Q Z spX b x A 4 0 0 res (fX7_fittingDays_j27 (fX7_fittingDays_L4 n4) y0 y1 y2 y3 st) 27 [(0, vP y0), (1, vP y1), (2, vI y2), (3, vI y3)] [] st := by
        intro y0 y1 y2 y3 st
        rw [fX7_fittingDays_j27]
        refine z_iinc X (q := 3) (y := y3 + (1 : Int32)) dX7_fittingDays_27 rfl rfl (Nat.le_of_ble_eq_true rfl) rfl ?_
        refine z_goto X (tgt := 4) dX7_fittingDays_30 (by decide) ?_
        exact z_sub [1, 2, 3, 0] (ih4 _ _ _ _ _) rfl
      intro y0 y1 y2 y3 st
      rw [fX7_fittingDays_L4]
      refine z_iload_n X (q := 3) dX7_fittingDays_4 rfl rfl ?_
      refine z_bipush X (v := (100 : Int32)) dX7_fittingDays_5 (by decide) ?_
      refine z_icmp_ge X (tgt := 33) dX7_fittingDays_7 (by decide) (fun _ => ?_) (fun _ => ?_)
      · refine z_iload_n X (q := 2) dX7_fittingDays_33 rfl rfl ?_
        subst hQ; exact z_iret X hlocks hr dX7_fittingDays_34
      · refine z_aload_n X (q := 1) dX7_fittingDays_10 rfl rfl ?_
        refine z_iload_n X (q := 3) dX7_fittingDays_11 rfl rfl ?_
        refine z_puti X hK (N := 15) (ci := 6) (k := 9) rfl (by decide) inlX6 tyX6 tyX6_ok nmX6 (by decide) hf_X7_315 rfl rfl spX_X6 rfl (by decide +kernel) dX7_fittingDays_12 (fun o1 st2 _ => ?_)
        refine z_aload_n X (q := 0) dX7_fittingDays_15 rfl rfl ?_
        refine z_aload_n X (q := 1) dX7_fittingDays_16 rfl rfl ?_
        refine z_callS X hK (As := [vP y0, vP y1]) (kX7_firstOther l Z  b x _ _ _) hk_X7_231 ⟨rfl, rfl⟩ hd_X7_firstOther.2 ⟨Nat.le_of_ble_eq_true rfl, Nat.le_of_ble_eq_true rfl⟩ ⟨Nat.le_of_ble_eq_true rfl, Nat.le_of_ble_eq_true rfl⟩ rfl rfl (Nat.le_of_ble_eq_true rfl) dX7_fittingDays_17 (fun q3 => ?_)
        refine z_iconst X (v := (-1 : Int32)) dX7_fittingDays_20 (by decide) ?_
        refine z_icmp_ne X (tgt := 27) dX7_fittingDays_21 (by decide) (fun _ => ?_) (fun _ => ?_)
        · exact z_sub [0, 1, 2, 3] (J27 _ _ _ _ _) rfl
        · refine z_iinc X (q := 2) (y := y2 + (1 : Int32)) dX7_fittingDays_24 rfl rfl (Nat.le_of_ble_eq_true rfl) rfl ?_
          exact z_sub [1, 2, 0, 3] (J27 _ _ _ _ _) rfl
  rw [fX7_fittingDays]
  refine z_iconst X (v := (0 : Int32)) dX7_fittingDays_0 (by decide) ?_
  refine z_istore_n X dX7_fittingDays_1 rfl (Nat.le_of_ble_eq_true rfl) rfl ?_
  refine z_iconst X (v := (0 : Int32)) dX7_fittingDays_2 (by decide) ?_
  refine z_istore_n X dX7_fittingDays_3 rfl (Nat.le_of_ble_eq_true rfl) rfl ?_
  exact z_sub [2, 3, 1, 0] (J4 _ _ _ _ _ _) rfl
theorem zw_423 : Cond.fieldLink RX7 313 "WellGivesOther$Visit" "kind" "I" ∈ wsL_law := zr_43 _ (by decide +kernel)
theorem hf_X7_313 : Cond.fieldLink RX7 313 "WellGivesOther$Visit" "kind" "I" ∈ wsL_law := zw_423
abbrev rmX7_fittingKinds : Room := { frames := 6, cells := 0, slots := 0, locals := 158 }
def fX7_fittingKinds_j30 (k4 : Option Nat → Option Nat → Int32 → Int32 → zS → Option (Int32 × zS)) (y0 : Option Nat) (y1 : Option Nat) (y2 : Int32) (y3 : Int32) (st : zS) : Option (Int32 × zS) :=
  k4 y0 y1 y2 (y3 + (1 : Int32)) st
def fX7_fittingKinds_L4 : Nat → Option Nat → Option Nat → Int32 → Int32 → zS → Option (Int32 × zS)
  | 0, _, _, _, _, _ => none
  | n + 1, y0, y1, y2, y3, st => if (6 : Int32) ≤ y3 then (some (y2, st)) else ((zok spX st y1 6).bind fun o1 => zlet (zp st o1 3 y3) fun st2 => (fX7_firstOther y0 y1 st2).bind fun q3 => if q3.1 = (-1 : Int32) then (zlet ((y2 ||| ((1 : Int32) <<< (y3 &&& 31)))) fun v4 => fX7_fittingKinds_j30 (fX7_fittingKinds_L4 n) y0 y1 v4 y3 q3.2) else (fX7_fittingKinds_j30 (fX7_fittingKinds_L4 n) y0 y1 y2 y3 q3.2))
def fX7_fittingKinds (a0 : Option Nat) (a1 : Option Nat) (st : zS) : Option (Int32 × zS) :=
  fX7_fittingKinds_L4 zF a0 a1 (0 : Int32) (0 : Int32) st
set_option maxRecDepth 100000 in
set_option maxHeartbeats 4000000 in
theorem kX7_fittingKinds (l : Launch) (Z : zZ) (b : Nat) (x : Option Nat) (a0 : Option Nat) (a1 : Option Nat) (st : zS) : zC l Z spX b x yX7_fittingKinds (.code yX7_fittingKinds cX7_fittingKinds 4 (some .int)) (rmX7_fittingKinds) rI [vP a0, vP a1] st (fX7_fittingKinds a0 a1 st) := by
  refine z_start (own := RX7) rfl (by decide +kernel) (Nat.le_of_ble_eq_true rfl) rfl (fun p e s m args below meth c res Q A X hK hr hlocks hQ => ?_)
  have J4 : ∀ (n4 : Nat) (y0 : Option Nat) (y1 : Option Nat) (y2 : Int32) (y3 : Int32) (st : zS), zs p l e (rmX7_fittingKinds) s m args below meth c Q Z spX b x A 4 0 0 res (fX7_fittingKinds_L4 n4 y0 y1 y2 y3 st) 4 [(0, vP y0), (1, vP y1), (2, vI y2), (3, vI y3)] [] st := by
    intro n4
    induction n4 with
    | zero => intros; exact z_none
    | succ n4 ih4 =>
      have J30 : ∀ (y0 : Option Nat) (y1 : Option Nat) (y2 : Int32) (y3 : Int32) (st : zS), zs p l e (rmX7_fittingKinds) s m args below meth c Q Z spX b x A 4 0 0 res (fX7_fittingKinds_j30 (fX7_fittingKinds_L4 n4) y0 y1 y2 y3 st) 30 [(0, vP y0), (1, vP y1), (2, vI y2), (3, vI y3)] [] st := by
        intro y0 y1 y2 y3 st
        rw [fX7_fittingKinds_j30]
        refine z_iinc X (q := 3) (y := y3 + (1 : Int32)) dX7_fittingKinds_30 rfl rfl (Nat.le_of_ble_eq_true rfl) rfl ?_
        refine z_goto X (tgt := 4) dX7_fittingKinds_33 (by decide) ?_
        exact z_sub [1, 2, 3, 0] (ih4 _ _ _ _ _) rfl
      intro y0 y1 y2 y3 st
      rw [fX7_fittingKinds_L4]
      refine z_iload_n X (q := 3) dX7_fittingKinds_4 rfl rfl ?_
      refine z_bipush X (v := (6 : Int32)) dX7_fittingKinds_5 (by decide) ?_
      refine z_icmp_ge X (tgt := 36) dX7_fittingKinds_7 (by decide) (fun _ => ?_) (fun _ => ?_)
      · refine z_iload_n X (q := 2) dX7_fittingKinds_36 rfl rfl ?_
        subst hQ; exact z_iret X hlocks hr dX7_fittingKinds_37
      · refine z_aload_n X (q := 1) dX7_fittingKinds_10 rfl rfl ?_
        refine z_iload_n X (q := 3) dX7_fittingKinds_11 rfl rfl ?_
        refine z_puti X hK (N := 15) (ci := 6) (k := 3) rfl (by decide) inlX6 tyX6 tyX6_ok nmX6 (by decide) hf_X7_313 rfl rfl spX_X6 rfl (by decide +kernel) dX7_fittingKinds_12 (fun o1 st2 _ => ?_)
        refine z_aload_n X (q := 0) dX7_fittingKinds_15 rfl rfl ?_
        refine z_aload_n X (q := 1) dX7_fittingKinds_16 rfl rfl ?_
        refine z_callS X hK (As := [vP y0, vP y1]) (kX7_firstOther l Z  b x _ _ _) hk_X7_231 ⟨rfl, rfl⟩ hd_X7_firstOther.2 ⟨Nat.le_of_ble_eq_true rfl, Nat.le_of_ble_eq_true rfl⟩ ⟨Nat.le_of_ble_eq_true rfl, Nat.le_of_ble_eq_true rfl⟩ rfl rfl (Nat.le_of_ble_eq_true rfl) dX7_fittingKinds_17 (fun q3 => ?_)
        refine z_iconst X (v := (-1 : Int32)) dX7_fittingKinds_20 (by decide) ?_
        refine z_icmp_ne X (tgt := 30) dX7_fittingKinds_21 (by decide) (fun _ => ?_) (fun _ => ?_)
        · exact z_sub [0, 1, 2, 3] (J30 _ _ _ _ _) rfl
        · refine z_iload_n X (q := 2) dX7_fittingKinds_24 rfl rfl ?_
          refine z_iconst X (v := (1 : Int32)) dX7_fittingKinds_25 (by decide) ?_
          refine z_iload_n X (q := 3) dX7_fittingKinds_26 rfl rfl ?_
          refine z_ishl X dX7_fittingKinds_27 ?_
          refine z_ior X dX7_fittingKinds_28 ?_
          refine z_name (fun v4 => ?_)
          refine z_istore_n X dX7_fittingKinds_29 rfl (Nat.le_of_ble_eq_true rfl) rfl ?_
          exact z_sub [1, 2, 0, 3] (J30 _ _ _ _ _) rfl
  rw [fX7_fittingKinds]
  refine z_iconst X (v := (0 : Int32)) dX7_fittingKinds_0 (by decide) ?_
  refine z_istore_n X dX7_fittingKinds_1 rfl (Nat.le_of_ble_eq_true rfl) rfl ?_
  refine z_iconst X (v := (0 : Int32)) dX7_fittingKinds_2 (by decide) ?_
  refine z_istore_n X dX7_fittingKinds_3 rfl (Nat.le_of_ble_eq_true rfl) rfl ?_
  exact z_sub [2, 3, 1, 0] (J4 _ _ _ _ _ _) rfl
theorem zw_424 : Cond.fieldLink RX7 314 "WellGivesOther$Visit" "number" "I" ∈ wsL_law := zr_43 _ (by decide +kernel)
theorem hf_X7_314 : Cond.fieldLink RX7 314 "WellGivesOther$Visit" "number" "I" ∈ wsL_law := zw_424
abbrev rmX7_fittingNumbers : Room := { frames := 6, cells := 0, slots := 0, locals := 158 }
def fX7_fittingNumbers_j30 (k4 : Option Nat → Option Nat → Int32 → Int32 → zS → Option (Int32 × zS)) (y0 : Option Nat) (y1 : Option Nat) (y2 : Int32) (y3 : Int32) (st : zS) : Option (Int32 × zS) :=
  k4 y0 y1 y2 (y3 + (1 : Int32)) st
def fX7_fittingNumbers_L4 : Nat → Option Nat → Option Nat → Int32 → Int32 → zS → Option (Int32 × zS)
  | 0, _, _, _, _, _ => none
  | n + 1, y0, y1, y2, y3, st => if (9 : Int32) < y3 then (some (y2, st)) else ((zok spX st y1 6).bind fun o1 => zlet (zp st o1 4 y3) fun st2 => (fX7_firstOther y0 y1 st2).bind fun q3 => if q3.1 = (-1 : Int32) then (zlet ((y2 ||| ((1 : Int32) <<< (y3 &&& 31)))) fun v4 => fX7_fittingNumbers_j30 (fX7_fittingNumbers_L4 n) y0 y1 v4 y3 q3.2) else (fX7_fittingNumbers_j30 (fX7_fittingNumbers_L4 n) y0 y1 y2 y3 q3.2))
def fX7_fittingNumbers (a0 : Option Nat) (a1 : Option Nat) (st : zS) : Option (Int32 × zS) :=
  fX7_fittingNumbers_L4 zF a0 a1 (0 : Int32) (0 : Int32) st
set_option maxRecDepth 100000 in
set_option maxHeartbeats 4000000 in
theorem kX7_fittingNumbers (l : Launch) (Z : zZ) (b : Nat) (x : Option Nat) (a0 : Option Nat) (a1 : Option Nat) (st : zS) : zC l Z spX b x yX7_fittingNumbers (.code yX7_fittingNumbers cX7_fittingNumbers 4 (some .int)) (rmX7_fittingNumbers) rI [vP a0, vP a1] st (fX7_fittingNumbers a0 a1 st) := by
  refine z_start (own := RX7) rfl (by decide +kernel) (Nat.le_of_ble_eq_true rfl) rfl (fun p e s m args below meth c res Q A X hK hr hlocks hQ => ?_)
  have J4 : ∀ (n4 : Nat) (y0 : Option Nat) (y1 : Option Nat) (y2 : Int32) (y3 : Int32) (st : zS), zs p l e (rmX7_fittingNumbers) s m args below meth c Q Z spX b x A 4 0 0 res (fX7_fittingNumbers_L4 n4 y0 y1 y2 y3 st) 4 [(0, vP y0), (1, vP y1), (2, vI y2), (3, vI y3)] [] st := by
    intro n4
    induction n4 with
    | zero => intros; exact z_none
    | succ n4 ih4 =>
      have J30 : ∀ (y0 : Option Nat) (y1 : Option Nat) (y2 : Int32) (y3 : Int32) (st : zS), zs p l e (rmX7_fittingNumbers) s m args below meth c Q Z spX b x A 4 0 0 res (fX7_fittingNumbers_j30 (fX7_fittingNumbers_L4 n4) y0 y1 y2 y3 st) 30 [(0, vP y0), (1, vP y1), (2, vI y2), (3, vI y3)] [] st := by
        intro y0 y1 y2 y3 st
        rw [fX7_fittingNumbers_j30]
        refine z_iinc X (q := 3) (y := y3 + (1 : Int32)) dX7_fittingNumbers_30 rfl rfl (Nat.le_of_ble_eq_true rfl) rfl ?_
        refine z_goto X (tgt := 4) dX7_fittingNumbers_33 (by decide) ?_
        exact z_sub [1, 2, 3, 0] (ih4 _ _ _ _ _) rfl
      intro y0 y1 y2 y3 st
      rw [fX7_fittingNumbers_L4]
      refine z_iload_n X (q := 3) dX7_fittingNumbers_4 rfl rfl ?_
      refine z_bipush X (v := (9 : Int32)) dX7_fittingNumbers_5 (by decide) ?_
      refine z_icmp_gt X (tgt := 36) dX7_fittingNumbers_7 (by decide) (fun _ => ?_) (fun _ => ?_)
      · refine z_iload_n X (q := 2) dX7_fittingNumbers_36 rfl rfl ?_
        subst hQ; exact z_iret X hlocks hr dX7_fittingNumbers_37
      · refine z_aload_n X (q := 1) dX7_fittingNumbers_10 rfl rfl ?_
        refine z_iload_n X (q := 3) dX7_fittingNumbers_11 rfl rfl ?_
        refine z_puti X hK (N := 15) (ci := 6) (k := 4) rfl (by decide) inlX6 tyX6 tyX6_ok nmX6 (by decide) hf_X7_314 rfl rfl spX_X6 rfl (by decide +kernel) dX7_fittingNumbers_12 (fun o1 st2 _ => ?_)
        refine z_aload_n X (q := 0) dX7_fittingNumbers_15 rfl rfl ?_
        refine z_aload_n X (q := 1) dX7_fittingNumbers_16 rfl rfl ?_
        refine z_callS X hK (As := [vP y0, vP y1]) (kX7_firstOther l Z  b x _ _ _) hk_X7_231 ⟨rfl, rfl⟩ hd_X7_firstOther.2 ⟨Nat.le_of_ble_eq_true rfl, Nat.le_of_ble_eq_true rfl⟩ ⟨Nat.le_of_ble_eq_true rfl, Nat.le_of_ble_eq_true rfl⟩ rfl rfl (Nat.le_of_ble_eq_true rfl) dX7_fittingNumbers_17 (fun q3 => ?_)
        refine z_iconst X (v := (-1 : Int32)) dX7_fittingNumbers_20 (by decide) ?_
        refine z_icmp_ne X (tgt := 30) dX7_fittingNumbers_21 (by decide) (fun _ => ?_) (fun _ => ?_)
        · exact z_sub [0, 1, 2, 3] (J30 _ _ _ _ _) rfl
        · refine z_iload_n X (q := 2) dX7_fittingNumbers_24 rfl rfl ?_
          refine z_iconst X (v := (1 : Int32)) dX7_fittingNumbers_25 (by decide) ?_
          refine z_iload_n X (q := 3) dX7_fittingNumbers_26 rfl rfl ?_
          refine z_ishl X dX7_fittingNumbers_27 ?_
          refine z_ior X dX7_fittingNumbers_28 ?_
          refine z_name (fun v4 => ?_)
          refine z_istore_n X dX7_fittingNumbers_29 rfl (Nat.le_of_ble_eq_true rfl) rfl ?_
          exact z_sub [1, 2, 0, 3] (J30 _ _ _ _ _) rfl
  rw [fX7_fittingNumbers]
  refine z_iconst X (v := (0 : Int32)) dX7_fittingNumbers_0 (by decide) ?_
  refine z_istore_n X dX7_fittingNumbers_1 rfl (Nat.le_of_ble_eq_true rfl) rfl ?_
  refine z_iconst X (v := (0 : Int32)) dX7_fittingNumbers_2 (by decide) ?_
  refine z_istore_n X dX7_fittingNumbers_3 rfl (Nat.le_of_ble_eq_true rfl) rfl ?_
  exact z_sub [2, 3, 1, 0] (J4 _ _ _ _ _ _) rfl
theorem zw_425 : Cond.fieldLink RX7 318 "WellGivesOther$Visit" "rule" "LWellGivesOther$Text;" ∈ wsL_law := zr_44 _ (by decide +kernel)
theorem hf_X7_318 : Cond.fieldLink RX7 318 "WellGivesOther$Visit" "rule" "LWellGivesOther$Text;" ∈ wsL_law := zw_425
abbrev rmX7_fittingTexts : Room := { frames := 6, cells := 0, slots := 0, locals := 158 }
def fX7_fittingTexts_j47 (this : Nat) (k5 : Option Nat → Option Nat → Int32 → Int32 → zS → Option (Int32 × zS)) (y1 : Option Nat) (y2 : Option Nat) (y3 : Int32) (y4 : Int32) (st : zS) : Option (Int32 × zS) :=
  k5 y1 y2 y3 (y4 + (1 : Int32)) st
def fX7_fittingTexts_L5 (this : Nat) : Nat → Option Nat → Option Nat → Int32 → Int32 → zS → Option (Int32 × zS)
  | 0, _, _, _, _, _ => none
  | n + 1, y1, y2, y3, y4, st => (zok spX st (some this) 7).bind fun o1 => if (st.2.1 o1 11) ≤ y4 then (some (y3, st)) else (if (6 : Int32) ≤ y4 then (some (y3, st)) else ((zok spX st (some this) 7).bind fun o7 => (fX7_textAt o7 y4 st).bind fun q2 => (zok spX q2.2 y2 6).bind fun o3 => zlet (zpr q2.2 o3 2 q2.1) fun st4 => (fX7_firstOther y1 y2 st4).bind fun q5 => if q5.1 = (-1 : Int32) then (zlet ((y3 ||| ((1 : Int32) <<< (y4 &&& 31)))) fun v6 => fX7_fittingTexts_j47 this (fX7_fittingTexts_L5 this n) y1 y2 v6 y4 q5.2) else (fX7_fittingTexts_j47 this (fX7_fittingTexts_L5 this n) y1 y2 y3 y4 q5.2)))
def fX7_fittingTexts (this : Nat) (a1 : Option Nat) (a2 : Option Nat) (st : zS) : Option (Int32 × zS) :=
  fX7_fittingTexts_L5 this zF a1 a2 (0 : Int32) (0 : Int32) st
set_option maxRecDepth 100000 in
set_option maxHeartbeats 4000000 in
theorem kX7_fittingTexts (l : Launch) (Z : zZ) (b : Nat) (x : Option Nat) (this : Nat) (a1 : Option Nat) (a2 : Option Nat) (st : zS) : zC l Z spX b x yX7_fittingTexts (.code yX7_fittingTexts cX7_fittingTexts 5 (some .int)) (rmX7_fittingTexts) rI [vP (some this), vP a1, vP a2] st (fX7_fittingTexts this a1 a2 st) := by
  refine z_start (own := RX7) rfl (by decide +kernel) (Nat.le_of_ble_eq_true rfl) rfl (fun p e s m args below meth c res Q A X hK hr hlocks hQ => ?_)
  have J5 : ∀ (n5 : Nat) (y1 : Option Nat) (y2 : Option Nat) (y3 : Int32) (y4 : Int32) (st : zS), zs p l e (rmX7_fittingTexts) s m args below meth c Q Z spX b x A 5 0 0 res (fX7_fittingTexts_L5 this n5 y1 y2 y3 y4 st) 5 [(0, vP (some this)), (1, vP y1), (2, vP y2), (3, vI y3), (4, vI y4)] [] st := by
    intro n5
    induction n5 with
    | zero => intros; exact z_none
    | succ n5 ih5 =>
      have J47 : ∀ (y1 : Option Nat) (y2 : Option Nat) (y3 : Int32) (y4 : Int32) (st : zS), zs p l e (rmX7_fittingTexts) s m args below meth c Q Z spX b x A 5 0 0 res (fX7_fittingTexts_j47 this (fX7_fittingTexts_L5 this n5) y1 y2 y3 y4 st) 47 [(0, vP (some this)), (1, vP y1), (2, vP y2), (3, vI y3), (4, vI y4)] [] st := by
        intro y1 y2 y3 y4 st
        rw [fX7_fittingTexts_j47]
        refine z_iinc X (q := 4) (y := y4 + (1 : Int32)) dX7_fittingTexts_47 rfl rfl (Nat.le_of_ble_eq_true rfl) rfl ?_
        refine z_goto X (tgt := 5) dX7_fittingTexts_50 (by decide) ?_
        exact z_sub [1, 2, 3, 4, 0] (ih5 _ _ _ _ _) rfl
      intro y1 y2 y3 y4 st
      rw [fX7_fittingTexts_L5]
      refine z_iload X (q := 4) dX7_fittingTexts_5 rfl ?_
      refine z_aload_n X (q := 0) dX7_fittingTexts_7 rfl rfl ?_
      refine z_geti X hK (N := 14) (ci := 7) (k := 11) rfl (by decide) inlX7 (by decide) hf_X7_60 rfl spX_X7 rfl dX7_fittingTexts_8 (fun o1 _ => ?_)
      refine z_icmp_ge X (tgt := 53) dX7_fittingTexts_11 (by decide) (fun _ => ?_) (fun _ => ?_)
      · refine z_iload_n X (q := 3) dX7_fittingTexts_53 rfl rfl ?_
        subst hQ; exact z_iret X hlocks hr dX7_fittingTexts_54
      · refine z_iload X (q := 4) dX7_fittingTexts_14 rfl ?_
        refine z_bipush X (v := (6 : Int32)) dX7_fittingTexts_16 (by decide) ?_
        refine z_icmp_ge X (tgt := 53) dX7_fittingTexts_18 (by decide) (fun _ => ?_) (fun _ => ?_)
        · refine z_iload_n X (q := 3) dX7_fittingTexts_53 rfl rfl ?_
          subst hQ; exact z_iret X hlocks hr dX7_fittingTexts_54
        · refine z_aload_n X (q := 2) dX7_fittingTexts_21 rfl rfl ?_
          refine z_aload_n X (q := 0) dX7_fittingTexts_22 rfl rfl ?_
          refine z_iload X (q := 4) dX7_fittingTexts_23 rfl ?_
          refine z_callV X hK (As := [vI y4]) (ci := 7) rfl (by decide) (fun o => (kX7_textAt l Z  b x o _ _)) hk_X7_67 ⟨rfl, rfl⟩ hd_X7_textAt ⟨Nat.le_of_ble_eq_true rfl, Nat.le_of_ble_eq_true rfl⟩ ⟨Nat.le_of_ble_eq_true rfl, Nat.le_of_ble_eq_true rfl⟩ rfl rfl (Nat.le_of_ble_eq_true rfl) dX7_fittingTexts_25 (fun _ q2 _ => ?_)
          refine z_putr X hK (N := 15) (ci := 6) (k := 2) rfl (by decide) inlX6 tyX6 tyX6_ok nmX6 (by decide) hf_X7_318 rfl rfl spX_X6 rfl (ty := tyX6 2) (by decide +kernel) (fun r => by cases r <;> exact ⟨rfl, rfl⟩) dX7_fittingTexts_28 (fun o3 st4 _ => ?_)
          refine z_aload_n X (q := 1) dX7_fittingTexts_31 rfl rfl ?_
          refine z_aload_n X (q := 2) dX7_fittingTexts_32 rfl rfl ?_
          refine z_callS X hK (As := [vP y1, vP y2]) (kX7_firstOther l Z  b x _ _ _) hk_X7_231 ⟨rfl, rfl⟩ hd_X7_firstOther.2 ⟨Nat.le_of_ble_eq_true rfl, Nat.le_of_ble_eq_true rfl⟩ ⟨Nat.le_of_ble_eq_true rfl, Nat.le_of_ble_eq_true rfl⟩ rfl rfl (Nat.le_of_ble_eq_true rfl) dX7_fittingTexts_33 (fun q5 => ?_)
          refine z_iconst X (v := (-1 : Int32)) dX7_fittingTexts_36 (by decide) ?_
          refine z_icmp_ne X (tgt := 47) dX7_fittingTexts_37 (by decide) (fun _ => ?_) (fun _ => ?_)
          · exact z_sub [0, 1, 2, 3, 4] (J47 _ _ _ _ _) rfl
          · refine z_iload_n X (q := 3) dX7_fittingTexts_40 rfl rfl ?_
            refine z_iconst X (v := (1 : Int32)) dX7_fittingTexts_41 (by decide) ?_
            refine z_iload X (q := 4) dX7_fittingTexts_42 rfl ?_
            refine z_ishl X dX7_fittingTexts_44 ?_
            refine z_ior X dX7_fittingTexts_45 ?_
            refine z_name (fun v6 => ?_)
            refine z_istore_n X dX7_fittingTexts_46 rfl (Nat.le_of_ble_eq_true rfl) rfl ?_
            exact z_sub [1, 2, 3, 0, 4] (J47 _ _ _ _ _) rfl
  rw [fX7_fittingTexts]
  refine z_iconst X (v := (0 : Int32)) dX7_fittingTexts_0 (by decide) ?_
  refine z_istore_n X dX7_fittingTexts_1 rfl (Nat.le_of_ble_eq_true rfl) rfl ?_
  refine z_iconst X (v := (0 : Int32)) dX7_fittingTexts_2 (by decide) ?_
  refine z_istore X dX7_fittingTexts_3 (Nat.le_of_ble_eq_true rfl) rfl ?_
  exact z_sub [2, 3, 4, 1, 0] (J5 _ _ _ _ _ _) rfl
theorem zw_426 : Cond.fieldLink RX7 171 "WellGivesOther$Visit" "shut" "I" ∈ wsL_law := zr_36 _ (by decide +kernel)
theorem hf_X7_171 : Cond.fieldLink RX7 171 "WellGivesOther$Visit" "shut" "I" ∈ wsL_law := zw_426
abbrev rmX7_fittingThings : Room := { frames := 6, cells := 0, slots := 0, locals := 158 }
def fX7_fittingThings_j43 (k10 : Option Nat → Option Nat → Int32 → Int32 → Int32 → zS → Option (Int32 × zS)) (y0 : Option Nat) (y1 : Option Nat) (y2 : Int32) (y3 : Int32) (y4 : Int32) (st : zS) : Option (Int32 × zS) :=
  k10 y0 y1 y2 y3 (y4 + (1 : Int32)) st
def fX7_fittingThings_L10 : Nat → Option Nat → Option Nat → Int32 → Int32 → Int32 → zS → Option (Int32 × zS)
  | 0, _, _, _, _, _, _ => none
  | n + 1, y0, y1, y2, y3, y4, st => if (12 : Int32) ≤ y4 then (some (y2, st)) else ((zok spX st y1 6).bind fun o1 => zlet (zp st o1 5 (y3 ^^^ ((1 : Int32) <<< (y4 &&& 31)))) fun st2 => (fX7_firstOther y0 y1 st2).bind fun q3 => if q3.1 = (-1 : Int32) then (zlet ((y2 ||| ((1 : Int32) <<< (y4 &&& 31)))) fun v4 => fX7_fittingThings_j43 (fX7_fittingThings_L10 n) y0 y1 v4 y3 y4 q3.2) else (fX7_fittingThings_j43 (fX7_fittingThings_L10 n) y0 y1 y2 y3 y4 q3.2))
def fX7_fittingThings (a0 : Option Nat) (a1 : Option Nat) (st : zS) : Option (Int32 × zS) :=
  (zok spX st a1 6).bind fun o5 => zlet ((st.2.1 o5 5)) fun v6 => fX7_fittingThings_L10 zF a0 a1 (0 : Int32) v6 (0 : Int32) st
set_option maxRecDepth 100000 in
set_option maxHeartbeats 4000000 in
theorem kX7_fittingThings (l : Launch) (Z : zZ) (b : Nat) (x : Option Nat) (a0 : Option Nat) (a1 : Option Nat) (st : zS) : zC l Z spX b x yX7_fittingThings (.code yX7_fittingThings cX7_fittingThings 5 (some .int)) (rmX7_fittingThings) rI [vP a0, vP a1] st (fX7_fittingThings a0 a1 st) := by
  refine z_start (own := RX7) rfl (by decide +kernel) (Nat.le_of_ble_eq_true rfl) rfl (fun p e s m args below meth c res Q A X hK hr hlocks hQ => ?_)
  have J10 : ∀ (n10 : Nat) (y0 : Option Nat) (y1 : Option Nat) (y2 : Int32) (y3 : Int32) (y4 : Int32) (st : zS), zs p l e (rmX7_fittingThings) s m args below meth c Q Z spX b x A 5 0 0 res (fX7_fittingThings_L10 n10 y0 y1 y2 y3 y4 st) 10 [(0, vP y0), (1, vP y1), (2, vI y2), (3, vI y3), (4, vI y4)] [] st := by
    intro n10
    induction n10 with
    | zero => intros; exact z_none
    | succ n10 ih10 =>
      have J43 : ∀ (y0 : Option Nat) (y1 : Option Nat) (y2 : Int32) (y3 : Int32) (y4 : Int32) (st : zS), zs p l e (rmX7_fittingThings) s m args below meth c Q Z spX b x A 5 0 0 res (fX7_fittingThings_j43 (fX7_fittingThings_L10 n10) y0 y1 y2 y3 y4 st) 43 [(0, vP y0), (1, vP y1), (2, vI y2), (3, vI y3), (4, vI y4)] [] st := by
        intro y0 y1 y2 y3 y4 st
        rw [fX7_fittingThings_j43]
        refine z_iinc X (q := 4) (y := y4 + (1 : Int32)) dX7_fittingThings_43 rfl rfl (Nat.le_of_ble_eq_true rfl) rfl ?_
        refine z_goto X (tgt := 10) dX7_fittingThings_46 (by decide) ?_
        exact z_sub [1, 2, 3, 4, 0] (ih10 _ _ _ _ _ _) rfl
      intro y0 y1 y2 y3 y4 st
      rw [fX7_fittingThings_L10]
      refine z_iload X (q := 4) dX7_fittingThings_10 rfl ?_
      refine z_bipush X (v := (12 : Int32)) dX7_fittingThings_12 (by decide) ?_
      refine z_icmp_ge X (tgt := 49) dX7_fittingThings_14 (by decide) (fun _ => ?_) (fun _ => ?_)
      · refine z_iload_n X (q := 2) dX7_fittingThings_49 rfl rfl ?_
        subst hQ; exact z_iret X hlocks hr dX7_fittingThings_50
      · refine z_aload_n X (q := 1) dX7_fittingThings_17 rfl rfl ?_
        refine z_iload_n X (q := 3) dX7_fittingThings_18 rfl rfl ?_
        refine z_iconst X (v := (1 : Int32)) dX7_fittingThings_19 (by decide) ?_
        refine z_iload X (q := 4) dX7_fittingThings_20 rfl ?_
        refine z_ishl X dX7_fittingThings_22 ?_
        refine z_ixor X dX7_fittingThings_23 ?_
        refine z_puti X hK (N := 15) (ci := 6) (k := 5) rfl (by decide) inlX6 tyX6 tyX6_ok nmX6 (by decide) hf_X7_171 rfl rfl spX_X6 rfl (by decide +kernel) dX7_fittingThings_24 (fun o1 st2 _ => ?_)
        refine z_aload_n X (q := 0) dX7_fittingThings_27 rfl rfl ?_
        refine z_aload_n X (q := 1) dX7_fittingThings_28 rfl rfl ?_
        refine z_callS X hK (As := [vP y0, vP y1]) (kX7_firstOther l Z  b x _ _ _) hk_X7_231 ⟨rfl, rfl⟩ hd_X7_firstOther.2 ⟨Nat.le_of_ble_eq_true rfl, Nat.le_of_ble_eq_true rfl⟩ ⟨Nat.le_of_ble_eq_true rfl, Nat.le_of_ble_eq_true rfl⟩ rfl rfl (Nat.le_of_ble_eq_true rfl) dX7_fittingThings_29 (fun q3 => ?_)
        refine z_iconst X (v := (-1 : Int32)) dX7_fittingThings_32 (by decide) ?_
        refine z_icmp_ne X (tgt := 43) dX7_fittingThings_33 (by decide) (fun _ => ?_) (fun _ => ?_)
        · exact z_sub [0, 1, 2, 3, 4] (J43 _ _ _ _ _ _) rfl
        · refine z_iload_n X (q := 2) dX7_fittingThings_36 rfl rfl ?_
          refine z_iconst X (v := (1 : Int32)) dX7_fittingThings_37 (by decide) ?_
          refine z_iload X (q := 4) dX7_fittingThings_38 rfl ?_
          refine z_ishl X dX7_fittingThings_40 ?_
          refine z_ior X dX7_fittingThings_41 ?_
          refine z_name (fun v4 => ?_)
          refine z_istore_n X dX7_fittingThings_42 rfl (Nat.le_of_ble_eq_true rfl) rfl ?_
          exact z_sub [1, 2, 0, 3, 4] (J43 _ _ _ _ _ _) rfl
  rw [fX7_fittingThings]
  refine z_iconst X (v := (0 : Int32)) dX7_fittingThings_0 (by decide) ?_
  refine z_istore_n X dX7_fittingThings_1 rfl (Nat.le_of_ble_eq_true rfl) rfl ?_
  refine z_aload_n X (q := 2) dX7_fittingThings_2 rfl rfl ?_
  refine z_geti X hK (N := 15) (ci := 6) (k := 5) rfl (by decide) inlX6 (by decide) hf_X7_171 rfl spX_X6 rfl dX7_fittingThings_3 (fun o5 _ => ?_)
  refine z_name (fun v6 => ?_)
  refine z_istore_n X dX7_fittingThings_6 rfl (Nat.le_of_ble_eq_true rfl) rfl ?_
  refine z_iconst X (v := (0 : Int32)) dX7_fittingThings_7 (by decide) ?_
  refine z_istore X dX7_fittingThings_8 (Nat.le_of_ble_eq_true rfl) rfl ?_
  exact z_sub [3, 4, 2, 1, 0] (J10 _ _ _ _ _ _ _) rfl
abbrev rmX7_force : Room := { frames := 1, cells := 0, slots := 0, locals := 40 }
def fX7_force (this : Nat) (a1 : Int32) (st : zS) : Option (Int32 × zS) :=
  if a1 < 0 then (some ((-2 : Int32), st)) else ((zok spX st (some this) 7).bind fun o1 => if a1 < (st.2.1 o1 11) then ((zok spX st (some this) 7).bind fun o2 => zlet ((st.2.1 o2 12)) fun v3 => (zok spX st (some this) 7).bind fun o4 => zlet (zp st o4 12 a1) fun st5 => some (v3, st5)) else (some ((-2 : Int32), st)))
set_option maxRecDepth 100000 in
set_option maxHeartbeats 4000000 in
theorem kX7_force (l : Launch) (Z : zZ) (b : Nat) (x : Option Nat) (this : Nat) (a1 : Int32) (st : zS) : zC l Z spX b x yX7_force (.code yX7_force cX7_force 3 (some .int)) (rmX7_force) rI [vP (some this), vI a1] st (fX7_force this a1 st) := by
  refine z_start (own := RX7) rfl (by decide +kernel) (Nat.le_of_ble_eq_true rfl) rfl (fun p e s m args below meth c res Q A X hK hr hlocks hQ => ?_)
  rw [fX7_force]
  refine z_iload_n X (q := 1) dX7_force_0 rfl rfl ?_
  refine z_if_lt X (tgt := 12) dX7_force_1 (by decide) (fun _ => ?_) (fun _ => ?_)
  · refine z_bipush X (v := (-2 : Int32)) dX7_force_12 (by decide) ?_
    subst hQ; exact z_iret X hlocks hr dX7_force_14
  · refine z_iload_n X (q := 1) dX7_force_4 rfl rfl ?_
    refine z_aload_n X (q := 0) dX7_force_5 rfl rfl ?_
    refine z_geti X hK (N := 14) (ci := 7) (k := 11) rfl (by decide) inlX7 (by decide) hf_X7_60 rfl spX_X7 rfl dX7_force_6 (fun o1 _ => ?_)
    refine z_icmp_lt X (tgt := 15) dX7_force_9 (by decide) (fun _ => ?_) (fun _ => ?_)
    · refine z_aload_n X (q := 0) dX7_force_15 rfl rfl ?_
      refine z_geti X hK (N := 14) (ci := 7) (k := 12) rfl (by decide) inlX7 (by decide) hf_X7_137 rfl spX_X7 rfl dX7_force_16 (fun o2 _ => ?_)
      refine z_name (fun v3 => ?_)
      refine z_istore_n X dX7_force_19 rfl (Nat.le_of_ble_eq_true rfl) rfl ?_
      refine z_aload_n X (q := 1) dX7_force_20 rfl rfl ?_
      refine z_iload_n X (q := 2) dX7_force_21 rfl rfl ?_
      refine z_puti X hK (N := 14) (ci := 7) (k := 12) rfl (by decide) inlX7 tyX7 tyX7_ok nmX7 (by decide) hf_X7_137 rfl rfl spX_X7 rfl (by decide +kernel) dX7_force_22 (fun o4 st5 _ => ?_)
      refine z_iload_n X (q := 0) dX7_force_25 rfl rfl ?_
      subst hQ; exact z_iret X hlocks hr dX7_force_26
    · refine z_bipush X (v := (-2 : Int32)) dX7_force_12 (by decide) ?_
      subst hQ; exact z_iret X hlocks hr dX7_force_14
abbrev rmX7_isThing : Room := { frames := 1, cells := 0, slots := 0, locals := 40 }
def fX7_isThing_j14 (st : zS) : Option (Int32 × zS) :=
  some ((0 : Int32), st)
def fX7_isThing (a0 : Int32) (st : zS) : Option (Int32 × zS) :=
  if a0 < 0 then (fX7_isThing_j14 st) else (if (12 : Int32) ≤ a0 then (fX7_isThing_j14 st) else (some ((1 : Int32), st)))
set_option maxRecDepth 100000 in
set_option maxHeartbeats 4000000 in
theorem kX7_isThing (l : Launch) (Z : zZ) (b : Nat) (x : Option Nat) (a0 : Int32) (st : zS) : zC l Z spX b x yX7_isThing (.code yX7_isThing cX7_isThing 1 (some .boolean)) (rmX7_isThing) rI [vI a0] st (fX7_isThing a0 st) := by
  refine z_start (own := RX7) rfl (by decide +kernel) (Nat.le_of_ble_eq_true rfl) rfl (fun p e s m args below meth c res Q A X hK hr hlocks hQ => ?_)
  have J14 : ∀ (st : zS), zs p l e (rmX7_isThing) s m args below meth c Q Z spX b x A 1 0 0 res (fX7_isThing_j14 st) 14 [] [] st := by
    intro  st
    rw [fX7_isThing_j14]
    refine z_iconst X (v := (0 : Int32)) dX7_isThing_14 (by decide) ?_
    subst hQ; exact z_zretc X hlocks hr (by decide) dX7_isThing_15
  rw [fX7_isThing]
  refine z_iload_n X (q := 0) dX7_isThing_0 rfl rfl ?_
  refine z_if_lt X (tgt := 14) dX7_isThing_1 (by decide) (fun _ => ?_) (fun _ => ?_)
  · exact z_sub [] (J14  _) rfl
  · refine z_iload_n X (q := 0) dX7_isThing_4 rfl rfl ?_
    refine z_bipush X (v := (12 : Int32)) dX7_isThing_5 (by decide) ?_
    refine z_icmp_ge X (tgt := 14) dX7_isThing_7 (by decide) (fun _ => ?_) (fun _ => ?_)
    · exact z_sub [] (J14  _) rfl
    · refine z_iconst X (v := (1 : Int32)) dX7_isThing_10 (by decide) ?_
      refine z_goto X (tgt := 15) dX7_isThing_11 (by decide) ?_
      subst hQ; exact z_zretc X hlocks hr (by decide) dX7_isThing_15
theorem zw_427 : Cond.methodLink RX7 193 yX7_cheapestSet ∈ wsL_law := zr_40 _ (by decide +kernel)
theorem zw_428 : Cond.instanceMethod yX7_cheapestSet ∈ wsL_law := zr_40 _ (by decide +kernel)
theorem zw_429 : Cond.selects RX7 yX7_cheapestSet yX7_cheapestSet ∈ wsL_law := zr_40 _ (by decide +kernel)
theorem zw_430 : Cond.code yX7_cheapestSet cX7_cheapestSet 7 (some .int) ∈ wsL_law := zr_40 _ (by decide +kernel)
theorem hk_X7_193 : ∀ w ∈ ([Cond.methodLink RX7 193 yX7_cheapestSet, Cond.instanceMethod yX7_cheapestSet, Cond.selects RX7 yX7_cheapestSet yX7_cheapestSet, Cond.initialized RX7, Cond.code yX7_cheapestSet cX7_cheapestSet 7 (some .int)] : List Cond), w ∈ wsL_law := List.forall_mem_cons.mpr ⟨zw_427, List.forall_mem_cons.mpr ⟨zw_428, List.forall_mem_cons.mpr ⟨zw_429, List.forall_mem_cons.mpr ⟨zw_322, List.forall_mem_cons.mpr ⟨zw_430, fun _ h => absurd h List.not_mem_nil⟩⟩⟩⟩⟩
theorem zw_431 : Cond.methodLink RX7 77 yX7_isThing ∈ wsL_law := zr_7 _ (by decide +kernel)
theorem zw_432 : Cond.static yX7_isThing ∈ wsL_law := zr_7 _ (by decide +kernel)
theorem zw_433 : Cond.code yX7_isThing cX7_isThing 1 (some .boolean) ∈ wsL_law := zr_7 _ (by decide +kernel)
theorem hk_X7_77 : ∀ w ∈ ([Cond.methodLink RX7 77 yX7_isThing, Cond.static yX7_isThing, Cond.initialized RX7, Cond.code yX7_isThing cX7_isThing 1 (some .boolean)] : List Cond), w ∈ wsL_law := List.forall_mem_cons.mpr ⟨zw_431, List.forall_mem_cons.mpr ⟨zw_432, List.forall_mem_cons.mpr ⟨zw_322, List.forall_mem_cons.mpr ⟨zw_433, fun _ h => absurd h List.not_mem_nil⟩⟩⟩⟩
theorem hd_X7_cheapestSet : yX7_cheapestSet.cls = RX7 ∧ yX7_cheapestSet.cls ≠ "java/lang/invoke/MethodHandle" ∧ yX7_cheapestSet.cls ≠ "java/lang/invoke/VarHandle" ∧ (parseMethodDescriptor yX7_cheapestSet.desc).map (fun d => d.parameters.length) = some 2 := by decide +kernel
theorem hd_X7_isThing : yX7_isThing.cls = RX7 ∧ yX7_isThing.cls ≠ "java/lang/invoke/MethodHandle" ∧ yX7_isThing.cls ≠ "java/lang/invoke/VarHandle" ∧ (parseMethodDescriptor yX7_isThing.desc).map (fun d => d.parameters.length) = some 1 := by decide +kernel
abbrev rmX7_get : Room := { frames := 6, cells := 0, slots := 0, locals := 162 }
def fX7_get_j50 (this : Nat) (y5 : Int32) (st : zS) : Option (Int32 × zS) :=
  some (y5, st)
def fX7_get (this : Nat) (a1 : Int32) (a2 : Int32) (a3 : Int32) (st : zS) : Option (Int32 × zS) :=
  (zok spX st (some this) 7).bind fun o8 => (fX7_visitOf o8 a1 st).bind fun q1 => if q1.1 = none then (some ((-2 : Int32), q1.2)) else ((fX7_isThing a2 q1.2).bind fun q2 => if q2.1 = 0 then (some ((-2 : Int32), q2.2)) else (if a3 < 0 then (some ((-2 : Int32), q2.2)) else (if a3 ≤ (1 : Int32) then ((zok spX q2.2 (some this) 7).bind fun o7 => (fX7_cheapestSet o7 q1.1 a2 q2.2).bind fun q3 => zlet (q3.1) fun v4 => if a3 = 0 then (fX7_get_j50 this v4 q3.2) else (if v4 = (-1 : Int32) then (fX7_get_j50 this v4 q3.2) else ((zok spX q3.2 q1.1 6).bind fun o6 => (fX6_costOf o6 v4 q3.2).bind fun q5 => some (q5.1, q5.2)))) else (some ((-2 : Int32), q2.2)))))
set_option maxRecDepth 100000 in
set_option maxHeartbeats 4000000 in
theorem kX7_get (l : Launch) (Z : zZ) (b : Nat) (x : Option Nat) (this : Nat) (a1 : Int32) (a2 : Int32) (a3 : Int32) (st : zS) : zC l Z spX b x yX7_get (.code yX7_get cX7_get 6 (some .int)) (rmX7_get) rI [vP (some this), vI a1, vI a2, vI a3] st (fX7_get this a1 a2 a3 st) := by
  refine z_start (own := RX7) rfl (by decide +kernel) (Nat.le_of_ble_eq_true rfl) rfl (fun p e s m args below meth c res Q A X hK hr hlocks hQ => ?_)
  have J50 : ∀ (y5 : Int32) (st : zS), zs p l e (rmX7_get) s m args below meth c Q Z spX b x A 6 0 0 res (fX7_get_j50 this y5 st) 50 [(5, vI y5)] [] st := by
    intro y5 st
    rw [fX7_get_j50]
    refine z_iload X (q := 0) dX7_get_50 rfl ?_
    refine z_goto X (tgt := 62) dX7_get_52 (by decide) ?_
    subst hQ; exact z_iret X hlocks hr dX7_get_62
  rw [fX7_get]
  refine z_aload_n X (q := 0) dX7_get_0 rfl rfl ?_
  refine z_iload_n X (q := 1) dX7_get_1 rfl rfl ?_
  refine z_callV X hK (As := [vI a1]) (ci := 7) rfl (by decide) (fun o => (kX7_visitOf l Z  b x o _ _)) hk_X7_108 ⟨rfl, rfl⟩ hd_X7_visitOf ⟨Nat.le_of_ble_eq_true rfl, Nat.le_of_ble_eq_true rfl⟩ ⟨Nat.le_of_ble_eq_true rfl, Nat.le_of_ble_eq_true rfl⟩ rfl rfl (Nat.le_of_ble_eq_true rfl) dX7_get_2 (fun _ q1 _ => ?_)
  refine z_astore X dX7_get_5 (Nat.le_of_ble_eq_true rfl) rfl ?_
  refine z_aload X (q := 0) dX7_get_7 rfl ?_
  refine z_ifnull X (tgt := 28) dX7_get_9 (by decide) (fun _ => ?_) (fun _ => ?_)
  · refine z_bipush X (v := (-2 : Int32)) dX7_get_28 (by decide) ?_
    subst hQ; exact z_iret X hlocks hr dX7_get_30
  · refine z_iload_n X (q := 3) dX7_get_12 rfl rfl ?_
    refine z_callS X hK (As := [vI a2]) (kX7_isThing l Z  b x _ _) hk_X7_77 ⟨rfl, rfl⟩ hd_X7_isThing.2 ⟨Nat.le_of_ble_eq_true rfl, Nat.le_of_ble_eq_true rfl⟩ ⟨Nat.le_of_ble_eq_true rfl, Nat.le_of_ble_eq_true rfl⟩ rfl rfl (Nat.le_of_ble_eq_true rfl) dX7_get_13 (fun q2 => ?_)
    refine z_if_eq X (tgt := 28) dX7_get_16 (by decide) (fun _ => ?_) (fun _ => ?_)
    · refine z_bipush X (v := (-2 : Int32)) dX7_get_28 (by decide) ?_
      subst hQ; exact z_iret X hlocks hr dX7_get_30
    · refine z_iload_n X (q := 4) dX7_get_19 rfl rfl ?_
      refine z_if_lt X (tgt := 28) dX7_get_20 (by decide) (fun _ => ?_) (fun _ => ?_)
      · refine z_bipush X (v := (-2 : Int32)) dX7_get_28 (by decide) ?_
        subst hQ; exact z_iret X hlocks hr dX7_get_30
      · refine z_iload_n X (q := 4) dX7_get_23 rfl rfl ?_
        refine z_iconst X (v := (1 : Int32)) dX7_get_24 (by decide) ?_
        refine z_icmp_le X (tgt := 31) dX7_get_25 (by decide) (fun _ => ?_) (fun _ => ?_)
        · refine z_aload_n X (q := 1) dX7_get_31 rfl rfl ?_
          refine z_aload X (q := 0) dX7_get_32 rfl ?_
          refine z_iload_n X (q := 3) dX7_get_34 rfl rfl ?_
          refine z_callV X hK (As := [vP q1.1, vI a2]) (ci := 7) rfl (by decide) (fun o => (kX7_cheapestSet l Z  b x o _ _ _)) hk_X7_193 ⟨rfl, rfl⟩ hd_X7_cheapestSet ⟨Nat.le_of_ble_eq_true rfl, Nat.le_of_ble_eq_true rfl⟩ ⟨Nat.le_of_ble_eq_true rfl, Nat.le_of_ble_eq_true rfl⟩ rfl rfl (Nat.le_of_ble_eq_true rfl) dX7_get_35 (fun _ q3 _ => ?_)
          refine z_name (fun v4 => ?_)
          refine z_istore X dX7_get_38 (Nat.le_of_ble_eq_true rfl) rfl ?_
          refine z_iload_n X (q := 5) dX7_get_40 rfl rfl ?_
          refine z_if_eq X (tgt := 50) dX7_get_41 (by decide) (fun _ => ?_) (fun _ => ?_)
          · exact z_sub [0] (J50 _ _) rfl
          · refine z_iload X (q := 0) dX7_get_44 rfl ?_
            refine z_iconst X (v := (-1 : Int32)) dX7_get_46 (by decide) ?_
            refine z_icmp_ne X (tgt := 55) dX7_get_47 (by decide) (fun _ => ?_) (fun _ => ?_)
            · refine z_aload X (q := 1) dX7_get_55 rfl ?_
              refine z_iload X (q := 0) dX7_get_57 rfl ?_
              refine z_callV X hK (As := [vI v4]) (ci := 6) rfl (by decide) (fun o => (kX6_costOf l Z  b x o _ _)) hk_X7_124 ⟨rfl, rfl⟩ hd_X6_costOf ⟨Nat.le_of_ble_eq_true rfl, Nat.le_of_ble_eq_true rfl⟩ ⟨Nat.le_of_ble_eq_true rfl, Nat.le_of_ble_eq_true rfl⟩ rfl rfl (Nat.le_of_ble_eq_true rfl) dX7_get_59 (fun _ q5 _ => ?_)
              subst hQ; exact z_iret X hlocks hr dX7_get_62
            · exact z_sub [0] (J50 _ _) rfl
        · refine z_bipush X (v := (-2 : Int32)) dX7_get_28 (by decide) ?_
          subst hQ; exact z_iret X hlocks hr dX7_get_30
