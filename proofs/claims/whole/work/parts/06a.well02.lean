theorem zw_434 : Cond.methodLink RX7 127 yX6_gladOf ∈ wsL_law := zr_26 _ (by decide +kernel)
theorem hk_X7_127 : ∀ w ∈ ([Cond.methodLink RX7 127 yX6_gladOf, Cond.instanceMethod yX6_gladOf, Cond.selects RX6 yX6_gladOf yX6_gladOf, Cond.initialized RX6, Cond.code yX6_gladOf cX6_gladOf 3 (some .int)] : List Cond), w ∈ wsL_law := List.forall_mem_cons.mpr ⟨zw_434, List.forall_mem_cons.mpr ⟨zw_207, List.forall_mem_cons.mpr ⟨zw_208, List.forall_mem_cons.mpr ⟨zw_137, List.forall_mem_cons.mpr ⟨zw_209, fun _ h => absurd h List.not_mem_nil⟩⟩⟩⟩⟩
abbrev rmX7_glad : Room := { frames := 5, cells := 0, slots := 0, locals := 135 }
def fX7_glad_j17 (this : Nat) (st : zS) : Option (Int32 × zS) :=
  some ((-1000 : Int32), st)
def fX7_glad (this : Nat) (a1 : Int32) (a2 : Int32) (st : zS) : Option (Int32 × zS) :=
  (zok spX st (some this) 7).bind fun o5 => (fX7_visitOf o5 a1 st).bind fun q1 => if q1.1 = none then (fX7_glad_j17 this q1.2) else ((fX7_isThing a2 q1.2).bind fun q2 => if q2.1 = 0 then (fX7_glad_j17 this q2.2) else ((zok spX q2.2 q1.1 6).bind fun o4 => (fX6_gladOf o4 a2 q2.2).bind fun q3 => some (q3.1, q3.2)))
set_option maxRecDepth 100000 in
set_option maxHeartbeats 4000000 in
theorem kX7_glad (l : Launch) (Z : zZ) (b : Nat) (x : Option Nat) (this : Nat) (a1 : Int32) (a2 : Int32) (st : zS) : zC l Z spX b x yX7_glad (.code yX7_glad cX7_glad 4 (some .int)) (rmX7_glad) rI [vP (some this), vI a1, vI a2] st (fX7_glad this a1 a2 st) := by
  refine z_start (own := RX7) rfl (by decide +kernel) (Nat.le_of_ble_eq_true rfl) rfl (fun p e s m args below meth c res Q A X hK hr hlocks hQ => ?_)
  have J17 : ∀ (st : zS), zs p l e (rmX7_glad) s m args below meth c Q Z spX b x A 4 0 0 res (fX7_glad_j17 this st) 17 [] [] st := by
    intro  st
    rw [fX7_glad_j17]
    refine z_sipush X (v := (-1000 : Int32)) dX7_glad_17 (by decide) ?_
    refine z_goto X (tgt := 28) dX7_glad_20 (by decide) ?_
    subst hQ; exact z_iret X hlocks hr dX7_glad_28
  rw [fX7_glad]
  refine z_aload_n X (q := 0) dX7_glad_0 rfl rfl ?_
  refine z_iload_n X (q := 1) dX7_glad_1 rfl rfl ?_
  refine z_callV X hK (As := [vI a1]) (ci := 7) rfl (by decide) (fun o => (kX7_visitOf l Z  b x o _ _)) hk_X7_108 ⟨rfl, rfl⟩ hd_X7_visitOf ⟨Nat.le_of_ble_eq_true rfl, Nat.le_of_ble_eq_true rfl⟩ ⟨Nat.le_of_ble_eq_true rfl, Nat.le_of_ble_eq_true rfl⟩ rfl rfl (Nat.le_of_ble_eq_true rfl) dX7_glad_2 (fun _ q1 _ => ?_)
  refine z_astore_n X dX7_glad_5 rfl (Nat.le_of_ble_eq_true rfl) rfl ?_
  refine z_aload_n X (q := 0) dX7_glad_6 rfl rfl ?_
  refine z_ifnull X (tgt := 17) dX7_glad_7 (by decide) (fun _ => ?_) (fun _ => ?_)
  · exact z_sub [] (J17  _) rfl
  · refine z_iload_n X (q := 3) dX7_glad_10 rfl rfl ?_
    refine z_callS X hK (As := [vI a2]) (kX7_isThing l Z  b x _ _) hk_X7_77 ⟨rfl, rfl⟩ hd_X7_isThing.2 ⟨Nat.le_of_ble_eq_true rfl, Nat.le_of_ble_eq_true rfl⟩ ⟨Nat.le_of_ble_eq_true rfl, Nat.le_of_ble_eq_true rfl⟩ rfl rfl (Nat.le_of_ble_eq_true rfl) dX7_glad_11 (fun q2 => ?_)
    refine z_if_ne X (tgt := 23) dX7_glad_14 (by decide) (fun _ => ?_) (fun _ => ?_)
    · refine z_aload_n X (q := 0) dX7_glad_23 rfl rfl ?_
      refine z_iload_n X (q := 3) dX7_glad_24 rfl rfl ?_
      refine z_callV X hK (As := [vI a2]) (ci := 6) rfl (by decide) (fun o => (kX6_gladOf l Z  b x o _ _)) hk_X7_127 ⟨rfl, rfl⟩ hd_X6_gladOf ⟨Nat.le_of_ble_eq_true rfl, Nat.le_of_ble_eq_true rfl⟩ ⟨Nat.le_of_ble_eq_true rfl, Nat.le_of_ble_eq_true rfl⟩ rfl rfl (Nat.le_of_ble_eq_true rfl) dX7_glad_25 (fun _ q3 _ => ?_)
      subst hQ; exact z_iret X hlocks hr dX7_glad_28
    · exact z_sub [] (J17  _) rfl
abbrev rmX7_gladdestSet : Room := { frames := 5, cells := 0, slots := 0, locals := 136 }
def fX7_gladdestSet_j69 (this : Nat) (k7 : Option Nat → Int32 → Int32 → Int32 → zS → Option (Int32 × zS)) (y1 : Option Nat) (y2 : Int32) (y3 : Int32) (y4 : Int32) (st : zS) : Option (Int32 × zS) :=
  k7 y1 y2 y3 (y4 + (1 : Int32)) st
def fX7_gladdestSet_j58 (this : Nat) (k7 : Option Nat → Int32 → Int32 → Int32 → zS → Option (Int32 × zS)) (y1 : Option Nat) (y4 : Int32) (y6 : Int32) (st : zS) : Option (Int32 × zS) :=
  (zok spX st (some this) 7).bind fun o1 => (zok spX st (st.2.2.2 o1 1) 9).bind fun o2 => (zix spX o2 y4).bind fun j3 => zlet ((st.2.1 o2 j3)) fun v4 => fX7_gladdestSet_j69 this k7 y1 v4 y6 y4 st
def fX7_gladdestSet_L7 (this : Nat) : Nat → Option Nat → Int32 → Int32 → Int32 → zS → Option (Int32 × zS)
  | 0, _, _, _, _, _ => none
  | n + 1, y1, y2, y3, y4, st => (zok spX st (some this) 7).bind fun o5 => (zla spX st (st.2.2.2 o5 1)).bind fun o6 => if (Int32.ofNat (spX o6).2) ≤ y4 then (some (y2, st)) else ((zok spX st (some this) 7).bind fun o7 => (zok spX st (st.2.2.2 o7 1) 9).bind fun o8 => (zix spX o8 y4).bind fun j9 => (zok spX st y1 6).bind fun o15 => (fX6_givenBy o15 (st.2.1 o8 j9) st).bind fun q10 => zlet (q10.1) fun v11 => if v11 = (-1 : Int32) then (fX7_gladdestSet_j69 this (fX7_gladdestSet_L7 this n) y1 y2 y3 y4 q10.2) else ((zok spX q10.2 y1 6).bind fun o14 => (fX6_gladOf o14 v11 q10.2).bind fun q12 => zlet (q12.1) fun v13 => if y2 = (-1 : Int32) then (fX7_gladdestSet_j58 this (fX7_gladdestSet_L7 this n) y1 y4 v13 q12.2) else (if v13 ≤ y3 then (fX7_gladdestSet_j69 this (fX7_gladdestSet_L7 this n) y1 y2 y3 y4 q12.2) else (fX7_gladdestSet_j58 this (fX7_gladdestSet_L7 this n) y1 y4 v13 q12.2))))
def fX7_gladdestSet (this : Nat) (a1 : Option Nat) (st : zS) : Option (Int32 × zS) :=
  fX7_gladdestSet_L7 this zF a1 (-1 : Int32) (0 : Int32) (0 : Int32) st
set_option maxRecDepth 100000 in
set_option maxHeartbeats 4000000 in
theorem kX7_gladdestSet (l : Launch) (Z : zZ) (b : Nat) (x : Option Nat) (this : Nat) (a1 : Option Nat) (st : zS) : zC l Z spX b x yX7_gladdestSet (.code yX7_gladdestSet cX7_gladdestSet 7 (some .int)) (rmX7_gladdestSet) rI [vP (some this), vP a1] st (fX7_gladdestSet this a1 st) := by
  refine z_start (own := RX7) rfl (by decide +kernel) (Nat.le_of_ble_eq_true rfl) rfl (fun p e s m args below meth c res Q A X hK hr hlocks hQ => ?_)
  have J7 : ∀ (n7 : Nat) (y1 : Option Nat) (y2 : Int32) (y3 : Int32) (y4 : Int32) (st : zS), zs p l e (rmX7_gladdestSet) s m args below meth c Q Z spX b x A 7 0 0 res (fX7_gladdestSet_L7 this n7 y1 y2 y3 y4 st) 7 [(0, vP (some this)), (1, vP y1), (2, vI y2), (3, vI y3), (4, vI y4)] [] st := by
    intro n7
    induction n7 with
    | zero => intros; exact z_none
    | succ n7 ih7 =>
      have J69 : ∀ (y1 : Option Nat) (y2 : Int32) (y3 : Int32) (y4 : Int32) (st : zS), zs p l e (rmX7_gladdestSet) s m args below meth c Q Z spX b x A 7 0 0 res (fX7_gladdestSet_j69 this (fX7_gladdestSet_L7 this n7) y1 y2 y3 y4 st) 69 [(0, vP (some this)), (1, vP y1), (2, vI y2), (3, vI y3), (4, vI y4)] [] st := by
        intro y1 y2 y3 y4 st
        rw [fX7_gladdestSet_j69]
        refine z_iinc X (q := 4) (y := y4 + (1 : Int32)) dX7_gladdestSet_69 rfl rfl (Nat.le_of_ble_eq_true rfl) rfl ?_
        refine z_goto X (tgt := 7) dX7_gladdestSet_72 (by decide) ?_
        exact z_sub [1, 2, 3, 4, 0] (ih7 _ _ _ _ _) rfl
      have J58 : ∀ (y1 : Option Nat) (y4 : Int32) (y6 : Int32) (st : zS), zs p l e (rmX7_gladdestSet) s m args below meth c Q Z spX b x A 7 0 0 res (fX7_gladdestSet_j58 this (fX7_gladdestSet_L7 this n7) y1 y4 y6 st) 58 [(0, vP (some this)), (1, vP y1), (4, vI y4), (6, vI y6)] [] st := by
        intro y1 y4 y6 st
        rw [fX7_gladdestSet_j58]
        refine z_aload_n X (q := 0) dX7_gladdestSet_58 rfl rfl ?_
        refine z_getr X hK (N := 14) (ci := 7) (k := 1) rfl (by decide) inlX7 (by decide) hf_X7_13 rfl spX_X7 rfl dX7_gladdestSet_59 (fun o1 _ => ?_)
        refine z_iload X (q := 2) dX7_gladdestSet_62 rfl ?_
        refine z_iald X hK dX7_gladdestSet_64 (fun o2 j3 _ _ => ?_)
        refine z_name (fun v4 => ?_)
        refine z_istore_n X dX7_gladdestSet_65 rfl (Nat.le_of_ble_eq_true rfl) rfl ?_
        refine z_iload X (q := 4) dX7_gladdestSet_66 rfl ?_
        refine z_istore_n X dX7_gladdestSet_68 rfl (Nat.le_of_ble_eq_true rfl) rfl ?_
        exact z_sub [2, 3, 1, 0, 4] (J69 _ _ _ _ _) rfl
      intro y1 y2 y3 y4 st
      rw [fX7_gladdestSet_L7]
      refine z_iload X (q := 4) dX7_gladdestSet_7 rfl ?_
      refine z_aload_n X (q := 0) dX7_gladdestSet_9 rfl rfl ?_
      refine z_getr X hK (N := 14) (ci := 7) (k := 1) rfl (by decide) inlX7 (by decide) hf_X7_13 rfl spX_X7 rfl dX7_gladdestSet_10 (fun o5 _ => ?_)
      refine z_alen X hK dX7_gladdestSet_13 spX_14 (fun o6 _ => ?_)
      refine z_icmp_ge X (tgt := 75) dX7_gladdestSet_14 (by decide) (fun _ => ?_) (fun _ => ?_)
      · refine z_iload_n X (q := 2) dX7_gladdestSet_75 rfl rfl ?_
        subst hQ; exact z_iret X hlocks hr dX7_gladdestSet_76
      · refine z_aload_n X (q := 1) dX7_gladdestSet_17 rfl rfl ?_
        refine z_aload_n X (q := 0) dX7_gladdestSet_18 rfl rfl ?_
        refine z_getr X hK (N := 14) (ci := 7) (k := 1) rfl (by decide) inlX7 (by decide) hf_X7_13 rfl spX_X7 rfl dX7_gladdestSet_19 (fun o7 _ => ?_)
        refine z_iload X (q := 4) dX7_gladdestSet_22 rfl ?_
        refine z_iald X hK dX7_gladdestSet_24 (fun o8 j9 _ _ => ?_)
        refine z_callV X hK (As := [vI (st.2.1 o8 j9)]) (ci := 6) rfl (by decide) (fun o => (kX6_givenBy l Z  b x o _ _)) hk_X7_118 ⟨rfl, rfl⟩ hd_X6_givenBy ⟨Nat.le_of_ble_eq_true rfl, Nat.le_of_ble_eq_true rfl⟩ ⟨Nat.le_of_ble_eq_true rfl, Nat.le_of_ble_eq_true rfl⟩ rfl rfl (Nat.le_of_ble_eq_true rfl) dX7_gladdestSet_25 (fun _ q10 _ => ?_)
        refine z_name (fun v11 => ?_)
        refine z_istore X dX7_gladdestSet_28 (Nat.le_of_ble_eq_true rfl) rfl ?_
        refine z_iload X (q := 0) dX7_gladdestSet_30 rfl ?_
        refine z_iconst X (v := (-1 : Int32)) dX7_gladdestSet_32 (by decide) ?_
        refine z_icmp_ne X (tgt := 39) dX7_gladdestSet_33 (by decide) (fun _ => ?_) (fun _ => ?_)
        · refine z_aload_n X (q := 2) dX7_gladdestSet_39 rfl rfl ?_
          refine z_iload X (q := 0) dX7_gladdestSet_40 rfl ?_
          refine z_callV X hK (As := [vI v11]) (ci := 6) rfl (by decide) (fun o => (kX6_gladOf l Z  b x o _ _)) hk_X7_127 ⟨rfl, rfl⟩ hd_X6_gladOf ⟨Nat.le_of_ble_eq_true rfl, Nat.le_of_ble_eq_true rfl⟩ ⟨Nat.le_of_ble_eq_true rfl, Nat.le_of_ble_eq_true rfl⟩ rfl rfl (Nat.le_of_ble_eq_true rfl) dX7_gladdestSet_42 (fun _ q12 _ => ?_)
          refine z_name (fun v13 => ?_)
          refine z_istore X dX7_gladdestSet_45 (Nat.le_of_ble_eq_true rfl) rfl ?_
          refine z_iload_n X (q := 4) dX7_gladdestSet_47 rfl rfl ?_
          refine z_iconst X (v := (-1 : Int32)) dX7_gladdestSet_48 (by decide) ?_
          refine z_icmp_eq X (tgt := 58) dX7_gladdestSet_49 (by decide) (fun _ => ?_) (fun _ => ?_)
          · exact z_sub [2, 3, 6, 0] (J58 _ _ _ _) rfl
          · refine z_iload X (q := 0) dX7_gladdestSet_52 rfl ?_
            refine z_iload_n X (q := 5) dX7_gladdestSet_54 rfl rfl ?_
            refine z_icmp_le X (tgt := 69) dX7_gladdestSet_55 (by decide) (fun _ => ?_) (fun _ => ?_)
            · exact z_sub [2, 3, 4, 5, 6] (J69 _ _ _ _ _) rfl
            · exact z_sub [2, 3, 6, 0] (J58 _ _ _ _) rfl
        · refine z_goto X (tgt := 69) dX7_gladdestSet_36 (by decide) ?_
          exact z_sub [1, 2, 3, 4, 5] (J69 _ _ _ _ _) rfl
  rw [fX7_gladdestSet]
  refine z_iconst X (v := (-1 : Int32)) dX7_gladdestSet_0 (by decide) ?_
  refine z_istore_n X dX7_gladdestSet_1 rfl (Nat.le_of_ble_eq_true rfl) rfl ?_
  refine z_iconst X (v := (0 : Int32)) dX7_gladdestSet_2 (by decide) ?_
  refine z_istore_n X dX7_gladdestSet_3 rfl (Nat.le_of_ble_eq_true rfl) rfl ?_
  refine z_iconst X (v := (0 : Int32)) dX7_gladdestSet_4 (by decide) ?_
  refine z_istore X dX7_gladdestSet_5 (Nat.le_of_ble_eq_true rfl) rfl ?_
  exact z_sub [3, 4, 2, 1, 0] (J7 _ _ _ _ _ _) rfl
theorem zw_435 : Cond.methodLink RX7 189 yX7_gladdestSet ∈ wsL_law := zr_39 _ (by decide +kernel)
theorem zw_436 : Cond.instanceMethod yX7_gladdestSet ∈ wsL_law := zr_39 _ (by decide +kernel)
theorem zw_437 : Cond.selects RX7 yX7_gladdestSet yX7_gladdestSet ∈ wsL_law := zr_39 _ (by decide +kernel)
theorem zw_438 : Cond.code yX7_gladdestSet cX7_gladdestSet 7 (some .int) ∈ wsL_law := zr_40 _ (by decide +kernel)
theorem hk_X7_189 : ∀ w ∈ ([Cond.methodLink RX7 189 yX7_gladdestSet, Cond.instanceMethod yX7_gladdestSet, Cond.selects RX7 yX7_gladdestSet yX7_gladdestSet, Cond.initialized RX7, Cond.code yX7_gladdestSet cX7_gladdestSet 7 (some .int)] : List Cond), w ∈ wsL_law := List.forall_mem_cons.mpr ⟨zw_435, List.forall_mem_cons.mpr ⟨zw_436, List.forall_mem_cons.mpr ⟨zw_437, List.forall_mem_cons.mpr ⟨zw_322, List.forall_mem_cons.mpr ⟨zw_438, fun _ h => absurd h List.not_mem_nil⟩⟩⟩⟩⟩
theorem hd_X7_gladdestSet : yX7_gladdestSet.cls = RX7 ∧ yX7_gladdestSet.cls ≠ "java/lang/invoke/MethodHandle" ∧ yX7_gladdestSet.cls ≠ "java/lang/invoke/VarHandle" ∧ (parseMethodDescriptor yX7_gladdestSet.desc).map (fun d => d.parameters.length) = some 1 := by decide +kernel
abbrev rmX7_gladdest : Room := { frames := 6, cells := 0, slots := 0, locals := 162 }
def fX7_gladdest (this : Nat) (a1 : Int32) (a2 : Int32) (st : zS) : Option (Int32 × zS) :=
  (zok spX st (some this) 7).bind fun o9 => (fX7_visitOf o9 a1 st).bind fun q1 => if q1.1 = none then (some ((-2000 : Int32), q1.2)) else (if a2 < 0 then (some ((-2000 : Int32), q1.2)) else (if a2 ≤ (1 : Int32) then ((zok spX q1.2 (some this) 7).bind fun o8 => (fX7_gladdestSet o8 q1.1 q1.2).bind fun q2 => zlet (q2.1) fun v3 => if a2 = 0 then (some (v3, q2.2)) else (if v3 = (-1 : Int32) then (some ((-1000 : Int32), q2.2)) else ((zok spX q2.2 q1.1 6).bind fun o7 => (fX6_givenBy o7 v3 q2.2).bind fun q4 => (zok spX q4.2 q1.1 6).bind fun o6 => (fX6_gladOf o6 q4.1 q4.2).bind fun q5 => some (q5.1, q5.2)))) else (some ((-2000 : Int32), q1.2))))
set_option maxRecDepth 100000 in
set_option maxHeartbeats 4000000 in
theorem kX7_gladdest (l : Launch) (Z : zZ) (b : Nat) (x : Option Nat) (this : Nat) (a1 : Int32) (a2 : Int32) (st : zS) : zC l Z spX b x yX7_gladdest (.code yX7_gladdest cX7_gladdest 5 (some .int)) (rmX7_gladdest) rI [vP (some this), vI a1, vI a2] st (fX7_gladdest this a1 a2 st) := by
  refine z_start (own := RX7) rfl (by decide +kernel) (Nat.le_of_ble_eq_true rfl) rfl (fun p e s m args below meth c res Q A X hK hr hlocks hQ => ?_)
  rw [fX7_gladdest]
  refine z_aload_n X (q := 0) dX7_gladdest_0 rfl rfl ?_
  refine z_iload_n X (q := 1) dX7_gladdest_1 rfl rfl ?_
  refine z_callV X hK (As := [vI a1]) (ci := 7) rfl (by decide) (fun o => (kX7_visitOf l Z  b x o _ _)) hk_X7_108 ⟨rfl, rfl⟩ hd_X7_visitOf ⟨Nat.le_of_ble_eq_true rfl, Nat.le_of_ble_eq_true rfl⟩ ⟨Nat.le_of_ble_eq_true rfl, Nat.le_of_ble_eq_true rfl⟩ rfl rfl (Nat.le_of_ble_eq_true rfl) dX7_gladdest_2 (fun _ q1 _ => ?_)
  refine z_astore_n X dX7_gladdest_5 rfl (Nat.le_of_ble_eq_true rfl) rfl ?_
  refine z_aload_n X (q := 0) dX7_gladdest_6 rfl rfl ?_
  refine z_ifnull X (tgt := 19) dX7_gladdest_7 (by decide) (fun _ => ?_) (fun _ => ?_)
  · refine z_sipush X (v := (-2000 : Int32)) dX7_gladdest_19 (by decide) ?_
    subst hQ; exact z_iret X hlocks hr dX7_gladdest_22
  · refine z_iload_n X (q := 3) dX7_gladdest_10 rfl rfl ?_
    refine z_if_lt X (tgt := 19) dX7_gladdest_11 (by decide) (fun _ => ?_) (fun _ => ?_)
    · refine z_sipush X (v := (-2000 : Int32)) dX7_gladdest_19 (by decide) ?_
      subst hQ; exact z_iret X hlocks hr dX7_gladdest_22
    · refine z_iload_n X (q := 3) dX7_gladdest_14 rfl rfl ?_
      refine z_iconst X (v := (1 : Int32)) dX7_gladdest_15 (by decide) ?_
      refine z_icmp_le X (tgt := 23) dX7_gladdest_16 (by decide) (fun _ => ?_) (fun _ => ?_)
      · refine z_aload_n X (q := 1) dX7_gladdest_23 rfl rfl ?_
        refine z_aload_n X (q := 0) dX7_gladdest_24 rfl rfl ?_
        refine z_callV X hK (As := [vP q1.1]) (ci := 7) rfl (by decide) (fun o => (kX7_gladdestSet l Z  b x o _ _)) hk_X7_189 ⟨rfl, rfl⟩ hd_X7_gladdestSet ⟨Nat.le_of_ble_eq_true rfl, Nat.le_of_ble_eq_true rfl⟩ ⟨Nat.le_of_ble_eq_true rfl, Nat.le_of_ble_eq_true rfl⟩ rfl rfl (Nat.le_of_ble_eq_true rfl) dX7_gladdest_25 (fun _ q2 _ => ?_)
        refine z_name (fun v3 => ?_)
        refine z_istore X dX7_gladdest_28 (Nat.le_of_ble_eq_true rfl) rfl ?_
        refine z_iload_n X (q := 4) dX7_gladdest_30 rfl rfl ?_
        refine z_if_ne X (tgt := 37) dX7_gladdest_31 (by decide) (fun _ => ?_) (fun _ => ?_)
        · refine z_iload X (q := 0) dX7_gladdest_37 rfl ?_
          refine z_iconst X (v := (-1 : Int32)) dX7_gladdest_39 (by decide) ?_
          refine z_icmp_ne X (tgt := 49) dX7_gladdest_40 (by decide) (fun _ => ?_) (fun _ => ?_)
          · refine z_aload_n X (q := 1) dX7_gladdest_49 rfl rfl ?_
            refine z_aload_n X (q := 1) dX7_gladdest_50 rfl rfl ?_
            refine z_iload X (q := 0) dX7_gladdest_51 rfl ?_
            refine z_callV X hK (As := [vI v3]) (ci := 6) rfl (by decide) (fun o => (kX6_givenBy l Z  b x o _ _)) hk_X7_118 ⟨rfl, rfl⟩ hd_X6_givenBy ⟨Nat.le_of_ble_eq_true rfl, Nat.le_of_ble_eq_true rfl⟩ ⟨Nat.le_of_ble_eq_true rfl, Nat.le_of_ble_eq_true rfl⟩ rfl rfl (Nat.le_of_ble_eq_true rfl) dX7_gladdest_53 (fun _ q4 _ => ?_)
            refine z_callV X hK (As := [vI q4.1]) (ci := 6) rfl (by decide) (fun o => (kX6_gladOf l Z  b x o _ _)) hk_X7_127 ⟨rfl, rfl⟩ hd_X6_gladOf ⟨Nat.le_of_ble_eq_true rfl, Nat.le_of_ble_eq_true rfl⟩ ⟨Nat.le_of_ble_eq_true rfl, Nat.le_of_ble_eq_true rfl⟩ rfl rfl (Nat.le_of_ble_eq_true rfl) dX7_gladdest_56 (fun _ q5 _ => ?_)
            subst hQ; exact z_iret X hlocks hr dX7_gladdest_59
          · refine z_sipush X (v := (-1000 : Int32)) dX7_gladdest_43 (by decide) ?_
            refine z_goto X (tgt := 59) dX7_gladdest_46 (by decide) ?_
            subst hQ; exact z_iret X hlocks hr dX7_gladdest_59
        · refine z_iload X (q := 0) dX7_gladdest_34 rfl ?_
          subst hQ; exact z_iret X hlocks hr dX7_gladdest_36
      · refine z_sipush X (v := (-2000 : Int32)) dX7_gladdest_19 (by decide) ?_
        subst hQ; exact z_iret X hlocks hr dX7_gladdest_22
theorem zw_439 : Cond.methodLink RX7 266 yX1_keep ∈ wsL_law := zr_47 _ (by decide +kernel)
theorem zw_440 : Cond.instanceMethod yX1_keep ∈ wsL_law := zr_47 _ (by decide +kernel)
theorem zw_441 : Cond.selects RX1 yX1_keep yX1_keep ∈ wsL_law := zr_47 _ (by decide +kernel)
theorem zw_442 : Cond.code yX1_keep cX1_keep 4 none ∈ wsL_law := zr_47 _ (by decide +kernel)
theorem hk_X7_266 : ∀ w ∈ ([Cond.methodLink RX7 266 yX1_keep, Cond.instanceMethod yX1_keep, Cond.selects RX1 yX1_keep yX1_keep, Cond.initialized RX1, Cond.code yX1_keep cX1_keep 4 none] : List Cond), w ∈ wsL_law := List.forall_mem_cons.mpr ⟨zw_439, List.forall_mem_cons.mpr ⟨zw_440, List.forall_mem_cons.mpr ⟨zw_441, List.forall_mem_cons.mpr ⟨zw_228, List.forall_mem_cons.mpr ⟨zw_442, fun _ h => absurd h List.not_mem_nil⟩⟩⟩⟩⟩
theorem hd_X1_keep : yX1_keep.cls = RX1 ∧ yX1_keep.cls ≠ "java/lang/invoke/MethodHandle" ∧ yX1_keep.cls ≠ "java/lang/invoke/VarHandle" ∧ (parseMethodDescriptor yX1_keep.desc).map (fun d => d.parameters.length) = some 3 := by decide +kernel
abbrev rmX7_image : Room := { frames := 4, cells := 0, slots := 0, locals := 106 }
def fX7_image (this : Nat) (st : zS) : Option (Int32 × zS) :=
  (zok spX st (some this) 7).bind fun o1 => (zok spX st (some this) 7).bind fun o2 => (zok spX st (some this) 7).bind fun o3 => (zok spX st (some this) 7).bind fun o4 => (zok spX st (st.2.2.2 o1 8) 1).bind fun o15 => (fX1_keep o15 (st.2.2.2 o2 0) (st.2.2.2 o3 3) (st.2.1 o4 10) st).bind fun q5 => (zok spX q5.2 (some this) 7).bind fun o6 => (zok spX q5.2 (some this) 7).bind fun o7 => (zok spX q5.2 (q5.2.2.2.2 o6 8) 1).bind fun o8 => zlet (zp q5.2 o8 2 (q5.2.2.1 o7 9)) fun st9 => (zok spX st9 (some this) 7).bind fun o10 => (zok spX st9 (some this) 7).bind fun o11 => (zok spX st9 (st9.2.2.2 o10 8) 1).bind fun o12 => zlet (zp st9 o12 3 (st9.2.1 o11 12)) fun st13 => (zok spX st13 (some this) 7).bind fun o14 => some ((st13.2.1 o14 10), st13)
set_option maxRecDepth 100000 in
set_option maxHeartbeats 4000000 in
theorem kX7_image (l : Launch) (Z : zZ) (b : Nat) (x : Option Nat) (this : Nat) (st : zS) : zC l Z spX b x yX7_image (.code yX7_image cX7_image 1 (some .int)) (rmX7_image) rI [vP (some this)] st (fX7_image this st) := by
  refine z_start (own := RX7) rfl (by decide +kernel) (Nat.le_of_ble_eq_true rfl) rfl (fun p e s m args below meth c res Q A X hK hr hlocks hQ => ?_)
  rw [fX7_image]
  refine z_aload_n X (q := 0) dX7_image_0 rfl rfl ?_
  refine z_getr X hK (N := 14) (ci := 7) (k := 8) rfl (by decide) inlX7 (by decide) hf_X7_56 rfl spX_X7 rfl dX7_image_1 (fun o1 _ => ?_)
  refine z_aload_n X (q := 0) dX7_image_4 rfl rfl ?_
  refine z_getr X hK (N := 14) (ci := 7) (k := 0) rfl (by decide) inlX7 (by decide) hf_X7_9 rfl spX_X7 rfl dX7_image_5 (fun o2 _ => ?_)
  refine z_aload_n X (q := 0) dX7_image_8 rfl rfl ?_
  refine z_getr X hK (N := 14) (ci := 7) (k := 3) rfl (by decide) inlX7 (by decide) hf_X7_21 rfl spX_X7 rfl dX7_image_9 (fun o3 _ => ?_)
  refine z_aload_n X (q := 0) dX7_image_12 rfl rfl ?_
  refine z_geti X hK (N := 14) (ci := 7) (k := 10) rfl (by decide) inlX7 (by decide) hf_X7_99 rfl spX_X7 rfl dX7_image_13 (fun o4 _ => ?_)
  refine z_callV X hK (As := [vP (st.2.2.2 o2 0), vP (st.2.2.2 o3 3), vI (st.2.1 o4 10)]) (ci := 1) rfl (by decide) (fun o => (kX1_keep l Z  b x o _ _ _ _)) hk_X7_266 ⟨rfl, rfl⟩ hd_X1_keep ⟨Nat.le_of_ble_eq_true rfl, Nat.le_of_ble_eq_true rfl⟩ ⟨Nat.le_of_ble_eq_true rfl, Nat.le_of_ble_eq_true rfl⟩ rfl rfl (Nat.le_of_ble_eq_true rfl) dX7_image_16 (fun _ q5 _ => ?_)
  refine z_aload_n X (q := 0) dX7_image_19 rfl rfl ?_
  refine z_getr X hK (N := 14) (ci := 7) (k := 8) rfl (by decide) inlX7 (by decide) hf_X7_56 rfl spX_X7 rfl dX7_image_20 (fun o6 _ => ?_)
  refine z_aload_n X (q := 0) dX7_image_23 rfl rfl ?_
  refine z_geti X hK (N := 14) (ci := 7) (k := 9) rfl (by decide) inlX7 (by decide) hf_X7_85 rfl spX_X7 rfl dX7_image_24 (fun o7 _ => ?_)
  refine z_puti X hK (N := 5) (ci := 1) (k := 2) rfl (by decide) inlX1 tyX1 tyX1_ok nmX1 (by decide) hf_X7_270 rfl rfl spX_X1 rfl (by decide +kernel) dX7_image_27 (fun o8 st9 _ => ?_)
  refine z_aload_n X (q := 0) dX7_image_30 rfl rfl ?_
  refine z_getr X hK (N := 14) (ci := 7) (k := 8) rfl (by decide) inlX7 (by decide) hf_X7_56 rfl spX_X7 rfl dX7_image_31 (fun o10 _ => ?_)
  refine z_aload_n X (q := 0) dX7_image_34 rfl rfl ?_
  refine z_geti X hK (N := 14) (ci := 7) (k := 12) rfl (by decide) inlX7 (by decide) hf_X7_137 rfl spX_X7 rfl dX7_image_35 (fun o11 _ => ?_)
  refine z_puti X hK (N := 5) (ci := 1) (k := 3) rfl (by decide) inlX1 tyX1 tyX1_ok nmX1 (by decide) hf_X7_271 rfl rfl spX_X1 rfl (by decide +kernel) dX7_image_38 (fun o12 st13 _ => ?_)
  refine z_aload_n X (q := 0) dX7_image_41 rfl rfl ?_
  refine z_geti X hK (N := 14) (ci := 7) (k := 10) rfl (by decide) inlX7 (by decide) hf_X7_99 rfl spX_X7 rfl dX7_image_42 (fun o14 _ => ?_)
  subst hQ; exact z_iret X hlocks hr dX7_image_45
abbrev rmX7_isRuledOut : Room := { frames := 2, cells := 0, slots := 0, locals := 61 }
def fX7_isRuledOut_j62 (k2 : Option Nat → Int32 → Int32 → Int32 → zS → Option (Int32 × zS)) (y0 : Option Nat) (y1 : Int32) (y2 : Int32) (y3 : Int32) (st : zS) : Option (Int32 × zS) :=
  k2 y0 y1 y2 (y3 + (2 : Int32)) st
def fX7_isRuledOut_j45 (k2 : Option Nat → Int32 → Int32 → Int32 → zS → Option (Int32 × zS)) (y0 : Option Nat) (y1 : Int32) (y2 : Int32) (y3 : Int32) (y4 : Int32) (y5 : Int32) (st : zS) : Option (Int32 × zS) :=
  if y5 = y2 then (if ((y4 >>> (y1 &&& 31)) &&& (1 : Int32)) = 0 then (fX7_isRuledOut_j62 k2 y0 y1 y2 y3 st) else (some ((1 : Int32), st))) else (fX7_isRuledOut_j62 k2 y0 y1 y2 y3 st)
def fX7_isRuledOut_L2 : Nat → Option Nat → Int32 → Int32 → Int32 → zS → Option (Int32 × zS)
  | 0, _, _, _, _, _ => none
  | n + 1, y0, y1, y2, y3, st => (zok spX st y0 3).bind fun o1 => if (st.2.1 o1 2) ≤ (y3 + (1 : Int32)) then (some ((0 : Int32), st)) else ((zok spX st y0 3).bind fun o7 => (fX3_at o7 y3 st).bind fun q2 => zlet (q2.1) fun v3 => (zok spX q2.2 y0 3).bind fun o6 => (fX3_at o6 (y3 + (1 : Int32)) q2.2).bind fun q4 => zlet (q4.1) fun v5 => if v5 = y1 then (if ((v3 >>> (y2 &&& 31)) &&& (1 : Int32)) = 0 then (fX7_isRuledOut_j45 (fX7_isRuledOut_L2 n) y0 y1 y2 y3 v3 v5 q4.2) else (some ((1 : Int32), q4.2))) else (fX7_isRuledOut_j45 (fX7_isRuledOut_L2 n) y0 y1 y2 y3 v3 v5 q4.2))
def fX7_isRuledOut (a0 : Option Nat) (a1 : Int32) (a2 : Int32) (st : zS) : Option (Int32 × zS) :=
  fX7_isRuledOut_L2 zF a0 a1 a2 (0 : Int32) st
set_option maxRecDepth 100000 in
set_option maxHeartbeats 4000000 in
theorem kX7_isRuledOut (l : Launch) (Z : zZ) (b : Nat) (x : Option Nat) (a0 : Option Nat) (a1 : Int32) (a2 : Int32) (st : zS) : zC l Z spX b x yX7_isRuledOut (.code yX7_isRuledOut cX7_isRuledOut 6 (some .boolean)) (rmX7_isRuledOut) rI [vP a0, vI a1, vI a2] st (fX7_isRuledOut a0 a1 a2 st) := by
  refine z_start (own := RX7) rfl (by decide +kernel) (Nat.le_of_ble_eq_true rfl) rfl (fun p e s m args below meth c res Q A X hK hr hlocks hQ => ?_)
  have J2 : ∀ (n2 : Nat) (y0 : Option Nat) (y1 : Int32) (y2 : Int32) (y3 : Int32) (st : zS), zs p l e (rmX7_isRuledOut) s m args below meth c Q Z spX b x A 6 0 0 res (fX7_isRuledOut_L2 n2 y0 y1 y2 y3 st) 2 [(0, vP y0), (1, vI y1), (2, vI y2), (3, vI y3)] [] st := by
    intro n2
    induction n2 with
    | zero => intros; exact z_none
    | succ n2 ih2 =>
      have J62 : ∀ (y0 : Option Nat) (y1 : Int32) (y2 : Int32) (y3 : Int32) (st : zS), zs p l e (rmX7_isRuledOut) s m args below meth c Q Z spX b x A 6 0 0 res (fX7_isRuledOut_j62 (fX7_isRuledOut_L2 n2) y0 y1 y2 y3 st) 62 [(0, vP y0), (1, vI y1), (2, vI y2), (3, vI y3)] [] st := by
        intro y0 y1 y2 y3 st
        rw [fX7_isRuledOut_j62]
        refine z_iinc X (q := 3) (y := y3 + (2 : Int32)) dX7_isRuledOut_62 rfl rfl (Nat.le_of_ble_eq_true rfl) rfl ?_
        refine z_goto X (tgt := 2) dX7_isRuledOut_65 (by decide) ?_
        exact z_sub [1, 2, 3, 0] (ih2 _ _ _ _ _) rfl
      have J45 : ∀ (y0 : Option Nat) (y1 : Int32) (y2 : Int32) (y3 : Int32) (y4 : Int32) (y5 : Int32) (st : zS), zs p l e (rmX7_isRuledOut) s m args below meth c Q Z spX b x A 6 0 0 res (fX7_isRuledOut_j45 (fX7_isRuledOut_L2 n2) y0 y1 y2 y3 y4 y5 st) 45 [(0, vP y0), (1, vI y1), (2, vI y2), (3, vI y3), (4, vI y4), (5, vI y5)] [] st := by
        intro y0 y1 y2 y3 y4 y5 st
        rw [fX7_isRuledOut_j45]
        refine z_iload X (q := 5) dX7_isRuledOut_45 rfl ?_
        refine z_iload_n X (q := 2) dX7_isRuledOut_47 rfl rfl ?_
        refine z_icmp_ne X (tgt := 62) dX7_isRuledOut_48 (by decide) (fun _ => ?_) (fun _ => ?_)
        · exact z_sub [0, 1, 2, 3] (J62 _ _ _ _ _) rfl
        · refine z_iload X (q := 4) dX7_isRuledOut_51 rfl ?_
          refine z_iload_n X (q := 1) dX7_isRuledOut_53 rfl rfl ?_
          refine z_ishr X dX7_isRuledOut_54 ?_
          refine z_iconst X (v := (1 : Int32)) dX7_isRuledOut_55 (by decide) ?_
          refine z_iand X dX7_isRuledOut_56 ?_
          refine z_if_eq X (tgt := 62) dX7_isRuledOut_57 (by decide) (fun _ => ?_) (fun _ => ?_)
          · exact z_sub [0, 1, 2, 3] (J62 _ _ _ _ _) rfl
          · refine z_iconst X (v := (1 : Int32)) dX7_isRuledOut_60 (by decide) ?_
            subst hQ; exact z_zretc X hlocks hr (by decide) dX7_isRuledOut_61
      intro y0 y1 y2 y3 st
      rw [fX7_isRuledOut_L2]
      refine z_iload_n X (q := 3) dX7_isRuledOut_2 rfl rfl ?_
      refine z_iconst X (v := (1 : Int32)) dX7_isRuledOut_3 (by decide) ?_
      refine z_iadd X dX7_isRuledOut_4 ?_
      refine z_aload_n X (q := 0) dX7_isRuledOut_5 rfl rfl ?_
      refine z_geti X hK (N := 3) (ci := 3) (k := 2) rfl (by decide) inlX3 (by decide) hf_X7_228 rfl spX_X3 rfl dX7_isRuledOut_6 (fun o1 _ => ?_)
      refine z_icmp_ge X (tgt := 68) dX7_isRuledOut_9 (by decide) (fun _ => ?_) (fun _ => ?_)
      · refine z_iconst X (v := (0 : Int32)) dX7_isRuledOut_68 (by decide) ?_
        subst hQ; exact z_zretc X hlocks hr (by decide) dX7_isRuledOut_69
      · refine z_aload_n X (q := 0) dX7_isRuledOut_12 rfl rfl ?_
        refine z_iload_n X (q := 3) dX7_isRuledOut_13 rfl rfl ?_
        refine z_callV X hK (As := [vI y3]) (ci := 3) rfl (by decide) (fun o => (kX3_at l Z  b x o _ _)) hk_X7_293 ⟨rfl, rfl⟩ hd_X3_at ⟨Nat.le_of_ble_eq_true rfl, Nat.le_of_ble_eq_true rfl⟩ ⟨Nat.le_of_ble_eq_true rfl, Nat.le_of_ble_eq_true rfl⟩ rfl rfl (Nat.le_of_ble_eq_true rfl) dX7_isRuledOut_14 (fun _ q2 _ => ?_)
        refine z_name (fun v3 => ?_)
        refine z_istore X dX7_isRuledOut_17 (Nat.le_of_ble_eq_true rfl) rfl ?_
        refine z_aload_n X (q := 1) dX7_isRuledOut_19 rfl rfl ?_
        refine z_iload_n X (q := 4) dX7_isRuledOut_20 rfl rfl ?_
        refine z_iconst X (v := (1 : Int32)) dX7_isRuledOut_21 (by decide) ?_
        refine z_iadd X dX7_isRuledOut_22 ?_
        refine z_callV X hK (As := [vI (y3 + (1 : Int32))]) (ci := 3) rfl (by decide) (fun o => (kX3_at l Z  b x o _ _)) hk_X7_293 ⟨rfl, rfl⟩ hd_X3_at ⟨Nat.le_of_ble_eq_true rfl, Nat.le_of_ble_eq_true rfl⟩ ⟨Nat.le_of_ble_eq_true rfl, Nat.le_of_ble_eq_true rfl⟩ rfl rfl (Nat.le_of_ble_eq_true rfl) dX7_isRuledOut_23 (fun _ q4 _ => ?_)
        refine z_name (fun v5 => ?_)
        refine z_istore X dX7_isRuledOut_26 (Nat.le_of_ble_eq_true rfl) rfl ?_
        refine z_iload X (q := 0) dX7_isRuledOut_28 rfl ?_
        refine z_iload_n X (q := 3) dX7_isRuledOut_30 rfl rfl ?_
        refine z_icmp_ne X (tgt := 45) dX7_isRuledOut_31 (by decide) (fun _ => ?_) (fun _ => ?_)
        · exact z_sub [2, 3, 4, 5, 1, 0] (J45 _ _ _ _ _ _ _) rfl
        · refine z_iload X (q := 1) dX7_isRuledOut_34 rfl ?_
          refine z_iload_n X (q := 4) dX7_isRuledOut_36 rfl rfl ?_
          refine z_ishr X dX7_isRuledOut_37 ?_
          refine z_iconst X (v := (1 : Int32)) dX7_isRuledOut_38 (by decide) ?_
          refine z_iand X dX7_isRuledOut_39 ?_
          refine z_if_eq X (tgt := 45) dX7_isRuledOut_40 (by decide) (fun _ => ?_) (fun _ => ?_)
          · exact z_sub [2, 3, 4, 5, 1, 0] (J45 _ _ _ _ _ _ _) rfl
          · refine z_iconst X (v := (1 : Int32)) dX7_isRuledOut_43 (by decide) ?_
            subst hQ; exact z_zretc X hlocks hr (by decide) dX7_isRuledOut_44
  rw [fX7_isRuledOut]
  refine z_iconst X (v := (0 : Int32)) dX7_isRuledOut_0 (by decide) ?_
  refine z_istore_n X dX7_isRuledOut_1 rfl (Nat.le_of_ble_eq_true rfl) rfl ?_
  exact z_sub [1, 2, 3, 0] (J2 _ _ _ _ _ _) rfl
theorem zw_443 : Cond.methodLink RX7 180 yX7_fewestLeaving ∈ wsL_law := zr_39 _ (by decide +kernel)
theorem zw_444 : Cond.static yX7_fewestLeaving ∈ wsL_law := zr_39 _ (by decide +kernel)
theorem zw_445 : Cond.code yX7_fewestLeaving cX7_fewestLeaving 7 (some .int) ∈ wsL_law := zr_39 _ (by decide +kernel)
theorem hk_X7_180 : ∀ w ∈ ([Cond.methodLink RX7 180 yX7_fewestLeaving, Cond.static yX7_fewestLeaving, Cond.initialized RX7, Cond.code yX7_fewestLeaving cX7_fewestLeaving 7 (some .int)] : List Cond), w ∈ wsL_law := List.forall_mem_cons.mpr ⟨zw_443, List.forall_mem_cons.mpr ⟨zw_444, List.forall_mem_cons.mpr ⟨zw_322, List.forall_mem_cons.mpr ⟨zw_445, fun _ h => absurd h List.not_mem_nil⟩⟩⟩⟩
theorem hd_X7_fewestLeaving : yX7_fewestLeaving.cls = RX7 ∧ yX7_fewestLeaving.cls ≠ "java/lang/invoke/MethodHandle" ∧ yX7_fewestLeaving.cls ≠ "java/lang/invoke/VarHandle" ∧ (parseMethodDescriptor yX7_fewestLeaving.desc).map (fun d => d.parameters.length) = some 2 := by decide +kernel
abbrev rmX7_leave : Room := { frames := 5, cells := 0, slots := 0, locals := 133 }
def fX7_leave_j49 (this : Nat) (y5 : Int32) (st : zS) : Option (Int32 × zS) :=
  some (y5, st)
def fX7_leave (this : Nat) (a1 : Int32) (a2 : Int32) (a3 : Int32) (st : zS) : Option (Int32 × zS) :=
  (zok spX st (some this) 7).bind fun o6 => (fX7_visitOf o6 a1 st).bind fun q1 => if q1.1 = none then (some ((-2 : Int32), q1.2)) else ((fX7_isThing a2 q1.2).bind fun q2 => if q2.1 = 0 then (some ((-2 : Int32), q2.2)) else (if a3 < 0 then (some ((-2 : Int32), q2.2)) else (if a3 ≤ (1 : Int32) then ((fX7_fewestLeaving q1.1 a2 q2.2).bind fun q3 => zlet (q3.1) fun v4 => if a3 = 0 then (fX7_leave_j49 this v4 q3.2) else (if v4 = (-1 : Int32) then (fX7_leave_j49 this v4 q3.2) else ((fJ6_bitCount_0f7a4 v4 q3.2).bind fun q5 => some (q5.1, q5.2)))) else (some ((-2 : Int32), q2.2)))))
set_option maxRecDepth 100000 in
set_option maxHeartbeats 4000000 in
theorem kX7_leave (l : Launch) (Z : zZ) (b : Nat) (x : Option Nat) (this : Nat) (a1 : Int32) (a2 : Int32) (a3 : Int32) (st : zS) : zC l Z spX b x yX7_leave (.code yX7_leave cX7_leave 6 (some .int)) (rmX7_leave) rI [vP (some this), vI a1, vI a2, vI a3] st (fX7_leave this a1 a2 a3 st) := by
  refine z_start (own := RX7) rfl (by decide +kernel) (Nat.le_of_ble_eq_true rfl) rfl (fun p e s m args below meth c res Q A X hK hr hlocks hQ => ?_)
  have J49 : ∀ (y5 : Int32) (st : zS), zs p l e (rmX7_leave) s m args below meth c Q Z spX b x A 6 0 0 res (fX7_leave_j49 this y5 st) 49 [(5, vI y5)] [] st := by
    intro y5 st
    rw [fX7_leave_j49]
    refine z_iload X (q := 0) dX7_leave_49 rfl ?_
    refine z_goto X (tgt := 59) dX7_leave_51 (by decide) ?_
    subst hQ; exact z_iret X hlocks hr dX7_leave_59
  rw [fX7_leave]
  refine z_aload_n X (q := 0) dX7_leave_0 rfl rfl ?_
  refine z_iload_n X (q := 1) dX7_leave_1 rfl rfl ?_
  refine z_callV X hK (As := [vI a1]) (ci := 7) rfl (by decide) (fun o => (kX7_visitOf l Z  b x o _ _)) hk_X7_108 ⟨rfl, rfl⟩ hd_X7_visitOf ⟨Nat.le_of_ble_eq_true rfl, Nat.le_of_ble_eq_true rfl⟩ ⟨Nat.le_of_ble_eq_true rfl, Nat.le_of_ble_eq_true rfl⟩ rfl rfl (Nat.le_of_ble_eq_true rfl) dX7_leave_2 (fun _ q1 _ => ?_)
  refine z_astore X dX7_leave_5 (Nat.le_of_ble_eq_true rfl) rfl ?_
  refine z_aload X (q := 0) dX7_leave_7 rfl ?_
  refine z_ifnull X (tgt := 28) dX7_leave_9 (by decide) (fun _ => ?_) (fun _ => ?_)
  · refine z_bipush X (v := (-2 : Int32)) dX7_leave_28 (by decide) ?_
    subst hQ; exact z_iret X hlocks hr dX7_leave_30
  · refine z_iload_n X (q := 3) dX7_leave_12 rfl rfl ?_
    refine z_callS X hK (As := [vI a2]) (kX7_isThing l Z  b x _ _) hk_X7_77 ⟨rfl, rfl⟩ hd_X7_isThing.2 ⟨Nat.le_of_ble_eq_true rfl, Nat.le_of_ble_eq_true rfl⟩ ⟨Nat.le_of_ble_eq_true rfl, Nat.le_of_ble_eq_true rfl⟩ rfl rfl (Nat.le_of_ble_eq_true rfl) dX7_leave_13 (fun q2 => ?_)
    refine z_if_eq X (tgt := 28) dX7_leave_16 (by decide) (fun _ => ?_) (fun _ => ?_)
    · refine z_bipush X (v := (-2 : Int32)) dX7_leave_28 (by decide) ?_
      subst hQ; exact z_iret X hlocks hr dX7_leave_30
    · refine z_iload_n X (q := 4) dX7_leave_19 rfl rfl ?_
      refine z_if_lt X (tgt := 28) dX7_leave_20 (by decide) (fun _ => ?_) (fun _ => ?_)
      · refine z_bipush X (v := (-2 : Int32)) dX7_leave_28 (by decide) ?_
        subst hQ; exact z_iret X hlocks hr dX7_leave_30
      · refine z_iload_n X (q := 4) dX7_leave_23 rfl rfl ?_
        refine z_iconst X (v := (1 : Int32)) dX7_leave_24 (by decide) ?_
        refine z_icmp_le X (tgt := 31) dX7_leave_25 (by decide) (fun _ => ?_) (fun _ => ?_)
        · refine z_aload X (q := 0) dX7_leave_31 rfl ?_
          refine z_iload_n X (q := 3) dX7_leave_33 rfl rfl ?_
          refine z_callS X hK (As := [vP q1.1, vI a2]) (kX7_fewestLeaving l Z  b x _ _ _) hk_X7_180 ⟨rfl, rfl⟩ hd_X7_fewestLeaving.2 ⟨Nat.le_of_ble_eq_true rfl, Nat.le_of_ble_eq_true rfl⟩ ⟨Nat.le_of_ble_eq_true rfl, Nat.le_of_ble_eq_true rfl⟩ rfl rfl (Nat.le_of_ble_eq_true rfl) dX7_leave_34 (fun q3 => ?_)
          refine z_name (fun v4 => ?_)
          refine z_istore X dX7_leave_37 (Nat.le_of_ble_eq_true rfl) rfl ?_
          refine z_iload_n X (q := 5) dX7_leave_39 rfl rfl ?_
          refine z_if_eq X (tgt := 49) dX7_leave_40 (by decide) (fun _ => ?_) (fun _ => ?_)
          · exact z_sub [0] (J49 _ _) rfl
          · refine z_iload X (q := 0) dX7_leave_43 rfl ?_
            refine z_iconst X (v := (-1 : Int32)) dX7_leave_45 (by decide) ?_
            refine z_icmp_ne X (tgt := 54) dX7_leave_46 (by decide) (fun _ => ?_) (fun _ => ?_)
            · refine z_iload X (q := 0) dX7_leave_54 rfl ?_
              refine z_callS X hK (As := [vI v4]) (kJ6_bitCount_0f7a4 l Z spX b x _ _) hk_X7_184 ⟨rfl, rfl⟩ hd_J6_bitCount_0f7a4.2 ⟨Nat.le_of_ble_eq_true rfl, Nat.le_of_ble_eq_true rfl⟩ ⟨Nat.le_of_ble_eq_true rfl, Nat.le_of_ble_eq_true rfl⟩ rfl rfl (Nat.le_of_ble_eq_true rfl) dX7_leave_56 (fun q5 => ?_)
              subst hQ; exact z_iret X hlocks hr dX7_leave_59
            · exact z_sub [0] (J49 _ _) rfl
        · refine z_bipush X (v := (-2 : Int32)) dX7_leave_28 (by decide) ?_
          subst hQ; exact z_iret X hlocks hr dX7_leave_30
abbrev rmX7_like : Room := { frames := 2, cells := 0, slots := 0, locals := 60 }
def fX7_like (this : Nat) (a1 : Int32) (a2 : Int32) (a3 : Int32) (st : zS) : Option (Int32 × zS) :=
  (fX7_isThing a1 st).bind fun q1 => if q1.1 = 0 then (some ((-2 : Int32), q1.2)) else ((fX7_isThing a2 q1.2).bind fun q2 => if q2.1 = 0 then (some ((-2 : Int32), q2.2)) else (if a1 = a2 then (some ((-2 : Int32), q2.2)) else (if a3 < 0 then (some ((-2 : Int32), q2.2)) else (if a3 ≤ (1 : Int32) then ((zok spX q2.2 (some this) 7).bind fun o3 => (zok spX q2.2 (q2.2.2.2.2 o3 0) 9).bind fun o4 => (zix spX o4 a1).bind fun j5 => zlet ((((q2.2.2.1 o4 j5) >>> (a2 &&& 31)) &&& (1 : Int32))) fun v6 => (zok spX q2.2 (some this) 7).bind fun o7 => (zok spX q2.2 (some this) 7).bind fun o8 => (zok spX q2.2 (q2.2.2.2.2 o8 0) 9).bind fun o9 => (zix spX o9 a1).bind fun j10 => (zok spX q2.2 (q2.2.2.2.2 o7 0) 9).bind fun o11 => (zix spX o11 a1).bind fun j12 => zlet (zp q2.2 o11 j12 (((q2.2.2.1 o9 j10) &&& (((1 : Int32) <<< (a2 &&& 31)) ^^^ (-1 : Int32))) ||| (a3 <<< (a2 &&& 31)))) fun st13 => (zok spX st13 (some this) 7).bind fun o14 => (zok spX st13 (some this) 7).bind fun o15 => (zok spX st13 (st13.2.2.2 o15 0) 9).bind fun o16 => (zix spX o16 a2).bind fun j17 => (zok spX st13 (st13.2.2.2 o14 0) 9).bind fun o18 => (zix spX o18 a2).bind fun j19 => zlet (zp st13 o18 j19 (((st13.2.1 o16 j17) &&& (((1 : Int32) <<< (a1 &&& 31)) ^^^ (-1 : Int32))) ||| (a3 <<< (a1 &&& 31)))) fun st20 => some (v6, st20)) else (some ((-2 : Int32), q2.2))))))
set_option maxRecDepth 100000 in
set_option maxHeartbeats 4000000 in
theorem kX7_like (l : Launch) (Z : zZ) (b : Nat) (x : Option Nat) (this : Nat) (a1 : Int32) (a2 : Int32) (a3 : Int32) (st : zS) : zC l Z spX b x yX7_like (.code yX7_like cX7_like 5 (some .int)) (rmX7_like) rI [vP (some this), vI a1, vI a2, vI a3] st (fX7_like this a1 a2 a3 st) := by
  refine z_start (own := RX7) rfl (by decide +kernel) (Nat.le_of_ble_eq_true rfl) rfl (fun p e s m args below meth c res Q A X hK hr hlocks hQ => ?_)
  rw [fX7_like]
  refine z_iload_n X (q := 1) dX7_like_0 rfl rfl ?_
  refine z_callS X hK (As := [vI a1]) (kX7_isThing l Z  b x _ _) hk_X7_77 ⟨rfl, rfl⟩ hd_X7_isThing.2 ⟨Nat.le_of_ble_eq_true rfl, Nat.le_of_ble_eq_true rfl⟩ ⟨Nat.le_of_ble_eq_true rfl, Nat.le_of_ble_eq_true rfl⟩ rfl rfl (Nat.le_of_ble_eq_true rfl) dX7_like_1 (fun q1 => ?_)
  refine z_if_eq X (tgt := 28) dX7_like_4 (by decide) (fun _ => ?_) (fun _ => ?_)
  · refine z_bipush X (v := (-2 : Int32)) dX7_like_28 (by decide) ?_
    subst hQ; exact z_iret X hlocks hr dX7_like_30
  · refine z_iload_n X (q := 2) dX7_like_7 rfl rfl ?_
    refine z_callS X hK (As := [vI a2]) (kX7_isThing l Z  b x _ _) hk_X7_77 ⟨rfl, rfl⟩ hd_X7_isThing.2 ⟨Nat.le_of_ble_eq_true rfl, Nat.le_of_ble_eq_true rfl⟩ ⟨Nat.le_of_ble_eq_true rfl, Nat.le_of_ble_eq_true rfl⟩ rfl rfl (Nat.le_of_ble_eq_true rfl) dX7_like_8 (fun q2 => ?_)
    refine z_if_eq X (tgt := 28) dX7_like_11 (by decide) (fun _ => ?_) (fun _ => ?_)
    · refine z_bipush X (v := (-2 : Int32)) dX7_like_28 (by decide) ?_
      subst hQ; exact z_iret X hlocks hr dX7_like_30
    · refine z_iload_n X (q := 1) dX7_like_14 rfl rfl ?_
      refine z_iload_n X (q := 2) dX7_like_15 rfl rfl ?_
      refine z_icmp_eq X (tgt := 28) dX7_like_16 (by decide) (fun _ => ?_) (fun _ => ?_)
      · refine z_bipush X (v := (-2 : Int32)) dX7_like_28 (by decide) ?_
        subst hQ; exact z_iret X hlocks hr dX7_like_30
      · refine z_iload_n X (q := 3) dX7_like_19 rfl rfl ?_
        refine z_if_lt X (tgt := 28) dX7_like_20 (by decide) (fun _ => ?_) (fun _ => ?_)
        · refine z_bipush X (v := (-2 : Int32)) dX7_like_28 (by decide) ?_
          subst hQ; exact z_iret X hlocks hr dX7_like_30
        · refine z_iload_n X (q := 3) dX7_like_23 rfl rfl ?_
          refine z_iconst X (v := (1 : Int32)) dX7_like_24 (by decide) ?_
          refine z_icmp_le X (tgt := 31) dX7_like_25 (by decide) (fun _ => ?_) (fun _ => ?_)
          · refine z_aload_n X (q := 0) dX7_like_31 rfl rfl ?_
            refine z_getr X hK (N := 14) (ci := 7) (k := 0) rfl (by decide) inlX7 (by decide) hf_X7_9 rfl spX_X7 rfl dX7_like_32 (fun o3 _ => ?_)
            refine z_iload_n X (q := 1) dX7_like_35 rfl rfl ?_
            refine z_iald X hK dX7_like_36 (fun o4 j5 _ _ => ?_)
            refine z_iload_n X (q := 2) dX7_like_37 rfl rfl ?_
            refine z_ishr X dX7_like_38 ?_
            refine z_iconst X (v := (1 : Int32)) dX7_like_39 (by decide) ?_
            refine z_iand X dX7_like_40 ?_
            refine z_name (fun v6 => ?_)
            refine z_istore X dX7_like_41 (Nat.le_of_ble_eq_true rfl) rfl ?_
            refine z_aload_n X (q := 1) dX7_like_43 rfl rfl ?_
            refine z_getr X hK (N := 14) (ci := 7) (k := 0) rfl (by decide) inlX7 (by decide) hf_X7_9 rfl spX_X7 rfl dX7_like_44 (fun o7 _ => ?_)
            refine z_iload_n X (q := 2) dX7_like_47 rfl rfl ?_
            refine z_aload_n X (q := 1) dX7_like_48 rfl rfl ?_
            refine z_getr X hK (N := 14) (ci := 7) (k := 0) rfl (by decide) inlX7 (by decide) hf_X7_9 rfl spX_X7 rfl dX7_like_49 (fun o8 _ => ?_)
            refine z_iload_n X (q := 2) dX7_like_52 rfl rfl ?_
            refine z_iald X hK dX7_like_53 (fun o9 j10 _ _ => ?_)
            refine z_iconst X (v := (1 : Int32)) dX7_like_54 (by decide) ?_
            refine z_iload_n X (q := 3) dX7_like_55 rfl rfl ?_
            refine z_ishl X dX7_like_56 ?_
            refine z_iconst X (v := (-1 : Int32)) dX7_like_57 (by decide) ?_
            refine z_ixor X dX7_like_58 ?_
            refine z_iand X dX7_like_59 ?_
            refine z_iload_n X (q := 4) dX7_like_60 rfl rfl ?_
            refine z_iload_n X (q := 3) dX7_like_61 rfl rfl ?_
            refine z_ishl X dX7_like_62 ?_
            refine z_ior X dX7_like_63 ?_
            refine z_iast X hK dX7_like_64 (fun o11 j12 st13 _ _ => ?_)
            refine z_aload_n X (q := 1) dX7_like_65 rfl rfl ?_
            refine z_getr X hK (N := 14) (ci := 7) (k := 0) rfl (by decide) inlX7 (by decide) hf_X7_9 rfl spX_X7 rfl dX7_like_66 (fun o14 _ => ?_)
            refine z_iload_n X (q := 3) dX7_like_69 rfl rfl ?_
            refine z_aload_n X (q := 1) dX7_like_70 rfl rfl ?_
            refine z_getr X hK (N := 14) (ci := 7) (k := 0) rfl (by decide) inlX7 (by decide) hf_X7_9 rfl spX_X7 rfl dX7_like_71 (fun o15 _ => ?_)
            refine z_iload_n X (q := 3) dX7_like_74 rfl rfl ?_
            refine z_iald X hK dX7_like_75 (fun o16 j17 _ _ => ?_)
            refine z_iconst X (v := (1 : Int32)) dX7_like_76 (by decide) ?_
            refine z_iload_n X (q := 2) dX7_like_77 rfl rfl ?_
            refine z_ishl X dX7_like_78 ?_
            refine z_iconst X (v := (-1 : Int32)) dX7_like_79 (by decide) ?_
            refine z_ixor X dX7_like_80 ?_
            refine z_iand X dX7_like_81 ?_
            refine z_iload_n X (q := 4) dX7_like_82 rfl rfl ?_
            refine z_iload_n X (q := 2) dX7_like_83 rfl rfl ?_
            refine z_ishl X dX7_like_84 ?_
            refine z_ior X dX7_like_85 ?_
            refine z_iast X hK dX7_like_86 (fun o18 j19 st20 _ _ => ?_)
            refine z_iload X (q := 0) dX7_like_87 rfl ?_
            subst hQ; exact z_iret X hlocks hr dX7_like_89
          · refine z_bipush X (v := (-2 : Int32)) dX7_like_28 (by decide) ?_
            subst hQ; exact z_iret X hlocks hr dX7_like_30
abbrev rmX7_tellsSetsAndThings : Room := { frames := 2, cells := 0, slots := 0, locals := 61 }
def fX7_tellsSetsAndThings_L13 : Nat → Option Nat → Int32 → zS → Option (Int32 × zS)
  | 0, _, _, _ => none
  | n + 1, y0, y1, st => (zok spX st y0 3).bind fun o1 => if (st.2.1 o1 2) ≤ (y1 + (1 : Int32)) then (some ((1 : Int32), st)) else ((zok spX st y0 3).bind fun o7 => (fX3_at o7 y1 st).bind fun q2 => zlet (q2.1) fun v3 => if v3 < 0 then (some ((0 : Int32), q2.2)) else (if (4095 : Int32) < v3 then (some ((0 : Int32), q2.2)) else ((zok spX q2.2 y0 3).bind fun o6 => (fX3_at o6 (y1 + (1 : Int32)) q2.2).bind fun q4 => (fX7_isThing q4.1 q4.2).bind fun q5 => if q5.1 = 0 then (some ((0 : Int32), q5.2)) else ((fX7_tellsSetsAndThings_L13 n) y0 (y1 + (2 : Int32)) q5.2))))
def fX7_tellsSetsAndThings (a0 : Option Nat) (st : zS) : Option (Int32 × zS) :=
  (zok spX st a0 3).bind fun o8 => if (2 : Int32) = 0 then none else if ((st.2.1 o8 2) - (st.2.1 o8 2) / (2 : Int32) * (2 : Int32)) = 0 then (fX7_tellsSetsAndThings_L13 zF a0 (0 : Int32) st) else (some ((0 : Int32), st))
set_option maxRecDepth 100000 in
set_option maxHeartbeats 4000000 in
theorem kX7_tellsSetsAndThings (l : Launch) (Z : zZ) (b : Nat) (x : Option Nat) (a0 : Option Nat) (st : zS) : zC l Z spX b x yX7_tellsSetsAndThings (.code yX7_tellsSetsAndThings cX7_tellsSetsAndThings 3 (some .boolean)) (rmX7_tellsSetsAndThings) rI [vP a0] st (fX7_tellsSetsAndThings a0 st) := by
  refine z_start (own := RX7) rfl (by decide +kernel) (Nat.le_of_ble_eq_true rfl) rfl (fun p e s m args below meth c res Q A X hK hr hlocks hQ => ?_)
  have J13 : ∀ (n13 : Nat) (y0 : Option Nat) (y1 : Int32) (st : zS), zs p l e (rmX7_tellsSetsAndThings) s m args below meth c Q Z spX b x A 3 0 0 res (fX7_tellsSetsAndThings_L13 n13 y0 y1 st) 13 [(0, vP y0), (1, vI y1)] [] st := by
    intro n13
    induction n13 with
    | zero => intros; exact z_none
    | succ n13 ih13 =>
      intro y0 y1 st
      rw [fX7_tellsSetsAndThings_L13]
      refine z_iload_n X (q := 1) dX7_tellsSetsAndThings_13 rfl rfl ?_
      refine z_iconst X (v := (1 : Int32)) dX7_tellsSetsAndThings_14 (by decide) ?_
      refine z_iadd X dX7_tellsSetsAndThings_15 ?_
      refine z_aload_n X (q := 0) dX7_tellsSetsAndThings_16 rfl rfl ?_
      refine z_geti X hK (N := 3) (ci := 3) (k := 2) rfl (by decide) inlX3 (by decide) hf_X7_228 rfl spX_X3 rfl dX7_tellsSetsAndThings_17 (fun o1 _ => ?_)
      refine z_icmp_ge X (tgt := 61) dX7_tellsSetsAndThings_20 (by decide) (fun _ => ?_) (fun _ => ?_)
      · refine z_iconst X (v := (1 : Int32)) dX7_tellsSetsAndThings_61 (by decide) ?_
        subst hQ; exact z_zretc X hlocks hr (by decide) dX7_tellsSetsAndThings_62
      · refine z_aload_n X (q := 0) dX7_tellsSetsAndThings_23 rfl rfl ?_
        refine z_iload_n X (q := 1) dX7_tellsSetsAndThings_24 rfl rfl ?_
        refine z_callV X hK (As := [vI y1]) (ci := 3) rfl (by decide) (fun o => (kX3_at l Z  b x o _ _)) hk_X7_293 ⟨rfl, rfl⟩ hd_X3_at ⟨Nat.le_of_ble_eq_true rfl, Nat.le_of_ble_eq_true rfl⟩ ⟨Nat.le_of_ble_eq_true rfl, Nat.le_of_ble_eq_true rfl⟩ rfl rfl (Nat.le_of_ble_eq_true rfl) dX7_tellsSetsAndThings_25 (fun _ q2 _ => ?_)
        refine z_name (fun v3 => ?_)
        refine z_istore_n X dX7_tellsSetsAndThings_28 rfl (Nat.le_of_ble_eq_true rfl) rfl ?_
        refine z_iload_n X (q := 0) dX7_tellsSetsAndThings_29 rfl rfl ?_
        refine z_if_lt X (tgt := 53) dX7_tellsSetsAndThings_30 (by decide) (fun _ => ?_) (fun _ => ?_)
        · refine z_iconst X (v := (0 : Int32)) dX7_tellsSetsAndThings_53 (by decide) ?_
          subst hQ; exact z_zretc X hlocks hr (by decide) dX7_tellsSetsAndThings_54
        · refine z_iload_n X (q := 0) dX7_tellsSetsAndThings_33 rfl rfl ?_
          refine z_sipush X (v := (4095 : Int32)) dX7_tellsSetsAndThings_34 (by decide) ?_
          refine z_icmp_gt X (tgt := 53) dX7_tellsSetsAndThings_37 (by decide) (fun _ => ?_) (fun _ => ?_)
          · refine z_iconst X (v := (0 : Int32)) dX7_tellsSetsAndThings_53 (by decide) ?_
            subst hQ; exact z_zretc X hlocks hr (by decide) dX7_tellsSetsAndThings_54
          · refine z_aload_n X (q := 1) dX7_tellsSetsAndThings_40 rfl rfl ?_
            refine z_iload_n X (q := 2) dX7_tellsSetsAndThings_41 rfl rfl ?_
            refine z_iconst X (v := (1 : Int32)) dX7_tellsSetsAndThings_42 (by decide) ?_
            refine z_iadd X dX7_tellsSetsAndThings_43 ?_
            refine z_callV X hK (As := [vI (y1 + (1 : Int32))]) (ci := 3) rfl (by decide) (fun o => (kX3_at l Z  b x o _ _)) hk_X7_293 ⟨rfl, rfl⟩ hd_X3_at ⟨Nat.le_of_ble_eq_true rfl, Nat.le_of_ble_eq_true rfl⟩ ⟨Nat.le_of_ble_eq_true rfl, Nat.le_of_ble_eq_true rfl⟩ rfl rfl (Nat.le_of_ble_eq_true rfl) dX7_tellsSetsAndThings_44 (fun _ q4 _ => ?_)
            refine z_callS X hK (As := [vI q4.1]) (kX7_isThing l Z  b x _ _) hk_X7_77 ⟨rfl, rfl⟩ hd_X7_isThing.2 ⟨Nat.le_of_ble_eq_true rfl, Nat.le_of_ble_eq_true rfl⟩ ⟨Nat.le_of_ble_eq_true rfl, Nat.le_of_ble_eq_true rfl⟩ rfl rfl (Nat.le_of_ble_eq_true rfl) dX7_tellsSetsAndThings_47 (fun q5 => ?_)
            refine z_if_ne X (tgt := 55) dX7_tellsSetsAndThings_50 (by decide) (fun _ => ?_) (fun _ => ?_)
            · refine z_iinc X (q := 2) (y := y1 + (2 : Int32)) dX7_tellsSetsAndThings_55 rfl rfl (Nat.le_of_ble_eq_true rfl) rfl ?_
              refine z_goto X (tgt := 13) dX7_tellsSetsAndThings_58 (by decide) ?_
              exact z_sub [2, 0] (ih13 _ _ _) rfl
            · refine z_iconst X (v := (0 : Int32)) dX7_tellsSetsAndThings_53 (by decide) ?_
              subst hQ; exact z_zretc X hlocks hr (by decide) dX7_tellsSetsAndThings_54
  rw [fX7_tellsSetsAndThings]
  refine z_aload_n X (q := 0) dX7_tellsSetsAndThings_0 rfl rfl ?_
  refine z_geti X hK (N := 3) (ci := 3) (k := 2) rfl (by decide) inlX3 (by decide) hf_X7_228 rfl spX_X3 rfl dX7_tellsSetsAndThings_1 (fun o8 _ => ?_)
  refine z_iconst X (v := (2 : Int32)) dX7_tellsSetsAndThings_4 (by decide) ?_
  refine z_irem X dX7_tellsSetsAndThings_5 (fun _ => ?_)
  refine z_if_eq X (tgt := 11) dX7_tellsSetsAndThings_6 (by decide) (fun _ => ?_) (fun _ => ?_)
  · refine z_iconst X (v := (0 : Int32)) dX7_tellsSetsAndThings_11 (by decide) ?_
    refine z_istore_n X dX7_tellsSetsAndThings_12 rfl (Nat.le_of_ble_eq_true rfl) rfl ?_
    exact z_sub [1, 0] (J13 _ _ _ _) rfl
  · refine z_iconst X (v := (0 : Int32)) dX7_tellsSetsAndThings_9 (by decide) ?_
    subst hQ; exact z_zretc X hlocks hr (by decide) dX7_tellsSetsAndThings_10
theorem zw_446 : Cond.methodLink RX7 200 yX7_tellsSetsAndThings ∈ wsL_law := zr_40 _ (by decide +kernel)
theorem zw_447 : Cond.static yX7_tellsSetsAndThings ∈ wsL_law := zr_40 _ (by decide +kernel)
theorem zw_448 : Cond.code yX7_tellsSetsAndThings cX7_tellsSetsAndThings 3 (some .boolean) ∈ wsL_law := zr_40 _ (by decide +kernel)
theorem hk_X7_200 : ∀ w ∈ ([Cond.methodLink RX7 200 yX7_tellsSetsAndThings, Cond.static yX7_tellsSetsAndThings, Cond.initialized RX7, Cond.code yX7_tellsSetsAndThings cX7_tellsSetsAndThings 3 (some .boolean)] : List Cond), w ∈ wsL_law := List.forall_mem_cons.mpr ⟨zw_446, List.forall_mem_cons.mpr ⟨zw_447, List.forall_mem_cons.mpr ⟨zw_322, List.forall_mem_cons.mpr ⟨zw_448, fun _ h => absurd h List.not_mem_nil⟩⟩⟩⟩
theorem zw_449 : Cond.methodLink RX7 204 yX7_isRuledOut ∈ wsL_law := zr_41 _ (by decide +kernel)
theorem zw_450 : Cond.static yX7_isRuledOut ∈ wsL_law := zr_41 _ (by decide +kernel)
theorem zw_451 : Cond.code yX7_isRuledOut cX7_isRuledOut 6 (some .boolean) ∈ wsL_law := zr_41 _ (by decide +kernel)
theorem hk_X7_204 : ∀ w ∈ ([Cond.methodLink RX7 204 yX7_isRuledOut, Cond.static yX7_isRuledOut, Cond.initialized RX7, Cond.code yX7_isRuledOut cX7_isRuledOut 6 (some .boolean)] : List Cond), w ∈ wsL_law := List.forall_mem_cons.mpr ⟨zw_449, List.forall_mem_cons.mpr ⟨zw_450, List.forall_mem_cons.mpr ⟨zw_322, List.forall_mem_cons.mpr ⟨zw_451, fun _ h => absurd h List.not_mem_nil⟩⟩⟩⟩
theorem hd_X7_isRuledOut : yX7_isRuledOut.cls = RX7 ∧ yX7_isRuledOut.cls ≠ "java/lang/invoke/MethodHandle" ∧ yX7_isRuledOut.cls ≠ "java/lang/invoke/VarHandle" ∧ (parseMethodDescriptor yX7_isRuledOut.desc).map (fun d => d.parameters.length) = some 3 := by decide +kernel
theorem hd_X7_tellsSetsAndThings : yX7_tellsSetsAndThings.cls = RX7 ∧ yX7_tellsSetsAndThings.cls ≠ "java/lang/invoke/MethodHandle" ∧ yX7_tellsSetsAndThings.cls ≠ "java/lang/invoke/VarHandle" ∧ (parseMethodDescriptor yX7_tellsSetsAndThings.desc).map (fun d => d.parameters.length) = some 1 := by decide +kernel
abbrev rmX7_map : Room := { frames := 3, cells := 0, slots := 0, locals := 86 }
def fX7_map_j69 (this : Nat) (k38 : Option Nat → Int32 → Int32 → zS → Option (Int32 × zS)) (k48 : Option Nat → Int32 → Int32 → Int32 → zS → Option (Int32 × zS)) (y2 : Option Nat) (y3 : Int32) (y4 : Int32) (y5 : Int32) (st : zS) : Option (Int32 × zS) :=
  k48 y2 y3 y4 (y5 + (1 : Int32)) st
def fX7_map_L48 (this : Nat) (k38 : Option Nat → Int32 → Int32 → zS → Option (Int32 × zS)) : Nat → Option Nat → Int32 → Int32 → Int32 → zS → Option (Int32 × zS)
  | 0, _, _, _, _, _ => none
  | n + 1, y2, y3, y4, y5, st => if y4 ≤ y5 then (k38 y2 y3 (y4 + (1 : Int32)) st) else ((fX7_isRuledOut y2 y4 y5 st).bind fun q1 => if q1.1 = 0 then (fX7_map_j69 this k38 (fX7_map_L48 this k38 n) y2 y3 y4 y5 q1.2) else (fX7_map_j69 this k38 (fX7_map_L48 this k38 n) y2 (y3 + (1 : Int32)) y4 y5 q1.2))
def fX7_map_L38 (this : Nat) : Nat → Option Nat → Int32 → Int32 → zS → Option (Int32 × zS)
  | 0, _, _, _, _ => none
  | n + 1, y2, y3, y4, st => if (12 : Int32) ≤ y4 then (some (y3, st)) else (fX7_map_L48 this (fX7_map_L38 this n) zF y2 y3 y4 (0 : Int32) st)
def fX7_map (this : Nat) (a1 : Int32) (st : zS) : Option (Int32 × zS) :=
  (zok spX st (some this) 7).bind fun o6 => (fX7_sheetAt o6 a1 st).bind fun q2 => if q2.1 = none then (some ((-2 : Int32), q2.2)) else ((zok spX q2.2 q2.1 3).bind fun o5 => (fX3_isMissing o5 q2.2).bind fun q3 => if q3.1 = 0 then ((fX7_tellsSetsAndThings q2.1 q3.2).bind fun q4 => if q4.1 = 0 then (some ((-2 : Int32), q4.2)) else (fX7_map_L38 this zF q2.1 (0 : Int32) (0 : Int32) q4.2)) else (some ((-11 : Int32), q3.2)))
set_option maxRecDepth 100000 in
set_option maxHeartbeats 4000000 in
theorem kX7_map (l : Launch) (Z : zZ) (b : Nat) (x : Option Nat) (this : Nat) (a1 : Int32) (st : zS) : zC l Z spX b x yX7_map (.code yX7_map cX7_map 6 (some .int)) (rmX7_map) rI [vP (some this), vI a1] st (fX7_map this a1 st) := by
  refine z_start (own := RX7) rfl (by decide +kernel) (Nat.le_of_ble_eq_true rfl) rfl (fun p e s m args below meth c res Q A X hK hr hlocks hQ => ?_)
  have J38 : ∀ (n38 : Nat) (y2 : Option Nat) (y3 : Int32) (y4 : Int32) (st : zS), zs p l e (rmX7_map) s m args below meth c Q Z spX b x A 6 0 0 res (fX7_map_L38 this n38 y2 y3 y4 st) 38 [(2, vP y2), (3, vI y3), (4, vI y4)] [] st := by
    intro n38
    induction n38 with
    | zero => intros; exact z_none
    | succ n38 ih38 =>
      have J48 : ∀ (n48 : Nat) (y2 : Option Nat) (y3 : Int32) (y4 : Int32) (y5 : Int32) (st : zS), zs p l e (rmX7_map) s m args below meth c Q Z spX b x A 6 0 0 res (fX7_map_L48 this (fX7_map_L38 this n38) n48 y2 y3 y4 y5 st) 48 [(2, vP y2), (3, vI y3), (4, vI y4), (5, vI y5)] [] st := by
        intro n48
        induction n48 with
        | zero => intros; exact z_none
        | succ n48 ih48 =>
          have J69 : ∀ (y2 : Option Nat) (y3 : Int32) (y4 : Int32) (y5 : Int32) (st : zS), zs p l e (rmX7_map) s m args below meth c Q Z spX b x A 6 0 0 res (fX7_map_j69 this (fX7_map_L38 this n38) (fX7_map_L48 this (fX7_map_L38 this n38) n48) y2 y3 y4 y5 st) 69 [(2, vP y2), (3, vI y3), (4, vI y4), (5, vI y5)] [] st := by
            intro y2 y3 y4 y5 st
            rw [fX7_map_j69]
            refine z_iinc X (q := 3) (y := y5 + (1 : Int32)) dX7_map_69 rfl rfl (Nat.le_of_ble_eq_true rfl) rfl ?_
            refine z_goto X (tgt := 48) dX7_map_72 (by decide) ?_
            exact z_sub [1, 2, 3, 0] (ih48 _ _ _ _ _) rfl
          intro y2 y3 y4 y5 st
          rw [fX7_map_L48]
          refine z_iload X (q := 3) dX7_map_48 rfl ?_
          refine z_iload X (q := 2) dX7_map_50 rfl ?_
          refine z_icmp_ge X (tgt := 75) dX7_map_52 (by decide) (fun _ => ?_) (fun _ => ?_)
          · refine z_iinc X (q := 2) (y := y4 + (1 : Int32)) dX7_map_75 rfl rfl (Nat.le_of_ble_eq_true rfl) rfl ?_
            refine z_goto X (tgt := 38) dX7_map_78 (by decide) ?_
            exact z_sub [1, 2, 0] (ih38 _ _ _ _) rfl
          · refine z_aload_n X (q := 0) dX7_map_55 rfl rfl ?_
            refine z_iload X (q := 2) dX7_map_56 rfl ?_
            refine z_iload X (q := 3) dX7_map_58 rfl ?_
            refine z_callS X hK (As := [vP y2, vI y4, vI y5]) (kX7_isRuledOut l Z  b x _ _ _ _) hk_X7_204 ⟨rfl, rfl⟩ hd_X7_isRuledOut.2 ⟨Nat.le_of_ble_eq_true rfl, Nat.le_of_ble_eq_true rfl⟩ ⟨Nat.le_of_ble_eq_true rfl, Nat.le_of_ble_eq_true rfl⟩ rfl rfl (Nat.le_of_ble_eq_true rfl) dX7_map_60 (fun q1 => ?_)
            refine z_if_eq X (tgt := 69) dX7_map_63 (by decide) (fun _ => ?_) (fun _ => ?_)
            · exact z_sub [0, 1, 2, 3] (J69 _ _ _ _ _) rfl
            · refine z_iinc X (q := 1) (y := y3 + (1 : Int32)) dX7_map_66 rfl rfl (Nat.le_of_ble_eq_true rfl) rfl ?_
              exact z_sub [1, 0, 2, 3] (J69 _ _ _ _ _) rfl
      intro y2 y3 y4 st
      rw [fX7_map_L38]
      refine z_iload X (q := 2) dX7_map_38 rfl ?_
      refine z_bipush X (v := (12 : Int32)) dX7_map_40 (by decide) ?_
      refine z_icmp_ge X (tgt := 81) dX7_map_42 (by decide) (fun _ => ?_) (fun _ => ?_)
      · refine z_iload_n X (q := 1) dX7_map_81 rfl rfl ?_
        subst hQ; exact z_iret X hlocks hr dX7_map_82
      · refine z_iconst X (v := (0 : Int32)) dX7_map_45 (by decide) ?_
        refine z_istore X dX7_map_46 (Nat.le_of_ble_eq_true rfl) rfl ?_
        exact z_sub [1, 2, 3, 0] (J48 _ _ _ _ _ _) rfl
  rw [fX7_map]
  refine z_aload_n X (q := 0) dX7_map_0 rfl rfl ?_
  refine z_iload_n X (q := 1) dX7_map_1 rfl rfl ?_
  refine z_callV X hK (As := [vI a1]) (ci := 7) rfl (by decide) (fun o => (kX7_sheetAt l Z  b x o _ _)) hk_X7_147 ⟨rfl, rfl⟩ hd_X7_sheetAt ⟨Nat.le_of_ble_eq_true rfl, Nat.le_of_ble_eq_true rfl⟩ ⟨Nat.le_of_ble_eq_true rfl, Nat.le_of_ble_eq_true rfl⟩ rfl rfl (Nat.le_of_ble_eq_true rfl) dX7_map_2 (fun _ q2 _ => ?_)
  refine z_astore_n X dX7_map_5 rfl (Nat.le_of_ble_eq_true rfl) rfl ?_
  refine z_aload_n X (q := 0) dX7_map_6 rfl rfl ?_
  refine z_ifnonnull X (tgt := 13) dX7_map_7 (by decide) (fun _ => ?_) (fun _ => ?_)
  · refine z_aload_n X (q := 0) dX7_map_13 rfl rfl ?_
    refine z_callV X hK (As := []) (ci := 3) rfl (by decide) (fun o => (kX3_isMissing l Z  b x o _)) hk_X7_196 ⟨rfl, rfl⟩ hd_X3_isMissing ⟨Nat.le_of_ble_eq_true rfl, Nat.le_of_ble_eq_true rfl⟩ ⟨Nat.le_of_ble_eq_true rfl, Nat.le_of_ble_eq_true rfl⟩ rfl rfl (Nat.le_of_ble_eq_true rfl) dX7_map_14 (fun _ q3 _ => ?_)
    refine z_if_eq X (tgt := 23) dX7_map_17 (by decide) (fun _ => ?_) (fun _ => ?_)
    · refine z_aload_n X (q := 0) dX7_map_23 rfl rfl ?_
      refine z_callS X hK (As := [vP q2.1]) (kX7_tellsSetsAndThings l Z  b x _ _) hk_X7_200 ⟨rfl, rfl⟩ hd_X7_tellsSetsAndThings.2 ⟨Nat.le_of_ble_eq_true rfl, Nat.le_of_ble_eq_true rfl⟩ ⟨Nat.le_of_ble_eq_true rfl, Nat.le_of_ble_eq_true rfl⟩ rfl rfl (Nat.le_of_ble_eq_true rfl) dX7_map_24 (fun q4 => ?_)
      refine z_if_ne X (tgt := 33) dX7_map_27 (by decide) (fun _ => ?_) (fun _ => ?_)
      · refine z_iconst X (v := (0 : Int32)) dX7_map_33 (by decide) ?_
        refine z_istore_n X dX7_map_34 rfl (Nat.le_of_ble_eq_true rfl) rfl ?_
        refine z_iconst X (v := (0 : Int32)) dX7_map_35 (by decide) ?_
        refine z_istore X dX7_map_36 (Nat.le_of_ble_eq_true rfl) rfl ?_
        exact z_sub [2, 1, 0] (J38 _ _ _ _ _) rfl
      · refine z_bipush X (v := (-2 : Int32)) dX7_map_30 (by decide) ?_
        subst hQ; exact z_iret X hlocks hr dX7_map_32
    · refine z_bipush X (v := (-11 : Int32)) dX7_map_20 (by decide) ?_
      subst hQ; exact z_iret X hlocks hr dX7_map_22
  · refine z_bipush X (v := (-2 : Int32)) dX7_map_10 (by decide) ?_
    subst hQ; exact z_iret X hlocks hr dX7_map_12
abbrev rmX7_mostOf : Room := { frames := 1, cells := 0, slots := 0, locals := 40 }
def fX7_mostOf (a0 : Int32) (st : zS) : Option (Int32 × zS) :=
  if a0 = (0 : Int32) then (some ((999 : Int32), st)) else (if a0 = (1 : Int32) then (some ((9 : Int32), st)) else (if a0 = (4 : Int32) then (some ((9999 : Int32), st)) else (some ((4095 : Int32), st))))
set_option maxRecDepth 100000 in
set_option maxHeartbeats 4000000 in
theorem kX7_mostOf (l : Launch) (Z : zZ) (b : Nat) (x : Option Nat) (a0 : Int32) (st : zS) : zC l Z spX b x yX7_mostOf (.code yX7_mostOf cX7_mostOf 1 (some .int)) (rmX7_mostOf) rI [vI a0] st (fX7_mostOf a0 st) := by
  refine z_start (own := RX7) rfl (by decide +kernel) (Nat.le_of_ble_eq_true rfl) rfl (fun p e s m args below meth c res Q A X hK hr hlocks hQ => ?_)
  rw [fX7_mostOf]
  refine z_iload_n X (q := 0) dX7_mostOf_0 rfl rfl ?_
  refine z_ite (fun h1 => ?_) (fun h1 => ?_)
  · refine z_tabIn X (off := 35) (tgt := 36) dX7_mostOf_1 (by rw [h1]; decide) (by rw [h1]; decide) (by rw [h1]; rfl) (by decide) ?_
    refine z_sipush X (v := (999 : Int32)) dX7_mostOf_36 (by decide) ?_
    subst hQ; exact z_iret X hlocks hr dX7_mostOf_39
  refine z_ite (fun h2 => ?_) (fun h2 => ?_)
  · refine z_tabIn X (off := 39) (tgt := 40) dX7_mostOf_1 (by rw [h2]; decide) (by rw [h2]; decide) (by rw [h2]; rfl) (by decide) ?_
    refine z_bipush X (v := (9 : Int32)) dX7_mostOf_40 (by decide) ?_
    subst hQ; exact z_iret X hlocks hr dX7_mostOf_42
  refine z_ite (fun h3 => ?_) (fun h3 => ?_)
  · refine z_tabIn X (off := 42) (tgt := 43) dX7_mostOf_1 (by rw [h3]; decide) (by rw [h3]; decide) (by rw [h3]; rfl) (by decide) ?_
    refine z_sipush X (v := (9999 : Int32)) dX7_mostOf_43 (by decide) ?_
    subst hQ; exact z_iret X hlocks hr dX7_mostOf_46
  refine z_tabGap X (tgt := 47) dX7_mostOf_1 (by have := lv_neT (a := 0) h1 (by decide); have := lv_neT (a := 1) h2 (by decide); have := lv_neT (a := 4) h3 (by decide); rcases (show (a0).toInt < 0 ∨ 4 < (a0).toInt ∨ (a0).toInt = 2 ∨ (a0).toInt = 3 by omega) with h | h | h | h; exact Or.inl h; exact Or.inr (Or.inl h); all_goals exact Or.inr (Or.inr (by rw [h]; rfl))) (by decide) ?_
  refine z_sipush X (v := (4095 : Int32)) dX7_mostOf_47 (by decide) ?_
  subst hQ; exact z_iret X hlocks hr dX7_mostOf_50
abbrev rmX7_nearest : Room := { frames := 2, cells := 0, slots := 0, locals := 61 }
def fX7_nearest_j31 (this : Nat) (k4 : Int32 → Int32 → zS → Option (Int32 × zS)) (y1 : Int32) (y2 : Int32) (st : zS) : Option (Int32 × zS) :=
  k4 y1 (y2 + (1 : Int32)) st
def fX7_nearest_L4 (this : Nat) : Nat → Int32 → Int32 → zS → Option (Int32 × zS)
  | 0, _, _, _ => none
  | n + 1, y1, y2, st => if (12 : Int32) ≤ y2 then (some (y1, st)) else ((zok spX st (some this) 7).bind fun o6 => (fX7_likesOf o6 y2 st).bind fun q1 => (fJ6_bitCount_0f7a4 q1.1 q1.2).bind fun q2 => (zok spX q2.2 (some this) 7).bind fun o5 => (fX7_likesOf o5 y1 q2.2).bind fun q3 => (fJ6_bitCount_0f7a4 q3.1 q3.2).bind fun q4 => if q2.1 ≤ q4.1 then (fX7_nearest_j31 this (fX7_nearest_L4 this n) y1 y2 q4.2) else (fX7_nearest_j31 this (fX7_nearest_L4 this n) y2 y2 q4.2))
def fX7_nearest (this : Nat) (st : zS) : Option (Int32 × zS) :=
  fX7_nearest_L4 this zF (0 : Int32) (1 : Int32) st
set_option maxRecDepth 100000 in
set_option maxHeartbeats 4000000 in
theorem kX7_nearest (l : Launch) (Z : zZ) (b : Nat) (x : Option Nat) (this : Nat) (st : zS) : zC l Z spX b x yX7_nearest (.code yX7_nearest cX7_nearest 3 (some .int)) (rmX7_nearest) rI [vP (some this)] st (fX7_nearest this st) := by
  refine z_start (own := RX7) rfl (by decide +kernel) (Nat.le_of_ble_eq_true rfl) rfl (fun p e s m args below meth c res Q A X hK hr hlocks hQ => ?_)
  have J4 : ∀ (n4 : Nat) (y1 : Int32) (y2 : Int32) (st : zS), zs p l e (rmX7_nearest) s m args below meth c Q Z spX b x A 3 0 0 res (fX7_nearest_L4 this n4 y1 y2 st) 4 [(0, vP (some this)), (1, vI y1), (2, vI y2)] [] st := by
    intro n4
    induction n4 with
    | zero => intros; exact z_none
    | succ n4 ih4 =>
      have J31 : ∀ (y1 : Int32) (y2 : Int32) (st : zS), zs p l e (rmX7_nearest) s m args below meth c Q Z spX b x A 3 0 0 res (fX7_nearest_j31 this (fX7_nearest_L4 this n4) y1 y2 st) 31 [(0, vP (some this)), (1, vI y1), (2, vI y2)] [] st := by
        intro y1 y2 st
        rw [fX7_nearest_j31]
        refine z_iinc X (q := 2) (y := y2 + (1 : Int32)) dX7_nearest_31 rfl rfl (Nat.le_of_ble_eq_true rfl) rfl ?_
        refine z_goto X (tgt := 4) dX7_nearest_34 (by decide) ?_
        exact z_sub [1, 2, 0] (ih4 _ _ _) rfl
      intro y1 y2 st
      rw [fX7_nearest_L4]
      refine z_iload_n X (q := 2) dX7_nearest_4 rfl rfl ?_
      refine z_bipush X (v := (12 : Int32)) dX7_nearest_5 (by decide) ?_
      refine z_icmp_ge X (tgt := 37) dX7_nearest_7 (by decide) (fun _ => ?_) (fun _ => ?_)
      · refine z_iload_n X (q := 1) dX7_nearest_37 rfl rfl ?_
        subst hQ; exact z_iret X hlocks hr dX7_nearest_38
      · refine z_aload_n X (q := 0) dX7_nearest_10 rfl rfl ?_
        refine z_iload_n X (q := 2) dX7_nearest_11 rfl rfl ?_
        refine z_callV X hK (As := [vI y2]) (ci := 7) rfl (by decide) (fun o => (kX7_likesOf l Z  b x o _ _)) hk_X7_215 ⟨rfl, rfl⟩ hd_X7_likesOf ⟨Nat.le_of_ble_eq_true rfl, Nat.le_of_ble_eq_true rfl⟩ ⟨Nat.le_of_ble_eq_true rfl, Nat.le_of_ble_eq_true rfl⟩ rfl rfl (Nat.le_of_ble_eq_true rfl) dX7_nearest_12 (fun _ q1 _ => ?_)
        refine z_callS X hK (As := [vI q1.1]) (kJ6_bitCount_0f7a4 l Z spX b x _ _) hk_X7_184 ⟨rfl, rfl⟩ hd_J6_bitCount_0f7a4.2 ⟨Nat.le_of_ble_eq_true rfl, Nat.le_of_ble_eq_true rfl⟩ ⟨Nat.le_of_ble_eq_true rfl, Nat.le_of_ble_eq_true rfl⟩ rfl rfl (Nat.le_of_ble_eq_true rfl) dX7_nearest_15 (fun q2 => ?_)
        refine z_aload_n X (q := 0) dX7_nearest_18 rfl rfl ?_
        refine z_iload_n X (q := 1) dX7_nearest_19 rfl rfl ?_
        refine z_callV X hK (As := [vI y1]) (ci := 7) rfl (by decide) (fun o => (kX7_likesOf l Z  b x o _ _)) hk_X7_215 ⟨rfl, rfl⟩ hd_X7_likesOf ⟨Nat.le_of_ble_eq_true rfl, Nat.le_of_ble_eq_true rfl⟩ ⟨Nat.le_of_ble_eq_true rfl, Nat.le_of_ble_eq_true rfl⟩ rfl rfl (Nat.le_of_ble_eq_true rfl) dX7_nearest_20 (fun _ q3 _ => ?_)
        refine z_callS X hK (As := [vI q3.1]) (kJ6_bitCount_0f7a4 l Z spX b x _ _) hk_X7_184 ⟨rfl, rfl⟩ hd_J6_bitCount_0f7a4.2 ⟨Nat.le_of_ble_eq_true rfl, Nat.le_of_ble_eq_true rfl⟩ ⟨Nat.le_of_ble_eq_true rfl, Nat.le_of_ble_eq_true rfl⟩ rfl rfl (Nat.le_of_ble_eq_true rfl) dX7_nearest_23 (fun q4 => ?_)
        refine z_icmp_le X (tgt := 31) dX7_nearest_26 (by decide) (fun _ => ?_) (fun _ => ?_)
        · exact z_sub [0, 1, 2] (J31 _ _ _) rfl
        · refine z_iload_n X (q := 2) dX7_nearest_29 rfl rfl ?_
          refine z_istore_n X dX7_nearest_30 rfl (Nat.le_of_ble_eq_true rfl) rfl ?_
          exact z_sub [1, 0, 2] (J31 _ _ _) rfl
  rw [fX7_nearest]
  refine z_iconst X (v := (0 : Int32)) dX7_nearest_0 (by decide) ?_
  refine z_istore_n X dX7_nearest_1 rfl (Nat.le_of_ble_eq_true rfl) rfl ?_
  refine z_iconst X (v := (1 : Int32)) dX7_nearest_2 (by decide) ?_
  refine z_istore_n X dX7_nearest_3 rfl (Nat.le_of_ble_eq_true rfl) rfl ?_
  exact z_sub [2, 1, 0] (J4 _ _ _ _) rfl
theorem zw_452 : Cond.methodLink RX7 208 yX7_cliques ∈ wsL_law := zr_41 _ (by decide +kernel)
theorem zw_453 : Cond.instanceMethod yX7_cliques ∈ wsL_law := zr_41 _ (by decide +kernel)
theorem zw_454 : Cond.selects RX7 yX7_cliques yX7_cliques ∈ wsL_law := zr_41 _ (by decide +kernel)
theorem zw_455 : Cond.code yX7_cliques cX7_cliques 5 (some .int) ∈ wsL_law := zr_41 _ (by decide +kernel)
theorem hk_X7_208 : ∀ w ∈ ([Cond.methodLink RX7 208 yX7_cliques, Cond.instanceMethod yX7_cliques, Cond.selects RX7 yX7_cliques yX7_cliques, Cond.initialized RX7, Cond.code yX7_cliques cX7_cliques 5 (some .int)] : List Cond), w ∈ wsL_law := List.forall_mem_cons.mpr ⟨zw_452, List.forall_mem_cons.mpr ⟨zw_453, List.forall_mem_cons.mpr ⟨zw_454, List.forall_mem_cons.mpr ⟨zw_322, List.forall_mem_cons.mpr ⟨zw_455, fun _ h => absurd h List.not_mem_nil⟩⟩⟩⟩⟩
theorem zw_456 : Cond.methodLink RX7 212 yX7_nearest ∈ wsL_law := zr_41 _ (by decide +kernel)
theorem zw_457 : Cond.instanceMethod yX7_nearest ∈ wsL_law := zr_41 _ (by decide +kernel)
theorem zw_458 : Cond.selects RX7 yX7_nearest yX7_nearest ∈ wsL_law := zr_41 _ (by decide +kernel)
theorem zw_459 : Cond.code yX7_nearest cX7_nearest 3 (some .int) ∈ wsL_law := zr_41 _ (by decide +kernel)
theorem hk_X7_212 : ∀ w ∈ ([Cond.methodLink RX7 212 yX7_nearest, Cond.instanceMethod yX7_nearest, Cond.selects RX7 yX7_nearest yX7_nearest, Cond.initialized RX7, Cond.code yX7_nearest cX7_nearest 3 (some .int)] : List Cond), w ∈ wsL_law := List.forall_mem_cons.mpr ⟨zw_456, List.forall_mem_cons.mpr ⟨zw_457, List.forall_mem_cons.mpr ⟨zw_458, List.forall_mem_cons.mpr ⟨zw_322, List.forall_mem_cons.mpr ⟨zw_459, fun _ h => absurd h List.not_mem_nil⟩⟩⟩⟩⟩
theorem hd_X7_cliques : yX7_cliques.cls = RX7 ∧ yX7_cliques.cls ≠ "java/lang/invoke/MethodHandle" ∧ yX7_cliques.cls ≠ "java/lang/invoke/VarHandle" ∧ (parseMethodDescriptor yX7_cliques.desc).map (fun d => d.parameters.length) = some 0 := by decide +kernel
theorem hd_X7_nearest : yX7_nearest.cls = RX7 ∧ yX7_nearest.cls ≠ "java/lang/invoke/MethodHandle" ∧ yX7_nearest.cls ≠ "java/lang/invoke/VarHandle" ∧ (parseMethodDescriptor yX7_nearest.desc).map (fun d => d.parameters.length) = some 0 := by decide +kernel
abbrev rmX7_net : Room := { frames := 3, cells := 0, slots := 0, locals := 85 }
def fX7_net (this : Nat) (a1 : Int32) (st : zS) : Option (Int32 × zS) :=
  if a1 = (0 : Int32) then ((zok spX st (some this) 7).bind fun o3 => (fX7_cliques o3 st).bind fun q2 => some (q2.1, q2.2)) else (if a1 = (1 : Int32) then ((zok spX st (some this) 7).bind fun o6 => (fX7_nearest o6 st).bind fun q5 => some (q5.1, q5.2)) else (if a1 = (2 : Int32) then ((zok spX st (some this) 7).bind fun o12 => (fX7_nearest o12 st).bind fun q8 => (zok spX q8.2 (some this) 7).bind fun o11 => (fX7_likesOf o11 q8.1 q8.2).bind fun q9 => (fJ6_bitCount_0f7a4 q9.1 q9.2).bind fun q10 => some (q10.1, q10.2)) else (if a1 = (3 : Int32) then ((zok spX st (some this) 7).bind fun o15 => (fX7_likeTwos o15 st).bind fun q14 => some (q14.1, q14.2)) else (some ((-2 : Int32), st)))))
set_option maxRecDepth 100000 in
set_option maxHeartbeats 4000000 in
theorem kX7_net (l : Launch) (Z : zZ) (b : Nat) (x : Option Nat) (this : Nat) (a1 : Int32) (st : zS) : zC l Z spX b x yX7_net (.code yX7_net cX7_net 2 (some .int)) (rmX7_net) rI [vP (some this), vI a1] st (fX7_net this a1 st) := by
  refine z_start (own := RX7) rfl (by decide +kernel) (Nat.le_of_ble_eq_true rfl) rfl (fun p e s m args below meth c res Q A X hK hr hlocks hQ => ?_)
  rw [fX7_net]
  refine z_iload_n X (q := 1) dX7_net_0 rfl rfl ?_
  refine z_ite (fun h1 => ?_) (fun h1 => ?_)
  · refine z_tabIn X (off := 31) (tgt := 32) dX7_net_1 (by rw [h1]; decide) (by rw [h1]; decide) (by rw [h1]; rfl) (by decide) ?_
    refine z_aload_n X (q := 0) dX7_net_32 rfl rfl ?_
    refine z_callV X hK (As := []) (ci := 7) rfl (by decide) (fun o => (kX7_cliques l Z  b x o _)) hk_X7_208 ⟨rfl, rfl⟩ hd_X7_cliques ⟨Nat.le_of_ble_eq_true rfl, Nat.le_of_ble_eq_true rfl⟩ ⟨Nat.le_of_ble_eq_true rfl, Nat.le_of_ble_eq_true rfl⟩ rfl rfl (Nat.le_of_ble_eq_true rfl) dX7_net_33 (fun _ q2 _ => ?_)
    subst hQ; exact z_iret X hlocks hr dX7_net_36
  refine z_ite (fun h4 => ?_) (fun h4 => ?_)
  · refine z_tabIn X (off := 36) (tgt := 37) dX7_net_1 (by rw [h4]; decide) (by rw [h4]; decide) (by rw [h4]; rfl) (by decide) ?_
    refine z_aload_n X (q := 0) dX7_net_37 rfl rfl ?_
    refine z_callV X hK (As := []) (ci := 7) rfl (by decide) (fun o => (kX7_nearest l Z  b x o _)) hk_X7_212 ⟨rfl, rfl⟩ hd_X7_nearest ⟨Nat.le_of_ble_eq_true rfl, Nat.le_of_ble_eq_true rfl⟩ ⟨Nat.le_of_ble_eq_true rfl, Nat.le_of_ble_eq_true rfl⟩ rfl rfl (Nat.le_of_ble_eq_true rfl) dX7_net_38 (fun _ q5 _ => ?_)
    subst hQ; exact z_iret X hlocks hr dX7_net_41
  refine z_ite (fun h7 => ?_) (fun h7 => ?_)
  · refine z_tabIn X (off := 41) (tgt := 42) dX7_net_1 (by rw [h7]; decide) (by rw [h7]; decide) (by rw [h7]; rfl) (by decide) ?_
    refine z_aload_n X (q := 0) dX7_net_42 rfl rfl ?_
    refine z_aload_n X (q := 0) dX7_net_43 rfl rfl ?_
    refine z_callV X hK (As := []) (ci := 7) rfl (by decide) (fun o => (kX7_nearest l Z  b x o _)) hk_X7_212 ⟨rfl, rfl⟩ hd_X7_nearest ⟨Nat.le_of_ble_eq_true rfl, Nat.le_of_ble_eq_true rfl⟩ ⟨Nat.le_of_ble_eq_true rfl, Nat.le_of_ble_eq_true rfl⟩ rfl rfl (Nat.le_of_ble_eq_true rfl) dX7_net_44 (fun _ q8 _ => ?_)
    refine z_callV X hK (As := [vI q8.1]) (ci := 7) rfl (by decide) (fun o => (kX7_likesOf l Z  b x o _ _)) hk_X7_215 ⟨rfl, rfl⟩ hd_X7_likesOf ⟨Nat.le_of_ble_eq_true rfl, Nat.le_of_ble_eq_true rfl⟩ ⟨Nat.le_of_ble_eq_true rfl, Nat.le_of_ble_eq_true rfl⟩ rfl rfl (Nat.le_of_ble_eq_true rfl) dX7_net_47 (fun _ q9 _ => ?_)
    refine z_callS X hK (As := [vI q9.1]) (kJ6_bitCount_0f7a4 l Z spX b x _ _) hk_X7_184 ⟨rfl, rfl⟩ hd_J6_bitCount_0f7a4.2 ⟨Nat.le_of_ble_eq_true rfl, Nat.le_of_ble_eq_true rfl⟩ ⟨Nat.le_of_ble_eq_true rfl, Nat.le_of_ble_eq_true rfl⟩ rfl rfl (Nat.le_of_ble_eq_true rfl) dX7_net_50 (fun q10 => ?_)
    subst hQ; exact z_iret X hlocks hr dX7_net_53
  refine z_ite (fun h13 => ?_) (fun h13 => ?_)
  · refine z_tabIn X (off := 53) (tgt := 54) dX7_net_1 (by rw [h13]; decide) (by rw [h13]; decide) (by rw [h13]; rfl) (by decide) ?_
    refine z_aload_n X (q := 0) dX7_net_54 rfl rfl ?_
    refine z_callV X hK (As := []) (ci := 7) rfl (by decide) (fun o => (kX7_likeTwos l Z  b x o _)) hk_X7_218 ⟨rfl, rfl⟩ hd_X7_likeTwos ⟨Nat.le_of_ble_eq_true rfl, Nat.le_of_ble_eq_true rfl⟩ ⟨Nat.le_of_ble_eq_true rfl, Nat.le_of_ble_eq_true rfl⟩ rfl rfl (Nat.le_of_ble_eq_true rfl) dX7_net_55 (fun _ q14 _ => ?_)
    subst hQ; exact z_iret X hlocks hr dX7_net_58
  refine z_tabOut X (tgt := 59) dX7_net_1 (by have := lv_neT (a := 0) h1 (by decide); have := lv_neT (a := 1) h4 (by decide); have := lv_neT (a := 2) h7 (by decide); have := lv_neT (a := 3) h13 (by decide); omega) (by decide) ?_
  refine z_bipush X (v := (-2 : Int32)) dX7_net_59 (by decide) ?_
  subst hQ; exact z_iret X hlocks hr dX7_net_61
abbrev rmX7_neverGiven : Room := { frames := 5, cells := 0, slots := 0, locals := 136 }
def fX7_neverGiven_j57 (this : Nat) (k19 : Option Nat → Int32 → Int32 → zS → Option (Int32 × zS)) (y2 : Option Nat) (y3 : Int32) (y4 : Int32) (st : zS) : Option (Int32 × zS) :=
  k19 y2 y3 (y4 + (1 : Int32)) st
def fX7_neverGiven_L19 (this : Nat) : Nat → Option Nat → Int32 → Int32 → zS → Option (Int32 × zS)
  | 0, _, _, _, _ => none
  | n + 1, y2, y3, y4, st => (zok spX st (some this) 7).bind fun o1 => (zla spX st (st.2.2.2 o1 1)).bind fun o2 => if (Int32.ofNat (spX o2).2) ≤ y4 then (some (((4095 : Int32) &&& (y3 ^^^ (-1 : Int32))), st)) else ((zok spX st (some this) 7).bind fun o3 => (zok spX st (st.2.2.2 o3 1) 9).bind fun o4 => (zix spX o4 y4).bind fun j5 => (zok spX st y2 6).bind fun o10 => (fX6_givenBy o10 (st.2.1 o4 j5) st).bind fun q6 => zlet (q6.1) fun v7 => (fX7_isThing v7 q6.2).bind fun q8 => if q8.1 = 0 then (fX7_neverGiven_j57 this (fX7_neverGiven_L19 this n) y2 y3 y4 q8.2) else (zlet ((y3 ||| ((1 : Int32) <<< (v7 &&& 31)))) fun v9 => fX7_neverGiven_j57 this (fX7_neverGiven_L19 this n) y2 v9 y4 q8.2))
def fX7_neverGiven (this : Nat) (a1 : Int32) (st : zS) : Option (Int32 × zS) :=
  (zok spX st (some this) 7).bind fun o12 => (fX7_visitOf o12 a1 st).bind fun q11 => if q11.1 = none then (some ((4095 : Int32), q11.2)) else (fX7_neverGiven_L19 this zF q11.1 (0 : Int32) (0 : Int32) q11.2)
set_option maxRecDepth 100000 in
set_option maxHeartbeats 4000000 in
theorem kX7_neverGiven (l : Launch) (Z : zZ) (b : Nat) (x : Option Nat) (this : Nat) (a1 : Int32) (st : zS) : zC l Z spX b x yX7_neverGiven (.code yX7_neverGiven cX7_neverGiven 6 (some .int)) (rmX7_neverGiven) rI [vP (some this), vI a1] st (fX7_neverGiven this a1 st) := by
  refine z_start (own := RX7) rfl (by decide +kernel) (Nat.le_of_ble_eq_true rfl) rfl (fun p e s m args below meth c res Q A X hK hr hlocks hQ => ?_)
  have J19 : ∀ (n19 : Nat) (y2 : Option Nat) (y3 : Int32) (y4 : Int32) (st : zS), zs p l e (rmX7_neverGiven) s m args below meth c Q Z spX b x A 6 0 0 res (fX7_neverGiven_L19 this n19 y2 y3 y4 st) 19 [(0, vP (some this)), (2, vP y2), (3, vI y3), (4, vI y4)] [] st := by
    intro n19
    induction n19 with
    | zero => intros; exact z_none
    | succ n19 ih19 =>
      have J57 : ∀ (y2 : Option Nat) (y3 : Int32) (y4 : Int32) (st : zS), zs p l e (rmX7_neverGiven) s m args below meth c Q Z spX b x A 6 0 0 res (fX7_neverGiven_j57 this (fX7_neverGiven_L19 this n19) y2 y3 y4 st) 57 [(0, vP (some this)), (2, vP y2), (3, vI y3), (4, vI y4)] [] st := by
        intro y2 y3 y4 st
        rw [fX7_neverGiven_j57]
        refine z_iinc X (q := 3) (y := y4 + (1 : Int32)) dX7_neverGiven_57 rfl rfl (Nat.le_of_ble_eq_true rfl) rfl ?_
        refine z_goto X (tgt := 19) dX7_neverGiven_60 (by decide) ?_
        exact z_sub [1, 2, 3, 0] (ih19 _ _ _ _) rfl
      intro y2 y3 y4 st
      rw [fX7_neverGiven_L19]
      refine z_iload X (q := 3) dX7_neverGiven_19 rfl ?_
      refine z_aload_n X (q := 0) dX7_neverGiven_21 rfl rfl ?_
      refine z_getr X hK (N := 14) (ci := 7) (k := 1) rfl (by decide) inlX7 (by decide) hf_X7_13 rfl spX_X7 rfl dX7_neverGiven_22 (fun o1 _ => ?_)
      refine z_alen X hK dX7_neverGiven_25 spX_14 (fun o2 _ => ?_)
      refine z_icmp_ge X (tgt := 63) dX7_neverGiven_26 (by decide) (fun _ => ?_) (fun _ => ?_)
      · refine z_sipush X (v := (4095 : Int32)) dX7_neverGiven_63 (by decide) ?_
        refine z_iload_n X (q := 2) dX7_neverGiven_66 rfl rfl ?_
        refine z_iconst X (v := (-1 : Int32)) dX7_neverGiven_67 (by decide) ?_
        refine z_ixor X dX7_neverGiven_68 ?_
        refine z_iand X dX7_neverGiven_69 ?_
        subst hQ; exact z_iret X hlocks hr dX7_neverGiven_70
      · refine z_aload_n X (q := 1) dX7_neverGiven_29 rfl rfl ?_
        refine z_aload_n X (q := 0) dX7_neverGiven_30 rfl rfl ?_
        refine z_getr X hK (N := 14) (ci := 7) (k := 1) rfl (by decide) inlX7 (by decide) hf_X7_13 rfl spX_X7 rfl dX7_neverGiven_31 (fun o3 _ => ?_)
        refine z_iload X (q := 3) dX7_neverGiven_34 rfl ?_
        refine z_iald X hK dX7_neverGiven_36 (fun o4 j5 _ _ => ?_)
        refine z_callV X hK (As := [vI (st.2.1 o4 j5)]) (ci := 6) rfl (by decide) (fun o => (kX6_givenBy l Z  b x o _ _)) hk_X7_118 ⟨rfl, rfl⟩ hd_X6_givenBy ⟨Nat.le_of_ble_eq_true rfl, Nat.le_of_ble_eq_true rfl⟩ ⟨Nat.le_of_ble_eq_true rfl, Nat.le_of_ble_eq_true rfl⟩ rfl rfl (Nat.le_of_ble_eq_true rfl) dX7_neverGiven_37 (fun _ q6 _ => ?_)
        refine z_name (fun v7 => ?_)
        refine z_istore X dX7_neverGiven_40 (Nat.le_of_ble_eq_true rfl) rfl ?_
        refine z_iload X (q := 0) dX7_neverGiven_42 rfl ?_
        refine z_callS X hK (As := [vI v7]) (kX7_isThing l Z  b x _ _) hk_X7_77 ⟨rfl, rfl⟩ hd_X7_isThing.2 ⟨Nat.le_of_ble_eq_true rfl, Nat.le_of_ble_eq_true rfl⟩ ⟨Nat.le_of_ble_eq_true rfl, Nat.le_of_ble_eq_true rfl⟩ rfl rfl (Nat.le_of_ble_eq_true rfl) dX7_neverGiven_44 (fun q8 => ?_)
        refine z_if_eq X (tgt := 57) dX7_neverGiven_47 (by decide) (fun _ => ?_) (fun _ => ?_)
        · exact z_sub [1, 2, 3, 4] (J57 _ _ _ _) rfl
        · refine z_iload_n X (q := 3) dX7_neverGiven_50 rfl rfl ?_
          refine z_iconst X (v := (1 : Int32)) dX7_neverGiven_51 (by decide) ?_
          refine z_iload X (q := 0) dX7_neverGiven_52 rfl ?_
          refine z_ishl X dX7_neverGiven_54 ?_
          refine z_ior X dX7_neverGiven_55 ?_
          refine z_name (fun v9 => ?_)
          refine z_istore_n X dX7_neverGiven_56 rfl (Nat.le_of_ble_eq_true rfl) rfl ?_
          exact z_sub [2, 3, 0, 4] (J57 _ _ _ _) rfl
  rw [fX7_neverGiven]
  refine z_aload_n X (q := 0) dX7_neverGiven_0 rfl rfl ?_
  refine z_iload_n X (q := 1) dX7_neverGiven_1 rfl rfl ?_
  refine z_callV X hK (As := [vI a1]) (ci := 7) rfl (by decide) (fun o => (kX7_visitOf l Z  b x o _ _)) hk_X7_108 ⟨rfl, rfl⟩ hd_X7_visitOf ⟨Nat.le_of_ble_eq_true rfl, Nat.le_of_ble_eq_true rfl⟩ ⟨Nat.le_of_ble_eq_true rfl, Nat.le_of_ble_eq_true rfl⟩ rfl rfl (Nat.le_of_ble_eq_true rfl) dX7_neverGiven_2 (fun _ q11 _ => ?_)
  refine z_astore_n X dX7_neverGiven_5 rfl (Nat.le_of_ble_eq_true rfl) rfl ?_
  refine z_aload_n X (q := 0) dX7_neverGiven_6 rfl rfl ?_
  refine z_ifnonnull X (tgt := 14) dX7_neverGiven_7 (by decide) (fun _ => ?_) (fun _ => ?_)
  · refine z_iconst X (v := (0 : Int32)) dX7_neverGiven_14 (by decide) ?_
    refine z_istore_n X dX7_neverGiven_15 rfl (Nat.le_of_ble_eq_true rfl) rfl ?_
    refine z_iconst X (v := (0 : Int32)) dX7_neverGiven_16 (by decide) ?_
    refine z_istore X dX7_neverGiven_17 (Nat.le_of_ble_eq_true rfl) rfl ?_
    exact z_sub [3, 2, 1, 0] (J19 _ _ _ _ _) rfl
  · refine z_sipush X (v := (4095 : Int32)) dX7_neverGiven_10 (by decide) ?_
    subst hQ; exact z_iret X hlocks hr dX7_neverGiven_13
abbrev rmX7_rowRefusal : Room := { frames := 2, cells := 0, slots := 0, locals := 61 }
def fX7_rowRefusal_L13 : Nat → Option Nat → Int32 → zS → Option (Int32 × zS)
  | 0, _, _, _ => none
  | n + 1, y0, y1, st => (zok spX st y0 3).bind fun o1 => if (st.2.1 o1 2) ≤ y1 then (some ((0 : Int32), st)) else ((zok spX st y0 3).bind fun o4 => (fX3_at o4 y1 st).bind fun q2 => (fX7_isAsked q2.1 q2.2).bind fun q3 => if q3.1 = 0 then (some ((-1002 : Int32), q3.2)) else ((fX7_rowRefusal_L13 n) y0 (y1 + (1 : Int32)) q3.2))
def fX7_rowRefusal (a0 : Option Nat) (st : zS) : Option (Int32 × zS) :=
  (zok spX st a0 3).bind fun o6 => (fX3_isMissing o6 st).bind fun q5 => if q5.1 = 0 then (fX7_rowRefusal_L13 zF a0 (0 : Int32) q5.2) else (some ((-1011 : Int32), q5.2))
set_option maxRecDepth 100000 in
set_option maxHeartbeats 4000000 in
theorem kX7_rowRefusal (l : Launch) (Z : zZ) (b : Nat) (x : Option Nat) (a0 : Option Nat) (st : zS) : zC l Z spX b x yX7_rowRefusal (.code yX7_rowRefusal cX7_rowRefusal 2 (some .int)) (rmX7_rowRefusal) rI [vP a0] st (fX7_rowRefusal a0 st) := by
  refine z_start (own := RX7) rfl (by decide +kernel) (Nat.le_of_ble_eq_true rfl) rfl (fun p e s m args below meth c res Q A X hK hr hlocks hQ => ?_)
  have J13 : ∀ (n13 : Nat) (y0 : Option Nat) (y1 : Int32) (st : zS), zs p l e (rmX7_rowRefusal) s m args below meth c Q Z spX b x A 2 0 0 res (fX7_rowRefusal_L13 n13 y0 y1 st) 13 [(0, vP y0), (1, vI y1)] [] st := by
    intro n13
    induction n13 with
    | zero => intros; exact z_none
    | succ n13 ih13 =>
      intro y0 y1 st
      rw [fX7_rowRefusal_L13]
      refine z_iload_n X (q := 1) dX7_rowRefusal_13 rfl rfl ?_
      refine z_aload_n X (q := 0) dX7_rowRefusal_14 rfl rfl ?_
      refine z_geti X hK (N := 3) (ci := 3) (k := 2) rfl (by decide) inlX3 (by decide) hf_X7_228 rfl spX_X3 rfl dX7_rowRefusal_15 (fun o1 _ => ?_)
      refine z_icmp_ge X (tgt := 42) dX7_rowRefusal_18 (by decide) (fun _ => ?_) (fun _ => ?_)
      · refine z_iconst X (v := (0 : Int32)) dX7_rowRefusal_42 (by decide) ?_
        subst hQ; exact z_iret X hlocks hr dX7_rowRefusal_43
      · refine z_aload_n X (q := 0) dX7_rowRefusal_21 rfl rfl ?_
        refine z_iload_n X (q := 1) dX7_rowRefusal_22 rfl rfl ?_
        refine z_callV X hK (As := [vI y1]) (ci := 3) rfl (by decide) (fun o => (kX3_at l Z  b x o _ _)) hk_X7_293 ⟨rfl, rfl⟩ hd_X3_at ⟨Nat.le_of_ble_eq_true rfl, Nat.le_of_ble_eq_true rfl⟩ ⟨Nat.le_of_ble_eq_true rfl, Nat.le_of_ble_eq_true rfl⟩ rfl rfl (Nat.le_of_ble_eq_true rfl) dX7_rowRefusal_23 (fun _ q2 _ => ?_)
        refine z_callS X hK (As := [vI q2.1]) (kX7_isAsked l Z  b x _ _) hk_X7_112 ⟨rfl, rfl⟩ hd_X7_isAsked.2 ⟨Nat.le_of_ble_eq_true rfl, Nat.le_of_ble_eq_true rfl⟩ ⟨Nat.le_of_ble_eq_true rfl, Nat.le_of_ble_eq_true rfl⟩ rfl rfl (Nat.le_of_ble_eq_true rfl) dX7_rowRefusal_26 (fun q3 => ?_)
        refine z_if_ne X (tgt := 36) dX7_rowRefusal_29 (by decide) (fun _ => ?_) (fun _ => ?_)
        · refine z_iinc X (q := 1) (y := y1 + (1 : Int32)) dX7_rowRefusal_36 rfl rfl (Nat.le_of_ble_eq_true rfl) rfl ?_
          refine z_goto X (tgt := 13) dX7_rowRefusal_39 (by decide) ?_
          exact z_sub [1, 0] (ih13 _ _ _) rfl
        · refine z_sipush X (v := (-1002 : Int32)) dX7_rowRefusal_32 (by decide) ?_
          subst hQ; exact z_iret X hlocks hr dX7_rowRefusal_35
  rw [fX7_rowRefusal]
  refine z_aload_n X (q := 0) dX7_rowRefusal_0 rfl rfl ?_
  refine z_callV X hK (As := []) (ci := 3) rfl (by decide) (fun o => (kX3_isMissing l Z  b x o _)) hk_X7_196 ⟨rfl, rfl⟩ hd_X3_isMissing ⟨Nat.le_of_ble_eq_true rfl, Nat.le_of_ble_eq_true rfl⟩ ⟨Nat.le_of_ble_eq_true rfl, Nat.le_of_ble_eq_true rfl⟩ rfl rfl (Nat.le_of_ble_eq_true rfl) dX7_rowRefusal_1 (fun _ q5 _ => ?_)
  refine z_if_eq X (tgt := 11) dX7_rowRefusal_4 (by decide) (fun _ => ?_) (fun _ => ?_)
  · refine z_iconst X (v := (0 : Int32)) dX7_rowRefusal_11 (by decide) ?_
    refine z_istore_n X dX7_rowRefusal_12 rfl (Nat.le_of_ble_eq_true rfl) rfl ?_
    exact z_sub [1, 0] (J13 _ _ _ _) rfl
  · refine z_sipush X (v := (-1011 : Int32)) dX7_rowRefusal_7 (by decide) ?_
    subst hQ; exact z_iret X hlocks hr dX7_rowRefusal_10
theorem zw_460 : Cond.methodLink RX7 151 yX7_rowRefusal ∈ wsL_law := zr_37 _ (by decide +kernel)
theorem zw_461 : Cond.static yX7_rowRefusal ∈ wsL_law := zr_37 _ (by decide +kernel)
theorem zw_462 : Cond.code yX7_rowRefusal cX7_rowRefusal 2 (some .int) ∈ wsL_law := zr_37 _ (by decide +kernel)
theorem hk_X7_151 : ∀ w ∈ ([Cond.methodLink RX7 151 yX7_rowRefusal, Cond.static yX7_rowRefusal, Cond.initialized RX7, Cond.code yX7_rowRefusal cX7_rowRefusal 2 (some .int)] : List Cond), w ∈ wsL_law := List.forall_mem_cons.mpr ⟨zw_460, List.forall_mem_cons.mpr ⟨zw_461, List.forall_mem_cons.mpr ⟨zw_322, List.forall_mem_cons.mpr ⟨zw_462, fun _ h => absurd h List.not_mem_nil⟩⟩⟩⟩
theorem zw_463 : Cond.methodLink RX7 155 yX7_askInRow ∈ wsL_law := zr_37 _ (by decide +kernel)
theorem zw_464 : Cond.static yX7_askInRow ∈ wsL_law := zr_37 _ (by decide +kernel)
theorem zw_465 : Cond.code yX7_askInRow cX7_askInRow 3 none ∈ wsL_law := zr_37 _ (by decide +kernel)
theorem hk_X7_155 : ∀ w ∈ ([Cond.methodLink RX7 155 yX7_askInRow, Cond.static yX7_askInRow, Cond.initialized RX7, Cond.code yX7_askInRow cX7_askInRow 3 none] : List Cond), w ∈ wsL_law := List.forall_mem_cons.mpr ⟨zw_463, List.forall_mem_cons.mpr ⟨zw_464, List.forall_mem_cons.mpr ⟨zw_322, List.forall_mem_cons.mpr ⟨zw_465, fun _ h => absurd h List.not_mem_nil⟩⟩⟩⟩
theorem hd_X7_askInRow : yX7_askInRow.cls = RX7 ∧ yX7_askInRow.cls ≠ "java/lang/invoke/MethodHandle" ∧ yX7_askInRow.cls ≠ "java/lang/invoke/VarHandle" ∧ (parseMethodDescriptor yX7_askInRow.desc).map (fun d => d.parameters.length) = some 2 := by decide +kernel
theorem hd_X7_rowRefusal : yX7_rowRefusal.cls = RX7 ∧ yX7_rowRefusal.cls ≠ "java/lang/invoke/MethodHandle" ∧ yX7_rowRefusal.cls ≠ "java/lang/invoke/VarHandle" ∧ (parseMethodDescriptor yX7_rowRefusal.desc).map (fun d => d.parameters.length) = some 1 := by decide +kernel
theorem zw_466 : Cond.fieldLink RX7 159 "WellGivesOther$Visit" "last" "I" ∈ wsL_law := zr_36 _ (by decide +kernel)
theorem hf_X7_159 : Cond.fieldLink RX7 159 "WellGivesOther$Visit" "last" "I" ∈ wsL_law := zw_466
theorem zw_467 : Cond.fieldLink RX7 162 "WellGivesOther$Visit" "misses" "I" ∈ wsL_law := zr_36 _ (by decide +kernel)
theorem hf_X7_162 : Cond.fieldLink RX7 162 "WellGivesOther$Visit" "misses" "I" ∈ wsL_law := zw_467
theorem zw_468 : Cond.fieldLink RX7 165 "WellGivesOther$Visit" "joy" "I" ∈ wsL_law := zr_36 _ (by decide +kernel)
theorem hf_X7_165 : Cond.fieldLink RX7 165 "WellGivesOther$Visit" "joy" "I" ∈ wsL_law := zw_468
theorem zw_469 : Cond.fieldLink RX7 168 "WellGivesOther$Visit" "paid" "I" ∈ wsL_law := zr_36 _ (by decide +kernel)
theorem hf_X7_168 : Cond.fieldLink RX7 168 "WellGivesOther$Visit" "paid" "I" ∈ wsL_law := zw_469
abbrev rmX7_row : Room := { frames := 7, cells := 0, slots := 0, locals := 182 }
def fX7_row (this : Nat) (a1 : Int32) (a2 : Int32) (a3 : Int32) (st : zS) : Option (Int32 × zS) :=
  (zok spX st (some this) 7).bind fun o18 => (fX7_visitOf o18 a2 st).bind fun q1 => (zok spX q1.2 (some this) 7).bind fun o17 => (fX7_sheetAt o17 a1 q1.2).bind fun q2 => if q2.1 = none then (some ((-1000 : Int32), q2.2)) else (if q1.1 = none then (some ((-1000 : Int32), q2.2)) else (if a3 < 0 then (some ((-1000 : Int32), q2.2)) else (if a3 ≤ (5 : Int32) then ((fX7_rowRefusal q2.1 q2.2).bind fun q3 => zlet (q3.1) fun v4 => if v4 = 0 then ((fX7_askInRow q1.1 q2.1 q3.2).bind fun q5 => if a3 = (0 : Int32) then ((zok spX q5.2 q1.1 6).bind fun o7 => some ((q5.2.2.1 o7 10), q5.2)) else (if a3 = (1 : Int32) then ((zok spX q5.2 q1.1 6).bind fun o9 => some ((q5.2.2.1 o9 12), q5.2)) else (if a3 = (2 : Int32) then ((zok spX q5.2 q1.1 6).bind fun o11 => some ((q5.2.2.1 o11 13), q5.2)) else (if a3 = (3 : Int32) then ((zok spX q5.2 q1.1 6).bind fun o13 => some ((q5.2.2.1 o13 14), q5.2)) else (if a3 = (4 : Int32) then ((zok spX q5.2 q1.1 6).bind fun o15 => some ((q5.2.2.1 o15 5), q5.2)) else ((zok spX q5.2 q1.1 6).bind fun o16 => some ((q5.2.2.1 o16 6), q5.2))))))) else (some (v4, q3.2))) else (some ((-1000 : Int32), q2.2)))))
set_option maxRecDepth 100000 in
set_option maxHeartbeats 4000000 in
theorem kX7_row (l : Launch) (Z : zZ) (b : Nat) (x : Option Nat) (this : Nat) (a1 : Int32) (a2 : Int32) (a3 : Int32) (st : zS) : zC l Z spX b x yX7_row (.code yX7_row cX7_row 7 (some .int)) (rmX7_row) rI [vP (some this), vI a1, vI a2, vI a3] st (fX7_row this a1 a2 a3 st) := by
  refine z_start (own := RX7) rfl (by decide +kernel) (Nat.le_of_ble_eq_true rfl) rfl (fun p e s m args below meth c res Q A X hK hr hlocks hQ => ?_)
  rw [fX7_row]
  refine z_aload_n X (q := 0) dX7_row_0 rfl rfl ?_
  refine z_iload_n X (q := 2) dX7_row_1 rfl rfl ?_
  refine z_callV X hK (As := [vI a2]) (ci := 7) rfl (by decide) (fun o => (kX7_visitOf l Z  b x o _ _)) hk_X7_108 ⟨rfl, rfl⟩ hd_X7_visitOf ⟨Nat.le_of_ble_eq_true rfl, Nat.le_of_ble_eq_true rfl⟩ ⟨Nat.le_of_ble_eq_true rfl, Nat.le_of_ble_eq_true rfl⟩ rfl rfl (Nat.le_of_ble_eq_true rfl) dX7_row_2 (fun _ q1 _ => ?_)
  refine z_astore X dX7_row_5 (Nat.le_of_ble_eq_true rfl) rfl ?_
  refine z_aload_n X (q := 1) dX7_row_7 rfl rfl ?_
  refine z_iload_n X (q := 2) dX7_row_8 rfl rfl ?_
  refine z_callV X hK (As := [vI a1]) (ci := 7) rfl (by decide) (fun o => (kX7_sheetAt l Z  b x o _ _)) hk_X7_147 ⟨rfl, rfl⟩ hd_X7_sheetAt ⟨Nat.le_of_ble_eq_true rfl, Nat.le_of_ble_eq_true rfl⟩ ⟨Nat.le_of_ble_eq_true rfl, Nat.le_of_ble_eq_true rfl⟩ rfl rfl (Nat.le_of_ble_eq_true rfl) dX7_row_9 (fun _ q2 _ => ?_)
  refine z_astore X dX7_row_12 (Nat.le_of_ble_eq_true rfl) rfl ?_
  refine z_aload X (q := 0) dX7_row_14 rfl ?_
  refine z_ifnull X (tgt := 33) dX7_row_16 (by decide) (fun _ => ?_) (fun _ => ?_)
  · refine z_sipush X (v := (-1000 : Int32)) dX7_row_33 (by decide) ?_
    subst hQ; exact z_iret X hlocks hr dX7_row_36
  · refine z_aload X (q := 1) dX7_row_19 rfl ?_
    refine z_ifnull X (tgt := 33) dX7_row_21 (by decide) (fun _ => ?_) (fun _ => ?_)
    · refine z_sipush X (v := (-1000 : Int32)) dX7_row_33 (by decide) ?_
      subst hQ; exact z_iret X hlocks hr dX7_row_36
    · refine z_iload_n X (q := 5) dX7_row_24 rfl rfl ?_
      refine z_if_lt X (tgt := 33) dX7_row_25 (by decide) (fun _ => ?_) (fun _ => ?_)
      · refine z_sipush X (v := (-1000 : Int32)) dX7_row_33 (by decide) ?_
        subst hQ; exact z_iret X hlocks hr dX7_row_36
      · refine z_iload_n X (q := 5) dX7_row_28 rfl rfl ?_
        refine z_iconst X (v := (5 : Int32)) dX7_row_29 (by decide) ?_
        refine z_icmp_le X (tgt := 37) dX7_row_30 (by decide) (fun _ => ?_) (fun _ => ?_)
        · refine z_aload X (q := 0) dX7_row_37 rfl ?_
          refine z_callS X hK (As := [vP q2.1]) (kX7_rowRefusal l Z  b x _ _) hk_X7_151 ⟨rfl, rfl⟩ hd_X7_rowRefusal.2 ⟨Nat.le_of_ble_eq_true rfl, Nat.le_of_ble_eq_true rfl⟩ ⟨Nat.le_of_ble_eq_true rfl, Nat.le_of_ble_eq_true rfl⟩ rfl rfl (Nat.le_of_ble_eq_true rfl) dX7_row_39 (fun q3 => ?_)
          refine z_name (fun v4 => ?_)
          refine z_istore X dX7_row_42 (Nat.le_of_ble_eq_true rfl) rfl ?_
          refine z_iload X (q := 0) dX7_row_44 rfl ?_
          refine z_if_eq X (tgt := 52) dX7_row_46 (by decide) (fun _ => ?_) (fun _ => ?_)
          · refine z_aload X (q := 2) dX7_row_52 rfl ?_
            refine z_aload X (q := 1) dX7_row_54 rfl ?_
            refine z_callS X hK (As := [vP q1.1, vP q2.1]) (kX7_askInRow l Z  b x _ _ _) hk_X7_155 ⟨rfl, rfl⟩ hd_X7_askInRow.2 ⟨Nat.le_of_ble_eq_true rfl, Nat.le_of_ble_eq_true rfl⟩ ⟨Nat.le_of_ble_eq_true rfl, Nat.le_of_ble_eq_true rfl⟩ rfl rfl (Nat.le_of_ble_eq_true rfl) dX7_row_56 (fun q5 => ?_)
            refine z_iload_n X (q := 6) dX7_row_59 rfl rfl ?_
            refine z_ite (fun h6 => ?_) (fun h6 => ?_)
            · refine z_tabIn X (off := 36) (tgt := 96) dX7_row_60 (by rw [h6]; decide) (by rw [h6]; decide) (by rw [h6]; rfl) (by decide) ?_
              refine z_aload X (q := 2) dX7_row_96 rfl ?_
              refine z_geti X hK (N := 15) (ci := 6) (k := 10) rfl (by decide) inlX6 (by decide) hf_X7_159 rfl spX_X6 rfl dX7_row_98 (fun o7 _ => ?_)
              subst hQ; exact z_iret X hlocks hr dX7_row_101
            refine z_ite (fun h8 => ?_) (fun h8 => ?_)
            · refine z_tabIn X (off := 42) (tgt := 102) dX7_row_60 (by rw [h8]; decide) (by rw [h8]; decide) (by rw [h8]; rfl) (by decide) ?_
              refine z_aload X (q := 2) dX7_row_102 rfl ?_
              refine z_geti X hK (N := 15) (ci := 6) (k := 12) rfl (by decide) inlX6 (by decide) hf_X7_162 rfl spX_X6 rfl dX7_row_104 (fun o9 _ => ?_)
              subst hQ; exact z_iret X hlocks hr dX7_row_107
            refine z_ite (fun h10 => ?_) (fun h10 => ?_)
            · refine z_tabIn X (off := 48) (tgt := 108) dX7_row_60 (by rw [h10]; decide) (by rw [h10]; decide) (by rw [h10]; rfl) (by decide) ?_
              refine z_aload X (q := 2) dX7_row_108 rfl ?_
              refine z_geti X hK (N := 15) (ci := 6) (k := 13) rfl (by decide) inlX6 (by decide) hf_X7_165 rfl spX_X6 rfl dX7_row_110 (fun o11 _ => ?_)
              subst hQ; exact z_iret X hlocks hr dX7_row_113
            refine z_ite (fun h12 => ?_) (fun h12 => ?_)
            · refine z_tabIn X (off := 54) (tgt := 114) dX7_row_60 (by rw [h12]; decide) (by rw [h12]; decide) (by rw [h12]; rfl) (by decide) ?_
              refine z_aload X (q := 2) dX7_row_114 rfl ?_
              refine z_geti X hK (N := 15) (ci := 6) (k := 14) rfl (by decide) inlX6 (by decide) hf_X7_168 rfl spX_X6 rfl dX7_row_116 (fun o13 _ => ?_)
              subst hQ; exact z_iret X hlocks hr dX7_row_119
            refine z_ite (fun h14 => ?_) (fun h14 => ?_)
            · refine z_tabIn X (off := 60) (tgt := 120) dX7_row_60 (by rw [h14]; decide) (by rw [h14]; decide) (by rw [h14]; rfl) (by decide) ?_
              refine z_aload X (q := 2) dX7_row_120 rfl ?_
              refine z_geti X hK (N := 15) (ci := 6) (k := 5) rfl (by decide) inlX6 (by decide) hf_X7_171 rfl spX_X6 rfl dX7_row_122 (fun o15 _ => ?_)
              subst hQ; exact z_iret X hlocks hr dX7_row_125
            refine z_tabOut X (tgt := 126) dX7_row_60 (by have := lv_neT (a := 0) h6 (by decide); have := lv_neT (a := 1) h8 (by decide); have := lv_neT (a := 2) h10 (by decide); have := lv_neT (a := 3) h12 (by decide); have := lv_neT (a := 4) h14 (by decide); omega) (by decide) ?_
            refine z_aload X (q := 2) dX7_row_126 rfl ?_
            refine z_geti X hK (N := 15) (ci := 6) (k := 6) rfl (by decide) inlX6 (by decide) hf_X7_174 rfl spX_X6 rfl dX7_row_128 (fun o16 _ => ?_)
            subst hQ; exact z_iret X hlocks hr dX7_row_131
          · refine z_iload X (q := 0) dX7_row_49 rfl ?_
            subst hQ; exact z_iret X hlocks hr dX7_row_51
        · refine z_sipush X (v := (-1000 : Int32)) dX7_row_33 (by decide) ?_
          subst hQ; exact z_iret X hlocks hr dX7_row_36
theorem zw_470 : Cond.fieldLink RX7 177 "WellGivesOther$Visit" "gifts" "I" ∈ wsL_law := zr_39 _ (by decide +kernel)
theorem hf_X7_177 : Cond.fieldLink RX7 177 "WellGivesOther$Visit" "gifts" "I" ∈ wsL_law := zw_470
abbrev rmX7_rows : Room := { frames := 7, cells := 0, slots := 0, locals := 182 }
def fX7_rows (this : Nat) (a1 : Int32) (a2 : Int32) (st : zS) : Option (Int32 × zS) :=
  (zok spX st (some this) 7).bind fun o12 => (fX7_visitOf o12 a2 st).bind fun q1 => (zok spX q1.2 (some this) 7).bind fun o11 => (fX7_seat o11 a2 q1.2).bind fun q2 => (zok spX q2.2 (some this) 7).bind fun o10 => (fX7_sheetAt o10 a1 q2.2).bind fun q3 => if q3.1 = none then (some ((-1000 : Int32), q3.2)) else (if q1.1 = none then (some ((-1000 : Int32), q3.2)) else (if q2.1 = none then (some ((-1000 : Int32), q3.2)) else ((fX7_rowRefusal q3.1 q3.2).bind fun q4 => zlet (q4.1) fun v5 => if v5 = 0 then ((fX7_askInRow q1.1 q3.1 q4.2).bind fun q6 => (zok spX q6.2 q1.1 6).bind fun o9 => (fX6_leaveTo o9 q2.1 q6.2).bind fun q7 => (zok spX q7.2 q1.1 6).bind fun o8 => some ((q7.2.2.1 o8 11), q7.2)) else (some (v5, q4.2)))))
set_option maxRecDepth 100000 in
set_option maxHeartbeats 4000000 in
theorem kX7_rows (l : Launch) (Z : zZ) (b : Nat) (x : Option Nat) (this : Nat) (a1 : Int32) (a2 : Int32) (st : zS) : zC l Z spX b x yX7_rows (.code yX7_rows cX7_rows 7 (some .int)) (rmX7_rows) rI [vP (some this), vI a1, vI a2] st (fX7_rows this a1 a2 st) := by
  refine z_start (own := RX7) rfl (by decide +kernel) (Nat.le_of_ble_eq_true rfl) rfl (fun p e s m args below meth c res Q A X hK hr hlocks hQ => ?_)
  rw [fX7_rows]
  refine z_aload_n X (q := 0) dX7_rows_0 rfl rfl ?_
  refine z_iload_n X (q := 2) dX7_rows_1 rfl rfl ?_
  refine z_callV X hK (As := [vI a2]) (ci := 7) rfl (by decide) (fun o => (kX7_visitOf l Z  b x o _ _)) hk_X7_108 ⟨rfl, rfl⟩ hd_X7_visitOf ⟨Nat.le_of_ble_eq_true rfl, Nat.le_of_ble_eq_true rfl⟩ ⟨Nat.le_of_ble_eq_true rfl, Nat.le_of_ble_eq_true rfl⟩ rfl rfl (Nat.le_of_ble_eq_true rfl) dX7_rows_2 (fun _ q1 _ => ?_)
  refine z_astore_n X dX7_rows_5 rfl (Nat.le_of_ble_eq_true rfl) rfl ?_
  refine z_aload_n X (q := 1) dX7_rows_6 rfl rfl ?_
  refine z_iload_n X (q := 3) dX7_rows_7 rfl rfl ?_
  refine z_callV X hK (As := [vI a2]) (ci := 7) rfl (by decide) (fun o => (kX7_seat l Z  b x o _ _)) hk_X7_88 ⟨rfl, rfl⟩ hd_X7_seat ⟨Nat.le_of_ble_eq_true rfl, Nat.le_of_ble_eq_true rfl⟩ ⟨Nat.le_of_ble_eq_true rfl, Nat.le_of_ble_eq_true rfl⟩ rfl rfl (Nat.le_of_ble_eq_true rfl) dX7_rows_8 (fun _ q2 _ => ?_)
  refine z_astore X dX7_rows_11 (Nat.le_of_ble_eq_true rfl) rfl ?_
  refine z_aload_n X (q := 2) dX7_rows_13 rfl rfl ?_
  refine z_iload_n X (q := 3) dX7_rows_14 rfl rfl ?_
  refine z_callV X hK (As := [vI a1]) (ci := 7) rfl (by decide) (fun o => (kX7_sheetAt l Z  b x o _ _)) hk_X7_147 ⟨rfl, rfl⟩ hd_X7_sheetAt ⟨Nat.le_of_ble_eq_true rfl, Nat.le_of_ble_eq_true rfl⟩ ⟨Nat.le_of_ble_eq_true rfl, Nat.le_of_ble_eq_true rfl⟩ rfl rfl (Nat.le_of_ble_eq_true rfl) dX7_rows_15 (fun _ q3 _ => ?_)
  refine z_astore X dX7_rows_18 (Nat.le_of_ble_eq_true rfl) rfl ?_
  refine z_aload X (q := 0) dX7_rows_20 rfl ?_
  refine z_ifnull X (tgt := 34) dX7_rows_22 (by decide) (fun _ => ?_) (fun _ => ?_)
  · refine z_sipush X (v := (-1000 : Int32)) dX7_rows_34 (by decide) ?_
    subst hQ; exact z_iret X hlocks hr dX7_rows_37
  · refine z_aload_n X (q := 2) dX7_rows_25 rfl rfl ?_
    refine z_ifnull X (tgt := 34) dX7_rows_26 (by decide) (fun _ => ?_) (fun _ => ?_)
    · refine z_sipush X (v := (-1000 : Int32)) dX7_rows_34 (by decide) ?_
      subst hQ; exact z_iret X hlocks hr dX7_rows_37
    · refine z_aload X (q := 1) dX7_rows_29 rfl ?_
      refine z_ifnonnull X (tgt := 38) dX7_rows_31 (by decide) (fun _ => ?_) (fun _ => ?_)
      · refine z_aload X (q := 0) dX7_rows_38 rfl ?_
        refine z_callS X hK (As := [vP q3.1]) (kX7_rowRefusal l Z  b x _ _) hk_X7_151 ⟨rfl, rfl⟩ hd_X7_rowRefusal.2 ⟨Nat.le_of_ble_eq_true rfl, Nat.le_of_ble_eq_true rfl⟩ ⟨Nat.le_of_ble_eq_true rfl, Nat.le_of_ble_eq_true rfl⟩ rfl rfl (Nat.le_of_ble_eq_true rfl) dX7_rows_40 (fun q4 => ?_)
        refine z_name (fun v5 => ?_)
        refine z_istore X dX7_rows_43 (Nat.le_of_ble_eq_true rfl) rfl ?_
        refine z_iload X (q := 0) dX7_rows_45 rfl ?_
        refine z_if_eq X (tgt := 53) dX7_rows_47 (by decide) (fun _ => ?_) (fun _ => ?_)
        · refine z_aload_n X (q := 3) dX7_rows_53 rfl rfl ?_
          refine z_aload X (q := 1) dX7_rows_54 rfl ?_
          refine z_callS X hK (As := [vP q1.1, vP q3.1]) (kX7_askInRow l Z  b x _ _ _) hk_X7_155 ⟨rfl, rfl⟩ hd_X7_askInRow.2 ⟨Nat.le_of_ble_eq_true rfl, Nat.le_of_ble_eq_true rfl⟩ ⟨Nat.le_of_ble_eq_true rfl, Nat.le_of_ble_eq_true rfl⟩ rfl rfl (Nat.le_of_ble_eq_true rfl) dX7_rows_56 (fun q6 => ?_)
          refine z_aload_n X (q := 3) dX7_rows_59 rfl rfl ?_
          refine z_aload X (q := 2) dX7_rows_60 rfl ?_
          refine z_callV X hK (As := [vP q2.1]) (ci := 6) rfl (by decide) (fun o => (kX6_leaveTo l Z  b x o _ _)) hk_X7_143 ⟨rfl, rfl⟩ hd_X6_leaveTo ⟨Nat.le_of_ble_eq_true rfl, Nat.le_of_ble_eq_true rfl⟩ ⟨Nat.le_of_ble_eq_true rfl, Nat.le_of_ble_eq_true rfl⟩ rfl rfl (Nat.le_of_ble_eq_true rfl) dX7_rows_62 (fun _ q7 _ => ?_)
          refine z_aload_n X (q := 3) dX7_rows_65 rfl rfl ?_
          refine z_geti X hK (N := 15) (ci := 6) (k := 11) rfl (by decide) inlX6 (by decide) hf_X7_177 rfl spX_X6 rfl dX7_rows_66 (fun o8 _ => ?_)
          subst hQ; exact z_iret X hlocks hr dX7_rows_69
        · refine z_iload X (q := 0) dX7_rows_50 rfl ?_
          subst hQ; exact z_iret X hlocks hr dX7_rows_52
      · refine z_sipush X (v := (-1000 : Int32)) dX7_rows_34 (by decide) ?_
        subst hQ; exact z_iret X hlocks hr dX7_rows_37
theorem zw_471 : Cond.methodLink RX7 81 yX7_mostOf ∈ wsL_law := zr_8 _ (by decide +kernel)
theorem zw_472 : Cond.static yX7_mostOf ∈ wsL_law := zr_8 _ (by decide +kernel)
theorem zw_473 : Cond.code yX7_mostOf cX7_mostOf 1 (some .int) ∈ wsL_law := zr_8 _ (by decide +kernel)
theorem hk_X7_81 : ∀ w ∈ ([Cond.methodLink RX7 81 yX7_mostOf, Cond.static yX7_mostOf, Cond.initialized RX7, Cond.code yX7_mostOf cX7_mostOf 1 (some .int)] : List Cond), w ∈ wsL_law := List.forall_mem_cons.mpr ⟨zw_471, List.forall_mem_cons.mpr ⟨zw_472, List.forall_mem_cons.mpr ⟨zw_322, List.forall_mem_cons.mpr ⟨zw_473, fun _ h => absurd h List.not_mem_nil⟩⟩⟩⟩
theorem zw_474 : Cond.methodLink RX7 92 yX0_tell ∈ wsL_law := zr_8 _ (by decide +kernel)
theorem zw_475 : Cond.instanceMethod yX0_tell ∈ wsL_law := zr_8 _ (by decide +kernel)
theorem zw_476 : Cond.selects RX0 yX0_tell yX0_tell ∈ wsL_law := zr_8 _ (by decide +kernel)
theorem zw_477 : Cond.code yX0_tell cX0_tell 2 (some .int) ∈ wsL_law := zr_8 _ (by decide +kernel)
theorem hk_X7_92 : ∀ w ∈ ([Cond.methodLink RX7 92 yX0_tell, Cond.instanceMethod yX0_tell, Cond.selects RX0 yX0_tell yX0_tell, Cond.initialized RX0, Cond.code yX0_tell cX0_tell 2 (some .int)] : List Cond), w ∈ wsL_law := List.forall_mem_cons.mpr ⟨zw_474, List.forall_mem_cons.mpr ⟨zw_475, List.forall_mem_cons.mpr ⟨zw_476, List.forall_mem_cons.mpr ⟨zw_224, List.forall_mem_cons.mpr ⟨zw_477, fun _ h => absurd h List.not_mem_nil⟩⟩⟩⟩⟩
theorem zw_478 : Cond.methodLink RX7 95 yX0_change ∈ wsL_law := zr_8 _ (by decide +kernel)
theorem zw_479 : Cond.instanceMethod yX0_change ∈ wsL_law := zr_8 _ (by decide +kernel)
theorem zw_480 : Cond.selects RX0 yX0_change yX0_change ∈ wsL_law := zr_8 _ (by decide +kernel)
theorem zw_481 : Cond.code yX0_change cX0_change 3 none ∈ wsL_law := zr_8 _ (by decide +kernel)
theorem hk_X7_95 : ∀ w ∈ ([Cond.methodLink RX7 95 yX0_change, Cond.instanceMethod yX0_change, Cond.selects RX0 yX0_change yX0_change, Cond.initialized RX0, Cond.code yX0_change cX0_change 3 none] : List Cond), w ∈ wsL_law := List.forall_mem_cons.mpr ⟨zw_478, List.forall_mem_cons.mpr ⟨zw_479, List.forall_mem_cons.mpr ⟨zw_480, List.forall_mem_cons.mpr ⟨zw_224, List.forall_mem_cons.mpr ⟨zw_481, fun _ h => absurd h List.not_mem_nil⟩⟩⟩⟩⟩
theorem hd_X0_change : yX0_change.cls = RX0 ∧ yX0_change.cls ≠ "java/lang/invoke/MethodHandle" ∧ yX0_change.cls ≠ "java/lang/invoke/VarHandle" ∧ (parseMethodDescriptor yX0_change.desc).map (fun d => d.parameters.length) = some 2 := by decide +kernel
theorem hd_X0_tell : yX0_tell.cls = RX0 ∧ yX0_tell.cls ≠ "java/lang/invoke/MethodHandle" ∧ yX0_tell.cls ≠ "java/lang/invoke/VarHandle" ∧ (parseMethodDescriptor yX0_tell.desc).map (fun d => d.parameters.length) = some 1 := by decide +kernel
theorem hd_X7_mostOf : yX7_mostOf.cls = RX7 ∧ yX7_mostOf.cls ≠ "java/lang/invoke/MethodHandle" ∧ yX7_mostOf.cls ≠ "java/lang/invoke/VarHandle" ∧ (parseMethodDescriptor yX7_mostOf.desc).map (fun d => d.parameters.length) = some 1 := by decide +kernel
abbrev rmX7_set : Room := { frames := 2, cells := 0, slots := 0, locals := 62 }
def fX7_set (this : Nat) (a1 : Int32) (a2 : Int32) (a3 : Int32) (st : zS) : Option (Int32 × zS) :=
  if a1 < 0 then (some ((-2 : Int32), st)) else (if (4 : Int32) < a1 then (some ((-2 : Int32), st)) else (if a3 < 0 then (some ((-2 : Int32), st)) else ((fX7_mostOf a1 st).bind fun q1 => if a3 ≤ q1.1 then (if a1 = 0 then ((zok spX q1.2 (some this) 7).bind fun o9 => zlet ((q1.2.2.1 o9 9)) fun v10 => (zok spX q1.2 (some this) 7).bind fun o11 => zlet (zp q1.2 o11 9 a3) fun st12 => some (v10, st12)) else ((zok spX q1.2 (some this) 7).bind fun o8 => (fX7_seat o8 a2 q1.2).bind fun q2 => if q2.1 = none then (some ((-2 : Int32), q2.2)) else ((zok spX q2.2 q2.1 0).bind fun o7 => (fX0_tell o7 a1 q2.2).bind fun q3 => zlet (q3.1) fun v4 => (zok spX q3.2 q2.1 0).bind fun o6 => (fX0_change o6 a1 a3 q3.2).bind fun q5 => some (v4, q5.2)))) else (some ((-2 : Int32), q1.2)))))
set_option maxRecDepth 100000 in
set_option maxHeartbeats 4000000 in
theorem kX7_set (l : Launch) (Z : zZ) (b : Nat) (x : Option Nat) (this : Nat) (a1 : Int32) (a2 : Int32) (a3 : Int32) (st : zS) : zC l Z spX b x yX7_set (.code yX7_set cX7_set 6 (some .int)) (rmX7_set) rI [vP (some this), vI a1, vI a2, vI a3] st (fX7_set this a1 a2 a3 st) := by
  refine z_start (own := RX7) rfl (by decide +kernel) (Nat.le_of_ble_eq_true rfl) rfl (fun p e s m args below meth c res Q A X hK hr hlocks hQ => ?_)
  rw [fX7_set]
  refine z_iload_n X (q := 1) dX7_set_0 rfl rfl ?_
  refine z_if_lt X (tgt := 21) dX7_set_1 (by decide) (fun _ => ?_) (fun _ => ?_)
  · refine z_bipush X (v := (-2 : Int32)) dX7_set_21 (by decide) ?_
    subst hQ; exact z_iret X hlocks hr dX7_set_23
  · refine z_iload_n X (q := 1) dX7_set_4 rfl rfl ?_
    refine z_iconst X (v := (4 : Int32)) dX7_set_5 (by decide) ?_
    refine z_icmp_gt X (tgt := 21) dX7_set_6 (by decide) (fun _ => ?_) (fun _ => ?_)
    · refine z_bipush X (v := (-2 : Int32)) dX7_set_21 (by decide) ?_
      subst hQ; exact z_iret X hlocks hr dX7_set_23
    · refine z_iload_n X (q := 3) dX7_set_9 rfl rfl ?_
      refine z_if_lt X (tgt := 21) dX7_set_10 (by decide) (fun _ => ?_) (fun _ => ?_)
      · refine z_bipush X (v := (-2 : Int32)) dX7_set_21 (by decide) ?_
        subst hQ; exact z_iret X hlocks hr dX7_set_23
      · refine z_iload_n X (q := 3) dX7_set_13 rfl rfl ?_
        refine z_iload_n X (q := 1) dX7_set_14 rfl rfl ?_
        refine z_callS X hK (As := [vI a1]) (kX7_mostOf l Z  b x _ _) hk_X7_81 ⟨rfl, rfl⟩ hd_X7_mostOf.2 ⟨Nat.le_of_ble_eq_true rfl, Nat.le_of_ble_eq_true rfl⟩ ⟨Nat.le_of_ble_eq_true rfl, Nat.le_of_ble_eq_true rfl⟩ rfl rfl (Nat.le_of_ble_eq_true rfl) dX7_set_15 (fun q1 => ?_)
        refine z_icmp_le X (tgt := 24) dX7_set_18 (by decide) (fun _ => ?_) (fun _ => ?_)
        · refine z_iload_n X (q := 1) dX7_set_24 rfl rfl ?_
          refine z_if_ne X (tgt := 42) dX7_set_25 (by decide) (fun _ => ?_) (fun _ => ?_)
          · refine z_aload_n X (q := 0) dX7_set_42 rfl rfl ?_
            refine z_iload_n X (q := 2) dX7_set_43 rfl rfl ?_
            refine z_callV X hK (As := [vI a2]) (ci := 7) rfl (by decide) (fun o => (kX7_seat l Z  b x o _ _)) hk_X7_88 ⟨rfl, rfl⟩ hd_X7_seat ⟨Nat.le_of_ble_eq_true rfl, Nat.le_of_ble_eq_true rfl⟩ ⟨Nat.le_of_ble_eq_true rfl, Nat.le_of_ble_eq_true rfl⟩ rfl rfl (Nat.le_of_ble_eq_true rfl) dX7_set_44 (fun _ q2 _ => ?_)
            refine z_astore X dX7_set_47 (Nat.le_of_ble_eq_true rfl) rfl ?_
            refine z_aload X (q := 0) dX7_set_49 rfl ?_
            refine z_ifnonnull X (tgt := 57) dX7_set_51 (by decide) (fun _ => ?_) (fun _ => ?_)
            · refine z_aload X (q := 0) dX7_set_57 rfl ?_
              refine z_iload_n X (q := 2) dX7_set_59 rfl rfl ?_
              refine z_callV X hK (As := [vI a1]) (ci := 0) rfl (by decide) (fun o => (kX0_tell l Z  b x o _ _)) hk_X7_92 ⟨rfl, rfl⟩ hd_X0_tell ⟨Nat.le_of_ble_eq_true rfl, Nat.le_of_ble_eq_true rfl⟩ ⟨Nat.le_of_ble_eq_true rfl, Nat.le_of_ble_eq_true rfl⟩ rfl rfl (Nat.le_of_ble_eq_true rfl) dX7_set_60 (fun _ q3 _ => ?_)
              refine z_name (fun v4 => ?_)
              refine z_istore X dX7_set_63 (Nat.le_of_ble_eq_true rfl) rfl ?_
              refine z_aload X (q := 1) dX7_set_65 rfl ?_
              refine z_iload_n X (q := 3) dX7_set_67 rfl rfl ?_
              refine z_iload_n X (q := 5) dX7_set_68 rfl rfl ?_
              refine z_callV X hK (As := [vI a1, vI a3]) (ci := 0) rfl (by decide) (fun o => (kX0_change l Z  b x o _ _ _)) hk_X7_95 ⟨rfl, rfl⟩ hd_X0_change ⟨Nat.le_of_ble_eq_true rfl, Nat.le_of_ble_eq_true rfl⟩ ⟨Nat.le_of_ble_eq_true rfl, Nat.le_of_ble_eq_true rfl⟩ rfl rfl (Nat.le_of_ble_eq_true rfl) dX7_set_69 (fun _ q5 _ => ?_)
              refine z_iload X (q := 0) dX7_set_72 rfl ?_
              subst hQ; exact z_iret X hlocks hr dX7_set_74
            · refine z_bipush X (v := (-2 : Int32)) dX7_set_54 (by decide) ?_
              subst hQ; exact z_iret X hlocks hr dX7_set_56
          · refine z_aload_n X (q := 0) dX7_set_28 rfl rfl ?_
            refine z_geti X hK (N := 14) (ci := 7) (k := 9) rfl (by decide) inlX7 (by decide) hf_X7_85 rfl spX_X7 rfl dX7_set_29 (fun o9 _ => ?_)
            refine z_name (fun v10 => ?_)
            refine z_istore X dX7_set_32 (Nat.le_of_ble_eq_true rfl) rfl ?_
            refine z_aload_n X (q := 1) dX7_set_34 rfl rfl ?_
            refine z_iload_n X (q := 4) dX7_set_35 rfl rfl ?_
            refine z_puti X hK (N := 14) (ci := 7) (k := 9) rfl (by decide) inlX7 tyX7 tyX7_ok nmX7 (by decide) hf_X7_85 rfl rfl spX_X7 rfl (by decide +kernel) dX7_set_36 (fun o11 st12 _ => ?_)
            refine z_iload X (q := 0) dX7_set_39 rfl ?_
            subst hQ; exact z_iret X hlocks hr dX7_set_41
        · refine z_bipush X (v := (-2 : Int32)) dX7_set_21 (by decide) ?_
          subst hQ; exact z_iret X hlocks hr dX7_set_23
abbrev rmX7_share : Room := { frames := 2, cells := 0, slots := 0, locals := 66 }
def fX7_share (this : Nat) (a1 : Int32) (a2 : Int32) (st : zS) : Option (Int64 × zS) :=
  (zok spX st (some this) 7).bind fun o5 => (fX7_seat o5 a1 st).bind fun q1 => if q1.1 = none then (some ((-4611686018427387904 : Int64), q1.2)) else (if a2 < 0 then (some ((-4611686018427387904 : Int64), q1.2)) else (if a2 ≤ (1 : Int32) then ((zok spX q1.2 q1.1 0).bind fun o2 => (fJ6_bitCount_0f7a4 (q1.2.2.1 o2 3) q1.2).bind fun q3 => (fX7_lowest q3.1 (12 : Int32) a2 q3.2).bind fun q4 => some (q4.1, q4.2)) else (some ((-4611686018427387904 : Int64), q1.2))))
set_option maxRecDepth 100000 in
set_option maxHeartbeats 4000000 in
theorem kX7_share (l : Launch) (Z : zZ) (b : Nat) (x : Option Nat) (this : Nat) (a1 : Int32) (a2 : Int32) (st : zS) : zC l Z spX b x yX7_share (.code yX7_share cX7_share 4 (some .long)) (rmX7_share) rL [vP (some this), vI a1, vI a2] st (fX7_share this a1 a2 st) := by
  refine z_start (own := RX7) rfl (by decide +kernel) (Nat.le_of_ble_eq_true rfl) rfl (fun p e s m args below meth c res Q A X hK hr hlocks hQ => ?_)
  rw [fX7_share]
  refine z_aload_n X (q := 0) dX7_share_0 rfl rfl ?_
  refine z_iload_n X (q := 1) dX7_share_1 rfl rfl ?_
  refine z_callV X hK (As := [vI a1]) (ci := 7) rfl (by decide) (fun o => (kX7_seat l Z  b x o _ _)) hk_X7_88 ⟨rfl, rfl⟩ hd_X7_seat ⟨Nat.le_of_ble_eq_true rfl, Nat.le_of_ble_eq_true rfl⟩ ⟨Nat.le_of_ble_eq_true rfl, Nat.le_of_ble_eq_true rfl⟩ rfl rfl (Nat.le_of_ble_eq_true rfl) dX7_share_2 (fun _ q1 _ => ?_)
  refine z_astore_n X dX7_share_5 rfl (Nat.le_of_ble_eq_true rfl) rfl ?_
  refine z_aload_n X (q := 0) dX7_share_6 rfl rfl ?_
  refine z_ifnull X (tgt := 19) dX7_share_7 (by decide) (fun _ => ?_) (fun _ => ?_)
  · refine z_ldc2 X (v := (-4611686018427387904 : Int64)) (hc_X7_221) dX7_share_19 ?_
    subst hQ; exact z_lret X hlocks hr dX7_share_22
  · refine z_iload_n X (q := 3) dX7_share_10 rfl rfl ?_
    refine z_if_lt X (tgt := 19) dX7_share_11 (by decide) (fun _ => ?_) (fun _ => ?_)
    · refine z_ldc2 X (v := (-4611686018427387904 : Int64)) (hc_X7_221) dX7_share_19 ?_
      subst hQ; exact z_lret X hlocks hr dX7_share_22
    · refine z_iload_n X (q := 3) dX7_share_14 rfl rfl ?_
      refine z_iconst X (v := (1 : Int32)) dX7_share_15 (by decide) ?_
      refine z_icmp_le X (tgt := 23) dX7_share_16 (by decide) (fun _ => ?_) (fun _ => ?_)
      · refine z_aload_n X (q := 0) dX7_share_23 rfl rfl ?_
        refine z_geti X hK (N := 5) (ci := 0) (k := 3) rfl (by decide) inlX0 (by decide) hf_X7_223 rfl spX_X0 rfl dX7_share_24 (fun o2 _ => ?_)
        refine z_callS X hK (As := [vI (q1.2.2.1 o2 3)]) (kJ6_bitCount_0f7a4 l Z spX b x _ _) hk_X7_184 ⟨rfl, rfl⟩ hd_J6_bitCount_0f7a4.2 ⟨Nat.le_of_ble_eq_true rfl, Nat.le_of_ble_eq_true rfl⟩ ⟨Nat.le_of_ble_eq_true rfl, Nat.le_of_ble_eq_true rfl⟩ rfl rfl (Nat.le_of_ble_eq_true rfl) dX7_share_27 (fun q3 => ?_)
        refine z_bipush X (v := (12 : Int32)) dX7_share_30 (by decide) ?_
        refine z_iload_n X (q := 3) dX7_share_32 rfl rfl ?_
        refine z_callS X hK (As := [vI q3.1, vI (12 : Int32), vI a2]) (kX7_lowest l Z  b x _ _ _ _) hk_X7_224 ⟨rfl, rfl⟩ hd_X7_lowest.2 ⟨Nat.le_of_ble_eq_true rfl, Nat.le_of_ble_eq_true rfl⟩ ⟨Nat.le_of_ble_eq_true rfl, Nat.le_of_ble_eq_true rfl⟩ rfl rfl (Nat.le_of_ble_eq_true rfl) dX7_share_33 (fun q4 => ?_)
        subst hQ; exact z_lret X hlocks hr dX7_share_36
      · refine z_ldc2 X (v := (-4611686018427387904 : Int64)) (hc_X7_221) dX7_share_19 ?_
        subst hQ; exact z_lret X hlocks hr dX7_share_22
