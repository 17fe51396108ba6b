theorem zw_742 : Cond.fieldLink RX8 74 "WellGivesOtherModel" "many" "I" ∈ wsL_law := zr_9 _ (by decide +kernel)
theorem hf_X8_74 : Cond.fieldLink RX8 74 "WellGivesOtherModel" "many" "I" ∈ wsL_law := zw_742
abbrev rmX8_nextHad : Room := { frames := 1, cells := 0, slots := 0, locals := 40 }
def fX8_nextHad_j34 (this : Nat) (s0 : Option Nat) (s1 : Int32) (s2 : Int32) (st : zS) : Option (Int32 × zS) :=
  (zok spM st s0 9).bind fun o1 => (zix spM o1 ((s1 * s2) + (2 : Int32))).bind fun j2 => some ((st.2.1 o1 j2), st)
def fX8_nextHad (this : Nat) (a1 : Int32) (st : zS) : Option (Int32 × zS) :=
  (zok spM st (some this) 8).bind fun o3 => if (st.2.1 o3 11) = (1 : Int32) then (some ((0 : Int32), st)) else ((zok spM st (some this) 8).bind fun o4 => (zok spM st (some this) 8).bind fun o5 => if (a1 + (1 : Int32)) = (st.2.1 o5 11) then (fX8_nextHad_j34 this (st.2.2.2 o4 10) (4 : Int32) (0 : Int32) st) else (fX8_nextHad_j34 this (st.2.2.2 o4 10) (4 : Int32) (a1 + (1 : Int32)) st))
set_option maxRecDepth 100000 in
set_option maxHeartbeats 4000000 in
theorem kX8_nextHad (l : Launch) (Z : zZ) (b : Nat) (x : Option Nat) (this : Nat) (a1 : Int32) (st : zS) : zC l Z spM b x yX8_nextHad (.code yX8_nextHad cX8_nextHad 2 (some .int)) (rmX8_nextHad) rI [vP (some this), vI a1] st (fX8_nextHad this a1 st) := by
  refine z_start (own := RX8) rfl (by decide +kernel) (Nat.le_of_ble_eq_true rfl) rfl (fun p e s m args below meth c res Q A X hK hr hlocks hQ => ?_)
  have J34 : ∀ (s0 : Option Nat) (s1 : Int32) (s2 : Int32) (st : zS), zs p l e (rmX8_nextHad) s m args below meth c Q Z spM b x A 2 0 0 res (fX8_nextHad_j34 this s0 s1 s2 st) 34 [] [vI s2, vI s1, vP s0] st := by
    intro s0 s1 s2 st
    rw [fX8_nextHad_j34]
    refine z_imul X dX8_nextHad_34 ?_
    refine z_iconst X (v := (2 : Int32)) dX8_nextHad_35 (by decide) ?_
    refine z_iadd X dX8_nextHad_36 ?_
    refine z_iald X hK dX8_nextHad_37 (fun o1 j2 _ _ => ?_)
    subst hQ; exact z_iret X hlocks hr dX8_nextHad_38
  rw [fX8_nextHad]
  refine z_aload_n X (q := 0) dX8_nextHad_0 rfl rfl ?_
  refine z_geti X hK (N := 46) (ci := 8) (k := 11) rfl (by decide) inlX8 (by decide) hf_X8_74 rfl spM_X8 rfl dX8_nextHad_1 (fun o3 _ => ?_)
  refine z_iconst X (v := (1 : Int32)) dX8_nextHad_4 (by decide) ?_
  refine z_icmp_ne X (tgt := 12) dX8_nextHad_5 (by decide) (fun _ => ?_) (fun _ => ?_)
  · refine z_aload_n X (q := 0) dX8_nextHad_12 rfl rfl ?_
    refine z_getr X hK (N := 46) (ci := 8) (k := 10) rfl (by decide) inlX8 (by decide) hf_X8_29 rfl spM_X8 rfl dX8_nextHad_13 (fun o4 _ => ?_)
    refine z_iconst X (v := (4 : Int32)) dX8_nextHad_16 (by decide) ?_
    refine z_iload_n X (q := 1) dX8_nextHad_17 rfl rfl ?_
    refine z_iconst X (v := (1 : Int32)) dX8_nextHad_18 (by decide) ?_
    refine z_iadd X dX8_nextHad_19 ?_
    refine z_aload_n X (q := 0) dX8_nextHad_20 rfl rfl ?_
    refine z_geti X hK (N := 46) (ci := 8) (k := 11) rfl (by decide) inlX8 (by decide) hf_X8_74 rfl spM_X8 rfl dX8_nextHad_21 (fun o5 _ => ?_)
    refine z_icmp_ne X (tgt := 31) dX8_nextHad_24 (by decide) (fun _ => ?_) (fun _ => ?_)
    · refine z_iload_n X (q := 1) dX8_nextHad_31 rfl rfl ?_
      refine z_iconst X (v := (1 : Int32)) dX8_nextHad_32 (by decide) ?_
      refine z_iadd X dX8_nextHad_33 ?_
      exact z_sub [] (J34 _ _ _ _) rfl
    · refine z_iconst X (v := (0 : Int32)) dX8_nextHad_27 (by decide) ?_
      refine z_goto X (tgt := 34) dX8_nextHad_28 (by decide) ?_
      exact z_sub [] (J34 _ _ _ _) rfl
  · refine z_iconst X (v := (0 : Int32)) dX8_nextHad_8 (by decide) ?_
    refine z_goto X (tgt := 38) dX8_nextHad_9 (by decide) ?_
    subst hQ; exact z_iret X hlocks hr dX8_nextHad_38
theorem zw_743 : Cond.methodLink RX8 331 yX8_likeFew ∈ wsL_law := zr_10 _ (by decide +kernel)
theorem zw_744 : Cond.instanceMethod yX8_likeFew ∈ wsL_law := zr_10 _ (by decide +kernel)
theorem zw_745 : Cond.selects RX8 yX8_likeFew yX8_likeFew ∈ wsL_law := zr_10 _ (by decide +kernel)
theorem zw_746 : Cond.code yX8_likeFew cX8_likeFew 4 (some .int) ∈ wsL_law := zr_10 _ (by decide +kernel)
theorem hk_X8_331 : ∀ w ∈ ([Cond.methodLink RX8 331 yX8_likeFew, Cond.instanceMethod yX8_likeFew, Cond.selects RX8 yX8_likeFew yX8_likeFew, Cond.initialized RX8, Cond.code yX8_likeFew cX8_likeFew 4 (some .int)] : List Cond), w ∈ wsL_law := List.forall_mem_cons.mpr ⟨zw_743, List.forall_mem_cons.mpr ⟨zw_744, List.forall_mem_cons.mpr ⟨zw_745, List.forall_mem_cons.mpr ⟨zw_525, List.forall_mem_cons.mpr ⟨zw_746, fun _ h => absurd h List.not_mem_nil⟩⟩⟩⟩⟩
theorem zw_747 : Cond.methodLink RX8 334 yX8_likeAny ∈ wsL_law := zr_10 _ (by decide +kernel)
theorem zw_748 : Cond.instanceMethod yX8_likeAny ∈ wsL_law := zr_10 _ (by decide +kernel)
theorem zw_749 : Cond.selects RX8 yX8_likeAny yX8_likeAny ∈ wsL_law := zr_10 _ (by decide +kernel)
theorem zw_750 : Cond.code yX8_likeAny cX8_likeAny 4 (some .int) ∈ wsL_law := zr_10 _ (by decide +kernel)
theorem hk_X8_334 : ∀ w ∈ ([Cond.methodLink RX8 334 yX8_likeAny, Cond.instanceMethod yX8_likeAny, Cond.selects RX8 yX8_likeAny yX8_likeAny, Cond.initialized RX8, Cond.code yX8_likeAny cX8_likeAny 4 (some .int)] : List Cond), w ∈ wsL_law := List.forall_mem_cons.mpr ⟨zw_747, List.forall_mem_cons.mpr ⟨zw_748, List.forall_mem_cons.mpr ⟨zw_749, List.forall_mem_cons.mpr ⟨zw_525, List.forall_mem_cons.mpr ⟨zw_750, fun _ h => absurd h List.not_mem_nil⟩⟩⟩⟩⟩
theorem zw_751 : Cond.methodLink RX8 337 yX8_nextHad ∈ wsL_law := zr_10 _ (by decide +kernel)
theorem zw_752 : Cond.instanceMethod yX8_nextHad ∈ wsL_law := zr_10 _ (by decide +kernel)
theorem zw_753 : Cond.selects RX8 yX8_nextHad yX8_nextHad ∈ wsL_law := zr_10 _ (by decide +kernel)
theorem zw_754 : Cond.code yX8_nextHad cX8_nextHad 2 (some .int) ∈ wsL_law := zr_10 _ (by decide +kernel)
theorem hk_X8_337 : ∀ w ∈ ([Cond.methodLink RX8 337 yX8_nextHad, Cond.instanceMethod yX8_nextHad, Cond.selects RX8 yX8_nextHad yX8_nextHad, Cond.initialized RX8, Cond.code yX8_nextHad cX8_nextHad 2 (some .int)] : List Cond), w ∈ wsL_law := List.forall_mem_cons.mpr ⟨zw_751, List.forall_mem_cons.mpr ⟨zw_752, List.forall_mem_cons.mpr ⟨zw_753, List.forall_mem_cons.mpr ⟨zw_525, List.forall_mem_cons.mpr ⟨zw_754, fun _ h => absurd h List.not_mem_nil⟩⟩⟩⟩⟩
theorem hd_X8_likeAny : yX8_likeAny.cls = RX8 ∧ yX8_likeAny.cls ≠ "java/lang/invoke/MethodHandle" ∧ yX8_likeAny.cls ≠ "java/lang/invoke/VarHandle" ∧ (parseMethodDescriptor yX8_likeAny.desc).map (fun d => d.parameters.length) = some 1 := by decide +kernel
theorem hd_X8_likeFew : yX8_likeFew.cls = RX8 ∧ yX8_likeFew.cls ≠ "java/lang/invoke/MethodHandle" ∧ yX8_likeFew.cls ≠ "java/lang/invoke/VarHandle" ∧ (parseMethodDescriptor yX8_likeFew.desc).map (fun d => d.parameters.length) = some 1 := by decide +kernel
theorem hd_X8_nextHad : yX8_nextHad.cls = RX8 ∧ yX8_nextHad.cls ≠ "java/lang/invoke/MethodHandle" ∧ yX8_nextHad.cls ≠ "java/lang/invoke/VarHandle" ∧ (parseMethodDescriptor yX8_nextHad.desc).map (fun d => d.parameters.length) = some 1 := by decide +kernel
theorem zw_755 : Cond.fieldLink RX8 26 "WellGivesOtherModel" "kinds" "[I" ∈ wsL_law := zr_6 _ (by decide +kernel)
theorem hf_X8_26 : Cond.fieldLink RX8 26 "WellGivesOtherModel" "kinds" "[I" ∈ wsL_law := zw_755
abbrev rmX8_openTo : Room := { frames := 3, cells := 0, slots := 0, locals := 85 }
def fX8_openTo_j95 (this : Nat) (y1 : Int32) (y2 : Int32) (y3 : Int32) (y4 : Int32) (st : zS) : Option (Int32 × zS) :=
  if y3 = (4 : Int32) then ((zok spM st (some this) 8).bind fun o7 => (fX8_likeAny o7 y2 st).bind fun q4 => (zok spM q4.2 (some this) 8).bind fun o6 => (fX8_likeAny o6 q4.1 q4.2).bind fun q5 => some ((y4 &&& (q5.1 ^^^ (-1 : Int32))), q5.2)) else (if y3 = (5 : Int32) then ((zok spM st (some this) 8).bind fun o1 => (zok spM st (st.2.2.2 o1 10) 9).bind fun o2 => (zix spM o2 (((4 : Int32) * y1) + (2 : Int32))).bind fun j3 => some ((y4 &&& ((st.2.1 o2 j3) ^^^ (-1 : Int32))), st)) else (some (y4, st)))
def fX8_openTo_j83 (this : Nat) (y1 : Int32) (y2 : Int32) (y3 : Int32) (y4 : Int32) (st : zS) : Option (Int32 × zS) :=
  (zok spM st (some this) 8).bind fun o10 => (fX8_nextHad o10 y1 st).bind fun q8 => zlet ((y4 &&& (q8.1 ^^^ (-1 : Int32)))) fun v9 => fX8_openTo_j95 this y1 y2 y3 v9 q8.2
def fX8_openTo (this : Nat) (a1 : Int32) (a2 : Int32) (st : zS) : Option (Int32 × zS) :=
  (zok spM st (some this) 8).bind fun o11 => (zok spM st (st.2.2.2 o11 9) 9).bind fun o12 => (zix spM o12 a1).bind fun j13 => zlet ((st.2.1 o12 j13)) fun v14 => zlet (((4095 : Int32) &&& (a2 ^^^ (-1 : Int32)))) fun v15 => if v14 = (3 : Int32) then ((zok spM st (some this) 8).bind fun o26 => (fX8_likeFew o26 a2 st).bind fun q25 => some ((v15 &&& q25.1), q25.2)) else ((zok spM st (some this) 8).bind fun o16 => (zok spM st (st.2.2.2 o16 10) 9).bind fun o17 => (zix spM o17 (((4 : Int32) * a1) + (1 : Int32))).bind fun j18 => zlet ((v15 &&& ((st.2.1 o17 j18) ^^^ (-1 : Int32)))) fun v19 => if v14 = (1 : Int32) then ((zok spM st (some this) 8).bind fun o24 => (fX8_likeFew o24 a2 st).bind fun q23 => some ((v19 &&& q23.1), q23.2)) else ((zok spM st (some this) 8).bind fun o22 => (fX8_likeAny o22 a2 st).bind fun q20 => zlet ((v19 &&& (q20.1 ^^^ (-1 : Int32)))) fun v21 => if v14 = (2 : Int32) then (fX8_openTo_j83 this a1 a2 v14 v21 q20.2) else (if v14 = (4 : Int32) then (fX8_openTo_j83 this a1 a2 v14 v21 q20.2) else (fX8_openTo_j95 this a1 a2 v14 v21 q20.2))))
set_option maxRecDepth 100000 in
set_option maxHeartbeats 4000000 in
theorem kX8_openTo (l : Launch) (Z : zZ) (b : Nat) (x : Option Nat) (this : Nat) (a1 : Int32) (a2 : Int32) (st : zS) : zC l Z spM b x yX8_openTo (.code yX8_openTo cX8_openTo 5 (some .int)) (rmX8_openTo) rI [vP (some this), vI a1, vI a2] st (fX8_openTo this a1 a2 st) := by
  refine z_start (own := RX8) rfl (by decide +kernel) (Nat.le_of_ble_eq_true rfl) rfl (fun p e s m args below meth c res Q A X hK hr hlocks hQ => ?_)
  have J95 : ∀ (y1 : Int32) (y2 : Int32) (y3 : Int32) (y4 : Int32) (st : zS), zs p l e (rmX8_openTo) s m args below meth c Q Z spM b x A 5 0 0 res (fX8_openTo_j95 this y1 y2 y3 y4 st) 95 [(0, vP (some this)), (1, vI y1), (2, vI y2), (3, vI y3), (4, vI y4)] [] st := by
    intro y1 y2 y3 y4 st
    rw [fX8_openTo_j95]
    refine z_iload_n X (q := 3) dX8_openTo_95 rfl rfl ?_
    refine z_iconst X (v := (4 : Int32)) dX8_openTo_96 (by decide) ?_
    refine z_icmp_ne X (tgt := 117) dX8_openTo_97 (by decide) (fun _ => ?_) (fun _ => ?_)
    · refine z_iload_n X (q := 3) dX8_openTo_117 rfl rfl ?_
      refine z_iconst X (v := (5 : Int32)) dX8_openTo_118 (by decide) ?_
      refine z_icmp_ne X (tgt := 140) dX8_openTo_119 (by decide) (fun _ => ?_) (fun _ => ?_)
      · refine z_iload X (q := 4) dX8_openTo_140 rfl ?_
        subst hQ; exact z_iret X hlocks hr dX8_openTo_142
      · refine z_iload X (q := 4) dX8_openTo_122 rfl ?_
        refine z_aload_n X (q := 0) dX8_openTo_124 rfl rfl ?_
        refine z_getr X hK (N := 46) (ci := 8) (k := 10) rfl (by decide) inlX8 (by decide) hf_X8_29 rfl spM_X8 rfl dX8_openTo_125 (fun o1 _ => ?_)
        refine z_iconst X (v := (4 : Int32)) dX8_openTo_128 (by decide) ?_
        refine z_iload_n X (q := 1) dX8_openTo_129 rfl rfl ?_
        refine z_imul X dX8_openTo_130 ?_
        refine z_iconst X (v := (2 : Int32)) dX8_openTo_131 (by decide) ?_
        refine z_iadd X dX8_openTo_132 ?_
        refine z_iald X hK dX8_openTo_133 (fun o2 j3 _ _ => ?_)
        refine z_iconst X (v := (-1 : Int32)) dX8_openTo_134 (by decide) ?_
        refine z_ixor X dX8_openTo_135 ?_
        refine z_iand X dX8_openTo_136 ?_
        refine z_goto X (tgt := 142) dX8_openTo_137 (by decide) ?_
        subst hQ; exact z_iret X hlocks hr dX8_openTo_142
    · refine z_iload X (q := 4) dX8_openTo_100 rfl ?_
      refine z_aload_n X (q := 0) dX8_openTo_102 rfl rfl ?_
      refine z_aload_n X (q := 0) dX8_openTo_103 rfl rfl ?_
      refine z_iload_n X (q := 2) dX8_openTo_104 rfl rfl ?_
      refine z_callV X hK (As := [vI y2]) (ci := 8) rfl (by decide) (fun o => (kX8_likeAny l Z  b x o _ _)) hk_X8_334 ⟨rfl, rfl⟩ hd_X8_likeAny ⟨Nat.le_of_ble_eq_true rfl, Nat.le_of_ble_eq_true rfl⟩ ⟨Nat.le_of_ble_eq_true rfl, Nat.le_of_ble_eq_true rfl⟩ rfl rfl (Nat.le_of_ble_eq_true rfl) dX8_openTo_105 (fun _ q4 _ => ?_)
      refine z_callV X hK (As := [vI q4.1]) (ci := 8) rfl (by decide) (fun o => (kX8_likeAny l Z  b x o _ _)) hk_X8_334 ⟨rfl, rfl⟩ hd_X8_likeAny ⟨Nat.le_of_ble_eq_true rfl, Nat.le_of_ble_eq_true rfl⟩ ⟨Nat.le_of_ble_eq_true rfl, Nat.le_of_ble_eq_true rfl⟩ rfl rfl (Nat.le_of_ble_eq_true rfl) dX8_openTo_108 (fun _ q5 _ => ?_)
      refine z_iconst X (v := (-1 : Int32)) dX8_openTo_111 (by decide) ?_
      refine z_ixor X dX8_openTo_112 ?_
      refine z_iand X dX8_openTo_113 ?_
      refine z_goto X (tgt := 142) dX8_openTo_114 (by decide) ?_
      subst hQ; exact z_iret X hlocks hr dX8_openTo_142
  have J83 : ∀ (y1 : Int32) (y2 : Int32) (y3 : Int32) (y4 : Int32) (st : zS), zs p l e (rmX8_openTo) s m args below meth c Q Z spM b x A 5 0 0 res (fX8_openTo_j83 this y1 y2 y3 y4 st) 83 [(0, vP (some this)), (1, vI y1), (2, vI y2), (3, vI y3), (4, vI y4)] [] st := by
    intro y1 y2 y3 y4 st
    rw [fX8_openTo_j83]
    refine z_iload X (q := 4) dX8_openTo_83 rfl ?_
    refine z_aload_n X (q := 0) dX8_openTo_85 rfl rfl ?_
    refine z_iload_n X (q := 1) dX8_openTo_86 rfl rfl ?_
    refine z_callV X hK (As := [vI y1]) (ci := 8) rfl (by decide) (fun o => (kX8_nextHad l Z  b x o _ _)) hk_X8_337 ⟨rfl, rfl⟩ hd_X8_nextHad ⟨Nat.le_of_ble_eq_true rfl, Nat.le_of_ble_eq_true rfl⟩ ⟨Nat.le_of_ble_eq_true rfl, Nat.le_of_ble_eq_true rfl⟩ rfl rfl (Nat.le_of_ble_eq_true rfl) dX8_openTo_87 (fun _ q8 _ => ?_)
    refine z_iconst X (v := (-1 : Int32)) dX8_openTo_90 (by decide) ?_
    refine z_ixor X dX8_openTo_91 ?_
    refine z_iand X dX8_openTo_92 ?_
    refine z_name (fun v9 => ?_)
    refine z_istore X dX8_openTo_93 (Nat.le_of_ble_eq_true rfl) rfl ?_
    exact z_sub [1, 2, 3, 4, 0] (J95 _ _ _ _ _) rfl
  rw [fX8_openTo]
  refine z_aload_n X (q := 0) dX8_openTo_0 rfl rfl ?_
  refine z_getr X hK (N := 46) (ci := 8) (k := 9) rfl (by decide) inlX8 (by decide) hf_X8_26 rfl spM_X8 rfl dX8_openTo_1 (fun o11 _ => ?_)
  refine z_iload_n X (q := 1) dX8_openTo_4 rfl rfl ?_
  refine z_iald X hK dX8_openTo_5 (fun o12 j13 _ _ => ?_)
  refine z_name (fun v14 => ?_)
  refine z_istore_n X dX8_openTo_6 rfl (Nat.le_of_ble_eq_true rfl) rfl ?_
  refine z_sipush X (v := (4095 : Int32)) dX8_openTo_7 (by decide) ?_
  refine z_iload_n X (q := 3) dX8_openTo_10 rfl rfl ?_
  refine z_iconst X (v := (-1 : Int32)) dX8_openTo_11 (by decide) ?_
  refine z_ixor X dX8_openTo_12 ?_
  refine z_iand X dX8_openTo_13 ?_
  refine z_name (fun v15 => ?_)
  refine z_istore X dX8_openTo_14 (Nat.le_of_ble_eq_true rfl) rfl ?_
  refine z_iload_n X (q := 1) dX8_openTo_16 rfl rfl ?_
  refine z_iconst X (v := (3 : Int32)) dX8_openTo_17 (by decide) ?_
  refine z_icmp_ne X (tgt := 30) dX8_openTo_18 (by decide) (fun _ => ?_) (fun _ => ?_)
  · refine z_iload X (q := 0) dX8_openTo_30 rfl ?_
    refine z_aload_n X (q := 2) dX8_openTo_32 rfl rfl ?_
    refine z_getr X hK (N := 46) (ci := 8) (k := 10) rfl (by decide) inlX8 (by decide) hf_X8_29 rfl spM_X8 rfl dX8_openTo_33 (fun o16 _ => ?_)
    refine z_iconst X (v := (4 : Int32)) dX8_openTo_36 (by decide) ?_
    refine z_iload_n X (q := 3) dX8_openTo_37 rfl rfl ?_
    refine z_imul X dX8_openTo_38 ?_
    refine z_iconst X (v := (1 : Int32)) dX8_openTo_39 (by decide) ?_
    refine z_iadd X dX8_openTo_40 ?_
    refine z_iald X hK dX8_openTo_41 (fun o17 j18 _ _ => ?_)
    refine z_iconst X (v := (-1 : Int32)) dX8_openTo_42 (by decide) ?_
    refine z_ixor X dX8_openTo_43 ?_
    refine z_iand X dX8_openTo_44 ?_
    refine z_name (fun v19 => ?_)
    refine z_istore X dX8_openTo_45 (Nat.le_of_ble_eq_true rfl) rfl ?_
    refine z_iload_n X (q := 1) dX8_openTo_47 rfl rfl ?_
    refine z_iconst X (v := (1 : Int32)) dX8_openTo_48 (by decide) ?_
    refine z_icmp_ne X (tgt := 61) dX8_openTo_49 (by decide) (fun _ => ?_) (fun _ => ?_)
    · refine z_iload X (q := 0) dX8_openTo_61 rfl ?_
      refine z_aload_n X (q := 2) dX8_openTo_63 rfl rfl ?_
      refine z_iload_n X (q := 4) dX8_openTo_64 rfl rfl ?_
      refine z_callV X hK (As := [vI a2]) (ci := 8) rfl (by decide) (fun o => (kX8_likeAny l Z  b x o _ _)) hk_X8_334 ⟨rfl, rfl⟩ hd_X8_likeAny ⟨Nat.le_of_ble_eq_true rfl, Nat.le_of_ble_eq_true rfl⟩ ⟨Nat.le_of_ble_eq_true rfl, Nat.le_of_ble_eq_true rfl⟩ rfl rfl (Nat.le_of_ble_eq_true rfl) dX8_openTo_65 (fun _ q20 _ => ?_)
      refine z_iconst X (v := (-1 : Int32)) dX8_openTo_68 (by decide) ?_
      refine z_ixor X dX8_openTo_69 ?_
      refine z_iand X dX8_openTo_70 ?_
      refine z_name (fun v21 => ?_)
      refine z_istore X dX8_openTo_71 (Nat.le_of_ble_eq_true rfl) rfl ?_
      refine z_iload_n X (q := 1) dX8_openTo_73 rfl rfl ?_
      refine z_iconst X (v := (2 : Int32)) dX8_openTo_74 (by decide) ?_
      refine z_icmp_eq X (tgt := 83) dX8_openTo_75 (by decide) (fun _ => ?_) (fun _ => ?_)
      · exact z_sub [2, 3, 4, 1, 0] (J83 _ _ _ _ _) rfl
      · refine z_iload_n X (q := 1) dX8_openTo_78 rfl rfl ?_
        refine z_iconst X (v := (4 : Int32)) dX8_openTo_79 (by decide) ?_
        refine z_icmp_ne X (tgt := 95) dX8_openTo_80 (by decide) (fun _ => ?_) (fun _ => ?_)
        · exact z_sub [2, 3, 4, 1, 0] (J95 _ _ _ _ _) rfl
        · exact z_sub [2, 3, 4, 1, 0] (J83 _ _ _ _ _) rfl
    · refine z_iload X (q := 0) dX8_openTo_52 rfl ?_
      refine z_aload_n X (q := 2) dX8_openTo_54 rfl rfl ?_
      refine z_iload_n X (q := 4) dX8_openTo_55 rfl rfl ?_
      refine z_callV X hK (As := [vI a2]) (ci := 8) rfl (by decide) (fun o => (kX8_likeFew l Z  b x o _ _)) hk_X8_331 ⟨rfl, rfl⟩ hd_X8_likeFew ⟨Nat.le_of_ble_eq_true rfl, Nat.le_of_ble_eq_true rfl⟩ ⟨Nat.le_of_ble_eq_true rfl, Nat.le_of_ble_eq_true rfl⟩ rfl rfl (Nat.le_of_ble_eq_true rfl) dX8_openTo_56 (fun _ q23 _ => ?_)
      refine z_iand X dX8_openTo_59 ?_
      subst hQ; exact z_iret X hlocks hr dX8_openTo_60
  · refine z_iload X (q := 0) dX8_openTo_21 rfl ?_
    refine z_aload_n X (q := 2) dX8_openTo_23 rfl rfl ?_
    refine z_iload_n X (q := 4) dX8_openTo_24 rfl rfl ?_
    refine z_callV X hK (As := [vI a2]) (ci := 8) rfl (by decide) (fun o => (kX8_likeFew l Z  b x o _ _)) hk_X8_331 ⟨rfl, rfl⟩ hd_X8_likeFew ⟨Nat.le_of_ble_eq_true rfl, Nat.le_of_ble_eq_true rfl⟩ ⟨Nat.le_of_ble_eq_true rfl, Nat.le_of_ble_eq_true rfl⟩ rfl rfl (Nat.le_of_ble_eq_true rfl) dX8_openTo_25 (fun _ q25 _ => ?_)
    refine z_iand X dX8_openTo_28 ?_
    subst hQ; exact z_iret X hlocks hr dX8_openTo_29
theorem zw_756 : Cond.methodLink RX8 340 yX8_openTo ∈ wsL_law := zr_10 _ (by decide +kernel)
theorem zw_757 : Cond.instanceMethod yX8_openTo ∈ wsL_law := zr_10 _ (by decide +kernel)
theorem zw_758 : Cond.selects RX8 yX8_openTo yX8_openTo ∈ wsL_law := zr_10 _ (by decide +kernel)
theorem zw_759 : Cond.code yX8_openTo cX8_openTo 5 (some .int) ∈ wsL_law := zr_10 _ (by decide +kernel)
theorem hk_X8_340 : ∀ w ∈ ([Cond.methodLink RX8 340 yX8_openTo, Cond.instanceMethod yX8_openTo, Cond.selects RX8 yX8_openTo yX8_openTo, Cond.initialized RX8, Cond.code yX8_openTo cX8_openTo 5 (some .int)] : List Cond), w ∈ wsL_law := List.forall_mem_cons.mpr ⟨zw_756, List.forall_mem_cons.mpr ⟨zw_757, List.forall_mem_cons.mpr ⟨zw_758, List.forall_mem_cons.mpr ⟨zw_525, List.forall_mem_cons.mpr ⟨zw_759, fun _ h => absurd h List.not_mem_nil⟩⟩⟩⟩⟩
theorem zw_760 : Cond.methodLink RX8 347 yX8_modulo ∈ wsL_law := zr_19 _ (by decide +kernel)
theorem zw_761 : Cond.static yX8_modulo ∈ wsL_law := zr_19 _ (by decide +kernel)
theorem zw_762 : Cond.code yX8_modulo cX8_modulo 2 (some .int) ∈ wsL_law := zr_19 _ (by decide +kernel)
theorem hk_X8_347 : ∀ w ∈ ([Cond.methodLink RX8 347 yX8_modulo, Cond.static yX8_modulo, Cond.initialized RX8, Cond.code yX8_modulo cX8_modulo 2 (some .int)] : List Cond), w ∈ wsL_law := List.forall_mem_cons.mpr ⟨zw_760, List.forall_mem_cons.mpr ⟨zw_761, List.forall_mem_cons.mpr ⟨zw_525, List.forall_mem_cons.mpr ⟨zw_762, fun _ h => absurd h List.not_mem_nil⟩⟩⟩⟩
theorem hd_X8_modulo : yX8_modulo.cls = RX8 ∧ yX8_modulo.cls ≠ "java/lang/invoke/MethodHandle" ∧ yX8_modulo.cls ≠ "java/lang/invoke/VarHandle" ∧ (parseMethodDescriptor yX8_modulo.desc).map (fun d => d.parameters.length) = some 2 := by decide +kernel
theorem hd_X8_openTo : yX8_openTo.cls = RX8 ∧ yX8_openTo.cls ≠ "java/lang/invoke/MethodHandle" ∧ yX8_openTo.cls ≠ "java/lang/invoke/VarHandle" ∧ (parseMethodDescriptor yX8_openTo.desc).map (fun d => d.parameters.length) = some 2 := by decide +kernel
abbrev rmX8_given : Room := { frames := 44, cells := 0, slots := 0, locals := 995 }
def fX8_given_j139 (this : Nat) (k125 : Int32 → Int32 → Int32 → zS → Option (Int32 × zS)) (y3 : Int32) (y8 : Int32) (y9 : Int32) (st : zS) : Option (Int32 × zS) :=
  zlet ((y9 - ((y3 >>> (y8 &&& 31)) &&& (1 : Int32)))) fun v1 => k125 y3 (y8 + (1 : Int32)) v1 st
def fX8_given_L125 (this : Nat) : Nat → Int32 → Int32 → Int32 → zS → Option (Int32 × zS)
  | 0, _, _, _, _ => none
  | n + 1, y3, y8, y9, st => if 0 < y9 then (fX8_given_j139 this (fX8_given_L125 this n) y3 y8 y9 st) else (if ((y3 >>> (y8 &&& 31)) &&& (1 : Int32)) = 0 then (fX8_given_j139 this (fX8_given_L125 this n) y3 y8 y9 st) else (some (y8, st)))
def fX8_given_j116 (this : Nat) (y3 : Int32) (s0 : Int32) (st : zS) : Option (Int32 × zS) :=
  fX8_given_L125 this zF y3 (0 : Int32) s0 st
def fX8_given_j54 (this : Nat) (y1 : Int32) (y2 : Int32) (y3 : Int32) (y4 : Int32) (y5 : Int32) (s0 : Int32) (st : zS) : Option (Int32 × zS) :=
  if s0 = 0 then (if y5 = (1 : Int32) then (fX8_given_j116 this y3 (0 : Int32) st) else (if y5 = (3 : Int32) then ((zok spM st (some this) 8).bind fun o6 => (zok spM st (st.2.2.2 o6 10) 9).bind fun o7 => (zix spM o7 ((4 : Int32) * y1)).bind fun j8 => if y4 = 0 then none else fX8_given_j116 this y3 ((st.2.1 o7 j8) - (st.2.1 o7 j8) / y4 * y4) st) else ((fX8_bitsOf y2 st).bind fun q2 => (zok spM q2.2 (some this) 8).bind fun o5 => (fX8_says o5 (0 : Int32) y1 (0 : Int32) q2.1 y4 q2.2).bind fun q3 => (fX8_modulo q3.1 y4 q3.2).bind fun q4 => fX8_given_j116 this y3 q4.1 q4.2))) else (fX8_given_j116 this y3 (y4 - (1 : Int32)) st)
def fX8_given_j49 (this : Nat) (y1 : Int32) (y2 : Int32) (y3 : Int32) (y4 : Int32) (y5 : Int32) (st : zS) : Option (Int32 × zS) :=
  fX8_given_j54 this y1 y2 y3 y4 y5 (1 : Int32) st
def fX8_given_j53 (this : Nat) (y1 : Int32) (y2 : Int32) (y3 : Int32) (y4 : Int32) (y5 : Int32) (st : zS) : Option (Int32 × zS) :=
  fX8_given_j54 this y1 y2 y3 y4 y5 (0 : Int32) st
def fX8_given (this : Nat) (a1 : Int32) (a2 : Int32) (st : zS) : Option (Int32 × zS) :=
  (zok spM st (some this) 8).bind fun o18 => (fX8_openTo o18 a1 a2 st).bind fun q9 => zlet (q9.1) fun v10 => if v10 = 0 then (some ((-1 : Int32), q9.2)) else ((fX8_bitsOf v10 q9.2).bind fun q11 => zlet (q11.1) fun v12 => (zok spM q11.2 (some this) 8).bind fun o13 => (zok spM q11.2 (q11.2.2.2.2 o13 9) 9).bind fun o14 => (zix spM o14 a1).bind fun j15 => zlet ((q11.2.2.1 o14 j15)) fun v16 => if v16 = (2 : Int32) then (fX8_given_j49 this a1 a2 v10 v12 v16 q11.2) else (if v16 = (4 : Int32) then ((zok spM q11.2 (some this) 8).bind fun o17 => if (2 : Int32) = 0 then none else if ((q11.2.2.1 o17 7) - (q11.2.2.1 o17 7) / (2 : Int32) * (2 : Int32)) = (1 : Int32) then (fX8_given_j49 this a1 a2 v10 v12 v16 q11.2) else (fX8_given_j53 this a1 a2 v10 v12 v16 q11.2)) else (fX8_given_j53 this a1 a2 v10 v12 v16 q11.2)))
set_option maxRecDepth 100000 in
set_option maxHeartbeats 4000000 in
theorem kX8_given (l : Launch) (Z : zZ) (b : Nat) (x : Option Nat) (this : Nat) (a1 : Int32) (a2 : Int32) (st : zS) : zC l Z spM b x yX8_given (.code yX8_given cX8_given 10 (some .int)) (rmX8_given) rI [vP (some this), vI a1, vI a2] st (fX8_given this a1 a2 st) := by
  refine z_start (own := RX8) rfl (by decide +kernel) (Nat.le_of_ble_eq_true rfl) rfl (fun p e s m args below meth c res Q A X hK hr hlocks hQ => ?_)
  have J125 : ∀ (n125 : Nat) (y3 : Int32) (y8 : Int32) (y9 : Int32) (st : zS), zs p l e (rmX8_given) s m args below meth c Q Z spM b x A 10 0 0 res (fX8_given_L125 this n125 y3 y8 y9 st) 125 [(3, vI y3), (8, vI y8), (9, vI y9)] [] st := by
    intro n125
    induction n125 with
    | zero => intros; exact z_none
    | succ n125 ih125 =>
      have J139 : ∀ (y3 : Int32) (y8 : Int32) (y9 : Int32) (st : zS), zs p l e (rmX8_given) s m args below meth c Q Z spM b x A 10 0 0 res (fX8_given_j139 this (fX8_given_L125 this n125) y3 y8 y9 st) 139 [(3, vI y3), (8, vI y8), (9, vI y9)] [] st := by
        intro y3 y8 y9 st
        rw [fX8_given_j139]
        refine z_iload X (q := 2) dX8_given_139 rfl ?_
        refine z_iload_n X (q := 0) dX8_given_141 rfl rfl ?_
        refine z_iload X (q := 1) dX8_given_142 rfl ?_
        refine z_ishr X dX8_given_144 ?_
        refine z_iconst X (v := (1 : Int32)) dX8_given_145 (by decide) ?_
        refine z_iand X dX8_given_146 ?_
        refine z_isub X dX8_given_147 ?_
        refine z_name (fun v1 => ?_)
        refine z_istore X dX8_given_148 (Nat.le_of_ble_eq_true rfl) rfl ?_
        refine z_iinc X (q := 2) (y := y8 + (1 : Int32)) dX8_given_150 rfl rfl (Nat.le_of_ble_eq_true rfl) rfl ?_
        refine z_goto X (tgt := 125) dX8_given_153 (by decide) ?_
        exact z_sub [2, 0, 1] (ih125 _ _ _ _) rfl
      intro y3 y8 y9 st
      rw [fX8_given_L125]
      refine z_iload X (q := 2) dX8_given_125 rfl ?_
      refine z_if_gt X (tgt := 139) dX8_given_127 (by decide) (fun _ => ?_) (fun _ => ?_)
      · exact z_sub [0, 1, 2] (J139 _ _ _ _) rfl
      · refine z_iload_n X (q := 0) dX8_given_130 rfl rfl ?_
        refine z_iload X (q := 1) dX8_given_131 rfl ?_
        refine z_ishr X dX8_given_133 ?_
        refine z_iconst X (v := (1 : Int32)) dX8_given_134 (by decide) ?_
        refine z_iand X dX8_given_135 ?_
        refine z_if_ne X (tgt := 156) dX8_given_136 (by decide) (fun _ => ?_) (fun _ => ?_)
        · refine z_iload X (q := 1) dX8_given_156 rfl ?_
          subst hQ; exact z_iret X hlocks hr dX8_given_158
        · exact z_sub [0, 1, 2] (J139 _ _ _ _) rfl
  have J116 : ∀ (y3 : Int32) (s0 : Int32) (st : zS), zs p l e (rmX8_given) s m args below meth c Q Z spM b x A 10 0 0 res (fX8_given_j116 this y3 s0 st) 116 [(3, vI y3)] [vI s0] st := by
    intro y3 s0 st
    rw [fX8_given_j116]
    refine z_istore X dX8_given_116 (Nat.le_of_ble_eq_true rfl) rfl ?_
    refine z_iconst X (v := (0 : Int32)) dX8_given_118 (by decide) ?_
    refine z_istore X dX8_given_119 (Nat.le_of_ble_eq_true rfl) rfl ?_
    refine z_iload X (q := 1) dX8_given_121 rfl ?_
    refine z_istore X dX8_given_123 (Nat.le_of_ble_eq_true rfl) rfl ?_
    exact z_sub [3, 1, 0] (J125 _ _ _ _ _) rfl
  have J54 : ∀ (y1 : Int32) (y2 : Int32) (y3 : Int32) (y4 : Int32) (y5 : Int32) (s0 : Int32) (st : zS), zs p l e (rmX8_given) s m args below meth c Q Z spM b x A 10 0 0 res (fX8_given_j54 this y1 y2 y3 y4 y5 s0 st) 54 [(0, vP (some this)), (1, vI y1), (2, vI y2), (3, vI y3), (4, vI y4), (5, vI y5)] [vI s0] st := by
    intro y1 y2 y3 y4 y5 s0 st
    rw [fX8_given_j54]
    refine z_istore X dX8_given_54 (Nat.le_of_ble_eq_true rfl) rfl ?_
    refine z_iload X (q := 0) dX8_given_56 rfl ?_
    refine z_if_eq X (tgt := 68) dX8_given_58 (by decide) (fun _ => ?_) (fun _ => ?_)
    · refine z_iload X (q := 6) dX8_given_68 rfl ?_
      refine z_iconst X (v := (1 : Int32)) dX8_given_70 (by decide) ?_
      refine z_icmp_ne X (tgt := 78) dX8_given_71 (by decide) (fun _ => ?_) (fun _ => ?_)
      · refine z_iload X (q := 6) dX8_given_78 rfl ?_
        refine z_iconst X (v := (3 : Int32)) dX8_given_80 (by decide) ?_
        refine z_icmp_ne X (tgt := 98) dX8_given_81 (by decide) (fun _ => ?_) (fun _ => ?_)
        · refine z_aload_n X (q := 1) dX8_given_98 rfl rfl ?_
          refine z_iconst X (v := (0 : Int32)) dX8_given_99 (by decide) ?_
          refine z_iload_n X (q := 2) dX8_given_100 rfl rfl ?_
          refine z_iconst X (v := (0 : Int32)) dX8_given_101 (by decide) ?_
          refine z_iload_n X (q := 3) dX8_given_102 rfl rfl ?_
          refine z_callS X hK (As := [vI y2]) (kX8_bitsOf l Z  b x _ _) hk_X8_63 ⟨rfl, rfl⟩ hd_X8_bitsOf.2 ⟨Nat.le_of_ble_eq_true rfl, Nat.le_of_ble_eq_true rfl⟩ ⟨Nat.le_of_ble_eq_true rfl, Nat.le_of_ble_eq_true rfl⟩ rfl rfl (Nat.le_of_ble_eq_true rfl) dX8_given_103 (fun q2 => ?_)
          refine z_iload X (q := 5) dX8_given_106 rfl ?_
          refine z_callV X hK (As := [vI (0 : Int32), vI y1, vI (0 : Int32), vI q2.1, vI y4]) (ci := 8) rfl (by decide) (fun o => (kX8_says l Z  b x o _ _ _ _ _ _)) hk_X8_343 ⟨rfl, rfl⟩ hd_X8_says ⟨Nat.le_of_ble_eq_true rfl, Nat.le_of_ble_eq_true rfl⟩ ⟨Nat.le_of_ble_eq_true rfl, Nat.le_of_ble_eq_true rfl⟩ rfl rfl (Nat.le_of_ble_eq_true rfl) dX8_given_108 (fun _ q3 _ => ?_)
          refine z_iload X (q := 5) dX8_given_111 rfl ?_
          refine z_callS X hK (As := [vI q3.1, vI y4]) (kX8_modulo l Z  b x _ _ _) hk_X8_347 ⟨rfl, rfl⟩ hd_X8_modulo.2 ⟨Nat.le_of_ble_eq_true rfl, Nat.le_of_ble_eq_true rfl⟩ ⟨Nat.le_of_ble_eq_true rfl, Nat.le_of_ble_eq_true rfl⟩ rfl rfl (Nat.le_of_ble_eq_true rfl) dX8_given_113 (fun q4 => ?_)
          exact z_sub [4] (J116 _ _ _) rfl
        · refine z_aload_n X (q := 1) dX8_given_84 rfl rfl ?_
          refine z_getr X hK (N := 46) (ci := 8) (k := 10) rfl (by decide) inlX8 (by decide) hf_X8_29 rfl spM_X8 rfl dX8_given_85 (fun o6 _ => ?_)
          refine z_iconst X (v := (4 : Int32)) dX8_given_88 (by decide) ?_
          refine z_iload_n X (q := 2) dX8_given_89 rfl rfl ?_
          refine z_imul X dX8_given_90 ?_
          refine z_iald X hK dX8_given_91 (fun o7 j8 _ _ => ?_)
          refine z_iload X (q := 5) dX8_given_92 rfl ?_
          refine z_irem X dX8_given_94 (fun _ => ?_)
          refine z_goto X (tgt := 116) dX8_given_95 (by decide) ?_
          exact z_sub [4] (J116 _ _ _) rfl
      · refine z_iconst X (v := (0 : Int32)) dX8_given_74 (by decide) ?_
        refine z_goto X (tgt := 116) dX8_given_75 (by decide) ?_
        exact z_sub [4] (J116 _ _ _) rfl
    · refine z_iload X (q := 5) dX8_given_61 rfl ?_
      refine z_iconst X (v := (1 : Int32)) dX8_given_63 (by decide) ?_
      refine z_isub X dX8_given_64 ?_
      refine z_goto X (tgt := 116) dX8_given_65 (by decide) ?_
      exact z_sub [4] (J116 _ _ _) rfl
  have J49 : ∀ (y1 : Int32) (y2 : Int32) (y3 : Int32) (y4 : Int32) (y5 : Int32) (st : zS), zs p l e (rmX8_given) s m args below meth c Q Z spM b x A 10 0 0 res (fX8_given_j49 this y1 y2 y3 y4 y5 st) 49 [(0, vP (some this)), (1, vI y1), (2, vI y2), (3, vI y3), (4, vI y4), (5, vI y5)] [] st := by
    intro y1 y2 y3 y4 y5 st
    rw [fX8_given_j49]
    refine z_iconst X (v := (1 : Int32)) dX8_given_49 (by decide) ?_
    refine z_goto X (tgt := 54) dX8_given_50 (by decide) ?_
    exact z_sub [0, 1, 2, 3, 4, 5] (J54 _ _ _ _ _ _ _) rfl
  have J53 : ∀ (y1 : Int32) (y2 : Int32) (y3 : Int32) (y4 : Int32) (y5 : Int32) (st : zS), zs p l e (rmX8_given) s m args below meth c Q Z spM b x A 10 0 0 res (fX8_given_j53 this y1 y2 y3 y4 y5 st) 53 [(0, vP (some this)), (1, vI y1), (2, vI y2), (3, vI y3), (4, vI y4), (5, vI y5)] [] st := by
    intro y1 y2 y3 y4 y5 st
    rw [fX8_given_j53]
    refine z_iconst X (v := (0 : Int32)) dX8_given_53 (by decide) ?_
    exact z_sub [0, 1, 2, 3, 4, 5] (J54 _ _ _ _ _ _ _) rfl
  rw [fX8_given]
  refine z_aload_n X (q := 0) dX8_given_0 rfl rfl ?_
  refine z_iload_n X (q := 1) dX8_given_1 rfl rfl ?_
  refine z_iload_n X (q := 2) dX8_given_2 rfl rfl ?_
  refine z_callV X hK (As := [vI a1, vI a2]) (ci := 8) rfl (by decide) (fun o => (kX8_openTo l Z  b x o _ _ _)) hk_X8_340 ⟨rfl, rfl⟩ hd_X8_openTo ⟨Nat.le_of_ble_eq_true rfl, Nat.le_of_ble_eq_true rfl⟩ ⟨Nat.le_of_ble_eq_true rfl, Nat.le_of_ble_eq_true rfl⟩ rfl rfl (Nat.le_of_ble_eq_true rfl) dX8_given_3 (fun _ q9 _ => ?_)
  refine z_name (fun v10 => ?_)
  refine z_istore_n X dX8_given_6 rfl (Nat.le_of_ble_eq_true rfl) rfl ?_
  refine z_iload_n X (q := 0) dX8_given_7 rfl rfl ?_
  refine z_if_ne X (tgt := 13) dX8_given_8 (by decide) (fun _ => ?_) (fun _ => ?_)
  · refine z_iload_n X (q := 0) dX8_given_13 rfl rfl ?_
    refine z_callS X hK (As := [vI v10]) (kX8_bitsOf l Z  b x _ _) hk_X8_63 ⟨rfl, rfl⟩ hd_X8_bitsOf.2 ⟨Nat.le_of_ble_eq_true rfl, Nat.le_of_ble_eq_true rfl⟩ ⟨Nat.le_of_ble_eq_true rfl, Nat.le_of_ble_eq_true rfl⟩ rfl rfl (Nat.le_of_ble_eq_true rfl) dX8_given_14 (fun q11 => ?_)
    refine z_name (fun v12 => ?_)
    refine z_istore X dX8_given_17 (Nat.le_of_ble_eq_true rfl) rfl ?_
    refine z_aload_n X (q := 2) dX8_given_19 rfl rfl ?_
    refine z_getr X hK (N := 46) (ci := 8) (k := 9) rfl (by decide) inlX8 (by decide) hf_X8_26 rfl spM_X8 rfl dX8_given_20 (fun o13 _ => ?_)
    refine z_iload_n X (q := 3) dX8_given_23 rfl rfl ?_
    refine z_iald X hK dX8_given_24 (fun o14 j15 _ _ => ?_)
    refine z_name (fun v16 => ?_)
    refine z_istore X dX8_given_25 (Nat.le_of_ble_eq_true rfl) rfl ?_
    refine z_iload X (q := 0) dX8_given_27 rfl ?_
    refine z_iconst X (v := (2 : Int32)) dX8_given_29 (by decide) ?_
    refine z_icmp_eq X (tgt := 49) dX8_given_30 (by decide) (fun _ => ?_) (fun _ => ?_)
    · exact z_sub [3, 4, 5, 2, 1, 0] (J49 _ _ _ _ _ _) rfl
    · refine z_iload X (q := 0) dX8_given_33 rfl ?_
      refine z_iconst X (v := (4 : Int32)) dX8_given_35 (by decide) ?_
      refine z_icmp_ne X (tgt := 53) dX8_given_36 (by decide) (fun _ => ?_) (fun _ => ?_)
      · exact z_sub [3, 4, 5, 2, 1, 0] (J53 _ _ _ _ _ _) rfl
      · refine z_aload_n X (q := 3) dX8_given_39 rfl rfl ?_
        refine z_geti X hK (N := 46) (ci := 8) (k := 7) rfl (by decide) inlX8 (by decide) hf_X8_103 rfl spM_X8 rfl dX8_given_40 (fun o17 _ => ?_)
        refine z_iconst X (v := (2 : Int32)) dX8_given_43 (by decide) ?_
        refine z_irem X dX8_given_44 (fun _ => ?_)
        refine z_iconst X (v := (1 : Int32)) dX8_given_45 (by decide) ?_
        refine z_icmp_ne X (tgt := 53) dX8_given_46 (by decide) (fun _ => ?_) (fun _ => ?_)
        · exact z_sub [3, 4, 5, 2, 1, 0] (J53 _ _ _ _ _ _) rfl
        · exact z_sub [3, 4, 5, 2, 1, 0] (J49 _ _ _ _ _ _) rfl
  · refine z_iconst X (v := (-1 : Int32)) dX8_given_11 (by decide) ?_
    subst hQ; exact z_iret X hlocks hr dX8_given_12
abbrev rmX8_gladOf : Room := { frames := 44, cells := 0, slots := 0, locals := 995 }
def fX8_gladOf_j98 (this : Nat) (s0 : Int32) (st : zS) : Option (Int32 × zS) :=
  (fX8_within s0 (-99 : Int32) (99 : Int32) st).bind fun q1 => some (q1.1, q1.2)
def fX8_gladOf_j40 (this : Nat) (y1 : Int32) (y2 : Int32) (y3 : Int32) (st : zS) : Option (Int32 × zS) :=
  (zok spM st (some this) 8).bind fun o7 => (fX8_says o7 (1 : Int32) y1 y2 (0 : Int32) (0 : Int32) st).bind fun q2 => zlet (q2.1) fun v3 => if y3 = (1 : Int32) then (if (2 : Int32) = 0 then none else fX8_gladOf_j98 this (v3 / (2 : Int32)) q2.2) else (if y3 = (3 : Int32) then (if (2 : Int32) = 0 then none else (zok spM q2.2 (some this) 8).bind fun o4 => (zok spM q2.2 (q2.2.2.2.2 o4 10) 9).bind fun o5 => (zix spM o5 ((4 : Int32) * y1)).bind fun j6 => fX8_gladOf_j98 this ((v3 / (2 : Int32)) + (q2.2.2.1 o5 j6)) q2.2) else (if y3 = (4 : Int32) then (fX8_gladOf_j98 this ((2 : Int32) * v3) q2.2) else (fX8_gladOf_j98 this v3 q2.2)))
def fX8_gladOf_j25 (this : Nat) (y1 : Int32) (y2 : Int32) (y3 : Int32) (st : zS) : Option (Int32 × zS) :=
  (zok spM st (some this) 8).bind fun o9 => (fX8_nextHad o9 y1 st).bind fun q8 => if ((q8.1 >>> (y2 &&& 31)) &&& (1 : Int32)) = (1 : Int32) then (some ((0 : Int32), q8.2)) else (fX8_gladOf_j40 this y1 y2 y3 q8.2)
def fX8_gladOf (this : Nat) (a1 : Int32) (a2 : Int32) (st : zS) : Option (Int32 × zS) :=
  (zok spM st (some this) 8).bind fun o10 => (zok spM st (st.2.2.2 o10 9) 9).bind fun o11 => (zix spM o11 a1).bind fun j12 => zlet ((st.2.1 o11 j12)) fun v13 => if v13 = (5 : Int32) then (some ((9 : Int32), st)) else (if v13 = (2 : Int32) then (fX8_gladOf_j25 this a1 a2 v13 st) else (if v13 = (4 : Int32) then (fX8_gladOf_j25 this a1 a2 v13 st) else (fX8_gladOf_j40 this a1 a2 v13 st)))
set_option maxRecDepth 100000 in
set_option maxHeartbeats 4000000 in
theorem kX8_gladOf (l : Launch) (Z : zZ) (b : Nat) (x : Option Nat) (this : Nat) (a1 : Int32) (a2 : Int32) (st : zS) : zC l Z spM b x yX8_gladOf (.code yX8_gladOf cX8_gladOf 5 (some .int)) (rmX8_gladOf) rI [vP (some this), vI a1, vI a2] st (fX8_gladOf this a1 a2 st) := by
  refine z_start (own := RX8) rfl (by decide +kernel) (Nat.le_of_ble_eq_true rfl) rfl (fun p e s m args below meth c res Q A X hK hr hlocks hQ => ?_)
  have J98 : ∀ (s0 : Int32) (st : zS), zs p l e (rmX8_gladOf) s m args below meth c Q Z spM b x A 5 0 0 res (fX8_gladOf_j98 this s0 st) 98 [] [vI s0] st := by
    intro s0 st
    rw [fX8_gladOf_j98]
    refine z_bipush X (v := (-99 : Int32)) dX8_gladOf_98 (by decide) ?_
    refine z_bipush X (v := (99 : Int32)) dX8_gladOf_100 (by decide) ?_
    refine z_callS X hK (As := [vI s0, vI (-99 : Int32), vI (99 : Int32)]) (kX8_within l Z  b x _ _ _ _) hk_X8_327 ⟨rfl, rfl⟩ hd_X8_within.2 ⟨Nat.le_of_ble_eq_true rfl, Nat.le_of_ble_eq_true rfl⟩ ⟨Nat.le_of_ble_eq_true rfl, Nat.le_of_ble_eq_true rfl⟩ rfl rfl (Nat.le_of_ble_eq_true rfl) dX8_gladOf_102 (fun q1 => ?_)
    subst hQ; exact z_iret X hlocks hr dX8_gladOf_105
  have J40 : ∀ (y1 : Int32) (y2 : Int32) (y3 : Int32) (st : zS), zs p l e (rmX8_gladOf) s m args below meth c Q Z spM b x A 5 0 0 res (fX8_gladOf_j40 this y1 y2 y3 st) 40 [(0, vP (some this)), (1, vI y1), (2, vI y2), (3, vI y3)] [] st := by
    intro y1 y2 y3 st
    rw [fX8_gladOf_j40]
    refine z_aload_n X (q := 0) dX8_gladOf_40 rfl rfl ?_
    refine z_iconst X (v := (1 : Int32)) dX8_gladOf_41 (by decide) ?_
    refine z_iload_n X (q := 1) dX8_gladOf_42 rfl rfl ?_
    refine z_iload_n X (q := 2) dX8_gladOf_43 rfl rfl ?_
    refine z_iconst X (v := (0 : Int32)) dX8_gladOf_44 (by decide) ?_
    refine z_iconst X (v := (0 : Int32)) dX8_gladOf_45 (by decide) ?_
    refine z_callV X hK (As := [vI (1 : Int32), vI y1, vI y2, vI (0 : Int32), vI (0 : Int32)]) (ci := 8) rfl (by decide) (fun o => (kX8_says l Z  b x o _ _ _ _ _ _)) hk_X8_343 ⟨rfl, rfl⟩ hd_X8_says ⟨Nat.le_of_ble_eq_true rfl, Nat.le_of_ble_eq_true rfl⟩ ⟨Nat.le_of_ble_eq_true rfl, Nat.le_of_ble_eq_true rfl⟩ rfl rfl (Nat.le_of_ble_eq_true rfl) dX8_gladOf_46 (fun _ q2 _ => ?_)
    refine z_name (fun v3 => ?_)
    refine z_istore X dX8_gladOf_49 (Nat.le_of_ble_eq_true rfl) rfl ?_
    refine z_iload_n X (q := 4) dX8_gladOf_51 rfl rfl ?_
    refine z_iconst X (v := (1 : Int32)) dX8_gladOf_52 (by decide) ?_
    refine z_icmp_ne X (tgt := 63) dX8_gladOf_53 (by decide) (fun _ => ?_) (fun _ => ?_)
    · refine z_iload_n X (q := 4) dX8_gladOf_63 rfl rfl ?_
      refine z_iconst X (v := (3 : Int32)) dX8_gladOf_64 (by decide) ?_
      refine z_icmp_ne X (tgt := 84) dX8_gladOf_65 (by decide) (fun _ => ?_) (fun _ => ?_)
      · refine z_iload_n X (q := 4) dX8_gladOf_84 rfl rfl ?_
        refine z_iconst X (v := (4 : Int32)) dX8_gladOf_85 (by decide) ?_
        refine z_icmp_ne X (tgt := 96) dX8_gladOf_86 (by decide) (fun _ => ?_) (fun _ => ?_)
        · refine z_iload X (q := 0) dX8_gladOf_96 rfl ?_
          exact z_sub [] (J98 _ _) rfl
        · refine z_iconst X (v := (2 : Int32)) dX8_gladOf_89 (by decide) ?_
          refine z_iload X (q := 0) dX8_gladOf_90 rfl ?_
          refine z_imul X dX8_gladOf_92 ?_
          refine z_goto X (tgt := 98) dX8_gladOf_93 (by decide) ?_
          exact z_sub [] (J98 _ _) rfl
      · refine z_iload X (q := 0) dX8_gladOf_68 rfl ?_
        refine z_iconst X (v := (2 : Int32)) dX8_gladOf_70 (by decide) ?_
        refine z_idiv X dX8_gladOf_71 (fun _ => ?_)
        refine z_aload_n X (q := 1) dX8_gladOf_72 rfl rfl ?_
        refine z_getr X hK (N := 46) (ci := 8) (k := 10) rfl (by decide) inlX8 (by decide) hf_X8_29 rfl spM_X8 rfl dX8_gladOf_73 (fun o4 _ => ?_)
        refine z_iconst X (v := (4 : Int32)) dX8_gladOf_76 (by decide) ?_
        refine z_iload_n X (q := 2) dX8_gladOf_77 rfl rfl ?_
        refine z_imul X dX8_gladOf_78 ?_
        refine z_iald X hK dX8_gladOf_79 (fun o5 j6 _ _ => ?_)
        refine z_iadd X dX8_gladOf_80 ?_
        refine z_goto X (tgt := 98) dX8_gladOf_81 (by decide) ?_
        exact z_sub [] (J98 _ _) rfl
    · refine z_iload X (q := 0) dX8_gladOf_56 rfl ?_
      refine z_iconst X (v := (2 : Int32)) dX8_gladOf_58 (by decide) ?_
      refine z_idiv X dX8_gladOf_59 (fun _ => ?_)
      refine z_goto X (tgt := 98) dX8_gladOf_60 (by decide) ?_
      exact z_sub [] (J98 _ _) rfl
  have J25 : ∀ (y1 : Int32) (y2 : Int32) (y3 : Int32) (st : zS), zs p l e (rmX8_gladOf) s m args below meth c Q Z spM b x A 5 0 0 res (fX8_gladOf_j25 this y1 y2 y3 st) 25 [(0, vP (some this)), (1, vI y1), (2, vI y2), (3, vI y3)] [] st := by
    intro y1 y2 y3 st
    rw [fX8_gladOf_j25]
    refine z_aload_n X (q := 0) dX8_gladOf_25 rfl rfl ?_
    refine z_iload_n X (q := 1) dX8_gladOf_26 rfl rfl ?_
    refine z_callV X hK (As := [vI y1]) (ci := 8) rfl (by decide) (fun o => (kX8_nextHad l Z  b x o _ _)) hk_X8_337 ⟨rfl, rfl⟩ hd_X8_nextHad ⟨Nat.le_of_ble_eq_true rfl, Nat.le_of_ble_eq_true rfl⟩ ⟨Nat.le_of_ble_eq_true rfl, Nat.le_of_ble_eq_true rfl⟩ rfl rfl (Nat.le_of_ble_eq_true rfl) dX8_gladOf_27 (fun _ q8 _ => ?_)
    refine z_iload_n X (q := 2) dX8_gladOf_30 rfl rfl ?_
    refine z_ishr X dX8_gladOf_31 ?_
    refine z_iconst X (v := (1 : Int32)) dX8_gladOf_32 (by decide) ?_
    refine z_iand X dX8_gladOf_33 ?_
    refine z_iconst X (v := (1 : Int32)) dX8_gladOf_34 (by decide) ?_
    refine z_icmp_ne X (tgt := 40) dX8_gladOf_35 (by decide) (fun _ => ?_) (fun _ => ?_)
    · exact z_sub [0, 1, 2, 3] (J40 _ _ _ _) rfl
    · refine z_iconst X (v := (0 : Int32)) dX8_gladOf_38 (by decide) ?_
      subst hQ; exact z_iret X hlocks hr dX8_gladOf_39
  rw [fX8_gladOf]
  refine z_aload_n X (q := 0) dX8_gladOf_0 rfl rfl ?_
  refine z_getr X hK (N := 46) (ci := 8) (k := 9) rfl (by decide) inlX8 (by decide) hf_X8_26 rfl spM_X8 rfl dX8_gladOf_1 (fun o10 _ => ?_)
  refine z_iload_n X (q := 1) dX8_gladOf_4 rfl rfl ?_
  refine z_iald X hK dX8_gladOf_5 (fun o11 j12 _ _ => ?_)
  refine z_name (fun v13 => ?_)
  refine z_istore_n X dX8_gladOf_6 rfl (Nat.le_of_ble_eq_true rfl) rfl ?_
  refine z_iload_n X (q := 0) dX8_gladOf_7 rfl rfl ?_
  refine z_iconst X (v := (5 : Int32)) dX8_gladOf_8 (by decide) ?_
  refine z_icmp_ne X (tgt := 15) dX8_gladOf_9 (by decide) (fun _ => ?_) (fun _ => ?_)
  · refine z_iload_n X (q := 0) dX8_gladOf_15 rfl rfl ?_
    refine z_iconst X (v := (2 : Int32)) dX8_gladOf_16 (by decide) ?_
    refine z_icmp_eq X (tgt := 25) dX8_gladOf_17 (by decide) (fun _ => ?_) (fun _ => ?_)
    · exact z_sub [1, 2, 3, 0] (J25 _ _ _ _) rfl
    · refine z_iload_n X (q := 0) dX8_gladOf_20 rfl rfl ?_
      refine z_iconst X (v := (4 : Int32)) dX8_gladOf_21 (by decide) ?_
      refine z_icmp_ne X (tgt := 40) dX8_gladOf_22 (by decide) (fun _ => ?_) (fun _ => ?_)
      · exact z_sub [1, 2, 3, 0] (J40 _ _ _ _) rfl
      · exact z_sub [1, 2, 3, 0] (J25 _ _ _ _) rfl
  · refine z_bipush X (v := (9 : Int32)) dX8_gladOf_12 (by decide) ?_
    subst hQ; exact z_iret X hlocks hr dX8_gladOf_14
abbrev rmX8_shutsBy : Room := { frames := 2, cells := 0, slots := 0, locals := 63 }
def fX8_shutsBy_j26 (this : Nat) (y2 : Int32) (st : zS) : Option (Int32 × zS) :=
  some ((y2 &&& (-y2)), st)
def fX8_shutsBy (this : Nat) (a1 : Int32) (a2 : Int32) (st : zS) : Option (Int32 × zS) :=
  (zok spM st (some this) 8).bind fun o1 => (zok spM st (st.2.2.2 o1 9) 9).bind fun o2 => (zix spM o2 a1).bind fun j3 => zlet ((st.2.1 o2 j3)) fun v4 => if v4 = (5 : Int32) then (some ((0 : Int32), st)) else (if v4 = (1 : Int32) then (fX8_shutsBy_j26 this a2 st) else (if v4 = (3 : Int32) then (fX8_shutsBy_j26 this a2 st) else (if v4 = 0 then (some (a2, st)) else ((zok spM st (some this) 8).bind fun o6 => (fX8_likeAny o6 a2 st).bind fun q5 => some ((a2 ||| q5.1), q5.2)))))
set_option maxRecDepth 100000 in
set_option maxHeartbeats 4000000 in
theorem kX8_shutsBy (l : Launch) (Z : zZ) (b : Nat) (x : Option Nat) (this : Nat) (a1 : Int32) (a2 : Int32) (st : zS) : zC l Z spM b x yX8_shutsBy (.code yX8_shutsBy cX8_shutsBy 4 (some .int)) (rmX8_shutsBy) rI [vP (some this), vI a1, vI a2] st (fX8_shutsBy this a1 a2 st) := by
  refine z_start (own := RX8) rfl (by decide +kernel) (Nat.le_of_ble_eq_true rfl) rfl (fun p e s m args below meth c res Q A X hK hr hlocks hQ => ?_)
  have J26 : ∀ (y2 : Int32) (st : zS), zs p l e (rmX8_shutsBy) s m args below meth c Q Z spM b x A 4 0 0 res (fX8_shutsBy_j26 this y2 st) 26 [(2, vI y2)] [] st := by
    intro y2 st
    rw [fX8_shutsBy_j26]
    refine z_iload_n X (q := 0) dX8_shutsBy_26 rfl rfl ?_
    refine z_iload_n X (q := 0) dX8_shutsBy_27 rfl rfl ?_
    refine z_ineg X dX8_shutsBy_28 ?_
    refine z_iand X dX8_shutsBy_29 ?_
    refine z_goto X (tgt := 48) dX8_shutsBy_30 (by decide) ?_
    subst hQ; exact z_iret X hlocks hr dX8_shutsBy_48
  rw [fX8_shutsBy]
  refine z_aload_n X (q := 0) dX8_shutsBy_0 rfl rfl ?_
  refine z_getr X hK (N := 46) (ci := 8) (k := 9) rfl (by decide) inlX8 (by decide) hf_X8_26 rfl spM_X8 rfl dX8_shutsBy_1 (fun o1 _ => ?_)
  refine z_iload_n X (q := 1) dX8_shutsBy_4 rfl rfl ?_
  refine z_iald X hK dX8_shutsBy_5 (fun o2 j3 _ _ => ?_)
  refine z_name (fun v4 => ?_)
  refine z_istore_n X dX8_shutsBy_6 rfl (Nat.le_of_ble_eq_true rfl) rfl ?_
  refine z_iload_n X (q := 0) dX8_shutsBy_7 rfl rfl ?_
  refine z_iconst X (v := (5 : Int32)) dX8_shutsBy_8 (by decide) ?_
  refine z_icmp_ne X (tgt := 16) dX8_shutsBy_9 (by decide) (fun _ => ?_) (fun _ => ?_)
  · refine z_iload_n X (q := 0) dX8_shutsBy_16 rfl rfl ?_
    refine z_iconst X (v := (1 : Int32)) dX8_shutsBy_17 (by decide) ?_
    refine z_icmp_eq X (tgt := 26) dX8_shutsBy_18 (by decide) (fun _ => ?_) (fun _ => ?_)
    · exact z_sub [3] (J26 _ _) rfl
    · refine z_iload_n X (q := 0) dX8_shutsBy_21 rfl rfl ?_
      refine z_iconst X (v := (3 : Int32)) dX8_shutsBy_22 (by decide) ?_
      refine z_icmp_ne X (tgt := 33) dX8_shutsBy_23 (by decide) (fun _ => ?_) (fun _ => ?_)
      · refine z_iload_n X (q := 0) dX8_shutsBy_33 rfl rfl ?_
        refine z_if_ne X (tgt := 41) dX8_shutsBy_34 (by decide) (fun _ => ?_) (fun _ => ?_)
        · refine z_iload_n X (q := 3) dX8_shutsBy_41 rfl rfl ?_
          refine z_aload_n X (q := 1) dX8_shutsBy_42 rfl rfl ?_
          refine z_iload_n X (q := 3) dX8_shutsBy_43 rfl rfl ?_
          refine z_callV X hK (As := [vI a2]) (ci := 8) rfl (by decide) (fun o => (kX8_likeAny l Z  b x o _ _)) hk_X8_334 ⟨rfl, rfl⟩ hd_X8_likeAny ⟨Nat.le_of_ble_eq_true rfl, Nat.le_of_ble_eq_true rfl⟩ ⟨Nat.le_of_ble_eq_true rfl, Nat.le_of_ble_eq_true rfl⟩ rfl rfl (Nat.le_of_ble_eq_true rfl) dX8_shutsBy_44 (fun _ q5 _ => ?_)
          refine z_ior X dX8_shutsBy_47 ?_
          subst hQ; exact z_iret X hlocks hr dX8_shutsBy_48
        · refine z_iload_n X (q := 3) dX8_shutsBy_37 rfl rfl ?_
          refine z_goto X (tgt := 48) dX8_shutsBy_38 (by decide) ?_
          subst hQ; exact z_iret X hlocks hr dX8_shutsBy_48
      · exact z_sub [3] (J26 _ _) rfl
  · refine z_iconst X (v := (0 : Int32)) dX8_shutsBy_12 (by decide) ?_
    refine z_goto X (tgt := 48) dX8_shutsBy_13 (by decide) ?_
    subst hQ; exact z_iret X hlocks hr dX8_shutsBy_48
theorem zw_763 : Cond.methodLink RX8 354 yX8_given ∈ wsL_law := zr_9 _ (by decide +kernel)
theorem zw_764 : Cond.instanceMethod yX8_given ∈ wsL_law := zr_9 _ (by decide +kernel)
theorem zw_765 : Cond.selects RX8 yX8_given yX8_given ∈ wsL_law := zr_10 _ (by decide +kernel)
theorem zw_766 : Cond.code yX8_given cX8_given 10 (some .int) ∈ wsL_law := zr_10 _ (by decide +kernel)
theorem hk_X8_354 : ∀ w ∈ ([Cond.methodLink RX8 354 yX8_given, Cond.instanceMethod yX8_given, Cond.selects RX8 yX8_given yX8_given, Cond.initialized RX8, Cond.code yX8_given cX8_given 10 (some .int)] : List Cond), w ∈ wsL_law := List.forall_mem_cons.mpr ⟨zw_763, List.forall_mem_cons.mpr ⟨zw_764, List.forall_mem_cons.mpr ⟨zw_765, List.forall_mem_cons.mpr ⟨zw_525, List.forall_mem_cons.mpr ⟨zw_766, fun _ h => absurd h List.not_mem_nil⟩⟩⟩⟩⟩
theorem zw_767 : Cond.methodLink RX8 357 yX8_shutsBy ∈ wsL_law := zr_25 _ (by decide +kernel)
theorem zw_768 : Cond.instanceMethod yX8_shutsBy ∈ wsL_law := zr_26 _ (by decide +kernel)
theorem zw_769 : Cond.selects RX8 yX8_shutsBy yX8_shutsBy ∈ wsL_law := zr_26 _ (by decide +kernel)
theorem zw_770 : Cond.code yX8_shutsBy cX8_shutsBy 4 (some .int) ∈ wsL_law := zr_26 _ (by decide +kernel)
theorem hk_X8_357 : ∀ w ∈ ([Cond.methodLink RX8 357 yX8_shutsBy, Cond.instanceMethod yX8_shutsBy, Cond.selects RX8 yX8_shutsBy yX8_shutsBy, Cond.initialized RX8, Cond.code yX8_shutsBy cX8_shutsBy 4 (some .int)] : List Cond), w ∈ wsL_law := List.forall_mem_cons.mpr ⟨zw_767, List.forall_mem_cons.mpr ⟨zw_768, List.forall_mem_cons.mpr ⟨zw_769, List.forall_mem_cons.mpr ⟨zw_525, List.forall_mem_cons.mpr ⟨zw_770, fun _ h => absurd h List.not_mem_nil⟩⟩⟩⟩⟩
theorem zw_771 : Cond.methodLink RX8 360 yX8_costsOf ∈ wsL_law := zr_26 _ (by decide +kernel)
theorem zw_772 : Cond.instanceMethod yX8_costsOf ∈ wsL_law := zr_26 _ (by decide +kernel)
theorem zw_773 : Cond.selects RX8 yX8_costsOf yX8_costsOf ∈ wsL_law := zr_26 _ (by decide +kernel)
theorem zw_774 : Cond.code yX8_costsOf cX8_costsOf 3 (some .int) ∈ wsL_law := zr_26 _ (by decide +kernel)
theorem hk_X8_360 : ∀ w ∈ ([Cond.methodLink RX8 360 yX8_costsOf, Cond.instanceMethod yX8_costsOf, Cond.selects RX8 yX8_costsOf yX8_costsOf, Cond.initialized RX8, Cond.code yX8_costsOf cX8_costsOf 3 (some .int)] : List Cond), w ∈ wsL_law := List.forall_mem_cons.mpr ⟨zw_771, List.forall_mem_cons.mpr ⟨zw_772, List.forall_mem_cons.mpr ⟨zw_773, List.forall_mem_cons.mpr ⟨zw_525, List.forall_mem_cons.mpr ⟨zw_774, fun _ h => absurd h List.not_mem_nil⟩⟩⟩⟩⟩
theorem zw_775 : Cond.methodLink RX8 363 yX8_gladOf ∈ wsL_law := zr_26 _ (by decide +kernel)
theorem zw_776 : Cond.instanceMethod yX8_gladOf ∈ wsL_law := zr_27 _ (by decide +kernel)
theorem zw_777 : Cond.selects RX8 yX8_gladOf yX8_gladOf ∈ wsL_law := zr_27 _ (by decide +kernel)
theorem zw_778 : Cond.code yX8_gladOf cX8_gladOf 5 (some .int) ∈ wsL_law := zr_27 _ (by decide +kernel)
theorem hk_X8_363 : ∀ w ∈ ([Cond.methodLink RX8 363 yX8_gladOf, Cond.instanceMethod yX8_gladOf, Cond.selects RX8 yX8_gladOf yX8_gladOf, Cond.initialized RX8, Cond.code yX8_gladOf cX8_gladOf 5 (some .int)] : List Cond), w ∈ wsL_law := List.forall_mem_cons.mpr ⟨zw_775, List.forall_mem_cons.mpr ⟨zw_776, List.forall_mem_cons.mpr ⟨zw_777, List.forall_mem_cons.mpr ⟨zw_525, List.forall_mem_cons.mpr ⟨zw_778, fun _ h => absurd h List.not_mem_nil⟩⟩⟩⟩⟩
theorem hd_X8_costsOf : yX8_costsOf.cls = RX8 ∧ yX8_costsOf.cls ≠ "java/lang/invoke/MethodHandle" ∧ yX8_costsOf.cls ≠ "java/lang/invoke/VarHandle" ∧ (parseMethodDescriptor yX8_costsOf.desc).map (fun d => d.parameters.length) = some 2 := by decide +kernel
theorem hd_X8_given : yX8_given.cls = RX8 ∧ yX8_given.cls ≠ "java/lang/invoke/MethodHandle" ∧ yX8_given.cls ≠ "java/lang/invoke/VarHandle" ∧ (parseMethodDescriptor yX8_given.desc).map (fun d => d.parameters.length) = some 2 := by decide +kernel
theorem hd_X8_gladOf : yX8_gladOf.cls = RX8 ∧ yX8_gladOf.cls ≠ "java/lang/invoke/MethodHandle" ∧ yX8_gladOf.cls ≠ "java/lang/invoke/VarHandle" ∧ (parseMethodDescriptor yX8_gladOf.desc).map (fun d => d.parameters.length) = some 2 := by decide +kernel
theorem hd_X8_shutsBy : yX8_shutsBy.cls = RX8 ∧ yX8_shutsBy.cls ≠ "java/lang/invoke/MethodHandle" ∧ yX8_shutsBy.cls ≠ "java/lang/invoke/VarHandle" ∧ (parseMethodDescriptor yX8_shutsBy.desc).map (fun d => d.parameters.length) = some 2 := by decide +kernel
theorem zw_779 : Cond.fieldLink RX8 366 "WellGivesOtherModel" "gladNow" "I" ∈ wsL_law := zr_36 _ (by decide +kernel)
theorem hf_X8_366 : Cond.fieldLink RX8 366 "WellGivesOtherModel" "gladNow" "I" ∈ wsL_law := zw_779
theorem zw_780 : Cond.fieldLink RX8 369 "WellGivesOtherModel" "costNow" "I" ∈ wsL_law := zr_36 _ (by decide +kernel)
theorem hf_X8_369 : Cond.fieldLink RX8 369 "WellGivesOtherModel" "costNow" "I" ∈ wsL_law := zw_780
abbrev rmX8_asked : Room := { frames := 45, cells := 0, slots := 0, locals := 1024 }
def fX8_asked_j67 (this : Nat) (y1 : Int32) (y3 : Int32) (y4 : Int32) (s0 : Option Nat) (s1 : Int32) (s2 : Int32) (s3 : Int32) (st : zS) : Option (Int32 × zS) :=
  (zok spM st s0 9).bind fun o1 => (zix spM o1 s1).bind fun j2 => zlet (zp st o1 j2 (s2 ||| s3)) fun st3 => (zok spM st3 (some this) 8).bind fun o4 => (zok spM st3 (st3.2.2.2 o4 10) 9).bind fun o5 => (zix spM o5 (((4 : Int32) * y1) + (1 : Int32))).bind fun j6 => (zok spM st3 (st3.2.2.2 o4 10) 9).bind fun o7 => (zix spM o7 (((4 : Int32) * y1) + (1 : Int32))).bind fun j8 => zlet (zp st3 o7 j8 ((st3.2.1 o5 j6) ||| y4)) fun st9 => (zok spM st9 (some this) 8).bind fun o10 => (zok spM st9 (some this) 8).bind fun o11 => (zok spM st9 (st9.2.2.2 o11 10) 9).bind fun o12 => (zix spM o12 (((4 : Int32) * y1) + (3 : Int32))).bind fun j13 => (zok spM st9 (some this) 8).bind fun o14 => (fX8_within ((st9.2.1 o12 j13) + (st9.2.1 o14 29)) (0 : Int32) (9999 : Int32) st9).bind fun q15 => (zok spM q15.2 (st9.2.2.2 o10 10) 9).bind fun o16 => (zix spM o16 (((4 : Int32) * y1) + (3 : Int32))).bind fun j17 => zlet (zp q15.2 o16 j17 q15.1) fun st18 => some (y3, st18)
def fX8_asked_j23 (this : Nat) (y1 : Int32) (y2 : Int32) (y3 : Int32) (s0 : Option Nat) (s1 : Int32) (st : zS) : Option (Int32 × zS) :=
  (zok spM st s0 8).bind fun o19 => zlet (zp st o19 28 s1) fun st20 => (zok spM st20 (some this) 8).bind fun o30 => (fX8_costsOf o30 y1 y2 st20).bind fun q21 => (zok spM q21.2 (some this) 8).bind fun o22 => zlet (zp q21.2 o22 29 q21.1) fun st23 => (zok spM st23 (some this) 8).bind fun o29 => (fX8_shutsBy o29 y1 y2 st23).bind fun q24 => zlet (q24.1) fun v25 => (zok spM q24.2 (some this) 8).bind fun o26 => (zok spM q24.2 (q24.2.2.2.2 o26 10) 9).bind fun o27 => (zix spM o27 (((4 : Int32) * y1) + (2 : Int32))).bind fun j28 => if y3 = (-1 : Int32) then (fX8_asked_j67 this y1 y3 v25 (q24.2.2.2.2 o26 10) (((4 : Int32) * y1) + (2 : Int32)) (q24.2.2.1 o27 j28) (0 : Int32) q24.2) else (fX8_asked_j67 this y1 y3 v25 (q24.2.2.2.2 o26 10) (((4 : Int32) * y1) + (2 : Int32)) (q24.2.2.1 o27 j28) ((1 : Int32) <<< (y3 &&& 31)) q24.2)
def fX8_asked (this : Nat) (a1 : Int32) (a2 : Int32) (st : zS) : Option (Int32 × zS) :=
  (zok spM st (some this) 8).bind fun o35 => (fX8_given o35 a1 a2 st).bind fun q31 => zlet (q31.1) fun v32 => if v32 = (-1 : Int32) then (fX8_asked_j23 this a1 a2 v32 (some this) (0 : Int32) q31.2) else ((zok spM q31.2 (some this) 8).bind fun o34 => (fX8_gladOf o34 a1 v32 q31.2).bind fun q33 => fX8_asked_j23 this a1 a2 v32 (some this) q33.1 q33.2)
set_option maxRecDepth 100000 in
set_option maxHeartbeats 4000000 in
theorem kX8_asked (l : Launch) (Z : zZ) (b : Nat) (x : Option Nat) (this : Nat) (a1 : Int32) (a2 : Int32) (st : zS) : zC l Z spM b x yX8_asked (.code yX8_asked cX8_asked 5 (some .int)) (rmX8_asked) rI [vP (some this), vI a1, vI a2] st (fX8_asked this a1 a2 st) := by
  refine z_start (own := RX8) rfl (by decide +kernel) (Nat.le_of_ble_eq_true rfl) rfl (fun p e s m args below meth c res Q A X hK hr hlocks hQ => ?_)
  have J67 : ∀ (y1 : Int32) (y3 : Int32) (y4 : Int32) (s0 : Option Nat) (s1 : Int32) (s2 : Int32) (s3 : Int32) (st : zS), zs p l e (rmX8_asked) s m args below meth c Q Z spM b x A 5 0 0 res (fX8_asked_j67 this y1 y3 y4 s0 s1 s2 s3 st) 67 [(0, vP (some this)), (1, vI y1), (3, vI y3), (4, vI y4)] [vI s3, vI s2, vI s1, vP s0] st := by
    intro y1 y3 y4 s0 s1 s2 s3 st
    rw [fX8_asked_j67]
    refine z_ior X dX8_asked_67 ?_
    refine z_iast X hK dX8_asked_68 (fun o1 j2 st3 _ _ => ?_)
    refine z_aload_n X (q := 0) dX8_asked_69 rfl rfl ?_
    refine z_getr X hK (N := 46) (ci := 8) (k := 10) rfl (by decide) inlX8 (by decide) hf_X8_29 rfl spM_X8 rfl dX8_asked_70 (fun o4 _ => ?_)
    refine z_iconst X (v := (4 : Int32)) dX8_asked_73 (by decide) ?_
    refine z_iload_n X (q := 1) dX8_asked_74 rfl rfl ?_
    refine z_imul X dX8_asked_75 ?_
    refine z_iconst X (v := (1 : Int32)) dX8_asked_76 (by decide) ?_
    refine z_iadd X dX8_asked_77 ?_
    refine z_dup2 X dX8_asked_78 rfl rfl ?_
    refine z_iald X hK dX8_asked_79 (fun o5 j6 _ _ => ?_)
    refine z_iload X (q := 3) dX8_asked_80 rfl ?_
    refine z_ior X dX8_asked_82 ?_
    refine z_iast X hK dX8_asked_83 (fun o7 j8 st9 _ _ => ?_)
    refine z_aload_n X (q := 0) dX8_asked_84 rfl rfl ?_
    refine z_getr X hK (N := 46) (ci := 8) (k := 10) rfl (by decide) inlX8 (by decide) hf_X8_29 rfl spM_X8 rfl dX8_asked_85 (fun o10 _ => ?_)
    refine z_iconst X (v := (4 : Int32)) dX8_asked_88 (by decide) ?_
    refine z_iload_n X (q := 1) dX8_asked_89 rfl rfl ?_
    refine z_imul X dX8_asked_90 ?_
    refine z_iconst X (v := (3 : Int32)) dX8_asked_91 (by decide) ?_
    refine z_iadd X dX8_asked_92 ?_
    refine z_aload_n X (q := 0) dX8_asked_93 rfl rfl ?_
    refine z_getr X hK (N := 46) (ci := 8) (k := 10) rfl (by decide) inlX8 (by decide) hf_X8_29 rfl spM_X8 rfl dX8_asked_94 (fun o11 _ => ?_)
    refine z_iconst X (v := (4 : Int32)) dX8_asked_97 (by decide) ?_
    refine z_iload_n X (q := 1) dX8_asked_98 rfl rfl ?_
    refine z_imul X dX8_asked_99 ?_
    refine z_iconst X (v := (3 : Int32)) dX8_asked_100 (by decide) ?_
    refine z_iadd X dX8_asked_101 ?_
    refine z_iald X hK dX8_asked_102 (fun o12 j13 _ _ => ?_)
    refine z_aload_n X (q := 0) dX8_asked_103 rfl rfl ?_
    refine z_geti X hK (N := 46) (ci := 8) (k := 29) rfl (by decide) inlX8 (by decide) hf_X8_369 rfl spM_X8 rfl dX8_asked_104 (fun o14 _ => ?_)
    refine z_iadd X dX8_asked_107 ?_
    refine z_iconst X (v := (0 : Int32)) dX8_asked_108 (by decide) ?_
    refine z_sipush X (v := (9999 : Int32)) dX8_asked_109 (by decide) ?_
    refine z_callS X hK (As := [vI ((st9.2.1 o12 j13) + (st9.2.1 o14 29)), vI (0 : Int32), vI (9999 : Int32)]) (kX8_within l Z  b x _ _ _ _) hk_X8_327 ⟨rfl, rfl⟩ hd_X8_within.2 ⟨Nat.le_of_ble_eq_true rfl, Nat.le_of_ble_eq_true rfl⟩ ⟨Nat.le_of_ble_eq_true rfl, Nat.le_of_ble_eq_true rfl⟩ rfl rfl (Nat.le_of_ble_eq_true rfl) dX8_asked_112 (fun q15 => ?_)
    refine z_iast X hK dX8_asked_115 (fun o16 j17 st18 _ _ => ?_)
    refine z_iload_n X (q := 2) dX8_asked_116 rfl rfl ?_
    subst hQ; exact z_iret X hlocks hr dX8_asked_117
  have J23 : ∀ (y1 : Int32) (y2 : Int32) (y3 : Int32) (s0 : Option Nat) (s1 : Int32) (st : zS), zs p l e (rmX8_asked) s m args below meth c Q Z spM b x A 5 0 0 res (fX8_asked_j23 this y1 y2 y3 s0 s1 st) 23 [(0, vP (some this)), (1, vI y1), (2, vI y2), (3, vI y3)] [vI s1, vP s0] st := by
    intro y1 y2 y3 s0 s1 st
    rw [fX8_asked_j23]
    refine z_puti X hK (N := 46) (ci := 8) (k := 28) rfl (by decide) inlX8 tyX8 tyX8_ok nmX8 (by decide) hf_X8_366 rfl rfl spM_X8 rfl (by decide +kernel) dX8_asked_23 (fun o19 st20 _ => ?_)
    refine z_aload_n X (q := 0) dX8_asked_26 rfl rfl ?_
    refine z_aload_n X (q := 0) dX8_asked_27 rfl rfl ?_
    refine z_iload_n X (q := 1) dX8_asked_28 rfl rfl ?_
    refine z_iload_n X (q := 2) dX8_asked_29 rfl rfl ?_
    refine z_callV X hK (As := [vI y1, vI y2]) (ci := 8) rfl (by decide) (fun o => (kX8_costsOf l Z  b x o _ _ _)) hk_X8_360 ⟨rfl, rfl⟩ hd_X8_costsOf ⟨Nat.le_of_ble_eq_true rfl, Nat.le_of_ble_eq_true rfl⟩ ⟨Nat.le_of_ble_eq_true rfl, Nat.le_of_ble_eq_true rfl⟩ rfl rfl (Nat.le_of_ble_eq_true rfl) dX8_asked_30 (fun _ q21 _ => ?_)
    refine z_puti X hK (N := 46) (ci := 8) (k := 29) rfl (by decide) inlX8 tyX8 tyX8_ok nmX8 (by decide) hf_X8_369 rfl rfl spM_X8 rfl (by decide +kernel) dX8_asked_33 (fun o22 st23 _ => ?_)
    refine z_aload_n X (q := 0) dX8_asked_36 rfl rfl ?_
    refine z_iload_n X (q := 1) dX8_asked_37 rfl rfl ?_
    refine z_iload_n X (q := 2) dX8_asked_38 rfl rfl ?_
    refine z_callV X hK (As := [vI y1, vI y2]) (ci := 8) rfl (by decide) (fun o => (kX8_shutsBy l Z  b x o _ _ _)) hk_X8_357 ⟨rfl, rfl⟩ hd_X8_shutsBy ⟨Nat.le_of_ble_eq_true rfl, Nat.le_of_ble_eq_true rfl⟩ ⟨Nat.le_of_ble_eq_true rfl, Nat.le_of_ble_eq_true rfl⟩ rfl rfl (Nat.le_of_ble_eq_true rfl) dX8_asked_39 (fun _ q24 _ => ?_)
    refine z_name (fun v25 => ?_)
    refine z_istore X dX8_asked_42 (Nat.le_of_ble_eq_true rfl) rfl ?_
    refine z_aload_n X (q := 1) dX8_asked_44 rfl rfl ?_
    refine z_getr X hK (N := 46) (ci := 8) (k := 10) rfl (by decide) inlX8 (by decide) hf_X8_29 rfl spM_X8 rfl dX8_asked_45 (fun o26 _ => ?_)
    refine z_iconst X (v := (4 : Int32)) dX8_asked_48 (by decide) ?_
    refine z_iload_n X (q := 2) dX8_asked_49 rfl rfl ?_
    refine z_imul X dX8_asked_50 ?_
    refine z_iconst X (v := (2 : Int32)) dX8_asked_51 (by decide) ?_
    refine z_iadd X dX8_asked_52 ?_
    refine z_dup2 X dX8_asked_53 rfl rfl ?_
    refine z_iald X hK dX8_asked_54 (fun o27 j28 _ _ => ?_)
    refine z_iload_n X (q := 4) dX8_asked_55 rfl rfl ?_
    refine z_iconst X (v := (-1 : Int32)) dX8_asked_56 (by decide) ?_
    refine z_icmp_ne X (tgt := 64) dX8_asked_57 (by decide) (fun _ => ?_) (fun _ => ?_)
    · refine z_iconst X (v := (1 : Int32)) dX8_asked_64 (by decide) ?_
      refine z_iload_n X (q := 4) dX8_asked_65 rfl rfl ?_
      refine z_ishl X dX8_asked_66 ?_
      exact z_sub [1, 2, 4, 0] (J67 _ _ _ _ _ _ _ _) rfl
    · refine z_iconst X (v := (0 : Int32)) dX8_asked_60 (by decide) ?_
      refine z_goto X (tgt := 67) dX8_asked_61 (by decide) ?_
      exact z_sub [1, 2, 4, 0] (J67 _ _ _ _ _ _ _ _) rfl
  rw [fX8_asked]
  refine z_aload_n X (q := 0) dX8_asked_0 rfl rfl ?_
  refine z_iload_n X (q := 1) dX8_asked_1 rfl rfl ?_
  refine z_iload_n X (q := 2) dX8_asked_2 rfl rfl ?_
  refine z_callV X hK (As := [vI a1, vI a2]) (ci := 8) rfl (by decide) (fun o => (kX8_given l Z  b x o _ _ _)) hk_X8_354 ⟨rfl, rfl⟩ hd_X8_given ⟨Nat.le_of_ble_eq_true rfl, Nat.le_of_ble_eq_true rfl⟩ ⟨Nat.le_of_ble_eq_true rfl, Nat.le_of_ble_eq_true rfl⟩ rfl rfl (Nat.le_of_ble_eq_true rfl) dX8_asked_3 (fun _ q31 _ => ?_)
  refine z_name (fun v32 => ?_)
  refine z_istore_n X dX8_asked_6 rfl (Nat.le_of_ble_eq_true rfl) rfl ?_
  refine z_aload_n X (q := 1) dX8_asked_7 rfl rfl ?_
  refine z_iload_n X (q := 0) dX8_asked_8 rfl rfl ?_
  refine z_iconst X (v := (-1 : Int32)) dX8_asked_9 (by decide) ?_
  refine z_icmp_ne X (tgt := 17) dX8_asked_10 (by decide) (fun _ => ?_) (fun _ => ?_)
  · refine z_aload_n X (q := 1) dX8_asked_17 rfl rfl ?_
    refine z_iload_n X (q := 2) dX8_asked_18 rfl rfl ?_
    refine z_iload_n X (q := 0) dX8_asked_19 rfl rfl ?_
    refine z_callV X hK (As := [vI a1, vI v32]) (ci := 8) rfl (by decide) (fun o => (kX8_gladOf l Z  b x o _ _ _)) hk_X8_363 ⟨rfl, rfl⟩ hd_X8_gladOf ⟨Nat.le_of_ble_eq_true rfl, Nat.le_of_ble_eq_true rfl⟩ ⟨Nat.le_of_ble_eq_true rfl, Nat.le_of_ble_eq_true rfl⟩ rfl rfl (Nat.le_of_ble_eq_true rfl) dX8_asked_20 (fun _ q33 _ => ?_)
    exact z_sub [1, 2, 3, 0] (J23 _ _ _ _ _ _) rfl
  · refine z_iconst X (v := (0 : Int32)) dX8_asked_13 (by decide) ?_
    refine z_goto X (tgt := 23) dX8_asked_14 (by decide) ?_
    exact z_sub [1, 2, 3, 0] (J23 _ _ _ _ _ _) rfl
abbrev rmX8_isOne : Room := { frames := 2, cells := 0, slots := 0, locals := 65 }
def fX8_isOne (this : Nat) (a1 : Int32) (st : zS) : Option (Int32 × zS) :=
  (zok spM st (some this) 8).bind fun o1 => (fX8_in (a1.toInt64) (0 : Int64) (((st.2.1 o1 11) - (1 : Int32)).toInt64) st).bind fun q2 => if q2.1 = 0 ∨ q2.1 = 1 then some (q2.1, q2.2) else none
set_option maxRecDepth 100000 in
set_option maxHeartbeats 4000000 in
theorem kX8_isOne (l : Launch) (Z : zZ) (b : Nat) (x : Option Nat) (this : Nat) (a1 : Int32) (st : zS) : zC l Z spM b x yX8_isOne (.code yX8_isOne cX8_isOne 2 (some .boolean)) (rmX8_isOne) rI [vP (some this), vI a1] st (fX8_isOne this a1 st) := by
  refine z_start (own := RX8) rfl (by decide +kernel) (Nat.le_of_ble_eq_true rfl) rfl (fun p e s m args below meth c res Q A X hK hr hlocks hQ => ?_)
  rw [fX8_isOne]
  refine z_iload_n X (q := 1) dX8_isOne_0 rfl rfl ?_
  refine z_i2l X dX8_isOne_1 ?_
  refine z_lconst X (v := (0 : Int64)) dX8_isOne_2 (by decide) ?_
  refine z_aload_n X (q := 0) dX8_isOne_3 rfl rfl ?_
  refine z_geti X hK (N := 46) (ci := 8) (k := 11) rfl (by decide) inlX8 (by decide) hf_X8_74 rfl spM_X8 rfl dX8_isOne_4 (fun o1 _ => ?_)
  refine z_iconst X (v := (1 : Int32)) dX8_isOne_7 (by decide) ?_
  refine z_isub X dX8_isOne_8 ?_
  refine z_i2l X dX8_isOne_9 ?_
  refine z_callS X hK (As := [vL (a1.toInt64), vL (0 : Int64), vL (((st.2.1 o1 11) - (1 : Int32)).toInt64)]) (kX8_in l Z  b x _ _ _ _) hk_X8_77 ⟨rfl, rfl⟩ hd_X8_in.2 ⟨Nat.le_of_ble_eq_true rfl, Nat.le_of_ble_eq_true rfl⟩ ⟨Nat.le_of_ble_eq_true rfl, Nat.le_of_ble_eq_true rfl⟩ rfl rfl (Nat.le_of_ble_eq_true rfl) dX8_isOne_10 (fun q2 => ?_)
  subst hQ; exact z_zret X hlocks hr dX8_isOne_13
theorem zw_781 : Cond.methodLink RX8 372 yX8_asked ∈ wsL_law := zr_35 _ (by decide +kernel)
theorem zw_782 : Cond.instanceMethod yX8_asked ∈ wsL_law := zr_35 _ (by decide +kernel)
theorem zw_783 : Cond.selects RX8 yX8_asked yX8_asked ∈ wsL_law := zr_35 _ (by decide +kernel)
theorem zw_784 : Cond.code yX8_asked cX8_asked 5 (some .int) ∈ wsL_law := zr_36 _ (by decide +kernel)
theorem hk_X8_372 : ∀ w ∈ ([Cond.methodLink RX8 372 yX8_asked, Cond.instanceMethod yX8_asked, Cond.selects RX8 yX8_asked yX8_asked, Cond.initialized RX8, Cond.code yX8_asked cX8_asked 5 (some .int)] : List Cond), w ∈ wsL_law := List.forall_mem_cons.mpr ⟨zw_781, List.forall_mem_cons.mpr ⟨zw_782, List.forall_mem_cons.mpr ⟨zw_783, List.forall_mem_cons.mpr ⟨zw_525, List.forall_mem_cons.mpr ⟨zw_784, fun _ h => absurd h List.not_mem_nil⟩⟩⟩⟩⟩
theorem zw_785 : Cond.methodLink RX8 89 yX8_isOne ∈ wsL_law := zr_9 _ (by decide +kernel)
theorem zw_786 : Cond.instanceMethod yX8_isOne ∈ wsL_law := zr_9 _ (by decide +kernel)
theorem zw_787 : Cond.selects RX8 yX8_isOne yX8_isOne ∈ wsL_law := zr_9 _ (by decide +kernel)
theorem zw_788 : Cond.code yX8_isOne cX8_isOne 2 (some .boolean) ∈ wsL_law := zr_9 _ (by decide +kernel)
theorem hk_X8_89 : ∀ w ∈ ([Cond.methodLink RX8 89 yX8_isOne, Cond.instanceMethod yX8_isOne, Cond.selects RX8 yX8_isOne yX8_isOne, Cond.initialized RX8, Cond.code yX8_isOne cX8_isOne 2 (some .boolean)] : List Cond), w ∈ wsL_law := List.forall_mem_cons.mpr ⟨zw_785, List.forall_mem_cons.mpr ⟨zw_786, List.forall_mem_cons.mpr ⟨zw_787, List.forall_mem_cons.mpr ⟨zw_525, List.forall_mem_cons.mpr ⟨zw_788, fun _ h => absurd h List.not_mem_nil⟩⟩⟩⟩⟩
theorem hd_X8_asked : yX8_asked.cls = RX8 ∧ yX8_asked.cls ≠ "java/lang/invoke/MethodHandle" ∧ yX8_asked.cls ≠ "java/lang/invoke/VarHandle" ∧ (parseMethodDescriptor yX8_asked.desc).map (fun d => d.parameters.length) = some 2 := by decide +kernel
theorem hd_X8_isOne : yX8_isOne.cls = RX8 ∧ yX8_isOne.cls ≠ "java/lang/invoke/MethodHandle" ∧ yX8_isOne.cls ≠ "java/lang/invoke/VarHandle" ∧ (parseMethodDescriptor yX8_isOne.desc).map (fun d => d.parameters.length) = some 1 := by decide +kernel
theorem zw_789 : Cond.constantLong RX8 350 (4095) ∈ wsL_law := zr_25 _ (by decide +kernel)
theorem hc_X8_350 : Cond.constantLong RX8 350 (4095) ∈ wsL_law := zw_789
abbrev rmX8_ask : Room := { frames := 46, cells := 0, slots := 0, locals := 1048 }
def fX8_ask_j29 (this : Nat) (st : zS) : Option (Int32 × zS) :=
  some ((-2 : Int32), st)
def fX8_ask (this : Nat) (a1 : Int32) (a2 : Int32) (st : zS) : Option (Int32 × zS) :=
  (zok spM st (some this) 8).bind fun o5 => (fX8_isOne o5 a1 st).bind fun q1 => if q1.1 = 0 then (fX8_ask_j29 this q1.2) else ((fX8_in (a2.toInt64) (1 : Int64) (4095 : Int64) q1.2).bind fun q2 => if q2.1 = 0 then (fX8_ask_j29 this q2.2) else ((zok spM q2.2 (some this) 8).bind fun o4 => (fX8_asked o4 a1 a2 q2.2).bind fun q3 => some (q3.1, q3.2)))
set_option maxRecDepth 100000 in
set_option maxHeartbeats 4000000 in
theorem kX8_ask (l : Launch) (Z : zZ) (b : Nat) (x : Option Nat) (this : Nat) (a1 : Int32) (a2 : Int32) (st : zS) : zC l Z spM b x yX8_ask (.code yX8_ask cX8_ask 3 (some .int)) (rmX8_ask) rI [vP (some this), vI a1, vI a2] st (fX8_ask this a1 a2 st) := by
  refine z_start (own := RX8) rfl (by decide +kernel) (Nat.le_of_ble_eq_true rfl) rfl (fun p e s m args below meth c res Q A X hK hr hlocks hQ => ?_)
  have J29 : ∀ (st : zS), zs p l e (rmX8_ask) s m args below meth c Q Z spM b x A 3 0 0 res (fX8_ask_j29 this st) 29 [] [] st := by
    intro  st
    rw [fX8_ask_j29]
    refine z_bipush X (v := (-2 : Int32)) dX8_ask_29 (by decide) ?_
    subst hQ; exact z_iret X hlocks hr dX8_ask_31
  rw [fX8_ask]
  refine z_aload_n X (q := 0) dX8_ask_0 rfl rfl ?_
  refine z_iload_n X (q := 1) dX8_ask_1 rfl rfl ?_
  refine z_callV X hK (As := [vI a1]) (ci := 8) rfl (by decide) (fun o => (kX8_isOne l Z  b x o _ _)) hk_X8_89 ⟨rfl, rfl⟩ hd_X8_isOne ⟨Nat.le_of_ble_eq_true rfl, Nat.le_of_ble_eq_true rfl⟩ ⟨Nat.le_of_ble_eq_true rfl, Nat.le_of_ble_eq_true rfl⟩ rfl rfl (Nat.le_of_ble_eq_true rfl) dX8_ask_2 (fun _ q1 _ => ?_)
  refine z_if_eq X (tgt := 29) dX8_ask_5 (by decide) (fun _ => ?_) (fun _ => ?_)
  · exact z_sub [] (J29  _) rfl
  · refine z_iload_n X (q := 2) dX8_ask_8 rfl rfl ?_
    refine z_i2l X dX8_ask_9 ?_
    refine z_lconst X (v := (1 : Int64)) dX8_ask_10 (by decide) ?_
    refine z_ldc2 X (v := (4095 : Int64)) (hc_X8_350) dX8_ask_11 ?_
    refine z_callS X hK (As := [vL (a2.toInt64), vL (1 : Int64), vL (4095 : Int64)]) (kX8_in l Z  b x _ _ _ _) hk_X8_77 ⟨rfl, rfl⟩ hd_X8_in.2 ⟨Nat.le_of_ble_eq_true rfl, Nat.le_of_ble_eq_true rfl⟩ ⟨Nat.le_of_ble_eq_true rfl, Nat.le_of_ble_eq_true rfl⟩ rfl rfl (Nat.le_of_ble_eq_true rfl) dX8_ask_14 (fun q2 => ?_)
    refine z_if_eq X (tgt := 29) dX8_ask_17 (by decide) (fun _ => ?_) (fun _ => ?_)
    · exact z_sub [] (J29  _) rfl
    · refine z_aload_n X (q := 0) dX8_ask_20 rfl rfl ?_
      refine z_iload_n X (q := 1) dX8_ask_21 rfl rfl ?_
      refine z_iload_n X (q := 2) dX8_ask_22 rfl rfl ?_
      refine z_callV X hK (As := [vI a1, vI a2]) (ci := 8) rfl (by decide) (fun o => (kX8_asked l Z  b x o _ _ _)) hk_X8_372 ⟨rfl, rfl⟩ hd_X8_asked ⟨Nat.le_of_ble_eq_true rfl, Nat.le_of_ble_eq_true rfl⟩ ⟨Nat.le_of_ble_eq_true rfl, Nat.le_of_ble_eq_true rfl⟩ rfl rfl (Nat.le_of_ble_eq_true rfl) dX8_ask_23 (fun _ q3 _ => ?_)
      refine z_goto X (tgt := 31) dX8_ask_26 (by decide) ?_
      subst hQ; exact z_iret X hlocks hr dX8_ask_31
theorem zw_790 : Cond.fieldLink RX8 378 "WellGivesOtherModel" "lastThing" "I" ∈ wsL_law := zr_37 _ (by decide +kernel)
theorem hf_X8_378 : Cond.fieldLink RX8 378 "WellGivesOtherModel" "lastThing" "I" ∈ wsL_law := zw_790
theorem zw_791 : Cond.fieldLink RX8 381 "WellGivesOtherModel" "nothings" "I" ∈ wsL_law := zr_37 _ (by decide +kernel)
theorem hf_X8_381 : Cond.fieldLink RX8 381 "WellGivesOtherModel" "nothings" "I" ∈ wsL_law := zw_791
theorem zw_792 : Cond.fieldLink RX8 384 "WellGivesOtherModel" "glads" "I" ∈ wsL_law := zr_37 _ (by decide +kernel)
theorem hf_X8_384 : Cond.fieldLink RX8 384 "WellGivesOtherModel" "glads" "I" ∈ wsL_law := zw_792
theorem zw_793 : Cond.fieldLink RX8 387 "WellGivesOtherModel" "costs" "I" ∈ wsL_law := zr_38 _ (by decide +kernel)
theorem hf_X8_387 : Cond.fieldLink RX8 387 "WellGivesOtherModel" "costs" "I" ∈ wsL_law := zw_793
theorem zw_794 : Cond.fieldLink RX8 57 "WellGivesOtherModel" "sheetSize" "[I" ∈ wsL_law := zr_6 _ (by decide +kernel)
theorem hf_X8_57 : Cond.fieldLink RX8 57 "WellGivesOtherModel" "sheetSize" "[I" ∈ wsL_law := zw_794
theorem zw_795 : Cond.fieldLink RX8 60 "WellGivesOtherModel" "items" "[I" ∈ wsL_law := zr_6 _ (by decide +kernel)
theorem hf_X8_60 : Cond.fieldLink RX8 60 "WellGivesOtherModel" "items" "[I" ∈ wsL_law := zw_795
abbrev rmX8_askAll : Room := { frames := 46, cells := 0, slots := 0, locals := 1048 }
def fX8_askAll_j70 (this : Nat) (k22 : Int32 → Int32 → Int32 → zS → Option (Unit × zS)) (y1 : Int32) (y2 : Int32) (y3 : Int32) (s0 : Option Nat) (s1 : Int32) (s2 : Int32) (st : zS) : Option (Unit × zS) :=
  (zok spM st s0 8).bind fun o1 => zlet (zp st o1 33 (s1 + s2)) fun st2 => (zok spM st2 (some this) 8).bind fun o3 => (zok spM st2 (some this) 8).bind fun o4 => (zok spM st2 (some this) 8).bind fun o5 => zlet (zp st2 o5 34 ((st2.2.1 o3 34) + (st2.2.1 o4 28))) fun st6 => (zok spM st6 (some this) 8).bind fun o7 => (zok spM st6 (some this) 8).bind fun o8 => (zok spM st6 (some this) 8).bind fun o9 => zlet (zp st6 o9 35 ((st6.2.1 o7 35) + (st6.2.1 o8 29))) fun st10 => k22 y1 y2 (y3 + (1 : Int32)) st10
def fX8_askAll_L22 (this : Nat) : Nat → Int32 → Int32 → Int32 → zS → Option (Unit × zS)
  | 0, _, _, _, _ => none
  | n + 1, y1, y2, y3, st => (zok spM st (some this) 8).bind fun o11 => (zok spM st (st.2.2.2 o11 44) 9).bind fun o12 => (zix spM o12 y1).bind fun j13 => if (st.2.1 o12 j13) ≤ y3 then (some ((), st)) else ((zok spM st (some this) 8).bind fun o14 => (zok spM st (st.2.2.2 o14 45) 9).bind fun o15 => (zix spM o15 (((40 : Int32) * y1) + y3)).bind fun j16 => (zok spM st (some this) 8).bind fun o22 => (fX8_asked o22 y2 (st.2.1 o15 j16) st).bind fun q17 => (zok spM q17.2 (some this) 8).bind fun o18 => zlet (zp q17.2 o18 32 q17.1) fun st19 => (zok spM st19 (some this) 8).bind fun o20 => (zok spM st19 (some this) 8).bind fun o21 => if (st19.2.1 o21 32) = (-1 : Int32) then (fX8_askAll_j70 this (fX8_askAll_L22 this n) y1 y2 y3 (some this) (st19.2.1 o20 33) (1 : Int32) st19) else (fX8_askAll_j70 this (fX8_askAll_L22 this n) y1 y2 y3 (some this) (st19.2.1 o20 33) (0 : Int32) st19))
def fX8_askAll (this : Nat) (a1 : Int32) (a2 : Int32) (st : zS) : Option (Unit × zS) :=
  (zok spM st (some this) 8).bind fun o23 => zlet (zp st o23 32 (-1 : Int32)) fun st24 => (zok spM st24 (some this) 8).bind fun o25 => zlet (zp st24 o25 33 (0 : Int32)) fun st26 => (zok spM st26 (some this) 8).bind fun o27 => zlet (zp st26 o27 34 (0 : Int32)) fun st28 => (zok spM st28 (some this) 8).bind fun o29 => zlet (zp st28 o29 35 (0 : Int32)) fun st30 => fX8_askAll_L22 this zF a1 a2 (0 : Int32) st30
set_option maxRecDepth 100000 in
set_option maxHeartbeats 4000000 in
theorem kX8_askAll (l : Launch) (Z : zZ) (b : Nat) (x : Option Nat) (this : Nat) (a1 : Int32) (a2 : Int32) (st : zS) : zC l Z spM b x yX8_askAll (.code yX8_askAll cX8_askAll 4 none) (rmX8_askAll) rV [vP (some this), vI a1, vI a2] st (fX8_askAll this a1 a2 st) := by
  refine z_start (own := RX8) rfl (by decide +kernel) (Nat.le_of_ble_eq_true rfl) rfl (fun p e s m args below meth c res Q A X hK hr hlocks hQ => ?_)
  have J22 : ∀ (n22 : Nat) (y1 : Int32) (y2 : Int32) (y3 : Int32) (st : zS), zs p l e (rmX8_askAll) s m args below meth c Q Z spM b x A 4 0 0 res (fX8_askAll_L22 this n22 y1 y2 y3 st) 22 [(0, vP (some this)), (1, vI y1), (2, vI y2), (3, vI y3)] [] st := by
    intro n22
    induction n22 with
    | zero => intros; exact z_none
    | succ n22 ih22 =>
      have J70 : ∀ (y1 : Int32) (y2 : Int32) (y3 : Int32) (s0 : Option Nat) (s1 : Int32) (s2 : Int32) (st : zS), zs p l e (rmX8_askAll) s m args below meth c Q Z spM b x A 4 0 0 res (fX8_askAll_j70 this (fX8_askAll_L22 this n22) y1 y2 y3 s0 s1 s2 st) 70 [(0, vP (some this)), (1, vI y1), (2, vI y2), (3, vI y3)] [vI s2, vI s1, vP s0] st := by
        intro y1 y2 y3 s0 s1 s2 st
        rw [fX8_askAll_j70]
        refine z_iadd X dX8_askAll_70 ?_
        refine z_puti X hK (N := 46) (ci := 8) (k := 33) rfl (by decide) inlX8 tyX8 tyX8_ok nmX8 (by decide) hf_X8_381 rfl rfl spM_X8 rfl (by decide +kernel) dX8_askAll_71 (fun o1 st2 _ => ?_)
        refine z_aload_n X (q := 0) dX8_askAll_74 rfl rfl ?_
        refine z_dup X dX8_askAll_75 rfl ?_
        refine z_geti X hK (N := 46) (ci := 8) (k := 34) rfl (by decide) inlX8 (by decide) hf_X8_384 rfl spM_X8 rfl dX8_askAll_76 (fun o3 _ => ?_)
        refine z_aload_n X (q := 0) dX8_askAll_79 rfl rfl ?_
        refine z_geti X hK (N := 46) (ci := 8) (k := 28) rfl (by decide) inlX8 (by decide) hf_X8_366 rfl spM_X8 rfl dX8_askAll_80 (fun o4 _ => ?_)
        refine z_iadd X dX8_askAll_83 ?_
        refine z_puti X hK (N := 46) (ci := 8) (k := 34) rfl (by decide) inlX8 tyX8 tyX8_ok nmX8 (by decide) hf_X8_384 rfl rfl spM_X8 rfl (by decide +kernel) dX8_askAll_84 (fun o5 st6 _ => ?_)
        refine z_aload_n X (q := 0) dX8_askAll_87 rfl rfl ?_
        refine z_dup X dX8_askAll_88 rfl ?_
        refine z_geti X hK (N := 46) (ci := 8) (k := 35) rfl (by decide) inlX8 (by decide) hf_X8_387 rfl spM_X8 rfl dX8_askAll_89 (fun o7 _ => ?_)
        refine z_aload_n X (q := 0) dX8_askAll_92 rfl rfl ?_
        refine z_geti X hK (N := 46) (ci := 8) (k := 29) rfl (by decide) inlX8 (by decide) hf_X8_369 rfl spM_X8 rfl dX8_askAll_93 (fun o8 _ => ?_)
        refine z_iadd X dX8_askAll_96 ?_
        refine z_puti X hK (N := 46) (ci := 8) (k := 35) rfl (by decide) inlX8 tyX8 tyX8_ok nmX8 (by decide) hf_X8_387 rfl rfl spM_X8 rfl (by decide +kernel) dX8_askAll_97 (fun o9 st10 _ => ?_)
        refine z_iinc X (q := 3) (y := y3 + (1 : Int32)) dX8_askAll_100 rfl rfl (Nat.le_of_ble_eq_true rfl) rfl ?_
        refine z_goto X (tgt := 22) dX8_askAll_103 (by decide) ?_
        exact z_sub [1, 2, 3, 0] (ih22 _ _ _ _) rfl
      intro y1 y2 y3 st
      rw [fX8_askAll_L22]
      refine z_iload_n X (q := 3) dX8_askAll_22 rfl rfl ?_
      refine z_aload_n X (q := 0) dX8_askAll_23 rfl rfl ?_
      refine z_getr X hK (N := 46) (ci := 8) (k := 44) rfl (by decide) inlX8 (by decide) hf_X8_57 rfl spM_X8 rfl dX8_askAll_24 (fun o11 _ => ?_)
      refine z_iload_n X (q := 1) dX8_askAll_27 rfl rfl ?_
      refine z_iald X hK dX8_askAll_28 (fun o12 j13 _ _ => ?_)
      refine z_icmp_ge X (tgt := 106) dX8_askAll_29 (by decide) (fun _ => ?_) (fun _ => ?_)
      · subst hQ; exact z_vret X hlocks hr dX8_askAll_106
      · refine z_aload_n X (q := 0) dX8_askAll_32 rfl rfl ?_
        refine z_aload_n X (q := 0) dX8_askAll_33 rfl rfl ?_
        refine z_iload_n X (q := 2) dX8_askAll_34 rfl rfl ?_
        refine z_aload_n X (q := 0) dX8_askAll_35 rfl rfl ?_
        refine z_getr X hK (N := 46) (ci := 8) (k := 45) rfl (by decide) inlX8 (by decide) hf_X8_60 rfl spM_X8 rfl dX8_askAll_36 (fun o14 _ => ?_)
        refine z_bipush X (v := (40 : Int32)) dX8_askAll_39 (by decide) ?_
        refine z_iload_n X (q := 1) dX8_askAll_41 rfl rfl ?_
        refine z_imul X dX8_askAll_42 ?_
        refine z_iload_n X (q := 3) dX8_askAll_43 rfl rfl ?_
        refine z_iadd X dX8_askAll_44 ?_
        refine z_iald X hK dX8_askAll_45 (fun o15 j16 _ _ => ?_)
        refine z_callV X hK (As := [vI y2, vI (st.2.1 o15 j16)]) (ci := 8) rfl (by decide) (fun o => (kX8_asked l Z  b x o _ _ _)) hk_X8_372 ⟨rfl, rfl⟩ hd_X8_asked ⟨Nat.le_of_ble_eq_true rfl, Nat.le_of_ble_eq_true rfl⟩ ⟨Nat.le_of_ble_eq_true rfl, Nat.le_of_ble_eq_true rfl⟩ rfl rfl (Nat.le_of_ble_eq_true rfl) dX8_askAll_46 (fun _ q17 _ => ?_)
        refine z_puti X hK (N := 46) (ci := 8) (k := 32) rfl (by decide) inlX8 tyX8 tyX8_ok nmX8 (by decide) hf_X8_378 rfl rfl spM_X8 rfl (by decide +kernel) dX8_askAll_49 (fun o18 st19 _ => ?_)
        refine z_aload_n X (q := 0) dX8_askAll_52 rfl rfl ?_
        refine z_dup X dX8_askAll_53 rfl ?_
        refine z_geti X hK (N := 46) (ci := 8) (k := 33) rfl (by decide) inlX8 (by decide) hf_X8_381 rfl spM_X8 rfl dX8_askAll_54 (fun o20 _ => ?_)
        refine z_aload_n X (q := 0) dX8_askAll_57 rfl rfl ?_
        refine z_geti X hK (N := 46) (ci := 8) (k := 32) rfl (by decide) inlX8 (by decide) hf_X8_378 rfl spM_X8 rfl dX8_askAll_58 (fun o21 _ => ?_)
        refine z_iconst X (v := (-1 : Int32)) dX8_askAll_61 (by decide) ?_
        refine z_icmp_ne X (tgt := 69) dX8_askAll_62 (by decide) (fun _ => ?_) (fun _ => ?_)
        · refine z_iconst X (v := (0 : Int32)) dX8_askAll_69 (by decide) ?_
          exact z_sub [0, 1, 2, 3] (J70 _ _ _ _ _ _ _) rfl
        · refine z_iconst X (v := (1 : Int32)) dX8_askAll_65 (by decide) ?_
          refine z_goto X (tgt := 70) dX8_askAll_66 (by decide) ?_
          exact z_sub [0, 1, 2, 3] (J70 _ _ _ _ _ _ _) rfl
  rw [fX8_askAll]
  refine z_aload_n X (q := 0) dX8_askAll_0 rfl rfl ?_
  refine z_iconst X (v := (-1 : Int32)) dX8_askAll_1 (by decide) ?_
  refine z_puti X hK (N := 46) (ci := 8) (k := 32) rfl (by decide) inlX8 tyX8 tyX8_ok nmX8 (by decide) hf_X8_378 rfl rfl spM_X8 rfl (by decide +kernel) dX8_askAll_2 (fun o23 st24 _ => ?_)
  refine z_aload_n X (q := 0) dX8_askAll_5 rfl rfl ?_
  refine z_iconst X (v := (0 : Int32)) dX8_askAll_6 (by decide) ?_
  refine z_puti X hK (N := 46) (ci := 8) (k := 33) rfl (by decide) inlX8 tyX8 tyX8_ok nmX8 (by decide) hf_X8_381 rfl rfl spM_X8 rfl (by decide +kernel) dX8_askAll_7 (fun o25 st26 _ => ?_)
  refine z_aload_n X (q := 0) dX8_askAll_10 rfl rfl ?_
  refine z_iconst X (v := (0 : Int32)) dX8_askAll_11 (by decide) ?_
  refine z_puti X hK (N := 46) (ci := 8) (k := 34) rfl (by decide) inlX8 tyX8 tyX8_ok nmX8 (by decide) hf_X8_384 rfl rfl spM_X8 rfl (by decide +kernel) dX8_askAll_12 (fun o27 st28 _ => ?_)
  refine z_aload_n X (q := 0) dX8_askAll_15 rfl rfl ?_
  refine z_iconst X (v := (0 : Int32)) dX8_askAll_16 (by decide) ?_
  refine z_puti X hK (N := 46) (ci := 8) (k := 35) rfl (by decide) inlX8 tyX8 tyX8_ok nmX8 (by decide) hf_X8_387 rfl rfl spM_X8 rfl (by decide +kernel) dX8_askAll_17 (fun o29 st30 _ => ?_)
  refine z_iconst X (v := (0 : Int32)) dX8_askAll_20 (by decide) ?_
  refine z_istore_n X dX8_askAll_21 rfl (Nat.le_of_ble_eq_true rfl) rfl ?_
  exact z_sub [1, 2, 3, 0] (J22 _ _ _ _ _) rfl
theorem zw_796 : Cond.constantLong RX8 109 (5) ∈ wsL_law := zr_20 _ (by decide +kernel)
theorem hc_X8_109 : Cond.constantLong RX8 109 (5) ∈ wsL_law := zw_796
theorem zw_797 : Cond.constantLong RX8 111 (9) ∈ wsL_law := zr_20 _ (by decide +kernel)
theorem hc_X8_111 : Cond.constantLong RX8 111 (9) ∈ wsL_law := zw_797
abbrev rmX8_asker : Room := { frames := 2, cells := 0, slots := 0, locals := 65 }
def fX8_asker (this : Nat) (a1 : Int32) (a2 : Int32) (st : zS) : Option (Int32 × zS) :=
  (fX8_in (a1.toInt64) (0 : Int64) (5 : Int64) st).bind fun q1 => if q1.1 = 0 then (some ((-2 : Int32), q1.2)) else ((fX8_in (a2.toInt64) (0 : Int64) (9 : Int64) q1.2).bind fun q2 => if q2.1 = 0 then (some ((-2 : Int32), q2.2)) else ((zok spM q2.2 (some this) 8).bind fun o3 => if (q2.2.2.1 o3 11) = (5 : Int32) then (some ((-4 : Int32), q2.2)) else ((zok spM q2.2 (some this) 8).bind fun o4 => (zok spM q2.2 (some this) 8).bind fun o5 => (zok spM q2.2 (q2.2.2.2.2 o4 9) 9).bind fun o6 => (zix spM o6 (q2.2.2.1 o5 11)).bind fun j7 => zlet (zp q2.2 o6 j7 a1) fun st8 => (zok spM st8 (some this) 8).bind fun o9 => (zok spM st8 (some this) 8).bind fun o10 => (zok spM st8 (st8.2.2.2 o9 10) 9).bind fun o11 => (zix spM o11 ((4 : Int32) * (st8.2.1 o10 11))).bind fun j12 => zlet (zp st8 o11 j12 a2) fun st13 => (zok spM st13 (some this) 8).bind fun o14 => (zok spM st13 (some this) 8).bind fun o15 => (zok spM st13 (st13.2.2.2 o14 10) 9).bind fun o16 => (zix spM o16 (((4 : Int32) * (st13.2.1 o15 11)) + (1 : Int32))).bind fun j17 => zlet (zp st13 o16 j17 (0 : Int32)) fun st18 => (zok spM st18 (some this) 8).bind fun o19 => (zok spM st18 (some this) 8).bind fun o20 => (zok spM st18 (st18.2.2.2 o19 10) 9).bind fun o21 => (zix spM o21 (((4 : Int32) * (st18.2.1 o20 11)) + (2 : Int32))).bind fun j22 => zlet (zp st18 o21 j22 (0 : Int32)) fun st23 => (zok spM st23 (some this) 8).bind fun o24 => (zok spM st23 (some this) 8).bind fun o25 => (zok spM st23 (st23.2.2.2 o24 10) 9).bind fun o26 => (zix spM o26 (((4 : Int32) * (st23.2.1 o25 11)) + (3 : Int32))).bind fun j27 => zlet (zp st23 o26 j27 (0 : Int32)) fun st28 => (zok spM st28 (some this) 8).bind fun o29 => (zok spM st28 (some this) 8).bind fun o30 => zlet (zp st28 o30 11 ((st28.2.1 o29 11) + (1 : Int32))) fun st31 => (zok spM st31 (some this) 8).bind fun o32 => some (((st31.2.1 o32 11) - (1 : Int32)), st31))))
set_option maxRecDepth 100000 in
set_option maxHeartbeats 4000000 in
theorem kX8_asker (l : Launch) (Z : zZ) (b : Nat) (x : Option Nat) (this : Nat) (a1 : Int32) (a2 : Int32) (st : zS) : zC l Z spM b x yX8_asker (.code yX8_asker cX8_asker 3 (some .int)) (rmX8_asker) rI [vP (some this), vI a1, vI a2] st (fX8_asker this a1 a2 st) := by
  refine z_start (own := RX8) rfl (by decide +kernel) (Nat.le_of_ble_eq_true rfl) rfl (fun p e s m args below meth c res Q A X hK hr hlocks hQ => ?_)
  rw [fX8_asker]
  refine z_iload_n X (q := 1) dX8_asker_0 rfl rfl ?_
  refine z_i2l X dX8_asker_1 ?_
  refine z_lconst X (v := (0 : Int64)) dX8_asker_2 (by decide) ?_
  refine z_ldc2 X (v := (5 : Int64)) (hc_X8_109) dX8_asker_3 ?_
  refine z_callS X hK (As := [vL (a1.toInt64), vL (0 : Int64), vL (5 : Int64)]) (kX8_in l Z  b x _ _ _ _) hk_X8_77 ⟨rfl, rfl⟩ hd_X8_in.2 ⟨Nat.le_of_ble_eq_true rfl, Nat.le_of_ble_eq_true rfl⟩ ⟨Nat.le_of_ble_eq_true rfl, Nat.le_of_ble_eq_true rfl⟩ rfl rfl (Nat.le_of_ble_eq_true rfl) dX8_asker_6 (fun q1 => ?_)
  refine z_if_eq X (tgt := 24) dX8_asker_9 (by decide) (fun _ => ?_) (fun _ => ?_)
  · refine z_bipush X (v := (-2 : Int32)) dX8_asker_24 (by decide) ?_
    subst hQ; exact z_iret X hlocks hr dX8_asker_26
  · refine z_iload_n X (q := 2) dX8_asker_12 rfl rfl ?_
    refine z_i2l X dX8_asker_13 ?_
    refine z_lconst X (v := (0 : Int64)) dX8_asker_14 (by decide) ?_
    refine z_ldc2 X (v := (9 : Int64)) (hc_X8_111) dX8_asker_15 ?_
    refine z_callS X hK (As := [vL (a2.toInt64), vL (0 : Int64), vL (9 : Int64)]) (kX8_in l Z  b x _ _ _ _) hk_X8_77 ⟨rfl, rfl⟩ hd_X8_in.2 ⟨Nat.le_of_ble_eq_true rfl, Nat.le_of_ble_eq_true rfl⟩ ⟨Nat.le_of_ble_eq_true rfl, Nat.le_of_ble_eq_true rfl⟩ rfl rfl (Nat.le_of_ble_eq_true rfl) dX8_asker_18 (fun q2 => ?_)
    refine z_if_ne X (tgt := 27) dX8_asker_21 (by decide) (fun _ => ?_) (fun _ => ?_)
    · refine z_aload_n X (q := 0) dX8_asker_27 rfl rfl ?_
      refine z_geti X hK (N := 46) (ci := 8) (k := 11) rfl (by decide) inlX8 (by decide) hf_X8_74 rfl spM_X8 rfl dX8_asker_28 (fun o3 _ => ?_)
      refine z_iconst X (v := (5 : Int32)) dX8_asker_31 (by decide) ?_
      refine z_icmp_ne X (tgt := 38) dX8_asker_32 (by decide) (fun _ => ?_) (fun _ => ?_)
      · refine z_aload_n X (q := 0) dX8_asker_38 rfl rfl ?_
        refine z_getr X hK (N := 46) (ci := 8) (k := 9) rfl (by decide) inlX8 (by decide) hf_X8_26 rfl spM_X8 rfl dX8_asker_39 (fun o4 _ => ?_)
        refine z_aload_n X (q := 0) dX8_asker_42 rfl rfl ?_
        refine z_geti X hK (N := 46) (ci := 8) (k := 11) rfl (by decide) inlX8 (by decide) hf_X8_74 rfl spM_X8 rfl dX8_asker_43 (fun o5 _ => ?_)
        refine z_iload_n X (q := 1) dX8_asker_46 rfl rfl ?_
        refine z_iast X hK dX8_asker_47 (fun o6 j7 st8 _ _ => ?_)
        refine z_aload_n X (q := 0) dX8_asker_48 rfl rfl ?_
        refine z_getr X hK (N := 46) (ci := 8) (k := 10) rfl (by decide) inlX8 (by decide) hf_X8_29 rfl spM_X8 rfl dX8_asker_49 (fun o9 _ => ?_)
        refine z_iconst X (v := (4 : Int32)) dX8_asker_52 (by decide) ?_
        refine z_aload_n X (q := 0) dX8_asker_53 rfl rfl ?_
        refine z_geti X hK (N := 46) (ci := 8) (k := 11) rfl (by decide) inlX8 (by decide) hf_X8_74 rfl spM_X8 rfl dX8_asker_54 (fun o10 _ => ?_)
        refine z_imul X dX8_asker_57 ?_
        refine z_iload_n X (q := 2) dX8_asker_58 rfl rfl ?_
        refine z_iast X hK dX8_asker_59 (fun o11 j12 st13 _ _ => ?_)
        refine z_aload_n X (q := 0) dX8_asker_60 rfl rfl ?_
        refine z_getr X hK (N := 46) (ci := 8) (k := 10) rfl (by decide) inlX8 (by decide) hf_X8_29 rfl spM_X8 rfl dX8_asker_61 (fun o14 _ => ?_)
        refine z_iconst X (v := (4 : Int32)) dX8_asker_64 (by decide) ?_
        refine z_aload_n X (q := 0) dX8_asker_65 rfl rfl ?_
        refine z_geti X hK (N := 46) (ci := 8) (k := 11) rfl (by decide) inlX8 (by decide) hf_X8_74 rfl spM_X8 rfl dX8_asker_66 (fun o15 _ => ?_)
        refine z_imul X dX8_asker_69 ?_
        refine z_iconst X (v := (1 : Int32)) dX8_asker_70 (by decide) ?_
        refine z_iadd X dX8_asker_71 ?_
        refine z_iconst X (v := (0 : Int32)) dX8_asker_72 (by decide) ?_
        refine z_iast X hK dX8_asker_73 (fun o16 j17 st18 _ _ => ?_)
        refine z_aload_n X (q := 0) dX8_asker_74 rfl rfl ?_
        refine z_getr X hK (N := 46) (ci := 8) (k := 10) rfl (by decide) inlX8 (by decide) hf_X8_29 rfl spM_X8 rfl dX8_asker_75 (fun o19 _ => ?_)
        refine z_iconst X (v := (4 : Int32)) dX8_asker_78 (by decide) ?_
        refine z_aload_n X (q := 0) dX8_asker_79 rfl rfl ?_
        refine z_geti X hK (N := 46) (ci := 8) (k := 11) rfl (by decide) inlX8 (by decide) hf_X8_74 rfl spM_X8 rfl dX8_asker_80 (fun o20 _ => ?_)
        refine z_imul X dX8_asker_83 ?_
        refine z_iconst X (v := (2 : Int32)) dX8_asker_84 (by decide) ?_
        refine z_iadd X dX8_asker_85 ?_
        refine z_iconst X (v := (0 : Int32)) dX8_asker_86 (by decide) ?_
        refine z_iast X hK dX8_asker_87 (fun o21 j22 st23 _ _ => ?_)
        refine z_aload_n X (q := 0) dX8_asker_88 rfl rfl ?_
        refine z_getr X hK (N := 46) (ci := 8) (k := 10) rfl (by decide) inlX8 (by decide) hf_X8_29 rfl spM_X8 rfl dX8_asker_89 (fun o24 _ => ?_)
        refine z_iconst X (v := (4 : Int32)) dX8_asker_92 (by decide) ?_
        refine z_aload_n X (q := 0) dX8_asker_93 rfl rfl ?_
        refine z_geti X hK (N := 46) (ci := 8) (k := 11) rfl (by decide) inlX8 (by decide) hf_X8_74 rfl spM_X8 rfl dX8_asker_94 (fun o25 _ => ?_)
        refine z_imul X dX8_asker_97 ?_
        refine z_iconst X (v := (3 : Int32)) dX8_asker_98 (by decide) ?_
        refine z_iadd X dX8_asker_99 ?_
        refine z_iconst X (v := (0 : Int32)) dX8_asker_100 (by decide) ?_
        refine z_iast X hK dX8_asker_101 (fun o26 j27 st28 _ _ => ?_)
        refine z_aload_n X (q := 0) dX8_asker_102 rfl rfl ?_
        refine z_dup X dX8_asker_103 rfl ?_
        refine z_geti X hK (N := 46) (ci := 8) (k := 11) rfl (by decide) inlX8 (by decide) hf_X8_74 rfl spM_X8 rfl dX8_asker_104 (fun o29 _ => ?_)
        refine z_iconst X (v := (1 : Int32)) dX8_asker_107 (by decide) ?_
        refine z_iadd X dX8_asker_108 ?_
        refine z_puti X hK (N := 46) (ci := 8) (k := 11) rfl (by decide) inlX8 tyX8 tyX8_ok nmX8 (by decide) hf_X8_74 rfl rfl spM_X8 rfl (by decide +kernel) dX8_asker_109 (fun o30 st31 _ => ?_)
        refine z_aload_n X (q := 0) dX8_asker_112 rfl rfl ?_
        refine z_geti X hK (N := 46) (ci := 8) (k := 11) rfl (by decide) inlX8 (by decide) hf_X8_74 rfl spM_X8 rfl dX8_asker_113 (fun o32 _ => ?_)
        refine z_iconst X (v := (1 : Int32)) dX8_asker_116 (by decide) ?_
        refine z_isub X dX8_asker_117 ?_
        subst hQ; exact z_iret X hlocks hr dX8_asker_118
      · refine z_bipush X (v := (-4 : Int32)) dX8_asker_35 (by decide) ?_
        subst hQ; exact z_iret X hlocks hr dX8_asker_37
    · refine z_bipush X (v := (-2 : Int32)) dX8_asker_24 (by decide) ?_
      subst hQ; exact z_iret X hlocks hr dX8_asker_26
theorem zw_798 : Cond.constantLong RX8 352 (3) ∈ wsL_law := zr_25 _ (by decide +kernel)
theorem hc_X8_352 : Cond.constantLong RX8 352 (3) ∈ wsL_law := zw_798
abbrev rmX8_isSheet : Room := { frames := 2, cells := 0, slots := 0, locals := 65 }
def fX8_isSheet (a0 : Int32) (st : zS) : Option (Int32 × zS) :=
  (fX8_in (a0.toInt64) (0 : Int64) (3 : Int64) st).bind fun q1 => if q1.1 = 0 ∨ q1.1 = 1 then some (q1.1, q1.2) else none
set_option maxRecDepth 100000 in
set_option maxHeartbeats 4000000 in
theorem kX8_isSheet (l : Launch) (Z : zZ) (b : Nat) (x : Option Nat) (a0 : Int32) (st : zS) : zC l Z spM b x yX8_isSheet (.code yX8_isSheet cX8_isSheet 1 (some .boolean)) (rmX8_isSheet) rI [vI a0] st (fX8_isSheet a0 st) := by
  refine z_start (own := RX8) rfl (by decide +kernel) (Nat.le_of_ble_eq_true rfl) rfl (fun p e s m args below meth c res Q A X hK hr hlocks hQ => ?_)
  rw [fX8_isSheet]
  refine z_iload_n X (q := 0) dX8_isSheet_0 rfl rfl ?_
  refine z_i2l X dX8_isSheet_1 ?_
  refine z_lconst X (v := (0 : Int64)) dX8_isSheet_2 (by decide) ?_
  refine z_ldc2 X (v := (3 : Int64)) (hc_X8_352) dX8_isSheet_3 ?_
  refine z_callS X hK (As := [vL (a0.toInt64), vL (0 : Int64), vL (3 : Int64)]) (kX8_in l Z  b x _ _ _ _) hk_X8_77 ⟨rfl, rfl⟩ hd_X8_in.2 ⟨Nat.le_of_ble_eq_true rfl, Nat.le_of_ble_eq_true rfl⟩ ⟨Nat.le_of_ble_eq_true rfl, Nat.le_of_ble_eq_true rfl⟩ rfl rfl (Nat.le_of_ble_eq_true rfl) dX8_isSheet_6 (fun q1 => ?_)
  subst hQ; exact z_zret X hlocks hr dX8_isSheet_9
theorem zw_799 : Cond.methodLink RX8 390 yX8_isSheet ∈ wsL_law := zr_38 _ (by decide +kernel)
theorem zw_800 : Cond.static yX8_isSheet ∈ wsL_law := zr_38 _ (by decide +kernel)
theorem zw_801 : Cond.code yX8_isSheet cX8_isSheet 1 (some .boolean) ∈ wsL_law := zr_38 _ (by decide +kernel)
theorem hk_X8_390 : ∀ w ∈ ([Cond.methodLink RX8 390 yX8_isSheet, Cond.static yX8_isSheet, Cond.initialized RX8, Cond.code yX8_isSheet cX8_isSheet 1 (some .boolean)] : List Cond), w ∈ wsL_law := List.forall_mem_cons.mpr ⟨zw_799, List.forall_mem_cons.mpr ⟨zw_800, List.forall_mem_cons.mpr ⟨zw_525, List.forall_mem_cons.mpr ⟨zw_801, fun _ h => absurd h List.not_mem_nil⟩⟩⟩⟩
theorem zw_802 : Cond.methodLink RX8 450 yX8_asker ∈ wsL_law := zr_51 _ (by decide +kernel)
theorem zw_803 : Cond.instanceMethod yX8_asker ∈ wsL_law := zr_20 _ (by decide +kernel)
theorem zw_804 : Cond.selects RX8 yX8_asker yX8_asker ∈ wsL_law := zr_20 _ (by decide +kernel)
theorem zw_805 : Cond.code yX8_asker cX8_asker 3 (some .int) ∈ wsL_law := zr_20 _ (by decide +kernel)
theorem hk_X8_450 : ∀ w ∈ ([Cond.methodLink RX8 450 yX8_asker, Cond.instanceMethod yX8_asker, Cond.selects RX8 yX8_asker yX8_asker, Cond.initialized RX8, Cond.code yX8_asker cX8_asker 3 (some .int)] : List Cond), w ∈ wsL_law := List.forall_mem_cons.mpr ⟨zw_802, List.forall_mem_cons.mpr ⟨zw_803, List.forall_mem_cons.mpr ⟨zw_804, List.forall_mem_cons.mpr ⟨zw_525, List.forall_mem_cons.mpr ⟨zw_805, fun _ h => absurd h List.not_mem_nil⟩⟩⟩⟩⟩
theorem hd_X8_asker : yX8_asker.cls = RX8 ∧ yX8_asker.cls ≠ "java/lang/invoke/MethodHandle" ∧ yX8_asker.cls ≠ "java/lang/invoke/VarHandle" ∧ (parseMethodDescriptor yX8_asker.desc).map (fun d => d.parameters.length) = some 2 := by decide +kernel
theorem hd_X8_isSheet : yX8_isSheet.cls = RX8 ∧ yX8_isSheet.cls ≠ "java/lang/invoke/MethodHandle" ∧ yX8_isSheet.cls ≠ "java/lang/invoke/VarHandle" ∧ (parseMethodDescriptor yX8_isSheet.desc).map (fun d => d.parameters.length) = some 1 := by decide +kernel
theorem zw_806 : Cond.constantLong RX8 448 (2) ∈ wsL_law := zr_46 _ (by decide +kernel)
theorem hc_X8_448 : Cond.constantLong RX8 448 (2) ∈ wsL_law := zw_806
theorem zw_807 : Cond.fieldLink RX8 50 "WellGivesOtherModel" "isThere" "[Z" ∈ wsL_law := zr_6 _ (by decide +kernel)
theorem hf_X8_50 : Cond.fieldLink RX8 50 "WellGivesOtherModel" "isThere" "[Z" ∈ wsL_law := zw_807
theorem zw_808 : Cond.fieldLink RX8 54 "WellGivesOtherModel" "sorts" "[I" ∈ wsL_law := zr_6 _ (by decide +kernel)
theorem hf_X8_54 : Cond.fieldLink RX8 54 "WellGivesOtherModel" "sorts" "[I" ∈ wsL_law := zw_808
abbrev rmX8_askers : Room := { frames := 3, cells := 0, slots := 0, locals := 87 }
def fX8_askers_j149 (this : Nat) (k75 : Int32 → Int32 → Int32 → Int32 → Int32 → zS → Option (Int32 × zS)) (y1 : Int32) (y3 : Int32) (y4 : Int32) (y6 : Int32) (s0 : Int32) (s1 : Int32) (st : zS) : Option (Int32 × zS) :=
  zlet ((s0 + s1)) fun v1 => k75 y1 y3 y4 v1 (y6 + (1 : Int32)) st
def fX8_askers_L75 (this : Nat) : Nat → Int32 → Int32 → Int32 → Int32 → Int32 → zS → Option (Int32 × zS)
  | 0, _, _, _, _, _, _ => none
  | n + 1, y1, y3, y4, y5, y6, st => if y4 ≤ y6 then (some (y5, st)) else (if y3 < 0 then (some ((-12 : Int32), st)) else ((zok spM st (some this) 8).bind fun o2 => (zok spM st (st.2.2.2 o2 44) 9).bind fun o3 => (zix spM o3 y1).bind fun j4 => if y3 ≤ (((st.2.1 o3 j4) - ((2 : Int32) * y6)) - (2 : Int32)) then (zlet (((((40 : Int32) * y1) + y3) + ((2 : Int32) * y6))) fun v5 => (zok spM st (some this) 8).bind fun o6 => (zok spM st (st.2.2.2 o6 45) 9).bind fun o7 => (zix spM o7 v5).bind fun j8 => (zok spM st (some this) 8).bind fun o9 => (zok spM st (st.2.2.2 o9 45) 9).bind fun o10 => (zix spM o10 (v5 + (1 : Int32))).bind fun j11 => (zok spM st (some this) 8).bind fun o13 => (fX8_asker o13 (st.2.1 o7 j8) (st.2.1 o10 j11) st).bind fun q12 => if q12.1 < 0 then (fX8_askers_j149 this (fX8_askers_L75 this n) y1 y3 y4 y6 y5 (0 : Int32) q12.2) else (fX8_askers_j149 this (fX8_askers_L75 this n) y1 y3 y4 y6 y5 (1 : Int32) q12.2)) else (some ((-12 : Int32), st))))
def fX8_askers_j57 (this : Nat) (y1 : Int32) (y3 : Int32) (y4 : Int32) (st : zS) : Option (Int32 × zS) :=
  (zok spM st (some this) 8).bind fun o14 => (zok spM st (st.2.2.2 o14 42) 10).bind fun o15 => (zix spM o15 y1).bind fun j16 => if (st.2.1 o15 j16) = 0 then (some ((-11 : Int32), st)) else (fX8_askers_L75 this zF y1 y3 y4 (0 : Int32) (0 : Int32) st)
def fX8_askers (this : Nat) (a1 : Int32) (a2 : Int32) (a3 : Int32) (a4 : Int32) (st : zS) : Option (Int32 × zS) :=
  (fX8_isSheet a1 st).bind fun q17 => if q17.1 = 0 then (some ((-2 : Int32), q17.2)) else ((fX8_in (a2.toInt64) (0 : Int64) (2 : Int64) q17.2).bind fun q18 => if q18.1 = 0 then (some ((-2 : Int32), q18.2)) else ((fX8_in (a4.toInt64) (0 : Int64) (5 : Int64) q18.2).bind fun q19 => if q19.1 = 0 then (some ((-2 : Int32), q19.2)) else ((zok spM q19.2 (some this) 8).bind fun o20 => (zok spM q19.2 (q19.2.2.2.2 o20 42) 10).bind fun o21 => (zix spM o21 a1).bind fun j22 => if (q19.2.2.1 o21 j22) = 0 then (fX8_askers_j57 this a1 a3 a4 q19.2) else ((zok spM q19.2 (some this) 8).bind fun o23 => (zok spM q19.2 (q19.2.2.2.2 o23 43) 9).bind fun o24 => (zix spM o24 a1).bind fun j25 => if (q19.2.2.1 o24 j25) = a2 then (fX8_askers_j57 this a1 a3 a4 q19.2) else (some ((-13 : Int32), q19.2))))))
set_option maxRecDepth 100000 in
set_option maxHeartbeats 4000000 in
theorem kX8_askers (l : Launch) (Z : zZ) (b : Nat) (x : Option Nat) (this : Nat) (a1 : Int32) (a2 : Int32) (a3 : Int32) (a4 : Int32) (st : zS) : zC l Z spM b x yX8_askers (.code yX8_askers cX8_askers 8 (some .int)) (rmX8_askers) rI [vP (some this), vI a1, vI a2, vI a3, vI a4] st (fX8_askers this a1 a2 a3 a4 st) := by
  refine z_start (own := RX8) rfl (by decide +kernel) (Nat.le_of_ble_eq_true rfl) rfl (fun p e s m args below meth c res Q A X hK hr hlocks hQ => ?_)
  have J75 : ∀ (n75 : Nat) (y1 : Int32) (y3 : Int32) (y4 : Int32) (y5 : Int32) (y6 : Int32) (st : zS), zs p l e (rmX8_askers) s m args below meth c Q Z spM b x A 8 0 0 res (fX8_askers_L75 this n75 y1 y3 y4 y5 y6 st) 75 [(0, vP (some this)), (1, vI y1), (3, vI y3), (4, vI y4), (5, vI y5), (6, vI y6)] [] st := by
    intro n75
    induction n75 with
    | zero => intros; exact z_none
    | succ n75 ih75 =>
      have J149 : ∀ (y1 : Int32) (y3 : Int32) (y4 : Int32) (y6 : Int32) (s0 : Int32) (s1 : Int32) (st : zS), zs p l e (rmX8_askers) s m args below meth c Q Z spM b x A 8 0 0 res (fX8_askers_j149 this (fX8_askers_L75 this n75) y1 y3 y4 y6 s0 s1 st) 149 [(0, vP (some this)), (1, vI y1), (3, vI y3), (4, vI y4), (6, vI y6)] [vI s1, vI s0] st := by
        intro y1 y3 y4 y6 s0 s1 st
        rw [fX8_askers_j149]
        refine z_iadd X dX8_askers_149 ?_
        refine z_name (fun v1 => ?_)
        refine z_istore X dX8_askers_150 (Nat.le_of_ble_eq_true rfl) rfl ?_
        refine z_iinc X (q := 5) (y := y6 + (1 : Int32)) dX8_askers_152 rfl rfl (Nat.le_of_ble_eq_true rfl) rfl ?_
        refine z_goto X (tgt := 75) dX8_askers_155 (by decide) ?_
        exact z_sub [2, 3, 4, 5, 1, 0] (ih75 _ _ _ _ _ _) rfl
      intro y1 y3 y4 y5 y6 st
      rw [fX8_askers_L75]
      refine z_iload X (q := 5) dX8_askers_75 rfl ?_
      refine z_iload X (q := 3) dX8_askers_77 rfl ?_
      refine z_icmp_ge X (tgt := 158) dX8_askers_79 (by decide) (fun _ => ?_) (fun _ => ?_)
      · refine z_iload X (q := 4) dX8_askers_158 rfl ?_
        subst hQ; exact z_iret X hlocks hr dX8_askers_160
      · refine z_iload_n X (q := 2) dX8_askers_82 rfl rfl ?_
        refine z_if_lt X (tgt := 103) dX8_askers_83 (by decide) (fun _ => ?_) (fun _ => ?_)
        · refine z_bipush X (v := (-12 : Int32)) dX8_askers_103 (by decide) ?_
          subst hQ; exact z_iret X hlocks hr dX8_askers_105
        · refine z_iload_n X (q := 2) dX8_askers_86 rfl rfl ?_
          refine z_aload_n X (q := 0) dX8_askers_87 rfl rfl ?_
          refine z_getr X hK (N := 46) (ci := 8) (k := 44) rfl (by decide) inlX8 (by decide) hf_X8_57 rfl spM_X8 rfl dX8_askers_88 (fun o2 _ => ?_)
          refine z_iload_n X (q := 1) dX8_askers_91 rfl rfl ?_
          refine z_iald X hK dX8_askers_92 (fun o3 j4 _ _ => ?_)
          refine z_iconst X (v := (2 : Int32)) dX8_askers_93 (by decide) ?_
          refine z_iload X (q := 5) dX8_askers_94 rfl ?_
          refine z_imul X dX8_askers_96 ?_
          refine z_isub X dX8_askers_97 ?_
          refine z_iconst X (v := (2 : Int32)) dX8_askers_98 (by decide) ?_
          refine z_isub X dX8_askers_99 ?_
          refine z_icmp_le X (tgt := 106) dX8_askers_100 (by decide) (fun _ => ?_) (fun _ => ?_)
          · refine z_bipush X (v := (40 : Int32)) dX8_askers_106 (by decide) ?_
            refine z_iload_n X (q := 1) dX8_askers_108 rfl rfl ?_
            refine z_imul X dX8_askers_109 ?_
            refine z_iload_n X (q := 2) dX8_askers_110 rfl rfl ?_
            refine z_iadd X dX8_askers_111 ?_
            refine z_iconst X (v := (2 : Int32)) dX8_askers_112 (by decide) ?_
            refine z_iload X (q := 5) dX8_askers_113 rfl ?_
            refine z_imul X dX8_askers_115 ?_
            refine z_iadd X dX8_askers_116 ?_
            refine z_name (fun v5 => ?_)
            refine z_istore X dX8_askers_117 (Nat.le_of_ble_eq_true rfl) rfl ?_
            refine z_iload X (q := 5) dX8_askers_119 rfl ?_
            refine z_aload_n X (q := 1) dX8_askers_121 rfl rfl ?_
            refine z_aload_n X (q := 1) dX8_askers_122 rfl rfl ?_
            refine z_getr X hK (N := 46) (ci := 8) (k := 45) rfl (by decide) inlX8 (by decide) hf_X8_60 rfl spM_X8 rfl dX8_askers_123 (fun o6 _ => ?_)
            refine z_iload X (q := 0) dX8_askers_126 rfl ?_
            refine z_iald X hK dX8_askers_128 (fun o7 j8 _ _ => ?_)
            refine z_aload_n X (q := 1) dX8_askers_129 rfl rfl ?_
            refine z_getr X hK (N := 46) (ci := 8) (k := 45) rfl (by decide) inlX8 (by decide) hf_X8_60 rfl spM_X8 rfl dX8_askers_130 (fun o9 _ => ?_)
            refine z_iload X (q := 0) dX8_askers_133 rfl ?_
            refine z_iconst X (v := (1 : Int32)) dX8_askers_135 (by decide) ?_
            refine z_iadd X dX8_askers_136 ?_
            refine z_iald X hK dX8_askers_137 (fun o10 j11 _ _ => ?_)
            refine z_callV X hK (As := [vI (st.2.1 o7 j8), vI (st.2.1 o10 j11)]) (ci := 8) rfl (by decide) (fun o => (kX8_asker l Z  b x o _ _ _)) hk_X8_450 ⟨rfl, rfl⟩ hd_X8_asker ⟨Nat.le_of_ble_eq_true rfl, Nat.le_of_ble_eq_true rfl⟩ ⟨Nat.le_of_ble_eq_true rfl, Nat.le_of_ble_eq_true rfl⟩ rfl rfl (Nat.le_of_ble_eq_true rfl) dX8_askers_138 (fun _ q12 _ => ?_)
            refine z_if_lt X (tgt := 148) dX8_askers_141 (by decide) (fun _ => ?_) (fun _ => ?_)
            · refine z_iconst X (v := (0 : Int32)) dX8_askers_148 (by decide) ?_
              exact z_sub [1, 2, 3, 4, 6] (J149 _ _ _ _ _ _ _) rfl
            · refine z_iconst X (v := (1 : Int32)) dX8_askers_144 (by decide) ?_
              refine z_goto X (tgt := 149) dX8_askers_145 (by decide) ?_
              exact z_sub [1, 2, 3, 4, 6] (J149 _ _ _ _ _ _ _) rfl
          · refine z_bipush X (v := (-12 : Int32)) dX8_askers_103 (by decide) ?_
            subst hQ; exact z_iret X hlocks hr dX8_askers_105
  have J57 : ∀ (y1 : Int32) (y3 : Int32) (y4 : Int32) (st : zS), zs p l e (rmX8_askers) s m args below meth c Q Z spM b x A 8 0 0 res (fX8_askers_j57 this y1 y3 y4 st) 57 [(0, vP (some this)), (1, vI y1), (3, vI y3), (4, vI y4)] [] st := by
    intro y1 y3 y4 st
    rw [fX8_askers_j57]
    refine z_aload_n X (q := 0) dX8_askers_57 rfl rfl ?_
    refine z_getr X hK (N := 46) (ci := 8) (k := 42) rfl (by decide) inlX8 (by decide) hf_X8_50 rfl spM_X8 rfl dX8_askers_58 (fun o14 _ => ?_)
    refine z_iload_n X (q := 1) dX8_askers_61 rfl rfl ?_
    refine z_zald X hK dX8_askers_62 (fun o15 j16 _ _ => ?_)
    refine z_if_ne X (tgt := 69) dX8_askers_63 (by decide) (fun _ => ?_) (fun _ => ?_)
    · refine z_iconst X (v := (0 : Int32)) dX8_askers_69 (by decide) ?_
      refine z_istore X dX8_askers_70 (Nat.le_of_ble_eq_true rfl) rfl ?_
      refine z_iconst X (v := (0 : Int32)) dX8_askers_72 (by decide) ?_
      refine z_istore X dX8_askers_73 (Nat.le_of_ble_eq_true rfl) rfl ?_
      exact z_sub [2, 3, 4, 5, 1, 0] (J75 _ _ _ _ _ _ _) rfl
    · refine z_bipush X (v := (-11 : Int32)) dX8_askers_66 (by decide) ?_
      subst hQ; exact z_iret X hlocks hr dX8_askers_68
  rw [fX8_askers]
  refine z_iload_n X (q := 1) dX8_askers_0 rfl rfl ?_
  refine z_callS X hK (As := [vI a1]) (kX8_isSheet l Z  b x _ _) hk_X8_390 ⟨rfl, rfl⟩ hd_X8_isSheet.2 ⟨Nat.le_of_ble_eq_true rfl, Nat.le_of_ble_eq_true rfl⟩ ⟨Nat.le_of_ble_eq_true rfl, Nat.le_of_ble_eq_true rfl⟩ rfl rfl (Nat.le_of_ble_eq_true rfl) dX8_askers_1 (fun q17 => ?_)
  refine z_if_eq X (tgt := 32) dX8_askers_4 (by decide) (fun _ => ?_) (fun _ => ?_)
  · refine z_bipush X (v := (-2 : Int32)) dX8_askers_32 (by decide) ?_
    subst hQ; exact z_iret X hlocks hr dX8_askers_34
  · refine z_iload_n X (q := 2) dX8_askers_7 rfl rfl ?_
    refine z_i2l X dX8_askers_8 ?_
    refine z_lconst X (v := (0 : Int64)) dX8_askers_9 (by decide) ?_
    refine z_ldc2 X (v := (2 : Int64)) (hc_X8_448) dX8_askers_10 ?_
    refine z_callS X hK (As := [vL (a2.toInt64), vL (0 : Int64), vL (2 : Int64)]) (kX8_in l Z  b x _ _ _ _) hk_X8_77 ⟨rfl, rfl⟩ hd_X8_in.2 ⟨Nat.le_of_ble_eq_true rfl, Nat.le_of_ble_eq_true rfl⟩ ⟨Nat.le_of_ble_eq_true rfl, Nat.le_of_ble_eq_true rfl⟩ rfl rfl (Nat.le_of_ble_eq_true rfl) dX8_askers_13 (fun q18 => ?_)
    refine z_if_eq X (tgt := 32) dX8_askers_16 (by decide) (fun _ => ?_) (fun _ => ?_)
    · refine z_bipush X (v := (-2 : Int32)) dX8_askers_32 (by decide) ?_
      subst hQ; exact z_iret X hlocks hr dX8_askers_34
    · refine z_iload X (q := 4) dX8_askers_19 rfl ?_
      refine z_i2l X dX8_askers_21 ?_
      refine z_lconst X (v := (0 : Int64)) dX8_askers_22 (by decide) ?_
      refine z_ldc2 X (v := (5 : Int64)) (hc_X8_109) dX8_askers_23 ?_
      refine z_callS X hK (As := [vL (a4.toInt64), vL (0 : Int64), vL (5 : Int64)]) (kX8_in l Z  b x _ _ _ _) hk_X8_77 ⟨rfl, rfl⟩ hd_X8_in.2 ⟨Nat.le_of_ble_eq_true rfl, Nat.le_of_ble_eq_true rfl⟩ ⟨Nat.le_of_ble_eq_true rfl, Nat.le_of_ble_eq_true rfl⟩ rfl rfl (Nat.le_of_ble_eq_true rfl) dX8_askers_26 (fun q19 => ?_)
      refine z_if_ne X (tgt := 35) dX8_askers_29 (by decide) (fun _ => ?_) (fun _ => ?_)
      · refine z_aload_n X (q := 0) dX8_askers_35 rfl rfl ?_
        refine z_getr X hK (N := 46) (ci := 8) (k := 42) rfl (by decide) inlX8 (by decide) hf_X8_50 rfl spM_X8 rfl dX8_askers_36 (fun o20 _ => ?_)
        refine z_iload_n X (q := 1) dX8_askers_39 rfl rfl ?_
        refine z_zald X hK dX8_askers_40 (fun o21 j22 _ _ => ?_)
        refine z_if_eq X (tgt := 57) dX8_askers_41 (by decide) (fun _ => ?_) (fun _ => ?_)
        · exact z_sub [0, 1, 3, 4] (J57 _ _ _ _) rfl
        · refine z_aload_n X (q := 0) dX8_askers_44 rfl rfl ?_
          refine z_getr X hK (N := 46) (ci := 8) (k := 43) rfl (by decide) inlX8 (by decide) hf_X8_54 rfl spM_X8 rfl dX8_askers_45 (fun o23 _ => ?_)
          refine z_iload_n X (q := 1) dX8_askers_48 rfl rfl ?_
          refine z_iald X hK dX8_askers_49 (fun o24 j25 _ _ => ?_)
          refine z_iload_n X (q := 2) dX8_askers_50 rfl rfl ?_
          refine z_icmp_eq X (tgt := 57) dX8_askers_51 (by decide) (fun _ => ?_) (fun _ => ?_)
          · exact z_sub [0, 1, 3, 4] (J57 _ _ _ _) rfl
          · refine z_bipush X (v := (-13 : Int32)) dX8_askers_54 (by decide) ?_
            subst hQ; exact z_iret X hlocks hr dX8_askers_56
      · refine z_bipush X (v := (-2 : Int32)) dX8_askers_32 (by decide) ?_
        subst hQ; exact z_iret X hlocks hr dX8_askers_34
abbrev rmX8_asks : Room := { frames := 45, cells := 0, slots := 0, locals := 1024 }
def fX8_asks (this : Nat) (a1 : Int32) (a2 : Int32) (a3 : Int32) (st : zS) : Option (Int32 × zS) :=
  (zok spM st (some this) 8).bind fun o12 => (fX8_isOne o12 a1 st).bind fun q1 => if q1.1 = 0 then (some ((-2 : Int32), q1.2)) else ((fX8_in (a2.toInt64) (1 : Int64) (4095 : Int64) q1.2).bind fun q2 => if q2.1 = 0 then (some ((-2 : Int32), q2.2)) else ((fX8_in (a3.toInt64) (0 : Int64) (3 : Int64) q2.2).bind fun q3 => if q3.1 = 0 then (some ((-2 : Int32), q3.2)) else (if a3 = 0 then ((zok spM q3.2 (some this) 8).bind fun o11 => (fX8_openTo o11 a1 a2 q3.2).bind fun q10 => some (q10.1, q10.2)) else (if a3 = (1 : Int32) then ((zok spM q3.2 (some this) 8).bind fun o9 => (fX8_given o9 a1 a2 q3.2).bind fun q8 => some (q8.1, q8.2)) else (if a3 = (2 : Int32) then ((zok spM q3.2 (some this) 8).bind fun o7 => (fX8_shutsBy o7 a1 a2 q3.2).bind fun q6 => some (q6.1, q6.2)) else ((zok spM q3.2 (some this) 8).bind fun o5 => (fX8_costsOf o5 a1 a2 q3.2).bind fun q4 => some (q4.1, q4.2)))))))
set_option maxRecDepth 100000 in
set_option maxHeartbeats 4000000 in
theorem kX8_asks (l : Launch) (Z : zZ) (b : Nat) (x : Option Nat) (this : Nat) (a1 : Int32) (a2 : Int32) (a3 : Int32) (st : zS) : zC l Z spM b x yX8_asks (.code yX8_asks cX8_asks 4 (some .int)) (rmX8_asks) rI [vP (some this), vI a1, vI a2, vI a3] st (fX8_asks this a1 a2 a3 st) := by
  refine z_start (own := RX8) rfl (by decide +kernel) (Nat.le_of_ble_eq_true rfl) rfl (fun p e s m args below meth c res Q A X hK hr hlocks hQ => ?_)
  rw [fX8_asks]
  refine z_aload_n X (q := 0) dX8_asks_0 rfl rfl ?_
  refine z_iload_n X (q := 1) dX8_asks_1 rfl rfl ?_
  refine z_callV X hK (As := [vI a1]) (ci := 8) rfl (by decide) (fun o => (kX8_isOne l Z  b x o _ _)) hk_X8_89 ⟨rfl, rfl⟩ hd_X8_isOne ⟨Nat.le_of_ble_eq_true rfl, Nat.le_of_ble_eq_true rfl⟩ ⟨Nat.le_of_ble_eq_true rfl, Nat.le_of_ble_eq_true rfl⟩ rfl rfl (Nat.le_of_ble_eq_true rfl) dX8_asks_2 (fun _ q1 _ => ?_)
  refine z_if_eq X (tgt := 32) dX8_asks_5 (by decide) (fun _ => ?_) (fun _ => ?_)
  · refine z_bipush X (v := (-2 : Int32)) dX8_asks_32 (by decide) ?_
    subst hQ; exact z_iret X hlocks hr dX8_asks_34
  · refine z_iload_n X (q := 2) dX8_asks_8 rfl rfl ?_
    refine z_i2l X dX8_asks_9 ?_
    refine z_lconst X (v := (1 : Int64)) dX8_asks_10 (by decide) ?_
    refine z_ldc2 X (v := (4095 : Int64)) (hc_X8_350) dX8_asks_11 ?_
    refine z_callS X hK (As := [vL (a2.toInt64), vL (1 : Int64), vL (4095 : Int64)]) (kX8_in l Z  b x _ _ _ _) hk_X8_77 ⟨rfl, rfl⟩ hd_X8_in.2 ⟨Nat.le_of_ble_eq_true rfl, Nat.le_of_ble_eq_true rfl⟩ ⟨Nat.le_of_ble_eq_true rfl, Nat.le_of_ble_eq_true rfl⟩ rfl rfl (Nat.le_of_ble_eq_true rfl) dX8_asks_14 (fun q2 => ?_)
    refine z_if_eq X (tgt := 32) dX8_asks_17 (by decide) (fun _ => ?_) (fun _ => ?_)
    · refine z_bipush X (v := (-2 : Int32)) dX8_asks_32 (by decide) ?_
      subst hQ; exact z_iret X hlocks hr dX8_asks_34
    · refine z_iload_n X (q := 3) dX8_asks_20 rfl rfl ?_
      refine z_i2l X dX8_asks_21 ?_
      refine z_lconst X (v := (0 : Int64)) dX8_asks_22 (by decide) ?_
      refine z_ldc2 X (v := (3 : Int64)) (hc_X8_352) dX8_asks_23 ?_
      refine z_callS X hK (As := [vL (a3.toInt64), vL (0 : Int64), vL (3 : Int64)]) (kX8_in l Z  b x _ _ _ _) hk_X8_77 ⟨rfl, rfl⟩ hd_X8_in.2 ⟨Nat.le_of_ble_eq_true rfl, Nat.le_of_ble_eq_true rfl⟩ ⟨Nat.le_of_ble_eq_true rfl, Nat.le_of_ble_eq_true rfl⟩ rfl rfl (Nat.le_of_ble_eq_true rfl) dX8_asks_26 (fun q3 => ?_)
      refine z_if_ne X (tgt := 35) dX8_asks_29 (by decide) (fun _ => ?_) (fun _ => ?_)
      · refine z_iload_n X (q := 3) dX8_asks_35 rfl rfl ?_
        refine z_if_ne X (tgt := 48) dX8_asks_36 (by decide) (fun _ => ?_) (fun _ => ?_)
        · refine z_iload_n X (q := 3) dX8_asks_48 rfl rfl ?_
          refine z_iconst X (v := (1 : Int32)) dX8_asks_49 (by decide) ?_
          refine z_icmp_ne X (tgt := 62) dX8_asks_50 (by decide) (fun _ => ?_) (fun _ => ?_)
          · refine z_iload_n X (q := 3) dX8_asks_62 rfl rfl ?_
            refine z_iconst X (v := (2 : Int32)) dX8_asks_63 (by decide) ?_
            refine z_icmp_ne X (tgt := 76) dX8_asks_64 (by decide) (fun _ => ?_) (fun _ => ?_)
            · refine z_aload_n X (q := 0) dX8_asks_76 rfl rfl ?_
              refine z_iload_n X (q := 1) dX8_asks_77 rfl rfl ?_
              refine z_iload_n X (q := 2) dX8_asks_78 rfl rfl ?_
              refine z_callV X hK (As := [vI a1, vI a2]) (ci := 8) rfl (by decide) (fun o => (kX8_costsOf l Z  b x o _ _ _)) hk_X8_360 ⟨rfl, rfl⟩ hd_X8_costsOf ⟨Nat.le_of_ble_eq_true rfl, Nat.le_of_ble_eq_true rfl⟩ ⟨Nat.le_of_ble_eq_true rfl, Nat.le_of_ble_eq_true rfl⟩ rfl rfl (Nat.le_of_ble_eq_true rfl) dX8_asks_79 (fun _ q4 _ => ?_)
              subst hQ; exact z_iret X hlocks hr dX8_asks_82
            · refine z_aload_n X (q := 0) dX8_asks_67 rfl rfl ?_
              refine z_iload_n X (q := 1) dX8_asks_68 rfl rfl ?_
              refine z_iload_n X (q := 2) dX8_asks_69 rfl rfl ?_
              refine z_callV X hK (As := [vI a1, vI a2]) (ci := 8) rfl (by decide) (fun o => (kX8_shutsBy l Z  b x o _ _ _)) hk_X8_357 ⟨rfl, rfl⟩ hd_X8_shutsBy ⟨Nat.le_of_ble_eq_true rfl, Nat.le_of_ble_eq_true rfl⟩ ⟨Nat.le_of_ble_eq_true rfl, Nat.le_of_ble_eq_true rfl⟩ rfl rfl (Nat.le_of_ble_eq_true rfl) dX8_asks_70 (fun _ q6 _ => ?_)
              refine z_goto X (tgt := 82) dX8_asks_73 (by decide) ?_
              subst hQ; exact z_iret X hlocks hr dX8_asks_82
          · refine z_aload_n X (q := 0) dX8_asks_53 rfl rfl ?_
            refine z_iload_n X (q := 1) dX8_asks_54 rfl rfl ?_
            refine z_iload_n X (q := 2) dX8_asks_55 rfl rfl ?_
            refine z_callV X hK (As := [vI a1, vI a2]) (ci := 8) rfl (by decide) (fun o => (kX8_given l Z  b x o _ _ _)) hk_X8_354 ⟨rfl, rfl⟩ hd_X8_given ⟨Nat.le_of_ble_eq_true rfl, Nat.le_of_ble_eq_true rfl⟩ ⟨Nat.le_of_ble_eq_true rfl, Nat.le_of_ble_eq_true rfl⟩ rfl rfl (Nat.le_of_ble_eq_true rfl) dX8_asks_56 (fun _ q8 _ => ?_)
            refine z_goto X (tgt := 82) dX8_asks_59 (by decide) ?_
            subst hQ; exact z_iret X hlocks hr dX8_asks_82
        · refine z_aload_n X (q := 0) dX8_asks_39 rfl rfl ?_
          refine z_iload_n X (q := 1) dX8_asks_40 rfl rfl ?_
          refine z_iload_n X (q := 2) dX8_asks_41 rfl rfl ?_
          refine z_callV X hK (As := [vI a1, vI a2]) (ci := 8) rfl (by decide) (fun o => (kX8_openTo l Z  b x o _ _ _)) hk_X8_340 ⟨rfl, rfl⟩ hd_X8_openTo ⟨Nat.le_of_ble_eq_true rfl, Nat.le_of_ble_eq_true rfl⟩ ⟨Nat.le_of_ble_eq_true rfl, Nat.le_of_ble_eq_true rfl⟩ rfl rfl (Nat.le_of_ble_eq_true rfl) dX8_asks_42 (fun _ q10 _ => ?_)
          refine z_goto X (tgt := 82) dX8_asks_45 (by decide) ?_
          subst hQ; exact z_iret X hlocks hr dX8_asks_82
      · refine z_bipush X (v := (-2 : Int32)) dX8_asks_32 (by decide) ?_
        subst hQ; exact z_iret X hlocks hr dX8_asks_34
