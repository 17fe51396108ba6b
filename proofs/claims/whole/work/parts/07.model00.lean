theorem zw_516 : Cond.fieldLink RX8 138 "WellGivesOtherModel" "token" "I" ∈ wsL_law := zr_11 _ (by decide +kernel)
theorem hf_X8_138 : Cond.fieldLink RX8 138 "WellGivesOtherModel" "token" "I" ∈ wsL_law := zw_516
theorem zw_517 : Cond.fieldLink RX8 149 "WellGivesOtherModel" "tokenWorth" "J" ∈ wsL_law := zr_12 _ (by decide +kernel)
theorem hf_X8_149 : Cond.fieldLink RX8 149 "WellGivesOtherModel" "tokenWorth" "J" ∈ wsL_law := zw_517
theorem zw_518 : Cond.fieldLink RX8 155 "WellGivesOtherModel" "bad" "Z" ∈ wsL_law := zr_11 _ (by decide +kernel)
theorem hf_X8_155 : Cond.fieldLink RX8 155 "WellGivesOtherModel" "bad" "Z" ∈ wsL_law := zw_518
abbrev rmX8_isSign : Room := { frames := 1, cells := 0, slots := 0, locals := 40 }
def fX8_isSign_j29 (this : Nat) (st : zS) : Option (Int32 × zS) :=
  some ((0 : Int32), st)
def fX8_isSign (this : Nat) (a1 : Int32) (st : zS) : Option (Int32 × zS) :=
  (zok spM st (some this) 8).bind fun o1 => if (st.2.1 o1 26) = 0 then ((zok spM st (some this) 8).bind fun o2 => if (st.2.1 o2 22) = (3 : Int32) then ((zok spM st (some this) 8).bind fun o3 => if (lg_cmp (st.2.2.1 o3) (a1.toInt64)) = 0 then (some ((1 : Int32), st)) else (fX8_isSign_j29 this st)) else (fX8_isSign_j29 this st)) else (fX8_isSign_j29 this st)
set_option maxRecDepth 100000 in
set_option maxHeartbeats 4000000 in
theorem kX8_isSign (l : Launch) (Z : zZ) (b : Nat) (x : Option Nat) (this : Nat) (a1 : Int32) (st : zS) : zC l Z spM b x yX8_isSign (.code yX8_isSign cX8_isSign 2 (some .boolean)) (rmX8_isSign) rI [vP (some this), vI a1] st (fX8_isSign this a1 st) := by
  refine z_start (own := RX8) rfl (by decide +kernel) (Nat.le_of_ble_eq_true rfl) rfl (fun p e s m args below meth c res Q A X hK hr hlocks hQ => ?_)
  have J29 : ∀ (st : zS), zs p l e (rmX8_isSign) s m args below meth c Q Z spM b x A 2 0 0 res (fX8_isSign_j29 this st) 29 [] [] st := by
    intro  st
    rw [fX8_isSign_j29]
    refine z_iconst X (v := (0 : Int32)) dX8_isSign_29 (by decide) ?_
    subst hQ; exact z_zretc X hlocks hr (by decide) dX8_isSign_30
  rw [fX8_isSign]
  refine z_aload_n X (q := 0) dX8_isSign_0 rfl rfl ?_
  refine z_geti X hK (N := 46) (ci := 8) (k := 26) rfl (by decide) inlX8 (by decide) hf_X8_155 rfl spM_X8 rfl dX8_isSign_1 (fun o1 _ => ?_)
  refine z_if_ne X (tgt := 29) dX8_isSign_4 (by decide) (fun _ => ?_) (fun _ => ?_)
  · exact z_sub [] (J29  _) rfl
  · refine z_aload_n X (q := 0) dX8_isSign_7 rfl rfl ?_
    refine z_geti X hK (N := 46) (ci := 8) (k := 22) rfl (by decide) inlX8 (by decide) hf_X8_138 rfl spM_X8 rfl dX8_isSign_8 (fun o2 _ => ?_)
    refine z_iconst X (v := (3 : Int32)) dX8_isSign_11 (by decide) ?_
    refine z_icmp_ne X (tgt := 29) dX8_isSign_12 (by decide) (fun _ => ?_) (fun _ => ?_)
    · exact z_sub [] (J29  _) rfl
    · refine z_aload_n X (q := 0) dX8_isSign_15 rfl rfl ?_
      refine z_getl X hK (N := 46) (ci := 8) (k := 24) rfl (by decide) inlX8 (by decide) hf_X8_149 rfl spM_X8 rfl dX8_isSign_16 (fun o3 _ => ?_)
      refine z_iload_n X (q := 1) dX8_isSign_19 rfl rfl ?_
      refine z_i2l X dX8_isSign_20 ?_
      refine z_lcmp X dX8_isSign_21 ?_
      refine z_if_ne X (tgt := 29) dX8_isSign_22 (by decide) (fun _ => ?_) (fun _ => ?_)
      · exact z_sub [] (J29  _) rfl
      · refine z_iconst X (v := (1 : Int32)) dX8_isSign_25 (by decide) ?_
        refine z_goto X (tgt := 30) dX8_isSign_26 (by decide) ?_
        subst hQ; exact z_zretc X hlocks hr (by decide) dX8_isSign_30
theorem zw_519 : Cond.fieldLink RX8 123 "WellGivesOtherModel" "size" "I" ∈ wsL_law := zr_11 _ (by decide +kernel)
theorem hf_X8_123 : Cond.fieldLink RX8 123 "WellGivesOtherModel" "size" "I" ∈ wsL_law := zw_519
theorem zw_520 : Cond.fieldLink RX8 126 "WellGivesOtherModel" "from" "I" ∈ wsL_law := zr_11 _ (by decide +kernel)
theorem hf_X8_126 : Cond.fieldLink RX8 126 "WellGivesOtherModel" "from" "I" ∈ wsL_law := zw_520
theorem zw_521 : Cond.fieldLink RX8 13 "WellGivesOtherModel" "texts" "[I" ∈ wsL_law := zr_6 _ (by decide +kernel)
theorem hf_X8_13 : Cond.fieldLink RX8 13 "WellGivesOtherModel" "texts" "[I" ∈ wsL_law := zw_521
abbrev rmX8_byteAt : Room := { frames := 1, cells := 0, slots := 0, locals := 40 }
def fX8_byteAt (this : Nat) (a1 : Int32) (st : zS) : Option (Int32 × zS) :=
  (zok spM st (some this) 8).bind fun o1 => if (st.2.1 o1 20) ≤ a1 then (some ((-1 : Int32), st)) else ((zok spM st (some this) 8).bind fun o2 => (zok spM st (some this) 8).bind fun o3 => (zok spM st (st.2.2.2 o2 1) 9).bind fun o4 => (zix spM o4 ((st.2.1 o3 19) + a1)).bind fun j5 => some ((st.2.1 o4 j5), st))
set_option maxRecDepth 100000 in
set_option maxHeartbeats 4000000 in
theorem kX8_byteAt (l : Launch) (Z : zZ) (b : Nat) (x : Option Nat) (this : Nat) (a1 : Int32) (st : zS) : zC l Z spM b x yX8_byteAt (.code yX8_byteAt cX8_byteAt 2 (some .int)) (rmX8_byteAt) rI [vP (some this), vI a1] st (fX8_byteAt this a1 st) := by
  refine z_start (own := RX8) rfl (by decide +kernel) (Nat.le_of_ble_eq_true rfl) rfl (fun p e s m args below meth c res Q A X hK hr hlocks hQ => ?_)
  rw [fX8_byteAt]
  refine z_iload_n X (q := 1) dX8_byteAt_0 rfl rfl ?_
  refine z_aload_n X (q := 0) dX8_byteAt_1 rfl rfl ?_
  refine z_geti X hK (N := 46) (ci := 8) (k := 20) rfl (by decide) inlX8 (by decide) hf_X8_123 rfl spM_X8 rfl dX8_byteAt_2 (fun o1 _ => ?_)
  refine z_icmp_ge X (tgt := 22) dX8_byteAt_5 (by decide) (fun _ => ?_) (fun _ => ?_)
  · refine z_iconst X (v := (-1 : Int32)) dX8_byteAt_22 (by decide) ?_
    subst hQ; exact z_iret X hlocks hr dX8_byteAt_23
  · refine z_aload_n X (q := 0) dX8_byteAt_8 rfl rfl ?_
    refine z_getr X hK (N := 46) (ci := 8) (k := 1) rfl (by decide) inlX8 (by decide) hf_X8_13 rfl spM_X8 rfl dX8_byteAt_9 (fun o2 _ => ?_)
    refine z_aload_n X (q := 0) dX8_byteAt_12 rfl rfl ?_
    refine z_geti X hK (N := 46) (ci := 8) (k := 19) rfl (by decide) inlX8 (by decide) hf_X8_126 rfl spM_X8 rfl dX8_byteAt_13 (fun o3 _ => ?_)
    refine z_iload_n X (q := 1) dX8_byteAt_16 rfl rfl ?_
    refine z_iadd X dX8_byteAt_17 ?_
    refine z_iald X hK dX8_byteAt_18 (fun o4 j5 _ _ => ?_)
    refine z_goto X (tgt := 23) dX8_byteAt_19 (by decide) ?_
    subst hQ; exact z_iret X hlocks hr dX8_byteAt_23
abbrev rmX8_in : Room := { frames := 1, cells := 0, slots := 0, locals := 40 }
def fX8_in_j17 (st : zS) : Option (Int32 × zS) :=
  some ((0 : Int32), st)
def fX8_in (a0 : Int64) (a2 : Int64) (a4 : Int64) (st : zS) : Option (Int32 × zS) :=
  if (lg_cmp a0 a2) < 0 then (fX8_in_j17 st) else (if 0 < (lg_cmp a0 a4) then (fX8_in_j17 st) else (some ((1 : Int32), st)))
set_option maxRecDepth 100000 in
set_option maxHeartbeats 4000000 in
theorem kX8_in (l : Launch) (Z : zZ) (b : Nat) (x : Option Nat) (a0 : Int64) (a2 : Int64) (a4 : Int64) (st : zS) : zC l Z spM b x yX8_in (.code yX8_in cX8_in 6 (some .boolean)) (rmX8_in) rI [vL a0, vL a2, vL a4] st (fX8_in a0 a2 a4 st) := by
  refine z_start (own := RX8) rfl (by decide +kernel) (Nat.le_of_ble_eq_true rfl) rfl (fun p e s m args below meth c res Q A X hK hr hlocks hQ => ?_)
  have J17 : ∀ (st : zS), zs p l e (rmX8_in) s m args below meth c Q Z spM b x A 6 0 0 res (fX8_in_j17 st) 17 [] [] st := by
    intro  st
    rw [fX8_in_j17]
    refine z_iconst X (v := (0 : Int32)) dX8_in_17 (by decide) ?_
    subst hQ; exact z_zretc X hlocks hr (by decide) dX8_in_18
  rw [fX8_in]
  refine z_lload_n X (q := 0) dX8_in_0 rfl rfl ?_
  refine z_lload_n X (q := 1) dX8_in_1 rfl rfl ?_
  refine z_lcmp X dX8_in_2 ?_
  refine z_if_lt X (tgt := 17) dX8_in_3 (by decide) (fun _ => ?_) (fun _ => ?_)
  · exact z_sub [] (J17  _) rfl
  · refine z_lload_n X (q := 0) dX8_in_6 rfl rfl ?_
    refine z_lload X (q := 2) dX8_in_7 rfl ?_
    refine z_lcmp X dX8_in_9 ?_
    refine z_if_gt X (tgt := 17) dX8_in_10 (by decide) (fun _ => ?_) (fun _ => ?_)
    · exact z_sub [] (J17  _) rfl
    · refine z_iconst X (v := (1 : Int32)) dX8_in_13 (by decide) ?_
      refine z_goto X (tgt := 18) dX8_in_14 (by decide) ?_
      subst hQ; exact z_zretc X hlocks hr (by decide) dX8_in_18
theorem zw_522 : Cond.methodLink RX8 132 yX8_byteAt ∈ wsL_law := zr_12 _ (by decide +kernel)
theorem zw_523 : Cond.instanceMethod yX8_byteAt ∈ wsL_law := zr_12 _ (by decide +kernel)
theorem zw_524 : Cond.selects RX8 yX8_byteAt yX8_byteAt ∈ wsL_law := zr_12 _ (by decide +kernel)
theorem zw_525 : Cond.initialized RX8 ∈ wsL_law := zr_1 _ (by decide +kernel)
theorem zw_526 : Cond.code yX8_byteAt cX8_byteAt 2 (some .int) ∈ wsL_law := zr_12 _ (by decide +kernel)
theorem hk_X8_132 : ∀ w ∈ ([Cond.methodLink RX8 132 yX8_byteAt, Cond.instanceMethod yX8_byteAt, Cond.selects RX8 yX8_byteAt yX8_byteAt, Cond.initialized RX8, Cond.code yX8_byteAt cX8_byteAt 2 (some .int)] : List Cond), w ∈ wsL_law := List.forall_mem_cons.mpr ⟨zw_522, List.forall_mem_cons.mpr ⟨zw_523, List.forall_mem_cons.mpr ⟨zw_524, List.forall_mem_cons.mpr ⟨zw_525, List.forall_mem_cons.mpr ⟨zw_526, fun _ h => absurd h List.not_mem_nil⟩⟩⟩⟩⟩
theorem zw_527 : Cond.methodLink RX8 77 yX8_in ∈ wsL_law := zr_7 _ (by decide +kernel)
theorem zw_528 : Cond.static yX8_in ∈ wsL_law := zr_7 _ (by decide +kernel)
theorem zw_529 : Cond.code yX8_in cX8_in 6 (some .boolean) ∈ wsL_law := zr_7 _ (by decide +kernel)
theorem hk_X8_77 : ∀ w ∈ ([Cond.methodLink RX8 77 yX8_in, Cond.static yX8_in, Cond.initialized RX8, Cond.code yX8_in cX8_in 6 (some .boolean)] : List Cond), w ∈ wsL_law := List.forall_mem_cons.mpr ⟨zw_527, List.forall_mem_cons.mpr ⟨zw_528, List.forall_mem_cons.mpr ⟨zw_525, List.forall_mem_cons.mpr ⟨zw_529, fun _ h => absurd h List.not_mem_nil⟩⟩⟩⟩
theorem hd_X8_byteAt : yX8_byteAt.cls = RX8 ∧ yX8_byteAt.cls ≠ "java/lang/invoke/MethodHandle" ∧ yX8_byteAt.cls ≠ "java/lang/invoke/VarHandle" ∧ (parseMethodDescriptor yX8_byteAt.desc).map (fun d => d.parameters.length) = some 1 := by decide +kernel
theorem hd_X8_in : yX8_in.cls = RX8 ∧ yX8_in.cls ≠ "java/lang/invoke/MethodHandle" ∧ yX8_in.cls ≠ "java/lang/invoke/VarHandle" ∧ (parseMethodDescriptor yX8_in.desc).map (fun d => d.parameters.length) = some 3 := by decide +kernel
theorem zw_530 : Cond.constantLong RX8 141 (97) ∈ wsL_law := zr_11 _ (by decide +kernel)
theorem hc_X8_141 : Cond.constantLong RX8 141 (97) ∈ wsL_law := zw_530
theorem zw_531 : Cond.constantLong RX8 143 (122) ∈ wsL_law := zr_11 _ (by decide +kernel)
theorem hc_X8_143 : Cond.constantLong RX8 143 (122) ∈ wsL_law := zw_531
theorem zw_532 : Cond.constantLong RX8 145 (48) ∈ wsL_law := zr_11 _ (by decide +kernel)
theorem hc_X8_145 : Cond.constantLong RX8 145 (48) ∈ wsL_law := zw_532
theorem zw_533 : Cond.constantLong RX8 147 (57) ∈ wsL_law := zr_11 _ (by decide +kernel)
theorem hc_X8_147 : Cond.constantLong RX8 147 (57) ∈ wsL_law := zw_533
theorem zw_534 : Cond.constantLong RX8 153 (10) ∈ wsL_law := zr_12 _ (by decide +kernel)
theorem hc_X8_153 : Cond.constantLong RX8 153 (10) ∈ wsL_law := zw_534
theorem zw_535 : Cond.fieldLink RX8 129 "WellGivesOtherModel" "here" "I" ∈ wsL_law := zr_11 _ (by decide +kernel)
theorem hf_X8_129 : Cond.fieldLink RX8 129 "WellGivesOtherModel" "here" "I" ∈ wsL_law := zw_535
theorem zw_536 : Cond.fieldLink RX8 135 "WellGivesOtherModel" "tokenAt" "I" ∈ wsL_law := zr_11 _ (by decide +kernel)
theorem hf_X8_135 : Cond.fieldLink RX8 135 "WellGivesOtherModel" "tokenAt" "I" ∈ wsL_law := zw_536
abbrev rmX8_next : Room := { frames := 2, cells := 0, slots := 0, locals := 65 }
def fX8_next_j26 (this : Nat) (k0 : zS → Option (Unit × zS)) (st : zS) : Option (Unit × zS) :=
  (zok spM st (some this) 8).bind fun o1 => (zok spM st (some this) 8).bind fun o2 => zlet (zp st o2 21 ((st.2.1 o1 21) + (1 : Int32))) fun st3 => k0 st3
def fX8_next_L100 (this : Nat) : Nat → zS → Option (Unit × zS)
  | 0, _ => none
  | n + 1, st => (zok spM st (some this) 8).bind fun o4 => (zok spM st (some this) 8).bind fun o10 => (fX8_byteAt o10 (st.2.1 o4 21) st).bind fun q5 => (fX8_in (q5.1.toInt64) (97 : Int64) (122 : Int64) q5.2).bind fun q6 => if q6.1 = 0 then (some ((), q6.2)) else ((zok spM q6.2 (some this) 8).bind fun o7 => (zok spM q6.2 (some this) 8).bind fun o8 => zlet (zp q6.2 o8 21 ((q6.2.2.1 o7 21) + (1 : Int32))) fun st9 => (fX8_next_L100 this n) st9)
def fX8_next_j216 (this : Nat) (k160 : Int32 → zS → Option (Unit × zS)) (y2 : Int32) (s0 : Option Nat) (s1 : Int64) (st : zS) : Option (Unit × zS) :=
  (zok spM st s0 8).bind fun o11 => zlet (zpl st o11 s1) fun st12 => (zok spM st12 (some this) 8).bind fun o13 => (zok spM st12 (some this) 8).bind fun o14 => zlet (zp st12 o14 21 ((st12.2.1 o13 21) + (1 : Int32))) fun st15 => k160 (y2 + (1 : Int32)) st15
def fX8_next_j246 (this : Nat) (s0 : Option Nat) (s1 : Int32) (st : zS) : Option (Unit × zS) :=
  (zok spM st s0 8).bind fun o16 => zlet (zp st o16 22 s1) fun st17 => some ((), st17)
def fX8_next_L160 (this : Nat) : Nat → Int32 → zS → Option (Unit × zS)
  | 0, _, _ => none
  | n + 1, y2, st => (zok spM st (some this) 8).bind fun o18 => (zok spM st (some this) 8).bind fun o26 => (fX8_byteAt o26 (st.2.1 o18 21) st).bind fun q19 => (fX8_in (q19.1.toInt64) (48 : Int64) (57 : Int64) q19.2).bind fun q20 => if q20.1 = 0 then (if y2 ≤ (4 : Int32) then (fX8_next_j246 this (some this) (2 : Int32) q20.2) else (fX8_next_j246 this (some this) (4 : Int32) q20.2)) else (if (4 : Int32) ≤ y2 then ((zok spM q20.2 (some this) 8).bind fun o21 => fX8_next_j216 this (fX8_next_L160 this n) y2 (some this) (q20.2.2.2.1 o21) q20.2) else ((zok spM q20.2 (some this) 8).bind fun o22 => (zok spM q20.2 (some this) 8).bind fun o23 => (zok spM q20.2 (some this) 8).bind fun o25 => (fX8_byteAt o25 (q20.2.2.1 o23 21) q20.2).bind fun q24 => fX8_next_j216 this (fX8_next_L160 this n) y2 (some this) ((((10 : Int64) * (q20.2.2.2.1 o22)) + (q24.1.toInt64)) - (48 : Int64)) q24.2))
def fX8_next_j300 (this : Nat) (y1 : Int32) (st : zS) : Option (Unit × zS) :=
  (zok spM st (some this) 8).bind fun o27 => zlet (zp st o27 22 (3 : Int32)) fun st28 => (zok spM st28 (some this) 8).bind fun o29 => zlet (zpl st28 o29 (y1.toInt64)) fun st30 => (zok spM st30 (some this) 8).bind fun o31 => (zok spM st30 (some this) 8).bind fun o32 => zlet (zp st30 o32 21 ((st30.2.1 o31 21) + (1 : Int32))) fun st33 => some ((), st33)
def fX8_next_L0 (this : Nat) : Nat → zS → Option (Unit × zS)
  | 0, _ => none
  | n + 1, st => (zok spM st (some this) 8).bind fun o34 => (zok spM st (some this) 8).bind fun o61 => (fX8_byteAt o61 (st.2.1 o34 21) st).bind fun q35 => if q35.1 = (32 : Int32) then (fX8_next_j26 this (fX8_next_L0 this n) q35.2) else ((zok spM q35.2 (some this) 8).bind fun o36 => (zok spM q35.2 (some this) 8).bind fun o60 => (fX8_byteAt o60 (q35.2.2.1 o36 21) q35.2).bind fun q37 => if q37.1 = (10 : Int32) then (fX8_next_j26 this (fX8_next_L0 this n) q37.2) else ((zok spM q37.2 (some this) 8).bind fun o38 => (zok spM q37.2 (some this) 8).bind fun o39 => zlet (zp q37.2 o39 23 (q37.2.2.1 o38 21)) fun st40 => (zok spM st40 (some this) 8).bind fun o41 => (zok spM st40 (some this) 8).bind fun o59 => (fX8_byteAt o59 (st40.2.1 o41 21) st40).bind fun q42 => zlet (q42.1) fun v43 => (zok spM q42.2 (some this) 8).bind fun o44 => zlet (zp q42.2 o44 22 (4 : Int32)) fun st45 => if 0 ≤ v43 then ((fX8_in (v43.toInt64) (97 : Int64) (122 : Int64) st45).bind fun q46 => if q46.1 = 0 then ((fX8_in (v43.toInt64) (48 : Int64) (57 : Int64) q46.2).bind fun q47 => if q47.1 = 0 then (if v43 = (40 : Int32) then (fX8_next_j300 this v43 q47.2) else (if v43 = (41 : Int32) then (fX8_next_j300 this v43 q47.2) else (if v43 = (59 : Int32) then (fX8_next_j300 this v43 q47.2) else (if v43 = (43 : Int32) then (fX8_next_j300 this v43 q47.2) else (if v43 = (45 : Int32) then (fX8_next_j300 this v43 q47.2) else (if v43 = (42 : Int32) then (fX8_next_j300 this v43 q47.2) else (if v43 = (60 : Int32) then (fX8_next_j300 this v43 q47.2) else (if v43 = (61 : Int32) then (fX8_next_j300 this v43 q47.2) else (some ((), q47.2)))))))))) else ((zok spM q47.2 (some this) 8).bind fun o48 => zlet (zp q47.2 o48 22 (2 : Int32)) fun st49 => (zok spM st49 (some this) 8).bind fun o50 => zlet (zpl st49 o50 (0 : Int64)) fun st51 => fX8_next_L160 this zF (0 : Int32) st51)) else ((zok spM q46.2 (some this) 8).bind fun o52 => zlet (zp q46.2 o52 22 (1 : Int32)) fun st53 => fX8_next_L100 this zF st53)) else ((zok spM st45 (some this) 8).bind fun o54 => zlet (zp st45 o54 22 (0 : Int32)) fun st55 => (zok spM st55 (some this) 8).bind fun o56 => (zok spM st55 (some this) 8).bind fun o57 => zlet (zp st55 o57 23 (st55.2.1 o56 20)) fun st58 => some ((), st58))))
def fX8_next (this : Nat) (st : zS) : Option (Unit × zS) :=
  fX8_next_L0 this zF st
set_option maxRecDepth 100000 in
set_option maxHeartbeats 4000000 in
theorem kX8_next (l : Launch) (Z : zZ) (b : Nat) (x : Option Nat) (this : Nat) (st : zS) : zC l Z spM b x yX8_next (.code yX8_next cX8_next 3 none) (rmX8_next) rV [vP (some this)] st (fX8_next this st) := by
  refine z_start (own := RX8) rfl (by decide +kernel) (Nat.le_of_ble_eq_true rfl) rfl (fun p e s m args below meth c res Q A X hK hr hlocks hQ => ?_)
  have J100 : ∀ (n100 : Nat) (st : zS), zs p l e (rmX8_next) s m args below meth c Q Z spM b x A 3 0 0 res (fX8_next_L100 this n100 st) 100 [(0, vP (some this))] [] st := by
    intro n100
    induction n100 with
    | zero => intros; exact z_none
    | succ n100 ih100 =>
      intro  st
      rw [fX8_next_L100]
      refine z_aload_n X (q := 0) dX8_next_100 rfl rfl ?_
      refine z_aload_n X (q := 0) dX8_next_101 rfl rfl ?_
      refine z_geti X hK (N := 46) (ci := 8) (k := 21) rfl (by decide) inlX8 (by decide) hf_X8_129 rfl spM_X8 rfl dX8_next_102 (fun o4 _ => ?_)
      refine z_callV X hK (As := [vI (st.2.1 o4 21)]) (ci := 8) rfl (by decide) (fun o => (kX8_byteAt l Z  b x o _ _)) hk_X8_132 ⟨rfl, rfl⟩ hd_X8_byteAt ⟨Nat.le_of_ble_eq_true rfl, Nat.le_of_ble_eq_true rfl⟩ ⟨Nat.le_of_ble_eq_true rfl, Nat.le_of_ble_eq_true rfl⟩ rfl rfl (Nat.le_of_ble_eq_true rfl) dX8_next_105 (fun _ q5 _ => ?_)
      refine z_i2l X dX8_next_108 ?_
      refine z_ldc2 X (v := (97 : Int64)) (hc_X8_141) dX8_next_109 ?_
      refine z_ldc2 X (v := (122 : Int64)) (hc_X8_143) dX8_next_112 ?_
      refine z_callS X hK (As := [vL (q5.1.toInt64), vL (97 : Int64), vL (122 : Int64)]) (kX8_in l Z  b x _ _ _ _) hk_X8_77 ⟨rfl, rfl⟩ hd_X8_in.2 ⟨Nat.le_of_ble_eq_true rfl, Nat.le_of_ble_eq_true rfl⟩ ⟨Nat.le_of_ble_eq_true rfl, Nat.le_of_ble_eq_true rfl⟩ rfl rfl (Nat.le_of_ble_eq_true rfl) dX8_next_115 (fun q6 => ?_)
      refine z_if_eq X (tgt := 321) dX8_next_118 (by decide) (fun _ => ?_) (fun _ => ?_)
      · subst hQ; exact z_vret X hlocks hr dX8_next_321
      · refine z_aload_n X (q := 0) dX8_next_121 rfl rfl ?_
        refine z_dup X dX8_next_122 rfl ?_
        refine z_geti X hK (N := 46) (ci := 8) (k := 21) rfl (by decide) inlX8 (by decide) hf_X8_129 rfl spM_X8 rfl dX8_next_123 (fun o7 _ => ?_)
        refine z_iconst X (v := (1 : Int32)) dX8_next_126 (by decide) ?_
        refine z_iadd X dX8_next_127 ?_
        refine z_puti X hK (N := 46) (ci := 8) (k := 21) rfl (by decide) inlX8 tyX8 tyX8_ok nmX8 (by decide) hf_X8_129 rfl rfl spM_X8 rfl (by decide +kernel) dX8_next_128 (fun o8 st9 _ => ?_)
        refine z_goto X (tgt := 100) dX8_next_131 (by decide) ?_
        exact z_sub [0] (ih100  _) rfl
  have J246 : ∀ (s0 : Option Nat) (s1 : Int32) (st : zS), zs p l e (rmX8_next) s m args below meth c Q Z spM b x A 3 0 0 res (fX8_next_j246 this s0 s1 st) 246 [] [vI s1, vP s0] st := by
    intro s0 s1 st
    rw [fX8_next_j246]
    refine z_puti X hK (N := 46) (ci := 8) (k := 22) rfl (by decide) inlX8 tyX8 tyX8_ok nmX8 (by decide) hf_X8_138 rfl rfl spM_X8 rfl (by decide +kernel) dX8_next_246 (fun o16 st17 _ => ?_)
    refine z_goto X (tgt := 321) dX8_next_249 (by decide) ?_
    subst hQ; exact z_vret X hlocks hr dX8_next_321
  have J160 : ∀ (n160 : Nat) (y2 : Int32) (st : zS), zs p l e (rmX8_next) s m args below meth c Q Z spM b x A 3 0 0 res (fX8_next_L160 this n160 y2 st) 160 [(0, vP (some this)), (2, vI y2)] [] st := by
    intro n160
    induction n160 with
    | zero => intros; exact z_none
    | succ n160 ih160 =>
      have J216 : ∀ (y2 : Int32) (s0 : Option Nat) (s1 : Int64) (st : zS), zs p l e (rmX8_next) s m args below meth c Q Z spM b x A 3 0 0 res (fX8_next_j216 this (fX8_next_L160 this n160) y2 s0 s1 st) 216 [(0, vP (some this)), (2, vI y2)] [vL s1, vP s0] st := by
        intro y2 s0 s1 st
        rw [fX8_next_j216]
        refine z_putl X hK (N := 46) (ci := 8) (k := 24) rfl (by decide) inlX8 tyX8 tyX8_ok nmX8 (by decide) hf_X8_149 rfl rfl spM_X8 (z24_24) (by decide +kernel) dX8_next_216 (fun o11 st12 _ => ?_)
        refine z_iinc X (q := 1) (y := y2 + (1 : Int32)) dX8_next_219 rfl rfl (Nat.le_of_ble_eq_true rfl) rfl ?_
        refine z_aload_n X (q := 1) dX8_next_222 rfl rfl ?_
        refine z_dup X dX8_next_223 rfl ?_
        refine z_geti X hK (N := 46) (ci := 8) (k := 21) rfl (by decide) inlX8 (by decide) hf_X8_129 rfl spM_X8 rfl dX8_next_224 (fun o13 _ => ?_)
        refine z_iconst X (v := (1 : Int32)) dX8_next_227 (by decide) ?_
        refine z_iadd X dX8_next_228 ?_
        refine z_puti X hK (N := 46) (ci := 8) (k := 21) rfl (by decide) inlX8 tyX8 tyX8_ok nmX8 (by decide) hf_X8_129 rfl rfl spM_X8 rfl (by decide +kernel) dX8_next_229 (fun o14 st15 _ => ?_)
        refine z_goto X (tgt := 160) dX8_next_232 (by decide) ?_
        exact z_sub [1, 0] (ih160 _ _) rfl
      intro y2 st
      rw [fX8_next_L160]
      refine z_aload_n X (q := 0) dX8_next_160 rfl rfl ?_
      refine z_aload_n X (q := 0) dX8_next_161 rfl rfl ?_
      refine z_geti X hK (N := 46) (ci := 8) (k := 21) rfl (by decide) inlX8 (by decide) hf_X8_129 rfl spM_X8 rfl dX8_next_162 (fun o18 _ => ?_)
      refine z_callV X hK (As := [vI (st.2.1 o18 21)]) (ci := 8) rfl (by decide) (fun o => (kX8_byteAt l Z  b x o _ _)) hk_X8_132 ⟨rfl, rfl⟩ hd_X8_byteAt ⟨Nat.le_of_ble_eq_true rfl, Nat.le_of_ble_eq_true rfl⟩ ⟨Nat.le_of_ble_eq_true rfl, Nat.le_of_ble_eq_true rfl⟩ rfl rfl (Nat.le_of_ble_eq_true rfl) dX8_next_165 (fun _ q19 _ => ?_)
      refine z_i2l X dX8_next_168 ?_
      refine z_ldc2 X (v := (48 : Int64)) (hc_X8_145) dX8_next_169 ?_
      refine z_ldc2 X (v := (57 : Int64)) (hc_X8_147) dX8_next_172 ?_
      refine z_callS X hK (As := [vL (q19.1.toInt64), vL (48 : Int64), vL (57 : Int64)]) (kX8_in l Z  b x _ _ _ _) hk_X8_77 ⟨rfl, rfl⟩ hd_X8_in.2 ⟨Nat.le_of_ble_eq_true rfl, Nat.le_of_ble_eq_true rfl⟩ ⟨Nat.le_of_ble_eq_true rfl, Nat.le_of_ble_eq_true rfl⟩ rfl rfl (Nat.le_of_ble_eq_true rfl) dX8_next_175 (fun q20 => ?_)
      refine z_if_eq X (tgt := 235) dX8_next_178 (by decide) (fun _ => ?_) (fun _ => ?_)
      · refine z_aload_n X (q := 0) dX8_next_235 rfl rfl ?_
        refine z_iload_n X (q := 1) dX8_next_236 rfl rfl ?_
        refine z_iconst X (v := (4 : Int32)) dX8_next_237 (by decide) ?_
        refine z_icmp_le X (tgt := 245) dX8_next_238 (by decide) (fun _ => ?_) (fun _ => ?_)
        · refine z_iconst X (v := (2 : Int32)) dX8_next_245 (by decide) ?_
          exact z_sub [] (J246 _ _ _) rfl
        · refine z_iconst X (v := (4 : Int32)) dX8_next_241 (by decide) ?_
          refine z_goto X (tgt := 246) dX8_next_242 (by decide) ?_
          exact z_sub [] (J246 _ _ _) rfl
      · refine z_aload_n X (q := 0) dX8_next_181 rfl rfl ?_
        refine z_iload_n X (q := 1) dX8_next_182 rfl rfl ?_
        refine z_iconst X (v := (4 : Int32)) dX8_next_183 (by decide) ?_
        refine z_icmp_ge X (tgt := 212) dX8_next_184 (by decide) (fun _ => ?_) (fun _ => ?_)
        · refine z_aload_n X (q := 0) dX8_next_212 rfl rfl ?_
          refine z_getl X hK (N := 46) (ci := 8) (k := 24) rfl (by decide) inlX8 (by decide) hf_X8_149 rfl spM_X8 rfl dX8_next_213 (fun o21 _ => ?_)
          exact z_sub [0, 1] (J216 _ _ _ _) rfl
        · refine z_ldc2 X (v := (10 : Int64)) (hc_X8_153) dX8_next_187 ?_
          refine z_aload_n X (q := 0) dX8_next_190 rfl rfl ?_
          refine z_getl X hK (N := 46) (ci := 8) (k := 24) rfl (by decide) inlX8 (by decide) hf_X8_149 rfl spM_X8 rfl dX8_next_191 (fun o22 _ => ?_)
          refine z_lmul X dX8_next_194 ?_
          refine z_aload_n X (q := 0) dX8_next_195 rfl rfl ?_
          refine z_aload_n X (q := 0) dX8_next_196 rfl rfl ?_
          refine z_geti X hK (N := 46) (ci := 8) (k := 21) rfl (by decide) inlX8 (by decide) hf_X8_129 rfl spM_X8 rfl dX8_next_197 (fun o23 _ => ?_)
          refine z_callV X hK (As := [vI (q20.2.2.1 o23 21)]) (ci := 8) rfl (by decide) (fun o => (kX8_byteAt l Z  b x o _ _)) hk_X8_132 ⟨rfl, rfl⟩ hd_X8_byteAt ⟨Nat.le_of_ble_eq_true rfl, Nat.le_of_ble_eq_true rfl⟩ ⟨Nat.le_of_ble_eq_true rfl, Nat.le_of_ble_eq_true rfl⟩ rfl rfl (Nat.le_of_ble_eq_true rfl) dX8_next_200 (fun _ q24 _ => ?_)
          refine z_i2l X dX8_next_203 ?_
          refine z_ladd X dX8_next_204 ?_
          refine z_ldc2 X (v := (48 : Int64)) (hc_X8_145) dX8_next_205 ?_
          refine z_lsub X dX8_next_208 ?_
          refine z_goto X (tgt := 216) dX8_next_209 (by decide) ?_
          exact z_sub [0, 1] (J216 _ _ _ _) rfl
  have J300 : ∀ (y1 : Int32) (st : zS), zs p l e (rmX8_next) s m args below meth c Q Z spM b x A 3 0 0 res (fX8_next_j300 this y1 st) 300 [(0, vP (some this)), (1, vI y1)] [] st := by
    intro y1 st
    rw [fX8_next_j300]
    refine z_aload_n X (q := 0) dX8_next_300 rfl rfl ?_
    refine z_iconst X (v := (3 : Int32)) dX8_next_301 (by decide) ?_
    refine z_puti X hK (N := 46) (ci := 8) (k := 22) rfl (by decide) inlX8 tyX8 tyX8_ok nmX8 (by decide) hf_X8_138 rfl rfl spM_X8 rfl (by decide +kernel) dX8_next_302 (fun o27 st28 _ => ?_)
    refine z_aload_n X (q := 0) dX8_next_305 rfl rfl ?_
    refine z_iload_n X (q := 1) dX8_next_306 rfl rfl ?_
    refine z_i2l X dX8_next_307 ?_
    refine z_putl X hK (N := 46) (ci := 8) (k := 24) rfl (by decide) inlX8 tyX8 tyX8_ok nmX8 (by decide) hf_X8_149 rfl rfl spM_X8 (z24_24) (by decide +kernel) dX8_next_308 (fun o29 st30 _ => ?_)
    refine z_aload_n X (q := 0) dX8_next_311 rfl rfl ?_
    refine z_dup X dX8_next_312 rfl ?_
    refine z_geti X hK (N := 46) (ci := 8) (k := 21) rfl (by decide) inlX8 (by decide) hf_X8_129 rfl spM_X8 rfl dX8_next_313 (fun o31 _ => ?_)
    refine z_iconst X (v := (1 : Int32)) dX8_next_316 (by decide) ?_
    refine z_iadd X dX8_next_317 ?_
    refine z_puti X hK (N := 46) (ci := 8) (k := 21) rfl (by decide) inlX8 tyX8 tyX8_ok nmX8 (by decide) hf_X8_129 rfl rfl spM_X8 rfl (by decide +kernel) dX8_next_318 (fun o32 st33 _ => ?_)
    subst hQ; exact z_vret X hlocks hr dX8_next_321
  have J0 : ∀ (n0 : Nat) (st : zS), zs p l e (rmX8_next) s m args below meth c Q Z spM b x A 3 0 0 res (fX8_next_L0 this n0 st) 0 [(0, vP (some this))] [] st := by
    intro n0
    induction n0 with
    | zero => intros; exact z_none
    | succ n0 ih0 =>
      have J26 : ∀ (st : zS), zs p l e (rmX8_next) s m args below meth c Q Z spM b x A 3 0 0 res (fX8_next_j26 this (fX8_next_L0 this n0) st) 26 [(0, vP (some this))] [] st := by
        intro  st
        rw [fX8_next_j26]
        refine z_aload_n X (q := 0) dX8_next_26 rfl rfl ?_
        refine z_dup X dX8_next_27 rfl ?_
        refine z_geti X hK (N := 46) (ci := 8) (k := 21) rfl (by decide) inlX8 (by decide) hf_X8_129 rfl spM_X8 rfl dX8_next_28 (fun o1 _ => ?_)
        refine z_iconst X (v := (1 : Int32)) dX8_next_31 (by decide) ?_
        refine z_iadd X dX8_next_32 ?_
        refine z_puti X hK (N := 46) (ci := 8) (k := 21) rfl (by decide) inlX8 tyX8 tyX8_ok nmX8 (by decide) hf_X8_129 rfl rfl spM_X8 rfl (by decide +kernel) dX8_next_33 (fun o2 st3 _ => ?_)
        refine z_goto X (tgt := 0) dX8_next_36 (by decide) ?_
        exact z_sub [0] (ih0  _) rfl
      intro  st
      rw [fX8_next_L0]
      refine z_aload_n X (q := 0) dX8_next_0 rfl rfl ?_
      refine z_aload_n X (q := 0) dX8_next_1 rfl rfl ?_
      refine z_geti X hK (N := 46) (ci := 8) (k := 21) rfl (by decide) inlX8 (by decide) hf_X8_129 rfl spM_X8 rfl dX8_next_2 (fun o34 _ => ?_)
      refine z_callV X hK (As := [vI (st.2.1 o34 21)]) (ci := 8) rfl (by decide) (fun o => (kX8_byteAt l Z  b x o _ _)) hk_X8_132 ⟨rfl, rfl⟩ hd_X8_byteAt ⟨Nat.le_of_ble_eq_true rfl, Nat.le_of_ble_eq_true rfl⟩ ⟨Nat.le_of_ble_eq_true rfl, Nat.le_of_ble_eq_true rfl⟩ rfl rfl (Nat.le_of_ble_eq_true rfl) dX8_next_5 (fun _ q35 _ => ?_)
      refine z_bipush X (v := (32 : Int32)) dX8_next_8 (by decide) ?_
      refine z_icmp_eq X (tgt := 26) dX8_next_10 (by decide) (fun _ => ?_) (fun _ => ?_)
      · exact z_sub [0] (J26  _) rfl
      · refine z_aload_n X (q := 0) dX8_next_13 rfl rfl ?_
        refine z_aload_n X (q := 0) dX8_next_14 rfl rfl ?_
        refine z_geti X hK (N := 46) (ci := 8) (k := 21) rfl (by decide) inlX8 (by decide) hf_X8_129 rfl spM_X8 rfl dX8_next_15 (fun o36 _ => ?_)
        refine z_callV X hK (As := [vI (q35.2.2.1 o36 21)]) (ci := 8) rfl (by decide) (fun o => (kX8_byteAt l Z  b x o _ _)) hk_X8_132 ⟨rfl, rfl⟩ hd_X8_byteAt ⟨Nat.le_of_ble_eq_true rfl, Nat.le_of_ble_eq_true rfl⟩ ⟨Nat.le_of_ble_eq_true rfl, Nat.le_of_ble_eq_true rfl⟩ rfl rfl (Nat.le_of_ble_eq_true rfl) dX8_next_18 (fun _ q37 _ => ?_)
        refine z_bipush X (v := (10 : Int32)) dX8_next_21 (by decide) ?_
        refine z_icmp_ne X (tgt := 39) dX8_next_23 (by decide) (fun _ => ?_) (fun _ => ?_)
        · refine z_aload_n X (q := 0) dX8_next_39 rfl rfl ?_
          refine z_aload_n X (q := 0) dX8_next_40 rfl rfl ?_
          refine z_geti X hK (N := 46) (ci := 8) (k := 21) rfl (by decide) inlX8 (by decide) hf_X8_129 rfl spM_X8 rfl dX8_next_41 (fun o38 _ => ?_)
          refine z_puti X hK (N := 46) (ci := 8) (k := 23) rfl (by decide) inlX8 tyX8 tyX8_ok nmX8 (by decide) hf_X8_135 rfl rfl spM_X8 rfl (by decide +kernel) dX8_next_44 (fun o39 st40 _ => ?_)
          refine z_aload_n X (q := 0) dX8_next_47 rfl rfl ?_
          refine z_aload_n X (q := 0) dX8_next_48 rfl rfl ?_
          refine z_geti X hK (N := 46) (ci := 8) (k := 21) rfl (by decide) inlX8 (by decide) hf_X8_129 rfl spM_X8 rfl dX8_next_49 (fun o41 _ => ?_)
          refine z_callV X hK (As := [vI (st40.2.1 o41 21)]) (ci := 8) rfl (by decide) (fun o => (kX8_byteAt l Z  b x o _ _)) hk_X8_132 ⟨rfl, rfl⟩ hd_X8_byteAt ⟨Nat.le_of_ble_eq_true rfl, Nat.le_of_ble_eq_true rfl⟩ ⟨Nat.le_of_ble_eq_true rfl, Nat.le_of_ble_eq_true rfl⟩ rfl rfl (Nat.le_of_ble_eq_true rfl) dX8_next_52 (fun _ q42 _ => ?_)
          refine z_name (fun v43 => ?_)
          refine z_istore_n X dX8_next_55 rfl (Nat.le_of_ble_eq_true rfl) rfl ?_
          refine z_aload_n X (q := 1) dX8_next_56 rfl rfl ?_
          refine z_iconst X (v := (4 : Int32)) dX8_next_57 (by decide) ?_
          refine z_puti X hK (N := 46) (ci := 8) (k := 22) rfl (by decide) inlX8 tyX8 tyX8_ok nmX8 (by decide) hf_X8_138 rfl rfl spM_X8 rfl (by decide +kernel) dX8_next_58 (fun o44 st45 _ => ?_)
          refine z_iload_n X (q := 0) dX8_next_61 rfl rfl ?_
          refine z_if_ge X (tgt := 81) dX8_next_62 (by decide) (fun _ => ?_) (fun _ => ?_)
          · refine z_iload_n X (q := 0) dX8_next_81 rfl rfl ?_
            refine z_i2l X dX8_next_82 ?_
            refine z_ldc2 X (v := (97 : Int64)) (hc_X8_141) dX8_next_83 ?_
            refine z_ldc2 X (v := (122 : Int64)) (hc_X8_143) dX8_next_86 ?_
            refine z_callS X hK (As := [vL (v43.toInt64), vL (97 : Int64), vL (122 : Int64)]) (kX8_in l Z  b x _ _ _ _) hk_X8_77 ⟨rfl, rfl⟩ hd_X8_in.2 ⟨Nat.le_of_ble_eq_true rfl, Nat.le_of_ble_eq_true rfl⟩ ⟨Nat.le_of_ble_eq_true rfl, Nat.le_of_ble_eq_true rfl⟩ rfl rfl (Nat.le_of_ble_eq_true rfl) dX8_next_89 (fun q46 => ?_)
            refine z_if_eq X (tgt := 134) dX8_next_92 (by decide) (fun _ => ?_) (fun _ => ?_)
            · refine z_iload_n X (q := 0) dX8_next_134 rfl rfl ?_
              refine z_i2l X dX8_next_135 ?_
              refine z_ldc2 X (v := (48 : Int64)) (hc_X8_145) dX8_next_136 ?_
              refine z_ldc2 X (v := (57 : Int64)) (hc_X8_147) dX8_next_139 ?_
              refine z_callS X hK (As := [vL (v43.toInt64), vL (48 : Int64), vL (57 : Int64)]) (kX8_in l Z  b x _ _ _ _) hk_X8_77 ⟨rfl, rfl⟩ hd_X8_in.2 ⟨Nat.le_of_ble_eq_true rfl, Nat.le_of_ble_eq_true rfl⟩ ⟨Nat.le_of_ble_eq_true rfl, Nat.le_of_ble_eq_true rfl⟩ rfl rfl (Nat.le_of_ble_eq_true rfl) dX8_next_142 (fun q47 => ?_)
              refine z_if_eq X (tgt := 252) dX8_next_145 (by decide) (fun _ => ?_) (fun _ => ?_)
              · refine z_iload_n X (q := 0) dX8_next_252 rfl rfl ?_
                refine z_bipush X (v := (40 : Int32)) dX8_next_253 (by decide) ?_
                refine z_icmp_eq X (tgt := 300) dX8_next_255 (by decide) (fun _ => ?_) (fun _ => ?_)
                · exact z_sub [1, 0] (J300 _ _) rfl
                · refine z_iload_n X (q := 0) dX8_next_258 rfl rfl ?_
                  refine z_bipush X (v := (41 : Int32)) dX8_next_259 (by decide) ?_
                  refine z_icmp_eq X (tgt := 300) dX8_next_261 (by decide) (fun _ => ?_) (fun _ => ?_)
                  · exact z_sub [1, 0] (J300 _ _) rfl
                  · refine z_iload_n X (q := 0) dX8_next_264 rfl rfl ?_
                    refine z_bipush X (v := (59 : Int32)) dX8_next_265 (by decide) ?_
                    refine z_icmp_eq X (tgt := 300) dX8_next_267 (by decide) (fun _ => ?_) (fun _ => ?_)
                    · exact z_sub [1, 0] (J300 _ _) rfl
                    · refine z_iload_n X (q := 0) dX8_next_270 rfl rfl ?_
                      refine z_bipush X (v := (43 : Int32)) dX8_next_271 (by decide) ?_
                      refine z_icmp_eq X (tgt := 300) dX8_next_273 (by decide) (fun _ => ?_) (fun _ => ?_)
                      · exact z_sub [1, 0] (J300 _ _) rfl
                      · refine z_iload_n X (q := 0) dX8_next_276 rfl rfl ?_
                        refine z_bipush X (v := (45 : Int32)) dX8_next_277 (by decide) ?_
                        refine z_icmp_eq X (tgt := 300) dX8_next_279 (by decide) (fun _ => ?_) (fun _ => ?_)
                        · exact z_sub [1, 0] (J300 _ _) rfl
                        · refine z_iload_n X (q := 0) dX8_next_282 rfl rfl ?_
                          refine z_bipush X (v := (42 : Int32)) dX8_next_283 (by decide) ?_
                          refine z_icmp_eq X (tgt := 300) dX8_next_285 (by decide) (fun _ => ?_) (fun _ => ?_)
                          · exact z_sub [1, 0] (J300 _ _) rfl
                          · refine z_iload_n X (q := 0) dX8_next_288 rfl rfl ?_
                            refine z_bipush X (v := (60 : Int32)) dX8_next_289 (by decide) ?_
                            refine z_icmp_eq X (tgt := 300) dX8_next_291 (by decide) (fun _ => ?_) (fun _ => ?_)
                            · exact z_sub [1, 0] (J300 _ _) rfl
                            · refine z_iload_n X (q := 0) dX8_next_294 rfl rfl ?_
                              refine z_bipush X (v := (61 : Int32)) dX8_next_295 (by decide) ?_
                              refine z_icmp_ne X (tgt := 321) dX8_next_297 (by decide) (fun _ => ?_) (fun _ => ?_)
                              · subst hQ; exact z_vret X hlocks hr dX8_next_321
                              · exact z_sub [1, 0] (J300 _ _) rfl
              · refine z_aload_n X (q := 1) dX8_next_148 rfl rfl ?_
                refine z_iconst X (v := (2 : Int32)) dX8_next_149 (by decide) ?_
                refine z_puti X hK (N := 46) (ci := 8) (k := 22) rfl (by decide) inlX8 tyX8 tyX8_ok nmX8 (by decide) hf_X8_138 rfl rfl spM_X8 rfl (by decide +kernel) dX8_next_150 (fun o48 st49 _ => ?_)
                refine z_aload_n X (q := 1) dX8_next_153 rfl rfl ?_
                refine z_lconst X (v := (0 : Int64)) dX8_next_154 (by decide) ?_
                refine z_putl X hK (N := 46) (ci := 8) (k := 24) rfl (by decide) inlX8 tyX8 tyX8_ok nmX8 (by decide) hf_X8_149 rfl rfl spM_X8 (z24_24) (by decide +kernel) dX8_next_155 (fun o50 st51 _ => ?_)
                refine z_iconst X (v := (0 : Int32)) dX8_next_158 (by decide) ?_
                refine z_istore_n X dX8_next_159 rfl (Nat.le_of_ble_eq_true rfl) rfl ?_
                exact z_sub [2, 0] (J160 _ _ _) rfl
            · refine z_aload_n X (q := 1) dX8_next_95 rfl rfl ?_
              refine z_iconst X (v := (1 : Int32)) dX8_next_96 (by decide) ?_
              refine z_puti X hK (N := 46) (ci := 8) (k := 22) rfl (by decide) inlX8 tyX8 tyX8_ok nmX8 (by decide) hf_X8_138 rfl rfl spM_X8 rfl (by decide +kernel) dX8_next_97 (fun o52 st53 _ => ?_)
              exact z_sub [1] (J100 _  _) rfl
          · refine z_aload_n X (q := 1) dX8_next_65 rfl rfl ?_
            refine z_iconst X (v := (0 : Int32)) dX8_next_66 (by decide) ?_
            refine z_puti X hK (N := 46) (ci := 8) (k := 22) rfl (by decide) inlX8 tyX8 tyX8_ok nmX8 (by decide) hf_X8_138 rfl rfl spM_X8 rfl (by decide +kernel) dX8_next_67 (fun o54 st55 _ => ?_)
            refine z_aload_n X (q := 1) dX8_next_70 rfl rfl ?_
            refine z_aload_n X (q := 1) dX8_next_71 rfl rfl ?_
            refine z_geti X hK (N := 46) (ci := 8) (k := 20) rfl (by decide) inlX8 (by decide) hf_X8_123 rfl spM_X8 rfl dX8_next_72 (fun o56 _ => ?_)
            refine z_puti X hK (N := 46) (ci := 8) (k := 23) rfl (by decide) inlX8 tyX8 tyX8_ok nmX8 (by decide) hf_X8_135 rfl rfl spM_X8 rfl (by decide +kernel) dX8_next_75 (fun o57 st58 _ => ?_)
            refine z_goto X (tgt := 321) dX8_next_78 (by decide) ?_
            subst hQ; exact z_vret X hlocks hr dX8_next_321
        · exact z_sub [0] (J26  _) rfl
  rw [fX8_next]
  exact z_sub [0] (J0 _  _) rfl
theorem zw_537 : Cond.fieldLink RX8 159 "WellGivesOtherModel" "fault" "I" ∈ wsL_law := zr_12 _ (by decide +kernel)
theorem hf_X8_159 : Cond.fieldLink RX8 159 "WellGivesOtherModel" "fault" "I" ∈ wsL_law := zw_537
abbrev rmX8_fail : Room := { frames := 1, cells := 0, slots := 0, locals := 40 }
def fX8_fail (this : Nat) (st : zS) : Option (Unit × zS) :=
  (zok spM st (some this) 8).bind fun o1 => if (st.2.1 o1 26) = 0 then ((zok spM st (some this) 8).bind fun o2 => zlet (zp st o2 26 (1 : Int32)) fun st3 => (zok spM st3 (some this) 8).bind fun o4 => (zok spM st3 (some this) 8).bind fun o5 => zlet (zp st3 o5 27 (st3.2.1 o4 23)) fun st6 => some ((), st6)) else (some ((), st))
set_option maxRecDepth 100000 in
set_option maxHeartbeats 4000000 in
theorem kX8_fail (l : Launch) (Z : zZ) (b : Nat) (x : Option Nat) (this : Nat) (st : zS) : zC l Z spM b x yX8_fail (.code yX8_fail cX8_fail 1 none) (rmX8_fail) rV [vP (some this)] st (fX8_fail this st) := by
  refine z_start (own := RX8) rfl (by decide +kernel) (Nat.le_of_ble_eq_true rfl) rfl (fun p e s m args below meth c res Q A X hK hr hlocks hQ => ?_)
  rw [fX8_fail]
  refine z_aload_n X (q := 0) dX8_fail_0 rfl rfl ?_
  refine z_geti X hK (N := 46) (ci := 8) (k := 26) rfl (by decide) inlX8 (by decide) hf_X8_155 rfl spM_X8 rfl dX8_fail_1 (fun o1 _ => ?_)
  refine z_if_ne X (tgt := 20) dX8_fail_4 (by decide) (fun _ => ?_) (fun _ => ?_)
  · subst hQ; exact z_vret X hlocks hr dX8_fail_20
  · refine z_aload_n X (q := 0) dX8_fail_7 rfl rfl ?_
    refine z_iconst X (v := (1 : Int32)) dX8_fail_8 (by decide) ?_
    refine z_putz X hK (N := 46) (ci := 8) (k := 26) rfl (by decide) inlX8 tyX8 tyX8_ok nmX8 (by decide) hf_X8_155 rfl rfl spM_X8 rfl (by decide +kernel) rfl rfl dX8_fail_9 (fun o2 st3 _ => ?_)
    refine z_aload_n X (q := 0) dX8_fail_12 rfl rfl ?_
    refine z_aload_n X (q := 0) dX8_fail_13 rfl rfl ?_
    refine z_geti X hK (N := 46) (ci := 8) (k := 23) rfl (by decide) inlX8 (by decide) hf_X8_135 rfl spM_X8 rfl dX8_fail_14 (fun o4 _ => ?_)
    refine z_puti X hK (N := 46) (ci := 8) (k := 27) rfl (by decide) inlX8 tyX8 tyX8_ok nmX8 (by decide) hf_X8_159 rfl rfl spM_X8 rfl (by decide +kernel) dX8_fail_17 (fun o5 st6 _ => ?_)
    subst hQ; exact z_vret X hlocks hr dX8_fail_20
abbrev rmX8_isLetter : Room := { frames := 2, cells := 0, slots := 0, locals := 61 }
def fX8_isLetter (this : Nat) (a1 : Int32) (a2 : Int32) (st : zS) : Option (Int32 × zS) :=
  (zok spM st (some this) 8).bind fun o1 => (zok spM st (some this) 8).bind fun o2 => if (st.2.1 o2 21) ≤ ((st.2.1 o1 23) + a1) then (if a2 = 0 then (some ((1 : Int32), st)) else (some ((0 : Int32), st))) else ((zok spM st (some this) 8).bind fun o3 => (zok spM st (some this) 8).bind fun o5 => (fX8_byteAt o5 ((st.2.1 o3 23) + a1) st).bind fun q4 => if q4.1 = a2 then (some ((1 : Int32), q4.2)) else (some ((0 : Int32), q4.2)))
set_option maxRecDepth 100000 in
set_option maxHeartbeats 4000000 in
theorem kX8_isLetter (l : Launch) (Z : zZ) (b : Nat) (x : Option Nat) (this : Nat) (a1 : Int32) (a2 : Int32) (st : zS) : zC l Z spM b x yX8_isLetter (.code yX8_isLetter cX8_isLetter 3 (some .boolean)) (rmX8_isLetter) rI [vP (some this), vI a1, vI a2] st (fX8_isLetter this a1 a2 st) := by
  refine z_start (own := RX8) rfl (by decide +kernel) (Nat.le_of_ble_eq_true rfl) rfl (fun p e s m args below meth c res Q A X hK hr hlocks hQ => ?_)
  rw [fX8_isLetter]
  refine z_aload_n X (q := 0) dX8_isLetter_0 rfl rfl ?_
  refine z_geti X hK (N := 46) (ci := 8) (k := 23) rfl (by decide) inlX8 (by decide) hf_X8_135 rfl spM_X8 rfl dX8_isLetter_1 (fun o1 _ => ?_)
  refine z_iload_n X (q := 1) dX8_isLetter_4 rfl rfl ?_
  refine z_iadd X dX8_isLetter_5 ?_
  refine z_aload_n X (q := 0) dX8_isLetter_6 rfl rfl ?_
  refine z_geti X hK (N := 46) (ci := 8) (k := 21) rfl (by decide) inlX8 (by decide) hf_X8_129 rfl spM_X8 rfl dX8_isLetter_7 (fun o2 _ => ?_)
  refine z_icmp_ge X (tgt := 35) dX8_isLetter_10 (by decide) (fun _ => ?_) (fun _ => ?_)
  · refine z_iload_n X (q := 2) dX8_isLetter_35 rfl rfl ?_
    refine z_if_ne X (tgt := 43) dX8_isLetter_36 (by decide) (fun _ => ?_) (fun _ => ?_)
    · refine z_iconst X (v := (0 : Int32)) dX8_isLetter_43 (by decide) ?_
      subst hQ; exact z_zretc X hlocks hr (by decide) dX8_isLetter_44
    · refine z_iconst X (v := (1 : Int32)) dX8_isLetter_39 (by decide) ?_
      refine z_goto X (tgt := 44) dX8_isLetter_40 (by decide) ?_
      subst hQ; exact z_zretc X hlocks hr (by decide) dX8_isLetter_44
  · refine z_aload_n X (q := 0) dX8_isLetter_13 rfl rfl ?_
    refine z_aload_n X (q := 0) dX8_isLetter_14 rfl rfl ?_
    refine z_geti X hK (N := 46) (ci := 8) (k := 23) rfl (by decide) inlX8 (by decide) hf_X8_135 rfl spM_X8 rfl dX8_isLetter_15 (fun o3 _ => ?_)
    refine z_iload_n X (q := 1) dX8_isLetter_18 rfl rfl ?_
    refine z_iadd X dX8_isLetter_19 ?_
    refine z_callV X hK (As := [vI ((st.2.1 o3 23) + a1)]) (ci := 8) rfl (by decide) (fun o => (kX8_byteAt l Z  b x o _ _)) hk_X8_132 ⟨rfl, rfl⟩ hd_X8_byteAt ⟨Nat.le_of_ble_eq_true rfl, Nat.le_of_ble_eq_true rfl⟩ ⟨Nat.le_of_ble_eq_true rfl, Nat.le_of_ble_eq_true rfl⟩ rfl rfl (Nat.le_of_ble_eq_true rfl) dX8_isLetter_20 (fun _ q4 _ => ?_)
    refine z_iload_n X (q := 2) dX8_isLetter_23 rfl rfl ?_
    refine z_icmp_ne X (tgt := 31) dX8_isLetter_24 (by decide) (fun _ => ?_) (fun _ => ?_)
    · refine z_iconst X (v := (0 : Int32)) dX8_isLetter_31 (by decide) ?_
      refine z_goto X (tgt := 44) dX8_isLetter_32 (by decide) ?_
      subst hQ; exact z_zretc X hlocks hr (by decide) dX8_isLetter_44
    · refine z_iconst X (v := (1 : Int32)) dX8_isLetter_27 (by decide) ?_
      refine z_goto X (tgt := 44) dX8_isLetter_28 (by decide) ?_
      subst hQ; exact z_zretc X hlocks hr (by decide) dX8_isLetter_44
theorem zw_538 : Cond.methodLink RX8 162 yX8_isLetter ∈ wsL_law := zr_12 _ (by decide +kernel)
theorem zw_539 : Cond.instanceMethod yX8_isLetter ∈ wsL_law := zr_12 _ (by decide +kernel)
theorem zw_540 : Cond.selects RX8 yX8_isLetter yX8_isLetter ∈ wsL_law := zr_12 _ (by decide +kernel)
theorem zw_541 : Cond.code yX8_isLetter cX8_isLetter 3 (some .boolean) ∈ wsL_law := zr_12 _ (by decide +kernel)
theorem hk_X8_162 : ∀ w ∈ ([Cond.methodLink RX8 162 yX8_isLetter, Cond.instanceMethod yX8_isLetter, Cond.selects RX8 yX8_isLetter yX8_isLetter, Cond.initialized RX8, Cond.code yX8_isLetter cX8_isLetter 3 (some .boolean)] : List Cond), w ∈ wsL_law := List.forall_mem_cons.mpr ⟨zw_538, List.forall_mem_cons.mpr ⟨zw_539, List.forall_mem_cons.mpr ⟨zw_540, List.forall_mem_cons.mpr ⟨zw_525, List.forall_mem_cons.mpr ⟨zw_541, fun _ h => absurd h List.not_mem_nil⟩⟩⟩⟩⟩
theorem hd_X8_isLetter : yX8_isLetter.cls = RX8 ∧ yX8_isLetter.cls ≠ "java/lang/invoke/MethodHandle" ∧ yX8_isLetter.cls ≠ "java/lang/invoke/VarHandle" ∧ (parseMethodDescriptor yX8_isLetter.desc).map (fun d => d.parameters.length) = some 2 := by decide +kernel
abbrev rmX8_isWord : Room := { frames := 3, cells := 0, slots := 0, locals := 83 }
def fX8_isWord_j112 (this : Nat) (st : zS) : Option (Int32 × zS) :=
  some ((0 : Int32), st)
def fX8_isWord (this : Nat) (a1 : Int32) (a2 : Int32) (a3 : Int32) (a4 : Int32) (a5 : Int32) (a6 : Int32) (a7 : Int32) (a8 : Int32) (st : zS) : Option (Int32 × zS) :=
  (zok spM st (some this) 8).bind fun o1 => if (st.2.1 o1 26) = 0 then ((zok spM st (some this) 8).bind fun o2 => if (st.2.1 o2 22) = (1 : Int32) then ((zok spM st (some this) 8).bind fun o3 => (zok spM st (some this) 8).bind fun o4 => if ((st.2.1 o4 23) + (8 : Int32)) < (st.2.1 o3 21) then (fX8_isWord_j112 this st) else ((zok spM st (some this) 8).bind fun o20 => (fX8_isLetter o20 (0 : Int32) a1 st).bind fun q5 => if q5.1 = 0 then (fX8_isWord_j112 this q5.2) else ((zok spM q5.2 (some this) 8).bind fun o19 => (fX8_isLetter o19 (1 : Int32) a2 q5.2).bind fun q6 => if q6.1 = 0 then (fX8_isWord_j112 this q6.2) else ((zok spM q6.2 (some this) 8).bind fun o18 => (fX8_isLetter o18 (2 : Int32) a3 q6.2).bind fun q7 => if q7.1 = 0 then (fX8_isWord_j112 this q7.2) else ((zok spM q7.2 (some this) 8).bind fun o17 => (fX8_isLetter o17 (3 : Int32) a4 q7.2).bind fun q8 => if q8.1 = 0 then (fX8_isWord_j112 this q8.2) else ((zok spM q8.2 (some this) 8).bind fun o16 => (fX8_isLetter o16 (4 : Int32) a5 q8.2).bind fun q9 => if q9.1 = 0 then (fX8_isWord_j112 this q9.2) else ((zok spM q9.2 (some this) 8).bind fun o15 => (fX8_isLetter o15 (5 : Int32) a6 q9.2).bind fun q10 => if q10.1 = 0 then (fX8_isWord_j112 this q10.2) else ((zok spM q10.2 (some this) 8).bind fun o14 => (fX8_isLetter o14 (6 : Int32) a7 q10.2).bind fun q11 => if q11.1 = 0 then (fX8_isWord_j112 this q11.2) else ((zok spM q11.2 (some this) 8).bind fun o13 => (fX8_isLetter o13 (7 : Int32) a8 q11.2).bind fun q12 => if q12.1 = 0 then (fX8_isWord_j112 this q12.2) else (some ((1 : Int32), q12.2))))))))))) else (fX8_isWord_j112 this st)) else (fX8_isWord_j112 this st)
set_option maxRecDepth 100000 in
set_option maxHeartbeats 4000000 in
theorem kX8_isWord (l : Launch) (Z : zZ) (b : Nat) (x : Option Nat) (this : Nat) (a1 : Int32) (a2 : Int32) (a3 : Int32) (a4 : Int32) (a5 : Int32) (a6 : Int32) (a7 : Int32) (a8 : Int32) (st : zS) : zC l Z spM b x yX8_isWord (.code yX8_isWord cX8_isWord 9 (some .boolean)) (rmX8_isWord) rI [vP (some this), vI a1, vI a2, vI a3, vI a4, vI a5, vI a6, vI a7, vI a8] st (fX8_isWord this a1 a2 a3 a4 a5 a6 a7 a8 st) := by
  refine z_start (own := RX8) rfl (by decide +kernel) (Nat.le_of_ble_eq_true rfl) rfl (fun p e s m args below meth c res Q A X hK hr hlocks hQ => ?_)
  have J112 : ∀ (st : zS), zs p l e (rmX8_isWord) s m args below meth c Q Z spM b x A 9 0 0 res (fX8_isWord_j112 this st) 112 [] [] st := by
    intro  st
    rw [fX8_isWord_j112]
    refine z_iconst X (v := (0 : Int32)) dX8_isWord_112 (by decide) ?_
    subst hQ; exact z_zretc X hlocks hr (by decide) dX8_isWord_113
  rw [fX8_isWord]
  refine z_aload_n X (q := 0) dX8_isWord_0 rfl rfl ?_
  refine z_geti X hK (N := 46) (ci := 8) (k := 26) rfl (by decide) inlX8 (by decide) hf_X8_155 rfl spM_X8 rfl dX8_isWord_1 (fun o1 _ => ?_)
  refine z_if_ne X (tgt := 112) dX8_isWord_4 (by decide) (fun _ => ?_) (fun _ => ?_)
  · exact z_sub [] (J112  _) rfl
  · refine z_aload_n X (q := 0) dX8_isWord_7 rfl rfl ?_
    refine z_geti X hK (N := 46) (ci := 8) (k := 22) rfl (by decide) inlX8 (by decide) hf_X8_138 rfl spM_X8 rfl dX8_isWord_8 (fun o2 _ => ?_)
    refine z_iconst X (v := (1 : Int32)) dX8_isWord_11 (by decide) ?_
    refine z_icmp_ne X (tgt := 112) dX8_isWord_12 (by decide) (fun _ => ?_) (fun _ => ?_)
    · exact z_sub [] (J112  _) rfl
    · refine z_aload_n X (q := 0) dX8_isWord_15 rfl rfl ?_
      refine z_geti X hK (N := 46) (ci := 8) (k := 21) rfl (by decide) inlX8 (by decide) hf_X8_129 rfl spM_X8 rfl dX8_isWord_16 (fun o3 _ => ?_)
      refine z_aload_n X (q := 0) dX8_isWord_19 rfl rfl ?_
      refine z_geti X hK (N := 46) (ci := 8) (k := 23) rfl (by decide) inlX8 (by decide) hf_X8_135 rfl spM_X8 rfl dX8_isWord_20 (fun o4 _ => ?_)
      refine z_bipush X (v := (8 : Int32)) dX8_isWord_23 (by decide) ?_
      refine z_iadd X dX8_isWord_25 ?_
      refine z_icmp_gt X (tgt := 112) dX8_isWord_26 (by decide) (fun _ => ?_) (fun _ => ?_)
      · exact z_sub [] (J112  _) rfl
      · refine z_aload_n X (q := 0) dX8_isWord_29 rfl rfl ?_
        refine z_iconst X (v := (0 : Int32)) dX8_isWord_30 (by decide) ?_
        refine z_iload_n X (q := 1) dX8_isWord_31 rfl rfl ?_
        refine z_callV X hK (As := [vI (0 : Int32), vI a1]) (ci := 8) rfl (by decide) (fun o => (kX8_isLetter l Z  b x o _ _ _)) hk_X8_162 ⟨rfl, rfl⟩ hd_X8_isLetter ⟨Nat.le_of_ble_eq_true rfl, Nat.le_of_ble_eq_true rfl⟩ ⟨Nat.le_of_ble_eq_true rfl, Nat.le_of_ble_eq_true rfl⟩ rfl rfl (Nat.le_of_ble_eq_true rfl) dX8_isWord_32 (fun _ q5 _ => ?_)
        refine z_if_eq X (tgt := 112) dX8_isWord_35 (by decide) (fun _ => ?_) (fun _ => ?_)
        · exact z_sub [] (J112  _) rfl
        · refine z_aload_n X (q := 0) dX8_isWord_38 rfl rfl ?_
          refine z_iconst X (v := (1 : Int32)) dX8_isWord_39 (by decide) ?_
          refine z_iload_n X (q := 2) dX8_isWord_40 rfl rfl ?_
          refine z_callV X hK (As := [vI (1 : Int32), vI a2]) (ci := 8) rfl (by decide) (fun o => (kX8_isLetter l Z  b x o _ _ _)) hk_X8_162 ⟨rfl, rfl⟩ hd_X8_isLetter ⟨Nat.le_of_ble_eq_true rfl, Nat.le_of_ble_eq_true rfl⟩ ⟨Nat.le_of_ble_eq_true rfl, Nat.le_of_ble_eq_true rfl⟩ rfl rfl (Nat.le_of_ble_eq_true rfl) dX8_isWord_41 (fun _ q6 _ => ?_)
          refine z_if_eq X (tgt := 112) dX8_isWord_44 (by decide) (fun _ => ?_) (fun _ => ?_)
          · exact z_sub [] (J112  _) rfl
          · refine z_aload_n X (q := 0) dX8_isWord_47 rfl rfl ?_
            refine z_iconst X (v := (2 : Int32)) dX8_isWord_48 (by decide) ?_
            refine z_iload_n X (q := 3) dX8_isWord_49 rfl rfl ?_
            refine z_callV X hK (As := [vI (2 : Int32), vI a3]) (ci := 8) rfl (by decide) (fun o => (kX8_isLetter l Z  b x o _ _ _)) hk_X8_162 ⟨rfl, rfl⟩ hd_X8_isLetter ⟨Nat.le_of_ble_eq_true rfl, Nat.le_of_ble_eq_true rfl⟩ ⟨Nat.le_of_ble_eq_true rfl, Nat.le_of_ble_eq_true rfl⟩ rfl rfl (Nat.le_of_ble_eq_true rfl) dX8_isWord_50 (fun _ q7 _ => ?_)
            refine z_if_eq X (tgt := 112) dX8_isWord_53 (by decide) (fun _ => ?_) (fun _ => ?_)
            · exact z_sub [] (J112  _) rfl
            · refine z_aload_n X (q := 0) dX8_isWord_56 rfl rfl ?_
              refine z_iconst X (v := (3 : Int32)) dX8_isWord_57 (by decide) ?_
              refine z_iload X (q := 4) dX8_isWord_58 rfl ?_
              refine z_callV X hK (As := [vI (3 : Int32), vI a4]) (ci := 8) rfl (by decide) (fun o => (kX8_isLetter l Z  b x o _ _ _)) hk_X8_162 ⟨rfl, rfl⟩ hd_X8_isLetter ⟨Nat.le_of_ble_eq_true rfl, Nat.le_of_ble_eq_true rfl⟩ ⟨Nat.le_of_ble_eq_true rfl, Nat.le_of_ble_eq_true rfl⟩ rfl rfl (Nat.le_of_ble_eq_true rfl) dX8_isWord_60 (fun _ q8 _ => ?_)
              refine z_if_eq X (tgt := 112) dX8_isWord_63 (by decide) (fun _ => ?_) (fun _ => ?_)
              · exact z_sub [] (J112  _) rfl
              · refine z_aload_n X (q := 0) dX8_isWord_66 rfl rfl ?_
                refine z_iconst X (v := (4 : Int32)) dX8_isWord_67 (by decide) ?_
                refine z_iload X (q := 5) dX8_isWord_68 rfl ?_
                refine z_callV X hK (As := [vI (4 : Int32), vI a5]) (ci := 8) rfl (by decide) (fun o => (kX8_isLetter l Z  b x o _ _ _)) hk_X8_162 ⟨rfl, rfl⟩ hd_X8_isLetter ⟨Nat.le_of_ble_eq_true rfl, Nat.le_of_ble_eq_true rfl⟩ ⟨Nat.le_of_ble_eq_true rfl, Nat.le_of_ble_eq_true rfl⟩ rfl rfl (Nat.le_of_ble_eq_true rfl) dX8_isWord_70 (fun _ q9 _ => ?_)
                refine z_if_eq X (tgt := 112) dX8_isWord_73 (by decide) (fun _ => ?_) (fun _ => ?_)
                · exact z_sub [] (J112  _) rfl
                · refine z_aload_n X (q := 0) dX8_isWord_76 rfl rfl ?_
                  refine z_iconst X (v := (5 : Int32)) dX8_isWord_77 (by decide) ?_
                  refine z_iload X (q := 6) dX8_isWord_78 rfl ?_
                  refine z_callV X hK (As := [vI (5 : Int32), vI a6]) (ci := 8) rfl (by decide) (fun o => (kX8_isLetter l Z  b x o _ _ _)) hk_X8_162 ⟨rfl, rfl⟩ hd_X8_isLetter ⟨Nat.le_of_ble_eq_true rfl, Nat.le_of_ble_eq_true rfl⟩ ⟨Nat.le_of_ble_eq_true rfl, Nat.le_of_ble_eq_true rfl⟩ rfl rfl (Nat.le_of_ble_eq_true rfl) dX8_isWord_80 (fun _ q10 _ => ?_)
                  refine z_if_eq X (tgt := 112) dX8_isWord_83 (by decide) (fun _ => ?_) (fun _ => ?_)
                  · exact z_sub [] (J112  _) rfl
                  · refine z_aload_n X (q := 0) dX8_isWord_86 rfl rfl ?_
                    refine z_bipush X (v := (6 : Int32)) dX8_isWord_87 (by decide) ?_
                    refine z_iload X (q := 7) dX8_isWord_89 rfl ?_
                    refine z_callV X hK (As := [vI (6 : Int32), vI a7]) (ci := 8) rfl (by decide) (fun o => (kX8_isLetter l Z  b x o _ _ _)) hk_X8_162 ⟨rfl, rfl⟩ hd_X8_isLetter ⟨Nat.le_of_ble_eq_true rfl, Nat.le_of_ble_eq_true rfl⟩ ⟨Nat.le_of_ble_eq_true rfl, Nat.le_of_ble_eq_true rfl⟩ rfl rfl (Nat.le_of_ble_eq_true rfl) dX8_isWord_91 (fun _ q11 _ => ?_)
                    refine z_if_eq X (tgt := 112) dX8_isWord_94 (by decide) (fun _ => ?_) (fun _ => ?_)
                    · exact z_sub [] (J112  _) rfl
                    · refine z_aload_n X (q := 0) dX8_isWord_97 rfl rfl ?_
                      refine z_bipush X (v := (7 : Int32)) dX8_isWord_98 (by decide) ?_
                      refine z_iload X (q := 8) dX8_isWord_100 rfl ?_
                      refine z_callV X hK (As := [vI (7 : Int32), vI a8]) (ci := 8) rfl (by decide) (fun o => (kX8_isLetter l Z  b x o _ _ _)) hk_X8_162 ⟨rfl, rfl⟩ hd_X8_isLetter ⟨Nat.le_of_ble_eq_true rfl, Nat.le_of_ble_eq_true rfl⟩ ⟨Nat.le_of_ble_eq_true rfl, Nat.le_of_ble_eq_true rfl⟩ rfl rfl (Nat.le_of_ble_eq_true rfl) dX8_isWord_102 (fun _ q12 _ => ?_)
                      refine z_if_eq X (tgt := 112) dX8_isWord_105 (by decide) (fun _ => ?_) (fun _ => ?_)
                      · exact z_sub [] (J112  _) rfl
                      · refine z_iconst X (v := (1 : Int32)) dX8_isWord_108 (by decide) ?_
                        refine z_goto X (tgt := 113) dX8_isWord_109 (by decide) ?_
                        subst hQ; exact z_zretc X hlocks hr (by decide) dX8_isWord_113
theorem zw_542 : Cond.methodLink RX8 169 yX8_fail ∈ wsL_law := zr_12 _ (by decide +kernel)
theorem zw_543 : Cond.instanceMethod yX8_fail ∈ wsL_law := zr_12 _ (by decide +kernel)
theorem zw_544 : Cond.selects RX8 yX8_fail yX8_fail ∈ wsL_law := zr_12 _ (by decide +kernel)
theorem zw_545 : Cond.code yX8_fail cX8_fail 1 none ∈ wsL_law := zr_12 _ (by decide +kernel)
theorem hk_X8_169 : ∀ w ∈ ([Cond.methodLink RX8 169 yX8_fail, Cond.instanceMethod yX8_fail, Cond.selects RX8 yX8_fail yX8_fail, Cond.initialized RX8, Cond.code yX8_fail cX8_fail 1 none] : List Cond), w ∈ wsL_law := List.forall_mem_cons.mpr ⟨zw_542, List.forall_mem_cons.mpr ⟨zw_543, List.forall_mem_cons.mpr ⟨zw_544, List.forall_mem_cons.mpr ⟨zw_525, List.forall_mem_cons.mpr ⟨zw_545, fun _ h => absurd h List.not_mem_nil⟩⟩⟩⟩⟩
theorem zw_546 : Cond.methodLink RX8 175 yX8_isWord ∈ wsL_law := zr_12 _ (by decide +kernel)
theorem zw_547 : Cond.instanceMethod yX8_isWord ∈ wsL_law := zr_12 _ (by decide +kernel)
theorem zw_548 : Cond.selects RX8 yX8_isWord yX8_isWord ∈ wsL_law := zr_12 _ (by decide +kernel)
theorem zw_549 : Cond.code yX8_isWord cX8_isWord 9 (some .boolean) ∈ wsL_law := zr_12 _ (by decide +kernel)
theorem hk_X8_175 : ∀ w ∈ ([Cond.methodLink RX8 175 yX8_isWord, Cond.instanceMethod yX8_isWord, Cond.selects RX8 yX8_isWord yX8_isWord, Cond.initialized RX8, Cond.code yX8_isWord cX8_isWord 9 (some .boolean)] : List Cond), w ∈ wsL_law := List.forall_mem_cons.mpr ⟨zw_546, List.forall_mem_cons.mpr ⟨zw_547, List.forall_mem_cons.mpr ⟨zw_548, List.forall_mem_cons.mpr ⟨zw_525, List.forall_mem_cons.mpr ⟨zw_549, fun _ h => absurd h List.not_mem_nil⟩⟩⟩⟩⟩
theorem hd_X8_fail : yX8_fail.cls = RX8 ∧ yX8_fail.cls ≠ "java/lang/invoke/MethodHandle" ∧ yX8_fail.cls ≠ "java/lang/invoke/VarHandle" ∧ (parseMethodDescriptor yX8_fail.desc).map (fun d => d.parameters.length) = some 0 := by decide +kernel
theorem hd_X8_isWord : yX8_isWord.cls = RX8 ∧ yX8_isWord.cls ≠ "java/lang/invoke/MethodHandle" ∧ yX8_isWord.cls ≠ "java/lang/invoke/VarHandle" ∧ (parseMethodDescriptor yX8_isWord.desc).map (fun d => d.parameters.length) = some 8 := by decide +kernel
theorem zw_550 : Cond.fieldLink RX8 179 "WellGivesOtherModel" "ofThing" "I" ∈ wsL_law := zr_10 _ (by decide +kernel)
theorem hf_X8_179 : Cond.fieldLink RX8 179 "WellGivesOtherModel" "ofThing" "I" ∈ wsL_law := zw_550
theorem zw_551 : Cond.fieldLink RX8 182 "WellGivesOtherModel" "ofWords" "I" ∈ wsL_law := zr_10 _ (by decide +kernel)
theorem hf_X8_182 : Cond.fieldLink RX8 182 "WellGivesOtherModel" "ofWords" "I" ∈ wsL_law := zw_551
theorem zw_552 : Cond.fieldLink RX8 185 "WellGivesOtherModel" "ofWays" "I" ∈ wsL_law := zr_11 _ (by decide +kernel)
theorem hf_X8_185 : Cond.fieldLink RX8 185 "WellGivesOtherModel" "ofWays" "I" ∈ wsL_law := zw_552
theorem zw_553 : Cond.fieldLink RX8 188 "WellGivesOtherModel" "ofNumber" "I" ∈ wsL_law := zr_11 _ (by decide +kernel)
theorem hf_X8_188 : Cond.fieldLink RX8 188 "WellGivesOtherModel" "ofNumber" "I" ∈ wsL_law := zw_553
theorem zw_554 : Cond.fieldLink RX8 191 "WellGivesOtherModel" "ofDay" "I" ∈ wsL_law := zr_11 _ (by decide +kernel)
theorem hf_X8_191 : Cond.fieldLink RX8 191 "WellGivesOtherModel" "ofDay" "I" ∈ wsL_law := zw_554
theorem zw_555 : Cond.fieldLink RX8 194 "WellGivesOtherModel" "ofHad" "I" ∈ wsL_law := zr_11 _ (by decide +kernel)
theorem hf_X8_194 : Cond.fieldLink RX8 194 "WellGivesOtherModel" "ofHad" "I" ∈ wsL_law := zw_555
abbrev rmX8_name : Room := { frames := 4, cells := 0, slots := 0, locals := 111 }
def fX8_name (this : Nat) (st : zS) : Option (Int32 × zS) :=
  (zok spM st (some this) 8).bind fun o20 => (fX8_isWord o20 (116 : Int32) (104 : Int32) (105 : Int32) (110 : Int32) (103 : Int32) (0 : Int32) (0 : Int32) (0 : Int32) st).bind fun q1 => if q1.1 = 0 then ((zok spM q1.2 (some this) 8).bind fun o18 => (fX8_isWord o18 (119 : Int32) (111 : Int32) (114 : Int32) (100 : Int32) (115 : Int32) (0 : Int32) (0 : Int32) (0 : Int32) q1.2).bind fun q2 => if q2.1 = 0 then ((zok spM q2.2 (some this) 8).bind fun o16 => (fX8_isWord o16 (119 : Int32) (97 : Int32) (121 : Int32) (115 : Int32) (0 : Int32) (0 : Int32) (0 : Int32) (0 : Int32) q2.2).bind fun q3 => if q3.1 = 0 then ((zok spM q3.2 (some this) 8).bind fun o14 => (fX8_isWord o14 (110 : Int32) (117 : Int32) (109 : Int32) (98 : Int32) (101 : Int32) (114 : Int32) (0 : Int32) (0 : Int32) q3.2).bind fun q4 => if q4.1 = 0 then ((zok spM q4.2 (some this) 8).bind fun o12 => (fX8_isWord o12 (100 : Int32) (97 : Int32) (121 : Int32) (0 : Int32) (0 : Int32) (0 : Int32) (0 : Int32) (0 : Int32) q4.2).bind fun q5 => if q5.1 = 0 then ((zok spM q5.2 (some this) 8).bind fun o10 => (fX8_isWord o10 (104 : Int32) (97 : Int32) (100 : Int32) (0 : Int32) (0 : Int32) (0 : Int32) (0 : Int32) (0 : Int32) q5.2).bind fun q6 => if q6.1 = 0 then ((zok spM q6.2 (some this) 8).bind fun o8 => (fX8_fail o8 q6.2).bind fun q7 => some ((0 : Int32), q7.2)) else ((zok spM q6.2 (some this) 8).bind fun o9 => some ((q6.2.2.1 o9 18), q6.2))) else ((zok spM q5.2 (some this) 8).bind fun o11 => some ((q5.2.2.1 o11 17), q5.2))) else ((zok spM q4.2 (some this) 8).bind fun o13 => some ((q4.2.2.1 o13 16), q4.2))) else ((zok spM q3.2 (some this) 8).bind fun o15 => some ((q3.2.2.1 o15 15), q3.2))) else ((zok spM q2.2 (some this) 8).bind fun o17 => some ((q2.2.2.1 o17 14), q2.2))) else ((zok spM q1.2 (some this) 8).bind fun o19 => some ((q1.2.2.1 o19 13), q1.2))
set_option maxRecDepth 100000 in
set_option maxHeartbeats 4000000 in
theorem kX8_name (l : Launch) (Z : zZ) (b : Nat) (x : Option Nat) (this : Nat) (st : zS) : zC l Z spM b x yX8_name (.code yX8_name cX8_name 1 (some .int)) (rmX8_name) rI [vP (some this)] st (fX8_name this st) := by
  refine z_start (own := RX8) rfl (by decide +kernel) (Nat.le_of_ble_eq_true rfl) rfl (fun p e s m args below meth c res Q A X hK hr hlocks hQ => ?_)
  rw [fX8_name]
  refine z_aload_n X (q := 0) dX8_name_0 rfl rfl ?_
  refine z_bipush X (v := (116 : Int32)) dX8_name_1 (by decide) ?_
  refine z_bipush X (v := (104 : Int32)) dX8_name_3 (by decide) ?_
  refine z_bipush X (v := (105 : Int32)) dX8_name_5 (by decide) ?_
  refine z_bipush X (v := (110 : Int32)) dX8_name_7 (by decide) ?_
  refine z_bipush X (v := (103 : Int32)) dX8_name_9 (by decide) ?_
  refine z_iconst X (v := (0 : Int32)) dX8_name_11 (by decide) ?_
  refine z_iconst X (v := (0 : Int32)) dX8_name_12 (by decide) ?_
  refine z_iconst X (v := (0 : Int32)) dX8_name_13 (by decide) ?_
  refine z_callV X hK (As := [vI (116 : Int32), vI (104 : Int32), vI (105 : Int32), vI (110 : Int32), vI (103 : Int32), vI (0 : Int32), vI (0 : Int32), vI (0 : Int32)]) (ci := 8) rfl (by decide) (fun o => (kX8_isWord l Z  b x o _ _ _ _ _ _ _ _ _)) hk_X8_175 ⟨rfl, rfl⟩ hd_X8_isWord ⟨Nat.le_of_ble_eq_true rfl, Nat.le_of_ble_eq_true rfl⟩ ⟨Nat.le_of_ble_eq_true rfl, Nat.le_of_ble_eq_true rfl⟩ rfl rfl (Nat.le_of_ble_eq_true rfl) dX8_name_14 (fun _ q1 _ => ?_)
  refine z_if_eq X (tgt := 25) dX8_name_17 (by decide) (fun _ => ?_) (fun _ => ?_)
  · refine z_aload_n X (q := 0) dX8_name_25 rfl rfl ?_
    refine z_bipush X (v := (119 : Int32)) dX8_name_26 (by decide) ?_
    refine z_bipush X (v := (111 : Int32)) dX8_name_28 (by decide) ?_
    refine z_bipush X (v := (114 : Int32)) dX8_name_30 (by decide) ?_
    refine z_bipush X (v := (100 : Int32)) dX8_name_32 (by decide) ?_
    refine z_bipush X (v := (115 : Int32)) dX8_name_34 (by decide) ?_
    refine z_iconst X (v := (0 : Int32)) dX8_name_36 (by decide) ?_
    refine z_iconst X (v := (0 : Int32)) dX8_name_37 (by decide) ?_
    refine z_iconst X (v := (0 : Int32)) dX8_name_38 (by decide) ?_
    refine z_callV X hK (As := [vI (119 : Int32), vI (111 : Int32), vI (114 : Int32), vI (100 : Int32), vI (115 : Int32), vI (0 : Int32), vI (0 : Int32), vI (0 : Int32)]) (ci := 8) rfl (by decide) (fun o => (kX8_isWord l Z  b x o _ _ _ _ _ _ _ _ _)) hk_X8_175 ⟨rfl, rfl⟩ hd_X8_isWord ⟨Nat.le_of_ble_eq_true rfl, Nat.le_of_ble_eq_true rfl⟩ ⟨Nat.le_of_ble_eq_true rfl, Nat.le_of_ble_eq_true rfl⟩ rfl rfl (Nat.le_of_ble_eq_true rfl) dX8_name_39 (fun _ q2 _ => ?_)
    refine z_if_eq X (tgt := 50) dX8_name_42 (by decide) (fun _ => ?_) (fun _ => ?_)
    · refine z_aload_n X (q := 0) dX8_name_50 rfl rfl ?_
      refine z_bipush X (v := (119 : Int32)) dX8_name_51 (by decide) ?_
      refine z_bipush X (v := (97 : Int32)) dX8_name_53 (by decide) ?_
      refine z_bipush X (v := (121 : Int32)) dX8_name_55 (by decide) ?_
      refine z_bipush X (v := (115 : Int32)) dX8_name_57 (by decide) ?_
      refine z_iconst X (v := (0 : Int32)) dX8_name_59 (by decide) ?_
      refine z_iconst X (v := (0 : Int32)) dX8_name_60 (by decide) ?_
      refine z_iconst X (v := (0 : Int32)) dX8_name_61 (by decide) ?_
      refine z_iconst X (v := (0 : Int32)) dX8_name_62 (by decide) ?_
      refine z_callV X hK (As := [vI (119 : Int32), vI (97 : Int32), vI (121 : Int32), vI (115 : Int32), vI (0 : Int32), vI (0 : Int32), vI (0 : Int32), vI (0 : Int32)]) (ci := 8) rfl (by decide) (fun o => (kX8_isWord l Z  b x o _ _ _ _ _ _ _ _ _)) hk_X8_175 ⟨rfl, rfl⟩ hd_X8_isWord ⟨Nat.le_of_ble_eq_true rfl, Nat.le_of_ble_eq_true rfl⟩ ⟨Nat.le_of_ble_eq_true rfl, Nat.le_of_ble_eq_true rfl⟩ rfl rfl (Nat.le_of_ble_eq_true rfl) dX8_name_63 (fun _ q3 _ => ?_)
      refine z_if_eq X (tgt := 74) dX8_name_66 (by decide) (fun _ => ?_) (fun _ => ?_)
      · refine z_aload_n X (q := 0) dX8_name_74 rfl rfl ?_
        refine z_bipush X (v := (110 : Int32)) dX8_name_75 (by decide) ?_
        refine z_bipush X (v := (117 : Int32)) dX8_name_77 (by decide) ?_
        refine z_bipush X (v := (109 : Int32)) dX8_name_79 (by decide) ?_
        refine z_bipush X (v := (98 : Int32)) dX8_name_81 (by decide) ?_
        refine z_bipush X (v := (101 : Int32)) dX8_name_83 (by decide) ?_
        refine z_bipush X (v := (114 : Int32)) dX8_name_85 (by decide) ?_
        refine z_iconst X (v := (0 : Int32)) dX8_name_87 (by decide) ?_
        refine z_iconst X (v := (0 : Int32)) dX8_name_88 (by decide) ?_
        refine z_callV X hK (As := [vI (110 : Int32), vI (117 : Int32), vI (109 : Int32), vI (98 : Int32), vI (101 : Int32), vI (114 : Int32), vI (0 : Int32), vI (0 : Int32)]) (ci := 8) rfl (by decide) (fun o => (kX8_isWord l Z  b x o _ _ _ _ _ _ _ _ _)) hk_X8_175 ⟨rfl, rfl⟩ hd_X8_isWord ⟨Nat.le_of_ble_eq_true rfl, Nat.le_of_ble_eq_true rfl⟩ ⟨Nat.le_of_ble_eq_true rfl, Nat.le_of_ble_eq_true rfl⟩ rfl rfl (Nat.le_of_ble_eq_true rfl) dX8_name_89 (fun _ q4 _ => ?_)
        refine z_if_eq X (tgt := 100) dX8_name_92 (by decide) (fun _ => ?_) (fun _ => ?_)
        · refine z_aload_n X (q := 0) dX8_name_100 rfl rfl ?_
          refine z_bipush X (v := (100 : Int32)) dX8_name_101 (by decide) ?_
          refine z_bipush X (v := (97 : Int32)) dX8_name_103 (by decide) ?_
          refine z_bipush X (v := (121 : Int32)) dX8_name_105 (by decide) ?_
          refine z_iconst X (v := (0 : Int32)) dX8_name_107 (by decide) ?_
          refine z_iconst X (v := (0 : Int32)) dX8_name_108 (by decide) ?_
          refine z_iconst X (v := (0 : Int32)) dX8_name_109 (by decide) ?_
          refine z_iconst X (v := (0 : Int32)) dX8_name_110 (by decide) ?_
          refine z_iconst X (v := (0 : Int32)) dX8_name_111 (by decide) ?_
          refine z_callV X hK (As := [vI (100 : Int32), vI (97 : Int32), vI (121 : Int32), vI (0 : Int32), vI (0 : Int32), vI (0 : Int32), vI (0 : Int32), vI (0 : Int32)]) (ci := 8) rfl (by decide) (fun o => (kX8_isWord l Z  b x o _ _ _ _ _ _ _ _ _)) hk_X8_175 ⟨rfl, rfl⟩ hd_X8_isWord ⟨Nat.le_of_ble_eq_true rfl, Nat.le_of_ble_eq_true rfl⟩ ⟨Nat.le_of_ble_eq_true rfl, Nat.le_of_ble_eq_true rfl⟩ rfl rfl (Nat.le_of_ble_eq_true rfl) dX8_name_112 (fun _ q5 _ => ?_)
          refine z_if_eq X (tgt := 123) dX8_name_115 (by decide) (fun _ => ?_) (fun _ => ?_)
          · refine z_aload_n X (q := 0) dX8_name_123 rfl rfl ?_
            refine z_bipush X (v := (104 : Int32)) dX8_name_124 (by decide) ?_
            refine z_bipush X (v := (97 : Int32)) dX8_name_126 (by decide) ?_
            refine z_bipush X (v := (100 : Int32)) dX8_name_128 (by decide) ?_
            refine z_iconst X (v := (0 : Int32)) dX8_name_130 (by decide) ?_
            refine z_iconst X (v := (0 : Int32)) dX8_name_131 (by decide) ?_
            refine z_iconst X (v := (0 : Int32)) dX8_name_132 (by decide) ?_
            refine z_iconst X (v := (0 : Int32)) dX8_name_133 (by decide) ?_
            refine z_iconst X (v := (0 : Int32)) dX8_name_134 (by decide) ?_
            refine z_callV X hK (As := [vI (104 : Int32), vI (97 : Int32), vI (100 : Int32), vI (0 : Int32), vI (0 : Int32), vI (0 : Int32), vI (0 : Int32), vI (0 : Int32)]) (ci := 8) rfl (by decide) (fun o => (kX8_isWord l Z  b x o _ _ _ _ _ _ _ _ _)) hk_X8_175 ⟨rfl, rfl⟩ hd_X8_isWord ⟨Nat.le_of_ble_eq_true rfl, Nat.le_of_ble_eq_true rfl⟩ ⟨Nat.le_of_ble_eq_true rfl, Nat.le_of_ble_eq_true rfl⟩ rfl rfl (Nat.le_of_ble_eq_true rfl) dX8_name_135 (fun _ q6 _ => ?_)
            refine z_if_eq X (tgt := 146) dX8_name_138 (by decide) (fun _ => ?_) (fun _ => ?_)
            · refine z_aload_n X (q := 0) dX8_name_146 rfl rfl ?_
              refine z_callV X hK (As := []) (ci := 8) rfl (by decide) (fun o => (kX8_fail l Z  b x o _)) hk_X8_169 ⟨rfl, rfl⟩ hd_X8_fail ⟨Nat.le_of_ble_eq_true rfl, Nat.le_of_ble_eq_true rfl⟩ ⟨Nat.le_of_ble_eq_true rfl, Nat.le_of_ble_eq_true rfl⟩ rfl rfl (Nat.le_of_ble_eq_true rfl) dX8_name_147 (fun _ q7 _ => ?_)
              refine z_iconst X (v := (0 : Int32)) dX8_name_150 (by decide) ?_
              subst hQ; exact z_iret X hlocks hr dX8_name_151
            · refine z_aload_n X (q := 0) dX8_name_141 rfl rfl ?_
              refine z_geti X hK (N := 46) (ci := 8) (k := 18) rfl (by decide) inlX8 (by decide) hf_X8_194 rfl spM_X8 rfl dX8_name_142 (fun o9 _ => ?_)
              subst hQ; exact z_iret X hlocks hr dX8_name_145
          · refine z_aload_n X (q := 0) dX8_name_118 rfl rfl ?_
            refine z_geti X hK (N := 46) (ci := 8) (k := 17) rfl (by decide) inlX8 (by decide) hf_X8_191 rfl spM_X8 rfl dX8_name_119 (fun o11 _ => ?_)
            subst hQ; exact z_iret X hlocks hr dX8_name_122
        · refine z_aload_n X (q := 0) dX8_name_95 rfl rfl ?_
          refine z_geti X hK (N := 46) (ci := 8) (k := 16) rfl (by decide) inlX8 (by decide) hf_X8_188 rfl spM_X8 rfl dX8_name_96 (fun o13 _ => ?_)
          subst hQ; exact z_iret X hlocks hr dX8_name_99
      · refine z_aload_n X (q := 0) dX8_name_69 rfl rfl ?_
        refine z_geti X hK (N := 46) (ci := 8) (k := 15) rfl (by decide) inlX8 (by decide) hf_X8_185 rfl spM_X8 rfl dX8_name_70 (fun o15 _ => ?_)
        subst hQ; exact z_iret X hlocks hr dX8_name_73
    · refine z_aload_n X (q := 0) dX8_name_45 rfl rfl ?_
      refine z_geti X hK (N := 46) (ci := 8) (k := 14) rfl (by decide) inlX8 (by decide) hf_X8_182 rfl spM_X8 rfl dX8_name_46 (fun o17 _ => ?_)
      subst hQ; exact z_iret X hlocks hr dX8_name_49
  · refine z_aload_n X (q := 0) dX8_name_20 rfl rfl ?_
    refine z_geti X hK (N := 46) (ci := 8) (k := 13) rfl (by decide) inlX8 (by decide) hf_X8_179 rfl spM_X8 rfl dX8_name_21 (fun o19 _ => ?_)
    subst hQ; exact z_iret X hlocks hr dX8_name_24
theorem zw_556 : Cond.methodLink RX8 172 yX8_next ∈ wsL_law := zr_11 _ (by decide +kernel)
theorem zw_557 : Cond.instanceMethod yX8_next ∈ wsL_law := zr_11 _ (by decide +kernel)
theorem zw_558 : Cond.selects RX8 yX8_next yX8_next ∈ wsL_law := zr_11 _ (by decide +kernel)
theorem zw_559 : Cond.code yX8_next cX8_next 3 none ∈ wsL_law := zr_11 _ (by decide +kernel)
theorem hk_X8_172 : ∀ w ∈ ([Cond.methodLink RX8 172 yX8_next, Cond.instanceMethod yX8_next, Cond.selects RX8 yX8_next yX8_next, Cond.initialized RX8, Cond.code yX8_next cX8_next 3 none] : List Cond), w ∈ wsL_law := List.forall_mem_cons.mpr ⟨zw_556, List.forall_mem_cons.mpr ⟨zw_557, List.forall_mem_cons.mpr ⟨zw_558, List.forall_mem_cons.mpr ⟨zw_525, List.forall_mem_cons.mpr ⟨zw_559, fun _ h => absurd h List.not_mem_nil⟩⟩⟩⟩⟩
theorem hd_X8_next : yX8_next.cls = RX8 ∧ yX8_next.cls ≠ "java/lang/invoke/MethodHandle" ∧ yX8_next.cls ≠ "java/lang/invoke/VarHandle" ∧ (parseMethodDescriptor yX8_next.desc).map (fun d => d.parameters.length) = some 0 := by decide +kernel
theorem zw_560 : Cond.fieldLink RX8 166 "WellGivesOtherModel" "open" "I" ∈ wsL_law := zr_11 _ (by decide +kernel)
theorem hf_X8_166 : Cond.fieldLink RX8 166 "WellGivesOtherModel" "open" "I" ∈ wsL_law := zw_560
abbrev rmX8_opens : Room := { frames := 3, cells := 0, slots := 0, locals := 87 }
def fX8_opens (this : Nat) (st : zS) : Option (Int32 × zS) :=
  (zok spM st (some this) 8).bind fun o1 => if (st.2.1 o1 25) = (5 : Int32) then ((zok spM st (some this) 8).bind fun o8 => (fX8_fail o8 st).bind fun q7 => some ((0 : Int32), q7.2)) else ((zok spM st (some this) 8).bind fun o2 => (zok spM st (some this) 8).bind fun o3 => zlet (zp st o3 25 ((st.2.1 o2 25) + (1 : Int32))) fun st4 => (zok spM st4 (some this) 8).bind fun o6 => (fX8_next o6 st4).bind fun q5 => some ((1 : Int32), q5.2))
set_option maxRecDepth 100000 in
set_option maxHeartbeats 4000000 in
theorem kX8_opens (l : Launch) (Z : zZ) (b : Nat) (x : Option Nat) (this : Nat) (st : zS) : zC l Z spM b x yX8_opens (.code yX8_opens cX8_opens 1 (some .boolean)) (rmX8_opens) rI [vP (some this)] st (fX8_opens this st) := by
  refine z_start (own := RX8) rfl (by decide +kernel) (Nat.le_of_ble_eq_true rfl) rfl (fun p e s m args below meth c res Q A X hK hr hlocks hQ => ?_)
  rw [fX8_opens]
  refine z_aload_n X (q := 0) dX8_opens_0 rfl rfl ?_
  refine z_geti X hK (N := 46) (ci := 8) (k := 25) rfl (by decide) inlX8 (by decide) hf_X8_166 rfl spM_X8 rfl dX8_opens_1 (fun o1 _ => ?_)
  refine z_iconst X (v := (5 : Int32)) dX8_opens_4 (by decide) ?_
  refine z_icmp_ne X (tgt := 14) dX8_opens_5 (by decide) (fun _ => ?_) (fun _ => ?_)
  · refine z_aload_n X (q := 0) dX8_opens_14 rfl rfl ?_
    refine z_dup X dX8_opens_15 rfl ?_
    refine z_geti X hK (N := 46) (ci := 8) (k := 25) rfl (by decide) inlX8 (by decide) hf_X8_166 rfl spM_X8 rfl dX8_opens_16 (fun o2 _ => ?_)
    refine z_iconst X (v := (1 : Int32)) dX8_opens_19 (by decide) ?_
    refine z_iadd X dX8_opens_20 ?_
    refine z_puti X hK (N := 46) (ci := 8) (k := 25) rfl (by decide) inlX8 tyX8 tyX8_ok nmX8 (by decide) hf_X8_166 rfl rfl spM_X8 rfl (by decide +kernel) dX8_opens_21 (fun o3 st4 _ => ?_)
    refine z_aload_n X (q := 0) dX8_opens_24 rfl rfl ?_
    refine z_callV X hK (As := []) (ci := 8) rfl (by decide) (fun o => (kX8_next l Z  b x o _)) hk_X8_172 ⟨rfl, rfl⟩ hd_X8_next ⟨Nat.le_of_ble_eq_true rfl, Nat.le_of_ble_eq_true rfl⟩ ⟨Nat.le_of_ble_eq_true rfl, Nat.le_of_ble_eq_true rfl⟩ rfl rfl (Nat.le_of_ble_eq_true rfl) dX8_opens_25 (fun _ q5 _ => ?_)
    refine z_iconst X (v := (1 : Int32)) dX8_opens_28 (by decide) ?_
    subst hQ; exact z_zretc X hlocks hr (by decide) dX8_opens_29
  · refine z_aload_n X (q := 0) dX8_opens_8 rfl rfl ?_
    refine z_callV X hK (As := []) (ci := 8) rfl (by decide) (fun o => (kX8_fail l Z  b x o _)) hk_X8_169 ⟨rfl, rfl⟩ hd_X8_fail ⟨Nat.le_of_ble_eq_true rfl, Nat.le_of_ble_eq_true rfl⟩ ⟨Nat.le_of_ble_eq_true rfl, Nat.le_of_ble_eq_true rfl⟩ rfl rfl (Nat.le_of_ble_eq_true rfl) dX8_opens_9 (fun _ q7 _ => ?_)
    refine z_iconst X (v := (0 : Int32)) dX8_opens_12 (by decide) ?_
    subst hQ; exact z_zretc X hlocks hr (by decide) dX8_opens_13
theorem zw_561 : Cond.methodLink RX8 197 yX8_isSign ∈ wsL_law := zr_15 _ (by decide +kernel)
theorem zw_562 : Cond.instanceMethod yX8_isSign ∈ wsL_law := zr_15 _ (by decide +kernel)
theorem zw_563 : Cond.selects RX8 yX8_isSign yX8_isSign ∈ wsL_law := zr_15 _ (by decide +kernel)
theorem zw_564 : Cond.code yX8_isSign cX8_isSign 2 (some .boolean) ∈ wsL_law := zr_15 _ (by decide +kernel)
theorem hk_X8_197 : ∀ w ∈ ([Cond.methodLink RX8 197 yX8_isSign, Cond.instanceMethod yX8_isSign, Cond.selects RX8 yX8_isSign yX8_isSign, Cond.initialized RX8, Cond.code yX8_isSign cX8_isSign 2 (some .boolean)] : List Cond), w ∈ wsL_law := List.forall_mem_cons.mpr ⟨zw_561, List.forall_mem_cons.mpr ⟨zw_562, List.forall_mem_cons.mpr ⟨zw_563, List.forall_mem_cons.mpr ⟨zw_525, List.forall_mem_cons.mpr ⟨zw_564, fun _ h => absurd h List.not_mem_nil⟩⟩⟩⟩⟩
theorem zw_565 : Cond.methodLink RX8 200 yX8_opens ∈ wsL_law := zr_13 _ (by decide +kernel)
theorem zw_566 : Cond.instanceMethod yX8_opens ∈ wsL_law := zr_13 _ (by decide +kernel)
theorem zw_567 : Cond.selects RX8 yX8_opens yX8_opens ∈ wsL_law := zr_13 _ (by decide +kernel)
theorem zw_568 : Cond.code yX8_opens cX8_opens 1 (some .boolean) ∈ wsL_law := zr_13 _ (by decide +kernel)
theorem hk_X8_200 : ∀ w ∈ ([Cond.methodLink RX8 200 yX8_opens, Cond.instanceMethod yX8_opens, Cond.selects RX8 yX8_opens yX8_opens, Cond.initialized RX8, Cond.code yX8_opens cX8_opens 1 (some .boolean)] : List Cond), w ∈ wsL_law := List.forall_mem_cons.mpr ⟨zw_565, List.forall_mem_cons.mpr ⟨zw_566, List.forall_mem_cons.mpr ⟨zw_567, List.forall_mem_cons.mpr ⟨zw_525, List.forall_mem_cons.mpr ⟨zw_568, fun _ h => absurd h List.not_mem_nil⟩⟩⟩⟩⟩
theorem zw_569 : Cond.methodLink RX8 204 yX8_name ∈ wsL_law := zr_15 _ (by decide +kernel)
theorem zw_570 : Cond.instanceMethod yX8_name ∈ wsL_law := zr_15 _ (by decide +kernel)
theorem zw_571 : Cond.selects RX8 yX8_name yX8_name ∈ wsL_law := zr_15 _ (by decide +kernel)
theorem zw_572 : Cond.code yX8_name cX8_name 1 (some .int) ∈ wsL_law := zr_15 _ (by decide +kernel)
theorem hk_X8_204 : ∀ w ∈ ([Cond.methodLink RX8 204 yX8_name, Cond.instanceMethod yX8_name, Cond.selects RX8 yX8_name yX8_name, Cond.initialized RX8, Cond.code yX8_name cX8_name 1 (some .int)] : List Cond), w ∈ wsL_law := List.forall_mem_cons.mpr ⟨zw_569, List.forall_mem_cons.mpr ⟨zw_570, List.forall_mem_cons.mpr ⟨zw_571, List.forall_mem_cons.mpr ⟨zw_525, List.forall_mem_cons.mpr ⟨zw_572, fun _ h => absurd h List.not_mem_nil⟩⟩⟩⟩⟩
theorem hd_X8_isSign : yX8_isSign.cls = RX8 ∧ yX8_isSign.cls ≠ "java/lang/invoke/MethodHandle" ∧ yX8_isSign.cls ≠ "java/lang/invoke/VarHandle" ∧ (parseMethodDescriptor yX8_isSign.desc).map (fun d => d.parameters.length) = some 1 := by decide +kernel
theorem hd_X8_name : yX8_name.cls = RX8 ∧ yX8_name.cls ≠ "java/lang/invoke/MethodHandle" ∧ yX8_name.cls ≠ "java/lang/invoke/VarHandle" ∧ (parseMethodDescriptor yX8_name.desc).map (fun d => d.parameters.length) = some 0 := by decide +kernel
theorem hd_X8_opens : yX8_opens.cls = RX8 ∧ yX8_opens.cls ≠ "java/lang/invoke/MethodHandle" ∧ yX8_opens.cls ≠ "java/lang/invoke/VarHandle" ∧ (parseMethodDescriptor yX8_opens.desc).map (fun d => d.parameters.length) = some 0 := by decide +kernel
abbrev rmX8_atom5 : Room := { frames := 5, cells := 0, slots := 0, locals := 131 }
def fX8_atom5_j98 (this : Nat) (y1 : Int32) (st : zS) : Option (Int32 × zS) :=
  (zok spM st (some this) 8).bind fun o2 => (fX8_fail o2 st).bind fun q1 => some (y1, q1.2)
def fX8_atom5_j64 (this : Nat) (y1 : Int32) (st : zS) : Option (Int32 × zS) :=
  (zok spM st (some this) 8).bind fun o3 => if (st.2.1 o3 26) = 0 then ((zok spM st (some this) 8).bind fun o4 => if (st.2.1 o4 22) = (1 : Int32) then ((zok spM st (some this) 8).bind fun o10 => (fX8_name o10 st).bind fun q5 => zlet (q5.1) fun v6 => (zok spM q5.2 (some this) 8).bind fun o7 => if (q5.2.2.1 o7 26) = 0 then ((zok spM q5.2 (some this) 8).bind fun o9 => (fX8_next o9 q5.2).bind fun q8 => some (v6, q8.2)) else (some (v6, q5.2))) else (fX8_atom5_j98 this y1 st)) else (fX8_atom5_j98 this y1 st)
def fX8_atom5 (this : Nat) (st : zS) : Option (Int32 × zS) :=
  (zok spM st (some this) 8).bind fun o24 => (fX8_isSign o24 (45 : Int32) st).bind fun q11 => if q11.1 = 0 then ((zok spM q11.2 (some this) 8).bind fun o21 => (fX8_isSign o21 (40 : Int32) q11.2).bind fun q12 => if q12.1 = 0 then ((zok spM q12.2 (some this) 8).bind fun o13 => if (q12.2.2.1 o13 26) = 0 then ((zok spM q12.2 (some this) 8).bind fun o14 => if (q12.2.2.1 o14 22) = (2 : Int32) then ((zok spM q12.2 (some this) 8).bind fun o15 => zlet (((q12.2.2.2.1 o15).toInt32)) fun v16 => (zok spM q12.2 (some this) 8).bind fun o18 => (fX8_next o18 q12.2).bind fun q17 => some (v16, q17.2)) else (fX8_atom5_j64 this (0 : Int32) q12.2)) else (fX8_atom5_j64 this (0 : Int32) q12.2)) else ((zok spM q12.2 (some this) 8).bind fun o20 => (fX8_opens o20 q12.2).bind fun q19 => some ((0 : Int32), q19.2))) else ((zok spM q11.2 (some this) 8).bind fun o23 => (fX8_opens o23 q11.2).bind fun q22 => some ((0 : Int32), q22.2))
set_option maxRecDepth 100000 in
set_option maxHeartbeats 4000000 in
theorem kX8_atom5 (l : Launch) (Z : zZ) (b : Nat) (x : Option Nat) (this : Nat) (st : zS) : zC l Z spM b x yX8_atom5 (.code yX8_atom5 cX8_atom5 2 (some .int)) (rmX8_atom5) rI [vP (some this)] st (fX8_atom5 this st) := by
  refine z_start (own := RX8) rfl (by decide +kernel) (Nat.le_of_ble_eq_true rfl) rfl (fun p e s m args below meth c res Q A X hK hr hlocks hQ => ?_)
  have J98 : ∀ (y1 : Int32) (st : zS), zs p l e (rmX8_atom5) s m args below meth c Q Z spM b x A 2 0 0 res (fX8_atom5_j98 this y1 st) 98 [(0, vP (some this)), (1, vI y1)] [] st := by
    intro y1 st
    rw [fX8_atom5_j98]
    refine z_aload_n X (q := 0) dX8_atom5_98 rfl rfl ?_
    refine z_callV X hK (As := []) (ci := 8) rfl (by decide) (fun o => (kX8_fail l Z  b x o _)) hk_X8_169 ⟨rfl, rfl⟩ hd_X8_fail ⟨Nat.le_of_ble_eq_true rfl, Nat.le_of_ble_eq_true rfl⟩ ⟨Nat.le_of_ble_eq_true rfl, Nat.le_of_ble_eq_true rfl⟩ rfl rfl (Nat.le_of_ble_eq_true rfl) dX8_atom5_99 (fun _ q1 _ => ?_)
    refine z_iload_n X (q := 1) dX8_atom5_102 rfl rfl ?_
    subst hQ; exact z_iret X hlocks hr dX8_atom5_103
  have J64 : ∀ (y1 : Int32) (st : zS), zs p l e (rmX8_atom5) s m args below meth c Q Z spM b x A 2 0 0 res (fX8_atom5_j64 this y1 st) 64 [(0, vP (some this)), (1, vI y1)] [] st := by
    intro y1 st
    rw [fX8_atom5_j64]
    refine z_aload_n X (q := 0) dX8_atom5_64 rfl rfl ?_
    refine z_geti X hK (N := 46) (ci := 8) (k := 26) rfl (by decide) inlX8 (by decide) hf_X8_155 rfl spM_X8 rfl dX8_atom5_65 (fun o3 _ => ?_)
    refine z_if_ne X (tgt := 98) dX8_atom5_68 (by decide) (fun _ => ?_) (fun _ => ?_)
    · exact z_sub [0, 1] (J98 _ _) rfl
    · refine z_aload_n X (q := 0) dX8_atom5_71 rfl rfl ?_
      refine z_geti X hK (N := 46) (ci := 8) (k := 22) rfl (by decide) inlX8 (by decide) hf_X8_138 rfl spM_X8 rfl dX8_atom5_72 (fun o4 _ => ?_)
      refine z_iconst X (v := (1 : Int32)) dX8_atom5_75 (by decide) ?_
      refine z_icmp_ne X (tgt := 98) dX8_atom5_76 (by decide) (fun _ => ?_) (fun _ => ?_)
      · exact z_sub [0, 1] (J98 _ _) rfl
      · refine z_aload_n X (q := 0) dX8_atom5_79 rfl rfl ?_
        refine z_callV X hK (As := []) (ci := 8) rfl (by decide) (fun o => (kX8_name l Z  b x o _)) hk_X8_204 ⟨rfl, rfl⟩ hd_X8_name ⟨Nat.le_of_ble_eq_true rfl, Nat.le_of_ble_eq_true rfl⟩ ⟨Nat.le_of_ble_eq_true rfl, Nat.le_of_ble_eq_true rfl⟩ rfl rfl (Nat.le_of_ble_eq_true rfl) dX8_atom5_80 (fun _ q5 _ => ?_)
        refine z_name (fun v6 => ?_)
        refine z_istore_n X dX8_atom5_83 rfl (Nat.le_of_ble_eq_true rfl) rfl ?_
        refine z_aload_n X (q := 1) dX8_atom5_84 rfl rfl ?_
        refine z_geti X hK (N := 46) (ci := 8) (k := 26) rfl (by decide) inlX8 (by decide) hf_X8_155 rfl spM_X8 rfl dX8_atom5_85 (fun o7 _ => ?_)
        refine z_if_ne X (tgt := 102) dX8_atom5_88 (by decide) (fun _ => ?_) (fun _ => ?_)
        · refine z_iload_n X (q := 0) dX8_atom5_102 rfl rfl ?_
          subst hQ; exact z_iret X hlocks hr dX8_atom5_103
        · refine z_aload_n X (q := 1) dX8_atom5_91 rfl rfl ?_
          refine z_callV X hK (As := []) (ci := 8) rfl (by decide) (fun o => (kX8_next l Z  b x o _)) hk_X8_172 ⟨rfl, rfl⟩ hd_X8_next ⟨Nat.le_of_ble_eq_true rfl, Nat.le_of_ble_eq_true rfl⟩ ⟨Nat.le_of_ble_eq_true rfl, Nat.le_of_ble_eq_true rfl⟩ rfl rfl (Nat.le_of_ble_eq_true rfl) dX8_atom5_92 (fun _ q8 _ => ?_)
          refine z_goto X (tgt := 102) dX8_atom5_95 (by decide) ?_
          refine z_iload_n X (q := 0) dX8_atom5_102 rfl rfl ?_
          subst hQ; exact z_iret X hlocks hr dX8_atom5_103
  rw [fX8_atom5]
  refine z_iconst X (v := (0 : Int32)) dX8_atom5_0 (by decide) ?_
  refine z_istore_n X dX8_atom5_1 rfl (Nat.le_of_ble_eq_true rfl) rfl ?_
  refine z_aload_n X (q := 1) dX8_atom5_2 rfl rfl ?_
  refine z_bipush X (v := (45 : Int32)) dX8_atom5_3 (by decide) ?_
  refine z_callV X hK (As := [vI (45 : Int32)]) (ci := 8) rfl (by decide) (fun o => (kX8_isSign l Z  b x o _ _)) hk_X8_197 ⟨rfl, rfl⟩ hd_X8_isSign ⟨Nat.le_of_ble_eq_true rfl, Nat.le_of_ble_eq_true rfl⟩ ⟨Nat.le_of_ble_eq_true rfl, Nat.le_of_ble_eq_true rfl⟩ rfl rfl (Nat.le_of_ble_eq_true rfl) dX8_atom5_5 (fun _ q11 _ => ?_)
  refine z_if_eq X (tgt := 19) dX8_atom5_8 (by decide) (fun _ => ?_) (fun _ => ?_)
  · refine z_aload_n X (q := 1) dX8_atom5_19 rfl rfl ?_
    refine z_bipush X (v := (40 : Int32)) dX8_atom5_20 (by decide) ?_
    refine z_callV X hK (As := [vI (40 : Int32)]) (ci := 8) rfl (by decide) (fun o => (kX8_isSign l Z  b x o _ _)) hk_X8_197 ⟨rfl, rfl⟩ hd_X8_isSign ⟨Nat.le_of_ble_eq_true rfl, Nat.le_of_ble_eq_true rfl⟩ ⟨Nat.le_of_ble_eq_true rfl, Nat.le_of_ble_eq_true rfl⟩ rfl rfl (Nat.le_of_ble_eq_true rfl) dX8_atom5_22 (fun _ q12 _ => ?_)
    refine z_if_eq X (tgt := 36) dX8_atom5_25 (by decide) (fun _ => ?_) (fun _ => ?_)
    · refine z_aload_n X (q := 1) dX8_atom5_36 rfl rfl ?_
      refine z_geti X hK (N := 46) (ci := 8) (k := 26) rfl (by decide) inlX8 (by decide) hf_X8_155 rfl spM_X8 rfl dX8_atom5_37 (fun o13 _ => ?_)
      refine z_if_ne X (tgt := 64) dX8_atom5_40 (by decide) (fun _ => ?_) (fun _ => ?_)
      · exact z_sub [1, 0] (J64 _ _) rfl
      · refine z_aload_n X (q := 1) dX8_atom5_43 rfl rfl ?_
        refine z_geti X hK (N := 46) (ci := 8) (k := 22) rfl (by decide) inlX8 (by decide) hf_X8_138 rfl spM_X8 rfl dX8_atom5_44 (fun o14 _ => ?_)
        refine z_iconst X (v := (2 : Int32)) dX8_atom5_47 (by decide) ?_
        refine z_icmp_ne X (tgt := 64) dX8_atom5_48 (by decide) (fun _ => ?_) (fun _ => ?_)
        · exact z_sub [1, 0] (J64 _ _) rfl
        · refine z_aload_n X (q := 1) dX8_atom5_51 rfl rfl ?_
          refine z_getl X hK (N := 46) (ci := 8) (k := 24) rfl (by decide) inlX8 (by decide) hf_X8_149 rfl spM_X8 rfl dX8_atom5_52 (fun o15 _ => ?_)
          refine z_l2i X dX8_atom5_55 ?_
          refine z_name (fun v16 => ?_)
          refine z_istore_n X dX8_atom5_56 rfl (Nat.le_of_ble_eq_true rfl) rfl ?_
          refine z_aload_n X (q := 1) dX8_atom5_57 rfl rfl ?_
          refine z_callV X hK (As := []) (ci := 8) rfl (by decide) (fun o => (kX8_next l Z  b x o _)) hk_X8_172 ⟨rfl, rfl⟩ hd_X8_next ⟨Nat.le_of_ble_eq_true rfl, Nat.le_of_ble_eq_true rfl⟩ ⟨Nat.le_of_ble_eq_true rfl, Nat.le_of_ble_eq_true rfl⟩ rfl rfl (Nat.le_of_ble_eq_true rfl) dX8_atom5_58 (fun _ q17 _ => ?_)
          refine z_goto X (tgt := 102) dX8_atom5_61 (by decide) ?_
          refine z_iload_n X (q := 0) dX8_atom5_102 rfl rfl ?_
          subst hQ; exact z_iret X hlocks hr dX8_atom5_103
    · refine z_aload_n X (q := 1) dX8_atom5_28 rfl rfl ?_
      refine z_callV X hK (As := []) (ci := 8) rfl (by decide) (fun o => (kX8_opens l Z  b x o _)) hk_X8_200 ⟨rfl, rfl⟩ hd_X8_opens ⟨Nat.le_of_ble_eq_true rfl, Nat.le_of_ble_eq_true rfl⟩ ⟨Nat.le_of_ble_eq_true rfl, Nat.le_of_ble_eq_true rfl⟩ rfl rfl (Nat.le_of_ble_eq_true rfl) dX8_atom5_29 (fun _ q19 _ => ?_)
      refine z_pop X dX8_atom5_32 rfl ?_
      refine z_goto X (tgt := 102) dX8_atom5_33 (by decide) ?_
      refine z_iload_n X (q := 0) dX8_atom5_102 rfl rfl ?_
      subst hQ; exact z_iret X hlocks hr dX8_atom5_103
  · refine z_aload_n X (q := 1) dX8_atom5_11 rfl rfl ?_
    refine z_callV X hK (As := []) (ci := 8) rfl (by decide) (fun o => (kX8_opens l Z  b x o _)) hk_X8_200 ⟨rfl, rfl⟩ hd_X8_opens ⟨Nat.le_of_ble_eq_true rfl, Nat.le_of_ble_eq_true rfl⟩ ⟨Nat.le_of_ble_eq_true rfl, Nat.le_of_ble_eq_true rfl⟩ rfl rfl (Nat.le_of_ble_eq_true rfl) dX8_atom5_12 (fun _ q22 _ => ?_)
    refine z_pop X dX8_atom5_15 rfl ?_
    refine z_goto X (tgt := 102) dX8_atom5_16 (by decide) ?_
    refine z_iload_n X (q := 0) dX8_atom5_102 rfl rfl ?_
    subst hQ; exact z_iret X hlocks hr dX8_atom5_103
theorem zw_573 : Cond.methodLink RX8 208 yX8_atom5 ∈ wsL_law := zr_14 _ (by decide +kernel)
theorem zw_574 : Cond.instanceMethod yX8_atom5 ∈ wsL_law := zr_14 _ (by decide +kernel)
theorem zw_575 : Cond.selects RX8 yX8_atom5 yX8_atom5 ∈ wsL_law := zr_14 _ (by decide +kernel)
theorem zw_576 : Cond.code yX8_atom5 cX8_atom5 2 (some .int) ∈ wsL_law := zr_15 _ (by decide +kernel)
theorem hk_X8_208 : ∀ w ∈ ([Cond.methodLink RX8 208 yX8_atom5, Cond.instanceMethod yX8_atom5, Cond.selects RX8 yX8_atom5 yX8_atom5, Cond.initialized RX8, Cond.code yX8_atom5 cX8_atom5 2 (some .int)] : List Cond), w ∈ wsL_law := List.forall_mem_cons.mpr ⟨zw_573, List.forall_mem_cons.mpr ⟨zw_574, List.forall_mem_cons.mpr ⟨zw_575, List.forall_mem_cons.mpr ⟨zw_525, List.forall_mem_cons.mpr ⟨zw_576, fun _ h => absurd h List.not_mem_nil⟩⟩⟩⟩⟩
theorem hd_X8_atom5 : yX8_atom5.cls = RX8 ∧ yX8_atom5.cls ≠ "java/lang/invoke/MethodHandle" ∧ yX8_atom5.cls ≠ "java/lang/invoke/VarHandle" ∧ (parseMethodDescriptor yX8_atom5.desc).map (fun d => d.parameters.length) = some 0 := by decide +kernel
abbrev rmX8_term5 : Room := { frames := 6, cells := 0, slots := 0, locals := 152 }
def fX8_term5_L5 (this : Nat) : Nat → Int32 → zS → Option (Int32 × zS)
  | 0, _, _ => none
  | n + 1, y1, st => (zok spM st (some this) 8).bind fun o7 => (fX8_isSign o7 (42 : Int32) st).bind fun q1 => if q1.1 = 0 then (some (y1, q1.2)) else ((zok spM q1.2 (some this) 8).bind fun o6 => (fX8_next o6 q1.2).bind fun q2 => (zok spM q2.2 (some this) 8).bind fun o5 => (fX8_atom5 o5 q2.2).bind fun q3 => zlet ((y1 * q3.1)) fun v4 => (fX8_term5_L5 this n) v4 q3.2)
def fX8_term5 (this : Nat) (st : zS) : Option (Int32 × zS) :=
  (zok spM st (some this) 8).bind fun o10 => (fX8_atom5 o10 st).bind fun q8 => zlet (q8.1) fun v9 => fX8_term5_L5 this zF v9 q8.2
set_option maxRecDepth 100000 in
set_option maxHeartbeats 4000000 in
theorem kX8_term5 (l : Launch) (Z : zZ) (b : Nat) (x : Option Nat) (this : Nat) (st : zS) : zC l Z spM b x yX8_term5 (.code yX8_term5 cX8_term5 2 (some .int)) (rmX8_term5) rI [vP (some this)] st (fX8_term5 this st) := by
  refine z_start (own := RX8) rfl (by decide +kernel) (Nat.le_of_ble_eq_true rfl) rfl (fun p e s m args below meth c res Q A X hK hr hlocks hQ => ?_)
  have J5 : ∀ (n5 : Nat) (y1 : Int32) (st : zS), zs p l e (rmX8_term5) s m args below meth c Q Z spM b x A 2 0 0 res (fX8_term5_L5 this n5 y1 st) 5 [(0, vP (some this)), (1, vI y1)] [] st := by
    intro n5
    induction n5 with
    | zero => intros; exact z_none
    | succ n5 ih5 =>
      intro y1 st
      rw [fX8_term5_L5]
      refine z_aload_n X (q := 0) dX8_term5_5 rfl rfl ?_
      refine z_bipush X (v := (42 : Int32)) dX8_term5_6 (by decide) ?_
      refine z_callV X hK (As := [vI (42 : Int32)]) (ci := 8) rfl (by decide) (fun o => (kX8_isSign l Z  b x o _ _)) hk_X8_197 ⟨rfl, rfl⟩ hd_X8_isSign ⟨Nat.le_of_ble_eq_true rfl, Nat.le_of_ble_eq_true rfl⟩ ⟨Nat.le_of_ble_eq_true rfl, Nat.le_of_ble_eq_true rfl⟩ rfl rfl (Nat.le_of_ble_eq_true rfl) dX8_term5_8 (fun _ q1 _ => ?_)
      refine z_if_eq X (tgt := 28) dX8_term5_11 (by decide) (fun _ => ?_) (fun _ => ?_)
      · refine z_iload_n X (q := 1) dX8_term5_28 rfl rfl ?_
        subst hQ; exact z_iret X hlocks hr dX8_term5_29
      · refine z_aload_n X (q := 0) dX8_term5_14 rfl rfl ?_
        refine z_callV X hK (As := []) (ci := 8) rfl (by decide) (fun o => (kX8_next l Z  b x o _)) hk_X8_172 ⟨rfl, rfl⟩ hd_X8_next ⟨Nat.le_of_ble_eq_true rfl, Nat.le_of_ble_eq_true rfl⟩ ⟨Nat.le_of_ble_eq_true rfl, Nat.le_of_ble_eq_true rfl⟩ rfl rfl (Nat.le_of_ble_eq_true rfl) dX8_term5_15 (fun _ q2 _ => ?_)
        refine z_iload_n X (q := 1) dX8_term5_18 rfl rfl ?_
        refine z_aload_n X (q := 0) dX8_term5_19 rfl rfl ?_
        refine z_callV X hK (As := []) (ci := 8) rfl (by decide) (fun o => (kX8_atom5 l Z  b x o _)) hk_X8_208 ⟨rfl, rfl⟩ hd_X8_atom5 ⟨Nat.le_of_ble_eq_true rfl, Nat.le_of_ble_eq_true rfl⟩ ⟨Nat.le_of_ble_eq_true rfl, Nat.le_of_ble_eq_true rfl⟩ rfl rfl (Nat.le_of_ble_eq_true rfl) dX8_term5_20 (fun _ q3 _ => ?_)
        refine z_imul X dX8_term5_23 ?_
        refine z_name (fun v4 => ?_)
        refine z_istore_n X dX8_term5_24 rfl (Nat.le_of_ble_eq_true rfl) rfl ?_
        refine z_goto X (tgt := 5) dX8_term5_25 (by decide) ?_
        exact z_sub [1, 0] (ih5 _ _) rfl
  rw [fX8_term5]
  refine z_aload_n X (q := 0) dX8_term5_0 rfl rfl ?_
  refine z_callV X hK (As := []) (ci := 8) rfl (by decide) (fun o => (kX8_atom5 l Z  b x o _)) hk_X8_208 ⟨rfl, rfl⟩ hd_X8_atom5 ⟨Nat.le_of_ble_eq_true rfl, Nat.le_of_ble_eq_true rfl⟩ ⟨Nat.le_of_ble_eq_true rfl, Nat.le_of_ble_eq_true rfl⟩ rfl rfl (Nat.le_of_ble_eq_true rfl) dX8_term5_1 (fun _ q8 _ => ?_)
  refine z_name (fun v9 => ?_)
  refine z_istore_n X dX8_term5_4 rfl (Nat.le_of_ble_eq_true rfl) rfl ?_
  exact z_sub [1, 0] (J5 _ _ _) rfl
theorem zw_577 : Cond.methodLink RX8 211 yX8_term5 ∈ wsL_law := zr_14 _ (by decide +kernel)
theorem zw_578 : Cond.instanceMethod yX8_term5 ∈ wsL_law := zr_14 _ (by decide +kernel)
theorem zw_579 : Cond.selects RX8 yX8_term5 yX8_term5 ∈ wsL_law := zr_14 _ (by decide +kernel)
theorem zw_580 : Cond.code yX8_term5 cX8_term5 2 (some .int) ∈ wsL_law := zr_14 _ (by decide +kernel)
theorem hk_X8_211 : ∀ w ∈ ([Cond.methodLink RX8 211 yX8_term5, Cond.instanceMethod yX8_term5, Cond.selects RX8 yX8_term5 yX8_term5, Cond.initialized RX8, Cond.code yX8_term5 cX8_term5 2 (some .int)] : List Cond), w ∈ wsL_law := List.forall_mem_cons.mpr ⟨zw_577, List.forall_mem_cons.mpr ⟨zw_578, List.forall_mem_cons.mpr ⟨zw_579, List.forall_mem_cons.mpr ⟨zw_525, List.forall_mem_cons.mpr ⟨zw_580, fun _ h => absurd h List.not_mem_nil⟩⟩⟩⟩⟩
theorem hd_X8_term5 : yX8_term5.cls = RX8 ∧ yX8_term5.cls ≠ "java/lang/invoke/MethodHandle" ∧ yX8_term5.cls ≠ "java/lang/invoke/VarHandle" ∧ (parseMethodDescriptor yX8_term5.desc).map (fun d => d.parameters.length) = some 0 := by decide +kernel
theorem zw_581 : Cond.constantLong RX8 214 (43) ∈ wsL_law := zr_14 _ (by decide +kernel)
theorem hc_X8_214 : Cond.constantLong RX8 214 (43) ∈ wsL_law := zw_581
abbrev rmX8_added5 : Room := { frames := 7, cells := 0, slots := 0, locals := 173 }
def fX8_added5_j62 (this : Nat) (k5 : Int32 → zS → Option (Int32 × zS)) (s0 : Int32) (st : zS) : Option (Int32 × zS) :=
  k5 s0 st
def fX8_added5_j39 (this : Nat) (k5 : Int32 → zS → Option (Int32 × zS)) (y1 : Int32) (s0 : Int32) (st : zS) : Option (Int32 × zS) :=
  (zok spM st (some this) 8).bind fun o5 => (fX8_next o5 st).bind fun q1 => (zok spM q1.2 (some this) 8).bind fun o4 => (fX8_term5 o4 q1.2).bind fun q2 => zlet (q2.1) fun v3 => if s0 = 0 then (fX8_added5_j62 this k5 (y1 - v3) q2.2) else (fX8_added5_j62 this k5 (y1 + v3) q2.2)
def fX8_added5_j23 (this : Nat) (k5 : Int32 → zS → Option (Int32 × zS)) (y1 : Int32) (st : zS) : Option (Int32 × zS) :=
  (zok spM st (some this) 8).bind fun o6 => if (lg_cmp (st.2.2.1 o6) (43 : Int64)) = 0 then (fX8_added5_j39 this k5 y1 (1 : Int32) st) else (fX8_added5_j39 this k5 y1 (0 : Int32) st)
def fX8_added5_L5 (this : Nat) : Nat → Int32 → zS → Option (Int32 × zS)
  | 0, _, _ => none
  | n + 1, y1, st => (zok spM st (some this) 8).bind fun o10 => (fX8_isSign o10 (43 : Int32) st).bind fun q7 => if q7.1 = 0 then ((zok spM q7.2 (some this) 8).bind fun o9 => (fX8_isSign o9 (45 : Int32) q7.2).bind fun q8 => if q8.1 = 0 then (some (y1, q8.2)) else (fX8_added5_j23 this (fX8_added5_L5 this n) y1 q8.2)) else (fX8_added5_j23 this (fX8_added5_L5 this n) y1 q7.2)
def fX8_added5 (this : Nat) (st : zS) : Option (Int32 × zS) :=
  (zok spM st (some this) 8).bind fun o13 => (fX8_term5 o13 st).bind fun q11 => zlet (q11.1) fun v12 => fX8_added5_L5 this zF v12 q11.2
set_option maxRecDepth 100000 in
set_option maxHeartbeats 4000000 in
theorem kX8_added5 (l : Launch) (Z : zZ) (b : Nat) (x : Option Nat) (this : Nat) (st : zS) : zC l Z spM b x yX8_added5 (.code yX8_added5 cX8_added5 4 (some .int)) (rmX8_added5) rI [vP (some this)] st (fX8_added5 this st) := by
  refine z_start (own := RX8) rfl (by decide +kernel) (Nat.le_of_ble_eq_true rfl) rfl (fun p e s m args below meth c res Q A X hK hr hlocks hQ => ?_)
  have J5 : ∀ (n5 : Nat) (y1 : Int32) (st : zS), zs p l e (rmX8_added5) s m args below meth c Q Z spM b x A 4 0 0 res (fX8_added5_L5 this n5 y1 st) 5 [(0, vP (some this)), (1, vI y1)] [] st := by
    intro n5
    induction n5 with
    | zero => intros; exact z_none
    | succ n5 ih5 =>
      have J62 : ∀ (s0 : Int32) (st : zS), zs p l e (rmX8_added5) s m args below meth c Q Z spM b x A 4 0 0 res (fX8_added5_j62 this (fX8_added5_L5 this n5) s0 st) 62 [(0, vP (some this))] [vI s0] st := by
        intro s0 st
        rw [fX8_added5_j62]
        refine z_istore_n X dX8_added5_62 rfl (Nat.le_of_ble_eq_true rfl) rfl ?_
        refine z_goto X (tgt := 5) dX8_added5_63 (by decide) ?_
        exact z_sub [1, 0] (ih5 _ _) rfl
      have J39 : ∀ (y1 : Int32) (s0 : Int32) (st : zS), zs p l e (rmX8_added5) s m args below meth c Q Z spM b x A 4 0 0 res (fX8_added5_j39 this (fX8_added5_L5 this n5) y1 s0 st) 39 [(0, vP (some this)), (1, vI y1)] [vI s0] st := by
        intro y1 s0 st
        rw [fX8_added5_j39]
        refine z_istore_n X dX8_added5_39 rfl (Nat.le_of_ble_eq_true rfl) rfl ?_
        refine z_aload_n X (q := 1) dX8_added5_40 rfl rfl ?_
        refine z_callV X hK (As := []) (ci := 8) rfl (by decide) (fun o => (kX8_next l Z  b x o _)) hk_X8_172 ⟨rfl, rfl⟩ hd_X8_next ⟨Nat.le_of_ble_eq_true rfl, Nat.le_of_ble_eq_true rfl⟩ ⟨Nat.le_of_ble_eq_true rfl, Nat.le_of_ble_eq_true rfl⟩ rfl rfl (Nat.le_of_ble_eq_true rfl) dX8_added5_41 (fun _ q1 _ => ?_)
        refine z_aload_n X (q := 1) dX8_added5_44 rfl rfl ?_
        refine z_callV X hK (As := []) (ci := 8) rfl (by decide) (fun o => (kX8_term5 l Z  b x o _)) hk_X8_211 ⟨rfl, rfl⟩ hd_X8_term5 ⟨Nat.le_of_ble_eq_true rfl, Nat.le_of_ble_eq_true rfl⟩ ⟨Nat.le_of_ble_eq_true rfl, Nat.le_of_ble_eq_true rfl⟩ rfl rfl (Nat.le_of_ble_eq_true rfl) dX8_added5_45 (fun _ q2 _ => ?_)
        refine z_name (fun v3 => ?_)
        refine z_istore_n X dX8_added5_48 rfl (Nat.le_of_ble_eq_true rfl) rfl ?_
        refine z_iload_n X (q := 1) dX8_added5_49 rfl rfl ?_
        refine z_if_eq X (tgt := 59) dX8_added5_50 (by decide) (fun _ => ?_) (fun _ => ?_)
        · refine z_iload_n X (q := 3) dX8_added5_59 rfl rfl ?_
          refine z_iload_n X (q := 0) dX8_added5_60 rfl rfl ?_
          refine z_isub X dX8_added5_61 ?_
          exact z_sub [2] (J62 _ _) rfl
        · refine z_iload_n X (q := 3) dX8_added5_53 rfl rfl ?_
          refine z_iload_n X (q := 0) dX8_added5_54 rfl rfl ?_
          refine z_iadd X dX8_added5_55 ?_
          refine z_goto X (tgt := 62) dX8_added5_56 (by decide) ?_
          exact z_sub [2] (J62 _ _) rfl
      have J23 : ∀ (y1 : Int32) (st : zS), zs p l e (rmX8_added5) s m args below meth c Q Z spM b x A 4 0 0 res (fX8_added5_j23 this (fX8_added5_L5 this n5) y1 st) 23 [(0, vP (some this)), (1, vI y1)] [] st := by
        intro y1 st
        rw [fX8_added5_j23]
        refine z_aload_n X (q := 0) dX8_added5_23 rfl rfl ?_
        refine z_getl X hK (N := 46) (ci := 8) (k := 24) rfl (by decide) inlX8 (by decide) hf_X8_149 rfl spM_X8 rfl dX8_added5_24 (fun o6 _ => ?_)
        refine z_ldc2 X (v := (43 : Int64)) (hc_X8_214) dX8_added5_27 ?_
        refine z_lcmp X dX8_added5_30 ?_
        refine z_if_ne X (tgt := 38) dX8_added5_31 (by decide) (fun _ => ?_) (fun _ => ?_)
        · refine z_iconst X (v := (0 : Int32)) dX8_added5_38 (by decide) ?_
          exact z_sub [0, 1] (J39 _ _ _) rfl
        · refine z_iconst X (v := (1 : Int32)) dX8_added5_34 (by decide) ?_
          refine z_goto X (tgt := 39) dX8_added5_35 (by decide) ?_
          exact z_sub [0, 1] (J39 _ _ _) rfl
      intro y1 st
      rw [fX8_added5_L5]
      refine z_aload_n X (q := 0) dX8_added5_5 rfl rfl ?_
      refine z_bipush X (v := (43 : Int32)) dX8_added5_6 (by decide) ?_
      refine z_callV X hK (As := [vI (43 : Int32)]) (ci := 8) rfl (by decide) (fun o => (kX8_isSign l Z  b x o _ _)) hk_X8_197 ⟨rfl, rfl⟩ hd_X8_isSign ⟨Nat.le_of_ble_eq_true rfl, Nat.le_of_ble_eq_true rfl⟩ ⟨Nat.le_of_ble_eq_true rfl, Nat.le_of_ble_eq_true rfl⟩ rfl rfl (Nat.le_of_ble_eq_true rfl) dX8_added5_8 (fun _ q7 _ => ?_)
      refine z_if_ne X (tgt := 23) dX8_added5_11 (by decide) (fun _ => ?_) (fun _ => ?_)
      · exact z_sub [0, 1] (J23 _ _) rfl
      · refine z_aload_n X (q := 0) dX8_added5_14 rfl rfl ?_
        refine z_bipush X (v := (45 : Int32)) dX8_added5_15 (by decide) ?_
        refine z_callV X hK (As := [vI (45 : Int32)]) (ci := 8) rfl (by decide) (fun o => (kX8_isSign l Z  b x o _ _)) hk_X8_197 ⟨rfl, rfl⟩ hd_X8_isSign ⟨Nat.le_of_ble_eq_true rfl, Nat.le_of_ble_eq_true rfl⟩ ⟨Nat.le_of_ble_eq_true rfl, Nat.le_of_ble_eq_true rfl⟩ rfl rfl (Nat.le_of_ble_eq_true rfl) dX8_added5_17 (fun _ q8 _ => ?_)
        refine z_if_eq X (tgt := 66) dX8_added5_20 (by decide) (fun _ => ?_) (fun _ => ?_)
        · refine z_iload_n X (q := 1) dX8_added5_66 rfl rfl ?_
          subst hQ; exact z_iret X hlocks hr dX8_added5_67
        · exact z_sub [0, 1] (J23 _ _) rfl
  rw [fX8_added5]
  refine z_aload_n X (q := 0) dX8_added5_0 rfl rfl ?_
  refine z_callV X hK (As := []) (ci := 8) rfl (by decide) (fun o => (kX8_term5 l Z  b x o _)) hk_X8_211 ⟨rfl, rfl⟩ hd_X8_term5 ⟨Nat.le_of_ble_eq_true rfl, Nat.le_of_ble_eq_true rfl⟩ ⟨Nat.le_of_ble_eq_true rfl, Nat.le_of_ble_eq_true rfl⟩ rfl rfl (Nat.le_of_ble_eq_true rfl) dX8_added5_1 (fun _ q11 _ => ?_)
  refine z_name (fun v12 => ?_)
  refine z_istore_n X dX8_added5_4 rfl (Nat.le_of_ble_eq_true rfl) rfl ?_
  exact z_sub [1, 0] (J5 _ _ _) rfl
theorem zw_582 : Cond.methodLink RX8 216 yX8_added5 ∈ wsL_law := zr_14 _ (by decide +kernel)
theorem zw_583 : Cond.instanceMethod yX8_added5 ∈ wsL_law := zr_14 _ (by decide +kernel)
theorem zw_584 : Cond.selects RX8 yX8_added5 yX8_added5 ∈ wsL_law := zr_14 _ (by decide +kernel)
theorem zw_585 : Cond.code yX8_added5 cX8_added5 4 (some .int) ∈ wsL_law := zr_14 _ (by decide +kernel)
theorem hk_X8_216 : ∀ w ∈ ([Cond.methodLink RX8 216 yX8_added5, Cond.instanceMethod yX8_added5, Cond.selects RX8 yX8_added5 yX8_added5, Cond.initialized RX8, Cond.code yX8_added5 cX8_added5 4 (some .int)] : List Cond), w ∈ wsL_law := List.forall_mem_cons.mpr ⟨zw_582, List.forall_mem_cons.mpr ⟨zw_583, List.forall_mem_cons.mpr ⟨zw_584, List.forall_mem_cons.mpr ⟨zw_525, List.forall_mem_cons.mpr ⟨zw_585, fun _ h => absurd h List.not_mem_nil⟩⟩⟩⟩⟩
theorem hd_X8_added5 : yX8_added5.cls = RX8 ∧ yX8_added5.cls ≠ "java/lang/invoke/MethodHandle" ∧ yX8_added5.cls ≠ "java/lang/invoke/VarHandle" ∧ (parseMethodDescriptor yX8_added5.desc).map (fun d => d.parameters.length) = some 0 := by decide +kernel
theorem zw_586 : Cond.constantLong RX8 219 (60) ∈ wsL_law := zr_13 _ (by decide +kernel)
theorem hc_X8_219 : Cond.constantLong RX8 219 (60) ∈ wsL_law := zw_586
abbrev rmX8_not5 : Room := { frames := 8, cells := 0, slots := 0, locals := 196 }
def fX8_not5_j93 (this : Nat) (st : zS) : Option (Int32 × zS) :=
  some ((1 : Int32), st)
def fX8_not5_j97 (this : Nat) (st : zS) : Option (Int32 × zS) :=
  some ((0 : Int32), st)
def fX8_not5_j66 (this : Nat) (y1 : Int32) (s0 : Int32) (st : zS) : Option (Int32 × zS) :=
  (zok spM st (some this) 8).bind fun o5 => (fX8_next o5 st).bind fun q1 => (zok spM q1.2 (some this) 8).bind fun o4 => (fX8_added5 o4 q1.2).bind fun q2 => zlet (q2.1) fun v3 => if s0 = 0 then (if y1 = v3 then (fX8_not5_j93 this q2.2) else (fX8_not5_j97 this q2.2)) else (if v3 ≤ y1 then (fX8_not5_j97 this q2.2) else (fX8_not5_j93 this q2.2))
def fX8_not5_j50 (this : Nat) (y1 : Int32) (st : zS) : Option (Int32 × zS) :=
  (zok spM st (some this) 8).bind fun o6 => if (lg_cmp (st.2.2.1 o6) (60 : Int64)) = 0 then (fX8_not5_j66 this y1 (1 : Int32) st) else (fX8_not5_j66 this y1 (0 : Int32) st)
def fX8_not5 (this : Nat) (st : zS) : Option (Int32 × zS) :=
  (zok spM st (some this) 8).bind fun o17 => (fX8_isWord o17 (110 : Int32) (111 : Int32) (116 : Int32) (0 : Int32) (0 : Int32) (0 : Int32) (0 : Int32) (0 : Int32) st).bind fun q7 => if q7.1 = 0 then ((zok spM q7.2 (some this) 8).bind fun o14 => (fX8_added5 o14 q7.2).bind fun q8 => zlet (q8.1) fun v9 => (zok spM q8.2 (some this) 8).bind fun o13 => (fX8_isSign o13 (60 : Int32) q8.2).bind fun q10 => if q10.1 = 0 then ((zok spM q10.2 (some this) 8).bind fun o12 => (fX8_isSign o12 (61 : Int32) q10.2).bind fun q11 => if q11.1 = 0 then (some (v9, q11.2)) else (fX8_not5_j50 this v9 q11.2)) else (fX8_not5_j50 this v9 q10.2)) else ((zok spM q7.2 (some this) 8).bind fun o16 => (fX8_opens o16 q7.2).bind fun q15 => some ((0 : Int32), q15.2))
set_option maxRecDepth 100000 in
set_option maxHeartbeats 4000000 in
theorem kX8_not5 (l : Launch) (Z : zZ) (b : Nat) (x : Option Nat) (this : Nat) (st : zS) : zC l Z spM b x yX8_not5 (.code yX8_not5 cX8_not5 4 (some .int)) (rmX8_not5) rI [vP (some this)] st (fX8_not5 this st) := by
  refine z_start (own := RX8) rfl (by decide +kernel) (Nat.le_of_ble_eq_true rfl) rfl (fun p e s m args below meth c res Q A X hK hr hlocks hQ => ?_)
  have J93 : ∀ (st : zS), zs p l e (rmX8_not5) s m args below meth c Q Z spM b x A 4 0 0 res (fX8_not5_j93 this st) 93 [] [] st := by
    intro  st
    rw [fX8_not5_j93]
    refine z_iconst X (v := (1 : Int32)) dX8_not5_93 (by decide) ?_
    refine z_goto X (tgt := 98) dX8_not5_94 (by decide) ?_
    subst hQ; exact z_iret X hlocks hr dX8_not5_98
  have J97 : ∀ (st : zS), zs p l e (rmX8_not5) s m args below meth c Q Z spM b x A 4 0 0 res (fX8_not5_j97 this st) 97 [] [] st := by
    intro  st
    rw [fX8_not5_j97]
    refine z_iconst X (v := (0 : Int32)) dX8_not5_97 (by decide) ?_
    subst hQ; exact z_iret X hlocks hr dX8_not5_98
  have J66 : ∀ (y1 : Int32) (s0 : Int32) (st : zS), zs p l e (rmX8_not5) s m args below meth c Q Z spM b x A 4 0 0 res (fX8_not5_j66 this y1 s0 st) 66 [(0, vP (some this)), (1, vI y1)] [vI s0] st := by
    intro y1 s0 st
    rw [fX8_not5_j66]
    refine z_istore_n X dX8_not5_66 rfl (Nat.le_of_ble_eq_true rfl) rfl ?_
    refine z_aload_n X (q := 1) dX8_not5_67 rfl rfl ?_
    refine z_callV X hK (As := []) (ci := 8) rfl (by decide) (fun o => (kX8_next l Z  b x o _)) hk_X8_172 ⟨rfl, rfl⟩ hd_X8_next ⟨Nat.le_of_ble_eq_true rfl, Nat.le_of_ble_eq_true rfl⟩ ⟨Nat.le_of_ble_eq_true rfl, Nat.le_of_ble_eq_true rfl⟩ rfl rfl (Nat.le_of_ble_eq_true rfl) dX8_not5_68 (fun _ q1 _ => ?_)
    refine z_aload_n X (q := 1) dX8_not5_71 rfl rfl ?_
    refine z_callV X hK (As := []) (ci := 8) rfl (by decide) (fun o => (kX8_added5 l Z  b x o _)) hk_X8_216 ⟨rfl, rfl⟩ hd_X8_added5 ⟨Nat.le_of_ble_eq_true rfl, Nat.le_of_ble_eq_true rfl⟩ ⟨Nat.le_of_ble_eq_true rfl, Nat.le_of_ble_eq_true rfl⟩ rfl rfl (Nat.le_of_ble_eq_true rfl) dX8_not5_72 (fun _ q2 _ => ?_)
    refine z_name (fun v3 => ?_)
    refine z_istore_n X dX8_not5_75 rfl (Nat.le_of_ble_eq_true rfl) rfl ?_
    refine z_iload_n X (q := 1) dX8_not5_76 rfl rfl ?_
    refine z_if_eq X (tgt := 88) dX8_not5_77 (by decide) (fun _ => ?_) (fun _ => ?_)
    · refine z_iload_n X (q := 3) dX8_not5_88 rfl rfl ?_
      refine z_iload_n X (q := 0) dX8_not5_89 rfl rfl ?_
      refine z_icmp_ne X (tgt := 97) dX8_not5_90 (by decide) (fun _ => ?_) (fun _ => ?_)
      · exact z_sub [] (J97  _) rfl
      · exact z_sub [] (J93  _) rfl
    · refine z_iload_n X (q := 3) dX8_not5_80 rfl rfl ?_
      refine z_iload_n X (q := 0) dX8_not5_81 rfl rfl ?_
      refine z_icmp_ge X (tgt := 97) dX8_not5_82 (by decide) (fun _ => ?_) (fun _ => ?_)
      · exact z_sub [] (J97  _) rfl
      · refine z_goto X (tgt := 93) dX8_not5_85 (by decide) ?_
        exact z_sub [] (J93  _) rfl
  have J50 : ∀ (y1 : Int32) (st : zS), zs p l e (rmX8_not5) s m args below meth c Q Z spM b x A 4 0 0 res (fX8_not5_j50 this y1 st) 50 [(0, vP (some this)), (1, vI y1)] [] st := by
    intro y1 st
    rw [fX8_not5_j50]
    refine z_aload_n X (q := 0) dX8_not5_50 rfl rfl ?_
    refine z_getl X hK (N := 46) (ci := 8) (k := 24) rfl (by decide) inlX8 (by decide) hf_X8_149 rfl spM_X8 rfl dX8_not5_51 (fun o6 _ => ?_)
    refine z_ldc2 X (v := (60 : Int64)) (hc_X8_219) dX8_not5_54 ?_
    refine z_lcmp X dX8_not5_57 ?_
    refine z_if_ne X (tgt := 65) dX8_not5_58 (by decide) (fun _ => ?_) (fun _ => ?_)
    · refine z_iconst X (v := (0 : Int32)) dX8_not5_65 (by decide) ?_
      exact z_sub [0, 1] (J66 _ _ _) rfl
    · refine z_iconst X (v := (1 : Int32)) dX8_not5_61 (by decide) ?_
      refine z_goto X (tgt := 66) dX8_not5_62 (by decide) ?_
      exact z_sub [0, 1] (J66 _ _ _) rfl
  rw [fX8_not5]
  refine z_aload_n X (q := 0) dX8_not5_0 rfl rfl ?_
  refine z_bipush X (v := (110 : Int32)) dX8_not5_1 (by decide) ?_
  refine z_bipush X (v := (111 : Int32)) dX8_not5_3 (by decide) ?_
  refine z_bipush X (v := (116 : Int32)) dX8_not5_5 (by decide) ?_
  refine z_iconst X (v := (0 : Int32)) dX8_not5_7 (by decide) ?_
  refine z_iconst X (v := (0 : Int32)) dX8_not5_8 (by decide) ?_
  refine z_iconst X (v := (0 : Int32)) dX8_not5_9 (by decide) ?_
  refine z_iconst X (v := (0 : Int32)) dX8_not5_10 (by decide) ?_
  refine z_iconst X (v := (0 : Int32)) dX8_not5_11 (by decide) ?_
  refine z_callV X hK (As := [vI (110 : Int32), vI (111 : Int32), vI (116 : Int32), vI (0 : Int32), vI (0 : Int32), vI (0 : Int32), vI (0 : Int32), vI (0 : Int32)]) (ci := 8) rfl (by decide) (fun o => (kX8_isWord l Z  b x o _ _ _ _ _ _ _ _ _)) hk_X8_175 ⟨rfl, rfl⟩ hd_X8_isWord ⟨Nat.le_of_ble_eq_true rfl, Nat.le_of_ble_eq_true rfl⟩ ⟨Nat.le_of_ble_eq_true rfl, Nat.le_of_ble_eq_true rfl⟩ rfl rfl (Nat.le_of_ble_eq_true rfl) dX8_not5_12 (fun _ q7 _ => ?_)
  refine z_if_eq X (tgt := 25) dX8_not5_15 (by decide) (fun _ => ?_) (fun _ => ?_)
  · refine z_aload_n X (q := 0) dX8_not5_25 rfl rfl ?_
    refine z_callV X hK (As := []) (ci := 8) rfl (by decide) (fun o => (kX8_added5 l Z  b x o _)) hk_X8_216 ⟨rfl, rfl⟩ hd_X8_added5 ⟨Nat.le_of_ble_eq_true rfl, Nat.le_of_ble_eq_true rfl⟩ ⟨Nat.le_of_ble_eq_true rfl, Nat.le_of_ble_eq_true rfl⟩ rfl rfl (Nat.le_of_ble_eq_true rfl) dX8_not5_26 (fun _ q8 _ => ?_)
    refine z_name (fun v9 => ?_)
    refine z_istore_n X dX8_not5_29 rfl (Nat.le_of_ble_eq_true rfl) rfl ?_
    refine z_aload_n X (q := 1) dX8_not5_30 rfl rfl ?_
    refine z_bipush X (v := (60 : Int32)) dX8_not5_31 (by decide) ?_
    refine z_callV X hK (As := [vI (60 : Int32)]) (ci := 8) rfl (by decide) (fun o => (kX8_isSign l Z  b x o _ _)) hk_X8_197 ⟨rfl, rfl⟩ hd_X8_isSign ⟨Nat.le_of_ble_eq_true rfl, Nat.le_of_ble_eq_true rfl⟩ ⟨Nat.le_of_ble_eq_true rfl, Nat.le_of_ble_eq_true rfl⟩ rfl rfl (Nat.le_of_ble_eq_true rfl) dX8_not5_33 (fun _ q10 _ => ?_)
    refine z_if_ne X (tgt := 50) dX8_not5_36 (by decide) (fun _ => ?_) (fun _ => ?_)
    · exact z_sub [1, 0] (J50 _ _) rfl
    · refine z_aload_n X (q := 1) dX8_not5_39 rfl rfl ?_
      refine z_bipush X (v := (61 : Int32)) dX8_not5_40 (by decide) ?_
      refine z_callV X hK (As := [vI (61 : Int32)]) (ci := 8) rfl (by decide) (fun o => (kX8_isSign l Z  b x o _ _)) hk_X8_197 ⟨rfl, rfl⟩ hd_X8_isSign ⟨Nat.le_of_ble_eq_true rfl, Nat.le_of_ble_eq_true rfl⟩ ⟨Nat.le_of_ble_eq_true rfl, Nat.le_of_ble_eq_true rfl⟩ rfl rfl (Nat.le_of_ble_eq_true rfl) dX8_not5_42 (fun _ q11 _ => ?_)
      refine z_if_ne X (tgt := 50) dX8_not5_45 (by decide) (fun _ => ?_) (fun _ => ?_)
      · exact z_sub [1, 0] (J50 _ _) rfl
      · refine z_iload_n X (q := 0) dX8_not5_48 rfl rfl ?_
        subst hQ; exact z_iret X hlocks hr dX8_not5_49
  · refine z_aload_n X (q := 0) dX8_not5_18 rfl rfl ?_
    refine z_callV X hK (As := []) (ci := 8) rfl (by decide) (fun o => (kX8_opens l Z  b x o _)) hk_X8_200 ⟨rfl, rfl⟩ hd_X8_opens ⟨Nat.le_of_ble_eq_true rfl, Nat.le_of_ble_eq_true rfl⟩ ⟨Nat.le_of_ble_eq_true rfl, Nat.le_of_ble_eq_true rfl⟩ rfl rfl (Nat.le_of_ble_eq_true rfl) dX8_not5_19 (fun _ q15 _ => ?_)
    refine z_pop X dX8_not5_22 rfl ?_
    refine z_iconst X (v := (0 : Int32)) dX8_not5_23 (by decide) ?_
    subst hQ; exact z_iret X hlocks hr dX8_not5_24
theorem zw_587 : Cond.methodLink RX8 221 yX8_not5 ∈ wsL_law := zr_14 _ (by decide +kernel)
theorem zw_588 : Cond.instanceMethod yX8_not5 ∈ wsL_law := zr_14 _ (by decide +kernel)
theorem zw_589 : Cond.selects RX8 yX8_not5 yX8_not5 ∈ wsL_law := zr_14 _ (by decide +kernel)
theorem zw_590 : Cond.code yX8_not5 cX8_not5 4 (some .int) ∈ wsL_law := zr_14 _ (by decide +kernel)
theorem hk_X8_221 : ∀ w ∈ ([Cond.methodLink RX8 221 yX8_not5, Cond.instanceMethod yX8_not5, Cond.selects RX8 yX8_not5 yX8_not5, Cond.initialized RX8, Cond.code yX8_not5 cX8_not5 4 (some .int)] : List Cond), w ∈ wsL_law := List.forall_mem_cons.mpr ⟨zw_587, List.forall_mem_cons.mpr ⟨zw_588, List.forall_mem_cons.mpr ⟨zw_589, List.forall_mem_cons.mpr ⟨zw_525, List.forall_mem_cons.mpr ⟨zw_590, fun _ h => absurd h List.not_mem_nil⟩⟩⟩⟩⟩
theorem hd_X8_not5 : yX8_not5.cls = RX8 ∧ yX8_not5.cls ≠ "java/lang/invoke/MethodHandle" ∧ yX8_not5.cls ≠ "java/lang/invoke/VarHandle" ∧ (parseMethodDescriptor yX8_not5.desc).map (fun d => d.parameters.length) = some 0 := by decide +kernel
abbrev rmX8_both5 : Room := { frames := 9, cells := 0, slots := 0, locals := 219 }
def fX8_both5_j45 (this : Nat) (k5 : Int32 → zS → Option (Int32 × zS)) (s0 : Int32) (st : zS) : Option (Int32 × zS) :=
  k5 s0 st
def fX8_both5_j44 (this : Nat) (k5 : Int32 → zS → Option (Int32 × zS)) (st : zS) : Option (Int32 × zS) :=
  fX8_both5_j45 this k5 (0 : Int32) st
def fX8_both5_L5 (this : Nat) : Nat → Int32 → zS → Option (Int32 × zS)
  | 0, _, _ => none
  | n + 1, y1, st => (zok spM st (some this) 8).bind fun o7 => (fX8_isWord o7 (97 : Int32) (110 : Int32) (100 : Int32) (0 : Int32) (0 : Int32) (0 : Int32) (0 : Int32) (0 : Int32) st).bind fun q1 => if q1.1 = 0 then (some (y1, q1.2)) else ((zok spM q1.2 (some this) 8).bind fun o6 => (fX8_next o6 q1.2).bind fun q2 => (zok spM q2.2 (some this) 8).bind fun o5 => (fX8_not5 o5 q2.2).bind fun q3 => zlet (q3.1) fun v4 => if y1 = 0 then (fX8_both5_j44 this (fX8_both5_L5 this n) q3.2) else (if v4 = 0 then (fX8_both5_j44 this (fX8_both5_L5 this n) q3.2) else (fX8_both5_j45 this (fX8_both5_L5 this n) (1 : Int32) q3.2)))
def fX8_both5 (this : Nat) (st : zS) : Option (Int32 × zS) :=
  (zok spM st (some this) 8).bind fun o10 => (fX8_not5 o10 st).bind fun q8 => zlet (q8.1) fun v9 => fX8_both5_L5 this zF v9 q8.2
set_option maxRecDepth 100000 in
set_option maxHeartbeats 4000000 in
theorem kX8_both5 (l : Launch) (Z : zZ) (b : Nat) (x : Option Nat) (this : Nat) (st : zS) : zC l Z spM b x yX8_both5 (.code yX8_both5 cX8_both5 3 (some .int)) (rmX8_both5) rI [vP (some this)] st (fX8_both5 this st) := by
  refine z_start (own := RX8) rfl (by decide +kernel) (Nat.le_of_ble_eq_true rfl) rfl (fun p e s m args below meth c res Q A X hK hr hlocks hQ => ?_)
  have J5 : ∀ (n5 : Nat) (y1 : Int32) (st : zS), zs p l e (rmX8_both5) s m args below meth c Q Z spM b x A 3 0 0 res (fX8_both5_L5 this n5 y1 st) 5 [(0, vP (some this)), (1, vI y1)] [] st := by
    intro n5
    induction n5 with
    | zero => intros; exact z_none
    | succ n5 ih5 =>
      have J45 : ∀ (s0 : Int32) (st : zS), zs p l e (rmX8_both5) s m args below meth c Q Z spM b x A 3 0 0 res (fX8_both5_j45 this (fX8_both5_L5 this n5) s0 st) 45 [(0, vP (some this))] [vI s0] st := by
        intro s0 st
        rw [fX8_both5_j45]
        refine z_istore_n X dX8_both5_45 rfl (Nat.le_of_ble_eq_true rfl) rfl ?_
        refine z_goto X (tgt := 5) dX8_both5_46 (by decide) ?_
        exact z_sub [1, 0] (ih5 _ _) rfl
      have J44 : ∀ (st : zS), zs p l e (rmX8_both5) s m args below meth c Q Z spM b x A 3 0 0 res (fX8_both5_j44 this (fX8_both5_L5 this n5) st) 44 [(0, vP (some this))] [] st := by
        intro  st
        rw [fX8_both5_j44]
        refine z_iconst X (v := (0 : Int32)) dX8_both5_44 (by decide) ?_
        exact z_sub [0] (J45 _ _) rfl
      intro y1 st
      rw [fX8_both5_L5]
      refine z_aload_n X (q := 0) dX8_both5_5 rfl rfl ?_
      refine z_bipush X (v := (97 : Int32)) dX8_both5_6 (by decide) ?_
      refine z_bipush X (v := (110 : Int32)) dX8_both5_8 (by decide) ?_
      refine z_bipush X (v := (100 : Int32)) dX8_both5_10 (by decide) ?_
      refine z_iconst X (v := (0 : Int32)) dX8_both5_12 (by decide) ?_
      refine z_iconst X (v := (0 : Int32)) dX8_both5_13 (by decide) ?_
      refine z_iconst X (v := (0 : Int32)) dX8_both5_14 (by decide) ?_
      refine z_iconst X (v := (0 : Int32)) dX8_both5_15 (by decide) ?_
      refine z_iconst X (v := (0 : Int32)) dX8_both5_16 (by decide) ?_
      refine z_callV X hK (As := [vI (97 : Int32), vI (110 : Int32), vI (100 : Int32), vI (0 : Int32), vI (0 : Int32), vI (0 : Int32), vI (0 : Int32), vI (0 : Int32)]) (ci := 8) rfl (by decide) (fun o => (kX8_isWord l Z  b x o _ _ _ _ _ _ _ _ _)) hk_X8_175 ⟨rfl, rfl⟩ hd_X8_isWord ⟨Nat.le_of_ble_eq_true rfl, Nat.le_of_ble_eq_true rfl⟩ ⟨Nat.le_of_ble_eq_true rfl, Nat.le_of_ble_eq_true rfl⟩ rfl rfl (Nat.le_of_ble_eq_true rfl) dX8_both5_17 (fun _ q1 _ => ?_)
      refine z_if_eq X (tgt := 49) dX8_both5_20 (by decide) (fun _ => ?_) (fun _ => ?_)
      · refine z_iload_n X (q := 1) dX8_both5_49 rfl rfl ?_
        subst hQ; exact z_iret X hlocks hr dX8_both5_50
      · refine z_aload_n X (q := 0) dX8_both5_23 rfl rfl ?_
        refine z_callV X hK (As := []) (ci := 8) rfl (by decide) (fun o => (kX8_next l Z  b x o _)) hk_X8_172 ⟨rfl, rfl⟩ hd_X8_next ⟨Nat.le_of_ble_eq_true rfl, Nat.le_of_ble_eq_true rfl⟩ ⟨Nat.le_of_ble_eq_true rfl, Nat.le_of_ble_eq_true rfl⟩ rfl rfl (Nat.le_of_ble_eq_true rfl) dX8_both5_24 (fun _ q2 _ => ?_)
        refine z_aload_n X (q := 0) dX8_both5_27 rfl rfl ?_
        refine z_callV X hK (As := []) (ci := 8) rfl (by decide) (fun o => (kX8_not5 l Z  b x o _)) hk_X8_221 ⟨rfl, rfl⟩ hd_X8_not5 ⟨Nat.le_of_ble_eq_true rfl, Nat.le_of_ble_eq_true rfl⟩ ⟨Nat.le_of_ble_eq_true rfl, Nat.le_of_ble_eq_true rfl⟩ rfl rfl (Nat.le_of_ble_eq_true rfl) dX8_both5_28 (fun _ q3 _ => ?_)
        refine z_name (fun v4 => ?_)
        refine z_istore_n X dX8_both5_31 rfl (Nat.le_of_ble_eq_true rfl) rfl ?_
        refine z_iload_n X (q := 2) dX8_both5_32 rfl rfl ?_
        refine z_if_eq X (tgt := 44) dX8_both5_33 (by decide) (fun _ => ?_) (fun _ => ?_)
        · exact z_sub [1] (J44  _) rfl
        · refine z_iload_n X (q := 0) dX8_both5_36 rfl rfl ?_
          refine z_if_eq X (tgt := 44) dX8_both5_37 (by decide) (fun _ => ?_) (fun _ => ?_)
          · exact z_sub [1] (J44  _) rfl
          · refine z_iconst X (v := (1 : Int32)) dX8_both5_40 (by decide) ?_
            refine z_goto X (tgt := 45) dX8_both5_41 (by decide) ?_
            exact z_sub [1] (J45 _ _) rfl
  rw [fX8_both5]
  refine z_aload_n X (q := 0) dX8_both5_0 rfl rfl ?_
  refine z_callV X hK (As := []) (ci := 8) rfl (by decide) (fun o => (kX8_not5 l Z  b x o _)) hk_X8_221 ⟨rfl, rfl⟩ hd_X8_not5 ⟨Nat.le_of_ble_eq_true rfl, Nat.le_of_ble_eq_true rfl⟩ ⟨Nat.le_of_ble_eq_true rfl, Nat.le_of_ble_eq_true rfl⟩ rfl rfl (Nat.le_of_ble_eq_true rfl) dX8_both5_1 (fun _ q8 _ => ?_)
  refine z_name (fun v9 => ?_)
  refine z_istore_n X dX8_both5_4 rfl (Nat.le_of_ble_eq_true rfl) rfl ?_
  exact z_sub [1, 0] (J5 _ _ _) rfl
