theorem zw_131 : Cond.methodLink RX6 102 Lib.Math.min.name ∈ wsL_law := zr_24 _ (by decide +kernel)
theorem hm_X6_102 : ∀ w ∈ ([Cond.methodLink RX6 102 Lib.Math.min.name, Cond.static Lib.Math.min.name, Cond.initialized "java/lang/Math", Cond.code Lib.Math.min.name Lib.Math.min.code 2 (some .int)] : List Cond), w ∈ wsL_law := List.forall_mem_cons.mpr ⟨zw_131, List.forall_mem_cons.mpr ⟨zw_42, List.forall_mem_cons.mpr ⟨zw_43, List.forall_mem_cons.mpr ⟨zw_44, fun _ h => absurd h List.not_mem_nil⟩⟩⟩⟩
theorem zw_132 : Cond.methodLink RX6 105 Lib.Math.max.name ∈ wsL_law := zr_24 _ (by decide +kernel)
theorem hm_X6_105 : ∀ w ∈ ([Cond.methodLink RX6 105 Lib.Math.max.name, Cond.static Lib.Math.max.name, Cond.initialized "java/lang/Math", Cond.code Lib.Math.max.name Lib.Math.max.code 2 (some .int)] : List Cond), w ∈ wsL_law := List.forall_mem_cons.mpr ⟨zw_132, List.forall_mem_cons.mpr ⟨zw_46, List.forall_mem_cons.mpr ⟨zw_43, List.forall_mem_cons.mpr ⟨zw_47, fun _ h => absurd h List.not_mem_nil⟩⟩⟩⟩
abbrev rmX6_bounded : Room := { frames := 1, cells := 0, slots := 0, locals := 40 }
def fX6_bounded (a0 : Int32) (st : zS) : Option (Int32 × zS) :=
  some ((if (-99 : Int32) < (if a0 < (99 : Int32) then a0 else (99 : Int32)) then (if a0 < (99 : Int32) then a0 else (99 : Int32)) else (-99 : Int32)), st)
set_option maxRecDepth 100000 in
set_option maxHeartbeats 4000000 in
theorem kX6_bounded (l : Launch) (Z : zZ) (b : Nat) (x : Option Nat) (a0 : Int32) (st : zS) : zC l Z spX b x yX6_bounded (.code yX6_bounded cX6_bounded 1 (some .int)) (rmX6_bounded) rI [vI a0] st (fX6_bounded a0 st) := by
  refine z_start (own := RX6) rfl (by decide +kernel) (Nat.le_of_ble_eq_true rfl) rfl (fun p e s m args below meth c res Q A X hK hr hlocks hQ => ?_)
  rw [fX6_bounded]
  refine z_bipush X (v := (-99 : Int32)) dX6_bounded_0 (by decide) ?_
  refine z_bipush X (v := (99 : Int32)) dX6_bounded_2 (by decide) ?_
  refine z_iload_n X (q := 0) dX6_bounded_4 rfl rfl ?_
  refine z_min X hm_X6_102 ⟨Nat.le_of_ble_eq_true rfl, Nat.le_of_ble_eq_true rfl⟩ ⟨Nat.le_of_ble_eq_true rfl, Nat.le_of_ble_eq_true rfl⟩ (Nat.le_of_ble_eq_true rfl) dX6_bounded_5 ?_
  refine z_max X hm_X6_105 ⟨Nat.le_of_ble_eq_true rfl, Nat.le_of_ble_eq_true rfl⟩ ⟨Nat.le_of_ble_eq_true rfl, Nat.le_of_ble_eq_true rfl⟩ (Nat.le_of_ble_eq_true rfl) dX6_bounded_8 ?_
  subst hQ; exact z_iret X hlocks hr dX6_bounded_11
theorem zw_133 : Cond.methodLink RX6 122 yX4_placeOf ∈ wsL_law := zr_23 _ (by decide +kernel)
theorem hk_X6_122 : ∀ w ∈ ([Cond.methodLink RX6 122 yX4_placeOf, Cond.static yX4_placeOf, Cond.initialized RX4, Cond.code yX4_placeOf cX4_placeOf 1 (some .int)] : List Cond), w ∈ wsL_law := List.forall_mem_cons.mpr ⟨zw_133, List.forall_mem_cons.mpr ⟨zw_68, List.forall_mem_cons.mpr ⟨zw_55, List.forall_mem_cons.mpr ⟨zw_69, fun _ h => absurd h List.not_mem_nil⟩⟩⟩⟩
theorem zw_134 : Cond.fieldLink RX6 11 "WellGivesOther$Visit" "names" "[I" ∈ wsL_law := zr_2 _ (by decide +kernel)
theorem hf_X6_11 : Cond.fieldLink RX6 11 "WellGivesOther$Visit" "names" "[I" ∈ wsL_law := zw_134
abbrev rmX6_put : Room := { frames := 2, cells := 0, slots := 0, locals := 60 }
def fX6_put (this : Nat) (a1 : Int32) (a2 : Int32) (st : zS) : Option (Unit × zS) :=
  (fX4_placeOf a1 st).bind fun q1 => zlet (q1.1) fun v2 => if v2 < 0 then (some ((), q1.2)) else ((zok spX q1.2 (some this) 6).bind fun o3 => (zla spX q1.2 (q1.2.2.2.2 o3 1)).bind fun o4 => if (Int32.ofNat (spX o4).2) ≤ v2 then (some ((), q1.2)) else ((zok spX q1.2 (some this) 6).bind fun o5 => (zok spX q1.2 (q1.2.2.2.2 o5 1) 9).bind fun o6 => (zix spX o6 v2).bind fun j7 => zlet (zp q1.2 o6 j7 a2) fun st8 => some ((), st8)))
set_option maxRecDepth 100000 in
set_option maxHeartbeats 4000000 in
theorem kX6_put (l : Launch) (Z : zZ) (b : Nat) (x : Option Nat) (this : Nat) (a1 : Int32) (a2 : Int32) (st : zS) : zC l Z spX b x yX6_put (.code yX6_put cX6_put 4 none) (rmX6_put) rV [vP (some this), vI a1, vI a2] st (fX6_put this a1 a2 st) := by
  refine z_start (own := RX6) rfl (by decide +kernel) (Nat.le_of_ble_eq_true rfl) rfl (fun p e s m args below meth c res Q A X hK hr hlocks hQ => ?_)
  rw [fX6_put]
  refine z_iload_n X (q := 1) dX6_put_0 rfl rfl ?_
  refine z_callS X hK (As := [vI a1]) (kX4_placeOf l Z  b x _ _) hk_X6_122 ⟨rfl, rfl⟩ hd_X4_placeOf.2 ⟨Nat.le_of_ble_eq_true rfl, Nat.le_of_ble_eq_true rfl⟩ ⟨Nat.le_of_ble_eq_true rfl, Nat.le_of_ble_eq_true rfl⟩ rfl rfl (Nat.le_of_ble_eq_true rfl) dX6_put_1 (fun q1 => ?_)
  refine z_name (fun v2 => ?_)
  refine z_istore_n X dX6_put_4 rfl (Nat.le_of_ble_eq_true rfl) rfl ?_
  refine z_iload_n X (q := 0) dX6_put_5 rfl rfl ?_
  refine z_if_lt X (tgt := 25) dX6_put_6 (by decide) (fun _ => ?_) (fun _ => ?_)
  · subst hQ; exact z_vret X hlocks hr dX6_put_25
  · refine z_iload_n X (q := 0) dX6_put_9 rfl rfl ?_
    refine z_aload_n X (q := 1) dX6_put_10 rfl rfl ?_
    refine z_getr X hK (N := 15) (ci := 6) (k := 1) rfl (by decide) inlX6 (by decide) hf_X6_11 rfl spX_X6 rfl dX6_put_11 (fun o3 _ => ?_)
    refine z_alen X hK dX6_put_14 spX_14 (fun o4 _ => ?_)
    refine z_icmp_ge X (tgt := 25) dX6_put_15 (by decide) (fun _ => ?_) (fun _ => ?_)
    · subst hQ; exact z_vret X hlocks hr dX6_put_25
    · refine z_aload_n X (q := 1) dX6_put_18 rfl rfl ?_
      refine z_getr X hK (N := 15) (ci := 6) (k := 1) rfl (by decide) inlX6 (by decide) hf_X6_11 rfl spX_X6 rfl dX6_put_19 (fun o5 _ => ?_)
      refine z_iload_n X (q := 0) dX6_put_22 rfl rfl ?_
      refine z_iload_n X (q := 3) dX6_put_23 rfl rfl ?_
      refine z_iast X hK dX6_put_24 (fun o6 j7 st8 _ _ => ?_)
      subst hQ; exact z_vret X hlocks hr dX6_put_25
theorem zw_135 : Cond.methodLink RX6 111 yX6_bounded ∈ wsL_law := zr_24 _ (by decide +kernel)
theorem zw_136 : Cond.static yX6_bounded ∈ wsL_law := zr_24 _ (by decide +kernel)
theorem zw_137 : Cond.initialized RX6 ∈ wsL_law := zr_2 _ (by decide +kernel)
theorem zw_138 : Cond.code yX6_bounded cX6_bounded 1 (some .int) ∈ wsL_law := zr_24 _ (by decide +kernel)
theorem hk_X6_111 : ∀ w ∈ ([Cond.methodLink RX6 111 yX6_bounded, Cond.static yX6_bounded, Cond.initialized RX6, Cond.code yX6_bounded cX6_bounded 1 (some .int)] : List Cond), w ∈ wsL_law := List.forall_mem_cons.mpr ⟨zw_135, List.forall_mem_cons.mpr ⟨zw_136, List.forall_mem_cons.mpr ⟨zw_137, List.forall_mem_cons.mpr ⟨zw_138, fun _ h => absurd h List.not_mem_nil⟩⟩⟩⟩
theorem zw_139 : Cond.methodLink RX6 114 yX6_put ∈ wsL_law := zr_23 _ (by decide +kernel)
theorem zw_140 : Cond.instanceMethod yX6_put ∈ wsL_law := zr_23 _ (by decide +kernel)
theorem zw_141 : Cond.selects RX6 yX6_put yX6_put ∈ wsL_law := zr_23 _ (by decide +kernel)
theorem zw_142 : Cond.code yX6_put cX6_put 4 none ∈ wsL_law := zr_23 _ (by decide +kernel)
theorem hk_X6_114 : ∀ w ∈ ([Cond.methodLink RX6 114 yX6_put, Cond.instanceMethod yX6_put, Cond.selects RX6 yX6_put yX6_put, Cond.initialized RX6, Cond.code yX6_put cX6_put 4 none] : List Cond), w ∈ wsL_law := List.forall_mem_cons.mpr ⟨zw_139, List.forall_mem_cons.mpr ⟨zw_140, List.forall_mem_cons.mpr ⟨zw_141, List.forall_mem_cons.mpr ⟨zw_137, List.forall_mem_cons.mpr ⟨zw_142, fun _ h => absurd h List.not_mem_nil⟩⟩⟩⟩⟩
theorem zw_143 : Cond.methodLink RX6 118 yX4_valueOf ∈ wsL_law := zr_23 _ (by decide +kernel)
theorem zw_144 : Cond.instanceMethod yX4_valueOf ∈ wsL_law := zr_23 _ (by decide +kernel)
theorem zw_145 : Cond.selects RX4 yX4_valueOf yX4_valueOf ∈ wsL_law := zr_23 _ (by decide +kernel)
theorem zw_146 : Cond.code yX4_valueOf cX4_valueOf 6 (some .int) ∈ wsL_law := zr_23 _ (by decide +kernel)
theorem hk_X6_118 : ∀ w ∈ ([Cond.methodLink RX6 118 yX4_valueOf, Cond.instanceMethod yX4_valueOf, Cond.selects RX4 yX4_valueOf yX4_valueOf, Cond.initialized RX4, Cond.code yX4_valueOf cX4_valueOf 6 (some .int)] : List Cond), w ∈ wsL_law := List.forall_mem_cons.mpr ⟨zw_143, List.forall_mem_cons.mpr ⟨zw_144, List.forall_mem_cons.mpr ⟨zw_145, List.forall_mem_cons.mpr ⟨zw_55, List.forall_mem_cons.mpr ⟨zw_146, fun _ h => absurd h List.not_mem_nil⟩⟩⟩⟩⟩
theorem zw_147 : Cond.methodLink RX6 82 yJ6_bitCount_0f7a4 ∈ wsL_law := zr_22 _ (by decide +kernel)
theorem zw_148 : Cond.static yJ6_bitCount_0f7a4 ∈ wsL_law := zr_5 _ (by decide +kernel)
theorem zw_149 : Cond.initialized RJ6 ∈ wsL_law := zr_5 _ (by decide +kernel)
theorem zw_150 : Cond.code yJ6_bitCount_0f7a4 cJ6_bitCount_0f7a4 1 (some .int) ∈ wsL_law := zr_5 _ (by decide +kernel)
theorem hk_X6_82 : ∀ w ∈ ([Cond.methodLink RX6 82 yJ6_bitCount_0f7a4, Cond.static yJ6_bitCount_0f7a4, Cond.initialized RJ6, Cond.code yJ6_bitCount_0f7a4 cJ6_bitCount_0f7a4 1 (some .int)] : List Cond), w ∈ wsL_law := List.forall_mem_cons.mpr ⟨zw_147, List.forall_mem_cons.mpr ⟨zw_148, List.forall_mem_cons.mpr ⟨zw_149, List.forall_mem_cons.mpr ⟨zw_150, fun _ h => absurd h List.not_mem_nil⟩⟩⟩⟩
theorem hd_J6_bitCount_0f7a4 : yJ6_bitCount_0f7a4.cls = RJ6 ∧ yJ6_bitCount_0f7a4.cls ≠ "java/lang/invoke/MethodHandle" ∧ yJ6_bitCount_0f7a4.cls ≠ "java/lang/invoke/VarHandle" ∧ (parseMethodDescriptor yJ6_bitCount_0f7a4.desc).map (fun d => d.parameters.length) = some 1 := by decide +kernel
theorem hd_X4_valueOf : yX4_valueOf.cls = RX4 ∧ yX4_valueOf.cls ≠ "java/lang/invoke/MethodHandle" ∧ yX4_valueOf.cls ≠ "java/lang/invoke/VarHandle" ∧ (parseMethodDescriptor yX4_valueOf.desc).map (fun d => d.parameters.length) = some 2 := by decide +kernel
theorem hd_X6_bounded : yX6_bounded.cls = RX6 ∧ yX6_bounded.cls ≠ "java/lang/invoke/MethodHandle" ∧ yX6_bounded.cls ≠ "java/lang/invoke/VarHandle" ∧ (parseMethodDescriptor yX6_bounded.desc).map (fun d => d.parameters.length) = some 1 := by decide +kernel
theorem hd_X6_put : yX6_put.cls = RX6 ∧ yX6_put.cls ≠ "java/lang/invoke/MethodHandle" ∧ yX6_put.cls ≠ "java/lang/invoke/VarHandle" ∧ (parseMethodDescriptor yX6_put.desc).map (fun d => d.parameters.length) = some 2 := by decide +kernel
theorem zw_151 : Cond.fieldLink RX6 30 "WellGivesOther$Visit" "number" "I" ∈ wsL_law := zr_21 _ (by decide +kernel)
theorem hf_X6_30 : Cond.fieldLink RX6 30 "WellGivesOther$Visit" "number" "I" ∈ wsL_law := zw_151
theorem zw_152 : Cond.fieldLink RX6 38 "WellGivesOther$Visit" "had" "I" ∈ wsL_law := zr_21 _ (by decide +kernel)
theorem hf_X6_38 : Cond.fieldLink RX6 38 "WellGivesOther$Visit" "had" "I" ∈ wsL_law := zw_152
theorem zw_153 : Cond.fieldLink RX6 46 "WellGivesOther$Visit" "day" "I" ∈ wsL_law := zr_21 _ (by decide +kernel)
theorem hf_X6_46 : Cond.fieldLink RX6 46 "WellGivesOther$Visit" "day" "I" ∈ wsL_law := zw_153
theorem zw_154 : Cond.fieldLink RX6 49 "WellGivesOther$Visit" "rule" "LWellGivesOther$Text;" ∈ wsL_law := zr_21 _ (by decide +kernel)
theorem hf_X6_49 : Cond.fieldLink RX6 49 "WellGivesOther$Visit" "rule" "LWellGivesOther$Text;" ∈ wsL_law := zw_154
abbrev rmX6_tellBy : Room := { frames := 3, cells := 0, slots := 0, locals := 89 }
def fX6_tellBy (this : Nat) (a1 : Int32) (a2 : Int32) (a3 : Int32) (a4 : Int32) (st : zS) : Option (Int32 × zS) :=
  (zok spX st (some this) 6).bind fun o1 => if (st.2.2.2 o1 2) = none then (some ((0 : Int32), st)) else ((zok spX st (some this) 6).bind fun o22 => (fX6_put o22 (-1 : Int32) a2 st).bind fun q2 => (zok spX q2.2 (some this) 6).bind fun o21 => (fX6_put o21 (-2 : Int32) a3 q2.2).bind fun q3 => (zok spX q3.2 (some this) 6).bind fun o20 => (fX6_put o20 (-3 : Int32) a4 q3.2).bind fun q4 => (zok spX q4.2 (some this) 6).bind fun o5 => (zok spX q4.2 (some this) 6).bind fun o19 => (fX6_put o19 (-4 : Int32) (q4.2.2.1 o5 4) q4.2).bind fun q6 => (zok spX q6.2 (some this) 6).bind fun o7 => (zok spX q6.2 (some this) 6).bind fun o18 => (fX6_put o18 (-5 : Int32) (q6.2.2.1 o7 9) q6.2).bind fun q8 => (zok spX q8.2 (some this) 6).bind fun o9 => (fJ6_bitCount_0f7a4 (q8.2.2.1 o9 6) q8.2).bind fun q10 => (zok spX q10.2 (some this) 6).bind fun o17 => (fX6_put o17 (-6 : Int32) q10.1 q10.2).bind fun q11 => (zok spX q11.2 (some this) 6).bind fun o12 => (zok spX q11.2 (some this) 6).bind fun o13 => (zok spX q11.2 (q11.2.2.2.2 o12 2) 4).bind fun o16 => (fX4_valueOf o16 a1 (q11.2.2.2.2 o13 1) q11.2).bind fun q14 => (fX6_bounded q14.1 q14.2).bind fun q15 => some (q15.1, q15.2))
set_option maxRecDepth 100000 in
set_option maxHeartbeats 4000000 in
theorem kX6_tellBy (l : Launch) (Z : zZ) (b : Nat) (x : Option Nat) (this : Nat) (a1 : Int32) (a2 : Int32) (a3 : Int32) (a4 : Int32) (st : zS) : zC l Z spX b x yX6_tellBy (.code yX6_tellBy cX6_tellBy 5 (some .int)) (rmX6_tellBy) rI [vP (some this), vI a1, vI a2, vI a3, vI a4] st (fX6_tellBy this a1 a2 a3 a4 st) := by
  refine z_start (own := RX6) rfl (by decide +kernel) (Nat.le_of_ble_eq_true rfl) rfl (fun p e s m args below meth c res Q A X hK hr hlocks hQ => ?_)
  rw [fX6_tellBy]
  refine z_aload_n X (q := 0) dX6_tellBy_0 rfl rfl ?_
  refine z_getr X hK (N := 15) (ci := 6) (k := 2) rfl (by decide) inlX6 (by decide) hf_X6_49 rfl spX_X6 rfl dX6_tellBy_1 (fun o1 _ => ?_)
  refine z_ifnonnull X (tgt := 9) dX6_tellBy_4 (by decide) (fun _ => ?_) (fun _ => ?_)
  · refine z_aload_n X (q := 0) dX6_tellBy_9 rfl rfl ?_
    refine z_iconst X (v := (-1 : Int32)) dX6_tellBy_10 (by decide) ?_
    refine z_iload_n X (q := 2) dX6_tellBy_11 rfl rfl ?_
    refine z_callV X hK (As := [vI (-1 : Int32), vI a2]) (ci := 6) rfl (by decide) (fun o => (kX6_put l Z  b x o _ _ _)) hk_X6_114 ⟨rfl, rfl⟩ hd_X6_put ⟨Nat.le_of_ble_eq_true rfl, Nat.le_of_ble_eq_true rfl⟩ ⟨Nat.le_of_ble_eq_true rfl, Nat.le_of_ble_eq_true rfl⟩ rfl rfl (Nat.le_of_ble_eq_true rfl) dX6_tellBy_12 (fun _ q2 _ => ?_)
    refine z_aload_n X (q := 0) dX6_tellBy_15 rfl rfl ?_
    refine z_bipush X (v := (-2 : Int32)) dX6_tellBy_16 (by decide) ?_
    refine z_iload_n X (q := 3) dX6_tellBy_18 rfl rfl ?_
    refine z_callV X hK (As := [vI (-2 : Int32), vI a3]) (ci := 6) rfl (by decide) (fun o => (kX6_put l Z  b x o _ _ _)) hk_X6_114 ⟨rfl, rfl⟩ hd_X6_put ⟨Nat.le_of_ble_eq_true rfl, Nat.le_of_ble_eq_true rfl⟩ ⟨Nat.le_of_ble_eq_true rfl, Nat.le_of_ble_eq_true rfl⟩ rfl rfl (Nat.le_of_ble_eq_true rfl) dX6_tellBy_19 (fun _ q3 _ => ?_)
    refine z_aload_n X (q := 0) dX6_tellBy_22 rfl rfl ?_
    refine z_bipush X (v := (-3 : Int32)) dX6_tellBy_23 (by decide) ?_
    refine z_iload X (q := 4) dX6_tellBy_25 rfl ?_
    refine z_callV X hK (As := [vI (-3 : Int32), vI a4]) (ci := 6) rfl (by decide) (fun o => (kX6_put l Z  b x o _ _ _)) hk_X6_114 ⟨rfl, rfl⟩ hd_X6_put ⟨Nat.le_of_ble_eq_true rfl, Nat.le_of_ble_eq_true rfl⟩ ⟨Nat.le_of_ble_eq_true rfl, Nat.le_of_ble_eq_true rfl⟩ rfl rfl (Nat.le_of_ble_eq_true rfl) dX6_tellBy_27 (fun _ q4 _ => ?_)
    refine z_aload_n X (q := 0) dX6_tellBy_30 rfl rfl ?_
    refine z_bipush X (v := (-4 : Int32)) dX6_tellBy_31 (by decide) ?_
    refine z_aload_n X (q := 0) dX6_tellBy_33 rfl rfl ?_
    refine z_geti X hK (N := 15) (ci := 6) (k := 4) rfl (by decide) inlX6 (by decide) hf_X6_30 rfl spX_X6 rfl dX6_tellBy_34 (fun o5 _ => ?_)
    refine z_callV X hK (As := [vI (-4 : Int32), vI (q4.2.2.1 o5 4)]) (ci := 6) rfl (by decide) (fun o => (kX6_put l Z  b x o _ _ _)) hk_X6_114 ⟨rfl, rfl⟩ hd_X6_put ⟨Nat.le_of_ble_eq_true rfl, Nat.le_of_ble_eq_true rfl⟩ ⟨Nat.le_of_ble_eq_true rfl, Nat.le_of_ble_eq_true rfl⟩ rfl rfl (Nat.le_of_ble_eq_true rfl) dX6_tellBy_37 (fun _ q6 _ => ?_)
    refine z_aload_n X (q := 0) dX6_tellBy_40 rfl rfl ?_
    refine z_bipush X (v := (-5 : Int32)) dX6_tellBy_41 (by decide) ?_
    refine z_aload_n X (q := 0) dX6_tellBy_43 rfl rfl ?_
    refine z_geti X hK (N := 15) (ci := 6) (k := 9) rfl (by decide) inlX6 (by decide) hf_X6_46 rfl spX_X6 rfl dX6_tellBy_44 (fun o7 _ => ?_)
    refine z_callV X hK (As := [vI (-5 : Int32), vI (q6.2.2.1 o7 9)]) (ci := 6) rfl (by decide) (fun o => (kX6_put l Z  b x o _ _ _)) hk_X6_114 ⟨rfl, rfl⟩ hd_X6_put ⟨Nat.le_of_ble_eq_true rfl, Nat.le_of_ble_eq_true rfl⟩ ⟨Nat.le_of_ble_eq_true rfl, Nat.le_of_ble_eq_true rfl⟩ rfl rfl (Nat.le_of_ble_eq_true rfl) dX6_tellBy_47 (fun _ q8 _ => ?_)
    refine z_aload_n X (q := 0) dX6_tellBy_50 rfl rfl ?_
    refine z_bipush X (v := (-6 : Int32)) dX6_tellBy_51 (by decide) ?_
    refine z_aload_n X (q := 0) dX6_tellBy_53 rfl rfl ?_
    refine z_geti X hK (N := 15) (ci := 6) (k := 6) rfl (by decide) inlX6 (by decide) hf_X6_38 rfl spX_X6 rfl dX6_tellBy_54 (fun o9 _ => ?_)
    refine z_callS X hK (As := [vI (q8.2.2.1 o9 6)]) (kJ6_bitCount_0f7a4 l Z spX b x _ _) hk_X6_82 ⟨rfl, rfl⟩ hd_J6_bitCount_0f7a4.2 ⟨Nat.le_of_ble_eq_true rfl, Nat.le_of_ble_eq_true rfl⟩ ⟨Nat.le_of_ble_eq_true rfl, Nat.le_of_ble_eq_true rfl⟩ rfl rfl (Nat.le_of_ble_eq_true rfl) dX6_tellBy_57 (fun q10 => ?_)
    refine z_callV X hK (As := [vI (-6 : Int32), vI q10.1]) (ci := 6) rfl (by decide) (fun o => (kX6_put l Z  b x o _ _ _)) hk_X6_114 ⟨rfl, rfl⟩ hd_X6_put ⟨Nat.le_of_ble_eq_true rfl, Nat.le_of_ble_eq_true rfl⟩ ⟨Nat.le_of_ble_eq_true rfl, Nat.le_of_ble_eq_true rfl⟩ rfl rfl (Nat.le_of_ble_eq_true rfl) dX6_tellBy_60 (fun _ q11 _ => ?_)
    refine z_aload_n X (q := 0) dX6_tellBy_63 rfl rfl ?_
    refine z_getr X hK (N := 15) (ci := 6) (k := 2) rfl (by decide) inlX6 (by decide) hf_X6_49 rfl spX_X6 rfl dX6_tellBy_64 (fun o12 _ => ?_)
    refine z_iload_n X (q := 1) dX6_tellBy_67 rfl rfl ?_
    refine z_aload_n X (q := 0) dX6_tellBy_68 rfl rfl ?_
    refine z_getr X hK (N := 15) (ci := 6) (k := 1) rfl (by decide) inlX6 (by decide) hf_X6_11 rfl spX_X6 rfl dX6_tellBy_69 (fun o13 _ => ?_)
    refine z_callV X hK (As := [vI a1, vP (q11.2.2.2.2 o13 1)]) (ci := 4) rfl (by decide) (fun o => (kX4_valueOf l Z  b x o _ _ _)) hk_X6_118 ⟨rfl, rfl⟩ hd_X4_valueOf ⟨Nat.le_of_ble_eq_true rfl, Nat.le_of_ble_eq_true rfl⟩ ⟨Nat.le_of_ble_eq_true rfl, Nat.le_of_ble_eq_true rfl⟩ rfl rfl (Nat.le_of_ble_eq_true rfl) dX6_tellBy_72 (fun _ q14 _ => ?_)
    refine z_callS X hK (As := [vI q14.1]) (kX6_bounded l Z  b x _ _) hk_X6_111 ⟨rfl, rfl⟩ hd_X6_bounded.2 ⟨Nat.le_of_ble_eq_true rfl, Nat.le_of_ble_eq_true rfl⟩ ⟨Nat.le_of_ble_eq_true rfl, Nat.le_of_ble_eq_true rfl⟩ rfl rfl (Nat.le_of_ble_eq_true rfl) dX6_tellBy_75 (fun q15 => ?_)
    subst hQ; exact z_iret X hlocks hr dX6_tellBy_78
  · refine z_iconst X (v := (0 : Int32)) dX6_tellBy_7 (by decide) ?_
    subst hQ; exact z_iret X hlocks hr dX6_tellBy_8
theorem zw_155 : Cond.methodLink RX6 87 yX6_tellBy ∈ wsL_law := zr_22 _ (by decide +kernel)
theorem zw_156 : Cond.instanceMethod yX6_tellBy ∈ wsL_law := zr_22 _ (by decide +kernel)
theorem zw_157 : Cond.selects RX6 yX6_tellBy yX6_tellBy ∈ wsL_law := zr_23 _ (by decide +kernel)
theorem zw_158 : Cond.code yX6_tellBy cX6_tellBy 5 (some .int) ∈ wsL_law := zr_23 _ (by decide +kernel)
theorem hk_X6_87 : ∀ w ∈ ([Cond.methodLink RX6 87 yX6_tellBy, Cond.instanceMethod yX6_tellBy, Cond.selects RX6 yX6_tellBy yX6_tellBy, Cond.initialized RX6, Cond.code yX6_tellBy cX6_tellBy 5 (some .int)] : List Cond), w ∈ wsL_law := List.forall_mem_cons.mpr ⟨zw_155, List.forall_mem_cons.mpr ⟨zw_156, List.forall_mem_cons.mpr ⟨zw_157, List.forall_mem_cons.mpr ⟨zw_137, List.forall_mem_cons.mpr ⟨zw_158, fun _ h => absurd h List.not_mem_nil⟩⟩⟩⟩⟩
theorem hd_X6_tellBy : yX6_tellBy.cls = RX6 ∧ yX6_tellBy.cls ≠ "java/lang/invoke/MethodHandle" ∧ yX6_tellBy.cls ≠ "java/lang/invoke/VarHandle" ∧ (parseMethodDescriptor yX6_tellBy.desc).map (fun d => d.parameters.length) = some 4 := by decide +kernel
abbrev rmX6_costOf : Room := { frames := 4, cells := 0, slots := 0, locals := 113 }
def fX6_costOf (this : Nat) (a1 : Int32) (st : zS) : Option (Int32 × zS) :=
  (fJ6_bitCount_0f7a4 a1 st).bind fun q1 => (zok spX q1.2 (some this) 6).bind fun o3 => (fX6_tellBy o3 (2 : Int32) (0 : Int32) q1.1 (0 : Int32) q1.2).bind fun q2 => some ((if (0 : Int32) < (if q2.1 < (99 : Int32) then q2.1 else (99 : Int32)) then (if q2.1 < (99 : Int32) then q2.1 else (99 : Int32)) else (0 : Int32)), q2.2)
set_option maxRecDepth 100000 in
set_option maxHeartbeats 4000000 in
theorem kX6_costOf (l : Launch) (Z : zZ) (b : Nat) (x : Option Nat) (this : Nat) (a1 : Int32) (st : zS) : zC l Z spX b x yX6_costOf (.code yX6_costOf cX6_costOf 2 (some .int)) (rmX6_costOf) rI [vP (some this), vI a1] st (fX6_costOf this a1 st) := by
  refine z_start (own := RX6) rfl (by decide +kernel) (Nat.le_of_ble_eq_true rfl) rfl (fun p e s m args below meth c res Q A X hK hr hlocks hQ => ?_)
  rw [fX6_costOf]
  refine z_iconst X (v := (0 : Int32)) dX6_costOf_0 (by decide) ?_
  refine z_bipush X (v := (99 : Int32)) dX6_costOf_1 (by decide) ?_
  refine z_aload_n X (q := 0) dX6_costOf_3 rfl rfl ?_
  refine z_iconst X (v := (2 : Int32)) dX6_costOf_4 (by decide) ?_
  refine z_iconst X (v := (0 : Int32)) dX6_costOf_5 (by decide) ?_
  refine z_iload_n X (q := 1) dX6_costOf_6 rfl rfl ?_
  refine z_callS X hK (As := [vI a1]) (kJ6_bitCount_0f7a4 l Z spX b x _ _) hk_X6_82 ⟨rfl, rfl⟩ hd_J6_bitCount_0f7a4.2 ⟨Nat.le_of_ble_eq_true rfl, Nat.le_of_ble_eq_true rfl⟩ ⟨Nat.le_of_ble_eq_true rfl, Nat.le_of_ble_eq_true rfl⟩ rfl rfl (Nat.le_of_ble_eq_true rfl) dX6_costOf_7 (fun q1 => ?_)
  refine z_iconst X (v := (0 : Int32)) dX6_costOf_10 (by decide) ?_
  refine z_callV X hK (As := [vI (2 : Int32), vI (0 : Int32), vI q1.1, vI (0 : Int32)]) (ci := 6) rfl (by decide) (fun o => (kX6_tellBy l Z  b x o _ _ _ _ _)) hk_X6_87 ⟨rfl, rfl⟩ hd_X6_tellBy ⟨Nat.le_of_ble_eq_true rfl, Nat.le_of_ble_eq_true rfl⟩ ⟨Nat.le_of_ble_eq_true rfl, Nat.le_of_ble_eq_true rfl⟩ rfl rfl (Nat.le_of_ble_eq_true rfl) dX6_costOf_11 (fun _ q2 _ => ?_)
  refine z_min X hm_X6_102 ⟨Nat.le_of_ble_eq_true rfl, Nat.le_of_ble_eq_true rfl⟩ ⟨Nat.le_of_ble_eq_true rfl, Nat.le_of_ble_eq_true rfl⟩ (Nat.le_of_ble_eq_true rfl) dX6_costOf_14 ?_
  refine z_max X hm_X6_105 ⟨Nat.le_of_ble_eq_true rfl, Nat.le_of_ble_eq_true rfl⟩ ⟨Nat.le_of_ble_eq_true rfl, Nat.le_of_ble_eq_true rfl⟩ (Nat.le_of_ble_eq_true rfl) dX6_costOf_17 ?_
  subst hQ; exact z_iret X hlocks hr dX6_costOf_20
abbrev rmX6_bitAt : Room := { frames := 1, cells := 0, slots := 0, locals := 40 }
def fX6_bitAt_j30 (k4 : Int32 → Int32 → Int32 → zS → Option (Int32 × zS)) (y0 : Int32) (y2 : Int32) (y3 : Int32) (st : zS) : Option (Int32 × zS) :=
  k4 y0 y2 (y3 + (1 : Int32)) st
def fX6_bitAt_L4 : Nat → Int32 → Int32 → Int32 → zS → Option (Int32 × zS)
  | 0, _, _, _, _ => none
  | n + 1, y0, y2, y3, st => if (12 : Int32) ≤ y3 then (some ((-1 : Int32), st)) else (if ((y0 >>> (y3 &&& 31)) &&& (1 : Int32)) = 0 then (fX6_bitAt_j30 (fX6_bitAt_L4 n) y0 y2 y3 st) else (if y2 = 0 then (some (y3, st)) else (fX6_bitAt_j30 (fX6_bitAt_L4 n) y0 (y2 + (-1 : Int32)) y3 st)))
def fX6_bitAt (a0 : Int32) (a1 : Int32) (st : zS) : Option (Int32 × zS) :=
  fX6_bitAt_L4 zF a0 a1 (0 : Int32) st
set_option maxRecDepth 100000 in
set_option maxHeartbeats 4000000 in
theorem kX6_bitAt (l : Launch) (Z : zZ) (b : Nat) (x : Option Nat) (a0 : Int32) (a1 : Int32) (st : zS) : zC l Z spX b x yX6_bitAt (.code yX6_bitAt cX6_bitAt 4 (some .int)) (rmX6_bitAt) rI [vI a0, vI a1] st (fX6_bitAt a0 a1 st) := by
  refine z_start (own := RX6) rfl (by decide +kernel) (Nat.le_of_ble_eq_true rfl) rfl (fun p e s m args below meth c res Q A X hK hr hlocks hQ => ?_)
  have J4 : ∀ (n4 : Nat) (y0 : Int32) (y2 : Int32) (y3 : Int32) (st : zS), zs p l e (rmX6_bitAt) s m args below meth c Q Z spX b x A 4 0 0 res (fX6_bitAt_L4 n4 y0 y2 y3 st) 4 [(0, vI y0), (2, vI y2), (3, vI y3)] [] st := by
    intro n4
    induction n4 with
    | zero => intros; exact z_none
    | succ n4 ih4 =>
      have J30 : ∀ (y0 : Int32) (y2 : Int32) (y3 : Int32) (st : zS), zs p l e (rmX6_bitAt) s m args below meth c Q Z spX b x A 4 0 0 res (fX6_bitAt_j30 (fX6_bitAt_L4 n4) y0 y2 y3 st) 30 [(0, vI y0), (2, vI y2), (3, vI y3)] [] st := by
        intro y0 y2 y3 st
        rw [fX6_bitAt_j30]
        refine z_iinc X (q := 2) (y := y3 + (1 : Int32)) dX6_bitAt_30 rfl rfl (Nat.le_of_ble_eq_true rfl) rfl ?_
        refine z_goto X (tgt := 4) dX6_bitAt_33 (by decide) ?_
        exact z_sub [1, 2, 0] (ih4 _ _ _ _) rfl
      intro y0 y2 y3 st
      rw [fX6_bitAt_L4]
      refine z_iload_n X (q := 2) dX6_bitAt_4 rfl rfl ?_
      refine z_bipush X (v := (12 : Int32)) dX6_bitAt_5 (by decide) ?_
      refine z_icmp_ge X (tgt := 36) dX6_bitAt_7 (by decide) (fun _ => ?_) (fun _ => ?_)
      · refine z_iconst X (v := (-1 : Int32)) dX6_bitAt_36 (by decide) ?_
        subst hQ; exact z_iret X hlocks hr dX6_bitAt_37
      · refine z_iload_n X (q := 0) dX6_bitAt_10 rfl rfl ?_
        refine z_iload_n X (q := 2) dX6_bitAt_11 rfl rfl ?_
        refine z_ishr X dX6_bitAt_12 ?_
        refine z_iconst X (v := (1 : Int32)) dX6_bitAt_13 (by decide) ?_
        refine z_iand X dX6_bitAt_14 ?_
        refine z_if_ne X (tgt := 21) dX6_bitAt_15 (by decide) (fun _ => ?_) (fun _ => ?_)
        · refine z_iload_n X (q := 1) dX6_bitAt_21 rfl rfl ?_
          refine z_if_ne X (tgt := 27) dX6_bitAt_22 (by decide) (fun _ => ?_) (fun _ => ?_)
          · refine z_iinc X (q := 1) (y := y2 + (-1 : Int32)) dX6_bitAt_27 rfl rfl (Nat.le_of_ble_eq_true rfl) rfl ?_
            exact z_sub [1, 0, 2] (J30 _ _ _ _) rfl
          · refine z_iload_n X (q := 2) dX6_bitAt_25 rfl rfl ?_
            subst hQ; exact z_iret X hlocks hr dX6_bitAt_26
        · refine z_goto X (tgt := 30) dX6_bitAt_18 (by decide) ?_
          exact z_sub [0, 1, 2] (J30 _ _ _ _) rfl
  rw [fX6_bitAt]
  refine z_iload_n X (q := 1) dX6_bitAt_0 rfl rfl ?_
  refine z_istore_n X dX6_bitAt_1 rfl (Nat.le_of_ble_eq_true rfl) rfl ?_
  refine z_iconst X (v := (0 : Int32)) dX6_bitAt_2 (by decide) ?_
  refine z_istore_n X dX6_bitAt_3 rfl (Nat.le_of_ble_eq_true rfl) rfl ?_
  exact z_sub [2, 1, 0] (J4 _ _ _ _ _) rfl
theorem zw_159 : Cond.fieldLink RX6 17 "WellGivesOther$Visit" "likes" "[I" ∈ wsL_law := zr_2 _ (by decide +kernel)
theorem hf_X6_17 : Cond.fieldLink RX6 17 "WellGivesOther$Visit" "likes" "[I" ∈ wsL_law := zw_159
abbrev rmX6_likeAnyOf : Room := { frames := 1, cells := 0, slots := 0, locals := 40 }
def fX6_likeAnyOf_j30 (this : Nat) (k4 : Int32 → Int32 → Int32 → zS → Option (Int32 × zS)) (y1 : Int32) (y2 : Int32) (y3 : Int32) (st : zS) : Option (Int32 × zS) :=
  k4 y1 y2 (y3 + (1 : Int32)) st
def fX6_likeAnyOf_L4 (this : Nat) : Nat → Int32 → Int32 → Int32 → zS → Option (Int32 × zS)
  | 0, _, _, _, _ => none
  | n + 1, y1, y2, y3, st => (zok spX st (some this) 6).bind fun o1 => (zla spX st (st.2.2.2 o1 0)).bind fun o2 => if (Int32.ofNat (spX o2).2) ≤ y3 then (some (y2, st)) else (if ((y1 >>> (y3 &&& 31)) &&& (1 : Int32)) = 0 then (fX6_likeAnyOf_j30 this (fX6_likeAnyOf_L4 this n) y1 y2 y3 st) else ((zok spX st (some this) 6).bind fun o3 => (zok spX st (st.2.2.2 o3 0) 9).bind fun o4 => (zix spX o4 y3).bind fun j5 => zlet ((y2 ||| (st.2.1 o4 j5))) fun v6 => fX6_likeAnyOf_j30 this (fX6_likeAnyOf_L4 this n) y1 v6 y3 st))
def fX6_likeAnyOf (this : Nat) (a1 : Int32) (st : zS) : Option (Int32 × zS) :=
  fX6_likeAnyOf_L4 this zF a1 (0 : Int32) (0 : Int32) st
set_option maxRecDepth 100000 in
set_option maxHeartbeats 4000000 in
theorem kX6_likeAnyOf (l : Launch) (Z : zZ) (b : Nat) (x : Option Nat) (this : Nat) (a1 : Int32) (st : zS) : zC l Z spX b x yX6_likeAnyOf (.code yX6_likeAnyOf cX6_likeAnyOf 4 (some .int)) (rmX6_likeAnyOf) rI [vP (some this), vI a1] st (fX6_likeAnyOf this a1 st) := by
  refine z_start (own := RX6) rfl (by decide +kernel) (Nat.le_of_ble_eq_true rfl) rfl (fun p e s m args below meth c res Q A X hK hr hlocks hQ => ?_)
  have J4 : ∀ (n4 : Nat) (y1 : Int32) (y2 : Int32) (y3 : Int32) (st : zS), zs p l e (rmX6_likeAnyOf) s m args below meth c Q Z spX b x A 4 0 0 res (fX6_likeAnyOf_L4 this n4 y1 y2 y3 st) 4 [(0, vP (some this)), (1, vI y1), (2, vI y2), (3, vI y3)] [] st := by
    intro n4
    induction n4 with
    | zero => intros; exact z_none
    | succ n4 ih4 =>
      have J30 : ∀ (y1 : Int32) (y2 : Int32) (y3 : Int32) (st : zS), zs p l e (rmX6_likeAnyOf) s m args below meth c Q Z spX b x A 4 0 0 res (fX6_likeAnyOf_j30 this (fX6_likeAnyOf_L4 this n4) y1 y2 y3 st) 30 [(0, vP (some this)), (1, vI y1), (2, vI y2), (3, vI y3)] [] st := by
        intro y1 y2 y3 st
        rw [fX6_likeAnyOf_j30]
        refine z_iinc X (q := 3) (y := y3 + (1 : Int32)) dX6_likeAnyOf_30 rfl rfl (Nat.le_of_ble_eq_true rfl) rfl ?_
        refine z_goto X (tgt := 4) dX6_likeAnyOf_33 (by decide) ?_
        exact z_sub [1, 2, 3, 0] (ih4 _ _ _ _) rfl
      intro y1 y2 y3 st
      rw [fX6_likeAnyOf_L4]
      refine z_iload_n X (q := 3) dX6_likeAnyOf_4 rfl rfl ?_
      refine z_aload_n X (q := 0) dX6_likeAnyOf_5 rfl rfl ?_
      refine z_getr X hK (N := 15) (ci := 6) (k := 0) rfl (by decide) inlX6 (by decide) hf_X6_17 rfl spX_X6 rfl dX6_likeAnyOf_6 (fun o1 _ => ?_)
      refine z_alen X hK dX6_likeAnyOf_9 spX_14 (fun o2 _ => ?_)
      refine z_icmp_ge X (tgt := 36) dX6_likeAnyOf_10 (by decide) (fun _ => ?_) (fun _ => ?_)
      · refine z_iload_n X (q := 2) dX6_likeAnyOf_36 rfl rfl ?_
        subst hQ; exact z_iret X hlocks hr dX6_likeAnyOf_37
      · refine z_iload_n X (q := 1) dX6_likeAnyOf_13 rfl rfl ?_
        refine z_iload_n X (q := 3) dX6_likeAnyOf_14 rfl rfl ?_
        refine z_ishr X dX6_likeAnyOf_15 ?_
        refine z_iconst X (v := (1 : Int32)) dX6_likeAnyOf_16 (by decide) ?_
        refine z_iand X dX6_likeAnyOf_17 ?_
        refine z_if_eq X (tgt := 30) dX6_likeAnyOf_18 (by decide) (fun _ => ?_) (fun _ => ?_)
        · exact z_sub [0, 1, 2, 3] (J30 _ _ _ _) rfl
        · refine z_iload_n X (q := 2) dX6_likeAnyOf_21 rfl rfl ?_
          refine z_aload_n X (q := 0) dX6_likeAnyOf_22 rfl rfl ?_
          refine z_getr X hK (N := 15) (ci := 6) (k := 0) rfl (by decide) inlX6 (by decide) hf_X6_17 rfl spX_X6 rfl dX6_likeAnyOf_23 (fun o3 _ => ?_)
          refine z_iload_n X (q := 3) dX6_likeAnyOf_26 rfl rfl ?_
          refine z_iald X hK dX6_likeAnyOf_27 (fun o4 j5 _ _ => ?_)
          refine z_ior X dX6_likeAnyOf_28 ?_
          refine z_name (fun v6 => ?_)
          refine z_istore_n X dX6_likeAnyOf_29 rfl (Nat.le_of_ble_eq_true rfl) rfl ?_
          exact z_sub [1, 2, 0, 3] (J30 _ _ _ _) rfl
  rw [fX6_likeAnyOf]
  refine z_iconst X (v := (0 : Int32)) dX6_likeAnyOf_0 (by decide) ?_
  refine z_istore_n X dX6_likeAnyOf_1 rfl (Nat.le_of_ble_eq_true rfl) rfl ?_
  refine z_iconst X (v := (0 : Int32)) dX6_likeAnyOf_2 (by decide) ?_
  refine z_istore_n X dX6_likeAnyOf_3 rfl (Nat.le_of_ble_eq_true rfl) rfl ?_
  exact z_sub [2, 3, 1, 0] (J4 _ _ _ _ _) rfl
abbrev rmX6_likeTwoOf : Room := { frames := 1, cells := 0, slots := 0, locals := 40 }
def fX6_likeTwoOf_j51 (this : Nat) (k7 : Int32 → Int32 → Int32 → Int32 → zS → Option (Int32 × zS)) (y1 : Int32) (y2 : Int32) (y3 : Int32) (y4 : Int32) (st : zS) : Option (Int32 × zS) :=
  k7 y1 y2 y3 (y4 + (1 : Int32)) st
def fX6_likeTwoOf_L7 (this : Nat) : Nat → Int32 → Int32 → Int32 → Int32 → zS → Option (Int32 × zS)
  | 0, _, _, _, _, _ => none
  | n + 1, y1, y2, y3, y4, st => (zok spX st (some this) 6).bind fun o1 => (zla spX st (st.2.2.2 o1 0)).bind fun o2 => if (Int32.ofNat (spX o2).2) ≤ y4 then (some (y3, st)) else (if ((y1 >>> (y4 &&& 31)) &&& (1 : Int32)) = 0 then (fX6_likeTwoOf_j51 this (fX6_likeTwoOf_L7 this n) y1 y2 y3 y4 st) else ((zok spX st (some this) 6).bind fun o3 => (zok spX st (st.2.2.2 o3 0) 9).bind fun o4 => (zix spX o4 y4).bind fun j5 => zlet ((y3 ||| (y2 &&& (st.2.1 o4 j5)))) fun v6 => (zok spX st (some this) 6).bind fun o7 => (zok spX st (st.2.2.2 o7 0) 9).bind fun o8 => (zix spX o8 y4).bind fun j9 => zlet ((y2 ||| (st.2.1 o8 j9))) fun v10 => fX6_likeTwoOf_j51 this (fX6_likeTwoOf_L7 this n) y1 v10 v6 y4 st))
def fX6_likeTwoOf (this : Nat) (a1 : Int32) (st : zS) : Option (Int32 × zS) :=
  fX6_likeTwoOf_L7 this zF a1 (0 : Int32) (0 : Int32) (0 : Int32) st
set_option maxRecDepth 100000 in
set_option maxHeartbeats 4000000 in
theorem kX6_likeTwoOf (l : Launch) (Z : zZ) (b : Nat) (x : Option Nat) (this : Nat) (a1 : Int32) (st : zS) : zC l Z spX b x yX6_likeTwoOf (.code yX6_likeTwoOf cX6_likeTwoOf 5 (some .int)) (rmX6_likeTwoOf) rI [vP (some this), vI a1] st (fX6_likeTwoOf this a1 st) := by
  refine z_start (own := RX6) rfl (by decide +kernel) (Nat.le_of_ble_eq_true rfl) rfl (fun p e s m args below meth c res Q A X hK hr hlocks hQ => ?_)
  have J7 : ∀ (n7 : Nat) (y1 : Int32) (y2 : Int32) (y3 : Int32) (y4 : Int32) (st : zS), zs p l e (rmX6_likeTwoOf) s m args below meth c Q Z spX b x A 5 0 0 res (fX6_likeTwoOf_L7 this n7 y1 y2 y3 y4 st) 7 [(0, vP (some this)), (1, vI y1), (2, vI y2), (3, vI y3), (4, vI y4)] [] st := by
    intro n7
    induction n7 with
    | zero => intros; exact z_none
    | succ n7 ih7 =>
      have J51 : ∀ (y1 : Int32) (y2 : Int32) (y3 : Int32) (y4 : Int32) (st : zS), zs p l e (rmX6_likeTwoOf) s m args below meth c Q Z spX b x A 5 0 0 res (fX6_likeTwoOf_j51 this (fX6_likeTwoOf_L7 this n7) y1 y2 y3 y4 st) 51 [(0, vP (some this)), (1, vI y1), (2, vI y2), (3, vI y3), (4, vI y4)] [] st := by
        intro y1 y2 y3 y4 st
        rw [fX6_likeTwoOf_j51]
        refine z_iinc X (q := 4) (y := y4 + (1 : Int32)) dX6_likeTwoOf_51 rfl rfl (Nat.le_of_ble_eq_true rfl) rfl ?_
        refine z_goto X (tgt := 7) dX6_likeTwoOf_54 (by decide) ?_
        exact z_sub [1, 2, 3, 4, 0] (ih7 _ _ _ _ _) rfl
      intro y1 y2 y3 y4 st
      rw [fX6_likeTwoOf_L7]
      refine z_iload X (q := 4) dX6_likeTwoOf_7 rfl ?_
      refine z_aload_n X (q := 0) dX6_likeTwoOf_9 rfl rfl ?_
      refine z_getr X hK (N := 15) (ci := 6) (k := 0) rfl (by decide) inlX6 (by decide) hf_X6_17 rfl spX_X6 rfl dX6_likeTwoOf_10 (fun o1 _ => ?_)
      refine z_alen X hK dX6_likeTwoOf_13 spX_14 (fun o2 _ => ?_)
      refine z_icmp_ge X (tgt := 57) dX6_likeTwoOf_14 (by decide) (fun _ => ?_) (fun _ => ?_)
      · refine z_iload_n X (q := 3) dX6_likeTwoOf_57 rfl rfl ?_
        subst hQ; exact z_iret X hlocks hr dX6_likeTwoOf_58
      · refine z_iload_n X (q := 1) dX6_likeTwoOf_17 rfl rfl ?_
        refine z_iload X (q := 4) dX6_likeTwoOf_18 rfl ?_
        refine z_ishr X dX6_likeTwoOf_20 ?_
        refine z_iconst X (v := (1 : Int32)) dX6_likeTwoOf_21 (by decide) ?_
        refine z_iand X dX6_likeTwoOf_22 ?_
        refine z_if_ne X (tgt := 29) dX6_likeTwoOf_23 (by decide) (fun _ => ?_) (fun _ => ?_)
        · refine z_iload_n X (q := 3) dX6_likeTwoOf_29 rfl rfl ?_
          refine z_iload_n X (q := 2) dX6_likeTwoOf_30 rfl rfl ?_
          refine z_aload_n X (q := 0) dX6_likeTwoOf_31 rfl rfl ?_
          refine z_getr X hK (N := 15) (ci := 6) (k := 0) rfl (by decide) inlX6 (by decide) hf_X6_17 rfl spX_X6 rfl dX6_likeTwoOf_32 (fun o3 _ => ?_)
          refine z_iload X (q := 4) dX6_likeTwoOf_35 rfl ?_
          refine z_iald X hK dX6_likeTwoOf_37 (fun o4 j5 _ _ => ?_)
          refine z_iand X dX6_likeTwoOf_38 ?_
          refine z_ior X dX6_likeTwoOf_39 ?_
          refine z_name (fun v6 => ?_)
          refine z_istore_n X dX6_likeTwoOf_40 rfl (Nat.le_of_ble_eq_true rfl) rfl ?_
          refine z_iload_n X (q := 3) dX6_likeTwoOf_41 rfl rfl ?_
          refine z_aload_n X (q := 1) dX6_likeTwoOf_42 rfl rfl ?_
          refine z_getr X hK (N := 15) (ci := 6) (k := 0) rfl (by decide) inlX6 (by decide) hf_X6_17 rfl spX_X6 rfl dX6_likeTwoOf_43 (fun o7 _ => ?_)
          refine z_iload X (q := 4) dX6_likeTwoOf_46 rfl ?_
          refine z_iald X hK dX6_likeTwoOf_48 (fun o8 j9 _ _ => ?_)
          refine z_ior X dX6_likeTwoOf_49 ?_
          refine z_name (fun v10 => ?_)
          refine z_istore_n X dX6_likeTwoOf_50 rfl (Nat.le_of_ble_eq_true rfl) rfl ?_
          exact z_sub [2, 3, 0, 1, 4] (J51 _ _ _ _ _) rfl
        · refine z_goto X (tgt := 51) dX6_likeTwoOf_26 (by decide) ?_
          exact z_sub [0, 1, 2, 3, 4] (J51 _ _ _ _ _) rfl
  rw [fX6_likeTwoOf]
  refine z_iconst X (v := (0 : Int32)) dX6_likeTwoOf_0 (by decide) ?_
  refine z_istore_n X dX6_likeTwoOf_1 rfl (Nat.le_of_ble_eq_true rfl) rfl ?_
  refine z_iconst X (v := (0 : Int32)) dX6_likeTwoOf_2 (by decide) ?_
  refine z_istore_n X dX6_likeTwoOf_3 rfl (Nat.le_of_ble_eq_true rfl) rfl ?_
  refine z_iconst X (v := (0 : Int32)) dX6_likeTwoOf_4 (by decide) ?_
  refine z_istore X dX6_likeTwoOf_5 (Nat.le_of_ble_eq_true rfl) rfl ?_
  exact z_sub [3, 4, 2, 1, 0] (J7 _ _ _ _ _ _) rfl
theorem zw_160 : Cond.methodLink RX6 72 yX6_likeAnyOf ∈ wsL_law := zr_22 _ (by decide +kernel)
theorem zw_161 : Cond.instanceMethod yX6_likeAnyOf ∈ wsL_law := zr_22 _ (by decide +kernel)
theorem zw_162 : Cond.selects RX6 yX6_likeAnyOf yX6_likeAnyOf ∈ wsL_law := zr_22 _ (by decide +kernel)
theorem zw_163 : Cond.code yX6_likeAnyOf cX6_likeAnyOf 4 (some .int) ∈ wsL_law := zr_22 _ (by decide +kernel)
theorem hk_X6_72 : ∀ w ∈ ([Cond.methodLink RX6 72 yX6_likeAnyOf, Cond.instanceMethod yX6_likeAnyOf, Cond.selects RX6 yX6_likeAnyOf yX6_likeAnyOf, Cond.initialized RX6, Cond.code yX6_likeAnyOf cX6_likeAnyOf 4 (some .int)] : List Cond), w ∈ wsL_law := List.forall_mem_cons.mpr ⟨zw_160, List.forall_mem_cons.mpr ⟨zw_161, List.forall_mem_cons.mpr ⟨zw_162, List.forall_mem_cons.mpr ⟨zw_137, List.forall_mem_cons.mpr ⟨zw_163, fun _ h => absurd h List.not_mem_nil⟩⟩⟩⟩⟩
theorem hd_X6_likeAnyOf : yX6_likeAnyOf.cls = RX6 ∧ yX6_likeAnyOf.cls ≠ "java/lang/invoke/MethodHandle" ∧ yX6_likeAnyOf.cls ≠ "java/lang/invoke/VarHandle" ∧ (parseMethodDescriptor yX6_likeAnyOf.desc).map (fun d => d.parameters.length) = some 1 := by decide +kernel
theorem zw_164 : Cond.fieldLink RX6 34 "WellGivesOther$Visit" "shut" "I" ∈ wsL_law := zr_21 _ (by decide +kernel)
theorem hf_X6_34 : Cond.fieldLink RX6 34 "WellGivesOther$Visit" "shut" "I" ∈ wsL_law := zw_164
theorem zw_165 : Cond.fieldLink RX6 43 "WellGivesOther$Visit" "nextHad" "I" ∈ wsL_law := zr_21 _ (by decide +kernel)
theorem hf_X6_43 : Cond.fieldLink RX6 43 "WellGivesOther$Visit" "nextHad" "I" ∈ wsL_law := zw_165
abbrev rmX6_openToGreedy : Room := { frames := 2, cells := 0, slots := 0, locals := 63 }
def fX6_openToGreedy (this : Nat) (a1 : Int32) (a2 : Int32) (st : zS) : Option (Int32 × zS) :=
  (zok spX st (some this) 6).bind fun o4 => (fX6_likeAnyOf o4 a2 st).bind fun q1 => (zok spX q1.2 (some this) 6).bind fun o2 => (zok spX q1.2 (some this) 6).bind fun o3 => some (((((a1 &&& (a2 ^^^ (-1 : Int32))) &&& (q1.1 ^^^ (-1 : Int32))) &&& ((q1.2.2.1 o2 5) ^^^ (-1 : Int32))) &&& ((q1.2.2.1 o3 8) ^^^ (-1 : Int32))), q1.2)
set_option maxRecDepth 100000 in
set_option maxHeartbeats 4000000 in
theorem kX6_openToGreedy (l : Launch) (Z : zZ) (b : Nat) (x : Option Nat) (this : Nat) (a1 : Int32) (a2 : Int32) (st : zS) : zC l Z spX b x yX6_openToGreedy (.code yX6_openToGreedy cX6_openToGreedy 3 (some .int)) (rmX6_openToGreedy) rI [vP (some this), vI a1, vI a2] st (fX6_openToGreedy this a1 a2 st) := by
  refine z_start (own := RX6) rfl (by decide +kernel) (Nat.le_of_ble_eq_true rfl) rfl (fun p e s m args below meth c res Q A X hK hr hlocks hQ => ?_)
  rw [fX6_openToGreedy]
  refine z_iload_n X (q := 1) dX6_openToGreedy_0 rfl rfl ?_
  refine z_iload_n X (q := 2) dX6_openToGreedy_1 rfl rfl ?_
  refine z_iconst X (v := (-1 : Int32)) dX6_openToGreedy_2 (by decide) ?_
  refine z_ixor X dX6_openToGreedy_3 ?_
  refine z_iand X dX6_openToGreedy_4 ?_
  refine z_aload_n X (q := 0) dX6_openToGreedy_5 rfl rfl ?_
  refine z_iload_n X (q := 2) dX6_openToGreedy_6 rfl rfl ?_
  refine z_callV X hK (As := [vI a2]) (ci := 6) rfl (by decide) (fun o => (kX6_likeAnyOf l Z  b x o _ _)) hk_X6_72 ⟨rfl, rfl⟩ hd_X6_likeAnyOf ⟨Nat.le_of_ble_eq_true rfl, Nat.le_of_ble_eq_true rfl⟩ ⟨Nat.le_of_ble_eq_true rfl, Nat.le_of_ble_eq_true rfl⟩ rfl rfl (Nat.le_of_ble_eq_true rfl) dX6_openToGreedy_7 (fun _ q1 _ => ?_)
  refine z_iconst X (v := (-1 : Int32)) dX6_openToGreedy_10 (by decide) ?_
  refine z_ixor X dX6_openToGreedy_11 ?_
  refine z_iand X dX6_openToGreedy_12 ?_
  refine z_aload_n X (q := 0) dX6_openToGreedy_13 rfl rfl ?_
  refine z_geti X hK (N := 15) (ci := 6) (k := 5) rfl (by decide) inlX6 (by decide) hf_X6_34 rfl spX_X6 rfl dX6_openToGreedy_14 (fun o2 _ => ?_)
  refine z_iconst X (v := (-1 : Int32)) dX6_openToGreedy_17 (by decide) ?_
  refine z_ixor X dX6_openToGreedy_18 ?_
  refine z_iand X dX6_openToGreedy_19 ?_
  refine z_aload_n X (q := 0) dX6_openToGreedy_20 rfl rfl ?_
  refine z_geti X hK (N := 15) (ci := 6) (k := 8) rfl (by decide) inlX6 (by decide) hf_X6_43 rfl spX_X6 rfl dX6_openToGreedy_21 (fun o3 _ => ?_)
  refine z_iconst X (v := (-1 : Int32)) dX6_openToGreedy_24 (by decide) ?_
  refine z_ixor X dX6_openToGreedy_25 ?_
  refine z_iand X dX6_openToGreedy_26 ?_
  subst hQ; exact z_iret X hlocks hr dX6_openToGreedy_27
theorem zw_166 : Cond.methodLink RX6 68 yX6_likeTwoOf ∈ wsL_law := zr_22 _ (by decide +kernel)
theorem zw_167 : Cond.instanceMethod yX6_likeTwoOf ∈ wsL_law := zr_22 _ (by decide +kernel)
theorem zw_168 : Cond.selects RX6 yX6_likeTwoOf yX6_likeTwoOf ∈ wsL_law := zr_22 _ (by decide +kernel)
theorem zw_169 : Cond.code yX6_likeTwoOf cX6_likeTwoOf 5 (some .int) ∈ wsL_law := zr_22 _ (by decide +kernel)
theorem hk_X6_68 : ∀ w ∈ ([Cond.methodLink RX6 68 yX6_likeTwoOf, Cond.instanceMethod yX6_likeTwoOf, Cond.selects RX6 yX6_likeTwoOf yX6_likeTwoOf, Cond.initialized RX6, Cond.code yX6_likeTwoOf cX6_likeTwoOf 5 (some .int)] : List Cond), w ∈ wsL_law := List.forall_mem_cons.mpr ⟨zw_166, List.forall_mem_cons.mpr ⟨zw_167, List.forall_mem_cons.mpr ⟨zw_168, List.forall_mem_cons.mpr ⟨zw_137, List.forall_mem_cons.mpr ⟨zw_169, fun _ h => absurd h List.not_mem_nil⟩⟩⟩⟩⟩
theorem zw_170 : Cond.methodLink RX6 75 yX6_openToGreedy ∈ wsL_law := zr_22 _ (by decide +kernel)
theorem zw_171 : Cond.instanceMethod yX6_openToGreedy ∈ wsL_law := zr_22 _ (by decide +kernel)
theorem zw_172 : Cond.selects RX6 yX6_openToGreedy yX6_openToGreedy ∈ wsL_law := zr_22 _ (by decide +kernel)
theorem zw_173 : Cond.code yX6_openToGreedy cX6_openToGreedy 3 (some .int) ∈ wsL_law := zr_22 _ (by decide +kernel)
theorem hk_X6_75 : ∀ w ∈ ([Cond.methodLink RX6 75 yX6_openToGreedy, Cond.instanceMethod yX6_openToGreedy, Cond.selects RX6 yX6_openToGreedy yX6_openToGreedy, Cond.initialized RX6, Cond.code yX6_openToGreedy cX6_openToGreedy 3 (some .int)] : List Cond), w ∈ wsL_law := List.forall_mem_cons.mpr ⟨zw_170, List.forall_mem_cons.mpr ⟨zw_171, List.forall_mem_cons.mpr ⟨zw_172, List.forall_mem_cons.mpr ⟨zw_137, List.forall_mem_cons.mpr ⟨zw_173, fun _ h => absurd h List.not_mem_nil⟩⟩⟩⟩⟩
theorem hd_X6_likeTwoOf : yX6_likeTwoOf.cls = RX6 ∧ yX6_likeTwoOf.cls ≠ "java/lang/invoke/MethodHandle" ∧ yX6_likeTwoOf.cls ≠ "java/lang/invoke/VarHandle" ∧ (parseMethodDescriptor yX6_likeTwoOf.desc).map (fun d => d.parameters.length) = some 1 := by decide +kernel
theorem hd_X6_openToGreedy : yX6_openToGreedy.cls = RX6 ∧ yX6_openToGreedy.cls ≠ "java/lang/invoke/MethodHandle" ∧ yX6_openToGreedy.cls ≠ "java/lang/invoke/VarHandle" ∧ (parseMethodDescriptor yX6_openToGreedy.desc).map (fun d => d.parameters.length) = some 2 := by decide +kernel
theorem zw_174 : Cond.fieldLink RX6 26 "WellGivesOther$Visit" "kind" "I" ∈ wsL_law := zr_21 _ (by decide +kernel)
theorem hf_X6_26 : Cond.fieldLink RX6 26 "WellGivesOther$Visit" "kind" "I" ∈ wsL_law := zw_174
abbrev rmX6_openBy : Room := { frames := 3, cells := 0, slots := 0, locals := 85 }
def fX6_openBy (this : Nat) (a1 : Int32) (st : zS) : Option (Int32 × zS) :=
  zlet (((4095 : Int32) &&& (a1 ^^^ (-1 : Int32)))) fun v1 => (zok spX st (some this) 6).bind fun o2 => if (st.2.1 o2 3) = (1 : Int32) then ((zok spX st (some this) 6).bind fun o6 => (fX6_likeTwoOf o6 a1 st).bind fun q4 => (zok spX q4.2 (some this) 6).bind fun o5 => some (((v1 &&& (q4.1 ^^^ (-1 : Int32))) &&& ((q4.2.2.1 o5 5) ^^^ (-1 : Int32))), q4.2)) else (if (st.2.1 o2 3) = (2 : Int32) then ((zok spX st (some this) 6).bind fun o11 => (fX6_likeAnyOf o11 a1 st).bind fun q8 => (zok spX q8.2 (some this) 6).bind fun o9 => (zok spX q8.2 (some this) 6).bind fun o10 => some ((((v1 &&& (q8.1 ^^^ (-1 : Int32))) &&& ((q8.2.2.1 o9 5) ^^^ (-1 : Int32))) &&& ((q8.2.2.1 o10 8) ^^^ (-1 : Int32))), q8.2)) else (if (st.2.1 o2 3) = (3 : Int32) then ((zok spX st (some this) 6).bind fun o14 => (fX6_likeTwoOf o14 a1 st).bind fun q13 => some ((v1 &&& (q13.1 ^^^ (-1 : Int32))), q13.2)) else (if (st.2.1 o2 3) = (4 : Int32) then ((zok spX st (some this) 6).bind fun o19 => (fX6_likeAnyOf o19 a1 st).bind fun q16 => (zok spX q16.2 (some this) 6).bind fun o18 => (fX6_openToGreedy o18 v1 q16.1 q16.2).bind fun q17 => some (q17.1, q17.2)) else (if (st.2.1 o2 3) = (5 : Int32) then ((zok spX st (some this) 6).bind fun o24 => (fX6_likeAnyOf o24 a1 st).bind fun q21 => (zok spX q21.2 (some this) 6).bind fun o22 => (zok spX q21.2 (some this) 6).bind fun o23 => some ((((v1 &&& (q21.1 ^^^ (-1 : Int32))) &&& ((q21.2.2.1 o22 5) ^^^ (-1 : Int32))) &&& ((q21.2.2.1 o23 6) ^^^ (-1 : Int32))), q21.2)) else ((zok spX st (some this) 6).bind fun o27 => (fX6_likeAnyOf o27 a1 st).bind fun q25 => (zok spX q25.2 (some this) 6).bind fun o26 => some (((v1 &&& (q25.1 ^^^ (-1 : Int32))) &&& ((q25.2.2.1 o26 5) ^^^ (-1 : Int32))), q25.2))))))
set_option maxRecDepth 100000 in
set_option maxHeartbeats 4000000 in
theorem kX6_openBy (l : Launch) (Z : zZ) (b : Nat) (x : Option Nat) (this : Nat) (a1 : Int32) (st : zS) : zC l Z spX b x yX6_openBy (.code yX6_openBy cX6_openBy 3 (some .int)) (rmX6_openBy) rI [vP (some this), vI a1] st (fX6_openBy this a1 st) := by
  refine z_start (own := RX6) rfl (by decide +kernel) (Nat.le_of_ble_eq_true rfl) rfl (fun p e s m args below meth c res Q A X hK hr hlocks hQ => ?_)
  rw [fX6_openBy]
  refine z_sipush X (v := (4095 : Int32)) dX6_openBy_0 (by decide) ?_
  refine z_iload_n X (q := 1) dX6_openBy_3 rfl rfl ?_
  refine z_iconst X (v := (-1 : Int32)) dX6_openBy_4 (by decide) ?_
  refine z_ixor X dX6_openBy_5 ?_
  refine z_iand X dX6_openBy_6 ?_
  refine z_name (fun v1 => ?_)
  refine z_istore_n X dX6_openBy_7 rfl (Nat.le_of_ble_eq_true rfl) rfl ?_
  refine z_aload_n X (q := 1) dX6_openBy_8 rfl rfl ?_
  refine z_geti X hK (N := 15) (ci := 6) (k := 3) rfl (by decide) inlX6 (by decide) hf_X6_26 rfl spX_X6 rfl dX6_openBy_9 (fun o2 _ => ?_)
  refine z_ite (fun h3 => ?_) (fun h3 => ?_)
  · refine z_tabIn X (off := 36) (tgt := 48) dX6_openBy_12 (by rw [h3]; decide) (by rw [h3]; decide) (by rw [h3]; rfl) (by decide) ?_
    refine z_iload_n X (q := 0) dX6_openBy_48 rfl rfl ?_
    refine z_aload_n X (q := 1) dX6_openBy_49 rfl rfl ?_
    refine z_iload_n X (q := 2) dX6_openBy_50 rfl rfl ?_
    refine z_callV X hK (As := [vI a1]) (ci := 6) rfl (by decide) (fun o => (kX6_likeTwoOf l Z  b x o _ _)) hk_X6_68 ⟨rfl, rfl⟩ hd_X6_likeTwoOf ⟨Nat.le_of_ble_eq_true rfl, Nat.le_of_ble_eq_true rfl⟩ ⟨Nat.le_of_ble_eq_true rfl, Nat.le_of_ble_eq_true rfl⟩ rfl rfl (Nat.le_of_ble_eq_true rfl) dX6_openBy_51 (fun _ q4 _ => ?_)
    refine z_iconst X (v := (-1 : Int32)) dX6_openBy_54 (by decide) ?_
    refine z_ixor X dX6_openBy_55 ?_
    refine z_iand X dX6_openBy_56 ?_
    refine z_aload_n X (q := 1) dX6_openBy_57 rfl rfl ?_
    refine z_geti X hK (N := 15) (ci := 6) (k := 5) rfl (by decide) inlX6 (by decide) hf_X6_34 rfl spX_X6 rfl dX6_openBy_58 (fun o5 _ => ?_)
    refine z_iconst X (v := (-1 : Int32)) dX6_openBy_61 (by decide) ?_
    refine z_ixor X dX6_openBy_62 ?_
    refine z_iand X dX6_openBy_63 ?_
    subst hQ; exact z_iret X hlocks hr dX6_openBy_64
  refine z_ite (fun h7 => ?_) (fun h7 => ?_)
  · refine z_tabIn X (off := 53) (tgt := 65) dX6_openBy_12 (by rw [h7]; decide) (by rw [h7]; decide) (by rw [h7]; rfl) (by decide) ?_
    refine z_iload_n X (q := 0) dX6_openBy_65 rfl rfl ?_
    refine z_aload_n X (q := 1) dX6_openBy_66 rfl rfl ?_
    refine z_iload_n X (q := 2) dX6_openBy_67 rfl rfl ?_
    refine z_callV X hK (As := [vI a1]) (ci := 6) rfl (by decide) (fun o => (kX6_likeAnyOf l Z  b x o _ _)) hk_X6_72 ⟨rfl, rfl⟩ hd_X6_likeAnyOf ⟨Nat.le_of_ble_eq_true rfl, Nat.le_of_ble_eq_true rfl⟩ ⟨Nat.le_of_ble_eq_true rfl, Nat.le_of_ble_eq_true rfl⟩ rfl rfl (Nat.le_of_ble_eq_true rfl) dX6_openBy_68 (fun _ q8 _ => ?_)
    refine z_iconst X (v := (-1 : Int32)) dX6_openBy_71 (by decide) ?_
    refine z_ixor X dX6_openBy_72 ?_
    refine z_iand X dX6_openBy_73 ?_
    refine z_aload_n X (q := 1) dX6_openBy_74 rfl rfl ?_
    refine z_geti X hK (N := 15) (ci := 6) (k := 5) rfl (by decide) inlX6 (by decide) hf_X6_34 rfl spX_X6 rfl dX6_openBy_75 (fun o9 _ => ?_)
    refine z_iconst X (v := (-1 : Int32)) dX6_openBy_78 (by decide) ?_
    refine z_ixor X dX6_openBy_79 ?_
    refine z_iand X dX6_openBy_80 ?_
    refine z_aload_n X (q := 1) dX6_openBy_81 rfl rfl ?_
    refine z_geti X hK (N := 15) (ci := 6) (k := 8) rfl (by decide) inlX6 (by decide) hf_X6_43 rfl spX_X6 rfl dX6_openBy_82 (fun o10 _ => ?_)
    refine z_iconst X (v := (-1 : Int32)) dX6_openBy_85 (by decide) ?_
    refine z_ixor X dX6_openBy_86 ?_
    refine z_iand X dX6_openBy_87 ?_
    subst hQ; exact z_iret X hlocks hr dX6_openBy_88
  refine z_ite (fun h12 => ?_) (fun h12 => ?_)
  · refine z_tabIn X (off := 77) (tgt := 89) dX6_openBy_12 (by rw [h12]; decide) (by rw [h12]; decide) (by rw [h12]; rfl) (by decide) ?_
    refine z_iload_n X (q := 0) dX6_openBy_89 rfl rfl ?_
    refine z_aload_n X (q := 1) dX6_openBy_90 rfl rfl ?_
    refine z_iload_n X (q := 2) dX6_openBy_91 rfl rfl ?_
    refine z_callV X hK (As := [vI a1]) (ci := 6) rfl (by decide) (fun o => (kX6_likeTwoOf l Z  b x o _ _)) hk_X6_68 ⟨rfl, rfl⟩ hd_X6_likeTwoOf ⟨Nat.le_of_ble_eq_true rfl, Nat.le_of_ble_eq_true rfl⟩ ⟨Nat.le_of_ble_eq_true rfl, Nat.le_of_ble_eq_true rfl⟩ rfl rfl (Nat.le_of_ble_eq_true rfl) dX6_openBy_92 (fun _ q13 _ => ?_)
    refine z_iconst X (v := (-1 : Int32)) dX6_openBy_95 (by decide) ?_
    refine z_ixor X dX6_openBy_96 ?_
    refine z_iand X dX6_openBy_97 ?_
    subst hQ; exact z_iret X hlocks hr dX6_openBy_98
  refine z_ite (fun h15 => ?_) (fun h15 => ?_)
  · refine z_tabIn X (off := 87) (tgt := 99) dX6_openBy_12 (by rw [h15]; decide) (by rw [h15]; decide) (by rw [h15]; rfl) (by decide) ?_
    refine z_aload_n X (q := 1) dX6_openBy_99 rfl rfl ?_
    refine z_iload_n X (q := 0) dX6_openBy_100 rfl rfl ?_
    refine z_aload_n X (q := 1) dX6_openBy_101 rfl rfl ?_
    refine z_iload_n X (q := 2) dX6_openBy_102 rfl rfl ?_
    refine z_callV X hK (As := [vI a1]) (ci := 6) rfl (by decide) (fun o => (kX6_likeAnyOf l Z  b x o _ _)) hk_X6_72 ⟨rfl, rfl⟩ hd_X6_likeAnyOf ⟨Nat.le_of_ble_eq_true rfl, Nat.le_of_ble_eq_true rfl⟩ ⟨Nat.le_of_ble_eq_true rfl, Nat.le_of_ble_eq_true rfl⟩ rfl rfl (Nat.le_of_ble_eq_true rfl) dX6_openBy_103 (fun _ q16 _ => ?_)
    refine z_callV X hK (As := [vI v1, vI q16.1]) (ci := 6) rfl (by decide) (fun o => (kX6_openToGreedy l Z  b x o _ _ _)) hk_X6_75 ⟨rfl, rfl⟩ hd_X6_openToGreedy ⟨Nat.le_of_ble_eq_true rfl, Nat.le_of_ble_eq_true rfl⟩ ⟨Nat.le_of_ble_eq_true rfl, Nat.le_of_ble_eq_true rfl⟩ rfl rfl (Nat.le_of_ble_eq_true rfl) dX6_openBy_106 (fun _ q17 _ => ?_)
    subst hQ; exact z_iret X hlocks hr dX6_openBy_109
  refine z_ite (fun h20 => ?_) (fun h20 => ?_)
  · refine z_tabIn X (off := 98) (tgt := 110) dX6_openBy_12 (by rw [h20]; decide) (by rw [h20]; decide) (by rw [h20]; rfl) (by decide) ?_
    refine z_iload_n X (q := 0) dX6_openBy_110 rfl rfl ?_
    refine z_aload_n X (q := 1) dX6_openBy_111 rfl rfl ?_
    refine z_iload_n X (q := 2) dX6_openBy_112 rfl rfl ?_
    refine z_callV X hK (As := [vI a1]) (ci := 6) rfl (by decide) (fun o => (kX6_likeAnyOf l Z  b x o _ _)) hk_X6_72 ⟨rfl, rfl⟩ hd_X6_likeAnyOf ⟨Nat.le_of_ble_eq_true rfl, Nat.le_of_ble_eq_true rfl⟩ ⟨Nat.le_of_ble_eq_true rfl, Nat.le_of_ble_eq_true rfl⟩ rfl rfl (Nat.le_of_ble_eq_true rfl) dX6_openBy_113 (fun _ q21 _ => ?_)
    refine z_iconst X (v := (-1 : Int32)) dX6_openBy_116 (by decide) ?_
    refine z_ixor X dX6_openBy_117 ?_
    refine z_iand X dX6_openBy_118 ?_
    refine z_aload_n X (q := 1) dX6_openBy_119 rfl rfl ?_
    refine z_geti X hK (N := 15) (ci := 6) (k := 5) rfl (by decide) inlX6 (by decide) hf_X6_34 rfl spX_X6 rfl dX6_openBy_120 (fun o22 _ => ?_)
    refine z_iconst X (v := (-1 : Int32)) dX6_openBy_123 (by decide) ?_
    refine z_ixor X dX6_openBy_124 ?_
    refine z_iand X dX6_openBy_125 ?_
    refine z_aload_n X (q := 1) dX6_openBy_126 rfl rfl ?_
    refine z_geti X hK (N := 15) (ci := 6) (k := 6) rfl (by decide) inlX6 (by decide) hf_X6_38 rfl spX_X6 rfl dX6_openBy_127 (fun o23 _ => ?_)
    refine z_iconst X (v := (-1 : Int32)) dX6_openBy_130 (by decide) ?_
    refine z_ixor X dX6_openBy_131 ?_
    refine z_iand X dX6_openBy_132 ?_
    subst hQ; exact z_iret X hlocks hr dX6_openBy_133
  refine z_tabOut X (tgt := 134) dX6_openBy_12 (by have := lv_neT (a := 1) h3 (by decide); have := lv_neT (a := 2) h7 (by decide); have := lv_neT (a := 3) h12 (by decide); have := lv_neT (a := 4) h15 (by decide); have := lv_neT (a := 5) h20 (by decide); omega) (by decide) ?_
  refine z_iload_n X (q := 0) dX6_openBy_134 rfl rfl ?_
  refine z_aload_n X (q := 1) dX6_openBy_135 rfl rfl ?_
  refine z_iload_n X (q := 2) dX6_openBy_136 rfl rfl ?_
  refine z_callV X hK (As := [vI a1]) (ci := 6) rfl (by decide) (fun o => (kX6_likeAnyOf l Z  b x o _ _)) hk_X6_72 ⟨rfl, rfl⟩ hd_X6_likeAnyOf ⟨Nat.le_of_ble_eq_true rfl, Nat.le_of_ble_eq_true rfl⟩ ⟨Nat.le_of_ble_eq_true rfl, Nat.le_of_ble_eq_true rfl⟩ rfl rfl (Nat.le_of_ble_eq_true rfl) dX6_openBy_137 (fun _ q25 _ => ?_)
  refine z_iconst X (v := (-1 : Int32)) dX6_openBy_140 (by decide) ?_
  refine z_ixor X dX6_openBy_141 ?_
  refine z_iand X dX6_openBy_142 ?_
  refine z_aload_n X (q := 1) dX6_openBy_143 rfl rfl ?_
  refine z_geti X hK (N := 15) (ci := 6) (k := 5) rfl (by decide) inlX6 (by decide) hf_X6_34 rfl spX_X6 rfl dX6_openBy_144 (fun o26 _ => ?_)
  refine z_iconst X (v := (-1 : Int32)) dX6_openBy_147 (by decide) ?_
  refine z_ixor X dX6_openBy_148 ?_
  refine z_iand X dX6_openBy_149 ?_
  subst hQ; exact z_iret X hlocks hr dX6_openBy_150
theorem zw_175 : Cond.methodLink RX6 97 yJ9_floorMod_7cf53 ∈ wsL_law := zr_24 _ (by decide +kernel)
theorem zw_176 : Cond.static yJ9_floorMod_7cf53 ∈ wsL_law := zr_24 _ (by decide +kernel)
theorem zw_177 : Cond.initialized RJ9 ∈ wsL_law := zr_24 _ (by decide +kernel)
theorem zw_178 : Cond.code yJ9_floorMod_7cf53 cJ9_floorMod_7cf53 3 (some .int) ∈ wsL_law := zr_24 _ (by decide +kernel)
theorem hk_X6_97 : ∀ w ∈ ([Cond.methodLink RX6 97 yJ9_floorMod_7cf53, Cond.static yJ9_floorMod_7cf53, Cond.initialized RJ9, Cond.code yJ9_floorMod_7cf53 cJ9_floorMod_7cf53 3 (some .int)] : List Cond), w ∈ wsL_law := List.forall_mem_cons.mpr ⟨zw_175, List.forall_mem_cons.mpr ⟨zw_176, List.forall_mem_cons.mpr ⟨zw_177, List.forall_mem_cons.mpr ⟨zw_178, fun _ h => absurd h List.not_mem_nil⟩⟩⟩⟩
theorem hd_J9_floorMod_7cf53 : yJ9_floorMod_7cf53.cls = RJ9 ∧ yJ9_floorMod_7cf53.cls ≠ "java/lang/invoke/MethodHandle" ∧ yJ9_floorMod_7cf53.cls ≠ "java/lang/invoke/VarHandle" ∧ (parseMethodDescriptor yJ9_floorMod_7cf53.desc).map (fun d => d.parameters.length) = some 2 := by decide +kernel
abbrev rmX6_pickOf : Room := { frames := 2, cells := 0, slots := 0, locals := 62 }
def fX6_pickOf (this : Nat) (a1 : Int32) (a2 : Int32) (st : zS) : Option (Int32 × zS) :=
  if 0 < a1 then ((zok spX st (some this) 6).bind fun o1 => if (st.2.1 o1 3) = (1 : Int32) then (some ((0 : Int32), st)) else (if (st.2.1 o1 3) = (2 : Int32) then (some ((a1 - (1 : Int32)), st)) else (if (st.2.1 o1 3) = (3 : Int32) then ((zok spX st (some this) 6).bind fun o5 => (fJ9_floorMod_7cf53 (st.2.1 o5 4) a1 st).bind fun q6 => some (q6.1, q6.2)) else (if (st.2.1 o1 3) = (4 : Int32) then ((zok spX st (some this) 6).bind fun o8 => if (2 : Int32) = 0 then none else if ((st.2.1 o8 9) - (st.2.1 o8 9) / (2 : Int32) * (2 : Int32)) = 0 then ((fJ9_floorMod_7cf53 a2 a1 st).bind fun q9 => some (q9.1, q9.2)) else (some ((a1 - (1 : Int32)), st))) else ((fJ9_floorMod_7cf53 a2 a1 st).bind fun q10 => some (q10.1, q10.2)))))) else (some ((0 : Int32), st))
set_option maxRecDepth 100000 in
set_option maxHeartbeats 4000000 in
theorem kX6_pickOf (l : Launch) (Z : zZ) (b : Nat) (x : Option Nat) (this : Nat) (a1 : Int32) (a2 : Int32) (st : zS) : zC l Z spX b x yX6_pickOf (.code yX6_pickOf cX6_pickOf 3 (some .int)) (rmX6_pickOf) rI [vP (some this), vI a1, vI a2] st (fX6_pickOf this a1 a2 st) := by
  refine z_start (own := RX6) rfl (by decide +kernel) (Nat.le_of_ble_eq_true rfl) rfl (fun p e s m args below meth c res Q A X hK hr hlocks hQ => ?_)
  rw [fX6_pickOf]
  refine z_iload_n X (q := 1) dX6_pickOf_0 rfl rfl ?_
  refine z_if_gt X (tgt := 6) dX6_pickOf_1 (by decide) (fun _ => ?_) (fun _ => ?_)
  · refine z_aload_n X (q := 0) dX6_pickOf_6 rfl rfl ?_
    refine z_geti X hK (N := 15) (ci := 6) (k := 3) rfl (by decide) inlX6 (by decide) hf_X6_26 rfl spX_X6 rfl dX6_pickOf_7 (fun o1 _ => ?_)
    refine z_ite (fun h2 => ?_) (fun h2 => ?_)
    · refine z_tabIn X (off := 30) (tgt := 40) dX6_pickOf_10 (by rw [h2]; decide) (by rw [h2]; decide) (by rw [h2]; rfl) (by decide) ?_
      refine z_iconst X (v := (0 : Int32)) dX6_pickOf_40 (by decide) ?_
      subst hQ; exact z_iret X hlocks hr dX6_pickOf_41
    refine z_ite (fun h3 => ?_) (fun h3 => ?_)
    · refine z_tabIn X (off := 32) (tgt := 42) dX6_pickOf_10 (by rw [h3]; decide) (by rw [h3]; decide) (by rw [h3]; rfl) (by decide) ?_
      refine z_iload_n X (q := 1) dX6_pickOf_42 rfl rfl ?_
      refine z_iconst X (v := (1 : Int32)) dX6_pickOf_43 (by decide) ?_
      refine z_isub X dX6_pickOf_44 ?_
      subst hQ; exact z_iret X hlocks hr dX6_pickOf_45
    refine z_ite (fun h4 => ?_) (fun h4 => ?_)
    · refine z_tabIn X (off := 36) (tgt := 46) dX6_pickOf_10 (by rw [h4]; decide) (by rw [h4]; decide) (by rw [h4]; rfl) (by decide) ?_
      refine z_aload_n X (q := 0) dX6_pickOf_46 rfl rfl ?_
      refine z_geti X hK (N := 15) (ci := 6) (k := 4) rfl (by decide) inlX6 (by decide) hf_X6_30 rfl spX_X6 rfl dX6_pickOf_47 (fun o5 _ => ?_)
      refine z_iload_n X (q := 1) dX6_pickOf_50 rfl rfl ?_
      refine z_callS X hK (As := [vI (st.2.1 o5 4), vI a1]) (kJ9_floorMod_7cf53 l Z spX b x _ _ _) hk_X6_97 ⟨rfl, rfl⟩ hd_J9_floorMod_7cf53.2 ⟨Nat.le_of_ble_eq_true rfl, Nat.le_of_ble_eq_true rfl⟩ ⟨Nat.le_of_ble_eq_true rfl, Nat.le_of_ble_eq_true rfl⟩ rfl rfl (Nat.le_of_ble_eq_true rfl) dX6_pickOf_51 (fun q6 => ?_)
      subst hQ; exact z_iret X hlocks hr dX6_pickOf_54
    refine z_ite (fun h7 => ?_) (fun h7 => ?_)
    · refine z_tabIn X (off := 45) (tgt := 55) dX6_pickOf_10 (by rw [h7]; decide) (by rw [h7]; decide) (by rw [h7]; rfl) (by decide) ?_
      refine z_aload_n X (q := 0) dX6_pickOf_55 rfl rfl ?_
      refine z_geti X hK (N := 15) (ci := 6) (k := 9) rfl (by decide) inlX6 (by decide) hf_X6_46 rfl spX_X6 rfl dX6_pickOf_56 (fun o8 _ => ?_)
      refine z_iconst X (v := (2 : Int32)) dX6_pickOf_59 (by decide) ?_
      refine z_irem X dX6_pickOf_60 (fun _ => ?_)
      refine z_if_ne X (tgt := 72) dX6_pickOf_61 (by decide) (fun _ => ?_) (fun _ => ?_)
      · refine z_iload_n X (q := 1) dX6_pickOf_72 rfl rfl ?_
        refine z_iconst X (v := (1 : Int32)) dX6_pickOf_73 (by decide) ?_
        refine z_isub X dX6_pickOf_74 ?_
        subst hQ; exact z_iret X hlocks hr dX6_pickOf_75
      · refine z_iload_n X (q := 2) dX6_pickOf_64 rfl rfl ?_
        refine z_iload_n X (q := 1) dX6_pickOf_65 rfl rfl ?_
        refine z_callS X hK (As := [vI a2, vI a1]) (kJ9_floorMod_7cf53 l Z spX b x _ _ _) hk_X6_97 ⟨rfl, rfl⟩ hd_J9_floorMod_7cf53.2 ⟨Nat.le_of_ble_eq_true rfl, Nat.le_of_ble_eq_true rfl⟩ ⟨Nat.le_of_ble_eq_true rfl, Nat.le_of_ble_eq_true rfl⟩ rfl rfl (Nat.le_of_ble_eq_true rfl) dX6_pickOf_66 (fun q9 => ?_)
        refine z_goto X (tgt := 75) dX6_pickOf_69 (by decide) ?_
        subst hQ; exact z_iret X hlocks hr dX6_pickOf_75
    refine z_tabOut X (tgt := 76) dX6_pickOf_10 (by have := lv_neT (a := 1) h2 (by decide); have := lv_neT (a := 2) h3 (by decide); have := lv_neT (a := 3) h4 (by decide); have := lv_neT (a := 4) h7 (by decide); omega) (by decide) ?_
    refine z_iload_n X (q := 2) dX6_pickOf_76 rfl rfl ?_
    refine z_iload_n X (q := 1) dX6_pickOf_77 rfl rfl ?_
    refine z_callS X hK (As := [vI a2, vI a1]) (kJ9_floorMod_7cf53 l Z spX b x _ _ _) hk_X6_97 ⟨rfl, rfl⟩ hd_J9_floorMod_7cf53.2 ⟨Nat.le_of_ble_eq_true rfl, Nat.le_of_ble_eq_true rfl⟩ ⟨Nat.le_of_ble_eq_true rfl, Nat.le_of_ble_eq_true rfl⟩ rfl rfl (Nat.le_of_ble_eq_true rfl) dX6_pickOf_78 (fun q10 => ?_)
    subst hQ; exact z_iret X hlocks hr dX6_pickOf_81
  · refine z_iconst X (v := (0 : Int32)) dX6_pickOf_4 (by decide) ?_
    subst hQ; exact z_iret X hlocks hr dX6_pickOf_5
theorem zw_179 : Cond.methodLink RX6 79 yX6_openBy ∈ wsL_law := zr_22 _ (by decide +kernel)
theorem zw_180 : Cond.instanceMethod yX6_openBy ∈ wsL_law := zr_22 _ (by decide +kernel)
theorem zw_181 : Cond.selects RX6 yX6_openBy yX6_openBy ∈ wsL_law := zr_22 _ (by decide +kernel)
theorem zw_182 : Cond.code yX6_openBy cX6_openBy 3 (some .int) ∈ wsL_law := zr_22 _ (by decide +kernel)
theorem hk_X6_79 : ∀ w ∈ ([Cond.methodLink RX6 79 yX6_openBy, Cond.instanceMethod yX6_openBy, Cond.selects RX6 yX6_openBy yX6_openBy, Cond.initialized RX6, Cond.code yX6_openBy cX6_openBy 3 (some .int)] : List Cond), w ∈ wsL_law := List.forall_mem_cons.mpr ⟨zw_179, List.forall_mem_cons.mpr ⟨zw_180, List.forall_mem_cons.mpr ⟨zw_181, List.forall_mem_cons.mpr ⟨zw_137, List.forall_mem_cons.mpr ⟨zw_182, fun _ h => absurd h List.not_mem_nil⟩⟩⟩⟩⟩
theorem zw_183 : Cond.methodLink RX6 91 yX6_pickOf ∈ wsL_law := zr_24 _ (by decide +kernel)
theorem zw_184 : Cond.instanceMethod yX6_pickOf ∈ wsL_law := zr_24 _ (by decide +kernel)
theorem zw_185 : Cond.selects RX6 yX6_pickOf yX6_pickOf ∈ wsL_law := zr_24 _ (by decide +kernel)
theorem zw_186 : Cond.code yX6_pickOf cX6_pickOf 3 (some .int) ∈ wsL_law := zr_24 _ (by decide +kernel)
theorem hk_X6_91 : ∀ w ∈ ([Cond.methodLink RX6 91 yX6_pickOf, Cond.instanceMethod yX6_pickOf, Cond.selects RX6 yX6_pickOf yX6_pickOf, Cond.initialized RX6, Cond.code yX6_pickOf cX6_pickOf 3 (some .int)] : List Cond), w ∈ wsL_law := List.forall_mem_cons.mpr ⟨zw_183, List.forall_mem_cons.mpr ⟨zw_184, List.forall_mem_cons.mpr ⟨zw_185, List.forall_mem_cons.mpr ⟨zw_137, List.forall_mem_cons.mpr ⟨zw_186, fun _ h => absurd h List.not_mem_nil⟩⟩⟩⟩⟩
theorem zw_187 : Cond.methodLink RX6 94 yX6_bitAt ∈ wsL_law := zr_24 _ (by decide +kernel)
theorem zw_188 : Cond.static yX6_bitAt ∈ wsL_law := zr_24 _ (by decide +kernel)
theorem zw_189 : Cond.code yX6_bitAt cX6_bitAt 4 (some .int) ∈ wsL_law := zr_24 _ (by decide +kernel)
theorem hk_X6_94 : ∀ w ∈ ([Cond.methodLink RX6 94 yX6_bitAt, Cond.static yX6_bitAt, Cond.initialized RX6, Cond.code yX6_bitAt cX6_bitAt 4 (some .int)] : List Cond), w ∈ wsL_law := List.forall_mem_cons.mpr ⟨zw_187, List.forall_mem_cons.mpr ⟨zw_188, List.forall_mem_cons.mpr ⟨zw_137, List.forall_mem_cons.mpr ⟨zw_189, fun _ h => absurd h List.not_mem_nil⟩⟩⟩⟩
theorem hd_X6_bitAt : yX6_bitAt.cls = RX6 ∧ yX6_bitAt.cls ≠ "java/lang/invoke/MethodHandle" ∧ yX6_bitAt.cls ≠ "java/lang/invoke/VarHandle" ∧ (parseMethodDescriptor yX6_bitAt.desc).map (fun d => d.parameters.length) = some 2 := by decide +kernel
theorem hd_X6_openBy : yX6_openBy.cls = RX6 ∧ yX6_openBy.cls ≠ "java/lang/invoke/MethodHandle" ∧ yX6_openBy.cls ≠ "java/lang/invoke/VarHandle" ∧ (parseMethodDescriptor yX6_openBy.desc).map (fun d => d.parameters.length) = some 1 := by decide +kernel
theorem hd_X6_pickOf : yX6_pickOf.cls = RX6 ∧ yX6_pickOf.cls ≠ "java/lang/invoke/MethodHandle" ∧ yX6_pickOf.cls ≠ "java/lang/invoke/VarHandle" ∧ (parseMethodDescriptor yX6_pickOf.desc).map (fun d => d.parameters.length) = some 2 := by decide +kernel
abbrev rmX6_givenBy : Room := { frames := 4, cells := 0, slots := 0, locals := 113 }
def fX6_givenBy (this : Nat) (a1 : Int32) (st : zS) : Option (Int32 × zS) :=
  (zok spX st (some this) 6).bind fun o11 => (fX6_openBy o11 a1 st).bind fun q1 => zlet (q1.1) fun v2 => (fJ6_bitCount_0f7a4 v2 q1.2).bind fun q3 => zlet (q3.1) fun v4 => if 0 < v4 then ((fJ6_bitCount_0f7a4 a1 q3.2).bind fun q5 => (zok spX q5.2 (some this) 6).bind fun o10 => (fX6_tellBy o10 (0 : Int32) (0 : Int32) q5.1 v4 q5.2).bind fun q6 => (zok spX q6.2 (some this) 6).bind fun o9 => (fX6_pickOf o9 v4 q6.1 q6.2).bind fun q7 => (fX6_bitAt v2 q7.1 q7.2).bind fun q8 => some (q8.1, q8.2)) else (some ((-1 : Int32), q3.2))
set_option maxRecDepth 100000 in
set_option maxHeartbeats 4000000 in
theorem kX6_givenBy (l : Launch) (Z : zZ) (b : Nat) (x : Option Nat) (this : Nat) (a1 : Int32) (st : zS) : zC l Z spX b x yX6_givenBy (.code yX6_givenBy cX6_givenBy 4 (some .int)) (rmX6_givenBy) rI [vP (some this), vI a1] st (fX6_givenBy this a1 st) := by
  refine z_start (own := RX6) rfl (by decide +kernel) (Nat.le_of_ble_eq_true rfl) rfl (fun p e s m args below meth c res Q A X hK hr hlocks hQ => ?_)
  rw [fX6_givenBy]
  refine z_aload_n X (q := 0) dX6_givenBy_0 rfl rfl ?_
  refine z_iload_n X (q := 1) dX6_givenBy_1 rfl rfl ?_
  refine z_callV X hK (As := [vI a1]) (ci := 6) rfl (by decide) (fun o => (kX6_openBy l Z  b x o _ _)) hk_X6_79 ⟨rfl, rfl⟩ hd_X6_openBy ⟨Nat.le_of_ble_eq_true rfl, Nat.le_of_ble_eq_true rfl⟩ ⟨Nat.le_of_ble_eq_true rfl, Nat.le_of_ble_eq_true rfl⟩ rfl rfl (Nat.le_of_ble_eq_true rfl) dX6_givenBy_2 (fun _ q1 _ => ?_)
  refine z_name (fun v2 => ?_)
  refine z_istore_n X dX6_givenBy_5 rfl (Nat.le_of_ble_eq_true rfl) rfl ?_
  refine z_iload_n X (q := 0) dX6_givenBy_6 rfl rfl ?_
  refine z_callS X hK (As := [vI v2]) (kJ6_bitCount_0f7a4 l Z spX b x _ _) hk_X6_82 ⟨rfl, rfl⟩ hd_J6_bitCount_0f7a4.2 ⟨Nat.le_of_ble_eq_true rfl, Nat.le_of_ble_eq_true rfl⟩ ⟨Nat.le_of_ble_eq_true rfl, Nat.le_of_ble_eq_true rfl⟩ rfl rfl (Nat.le_of_ble_eq_true rfl) dX6_givenBy_7 (fun q3 => ?_)
  refine z_name (fun v4 => ?_)
  refine z_istore_n X dX6_givenBy_10 rfl (Nat.le_of_ble_eq_true rfl) rfl ?_
  refine z_iload_n X (q := 0) dX6_givenBy_11 rfl rfl ?_
  refine z_if_gt X (tgt := 17) dX6_givenBy_12 (by decide) (fun _ => ?_) (fun _ => ?_)
  · refine z_iload_n X (q := 1) dX6_givenBy_17 rfl rfl ?_
    refine z_aload_n X (q := 2) dX6_givenBy_18 rfl rfl ?_
    refine z_iload_n X (q := 0) dX6_givenBy_19 rfl rfl ?_
    refine z_aload_n X (q := 2) dX6_givenBy_20 rfl rfl ?_
    refine z_iconst X (v := (0 : Int32)) dX6_givenBy_21 (by decide) ?_
    refine z_iconst X (v := (0 : Int32)) dX6_givenBy_22 (by decide) ?_
    refine z_iload_n X (q := 3) dX6_givenBy_23 rfl rfl ?_
    refine z_callS X hK (As := [vI a1]) (kJ6_bitCount_0f7a4 l Z spX b x _ _) hk_X6_82 ⟨rfl, rfl⟩ hd_J6_bitCount_0f7a4.2 ⟨Nat.le_of_ble_eq_true rfl, Nat.le_of_ble_eq_true rfl⟩ ⟨Nat.le_of_ble_eq_true rfl, Nat.le_of_ble_eq_true rfl⟩ rfl rfl (Nat.le_of_ble_eq_true rfl) dX6_givenBy_24 (fun q5 => ?_)
    refine z_iload_n X (q := 0) dX6_givenBy_27 rfl rfl ?_
    refine z_callV X hK (As := [vI (0 : Int32), vI (0 : Int32), vI q5.1, vI v4]) (ci := 6) rfl (by decide) (fun o => (kX6_tellBy l Z  b x o _ _ _ _ _)) hk_X6_87 ⟨rfl, rfl⟩ hd_X6_tellBy ⟨Nat.le_of_ble_eq_true rfl, Nat.le_of_ble_eq_true rfl⟩ ⟨Nat.le_of_ble_eq_true rfl, Nat.le_of_ble_eq_true rfl⟩ rfl rfl (Nat.le_of_ble_eq_true rfl) dX6_givenBy_28 (fun _ q6 _ => ?_)
    refine z_callV X hK (As := [vI v4, vI q6.1]) (ci := 6) rfl (by decide) (fun o => (kX6_pickOf l Z  b x o _ _ _)) hk_X6_91 ⟨rfl, rfl⟩ hd_X6_pickOf ⟨Nat.le_of_ble_eq_true rfl, Nat.le_of_ble_eq_true rfl⟩ ⟨Nat.le_of_ble_eq_true rfl, Nat.le_of_ble_eq_true rfl⟩ rfl rfl (Nat.le_of_ble_eq_true rfl) dX6_givenBy_31 (fun _ q7 _ => ?_)
    refine z_callS X hK (As := [vI v2, vI q7.1]) (kX6_bitAt l Z  b x _ _ _) hk_X6_94 ⟨rfl, rfl⟩ hd_X6_bitAt.2 ⟨Nat.le_of_ble_eq_true rfl, Nat.le_of_ble_eq_true rfl⟩ ⟨Nat.le_of_ble_eq_true rfl, Nat.le_of_ble_eq_true rfl⟩ rfl rfl (Nat.le_of_ble_eq_true rfl) dX6_givenBy_34 (fun q8 => ?_)
    subst hQ; exact z_iret X hlocks hr dX6_givenBy_37
  · refine z_iconst X (v := (-1 : Int32)) dX6_givenBy_15 (by decide) ?_
    subst hQ; exact z_iret X hlocks hr dX6_givenBy_16
abbrev rmX6_gladAsTwin : Room := { frames := 1, cells := 0, slots := 0, locals := 40 }
def fX6_gladAsTwin (this : Nat) (a1 : Int32) (a2 : Int32) (st : zS) : Option (Int32 × zS) :=
  (zok spX st (some this) 6).bind fun o1 => if (((st.2.1 o1 8) >>> (a1 &&& 31)) &&& (1 : Int32)) = 0 then (some (a2, st)) else (some ((0 : Int32), st))
set_option maxRecDepth 100000 in
set_option maxHeartbeats 4000000 in
theorem kX6_gladAsTwin (l : Launch) (Z : zZ) (b : Nat) (x : Option Nat) (this : Nat) (a1 : Int32) (a2 : Int32) (st : zS) : zC l Z spX b x yX6_gladAsTwin (.code yX6_gladAsTwin cX6_gladAsTwin 3 (some .int)) (rmX6_gladAsTwin) rI [vP (some this), vI a1, vI a2] st (fX6_gladAsTwin this a1 a2 st) := by
  refine z_start (own := RX6) rfl (by decide +kernel) (Nat.le_of_ble_eq_true rfl) rfl (fun p e s m args below meth c res Q A X hK hr hlocks hQ => ?_)
  rw [fX6_gladAsTwin]
  refine z_aload_n X (q := 0) dX6_gladAsTwin_0 rfl rfl ?_
  refine z_geti X hK (N := 15) (ci := 6) (k := 8) rfl (by decide) inlX6 (by decide) hf_X6_43 rfl spX_X6 rfl dX6_gladAsTwin_1 (fun o1 _ => ?_)
  refine z_iload_n X (q := 1) dX6_gladAsTwin_4 rfl rfl ?_
  refine z_ishr X dX6_gladAsTwin_5 ?_
  refine z_iconst X (v := (1 : Int32)) dX6_gladAsTwin_6 (by decide) ?_
  refine z_iand X dX6_gladAsTwin_7 ?_
  refine z_if_eq X (tgt := 15) dX6_gladAsTwin_8 (by decide) (fun _ => ?_) (fun _ => ?_)
  · refine z_iload_n X (q := 2) dX6_gladAsTwin_15 rfl rfl ?_
    subst hQ; exact z_iret X hlocks hr dX6_gladAsTwin_16
  · refine z_iconst X (v := (0 : Int32)) dX6_gladAsTwin_11 (by decide) ?_
    refine z_goto X (tgt := 16) dX6_gladAsTwin_12 (by decide) ?_
    subst hQ; exact z_iret X hlocks hr dX6_gladAsTwin_16
theorem zw_190 : Cond.methodLink RX6 108 yX6_gladAsTwin ∈ wsL_law := zr_26 _ (by decide +kernel)
theorem zw_191 : Cond.instanceMethod yX6_gladAsTwin ∈ wsL_law := zr_26 _ (by decide +kernel)
theorem zw_192 : Cond.selects RX6 yX6_gladAsTwin yX6_gladAsTwin ∈ wsL_law := zr_26 _ (by decide +kernel)
theorem zw_193 : Cond.code yX6_gladAsTwin cX6_gladAsTwin 3 (some .int) ∈ wsL_law := zr_26 _ (by decide +kernel)
theorem hk_X6_108 : ∀ w ∈ ([Cond.methodLink RX6 108 yX6_gladAsTwin, Cond.instanceMethod yX6_gladAsTwin, Cond.selects RX6 yX6_gladAsTwin yX6_gladAsTwin, Cond.initialized RX6, Cond.code yX6_gladAsTwin cX6_gladAsTwin 3 (some .int)] : List Cond), w ∈ wsL_law := List.forall_mem_cons.mpr ⟨zw_190, List.forall_mem_cons.mpr ⟨zw_191, List.forall_mem_cons.mpr ⟨zw_192, List.forall_mem_cons.mpr ⟨zw_137, List.forall_mem_cons.mpr ⟨zw_193, fun _ h => absurd h List.not_mem_nil⟩⟩⟩⟩⟩
theorem hd_X6_gladAsTwin : yX6_gladAsTwin.cls = RX6 ∧ yX6_gladAsTwin.cls ≠ "java/lang/invoke/MethodHandle" ∧ yX6_gladAsTwin.cls ≠ "java/lang/invoke/VarHandle" ∧ (parseMethodDescriptor yX6_gladAsTwin.desc).map (fun d => d.parameters.length) = some 2 := by decide +kernel
abbrev rmX6_gladOf : Room := { frames := 4, cells := 0, slots := 0, locals := 113 }
def fX6_gladOf (this : Nat) (a1 : Int32) (st : zS) : Option (Int32 × zS) :=
  (zok spX st (some this) 6).bind fun o16 => (fX6_tellBy o16 (1 : Int32) a1 (0 : Int32) (0 : Int32) st).bind fun q1 => zlet (q1.1) fun v2 => (zok spX q1.2 (some this) 6).bind fun o3 => if (q1.2.2.1 o3 3) = (1 : Int32) then (if (2 : Int32) = 0 then none else some ((v2 / (2 : Int32)), q1.2)) else (if (q1.2.2.1 o3 3) = (2 : Int32) then ((zok spX q1.2 (some this) 6).bind fun o7 => (fX6_gladAsTwin o7 a1 v2 q1.2).bind fun q6 => some (q6.1, q6.2)) else (if (q1.2.2.1 o3 3) = (3 : Int32) then (if (2 : Int32) = 0 then none else (zok spX q1.2 (some this) 6).bind fun o9 => (fX6_bounded ((v2 / (2 : Int32)) + (q1.2.2.1 o9 4)) q1.2).bind fun q10 => some (q10.1, q10.2)) else (if (q1.2.2.1 o3 3) = (4 : Int32) then ((zok spX q1.2 (some this) 6).bind fun o14 => (fX6_gladAsTwin o14 a1 v2 q1.2).bind fun q12 => (fX6_bounded ((2 : Int32) * q12.1) q12.2).bind fun q13 => some (q13.1, q13.2)) else (if (q1.2.2.1 o3 3) = (5 : Int32) then (some ((9 : Int32), q1.2)) else (some (v2, q1.2))))))
set_option maxRecDepth 100000 in
set_option maxHeartbeats 4000000 in
theorem kX6_gladOf (l : Launch) (Z : zZ) (b : Nat) (x : Option Nat) (this : Nat) (a1 : Int32) (st : zS) : zC l Z spX b x yX6_gladOf (.code yX6_gladOf cX6_gladOf 3 (some .int)) (rmX6_gladOf) rI [vP (some this), vI a1] st (fX6_gladOf this a1 st) := by
  refine z_start (own := RX6) rfl (by decide +kernel) (Nat.le_of_ble_eq_true rfl) rfl (fun p e s m args below meth c res Q A X hK hr hlocks hQ => ?_)
  rw [fX6_gladOf]
  refine z_aload_n X (q := 0) dX6_gladOf_0 rfl rfl ?_
  refine z_iconst X (v := (1 : Int32)) dX6_gladOf_1 (by decide) ?_
  refine z_iload_n X (q := 1) dX6_gladOf_2 rfl rfl ?_
  refine z_iconst X (v := (0 : Int32)) dX6_gladOf_3 (by decide) ?_
  refine z_iconst X (v := (0 : Int32)) dX6_gladOf_4 (by decide) ?_
  refine z_callV X hK (As := [vI (1 : Int32), vI a1, vI (0 : Int32), vI (0 : Int32)]) (ci := 6) rfl (by decide) (fun o => (kX6_tellBy l Z  b x o _ _ _ _ _)) hk_X6_87 ⟨rfl, rfl⟩ hd_X6_tellBy ⟨Nat.le_of_ble_eq_true rfl, Nat.le_of_ble_eq_true rfl⟩ ⟨Nat.le_of_ble_eq_true rfl, Nat.le_of_ble_eq_true rfl⟩ rfl rfl (Nat.le_of_ble_eq_true rfl) dX6_gladOf_5 (fun _ q1 _ => ?_)
  refine z_name (fun v2 => ?_)
  refine z_istore_n X dX6_gladOf_8 rfl (Nat.le_of_ble_eq_true rfl) rfl ?_
  refine z_aload_n X (q := 1) dX6_gladOf_9 rfl rfl ?_
  refine z_geti X hK (N := 15) (ci := 6) (k := 3) rfl (by decide) inlX6 (by decide) hf_X6_26 rfl spX_X6 rfl dX6_gladOf_10 (fun o3 _ => ?_)
  refine z_ite (fun h4 => ?_) (fun h4 => ?_)
  · refine z_tabIn X (off := 35) (tgt := 48) dX6_gladOf_13 (by rw [h4]; decide) (by rw [h4]; decide) (by rw [h4]; rfl) (by decide) ?_
    refine z_iload_n X (q := 0) dX6_gladOf_48 rfl rfl ?_
    refine z_iconst X (v := (2 : Int32)) dX6_gladOf_49 (by decide) ?_
    refine z_idiv X dX6_gladOf_50 (fun _ => ?_)
    subst hQ; exact z_iret X hlocks hr dX6_gladOf_51
  refine z_ite (fun h5 => ?_) (fun h5 => ?_)
  · refine z_tabIn X (off := 39) (tgt := 52) dX6_gladOf_13 (by rw [h5]; decide) (by rw [h5]; decide) (by rw [h5]; rfl) (by decide) ?_
    refine z_aload_n X (q := 1) dX6_gladOf_52 rfl rfl ?_
    refine z_iload_n X (q := 2) dX6_gladOf_53 rfl rfl ?_
    refine z_iload_n X (q := 0) dX6_gladOf_54 rfl rfl ?_
    refine z_callV X hK (As := [vI a1, vI v2]) (ci := 6) rfl (by decide) (fun o => (kX6_gladAsTwin l Z  b x o _ _ _)) hk_X6_108 ⟨rfl, rfl⟩ hd_X6_gladAsTwin ⟨Nat.le_of_ble_eq_true rfl, Nat.le_of_ble_eq_true rfl⟩ ⟨Nat.le_of_ble_eq_true rfl, Nat.le_of_ble_eq_true rfl⟩ rfl rfl (Nat.le_of_ble_eq_true rfl) dX6_gladOf_55 (fun _ q6 _ => ?_)
    subst hQ; exact z_iret X hlocks hr dX6_gladOf_58
  refine z_ite (fun h8 => ?_) (fun h8 => ?_)
  · refine z_tabIn X (off := 46) (tgt := 59) dX6_gladOf_13 (by rw [h8]; decide) (by rw [h8]; decide) (by rw [h8]; rfl) (by decide) ?_
    refine z_iload_n X (q := 0) dX6_gladOf_59 rfl rfl ?_
    refine z_iconst X (v := (2 : Int32)) dX6_gladOf_60 (by decide) ?_
    refine z_idiv X dX6_gladOf_61 (fun _ => ?_)
    refine z_aload_n X (q := 1) dX6_gladOf_62 rfl rfl ?_
    refine z_geti X hK (N := 15) (ci := 6) (k := 4) rfl (by decide) inlX6 (by decide) hf_X6_30 rfl spX_X6 rfl dX6_gladOf_63 (fun o9 _ => ?_)
    refine z_iadd X dX6_gladOf_66 ?_
    refine z_callS X hK (As := [vI ((v2 / (2 : Int32)) + (q1.2.2.1 o9 4))]) (kX6_bounded l Z  b x _ _) hk_X6_111 ⟨rfl, rfl⟩ hd_X6_bounded.2 ⟨Nat.le_of_ble_eq_true rfl, Nat.le_of_ble_eq_true rfl⟩ ⟨Nat.le_of_ble_eq_true rfl, Nat.le_of_ble_eq_true rfl⟩ rfl rfl (Nat.le_of_ble_eq_true rfl) dX6_gladOf_67 (fun q10 => ?_)
    subst hQ; exact z_iret X hlocks hr dX6_gladOf_70
  refine z_ite (fun h11 => ?_) (fun h11 => ?_)
  · refine z_tabIn X (off := 58) (tgt := 71) dX6_gladOf_13 (by rw [h11]; decide) (by rw [h11]; decide) (by rw [h11]; rfl) (by decide) ?_
    refine z_iconst X (v := (2 : Int32)) dX6_gladOf_71 (by decide) ?_
    refine z_aload_n X (q := 1) dX6_gladOf_72 rfl rfl ?_
    refine z_iload_n X (q := 2) dX6_gladOf_73 rfl rfl ?_
    refine z_iload_n X (q := 0) dX6_gladOf_74 rfl rfl ?_
    refine z_callV X hK (As := [vI a1, vI v2]) (ci := 6) rfl (by decide) (fun o => (kX6_gladAsTwin l Z  b x o _ _ _)) hk_X6_108 ⟨rfl, rfl⟩ hd_X6_gladAsTwin ⟨Nat.le_of_ble_eq_true rfl, Nat.le_of_ble_eq_true rfl⟩ ⟨Nat.le_of_ble_eq_true rfl, Nat.le_of_ble_eq_true rfl⟩ rfl rfl (Nat.le_of_ble_eq_true rfl) dX6_gladOf_75 (fun _ q12 _ => ?_)
    refine z_imul X dX6_gladOf_78 ?_
    refine z_callS X hK (As := [vI ((2 : Int32) * q12.1)]) (kX6_bounded l Z  b x _ _) hk_X6_111 ⟨rfl, rfl⟩ hd_X6_bounded.2 ⟨Nat.le_of_ble_eq_true rfl, Nat.le_of_ble_eq_true rfl⟩ ⟨Nat.le_of_ble_eq_true rfl, Nat.le_of_ble_eq_true rfl⟩ rfl rfl (Nat.le_of_ble_eq_true rfl) dX6_gladOf_79 (fun q13 => ?_)
    subst hQ; exact z_iret X hlocks hr dX6_gladOf_82
  refine z_ite (fun h15 => ?_) (fun h15 => ?_)
  · refine z_tabIn X (off := 70) (tgt := 83) dX6_gladOf_13 (by rw [h15]; decide) (by rw [h15]; decide) (by rw [h15]; rfl) (by decide) ?_
    refine z_bipush X (v := (9 : Int32)) dX6_gladOf_83 (by decide) ?_
    subst hQ; exact z_iret X hlocks hr dX6_gladOf_85
  refine z_tabOut X (tgt := 86) dX6_gladOf_13 (by have := lv_neT (a := 1) h4 (by decide); have := lv_neT (a := 2) h5 (by decide); have := lv_neT (a := 3) h8 (by decide); have := lv_neT (a := 4) h11 (by decide); have := lv_neT (a := 5) h15 (by decide); omega) (by decide) ?_
  refine z_iload_n X (q := 0) dX6_gladOf_86 rfl rfl ?_
  subst hQ; exact z_iret X hlocks hr dX6_gladOf_87
abbrev rmX6_shutBy : Room := { frames := 2, cells := 0, slots := 0, locals := 63 }
def fX6_shutBy_j40 (this : Nat) (y1 : Int32) (st : zS) : Option (Int32 × zS) :=
  some ((y1 &&& (-y1)), st)
def fX6_shutBy_j45 (this : Nat) (y1 : Int32) (st : zS) : Option (Int32 × zS) :=
  (zok spX st (some this) 6).bind fun o2 => (fX6_likeAnyOf o2 y1 st).bind fun q1 => some ((y1 ||| q1.1), q1.2)
def fX6_shutBy (this : Nat) (a1 : Int32) (st : zS) : Option (Int32 × zS) :=
  (zok spX st (some this) 6).bind fun o3 => if (st.2.1 o3 3) = (1 : Int32) then (fX6_shutBy_j40 this a1 st) else (if (st.2.1 o3 3) = (2 : Int32) then (fX6_shutBy_j45 this a1 st) else (if (st.2.1 o3 3) = (3 : Int32) then (fX6_shutBy_j40 this a1 st) else (if (st.2.1 o3 3) = (4 : Int32) then (fX6_shutBy_j45 this a1 st) else (if (st.2.1 o3 3) = (5 : Int32) then (some ((0 : Int32), st)) else (some (a1, st))))))
set_option maxRecDepth 100000 in
set_option maxHeartbeats 4000000 in
theorem kX6_shutBy (l : Launch) (Z : zZ) (b : Nat) (x : Option Nat) (this : Nat) (a1 : Int32) (st : zS) : zC l Z spX b x yX6_shutBy (.code yX6_shutBy cX6_shutBy 2 (some .int)) (rmX6_shutBy) rI [vP (some this), vI a1] st (fX6_shutBy this a1 st) := by
  refine z_start (own := RX6) rfl (by decide +kernel) (Nat.le_of_ble_eq_true rfl) rfl (fun p e s m args below meth c res Q A X hK hr hlocks hQ => ?_)
  have J40 : ∀ (y1 : Int32) (st : zS), zs p l e (rmX6_shutBy) s m args below meth c Q Z spX b x A 2 0 0 res (fX6_shutBy_j40 this y1 st) 40 [(1, vI y1)] [] st := by
    intro y1 st
    rw [fX6_shutBy_j40]
    refine z_iload_n X (q := 0) dX6_shutBy_40 rfl rfl ?_
    refine z_iload_n X (q := 0) dX6_shutBy_41 rfl rfl ?_
    refine z_ineg X dX6_shutBy_42 ?_
    refine z_iand X dX6_shutBy_43 ?_
    subst hQ; exact z_iret X hlocks hr dX6_shutBy_44
  have J45 : ∀ (y1 : Int32) (st : zS), zs p l e (rmX6_shutBy) s m args below meth c Q Z spX b x A 2 0 0 res (fX6_shutBy_j45 this y1 st) 45 [(0, vP (some this)), (1, vI y1)] [] st := by
    intro y1 st
    rw [fX6_shutBy_j45]
    refine z_iload_n X (q := 1) dX6_shutBy_45 rfl rfl ?_
    refine z_aload_n X (q := 0) dX6_shutBy_46 rfl rfl ?_
    refine z_iload_n X (q := 1) dX6_shutBy_47 rfl rfl ?_
    refine z_callV X hK (As := [vI y1]) (ci := 6) rfl (by decide) (fun o => (kX6_likeAnyOf l Z  b x o _ _)) hk_X6_72 ⟨rfl, rfl⟩ hd_X6_likeAnyOf ⟨Nat.le_of_ble_eq_true rfl, Nat.le_of_ble_eq_true rfl⟩ ⟨Nat.le_of_ble_eq_true rfl, Nat.le_of_ble_eq_true rfl⟩ rfl rfl (Nat.le_of_ble_eq_true rfl) dX6_shutBy_48 (fun _ q1 _ => ?_)
    refine z_ior X dX6_shutBy_51 ?_
    subst hQ; exact z_iret X hlocks hr dX6_shutBy_52
  rw [fX6_shutBy]
  refine z_aload_n X (q := 0) dX6_shutBy_0 rfl rfl ?_
  refine z_geti X hK (N := 15) (ci := 6) (k := 3) rfl (by decide) inlX6 (by decide) hf_X6_26 rfl spX_X6 rfl dX6_shutBy_1 (fun o3 _ => ?_)
  refine z_ite (fun h4 => ?_) (fun h4 => ?_)
  · refine z_tabIn X (off := 36) (tgt := 40) dX6_shutBy_4 (by rw [h4]; decide) (by rw [h4]; decide) (by rw [h4]; rfl) (by decide) ?_
    exact z_sub [1] (J40 _ _) rfl
  refine z_ite (fun h5 => ?_) (fun h5 => ?_)
  · refine z_tabIn X (off := 41) (tgt := 45) dX6_shutBy_4 (by rw [h5]; decide) (by rw [h5]; decide) (by rw [h5]; rfl) (by decide) ?_
    exact z_sub [0, 1] (J45 _ _) rfl
  refine z_ite (fun h6 => ?_) (fun h6 => ?_)
  · refine z_tabIn X (off := 36) (tgt := 40) dX6_shutBy_4 (by rw [h6]; decide) (by rw [h6]; decide) (by rw [h6]; rfl) (by decide) ?_
    exact z_sub [1] (J40 _ _) rfl
  refine z_ite (fun h7 => ?_) (fun h7 => ?_)
  · refine z_tabIn X (off := 41) (tgt := 45) dX6_shutBy_4 (by rw [h7]; decide) (by rw [h7]; decide) (by rw [h7]; rfl) (by decide) ?_
    exact z_sub [0, 1] (J45 _ _) rfl
  refine z_ite (fun h8 => ?_) (fun h8 => ?_)
  · refine z_tabIn X (off := 49) (tgt := 53) dX6_shutBy_4 (by rw [h8]; decide) (by rw [h8]; decide) (by rw [h8]; rfl) (by decide) ?_
    refine z_iconst X (v := (0 : Int32)) dX6_shutBy_53 (by decide) ?_
    subst hQ; exact z_iret X hlocks hr dX6_shutBy_54
  refine z_tabOut X (tgt := 55) dX6_shutBy_4 (by have := lv_neT (a := 1) h4 (by decide); have := lv_neT (a := 2) h5 (by decide); have := lv_neT (a := 3) h6 (by decide); have := lv_neT (a := 4) h7 (by decide); have := lv_neT (a := 5) h8 (by decide); omega) (by decide) ?_
  refine z_iload_n X (q := 1) dX6_shutBy_55 rfl rfl ?_
  subst hQ; exact z_iret X hlocks hr dX6_shutBy_56
theorem zw_194 : Cond.methodLink RX6 125 yX6_givenBy ∈ wsL_law := zr_35 _ (by decide +kernel)
theorem zw_195 : Cond.instanceMethod yX6_givenBy ∈ wsL_law := zr_22 _ (by decide +kernel)
theorem zw_196 : Cond.selects RX6 yX6_givenBy yX6_givenBy ∈ wsL_law := zr_22 _ (by decide +kernel)
theorem zw_197 : Cond.code yX6_givenBy cX6_givenBy 4 (some .int) ∈ wsL_law := zr_22 _ (by decide +kernel)
theorem hk_X6_125 : ∀ w ∈ ([Cond.methodLink RX6 125 yX6_givenBy, Cond.instanceMethod yX6_givenBy, Cond.selects RX6 yX6_givenBy yX6_givenBy, Cond.initialized RX6, Cond.code yX6_givenBy cX6_givenBy 4 (some .int)] : List Cond), w ∈ wsL_law := List.forall_mem_cons.mpr ⟨zw_194, List.forall_mem_cons.mpr ⟨zw_195, List.forall_mem_cons.mpr ⟨zw_196, List.forall_mem_cons.mpr ⟨zw_137, List.forall_mem_cons.mpr ⟨zw_197, fun _ h => absurd h List.not_mem_nil⟩⟩⟩⟩⟩
theorem zw_198 : Cond.methodLink RX6 128 yX6_shutBy ∈ wsL_law := zr_35 _ (by decide +kernel)
theorem zw_199 : Cond.instanceMethod yX6_shutBy ∈ wsL_law := zr_25 _ (by decide +kernel)
theorem zw_200 : Cond.selects RX6 yX6_shutBy yX6_shutBy ∈ wsL_law := zr_25 _ (by decide +kernel)
theorem zw_201 : Cond.code yX6_shutBy cX6_shutBy 2 (some .int) ∈ wsL_law := zr_25 _ (by decide +kernel)
theorem hk_X6_128 : ∀ w ∈ ([Cond.methodLink RX6 128 yX6_shutBy, Cond.instanceMethod yX6_shutBy, Cond.selects RX6 yX6_shutBy yX6_shutBy, Cond.initialized RX6, Cond.code yX6_shutBy cX6_shutBy 2 (some .int)] : List Cond), w ∈ wsL_law := List.forall_mem_cons.mpr ⟨zw_198, List.forall_mem_cons.mpr ⟨zw_199, List.forall_mem_cons.mpr ⟨zw_200, List.forall_mem_cons.mpr ⟨zw_137, List.forall_mem_cons.mpr ⟨zw_201, fun _ h => absurd h List.not_mem_nil⟩⟩⟩⟩⟩
theorem zw_202 : Cond.methodLink RX6 131 yX6_costOf ∈ wsL_law := zr_35 _ (by decide +kernel)
theorem zw_203 : Cond.instanceMethod yX6_costOf ∈ wsL_law := zr_25 _ (by decide +kernel)
theorem zw_204 : Cond.selects RX6 yX6_costOf yX6_costOf ∈ wsL_law := zr_25 _ (by decide +kernel)
theorem zw_205 : Cond.code yX6_costOf cX6_costOf 2 (some .int) ∈ wsL_law := zr_25 _ (by decide +kernel)
theorem hk_X6_131 : ∀ w ∈ ([Cond.methodLink RX6 131 yX6_costOf, Cond.instanceMethod yX6_costOf, Cond.selects RX6 yX6_costOf yX6_costOf, Cond.initialized RX6, Cond.code yX6_costOf cX6_costOf 2 (some .int)] : List Cond), w ∈ wsL_law := List.forall_mem_cons.mpr ⟨zw_202, List.forall_mem_cons.mpr ⟨zw_203, List.forall_mem_cons.mpr ⟨zw_204, List.forall_mem_cons.mpr ⟨zw_137, List.forall_mem_cons.mpr ⟨zw_205, fun _ h => absurd h List.not_mem_nil⟩⟩⟩⟩⟩
theorem zw_206 : Cond.methodLink RX6 134 yX6_gladOf ∈ wsL_law := zr_35 _ (by decide +kernel)
theorem zw_207 : Cond.instanceMethod yX6_gladOf ∈ wsL_law := zr_26 _ (by decide +kernel)
theorem zw_208 : Cond.selects RX6 yX6_gladOf yX6_gladOf ∈ wsL_law := zr_26 _ (by decide +kernel)
theorem zw_209 : Cond.code yX6_gladOf cX6_gladOf 3 (some .int) ∈ wsL_law := zr_26 _ (by decide +kernel)
theorem hk_X6_134 : ∀ w ∈ ([Cond.methodLink RX6 134 yX6_gladOf, Cond.instanceMethod yX6_gladOf, Cond.selects RX6 yX6_gladOf yX6_gladOf, Cond.initialized RX6, Cond.code yX6_gladOf cX6_gladOf 3 (some .int)] : List Cond), w ∈ wsL_law := List.forall_mem_cons.mpr ⟨zw_206, List.forall_mem_cons.mpr ⟨zw_207, List.forall_mem_cons.mpr ⟨zw_208, List.forall_mem_cons.mpr ⟨zw_137, List.forall_mem_cons.mpr ⟨zw_209, fun _ h => absurd h List.not_mem_nil⟩⟩⟩⟩⟩
theorem hd_X6_costOf : yX6_costOf.cls = RX6 ∧ yX6_costOf.cls ≠ "java/lang/invoke/MethodHandle" ∧ yX6_costOf.cls ≠ "java/lang/invoke/VarHandle" ∧ (parseMethodDescriptor yX6_costOf.desc).map (fun d => d.parameters.length) = some 1 := by decide +kernel
theorem hd_X6_givenBy : yX6_givenBy.cls = RX6 ∧ yX6_givenBy.cls ≠ "java/lang/invoke/MethodHandle" ∧ yX6_givenBy.cls ≠ "java/lang/invoke/VarHandle" ∧ (parseMethodDescriptor yX6_givenBy.desc).map (fun d => d.parameters.length) = some 1 := by decide +kernel
theorem hd_X6_gladOf : yX6_gladOf.cls = RX6 ∧ yX6_gladOf.cls ≠ "java/lang/invoke/MethodHandle" ∧ yX6_gladOf.cls ≠ "java/lang/invoke/VarHandle" ∧ (parseMethodDescriptor yX6_gladOf.desc).map (fun d => d.parameters.length) = some 1 := by decide +kernel
theorem hd_X6_shutBy : yX6_shutBy.cls = RX6 ∧ yX6_shutBy.cls ≠ "java/lang/invoke/MethodHandle" ∧ yX6_shutBy.cls ≠ "java/lang/invoke/VarHandle" ∧ (parseMethodDescriptor yX6_shutBy.desc).map (fun d => d.parameters.length) = some 1 := by decide +kernel
theorem zw_210 : Cond.fieldLink RX6 42 "WellGivesOther$Visit" "spent" "I" ∈ wsL_law := zr_21 _ (by decide +kernel)
theorem hf_X6_42 : Cond.fieldLink RX6 42 "WellGivesOther$Visit" "spent" "I" ∈ wsL_law := zw_210
theorem zw_211 : Cond.fieldLink RX6 53 "WellGivesOther$Visit" "last" "I" ∈ wsL_law := zr_21 _ (by decide +kernel)
theorem hf_X6_53 : Cond.fieldLink RX6 53 "WellGivesOther$Visit" "last" "I" ∈ wsL_law := zw_211
theorem zw_212 : Cond.fieldLink RX6 56 "WellGivesOther$Visit" "gifts" "I" ∈ wsL_law := zr_21 _ (by decide +kernel)
theorem hf_X6_56 : Cond.fieldLink RX6 56 "WellGivesOther$Visit" "gifts" "I" ∈ wsL_law := zw_212
theorem zw_213 : Cond.fieldLink RX6 59 "WellGivesOther$Visit" "misses" "I" ∈ wsL_law := zr_21 _ (by decide +kernel)
theorem hf_X6_59 : Cond.fieldLink RX6 59 "WellGivesOther$Visit" "misses" "I" ∈ wsL_law := zw_213
theorem zw_214 : Cond.fieldLink RX6 62 "WellGivesOther$Visit" "joy" "I" ∈ wsL_law := zr_21 _ (by decide +kernel)
theorem hf_X6_62 : Cond.fieldLink RX6 62 "WellGivesOther$Visit" "joy" "I" ∈ wsL_law := zw_214
theorem zw_215 : Cond.fieldLink RX6 65 "WellGivesOther$Visit" "paid" "I" ∈ wsL_law := zr_22 _ (by decide +kernel)
theorem hf_X6_65 : Cond.fieldLink RX6 65 "WellGivesOther$Visit" "paid" "I" ∈ wsL_law := zw_215
abbrev rmX6_askFor : Room := { frames := 5, cells := 0, slots := 0, locals := 136 }
def fX6_askFor_j73 (this : Nat) (y2 : Int32) (y3 : Int32) (y4 : Int32) (st : zS) : Option (Int32 × zS) :=
  (zok spX st (some this) 6).bind fun o1 => (zok spX st (some this) 6).bind fun o2 => zlet (zp st o2 5 ((st.2.1 o1 5) ||| y3)) fun st3 => (zok spX st3 (some this) 6).bind fun o4 => (zok spX st3 (some this) 6).bind fun o5 => zlet (zp st3 o5 14 ((st3.2.1 o4 14) + y4)) fun st6 => (zok spX st6 (some this) 6).bind fun o7 => (zok spX st6 (some this) 6).bind fun o8 => zlet (zp st6 o8 7 (if ((st6.2.1 o7 7) + y4) < (9999 : Int32) then ((st6.2.1 o7 7) + y4) else (9999 : Int32))) fun st9 => (zok spX st9 (some this) 6).bind fun o10 => zlet (zp st9 o10 10 y2) fun st11 => some (y2, st11)
def fX6_askFor (this : Nat) (a1 : Int32) (st : zS) : Option (Int32 × zS) :=
  (zok spX st (some this) 6).bind fun o34 => (fX6_givenBy o34 a1 st).bind fun q12 => zlet (q12.1) fun v13 => (zok spX q12.2 (some this) 6).bind fun o33 => (fX6_shutBy o33 a1 q12.2).bind fun q14 => zlet (q14.1) fun v15 => (zok spX q14.2 (some this) 6).bind fun o32 => (fX6_costOf o32 a1 q14.2).bind fun q16 => zlet (q16.1) fun v17 => if v13 = (-1 : Int32) then ((zok spX q16.2 (some this) 6).bind fun o29 => (zok spX q16.2 (some this) 6).bind fun o30 => zlet (zp q16.2 o30 12 ((q16.2.2.1 o29 12) + (1 : Int32))) fun st31 => fX6_askFor_j73 this v13 v15 v17 st31) else ((zok spX q16.2 (some this) 6).bind fun o18 => (zok spX q16.2 (some this) 6).bind fun o19 => zlet (zp q16.2 o19 11 ((q16.2.2.1 o18 11) + (1 : Int32))) fun st20 => (zok spX st20 (some this) 6).bind fun o21 => (zok spX st20 (some this) 6).bind fun o28 => (fX6_gladOf o28 v13 st20).bind fun q22 => (zok spX q22.2 (some this) 6).bind fun o23 => zlet (zp q22.2 o23 13 ((st20.2.1 o21 13) + q22.1)) fun st24 => (zok spX st24 (some this) 6).bind fun o25 => (zok spX st24 (some this) 6).bind fun o26 => zlet (zp st24 o26 6 ((st24.2.1 o25 6) ||| ((1 : Int32) <<< (v13 &&& 31)))) fun st27 => fX6_askFor_j73 this v13 v15 v17 st27)
set_option maxRecDepth 100000 in
set_option maxHeartbeats 4000000 in
theorem kX6_askFor (l : Launch) (Z : zZ) (b : Nat) (x : Option Nat) (this : Nat) (a1 : Int32) (st : zS) : zC l Z spX b x yX6_askFor (.code yX6_askFor cX6_askFor 5 (some .int)) (rmX6_askFor) rI [vP (some this), vI a1] st (fX6_askFor this a1 st) := by
  refine z_start (own := RX6) rfl (by decide +kernel) (Nat.le_of_ble_eq_true rfl) rfl (fun p e s m args below meth c res Q A X hK hr hlocks hQ => ?_)
  have J73 : ∀ (y2 : Int32) (y3 : Int32) (y4 : Int32) (st : zS), zs p l e (rmX6_askFor) s m args below meth c Q Z spX b x A 5 0 0 res (fX6_askFor_j73 this y2 y3 y4 st) 73 [(0, vP (some this)), (2, vI y2), (3, vI y3), (4, vI y4)] [] st := by
    intro y2 y3 y4 st
    rw [fX6_askFor_j73]
    refine z_aload_n X (q := 0) dX6_askFor_73 rfl rfl ?_
    refine z_dup X dX6_askFor_74 rfl ?_
    refine z_geti X hK (N := 15) (ci := 6) (k := 5) rfl (by decide) inlX6 (by decide) hf_X6_34 rfl spX_X6 rfl dX6_askFor_75 (fun o1 _ => ?_)
    refine z_iload_n X (q := 2) dX6_askFor_78 rfl rfl ?_
    refine z_ior X dX6_askFor_79 ?_
    refine z_puti X hK (N := 15) (ci := 6) (k := 5) rfl (by decide) inlX6 tyX6 tyX6_ok nmX6 (by decide) hf_X6_34 rfl rfl spX_X6 rfl (by decide +kernel) dX6_askFor_80 (fun o2 st3 _ => ?_)
    refine z_aload_n X (q := 0) dX6_askFor_83 rfl rfl ?_
    refine z_dup X dX6_askFor_84 rfl ?_
    refine z_geti X hK (N := 15) (ci := 6) (k := 14) rfl (by decide) inlX6 (by decide) hf_X6_65 rfl spX_X6 rfl dX6_askFor_85 (fun o4 _ => ?_)
    refine z_iload X (q := 3) dX6_askFor_88 rfl ?_
    refine z_iadd X dX6_askFor_90 ?_
    refine z_puti X hK (N := 15) (ci := 6) (k := 14) rfl (by decide) inlX6 tyX6 tyX6_ok nmX6 (by decide) hf_X6_65 rfl rfl spX_X6 rfl (by decide +kernel) dX6_askFor_91 (fun o5 st6 _ => ?_)
    refine z_aload_n X (q := 0) dX6_askFor_94 rfl rfl ?_
    refine z_sipush X (v := (9999 : Int32)) dX6_askFor_95 (by decide) ?_
    refine z_aload_n X (q := 0) dX6_askFor_98 rfl rfl ?_
    refine z_geti X hK (N := 15) (ci := 6) (k := 7) rfl (by decide) inlX6 (by decide) hf_X6_42 rfl spX_X6 rfl dX6_askFor_99 (fun o7 _ => ?_)
    refine z_iload X (q := 3) dX6_askFor_102 rfl ?_
    refine z_iadd X dX6_askFor_104 ?_
    refine z_min X hm_X6_102 ⟨Nat.le_of_ble_eq_true rfl, Nat.le_of_ble_eq_true rfl⟩ ⟨Nat.le_of_ble_eq_true rfl, Nat.le_of_ble_eq_true rfl⟩ (Nat.le_of_ble_eq_true rfl) dX6_askFor_105 ?_
    refine z_puti X hK (N := 15) (ci := 6) (k := 7) rfl (by decide) inlX6 tyX6 tyX6_ok nmX6 (by decide) hf_X6_42 rfl rfl spX_X6 rfl (by decide +kernel) dX6_askFor_108 (fun o8 st9 _ => ?_)
    refine z_aload_n X (q := 0) dX6_askFor_111 rfl rfl ?_
    refine z_iload_n X (q := 1) dX6_askFor_112 rfl rfl ?_
    refine z_puti X hK (N := 15) (ci := 6) (k := 10) rfl (by decide) inlX6 tyX6 tyX6_ok nmX6 (by decide) hf_X6_53 rfl rfl spX_X6 rfl (by decide +kernel) dX6_askFor_113 (fun o10 st11 _ => ?_)
    refine z_iload_n X (q := 1) dX6_askFor_116 rfl rfl ?_
    subst hQ; exact z_iret X hlocks hr dX6_askFor_117
  rw [fX6_askFor]
  refine z_aload_n X (q := 0) dX6_askFor_0 rfl rfl ?_
  refine z_iload_n X (q := 1) dX6_askFor_1 rfl rfl ?_
  refine z_callV X hK (As := [vI a1]) (ci := 6) rfl (by decide) (fun o => (kX6_givenBy l Z  b x o _ _)) hk_X6_125 ⟨rfl, rfl⟩ hd_X6_givenBy ⟨Nat.le_of_ble_eq_true rfl, Nat.le_of_ble_eq_true rfl⟩ ⟨Nat.le_of_ble_eq_true rfl, Nat.le_of_ble_eq_true rfl⟩ rfl rfl (Nat.le_of_ble_eq_true rfl) dX6_askFor_2 (fun _ q12 _ => ?_)
  refine z_name (fun v13 => ?_)
  refine z_istore_n X dX6_askFor_5 rfl (Nat.le_of_ble_eq_true rfl) rfl ?_
  refine z_aload_n X (q := 1) dX6_askFor_6 rfl rfl ?_
  refine z_iload_n X (q := 2) dX6_askFor_7 rfl rfl ?_
  refine z_callV X hK (As := [vI a1]) (ci := 6) rfl (by decide) (fun o => (kX6_shutBy l Z  b x o _ _)) hk_X6_128 ⟨rfl, rfl⟩ hd_X6_shutBy ⟨Nat.le_of_ble_eq_true rfl, Nat.le_of_ble_eq_true rfl⟩ ⟨Nat.le_of_ble_eq_true rfl, Nat.le_of_ble_eq_true rfl⟩ rfl rfl (Nat.le_of_ble_eq_true rfl) dX6_askFor_8 (fun _ q14 _ => ?_)
  refine z_name (fun v15 => ?_)
  refine z_istore_n X dX6_askFor_11 rfl (Nat.le_of_ble_eq_true rfl) rfl ?_
  refine z_aload_n X (q := 2) dX6_askFor_12 rfl rfl ?_
  refine z_iload_n X (q := 3) dX6_askFor_13 rfl rfl ?_
  refine z_callV X hK (As := [vI a1]) (ci := 6) rfl (by decide) (fun o => (kX6_costOf l Z  b x o _ _)) hk_X6_131 ⟨rfl, rfl⟩ hd_X6_costOf ⟨Nat.le_of_ble_eq_true rfl, Nat.le_of_ble_eq_true rfl⟩ ⟨Nat.le_of_ble_eq_true rfl, Nat.le_of_ble_eq_true rfl⟩ rfl rfl (Nat.le_of_ble_eq_true rfl) dX6_askFor_14 (fun _ q16 _ => ?_)
  refine z_name (fun v17 => ?_)
  refine z_istore X dX6_askFor_17 (Nat.le_of_ble_eq_true rfl) rfl ?_
  refine z_iload_n X (q := 2) dX6_askFor_19 rfl rfl ?_
  refine z_iconst X (v := (-1 : Int32)) dX6_askFor_20 (by decide) ?_
  refine z_icmp_ne X (tgt := 37) dX6_askFor_21 (by decide) (fun _ => ?_) (fun _ => ?_)
  · refine z_aload_n X (q := 3) dX6_askFor_37 rfl rfl ?_
    refine z_dup X dX6_askFor_38 rfl ?_
    refine z_geti X hK (N := 15) (ci := 6) (k := 11) rfl (by decide) inlX6 (by decide) hf_X6_56 rfl spX_X6 rfl dX6_askFor_39 (fun o18 _ => ?_)
    refine z_iconst X (v := (1 : Int32)) dX6_askFor_42 (by decide) ?_
    refine z_iadd X dX6_askFor_43 ?_
    refine z_puti X hK (N := 15) (ci := 6) (k := 11) rfl (by decide) inlX6 tyX6 tyX6_ok nmX6 (by decide) hf_X6_56 rfl rfl spX_X6 rfl (by decide +kernel) dX6_askFor_44 (fun o19 st20 _ => ?_)
    refine z_aload_n X (q := 3) dX6_askFor_47 rfl rfl ?_
    refine z_dup X dX6_askFor_48 rfl ?_
    refine z_geti X hK (N := 15) (ci := 6) (k := 13) rfl (by decide) inlX6 (by decide) hf_X6_62 rfl spX_X6 rfl dX6_askFor_49 (fun o21 _ => ?_)
    refine z_aload_n X (q := 3) dX6_askFor_52 rfl rfl ?_
    refine z_iload_n X (q := 2) dX6_askFor_53 rfl rfl ?_
    refine z_callV X hK (As := [vI v13]) (ci := 6) rfl (by decide) (fun o => (kX6_gladOf l Z  b x o _ _)) hk_X6_134 ⟨rfl, rfl⟩ hd_X6_gladOf ⟨Nat.le_of_ble_eq_true rfl, Nat.le_of_ble_eq_true rfl⟩ ⟨Nat.le_of_ble_eq_true rfl, Nat.le_of_ble_eq_true rfl⟩ rfl rfl (Nat.le_of_ble_eq_true rfl) dX6_askFor_54 (fun _ q22 _ => ?_)
    refine z_iadd X dX6_askFor_57 ?_
    refine z_puti X hK (N := 15) (ci := 6) (k := 13) rfl (by decide) inlX6 tyX6 tyX6_ok nmX6 (by decide) hf_X6_62 rfl rfl spX_X6 rfl (by decide +kernel) dX6_askFor_58 (fun o23 st24 _ => ?_)
    refine z_aload_n X (q := 3) dX6_askFor_61 rfl rfl ?_
    refine z_dup X dX6_askFor_62 rfl ?_
    refine z_geti X hK (N := 15) (ci := 6) (k := 6) rfl (by decide) inlX6 (by decide) hf_X6_38 rfl spX_X6 rfl dX6_askFor_63 (fun o25 _ => ?_)
    refine z_iconst X (v := (1 : Int32)) dX6_askFor_66 (by decide) ?_
    refine z_iload_n X (q := 2) dX6_askFor_67 rfl rfl ?_
    refine z_ishl X dX6_askFor_68 ?_
    refine z_ior X dX6_askFor_69 ?_
    refine z_puti X hK (N := 15) (ci := 6) (k := 6) rfl (by decide) inlX6 tyX6 tyX6_ok nmX6 (by decide) hf_X6_38 rfl rfl spX_X6 rfl (by decide +kernel) dX6_askFor_70 (fun o26 st27 _ => ?_)
    exact z_sub [3, 2, 1, 0] (J73 _ _ _ _) rfl
  · refine z_aload_n X (q := 3) dX6_askFor_24 rfl rfl ?_
    refine z_dup X dX6_askFor_25 rfl ?_
    refine z_geti X hK (N := 15) (ci := 6) (k := 12) rfl (by decide) inlX6 (by decide) hf_X6_59 rfl spX_X6 rfl dX6_askFor_26 (fun o29 _ => ?_)
    refine z_iconst X (v := (1 : Int32)) dX6_askFor_29 (by decide) ?_
    refine z_iadd X dX6_askFor_30 ?_
    refine z_puti X hK (N := 15) (ci := 6) (k := 12) rfl (by decide) inlX6 tyX6 tyX6_ok nmX6 (by decide) hf_X6_59 rfl rfl spX_X6 rfl (by decide +kernel) dX6_askFor_31 (fun o30 st31 _ => ?_)
    refine z_goto X (tgt := 73) dX6_askFor_34 (by decide) ?_
    exact z_sub [3, 2, 1, 0] (J73 _ _ _ _) rfl
theorem zw_216 : Cond.fieldLink RX6 20 "WellGivesOther$Asker" "kind" "I" ∈ wsL_law := zr_21 _ (by decide +kernel)
theorem hf_X6_20 : Cond.fieldLink RX6 20 "WellGivesOther$Asker" "kind" "I" ∈ wsL_law := zw_216
theorem zw_217 : Cond.fieldLink RX6 27 "WellGivesOther$Asker" "number" "I" ∈ wsL_law := zr_21 _ (by decide +kernel)
theorem hf_X6_27 : Cond.fieldLink RX6 27 "WellGivesOther$Asker" "number" "I" ∈ wsL_law := zw_217
theorem zw_218 : Cond.fieldLink RX6 31 "WellGivesOther$Asker" "shut" "I" ∈ wsL_law := zr_21 _ (by decide +kernel)
theorem hf_X6_31 : Cond.fieldLink RX6 31 "WellGivesOther$Asker" "shut" "I" ∈ wsL_law := zw_218
theorem zw_219 : Cond.fieldLink RX6 35 "WellGivesOther$Asker" "had" "I" ∈ wsL_law := zr_21 _ (by decide +kernel)
theorem hf_X6_35 : Cond.fieldLink RX6 35 "WellGivesOther$Asker" "had" "I" ∈ wsL_law := zw_219
theorem zw_220 : Cond.fieldLink RX6 39 "WellGivesOther$Asker" "spent" "I" ∈ wsL_law := zr_21 _ (by decide +kernel)
theorem hf_X6_39 : Cond.fieldLink RX6 39 "WellGivesOther$Asker" "spent" "I" ∈ wsL_law := zw_220
abbrev rmX6_begin : Room := { frames := 1, cells := 0, slots := 0, locals := 40 }
def fX6_begin (this : Nat) (a1 : Option Nat) (a2 : Int32) (a3 : Int32) (a4 : Option Nat) (st : zS) : Option (Unit × zS) :=
  (zok spX st a1 0).bind fun o1 => (zok spX st (some this) 6).bind fun o2 => zlet (zp st o2 3 (st.2.1 o1 0)) fun st3 => (zok spX st3 a1 0).bind fun o4 => (zok spX st3 (some this) 6).bind fun o5 => zlet (zp st3 o5 4 (st3.2.1 o4 1)) fun st6 => (zok spX st6 a1 0).bind fun o7 => (zok spX st6 (some this) 6).bind fun o8 => zlet (zp st6 o8 5 (st6.2.1 o7 2)) fun st9 => (zok spX st9 a1 0).bind fun o10 => (zok spX st9 (some this) 6).bind fun o11 => zlet (zp st9 o11 6 (st9.2.1 o10 3)) fun st12 => (zok spX st12 a1 0).bind fun o13 => (zok spX st12 (some this) 6).bind fun o14 => zlet (zp st12 o14 7 (st12.2.1 o13 4)) fun st15 => (zok spX st15 (some this) 6).bind fun o16 => zlet (zp st15 o16 8 a2) fun st17 => (zok spX st17 (some this) 6).bind fun o18 => zlet (zp st17 o18 9 a3) fun st19 => (zok spX st19 (some this) 6).bind fun o20 => zlet (zpr st19 o20 2 a4) fun st21 => (zok spX st21 (some this) 6).bind fun o22 => zlet (zp st21 o22 10 (-1 : Int32)) fun st23 => (zok spX st23 (some this) 6).bind fun o24 => zlet (zp st23 o24 11 (0 : Int32)) fun st25 => (zok spX st25 (some this) 6).bind fun o26 => zlet (zp st25 o26 12 (0 : Int32)) fun st27 => (zok spX st27 (some this) 6).bind fun o28 => zlet (zp st27 o28 13 (0 : Int32)) fun st29 => (zok spX st29 (some this) 6).bind fun o30 => zlet (zp st29 o30 14 (0 : Int32)) fun st31 => some ((), st31)
set_option maxRecDepth 100000 in
set_option maxHeartbeats 4000000 in
theorem kX6_begin (l : Launch) (Z : zZ) (b : Nat) (x : Option Nat) (this : Nat) (a1 : Option Nat) (a2 : Int32) (a3 : Int32) (a4 : Option Nat) (st : zS) : zC l Z spX b x yX6_begin (.code yX6_begin cX6_begin 5 none) (rmX6_begin) rV [vP (some this), vP a1, vI a2, vI a3, vP a4] st (fX6_begin this a1 a2 a3 a4 st) := by
  refine z_start (own := RX6) rfl (by decide +kernel) (Nat.le_of_ble_eq_true rfl) rfl (fun p e s m args below meth c res Q A X hK hr hlocks hQ => ?_)
  rw [fX6_begin]
  refine z_aload_n X (q := 0) dX6_begin_0 rfl rfl ?_
  refine z_aload_n X (q := 1) dX6_begin_1 rfl rfl ?_
  refine z_geti X hK (N := 5) (ci := 0) (k := 0) rfl (by decide) inlX0 (by decide) hf_X6_20 rfl spX_X0 rfl dX6_begin_2 (fun o1 _ => ?_)
  refine z_puti X hK (N := 15) (ci := 6) (k := 3) rfl (by decide) inlX6 tyX6 tyX6_ok nmX6 (by decide) hf_X6_26 rfl rfl spX_X6 rfl (by decide +kernel) dX6_begin_5 (fun o2 st3 _ => ?_)
  refine z_aload_n X (q := 0) dX6_begin_8 rfl rfl ?_
  refine z_aload_n X (q := 1) dX6_begin_9 rfl rfl ?_
  refine z_geti X hK (N := 5) (ci := 0) (k := 1) rfl (by decide) inlX0 (by decide) hf_X6_27 rfl spX_X0 rfl dX6_begin_10 (fun o4 _ => ?_)
  refine z_puti X hK (N := 15) (ci := 6) (k := 4) rfl (by decide) inlX6 tyX6 tyX6_ok nmX6 (by decide) hf_X6_30 rfl rfl spX_X6 rfl (by decide +kernel) dX6_begin_13 (fun o5 st6 _ => ?_)
  refine z_aload_n X (q := 0) dX6_begin_16 rfl rfl ?_
  refine z_aload_n X (q := 1) dX6_begin_17 rfl rfl ?_
  refine z_geti X hK (N := 5) (ci := 0) (k := 2) rfl (by decide) inlX0 (by decide) hf_X6_31 rfl spX_X0 rfl dX6_begin_18 (fun o7 _ => ?_)
  refine z_puti X hK (N := 15) (ci := 6) (k := 5) rfl (by decide) inlX6 tyX6 tyX6_ok nmX6 (by decide) hf_X6_34 rfl rfl spX_X6 rfl (by decide +kernel) dX6_begin_21 (fun o8 st9 _ => ?_)
  refine z_aload_n X (q := 0) dX6_begin_24 rfl rfl ?_
  refine z_aload_n X (q := 1) dX6_begin_25 rfl rfl ?_
  refine z_geti X hK (N := 5) (ci := 0) (k := 3) rfl (by decide) inlX0 (by decide) hf_X6_35 rfl spX_X0 rfl dX6_begin_26 (fun o10 _ => ?_)
  refine z_puti X hK (N := 15) (ci := 6) (k := 6) rfl (by decide) inlX6 tyX6 tyX6_ok nmX6 (by decide) hf_X6_38 rfl rfl spX_X6 rfl (by decide +kernel) dX6_begin_29 (fun o11 st12 _ => ?_)
  refine z_aload_n X (q := 0) dX6_begin_32 rfl rfl ?_
  refine z_aload_n X (q := 1) dX6_begin_33 rfl rfl ?_
  refine z_geti X hK (N := 5) (ci := 0) (k := 4) rfl (by decide) inlX0 (by decide) hf_X6_39 rfl spX_X0 rfl dX6_begin_34 (fun o13 _ => ?_)
  refine z_puti X hK (N := 15) (ci := 6) (k := 7) rfl (by decide) inlX6 tyX6 tyX6_ok nmX6 (by decide) hf_X6_42 rfl rfl spX_X6 rfl (by decide +kernel) dX6_begin_37 (fun o14 st15 _ => ?_)
  refine z_aload_n X (q := 0) dX6_begin_40 rfl rfl ?_
  refine z_iload_n X (q := 2) dX6_begin_41 rfl rfl ?_
  refine z_puti X hK (N := 15) (ci := 6) (k := 8) rfl (by decide) inlX6 tyX6 tyX6_ok nmX6 (by decide) hf_X6_43 rfl rfl spX_X6 rfl (by decide +kernel) dX6_begin_42 (fun o16 st17 _ => ?_)
  refine z_aload_n X (q := 0) dX6_begin_45 rfl rfl ?_
  refine z_iload_n X (q := 3) dX6_begin_46 rfl rfl ?_
  refine z_puti X hK (N := 15) (ci := 6) (k := 9) rfl (by decide) inlX6 tyX6 tyX6_ok nmX6 (by decide) hf_X6_46 rfl rfl spX_X6 rfl (by decide +kernel) dX6_begin_47 (fun o18 st19 _ => ?_)
  refine z_aload_n X (q := 0) dX6_begin_50 rfl rfl ?_
  refine z_aload X (q := 4) dX6_begin_51 rfl ?_
  refine z_putr X hK (N := 15) (ci := 6) (k := 2) rfl (by decide) inlX6 tyX6 tyX6_ok nmX6 (by decide) hf_X6_49 rfl rfl spX_X6 rfl (ty := tyX6 2) (by decide +kernel) (fun r => by cases r <;> exact ⟨rfl, rfl⟩) dX6_begin_53 (fun o20 st21 _ => ?_)
  refine z_aload_n X (q := 0) dX6_begin_56 rfl rfl ?_
  refine z_iconst X (v := (-1 : Int32)) dX6_begin_57 (by decide) ?_
  refine z_puti X hK (N := 15) (ci := 6) (k := 10) rfl (by decide) inlX6 tyX6 tyX6_ok nmX6 (by decide) hf_X6_53 rfl rfl spX_X6 rfl (by decide +kernel) dX6_begin_58 (fun o22 st23 _ => ?_)
  refine z_aload_n X (q := 0) dX6_begin_61 rfl rfl ?_
  refine z_iconst X (v := (0 : Int32)) dX6_begin_62 (by decide) ?_
  refine z_puti X hK (N := 15) (ci := 6) (k := 11) rfl (by decide) inlX6 tyX6 tyX6_ok nmX6 (by decide) hf_X6_56 rfl rfl spX_X6 rfl (by decide +kernel) dX6_begin_63 (fun o24 st25 _ => ?_)
  refine z_aload_n X (q := 0) dX6_begin_66 rfl rfl ?_
  refine z_iconst X (v := (0 : Int32)) dX6_begin_67 (by decide) ?_
  refine z_puti X hK (N := 15) (ci := 6) (k := 12) rfl (by decide) inlX6 tyX6 tyX6_ok nmX6 (by decide) hf_X6_59 rfl rfl spX_X6 rfl (by decide +kernel) dX6_begin_68 (fun o26 st27 _ => ?_)
  refine z_aload_n X (q := 0) dX6_begin_71 rfl rfl ?_
  refine z_iconst X (v := (0 : Int32)) dX6_begin_72 (by decide) ?_
  refine z_puti X hK (N := 15) (ci := 6) (k := 13) rfl (by decide) inlX6 tyX6 tyX6_ok nmX6 (by decide) hf_X6_62 rfl rfl spX_X6 rfl (by decide +kernel) dX6_begin_73 (fun o28 st29 _ => ?_)
  refine z_aload_n X (q := 0) dX6_begin_76 rfl rfl ?_
  refine z_iconst X (v := (0 : Int32)) dX6_begin_77 (by decide) ?_
  refine z_puti X hK (N := 15) (ci := 6) (k := 14) rfl (by decide) inlX6 tyX6 tyX6_ok nmX6 (by decide) hf_X6_65 rfl rfl spX_X6 rfl (by decide +kernel) dX6_begin_78 (fun o30 st31 _ => ?_)
  subst hQ; exact z_vret X hlocks hr dX6_begin_81
abbrev rmX6_leaveTo : Room := { frames := 1, cells := 0, slots := 0, locals := 40 }
def fX6_leaveTo (this : Nat) (a1 : Option Nat) (st : zS) : Option (Unit × zS) :=
  (zok spX st (some this) 6).bind fun o1 => (zok spX st a1 0).bind fun o2 => zlet (zp st o2 2 (st.2.1 o1 5)) fun st3 => (zok spX st3 (some this) 6).bind fun o4 => (zok spX st3 a1 0).bind fun o5 => zlet (zp st3 o5 3 (st3.2.1 o4 6)) fun st6 => (zok spX st6 (some this) 6).bind fun o7 => (zok spX st6 a1 0).bind fun o8 => zlet (zp st6 o8 4 (st6.2.1 o7 7)) fun st9 => some ((), st9)
set_option maxRecDepth 100000 in
set_option maxHeartbeats 4000000 in
theorem kX6_leaveTo (l : Launch) (Z : zZ) (b : Nat) (x : Option Nat) (this : Nat) (a1 : Option Nat) (st : zS) : zC l Z spX b x yX6_leaveTo (.code yX6_leaveTo cX6_leaveTo 2 none) (rmX6_leaveTo) rV [vP (some this), vP a1] st (fX6_leaveTo this a1 st) := by
  refine z_start (own := RX6) rfl (by decide +kernel) (Nat.le_of_ble_eq_true rfl) rfl (fun p e s m args below meth c res Q A X hK hr hlocks hQ => ?_)
  rw [fX6_leaveTo]
  refine z_aload_n X (q := 1) dX6_leaveTo_0 rfl rfl ?_
  refine z_aload_n X (q := 0) dX6_leaveTo_1 rfl rfl ?_
  refine z_geti X hK (N := 15) (ci := 6) (k := 5) rfl (by decide) inlX6 (by decide) hf_X6_34 rfl spX_X6 rfl dX6_leaveTo_2 (fun o1 _ => ?_)
  refine z_puti X hK (N := 5) (ci := 0) (k := 2) rfl (by decide) inlX0 tyX0 tyX0_ok nmX0 (by decide) hf_X6_31 rfl rfl spX_X0 rfl (by decide +kernel) dX6_leaveTo_5 (fun o2 st3 _ => ?_)
  refine z_aload_n X (q := 1) dX6_leaveTo_8 rfl rfl ?_
  refine z_aload_n X (q := 0) dX6_leaveTo_9 rfl rfl ?_
  refine z_geti X hK (N := 15) (ci := 6) (k := 6) rfl (by decide) inlX6 (by decide) hf_X6_38 rfl spX_X6 rfl dX6_leaveTo_10 (fun o4 _ => ?_)
  refine z_puti X hK (N := 5) (ci := 0) (k := 3) rfl (by decide) inlX0 tyX0 tyX0_ok nmX0 (by decide) hf_X6_35 rfl rfl spX_X0 rfl (by decide +kernel) dX6_leaveTo_13 (fun o5 st6 _ => ?_)
  refine z_aload_n X (q := 1) dX6_leaveTo_16 rfl rfl ?_
  refine z_aload_n X (q := 0) dX6_leaveTo_17 rfl rfl ?_
  refine z_geti X hK (N := 15) (ci := 6) (k := 7) rfl (by decide) inlX6 (by decide) hf_X6_42 rfl spX_X6 rfl dX6_leaveTo_18 (fun o7 _ => ?_)
  refine z_puti X hK (N := 5) (ci := 0) (k := 4) rfl (by decide) inlX0 tyX0 tyX0_ok nmX0 (by decide) hf_X6_39 rfl rfl spX_X0 rfl (by decide +kernel) dX6_leaveTo_21 (fun o8 st9 _ => ?_)
  subst hQ; exact z_vret X hlocks hr dX6_leaveTo_24
