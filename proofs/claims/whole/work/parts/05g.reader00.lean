theorem zw_174 : Cond.methodLink RX2 96 yX4_add ∈ wsL_law := zr_33 _ (by decide +kernel)
theorem hk_X2_96 : ∀ w ∈ ([Cond.methodLink RX2 96 yX4_add, Cond.instanceMethod yX4_add, Cond.selects RX4 yX4_add yX4_add, Cond.initialized RX4, Cond.code yX4_add cX4_add 2 none] : List Cond), w ∈ wsL_law := List.forall_mem_cons.mpr ⟨zw_174, List.forall_mem_cons.mpr ⟨zw_29, List.forall_mem_cons.mpr ⟨zw_30, List.forall_mem_cons.mpr ⟨zw_26, List.forall_mem_cons.mpr ⟨zw_31, fun _ h => absurd h List.not_mem_nil⟩⟩⟩⟩⟩
theorem zw_175 : Cond.fieldLink RX2 25 "WellGivesOther$Reader" "text" "LWellGivesOther$Text;" ∈ wsL_law := zr_27 _ (by decide +kernel)
theorem hf_X2_25 : Cond.fieldLink RX2 25 "WellGivesOther$Reader" "text" "LWellGivesOther$Text;" ∈ wsL_law := zw_175
abbrev rmX2_add : Room := { frames := 2, cells := 0, slots := 0, locals := 61 }
def fX2_add (this : Nat) (a1 : Int32) (st : zS) : Option (Unit × zS) :=
  (zok spX st (some this) 2).bind fun o1 => if (st.2.2.2 o1 1) = none then (some ((), st)) else ((zok spX st (some this) 2).bind fun o2 => (zok spX st (st.2.2.2 o2 1) 4).bind fun o4 => (fX4_add o4 a1 st).bind fun q3 => some ((), q3.2))
set_option maxRecDepth 100000 in
set_option maxHeartbeats 4000000 in
theorem kX2_add (l : Launch) (Z : zZ) (b : Nat) (x : Option Nat) (this : Nat) (a1 : Int32) (st : zS) : zC l Z spX b x yX2_add (.code yX2_add cX2_add 2 none) rmX2_add rV [vP (some this), vI a1] st (fX2_add this a1 st) := by
  refine z_start (own := RX2) rfl (by decide +kernel) (Nat.le_of_ble_eq_true rfl) rfl (fun p e s m args below meth c res Q A X hK hr hlocks hQ => ?_)
  rw [fX2_add]
  refine z_aload_n X (q := 0) dX2_add_0 rfl rfl ?_
  refine z_getr X hK (N := 5) (ci := 2) (k := 1) rfl (by decide) inlX2 (by decide) hf_X2_25 rfl spX_X2 rfl dX2_add_1 (fun o1 _ => ?_)
  refine z_ifnull X (tgt := 15) dX2_add_4 (by decide) (fun _ => ?_) (fun _ => ?_)
  · subst hQ; exact z_vret X hlocks hr dX2_add_15
  · refine z_aload_n X (q := 0) dX2_add_7 rfl rfl ?_
    refine z_getr X hK (N := 5) (ci := 2) (k := 1) rfl (by decide) inlX2 (by decide) hf_X2_25 rfl spX_X2 rfl dX2_add_8 (fun o2 _ => ?_)
    refine z_iload_n X (q := 1) dX2_add_11 rfl rfl ?_
    refine z_callV X hK (As := [vI a1]) (ci := 4) rfl (by decide) (fun o => (kX4_add l Z  b x o _ _)) hk_X2_96 ⟨rfl, rfl⟩ hd_X4_add ⟨Nat.le_of_ble_eq_true rfl, Nat.le_of_ble_eq_true rfl⟩ ⟨Nat.le_of_ble_eq_true rfl, Nat.le_of_ble_eq_true rfl⟩ rfl rfl (Nat.le_of_ble_eq_true rfl) dX2_add_12 (fun _ q3 _ => ?_)
    subst hQ; exact z_vret X hlocks hr dX2_add_15
theorem zw_176 : Cond.methodLink RX2 37 yX5_sortOf ∈ wsL_law := zr_31 _ (by decide +kernel)
theorem zw_177 : Cond.instanceMethod yX5_sortOf ∈ wsL_law := zr_31 _ (by decide +kernel)
theorem zw_178 : Cond.selects RX5 yX5_sortOf yX5_sortOf ∈ wsL_law := zr_31 _ (by decide +kernel)
theorem zw_179 : Cond.code yX5_sortOf cX5_sortOf 2 (some .int) ∈ wsL_law := zr_31 _ (by decide +kernel)
theorem hk_X2_37 : ∀ w ∈ ([Cond.methodLink RX2 37 yX5_sortOf, Cond.instanceMethod yX5_sortOf, Cond.selects RX5 yX5_sortOf yX5_sortOf, Cond.initialized RX5, Cond.code yX5_sortOf cX5_sortOf 2 (some .int)] : List Cond), w ∈ wsL_law := List.forall_mem_cons.mpr ⟨zw_176, List.forall_mem_cons.mpr ⟨zw_177, List.forall_mem_cons.mpr ⟨zw_178, List.forall_mem_cons.mpr ⟨zw_61, List.forall_mem_cons.mpr ⟨zw_179, fun _ h => absurd h List.not_mem_nil⟩⟩⟩⟩⟩
theorem hd_X5_sortOf : yX5_sortOf.cls = RX5 ∧ yX5_sortOf.cls ≠ "java/lang/invoke/MethodHandle" ∧ yX5_sortOf.cls ≠ "java/lang/invoke/VarHandle" ∧ (parseMethodDescriptor yX5_sortOf.desc).map (fun d => d.parameters.length) = some 1 := by decide +kernel
theorem zw_180 : Cond.fieldLink RX2 14 "WellGivesOther$Reader" "tokens" "LWellGivesOther$Tokens;" ∈ wsL_law := zr_3 _ (by decide +kernel)
theorem hf_X2_14 : Cond.fieldLink RX2 14 "WellGivesOther$Reader" "tokens" "LWellGivesOther$Tokens;" ∈ wsL_law := zw_180
theorem zw_181 : Cond.fieldLink RX2 33 "WellGivesOther$Reader" "at" "I" ∈ wsL_law := zr_27 _ (by decide +kernel)
theorem hf_X2_33 : Cond.fieldLink RX2 33 "WellGivesOther$Reader" "at" "I" ∈ wsL_law := zw_181
theorem zw_182 : Cond.fieldLink RX2 41 "WellGivesOther$Reader" "token" "I" ∈ wsL_law := zr_28 _ (by decide +kernel)
theorem hf_X2_41 : Cond.fieldLink RX2 41 "WellGivesOther$Reader" "token" "I" ∈ wsL_law := zw_182
abbrev rmX2_advance : Room := { frames := 2, cells := 0, slots := 0, locals := 61 }
def fX2_advance (this : Nat) (st : zS) : Option (Unit × zS) :=
  (zok spX st (some this) 2).bind fun o1 => (zok spX st (some this) 2).bind fun o2 => zlet (zp st o2 2 ((st.2.1 o1 2) + (1 : Int32))) fun st3 => (zok spX st3 (some this) 2).bind fun o4 => (zok spX st3 (some this) 2).bind fun o5 => (zok spX st3 (st3.2.2.2 o4 0) 5).bind fun o9 => (fX5_sortOf o9 (st3.2.1 o5 2) st3).bind fun q6 => (zok spX q6.2 (some this) 2).bind fun o7 => zlet (zp q6.2 o7 3 q6.1) fun st8 => some ((), st8)
set_option maxRecDepth 100000 in
set_option maxHeartbeats 4000000 in
theorem kX2_advance (l : Launch) (Z : zZ) (b : Nat) (x : Option Nat) (this : Nat) (st : zS) : zC l Z spX b x yX2_advance (.code yX2_advance cX2_advance 1 none) rmX2_advance rV [vP (some this)] st (fX2_advance this st) := by
  refine z_start (own := RX2) rfl (by decide +kernel) (Nat.le_of_ble_eq_true rfl) rfl (fun p e s m args below meth c res Q A X hK hr hlocks hQ => ?_)
  rw [fX2_advance]
  refine z_aload_n X (q := 0) dX2_advance_0 rfl rfl ?_
  refine z_dup X dX2_advance_1 rfl ?_
  refine z_geti X hK (N := 5) (ci := 2) (k := 2) rfl (by decide) inlX2 (by decide) hf_X2_33 rfl spX_X2 rfl dX2_advance_2 (fun o1 _ => ?_)
  refine z_iconst X (v := (1 : Int32)) dX2_advance_5 (by decide) ?_
  refine z_iadd X dX2_advance_6 ?_
  refine z_puti X hK (N := 5) (ci := 2) (k := 2) rfl (by decide) inlX2 tyX2 tyX2_ok nmX2 (by decide) hf_X2_33 rfl rfl spX_X2 rfl (by decide +kernel) dX2_advance_7 (fun o2 st3 _ => ?_)
  refine z_aload_n X (q := 0) dX2_advance_10 rfl rfl ?_
  refine z_aload_n X (q := 0) dX2_advance_11 rfl rfl ?_
  refine z_getr X hK (N := 5) (ci := 2) (k := 0) rfl (by decide) inlX2 (by decide) hf_X2_14 rfl spX_X2 rfl dX2_advance_12 (fun o4 _ => ?_)
  refine z_aload_n X (q := 0) dX2_advance_15 rfl rfl ?_
  refine z_geti X hK (N := 5) (ci := 2) (k := 2) rfl (by decide) inlX2 (by decide) hf_X2_33 rfl spX_X2 rfl dX2_advance_16 (fun o5 _ => ?_)
  refine z_callV X hK (As := [vI (st3.2.1 o5 2)]) (ci := 5) rfl (by decide) (fun o => (kX5_sortOf l Z  b x o _ _)) hk_X2_37 ⟨rfl, rfl⟩ hd_X5_sortOf ⟨Nat.le_of_ble_eq_true rfl, Nat.le_of_ble_eq_true rfl⟩ ⟨Nat.le_of_ble_eq_true rfl, Nat.le_of_ble_eq_true rfl⟩ rfl rfl (Nat.le_of_ble_eq_true rfl) dX2_advance_19 (fun _ q6 _ => ?_)
  refine z_puti X hK (N := 5) (ci := 2) (k := 3) rfl (by decide) inlX2 tyX2 tyX2_ok nmX2 (by decide) hf_X2_41 rfl rfl spX_X2 rfl (by decide +kernel) dX2_advance_22 (fun o7 st8 _ => ?_)
  subst hQ; exact z_vret X hlocks hr dX2_advance_25
theorem zw_183 : Cond.methodLink RX2 93 yX5_startOf ∈ wsL_law := zr_32 _ (by decide +kernel)
theorem zw_184 : Cond.instanceMethod yX5_startOf ∈ wsL_law := zr_32 _ (by decide +kernel)
theorem zw_185 : Cond.selects RX5 yX5_startOf yX5_startOf ∈ wsL_law := zr_32 _ (by decide +kernel)
theorem zw_186 : Cond.code yX5_startOf cX5_startOf 2 (some .int) ∈ wsL_law := zr_32 _ (by decide +kernel)
theorem hk_X2_93 : ∀ w ∈ ([Cond.methodLink RX2 93 yX5_startOf, Cond.instanceMethod yX5_startOf, Cond.selects RX5 yX5_startOf yX5_startOf, Cond.initialized RX5, Cond.code yX5_startOf cX5_startOf 2 (some .int)] : List Cond), w ∈ wsL_law := List.forall_mem_cons.mpr ⟨zw_183, List.forall_mem_cons.mpr ⟨zw_184, List.forall_mem_cons.mpr ⟨zw_185, List.forall_mem_cons.mpr ⟨zw_61, List.forall_mem_cons.mpr ⟨zw_186, fun _ h => absurd h List.not_mem_nil⟩⟩⟩⟩⟩
theorem hd_X5_startOf : yX5_startOf.cls = RX5 ∧ yX5_startOf.cls ≠ "java/lang/invoke/MethodHandle" ∧ yX5_startOf.cls ≠ "java/lang/invoke/VarHandle" ∧ (parseMethodDescriptor yX5_startOf.desc).map (fun d => d.parameters.length) = some 1 := by decide +kernel
theorem zw_187 : Cond.fieldLink RX2 44 "WellGivesOther$Reader" "fault" "I" ∈ wsL_law := zr_28 _ (by decide +kernel)
theorem hf_X2_44 : Cond.fieldLink RX2 44 "WellGivesOther$Reader" "fault" "I" ∈ wsL_law := zw_187
abbrev rmX2_fail : Room := { frames := 2, cells := 0, slots := 0, locals := 61 }
def fX2_fail (this : Nat) (st : zS) : Option (Unit × zS) :=
  (zok spX st (some this) 2).bind fun o1 => if (st.2.1 o1 4) = (-1 : Int32) then ((zok spX st (some this) 2).bind fun o4 => (zok spX st (some this) 2).bind fun o5 => (zok spX st (st.2.2.2 o4 0) 5).bind fun o11 => (fX5_startOf o11 (st.2.1 o5 2) st).bind fun q6 => (zok spX q6.2 (some this) 2).bind fun o7 => zlet (zp q6.2 o7 4 q6.1) fun st8 => (zok spX st8 (some this) 2).bind fun o9 => zlet (zp st8 o9 3 (9 : Int32)) fun st10 => some ((), st10)) else ((zok spX st (some this) 2).bind fun o2 => zlet (zp st o2 3 (9 : Int32)) fun st3 => some ((), st3))
set_option maxRecDepth 100000 in
set_option maxHeartbeats 4000000 in
theorem kX2_fail (l : Launch) (Z : zZ) (b : Nat) (x : Option Nat) (this : Nat) (st : zS) : zC l Z spX b x yX2_fail (.code yX2_fail cX2_fail 1 none) rmX2_fail rV [vP (some this)] st (fX2_fail this st) := by
  refine z_start (own := RX2) rfl (by decide +kernel) (Nat.le_of_ble_eq_true rfl) rfl (fun p e s m args below meth c res Q A X hK hr hlocks hQ => ?_)
  rw [fX2_fail]
  refine z_aload_n X (q := 0) dX2_fail_0 rfl rfl ?_
  refine z_geti X hK (N := 5) (ci := 2) (k := 4) rfl (by decide) inlX2 (by decide) hf_X2_44 rfl spX_X2 rfl dX2_fail_1 (fun o1 _ => ?_)
  refine z_iconst X (v := (-1 : Int32)) dX2_fail_4 (by decide) ?_
  refine z_icmp_ne X (tgt := 23) dX2_fail_5 (by decide) (fun _ => ?_) (fun _ => ?_)
  · refine z_aload_n X (q := 0) dX2_fail_23 rfl rfl ?_
    refine z_bipush X (v := (9 : Int32)) dX2_fail_24 (by decide) ?_
    refine z_puti X hK (N := 5) (ci := 2) (k := 3) rfl (by decide) inlX2 tyX2 tyX2_ok nmX2 (by decide) hf_X2_41 rfl rfl spX_X2 rfl (by decide +kernel) dX2_fail_26 (fun o2 st3 _ => ?_)
    subst hQ; exact z_vret X hlocks hr dX2_fail_29
  · refine z_aload_n X (q := 0) dX2_fail_8 rfl rfl ?_
    refine z_aload_n X (q := 0) dX2_fail_9 rfl rfl ?_
    refine z_getr X hK (N := 5) (ci := 2) (k := 0) rfl (by decide) inlX2 (by decide) hf_X2_14 rfl spX_X2 rfl dX2_fail_10 (fun o4 _ => ?_)
    refine z_aload_n X (q := 0) dX2_fail_13 rfl rfl ?_
    refine z_geti X hK (N := 5) (ci := 2) (k := 2) rfl (by decide) inlX2 (by decide) hf_X2_33 rfl spX_X2 rfl dX2_fail_14 (fun o5 _ => ?_)
    refine z_callV X hK (As := [vI (st.2.1 o5 2)]) (ci := 5) rfl (by decide) (fun o => (kX5_startOf l Z  b x o _ _)) hk_X2_93 ⟨rfl, rfl⟩ hd_X5_startOf ⟨Nat.le_of_ble_eq_true rfl, Nat.le_of_ble_eq_true rfl⟩ ⟨Nat.le_of_ble_eq_true rfl, Nat.le_of_ble_eq_true rfl⟩ rfl rfl (Nat.le_of_ble_eq_true rfl) dX2_fail_17 (fun _ q6 _ => ?_)
    refine z_puti X hK (N := 5) (ci := 2) (k := 4) rfl (by decide) inlX2 tyX2 tyX2_ok nmX2 (by decide) hf_X2_44 rfl rfl spX_X2 rfl (by decide +kernel) dX2_fail_20 (fun o7 st8 _ => ?_)
    refine z_aload_n X (q := 0) dX2_fail_23 rfl rfl ?_
    refine z_bipush X (v := (9 : Int32)) dX2_fail_24 (by decide) ?_
    refine z_puti X hK (N := 5) (ci := 2) (k := 3) rfl (by decide) inlX2 tyX2 tyX2_ok nmX2 (by decide) hf_X2_41 rfl rfl spX_X2 rfl (by decide +kernel) dX2_fail_26 (fun o9 st10 _ => ?_)
    subst hQ; exact z_vret X hlocks hr dX2_fail_29
theorem zw_188 : Cond.methodLink RX2 50 yX2_fail ∈ wsL_law := zr_32 _ (by decide +kernel)
theorem zw_189 : Cond.instanceMethod yX2_fail ∈ wsL_law := zr_32 _ (by decide +kernel)
theorem zw_190 : Cond.selects RX2 yX2_fail yX2_fail ∈ wsL_law := zr_32 _ (by decide +kernel)
theorem zw_191 : Cond.initialized RX2 ∈ wsL_law := zr_2 _ (by decide +kernel)
theorem zw_192 : Cond.code yX2_fail cX2_fail 1 none ∈ wsL_law := zr_32 _ (by decide +kernel)
theorem hk_X2_50 : ∀ w ∈ ([Cond.methodLink RX2 50 yX2_fail, Cond.instanceMethod yX2_fail, Cond.selects RX2 yX2_fail yX2_fail, Cond.initialized RX2, Cond.code yX2_fail cX2_fail 1 none] : List Cond), w ∈ wsL_law := List.forall_mem_cons.mpr ⟨zw_188, List.forall_mem_cons.mpr ⟨zw_189, List.forall_mem_cons.mpr ⟨zw_190, List.forall_mem_cons.mpr ⟨zw_191, List.forall_mem_cons.mpr ⟨zw_192, fun _ h => absurd h List.not_mem_nil⟩⟩⟩⟩⟩
theorem zw_193 : Cond.methodLink RX2 65 yX2_advance ∈ wsL_law := zr_32 _ (by decide +kernel)
theorem zw_194 : Cond.instanceMethod yX2_advance ∈ wsL_law := zr_32 _ (by decide +kernel)
theorem zw_195 : Cond.selects RX2 yX2_advance yX2_advance ∈ wsL_law := zr_32 _ (by decide +kernel)
theorem zw_196 : Cond.code yX2_advance cX2_advance 1 none ∈ wsL_law := zr_32 _ (by decide +kernel)
theorem hk_X2_65 : ∀ w ∈ ([Cond.methodLink RX2 65 yX2_advance, Cond.instanceMethod yX2_advance, Cond.selects RX2 yX2_advance yX2_advance, Cond.initialized RX2, Cond.code yX2_advance cX2_advance 1 none] : List Cond), w ∈ wsL_law := List.forall_mem_cons.mpr ⟨zw_193, List.forall_mem_cons.mpr ⟨zw_194, List.forall_mem_cons.mpr ⟨zw_195, List.forall_mem_cons.mpr ⟨zw_191, List.forall_mem_cons.mpr ⟨zw_196, fun _ h => absurd h List.not_mem_nil⟩⟩⟩⟩⟩
theorem hd_X2_advance : yX2_advance.cls = RX2 ∧ yX2_advance.cls ≠ "java/lang/invoke/MethodHandle" ∧ yX2_advance.cls ≠ "java/lang/invoke/VarHandle" ∧ (parseMethodDescriptor yX2_advance.desc).map (fun d => d.parameters.length) = some 0 := by decide +kernel
theorem hd_X2_fail : yX2_fail.cls = RX2 ∧ yX2_fail.cls ≠ "java/lang/invoke/MethodHandle" ∧ yX2_fail.cls ≠ "java/lang/invoke/VarHandle" ∧ (parseMethodDescriptor yX2_fail.desc).map (fun d => d.parameters.length) = some 0 := by decide +kernel
abbrev rmX2_expect : Room := { frames := 3, cells := 0, slots := 0, locals := 81 }
def fX2_expect (this : Nat) (a1 : Int32) (st : zS) : Option (Unit × zS) :=
  (zok spX st (some this) 2).bind fun o1 => if (st.2.1 o1 3) = a1 then ((zok spX st (some this) 2).bind fun o5 => (fX2_advance o5 st).bind fun q4 => some ((), q4.2)) else ((zok spX st (some this) 2).bind fun o3 => (fX2_fail o3 st).bind fun q2 => some ((), q2.2))
set_option maxRecDepth 100000 in
set_option maxHeartbeats 4000000 in
theorem kX2_expect (l : Launch) (Z : zZ) (b : Nat) (x : Option Nat) (this : Nat) (a1 : Int32) (st : zS) : zC l Z spX b x yX2_expect (.code yX2_expect cX2_expect 2 none) rmX2_expect rV [vP (some this), vI a1] st (fX2_expect this a1 st) := by
  refine z_start (own := RX2) rfl (by decide +kernel) (Nat.le_of_ble_eq_true rfl) rfl (fun p e s m args below meth c res Q A X hK hr hlocks hQ => ?_)
  rw [fX2_expect]
  refine z_aload_n X (q := 0) dX2_expect_0 rfl rfl ?_
  refine z_geti X hK (N := 5) (ci := 2) (k := 3) rfl (by decide) inlX2 (by decide) hf_X2_41 rfl spX_X2 rfl dX2_expect_1 (fun o1 _ => ?_)
  refine z_iload_n X (q := 1) dX2_expect_4 rfl rfl ?_
  refine z_icmp_ne X (tgt := 15) dX2_expect_5 (by decide) (fun _ => ?_) (fun _ => ?_)
  · refine z_aload_n X (q := 0) dX2_expect_15 rfl rfl ?_
    refine z_callV X hK (As := []) (ci := 2) rfl (by decide) (fun o => (kX2_fail l Z  b x o _)) hk_X2_50 ⟨rfl, rfl⟩ hd_X2_fail ⟨Nat.le_of_ble_eq_true rfl, Nat.le_of_ble_eq_true rfl⟩ ⟨Nat.le_of_ble_eq_true rfl, Nat.le_of_ble_eq_true rfl⟩ rfl rfl (Nat.le_of_ble_eq_true rfl) dX2_expect_16 (fun _ q2 _ => ?_)
    subst hQ; exact z_vret X hlocks hr dX2_expect_19
  · refine z_aload_n X (q := 0) dX2_expect_8 rfl rfl ?_
    refine z_callV X hK (As := []) (ci := 2) rfl (by decide) (fun o => (kX2_advance l Z  b x o _)) hk_X2_65 ⟨rfl, rfl⟩ hd_X2_advance ⟨Nat.le_of_ble_eq_true rfl, Nat.le_of_ble_eq_true rfl⟩ ⟨Nat.le_of_ble_eq_true rfl, Nat.le_of_ble_eq_true rfl⟩ rfl rfl (Nat.le_of_ble_eq_true rfl) dX2_expect_9 (fun _ q4 _ => ?_)
    refine z_goto X (tgt := 19) dX2_expect_12 (by decide) ?_
    subst hQ; exact z_vret X hlocks hr dX2_expect_19
abbrev rmX2_mayOpen : Room := { frames := 3, cells := 0, slots := 0, locals := 81 }
def fX2_mayOpen (this : Nat) (a1 : Int32) (st : zS) : Option (Int32 × zS) :=
  if (5 : Int32) ≤ a1 then ((zok spX st (some this) 2).bind fun o2 => (fX2_fail o2 st).bind fun q1 => some ((0 : Int32), q1.2)) else (some ((1 : Int32), st))
set_option maxRecDepth 100000 in
set_option maxHeartbeats 4000000 in
theorem kX2_mayOpen (l : Launch) (Z : zZ) (b : Nat) (x : Option Nat) (this : Nat) (a1 : Int32) (st : zS) : zC l Z spX b x yX2_mayOpen (.code yX2_mayOpen cX2_mayOpen 2 (some .boolean)) rmX2_mayOpen rI [vP (some this), vI a1] st (fX2_mayOpen this a1 st) := by
  refine z_start (own := RX2) rfl (by decide +kernel) (Nat.le_of_ble_eq_true rfl) rfl (fun p e s m args below meth c res Q A X hK hr hlocks hQ => ?_)
  rw [fX2_mayOpen]
  refine z_iload_n X (q := 1) dX2_mayOpen_0 rfl rfl ?_
  refine z_iconst X (v := (5 : Int32)) dX2_mayOpen_1 (by decide) ?_
  refine z_icmp_ge X (tgt := 7) dX2_mayOpen_2 (by decide) (fun _ => ?_) (fun _ => ?_)
  · refine z_aload_n X (q := 0) dX2_mayOpen_7 rfl rfl ?_
    refine z_callV X hK (As := []) (ci := 2) rfl (by decide) (fun o => (kX2_fail l Z  b x o _)) hk_X2_50 ⟨rfl, rfl⟩ hd_X2_fail ⟨Nat.le_of_ble_eq_true rfl, Nat.le_of_ble_eq_true rfl⟩ ⟨Nat.le_of_ble_eq_true rfl, Nat.le_of_ble_eq_true rfl⟩ rfl rfl (Nat.le_of_ble_eq_true rfl) dX2_mayOpen_8 (fun _ q1 _ => ?_)
    refine z_iconst X (v := (0 : Int32)) dX2_mayOpen_11 (by decide) ?_
    subst hQ; exact z_zretc X hlocks hr (by decide) dX2_mayOpen_12
  · refine z_iconst X (v := (1 : Int32)) dX2_mayOpen_5 (by decide) ?_
    subst hQ; exact z_zretc X hlocks hr (by decide) dX2_mayOpen_6
