theorem zw_48 : Cond.fieldLink RX4 21 "WellGivesOther$Text" "size" "I" ∈ wsL_law := zr_5 _ (by decide +kernel)
theorem hf_X4_21 : Cond.fieldLink RX4 21 "WellGivesOther$Text" "size" "I" ∈ wsL_law := zw_48
theorem zw_49 : Cond.fieldLink RX4 9 "WellGivesOther$Text" "codes" "[I" ∈ wsL_law := zr_4 _ (by decide +kernel)
theorem hf_X4_9 : Cond.fieldLink RX4 9 "WellGivesOther$Text" "codes" "[I" ∈ wsL_law := zw_49
abbrev rmX4_add : Room := { frames := 1, cells := 0, slots := 0, locals := 40 }
def fX4_add (this : Nat) (a1 : Int32) (st : zS) : Option (Unit × zS) :=
  (zok spX st (some this) 4).bind fun o1 => if (st.2.1 o1 3) < 0 then (some ((), st)) else ((zok spX st (some this) 4).bind fun o2 => (zok spX st (some this) 4).bind fun o3 => (zla spX st (st.2.2.2 o3 0)).bind fun o4 => if (st.2.1 o2 3) < (Int32.ofNat (spX o4).2) then ((zok spX st (some this) 4).bind fun o5 => (zok spX st (some this) 4).bind fun o6 => (zok spX st (st.2.2.2 o5 0) 9).bind fun o7 => (zix spX o7 (st.2.1 o6 3)).bind fun j8 => zlet (zp st o7 j8 a1) fun st9 => (zok spX st9 (some this) 4).bind fun o10 => (zok spX st9 (some this) 4).bind fun o11 => zlet (zp st9 o11 3 ((st9.2.1 o10 3) + (1 : Int32))) fun st12 => some ((), st12)) else (some ((), st)))
set_option maxRecDepth 100000 in
set_option maxHeartbeats 4000000 in
theorem kX4_add (l : Launch) (Z : zZ) (b : Nat) (x : Option Nat) (this : Nat) (a1 : Int32) (st : zS) : zC l Z spX b x yX4_add (.code yX4_add cX4_add 2 none) (rmX4_add) rV [vP (some this), vI a1] st (fX4_add this a1 st) := by
  refine z_start (own := RX4) rfl (by decide +kernel) (Nat.le_of_ble_eq_true rfl) rfl (fun p e s m args below meth c res Q A X hK hr hlocks hQ => ?_)
  rw [fX4_add]
  refine z_aload_n X (q := 0) dX4_add_0 rfl rfl ?_
  refine z_geti X hK (N := 6) (ci := 4) (k := 3) rfl (by decide) inlX4 (by decide) hf_X4_21 rfl spX_X4 rfl dX4_add_1 (fun o1 _ => ?_)
  refine z_if_lt X (tgt := 19) dX4_add_4 (by decide) (fun _ => ?_) (fun _ => ?_)
  · subst hQ; exact z_vret X hlocks hr dX4_add_19
  · refine z_aload_n X (q := 0) dX4_add_7 rfl rfl ?_
    refine z_geti X hK (N := 6) (ci := 4) (k := 3) rfl (by decide) inlX4 (by decide) hf_X4_21 rfl spX_X4 rfl dX4_add_8 (fun o2 _ => ?_)
    refine z_aload_n X (q := 0) dX4_add_11 rfl rfl ?_
    refine z_getr X hK (N := 6) (ci := 4) (k := 0) rfl (by decide) inlX4 (by decide) hf_X4_9 rfl spX_X4 rfl dX4_add_12 (fun o3 _ => ?_)
    refine z_alen X hK dX4_add_15 spX_14 (fun o4 _ => ?_)
    refine z_icmp_lt X (tgt := 20) dX4_add_16 (by decide) (fun _ => ?_) (fun _ => ?_)
    · refine z_aload_n X (q := 0) dX4_add_20 rfl rfl ?_
      refine z_getr X hK (N := 6) (ci := 4) (k := 0) rfl (by decide) inlX4 (by decide) hf_X4_9 rfl spX_X4 rfl dX4_add_21 (fun o5 _ => ?_)
      refine z_aload_n X (q := 0) dX4_add_24 rfl rfl ?_
      refine z_geti X hK (N := 6) (ci := 4) (k := 3) rfl (by decide) inlX4 (by decide) hf_X4_21 rfl spX_X4 rfl dX4_add_25 (fun o6 _ => ?_)
      refine z_iload_n X (q := 1) dX4_add_28 rfl rfl ?_
      refine z_iast X hK dX4_add_29 (fun o7 j8 st9 _ _ => ?_)
      refine z_aload_n X (q := 0) dX4_add_30 rfl rfl ?_
      refine z_dup X dX4_add_31 rfl ?_
      refine z_geti X hK (N := 6) (ci := 4) (k := 3) rfl (by decide) inlX4 (by decide) hf_X4_21 rfl spX_X4 rfl dX4_add_32 (fun o10 _ => ?_)
      refine z_iconst X (v := (1 : Int32)) dX4_add_35 (by decide) ?_
      refine z_iadd X dX4_add_36 ?_
      refine z_puti X hK (N := 6) (ci := 4) (k := 3) rfl (by decide) inlX4 tyX4 tyX4_ok nmX4 (by decide) hf_X4_21 rfl rfl spX_X4 rfl (by decide +kernel) dX4_add_37 (fun o11 st12 _ => ?_)
      subst hQ; exact z_vret X hlocks hr dX4_add_40
    · subst hQ; exact z_vret X hlocks hr dX4_add_19
abbrev rmX4_isName : Room := { frames := 1, cells := 0, slots := 0, locals := 40 }
def fX4_isName_j15 (st : zS) : Option (Int32 × zS) :=
  some ((0 : Int32), st)
def fX4_isName (a0 : Int32) (st : zS) : Option (Int32 × zS) :=
  if (-1 : Int32) < a0 then (fX4_isName_j15 st) else (if a0 < (-6 : Int32) then (fX4_isName_j15 st) else (some ((1 : Int32), st)))
set_option maxRecDepth 100000 in
set_option maxHeartbeats 4000000 in
theorem kX4_isName (l : Launch) (Z : zZ) (b : Nat) (x : Option Nat) (a0 : Int32) (st : zS) : zC l Z spX b x yX4_isName (.code yX4_isName cX4_isName 1 (some .boolean)) (rmX4_isName) rI [vI a0] st (fX4_isName a0 st) := by
  refine z_start (own := RX4) rfl (by decide +kernel) (Nat.le_of_ble_eq_true rfl) rfl (fun p e s m args below meth c res Q A X hK hr hlocks hQ => ?_)
  have J15 : ∀ (st : zS), zs p l e (rmX4_isName) s m args below meth c Q Z spX b x A 1 0 0 res (fX4_isName_j15 st) 15 [] [] st := by
    intro  st
    rw [fX4_isName_j15]
    refine z_iconst X (v := (0 : Int32)) dX4_isName_15 (by decide) ?_
    subst hQ; exact z_zretc X hlocks hr (by decide) dX4_isName_16
  rw [fX4_isName]
  refine z_iload_n X (q := 0) dX4_isName_0 rfl rfl ?_
  refine z_iconst X (v := (-1 : Int32)) dX4_isName_1 (by decide) ?_
  refine z_icmp_gt X (tgt := 15) dX4_isName_2 (by decide) (fun _ => ?_) (fun _ => ?_)
  · exact z_sub [] (J15  _) rfl
  · refine z_iload_n X (q := 0) dX4_isName_5 rfl rfl ?_
    refine z_bipush X (v := (-6 : Int32)) dX4_isName_6 (by decide) ?_
    refine z_icmp_lt X (tgt := 15) dX4_isName_8 (by decide) (fun _ => ?_) (fun _ => ?_)
    · exact z_sub [] (J15  _) rfl
    · refine z_iconst X (v := (1 : Int32)) dX4_isName_11 (by decide) ?_
      refine z_goto X (tgt := 16) dX4_isName_12 (by decide) ?_
      subst hQ; exact z_zretc X hlocks hr (by decide) dX4_isName_16
theorem zw_50 : Cond.fieldLink RX4 15 "WellGivesOther$Text" "ends" "[I" ∈ wsL_law := zr_4 _ (by decide +kernel)
theorem hf_X4_15 : Cond.fieldLink RX4 15 "WellGivesOther$Text" "ends" "[I" ∈ wsL_law := zw_50
theorem zw_51 : Cond.fieldLink RX4 25 "WellGivesOther$Text" "parts" "I" ∈ wsL_law := zr_5 _ (by decide +kernel)
theorem hf_X4_25 : Cond.fieldLink RX4 25 "WellGivesOther$Text" "parts" "I" ∈ wsL_law := zw_51
abbrev rmX4_endPart : Room := { frames := 1, cells := 0, slots := 0, locals := 40 }
def fX4_endPart (this : Nat) (st : zS) : Option (Unit × zS) :=
  (zok spX st (some this) 4).bind fun o1 => if (st.2.1 o1 4) < 0 then (some ((), st)) else ((zok spX st (some this) 4).bind fun o2 => (zok spX st (some this) 4).bind fun o3 => (zla spX st (st.2.2.2 o3 1)).bind fun o4 => if (st.2.1 o2 4) < (Int32.ofNat (spX o4).2) then ((zok spX st (some this) 4).bind fun o5 => (zok spX st (some this) 4).bind fun o6 => (zok spX st (some this) 4).bind fun o7 => (zok spX st (st.2.2.2 o5 1) 9).bind fun o8 => (zix spX o8 (st.2.1 o6 4)).bind fun j9 => zlet (zp st o8 j9 (st.2.1 o7 3)) fun st10 => (zok spX st10 (some this) 4).bind fun o11 => (zok spX st10 (some this) 4).bind fun o12 => zlet (zp st10 o12 4 ((st10.2.1 o11 4) + (1 : Int32))) fun st13 => some ((), st13)) else (some ((), st)))
set_option maxRecDepth 100000 in
set_option maxHeartbeats 4000000 in
theorem kX4_endPart (l : Launch) (Z : zZ) (b : Nat) (x : Option Nat) (this : Nat) (st : zS) : zC l Z spX b x yX4_endPart (.code yX4_endPart cX4_endPart 1 none) (rmX4_endPart) rV [vP (some this)] st (fX4_endPart this st) := by
  refine z_start (own := RX4) rfl (by decide +kernel) (Nat.le_of_ble_eq_true rfl) rfl (fun p e s m args below meth c res Q A X hK hr hlocks hQ => ?_)
  rw [fX4_endPart]
  refine z_aload_n X (q := 0) dX4_endPart_0 rfl rfl ?_
  refine z_geti X hK (N := 6) (ci := 4) (k := 4) rfl (by decide) inlX4 (by decide) hf_X4_25 rfl spX_X4 rfl dX4_endPart_1 (fun o1 _ => ?_)
  refine z_if_lt X (tgt := 19) dX4_endPart_4 (by decide) (fun _ => ?_) (fun _ => ?_)
  · subst hQ; exact z_vret X hlocks hr dX4_endPart_19
  · refine z_aload_n X (q := 0) dX4_endPart_7 rfl rfl ?_
    refine z_geti X hK (N := 6) (ci := 4) (k := 4) rfl (by decide) inlX4 (by decide) hf_X4_25 rfl spX_X4 rfl dX4_endPart_8 (fun o2 _ => ?_)
    refine z_aload_n X (q := 0) dX4_endPart_11 rfl rfl ?_
    refine z_getr X hK (N := 6) (ci := 4) (k := 1) rfl (by decide) inlX4 (by decide) hf_X4_15 rfl spX_X4 rfl dX4_endPart_12 (fun o3 _ => ?_)
    refine z_alen X hK dX4_endPart_15 spX_14 (fun o4 _ => ?_)
    refine z_icmp_lt X (tgt := 20) dX4_endPart_16 (by decide) (fun _ => ?_) (fun _ => ?_)
    · refine z_aload_n X (q := 0) dX4_endPart_20 rfl rfl ?_
      refine z_getr X hK (N := 6) (ci := 4) (k := 1) rfl (by decide) inlX4 (by decide) hf_X4_15 rfl spX_X4 rfl dX4_endPart_21 (fun o5 _ => ?_)
      refine z_aload_n X (q := 0) dX4_endPart_24 rfl rfl ?_
      refine z_geti X hK (N := 6) (ci := 4) (k := 4) rfl (by decide) inlX4 (by decide) hf_X4_25 rfl spX_X4 rfl dX4_endPart_25 (fun o6 _ => ?_)
      refine z_aload_n X (q := 0) dX4_endPart_28 rfl rfl ?_
      refine z_geti X hK (N := 6) (ci := 4) (k := 3) rfl (by decide) inlX4 (by decide) hf_X4_21 rfl spX_X4 rfl dX4_endPart_29 (fun o7 _ => ?_)
      refine z_iast X hK dX4_endPart_32 (fun o8 j9 st10 _ _ => ?_)
      refine z_aload_n X (q := 0) dX4_endPart_33 rfl rfl ?_
      refine z_dup X dX4_endPart_34 rfl ?_
      refine z_geti X hK (N := 6) (ci := 4) (k := 4) rfl (by decide) inlX4 (by decide) hf_X4_25 rfl spX_X4 rfl dX4_endPart_35 (fun o11 _ => ?_)
      refine z_iconst X (v := (1 : Int32)) dX4_endPart_38 (by decide) ?_
      refine z_iadd X dX4_endPart_39 ?_
      refine z_puti X hK (N := 6) (ci := 4) (k := 4) rfl (by decide) inlX4 tyX4 tyX4_ok nmX4 (by decide) hf_X4_25 rfl rfl spX_X4 rfl (by decide +kernel) dX4_endPart_40 (fun o12 st13 _ => ?_)
      subst hQ; exact z_vret X hlocks hr dX4_endPart_43
    · subst hQ; exact z_vret X hlocks hr dX4_endPart_19
abbrev rmX4_clear : Room := { frames := 1, cells := 0, slots := 0, locals := 40 }
def fX4_clear (this : Nat) (st : zS) : Option (Unit × zS) :=
  (zok spX st (some this) 4).bind fun o1 => zlet (zp st o1 3 (0 : Int32)) fun st2 => (zok spX st2 (some this) 4).bind fun o3 => zlet (zp st2 o3 4 (0 : Int32)) fun st4 => some ((), st4)
set_option maxRecDepth 100000 in
set_option maxHeartbeats 4000000 in
theorem kX4_clear (l : Launch) (Z : zZ) (b : Nat) (x : Option Nat) (this : Nat) (st : zS) : zC l Z spX b x yX4_clear (.code yX4_clear cX4_clear 1 none) (rmX4_clear) rV [vP (some this)] st (fX4_clear this st) := by
  refine z_start (own := RX4) rfl (by decide +kernel) (Nat.le_of_ble_eq_true rfl) rfl (fun p e s m args below meth c res Q A X hK hr hlocks hQ => ?_)
  rw [fX4_clear]
  refine z_aload_n X (q := 0) dX4_clear_0 rfl rfl ?_
  refine z_iconst X (v := (0 : Int32)) dX4_clear_1 (by decide) ?_
  refine z_puti X hK (N := 6) (ci := 4) (k := 3) rfl (by decide) inlX4 tyX4 tyX4_ok nmX4 (by decide) hf_X4_21 rfl rfl spX_X4 rfl (by decide +kernel) dX4_clear_2 (fun o1 st2 _ => ?_)
  refine z_aload_n X (q := 0) dX4_clear_5 rfl rfl ?_
  refine z_iconst X (v := (0 : Int32)) dX4_clear_6 (by decide) ?_
  refine z_puti X hK (N := 6) (ci := 4) (k := 4) rfl (by decide) inlX4 tyX4 tyX4_ok nmX4 (by decide) hf_X4_25 rfl rfl spX_X4 rfl (by decide +kernel) dX4_clear_7 (fun o3 st4 _ => ?_)
  subst hQ; exact z_vret X hlocks hr dX4_clear_10
theorem zw_52 : Cond.methodLink RX4 28 yX4_clear ∈ wsL_law := zr_4 _ (by decide +kernel)
theorem zw_53 : Cond.instanceMethod yX4_clear ∈ wsL_law := zr_4 _ (by decide +kernel)
theorem zw_54 : Cond.selects RX4 yX4_clear yX4_clear ∈ wsL_law := zr_4 _ (by decide +kernel)
theorem zw_55 : Cond.initialized RX4 ∈ wsL_law := zr_2 _ (by decide +kernel)
theorem zw_56 : Cond.code yX4_clear cX4_clear 1 none ∈ wsL_law := zr_5 _ (by decide +kernel)
theorem hk_X4_28 : ∀ w ∈ ([Cond.methodLink RX4 28 yX4_clear, Cond.instanceMethod yX4_clear, Cond.selects RX4 yX4_clear yX4_clear, Cond.initialized RX4, Cond.code yX4_clear cX4_clear 1 none] : List Cond), w ∈ wsL_law := List.forall_mem_cons.mpr ⟨zw_52, List.forall_mem_cons.mpr ⟨zw_53, List.forall_mem_cons.mpr ⟨zw_54, List.forall_mem_cons.mpr ⟨zw_55, List.forall_mem_cons.mpr ⟨zw_56, fun _ h => absurd h List.not_mem_nil⟩⟩⟩⟩⟩
theorem zw_57 : Cond.methodLink RX4 31 yX4_add ∈ wsL_law := zr_5 _ (by decide +kernel)
theorem zw_58 : Cond.instanceMethod yX4_add ∈ wsL_law := zr_5 _ (by decide +kernel)
theorem zw_59 : Cond.selects RX4 yX4_add yX4_add ∈ wsL_law := zr_5 _ (by decide +kernel)
theorem zw_60 : Cond.code yX4_add cX4_add 2 none ∈ wsL_law := zr_5 _ (by decide +kernel)
theorem hk_X4_31 : ∀ w ∈ ([Cond.methodLink RX4 31 yX4_add, Cond.instanceMethod yX4_add, Cond.selects RX4 yX4_add yX4_add, Cond.initialized RX4, Cond.code yX4_add cX4_add 2 none] : List Cond), w ∈ wsL_law := List.forall_mem_cons.mpr ⟨zw_57, List.forall_mem_cons.mpr ⟨zw_58, List.forall_mem_cons.mpr ⟨zw_59, List.forall_mem_cons.mpr ⟨zw_55, List.forall_mem_cons.mpr ⟨zw_60, fun _ h => absurd h List.not_mem_nil⟩⟩⟩⟩⟩
theorem zw_61 : Cond.methodLink RX4 35 yX4_endPart ∈ wsL_law := zr_5 _ (by decide +kernel)
theorem zw_62 : Cond.instanceMethod yX4_endPart ∈ wsL_law := zr_5 _ (by decide +kernel)
theorem zw_63 : Cond.selects RX4 yX4_endPart yX4_endPart ∈ wsL_law := zr_5 _ (by decide +kernel)
theorem zw_64 : Cond.code yX4_endPart cX4_endPart 1 none ∈ wsL_law := zr_5 _ (by decide +kernel)
theorem hk_X4_35 : ∀ w ∈ ([Cond.methodLink RX4 35 yX4_endPart, Cond.instanceMethod yX4_endPart, Cond.selects RX4 yX4_endPart yX4_endPart, Cond.initialized RX4, Cond.code yX4_endPart cX4_endPart 1 none] : List Cond), w ∈ wsL_law := List.forall_mem_cons.mpr ⟨zw_61, List.forall_mem_cons.mpr ⟨zw_62, List.forall_mem_cons.mpr ⟨zw_63, List.forall_mem_cons.mpr ⟨zw_55, List.forall_mem_cons.mpr ⟨zw_64, fun _ h => absurd h List.not_mem_nil⟩⟩⟩⟩⟩
theorem hd_X4_add : yX4_add.cls = RX4 ∧ yX4_add.cls ≠ "java/lang/invoke/MethodHandle" ∧ yX4_add.cls ≠ "java/lang/invoke/VarHandle" ∧ (parseMethodDescriptor yX4_add.desc).map (fun d => d.parameters.length) = some 1 := by decide +kernel
theorem hd_X4_clear : yX4_clear.cls = RX4 ∧ yX4_clear.cls ≠ "java/lang/invoke/MethodHandle" ∧ yX4_clear.cls ≠ "java/lang/invoke/VarHandle" ∧ (parseMethodDescriptor yX4_clear.desc).map (fun d => d.parameters.length) = some 0 := by decide +kernel
theorem hd_X4_endPart : yX4_endPart.cls = RX4 ∧ yX4_endPart.cls ≠ "java/lang/invoke/MethodHandle" ∧ yX4_endPart.cls ≠ "java/lang/invoke/VarHandle" ∧ (parseMethodDescriptor yX4_endPart.desc).map (fun d => d.parameters.length) = some 0 := by decide +kernel
abbrev rmX4_becomeFirst : Room := { frames := 2, cells := 0, slots := 0, locals := 61 }
def fX4_becomeFirst (this : Nat) (st : zS) : Option (Unit × zS) :=
  (zok spX st (some this) 4).bind fun o14 => (fX4_clear o14 st).bind fun q1 => (zok spX q1.2 (some this) 4).bind fun o13 => (fX4_add o13 (-5 : Int32) q1.2).bind fun q2 => (zok spX q2.2 (some this) 4).bind fun o12 => (fX4_endPart o12 q2.2).bind fun q3 => (zok spX q3.2 (some this) 4).bind fun o11 => (fX4_add o11 (-1 : Int32) q3.2).bind fun q4 => (zok spX q4.2 (some this) 4).bind fun o10 => (fX4_endPart o10 q4.2).bind fun q5 => (zok spX q5.2 (some this) 4).bind fun o9 => (fX4_add o9 (-2 : Int32) q5.2).bind fun q6 => (zok spX q6.2 (some this) 4).bind fun o8 => (fX4_endPart o8 q6.2).bind fun q7 => some ((), q7.2)
set_option maxRecDepth 100000 in
set_option maxHeartbeats 4000000 in
theorem kX4_becomeFirst (l : Launch) (Z : zZ) (b : Nat) (x : Option Nat) (this : Nat) (st : zS) : zC l Z spX b x yX4_becomeFirst (.code yX4_becomeFirst cX4_becomeFirst 1 none) (rmX4_becomeFirst) rV [vP (some this)] st (fX4_becomeFirst this st) := by
  refine z_start (own := RX4) rfl (by decide +kernel) (Nat.le_of_ble_eq_true rfl) rfl (fun p e s m args below meth c res Q A X hK hr hlocks hQ => ?_)
  rw [fX4_becomeFirst]
  refine z_aload_n X (q := 0) dX4_becomeFirst_0 rfl rfl ?_
  refine z_callV X hK (As := []) (ci := 4) rfl (by decide) (fun o => (kX4_clear l Z  b x o _)) hk_X4_28 ⟨rfl, rfl⟩ hd_X4_clear ⟨Nat.le_of_ble_eq_true rfl, Nat.le_of_ble_eq_true rfl⟩ ⟨Nat.le_of_ble_eq_true rfl, Nat.le_of_ble_eq_true rfl⟩ rfl rfl (Nat.le_of_ble_eq_true rfl) dX4_becomeFirst_1 (fun _ q1 _ => ?_)
  refine z_aload_n X (q := 0) dX4_becomeFirst_4 rfl rfl ?_
  refine z_bipush X (v := (-5 : Int32)) dX4_becomeFirst_5 (by decide) ?_
  refine z_callV X hK (As := [vI (-5 : Int32)]) (ci := 4) rfl (by decide) (fun o => (kX4_add l Z  b x o _ _)) hk_X4_31 ⟨rfl, rfl⟩ hd_X4_add ⟨Nat.le_of_ble_eq_true rfl, Nat.le_of_ble_eq_true rfl⟩ ⟨Nat.le_of_ble_eq_true rfl, Nat.le_of_ble_eq_true rfl⟩ rfl rfl (Nat.le_of_ble_eq_true rfl) dX4_becomeFirst_7 (fun _ q2 _ => ?_)
  refine z_aload_n X (q := 0) dX4_becomeFirst_10 rfl rfl ?_
  refine z_callV X hK (As := []) (ci := 4) rfl (by decide) (fun o => (kX4_endPart l Z  b x o _)) hk_X4_35 ⟨rfl, rfl⟩ hd_X4_endPart ⟨Nat.le_of_ble_eq_true rfl, Nat.le_of_ble_eq_true rfl⟩ ⟨Nat.le_of_ble_eq_true rfl, Nat.le_of_ble_eq_true rfl⟩ rfl rfl (Nat.le_of_ble_eq_true rfl) dX4_becomeFirst_11 (fun _ q3 _ => ?_)
  refine z_aload_n X (q := 0) dX4_becomeFirst_14 rfl rfl ?_
  refine z_iconst X (v := (-1 : Int32)) dX4_becomeFirst_15 (by decide) ?_
  refine z_callV X hK (As := [vI (-1 : Int32)]) (ci := 4) rfl (by decide) (fun o => (kX4_add l Z  b x o _ _)) hk_X4_31 ⟨rfl, rfl⟩ hd_X4_add ⟨Nat.le_of_ble_eq_true rfl, Nat.le_of_ble_eq_true rfl⟩ ⟨Nat.le_of_ble_eq_true rfl, Nat.le_of_ble_eq_true rfl⟩ rfl rfl (Nat.le_of_ble_eq_true rfl) dX4_becomeFirst_16 (fun _ q4 _ => ?_)
  refine z_aload_n X (q := 0) dX4_becomeFirst_19 rfl rfl ?_
  refine z_callV X hK (As := []) (ci := 4) rfl (by decide) (fun o => (kX4_endPart l Z  b x o _)) hk_X4_35 ⟨rfl, rfl⟩ hd_X4_endPart ⟨Nat.le_of_ble_eq_true rfl, Nat.le_of_ble_eq_true rfl⟩ ⟨Nat.le_of_ble_eq_true rfl, Nat.le_of_ble_eq_true rfl⟩ rfl rfl (Nat.le_of_ble_eq_true rfl) dX4_becomeFirst_20 (fun _ q5 _ => ?_)
  refine z_aload_n X (q := 0) dX4_becomeFirst_23 rfl rfl ?_
  refine z_bipush X (v := (-2 : Int32)) dX4_becomeFirst_24 (by decide) ?_
  refine z_callV X hK (As := [vI (-2 : Int32)]) (ci := 4) rfl (by decide) (fun o => (kX4_add l Z  b x o _ _)) hk_X4_31 ⟨rfl, rfl⟩ hd_X4_add ⟨Nat.le_of_ble_eq_true rfl, Nat.le_of_ble_eq_true rfl⟩ ⟨Nat.le_of_ble_eq_true rfl, Nat.le_of_ble_eq_true rfl⟩ rfl rfl (Nat.le_of_ble_eq_true rfl) dX4_becomeFirst_26 (fun _ q6 _ => ?_)
  refine z_aload_n X (q := 0) dX4_becomeFirst_29 rfl rfl ?_
  refine z_callV X hK (As := []) (ci := 4) rfl (by decide) (fun o => (kX4_endPart l Z  b x o _)) hk_X4_35 ⟨rfl, rfl⟩ hd_X4_endPart ⟨Nat.le_of_ble_eq_true rfl, Nat.le_of_ble_eq_true rfl⟩ ⟨Nat.le_of_ble_eq_true rfl, Nat.le_of_ble_eq_true rfl⟩ rfl rfl (Nat.le_of_ble_eq_true rfl) dX4_becomeFirst_30 (fun _ q7 _ => ?_)
  subst hQ; exact z_vret X hlocks hr dX4_becomeFirst_33
abbrev rmX4_placeOf : Room := { frames := 1, cells := 0, slots := 0, locals := 40 }
def fX4_placeOf (a0 : Int32) (st : zS) : Option (Int32 × zS) :=
  some (((-1 : Int32) - a0), st)
set_option maxRecDepth 100000 in
set_option maxHeartbeats 4000000 in
theorem kX4_placeOf (l : Launch) (Z : zZ) (b : Nat) (x : Option Nat) (a0 : Int32) (st : zS) : zC l Z spX b x yX4_placeOf (.code yX4_placeOf cX4_placeOf 1 (some .int)) (rmX4_placeOf) rI [vI a0] st (fX4_placeOf a0 st) := by
  refine z_start (own := RX4) rfl (by decide +kernel) (Nat.le_of_ble_eq_true rfl) rfl (fun p e s m args below meth c res Q A X hK hr hlocks hQ => ?_)
  rw [fX4_placeOf]
  refine z_iconst X (v := (-1 : Int32)) dX4_placeOf_0 (by decide) ?_
  refine z_iload_n X (q := 0) dX4_placeOf_1 rfl rfl ?_
  refine z_isub X dX4_placeOf_2 ?_
  subst hQ; exact z_iret X hlocks hr dX4_placeOf_3
theorem zw_65 : Cond.fieldLink RX4 18 "WellGivesOther$Text" "stack" "[I" ∈ wsL_law := zr_4 _ (by decide +kernel)
theorem hf_X4_18 : Cond.fieldLink RX4 18 "WellGivesOther$Text" "stack" "[I" ∈ wsL_law := zw_65
theorem zw_66 : Cond.fieldLink RX4 38 "WellGivesOther$Text" "top" "I" ∈ wsL_law := zr_23 _ (by decide +kernel)
theorem hf_X4_38 : Cond.fieldLink RX4 38 "WellGivesOther$Text" "top" "I" ∈ wsL_law := zw_66
abbrev rmX4_push : Room := { frames := 1, cells := 0, slots := 0, locals := 40 }
def fX4_push (this : Nat) (a1 : Int32) (st : zS) : Option (Unit × zS) :=
  (zok spX st (some this) 4).bind fun o1 => if (st.2.1 o1 5) < 0 then (some ((), st)) else ((zok spX st (some this) 4).bind fun o2 => (zok spX st (some this) 4).bind fun o3 => (zla spX st (st.2.2.2 o3 2)).bind fun o4 => if (st.2.1 o2 5) < (Int32.ofNat (spX o4).2) then ((zok spX st (some this) 4).bind fun o5 => (zok spX st (some this) 4).bind fun o6 => (zok spX st (st.2.2.2 o5 2) 9).bind fun o7 => (zix spX o7 (st.2.1 o6 5)).bind fun j8 => zlet (zp st o7 j8 a1) fun st9 => (zok spX st9 (some this) 4).bind fun o10 => (zok spX st9 (some this) 4).bind fun o11 => zlet (zp st9 o11 5 ((st9.2.1 o10 5) + (1 : Int32))) fun st12 => some ((), st12)) else (some ((), st)))
set_option maxRecDepth 100000 in
set_option maxHeartbeats 4000000 in
theorem kX4_push (l : Launch) (Z : zZ) (b : Nat) (x : Option Nat) (this : Nat) (a1 : Int32) (st : zS) : zC l Z spX b x yX4_push (.code yX4_push cX4_push 2 none) (rmX4_push) rV [vP (some this), vI a1] st (fX4_push this a1 st) := by
  refine z_start (own := RX4) rfl (by decide +kernel) (Nat.le_of_ble_eq_true rfl) rfl (fun p e s m args below meth c res Q A X hK hr hlocks hQ => ?_)
  rw [fX4_push]
  refine z_aload_n X (q := 0) dX4_push_0 rfl rfl ?_
  refine z_geti X hK (N := 6) (ci := 4) (k := 5) rfl (by decide) inlX4 (by decide) hf_X4_38 rfl spX_X4 rfl dX4_push_1 (fun o1 _ => ?_)
  refine z_if_lt X (tgt := 19) dX4_push_4 (by decide) (fun _ => ?_) (fun _ => ?_)
  · subst hQ; exact z_vret X hlocks hr dX4_push_19
  · refine z_aload_n X (q := 0) dX4_push_7 rfl rfl ?_
    refine z_geti X hK (N := 6) (ci := 4) (k := 5) rfl (by decide) inlX4 (by decide) hf_X4_38 rfl spX_X4 rfl dX4_push_8 (fun o2 _ => ?_)
    refine z_aload_n X (q := 0) dX4_push_11 rfl rfl ?_
    refine z_getr X hK (N := 6) (ci := 4) (k := 2) rfl (by decide) inlX4 (by decide) hf_X4_18 rfl spX_X4 rfl dX4_push_12 (fun o3 _ => ?_)
    refine z_alen X hK dX4_push_15 spX_14 (fun o4 _ => ?_)
    refine z_icmp_lt X (tgt := 20) dX4_push_16 (by decide) (fun _ => ?_) (fun _ => ?_)
    · refine z_aload_n X (q := 0) dX4_push_20 rfl rfl ?_
      refine z_getr X hK (N := 6) (ci := 4) (k := 2) rfl (by decide) inlX4 (by decide) hf_X4_18 rfl spX_X4 rfl dX4_push_21 (fun o5 _ => ?_)
      refine z_aload_n X (q := 0) dX4_push_24 rfl rfl ?_
      refine z_geti X hK (N := 6) (ci := 4) (k := 5) rfl (by decide) inlX4 (by decide) hf_X4_38 rfl spX_X4 rfl dX4_push_25 (fun o6 _ => ?_)
      refine z_iload_n X (q := 1) dX4_push_28 rfl rfl ?_
      refine z_iast X hK dX4_push_29 (fun o7 j8 st9 _ _ => ?_)
      refine z_aload_n X (q := 0) dX4_push_30 rfl rfl ?_
      refine z_dup X dX4_push_31 rfl ?_
      refine z_geti X hK (N := 6) (ci := 4) (k := 5) rfl (by decide) inlX4 (by decide) hf_X4_38 rfl spX_X4 rfl dX4_push_32 (fun o10 _ => ?_)
      refine z_iconst X (v := (1 : Int32)) dX4_push_35 (by decide) ?_
      refine z_iadd X dX4_push_36 ?_
      refine z_puti X hK (N := 6) (ci := 4) (k := 5) rfl (by decide) inlX4 tyX4 tyX4_ok nmX4 (by decide) hf_X4_38 rfl rfl spX_X4 rfl (by decide +kernel) dX4_push_37 (fun o11 st12 _ => ?_)
      subst hQ; exact z_vret X hlocks hr dX4_push_40
    · subst hQ; exact z_vret X hlocks hr dX4_push_19
abbrev rmX4_workOnOne : Room := { frames := 1, cells := 0, slots := 0, locals := 40 }
def fX4_workOnOne_j62 (this : Nat) (s0 : Option Nat) (s1 : Int32) (s2 : Int32) (st : zS) : Option (Unit × zS) :=
  (zok spX st s0 9).bind fun o1 => (zix spX o1 s1).bind fun j2 => zlet (zp st o1 j2 s2) fun st3 => some ((), st3)
def fX4_workOnOne (this : Nat) (a1 : Int32) (st : zS) : Option (Unit × zS) :=
  (zok spX st (some this) 4).bind fun o4 => zlet (((st.2.1 o4 5) - (1 : Int32))) fun v5 => if v5 < 0 then (some ((), st)) else ((zok spX st (some this) 4).bind fun o6 => (zla spX st (st.2.2.2 o6 2)).bind fun o7 => if v5 < (Int32.ofNat (spX o7).2) then (if a1 = (-19 : Int32) then ((zok spX st (some this) 4).bind fun o12 => (zok spX st (some this) 4).bind fun o13 => (zok spX st (st.2.2.2 o13 2) 9).bind fun o14 => (zix spX o14 v5).bind fun j15 => (zok spX st (st.2.2.2 o12 2) 9).bind fun o16 => (zix spX o16 v5).bind fun j17 => zlet (zp st o16 j17 (-(st.2.1 o14 j15))) fun st18 => some ((), st18)) else ((zok spX st (some this) 4).bind fun o8 => (zok spX st (some this) 4).bind fun o9 => (zok spX st (st.2.2.2 o9 2) 9).bind fun o10 => (zix spX o10 v5).bind fun j11 => if (st.2.1 o10 j11) = 0 then (fX4_workOnOne_j62 this (st.2.2.2 o8 2) v5 (1 : Int32) st) else (fX4_workOnOne_j62 this (st.2.2.2 o8 2) v5 (0 : Int32) st))) else (some ((), st)))
set_option maxRecDepth 100000 in
set_option maxHeartbeats 4000000 in
theorem kX4_workOnOne (l : Launch) (Z : zZ) (b : Nat) (x : Option Nat) (this : Nat) (a1 : Int32) (st : zS) : zC l Z spX b x yX4_workOnOne (.code yX4_workOnOne cX4_workOnOne 3 none) (rmX4_workOnOne) rV [vP (some this), vI a1] st (fX4_workOnOne this a1 st) := by
  refine z_start (own := RX4) rfl (by decide +kernel) (Nat.le_of_ble_eq_true rfl) rfl (fun p e s m args below meth c res Q A X hK hr hlocks hQ => ?_)
  have J62 : ∀ (s0 : Option Nat) (s1 : Int32) (s2 : Int32) (st : zS), zs p l e (rmX4_workOnOne) s m args below meth c Q Z spX b x A 3 0 0 res (fX4_workOnOne_j62 this s0 s1 s2 st) 62 [] [vI s2, vI s1, vP s0] st := by
    intro s0 s1 s2 st
    rw [fX4_workOnOne_j62]
    refine z_iast X hK dX4_workOnOne_62 (fun o1 j2 st3 _ _ => ?_)
    subst hQ; exact z_vret X hlocks hr dX4_workOnOne_63
  rw [fX4_workOnOne]
  refine z_aload_n X (q := 0) dX4_workOnOne_0 rfl rfl ?_
  refine z_geti X hK (N := 6) (ci := 4) (k := 5) rfl (by decide) inlX4 (by decide) hf_X4_38 rfl spX_X4 rfl dX4_workOnOne_1 (fun o4 _ => ?_)
  refine z_iconst X (v := (1 : Int32)) dX4_workOnOne_4 (by decide) ?_
  refine z_isub X dX4_workOnOne_5 ?_
  refine z_name (fun v5 => ?_)
  refine z_istore_n X dX4_workOnOne_6 rfl (Nat.le_of_ble_eq_true rfl) rfl ?_
  refine z_iload_n X (q := 0) dX4_workOnOne_7 rfl rfl ?_
  refine z_if_lt X (tgt := 20) dX4_workOnOne_8 (by decide) (fun _ => ?_) (fun _ => ?_)
  · subst hQ; exact z_vret X hlocks hr dX4_workOnOne_20
  · refine z_iload_n X (q := 0) dX4_workOnOne_11 rfl rfl ?_
    refine z_aload_n X (q := 1) dX4_workOnOne_12 rfl rfl ?_
    refine z_getr X hK (N := 6) (ci := 4) (k := 2) rfl (by decide) inlX4 (by decide) hf_X4_18 rfl spX_X4 rfl dX4_workOnOne_13 (fun o6 _ => ?_)
    refine z_alen X hK dX4_workOnOne_16 spX_14 (fun o7 _ => ?_)
    refine z_icmp_lt X (tgt := 21) dX4_workOnOne_17 (by decide) (fun _ => ?_) (fun _ => ?_)
    · refine z_iload_n X (q := 2) dX4_workOnOne_21 rfl rfl ?_
      refine z_bipush X (v := (-19 : Int32)) dX4_workOnOne_22 (by decide) ?_
      refine z_icmp_ne X (tgt := 43) dX4_workOnOne_24 (by decide) (fun _ => ?_) (fun _ => ?_)
      · refine z_aload_n X (q := 1) dX4_workOnOne_43 rfl rfl ?_
        refine z_getr X hK (N := 6) (ci := 4) (k := 2) rfl (by decide) inlX4 (by decide) hf_X4_18 rfl spX_X4 rfl dX4_workOnOne_44 (fun o8 _ => ?_)
        refine z_iload_n X (q := 0) dX4_workOnOne_47 rfl rfl ?_
        refine z_aload_n X (q := 1) dX4_workOnOne_48 rfl rfl ?_
        refine z_getr X hK (N := 6) (ci := 4) (k := 2) rfl (by decide) inlX4 (by decide) hf_X4_18 rfl spX_X4 rfl dX4_workOnOne_49 (fun o9 _ => ?_)
        refine z_iload_n X (q := 0) dX4_workOnOne_52 rfl rfl ?_
        refine z_iald X hK dX4_workOnOne_53 (fun o10 j11 _ _ => ?_)
        refine z_if_ne X (tgt := 61) dX4_workOnOne_54 (by decide) (fun _ => ?_) (fun _ => ?_)
        · refine z_iconst X (v := (0 : Int32)) dX4_workOnOne_61 (by decide) ?_
          exact z_sub [] (J62 _ _ _ _) rfl
        · refine z_iconst X (v := (1 : Int32)) dX4_workOnOne_57 (by decide) ?_
          refine z_goto X (tgt := 62) dX4_workOnOne_58 (by decide) ?_
          exact z_sub [] (J62 _ _ _ _) rfl
      · refine z_aload_n X (q := 1) dX4_workOnOne_27 rfl rfl ?_
        refine z_getr X hK (N := 6) (ci := 4) (k := 2) rfl (by decide) inlX4 (by decide) hf_X4_18 rfl spX_X4 rfl dX4_workOnOne_28 (fun o12 _ => ?_)
        refine z_iload_n X (q := 0) dX4_workOnOne_31 rfl rfl ?_
        refine z_aload_n X (q := 1) dX4_workOnOne_32 rfl rfl ?_
        refine z_getr X hK (N := 6) (ci := 4) (k := 2) rfl (by decide) inlX4 (by decide) hf_X4_18 rfl spX_X4 rfl dX4_workOnOne_33 (fun o13 _ => ?_)
        refine z_iload_n X (q := 0) dX4_workOnOne_36 rfl rfl ?_
        refine z_iald X hK dX4_workOnOne_37 (fun o14 j15 _ _ => ?_)
        refine z_ineg X dX4_workOnOne_38 ?_
        refine z_iast X hK dX4_workOnOne_39 (fun o16 j17 st18 _ _ => ?_)
        refine z_goto X (tgt := 63) dX4_workOnOne_40 (by decide) ?_
        subst hQ; exact z_vret X hlocks hr dX4_workOnOne_63
    · subst hQ; exact z_vret X hlocks hr dX4_workOnOne_20
abbrev rmX4_workOnTwo : Room := { frames := 1, cells := 0, slots := 0, locals := 40 }
def fX4_workOnTwo_j219 (this : Nat) (s0 : Option Nat) (s1 : Int32) (s2 : Int32) (st : zS) : Option (Unit × zS) :=
  (zok spX st s0 9).bind fun o1 => (zix spX o1 s1).bind fun j2 => zlet (zp st o1 j2 s2) fun st3 => some ((), st3)
def fX4_workOnTwo_j214 (this : Nat) (s0 : Option Nat) (s1 : Int32) (st : zS) : Option (Unit × zS) :=
  fX4_workOnTwo_j219 this s0 s1 (1 : Int32) st
def fX4_workOnTwo_j194 (this : Nat) (s0 : Option Nat) (s1 : Int32) (s2 : Int32) (st : zS) : Option (Unit × zS) :=
  (zok spX st s0 9).bind fun o4 => (zix spX o4 s1).bind fun j5 => zlet (zp st o4 j5 s2) fun st6 => some ((), st6)
def fX4_workOnTwo_j193 (this : Nat) (s0 : Option Nat) (s1 : Int32) (st : zS) : Option (Unit × zS) :=
  fX4_workOnTwo_j194 this s0 s1 (0 : Int32) st
def fX4_workOnTwo_j169 (this : Nat) (s0 : Option Nat) (s1 : Int32) (s2 : Int32) (st : zS) : Option (Unit × zS) :=
  (zok spX st s0 9).bind fun o7 => (zix spX o7 s1).bind fun j8 => zlet (zp st o7 j8 s2) fun st9 => some ((), st9)
def fX4_workOnTwo_j147 (this : Nat) (s0 : Option Nat) (s1 : Int32) (s2 : Int32) (st : zS) : Option (Unit × zS) :=
  (zok spX st s0 9).bind fun o10 => (zix spX o10 s1).bind fun j11 => zlet (zp st o10 j11 s2) fun st12 => some ((), st12)
def fX4_workOnTwo (this : Nat) (a1 : Int32) (st : zS) : Option (Unit × zS) :=
  (zok spX st (some this) 4).bind fun o13 => zlet (((st.2.1 o13 5) - (1 : Int32))) fun v14 => if v14 < (1 : Int32) then (some ((), st)) else ((zok spX st (some this) 4).bind fun o15 => (zla spX st (st.2.2.2 o15 2)).bind fun o16 => if v14 < (Int32.ofNat (spX o16).2) then ((zok spX st (some this) 4).bind fun o17 => (zok spX st (st.2.2.2 o17 2) 9).bind fun o18 => (zix spX o18 (v14 - (1 : Int32))).bind fun j19 => zlet ((st.2.1 o18 j19)) fun v20 => (zok spX st (some this) 4).bind fun o21 => (zok spX st (st.2.2.2 o21 2) 9).bind fun o22 => (zix spX o22 v14).bind fun j23 => zlet ((st.2.1 o22 j23)) fun v24 => (zok spX st (some this) 4).bind fun o25 => zlet (zp st o25 5 v14) fun st26 => if a1 = (-16 : Int32) then ((zok spX st26 (some this) 4).bind fun o28 => if v20 = 0 then (fX4_workOnTwo_j193 this (st26.2.2.2 o28 2) (v14 - (1 : Int32)) st26) else (if v24 = 0 then (fX4_workOnTwo_j193 this (st26.2.2.2 o28 2) (v14 - (1 : Int32)) st26) else (fX4_workOnTwo_j194 this (st26.2.2.2 o28 2) (v14 - (1 : Int32)) (1 : Int32) st26))) else (if a1 = (-15 : Int32) then ((zok spX st26 (some this) 4).bind fun o30 => if v20 = v24 then (fX4_workOnTwo_j169 this (st26.2.2.2 o30 2) (v14 - (1 : Int32)) (1 : Int32) st26) else (fX4_workOnTwo_j169 this (st26.2.2.2 o30 2) (v14 - (1 : Int32)) (0 : Int32) st26)) else (if a1 = (-14 : Int32) then ((zok spX st26 (some this) 4).bind fun o32 => if v24 ≤ v20 then (fX4_workOnTwo_j147 this (st26.2.2.2 o32 2) (v14 - (1 : Int32)) (0 : Int32) st26) else (fX4_workOnTwo_j147 this (st26.2.2.2 o32 2) (v14 - (1 : Int32)) (1 : Int32) st26)) else (if a1 = (-13 : Int32) then ((zok spX st26 (some this) 4).bind fun o34 => (zok spX st26 (st26.2.2.2 o34 2) 9).bind fun o35 => (zix spX o35 (v14 - (1 : Int32))).bind fun j36 => zlet (zp st26 o35 j36 (v20 * v24)) fun st37 => some ((), st37)) else (if a1 = (-12 : Int32) then ((zok spX st26 (some this) 4).bind fun o39 => (zok spX st26 (st26.2.2.2 o39 2) 9).bind fun o40 => (zix spX o40 (v14 - (1 : Int32))).bind fun j41 => zlet (zp st26 o40 j41 (v20 - v24)) fun st42 => some ((), st42)) else (if a1 = (-11 : Int32) then ((zok spX st26 (some this) 4).bind fun o44 => (zok spX st26 (st26.2.2.2 o44 2) 9).bind fun o45 => (zix spX o45 (v14 - (1 : Int32))).bind fun j46 => zlet (zp st26 o45 j46 (v20 + v24)) fun st47 => some ((), st47)) else ((zok spX st26 (some this) 4).bind fun o48 => if v20 = 0 then (if v24 = 0 then (fX4_workOnTwo_j219 this (st26.2.2.2 o48 2) (v14 - (1 : Int32)) (0 : Int32) st26) else (fX4_workOnTwo_j214 this (st26.2.2.2 o48 2) (v14 - (1 : Int32)) st26)) else (fX4_workOnTwo_j214 this (st26.2.2.2 o48 2) (v14 - (1 : Int32)) st26)))))))) else (some ((), st)))
set_option maxRecDepth 100000 in
set_option maxHeartbeats 4000000 in
theorem kX4_workOnTwo (l : Launch) (Z : zZ) (b : Nat) (x : Option Nat) (this : Nat) (a1 : Int32) (st : zS) : zC l Z spX b x yX4_workOnTwo (.code yX4_workOnTwo cX4_workOnTwo 5 none) (rmX4_workOnTwo) rV [vP (some this), vI a1] st (fX4_workOnTwo this a1 st) := by
  refine z_start (own := RX4) rfl (by decide +kernel) (Nat.le_of_ble_eq_true rfl) rfl (fun p e s m args below meth c res Q A X hK hr hlocks hQ => ?_)
  have J219 : ∀ (s0 : Option Nat) (s1 : Int32) (s2 : Int32) (st : zS), zs p l e (rmX4_workOnTwo) s m args below meth c Q Z spX b x A 5 0 0 res (fX4_workOnTwo_j219 this s0 s1 s2 st) 219 [] [vI s2, vI s1, vP s0] st := by
    intro s0 s1 s2 st
    rw [fX4_workOnTwo_j219]
    refine z_iast X hK dX4_workOnTwo_219 (fun o1 j2 st3 _ _ => ?_)
    subst hQ; exact z_vret X hlocks hr dX4_workOnTwo_220
  have J214 : ∀ (s0 : Option Nat) (s1 : Int32) (st : zS), zs p l e (rmX4_workOnTwo) s m args below meth c Q Z spX b x A 5 0 0 res (fX4_workOnTwo_j214 this s0 s1 st) 214 [] [vI s1, vP s0] st := by
    intro s0 s1 st
    rw [fX4_workOnTwo_j214]
    refine z_iconst X (v := (1 : Int32)) dX4_workOnTwo_214 (by decide) ?_
    refine z_goto X (tgt := 219) dX4_workOnTwo_215 (by decide) ?_
    exact z_sub [] (J219 _ _ _ _) rfl
  have J194 : ∀ (s0 : Option Nat) (s1 : Int32) (s2 : Int32) (st : zS), zs p l e (rmX4_workOnTwo) s m args below meth c Q Z spX b x A 5 0 0 res (fX4_workOnTwo_j194 this s0 s1 s2 st) 194 [] [vI s2, vI s1, vP s0] st := by
    intro s0 s1 s2 st
    rw [fX4_workOnTwo_j194]
    refine z_iast X hK dX4_workOnTwo_194 (fun o4 j5 st6 _ _ => ?_)
    refine z_goto X (tgt := 220) dX4_workOnTwo_195 (by decide) ?_
    subst hQ; exact z_vret X hlocks hr dX4_workOnTwo_220
  have J193 : ∀ (s0 : Option Nat) (s1 : Int32) (st : zS), zs p l e (rmX4_workOnTwo) s m args below meth c Q Z spX b x A 5 0 0 res (fX4_workOnTwo_j193 this s0 s1 st) 193 [] [vI s1, vP s0] st := by
    intro s0 s1 st
    rw [fX4_workOnTwo_j193]
    refine z_iconst X (v := (0 : Int32)) dX4_workOnTwo_193 (by decide) ?_
    exact z_sub [] (J194 _ _ _ _) rfl
  have J169 : ∀ (s0 : Option Nat) (s1 : Int32) (s2 : Int32) (st : zS), zs p l e (rmX4_workOnTwo) s m args below meth c Q Z spX b x A 5 0 0 res (fX4_workOnTwo_j169 this s0 s1 s2 st) 169 [] [vI s2, vI s1, vP s0] st := by
    intro s0 s1 s2 st
    rw [fX4_workOnTwo_j169]
    refine z_iast X hK dX4_workOnTwo_169 (fun o7 j8 st9 _ _ => ?_)
    refine z_goto X (tgt := 220) dX4_workOnTwo_170 (by decide) ?_
    subst hQ; exact z_vret X hlocks hr dX4_workOnTwo_220
  have J147 : ∀ (s0 : Option Nat) (s1 : Int32) (s2 : Int32) (st : zS), zs p l e (rmX4_workOnTwo) s m args below meth c Q Z spX b x A 5 0 0 res (fX4_workOnTwo_j147 this s0 s1 s2 st) 147 [] [vI s2, vI s1, vP s0] st := by
    intro s0 s1 s2 st
    rw [fX4_workOnTwo_j147]
    refine z_iast X hK dX4_workOnTwo_147 (fun o10 j11 st12 _ _ => ?_)
    refine z_goto X (tgt := 220) dX4_workOnTwo_148 (by decide) ?_
    subst hQ; exact z_vret X hlocks hr dX4_workOnTwo_220
  rw [fX4_workOnTwo]
  refine z_aload_n X (q := 0) dX4_workOnTwo_0 rfl rfl ?_
  refine z_geti X hK (N := 6) (ci := 4) (k := 5) rfl (by decide) inlX4 (by decide) hf_X4_38 rfl spX_X4 rfl dX4_workOnTwo_1 (fun o13 _ => ?_)
  refine z_iconst X (v := (1 : Int32)) dX4_workOnTwo_4 (by decide) ?_
  refine z_isub X dX4_workOnTwo_5 ?_
  refine z_name (fun v14 => ?_)
  refine z_istore_n X dX4_workOnTwo_6 rfl (Nat.le_of_ble_eq_true rfl) rfl ?_
  refine z_iload_n X (q := 0) dX4_workOnTwo_7 rfl rfl ?_
  refine z_iconst X (v := (1 : Int32)) dX4_workOnTwo_8 (by decide) ?_
  refine z_icmp_lt X (tgt := 21) dX4_workOnTwo_9 (by decide) (fun _ => ?_) (fun _ => ?_)
  · subst hQ; exact z_vret X hlocks hr dX4_workOnTwo_21
  · refine z_iload_n X (q := 0) dX4_workOnTwo_12 rfl rfl ?_
    refine z_aload_n X (q := 1) dX4_workOnTwo_13 rfl rfl ?_
    refine z_getr X hK (N := 6) (ci := 4) (k := 2) rfl (by decide) inlX4 (by decide) hf_X4_18 rfl spX_X4 rfl dX4_workOnTwo_14 (fun o15 _ => ?_)
    refine z_alen X hK dX4_workOnTwo_17 spX_14 (fun o16 _ => ?_)
    refine z_icmp_lt X (tgt := 22) dX4_workOnTwo_18 (by decide) (fun _ => ?_) (fun _ => ?_)
    · refine z_aload_n X (q := 1) dX4_workOnTwo_22 rfl rfl ?_
      refine z_getr X hK (N := 6) (ci := 4) (k := 2) rfl (by decide) inlX4 (by decide) hf_X4_18 rfl spX_X4 rfl dX4_workOnTwo_23 (fun o17 _ => ?_)
      refine z_iload_n X (q := 0) dX4_workOnTwo_26 rfl rfl ?_
      refine z_iconst X (v := (1 : Int32)) dX4_workOnTwo_27 (by decide) ?_
      refine z_isub X dX4_workOnTwo_28 ?_
      refine z_iald X hK dX4_workOnTwo_29 (fun o18 j19 _ _ => ?_)
      refine z_name (fun v20 => ?_)
      refine z_istore_n X dX4_workOnTwo_30 rfl (Nat.le_of_ble_eq_true rfl) rfl ?_
      refine z_aload_n X (q := 2) dX4_workOnTwo_31 rfl rfl ?_
      refine z_getr X hK (N := 6) (ci := 4) (k := 2) rfl (by decide) inlX4 (by decide) hf_X4_18 rfl spX_X4 rfl dX4_workOnTwo_32 (fun o21 _ => ?_)
      refine z_iload_n X (q := 1) dX4_workOnTwo_35 rfl rfl ?_
      refine z_iald X hK dX4_workOnTwo_36 (fun o22 j23 _ _ => ?_)
      refine z_name (fun v24 => ?_)
      refine z_istore X dX4_workOnTwo_37 (Nat.le_of_ble_eq_true rfl) rfl ?_
      refine z_aload_n X (q := 3) dX4_workOnTwo_39 rfl rfl ?_
      refine z_iload_n X (q := 2) dX4_workOnTwo_40 rfl rfl ?_
      refine z_puti X hK (N := 6) (ci := 4) (k := 5) rfl (by decide) inlX4 tyX4 tyX4_ok nmX4 (by decide) hf_X4_38 rfl rfl spX_X4 rfl (by decide +kernel) dX4_workOnTwo_41 (fun o25 st26 _ => ?_)
      refine z_iload_n X (q := 4) dX4_workOnTwo_44 rfl rfl ?_
      refine z_ite (fun h27 => ?_) (fun h27 => ?_)
      · refine z_tabIn X (off := 128) (tgt := 173) dX4_workOnTwo_45 (by rw [h27]; decide) (by rw [h27]; decide) (by rw [h27]; rfl) (by decide) ?_
        refine z_aload_n X (q := 3) dX4_workOnTwo_173 rfl rfl ?_
        refine z_getr X hK (N := 6) (ci := 4) (k := 2) rfl (by decide) inlX4 (by decide) hf_X4_18 rfl spX_X4 rfl dX4_workOnTwo_174 (fun o28 _ => ?_)
        refine z_iload_n X (q := 2) dX4_workOnTwo_177 rfl rfl ?_
        refine z_iconst X (v := (1 : Int32)) dX4_workOnTwo_178 (by decide) ?_
        refine z_isub X dX4_workOnTwo_179 ?_
        refine z_iload_n X (q := 1) dX4_workOnTwo_180 rfl rfl ?_
        refine z_if_eq X (tgt := 193) dX4_workOnTwo_181 (by decide) (fun _ => ?_) (fun _ => ?_)
        · exact z_sub [] (J193 _ _ _) rfl
        · refine z_iload X (q := 0) dX4_workOnTwo_184 rfl ?_
          refine z_if_eq X (tgt := 193) dX4_workOnTwo_186 (by decide) (fun _ => ?_) (fun _ => ?_)
          · exact z_sub [] (J193 _ _ _) rfl
          · refine z_iconst X (v := (1 : Int32)) dX4_workOnTwo_189 (by decide) ?_
            refine z_goto X (tgt := 194) dX4_workOnTwo_190 (by decide) ?_
            exact z_sub [] (J194 _ _ _ _) rfl
      refine z_ite (fun h29 => ?_) (fun h29 => ?_)
      · refine z_tabIn X (off := 106) (tgt := 151) dX4_workOnTwo_45 (by rw [h29]; decide) (by rw [h29]; decide) (by rw [h29]; rfl) (by decide) ?_
        refine z_aload_n X (q := 3) dX4_workOnTwo_151 rfl rfl ?_
        refine z_getr X hK (N := 6) (ci := 4) (k := 2) rfl (by decide) inlX4 (by decide) hf_X4_18 rfl spX_X4 rfl dX4_workOnTwo_152 (fun o30 _ => ?_)
        refine z_iload_n X (q := 2) dX4_workOnTwo_155 rfl rfl ?_
        refine z_iconst X (v := (1 : Int32)) dX4_workOnTwo_156 (by decide) ?_
        refine z_isub X dX4_workOnTwo_157 ?_
        refine z_iload_n X (q := 1) dX4_workOnTwo_158 rfl rfl ?_
        refine z_iload X (q := 0) dX4_workOnTwo_159 rfl ?_
        refine z_icmp_ne X (tgt := 168) dX4_workOnTwo_161 (by decide) (fun _ => ?_) (fun _ => ?_)
        · refine z_iconst X (v := (0 : Int32)) dX4_workOnTwo_168 (by decide) ?_
          exact z_sub [] (J169 _ _ _ _) rfl
        · refine z_iconst X (v := (1 : Int32)) dX4_workOnTwo_164 (by decide) ?_
          refine z_goto X (tgt := 169) dX4_workOnTwo_165 (by decide) ?_
          exact z_sub [] (J169 _ _ _ _) rfl
      refine z_ite (fun h31 => ?_) (fun h31 => ?_)
      · refine z_tabIn X (off := 84) (tgt := 129) dX4_workOnTwo_45 (by rw [h31]; decide) (by rw [h31]; decide) (by rw [h31]; rfl) (by decide) ?_
        refine z_aload_n X (q := 3) dX4_workOnTwo_129 rfl rfl ?_
        refine z_getr X hK (N := 6) (ci := 4) (k := 2) rfl (by decide) inlX4 (by decide) hf_X4_18 rfl spX_X4 rfl dX4_workOnTwo_130 (fun o32 _ => ?_)
        refine z_iload_n X (q := 2) dX4_workOnTwo_133 rfl rfl ?_
        refine z_iconst X (v := (1 : Int32)) dX4_workOnTwo_134 (by decide) ?_
        refine z_isub X dX4_workOnTwo_135 ?_
        refine z_iload_n X (q := 1) dX4_workOnTwo_136 rfl rfl ?_
        refine z_iload X (q := 0) dX4_workOnTwo_137 rfl ?_
        refine z_icmp_ge X (tgt := 146) dX4_workOnTwo_139 (by decide) (fun _ => ?_) (fun _ => ?_)
        · refine z_iconst X (v := (0 : Int32)) dX4_workOnTwo_146 (by decide) ?_
          exact z_sub [] (J147 _ _ _ _) rfl
        · refine z_iconst X (v := (1 : Int32)) dX4_workOnTwo_142 (by decide) ?_
          refine z_goto X (tgt := 147) dX4_workOnTwo_143 (by decide) ?_
          exact z_sub [] (J147 _ _ _ _) rfl
      refine z_ite (fun h33 => ?_) (fun h33 => ?_)
      · refine z_tabIn X (off := 69) (tgt := 114) dX4_workOnTwo_45 (by rw [h33]; decide) (by rw [h33]; decide) (by rw [h33]; rfl) (by decide) ?_
        refine z_aload_n X (q := 3) dX4_workOnTwo_114 rfl rfl ?_
        refine z_getr X hK (N := 6) (ci := 4) (k := 2) rfl (by decide) inlX4 (by decide) hf_X4_18 rfl spX_X4 rfl dX4_workOnTwo_115 (fun o34 _ => ?_)
        refine z_iload_n X (q := 2) dX4_workOnTwo_118 rfl rfl ?_
        refine z_iconst X (v := (1 : Int32)) dX4_workOnTwo_119 (by decide) ?_
        refine z_isub X dX4_workOnTwo_120 ?_
        refine z_iload_n X (q := 1) dX4_workOnTwo_121 rfl rfl ?_
        refine z_iload X (q := 0) dX4_workOnTwo_122 rfl ?_
        refine z_imul X dX4_workOnTwo_124 ?_
        refine z_iast X hK dX4_workOnTwo_125 (fun o35 j36 st37 _ _ => ?_)
        refine z_goto X (tgt := 220) dX4_workOnTwo_126 (by decide) ?_
        subst hQ; exact z_vret X hlocks hr dX4_workOnTwo_220
      refine z_ite (fun h38 => ?_) (fun h38 => ?_)
      · refine z_tabIn X (off := 54) (tgt := 99) dX4_workOnTwo_45 (by rw [h38]; decide) (by rw [h38]; decide) (by rw [h38]; rfl) (by decide) ?_
        refine z_aload_n X (q := 3) dX4_workOnTwo_99 rfl rfl ?_
        refine z_getr X hK (N := 6) (ci := 4) (k := 2) rfl (by decide) inlX4 (by decide) hf_X4_18 rfl spX_X4 rfl dX4_workOnTwo_100 (fun o39 _ => ?_)
        refine z_iload_n X (q := 2) dX4_workOnTwo_103 rfl rfl ?_
        refine z_iconst X (v := (1 : Int32)) dX4_workOnTwo_104 (by decide) ?_
        refine z_isub X dX4_workOnTwo_105 ?_
        refine z_iload_n X (q := 1) dX4_workOnTwo_106 rfl rfl ?_
        refine z_iload X (q := 0) dX4_workOnTwo_107 rfl ?_
        refine z_isub X dX4_workOnTwo_109 ?_
        refine z_iast X hK dX4_workOnTwo_110 (fun o40 j41 st42 _ _ => ?_)
        refine z_goto X (tgt := 220) dX4_workOnTwo_111 (by decide) ?_
        subst hQ; exact z_vret X hlocks hr dX4_workOnTwo_220
      refine z_ite (fun h43 => ?_) (fun h43 => ?_)
      · refine z_tabIn X (off := 39) (tgt := 84) dX4_workOnTwo_45 (by rw [h43]; decide) (by rw [h43]; decide) (by rw [h43]; rfl) (by decide) ?_
        refine z_aload_n X (q := 3) dX4_workOnTwo_84 rfl rfl ?_
        refine z_getr X hK (N := 6) (ci := 4) (k := 2) rfl (by decide) inlX4 (by decide) hf_X4_18 rfl spX_X4 rfl dX4_workOnTwo_85 (fun o44 _ => ?_)
        refine z_iload_n X (q := 2) dX4_workOnTwo_88 rfl rfl ?_
        refine z_iconst X (v := (1 : Int32)) dX4_workOnTwo_89 (by decide) ?_
        refine z_isub X dX4_workOnTwo_90 ?_
        refine z_iload_n X (q := 1) dX4_workOnTwo_91 rfl rfl ?_
        refine z_iload X (q := 0) dX4_workOnTwo_92 rfl ?_
        refine z_iadd X dX4_workOnTwo_94 ?_
        refine z_iast X hK dX4_workOnTwo_95 (fun o45 j46 st47 _ _ => ?_)
        refine z_goto X (tgt := 220) dX4_workOnTwo_96 (by decide) ?_
        subst hQ; exact z_vret X hlocks hr dX4_workOnTwo_220
      refine z_tabOut X (tgt := 198) dX4_workOnTwo_45 (by have := lv_neT (a := -16) h27 (by decide); have := lv_neT (a := -15) h29 (by decide); have := lv_neT (a := -14) h31 (by decide); have := lv_neT (a := -13) h33 (by decide); have := lv_neT (a := -12) h38 (by decide); have := lv_neT (a := -11) h43 (by decide); omega) (by decide) ?_
      refine z_aload_n X (q := 3) dX4_workOnTwo_198 rfl rfl ?_
      refine z_getr X hK (N := 6) (ci := 4) (k := 2) rfl (by decide) inlX4 (by decide) hf_X4_18 rfl spX_X4 rfl dX4_workOnTwo_199 (fun o48 _ => ?_)
      refine z_iload_n X (q := 2) dX4_workOnTwo_202 rfl rfl ?_
      refine z_iconst X (v := (1 : Int32)) dX4_workOnTwo_203 (by decide) ?_
      refine z_isub X dX4_workOnTwo_204 ?_
      refine z_iload_n X (q := 1) dX4_workOnTwo_205 rfl rfl ?_
      refine z_if_ne X (tgt := 214) dX4_workOnTwo_206 (by decide) (fun _ => ?_) (fun _ => ?_)
      · exact z_sub [] (J214 _ _ _) rfl
      · refine z_iload X (q := 0) dX4_workOnTwo_209 rfl ?_
        refine z_if_eq X (tgt := 218) dX4_workOnTwo_211 (by decide) (fun _ => ?_) (fun _ => ?_)
        · refine z_iconst X (v := (0 : Int32)) dX4_workOnTwo_218 (by decide) ?_
          exact z_sub [] (J219 _ _ _ _) rfl
        · exact z_sub [] (J214 _ _ _) rfl
    · subst hQ; exact z_vret X hlocks hr dX4_workOnTwo_21
theorem zw_67 : Cond.methodLink RX4 41 yX4_placeOf ∈ wsL_law := zr_23 _ (by decide +kernel)
theorem zw_68 : Cond.static yX4_placeOf ∈ wsL_law := zr_23 _ (by decide +kernel)
theorem zw_69 : Cond.code yX4_placeOf cX4_placeOf 1 (some .int) ∈ wsL_law := zr_23 _ (by decide +kernel)
theorem hk_X4_41 : ∀ w ∈ ([Cond.methodLink RX4 41 yX4_placeOf, Cond.static yX4_placeOf, Cond.initialized RX4, Cond.code yX4_placeOf cX4_placeOf 1 (some .int)] : List Cond), w ∈ wsL_law := List.forall_mem_cons.mpr ⟨zw_67, List.forall_mem_cons.mpr ⟨zw_68, List.forall_mem_cons.mpr ⟨zw_55, List.forall_mem_cons.mpr ⟨zw_69, fun _ h => absurd h List.not_mem_nil⟩⟩⟩⟩
theorem zw_70 : Cond.methodLink RX4 45 yX4_push ∈ wsL_law := zr_23 _ (by decide +kernel)
theorem zw_71 : Cond.instanceMethod yX4_push ∈ wsL_law := zr_23 _ (by decide +kernel)
theorem zw_72 : Cond.selects RX4 yX4_push yX4_push ∈ wsL_law := zr_23 _ (by decide +kernel)
theorem zw_73 : Cond.code yX4_push cX4_push 2 none ∈ wsL_law := zr_23 _ (by decide +kernel)
theorem hk_X4_45 : ∀ w ∈ ([Cond.methodLink RX4 45 yX4_push, Cond.instanceMethod yX4_push, Cond.selects RX4 yX4_push yX4_push, Cond.initialized RX4, Cond.code yX4_push cX4_push 2 none] : List Cond), w ∈ wsL_law := List.forall_mem_cons.mpr ⟨zw_70, List.forall_mem_cons.mpr ⟨zw_71, List.forall_mem_cons.mpr ⟨zw_72, List.forall_mem_cons.mpr ⟨zw_55, List.forall_mem_cons.mpr ⟨zw_73, fun _ h => absurd h List.not_mem_nil⟩⟩⟩⟩⟩
theorem zw_74 : Cond.methodLink RX4 48 yX4_workOnOne ∈ wsL_law := zr_23 _ (by decide +kernel)
theorem zw_75 : Cond.instanceMethod yX4_workOnOne ∈ wsL_law := zr_23 _ (by decide +kernel)
theorem zw_76 : Cond.selects RX4 yX4_workOnOne yX4_workOnOne ∈ wsL_law := zr_23 _ (by decide +kernel)
theorem zw_77 : Cond.code yX4_workOnOne cX4_workOnOne 3 none ∈ wsL_law := zr_23 _ (by decide +kernel)
theorem hk_X4_48 : ∀ w ∈ ([Cond.methodLink RX4 48 yX4_workOnOne, Cond.instanceMethod yX4_workOnOne, Cond.selects RX4 yX4_workOnOne yX4_workOnOne, Cond.initialized RX4, Cond.code yX4_workOnOne cX4_workOnOne 3 none] : List Cond), w ∈ wsL_law := List.forall_mem_cons.mpr ⟨zw_74, List.forall_mem_cons.mpr ⟨zw_75, List.forall_mem_cons.mpr ⟨zw_76, List.forall_mem_cons.mpr ⟨zw_55, List.forall_mem_cons.mpr ⟨zw_77, fun _ h => absurd h List.not_mem_nil⟩⟩⟩⟩⟩
theorem zw_78 : Cond.methodLink RX4 51 yX4_workOnTwo ∈ wsL_law := zr_23 _ (by decide +kernel)
theorem zw_79 : Cond.instanceMethod yX4_workOnTwo ∈ wsL_law := zr_24 _ (by decide +kernel)
theorem zw_80 : Cond.selects RX4 yX4_workOnTwo yX4_workOnTwo ∈ wsL_law := zr_24 _ (by decide +kernel)
theorem zw_81 : Cond.code yX4_workOnTwo cX4_workOnTwo 5 none ∈ wsL_law := zr_24 _ (by decide +kernel)
theorem hk_X4_51 : ∀ w ∈ ([Cond.methodLink RX4 51 yX4_workOnTwo, Cond.instanceMethod yX4_workOnTwo, Cond.selects RX4 yX4_workOnTwo yX4_workOnTwo, Cond.initialized RX4, Cond.code yX4_workOnTwo cX4_workOnTwo 5 none] : List Cond), w ∈ wsL_law := List.forall_mem_cons.mpr ⟨zw_78, List.forall_mem_cons.mpr ⟨zw_79, List.forall_mem_cons.mpr ⟨zw_80, List.forall_mem_cons.mpr ⟨zw_55, List.forall_mem_cons.mpr ⟨zw_81, fun _ h => absurd h List.not_mem_nil⟩⟩⟩⟩⟩
theorem hd_X4_placeOf : yX4_placeOf.cls = RX4 ∧ yX4_placeOf.cls ≠ "java/lang/invoke/MethodHandle" ∧ yX4_placeOf.cls ≠ "java/lang/invoke/VarHandle" ∧ (parseMethodDescriptor yX4_placeOf.desc).map (fun d => d.parameters.length) = some 1 := by decide +kernel
theorem hd_X4_push : yX4_push.cls = RX4 ∧ yX4_push.cls ≠ "java/lang/invoke/MethodHandle" ∧ yX4_push.cls ≠ "java/lang/invoke/VarHandle" ∧ (parseMethodDescriptor yX4_push.desc).map (fun d => d.parameters.length) = some 1 := by decide +kernel
theorem hd_X4_workOnOne : yX4_workOnOne.cls = RX4 ∧ yX4_workOnOne.cls ≠ "java/lang/invoke/MethodHandle" ∧ yX4_workOnOne.cls ≠ "java/lang/invoke/VarHandle" ∧ (parseMethodDescriptor yX4_workOnOne.desc).map (fun d => d.parameters.length) = some 1 := by decide +kernel
theorem hd_X4_workOnTwo : yX4_workOnTwo.cls = RX4 ∧ yX4_workOnTwo.cls ≠ "java/lang/invoke/MethodHandle" ∧ yX4_workOnTwo.cls ≠ "java/lang/invoke/VarHandle" ∧ (parseMethodDescriptor yX4_workOnTwo.desc).map (fun d => d.parameters.length) = some 1 := by decide +kernel
abbrev rmX4_valueOf : Room := { frames := 2, cells := 0, slots := 0, locals := 64 }
def fX4_valueOf_j182 (this : Nat) (k48 : Int32 → Option Nat → Int32 → zS → Option (Int32 × zS)) (y1 : Int32) (y2 : Option Nat) (y4 : Int32) (st : zS) : Option (Int32 × zS) :=
  k48 y1 y2 (y4 + (1 : Int32)) st
def fX4_valueOf_j157 (this : Nat) (k48 : Int32 → Option Nat → Int32 → zS → Option (Int32 × zS)) (y1 : Int32) (y2 : Option Nat) (y4 : Int32) (st : zS) : Option (Int32 × zS) :=
  (zok spX st (some this) 4).bind fun o1 => (zok spX st (st.2.2.2 o1 0) 9).bind fun o2 => (zix spX o2 y4).bind fun j3 => (zok spX st (some this) 4).bind fun o5 => (fX4_workOnOne o5 (st.2.1 o2 j3) st).bind fun q4 => fX4_valueOf_j182 this k48 y1 y2 y4 q4.2
def fX4_valueOf_j133 (this : Nat) (k48 : Int32 → Option Nat → Int32 → zS → Option (Int32 × zS)) (y1 : Int32) (y2 : Option Nat) (y4 : Int32) (st : zS) : Option (Int32 × zS) :=
  (zok spX st (some this) 4).bind fun o6 => (zok spX st (st.2.2.2 o6 0) 9).bind fun o7 => (zix spX o7 y4).bind fun j8 => if (st.2.1 o7 j8) = (-18 : Int32) then (fX4_valueOf_j157 this k48 y1 y2 y4 st) else ((zok spX st (some this) 4).bind fun o9 => (zok spX st (st.2.2.2 o9 0) 9).bind fun o10 => (zix spX o10 y4).bind fun j11 => if (st.2.1 o10 j11) = (-19 : Int32) then (fX4_valueOf_j157 this k48 y1 y2 y4 st) else ((zok spX st (some this) 4).bind fun o12 => (zok spX st (st.2.2.2 o12 0) 9).bind fun o13 => (zix spX o13 y4).bind fun j14 => (zok spX st (some this) 4).bind fun o16 => (fX4_workOnTwo o16 (st.2.1 o13 j14) st).bind fun q15 => fX4_valueOf_j182 this k48 y1 y2 y4 q15.2))
def fX4_valueOf_j188 (this : Nat) (st : zS) : Option (Int32 × zS) :=
  (zok spX st (some this) 4).bind fun o17 => (zok spX st (st.2.2.2 o17 2) 9).bind fun o18 => (zix spX o18 (0 : Int32)).bind fun j19 => some ((st.2.1 o18 j19), st)
def fX4_valueOf_L48 (this : Nat) : Nat → Int32 → Option Nat → Int32 → zS → Option (Int32 × zS)
  | 0, _, _, _, _ => none
  | n + 1, y1, y2, y4, st => if y4 < 0 then (fX4_valueOf_j188 this st) else ((zok spX st (some this) 4).bind fun o20 => (zok spX st (st.2.2.2 o20 1) 9).bind fun o21 => (zix spX o21 y1).bind fun j22 => if (st.2.1 o21 j22) ≤ y4 then (fX4_valueOf_j188 this st) else ((zok spX st (some this) 4).bind fun o23 => (zla spX st (st.2.2.2 o23 0)).bind fun o24 => if (Int32.ofNat (spX o24).2) ≤ y4 then (fX4_valueOf_j188 this st) else ((zok spX st (some this) 4).bind fun o25 => (zok spX st (st.2.2.2 o25 0) 9).bind fun o26 => (zix spX o26 y4).bind fun j27 => (fX4_placeOf (st.2.1 o26 j27) st).bind fun q28 => zlet (q28.1) fun v29 => (zok spX q28.2 (some this) 4).bind fun o30 => (zok spX q28.2 (q28.2.2.2.2 o30 0) 9).bind fun o31 => (zix spX o31 y4).bind fun j32 => if (q28.2.2.1 o31 j32) < 0 then (if v29 < 0 then (fX4_valueOf_j133 this (fX4_valueOf_L48 this n) y1 y2 y4 q28.2) else ((zla spX q28.2 y2).bind fun o33 => if (Int32.ofNat (spX o33).2) ≤ v29 then (fX4_valueOf_j133 this (fX4_valueOf_L48 this n) y1 y2 y4 q28.2) else ((zok spX q28.2 y2 9).bind fun o34 => (zix spX o34 v29).bind fun j35 => (zok spX q28.2 (some this) 4).bind fun o37 => (fX4_push o37 (q28.2.2.1 o34 j35) q28.2).bind fun q36 => fX4_valueOf_j182 this (fX4_valueOf_L48 this n) y1 y2 y4 q36.2))) else ((zok spX q28.2 (some this) 4).bind fun o38 => (zok spX q28.2 (q28.2.2.2.2 o38 0) 9).bind fun o39 => (zix spX o39 y4).bind fun j40 => (zok spX q28.2 (some this) 4).bind fun o42 => (fX4_push o42 (q28.2.2.1 o39 j40) q28.2).bind fun q41 => fX4_valueOf_j182 this (fX4_valueOf_L48 this n) y1 y2 y4 q41.2))))
def fX4_valueOf_j39 (this : Nat) (y1 : Int32) (y2 : Option Nat) (s0 : Int32) (st : zS) : Option (Int32 × zS) :=
  (zok spX st (some this) 4).bind fun o43 => zlet (zp st o43 5 (0 : Int32)) fun st44 => fX4_valueOf_L48 this zF y1 y2 s0 st44
def fX4_valueOf (this : Nat) (a1 : Int32) (a2 : Option Nat) (st : zS) : Option (Int32 × zS) :=
  if a1 < 0 then (some ((0 : Int32), st)) else ((zok spX st (some this) 4).bind fun o45 => if (st.2.1 o45 4) ≤ a1 then (some ((0 : Int32), st)) else ((zok spX st (some this) 4).bind fun o46 => (zla spX st (st.2.2.2 o46 1)).bind fun o47 => if a1 < (Int32.ofNat (spX o47).2) then (if a1 = 0 then (fX4_valueOf_j39 this a1 a2 (0 : Int32) st) else ((zok spX st (some this) 4).bind fun o48 => (zok spX st (st.2.2.2 o48 1) 9).bind fun o49 => (zix spX o49 (a1 - (1 : Int32))).bind fun j50 => fX4_valueOf_j39 this a1 a2 (st.2.1 o49 j50) st)) else (some ((0 : Int32), st))))
set_option maxRecDepth 100000 in
set_option maxHeartbeats 4000000 in
theorem kX4_valueOf (l : Launch) (Z : zZ) (b : Nat) (x : Option Nat) (this : Nat) (a1 : Int32) (a2 : Option Nat) (st : zS) : zC l Z spX b x yX4_valueOf (.code yX4_valueOf cX4_valueOf 6 (some .int)) (rmX4_valueOf) rI [vP (some this), vI a1, vP a2] st (fX4_valueOf this a1 a2 st) := by
  refine z_start (own := RX4) rfl (by decide +kernel) (Nat.le_of_ble_eq_true rfl) rfl (fun p e s m args below meth c res Q A X hK hr hlocks hQ => ?_)
  have J188 : ∀ (st : zS), zs p l e (rmX4_valueOf) s m args below meth c Q Z spX b x A 6 0 0 res (fX4_valueOf_j188 this st) 188 [(0, vP (some this))] [] st := by
    intro  st
    rw [fX4_valueOf_j188]
    refine z_aload_n X (q := 0) dX4_valueOf_188 rfl rfl ?_
    refine z_getr X hK (N := 6) (ci := 4) (k := 2) rfl (by decide) inlX4 (by decide) hf_X4_18 rfl spX_X4 rfl dX4_valueOf_189 (fun o17 _ => ?_)
    refine z_iconst X (v := (0 : Int32)) dX4_valueOf_192 (by decide) ?_
    refine z_iald X hK dX4_valueOf_193 (fun o18 j19 _ _ => ?_)
    subst hQ; exact z_iret X hlocks hr dX4_valueOf_194
  have J48 : ∀ (n48 : Nat) (y1 : Int32) (y2 : Option Nat) (y4 : Int32) (st : zS), zs p l e (rmX4_valueOf) s m args below meth c Q Z spX b x A 6 0 0 res (fX4_valueOf_L48 this n48 y1 y2 y4 st) 48 [(0, vP (some this)), (1, vI y1), (2, vP y2), (4, vI y4)] [] st := by
    intro n48
    induction n48 with
    | zero => intros; exact z_none
    | succ n48 ih48 =>
      have J182 : ∀ (y1 : Int32) (y2 : Option Nat) (y4 : Int32) (st : zS), zs p l e (rmX4_valueOf) s m args below meth c Q Z spX b x A 6 0 0 res (fX4_valueOf_j182 this (fX4_valueOf_L48 this n48) y1 y2 y4 st) 182 [(0, vP (some this)), (1, vI y1), (2, vP y2), (4, vI y4)] [] st := by
        intro y1 y2 y4 st
        rw [fX4_valueOf_j182]
        refine z_iinc X (q := 3) (y := y4 + (1 : Int32)) dX4_valueOf_182 rfl rfl (Nat.le_of_ble_eq_true rfl) rfl ?_
        refine z_goto X (tgt := 48) dX4_valueOf_185 (by decide) ?_
        exact z_sub [1, 2, 3, 0] (ih48 _ _ _ _) rfl
      have J157 : ∀ (y1 : Int32) (y2 : Option Nat) (y4 : Int32) (st : zS), zs p l e (rmX4_valueOf) s m args below meth c Q Z spX b x A 6 0 0 res (fX4_valueOf_j157 this (fX4_valueOf_L48 this n48) y1 y2 y4 st) 157 [(0, vP (some this)), (1, vI y1), (2, vP y2), (4, vI y4)] [] st := by
        intro y1 y2 y4 st
        rw [fX4_valueOf_j157]
        refine z_aload_n X (q := 0) dX4_valueOf_157 rfl rfl ?_
        refine z_aload_n X (q := 0) dX4_valueOf_158 rfl rfl ?_
        refine z_getr X hK (N := 6) (ci := 4) (k := 0) rfl (by decide) inlX4 (by decide) hf_X4_9 rfl spX_X4 rfl dX4_valueOf_159 (fun o1 _ => ?_)
        refine z_iload X (q := 3) dX4_valueOf_162 rfl ?_
        refine z_iald X hK dX4_valueOf_164 (fun o2 j3 _ _ => ?_)
        refine z_callV X hK (As := [vI (st.2.1 o2 j3)]) (ci := 4) rfl (by decide) (fun o => (kX4_workOnOne l Z  b x o _ _)) hk_X4_48 ⟨rfl, rfl⟩ hd_X4_workOnOne ⟨Nat.le_of_ble_eq_true rfl, Nat.le_of_ble_eq_true rfl⟩ ⟨Nat.le_of_ble_eq_true rfl, Nat.le_of_ble_eq_true rfl⟩ rfl rfl (Nat.le_of_ble_eq_true rfl) dX4_valueOf_165 (fun _ q4 _ => ?_)
        refine z_goto X (tgt := 182) dX4_valueOf_168 (by decide) ?_
        exact z_sub [0, 1, 2, 3] (J182 _ _ _ _) rfl
      have J133 : ∀ (y1 : Int32) (y2 : Option Nat) (y4 : Int32) (st : zS), zs p l e (rmX4_valueOf) s m args below meth c Q Z spX b x A 6 0 0 res (fX4_valueOf_j133 this (fX4_valueOf_L48 this n48) y1 y2 y4 st) 133 [(0, vP (some this)), (1, vI y1), (2, vP y2), (4, vI y4)] [] st := by
        intro y1 y2 y4 st
        rw [fX4_valueOf_j133]
        refine z_aload_n X (q := 0) dX4_valueOf_133 rfl rfl ?_
        refine z_getr X hK (N := 6) (ci := 4) (k := 0) rfl (by decide) inlX4 (by decide) hf_X4_9 rfl spX_X4 rfl dX4_valueOf_134 (fun o6 _ => ?_)
        refine z_iload X (q := 3) dX4_valueOf_137 rfl ?_
        refine z_iald X hK dX4_valueOf_139 (fun o7 j8 _ _ => ?_)
        refine z_bipush X (v := (-18 : Int32)) dX4_valueOf_140 (by decide) ?_
        refine z_icmp_eq X (tgt := 157) dX4_valueOf_142 (by decide) (fun _ => ?_) (fun _ => ?_)
        · exact z_sub [0, 1, 2, 3] (J157 _ _ _ _) rfl
        · refine z_aload_n X (q := 0) dX4_valueOf_145 rfl rfl ?_
          refine z_getr X hK (N := 6) (ci := 4) (k := 0) rfl (by decide) inlX4 (by decide) hf_X4_9 rfl spX_X4 rfl dX4_valueOf_146 (fun o9 _ => ?_)
          refine z_iload X (q := 3) dX4_valueOf_149 rfl ?_
          refine z_iald X hK dX4_valueOf_151 (fun o10 j11 _ _ => ?_)
          refine z_bipush X (v := (-19 : Int32)) dX4_valueOf_152 (by decide) ?_
          refine z_icmp_ne X (tgt := 171) dX4_valueOf_154 (by decide) (fun _ => ?_) (fun _ => ?_)
          · refine z_aload_n X (q := 0) dX4_valueOf_171 rfl rfl ?_
            refine z_aload_n X (q := 0) dX4_valueOf_172 rfl rfl ?_
            refine z_getr X hK (N := 6) (ci := 4) (k := 0) rfl (by decide) inlX4 (by decide) hf_X4_9 rfl spX_X4 rfl dX4_valueOf_173 (fun o12 _ => ?_)
            refine z_iload X (q := 3) dX4_valueOf_176 rfl ?_
            refine z_iald X hK dX4_valueOf_178 (fun o13 j14 _ _ => ?_)
            refine z_callV X hK (As := [vI (st.2.1 o13 j14)]) (ci := 4) rfl (by decide) (fun o => (kX4_workOnTwo l Z  b x o _ _)) hk_X4_51 ⟨rfl, rfl⟩ hd_X4_workOnTwo ⟨Nat.le_of_ble_eq_true rfl, Nat.le_of_ble_eq_true rfl⟩ ⟨Nat.le_of_ble_eq_true rfl, Nat.le_of_ble_eq_true rfl⟩ rfl rfl (Nat.le_of_ble_eq_true rfl) dX4_valueOf_179 (fun _ q15 _ => ?_)
            exact z_sub [0, 1, 2, 3] (J182 _ _ _ _) rfl
          · exact z_sub [0, 1, 2, 3] (J157 _ _ _ _) rfl
      intro y1 y2 y4 st
      rw [fX4_valueOf_L48]
      refine z_iload X (q := 3) dX4_valueOf_48 rfl ?_
      refine z_if_lt X (tgt := 188) dX4_valueOf_50 (by decide) (fun _ => ?_) (fun _ => ?_)
      · exact z_sub [0] (J188  _) rfl
      · refine z_iload X (q := 3) dX4_valueOf_53 rfl ?_
        refine z_aload_n X (q := 0) dX4_valueOf_55 rfl rfl ?_
        refine z_getr X hK (N := 6) (ci := 4) (k := 1) rfl (by decide) inlX4 (by decide) hf_X4_15 rfl spX_X4 rfl dX4_valueOf_56 (fun o20 _ => ?_)
        refine z_iload_n X (q := 1) dX4_valueOf_59 rfl rfl ?_
        refine z_iald X hK dX4_valueOf_60 (fun o21 j22 _ _ => ?_)
        refine z_icmp_ge X (tgt := 188) dX4_valueOf_61 (by decide) (fun _ => ?_) (fun _ => ?_)
        · exact z_sub [0] (J188  _) rfl
        · refine z_iload X (q := 3) dX4_valueOf_64 rfl ?_
          refine z_aload_n X (q := 0) dX4_valueOf_66 rfl rfl ?_
          refine z_getr X hK (N := 6) (ci := 4) (k := 0) rfl (by decide) inlX4 (by decide) hf_X4_9 rfl spX_X4 rfl dX4_valueOf_67 (fun o23 _ => ?_)
          refine z_alen X hK dX4_valueOf_70 spX_14 (fun o24 _ => ?_)
          refine z_icmp_ge X (tgt := 188) dX4_valueOf_71 (by decide) (fun _ => ?_) (fun _ => ?_)
          · exact z_sub [0] (J188  _) rfl
          · refine z_aload_n X (q := 0) dX4_valueOf_74 rfl rfl ?_
            refine z_getr X hK (N := 6) (ci := 4) (k := 0) rfl (by decide) inlX4 (by decide) hf_X4_9 rfl spX_X4 rfl dX4_valueOf_75 (fun o25 _ => ?_)
            refine z_iload X (q := 3) dX4_valueOf_78 rfl ?_
            refine z_iald X hK dX4_valueOf_80 (fun o26 j27 _ _ => ?_)
            refine z_callS X hK (As := [vI (st.2.1 o26 j27)]) (kX4_placeOf l Z  b x _ _) hk_X4_41 ⟨rfl, rfl⟩ hd_X4_placeOf.2 ⟨Nat.le_of_ble_eq_true rfl, Nat.le_of_ble_eq_true rfl⟩ ⟨Nat.le_of_ble_eq_true rfl, Nat.le_of_ble_eq_true rfl⟩ rfl rfl (Nat.le_of_ble_eq_true rfl) dX4_valueOf_81 (fun q28 => ?_)
            refine z_name (fun v29 => ?_)
            refine z_istore X dX4_valueOf_84 (Nat.le_of_ble_eq_true rfl) rfl ?_
            refine z_aload_n X (q := 1) dX4_valueOf_86 rfl rfl ?_
            refine z_getr X hK (N := 6) (ci := 4) (k := 0) rfl (by decide) inlX4 (by decide) hf_X4_9 rfl spX_X4 rfl dX4_valueOf_87 (fun o30 _ => ?_)
            refine z_iload X (q := 4) dX4_valueOf_90 rfl ?_
            refine z_iald X hK dX4_valueOf_92 (fun o31 j32 _ _ => ?_)
            refine z_if_lt X (tgt := 110) dX4_valueOf_93 (by decide) (fun _ => ?_) (fun _ => ?_)
            · refine z_iload X (q := 0) dX4_valueOf_110 rfl ?_
              refine z_if_lt X (tgt := 133) dX4_valueOf_112 (by decide) (fun _ => ?_) (fun _ => ?_)
              · exact z_sub [1, 2, 3, 4] (J133 _ _ _ _) rfl
              · refine z_iload X (q := 0) dX4_valueOf_115 rfl ?_
                refine z_aload_n X (q := 3) dX4_valueOf_117 rfl rfl ?_
                refine z_alen X hK dX4_valueOf_118 spX_14 (fun o33 _ => ?_)
                refine z_icmp_ge X (tgt := 133) dX4_valueOf_119 (by decide) (fun _ => ?_) (fun _ => ?_)
                · exact z_sub [1, 2, 3, 4] (J133 _ _ _ _) rfl
                · refine z_aload_n X (q := 1) dX4_valueOf_122 rfl rfl ?_
                  refine z_aload_n X (q := 3) dX4_valueOf_123 rfl rfl ?_
                  refine z_iload X (q := 0) dX4_valueOf_124 rfl ?_
                  refine z_iald X hK dX4_valueOf_126 (fun o34 j35 _ _ => ?_)
                  refine z_callV X hK (As := [vI (q28.2.2.1 o34 j35)]) (ci := 4) rfl (by decide) (fun o => (kX4_push l Z  b x o _ _)) hk_X4_45 ⟨rfl, rfl⟩ hd_X4_push ⟨Nat.le_of_ble_eq_true rfl, Nat.le_of_ble_eq_true rfl⟩ ⟨Nat.le_of_ble_eq_true rfl, Nat.le_of_ble_eq_true rfl⟩ rfl rfl (Nat.le_of_ble_eq_true rfl) dX4_valueOf_127 (fun _ q36 _ => ?_)
                  refine z_goto X (tgt := 182) dX4_valueOf_130 (by decide) ?_
                  exact z_sub [1, 2, 3, 4] (J182 _ _ _ _) rfl
            · refine z_aload_n X (q := 1) dX4_valueOf_96 rfl rfl ?_
              refine z_aload_n X (q := 1) dX4_valueOf_97 rfl rfl ?_
              refine z_getr X hK (N := 6) (ci := 4) (k := 0) rfl (by decide) inlX4 (by decide) hf_X4_9 rfl spX_X4 rfl dX4_valueOf_98 (fun o38 _ => ?_)
              refine z_iload X (q := 4) dX4_valueOf_101 rfl ?_
              refine z_iald X hK dX4_valueOf_103 (fun o39 j40 _ _ => ?_)
              refine z_callV X hK (As := [vI (q28.2.2.1 o39 j40)]) (ci := 4) rfl (by decide) (fun o => (kX4_push l Z  b x o _ _)) hk_X4_45 ⟨rfl, rfl⟩ hd_X4_push ⟨Nat.le_of_ble_eq_true rfl, Nat.le_of_ble_eq_true rfl⟩ ⟨Nat.le_of_ble_eq_true rfl, Nat.le_of_ble_eq_true rfl⟩ rfl rfl (Nat.le_of_ble_eq_true rfl) dX4_valueOf_104 (fun _ q41 _ => ?_)
              refine z_goto X (tgt := 182) dX4_valueOf_107 (by decide) ?_
              exact z_sub [1, 2, 3, 4] (J182 _ _ _ _) rfl
  have J39 : ∀ (y1 : Int32) (y2 : Option Nat) (s0 : Int32) (st : zS), zs p l e (rmX4_valueOf) s m args below meth c Q Z spX b x A 6 0 0 res (fX4_valueOf_j39 this y1 y2 s0 st) 39 [(0, vP (some this)), (1, vI y1), (2, vP y2)] [vI s0] st := by
    intro y1 y2 s0 st
    rw [fX4_valueOf_j39]
    refine z_istore_n X dX4_valueOf_39 rfl (Nat.le_of_ble_eq_true rfl) rfl ?_
    refine z_aload_n X (q := 1) dX4_valueOf_40 rfl rfl ?_
    refine z_iconst X (v := (0 : Int32)) dX4_valueOf_41 (by decide) ?_
    refine z_puti X hK (N := 6) (ci := 4) (k := 5) rfl (by decide) inlX4 tyX4 tyX4_ok nmX4 (by decide) hf_X4_38 rfl rfl spX_X4 rfl (by decide +kernel) dX4_valueOf_42 (fun o43 st44 _ => ?_)
    refine z_iload_n X (q := 0) dX4_valueOf_45 rfl rfl ?_
    refine z_istore X dX4_valueOf_46 (Nat.le_of_ble_eq_true rfl) rfl ?_
    exact z_sub [2, 3, 4, 0] (J48 _ _ _ _ _) rfl
  rw [fX4_valueOf]
  refine z_iload_n X (q := 1) dX4_valueOf_0 rfl rfl ?_
  refine z_if_lt X (tgt := 21) dX4_valueOf_1 (by decide) (fun _ => ?_) (fun _ => ?_)
  · refine z_iconst X (v := (0 : Int32)) dX4_valueOf_21 (by decide) ?_
    subst hQ; exact z_iret X hlocks hr dX4_valueOf_22
  · refine z_iload_n X (q := 1) dX4_valueOf_4 rfl rfl ?_
    refine z_aload_n X (q := 0) dX4_valueOf_5 rfl rfl ?_
    refine z_geti X hK (N := 6) (ci := 4) (k := 4) rfl (by decide) inlX4 (by decide) hf_X4_25 rfl spX_X4 rfl dX4_valueOf_6 (fun o45 _ => ?_)
    refine z_icmp_ge X (tgt := 21) dX4_valueOf_9 (by decide) (fun _ => ?_) (fun _ => ?_)
    · refine z_iconst X (v := (0 : Int32)) dX4_valueOf_21 (by decide) ?_
      subst hQ; exact z_iret X hlocks hr dX4_valueOf_22
    · refine z_iload_n X (q := 1) dX4_valueOf_12 rfl rfl ?_
      refine z_aload_n X (q := 0) dX4_valueOf_13 rfl rfl ?_
      refine z_getr X hK (N := 6) (ci := 4) (k := 1) rfl (by decide) inlX4 (by decide) hf_X4_15 rfl spX_X4 rfl dX4_valueOf_14 (fun o46 _ => ?_)
      refine z_alen X hK dX4_valueOf_17 spX_14 (fun o47 _ => ?_)
      refine z_icmp_lt X (tgt := 23) dX4_valueOf_18 (by decide) (fun _ => ?_) (fun _ => ?_)
      · refine z_iload_n X (q := 1) dX4_valueOf_23 rfl rfl ?_
        refine z_if_ne X (tgt := 31) dX4_valueOf_24 (by decide) (fun _ => ?_) (fun _ => ?_)
        · refine z_aload_n X (q := 0) dX4_valueOf_31 rfl rfl ?_
          refine z_getr X hK (N := 6) (ci := 4) (k := 1) rfl (by decide) inlX4 (by decide) hf_X4_15 rfl spX_X4 rfl dX4_valueOf_32 (fun o48 _ => ?_)
          refine z_iload_n X (q := 1) dX4_valueOf_35 rfl rfl ?_
          refine z_iconst X (v := (1 : Int32)) dX4_valueOf_36 (by decide) ?_
          refine z_isub X dX4_valueOf_37 ?_
          refine z_iald X hK dX4_valueOf_38 (fun o49 j50 _ _ => ?_)
          exact z_sub [0, 1, 2] (J39 _ _ _ _) rfl
        · refine z_iconst X (v := (0 : Int32)) dX4_valueOf_27 (by decide) ?_
          refine z_goto X (tgt := 39) dX4_valueOf_28 (by decide) ?_
          exact z_sub [0, 1, 2] (J39 _ _ _ _) rfl
      · refine z_iconst X (v := (0 : Int32)) dX4_valueOf_21 (by decide) ?_
        subst hQ; exact z_iret X hlocks hr dX4_valueOf_22
