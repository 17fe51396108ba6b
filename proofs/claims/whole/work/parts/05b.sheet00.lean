theorem zw_38 : Cond.fieldLink RX3 28 "WellGivesOther$Sheet" "size" "I" ∈ wsL_law := zr_37 _ (by decide +kernel)
theorem hf_X3_28 : Cond.fieldLink RX3 28 "WellGivesOther$Sheet" "size" "I" ∈ wsL_law := zw_38
theorem zw_39 : Cond.fieldLink RX3 9 "WellGivesOther$Sheet" "cells" "[I" ∈ wsL_law := zr_4 _ (by decide +kernel)
theorem hf_X3_9 : Cond.fieldLink RX3 9 "WellGivesOther$Sheet" "cells" "[I" ∈ wsL_law := zw_39
abbrev rmX3_at : Room := { frames := 1, cells := 0, slots := 0, locals := 40 }
def fX3_at_j30 (this : Nat) (st : zS) : Option (Int32 × zS) :=
  some ((0 : Int32), st)
def fX3_at (this : Nat) (a1 : Int32) (st : zS) : Option (Int32 × zS) :=
  if a1 < 0 then (fX3_at_j30 this st) else ((zok spX st (some this) 3).bind fun o1 => if (st.2.1 o1 2) ≤ a1 then (fX3_at_j30 this st) else ((zok spX st (some this) 3).bind fun o2 => (zla spX st (st.2.2.2 o2 0)).bind fun o3 => if (Int32.ofNat (spX o3).2) ≤ a1 then (fX3_at_j30 this st) else ((zok spX st (some this) 3).bind fun o4 => (zok spX st (st.2.2.2 o4 0) 9).bind fun o5 => (zix spX o5 a1).bind fun j6 => some ((st.2.1 o5 j6), st))))
set_option maxRecDepth 100000 in
set_option maxHeartbeats 4000000 in
theorem kX3_at (l : Launch) (Z : zZ) (b : Nat) (x : Option Nat) (this : Nat) (a1 : Int32) (st : zS) : zC l Z spX b x yX3_at (.code yX3_at cX3_at 2 (some .int)) (rmX3_at) rI [vP (some this), vI a1] st (fX3_at this a1 st) := by
  refine z_start (own := RX3) rfl (by decide +kernel) (Nat.le_of_ble_eq_true rfl) rfl (fun p e s m args below meth c res Q A X hK hr hlocks hQ => ?_)
  have J30 : ∀ (st : zS), zs p l e (rmX3_at) s m args below meth c Q Z spX b x A 2 0 0 res (fX3_at_j30 this st) 30 [] [] st := by
    intro  st
    rw [fX3_at_j30]
    refine z_iconst X (v := (0 : Int32)) dX3_at_30 (by decide) ?_
    subst hQ; exact z_iret X hlocks hr dX3_at_31
  rw [fX3_at]
  refine z_iload_n X (q := 1) dX3_at_0 rfl rfl ?_
  refine z_if_lt X (tgt := 30) dX3_at_1 (by decide) (fun _ => ?_) (fun _ => ?_)
  · exact z_sub [] (J30  _) rfl
  · refine z_iload_n X (q := 1) dX3_at_4 rfl rfl ?_
    refine z_aload_n X (q := 0) dX3_at_5 rfl rfl ?_
    refine z_geti X hK (N := 3) (ci := 3) (k := 2) rfl (by decide) inlX3 (by decide) hf_X3_28 rfl spX_X3 rfl dX3_at_6 (fun o1 _ => ?_)
    refine z_icmp_ge X (tgt := 30) dX3_at_9 (by decide) (fun _ => ?_) (fun _ => ?_)
    · exact z_sub [] (J30  _) rfl
    · refine z_iload_n X (q := 1) dX3_at_12 rfl rfl ?_
      refine z_aload_n X (q := 0) dX3_at_13 rfl rfl ?_
      refine z_getr X hK (N := 3) (ci := 3) (k := 0) rfl (by decide) inlX3 (by decide) hf_X3_9 rfl spX_X3 rfl dX3_at_14 (fun o2 _ => ?_)
      refine z_alen X hK dX3_at_17 spX_14 (fun o3 _ => ?_)
      refine z_icmp_ge X (tgt := 30) dX3_at_18 (by decide) (fun _ => ?_) (fun _ => ?_)
      · exact z_sub [] (J30  _) rfl
      · refine z_aload_n X (q := 0) dX3_at_21 rfl rfl ?_
        refine z_getr X hK (N := 3) (ci := 3) (k := 0) rfl (by decide) inlX3 (by decide) hf_X3_9 rfl spX_X3 rfl dX3_at_22 (fun o4 _ => ?_)
        refine z_iload_n X (q := 1) dX3_at_25 rfl rfl ?_
        refine z_iald X hK dX3_at_26 (fun o5 j6 _ _ => ?_)
        refine z_goto X (tgt := 31) dX3_at_27 (by decide) ?_
        subst hQ; exact z_iret X hlocks hr dX3_at_31
theorem zw_40 : Cond.fieldLink RX3 15 "WellGivesOther$Sheet" "sort" "I" ∈ wsL_law := zr_4 _ (by decide +kernel)
theorem hf_X3_15 : Cond.fieldLink RX3 15 "WellGivesOther$Sheet" "sort" "I" ∈ wsL_law := zw_40
theorem zw_41 : Cond.methodLink RX3 19 Lib.Math.min.name ∈ wsL_law := zr_45 _ (by decide +kernel)
theorem zw_42 : Cond.static Lib.Math.min.name ∈ wsL_law := zr_24 _ (by decide +kernel)
theorem zw_43 : Cond.initialized "java/lang/Math" ∈ wsL_law := zr_24 _ (by decide +kernel)
theorem zw_44 : Cond.code Lib.Math.min.name Lib.Math.min.code 2 (some .int) ∈ wsL_law := zr_24 _ (by decide +kernel)
theorem hm_X3_19 : ∀ w ∈ ([Cond.methodLink RX3 19 Lib.Math.min.name, Cond.static Lib.Math.min.name, Cond.initialized "java/lang/Math", Cond.code Lib.Math.min.name Lib.Math.min.code 2 (some .int)] : List Cond), w ∈ wsL_law := List.forall_mem_cons.mpr ⟨zw_41, List.forall_mem_cons.mpr ⟨zw_42, List.forall_mem_cons.mpr ⟨zw_43, List.forall_mem_cons.mpr ⟨zw_44, fun _ h => absurd h List.not_mem_nil⟩⟩⟩⟩
theorem zw_45 : Cond.methodLink RX3 25 Lib.Math.max.name ∈ wsL_law := zr_45 _ (by decide +kernel)
theorem zw_46 : Cond.static Lib.Math.max.name ∈ wsL_law := zr_24 _ (by decide +kernel)
theorem zw_47 : Cond.code Lib.Math.max.name Lib.Math.max.code 2 (some .int) ∈ wsL_law := zr_24 _ (by decide +kernel)
theorem hm_X3_25 : ∀ w ∈ ([Cond.methodLink RX3 25 Lib.Math.max.name, Cond.static Lib.Math.max.name, Cond.initialized "java/lang/Math", Cond.code Lib.Math.max.name Lib.Math.max.code 2 (some .int)] : List Cond), w ∈ wsL_law := List.forall_mem_cons.mpr ⟨zw_45, List.forall_mem_cons.mpr ⟨zw_46, List.forall_mem_cons.mpr ⟨zw_43, List.forall_mem_cons.mpr ⟨zw_47, fun _ h => absurd h List.not_mem_nil⟩⟩⟩⟩
abbrev rmX3_become : Room := { frames := 1, cells := 0, slots := 0, locals := 40 }
def fX3_become_L24 (this : Nat) : Nat → Int32 → zS → Option (Unit × zS)
  | 0, _, _ => none
  | n + 1, y3, st => (zok spX st (some this) 3).bind fun o1 => (zla spX st (st.2.2.2 o1 0)).bind fun o2 => if (Int32.ofNat (spX o2).2) ≤ y3 then (some ((), st)) else ((zok spX st (some this) 3).bind fun o3 => (zok spX st (st.2.2.2 o3 0) 9).bind fun o4 => (zix spX o4 y3).bind fun j5 => zlet (zp st o4 j5 (0 : Int32)) fun st6 => (fX3_become_L24 this n) (y3 + (1 : Int32)) st6)
def fX3_become (this : Nat) (a1 : Int32) (a2 : Int32) (st : zS) : Option (Unit × zS) :=
  (zok spX st (some this) 3).bind fun o7 => zlet (zp st o7 1 a1) fun st8 => (zok spX st8 (some this) 3).bind fun o9 => (zla spX st8 (st8.2.2.2 o9 0)).bind fun o10 => (zok spX st8 (some this) 3).bind fun o11 => zlet (zp st8 o11 2 (if (0 : Int32) < (if (Int32.ofNat (spX o10).2) < a2 then (Int32.ofNat (spX o10).2) else a2) then (if (Int32.ofNat (spX o10).2) < a2 then (Int32.ofNat (spX o10).2) else a2) else (0 : Int32))) fun st12 => fX3_become_L24 this zF (0 : Int32) st12
set_option maxRecDepth 100000 in
set_option maxHeartbeats 4000000 in
theorem kX3_become (l : Launch) (Z : zZ) (b : Nat) (x : Option Nat) (this : Nat) (a1 : Int32) (a2 : Int32) (st : zS) : zC l Z spX b x yX3_become (.code yX3_become cX3_become 4 none) (rmX3_become) rV [vP (some this), vI a1, vI a2] st (fX3_become this a1 a2 st) := by
  refine z_start (own := RX3) rfl (by decide +kernel) (Nat.le_of_ble_eq_true rfl) rfl (fun p e s m args below meth c res Q A X hK hr hlocks hQ => ?_)
  have J24 : ∀ (n24 : Nat) (y3 : Int32) (st : zS), zs p l e (rmX3_become) s m args below meth c Q Z spX b x A 4 0 0 res (fX3_become_L24 this n24 y3 st) 24 [(0, vP (some this)), (3, vI y3)] [] st := by
    intro n24
    induction n24 with
    | zero => intros; exact z_none
    | succ n24 ih24 =>
      intro y3 st
      rw [fX3_become_L24]
      refine z_iload_n X (q := 1) dX3_become_24 rfl rfl ?_
      refine z_aload_n X (q := 0) dX3_become_25 rfl rfl ?_
      refine z_getr X hK (N := 3) (ci := 3) (k := 0) rfl (by decide) inlX3 (by decide) hf_X3_9 rfl spX_X3 rfl dX3_become_26 (fun o1 _ => ?_)
      refine z_alen X hK dX3_become_29 spX_14 (fun o2 _ => ?_)
      refine z_icmp_ge X (tgt := 46) dX3_become_30 (by decide) (fun _ => ?_) (fun _ => ?_)
      · subst hQ; exact z_vret X hlocks hr dX3_become_46
      · refine z_aload_n X (q := 0) dX3_become_33 rfl rfl ?_
        refine z_getr X hK (N := 3) (ci := 3) (k := 0) rfl (by decide) inlX3 (by decide) hf_X3_9 rfl spX_X3 rfl dX3_become_34 (fun o3 _ => ?_)
        refine z_iload_n X (q := 1) dX3_become_37 rfl rfl ?_
        refine z_iconst X (v := (0 : Int32)) dX3_become_38 (by decide) ?_
        refine z_iast X hK dX3_become_39 (fun o4 j5 st6 _ _ => ?_)
        refine z_iinc X (q := 1) (y := y3 + (1 : Int32)) dX3_become_40 rfl rfl (Nat.le_of_ble_eq_true rfl) rfl ?_
        refine z_goto X (tgt := 24) dX3_become_43 (by decide) ?_
        exact z_sub [1, 0] (ih24 _ _) rfl
  rw [fX3_become]
  refine z_aload_n X (q := 0) dX3_become_0 rfl rfl ?_
  refine z_iload_n X (q := 1) dX3_become_1 rfl rfl ?_
  refine z_puti X hK (N := 3) (ci := 3) (k := 1) rfl (by decide) inlX3 tyX3 tyX3_ok nmX3 (by decide) hf_X3_15 rfl rfl spX_X3 rfl (by decide +kernel) dX3_become_2 (fun o7 st8 _ => ?_)
  refine z_aload_n X (q := 0) dX3_become_5 rfl rfl ?_
  refine z_iconst X (v := (0 : Int32)) dX3_become_6 (by decide) ?_
  refine z_iload_n X (q := 2) dX3_become_7 rfl rfl ?_
  refine z_aload_n X (q := 0) dX3_become_8 rfl rfl ?_
  refine z_getr X hK (N := 3) (ci := 3) (k := 0) rfl (by decide) inlX3 (by decide) hf_X3_9 rfl spX_X3 rfl dX3_become_9 (fun o9 _ => ?_)
  refine z_alen X hK dX3_become_12 spX_14 (fun o10 _ => ?_)
  refine z_min X hm_X3_19 ⟨Nat.le_of_ble_eq_true rfl, Nat.le_of_ble_eq_true rfl⟩ ⟨Nat.le_of_ble_eq_true rfl, Nat.le_of_ble_eq_true rfl⟩ (Nat.le_of_ble_eq_true rfl) dX3_become_13 ?_
  refine z_max X hm_X3_25 ⟨Nat.le_of_ble_eq_true rfl, Nat.le_of_ble_eq_true rfl⟩ ⟨Nat.le_of_ble_eq_true rfl, Nat.le_of_ble_eq_true rfl⟩ (Nat.le_of_ble_eq_true rfl) dX3_become_16 ?_
  refine z_puti X hK (N := 3) (ci := 3) (k := 2) rfl (by decide) inlX3 tyX3 tyX3_ok nmX3 (by decide) hf_X3_28 rfl rfl spX_X3 rfl (by decide +kernel) dX3_become_19 (fun o11 st12 _ => ?_)
  refine z_iconst X (v := (0 : Int32)) dX3_become_22 (by decide) ?_
  refine z_istore_n X dX3_become_23 rfl (Nat.le_of_ble_eq_true rfl) rfl ?_
  exact z_sub [1, 0] (J24 _ _ _) rfl
abbrev rmX3_holds : Room := { frames := 1, cells := 0, slots := 0, locals := 40 }
def fX3_holds_j22 (this : Nat) (st : zS) : Option (Int32 × zS) :=
  some ((0 : Int32), st)
def fX3_holds (this : Nat) (a1 : Int32) (a2 : Int32) (st : zS) : Option (Int32 × zS) :=
  if a1 < 0 then (fX3_holds_j22 this st) else (if a2 < 0 then (fX3_holds_j22 this st) else ((zok spX st (some this) 3).bind fun o1 => if ((st.2.1 o1 2) - a2) < a1 then (fX3_holds_j22 this st) else (some ((1 : Int32), st))))
set_option maxRecDepth 100000 in
set_option maxHeartbeats 4000000 in
theorem kX3_holds (l : Launch) (Z : zZ) (b : Nat) (x : Option Nat) (this : Nat) (a1 : Int32) (a2 : Int32) (st : zS) : zC l Z spX b x yX3_holds (.code yX3_holds cX3_holds 3 (some .boolean)) (rmX3_holds) rI [vP (some this), vI a1, vI a2] st (fX3_holds this a1 a2 st) := by
  refine z_start (own := RX3) rfl (by decide +kernel) (Nat.le_of_ble_eq_true rfl) rfl (fun p e s m args below meth c res Q A X hK hr hlocks hQ => ?_)
  have J22 : ∀ (st : zS), zs p l e (rmX3_holds) s m args below meth c Q Z spX b x A 3 0 0 res (fX3_holds_j22 this st) 22 [] [] st := by
    intro  st
    rw [fX3_holds_j22]
    refine z_iconst X (v := (0 : Int32)) dX3_holds_22 (by decide) ?_
    subst hQ; exact z_zretc X hlocks hr (by decide) dX3_holds_23
  rw [fX3_holds]
  refine z_iload_n X (q := 1) dX3_holds_0 rfl rfl ?_
  refine z_if_lt X (tgt := 22) dX3_holds_1 (by decide) (fun _ => ?_) (fun _ => ?_)
  · exact z_sub [] (J22  _) rfl
  · refine z_iload_n X (q := 2) dX3_holds_4 rfl rfl ?_
    refine z_if_lt X (tgt := 22) dX3_holds_5 (by decide) (fun _ => ?_) (fun _ => ?_)
    · exact z_sub [] (J22  _) rfl
    · refine z_iload_n X (q := 1) dX3_holds_8 rfl rfl ?_
      refine z_aload_n X (q := 0) dX3_holds_9 rfl rfl ?_
      refine z_geti X hK (N := 3) (ci := 3) (k := 2) rfl (by decide) inlX3 (by decide) hf_X3_28 rfl spX_X3 rfl dX3_holds_10 (fun o1 _ => ?_)
      refine z_iload_n X (q := 2) dX3_holds_13 rfl rfl ?_
      refine z_isub X dX3_holds_14 ?_
      refine z_icmp_gt X (tgt := 22) dX3_holds_15 (by decide) (fun _ => ?_) (fun _ => ?_)
      · exact z_sub [] (J22  _) rfl
      · refine z_iconst X (v := (1 : Int32)) dX3_holds_18 (by decide) ?_
        refine z_goto X (tgt := 23) dX3_holds_19 (by decide) ?_
        subst hQ; exact z_zretc X hlocks hr (by decide) dX3_holds_23
abbrev rmX3_isMissing : Room := { frames := 1, cells := 0, slots := 0, locals := 40 }
def fX3_isMissing (this : Nat) (st : zS) : Option (Int32 × zS) :=
  (zok spX st (some this) 3).bind fun o1 => if (st.2.1 o1 1) = (-1 : Int32) then (some ((1 : Int32), st)) else (some ((0 : Int32), st))
set_option maxRecDepth 100000 in
set_option maxHeartbeats 4000000 in
theorem kX3_isMissing (l : Launch) (Z : zZ) (b : Nat) (x : Option Nat) (this : Nat) (st : zS) : zC l Z spX b x yX3_isMissing (.code yX3_isMissing cX3_isMissing 1 (some .boolean)) (rmX3_isMissing) rI [vP (some this)] st (fX3_isMissing this st) := by
  refine z_start (own := RX3) rfl (by decide +kernel) (Nat.le_of_ble_eq_true rfl) rfl (fun p e s m args below meth c res Q A X hK hr hlocks hQ => ?_)
  rw [fX3_isMissing]
  refine z_aload_n X (q := 0) dX3_isMissing_0 rfl rfl ?_
  refine z_geti X hK (N := 3) (ci := 3) (k := 1) rfl (by decide) inlX3 (by decide) hf_X3_15 rfl spX_X3 rfl dX3_isMissing_1 (fun o1 _ => ?_)
  refine z_iconst X (v := (-1 : Int32)) dX3_isMissing_4 (by decide) ?_
  refine z_icmp_ne X (tgt := 12) dX3_isMissing_5 (by decide) (fun _ => ?_) (fun _ => ?_)
  · refine z_iconst X (v := (0 : Int32)) dX3_isMissing_12 (by decide) ?_
    subst hQ; exact z_zretc X hlocks hr (by decide) dX3_isMissing_13
  · refine z_iconst X (v := (1 : Int32)) dX3_isMissing_8 (by decide) ?_
    refine z_goto X (tgt := 13) dX3_isMissing_9 (by decide) ?_
    subst hQ; exact z_zretc X hlocks hr (by decide) dX3_isMissing_13
abbrev rmX3_put : Room := { frames := 1, cells := 0, slots := 0, locals := 40 }
def fX3_put (this : Nat) (a1 : Int32) (a2 : Int32) (st : zS) : Option (Unit × zS) :=
  if a1 < 0 then (some ((), st)) else ((zok spX st (some this) 3).bind fun o1 => if (st.2.1 o1 2) ≤ a1 then (some ((), st)) else ((zok spX st (some this) 3).bind fun o2 => (zla spX st (st.2.2.2 o2 0)).bind fun o3 => if a1 < (Int32.ofNat (spX o3).2) then ((zok spX st (some this) 3).bind fun o4 => (zok spX st (some this) 3).bind fun o5 => if (st.2.1 o5 1) = 0 then ((zok spX st (st.2.2.2 o4 0) 9).bind fun o13 => (zix spX o13 a1).bind fun j14 => zlet (zp st o13 j14 (a2.toInt8.toInt32)) fun st15 => some ((), st15)) else ((zok spX st (some this) 3).bind fun o6 => if (st.2.1 o6 1) = (1 : Int32) then ((zok spX st (st.2.2.2 o4 0) 9).bind fun o10 => (zix spX o10 a1).bind fun j11 => zlet (zp st o10 j11 (a2.toInt16.toInt32)) fun st12 => some ((), st12)) else ((zok spX st (st.2.2.2 o4 0) 9).bind fun o7 => (zix spX o7 a1).bind fun j8 => zlet (zp st o7 j8 a2) fun st9 => some ((), st9)))) else (some ((), st))))
set_option maxRecDepth 100000 in
set_option maxHeartbeats 4000000 in
theorem kX3_put (l : Launch) (Z : zZ) (b : Nat) (x : Option Nat) (this : Nat) (a1 : Int32) (a2 : Int32) (st : zS) : zC l Z spX b x yX3_put (.code yX3_put cX3_put 3 none) (rmX3_put) rV [vP (some this), vI a1, vI a2] st (fX3_put this a1 a2 st) := by
  refine z_start (own := RX3) rfl (by decide +kernel) (Nat.le_of_ble_eq_true rfl) rfl (fun p e s m args below meth c res Q A X hK hr hlocks hQ => ?_)
  rw [fX3_put]
  refine z_iload_n X (q := 1) dX3_put_0 rfl rfl ?_
  refine z_if_lt X (tgt := 21) dX3_put_1 (by decide) (fun _ => ?_) (fun _ => ?_)
  · subst hQ; exact z_vret X hlocks hr dX3_put_21
  · refine z_iload_n X (q := 1) dX3_put_4 rfl rfl ?_
    refine z_aload_n X (q := 0) dX3_put_5 rfl rfl ?_
    refine z_geti X hK (N := 3) (ci := 3) (k := 2) rfl (by decide) inlX3 (by decide) hf_X3_28 rfl spX_X3 rfl dX3_put_6 (fun o1 _ => ?_)
    refine z_icmp_ge X (tgt := 21) dX3_put_9 (by decide) (fun _ => ?_) (fun _ => ?_)
    · subst hQ; exact z_vret X hlocks hr dX3_put_21
    · refine z_iload_n X (q := 1) dX3_put_12 rfl rfl ?_
      refine z_aload_n X (q := 0) dX3_put_13 rfl rfl ?_
      refine z_getr X hK (N := 3) (ci := 3) (k := 0) rfl (by decide) inlX3 (by decide) hf_X3_9 rfl spX_X3 rfl dX3_put_14 (fun o2 _ => ?_)
      refine z_alen X hK dX3_put_17 spX_14 (fun o3 _ => ?_)
      refine z_icmp_lt X (tgt := 22) dX3_put_18 (by decide) (fun _ => ?_) (fun _ => ?_)
      · refine z_aload_n X (q := 0) dX3_put_22 rfl rfl ?_
        refine z_getr X hK (N := 3) (ci := 3) (k := 0) rfl (by decide) inlX3 (by decide) hf_X3_9 rfl spX_X3 rfl dX3_put_23 (fun o4 _ => ?_)
        refine z_iload_n X (q := 1) dX3_put_26 rfl rfl ?_
        refine z_aload_n X (q := 0) dX3_put_27 rfl rfl ?_
        refine z_geti X hK (N := 3) (ci := 3) (k := 1) rfl (by decide) inlX3 (by decide) hf_X3_15 rfl spX_X3 rfl dX3_put_28 (fun o5 _ => ?_)
        refine z_if_ne X (tgt := 39) dX3_put_31 (by decide) (fun _ => ?_) (fun _ => ?_)
        · refine z_aload_n X (q := 0) dX3_put_39 rfl rfl ?_
          refine z_geti X hK (N := 3) (ci := 3) (k := 1) rfl (by decide) inlX3 (by decide) hf_X3_15 rfl spX_X3 rfl dX3_put_40 (fun o6 _ => ?_)
          refine z_iconst X (v := (1 : Int32)) dX3_put_43 (by decide) ?_
          refine z_icmp_ne X (tgt := 52) dX3_put_44 (by decide) (fun _ => ?_) (fun _ => ?_)
          · refine z_iload_n X (q := 2) dX3_put_52 rfl rfl ?_
            refine z_iast X hK dX3_put_53 (fun o7 j8 st9 _ _ => ?_)
            subst hQ; exact z_vret X hlocks hr dX3_put_54
          · refine z_iload_n X (q := 2) dX3_put_47 rfl rfl ?_
            refine z_i2s X dX3_put_48 ?_
            refine z_goto X (tgt := 53) dX3_put_49 (by decide) ?_
            refine z_iast X hK dX3_put_53 (fun o10 j11 st12 _ _ => ?_)
            subst hQ; exact z_vret X hlocks hr dX3_put_54
        · refine z_iload_n X (q := 2) dX3_put_34 rfl rfl ?_
          refine z_i2b X dX3_put_35 ?_
          refine z_goto X (tgt := 53) dX3_put_36 (by decide) ?_
          refine z_iast X hK dX3_put_53 (fun o13 j14 st15 _ _ => ?_)
          subst hQ; exact z_vret X hlocks hr dX3_put_54
      · subst hQ; exact z_vret X hlocks hr dX3_put_21
