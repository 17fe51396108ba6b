theorem zw_30 : Cond.constant RJ6 265 (1431655765) ∈ wsL_law := zr_5 _ (by decide +kernel)
theorem hc_J6_265 : Cond.constant RJ6 265 (1431655765) ∈ wsL_law := zw_30
theorem zw_31 : Cond.constant RJ6 266 (858993459) ∈ wsL_law := zr_5 _ (by decide +kernel)
theorem hc_J6_266 : Cond.constant RJ6 266 (858993459) ∈ wsL_law := zw_31
theorem zw_32 : Cond.constant RJ6 267 (252645135) ∈ wsL_law := zr_5 _ (by decide +kernel)
theorem hc_J6_267 : Cond.constant RJ6 267 (252645135) ∈ wsL_law := zw_32
abbrev rmJ6_bitCount_0f7a4 : Room := { frames := 1, cells := 0, slots := 0, locals := 40 }
def fJ6_bitCount_0f7a4 (a0 : Int32) (st : zS) : Option (Int32 × zS) :=
  zlet ((a0 - (((a0.toUInt32 >>> ((1 : Int32).toUInt32 &&& Int32.toUInt32 31)).toInt32) &&& (1431655765 : Int32)))) fun v1 => zlet (((v1 &&& (858993459 : Int32)) + (((v1.toUInt32 >>> ((2 : Int32).toUInt32 &&& Int32.toUInt32 31)).toInt32) &&& (858993459 : Int32)))) fun v2 => zlet (((v2 + ((v2.toUInt32 >>> ((4 : Int32).toUInt32 &&& Int32.toUInt32 31)).toInt32)) &&& (252645135 : Int32))) fun v3 => zlet ((v3 + ((v3.toUInt32 >>> ((8 : Int32).toUInt32 &&& Int32.toUInt32 31)).toInt32))) fun v4 => zlet ((v4 + ((v4.toUInt32 >>> ((16 : Int32).toUInt32 &&& Int32.toUInt32 31)).toInt32))) fun v5 => some ((v5 &&& (63 : Int32)), st)
set_option maxRecDepth 100000 in
set_option maxHeartbeats 4000000 in
theorem kJ6_bitCount_0f7a4 (l : Launch) (Z : zZ) (sp : Nat → Nat × Nat) (b : Nat) (x : Option Nat) (a0 : Int32) (st : zS) : zC l Z sp b x yJ6_bitCount_0f7a4 (.code yJ6_bitCount_0f7a4 cJ6_bitCount_0f7a4 1 (some .int)) (rmJ6_bitCount_0f7a4) rI [vI a0] st (fJ6_bitCount_0f7a4 a0 st) := by
  refine z_start (own := RJ6) rfl (by decide +kernel) (Nat.le_of_ble_eq_true rfl) rfl (fun p e s m args below meth c res Q A X hK hr hlocks hQ => ?_)
  rw [fJ6_bitCount_0f7a4]
  refine z_iload_n X (q := 0) dJ6_bitCount_0f7a4_0 rfl rfl ?_
  refine z_iload_n X (q := 0) dJ6_bitCount_0f7a4_1 rfl rfl ?_
  refine z_iconst X (v := (1 : Int32)) dJ6_bitCount_0f7a4_2 (by decide) ?_
  refine z_iushr X dJ6_bitCount_0f7a4_3 ?_
  refine z_ldcw X (v := (1431655765 : Int32)) (hc_J6_265) dJ6_bitCount_0f7a4_4 ?_
  refine z_iand X dJ6_bitCount_0f7a4_7 ?_
  refine z_isub X dJ6_bitCount_0f7a4_8 ?_
  refine z_name (fun v1 => ?_)
  refine z_istore_n X dJ6_bitCount_0f7a4_9 rfl (Nat.le_of_ble_eq_true rfl) rfl ?_
  refine z_iload_n X (q := 0) dJ6_bitCount_0f7a4_10 rfl rfl ?_
  refine z_ldcw X (v := (858993459 : Int32)) (hc_J6_266) dJ6_bitCount_0f7a4_11 ?_
  refine z_iand X dJ6_bitCount_0f7a4_14 ?_
  refine z_iload_n X (q := 0) dJ6_bitCount_0f7a4_15 rfl rfl ?_
  refine z_iconst X (v := (2 : Int32)) dJ6_bitCount_0f7a4_16 (by decide) ?_
  refine z_iushr X dJ6_bitCount_0f7a4_17 ?_
  refine z_ldcw X (v := (858993459 : Int32)) (hc_J6_266) dJ6_bitCount_0f7a4_18 ?_
  refine z_iand X dJ6_bitCount_0f7a4_21 ?_
  refine z_iadd X dJ6_bitCount_0f7a4_22 ?_
  refine z_name (fun v2 => ?_)
  refine z_istore_n X dJ6_bitCount_0f7a4_23 rfl (Nat.le_of_ble_eq_true rfl) rfl ?_
  refine z_iload_n X (q := 0) dJ6_bitCount_0f7a4_24 rfl rfl ?_
  refine z_iload_n X (q := 0) dJ6_bitCount_0f7a4_25 rfl rfl ?_
  refine z_iconst X (v := (4 : Int32)) dJ6_bitCount_0f7a4_26 (by decide) ?_
  refine z_iushr X dJ6_bitCount_0f7a4_27 ?_
  refine z_iadd X dJ6_bitCount_0f7a4_28 ?_
  refine z_ldcw X (v := (252645135 : Int32)) (hc_J6_267) dJ6_bitCount_0f7a4_29 ?_
  refine z_iand X dJ6_bitCount_0f7a4_32 ?_
  refine z_name (fun v3 => ?_)
  refine z_istore_n X dJ6_bitCount_0f7a4_33 rfl (Nat.le_of_ble_eq_true rfl) rfl ?_
  refine z_iload_n X (q := 0) dJ6_bitCount_0f7a4_34 rfl rfl ?_
  refine z_iload_n X (q := 0) dJ6_bitCount_0f7a4_35 rfl rfl ?_
  refine z_bipush X (v := (8 : Int32)) dJ6_bitCount_0f7a4_36 (by decide) ?_
  refine z_iushr X dJ6_bitCount_0f7a4_38 ?_
  refine z_iadd X dJ6_bitCount_0f7a4_39 ?_
  refine z_name (fun v4 => ?_)
  refine z_istore_n X dJ6_bitCount_0f7a4_40 rfl (Nat.le_of_ble_eq_true rfl) rfl ?_
  refine z_iload_n X (q := 0) dJ6_bitCount_0f7a4_41 rfl rfl ?_
  refine z_iload_n X (q := 0) dJ6_bitCount_0f7a4_42 rfl rfl ?_
  refine z_bipush X (v := (16 : Int32)) dJ6_bitCount_0f7a4_43 (by decide) ?_
  refine z_iushr X dJ6_bitCount_0f7a4_45 ?_
  refine z_iadd X dJ6_bitCount_0f7a4_46 ?_
  refine z_name (fun v5 => ?_)
  refine z_istore_n X dJ6_bitCount_0f7a4_47 rfl (Nat.le_of_ble_eq_true rfl) rfl ?_
  refine z_iload_n X (q := 0) dJ6_bitCount_0f7a4_48 rfl rfl ?_
  refine z_bipush X (v := (63 : Int32)) dJ6_bitCount_0f7a4_49 (by decide) ?_
  refine z_iand X dJ6_bitCount_0f7a4_51 ?_
  subst hQ; exact z_iret X hlocks hr dJ6_bitCount_0f7a4_52
abbrev rmJ9_floorMod_7cf53 : Room := { frames := 1, cells := 0, slots := 0, locals := 40 }
def fJ9_floorMod_7cf53 (a0 : Int32) (a1 : Int32) (st : zS) : Option (Int32 × zS) :=
  if a1 = 0 then none else zlet ((a0 - a0 / a1 * a1)) fun v1 => if 0 ≤ (a0 ^^^ a1) then (some (v1, st)) else (if v1 = 0 then (some (v1, st)) else (some ((v1 + a1), st)))
set_option maxRecDepth 100000 in
set_option maxHeartbeats 4000000 in
theorem kJ9_floorMod_7cf53 (l : Launch) (Z : zZ) (sp : Nat → Nat × Nat) (b : Nat) (x : Option Nat) (a0 : Int32) (a1 : Int32) (st : zS) : zC l Z sp b x yJ9_floorMod_7cf53 (.code yJ9_floorMod_7cf53 cJ9_floorMod_7cf53 3 (some .int)) (rmJ9_floorMod_7cf53) rI [vI a0, vI a1] st (fJ9_floorMod_7cf53 a0 a1 st) := by
  refine z_start (own := RJ9) rfl (by decide +kernel) (Nat.le_of_ble_eq_true rfl) rfl (fun p e s m args below meth c res Q A X hK hr hlocks hQ => ?_)
  rw [fJ9_floorMod_7cf53]
  refine z_iload_n X (q := 0) dJ9_floorMod_7cf53_0 rfl rfl ?_
  refine z_iload_n X (q := 1) dJ9_floorMod_7cf53_1 rfl rfl ?_
  refine z_irem X dJ9_floorMod_7cf53_2 (fun _ => ?_)
  refine z_name (fun v1 => ?_)
  refine z_istore_n X dJ9_floorMod_7cf53_3 rfl (Nat.le_of_ble_eq_true rfl) rfl ?_
  refine z_iload_n X (q := 1) dJ9_floorMod_7cf53_4 rfl rfl ?_
  refine z_iload_n X (q := 2) dJ9_floorMod_7cf53_5 rfl rfl ?_
  refine z_ixor X dJ9_floorMod_7cf53_6 ?_
  refine z_if_ge X (tgt := 18) dJ9_floorMod_7cf53_7 (by decide) (fun _ => ?_) (fun _ => ?_)
  · refine z_iload_n X (q := 0) dJ9_floorMod_7cf53_18 rfl rfl ?_
    subst hQ; exact z_iret X hlocks hr dJ9_floorMod_7cf53_19
  · refine z_iload_n X (q := 0) dJ9_floorMod_7cf53_10 rfl rfl ?_
    refine z_if_eq X (tgt := 18) dJ9_floorMod_7cf53_11 (by decide) (fun _ => ?_) (fun _ => ?_)
    · refine z_iload_n X (q := 0) dJ9_floorMod_7cf53_18 rfl rfl ?_
      subst hQ; exact z_iret X hlocks hr dJ9_floorMod_7cf53_19
    · refine z_iload_n X (q := 0) dJ9_floorMod_7cf53_14 rfl rfl ?_
      refine z_iload_n X (q := 2) dJ9_floorMod_7cf53_15 rfl rfl ?_
      refine z_iadd X dJ9_floorMod_7cf53_16 ?_
      subst hQ; exact z_iret X hlocks hr dJ9_floorMod_7cf53_17
