abbrev rmX7_sheet : Room := { frames := 2, cells := 0, slots := 0, locals := 63 }
def fX7_sheet (this : Nat) (a1 : Int32) (a2 : Int32) (a3 : Int32) (st : zS) : Option (Int32 × zS) :=
  (zok spX st (some this) 7).bind fun o6 => (fX7_sheetAt o6 a1 st).bind fun q1 => if q1.1 = none then (some ((-2 : Int32), q1.2)) else (if a2 < (-1 : Int32) then (some ((-2 : Int32), q1.2)) else (if a2 ≤ (2 : Int32) then (if a2 = (-1 : Int32) then ((zok spX q1.2 q1.1 3).bind fun o5 => (fX3_become o5 (-1 : Int32) (0 : Int32) q1.2).bind fun q4 => some ((1 : Int32), q4.2)) else (if a3 ≤ (40 : Int32) then (if 0 ≤ a3 then ((zok spX q1.2 q1.1 3).bind fun o3 => (fX3_become o3 a2 a3 q1.2).bind fun q2 => some ((1 : Int32), q2.2)) else (some ((-14 : Int32), q1.2))) else (some ((-2 : Int32), q1.2)))) else (some ((-2 : Int32), q1.2))))
set_option maxRecDepth 100000 in
set_option maxHeartbeats 4000000 in
theorem kX7_sheet (l : Launch) (Z : zZ) (b : Nat) (x : Option Nat) (this : Nat) (a1 : Int32) (a2 : Int32) (a3 : Int32) (st : zS) : zC l Z spX b x yX7_sheet (.code yX7_sheet cX7_sheet 5 (some .int)) (rmX7_sheet) rI [vP (some this), vI a1, vI a2, vI a3] st (fX7_sheet this a1 a2 a3 st) := by
  refine z_start (own := RX7) rfl (by decide +kernel) (Nat.le_of_ble_eq_true rfl) rfl (fun p e s m args below meth c res Q A X hK hr hlocks hQ => ?_)
  rw [fX7_sheet]
  refine z_aload_n X (q := 0) dX7_sheet_0 rfl rfl ?_
  refine z_iload_n X (q := 1) dX7_sheet_1 rfl rfl ?_
  refine z_callV X hK (As := [vI a1]) (ci := 7) rfl (by decide) (fun o => (kX7_sheetAt l Z  b x o _ _)) hk_X7_147 ⟨rfl, rfl⟩ hd_X7_sheetAt ⟨Nat.le_of_ble_eq_true rfl, Nat.le_of_ble_eq_true rfl⟩ ⟨Nat.le_of_ble_eq_true rfl, Nat.le_of_ble_eq_true rfl⟩ rfl rfl (Nat.le_of_ble_eq_true rfl) dX7_sheet_2 (fun _ q1 _ => ?_)
  refine z_astore X dX7_sheet_5 (Nat.le_of_ble_eq_true rfl) rfl ?_
  refine z_aload X (q := 0) dX7_sheet_7 rfl ?_
  refine z_ifnull X (tgt := 22) dX7_sheet_9 (by decide) (fun _ => ?_) (fun _ => ?_)
  · refine z_bipush X (v := (-2 : Int32)) dX7_sheet_22 (by decide) ?_
    subst hQ; exact z_iret X hlocks hr dX7_sheet_24
  · refine z_iload_n X (q := 3) dX7_sheet_12 rfl rfl ?_
    refine z_iconst X (v := (-1 : Int32)) dX7_sheet_13 (by decide) ?_
    refine z_icmp_lt X (tgt := 22) dX7_sheet_14 (by decide) (fun _ => ?_) (fun _ => ?_)
    · refine z_bipush X (v := (-2 : Int32)) dX7_sheet_22 (by decide) ?_
      subst hQ; exact z_iret X hlocks hr dX7_sheet_24
    · refine z_iload_n X (q := 3) dX7_sheet_17 rfl rfl ?_
      refine z_iconst X (v := (2 : Int32)) dX7_sheet_18 (by decide) ?_
      refine z_icmp_le X (tgt := 25) dX7_sheet_19 (by decide) (fun _ => ?_) (fun _ => ?_)
      · refine z_iload_n X (q := 3) dX7_sheet_25 rfl rfl ?_
        refine z_iconst X (v := (-1 : Int32)) dX7_sheet_26 (by decide) ?_
        refine z_icmp_ne X (tgt := 39) dX7_sheet_27 (by decide) (fun _ => ?_) (fun _ => ?_)
        · refine z_iload_n X (q := 4) dX7_sheet_39 rfl rfl ?_
          refine z_bipush X (v := (40 : Int32)) dX7_sheet_40 (by decide) ?_
          refine z_icmp_le X (tgt := 48) dX7_sheet_42 (by decide) (fun _ => ?_) (fun _ => ?_)
          · refine z_iload_n X (q := 4) dX7_sheet_48 rfl rfl ?_
            refine z_if_ge X (tgt := 55) dX7_sheet_49 (by decide) (fun _ => ?_) (fun _ => ?_)
            · refine z_aload X (q := 0) dX7_sheet_55 rfl ?_
              refine z_iload_n X (q := 3) dX7_sheet_57 rfl rfl ?_
              refine z_iload_n X (q := 4) dX7_sheet_58 rfl rfl ?_
              refine z_callV X hK (As := [vI a2, vI a3]) (ci := 3) rfl (by decide) (fun o => (kX3_become l Z  b x o _ _ _)) hk_X7_256 ⟨rfl, rfl⟩ hd_X3_become ⟨Nat.le_of_ble_eq_true rfl, Nat.le_of_ble_eq_true rfl⟩ ⟨Nat.le_of_ble_eq_true rfl, Nat.le_of_ble_eq_true rfl⟩ rfl rfl (Nat.le_of_ble_eq_true rfl) dX7_sheet_59 (fun _ q2 _ => ?_)
              refine z_iconst X (v := (1 : Int32)) dX7_sheet_62 (by decide) ?_
              subst hQ; exact z_iret X hlocks hr dX7_sheet_63
            · refine z_bipush X (v := (-14 : Int32)) dX7_sheet_52 (by decide) ?_
              subst hQ; exact z_iret X hlocks hr dX7_sheet_54
          · refine z_bipush X (v := (-2 : Int32)) dX7_sheet_45 (by decide) ?_
            subst hQ; exact z_iret X hlocks hr dX7_sheet_47
        · refine z_aload X (q := 0) dX7_sheet_30 rfl ?_
          refine z_iconst X (v := (-1 : Int32)) dX7_sheet_32 (by decide) ?_
          refine z_iconst X (v := (0 : Int32)) dX7_sheet_33 (by decide) ?_
          refine z_callV X hK (As := [vI (-1 : Int32), vI (0 : Int32)]) (ci := 3) rfl (by decide) (fun o => (kX3_become l Z  b x o _ _ _)) hk_X7_256 ⟨rfl, rfl⟩ hd_X3_become ⟨Nat.le_of_ble_eq_true rfl, Nat.le_of_ble_eq_true rfl⟩ ⟨Nat.le_of_ble_eq_true rfl, Nat.le_of_ble_eq_true rfl⟩ rfl rfl (Nat.le_of_ble_eq_true rfl) dX7_sheet_34 (fun _ q4 _ => ?_)
          refine z_iconst X (v := (1 : Int32)) dX7_sheet_37 (by decide) ?_
          subst hQ; exact z_iret X hlocks hr dX7_sheet_38
      · refine z_bipush X (v := (-2 : Int32)) dX7_sheet_22 (by decide) ?_
        subst hQ; exact z_iret X hlocks hr dX7_sheet_24
theorem zw_482 : Cond.fieldLink RX7 300 "WellGivesOther$Asker" "kind" "I" ∈ wsL_law := zr_51 _ (by decide +kernel)
theorem hf_X7_300 : Cond.fieldLink RX7 300 "WellGivesOther$Asker" "kind" "I" ∈ wsL_law := zw_482
theorem zw_483 : Cond.fieldLink RX7 306 "WellGivesOther$Asker" "number" "I" ∈ wsL_law := zr_51 _ (by decide +kernel)
theorem hf_X7_306 : Cond.fieldLink RX7 306 "WellGivesOther$Asker" "number" "I" ∈ wsL_law := zw_483
abbrev rmX7_taken : Room := { frames := 2, cells := 0, slots := 0, locals := 61 }
def fX7_taken_L35 (this : Nat) : Nat → Int32 → Option Nat → Int32 → Int32 → zS → Option (Int32 × zS)
  | 0, _, _, _, _, _ => none
  | n + 1, y2, y3, y4, y5, st => if (6 : Int32) ≤ y5 then (some ((-13 : Int32), st)) else (if y4 < 0 then (some ((-13 : Int32), st)) else (if (6 : Int32) ≤ y4 then (some ((-13 : Int32), st)) else (if y4 = y2 then ((zok spX st y3 0).bind fun o3 => some ((st.2.1 o3 1), st)) else ((if y4 < 0 ∨ 6 ≤ y4.toNatClampNeg then none else some y4.toNatClampNeg).bind fun j1 => zlet ((([-1, 0, 0, 1, 2, 0] : List Int32).getD j1 0)) fun v2 => (fX7_taken_L35 this n) y2 y3 v2 (y5 + (1 : Int32)) st))))
def fX7_taken (this : Nat) (a1 : Int32) (a2 : Int32) (st : zS) : Option (Int32 × zS) :=
  if a2 < 0 then (some ((-2 : Int32), st)) else (if a2 < (6 : Int32) then ((zok spX st (some this) 7).bind fun o7 => (fX7_seat o7 a1 st).bind fun q4 => if q4.1 = none then (some ((-11 : Int32), q4.2)) else ((zok spX q4.2 q4.1 0).bind fun o5 => zlet ((q4.2.2.1 o5 0)) fun v6 => fX7_taken_L35 this zF a2 q4.1 v6 (0 : Int32) q4.2)) else (some ((-2 : Int32), st)))
set_option maxRecDepth 100000 in
set_option maxHeartbeats 4000000 in
theorem kX7_taken (l : Launch) (Z : zZ) (b : Nat) (x : Option Nat) (this : Nat) (a1 : Int32) (a2 : Int32) (st : zS) : zC l Z spX b x yX7_taken (.code yX7_taken cX7_taken 6 (some .int)) (rmX7_taken) rI [vP (some this), vI a1, vI a2] st (fX7_taken this a1 a2 st) := by
  refine z_start (own := RX7) rfl (by decide +kernel) (Nat.le_of_ble_eq_true rfl) rfl (fun p e s m args below meth c res Q A X hK hr hlocks hQ => ?_)
  have J35 : ∀ (n35 : Nat) (y2 : Int32) (y3 : Option Nat) (y4 : Int32) (y5 : Int32) (st : zS), zs p l e (rmX7_taken) s m args below meth c Q Z spX b x A 6 0 0 res (fX7_taken_L35 this n35 y2 y3 y4 y5 st) 35 [(2, vI y2), (3, vP y3), (4, vI y4), (5, vI y5)] [] st := by
    intro n35
    induction n35 with
    | zero => intros; exact z_none
    | succ n35 ih35 =>
      intro y2 y3 y4 y5 st
      rw [fX7_taken_L35]
      refine z_iload X (q := 3) dX7_taken_35 rfl ?_
      refine z_bipush X (v := (6 : Int32)) dX7_taken_37 (by decide) ?_
      refine z_icmp_ge X (tgt := 81) dX7_taken_39 (by decide) (fun _ => ?_) (fun _ => ?_)
      · refine z_bipush X (v := (-13 : Int32)) dX7_taken_81 (by decide) ?_
        subst hQ; exact z_iret X hlocks hr dX7_taken_83
      · refine z_iload X (q := 2) dX7_taken_42 rfl ?_
        refine z_if_lt X (tgt := 81) dX7_taken_44 (by decide) (fun _ => ?_) (fun _ => ?_)
        · refine z_bipush X (v := (-13 : Int32)) dX7_taken_81 (by decide) ?_
          subst hQ; exact z_iret X hlocks hr dX7_taken_83
        · refine z_iload X (q := 2) dX7_taken_47 rfl ?_
          refine z_kabove X hK hf_X7_303 dX7_taken_49 ?_
          refine z_kalen X hK dX7_taken_52 ?_
          refine z_icmp_ge X (tgt := 81) dX7_taken_53 (by decide) (fun _ => ?_) (fun _ => ?_)
          · refine z_bipush X (v := (-13 : Int32)) dX7_taken_81 (by decide) ?_
            subst hQ; exact z_iret X hlocks hr dX7_taken_83
          · refine z_iload X (q := 2) dX7_taken_56 rfl ?_
            refine z_iload_n X (q := 0) dX7_taken_58 rfl rfl ?_
            refine z_icmp_ne X (tgt := 67) dX7_taken_59 (by decide) (fun _ => ?_) (fun _ => ?_)
            · refine z_kabove X hK hf_X7_303 dX7_taken_67 ?_
              refine z_iload X (q := 2) dX7_taken_70 rfl ?_
              refine z_kald X hK dX7_taken_72 (fun j1 => ?_)
              refine z_name (fun v2 => ?_)
              refine z_istore X dX7_taken_73 (Nat.le_of_ble_eq_true rfl) rfl ?_
              refine z_iinc X (q := 3) (y := y5 + (1 : Int32)) dX7_taken_75 rfl rfl (Nat.le_of_ble_eq_true rfl) rfl ?_
              refine z_goto X (tgt := 35) dX7_taken_78 (by decide) ?_
              exact z_sub [2, 3, 1, 0] (ih35 _ _ _ _ _) rfl
            · refine z_aload_n X (q := 1) dX7_taken_62 rfl rfl ?_
              refine z_geti X hK (N := 5) (ci := 0) (k := 1) rfl (by decide) inlX0 (by decide) hf_X7_306 rfl spX_X0 rfl dX7_taken_63 (fun o3 _ => ?_)
              subst hQ; exact z_iret X hlocks hr dX7_taken_66
  rw [fX7_taken]
  refine z_iload_n X (q := 2) dX7_taken_0 rfl rfl ?_
  refine z_if_lt X (tgt := 10) dX7_taken_1 (by decide) (fun _ => ?_) (fun _ => ?_)
  · refine z_bipush X (v := (-2 : Int32)) dX7_taken_10 (by decide) ?_
    subst hQ; exact z_iret X hlocks hr dX7_taken_12
  · refine z_iload_n X (q := 2) dX7_taken_4 rfl rfl ?_
    refine z_bipush X (v := (6 : Int32)) dX7_taken_5 (by decide) ?_
    refine z_icmp_lt X (tgt := 13) dX7_taken_7 (by decide) (fun _ => ?_) (fun _ => ?_)
    · refine z_aload_n X (q := 0) dX7_taken_13 rfl rfl ?_
      refine z_iload_n X (q := 1) dX7_taken_14 rfl rfl ?_
      refine z_callV X hK (As := [vI a1]) (ci := 7) rfl (by decide) (fun o => (kX7_seat l Z  b x o _ _)) hk_X7_88 ⟨rfl, rfl⟩ hd_X7_seat ⟨Nat.le_of_ble_eq_true rfl, Nat.le_of_ble_eq_true rfl⟩ ⟨Nat.le_of_ble_eq_true rfl, Nat.le_of_ble_eq_true rfl⟩ rfl rfl (Nat.le_of_ble_eq_true rfl) dX7_taken_15 (fun _ q4 _ => ?_)
      refine z_astore_n X dX7_taken_18 rfl (Nat.le_of_ble_eq_true rfl) rfl ?_
      refine z_aload_n X (q := 0) dX7_taken_19 rfl rfl ?_
      refine z_ifnonnull X (tgt := 26) dX7_taken_20 (by decide) (fun _ => ?_) (fun _ => ?_)
      · refine z_aload_n X (q := 0) dX7_taken_26 rfl rfl ?_
        refine z_geti X hK (N := 5) (ci := 0) (k := 0) rfl (by decide) inlX0 (by decide) hf_X7_300 rfl spX_X0 rfl dX7_taken_27 (fun o5 _ => ?_)
        refine z_name (fun v6 => ?_)
        refine z_istore X dX7_taken_30 (Nat.le_of_ble_eq_true rfl) rfl ?_
        refine z_iconst X (v := (0 : Int32)) dX7_taken_32 (by decide) ?_
        refine z_istore X dX7_taken_33 (Nat.le_of_ble_eq_true rfl) rfl ?_
        exact z_sub [5, 2, 1, 0] (J35 _ _ _ _ _ _) rfl
      · refine z_bipush X (v := (-11 : Int32)) dX7_taken_23 (by decide) ?_
        subst hQ; exact z_iret X hlocks hr dX7_taken_25
    · refine z_bipush X (v := (-2 : Int32)) dX7_taken_10 (by decide) ?_
      subst hQ; exact z_iret X hlocks hr dX7_taken_12
theorem zw_484 : Cond.methodLink RX7 235 yX7_fittingKinds ∈ wsL_law := zr_43 _ (by decide +kernel)
theorem zw_485 : Cond.static yX7_fittingKinds ∈ wsL_law := zr_43 _ (by decide +kernel)
theorem zw_486 : Cond.code yX7_fittingKinds cX7_fittingKinds 4 (some .int) ∈ wsL_law := zr_43 _ (by decide +kernel)
theorem hk_X7_235 : ∀ w ∈ ([Cond.methodLink RX7 235 yX7_fittingKinds, Cond.static yX7_fittingKinds, Cond.initialized RX7, Cond.code yX7_fittingKinds cX7_fittingKinds 4 (some .int)] : List Cond), w ∈ wsL_law := List.forall_mem_cons.mpr ⟨zw_484, List.forall_mem_cons.mpr ⟨zw_485, List.forall_mem_cons.mpr ⟨zw_322, List.forall_mem_cons.mpr ⟨zw_486, fun _ h => absurd h List.not_mem_nil⟩⟩⟩⟩
theorem zw_487 : Cond.methodLink RX7 238 yX7_fittingNumbers ∈ wsL_law := zr_43 _ (by decide +kernel)
theorem zw_488 : Cond.static yX7_fittingNumbers ∈ wsL_law := zr_43 _ (by decide +kernel)
theorem zw_489 : Cond.code yX7_fittingNumbers cX7_fittingNumbers 4 (some .int) ∈ wsL_law := zr_43 _ (by decide +kernel)
theorem hk_X7_238 : ∀ w ∈ ([Cond.methodLink RX7 238 yX7_fittingNumbers, Cond.static yX7_fittingNumbers, Cond.initialized RX7, Cond.code yX7_fittingNumbers cX7_fittingNumbers 4 (some .int)] : List Cond), w ∈ wsL_law := List.forall_mem_cons.mpr ⟨zw_487, List.forall_mem_cons.mpr ⟨zw_488, List.forall_mem_cons.mpr ⟨zw_322, List.forall_mem_cons.mpr ⟨zw_489, fun _ h => absurd h List.not_mem_nil⟩⟩⟩⟩
theorem zw_490 : Cond.methodLink RX7 241 yX7_fittingDays ∈ wsL_law := zr_43 _ (by decide +kernel)
theorem zw_491 : Cond.static yX7_fittingDays ∈ wsL_law := zr_44 _ (by decide +kernel)
theorem zw_492 : Cond.code yX7_fittingDays cX7_fittingDays 4 (some .int) ∈ wsL_law := zr_44 _ (by decide +kernel)
theorem hk_X7_241 : ∀ w ∈ ([Cond.methodLink RX7 241 yX7_fittingDays, Cond.static yX7_fittingDays, Cond.initialized RX7, Cond.code yX7_fittingDays cX7_fittingDays 4 (some .int)] : List Cond), w ∈ wsL_law := List.forall_mem_cons.mpr ⟨zw_490, List.forall_mem_cons.mpr ⟨zw_491, List.forall_mem_cons.mpr ⟨zw_322, List.forall_mem_cons.mpr ⟨zw_492, fun _ h => absurd h List.not_mem_nil⟩⟩⟩⟩
theorem zw_493 : Cond.methodLink RX7 244 yX7_firstFittingDay ∈ wsL_law := zr_44 _ (by decide +kernel)
theorem zw_494 : Cond.static yX7_firstFittingDay ∈ wsL_law := zr_44 _ (by decide +kernel)
theorem zw_495 : Cond.code yX7_firstFittingDay cX7_firstFittingDay 3 (some .int) ∈ wsL_law := zr_44 _ (by decide +kernel)
theorem hk_X7_244 : ∀ w ∈ ([Cond.methodLink RX7 244 yX7_firstFittingDay, Cond.static yX7_firstFittingDay, Cond.initialized RX7, Cond.code yX7_firstFittingDay cX7_firstFittingDay 3 (some .int)] : List Cond), w ∈ wsL_law := List.forall_mem_cons.mpr ⟨zw_493, List.forall_mem_cons.mpr ⟨zw_494, List.forall_mem_cons.mpr ⟨zw_322, List.forall_mem_cons.mpr ⟨zw_495, fun _ h => absurd h List.not_mem_nil⟩⟩⟩⟩
theorem zw_496 : Cond.methodLink RX7 247 yX7_fittingThings ∈ wsL_law := zr_44 _ (by decide +kernel)
theorem zw_497 : Cond.static yX7_fittingThings ∈ wsL_law := zr_44 _ (by decide +kernel)
theorem zw_498 : Cond.code yX7_fittingThings cX7_fittingThings 5 (some .int) ∈ wsL_law := zr_44 _ (by decide +kernel)
theorem hk_X7_247 : ∀ w ∈ ([Cond.methodLink RX7 247 yX7_fittingThings, Cond.static yX7_fittingThings, Cond.initialized RX7, Cond.code yX7_fittingThings cX7_fittingThings 5 (some .int)] : List Cond), w ∈ wsL_law := List.forall_mem_cons.mpr ⟨zw_496, List.forall_mem_cons.mpr ⟨zw_497, List.forall_mem_cons.mpr ⟨zw_322, List.forall_mem_cons.mpr ⟨zw_498, fun _ h => absurd h List.not_mem_nil⟩⟩⟩⟩
theorem zw_499 : Cond.methodLink RX7 250 yX7_fittingTexts ∈ wsL_law := zr_44 _ (by decide +kernel)
theorem zw_500 : Cond.instanceMethod yX7_fittingTexts ∈ wsL_law := zr_44 _ (by decide +kernel)
theorem zw_501 : Cond.selects RX7 yX7_fittingTexts yX7_fittingTexts ∈ wsL_law := zr_44 _ (by decide +kernel)
theorem zw_502 : Cond.code yX7_fittingTexts cX7_fittingTexts 5 (some .int) ∈ wsL_law := zr_44 _ (by decide +kernel)
theorem hk_X7_250 : ∀ w ∈ ([Cond.methodLink RX7 250 yX7_fittingTexts, Cond.instanceMethod yX7_fittingTexts, Cond.selects RX7 yX7_fittingTexts yX7_fittingTexts, Cond.initialized RX7, Cond.code yX7_fittingTexts cX7_fittingTexts 5 (some .int)] : List Cond), w ∈ wsL_law := List.forall_mem_cons.mpr ⟨zw_499, List.forall_mem_cons.mpr ⟨zw_500, List.forall_mem_cons.mpr ⟨zw_501, List.forall_mem_cons.mpr ⟨zw_322, List.forall_mem_cons.mpr ⟨zw_502, fun _ h => absurd h List.not_mem_nil⟩⟩⟩⟩⟩
theorem zw_503 : Cond.methodLink RX7 253 yX7_fittingAskers ∈ wsL_law := zr_44 _ (by decide +kernel)
theorem zw_504 : Cond.instanceMethod yX7_fittingAskers ∈ wsL_law := zr_44 _ (by decide +kernel)
theorem zw_505 : Cond.selects RX7 yX7_fittingAskers yX7_fittingAskers ∈ wsL_law := zr_44 _ (by decide +kernel)
theorem zw_506 : Cond.code yX7_fittingAskers cX7_fittingAskers 5 (some .int) ∈ wsL_law := zr_44 _ (by decide +kernel)
theorem hk_X7_253 : ∀ w ∈ ([Cond.methodLink RX7 253 yX7_fittingAskers, Cond.instanceMethod yX7_fittingAskers, Cond.selects RX7 yX7_fittingAskers yX7_fittingAskers, Cond.initialized RX7, Cond.code yX7_fittingAskers cX7_fittingAskers 5 (some .int)] : List Cond), w ∈ wsL_law := List.forall_mem_cons.mpr ⟨zw_503, List.forall_mem_cons.mpr ⟨zw_504, List.forall_mem_cons.mpr ⟨zw_505, List.forall_mem_cons.mpr ⟨zw_322, List.forall_mem_cons.mpr ⟨zw_506, fun _ h => absurd h List.not_mem_nil⟩⟩⟩⟩⟩
theorem hd_X7_firstFittingDay : yX7_firstFittingDay.cls = RX7 ∧ yX7_firstFittingDay.cls ≠ "java/lang/invoke/MethodHandle" ∧ yX7_firstFittingDay.cls ≠ "java/lang/invoke/VarHandle" ∧ (parseMethodDescriptor yX7_firstFittingDay.desc).map (fun d => d.parameters.length) = some 2 := by decide +kernel
theorem hd_X7_fittingAskers : yX7_fittingAskers.cls = RX7 ∧ yX7_fittingAskers.cls ≠ "java/lang/invoke/MethodHandle" ∧ yX7_fittingAskers.cls ≠ "java/lang/invoke/VarHandle" ∧ (parseMethodDescriptor yX7_fittingAskers.desc).map (fun d => d.parameters.length) = some 1 := by decide +kernel
theorem hd_X7_fittingDays : yX7_fittingDays.cls = RX7 ∧ yX7_fittingDays.cls ≠ "java/lang/invoke/MethodHandle" ∧ yX7_fittingDays.cls ≠ "java/lang/invoke/VarHandle" ∧ (parseMethodDescriptor yX7_fittingDays.desc).map (fun d => d.parameters.length) = some 2 := by decide +kernel
theorem hd_X7_fittingKinds : yX7_fittingKinds.cls = RX7 ∧ yX7_fittingKinds.cls ≠ "java/lang/invoke/MethodHandle" ∧ yX7_fittingKinds.cls ≠ "java/lang/invoke/VarHandle" ∧ (parseMethodDescriptor yX7_fittingKinds.desc).map (fun d => d.parameters.length) = some 2 := by decide +kernel
theorem hd_X7_fittingNumbers : yX7_fittingNumbers.cls = RX7 ∧ yX7_fittingNumbers.cls ≠ "java/lang/invoke/MethodHandle" ∧ yX7_fittingNumbers.cls ≠ "java/lang/invoke/VarHandle" ∧ (parseMethodDescriptor yX7_fittingNumbers.desc).map (fun d => d.parameters.length) = some 2 := by decide +kernel
theorem hd_X7_fittingTexts : yX7_fittingTexts.cls = RX7 ∧ yX7_fittingTexts.cls ≠ "java/lang/invoke/MethodHandle" ∧ yX7_fittingTexts.cls ≠ "java/lang/invoke/VarHandle" ∧ (parseMethodDescriptor yX7_fittingTexts.desc).map (fun d => d.parameters.length) = some 2 := by decide +kernel
theorem hd_X7_fittingThings : yX7_fittingThings.cls = RX7 ∧ yX7_fittingThings.cls ≠ "java/lang/invoke/MethodHandle" ∧ yX7_fittingThings.cls ≠ "java/lang/invoke/VarHandle" ∧ (parseMethodDescriptor yX7_fittingThings.desc).map (fun d => d.parameters.length) = some 2 := by decide +kernel
abbrev rmX7_tells : Room := { frames := 7, cells := 0, slots := 0, locals := 182 }
def fX7_tells (this : Nat) (a1 : Int32) (a2 : Int32) (a3 : Int32) (st : zS) : Option (Int32 × zS) :=
  (zok spX st (some this) 7).bind fun o24 => (fX7_sheetAt o24 a1 st).bind fun q1 => (zok spX q1.2 (some this) 7).bind fun o23 => (fX7_visitOf o23 a2 q1.2).bind fun q2 => if q1.1 = none then (some ((-2 : Int32), q2.2)) else (if q2.1 = none then (some ((-2 : Int32), q2.2)) else (if a3 < 0 then (some ((-2 : Int32), q2.2)) else (if a3 ≤ (7 : Int32) then ((zok spX q2.2 q1.1 3).bind fun o22 => (fX3_isMissing o22 q2.2).bind fun q3 => if q3.1 = 0 then ((zok spX q3.2 q1.1 3).bind fun o4 => if (q3.2.2.1 o4 2) ≤ (12 : Int32) then (if a3 = (0 : Int32) then ((fX7_firstOther q1.1 q2.1 q3.2).bind fun q6 => some (q6.1, q6.2)) else (if a3 = (1 : Int32) then ((fX7_fittingKinds q1.1 q2.1 q3.2).bind fun q8 => some (q8.1, q8.2)) else (if a3 = (2 : Int32) then ((fX7_fittingNumbers q1.1 q2.1 q3.2).bind fun q10 => some (q10.1, q10.2)) else (if a3 = (3 : Int32) then ((fX7_fittingDays q1.1 q2.1 q3.2).bind fun q12 => some (q12.1, q12.2)) else (if a3 = (4 : Int32) then ((fX7_firstFittingDay q1.1 q2.1 q3.2).bind fun q14 => some (q14.1, q14.2)) else (if a3 = (5 : Int32) then ((fX7_fittingThings q1.1 q2.1 q3.2).bind fun q16 => some (q16.1, q16.2)) else (if a3 = (6 : Int32) then ((zok spX q3.2 (some this) 7).bind fun o19 => (fX7_fittingTexts o19 q1.1 q2.1 q3.2).bind fun q18 => some (q18.1, q18.2)) else ((zok spX q3.2 (some this) 7).bind fun o21 => (fX7_fittingAskers o21 q1.1 q3.2).bind fun q20 => some (q20.1, q20.2))))))))) else (some ((-2 : Int32), q3.2))) else (some ((-11 : Int32), q3.2))) else (some ((-2 : Int32), q2.2)))))
set_option maxRecDepth 100000 in
set_option maxHeartbeats 4000000 in
theorem kX7_tells (l : Launch) (Z : zZ) (b : Nat) (x : Option Nat) (this : Nat) (a1 : Int32) (a2 : Int32) (a3 : Int32) (st : zS) : zC l Z spX b x yX7_tells (.code yX7_tells cX7_tells 6 (some .int)) (rmX7_tells) rI [vP (some this), vI a1, vI a2, vI a3] st (fX7_tells this a1 a2 a3 st) := by
  refine z_start (own := RX7) rfl (by decide +kernel) (Nat.le_of_ble_eq_true rfl) rfl (fun p e s m args below meth c res Q A X hK hr hlocks hQ => ?_)
  rw [fX7_tells]
  refine z_aload_n X (q := 0) dX7_tells_0 rfl rfl ?_
  refine z_iload_n X (q := 1) dX7_tells_1 rfl rfl ?_
  refine z_callV X hK (As := [vI a1]) (ci := 7) rfl (by decide) (fun o => (kX7_sheetAt l Z  b x o _ _)) hk_X7_147 ⟨rfl, rfl⟩ hd_X7_sheetAt ⟨Nat.le_of_ble_eq_true rfl, Nat.le_of_ble_eq_true rfl⟩ ⟨Nat.le_of_ble_eq_true rfl, Nat.le_of_ble_eq_true rfl⟩ rfl rfl (Nat.le_of_ble_eq_true rfl) dX7_tells_2 (fun _ q1 _ => ?_)
  refine z_astore X dX7_tells_5 (Nat.le_of_ble_eq_true rfl) rfl ?_
  refine z_aload_n X (q := 1) dX7_tells_7 rfl rfl ?_
  refine z_iload_n X (q := 3) dX7_tells_8 rfl rfl ?_
  refine z_callV X hK (As := [vI a2]) (ci := 7) rfl (by decide) (fun o => (kX7_visitOf l Z  b x o _ _)) hk_X7_108 ⟨rfl, rfl⟩ hd_X7_visitOf ⟨Nat.le_of_ble_eq_true rfl, Nat.le_of_ble_eq_true rfl⟩ ⟨Nat.le_of_ble_eq_true rfl, Nat.le_of_ble_eq_true rfl⟩ rfl rfl (Nat.le_of_ble_eq_true rfl) dX7_tells_9 (fun _ q2 _ => ?_)
  refine z_astore X dX7_tells_12 (Nat.le_of_ble_eq_true rfl) rfl ?_
  refine z_aload X (q := 1) dX7_tells_14 rfl ?_
  refine z_ifnull X (tgt := 34) dX7_tells_16 (by decide) (fun _ => ?_) (fun _ => ?_)
  · refine z_bipush X (v := (-2 : Int32)) dX7_tells_34 (by decide) ?_
    subst hQ; exact z_iret X hlocks hr dX7_tells_36
  · refine z_aload X (q := 0) dX7_tells_19 rfl ?_
    refine z_ifnull X (tgt := 34) dX7_tells_21 (by decide) (fun _ => ?_) (fun _ => ?_)
    · refine z_bipush X (v := (-2 : Int32)) dX7_tells_34 (by decide) ?_
      subst hQ; exact z_iret X hlocks hr dX7_tells_36
    · refine z_iload_n X (q := 5) dX7_tells_24 rfl rfl ?_
      refine z_if_lt X (tgt := 34) dX7_tells_25 (by decide) (fun _ => ?_) (fun _ => ?_)
      · refine z_bipush X (v := (-2 : Int32)) dX7_tells_34 (by decide) ?_
        subst hQ; exact z_iret X hlocks hr dX7_tells_36
      · refine z_iload_n X (q := 5) dX7_tells_28 rfl rfl ?_
        refine z_bipush X (v := (7 : Int32)) dX7_tells_29 (by decide) ?_
        refine z_icmp_le X (tgt := 37) dX7_tells_31 (by decide) (fun _ => ?_) (fun _ => ?_)
        · refine z_aload X (q := 1) dX7_tells_37 rfl ?_
          refine z_callV X hK (As := []) (ci := 3) rfl (by decide) (fun o => (kX3_isMissing l Z  b x o _)) hk_X7_196 ⟨rfl, rfl⟩ hd_X3_isMissing ⟨Nat.le_of_ble_eq_true rfl, Nat.le_of_ble_eq_true rfl⟩ ⟨Nat.le_of_ble_eq_true rfl, Nat.le_of_ble_eq_true rfl⟩ rfl rfl (Nat.le_of_ble_eq_true rfl) dX7_tells_39 (fun _ q3 _ => ?_)
          refine z_if_eq X (tgt := 48) dX7_tells_42 (by decide) (fun _ => ?_) (fun _ => ?_)
          · refine z_aload X (q := 1) dX7_tells_48 rfl ?_
            refine z_geti X hK (N := 3) (ci := 3) (k := 2) rfl (by decide) inlX3 (by decide) hf_X7_228 rfl spX_X3 rfl dX7_tells_50 (fun o4 _ => ?_)
            refine z_bipush X (v := (12 : Int32)) dX7_tells_53 (by decide) ?_
            refine z_icmp_le X (tgt := 61) dX7_tells_55 (by decide) (fun _ => ?_) (fun _ => ?_)
            · refine z_iload_n X (q := 5) dX7_tells_61 rfl rfl ?_
              refine z_ite (fun h5 => ?_) (fun h5 => ?_)
              · refine z_tabIn X (off := 42) (tgt := 104) dX7_tells_62 (by rw [h5]; decide) (by rw [h5]; decide) (by rw [h5]; rfl) (by decide) ?_
                refine z_aload X (q := 1) dX7_tells_104 rfl ?_
                refine z_aload X (q := 0) dX7_tells_106 rfl ?_
                refine z_callS X hK (As := [vP q1.1, vP q2.1]) (kX7_firstOther l Z  b x _ _ _) hk_X7_231 ⟨rfl, rfl⟩ hd_X7_firstOther.2 ⟨Nat.le_of_ble_eq_true rfl, Nat.le_of_ble_eq_true rfl⟩ ⟨Nat.le_of_ble_eq_true rfl, Nat.le_of_ble_eq_true rfl⟩ rfl rfl (Nat.le_of_ble_eq_true rfl) dX7_tells_108 (fun q6 => ?_)
                subst hQ; exact z_iret X hlocks hr dX7_tells_111
              refine z_ite (fun h7 => ?_) (fun h7 => ?_)
              · refine z_tabIn X (off := 50) (tgt := 112) dX7_tells_62 (by rw [h7]; decide) (by rw [h7]; decide) (by rw [h7]; rfl) (by decide) ?_
                refine z_aload X (q := 1) dX7_tells_112 rfl ?_
                refine z_aload X (q := 0) dX7_tells_114 rfl ?_
                refine z_callS X hK (As := [vP q1.1, vP q2.1]) (kX7_fittingKinds l Z  b x _ _ _) hk_X7_235 ⟨rfl, rfl⟩ hd_X7_fittingKinds.2 ⟨Nat.le_of_ble_eq_true rfl, Nat.le_of_ble_eq_true rfl⟩ ⟨Nat.le_of_ble_eq_true rfl, Nat.le_of_ble_eq_true rfl⟩ rfl rfl (Nat.le_of_ble_eq_true rfl) dX7_tells_116 (fun q8 => ?_)
                subst hQ; exact z_iret X hlocks hr dX7_tells_119
              refine z_ite (fun h9 => ?_) (fun h9 => ?_)
              · refine z_tabIn X (off := 58) (tgt := 120) dX7_tells_62 (by rw [h9]; decide) (by rw [h9]; decide) (by rw [h9]; rfl) (by decide) ?_
                refine z_aload X (q := 1) dX7_tells_120 rfl ?_
                refine z_aload X (q := 0) dX7_tells_122 rfl ?_
                refine z_callS X hK (As := [vP q1.1, vP q2.1]) (kX7_fittingNumbers l Z  b x _ _ _) hk_X7_238 ⟨rfl, rfl⟩ hd_X7_fittingNumbers.2 ⟨Nat.le_of_ble_eq_true rfl, Nat.le_of_ble_eq_true rfl⟩ ⟨Nat.le_of_ble_eq_true rfl, Nat.le_of_ble_eq_true rfl⟩ rfl rfl (Nat.le_of_ble_eq_true rfl) dX7_tells_124 (fun q10 => ?_)
                subst hQ; exact z_iret X hlocks hr dX7_tells_127
              refine z_ite (fun h11 => ?_) (fun h11 => ?_)
              · refine z_tabIn X (off := 66) (tgt := 128) dX7_tells_62 (by rw [h11]; decide) (by rw [h11]; decide) (by rw [h11]; rfl) (by decide) ?_
                refine z_aload X (q := 1) dX7_tells_128 rfl ?_
                refine z_aload X (q := 0) dX7_tells_130 rfl ?_
                refine z_callS X hK (As := [vP q1.1, vP q2.1]) (kX7_fittingDays l Z  b x _ _ _) hk_X7_241 ⟨rfl, rfl⟩ hd_X7_fittingDays.2 ⟨Nat.le_of_ble_eq_true rfl, Nat.le_of_ble_eq_true rfl⟩ ⟨Nat.le_of_ble_eq_true rfl, Nat.le_of_ble_eq_true rfl⟩ rfl rfl (Nat.le_of_ble_eq_true rfl) dX7_tells_132 (fun q12 => ?_)
                subst hQ; exact z_iret X hlocks hr dX7_tells_135
              refine z_ite (fun h13 => ?_) (fun h13 => ?_)
              · refine z_tabIn X (off := 74) (tgt := 136) dX7_tells_62 (by rw [h13]; decide) (by rw [h13]; decide) (by rw [h13]; rfl) (by decide) ?_
                refine z_aload X (q := 1) dX7_tells_136 rfl ?_
                refine z_aload X (q := 0) dX7_tells_138 rfl ?_
                refine z_callS X hK (As := [vP q1.1, vP q2.1]) (kX7_firstFittingDay l Z  b x _ _ _) hk_X7_244 ⟨rfl, rfl⟩ hd_X7_firstFittingDay.2 ⟨Nat.le_of_ble_eq_true rfl, Nat.le_of_ble_eq_true rfl⟩ ⟨Nat.le_of_ble_eq_true rfl, Nat.le_of_ble_eq_true rfl⟩ rfl rfl (Nat.le_of_ble_eq_true rfl) dX7_tells_140 (fun q14 => ?_)
                subst hQ; exact z_iret X hlocks hr dX7_tells_143
              refine z_ite (fun h15 => ?_) (fun h15 => ?_)
              · refine z_tabIn X (off := 82) (tgt := 144) dX7_tells_62 (by rw [h15]; decide) (by rw [h15]; decide) (by rw [h15]; rfl) (by decide) ?_
                refine z_aload X (q := 1) dX7_tells_144 rfl ?_
                refine z_aload X (q := 0) dX7_tells_146 rfl ?_
                refine z_callS X hK (As := [vP q1.1, vP q2.1]) (kX7_fittingThings l Z  b x _ _ _) hk_X7_247 ⟨rfl, rfl⟩ hd_X7_fittingThings.2 ⟨Nat.le_of_ble_eq_true rfl, Nat.le_of_ble_eq_true rfl⟩ ⟨Nat.le_of_ble_eq_true rfl, Nat.le_of_ble_eq_true rfl⟩ rfl rfl (Nat.le_of_ble_eq_true rfl) dX7_tells_148 (fun q16 => ?_)
                subst hQ; exact z_iret X hlocks hr dX7_tells_151
              refine z_ite (fun h17 => ?_) (fun h17 => ?_)
              · refine z_tabIn X (off := 90) (tgt := 152) dX7_tells_62 (by rw [h17]; decide) (by rw [h17]; decide) (by rw [h17]; rfl) (by decide) ?_
                refine z_aload_n X (q := 2) dX7_tells_152 rfl rfl ?_
                refine z_aload X (q := 1) dX7_tells_153 rfl ?_
                refine z_aload X (q := 0) dX7_tells_155 rfl ?_
                refine z_callV X hK (As := [vP q1.1, vP q2.1]) (ci := 7) rfl (by decide) (fun o => (kX7_fittingTexts l Z  b x o _ _ _)) hk_X7_250 ⟨rfl, rfl⟩ hd_X7_fittingTexts ⟨Nat.le_of_ble_eq_true rfl, Nat.le_of_ble_eq_true rfl⟩ ⟨Nat.le_of_ble_eq_true rfl, Nat.le_of_ble_eq_true rfl⟩ rfl rfl (Nat.le_of_ble_eq_true rfl) dX7_tells_157 (fun _ q18 _ => ?_)
                subst hQ; exact z_iret X hlocks hr dX7_tells_160
              refine z_tabOut X (tgt := 161) dX7_tells_62 (by have := lv_neT (a := 0) h5 (by decide); have := lv_neT (a := 1) h7 (by decide); have := lv_neT (a := 2) h9 (by decide); have := lv_neT (a := 3) h11 (by decide); have := lv_neT (a := 4) h13 (by decide); have := lv_neT (a := 5) h15 (by decide); have := lv_neT (a := 6) h17 (by decide); omega) (by decide) ?_
              refine z_aload_n X (q := 2) dX7_tells_161 rfl rfl ?_
              refine z_aload X (q := 1) dX7_tells_162 rfl ?_
              refine z_callV X hK (As := [vP q1.1]) (ci := 7) rfl (by decide) (fun o => (kX7_fittingAskers l Z  b x o _ _)) hk_X7_253 ⟨rfl, rfl⟩ hd_X7_fittingAskers ⟨Nat.le_of_ble_eq_true rfl, Nat.le_of_ble_eq_true rfl⟩ ⟨Nat.le_of_ble_eq_true rfl, Nat.le_of_ble_eq_true rfl⟩ rfl rfl (Nat.le_of_ble_eq_true rfl) dX7_tells_164 (fun _ q20 _ => ?_)
              subst hQ; exact z_iret X hlocks hr dX7_tells_167
            · refine z_bipush X (v := (-2 : Int32)) dX7_tells_58 (by decide) ?_
              subst hQ; exact z_iret X hlocks hr dX7_tells_60
          · refine z_bipush X (v := (-11 : Int32)) dX7_tells_45 (by decide) ?_
            subst hQ; exact z_iret X hlocks hr dX7_tells_47
        · refine z_bipush X (v := (-2 : Int32)) dX7_tells_34 (by decide) ?_
          subst hQ; exact z_iret X hlocks hr dX7_tells_36
theorem zw_507 : Cond.methodLink RX7 133 yX2_read ∈ wsL_law := zr_27 _ (by decide +kernel)
theorem zw_508 : Cond.instanceMethod yX2_read ∈ wsL_law := zr_27 _ (by decide +kernel)
theorem zw_509 : Cond.selects RX2 yX2_read yX2_read ∈ wsL_law := zr_27 _ (by decide +kernel)
theorem zw_510 : Cond.code yX2_read cX2_read 3 (some .int) ∈ wsL_law := zr_27 _ (by decide +kernel)
theorem hk_X7_133 : ∀ w ∈ ([Cond.methodLink RX7 133 yX2_read, Cond.instanceMethod yX2_read, Cond.selects RX2 yX2_read yX2_read, Cond.initialized RX2, Cond.code yX2_read cX2_read 3 (some .int)] : List Cond), w ∈ wsL_law := List.forall_mem_cons.mpr ⟨zw_507, List.forall_mem_cons.mpr ⟨zw_508, List.forall_mem_cons.mpr ⟨zw_509, List.forall_mem_cons.mpr ⟨zw_253, List.forall_mem_cons.mpr ⟨zw_510, fun _ h => absurd h List.not_mem_nil⟩⟩⟩⟩⟩
theorem hd_X2_read : yX2_read.cls = RX2 ∧ yX2_read.cls ≠ "java/lang/invoke/MethodHandle" ∧ yX2_read.cls ≠ "java/lang/invoke/VarHandle" ∧ (parseMethodDescriptor yX2_read.desc).map (fun d => d.parameters.length) = some 2 := by decide +kernel
theorem zw_511 : Cond.fieldLink RX7 49 "WellGivesOther" "reader" "LWellGivesOther$Reader;" ∈ wsL_law := zr_2 _ (by decide +kernel)
theorem hf_X7_49 : Cond.fieldLink RX7 49 "WellGivesOther" "reader" "LWellGivesOther$Reader;" ∈ wsL_law := zw_511
abbrev rmX7_text : Room := { frames := 65, cells := 0, slots := 0, locals := 4025 }
def fX7_text_j21 (this : Nat) (s0 : Option Nat) (st : zS) : Option (Int32 × zS) :=
  if s0 = none then (some ((-4 : Int32), st)) else ((zok spX st (some this) 7).bind fun o1 => (zok spX st (some this) 7).bind fun o2 => (zok spX st (st.2.2.2 o1 7) 2).bind fun o11 => (fX2_read o11 (st.2.1 o2 13) s0 st).bind fun q3 => zlet (q3.1) fun v4 => (zok spX q3.2 (some this) 7).bind fun o5 => zlet (zp q3.2 o5 13 (0 : Int32)) fun st6 => if v4 = (-1 : Int32) then ((zok spX st6 (some this) 7).bind fun o7 => (zok spX st6 (some this) 7).bind fun o8 => zlet (zp st6 o8 11 ((st6.2.1 o7 11) + (1 : Int32))) fun st9 => (zok spX st9 (some this) 7).bind fun o10 => some (((st9.2.1 o10 11) - (1 : Int32)), st9)) else (some (((-100 : Int32) - v4), st6)))
def fX7_text (this : Nat) (st : zS) : Option (Int32 × zS) :=
  (zok spX st (some this) 7).bind fun o12 => if (6 : Int32) ≤ (st.2.1 o12 11) then (fX7_text_j21 this none st) else ((zok spX st (some this) 7).bind fun o13 => (zok spX st (some this) 7).bind fun o15 => (fX7_textAt o15 (st.2.1 o13 11) st).bind fun q14 => fX7_text_j21 this q14.1 q14.2)
set_option maxRecDepth 100000 in
set_option maxHeartbeats 4000000 in
theorem kX7_text (l : Launch) (Z : zZ) (b : Nat) (x : Option Nat) (this : Nat) (st : zS) : zC l Z spX b x yX7_text (.code yX7_text cX7_text 3 (some .int)) (rmX7_text) rI [vP (some this)] st (fX7_text this st) := by
  refine z_start (own := RX7) rfl (by decide +kernel) (Nat.le_of_ble_eq_true rfl) rfl (fun p e s m args below meth c res Q A X hK hr hlocks hQ => ?_)
  have J21 : ∀ (s0 : Option Nat) (st : zS), zs p l e (rmX7_text) s m args below meth c Q Z spX b x A 3 0 0 res (fX7_text_j21 this s0 st) 21 [(0, vP (some this))] [vP s0] st := by
    intro s0 st
    rw [fX7_text_j21]
    refine z_astore_n X dX7_text_21 rfl (Nat.le_of_ble_eq_true rfl) rfl ?_
    refine z_aload_n X (q := 0) dX7_text_22 rfl rfl ?_
    refine z_ifnonnull X (tgt := 29) dX7_text_23 (by decide) (fun _ => ?_) (fun _ => ?_)
    · refine z_aload_n X (q := 1) dX7_text_29 rfl rfl ?_
      refine z_getr X hK (N := 14) (ci := 7) (k := 7) rfl (by decide) inlX7 (by decide) hf_X7_49 rfl spX_X7 rfl dX7_text_30 (fun o1 _ => ?_)
      refine z_aload_n X (q := 1) dX7_text_33 rfl rfl ?_
      refine z_geti X hK (N := 14) (ci := 7) (k := 13) rfl (by decide) inlX7 (by decide) hf_X7_130 rfl spX_X7 rfl dX7_text_34 (fun o2 _ => ?_)
      refine z_aload_n X (q := 0) dX7_text_37 rfl rfl ?_
      refine z_callV X hK (As := [vI (st.2.1 o2 13), vP s0]) (ci := 2) rfl (by decide) (fun o => (kX2_read l Z  b x o _ _ _)) hk_X7_133 ⟨rfl, rfl⟩ hd_X2_read ⟨Nat.le_of_ble_eq_true rfl, Nat.le_of_ble_eq_true rfl⟩ ⟨Nat.le_of_ble_eq_true rfl, Nat.le_of_ble_eq_true rfl⟩ rfl rfl (Nat.le_of_ble_eq_true rfl) dX7_text_38 (fun _ q3 _ => ?_)
      refine z_name (fun v4 => ?_)
      refine z_istore_n X dX7_text_41 rfl (Nat.le_of_ble_eq_true rfl) rfl ?_
      refine z_aload_n X (q := 2) dX7_text_42 rfl rfl ?_
      refine z_iconst X (v := (0 : Int32)) dX7_text_43 (by decide) ?_
      refine z_puti X hK (N := 14) (ci := 7) (k := 13) rfl (by decide) inlX7 tyX7 tyX7_ok nmX7 (by decide) hf_X7_130 rfl rfl spX_X7 rfl (by decide +kernel) dX7_text_44 (fun o5 st6 _ => ?_)
      refine z_iload_n X (q := 0) dX7_text_47 rfl rfl ?_
      refine z_iconst X (v := (-1 : Int32)) dX7_text_48 (by decide) ?_
      refine z_icmp_eq X (tgt := 57) dX7_text_49 (by decide) (fun _ => ?_) (fun _ => ?_)
      · refine z_aload_n X (q := 2) dX7_text_57 rfl rfl ?_
        refine z_dup X dX7_text_58 rfl ?_
        refine z_geti X hK (N := 14) (ci := 7) (k := 11) rfl (by decide) inlX7 (by decide) hf_X7_60 rfl spX_X7 rfl dX7_text_59 (fun o7 _ => ?_)
        refine z_iconst X (v := (1 : Int32)) dX7_text_62 (by decide) ?_
        refine z_iadd X dX7_text_63 ?_
        refine z_puti X hK (N := 14) (ci := 7) (k := 11) rfl (by decide) inlX7 tyX7 tyX7_ok nmX7 (by decide) hf_X7_60 rfl rfl spX_X7 rfl (by decide +kernel) dX7_text_64 (fun o8 st9 _ => ?_)
        refine z_aload_n X (q := 2) dX7_text_67 rfl rfl ?_
        refine z_geti X hK (N := 14) (ci := 7) (k := 11) rfl (by decide) inlX7 (by decide) hf_X7_60 rfl spX_X7 rfl dX7_text_68 (fun o10 _ => ?_)
        refine z_iconst X (v := (1 : Int32)) dX7_text_71 (by decide) ?_
        refine z_isub X dX7_text_72 ?_
        subst hQ; exact z_iret X hlocks hr dX7_text_73
      · refine z_bipush X (v := (-100 : Int32)) dX7_text_52 (by decide) ?_
        refine z_iload_n X (q := 0) dX7_text_54 rfl rfl ?_
        refine z_isub X dX7_text_55 ?_
        subst hQ; exact z_iret X hlocks hr dX7_text_56
    · refine z_bipush X (v := (-4 : Int32)) dX7_text_26 (by decide) ?_
      subst hQ; exact z_iret X hlocks hr dX7_text_28
  rw [fX7_text]
  refine z_aload_n X (q := 0) dX7_text_0 rfl rfl ?_
  refine z_geti X hK (N := 14) (ci := 7) (k := 11) rfl (by decide) inlX7 (by decide) hf_X7_60 rfl spX_X7 rfl dX7_text_1 (fun o12 _ => ?_)
  refine z_bipush X (v := (6 : Int32)) dX7_text_4 (by decide) ?_
  refine z_icmp_ge X (tgt := 20) dX7_text_6 (by decide) (fun _ => ?_) (fun _ => ?_)
  · refine z_null X dX7_text_20 ?_
    exact z_sub [0] (J21 _ _) rfl
  · refine z_aload_n X (q := 0) dX7_text_9 rfl rfl ?_
    refine z_aload_n X (q := 0) dX7_text_10 rfl rfl ?_
    refine z_geti X hK (N := 14) (ci := 7) (k := 11) rfl (by decide) inlX7 (by decide) hf_X7_60 rfl spX_X7 rfl dX7_text_11 (fun o13 _ => ?_)
    refine z_callV X hK (As := [vI (st.2.1 o13 11)]) (ci := 7) rfl (by decide) (fun o => (kX7_textAt l Z  b x o _ _)) hk_X7_67 ⟨rfl, rfl⟩ hd_X7_textAt ⟨Nat.le_of_ble_eq_true rfl, Nat.le_of_ble_eq_true rfl⟩ ⟨Nat.le_of_ble_eq_true rfl, Nat.le_of_ble_eq_true rfl⟩ rfl rfl (Nat.le_of_ble_eq_true rfl) dX7_text_14 (fun _ q14 _ => ?_)
    refine z_goto X (tgt := 21) dX7_text_17 (by decide) ?_
    exact z_sub [0] (J21 _ _) rfl
theorem zw_512 : Cond.methodLink RX7 105 yX7_neverGiven ∈ wsL_law := zr_20 _ (by decide +kernel)
theorem zw_513 : Cond.instanceMethod yX7_neverGiven ∈ wsL_law := zr_20 _ (by decide +kernel)
theorem zw_514 : Cond.selects RX7 yX7_neverGiven yX7_neverGiven ∈ wsL_law := zr_20 _ (by decide +kernel)
theorem zw_515 : Cond.code yX7_neverGiven cX7_neverGiven 6 (some .int) ∈ wsL_law := zr_20 _ (by decide +kernel)
theorem hk_X7_105 : ∀ w ∈ ([Cond.methodLink RX7 105 yX7_neverGiven, Cond.instanceMethod yX7_neverGiven, Cond.selects RX7 yX7_neverGiven yX7_neverGiven, Cond.initialized RX7, Cond.code yX7_neverGiven cX7_neverGiven 6 (some .int)] : List Cond), w ∈ wsL_law := List.forall_mem_cons.mpr ⟨zw_512, List.forall_mem_cons.mpr ⟨zw_513, List.forall_mem_cons.mpr ⟨zw_514, List.forall_mem_cons.mpr ⟨zw_322, List.forall_mem_cons.mpr ⟨zw_515, fun _ h => absurd h List.not_mem_nil⟩⟩⟩⟩⟩
theorem hd_X7_neverGiven : yX7_neverGiven.cls = RX7 ∧ yX7_neverGiven.cls ≠ "java/lang/invoke/MethodHandle" ∧ yX7_neverGiven.cls ≠ "java/lang/invoke/VarHandle" ∧ (parseMethodDescriptor yX7_neverGiven.desc).map (fun d => d.parameters.length) = some 1 := by decide +kernel
abbrev rmX7_told : Room := { frames := 6, cells := 0, slots := 0, locals := 161 }
def fX7_told (this : Nat) (a1 : Int32) (a2 : Int32) (st : zS) : Option (Int32 × zS) :=
  if a2 = 0 then ((zok spX st (some this) 7).bind fun o11 => some ((st.2.1 o11 9), st)) else (if a2 = (7 : Int32) then ((fX7_isThing a1 st).bind fun q7 => if q7.1 = 0 then (some ((-2 : Int32), q7.2)) else ((zok spX q7.2 (some this) 7).bind fun o8 => (zok spX q7.2 (q7.2.2.2.2 o8 0) 9).bind fun o9 => (zix spX o9 a1).bind fun j10 => some ((q7.2.2.1 o9 j10), q7.2))) else ((zok spX st (some this) 7).bind fun o6 => (fX7_seat o6 a1 st).bind fun q1 => if q1.1 = none then (some ((-2 : Int32), q1.2)) else (if a2 < 0 then (some ((-2 : Int32), q1.2)) else (if a2 ≤ (7 : Int32) then (if a2 = (6 : Int32) then ((zok spX q1.2 (some this) 7).bind fun o5 => (fX7_neverGiven o5 a1 q1.2).bind fun q4 => some (q4.1, q4.2)) else ((zok spX q1.2 q1.1 0).bind fun o3 => (fX0_tell o3 a2 q1.2).bind fun q2 => some (q2.1, q2.2))) else (some ((-2 : Int32), q1.2))))))
set_option maxRecDepth 100000 in
set_option maxHeartbeats 4000000 in
theorem kX7_told (l : Launch) (Z : zZ) (b : Nat) (x : Option Nat) (this : Nat) (a1 : Int32) (a2 : Int32) (st : zS) : zC l Z spX b x yX7_told (.code yX7_told cX7_told 4 (some .int)) (rmX7_told) rI [vP (some this), vI a1, vI a2] st (fX7_told this a1 a2 st) := by
  refine z_start (own := RX7) rfl (by decide +kernel) (Nat.le_of_ble_eq_true rfl) rfl (fun p e s m args below meth c res Q A X hK hr hlocks hQ => ?_)
  rw [fX7_told]
  refine z_iload_n X (q := 2) dX7_told_0 rfl rfl ?_
  refine z_if_ne X (tgt := 9) dX7_told_1 (by decide) (fun _ => ?_) (fun _ => ?_)
  · refine z_iload_n X (q := 2) dX7_told_9 rfl rfl ?_
    refine z_bipush X (v := (7 : Int32)) dX7_told_10 (by decide) ?_
    refine z_icmp_ne X (tgt := 34) dX7_told_12 (by decide) (fun _ => ?_) (fun _ => ?_)
    · refine z_aload_n X (q := 0) dX7_told_34 rfl rfl ?_
      refine z_iload_n X (q := 1) dX7_told_35 rfl rfl ?_
      refine z_callV X hK (As := [vI a1]) (ci := 7) rfl (by decide) (fun o => (kX7_seat l Z  b x o _ _)) hk_X7_88 ⟨rfl, rfl⟩ hd_X7_seat ⟨Nat.le_of_ble_eq_true rfl, Nat.le_of_ble_eq_true rfl⟩ ⟨Nat.le_of_ble_eq_true rfl, Nat.le_of_ble_eq_true rfl⟩ rfl rfl (Nat.le_of_ble_eq_true rfl) dX7_told_36 (fun _ q1 _ => ?_)
      refine z_astore_n X dX7_told_39 rfl (Nat.le_of_ble_eq_true rfl) rfl ?_
      refine z_aload_n X (q := 0) dX7_told_40 rfl rfl ?_
      refine z_ifnull X (tgt := 54) dX7_told_41 (by decide) (fun _ => ?_) (fun _ => ?_)
      · refine z_bipush X (v := (-2 : Int32)) dX7_told_54 (by decide) ?_
        subst hQ; exact z_iret X hlocks hr dX7_told_56
      · refine z_iload_n X (q := 3) dX7_told_44 rfl rfl ?_
        refine z_if_lt X (tgt := 54) dX7_told_45 (by decide) (fun _ => ?_) (fun _ => ?_)
        · refine z_bipush X (v := (-2 : Int32)) dX7_told_54 (by decide) ?_
          subst hQ; exact z_iret X hlocks hr dX7_told_56
        · refine z_iload_n X (q := 3) dX7_told_48 rfl rfl ?_
          refine z_bipush X (v := (7 : Int32)) dX7_told_49 (by decide) ?_
          refine z_icmp_le X (tgt := 57) dX7_told_51 (by decide) (fun _ => ?_) (fun _ => ?_)
          · refine z_iload_n X (q := 3) dX7_told_57 rfl rfl ?_
            refine z_bipush X (v := (6 : Int32)) dX7_told_58 (by decide) ?_
            refine z_icmp_ne X (tgt := 71) dX7_told_60 (by decide) (fun _ => ?_) (fun _ => ?_)
            · refine z_aload_n X (q := 0) dX7_told_71 rfl rfl ?_
              refine z_iload_n X (q := 3) dX7_told_72 rfl rfl ?_
              refine z_callV X hK (As := [vI a2]) (ci := 0) rfl (by decide) (fun o => (kX0_tell l Z  b x o _ _)) hk_X7_92 ⟨rfl, rfl⟩ hd_X0_tell ⟨Nat.le_of_ble_eq_true rfl, Nat.le_of_ble_eq_true rfl⟩ ⟨Nat.le_of_ble_eq_true rfl, Nat.le_of_ble_eq_true rfl⟩ rfl rfl (Nat.le_of_ble_eq_true rfl) dX7_told_73 (fun _ q2 _ => ?_)
              subst hQ; exact z_iret X hlocks hr dX7_told_76
            · refine z_aload_n X (q := 1) dX7_told_63 rfl rfl ?_
              refine z_iload_n X (q := 2) dX7_told_64 rfl rfl ?_
              refine z_callV X hK (As := [vI a1]) (ci := 7) rfl (by decide) (fun o => (kX7_neverGiven l Z  b x o _ _)) hk_X7_105 ⟨rfl, rfl⟩ hd_X7_neverGiven ⟨Nat.le_of_ble_eq_true rfl, Nat.le_of_ble_eq_true rfl⟩ ⟨Nat.le_of_ble_eq_true rfl, Nat.le_of_ble_eq_true rfl⟩ rfl rfl (Nat.le_of_ble_eq_true rfl) dX7_told_65 (fun _ q4 _ => ?_)
              refine z_goto X (tgt := 76) dX7_told_68 (by decide) ?_
              subst hQ; exact z_iret X hlocks hr dX7_told_76
          · refine z_bipush X (v := (-2 : Int32)) dX7_told_54 (by decide) ?_
            subst hQ; exact z_iret X hlocks hr dX7_told_56
    · refine z_iload_n X (q := 1) dX7_told_15 rfl rfl ?_
      refine z_callS X hK (As := [vI a1]) (kX7_isThing l Z  b x _ _) hk_X7_77 ⟨rfl, rfl⟩ hd_X7_isThing.2 ⟨Nat.le_of_ble_eq_true rfl, Nat.le_of_ble_eq_true rfl⟩ ⟨Nat.le_of_ble_eq_true rfl, Nat.le_of_ble_eq_true rfl⟩ rfl rfl (Nat.le_of_ble_eq_true rfl) dX7_told_16 (fun q7 => ?_)
      refine z_if_eq X (tgt := 31) dX7_told_19 (by decide) (fun _ => ?_) (fun _ => ?_)
      · refine z_bipush X (v := (-2 : Int32)) dX7_told_31 (by decide) ?_
        subst hQ; exact z_iret X hlocks hr dX7_told_33
      · refine z_aload_n X (q := 0) dX7_told_22 rfl rfl ?_
        refine z_getr X hK (N := 14) (ci := 7) (k := 0) rfl (by decide) inlX7 (by decide) hf_X7_9 rfl spX_X7 rfl dX7_told_23 (fun o8 _ => ?_)
        refine z_iload_n X (q := 1) dX7_told_26 rfl rfl ?_
        refine z_iald X hK dX7_told_27 (fun o9 j10 _ _ => ?_)
        refine z_goto X (tgt := 33) dX7_told_28 (by decide) ?_
        subst hQ; exact z_iret X hlocks hr dX7_told_33
  · refine z_aload_n X (q := 0) dX7_told_4 rfl rfl ?_
    refine z_geti X hK (N := 14) (ci := 7) (k := 9) rfl (by decide) inlX7 (by decide) hf_X7_85 rfl spX_X7 rfl dX7_told_5 (fun o11 _ => ?_)
    subst hQ; exact z_iret X hlocks hr dX7_told_8
