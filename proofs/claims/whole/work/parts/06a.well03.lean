theorem zw_389 : Cond.methodLink RX7 105 yX7_neverGiven ∈ wsL_law := zr_20 _ (by decide +kernel)
theorem zw_390 : Cond.instanceMethod yX7_neverGiven ∈ wsL_law := zr_20 _ (by decide +kernel)
theorem zw_391 : Cond.selects RX7 yX7_neverGiven yX7_neverGiven ∈ wsL_law := zr_20 _ (by decide +kernel)
theorem zw_392 : Cond.code yX7_neverGiven cX7_neverGiven 6 (some .int) ∈ wsL_law := zr_20 _ (by decide +kernel)
theorem hk_X7_105 : ∀ w ∈ ([Cond.methodLink RX7 105 yX7_neverGiven, Cond.instanceMethod yX7_neverGiven, Cond.selects RX7 yX7_neverGiven yX7_neverGiven, Cond.initialized RX7, Cond.code yX7_neverGiven cX7_neverGiven 6 (some .int)] : List Cond), w ∈ wsL_law := List.forall_mem_cons.mpr ⟨zw_389, List.forall_mem_cons.mpr ⟨zw_390, List.forall_mem_cons.mpr ⟨zw_391, List.forall_mem_cons.mpr ⟨zw_207, List.forall_mem_cons.mpr ⟨zw_392, fun _ h => absurd h List.not_mem_nil⟩⟩⟩⟩⟩
abbrev rmX7_told : Room := { frames := 6, cells := 0, slots := 0, locals := 161 }
def fX7_told (this : Nat) (a1 : Int32) (a2 : Int32) (st : zS) : Option (Int32 × zS) :=
  if a2 = 0 then ((zok spX st (some this) 7).bind fun o11 => some ((st.2.1 o11 9), st)) else (if a2 = (7 : Int32) then ((fX7_isThing a1 st).bind fun q7 => if q7.1 = 0 then (some ((-2 : Int32), q7.2)) else ((zok spX q7.2 (some this) 7).bind fun o8 => (zok spX q7.2 (q7.2.2.2.2 o8 0) 9).bind fun o9 => (zix spX o9 a1).bind fun j10 => some ((q7.2.2.1 o9 j10), q7.2))) else ((zok spX st (some this) 7).bind fun o6 => (fX7_seat o6 a1 st).bind fun q1 => if q1.1 = none then (some ((-2 : Int32), q1.2)) else (if a2 < 0 then (some ((-2 : Int32), q1.2)) else (if a2 ≤ (7 : Int32) then (if a2 = (6 : Int32) then ((zok spX q1.2 (some this) 7).bind fun o5 => (fX7_neverGiven o5 a1 q1.2).bind fun q4 => some (q4.1, q4.2)) else ((zok spX q1.2 q1.1 0).bind fun o3 => (fX0_tell o3 a2 q1.2).bind fun q2 => some (q2.1, q2.2))) else (some ((-2 : Int32), q1.2))))))
set_option maxRecDepth 100000 in
set_option maxHeartbeats 4000000 in
theorem kX7_told (l : Launch) (Z : zZ) (b : Nat) (x : Option Nat) (this : Nat) (a1 : Int32) (a2 : Int32) (st : zS) : zC l Z spX b x yX7_told (.code yX7_told cX7_told 4 (some .int)) rmX7_told rI [vP (some this), vI a1, vI a2] st (fX7_told this a1 a2 st) := by
  refine z_start (own := RX7) rfl (by decide +kernel) (Nat.le_of_ble_eq_true rfl) rfl (fun p e s m args below meth c res Q A X hK hr hlocks hQ => ?_)
  rw [fX7_told]
  refine z_iload_n X (q := 2) dX7_told_0 rfl rfl ?_
  refine z_if_ne X (tgt := 9) dX7_told_1 (by decide) (fun _ => ?_) (fun _ => ?_)
  · refine z_iload_n X (q := 2) dX7_told_9 rfl rfl ?_
    refine z_bipush X (v := (7 : Int32)) dX7_told_10 (by decide) ?_
    refine z_icmp_ne X (tgt := 34) dX7_told_12 (by decide) (fun _ => ?_) (fun _ => ?_)
    · refine z_aload_n X (q := 0) dX7_told_34 rfl rfl ?_
      refine z_iload_n X (q := 1) dX7_told_35 rfl rfl ?_
      refine z_callV X hK (As := [vI a1]) (ci := 7) rfl (by decide) (fun o => (kX7_seat l Z  b x o _ _)) hk_X7_88 ⟨rfl, rfl⟩ (by decide +kernel) ⟨Nat.le_of_ble_eq_true rfl, Nat.le_of_ble_eq_true rfl⟩ ⟨Nat.le_of_ble_eq_true rfl, Nat.le_of_ble_eq_true rfl⟩ rfl rfl (Nat.le_of_ble_eq_true rfl) dX7_told_36 (fun _ q1 _ => ?_)
      refine z_astore_n X dX7_told_39 rfl (Nat.le_of_ble_eq_true rfl) rfl ?_
      refine z_aload_n X (q := 0) dX7_told_40 rfl rfl ?_
      refine z_ifnull X (tgt := 54) dX7_told_41 (by decide) (fun _ => ?_) (fun _ => ?_)
      · refine z_bipush X (v := (-2 : Int32)) dX7_told_54 (by decide) ?_
        subst hQ; exact z_iret X hlocks hr dX7_told_56
      · refine z_iload_n X (q := 3) dX7_told_44 rfl rfl ?_
        refine z_if_lt X (tgt := 54) dX7_told_45 (by decide) (fun _ => ?_) (fun _ => ?_)
        · refine z_bipush X (v := (-2 : Int32)) dX7_told_54 (by decide) ?_
          subst hQ; exact z_iret X hlocks hr dX7_told_56
        · refine z_iload_n X (q := 3) dX7_told_48 rfl rfl ?_
          refine z_bipush X (v := (7 : Int32)) dX7_told_49 (by decide) ?_
          refine z_icmp_le X (tgt := 57) dX7_told_51 (by decide) (fun _ => ?_) (fun _ => ?_)
          · refine z_iload_n X (q := 3) dX7_told_57 rfl rfl ?_
            refine z_bipush X (v := (6 : Int32)) dX7_told_58 (by decide) ?_
            refine z_icmp_ne X (tgt := 71) dX7_told_60 (by decide) (fun _ => ?_) (fun _ => ?_)
            · refine z_aload_n X (q := 0) dX7_told_71 rfl rfl ?_
              refine z_iload_n X (q := 3) dX7_told_72 rfl rfl ?_
              refine z_callV X hK (As := [vI a2]) (ci := 0) rfl (by decide) (fun o => (kX0_tell l Z  b x o _ _)) hk_X7_92 ⟨rfl, rfl⟩ (by decide +kernel) ⟨Nat.le_of_ble_eq_true rfl, Nat.le_of_ble_eq_true rfl⟩ ⟨Nat.le_of_ble_eq_true rfl, Nat.le_of_ble_eq_true rfl⟩ rfl rfl (Nat.le_of_ble_eq_true rfl) dX7_told_73 (fun _ q2 _ => ?_)
              subst hQ; exact z_iret X hlocks hr dX7_told_76
            · refine z_aload_n X (q := 1) dX7_told_63 rfl rfl ?_
              refine z_iload_n X (q := 2) dX7_told_64 rfl rfl ?_
              refine z_callV X hK (As := [vI a1]) (ci := 7) rfl (by decide) (fun o => (kX7_neverGiven l Z  b x o _ _)) hk_X7_105 ⟨rfl, rfl⟩ (by decide +kernel) ⟨Nat.le_of_ble_eq_true rfl, Nat.le_of_ble_eq_true rfl⟩ ⟨Nat.le_of_ble_eq_true rfl, Nat.le_of_ble_eq_true rfl⟩ rfl rfl (Nat.le_of_ble_eq_true rfl) dX7_told_65 (fun _ q4 _ => ?_)
              refine z_goto X (tgt := 76) dX7_told_68 (by decide) ?_
              subst hQ; exact z_iret X hlocks hr dX7_told_76
          · refine z_bipush X (v := (-2 : Int32)) dX7_told_54 (by decide) ?_
            subst hQ; exact z_iret X hlocks hr dX7_told_56
    · refine z_iload_n X (q := 1) dX7_told_15 rfl rfl ?_
      refine z_callS X hK (As := [vI a1]) (kX7_isThing l Z  b x _ _) hk_X7_77 ⟨rfl, rfl⟩ (by decide +kernel) ⟨Nat.le_of_ble_eq_true rfl, Nat.le_of_ble_eq_true rfl⟩ ⟨Nat.le_of_ble_eq_true rfl, Nat.le_of_ble_eq_true rfl⟩ rfl rfl (Nat.le_of_ble_eq_true rfl) dX7_told_16 (fun q7 => ?_)
      refine z_if_eq X (tgt := 31) dX7_told_19 (by decide) (fun _ => ?_) (fun _ => ?_)
      · refine z_bipush X (v := (-2 : Int32)) dX7_told_31 (by decide) ?_
        subst hQ; exact z_iret X hlocks hr dX7_told_33
      · refine z_aload_n X (q := 0) dX7_told_22 rfl rfl ?_
        refine z_getr X hK (N := 14) (ci := 7) (k := 0) rfl (by decide) inlX7 (by decide) hf_X7_9 rfl spX_X7 rfl dX7_told_23 (fun o8 _ => ?_)
        refine z_iload_n X (q := 1) dX7_told_26 rfl rfl ?_
        refine z_iald X hK dX7_told_27 (fun o9 j10 _ _ => ?_)
        refine z_goto X (tgt := 33) dX7_told_28 (by decide) ?_
        subst hQ; exact z_iret X hlocks hr dX7_told_33
  · refine z_aload_n X (q := 0) dX7_told_4 rfl rfl ?_
    refine z_geti X hK (N := 14) (ci := 7) (k := 9) rfl (by decide) inlX7 (by decide) hf_X7_85 rfl spX_X7 rfl dX7_told_5 (fun o11 _ => ?_)
    subst hQ; exact z_iret X hlocks hr dX7_told_8
