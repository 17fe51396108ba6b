theorem zw_639 : Cond.methodLink RX8 260 yX8_both3 ∈ wsL_law := zr_17 _ (by decide +kernel)
theorem zw_640 : Cond.instanceMethod yX8_both3 ∈ wsL_law := zr_17 _ (by decide +kernel)
theorem zw_641 : Cond.selects RX8 yX8_both3 yX8_both3 ∈ wsL_law := zr_17 _ (by decide +kernel)
theorem zw_642 : Cond.code yX8_both3 cX8_both3 3 (some .int) ∈ wsL_law := zr_17 _ (by decide +kernel)
theorem hk_X8_260 : ∀ w ∈ ([Cond.methodLink RX8 260 yX8_both3, Cond.instanceMethod yX8_both3, Cond.selects RX8 yX8_both3 yX8_both3, Cond.initialized RX8, Cond.code yX8_both3 cX8_both3 3 (some .int)] : List Cond), w ∈ wsL_law := List.forall_mem_cons.mpr ⟨zw_639, List.forall_mem_cons.mpr ⟨zw_640, List.forall_mem_cons.mpr ⟨zw_641, List.forall_mem_cons.mpr ⟨zw_525, List.forall_mem_cons.mpr ⟨zw_642, fun _ h => absurd h List.not_mem_nil⟩⟩⟩⟩⟩
theorem hd_X8_both3 : yX8_both3.cls = RX8 ∧ yX8_both3.cls ≠ "java/lang/invoke/MethodHandle" ∧ yX8_both3.cls ≠ "java/lang/invoke/VarHandle" ∧ (parseMethodDescriptor yX8_both3.desc).map (fun d => d.parameters.length) = some 0 := by decide +kernel
abbrev rmX8_either3 : Room := { frames := 22, cells := 0, slots := 0, locals := 505 }
def fX8_either3_j44 (this : Nat) (k5 : Int32 → zS → Option (Int32 × zS)) (s0 : Int32) (st : zS) : Option (Int32 × zS) :=
  k5 s0 st
def fX8_either3_j39 (this : Nat) (k5 : Int32 → zS → Option (Int32 × zS)) (st : zS) : Option (Int32 × zS) :=
  fX8_either3_j44 this k5 (1 : Int32) st
def fX8_either3_L5 (this : Nat) : Nat → Int32 → zS → Option (Int32 × zS)
  | 0, _, _ => none
  | n + 1, y1, st => (zok spM st (some this) 8).bind fun o7 => (fX8_isWord o7 (111 : Int32) (114 : Int32) (0 : Int32) (0 : Int32) (0 : Int32) (0 : Int32) (0 : Int32) (0 : Int32) st).bind fun q1 => if q1.1 = 0 then (some (y1, q1.2)) else ((zok spM q1.2 (some this) 8).bind fun o6 => (fX8_next o6 q1.2).bind fun q2 => (zok spM q2.2 (some this) 8).bind fun o5 => (fX8_both3 o5 q2.2).bind fun q3 => zlet (q3.1) fun v4 => if y1 = 0 then (if v4 = 0 then (fX8_either3_j44 this (fX8_either3_L5 this n) (0 : Int32) q3.2) else (fX8_either3_j39 this (fX8_either3_L5 this n) q3.2)) else (fX8_either3_j39 this (fX8_either3_L5 this n) q3.2))
def fX8_either3 (this : Nat) (st : zS) : Option (Int32 × zS) :=
  (zok spM st (some this) 8).bind fun o10 => (fX8_both3 o10 st).bind fun q8 => zlet (q8.1) fun v9 => fX8_either3_L5 this zF v9 q8.2
set_option maxRecDepth 100000 in
set_option maxHeartbeats 4000000 in
theorem kX8_either3 (l : Launch) (Z : zZ) (b : Nat) (x : Option Nat) (this : Nat) (st : zS) : zC l Z spM b x yX8_either3 (.code yX8_either3 cX8_either3 3 (some .int)) (rmX8_either3) rI [vP (some this)] st (fX8_either3 this st) := by
  refine z_start (own := RX8) rfl (by decide +kernel) (Nat.le_of_ble_eq_true rfl) rfl (fun p e s m args below meth c res Q A X hK hr hlocks hQ => ?_)
  have J5 : ∀ (n5 : Nat) (y1 : Int32) (st : zS), zs p l e (rmX8_either3) s m args below meth c Q Z spM b x A 3 0 0 res (fX8_either3_L5 this n5 y1 st) 5 [(0, vP (some this)), (1, vI y1)] [] st := by
    intro n5
    induction n5 with
    | zero => intros; exact z_none
    | succ n5 ih5 =>
      have J44 : ∀ (s0 : Int32) (st : zS), zs p l e (rmX8_either3) s m args below meth c Q Z spM b x A 3 0 0 res (fX8_either3_j44 this (fX8_either3_L5 this n5) s0 st) 44 [(0, vP (some this))] [vI s0] st := by
        intro s0 st
        rw [fX8_either3_j44]
        refine z_istore_n X dX8_either3_44 rfl (Nat.le_of_ble_eq_true rfl) rfl ?_
        refine z_goto X (tgt := 5) dX8_either3_45 (by decide) ?_
        exact z_sub [1, 0] (ih5 _ _) rfl
      have J39 : ∀ (st : zS), zs p l e (rmX8_either3) s m args below meth c Q Z spM b x A 3 0 0 res (fX8_either3_j39 this (fX8_either3_L5 this n5) st) 39 [(0, vP (some this))] [] st := by
        intro  st
        rw [fX8_either3_j39]
        refine z_iconst X (v := (1 : Int32)) dX8_either3_39 (by decide) ?_
        refine z_goto X (tgt := 44) dX8_either3_40 (by decide) ?_
        exact z_sub [0] (J44 _ _) rfl
      intro y1 st
      rw [fX8_either3_L5]
      refine z_aload_n X (q := 0) dX8_either3_5 rfl rfl ?_
      refine z_bipush X (v := (111 : Int32)) dX8_either3_6 (by decide) ?_
      refine z_bipush X (v := (114 : Int32)) dX8_either3_8 (by decide) ?_
      refine z_iconst X (v := (0 : Int32)) dX8_either3_10 (by decide) ?_
      refine z_iconst X (v := (0 : Int32)) dX8_either3_11 (by decide) ?_
      refine z_iconst X (v := (0 : Int32)) dX8_either3_12 (by decide) ?_
      refine z_iconst X (v := (0 : Int32)) dX8_either3_13 (by decide) ?_
      refine z_iconst X (v := (0 : Int32)) dX8_either3_14 (by decide) ?_
      refine z_iconst X (v := (0 : Int32)) dX8_either3_15 (by decide) ?_
      refine z_callV X hK (As := [vI (111 : Int32), vI (114 : Int32), vI (0 : Int32), vI (0 : Int32), vI (0 : Int32), vI (0 : Int32), vI (0 : Int32), vI (0 : Int32)]) (ci := 8) rfl (by decide) (fun o => (kX8_isWord l Z  b x o _ _ _ _ _ _ _ _ _)) hk_X8_175 ⟨rfl, rfl⟩ hd_X8_isWord ⟨Nat.le_of_ble_eq_true rfl, Nat.le_of_ble_eq_true rfl⟩ ⟨Nat.le_of_ble_eq_true rfl, Nat.le_of_ble_eq_true rfl⟩ rfl rfl (Nat.le_of_ble_eq_true rfl) dX8_either3_16 (fun _ q1 _ => ?_)
      refine z_if_eq X (tgt := 48) dX8_either3_19 (by decide) (fun _ => ?_) (fun _ => ?_)
      · refine z_iload_n X (q := 1) dX8_either3_48 rfl rfl ?_
        subst hQ; exact z_iret X hlocks hr dX8_either3_49
      · refine z_aload_n X (q := 0) dX8_either3_22 rfl rfl ?_
        refine z_callV X hK (As := []) (ci := 8) rfl (by decide) (fun o => (kX8_next l Z  b x o _)) hk_X8_172 ⟨rfl, rfl⟩ hd_X8_next ⟨Nat.le_of_ble_eq_true rfl, Nat.le_of_ble_eq_true rfl⟩ ⟨Nat.le_of_ble_eq_true rfl, Nat.le_of_ble_eq_true rfl⟩ rfl rfl (Nat.le_of_ble_eq_true rfl) dX8_either3_23 (fun _ q2 _ => ?_)
        refine z_aload_n X (q := 0) dX8_either3_26 rfl rfl ?_
        refine z_callV X hK (As := []) (ci := 8) rfl (by decide) (fun o => (kX8_both3 l Z  b x o _)) hk_X8_260 ⟨rfl, rfl⟩ hd_X8_both3 ⟨Nat.le_of_ble_eq_true rfl, Nat.le_of_ble_eq_true rfl⟩ ⟨Nat.le_of_ble_eq_true rfl, Nat.le_of_ble_eq_true rfl⟩ rfl rfl (Nat.le_of_ble_eq_true rfl) dX8_either3_27 (fun _ q3 _ => ?_)
        refine z_name (fun v4 => ?_)
        refine z_istore_n X dX8_either3_30 rfl (Nat.le_of_ble_eq_true rfl) rfl ?_
        refine z_iload_n X (q := 2) dX8_either3_31 rfl rfl ?_
        refine z_if_ne X (tgt := 39) dX8_either3_32 (by decide) (fun _ => ?_) (fun _ => ?_)
        · exact z_sub [1] (J39  _) rfl
        · refine z_iload_n X (q := 0) dX8_either3_35 rfl rfl ?_
          refine z_if_eq X (tgt := 43) dX8_either3_36 (by decide) (fun _ => ?_) (fun _ => ?_)
          · refine z_iconst X (v := (0 : Int32)) dX8_either3_43 (by decide) ?_
            exact z_sub [1] (J44 _ _) rfl
          · exact z_sub [1] (J39  _) rfl
  rw [fX8_either3]
  refine z_aload_n X (q := 0) dX8_either3_0 rfl rfl ?_
  refine z_callV X hK (As := []) (ci := 8) rfl (by decide) (fun o => (kX8_both3 l Z  b x o _)) hk_X8_260 ⟨rfl, rfl⟩ hd_X8_both3 ⟨Nat.le_of_ble_eq_true rfl, Nat.le_of_ble_eq_true rfl⟩ ⟨Nat.le_of_ble_eq_true rfl, Nat.le_of_ble_eq_true rfl⟩ rfl rfl (Nat.le_of_ble_eq_true rfl) dX8_either3_1 (fun _ q8 _ => ?_)
  refine z_name (fun v9 => ?_)
  refine z_istore_n X dX8_either3_4 rfl (Nat.le_of_ble_eq_true rfl) rfl ?_
  exact z_sub [1, 0] (J5 _ _ _) rfl
theorem zw_643 : Cond.methodLink RX8 263 yX8_either3 ∈ wsL_law := zr_17 _ (by decide +kernel)
theorem zw_644 : Cond.instanceMethod yX8_either3 ∈ wsL_law := zr_17 _ (by decide +kernel)
theorem zw_645 : Cond.selects RX8 yX8_either3 yX8_either3 ∈ wsL_law := zr_17 _ (by decide +kernel)
theorem zw_646 : Cond.code yX8_either3 cX8_either3 3 (some .int) ∈ wsL_law := zr_17 _ (by decide +kernel)
theorem hk_X8_263 : ∀ w ∈ ([Cond.methodLink RX8 263 yX8_either3, Cond.instanceMethod yX8_either3, Cond.selects RX8 yX8_either3 yX8_either3, Cond.initialized RX8, Cond.code yX8_either3 cX8_either3 3 (some .int)] : List Cond), w ∈ wsL_law := List.forall_mem_cons.mpr ⟨zw_643, List.forall_mem_cons.mpr ⟨zw_644, List.forall_mem_cons.mpr ⟨zw_645, List.forall_mem_cons.mpr ⟨zw_525, List.forall_mem_cons.mpr ⟨zw_646, fun _ h => absurd h List.not_mem_nil⟩⟩⟩⟩⟩
theorem hd_X8_either3 : yX8_either3.cls = RX8 ∧ yX8_either3.cls ≠ "java/lang/invoke/MethodHandle" ∧ yX8_either3.cls ≠ "java/lang/invoke/VarHandle" ∧ (parseMethodDescriptor yX8_either3.desc).map (fun d => d.parameters.length) = some 0 := by decide +kernel
abbrev rmX8_atom2 : Room := { frames := 23, cells := 0, slots := 0, locals := 527 }
def fX8_atom2_j71 (this : Nat) (y1 : Int32) (st : zS) : Option (Int32 × zS) :=
  (zok spM st (some this) 8).bind fun o1 => (zok spM st (some this) 8).bind fun o2 => zlet (zp st o2 25 ((st.2.1 o1 25) - (1 : Int32))) fun st3 => (zok spM st3 (some this) 8).bind fun o4 => if (st3.2.1 o4 26) = 0 then ((zok spM st3 (some this) 8).bind fun o6 => (fX8_next o6 st3).bind fun q5 => some (y1, q5.2)) else (some (y1, st3))
def fX8_atom2_j157 (this : Nat) (y1 : Int32) (st : zS) : Option (Int32 × zS) :=
  (zok spM st (some this) 8).bind fun o8 => (fX8_fail o8 st).bind fun q7 => some (y1, q7.2)
def fX8_atom2_j123 (this : Nat) (y1 : Int32) (st : zS) : Option (Int32 × zS) :=
  (zok spM st (some this) 8).bind fun o9 => if (st.2.1 o9 26) = 0 then ((zok spM st (some this) 8).bind fun o10 => if (st.2.1 o10 22) = (1 : Int32) then ((zok spM st (some this) 8).bind fun o16 => (fX8_name o16 st).bind fun q11 => zlet (q11.1) fun v12 => (zok spM q11.2 (some this) 8).bind fun o13 => if (q11.2.2.1 o13 26) = 0 then ((zok spM q11.2 (some this) 8).bind fun o15 => (fX8_next o15 q11.2).bind fun q14 => some (v12, q14.2)) else (some (v12, q11.2))) else (fX8_atom2_j157 this y1 st)) else (fX8_atom2_j157 this y1 st)
def fX8_atom2 (this : Nat) (st : zS) : Option (Int32 × zS) :=
  (zok spM st (some this) 8).bind fun o43 => (fX8_isSign o43 (45 : Int32) st).bind fun q17 => if q17.1 = 0 then ((zok spM q17.2 (some this) 8).bind fun o34 => (fX8_isSign o34 (40 : Int32) q17.2).bind fun q18 => if q18.1 = 0 then ((zok spM q18.2 (some this) 8).bind fun o19 => if (q18.2.2.1 o19 26) = 0 then ((zok spM q18.2 (some this) 8).bind fun o20 => if (q18.2.2.1 o20 22) = (2 : Int32) then ((zok spM q18.2 (some this) 8).bind fun o21 => zlet (((q18.2.2.2.1 o21).toInt32)) fun v22 => (zok spM q18.2 (some this) 8).bind fun o24 => (fX8_next o24 q18.2).bind fun q23 => some (v22, q23.2)) else (fX8_atom2_j123 this (0 : Int32) q18.2)) else (fX8_atom2_j123 this (0 : Int32) q18.2)) else ((zok spM q18.2 (some this) 8).bind fun o33 => (fX8_opens o33 q18.2).bind fun q25 => if q25.1 = 0 then (some ((0 : Int32), q25.2)) else ((zok spM q25.2 (some this) 8).bind fun o32 => (fX8_either3 o32 q25.2).bind fun q26 => zlet (q26.1) fun v27 => (zok spM q26.2 (some this) 8).bind fun o31 => (fX8_isSign o31 (41 : Int32) q26.2).bind fun q28 => if q28.1 = 0 then ((zok spM q28.2 (some this) 8).bind fun o30 => (fX8_fail o30 q28.2).bind fun q29 => fX8_atom2_j71 this v27 q29.2) else (fX8_atom2_j71 this v27 q28.2)))) else ((zok spM q17.2 (some this) 8).bind fun o42 => (fX8_opens o42 q17.2).bind fun q35 => if q35.1 = 0 then (some ((0 : Int32), q35.2)) else ((zok spM q35.2 (some this) 8).bind fun o41 => (fX8_atom3 o41 q35.2).bind fun q36 => zlet ((-q36.1)) fun v37 => (zok spM q36.2 (some this) 8).bind fun o38 => (zok spM q36.2 (some this) 8).bind fun o39 => zlet (zp q36.2 o39 25 ((q36.2.2.1 o38 25) - (1 : Int32))) fun st40 => some (v37, st40)))
set_option maxRecDepth 100000 in
set_option maxHeartbeats 4000000 in
theorem kX8_atom2 (l : Launch) (Z : zZ) (b : Nat) (x : Option Nat) (this : Nat) (st : zS) : zC l Z spM b x yX8_atom2 (.code yX8_atom2 cX8_atom2 2 (some .int)) (rmX8_atom2) rI [vP (some this)] st (fX8_atom2 this st) := by
  refine z_start (own := RX8) rfl (by decide +kernel) (Nat.le_of_ble_eq_true rfl) rfl (fun p e s m args below meth c res Q A X hK hr hlocks hQ => ?_)
  have J71 : ∀ (y1 : Int32) (st : zS), zs p l e (rmX8_atom2) s m args below meth c Q Z spM b x A 2 0 0 res (fX8_atom2_j71 this y1 st) 71 [(0, vP (some this)), (1, vI y1)] [] st := by
    intro y1 st
    rw [fX8_atom2_j71]
    refine z_aload_n X (q := 0) dX8_atom2_71 rfl rfl ?_
    refine z_dup X dX8_atom2_72 rfl ?_
    refine z_geti X hK (N := 46) (ci := 8) (k := 25) rfl (by decide) inlX8 (by decide) hf_X8_166 rfl spM_X8 rfl dX8_atom2_73 (fun o1 _ => ?_)
    refine z_iconst X (v := (1 : Int32)) dX8_atom2_76 (by decide) ?_
    refine z_isub X dX8_atom2_77 ?_
    refine z_puti X hK (N := 46) (ci := 8) (k := 25) rfl (by decide) inlX8 tyX8 tyX8_ok nmX8 (by decide) hf_X8_166 rfl rfl spM_X8 rfl (by decide +kernel) dX8_atom2_78 (fun o2 st3 _ => ?_)
    refine z_aload_n X (q := 0) dX8_atom2_81 rfl rfl ?_
    refine z_geti X hK (N := 46) (ci := 8) (k := 26) rfl (by decide) inlX8 (by decide) hf_X8_155 rfl spM_X8 rfl dX8_atom2_82 (fun o4 _ => ?_)
    refine z_if_ne X (tgt := 161) dX8_atom2_85 (by decide) (fun _ => ?_) (fun _ => ?_)
    · refine z_iload_n X (q := 1) dX8_atom2_161 rfl rfl ?_
      subst hQ; exact z_iret X hlocks hr dX8_atom2_162
    · refine z_aload_n X (q := 0) dX8_atom2_88 rfl rfl ?_
      refine z_callV X hK (As := []) (ci := 8) rfl (by decide) (fun o => (kX8_next l Z  b x o _)) hk_X8_172 ⟨rfl, rfl⟩ hd_X8_next ⟨Nat.le_of_ble_eq_true rfl, Nat.le_of_ble_eq_true rfl⟩ ⟨Nat.le_of_ble_eq_true rfl, Nat.le_of_ble_eq_true rfl⟩ rfl rfl (Nat.le_of_ble_eq_true rfl) dX8_atom2_89 (fun _ q5 _ => ?_)
      refine z_goto X (tgt := 161) dX8_atom2_92 (by decide) ?_
      refine z_iload_n X (q := 1) dX8_atom2_161 rfl rfl ?_
      subst hQ; exact z_iret X hlocks hr dX8_atom2_162
  have J157 : ∀ (y1 : Int32) (st : zS), zs p l e (rmX8_atom2) s m args below meth c Q Z spM b x A 2 0 0 res (fX8_atom2_j157 this y1 st) 157 [(0, vP (some this)), (1, vI y1)] [] st := by
    intro y1 st
    rw [fX8_atom2_j157]
    refine z_aload_n X (q := 0) dX8_atom2_157 rfl rfl ?_
    refine z_callV X hK (As := []) (ci := 8) rfl (by decide) (fun o => (kX8_fail l Z  b x o _)) hk_X8_169 ⟨rfl, rfl⟩ hd_X8_fail ⟨Nat.le_of_ble_eq_true rfl, Nat.le_of_ble_eq_true rfl⟩ ⟨Nat.le_of_ble_eq_true rfl, Nat.le_of_ble_eq_true rfl⟩ rfl rfl (Nat.le_of_ble_eq_true rfl) dX8_atom2_158 (fun _ q7 _ => ?_)
    refine z_iload_n X (q := 1) dX8_atom2_161 rfl rfl ?_
    subst hQ; exact z_iret X hlocks hr dX8_atom2_162
  have J123 : ∀ (y1 : Int32) (st : zS), zs p l e (rmX8_atom2) s m args below meth c Q Z spM b x A 2 0 0 res (fX8_atom2_j123 this y1 st) 123 [(0, vP (some this)), (1, vI y1)] [] st := by
    intro y1 st
    rw [fX8_atom2_j123]
    refine z_aload_n X (q := 0) dX8_atom2_123 rfl rfl ?_
    refine z_geti X hK (N := 46) (ci := 8) (k := 26) rfl (by decide) inlX8 (by decide) hf_X8_155 rfl spM_X8 rfl dX8_atom2_124 (fun o9 _ => ?_)
    refine z_if_ne X (tgt := 157) dX8_atom2_127 (by decide) (fun _ => ?_) (fun _ => ?_)
    · exact z_sub [0, 1] (J157 _ _) rfl
    · refine z_aload_n X (q := 0) dX8_atom2_130 rfl rfl ?_
      refine z_geti X hK (N := 46) (ci := 8) (k := 22) rfl (by decide) inlX8 (by decide) hf_X8_138 rfl spM_X8 rfl dX8_atom2_131 (fun o10 _ => ?_)
      refine z_iconst X (v := (1 : Int32)) dX8_atom2_134 (by decide) ?_
      refine z_icmp_ne X (tgt := 157) dX8_atom2_135 (by decide) (fun _ => ?_) (fun _ => ?_)
      · exact z_sub [0, 1] (J157 _ _) rfl
      · refine z_aload_n X (q := 0) dX8_atom2_138 rfl rfl ?_
        refine z_callV X hK (As := []) (ci := 8) rfl (by decide) (fun o => (kX8_name l Z  b x o _)) hk_X8_204 ⟨rfl, rfl⟩ hd_X8_name ⟨Nat.le_of_ble_eq_true rfl, Nat.le_of_ble_eq_true rfl⟩ ⟨Nat.le_of_ble_eq_true rfl, Nat.le_of_ble_eq_true rfl⟩ rfl rfl (Nat.le_of_ble_eq_true rfl) dX8_atom2_139 (fun _ q11 _ => ?_)
        refine z_name (fun v12 => ?_)
        refine z_istore_n X dX8_atom2_142 rfl (Nat.le_of_ble_eq_true rfl) rfl ?_
        refine z_aload_n X (q := 1) dX8_atom2_143 rfl rfl ?_
        refine z_geti X hK (N := 46) (ci := 8) (k := 26) rfl (by decide) inlX8 (by decide) hf_X8_155 rfl spM_X8 rfl dX8_atom2_144 (fun o13 _ => ?_)
        refine z_if_ne X (tgt := 161) dX8_atom2_147 (by decide) (fun _ => ?_) (fun _ => ?_)
        · refine z_iload_n X (q := 0) dX8_atom2_161 rfl rfl ?_
          subst hQ; exact z_iret X hlocks hr dX8_atom2_162
        · refine z_aload_n X (q := 1) dX8_atom2_150 rfl rfl ?_
          refine z_callV X hK (As := []) (ci := 8) rfl (by decide) (fun o => (kX8_next l Z  b x o _)) hk_X8_172 ⟨rfl, rfl⟩ hd_X8_next ⟨Nat.le_of_ble_eq_true rfl, Nat.le_of_ble_eq_true rfl⟩ ⟨Nat.le_of_ble_eq_true rfl, Nat.le_of_ble_eq_true rfl⟩ rfl rfl (Nat.le_of_ble_eq_true rfl) dX8_atom2_151 (fun _ q14 _ => ?_)
          refine z_goto X (tgt := 161) dX8_atom2_154 (by decide) ?_
          refine z_iload_n X (q := 0) dX8_atom2_161 rfl rfl ?_
          subst hQ; exact z_iret X hlocks hr dX8_atom2_162
  rw [fX8_atom2]
  refine z_iconst X (v := (0 : Int32)) dX8_atom2_0 (by decide) ?_
  refine z_istore_n X dX8_atom2_1 rfl (Nat.le_of_ble_eq_true rfl) rfl ?_
  refine z_aload_n X (q := 1) dX8_atom2_2 rfl rfl ?_
  refine z_bipush X (v := (45 : Int32)) dX8_atom2_3 (by decide) ?_
  refine z_callV X hK (As := [vI (45 : Int32)]) (ci := 8) rfl (by decide) (fun o => (kX8_isSign l Z  b x o _ _)) hk_X8_197 ⟨rfl, rfl⟩ hd_X8_isSign ⟨Nat.le_of_ble_eq_true rfl, Nat.le_of_ble_eq_true rfl⟩ ⟨Nat.le_of_ble_eq_true rfl, Nat.le_of_ble_eq_true rfl⟩ rfl rfl (Nat.le_of_ble_eq_true rfl) dX8_atom2_5 (fun _ q17 _ => ?_)
  refine z_if_eq X (tgt := 37) dX8_atom2_8 (by decide) (fun _ => ?_) (fun _ => ?_)
  · refine z_aload_n X (q := 1) dX8_atom2_37 rfl rfl ?_
    refine z_bipush X (v := (40 : Int32)) dX8_atom2_38 (by decide) ?_
    refine z_callV X hK (As := [vI (40 : Int32)]) (ci := 8) rfl (by decide) (fun o => (kX8_isSign l Z  b x o _ _)) hk_X8_197 ⟨rfl, rfl⟩ hd_X8_isSign ⟨Nat.le_of_ble_eq_true rfl, Nat.le_of_ble_eq_true rfl⟩ ⟨Nat.le_of_ble_eq_true rfl, Nat.le_of_ble_eq_true rfl⟩ rfl rfl (Nat.le_of_ble_eq_true rfl) dX8_atom2_40 (fun _ q18 _ => ?_)
    refine z_if_eq X (tgt := 95) dX8_atom2_43 (by decide) (fun _ => ?_) (fun _ => ?_)
    · refine z_aload_n X (q := 1) dX8_atom2_95 rfl rfl ?_
      refine z_geti X hK (N := 46) (ci := 8) (k := 26) rfl (by decide) inlX8 (by decide) hf_X8_155 rfl spM_X8 rfl dX8_atom2_96 (fun o19 _ => ?_)
      refine z_if_ne X (tgt := 123) dX8_atom2_99 (by decide) (fun _ => ?_) (fun _ => ?_)
      · exact z_sub [1, 0] (J123 _ _) rfl
      · refine z_aload_n X (q := 1) dX8_atom2_102 rfl rfl ?_
        refine z_geti X hK (N := 46) (ci := 8) (k := 22) rfl (by decide) inlX8 (by decide) hf_X8_138 rfl spM_X8 rfl dX8_atom2_103 (fun o20 _ => ?_)
        refine z_iconst X (v := (2 : Int32)) dX8_atom2_106 (by decide) ?_
        refine z_icmp_ne X (tgt := 123) dX8_atom2_107 (by decide) (fun _ => ?_) (fun _ => ?_)
        · exact z_sub [1, 0] (J123 _ _) rfl
        · refine z_aload_n X (q := 1) dX8_atom2_110 rfl rfl ?_
          refine z_getl X hK (N := 46) (ci := 8) (k := 24) rfl (by decide) inlX8 (by decide) hf_X8_149 rfl spM_X8 rfl dX8_atom2_111 (fun o21 _ => ?_)
          refine z_l2i X dX8_atom2_114 ?_
          refine z_name (fun v22 => ?_)
          refine z_istore_n X dX8_atom2_115 rfl (Nat.le_of_ble_eq_true rfl) rfl ?_
          refine z_aload_n X (q := 1) dX8_atom2_116 rfl rfl ?_
          refine z_callV X hK (As := []) (ci := 8) rfl (by decide) (fun o => (kX8_next l Z  b x o _)) hk_X8_172 ⟨rfl, rfl⟩ hd_X8_next ⟨Nat.le_of_ble_eq_true rfl, Nat.le_of_ble_eq_true rfl⟩ ⟨Nat.le_of_ble_eq_true rfl, Nat.le_of_ble_eq_true rfl⟩ rfl rfl (Nat.le_of_ble_eq_true rfl) dX8_atom2_117 (fun _ q23 _ => ?_)
          refine z_goto X (tgt := 161) dX8_atom2_120 (by decide) ?_
          refine z_iload_n X (q := 0) dX8_atom2_161 rfl rfl ?_
          subst hQ; exact z_iret X hlocks hr dX8_atom2_162
    · refine z_aload_n X (q := 1) dX8_atom2_46 rfl rfl ?_
      refine z_callV X hK (As := []) (ci := 8) rfl (by decide) (fun o => (kX8_opens l Z  b x o _)) hk_X8_200 ⟨rfl, rfl⟩ hd_X8_opens ⟨Nat.le_of_ble_eq_true rfl, Nat.le_of_ble_eq_true rfl⟩ ⟨Nat.le_of_ble_eq_true rfl, Nat.le_of_ble_eq_true rfl⟩ rfl rfl (Nat.le_of_ble_eq_true rfl) dX8_atom2_47 (fun _ q25 _ => ?_)
      refine z_if_eq X (tgt := 161) dX8_atom2_50 (by decide) (fun _ => ?_) (fun _ => ?_)
      · refine z_iload_n X (q := 0) dX8_atom2_161 rfl rfl ?_
        subst hQ; exact z_iret X hlocks hr dX8_atom2_162
      · refine z_aload_n X (q := 1) dX8_atom2_53 rfl rfl ?_
        refine z_callV X hK (As := []) (ci := 8) rfl (by decide) (fun o => (kX8_either3 l Z  b x o _)) hk_X8_263 ⟨rfl, rfl⟩ hd_X8_either3 ⟨Nat.le_of_ble_eq_true rfl, Nat.le_of_ble_eq_true rfl⟩ ⟨Nat.le_of_ble_eq_true rfl, Nat.le_of_ble_eq_true rfl⟩ rfl rfl (Nat.le_of_ble_eq_true rfl) dX8_atom2_54 (fun _ q26 _ => ?_)
        refine z_name (fun v27 => ?_)
        refine z_istore_n X dX8_atom2_57 rfl (Nat.le_of_ble_eq_true rfl) rfl ?_
        refine z_aload_n X (q := 1) dX8_atom2_58 rfl rfl ?_
        refine z_bipush X (v := (41 : Int32)) dX8_atom2_59 (by decide) ?_
        refine z_callV X hK (As := [vI (41 : Int32)]) (ci := 8) rfl (by decide) (fun o => (kX8_isSign l Z  b x o _ _)) hk_X8_197 ⟨rfl, rfl⟩ hd_X8_isSign ⟨Nat.le_of_ble_eq_true rfl, Nat.le_of_ble_eq_true rfl⟩ ⟨Nat.le_of_ble_eq_true rfl, Nat.le_of_ble_eq_true rfl⟩ rfl rfl (Nat.le_of_ble_eq_true rfl) dX8_atom2_61 (fun _ q28 _ => ?_)
        refine z_if_ne X (tgt := 71) dX8_atom2_64 (by decide) (fun _ => ?_) (fun _ => ?_)
        · exact z_sub [1, 0] (J71 _ _) rfl
        · refine z_aload_n X (q := 1) dX8_atom2_67 rfl rfl ?_
          refine z_callV X hK (As := []) (ci := 8) rfl (by decide) (fun o => (kX8_fail l Z  b x o _)) hk_X8_169 ⟨rfl, rfl⟩ hd_X8_fail ⟨Nat.le_of_ble_eq_true rfl, Nat.le_of_ble_eq_true rfl⟩ ⟨Nat.le_of_ble_eq_true rfl, Nat.le_of_ble_eq_true rfl⟩ rfl rfl (Nat.le_of_ble_eq_true rfl) dX8_atom2_68 (fun _ q29 _ => ?_)
          exact z_sub [1, 0] (J71 _ _) rfl
  · refine z_aload_n X (q := 1) dX8_atom2_11 rfl rfl ?_
    refine z_callV X hK (As := []) (ci := 8) rfl (by decide) (fun o => (kX8_opens l Z  b x o _)) hk_X8_200 ⟨rfl, rfl⟩ hd_X8_opens ⟨Nat.le_of_ble_eq_true rfl, Nat.le_of_ble_eq_true rfl⟩ ⟨Nat.le_of_ble_eq_true rfl, Nat.le_of_ble_eq_true rfl⟩ rfl rfl (Nat.le_of_ble_eq_true rfl) dX8_atom2_12 (fun _ q35 _ => ?_)
    refine z_if_eq X (tgt := 161) dX8_atom2_15 (by decide) (fun _ => ?_) (fun _ => ?_)
    · refine z_iload_n X (q := 0) dX8_atom2_161 rfl rfl ?_
      subst hQ; exact z_iret X hlocks hr dX8_atom2_162
    · refine z_aload_n X (q := 1) dX8_atom2_18 rfl rfl ?_
      refine z_callV X hK (As := []) (ci := 8) rfl (by decide) (fun o => (kX8_atom3 l Z  b x o _)) hk_X8_248 ⟨rfl, rfl⟩ hd_X8_atom3 ⟨Nat.le_of_ble_eq_true rfl, Nat.le_of_ble_eq_true rfl⟩ ⟨Nat.le_of_ble_eq_true rfl, Nat.le_of_ble_eq_true rfl⟩ rfl rfl (Nat.le_of_ble_eq_true rfl) dX8_atom2_19 (fun _ q36 _ => ?_)
      refine z_ineg X dX8_atom2_22 ?_
      refine z_name (fun v37 => ?_)
      refine z_istore_n X dX8_atom2_23 rfl (Nat.le_of_ble_eq_true rfl) rfl ?_
      refine z_aload_n X (q := 1) dX8_atom2_24 rfl rfl ?_
      refine z_dup X dX8_atom2_25 rfl ?_
      refine z_geti X hK (N := 46) (ci := 8) (k := 25) rfl (by decide) inlX8 (by decide) hf_X8_166 rfl spM_X8 rfl dX8_atom2_26 (fun o38 _ => ?_)
      refine z_iconst X (v := (1 : Int32)) dX8_atom2_29 (by decide) ?_
      refine z_isub X dX8_atom2_30 ?_
      refine z_puti X hK (N := 46) (ci := 8) (k := 25) rfl (by decide) inlX8 tyX8 tyX8_ok nmX8 (by decide) hf_X8_166 rfl rfl spM_X8 rfl (by decide +kernel) dX8_atom2_31 (fun o39 st40 _ => ?_)
      refine z_goto X (tgt := 161) dX8_atom2_34 (by decide) ?_
      refine z_iload_n X (q := 0) dX8_atom2_161 rfl rfl ?_
      subst hQ; exact z_iret X hlocks hr dX8_atom2_162
theorem zw_647 : Cond.methodLink RX8 266 yX8_atom2 ∈ wsL_law := zr_17 _ (by decide +kernel)
theorem zw_648 : Cond.instanceMethod yX8_atom2 ∈ wsL_law := zr_17 _ (by decide +kernel)
theorem zw_649 : Cond.selects RX8 yX8_atom2 yX8_atom2 ∈ wsL_law := zr_17 _ (by decide +kernel)
theorem zw_650 : Cond.code yX8_atom2 cX8_atom2 2 (some .int) ∈ wsL_law := zr_17 _ (by decide +kernel)
theorem hk_X8_266 : ∀ w ∈ ([Cond.methodLink RX8 266 yX8_atom2, Cond.instanceMethod yX8_atom2, Cond.selects RX8 yX8_atom2 yX8_atom2, Cond.initialized RX8, Cond.code yX8_atom2 cX8_atom2 2 (some .int)] : List Cond), w ∈ wsL_law := List.forall_mem_cons.mpr ⟨zw_647, List.forall_mem_cons.mpr ⟨zw_648, List.forall_mem_cons.mpr ⟨zw_649, List.forall_mem_cons.mpr ⟨zw_525, List.forall_mem_cons.mpr ⟨zw_650, fun _ h => absurd h List.not_mem_nil⟩⟩⟩⟩⟩
theorem hd_X8_atom2 : yX8_atom2.cls = RX8 ∧ yX8_atom2.cls ≠ "java/lang/invoke/MethodHandle" ∧ yX8_atom2.cls ≠ "java/lang/invoke/VarHandle" ∧ (parseMethodDescriptor yX8_atom2.desc).map (fun d => d.parameters.length) = some 0 := by decide +kernel
abbrev rmX8_term2 : Room := { frames := 24, cells := 0, slots := 0, locals := 548 }
def fX8_term2_L5 (this : Nat) : Nat → Int32 → zS → Option (Int32 × zS)
  | 0, _, _ => none
  | n + 1, y1, st => (zok spM st (some this) 8).bind fun o7 => (fX8_isSign o7 (42 : Int32) st).bind fun q1 => if q1.1 = 0 then (some (y1, q1.2)) else ((zok spM q1.2 (some this) 8).bind fun o6 => (fX8_next o6 q1.2).bind fun q2 => (zok spM q2.2 (some this) 8).bind fun o5 => (fX8_atom2 o5 q2.2).bind fun q3 => zlet ((y1 * q3.1)) fun v4 => (fX8_term2_L5 this n) v4 q3.2)
def fX8_term2 (this : Nat) (st : zS) : Option (Int32 × zS) :=
  (zok spM st (some this) 8).bind fun o10 => (fX8_atom2 o10 st).bind fun q8 => zlet (q8.1) fun v9 => fX8_term2_L5 this zF v9 q8.2
set_option maxRecDepth 100000 in
set_option maxHeartbeats 4000000 in
theorem kX8_term2 (l : Launch) (Z : zZ) (b : Nat) (x : Option Nat) (this : Nat) (st : zS) : zC l Z spM b x yX8_term2 (.code yX8_term2 cX8_term2 2 (some .int)) (rmX8_term2) rI [vP (some this)] st (fX8_term2 this st) := by
  refine z_start (own := RX8) rfl (by decide +kernel) (Nat.le_of_ble_eq_true rfl) rfl (fun p e s m args below meth c res Q A X hK hr hlocks hQ => ?_)
  have J5 : ∀ (n5 : Nat) (y1 : Int32) (st : zS), zs p l e (rmX8_term2) s m args below meth c Q Z spM b x A 2 0 0 res (fX8_term2_L5 this n5 y1 st) 5 [(0, vP (some this)), (1, vI y1)] [] st := by
    intro n5
    induction n5 with
    | zero => intros; exact z_none
    | succ n5 ih5 =>
      intro y1 st
      rw [fX8_term2_L5]
      refine z_aload_n X (q := 0) dX8_term2_5 rfl rfl ?_
      refine z_bipush X (v := (42 : Int32)) dX8_term2_6 (by decide) ?_
      refine z_callV X hK (As := [vI (42 : Int32)]) (ci := 8) rfl (by decide) (fun o => (kX8_isSign l Z  b x o _ _)) hk_X8_197 ⟨rfl, rfl⟩ hd_X8_isSign ⟨Nat.le_of_ble_eq_true rfl, Nat.le_of_ble_eq_true rfl⟩ ⟨Nat.le_of_ble_eq_true rfl, Nat.le_of_ble_eq_true rfl⟩ rfl rfl (Nat.le_of_ble_eq_true rfl) dX8_term2_8 (fun _ q1 _ => ?_)
      refine z_if_eq X (tgt := 28) dX8_term2_11 (by decide) (fun _ => ?_) (fun _ => ?_)
      · refine z_iload_n X (q := 1) dX8_term2_28 rfl rfl ?_
        subst hQ; exact z_iret X hlocks hr dX8_term2_29
      · refine z_aload_n X (q := 0) dX8_term2_14 rfl rfl ?_
        refine z_callV X hK (As := []) (ci := 8) rfl (by decide) (fun o => (kX8_next l Z  b x o _)) hk_X8_172 ⟨rfl, rfl⟩ hd_X8_next ⟨Nat.le_of_ble_eq_true rfl, Nat.le_of_ble_eq_true rfl⟩ ⟨Nat.le_of_ble_eq_true rfl, Nat.le_of_ble_eq_true rfl⟩ rfl rfl (Nat.le_of_ble_eq_true rfl) dX8_term2_15 (fun _ q2 _ => ?_)
        refine z_iload_n X (q := 1) dX8_term2_18 rfl rfl ?_
        refine z_aload_n X (q := 0) dX8_term2_19 rfl rfl ?_
        refine z_callV X hK (As := []) (ci := 8) rfl (by decide) (fun o => (kX8_atom2 l Z  b x o _)) hk_X8_266 ⟨rfl, rfl⟩ hd_X8_atom2 ⟨Nat.le_of_ble_eq_true rfl, Nat.le_of_ble_eq_true rfl⟩ ⟨Nat.le_of_ble_eq_true rfl, Nat.le_of_ble_eq_true rfl⟩ rfl rfl (Nat.le_of_ble_eq_true rfl) dX8_term2_20 (fun _ q3 _ => ?_)
        refine z_imul X dX8_term2_23 ?_
        refine z_name (fun v4 => ?_)
        refine z_istore_n X dX8_term2_24 rfl (Nat.le_of_ble_eq_true rfl) rfl ?_
        refine z_goto X (tgt := 5) dX8_term2_25 (by decide) ?_
        exact z_sub [1, 0] (ih5 _ _) rfl
  rw [fX8_term2]
  refine z_aload_n X (q := 0) dX8_term2_0 rfl rfl ?_
  refine z_callV X hK (As := []) (ci := 8) rfl (by decide) (fun o => (kX8_atom2 l Z  b x o _)) hk_X8_266 ⟨rfl, rfl⟩ hd_X8_atom2 ⟨Nat.le_of_ble_eq_true rfl, Nat.le_of_ble_eq_true rfl⟩ ⟨Nat.le_of_ble_eq_true rfl, Nat.le_of_ble_eq_true rfl⟩ rfl rfl (Nat.le_of_ble_eq_true rfl) dX8_term2_1 (fun _ q8 _ => ?_)
  refine z_name (fun v9 => ?_)
  refine z_istore_n X dX8_term2_4 rfl (Nat.le_of_ble_eq_true rfl) rfl ?_
  exact z_sub [1, 0] (J5 _ _ _) rfl
theorem zw_651 : Cond.methodLink RX8 269 yX8_term2 ∈ wsL_law := zr_17 _ (by decide +kernel)
theorem zw_652 : Cond.instanceMethod yX8_term2 ∈ wsL_law := zr_17 _ (by decide +kernel)
theorem zw_653 : Cond.selects RX8 yX8_term2 yX8_term2 ∈ wsL_law := zr_17 _ (by decide +kernel)
theorem zw_654 : Cond.code yX8_term2 cX8_term2 2 (some .int) ∈ wsL_law := zr_17 _ (by decide +kernel)
theorem hk_X8_269 : ∀ w ∈ ([Cond.methodLink RX8 269 yX8_term2, Cond.instanceMethod yX8_term2, Cond.selects RX8 yX8_term2 yX8_term2, Cond.initialized RX8, Cond.code yX8_term2 cX8_term2 2 (some .int)] : List Cond), w ∈ wsL_law := List.forall_mem_cons.mpr ⟨zw_651, List.forall_mem_cons.mpr ⟨zw_652, List.forall_mem_cons.mpr ⟨zw_653, List.forall_mem_cons.mpr ⟨zw_525, List.forall_mem_cons.mpr ⟨zw_654, fun _ h => absurd h List.not_mem_nil⟩⟩⟩⟩⟩
theorem hd_X8_term2 : yX8_term2.cls = RX8 ∧ yX8_term2.cls ≠ "java/lang/invoke/MethodHandle" ∧ yX8_term2.cls ≠ "java/lang/invoke/VarHandle" ∧ (parseMethodDescriptor yX8_term2.desc).map (fun d => d.parameters.length) = some 0 := by decide +kernel
abbrev rmX8_added2 : Room := { frames := 25, cells := 0, slots := 0, locals := 569 }
def fX8_added2_j62 (this : Nat) (k5 : Int32 → zS → Option (Int32 × zS)) (s0 : Int32) (st : zS) : Option (Int32 × zS) :=
  k5 s0 st
def fX8_added2_j39 (this : Nat) (k5 : Int32 → zS → Option (Int32 × zS)) (y1 : Int32) (s0 : Int32) (st : zS) : Option (Int32 × zS) :=
  (zok spM st (some this) 8).bind fun o5 => (fX8_next o5 st).bind fun q1 => (zok spM q1.2 (some this) 8).bind fun o4 => (fX8_term2 o4 q1.2).bind fun q2 => zlet (q2.1) fun v3 => if s0 = 0 then (fX8_added2_j62 this k5 (y1 - v3) q2.2) else (fX8_added2_j62 this k5 (y1 + v3) q2.2)
def fX8_added2_j23 (this : Nat) (k5 : Int32 → zS → Option (Int32 × zS)) (y1 : Int32) (st : zS) : Option (Int32 × zS) :=
  (zok spM st (some this) 8).bind fun o6 => if (lg_cmp (st.2.2.1 o6) (43 : Int64)) = 0 then (fX8_added2_j39 this k5 y1 (1 : Int32) st) else (fX8_added2_j39 this k5 y1 (0 : Int32) st)
def fX8_added2_L5 (this : Nat) : Nat → Int32 → zS → Option (Int32 × zS)
  | 0, _, _ => none
  | n + 1, y1, st => (zok spM st (some this) 8).bind fun o10 => (fX8_isSign o10 (43 : Int32) st).bind fun q7 => if q7.1 = 0 then ((zok spM q7.2 (some this) 8).bind fun o9 => (fX8_isSign o9 (45 : Int32) q7.2).bind fun q8 => if q8.1 = 0 then (some (y1, q8.2)) else (fX8_added2_j23 this (fX8_added2_L5 this n) y1 q8.2)) else (fX8_added2_j23 this (fX8_added2_L5 this n) y1 q7.2)
def fX8_added2 (this : Nat) (st : zS) : Option (Int32 × zS) :=
  (zok spM st (some this) 8).bind fun o13 => (fX8_term2 o13 st).bind fun q11 => zlet (q11.1) fun v12 => fX8_added2_L5 this zF v12 q11.2
set_option maxRecDepth 100000 in
set_option maxHeartbeats 4000000 in
theorem kX8_added2 (l : Launch) (Z : zZ) (b : Nat) (x : Option Nat) (this : Nat) (st : zS) : zC l Z spM b x yX8_added2 (.code yX8_added2 cX8_added2 4 (some .int)) (rmX8_added2) rI [vP (some this)] st (fX8_added2 this st) := by
  refine z_start (own := RX8) rfl (by decide +kernel) (Nat.le_of_ble_eq_true rfl) rfl (fun p e s m args below meth c res Q A X hK hr hlocks hQ => ?_)
  have J5 : ∀ (n5 : Nat) (y1 : Int32) (st : zS), zs p l e (rmX8_added2) s m args below meth c Q Z spM b x A 4 0 0 res (fX8_added2_L5 this n5 y1 st) 5 [(0, vP (some this)), (1, vI y1)] [] st := by
    intro n5
    induction n5 with
    | zero => intros; exact z_none
    | succ n5 ih5 =>
      have J62 : ∀ (s0 : Int32) (st : zS), zs p l e (rmX8_added2) s m args below meth c Q Z spM b x A 4 0 0 res (fX8_added2_j62 this (fX8_added2_L5 this n5) s0 st) 62 [(0, vP (some this))] [vI s0] st := by
        intro s0 st
        rw [fX8_added2_j62]
        refine z_istore_n X dX8_added2_62 rfl (Nat.le_of_ble_eq_true rfl) rfl ?_
        refine z_goto X (tgt := 5) dX8_added2_63 (by decide) ?_
        exact z_sub [1, 0] (ih5 _ _) rfl
      have J39 : ∀ (y1 : Int32) (s0 : Int32) (st : zS), zs p l e (rmX8_added2) s m args below meth c Q Z spM b x A 4 0 0 res (fX8_added2_j39 this (fX8_added2_L5 this n5) y1 s0 st) 39 [(0, vP (some this)), (1, vI y1)] [vI s0] st := by
        intro y1 s0 st
        rw [fX8_added2_j39]
        refine z_istore_n X dX8_added2_39 rfl (Nat.le_of_ble_eq_true rfl) rfl ?_
        refine z_aload_n X (q := 1) dX8_added2_40 rfl rfl ?_
        refine z_callV X hK (As := []) (ci := 8) rfl (by decide) (fun o => (kX8_next l Z  b x o _)) hk_X8_172 ⟨rfl, rfl⟩ hd_X8_next ⟨Nat.le_of_ble_eq_true rfl, Nat.le_of_ble_eq_true rfl⟩ ⟨Nat.le_of_ble_eq_true rfl, Nat.le_of_ble_eq_true rfl⟩ rfl rfl (Nat.le_of_ble_eq_true rfl) dX8_added2_41 (fun _ q1 _ => ?_)
        refine z_aload_n X (q := 1) dX8_added2_44 rfl rfl ?_
        refine z_callV X hK (As := []) (ci := 8) rfl (by decide) (fun o => (kX8_term2 l Z  b x o _)) hk_X8_269 ⟨rfl, rfl⟩ hd_X8_term2 ⟨Nat.le_of_ble_eq_true rfl, Nat.le_of_ble_eq_true rfl⟩ ⟨Nat.le_of_ble_eq_true rfl, Nat.le_of_ble_eq_true rfl⟩ rfl rfl (Nat.le_of_ble_eq_true rfl) dX8_added2_45 (fun _ q2 _ => ?_)
        refine z_name (fun v3 => ?_)
        refine z_istore_n X dX8_added2_48 rfl (Nat.le_of_ble_eq_true rfl) rfl ?_
        refine z_iload_n X (q := 1) dX8_added2_49 rfl rfl ?_
        refine z_if_eq X (tgt := 59) dX8_added2_50 (by decide) (fun _ => ?_) (fun _ => ?_)
        · refine z_iload_n X (q := 3) dX8_added2_59 rfl rfl ?_
          refine z_iload_n X (q := 0) dX8_added2_60 rfl rfl ?_
          refine z_isub X dX8_added2_61 ?_
          exact z_sub [2] (J62 _ _) rfl
        · refine z_iload_n X (q := 3) dX8_added2_53 rfl rfl ?_
          refine z_iload_n X (q := 0) dX8_added2_54 rfl rfl ?_
          refine z_iadd X dX8_added2_55 ?_
          refine z_goto X (tgt := 62) dX8_added2_56 (by decide) ?_
          exact z_sub [2] (J62 _ _) rfl
      have J23 : ∀ (y1 : Int32) (st : zS), zs p l e (rmX8_added2) s m args below meth c Q Z spM b x A 4 0 0 res (fX8_added2_j23 this (fX8_added2_L5 this n5) y1 st) 23 [(0, vP (some this)), (1, vI y1)] [] st := by
        intro y1 st
        rw [fX8_added2_j23]
        refine z_aload_n X (q := 0) dX8_added2_23 rfl rfl ?_
        refine z_getl X hK (N := 46) (ci := 8) (k := 24) rfl (by decide) inlX8 (by decide) hf_X8_149 rfl spM_X8 rfl dX8_added2_24 (fun o6 _ => ?_)
        refine z_ldc2 X (v := (43 : Int64)) (hc_X8_214) dX8_added2_27 ?_
        refine z_lcmp X dX8_added2_30 ?_
        refine z_if_ne X (tgt := 38) dX8_added2_31 (by decide) (fun _ => ?_) (fun _ => ?_)
        · refine z_iconst X (v := (0 : Int32)) dX8_added2_38 (by decide) ?_
          exact z_sub [0, 1] (J39 _ _ _) rfl
        · refine z_iconst X (v := (1 : Int32)) dX8_added2_34 (by decide) ?_
          refine z_goto X (tgt := 39) dX8_added2_35 (by decide) ?_
          exact z_sub [0, 1] (J39 _ _ _) rfl
      intro y1 st
      rw [fX8_added2_L5]
      refine z_aload_n X (q := 0) dX8_added2_5 rfl rfl ?_
      refine z_bipush X (v := (43 : Int32)) dX8_added2_6 (by decide) ?_
      refine z_callV X hK (As := [vI (43 : Int32)]) (ci := 8) rfl (by decide) (fun o => (kX8_isSign l Z  b x o _ _)) hk_X8_197 ⟨rfl, rfl⟩ hd_X8_isSign ⟨Nat.le_of_ble_eq_true rfl, Nat.le_of_ble_eq_true rfl⟩ ⟨Nat.le_of_ble_eq_true rfl, Nat.le_of_ble_eq_true rfl⟩ rfl rfl (Nat.le_of_ble_eq_true rfl) dX8_added2_8 (fun _ q7 _ => ?_)
      refine z_if_ne X (tgt := 23) dX8_added2_11 (by decide) (fun _ => ?_) (fun _ => ?_)
      · exact z_sub [0, 1] (J23 _ _) rfl
      · refine z_aload_n X (q := 0) dX8_added2_14 rfl rfl ?_
        refine z_bipush X (v := (45 : Int32)) dX8_added2_15 (by decide) ?_
        refine z_callV X hK (As := [vI (45 : Int32)]) (ci := 8) rfl (by decide) (fun o => (kX8_isSign l Z  b x o _ _)) hk_X8_197 ⟨rfl, rfl⟩ hd_X8_isSign ⟨Nat.le_of_ble_eq_true rfl, Nat.le_of_ble_eq_true rfl⟩ ⟨Nat.le_of_ble_eq_true rfl, Nat.le_of_ble_eq_true rfl⟩ rfl rfl (Nat.le_of_ble_eq_true rfl) dX8_added2_17 (fun _ q8 _ => ?_)
        refine z_if_eq X (tgt := 66) dX8_added2_20 (by decide) (fun _ => ?_) (fun _ => ?_)
        · refine z_iload_n X (q := 1) dX8_added2_66 rfl rfl ?_
          subst hQ; exact z_iret X hlocks hr dX8_added2_67
        · exact z_sub [0, 1] (J23 _ _) rfl
  rw [fX8_added2]
  refine z_aload_n X (q := 0) dX8_added2_0 rfl rfl ?_
  refine z_callV X hK (As := []) (ci := 8) rfl (by decide) (fun o => (kX8_term2 l Z  b x o _)) hk_X8_269 ⟨rfl, rfl⟩ hd_X8_term2 ⟨Nat.le_of_ble_eq_true rfl, Nat.le_of_ble_eq_true rfl⟩ ⟨Nat.le_of_ble_eq_true rfl, Nat.le_of_ble_eq_true rfl⟩ rfl rfl (Nat.le_of_ble_eq_true rfl) dX8_added2_1 (fun _ q11 _ => ?_)
  refine z_name (fun v12 => ?_)
  refine z_istore_n X dX8_added2_4 rfl (Nat.le_of_ble_eq_true rfl) rfl ?_
  exact z_sub [1, 0] (J5 _ _ _) rfl
theorem zw_655 : Cond.methodLink RX8 272 yX8_added2 ∈ wsL_law := zr_17 _ (by decide +kernel)
theorem zw_656 : Cond.instanceMethod yX8_added2 ∈ wsL_law := zr_17 _ (by decide +kernel)
theorem zw_657 : Cond.selects RX8 yX8_added2 yX8_added2 ∈ wsL_law := zr_17 _ (by decide +kernel)
theorem zw_658 : Cond.code yX8_added2 cX8_added2 4 (some .int) ∈ wsL_law := zr_17 _ (by decide +kernel)
theorem hk_X8_272 : ∀ w ∈ ([Cond.methodLink RX8 272 yX8_added2, Cond.instanceMethod yX8_added2, Cond.selects RX8 yX8_added2 yX8_added2, Cond.initialized RX8, Cond.code yX8_added2 cX8_added2 4 (some .int)] : List Cond), w ∈ wsL_law := List.forall_mem_cons.mpr ⟨zw_655, List.forall_mem_cons.mpr ⟨zw_656, List.forall_mem_cons.mpr ⟨zw_657, List.forall_mem_cons.mpr ⟨zw_525, List.forall_mem_cons.mpr ⟨zw_658, fun _ h => absurd h List.not_mem_nil⟩⟩⟩⟩⟩
theorem hd_X8_added2 : yX8_added2.cls = RX8 ∧ yX8_added2.cls ≠ "java/lang/invoke/MethodHandle" ∧ yX8_added2.cls ≠ "java/lang/invoke/VarHandle" ∧ (parseMethodDescriptor yX8_added2.desc).map (fun d => d.parameters.length) = some 0 := by decide +kernel
abbrev rmX8_not2 : Room := { frames := 26, cells := 0, slots := 0, locals := 592 }
def fX8_not2_j120 (this : Nat) (st : zS) : Option (Int32 × zS) :=
  some ((1 : Int32), st)
def fX8_not2_j124 (this : Nat) (st : zS) : Option (Int32 × zS) :=
  some ((0 : Int32), st)
def fX8_not2_j93 (this : Nat) (y1 : Int32) (s0 : Int32) (st : zS) : Option (Int32 × zS) :=
  (zok spM st (some this) 8).bind fun o5 => (fX8_next o5 st).bind fun q1 => (zok spM q1.2 (some this) 8).bind fun o4 => (fX8_added2 o4 q1.2).bind fun q2 => zlet (q2.1) fun v3 => if s0 = 0 then (if y1 = v3 then (fX8_not2_j120 this q2.2) else (fX8_not2_j124 this q2.2)) else (if v3 ≤ y1 then (fX8_not2_j124 this q2.2) else (fX8_not2_j120 this q2.2))
def fX8_not2_j77 (this : Nat) (y1 : Int32) (st : zS) : Option (Int32 × zS) :=
  (zok spM st (some this) 8).bind fun o6 => if (lg_cmp (st.2.2.1 o6) (60 : Int64)) = 0 then (fX8_not2_j93 this y1 (1 : Int32) st) else (fX8_not2_j93 this y1 (0 : Int32) st)
def fX8_not2 (this : Nat) (st : zS) : Option (Int32 × zS) :=
  (zok spM st (some this) 8).bind fun o23 => (fX8_isWord o23 (110 : Int32) (111 : Int32) (116 : Int32) (0 : Int32) (0 : Int32) (0 : Int32) (0 : Int32) (0 : Int32) st).bind fun q7 => if q7.1 = 0 then ((zok spM q7.2 (some this) 8).bind fun o14 => (fX8_added2 o14 q7.2).bind fun q8 => zlet (q8.1) fun v9 => (zok spM q8.2 (some this) 8).bind fun o13 => (fX8_isSign o13 (60 : Int32) q8.2).bind fun q10 => if q10.1 = 0 then ((zok spM q10.2 (some this) 8).bind fun o12 => (fX8_isSign o12 (61 : Int32) q10.2).bind fun q11 => if q11.1 = 0 then (some (v9, q11.2)) else (fX8_not2_j77 this v9 q11.2)) else (fX8_not2_j77 this v9 q10.2)) else ((zok spM q7.2 (some this) 8).bind fun o22 => (fX8_opens o22 q7.2).bind fun q15 => if q15.1 = 0 then (some ((0 : Int32), q15.2)) else ((zok spM q15.2 (some this) 8).bind fun o21 => (fX8_not3 o21 q15.2).bind fun q16 => zlet (q16.1) fun v17 => (zok spM q16.2 (some this) 8).bind fun o18 => (zok spM q16.2 (some this) 8).bind fun o19 => zlet (zp q16.2 o19 25 ((q16.2.2.1 o18 25) - (1 : Int32))) fun st20 => if v17 = 0 then (some ((1 : Int32), st20)) else (some ((0 : Int32), st20))))
set_option maxRecDepth 100000 in
set_option maxHeartbeats 4000000 in
theorem kX8_not2 (l : Launch) (Z : zZ) (b : Nat) (x : Option Nat) (this : Nat) (st : zS) : zC l Z spM b x yX8_not2 (.code yX8_not2 cX8_not2 4 (some .int)) (rmX8_not2) rI [vP (some this)] st (fX8_not2 this st) := by
  refine z_start (own := RX8) rfl (by decide +kernel) (Nat.le_of_ble_eq_true rfl) rfl (fun p e s m args below meth c res Q A X hK hr hlocks hQ => ?_)
  have J120 : ∀ (st : zS), zs p l e (rmX8_not2) s m args below meth c Q Z spM b x A 4 0 0 res (fX8_not2_j120 this st) 120 [] [] st := by
    intro  st
    rw [fX8_not2_j120]
    refine z_iconst X (v := (1 : Int32)) dX8_not2_120 (by decide) ?_
    refine z_goto X (tgt := 125) dX8_not2_121 (by decide) ?_
    subst hQ; exact z_iret X hlocks hr dX8_not2_125
  have J124 : ∀ (st : zS), zs p l e (rmX8_not2) s m args below meth c Q Z spM b x A 4 0 0 res (fX8_not2_j124 this st) 124 [] [] st := by
    intro  st
    rw [fX8_not2_j124]
    refine z_iconst X (v := (0 : Int32)) dX8_not2_124 (by decide) ?_
    subst hQ; exact z_iret X hlocks hr dX8_not2_125
  have J93 : ∀ (y1 : Int32) (s0 : Int32) (st : zS), zs p l e (rmX8_not2) s m args below meth c Q Z spM b x A 4 0 0 res (fX8_not2_j93 this y1 s0 st) 93 [(0, vP (some this)), (1, vI y1)] [vI s0] st := by
    intro y1 s0 st
    rw [fX8_not2_j93]
    refine z_istore_n X dX8_not2_93 rfl (Nat.le_of_ble_eq_true rfl) rfl ?_
    refine z_aload_n X (q := 1) dX8_not2_94 rfl rfl ?_
    refine z_callV X hK (As := []) (ci := 8) rfl (by decide) (fun o => (kX8_next l Z  b x o _)) hk_X8_172 ⟨rfl, rfl⟩ hd_X8_next ⟨Nat.le_of_ble_eq_true rfl, Nat.le_of_ble_eq_true rfl⟩ ⟨Nat.le_of_ble_eq_true rfl, Nat.le_of_ble_eq_true rfl⟩ rfl rfl (Nat.le_of_ble_eq_true rfl) dX8_not2_95 (fun _ q1 _ => ?_)
    refine z_aload_n X (q := 1) dX8_not2_98 rfl rfl ?_
    refine z_callV X hK (As := []) (ci := 8) rfl (by decide) (fun o => (kX8_added2 l Z  b x o _)) hk_X8_272 ⟨rfl, rfl⟩ hd_X8_added2 ⟨Nat.le_of_ble_eq_true rfl, Nat.le_of_ble_eq_true rfl⟩ ⟨Nat.le_of_ble_eq_true rfl, Nat.le_of_ble_eq_true rfl⟩ rfl rfl (Nat.le_of_ble_eq_true rfl) dX8_not2_99 (fun _ q2 _ => ?_)
    refine z_name (fun v3 => ?_)
    refine z_istore_n X dX8_not2_102 rfl (Nat.le_of_ble_eq_true rfl) rfl ?_
    refine z_iload_n X (q := 1) dX8_not2_103 rfl rfl ?_
    refine z_if_eq X (tgt := 115) dX8_not2_104 (by decide) (fun _ => ?_) (fun _ => ?_)
    · refine z_iload_n X (q := 3) dX8_not2_115 rfl rfl ?_
      refine z_iload_n X (q := 0) dX8_not2_116 rfl rfl ?_
      refine z_icmp_ne X (tgt := 124) dX8_not2_117 (by decide) (fun _ => ?_) (fun _ => ?_)
      · exact z_sub [] (J124  _) rfl
      · exact z_sub [] (J120  _) rfl
    · refine z_iload_n X (q := 3) dX8_not2_107 rfl rfl ?_
      refine z_iload_n X (q := 0) dX8_not2_108 rfl rfl ?_
      refine z_icmp_ge X (tgt := 124) dX8_not2_109 (by decide) (fun _ => ?_) (fun _ => ?_)
      · exact z_sub [] (J124  _) rfl
      · refine z_goto X (tgt := 120) dX8_not2_112 (by decide) ?_
        exact z_sub [] (J120  _) rfl
  have J77 : ∀ (y1 : Int32) (st : zS), zs p l e (rmX8_not2) s m args below meth c Q Z spM b x A 4 0 0 res (fX8_not2_j77 this y1 st) 77 [(0, vP (some this)), (1, vI y1)] [] st := by
    intro y1 st
    rw [fX8_not2_j77]
    refine z_aload_n X (q := 0) dX8_not2_77 rfl rfl ?_
    refine z_getl X hK (N := 46) (ci := 8) (k := 24) rfl (by decide) inlX8 (by decide) hf_X8_149 rfl spM_X8 rfl dX8_not2_78 (fun o6 _ => ?_)
    refine z_ldc2 X (v := (60 : Int64)) (hc_X8_219) dX8_not2_81 ?_
    refine z_lcmp X dX8_not2_84 ?_
    refine z_if_ne X (tgt := 92) dX8_not2_85 (by decide) (fun _ => ?_) (fun _ => ?_)
    · refine z_iconst X (v := (0 : Int32)) dX8_not2_92 (by decide) ?_
      exact z_sub [0, 1] (J93 _ _ _) rfl
    · refine z_iconst X (v := (1 : Int32)) dX8_not2_88 (by decide) ?_
      refine z_goto X (tgt := 93) dX8_not2_89 (by decide) ?_
      exact z_sub [0, 1] (J93 _ _ _) rfl
  rw [fX8_not2]
  refine z_aload_n X (q := 0) dX8_not2_0 rfl rfl ?_
  refine z_bipush X (v := (110 : Int32)) dX8_not2_1 (by decide) ?_
  refine z_bipush X (v := (111 : Int32)) dX8_not2_3 (by decide) ?_
  refine z_bipush X (v := (116 : Int32)) dX8_not2_5 (by decide) ?_
  refine z_iconst X (v := (0 : Int32)) dX8_not2_7 (by decide) ?_
  refine z_iconst X (v := (0 : Int32)) dX8_not2_8 (by decide) ?_
  refine z_iconst X (v := (0 : Int32)) dX8_not2_9 (by decide) ?_
  refine z_iconst X (v := (0 : Int32)) dX8_not2_10 (by decide) ?_
  refine z_iconst X (v := (0 : Int32)) dX8_not2_11 (by decide) ?_
  refine z_callV X hK (As := [vI (110 : Int32), vI (111 : Int32), vI (116 : Int32), vI (0 : Int32), vI (0 : Int32), vI (0 : Int32), vI (0 : Int32), vI (0 : Int32)]) (ci := 8) rfl (by decide) (fun o => (kX8_isWord l Z  b x o _ _ _ _ _ _ _ _ _)) hk_X8_175 ⟨rfl, rfl⟩ hd_X8_isWord ⟨Nat.le_of_ble_eq_true rfl, Nat.le_of_ble_eq_true rfl⟩ ⟨Nat.le_of_ble_eq_true rfl, Nat.le_of_ble_eq_true rfl⟩ rfl rfl (Nat.le_of_ble_eq_true rfl) dX8_not2_12 (fun _ q7 _ => ?_)
  refine z_if_eq X (tgt := 52) dX8_not2_15 (by decide) (fun _ => ?_) (fun _ => ?_)
  · refine z_aload_n X (q := 0) dX8_not2_52 rfl rfl ?_
    refine z_callV X hK (As := []) (ci := 8) rfl (by decide) (fun o => (kX8_added2 l Z  b x o _)) hk_X8_272 ⟨rfl, rfl⟩ hd_X8_added2 ⟨Nat.le_of_ble_eq_true rfl, Nat.le_of_ble_eq_true rfl⟩ ⟨Nat.le_of_ble_eq_true rfl, Nat.le_of_ble_eq_true rfl⟩ rfl rfl (Nat.le_of_ble_eq_true rfl) dX8_not2_53 (fun _ q8 _ => ?_)
    refine z_name (fun v9 => ?_)
    refine z_istore_n X dX8_not2_56 rfl (Nat.le_of_ble_eq_true rfl) rfl ?_
    refine z_aload_n X (q := 1) dX8_not2_57 rfl rfl ?_
    refine z_bipush X (v := (60 : Int32)) dX8_not2_58 (by decide) ?_
    refine z_callV X hK (As := [vI (60 : Int32)]) (ci := 8) rfl (by decide) (fun o => (kX8_isSign l Z  b x o _ _)) hk_X8_197 ⟨rfl, rfl⟩ hd_X8_isSign ⟨Nat.le_of_ble_eq_true rfl, Nat.le_of_ble_eq_true rfl⟩ ⟨Nat.le_of_ble_eq_true rfl, Nat.le_of_ble_eq_true rfl⟩ rfl rfl (Nat.le_of_ble_eq_true rfl) dX8_not2_60 (fun _ q10 _ => ?_)
    refine z_if_ne X (tgt := 77) dX8_not2_63 (by decide) (fun _ => ?_) (fun _ => ?_)
    · exact z_sub [1, 0] (J77 _ _) rfl
    · refine z_aload_n X (q := 1) dX8_not2_66 rfl rfl ?_
      refine z_bipush X (v := (61 : Int32)) dX8_not2_67 (by decide) ?_
      refine z_callV X hK (As := [vI (61 : Int32)]) (ci := 8) rfl (by decide) (fun o => (kX8_isSign l Z  b x o _ _)) hk_X8_197 ⟨rfl, rfl⟩ hd_X8_isSign ⟨Nat.le_of_ble_eq_true rfl, Nat.le_of_ble_eq_true rfl⟩ ⟨Nat.le_of_ble_eq_true rfl, Nat.le_of_ble_eq_true rfl⟩ rfl rfl (Nat.le_of_ble_eq_true rfl) dX8_not2_69 (fun _ q11 _ => ?_)
      refine z_if_ne X (tgt := 77) dX8_not2_72 (by decide) (fun _ => ?_) (fun _ => ?_)
      · exact z_sub [1, 0] (J77 _ _) rfl
      · refine z_iload_n X (q := 0) dX8_not2_75 rfl rfl ?_
        subst hQ; exact z_iret X hlocks hr dX8_not2_76
  · refine z_aload_n X (q := 0) dX8_not2_18 rfl rfl ?_
    refine z_callV X hK (As := []) (ci := 8) rfl (by decide) (fun o => (kX8_opens l Z  b x o _)) hk_X8_200 ⟨rfl, rfl⟩ hd_X8_opens ⟨Nat.le_of_ble_eq_true rfl, Nat.le_of_ble_eq_true rfl⟩ ⟨Nat.le_of_ble_eq_true rfl, Nat.le_of_ble_eq_true rfl⟩ rfl rfl (Nat.le_of_ble_eq_true rfl) dX8_not2_19 (fun _ q15 _ => ?_)
    refine z_if_ne X (tgt := 27) dX8_not2_22 (by decide) (fun _ => ?_) (fun _ => ?_)
    · refine z_aload_n X (q := 0) dX8_not2_27 rfl rfl ?_
      refine z_callV X hK (As := []) (ci := 8) rfl (by decide) (fun o => (kX8_not3 l Z  b x o _)) hk_X8_257 ⟨rfl, rfl⟩ hd_X8_not3 ⟨Nat.le_of_ble_eq_true rfl, Nat.le_of_ble_eq_true rfl⟩ ⟨Nat.le_of_ble_eq_true rfl, Nat.le_of_ble_eq_true rfl⟩ rfl rfl (Nat.le_of_ble_eq_true rfl) dX8_not2_28 (fun _ q16 _ => ?_)
      refine z_name (fun v17 => ?_)
      refine z_istore_n X dX8_not2_31 rfl (Nat.le_of_ble_eq_true rfl) rfl ?_
      refine z_aload_n X (q := 1) dX8_not2_32 rfl rfl ?_
      refine z_dup X dX8_not2_33 rfl ?_
      refine z_geti X hK (N := 46) (ci := 8) (k := 25) rfl (by decide) inlX8 (by decide) hf_X8_166 rfl spM_X8 rfl dX8_not2_34 (fun o18 _ => ?_)
      refine z_iconst X (v := (1 : Int32)) dX8_not2_37 (by decide) ?_
      refine z_isub X dX8_not2_38 ?_
      refine z_puti X hK (N := 46) (ci := 8) (k := 25) rfl (by decide) inlX8 tyX8 tyX8_ok nmX8 (by decide) hf_X8_166 rfl rfl spM_X8 rfl (by decide +kernel) dX8_not2_39 (fun o19 st20 _ => ?_)
      refine z_iload_n X (q := 0) dX8_not2_42 rfl rfl ?_
      refine z_if_ne X (tgt := 50) dX8_not2_43 (by decide) (fun _ => ?_) (fun _ => ?_)
      · refine z_iconst X (v := (0 : Int32)) dX8_not2_50 (by decide) ?_
        subst hQ; exact z_iret X hlocks hr dX8_not2_51
      · refine z_iconst X (v := (1 : Int32)) dX8_not2_46 (by decide) ?_
        refine z_goto X (tgt := 51) dX8_not2_47 (by decide) ?_
        subst hQ; exact z_iret X hlocks hr dX8_not2_51
    · refine z_iconst X (v := (0 : Int32)) dX8_not2_25 (by decide) ?_
      subst hQ; exact z_iret X hlocks hr dX8_not2_26
theorem zw_659 : Cond.methodLink RX8 275 yX8_not2 ∈ wsL_law := zr_13 _ (by decide +kernel)
theorem zw_660 : Cond.instanceMethod yX8_not2 ∈ wsL_law := zr_13 _ (by decide +kernel)
theorem zw_661 : Cond.selects RX8 yX8_not2 yX8_not2 ∈ wsL_law := zr_13 _ (by decide +kernel)
theorem zw_662 : Cond.code yX8_not2 cX8_not2 4 (some .int) ∈ wsL_law := zr_13 _ (by decide +kernel)
theorem hk_X8_275 : ∀ w ∈ ([Cond.methodLink RX8 275 yX8_not2, Cond.instanceMethod yX8_not2, Cond.selects RX8 yX8_not2 yX8_not2, Cond.initialized RX8, Cond.code yX8_not2 cX8_not2 4 (some .int)] : List Cond), w ∈ wsL_law := List.forall_mem_cons.mpr ⟨zw_659, List.forall_mem_cons.mpr ⟨zw_660, List.forall_mem_cons.mpr ⟨zw_661, List.forall_mem_cons.mpr ⟨zw_525, List.forall_mem_cons.mpr ⟨zw_662, fun _ h => absurd h List.not_mem_nil⟩⟩⟩⟩⟩
theorem hd_X8_not2 : yX8_not2.cls = RX8 ∧ yX8_not2.cls ≠ "java/lang/invoke/MethodHandle" ∧ yX8_not2.cls ≠ "java/lang/invoke/VarHandle" ∧ (parseMethodDescriptor yX8_not2.desc).map (fun d => d.parameters.length) = some 0 := by decide +kernel
abbrev rmX8_both2 : Room := { frames := 27, cells := 0, slots := 0, locals := 615 }
def fX8_both2_j45 (this : Nat) (k5 : Int32 → zS → Option (Int32 × zS)) (s0 : Int32) (st : zS) : Option (Int32 × zS) :=
  k5 s0 st
def fX8_both2_j44 (this : Nat) (k5 : Int32 → zS → Option (Int32 × zS)) (st : zS) : Option (Int32 × zS) :=
  fX8_both2_j45 this k5 (0 : Int32) st
def fX8_both2_L5 (this : Nat) : Nat → Int32 → zS → Option (Int32 × zS)
  | 0, _, _ => none
  | n + 1, y1, st => (zok spM st (some this) 8).bind fun o7 => (fX8_isWord o7 (97 : Int32) (110 : Int32) (100 : Int32) (0 : Int32) (0 : Int32) (0 : Int32) (0 : Int32) (0 : Int32) st).bind fun q1 => if q1.1 = 0 then (some (y1, q1.2)) else ((zok spM q1.2 (some this) 8).bind fun o6 => (fX8_next o6 q1.2).bind fun q2 => (zok spM q2.2 (some this) 8).bind fun o5 => (fX8_not2 o5 q2.2).bind fun q3 => zlet (q3.1) fun v4 => if y1 = 0 then (fX8_both2_j44 this (fX8_both2_L5 this n) q3.2) else (if v4 = 0 then (fX8_both2_j44 this (fX8_both2_L5 this n) q3.2) else (fX8_both2_j45 this (fX8_both2_L5 this n) (1 : Int32) q3.2)))
def fX8_both2 (this : Nat) (st : zS) : Option (Int32 × zS) :=
  (zok spM st (some this) 8).bind fun o10 => (fX8_not2 o10 st).bind fun q8 => zlet (q8.1) fun v9 => fX8_both2_L5 this zF v9 q8.2
set_option maxRecDepth 100000 in
set_option maxHeartbeats 4000000 in
theorem kX8_both2 (l : Launch) (Z : zZ) (b : Nat) (x : Option Nat) (this : Nat) (st : zS) : zC l Z spM b x yX8_both2 (.code yX8_both2 cX8_both2 3 (some .int)) (rmX8_both2) rI [vP (some this)] st (fX8_both2 this st) := by
  refine z_start (own := RX8) rfl (by decide +kernel) (Nat.le_of_ble_eq_true rfl) rfl (fun p e s m args below meth c res Q A X hK hr hlocks hQ => ?_)
  have J5 : ∀ (n5 : Nat) (y1 : Int32) (st : zS), zs p l e (rmX8_both2) s m args below meth c Q Z spM b x A 3 0 0 res (fX8_both2_L5 this n5 y1 st) 5 [(0, vP (some this)), (1, vI y1)] [] st := by
    intro n5
    induction n5 with
    | zero => intros; exact z_none
    | succ n5 ih5 =>
      have J45 : ∀ (s0 : Int32) (st : zS), zs p l e (rmX8_both2) s m args below meth c Q Z spM b x A 3 0 0 res (fX8_both2_j45 this (fX8_both2_L5 this n5) s0 st) 45 [(0, vP (some this))] [vI s0] st := by
        intro s0 st
        rw [fX8_both2_j45]
        refine z_istore_n X dX8_both2_45 rfl (Nat.le_of_ble_eq_true rfl) rfl ?_
        refine z_goto X (tgt := 5) dX8_both2_46 (by decide) ?_
        exact z_sub [1, 0] (ih5 _ _) rfl
      have J44 : ∀ (st : zS), zs p l e (rmX8_both2) s m args below meth c Q Z spM b x A 3 0 0 res (fX8_both2_j44 this (fX8_both2_L5 this n5) st) 44 [(0, vP (some this))] [] st := by
        intro  st
        rw [fX8_both2_j44]
        refine z_iconst X (v := (0 : Int32)) dX8_both2_44 (by decide) ?_
        exact z_sub [0] (J45 _ _) rfl
      intro y1 st
      rw [fX8_both2_L5]
      refine z_aload_n X (q := 0) dX8_both2_5 rfl rfl ?_
      refine z_bipush X (v := (97 : Int32)) dX8_both2_6 (by decide) ?_
      refine z_bipush X (v := (110 : Int32)) dX8_both2_8 (by decide) ?_
      refine z_bipush X (v := (100 : Int32)) dX8_both2_10 (by decide) ?_
      refine z_iconst X (v := (0 : Int32)) dX8_both2_12 (by decide) ?_
      refine z_iconst X (v := (0 : Int32)) dX8_both2_13 (by decide) ?_
      refine z_iconst X (v := (0 : Int32)) dX8_both2_14 (by decide) ?_
      refine z_iconst X (v := (0 : Int32)) dX8_both2_15 (by decide) ?_
      refine z_iconst X (v := (0 : Int32)) dX8_both2_16 (by decide) ?_
      refine z_callV X hK (As := [vI (97 : Int32), vI (110 : Int32), vI (100 : Int32), vI (0 : Int32), vI (0 : Int32), vI (0 : Int32), vI (0 : Int32), vI (0 : Int32)]) (ci := 8) rfl (by decide) (fun o => (kX8_isWord l Z  b x o _ _ _ _ _ _ _ _ _)) hk_X8_175 ⟨rfl, rfl⟩ hd_X8_isWord ⟨Nat.le_of_ble_eq_true rfl, Nat.le_of_ble_eq_true rfl⟩ ⟨Nat.le_of_ble_eq_true rfl, Nat.le_of_ble_eq_true rfl⟩ rfl rfl (Nat.le_of_ble_eq_true rfl) dX8_both2_17 (fun _ q1 _ => ?_)
      refine z_if_eq X (tgt := 49) dX8_both2_20 (by decide) (fun _ => ?_) (fun _ => ?_)
      · refine z_iload_n X (q := 1) dX8_both2_49 rfl rfl ?_
        subst hQ; exact z_iret X hlocks hr dX8_both2_50
      · refine z_aload_n X (q := 0) dX8_both2_23 rfl rfl ?_
        refine z_callV X hK (As := []) (ci := 8) rfl (by decide) (fun o => (kX8_next l Z  b x o _)) hk_X8_172 ⟨rfl, rfl⟩ hd_X8_next ⟨Nat.le_of_ble_eq_true rfl, Nat.le_of_ble_eq_true rfl⟩ ⟨Nat.le_of_ble_eq_true rfl, Nat.le_of_ble_eq_true rfl⟩ rfl rfl (Nat.le_of_ble_eq_true rfl) dX8_both2_24 (fun _ q2 _ => ?_)
        refine z_aload_n X (q := 0) dX8_both2_27 rfl rfl ?_
        refine z_callV X hK (As := []) (ci := 8) rfl (by decide) (fun o => (kX8_not2 l Z  b x o _)) hk_X8_275 ⟨rfl, rfl⟩ hd_X8_not2 ⟨Nat.le_of_ble_eq_true rfl, Nat.le_of_ble_eq_true rfl⟩ ⟨Nat.le_of_ble_eq_true rfl, Nat.le_of_ble_eq_true rfl⟩ rfl rfl (Nat.le_of_ble_eq_true rfl) dX8_both2_28 (fun _ q3 _ => ?_)
        refine z_name (fun v4 => ?_)
        refine z_istore_n X dX8_both2_31 rfl (Nat.le_of_ble_eq_true rfl) rfl ?_
        refine z_iload_n X (q := 2) dX8_both2_32 rfl rfl ?_
        refine z_if_eq X (tgt := 44) dX8_both2_33 (by decide) (fun _ => ?_) (fun _ => ?_)
        · exact z_sub [1] (J44  _) rfl
        · refine z_iload_n X (q := 0) dX8_both2_36 rfl rfl ?_
          refine z_if_eq X (tgt := 44) dX8_both2_37 (by decide) (fun _ => ?_) (fun _ => ?_)
          · exact z_sub [1] (J44  _) rfl
          · refine z_iconst X (v := (1 : Int32)) dX8_both2_40 (by decide) ?_
            refine z_goto X (tgt := 45) dX8_both2_41 (by decide) ?_
            exact z_sub [1] (J45 _ _) rfl
  rw [fX8_both2]
  refine z_aload_n X (q := 0) dX8_both2_0 rfl rfl ?_
  refine z_callV X hK (As := []) (ci := 8) rfl (by decide) (fun o => (kX8_not2 l Z  b x o _)) hk_X8_275 ⟨rfl, rfl⟩ hd_X8_not2 ⟨Nat.le_of_ble_eq_true rfl, Nat.le_of_ble_eq_true rfl⟩ ⟨Nat.le_of_ble_eq_true rfl, Nat.le_of_ble_eq_true rfl⟩ rfl rfl (Nat.le_of_ble_eq_true rfl) dX8_both2_1 (fun _ q8 _ => ?_)
  refine z_name (fun v9 => ?_)
  refine z_istore_n X dX8_both2_4 rfl (Nat.le_of_ble_eq_true rfl) rfl ?_
  exact z_sub [1, 0] (J5 _ _ _) rfl
theorem zw_663 : Cond.methodLink RX8 278 yX8_both2 ∈ wsL_law := zr_18 _ (by decide +kernel)
theorem zw_664 : Cond.instanceMethod yX8_both2 ∈ wsL_law := zr_18 _ (by decide +kernel)
theorem zw_665 : Cond.selects RX8 yX8_both2 yX8_both2 ∈ wsL_law := zr_18 _ (by decide +kernel)
theorem zw_666 : Cond.code yX8_both2 cX8_both2 3 (some .int) ∈ wsL_law := zr_18 _ (by decide +kernel)
theorem hk_X8_278 : ∀ w ∈ ([Cond.methodLink RX8 278 yX8_both2, Cond.instanceMethod yX8_both2, Cond.selects RX8 yX8_both2 yX8_both2, Cond.initialized RX8, Cond.code yX8_both2 cX8_both2 3 (some .int)] : List Cond), w ∈ wsL_law := List.forall_mem_cons.mpr ⟨zw_663, List.forall_mem_cons.mpr ⟨zw_664, List.forall_mem_cons.mpr ⟨zw_665, List.forall_mem_cons.mpr ⟨zw_525, List.forall_mem_cons.mpr ⟨zw_666, fun _ h => absurd h List.not_mem_nil⟩⟩⟩⟩⟩
theorem hd_X8_both2 : yX8_both2.cls = RX8 ∧ yX8_both2.cls ≠ "java/lang/invoke/MethodHandle" ∧ yX8_both2.cls ≠ "java/lang/invoke/VarHandle" ∧ (parseMethodDescriptor yX8_both2.desc).map (fun d => d.parameters.length) = some 0 := by decide +kernel
abbrev rmX8_either2 : Room := { frames := 28, cells := 0, slots := 0, locals := 637 }
def fX8_either2_j44 (this : Nat) (k5 : Int32 → zS → Option (Int32 × zS)) (s0 : Int32) (st : zS) : Option (Int32 × zS) :=
  k5 s0 st
def fX8_either2_j39 (this : Nat) (k5 : Int32 → zS → Option (Int32 × zS)) (st : zS) : Option (Int32 × zS) :=
  fX8_either2_j44 this k5 (1 : Int32) st
def fX8_either2_L5 (this : Nat) : Nat → Int32 → zS → Option (Int32 × zS)
  | 0, _, _ => none
  | n + 1, y1, st => (zok spM st (some this) 8).bind fun o7 => (fX8_isWord o7 (111 : Int32) (114 : Int32) (0 : Int32) (0 : Int32) (0 : Int32) (0 : Int32) (0 : Int32) (0 : Int32) st).bind fun q1 => if q1.1 = 0 then (some (y1, q1.2)) else ((zok spM q1.2 (some this) 8).bind fun o6 => (fX8_next o6 q1.2).bind fun q2 => (zok spM q2.2 (some this) 8).bind fun o5 => (fX8_both2 o5 q2.2).bind fun q3 => zlet (q3.1) fun v4 => if y1 = 0 then (if v4 = 0 then (fX8_either2_j44 this (fX8_either2_L5 this n) (0 : Int32) q3.2) else (fX8_either2_j39 this (fX8_either2_L5 this n) q3.2)) else (fX8_either2_j39 this (fX8_either2_L5 this n) q3.2))
def fX8_either2 (this : Nat) (st : zS) : Option (Int32 × zS) :=
  (zok spM st (some this) 8).bind fun o10 => (fX8_both2 o10 st).bind fun q8 => zlet (q8.1) fun v9 => fX8_either2_L5 this zF v9 q8.2
set_option maxRecDepth 100000 in
set_option maxHeartbeats 4000000 in
theorem kX8_either2 (l : Launch) (Z : zZ) (b : Nat) (x : Option Nat) (this : Nat) (st : zS) : zC l Z spM b x yX8_either2 (.code yX8_either2 cX8_either2 3 (some .int)) (rmX8_either2) rI [vP (some this)] st (fX8_either2 this st) := by
  refine z_start (own := RX8) rfl (by decide +kernel) (Nat.le_of_ble_eq_true rfl) rfl (fun p e s m args below meth c res Q A X hK hr hlocks hQ => ?_)
  have J5 : ∀ (n5 : Nat) (y1 : Int32) (st : zS), zs p l e (rmX8_either2) s m args below meth c Q Z spM b x A 3 0 0 res (fX8_either2_L5 this n5 y1 st) 5 [(0, vP (some this)), (1, vI y1)] [] st := by
    intro n5
    induction n5 with
    | zero => intros; exact z_none
    | succ n5 ih5 =>
      have J44 : ∀ (s0 : Int32) (st : zS), zs p l e (rmX8_either2) s m args below meth c Q Z spM b x A 3 0 0 res (fX8_either2_j44 this (fX8_either2_L5 this n5) s0 st) 44 [(0, vP (some this))] [vI s0] st := by
        intro s0 st
        rw [fX8_either2_j44]
        refine z_istore_n X dX8_either2_44 rfl (Nat.le_of_ble_eq_true rfl) rfl ?_
        refine z_goto X (tgt := 5) dX8_either2_45 (by decide) ?_
        exact z_sub [1, 0] (ih5 _ _) rfl
      have J39 : ∀ (st : zS), zs p l e (rmX8_either2) s m args below meth c Q Z spM b x A 3 0 0 res (fX8_either2_j39 this (fX8_either2_L5 this n5) st) 39 [(0, vP (some this))] [] st := by
        intro  st
        rw [fX8_either2_j39]
        refine z_iconst X (v := (1 : Int32)) dX8_either2_39 (by decide) ?_
        refine z_goto X (tgt := 44) dX8_either2_40 (by decide) ?_
        exact z_sub [0] (J44 _ _) rfl
      intro y1 st
      rw [fX8_either2_L5]
      refine z_aload_n X (q := 0) dX8_either2_5 rfl rfl ?_
      refine z_bipush X (v := (111 : Int32)) dX8_either2_6 (by decide) ?_
      refine z_bipush X (v := (114 : Int32)) dX8_either2_8 (by decide) ?_
      refine z_iconst X (v := (0 : Int32)) dX8_either2_10 (by decide) ?_
      refine z_iconst X (v := (0 : Int32)) dX8_either2_11 (by decide) ?_
      refine z_iconst X (v := (0 : Int32)) dX8_either2_12 (by decide) ?_
      refine z_iconst X (v := (0 : Int32)) dX8_either2_13 (by decide) ?_
      refine z_iconst X (v := (0 : Int32)) dX8_either2_14 (by decide) ?_
      refine z_iconst X (v := (0 : Int32)) dX8_either2_15 (by decide) ?_
      refine z_callV X hK (As := [vI (111 : Int32), vI (114 : Int32), vI (0 : Int32), vI (0 : Int32), vI (0 : Int32), vI (0 : Int32), vI (0 : Int32), vI (0 : Int32)]) (ci := 8) rfl (by decide) (fun o => (kX8_isWord l Z  b x o _ _ _ _ _ _ _ _ _)) hk_X8_175 ⟨rfl, rfl⟩ hd_X8_isWord ⟨Nat.le_of_ble_eq_true rfl, Nat.le_of_ble_eq_true rfl⟩ ⟨Nat.le_of_ble_eq_true rfl, Nat.le_of_ble_eq_true rfl⟩ rfl rfl (Nat.le_of_ble_eq_true rfl) dX8_either2_16 (fun _ q1 _ => ?_)
      refine z_if_eq X (tgt := 48) dX8_either2_19 (by decide) (fun _ => ?_) (fun _ => ?_)
      · refine z_iload_n X (q := 1) dX8_either2_48 rfl rfl ?_
        subst hQ; exact z_iret X hlocks hr dX8_either2_49
      · refine z_aload_n X (q := 0) dX8_either2_22 rfl rfl ?_
        refine z_callV X hK (As := []) (ci := 8) rfl (by decide) (fun o => (kX8_next l Z  b x o _)) hk_X8_172 ⟨rfl, rfl⟩ hd_X8_next ⟨Nat.le_of_ble_eq_true rfl, Nat.le_of_ble_eq_true rfl⟩ ⟨Nat.le_of_ble_eq_true rfl, Nat.le_of_ble_eq_true rfl⟩ rfl rfl (Nat.le_of_ble_eq_true rfl) dX8_either2_23 (fun _ q2 _ => ?_)
        refine z_aload_n X (q := 0) dX8_either2_26 rfl rfl ?_
        refine z_callV X hK (As := []) (ci := 8) rfl (by decide) (fun o => (kX8_both2 l Z  b x o _)) hk_X8_278 ⟨rfl, rfl⟩ hd_X8_both2 ⟨Nat.le_of_ble_eq_true rfl, Nat.le_of_ble_eq_true rfl⟩ ⟨Nat.le_of_ble_eq_true rfl, Nat.le_of_ble_eq_true rfl⟩ rfl rfl (Nat.le_of_ble_eq_true rfl) dX8_either2_27 (fun _ q3 _ => ?_)
        refine z_name (fun v4 => ?_)
        refine z_istore_n X dX8_either2_30 rfl (Nat.le_of_ble_eq_true rfl) rfl ?_
        refine z_iload_n X (q := 2) dX8_either2_31 rfl rfl ?_
        refine z_if_ne X (tgt := 39) dX8_either2_32 (by decide) (fun _ => ?_) (fun _ => ?_)
        · exact z_sub [1] (J39  _) rfl
        · refine z_iload_n X (q := 0) dX8_either2_35 rfl rfl ?_
          refine z_if_eq X (tgt := 43) dX8_either2_36 (by decide) (fun _ => ?_) (fun _ => ?_)
          · refine z_iconst X (v := (0 : Int32)) dX8_either2_43 (by decide) ?_
            exact z_sub [1] (J44 _ _) rfl
          · exact z_sub [1] (J39  _) rfl
  rw [fX8_either2]
  refine z_aload_n X (q := 0) dX8_either2_0 rfl rfl ?_
  refine z_callV X hK (As := []) (ci := 8) rfl (by decide) (fun o => (kX8_both2 l Z  b x o _)) hk_X8_278 ⟨rfl, rfl⟩ hd_X8_both2 ⟨Nat.le_of_ble_eq_true rfl, Nat.le_of_ble_eq_true rfl⟩ ⟨Nat.le_of_ble_eq_true rfl, Nat.le_of_ble_eq_true rfl⟩ rfl rfl (Nat.le_of_ble_eq_true rfl) dX8_either2_1 (fun _ q8 _ => ?_)
  refine z_name (fun v9 => ?_)
  refine z_istore_n X dX8_either2_4 rfl (Nat.le_of_ble_eq_true rfl) rfl ?_
  exact z_sub [1, 0] (J5 _ _ _) rfl
theorem zw_667 : Cond.methodLink RX8 281 yX8_either2 ∈ wsL_law := zr_18 _ (by decide +kernel)
theorem zw_668 : Cond.instanceMethod yX8_either2 ∈ wsL_law := zr_18 _ (by decide +kernel)
theorem zw_669 : Cond.selects RX8 yX8_either2 yX8_either2 ∈ wsL_law := zr_18 _ (by decide +kernel)
theorem zw_670 : Cond.code yX8_either2 cX8_either2 3 (some .int) ∈ wsL_law := zr_18 _ (by decide +kernel)
theorem hk_X8_281 : ∀ w ∈ ([Cond.methodLink RX8 281 yX8_either2, Cond.instanceMethod yX8_either2, Cond.selects RX8 yX8_either2 yX8_either2, Cond.initialized RX8, Cond.code yX8_either2 cX8_either2 3 (some .int)] : List Cond), w ∈ wsL_law := List.forall_mem_cons.mpr ⟨zw_667, List.forall_mem_cons.mpr ⟨zw_668, List.forall_mem_cons.mpr ⟨zw_669, List.forall_mem_cons.mpr ⟨zw_525, List.forall_mem_cons.mpr ⟨zw_670, fun _ h => absurd h List.not_mem_nil⟩⟩⟩⟩⟩
theorem hd_X8_either2 : yX8_either2.cls = RX8 ∧ yX8_either2.cls ≠ "java/lang/invoke/MethodHandle" ∧ yX8_either2.cls ≠ "java/lang/invoke/VarHandle" ∧ (parseMethodDescriptor yX8_either2.desc).map (fun d => d.parameters.length) = some 0 := by decide +kernel
abbrev rmX8_atom1 : Room := { frames := 29, cells := 0, slots := 0, locals := 659 }
def fX8_atom1_j71 (this : Nat) (y1 : Int32) (st : zS) : Option (Int32 × zS) :=
  (zok spM st (some this) 8).bind fun o1 => (zok spM st (some this) 8).bind fun o2 => zlet (zp st o2 25 ((st.2.1 o1 25) - (1 : Int32))) fun st3 => (zok spM st3 (some this) 8).bind fun o4 => if (st3.2.1 o4 26) = 0 then ((zok spM st3 (some this) 8).bind fun o6 => (fX8_next o6 st3).bind fun q5 => some (y1, q5.2)) else (some (y1, st3))
def fX8_atom1_j157 (this : Nat) (y1 : Int32) (st : zS) : Option (Int32 × zS) :=
  (zok spM st (some this) 8).bind fun o8 => (fX8_fail o8 st).bind fun q7 => some (y1, q7.2)
def fX8_atom1_j123 (this : Nat) (y1 : Int32) (st : zS) : Option (Int32 × zS) :=
  (zok spM st (some this) 8).bind fun o9 => if (st.2.1 o9 26) = 0 then ((zok spM st (some this) 8).bind fun o10 => if (st.2.1 o10 22) = (1 : Int32) then ((zok spM st (some this) 8).bind fun o16 => (fX8_name o16 st).bind fun q11 => zlet (q11.1) fun v12 => (zok spM q11.2 (some this) 8).bind fun o13 => if (q11.2.2.1 o13 26) = 0 then ((zok spM q11.2 (some this) 8).bind fun o15 => (fX8_next o15 q11.2).bind fun q14 => some (v12, q14.2)) else (some (v12, q11.2))) else (fX8_atom1_j157 this y1 st)) else (fX8_atom1_j157 this y1 st)
def fX8_atom1 (this : Nat) (st : zS) : Option (Int32 × zS) :=
  (zok spM st (some this) 8).bind fun o43 => (fX8_isSign o43 (45 : Int32) st).bind fun q17 => if q17.1 = 0 then ((zok spM q17.2 (some this) 8).bind fun o34 => (fX8_isSign o34 (40 : Int32) q17.2).bind fun q18 => if q18.1 = 0 then ((zok spM q18.2 (some this) 8).bind fun o19 => if (q18.2.2.1 o19 26) = 0 then ((zok spM q18.2 (some this) 8).bind fun o20 => if (q18.2.2.1 o20 22) = (2 : Int32) then ((zok spM q18.2 (some this) 8).bind fun o21 => zlet (((q18.2.2.2.1 o21).toInt32)) fun v22 => (zok spM q18.2 (some this) 8).bind fun o24 => (fX8_next o24 q18.2).bind fun q23 => some (v22, q23.2)) else (fX8_atom1_j123 this (0 : Int32) q18.2)) else (fX8_atom1_j123 this (0 : Int32) q18.2)) else ((zok spM q18.2 (some this) 8).bind fun o33 => (fX8_opens o33 q18.2).bind fun q25 => if q25.1 = 0 then (some ((0 : Int32), q25.2)) else ((zok spM q25.2 (some this) 8).bind fun o32 => (fX8_either2 o32 q25.2).bind fun q26 => zlet (q26.1) fun v27 => (zok spM q26.2 (some this) 8).bind fun o31 => (fX8_isSign o31 (41 : Int32) q26.2).bind fun q28 => if q28.1 = 0 then ((zok spM q28.2 (some this) 8).bind fun o30 => (fX8_fail o30 q28.2).bind fun q29 => fX8_atom1_j71 this v27 q29.2) else (fX8_atom1_j71 this v27 q28.2)))) else ((zok spM q17.2 (some this) 8).bind fun o42 => (fX8_opens o42 q17.2).bind fun q35 => if q35.1 = 0 then (some ((0 : Int32), q35.2)) else ((zok spM q35.2 (some this) 8).bind fun o41 => (fX8_atom2 o41 q35.2).bind fun q36 => zlet ((-q36.1)) fun v37 => (zok spM q36.2 (some this) 8).bind fun o38 => (zok spM q36.2 (some this) 8).bind fun o39 => zlet (zp q36.2 o39 25 ((q36.2.2.1 o38 25) - (1 : Int32))) fun st40 => some (v37, st40)))
set_option maxRecDepth 100000 in
set_option maxHeartbeats 4000000 in
theorem kX8_atom1 (l : Launch) (Z : zZ) (b : Nat) (x : Option Nat) (this : Nat) (st : zS) : zC l Z spM b x yX8_atom1 (.code yX8_atom1 cX8_atom1 2 (some .int)) (rmX8_atom1) rI [vP (some this)] st (fX8_atom1 this st) := by
  refine z_start (own := RX8) rfl (by decide +kernel) (Nat.le_of_ble_eq_true rfl) rfl (fun p e s m args below meth c res Q A X hK hr hlocks hQ => ?_)
  have J71 : ∀ (y1 : Int32) (st : zS), zs p l e (rmX8_atom1) s m args below meth c Q Z spM b x A 2 0 0 res (fX8_atom1_j71 this y1 st) 71 [(0, vP (some this)), (1, vI y1)] [] st := by
    intro y1 st
    rw [fX8_atom1_j71]
    refine z_aload_n X (q := 0) dX8_atom1_71 rfl rfl ?_
    refine z_dup X dX8_atom1_72 rfl ?_
    refine z_geti X hK (N := 46) (ci := 8) (k := 25) rfl (by decide) inlX8 (by decide) hf_X8_166 rfl spM_X8 rfl dX8_atom1_73 (fun o1 _ => ?_)
    refine z_iconst X (v := (1 : Int32)) dX8_atom1_76 (by decide) ?_
    refine z_isub X dX8_atom1_77 ?_
    refine z_puti X hK (N := 46) (ci := 8) (k := 25) rfl (by decide) inlX8 tyX8 tyX8_ok nmX8 (by decide) hf_X8_166 rfl rfl spM_X8 rfl (by decide +kernel) dX8_atom1_78 (fun o2 st3 _ => ?_)
    refine z_aload_n X (q := 0) dX8_atom1_81 rfl rfl ?_
    refine z_geti X hK (N := 46) (ci := 8) (k := 26) rfl (by decide) inlX8 (by decide) hf_X8_155 rfl spM_X8 rfl dX8_atom1_82 (fun o4 _ => ?_)
    refine z_if_ne X (tgt := 161) dX8_atom1_85 (by decide) (fun _ => ?_) (fun _ => ?_)
    · refine z_iload_n X (q := 1) dX8_atom1_161 rfl rfl ?_
      subst hQ; exact z_iret X hlocks hr dX8_atom1_162
    · refine z_aload_n X (q := 0) dX8_atom1_88 rfl rfl ?_
      refine z_callV X hK (As := []) (ci := 8) rfl (by decide) (fun o => (kX8_next l Z  b x o _)) hk_X8_172 ⟨rfl, rfl⟩ hd_X8_next ⟨Nat.le_of_ble_eq_true rfl, Nat.le_of_ble_eq_true rfl⟩ ⟨Nat.le_of_ble_eq_true rfl, Nat.le_of_ble_eq_true rfl⟩ rfl rfl (Nat.le_of_ble_eq_true rfl) dX8_atom1_89 (fun _ q5 _ => ?_)
      refine z_goto X (tgt := 161) dX8_atom1_92 (by decide) ?_
      refine z_iload_n X (q := 1) dX8_atom1_161 rfl rfl ?_
      subst hQ; exact z_iret X hlocks hr dX8_atom1_162
  have J157 : ∀ (y1 : Int32) (st : zS), zs p l e (rmX8_atom1) s m args below meth c Q Z spM b x A 2 0 0 res (fX8_atom1_j157 this y1 st) 157 [(0, vP (some this)), (1, vI y1)] [] st := by
    intro y1 st
    rw [fX8_atom1_j157]
    refine z_aload_n X (q := 0) dX8_atom1_157 rfl rfl ?_
    refine z_callV X hK (As := []) (ci := 8) rfl (by decide) (fun o => (kX8_fail l Z  b x o _)) hk_X8_169 ⟨rfl, rfl⟩ hd_X8_fail ⟨Nat.le_of_ble_eq_true rfl, Nat.le_of_ble_eq_true rfl⟩ ⟨Nat.le_of_ble_eq_true rfl, Nat.le_of_ble_eq_true rfl⟩ rfl rfl (Nat.le_of_ble_eq_true rfl) dX8_atom1_158 (fun _ q7 _ => ?_)
    refine z_iload_n X (q := 1) dX8_atom1_161 rfl rfl ?_
    subst hQ; exact z_iret X hlocks hr dX8_atom1_162
  have J123 : ∀ (y1 : Int32) (st : zS), zs p l e (rmX8_atom1) s m args below meth c Q Z spM b x A 2 0 0 res (fX8_atom1_j123 this y1 st) 123 [(0, vP (some this)), (1, vI y1)] [] st := by
    intro y1 st
    rw [fX8_atom1_j123]
    refine z_aload_n X (q := 0) dX8_atom1_123 rfl rfl ?_
    refine z_geti X hK (N := 46) (ci := 8) (k := 26) rfl (by decide) inlX8 (by decide) hf_X8_155 rfl spM_X8 rfl dX8_atom1_124 (fun o9 _ => ?_)
    refine z_if_ne X (tgt := 157) dX8_atom1_127 (by decide) (fun _ => ?_) (fun _ => ?_)
    · exact z_sub [0, 1] (J157 _ _) rfl
    · refine z_aload_n X (q := 0) dX8_atom1_130 rfl rfl ?_
      refine z_geti X hK (N := 46) (ci := 8) (k := 22) rfl (by decide) inlX8 (by decide) hf_X8_138 rfl spM_X8 rfl dX8_atom1_131 (fun o10 _ => ?_)
      refine z_iconst X (v := (1 : Int32)) dX8_atom1_134 (by decide) ?_
      refine z_icmp_ne X (tgt := 157) dX8_atom1_135 (by decide) (fun _ => ?_) (fun _ => ?_)
      · exact z_sub [0, 1] (J157 _ _) rfl
      · refine z_aload_n X (q := 0) dX8_atom1_138 rfl rfl ?_
        refine z_callV X hK (As := []) (ci := 8) rfl (by decide) (fun o => (kX8_name l Z  b x o _)) hk_X8_204 ⟨rfl, rfl⟩ hd_X8_name ⟨Nat.le_of_ble_eq_true rfl, Nat.le_of_ble_eq_true rfl⟩ ⟨Nat.le_of_ble_eq_true rfl, Nat.le_of_ble_eq_true rfl⟩ rfl rfl (Nat.le_of_ble_eq_true rfl) dX8_atom1_139 (fun _ q11 _ => ?_)
        refine z_name (fun v12 => ?_)
        refine z_istore_n X dX8_atom1_142 rfl (Nat.le_of_ble_eq_true rfl) rfl ?_
        refine z_aload_n X (q := 1) dX8_atom1_143 rfl rfl ?_
        refine z_geti X hK (N := 46) (ci := 8) (k := 26) rfl (by decide) inlX8 (by decide) hf_X8_155 rfl spM_X8 rfl dX8_atom1_144 (fun o13 _ => ?_)
        refine z_if_ne X (tgt := 161) dX8_atom1_147 (by decide) (fun _ => ?_) (fun _ => ?_)
        · refine z_iload_n X (q := 0) dX8_atom1_161 rfl rfl ?_
          subst hQ; exact z_iret X hlocks hr dX8_atom1_162
        · refine z_aload_n X (q := 1) dX8_atom1_150 rfl rfl ?_
          refine z_callV X hK (As := []) (ci := 8) rfl (by decide) (fun o => (kX8_next l Z  b x o _)) hk_X8_172 ⟨rfl, rfl⟩ hd_X8_next ⟨Nat.le_of_ble_eq_true rfl, Nat.le_of_ble_eq_true rfl⟩ ⟨Nat.le_of_ble_eq_true rfl, Nat.le_of_ble_eq_true rfl⟩ rfl rfl (Nat.le_of_ble_eq_true rfl) dX8_atom1_151 (fun _ q14 _ => ?_)
          refine z_goto X (tgt := 161) dX8_atom1_154 (by decide) ?_
          refine z_iload_n X (q := 0) dX8_atom1_161 rfl rfl ?_
          subst hQ; exact z_iret X hlocks hr dX8_atom1_162
  rw [fX8_atom1]
  refine z_iconst X (v := (0 : Int32)) dX8_atom1_0 (by decide) ?_
  refine z_istore_n X dX8_atom1_1 rfl (Nat.le_of_ble_eq_true rfl) rfl ?_
  refine z_aload_n X (q := 1) dX8_atom1_2 rfl rfl ?_
  refine z_bipush X (v := (45 : Int32)) dX8_atom1_3 (by decide) ?_
  refine z_callV X hK (As := [vI (45 : Int32)]) (ci := 8) rfl (by decide) (fun o => (kX8_isSign l Z  b x o _ _)) hk_X8_197 ⟨rfl, rfl⟩ hd_X8_isSign ⟨Nat.le_of_ble_eq_true rfl, Nat.le_of_ble_eq_true rfl⟩ ⟨Nat.le_of_ble_eq_true rfl, Nat.le_of_ble_eq_true rfl⟩ rfl rfl (Nat.le_of_ble_eq_true rfl) dX8_atom1_5 (fun _ q17 _ => ?_)
  refine z_if_eq X (tgt := 37) dX8_atom1_8 (by decide) (fun _ => ?_) (fun _ => ?_)
  · refine z_aload_n X (q := 1) dX8_atom1_37 rfl rfl ?_
    refine z_bipush X (v := (40 : Int32)) dX8_atom1_38 (by decide) ?_
    refine z_callV X hK (As := [vI (40 : Int32)]) (ci := 8) rfl (by decide) (fun o => (kX8_isSign l Z  b x o _ _)) hk_X8_197 ⟨rfl, rfl⟩ hd_X8_isSign ⟨Nat.le_of_ble_eq_true rfl, Nat.le_of_ble_eq_true rfl⟩ ⟨Nat.le_of_ble_eq_true rfl, Nat.le_of_ble_eq_true rfl⟩ rfl rfl (Nat.le_of_ble_eq_true rfl) dX8_atom1_40 (fun _ q18 _ => ?_)
    refine z_if_eq X (tgt := 95) dX8_atom1_43 (by decide) (fun _ => ?_) (fun _ => ?_)
    · refine z_aload_n X (q := 1) dX8_atom1_95 rfl rfl ?_
      refine z_geti X hK (N := 46) (ci := 8) (k := 26) rfl (by decide) inlX8 (by decide) hf_X8_155 rfl spM_X8 rfl dX8_atom1_96 (fun o19 _ => ?_)
      refine z_if_ne X (tgt := 123) dX8_atom1_99 (by decide) (fun _ => ?_) (fun _ => ?_)
      · exact z_sub [1, 0] (J123 _ _) rfl
      · refine z_aload_n X (q := 1) dX8_atom1_102 rfl rfl ?_
        refine z_geti X hK (N := 46) (ci := 8) (k := 22) rfl (by decide) inlX8 (by decide) hf_X8_138 rfl spM_X8 rfl dX8_atom1_103 (fun o20 _ => ?_)
        refine z_iconst X (v := (2 : Int32)) dX8_atom1_106 (by decide) ?_
        refine z_icmp_ne X (tgt := 123) dX8_atom1_107 (by decide) (fun _ => ?_) (fun _ => ?_)
        · exact z_sub [1, 0] (J123 _ _) rfl
        · refine z_aload_n X (q := 1) dX8_atom1_110 rfl rfl ?_
          refine z_getl X hK (N := 46) (ci := 8) (k := 24) rfl (by decide) inlX8 (by decide) hf_X8_149 rfl spM_X8 rfl dX8_atom1_111 (fun o21 _ => ?_)
          refine z_l2i X dX8_atom1_114 ?_
          refine z_name (fun v22 => ?_)
          refine z_istore_n X dX8_atom1_115 rfl (Nat.le_of_ble_eq_true rfl) rfl ?_
          refine z_aload_n X (q := 1) dX8_atom1_116 rfl rfl ?_
          refine z_callV X hK (As := []) (ci := 8) rfl (by decide) (fun o => (kX8_next l Z  b x o _)) hk_X8_172 ⟨rfl, rfl⟩ hd_X8_next ⟨Nat.le_of_ble_eq_true rfl, Nat.le_of_ble_eq_true rfl⟩ ⟨Nat.le_of_ble_eq_true rfl, Nat.le_of_ble_eq_true rfl⟩ rfl rfl (Nat.le_of_ble_eq_true rfl) dX8_atom1_117 (fun _ q23 _ => ?_)
          refine z_goto X (tgt := 161) dX8_atom1_120 (by decide) ?_
          refine z_iload_n X (q := 0) dX8_atom1_161 rfl rfl ?_
          subst hQ; exact z_iret X hlocks hr dX8_atom1_162
    · refine z_aload_n X (q := 1) dX8_atom1_46 rfl rfl ?_
      refine z_callV X hK (As := []) (ci := 8) rfl (by decide) (fun o => (kX8_opens l Z  b x o _)) hk_X8_200 ⟨rfl, rfl⟩ hd_X8_opens ⟨Nat.le_of_ble_eq_true rfl, Nat.le_of_ble_eq_true rfl⟩ ⟨Nat.le_of_ble_eq_true rfl, Nat.le_of_ble_eq_true rfl⟩ rfl rfl (Nat.le_of_ble_eq_true rfl) dX8_atom1_47 (fun _ q25 _ => ?_)
      refine z_if_eq X (tgt := 161) dX8_atom1_50 (by decide) (fun _ => ?_) (fun _ => ?_)
      · refine z_iload_n X (q := 0) dX8_atom1_161 rfl rfl ?_
        subst hQ; exact z_iret X hlocks hr dX8_atom1_162
      · refine z_aload_n X (q := 1) dX8_atom1_53 rfl rfl ?_
        refine z_callV X hK (As := []) (ci := 8) rfl (by decide) (fun o => (kX8_either2 l Z  b x o _)) hk_X8_281 ⟨rfl, rfl⟩ hd_X8_either2 ⟨Nat.le_of_ble_eq_true rfl, Nat.le_of_ble_eq_true rfl⟩ ⟨Nat.le_of_ble_eq_true rfl, Nat.le_of_ble_eq_true rfl⟩ rfl rfl (Nat.le_of_ble_eq_true rfl) dX8_atom1_54 (fun _ q26 _ => ?_)
        refine z_name (fun v27 => ?_)
        refine z_istore_n X dX8_atom1_57 rfl (Nat.le_of_ble_eq_true rfl) rfl ?_
        refine z_aload_n X (q := 1) dX8_atom1_58 rfl rfl ?_
        refine z_bipush X (v := (41 : Int32)) dX8_atom1_59 (by decide) ?_
        refine z_callV X hK (As := [vI (41 : Int32)]) (ci := 8) rfl (by decide) (fun o => (kX8_isSign l Z  b x o _ _)) hk_X8_197 ⟨rfl, rfl⟩ hd_X8_isSign ⟨Nat.le_of_ble_eq_true rfl, Nat.le_of_ble_eq_true rfl⟩ ⟨Nat.le_of_ble_eq_true rfl, Nat.le_of_ble_eq_true rfl⟩ rfl rfl (Nat.le_of_ble_eq_true rfl) dX8_atom1_61 (fun _ q28 _ => ?_)
        refine z_if_ne X (tgt := 71) dX8_atom1_64 (by decide) (fun _ => ?_) (fun _ => ?_)
        · exact z_sub [1, 0] (J71 _ _) rfl
        · refine z_aload_n X (q := 1) dX8_atom1_67 rfl rfl ?_
          refine z_callV X hK (As := []) (ci := 8) rfl (by decide) (fun o => (kX8_fail l Z  b x o _)) hk_X8_169 ⟨rfl, rfl⟩ hd_X8_fail ⟨Nat.le_of_ble_eq_true rfl, Nat.le_of_ble_eq_true rfl⟩ ⟨Nat.le_of_ble_eq_true rfl, Nat.le_of_ble_eq_true rfl⟩ rfl rfl (Nat.le_of_ble_eq_true rfl) dX8_atom1_68 (fun _ q29 _ => ?_)
          exact z_sub [1, 0] (J71 _ _) rfl
  · refine z_aload_n X (q := 1) dX8_atom1_11 rfl rfl ?_
    refine z_callV X hK (As := []) (ci := 8) rfl (by decide) (fun o => (kX8_opens l Z  b x o _)) hk_X8_200 ⟨rfl, rfl⟩ hd_X8_opens ⟨Nat.le_of_ble_eq_true rfl, Nat.le_of_ble_eq_true rfl⟩ ⟨Nat.le_of_ble_eq_true rfl, Nat.le_of_ble_eq_true rfl⟩ rfl rfl (Nat.le_of_ble_eq_true rfl) dX8_atom1_12 (fun _ q35 _ => ?_)
    refine z_if_eq X (tgt := 161) dX8_atom1_15 (by decide) (fun _ => ?_) (fun _ => ?_)
    · refine z_iload_n X (q := 0) dX8_atom1_161 rfl rfl ?_
      subst hQ; exact z_iret X hlocks hr dX8_atom1_162
    · refine z_aload_n X (q := 1) dX8_atom1_18 rfl rfl ?_
      refine z_callV X hK (As := []) (ci := 8) rfl (by decide) (fun o => (kX8_atom2 l Z  b x o _)) hk_X8_266 ⟨rfl, rfl⟩ hd_X8_atom2 ⟨Nat.le_of_ble_eq_true rfl, Nat.le_of_ble_eq_true rfl⟩ ⟨Nat.le_of_ble_eq_true rfl, Nat.le_of_ble_eq_true rfl⟩ rfl rfl (Nat.le_of_ble_eq_true rfl) dX8_atom1_19 (fun _ q36 _ => ?_)
      refine z_ineg X dX8_atom1_22 ?_
      refine z_name (fun v37 => ?_)
      refine z_istore_n X dX8_atom1_23 rfl (Nat.le_of_ble_eq_true rfl) rfl ?_
      refine z_aload_n X (q := 1) dX8_atom1_24 rfl rfl ?_
      refine z_dup X dX8_atom1_25 rfl ?_
      refine z_geti X hK (N := 46) (ci := 8) (k := 25) rfl (by decide) inlX8 (by decide) hf_X8_166 rfl spM_X8 rfl dX8_atom1_26 (fun o38 _ => ?_)
      refine z_iconst X (v := (1 : Int32)) dX8_atom1_29 (by decide) ?_
      refine z_isub X dX8_atom1_30 ?_
      refine z_puti X hK (N := 46) (ci := 8) (k := 25) rfl (by decide) inlX8 tyX8 tyX8_ok nmX8 (by decide) hf_X8_166 rfl rfl spM_X8 rfl (by decide +kernel) dX8_atom1_31 (fun o39 st40 _ => ?_)
      refine z_goto X (tgt := 161) dX8_atom1_34 (by decide) ?_
      refine z_iload_n X (q := 0) dX8_atom1_161 rfl rfl ?_
      subst hQ; exact z_iret X hlocks hr dX8_atom1_162
theorem zw_671 : Cond.methodLink RX8 284 yX8_atom1 ∈ wsL_law := zr_18 _ (by decide +kernel)
theorem zw_672 : Cond.instanceMethod yX8_atom1 ∈ wsL_law := zr_18 _ (by decide +kernel)
theorem zw_673 : Cond.selects RX8 yX8_atom1 yX8_atom1 ∈ wsL_law := zr_18 _ (by decide +kernel)
theorem zw_674 : Cond.code yX8_atom1 cX8_atom1 2 (some .int) ∈ wsL_law := zr_18 _ (by decide +kernel)
theorem hk_X8_284 : ∀ w ∈ ([Cond.methodLink RX8 284 yX8_atom1, Cond.instanceMethod yX8_atom1, Cond.selects RX8 yX8_atom1 yX8_atom1, Cond.initialized RX8, Cond.code yX8_atom1 cX8_atom1 2 (some .int)] : List Cond), w ∈ wsL_law := List.forall_mem_cons.mpr ⟨zw_671, List.forall_mem_cons.mpr ⟨zw_672, List.forall_mem_cons.mpr ⟨zw_673, List.forall_mem_cons.mpr ⟨zw_525, List.forall_mem_cons.mpr ⟨zw_674, fun _ h => absurd h List.not_mem_nil⟩⟩⟩⟩⟩
theorem hd_X8_atom1 : yX8_atom1.cls = RX8 ∧ yX8_atom1.cls ≠ "java/lang/invoke/MethodHandle" ∧ yX8_atom1.cls ≠ "java/lang/invoke/VarHandle" ∧ (parseMethodDescriptor yX8_atom1.desc).map (fun d => d.parameters.length) = some 0 := by decide +kernel
abbrev rmX8_term1 : Room := { frames := 30, cells := 0, slots := 0, locals := 680 }
def fX8_term1_L5 (this : Nat) : Nat → Int32 → zS → Option (Int32 × zS)
  | 0, _, _ => none
  | n + 1, y1, st => (zok spM st (some this) 8).bind fun o7 => (fX8_isSign o7 (42 : Int32) st).bind fun q1 => if q1.1 = 0 then (some (y1, q1.2)) else ((zok spM q1.2 (some this) 8).bind fun o6 => (fX8_next o6 q1.2).bind fun q2 => (zok spM q2.2 (some this) 8).bind fun o5 => (fX8_atom1 o5 q2.2).bind fun q3 => zlet ((y1 * q3.1)) fun v4 => (fX8_term1_L5 this n) v4 q3.2)
def fX8_term1 (this : Nat) (st : zS) : Option (Int32 × zS) :=
  (zok spM st (some this) 8).bind fun o10 => (fX8_atom1 o10 st).bind fun q8 => zlet (q8.1) fun v9 => fX8_term1_L5 this zF v9 q8.2
set_option maxRecDepth 100000 in
set_option maxHeartbeats 4000000 in
theorem kX8_term1 (l : Launch) (Z : zZ) (b : Nat) (x : Option Nat) (this : Nat) (st : zS) : zC l Z spM b x yX8_term1 (.code yX8_term1 cX8_term1 2 (some .int)) (rmX8_term1) rI [vP (some this)] st (fX8_term1 this st) := by
  refine z_start (own := RX8) rfl (by decide +kernel) (Nat.le_of_ble_eq_true rfl) rfl (fun p e s m args below meth c res Q A X hK hr hlocks hQ => ?_)
  have J5 : ∀ (n5 : Nat) (y1 : Int32) (st : zS), zs p l e (rmX8_term1) s m args below meth c Q Z spM b x A 2 0 0 res (fX8_term1_L5 this n5 y1 st) 5 [(0, vP (some this)), (1, vI y1)] [] st := by
    intro n5
    induction n5 with
    | zero => intros; exact z_none
    | succ n5 ih5 =>
      intro y1 st
      rw [fX8_term1_L5]
      refine z_aload_n X (q := 0) dX8_term1_5 rfl rfl ?_
      refine z_bipush X (v := (42 : Int32)) dX8_term1_6 (by decide) ?_
      refine z_callV X hK (As := [vI (42 : Int32)]) (ci := 8) rfl (by decide) (fun o => (kX8_isSign l Z  b x o _ _)) hk_X8_197 ⟨rfl, rfl⟩ hd_X8_isSign ⟨Nat.le_of_ble_eq_true rfl, Nat.le_of_ble_eq_true rfl⟩ ⟨Nat.le_of_ble_eq_true rfl, Nat.le_of_ble_eq_true rfl⟩ rfl rfl (Nat.le_of_ble_eq_true rfl) dX8_term1_8 (fun _ q1 _ => ?_)
      refine z_if_eq X (tgt := 28) dX8_term1_11 (by decide) (fun _ => ?_) (fun _ => ?_)
      · refine z_iload_n X (q := 1) dX8_term1_28 rfl rfl ?_
        subst hQ; exact z_iret X hlocks hr dX8_term1_29
      · refine z_aload_n X (q := 0) dX8_term1_14 rfl rfl ?_
        refine z_callV X hK (As := []) (ci := 8) rfl (by decide) (fun o => (kX8_next l Z  b x o _)) hk_X8_172 ⟨rfl, rfl⟩ hd_X8_next ⟨Nat.le_of_ble_eq_true rfl, Nat.le_of_ble_eq_true rfl⟩ ⟨Nat.le_of_ble_eq_true rfl, Nat.le_of_ble_eq_true rfl⟩ rfl rfl (Nat.le_of_ble_eq_true rfl) dX8_term1_15 (fun _ q2 _ => ?_)
        refine z_iload_n X (q := 1) dX8_term1_18 rfl rfl ?_
        refine z_aload_n X (q := 0) dX8_term1_19 rfl rfl ?_
        refine z_callV X hK (As := []) (ci := 8) rfl (by decide) (fun o => (kX8_atom1 l Z  b x o _)) hk_X8_284 ⟨rfl, rfl⟩ hd_X8_atom1 ⟨Nat.le_of_ble_eq_true rfl, Nat.le_of_ble_eq_true rfl⟩ ⟨Nat.le_of_ble_eq_true rfl, Nat.le_of_ble_eq_true rfl⟩ rfl rfl (Nat.le_of_ble_eq_true rfl) dX8_term1_20 (fun _ q3 _ => ?_)
        refine z_imul X dX8_term1_23 ?_
        refine z_name (fun v4 => ?_)
        refine z_istore_n X dX8_term1_24 rfl (Nat.le_of_ble_eq_true rfl) rfl ?_
        refine z_goto X (tgt := 5) dX8_term1_25 (by decide) ?_
        exact z_sub [1, 0] (ih5 _ _) rfl
  rw [fX8_term1]
  refine z_aload_n X (q := 0) dX8_term1_0 rfl rfl ?_
  refine z_callV X hK (As := []) (ci := 8) rfl (by decide) (fun o => (kX8_atom1 l Z  b x o _)) hk_X8_284 ⟨rfl, rfl⟩ hd_X8_atom1 ⟨Nat.le_of_ble_eq_true rfl, Nat.le_of_ble_eq_true rfl⟩ ⟨Nat.le_of_ble_eq_true rfl, Nat.le_of_ble_eq_true rfl⟩ rfl rfl (Nat.le_of_ble_eq_true rfl) dX8_term1_1 (fun _ q8 _ => ?_)
  refine z_name (fun v9 => ?_)
  refine z_istore_n X dX8_term1_4 rfl (Nat.le_of_ble_eq_true rfl) rfl ?_
  exact z_sub [1, 0] (J5 _ _ _) rfl
theorem zw_675 : Cond.methodLink RX8 287 yX8_term1 ∈ wsL_law := zr_18 _ (by decide +kernel)
theorem zw_676 : Cond.instanceMethod yX8_term1 ∈ wsL_law := zr_18 _ (by decide +kernel)
theorem zw_677 : Cond.selects RX8 yX8_term1 yX8_term1 ∈ wsL_law := zr_18 _ (by decide +kernel)
theorem zw_678 : Cond.code yX8_term1 cX8_term1 2 (some .int) ∈ wsL_law := zr_18 _ (by decide +kernel)
theorem hk_X8_287 : ∀ w ∈ ([Cond.methodLink RX8 287 yX8_term1, Cond.instanceMethod yX8_term1, Cond.selects RX8 yX8_term1 yX8_term1, Cond.initialized RX8, Cond.code yX8_term1 cX8_term1 2 (some .int)] : List Cond), w ∈ wsL_law := List.forall_mem_cons.mpr ⟨zw_675, List.forall_mem_cons.mpr ⟨zw_676, List.forall_mem_cons.mpr ⟨zw_677, List.forall_mem_cons.mpr ⟨zw_525, List.forall_mem_cons.mpr ⟨zw_678, fun _ h => absurd h List.not_mem_nil⟩⟩⟩⟩⟩
theorem hd_X8_term1 : yX8_term1.cls = RX8 ∧ yX8_term1.cls ≠ "java/lang/invoke/MethodHandle" ∧ yX8_term1.cls ≠ "java/lang/invoke/VarHandle" ∧ (parseMethodDescriptor yX8_term1.desc).map (fun d => d.parameters.length) = some 0 := by decide +kernel
abbrev rmX8_added1 : Room := { frames := 31, cells := 0, slots := 0, locals := 701 }
def fX8_added1_j62 (this : Nat) (k5 : Int32 → zS → Option (Int32 × zS)) (s0 : Int32) (st : zS) : Option (Int32 × zS) :=
  k5 s0 st
def fX8_added1_j39 (this : Nat) (k5 : Int32 → zS → Option (Int32 × zS)) (y1 : Int32) (s0 : Int32) (st : zS) : Option (Int32 × zS) :=
  (zok spM st (some this) 8).bind fun o5 => (fX8_next o5 st).bind fun q1 => (zok spM q1.2 (some this) 8).bind fun o4 => (fX8_term1 o4 q1.2).bind fun q2 => zlet (q2.1) fun v3 => if s0 = 0 then (fX8_added1_j62 this k5 (y1 - v3) q2.2) else (fX8_added1_j62 this k5 (y1 + v3) q2.2)
def fX8_added1_j23 (this : Nat) (k5 : Int32 → zS → Option (Int32 × zS)) (y1 : Int32) (st : zS) : Option (Int32 × zS) :=
  (zok spM st (some this) 8).bind fun o6 => if (lg_cmp (st.2.2.1 o6) (43 : Int64)) = 0 then (fX8_added1_j39 this k5 y1 (1 : Int32) st) else (fX8_added1_j39 this k5 y1 (0 : Int32) st)
def fX8_added1_L5 (this : Nat) : Nat → Int32 → zS → Option (Int32 × zS)
  | 0, _, _ => none
  | n + 1, y1, st => (zok spM st (some this) 8).bind fun o10 => (fX8_isSign o10 (43 : Int32) st).bind fun q7 => if q7.1 = 0 then ((zok spM q7.2 (some this) 8).bind fun o9 => (fX8_isSign o9 (45 : Int32) q7.2).bind fun q8 => if q8.1 = 0 then (some (y1, q8.2)) else (fX8_added1_j23 this (fX8_added1_L5 this n) y1 q8.2)) else (fX8_added1_j23 this (fX8_added1_L5 this n) y1 q7.2)
def fX8_added1 (this : Nat) (st : zS) : Option (Int32 × zS) :=
  (zok spM st (some this) 8).bind fun o13 => (fX8_term1 o13 st).bind fun q11 => zlet (q11.1) fun v12 => fX8_added1_L5 this zF v12 q11.2
set_option maxRecDepth 100000 in
set_option maxHeartbeats 4000000 in
theorem kX8_added1 (l : Launch) (Z : zZ) (b : Nat) (x : Option Nat) (this : Nat) (st : zS) : zC l Z spM b x yX8_added1 (.code yX8_added1 cX8_added1 4 (some .int)) (rmX8_added1) rI [vP (some this)] st (fX8_added1 this st) := by
  refine z_start (own := RX8) rfl (by decide +kernel) (Nat.le_of_ble_eq_true rfl) rfl (fun p e s m args below meth c res Q A X hK hr hlocks hQ => ?_)
  have J5 : ∀ (n5 : Nat) (y1 : Int32) (st : zS), zs p l e (rmX8_added1) s m args below meth c Q Z spM b x A 4 0 0 res (fX8_added1_L5 this n5 y1 st) 5 [(0, vP (some this)), (1, vI y1)] [] st := by
    intro n5
    induction n5 with
    | zero => intros; exact z_none
    | succ n5 ih5 =>
      have J62 : ∀ (s0 : Int32) (st : zS), zs p l e (rmX8_added1) s m args below meth c Q Z spM b x A 4 0 0 res (fX8_added1_j62 this (fX8_added1_L5 this n5) s0 st) 62 [(0, vP (some this))] [vI s0] st := by
        intro s0 st
        rw [fX8_added1_j62]
        refine z_istore_n X dX8_added1_62 rfl (Nat.le_of_ble_eq_true rfl) rfl ?_
        refine z_goto X (tgt := 5) dX8_added1_63 (by decide) ?_
        exact z_sub [1, 0] (ih5 _ _) rfl
      have J39 : ∀ (y1 : Int32) (s0 : Int32) (st : zS), zs p l e (rmX8_added1) s m args below meth c Q Z spM b x A 4 0 0 res (fX8_added1_j39 this (fX8_added1_L5 this n5) y1 s0 st) 39 [(0, vP (some this)), (1, vI y1)] [vI s0] st := by
        intro y1 s0 st
        rw [fX8_added1_j39]
        refine z_istore_n X dX8_added1_39 rfl (Nat.le_of_ble_eq_true rfl) rfl ?_
        refine z_aload_n X (q := 1) dX8_added1_40 rfl rfl ?_
        refine z_callV X hK (As := []) (ci := 8) rfl (by decide) (fun o => (kX8_next l Z  b x o _)) hk_X8_172 ⟨rfl, rfl⟩ hd_X8_next ⟨Nat.le_of_ble_eq_true rfl, Nat.le_of_ble_eq_true rfl⟩ ⟨Nat.le_of_ble_eq_true rfl, Nat.le_of_ble_eq_true rfl⟩ rfl rfl (Nat.le_of_ble_eq_true rfl) dX8_added1_41 (fun _ q1 _ => ?_)
        refine z_aload_n X (q := 1) dX8_added1_44 rfl rfl ?_
        refine z_callV X hK (As := []) (ci := 8) rfl (by decide) (fun o => (kX8_term1 l Z  b x o _)) hk_X8_287 ⟨rfl, rfl⟩ hd_X8_term1 ⟨Nat.le_of_ble_eq_true rfl, Nat.le_of_ble_eq_true rfl⟩ ⟨Nat.le_of_ble_eq_true rfl, Nat.le_of_ble_eq_true rfl⟩ rfl rfl (Nat.le_of_ble_eq_true rfl) dX8_added1_45 (fun _ q2 _ => ?_)
        refine z_name (fun v3 => ?_)
        refine z_istore_n X dX8_added1_48 rfl (Nat.le_of_ble_eq_true rfl) rfl ?_
        refine z_iload_n X (q := 1) dX8_added1_49 rfl rfl ?_
        refine z_if_eq X (tgt := 59) dX8_added1_50 (by decide) (fun _ => ?_) (fun _ => ?_)
        · refine z_iload_n X (q := 3) dX8_added1_59 rfl rfl ?_
          refine z_iload_n X (q := 0) dX8_added1_60 rfl rfl ?_
          refine z_isub X dX8_added1_61 ?_
          exact z_sub [2] (J62 _ _) rfl
        · refine z_iload_n X (q := 3) dX8_added1_53 rfl rfl ?_
          refine z_iload_n X (q := 0) dX8_added1_54 rfl rfl ?_
          refine z_iadd X dX8_added1_55 ?_
          refine z_goto X (tgt := 62) dX8_added1_56 (by decide) ?_
          exact z_sub [2] (J62 _ _) rfl
      have J23 : ∀ (y1 : Int32) (st : zS), zs p l e (rmX8_added1) s m args below meth c Q Z spM b x A 4 0 0 res (fX8_added1_j23 this (fX8_added1_L5 this n5) y1 st) 23 [(0, vP (some this)), (1, vI y1)] [] st := by
        intro y1 st
        rw [fX8_added1_j23]
        refine z_aload_n X (q := 0) dX8_added1_23 rfl rfl ?_
        refine z_getl X hK (N := 46) (ci := 8) (k := 24) rfl (by decide) inlX8 (by decide) hf_X8_149 rfl spM_X8 rfl dX8_added1_24 (fun o6 _ => ?_)
        refine z_ldc2 X (v := (43 : Int64)) (hc_X8_214) dX8_added1_27 ?_
        refine z_lcmp X dX8_added1_30 ?_
        refine z_if_ne X (tgt := 38) dX8_added1_31 (by decide) (fun _ => ?_) (fun _ => ?_)
        · refine z_iconst X (v := (0 : Int32)) dX8_added1_38 (by decide) ?_
          exact z_sub [0, 1] (J39 _ _ _) rfl
        · refine z_iconst X (v := (1 : Int32)) dX8_added1_34 (by decide) ?_
          refine z_goto X (tgt := 39) dX8_added1_35 (by decide) ?_
          exact z_sub [0, 1] (J39 _ _ _) rfl
      intro y1 st
      rw [fX8_added1_L5]
      refine z_aload_n X (q := 0) dX8_added1_5 rfl rfl ?_
      refine z_bipush X (v := (43 : Int32)) dX8_added1_6 (by decide) ?_
      refine z_callV X hK (As := [vI (43 : Int32)]) (ci := 8) rfl (by decide) (fun o => (kX8_isSign l Z  b x o _ _)) hk_X8_197 ⟨rfl, rfl⟩ hd_X8_isSign ⟨Nat.le_of_ble_eq_true rfl, Nat.le_of_ble_eq_true rfl⟩ ⟨Nat.le_of_ble_eq_true rfl, Nat.le_of_ble_eq_true rfl⟩ rfl rfl (Nat.le_of_ble_eq_true rfl) dX8_added1_8 (fun _ q7 _ => ?_)
      refine z_if_ne X (tgt := 23) dX8_added1_11 (by decide) (fun _ => ?_) (fun _ => ?_)
      · exact z_sub [0, 1] (J23 _ _) rfl
      · refine z_aload_n X (q := 0) dX8_added1_14 rfl rfl ?_
        refine z_bipush X (v := (45 : Int32)) dX8_added1_15 (by decide) ?_
        refine z_callV X hK (As := [vI (45 : Int32)]) (ci := 8) rfl (by decide) (fun o => (kX8_isSign l Z  b x o _ _)) hk_X8_197 ⟨rfl, rfl⟩ hd_X8_isSign ⟨Nat.le_of_ble_eq_true rfl, Nat.le_of_ble_eq_true rfl⟩ ⟨Nat.le_of_ble_eq_true rfl, Nat.le_of_ble_eq_true rfl⟩ rfl rfl (Nat.le_of_ble_eq_true rfl) dX8_added1_17 (fun _ q8 _ => ?_)
        refine z_if_eq X (tgt := 66) dX8_added1_20 (by decide) (fun _ => ?_) (fun _ => ?_)
        · refine z_iload_n X (q := 1) dX8_added1_66 rfl rfl ?_
          subst hQ; exact z_iret X hlocks hr dX8_added1_67
        · exact z_sub [0, 1] (J23 _ _) rfl
  rw [fX8_added1]
  refine z_aload_n X (q := 0) dX8_added1_0 rfl rfl ?_
  refine z_callV X hK (As := []) (ci := 8) rfl (by decide) (fun o => (kX8_term1 l Z  b x o _)) hk_X8_287 ⟨rfl, rfl⟩ hd_X8_term1 ⟨Nat.le_of_ble_eq_true rfl, Nat.le_of_ble_eq_true rfl⟩ ⟨Nat.le_of_ble_eq_true rfl, Nat.le_of_ble_eq_true rfl⟩ rfl rfl (Nat.le_of_ble_eq_true rfl) dX8_added1_1 (fun _ q11 _ => ?_)
  refine z_name (fun v12 => ?_)
  refine z_istore_n X dX8_added1_4 rfl (Nat.le_of_ble_eq_true rfl) rfl ?_
  exact z_sub [1, 0] (J5 _ _ _) rfl
theorem zw_679 : Cond.methodLink RX8 290 yX8_added1 ∈ wsL_law := zr_17 _ (by decide +kernel)
theorem zw_680 : Cond.instanceMethod yX8_added1 ∈ wsL_law := zr_17 _ (by decide +kernel)
theorem zw_681 : Cond.selects RX8 yX8_added1 yX8_added1 ∈ wsL_law := zr_17 _ (by decide +kernel)
theorem zw_682 : Cond.code yX8_added1 cX8_added1 4 (some .int) ∈ wsL_law := zr_18 _ (by decide +kernel)
theorem hk_X8_290 : ∀ w ∈ ([Cond.methodLink RX8 290 yX8_added1, Cond.instanceMethod yX8_added1, Cond.selects RX8 yX8_added1 yX8_added1, Cond.initialized RX8, Cond.code yX8_added1 cX8_added1 4 (some .int)] : List Cond), w ∈ wsL_law := List.forall_mem_cons.mpr ⟨zw_679, List.forall_mem_cons.mpr ⟨zw_680, List.forall_mem_cons.mpr ⟨zw_681, List.forall_mem_cons.mpr ⟨zw_525, List.forall_mem_cons.mpr ⟨zw_682, fun _ h => absurd h List.not_mem_nil⟩⟩⟩⟩⟩
theorem hd_X8_added1 : yX8_added1.cls = RX8 ∧ yX8_added1.cls ≠ "java/lang/invoke/MethodHandle" ∧ yX8_added1.cls ≠ "java/lang/invoke/VarHandle" ∧ (parseMethodDescriptor yX8_added1.desc).map (fun d => d.parameters.length) = some 0 := by decide +kernel
abbrev rmX8_not1 : Room := { frames := 32, cells := 0, slots := 0, locals := 724 }
def fX8_not1_j120 (this : Nat) (st : zS) : Option (Int32 × zS) :=
  some ((1 : Int32), st)
def fX8_not1_j124 (this : Nat) (st : zS) : Option (Int32 × zS) :=
  some ((0 : Int32), st)
def fX8_not1_j93 (this : Nat) (y1 : Int32) (s0 : Int32) (st : zS) : Option (Int32 × zS) :=
  (zok spM st (some this) 8).bind fun o5 => (fX8_next o5 st).bind fun q1 => (zok spM q1.2 (some this) 8).bind fun o4 => (fX8_added1 o4 q1.2).bind fun q2 => zlet (q2.1) fun v3 => if s0 = 0 then (if y1 = v3 then (fX8_not1_j120 this q2.2) else (fX8_not1_j124 this q2.2)) else (if v3 ≤ y1 then (fX8_not1_j124 this q2.2) else (fX8_not1_j120 this q2.2))
def fX8_not1_j77 (this : Nat) (y1 : Int32) (st : zS) : Option (Int32 × zS) :=
  (zok spM st (some this) 8).bind fun o6 => if (lg_cmp (st.2.2.1 o6) (60 : Int64)) = 0 then (fX8_not1_j93 this y1 (1 : Int32) st) else (fX8_not1_j93 this y1 (0 : Int32) st)
def fX8_not1 (this : Nat) (st : zS) : Option (Int32 × zS) :=
  (zok spM st (some this) 8).bind fun o23 => (fX8_isWord o23 (110 : Int32) (111 : Int32) (116 : Int32) (0 : Int32) (0 : Int32) (0 : Int32) (0 : Int32) (0 : Int32) st).bind fun q7 => if q7.1 = 0 then ((zok spM q7.2 (some this) 8).bind fun o14 => (fX8_added1 o14 q7.2).bind fun q8 => zlet (q8.1) fun v9 => (zok spM q8.2 (some this) 8).bind fun o13 => (fX8_isSign o13 (60 : Int32) q8.2).bind fun q10 => if q10.1 = 0 then ((zok spM q10.2 (some this) 8).bind fun o12 => (fX8_isSign o12 (61 : Int32) q10.2).bind fun q11 => if q11.1 = 0 then (some (v9, q11.2)) else (fX8_not1_j77 this v9 q11.2)) else (fX8_not1_j77 this v9 q10.2)) else ((zok spM q7.2 (some this) 8).bind fun o22 => (fX8_opens o22 q7.2).bind fun q15 => if q15.1 = 0 then (some ((0 : Int32), q15.2)) else ((zok spM q15.2 (some this) 8).bind fun o21 => (fX8_not2 o21 q15.2).bind fun q16 => zlet (q16.1) fun v17 => (zok spM q16.2 (some this) 8).bind fun o18 => (zok spM q16.2 (some this) 8).bind fun o19 => zlet (zp q16.2 o19 25 ((q16.2.2.1 o18 25) - (1 : Int32))) fun st20 => if v17 = 0 then (some ((1 : Int32), st20)) else (some ((0 : Int32), st20))))
set_option maxRecDepth 100000 in
set_option maxHeartbeats 4000000 in
theorem kX8_not1 (l : Launch) (Z : zZ) (b : Nat) (x : Option Nat) (this : Nat) (st : zS) : zC l Z spM b x yX8_not1 (.code yX8_not1 cX8_not1 4 (some .int)) (rmX8_not1) rI [vP (some this)] st (fX8_not1 this st) := by
  refine z_start (own := RX8) rfl (by decide +kernel) (Nat.le_of_ble_eq_true rfl) rfl (fun p e s m args below meth c res Q A X hK hr hlocks hQ => ?_)
  have J120 : ∀ (st : zS), zs p l e (rmX8_not1) s m args below meth c Q Z spM b x A 4 0 0 res (fX8_not1_j120 this st) 120 [] [] st := by
    intro  st
    rw [fX8_not1_j120]
    refine z_iconst X (v := (1 : Int32)) dX8_not1_120 (by decide) ?_
    refine z_goto X (tgt := 125) dX8_not1_121 (by decide) ?_
    subst hQ; exact z_iret X hlocks hr dX8_not1_125
  have J124 : ∀ (st : zS), zs p l e (rmX8_not1) s m args below meth c Q Z spM b x A 4 0 0 res (fX8_not1_j124 this st) 124 [] [] st := by
    intro  st
    rw [fX8_not1_j124]
    refine z_iconst X (v := (0 : Int32)) dX8_not1_124 (by decide) ?_
    subst hQ; exact z_iret X hlocks hr dX8_not1_125
  have J93 : ∀ (y1 : Int32) (s0 : Int32) (st : zS), zs p l e (rmX8_not1) s m args below meth c Q Z spM b x A 4 0 0 res (fX8_not1_j93 this y1 s0 st) 93 [(0, vP (some this)), (1, vI y1)] [vI s0] st := by
    intro y1 s0 st
    rw [fX8_not1_j93]
    refine z_istore_n X dX8_not1_93 rfl (Nat.le_of_ble_eq_true rfl) rfl ?_
    refine z_aload_n X (q := 1) dX8_not1_94 rfl rfl ?_
    refine z_callV X hK (As := []) (ci := 8) rfl (by decide) (fun o => (kX8_next l Z  b x o _)) hk_X8_172 ⟨rfl, rfl⟩ hd_X8_next ⟨Nat.le_of_ble_eq_true rfl, Nat.le_of_ble_eq_true rfl⟩ ⟨Nat.le_of_ble_eq_true rfl, Nat.le_of_ble_eq_true rfl⟩ rfl rfl (Nat.le_of_ble_eq_true rfl) dX8_not1_95 (fun _ q1 _ => ?_)
    refine z_aload_n X (q := 1) dX8_not1_98 rfl rfl ?_
    refine z_callV X hK (As := []) (ci := 8) rfl (by decide) (fun o => (kX8_added1 l Z  b x o _)) hk_X8_290 ⟨rfl, rfl⟩ hd_X8_added1 ⟨Nat.le_of_ble_eq_true rfl, Nat.le_of_ble_eq_true rfl⟩ ⟨Nat.le_of_ble_eq_true rfl, Nat.le_of_ble_eq_true rfl⟩ rfl rfl (Nat.le_of_ble_eq_true rfl) dX8_not1_99 (fun _ q2 _ => ?_)
    refine z_name (fun v3 => ?_)
    refine z_istore_n X dX8_not1_102 rfl (Nat.le_of_ble_eq_true rfl) rfl ?_
    refine z_iload_n X (q := 1) dX8_not1_103 rfl rfl ?_
    refine z_if_eq X (tgt := 115) dX8_not1_104 (by decide) (fun _ => ?_) (fun _ => ?_)
    · refine z_iload_n X (q := 3) dX8_not1_115 rfl rfl ?_
      refine z_iload_n X (q := 0) dX8_not1_116 rfl rfl ?_
      refine z_icmp_ne X (tgt := 124) dX8_not1_117 (by decide) (fun _ => ?_) (fun _ => ?_)
      · exact z_sub [] (J124  _) rfl
      · exact z_sub [] (J120  _) rfl
    · refine z_iload_n X (q := 3) dX8_not1_107 rfl rfl ?_
      refine z_iload_n X (q := 0) dX8_not1_108 rfl rfl ?_
      refine z_icmp_ge X (tgt := 124) dX8_not1_109 (by decide) (fun _ => ?_) (fun _ => ?_)
      · exact z_sub [] (J124  _) rfl
      · refine z_goto X (tgt := 120) dX8_not1_112 (by decide) ?_
        exact z_sub [] (J120  _) rfl
  have J77 : ∀ (y1 : Int32) (st : zS), zs p l e (rmX8_not1) s m args below meth c Q Z spM b x A 4 0 0 res (fX8_not1_j77 this y1 st) 77 [(0, vP (some this)), (1, vI y1)] [] st := by
    intro y1 st
    rw [fX8_not1_j77]
    refine z_aload_n X (q := 0) dX8_not1_77 rfl rfl ?_
    refine z_getl X hK (N := 46) (ci := 8) (k := 24) rfl (by decide) inlX8 (by decide) hf_X8_149 rfl spM_X8 rfl dX8_not1_78 (fun o6 _ => ?_)
    refine z_ldc2 X (v := (60 : Int64)) (hc_X8_219) dX8_not1_81 ?_
    refine z_lcmp X dX8_not1_84 ?_
    refine z_if_ne X (tgt := 92) dX8_not1_85 (by decide) (fun _ => ?_) (fun _ => ?_)
    · refine z_iconst X (v := (0 : Int32)) dX8_not1_92 (by decide) ?_
      exact z_sub [0, 1] (J93 _ _ _) rfl
    · refine z_iconst X (v := (1 : Int32)) dX8_not1_88 (by decide) ?_
      refine z_goto X (tgt := 93) dX8_not1_89 (by decide) ?_
      exact z_sub [0, 1] (J93 _ _ _) rfl
  rw [fX8_not1]
  refine z_aload_n X (q := 0) dX8_not1_0 rfl rfl ?_
  refine z_bipush X (v := (110 : Int32)) dX8_not1_1 (by decide) ?_
  refine z_bipush X (v := (111 : Int32)) dX8_not1_3 (by decide) ?_
  refine z_bipush X (v := (116 : Int32)) dX8_not1_5 (by decide) ?_
  refine z_iconst X (v := (0 : Int32)) dX8_not1_7 (by decide) ?_
  refine z_iconst X (v := (0 : Int32)) dX8_not1_8 (by decide) ?_
  refine z_iconst X (v := (0 : Int32)) dX8_not1_9 (by decide) ?_
  refine z_iconst X (v := (0 : Int32)) dX8_not1_10 (by decide) ?_
  refine z_iconst X (v := (0 : Int32)) dX8_not1_11 (by decide) ?_
  refine z_callV X hK (As := [vI (110 : Int32), vI (111 : Int32), vI (116 : Int32), vI (0 : Int32), vI (0 : Int32), vI (0 : Int32), vI (0 : Int32), vI (0 : Int32)]) (ci := 8) rfl (by decide) (fun o => (kX8_isWord l Z  b x o _ _ _ _ _ _ _ _ _)) hk_X8_175 ⟨rfl, rfl⟩ hd_X8_isWord ⟨Nat.le_of_ble_eq_true rfl, Nat.le_of_ble_eq_true rfl⟩ ⟨Nat.le_of_ble_eq_true rfl, Nat.le_of_ble_eq_true rfl⟩ rfl rfl (Nat.le_of_ble_eq_true rfl) dX8_not1_12 (fun _ q7 _ => ?_)
  refine z_if_eq X (tgt := 52) dX8_not1_15 (by decide) (fun _ => ?_) (fun _ => ?_)
  · refine z_aload_n X (q := 0) dX8_not1_52 rfl rfl ?_
    refine z_callV X hK (As := []) (ci := 8) rfl (by decide) (fun o => (kX8_added1 l Z  b x o _)) hk_X8_290 ⟨rfl, rfl⟩ hd_X8_added1 ⟨Nat.le_of_ble_eq_true rfl, Nat.le_of_ble_eq_true rfl⟩ ⟨Nat.le_of_ble_eq_true rfl, Nat.le_of_ble_eq_true rfl⟩ rfl rfl (Nat.le_of_ble_eq_true rfl) dX8_not1_53 (fun _ q8 _ => ?_)
    refine z_name (fun v9 => ?_)
    refine z_istore_n X dX8_not1_56 rfl (Nat.le_of_ble_eq_true rfl) rfl ?_
    refine z_aload_n X (q := 1) dX8_not1_57 rfl rfl ?_
    refine z_bipush X (v := (60 : Int32)) dX8_not1_58 (by decide) ?_
    refine z_callV X hK (As := [vI (60 : Int32)]) (ci := 8) rfl (by decide) (fun o => (kX8_isSign l Z  b x o _ _)) hk_X8_197 ⟨rfl, rfl⟩ hd_X8_isSign ⟨Nat.le_of_ble_eq_true rfl, Nat.le_of_ble_eq_true rfl⟩ ⟨Nat.le_of_ble_eq_true rfl, Nat.le_of_ble_eq_true rfl⟩ rfl rfl (Nat.le_of_ble_eq_true rfl) dX8_not1_60 (fun _ q10 _ => ?_)
    refine z_if_ne X (tgt := 77) dX8_not1_63 (by decide) (fun _ => ?_) (fun _ => ?_)
    · exact z_sub [1, 0] (J77 _ _) rfl
    · refine z_aload_n X (q := 1) dX8_not1_66 rfl rfl ?_
      refine z_bipush X (v := (61 : Int32)) dX8_not1_67 (by decide) ?_
      refine z_callV X hK (As := [vI (61 : Int32)]) (ci := 8) rfl (by decide) (fun o => (kX8_isSign l Z  b x o _ _)) hk_X8_197 ⟨rfl, rfl⟩ hd_X8_isSign ⟨Nat.le_of_ble_eq_true rfl, Nat.le_of_ble_eq_true rfl⟩ ⟨Nat.le_of_ble_eq_true rfl, Nat.le_of_ble_eq_true rfl⟩ rfl rfl (Nat.le_of_ble_eq_true rfl) dX8_not1_69 (fun _ q11 _ => ?_)
      refine z_if_ne X (tgt := 77) dX8_not1_72 (by decide) (fun _ => ?_) (fun _ => ?_)
      · exact z_sub [1, 0] (J77 _ _) rfl
      · refine z_iload_n X (q := 0) dX8_not1_75 rfl rfl ?_
        subst hQ; exact z_iret X hlocks hr dX8_not1_76
  · refine z_aload_n X (q := 0) dX8_not1_18 rfl rfl ?_
    refine z_callV X hK (As := []) (ci := 8) rfl (by decide) (fun o => (kX8_opens l Z  b x o _)) hk_X8_200 ⟨rfl, rfl⟩ hd_X8_opens ⟨Nat.le_of_ble_eq_true rfl, Nat.le_of_ble_eq_true rfl⟩ ⟨Nat.le_of_ble_eq_true rfl, Nat.le_of_ble_eq_true rfl⟩ rfl rfl (Nat.le_of_ble_eq_true rfl) dX8_not1_19 (fun _ q15 _ => ?_)
    refine z_if_ne X (tgt := 27) dX8_not1_22 (by decide) (fun _ => ?_) (fun _ => ?_)
    · refine z_aload_n X (q := 0) dX8_not1_27 rfl rfl ?_
      refine z_callV X hK (As := []) (ci := 8) rfl (by decide) (fun o => (kX8_not2 l Z  b x o _)) hk_X8_275 ⟨rfl, rfl⟩ hd_X8_not2 ⟨Nat.le_of_ble_eq_true rfl, Nat.le_of_ble_eq_true rfl⟩ ⟨Nat.le_of_ble_eq_true rfl, Nat.le_of_ble_eq_true rfl⟩ rfl rfl (Nat.le_of_ble_eq_true rfl) dX8_not1_28 (fun _ q16 _ => ?_)
      refine z_name (fun v17 => ?_)
      refine z_istore_n X dX8_not1_31 rfl (Nat.le_of_ble_eq_true rfl) rfl ?_
      refine z_aload_n X (q := 1) dX8_not1_32 rfl rfl ?_
      refine z_dup X dX8_not1_33 rfl ?_
      refine z_geti X hK (N := 46) (ci := 8) (k := 25) rfl (by decide) inlX8 (by decide) hf_X8_166 rfl spM_X8 rfl dX8_not1_34 (fun o18 _ => ?_)
      refine z_iconst X (v := (1 : Int32)) dX8_not1_37 (by decide) ?_
      refine z_isub X dX8_not1_38 ?_
      refine z_puti X hK (N := 46) (ci := 8) (k := 25) rfl (by decide) inlX8 tyX8 tyX8_ok nmX8 (by decide) hf_X8_166 rfl rfl spM_X8 rfl (by decide +kernel) dX8_not1_39 (fun o19 st20 _ => ?_)
      refine z_iload_n X (q := 0) dX8_not1_42 rfl rfl ?_
      refine z_if_ne X (tgt := 50) dX8_not1_43 (by decide) (fun _ => ?_) (fun _ => ?_)
      · refine z_iconst X (v := (0 : Int32)) dX8_not1_50 (by decide) ?_
        subst hQ; exact z_iret X hlocks hr dX8_not1_51
      · refine z_iconst X (v := (1 : Int32)) dX8_not1_46 (by decide) ?_
        refine z_goto X (tgt := 51) dX8_not1_47 (by decide) ?_
        subst hQ; exact z_iret X hlocks hr dX8_not1_51
    · refine z_iconst X (v := (0 : Int32)) dX8_not1_25 (by decide) ?_
      subst hQ; exact z_iret X hlocks hr dX8_not1_26
theorem zw_683 : Cond.methodLink RX8 293 yX8_not1 ∈ wsL_law := zr_13 _ (by decide +kernel)
theorem zw_684 : Cond.instanceMethod yX8_not1 ∈ wsL_law := zr_13 _ (by decide +kernel)
theorem zw_685 : Cond.selects RX8 yX8_not1 yX8_not1 ∈ wsL_law := zr_13 _ (by decide +kernel)
theorem zw_686 : Cond.code yX8_not1 cX8_not1 4 (some .int) ∈ wsL_law := zr_13 _ (by decide +kernel)
theorem hk_X8_293 : ∀ w ∈ ([Cond.methodLink RX8 293 yX8_not1, Cond.instanceMethod yX8_not1, Cond.selects RX8 yX8_not1 yX8_not1, Cond.initialized RX8, Cond.code yX8_not1 cX8_not1 4 (some .int)] : List Cond), w ∈ wsL_law := List.forall_mem_cons.mpr ⟨zw_683, List.forall_mem_cons.mpr ⟨zw_684, List.forall_mem_cons.mpr ⟨zw_685, List.forall_mem_cons.mpr ⟨zw_525, List.forall_mem_cons.mpr ⟨zw_686, fun _ h => absurd h List.not_mem_nil⟩⟩⟩⟩⟩
theorem hd_X8_not1 : yX8_not1.cls = RX8 ∧ yX8_not1.cls ≠ "java/lang/invoke/MethodHandle" ∧ yX8_not1.cls ≠ "java/lang/invoke/VarHandle" ∧ (parseMethodDescriptor yX8_not1.desc).map (fun d => d.parameters.length) = some 0 := by decide +kernel
abbrev rmX8_both1 : Room := { frames := 33, cells := 0, slots := 0, locals := 747 }
def fX8_both1_j45 (this : Nat) (k5 : Int32 → zS → Option (Int32 × zS)) (s0 : Int32) (st : zS) : Option (Int32 × zS) :=
  k5 s0 st
def fX8_both1_j44 (this : Nat) (k5 : Int32 → zS → Option (Int32 × zS)) (st : zS) : Option (Int32 × zS) :=
  fX8_both1_j45 this k5 (0 : Int32) st
def fX8_both1_L5 (this : Nat) : Nat → Int32 → zS → Option (Int32 × zS)
  | 0, _, _ => none
  | n + 1, y1, st => (zok spM st (some this) 8).bind fun o7 => (fX8_isWord o7 (97 : Int32) (110 : Int32) (100 : Int32) (0 : Int32) (0 : Int32) (0 : Int32) (0 : Int32) (0 : Int32) st).bind fun q1 => if q1.1 = 0 then (some (y1, q1.2)) else ((zok spM q1.2 (some this) 8).bind fun o6 => (fX8_next o6 q1.2).bind fun q2 => (zok spM q2.2 (some this) 8).bind fun o5 => (fX8_not1 o5 q2.2).bind fun q3 => zlet (q3.1) fun v4 => if y1 = 0 then (fX8_both1_j44 this (fX8_both1_L5 this n) q3.2) else (if v4 = 0 then (fX8_both1_j44 this (fX8_both1_L5 this n) q3.2) else (fX8_both1_j45 this (fX8_both1_L5 this n) (1 : Int32) q3.2)))
def fX8_both1 (this : Nat) (st : zS) : Option (Int32 × zS) :=
  (zok spM st (some this) 8).bind fun o10 => (fX8_not1 o10 st).bind fun q8 => zlet (q8.1) fun v9 => fX8_both1_L5 this zF v9 q8.2
set_option maxRecDepth 100000 in
set_option maxHeartbeats 4000000 in
theorem kX8_both1 (l : Launch) (Z : zZ) (b : Nat) (x : Option Nat) (this : Nat) (st : zS) : zC l Z spM b x yX8_both1 (.code yX8_both1 cX8_both1 3 (some .int)) (rmX8_both1) rI [vP (some this)] st (fX8_both1 this st) := by
  refine z_start (own := RX8) rfl (by decide +kernel) (Nat.le_of_ble_eq_true rfl) rfl (fun p e s m args below meth c res Q A X hK hr hlocks hQ => ?_)
  have J5 : ∀ (n5 : Nat) (y1 : Int32) (st : zS), zs p l e (rmX8_both1) s m args below meth c Q Z spM b x A 3 0 0 res (fX8_both1_L5 this n5 y1 st) 5 [(0, vP (some this)), (1, vI y1)] [] st := by
    intro n5
    induction n5 with
    | zero => intros; exact z_none
    | succ n5 ih5 =>
      have J45 : ∀ (s0 : Int32) (st : zS), zs p l e (rmX8_both1) s m args below meth c Q Z spM b x A 3 0 0 res (fX8_both1_j45 this (fX8_both1_L5 this n5) s0 st) 45 [(0, vP (some this))] [vI s0] st := by
        intro s0 st
        rw [fX8_both1_j45]
        refine z_istore_n X dX8_both1_45 rfl (Nat.le_of_ble_eq_true rfl) rfl ?_
        refine z_goto X (tgt := 5) dX8_both1_46 (by decide) ?_
        exact z_sub [1, 0] (ih5 _ _) rfl
      have J44 : ∀ (st : zS), zs p l e (rmX8_both1) s m args below meth c Q Z spM b x A 3 0 0 res (fX8_both1_j44 this (fX8_both1_L5 this n5) st) 44 [(0, vP (some this))] [] st := by
        intro  st
        rw [fX8_both1_j44]
        refine z_iconst X (v := (0 : Int32)) dX8_both1_44 (by decide) ?_
        exact z_sub [0] (J45 _ _) rfl
      intro y1 st
      rw [fX8_both1_L5]
      refine z_aload_n X (q := 0) dX8_both1_5 rfl rfl ?_
      refine z_bipush X (v := (97 : Int32)) dX8_both1_6 (by decide) ?_
      refine z_bipush X (v := (110 : Int32)) dX8_both1_8 (by decide) ?_
      refine z_bipush X (v := (100 : Int32)) dX8_both1_10 (by decide) ?_
      refine z_iconst X (v := (0 : Int32)) dX8_both1_12 (by decide) ?_
      refine z_iconst X (v := (0 : Int32)) dX8_both1_13 (by decide) ?_
      refine z_iconst X (v := (0 : Int32)) dX8_both1_14 (by decide) ?_
      refine z_iconst X (v := (0 : Int32)) dX8_both1_15 (by decide) ?_
      refine z_iconst X (v := (0 : Int32)) dX8_both1_16 (by decide) ?_
      refine z_callV X hK (As := [vI (97 : Int32), vI (110 : Int32), vI (100 : Int32), vI (0 : Int32), vI (0 : Int32), vI (0 : Int32), vI (0 : Int32), vI (0 : Int32)]) (ci := 8) rfl (by decide) (fun o => (kX8_isWord l Z  b x o _ _ _ _ _ _ _ _ _)) hk_X8_175 ⟨rfl, rfl⟩ hd_X8_isWord ⟨Nat.le_of_ble_eq_true rfl, Nat.le_of_ble_eq_true rfl⟩ ⟨Nat.le_of_ble_eq_true rfl, Nat.le_of_ble_eq_true rfl⟩ rfl rfl (Nat.le_of_ble_eq_true rfl) dX8_both1_17 (fun _ q1 _ => ?_)
      refine z_if_eq X (tgt := 49) dX8_both1_20 (by decide) (fun _ => ?_) (fun _ => ?_)
      · refine z_iload_n X (q := 1) dX8_both1_49 rfl rfl ?_
        subst hQ; exact z_iret X hlocks hr dX8_both1_50
      · refine z_aload_n X (q := 0) dX8_both1_23 rfl rfl ?_
        refine z_callV X hK (As := []) (ci := 8) rfl (by decide) (fun o => (kX8_next l Z  b x o _)) hk_X8_172 ⟨rfl, rfl⟩ hd_X8_next ⟨Nat.le_of_ble_eq_true rfl, Nat.le_of_ble_eq_true rfl⟩ ⟨Nat.le_of_ble_eq_true rfl, Nat.le_of_ble_eq_true rfl⟩ rfl rfl (Nat.le_of_ble_eq_true rfl) dX8_both1_24 (fun _ q2 _ => ?_)
        refine z_aload_n X (q := 0) dX8_both1_27 rfl rfl ?_
        refine z_callV X hK (As := []) (ci := 8) rfl (by decide) (fun o => (kX8_not1 l Z  b x o _)) hk_X8_293 ⟨rfl, rfl⟩ hd_X8_not1 ⟨Nat.le_of_ble_eq_true rfl, Nat.le_of_ble_eq_true rfl⟩ ⟨Nat.le_of_ble_eq_true rfl, Nat.le_of_ble_eq_true rfl⟩ rfl rfl (Nat.le_of_ble_eq_true rfl) dX8_both1_28 (fun _ q3 _ => ?_)
        refine z_name (fun v4 => ?_)
        refine z_istore_n X dX8_both1_31 rfl (Nat.le_of_ble_eq_true rfl) rfl ?_
        refine z_iload_n X (q := 2) dX8_both1_32 rfl rfl ?_
        refine z_if_eq X (tgt := 44) dX8_both1_33 (by decide) (fun _ => ?_) (fun _ => ?_)
        · exact z_sub [1] (J44  _) rfl
        · refine z_iload_n X (q := 0) dX8_both1_36 rfl rfl ?_
          refine z_if_eq X (tgt := 44) dX8_both1_37 (by decide) (fun _ => ?_) (fun _ => ?_)
          · exact z_sub [1] (J44  _) rfl
          · refine z_iconst X (v := (1 : Int32)) dX8_both1_40 (by decide) ?_
            refine z_goto X (tgt := 45) dX8_both1_41 (by decide) ?_
            exact z_sub [1] (J45 _ _) rfl
  rw [fX8_both1]
  refine z_aload_n X (q := 0) dX8_both1_0 rfl rfl ?_
  refine z_callV X hK (As := []) (ci := 8) rfl (by decide) (fun o => (kX8_not1 l Z  b x o _)) hk_X8_293 ⟨rfl, rfl⟩ hd_X8_not1 ⟨Nat.le_of_ble_eq_true rfl, Nat.le_of_ble_eq_true rfl⟩ ⟨Nat.le_of_ble_eq_true rfl, Nat.le_of_ble_eq_true rfl⟩ rfl rfl (Nat.le_of_ble_eq_true rfl) dX8_both1_1 (fun _ q8 _ => ?_)
  refine z_name (fun v9 => ?_)
  refine z_istore_n X dX8_both1_4 rfl (Nat.le_of_ble_eq_true rfl) rfl ?_
  exact z_sub [1, 0] (J5 _ _ _) rfl
