theorem zw_899 : Cond.methodLink RX0 1 objectInit ∈ wsL_law := zr_4 _ (by decide +kernel)
theorem zw_900 : Cond.instanceMethod objectInit ∈ wsL_law := zr_1 _ (by decide +kernel)
theorem zw_901 : Cond.code objectInit ⟨#[0xb1]⟩ 1 none ∈ wsL_law := zr_1 _ (by decide +kernel)
theorem ho_X0_1 : ∀ w ∈ ([Cond.methodLink RX0 1 objectInit, Cond.instanceMethod objectInit, Cond.code objectInit ⟨#[0xb1]⟩ 1 none] : List Cond), w ∈ wsL_law := List.forall_mem_cons.mpr ⟨zw_899, List.forall_mem_cons.mpr ⟨zw_900, List.forall_mem_cons.mpr ⟨zw_901, fun _ h => absurd h List.not_mem_nil⟩⟩⟩
abbrev rmX0_init : Room := { frames := 1, cells := 0, slots := 0, locals := 40 }
set_option maxRecDepth 100000 in
def fX0_init (this : Nat) (st : zS) : Option (Unit × zS) :=
  some ((), st)
set_option maxRecDepth 100000 in
set_option maxHeartbeats 40000000 in
theorem kX0_init (l : Launch) (Z : zZ) (b : Nat) (this : Nat) (st : zS) : zN l Z spX b yX0_init (.code yX0_init cX0_init 1 none) rmX0_init 0 0 [vP (some this)] st (fX0_init this st) := by
  refine z_startN (own := RX0) rfl rfl (by decide +kernel) (Nat.le_of_ble_eq_true rfl) rfl (fun p e s m args below meth c res Q X hK hAO hinit hr hlocks hQ => ?_)
  rw [fX0_init]
  refine z_aload_n X (q := 0) dX0_init_0 rfl rfl ?_
  refine z_objinit X (o := this) ho_X0_1 ⟨Nat.le_of_ble_eq_true rfl, Nat.le_of_ble_eq_true rfl⟩ (Nat.le_of_ble_eq_true rfl) dX0_init_1 ?_
  subst hQ; exact z_vret X hlocks hr dX0_init_4
theorem hd_X0_init : yX0_init.cls = RX0 ∧ yX0_init.cls ≠ "java/lang/invoke/MethodHandle" ∧ yX0_init.cls ≠ "java/lang/invoke/VarHandle" ∧ (parseMethodDescriptor yX0_init.desc).map (fun d => d.parameters.length) = some 0 := by decide +kernel
theorem zw_902 : Cond.arrayClass .int ∈ wsL_law := zr_1 _ (by decide +kernel)
theorem ha_int : Cond.arrayClass .int ∈ wsL_law := zw_902
theorem zw_903 : Cond.instanceMethod yX0_init ∈ wsL_law := zr_3 _ (by decide +kernel)
theorem zw_904 : Cond.code yX0_init cX0_init 1 none ∈ wsL_law := zr_4 _ (by decide +kernel)
theorem hki_X1_25 : ∀ w ∈ ([Cond.instanceMethod yX0_init, Cond.initialized RX0, Cond.code yX0_init cX0_init 1 none] : List Cond), w ∈ wsL_law := List.forall_mem_cons.mpr ⟨zw_903, List.forall_mem_cons.mpr ⟨zw_224, List.forall_mem_cons.mpr ⟨zw_904, fun _ h => absurd h List.not_mem_nil⟩⟩⟩
theorem zw_905 : Cond.classLink RX1 15 RX0 ∈ wsL_law := zr_3 _ (by decide +kernel)
theorem zw_906 : Cond.instantiable RX0 5 ∈ wsL_law := zr_2 _ (by decide +kernel)
theorem hn_X1_15 : ∀ w ∈ ([Cond.classLink RX1 15 RX0, Cond.instantiable RX0 5, Cond.initialized RX0] : List Cond), w ∈ wsL_law := List.forall_mem_cons.mpr ⟨zw_905, List.forall_mem_cons.mpr ⟨zw_906, List.forall_mem_cons.mpr ⟨zw_224, fun _ h => absurd h List.not_mem_nil⟩⟩⟩
theorem zw_907 : Cond.methodLink RX1 3 objectInit ∈ wsL_law := zr_3 _ (by decide +kernel)
theorem ho_X1_3 : ∀ w ∈ ([Cond.methodLink RX1 3 objectInit, Cond.instanceMethod objectInit, Cond.code objectInit ⟨#[0xb1]⟩ 1 none] : List Cond), w ∈ wsL_law := List.forall_mem_cons.mpr ⟨zw_907, List.forall_mem_cons.mpr ⟨zw_900, List.forall_mem_cons.mpr ⟨zw_901, fun _ h => absurd h List.not_mem_nil⟩⟩⟩
theorem hq_X1_15 : Cond.classLink RX1 15 RX0 ∈ wsL_law := zw_905
abbrev rmX1_init : Room := { frames := 2, cells := 7, slots := 42, locals := 60 }
def fX1_init_c27_5 (this : Nat) (y1 : Int32) (st : zS) : Option (Unit × zS) :=
  (zok spX st (some this) 1).bind fun o59 => (zla spX st (st.2.2.2 o59 1)).bind fun o60 => if (Int32.ofNat (spX o60).2) ≤ y1 then (some ((), st)) else none
def fX1_init_c27_4 (this : Nat) (y1 : Int32) (st : zS) : Option (Unit × zS) :=
  (zok spX st (some this) 1).bind fun o49 => (zla spX st (st.2.2.2 o49 1)).bind fun o50 => if (Int32.ofNat (spX o50).2) ≤ y1 then none else ((zok spX st (some this) 1).bind fun o51 => if spX st.1 = (0, 5) then zlet (znew st) (fun st52 => (zok spX st52 (some st.1) 0).bind fun o54 => (fX0_init o54 st52).bind fun q53 => (zok spX q53.2 (st.2.2.2 o51 1) 11).bind fun o55 => (zix spX o55 y1).bind fun j56 => (zok spX q53.2 (some st.1) 0).bind fun o57 => zlet (zpr q53.2 o55 j56 (some o57)) fun st58 => fX1_init_c27_5 this (y1 + (1 : Int32)) st58) else none)
def fX1_init_c27_3 (this : Nat) (y1 : Int32) (st : zS) : Option (Unit × zS) :=
  (zok spX st (some this) 1).bind fun o39 => (zla spX st (st.2.2.2 o39 1)).bind fun o40 => if (Int32.ofNat (spX o40).2) ≤ y1 then none else ((zok spX st (some this) 1).bind fun o41 => if spX st.1 = (0, 5) then zlet (znew st) (fun st42 => (zok spX st42 (some st.1) 0).bind fun o44 => (fX0_init o44 st42).bind fun q43 => (zok spX q43.2 (st.2.2.2 o41 1) 11).bind fun o45 => (zix spX o45 y1).bind fun j46 => (zok spX q43.2 (some st.1) 0).bind fun o47 => zlet (zpr q43.2 o45 j46 (some o47)) fun st48 => fX1_init_c27_4 this (y1 + (1 : Int32)) st48) else none)
def fX1_init_c27_2 (this : Nat) (y1 : Int32) (st : zS) : Option (Unit × zS) :=
  (zok spX st (some this) 1).bind fun o29 => (zla spX st (st.2.2.2 o29 1)).bind fun o30 => if (Int32.ofNat (spX o30).2) ≤ y1 then none else ((zok spX st (some this) 1).bind fun o31 => if spX st.1 = (0, 5) then zlet (znew st) (fun st32 => (zok spX st32 (some st.1) 0).bind fun o34 => (fX0_init o34 st32).bind fun q33 => (zok spX q33.2 (st.2.2.2 o31 1) 11).bind fun o35 => (zix spX o35 y1).bind fun j36 => (zok spX q33.2 (some st.1) 0).bind fun o37 => zlet (zpr q33.2 o35 j36 (some o37)) fun st38 => fX1_init_c27_3 this (y1 + (1 : Int32)) st38) else none)
def fX1_init_c27_1 (this : Nat) (y1 : Int32) (st : zS) : Option (Unit × zS) :=
  (zok spX st (some this) 1).bind fun o19 => (zla spX st (st.2.2.2 o19 1)).bind fun o20 => if (Int32.ofNat (spX o20).2) ≤ y1 then none else ((zok spX st (some this) 1).bind fun o21 => if spX st.1 = (0, 5) then zlet (znew st) (fun st22 => (zok spX st22 (some st.1) 0).bind fun o24 => (fX0_init o24 st22).bind fun q23 => (zok spX q23.2 (st.2.2.2 o21 1) 11).bind fun o25 => (zix spX o25 y1).bind fun j26 => (zok spX q23.2 (some st.1) 0).bind fun o27 => zlet (zpr q23.2 o25 j26 (some o27)) fun st28 => fX1_init_c27_2 this (y1 + (1 : Int32)) st28) else none)
def fX1_init_c27_0 (this : Nat) (y1 : Int32) (st : zS) : Option (Unit × zS) :=
  (zok spX st (some this) 1).bind fun o9 => (zla spX st (st.2.2.2 o9 1)).bind fun o10 => if (Int32.ofNat (spX o10).2) ≤ y1 then none else ((zok spX st (some this) 1).bind fun o11 => if spX st.1 = (0, 5) then zlet (znew st) (fun st12 => (zok spX st12 (some st.1) 0).bind fun o14 => (fX0_init o14 st12).bind fun q13 => (zok spX q13.2 (st.2.2.2 o11 1) 11).bind fun o15 => (zix spX o15 y1).bind fun j16 => (zok spX q13.2 (some st.1) 0).bind fun o17 => zlet (zpr q13.2 o15 j16 (some o17)) fun st18 => fX1_init_c27_1 this (y1 + (1 : Int32)) st18) else none)
set_option maxRecDepth 100000 in
def fX1_init (this : Nat) (st : zS) : Option (Unit × zS) :=
  if spX st.1 = (9, 12) then zlet (znew st) (fun st1 => (zok spX st1 (some this) 1).bind fun o2 => zlet (zpr st1 o2 0 (some st.1)) fun st3 => if spX st3.1 = (11, 5) then zlet (znew st3) (fun st4 => (zok spX st4 (some this) 1).bind fun o5 => zlet (zpr st4 o5 1 (some st3.1)) fun st6 => (zok spX st6 (some this) 1).bind fun o7 => zlet (zp st6 o7 4 (-1 : Int32)) fun st8 => fX1_init_c27_0 this (0 : Int32) st8) else none) else none
set_option maxRecDepth 100000 in
set_option maxHeartbeats 40000000 in
theorem kX1_init (l : Launch) (Z : zZ) (b : Nat) (this : Nat) (st : zS) : zN l Z spX b yX1_init (.code yX1_init cX1_init 2 none) rmX1_init 7 42 [vP (some this)] st (fX1_init this st) := by
  refine z_startN (own := RX1) rfl rfl (by decide +kernel) (Nat.le_of_ble_eq_true rfl) rfl (fun p e s m args below meth c res Q X hK hAO hinit hr hlocks hQ => ?_)
  have Cc27_5 : ∀ (y1 : Int32) (st : zS), zs p l e rmX1_init s m args below meth c Q Z spX b (some 0) (fun q => b ≤ q) 2 (7) (42) res (fX1_init_c27_5 this y1 st) 27 [(0, vP (some this)), (1, vI y1)] [] st := by
    intro y1 st
    rw [fX1_init_c27_5]
    refine z_iload_n X (q := 1) dX1_init_27 rfl rfl ?_
    refine z_aload_n X (q := 0) dX1_init_28 rfl rfl ?_
    refine z_getr X hK (N := 5) (ci := 1) (k := 1) rfl (by decide) inlX1 (by decide) hf_X1_17 rfl spX_X1 rfl dX1_init_29 (fun o59 _ => ?_)
    refine z_alen X hK dX1_init_32 spX_14 (fun o60 _ => ?_)
    refine z_icmp_ge X (tgt := 55) dX1_init_33 (by decide) (fun _ => ?_) (fun _ => z_none)
    subst hQ; exact z_vret X hlocks hr dX1_init_55
  have Cc27_4 : ∀ (y1 : Int32) (st : zS), zs p l e rmX1_init s m args below meth c Q Z spX b (some 0) (fun q => b ≤ q) 2 (6) (37) res (fX1_init_c27_4 this y1 st) 27 [(0, vP (some this)), (1, vI y1)] [] st := by
    intro y1 st
    rw [fX1_init_c27_4]
    refine z_iload_n X (q := 1) dX1_init_27 rfl rfl ?_
    refine z_aload_n X (q := 0) dX1_init_28 rfl rfl ?_
    refine z_getr X hK (N := 5) (ci := 1) (k := 1) rfl (by decide) inlX1 (by decide) hf_X1_17 rfl spX_X1 rfl dX1_init_29 (fun o49 _ => ?_)
    refine z_alen X hK dX1_init_32 spX_14 (fun o50 _ => ?_)
    refine z_icmp_ge X (tgt := 55) dX1_init_33 (by decide) (fun _ => z_none) (fun _ => ?_)
    refine z_aload_n X (q := 0) dX1_init_36 rfl rfl ?_
    refine z_getr X hK (N := 5) (ci := 1) (k := 1) rfl (by decide) inlX1 (by decide) hf_X1_17 rfl spX_X1 rfl dX1_init_37 (fun o51 _ => ?_)
    refine z_iload_n X (q := 1) dX1_init_40 rfl rfl ?_
    refine z_new X hK (N := 5) (ci := 0) rfl (by decide) inlX0 tyX0 tyX0_ok (fun j hj => by rcases (show j = 0 ∨ j = 1 ∨ j = 2 ∨ j = 3 ∨ j = 4 by omega) with rfl | rfl | rfl | rfl | rfl <;> rfl) hn_X1_15 (Nat.le_of_ble_eq_true rfl) (Nat.le_of_ble_eq_true rfl) dX1_init_41 (fun st52 => ?_)
    refine z_dup X dX1_init_44 rfl ?_
    refine z_callIN X hK hAO (ci := 0) (As := []) (fun o => kX0_init l Z b o _) (by decide +kernel) hki_X1_25 rfl ⟨rfl, rfl⟩ hd_X0_init.2 ⟨Nat.le_of_ble_eq_true rfl, Nat.le_of_ble_eq_true rfl⟩ ⟨Nat.le_of_ble_eq_true rfl, Nat.le_of_ble_eq_true rfl⟩ rfl rfl (Nat.le_of_ble_eq_true rfl) dX1_init_45 (fun _ q53 _ => ?_)
    refine z_aast11 X hK dX1_init_48 (fun o55 j56 o57 st58 => ?_)
    refine z_iinc X (q := 1) (y := y1 + (1 : Int32)) dX1_init_49 rfl rfl (Nat.le_of_ble_eq_true rfl) rfl ?_
    refine z_goto X (tgt := 27) dX1_init_52 (by decide) ?_
    exact z_sub [1, 0] (Cc27_5 _ _) rfl
  have Cc27_3 : ∀ (y1 : Int32) (st : zS), zs p l e rmX1_init s m args below meth c Q Z spX b (some 0) (fun q => b ≤ q) 2 (5) (32) res (fX1_init_c27_3 this y1 st) 27 [(0, vP (some this)), (1, vI y1)] [] st := by
    intro y1 st
    rw [fX1_init_c27_3]
    refine z_iload_n X (q := 1) dX1_init_27 rfl rfl ?_
    refine z_aload_n X (q := 0) dX1_init_28 rfl rfl ?_
    refine z_getr X hK (N := 5) (ci := 1) (k := 1) rfl (by decide) inlX1 (by decide) hf_X1_17 rfl spX_X1 rfl dX1_init_29 (fun o39 _ => ?_)
    refine z_alen X hK dX1_init_32 spX_14 (fun o40 _ => ?_)
    refine z_icmp_ge X (tgt := 55) dX1_init_33 (by decide) (fun _ => z_none) (fun _ => ?_)
    refine z_aload_n X (q := 0) dX1_init_36 rfl rfl ?_
    refine z_getr X hK (N := 5) (ci := 1) (k := 1) rfl (by decide) inlX1 (by decide) hf_X1_17 rfl spX_X1 rfl dX1_init_37 (fun o41 _ => ?_)
    refine z_iload_n X (q := 1) dX1_init_40 rfl rfl ?_
    refine z_new X hK (N := 5) (ci := 0) rfl (by decide) inlX0 tyX0 tyX0_ok (fun j hj => by rcases (show j = 0 ∨ j = 1 ∨ j = 2 ∨ j = 3 ∨ j = 4 by omega) with rfl | rfl | rfl | rfl | rfl <;> rfl) hn_X1_15 (Nat.le_of_ble_eq_true rfl) (Nat.le_of_ble_eq_true rfl) dX1_init_41 (fun st42 => ?_)
    refine z_dup X dX1_init_44 rfl ?_
    refine z_callIN X hK hAO (ci := 0) (As := []) (fun o => kX0_init l Z b o _) (by decide +kernel) hki_X1_25 rfl ⟨rfl, rfl⟩ hd_X0_init.2 ⟨Nat.le_of_ble_eq_true rfl, Nat.le_of_ble_eq_true rfl⟩ ⟨Nat.le_of_ble_eq_true rfl, Nat.le_of_ble_eq_true rfl⟩ rfl rfl (Nat.le_of_ble_eq_true rfl) dX1_init_45 (fun _ q43 _ => ?_)
    refine z_aast11 X hK dX1_init_48 (fun o45 j46 o47 st48 => ?_)
    refine z_iinc X (q := 1) (y := y1 + (1 : Int32)) dX1_init_49 rfl rfl (Nat.le_of_ble_eq_true rfl) rfl ?_
    refine z_goto X (tgt := 27) dX1_init_52 (by decide) ?_
    exact z_sub [1, 0] (Cc27_4 _ _) rfl
  have Cc27_2 : ∀ (y1 : Int32) (st : zS), zs p l e rmX1_init s m args below meth c Q Z spX b (some 0) (fun q => b ≤ q) 2 (4) (27) res (fX1_init_c27_2 this y1 st) 27 [(0, vP (some this)), (1, vI y1)] [] st := by
    intro y1 st
    rw [fX1_init_c27_2]
    refine z_iload_n X (q := 1) dX1_init_27 rfl rfl ?_
    refine z_aload_n X (q := 0) dX1_init_28 rfl rfl ?_
    refine z_getr X hK (N := 5) (ci := 1) (k := 1) rfl (by decide) inlX1 (by decide) hf_X1_17 rfl spX_X1 rfl dX1_init_29 (fun o29 _ => ?_)
    refine z_alen X hK dX1_init_32 spX_14 (fun o30 _ => ?_)
    refine z_icmp_ge X (tgt := 55) dX1_init_33 (by decide) (fun _ => z_none) (fun _ => ?_)
    refine z_aload_n X (q := 0) dX1_init_36 rfl rfl ?_
    refine z_getr X hK (N := 5) (ci := 1) (k := 1) rfl (by decide) inlX1 (by decide) hf_X1_17 rfl spX_X1 rfl dX1_init_37 (fun o31 _ => ?_)
    refine z_iload_n X (q := 1) dX1_init_40 rfl rfl ?_
    refine z_new X hK (N := 5) (ci := 0) rfl (by decide) inlX0 tyX0 tyX0_ok (fun j hj => by rcases (show j = 0 ∨ j = 1 ∨ j = 2 ∨ j = 3 ∨ j = 4 by omega) with rfl | rfl | rfl | rfl | rfl <;> rfl) hn_X1_15 (Nat.le_of_ble_eq_true rfl) (Nat.le_of_ble_eq_true rfl) dX1_init_41 (fun st32 => ?_)
    refine z_dup X dX1_init_44 rfl ?_
    refine z_callIN X hK hAO (ci := 0) (As := []) (fun o => kX0_init l Z b o _) (by decide +kernel) hki_X1_25 rfl ⟨rfl, rfl⟩ hd_X0_init.2 ⟨Nat.le_of_ble_eq_true rfl, Nat.le_of_ble_eq_true rfl⟩ ⟨Nat.le_of_ble_eq_true rfl, Nat.le_of_ble_eq_true rfl⟩ rfl rfl (Nat.le_of_ble_eq_true rfl) dX1_init_45 (fun _ q33 _ => ?_)
    refine z_aast11 X hK dX1_init_48 (fun o35 j36 o37 st38 => ?_)
    refine z_iinc X (q := 1) (y := y1 + (1 : Int32)) dX1_init_49 rfl rfl (Nat.le_of_ble_eq_true rfl) rfl ?_
    refine z_goto X (tgt := 27) dX1_init_52 (by decide) ?_
    exact z_sub [1, 0] (Cc27_3 _ _) rfl
  have Cc27_1 : ∀ (y1 : Int32) (st : zS), zs p l e rmX1_init s m args below meth c Q Z spX b (some 0) (fun q => b ≤ q) 2 (3) (22) res (fX1_init_c27_1 this y1 st) 27 [(0, vP (some this)), (1, vI y1)] [] st := by
    intro y1 st
    rw [fX1_init_c27_1]
    refine z_iload_n X (q := 1) dX1_init_27 rfl rfl ?_
    refine z_aload_n X (q := 0) dX1_init_28 rfl rfl ?_
    refine z_getr X hK (N := 5) (ci := 1) (k := 1) rfl (by decide) inlX1 (by decide) hf_X1_17 rfl spX_X1 rfl dX1_init_29 (fun o19 _ => ?_)
    refine z_alen X hK dX1_init_32 spX_14 (fun o20 _ => ?_)
    refine z_icmp_ge X (tgt := 55) dX1_init_33 (by decide) (fun _ => z_none) (fun _ => ?_)
    refine z_aload_n X (q := 0) dX1_init_36 rfl rfl ?_
    refine z_getr X hK (N := 5) (ci := 1) (k := 1) rfl (by decide) inlX1 (by decide) hf_X1_17 rfl spX_X1 rfl dX1_init_37 (fun o21 _ => ?_)
    refine z_iload_n X (q := 1) dX1_init_40 rfl rfl ?_
    refine z_new X hK (N := 5) (ci := 0) rfl (by decide) inlX0 tyX0 tyX0_ok (fun j hj => by rcases (show j = 0 ∨ j = 1 ∨ j = 2 ∨ j = 3 ∨ j = 4 by omega) with rfl | rfl | rfl | rfl | rfl <;> rfl) hn_X1_15 (Nat.le_of_ble_eq_true rfl) (Nat.le_of_ble_eq_true rfl) dX1_init_41 (fun st22 => ?_)
    refine z_dup X dX1_init_44 rfl ?_
    refine z_callIN X hK hAO (ci := 0) (As := []) (fun o => kX0_init l Z b o _) (by decide +kernel) hki_X1_25 rfl ⟨rfl, rfl⟩ hd_X0_init.2 ⟨Nat.le_of_ble_eq_true rfl, Nat.le_of_ble_eq_true rfl⟩ ⟨Nat.le_of_ble_eq_true rfl, Nat.le_of_ble_eq_true rfl⟩ rfl rfl (Nat.le_of_ble_eq_true rfl) dX1_init_45 (fun _ q23 _ => ?_)
    refine z_aast11 X hK dX1_init_48 (fun o25 j26 o27 st28 => ?_)
    refine z_iinc X (q := 1) (y := y1 + (1 : Int32)) dX1_init_49 rfl rfl (Nat.le_of_ble_eq_true rfl) rfl ?_
    refine z_goto X (tgt := 27) dX1_init_52 (by decide) ?_
    exact z_sub [1, 0] (Cc27_2 _ _) rfl
  have Cc27_0 : ∀ (y1 : Int32) (st : zS), zs p l e rmX1_init s m args below meth c Q Z spX b (some 0) (fun q => b ≤ q) 2 (2) (17) res (fX1_init_c27_0 this y1 st) 27 [(0, vP (some this)), (1, vI y1)] [] st := by
    intro y1 st
    rw [fX1_init_c27_0]
    refine z_iload_n X (q := 1) dX1_init_27 rfl rfl ?_
    refine z_aload_n X (q := 0) dX1_init_28 rfl rfl ?_
    refine z_getr X hK (N := 5) (ci := 1) (k := 1) rfl (by decide) inlX1 (by decide) hf_X1_17 rfl spX_X1 rfl dX1_init_29 (fun o9 _ => ?_)
    refine z_alen X hK dX1_init_32 spX_14 (fun o10 _ => ?_)
    refine z_icmp_ge X (tgt := 55) dX1_init_33 (by decide) (fun _ => z_none) (fun _ => ?_)
    refine z_aload_n X (q := 0) dX1_init_36 rfl rfl ?_
    refine z_getr X hK (N := 5) (ci := 1) (k := 1) rfl (by decide) inlX1 (by decide) hf_X1_17 rfl spX_X1 rfl dX1_init_37 (fun o11 _ => ?_)
    refine z_iload_n X (q := 1) dX1_init_40 rfl rfl ?_
    refine z_new X hK (N := 5) (ci := 0) rfl (by decide) inlX0 tyX0 tyX0_ok (fun j hj => by rcases (show j = 0 ∨ j = 1 ∨ j = 2 ∨ j = 3 ∨ j = 4 by omega) with rfl | rfl | rfl | rfl | rfl <;> rfl) hn_X1_15 (Nat.le_of_ble_eq_true rfl) (Nat.le_of_ble_eq_true rfl) dX1_init_41 (fun st12 => ?_)
    refine z_dup X dX1_init_44 rfl ?_
    refine z_callIN X hK hAO (ci := 0) (As := []) (fun o => kX0_init l Z b o _) (by decide +kernel) hki_X1_25 rfl ⟨rfl, rfl⟩ hd_X0_init.2 ⟨Nat.le_of_ble_eq_true rfl, Nat.le_of_ble_eq_true rfl⟩ ⟨Nat.le_of_ble_eq_true rfl, Nat.le_of_ble_eq_true rfl⟩ rfl rfl (Nat.le_of_ble_eq_true rfl) dX1_init_45 (fun _ q13 _ => ?_)
    refine z_aast11 X hK dX1_init_48 (fun o15 j16 o17 st18 => ?_)
    refine z_iinc X (q := 1) (y := y1 + (1 : Int32)) dX1_init_49 rfl rfl (Nat.le_of_ble_eq_true rfl) rfl ?_
    refine z_goto X (tgt := 27) dX1_init_52 (by decide) ?_
    exact z_sub [1, 0] (Cc27_1 _ _) rfl
  rw [fX1_init]
  refine z_aload_n X (q := 0) dX1_init_0 rfl rfl ?_
  refine z_objinit X (o := this) ho_X1_3 ⟨Nat.le_of_ble_eq_true rfl, Nat.le_of_ble_eq_true rfl⟩ (Nat.le_of_ble_eq_true rfl) dX1_init_1 ?_
  refine z_aload_n X (q := 0) dX1_init_4 rfl rfl ?_
  refine z_bipush X (v := (12 : Int32)) dX1_init_5 (by decide) ?_
  refine z_newi X hK (N := 12) ha_int (by decide) (by decide) (by decide) (Nat.le_of_ble_eq_true rfl) (Nat.le_of_ble_eq_true rfl) dX1_init_7 (fun st1 => ?_)
  refine z_putFr X hK hinit (N := 5) (ci := 1) (k := 0) rfl (by decide) inlX1 tyX1 tyX1_ok nmX1 (by decide) hf_X1_9 rfl rfl rfl spX_X1 rfl (ty := tyX1 0) (by decide +kernel) (fun r => by cases r <;> exact ⟨rfl, rfl⟩) dX1_init_9 (fun o2 st3 _ => ?_)
  refine z_aload_n X (q := 0) dX1_init_12 rfl rfl ?_
  refine z_iconst X (v := (5 : Int32)) dX1_init_13 (by decide) ?_
  refine z_newq11 X hK hAO (N := 5) hq_X1_15 (by decide) (by decide) (by decide) (Nat.le_of_ble_eq_true rfl) (Nat.le_of_ble_eq_true rfl) dX1_init_14 (fun st4 => ?_)
  refine z_putFr X hK hinit (N := 5) (ci := 1) (k := 1) rfl (by decide) inlX1 tyX1 tyX1_ok nmX1 (by decide) hf_X1_17 rfl rfl rfl spX_X1 rfl (ty := tyX1 1) (by decide +kernel) (fun r => by cases r <;> exact ⟨rfl, rfl⟩) dX1_init_17 (fun o5 st6 _ => ?_)
  refine z_aload_n X (q := 0) dX1_init_20 rfl rfl ?_
  refine z_iconst X (v := (-1 : Int32)) dX1_init_21 (by decide) ?_
  refine z_puti X hK (N := 5) (ci := 1) (k := 4) rfl (by decide) inlX1 tyX1 tyX1_ok nmX1 (by decide) hf_X1_21 rfl rfl spX_X1 rfl (by decide +kernel) dX1_init_22 (fun o7 st8 _ => ?_)
  refine z_iconst X (v := (0 : Int32)) dX1_init_25 (by decide) ?_
  refine z_istore_n X dX1_init_26 rfl (Nat.le_of_ble_eq_true rfl) rfl ?_
  exact z_sub [1, 0] (Cc27_0 _ _) rfl
theorem zw_908 : Cond.methodLink RX5 3 objectInit ∈ wsL_law := zr_3 _ (by decide +kernel)
theorem ho_X5_3 : ∀ w ∈ ([Cond.methodLink RX5 3 objectInit, Cond.instanceMethod objectInit, Cond.code objectInit ⟨#[0xb1]⟩ 1 none] : List Cond), w ∈ wsL_law := List.forall_mem_cons.mpr ⟨zw_908, List.forall_mem_cons.mpr ⟨zw_900, List.forall_mem_cons.mpr ⟨zw_901, fun _ h => absurd h List.not_mem_nil⟩⟩⟩
abbrev rmX5_init : Room := { frames := 1, cells := 3, slots := 483, locals := 40 }
set_option maxRecDepth 100000 in
def fX5_init (this : Nat) (a1 : Option Nat) (st : zS) : Option (Unit × zS) :=
  if spX st.1 = (9, 161) then zlet (znew st) (fun st1 => (zok spX st1 (some this) 5).bind fun o2 => zlet (zpr st1 o2 1 (some st.1)) fun st3 => if spX st3.1 = (9, 161) then zlet (znew st3) (fun st4 => (zok spX st4 (some this) 5).bind fun o5 => zlet (zpr st4 o5 2 (some st3.1)) fun st6 => if spX st6.1 = (9, 161) then zlet (znew st6) (fun st7 => (zok spX st7 (some this) 5).bind fun o8 => zlet (zpr st7 o8 3 (some st6.1)) fun st9 => (zok spX st9 (some this) 5).bind fun o10 => zlet (zpr st9 o10 0 a1) fun st11 => some ((), st11)) else none) else none) else none
set_option maxRecDepth 100000 in
set_option maxHeartbeats 40000000 in
theorem kX5_init (l : Launch) (Z : zZ) (b : Nat) (this : Nat) (a1 : Option Nat) (st : zS) : zN l Z spX b yX5_init (.code yX5_init cX5_init 2 none) rmX5_init 3 483 [vP (some this), vP a1] st (fX5_init this a1 st) := by
  refine z_startN (own := RX5) rfl rfl (by decide +kernel) (Nat.le_of_ble_eq_true rfl) rfl (fun p e s m args below meth c res Q X hK hAO hinit hr hlocks hQ => ?_)
  rw [fX5_init]
  refine z_aload_n X (q := 0) dX5_init_0 rfl rfl ?_
  refine z_objinit X (o := this) ho_X5_3 ⟨Nat.le_of_ble_eq_true rfl, Nat.le_of_ble_eq_true rfl⟩ (Nat.le_of_ble_eq_true rfl) dX5_init_1 ?_
  refine z_aload_n X (q := 0) dX5_init_4 rfl rfl ?_
  refine z_sipush X (v := (161 : Int32)) dX5_init_5 (by decide) ?_
  refine z_newi X hK (N := 161) ha_int (by decide) (by decide) (by decide) (Nat.le_of_ble_eq_true rfl) (Nat.le_of_ble_eq_true rfl) dX5_init_8 (fun st1 => ?_)
  refine z_putFr X hK hinit (N := 8) (ci := 5) (k := 1) rfl (by decide) inlX5 tyX5 tyX5_ok nmX5 (by decide) hf_X5_9 rfl rfl rfl spX_X5 rfl (ty := tyX5 1) (by decide +kernel) (fun r => by cases r <;> exact ⟨rfl, rfl⟩) dX5_init_10 (fun o2 st3 _ => ?_)
  refine z_aload_n X (q := 0) dX5_init_13 rfl rfl ?_
  refine z_sipush X (v := (161 : Int32)) dX5_init_14 (by decide) ?_
  refine z_newi X hK (N := 161) ha_int (by decide) (by decide) (by decide) (Nat.le_of_ble_eq_true rfl) (Nat.le_of_ble_eq_true rfl) dX5_init_17 (fun st4 => ?_)
  refine z_putFr X hK hinit (N := 8) (ci := 5) (k := 2) rfl (by decide) inlX5 tyX5 tyX5_ok nmX5 (by decide) hf_X5_15 rfl rfl rfl spX_X5 rfl (ty := tyX5 2) (by decide +kernel) (fun r => by cases r <;> exact ⟨rfl, rfl⟩) dX5_init_19 (fun o5 st6 _ => ?_)
  refine z_aload_n X (q := 0) dX5_init_22 rfl rfl ?_
  refine z_sipush X (v := (161 : Int32)) dX5_init_23 (by decide) ?_
  refine z_newi X hK (N := 161) ha_int (by decide) (by decide) (by decide) (Nat.le_of_ble_eq_true rfl) (Nat.le_of_ble_eq_true rfl) dX5_init_26 (fun st7 => ?_)
  refine z_putFr X hK hinit (N := 8) (ci := 5) (k := 3) rfl (by decide) inlX5 tyX5 tyX5_ok nmX5 (by decide) hf_X5_18 rfl rfl rfl spX_X5 rfl (ty := tyX5 3) (by decide +kernel) (fun r => by cases r <;> exact ⟨rfl, rfl⟩) dX5_init_28 (fun o8 st9 _ => ?_)
  refine z_aload_n X (q := 0) dX5_init_31 rfl rfl ?_
  refine z_aload_n X (q := 1) dX5_init_32 rfl rfl ?_
  refine z_putFr X hK hinit (N := 8) (ci := 5) (k := 0) rfl (by decide) inlX5 tyX5 tyX5_ok nmX5 (by decide) hf_X5_21 rfl rfl rfl spX_X5 rfl (ty := tyX5 0) (by decide +kernel) (fun r => by cases r <;> exact ⟨rfl, rfl⟩) dX5_init_33 (fun o10 st11 _ => ?_)
  subst hQ; exact z_vret X hlocks hr dX5_init_36
theorem hd_X5_init : yX5_init.cls = RX5 ∧ yX5_init.cls ≠ "java/lang/invoke/MethodHandle" ∧ yX5_init.cls ≠ "java/lang/invoke/VarHandle" ∧ (parseMethodDescriptor yX5_init.desc).map (fun d => d.parameters.length) = some 1 := by decide +kernel
theorem zw_909 : Cond.methodLink RX2 11 yX5_init ∈ wsL_law := zr_3 _ (by decide +kernel)
theorem zw_910 : Cond.instanceMethod yX5_init ∈ wsL_law := zr_3 _ (by decide +kernel)
theorem zw_911 : Cond.code yX5_init cX5_init 2 none ∈ wsL_law := zr_3 _ (by decide +kernel)
theorem hki_X2_11 : ∀ w ∈ ([Cond.methodLink RX2 11 yX5_init, Cond.instanceMethod yX5_init, Cond.initialized RX5, Cond.code yX5_init cX5_init 2 none] : List Cond), w ∈ wsL_law := List.forall_mem_cons.mpr ⟨zw_909, List.forall_mem_cons.mpr ⟨zw_910, List.forall_mem_cons.mpr ⟨zw_90, List.forall_mem_cons.mpr ⟨zw_911, fun _ h => absurd h List.not_mem_nil⟩⟩⟩⟩
theorem zw_912 : Cond.classLink RX2 9 RX5 ∈ wsL_law := zr_3 _ (by decide +kernel)
theorem zw_913 : Cond.instantiable RX5 8 ∈ wsL_law := zr_3 _ (by decide +kernel)
theorem hn_X2_9 : ∀ w ∈ ([Cond.classLink RX2 9 RX5, Cond.instantiable RX5 8, Cond.initialized RX5] : List Cond), w ∈ wsL_law := List.forall_mem_cons.mpr ⟨zw_912, List.forall_mem_cons.mpr ⟨zw_913, List.forall_mem_cons.mpr ⟨zw_90, fun _ h => absurd h List.not_mem_nil⟩⟩⟩
theorem zw_914 : Cond.methodLink RX2 3 objectInit ∈ wsL_law := zr_3 _ (by decide +kernel)
theorem ho_X2_3 : ∀ w ∈ ([Cond.methodLink RX2 3 objectInit, Cond.instanceMethod objectInit, Cond.code objectInit ⟨#[0xb1]⟩ 1 none] : List Cond), w ∈ wsL_law := List.forall_mem_cons.mpr ⟨zw_914, List.forall_mem_cons.mpr ⟨zw_900, List.forall_mem_cons.mpr ⟨zw_901, fun _ h => absurd h List.not_mem_nil⟩⟩⟩
abbrev rmX2_init : Room := { frames := 2, cells := 4, slots := 491, locals := 61 }
set_option maxRecDepth 100000 in
def fX2_init (this : Nat) (a1 : Option Nat) (st : zS) : Option (Unit × zS) :=
  if spX st.1 = (5, 8) then zlet (znew st) (fun st1 => (zok spX st1 (some st.1) 5).bind fun o3 => (fX5_init o3 a1 st1).bind fun q2 => (zok spX q2.2 (some this) 2).bind fun o4 => zlet (zpr q2.2 o4 0 (some st.1)) fun st5 => some ((), st5)) else none
set_option maxRecDepth 100000 in
set_option maxHeartbeats 40000000 in
theorem kX2_init (l : Launch) (Z : zZ) (b : Nat) (this : Nat) (a1 : Option Nat) (st : zS) : zN l Z spX b yX2_init (.code yX2_init cX2_init 2 none) rmX2_init 4 491 [vP (some this), vP a1] st (fX2_init this a1 st) := by
  refine z_startN (own := RX2) rfl rfl (by decide +kernel) (Nat.le_of_ble_eq_true rfl) rfl (fun p e s m args below meth c res Q X hK hAO hinit hr hlocks hQ => ?_)
  rw [fX2_init]
  refine z_aload_n X (q := 0) dX2_init_0 rfl rfl ?_
  refine z_objinit X (o := this) ho_X2_3 ⟨Nat.le_of_ble_eq_true rfl, Nat.le_of_ble_eq_true rfl⟩ (Nat.le_of_ble_eq_true rfl) dX2_init_1 ?_
  refine z_aload_n X (q := 0) dX2_init_4 rfl rfl ?_
  refine z_new X hK (N := 8) (ci := 5) rfl (by decide) inlX5 tyX5 tyX5_ok (fun j hj => by rcases (show j = 0 ∨ j = 1 ∨ j = 2 ∨ j = 3 ∨ j = 4 ∨ j = 5 ∨ j = 6 ∨ j = 7 by omega) with rfl | rfl | rfl | rfl | rfl | rfl | rfl | rfl <;> rfl) hn_X2_9 (Nat.le_of_ble_eq_true rfl) (Nat.le_of_ble_eq_true rfl) dX2_init_5 (fun st1 => ?_)
  refine z_dup X dX2_init_8 rfl ?_
  refine z_aload_n X (q := 1) dX2_init_9 rfl rfl ?_
  refine z_callI X hK hAO (ci := 5) (As := [vP a1]) (fun o => kX5_init l Z b o _ _) hki_X2_11 rfl ⟨rfl, rfl⟩ hd_X5_init.2 ⟨Nat.le_of_ble_eq_true rfl, Nat.le_of_ble_eq_true rfl⟩ ⟨Nat.le_of_ble_eq_true rfl, Nat.le_of_ble_eq_true rfl⟩ rfl rfl (Nat.le_of_ble_eq_true rfl) dX2_init_10 (fun _ q2 _ => ?_)
  refine z_putFr X hK hinit (N := 5) (ci := 2) (k := 0) rfl (by decide) inlX2 tyX2 tyX2_ok nmX2 (by decide) hf_X2_14 rfl rfl rfl spX_X2 rfl (ty := tyX2 0) (by decide +kernel) (fun r => by cases r <;> exact ⟨rfl, rfl⟩) dX2_init_13 (fun o4 st5 _ => ?_)
  subst hQ; exact z_vret X hlocks hr dX2_init_16
theorem zw_915 : Cond.methodLink RX3 3 objectInit ∈ wsL_law := zr_4 _ (by decide +kernel)
theorem ho_X3_3 : ∀ w ∈ ([Cond.methodLink RX3 3 objectInit, Cond.instanceMethod objectInit, Cond.code objectInit ⟨#[0xb1]⟩ 1 none] : List Cond), w ∈ wsL_law := List.forall_mem_cons.mpr ⟨zw_915, List.forall_mem_cons.mpr ⟨zw_900, List.forall_mem_cons.mpr ⟨zw_901, fun _ h => absurd h List.not_mem_nil⟩⟩⟩
abbrev rmX3_init : Room := { frames := 1, cells := 1, slots := 40, locals := 40 }
set_option maxRecDepth 100000 in
def fX3_init (this : Nat) (st : zS) : Option (Unit × zS) :=
  if spX st.1 = (9, 40) then zlet (znew st) (fun st1 => (zok spX st1 (some this) 3).bind fun o2 => zlet (zpr st1 o2 0 (some st.1)) fun st3 => (zok spX st3 (some this) 3).bind fun o4 => zlet (zp st3 o4 1 (-1 : Int32)) fun st5 => some ((), st5)) else none
set_option maxRecDepth 100000 in
set_option maxHeartbeats 40000000 in
theorem kX3_init (l : Launch) (Z : zZ) (b : Nat) (this : Nat) (st : zS) : zN l Z spX b yX3_init (.code yX3_init cX3_init 1 none) rmX3_init 1 40 [vP (some this)] st (fX3_init this st) := by
  refine z_startN (own := RX3) rfl rfl (by decide +kernel) (Nat.le_of_ble_eq_true rfl) rfl (fun p e s m args below meth c res Q X hK hAO hinit hr hlocks hQ => ?_)
  rw [fX3_init]
  refine z_aload_n X (q := 0) dX3_init_0 rfl rfl ?_
  refine z_objinit X (o := this) ho_X3_3 ⟨Nat.le_of_ble_eq_true rfl, Nat.le_of_ble_eq_true rfl⟩ (Nat.le_of_ble_eq_true rfl) dX3_init_1 ?_
  refine z_aload_n X (q := 0) dX3_init_4 rfl rfl ?_
  refine z_bipush X (v := (40 : Int32)) dX3_init_5 (by decide) ?_
  refine z_newi X hK (N := 40) ha_int (by decide) (by decide) (by decide) (Nat.le_of_ble_eq_true rfl) (Nat.le_of_ble_eq_true rfl) dX3_init_7 (fun st1 => ?_)
  refine z_putFr X hK hinit (N := 3) (ci := 3) (k := 0) rfl (by decide) inlX3 tyX3 tyX3_ok nmX3 (by decide) hf_X3_9 rfl rfl rfl spX_X3 rfl (ty := tyX3 0) (by decide +kernel) (fun r => by cases r <;> exact ⟨rfl, rfl⟩) dX3_init_9 (fun o2 st3 _ => ?_)
  refine z_aload_n X (q := 0) dX3_init_12 rfl rfl ?_
  refine z_iconst X (v := (-1 : Int32)) dX3_init_13 (by decide) ?_
  refine z_puti X hK (N := 3) (ci := 3) (k := 1) rfl (by decide) inlX3 tyX3 tyX3_ok nmX3 (by decide) hf_X3_15 rfl rfl spX_X3 rfl (by decide +kernel) dX3_init_14 (fun o4 st5 _ => ?_)
  subst hQ; exact z_vret X hlocks hr dX3_init_17
theorem zw_916 : Cond.methodLink RX4 3 objectInit ∈ wsL_law := zr_4 _ (by decide +kernel)
theorem ho_X4_3 : ∀ w ∈ ([Cond.methodLink RX4 3 objectInit, Cond.instanceMethod objectInit, Cond.code objectInit ⟨#[0xb1]⟩ 1 none] : List Cond), w ∈ wsL_law := List.forall_mem_cons.mpr ⟨zw_916, List.forall_mem_cons.mpr ⟨zw_900, List.forall_mem_cons.mpr ⟨zw_901, fun _ h => absurd h List.not_mem_nil⟩⟩⟩
abbrev rmX4_init : Room := { frames := 1, cells := 3, slots := 227, locals := 40 }
set_option maxRecDepth 100000 in
def fX4_init (this : Nat) (st : zS) : Option (Unit × zS) :=
  if spX st.1 = (9, 160) then zlet (znew st) (fun st1 => (zok spX st1 (some this) 4).bind fun o2 => zlet (zpr st1 o2 0 (some st.1)) fun st3 => if spX st3.1 = (9, 3) then zlet (znew st3) (fun st4 => (zok spX st4 (some this) 4).bind fun o5 => zlet (zpr st4 o5 1 (some st3.1)) fun st6 => if spX st6.1 = (9, 64) then zlet (znew st6) (fun st7 => (zok spX st7 (some this) 4).bind fun o8 => zlet (zpr st7 o8 2 (some st6.1)) fun st9 => some ((), st9)) else none) else none) else none
set_option maxRecDepth 100000 in
set_option maxHeartbeats 40000000 in
theorem kX4_init (l : Launch) (Z : zZ) (b : Nat) (this : Nat) (st : zS) : zN l Z spX b yX4_init (.code yX4_init cX4_init 1 none) rmX4_init 3 227 [vP (some this)] st (fX4_init this st) := by
  refine z_startN (own := RX4) rfl rfl (by decide +kernel) (Nat.le_of_ble_eq_true rfl) rfl (fun p e s m args below meth c res Q X hK hAO hinit hr hlocks hQ => ?_)
  rw [fX4_init]
  refine z_aload_n X (q := 0) dX4_init_0 rfl rfl ?_
  refine z_objinit X (o := this) ho_X4_3 ⟨Nat.le_of_ble_eq_true rfl, Nat.le_of_ble_eq_true rfl⟩ (Nat.le_of_ble_eq_true rfl) dX4_init_1 ?_
  refine z_aload_n X (q := 0) dX4_init_4 rfl rfl ?_
  refine z_sipush X (v := (160 : Int32)) dX4_init_5 (by decide) ?_
  refine z_newi X hK (N := 160) ha_int (by decide) (by decide) (by decide) (Nat.le_of_ble_eq_true rfl) (Nat.le_of_ble_eq_true rfl) dX4_init_8 (fun st1 => ?_)
  refine z_putFr X hK hinit (N := 6) (ci := 4) (k := 0) rfl (by decide) inlX4 tyX4 tyX4_ok nmX4 (by decide) hf_X4_9 rfl rfl rfl spX_X4 rfl (ty := tyX4 0) (by decide +kernel) (fun r => by cases r <;> exact ⟨rfl, rfl⟩) dX4_init_10 (fun o2 st3 _ => ?_)
  refine z_aload_n X (q := 0) dX4_init_13 rfl rfl ?_
  refine z_iconst X (v := (3 : Int32)) dX4_init_14 (by decide) ?_
  refine z_newi X hK (N := 3) ha_int (by decide) (by decide) (by decide) (Nat.le_of_ble_eq_true rfl) (Nat.le_of_ble_eq_true rfl) dX4_init_15 (fun st4 => ?_)
  refine z_putFr X hK hinit (N := 6) (ci := 4) (k := 1) rfl (by decide) inlX4 tyX4 tyX4_ok nmX4 (by decide) hf_X4_15 rfl rfl rfl spX_X4 rfl (ty := tyX4 1) (by decide +kernel) (fun r => by cases r <;> exact ⟨rfl, rfl⟩) dX4_init_17 (fun o5 st6 _ => ?_)
  refine z_aload_n X (q := 0) dX4_init_20 rfl rfl ?_
  refine z_bipush X (v := (64 : Int32)) dX4_init_21 (by decide) ?_
  refine z_newi X hK (N := 64) ha_int (by decide) (by decide) (by decide) (Nat.le_of_ble_eq_true rfl) (Nat.le_of_ble_eq_true rfl) dX4_init_23 (fun st7 => ?_)
  refine z_putFr X hK hinit (N := 6) (ci := 4) (k := 2) rfl (by decide) inlX4 tyX4 tyX4_ok nmX4 (by decide) hf_X4_18 rfl rfl rfl spX_X4 rfl (ty := tyX4 2) (by decide +kernel) (fun r => by cases r <;> exact ⟨rfl, rfl⟩) dX4_init_25 (fun o8 st9 _ => ?_)
  subst hQ; exact z_vret X hlocks hr dX4_init_28
theorem zw_917 : Cond.methodLink RX6 3 objectInit ∈ wsL_law := zr_2 _ (by decide +kernel)
theorem ho_X6_3 : ∀ w ∈ ([Cond.methodLink RX6 3 objectInit, Cond.instanceMethod objectInit, Cond.code objectInit ⟨#[0xb1]⟩ 1 none] : List Cond), w ∈ wsL_law := List.forall_mem_cons.mpr ⟨zw_917, List.forall_mem_cons.mpr ⟨zw_900, List.forall_mem_cons.mpr ⟨zw_901, fun _ h => absurd h List.not_mem_nil⟩⟩⟩
abbrev rmX6_init : Room := { frames := 1, cells := 1, slots := 6, locals := 40 }
set_option maxRecDepth 100000 in
def fX6_init (this : Nat) (a1 : Option Nat) (st : zS) : Option (Unit × zS) :=
  if spX st.1 = (9, 6) then zlet (znew st) (fun st1 => (zok spX st1 (some this) 6).bind fun o2 => zlet (zpr st1 o2 1 (some st.1)) fun st3 => (zok spX st3 (some this) 6).bind fun o4 => zlet (zpr st3 o4 0 a1) fun st5 => some ((), st5)) else none
set_option maxRecDepth 100000 in
set_option maxHeartbeats 40000000 in
theorem kX6_init (l : Launch) (Z : zZ) (b : Nat) (this : Nat) (a1 : Option Nat) (st : zS) : zN l Z spX b yX6_init (.code yX6_init cX6_init 2 none) rmX6_init 1 6 [vP (some this), vP a1] st (fX6_init this a1 st) := by
  refine z_startN (own := RX6) rfl rfl (by decide +kernel) (Nat.le_of_ble_eq_true rfl) rfl (fun p e s m args below meth c res Q X hK hAO hinit hr hlocks hQ => ?_)
  rw [fX6_init]
  refine z_aload_n X (q := 0) dX6_init_0 rfl rfl ?_
  refine z_objinit X (o := this) ho_X6_3 ⟨Nat.le_of_ble_eq_true rfl, Nat.le_of_ble_eq_true rfl⟩ (Nat.le_of_ble_eq_true rfl) dX6_init_1 ?_
  refine z_aload_n X (q := 0) dX6_init_4 rfl rfl ?_
  refine z_bipush X (v := (6 : Int32)) dX6_init_5 (by decide) ?_
  refine z_newi X hK (N := 6) ha_int (by decide) (by decide) (by decide) (Nat.le_of_ble_eq_true rfl) (Nat.le_of_ble_eq_true rfl) dX6_init_7 (fun st1 => ?_)
  refine z_putFr X hK hinit (N := 15) (ci := 6) (k := 1) rfl (by decide) inlX6 tyX6 tyX6_ok nmX6 (by decide) hf_X6_11 rfl rfl rfl spX_X6 rfl (ty := tyX6 1) (by decide +kernel) (fun r => by cases r <;> exact ⟨rfl, rfl⟩) dX6_init_9 (fun o2 st3 _ => ?_)
  refine z_aload_n X (q := 0) dX6_init_12 rfl rfl ?_
  refine z_aload_n X (q := 1) dX6_init_13 rfl rfl ?_
  refine z_putFr X hK hinit (N := 15) (ci := 6) (k := 0) rfl (by decide) inlX6 tyX6 tyX6_ok nmX6 (by decide) hf_X6_17 rfl rfl rfl spX_X6 rfl (ty := tyX6 0) (by decide +kernel) (fun r => by cases r <;> exact ⟨rfl, rfl⟩) dX6_init_14 (fun o4 st5 _ => ?_)
  subst hQ; exact z_vret X hlocks hr dX6_init_17
theorem zw_918 : Cond.methodLink RX7 71 yX4_becomeFirst ∈ wsL_law := zr_4 _ (by decide +kernel)
theorem zw_919 : Cond.instanceMethod yX4_becomeFirst ∈ wsL_law := zr_4 _ (by decide +kernel)
theorem zw_920 : Cond.selects RX4 yX4_becomeFirst yX4_becomeFirst ∈ wsL_law := zr_4 _ (by decide +kernel)
theorem zw_921 : Cond.code yX4_becomeFirst cX4_becomeFirst 1 none ∈ wsL_law := zr_4 _ (by decide +kernel)
theorem hk_X7_71 : ∀ w ∈ ([Cond.methodLink RX7 71 yX4_becomeFirst, Cond.instanceMethod yX4_becomeFirst, Cond.selects RX4 yX4_becomeFirst yX4_becomeFirst, Cond.initialized RX4, Cond.code yX4_becomeFirst cX4_becomeFirst 1 none] : List Cond), w ∈ wsL_law := List.forall_mem_cons.mpr ⟨zw_918, List.forall_mem_cons.mpr ⟨zw_919, List.forall_mem_cons.mpr ⟨zw_920, List.forall_mem_cons.mpr ⟨zw_55, List.forall_mem_cons.mpr ⟨zw_921, fun _ h => absurd h List.not_mem_nil⟩⟩⟩⟩⟩
theorem zw_922 : Cond.methodLink RX7 74 yX7_fillFewSets ∈ wsL_law := zr_5 _ (by decide +kernel)
theorem zw_923 : Cond.instanceMethod yX7_fillFewSets ∈ wsL_law := zr_5 _ (by decide +kernel)
theorem zw_924 : Cond.selects RX7 yX7_fillFewSets yX7_fillFewSets ∈ wsL_law := zr_5 _ (by decide +kernel)
theorem zw_925 : Cond.code yX7_fillFewSets cX7_fillFewSets 4 none ∈ wsL_law := zr_5 _ (by decide +kernel)
theorem hk_X7_74 : ∀ w ∈ ([Cond.methodLink RX7 74 yX7_fillFewSets, Cond.instanceMethod yX7_fillFewSets, Cond.selects RX7 yX7_fillFewSets yX7_fillFewSets, Cond.initialized RX7, Cond.code yX7_fillFewSets cX7_fillFewSets 4 none] : List Cond), w ∈ wsL_law := List.forall_mem_cons.mpr ⟨zw_922, List.forall_mem_cons.mpr ⟨zw_923, List.forall_mem_cons.mpr ⟨zw_924, List.forall_mem_cons.mpr ⟨zw_322, List.forall_mem_cons.mpr ⟨zw_925, fun _ h => absurd h List.not_mem_nil⟩⟩⟩⟩⟩
theorem hd_X1_init : yX1_init.cls = RX1 ∧ yX1_init.cls ≠ "java/lang/invoke/MethodHandle" ∧ yX1_init.cls ≠ "java/lang/invoke/VarHandle" ∧ (parseMethodDescriptor yX1_init.desc).map (fun d => d.parameters.length) = some 0 := by decide +kernel
theorem hd_X2_init : yX2_init.cls = RX2 ∧ yX2_init.cls ≠ "java/lang/invoke/MethodHandle" ∧ yX2_init.cls ≠ "java/lang/invoke/VarHandle" ∧ (parseMethodDescriptor yX2_init.desc).map (fun d => d.parameters.length) = some 1 := by decide +kernel
theorem hd_X3_init : yX3_init.cls = RX3 ∧ yX3_init.cls ≠ "java/lang/invoke/MethodHandle" ∧ yX3_init.cls ≠ "java/lang/invoke/VarHandle" ∧ (parseMethodDescriptor yX3_init.desc).map (fun d => d.parameters.length) = some 0 := by decide +kernel
theorem hd_X4_becomeFirst : yX4_becomeFirst.cls = RX4 ∧ yX4_becomeFirst.cls ≠ "java/lang/invoke/MethodHandle" ∧ yX4_becomeFirst.cls ≠ "java/lang/invoke/VarHandle" ∧ (parseMethodDescriptor yX4_becomeFirst.desc).map (fun d => d.parameters.length) = some 0 := by decide +kernel
theorem hd_X4_init : yX4_init.cls = RX4 ∧ yX4_init.cls ≠ "java/lang/invoke/MethodHandle" ∧ yX4_init.cls ≠ "java/lang/invoke/VarHandle" ∧ (parseMethodDescriptor yX4_init.desc).map (fun d => d.parameters.length) = some 0 := by decide +kernel
theorem hd_X6_init : yX6_init.cls = RX6 ∧ yX6_init.cls ≠ "java/lang/invoke/MethodHandle" ∧ yX6_init.cls ≠ "java/lang/invoke/VarHandle" ∧ (parseMethodDescriptor yX6_init.desc).map (fun d => d.parameters.length) = some 1 := by decide +kernel
theorem hd_X7_fillFewSets : yX7_fillFewSets.cls = RX7 ∧ yX7_fillFewSets.cls ≠ "java/lang/invoke/MethodHandle" ∧ yX7_fillFewSets.cls ≠ "java/lang/invoke/VarHandle" ∧ (parseMethodDescriptor yX7_fillFewSets.desc).map (fun d => d.parameters.length) = some 0 := by decide +kernel
theorem zw_926 : Cond.methodLink RX7 39 yX6_init ∈ wsL_law := zr_2 _ (by decide +kernel)
theorem zw_927 : Cond.instanceMethod yX6_init ∈ wsL_law := zr_2 _ (by decide +kernel)
theorem zw_928 : Cond.code yX6_init cX6_init 2 none ∈ wsL_law := zr_2 _ (by decide +kernel)
theorem hki_X7_39 : ∀ w ∈ ([Cond.methodLink RX7 39 yX6_init, Cond.instanceMethod yX6_init, Cond.initialized RX6, Cond.code yX6_init cX6_init 2 none] : List Cond), w ∈ wsL_law := List.forall_mem_cons.mpr ⟨zw_926, List.forall_mem_cons.mpr ⟨zw_927, List.forall_mem_cons.mpr ⟨zw_137, List.forall_mem_cons.mpr ⟨zw_928, fun _ h => absurd h List.not_mem_nil⟩⟩⟩⟩
theorem zw_929 : Cond.methodLink RX7 48 yX2_init ∈ wsL_law := zr_2 _ (by decide +kernel)
theorem zw_930 : Cond.instanceMethod yX2_init ∈ wsL_law := zr_3 _ (by decide +kernel)
theorem zw_931 : Cond.code yX2_init cX2_init 2 none ∈ wsL_law := zr_3 _ (by decide +kernel)
theorem hki_X7_48 : ∀ w ∈ ([Cond.methodLink RX7 48 yX2_init, Cond.instanceMethod yX2_init, Cond.initialized RX2, Cond.code yX2_init cX2_init 2 none] : List Cond), w ∈ wsL_law := List.forall_mem_cons.mpr ⟨zw_929, List.forall_mem_cons.mpr ⟨zw_930, List.forall_mem_cons.mpr ⟨zw_253, List.forall_mem_cons.mpr ⟨zw_931, fun _ h => absurd h List.not_mem_nil⟩⟩⟩⟩
theorem zw_932 : Cond.methodLink RX7 55 yX1_init ∈ wsL_law := zr_3 _ (by decide +kernel)
theorem zw_933 : Cond.instanceMethod yX1_init ∈ wsL_law := zr_3 _ (by decide +kernel)
theorem zw_934 : Cond.code yX1_init cX1_init 2 none ∈ wsL_law := zr_3 _ (by decide +kernel)
theorem hki_X7_55 : ∀ w ∈ ([Cond.methodLink RX7 55 yX1_init, Cond.instanceMethod yX1_init, Cond.initialized RX1, Cond.code yX1_init cX1_init 2 none] : List Cond), w ∈ wsL_law := List.forall_mem_cons.mpr ⟨zw_932, List.forall_mem_cons.mpr ⟨zw_933, List.forall_mem_cons.mpr ⟨zw_228, List.forall_mem_cons.mpr ⟨zw_934, fun _ h => absurd h List.not_mem_nil⟩⟩⟩⟩
theorem hki_X7_64 : ∀ w ∈ ([Cond.instanceMethod yX0_init, Cond.initialized RX0, Cond.code yX0_init cX0_init 1 none] : List Cond), w ∈ wsL_law := List.forall_mem_cons.mpr ⟨zw_903, List.forall_mem_cons.mpr ⟨zw_224, List.forall_mem_cons.mpr ⟨zw_904, fun _ h => absurd h List.not_mem_nil⟩⟩⟩
theorem zw_935 : Cond.instanceMethod yX4_init ∈ wsL_law := zr_4 _ (by decide +kernel)
theorem zw_936 : Cond.code yX4_init cX4_init 1 none ∈ wsL_law := zr_4 _ (by decide +kernel)
theorem hki_X7_65 : ∀ w ∈ ([Cond.instanceMethod yX4_init, Cond.initialized RX4, Cond.code yX4_init cX4_init 1 none] : List Cond), w ∈ wsL_law := List.forall_mem_cons.mpr ⟨zw_935, List.forall_mem_cons.mpr ⟨zw_55, List.forall_mem_cons.mpr ⟨zw_936, fun _ h => absurd h List.not_mem_nil⟩⟩⟩
theorem zw_937 : Cond.instanceMethod yX3_init ∈ wsL_law := zr_4 _ (by decide +kernel)
theorem zw_938 : Cond.code yX3_init cX3_init 1 none ∈ wsL_law := zr_4 _ (by decide +kernel)
theorem hki_X7_66 : ∀ w ∈ ([Cond.instanceMethod yX3_init, Cond.initialized RX3, Cond.code yX3_init cX3_init 1 none] : List Cond), w ∈ wsL_law := List.forall_mem_cons.mpr ⟨zw_937, List.forall_mem_cons.mpr ⟨zw_350, List.forall_mem_cons.mpr ⟨zw_938, fun _ h => absurd h List.not_mem_nil⟩⟩⟩
theorem zw_939 : Cond.classLink RX7 19 RX0 ∈ wsL_law := zr_1 _ (by decide +kernel)
theorem hn_X7_19 : ∀ w ∈ ([Cond.classLink RX7 19 RX0, Cond.instantiable RX0 5, Cond.initialized RX0] : List Cond), w ∈ wsL_law := List.forall_mem_cons.mpr ⟨zw_939, List.forall_mem_cons.mpr ⟨zw_906, List.forall_mem_cons.mpr ⟨zw_224, fun _ h => absurd h List.not_mem_nil⟩⟩⟩
theorem zw_940 : Cond.classLink RX7 25 RX4 ∈ wsL_law := zr_1 _ (by decide +kernel)
theorem zw_941 : Cond.instantiable RX4 6 ∈ wsL_law := zr_2 _ (by decide +kernel)
theorem hn_X7_25 : ∀ w ∈ ([Cond.classLink RX7 25 RX4, Cond.instantiable RX4 6, Cond.initialized RX4] : List Cond), w ∈ wsL_law := List.forall_mem_cons.mpr ⟨zw_940, List.forall_mem_cons.mpr ⟨zw_941, List.forall_mem_cons.mpr ⟨zw_55, fun _ h => absurd h List.not_mem_nil⟩⟩⟩
theorem zw_942 : Cond.classLink RX7 31 RX3 ∈ wsL_law := zr_1 _ (by decide +kernel)
theorem zw_943 : Cond.instantiable RX3 3 ∈ wsL_law := zr_2 _ (by decide +kernel)
theorem hn_X7_31 : ∀ w ∈ ([Cond.classLink RX7 31 RX3, Cond.instantiable RX3 3, Cond.initialized RX3] : List Cond), w ∈ wsL_law := List.forall_mem_cons.mpr ⟨zw_942, List.forall_mem_cons.mpr ⟨zw_943, List.forall_mem_cons.mpr ⟨zw_350, fun _ h => absurd h List.not_mem_nil⟩⟩⟩
theorem zw_944 : Cond.classLink RX7 37 RX6 ∈ wsL_law := zr_1 _ (by decide +kernel)
theorem zw_945 : Cond.instantiable RX6 15 ∈ wsL_law := zr_1 _ (by decide +kernel)
theorem hn_X7_37 : ∀ w ∈ ([Cond.classLink RX7 37 RX6, Cond.instantiable RX6 15, Cond.initialized RX6] : List Cond), w ∈ wsL_law := List.forall_mem_cons.mpr ⟨zw_944, List.forall_mem_cons.mpr ⟨zw_945, List.forall_mem_cons.mpr ⟨zw_137, fun _ h => absurd h List.not_mem_nil⟩⟩⟩
theorem zw_946 : Cond.classLink RX7 46 RX2 ∈ wsL_law := zr_2 _ (by decide +kernel)
theorem zw_947 : Cond.instantiable RX2 5 ∈ wsL_law := zr_2 _ (by decide +kernel)
theorem hn_X7_46 : ∀ w ∈ ([Cond.classLink RX7 46 RX2, Cond.instantiable RX2 5, Cond.initialized RX2] : List Cond), w ∈ wsL_law := List.forall_mem_cons.mpr ⟨zw_946, List.forall_mem_cons.mpr ⟨zw_947, List.forall_mem_cons.mpr ⟨zw_253, fun _ h => absurd h List.not_mem_nil⟩⟩⟩
theorem zw_948 : Cond.classLink RX7 53 RX1 ∈ wsL_law := zr_2 _ (by decide +kernel)
theorem zw_949 : Cond.instantiable RX1 5 ∈ wsL_law := zr_2 _ (by decide +kernel)
theorem hn_X7_53 : ∀ w ∈ ([Cond.classLink RX7 53 RX1, Cond.instantiable RX1 5, Cond.initialized RX1] : List Cond), w ∈ wsL_law := List.forall_mem_cons.mpr ⟨zw_948, List.forall_mem_cons.mpr ⟨zw_949, List.forall_mem_cons.mpr ⟨zw_228, fun _ h => absurd h List.not_mem_nil⟩⟩⟩
theorem zw_950 : Cond.methodLink RX7 1 objectInit ∈ wsL_law := zr_1 _ (by decide +kernel)
theorem ho_X7_1 : ∀ w ∈ ([Cond.methodLink RX7 1 objectInit, Cond.instanceMethod objectInit, Cond.code objectInit ⟨#[0xb1]⟩ 1 none] : List Cond), w ∈ wsL_law := List.forall_mem_cons.mpr ⟨zw_950, List.forall_mem_cons.mpr ⟨zw_900, List.forall_mem_cons.mpr ⟨zw_901, fun _ h => absurd h List.not_mem_nil⟩⟩⟩
theorem hq_X7_19 : Cond.classLink RX7 19 RX0 ∈ wsL_law := zw_939
theorem hq_X7_25 : Cond.classLink RX7 25 RX4 ∈ wsL_law := zw_940
theorem hq_X7_31 : Cond.classLink RX7 31 RX3 ∈ wsL_law := zw_942
abbrev rmX7_init : Room := { frames := 3, cells := 58, slots := 2644, locals := 83 }
def fX7_init_c191_e (this : Nat) (st : zS) : Option (Unit × zS) :=
  (zok spX st (some this) 7).bind fun o201 => (fX7_textAt o201 (0 : Int32) st).bind fun q194 => if q194.1 = none then ((zok spX q194.2 (some this) 7).bind fun o196 => (fX7_fillFewSets o196 q194.2).bind fun q195 => some ((), q195.2)) else ((zok spX q194.2 q194.1 4).bind fun o200 => (fX4_becomeFirst o200 q194.2).bind fun q197 => (zok spX q197.2 (some this) 7).bind fun o199 => (fX7_fillFewSets o199 q197.2).bind fun q198 => some ((), q198.2))
def fX7_init_c163_4 (this : Nat) (y1 : Int32) (st : zS) : Option (Unit × zS) :=
  (zok spX st (some this) 7).bind fun o192 => (zla spX st (st.2.2.2 o192 5)).bind fun o193 => if (Int32.ofNat (spX o193).2) ≤ y1 then (fX7_init_c191_e this st) else none
def fX7_init_c163_3 (this : Nat) (y1 : Int32) (st : zS) : Option (Unit × zS) :=
  (zok spX st (some this) 7).bind fun o182 => (zla spX st (st.2.2.2 o182 5)).bind fun o183 => if (Int32.ofNat (spX o183).2) ≤ y1 then none else ((zok spX st (some this) 7).bind fun o184 => if spX st.1 = (3, 3) then zlet (znew st) (fun st185 => (zok spX st185 (some st.1) 3).bind fun o187 => (fX3_init o187 st185).bind fun q186 => (zok spX q186.2 (st.2.2.2 o184 5) 12).bind fun o188 => (zix spX o188 y1).bind fun j189 => (zok spX q186.2 (some st.1) 3).bind fun o190 => zlet (zpr q186.2 o188 j189 (some o190)) fun st191 => fX7_init_c163_4 this (y1 + (1 : Int32)) st191) else none)
def fX7_init_c163_2 (this : Nat) (y1 : Int32) (st : zS) : Option (Unit × zS) :=
  (zok spX st (some this) 7).bind fun o172 => (zla spX st (st.2.2.2 o172 5)).bind fun o173 => if (Int32.ofNat (spX o173).2) ≤ y1 then none else ((zok spX st (some this) 7).bind fun o174 => if spX st.1 = (3, 3) then zlet (znew st) (fun st175 => (zok spX st175 (some st.1) 3).bind fun o177 => (fX3_init o177 st175).bind fun q176 => (zok spX q176.2 (st.2.2.2 o174 5) 12).bind fun o178 => (zix spX o178 y1).bind fun j179 => (zok spX q176.2 (some st.1) 3).bind fun o180 => zlet (zpr q176.2 o178 j179 (some o180)) fun st181 => fX7_init_c163_3 this (y1 + (1 : Int32)) st181) else none)
def fX7_init_c163_1 (this : Nat) (y1 : Int32) (st : zS) : Option (Unit × zS) :=
  (zok spX st (some this) 7).bind fun o162 => (zla spX st (st.2.2.2 o162 5)).bind fun o163 => if (Int32.ofNat (spX o163).2) ≤ y1 then none else ((zok spX st (some this) 7).bind fun o164 => if spX st.1 = (3, 3) then zlet (znew st) (fun st165 => (zok spX st165 (some st.1) 3).bind fun o167 => (fX3_init o167 st165).bind fun q166 => (zok spX q166.2 (st.2.2.2 o164 5) 12).bind fun o168 => (zix spX o168 y1).bind fun j169 => (zok spX q166.2 (some st.1) 3).bind fun o170 => zlet (zpr q166.2 o168 j169 (some o170)) fun st171 => fX7_init_c163_2 this (y1 + (1 : Int32)) st171) else none)
def fX7_init_c163_0 (this : Nat) (y1 : Int32) (st : zS) : Option (Unit × zS) :=
  (zok spX st (some this) 7).bind fun o152 => (zla spX st (st.2.2.2 o152 5)).bind fun o153 => if (Int32.ofNat (spX o153).2) ≤ y1 then none else ((zok spX st (some this) 7).bind fun o154 => if spX st.1 = (3, 3) then zlet (znew st) (fun st155 => (zok spX st155 (some st.1) 3).bind fun o157 => (fX3_init o157 st155).bind fun q156 => (zok spX q156.2 (st.2.2.2 o154 5) 12).bind fun o158 => (zix spX o158 y1).bind fun j159 => (zok spX q156.2 (some st.1) 3).bind fun o160 => zlet (zpr q156.2 o158 j159 (some o160)) fun st161 => fX7_init_c163_1 this (y1 + (1 : Int32)) st161) else none)
def fX7_init_c133_6 (this : Nat) (y1 : Int32) (st : zS) : Option (Unit × zS) :=
  (zok spX st (some this) 7).bind fun o150 => (zla spX st (st.2.2.2 o150 4)).bind fun o151 => if (Int32.ofNat (spX o151).2) ≤ y1 then (fX7_init_c163_0 this (0 : Int32) st) else none
def fX7_init_c133_5 (this : Nat) (y1 : Int32) (st : zS) : Option (Unit × zS) :=
  (zok spX st (some this) 7).bind fun o140 => (zla spX st (st.2.2.2 o140 4)).bind fun o141 => if (Int32.ofNat (spX o141).2) ≤ y1 then none else ((zok spX st (some this) 7).bind fun o142 => if spX st.1 = (4, 6) then zlet (znew st) (fun st143 => (zok spX st143 (some st.1) 4).bind fun o145 => (fX4_init o145 st143).bind fun q144 => (zok spX q144.2 (st.2.2.2 o142 4) 13).bind fun o146 => (zix spX o146 y1).bind fun j147 => (zok spX q144.2 (some st.1) 4).bind fun o148 => zlet (zpr q144.2 o146 j147 (some o148)) fun st149 => fX7_init_c133_6 this (y1 + (1 : Int32)) st149) else none)
def fX7_init_c133_4 (this : Nat) (y1 : Int32) (st : zS) : Option (Unit × zS) :=
  (zok spX st (some this) 7).bind fun o130 => (zla spX st (st.2.2.2 o130 4)).bind fun o131 => if (Int32.ofNat (spX o131).2) ≤ y1 then none else ((zok spX st (some this) 7).bind fun o132 => if spX st.1 = (4, 6) then zlet (znew st) (fun st133 => (zok spX st133 (some st.1) 4).bind fun o135 => (fX4_init o135 st133).bind fun q134 => (zok spX q134.2 (st.2.2.2 o132 4) 13).bind fun o136 => (zix spX o136 y1).bind fun j137 => (zok spX q134.2 (some st.1) 4).bind fun o138 => zlet (zpr q134.2 o136 j137 (some o138)) fun st139 => fX7_init_c133_5 this (y1 + (1 : Int32)) st139) else none)
def fX7_init_c133_3 (this : Nat) (y1 : Int32) (st : zS) : Option (Unit × zS) :=
  (zok spX st (some this) 7).bind fun o120 => (zla spX st (st.2.2.2 o120 4)).bind fun o121 => if (Int32.ofNat (spX o121).2) ≤ y1 then none else ((zok spX st (some this) 7).bind fun o122 => if spX st.1 = (4, 6) then zlet (znew st) (fun st123 => (zok spX st123 (some st.1) 4).bind fun o125 => (fX4_init o125 st123).bind fun q124 => (zok spX q124.2 (st.2.2.2 o122 4) 13).bind fun o126 => (zix spX o126 y1).bind fun j127 => (zok spX q124.2 (some st.1) 4).bind fun o128 => zlet (zpr q124.2 o126 j127 (some o128)) fun st129 => fX7_init_c133_4 this (y1 + (1 : Int32)) st129) else none)
def fX7_init_c133_2 (this : Nat) (y1 : Int32) (st : zS) : Option (Unit × zS) :=
  (zok spX st (some this) 7).bind fun o110 => (zla spX st (st.2.2.2 o110 4)).bind fun o111 => if (Int32.ofNat (spX o111).2) ≤ y1 then none else ((zok spX st (some this) 7).bind fun o112 => if spX st.1 = (4, 6) then zlet (znew st) (fun st113 => (zok spX st113 (some st.1) 4).bind fun o115 => (fX4_init o115 st113).bind fun q114 => (zok spX q114.2 (st.2.2.2 o112 4) 13).bind fun o116 => (zix spX o116 y1).bind fun j117 => (zok spX q114.2 (some st.1) 4).bind fun o118 => zlet (zpr q114.2 o116 j117 (some o118)) fun st119 => fX7_init_c133_3 this (y1 + (1 : Int32)) st119) else none)
def fX7_init_c133_1 (this : Nat) (y1 : Int32) (st : zS) : Option (Unit × zS) :=
  (zok spX st (some this) 7).bind fun o100 => (zla spX st (st.2.2.2 o100 4)).bind fun o101 => if (Int32.ofNat (spX o101).2) ≤ y1 then none else ((zok spX st (some this) 7).bind fun o102 => if spX st.1 = (4, 6) then zlet (znew st) (fun st103 => (zok spX st103 (some st.1) 4).bind fun o105 => (fX4_init o105 st103).bind fun q104 => (zok spX q104.2 (st.2.2.2 o102 4) 13).bind fun o106 => (zix spX o106 y1).bind fun j107 => (zok spX q104.2 (some st.1) 4).bind fun o108 => zlet (zpr q104.2 o106 j107 (some o108)) fun st109 => fX7_init_c133_2 this (y1 + (1 : Int32)) st109) else none)
def fX7_init_c133_0 (this : Nat) (y1 : Int32) (st : zS) : Option (Unit × zS) :=
  (zok spX st (some this) 7).bind fun o90 => (zla spX st (st.2.2.2 o90 4)).bind fun o91 => if (Int32.ofNat (spX o91).2) ≤ y1 then none else ((zok spX st (some this) 7).bind fun o92 => if spX st.1 = (4, 6) then zlet (znew st) (fun st93 => (zok spX st93 (some st.1) 4).bind fun o95 => (fX4_init o95 st93).bind fun q94 => (zok spX q94.2 (st.2.2.2 o92 4) 13).bind fun o96 => (zix spX o96 y1).bind fun j97 => (zok spX q94.2 (some st.1) 4).bind fun o98 => zlet (zpr q94.2 o96 j97 (some o98)) fun st99 => fX7_init_c133_1 this (y1 + (1 : Int32)) st99) else none)
def fX7_init_c103_5 (this : Nat) (y1 : Int32) (st : zS) : Option (Unit × zS) :=
  (zok spX st (some this) 7).bind fun o88 => (zla spX st (st.2.2.2 o88 3)).bind fun o89 => if (Int32.ofNat (spX o89).2) ≤ y1 then (fX7_init_c133_0 this (0 : Int32) st) else none
def fX7_init_c103_4 (this : Nat) (y1 : Int32) (st : zS) : Option (Unit × zS) :=
  (zok spX st (some this) 7).bind fun o78 => (zla spX st (st.2.2.2 o78 3)).bind fun o79 => if (Int32.ofNat (spX o79).2) ≤ y1 then none else ((zok spX st (some this) 7).bind fun o80 => if spX st.1 = (0, 5) then zlet (znew st) (fun st81 => (zok spX st81 (some st.1) 0).bind fun o83 => (fX0_init o83 st81).bind fun q82 => (zok spX q82.2 (st.2.2.2 o80 3) 11).bind fun o84 => (zix spX o84 y1).bind fun j85 => (zok spX q82.2 (some st.1) 0).bind fun o86 => zlet (zpr q82.2 o84 j85 (some o86)) fun st87 => fX7_init_c103_5 this (y1 + (1 : Int32)) st87) else none)
def fX7_init_c103_3 (this : Nat) (y1 : Int32) (st : zS) : Option (Unit × zS) :=
  (zok spX st (some this) 7).bind fun o68 => (zla spX st (st.2.2.2 o68 3)).bind fun o69 => if (Int32.ofNat (spX o69).2) ≤ y1 then none else ((zok spX st (some this) 7).bind fun o70 => if spX st.1 = (0, 5) then zlet (znew st) (fun st71 => (zok spX st71 (some st.1) 0).bind fun o73 => (fX0_init o73 st71).bind fun q72 => (zok spX q72.2 (st.2.2.2 o70 3) 11).bind fun o74 => (zix spX o74 y1).bind fun j75 => (zok spX q72.2 (some st.1) 0).bind fun o76 => zlet (zpr q72.2 o74 j75 (some o76)) fun st77 => fX7_init_c103_4 this (y1 + (1 : Int32)) st77) else none)
def fX7_init_c103_2 (this : Nat) (y1 : Int32) (st : zS) : Option (Unit × zS) :=
  (zok spX st (some this) 7).bind fun o58 => (zla spX st (st.2.2.2 o58 3)).bind fun o59 => if (Int32.ofNat (spX o59).2) ≤ y1 then none else ((zok spX st (some this) 7).bind fun o60 => if spX st.1 = (0, 5) then zlet (znew st) (fun st61 => (zok spX st61 (some st.1) 0).bind fun o63 => (fX0_init o63 st61).bind fun q62 => (zok spX q62.2 (st.2.2.2 o60 3) 11).bind fun o64 => (zix spX o64 y1).bind fun j65 => (zok spX q62.2 (some st.1) 0).bind fun o66 => zlet (zpr q62.2 o64 j65 (some o66)) fun st67 => fX7_init_c103_3 this (y1 + (1 : Int32)) st67) else none)
def fX7_init_c103_1 (this : Nat) (y1 : Int32) (st : zS) : Option (Unit × zS) :=
  (zok spX st (some this) 7).bind fun o48 => (zla spX st (st.2.2.2 o48 3)).bind fun o49 => if (Int32.ofNat (spX o49).2) ≤ y1 then none else ((zok spX st (some this) 7).bind fun o50 => if spX st.1 = (0, 5) then zlet (znew st) (fun st51 => (zok spX st51 (some st.1) 0).bind fun o53 => (fX0_init o53 st51).bind fun q52 => (zok spX q52.2 (st.2.2.2 o50 3) 11).bind fun o54 => (zix spX o54 y1).bind fun j55 => (zok spX q52.2 (some st.1) 0).bind fun o56 => zlet (zpr q52.2 o54 j55 (some o56)) fun st57 => fX7_init_c103_2 this (y1 + (1 : Int32)) st57) else none)
def fX7_init_c103_0 (this : Nat) (y1 : Int32) (st : zS) : Option (Unit × zS) :=
  (zok spX st (some this) 7).bind fun o38 => (zla spX st (st.2.2.2 o38 3)).bind fun o39 => if (Int32.ofNat (spX o39).2) ≤ y1 then none else ((zok spX st (some this) 7).bind fun o40 => if spX st.1 = (0, 5) then zlet (znew st) (fun st41 => (zok spX st41 (some st.1) 0).bind fun o43 => (fX0_init o43 st41).bind fun q42 => (zok spX q42.2 (st.2.2.2 o40 3) 11).bind fun o44 => (zix spX o44 y1).bind fun j45 => (zok spX q42.2 (some st.1) 0).bind fun o46 => zlet (zpr q42.2 o44 j45 (some o46)) fun st47 => fX7_init_c103_1 this (y1 + (1 : Int32)) st47) else none)
set_option maxRecDepth 100000 in
def fX7_init (this : Nat) (st : zS) : Option (Unit × zS) :=
  if spX st.1 = (9, 12) then zlet (znew st) (fun st1 => (zok spX st1 (some this) 7).bind fun o2 => zlet (zpr st1 o2 0 (some st.1)) fun st3 => if spX st3.1 = (9, 298) then zlet (znew st3) (fun st4 => (zok spX st4 (some this) 7).bind fun o5 => zlet (zpr st4 o5 1 (some st3.1)) fun st6 => if spX st6.1 = (9, 160) then zlet (znew st6) (fun st7 => (zok spX st7 (some this) 7).bind fun o8 => zlet (zpr st7 o8 2 (some st6.1)) fun st9 => if spX st9.1 = (11, 5) then zlet (znew st9) (fun st10 => (zok spX st10 (some this) 7).bind fun o11 => zlet (zpr st10 o11 3 (some st9.1)) fun st12 => if spX st12.1 = (13, 6) then zlet (znew st12) (fun st13 => (zok spX st13 (some this) 7).bind fun o14 => zlet (zpr st13 o14 4 (some st12.1)) fun st15 => if spX st15.1 = (12, 4) then zlet (znew st15) (fun st16 => (zok spX st16 (some this) 7).bind fun o17 => zlet (zpr st16 o17 5 (some st15.1)) fun st18 => if spX st18.1 = (6, 15) then zlet (znew st18) (fun st19 => (zok spX st19 (some this) 7).bind fun o20 => (zok spX st19 (some st18.1) 6).bind fun o22 => (fX6_init o22 (st19.2.2.2 o20 0) st19).bind fun q21 => (zok spX q21.2 (some this) 7).bind fun o23 => zlet (zpr q21.2 o23 6 (some st18.1)) fun st24 => if spX st24.1 = (2, 5) then zlet (znew st24) (fun st25 => (zok spX st25 (some this) 7).bind fun o26 => (zok spX st25 (some st24.1) 2).bind fun o28 => (fX2_init o28 (st25.2.2.2 o26 2) st25).bind fun q27 => (zok spX q27.2 (some this) 7).bind fun o29 => zlet (zpr q27.2 o29 7 (some st24.1)) fun st30 => if spX st30.1 = (1, 5) then zlet (znew st30) (fun st31 => (zok spX st31 (some st30.1) 1).bind fun o33 => (fX1_init o33 st31).bind fun q32 => (zok spX q32.2 (some this) 7).bind fun o34 => zlet (zpr q32.2 o34 8 (some st30.1)) fun st35 => (zok spX st35 (some this) 7).bind fun o36 => zlet (zp st35 o36 11 (1 : Int32)) fun st37 => fX7_init_c103_0 this (0 : Int32) st37) else none) else none) else none) else none) else none) else none) else none) else none) else none
set_option maxRecDepth 100000 in
set_option maxHeartbeats 40000000 in
theorem kX7_init (l : Launch) (Z : zZ) (b : Nat) (this : Nat) (st : zS) : zN l Z spX b yX7_init (.code yX7_init cX7_init 2 none) rmX7_init 58 2644 [vP (some this)] st (fX7_init this st) := by
  refine z_startN (own := RX7) rfl rfl (by decide +kernel) (Nat.le_of_ble_eq_true rfl) rfl (fun p e s m args below meth c res Q X hK hAO hinit hr hlocks hQ => ?_)
  have Cc191_e : ∀ (st : zS), zs p l e rmX7_init s m args below meth c Q Z spX b (some 0) (fun q => b ≤ q) 2 (58) (2644) res (fX7_init_c191_e this st) 191 [(0, vP (some this))] [] st := by
    intro  st
    rw [fX7_init_c191_e]
    refine z_aload_n X (q := 0) dX7_init_191 rfl rfl ?_
    refine z_iconst X (v := (0 : Int32)) dX7_init_192 (by decide) ?_
    refine z_callV X hK (As := [vI (0 : Int32)]) (ci := 7) rfl (by decide) (fun o => (kX7_textAt l Z  b (some 0) o _ _)) hk_X7_67 ⟨rfl, rfl⟩ hd_X7_textAt ⟨Nat.le_of_ble_eq_true rfl, Nat.le_of_ble_eq_true rfl⟩ ⟨Nat.le_of_ble_eq_true rfl, Nat.le_of_ble_eq_true rfl⟩ rfl rfl (Nat.le_of_ble_eq_true rfl) dX7_init_193 (fun _ q194 _ => ?_)
    refine z_astore_n X dX7_init_196 rfl (Nat.le_of_ble_eq_true rfl) rfl ?_
    refine z_aload_n X (q := 0) dX7_init_197 rfl rfl ?_
    refine z_ifnull X (tgt := 205) dX7_init_198 (by decide) (fun _ => ?_) (fun _ => ?_)
    · refine z_aload_n X (q := 1) dX7_init_205 rfl rfl ?_
      refine z_callV X hK (As := []) (ci := 7) rfl (by decide) (fun o => (kX7_fillFewSets l Z  b (some 0) o _)) hk_X7_74 ⟨rfl, rfl⟩ hd_X7_fillFewSets ⟨Nat.le_of_ble_eq_true rfl, Nat.le_of_ble_eq_true rfl⟩ ⟨Nat.le_of_ble_eq_true rfl, Nat.le_of_ble_eq_true rfl⟩ rfl rfl (Nat.le_of_ble_eq_true rfl) dX7_init_206 (fun _ q195 _ => ?_)
      subst hQ; exact z_vret X hlocks hr dX7_init_209
    · refine z_aload_n X (q := 0) dX7_init_201 rfl rfl ?_
      refine z_callV X hK (As := []) (ci := 4) rfl (by decide) (fun o => (kX4_becomeFirst l Z  b (some 0) o _)) hk_X7_71 ⟨rfl, rfl⟩ hd_X4_becomeFirst ⟨Nat.le_of_ble_eq_true rfl, Nat.le_of_ble_eq_true rfl⟩ ⟨Nat.le_of_ble_eq_true rfl, Nat.le_of_ble_eq_true rfl⟩ rfl rfl (Nat.le_of_ble_eq_true rfl) dX7_init_202 (fun _ q197 _ => ?_)
      refine z_aload_n X (q := 1) dX7_init_205 rfl rfl ?_
      refine z_callV X hK (As := []) (ci := 7) rfl (by decide) (fun o => (kX7_fillFewSets l Z  b (some 0) o _)) hk_X7_74 ⟨rfl, rfl⟩ hd_X7_fillFewSets ⟨Nat.le_of_ble_eq_true rfl, Nat.le_of_ble_eq_true rfl⟩ ⟨Nat.le_of_ble_eq_true rfl, Nat.le_of_ble_eq_true rfl⟩ rfl rfl (Nat.le_of_ble_eq_true rfl) dX7_init_206 (fun _ q198 _ => ?_)
      subst hQ; exact z_vret X hlocks hr dX7_init_209
  have Cc163_4 : ∀ (y1 : Int32) (st : zS), zs p l e rmX7_init s m args below meth c Q Z spX b (some 0) (fun q => b ≤ q) 2 (58) (2644) res (fX7_init_c163_4 this y1 st) 163 [(0, vP (some this)), (1, vI y1)] [] st := by
    intro y1 st
    rw [fX7_init_c163_4]
    refine z_iload_n X (q := 1) dX7_init_163 rfl rfl ?_
    refine z_aload_n X (q := 0) dX7_init_164 rfl rfl ?_
    refine z_getr X hK (N := 14) (ci := 7) (k := 5) rfl (by decide) inlX7 (by decide) hf_X7_33 rfl spX_X7 rfl dX7_init_165 (fun o192 _ => ?_)
    refine z_alen X hK dX7_init_168 spX_14 (fun o193 _ => ?_)
    refine z_icmp_ge X (tgt := 191) dX7_init_169 (by decide) (fun _ => ?_) (fun _ => z_none)
    exact z_sub [0] (Cc191_e  _) rfl
  have Cc163_3 : ∀ (y1 : Int32) (st : zS), zs p l e rmX7_init s m args below meth c Q Z spX b (some 0) (fun q => b ≤ q) 2 (56) (2601) res (fX7_init_c163_3 this y1 st) 163 [(0, vP (some this)), (1, vI y1)] [] st := by
    intro y1 st
    rw [fX7_init_c163_3]
    refine z_iload_n X (q := 1) dX7_init_163 rfl rfl ?_
    refine z_aload_n X (q := 0) dX7_init_164 rfl rfl ?_
    refine z_getr X hK (N := 14) (ci := 7) (k := 5) rfl (by decide) inlX7 (by decide) hf_X7_33 rfl spX_X7 rfl dX7_init_165 (fun o182 _ => ?_)
    refine z_alen X hK dX7_init_168 spX_14 (fun o183 _ => ?_)
    refine z_icmp_ge X (tgt := 191) dX7_init_169 (by decide) (fun _ => z_none) (fun _ => ?_)
    refine z_aload_n X (q := 0) dX7_init_172 rfl rfl ?_
    refine z_getr X hK (N := 14) (ci := 7) (k := 5) rfl (by decide) inlX7 (by decide) hf_X7_33 rfl spX_X7 rfl dX7_init_173 (fun o184 _ => ?_)
    refine z_iload_n X (q := 1) dX7_init_176 rfl rfl ?_
    refine z_new X hK (N := 3) (ci := 3) rfl (by decide) inlX3 tyX3 tyX3_ok (fun j hj => by rcases (show j = 0 ∨ j = 1 ∨ j = 2 by omega) with rfl | rfl | rfl <;> rfl) hn_X7_31 (Nat.le_of_ble_eq_true rfl) (Nat.le_of_ble_eq_true rfl) dX7_init_177 (fun st185 => ?_)
    refine z_dup X dX7_init_180 rfl ?_
    refine z_callIN X hK hAO (ci := 3) (As := []) (fun o => kX3_init l Z b o _) (by decide +kernel) hki_X7_66 rfl ⟨rfl, rfl⟩ hd_X3_init.2 ⟨Nat.le_of_ble_eq_true rfl, Nat.le_of_ble_eq_true rfl⟩ ⟨Nat.le_of_ble_eq_true rfl, Nat.le_of_ble_eq_true rfl⟩ rfl rfl (Nat.le_of_ble_eq_true rfl) dX7_init_181 (fun _ q186 _ => ?_)
    refine z_aast12 X hK dX7_init_184 (fun o188 j189 o190 st191 => ?_)
    refine z_iinc X (q := 1) (y := y1 + (1 : Int32)) dX7_init_185 rfl rfl (Nat.le_of_ble_eq_true rfl) rfl ?_
    refine z_goto X (tgt := 163) dX7_init_188 (by decide) ?_
    exact z_sub [1, 0] (Cc163_4 _ _) rfl
  have Cc163_2 : ∀ (y1 : Int32) (st : zS), zs p l e rmX7_init s m args below meth c Q Z spX b (some 0) (fun q => b ≤ q) 2 (54) (2558) res (fX7_init_c163_2 this y1 st) 163 [(0, vP (some this)), (1, vI y1)] [] st := by
    intro y1 st
    rw [fX7_init_c163_2]
    refine z_iload_n X (q := 1) dX7_init_163 rfl rfl ?_
    refine z_aload_n X (q := 0) dX7_init_164 rfl rfl ?_
    refine z_getr X hK (N := 14) (ci := 7) (k := 5) rfl (by decide) inlX7 (by decide) hf_X7_33 rfl spX_X7 rfl dX7_init_165 (fun o172 _ => ?_)
    refine z_alen X hK dX7_init_168 spX_14 (fun o173 _ => ?_)
    refine z_icmp_ge X (tgt := 191) dX7_init_169 (by decide) (fun _ => z_none) (fun _ => ?_)
    refine z_aload_n X (q := 0) dX7_init_172 rfl rfl ?_
    refine z_getr X hK (N := 14) (ci := 7) (k := 5) rfl (by decide) inlX7 (by decide) hf_X7_33 rfl spX_X7 rfl dX7_init_173 (fun o174 _ => ?_)
    refine z_iload_n X (q := 1) dX7_init_176 rfl rfl ?_
    refine z_new X hK (N := 3) (ci := 3) rfl (by decide) inlX3 tyX3 tyX3_ok (fun j hj => by rcases (show j = 0 ∨ j = 1 ∨ j = 2 by omega) with rfl | rfl | rfl <;> rfl) hn_X7_31 (Nat.le_of_ble_eq_true rfl) (Nat.le_of_ble_eq_true rfl) dX7_init_177 (fun st175 => ?_)
    refine z_dup X dX7_init_180 rfl ?_
    refine z_callIN X hK hAO (ci := 3) (As := []) (fun o => kX3_init l Z b o _) (by decide +kernel) hki_X7_66 rfl ⟨rfl, rfl⟩ hd_X3_init.2 ⟨Nat.le_of_ble_eq_true rfl, Nat.le_of_ble_eq_true rfl⟩ ⟨Nat.le_of_ble_eq_true rfl, Nat.le_of_ble_eq_true rfl⟩ rfl rfl (Nat.le_of_ble_eq_true rfl) dX7_init_181 (fun _ q176 _ => ?_)
    refine z_aast12 X hK dX7_init_184 (fun o178 j179 o180 st181 => ?_)
    refine z_iinc X (q := 1) (y := y1 + (1 : Int32)) dX7_init_185 rfl rfl (Nat.le_of_ble_eq_true rfl) rfl ?_
    refine z_goto X (tgt := 163) dX7_init_188 (by decide) ?_
    exact z_sub [1, 0] (Cc163_3 _ _) rfl
  have Cc163_1 : ∀ (y1 : Int32) (st : zS), zs p l e rmX7_init s m args below meth c Q Z spX b (some 0) (fun q => b ≤ q) 2 (52) (2515) res (fX7_init_c163_1 this y1 st) 163 [(0, vP (some this)), (1, vI y1)] [] st := by
    intro y1 st
    rw [fX7_init_c163_1]
    refine z_iload_n X (q := 1) dX7_init_163 rfl rfl ?_
    refine z_aload_n X (q := 0) dX7_init_164 rfl rfl ?_
    refine z_getr X hK (N := 14) (ci := 7) (k := 5) rfl (by decide) inlX7 (by decide) hf_X7_33 rfl spX_X7 rfl dX7_init_165 (fun o162 _ => ?_)
    refine z_alen X hK dX7_init_168 spX_14 (fun o163 _ => ?_)
    refine z_icmp_ge X (tgt := 191) dX7_init_169 (by decide) (fun _ => z_none) (fun _ => ?_)
    refine z_aload_n X (q := 0) dX7_init_172 rfl rfl ?_
    refine z_getr X hK (N := 14) (ci := 7) (k := 5) rfl (by decide) inlX7 (by decide) hf_X7_33 rfl spX_X7 rfl dX7_init_173 (fun o164 _ => ?_)
    refine z_iload_n X (q := 1) dX7_init_176 rfl rfl ?_
    refine z_new X hK (N := 3) (ci := 3) rfl (by decide) inlX3 tyX3 tyX3_ok (fun j hj => by rcases (show j = 0 ∨ j = 1 ∨ j = 2 by omega) with rfl | rfl | rfl <;> rfl) hn_X7_31 (Nat.le_of_ble_eq_true rfl) (Nat.le_of_ble_eq_true rfl) dX7_init_177 (fun st165 => ?_)
    refine z_dup X dX7_init_180 rfl ?_
    refine z_callIN X hK hAO (ci := 3) (As := []) (fun o => kX3_init l Z b o _) (by decide +kernel) hki_X7_66 rfl ⟨rfl, rfl⟩ hd_X3_init.2 ⟨Nat.le_of_ble_eq_true rfl, Nat.le_of_ble_eq_true rfl⟩ ⟨Nat.le_of_ble_eq_true rfl, Nat.le_of_ble_eq_true rfl⟩ rfl rfl (Nat.le_of_ble_eq_true rfl) dX7_init_181 (fun _ q166 _ => ?_)
    refine z_aast12 X hK dX7_init_184 (fun o168 j169 o170 st171 => ?_)
    refine z_iinc X (q := 1) (y := y1 + (1 : Int32)) dX7_init_185 rfl rfl (Nat.le_of_ble_eq_true rfl) rfl ?_
    refine z_goto X (tgt := 163) dX7_init_188 (by decide) ?_
    exact z_sub [1, 0] (Cc163_2 _ _) rfl
  have Cc163_0 : ∀ (y1 : Int32) (st : zS), zs p l e rmX7_init s m args below meth c Q Z spX b (some 0) (fun q => b ≤ q) 2 (50) (2472) res (fX7_init_c163_0 this y1 st) 163 [(0, vP (some this)), (1, vI y1)] [] st := by
    intro y1 st
    rw [fX7_init_c163_0]
    refine z_iload_n X (q := 1) dX7_init_163 rfl rfl ?_
    refine z_aload_n X (q := 0) dX7_init_164 rfl rfl ?_
    refine z_getr X hK (N := 14) (ci := 7) (k := 5) rfl (by decide) inlX7 (by decide) hf_X7_33 rfl spX_X7 rfl dX7_init_165 (fun o152 _ => ?_)
    refine z_alen X hK dX7_init_168 spX_14 (fun o153 _ => ?_)
    refine z_icmp_ge X (tgt := 191) dX7_init_169 (by decide) (fun _ => z_none) (fun _ => ?_)
    refine z_aload_n X (q := 0) dX7_init_172 rfl rfl ?_
    refine z_getr X hK (N := 14) (ci := 7) (k := 5) rfl (by decide) inlX7 (by decide) hf_X7_33 rfl spX_X7 rfl dX7_init_173 (fun o154 _ => ?_)
    refine z_iload_n X (q := 1) dX7_init_176 rfl rfl ?_
    refine z_new X hK (N := 3) (ci := 3) rfl (by decide) inlX3 tyX3 tyX3_ok (fun j hj => by rcases (show j = 0 ∨ j = 1 ∨ j = 2 by omega) with rfl | rfl | rfl <;> rfl) hn_X7_31 (Nat.le_of_ble_eq_true rfl) (Nat.le_of_ble_eq_true rfl) dX7_init_177 (fun st155 => ?_)
    refine z_dup X dX7_init_180 rfl ?_
    refine z_callIN X hK hAO (ci := 3) (As := []) (fun o => kX3_init l Z b o _) (by decide +kernel) hki_X7_66 rfl ⟨rfl, rfl⟩ hd_X3_init.2 ⟨Nat.le_of_ble_eq_true rfl, Nat.le_of_ble_eq_true rfl⟩ ⟨Nat.le_of_ble_eq_true rfl, Nat.le_of_ble_eq_true rfl⟩ rfl rfl (Nat.le_of_ble_eq_true rfl) dX7_init_181 (fun _ q156 _ => ?_)
    refine z_aast12 X hK dX7_init_184 (fun o158 j159 o160 st161 => ?_)
    refine z_iinc X (q := 1) (y := y1 + (1 : Int32)) dX7_init_185 rfl rfl (Nat.le_of_ble_eq_true rfl) rfl ?_
    refine z_goto X (tgt := 163) dX7_init_188 (by decide) ?_
    exact z_sub [1, 0] (Cc163_1 _ _) rfl
  have Cc133_6 : ∀ (y1 : Int32) (st : zS), zs p l e rmX7_init s m args below meth c Q Z spX b (some 0) (fun q => b ≤ q) 2 (50) (2472) res (fX7_init_c133_6 this y1 st) 133 [(0, vP (some this)), (1, vI y1)] [] st := by
    intro y1 st
    rw [fX7_init_c133_6]
    refine z_iload_n X (q := 1) dX7_init_133 rfl rfl ?_
    refine z_aload_n X (q := 0) dX7_init_134 rfl rfl ?_
    refine z_getr X hK (N := 14) (ci := 7) (k := 4) rfl (by decide) inlX7 (by decide) hf_X7_27 rfl spX_X7 rfl dX7_init_135 (fun o150 _ => ?_)
    refine z_alen X hK dX7_init_138 spX_14 (fun o151 _ => ?_)
    refine z_icmp_ge X (tgt := 161) dX7_init_139 (by decide) (fun _ => ?_) (fun _ => z_none)
    refine z_iconst X (v := (0 : Int32)) dX7_init_161 (by decide) ?_
    refine z_istore_n X dX7_init_162 rfl (Nat.le_of_ble_eq_true rfl) rfl ?_
    exact z_sub [1, 0] (Cc163_0 _ _) rfl
  have Cc133_5 : ∀ (y1 : Int32) (st : zS), zs p l e rmX7_init s m args below meth c Q Z spX b (some 0) (fun q => b ≤ q) 2 (46) (2239) res (fX7_init_c133_5 this y1 st) 133 [(0, vP (some this)), (1, vI y1)] [] st := by
    intro y1 st
    rw [fX7_init_c133_5]
    refine z_iload_n X (q := 1) dX7_init_133 rfl rfl ?_
    refine z_aload_n X (q := 0) dX7_init_134 rfl rfl ?_
    refine z_getr X hK (N := 14) (ci := 7) (k := 4) rfl (by decide) inlX7 (by decide) hf_X7_27 rfl spX_X7 rfl dX7_init_135 (fun o140 _ => ?_)
    refine z_alen X hK dX7_init_138 spX_14 (fun o141 _ => ?_)
    refine z_icmp_ge X (tgt := 161) dX7_init_139 (by decide) (fun _ => z_none) (fun _ => ?_)
    refine z_aload_n X (q := 0) dX7_init_142 rfl rfl ?_
    refine z_getr X hK (N := 14) (ci := 7) (k := 4) rfl (by decide) inlX7 (by decide) hf_X7_27 rfl spX_X7 rfl dX7_init_143 (fun o142 _ => ?_)
    refine z_iload_n X (q := 1) dX7_init_146 rfl rfl ?_
    refine z_new X hK (N := 6) (ci := 4) rfl (by decide) inlX4 tyX4 tyX4_ok (fun j hj => by rcases (show j = 0 ∨ j = 1 ∨ j = 2 ∨ j = 3 ∨ j = 4 ∨ j = 5 by omega) with rfl | rfl | rfl | rfl | rfl | rfl <;> rfl) hn_X7_25 (Nat.le_of_ble_eq_true rfl) (Nat.le_of_ble_eq_true rfl) dX7_init_147 (fun st143 => ?_)
    refine z_dup X dX7_init_150 rfl ?_
    refine z_callIN X hK hAO (ci := 4) (As := []) (fun o => kX4_init l Z b o _) (by decide +kernel) hki_X7_65 rfl ⟨rfl, rfl⟩ hd_X4_init.2 ⟨Nat.le_of_ble_eq_true rfl, Nat.le_of_ble_eq_true rfl⟩ ⟨Nat.le_of_ble_eq_true rfl, Nat.le_of_ble_eq_true rfl⟩ rfl rfl (Nat.le_of_ble_eq_true rfl) dX7_init_151 (fun _ q144 _ => ?_)
    refine z_aast13 X hK dX7_init_154 (fun o146 j147 o148 st149 => ?_)
    refine z_iinc X (q := 1) (y := y1 + (1 : Int32)) dX7_init_155 rfl rfl (Nat.le_of_ble_eq_true rfl) rfl ?_
    refine z_goto X (tgt := 133) dX7_init_158 (by decide) ?_
    exact z_sub [1, 0] (Cc133_6 _ _) rfl
  have Cc133_4 : ∀ (y1 : Int32) (st : zS), zs p l e rmX7_init s m args below meth c Q Z spX b (some 0) (fun q => b ≤ q) 2 (42) (2006) res (fX7_init_c133_4 this y1 st) 133 [(0, vP (some this)), (1, vI y1)] [] st := by
    intro y1 st
    rw [fX7_init_c133_4]
    refine z_iload_n X (q := 1) dX7_init_133 rfl rfl ?_
    refine z_aload_n X (q := 0) dX7_init_134 rfl rfl ?_
    refine z_getr X hK (N := 14) (ci := 7) (k := 4) rfl (by decide) inlX7 (by decide) hf_X7_27 rfl spX_X7 rfl dX7_init_135 (fun o130 _ => ?_)
    refine z_alen X hK dX7_init_138 spX_14 (fun o131 _ => ?_)
    refine z_icmp_ge X (tgt := 161) dX7_init_139 (by decide) (fun _ => z_none) (fun _ => ?_)
    refine z_aload_n X (q := 0) dX7_init_142 rfl rfl ?_
    refine z_getr X hK (N := 14) (ci := 7) (k := 4) rfl (by decide) inlX7 (by decide) hf_X7_27 rfl spX_X7 rfl dX7_init_143 (fun o132 _ => ?_)
    refine z_iload_n X (q := 1) dX7_init_146 rfl rfl ?_
    refine z_new X hK (N := 6) (ci := 4) rfl (by decide) inlX4 tyX4 tyX4_ok (fun j hj => by rcases (show j = 0 ∨ j = 1 ∨ j = 2 ∨ j = 3 ∨ j = 4 ∨ j = 5 by omega) with rfl | rfl | rfl | rfl | rfl | rfl <;> rfl) hn_X7_25 (Nat.le_of_ble_eq_true rfl) (Nat.le_of_ble_eq_true rfl) dX7_init_147 (fun st133 => ?_)
    refine z_dup X dX7_init_150 rfl ?_
    refine z_callIN X hK hAO (ci := 4) (As := []) (fun o => kX4_init l Z b o _) (by decide +kernel) hki_X7_65 rfl ⟨rfl, rfl⟩ hd_X4_init.2 ⟨Nat.le_of_ble_eq_true rfl, Nat.le_of_ble_eq_true rfl⟩ ⟨Nat.le_of_ble_eq_true rfl, Nat.le_of_ble_eq_true rfl⟩ rfl rfl (Nat.le_of_ble_eq_true rfl) dX7_init_151 (fun _ q134 _ => ?_)
    refine z_aast13 X hK dX7_init_154 (fun o136 j137 o138 st139 => ?_)
    refine z_iinc X (q := 1) (y := y1 + (1 : Int32)) dX7_init_155 rfl rfl (Nat.le_of_ble_eq_true rfl) rfl ?_
    refine z_goto X (tgt := 133) dX7_init_158 (by decide) ?_
    exact z_sub [1, 0] (Cc133_5 _ _) rfl
  have Cc133_3 : ∀ (y1 : Int32) (st : zS), zs p l e rmX7_init s m args below meth c Q Z spX b (some 0) (fun q => b ≤ q) 2 (38) (1773) res (fX7_init_c133_3 this y1 st) 133 [(0, vP (some this)), (1, vI y1)] [] st := by
    intro y1 st
    rw [fX7_init_c133_3]
    refine z_iload_n X (q := 1) dX7_init_133 rfl rfl ?_
    refine z_aload_n X (q := 0) dX7_init_134 rfl rfl ?_
    refine z_getr X hK (N := 14) (ci := 7) (k := 4) rfl (by decide) inlX7 (by decide) hf_X7_27 rfl spX_X7 rfl dX7_init_135 (fun o120 _ => ?_)
    refine z_alen X hK dX7_init_138 spX_14 (fun o121 _ => ?_)
    refine z_icmp_ge X (tgt := 161) dX7_init_139 (by decide) (fun _ => z_none) (fun _ => ?_)
    refine z_aload_n X (q := 0) dX7_init_142 rfl rfl ?_
    refine z_getr X hK (N := 14) (ci := 7) (k := 4) rfl (by decide) inlX7 (by decide) hf_X7_27 rfl spX_X7 rfl dX7_init_143 (fun o122 _ => ?_)
    refine z_iload_n X (q := 1) dX7_init_146 rfl rfl ?_
    refine z_new X hK (N := 6) (ci := 4) rfl (by decide) inlX4 tyX4 tyX4_ok (fun j hj => by rcases (show j = 0 ∨ j = 1 ∨ j = 2 ∨ j = 3 ∨ j = 4 ∨ j = 5 by omega) with rfl | rfl | rfl | rfl | rfl | rfl <;> rfl) hn_X7_25 (Nat.le_of_ble_eq_true rfl) (Nat.le_of_ble_eq_true rfl) dX7_init_147 (fun st123 => ?_)
    refine z_dup X dX7_init_150 rfl ?_
    refine z_callIN X hK hAO (ci := 4) (As := []) (fun o => kX4_init l Z b o _) (by decide +kernel) hki_X7_65 rfl ⟨rfl, rfl⟩ hd_X4_init.2 ⟨Nat.le_of_ble_eq_true rfl, Nat.le_of_ble_eq_true rfl⟩ ⟨Nat.le_of_ble_eq_true rfl, Nat.le_of_ble_eq_true rfl⟩ rfl rfl (Nat.le_of_ble_eq_true rfl) dX7_init_151 (fun _ q124 _ => ?_)
    refine z_aast13 X hK dX7_init_154 (fun o126 j127 o128 st129 => ?_)
    refine z_iinc X (q := 1) (y := y1 + (1 : Int32)) dX7_init_155 rfl rfl (Nat.le_of_ble_eq_true rfl) rfl ?_
    refine z_goto X (tgt := 133) dX7_init_158 (by decide) ?_
    exact z_sub [1, 0] (Cc133_4 _ _) rfl
  have Cc133_2 : ∀ (y1 : Int32) (st : zS), zs p l e rmX7_init s m args below meth c Q Z spX b (some 0) (fun q => b ≤ q) 2 (34) (1540) res (fX7_init_c133_2 this y1 st) 133 [(0, vP (some this)), (1, vI y1)] [] st := by
    intro y1 st
    rw [fX7_init_c133_2]
    refine z_iload_n X (q := 1) dX7_init_133 rfl rfl ?_
    refine z_aload_n X (q := 0) dX7_init_134 rfl rfl ?_
    refine z_getr X hK (N := 14) (ci := 7) (k := 4) rfl (by decide) inlX7 (by decide) hf_X7_27 rfl spX_X7 rfl dX7_init_135 (fun o110 _ => ?_)
    refine z_alen X hK dX7_init_138 spX_14 (fun o111 _ => ?_)
    refine z_icmp_ge X (tgt := 161) dX7_init_139 (by decide) (fun _ => z_none) (fun _ => ?_)
    refine z_aload_n X (q := 0) dX7_init_142 rfl rfl ?_
    refine z_getr X hK (N := 14) (ci := 7) (k := 4) rfl (by decide) inlX7 (by decide) hf_X7_27 rfl spX_X7 rfl dX7_init_143 (fun o112 _ => ?_)
    refine z_iload_n X (q := 1) dX7_init_146 rfl rfl ?_
    refine z_new X hK (N := 6) (ci := 4) rfl (by decide) inlX4 tyX4 tyX4_ok (fun j hj => by rcases (show j = 0 ∨ j = 1 ∨ j = 2 ∨ j = 3 ∨ j = 4 ∨ j = 5 by omega) with rfl | rfl | rfl | rfl | rfl | rfl <;> rfl) hn_X7_25 (Nat.le_of_ble_eq_true rfl) (Nat.le_of_ble_eq_true rfl) dX7_init_147 (fun st113 => ?_)
    refine z_dup X dX7_init_150 rfl ?_
    refine z_callIN X hK hAO (ci := 4) (As := []) (fun o => kX4_init l Z b o _) (by decide +kernel) hki_X7_65 rfl ⟨rfl, rfl⟩ hd_X4_init.2 ⟨Nat.le_of_ble_eq_true rfl, Nat.le_of_ble_eq_true rfl⟩ ⟨Nat.le_of_ble_eq_true rfl, Nat.le_of_ble_eq_true rfl⟩ rfl rfl (Nat.le_of_ble_eq_true rfl) dX7_init_151 (fun _ q114 _ => ?_)
    refine z_aast13 X hK dX7_init_154 (fun o116 j117 o118 st119 => ?_)
    refine z_iinc X (q := 1) (y := y1 + (1 : Int32)) dX7_init_155 rfl rfl (Nat.le_of_ble_eq_true rfl) rfl ?_
    refine z_goto X (tgt := 133) dX7_init_158 (by decide) ?_
    exact z_sub [1, 0] (Cc133_3 _ _) rfl
  have Cc133_1 : ∀ (y1 : Int32) (st : zS), zs p l e rmX7_init s m args below meth c Q Z spX b (some 0) (fun q => b ≤ q) 2 (30) (1307) res (fX7_init_c133_1 this y1 st) 133 [(0, vP (some this)), (1, vI y1)] [] st := by
    intro y1 st
    rw [fX7_init_c133_1]
    refine z_iload_n X (q := 1) dX7_init_133 rfl rfl ?_
    refine z_aload_n X (q := 0) dX7_init_134 rfl rfl ?_
    refine z_getr X hK (N := 14) (ci := 7) (k := 4) rfl (by decide) inlX7 (by decide) hf_X7_27 rfl spX_X7 rfl dX7_init_135 (fun o100 _ => ?_)
    refine z_alen X hK dX7_init_138 spX_14 (fun o101 _ => ?_)
    refine z_icmp_ge X (tgt := 161) dX7_init_139 (by decide) (fun _ => z_none) (fun _ => ?_)
    refine z_aload_n X (q := 0) dX7_init_142 rfl rfl ?_
    refine z_getr X hK (N := 14) (ci := 7) (k := 4) rfl (by decide) inlX7 (by decide) hf_X7_27 rfl spX_X7 rfl dX7_init_143 (fun o102 _ => ?_)
    refine z_iload_n X (q := 1) dX7_init_146 rfl rfl ?_
    refine z_new X hK (N := 6) (ci := 4) rfl (by decide) inlX4 tyX4 tyX4_ok (fun j hj => by rcases (show j = 0 ∨ j = 1 ∨ j = 2 ∨ j = 3 ∨ j = 4 ∨ j = 5 by omega) with rfl | rfl | rfl | rfl | rfl | rfl <;> rfl) hn_X7_25 (Nat.le_of_ble_eq_true rfl) (Nat.le_of_ble_eq_true rfl) dX7_init_147 (fun st103 => ?_)
    refine z_dup X dX7_init_150 rfl ?_
    refine z_callIN X hK hAO (ci := 4) (As := []) (fun o => kX4_init l Z b o _) (by decide +kernel) hki_X7_65 rfl ⟨rfl, rfl⟩ hd_X4_init.2 ⟨Nat.le_of_ble_eq_true rfl, Nat.le_of_ble_eq_true rfl⟩ ⟨Nat.le_of_ble_eq_true rfl, Nat.le_of_ble_eq_true rfl⟩ rfl rfl (Nat.le_of_ble_eq_true rfl) dX7_init_151 (fun _ q104 _ => ?_)
    refine z_aast13 X hK dX7_init_154 (fun o106 j107 o108 st109 => ?_)
    refine z_iinc X (q := 1) (y := y1 + (1 : Int32)) dX7_init_155 rfl rfl (Nat.le_of_ble_eq_true rfl) rfl ?_
    refine z_goto X (tgt := 133) dX7_init_158 (by decide) ?_
    exact z_sub [1, 0] (Cc133_2 _ _) rfl
  have Cc133_0 : ∀ (y1 : Int32) (st : zS), zs p l e rmX7_init s m args below meth c Q Z spX b (some 0) (fun q => b ≤ q) 2 (26) (1074) res (fX7_init_c133_0 this y1 st) 133 [(0, vP (some this)), (1, vI y1)] [] st := by
    intro y1 st
    rw [fX7_init_c133_0]
    refine z_iload_n X (q := 1) dX7_init_133 rfl rfl ?_
    refine z_aload_n X (q := 0) dX7_init_134 rfl rfl ?_
    refine z_getr X hK (N := 14) (ci := 7) (k := 4) rfl (by decide) inlX7 (by decide) hf_X7_27 rfl spX_X7 rfl dX7_init_135 (fun o90 _ => ?_)
    refine z_alen X hK dX7_init_138 spX_14 (fun o91 _ => ?_)
    refine z_icmp_ge X (tgt := 161) dX7_init_139 (by decide) (fun _ => z_none) (fun _ => ?_)
    refine z_aload_n X (q := 0) dX7_init_142 rfl rfl ?_
    refine z_getr X hK (N := 14) (ci := 7) (k := 4) rfl (by decide) inlX7 (by decide) hf_X7_27 rfl spX_X7 rfl dX7_init_143 (fun o92 _ => ?_)
    refine z_iload_n X (q := 1) dX7_init_146 rfl rfl ?_
    refine z_new X hK (N := 6) (ci := 4) rfl (by decide) inlX4 tyX4 tyX4_ok (fun j hj => by rcases (show j = 0 ∨ j = 1 ∨ j = 2 ∨ j = 3 ∨ j = 4 ∨ j = 5 by omega) with rfl | rfl | rfl | rfl | rfl | rfl <;> rfl) hn_X7_25 (Nat.le_of_ble_eq_true rfl) (Nat.le_of_ble_eq_true rfl) dX7_init_147 (fun st93 => ?_)
    refine z_dup X dX7_init_150 rfl ?_
    refine z_callIN X hK hAO (ci := 4) (As := []) (fun o => kX4_init l Z b o _) (by decide +kernel) hki_X7_65 rfl ⟨rfl, rfl⟩ hd_X4_init.2 ⟨Nat.le_of_ble_eq_true rfl, Nat.le_of_ble_eq_true rfl⟩ ⟨Nat.le_of_ble_eq_true rfl, Nat.le_of_ble_eq_true rfl⟩ rfl rfl (Nat.le_of_ble_eq_true rfl) dX7_init_151 (fun _ q94 _ => ?_)
    refine z_aast13 X hK dX7_init_154 (fun o96 j97 o98 st99 => ?_)
    refine z_iinc X (q := 1) (y := y1 + (1 : Int32)) dX7_init_155 rfl rfl (Nat.le_of_ble_eq_true rfl) rfl ?_
    refine z_goto X (tgt := 133) dX7_init_158 (by decide) ?_
    exact z_sub [1, 0] (Cc133_1 _ _) rfl
  have Cc103_5 : ∀ (y1 : Int32) (st : zS), zs p l e rmX7_init s m args below meth c Q Z spX b (some 0) (fun q => b ≤ q) 2 (26) (1074) res (fX7_init_c103_5 this y1 st) 103 [(0, vP (some this)), (1, vI y1)] [] st := by
    intro y1 st
    rw [fX7_init_c103_5]
    refine z_iload_n X (q := 1) dX7_init_103 rfl rfl ?_
    refine z_aload_n X (q := 0) dX7_init_104 rfl rfl ?_
    refine z_getr X hK (N := 14) (ci := 7) (k := 3) rfl (by decide) inlX7 (by decide) hf_X7_21 rfl spX_X7 rfl dX7_init_105 (fun o88 _ => ?_)
    refine z_alen X hK dX7_init_108 spX_14 (fun o89 _ => ?_)
    refine z_icmp_ge X (tgt := 131) dX7_init_109 (by decide) (fun _ => ?_) (fun _ => z_none)
    refine z_iconst X (v := (0 : Int32)) dX7_init_131 (by decide) ?_
    refine z_istore_n X dX7_init_132 rfl (Nat.le_of_ble_eq_true rfl) rfl ?_
    exact z_sub [1, 0] (Cc133_0 _ _) rfl
  have Cc103_4 : ∀ (y1 : Int32) (st : zS), zs p l e rmX7_init s m args below meth c Q Z spX b (some 0) (fun q => b ≤ q) 2 (25) (1069) res (fX7_init_c103_4 this y1 st) 103 [(0, vP (some this)), (1, vI y1)] [] st := by
    intro y1 st
    rw [fX7_init_c103_4]
    refine z_iload_n X (q := 1) dX7_init_103 rfl rfl ?_
    refine z_aload_n X (q := 0) dX7_init_104 rfl rfl ?_
    refine z_getr X hK (N := 14) (ci := 7) (k := 3) rfl (by decide) inlX7 (by decide) hf_X7_21 rfl spX_X7 rfl dX7_init_105 (fun o78 _ => ?_)
    refine z_alen X hK dX7_init_108 spX_14 (fun o79 _ => ?_)
    refine z_icmp_ge X (tgt := 131) dX7_init_109 (by decide) (fun _ => z_none) (fun _ => ?_)
    refine z_aload_n X (q := 0) dX7_init_112 rfl rfl ?_
    refine z_getr X hK (N := 14) (ci := 7) (k := 3) rfl (by decide) inlX7 (by decide) hf_X7_21 rfl spX_X7 rfl dX7_init_113 (fun o80 _ => ?_)
    refine z_iload_n X (q := 1) dX7_init_116 rfl rfl ?_
    refine z_new X hK (N := 5) (ci := 0) rfl (by decide) inlX0 tyX0 tyX0_ok (fun j hj => by rcases (show j = 0 ∨ j = 1 ∨ j = 2 ∨ j = 3 ∨ j = 4 by omega) with rfl | rfl | rfl | rfl | rfl <;> rfl) hn_X7_19 (Nat.le_of_ble_eq_true rfl) (Nat.le_of_ble_eq_true rfl) dX7_init_117 (fun st81 => ?_)
    refine z_dup X dX7_init_120 rfl ?_
    refine z_callIN X hK hAO (ci := 0) (As := []) (fun o => kX0_init l Z b o _) (by decide +kernel) hki_X7_64 rfl ⟨rfl, rfl⟩ hd_X0_init.2 ⟨Nat.le_of_ble_eq_true rfl, Nat.le_of_ble_eq_true rfl⟩ ⟨Nat.le_of_ble_eq_true rfl, Nat.le_of_ble_eq_true rfl⟩ rfl rfl (Nat.le_of_ble_eq_true rfl) dX7_init_121 (fun _ q82 _ => ?_)
    refine z_aast11 X hK dX7_init_124 (fun o84 j85 o86 st87 => ?_)
    refine z_iinc X (q := 1) (y := y1 + (1 : Int32)) dX7_init_125 rfl rfl (Nat.le_of_ble_eq_true rfl) rfl ?_
    refine z_goto X (tgt := 103) dX7_init_128 (by decide) ?_
    exact z_sub [1, 0] (Cc103_5 _ _) rfl
  have Cc103_3 : ∀ (y1 : Int32) (st : zS), zs p l e rmX7_init s m args below meth c Q Z spX b (some 0) (fun q => b ≤ q) 2 (24) (1064) res (fX7_init_c103_3 this y1 st) 103 [(0, vP (some this)), (1, vI y1)] [] st := by
    intro y1 st
    rw [fX7_init_c103_3]
    refine z_iload_n X (q := 1) dX7_init_103 rfl rfl ?_
    refine z_aload_n X (q := 0) dX7_init_104 rfl rfl ?_
    refine z_getr X hK (N := 14) (ci := 7) (k := 3) rfl (by decide) inlX7 (by decide) hf_X7_21 rfl spX_X7 rfl dX7_init_105 (fun o68 _ => ?_)
    refine z_alen X hK dX7_init_108 spX_14 (fun o69 _ => ?_)
    refine z_icmp_ge X (tgt := 131) dX7_init_109 (by decide) (fun _ => z_none) (fun _ => ?_)
    refine z_aload_n X (q := 0) dX7_init_112 rfl rfl ?_
    refine z_getr X hK (N := 14) (ci := 7) (k := 3) rfl (by decide) inlX7 (by decide) hf_X7_21 rfl spX_X7 rfl dX7_init_113 (fun o70 _ => ?_)
    refine z_iload_n X (q := 1) dX7_init_116 rfl rfl ?_
    refine z_new X hK (N := 5) (ci := 0) rfl (by decide) inlX0 tyX0 tyX0_ok (fun j hj => by rcases (show j = 0 ∨ j = 1 ∨ j = 2 ∨ j = 3 ∨ j = 4 by omega) with rfl | rfl | rfl | rfl | rfl <;> rfl) hn_X7_19 (Nat.le_of_ble_eq_true rfl) (Nat.le_of_ble_eq_true rfl) dX7_init_117 (fun st71 => ?_)
    refine z_dup X dX7_init_120 rfl ?_
    refine z_callIN X hK hAO (ci := 0) (As := []) (fun o => kX0_init l Z b o _) (by decide +kernel) hki_X7_64 rfl ⟨rfl, rfl⟩ hd_X0_init.2 ⟨Nat.le_of_ble_eq_true rfl, Nat.le_of_ble_eq_true rfl⟩ ⟨Nat.le_of_ble_eq_true rfl, Nat.le_of_ble_eq_true rfl⟩ rfl rfl (Nat.le_of_ble_eq_true rfl) dX7_init_121 (fun _ q72 _ => ?_)
    refine z_aast11 X hK dX7_init_124 (fun o74 j75 o76 st77 => ?_)
    refine z_iinc X (q := 1) (y := y1 + (1 : Int32)) dX7_init_125 rfl rfl (Nat.le_of_ble_eq_true rfl) rfl ?_
    refine z_goto X (tgt := 103) dX7_init_128 (by decide) ?_
    exact z_sub [1, 0] (Cc103_4 _ _) rfl
  have Cc103_2 : ∀ (y1 : Int32) (st : zS), zs p l e rmX7_init s m args below meth c Q Z spX b (some 0) (fun q => b ≤ q) 2 (23) (1059) res (fX7_init_c103_2 this y1 st) 103 [(0, vP (some this)), (1, vI y1)] [] st := by
    intro y1 st
    rw [fX7_init_c103_2]
    refine z_iload_n X (q := 1) dX7_init_103 rfl rfl ?_
    refine z_aload_n X (q := 0) dX7_init_104 rfl rfl ?_
    refine z_getr X hK (N := 14) (ci := 7) (k := 3) rfl (by decide) inlX7 (by decide) hf_X7_21 rfl spX_X7 rfl dX7_init_105 (fun o58 _ => ?_)
    refine z_alen X hK dX7_init_108 spX_14 (fun o59 _ => ?_)
    refine z_icmp_ge X (tgt := 131) dX7_init_109 (by decide) (fun _ => z_none) (fun _ => ?_)
    refine z_aload_n X (q := 0) dX7_init_112 rfl rfl ?_
    refine z_getr X hK (N := 14) (ci := 7) (k := 3) rfl (by decide) inlX7 (by decide) hf_X7_21 rfl spX_X7 rfl dX7_init_113 (fun o60 _ => ?_)
    refine z_iload_n X (q := 1) dX7_init_116 rfl rfl ?_
    refine z_new X hK (N := 5) (ci := 0) rfl (by decide) inlX0 tyX0 tyX0_ok (fun j hj => by rcases (show j = 0 ∨ j = 1 ∨ j = 2 ∨ j = 3 ∨ j = 4 by omega) with rfl | rfl | rfl | rfl | rfl <;> rfl) hn_X7_19 (Nat.le_of_ble_eq_true rfl) (Nat.le_of_ble_eq_true rfl) dX7_init_117 (fun st61 => ?_)
    refine z_dup X dX7_init_120 rfl ?_
    refine z_callIN X hK hAO (ci := 0) (As := []) (fun o => kX0_init l Z b o _) (by decide +kernel) hki_X7_64 rfl ⟨rfl, rfl⟩ hd_X0_init.2 ⟨Nat.le_of_ble_eq_true rfl, Nat.le_of_ble_eq_true rfl⟩ ⟨Nat.le_of_ble_eq_true rfl, Nat.le_of_ble_eq_true rfl⟩ rfl rfl (Nat.le_of_ble_eq_true rfl) dX7_init_121 (fun _ q62 _ => ?_)
    refine z_aast11 X hK dX7_init_124 (fun o64 j65 o66 st67 => ?_)
    refine z_iinc X (q := 1) (y := y1 + (1 : Int32)) dX7_init_125 rfl rfl (Nat.le_of_ble_eq_true rfl) rfl ?_
    refine z_goto X (tgt := 103) dX7_init_128 (by decide) ?_
    exact z_sub [1, 0] (Cc103_3 _ _) rfl
  have Cc103_1 : ∀ (y1 : Int32) (st : zS), zs p l e rmX7_init s m args below meth c Q Z spX b (some 0) (fun q => b ≤ q) 2 (22) (1054) res (fX7_init_c103_1 this y1 st) 103 [(0, vP (some this)), (1, vI y1)] [] st := by
    intro y1 st
    rw [fX7_init_c103_1]
    refine z_iload_n X (q := 1) dX7_init_103 rfl rfl ?_
    refine z_aload_n X (q := 0) dX7_init_104 rfl rfl ?_
    refine z_getr X hK (N := 14) (ci := 7) (k := 3) rfl (by decide) inlX7 (by decide) hf_X7_21 rfl spX_X7 rfl dX7_init_105 (fun o48 _ => ?_)
    refine z_alen X hK dX7_init_108 spX_14 (fun o49 _ => ?_)
    refine z_icmp_ge X (tgt := 131) dX7_init_109 (by decide) (fun _ => z_none) (fun _ => ?_)
    refine z_aload_n X (q := 0) dX7_init_112 rfl rfl ?_
    refine z_getr X hK (N := 14) (ci := 7) (k := 3) rfl (by decide) inlX7 (by decide) hf_X7_21 rfl spX_X7 rfl dX7_init_113 (fun o50 _ => ?_)
    refine z_iload_n X (q := 1) dX7_init_116 rfl rfl ?_
    refine z_new X hK (N := 5) (ci := 0) rfl (by decide) inlX0 tyX0 tyX0_ok (fun j hj => by rcases (show j = 0 ∨ j = 1 ∨ j = 2 ∨ j = 3 ∨ j = 4 by omega) with rfl | rfl | rfl | rfl | rfl <;> rfl) hn_X7_19 (Nat.le_of_ble_eq_true rfl) (Nat.le_of_ble_eq_true rfl) dX7_init_117 (fun st51 => ?_)
    refine z_dup X dX7_init_120 rfl ?_
    refine z_callIN X hK hAO (ci := 0) (As := []) (fun o => kX0_init l Z b o _) (by decide +kernel) hki_X7_64 rfl ⟨rfl, rfl⟩ hd_X0_init.2 ⟨Nat.le_of_ble_eq_true rfl, Nat.le_of_ble_eq_true rfl⟩ ⟨Nat.le_of_ble_eq_true rfl, Nat.le_of_ble_eq_true rfl⟩ rfl rfl (Nat.le_of_ble_eq_true rfl) dX7_init_121 (fun _ q52 _ => ?_)
    refine z_aast11 X hK dX7_init_124 (fun o54 j55 o56 st57 => ?_)
    refine z_iinc X (q := 1) (y := y1 + (1 : Int32)) dX7_init_125 rfl rfl (Nat.le_of_ble_eq_true rfl) rfl ?_
    refine z_goto X (tgt := 103) dX7_init_128 (by decide) ?_
    exact z_sub [1, 0] (Cc103_2 _ _) rfl
  have Cc103_0 : ∀ (y1 : Int32) (st : zS), zs p l e rmX7_init s m args below meth c Q Z spX b (some 0) (fun q => b ≤ q) 2 (21) (1049) res (fX7_init_c103_0 this y1 st) 103 [(0, vP (some this)), (1, vI y1)] [] st := by
    intro y1 st
    rw [fX7_init_c103_0]
    refine z_iload_n X (q := 1) dX7_init_103 rfl rfl ?_
    refine z_aload_n X (q := 0) dX7_init_104 rfl rfl ?_
    refine z_getr X hK (N := 14) (ci := 7) (k := 3) rfl (by decide) inlX7 (by decide) hf_X7_21 rfl spX_X7 rfl dX7_init_105 (fun o38 _ => ?_)
    refine z_alen X hK dX7_init_108 spX_14 (fun o39 _ => ?_)
    refine z_icmp_ge X (tgt := 131) dX7_init_109 (by decide) (fun _ => z_none) (fun _ => ?_)
    refine z_aload_n X (q := 0) dX7_init_112 rfl rfl ?_
    refine z_getr X hK (N := 14) (ci := 7) (k := 3) rfl (by decide) inlX7 (by decide) hf_X7_21 rfl spX_X7 rfl dX7_init_113 (fun o40 _ => ?_)
    refine z_iload_n X (q := 1) dX7_init_116 rfl rfl ?_
    refine z_new X hK (N := 5) (ci := 0) rfl (by decide) inlX0 tyX0 tyX0_ok (fun j hj => by rcases (show j = 0 ∨ j = 1 ∨ j = 2 ∨ j = 3 ∨ j = 4 by omega) with rfl | rfl | rfl | rfl | rfl <;> rfl) hn_X7_19 (Nat.le_of_ble_eq_true rfl) (Nat.le_of_ble_eq_true rfl) dX7_init_117 (fun st41 => ?_)
    refine z_dup X dX7_init_120 rfl ?_
    refine z_callIN X hK hAO (ci := 0) (As := []) (fun o => kX0_init l Z b o _) (by decide +kernel) hki_X7_64 rfl ⟨rfl, rfl⟩ hd_X0_init.2 ⟨Nat.le_of_ble_eq_true rfl, Nat.le_of_ble_eq_true rfl⟩ ⟨Nat.le_of_ble_eq_true rfl, Nat.le_of_ble_eq_true rfl⟩ rfl rfl (Nat.le_of_ble_eq_true rfl) dX7_init_121 (fun _ q42 _ => ?_)
    refine z_aast11 X hK dX7_init_124 (fun o44 j45 o46 st47 => ?_)
    refine z_iinc X (q := 1) (y := y1 + (1 : Int32)) dX7_init_125 rfl rfl (Nat.le_of_ble_eq_true rfl) rfl ?_
    refine z_goto X (tgt := 103) dX7_init_128 (by decide) ?_
    exact z_sub [1, 0] (Cc103_1 _ _) rfl
  rw [fX7_init]
  refine z_aload_n X (q := 0) dX7_init_0 rfl rfl ?_
  refine z_objinit X (o := this) ho_X7_1 ⟨Nat.le_of_ble_eq_true rfl, Nat.le_of_ble_eq_true rfl⟩ (Nat.le_of_ble_eq_true rfl) dX7_init_1 ?_
  refine z_aload_n X (q := 0) dX7_init_4 rfl rfl ?_
  refine z_bipush X (v := (12 : Int32)) dX7_init_5 (by decide) ?_
  refine z_newi X hK (N := 12) ha_int (by decide) (by decide) (by decide) (Nat.le_of_ble_eq_true rfl) (Nat.le_of_ble_eq_true rfl) dX7_init_7 (fun st1 => ?_)
  refine z_putFr X hK hinit (N := 14) (ci := 7) (k := 0) rfl (by decide) inlX7 tyX7 tyX7_ok nmX7 (by decide) hf_X7_9 rfl rfl rfl spX_X7 rfl (ty := tyX7 0) (by decide +kernel) (fun r => by cases r <;> exact ⟨rfl, rfl⟩) dX7_init_9 (fun o2 st3 _ => ?_)
  refine z_aload_n X (q := 0) dX7_init_12 rfl rfl ?_
  refine z_sipush X (v := (298 : Int32)) dX7_init_13 (by decide) ?_
  refine z_newi X hK (N := 298) ha_int (by decide) (by decide) (by decide) (Nat.le_of_ble_eq_true rfl) (Nat.le_of_ble_eq_true rfl) dX7_init_16 (fun st4 => ?_)
  refine z_putFr X hK hinit (N := 14) (ci := 7) (k := 1) rfl (by decide) inlX7 tyX7 tyX7_ok nmX7 (by decide) hf_X7_13 rfl rfl rfl spX_X7 rfl (ty := tyX7 1) (by decide +kernel) (fun r => by cases r <;> exact ⟨rfl, rfl⟩) dX7_init_18 (fun o5 st6 _ => ?_)
  refine z_aload_n X (q := 0) dX7_init_21 rfl rfl ?_
  refine z_sipush X (v := (160 : Int32)) dX7_init_22 (by decide) ?_
  refine z_newi X hK (N := 160) ha_int (by decide) (by decide) (by decide) (Nat.le_of_ble_eq_true rfl) (Nat.le_of_ble_eq_true rfl) dX7_init_25 (fun st7 => ?_)
  refine z_putFr X hK hinit (N := 14) (ci := 7) (k := 2) rfl (by decide) inlX7 tyX7 tyX7_ok nmX7 (by decide) hf_X7_16 rfl rfl rfl spX_X7 rfl (ty := tyX7 2) (by decide +kernel) (fun r => by cases r <;> exact ⟨rfl, rfl⟩) dX7_init_27 (fun o8 st9 _ => ?_)
  refine z_aload_n X (q := 0) dX7_init_30 rfl rfl ?_
  refine z_iconst X (v := (5 : Int32)) dX7_init_31 (by decide) ?_
  refine z_newq11 X hK hAO (N := 5) hq_X7_19 (by decide) (by decide) (by decide) (Nat.le_of_ble_eq_true rfl) (Nat.le_of_ble_eq_true rfl) dX7_init_32 (fun st10 => ?_)
  refine z_putFr X hK hinit (N := 14) (ci := 7) (k := 3) rfl (by decide) inlX7 tyX7 tyX7_ok nmX7 (by decide) hf_X7_21 rfl rfl rfl spX_X7 rfl (ty := tyX7 3) (by decide +kernel) (fun r => by cases r <;> exact ⟨rfl, rfl⟩) dX7_init_35 (fun o11 st12 _ => ?_)
  refine z_aload_n X (q := 0) dX7_init_38 rfl rfl ?_
  refine z_bipush X (v := (6 : Int32)) dX7_init_39 (by decide) ?_
  refine z_newq13 X hK hAO (N := 6) hq_X7_25 (by decide) (by decide) (by decide) (Nat.le_of_ble_eq_true rfl) (Nat.le_of_ble_eq_true rfl) dX7_init_41 (fun st13 => ?_)
  refine z_putFr X hK hinit (N := 14) (ci := 7) (k := 4) rfl (by decide) inlX7 tyX7 tyX7_ok nmX7 (by decide) hf_X7_27 rfl rfl rfl spX_X7 rfl (ty := tyX7 4) (by decide +kernel) (fun r => by cases r <;> exact ⟨rfl, rfl⟩) dX7_init_44 (fun o14 st15 _ => ?_)
  refine z_aload_n X (q := 0) dX7_init_47 rfl rfl ?_
  refine z_iconst X (v := (4 : Int32)) dX7_init_48 (by decide) ?_
  refine z_newq12 X hK hAO (N := 4) hq_X7_31 (by decide) (by decide) (by decide) (Nat.le_of_ble_eq_true rfl) (Nat.le_of_ble_eq_true rfl) dX7_init_49 (fun st16 => ?_)
  refine z_putFr X hK hinit (N := 14) (ci := 7) (k := 5) rfl (by decide) inlX7 tyX7 tyX7_ok nmX7 (by decide) hf_X7_33 rfl rfl rfl spX_X7 rfl (ty := tyX7 5) (by decide +kernel) (fun r => by cases r <;> exact ⟨rfl, rfl⟩) dX7_init_52 (fun o17 st18 _ => ?_)
  refine z_aload_n X (q := 0) dX7_init_55 rfl rfl ?_
  refine z_new X hK (N := 15) (ci := 6) rfl (by decide) inlX6 tyX6 tyX6_ok (fun j hj => by rcases (show j = 0 ∨ j = 1 ∨ j = 2 ∨ j = 3 ∨ j = 4 ∨ j = 5 ∨ j = 6 ∨ j = 7 ∨ j = 8 ∨ j = 9 ∨ j = 10 ∨ j = 11 ∨ j = 12 ∨ j = 13 ∨ j = 14 by omega) with rfl | rfl | rfl | rfl | rfl | rfl | rfl | rfl | rfl | rfl | rfl | rfl | rfl | rfl | rfl <;> rfl) hn_X7_37 (Nat.le_of_ble_eq_true rfl) (Nat.le_of_ble_eq_true rfl) dX7_init_56 (fun st19 => ?_)
  refine z_dup X dX7_init_59 rfl ?_
  refine z_aload_n X (q := 0) dX7_init_60 rfl rfl ?_
  refine z_getr X hK (N := 14) (ci := 7) (k := 0) rfl (by decide) inlX7 (by decide) hf_X7_9 rfl spX_X7 rfl dX7_init_61 (fun o20 _ => ?_)
  refine z_callI X hK hAO (ci := 6) (As := [vP (st19.2.2.2 o20 0)]) (fun o => kX6_init l Z b o _ _) hki_X7_39 rfl ⟨rfl, rfl⟩ hd_X6_init.2 ⟨Nat.le_of_ble_eq_true rfl, Nat.le_of_ble_eq_true rfl⟩ ⟨Nat.le_of_ble_eq_true rfl, Nat.le_of_ble_eq_true rfl⟩ rfl rfl (Nat.le_of_ble_eq_true rfl) dX7_init_64 (fun _ q21 _ => ?_)
  refine z_putFr X hK hinit (N := 14) (ci := 7) (k := 6) rfl (by decide) inlX7 tyX7 tyX7_ok nmX7 (by decide) hf_X7_42 rfl rfl rfl spX_X7 rfl (ty := tyX7 6) (by decide +kernel) (fun r => by cases r <;> exact ⟨rfl, rfl⟩) dX7_init_67 (fun o23 st24 _ => ?_)
  refine z_aload_n X (q := 0) dX7_init_70 rfl rfl ?_
  refine z_new X hK (N := 5) (ci := 2) rfl (by decide) inlX2 tyX2 tyX2_ok (fun j hj => by rcases (show j = 0 ∨ j = 1 ∨ j = 2 ∨ j = 3 ∨ j = 4 by omega) with rfl | rfl | rfl | rfl | rfl <;> rfl) hn_X7_46 (Nat.le_of_ble_eq_true rfl) (Nat.le_of_ble_eq_true rfl) dX7_init_71 (fun st25 => ?_)
  refine z_dup X dX7_init_74 rfl ?_
  refine z_aload_n X (q := 0) dX7_init_75 rfl rfl ?_
  refine z_getr X hK (N := 14) (ci := 7) (k := 2) rfl (by decide) inlX7 (by decide) hf_X7_16 rfl spX_X7 rfl dX7_init_76 (fun o26 _ => ?_)
  refine z_callI X hK hAO (ci := 2) (As := [vP (st25.2.2.2 o26 2)]) (fun o => kX2_init l Z b o _ _) hki_X7_48 rfl ⟨rfl, rfl⟩ hd_X2_init.2 ⟨Nat.le_of_ble_eq_true rfl, Nat.le_of_ble_eq_true rfl⟩ ⟨Nat.le_of_ble_eq_true rfl, Nat.le_of_ble_eq_true rfl⟩ rfl rfl (Nat.le_of_ble_eq_true rfl) dX7_init_79 (fun _ q27 _ => ?_)
  refine z_putFr X hK hinit (N := 14) (ci := 7) (k := 7) rfl (by decide) inlX7 tyX7 tyX7_ok nmX7 (by decide) hf_X7_49 rfl rfl rfl spX_X7 rfl (ty := tyX7 7) (by decide +kernel) (fun r => by cases r <;> exact ⟨rfl, rfl⟩) dX7_init_82 (fun o29 st30 _ => ?_)
  refine z_aload_n X (q := 0) dX7_init_85 rfl rfl ?_
  refine z_new X hK (N := 5) (ci := 1) rfl (by decide) inlX1 tyX1 tyX1_ok (fun j hj => by rcases (show j = 0 ∨ j = 1 ∨ j = 2 ∨ j = 3 ∨ j = 4 by omega) with rfl | rfl | rfl | rfl | rfl <;> rfl) hn_X7_53 (Nat.le_of_ble_eq_true rfl) (Nat.le_of_ble_eq_true rfl) dX7_init_86 (fun st31 => ?_)
  refine z_dup X dX7_init_89 rfl ?_
  refine z_callI X hK hAO (ci := 1) (As := []) (fun o => kX1_init l Z b o _) hki_X7_55 rfl ⟨rfl, rfl⟩ hd_X1_init.2 ⟨Nat.le_of_ble_eq_true rfl, Nat.le_of_ble_eq_true rfl⟩ ⟨Nat.le_of_ble_eq_true rfl, Nat.le_of_ble_eq_true rfl⟩ rfl rfl (Nat.le_of_ble_eq_true rfl) dX7_init_90 (fun _ q32 _ => ?_)
  refine z_putFr X hK hinit (N := 14) (ci := 7) (k := 8) rfl (by decide) inlX7 tyX7 tyX7_ok nmX7 (by decide) hf_X7_56 rfl rfl rfl spX_X7 rfl (ty := tyX7 8) (by decide +kernel) (fun r => by cases r <;> exact ⟨rfl, rfl⟩) dX7_init_93 (fun o34 st35 _ => ?_)
  refine z_aload_n X (q := 0) dX7_init_96 rfl rfl ?_
  refine z_iconst X (v := (1 : Int32)) dX7_init_97 (by decide) ?_
  refine z_puti X hK (N := 14) (ci := 7) (k := 11) rfl (by decide) inlX7 tyX7 tyX7_ok nmX7 (by decide) hf_X7_60 rfl rfl spX_X7 rfl (by decide +kernel) dX7_init_98 (fun o36 st37 _ => ?_)
  refine z_iconst X (v := (0 : Int32)) dX7_init_101 (by decide) ?_
  refine z_istore_n X dX7_init_102 rfl (Nat.le_of_ble_eq_true rfl) rfl ?_
  exact z_sub [1, 0] (Cc103_0 _ _) rfl
theorem zw_951 : Cond.methodLink RX8 67 yX8_spell ∈ wsL_law := zr_6 _ (by decide +kernel)
theorem zw_952 : Cond.instanceMethod yX8_spell ∈ wsL_law := zr_7 _ (by decide +kernel)
theorem zw_953 : Cond.selects RX8 yX8_spell yX8_spell ∈ wsL_law := zr_7 _ (by decide +kernel)
theorem zw_954 : Cond.code yX8_spell cX8_spell 10 none ∈ wsL_law := zr_7 _ (by decide +kernel)
theorem hk_X8_67 : ∀ w ∈ ([Cond.methodLink RX8 67 yX8_spell, Cond.instanceMethod yX8_spell, Cond.selects RX8 yX8_spell yX8_spell, Cond.initialized RX8, Cond.code yX8_spell cX8_spell 10 none] : List Cond), w ∈ wsL_law := List.forall_mem_cons.mpr ⟨zw_951, List.forall_mem_cons.mpr ⟨zw_952, List.forall_mem_cons.mpr ⟨zw_953, List.forall_mem_cons.mpr ⟨zw_525, List.forall_mem_cons.mpr ⟨zw_954, fun _ h => absurd h List.not_mem_nil⟩⟩⟩⟩⟩
theorem hd_X8_spell : yX8_spell.cls = RX8 ∧ yX8_spell.cls ≠ "java/lang/invoke/MethodHandle" ∧ yX8_spell.cls ≠ "java/lang/invoke/VarHandle" ∧ (parseMethodDescriptor yX8_spell.desc).map (fun d => d.parameters.length) = some 9 := by decide +kernel
theorem zw_955 : Cond.arrayClass .boolean ∈ wsL_law := zr_6 _ (by decide +kernel)
theorem ha_boolean : Cond.arrayClass .boolean ∈ wsL_law := zw_955
theorem zw_956 : Cond.methodLink RX8 7 objectInit ∈ wsL_law := zr_6 _ (by decide +kernel)
theorem ho_X8_7 : ∀ w ∈ ([Cond.methodLink RX8 7 objectInit, Cond.instanceMethod objectInit, Cond.code objectInit ⟨#[0xb1]⟩ 1 none] : List Cond), w ∈ wsL_law := List.forall_mem_cons.mpr ⟨zw_956, List.forall_mem_cons.mpr ⟨zw_900, List.forall_mem_cons.mpr ⟨zw_901, fun _ h => absurd h List.not_mem_nil⟩⟩⟩
abbrev rmX8_init : Room := { frames := 2, cells := 15, slots := 1697, locals := 69 }
def fX8_init_j165 (this : Nat) (k133 : Int32 → Int32 → zS → Option (Unit × zS)) (k140 : Int32 → Int32 → Int32 → zS → Option (Unit × zS)) (y1 : Int32) (y2 : Int32) (y3 : Int32) (st : zS) : Option (Unit × zS) :=
  k140 y1 y2 (y3 + (1 : Int32)) st
def fX8_init_L140 (this : Nat) (k133 : Int32 → Int32 → zS → Option (Unit × zS)) : Nat → Int32 → Int32 → Int32 → zS → Option (Unit × zS)
  | 0, _, _, _, _ => none
  | n + 1, y1, y2, y3, st => if (4095 : Int32) < y3 then (k133 y1 (y2 + (1 : Int32)) st) else ((fX8_bitsOf y3 st).bind fun q1 => if q1.1 = y2 then ((zok spM q1.2 (some this) 8).bind fun o2 => (zok spM q1.2 (q1.2.2.2.2 o2 12) 9).bind fun o3 => (zix spM o3 y1).bind fun j4 => zlet (zp q1.2 o3 j4 y3) fun st5 => fX8_init_j165 this k133 (fX8_init_L140 this k133 n) (y1 + (1 : Int32)) y2 y3 st5) else (fX8_init_j165 this k133 (fX8_init_L140 this k133 n) y1 y2 y3 q1.2))
def fX8_init_L133 (this : Nat) : Nat → Int32 → Int32 → zS → Option (Unit × zS)
  | 0, _, _, _ => none
  | n + 1, y1, y2, st => if (4 : Int32) ≤ y2 then ((zok spM st (some this) 8).bind fun o21 => (fX8_spell o21 (0 : Int32) (103 : Int32) (105 : Int32) (118 : Int32) (101 : Int32) (115 : Int32) (32 : Int32) (100 : Int32) (97 : Int32) st).bind fun q6 => (zok spM q6.2 (some this) 8).bind fun o20 => (fX8_spell o20 (8 : Int32) (121 : Int32) (32 : Int32) (59 : Int32) (32 : Int32) (103 : Int32) (108 : Int32) (97 : Int32) (100 : Int32) q6.2).bind fun q7 => (zok spM q7.2 (some this) 8).bind fun o19 => (fX8_spell o19 (16 : Int32) (115 : Int32) (32 : Int32) (116 : Int32) (104 : Int32) (105 : Int32) (110 : Int32) (103 : Int32) (32 : Int32) q7.2).bind fun q8 => (zok spM q8.2 (some this) 8).bind fun o18 => (fX8_spell o18 (24 : Int32) (59 : Int32) (32 : Int32) (99 : Int32) (111 : Int32) (115 : Int32) (116 : Int32) (115 : Int32) (32 : Int32) q8.2).bind fun q9 => (zok spM q9.2 (some this) 8).bind fun o17 => (fX8_spell o17 (32 : Int32) (119 : Int32) (111 : Int32) (114 : Int32) (100 : Int32) (115 : Int32) (32 : Int32) (59 : Int32) (32 : Int32) q9.2).bind fun q10 => (zok spM q10.2 (some this) 8).bind fun o11 => (zok spM q10.2 (q10.2.2.2.2 o11 2) 9).bind fun o12 => (zix spM o12 (0 : Int32)).bind fun j13 => zlet (zp q10.2 o12 j13 (40 : Int32)) fun st14 => (zok spM st14 (some this) 8).bind fun o15 => zlet (zp st14 o15 3 (1 : Int32)) fun st16 => some ((), st16)) else (fX8_init_L140 this (fX8_init_L133 this n) zF y1 y2 (1 : Int32) st)
set_option maxRecDepth 100000 in
def fX8_init (this : Nat) (st : zS) : Option (Unit × zS) :=
  if spM st.1 = (9, 960) then zlet (znew st) (fun st22 => (zok spM st22 (some this) 8).bind fun o23 => zlet (zpr st22 o23 1 (some st.1)) fun st24 => if spM st24.1 = (9, 6) then zlet (znew st24) (fun st25 => (zok spM st25 (some this) 8).bind fun o26 => zlet (zpr st25 o26 2 (some st24.1)) fun st27 => if spM st27.1 = (9, 160) then zlet (znew st27) (fun st28 => (zok spM st28 (some this) 8).bind fun o29 => zlet (zpr st28 o29 5 (some st27.1)) fun st30 => if spM st30.1 = (9, 12) then zlet (znew st30) (fun st31 => (zok spM st31 (some this) 8).bind fun o32 => zlet (zpr st31 o32 8 (some st30.1)) fun st33 => if spM st33.1 = (9, 5) then zlet (znew st33) (fun st34 => (zok spM st34 (some this) 8).bind fun o35 => zlet (zpr st34 o35 9 (some st33.1)) fun st36 => if spM st36.1 = (9, 20) then zlet (znew st36) (fun st37 => (zok spM st37 (some this) 8).bind fun o38 => zlet (zpr st37 o38 10 (some st36.1)) fun st39 => if spM st39.1 = (9, 298) then zlet (znew st39) (fun st40 => (zok spM st40 (some this) 8).bind fun o41 => zlet (zpr st40 o41 12 (some st39.1)) fun st42 => if spM st42.1 = (9, 20) then zlet (znew st42) (fun st43 => (zok spM st43 (some this) 8).bind fun o44 => zlet (zpr st43 o44 30 (some st42.1)) fun st45 => if spM st45.1 = (9, 12) then zlet (znew st45) (fun st46 => (zok spM st46 (some this) 8).bind fun o47 => zlet (zpr st46 o47 36 (some st45.1)) fun st48 => if spM st48.1 = (9, 12) then zlet (znew st48) (fun st49 => (zok spM st49 (some this) 8).bind fun o50 => zlet (zpr st49 o50 37 (some st48.1)) fun st51 => if spM st51.1 = (9, 20) then zlet (znew st51) (fun st52 => (zok spM st52 (some this) 8).bind fun o53 => zlet (zpr st52 o53 38 (some st51.1)) fun st54 => (zok spM st54 (some this) 8).bind fun o55 => zlet (zp st54 o55 39 (-1 : Int32)) fun st56 => if spM st56.1 = (10, 4) then zlet (znew st56) (fun st57 => (zok spM st57 (some this) 8).bind fun o58 => zlet (zpr st57 o58 42 (some st56.1)) fun st59 => if spM st59.1 = (9, 4) then zlet (znew st59) (fun st60 => (zok spM st60 (some this) 8).bind fun o61 => zlet (zpr st60 o61 43 (some st59.1)) fun st62 => if spM st62.1 = (9, 4) then zlet (znew st62) (fun st63 => (zok spM st63 (some this) 8).bind fun o64 => zlet (zpr st63 o64 44 (some st62.1)) fun st65 => if spM st65.1 = (9, 160) then zlet (znew st65) (fun st66 => (zok spM st66 (some this) 8).bind fun o67 => zlet (zpr st66 o67 45 (some st65.1)) fun st68 => fX8_init_L133 this zF (0 : Int32) (1 : Int32) st68) else none) else none) else none) else none) else none) else none) else none) else none) else none) else none) else none) else none) else none) else none) else none
set_option maxRecDepth 100000 in
set_option maxHeartbeats 40000000 in
theorem kX8_init (l : Launch) (Z : zZ) (b : Nat) (this : Nat) (st : zS) : zN l Z spM b yX8_init (.code yX8_init cX8_init 4 none) rmX8_init 15 1697 [vP (some this)] st (fX8_init this st) := by
  refine z_startN (own := RX8) rfl rfl (by decide +kernel) (Nat.le_of_ble_eq_true rfl) rfl (fun p e s m args below meth c res Q X hK hAO hinit hr hlocks hQ => ?_)
  have J133 : ∀ (n133 : Nat) (y1 : Int32) (y2 : Int32) (st : zS), zs p l e rmX8_init s m args below meth c Q Z spM b (some 0) (fun q => b ≤ q) 4 (15) (1697) res (fX8_init_L133 this n133 y1 y2 st) 133 [(0, vP (some this)), (1, vI y1), (2, vI y2)] [] st := by
    intro n133
    induction n133 with
    | zero => intros; exact z_none
    | succ n133 ih133 =>
      have J140 : ∀ (n140 : Nat) (y1 : Int32) (y2 : Int32) (y3 : Int32) (st : zS), zs p l e rmX8_init s m args below meth c Q Z spM b (some 0) (fun q => b ≤ q) 4 (15) (1697) res (fX8_init_L140 this (fX8_init_L133 this n133) n140 y1 y2 y3 st) 140 [(0, vP (some this)), (1, vI y1), (2, vI y2), (3, vI y3)] [] st := by
        intro n140
        induction n140 with
        | zero => intros; exact z_none
        | succ n140 ih140 =>
          have J165 : ∀ (y1 : Int32) (y2 : Int32) (y3 : Int32) (st : zS), zs p l e rmX8_init s m args below meth c Q Z spM b (some 0) (fun q => b ≤ q) 4 (15) (1697) res (fX8_init_j165 this (fX8_init_L133 this n133) (fX8_init_L140 this (fX8_init_L133 this n133) n140) y1 y2 y3 st) 165 [(0, vP (some this)), (1, vI y1), (2, vI y2), (3, vI y3)] [] st := by
            intro y1 y2 y3 st
            rw [fX8_init_j165]
            refine z_iinc X (q := 3) (y := y3 + (1 : Int32)) dX8_init_165 rfl rfl (Nat.le_of_ble_eq_true rfl) rfl ?_
            refine z_goto X (tgt := 140) dX8_init_168 (by decide) ?_
            exact z_sub [1, 2, 3, 0] (ih140 _ _ _ _) rfl
          intro y1 y2 y3 st
          rw [fX8_init_L140]
          refine z_iload_n X (q := 3) dX8_init_140 rfl rfl ?_
          refine z_sipush X (v := (4095 : Int32)) dX8_init_141 (by decide) ?_
          refine z_icmp_gt X (tgt := 171) dX8_init_144 (by decide) (fun _ => ?_) (fun _ => ?_)
          · refine z_iinc X (q := 2) (y := y2 + (1 : Int32)) dX8_init_171 rfl rfl (Nat.le_of_ble_eq_true rfl) rfl ?_
            refine z_goto X (tgt := 133) dX8_init_174 (by decide) ?_
            exact z_sub [1, 2, 0] (ih133 _ _ _) rfl
          · refine z_iload_n X (q := 3) dX8_init_147 rfl rfl ?_
            refine z_callS X hK (As := [vI y3]) (kX8_bitsOf l Z  b (some 0) _ _) hk_X8_63 ⟨rfl, rfl⟩ hd_X8_bitsOf.2 ⟨Nat.le_of_ble_eq_true rfl, Nat.le_of_ble_eq_true rfl⟩ ⟨Nat.le_of_ble_eq_true rfl, Nat.le_of_ble_eq_true rfl⟩ rfl rfl (Nat.le_of_ble_eq_true rfl) dX8_init_148 (fun q1 => ?_)
            refine z_iload_n X (q := 2) dX8_init_151 rfl rfl ?_
            refine z_icmp_ne X (tgt := 165) dX8_init_152 (by decide) (fun _ => ?_) (fun _ => ?_)
            · exact z_sub [0, 1, 2, 3] (J165 _ _ _ _) rfl
            · refine z_aload_n X (q := 0) dX8_init_155 rfl rfl ?_
              refine z_getr X hK (N := 46) (ci := 8) (k := 12) rfl (by decide) inlX8 (by decide) hf_X8_32 rfl spM_X8 rfl dX8_init_156 (fun o2 _ => ?_)
              refine z_iload_n X (q := 1) dX8_init_159 rfl rfl ?_
              refine z_iload_n X (q := 3) dX8_init_160 rfl rfl ?_
              refine z_iast X hK dX8_init_161 (fun o3 j4 st5 _ _ => ?_)
              refine z_iinc X (q := 1) (y := y1 + (1 : Int32)) dX8_init_162 rfl rfl (Nat.le_of_ble_eq_true rfl) rfl ?_
              exact z_sub [1, 0, 2, 3] (J165 _ _ _ _) rfl
      intro y1 y2 st
      rw [fX8_init_L133]
      refine z_iload_n X (q := 2) dX8_init_133 rfl rfl ?_
      refine z_iconst X (v := (4 : Int32)) dX8_init_134 (by decide) ?_
      refine z_icmp_ge X (tgt := 177) dX8_init_135 (by decide) (fun _ => ?_) (fun _ => ?_)
      · refine z_aload_n X (q := 0) dX8_init_177 rfl rfl ?_
        refine z_iconst X (v := (0 : Int32)) dX8_init_178 (by decide) ?_
        refine z_bipush X (v := (103 : Int32)) dX8_init_179 (by decide) ?_
        refine z_bipush X (v := (105 : Int32)) dX8_init_181 (by decide) ?_
        refine z_bipush X (v := (118 : Int32)) dX8_init_183 (by decide) ?_
        refine z_bipush X (v := (101 : Int32)) dX8_init_185 (by decide) ?_
        refine z_bipush X (v := (115 : Int32)) dX8_init_187 (by decide) ?_
        refine z_bipush X (v := (32 : Int32)) dX8_init_189 (by decide) ?_
        refine z_bipush X (v := (100 : Int32)) dX8_init_191 (by decide) ?_
        refine z_bipush X (v := (97 : Int32)) dX8_init_193 (by decide) ?_
        refine z_callV X hK (As := [vI (0 : Int32), vI (103 : Int32), vI (105 : Int32), vI (118 : Int32), vI (101 : Int32), vI (115 : Int32), vI (32 : Int32), vI (100 : Int32), vI (97 : Int32)]) (ci := 8) rfl (by decide) (fun o => (kX8_spell l Z  b (some 0) o _ _ _ _ _ _ _ _ _ _)) hk_X8_67 ⟨rfl, rfl⟩ hd_X8_spell ⟨Nat.le_of_ble_eq_true rfl, Nat.le_of_ble_eq_true rfl⟩ ⟨Nat.le_of_ble_eq_true rfl, Nat.le_of_ble_eq_true rfl⟩ rfl rfl (Nat.le_of_ble_eq_true rfl) dX8_init_195 (fun _ q6 _ => ?_)
        refine z_aload_n X (q := 0) dX8_init_198 rfl rfl ?_
        refine z_bipush X (v := (8 : Int32)) dX8_init_199 (by decide) ?_
        refine z_bipush X (v := (121 : Int32)) dX8_init_201 (by decide) ?_
        refine z_bipush X (v := (32 : Int32)) dX8_init_203 (by decide) ?_
        refine z_bipush X (v := (59 : Int32)) dX8_init_205 (by decide) ?_
        refine z_bipush X (v := (32 : Int32)) dX8_init_207 (by decide) ?_
        refine z_bipush X (v := (103 : Int32)) dX8_init_209 (by decide) ?_
        refine z_bipush X (v := (108 : Int32)) dX8_init_211 (by decide) ?_
        refine z_bipush X (v := (97 : Int32)) dX8_init_213 (by decide) ?_
        refine z_bipush X (v := (100 : Int32)) dX8_init_215 (by decide) ?_
        refine z_callV X hK (As := [vI (8 : Int32), vI (121 : Int32), vI (32 : Int32), vI (59 : Int32), vI (32 : Int32), vI (103 : Int32), vI (108 : Int32), vI (97 : Int32), vI (100 : Int32)]) (ci := 8) rfl (by decide) (fun o => (kX8_spell l Z  b (some 0) o _ _ _ _ _ _ _ _ _ _)) hk_X8_67 ⟨rfl, rfl⟩ hd_X8_spell ⟨Nat.le_of_ble_eq_true rfl, Nat.le_of_ble_eq_true rfl⟩ ⟨Nat.le_of_ble_eq_true rfl, Nat.le_of_ble_eq_true rfl⟩ rfl rfl (Nat.le_of_ble_eq_true rfl) dX8_init_217 (fun _ q7 _ => ?_)
        refine z_aload_n X (q := 0) dX8_init_220 rfl rfl ?_
        refine z_bipush X (v := (16 : Int32)) dX8_init_221 (by decide) ?_
        refine z_bipush X (v := (115 : Int32)) dX8_init_223 (by decide) ?_
        refine z_bipush X (v := (32 : Int32)) dX8_init_225 (by decide) ?_
        refine z_bipush X (v := (116 : Int32)) dX8_init_227 (by decide) ?_
        refine z_bipush X (v := (104 : Int32)) dX8_init_229 (by decide) ?_
        refine z_bipush X (v := (105 : Int32)) dX8_init_231 (by decide) ?_
        refine z_bipush X (v := (110 : Int32)) dX8_init_233 (by decide) ?_
        refine z_bipush X (v := (103 : Int32)) dX8_init_235 (by decide) ?_
        refine z_bipush X (v := (32 : Int32)) dX8_init_237 (by decide) ?_
        refine z_callV X hK (As := [vI (16 : Int32), vI (115 : Int32), vI (32 : Int32), vI (116 : Int32), vI (104 : Int32), vI (105 : Int32), vI (110 : Int32), vI (103 : Int32), vI (32 : Int32)]) (ci := 8) rfl (by decide) (fun o => (kX8_spell l Z  b (some 0) o _ _ _ _ _ _ _ _ _ _)) hk_X8_67 ⟨rfl, rfl⟩ hd_X8_spell ⟨Nat.le_of_ble_eq_true rfl, Nat.le_of_ble_eq_true rfl⟩ ⟨Nat.le_of_ble_eq_true rfl, Nat.le_of_ble_eq_true rfl⟩ rfl rfl (Nat.le_of_ble_eq_true rfl) dX8_init_239 (fun _ q8 _ => ?_)
        refine z_aload_n X (q := 0) dX8_init_242 rfl rfl ?_
        refine z_bipush X (v := (24 : Int32)) dX8_init_243 (by decide) ?_
        refine z_bipush X (v := (59 : Int32)) dX8_init_245 (by decide) ?_
        refine z_bipush X (v := (32 : Int32)) dX8_init_247 (by decide) ?_
        refine z_bipush X (v := (99 : Int32)) dX8_init_249 (by decide) ?_
        refine z_bipush X (v := (111 : Int32)) dX8_init_251 (by decide) ?_
        refine z_bipush X (v := (115 : Int32)) dX8_init_253 (by decide) ?_
        refine z_bipush X (v := (116 : Int32)) dX8_init_255 (by decide) ?_
        refine z_bipush X (v := (115 : Int32)) dX8_init_257 (by decide) ?_
        refine z_bipush X (v := (32 : Int32)) dX8_init_259 (by decide) ?_
        refine z_callV X hK (As := [vI (24 : Int32), vI (59 : Int32), vI (32 : Int32), vI (99 : Int32), vI (111 : Int32), vI (115 : Int32), vI (116 : Int32), vI (115 : Int32), vI (32 : Int32)]) (ci := 8) rfl (by decide) (fun o => (kX8_spell l Z  b (some 0) o _ _ _ _ _ _ _ _ _ _)) hk_X8_67 ⟨rfl, rfl⟩ hd_X8_spell ⟨Nat.le_of_ble_eq_true rfl, Nat.le_of_ble_eq_true rfl⟩ ⟨Nat.le_of_ble_eq_true rfl, Nat.le_of_ble_eq_true rfl⟩ rfl rfl (Nat.le_of_ble_eq_true rfl) dX8_init_261 (fun _ q9 _ => ?_)
        refine z_aload_n X (q := 0) dX8_init_264 rfl rfl ?_
        refine z_bipush X (v := (32 : Int32)) dX8_init_265 (by decide) ?_
        refine z_bipush X (v := (119 : Int32)) dX8_init_267 (by decide) ?_
        refine z_bipush X (v := (111 : Int32)) dX8_init_269 (by decide) ?_
        refine z_bipush X (v := (114 : Int32)) dX8_init_271 (by decide) ?_
        refine z_bipush X (v := (100 : Int32)) dX8_init_273 (by decide) ?_
        refine z_bipush X (v := (115 : Int32)) dX8_init_275 (by decide) ?_
        refine z_bipush X (v := (32 : Int32)) dX8_init_277 (by decide) ?_
        refine z_bipush X (v := (59 : Int32)) dX8_init_279 (by decide) ?_
        refine z_bipush X (v := (32 : Int32)) dX8_init_281 (by decide) ?_
        refine z_callV X hK (As := [vI (32 : Int32), vI (119 : Int32), vI (111 : Int32), vI (114 : Int32), vI (100 : Int32), vI (115 : Int32), vI (32 : Int32), vI (59 : Int32), vI (32 : Int32)]) (ci := 8) rfl (by decide) (fun o => (kX8_spell l Z  b (some 0) o _ _ _ _ _ _ _ _ _ _)) hk_X8_67 ⟨rfl, rfl⟩ hd_X8_spell ⟨Nat.le_of_ble_eq_true rfl, Nat.le_of_ble_eq_true rfl⟩ ⟨Nat.le_of_ble_eq_true rfl, Nat.le_of_ble_eq_true rfl⟩ rfl rfl (Nat.le_of_ble_eq_true rfl) dX8_init_283 (fun _ q10 _ => ?_)
        refine z_aload_n X (q := 0) dX8_init_286 rfl rfl ?_
        refine z_getr X hK (N := 46) (ci := 8) (k := 2) rfl (by decide) inlX8 (by decide) hf_X8_17 rfl spM_X8 rfl dX8_init_287 (fun o11 _ => ?_)
        refine z_iconst X (v := (0 : Int32)) dX8_init_290 (by decide) ?_
        refine z_bipush X (v := (40 : Int32)) dX8_init_291 (by decide) ?_
        refine z_iast X hK dX8_init_293 (fun o12 j13 st14 _ _ => ?_)
        refine z_aload_n X (q := 0) dX8_init_294 rfl rfl ?_
        refine z_iconst X (v := (1 : Int32)) dX8_init_295 (by decide) ?_
        refine z_puti X hK (N := 46) (ci := 8) (k := 3) rfl (by decide) inlX8 tyX8 tyX8_ok nmX8 (by decide) hf_X8_71 rfl rfl spM_X8 rfl (by decide +kernel) dX8_init_296 (fun o15 st16 _ => ?_)
        subst hQ; exact z_vret X hlocks hr dX8_init_299
      · refine z_iconst X (v := (1 : Int32)) dX8_init_138 (by decide) ?_
        refine z_istore_n X dX8_init_139 rfl (Nat.le_of_ble_eq_true rfl) rfl ?_
        exact z_sub [1, 2, 3, 0] (J140 _ _ _ _ _) rfl
  rw [fX8_init]
  refine z_aload_n X (q := 0) dX8_init_0 rfl rfl ?_
  refine z_objinit X (o := this) ho_X8_7 ⟨Nat.le_of_ble_eq_true rfl, Nat.le_of_ble_eq_true rfl⟩ (Nat.le_of_ble_eq_true rfl) dX8_init_1 ?_
  refine z_aload_n X (q := 0) dX8_init_4 rfl rfl ?_
  refine z_sipush X (v := (960 : Int32)) dX8_init_5 (by decide) ?_
  refine z_newi X hK (N := 960) ha_int (by decide) (by decide) (by decide) (Nat.le_of_ble_eq_true rfl) (Nat.le_of_ble_eq_true rfl) dX8_init_8 (fun st22 => ?_)
  refine z_putFr X hK hinit (N := 46) (ci := 8) (k := 1) rfl (by decide) inlX8 tyX8 tyX8_ok nmX8 (by decide) hf_X8_13 rfl rfl rfl spM_X8 rfl (ty := tyX8 1) (by decide +kernel) (fun r => by cases r <;> exact ⟨rfl, rfl⟩) dX8_init_10 (fun o23 st24 _ => ?_)
  refine z_aload_n X (q := 0) dX8_init_13 rfl rfl ?_
  refine z_bipush X (v := (6 : Int32)) dX8_init_14 (by decide) ?_
  refine z_newi X hK (N := 6) ha_int (by decide) (by decide) (by decide) (Nat.le_of_ble_eq_true rfl) (Nat.le_of_ble_eq_true rfl) dX8_init_16 (fun st25 => ?_)
  refine z_putFr X hK hinit (N := 46) (ci := 8) (k := 2) rfl (by decide) inlX8 tyX8 tyX8_ok nmX8 (by decide) hf_X8_17 rfl rfl rfl spM_X8 rfl (ty := tyX8 2) (by decide +kernel) (fun r => by cases r <;> exact ⟨rfl, rfl⟩) dX8_init_18 (fun o26 st27 _ => ?_)
  refine z_aload_n X (q := 0) dX8_init_21 rfl rfl ?_
  refine z_sipush X (v := (160 : Int32)) dX8_init_22 (by decide) ?_
  refine z_newi X hK (N := 160) ha_int (by decide) (by decide) (by decide) (Nat.le_of_ble_eq_true rfl) (Nat.le_of_ble_eq_true rfl) dX8_init_25 (fun st28 => ?_)
  refine z_putFr X hK hinit (N := 46) (ci := 8) (k := 5) rfl (by decide) inlX8 tyX8 tyX8_ok nmX8 (by decide) hf_X8_20 rfl rfl rfl spM_X8 rfl (ty := tyX8 5) (by decide +kernel) (fun r => by cases r <;> exact ⟨rfl, rfl⟩) dX8_init_27 (fun o29 st30 _ => ?_)
  refine z_aload_n X (q := 0) dX8_init_30 rfl rfl ?_
  refine z_bipush X (v := (12 : Int32)) dX8_init_31 (by decide) ?_
  refine z_newi X hK (N := 12) ha_int (by decide) (by decide) (by decide) (Nat.le_of_ble_eq_true rfl) (Nat.le_of_ble_eq_true rfl) dX8_init_33 (fun st31 => ?_)
  refine z_putFr X hK hinit (N := 46) (ci := 8) (k := 8) rfl (by decide) inlX8 tyX8 tyX8_ok nmX8 (by decide) hf_X8_23 rfl rfl rfl spM_X8 rfl (ty := tyX8 8) (by decide +kernel) (fun r => by cases r <;> exact ⟨rfl, rfl⟩) dX8_init_35 (fun o32 st33 _ => ?_)
  refine z_aload_n X (q := 0) dX8_init_38 rfl rfl ?_
  refine z_iconst X (v := (5 : Int32)) dX8_init_39 (by decide) ?_
  refine z_newi X hK (N := 5) ha_int (by decide) (by decide) (by decide) (Nat.le_of_ble_eq_true rfl) (Nat.le_of_ble_eq_true rfl) dX8_init_40 (fun st34 => ?_)
  refine z_putFr X hK hinit (N := 46) (ci := 8) (k := 9) rfl (by decide) inlX8 tyX8 tyX8_ok nmX8 (by decide) hf_X8_26 rfl rfl rfl spM_X8 rfl (ty := tyX8 9) (by decide +kernel) (fun r => by cases r <;> exact ⟨rfl, rfl⟩) dX8_init_42 (fun o35 st36 _ => ?_)
  refine z_aload_n X (q := 0) dX8_init_45 rfl rfl ?_
  refine z_bipush X (v := (20 : Int32)) dX8_init_46 (by decide) ?_
  refine z_newi X hK (N := 20) ha_int (by decide) (by decide) (by decide) (Nat.le_of_ble_eq_true rfl) (Nat.le_of_ble_eq_true rfl) dX8_init_48 (fun st37 => ?_)
  refine z_putFr X hK hinit (N := 46) (ci := 8) (k := 10) rfl (by decide) inlX8 tyX8 tyX8_ok nmX8 (by decide) hf_X8_29 rfl rfl rfl spM_X8 rfl (ty := tyX8 10) (by decide +kernel) (fun r => by cases r <;> exact ⟨rfl, rfl⟩) dX8_init_50 (fun o38 st39 _ => ?_)
  refine z_aload_n X (q := 0) dX8_init_53 rfl rfl ?_
  refine z_sipush X (v := (298 : Int32)) dX8_init_54 (by decide) ?_
  refine z_newi X hK (N := 298) ha_int (by decide) (by decide) (by decide) (Nat.le_of_ble_eq_true rfl) (Nat.le_of_ble_eq_true rfl) dX8_init_57 (fun st40 => ?_)
  refine z_putFr X hK hinit (N := 46) (ci := 8) (k := 12) rfl (by decide) inlX8 tyX8 tyX8_ok nmX8 (by decide) hf_X8_32 rfl rfl rfl spM_X8 rfl (ty := tyX8 12) (by decide +kernel) (fun r => by cases r <;> exact ⟨rfl, rfl⟩) dX8_init_59 (fun o41 st42 _ => ?_)
  refine z_aload_n X (q := 0) dX8_init_62 rfl rfl ?_
  refine z_bipush X (v := (20 : Int32)) dX8_init_63 (by decide) ?_
  refine z_newi X hK (N := 20) ha_int (by decide) (by decide) (by decide) (Nat.le_of_ble_eq_true rfl) (Nat.le_of_ble_eq_true rfl) dX8_init_65 (fun st43 => ?_)
  refine z_putFr X hK hinit (N := 46) (ci := 8) (k := 30) rfl (by decide) inlX8 tyX8 tyX8_ok nmX8 (by decide) hf_X8_35 rfl rfl rfl spM_X8 rfl (ty := tyX8 30) (by decide +kernel) (fun r => by cases r <;> exact ⟨rfl, rfl⟩) dX8_init_67 (fun o44 st45 _ => ?_)
  refine z_aload_n X (q := 0) dX8_init_70 rfl rfl ?_
  refine z_bipush X (v := (12 : Int32)) dX8_init_71 (by decide) ?_
  refine z_newi X hK (N := 12) ha_int (by decide) (by decide) (by decide) (Nat.le_of_ble_eq_true rfl) (Nat.le_of_ble_eq_true rfl) dX8_init_73 (fun st46 => ?_)
  refine z_putFr X hK hinit (N := 46) (ci := 8) (k := 36) rfl (by decide) inlX8 tyX8 tyX8_ok nmX8 (by decide) hf_X8_38 rfl rfl rfl spM_X8 rfl (ty := tyX8 36) (by decide +kernel) (fun r => by cases r <;> exact ⟨rfl, rfl⟩) dX8_init_75 (fun o47 st48 _ => ?_)
  refine z_aload_n X (q := 0) dX8_init_78 rfl rfl ?_
  refine z_bipush X (v := (12 : Int32)) dX8_init_79 (by decide) ?_
  refine z_newi X hK (N := 12) ha_int (by decide) (by decide) (by decide) (Nat.le_of_ble_eq_true rfl) (Nat.le_of_ble_eq_true rfl) dX8_init_81 (fun st49 => ?_)
  refine z_putFr X hK hinit (N := 46) (ci := 8) (k := 37) rfl (by decide) inlX8 tyX8 tyX8_ok nmX8 (by decide) hf_X8_41 rfl rfl rfl spM_X8 rfl (ty := tyX8 37) (by decide +kernel) (fun r => by cases r <;> exact ⟨rfl, rfl⟩) dX8_init_83 (fun o50 st51 _ => ?_)
  refine z_aload_n X (q := 0) dX8_init_86 rfl rfl ?_
  refine z_bipush X (v := (20 : Int32)) dX8_init_87 (by decide) ?_
  refine z_newi X hK (N := 20) ha_int (by decide) (by decide) (by decide) (Nat.le_of_ble_eq_true rfl) (Nat.le_of_ble_eq_true rfl) dX8_init_89 (fun st52 => ?_)
  refine z_putFr X hK hinit (N := 46) (ci := 8) (k := 38) rfl (by decide) inlX8 tyX8 tyX8_ok nmX8 (by decide) hf_X8_44 rfl rfl rfl spM_X8 rfl (ty := tyX8 38) (by decide +kernel) (fun r => by cases r <;> exact ⟨rfl, rfl⟩) dX8_init_91 (fun o53 st54 _ => ?_)
  refine z_aload_n X (q := 0) dX8_init_94 rfl rfl ?_
  refine z_iconst X (v := (-1 : Int32)) dX8_init_95 (by decide) ?_
  refine z_puti X hK (N := 46) (ci := 8) (k := 39) rfl (by decide) inlX8 tyX8 tyX8_ok nmX8 (by decide) hf_X8_47 rfl rfl spM_X8 rfl (by decide +kernel) dX8_init_96 (fun o55 st56 _ => ?_)
  refine z_aload_n X (q := 0) dX8_init_99 rfl rfl ?_
  refine z_iconst X (v := (4 : Int32)) dX8_init_100 (by decide) ?_
  refine z_newz X hK (N := 4) ha_boolean (by decide) (by decide) (by decide) (Nat.le_of_ble_eq_true rfl) (Nat.le_of_ble_eq_true rfl) dX8_init_101 (fun st57 => ?_)
  refine z_putFr X hK hinit (N := 46) (ci := 8) (k := 42) rfl (by decide) inlX8 tyX8 tyX8_ok nmX8 (by decide) hf_X8_50 rfl rfl rfl spM_X8 rfl (ty := tyX8 42) (by decide +kernel) (fun r => by cases r <;> exact ⟨rfl, rfl⟩) dX8_init_103 (fun o58 st59 _ => ?_)
  refine z_aload_n X (q := 0) dX8_init_106 rfl rfl ?_
  refine z_iconst X (v := (4 : Int32)) dX8_init_107 (by decide) ?_
  refine z_newi X hK (N := 4) ha_int (by decide) (by decide) (by decide) (Nat.le_of_ble_eq_true rfl) (Nat.le_of_ble_eq_true rfl) dX8_init_108 (fun st60 => ?_)
  refine z_putFr X hK hinit (N := 46) (ci := 8) (k := 43) rfl (by decide) inlX8 tyX8 tyX8_ok nmX8 (by decide) hf_X8_54 rfl rfl rfl spM_X8 rfl (ty := tyX8 43) (by decide +kernel) (fun r => by cases r <;> exact ⟨rfl, rfl⟩) dX8_init_110 (fun o61 st62 _ => ?_)
  refine z_aload_n X (q := 0) dX8_init_113 rfl rfl ?_
  refine z_iconst X (v := (4 : Int32)) dX8_init_114 (by decide) ?_
  refine z_newi X hK (N := 4) ha_int (by decide) (by decide) (by decide) (Nat.le_of_ble_eq_true rfl) (Nat.le_of_ble_eq_true rfl) dX8_init_115 (fun st63 => ?_)
  refine z_putFr X hK hinit (N := 46) (ci := 8) (k := 44) rfl (by decide) inlX8 tyX8 tyX8_ok nmX8 (by decide) hf_X8_57 rfl rfl rfl spM_X8 rfl (ty := tyX8 44) (by decide +kernel) (fun r => by cases r <;> exact ⟨rfl, rfl⟩) dX8_init_117 (fun o64 st65 _ => ?_)
  refine z_aload_n X (q := 0) dX8_init_120 rfl rfl ?_
  refine z_sipush X (v := (160 : Int32)) dX8_init_121 (by decide) ?_
  refine z_newi X hK (N := 160) ha_int (by decide) (by decide) (by decide) (Nat.le_of_ble_eq_true rfl) (Nat.le_of_ble_eq_true rfl) dX8_init_124 (fun st66 => ?_)
  refine z_putFr X hK hinit (N := 46) (ci := 8) (k := 45) rfl (by decide) inlX8 tyX8 tyX8_ok nmX8 (by decide) hf_X8_60 rfl rfl rfl spM_X8 rfl (ty := tyX8 45) (by decide +kernel) (fun r => by cases r <;> exact ⟨rfl, rfl⟩) dX8_init_126 (fun o67 st68 _ => ?_)
  refine z_iconst X (v := (0 : Int32)) dX8_init_129 (by decide) ?_
  refine z_istore_n X dX8_init_130 rfl (Nat.le_of_ble_eq_true rfl) rfl ?_
  refine z_iconst X (v := (1 : Int32)) dX8_init_131 (by decide) ?_
  refine z_istore_n X dX8_init_132 rfl (Nat.le_of_ble_eq_true rfl) rfl ?_
  exact z_sub [2, 1, 0] (J133 _ _ _ _) rfl
