def zGN : List Cond := flatC (Jvm.Cond.and given_1 narrow_1)
def ztm (i : Nat) : Term := .string "WellGivesOther$Tokens" (zIdx.getD i 0)
def zka : Term := .static "WellGivesOther" "KIND_ABOVE" "[I"
set_option maxRecDepth 100000
theorem zs_ex : ∀ i, i < 12 → Cond.exactly (ztm i) "java/lang/String" ∈ zGN := by decide +kernel
theorem zs_co : ∀ i, i < 12 → Cond.eq (.field (ztm i) "java/lang/String" "coder" "B") (.int 0) ∈ zGN := by decide +kernel
theorem zs_ar : ∀ i, i < 12 → Cond.arrayOf (.field (ztm i) "java/lang/String" "value" "[B") .byte ∈ zGN := by decide +kernel
theorem zs_le : ∀ i, i < 12 → Cond.eq (.length (.field (ztm i) "java/lang/String" "value" "[B")) (.int (Int32.ofNat (zLen.getD i 0))) ∈ zGN := by decide +kernel
theorem zs_el : ∀ i, i < 12 → ∀ j, j < zLen.getD i 0 → Cond.eq (.elem (.field (ztm i) "java/lang/String" "value" "[B") (.int (Int32.ofNat j))) (.int ((zByt.getD i []).getD j 0)) ∈ zGN := by decide +kernel
theorem zs_ne : ∀ i, i < 12 → ∀ j, j < 12 → i ≠ j → (Cond.not (Cond.eq (ztm i) (ztm j)) ∈ zGN ∨ Cond.not (Cond.eq (ztm j) (ztm i)) ∈ zGN) := by decide +kernel
theorem zs_ref : ∀ i, i < 12 → Cond.stringRef "WellGivesOther$Tokens" (zIdx.getD i 0) (zTxt.getD i "") ∈ lw_tbl := by decide +kernel
theorem zs_ka1 : Cond.arrayOf zka .int ∈ zGN := by decide +kernel
theorem zs_ka2 : Cond.eq (.length zka) (.int 6) ∈ zGN := by decide +kernel
theorem zs_ka3 : ∀ j, j < 6 → Cond.eq (.elem zka (.int (Int32.ofNat j))) (.int (([-1, 0, 0, 1, 2, 0] : List Int32).getD j 0)) ∈ zGN := by decide +kernel
theorem zs_ka4 : Cond.laysStatic "WellGivesOther" "KIND_ABOVE" "[I" ∈ lw_tbl := by decide +kernel
theorem zs_ka5 : Cond.initialized "WellGivesOther" ∈ lw_tbl := by decide +kernel
theorem zs_cs1 : Cond.laysStatic "java/lang/String" "COMPACT_STRINGS" "Z" ∈ lw_tbl := by decide +kernel
theorem zs_cs2 : Cond.initialized "java/lang/String" ∈ lw_tbl := by decide +kernel
theorem zs_cs3 : Cond.eq (.static "java/lang/String" "COMPACT_STRINGS" "Z") (.int 1) ∈ zGN := by decide +kernel
theorem zs_si1 : Cond.laysStatic "jdk/internal/util/Preconditions" "SIOOBE_FORMATTER" "Ljava/util/function/BiFunction;" ∈ lw_tbl := by decide +kernel
theorem zs_si2 : Cond.initialized "jdk/internal/util/Preconditions" ∈ lw_tbl := by decide +kernel
theorem zs_si3 : Cond.isRef (.static "jdk/internal/util/Preconditions" "SIOOBE_FORMATTER" "Ljava/util/function/BiFunction;") ∈ zGN := by decide +kernel
theorem zs_nest : ∀ q ∈ zNest, Cond.methodLinkNest q.1 q.2.1 q.2.2 "WellGivesOther" ∈ lw_tbl := by decide +kernel
theorem zs_ao : ∀ C ∈ zAOs, Cond.arrayOver (.object C) ∈ lw_tbl := by decide +kernel
theorem zs_ai : Cond.arrayClass .int ∈ lw_tbl := by decide +kernel
theorem zs_az : Cond.arrayClass .boolean ∈ lw_tbl := by decide +kernel
theorem start_B {args : Array Value} {s : State} (hts : ∀ w ∈ lw_tbl, w.before args s = true) (hgv : (Jvm.Cond.and given_1 narrow_1).before args s = true) : ∃ E, zB E s.heap.size s := by
  have hg : ∀ c ∈ zGN, c.before args s = true := flat_of_before _ hgv
  have hA : ∀ a : Nat, a < s.heap.size → ¬ s.heap.size ≤ a := fun a h => Nat.not_le.mpr h
  obtain ⟨t, ht, hT⟩ := va_Tof (tm := zka) (ty := .int) (N := 6) (f := zKA) (A := fun q => s.heap.size ≤ q) (by decide) (hg _ zs_ka1) (va_eqt (hg _ zs_ka2)) (fun j hj => va_eqt (hg _ (zs_ka3 j hj))) hA
  obtain ⟨adK, adV, hS, hE⟩ := vk_Sof (args := args) (s := s) (N := 12) (tm := ztm) (len := zLen) (byt := zByt) (A := fun q => s.heap.size ≤ q) (fun i hi => Nat.lt_of_lt_of_le (zLen_lt i hi) (by decide)) (fun i hi => hg _ (zs_ex i hi)) (fun i hi => hg _ (zs_co i hi)) (fun i hi => hg _ (zs_ar i hi)) (fun i hi => hg _ (zs_le i hi)) (fun i hi j hj => hg _ (zs_el i hi j hj)) (fun i j hi hj hn => (zs_ne i hi j hj hn).elim (fun h => Or.inl (hg _ h)) (fun h => Or.inr (hg _ h))) hA
  exact ⟨(t, adK, adV), va_Zof (hts _ zs_ka4) (hts _ zs_ka5) ht hA, hT, va_Zof (hts _ zs_cs1) (hts _ zs_cs2) (va_eqi (hg _ zs_cs3)) hA, hS, fun i hi => vk_R.of (hts _ (zs_ref i hi)) (hE i hi), va_Zqof (hts _ zs_si1) (hts _ zs_si2) (hg _ zs_si3) hA, fun q hq => va_Nw.of rfl (hts _ (zs_nest q hq))⟩
theorem start_RA {args : Array Value} {s : State} {ty : FieldType} (hty : ∀ C, ty ≠ .object C) (h : (Cond.arrayClass ty).before args s = true) : ∃ cA, ArrOfT s cA ty ∧ va_RA s cA ty := by
  obtain ⟨cA, kA, comp, h1, h2, h3⟩ := Cond.arrayClass_spec h
  refine ⟨cA, fun N z => ⟨(fun k h => by cases h), kA, h2, comp, h3⟩, ?_⟩
  cases ty with
  | object C => exact absurd rfl (hty C)
  | _ => exact h1
theorem start_RO {args : Array Value} {s : State} {C : String} (h : (Cond.arrayOver (.object C)).before args s = true) : ∃ cA, ArrOfT s cA (.object C) ∧ va_RA s cA (.object C) := by
  obtain ⟨comp, cA, kA, h1, h2, h3, h4, h5⟩ := Cond.arrayOver_spec h
  exact ⟨cA, fun N z => ⟨(fun k h => by cases h), kA, h3, comp, h4⟩, kA, comp, h3, h4, h1, h5⟩
theorem zs_in0 : Cond.instantiable RX0 5 ∈ lw_tbl := by decide +kernel
theorem zs_in1 : Cond.instantiable RX1 5 ∈ lw_tbl := by decide +kernel
theorem zs_in2 : Cond.instantiable RX2 5 ∈ lw_tbl := by decide +kernel
theorem zs_in3 : Cond.instantiable RX3 3 ∈ lw_tbl := by decide +kernel
theorem zs_in4 : Cond.instantiable RX4 6 ∈ lw_tbl := by decide +kernel
theorem zs_in5 : Cond.instantiable RX5 8 ∈ lw_tbl := by decide +kernel
theorem zs_in6 : Cond.instantiable RX6 15 ∈ lw_tbl := by decide +kernel
theorem zs_in7 : Cond.instantiable RX7 14 ∈ lw_tbl := by decide +kernel
theorem zs_in8 : Cond.instantiable RX8 46 ∈ lw_tbl := by decide +kernel
theorem start_K {args : Array Value} {s : State} (hts : ∀ w ∈ lw_tbl, w.before args s = true) : ∃ (D : va_G) (dA : Nat → ClassId), va_K D vwCl (zT dA) s := by
  have hts2 : ∀ w ∈ wsL_law, w.before args s = true := fun w h => hts w (zin_law w h)
  obtain ⟨c0, i0, k0⟩ := u_known (C := RX0) (T := TX0) (N := 5) (n := 5) hts2 inlX0 (hts _ zs_in0)
  obtain ⟨c1, i1, k1⟩ := u_known (C := RX1) (T := TX1) (N := 5) (n := 5) hts2 inlX1 (hts _ zs_in1)
  obtain ⟨c2, i2, k2⟩ := u_known (C := RX2) (T := TX2) (N := 5) (n := 5) hts2 inlX2 (hts _ zs_in2)
  obtain ⟨c3, i3, k3⟩ := u_known (C := RX3) (T := TX3) (N := 3) (n := 3) hts2 inlX3 (hts _ zs_in3)
  obtain ⟨c4, i4, k4⟩ := u_known (C := RX4) (T := TX4) (N := 6) (n := 6) hts2 inlX4 (hts _ zs_in4)
  obtain ⟨c5, i5, k5⟩ := u_known (C := RX5) (T := TX5) (N := 8) (n := 8) hts2 inlX5 (hts _ zs_in5)
  obtain ⟨c6, i6, k6⟩ := u_known (C := RX6) (T := TX6) (N := 15) (n := 15) hts2 inlX6 (hts _ zs_in6)
  obtain ⟨c7, i7, k7⟩ := u_known (C := RX7) (T := TX7) (N := 14) (n := 14) hts2 inlX7 (hts _ zs_in7)
  obtain ⟨c8, i8, k8⟩ := u_known (C := RX8) (T := TX8) (N := 46) (n := 46) hts2 inlX8 (hts _ zs_in8)
  obtain ⟨a0, ha0⟩ := start_RA (ty := .int) (fun C h => by cases h) (hts _ zs_ai)
  obtain ⟨a1, ha1⟩ := start_RA (ty := .boolean) (fun C h => by cases h) (hts _ zs_az)
  obtain ⟨a2, ha2⟩ := start_RO (C := RX0) (hts _ (zs_ao RX0 (by decide +kernel)))
  obtain ⟨a3, ha3⟩ := start_RO (C := RX3) (hts _ (zs_ao RX3 (by decide +kernel)))
  obtain ⟨a4, ha4⟩ := start_RO (C := RX4) (hts _ (zs_ao RX4 (by decide +kernel)))
  refine ⟨(fun k => match k with | 0 => c0 | 1 => c1 | 2 => c2 | 3 => c3 | 4 => c4 | 5 => c5 | 6 => c6 | 7 => c7 | _ => c8, fun k => match k with | 0 => i0 | 1 => i1 | 2 => i2 | 3 => i3 | 4 => i4 | 5 => i5 | 6 => i6 | 7 => i7 | _ => i8), (fun k => match k with | 0 => a0 | 1 => a1 | 2 => a2 | 3 => a3 | _ => a4), ?_, ?_⟩
  · intro k q hq
    match k, hq with
    | 0, hq => cases hq; exact k0
    | 1, hq => cases hq; exact k1
    | 2, hq => cases hq; exact k2
    | 3, hq => cases hq; exact k3
    | 4, hq => cases hq; exact k4
    | 5, hq => cases hq; exact k5
    | 6, hq => cases hq; exact k6
    | 7, hq => cases hq; exact k7
    | 8, hq => cases hq; exact k8
    | k + 9, hq => simp [vwCl] at hq
  · intro k q hq
    match k, hq with
    | 0, hq => cases hq; exact ha0
    | 1, hq => cases hq; exact ha1
    | 2, hq => cases hq; exact ha2
    | 3, hq => cases hq; exact ha3
    | 4, hq => cases hq; exact ha4
    | k + 5, hq => simp [zT] at hq
