def zcpyBad (sp : Nat → Nat × Nat) (o1 o2 : Nat) (a d n : Int32) : Bool := decide (a < 0) || decide (d < 0) || decide (n < 0) || decide ((sp o1).2 < a.toNatClampNeg + n.toNatClampNeg) || decide ((sp o2).2 < d.toNatClampNeg + n.toNatClampNeg)
def zcpy (st : zS) (o1 o2 : Nat) (a d n : Int32) : zS := (st.1, (fun o j => if o = o2 then va_cpy (fun j => st.2.1 o1 j) (fun j => st.2.1 o2 j) a.toNatClampNeg d.toNatClampNeg n.toNatClampNeg j else st.2.1 o j), st.2.2.1, st.2.2.2)
section ZSTR
variable {p : Program} {l : Launch} {e : Env} {R : Room} {s : State} {m : MethodId} {args : Array Value} {below : List Frame} {meth : Method} {c : Code} {Q : State → Prop} {Z : zZ} {sp : Nat → Nat × Nat} {b : Nat} {x : Option Nat} {A : Nat → Prop} {nL cells slots : Nat} {σ : Type} {res : σ} {co co1 co2 : Option σ} {pc : Nat} {lv lv' : List (Nat × zv)} {stk : List zv} {st : zS} {cc : ByteArray} {own : String}
theorem zB_str (hK : zK Z b A s) : vk_S 12 zLen zByt Z.2.2.2.1 Z.2.2.2.2 A s s.heap := hK.2.1.2.2.2.1.narrow hK.2.2
theorem z_strval (X : CallFix p m c cc nL s args wsL_law own)(hK : zK Z b A s) {i : Nat} (hi : i < 12) (hlink : Cond.fieldLink own 9 "java/lang/String" "value" "[B" ∈ wsL_law) (hdg : decode cc pc = .ok (.getfield 9, 3)) (k : zs p l e R s m args below meth c Q Z sp b x A nL cells slots res co (pc + 3) lv (vA (Z.2.2.2.2 i) :: stk) st) : zs p l e R s m args below meth c Q Z sp b x A nL cells slots res co (pc) lv (vA (Z.2.2.2.1 i) :: stk) st :=
  fun hc H locs ls hI hS hl => vk_getf X.1 X.2.1 ((zB_str hK).1 i hi).2.2.1 hS X.2.2.2.1 (X.2.2.2.2 _ hlink) (fun _ h => h) hdg (k hc H locs ls hI hS hl)
theorem z_strcod (X : CallFix p m c cc nL s args wsL_law own)(hK : zK Z b A s) {i : Nat} (hi : i < 12) (hlink : Cond.fieldLink own 15 "java/lang/String" "coder" "B" ∈ wsL_law) (hdg : decode cc pc = .ok (.getfield 15, 3)) (k : zs p l e R s m args below meth c Q Z sp b x A nL cells slots res co (pc + 3) lv (vI 0 :: stk) st) : zs p l e R s m args below meth c Q Z sp b x A nL cells slots res co (pc) lv (vA (Z.2.2.2.1 i) :: stk) st :=
  fun hc H locs ls hI hS hl => vk_getf X.1 X.2.1 ((zB_str hK).1 i hi).2.1 hS X.2.2.2.1 (X.2.2.2.2 _ hlink) (fun _ h => h) hdg (k hc H locs ls hI hS hl)
theorem z_compact (X : CallFix p m c cc nL s args wsL_law own)(hK : zK Z b A s) (hlink : Cond.fieldLink own 38 "java/lang/String" "COMPACT_STRINGS" "Z" ∈ wsL_law) (hdg : decode cc pc = .ok (.getstatic 38, 3)) (k : zs p l e R s m args below meth c Q Z sp b x A nL cells slots res co (pc + 3) lv (vI 1 :: stk) st) : zs p l e R s m args below meth c Q Z sp b x A nL cells slots res co (pc) lv (stk) st :=
  fun hc H locs ls hI hS hl => va_gets X.1 X.2.1 (hK.2.1.2.2.1.narrow hK.2.2) hS X.2.2.2.1 (X.2.2.2.2 _ hlink) (fun _ h => h) hdg (k hc H locs ls hI hS hl)
theorem z_sioobe (X : CallFix p m c cc nL s args wsL_law own)(hK : zK Z b A s) (hlink : Cond.fieldLink own 1053 "jdk/internal/util/Preconditions" "SIOOBE_FORMATTER" "Ljava/util/function/BiFunction;" ∈ wsL_law) (hdg : decode cc pc = .ok (.getstatic 1053, 3)) (k : ∀ v : zv, (v = vP none ∨ ∃ t, v = vA t) → zs p l e R s m args below meth c Q Z sp b x A nL cells slots res co (pc + 3) lv (v :: stk) st) : zs p l e R s m args below meth c Q Z sp b x A nL cells slots res co (pc) lv (stk) st :=
  by
  intro hc H locs ls hI hS hl
  rcases (hK.2.1.2.2.2.2.2.1).narrow hK.2.2 with h | ⟨t, h⟩
  · exact va_gets X.1 X.2.1 h hS X.2.2.2.1 (X.2.2.2.2 _ hlink) (fun _ h => h) hdg (k (vP none) (Or.inl rfl) hc H locs ls hI hS hl)
  · exact va_gets X.1 X.2.1 h hS X.2.2.2.1 (X.2.2.2.2 _ hlink) (fun _ h => h) hdg (k (vA t) (Or.inr ⟨t, rfl⟩) hc H locs ls hI hS hl)
theorem z_kabove (X : CallFix p m c cc nL s args wsL_law own)(hK : zK Z b A s) (hlink : Cond.fieldLink own 303 "WellGivesOther" "KIND_ABOVE" "[I" ∈ wsL_law) (hdg : decode cc pc = .ok (.getstatic 303, 3)) (k : zs p l e R s m args below meth c Q Z sp b x A nL cells slots res co (pc + 3) lv (vA (Z.2.2.1) :: stk) st) : zs p l e R s m args below meth c Q Z sp b x A nL cells slots res co (pc) lv (stk) st :=
  fun hc H locs ls hI hS hl => va_gets X.1 X.2.1 (hK.2.1.1.narrow hK.2.2) hS X.2.2.2.1 (X.2.2.2.2 _ hlink) (fun _ h => h) hdg (k hc H locs ls hI hS hl)
theorem z_kalen (X : CallFix p m c cc nL s args wsL_law own)(hK : zK Z b A s) (hdg : decode cc pc = .ok (.arraylength, 1)) (k : zs p l e R s m args below meth c Q Z sp b x A nL cells slots res co (pc + 1) lv (vI 6 :: stk) st) : zs p l e R s m args below meth c Q Z sp b x A nL cells slots res co (pc) lv (vA (Z.2.2.1) :: stk) st :=
  fun hc H locs ls hI hS hl => va_tlen X.1 X.2.1 (hK.2.1.2.1.narrow hK.2.2) hS rfl hdg (k hc H locs ls hI hS hl)
theorem z_kald (X : CallFix p m c cc nL s args wsL_law own)(hK : zK Z b A s) {i : Int32} {f : Nat → Option σ} (hdg : decode cc pc = .ok (.iaload, 1)) (k : ∀ j : Nat, zs p l e R s m args below meth c Q Z sp b x A nL cells slots res (f j) (pc + 1) lv (vI (([-1, 0, 0, 1, 2, 0] : List Int32).getD j 0) :: stk) st) : zs p l e R s m args below meth c Q Z sp b x A nL cells slots res ((if i < 0 ∨ 6 ≤ i.toNatClampNeg then none else some i.toNatClampNeg).bind f) (pc) lv (vI i :: vA (Z.2.2.1) :: stk) st :=
  by
  by_cases h : i < 0 ∨ 6 ≤ i.toNatClampNeg
  · rw [if_pos h]; exact z_none
  · rw [if_neg h]
    exact fun hc H locs ls hI hS hl => va_ti X.1 X.2.1 (hK.2.1.2.1.narrow hK.2.2) hS h rfl hdg (k _ hc H locs ls hI hS hl)
theorem z_balen (X : CallFix p m c cc nL s args wsL_law own)(hK : zK Z b A s) {i : Nat} (hi : i < 12) (hdg : decode cc pc = .ok (.arraylength, 1)) (k : zs p l e R s m args below meth c Q Z sp b x A nL cells slots res co (pc + 1) lv (vI (Int32.ofNat (zLen.getD i 0)) :: stk) st) : zs p l e R s m args below meth c Q Z sp b x A nL cells slots res co (pc) lv (vA (Z.2.2.2.2 i) :: stk) st :=
  fun hc H locs ls hI hS hl => va_tlen X.1 X.2.1 ((zB_str hK).1 i hi).2.2.2 hS rfl hdg (k hc H locs ls hI hS hl)
theorem z_bald (X : CallFix p m c cc nL s args wsL_law own)(hK : zK Z b A s) {i : Nat} (hi : i < 12) {j : Int32} (hj : vp_in j (zLen.getD i 0)) (hdg : decode cc pc = .ok (.baload, 1)) (k : zs p l e R s m args below meth c Q Z sp b x A nL cells slots res co (pc + 1) lv (vI ((zByt.getD i []).getD j.toNatClampNeg 0) :: stk) st) : zs p l e R s m args below meth c Q Z sp b x A nL cells slots res co (pc) lv (vI j :: vA (Z.2.2.2.2 i) :: stk) st :=
  fun hc H locs ls hI hS hl => va_tb X.1 X.2.1 ((zB_str hK).1 i hi).2.2.2 hS hj rfl hdg (k hc H locs ls hI hS hl)
theorem z_i2c (X : CallFix p m c cc nL s args wsL_law own) {v : Int32} (hdg : decode cc pc = .ok (.i2c, 1)) (k : zs p l e R s m args below meth c Q Z sp b x A nL cells slots res co (pc + 1) lv (.inl ((v.toUInt32 % 65536).toInt32) :: stk) st) : zs p l e R s m args below meth c Q Z sp b x A nL cells slots res co (pc) lv (.inl v :: stk) st :=
  fun hc H locs ls hI hS hl => lv_i2c X.1 X.2.1 hdg rfl (k hc H locs ls hI hS hl)
theorem z_ldcS (X : CallFix p m c cc nL s args wsL_law own)(hK : zK Z b A s) {i index : Nat} (hi : i < 12) (hown2 : own = "WellGivesOther$Tokens") (hix : zIdx.getD i 0 = index) (hdg : decode cc pc = .ok (.ldc index, 2)) (k : zs p l e R s m args below meth c Q Z sp b x A nL cells slots res co (pc + 2) lv (vA (Z.2.2.2.1 i) :: stk) st) : zs p l e R s m args below meth c Q Z sp b x A nL cells slots res co (pc) lv (stk) st :=
  by
  intro hc H locs ls hI hS hl
  subst hown2
  subst hix
  exact va_ldcS X.1 X.2.1 X.2.2.2.1 (hK.2.1.2.2.2.2.1 i hi) hdg (k hc H locs ls hI hS hl)
theorem z_aloadV (X : CallFix p m c cc nL s args wsL_law own) {n : Fin 4} {i q : Nat} {v : zv} (hv : v = vP none ∨ ∃ t, v = vA t) (hdg : decode cc pc = .ok (.aload_n n, 1)) (hi : (n : Nat) = i) (hq : lv[q]? = some (i, v)) (k : zs p l e R s m args below meth c Q Z sp b x A nL cells slots res co (pc + 1) lv (v :: stk) st) : zs p l e R s m args below meth c Q Z sp b x A nL cells slots res co (pc) lv (stk) st :=
  by
  rcases hv with rfl | ⟨t, rfl⟩
  · exact z_aload_n X hdg hi hq k
  · exact z_aloadA_n X hdg hi hq k
theorem z_callA (X : CallFix p m c cc nL s args wsL_law own)(hK : zK Z b A s) {y : MethodName} {bytes : ByteArray} {maxL : Nat} {ret : Option FieldType} {rm : Room} {index n : Nat} {ρ : Type} {rho : ρ → List zv} {As : List zv} {body : ρ × zS → Option σ} {stk0 : List zv} {f : Option (ρ × zS)} {i : Nat} (hi : i < 12) (hM : zC l Z sp b x y (.code y bytes maxL ret) rm rho (vA (Z.2.2.2.1 i) :: As) st f)
    (hlk : ∀ w ∈ ([.methodLink own index y, .instanceMethod y, .selects "java/lang/String" y y, .initialized "java/lang/String", .code y bytes maxL ret] : List Cond), w ∈ wsL_law) (hrm : rm.cells = 0 ∧ rm.slots = 0) (hd : y.cls = "java/lang/String" ∧ y.cls ≠ "java/lang/invoke/MethodHandle" ∧ y.cls ≠ "java/lang/invoke/VarHandle" ∧ (parseMethodDescriptor y.desc).map (fun d => d.parameters.length) = some n) (hR : rm.frames + 1 ≤ R.frames ∧ 8 + (maxL + 11) + rm.locals ≤ R.locals) (hcs : cells ≤ R.cells ∧ slots ≤ R.slots)
    (hn : As.length = n) (hst : stk0 = As.reverse ++ vA (Z.2.2.2.1 i) :: stk) (hcat : zcats stk ≤ 8) (hdg : decode cc pc = .ok (.invokevirtual index, 3))
    (kk : ∀ q, zs p l e R s m args below meth c Q Z sp b x A nL cells slots res (body q) (pc + 3) lv (rho q.1 ++ stk) q.2) : zs p l e R s m args below meth c Q Z sp b x A nL cells slots res (f.bind body) (pc) lv (stk0) st := by
  cases hf : f with
  | none => exact z_none
  | some q =>
  subst hst
  intro hc H locs ls hI hS hl
  have hG : GoodIn wsL_law (wsV own index "java/lang/String" y (.code y bytes maxL ret :: wsL_law)) := by
    intro w hw
    have hw2 : w ∈ wsL_law := by
      rcases List.mem_append.mp hw with h | h
      · exact hlk w (by simp only [List.mem_cons] at h ⊢; rcases h with h | h | h | h | h <;> simp_all)
      · rcases List.mem_cons.mp h with h | h
        · exact hlk w (by simp [h])
        · exact h
    exact ⟨hw2, zGood w hw2⟩
  have hrun := va_runV (l := l) (e := e) (below := below) (meth := meth) (H := H) (locs := locs) (cells := cells) (slots := slots) (mc := 0) (ms := 0) (As := zm b As) (rest := zm b stk) (b := Z.2.2.2.1 i) (C := "java/lang/String") (g := F0 m pc ls (zm b (As.reverse ++ vA (Z.2.2.2.1 i) :: stk))) X (hM q hf) (cwV n X.2.2.2.2 hG rfl hrm.1 hrm.2 hd hR) ⟨zBlind, vk_recv (zB_str hK) hi hS, fun U hU hW => ⟨rfl, by rw [hU]; exact zI_in hI, va_K.moved hW.alike hK.1, zB_warm hK.2.1 hW (fun a h1 h2 => by rw [hU]; exact hS.2.1 a h1 (fun z => absurd (hK.2.2 a z) (Nat.not_le.mpr h2)))⟩⟩ rfl (by unfold zm; rw [List.length_map]; exact hn) hl.1 (by rw [zm_app]; unfold zm; rw [List.map_reverse]; rfl) (by rw [zcats_eq]; show 2 * 0 + _ ≤ 8; omega) hdg hcs
  intro T hT X'
  obtain ⟨v, st₀, t, T', L, h0, X', hL, e1, e2, ⟨⟨⟨v', hv, hv2⟩, hI'⟩, hz, hk⟩, st'⟩ := hrun T hT X'
  cases hv
  rw [h0] at hz hk
  rw [hv2, ← zm_app] at st'
  obtain ⟨t2, a1, b1⟩ := kk q hc T'.heap (locs ++ L) ls (by rw [e1]; exact zI_out hI hI')
    ⟨Nat.le_trans hS.1 (by rw [e1]; exact hz), fun q h1 h2 => by rw [e1, hk q (Nat.lt_of_lt_of_le h1 hS.1) (fun z => h2 (zA_sub hI q z))]; exact hS.2.1 q h1 h2, fun q hq => by
      rcases List.mem_append.mp hq with h | h
      · exact hS.2.2 q h
      · exact zA_sub hI _ (hL q h)⟩ hl T' rfl X'
  exact ⟨t2, st' t2 a1, b1⟩
theorem z_copy (X : CallFix p m c cc nL s args wsL_law own)(hK : zK Z b A s) (hx : x = none) {r t : Option Nat} {a d n : Int32} {index : Nat} {f : Nat → Nat → zS → Option σ} (hlk : ∀ w ∈ ([.methodLink own index arraycopyName, .native arraycopyName, .static arraycopyName, .initialized "java/lang/System"] : List Cond), w ∈ wsL_law) (hR : 1 ≤ R.frames ∧ 40 ≤ R.locals) (hcat : zcats stk ≤ 8) (hdg : decode cc pc = .ok (.invokestatic index, 3)) (kk : ∀ o1 o2 st1, zs p l e R s m args below meth c Q Z sp b x A nL cells slots res (f o1 o2 st1) (pc + 3) lv (stk) st1) : zs p l e R s m args below meth c Q Z sp b x A nL cells slots res ((zok sp st r 9).bind fun o1 => (zok sp st t 9).bind fun o2 => if zcpyBad sp o1 o2 a d n then none else zlet (zcpy st o1 o2 a d n) (f o1 o2)) (pc) lv (vI n :: vI d :: vP t :: vI a :: vP r :: stk) st :=
  by
  cases hr : zok sp st r 9 with
  | none => exact z_none
  | some o1 =>
  cases ht : zok sp st t 9 with
  | none => exact z_none
  | some o2 =>
  obtain ⟨rfl, ho1, hs1⟩ := zok_spec hr
  obtain ⟨rfl, ho2, hs2⟩ := zok_spec ht
  show zs p l e R s m args below meth c Q Z sp b x A nL cells slots res (if zcpyBad sp o1 o2 a d n then none else zlet (zcpy st o1 o2 a d n) (f o1 o2)) _ _ _ _
  refine z_ite (fun _ => z_none) (fun hb => ?_)
  simp only [zcpyBad, Bool.or_eq_true, decide_eq_true_eq, not_or] at hb
  obtain ⟨⟨⟨⟨h1, h2⟩, h3⟩, h4⟩, h5⟩ := hb
  intro hc H locs ls hI hS hl
  have he1 := zW_at (Z := Z) (sp := sp) (b := b) ho1
  rw [zE_arr hs1 (by omega)] at he1
  have he2 := zW_at (Z := Z) (sp := sp) (b := b) ho2
  rw [zE_arr hs2 (by omega)] at he2
  refine va_copyi X.1 X.2.1 (X.2.2.1.trans hl.1.symm) X.2.2.2.1 (X.2.2.2.2 _ (hlk _ (by simp))) (X.2.2.2.2 _ (hlk _ (by simp))) (X.2.2.2.2 _ (hlk _ (by simp))) (X.2.2.2.2 _ (hlk _ (by simp))) hK.1 hI.2.2 (zW_D hI.2.1) hS o1 o2 0 0 he1 he2 (ty := .int) rfl rfl rfl h1 h2 h3 (by omega) (by omega) (fun _ _ => rfl) hR.1 (by
    show ((zm b stk).map fun v => v.category).sum + _ ≤ _
    rw [zcats_eq]
    exact Nat.le_trans (Nat.add_le_add hcat (by decide +kernel : nativeFrameWords "java/lang/System" "arraycopy" 5 + 11 ≤ 32)) hR.2) hdg fun H1 locs1 hP hD hS1 => ?_
  refine kk o1 o2 _ hc H1 locs1 ls ⟨by subst hx; exact trivial, hI.2.1, ?_⟩ hS1 hl
  rw [← zW_set (st := st) (st' := zcpy st o1 o2 a d n) (o := o2) rfl (fun o' h => by unfold zE zcpy zV; simp [h])]
  have hE2 : zE Z sp b (zcpy st o1 o2 a d n) o2 = .inl (Z.2.1 (9 - 9), (sp o2).2, .inl (va_cpy (fun j => st.2.1 o1 j) (fun j => st.2.1 o2 j) a.toNatClampNeg d.toNatClampNeg n.toNatClampNeg)) := by
    rw [zE_arr hs2 (by omega)]
    unfold zcpy
    simp
  rw [hE2]
  exact hP
end ZSTR
theorem z_nret {p : Program} {l : Launch} {e : Env} {R : Room} {s : State} {m : MethodId} {args : Array Value} {below : List Frame} {meth : Method} {c : Code} {Z : zZ} {sp : Nat → Nat × Nat} {b : Nat} {x : Option Nat} {A : Nat → Prop} {nL cells slots : Nat} {pc : Nat} {lv : List (Nat × zv)} {st : zS} {cc : ByteArray} {own : String} (X : CallFix p m c cc nL s args wsL_law own) (hlocks : meth.locks = false) {ty : FieldType} (hr : meth.sig.returnType = some ty) {v : Int32} {res : Int32 × zS} (hn : narrow ty (.int v) = .int v) (hdg : decode cc pc = .ok (.ireturn, 1)) : zs p l e R s m args below meth c (MQ below (zQ rI Z sp b x A res) args s cells slots A) Z sp b x A nL cells slots res (some (v, st)) pc lv [.inl v] st := by
  intro hc H locs ls hI hS hl
  cases hc
  exact W.zret X.1 X.2.1 hr hn (fun t ht hW => ⟨⟨⟨_, rfl, rfl⟩, by rw [ht]; exact hI⟩, hS.F ht⟩) hS.2.2 hdg hlocks
