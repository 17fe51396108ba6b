theorem zst_1 : Cond.classLink RL 7 RX7 ∈ wsL_law := zr_1 _ (by decide +kernel)
theorem zst_2 : Cond.instantiable RX7 14 ∈ wsL_law := zr_1 _ (by decide +kernel)
theorem zst_3 : Cond.initialized RX7 ∈ wsL_law := zr_1 _ (by decide +kernel)
theorem hsn7 : ∀ w ∈ ([Cond.classLink RL 7 RX7, Cond.instantiable RX7 14, Cond.initialized RX7] : List Cond), w ∈ wsL_law := List.forall_mem_cons.mpr ⟨zst_1, List.forall_mem_cons.mpr ⟨zst_2, List.forall_mem_cons.mpr ⟨zst_3, fun _ h => absurd h List.not_mem_nil⟩⟩⟩
theorem zst_4 : Cond.classLink RL 10 RX8 ∈ wsL_law := zr_1 _ (by decide +kernel)
theorem zst_5 : Cond.instantiable RX8 46 ∈ wsL_law := zr_1 _ (by decide +kernel)
theorem zst_6 : Cond.initialized RX8 ∈ wsL_law := zr_1 _ (by decide +kernel)
theorem hsn8 : ∀ w ∈ ([Cond.classLink RL 10 RX8, Cond.instantiable RX8 46, Cond.initialized RX8] : List Cond), w ∈ wsL_law := List.forall_mem_cons.mpr ⟨zst_4, List.forall_mem_cons.mpr ⟨zst_5, List.forall_mem_cons.mpr ⟨zst_6, fun _ h => absurd h List.not_mem_nil⟩⟩⟩
theorem zst_7 : Cond.methodLink RL 9 yX7_init ∈ wsL_law := zr_1 _ (by decide +kernel)
theorem zst_8 : Cond.instanceMethod yX7_init ∈ wsL_law := zr_1 _ (by decide +kernel)
theorem zst_9 : Cond.code yX7_init cX7_init 2 none ∈ wsL_law := zr_1 _ (by decide +kernel)
theorem hsi7 : ∀ w ∈ ([Cond.methodLink RL 9 yX7_init, Cond.instanceMethod yX7_init, Cond.initialized RX7, Cond.code yX7_init cX7_init 2 none] : List Cond), w ∈ wsL_law := List.forall_mem_cons.mpr ⟨zst_7, List.forall_mem_cons.mpr ⟨zst_8, List.forall_mem_cons.mpr ⟨zst_3, List.forall_mem_cons.mpr ⟨zst_9, fun _ h => absurd h List.not_mem_nil⟩⟩⟩⟩
theorem hsd7 : yX7_init.cls = RX7 ∧ yX7_init.cls ≠ "java/lang/invoke/MethodHandle" ∧ yX7_init.cls ≠ "java/lang/invoke/VarHandle" ∧ (parseMethodDescriptor yX7_init.desc).map (fun d => d.parameters.length) = some 0 := by decide +kernel
theorem hsv7 : ∀ j, j < 14 → defaultValue (tyX7 j) = zdv (zg 7 j) := fun j hj => by rcases (show j = 0 ∨ j = 1 ∨ j = 2 ∨ j = 3 ∨ j = 4 ∨ j = 5 ∨ j = 6 ∨ j = 7 ∨ j = 8 ∨ j = 9 ∨ j = 10 ∨ j = 11 ∨ j = 12 ∨ j = 13 by omega) with rfl | rfl | rfl | rfl | rfl | rfl | rfl | rfl | rfl | rfl | rfl | rfl | rfl | rfl <;> rfl
theorem zst_10 : Cond.methodLink RL 12 yX8_init ∈ wsL_law := zr_5 _ (by decide +kernel)
theorem zst_11 : Cond.instanceMethod yX8_init ∈ wsL_law := zr_5 _ (by decide +kernel)
theorem zst_12 : Cond.code yX8_init cX8_init 4 none ∈ wsL_law := zr_6 _ (by decide +kernel)
theorem hsi8 : ∀ w ∈ ([Cond.methodLink RL 12 yX8_init, Cond.instanceMethod yX8_init, Cond.initialized RX8, Cond.code yX8_init cX8_init 4 none] : List Cond), w ∈ wsL_law := List.forall_mem_cons.mpr ⟨zst_10, List.forall_mem_cons.mpr ⟨zst_11, List.forall_mem_cons.mpr ⟨zst_6, List.forall_mem_cons.mpr ⟨zst_12, fun _ h => absurd h List.not_mem_nil⟩⟩⟩⟩
theorem hsd8 : yX8_init.cls = RX8 ∧ yX8_init.cls ≠ "java/lang/invoke/MethodHandle" ∧ yX8_init.cls ≠ "java/lang/invoke/VarHandle" ∧ (parseMethodDescriptor yX8_init.desc).map (fun d => d.parameters.length) = some 0 := by decide +kernel
theorem hsv8 : ∀ j, j < 46 → defaultValue (tyX8 j) = zdv (zg 8 j) := fun j hj => by rcases (show j = 0 ∨ j = 1 ∨ j = 2 ∨ j = 3 ∨ j = 4 ∨ j = 5 ∨ j = 6 ∨ j = 7 ∨ j = 8 ∨ j = 9 ∨ j = 10 ∨ j = 11 ∨ j = 12 ∨ j = 13 ∨ j = 14 ∨ j = 15 ∨ j = 16 ∨ j = 17 ∨ j = 18 ∨ j = 19 ∨ j = 20 ∨ j = 21 ∨ j = 22 ∨ j = 23 ∨ j = 24 ∨ j = 25 ∨ j = 26 ∨ j = 27 ∨ j = 28 ∨ j = 29 ∨ j = 30 ∨ j = 31 ∨ j = 32 ∨ j = 33 ∨ j = 34 ∨ j = 35 ∨ j = 36 ∨ j = 37 ∨ j = 38 ∨ j = 39 ∨ j = 40 ∨ j = 41 ∨ j = 42 ∨ j = 43 ∨ j = 44 ∨ j = 45 by omega) with rfl | rfl | rfl | rfl | rfl | rfl | rfl | rfl | rfl | rfl | rfl | rfl | rfl | rfl | rfl | rfl | rfl | rfl | rfl | rfl | rfl | rfl | rfl | rfl | rfl | rfl | rfl | rfl | rfl | rfl | rfl | rfl | rfl | rfl | rfl | rfl | rfl | rfl | rfl | rfl | rfl | rfl | rfl | rfl | rfl | rfl <;> rfl
set_option maxHeartbeats 8000000 in
set_option maxRecDepth 100000 in
/-- the law, from its entry, once the pure functions are known to answer alike -/
theorem whole_start_open {p : Program} {e : Env} {s : State} {m : MethodId} {below : List Frame} {meth : Method} {c : Code} (l : Launch) {b L : Nat} {xs : Nat → Int32} (hL : L ≤ 3072) (C0 : lw_At p s m meth c b L xs) {Inv : zS → zS → Prop} (hN : ∀ X M, Inv X M → X.1 = 59 ∧ M.1 = 16) (hT : LawT Inv) {X0 M0 : zS} (eX : fX7_init 0 (znew z0) = some ((), X0)) (eM : fX8_init 0 (znew z0) = some ((), M0)) (hI0 : Inv X0 M0) : W p l e room_1 s m #[Value.ref b] below meth c s.heap [] 0 0 (lw_Z below #[Value.ref b] s) (entryFrame m ([Value.ref b] : List Value).toArray 4) := by
  obtain ⟨hx, hb, hr, hml, hown, hts, hX, hbl, hlocks, hgv⟩ := id C0
  have hts2 : ∀ w ∈ wsL_law, w.before #[Value.ref b] s = true := fun w h => hts w (zin_law w h)
  obtain ⟨D, dA, hKv⟩ := start_K hts
  obtain ⟨E, hB⟩ := start_B hts hgv
  have hAO : ∀ C ∈ zAOs, va_AO C s := fun C hC => va_AO.of (hts _ (zs_ao C hC))
  have XC : CallFix p m c code 4 s #[Value.ref b] wsL_law RL := ⟨hx, hb, hml, hown, hts2⟩
  have hS : va_S (fun q : Nat => s.heap.size ≤ q) s.heap s.heap [] := va_S.rf
  have hl := lv_entry ([.ref b]) (n := 4) (Nat.le_of_ble_eq_true rfl)
  rw [lg_entry_eq]
  generalize (lg_sl ([.ref b]) ++ List.replicate (4 - (lg_sl ([.ref b])).length) Slot.unset).toArray = ls at hl ⊢
  have hl : lv_has ls 4 [(0, .ref b)] := hl
  refine lw_new (Z := (D, dA, E)) (sp := spX) (N := 14) (ci := 7) XC hKv rfl (by decide) inlX7 tyX7 tyX7_ok hsv7 hsn7 rfl (Nat.le_of_ble_eq_true rfl) (Nat.le_of_ble_eq_true rfl) hS dL_law_0 (fun H1 z1 o1 hI1 hS1 => ?_)
  refine lv_dup hx hb dL_law_3 rfl ?_
  refine lw_init (Z := (D, dA, E)) (sp := spX) (b := s.heap.size) (mc := 58) (ms := 2644) (rest := [.ref s.heap.size]) XC hKv hB hAO (kX7_init l (D, dA, E) s.heap.size 0 (znew z0)) eX hsi7 rfl ⟨rfl, rfl⟩ hsd7.2 ⟨Nat.le_of_ble_eq_true rfl, Nat.le_of_ble_eq_true rfl⟩ ⟨Nat.le_of_ble_eq_true rfl, Nat.le_of_ble_eq_true rfl⟩ hI1 (fun q h => h) (fun q h => h) hS1 hl.1 (Nat.le_of_ble_eq_true rfl) dL_law_4 (fun H2 locs2 o2 hI2 hS2 => ?_)
  refine lv_astore_n (lv' := [(1, .ref s.heap.size), (0, .ref b)]) hx hb dL_law_7 rfl hl (by decide) rfl (fun ls hl => ?_)
  have hn := hN _ _ hI0
  have hz2 : H2.size = s.heap.size + 59 := by
    have h : H2.size = s.heap.size + X0.1 + 0 := hI2.1
    rw [hn.1] at h
    exact h
  have hIX : zI (D, dA, E) spX s.heap.size none (zA s.heap.size 59) X0 H2 := zI_close hI2 hn.1
  refine lw_new (Z := (D, dA, E)) (sp := spM) (N := 46) (ci := 8) XC hKv rfl (by decide) inlX8 tyX8 tyX8_ok hsv8 hsn8 rfl (Nat.le_of_ble_eq_true rfl) (Nat.le_of_ble_eq_true rfl) hS2 dL_law_8 (fun H3 z3 o3 hI3 hS3 => ?_)
  have hIX := zI_stay (H1 := H3) (F := fun q => H2.size ≤ q) hIX (fun q h1 h2 => by have h3 : H2.size ≤ q := h2; have h4 : q < s.heap.size + 59 := h1.2; omega) (fun q h1 h2 => o3 q h1)
  refine lv_dup hx hb dL_law_11 rfl ?_
  refine lw_init (Z := (D, dA, E)) (sp := spM) (b := H2.size) (mc := 15) (ms := 1697) (rest := [.ref H2.size]) XC hKv (zB_mono hB (by omega)) hAO (kX8_init l (D, dA, E) H2.size 0 (znew z0)) eM hsi8 rfl ⟨rfl, rfl⟩ hsd8.2 ⟨Nat.le_of_ble_eq_true rfl, Nat.le_of_ble_eq_true rfl⟩ ⟨Nat.le_of_ble_eq_true rfl, Nat.le_of_ble_eq_true rfl⟩ hI3 (fun q h => Nat.le_trans (by omega) h) (fun q h => h) hS3 hl.1 (Nat.le_of_ble_eq_true rfl) dL_law_12 (fun H4 locs4 o4 hI4 hS4 => ?_)
  have hIX := zI_stay (H1 := H4) (F := fun q => H2.size ≤ q) hIX (fun q h1 h2 => by have h3 : H2.size ≤ q := h2; have h4 : q < s.heap.size + 59 := h1.2; omega) o4
  have hIM : zI (D, dA, E) spM H2.size none (zA H2.size 16) M0 H4 := zI_close hI4 hn.2
  refine lv_astore_n (lv' := [(2, .ref H2.size), (1, .ref s.heap.size), (0, .ref b)]) hx hb dL_law_15 rfl hl (by decide) rfl (fun ls hl => ?_)
  refine lv_iconst (v := 0) hx hb dL_law_16 (by decide) ?_
  refine lv_istore_n (lv' := [(3, .int 0), (2, .ref H2.size), (1, .ref s.heap.size), (0, .ref b)]) hx hb dL_law_17 rfl hl (by decide) rfl (fun ls hl => ?_)
  exact law_loop l hx hb hr hml hown hts2 hX hbl hlocks hL (Z := (D, dA, E)) (bX := s.heap.size) (bM := H2.size) (Nat.le_refl _) hz2 hKv hB hN hT (Nat.le_of_ble_eq_true rfl) (Nat.le_of_ble_eq_true rfl) 3101 0 0 X0 M0 (by omega) (by omega) nI_0.symm hI0 H4 locs4 ls hIX hIM hS4 (lv_sub hl [3, 2, 1, 0] rfl)
