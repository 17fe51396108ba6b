set_option maxRecDepth 100000 in
set_option maxHeartbeats 8000000 in
theorem law_loop {p : Program} {e : Env} {s : State} {m : MethodId} {below : List Frame} {meth : Method} {c : Code} (l : Launch) {b L : Nat} {xs : Nat → Int32} (hx : p.tables.exec = Jvm.exec) (hb : c.code = code) (hr : meth.sig.returnType = ret) (hml : c.maxLocals = 4) (hown : s.vm.findClass RL = some m.cls) (hts : ∀ w ∈ wsL_law, w.before #[Value.ref b] s = true) (hX : va_X b L xs s s.heap) (hbl : b < s.heap.size) (hlocks : meth.locks = false) (hL : L ≤ 3072) {Z : zZ} {bX bM : Nat} (hbX : s.heap.size ≤ bX) (hbM : bM = bX + 59) (hKv : va_K Z.1 vwCl (zT Z.2.1) s) (hB : zB Z.2.2 bX s) {Inv : zS → zS → Prop} (hN : ∀ X M, Inv X M → X.1 = 59 ∧ M.1 = 16) (hT : LawT Inv) {cells slots : Nat} (hc1 : cells ≤ 600000) (hc2 : slots ≤ 7302250) : ∀ (n k : Nat) (ix : Int32) (stX stM : zS), k ≤ 3078 → 3100 < n + k → ix = nI k → Inv stX stM → ∀ (H : Heap) (locs : List Loc) (ls : Array Slot), zI Z spX bX none (zA bX 59) stX H → zI Z spM bM none (zA bM 16) stM H → va_S (fun q => s.heap.size ≤ q) s.heap H locs → lv_has ls 4 [(0, .ref b), (1, .ref bX), (2, .ref bM), (3, .int ix)] → W p l e room_1 s m #[Value.ref b] below meth c H locs cells slots (lw_Z below #[Value.ref b] s) (F0 m 18 ls []) := by
  obtain ⟨t_like, t_set, t_asker, t_told, t_asks, t_glad, t_feed, t_text, t_force, t_ask, t_day, t_row, t_rows, t_leave, t_gladdest, t_get, t_map, t_net, t_share, t_tells, t_film, t_drawn, t_chance, t_image, t_back, t_count, t_sheet, t_cell, t_copy, t_askers, t_taken⟩ := hT
  have hbA : ¬ s.heap.size ≤ b := Nat.not_le.mpr hbl
  have hcs : cells ≤ room_1.cells ∧ slots ≤ room_1.slots := ⟨hc1, hc2⟩
  intro n
  induction n with
  | zero => intro k ix stX stM hk hn; omega
  | succ n ih =>
    intro k ix stX stM hk hn hix hInv H locs ls hIX hIM hS hl
    refine lv_iload_n hx hb dL_law_18 rfl (lv_at hl 3 rfl) ?_
    refine lv_aload_n hx hb dL_law_19 rfl (lv_at hl 0 rfl) ?_
    refine va_slen hx hb hX hbl hbA hS dL_law_20 ?_
    refine lv_bipush (v := 6) hx hb dL_law_21 (by decide) ?_
    refine lv_isub hx hb dL_law_23 ?_
    refine lv_icmp_gt (tgt := 1253) hx hb dL_law_24 (by decide) (fun _ => ?_) (fun hcond => ?_)
    · refine lv_iconst (v := 1) hx hb dL_law_1253 (by decide) ?_
      refine va_forget (fun q hq => hS.2.2 q hq) ?_
      refine W.widen (k := 600000) (n := 7302250) hc1 hc2 ?_
      exact lw_ret hx hb hr hlocks dL_law_1254
    · have hk6 : k + 6 ≤ L := lw_more hL hk (by rw [← hix]; exact hcond)
      refine lv_aload_n hx hb dL_law_27 rfl (lv_at hl 0 rfl) ?_
      refine lv_iload_n hx hb dL_law_28 rfl (lv_at hl 3 rfl) ?_
      refine va_sld hx hb hX hbl hbA hS (by rw [hix]; exact vp_in_nI (by omega) (by omega)) dL_law_29 ?_
      refine lv_bipush (v := 31) hx hb dL_law_30 (by decide) ?_
      refine lv_iand hx hb dL_law_32 ?_
      generalize hv : xs ix.toNatClampNeg &&& 31 = v
      have hgo : ∀ (H1 : Heap) (locs1 : List Loc) (X1 M1 : zS), Inv X1 M1 → zI Z spX bX none (zA bX 59) X1 H1 → zI Z spM bM none (zA bM 16) M1 H1 → va_S (fun q => s.heap.size ≤ q) s.heap H1 locs1 → W p l e room_1 s m #[Value.ref b] below meth c H1 locs1 cells slots (lw_Z below #[Value.ref b] s) (F0 m 1247 ls []) := by
        intro H1 locs1 X1 M1 hI1 hX1 hM1 hS1
        refine lv_iinc (v := ix + 6) (lv' := [(3, .int (ix + 6)), (0, .ref b), (1, .ref bX), (2, .ref bM)]) hx hb dL_law_1247 hl (k := 3) rfl rfl (by decide) rfl (fun ls hl => ?_)
        refine lv_goto (tgt := 18) hx hb dL_law_1250 (by decide) ?_
        exact ih (k + 6) (ix + 6) X1 M1 (by omega) (by omega) (by rw [hix]; exact nI_add k 6) hI1 H1 locs1 ls hX1 hM1 hS1 (lv_sub hl [1, 2, 3, 0] rfl)
      by_cases h0 : v = nI 0
      · refine lv_tableIn (off := 139) (tgt := 172) hx hb dL_law_33 (by rw [h0]; decide) (by rw [h0]; decide) (by rw [h0]; rfl) (by decide) ?_
        exact law_like l hx hb hr hml hown hts hX hbl hlocks hL hbX hbM hKv hB hN t_like hcs hix hk6 hInv hIX hIM hS hl hgo
      by_cases h1 : v = nI 1
      · refine lv_tableIn (off := 182) (tgt := 215) hx hb dL_law_33 (by rw [h1]; decide) (by rw [h1]; decide) (by rw [h1]; rfl) (by decide) ?_
        exact law_set l hx hb hr hml hown hts hX hbl hlocks hL hbX hbM hKv hB hN t_set hcs hix hk6 hInv hIX hIM hS hl hgo
      by_cases h2 : v = nI 2
      · refine lv_tableIn (off := 225) (tgt := 258) hx hb dL_law_33 (by rw [h2]; decide) (by rw [h2]; decide) (by rw [h2]; rfl) (by decide) ?_
        exact law_asker l hx hb hr hml hown hts hX hbl hlocks hL hbX hbM hKv hB hN t_asker hcs hix hk6 hInv hIX hIM hS hl hgo
      by_cases h3 : v = nI 3
      · refine lv_tableIn (off := 258) (tgt := 291) hx hb dL_law_33 (by rw [h3]; decide) (by rw [h3]; decide) (by rw [h3]; rfl) (by decide) ?_
        exact law_told l hx hb hr hml hown hts hX hbl hlocks hL hbX hbM hKv hB hN t_told hcs hix hk6 hInv hIX hIM hS hl hgo
      by_cases h4 : v = nI 4
      · refine lv_tableIn (off := 291) (tgt := 324) hx hb dL_law_33 (by rw [h4]; decide) (by rw [h4]; decide) (by rw [h4]; rfl) (by decide) ?_
        exact law_asks l hx hb hr hml hown hts hX hbl hlocks hL hbX hbM hKv hB hN t_asks hcs hix hk6 hInv hIX hIM hS hl hgo
      by_cases h5 : v = nI 5
      · refine lv_tableIn (off := 334) (tgt := 367) hx hb dL_law_33 (by rw [h5]; decide) (by rw [h5]; decide) (by rw [h5]; rfl) (by decide) ?_
        exact law_glad l hx hb hr hml hown hts hX hbl hlocks hL hbX hbM hKv hB hN t_glad hcs hix hk6 hInv hIX hIM hS hl hgo
      by_cases h6 : v = nI 6
      · refine lv_tableIn (off := 367) (tgt := 400) hx hb dL_law_33 (by rw [h6]; decide) (by rw [h6]; decide) (by rw [h6]; rfl) (by decide) ?_
        exact law_feed l hx hb hr hml hown hts hX hbl hlocks hL hbX hbM hKv hB hN t_feed hcs hix hk6 hInv hIX hIM hS hl hgo
      by_cases h7 : v = nI 7
      · refine lv_tableIn (off := 390) (tgt := 423) hx hb dL_law_33 (by rw [h7]; decide) (by rw [h7]; decide) (by rw [h7]; rfl) (by decide) ?_
        exact law_text l hx hb hr hml hown hts hX hbl hlocks hL hbX hbM hKv hB hN t_text hcs hix hk6 hInv hIX hIM hS hl hgo
      by_cases h8 : v = nI 8
      · refine lv_tableIn (off := 403) (tgt := 436) hx hb dL_law_33 (by rw [h8]; decide) (by rw [h8]; decide) (by rw [h8]; rfl) (by decide) ?_
        exact law_force l hx hb hr hml hown hts hX hbl hlocks hL hbX hbM hKv hB hN t_force hcs hix hk6 hInv hIX hIM hS hl hgo
      by_cases h9 : v = nI 9
      · refine lv_tableIn (off := 426) (tgt := 459) hx hb dL_law_33 (by rw [h9]; decide) (by rw [h9]; decide) (by rw [h9]; rfl) (by decide) ?_
        exact law_ask l hx hb hr hml hown hts hX hbl hlocks hL hbX hbM hKv hB hN t_ask hcs hix hk6 hInv hIX hIM hS hl hgo
      by_cases h10 : v = nI 10
      · refine lv_tableIn (off := 459) (tgt := 492) hx hb dL_law_33 (by rw [h10]; decide) (by rw [h10]; decide) (by rw [h10]; rfl) (by decide) ?_
        exact law_day l hx hb hr hml hown hts hX hbl hlocks hL hbX hbM hKv hB hN t_day hcs hix hk6 hInv hIX hIM hS hl hgo
      by_cases h11 : v = nI 11
      · refine lv_tableIn (off := 472) (tgt := 505) hx hb dL_law_33 (by rw [h11]; decide) (by rw [h11]; decide) (by rw [h11]; rfl) (by decide) ?_
        exact law_row l hx hb hr hml hown hts hX hbl hlocks hL hbX hbM hKv hB hN t_row hcs hix hk6 hInv hIX hIM hS hl hgo
      by_cases h12 : v = nI 12
      · refine lv_tableIn (off := 515) (tgt := 548) hx hb dL_law_33 (by rw [h12]; decide) (by rw [h12]; decide) (by rw [h12]; rfl) (by decide) ?_
        exact law_rows l hx hb hr hml hown hts hX hbl hlocks hL hbX hbM hKv hB hN t_rows hcs hix hk6 hInv hIX hIM hS hl hgo
      by_cases h13 : v = nI 13
      · refine lv_tableIn (off := 548) (tgt := 581) hx hb dL_law_33 (by rw [h13]; decide) (by rw [h13]; decide) (by rw [h13]; rfl) (by decide) ?_
        exact law_leave l hx hb hr hml hown hts hX hbl hlocks hL hbX hbM hKv hB hN t_leave hcs hix hk6 hInv hIX hIM hS hl hgo
      by_cases h14 : v = nI 14
      · refine lv_tableIn (off := 591) (tgt := 624) hx hb dL_law_33 (by rw [h14]; decide) (by rw [h14]; decide) (by rw [h14]; rfl) (by decide) ?_
        exact law_gladdest l hx hb hr hml hown hts hX hbl hlocks hL hbX hbM hKv hB hN t_gladdest hcs hix hk6 hInv hIX hIM hS hl hgo
      by_cases h15 : v = nI 15
      · refine lv_tableIn (off := 624) (tgt := 657) hx hb dL_law_33 (by rw [h15]; decide) (by rw [h15]; decide) (by rw [h15]; rfl) (by decide) ?_
        exact law_get l hx hb hr hml hown hts hX hbl hlocks hL hbX hbM hKv hB hN t_get hcs hix hk6 hInv hIX hIM hS hl hgo
      by_cases h16 : v = nI 16
      · refine lv_tableIn (off := 667) (tgt := 700) hx hb dL_law_33 (by rw [h16]; decide) (by rw [h16]; decide) (by rw [h16]; rfl) (by decide) ?_
        exact law_map l hx hb hr hml hown hts hX hbl hlocks hL hbX hbM hKv hB hN t_map hcs hix hk6 hInv hIX hIM hS hl hgo
      by_cases h17 : v = nI 17
      · refine lv_tableIn (off := 690) (tgt := 723) hx hb dL_law_33 (by rw [h17]; decide) (by rw [h17]; decide) (by rw [h17]; rfl) (by decide) ?_
        exact law_net l hx hb hr hml hown hts hX hbl hlocks hL hbX hbM hKv hB hN t_net hcs hix hk6 hInv hIX hIM hS hl hgo
      by_cases h18 : v = nI 18
      · refine lv_tableIn (off := 713) (tgt := 746) hx hb dL_law_33 (by rw [h18]; decide) (by rw [h18]; decide) (by rw [h18]; rfl) (by decide) ?_
        exact law_share l hx hb hr hml hown hts hX hbl hlocks hL hbX hbM hKv hB hN t_share hcs hix hk6 hInv hIX hIM hS hl hgo
      by_cases h19 : v = nI 19
      · refine lv_tableIn (off := 747) (tgt := 780) hx hb dL_law_33 (by rw [h19]; decide) (by rw [h19]; decide) (by rw [h19]; rfl) (by decide) ?_
        exact law_tells l hx hb hr hml hown hts hX hbl hlocks hL hbX hbM hKv hB hN t_tells hcs hix hk6 hInv hIX hIM hS hl hgo
      by_cases h20 : v = nI 20
      · refine lv_tableIn (off := 790) (tgt := 823) hx hb dL_law_33 (by rw [h20]; decide) (by rw [h20]; decide) (by rw [h20]; rfl) (by decide) ?_
        exact law_film l hx hb hr hml hown hts hX hbl hlocks hL hbX hbM hKv hB hN t_film hcs hix hk6 hInv hIX hIM hS hl hgo
      by_cases h21 : v = nI 21
      · refine lv_tableIn (off := 823) (tgt := 856) hx hb dL_law_33 (by rw [h21]; decide) (by rw [h21]; decide) (by rw [h21]; rfl) (by decide) ?_
        exact law_drawn l hx hb hr hml hown hts hX hbl hlocks hL hbX hbM hKv hB hN t_drawn hcs hix hk6 hInv hIX hIM hS hl hgo
      by_cases h22 : v = nI 22
      · refine lv_tableIn (off := 866) (tgt := 899) hx hb dL_law_33 (by rw [h22]; decide) (by rw [h22]; decide) (by rw [h22]; rfl) (by decide) ?_
        exact law_chance l hx hb hr hml hown hts hX hbl hlocks hL hbX hbM hKv hB hN t_chance hcs hix hk6 hInv hIX hIM hS hl hgo
      by_cases h23 : v = nI 23
      · refine lv_tableIn (off := 930) (tgt := 963) hx hb dL_law_33 (by rw [h23]; decide) (by rw [h23]; decide) (by rw [h23]; rfl) (by decide) ?_
        exact law_image l hx hb hr hml hown hts hX hbl hlocks hL hbX hbM hKv hB hN t_image hcs hix hk6 hInv hIX hIM hS hl hgo
      by_cases h24 : v = nI 24
      · refine lv_tableIn (off := 943) (tgt := 976) hx hb dL_law_33 (by rw [h24]; decide) (by rw [h24]; decide) (by rw [h24]; rfl) (by decide) ?_
        exact law_back l hx hb hr hml hown hts hX hbl hlocks hL hbX hbM hKv hB hN t_back hcs hix hk6 hInv hIX hIM hS hl hgo
      by_cases h25 : v = nI 25
      · refine lv_tableIn (off := 956) (tgt := 989) hx hb dL_law_33 (by rw [h25]; decide) (by rw [h25]; decide) (by rw [h25]; rfl) (by decide) ?_
        exact law_count l hx hb hr hml hown hts hX hbl hlocks hL hbX hbM hKv hB hN t_count hcs hix hk6 hInv hIX hIM hS hl hgo
      by_cases h26 : v = nI 26
      · refine lv_tableIn (off := 979) (tgt := 1012) hx hb dL_law_33 (by rw [h26]; decide) (by rw [h26]; decide) (by rw [h26]; rfl) (by decide) ?_
        exact law_sheet l hx hb hr hml hown hts hX hbl hlocks hL hbX hbM hKv hB hN t_sheet hcs hix hk6 hInv hIX hIM hS hl hgo
      by_cases h27 : v = nI 27
      · refine lv_tableIn (off := 1022) (tgt := 1055) hx hb dL_law_33 (by rw [h27]; decide) (by rw [h27]; decide) (by rw [h27]; rfl) (by decide) ?_
        exact law_cell l hx hb hr hml hown hts hX hbl hlocks hL hbX hbM hKv hB hN t_cell hcs hix hk6 hInv hIX hIM hS hl hgo
      by_cases h28 : v = nI 28
      · refine lv_tableIn (off := 1065) (tgt := 1098) hx hb dL_law_33 (by rw [h28]; decide) (by rw [h28]; decide) (by rw [h28]; rfl) (by decide) ?_
        exact law_copy l hx hb hr hml hown hts hX hbl hlocks hL hbX hbM hKv hB hN t_copy hcs hix hk6 hInv hIX hIM hS hl hgo
      by_cases h29 : v = nI 29
      · refine lv_tableIn (off := 1128) (tgt := 1161) hx hb dL_law_33 (by rw [h29]; decide) (by rw [h29]; decide) (by rw [h29]; rfl) (by decide) ?_
        exact law_askers l hx hb hr hml hown hts hX hbl hlocks hL hbX hbM hKv hB hN t_askers hcs hix hk6 hInv hIX hIM hS hl hgo
      by_cases h30 : v = nI 30
      · refine lv_tableIn (off := 1181) (tgt := 1214) hx hb dL_law_33 (by rw [h30]; decide) (by rw [h30]; decide) (by rw [h30]; rfl) (by decide) ?_
        exact law_taken l hx hb hr hml hown hts hX hbl hlocks hL hbX hbM hKv hB hN t_taken hcs hix hk6 hInv hIX hIM hS hl hgo
      refine lv_tableOut (tgt := 1247) hx hb dL_law_33 ?_ (by decide) (hgo H locs stX stM hInv hIX hIM hS)
      rw [← hv]
      refine lw_and31 _ (fun j hj he => ?_)
      rw [hv] at he
      rcases (show j = 0 ∨ j = 1 ∨ j = 2 ∨ j = 3 ∨ j = 4 ∨ j = 5 ∨ j = 6 ∨ j = 7 ∨ j = 8 ∨ j = 9 ∨ j = 10 ∨ j = 11 ∨ j = 12 ∨ j = 13 ∨ j = 14 ∨ j = 15 ∨ j = 16 ∨ j = 17 ∨ j = 18 ∨ j = 19 ∨ j = 20 ∨ j = 21 ∨ j = 22 ∨ j = 23 ∨ j = 24 ∨ j = 25 ∨ j = 26 ∨ j = 27 ∨ j = 28 ∨ j = 29 ∨ j = 30 by omega) with rfl | rfl | rfl | rfl | rfl | rfl | rfl | rfl | rfl | rfl | rfl | rfl | rfl | rfl | rfl | rfl | rfl | rfl | rfl | rfl | rfl | rfl | rfl | rfl | rfl | rfl | rfl | rfl | rfl | rfl | rfl
      · exact h0 he
      · exact h1 he
      · exact h2 he
      · exact h3 he
      · exact h4 he
      · exact h5 he
      · exact h6 he
      · exact h7 he
      · exact h8 he
      · exact h9 he
      · exact h10 he
      · exact h11 he
      · exact h12 he
      · exact h13 he
      · exact h14 he
      · exact h15 he
      · exact h16 he
      · exact h17 he
      · exact h18 he
      · exact h19 he
      · exact h20 he
      · exact h21 he
      · exact h22 he
      · exact h23 he
      · exact h24 he
      · exact h25 he
      · exact h26 he
      · exact h27 he
      · exact h28 he
      · exact h29 he
      · exact h30 he
