/-- all that Inv speaks of is as it was -/
def frC (X X' : zS) : Prop := X'.1 = X.1 ∧ (∀ o k, (o = 7 ∧ k = 2) ∨ X'.2.2.2 o k = X.2.2.2 o k) ∧ ∀ o k, o = 7 ∨ o = 8 ∨ (∃ t, t < 6 ∧ ((o = 27 + 4 * t ∧ k = 5) ∨ o = 30 + 4 * t)) ∨ X'.2.1 o k = X.2.1 o k
def frN (M M' : zS) : Prop := M'.1 = M.1 ∧ M'.2.2.2 = M.2.2.2 ∧ ∀ o k, (o = 0 ∧ 13 ≤ k ∧ k ≤ 38) ∨ o = 8 ∨ o = 9 ∨ M'.2.1 o k = M.2.1 o k
theorem frA.c {X X' : zS} (h : frA X X') : frC X X' := ⟨h.1, fun o k => Or.inr (by rw [h.2.1]), h.2.2⟩
theorem frC.rf (X : zS) : frC X X := (frA.rf X).c
theorem frC.tr {X Y Z : zS} (h : frC X Y) (g : frC Y Z) : frC X Z := ⟨g.1.trans h.1, fun o k => by
  rcases h.2.1 o k with a | a
  · exact Or.inl a
  · rcases g.2.1 o k with b | b
    · exact Or.inl b
    · exact Or.inr (b.trans a), fun o k => by
  rcases h.2.2 o k with a | a | a | a
  · exact Or.inl a
  · exact Or.inr (Or.inl a)
  · exact Or.inr (Or.inr (Or.inl a))
  · rcases g.2.2 o k with b | b | b | b
    · exact Or.inl b
    · exact Or.inr (Or.inl b)
    · exact Or.inr (Or.inr (Or.inl b))
    · exact Or.inr (Or.inr (Or.inr (b.trans a)))⟩
theorem frC.at {X X' : zS} (h : frC X X') {o k : Nat} (h7 : o ≠ 7) (h8 : o ≠ 8) (ht : o < 27 ∨ 51 ≤ o) : X'.2.1 o k = X.2.1 o k := by
  rcases h.2.2 o k with a | a | ⟨t, h1, h2⟩ | a
  · exact absurd a h7
  · exact absurd a h8
  · omega
  · exact a
theorem frC.code {X X' : zS} (h : frC X X') {t : Nat} (ht : t < 6) : (∀ k, X'.2.1 (27 + 4 * t) k = X.2.1 (27 + 4 * t) k ∨ k = 5) ∧ (∀ k, X'.2.1 (28 + 4 * t) k = X.2.1 (28 + 4 * t) k) ∧ (∀ k, X'.2.1 (29 + 4 * t) k = X.2.1 (29 + 4 * t) k) := by
  refine ⟨fun k => ?_, fun k => ?_, fun k => ?_⟩
  · rcases h.2.2 (27 + 4 * t) k with a | a | ⟨u, h1, h2⟩ | a
    · omega
    · omega
    · rcases h2 with h2 | h2
      · exact Or.inr h2.2
      · omega
    · exact Or.inl a
  · rcases h.2.2 (28 + 4 * t) k with a | a | ⟨u, h1, h2⟩ | a
    · omega
    · omega
    · omega
    · exact a
  · rcases h.2.2 (29 + 4 * t) k with a | a | ⟨u, h1, h2⟩ | a
    · omega
    · omega
    · omega
    · exact a
theorem frC.sh {X X' : zS} (h : frC X X') (hX : shX X) : shX X' := ⟨h.1.trans hX.1, fun o ho k hk => by
  rcases h.2.1 o k with a | a
  · exact Or.inl a
  · rw [a]; exact hX.2 o ho k hk⟩
theorem frB.fix {p : Nat} {M M' : zS} (h : frB p M M') (e : ∀ k, M'.2.1 6 k = M.2.1 6 k) : frN M M' := ⟨h.1, h.2.1, fun o k => by
  rcases h.2.2 o k with a | a | a
  · exact Or.inl ⟨a.1, a.2.1, by omega⟩
  · obtain ⟨rfl, -⟩ := a; exact Or.inr (Or.inr (Or.inr (e k)))
  · exact Or.inr (Or.inr (Or.inr a))⟩
theorem frM.n {M M' : zS} (h : frM M M') : frN M M' := ⟨h.1, h.2.1, fun o k => by
  rcases h.2.2 o k with a | a
  · exact Or.inl ⟨a.1, a.2.1, by omega⟩
  · exact Or.inr (Or.inr (Or.inr a))⟩
theorem frN.rf (M : zS) : frN M M := (frM.rf M).n
theorem frN.tr {X Y Z : zS} (h : frN X Y) (g : frN Y Z) : frN X Z := ⟨g.1.trans h.1, g.2.1.trans h.2.1, fun o k => by
  rcases h.2.2 o k with a | a | a | a
  · exact Or.inl a
  · exact Or.inr (Or.inl a)
  · exact Or.inr (Or.inr (Or.inl a))
  · rcases g.2.2 o k with b | b | b | b
    · exact Or.inl b
    · exact Or.inr (Or.inl b)
    · exact Or.inr (Or.inr (Or.inl b))
    · exact Or.inr (Or.inr (Or.inr (b.trans a)))⟩
theorem frN.at {M M' : zS} (h : frN M M') {o k : Nat} (h1 : o ≠ 0 ∨ k < 13 ∨ 38 < k) (h2 : o ≠ 8) (h3 : o ≠ 9) : M'.2.1 o k = M.2.1 o k := by
  rcases h.2.2 o k with a | a | a | a
  · omega
  · omega
  · omega
  · exact a
theorem frN.sh {M M' : zS} (h : frN M M') (hM : shM M) : shM M' := ⟨h.1.trans hM.1, fun o ho k hk => by rw [h.2.1]; exact hM.2 o ho k hk⟩
theorem Inv.keep {X M X' M' : zS} (h : Inv X M) (f : frC X X') (g : frN M M') : Inv X' M' := by
  obtain ⟨⟨hX, hM⟩, hL, hD, hA, hP, hF, hS, hI, hT⟩ := h
  have e1 : ∀ k, X'.2.1 1 k = X.2.1 1 k := fun k => f.at (by decide) (by decide) (Or.inl (by decide))
  have e0 : ∀ k, X'.2.1 0 k = X.2.1 0 k := fun k => f.at (by decide) (by decide) (Or.inl (by decide))
  have e2 : ∀ k, X'.2.1 2 k = X.2.1 2 k := fun k => f.at (by decide) (by decide) (Or.inl (by decide))
  have e3 : ∀ k, X'.2.1 3 k = X.2.1 3 k := fun k => f.at (by decide) (by decide) (Or.inl (by decide))
  have e14 : ∀ k, X'.2.1 14 k = X.2.1 14 k := fun k => f.at (by decide) (by decide) (Or.inl (by decide))
  have e15 : ∀ k, X'.2.1 15 k = X.2.1 15 k := fun k => f.at (by decide) (by decide) (Or.inl (by decide))
  have e17 : ∀ i k, i < 5 → X'.2.1 (17 + i) k = X.2.1 (17 + i) k := fun i k hi => f.at (by omega) (by omega) (Or.inl (by omega))
  have e22 : ∀ i k, i < 5 → X'.2.1 (22 + i) k = X.2.1 (22 + i) k := fun i k hi => f.at (by omega) (by omega) (Or.inl (by omega))
  have e51 : ∀ s k, X'.2.1 (51 + 2 * s) k = X.2.1 (51 + 2 * s) k := fun s k => f.at (by omega) (by omega) (Or.inr (by omega))
  have e52 : ∀ s k, X'.2.1 (52 + 2 * s) k = X.2.1 (52 + 2 * s) k := fun s k => f.at (by omega) (by omega) (Or.inr (by omega))
  have m : ∀ o k, o ≠ 0 → o ≠ 8 → o ≠ 9 → M'.2.1 o k = M.2.1 o k := fun o k h0 h8 h9 => g.at (Or.inl h0) h8 h9
  have m4 : (fun t => M'.2.1 4 t) = fun t => M.2.1 4 t := funext fun t => m 4 t (by decide) (by decide) (by decide)
  have m10 : (fun t => M'.2.1 10 t) = fun t => M.2.1 10 t := funext fun t => m 10 t (by decide) (by decide) (by decide)
  have m0 : ∀ k, k < 13 → M'.2.1 0 k = M.2.1 0 k := fun k hk => g.at (Or.inr (Or.inl hk)) (by decide) (by decide)
  have m39 : M'.2.1 0 39 = M.2.1 0 39 := g.at (Or.inr (Or.inr (by decide))) (by decide) (by decide)
  have m40 : M'.2.1 0 40 = M.2.1 0 40 := g.at (Or.inr (Or.inr (by decide))) (by decide) (by decide)
  have m41 : M'.2.1 0 41 = M.2.1 0 41 := g.at (Or.inr (Or.inr (by decide))) (by decide) (by decide)
  refine ⟨⟨f.sh hX, g.sh hM⟩, ?_, ?_, ?_, ?_, ?_, ?_, ?_, ?_⟩
  · refine ⟨fun t ht => by rw [e1, congrFun m4 t]; exact hL.1 t ht, by rw [m4]; exact hL.2⟩
  · unfold InvD
    rw [e0, e0, e0, e0, m0 7 (by decide), m0 11 (by decide), m0 3 (by decide), m0 4 (by decide)]
    exact hD
  · refine ⟨fun i hi k hk => by rw [e22 i _ hi, m 6 _ (by decide) (by decide) (by decide)]; exact hA.1 i hi k hk, fun i hi => (hA.2.1 i hi).congr (fun k _ => m 6 _ (by decide) (by decide) (by decide)), fun i hi hi5 => ?_⟩
    rw [m0 11 (by decide)] at hi
    rw [e22 i _ hi5, m 5 _ (by decide) (by decide) (by decide)]
    exact hA.2.2 i hi hi5
  · obtain ⟨p1, n, hn, p2, p3⟩ := hP
    refine ⟨by rw [e0, m0 6 (by decide)]; exact p1, n, hn, by rw [m0 6 (by decide)]; exact p2, fun j hj => ?_⟩
    rw [e3, m 3 _ (by decide) (by decide) (by decide)]
    exact p3 j hj
  · intro j hj
    rw [e2, m 7 _ (by decide) (by decide) (by decide)]
    exact hF j hj
  · intro s hs
    obtain ⟨w1, w2⟩ := hS s hs
    rw [e51, e51, m 13 _ (by decide) (by decide) (by decide), m 12 _ (by decide) (by decide) (by decide), m 14 _ (by decide) (by decide) (by decide)]
    refine ⟨w1, ?_⟩
    rcases w2 with w2 | ⟨w2, w3, q, q1, q2, q3, q4⟩
    · exact Or.inl w2
    · exact Or.inr ⟨w2, w3, q, q1, q2, q3, fun j hj => by rw [e52, m 15 _ (by decide) (by decide) (by decide)]; exact q4 j hj⟩
  · obtain ⟨I1, I2⟩ := hI
    refine ⟨by rw [e14, m39]; exact I1, ?_⟩
    rcases I2 with I2 | ⟨k, n, k1, k2, k3, k4, k5, k6, k7, ⟨k8, c, r, c1, c2, c3, c4⟩, k9, k10, k11⟩
    · exact Or.inl (m39.trans I2)
    · exact Or.inr ⟨k, n, k1, k2, m39.trans k3, (m0 11 (by decide)).trans k4, fun t ht => by rw [e15, congrFun m10 t]; exact k5 t ht, by rw [m10]; exact k6, by rw [e14, m40]; exact k7, ⟨by rw [e14, m41]; exact k8, c, r, c1, c2, (m0 3 (by decide)).trans c3, m41.trans c4⟩, fun i hi j hj => by rw [e17 i _ hi, m 11 _ (by decide) (by decide) (by decide)]; exact k9 i hi j hj, fun i hi => (k10 i hi).congr (fun j _ => m 11 _ (by decide) (by decide) (by decide)), fun i hi => by rw [e17 i _ (by omega), m 5 _ (by decide) (by decide) (by decide)]; exact k11 i hi⟩
  · exact hT.mono (m0 3 (by decide)) (fun t ht => f.code ht) (fun t ht => ⟨fun j hj => m 1 _ (by decide) (by decide) (by decide), m 2 _ (by decide) (by decide) (by decide)⟩)
/-- LIKE as numbers -/
def lkN (M : zS) (t : Nat) : Nat := (M.2.1 4 t).toBitVec.toNat
theorem zb_tb {n b : Nat} (hn : n ≤ 4095) : zbit (nI n) b = n.testBit b := by
  unfold zbit
  show (BitVec.ofNat 32 n).getLsbD b = _
  rw [BitVec.getLsbD_ofNat]
  by_cases hb : b < 32
  · simp [hb]
  · rw [tb_hi hn (by omega)]; simp
theorem lk_of {X M : zS} (h : InvL X M) : SyN (lkN M) ∧ LkM M (lkN M) ∧ LkX X (lkN M) := by
  have e : ∀ t, t < 12 → M.2.1 4 t = nI (lkN M t) ∧ lkN M t ≤ 4095 := fun t ht => by
    obtain ⟨k, hk, hk2⟩ := h.2.1 t ht
    have hk2 : M.2.1 4 t = nI k := hk2
    have hv : lkN M t = k := by
      unfold lkN
      rw [hk2]
      exact pk_tn (by omega)
    rw [hv]
    exact ⟨hk2, hk⟩
  refine ⟨⟨fun t ht => (e t ht).2, fun t ht => ?_, fun a ha b hb => ?_⟩, fun t ht => (e t ht).1, fun t ht => (h.1 t ht).trans (e t ht).1⟩
  · have h2 : zbit (M.2.1 4 t) t = false := h.2.2.1 t ht
    rw [(e t ht).1, zb_tb (e t ht).2] at h2
    exact h2
  · have h2 : zbit (M.2.1 4 a) b = zbit (M.2.1 4 b) a := h.2.2.2 a ha b hb
    rw [(e a ha).1, (e b hb).1, zb_tb (e a ha).2, zb_tb (e b hb).2] at h2
    exact h2
theorem spX_text {t : Nat} (ht : t < 6) : spX (27 + 4 * t) = (4, 6) ∧ spX (28 + 4 * t) = (9, 160) ∧ spX (29 + 4 * t) = (9, 3) ∧ spX (30 + 4 * t) = (9, 64) := by
  rcases (show t = 0 ∨ t = 1 ∨ t = 2 ∨ t = 3 ∨ t = 4 ∨ t = 5 by omega) with rfl | rfl | rfl | rfl | rfl | rfl <;> exact ⟨rfl, rfl, rfl, rfl⟩
theorem rX_text {X : zS} (hX : shX X) {t : Nat} (ht : t < 6) : X.2.2.2 5 t = some (27 + 4 * t) ∧ X.2.2.2 (27 + 4 * t) 0 = some (28 + 4 * t) ∧ X.2.2.2 (27 + 4 * t) 1 = some (29 + 4 * t) ∧ X.2.2.2 (27 + 4 * t) 2 = some (30 + 4 * t) := by
  rw [hX.r (by decide) (by omega) (by omega) (by omega), hX.r (by omega) (by omega) (by omega) (by omega), hX.r (by omega) (by omega) (by omega) (by omega), hX.r (by omega) (by omega) (by omega) (by omega)]
  rcases (show t = 0 ∨ t = 1 ∨ t = 2 ∨ t = 3 ∨ t = 4 ∨ t = 5 by omega) with rfl | rfl | rfl | rfl | rfl | rfl <;> exact ⟨rfl, rfl, rfl, rfl⟩
theorem x_textAt {X : zS} (hX : shX X) {t : Nat} (ht : t < 6) : fX7_textAt 0 (nI t) X = some (some (27 + 4 * t), X) := by
  have hr : X.2.2.2 0 4 = some 5 := hX.r (by decide) (by decide) (by decide) (by decide)
  have h0 : ¬ nI t < 0 := nI_pos (by omega)
  have h2 : ¬ Int32.ofNat 6 ≤ nI t := nI_ge (b := 6) (a := t) ht (by decide)
  have hz : zix spX 5 (nI t) = some t := zix_of rfl (by show t < 6; omega) (by decide)
  simp only [fX7_textAt, if_neg h0, zokX_0, zokX_1, zokX_2, zokX_3, zokX_4, zokX_5, zokX_6, zokX_7, zokX_8, zokX_9, zokX_10, zokX_11, zokX_12, zokX_13, zokX_14, zokX_15, zokX_16, zlaX_1, zlaX_2, zlaX_3, zlaX_4, zlaX_5, zlaX_6, zlaX_8, zlaX_11, zlaX_12, zlaX_13, zlaX_15, zlaX_16, zp_1, zp_h, zp_r, zp_l, zletE, obs, spXe_0, spXe_1, spXe_2, spXe_3, spXe_4, spXe_5, spXe_6, spXe_7, spXe_8, spXe_9, spXe_10, spXe_11, spXe_12, spXe_13, spXe_14, spXe_15, spXe_16, hX.1, hr, h2, if_false, hz, (rX_text hX ht).1]
def bgX (X : zS) (p : Nat) (nh d : Int32) (r : Option Nat) : zS := zp (zp (zp (zp (zp (zpr (zp (zp (zp (zp (zp (zp (zp X 7 3 (X.2.1 (22 + p) 0)) 7 4 (X.2.1 (22 + p) 1)) 7 5 (X.2.1 (22 + p) 2)) 7 6 (X.2.1 (22 + p) 3)) 7 7 (X.2.1 (22 + p) 4)) 7 8 nh) 7 9 d) 7 2 r) 7 10 (-1)) 7 11 0) 7 12 0) 7 13 0) 7 14 0
theorem x_begin {X : zS} (hX : X.1 = 59) {p : Nat} (hp : p < 5) (nh d : Int32) (r : Option Nat) : fX6_begin 7 (some (22 + p)) nh d r X = some ((), bgX X p nh d r) := by
  have z : ∀ Y : zS, Y.1 = 59 → zok spX Y (some (22 + p)) 0 = some (22 + p) := fun Y hY => zok_seat hY hp
  have q : (22 + p = 7) = False := by simp; omega
  simp only [fX6_begin, zokX_0, zokX_1, zokX_2, zokX_3, zokX_4, zokX_5, zokX_6, zokX_7, zokX_8, zokX_9, zokX_10, zokX_11, zokX_12, zokX_13, zokX_14, zokX_15, zokX_16, zlaX_1, zlaX_2, zlaX_3, zlaX_4, zlaX_5, zlaX_6, zlaX_8, zlaX_11, zlaX_12, zlaX_13, zlaX_15, zlaX_16, zp_1, zp_h, zp_r, zp_l, zletE, obs, spXe_0, spXe_1, spXe_2, spXe_3, spXe_4, spXe_5, spXe_6, spXe_7, spXe_8, spXe_9, spXe_10, spXe_11, spXe_12, spXe_13, spXe_14, spXe_15, spXe_16, zpr_1, zpr_h, hX, z, q, false_and, if_false]
  rfl
theorem bgX_fr (X : zS) (p : Nat) (nh d : Int32) (r : Option Nat) : frC X (bgX X p nh d r) := ⟨rfl, fun o k => by
  by_cases e : o = 7 ∧ k = 2
  · exact Or.inl e
  · exact Or.inr (by simp only [bgX, zp_r, zpr_r, if_neg e]), fun o k => by
  by_cases e : o = 7
  · exact Or.inl e
  · refine Or.inr (Or.inr (Or.inr ?_))
    have q : ∀ j : Nat, ¬ (o = 7 ∧ k = j) := fun j h => e h.1
    simp only [bgX, zp_h, zpr_h, if_neg (q _)]⟩
theorem bgX_7 (X : zS) (p : Nat) (nh d : Int32) (r : Option Nat) : (bgX X p nh d r).2.1 7 3 = X.2.1 (22 + p) 0 ∧ (bgX X p nh d r).2.1 7 4 = X.2.1 (22 + p) 1 ∧ (bgX X p nh d r).2.1 7 5 = X.2.1 (22 + p) 2 ∧ (bgX X p nh d r).2.1 7 6 = X.2.1 (22 + p) 3 ∧ (bgX X p nh d r).2.1 7 7 = X.2.1 (22 + p) 4 ∧ (bgX X p nh d r).2.1 7 8 = nh ∧ (bgX X p nh d r).2.1 7 9 = d ∧ (bgX X p nh d r).2.2.2 7 2 = r ∧ acX (bgX X p nh d r) (-1) 0 0 0 0 := by
  refine ⟨?_, ?_, ?_, ?_, ?_, ?_, ?_, ?_, ?_, ?_, ?_, ?_, ?_⟩ <;> simp [bgX, zp_h, zpr_h, zp_r, zpr_r]
/-- one of ASKERS, seen from both sides -/
theorem view_of {X M : zS} (h : Inv X M) {n : Nat} (hn5 : n ≤ 5) (hnX : X.2.1 0 10 = nI n) (hnM : M.2.1 0 11 = nI n) {p : Nat} (hp : p < n) : ∃ k nu s hd nh d t sp F, Vok (lkN M) k nu s hd nh d ∧ d ≤ 999 ∧ sp ≤ 9999 ∧ PcM M p n (lkN M) k nu s hd nh d ∧ RlM M t F ∧ M.2.1 6 (4 * p + 3) = nI sp ∧ ∃ X1, fX7_visitOf 0 (nI p) X = some (some 7, X1) ∧ frC X X1 ∧ PcX X1 (lkN M) k nu s hd nh d t F ∧ X1.2.1 7 7 = nI sp ∧ acX X1 (-1) 0 0 0 0 := by
  have hInv := h
  obtain ⟨⟨hX, hM⟩, hL, hD, hA, hP, hF, hS, hI, hT⟩ := h
  obtain ⟨sy, lm, lx⟩ := lk_of hL
  obtain ⟨k, hk6, hkX, hkM⟩ := kind_of hA hnM hn5 hp
  obtain ⟨⟨nu, hnu, enu⟩, ⟨s, hs, es⟩, ⟨hd, hhd, ehd⟩, ⟨sp, hsp, esp⟩⟩ := hA.2.1 p (by omega)
  obtain ⟨⟨dX, d, hd9, dM⟩, -, ⟨-, -⟩, ⟨rX', kk, r, hr, hkk, hr3, hr4⟩⟩ := hD
  obtain ⟨F, fx, fm⟩ := hT r (by omega) (by rw [hr3]; exact nI_lt hr (by omega))
  have a1 := hA.1 p (by omega) 0 (by decide)
  have a2 := hA.1 p (by omega) 1 (by decide)
  have a3 := hA.1 p (by omega) 2 (by decide)
  have a4 := hA.1 p (by omega) 3 (by decide)
  -- what the next one had
  have hnh : ∃ nh, nh ≤ 4095 ∧ nI nh = (if n = 1 then 0 else M.2.1 6 (4 * (if p + 1 = n then 0 else p + 1) + 2)) ∧ fX7_visitOf 0 (nI p) X = fX7_visitOf_j60 0 (some (22 + p)) (nI nh) X := by
    have sp1 := x_seat1 hX hnX hn5 hp
    have hne : ¬ (some (22 + p) = none) := fun q => by cases q
    have e0 : (0 : Int32) = nI 0 := rfl
    by_cases c : p + 1 = n
    · have c1 : nI n ≤ nI (p + 1) := nI_le (by omega) (by omega)
      have s0 := x_seat1 hX hnX hn5 (show 0 < n by omega)
      have s0' : fX7_seat 0 0 X = some (some (22 + 0), X) := s0
      by_cases c2 : n = 1
      · refine ⟨0, by omega, by rw [if_pos c2]; rfl, ?_⟩
        have ep : p = 0 := by omega
        subst ep
        have e1 : (0 : Int32) = nI 0 := rfl
        simp only [fX7_visitOf, fX7_visitOf_j29, fX7_visitOf_j44, zokX_0, zokX_1, zokX_2, zokX_3, zokX_4, zokX_5, zokX_6, zokX_7, zokX_8, zokX_9, zokX_10, zokX_11, zokX_12, zokX_13, zokX_14, zokX_15, zokX_16, zlaX_1, zlaX_2, zlaX_3, zlaX_4, zlaX_5, zlaX_6, zlaX_8, zlaX_11, zlaX_12, zlaX_13, zlaX_15, zlaX_16, zp_1, zp_h, zp_r, zp_l, zletE, obs, spXe_0, spXe_1, spXe_2, spXe_3, spXe_4, spXe_5, spXe_6, spXe_7, spXe_8, spXe_9, spXe_10, spXe_11, spXe_12, spXe_13, spXe_14, spXe_15, spXe_16, hX.1, sp1, if_neg hne, hnX, nI_1, if_pos c1, if_pos e1, if_true]
        rfl
      · obtain ⟨w, hw, ew⟩ := (hA.2.1 0 (by decide)).2.2.1
        have ew' : M.2.1 6 (4 * 0 + 2) = nI w := ew
        refine ⟨w, hw, by rw [if_neg c2, if_pos c]; exact ew'.symm, ?_⟩
        have hne2 : ¬ ((0 : Int32) = nI p) := fun q => by have := (nI_inj (a := 0) (b := p) (by omega) (by omega)).mp q; omega
        have w3 : X.2.1 (22 + 0) 3 = nI w := (hA.1 0 (by decide) 2 (by decide)).trans ew'
        have zz := zok_seat hX.1 (show 0 < 5 by decide)
        simp only [fX7_visitOf, fX7_visitOf_j29, fX7_visitOf_j44, zokX_0, zokX_1, zokX_2, zokX_3, zokX_4, zokX_5, zokX_6, zokX_7, zokX_8, zokX_9, zokX_10, zokX_11, zokX_12, zokX_13, zokX_14, zokX_15, zokX_16, zlaX_1, zlaX_2, zlaX_3, zlaX_4, zlaX_5, zlaX_6, zlaX_8, zlaX_11, zlaX_12, zlaX_13, zlaX_15, zlaX_16, zp_1, zp_h, zp_r, zp_l, zletE, obs, spXe_0, spXe_1, spXe_2, spXe_3, spXe_4, spXe_5, spXe_6, spXe_7, spXe_8, spXe_9, spXe_10, spXe_11, spXe_12, spXe_13, spXe_14, spXe_15, spXe_16, hX.1, sp1, if_neg hne, hnX, nI_1, if_pos c1, s0', if_neg (show ¬ (some (22 + 0) = none) from fun q => by cases q), if_neg hne2, zz, w3]
    · have c1 : ¬ nI n ≤ nI (p + 1) := nI_ge (by omega) (by omega)
      have s1 := x_seat1 hX hnX hn5 (show p + 1 < n by omega)
      obtain ⟨w, hw, ew⟩ := (hA.2.1 (p + 1) (by omega)).2.2.1
      have ew' : M.2.1 6 (4 * (p + 1) + 2) = nI w := ew
      refine ⟨w, hw, by rw [if_neg (by omega), if_neg c]; exact ew'.symm, ?_⟩
      have hne2 : ¬ (nI (p + 1) = nI p) := fun q => by have := (nI_inj (by omega) (by omega)).mp q; omega
      have w3 : X.2.1 (22 + (p + 1)) 3 = nI w := (hA.1 (p + 1) (by omega) 2 (by decide)).trans ew'
      have zz := zok_seat hX.1 (show p + 1 < 5 by omega)
      simp only [fX7_visitOf, fX7_visitOf_j29, fX7_visitOf_j44, zokX_0, zokX_1, zokX_2, zokX_3, zokX_4, zokX_5, zokX_6, zokX_7, zokX_8, zokX_9, zokX_10, zokX_11, zokX_12, zokX_13, zokX_14, zokX_15, zokX_16, zlaX_1, zlaX_2, zlaX_3, zlaX_4, zlaX_5, zlaX_6, zlaX_8, zlaX_11, zlaX_12, zlaX_13, zlaX_15, zlaX_16, zp_1, zp_h, zp_r, zp_l, zletE, obs, spXe_0, spXe_1, spXe_2, spXe_3, spXe_4, spXe_5, spXe_6, spXe_7, spXe_8, spXe_9, spXe_10, spXe_11, spXe_12, spXe_13, spXe_14, spXe_15, spXe_16, hX.1, sp1, if_neg hne, hnX, nI_1, if_neg c1, s1, if_neg (show ¬ (some (22 + (p + 1)) = none) from fun q => by cases q), if_neg hne2, zz, w3]
  obtain ⟨nh, hnh1, hnh2, hvis⟩ := hnh
  have r06 : X.2.2.2 0 6 = some 7 := hX.r (by decide) (by decide) (by decide) (by decide)
  have hb := x_begin hX.1 (show p < 5 by omega) (nI nh) (nI d) (some (27 + 4 * r))
  have fr := bgX_fr X p (nI nh) (nI d) (some (27 + 4 * r))
  obtain ⟨b3, b4, b5, b6, b7, b8, b9, br, bac⟩ := bgX_7 X p (nI nh) (nI d) (some (27 + 4 * r))
  refine ⟨k, nu, s, hd, nh, d, r, sp, F, ⟨sy, hk6, hnu, hs, hhd, hnh1, by omega⟩, hd9, hsp, ⟨lm, hp, hn5, hnM, hkM, enu, es, ehd, dM, hnh2⟩, ⟨hr4, fm⟩, esp, bgX X p (nI nh) (nI d) (some (27 + 4 * r)), ?_, fr, ⟨fun t ht => ?_, b3.trans hkX, b4.trans (a1.trans enu), b5.trans (a2.trans es), b6.trans (a3.trans ehd), b8, b9, by omega, br, ?_⟩, b7.trans (a4.trans esp), bac⟩
  · rw [hvis]
    have e2 : (bgX X p (nI nh) (nI d) (some (27 + 4 * r))).2.2.2 0 6 = some 7 := by
      rcases fr.2.1 0 6 with q | q
      · omega
      · rw [q]; exact r06
    have e1 : (bgX X p (nI nh) (nI d) (some (27 + 4 * r))).1 = 59 := hX.1
    simp only [fX7_visitOf_j60, zokX_0, zokX_1, zokX_2, zokX_3, zokX_4, zokX_5, zokX_6, zokX_7, zokX_8, zokX_9, zokX_10, zokX_11, zokX_12, zokX_13, zokX_14, zokX_15, zokX_16, zlaX_1, zlaX_2, zlaX_3, zlaX_4, zlaX_5, zlaX_6, zlaX_8, zlaX_11, zlaX_12, zlaX_13, zlaX_15, zlaX_16, zp_1, zp_h, zp_r, zp_l, zletE, obs, spXe_0, spXe_1, spXe_2, spXe_3, spXe_4, spXe_5, spXe_6, spXe_7, spXe_8, spXe_9, spXe_10, spXe_11, spXe_12, spXe_13, spXe_14, spXe_15, spXe_16, hX.1, rX', hr4, x_textAt hX (show r < 6 by omega), r06, dX, dM, hb, e1, e2]
  · exact (fr.at (by decide) (by decide) (Or.inl (by decide))).trans (lx t ht)
  · exact fx.mono (fr.code (show r < 6 by omega)).1 (fr.code (show r < 6 by omega)).2.1 (fr.code (show r < 6 by omega)).2.2
theorem x_visit0 {X : zS} (hX : shX X) {n : Nat} (hn : X.2.1 0 10 = nI n) {a : Int32} (h : a < 0 ∨ nI n ≤ a) : fX7_visitOf 0 a X = some (none, X) := by
  simp only [fX7_visitOf, zokX_0, zokX_1, zokX_2, zokX_3, zokX_4, zokX_5, zokX_6, zokX_7, zokX_8, zokX_9, zokX_10, zokX_11, zokX_12, zokX_13, zokX_14, zokX_15, zokX_16, zlaX_1, zlaX_2, zlaX_3, zlaX_4, zlaX_5, zlaX_6, zlaX_8, zlaX_11, zlaX_12, zlaX_13, zlaX_15, zlaX_16, zp_1, zp_h, zp_r, zp_l, zletE, obs, spXe_0, spXe_1, spXe_2, spXe_3, spXe_4, spXe_5, spXe_6, spXe_7, spXe_8, spXe_9, spXe_10, spXe_11, spXe_12, spXe_13, spXe_14, spXe_15, spXe_16, hX.1, x_seat0 hX hn h, if_true]
