/-! the pure side: how the two worlds lie, rows that compute -/
theorem zp_1 (st : zS) (o k : Nat) (v : Int32) : (zp st o k v).1 = st.1 := rfl
theorem zp_h (st : zS) (o k : Nat) (v : Int32) (a j : Nat) : (zp st o k v).2.1 a j = if a = o ∧ j = k then v else st.2.1 a j := rfl
theorem zp_l (st : zS) (o k : Nat) (v : Int32) : (zp st o k v).2.2.1 = st.2.2.1 := rfl
theorem zp_r (st : zS) (o k : Nat) (v : Int32) : (zp st o k v).2.2.2 = st.2.2.2 := rfl
theorem zpl_1 (st : zS) (o : Nat) (v : Int64) : (zpl st o v).1 = st.1 := rfl
theorem zpl_h (st : zS) (o : Nat) (v : Int64) : (zpl st o v).2.1 = st.2.1 := rfl
theorem zpl_l (st : zS) (o : Nat) (v : Int64) (a : Nat) : (zpl st o v).2.2.1 a = if a = o then v else st.2.2.1 a := rfl
theorem zpl_r (st : zS) (o : Nat) (v : Int64) : (zpl st o v).2.2.2 = st.2.2.2 := rfl
theorem zpr_1 (st : zS) (o k : Nat) (v : Option Nat) : (zpr st o k v).1 = st.1 := rfl
theorem zpr_h (st : zS) (o k : Nat) (v : Option Nat) : (zpr st o k v).2.1 = st.2.1 := rfl
theorem zpr_l (st : zS) (o k : Nat) (v : Option Nat) : (zpr st o k v).2.2.1 = st.2.2.1 := rfl
theorem zpr_r (st : zS) (o k : Nat) (v : Option Nat) (a j : Nat) : (zpr st o k v).2.2.2 a j = if a = o ∧ j = k then v else st.2.2.2 a j := rfl
theorem zok_of {sp : Nat → Nat × Nat} {st : zS} {o k : Nat} (h1 : o < st.1) (h2 : (sp o).1 = k) : zok sp st (some o) k = some o := by
  show (if o < st.1 ∧ (sp o).1 = k then some o else none) = some o
  rw [if_pos ⟨h1, h2⟩]
theorem zla_of {sp : Nat → Nat × Nat} {st : zS} {o : Nat} (h1 : o < st.1) (h2 : 9 ≤ (sp o).1) : zla sp st (some o) = some o := by
  show (if o < st.1 ∧ 9 ≤ (sp o).1 then some o else none) = some o
  rw [if_pos ⟨h1, h2⟩]
theorem zix_of {sp : Nat → Nat × Nat} {o j : Nat} {i : Int32} (hi : i = nI j) (hj : j < (sp o).2) (hn : (sp o).2 < 2 ^ 31) : zix sp o i = some j := by
  subst hi
  have h := vp_in_nI hj hn
  unfold zix
  rw [if_neg h, nI_clamp (Nat.lt_trans hj hn)]
theorem spXe_0 : spX 0 = (7, 14) := rfl
theorem spXe_1 : spX 1 = (9, 12) := rfl
theorem spXe_2 : spX 2 = (9, 298) := rfl
theorem spXe_3 : spX 3 = (9, 160) := rfl
theorem spXe_4 : spX 4 = (11, 5) := rfl
theorem spXe_5 : spX 5 = (13, 6) := rfl
theorem spXe_6 : spX 6 = (12, 4) := rfl
theorem spXe_7 : spX 7 = (6, 15) := rfl
theorem spXe_8 : spX 8 = (9, 6) := rfl
theorem spXe_9 : spX 9 = (2, 5) := rfl
theorem spXe_10 : spX 10 = (5, 8) := rfl
theorem spXe_11 : spX 11 = (9, 161) := rfl
theorem spXe_12 : spX 12 = (9, 161) := rfl
theorem spXe_13 : spX 13 = (9, 161) := rfl
theorem spXe_14 : spX 14 = (1, 5) := rfl
theorem spXe_15 : spX 15 = (9, 12) := rfl
theorem spXe_16 : spX 16 = (11, 5) := rfl
theorem spXe_17 : spX 17 = (0, 5) := rfl
theorem spXe_18 : spX 18 = (0, 5) := rfl
theorem spXe_19 : spX 19 = (0, 5) := rfl
theorem spXe_20 : spX 20 = (0, 5) := rfl
theorem spXe_21 : spX 21 = (0, 5) := rfl
theorem spXe_22 : spX 22 = (0, 5) := rfl
theorem spXe_23 : spX 23 = (0, 5) := rfl
theorem spXe_24 : spX 24 = (0, 5) := rfl
theorem spXe_25 : spX 25 = (0, 5) := rfl
theorem spXe_26 : spX 26 = (0, 5) := rfl
theorem spXe_27 : spX 27 = (4, 6) := rfl
theorem spXe_28 : spX 28 = (9, 160) := rfl
theorem spXe_29 : spX 29 = (9, 3) := rfl
theorem spXe_30 : spX 30 = (9, 64) := rfl
theorem spXe_31 : spX 31 = (4, 6) := rfl
theorem spXe_32 : spX 32 = (9, 160) := rfl
theorem spXe_33 : spX 33 = (9, 3) := rfl
theorem spXe_34 : spX 34 = (9, 64) := rfl
theorem spXe_35 : spX 35 = (4, 6) := rfl
theorem spXe_36 : spX 36 = (9, 160) := rfl
theorem spXe_37 : spX 37 = (9, 3) := rfl
theorem spXe_38 : spX 38 = (9, 64) := rfl
theorem spXe_39 : spX 39 = (4, 6) := rfl
theorem spXe_40 : spX 40 = (9, 160) := rfl
theorem spXe_41 : spX 41 = (9, 3) := rfl
theorem spXe_42 : spX 42 = (9, 64) := rfl
theorem spXe_43 : spX 43 = (4, 6) := rfl
theorem spXe_44 : spX 44 = (9, 160) := rfl
theorem spXe_45 : spX 45 = (9, 3) := rfl
theorem spXe_46 : spX 46 = (9, 64) := rfl
theorem spXe_47 : spX 47 = (4, 6) := rfl
theorem spXe_48 : spX 48 = (9, 160) := rfl
theorem spXe_49 : spX 49 = (9, 3) := rfl
theorem spXe_50 : spX 50 = (9, 64) := rfl
theorem spXe_51 : spX 51 = (3, 3) := rfl
theorem spXe_52 : spX 52 = (9, 40) := rfl
theorem spXe_53 : spX 53 = (3, 3) := rfl
theorem spXe_54 : spX 54 = (9, 40) := rfl
theorem spXe_55 : spX 55 = (3, 3) := rfl
theorem spXe_56 : spX 56 = (9, 40) := rfl
theorem spXe_57 : spX 57 = (3, 3) := rfl
theorem spXe_58 : spX 58 = (9, 40) := rfl
theorem spMe_0 : spM 0 = (8, 46) := rfl
theorem spMe_1 : spM 1 = (9, 960) := rfl
theorem spMe_2 : spM 2 = (9, 6) := rfl
theorem spMe_3 : spM 3 = (9, 160) := rfl
theorem spMe_4 : spM 4 = (9, 12) := rfl
theorem spMe_5 : spM 5 = (9, 5) := rfl
theorem spMe_6 : spM 6 = (9, 20) := rfl
theorem spMe_7 : spM 7 = (9, 298) := rfl
theorem spMe_8 : spM 8 = (9, 20) := rfl
theorem spMe_9 : spM 9 = (9, 12) := rfl
theorem spMe_10 : spM 10 = (9, 12) := rfl
theorem spMe_11 : spM 11 = (9, 20) := rfl
theorem spMe_12 : spM 12 = (10, 4) := rfl
theorem spMe_13 : spM 13 = (9, 4) := rfl
theorem spMe_14 : spM 14 = (9, 4) := rfl
theorem spMe_15 : spM 15 = (9, 160) := rfl
def rX : Nat → Nat → Option Nat
  | 0, 0 => some 1
  | 0, 1 => some 2
  | 0, 2 => some 3
  | 0, 3 => some 4
  | 0, 4 => some 5
  | 0, 5 => some 6
  | 0, 6 => some 7
  | 0, 7 => some 9
  | 0, 8 => some 14
  | 4, 0 => some 22
  | 4, 1 => some 23
  | 4, 2 => some 24
  | 4, 3 => some 25
  | 4, 4 => some 26
  | 5, 0 => some 27
  | 5, 1 => some 31
  | 5, 2 => some 35
  | 5, 3 => some 39
  | 5, 4 => some 43
  | 5, 5 => some 47
  | 6, 0 => some 51
  | 6, 1 => some 53
  | 6, 2 => some 55
  | 6, 3 => some 57
  | 7, 0 => some 1
  | 7, 1 => some 8
  | 9, 0 => some 10
  | 10, 0 => some 3
  | 10, 1 => some 11
  | 10, 2 => some 12
  | 10, 3 => some 13
  | 14, 0 => some 15
  | 14, 1 => some 16
  | 16, 0 => some 17
  | 16, 1 => some 18
  | 16, 2 => some 19
  | 16, 3 => some 20
  | 16, 4 => some 21
  | 27, 0 => some 28
  | 27, 1 => some 29
  | 27, 2 => some 30
  | 31, 0 => some 32
  | 31, 1 => some 33
  | 31, 2 => some 34
  | 35, 0 => some 36
  | 35, 1 => some 37
  | 35, 2 => some 38
  | 39, 0 => some 40
  | 39, 1 => some 41
  | 39, 2 => some 42
  | 43, 0 => some 44
  | 43, 1 => some 45
  | 43, 2 => some 46
  | 47, 0 => some 48
  | 47, 1 => some 49
  | 47, 2 => some 50
  | 51, 0 => some 52
  | 53, 0 => some 54
  | 55, 0 => some 56
  | 57, 0 => some 58
  | _, _ => none
theorem rX_0_0 : rX 0 0 = some 1 := rfl
theorem rX_0_1 : rX 0 1 = some 2 := rfl
theorem rX_0_2 : rX 0 2 = some 3 := rfl
theorem rX_0_3 : rX 0 3 = some 4 := rfl
theorem rX_0_4 : rX 0 4 = some 5 := rfl
theorem rX_0_5 : rX 0 5 = some 6 := rfl
theorem rX_0_6 : rX 0 6 = some 7 := rfl
theorem rX_0_7 : rX 0 7 = some 9 := rfl
theorem rX_0_8 : rX 0 8 = some 14 := rfl
theorem rX_4_0 : rX 4 0 = some 22 := rfl
theorem rX_4_1 : rX 4 1 = some 23 := rfl
theorem rX_4_2 : rX 4 2 = some 24 := rfl
theorem rX_4_3 : rX 4 3 = some 25 := rfl
theorem rX_4_4 : rX 4 4 = some 26 := rfl
theorem rX_5_0 : rX 5 0 = some 27 := rfl
theorem rX_5_1 : rX 5 1 = some 31 := rfl
theorem rX_5_2 : rX 5 2 = some 35 := rfl
theorem rX_5_3 : rX 5 3 = some 39 := rfl
theorem rX_5_4 : rX 5 4 = some 43 := rfl
theorem rX_5_5 : rX 5 5 = some 47 := rfl
theorem rX_6_0 : rX 6 0 = some 51 := rfl
theorem rX_6_1 : rX 6 1 = some 53 := rfl
theorem rX_6_2 : rX 6 2 = some 55 := rfl
theorem rX_6_3 : rX 6 3 = some 57 := rfl
theorem rX_7_0 : rX 7 0 = some 1 := rfl
theorem rX_7_1 : rX 7 1 = some 8 := rfl
theorem rX_9_0 : rX 9 0 = some 10 := rfl
theorem rX_10_0 : rX 10 0 = some 3 := rfl
theorem rX_10_1 : rX 10 1 = some 11 := rfl
theorem rX_10_2 : rX 10 2 = some 12 := rfl
theorem rX_10_3 : rX 10 3 = some 13 := rfl
theorem rX_14_0 : rX 14 0 = some 15 := rfl
theorem rX_14_1 : rX 14 1 = some 16 := rfl
theorem rX_16_0 : rX 16 0 = some 17 := rfl
theorem rX_16_1 : rX 16 1 = some 18 := rfl
theorem rX_16_2 : rX 16 2 = some 19 := rfl
theorem rX_16_3 : rX 16 3 = some 20 := rfl
theorem rX_16_4 : rX 16 4 = some 21 := rfl
theorem rX_27_0 : rX 27 0 = some 28 := rfl
theorem rX_27_1 : rX 27 1 = some 29 := rfl
theorem rX_27_2 : rX 27 2 = some 30 := rfl
theorem rX_31_0 : rX 31 0 = some 32 := rfl
theorem rX_31_1 : rX 31 1 = some 33 := rfl
theorem rX_31_2 : rX 31 2 = some 34 := rfl
theorem rX_35_0 : rX 35 0 = some 36 := rfl
theorem rX_35_1 : rX 35 1 = some 37 := rfl
theorem rX_35_2 : rX 35 2 = some 38 := rfl
theorem rX_39_0 : rX 39 0 = some 40 := rfl
theorem rX_39_1 : rX 39 1 = some 41 := rfl
theorem rX_39_2 : rX 39 2 = some 42 := rfl
theorem rX_43_0 : rX 43 0 = some 44 := rfl
theorem rX_43_1 : rX 43 1 = some 45 := rfl
theorem rX_43_2 : rX 43 2 = some 46 := rfl
theorem rX_47_0 : rX 47 0 = some 48 := rfl
theorem rX_47_1 : rX 47 1 = some 49 := rfl
theorem rX_47_2 : rX 47 2 = some 50 := rfl
theorem rX_51_0 : rX 51 0 = some 52 := rfl
theorem rX_53_0 : rX 53 0 = some 54 := rfl
theorem rX_55_0 : rX 55 0 = some 56 := rfl
theorem rX_57_0 : rX 57 0 = some 58 := rfl
def rM : Nat → Nat → Option Nat
  | 0, 1 => some 1
  | 0, 2 => some 2
  | 0, 5 => some 3
  | 0, 8 => some 4
  | 0, 9 => some 5
  | 0, 10 => some 6
  | 0, 12 => some 7
  | 0, 30 => some 8
  | 0, 36 => some 9
  | 0, 37 => some 10
  | 0, 38 => some 11
  | 0, 42 => some 12
  | 0, 43 => some 13
  | 0, 44 => some 14
  | 0, 45 => some 15
  | _, _ => none
theorem rM_0_1 : rM 0 1 = some 1 := rfl
theorem rM_0_2 : rM 0 2 = some 2 := rfl
theorem rM_0_5 : rM 0 5 = some 3 := rfl
theorem rM_0_8 : rM 0 8 = some 4 := rfl
theorem rM_0_9 : rM 0 9 = some 5 := rfl
theorem rM_0_10 : rM 0 10 = some 6 := rfl
theorem rM_0_12 : rM 0 12 = some 7 := rfl
theorem rM_0_30 : rM 0 30 = some 8 := rfl
theorem rM_0_36 : rM 0 36 = some 9 := rfl
theorem rM_0_37 : rM 0 37 = some 10 := rfl
theorem rM_0_38 : rM 0 38 = some 11 := rfl
theorem rM_0_42 : rM 0 42 = some 12 := rfl
theorem rM_0_43 : rM 0 43 = some 13 := rfl
theorem rM_0_44 : rM 0 44 = some 14 := rfl
theorem rM_0_45 : rM 0 45 = some 15 := rfl
def shX (X : zS) : Prop := X.1 = 59 ∧ ∀ o, o < 59 → ∀ k, k < 13 → (o = 7 ∧ k = 2) ∨ (o = 9 ∧ k = 1) ∨ X.2.2.2 o k = rX o k
def shM (M : zS) : Prop := M.1 = 16 ∧ ∀ o, o < 16 → ∀ k, k < 46 → M.2.2.2 o k = rM o k
theorem shX.r {X : zS} (h : shX X) {o k : Nat} (h1 : o < 59) (h2 : k < 13) (h3 : ¬ (o = 7 ∧ k = 2)) (h4 : ¬ (o = 9 ∧ k = 1)) : X.2.2.2 o k = rX o k := ((h.2 o h1 k h2).resolve_left h3).resolve_left h4
theorem shM.r {M : zS} (h : shM M) {o k : Nat} (h1 : o < 16) (h2 : k < 46) : M.2.2.2 o k = rM o k := h.2 o h1 k h2
theorem shX.zp {X : zS} (h : shX X) (o k : Nat) (v : Int32) : shX (zp X o k v) := h
theorem shM.zp {M : zS} (h : shM M) (o k : Nat) (v : Int32) : shM (zp M o k v) := h
theorem shM.zpl {M : zS} (h : shM M) (o : Nat) (v : Int64) : shM (zpl M o v) := h
theorem shX.rule {X : zS} (h : shX X) (v : Option Nat) : shX (zpr X 7 2 v) := ⟨h.1, fun o ho k hk => by
  by_cases e : o = 7 ∧ k = 2
  · exact Or.inl e
  · rw [zpr_r, if_neg e]
    exact h.2 o ho k hk⟩
theorem shX.text {X : zS} (h : shX X) (v : Option Nat) : shX (zpr X 9 1 v) := ⟨h.1, fun o ho k hk => by
  by_cases e : o = 9 ∧ k = 1
  · exact Or.inr (Or.inl e)
  · rw [zpr_r, if_neg e]
    exact h.2 o ho k hk⟩
/-- the reference's 'in' -/
theorem lg_lt0 (x y : Int64) : lg_cmp x y < 0 ↔ x < y := by
  unfold lg_cmp
  by_cases h : x > y
  · rw [if_pos h]
    constructor
    · intro q; exact absurd q (by decide)
    · intro q; exact absurd q (Int64.not_lt.mpr (Int64.le_of_lt h))
  · rw [if_neg h]
    by_cases e : x = y
    · rw [if_pos e]
      constructor
      · intro q; exact absurd q (by decide)
      · intro q; subst e; exact absurd q (Int64.lt_irrefl)
    · rw [if_neg e]
      constructor
      · intro _
        rcases Int64.lt_or_lt_of_ne e with q | q
        · exact q
        · exact absurd q h
      · intro _; decide
theorem lg_gt0 (x y : Int64) : 0 < lg_cmp x y ↔ y < x := by
  unfold lg_cmp
  by_cases h : x > y
  · rw [if_pos h]
    exact ⟨fun _ => h, fun _ => by decide⟩
  · rw [if_neg h]
    constructor
    · intro q
      split at q
      · exact absurd q (by decide)
      · exact absurd q (by decide)
    · intro q; exact absurd q h
theorem in_eq (a b c : Int64) (st : zS) : fX8_in a b c st = some ((if a < b then 0 else if c < a then 0 else 1), st) := by
  unfold fX8_in fX8_in_j17
  simp only [lg_lt0, lg_gt0]
  split
  · simp
  · split <;> simp
theorem zokX_0 {X : zS} (h : X.1 = 59) : zok spX X (some 0) 7 = some 0 := zok_of (by rw [h]; decide) rfl
theorem zokX_1 {X : zS} (h : X.1 = 59) : zok spX X (some 1) 9 = some 1 := zok_of (by rw [h]; decide) rfl
theorem zlaX_1 {X : zS} (h : X.1 = 59) : zla spX X (some 1) = some 1 := zla_of (by rw [h]; decide) (by decide)
theorem zokX_2 {X : zS} (h : X.1 = 59) : zok spX X (some 2) 9 = some 2 := zok_of (by rw [h]; decide) rfl
theorem zlaX_2 {X : zS} (h : X.1 = 59) : zla spX X (some 2) = some 2 := zla_of (by rw [h]; decide) (by decide)
theorem zokX_3 {X : zS} (h : X.1 = 59) : zok spX X (some 3) 9 = some 3 := zok_of (by rw [h]; decide) rfl
theorem zlaX_3 {X : zS} (h : X.1 = 59) : zla spX X (some 3) = some 3 := zla_of (by rw [h]; decide) (by decide)
theorem zokX_4 {X : zS} (h : X.1 = 59) : zok spX X (some 4) 11 = some 4 := zok_of (by rw [h]; decide) rfl
theorem zlaX_4 {X : zS} (h : X.1 = 59) : zla spX X (some 4) = some 4 := zla_of (by rw [h]; decide) (by decide)
theorem zokX_5 {X : zS} (h : X.1 = 59) : zok spX X (some 5) 13 = some 5 := zok_of (by rw [h]; decide) rfl
theorem zlaX_5 {X : zS} (h : X.1 = 59) : zla spX X (some 5) = some 5 := zla_of (by rw [h]; decide) (by decide)
theorem zokX_6 {X : zS} (h : X.1 = 59) : zok spX X (some 6) 12 = some 6 := zok_of (by rw [h]; decide) rfl
theorem zlaX_6 {X : zS} (h : X.1 = 59) : zla spX X (some 6) = some 6 := zla_of (by rw [h]; decide) (by decide)
theorem zokX_7 {X : zS} (h : X.1 = 59) : zok spX X (some 7) 6 = some 7 := zok_of (by rw [h]; decide) rfl
theorem zokX_8 {X : zS} (h : X.1 = 59) : zok spX X (some 8) 9 = some 8 := zok_of (by rw [h]; decide) rfl
theorem zlaX_8 {X : zS} (h : X.1 = 59) : zla spX X (some 8) = some 8 := zla_of (by rw [h]; decide) (by decide)
theorem zokX_9 {X : zS} (h : X.1 = 59) : zok spX X (some 9) 2 = some 9 := zok_of (by rw [h]; decide) rfl
theorem zokX_10 {X : zS} (h : X.1 = 59) : zok spX X (some 10) 5 = some 10 := zok_of (by rw [h]; decide) rfl
theorem zokX_11 {X : zS} (h : X.1 = 59) : zok spX X (some 11) 9 = some 11 := zok_of (by rw [h]; decide) rfl
theorem zlaX_11 {X : zS} (h : X.1 = 59) : zla spX X (some 11) = some 11 := zla_of (by rw [h]; decide) (by decide)
theorem zokX_12 {X : zS} (h : X.1 = 59) : zok spX X (some 12) 9 = some 12 := zok_of (by rw [h]; decide) rfl
theorem zlaX_12 {X : zS} (h : X.1 = 59) : zla spX X (some 12) = some 12 := zla_of (by rw [h]; decide) (by decide)
theorem zokX_13 {X : zS} (h : X.1 = 59) : zok spX X (some 13) 9 = some 13 := zok_of (by rw [h]; decide) rfl
theorem zlaX_13 {X : zS} (h : X.1 = 59) : zla spX X (some 13) = some 13 := zla_of (by rw [h]; decide) (by decide)
theorem zokX_14 {X : zS} (h : X.1 = 59) : zok spX X (some 14) 1 = some 14 := zok_of (by rw [h]; decide) rfl
theorem zokX_15 {X : zS} (h : X.1 = 59) : zok spX X (some 15) 9 = some 15 := zok_of (by rw [h]; decide) rfl
theorem zlaX_15 {X : zS} (h : X.1 = 59) : zla spX X (some 15) = some 15 := zla_of (by rw [h]; decide) (by decide)
theorem zokX_16 {X : zS} (h : X.1 = 59) : zok spX X (some 16) 11 = some 16 := zok_of (by rw [h]; decide) rfl
theorem zlaX_16 {X : zS} (h : X.1 = 59) : zla spX X (some 16) = some 16 := zla_of (by rw [h]; decide) (by decide)
theorem zokX_17 {X : zS} (h : X.1 = 59) : zok spX X (some 17) 0 = some 17 := zok_of (by rw [h]; decide) rfl
theorem zokX_18 {X : zS} (h : X.1 = 59) : zok spX X (some 18) 0 = some 18 := zok_of (by rw [h]; decide) rfl
theorem zokX_19 {X : zS} (h : X.1 = 59) : zok spX X (some 19) 0 = some 19 := zok_of (by rw [h]; decide) rfl
theorem zokX_20 {X : zS} (h : X.1 = 59) : zok spX X (some 20) 0 = some 20 := zok_of (by rw [h]; decide) rfl
theorem zokX_21 {X : zS} (h : X.1 = 59) : zok spX X (some 21) 0 = some 21 := zok_of (by rw [h]; decide) rfl
theorem zokX_22 {X : zS} (h : X.1 = 59) : zok spX X (some 22) 0 = some 22 := zok_of (by rw [h]; decide) rfl
theorem zokX_23 {X : zS} (h : X.1 = 59) : zok spX X (some 23) 0 = some 23 := zok_of (by rw [h]; decide) rfl
theorem zokX_24 {X : zS} (h : X.1 = 59) : zok spX X (some 24) 0 = some 24 := zok_of (by rw [h]; decide) rfl
theorem zokX_25 {X : zS} (h : X.1 = 59) : zok spX X (some 25) 0 = some 25 := zok_of (by rw [h]; decide) rfl
theorem zokX_26 {X : zS} (h : X.1 = 59) : zok spX X (some 26) 0 = some 26 := zok_of (by rw [h]; decide) rfl
theorem zokX_27 {X : zS} (h : X.1 = 59) : zok spX X (some 27) 4 = some 27 := zok_of (by rw [h]; decide) rfl
theorem zokX_28 {X : zS} (h : X.1 = 59) : zok spX X (some 28) 9 = some 28 := zok_of (by rw [h]; decide) rfl
theorem zlaX_28 {X : zS} (h : X.1 = 59) : zla spX X (some 28) = some 28 := zla_of (by rw [h]; decide) (by decide)
theorem zokX_29 {X : zS} (h : X.1 = 59) : zok spX X (some 29) 9 = some 29 := zok_of (by rw [h]; decide) rfl
theorem zlaX_29 {X : zS} (h : X.1 = 59) : zla spX X (some 29) = some 29 := zla_of (by rw [h]; decide) (by decide)
theorem zokX_30 {X : zS} (h : X.1 = 59) : zok spX X (some 30) 9 = some 30 := zok_of (by rw [h]; decide) rfl
theorem zlaX_30 {X : zS} (h : X.1 = 59) : zla spX X (some 30) = some 30 := zla_of (by rw [h]; decide) (by decide)
theorem zokX_31 {X : zS} (h : X.1 = 59) : zok spX X (some 31) 4 = some 31 := zok_of (by rw [h]; decide) rfl
theorem zokX_32 {X : zS} (h : X.1 = 59) : zok spX X (some 32) 9 = some 32 := zok_of (by rw [h]; decide) rfl
theorem zlaX_32 {X : zS} (h : X.1 = 59) : zla spX X (some 32) = some 32 := zla_of (by rw [h]; decide) (by decide)
theorem zokX_33 {X : zS} (h : X.1 = 59) : zok spX X (some 33) 9 = some 33 := zok_of (by rw [h]; decide) rfl
theorem zlaX_33 {X : zS} (h : X.1 = 59) : zla spX X (some 33) = some 33 := zla_of (by rw [h]; decide) (by decide)
theorem zokX_34 {X : zS} (h : X.1 = 59) : zok spX X (some 34) 9 = some 34 := zok_of (by rw [h]; decide) rfl
theorem zlaX_34 {X : zS} (h : X.1 = 59) : zla spX X (some 34) = some 34 := zla_of (by rw [h]; decide) (by decide)
theorem zokX_35 {X : zS} (h : X.1 = 59) : zok spX X (some 35) 4 = some 35 := zok_of (by rw [h]; decide) rfl
theorem zokX_36 {X : zS} (h : X.1 = 59) : zok spX X (some 36) 9 = some 36 := zok_of (by rw [h]; decide) rfl
theorem zlaX_36 {X : zS} (h : X.1 = 59) : zla spX X (some 36) = some 36 := zla_of (by rw [h]; decide) (by decide)
theorem zokX_37 {X : zS} (h : X.1 = 59) : zok spX X (some 37) 9 = some 37 := zok_of (by rw [h]; decide) rfl
theorem zlaX_37 {X : zS} (h : X.1 = 59) : zla spX X (some 37) = some 37 := zla_of (by rw [h]; decide) (by decide)
theorem zokX_38 {X : zS} (h : X.1 = 59) : zok spX X (some 38) 9 = some 38 := zok_of (by rw [h]; decide) rfl
theorem zlaX_38 {X : zS} (h : X.1 = 59) : zla spX X (some 38) = some 38 := zla_of (by rw [h]; decide) (by decide)
theorem zokX_39 {X : zS} (h : X.1 = 59) : zok spX X (some 39) 4 = some 39 := zok_of (by rw [h]; decide) rfl
theorem zokX_40 {X : zS} (h : X.1 = 59) : zok spX X (some 40) 9 = some 40 := zok_of (by rw [h]; decide) rfl
theorem zlaX_40 {X : zS} (h : X.1 = 59) : zla spX X (some 40) = some 40 := zla_of (by rw [h]; decide) (by decide)
theorem zokX_41 {X : zS} (h : X.1 = 59) : zok spX X (some 41) 9 = some 41 := zok_of (by rw [h]; decide) rfl
theorem zlaX_41 {X : zS} (h : X.1 = 59) : zla spX X (some 41) = some 41 := zla_of (by rw [h]; decide) (by decide)
theorem zokX_42 {X : zS} (h : X.1 = 59) : zok spX X (some 42) 9 = some 42 := zok_of (by rw [h]; decide) rfl
theorem zlaX_42 {X : zS} (h : X.1 = 59) : zla spX X (some 42) = some 42 := zla_of (by rw [h]; decide) (by decide)
theorem zokX_43 {X : zS} (h : X.1 = 59) : zok spX X (some 43) 4 = some 43 := zok_of (by rw [h]; decide) rfl
theorem zokX_44 {X : zS} (h : X.1 = 59) : zok spX X (some 44) 9 = some 44 := zok_of (by rw [h]; decide) rfl
theorem zlaX_44 {X : zS} (h : X.1 = 59) : zla spX X (some 44) = some 44 := zla_of (by rw [h]; decide) (by decide)
theorem zokX_45 {X : zS} (h : X.1 = 59) : zok spX X (some 45) 9 = some 45 := zok_of (by rw [h]; decide) rfl
theorem zlaX_45 {X : zS} (h : X.1 = 59) : zla spX X (some 45) = some 45 := zla_of (by rw [h]; decide) (by decide)
theorem zokX_46 {X : zS} (h : X.1 = 59) : zok spX X (some 46) 9 = some 46 := zok_of (by rw [h]; decide) rfl
theorem zlaX_46 {X : zS} (h : X.1 = 59) : zla spX X (some 46) = some 46 := zla_of (by rw [h]; decide) (by decide)
theorem zokX_47 {X : zS} (h : X.1 = 59) : zok spX X (some 47) 4 = some 47 := zok_of (by rw [h]; decide) rfl
theorem zokX_48 {X : zS} (h : X.1 = 59) : zok spX X (some 48) 9 = some 48 := zok_of (by rw [h]; decide) rfl
theorem zlaX_48 {X : zS} (h : X.1 = 59) : zla spX X (some 48) = some 48 := zla_of (by rw [h]; decide) (by decide)
theorem zokX_49 {X : zS} (h : X.1 = 59) : zok spX X (some 49) 9 = some 49 := zok_of (by rw [h]; decide) rfl
theorem zlaX_49 {X : zS} (h : X.1 = 59) : zla spX X (some 49) = some 49 := zla_of (by rw [h]; decide) (by decide)
theorem zokX_50 {X : zS} (h : X.1 = 59) : zok spX X (some 50) 9 = some 50 := zok_of (by rw [h]; decide) rfl
theorem zlaX_50 {X : zS} (h : X.1 = 59) : zla spX X (some 50) = some 50 := zla_of (by rw [h]; decide) (by decide)
theorem zokX_51 {X : zS} (h : X.1 = 59) : zok spX X (some 51) 3 = some 51 := zok_of (by rw [h]; decide) rfl
theorem zokX_52 {X : zS} (h : X.1 = 59) : zok spX X (some 52) 9 = some 52 := zok_of (by rw [h]; decide) rfl
theorem zlaX_52 {X : zS} (h : X.1 = 59) : zla spX X (some 52) = some 52 := zla_of (by rw [h]; decide) (by decide)
theorem zokX_53 {X : zS} (h : X.1 = 59) : zok spX X (some 53) 3 = some 53 := zok_of (by rw [h]; decide) rfl
theorem zokX_54 {X : zS} (h : X.1 = 59) : zok spX X (some 54) 9 = some 54 := zok_of (by rw [h]; decide) rfl
theorem zlaX_54 {X : zS} (h : X.1 = 59) : zla spX X (some 54) = some 54 := zla_of (by rw [h]; decide) (by decide)
theorem zokX_55 {X : zS} (h : X.1 = 59) : zok spX X (some 55) 3 = some 55 := zok_of (by rw [h]; decide) rfl
theorem zokX_56 {X : zS} (h : X.1 = 59) : zok spX X (some 56) 9 = some 56 := zok_of (by rw [h]; decide) rfl
theorem zlaX_56 {X : zS} (h : X.1 = 59) : zla spX X (some 56) = some 56 := zla_of (by rw [h]; decide) (by decide)
theorem zokX_57 {X : zS} (h : X.1 = 59) : zok spX X (some 57) 3 = some 57 := zok_of (by rw [h]; decide) rfl
theorem zokX_58 {X : zS} (h : X.1 = 59) : zok spX X (some 58) 9 = some 58 := zok_of (by rw [h]; decide) rfl
theorem zlaX_58 {X : zS} (h : X.1 = 59) : zla spX X (some 58) = some 58 := zla_of (by rw [h]; decide) (by decide)
theorem zokM_0 {M : zS} (h : M.1 = 16) : zok spM M (some 0) 8 = some 0 := zok_of (by rw [h]; decide) rfl
theorem zokM_1 {M : zS} (h : M.1 = 16) : zok spM M (some 1) 9 = some 1 := zok_of (by rw [h]; decide) rfl
theorem zlaM_1 {M : zS} (h : M.1 = 16) : zla spM M (some 1) = some 1 := zla_of (by rw [h]; decide) (by decide)
theorem zokM_2 {M : zS} (h : M.1 = 16) : zok spM M (some 2) 9 = some 2 := zok_of (by rw [h]; decide) rfl
theorem zlaM_2 {M : zS} (h : M.1 = 16) : zla spM M (some 2) = some 2 := zla_of (by rw [h]; decide) (by decide)
theorem zokM_3 {M : zS} (h : M.1 = 16) : zok spM M (some 3) 9 = some 3 := zok_of (by rw [h]; decide) rfl
theorem zlaM_3 {M : zS} (h : M.1 = 16) : zla spM M (some 3) = some 3 := zla_of (by rw [h]; decide) (by decide)
theorem zokM_4 {M : zS} (h : M.1 = 16) : zok spM M (some 4) 9 = some 4 := zok_of (by rw [h]; decide) rfl
theorem zlaM_4 {M : zS} (h : M.1 = 16) : zla spM M (some 4) = some 4 := zla_of (by rw [h]; decide) (by decide)
theorem zokM_5 {M : zS} (h : M.1 = 16) : zok spM M (some 5) 9 = some 5 := zok_of (by rw [h]; decide) rfl
theorem zlaM_5 {M : zS} (h : M.1 = 16) : zla spM M (some 5) = some 5 := zla_of (by rw [h]; decide) (by decide)
theorem zokM_6 {M : zS} (h : M.1 = 16) : zok spM M (some 6) 9 = some 6 := zok_of (by rw [h]; decide) rfl
theorem zlaM_6 {M : zS} (h : M.1 = 16) : zla spM M (some 6) = some 6 := zla_of (by rw [h]; decide) (by decide)
theorem zokM_7 {M : zS} (h : M.1 = 16) : zok spM M (some 7) 9 = some 7 := zok_of (by rw [h]; decide) rfl
theorem zlaM_7 {M : zS} (h : M.1 = 16) : zla spM M (some 7) = some 7 := zla_of (by rw [h]; decide) (by decide)
theorem zokM_8 {M : zS} (h : M.1 = 16) : zok spM M (some 8) 9 = some 8 := zok_of (by rw [h]; decide) rfl
theorem zlaM_8 {M : zS} (h : M.1 = 16) : zla spM M (some 8) = some 8 := zla_of (by rw [h]; decide) (by decide)
theorem zokM_9 {M : zS} (h : M.1 = 16) : zok spM M (some 9) 9 = some 9 := zok_of (by rw [h]; decide) rfl
theorem zlaM_9 {M : zS} (h : M.1 = 16) : zla spM M (some 9) = some 9 := zla_of (by rw [h]; decide) (by decide)
theorem zokM_10 {M : zS} (h : M.1 = 16) : zok spM M (some 10) 9 = some 10 := zok_of (by rw [h]; decide) rfl
theorem zlaM_10 {M : zS} (h : M.1 = 16) : zla spM M (some 10) = some 10 := zla_of (by rw [h]; decide) (by decide)
theorem zokM_11 {M : zS} (h : M.1 = 16) : zok spM M (some 11) 9 = some 11 := zok_of (by rw [h]; decide) rfl
theorem zlaM_11 {M : zS} (h : M.1 = 16) : zla spM M (some 11) = some 11 := zla_of (by rw [h]; decide) (by decide)
theorem zokM_12 {M : zS} (h : M.1 = 16) : zok spM M (some 12) 10 = some 12 := zok_of (by rw [h]; decide) rfl
theorem zlaM_12 {M : zS} (h : M.1 = 16) : zla spM M (some 12) = some 12 := zla_of (by rw [h]; decide) (by decide)
theorem zokM_13 {M : zS} (h : M.1 = 16) : zok spM M (some 13) 9 = some 13 := zok_of (by rw [h]; decide) rfl
theorem zlaM_13 {M : zS} (h : M.1 = 16) : zla spM M (some 13) = some 13 := zla_of (by rw [h]; decide) (by decide)
theorem zokM_14 {M : zS} (h : M.1 = 16) : zok spM M (some 14) 9 = some 14 := zok_of (by rw [h]; decide) rfl
theorem zlaM_14 {M : zS} (h : M.1 = 16) : zla spM M (some 14) = some 14 := zla_of (by rw [h]; decide) (by decide)
theorem zokM_15 {M : zS} (h : M.1 = 16) : zok spM M (some 15) 9 = some 15 := zok_of (by rw [h]; decide) rfl
theorem zlaM_15 {M : zS} (h : M.1 = 16) : zla spM M (some 15) = some 15 := zla_of (by rw [h]; decide) (by decide)
