theorem xlow_st : ∀ (n : Nat) (a b c d e f : Int32) (st : zS), fX7_lowest_L8 n a b c d e f st = (fX7_lowest_L8 n a b c d e f z0).map (fun q => (q.1, st))
  | 0, _, _, _, _, _, _, _ => rfl
  | n + 1, a, b, c, d, e, f, st => by
    simp only [fX7_lowest_L8, fX7_lowest_j39, fX7_lowest_j48, zlet]
    repeat' split
    all_goals first | rfl | exact xlow_st n _ _ _ _ _ _ st | simp_all
theorem mlow_st : ∀ (n : Nat) (a b : Int64) (c : Int32) (d e : Int64) (st : zS), fX8_lowest_L6 n a b c d e st = (fX8_lowest_L6 n a b c d e z0).map (fun q => (q.1, st))
  | 0, _, _, _, _, _, _ => rfl
  | n + 1, a, b, c, d, e, st => by
    simp only [fX8_lowest_L6, zlet]
    repeat' split
    all_goals first | rfl | exact mlow_st n _ _ _ _ _ st | simp_all
def lowF (a b p : Nat) : Option Int64 := (fX7_lowest (nI a) (nI b) (nI p) z0).map (fun q => q.1)
def chkLow (a b p : Nat) : Bool := (lowF a (b + 1) p).isSome && ((fX8_lowest (lN a) (lN (b + 1)) (nI p) z0).map (fun q => q.1) == lowF a (b + 1) p)
theorem chkLow_all : (List.range 21).all (fun a => (List.range 20).all (fun b => (List.range 2).all (fun p => chkLow a b p))) = true := by decide +kernel
theorem low_both {a b p : Nat} (ha : a ≤ 20) (hb : 1 ≤ b) (hb2 : b ≤ 20) (hp : p ≤ 1) (X M : zS) : ∃ r, fX7_lowest (nI a) (nI b) (nI p) X = some (r, X) ∧ fX8_lowest (lN a) (lN b) (nI p) M = some (r, M) := by
  have h1 := List.all_eq_true.mp (List.all_eq_true.mp (List.all_eq_true.mp chkLow_all a (List.mem_range.mpr (by omega))) (b - 1) (List.mem_range.mpr (by omega))) p (List.mem_range.mpr (by omega))
  unfold chkLow at h1
  rw [show b - 1 + 1 = b by omega] at h1
  simp only [Bool.and_eq_true, beq_iff_eq] at h1
  obtain ⟨h2, h3⟩ := h1
  obtain ⟨r, hr⟩ := Option.isSome_iff_exists.mp h2
  refine ⟨r, ?_, ?_⟩
  · unfold fX7_lowest
    rw [xlow_st]
    unfold lowF fX7_lowest at hr
    cases h : fX7_lowest_L8 zF (nI a) (nI b) (nI p) (nI b) (nI a) 0 z0 with
    | none => rw [h] at hr; cases hr
    | some q => rw [h] at hr; cases hr; rfl
  · rw [hr] at h3
    unfold fX8_lowest at h3 ⊢
    rw [mlow_st]
    cases h : fX8_lowest_L6 zF (lN a) (lN b) (nI p) (lN a) (lN b) z0 with
    | none => rw [h] at h3; cases h3
    | some q => rw [h] at h3; cases h3; rfl
