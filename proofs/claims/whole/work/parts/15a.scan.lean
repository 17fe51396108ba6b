/-! bytes and TOKENS -/
def byB (B : Nat → Int32) (n i : Nat) : Int32 := if i < n then B i else -1
def isBl (b : Int32) : Bool := decide (b = 32) || decide (b = 10)
def isLt (b : Int32) : Bool := !(decide (b < 97)) && !(decide (122 < b))
def isDg (b : Int32) : Bool := !(decide (b < 48)) && !(decide (57 < b))
def isSg (b : Int32) : Bool := decide (b = 40) || (decide (b = 41) || (decide (b = 42) || (decide (b = 43) || (decide (b = 45) || (decide (b = 59) || (decide (b = 60) || decide (b = 61)))))))
def sk (p : Int32 → Bool) (B : Nat → Int32) (n : Nat) : Nat → Nat → Nat
  | 0, i => i
  | m + 1, i => if p (byB B n i) = true then sk p B n m (i + 1) else i
def skp (p : Int32 → Bool) (B : Nat → Int32) (n i : Nat) : Nat := sk p B n (n - i) i
theorem sk_ge (p : Int32 → Bool) (B : Nat → Int32) (n : Nat) : ∀ m i, i ≤ sk p B n m i ∧ sk p B n m i ≤ i + m
  | 0, i => ⟨Nat.le_refl _, Nat.le_refl _⟩
  | m + 1, i => by
    rw [sk]
    have := sk_ge p B n m (i + 1)
    split <;> omega
theorem skp_ge (p : Int32 → Bool) (B : Nat → Int32) (n i : Nat) : i ≤ skp p B n i := (sk_ge p B n _ i).1
theorem skp_le (p : Int32 → Bool) (B : Nat → Int32) {n i : Nat} (h : i ≤ n) : skp p B n i ≤ n := by
  have := (sk_ge p B n (n - i) i).2
  unfold skp
  omega
theorem sk_stop {p : Int32 → Bool} (hp : p (-1) = false) (B : Nat → Int32) (n : Nat) : ∀ m i, n ≤ i + m → p (byB B n (sk p B n m i)) = false
  | 0, i, h => by
    rw [sk]
    unfold byB
    rw [if_neg (by omega)]
    exact hp
  | m + 1, i, h => by
    rw [sk]
    by_cases c : p (byB B n i) = true
    · rw [if_pos c]; exact sk_stop hp B n m (i + 1) (by omega)
    · rw [if_neg c]; simpa using c
theorem skp_stop {p : Int32 → Bool} (hp : p (-1) = false) (B : Nat → Int32) (n i : Nat) : p (byB B n (skp p B n i)) = false := sk_stop hp B n _ i (by omega)
theorem sk_in {p : Int32 → Bool} (B : Nat → Int32) (n : Nat) : ∀ m i j, i ≤ j → j < sk p B n m i → p (byB B n j) = true
  | 0, i, j, h1, h2 => by rw [sk] at h2; omega
  | m + 1, i, j, h1, h2 => by
    rw [sk] at h2
    by_cases c : p (byB B n i) = true
    · rw [if_pos c] at h2
      by_cases e : j = i
      · subst e; exact c
      · exact sk_in B n m (i + 1) j (by omega) h2
    · rw [if_neg c] at h2; omega
/-- the words -/
def wd (j : Nat) : List Int32 := zByt.getD j []
def alE (B : Nat → Int32) (n : Nat) : List Int32 → Nat → Bool
  | [], _ => true
  | c :: cs, s => (byB B n s == c) && alE B n cs (s + 1)
def mW (B : Nat → Int32) (n : Nat) (w : List Int32) (s e : Nat) : Bool := decide (e = s + w.length) && alE B n w s
theorem alE_inj (B : Nat → Int32) (n : Nat) : ∀ (w v : List Int32) (s : Nat), w.length = v.length → alE B n w s = true → alE B n v s = true → w = v
  | [], [], _, _, _, _ => rfl
  | [], b :: v, _, h, _, _ => by simp at h
  | a :: w, [], _, h, _, _ => by simp at h
  | a :: w, b :: v, s, h, h1, h2 => by
    rw [alE, Bool.and_eq_true, beq_iff_eq] at h1 h2
    rw [alE_inj B n w v (s + 1) (by simpa using h) h1.2 h2.2, h1.1.symm.trans h2.1]
theorem mW_inj {B : Nat → Int32} {n s e : Nat} {w v : List Int32} (h1 : mW B n w s e = true) (h2 : mW B n v s e = true) : w = v := by
  unfold mW at h1 h2
  rw [Bool.and_eq_true, decide_eq_true_eq] at h1 h2
  exact alE_inj B n w v s (by omega) h1.2 h2.2
theorem wd_inj : ∀ i, i < 12 → ∀ j, j < 12 → wd i = wd j → i = j := by decide
/-- a WORD's code; 9: neither KEY nor NAME -/
def wdC (B : Nat → Int32) (n s e : Nat) : Int32 :=
  if mW B n (wd 0) s e = false then (if mW B n (wd 1) s e = false then (if mW B n (wd 2) s e = false then (if mW B n (wd 3) s e = false then (if mW B n (wd 4) s e = false then (if mW B n (wd 5) s e = false then (if mW B n (wd 6) s e = false then (if mW B n (wd 7) s e = false then (if mW B n (wd 8) s e = false then (if mW B n (wd 9) s e = false then (if mW B n (wd 10) s e = false then (if mW B n (wd 11) s e = false then 9 else 3) else 2) else 1) else 6) else 5) else 4) else -6) else -5) else -4) else -3) else -2) else -1
def cdW (j : Nat) : Int32 := [-1, -2, -3, -4, -5, -6, 4, 5, 6, 1, 2, 3].getD j 9
theorem wd_cases (B : Nat → Int32) (n s e : Nat) : (∃ j, j < 12 ∧ mW B n (wd j) s e = true ∧ wdC B n s e = cdW j) ∨ ((∀ j, j < 12 → mW B n (wd j) s e = false) ∧ wdC B n s e = 9) := by
  unfold wdC
  by_cases h0 : mW B n (wd 0) s e = false
  · rw [if_pos h0]
    by_cases h1 : mW B n (wd 1) s e = false
    · rw [if_pos h1]
      by_cases h2 : mW B n (wd 2) s e = false
      · rw [if_pos h2]
        by_cases h3 : mW B n (wd 3) s e = false
        · rw [if_pos h3]
          by_cases h4 : mW B n (wd 4) s e = false
          · rw [if_pos h4]
            by_cases h5 : mW B n (wd 5) s e = false
            · rw [if_pos h5]
              by_cases h6 : mW B n (wd 6) s e = false
              · rw [if_pos h6]
                by_cases h7 : mW B n (wd 7) s e = false
                · rw [if_pos h7]
                  by_cases h8 : mW B n (wd 8) s e = false
                  · rw [if_pos h8]
                    by_cases h9 : mW B n (wd 9) s e = false
                    · rw [if_pos h9]
                      by_cases h10 : mW B n (wd 10) s e = false
                      · rw [if_pos h10]
                        by_cases h11 : mW B n (wd 11) s e = false
                        · rw [if_pos h11]
                          refine Or.inr ⟨fun j hj => ?_, rfl⟩
                          rcases (show j = 0 ∨ j = 1 ∨ j = 2 ∨ j = 3 ∨ j = 4 ∨ j = 5 ∨ j = 6 ∨ j = 7 ∨ j = 8 ∨ j = 9 ∨ j = 10 ∨ j = 11 by omega) with rfl | rfl | rfl | rfl | rfl | rfl | rfl | rfl | rfl | rfl | rfl | rfl <;> assumption
                        · rw [if_neg h11]; exact Or.inl ⟨11, by decide, by simpa using h11, rfl⟩
                      · rw [if_neg h10]; exact Or.inl ⟨10, by decide, by simpa using h10, rfl⟩
                    · rw [if_neg h9]; exact Or.inl ⟨9, by decide, by simpa using h9, rfl⟩
                  · rw [if_neg h8]; exact Or.inl ⟨8, by decide, by simpa using h8, rfl⟩
                · rw [if_neg h7]; exact Or.inl ⟨7, by decide, by simpa using h7, rfl⟩
              · rw [if_neg h6]; exact Or.inl ⟨6, by decide, by simpa using h6, rfl⟩
            · rw [if_neg h5]; exact Or.inl ⟨5, by decide, by simpa using h5, rfl⟩
          · rw [if_neg h4]; exact Or.inl ⟨4, by decide, by simpa using h4, rfl⟩
        · rw [if_neg h3]; exact Or.inl ⟨3, by decide, by simpa using h3, rfl⟩
      · rw [if_neg h2]; exact Or.inl ⟨2, by decide, by simpa using h2, rfl⟩
    · rw [if_neg h1]; exact Or.inl ⟨1, by decide, by simpa using h1, rfl⟩
  · rw [if_neg h0]; exact Or.inl ⟨0, by decide, by simpa using h0, rfl⟩
theorem cdW_inj : ∀ i, i < 12 → ∀ j, j < 12 → cdW i = cdW j → i = j := by decide
theorem cdW_9 : ∀ i, i < 12 → ¬ cdW i = 9 ∧ ¬ cdW i = 7 ∧ ¬ cdW i = 8 ∧ ¬ cdW i < -6 ∧ ¬ 6 < cdW i ∧ ¬ cdW i = 0 := by decide
theorem wd_iff (B : Nat → Int32) (n s e : Nat) {j : Nat} (hj : j < 12) : wdC B n s e = cdW j ↔ mW B n (wd j) s e = true := by
  rcases wd_cases B n s e with ⟨i, hi, h1, h2⟩ | ⟨h1, h2⟩
  · rw [h2]
    constructor
    · intro q
      rw [← cdW_inj i hi j hj q]; exact h1
    · intro q
      have := wd_inj i hi j hj (mW_inj h1 q)
      rw [this]
  · rw [h2]
    constructor
    · intro q; exact absurd q.symm (cdW_9 j hj).1
    · intro q; rw [h1 j hj] at q; cases q
/-- a TOKEN from p on: where it starts, its end, its sort, its worth -/
def tkS (B : Nat → Int32) (n p : Nat) : Nat := skp isBl B n p
def tkE (B : Nat → Int32) (n p : Nat) : Nat := if isLt (byB B n (tkS B n p)) = true then skp isLt B n (tkS B n p + 1) else if isDg (byB B n (tkS B n p)) = true then skp isDg B n (tkS B n p + 1) else tkS B n p + 1
def dgN (b : Int32) : Nat := b.toNatClampNeg - 48
def vlF (B : Nat → Int32) (n : Nat) : Nat → Nat → Nat → Nat
  | 0, _, acc => acc
  | m + 1, s, acc => vlF B n m (s + 1) (acc * 10 + dgN (byB B n s))
def tkV (B : Nat → Int32) (n p : Nat) : Nat := if isLt (byB B n (tkS B n p)) = true then 0 else if isDg (byB B n (tkS B n p)) = true then (if tkE B n p - tkS B n p ≤ 4 then vlF B n (tkE B n p - tkS B n p) (tkS B n p) 0 else 0) else 0
def tkC (B : Nat → Int32) (n p : Nat) : Int32 := if byB B n (tkS B n p) = -1 then 8 else if isLt (byB B n (tkS B n p)) = true then wdC B n (tkS B n p) (tkE B n p) else if isDg (byB B n (tkS B n p)) = true then (if tkE B n p - tkS B n p ≤ 4 then 7 else 9) else if isSg (byB B n (tkS B n p)) = true then byB B n (tkS B n p) else 9
/-- the sort, as the reference has it: 0 end, 1 word, 2 number, 3 sign, 4 wrong -/
def tkK (B : Nat → Int32) (n p : Nat) : Nat := if byB B n (tkS B n p) = -1 then 0 else if isLt (byB B n (tkS B n p)) = true then 1 else if isDg (byB B n (tkS B n p)) = true then (if tkE B n p - tkS B n p ≤ 4 then 2 else 4) else if isSg (byB B n (tkS B n p)) = true then 3 else 4
theorem tkS_ge (B : Nat → Int32) (n p : Nat) : p ≤ tkS B n p := skp_ge _ _ _ _
theorem tkS_le (B : Nat → Int32) {n p : Nat} (h : p ≤ n) : tkS B n p ≤ n := skp_le _ _ h
theorem tkE_gt (B : Nat → Int32) (n p : Nat) : tkS B n p < tkE B n p := by
  unfold tkE
  have h1 := skp_ge isLt B n (tkS B n p + 1)
  have h2 := skp_ge isDg B n (tkS B n p + 1)
  split
  · omega
  · split <;> omega
theorem byB_in {B : Nat → Int32} {n i : Nat} (h : ¬ byB B n i = -1) : i < n := by
  unfold byB at h
  by_cases c : i < n
  · exact c
  · rw [if_neg c] at h; exact absurd rfl h
theorem tkE_le (B : Nat → Int32) {n p : Nat} (h : ¬ byB B n (tkS B n p) = -1) : tkE B n p ≤ n := by
  have h0 := byB_in h
  unfold tkE
  have h1 := skp_le isLt B (n := n) (i := tkS B n p + 1) (by omega)
  have h2 := skp_le isDg B (n := n) (i := tkS B n p + 1) (by omega)
  split
  · exact h1
  · split
    · exact h2
    · omega
/-- where the scanning of TOKEN i begins -/
def psT (B : Nat → Int32) (n : Nat) : Nat → Nat
  | 0 => 0
  | i + 1 => tkE B n (psT B n i)
def tC (B : Nat → Int32) (n i : Nat) : Int32 := tkC B n (psT B n i)
/-- no TOKEN ahead of i is the end or wrong -/
def vt (B : Nat → Int32) (n i : Nat) : Prop := ∀ j, j < i → ¬ tC B n j = 8 ∧ ¬ tC B n j = 9
theorem vt_0 (B : Nat → Int32) (n : Nat) : vt B n 0 := fun _ h => absurd h (Nat.not_lt_zero _)
theorem vt_s {B : Nat → Int32} {n i : Nat} (h : vt B n i) (h8 : ¬ tC B n i = 8) (h9 : ¬ tC B n i = 9) : vt B n (i + 1) := fun j hj => by
  by_cases e : j = i
  · subst e; exact ⟨h8, h9⟩
  · exact h j (by omega)
theorem tC_8 {B : Nat → Int32} {n p : Nat} (h : byB B n (tkS B n p) = -1) : tkC B n p = 8 := if_pos h
theorem vt_ps {B : Nat → Int32} {n : Nat} : ∀ i, vt B n i → i ≤ psT B n i ∧ psT B n i ≤ n
  | 0, _ => ⟨Nat.le_refl _, Nat.zero_le _⟩
  | i + 1, h => by
    have ih := vt_ps i (fun j hj => h j (by omega))
    have h8 := (h i (by omega)).1
    have hne : ¬ byB B n (tkS B n (psT B n i)) = -1 := fun q => h8 (tC_8 q)
    have h1 := tkS_ge B n (psT B n i)
    have h2 := tkE_gt B n (psT B n i)
    have h3 := tkE_le B hne
    show i + 1 ≤ tkE B n (psT B n i) ∧ tkE B n (psT B n i) ≤ n
    omega
theorem vt_le {B : Nat → Int32} {n i : Nat} (h : vt B n i) : i ≤ n := Nat.le_trans (vt_ps i h).1 (vt_ps i h).2
theorem vt_end {B : Nat → Int32} {n i : Nat} (h : vt B n i) (hi : n ≤ i) : tC B n i = 8 := by
  have := vt_ps i h
  have h2 := tkS_le B (p := psT B n i) (n := n) (by omega)
  have h3 := tkS_ge B n (psT B n i)
  refine tC_8 ?_
  unfold byB
  rw [if_neg (by omega)]
theorem isLt_m1 : isLt (-1) = false := by decide
theorem isDg_m1 : isDg (-1) = false := by decide
theorem isBl_m1 : isBl (-1) = false := by decide
theorem isSg_m1 : isSg (-1) = false := by decide
theorem isLt_r {b : Int32} (h : isLt b = true) : ∃ j, 97 ≤ j ∧ j ≤ 122 ∧ b = nI j := by
  unfold isLt at h
  simp only [Bool.and_eq_true, Bool.not_eq_true', decide_eq_false_iff_not] at h
  obtain ⟨h1, h2⟩ := h
  have a1 : (97 : Int32).toInt = 97 := by decide
  have a2 : (122 : Int32).toInt = 122 := by decide
  rw [Int32.lt_iff_toInt_lt] at h1 h2
  refine ⟨b.toInt.toNat, by omega, by omega, Int32.toInt_inj.mp ?_⟩
  rw [nI_toInt (by omega)]; omega
theorem isDg_r {b : Int32} (h : isDg b = true) : ∃ j, 48 ≤ j ∧ j ≤ 57 ∧ b = nI j := by
  unfold isDg at h
  simp only [Bool.and_eq_true, Bool.not_eq_true', decide_eq_false_iff_not] at h
  obtain ⟨h1, h2⟩ := h
  have a1 : (48 : Int32).toInt = 48 := by decide
  have a2 : (57 : Int32).toInt = 57 := by decide
  rw [Int32.lt_iff_toInt_lt] at h1 h2
  refine ⟨b.toInt.toNat, by omega, by omega, Int32.toInt_inj.mp ?_⟩
  rw [nI_toInt (by omega)]; omega
theorem isLt_i {j : Nat} (h1 : 97 ≤ j) (h2 : j ≤ 122) : isLt (nI j) = true := by
  unfold isLt
  rw [decide_eq_false (show ¬ nI j < 97 from nI_nlt (b := 97) h1 (by omega)), decide_eq_false (show ¬ (122 : Int32) < nI j from nI_nlt (a := 122) h2 (by decide))]
  rfl
