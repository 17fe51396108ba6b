def pc (n : Nat) : Nat := n % 2 + n / 2 % 2 + n / 4 % 2 + n / 8 % 2 + n / 16 % 2 + n / 32 % 2 + n / 64 % 2 + n / 128 % 2 + n / 256 % 2 + n / 512 % 2 + n / 1024 % 2 + n / 2048 % 2
theorem pc_le (n : Nat) : pc n ≤ 12 := by unfold pc; omega
def bcF (a0 : Int32) : Int32 := match fJ6_bitCount_0f7a4 a0 z0 with
  | some q => q.1
  | none => 0
theorem bc_eq (x : Int32) (st : zS) : fJ6_bitCount_0f7a4 x st = some (bcF x, st) := rfl
def bitsF : Nat → Int32 → Int32 → Option Int32
  | 0, _, _ => none
  | n + 1, y1, y2 => if y2 = 0 then some y1 else bitsF n (y1 + 1) (y2 &&& (y2 - 1))
theorem bitsF_eq (st : zS) : ∀ (n : Nat) (y1 y2 : Int32), fX8_bitsOf_L4 n y1 y2 st = (bitsF n y1 y2).map (fun r => (r, st))
  | 0, _, _ => rfl
  | n + 1, y1, y2 => by
    rw [fX8_bitsOf_L4, bitsF]
    split
    · rfl
    · exact bitsF_eq st n _ _
def chkBits (n : Nat) : Bool := bcF (nI n) == nI (pc n) && bitsF 20 0 (nI n) == some (nI (pc n))
set_option maxRecDepth 100000 in
theorem chk_all : (List.range 4096).all chkBits = true := by decide +kernel
theorem bitsF_more : ∀ (n k : Nat) (y1 y2 r : Int32), bitsF n y1 y2 = some r → bitsF (n + k) y1 y2 = some r
  | 0, _, _, _, _, h => by cases h
  | n + 1, k, y1, y2, r, h => by
    rw [show n + 1 + k = (n + k) + 1 by omega]
    rw [bitsF] at h ⊢
    split
    · rename_i e
      rw [if_pos e] at h
      exact h
    · rename_i e
      rw [if_neg e] at h
      exact bitsF_more n k _ _ r h
/-- both sides' count of bits, of a number below 4096 -/
theorem x_bits {n : Nat} (h : n ≤ 4095) (st : zS) : fJ6_bitCount_0f7a4 (nI n) st = some (nI (pc n), st) := by
  have h1 := List.all_eq_true.mp chk_all n (List.mem_range.mpr (by omega))
  unfold chkBits at h1
  simp only [Bool.and_eq_true, beq_iff_eq] at h1
  rw [bc_eq, h1.1]
theorem m_bits {n : Nat} (h : n ≤ 4095) (st : zS) : fX8_bitsOf (nI n) st = some (nI (pc n), st) := by
  have h1 := List.all_eq_true.mp chk_all n (List.mem_range.mpr (by omega))
  unfold chkBits at h1
  simp only [Bool.and_eq_true, beq_iff_eq] at h1
  unfold fX8_bitsOf
  rw [bitsF_eq, show zF = 20 + 4980 from rfl, bitsF_more 20 4980 _ _ _ h1.2]
  rfl
