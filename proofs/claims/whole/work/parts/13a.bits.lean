/-! the same as zlet's and bind's own rows, but such as simp keeps a proof of: the kernel then never compares the two sides by computing -/
theorem zletE {α β : Type} (a : α) (f : α → β) : zlet a f = f a := of_eq_true (eq_self _)
theorem obs {α β : Type} (a : α) (f : α → Option β) : (some a).bind f = f a := of_eq_true (eq_self _)
theorem sl31 : ∀ n, n < 32 → ((nI n &&& 31).toBitVec.smod 32).toNat = n := by decide +kernel
theorem n_and (a b : Nat) : nI a &&& nI b = nI (a &&& b) := by
  apply Int32.toBitVec_inj.1
  show BitVec.ofNat 32 a &&& BitVec.ofNat 32 b = BitVec.ofNat 32 (a &&& b)
  apply BitVec.eq_of_getLsbD_eq
  intro i hi
  simp [hi]
theorem n_or (a b : Nat) : nI a ||| nI b = nI (a ||| b) := by
  apply Int32.toBitVec_inj.1
  show BitVec.ofNat 32 a ||| BitVec.ofNat 32 b = BitVec.ofNat 32 (a ||| b)
  apply BitVec.eq_of_getLsbD_eq
  intro i hi
  simp [hi]
theorem n_xor (a b : Nat) : nI a ^^^ nI b = nI (a ^^^ b) := by
  apply Int32.toBitVec_inj.1
  show BitVec.ofNat 32 a ^^^ BitVec.ofNat 32 b = BitVec.ofNat 32 (a ^^^ b)
  apply BitVec.eq_of_getLsbD_eq
  intro i hi
  simp [hi]
theorem tb_hi {a i : Nat} (ha : a ≤ 4095) (hi : 12 ≤ i) : a.testBit i = false :=
  Nat.testBit_lt_two_pow (Nat.lt_of_lt_of_le (show a < 2 ^ 12 by omega) (Nat.pow_le_pow_right (by decide) hi))
theorem tb_ones (n i : Nat) : (2 ^ n - 1).testBit i = decide (i < n) := by simp
theorem tb_4095 (i : Nat) : (4095 : Nat).testBit i = decide (i < 12) := tb_ones 12 i
/-- a without b, of numbers below 4096 -/
def dn (a b : Nat) : Nat := a &&& (4095 ^^^ b)
theorem dn_le (a b : Nat) : dn a b ≤ a := Nat.and_le_left
theorem dn_tb {a : Nat} (ha : a ≤ 4095) (b i : Nat) : (dn a b).testBit i = (a.testBit i && !b.testBit i) := by
  unfold dn
  rw [Nat.testBit_and, Nat.testBit_xor, tb_4095]
  by_cases hi : i < 12
  · simp [hi]
  · rw [tb_hi ha (by omega)]; rfl
theorem n_m1 : (-1 : Int32) = nI (2 ^ 32 - 1) := by decide
theorem n_dn {a b : Nat} (ha : a ≤ 4095) : nI a &&& (nI b ^^^ (-1)) = nI (dn a b) := by
  rw [n_m1, n_xor, n_and]
  congr 1
  apply Nat.eq_of_testBit_eq
  intro i
  rw [dn_tb ha, Nat.testBit_and, Nat.testBit_xor, tb_ones]
  by_cases hi : i < 12
  · simp [show i < 32 by omega]
  · rw [tb_hi ha (by omega)]; rfl
theorem dn_comm {a : Nat} (ha : a ≤ 4095) (b c : Nat) : dn (dn a b) c = dn (dn a c) b := by
  apply Nat.eq_of_testBit_eq
  intro i
  have h1 := Nat.le_trans (dn_le a b) ha
  have h2 := Nat.le_trans (dn_le a c) ha
  rw [dn_tb h1, dn_tb h2, dn_tb ha, dn_tb ha]
  cases a.testBit i <;> cases b.testBit i <;> cases c.testBit i <;> rfl
theorem or_le {a b : Nat} (ha : a ≤ 4095) (hb : b ≤ 4095) : a ||| b ≤ 4095 := by
  have := Nat.or_lt_two_pow (n := 12) (x := a) (y := b) (by omega) (by omega)
  omega
theorem n_bit {n t : Nat} (hn : n ≤ 4095) (ht : t < 31) : (nI n >>> (nI t &&& 31)) &&& (1 : Int32) = nI (n / 2 ^ t % 2) := by
  rw [pk_shrN (by omega) (nI t &&& 31) t (sl31 t (by omega))]
  have h : n / 2 ^ t ≤ n := Nat.div_le_self _ _
  exact pk_andN (by omega) 1 rfl
theorem tb_dec (n t : Nat) : n.testBit t = decide (n / 2 ^ t % 2 = 1) := Nat.testBit_eq_decide_div_mod_eq
theorem tb_if (n t : Nat) : (if n.testBit t = true then 1 else 0) = n / 2 ^ t % 2 := by
  rw [tb_dec]
  by_cases h : n / 2 ^ t % 2 = 1
  · simp [h]
  · simp [h]; omega
theorem n_bit0 {n t : Nat} (hn : n ≤ 4095) (ht : t < 31) : ((nI n >>> (nI t &&& 31)) &&& (1 : Int32) = 0) ↔ n.testBit t = false := by
  rw [n_bit hn ht, ← nI_0, nI_eq (by omega) (by omega), tb_dec]
  simp
theorem n_bit1 {n t : Nat} (hn : n ≤ 4095) (ht : t < 31) : ((nI n >>> (nI t &&& 31)) &&& (1 : Int32) = 1) ↔ n.testBit t = true := by
  rw [n_bit hn ht, show (1 : Int32) = nI 1 from rfl, nI_eq (by omega) (by omega), tb_dec]
  simp
theorem n_shl {t : Nat} (ht : t < 31) (c : Nat) (hc : c ≤ 1) : nI c <<< (nI t &&& 31) = nI (c * 2 ^ t) := by
  refine pk_shlN (nI t &&& 31) t (sl31 t (by omega)) ?_
  have h : 2 ^ t < 2 ^ 32 := Nat.pow_lt_pow_right (by decide) (by omega)
  rcases (show c = 0 ∨ c = 1 by omega) with rfl | rfl
  · omega
  · omega
theorem n_shl1 {t : Nat} (ht : t < 31) : (1 : Int32) <<< (nI t &&& 31) = nI (2 ^ t) := by
  have h := n_shl ht 1 (Nat.le_refl _)
  rw [Nat.one_mul] at h
  exact h
theorem p2_le {t : Nat} (ht : t < 12) : 2 ^ t ≤ 4095 := by
  have h : 2 ^ t ≤ 2 ^ 11 := Nat.pow_le_pow_right (by decide) (by omega)
  omega
/-- how many of t .. t + m - 1 -/
def ct (f : Nat → Bool) : Nat → Nat → Nat
  | 0, _ => 0
  | m + 1, t => (if f t = true then 1 else 0) + ct f m (t + 1)
theorem ct_congr {f g : Nat → Bool} : ∀ (m t : Nat), (∀ j, t ≤ j → j < t + m → f j = g j) → ct f m t = ct g m t
  | 0, _, _ => rfl
  | m + 1, t, h => by
    rw [ct, ct, h t (Nat.le_refl t) (by omega), ct_congr m (t + 1) (fun j h1 h2 => h j (by omega) (by omega))]
theorem ct_le (f : Nat → Bool) : ∀ m t, ct f m t ≤ m
  | 0, _ => Nat.le_refl _
  | m + 1, t => by
    rw [ct]
    have := ct_le f m (t + 1)
    split <;> omega
theorem pc_ct (n : Nat) : pc n = ct (fun j => n.testBit j) 12 0 := by
  simp only [ct, tb_if]
  unfold pc
  simp only [Nat.reduceAdd, Nat.reducePow, Nat.div_one]
  omega
theorem ct_zero {f : Nat → Bool} : ∀ (m t : Nat), ct f m t = 0 → ∀ j, t ≤ j → j < t + m → f j = false
  | 0, _, _, j, h1, h2 => by omega
  | m + 1, t, h, j, h1, h2 => by
    rw [ct] at h
    by_cases e : j = t
    · subst e
      cases hf : f j with
      | false => rfl
      | true => rw [hf] at h; simp at h
    · exact ct_zero m (t + 1) (by omega) j (by omega) (by omega)
theorem pc_zero {n : Nat} (hn : n ≤ 4095) : pc n = 0 ↔ n = 0 := by
  constructor
  · intro h
    rw [pc_ct] at h
    apply Nat.eq_of_testBit_eq
    intro i
    rw [Nat.zero_testBit]
    by_cases hi : i < 12
    · exact ct_zero 12 0 h i (by omega) (by omega)
    · exact tb_hi hn (by omega)
  · intro h; subst h; rfl
/-- whatever is LIKE one of a set -/
def laN (L : Nat → Nat) (s : Nat) : Nat → Nat → Nat → Nat
  | 0, _, acc => acc
  | m + 1, t, acc => laN L s m (t + 1) (if s.testBit t = true then acc ||| L t else acc)
theorem laN_le {L : Nat → Nat} (hL : ∀ t, t < 12 → L t ≤ 4095) (s : Nat) : ∀ (m t acc : Nat), t + m = 12 → acc ≤ 4095 → laN L s m t acc ≤ 4095
  | 0, _, _, _, h => h
  | m + 1, t, acc, h1, h => by
    rw [laN]
    refine laN_le hL s m (t + 1) _ (by omega) ?_
    split
    · exact or_le h (hL t (by omega))
    · exact h
/-- what is LIKE two of a set -/
def twN (L : Nat → Nat) (s : Nat) : Nat → Nat → Nat → Nat → Nat
  | 0, _, _, tw => tw
  | m + 1, t, on, tw => if s.testBit t = true then twN L s m (t + 1) (on ||| L t) (tw ||| (on &&& L t)) else twN L s m (t + 1) on tw
theorem twN_tb (L : Nat → Nat) (s i : Nat) : ∀ (m t on tw : Nat), (twN L s m t on tw).testBit i = (tw.testBit i || (on.testBit i && decide (1 ≤ ct (fun j => s.testBit j && (L j).testBit i) m t)) || decide (2 ≤ ct (fun j => s.testBit j && (L j).testBit i) m t))
  | 0, _, _, _ => by simp [twN, ct]
  | m + 1, t, on, tw => by
    rw [twN, ct]
    generalize hc : ct (fun j => s.testBit j && (L j).testBit i) m (t + 1) = c
    cases hs : s.testBit t with
    | false =>
      rw [if_neg (by simp), twN_tb L s i m (t + 1) on tw, hc]
      simp
    | true =>
      rw [if_pos rfl, twN_tb L s i m (t + 1) _ _, hc, Nat.testBit_or, Nat.testBit_or, Nat.testBit_and]
      have e1 : (1 : Nat) ≤ 1 + c := by omega
      have e2 : (2 ≤ 1 + c) = (1 ≤ c) := by simp; omega
      cases hl : (L t).testBit i <;> cases ho : on.testBit i <;> cases ht : tw.testBit i <;> simp [e1, e2]
      omega
theorem twN_le {L : Nat → Nat} (hL : ∀ t, t < 12 → L t ≤ 4095) (s : Nat) : ∀ (m t on tw : Nat), t + m = 12 → on ≤ 4095 → tw ≤ 4095 → twN L s m t on tw ≤ 4095
  | 0, _, _, _, _, _, h => h
  | m + 1, t, on, tw, h1, h2, h3 => by
    rw [twN]
    split
    · exact twN_le hL s m (t + 1) _ _ (by omega) (or_le h2 (hL t (by omega))) (or_le h3 (Nat.le_trans Nat.and_le_left h2))
    · exact twN_le hL s m (t + 1) _ _ (by omega) h2 h3
/-- what is LIKE one of a set at most -/
def fwN (L : Nat → Nat) (s : Nat) : Nat → Nat → Nat → Nat
  | 0, _, acc => acc
  | m + 1, t, acc => fwN L s m (t + 1) (acc ||| ((if 2 ≤ pc (L t &&& s) then 0 else 1) * 2 ^ t))
theorem fwN_tb (L : Nat → Nat) (s i : Nat) : ∀ (m t acc : Nat), (fwN L s m t acc).testBit i = (acc.testBit i || (decide (t ≤ i) && decide (i < t + m) && decide (pc (L i &&& s) < 2)))
  | 0, t, acc => by
    rw [fwN]
    by_cases h : t ≤ i
    · rw [decide_eq_false (show ¬ i < t + 0 by omega)]; simp
    · simp [h]
  | m + 1, t, acc => by
    rw [fwN, fwN_tb L s i m (t + 1), Nat.testBit_or]
    have h2 : ((if 2 ≤ pc (L t &&& s) then 0 else 1) * 2 ^ t).testBit i = (decide (t = i) && decide (pc (L i &&& s) < 2)) := by
      by_cases e : t = i
      · subst e
        by_cases c : 2 ≤ pc (L t &&& s)
        · simp [c]
        · simp [c, Nat.not_le.mp c, Nat.testBit_two_pow]
      · by_cases c : 2 ≤ pc (L t &&& s)
        · simp [c, e]
        · simp [c, Nat.testBit_two_pow, e]
    rw [h2]
    by_cases e : t = i
    · subst e
      simp [show ¬ t + 1 ≤ t by omega, show t < t + (m + 1) by omega]
    · by_cases c : t ≤ i
      · have e1 : (t + 1 ≤ i) = (t ≤ i) := by simp; omega
        have e2 : (i < t + 1 + m) = (i < t + (m + 1)) := by simp; omega
        simp only [e1, e2, e, decide_false, Bool.false_and, Bool.or_false]
      · simp [e, c, show ¬ t + 1 ≤ i by omega]
theorem fwN_le (L : Nat → Nat) (s : Nat) : ∀ (m t acc : Nat), t + m = 12 → acc ≤ 4095 → fwN L s m t acc ≤ 4095
  | 0, _, _, _, h => h
  | m + 1, t, acc, h1, h => by
    rw [fwN]
    refine fwN_le L s m (t + 1) _ (by omega) (or_le h ?_)
    have := p2_le (t := t) (by omega)
    split <;> omega
/-- both ways -/
def SyN (L : Nat → Nat) : Prop := (∀ t, t < 12 → L t ≤ 4095) ∧ (∀ t, t < 12 → (L t).testBit t = false) ∧ ∀ a, a < 12 → ∀ b, b < 12 → (L a).testBit b = (L b).testBit a
theorem tw_fw {L : Nat → Nat} (h : SyN L) (s : Nat) {a : Nat} (ha : a ≤ 4095) : dn a (twN L s 12 0 0 0) = a &&& fwN L s 12 0 0 := by
  apply Nat.eq_of_testBit_eq
  intro i
  rw [dn_tb ha, Nat.testBit_and, twN_tb, fwN_tb]
  by_cases hi : i < 12
  · have e : ct (fun j => s.testBit j && (L j).testBit i) 12 0 = pc (L i &&& s) := by
      rw [pc_ct]
      refine ct_congr 12 0 (fun j _ hj => ?_)
      rw [Nat.testBit_and, h.2.2 j (by omega) i hi, Bool.and_comm]
    rw [e]
    by_cases c : pc (L i &&& s) < 2
    · simp [c, hi, show ¬ 2 ≤ pc (L i &&& s) by omega]
    · simp [c, show 2 ≤ pc (L i &&& s) by omega]
  · rw [tb_hi ha (by omega)]; rfl
