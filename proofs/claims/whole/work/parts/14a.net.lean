/-- sums of t .. t + m - 1 -/
def sm (f : Nat → Nat) : Nat → Nat → Nat
  | 0, _ => 0
  | m + 1, t => f t + sm f m (t + 1)
theorem sm_congr {f g : Nat → Nat} : ∀ (m t : Nat), (∀ j, t ≤ j → j < t + m → f j = g j) → sm f m t = sm g m t
  | 0, _, _ => rfl
  | m + 1, t, h => by
    rw [sm, sm, h t (Nat.le_refl t) (by omega), sm_congr m (t + 1) (fun j h1 h2 => h j (by omega) (by omega))]
theorem sm_zero : ∀ (m t : Nat), sm (fun _ => 0) m t = 0
  | 0, _ => rfl
  | m + 1, t => by rw [sm, sm_zero m (t + 1)]
theorem sm_plus (f g : Nat → Nat) : ∀ (m t : Nat), sm (fun j => f j + g j) m t = sm f m t + sm g m t
  | 0, _ => rfl
  | m + 1, t => by
    rw [sm, sm, sm, sm_plus f g m (t + 1)]
    omega
theorem sm_app (f : Nat → Nat) : ∀ (m n t : Nat), sm f (m + n) t = sm f m t + sm f n (t + m)
  | 0, n, t => by rw [sm, Nat.zero_add, Nat.zero_add, Nat.add_zero]
  | m + 1, n, t => by
    rw [show m + 1 + n = (m + n) + 1 by omega, sm, sm, sm_app f m n (t + 1), show t + 1 + m = t + (m + 1) by omega]
    omega
theorem sm_swap (f : Nat → Nat → Nat) : ∀ (m t m' t' : Nat), sm (fun a => sm (fun b => f a b) m' t') m t = sm (fun b => sm (fun a => f a b) m t) m' t'
  | 0, t, m', t' => by
    rw [sm]
    exact (sm_zero m' t').symm
  | m + 1, t, m', t' => by
    rw [sm, sm_swap f m (t + 1) m' t', ← sm_plus]
    rfl
theorem sm_if (f : Nat → Nat) (c : Prop) [Decidable c] (m t : Nat) : (if c then sm f m t else 0) = sm (fun j => if c then f j else 0) m t := by
  by_cases h : c
  · rw [if_pos h]
    exact sm_congr m t (fun j _ _ => by rw [if_pos h])
  · rw [if_neg h, sm_congr (g := fun _ => 0) m t (fun j _ _ => by rw [if_neg h]), sm_zero]
theorem ct_sm (f : Nat → Bool) : ∀ (m t : Nat), ct f m t = sm (fun j => if f j = true then 1 else 0) m t
  | 0, _ => rfl
  | m + 1, t => by rw [ct, sm, ct_sm f m (t + 1)]
/-- those below a, of 12 -/
theorem sm_below (f : Nat → Nat) {a : Nat} (ha : a ≤ 12) : sm f a 0 = sm (fun b => if b < a then f b else 0) 12 0 := by
  have e := sm_app (fun b => if b < a then f b else 0) a (12 - a) 0
  rw [show a + (12 - a) = 12 by omega] at e
  rw [e, sm_congr (f := fun b => if b < a then f b else 0) (g := fun _ => 0) (12 - a) (0 + a) (fun j h1 h2 => by rw [if_neg (by omega)]), sm_zero, Nat.add_zero]
  exact sm_congr a 0 (fun j _ hj => by rw [if_pos (by omega)])
theorem sm_above (f : Nat → Nat) {a : Nat} (ha : a < 12) : sm f (11 - a) (a + 1) = sm (fun b => if a < b then f b else 0) 12 0 := by
  have e := sm_app (fun b => if a < b then f b else 0) (a + 1) (11 - a) 0
  rw [show a + 1 + (11 - a) = 12 by omega, Nat.zero_add] at e
  rw [e, sm_congr (f := fun b => if a < b then f b else 0) (g := fun _ => 0) (a + 1) 0 (fun j h1 h2 => by rw [if_neg (by omega)]), sm_zero, Nat.zero_add]
  exact sm_congr (11 - a) (a + 1) (fun j h1 h2 => by rw [if_pos (by omega)])
/-- CLIQUES, counted from the greatest, from the least -/
def gX (L : Nat → Nat) (a b : Nat) : Nat := if (L a).testBit b = true then pc (L a &&& L b &&& (2 ^ b - 1)) else 0
def gM (L : Nat → Nat) (a b : Nat) : Nat := if (L a).testBit b = true then pc (dn (L a &&& L b) (2 ^ (b + 1) - 1)) else 0
def tri (L : Nat → Nat) (a b c : Nat) : Nat := if c < b ∧ b < a ∧ (L a).testBit b = true ∧ (L a).testBit c = true ∧ (L b).testBit c = true then 1 else 0
theorem gX_tri {L : Nat → Nat} (a b : Nat) : (if b < a then gX L a b else 0) = sm (fun c => tri L a b c) 12 0 := by
  unfold gX
  by_cases h1 : b < a
  · rw [if_pos h1]
    by_cases h2 : (L a).testBit b = true
    · rw [if_pos h2, pc_ct, ct_sm]
      refine sm_congr 12 0 (fun c _ hc => ?_)
      rw [Nat.testBit_and, Nat.testBit_and, tb_ones]
      unfold tri
      by_cases h3 : c < b
      · simp [h1, h2, h3]
      · simp [h3]
    · rw [if_neg h2, sm_congr (g := fun _ => 0) 12 0 (fun c _ _ => by unfold tri; rw [if_neg (fun q => h2 q.2.2.1)]), sm_zero]
  · rw [if_neg h1, sm_congr (g := fun _ => 0) 12 0 (fun c _ _ => by unfold tri; rw [if_neg (fun q => h1 q.2.1)]), sm_zero]
theorem gM_tri {L : Nat → Nat} (h : SyN L) {a b : Nat} (ha : a < 12) (hb : b < 12) : (if a < b then gM L a b else 0) = sm (fun c => tri L c b a) 12 0 := by
  unfold gM
  by_cases h1 : a < b
  · rw [if_pos h1]
    by_cases h2 : (L a).testBit b = true
    · rw [if_pos h2, pc_ct, ct_sm]
      refine sm_congr 12 0 (fun c _ hc => ?_)
      have hle : L a &&& L b ≤ 4095 := Nat.le_trans Nat.and_le_left (h.1 a ha)
      rw [dn_tb hle, Nat.testBit_and, tb_ones]
      unfold tri
      rw [h.2.2 a ha c (by omega), h.2.2 b hb c (by omega), show (L b).testBit a = true by rw [h.2.2 b hb a ha]; exact h2]
      by_cases h3 : b < c
      · rw [decide_eq_false (show ¬ c < b + 1 by omega)]
        by_cases x : (L c).testBit a = true <;> by_cases y : (L c).testBit b = true <;> simp [h1, h3, x, y]
      · rw [decide_eq_true (show c < b + 1 by omega)]
        simp [h3]
    · rw [if_neg h2, sm_congr (g := fun _ => 0) 12 0 (fun c _ _ => by unfold tri; rw [if_neg (fun q => h2 (by rw [h.2.2 a ha b hb]; exact q.2.2.2.2))]), sm_zero]
  · rw [if_neg h1, sm_congr (g := fun _ => 0) 12 0 (fun c _ _ => by unfold tri; rw [if_neg (fun q => h1 q.1)]), sm_zero]
theorem cliq {L : Nat → Nat} (h : SyN L) : sm (fun a => sm (gX L a) a 0) 12 0 = sm (fun a => sm (gM L a) (11 - a) (a + 1)) 12 0 := by
  have e1 : sm (fun a => sm (gX L a) a 0) 12 0 = sm (fun a => sm (fun b => sm (fun c => tri L a b c) 12 0) 12 0) 12 0 :=
    sm_congr 12 0 (fun a _ ha => by
      rw [sm_below _ (by omega)]
      exact sm_congr 12 0 (fun b _ _ => gX_tri a b))
  have e2 : sm (fun a => sm (gM L a) (11 - a) (a + 1)) 12 0 = sm (fun a => sm (fun b => sm (fun c => tri L c b a) 12 0) 12 0) 12 0 :=
    sm_congr 12 0 (fun a _ ha => by
      rw [sm_above _ (by omega)]
      exact sm_congr 12 0 (fun b _ hb => gM_tri h (by omega) (by omega)))
  rw [e1, e2]
  rw [sm_swap (fun a b => sm (fun c => tri L a b c) 12 0) 12 0 12 0]
  rw [sm_congr (g := fun b => sm (fun c => sm (fun a => tri L a b c) 12 0) 12 0) 12 0 (fun b _ _ => sm_swap (fun a c => tri L a b c) 12 0 12 0)]
  rw [sm_swap (fun b c => sm (fun a => tri L a b c) 12 0) 12 0 12 0]
theorem x_cl12 {X : zS} (hX : shX X) {L : Nat → Nat} (hL : LkX X L) (hL2 : ∀ t, t < 12 → L t ≤ 4095) (k4 : Int32 → Int32 → zS → Option (Int32 × zS)) {a : Nat} (ha : a < 12) : ∀ (m b n acc : Nat), b + m = a → m < n → fX7_cliques_L12 0 k4 n (nI acc) (nI a) (nI b) X = k4 (nI (acc + sm (gX L a) m b)) (nI (a + 1)) X
  | m, b, 0, _, _, h => by omega
  | 0, b, n + 1, acc, e, _ => by
    have c : nI a ≤ nI b := nI_le (by omega) (by omega)
    simp only [fX7_cliques_L12, if_pos c, nI_1]
    rfl
  | m + 1, b, n + 1, acc, e, hn => by
    have c : ¬ nI a ≤ nI b := nI_ge (by omega) (by omega)
    have la := x_likesOf hX ha
    have lb := x_likesOf hX (show b < 12 by omega)
    rw [hL a ha] at la
    rw [hL b (by omega)] at lb
    have hsh := n_shl1 (show b < 31 by omega)
    have hp : nI (2 ^ b) - (1 : Int32) = nI (2 ^ b - 1) := pk_sub (b := 1) Nat.one_le_two_pow
    have hle : L a &&& L b &&& (2 ^ b - 1) ≤ 4095 := Nat.le_trans Nat.and_le_left (Nat.le_trans Nat.and_le_left (hL2 a ha))
    rw [sm, gX]
    cases hb : (L a).testBit b with
    | false =>
      have c0 := (n_bit0 (hL2 a ha) (show b < 31 by omega)).mpr hb
      have ih := x_cl12 hX hL hL2 k4 ha m (b + 1) n acc (by omega) (by omega)
      simp only [fX7_cliques_L12, fX7_cliques_j59, zokX_0, zokX_1, zokX_2, zokX_3, zokX_4, zokX_5, zokX_6, zokX_7, zokX_8, zokX_9, zokX_10, zokX_11, zokX_12, zokX_13, zokX_14, zokX_15, zokX_16, zlaX_1, zlaX_2, zlaX_3, zlaX_4, zlaX_5, zlaX_6, zlaX_8, zlaX_11, zlaX_12, zlaX_13, zlaX_15, zlaX_16, zp_1, zp_h, zp_r, zp_l, zletE, obs, spXe_0, spXe_1, spXe_2, spXe_3, spXe_4, spXe_5, spXe_6, spXe_7, spXe_8, spXe_9, spXe_10, spXe_11, spXe_12, spXe_13, spXe_14, spXe_15, spXe_16, hX.1, if_neg c, la, if_pos c0, nI_1]
      rw [ih, if_neg (by decide), Nat.zero_add]
    | true =>
      have c0 : ¬ ((nI (L a) >>> (nI b &&& 31)) &&& (1 : Int32) = 0) := fun q => by rw [n_bit0 (hL2 a ha) (show b < 31 by omega), hb] at q; cases q
      have ih := x_cl12 hX hL hL2 k4 ha m (b + 1) n (acc + pc (L a &&& L b &&& (2 ^ b - 1))) (by omega) (by omega)
      simp only [fX7_cliques_L12, fX7_cliques_j59, zokX_0, zokX_1, zokX_2, zokX_3, zokX_4, zokX_5, zokX_6, zokX_7, zokX_8, zokX_9, zokX_10, zokX_11, zokX_12, zokX_13, zokX_14, zokX_15, zokX_16, zlaX_1, zlaX_2, zlaX_3, zlaX_4, zlaX_5, zlaX_6, zlaX_8, zlaX_11, zlaX_12, zlaX_13, zlaX_15, zlaX_16, zp_1, zp_h, zp_r, zp_l, zletE, obs, spXe_0, spXe_1, spXe_2, spXe_3, spXe_4, spXe_5, spXe_6, spXe_7, spXe_8, spXe_9, spXe_10, spXe_11, spXe_12, spXe_13, spXe_14, spXe_15, spXe_16, hX.1, if_neg c, la, lb, if_neg c0, hsh, hp, n_and, x_bits hle, nI_add, nI_1]
      rw [ih, if_pos trivial, Nat.add_assoc]
theorem x_cl {X : zS} (hX : shX X) {L : Nat → Nat} (hL : LkX X L) (hL2 : ∀ t, t < 12 → L t ≤ 4095) : ∀ (m a n acc : Nat), a + m = 12 → m < n → fX7_cliques_L4 0 n (nI acc) (nI a) X = some (nI (acc + sm (fun a => sm (gX L a) a 0) m a), X)
  | m, a, 0, _, _, h => by omega
  | 0, a, n + 1, acc, e, _ => by
    have c : (12 : Int32) ≤ nI a := by rw [show a = 12 by omega]; decide
    simp only [fX7_cliques_L4, if_pos c]
    rfl
  | m + 1, a, n + 1, acc, e, hn => by
    have c : ¬ (12 : Int32) ≤ nI a := nI_ge (b := 12) (by omega) (by decide)
    have h1 := x_cl12 hX hL hL2 (fX7_cliques_L4 0 n) (show a < 12 by omega) a 0 zF acc (by omega) (by show a < 5000; omega)
    have h1' : fX7_cliques_L12 0 (fX7_cliques_L4 0 n) zF (nI acc) (nI a) 0 X = _ := h1
    simp only [fX7_cliques_L4, if_neg c]
    rw [h1', x_cl hX hL hL2 m (a + 1) n _ (by omega) (by omega), sm, Nat.add_assoc]
theorem hi_dec : ∀ b, b < 12 → -((1 : Int32) <<< (nI (b + 1) &&& 31)) = nI (2 ^ (b + 1) - 1) ^^^ (-1) := by decide +kernel
theorem m_cl14 {M : zS} (hM : shM M) {L : Nat → Nat} (hL : LkM M L) (hL2 : ∀ t, t < 12 → L t ≤ 4095) (k4 : Int32 → Int32 → zS → Option (Int32 × zS)) {a : Nat} (ha : a < 12) : ∀ (m b n acc : Nat), b + m = 12 → m < n → fX8_cliques_L14 0 k4 n (nI acc) (nI a) (nI b) M = k4 (nI (acc + sm (gM L a) m b)) (nI (a + 1)) M
  | m, b, 0, _, _, h => by omega
  | 0, b, n + 1, acc, e, _ => by
    have c : (12 : Int32) ≤ nI b := by rw [show b = 12 by omega]; decide
    simp only [fX8_cliques_L14, if_pos c, nI_1]
    rfl
  | m + 1, b, n + 1, acc, e, hn => by
    have c : ¬ (12 : Int32) ≤ nI b := nI_ge (b := 12) (by omega) (by decide)
    have r8 : M.2.2.2 0 8 = some 4 := hM.r (by decide) (by decide)
    have za : zix spM 4 (nI a) = some a := zix_of rfl ha (by decide)
    have zb : zix spM 4 (nI b) = some b := zix_of rfl (by show b < 12; omega) (by decide)
    have hle : L a &&& L b ≤ 4095 := Nat.le_trans Nat.and_le_left (hL2 a ha)
    have hle2 : dn (L a &&& L b) (2 ^ (b + 1) - 1) ≤ 4095 := Nat.le_trans (dn_le _ _) hle
    have hd := hi_dec b (by omega)
    rw [sm, gM]
    cases hb : (L a).testBit b with
    | false =>
      have c0 : ¬ ((nI (L a) >>> (nI b &&& 31)) &&& (1 : Int32) = 1) := fun q => by rw [n_bit1 (hL2 a ha) (show b < 31 by omega), hb] at q; cases q
      have ih := m_cl14 hM hL hL2 k4 ha m (b + 1) n acc (by omega) (by omega)
      have w0 : nI acc + 0 = nI acc := by simp
      simp only [fX8_cliques_L14, fX8_cliques_j66, zokM_0, zokM_1, zokM_2, zokM_3, zokM_4, zokM_5, zokM_6, zokM_7, zokM_8, zokM_9, zokM_10, zokM_11, zokM_12, zokM_13, zokM_14, zokM_15, zlaM_1, zlaM_2, zlaM_3, zlaM_4, zlaM_5, zlaM_6, zlaM_7, zlaM_8, zlaM_9, zlaM_10, zlaM_11, zlaM_12, zlaM_13, zlaM_14, zlaM_15, zp_1, zp_h, zp_r, zp_l, zletE, obs, spMe_0, spMe_1, spMe_2, spMe_3, spMe_4, spMe_5, spMe_6, spMe_7, spMe_8, spMe_9, spMe_10, spMe_11, spMe_12, spMe_13, spMe_14, spMe_15, hM.1, if_neg c, r8, za, zb, hL a ha, hL b (by omega), if_neg c0, w0, nI_1]
      rw [ih, if_neg (by decide), Nat.zero_add]
    | true =>
      have c0 := (n_bit1 (hL2 a ha) (show b < 31 by omega)).mpr hb
      have ih := m_cl14 hM hL hL2 k4 ha m (b + 1) n (acc + pc (dn (L a &&& L b) (2 ^ (b + 1) - 1))) (by omega) (by omega)
      simp only [fX8_cliques_L14, fX8_cliques_j66, zokM_0, zokM_1, zokM_2, zokM_3, zokM_4, zokM_5, zokM_6, zokM_7, zokM_8, zokM_9, zokM_10, zokM_11, zokM_12, zokM_13, zokM_14, zokM_15, zlaM_1, zlaM_2, zlaM_3, zlaM_4, zlaM_5, zlaM_6, zlaM_7, zlaM_8, zlaM_9, zlaM_10, zlaM_11, zlaM_12, zlaM_13, zlaM_14, zlaM_15, zp_1, zp_h, zp_r, zp_l, zletE, obs, spMe_0, spMe_1, spMe_2, spMe_3, spMe_4, spMe_5, spMe_6, spMe_7, spMe_8, spMe_9, spMe_10, spMe_11, spMe_12, spMe_13, spMe_14, spMe_15, hM.1, if_neg c, r8, za, zb, hL a ha, hL b (by omega), if_pos c0, nI_1, hd, n_and, n_dn hle, m_bits hle2, nI_add]
      rw [ih, if_pos trivial, Nat.add_assoc]
theorem m_cl {M : zS} (hM : shM M) {L : Nat → Nat} (hL : LkM M L) (hL2 : ∀ t, t < 12 → L t ≤ 4095) : ∀ (m a n acc : Nat), a + m = 12 → m < n → fX8_cliques_L4 0 n (nI acc) (nI a) M = some (nI (acc + sm (fun a => sm (gM L a) (11 - a) (a + 1)) m a), M)
  | m, a, 0, _, _, h => by omega
  | 0, a, n + 1, acc, e, _ => by
    have c : (12 : Int32) ≤ nI a := by rw [show a = 12 by omega]; decide
    simp only [fX8_cliques_L4, if_pos c]
    rfl
  | m + 1, a, n + 1, acc, e, hn => by
    have c : ¬ (12 : Int32) ≤ nI a := nI_ge (b := 12) (by omega) (by decide)
    have h1 := m_cl14 hM hL hL2 (fX8_cliques_L4 0 n) (show a < 12 by omega) (11 - a) (a + 1) zF acc (by omega) (by show 11 - a < 5000; omega)
    simp only [fX8_cliques_L4, if_neg c, zletE, nI_1]
    rw [h1, m_cl hM hL hL2 m (a + 1) n _ (by omega) (by omega), sm, Nat.add_assoc]
/-- NEAR -/
def nrF (L : Nat → Nat) : Nat → Nat → Nat → Nat
  | 0, _, near => near
  | m + 1, t, near => nrF L m (t + 1) (if pc (L t) ≤ pc (L near) then near else t)
theorem nrF_lt (L : Nat → Nat) : ∀ (m t near : Nat), t + m = 12 → near < 12 → nrF L m t near < 12
  | 0, _, _, _, h => h
  | m + 1, t, near, e, h => by
    rw [nrF]
    refine nrF_lt L m (t + 1) _ (by omega) ?_
    split <;> omega
theorem x_near {X : zS} (hX : shX X) {L : Nat → Nat} (hL : LkX X L) (hL2 : ∀ t, t < 12 → L t ≤ 4095) : ∀ (m t n near : Nat), t + m = 12 → m < n → near < 12 → fX7_nearest_L4 0 n (nI near) (nI t) X = some (nI (nrF L m t near), X)
  | m, t, 0, _, _, h, _ => by omega
  | 0, t, n + 1, near, e, _, _ => by
    have c : (12 : Int32) ≤ nI t := by rw [show t = 12 by omega]; decide
    simp only [fX7_nearest_L4, if_pos c]
    rfl
  | m + 1, t, n + 1, near, e, hn, hnr => by
    have c : ¬ (12 : Int32) ≤ nI t := nI_ge (b := 12) (by omega) (by decide)
    have la := x_likesOf hX (show t < 12 by omega)
    have lb := x_likesOf hX hnr
    rw [hL t (by omega)] at la
    rw [hL near hnr] at lb
    have p1 := pc_le (L t)
    have p2 := pc_le (L near)
    rw [nrF]
    by_cases cc : pc (L t) ≤ pc (L near)
    · have cc' : nI (pc (L t)) ≤ nI (pc (L near)) := nI_le cc (by omega)
      rw [if_pos cc]
      simp only [fX7_nearest_L4, fX7_nearest_j31, zokX_0, zokX_1, zokX_2, zokX_3, zokX_4, zokX_5, zokX_6, zokX_7, zokX_8, zokX_9, zokX_10, zokX_11, zokX_12, zokX_13, zokX_14, zokX_15, zokX_16, zlaX_1, zlaX_2, zlaX_3, zlaX_4, zlaX_5, zlaX_6, zlaX_8, zlaX_11, zlaX_12, zlaX_13, zlaX_15, zlaX_16, zp_1, zp_h, zp_r, zp_l, zletE, obs, spXe_0, spXe_1, spXe_2, spXe_3, spXe_4, spXe_5, spXe_6, spXe_7, spXe_8, spXe_9, spXe_10, spXe_11, spXe_12, spXe_13, spXe_14, spXe_15, spXe_16, hX.1, if_neg c, la, lb, x_bits (hL2 t (by omega)), x_bits (hL2 near hnr), if_pos cc', nI_1]
      exact x_near hX hL hL2 m (t + 1) n near (by omega) (by omega) hnr
    · have cc' : ¬ nI (pc (L t)) ≤ nI (pc (L near)) := nI_ge (by omega) (by omega)
      rw [if_neg cc]
      simp only [fX7_nearest_L4, fX7_nearest_j31, zokX_0, zokX_1, zokX_2, zokX_3, zokX_4, zokX_5, zokX_6, zokX_7, zokX_8, zokX_9, zokX_10, zokX_11, zokX_12, zokX_13, zokX_14, zokX_15, zokX_16, zlaX_1, zlaX_2, zlaX_3, zlaX_4, zlaX_5, zlaX_6, zlaX_8, zlaX_11, zlaX_12, zlaX_13, zlaX_15, zlaX_16, zp_1, zp_h, zp_r, zp_l, zletE, obs, spXe_0, spXe_1, spXe_2, spXe_3, spXe_4, spXe_5, spXe_6, spXe_7, spXe_8, spXe_9, spXe_10, spXe_11, spXe_12, spXe_13, spXe_14, spXe_15, spXe_16, hX.1, if_neg c, la, lb, x_bits (hL2 t (by omega)), x_bits (hL2 near hnr), if_neg cc', nI_1]
      exact x_near hX hL hL2 m (t + 1) n t (by omega) (by omega) (by omega)
theorem m_near {M : zS} (hM : shM M) {L : Nat → Nat} (hL : LkM M L) (hL2 : ∀ t, t < 12 → L t ≤ 4095) (w : Int32) : ∀ (m t n near : Nat), t + m = 12 → m + 1 < n → near < 12 → ∃ n', fX8_net_L19 0 n w (nI near) (nI t) M = fX8_net_L19 0 (n' + 1) w (nI (nrF L m t near)) (nI 12) M
  | m, t, 0, _, _, h, _ => by omega
  | 0, t, n + 1, near, e, _, _ => by
    rw [show t = 12 by omega]
    exact ⟨n, rfl⟩
  | m + 1, t, n + 1, near, e, hn, hnr => by
    have c : ¬ (12 : Int32) ≤ nI t := nI_ge (b := 12) (by omega) (by decide)
    have r8 : M.2.2.2 0 8 = some 4 := hM.r (by decide) (by decide)
    have za : zix spM 4 (nI t) = some t := zix_of rfl (by show t < 12; omega) (by decide)
    have zb : zix spM 4 (nI near) = some near := zix_of rfl hnr (by decide)
    have p1 := pc_le (L t)
    have p2 := pc_le (L near)
    rw [nrF]
    by_cases cc : pc (L t) ≤ pc (L near)
    · have cc' : nI (pc (L t)) ≤ nI (pc (L near)) := nI_le cc (by omega)
      obtain ⟨n', ih⟩ := m_near hM hL hL2 w m (t + 1) n near (by omega) (by omega) hnr
      refine ⟨n', ?_⟩
      rw [if_pos cc, ← ih, fX8_net_L19]
      simp only [fX8_net_j51, zokM_0, zokM_1, zokM_2, zokM_3, zokM_4, zokM_5, zokM_6, zokM_7, zokM_8, zokM_9, zokM_10, zokM_11, zokM_12, zokM_13, zokM_14, zokM_15, zlaM_1, zlaM_2, zlaM_3, zlaM_4, zlaM_5, zlaM_6, zlaM_7, zlaM_8, zlaM_9, zlaM_10, zlaM_11, zlaM_12, zlaM_13, zlaM_14, zlaM_15, zp_1, zp_h, zp_r, zp_l, zletE, obs, spMe_0, spMe_1, spMe_2, spMe_3, spMe_4, spMe_5, spMe_6, spMe_7, spMe_8, spMe_9, spMe_10, spMe_11, spMe_12, spMe_13, spMe_14, spMe_15, hM.1, if_neg c, r8, za, zb, hL t (by omega), hL near hnr, m_bits (hL2 t (by omega)), m_bits (hL2 near hnr), if_pos cc', nI_1]
    · have cc' : ¬ nI (pc (L t)) ≤ nI (pc (L near)) := nI_ge (by omega) (by omega)
      obtain ⟨n', ih⟩ := m_near hM hL hL2 w m (t + 1) n t (by omega) (by omega) (by omega)
      refine ⟨n', ?_⟩
      rw [if_neg cc, ← ih, fX8_net_L19]
      simp only [fX8_net_j51, zokM_0, zokM_1, zokM_2, zokM_3, zokM_4, zokM_5, zokM_6, zokM_7, zokM_8, zokM_9, zokM_10, zokM_11, zokM_12, zokM_13, zokM_14, zokM_15, zlaM_1, zlaM_2, zlaM_3, zlaM_4, zlaM_5, zlaM_6, zlaM_7, zlaM_8, zlaM_9, zlaM_10, zlaM_11, zlaM_12, zlaM_13, zlaM_14, zlaM_15, zp_1, zp_h, zp_r, zp_l, zletE, obs, spMe_0, spMe_1, spMe_2, spMe_3, spMe_4, spMe_5, spMe_6, spMe_7, spMe_8, spMe_9, spMe_10, spMe_11, spMe_12, spMe_13, spMe_14, spMe_15, hM.1, if_neg c, r8, za, zb, hL t (by omega), hL near hnr, m_bits (hL2 t (by omega)), m_bits (hL2 near hnr), if_neg cc', nI_1]
theorem t_net (w : Int32) : TM2 Inv (fun st => fX7_net 0 w st) (fun st => fX8_net 0 w st) := by
  intro X M h
  have hInv := h
  obtain ⟨⟨hX, hM⟩, hL, hD, hA, hP, hF, hS, hI, hT⟩ := h
  have l3 : (3 : Int64) = (nI 3).toInt64 := by decide
  rcases one_cases 4 (by decide) w with hw | ⟨j, hj, rfl⟩
  · have q : ∀ j : Nat, j < 4 → ¬ w = nI j := fun j hj e => by
      rcases hw with hv | hv
      · exact nI_pos (n := j) (by omega) (e ▸ hv)
      · rw [e] at hv; exact nI_ge (b := 4) hj (by decide) hv
    have q0 : ¬ w = (0 : Int32) := q 0 (by decide)
    have q1 : ¬ w = (1 : Int32) := q 1 (by decide)
    have q2 : ¬ w = (2 : Int32) := q 2 (by decide)
    have q3 : ¬ w = (3 : Int32) := q 3 (by decide)
    exact ⟨-2, X, M, by simp only [fX7_net, if_neg q0, if_neg q1, if_neg q2, if_neg q3], by simp only [fX8_net, obs, m_in0 3 (by decide) l3 hw, if_true], hInv⟩
  · obtain ⟨sy, lm, lx⟩ := lk_of hL
    have hin := m_in1 3 (by decide) l3 hj M
    obtain ⟨n', en⟩ := m_near hM lm sy.1 (nI j) 11 1 zF 0 rfl (by decide) (by decide)
    have en' : fX8_net_L19 0 zF (nI j) 0 1 M = fX8_net_L19 0 (n' + 1) (nI j) (nI (nrF (lkN M) 11 1 0)) (nI 12) M := en
    have xn := x_near hX lx sy.1 11 1 zF 0 rfl (by decide) (by decide)
    have xn' : fX7_nearest 0 X = some (nI (nrF (lkN M) 11 1 0), X) := xn
    have hlt := nrF_lt (lkN M) 11 1 0 rfl (by decide)
    generalize nrF (lkN M) 11 1 0 = near at *
    have c12 : (12 : Int32) ≤ nI 12 := by decide
    rcases (show j = 0 ∨ j = 1 ∨ j = 2 ∨ j = 3 by omega) with rfl | rfl | rfl | rfl
    · have ex := x_cl hX lx sy.1 12 0 zF 0 rfl (by decide)
      have em := m_cl hM lm sy.1 12 0 zF 0 rfl (by decide)
      rw [← cliq sy] at em
      have ex' : fX7_cliques 0 X = some (_, X) := ex
      have em' : fX8_cliques 0 M = some (_, M) := em
      refine ⟨_, X, M, (by simp only [fX7_net, zokX_0, zokX_1, zokX_2, zokX_3, zokX_4, zokX_5, zokX_6, zokX_7, zokX_8, zokX_9, zokX_10, zokX_11, zokX_12, zokX_13, zokX_14, zokX_15, zokX_16, zlaX_1, zlaX_2, zlaX_3, zlaX_4, zlaX_5, zlaX_6, zlaX_8, zlaX_11, zlaX_12, zlaX_13, zlaX_15, zlaX_16, zp_1, zp_h, zp_r, zp_l, zletE, obs, spXe_0, spXe_1, spXe_2, spXe_3, spXe_4, spXe_5, spXe_6, spXe_7, spXe_8, spXe_9, spXe_10, spXe_11, spXe_12, spXe_13, spXe_14, spXe_15, spXe_16, hX.1, if_pos (show nI 0 = (0 : Int32) from rfl), ex']; rfl), ?_, hInv⟩
      simp only [fX8_net, obs, hin, if_neg n10, en']
      simp only [fX8_net_L19, zokM_0, zokM_1, zokM_2, zokM_3, zokM_4, zokM_5, zokM_6, zokM_7, zokM_8, zokM_9, zokM_10, zokM_11, zokM_12, zokM_13, zokM_14, zokM_15, zlaM_1, zlaM_2, zlaM_3, zlaM_4, zlaM_5, zlaM_6, zlaM_7, zlaM_8, zlaM_9, zlaM_10, zlaM_11, zlaM_12, zlaM_13, zlaM_14, zlaM_15, zp_1, zp_h, zp_r, zp_l, zletE, obs, spMe_0, spMe_1, spMe_2, spMe_3, spMe_4, spMe_5, spMe_6, spMe_7, spMe_8, spMe_9, spMe_10, spMe_11, spMe_12, spMe_13, spMe_14, spMe_15, hM.1, if_pos c12, if_pos (show nI 0 = (0 : Int32) from rfl), em']
    · have z0 : ¬ nI 1 = (0 : Int32) := by decide
      refine ⟨nI near, X, M, by simp only [fX7_net, zokX_0, zokX_1, zokX_2, zokX_3, zokX_4, zokX_5, zokX_6, zokX_7, zokX_8, zokX_9, zokX_10, zokX_11, zokX_12, zokX_13, zokX_14, zokX_15, zokX_16, zlaX_1, zlaX_2, zlaX_3, zlaX_4, zlaX_5, zlaX_6, zlaX_8, zlaX_11, zlaX_12, zlaX_13, zlaX_15, zlaX_16, zp_1, zp_h, zp_r, zp_l, zletE, obs, spXe_0, spXe_1, spXe_2, spXe_3, spXe_4, spXe_5, spXe_6, spXe_7, spXe_8, spXe_9, spXe_10, spXe_11, spXe_12, spXe_13, spXe_14, spXe_15, spXe_16, hX.1, if_neg z0, if_pos (show nI 1 = (1 : Int32) from rfl), xn'], ?_, hInv⟩
      simp only [fX8_net, obs, hin, if_neg n10, en']
      simp only [fX8_net_L19, if_pos c12, if_neg z0, if_pos (show nI 1 = (1 : Int32) from rfl)]
    · have z0 : ¬ nI 2 = (0 : Int32) := by decide
      have z1 : ¬ nI 2 = (1 : Int32) := by decide
      have la := x_likesOf hX hlt
      rw [lx near hlt] at la
      have r8 : M.2.2.2 0 8 = some 4 := hM.r (by decide) (by decide)
      have zb : zix spM 4 (nI near) = some near := zix_of rfl hlt (by decide)
      refine ⟨nI (pc (lkN M near)), X, M, by simp only [fX7_net, zokX_0, zokX_1, zokX_2, zokX_3, zokX_4, zokX_5, zokX_6, zokX_7, zokX_8, zokX_9, zokX_10, zokX_11, zokX_12, zokX_13, zokX_14, zokX_15, zokX_16, zlaX_1, zlaX_2, zlaX_3, zlaX_4, zlaX_5, zlaX_6, zlaX_8, zlaX_11, zlaX_12, zlaX_13, zlaX_15, zlaX_16, zp_1, zp_h, zp_r, zp_l, zletE, obs, spXe_0, spXe_1, spXe_2, spXe_3, spXe_4, spXe_5, spXe_6, spXe_7, spXe_8, spXe_9, spXe_10, spXe_11, spXe_12, spXe_13, spXe_14, spXe_15, spXe_16, hX.1, if_neg z0, if_neg z1, if_pos (show nI 2 = (2 : Int32) from rfl), xn', la, x_bits (sy.1 near hlt)], ?_, hInv⟩
      simp only [fX8_net, obs, hin, if_neg n10, en']
      simp only [fX8_net_L19, zokM_0, zokM_1, zokM_2, zokM_3, zokM_4, zokM_5, zokM_6, zokM_7, zokM_8, zokM_9, zokM_10, zokM_11, zokM_12, zokM_13, zokM_14, zokM_15, zlaM_1, zlaM_2, zlaM_3, zlaM_4, zlaM_5, zlaM_6, zlaM_7, zlaM_8, zlaM_9, zlaM_10, zlaM_11, zlaM_12, zlaM_13, zlaM_14, zlaM_15, zp_1, zp_h, zp_r, zp_l, zletE, obs, spMe_0, spMe_1, spMe_2, spMe_3, spMe_4, spMe_5, spMe_6, spMe_7, spMe_8, spMe_9, spMe_10, spMe_11, spMe_12, spMe_13, spMe_14, spMe_15, hM.1, if_pos c12, if_neg z0, if_neg z1, if_pos (show nI 2 = (2 : Int32) from rfl), r8, zb, lm near hlt, m_bits (sy.1 near hlt)]
    · have z0 : ¬ nI 3 = (0 : Int32) := by decide
      have z1 : ¬ nI 3 = (1 : Int32) := by decide
      have z2 : ¬ nI 3 = (2 : Int32) := by decide
      obtain ⟨r, r1, r2⟩ := lt2_both hX hM hL
      refine ⟨r, X, M, by simp only [fX7_net, zokX_0, zokX_1, zokX_2, zokX_3, zokX_4, zokX_5, zokX_6, zokX_7, zokX_8, zokX_9, zokX_10, zokX_11, zokX_12, zokX_13, zokX_14, zokX_15, zokX_16, zlaX_1, zlaX_2, zlaX_3, zlaX_4, zlaX_5, zlaX_6, zlaX_8, zlaX_11, zlaX_12, zlaX_13, zlaX_15, zlaX_16, zp_1, zp_h, zp_r, zp_l, zletE, obs, spXe_0, spXe_1, spXe_2, spXe_3, spXe_4, spXe_5, spXe_6, spXe_7, spXe_8, spXe_9, spXe_10, spXe_11, spXe_12, spXe_13, spXe_14, spXe_15, spXe_16, hX.1, if_neg z0, if_neg z1, if_neg z2, if_pos (show nI 3 = (3 : Int32) from rfl), r1], ?_, hInv⟩
      simp only [fX8_net, obs, hin, if_neg n10, en']
      simp only [fX8_net_L19, zokM_0, zokM_1, zokM_2, zokM_3, zokM_4, zokM_5, zokM_6, zokM_7, zokM_8, zokM_9, zokM_10, zokM_11, zokM_12, zokM_13, zokM_14, zokM_15, zlaM_1, zlaM_2, zlaM_3, zlaM_4, zlaM_5, zlaM_6, zlaM_7, zlaM_8, zlaM_9, zlaM_10, zlaM_11, zlaM_12, zlaM_13, zlaM_14, zlaM_15, zp_1, zp_h, zp_r, zp_l, zletE, obs, spMe_0, spMe_1, spMe_2, spMe_3, spMe_4, spMe_5, spMe_6, spMe_7, spMe_8, spMe_9, spMe_10, spMe_11, spMe_12, spMe_13, spMe_14, spMe_15, hM.1, if_pos c12, if_neg z0, if_neg z1, if_neg z2, r2]
