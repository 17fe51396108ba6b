/-- a well's askings as one sees them: LIKE, KIND, NUMBER, SHUT, HAD, had by the next, DAY -/
def Vok (L : Nat → Nat) (k nu s h nh d : Nat) : Prop := SyN L ∧ k < 6 ∧ nu ≤ 9 ∧ s ≤ 4095 ∧ h ≤ 4095 ∧ nh ≤ 4095 ∧ d ≤ 2000
def LkX (X : zS) (L : Nat → Nat) : Prop := ∀ t, t < 12 → X.2.1 1 t = nI (L t)
def LkM (M : zS) (L : Nat → Nat) : Prop := ∀ t, t < 12 → M.2.1 4 t = nI (L t)
theorem x_la {X : zS} (hX : shX X) {L : Nat → Nat} (hL : LkX X L) {s : Nat} (hs : s ≤ 4095) : ∀ (m t n acc : Nat), t + m = 12 → m < n → fX6_likeAnyOf_L4 7 n (nI s) (nI acc) (nI t) X = some (nI (laN L s m t acc), X)
  | m, t, 0, _, _, h => by omega
  | 0, t, n + 1, acc, h, _ => by
    have e : t = 12 := by omega
    subst e
    have r70 : X.2.2.2 7 0 = some 1 := hX.r (by decide) (by decide) (by decide) (by decide)
    simp only [fX6_likeAnyOf_L4, zokX_0, zokX_1, zokX_2, zokX_3, zokX_4, zokX_5, zokX_6, zokX_7, zokX_8, zokX_9, zokX_10, zokX_11, zokX_12, zokX_13, zokX_14, zokX_15, zokX_16, zlaX_1, zlaX_2, zlaX_3, zlaX_4, zlaX_5, zlaX_6, zlaX_8, zlaX_11, zlaX_12, zlaX_13, zlaX_15, zlaX_16, zp_1, zp_h, zp_r, zp_l, zletE, obs, spXe_0, spXe_1, spXe_2, spXe_3, spXe_4, spXe_5, spXe_6, spXe_7, spXe_8, spXe_9, spXe_10, spXe_11, spXe_12, spXe_13, spXe_14, spXe_15, spXe_16, hX.1, r70, if_pos (show Int32.ofNat 12 ≤ nI 12 by decide)]
    rfl
  | m + 1, t, n + 1, acc, h, hn => by
    have r70 : X.2.2.2 7 0 = some 1 := hX.r (by decide) (by decide) (by decide) (by decide)
    have h2 : ¬ Int32.ofNat 12 ≤ nI t := nI_ge (b := 12) (a := t) (by omega) (by decide)
    have hz : zix spX 1 (nI t) = some t := zix_of rfl (by show t < 12; omega) (by decide)
    rw [laN]
    cases hb : s.testBit t with
    | false =>
      have c := (n_bit0 hs (show t < 31 by omega)).mpr hb
      simp only [fX6_likeAnyOf_L4, fX6_likeAnyOf_j30, zokX_0, zokX_1, zokX_2, zokX_3, zokX_4, zokX_5, zokX_6, zokX_7, zokX_8, zokX_9, zokX_10, zokX_11, zokX_12, zokX_13, zokX_14, zokX_15, zokX_16, zlaX_1, zlaX_2, zlaX_3, zlaX_4, zlaX_5, zlaX_6, zlaX_8, zlaX_11, zlaX_12, zlaX_13, zlaX_15, zlaX_16, zp_1, zp_h, zp_r, zp_l, zletE, obs, spXe_0, spXe_1, spXe_2, spXe_3, spXe_4, spXe_5, spXe_6, spXe_7, spXe_8, spXe_9, spXe_10, spXe_11, spXe_12, spXe_13, spXe_14, spXe_15, spXe_16, hX.1, r70, h2, if_false, if_pos c, nI_1]
      exact x_la hX hL hs m (t + 1) n acc (by omega) (by omega)
    | true =>
      have c : ¬ ((nI s >>> (nI t &&& 31)) &&& (1 : Int32) = 0) := fun q => by rw [n_bit0 hs (show t < 31 by omega), hb] at q; cases q
      simp only [fX6_likeAnyOf_L4, fX6_likeAnyOf_j30, zokX_0, zokX_1, zokX_2, zokX_3, zokX_4, zokX_5, zokX_6, zokX_7, zokX_8, zokX_9, zokX_10, zokX_11, zokX_12, zokX_13, zokX_14, zokX_15, zokX_16, zlaX_1, zlaX_2, zlaX_3, zlaX_4, zlaX_5, zlaX_6, zlaX_8, zlaX_11, zlaX_12, zlaX_13, zlaX_15, zlaX_16, zp_1, zp_h, zp_r, zp_l, zletE, obs, spXe_0, spXe_1, spXe_2, spXe_3, spXe_4, spXe_5, spXe_6, spXe_7, spXe_8, spXe_9, spXe_10, spXe_11, spXe_12, spXe_13, spXe_14, spXe_15, spXe_16, hX.1, r70, h2, if_false, if_neg c, hz, nI_1, hL t (by omega), n_or]
      exact x_la hX hL hs m (t + 1) n (acc ||| L t) (by omega) (by omega)
theorem x_la0 {X : zS} (hX : shX X) {L : Nat → Nat} (hL : LkX X L) {s : Nat} (hs : s ≤ 4095) : fX6_likeAnyOf 7 (nI s) X = some (nI (laN L s 12 0 0), X) := x_la hX hL hs 12 0 zF 0 rfl (by decide)
theorem x_tw {X : zS} (hX : shX X) {L : Nat → Nat} (hL : LkX X L) {s : Nat} (hs : s ≤ 4095) : ∀ (m t n on tw : Nat), t + m = 12 → m < n → fX6_likeTwoOf_L7 7 n (nI s) (nI on) (nI tw) (nI t) X = some (nI (twN L s m t on tw), X)
  | m, t, 0, _, _, _, h => by omega
  | 0, t, n + 1, on, tw, h, _ => by
    have e : t = 12 := by omega
    subst e
    have r70 : X.2.2.2 7 0 = some 1 := hX.r (by decide) (by decide) (by decide) (by decide)
    simp only [fX6_likeTwoOf_L7, zokX_0, zokX_1, zokX_2, zokX_3, zokX_4, zokX_5, zokX_6, zokX_7, zokX_8, zokX_9, zokX_10, zokX_11, zokX_12, zokX_13, zokX_14, zokX_15, zokX_16, zlaX_1, zlaX_2, zlaX_3, zlaX_4, zlaX_5, zlaX_6, zlaX_8, zlaX_11, zlaX_12, zlaX_13, zlaX_15, zlaX_16, zp_1, zp_h, zp_r, zp_l, zletE, obs, spXe_0, spXe_1, spXe_2, spXe_3, spXe_4, spXe_5, spXe_6, spXe_7, spXe_8, spXe_9, spXe_10, spXe_11, spXe_12, spXe_13, spXe_14, spXe_15, spXe_16, hX.1, r70, if_pos (show Int32.ofNat 12 ≤ nI 12 by decide)]
    rfl
  | m + 1, t, n + 1, on, tw, h, hn => by
    have r70 : X.2.2.2 7 0 = some 1 := hX.r (by decide) (by decide) (by decide) (by decide)
    have h2 : ¬ Int32.ofNat 12 ≤ nI t := nI_ge (b := 12) (a := t) (by omega) (by decide)
    have hz : zix spX 1 (nI t) = some t := zix_of rfl (by show t < 12; omega) (by decide)
    rw [twN]
    cases hb : s.testBit t with
    | false =>
      have c := (n_bit0 hs (show t < 31 by omega)).mpr hb
      simp only [fX6_likeTwoOf_L7, fX6_likeTwoOf_j51, zokX_0, zokX_1, zokX_2, zokX_3, zokX_4, zokX_5, zokX_6, zokX_7, zokX_8, zokX_9, zokX_10, zokX_11, zokX_12, zokX_13, zokX_14, zokX_15, zokX_16, zlaX_1, zlaX_2, zlaX_3, zlaX_4, zlaX_5, zlaX_6, zlaX_8, zlaX_11, zlaX_12, zlaX_13, zlaX_15, zlaX_16, zp_1, zp_h, zp_r, zp_l, zletE, obs, spXe_0, spXe_1, spXe_2, spXe_3, spXe_4, spXe_5, spXe_6, spXe_7, spXe_8, spXe_9, spXe_10, spXe_11, spXe_12, spXe_13, spXe_14, spXe_15, spXe_16, hX.1, r70, h2, if_false, if_pos c, nI_1]
      exact x_tw hX hL hs m (t + 1) n on tw (by omega) (by omega)
    | true =>
      have c : ¬ ((nI s >>> (nI t &&& 31)) &&& (1 : Int32) = 0) := fun q => by rw [n_bit0 hs (show t < 31 by omega), hb] at q; cases q
      simp only [fX6_likeTwoOf_L7, fX6_likeTwoOf_j51, zokX_0, zokX_1, zokX_2, zokX_3, zokX_4, zokX_5, zokX_6, zokX_7, zokX_8, zokX_9, zokX_10, zokX_11, zokX_12, zokX_13, zokX_14, zokX_15, zokX_16, zlaX_1, zlaX_2, zlaX_3, zlaX_4, zlaX_5, zlaX_6, zlaX_8, zlaX_11, zlaX_12, zlaX_13, zlaX_15, zlaX_16, zp_1, zp_h, zp_r, zp_l, zletE, obs, spXe_0, spXe_1, spXe_2, spXe_3, spXe_4, spXe_5, spXe_6, spXe_7, spXe_8, spXe_9, spXe_10, spXe_11, spXe_12, spXe_13, spXe_14, spXe_15, spXe_16, hX.1, r70, h2, if_false, if_neg c, hz, nI_1, hL t (by omega), n_or, n_and]
      exact x_tw hX hL hs m (t + 1) n (on ||| L t) (tw ||| (on &&& L t)) (by omega) (by omega)
theorem x_tw0 {X : zS} (hX : shX X) {L : Nat → Nat} (hL : LkX X L) {s : Nat} (hs : s ≤ 4095) : fX6_likeTwoOf 7 (nI s) X = some (nI (twN L s 12 0 0 0), X) := x_tw hX hL hs 12 0 zF 0 0 rfl (by decide)
theorem m_la {M : zS} (hM : shM M) {L : Nat → Nat} (hL : LkM M L) {s : Nat} (hs : s ≤ 4095) : ∀ (m t n acc : Nat), t + m = 12 → m < n → fX8_likeAny_L4 0 n (nI s) (nI acc) (nI t) M = some (nI (laN L s m t acc), M)
  | m, t, 0, _, _, h => by omega
  | 0, t, n + 1, acc, h, _ => by
    have e : t = 12 := by omega
    subst e
    simp only [fX8_likeAny_L4, if_pos (show (12 : Int32) ≤ nI 12 by decide)]
    rfl
  | m + 1, t, n + 1, acc, h, hn => by
    have r8 : M.2.2.2 0 8 = some 4 := hM.r (by decide) (by decide)
    have h2 : ¬ (12 : Int32) ≤ nI t := nI_ge (b := 12) (a := t) (by omega) (by decide)
    have hz : zix spM 4 (nI t) = some t := zix_of rfl (by show t < 12; omega) (by decide)
    rw [laN]
    cases hb : s.testBit t with
    | false =>
      have c : ¬ ((nI s >>> (nI t &&& 31)) &&& (1 : Int32) = 1) := fun q => by rw [n_bit1 hs (show t < 31 by omega), hb] at q; cases q
      simp only [fX8_likeAny_L4, fX8_likeAny_j30, zokM_0, zokM_1, zokM_2, zokM_3, zokM_4, zokM_5, zokM_6, zokM_7, zokM_8, zokM_9, zokM_10, zokM_11, zokM_12, zokM_13, zokM_14, zokM_15, zlaM_1, zlaM_2, zlaM_3, zlaM_4, zlaM_5, zlaM_6, zlaM_7, zlaM_8, zlaM_9, zlaM_10, zlaM_11, zlaM_12, zlaM_13, zlaM_14, zlaM_15, zp_1, zp_h, zp_r, zp_l, zletE, obs, spMe_0, spMe_1, spMe_2, spMe_3, spMe_4, spMe_5, spMe_6, spMe_7, spMe_8, spMe_9, spMe_10, spMe_11, spMe_12, spMe_13, spMe_14, spMe_15, hM.1, if_neg h2, if_neg c, nI_1, show nI acc ||| (0 : Int32) = nI acc from by rw [← nI_0, n_or, Nat.or_zero]]
      exact m_la hM hL hs m (t + 1) n acc (by omega) (by omega)
    | true =>
      have c := (n_bit1 hs (show t < 31 by omega)).mpr hb
      simp only [fX8_likeAny_L4, fX8_likeAny_j30, zokM_0, zokM_1, zokM_2, zokM_3, zokM_4, zokM_5, zokM_6, zokM_7, zokM_8, zokM_9, zokM_10, zokM_11, zokM_12, zokM_13, zokM_14, zokM_15, zlaM_1, zlaM_2, zlaM_3, zlaM_4, zlaM_5, zlaM_6, zlaM_7, zlaM_8, zlaM_9, zlaM_10, zlaM_11, zlaM_12, zlaM_13, zlaM_14, zlaM_15, zp_1, zp_h, zp_r, zp_l, zletE, obs, spMe_0, spMe_1, spMe_2, spMe_3, spMe_4, spMe_5, spMe_6, spMe_7, spMe_8, spMe_9, spMe_10, spMe_11, spMe_12, spMe_13, spMe_14, spMe_15, hM.1, r8, if_neg h2, if_pos c, hz, nI_1, hL t (by omega), n_or]
      exact m_la hM hL hs m (t + 1) n (acc ||| L t) (by omega) (by omega)
theorem m_la0 {M : zS} (hM : shM M) {L : Nat → Nat} (hL : LkM M L) {s : Nat} (hs : s ≤ 4095) : fX8_likeAny 0 (nI s) M = some (nI (laN L s 12 0 0), M) := m_la hM hL hs 12 0 zF 0 rfl (by decide)
theorem m_fw {M : zS} (hM : shM M) {L : Nat → Nat} (hL : LkM M L) (hL2 : ∀ t, t < 12 → L t ≤ 4095) {s : Nat} (hs : s ≤ 4095) : ∀ (m t n acc : Nat), t + m = 12 → m < n → fX8_likeFew_L4 0 n (nI s) (nI acc) (nI t) M = some (nI (fwN L s m t acc), M)
  | m, t, 0, _, _, h => by omega
  | 0, t, n + 1, acc, h, _ => by
    have e : t = 12 := by omega
    subst e
    simp only [fX8_likeFew_L4, if_pos (show (12 : Int32) ≤ nI 12 by decide)]
    rfl
  | m + 1, t, n + 1, acc, h, hn => by
    have r8 : M.2.2.2 0 8 = some 4 := hM.r (by decide) (by decide)
    have h2 : ¬ (12 : Int32) ≤ nI t := nI_ge (b := 12) (a := t) (by omega) (by decide)
    have hz : zix spM 4 (nI t) = some t := zix_of rfl (by show t < 12; omega) (by decide)
    have hle : L t &&& s ≤ 4095 := Nat.le_trans Nat.and_le_left (hL2 t (by omega))
    have hp := pc_le (L t &&& s)
    rw [fwN]
    by_cases c : 2 ≤ pc (L t &&& s)
    · have c' : (2 : Int32) ≤ nI (pc (L t &&& s)) := nI_le (a := 2) c (by omega)
      have hsh : (0 : Int32) <<< (nI t &&& 31) = nI (0 * 2 ^ t) := n_shl (show t < 31 by omega) 0 (by decide)
      simp only [fX8_likeFew_L4, fX8_likeFew_j31, zokM_0, zokM_1, zokM_2, zokM_3, zokM_4, zokM_5, zokM_6, zokM_7, zokM_8, zokM_9, zokM_10, zokM_11, zokM_12, zokM_13, zokM_14, zokM_15, zlaM_1, zlaM_2, zlaM_3, zlaM_4, zlaM_5, zlaM_6, zlaM_7, zlaM_8, zlaM_9, zlaM_10, zlaM_11, zlaM_12, zlaM_13, zlaM_14, zlaM_15, zp_1, zp_h, zp_r, zp_l, zletE, obs, spMe_0, spMe_1, spMe_2, spMe_3, spMe_4, spMe_5, spMe_6, spMe_7, spMe_8, spMe_9, spMe_10, spMe_11, spMe_12, spMe_13, spMe_14, spMe_15, hM.1, r8, if_neg h2, hz, hL t (by omega), n_and, m_bits hle, if_pos c', hsh, n_or, nI_1, if_pos c]
      exact m_fw hM hL hL2 hs m (t + 1) n _ (by omega) (by omega)
    · have c' : ¬ (2 : Int32) ≤ nI (pc (L t &&& s)) := nI_ge (b := 2) (by omega) (by decide)
      have hsh : (1 : Int32) <<< (nI t &&& 31) = nI (1 * 2 ^ t) := n_shl (show t < 31 by omega) 1 (by decide)
      simp only [fX8_likeFew_L4, fX8_likeFew_j31, zokM_0, zokM_1, zokM_2, zokM_3, zokM_4, zokM_5, zokM_6, zokM_7, zokM_8, zokM_9, zokM_10, zokM_11, zokM_12, zokM_13, zokM_14, zokM_15, zlaM_1, zlaM_2, zlaM_3, zlaM_4, zlaM_5, zlaM_6, zlaM_7, zlaM_8, zlaM_9, zlaM_10, zlaM_11, zlaM_12, zlaM_13, zlaM_14, zlaM_15, zp_1, zp_h, zp_r, zp_l, zletE, obs, spMe_0, spMe_1, spMe_2, spMe_3, spMe_4, spMe_5, spMe_6, spMe_7, spMe_8, spMe_9, spMe_10, spMe_11, spMe_12, spMe_13, spMe_14, spMe_15, hM.1, r8, if_neg h2, hz, hL t (by omega), n_and, m_bits hle, if_neg c', hsh, n_or, nI_1, if_neg c]
      exact m_fw hM hL hL2 hs m (t + 1) n _ (by omega) (by omega)
theorem m_fw0 {M : zS} (hM : shM M) {L : Nat → Nat} (hL : LkM M L) (hL2 : ∀ t, t < 12 → L t ≤ 4095) {s : Nat} (hs : s ≤ 4095) : fX8_likeFew 0 (nI s) M = some (nI (fwN L s 12 0 0), M) := m_fw hM hL hL2 hs 12 0 zF 0 rfl (by decide)
/-- what is OPEN to one by a set -/
def opN (L : Nat → Nat) (k s h nh st : Nat) : Nat :=
  if k = 1 then dn (dn (dn 4095 st) (twN L st 12 0 0 0)) s
  else if k = 2 then dn (dn (dn (dn 4095 st) (laN L st 12 0 0)) s) nh
  else if k = 3 then dn (dn 4095 st) (twN L st 12 0 0 0)
  else if k = 4 then dn (dn (dn (dn (dn 4095 st) (laN L st 12 0 0)) (laN L (laN L st 12 0 0) 12 0 0)) s) nh
  else if k = 5 then dn (dn (dn (dn 4095 st) (laN L st 12 0 0)) s) h
  else dn (dn (dn 4095 st) (laN L st 12 0 0)) s
theorem opN_le (L : Nat → Nat) (k s h nh st : Nat) : opN L k s h nh st ≤ 4095 := by
  have a : dn 4095 st ≤ 4095 := dn_le _ _
  have b : ∀ x y, x ≤ 4095 → dn x y ≤ 4095 := fun x y h => Nat.le_trans (dn_le x y) h
  unfold opN
  split
  · exact b _ _ (b _ _ a)
  · split
    · exact b _ _ (b _ _ (b _ _ a))
    · split
      · exact b _ _ a
      · split
        · exact b _ _ (b _ _ (b _ _ (b _ _ a)))
        · split
          · exact b _ _ (b _ _ (b _ _ a))
          · exact b _ _ (b _ _ a)
theorem n_dn0 (b : Nat) : (4095 : Int32) &&& (nI b ^^^ (-1)) = nI (dn 4095 b) := n_dn (a := 4095) (Nat.le_refl _)
theorem kne {a b : Nat} (ha : a < 2 ^ 31) (hb : b < 2 ^ 31) (h : a ≠ b) : ¬ nI a = nI b := fun q => h ((nI_eq ha hb).mp q)
theorem x_open {X : zS} (hX : shX X) {L : Nat → Nat} {k nu s h nh d : Nat} (hV : Vok L k nu s h nh d) (hL : LkX X L) (vk : X.2.1 7 3 = nI k) (vs : X.2.1 7 5 = nI s) (vh : X.2.1 7 6 = nI h) (vn : X.2.1 7 8 = nI nh) {st : Nat} (hst : st ≤ 4095) : fX6_openBy 7 (nI st) X = some (nI (opN L k s h nh st), X) := by
  have ela := x_la0 hX hL hst
  have etw := x_tw0 hX hL hst
  have hla : laN L st 12 0 0 ≤ 4095 := laN_le hV.1.1 st 12 0 0 rfl (by decide)
  have ela2 := x_la0 hX hL hla
  have d1 : dn 4095 st ≤ 4095 := dn_le _ _
  have d2 : ∀ x, dn (dn 4095 st) x ≤ 4095 := fun x => Nat.le_trans (dn_le _ _) d1
  have d3 : ∀ x y, dn (dn (dn 4095 st) x) y ≤ 4095 := fun x y => Nat.le_trans (dn_le _ _) (d2 x)
  have d4 : ∀ x y z, dn (dn (dn (dn 4095 st) x) y) z ≤ 4095 := fun x y z => Nat.le_trans (dn_le _ _) (d3 x y)
  have k1 : ∀ j : Nat, j < 6 → k ≠ j → ¬ nI k = nI j := fun j hj e => kne (by have := hV.2.1; omega) (by omega) e
  unfold opN
  by_cases c1 : k = 1
  · subst c1
    simp only [fX6_openBy, zokX_0, zokX_1, zokX_2, zokX_3, zokX_4, zokX_5, zokX_6, zokX_7, zokX_8, zokX_9, zokX_10, zokX_11, zokX_12, zokX_13, zokX_14, zokX_15, zokX_16, zlaX_1, zlaX_2, zlaX_3, zlaX_4, zlaX_5, zlaX_6, zlaX_8, zlaX_11, zlaX_12, zlaX_13, zlaX_15, zlaX_16, zp_1, zp_h, zp_r, zp_l, zletE, obs, spXe_0, spXe_1, spXe_2, spXe_3, spXe_4, spXe_5, spXe_6, spXe_7, spXe_8, spXe_9, spXe_10, spXe_11, spXe_12, spXe_13, spXe_14, spXe_15, spXe_16, hX.1, vk, if_pos (show nI 1 = (1 : Int32) from rfl), etw, vs, n_dn0, n_dn d1, n_dn (d2 _), if_true]
  · by_cases c2 : k = 2
    · subst c2
      simp only [fX6_openBy, zokX_0, zokX_1, zokX_2, zokX_3, zokX_4, zokX_5, zokX_6, zokX_7, zokX_8, zokX_9, zokX_10, zokX_11, zokX_12, zokX_13, zokX_14, zokX_15, zokX_16, zlaX_1, zlaX_2, zlaX_3, zlaX_4, zlaX_5, zlaX_6, zlaX_8, zlaX_11, zlaX_12, zlaX_13, zlaX_15, zlaX_16, zp_1, zp_h, zp_r, zp_l, zletE, obs, spXe_0, spXe_1, spXe_2, spXe_3, spXe_4, spXe_5, spXe_6, spXe_7, spXe_8, spXe_9, spXe_10, spXe_11, spXe_12, spXe_13, spXe_14, spXe_15, spXe_16, hX.1, vk, if_neg (show ¬ nI 2 = (1 : Int32) by decide), if_pos (show nI 2 = (2 : Int32) from rfl), ela, vs, vn, n_dn0, n_dn d1, n_dn (d2 _), n_dn (d3 _ _), if_neg (show ¬ (2 : Nat) = 1 by decide), if_true]
    · by_cases c3 : k = 3
      · subst c3
        simp only [fX6_openBy, zokX_0, zokX_1, zokX_2, zokX_3, zokX_4, zokX_5, zokX_6, zokX_7, zokX_8, zokX_9, zokX_10, zokX_11, zokX_12, zokX_13, zokX_14, zokX_15, zokX_16, zlaX_1, zlaX_2, zlaX_3, zlaX_4, zlaX_5, zlaX_6, zlaX_8, zlaX_11, zlaX_12, zlaX_13, zlaX_15, zlaX_16, zp_1, zp_h, zp_r, zp_l, zletE, obs, spXe_0, spXe_1, spXe_2, spXe_3, spXe_4, spXe_5, spXe_6, spXe_7, spXe_8, spXe_9, spXe_10, spXe_11, spXe_12, spXe_13, spXe_14, spXe_15, spXe_16, hX.1, vk, if_neg (show ¬ nI 3 = (1 : Int32) by decide), if_neg (show ¬ nI 3 = (2 : Int32) by decide), if_pos (show nI 3 = (3 : Int32) from rfl), etw, n_dn0, n_dn d1, if_neg (show ¬ (3 : Nat) = 1 by decide), if_neg (show ¬ (3 : Nat) = 2 by decide), if_true]
      · by_cases c4 : k = 4
        · subst c4
          simp only [fX6_openBy, fX6_openToGreedy, zokX_0, zokX_1, zokX_2, zokX_3, zokX_4, zokX_5, zokX_6, zokX_7, zokX_8, zokX_9, zokX_10, zokX_11, zokX_12, zokX_13, zokX_14, zokX_15, zokX_16, zlaX_1, zlaX_2, zlaX_3, zlaX_4, zlaX_5, zlaX_6, zlaX_8, zlaX_11, zlaX_12, zlaX_13, zlaX_15, zlaX_16, zp_1, zp_h, zp_r, zp_l, zletE, obs, spXe_0, spXe_1, spXe_2, spXe_3, spXe_4, spXe_5, spXe_6, spXe_7, spXe_8, spXe_9, spXe_10, spXe_11, spXe_12, spXe_13, spXe_14, spXe_15, spXe_16, hX.1, vk, if_neg (show ¬ nI 4 = (1 : Int32) by decide), if_neg (show ¬ nI 4 = (2 : Int32) by decide), if_neg (show ¬ nI 4 = (3 : Int32) by decide), if_pos (show nI 4 = (4 : Int32) from rfl), ela, ela2, vs, vn, n_dn0, n_dn d1, n_dn (d2 _), n_dn (d3 _ _), n_dn (d4 _ _ _), if_neg (show ¬ (4 : Nat) = 1 by decide), if_neg (show ¬ (4 : Nat) = 2 by decide), if_neg (show ¬ (4 : Nat) = 3 by decide), if_true]
        · by_cases c5 : k = 5
          · subst c5
            simp only [fX6_openBy, zokX_0, zokX_1, zokX_2, zokX_3, zokX_4, zokX_5, zokX_6, zokX_7, zokX_8, zokX_9, zokX_10, zokX_11, zokX_12, zokX_13, zokX_14, zokX_15, zokX_16, zlaX_1, zlaX_2, zlaX_3, zlaX_4, zlaX_5, zlaX_6, zlaX_8, zlaX_11, zlaX_12, zlaX_13, zlaX_15, zlaX_16, zp_1, zp_h, zp_r, zp_l, zletE, obs, spXe_0, spXe_1, spXe_2, spXe_3, spXe_4, spXe_5, spXe_6, spXe_7, spXe_8, spXe_9, spXe_10, spXe_11, spXe_12, spXe_13, spXe_14, spXe_15, spXe_16, hX.1, vk, if_neg (show ¬ nI 5 = (1 : Int32) by decide), if_neg (show ¬ nI 5 = (2 : Int32) by decide), if_neg (show ¬ nI 5 = (3 : Int32) by decide), if_neg (show ¬ nI 5 = (4 : Int32) by decide), if_pos (show nI 5 = (5 : Int32) from rfl), ela, vs, vh, n_dn0, n_dn d1, n_dn (d2 _), n_dn (d3 _ _), if_neg (show ¬ (5 : Nat) = 1 by decide), if_neg (show ¬ (5 : Nat) = 2 by decide), if_neg (show ¬ (5 : Nat) = 3 by decide), if_neg (show ¬ (5 : Nat) = 4 by decide), if_true]
          · have q1 : ¬ nI k = (1 : Int32) := k1 1 (by decide) c1
            have q2 : ¬ nI k = (2 : Int32) := k1 2 (by decide) c2
            have q3 : ¬ nI k = (3 : Int32) := k1 3 (by decide) c3
            have q4 : ¬ nI k = (4 : Int32) := k1 4 (by decide) c4
            have q5 : ¬ nI k = (5 : Int32) := k1 5 (by decide) c5
            simp only [fX6_openBy, zokX_0, zokX_1, zokX_2, zokX_3, zokX_4, zokX_5, zokX_6, zokX_7, zokX_8, zokX_9, zokX_10, zokX_11, zokX_12, zokX_13, zokX_14, zokX_15, zokX_16, zlaX_1, zlaX_2, zlaX_3, zlaX_4, zlaX_5, zlaX_6, zlaX_8, zlaX_11, zlaX_12, zlaX_13, zlaX_15, zlaX_16, zp_1, zp_h, zp_r, zp_l, zletE, obs, spXe_0, spXe_1, spXe_2, spXe_3, spXe_4, spXe_5, spXe_6, spXe_7, spXe_8, spXe_9, spXe_10, spXe_11, spXe_12, spXe_13, spXe_14, spXe_15, spXe_16, hX.1, vk, if_neg q1, if_neg q2, if_neg q3, if_neg q4, if_neg q5, if_neg c1, if_neg c2, if_neg c3, if_neg c4, if_neg c5, ela, vs, n_dn0, n_dn d1, n_dn (d2 _)]
/-- the reference's picture of one of ASKERS: p of n, its row, what the next one had, DAY -/
def PcM (M : zS) (p n : Nat) (L : Nat → Nat) (k nu s h nh d : Nat) : Prop := LkM M L ∧ p < n ∧ n ≤ 5 ∧ M.2.1 0 11 = nI n ∧ M.2.1 5 p = nI k ∧ M.2.1 6 (4 * p) = nI nu ∧ M.2.1 6 (4 * p + 1) = nI s ∧ M.2.1 6 (4 * p + 2) = nI h ∧ M.2.1 0 7 = nI d ∧ nI nh = if n = 1 then 0 else M.2.1 6 (4 * (if p + 1 = n then 0 else p + 1) + 2)
theorem m_nh {M : zS} (hM : shM M) {p n : Nat} {L : Nat → Nat} {k nu s h nh d : Nat} (hP : PcM M p n L k nu s h nh d) : fX8_nextHad 0 (nI p) M = some (nI nh, M) := by
  obtain ⟨-, hp, hn, pm, -, -, -, -, -, pn⟩ := hP
  have r10 : M.2.2.2 0 10 = some 6 := hM.r (by decide) (by decide)
  by_cases c : n = 1
  · subst c
    rw [if_pos rfl] at pn
    simp only [fX8_nextHad, zokM_0, zokM_1, zokM_2, zokM_3, zokM_4, zokM_5, zokM_6, zokM_7, zokM_8, zokM_9, zokM_10, zokM_11, zokM_12, zokM_13, zokM_14, zokM_15, zlaM_1, zlaM_2, zlaM_3, zlaM_4, zlaM_5, zlaM_6, zlaM_7, zlaM_8, zlaM_9, zlaM_10, zlaM_11, zlaM_12, zlaM_13, zlaM_14, zlaM_15, zp_1, zp_h, zp_r, zp_l, zletE, obs, spMe_0, spMe_1, spMe_2, spMe_3, spMe_4, spMe_5, spMe_6, spMe_7, spMe_8, spMe_9, spMe_10, spMe_11, spMe_12, spMe_13, spMe_14, spMe_15, hM.1, pm, if_pos (show nI 1 = (1 : Int32) from rfl), pn]
  · have c' : ¬ nI n = (1 : Int32) := kne (b := 1) (by omega) (by decide) c
    rw [if_neg c] at pn
    by_cases e : p + 1 = n
    · rw [if_pos e] at pn
      have e' : nI (p + 1) = nI n := by rw [e]
      have i2 : ((4 : Int32) * 0) + 2 = nI 2 := by decide
      have hz : zix spM 6 (nI 2) = some 2 := zix_of rfl (by decide) (by decide)
      simp only [fX8_nextHad, fX8_nextHad_j34, zokM_0, zokM_1, zokM_2, zokM_3, zokM_4, zokM_5, zokM_6, zokM_7, zokM_8, zokM_9, zokM_10, zokM_11, zokM_12, zokM_13, zokM_14, zokM_15, zlaM_1, zlaM_2, zlaM_3, zlaM_4, zlaM_5, zlaM_6, zlaM_7, zlaM_8, zlaM_9, zlaM_10, zlaM_11, zlaM_12, zlaM_13, zlaM_14, zlaM_15, zp_1, zp_h, zp_r, zp_l, zletE, obs, spMe_0, spMe_1, spMe_2, spMe_3, spMe_4, spMe_5, spMe_6, spMe_7, spMe_8, spMe_9, spMe_10, spMe_11, spMe_12, spMe_13, spMe_14, spMe_15, hM.1, pm, if_neg c', nI_1, if_pos e', r10, i2, hz, pn, Nat.mul_zero, Nat.zero_add]
    · rw [if_neg e] at pn
      have e' : ¬ nI (p + 1) = nI n := kne (by omega) (by omega) e
      have i2 : (4 : Int32) * nI (p + 1) + 2 = nI (4 * (p + 1) + 2) := idx4 (p + 1) 2
      have hz : zix spM 6 (nI (4 * (p + 1) + 2)) = some (4 * (p + 1) + 2) := zix_of rfl (by show 4 * (p + 1) + 2 < 20; omega) (by decide)
      simp only [fX8_nextHad, fX8_nextHad_j34, zokM_0, zokM_1, zokM_2, zokM_3, zokM_4, zokM_5, zokM_6, zokM_7, zokM_8, zokM_9, zokM_10, zokM_11, zokM_12, zokM_13, zokM_14, zokM_15, zlaM_1, zlaM_2, zlaM_3, zlaM_4, zlaM_5, zlaM_6, zlaM_7, zlaM_8, zlaM_9, zlaM_10, zlaM_11, zlaM_12, zlaM_13, zlaM_14, zlaM_15, zp_1, zp_h, zp_r, zp_l, zletE, obs, spMe_0, spMe_1, spMe_2, spMe_3, spMe_4, spMe_5, spMe_6, spMe_7, spMe_8, spMe_9, spMe_10, spMe_11, spMe_12, spMe_13, spMe_14, spMe_15, hM.1, pm, if_neg c', nI_1, if_neg e', r10, i2, hz, pn]
theorem m_open {M : zS} (hM : shM M) {p n : Nat} {L : Nat → Nat} {k nu s h nh d : Nat} (hV : Vok L k nu s h nh d) (hP : PcM M p n L k nu s h nh d) {st : Nat} (hst : st ≤ 4095) : fX8_openTo 0 (nI p) (nI st) M = some (nI (opN L k s h nh st), M) := by
  have enh := m_nh hM hP
  obtain ⟨hL, hp, hn, pm, pk, -, ps, ph, -, -⟩ := hP
  have r9 : M.2.2.2 0 9 = some 5 := hM.r (by decide) (by decide)
  have r10 : M.2.2.2 0 10 = some 6 := hM.r (by decide) (by decide)
  have z5 : zix spM 5 (nI p) = some p := zix_of rfl (by show p < 5; omega) (by decide)
  have i1 : (4 : Int32) * nI p + 1 = nI (4 * p + 1) := idx4 p 1
  have i2 : (4 : Int32) * nI p + 2 = nI (4 * p + 2) := idx4 p 2
  have z1 : zix spM 6 (nI (4 * p + 1)) = some (4 * p + 1) := zix_of rfl (by show 4 * p + 1 < 20; omega) (by decide)
  have z2 : zix spM 6 (nI (4 * p + 2)) = some (4 * p + 2) := zix_of rfl (by show 4 * p + 2 < 20; omega) (by decide)
  have ela := m_la0 hM hL hst
  have efw := m_fw0 hM hL hV.1.1 hst
  have hla : laN L st 12 0 0 ≤ 4095 := laN_le hV.1.1 st 12 0 0 rfl (by decide)
  have ela2 := m_la0 hM hL hla
  have d1 : dn 4095 st ≤ 4095 := dn_le _ _
  have d2 : ∀ x, dn (dn 4095 st) x ≤ 4095 := fun x => Nat.le_trans (dn_le _ _) d1
  have d3 : ∀ x y, dn (dn (dn 4095 st) x) y ≤ 4095 := fun x y => Nat.le_trans (dn_le _ _) (d2 x)
  have d4 : ∀ x y z, dn (dn (dn (dn 4095 st) x) y) z ≤ 4095 := fun x y z => Nat.le_trans (dn_le _ _) (d3 x y)
  have k1 : ∀ j : Nat, j < 6 → k ≠ j → ¬ nI k = nI j := fun j hj e => kne (by have := hV.2.1; omega) (by omega) e
  unfold opN
  by_cases c1 : k = 1
  · subst c1
    rw [if_pos rfl, dn_comm d1, tw_fw hV.1 st (d2 _)]
    simp only [fX8_openTo, zokM_0, zokM_1, zokM_2, zokM_3, zokM_4, zokM_5, zokM_6, zokM_7, zokM_8, zokM_9, zokM_10, zokM_11, zokM_12, zokM_13, zokM_14, zokM_15, zlaM_1, zlaM_2, zlaM_3, zlaM_4, zlaM_5, zlaM_6, zlaM_7, zlaM_8, zlaM_9, zlaM_10, zlaM_11, zlaM_12, zlaM_13, zlaM_14, zlaM_15, zp_1, zp_h, zp_r, zp_l, zletE, obs, spMe_0, spMe_1, spMe_2, spMe_3, spMe_4, spMe_5, spMe_6, spMe_7, spMe_8, spMe_9, spMe_10, spMe_11, spMe_12, spMe_13, spMe_14, spMe_15, hM.1, r9, z5, pk, if_neg (show ¬ nI 1 = (3 : Int32) by decide), if_pos (show nI 1 = (1 : Int32) from rfl), r10, i1, z1, ps, efw, n_dn0, n_dn d1, n_and]
  · by_cases c2 : k = 2
    · subst c2
      rw [if_neg c1, if_pos rfl, dn_comm d1 (laN L st 12 0 0) s]
      simp only [fX8_openTo, fX8_openTo_j83, fX8_openTo_j95, zokM_0, zokM_1, zokM_2, zokM_3, zokM_4, zokM_5, zokM_6, zokM_7, zokM_8, zokM_9, zokM_10, zokM_11, zokM_12, zokM_13, zokM_14, zokM_15, zlaM_1, zlaM_2, zlaM_3, zlaM_4, zlaM_5, zlaM_6, zlaM_7, zlaM_8, zlaM_9, zlaM_10, zlaM_11, zlaM_12, zlaM_13, zlaM_14, zlaM_15, zp_1, zp_h, zp_r, zp_l, zletE, obs, spMe_0, spMe_1, spMe_2, spMe_3, spMe_4, spMe_5, spMe_6, spMe_7, spMe_8, spMe_9, spMe_10, spMe_11, spMe_12, spMe_13, spMe_14, spMe_15, hM.1, r9, z5, pk, if_neg (show ¬ nI 2 = (3 : Int32) by decide), if_neg (show ¬ nI 2 = (1 : Int32) by decide), if_pos (show nI 2 = (2 : Int32) from rfl), if_neg (show ¬ nI 2 = (4 : Int32) by decide), if_neg (show ¬ nI 2 = (5 : Int32) by decide), r10, i1, z1, ps, ela, enh, n_dn0, n_dn d1, n_dn (d2 _), n_dn (d3 _ _)]
    · by_cases c3 : k = 3
      · subst c3
        rw [if_neg c1, if_neg c2, if_pos rfl, tw_fw hV.1 st d1]
        simp only [fX8_openTo, zokM_0, zokM_1, zokM_2, zokM_3, zokM_4, zokM_5, zokM_6, zokM_7, zokM_8, zokM_9, zokM_10, zokM_11, zokM_12, zokM_13, zokM_14, zokM_15, zlaM_1, zlaM_2, zlaM_3, zlaM_4, zlaM_5, zlaM_6, zlaM_7, zlaM_8, zlaM_9, zlaM_10, zlaM_11, zlaM_12, zlaM_13, zlaM_14, zlaM_15, zp_1, zp_h, zp_r, zp_l, zletE, obs, spMe_0, spMe_1, spMe_2, spMe_3, spMe_4, spMe_5, spMe_6, spMe_7, spMe_8, spMe_9, spMe_10, spMe_11, spMe_12, spMe_13, spMe_14, spMe_15, hM.1, r9, z5, pk, if_pos (show nI 3 = (3 : Int32) from rfl), efw, n_dn0, n_and]
      · by_cases c4 : k = 4
        · subst c4
          rw [if_neg c1, if_neg c2, if_neg c3, if_pos rfl, dn_comm (d2 _) _ s, dn_comm (d3 _ _) _ nh, dn_comm d1 (laN L st 12 0 0) s]
          simp only [fX8_openTo, fX8_openTo_j83, fX8_openTo_j95, zokM_0, zokM_1, zokM_2, zokM_3, zokM_4, zokM_5, zokM_6, zokM_7, zokM_8, zokM_9, zokM_10, zokM_11, zokM_12, zokM_13, zokM_14, zokM_15, zlaM_1, zlaM_2, zlaM_3, zlaM_4, zlaM_5, zlaM_6, zlaM_7, zlaM_8, zlaM_9, zlaM_10, zlaM_11, zlaM_12, zlaM_13, zlaM_14, zlaM_15, zp_1, zp_h, zp_r, zp_l, zletE, obs, spMe_0, spMe_1, spMe_2, spMe_3, spMe_4, spMe_5, spMe_6, spMe_7, spMe_8, spMe_9, spMe_10, spMe_11, spMe_12, spMe_13, spMe_14, spMe_15, hM.1, r9, z5, pk, if_neg (show ¬ nI 4 = (3 : Int32) by decide), if_neg (show ¬ nI 4 = (1 : Int32) by decide), if_neg (show ¬ nI 4 = (2 : Int32) by decide), if_pos (show nI 4 = (4 : Int32) from rfl), r10, i1, z1, ps, ela, ela2, enh, n_dn0, n_dn d1, n_dn (d2 _), n_dn (d3 _ _), n_dn (d4 _ _ _)]
        · by_cases c5 : k = 5
          · subst c5
            rw [if_neg c1, if_neg c2, if_neg c3, if_neg c4, if_pos rfl, dn_comm d1 (laN L st 12 0 0) s]
            simp only [fX8_openTo, fX8_openTo_j83, fX8_openTo_j95, zokM_0, zokM_1, zokM_2, zokM_3, zokM_4, zokM_5, zokM_6, zokM_7, zokM_8, zokM_9, zokM_10, zokM_11, zokM_12, zokM_13, zokM_14, zokM_15, zlaM_1, zlaM_2, zlaM_3, zlaM_4, zlaM_5, zlaM_6, zlaM_7, zlaM_8, zlaM_9, zlaM_10, zlaM_11, zlaM_12, zlaM_13, zlaM_14, zlaM_15, zp_1, zp_h, zp_r, zp_l, zletE, obs, spMe_0, spMe_1, spMe_2, spMe_3, spMe_4, spMe_5, spMe_6, spMe_7, spMe_8, spMe_9, spMe_10, spMe_11, spMe_12, spMe_13, spMe_14, spMe_15, hM.1, r9, z5, pk, if_neg (show ¬ nI 5 = (3 : Int32) by decide), if_neg (show ¬ nI 5 = (1 : Int32) by decide), if_neg (show ¬ nI 5 = (2 : Int32) by decide), if_neg (show ¬ nI 5 = (4 : Int32) by decide), if_pos (show nI 5 = (5 : Int32) from rfl), r10, i1, z1, i2, z2, ps, ph, ela, n_dn0, n_dn d1, n_dn (d2 _), n_dn (d3 _ _)]
          · have q1 : ¬ nI k = (1 : Int32) := k1 1 (by decide) c1
            have q2 : ¬ nI k = (2 : Int32) := k1 2 (by decide) c2
            have q3 : ¬ nI k = (3 : Int32) := k1 3 (by decide) c3
            have q4 : ¬ nI k = (4 : Int32) := k1 4 (by decide) c4
            have q5 : ¬ nI k = (5 : Int32) := k1 5 (by decide) c5
            rw [if_neg c1, if_neg c2, if_neg c3, if_neg c4, if_neg c5, dn_comm d1 (laN L st 12 0 0) s]
            simp only [fX8_openTo, fX8_openTo_j95, zokM_0, zokM_1, zokM_2, zokM_3, zokM_4, zokM_5, zokM_6, zokM_7, zokM_8, zokM_9, zokM_10, zokM_11, zokM_12, zokM_13, zokM_14, zokM_15, zlaM_1, zlaM_2, zlaM_3, zlaM_4, zlaM_5, zlaM_6, zlaM_7, zlaM_8, zlaM_9, zlaM_10, zlaM_11, zlaM_12, zlaM_13, zlaM_14, zlaM_15, zp_1, zp_h, zp_r, zp_l, zletE, obs, spMe_0, spMe_1, spMe_2, spMe_3, spMe_4, spMe_5, spMe_6, spMe_7, spMe_8, spMe_9, spMe_10, spMe_11, spMe_12, spMe_13, spMe_14, spMe_15, hM.1, r9, z5, pk, if_neg q1, if_neg q2, if_neg q3, if_neg q4, if_neg q5, r10, i1, z1, ps, ela, n_dn0, n_dn d1, n_dn (d2 _)]
