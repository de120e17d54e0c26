/-! ===== the class's world when all is told ===== -/
def nD : Nat → Bool := fun _ => false
/-- the place as the class writes it -/
def plI (W : VW) (p h : Nat) : Int32 := if 0 < W 0 0 then nI (wPl W p h) else -nI 2
def CLw (V : VL) (W : VW) (l : Nat) (S : ST) : Prop := (∀ s, s < 2 → S.1 (l + 5) s = nI (W 0 (9 + s))) ∧ ∀ (S' : ST) (n s k : Nat), 30000 ≤ n → (∀ a j, l + 1 ≤ a → a ≤ l + 4 → S'.1 a j = S.1 a j) → s < 2 → k < W 0 (9 + s) → Ok (E_X4_holds n S' l (nI (s * 4 + k))) (fun r => r.1 = bI (V s k (S'.1 (l + 6) 0) (S'.1 (l + 6) 1) (S'.1 (l + 6) 2) (S'.1 (l + 6) 3)) ∧ Df (Xc (l + 7)) S' r.2)
def CW (W : VW) (V : VL) (w : Nat) (S : ST) : Prop := (w = 22 ∨ w = 47) ∧ (∀ k, k < 11 → S.1 (w + 1) k = nI (W 0 k)) ∧ (∀ p, p < W 0 1 → S.1 (w + 2) p = nI (W 1 p)) ∧ (∀ p, p < W 0 1 → S.1 (w + 3) p = nI (W 2 p)) ∧ (∀ t, t < W 0 2 → S.1 (w + 4) t = nI (W 3 t)) ∧ (∀ p, p < 10 → S.1 (w + 6) p = bs (wFirst W p) 6) ∧ (∀ m, m < W 0 6 → S.1 (w + 7) m = nI (W 12 m)) ∧ (∀ m, m < W 0 6 → S.1 (w + 8) m = nI (W 13 m)) ∧ (∀ m, m < W 0 6 → S.1 (w + 9) m = nI (W 14 m)) ∧ (∀ a, a < W 0 7 → S.1 (w + 10) a = nI (W 15 a)) ∧ (∀ a, a < W 0 7 → S.1 (w + 11) a = nI (W 16 a)) ∧ (∀ a, a < W 0 8 → S.1 (w + 12) a = nI (W 17 a)) ∧ (∀ p h, p < W 0 1 → h < 24 → S.1 (w + 21) (p * 24 + h) = plI W p h) ∧ (∀ a h, a < W 0 0 → h < 24 → S.1 (w + 22) (a * 24 + h) = bs (wStand W nD a h) (W 0 1)) ∧ (∀ a h, a < W 0 0 → h < 24 → S.1 (w + 23) (a * 24 + h) = bs (wHear W nD a h) (W 0 1)) ∧ (∀ p h, p < W 0 1 → h < 24 → S.1 (w + 24) (p * 24 + h) = bs (fun o => wMay W V nD p o h 0) (W 0 1)) ∧ CLw V W (w + 13) S
theorem g_n {W : VW} {V : VL} {w : Nat} {S : ST} (h : CW W V w S) : ∀ k, k < 11 → S.1 (w + 1) k = nI (W 0 k) := h.2.1
theorem g_age {W : VW} {V : VL} {w : Nat} {S : ST} (h : CW W V w S) : ∀ p, p < W 0 1 → S.1 (w + 2) p = nI (W 1 p) := h.2.2.1
theorem g_bir {W : VW} {V : VL} {w : Nat} {S : ST} (h : CW W V w S) : ∀ p, p < W 0 1 → S.1 (w + 3) p = nI (W 2 p) := h.2.2.2.1
theorem g_wor {W : VW} {V : VL} {w : Nat} {S : ST} (h : CW W V w S) : ∀ t, t < W 0 2 → S.1 (w + 4) t = nI (W 3 t) := h.2.2.2.2.1
theorem g_fir {W : VW} {V : VL} {w : Nat} {S : ST} (h : CW W V w S) : ∀ p, p < 10 → S.1 (w + 6) p = bs (wFirst W p) 6 := h.2.2.2.2.2.1
theorem g_mp {W : VW} {V : VL} {w : Nat} {S : ST} (h : CW W V w S) : ∀ m, m < W 0 6 → S.1 (w + 7) m = nI (W 12 m) := h.2.2.2.2.2.2.1
theorem g_mt {W : VW} {V : VL} {w : Nat} {S : ST} (h : CW W V w S) : ∀ m, m < W 0 6 → S.1 (w + 8) m = nI (W 13 m) := h.2.2.2.2.2.2.2.1
theorem g_mh {W : VW} {V : VL} {w : Nat} {S : ST} (h : CW W V w S) : ∀ m, m < W 0 6 → S.1 (w + 9) m = nI (W 14 m) := h.2.2.2.2.2.2.2.2.1
theorem g_at {W : VW} {V : VL} {w : Nat} {S : ST} (h : CW W V w S) : ∀ a, a < W 0 7 → S.1 (w + 10) a = nI (W 15 a) := h.2.2.2.2.2.2.2.2.2.1
theorem g_ac {W : VW} {V : VL} {w : Nat} {S : ST} (h : CW W V w S) : ∀ a, a < W 0 7 → S.1 (w + 11) a = nI (W 16 a) := h.2.2.2.2.2.2.2.2.2.2.1
theorem g_ta {W : VW} {V : VL} {w : Nat} {S : ST} (h : CW W V w S) : ∀ a, a < W 0 8 → S.1 (w + 12) a = nI (W 17 a) := h.2.2.2.2.2.2.2.2.2.2.2.1
theorem g_pla {W : VW} {V : VL} {w : Nat} {S : ST} (h : CW W V w S) : ∀ p h, p < W 0 1 → h < 24 → S.1 (w + 21) (p * 24 + h) = plI W p h := h.2.2.2.2.2.2.2.2.2.2.2.2.1
theorem g_sta {W : VW} {V : VL} {w : Nat} {S : ST} (h : CW W V w S) : ∀ a h, a < W 0 0 → h < 24 → S.1 (w + 22) (a * 24 + h) = bs (wStand W nD a h) (W 0 1) := h.2.2.2.2.2.2.2.2.2.2.2.2.2.1
theorem g_hea {W : VW} {V : VL} {w : Nat} {S : ST} (h : CW W V w S) : ∀ a h, a < W 0 0 → h < 24 → S.1 (w + 23) (a * 24 + h) = bs (wHear W nD a h) (W 0 1) := h.2.2.2.2.2.2.2.2.2.2.2.2.2.2.1
theorem g_say {W : VW} {V : VL} {w : Nat} {S : ST} (h : CW W V w S) : ∀ p h, p < W 0 1 → h < 24 → S.1 (w + 24) (p * 24 + h) = bs (fun o => wMay W V nD p o h 0) (W 0 1) := h.2.2.2.2.2.2.2.2.2.2.2.2.2.2.2.1
theorem g_law {W : VW} {V : VL} {w : Nat} {S : ST} (h : CW W V w S) : CLw V W (w + 13) S := h.2.2.2.2.2.2.2.2.2.2.2.2.2.2.2.2
theorem CLw.df {V : VL} {W : VW} {l : Nat} {S S' : ST} {X : Nat → Nat → Bool} (h : CLw V W l S) (d : Df X S S') (hx : ∀ a j, l + 1 ≤ a → a ≤ l + 5 → X a j = false) : CLw V W l S' := ⟨fun s hs => (d.2 _ _ (hx _ _ (by omega) (by omega))).trans (h.1 s hs), fun S1 n s k hn hl hs hk => h.2 S1 n s k hn (fun a j h1 h2 => (hl a j h1 h2).trans (d.2 a j (hx a j h1 (by omega)))) hs hk⟩
theorem CW.df {W : VW} {V : VL} {w : Nat} {S S' : ST} {X : Nat → Nat → Bool} (hC : CW W V w S) (d : Df X S S') (hx : ∀ a j, (w + 1 ≤ a ∧ a ≤ w + 18) ∨ (w + 21 ≤ a ∧ a ≤ w + 24) → X a j = false) : CW W V w S' :=
  ⟨hC.1, fun k h1 => (d.2 _ _ (hx _ _ (by omega))).trans (g_n hC k h1), fun p h1 => (d.2 _ _ (hx _ _ (by omega))).trans (g_age hC p h1), fun p h1 => (d.2 _ _ (hx _ _ (by omega))).trans (g_bir hC p h1), fun t h1 => (d.2 _ _ (hx _ _ (by omega))).trans (g_wor hC t h1), fun p h1 => (d.2 _ _ (hx _ _ (by omega))).trans (g_fir hC p h1), fun m h1 => (d.2 _ _ (hx _ _ (by omega))).trans (g_mp hC m h1), fun m h1 => (d.2 _ _ (hx _ _ (by omega))).trans (g_mt hC m h1), fun m h1 => (d.2 _ _ (hx _ _ (by omega))).trans (g_mh hC m h1), fun a h1 => (d.2 _ _ (hx _ _ (by omega))).trans (g_at hC a h1), fun a h1 => (d.2 _ _ (hx _ _ (by omega))).trans (g_ac hC a h1), fun a h1 => (d.2 _ _ (hx _ _ (by omega))).trans (g_ta hC a h1), fun p h h1 h2 => (d.2 _ _ (hx _ _ (by omega))).trans (g_pla hC p h h1 h2), fun a h h1 h2 => (d.2 _ _ (hx _ _ (by omega))).trans (g_sta hC a h h1 h2), fun a h h1 h2 => (d.2 _ _ (hx _ _ (by omega))).trans (g_hea hC a h h1 h2), fun p h h1 h2 => (d.2 _ _ (hx _ _ (by omega))).trans (g_say hC p h h1 h2), (g_law hC).df d (fun a j h1 h2 => hx a j (by omega))⟩

def XA (l a j : Nat) : Bool := a == l + 6 || a == l + 7
theorem nI_as {x : Int32} {m : Nat} (hm : m ≤ 32) {P : Nat → Bool} (h : x = bs P m) {i : Nat} (hi : i < m) : bt x i = P i := by rw [h, bt_lt hm hi]
/-- a set as a number -/
def bsN (P : Nat → Bool) : Nat → Nat
  | 0 => 0
  | n + 1 => bsN P n + (if P n = true then 2 ^ n else 0)
theorem bsN_lt (P : Nat → Bool) : ∀ n, bsN P n < 2 ^ n := by
  intro n
  induction n with
  | zero => exact Nat.one_pos
  | succ n ih =>
    rw [bsN, Nat.pow_succ]
    split <;> omega
theorem bit_nI {n : Nat} (hn : n < 32) : (1 : Int32) <<< (nI n &&& 31) = nI (2 ^ n) := (by decide +kernel : ∀ n, n < 32 → (1 : Int32) <<< (nI n &&& 31) = nI (2 ^ n)) n hn
theorem bt_nI (x i : Nat) (hx : x < 2 ^ 31) : bt (nI x) i = x.testBit i := by
  unfold bt nI
  show (BitVec.ofNat 32 x).getLsbD i = _
  rw [BitVec.getLsbD_ofNat]
  by_cases h : i < 32
  · simp [h]
  · simp [h]
    rw [Nat.testBit_lt_two_pow (Nat.lt_of_lt_of_le hx (Nat.pow_le_pow_right (by decide) (by omega) : 2 ^ 31 ≤ 2 ^ i))]
theorem bsN_bit (P : Nat → Bool) : ∀ n i, (bsN P n).testBit i = (decide (i < n) && P i) := by
  intro n
  induction n with
  | zero => intro i; simp [bsN]
  | succ n ih =>
    intro i
    rw [bsN]
    by_cases hp : P n = true
    · rw [if_pos hp]
      have e : bsN P n + 2 ^ n = 2 ^ n + bsN P n := Nat.add_comm _ _
      rw [e]
      by_cases h1 : i = n
      · subst h1
        rw [Nat.testBit_two_pow_add_eq, Nat.testBit_lt_two_pow (bsN_lt P i)]
        simp [hp]
      · by_cases h2 : i < n
        · rw [Nat.testBit_two_pow_add_gt h2, ih]
          have h3 : i < n + 1 := by omega
          simp [h2, h3]
        · have h3 : ¬ i < n + 1 := by omega
          rw [Nat.testBit_lt_two_pow]
          · simp [h3]
          · have h4 := bsN_lt P n
            have h5 : 2 ^ (n + 1) ≤ 2 ^ i := Nat.pow_le_pow_right (by decide) (by omega)
            rw [Nat.pow_succ] at h5
            omega
    · rw [if_neg hp, Nat.add_zero, ih]
      by_cases h1 : i = n
      · subst h1; simp [hp]
      · have h3 : (i < n + 1) = (i < n) := by simp; omega
        simp only [h3]
theorem bs_nI (P : Nat → Bool) {n : Nat} (hn : n ≤ 30) : bs P n = nI (bsN P n) := by
  have h : bsN P n < 2 ^ 31 := Nat.lt_of_lt_of_le (bsN_lt P n) (Nat.pow_le_pow_right (by decide) (by omega))
  apply b_ext
  intro i hi
  rw [bt_bs _ _ (by omega), bt_nI _ _ h, bsN_bit]
def bcV (a0 : Int32) : Int32 := (E_J6_bitCount_0f7a4 0 (fun _ _ => 0, fun _ _ => 0) a0).getD 0
theorem bc_all : ∀ x, x < 1024 → bcV (nI x) = nI (cnt (fun i => x.testBit i) 10) := by decide +kernel
theorem c_bitCount {n : Nat} {S : ST} {P : Nat → Bool} {m : Nat} (hm : m ≤ 10) : E_J6_bitCount_0f7a4 n S (bs P m) = some (nI (cnt P m)) := by
  have h1 : E_J6_bitCount_0f7a4 n S (bs P m) = some (bcV (bs P m)) := rfl
  have h2 : bsN P m < 1024 := Nat.lt_of_lt_of_le (bsN_lt P m) (Nat.pow_le_pow_right (by decide) hm : 2 ^ m ≤ 2 ^ 10)
  rw [h1, bs_nI P (by omega), bc_all _ h2, cnt_ext hm (fun i _ => bsN_bit P m i)]
def tzV (a0 : Int32) : Int32 := (E_J6_numberOfTrailingZeros_0f7a4 0 (fun _ _ => 0, fun _ _ => 0) a0).getD 0
theorem tz_all : ∀ x, x < 1024 → x ≠ 0 → tzV (nI x) = nI ((srch (fun i => x.testBit i) 0 10).getD 0) := by decide +kernel
theorem srch_congr {P Q : Nat → Bool} : ∀ {d i : Nat}, (∀ j, i ≤ j → j < i + d → P j = Q j) → srch P i d = srch Q i d := by
  intro d
  induction d with
  | zero => intro i _; rfl
  | succ d ih =>
    intro i h
    rw [srch, srch, h i (by omega) (by omega), ih (fun j h1 h2 => h j (by omega) (by omega))]
theorem srch_of {P : Nat → Bool} : ∀ {d i j : Nat}, i ≤ j → j < i + d → P j = true → (∀ k, i ≤ k → k < j → P k = false) → srch P i d = some j := by
  intro d
  induction d with
  | zero => intro i j h1 h2; omega
  | succ d ih =>
    intro i j h1 h2 h3 h4
    rw [srch]
    by_cases e : i = j
    · subst e; rw [if_pos h3]
    · rw [h4 i (by omega) (by omega)]
      exact ih (by omega) (by omega) h3 (fun k h5 h6 => h4 k (by omega) h6)
theorem c_tz {n : Nat} {S : ST} {P : Nat → Bool} {m i : Nat} (hm : m ≤ 10) (hi : i < m) (hp : P i = true) (hf : ∀ j, j < i → P j = false) : E_J6_numberOfTrailingZeros_0f7a4 n S (bs P m) = some (nI i) := by
  have h1 : E_J6_numberOfTrailingZeros_0f7a4 n S (bs P m) = some (tzV (bs P m)) := by
    unfold tzV E_J6_numberOfTrailingZeros_0f7a4
    simp only [lets, jn]
    repeat' split
    all_goals rfl
  have h2 : bsN P m < 1024 := Nat.lt_of_lt_of_le (bsN_lt P m) (Nat.pow_le_pow_right (by decide) hm : 2 ^ m ≤ 2 ^ 10)
  have h3 : bsN P m ≠ 0 := by
    intro e
    have h4 := bsN_bit P m i
    rw [e] at h4
    simp [hi, hp] at h4
  rw [h1, bs_nI P (by omega), tz_all _ h2 h3]
  have h5 : srch (fun i => (bsN P m).testBit i) 0 10 = some i := srch_of (Nat.zero_le _) (by omega) (by rw [bsN_bit]; simp [hi, hp]) (fun k _ h7 => by rw [bsN_bit, hf k h7]; simp)
  rw [h5]; rfl
theorem bs_and {P Q : Nat → Bool} {m : Nat} (hm : m ≤ 32) : bs P m &&& bs Q m = bs (fun i => P i && Q i) m := by
  apply bs_of hm
  intro i _
  rw [b_and, bt_bs _ _ hm, bt_bs _ _ hm]
  cases decide (i < m) <;> simp
theorem bs_or {P Q : Nat → Bool} {m : Nat} (hm : m ≤ 32) : bs P m ||| bs Q m = bs (fun i => P i || Q i) m := by
  apply bs_of hm
  intro i _
  rw [b_or, bt_bs _ _ hm, bt_bs _ _ hm]
  cases decide (i < m) <;> simp
theorem bs_z {P : Nat → Bool} {m : Nat} (hm : m ≤ 32) : (bs P m = 0) = (anyN P m = false) := by
  apply propext
  rw [anyN_f]
  constructor
  · intro h i hi
    have h1 := bt_lt (P := P) hm hi
    rw [h, b_0] at h1
    exact h1.symm
  · intro h
    rw [bs_congr (Q := fun _ => false) h, bs_false]
section CWS
variable {W : VW} {V : VL} {w n : Nat} {S : ST}
theorem c_placeOf (hC : CW W V w S) (hW : WF W) {p h : Nat} (hp : p < W 0 1) (hh : h < 24) : E_X10_placeOf n S w (nI p) (nI h) = some (plI W p h) := by
  have hm1 : W 0 1 ≤ 10 := hW.mx (k := 1) (by decide)
  unfold E_X10_placeOf
  simp (disch := omega) only [↓reduceIte, Option.bind_some, jn, lets, Sum.elim_inl, Sum.elim_inr, if_true, if_false, rd_nI, wr_nI, rd_z, rd_o, wr_z, wr_o, nI_1, nI_add, pk_mul, nI_leI, nI_ltI, nI_eq, z_le, le_z, z_lt, lt_z, eq_z, eq_o, le_o, o_le, lt_o, o_lt, eq_m1, eq_m2, m1_eq, m2_eq, m1_lt, m1_le, o_z, z_o, m1_z, m1_o, m2_z, m2_o, m2_m1, z_lz, z_lo, o_lz, o_ez, z_ez, z_eo, m2_lt, m2_le, leF, leT, ltF, ltT, eqF, eqT, bI_z, bI_o, sh1, sh0, not_true_eq_false, not_false_eq_true, ne_eq, Bool.true_eq_false, Bool.false_eq_true, true_and, and_true, false_and, and_false, l_2, l_3, l_4, l_5, l_6, l_7, l_8, l_9, l_10, l_11, l_12, l_13, l_14, l_15, l_16, l_17, l_18, l_19, l_20, l_21, l_22, l_23, l_24, l_25, l_26, l_27, l_28, l_29, l_30, l_32, l_33, l_34, l_35, l_36, l_37, l_38, l_39, l_50, l_60, l_99, l_100, l_150, l_160, l_240, l_250, l_300, l_400, l_402, l_403, l_420, l_500, l_600, l_840, l_1000, l_1024, l_2000, l_2047, l_2048, l_10000, l_25600, l_500000, g_pla hC]
theorem wStand_0 {D : Nat → Bool} {x h p : Nat} (h0 : W 0 0 = 0) : wStand W D x h p = false := by simp [wStand, wOn, h0]
theorem wHear_0 {D : Nat → Bool} {x h p : Nat} (h0 : W 0 0 = 0) : wHear W D x h p = false := by simp [wHear, wOn, h0]
theorem c_standers (hC : CW W V w S) (hW : WF W) {p h : Nat} (hh : h < 24) : E_X10_standers n S w (plI W p h) (nI h) = some (bs (wStand W nD (wPl W p h) h) (W 0 1)) := by
  have hm0 : W 0 0 ≤ 6 := hW.mx (k := 0) (by decide)
  unfold E_X10_standers plI
  by_cases h0 : 0 < W 0 0
  · have hp := wPl_lt hW h0 p h
    simp only [h0, if_true]
    simp (disch := omega) only [↓reduceIte, Option.bind_some, jn, lets, Sum.elim_inl, Sum.elim_inr, if_true, if_false, rd_nI, wr_nI, rd_z, rd_o, wr_z, wr_o, nI_1, nI_add, pk_mul, nI_leI, nI_ltI, nI_eq, z_le, le_z, z_lt, lt_z, eq_z, eq_o, le_o, o_le, lt_o, o_lt, eq_m1, eq_m2, m1_eq, m2_eq, m1_lt, m1_le, o_z, z_o, m1_z, m1_o, m2_z, m2_o, m2_m1, z_lz, z_lo, o_lz, o_ez, z_ez, z_eo, m2_lt, m2_le, leF, leT, ltF, ltT, eqF, eqT, bI_z, bI_o, sh1, sh0, not_true_eq_false, not_false_eq_true, ne_eq, Bool.true_eq_false, Bool.false_eq_true, true_and, and_true, false_and, and_false, l_2, l_3, l_4, l_5, l_6, l_7, l_8, l_9, l_10, l_11, l_12, l_13, l_14, l_15, l_16, l_17, l_18, l_19, l_20, l_21, l_22, l_23, l_24, l_25, l_26, l_27, l_28, l_29, l_30, l_32, l_33, l_34, l_35, l_36, l_37, l_38, l_39, l_50, l_60, l_99, l_100, l_150, l_160, l_240, l_250, l_300, l_400, l_402, l_403, l_420, l_500, l_600, l_840, l_1000, l_1024, l_2000, l_2047, l_2048, l_10000, l_25600, l_500000, g_sta hC]
  · simp only [h0, if_false]
    simp (disch := omega) only [↓reduceIte, Option.bind_some, jn, lets, Sum.elim_inl, Sum.elim_inr, if_true, if_false, rd_nI, wr_nI, rd_z, rd_o, wr_z, wr_o, nI_1, nI_add, pk_mul, nI_leI, nI_ltI, nI_eq, z_le, le_z, z_lt, lt_z, eq_z, eq_o, le_o, o_le, lt_o, o_lt, eq_m1, eq_m2, m1_eq, m2_eq, m1_lt, m1_le, o_z, z_o, m1_z, m1_o, m2_z, m2_o, m2_m1, z_lz, z_lo, o_lz, o_ez, z_ez, z_eo, m2_lt, m2_le, leF, leT, ltF, ltT, eqF, eqT, bI_z, bI_o, sh1, sh0, not_true_eq_false, not_false_eq_true, ne_eq, Bool.true_eq_false, Bool.false_eq_true, true_and, and_true, false_and, and_false, l_2, l_3, l_4, l_5, l_6, l_7, l_8, l_9, l_10, l_11, l_12, l_13, l_14, l_15, l_16, l_17, l_18, l_19, l_20, l_21, l_22, l_23, l_24, l_25, l_26, l_27, l_28, l_29, l_30, l_32, l_33, l_34, l_35, l_36, l_37, l_38, l_39, l_50, l_60, l_99, l_100, l_150, l_160, l_240, l_250, l_300, l_400, l_402, l_403, l_420, l_500, l_600, l_840, l_1000, l_1024, l_2000, l_2047, l_2048, l_10000, l_25600, l_500000]
    rw [bs_congr (Q := fun _ => false) (fun i _ => wStand_0 (by omega)), bs_false]
theorem c_hearers (hC : CW W V w S) (hW : WF W) {p h : Nat} (hh : h < 24) : E_X10_hearers n S w (plI W p h) (nI h) = some (bs (wHear W nD (wPl W p h) h) (W 0 1)) := by
  have hm0 : W 0 0 ≤ 6 := hW.mx (k := 0) (by decide)
  unfold E_X10_hearers plI
  by_cases h0 : 0 < W 0 0
  · have hp := wPl_lt hW h0 p h
    simp only [h0, if_true]
    simp (disch := omega) only [↓reduceIte, Option.bind_some, jn, lets, Sum.elim_inl, Sum.elim_inr, if_true, if_false, rd_nI, wr_nI, rd_z, rd_o, wr_z, wr_o, nI_1, nI_add, pk_mul, nI_leI, nI_ltI, nI_eq, z_le, le_z, z_lt, lt_z, eq_z, eq_o, le_o, o_le, lt_o, o_lt, eq_m1, eq_m2, m1_eq, m2_eq, m1_lt, m1_le, o_z, z_o, m1_z, m1_o, m2_z, m2_o, m2_m1, z_lz, z_lo, o_lz, o_ez, z_ez, z_eo, m2_lt, m2_le, leF, leT, ltF, ltT, eqF, eqT, bI_z, bI_o, sh1, sh0, not_true_eq_false, not_false_eq_true, ne_eq, Bool.true_eq_false, Bool.false_eq_true, true_and, and_true, false_and, and_false, l_2, l_3, l_4, l_5, l_6, l_7, l_8, l_9, l_10, l_11, l_12, l_13, l_14, l_15, l_16, l_17, l_18, l_19, l_20, l_21, l_22, l_23, l_24, l_25, l_26, l_27, l_28, l_29, l_30, l_32, l_33, l_34, l_35, l_36, l_37, l_38, l_39, l_50, l_60, l_99, l_100, l_150, l_160, l_240, l_250, l_300, l_400, l_402, l_403, l_420, l_500, l_600, l_840, l_1000, l_1024, l_2000, l_2047, l_2048, l_10000, l_25600, l_500000, g_hea hC]
  · simp only [h0, if_false]
    simp (disch := omega) only [↓reduceIte, Option.bind_some, jn, lets, Sum.elim_inl, Sum.elim_inr, if_true, if_false, rd_nI, wr_nI, rd_z, rd_o, wr_z, wr_o, nI_1, nI_add, pk_mul, nI_leI, nI_ltI, nI_eq, z_le, le_z, z_lt, lt_z, eq_z, eq_o, le_o, o_le, lt_o, o_lt, eq_m1, eq_m2, m1_eq, m2_eq, m1_lt, m1_le, o_z, z_o, m1_z, m1_o, m2_z, m2_o, m2_m1, z_lz, z_lo, o_lz, o_ez, z_ez, z_eo, m2_lt, m2_le, leF, leT, ltF, ltT, eqF, eqT, bI_z, bI_o, sh1, sh0, not_true_eq_false, not_false_eq_true, ne_eq, Bool.true_eq_false, Bool.false_eq_true, true_and, and_true, false_and, and_false, l_2, l_3, l_4, l_5, l_6, l_7, l_8, l_9, l_10, l_11, l_12, l_13, l_14, l_15, l_16, l_17, l_18, l_19, l_20, l_21, l_22, l_23, l_24, l_25, l_26, l_27, l_28, l_29, l_30, l_32, l_33, l_34, l_35, l_36, l_37, l_38, l_39, l_50, l_60, l_99, l_100, l_150, l_160, l_240, l_250, l_300, l_400, l_402, l_403, l_420, l_500, l_600, l_840, l_1000, l_1024, l_2000, l_2047, l_2048, l_10000, l_25600, l_500000]
    rw [bs_congr (Q := fun _ => false) (fun i _ => wHear_0 (by omega)), bs_false]
theorem c_hearersN (hC : CW W V w S) (hW : WF W) {a h : Nat} (ha : a < W 0 0) (hh : h < 24) : E_X10_hearers n S w (nI a) (nI h) = some (bs (wHear W nD a h) (W 0 1)) := by
  have hm0 : W 0 0 ≤ 6 := hW.mx (k := 0) (by decide)
  unfold E_X10_hearers
  simp (disch := omega) only [↓reduceIte, Option.bind_some, jn, lets, Sum.elim_inl, Sum.elim_inr, if_true, if_false, rd_nI, wr_nI, rd_z, rd_o, wr_z, wr_o, nI_1, nI_add, pk_mul, nI_leI, nI_ltI, nI_eq, z_le, le_z, z_lt, lt_z, eq_z, eq_o, le_o, o_le, lt_o, o_lt, eq_m1, eq_m2, m1_eq, m2_eq, m1_lt, m1_le, o_z, z_o, m1_z, m1_o, m2_z, m2_o, m2_m1, z_lz, z_lo, o_lz, o_ez, z_ez, z_eo, m2_lt, m2_le, leF, leT, ltF, ltT, eqF, eqT, bI_z, bI_o, sh1, sh0, not_true_eq_false, not_false_eq_true, ne_eq, Bool.true_eq_false, Bool.false_eq_true, true_and, and_true, false_and, and_false, l_2, l_3, l_4, l_5, l_6, l_7, l_8, l_9, l_10, l_11, l_12, l_13, l_14, l_15, l_16, l_17, l_18, l_19, l_20, l_21, l_22, l_23, l_24, l_25, l_26, l_27, l_28, l_29, l_30, l_32, l_33, l_34, l_35, l_36, l_37, l_38, l_39, l_50, l_60, l_99, l_100, l_150, l_160, l_240, l_250, l_300, l_400, l_402, l_403, l_420, l_500, l_600, l_840, l_1000, l_1024, l_2000, l_2047, l_2048, l_10000, l_25600, l_500000, g_hea hC]
theorem c_ageAt (hC : CW W V w S) (hW : WF W) {p h : Nat} (hp : p < W 0 1) (hh : h < 1000) : E_X10_ageAt n S w (nI p) (nI h) = some (nI (wAge W p h)) := by
  have hm1 : W 0 1 ≤ 10 := hW.mx (k := 1) (by decide)
  have hb := (hW.2.1 p hp).2
  unfold E_X10_ageAt wAge
  by_cases c : W 2 p ≤ h
  · simp (disch := omega) only [↓reduceIte, Option.bind_some, jn, lets, Sum.elim_inl, Sum.elim_inr, if_true, if_false, rd_nI, wr_nI, rd_z, rd_o, wr_z, wr_o, nI_1, nI_add, pk_mul, nI_leI, nI_ltI, nI_eq, z_le, le_z, z_lt, lt_z, eq_z, eq_o, le_o, o_le, lt_o, o_lt, eq_m1, eq_m2, m1_eq, m2_eq, m1_lt, m1_le, o_z, z_o, m1_z, m1_o, m2_z, m2_o, m2_m1, z_lz, z_lo, o_lz, o_ez, z_ez, z_eo, m2_lt, m2_le, leF, leT, ltF, ltT, eqF, eqT, bI_z, bI_o, sh1, sh0, not_true_eq_false, not_false_eq_true, ne_eq, Bool.true_eq_false, Bool.false_eq_true, true_and, and_true, false_and, and_false, l_2, l_3, l_4, l_5, l_6, l_7, l_8, l_9, l_10, l_11, l_12, l_13, l_14, l_15, l_16, l_17, l_18, l_19, l_20, l_21, l_22, l_23, l_24, l_25, l_26, l_27, l_28, l_29, l_30, l_32, l_33, l_34, l_35, l_36, l_37, l_38, l_39, l_50, l_60, l_99, l_100, l_150, l_160, l_240, l_250, l_300, l_400, l_402, l_403, l_420, l_500, l_600, l_840, l_1000, l_1024, l_2000, l_2047, l_2048, l_10000, l_25600, l_500000, g_bir hC, g_age hC, c]
  · simp (disch := omega) only [↓reduceIte, Option.bind_some, jn, lets, Sum.elim_inl, Sum.elim_inr, if_true, if_false, rd_nI, wr_nI, rd_z, rd_o, wr_z, wr_o, nI_1, nI_add, pk_mul, nI_leI, nI_ltI, nI_eq, z_le, le_z, z_lt, lt_z, eq_z, eq_o, le_o, o_le, lt_o, o_lt, eq_m1, eq_m2, m1_eq, m2_eq, m1_lt, m1_le, o_z, z_o, m1_z, m1_o, m2_z, m2_o, m2_m1, z_lz, z_lo, o_lz, o_ez, z_ez, z_eo, m2_lt, m2_le, leF, leT, ltF, ltT, eqF, eqT, bI_z, bI_o, sh1, sh0, not_true_eq_false, not_false_eq_true, ne_eq, Bool.true_eq_false, Bool.false_eq_true, true_and, and_true, false_and, and_false, l_2, l_3, l_4, l_5, l_6, l_7, l_8, l_9, l_10, l_11, l_12, l_13, l_14, l_15, l_16, l_17, l_18, l_19, l_20, l_21, l_22, l_23, l_24, l_25, l_26, l_27, l_28, l_29, l_30, l_32, l_33, l_34, l_35, l_36, l_37, l_38, l_39, l_50, l_60, l_99, l_100, l_150, l_160, l_240, l_250, l_300, l_400, l_402, l_403, l_420, l_500, l_600, l_840, l_1000, l_1024, l_2000, l_2047, l_2048, l_10000, l_25600, l_500000, g_bir hC, g_age hC, c]
    rfl
theorem c_sayTo (hC : CW W V w S) (hW : WF W) {p h : Nat} (hp : p < W 0 1) (hh : h < 24) : E_X10_sayTo n S w (nI p) (nI h) = some (bs (fun o => wMay W V nD p o h 0) (W 0 1)) := by
  have hm1 : W 0 1 ≤ 10 := hW.mx (k := 1) (by decide)
  unfold E_X10_sayTo
  simp (disch := omega) only [↓reduceIte, Option.bind_some, jn, lets, Sum.elim_inl, Sum.elim_inr, if_true, if_false, rd_nI, wr_nI, rd_z, rd_o, wr_z, wr_o, nI_1, nI_add, pk_mul, nI_leI, nI_ltI, nI_eq, z_le, le_z, z_lt, lt_z, eq_z, eq_o, le_o, o_le, lt_o, o_lt, eq_m1, eq_m2, m1_eq, m2_eq, m1_lt, m1_le, o_z, z_o, m1_z, m1_o, m2_z, m2_o, m2_m1, z_lz, z_lo, o_lz, o_ez, z_ez, z_eo, m2_lt, m2_le, leF, leT, ltF, ltT, eqF, eqT, bI_z, bI_o, sh1, sh0, not_true_eq_false, not_false_eq_true, ne_eq, Bool.true_eq_false, Bool.false_eq_true, true_and, and_true, false_and, and_false, l_2, l_3, l_4, l_5, l_6, l_7, l_8, l_9, l_10, l_11, l_12, l_13, l_14, l_15, l_16, l_17, l_18, l_19, l_20, l_21, l_22, l_23, l_24, l_25, l_26, l_27, l_28, l_29, l_30, l_32, l_33, l_34, l_35, l_36, l_37, l_38, l_39, l_50, l_60, l_99, l_100, l_150, l_160, l_240, l_250, l_300, l_400, l_402, l_403, l_420, l_500, l_600, l_840, l_1000, l_1024, l_2000, l_2047, l_2048, l_10000, l_25600, l_500000, g_say hC]
theorem c_allow {l : Nat} (hC : CLw V W l S) (hW : WF W) (hn : 30000 ≤ n) {s m y h c : Nat} (hs : s < 2) (hm : m < 1000) (hy : y < 1000) : Ok (E_X4_allow n S l (nI s) (nI m) (nI y) (nI h) (nI c)) (fun r => r.1 = bI (if W 0 (9 + s) = 0 then s == 1 || decide (m ≤ y) else anyN (fun k => V s k (nI m) (nI y) (nI h) (nI c)) (W 0 (9 + s))) ∧ Df (XA l) S r.2) := by
  have hx : W 0 (9 + s) ≤ 4 := by
    rcases (show s = 0 ∨ s = 1 by omega) with rfl | rfl
    · exact hW.mx (k := 9) (by decide)
    · exact hW.mx (k := 10) (by decide)
  unfold E_X4_allow
  refine jnH1 (fun u => u = nI s) ?_ ?_
  · rintro u rfl
    by_cases c8 : W 0 (9 + s) = 0
    · rw [if_pos c8]
      by_cases c9 : s = 1
      · subst c9
        (repeat (first | ((with_reducible apply Ok.step); · ((try simp (disch := omega) only [↓reduceIte, Option.bind_some, Sum.elim_inl, Sum.elim_inr, if_true, if_false, rd_nI, wr_nI, rd_z, rd_o, wr_z, wr_o, nI_1, nI_add, pk_mul, nI_leI, nI_ltI, nI_eq, z_le, le_z, z_lt, lt_z, eq_z, eq_o, le_o, o_le, lt_o, o_lt, eq_m1, eq_m2, m1_eq, m2_eq, m1_lt, m1_le, o_z, z_o, m1_z, m1_o, m2_z, m2_o, m2_m1, z_lz, z_lo, o_lz, o_ez, z_ez, z_eo, m2_lt, m2_le, leF, leT, ltF, ltT, eqF, eqT, bI_z, bI_o, sh1, sh0, not_true_eq_false, not_false_eq_true, ne_eq, Bool.true_eq_false, Bool.false_eq_true, true_and, and_true, false_and, and_false, l_2, l_3, l_4, l_5, l_6, l_7, l_8, l_9, l_10, l_11, l_12, l_13, l_14, l_15, l_16, l_17, l_18, l_19, l_20, l_21, l_22, l_23, l_24, l_25, l_26, l_27, l_28, l_29, l_30, l_32, l_33, l_34, l_35, l_36, l_37, l_38, l_39, l_50, l_60, l_99, l_100, l_150, l_160, l_240, l_250, l_300, l_400, l_402, l_403, l_420, l_500, l_600, l_840, l_1000, l_1024, l_2000, l_2047, l_2048, l_10000, l_25600, l_500000, hC.1, c8]); with_reducible exact rfl)) | ((with_reducible apply Ok.ifT); · (first | (simp (disch := omega) only [↓reduceIte, Option.bind_some, Sum.elim_inl, Sum.elim_inr, if_true, if_false, rd_nI, wr_nI, rd_z, rd_o, wr_z, wr_o, nI_1, nI_add, pk_mul, nI_leI, nI_ltI, nI_eq, z_le, le_z, z_lt, lt_z, eq_z, eq_o, le_o, o_le, lt_o, o_lt, eq_m1, eq_m2, m1_eq, m2_eq, m1_lt, m1_le, o_z, z_o, m1_z, m1_o, m2_z, m2_o, m2_m1, z_lz, z_lo, o_lz, o_ez, z_ez, z_eo, m2_lt, m2_le, leF, leT, ltF, ltT, eqF, eqT, bI_z, bI_o, sh1, sh0, not_true_eq_false, not_false_eq_true, ne_eq, Bool.true_eq_false, Bool.false_eq_true, true_and, and_true, false_and, and_false, l_2, l_3, l_4, l_5, l_6, l_7, l_8, l_9, l_10, l_11, l_12, l_13, l_14, l_15, l_16, l_17, l_18, l_19, l_20, l_21, l_22, l_23, l_24, l_25, l_26, l_27, l_28, l_29, l_30, l_32, l_33, l_34, l_35, l_36, l_37, l_38, l_39, l_50, l_60, l_99, l_100, l_150, l_160, l_240, l_250, l_300, l_400, l_402, l_403, l_420, l_500, l_600, l_840, l_1000, l_1024, l_2000, l_2047, l_2048, l_10000, l_25600, l_500000, hC.1, c8]; done) | omega)) | ((with_reducible apply Ok.ifF); · (first | (simp (disch := omega) only [↓reduceIte, Option.bind_some, Sum.elim_inl, Sum.elim_inr, if_true, if_false, rd_nI, wr_nI, rd_z, rd_o, wr_z, wr_o, nI_1, nI_add, pk_mul, nI_leI, nI_ltI, nI_eq, z_le, le_z, z_lt, lt_z, eq_z, eq_o, le_o, o_le, lt_o, o_lt, eq_m1, eq_m2, m1_eq, m2_eq, m1_lt, m1_le, o_z, z_o, m1_z, m1_o, m2_z, m2_o, m2_m1, z_lz, z_lo, o_lz, o_ez, z_ez, z_eo, m2_lt, m2_le, leF, leT, ltF, ltT, eqF, eqT, bI_z, bI_o, sh1, sh0, not_true_eq_false, not_false_eq_true, ne_eq, Bool.true_eq_false, Bool.false_eq_true, true_and, and_true, false_and, and_false, l_2, l_3, l_4, l_5, l_6, l_7, l_8, l_9, l_10, l_11, l_12, l_13, l_14, l_15, l_16, l_17, l_18, l_19, l_20, l_21, l_22, l_23, l_24, l_25, l_26, l_27, l_28, l_29, l_30, l_32, l_33, l_34, l_35, l_36, l_37, l_38, l_39, l_50, l_60, l_99, l_100, l_150, l_160, l_240, l_250, l_300, l_400, l_402, l_403, l_420, l_500, l_600, l_840, l_1000, l_1024, l_2000, l_2047, l_2048, l_10000, l_25600, l_500000, hC.1, c8]; done) | omega)) | with_reducible apply Ok.jnU | with_reducible apply Ok.letsU | with_reducible apply Ok.elL | with_reducible apply Ok.elR | ((with_reducible apply Ok.gdT); · exact bI_nar _)))
        exact Ok.ret ⟨by simp [bI], Df.refl _ _⟩
      · by_cases c10 : m ≤ y
        · (repeat (first | ((with_reducible apply Ok.step); · ((try simp (disch := omega) only [↓reduceIte, Option.bind_some, Sum.elim_inl, Sum.elim_inr, if_true, if_false, rd_nI, wr_nI, rd_z, rd_o, wr_z, wr_o, nI_1, nI_add, pk_mul, nI_leI, nI_ltI, nI_eq, z_le, le_z, z_lt, lt_z, eq_z, eq_o, le_o, o_le, lt_o, o_lt, eq_m1, eq_m2, m1_eq, m2_eq, m1_lt, m1_le, o_z, z_o, m1_z, m1_o, m2_z, m2_o, m2_m1, z_lz, z_lo, o_lz, o_ez, z_ez, z_eo, m2_lt, m2_le, leF, leT, ltF, ltT, eqF, eqT, bI_z, bI_o, sh1, sh0, not_true_eq_false, not_false_eq_true, ne_eq, Bool.true_eq_false, Bool.false_eq_true, true_and, and_true, false_and, and_false, l_2, l_3, l_4, l_5, l_6, l_7, l_8, l_9, l_10, l_11, l_12, l_13, l_14, l_15, l_16, l_17, l_18, l_19, l_20, l_21, l_22, l_23, l_24, l_25, l_26, l_27, l_28, l_29, l_30, l_32, l_33, l_34, l_35, l_36, l_37, l_38, l_39, l_50, l_60, l_99, l_100, l_150, l_160, l_240, l_250, l_300, l_400, l_402, l_403, l_420, l_500, l_600, l_840, l_1000, l_1024, l_2000, l_2047, l_2048, l_10000, l_25600, l_500000, hC.1, c8, c9, c10]); with_reducible exact rfl)) | ((with_reducible apply Ok.ifT); · (first | (simp (disch := omega) only [↓reduceIte, Option.bind_some, Sum.elim_inl, Sum.elim_inr, if_true, if_false, rd_nI, wr_nI, rd_z, rd_o, wr_z, wr_o, nI_1, nI_add, pk_mul, nI_leI, nI_ltI, nI_eq, z_le, le_z, z_lt, lt_z, eq_z, eq_o, le_o, o_le, lt_o, o_lt, eq_m1, eq_m2, m1_eq, m2_eq, m1_lt, m1_le, o_z, z_o, m1_z, m1_o, m2_z, m2_o, m2_m1, z_lz, z_lo, o_lz, o_ez, z_ez, z_eo, m2_lt, m2_le, leF, leT, ltF, ltT, eqF, eqT, bI_z, bI_o, sh1, sh0, not_true_eq_false, not_false_eq_true, ne_eq, Bool.true_eq_false, Bool.false_eq_true, true_and, and_true, false_and, and_false, l_2, l_3, l_4, l_5, l_6, l_7, l_8, l_9, l_10, l_11, l_12, l_13, l_14, l_15, l_16, l_17, l_18, l_19, l_20, l_21, l_22, l_23, l_24, l_25, l_26, l_27, l_28, l_29, l_30, l_32, l_33, l_34, l_35, l_36, l_37, l_38, l_39, l_50, l_60, l_99, l_100, l_150, l_160, l_240, l_250, l_300, l_400, l_402, l_403, l_420, l_500, l_600, l_840, l_1000, l_1024, l_2000, l_2047, l_2048, l_10000, l_25600, l_500000, hC.1, c8, c9, c10]; done) | omega)) | ((with_reducible apply Ok.ifF); · (first | (simp (disch := omega) only [↓reduceIte, Option.bind_some, Sum.elim_inl, Sum.elim_inr, if_true, if_false, rd_nI, wr_nI, rd_z, rd_o, wr_z, wr_o, nI_1, nI_add, pk_mul, nI_leI, nI_ltI, nI_eq, z_le, le_z, z_lt, lt_z, eq_z, eq_o, le_o, o_le, lt_o, o_lt, eq_m1, eq_m2, m1_eq, m2_eq, m1_lt, m1_le, o_z, z_o, m1_z, m1_o, m2_z, m2_o, m2_m1, z_lz, z_lo, o_lz, o_ez, z_ez, z_eo, m2_lt, m2_le, leF, leT, ltF, ltT, eqF, eqT, bI_z, bI_o, sh1, sh0, not_true_eq_false, not_false_eq_true, ne_eq, Bool.true_eq_false, Bool.false_eq_true, true_and, and_true, false_and, and_false, l_2, l_3, l_4, l_5, l_6, l_7, l_8, l_9, l_10, l_11, l_12, l_13, l_14, l_15, l_16, l_17, l_18, l_19, l_20, l_21, l_22, l_23, l_24, l_25, l_26, l_27, l_28, l_29, l_30, l_32, l_33, l_34, l_35, l_36, l_37, l_38, l_39, l_50, l_60, l_99, l_100, l_150, l_160, l_240, l_250, l_300, l_400, l_402, l_403, l_420, l_500, l_600, l_840, l_1000, l_1024, l_2000, l_2047, l_2048, l_10000, l_25600, l_500000, hC.1, c8, c9, c10]; done) | omega)) | with_reducible apply Ok.jnU | with_reducible apply Ok.letsU | with_reducible apply Ok.elL | with_reducible apply Ok.elR | ((with_reducible apply Ok.gdT); · exact bI_nar _)))
          exact Ok.ret ⟨by simp [c9, c10, bI], Df.refl _ _⟩
        · (repeat (first | ((with_reducible apply Ok.step); · ((try simp (disch := omega) only [↓reduceIte, Option.bind_some, Sum.elim_inl, Sum.elim_inr, if_true, if_false, rd_nI, wr_nI, rd_z, rd_o, wr_z, wr_o, nI_1, nI_add, pk_mul, nI_leI, nI_ltI, nI_eq, z_le, le_z, z_lt, lt_z, eq_z, eq_o, le_o, o_le, lt_o, o_lt, eq_m1, eq_m2, m1_eq, m2_eq, m1_lt, m1_le, o_z, z_o, m1_z, m1_o, m2_z, m2_o, m2_m1, z_lz, z_lo, o_lz, o_ez, z_ez, z_eo, m2_lt, m2_le, leF, leT, ltF, ltT, eqF, eqT, bI_z, bI_o, sh1, sh0, not_true_eq_false, not_false_eq_true, ne_eq, Bool.true_eq_false, Bool.false_eq_true, true_and, and_true, false_and, and_false, l_2, l_3, l_4, l_5, l_6, l_7, l_8, l_9, l_10, l_11, l_12, l_13, l_14, l_15, l_16, l_17, l_18, l_19, l_20, l_21, l_22, l_23, l_24, l_25, l_26, l_27, l_28, l_29, l_30, l_32, l_33, l_34, l_35, l_36, l_37, l_38, l_39, l_50, l_60, l_99, l_100, l_150, l_160, l_240, l_250, l_300, l_400, l_402, l_403, l_420, l_500, l_600, l_840, l_1000, l_1024, l_2000, l_2047, l_2048, l_10000, l_25600, l_500000, hC.1, c8, c9, c10]); with_reducible exact rfl)) | ((with_reducible apply Ok.ifT); · (first | (simp (disch := omega) only [↓reduceIte, Option.bind_some, Sum.elim_inl, Sum.elim_inr, if_true, if_false, rd_nI, wr_nI, rd_z, rd_o, wr_z, wr_o, nI_1, nI_add, pk_mul, nI_leI, nI_ltI, nI_eq, z_le, le_z, z_lt, lt_z, eq_z, eq_o, le_o, o_le, lt_o, o_lt, eq_m1, eq_m2, m1_eq, m2_eq, m1_lt, m1_le, o_z, z_o, m1_z, m1_o, m2_z, m2_o, m2_m1, z_lz, z_lo, o_lz, o_ez, z_ez, z_eo, m2_lt, m2_le, leF, leT, ltF, ltT, eqF, eqT, bI_z, bI_o, sh1, sh0, not_true_eq_false, not_false_eq_true, ne_eq, Bool.true_eq_false, Bool.false_eq_true, true_and, and_true, false_and, and_false, l_2, l_3, l_4, l_5, l_6, l_7, l_8, l_9, l_10, l_11, l_12, l_13, l_14, l_15, l_16, l_17, l_18, l_19, l_20, l_21, l_22, l_23, l_24, l_25, l_26, l_27, l_28, l_29, l_30, l_32, l_33, l_34, l_35, l_36, l_37, l_38, l_39, l_50, l_60, l_99, l_100, l_150, l_160, l_240, l_250, l_300, l_400, l_402, l_403, l_420, l_500, l_600, l_840, l_1000, l_1024, l_2000, l_2047, l_2048, l_10000, l_25600, l_500000, hC.1, c8, c9, c10]; done) | omega)) | ((with_reducible apply Ok.ifF); · (first | (simp (disch := omega) only [↓reduceIte, Option.bind_some, Sum.elim_inl, Sum.elim_inr, if_true, if_false, rd_nI, wr_nI, rd_z, rd_o, wr_z, wr_o, nI_1, nI_add, pk_mul, nI_leI, nI_ltI, nI_eq, z_le, le_z, z_lt, lt_z, eq_z, eq_o, le_o, o_le, lt_o, o_lt, eq_m1, eq_m2, m1_eq, m2_eq, m1_lt, m1_le, o_z, z_o, m1_z, m1_o, m2_z, m2_o, m2_m1, z_lz, z_lo, o_lz, o_ez, z_ez, z_eo, m2_lt, m2_le, leF, leT, ltF, ltT, eqF, eqT, bI_z, bI_o, sh1, sh0, not_true_eq_false, not_false_eq_true, ne_eq, Bool.true_eq_false, Bool.false_eq_true, true_and, and_true, false_and, and_false, l_2, l_3, l_4, l_5, l_6, l_7, l_8, l_9, l_10, l_11, l_12, l_13, l_14, l_15, l_16, l_17, l_18, l_19, l_20, l_21, l_22, l_23, l_24, l_25, l_26, l_27, l_28, l_29, l_30, l_32, l_33, l_34, l_35, l_36, l_37, l_38, l_39, l_50, l_60, l_99, l_100, l_150, l_160, l_240, l_250, l_300, l_400, l_402, l_403, l_420, l_500, l_600, l_840, l_1000, l_1024, l_2000, l_2047, l_2048, l_10000, l_25600, l_500000, hC.1, c8, c9, c10]; done) | omega)) | with_reducible apply Ok.jnU | with_reducible apply Ok.letsU | with_reducible apply Ok.elL | with_reducible apply Ok.elR | ((with_reducible apply Ok.gdT); · exact bI_nar _)))
          exact Ok.ret ⟨by simp [c9, c10, bI], Df.refl _ _⟩
    rw [if_neg c8]
    (repeat (first | ((with_reducible apply Ok.step); · ((try simp (disch := omega) only [↓reduceIte, Option.bind_some, Sum.elim_inl, Sum.elim_inr, if_true, if_false, rd_nI, wr_nI, rd_z, rd_o, wr_z, wr_o, nI_1, nI_add, pk_mul, nI_leI, nI_ltI, nI_eq, z_le, le_z, z_lt, lt_z, eq_z, eq_o, le_o, o_le, lt_o, o_lt, eq_m1, eq_m2, m1_eq, m2_eq, m1_lt, m1_le, o_z, z_o, m1_z, m1_o, m2_z, m2_o, m2_m1, z_lz, z_lo, o_lz, o_ez, z_ez, z_eo, m2_lt, m2_le, leF, leT, ltF, ltT, eqF, eqT, bI_z, bI_o, sh1, sh0, not_true_eq_false, not_false_eq_true, ne_eq, Bool.true_eq_false, Bool.false_eq_true, true_and, and_true, false_and, and_false, l_2, l_3, l_4, l_5, l_6, l_7, l_8, l_9, l_10, l_11, l_12, l_13, l_14, l_15, l_16, l_17, l_18, l_19, l_20, l_21, l_22, l_23, l_24, l_25, l_26, l_27, l_28, l_29, l_30, l_32, l_33, l_34, l_35, l_36, l_37, l_38, l_39, l_50, l_60, l_99, l_100, l_150, l_160, l_240, l_250, l_300, l_400, l_402, l_403, l_420, l_500, l_600, l_840, l_1000, l_1024, l_2000, l_2047, l_2048, l_10000, l_25600, l_500000, hC.1, c8]); with_reducible exact rfl)) | ((with_reducible apply Ok.ifT); · (first | (simp (disch := omega) only [↓reduceIte, Option.bind_some, Sum.elim_inl, Sum.elim_inr, if_true, if_false, rd_nI, wr_nI, rd_z, rd_o, wr_z, wr_o, nI_1, nI_add, pk_mul, nI_leI, nI_ltI, nI_eq, z_le, le_z, z_lt, lt_z, eq_z, eq_o, le_o, o_le, lt_o, o_lt, eq_m1, eq_m2, m1_eq, m2_eq, m1_lt, m1_le, o_z, z_o, m1_z, m1_o, m2_z, m2_o, m2_m1, z_lz, z_lo, o_lz, o_ez, z_ez, z_eo, m2_lt, m2_le, leF, leT, ltF, ltT, eqF, eqT, bI_z, bI_o, sh1, sh0, not_true_eq_false, not_false_eq_true, ne_eq, Bool.true_eq_false, Bool.false_eq_true, true_and, and_true, false_and, and_false, l_2, l_3, l_4, l_5, l_6, l_7, l_8, l_9, l_10, l_11, l_12, l_13, l_14, l_15, l_16, l_17, l_18, l_19, l_20, l_21, l_22, l_23, l_24, l_25, l_26, l_27, l_28, l_29, l_30, l_32, l_33, l_34, l_35, l_36, l_37, l_38, l_39, l_50, l_60, l_99, l_100, l_150, l_160, l_240, l_250, l_300, l_400, l_402, l_403, l_420, l_500, l_600, l_840, l_1000, l_1024, l_2000, l_2047, l_2048, l_10000, l_25600, l_500000, hC.1, c8]; done) | omega)) | ((with_reducible apply Ok.ifF); · (first | (simp (disch := omega) only [↓reduceIte, Option.bind_some, Sum.elim_inl, Sum.elim_inr, if_true, if_false, rd_nI, wr_nI, rd_z, rd_o, wr_z, wr_o, nI_1, nI_add, pk_mul, nI_leI, nI_ltI, nI_eq, z_le, le_z, z_lt, lt_z, eq_z, eq_o, le_o, o_le, lt_o, o_lt, eq_m1, eq_m2, m1_eq, m2_eq, m1_lt, m1_le, o_z, z_o, m1_z, m1_o, m2_z, m2_o, m2_m1, z_lz, z_lo, o_lz, o_ez, z_ez, z_eo, m2_lt, m2_le, leF, leT, ltF, ltT, eqF, eqT, bI_z, bI_o, sh1, sh0, not_true_eq_false, not_false_eq_true, ne_eq, Bool.true_eq_false, Bool.false_eq_true, true_and, and_true, false_and, and_false, l_2, l_3, l_4, l_5, l_6, l_7, l_8, l_9, l_10, l_11, l_12, l_13, l_14, l_15, l_16, l_17, l_18, l_19, l_20, l_21, l_22, l_23, l_24, l_25, l_26, l_27, l_28, l_29, l_30, l_32, l_33, l_34, l_35, l_36, l_37, l_38, l_39, l_50, l_60, l_99, l_100, l_150, l_160, l_240, l_250, l_300, l_400, l_402, l_403, l_420, l_500, l_600, l_840, l_1000, l_1024, l_2000, l_2047, l_2048, l_10000, l_25600, l_500000, hC.1, c8]; done) | omega)) | with_reducible apply Ok.jnU | with_reducible apply Ok.letsU | with_reducible apply Ok.elL | with_reducible apply Ok.elR | ((with_reducible apply Ok.gdT); · exact bI_nar _)))
    have d22 : Df (XA l) S (upI (upI (upI (upI S (l + 6) 0 (nI m)) (l + 6) 1 (nI y)) (l + 6) 2 (nI h)) (l + 6) 3 (nI c)) := ((((Df.refl _ _).up (by simp [XA])).up (by simp [XA])).up (by simp [XA])).up (by simp [XA])
    have hXA : ∀ {S' : ST}, Df (XA l) S S' → CLw V W l S' := fun d => hC.df d (fun a j h1 h2 => by
      simp only [XA, Bool.or_eq_false_iff, beq_eq_false_iff_ne]
      omega)
    generalize hVV : (fun k => V s k (nI m) (nI y) (nI h) (nI c)) = VV
    refine bindL (fun i q => q.1 = nI i ∧ Df (XA l) S q.2 ∧ (q.2.1 (l + 6) 0 = nI m ∧ q.2.1 (l + 6) 1 = nI y ∧ q.2.1 (l + 6) 2 = nI h ∧ q.2.1 (l + 6) 3 = nI c) ∧ ∀ j, j < i → VV j = false)
      (Sum.elim (fun S' => Df (XA l) S S' ∧ anyN VV (W 0 (9 + s)) = false) (fun r => r.1 = 1 ∧ Df (XA l) S r.2 ∧ anyN VV (W 0 (9 + s)) = true)) 0 (W 0 (9 + s)) (Nat.zero_le _) (by omega) ⟨rfl, d22, ⟨by simp [upI_at], by simp [upI_at], by simp [upI_at], by simp [upI_at]⟩, fun j hj => absurd hj (by omega)⟩ ?_ ?_ ?_
    · rintro i ⟨x, S1⟩ _ hi ⟨rfl, d1, ⟨v0, v1, v2, v3⟩, hf⟩
      dsimp only at v0 v1 v2 v3 d1 ⊢
      have hC1 := hXA d1
      obtain ⟨⟨v, S2⟩, e2, h2, d2⟩ := hC1.2 S1 n s i hn (fun _ _ _ _ => rfl) hs hi
      dsimp only at h2 d2
      rw [v0, v1, v2, v3] at h2
      have h3 : v = bI (VV i) := by rw [← hVV]; exact h2
      subst h3
      have dd : Df (XA l) S S2 := d1.trans (d2.mono (fun a j hx => by
        simp only [XA, Bool.or_eq_false_iff] at hx
        exact hx.2))
      cases hv : VV i
      · (repeat (first | ((with_reducible apply Ok.step); · ((try simp (disch := omega) only [↓reduceIte, Option.bind_some, Sum.elim_inl, Sum.elim_inr, if_true, if_false, rd_nI, wr_nI, rd_z, rd_o, wr_z, wr_o, nI_1, nI_add, pk_mul, nI_leI, nI_ltI, nI_eq, z_le, le_z, z_lt, lt_z, eq_z, eq_o, le_o, o_le, lt_o, o_lt, eq_m1, eq_m2, m1_eq, m2_eq, m1_lt, m1_le, o_z, z_o, m1_z, m1_o, m2_z, m2_o, m2_m1, z_lz, z_lo, o_lz, o_ez, z_ez, z_eo, m2_lt, m2_le, leF, leT, ltF, ltT, eqF, eqT, bI_z, bI_o, sh1, sh0, not_true_eq_false, not_false_eq_true, ne_eq, Bool.true_eq_false, Bool.false_eq_true, true_and, and_true, false_and, and_false, l_2, l_3, l_4, l_5, l_6, l_7, l_8, l_9, l_10, l_11, l_12, l_13, l_14, l_15, l_16, l_17, l_18, l_19, l_20, l_21, l_22, l_23, l_24, l_25, l_26, l_27, l_28, l_29, l_30, l_32, l_33, l_34, l_35, l_36, l_37, l_38, l_39, l_50, l_60, l_99, l_100, l_150, l_160, l_240, l_250, l_300, l_400, l_402, l_403, l_420, l_500, l_600, l_840, l_1000, l_1024, l_2000, l_2047, l_2048, l_10000, l_25600, l_500000, hC1.1, e2, hv]); with_reducible exact rfl)) | ((with_reducible apply Ok.ifT); · (first | (simp (disch := omega) only [↓reduceIte, Option.bind_some, Sum.elim_inl, Sum.elim_inr, if_true, if_false, rd_nI, wr_nI, rd_z, rd_o, wr_z, wr_o, nI_1, nI_add, pk_mul, nI_leI, nI_ltI, nI_eq, z_le, le_z, z_lt, lt_z, eq_z, eq_o, le_o, o_le, lt_o, o_lt, eq_m1, eq_m2, m1_eq, m2_eq, m1_lt, m1_le, o_z, z_o, m1_z, m1_o, m2_z, m2_o, m2_m1, z_lz, z_lo, o_lz, o_ez, z_ez, z_eo, m2_lt, m2_le, leF, leT, ltF, ltT, eqF, eqT, bI_z, bI_o, sh1, sh0, not_true_eq_false, not_false_eq_true, ne_eq, Bool.true_eq_false, Bool.false_eq_true, true_and, and_true, false_and, and_false, l_2, l_3, l_4, l_5, l_6, l_7, l_8, l_9, l_10, l_11, l_12, l_13, l_14, l_15, l_16, l_17, l_18, l_19, l_20, l_21, l_22, l_23, l_24, l_25, l_26, l_27, l_28, l_29, l_30, l_32, l_33, l_34, l_35, l_36, l_37, l_38, l_39, l_50, l_60, l_99, l_100, l_150, l_160, l_240, l_250, l_300, l_400, l_402, l_403, l_420, l_500, l_600, l_840, l_1000, l_1024, l_2000, l_2047, l_2048, l_10000, l_25600, l_500000, hC1.1, e2, hv]; done) | omega)) | ((with_reducible apply Ok.ifF); · (first | (simp (disch := omega) only [↓reduceIte, Option.bind_some, Sum.elim_inl, Sum.elim_inr, if_true, if_false, rd_nI, wr_nI, rd_z, rd_o, wr_z, wr_o, nI_1, nI_add, pk_mul, nI_leI, nI_ltI, nI_eq, z_le, le_z, z_lt, lt_z, eq_z, eq_o, le_o, o_le, lt_o, o_lt, eq_m1, eq_m2, m1_eq, m2_eq, m1_lt, m1_le, o_z, z_o, m1_z, m1_o, m2_z, m2_o, m2_m1, z_lz, z_lo, o_lz, o_ez, z_ez, z_eo, m2_lt, m2_le, leF, leT, ltF, ltT, eqF, eqT, bI_z, bI_o, sh1, sh0, not_true_eq_false, not_false_eq_true, ne_eq, Bool.true_eq_false, Bool.false_eq_true, true_and, and_true, false_and, and_false, l_2, l_3, l_4, l_5, l_6, l_7, l_8, l_9, l_10, l_11, l_12, l_13, l_14, l_15, l_16, l_17, l_18, l_19, l_20, l_21, l_22, l_23, l_24, l_25, l_26, l_27, l_28, l_29, l_30, l_32, l_33, l_34, l_35, l_36, l_37, l_38, l_39, l_50, l_60, l_99, l_100, l_150, l_160, l_240, l_250, l_300, l_400, l_402, l_403, l_420, l_500, l_600, l_840, l_1000, l_1024, l_2000, l_2047, l_2048, l_10000, l_25600, l_500000, hC1.1, e2, hv]; done) | omega)) | with_reducible apply Ok.jnU | with_reducible apply Ok.letsU | with_reducible apply Ok.elL | with_reducible apply Ok.elR | ((with_reducible apply Ok.gdT); · exact bI_nar _)))
        refine Ok.inl ⟨nI_1 _, dd, ?_, ?_⟩
        · have nx : ∀ j, Xc (l + 7) (l + 6) j = false := fun j => by simp [Xc]
          rw [← v0, ← v1, ← v2, ← v3]
          exact ⟨d2.2 _ _ (nx _), d2.2 _ _ (nx _), d2.2 _ _ (nx _), d2.2 _ _ (nx _)⟩
        · intro j hj
          by_cases ej : j = i
          · subst ej; exact hv
          · exact hf j (by omega)
      · (repeat (first | ((with_reducible apply Ok.step); · ((try simp (disch := omega) only [↓reduceIte, Option.bind_some, Sum.elim_inl, Sum.elim_inr, if_true, if_false, rd_nI, wr_nI, rd_z, rd_o, wr_z, wr_o, nI_1, nI_add, pk_mul, nI_leI, nI_ltI, nI_eq, z_le, le_z, z_lt, lt_z, eq_z, eq_o, le_o, o_le, lt_o, o_lt, eq_m1, eq_m2, m1_eq, m2_eq, m1_lt, m1_le, o_z, z_o, m1_z, m1_o, m2_z, m2_o, m2_m1, z_lz, z_lo, o_lz, o_ez, z_ez, z_eo, m2_lt, m2_le, leF, leT, ltF, ltT, eqF, eqT, bI_z, bI_o, sh1, sh0, not_true_eq_false, not_false_eq_true, ne_eq, Bool.true_eq_false, Bool.false_eq_true, true_and, and_true, false_and, and_false, l_2, l_3, l_4, l_5, l_6, l_7, l_8, l_9, l_10, l_11, l_12, l_13, l_14, l_15, l_16, l_17, l_18, l_19, l_20, l_21, l_22, l_23, l_24, l_25, l_26, l_27, l_28, l_29, l_30, l_32, l_33, l_34, l_35, l_36, l_37, l_38, l_39, l_50, l_60, l_99, l_100, l_150, l_160, l_240, l_250, l_300, l_400, l_402, l_403, l_420, l_500, l_600, l_840, l_1000, l_1024, l_2000, l_2047, l_2048, l_10000, l_25600, l_500000, hC1.1, e2, hv]); with_reducible exact rfl)) | ((with_reducible apply Ok.ifT); · (first | (simp (disch := omega) only [↓reduceIte, Option.bind_some, Sum.elim_inl, Sum.elim_inr, if_true, if_false, rd_nI, wr_nI, rd_z, rd_o, wr_z, wr_o, nI_1, nI_add, pk_mul, nI_leI, nI_ltI, nI_eq, z_le, le_z, z_lt, lt_z, eq_z, eq_o, le_o, o_le, lt_o, o_lt, eq_m1, eq_m2, m1_eq, m2_eq, m1_lt, m1_le, o_z, z_o, m1_z, m1_o, m2_z, m2_o, m2_m1, z_lz, z_lo, o_lz, o_ez, z_ez, z_eo, m2_lt, m2_le, leF, leT, ltF, ltT, eqF, eqT, bI_z, bI_o, sh1, sh0, not_true_eq_false, not_false_eq_true, ne_eq, Bool.true_eq_false, Bool.false_eq_true, true_and, and_true, false_and, and_false, l_2, l_3, l_4, l_5, l_6, l_7, l_8, l_9, l_10, l_11, l_12, l_13, l_14, l_15, l_16, l_17, l_18, l_19, l_20, l_21, l_22, l_23, l_24, l_25, l_26, l_27, l_28, l_29, l_30, l_32, l_33, l_34, l_35, l_36, l_37, l_38, l_39, l_50, l_60, l_99, l_100, l_150, l_160, l_240, l_250, l_300, l_400, l_402, l_403, l_420, l_500, l_600, l_840, l_1000, l_1024, l_2000, l_2047, l_2048, l_10000, l_25600, l_500000, hC1.1, e2, hv]; done) | omega)) | ((with_reducible apply Ok.ifF); · (first | (simp (disch := omega) only [↓reduceIte, Option.bind_some, Sum.elim_inl, Sum.elim_inr, if_true, if_false, rd_nI, wr_nI, rd_z, rd_o, wr_z, wr_o, nI_1, nI_add, pk_mul, nI_leI, nI_ltI, nI_eq, z_le, le_z, z_lt, lt_z, eq_z, eq_o, le_o, o_le, lt_o, o_lt, eq_m1, eq_m2, m1_eq, m2_eq, m1_lt, m1_le, o_z, z_o, m1_z, m1_o, m2_z, m2_o, m2_m1, z_lz, z_lo, o_lz, o_ez, z_ez, z_eo, m2_lt, m2_le, leF, leT, ltF, ltT, eqF, eqT, bI_z, bI_o, sh1, sh0, not_true_eq_false, not_false_eq_true, ne_eq, Bool.true_eq_false, Bool.false_eq_true, true_and, and_true, false_and, and_false, l_2, l_3, l_4, l_5, l_6, l_7, l_8, l_9, l_10, l_11, l_12, l_13, l_14, l_15, l_16, l_17, l_18, l_19, l_20, l_21, l_22, l_23, l_24, l_25, l_26, l_27, l_28, l_29, l_30, l_32, l_33, l_34, l_35, l_36, l_37, l_38, l_39, l_50, l_60, l_99, l_100, l_150, l_160, l_240, l_250, l_300, l_400, l_402, l_403, l_420, l_500, l_600, l_840, l_1000, l_1024, l_2000, l_2047, l_2048, l_10000, l_25600, l_500000, hC1.1, e2, hv]; done) | omega)) | with_reducible apply Ok.jnU | with_reducible apply Ok.letsU | with_reducible apply Ok.elL | with_reducible apply Ok.elR | ((with_reducible apply Ok.gdT); · exact bI_nar _)))
        exact Ok.inr ⟨rfl, dd, anyN_iff.mpr ⟨i, hi, hv⟩⟩
    · rintro ⟨x, S1⟩ ⟨rfl, d1, _, hf⟩
      dsimp only at d1 ⊢
      have hC1 := hXA d1
      (repeat (first | ((with_reducible apply Ok.step); · ((try simp (disch := omega) only [↓reduceIte, Option.bind_some, Sum.elim_inl, Sum.elim_inr, if_true, if_false, rd_nI, wr_nI, rd_z, rd_o, wr_z, wr_o, nI_1, nI_add, pk_mul, nI_leI, nI_ltI, nI_eq, z_le, le_z, z_lt, lt_z, eq_z, eq_o, le_o, o_le, lt_o, o_lt, eq_m1, eq_m2, m1_eq, m2_eq, m1_lt, m1_le, o_z, z_o, m1_z, m1_o, m2_z, m2_o, m2_m1, z_lz, z_lo, o_lz, o_ez, z_ez, z_eo, m2_lt, m2_le, leF, leT, ltF, ltT, eqF, eqT, bI_z, bI_o, sh1, sh0, not_true_eq_false, not_false_eq_true, ne_eq, Bool.true_eq_false, Bool.false_eq_true, true_and, and_true, false_and, and_false, l_2, l_3, l_4, l_5, l_6, l_7, l_8, l_9, l_10, l_11, l_12, l_13, l_14, l_15, l_16, l_17, l_18, l_19, l_20, l_21, l_22, l_23, l_24, l_25, l_26, l_27, l_28, l_29, l_30, l_32, l_33, l_34, l_35, l_36, l_37, l_38, l_39, l_50, l_60, l_99, l_100, l_150, l_160, l_240, l_250, l_300, l_400, l_402, l_403, l_420, l_500, l_600, l_840, l_1000, l_1024, l_2000, l_2047, l_2048, l_10000, l_25600, l_500000, hC1.1]); with_reducible exact rfl)) | ((with_reducible apply Ok.ifT); · (first | (simp (disch := omega) only [↓reduceIte, Option.bind_some, Sum.elim_inl, Sum.elim_inr, if_true, if_false, rd_nI, wr_nI, rd_z, rd_o, wr_z, wr_o, nI_1, nI_add, pk_mul, nI_leI, nI_ltI, nI_eq, z_le, le_z, z_lt, lt_z, eq_z, eq_o, le_o, o_le, lt_o, o_lt, eq_m1, eq_m2, m1_eq, m2_eq, m1_lt, m1_le, o_z, z_o, m1_z, m1_o, m2_z, m2_o, m2_m1, z_lz, z_lo, o_lz, o_ez, z_ez, z_eo, m2_lt, m2_le, leF, leT, ltF, ltT, eqF, eqT, bI_z, bI_o, sh1, sh0, not_true_eq_false, not_false_eq_true, ne_eq, Bool.true_eq_false, Bool.false_eq_true, true_and, and_true, false_and, and_false, l_2, l_3, l_4, l_5, l_6, l_7, l_8, l_9, l_10, l_11, l_12, l_13, l_14, l_15, l_16, l_17, l_18, l_19, l_20, l_21, l_22, l_23, l_24, l_25, l_26, l_27, l_28, l_29, l_30, l_32, l_33, l_34, l_35, l_36, l_37, l_38, l_39, l_50, l_60, l_99, l_100, l_150, l_160, l_240, l_250, l_300, l_400, l_402, l_403, l_420, l_500, l_600, l_840, l_1000, l_1024, l_2000, l_2047, l_2048, l_10000, l_25600, l_500000, hC1.1]; done) | omega)) | ((with_reducible apply Ok.ifF); · (first | (simp (disch := omega) only [↓reduceIte, Option.bind_some, Sum.elim_inl, Sum.elim_inr, if_true, if_false, rd_nI, wr_nI, rd_z, rd_o, wr_z, wr_o, nI_1, nI_add, pk_mul, nI_leI, nI_ltI, nI_eq, z_le, le_z, z_lt, lt_z, eq_z, eq_o, le_o, o_le, lt_o, o_lt, eq_m1, eq_m2, m1_eq, m2_eq, m1_lt, m1_le, o_z, z_o, m1_z, m1_o, m2_z, m2_o, m2_m1, z_lz, z_lo, o_lz, o_ez, z_ez, z_eo, m2_lt, m2_le, leF, leT, ltF, ltT, eqF, eqT, bI_z, bI_o, sh1, sh0, not_true_eq_false, not_false_eq_true, ne_eq, Bool.true_eq_false, Bool.false_eq_true, true_and, and_true, false_and, and_false, l_2, l_3, l_4, l_5, l_6, l_7, l_8, l_9, l_10, l_11, l_12, l_13, l_14, l_15, l_16, l_17, l_18, l_19, l_20, l_21, l_22, l_23, l_24, l_25, l_26, l_27, l_28, l_29, l_30, l_32, l_33, l_34, l_35, l_36, l_37, l_38, l_39, l_50, l_60, l_99, l_100, l_150, l_160, l_240, l_250, l_300, l_400, l_402, l_403, l_420, l_500, l_600, l_840, l_1000, l_1024, l_2000, l_2047, l_2048, l_10000, l_25600, l_500000, hC1.1]; done) | omega)) | with_reducible apply Ok.jnU | with_reducible apply Ok.letsU | with_reducible apply Ok.elL | with_reducible apply Ok.elR | ((with_reducible apply Ok.gdT); · exact bI_nar _)))
      exact Ok.inr ⟨d1, anyN_f.mpr hf⟩
    · rintro (S1 | ⟨v, S1⟩) hq
      · exact ⟨_, rfl, by rw [hq.2]; rfl, hq.1⟩
      · exact ⟨_, rfl, by rw [hq.2.2]; exact hq.1, hq.2.1⟩
  · intro J hJ
    rcases (show s = 0 ∨ s = 1 by omega) with rfl | rfl
    · exact Ok.ifT rfl (hJ _ rfl)
    · exact Ok.ifF (by decide) (hJ _ rfl)
theorem wStand_D {D : Nat → Bool} {x h : Nat} : (fun p => wStand W nD x h p && !D p) = wStand W D x h := by
  funext p
  simp only [wStand, wOn, nD]
  cases D p <;> cases decide (0 < W 0 0) <;> cases decide (wPl W p h = x) <;> rfl
theorem wHear_D {D : Nat → Bool} {x h : Nat} : (fun p => wHear W nD x h p && !D p) = wHear W D x h := by
  funext p
  simp only [wHear, wOn, nD]
  cases D p <;> cases decide (0 < W 0 0) <;> simp
theorem c_allows (hC : CW W V w S) (hW : WF W) (hn : 30000 ≤ n) {D : Nat → Bool} {p o h s : Nat} (hp : p < W 0 1) (ho : o < W 0 1) (hpo : p ≠ o) (hh : h < 24) (hs : s < 2) : Ok (E_X10_allows n S w (nI p) (nI o) (nI h) (nI s) (bs (fun p => !D p) (W 0 1))) (fun r => r.1 = bI (wMay W V D p o h s) ∧ Df (XA (w + 13)) S r.2) := by
  have hm1 : W 0 1 ≤ 10 := hW.mx (k := 1) (by decide)
  have ha1 := wAge_le hW (h := h) hp
  have ha2 := wAge_le hW (h := h) ho
  unfold E_X10_allows
  apply Ok.step (c_placeOf hC hW hp hh)
  apply Ok.step (c_standers hC hW hh)
  rw [bs_and (by omega), wStand_D]
  apply Ok.step (c_hasBit (by omega))
  rw [bt_lt (by omega) hp]
  have e1 : wStand W D (wPl W p h) h p = wOn W D p := by simp [wStand]
  rw [e1]
  by_cases c1 : wOn W D p = true
  case neg =>
    simp only [Bool.not_eq_true] at c1
    rw [c1]
    refine Ok.ifT rfl (Ok.ret ⟨?_, Df.refl _ _⟩)
    simp [wMay, wMayL, c1, bI]
  rw [c1]
  refine Ok.ifF (by decide) ?_
  apply Ok.step (c_hasBit (by omega))
  rw [bt_lt (by omega) ho]
  by_cases c2 : wStand W D (wPl W p h) h o = true
  case neg =>
    simp only [Bool.not_eq_true] at c2
    rw [c2]
    refine Ok.ifT rfl (Ok.ret ⟨?_, Df.refl _ _⟩)
    simp only [wStand, Bool.and_eq_false_iff] at c2
    rcases c2 with c2 | c2 <;> simp [wMay, wMayL, c2, bI]
  rw [c2]
  refine Ok.ifF (by decide) ?_
  simp only [wStand, Bool.and_eq_true, decide_eq_true_eq] at c2
  apply Ok.step (c_bitCount hm1)
  apply Ok.step (c_ageAt hC hW hp (by omega))
  apply Ok.step (c_ageAt hC hW ho (by omega))
  obtain ⟨⟨v, S2⟩, e2, h2, d2⟩ := c_allow (S := S) (n := n) (g_law hC) hW hn (s := s) (m := wAge W p h) (y := wAge W o h) (h := h) (c := cnt (wStand W D (wPl W p h) h) (W 0 1)) hs (by omega) (by omega)
  dsimp only at h2 d2
  subst h2
  apply Ok.step e2
  rw [gd_b]
  refine Ok.ret ⟨?_, d2⟩
  simp [wMay, wMayL, c1, c2.1, c2.2, hpo, wLaw]
end CWS
