/-! ===== the class does a doing, and goes through all hours ===== -/
section CG2
variable {W : VW} {V : VL} {P : PL} {N w c n : Nat} {S : ST}
theorem c_learnU {m k : Nat} {G : FT2} {x : Int32} {t h : Nat} {T : Nat → Nat → Bool} (hG : KnC m k G S) (hn : 30000 ≤ n) (hx : ∀ i, m ≤ i → bt x i = false) (hg : ∀ p t, G p t ≤ 99) (ht : t < 6) (hh : h < 1000) (hT : ∀ p t', p < m → t' < 6 → T p t' = (bt x p && decide (t' = t))) : Ok (E_X3_learn n S k x (nI t) (nI h)) (fun S' => Df (Xc (k + 1)) S S' ∧ KnC m k (fun p t' => if T p t' = true ∧ h < G p t' then h else G p t') S') := by
  obtain ⟨S', e, d, hK⟩ := c_learn hG hn hx (fun p t _ _ => hg p t) ht hh
  refine ⟨S', e, d, hK.congr (fun p t' hp ht' => ?_)⟩
  rw [hT p t' hp ht']
  by_cases c1 : bt x p = true
  · by_cases c2 : t' = t
    · simp [c1, c2]
    · simp [c2]
  · simp [c1]
theorem bs_hi {Q : Nat → Bool} {m : Nat} (hm : m ≤ 32) : ∀ i, m ≤ i → bt (bs Q m) i = false := fun i hi => by
  rw [bt_bs _ _ hm, decide_eq_false (by omega)]; rfl
def XKS (c w k : Nat) (W : VW) (G : FT2) (T : Nat → Nat → Bool) (h : Nat) (S S' : ST) : Prop := Df (XK c w) S S' ∧ KnC (W 0 1) (c + 1) (fun p t' => if T p t' = true ∧ h < G p t' then h else G p t') S' ∧ (∀ j, S'.1 (c + 3) j = S.1 (c + 3) j) ∧ (∀ j, S'.1 (c + 4) j = S.1 (c + 4) j) ∧ S'.1 c 4 = S.1 c 4 ∧ S'.1 c 5 = S.1 c 5
theorem c_carryOut (hC : CW W V w S) (hc : c = 76 ∨ c = 82) (hW : WF W) (hn : 30000 ≤ n) (hP : PCl P N S) (hPW : PWF W P N) {D : Nat → Bool} {F G : FT2} {h k : Nat} (hk : k < N) (hh : P 1 k = h) (hG : KnC (W 0 1) (c + 1) G S) (hg : ∀ p t, G p t ≤ 99) (hFG : ∀ p t, G p t ≤ h ↔ F p t ≤ h) (hw : wWhy W V P D F h k = 0) : Ok (E_X1_carryOut n S c w (nI k) (bs (fun p => !D p) (W 0 1))) (fun S' => Df (XK c w) S S' ∧ KnC (W 0 1) (c + 1) (fun p t => if wTeach W V P D F h k p t = true ∧ h + 1 < G p t then h + 1 else G p t) S'
    ∧ (∀ s o t, s < 10 → o < 10 → t < 6 → S'.1 (c + 3) (60 * s + 6 * o + t) = if wSee W V P D F h k s o t = true ∧ nI (h + 1) < S.1 (c + 3) (60 * s + 6 * o + t) then nI (h + 1) else S.1 (c + 3) (60 * s + 6 * o + t))
    ∧ (∀ j, S'.1 (c + 4) j = S.1 (c + 4) j) ∧ S'.1 c 4 = S.1 c 4 + nI (wCost W P k) ∧ S'.1 c 5 = S.1 c 5 + 1) := by
  have hm1 : W 0 1 ≤ 10 := hW.mx (k := 1) (by decide)
  have hm2 : W 0 2 ≤ 6 := hW.mx (k := 2) (by decide)
  have hm7 : W 0 7 ≤ 6 := hW.mx (k := 7) (by decide)
  have hN := hPW.1
  have hww := hC.1
  obtain ⟨q0, q1, q2, q4, q03, q11⟩ := hPW.2 k hk
  rw [hh] at q1
  obtain ⟨w1, w2, w3, w4⟩ := wWhy_0 hw
  unfold E_X1_carryOut
  apply Ok.step (c_person hP hN hk)
  apply Ok.step (c_other hP hN hk)
  apply Ok.step (c_thing hP hN hk)
  apply Ok.step (c_hour hP hN hk)
  rw [hh]
  apply Ok.step (c_placeOf hC hW q2 q1)
  apply Ok.step (c_hearers hC hW q1)
  apply Ok.letsU
  rw [bs_and (by omega), wHear_D]
  generalize hS7 : upI S c 5 (S.1 c 5 + 1) = S7
  have d7 : Df (XK c w) S S7 := by rw [← hS7]; exact (Df.refl _ _).up (by simp only [Xc, XK, XA, XM, XP, XD, XF, XG, X1, X61, Bool.or_eq_false_iff, beq_eq_false_iff_ne, decide_eq_false_iff_not, Bool.and_eq_false_iff, Bool.or_eq_true, beq_iff_eq, decide_eq_true_eq, Bool.and_eq_true, ne_eq, true_and, and_true, or_true, true_or, false_or, or_false, and_self, not_true_eq_false, not_false_eq_true]; try omega)
  have hC7 := XK_W hC hc d7
  have hP7 := XK_P hP hc hww d7
  have e75 : S7.1 c 5 = S.1 c 5 + 1 := by rw [← hS7, upI_at, if_pos ⟨rfl, rfl⟩]
  have e74 : S7.1 c 4 = S.1 c 4 := by rw [← hS7, upI_at, if_neg (by omega)]
  have e73 : ∀ j, S7.1 (c + 3) j = S.1 (c + 3) j := fun j => by rw [← hS7, upI_at, if_neg (by omega)]
  have e76 : ∀ j, S7.1 (c + 4) j = S.1 (c + 4) j := fun j => by rw [← hS7, upI_at, if_neg (by omega)]
  have hG7 : KnC (W 0 1) (c + 1) G S7 := ⟨hm1, fun p t hp ht => by rw [← hS7, upI_at, if_neg (by omega)]; exact hG.2 p t hp ht⟩
  clear hS7
  apply Ok.step (c_sort hP7 hN hk)
  have noSee : P 0 k ≠ 3 → ∀ s o t, wSee W V P D F h k s o t = false := fun z s o t => by simp [wSee, z]
  -- the end of each way
  have fin : ∀ (S9 : ST) (v : Nat), XKS c w k W G (wTeach W V P D F h k) (h + 1) S7 S9 → P 0 k ≠ 3 → v = wCost W P k → Ok (some (upI S9 c 4 (S9.1 c 4 + nI v))) (fun S' => Df (XK c w) S S' ∧ KnC (W 0 1) (c + 1) (fun p t => if wTeach W V P D F h k p t = true ∧ h + 1 < G p t then h + 1 else G p t) S'
      ∧ (∀ s o t, s < 10 → o < 10 → t < 6 → S'.1 (c + 3) (60 * s + 6 * o + t) = if wSee W V P D F h k s o t = true ∧ nI (h + 1) < S.1 (c + 3) (60 * s + 6 * o + t) then nI (h + 1) else S.1 (c + 3) (60 * s + 6 * o + t))
      ∧ (∀ j, S'.1 (c + 4) j = S.1 (c + 4) j) ∧ S'.1 c 4 = S.1 c 4 + nI (wCost W P k) ∧ S'.1 c 5 = S.1 c 5 + 1) := by
    rintro S9 v ⟨d9, k9, z1, z2, z3, z4⟩ hne rfl
    refine Ok.ret ⟨(d7.trans d9).up (by simp only [Xc, XK, XA, XM, XP, XD, XF, XG, X1, X61, Bool.or_eq_false_iff, beq_eq_false_iff_ne, decide_eq_false_iff_not, Bool.and_eq_false_iff, Bool.or_eq_true, beq_iff_eq, decide_eq_true_eq, Bool.and_eq_true, ne_eq, true_and, and_true, or_true, true_or, false_or, or_false, and_self, not_true_eq_false, not_false_eq_true]; try omega), k9.df (X := fun a j => a == c && j == 4) ((Df.refl _ _).up (by simp)) (fun j => (by simp only [Xc, XK, XA, XM, XP, XD, XF, XG, X1, X61, Bool.or_eq_false_iff, beq_eq_false_iff_ne, decide_eq_false_iff_not, Bool.and_eq_false_iff, Bool.or_eq_true, beq_iff_eq, decide_eq_true_eq, Bool.and_eq_true, ne_eq, true_and, and_true, or_true, true_or, false_or, or_false, and_self, not_true_eq_false, not_false_eq_true]; try omega)), fun s o t _ _ _ => ?_, fun j => ?_, ?_, ?_⟩
    · rw [upI_at, if_neg (by omega), z1, e73, noSee hne]
      simp
    · rw [upI_at, if_neg (by omega), z2, e76]
    · rw [upI_at, if_pos ⟨rfl, rfl⟩, z3, e74]
    · rw [upI_at, if_neg (by omega), z4, e75]
  have lrn : ∀ {S6 : ST} {x : Int32} {T : Nat → Nat → Bool}, KnC (W 0 1) (c + 1) G S6 → (∀ i, W 0 1 ≤ i → bt x i = false) → (∀ p t', p < W 0 1 → t' < 6 → T p t' = (bt x p && decide (t' = P 4 k))) → Ok (E_X3_learn n S6 (c + 1) x (nI (P 4 k)) (nI h + 1)) (fun S' => XKS c w k W G T (h + 1) S6 S') := by
    intro S6 x T hG6 hx hT
    rw [nI_1]
    obtain ⟨S', e, d, hK⟩ := c_learnU (h := h + 1) hG6 hn hx hg (by omega) (by omega) hT
    refine ⟨S', e, Xc_XK d (by omega), hK, fun j => d.2 _ _ (by simp only [Xc, XK, XA, XM, XP, XD, XF, XG, X1, X61, Bool.or_eq_false_iff, beq_eq_false_iff_ne, decide_eq_false_iff_not, Bool.and_eq_false_iff, Bool.or_eq_true, beq_iff_eq, decide_eq_true_eq, Bool.and_eq_true, ne_eq, true_and, and_true, or_true, true_or, false_or, or_false, and_self, not_true_eq_false, not_false_eq_true]; try omega), fun j => d.2 _ _ (by simp only [Xc, XK, XA, XM, XP, XD, XF, XG, X1, X61, Bool.or_eq_false_iff, beq_eq_false_iff_ne, decide_eq_false_iff_not, Bool.and_eq_false_iff, Bool.or_eq_true, beq_iff_eq, decide_eq_true_eq, Bool.and_eq_true, ne_eq, true_and, and_true, or_true, true_or, false_or, or_false, and_self, not_true_eq_false, not_false_eq_true]; try omega), d.2 _ _ (by simp only [Xc, XK, XA, XM, XP, XD, XF, XG, X1, X61, Bool.or_eq_false_iff, beq_eq_false_iff_ne, decide_eq_false_iff_not, Bool.and_eq_false_iff, Bool.or_eq_true, beq_iff_eq, decide_eq_true_eq, Bool.and_eq_true, ne_eq, true_and, and_true, or_true, true_or, false_or, or_false, and_self, not_true_eq_false, not_false_eq_true]; try omega), d.2 _ _ (by simp only [Xc, XK, XA, XM, XP, XD, XF, XG, X1, X61, Bool.or_eq_false_iff, beq_eq_false_iff_ne, decide_eq_false_iff_not, Bool.and_eq_false_iff, Bool.or_eq_true, beq_iff_eq, decide_eq_true_eq, Bool.and_eq_true, ne_eq, true_and, and_true, or_true, true_or, false_or, or_false, and_self, not_true_eq_false, not_false_eq_true]; try omega)⟩
  by_cases t0 : P 0 k = 0
  · refine Ok.ifT (by simp (disch := omega) only [↓reduceIte, Option.bind_some, jn, lets, Sum.elim_inl, Sum.elim_inr, if_true, if_false, rd_nI, wr_nI, rd_z, rd_o, wr_z, wr_o, nI_1, nI_add, pk_mul, nI_leI, nI_ltI, nI_eq, z_le, le_z, z_lt, lt_z, eq_z, eq_o, le_o, o_le, lt_o, o_lt, eq_m1, eq_m2, m1_eq, m2_eq, m1_lt, m1_le, o_z, z_o, m1_z, m1_o, m2_z, m2_o, m2_m1, z_lz, z_lo, o_lz, o_ez, z_ez, z_eo, m2_lt, m2_le, leF, leT, ltF, ltT, eqF, eqT, bI_z, bI_o, sh1, sh0, not_true_eq_false, not_false_eq_true, ne_eq, Bool.true_eq_false, Bool.false_eq_true, true_and, and_true, false_and, and_false, l_2, l_3, l_4, l_5, l_6, l_7, l_8, l_9, l_10, l_11, l_12, l_13, l_14, l_15, l_16, l_17, l_18, l_19, l_20, l_21, l_22, l_23, l_24, l_25, l_26, l_27, l_28, l_29, l_30, l_32, l_33, l_34, l_35, l_36, l_37, l_38, l_39, l_50, l_60, l_99, l_100, l_150, l_160, l_240, l_250, l_300, l_400, l_402, l_403, l_420, l_500, l_600, l_840, l_1000, l_1024, l_2000, l_2047, l_2048, l_10000, l_25600, l_500000, t0]) ?_
    obtain ⟨S9, e9, h9⟩ := lrn (S6 := S7) (x := bs (wHear W D (wPl W (P 2 k) h) h) (W 0 1)) (T := wTeach W V P D F h k) hG7 (bs_hi (by omega)) (fun p t' hp ht' => by
      rw [bt_lt (by omega) hp]
      simp only [wTeach, t0, if_true]
      rw [Bool.and_comm, dec_comm (P 4 k) t'])
    apply Ok.step e9
    exact fin S9 1 h9 (by omega) (by simp [wCost, t0])
  refine Ok.ifF (by simp (disch := omega) only [↓reduceIte, Option.bind_some, jn, lets, Sum.elim_inl, Sum.elim_inr, if_true, if_false, rd_nI, wr_nI, rd_z, rd_o, wr_z, wr_o, nI_1, nI_add, pk_mul, nI_leI, nI_ltI, nI_eq, z_le, le_z, z_lt, lt_z, eq_z, eq_o, le_o, o_le, lt_o, o_lt, eq_m1, eq_m2, m1_eq, m2_eq, m1_lt, m1_le, o_z, z_o, m1_z, m1_o, m2_z, m2_o, m2_m1, z_lz, z_lo, o_lz, o_ez, z_ez, z_eo, m2_lt, m2_le, leF, leT, ltF, ltT, eqF, eqT, bI_z, bI_o, sh1, sh0, not_true_eq_false, not_false_eq_true, ne_eq, Bool.true_eq_false, Bool.false_eq_true, true_and, and_true, false_and, and_false, l_2, l_3, l_4, l_5, l_6, l_7, l_8, l_9, l_10, l_11, l_12, l_13, l_14, l_15, l_16, l_17, l_18, l_19, l_20, l_21, l_22, l_23, l_24, l_25, l_26, l_27, l_28, l_29, l_30, l_32, l_33, l_34, l_35, l_36, l_37, l_38, l_39, l_50, l_60, l_99, l_100, l_150, l_160, l_240, l_250, l_300, l_400, l_402, l_403, l_420, l_500, l_600, l_840, l_1000, l_1024, l_2000, l_2047, l_2048, l_10000, l_25600, l_500000, t0]) ?_
  by_cases t1 : P 0 k = 1
  · obtain ⟨r1, r2⟩ := q11 t1
    refine Ok.ifT (by simp (disch := omega) only [↓reduceIte, Option.bind_some, jn, lets, Sum.elim_inl, Sum.elim_inr, if_true, if_false, rd_nI, wr_nI, rd_z, rd_o, wr_z, wr_o, nI_1, nI_add, pk_mul, nI_leI, nI_ltI, nI_eq, z_le, le_z, z_lt, lt_z, eq_z, eq_o, le_o, o_le, lt_o, o_lt, eq_m1, eq_m2, m1_eq, m2_eq, m1_lt, m1_le, o_z, z_o, m1_z, m1_o, m2_z, m2_o, m2_m1, z_lz, z_lo, o_lz, o_ez, z_ez, z_eo, m2_lt, m2_le, leF, leT, ltF, ltT, eqF, eqT, bI_z, bI_o, sh1, sh0, not_true_eq_false, not_false_eq_true, ne_eq, Bool.true_eq_false, Bool.false_eq_true, true_and, and_true, false_and, and_false, l_2, l_3, l_4, l_5, l_6, l_7, l_8, l_9, l_10, l_11, l_12, l_13, l_14, l_15, l_16, l_17, l_18, l_19, l_20, l_21, l_22, l_23, l_24, l_25, l_26, l_27, l_28, l_29, l_30, l_32, l_33, l_34, l_35, l_36, l_37, l_38, l_39, l_50, l_60, l_99, l_100, l_150, l_160, l_240, l_250, l_300, l_400, l_402, l_403, l_420, l_500, l_600, l_840, l_1000, l_1024, l_2000, l_2047, l_2048, l_10000, l_25600, l_500000, t1]) ?_
    apply Ok.step (c_placeOf hC7 hW q2 q1)
    apply Ok.step (c_standers hC7 hW q1)
    rw [bs_and (by omega), wStand_D]
    obtain ⟨S9, e9, h9⟩ := lrn (S6 := S7) (x := bs (wStand W D (wPl W (P 2 k) h) h) (W 0 1)) (T := wTeach W V P D F h k) hG7 (bs_hi (by omega)) (fun p t' hp ht' => by
      rw [bt_lt (by omega) hp]
      simp only [wTeach, t1, if_true, Nat.one_ne_zero, if_false]
      rw [Bool.and_comm, dec_comm (P 4 k) t'])
    apply Ok.step e9
    have a3 : Pc P 3 k = nI (P 3 k) := by unfold Pc; rw [if_neg (by omega)]
    apply Ok.step (x := nI (W 16 (P 3 k))) (by simp (disch := omega) only [↓reduceIte, Option.bind_some, jn, lets, Sum.elim_inl, Sum.elim_inr, if_true, if_false, rd_nI, wr_nI, rd_z, rd_o, wr_z, wr_o, nI_1, nI_add, pk_mul, nI_leI, nI_ltI, nI_eq, z_le, le_z, z_lt, lt_z, eq_z, eq_o, le_o, o_le, lt_o, o_lt, eq_m1, eq_m2, m1_eq, m2_eq, m1_lt, m1_le, o_z, z_o, m1_z, m1_o, m2_z, m2_o, m2_m1, z_lz, z_lo, o_lz, o_ez, z_ez, z_eo, m2_lt, m2_le, leF, leT, ltF, ltT, eqF, eqT, bI_z, bI_o, sh1, sh0, not_true_eq_false, not_false_eq_true, ne_eq, Bool.true_eq_false, Bool.false_eq_true, true_and, and_true, false_and, and_false, l_2, l_3, l_4, l_5, l_6, l_7, l_8, l_9, l_10, l_11, l_12, l_13, l_14, l_15, l_16, l_17, l_18, l_19, l_20, l_21, l_22, l_23, l_24, l_25, l_26, l_27, l_28, l_29, l_30, l_32, l_33, l_34, l_35, l_36, l_37, l_38, l_39, l_50, l_60, l_99, l_100, l_150, l_160, l_240, l_250, l_300, l_400, l_402, l_403, l_420, l_500, l_600, l_840, l_1000, l_1024, l_2000, l_2047, l_2048, l_10000, l_25600, l_500000, a3, g_ac (XK_W hC7 hc h9.1)])
    apply Ok.letsU
    exact fin S9 (W 16 (P 3 k)) h9 (by omega) (by simp [wCost, t1])
  refine Ok.ifF (by simp (disch := omega) only [↓reduceIte, Option.bind_some, jn, lets, Sum.elim_inl, Sum.elim_inr, if_true, if_false, rd_nI, wr_nI, rd_z, rd_o, wr_z, wr_o, nI_1, nI_add, pk_mul, nI_leI, nI_ltI, nI_eq, z_le, le_z, z_lt, lt_z, eq_z, eq_o, le_o, o_le, lt_o, o_lt, eq_m1, eq_m2, m1_eq, m2_eq, m1_lt, m1_le, o_z, z_o, m1_z, m1_o, m2_z, m2_o, m2_m1, z_lz, z_lo, o_lz, o_ez, z_ez, z_eo, m2_lt, m2_le, leF, leT, ltF, ltT, eqF, eqT, bI_z, bI_o, sh1, sh0, not_true_eq_false, not_false_eq_true, ne_eq, Bool.true_eq_false, Bool.false_eq_true, true_and, and_true, false_and, and_false, l_2, l_3, l_4, l_5, l_6, l_7, l_8, l_9, l_10, l_11, l_12, l_13, l_14, l_15, l_16, l_17, l_18, l_19, l_20, l_21, l_22, l_23, l_24, l_25, l_26, l_27, l_28, l_29, l_30, l_32, l_33, l_34, l_35, l_36, l_37, l_38, l_39, l_50, l_60, l_99, l_100, l_150, l_160, l_240, l_250, l_300, l_400, l_402, l_403, l_420, l_500, l_600, l_840, l_1000, l_1024, l_2000, l_2047, l_2048, l_10000, l_25600, l_500000, t1]) ?_
  by_cases t2 : P 0 k = 2
  · refine Ok.ifT (by simp (disch := omega) only [↓reduceIte, Option.bind_some, jn, lets, Sum.elim_inl, Sum.elim_inr, if_true, if_false, rd_nI, wr_nI, rd_z, rd_o, wr_z, wr_o, nI_1, nI_add, pk_mul, nI_leI, nI_ltI, nI_eq, z_le, le_z, z_lt, lt_z, eq_z, eq_o, le_o, o_le, lt_o, o_lt, eq_m1, eq_m2, m1_eq, m2_eq, m1_lt, m1_le, o_z, z_o, m1_z, m1_o, m2_z, m2_o, m2_m1, z_lz, z_lo, o_lz, o_ez, z_ez, z_eo, m2_lt, m2_le, leF, leT, ltF, ltT, eqF, eqT, bI_z, bI_o, sh1, sh0, not_true_eq_false, not_false_eq_true, ne_eq, Bool.true_eq_false, Bool.false_eq_true, true_and, and_true, false_and, and_false, l_2, l_3, l_4, l_5, l_6, l_7, l_8, l_9, l_10, l_11, l_12, l_13, l_14, l_15, l_16, l_17, l_18, l_19, l_20, l_21, l_22, l_23, l_24, l_25, l_26, l_27, l_28, l_29, l_30, l_32, l_33, l_34, l_35, l_36, l_37, l_38, l_39, l_50, l_60, l_99, l_100, l_150, l_160, l_240, l_250, l_300, l_400, l_402, l_403, l_420, l_500, l_600, l_840, l_1000, l_1024, l_2000, l_2047, l_2048, l_10000, l_25600, l_500000, t2]) ?_
    apply Ok.letsU
    refine fin S7 5 ⟨Df.refl _ _, hG7.congr (fun p t' _ _ => ?_), fun _ => rfl, fun _ => rfl, rfl, rfl⟩ (by omega) (by simp [wCost, t2])
    simp [wTeach, t2]
  refine Ok.ifF (by simp (disch := omega) only [↓reduceIte, Option.bind_some, jn, lets, Sum.elim_inl, Sum.elim_inr, if_true, if_false, rd_nI, wr_nI, rd_z, rd_o, wr_z, wr_o, nI_1, nI_add, pk_mul, nI_leI, nI_ltI, nI_eq, z_le, le_z, z_lt, lt_z, eq_z, eq_o, le_o, o_le, lt_o, o_lt, eq_m1, eq_m2, m1_eq, m2_eq, m1_lt, m1_le, o_z, z_o, m1_z, m1_o, m2_z, m2_o, m2_m1, z_lz, z_lo, o_lz, o_ez, z_ez, z_eo, m2_lt, m2_le, leF, leT, ltF, ltT, eqF, eqT, bI_z, bI_o, sh1, sh0, not_true_eq_false, not_false_eq_true, ne_eq, Bool.true_eq_false, Bool.false_eq_true, true_and, and_true, false_and, and_false, l_2, l_3, l_4, l_5, l_6, l_7, l_8, l_9, l_10, l_11, l_12, l_13, l_14, l_15, l_16, l_17, l_18, l_19, l_20, l_21, l_22, l_23, l_24, l_25, l_26, l_27, l_28, l_29, l_30, l_32, l_33, l_34, l_35, l_36, l_37, l_38, l_39, l_50, l_60, l_99, l_100, l_150, l_160, l_240, l_250, l_300, l_400, l_402, l_403, l_420, l_500, l_600, l_840, l_1000, l_1024, l_2000, l_2047, l_2048, l_10000, l_25600, l_500000, t2]) ?_
  have t3 : P 0 k = 3 := by omega
  obtain ⟨q3, q3'⟩ := q03 (Or.inr t3)
  have a3 : Pc P 3 k = nI (P 3 k) := by unfold Pc; rw [if_neg (by omega)]
  rw [a3]
  apply Ok.step (c_has hG7 q3 (by omega) (hg _ _) (by omega))
  have tch : ∀ p t', wTeach W V P D F h k p t' = (decide (P 4 k = t') && (decide (G (P 3 k) (P 4 k) ≤ h) && wMay W V D (P 3 k) (P 2 k) h 0 && wHear W D (wPl W (P 2 k) h) h p)) := by
    intro p t'
    simp only [wTeach, t3]
    have e0 : decide (G (P 3 k) (P 4 k) ≤ h) = decide (F (P 3 k) (P 4 k) ≤ h) := decide_eq_decide.mpr (hFG (P 3 k) (P 4 k))
    rw [e0]
    simp
  refine jnH1 (fun S9 => XKS c w k W G (wTeach W V P D F h k) (h + 1) S7 S9) ?_ ?_
  · rintro S9 ⟨d9, k9, z1, z2, z3, z4⟩
    have hg9 : ∀ p t, (if wTeach W V P D F h k p t = true ∧ h + 1 < G p t then h + 1 else G p t) ≤ 99 := fun p t => by
      have := hg p t
      split <;> omega
    apply Ok.step (c_has k9 q2 (by omega) (hg9 _ _) (by omega))
    have e1 : decide ((if wTeach W V P D F h k (P 2 k) (P 4 k) = true ∧ h + 1 < G (P 2 k) (P 4 k) then h + 1 else G (P 2 k) (P 4 k)) ≤ h) = decide (F (P 2 k) (P 4 k) ≤ h) := by
      apply decide_eq_decide.mpr
      rw [← hFG]
      split <;> omega
    rw [e1]
    refine jnH1 (fun S10 => Df (XK c w) S9 S10 ∧ KnC (W 0 1) (c + 1) (fun p t => if wTeach W V P D F h k p t = true ∧ h + 1 < G p t then h + 1 else G p t) S10 ∧ (∀ s o t, s < 10 → o < 10 → t < 6 → S10.1 (c + 3) (60 * s + 6 * o + t) = if wSee W V P D F h k s o t = true ∧ nI (h + 1) < S.1 (c + 3) (60 * s + 6 * o + t) then nI (h + 1) else S.1 (c + 3) (60 * s + 6 * o + t)) ∧ (∀ j, S10.1 (c + 4) j = S9.1 (c + 4) j) ∧ S10.1 c 4 = S9.1 c 4 ∧ S10.1 c 5 = S9.1 c 5) ?_ ?_
    · rintro S10 ⟨d10, k10, y0, y1, y2, y3⟩
      apply Ok.letsU
      refine Ok.ret ⟨((d7.trans d9).trans d10).up (by simp only [Xc, XK, XA, XM, XP, XD, XF, XG, X1, X61, Bool.or_eq_false_iff, beq_eq_false_iff_ne, decide_eq_false_iff_not, Bool.and_eq_false_iff, Bool.or_eq_true, beq_iff_eq, decide_eq_true_eq, Bool.and_eq_true, ne_eq, true_and, and_true, or_true, true_or, false_or, or_false, and_self, not_true_eq_false, not_false_eq_true]; try omega), k10.df (X := fun a j => a == c && j == 4) ((Df.refl _ _).up (by simp)) (fun j => (by simp only [Xc, XK, XA, XM, XP, XD, XF, XG, X1, X61, Bool.or_eq_false_iff, beq_eq_false_iff_ne, decide_eq_false_iff_not, Bool.and_eq_false_iff, Bool.or_eq_true, beq_iff_eq, decide_eq_true_eq, Bool.and_eq_true, ne_eq, true_and, and_true, or_true, true_or, false_or, or_false, and_self, not_true_eq_false, not_false_eq_true]; try omega)), fun s o t b1 b2 b3 => ?_, fun j => ?_, ?_, ?_⟩
      · rw [upI_at, if_neg (by omega)]
        exact y0 s o t b1 b2 b3
      · rw [upI_at, if_neg (by omega), y1, z2, e76]
      · rw [upI_at, if_pos ⟨rfl, rfl⟩, y2, z3, e74]
        simp [wCost, t3]; rfl
      · rw [upI_at, if_neg (by omega), y3, z4, e75]
    · intro J hJ
      by_cases c1 : F (P 2 k) (P 4 k) ≤ h
      · refine Ok.ifF (by simp [c1, bI]) (hJ _ ⟨Df.refl _ _, k9, fun s o t _ _ _ => ?_, fun _ => rfl, rfl, rfl⟩)
        have : wSee W V P D F h k s o t = false := by
          simp only [wSee, t3]
          by_cases e3 : P 2 k = o
          · by_cases e4 : P 4 k = t
            · subst e3; subst e4; simp [c1]
            · simp [e4]
          · simp [e3]
        rw [z1, e73, this]; simp
      · refine Ok.ifT (by simp [c1, bI]) ?_
        rw [nI_1]
        obtain ⟨S10, e10, d10, s10⟩ := c_see (S := S9) (c := c) (n := n) (x := bs (wHear W D (wPl W (P 2 k) h) h) (W 0 1)) (o := P 2 k) (t := P 4 k) (h := h + 1) hn (by omega) (by omega)
        apply Ok.step e10
        refine hJ _ ⟨Xc_XK d10 (by omega), k9.df d10 (fun j => (by simp only [Xc, XK, XA, XM, XP, XD, XF, XG, X1, X61, Bool.or_eq_false_iff, beq_eq_false_iff_ne, decide_eq_false_iff_not, Bool.and_eq_false_iff, Bool.or_eq_true, beq_iff_eq, decide_eq_true_eq, Bool.and_eq_true, ne_eq, true_and, and_true, or_true, true_or, false_or, or_false, and_self, not_true_eq_false, not_false_eq_true]; try omega)), fun s o t b1 b2 b3 => ?_, fun j => d10.2 _ _ (by simp only [Xc, XK, XA, XM, XP, XD, XF, XG, X1, X61, Bool.or_eq_false_iff, beq_eq_false_iff_ne, decide_eq_false_iff_not, Bool.and_eq_false_iff, Bool.or_eq_true, beq_iff_eq, decide_eq_true_eq, Bool.and_eq_true, ne_eq, true_and, and_true, or_true, true_or, false_or, or_false, and_self, not_true_eq_false, not_false_eq_true]; try omega), d10.2 _ _ (by simp only [Xc, XK, XA, XM, XP, XD, XF, XG, X1, X61, Bool.or_eq_false_iff, beq_eq_false_iff_ne, decide_eq_false_iff_not, Bool.and_eq_false_iff, Bool.or_eq_true, beq_iff_eq, decide_eq_true_eq, Bool.and_eq_true, ne_eq, true_and, and_true, or_true, true_or, false_or, or_false, and_self, not_true_eq_false, not_false_eq_true]; try omega), d10.2 _ _ (by simp only [Xc, XK, XA, XM, XP, XD, XF, XG, X1, X61, Bool.or_eq_false_iff, beq_eq_false_iff_ne, decide_eq_false_iff_not, Bool.and_eq_false_iff, Bool.or_eq_true, beq_iff_eq, decide_eq_true_eq, Bool.and_eq_true, ne_eq, true_and, and_true, or_true, true_or, false_or, or_false, and_self, not_true_eq_false, not_false_eq_true]; try omega)⟩
        rw [s10 s o t b1 b2 b3, z1, e73]
        have e5 : (wSee W V P D F h k s o t = true ∧ nI (h + 1) < S.1 (c + 3) (60 * s + 6 * o + t)) = (s ≠ P 2 k ∧ bt (bs (wHear W D (wPl W (P 2 k) h) h) (W 0 1)) s = true ∧ o = P 2 k ∧ t = P 4 k ∧ nI (h + 1) < S.1 (c + 3) (60 * s + 6 * o + t)) := by
          apply propext
          rw [bt_bs _ _ (by omega)]
          simp only [wSee, t3, Bool.and_eq_true, decide_eq_true_eq, Bool.not_eq_true', decide_eq_false_iff_not, true_and]
          constructor
          · rintro ⟨⟨⟨⟨⟨⟨x1, x2⟩, x3⟩, x4⟩, x5⟩, x6⟩, x7⟩
            exact ⟨by rw [x1]; exact x3, ⟨x6, x5⟩, x1.symm, x2.symm, x7⟩
          · rintro ⟨x1, ⟨x2, x3⟩, x4, x5, x6⟩
            refine ⟨⟨⟨⟨⟨⟨x4.symm, x5.symm⟩, by rw [x4]; exact x1⟩, by rw [x4, x5]; exact c1⟩, x3⟩, x2⟩, x6⟩
        simp only [e5]
  · intro J hJ
    cases c1 : decide (G (P 3 k) (P 4 k) ≤ h)
    · refine Ok.ifT rfl (hJ _ ⟨Df.refl _ _, hG7.congr (fun p t' _ _ => ?_), fun _ => rfl, fun _ => rfl, rfl, rfl⟩)
      rw [tch, c1]; simp
    · refine Ok.ifF (by decide) ?_
      obtain ⟨⟨v, S8⟩, e5, h2, d8⟩ := c_allows hC7 hW hn (D := D) (s := 0) q3 q2 q3' q1 (by decide)
      dsimp only at h2 d8
      subst h2
      rw [nI_0] at e5
      apply Ok.step e5
      have hG8 := hG7.df d8 (fun j => by simp only [XA, Bool.or_eq_false_iff, beq_eq_false_iff_ne]; omega)
      have hx8 : ∀ a j, a < w + 19 ∨ w + 20 < a → S8.1 a j = S7.1 a j := fun a j ha => d8.2 a j (by simp only [XA, Bool.or_eq_false_iff, beq_eq_false_iff_ne]; omega)
      cases c2 : wMay W V D (P 3 k) (P 2 k) h 0
      · refine Ok.ifT rfl (hJ _ ⟨XA_XK d8, hG8.congr (fun p t' _ _ => ?_), fun j => hx8 _ _ (by omega), fun j => hx8 _ _ (by omega), hx8 _ _ (by omega), hx8 _ _ (by omega)⟩)
        rw [tch, c2]; simp
      · refine Ok.ifF (show ¬ bI true = 0 by decide) ?_
        obtain ⟨S9, e9, d9, k9, z1, z2, z3, z4⟩ := lrn (S6 := S8) (x := bs (wHear W D (wPl W (P 2 k) h) h) (W 0 1)) (T := wTeach W V P D F h k) hG8 (bs_hi (by omega)) (fun p t' hp ht' => by
          rw [bt_lt (by omega) hp, tch, c1, c2, dec_comm (P 4 k) t', Bool.and_comm]
          simp)
        apply Ok.step e9
        exact hJ _ ⟨(XA_XK d8).trans d9, k9, fun j => by rw [z1, hx8 _ _ (by omega)], fun j => by rw [z2, hx8 _ _ (by omega)], by rw [z3, hx8 _ _ (by omega)], by rw [z4, hx8 _ _ (by omega)]⟩
theorem c_readWriting (hC : CW W V w S) (hc : c = 76 ∨ c = 82) (hW : WF W) (hn : 30000 ≤ n) (hP : PCl P N S) (hPW : PWF W P N) {D : Nat → Bool} {G : FT2} {Y : Nat → Nat} {h k : Nat} (hk : k < N) (hh : P 1 k < h) (hh2 : h < 24) (hG : KnC (W 0 1) (c + 1) G S) (hg : ∀ p t, G p t ≤ 99) (hY : S.1 (c + 4) k = nI (Y k)) (hY2 : Y k < 1000) : Ok (E_X1_readWriting n S c w (nI k) (nI h) (bs (fun p => !D p) (W 0 1))) (fun S' => XKS c w k W G (wRead W P D Y h k) (h + 1) S S') := by
  have hm1 : W 0 1 ≤ 10 := hW.mx (k := 1) (by decide)
  have hm2 : W 0 2 ≤ 6 := hW.mx (k := 2) (by decide)
  have hm0 : W 0 0 ≤ 6 := hW.mx (k := 0) (by decide)
  have hN := hPW.1
  have hww := hC.1
  obtain ⟨q0, q1, q2, q4, q03, q11⟩ := hPW.2 k hk
  have no : P 0 k ≠ 2 ∨ Y k ≠ 0 → XKS c w k W G (wRead W P D Y h k) (h + 1) S S := fun z => by
    refine ⟨Df.refl _ _, hG.congr (fun p t' _ _ => ?_), fun _ => rfl, fun _ => rfl, rfl, rfl⟩
    rcases z with z | z <;> simp [wRead, z]
  unfold E_X1_readWriting
  by_cases t2 : P 0 k = 2
  case neg =>
    (repeat (first | ((with_reducible apply Ok.step); · ((try simp (disch := omega) only [↓reduceIte, Option.bind_some, Sum.elim_inl, Sum.elim_inr, if_true, if_false, rd_nI, wr_nI, rd_z, rd_o, wr_z, wr_o, nI_1, nI_add, pk_mul, nI_leI, nI_ltI, nI_eq, z_le, le_z, z_lt, lt_z, eq_z, eq_o, le_o, o_le, lt_o, o_lt, eq_m1, eq_m2, m1_eq, m2_eq, m1_lt, m1_le, o_z, z_o, m1_z, m1_o, m2_z, m2_o, m2_m1, z_lz, z_lo, o_lz, o_ez, z_ez, z_eo, m2_lt, m2_le, leF, leT, ltF, ltT, eqF, eqT, bI_z, bI_o, sh1, sh0, not_true_eq_false, not_false_eq_true, ne_eq, Bool.true_eq_false, Bool.false_eq_true, true_and, and_true, false_and, and_false, l_2, l_3, l_4, l_5, l_6, l_7, l_8, l_9, l_10, l_11, l_12, l_13, l_14, l_15, l_16, l_17, l_18, l_19, l_20, l_21, l_22, l_23, l_24, l_25, l_26, l_27, l_28, l_29, l_30, l_32, l_33, l_34, l_35, l_36, l_37, l_38, l_39, l_50, l_60, l_99, l_100, l_150, l_160, l_240, l_250, l_300, l_400, l_402, l_403, l_420, l_500, l_600, l_840, l_1000, l_1024, l_2000, l_2047, l_2048, l_10000, l_25600, l_500000, c_sort hP hN hk, t2]); with_reducible exact rfl)) | ((with_reducible apply Ok.ifT); · (first | (simp (disch := omega) only [↓reduceIte, Option.bind_some, Sum.elim_inl, Sum.elim_inr, if_true, if_false, rd_nI, wr_nI, rd_z, rd_o, wr_z, wr_o, nI_1, nI_add, pk_mul, nI_leI, nI_ltI, nI_eq, z_le, le_z, z_lt, lt_z, eq_z, eq_o, le_o, o_le, lt_o, o_lt, eq_m1, eq_m2, m1_eq, m2_eq, m1_lt, m1_le, o_z, z_o, m1_z, m1_o, m2_z, m2_o, m2_m1, z_lz, z_lo, o_lz, o_ez, z_ez, z_eo, m2_lt, m2_le, leF, leT, ltF, ltT, eqF, eqT, bI_z, bI_o, sh1, sh0, not_true_eq_false, not_false_eq_true, ne_eq, Bool.true_eq_false, Bool.false_eq_true, true_and, and_true, false_and, and_false, l_2, l_3, l_4, l_5, l_6, l_7, l_8, l_9, l_10, l_11, l_12, l_13, l_14, l_15, l_16, l_17, l_18, l_19, l_20, l_21, l_22, l_23, l_24, l_25, l_26, l_27, l_28, l_29, l_30, l_32, l_33, l_34, l_35, l_36, l_37, l_38, l_39, l_50, l_60, l_99, l_100, l_150, l_160, l_240, l_250, l_300, l_400, l_402, l_403, l_420, l_500, l_600, l_840, l_1000, l_1024, l_2000, l_2047, l_2048, l_10000, l_25600, l_500000, c_sort hP hN hk, t2]; done) | omega)) | ((with_reducible apply Ok.ifF); · (first | (simp (disch := omega) only [↓reduceIte, Option.bind_some, Sum.elim_inl, Sum.elim_inr, if_true, if_false, rd_nI, wr_nI, rd_z, rd_o, wr_z, wr_o, nI_1, nI_add, pk_mul, nI_leI, nI_ltI, nI_eq, z_le, le_z, z_lt, lt_z, eq_z, eq_o, le_o, o_le, lt_o, o_lt, eq_m1, eq_m2, m1_eq, m2_eq, m1_lt, m1_le, o_z, z_o, m1_z, m1_o, m2_z, m2_o, m2_m1, z_lz, z_lo, o_lz, o_ez, z_ez, z_eo, m2_lt, m2_le, leF, leT, ltF, ltT, eqF, eqT, bI_z, bI_o, sh1, sh0, not_true_eq_false, not_false_eq_true, ne_eq, Bool.true_eq_false, Bool.false_eq_true, true_and, and_true, false_and, and_false, l_2, l_3, l_4, l_5, l_6, l_7, l_8, l_9, l_10, l_11, l_12, l_13, l_14, l_15, l_16, l_17, l_18, l_19, l_20, l_21, l_22, l_23, l_24, l_25, l_26, l_27, l_28, l_29, l_30, l_32, l_33, l_34, l_35, l_36, l_37, l_38, l_39, l_50, l_60, l_99, l_100, l_150, l_160, l_240, l_250, l_300, l_400, l_402, l_403, l_420, l_500, l_600, l_840, l_1000, l_1024, l_2000, l_2047, l_2048, l_10000, l_25600, l_500000, c_sort hP hN hk, t2]; done) | omega)) | with_reducible apply Ok.jnU | with_reducible apply Ok.letsU | with_reducible apply Ok.elL | with_reducible apply Ok.elR | ((with_reducible apply Ok.gdT); · exact bI_nar _)))
    exact Ok.ret (no (Or.inl t2))
  by_cases y0 : Y k = 0
  case neg =>
    (repeat (first | ((with_reducible apply Ok.step); · ((try simp (disch := omega) only [↓reduceIte, Option.bind_some, Sum.elim_inl, Sum.elim_inr, if_true, if_false, rd_nI, wr_nI, rd_z, rd_o, wr_z, wr_o, nI_1, nI_add, pk_mul, nI_leI, nI_ltI, nI_eq, z_le, le_z, z_lt, lt_z, eq_z, eq_o, le_o, o_le, lt_o, o_lt, eq_m1, eq_m2, m1_eq, m2_eq, m1_lt, m1_le, o_z, z_o, m1_z, m1_o, m2_z, m2_o, m2_m1, z_lz, z_lo, o_lz, o_ez, z_ez, z_eo, m2_lt, m2_le, leF, leT, ltF, ltT, eqF, eqT, bI_z, bI_o, sh1, sh0, not_true_eq_false, not_false_eq_true, ne_eq, Bool.true_eq_false, Bool.false_eq_true, true_and, and_true, false_and, and_false, l_2, l_3, l_4, l_5, l_6, l_7, l_8, l_9, l_10, l_11, l_12, l_13, l_14, l_15, l_16, l_17, l_18, l_19, l_20, l_21, l_22, l_23, l_24, l_25, l_26, l_27, l_28, l_29, l_30, l_32, l_33, l_34, l_35, l_36, l_37, l_38, l_39, l_50, l_60, l_99, l_100, l_150, l_160, l_240, l_250, l_300, l_400, l_402, l_403, l_420, l_500, l_600, l_840, l_1000, l_1024, l_2000, l_2047, l_2048, l_10000, l_25600, l_500000, c_sort hP hN hk, t2, hY, y0]); with_reducible exact rfl)) | ((with_reducible apply Ok.ifT); · (first | (simp (disch := omega) only [↓reduceIte, Option.bind_some, Sum.elim_inl, Sum.elim_inr, if_true, if_false, rd_nI, wr_nI, rd_z, rd_o, wr_z, wr_o, nI_1, nI_add, pk_mul, nI_leI, nI_ltI, nI_eq, z_le, le_z, z_lt, lt_z, eq_z, eq_o, le_o, o_le, lt_o, o_lt, eq_m1, eq_m2, m1_eq, m2_eq, m1_lt, m1_le, o_z, z_o, m1_z, m1_o, m2_z, m2_o, m2_m1, z_lz, z_lo, o_lz, o_ez, z_ez, z_eo, m2_lt, m2_le, leF, leT, ltF, ltT, eqF, eqT, bI_z, bI_o, sh1, sh0, not_true_eq_false, not_false_eq_true, ne_eq, Bool.true_eq_false, Bool.false_eq_true, true_and, and_true, false_and, and_false, l_2, l_3, l_4, l_5, l_6, l_7, l_8, l_9, l_10, l_11, l_12, l_13, l_14, l_15, l_16, l_17, l_18, l_19, l_20, l_21, l_22, l_23, l_24, l_25, l_26, l_27, l_28, l_29, l_30, l_32, l_33, l_34, l_35, l_36, l_37, l_38, l_39, l_50, l_60, l_99, l_100, l_150, l_160, l_240, l_250, l_300, l_400, l_402, l_403, l_420, l_500, l_600, l_840, l_1000, l_1024, l_2000, l_2047, l_2048, l_10000, l_25600, l_500000, c_sort hP hN hk, t2, hY, y0]; done) | omega)) | ((with_reducible apply Ok.ifF); · (first | (simp (disch := omega) only [↓reduceIte, Option.bind_some, Sum.elim_inl, Sum.elim_inr, if_true, if_false, rd_nI, wr_nI, rd_z, rd_o, wr_z, wr_o, nI_1, nI_add, pk_mul, nI_leI, nI_ltI, nI_eq, z_le, le_z, z_lt, lt_z, eq_z, eq_o, le_o, o_le, lt_o, o_lt, eq_m1, eq_m2, m1_eq, m2_eq, m1_lt, m1_le, o_z, z_o, m1_z, m1_o, m2_z, m2_o, m2_m1, z_lz, z_lo, o_lz, o_ez, z_ez, z_eo, m2_lt, m2_le, leF, leT, ltF, ltT, eqF, eqT, bI_z, bI_o, sh1, sh0, not_true_eq_false, not_false_eq_true, ne_eq, Bool.true_eq_false, Bool.false_eq_true, true_and, and_true, false_and, and_false, l_2, l_3, l_4, l_5, l_6, l_7, l_8, l_9, l_10, l_11, l_12, l_13, l_14, l_15, l_16, l_17, l_18, l_19, l_20, l_21, l_22, l_23, l_24, l_25, l_26, l_27, l_28, l_29, l_30, l_32, l_33, l_34, l_35, l_36, l_37, l_38, l_39, l_50, l_60, l_99, l_100, l_150, l_160, l_240, l_250, l_300, l_400, l_402, l_403, l_420, l_500, l_600, l_840, l_1000, l_1024, l_2000, l_2047, l_2048, l_10000, l_25600, l_500000, c_sort hP hN hk, t2, hY, y0]; done) | omega)) | with_reducible apply Ok.jnU | with_reducible apply Ok.letsU | with_reducible apply Ok.elL | with_reducible apply Ok.elR | ((with_reducible apply Ok.gdT); · exact bI_nar _)))
    exact Ok.ret (no (Or.inr y0))
  (repeat (first | ((with_reducible apply Ok.step); · ((try simp (disch := omega) only [↓reduceIte, Option.bind_some, Sum.elim_inl, Sum.elim_inr, if_true, if_false, rd_nI, wr_nI, rd_z, rd_o, wr_z, wr_o, nI_1, nI_add, pk_mul, nI_leI, nI_ltI, nI_eq, z_le, le_z, z_lt, lt_z, eq_z, eq_o, le_o, o_le, lt_o, o_lt, eq_m1, eq_m2, m1_eq, m2_eq, m1_lt, m1_le, o_z, z_o, m1_z, m1_o, m2_z, m2_o, m2_m1, z_lz, z_lo, o_lz, o_ez, z_ez, z_eo, m2_lt, m2_le, leF, leT, ltF, ltT, eqF, eqT, bI_z, bI_o, sh1, sh0, not_true_eq_false, not_false_eq_true, ne_eq, Bool.true_eq_false, Bool.false_eq_true, true_and, and_true, false_and, and_false, l_2, l_3, l_4, l_5, l_6, l_7, l_8, l_9, l_10, l_11, l_12, l_13, l_14, l_15, l_16, l_17, l_18, l_19, l_20, l_21, l_22, l_23, l_24, l_25, l_26, l_27, l_28, l_29, l_30, l_32, l_33, l_34, l_35, l_36, l_37, l_38, l_39, l_50, l_60, l_99, l_100, l_150, l_160, l_240, l_250, l_300, l_400, l_402, l_403, l_420, l_500, l_600, l_840, l_1000, l_1024, l_2000, l_2047, l_2048, l_10000, l_25600, l_500000, c_sort hP hN hk, t2, hY, y0, c_person hP hN hk, c_hour hP hN hk, c_placeOf hC hW]); with_reducible exact rfl)) | ((with_reducible apply Ok.ifT); · (first | (simp (disch := omega) only [↓reduceIte, Option.bind_some, Sum.elim_inl, Sum.elim_inr, if_true, if_false, rd_nI, wr_nI, rd_z, rd_o, wr_z, wr_o, nI_1, nI_add, pk_mul, nI_leI, nI_ltI, nI_eq, z_le, le_z, z_lt, lt_z, eq_z, eq_o, le_o, o_le, lt_o, o_lt, eq_m1, eq_m2, m1_eq, m2_eq, m1_lt, m1_le, o_z, z_o, m1_z, m1_o, m2_z, m2_o, m2_m1, z_lz, z_lo, o_lz, o_ez, z_ez, z_eo, m2_lt, m2_le, leF, leT, ltF, ltT, eqF, eqT, bI_z, bI_o, sh1, sh0, not_true_eq_false, not_false_eq_true, ne_eq, Bool.true_eq_false, Bool.false_eq_true, true_and, and_true, false_and, and_false, l_2, l_3, l_4, l_5, l_6, l_7, l_8, l_9, l_10, l_11, l_12, l_13, l_14, l_15, l_16, l_17, l_18, l_19, l_20, l_21, l_22, l_23, l_24, l_25, l_26, l_27, l_28, l_29, l_30, l_32, l_33, l_34, l_35, l_36, l_37, l_38, l_39, l_50, l_60, l_99, l_100, l_150, l_160, l_240, l_250, l_300, l_400, l_402, l_403, l_420, l_500, l_600, l_840, l_1000, l_1024, l_2000, l_2047, l_2048, l_10000, l_25600, l_500000, c_sort hP hN hk, t2, hY, y0, c_person hP hN hk, c_hour hP hN hk, c_placeOf hC hW]; done) | omega)) | ((with_reducible apply Ok.ifF); · (first | (simp (disch := omega) only [↓reduceIte, Option.bind_some, Sum.elim_inl, Sum.elim_inr, if_true, if_false, rd_nI, wr_nI, rd_z, rd_o, wr_z, wr_o, nI_1, nI_add, pk_mul, nI_leI, nI_ltI, nI_eq, z_le, le_z, z_lt, lt_z, eq_z, eq_o, le_o, o_le, lt_o, o_lt, eq_m1, eq_m2, m1_eq, m2_eq, m1_lt, m1_le, o_z, z_o, m1_z, m1_o, m2_z, m2_o, m2_m1, z_lz, z_lo, o_lz, o_ez, z_ez, z_eo, m2_lt, m2_le, leF, leT, ltF, ltT, eqF, eqT, bI_z, bI_o, sh1, sh0, not_true_eq_false, not_false_eq_true, ne_eq, Bool.true_eq_false, Bool.false_eq_true, true_and, and_true, false_and, and_false, l_2, l_3, l_4, l_5, l_6, l_7, l_8, l_9, l_10, l_11, l_12, l_13, l_14, l_15, l_16, l_17, l_18, l_19, l_20, l_21, l_22, l_23, l_24, l_25, l_26, l_27, l_28, l_29, l_30, l_32, l_33, l_34, l_35, l_36, l_37, l_38, l_39, l_50, l_60, l_99, l_100, l_150, l_160, l_240, l_250, l_300, l_400, l_402, l_403, l_420, l_500, l_600, l_840, l_1000, l_1024, l_2000, l_2047, l_2048, l_10000, l_25600, l_500000, c_sort hP hN hk, t2, hY, y0, c_person hP hN hk, c_hour hP hN hk, c_placeOf hC hW]; done) | omega)) | with_reducible apply Ok.jnU | with_reducible apply Ok.letsU | with_reducible apply Ok.elL | with_reducible apply Ok.elR | ((with_reducible apply Ok.gdT); · exact bI_nar _)))
  have est : E_X10_standers n S w (plI W (P 2 k) (P 1 k)) (nI h) = some (bs (wStand W nD (wPl W (P 2 k) (P 1 k)) h) (W 0 1)) := by
    unfold E_X10_standers plI
    by_cases h0 : 0 < W 0 0
    · have hp := wPl_lt hW h0 (P 2 k) (P 1 k)
      simp only [h0, if_true]
      simp (disch := omega) only [↓reduceIte, Option.bind_some, jn, lets, Sum.elim_inl, Sum.elim_inr, if_true, if_false, rd_nI, wr_nI, rd_z, rd_o, wr_z, wr_o, nI_1, nI_add, pk_mul, nI_leI, nI_ltI, nI_eq, z_le, le_z, z_lt, lt_z, eq_z, eq_o, le_o, o_le, lt_o, o_lt, eq_m1, eq_m2, m1_eq, m2_eq, m1_lt, m1_le, o_z, z_o, m1_z, m1_o, m2_z, m2_o, m2_m1, z_lz, z_lo, o_lz, o_ez, z_ez, z_eo, m2_lt, m2_le, leF, leT, ltF, ltT, eqF, eqT, bI_z, bI_o, sh1, sh0, not_true_eq_false, not_false_eq_true, ne_eq, Bool.true_eq_false, Bool.false_eq_true, true_and, and_true, false_and, and_false, l_2, l_3, l_4, l_5, l_6, l_7, l_8, l_9, l_10, l_11, l_12, l_13, l_14, l_15, l_16, l_17, l_18, l_19, l_20, l_21, l_22, l_23, l_24, l_25, l_26, l_27, l_28, l_29, l_30, l_32, l_33, l_34, l_35, l_36, l_37, l_38, l_39, l_50, l_60, l_99, l_100, l_150, l_160, l_240, l_250, l_300, l_400, l_402, l_403, l_420, l_500, l_600, l_840, l_1000, l_1024, l_2000, l_2047, l_2048, l_10000, l_25600, l_500000, g_sta hC]
    · simp only [h0, if_false]
      simp (disch := omega) only [↓reduceIte, Option.bind_some, jn, lets, Sum.elim_inl, Sum.elim_inr, if_true, if_false, rd_nI, wr_nI, rd_z, rd_o, wr_z, wr_o, nI_1, nI_add, pk_mul, nI_leI, nI_ltI, nI_eq, z_le, le_z, z_lt, lt_z, eq_z, eq_o, le_o, o_le, lt_o, o_lt, eq_m1, eq_m2, m1_eq, m2_eq, m1_lt, m1_le, o_z, z_o, m1_z, m1_o, m2_z, m2_o, m2_m1, z_lz, z_lo, o_lz, o_ez, z_ez, z_eo, m2_lt, m2_le, leF, leT, ltF, ltT, eqF, eqT, bI_z, bI_o, sh1, sh0, not_true_eq_false, not_false_eq_true, ne_eq, Bool.true_eq_false, Bool.false_eq_true, true_and, and_true, false_and, and_false, l_2, l_3, l_4, l_5, l_6, l_7, l_8, l_9, l_10, l_11, l_12, l_13, l_14, l_15, l_16, l_17, l_18, l_19, l_20, l_21, l_22, l_23, l_24, l_25, l_26, l_27, l_28, l_29, l_30, l_32, l_33, l_34, l_35, l_36, l_37, l_38, l_39, l_50, l_60, l_99, l_100, l_150, l_160, l_240, l_250, l_300, l_400, l_402, l_403, l_420, l_500, l_600, l_840, l_1000, l_1024, l_2000, l_2047, l_2048, l_10000, l_25600, l_500000]
      rw [bs_congr (Q := fun _ => false) (fun i _ => wStand_0 (by omega)), bs_false]
  apply Ok.step est
  apply Ok.step (c_thing hP hN hk)
  rw [bs_and (by omega), wStand_D, nI_1]
  obtain ⟨S', e, d, hK⟩ := c_learnU (h := h + 1) (T := wRead W P D Y h k) (x := bs (wStand W D (wPl W (P 2 k) (P 1 k)) h) (W 0 1)) hG hn (bs_hi (by omega)) hg (t := P 4 k) (by omega) (by omega) (fun p t' hp ht' => by
    rw [bt_lt (by omega) hp]
    unfold wRead
    rw [decide_eq_true hh, decide_eq_true t2, decide_eq_true y0, dec_comm (P 4 k) t', Bool.and_comm]
    simp)
  apply Ok.step e
  exact Ok.ret ⟨Xc_XK d (by omega), hK, fun j => d.2 _ _ (by simp only [Xc, XK, XA, XM, XP, XD, XF, XG, X1, X61, Bool.or_eq_false_iff, beq_eq_false_iff_ne, decide_eq_false_iff_not, Bool.and_eq_false_iff, Bool.or_eq_true, beq_iff_eq, decide_eq_true_eq, Bool.and_eq_true, ne_eq, true_and, and_true, or_true, true_or, false_or, or_false, and_self, not_true_eq_false, not_false_eq_true]; try omega), fun j => d.2 _ _ (by simp only [Xc, XK, XA, XM, XP, XD, XF, XG, X1, X61, Bool.or_eq_false_iff, beq_eq_false_iff_ne, decide_eq_false_iff_not, Bool.and_eq_false_iff, Bool.or_eq_true, beq_iff_eq, decide_eq_true_eq, Bool.and_eq_true, ne_eq, true_and, and_true, or_true, true_or, false_or, or_false, and_self, not_true_eq_false, not_false_eq_true]; try omega), d.2 _ _ (by simp only [Xc, XK, XA, XM, XP, XD, XF, XG, X1, X61, Bool.or_eq_false_iff, beq_eq_false_iff_ne, decide_eq_false_iff_not, Bool.and_eq_false_iff, Bool.or_eq_true, beq_iff_eq, decide_eq_true_eq, Bool.and_eq_true, ne_eq, true_and, and_true, or_true, true_or, false_or, or_false, and_self, not_true_eq_false, not_false_eq_true]; try omega), d.2 _ _ (by simp only [Xc, XK, XA, XM, XP, XD, XF, XG, X1, X61, Bool.or_eq_false_iff, beq_eq_false_iff_ne, decide_eq_false_iff_not, Bool.and_eq_false_iff, Bool.or_eq_true, beq_iff_eq, decide_eq_true_eq, Bool.and_eq_true, ne_eq, true_and, and_true, or_true, true_or, false_or, or_false, and_self, not_true_eq_false, not_false_eq_true]; try omega)⟩
end CG2
