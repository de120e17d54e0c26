/-! ===== days by lots ===== -/
theorem DDs_iff {seed frail : Int32} {m p : Nat} (hp : p < m) : ∀ h, DDs seed frail m h p = true ↔ ∃ h', h' ≤ h ∧ LTs seed frail h' p = true := by
  intro h
  induction h with
  | zero =>
    constructor
    · intro z; cases z
    · rintro ⟨h', h1, h2⟩
      rw [show h' = 0 by omega] at h2
      simp [LTs] at h2
  | succ h ih =>
    rw [DDs, Bool.or_eq_true, ih, decide_eq_true hp, Bool.true_and]
    constructor
    · rintro (⟨h', h1, h2⟩ | h1)
      · exact ⟨h', by omega, h2⟩
      · exact ⟨h + 1, Nat.le_refl _, h1⟩
    · rintro ⟨h', h1, h2⟩
      by_cases e : h' = h + 1
      · subst e; exact Or.inr h2
      · exact Or.inl ⟨h', by omega, h2⟩
section LOT
variable {W : VW} {V : VL} {tw en sd : Nat} {P : PL} {N : Nat} {H : HL} {n : Nat} {S : ST}
theorem c_lotN {a b : Int32} : E_X11_lot n S (nI 100) a b = some (lotV a b) := c_lot
theorem c_draw {seed frail : Int32} {m : Nat} (hm : m ≤ 10) (hn : 30000 ≤ n) (hf : frail ≠ -1) : Ok (E_X1_drawDeaths n S 82 seed frail (nI m)) (fun S' => Df (Xc 87) S S' ∧ Dth 82 m (DDs seed frail m) S') := by
  unfold E_X1_drawDeaths
  have e1 : E_X1_nobodyDies n S 82 = some (fillS S 87 10 99) := rfl
  apply Ok.step e1
  have d1 : Df (Xc 87) S (fillS S 87 10 99) := (Df.refl _ _).set (fun _ => rfl)
  have f1 : ∀ p, p < 10 → (fillS S 87 10 99).1 87 p = nI 99 := fun p hp => by
    show (setC S 87 _).1 87 p = _
    rw [setC_eq, if_pos hp]; rfl
  generalize fillS S 87 10 99 = S1 at *
  let OKd : Nat → Nat → Prop := fun p d => (d = 99 ∧ ∀ h, 1 ≤ h → h < 24 → LTs seed frail h p = false) ∨ (1 ≤ d ∧ d < 24 ∧ LTs seed frail d p = true ∧ ∀ h, 1 ≤ h → h < d → LTs seed frail h p = false)
  refine bindL (fun i q => q.1 = nI i ∧ Df (Xc 87) S q.2 ∧ (∀ p, i ≤ p → p < 10 → q.2.1 87 p = nI 99) ∧ ∀ p, p < i → ∃ d, q.2.1 87 p = nI d ∧ OKd p d)
    (fun S' => Df (Xc 87) S S' ∧ ∀ p, p < m → ∃ d, S'.1 87 p = nI d ∧ OKd p d) 0 m (Nat.zero_le _) (by omega) ⟨rfl, d1, fun p _ hp => f1 p hp, fun p hp => absurd hp (by omega)⟩ ?_ ?_ ?_
  · rintro i ⟨x, S2⟩ _ hi ⟨rfl, d2, f2, g2⟩
    dsimp only at d2 f2 g2 ⊢
    refine Ok.ifF (by simp (disch := omega) only [↓reduceIte, Option.bind_some, jn, lets, Sum.elim_inl, Sum.elim_inr, if_true, if_false, rd_nI, wr_nI, rd_z, rd_o, wr_z, wr_o, nI_1, nI_add, pk_mul, nI_leI, nI_ltI, nI_eq, z_le, le_z, z_lt, lt_z, eq_z, eq_o, le_o, o_le, lt_o, o_lt, eq_m1, eq_m2, m1_eq, m2_eq, m1_lt, m1_le, o_z, z_o, m1_z, m1_o, m2_z, m2_o, m2_m1, z_lz, z_lo, o_lz, o_ez, z_ez, z_eo, m2_lt, m2_le, leF, leT, ltF, ltT, eqF, eqT, bI_z, bI_o, sh1, sh0, not_true_eq_false, not_false_eq_true, ne_eq, Bool.true_eq_false, Bool.false_eq_true, true_and, and_true, false_and, and_false, l_2, l_3, l_4, l_5, l_6, l_7, l_8, l_9, l_10, l_11, l_12, l_13, l_14, l_15, l_16, l_17, l_18, l_19, l_20, l_21, l_22, l_23, l_24, l_25, l_26, l_27, l_28, l_29, l_30, l_32, l_33, l_34, l_35, l_36, l_37, l_38, l_39, l_50, l_60, l_99, l_100, l_150, l_160, l_240, l_250, l_300, l_400, l_402, l_403, l_420, l_500, l_600, l_840, l_1000, l_1024, l_2000, l_2047, l_2048, l_10000, l_25600, l_500000]) (Ok.ifF (by simp (disch := omega) only [↓reduceIte, Option.bind_some, jn, lets, Sum.elim_inl, Sum.elim_inr, if_true, if_false, rd_nI, wr_nI, rd_z, rd_o, wr_z, wr_o, nI_1, nI_add, pk_mul, nI_leI, nI_ltI, nI_eq, z_le, le_z, z_lt, lt_z, eq_z, eq_o, le_o, o_le, lt_o, o_lt, eq_m1, eq_m2, m1_eq, m2_eq, m1_lt, m1_le, o_z, z_o, m1_z, m1_o, m2_z, m2_o, m2_m1, z_lz, z_lo, o_lz, o_ez, z_ez, z_eo, m2_lt, m2_le, leF, leT, ltF, ltT, eqF, eqT, bI_z, bI_o, sh1, sh0, not_true_eq_false, not_false_eq_true, ne_eq, Bool.true_eq_false, Bool.false_eq_true, true_and, and_true, false_and, and_false, l_2, l_3, l_4, l_5, l_6, l_7, l_8, l_9, l_10, l_11, l_12, l_13, l_14, l_15, l_16, l_17, l_18, l_19, l_20, l_21, l_22, l_23, l_24, l_25, l_26, l_27, l_28, l_29, l_30, l_32, l_33, l_34, l_35, l_36, l_37, l_38, l_39, l_50, l_60, l_99, l_100, l_150, l_160, l_240, l_250, l_300, l_400, l_402, l_403, l_420, l_500, l_600, l_840, l_1000, l_1024, l_2000, l_2047, l_2048, l_10000, l_25600, l_500000]) ?_)
    refine bindL (fun h q => q.1 = nI h ∧ Df (Xc 87) S q.2 ∧ (∀ p, p ≠ i → q.2.1 87 p = S2.1 87 p) ∧ ∃ d, q.2.1 87 i = nI d ∧ ((d = 99 ∧ ∀ h', 1 ≤ h' → h' < h → LTs seed frail h' i = false) ∨ (1 ≤ d ∧ d < h ∧ LTs seed frail d i = true ∧ ∀ h', 1 ≤ h' → h' < d → LTs seed frail h' i = false)))
      (fun S' => Df (Xc 87) S S' ∧ (∀ p, p ≠ i → S'.1 87 p = S2.1 87 p) ∧ ∃ d, S'.1 87 i = nI d ∧ OKd i d) 1 24 (by decide) (by omega) ⟨rfl, d2, fun _ _ => rfl, 99, f2 i (Nat.le_refl _) (by omega), Or.inl ⟨rfl, fun h' h1 h2 => absurd h1 (by omega)⟩⟩ ?_ ?_ ?_
    · rintro h ⟨x, S3⟩ h1 h2 ⟨rfl, d3, f3, d, e3, hd⟩
      dsimp only at d3 f3 e3 ⊢
      have hfr : (frail = -1) = False := eq_false hf
      rcases hd with ⟨rfl, hd⟩ | ⟨hd1, hd2, hd3, hd4⟩
      · by_cases c : frail ≤ lotV seed (nI (100 * h + i))
        · have hl : LTs seed frail h i = false := by
            have : ¬ lotV seed (nI (100 * h + i)) < frail := Int32.not_lt.mpr c
            simp [LTs, this]
          (repeat (first | ((with_reducible apply Ok.step); · ((try simp (disch := omega) only [↓reduceIte, Option.bind_some, Sum.elim_inl, Sum.elim_inr, if_true, if_false, rd_nI, wr_nI, rd_z, rd_o, wr_z, wr_o, nI_1, nI_add, pk_mul, nI_leI, nI_ltI, nI_eq, z_le, le_z, z_lt, lt_z, eq_z, eq_o, le_o, o_le, lt_o, o_lt, eq_m1, eq_m2, m1_eq, m2_eq, m1_lt, m1_le, o_z, z_o, m1_z, m1_o, m2_z, m2_o, m2_m1, z_lz, z_lo, o_lz, o_ez, z_ez, z_eo, m2_lt, m2_le, leF, leT, ltF, ltT, eqF, eqT, bI_z, bI_o, sh1, sh0, not_true_eq_false, not_false_eq_true, ne_eq, Bool.true_eq_false, Bool.false_eq_true, true_and, and_true, false_and, and_false, l_2, l_3, l_4, l_5, l_6, l_7, l_8, l_9, l_10, l_11, l_12, l_13, l_14, l_15, l_16, l_17, l_18, l_19, l_20, l_21, l_22, l_23, l_24, l_25, l_26, l_27, l_28, l_29, l_30, l_32, l_33, l_34, l_35, l_36, l_37, l_38, l_39, l_50, l_60, l_99, l_100, l_150, l_160, l_240, l_250, l_300, l_400, l_402, l_403, l_420, l_500, l_600, l_840, l_1000, l_1024, l_2000, l_2047, l_2048, l_10000, l_25600, l_500000, e3, c_lotN, c]); with_reducible exact rfl)) | ((with_reducible apply Ok.ifT); · (first | (simp (disch := omega) only [↓reduceIte, Option.bind_some, Sum.elim_inl, Sum.elim_inr, if_true, if_false, rd_nI, wr_nI, rd_z, rd_o, wr_z, wr_o, nI_1, nI_add, pk_mul, nI_leI, nI_ltI, nI_eq, z_le, le_z, z_lt, lt_z, eq_z, eq_o, le_o, o_le, lt_o, o_lt, eq_m1, eq_m2, m1_eq, m2_eq, m1_lt, m1_le, o_z, z_o, m1_z, m1_o, m2_z, m2_o, m2_m1, z_lz, z_lo, o_lz, o_ez, z_ez, z_eo, m2_lt, m2_le, leF, leT, ltF, ltT, eqF, eqT, bI_z, bI_o, sh1, sh0, not_true_eq_false, not_false_eq_true, ne_eq, Bool.true_eq_false, Bool.false_eq_true, true_and, and_true, false_and, and_false, l_2, l_3, l_4, l_5, l_6, l_7, l_8, l_9, l_10, l_11, l_12, l_13, l_14, l_15, l_16, l_17, l_18, l_19, l_20, l_21, l_22, l_23, l_24, l_25, l_26, l_27, l_28, l_29, l_30, l_32, l_33, l_34, l_35, l_36, l_37, l_38, l_39, l_50, l_60, l_99, l_100, l_150, l_160, l_240, l_250, l_300, l_400, l_402, l_403, l_420, l_500, l_600, l_840, l_1000, l_1024, l_2000, l_2047, l_2048, l_10000, l_25600, l_500000, e3, c_lotN, c]; done) | omega)) | ((with_reducible apply Ok.ifF); · (first | (simp (disch := omega) only [↓reduceIte, Option.bind_some, Sum.elim_inl, Sum.elim_inr, if_true, if_false, rd_nI, wr_nI, rd_z, rd_o, wr_z, wr_o, nI_1, nI_add, pk_mul, nI_leI, nI_ltI, nI_eq, z_le, le_z, z_lt, lt_z, eq_z, eq_o, le_o, o_le, lt_o, o_lt, eq_m1, eq_m2, m1_eq, m2_eq, m1_lt, m1_le, o_z, z_o, m1_z, m1_o, m2_z, m2_o, m2_m1, z_lz, z_lo, o_lz, o_ez, z_ez, z_eo, m2_lt, m2_le, leF, leT, ltF, ltT, eqF, eqT, bI_z, bI_o, sh1, sh0, not_true_eq_false, not_false_eq_true, ne_eq, Bool.true_eq_false, Bool.false_eq_true, true_and, and_true, false_and, and_false, l_2, l_3, l_4, l_5, l_6, l_7, l_8, l_9, l_10, l_11, l_12, l_13, l_14, l_15, l_16, l_17, l_18, l_19, l_20, l_21, l_22, l_23, l_24, l_25, l_26, l_27, l_28, l_29, l_30, l_32, l_33, l_34, l_35, l_36, l_37, l_38, l_39, l_50, l_60, l_99, l_100, l_150, l_160, l_240, l_250, l_300, l_400, l_402, l_403, l_420, l_500, l_600, l_840, l_1000, l_1024, l_2000, l_2047, l_2048, l_10000, l_25600, l_500000, e3, c_lotN, c]; done) | omega)) | with_reducible apply Ok.jnU | with_reducible apply Ok.letsU | with_reducible apply Ok.elL | with_reducible apply Ok.elR | ((with_reducible apply Ok.gdT); · exact bI_nar _)))
          refine Ok.inl ⟨nI_1 _, d3, f3, 99, e3, Or.inl ⟨rfl, fun h' h3 h4 => ?_⟩⟩
          by_cases e : h' = h
          · subst e; exact hl
          · exact hd h' h3 (by omega)
        · have hl : LTs seed frail h i = true := by
            have h5 : lotV seed (nI (100 * h + i)) < frail := Int32.not_le.mp c
            have h6 : 0 < h := by omega
            simp [LTs, h5, h6, hf]
          (repeat (first | ((with_reducible apply Ok.step); · ((try simp (disch := omega) only [↓reduceIte, Option.bind_some, Sum.elim_inl, Sum.elim_inr, if_true, if_false, rd_nI, wr_nI, rd_z, rd_o, wr_z, wr_o, nI_1, nI_add, pk_mul, nI_leI, nI_ltI, nI_eq, z_le, le_z, z_lt, lt_z, eq_z, eq_o, le_o, o_le, lt_o, o_lt, eq_m1, eq_m2, m1_eq, m2_eq, m1_lt, m1_le, o_z, z_o, m1_z, m1_o, m2_z, m2_o, m2_m1, z_lz, z_lo, o_lz, o_ez, z_ez, z_eo, m2_lt, m2_le, leF, leT, ltF, ltT, eqF, eqT, bI_z, bI_o, sh1, sh0, not_true_eq_false, not_false_eq_true, ne_eq, Bool.true_eq_false, Bool.false_eq_true, true_and, and_true, false_and, and_false, l_2, l_3, l_4, l_5, l_6, l_7, l_8, l_9, l_10, l_11, l_12, l_13, l_14, l_15, l_16, l_17, l_18, l_19, l_20, l_21, l_22, l_23, l_24, l_25, l_26, l_27, l_28, l_29, l_30, l_32, l_33, l_34, l_35, l_36, l_37, l_38, l_39, l_50, l_60, l_99, l_100, l_150, l_160, l_240, l_250, l_300, l_400, l_402, l_403, l_420, l_500, l_600, l_840, l_1000, l_1024, l_2000, l_2047, l_2048, l_10000, l_25600, l_500000, e3, c_lotN, c]); with_reducible exact rfl)) | ((with_reducible apply Ok.ifT); · (first | (simp (disch := omega) only [↓reduceIte, Option.bind_some, Sum.elim_inl, Sum.elim_inr, if_true, if_false, rd_nI, wr_nI, rd_z, rd_o, wr_z, wr_o, nI_1, nI_add, pk_mul, nI_leI, nI_ltI, nI_eq, z_le, le_z, z_lt, lt_z, eq_z, eq_o, le_o, o_le, lt_o, o_lt, eq_m1, eq_m2, m1_eq, m2_eq, m1_lt, m1_le, o_z, z_o, m1_z, m1_o, m2_z, m2_o, m2_m1, z_lz, z_lo, o_lz, o_ez, z_ez, z_eo, m2_lt, m2_le, leF, leT, ltF, ltT, eqF, eqT, bI_z, bI_o, sh1, sh0, not_true_eq_false, not_false_eq_true, ne_eq, Bool.true_eq_false, Bool.false_eq_true, true_and, and_true, false_and, and_false, l_2, l_3, l_4, l_5, l_6, l_7, l_8, l_9, l_10, l_11, l_12, l_13, l_14, l_15, l_16, l_17, l_18, l_19, l_20, l_21, l_22, l_23, l_24, l_25, l_26, l_27, l_28, l_29, l_30, l_32, l_33, l_34, l_35, l_36, l_37, l_38, l_39, l_50, l_60, l_99, l_100, l_150, l_160, l_240, l_250, l_300, l_400, l_402, l_403, l_420, l_500, l_600, l_840, l_1000, l_1024, l_2000, l_2047, l_2048, l_10000, l_25600, l_500000, e3, c_lotN, c]; done) | omega)) | ((with_reducible apply Ok.ifF); · (first | (simp (disch := omega) only [↓reduceIte, Option.bind_some, Sum.elim_inl, Sum.elim_inr, if_true, if_false, rd_nI, wr_nI, rd_z, rd_o, wr_z, wr_o, nI_1, nI_add, pk_mul, nI_leI, nI_ltI, nI_eq, z_le, le_z, z_lt, lt_z, eq_z, eq_o, le_o, o_le, lt_o, o_lt, eq_m1, eq_m2, m1_eq, m2_eq, m1_lt, m1_le, o_z, z_o, m1_z, m1_o, m2_z, m2_o, m2_m1, z_lz, z_lo, o_lz, o_ez, z_ez, z_eo, m2_lt, m2_le, leF, leT, ltF, ltT, eqF, eqT, bI_z, bI_o, sh1, sh0, not_true_eq_false, not_false_eq_true, ne_eq, Bool.true_eq_false, Bool.false_eq_true, true_and, and_true, false_and, and_false, l_2, l_3, l_4, l_5, l_6, l_7, l_8, l_9, l_10, l_11, l_12, l_13, l_14, l_15, l_16, l_17, l_18, l_19, l_20, l_21, l_22, l_23, l_24, l_25, l_26, l_27, l_28, l_29, l_30, l_32, l_33, l_34, l_35, l_36, l_37, l_38, l_39, l_50, l_60, l_99, l_100, l_150, l_160, l_240, l_250, l_300, l_400, l_402, l_403, l_420, l_500, l_600, l_840, l_1000, l_1024, l_2000, l_2047, l_2048, l_10000, l_25600, l_500000, e3, c_lotN, c]; done) | omega)) | with_reducible apply Ok.jnU | with_reducible apply Ok.letsU | with_reducible apply Ok.elL | with_reducible apply Ok.elR | ((with_reducible apply Ok.gdT); · exact bI_nar _)))
          refine Ok.inl ⟨nI_1 _, d3.up rfl, fun p hp => ?_, h, ?_, Or.inr ⟨h1, by omega, hl, fun h' h3 h4 => hd h' h3 h4⟩⟩
          · dsimp only
            rw [upI_at, if_neg (by omega)]
            exact f3 p hp
          · dsimp only
            rw [upI_at, if_pos ⟨rfl, rfl⟩]
      · (repeat (first | ((with_reducible apply Ok.step); · ((try simp (disch := omega) only [↓reduceIte, Option.bind_some, Sum.elim_inl, Sum.elim_inr, if_true, if_false, rd_nI, wr_nI, rd_z, rd_o, wr_z, wr_o, nI_1, nI_add, pk_mul, nI_leI, nI_ltI, nI_eq, z_le, le_z, z_lt, lt_z, eq_z, eq_o, le_o, o_le, lt_o, o_lt, eq_m1, eq_m2, m1_eq, m2_eq, m1_lt, m1_le, o_z, z_o, m1_z, m1_o, m2_z, m2_o, m2_m1, z_lz, z_lo, o_lz, o_ez, z_ez, z_eo, m2_lt, m2_le, leF, leT, ltF, ltT, eqF, eqT, bI_z, bI_o, sh1, sh0, not_true_eq_false, not_false_eq_true, ne_eq, Bool.true_eq_false, Bool.false_eq_true, true_and, and_true, false_and, and_false, l_2, l_3, l_4, l_5, l_6, l_7, l_8, l_9, l_10, l_11, l_12, l_13, l_14, l_15, l_16, l_17, l_18, l_19, l_20, l_21, l_22, l_23, l_24, l_25, l_26, l_27, l_28, l_29, l_30, l_32, l_33, l_34, l_35, l_36, l_37, l_38, l_39, l_50, l_60, l_99, l_100, l_150, l_160, l_240, l_250, l_300, l_400, l_402, l_403, l_420, l_500, l_600, l_840, l_1000, l_1024, l_2000, l_2047, l_2048, l_10000, l_25600, l_500000, e3]); with_reducible exact rfl)) | ((with_reducible apply Ok.ifT); · (first | (simp (disch := omega) only [↓reduceIte, Option.bind_some, Sum.elim_inl, Sum.elim_inr, if_true, if_false, rd_nI, wr_nI, rd_z, rd_o, wr_z, wr_o, nI_1, nI_add, pk_mul, nI_leI, nI_ltI, nI_eq, z_le, le_z, z_lt, lt_z, eq_z, eq_o, le_o, o_le, lt_o, o_lt, eq_m1, eq_m2, m1_eq, m2_eq, m1_lt, m1_le, o_z, z_o, m1_z, m1_o, m2_z, m2_o, m2_m1, z_lz, z_lo, o_lz, o_ez, z_ez, z_eo, m2_lt, m2_le, leF, leT, ltF, ltT, eqF, eqT, bI_z, bI_o, sh1, sh0, not_true_eq_false, not_false_eq_true, ne_eq, Bool.true_eq_false, Bool.false_eq_true, true_and, and_true, false_and, and_false, l_2, l_3, l_4, l_5, l_6, l_7, l_8, l_9, l_10, l_11, l_12, l_13, l_14, l_15, l_16, l_17, l_18, l_19, l_20, l_21, l_22, l_23, l_24, l_25, l_26, l_27, l_28, l_29, l_30, l_32, l_33, l_34, l_35, l_36, l_37, l_38, l_39, l_50, l_60, l_99, l_100, l_150, l_160, l_240, l_250, l_300, l_400, l_402, l_403, l_420, l_500, l_600, l_840, l_1000, l_1024, l_2000, l_2047, l_2048, l_10000, l_25600, l_500000, e3]; done) | omega)) | ((with_reducible apply Ok.ifF); · (first | (simp (disch := omega) only [↓reduceIte, Option.bind_some, Sum.elim_inl, Sum.elim_inr, if_true, if_false, rd_nI, wr_nI, rd_z, rd_o, wr_z, wr_o, nI_1, nI_add, pk_mul, nI_leI, nI_ltI, nI_eq, z_le, le_z, z_lt, lt_z, eq_z, eq_o, le_o, o_le, lt_o, o_lt, eq_m1, eq_m2, m1_eq, m2_eq, m1_lt, m1_le, o_z, z_o, m1_z, m1_o, m2_z, m2_o, m2_m1, z_lz, z_lo, o_lz, o_ez, z_ez, z_eo, m2_lt, m2_le, leF, leT, ltF, ltT, eqF, eqT, bI_z, bI_o, sh1, sh0, not_true_eq_false, not_false_eq_true, ne_eq, Bool.true_eq_false, Bool.false_eq_true, true_and, and_true, false_and, and_false, l_2, l_3, l_4, l_5, l_6, l_7, l_8, l_9, l_10, l_11, l_12, l_13, l_14, l_15, l_16, l_17, l_18, l_19, l_20, l_21, l_22, l_23, l_24, l_25, l_26, l_27, l_28, l_29, l_30, l_32, l_33, l_34, l_35, l_36, l_37, l_38, l_39, l_50, l_60, l_99, l_100, l_150, l_160, l_240, l_250, l_300, l_400, l_402, l_403, l_420, l_500, l_600, l_840, l_1000, l_1024, l_2000, l_2047, l_2048, l_10000, l_25600, l_500000, e3]; done) | omega)) | with_reducible apply Ok.jnU | with_reducible apply Ok.letsU | with_reducible apply Ok.elL | with_reducible apply Ok.elR | ((with_reducible apply Ok.gdT); · exact bI_nar _)))
        exact Ok.inr ⟨d3, f3, d, e3, Or.inr ⟨hd1, by omega, hd3, hd4⟩⟩
    · rintro ⟨x, S3⟩ ⟨rfl, d3, f3, d, e3, hd⟩
      dsimp only at d3 f3 e3 ⊢
      (repeat (first | ((with_reducible apply Ok.step); · ((try simp (disch := omega) only [↓reduceIte, Option.bind_some, Sum.elim_inl, Sum.elim_inr, if_true, if_false, rd_nI, wr_nI, rd_z, rd_o, wr_z, wr_o, nI_1, nI_add, pk_mul, nI_leI, nI_ltI, nI_eq, z_le, le_z, z_lt, lt_z, eq_z, eq_o, le_o, o_le, lt_o, o_lt, eq_m1, eq_m2, m1_eq, m2_eq, m1_lt, m1_le, o_z, z_o, m1_z, m1_o, m2_z, m2_o, m2_m1, z_lz, z_lo, o_lz, o_ez, z_ez, z_eo, m2_lt, m2_le, leF, leT, ltF, ltT, eqF, eqT, bI_z, bI_o, sh1, sh0, not_true_eq_false, not_false_eq_true, ne_eq, Bool.true_eq_false, Bool.false_eq_true, true_and, and_true, false_and, and_false, l_2, l_3, l_4, l_5, l_6, l_7, l_8, l_9, l_10, l_11, l_12, l_13, l_14, l_15, l_16, l_17, l_18, l_19, l_20, l_21, l_22, l_23, l_24, l_25, l_26, l_27, l_28, l_29, l_30, l_32, l_33, l_34, l_35, l_36, l_37, l_38, l_39, l_50, l_60, l_99, l_100, l_150, l_160, l_240, l_250, l_300, l_400, l_402, l_403, l_420, l_500, l_600, l_840, l_1000, l_1024, l_2000, l_2047, l_2048, l_10000, l_25600, l_500000]); with_reducible exact rfl)) | ((with_reducible apply Ok.ifT); · (first | (simp (disch := omega) only [↓reduceIte, Option.bind_some, Sum.elim_inl, Sum.elim_inr, if_true, if_false, rd_nI, wr_nI, rd_z, rd_o, wr_z, wr_o, nI_1, nI_add, pk_mul, nI_leI, nI_ltI, nI_eq, z_le, le_z, z_lt, lt_z, eq_z, eq_o, le_o, o_le, lt_o, o_lt, eq_m1, eq_m2, m1_eq, m2_eq, m1_lt, m1_le, o_z, z_o, m1_z, m1_o, m2_z, m2_o, m2_m1, z_lz, z_lo, o_lz, o_ez, z_ez, z_eo, m2_lt, m2_le, leF, leT, ltF, ltT, eqF, eqT, bI_z, bI_o, sh1, sh0, not_true_eq_false, not_false_eq_true, ne_eq, Bool.true_eq_false, Bool.false_eq_true, true_and, and_true, false_and, and_false, l_2, l_3, l_4, l_5, l_6, l_7, l_8, l_9, l_10, l_11, l_12, l_13, l_14, l_15, l_16, l_17, l_18, l_19, l_20, l_21, l_22, l_23, l_24, l_25, l_26, l_27, l_28, l_29, l_30, l_32, l_33, l_34, l_35, l_36, l_37, l_38, l_39, l_50, l_60, l_99, l_100, l_150, l_160, l_240, l_250, l_300, l_400, l_402, l_403, l_420, l_500, l_600, l_840, l_1000, l_1024, l_2000, l_2047, l_2048, l_10000, l_25600, l_500000]; done) | omega)) | ((with_reducible apply Ok.ifF); · (first | (simp (disch := omega) only [↓reduceIte, Option.bind_some, Sum.elim_inl, Sum.elim_inr, if_true, if_false, rd_nI, wr_nI, rd_z, rd_o, wr_z, wr_o, nI_1, nI_add, pk_mul, nI_leI, nI_ltI, nI_eq, z_le, le_z, z_lt, lt_z, eq_z, eq_o, le_o, o_le, lt_o, o_lt, eq_m1, eq_m2, m1_eq, m2_eq, m1_lt, m1_le, o_z, z_o, m1_z, m1_o, m2_z, m2_o, m2_m1, z_lz, z_lo, o_lz, o_ez, z_ez, z_eo, m2_lt, m2_le, leF, leT, ltF, ltT, eqF, eqT, bI_z, bI_o, sh1, sh0, not_true_eq_false, not_false_eq_true, ne_eq, Bool.true_eq_false, Bool.false_eq_true, true_and, and_true, false_and, and_false, l_2, l_3, l_4, l_5, l_6, l_7, l_8, l_9, l_10, l_11, l_12, l_13, l_14, l_15, l_16, l_17, l_18, l_19, l_20, l_21, l_22, l_23, l_24, l_25, l_26, l_27, l_28, l_29, l_30, l_32, l_33, l_34, l_35, l_36, l_37, l_38, l_39, l_50, l_60, l_99, l_100, l_150, l_160, l_240, l_250, l_300, l_400, l_402, l_403, l_420, l_500, l_600, l_840, l_1000, l_1024, l_2000, l_2047, l_2048, l_10000, l_25600, l_500000]; done) | omega)) | with_reducible apply Ok.jnU | with_reducible apply Ok.letsU | with_reducible apply Ok.elL | with_reducible apply Ok.elR | ((with_reducible apply Ok.gdT); · exact bI_nar _)))
      exact Ok.inr ⟨d3, f3, d, e3, hd⟩
    · rintro S3 ⟨d3, f3, d, e3, hd⟩
      refine Ok.inl ⟨nI_1 _, d3, fun p h1 h2 => by dsimp only; rw [f3 p (by omega)]; exact f2 p (by omega) h2, fun p hp => ?_⟩
      dsimp only
      by_cases e : p = i
      · subst e; exact ⟨d, e3, hd⟩
      · rw [f3 p e]; exact g2 p (by omega)
  · rintro ⟨x, S2⟩ ⟨rfl, d2, f2, g2⟩
    dsimp only at d2 f2 g2 ⊢
    refine Ok.ifT (by simp (disch := omega) only [↓reduceIte, Option.bind_some, jn, lets, Sum.elim_inl, Sum.elim_inr, if_true, if_false, rd_nI, wr_nI, rd_z, rd_o, wr_z, wr_o, nI_1, nI_add, pk_mul, nI_leI, nI_ltI, nI_eq, z_le, le_z, z_lt, lt_z, eq_z, eq_o, le_o, o_le, lt_o, o_lt, eq_m1, eq_m2, m1_eq, m2_eq, m1_lt, m1_le, o_z, z_o, m1_z, m1_o, m2_z, m2_o, m2_m1, z_lz, z_lo, o_lz, o_ez, z_ez, z_eo, m2_lt, m2_le, leF, leT, ltF, ltT, eqF, eqT, bI_z, bI_o, sh1, sh0, not_true_eq_false, not_false_eq_true, ne_eq, Bool.true_eq_false, Bool.false_eq_true, true_and, and_true, false_and, and_false, l_2, l_3, l_4, l_5, l_6, l_7, l_8, l_9, l_10, l_11, l_12, l_13, l_14, l_15, l_16, l_17, l_18, l_19, l_20, l_21, l_22, l_23, l_24, l_25, l_26, l_27, l_28, l_29, l_30, l_32, l_33, l_34, l_35, l_36, l_37, l_38, l_39, l_50, l_60, l_99, l_100, l_150, l_160, l_240, l_250, l_300, l_400, l_402, l_403, l_420, l_500, l_600, l_840, l_1000, l_1024, l_2000, l_2047, l_2048, l_10000, l_25600, l_500000]) (Ok.inr ⟨d2, g2⟩)
  · rintro S2 ⟨d2, g2⟩
    refine Ok.ret ⟨d2, fun p hp => ?_⟩
    obtain ⟨d, e, hd⟩ := g2 p hp
    rcases hd with ⟨rfl, hd⟩ | ⟨hd1, hd2, hd3, hd4⟩
    · refine ⟨99, by decide, e, fun h hh => ?_⟩
      rw [DDs_iff hp]
      constructor
      · intro z; omega
      · rintro ⟨h', h1, h2⟩
        by_cases z : h' = 0
        · subst z; simp [LTs] at h2
        · rw [hd h' (by omega) (by omega)] at h2; cases h2
    · refine ⟨d, by omega, e, fun h hh => ?_⟩
      rw [DDs_iff hp]
      constructor
      · intro z; exact ⟨d, z, hd3⟩
      · rintro ⟨h', h1, h2⟩
        by_cases z : h' = 0
        · subst z; simp [LTs] at h2
        · rcases Nat.lt_or_ge h' d with y | y
          · rw [hd4 h' (by omega) y] at h2; cases h2
          · omega
abbrev lZ (W : VW) (V : VL) (P : PL) (N : Nat) (seed frail : Int32) : CS := cSt W V P N (DDs seed frail (W 0 1)) 24
theorem c_goDay {seed frail : Int32} (hC : CI W V tw en P N H S) (hW : WF W) (hPW : PWF W P N) (hn : 30000 ≤ n) (hf : frail ≠ -1) : Ok (E_X11_goDay n S tw seed frail) (fun S' => Df (XS tw) S S' ∧ CI W V tw en P N H S' ∧ CRes W V P N 24 (lZ W V P N seed frail) 82 S' ∧ Dth 82 (W 0 1) (DDs seed frail (W 0 1)) S') := by
  have hm1 : W 0 1 ≤ 10 := hW.mx (k := 1) (by decide)
  unfold E_X11_goDay
  apply Ok.step (x := nI (W 0 1)) (by simp (disch := omega) only [↓reduceIte, Option.bind_some, jn, lets, Sum.elim_inl, Sum.elim_inr, if_true, if_false, rd_nI, wr_nI, rd_z, rd_o, wr_z, wr_o, nI_1, nI_add, pk_mul, nI_leI, nI_ltI, nI_eq, z_le, le_z, z_lt, lt_z, eq_z, eq_o, le_o, o_le, lt_o, o_lt, eq_m1, eq_m2, m1_eq, m2_eq, m1_lt, m1_le, o_z, z_o, m1_z, m1_o, m2_z, m2_o, m2_m1, z_lz, z_lo, o_lz, o_ez, z_ez, z_eo, m2_lt, m2_le, leF, leT, ltF, ltT, eqF, eqT, bI_z, bI_o, sh1, sh0, not_true_eq_false, not_false_eq_true, ne_eq, Bool.true_eq_false, Bool.false_eq_true, true_and, and_true, false_and, and_false, l_2, l_3, l_4, l_5, l_6, l_7, l_8, l_9, l_10, l_11, l_12, l_13, l_14, l_15, l_16, l_17, l_18, l_19, l_20, l_21, l_22, l_23, l_24, l_25, l_26, l_27, l_28, l_29, l_30, l_32, l_33, l_34, l_35, l_36, l_37, l_38, l_39, l_50, l_60, l_99, l_100, l_150, l_160, l_240, l_250, l_300, l_400, l_402, l_403, l_420, l_500, l_600, l_840, l_1000, l_1024, l_2000, l_2047, l_2048, l_10000, l_25600, l_500000, g_n hC.1])
  obtain ⟨S1, e1, d1, hD⟩ := c_draw (S := S) (n := n) (seed := seed) hm1 hn hf
  apply Ok.step e1
  have d1' : Df (XS tw) S S1 := d1.mono (fun a j hx => by
    simp only [XS, Xc, Bool.or_eq_false_iff, decide_eq_false_iff_not, beq_eq_false_iff_ne] at hx ⊢
    omega)
  have hC1 := hC.dfS d1'
  obtain ⟨S2, e2, d2, r2⟩ := c_go hC1.1 (Or.inr rfl) hW hn hC1.2.1 hPW hD
  apply Ok.step e2
  have d2' : Df (XS tw) S1 S2 := d2.mono (fun a j hx => by
    simp only [XS, XK, Bool.or_eq_false_iff, decide_eq_false_iff_not, Bool.and_eq_false_iff, beq_eq_false_iff_ne] at hx ⊢
    omega)
  refine Ok.ret ⟨d1'.trans d2', hC1.dfS d2', r2, fun p hp => ?_⟩
  obtain ⟨d, h1, h2, h3⟩ := hD p hp
  have hw := hC.1.1
  exact ⟨d, h1, by rw [d2.2 _ _ (by simp only [Xc, XK, XA, XM, XP, XD, XF, XG, X1, X61, Bool.or_eq_false_iff, beq_eq_false_iff_ne, decide_eq_false_iff_not, Bool.and_eq_false_iff, Bool.or_eq_true, beq_iff_eq, decide_eq_true_eq, Bool.and_eq_true, ne_eq, true_and, and_true, or_true, true_or, false_or, or_false, and_self, not_true_eq_false, not_false_eq_true]; try omega)]; exact h2, h3⟩
theorem RI.weak {S' : ST} (hR : RI W V sd P N H S) (d : Df XSR S S') : RRep W sd S' ∧ RLw V W sd S' ∧ PRef P N S' := by
  have nx : ∀ a j, (a ≠ 137 ∧ a ≠ 138 ∧ (a < 144 ∨ 154 < a) ∧ (a ≠ 95 ∨ (j < 60 ∨ (61 < j ∧ j < 72)))) → XSR a j = false := fun a j h => by
    simp only [XSR, decide_eq_false_iff_not, Bool.or_eq_false_iff, Bool.and_eq_false_iff, beq_eq_false_iff_ne]
    omega
  exact ⟨hR.1.df d (fun a j h => nx a j (by omega)), hR.2.1.df d (fun a j h => nx a j (by simp only [lawC, decide_eq_true_eq] at h; omega)), hR.2.2.1.df d (fun a j h => nx a j (by omega))⟩
theorem r_lots {seed frail : Int32} (hR : RRep W sd S) (hL : RLw V W sd S) (hP : PRef P N S) (hW : WF W) (hPW : PWF W P N) (hn : 30000 ≤ n) : Ok (E_X12_goesByLots n S seed frail) (fun S' => Df XSR S S' ∧ S'.1 95 73 = -1 ∧ RH W P N 24 (lZ W V P N seed frail) (DDs seed frail (W 0 1) 23) S') := by
  unfold E_X12_goesByLots
  apply Ok.letsU
  apply Ok.letsU
  generalize hS1 : upI (upI S 95 72 seed) 95 73 frail = S1
  have d1 : Df (fun a j => a == 95 && (j == 72 || j == 73)) S S1 := by rw [← hS1]; exact ((Df.refl _ _).up rfl).up rfl
  have d1' : Df XSR S S1 := by rw [← hS1]; exact XSR_up (XSR_up (Df.refl _ _) (by omega)) (by omega)
  have nx : ∀ a j, (a ≠ 95 ∨ (j ≠ 72 ∧ j ≠ 73)) → (fun a j => a == 95 && (j == 72 || j == 73) : Nat → Nat → Bool) a j = false := fun a j h => by
    simp only [Bool.and_eq_false_iff, Bool.or_eq_false_iff, beq_eq_false_iff_ne]; exact h
  obtain ⟨S2, e2, d2, r2⟩ := r_goes (seed := seed) (frail := frail) (S := S1) (hR.df d1 (fun a j h => nx a j (by omega))) hW (hL.df d1 (fun a j h => nx a j (by simp only [lawC, decide_eq_true_eq] at h; omega))) hn (hP.df d1 (fun a j h => nx a j (by omega))) hPW (by rw [← hS1, upI_at, if_neg (by omega), upI_at, if_pos ⟨rfl, rfl⟩]) (by rw [← hS1, upI_at, if_pos ⟨rfl, rfl⟩])
  apply Ok.step e2
  apply Ok.letsU
  refine Ok.ret ⟨XSR_up (d1'.trans (XG_XSR d2)) (by omega), by rw [upI_at, if_pos ⟨rfl, rfl⟩], ?_⟩
  have dd : Df (fun a j => a == 95 && j == 73) S2 (upI S2 95 73 (-1)) := (Df.refl _ _).up rfl
  obtain ⟨h1, h2, h3, h4, h5, h6⟩ := r2
  have o : ∀ a j, a ≠ 95 ∨ j ≠ 73 → (upI S2 95 73 (-1)).1 a j = S2.1 a j := fun a j h => by rw [upI_at, if_neg (by omega)]
  exact ⟨fun j hj p hp => by rw [o _ _ (by omega)]; exact h1 j hj p hp, fun j hj hj2 p hp => by rw [o _ _ (by omega)]; exact h2 j hj hj2 p hp, fun k hk hk2 => by rw [o _ _ (by omega)]; exact h3 k hk hk2, fun s q t a1 a2 a3 => by rw [o _ _ (by omega)]; exact h4 s q t a1 a2 a3, fun a b h7 h8 => by rw [o _ _ (by omega)]; exact h5 a b h7 h8, by rw [o _ _ (by omega)]; exact h6⟩
/-- what somebody knows at the end, alive or not, of the first i; and what those alive know -/
def wEv (F : FT2) : Nat → Int32
  | 0 => 0
  | i + 1 => wEv F i ||| wK F 24 i
def wSt (F : FT2) (A : Nat → Bool) : Nat → Int32
  | 0 => 0
  | i + 1 => if A i = true then wSt F A i ||| wK F 24 i else wSt F A i
def wGone (W : VW) (V : VL) (P : PL) (N : Nat) (seed frail : Int32) : Int32 := wEv (lZ W V P N seed frail).1 (W 0 1) &&& (wSt (lZ W V P N seed frail).1 (fun p => !DDs seed frail (W 0 1) 23 p) (W 0 1) ^^^ (-1))
theorem lZ_99 {seed frail : Int32} (p t : Nat) : (lZ W V P N seed frail).1 p t ≤ 99 := by
  have h : (lZ W V P N seed frail).1 p t ≤ 24 ∨ (lZ W V P N seed frail).1 p t = 99 := cSt_F 24 p t
  omega
theorem c_gone {seed frail : Int32} (hC : CW W V tw S) (hW : WF W) (hn : 30000 ≤ n) (hR : CRes W V P N 24 (lZ W V P N seed frail) 82 S) (hD : Dth 82 (W 0 1) (DDs seed frail (W 0 1)) S) : E_X1_goneThings n S 82 tw = some (wGone W V P N seed frail) := by
  have hm1 : W 0 1 ≤ 10 := hW.mx (k := 1) (by decide)
  unfold E_X1_goneThings
  apply Ok.e
  apply Ok.step (c_alive (h := 23) hC hW hn hD (by decide))
  generalize hA : (fun p => !DDs seed frail (W 0 1) 23 p) = A
  refine bindP (fun i => (wEv (lZ W V P N seed frail).1 i, wSt (lZ W V P N seed frail).1 A i, nI i)) (wEv (lZ W V P N seed frail).1 (W 0 1), wSt (lZ W V P N seed frail).1 A (W 0 1)) 0 (W 0 1) (Nat.zero_le _) (by omega) rfl ?_ ?_ ?_
  · intro i _ hi
    apply Ok.step (x := nI (W 0 1)) (by simp (disch := omega) only [↓reduceIte, Option.bind_some, jn, lets, Sum.elim_inl, Sum.elim_inr, if_true, if_false, rd_nI, wr_nI, rd_z, rd_o, wr_z, wr_o, nI_1, nI_add, pk_mul, nI_leI, nI_ltI, nI_eq, z_le, le_z, z_lt, lt_z, eq_z, eq_o, le_o, o_le, lt_o, o_lt, eq_m1, eq_m2, m1_eq, m2_eq, m1_lt, m1_le, o_z, z_o, m1_z, m1_o, m2_z, m2_o, m2_m1, z_lz, z_lo, o_lz, o_ez, z_ez, z_eo, m2_lt, m2_le, leF, leT, ltF, ltT, eqF, eqT, bI_z, bI_o, sh1, sh0, not_true_eq_false, not_false_eq_true, ne_eq, Bool.true_eq_false, Bool.false_eq_true, true_and, and_true, false_and, and_false, l_2, l_3, l_4, l_5, l_6, l_7, l_8, l_9, l_10, l_11, l_12, l_13, l_14, l_15, l_16, l_17, l_18, l_19, l_20, l_21, l_22, l_23, l_24, l_25, l_26, l_27, l_28, l_29, l_30, l_32, l_33, l_34, l_35, l_36, l_37, l_38, l_39, l_50, l_60, l_99, l_100, l_150, l_160, l_240, l_250, l_300, l_400, l_402, l_403, l_420, l_500, l_600, l_840, l_1000, l_1024, l_2000, l_2047, l_2048, l_10000, l_25600, l_500000, g_n hC])
    refine Ok.ifF (by simp (disch := omega) only [↓reduceIte, Option.bind_some, jn, lets, Sum.elim_inl, Sum.elim_inr, if_true, if_false, rd_nI, wr_nI, rd_z, rd_o, wr_z, wr_o, nI_1, nI_add, pk_mul, nI_leI, nI_ltI, nI_eq, z_le, le_z, z_lt, lt_z, eq_z, eq_o, le_o, o_le, lt_o, o_lt, eq_m1, eq_m2, m1_eq, m2_eq, m1_lt, m1_le, o_z, z_o, m1_z, m1_o, m2_z, m2_o, m2_m1, z_lz, z_lo, o_lz, o_ez, z_ez, z_eo, m2_lt, m2_le, leF, leT, ltF, ltT, eqF, eqT, bI_z, bI_o, sh1, sh0, not_true_eq_false, not_false_eq_true, ne_eq, Bool.true_eq_false, Bool.false_eq_true, true_and, and_true, false_and, and_false, l_2, l_3, l_4, l_5, l_6, l_7, l_8, l_9, l_10, l_11, l_12, l_13, l_14, l_15, l_16, l_17, l_18, l_19, l_20, l_21, l_22, l_23, l_24, l_25, l_26, l_27, l_28, l_29, l_30, l_32, l_33, l_34, l_35, l_36, l_37, l_38, l_39, l_50, l_60, l_99, l_100, l_150, l_160, l_240, l_250, l_300, l_400, l_402, l_403, l_420, l_500, l_600, l_840, l_1000, l_1024, l_2000, l_2047, l_2048, l_10000, l_25600, l_500000]) ?_
    apply Ok.step (x := wK (lZ W V P N seed frail).1 24 i) (c_thingsOf hR.1 hn hi (fun t _ => lZ_99 i t) (by decide))
    apply Ok.step (c_hasBit (by omega))
    rw [bt_lt (by omega) hi]
    apply Ok.jnU
    by_cases c : A i = true
    · refine Ok.ifF (by rw [c]; decide) (Ok.ret ?_)
      dsimp only
      rw [nI_1, wEv, wSt, if_pos c]
    · simp only [Bool.not_eq_true] at c
      refine Ok.ifT (by rw [c]; rfl) (Ok.ret ?_)
      dsimp only
      have e0 : wSt (lZ W V P N seed frail).1 A i ||| 0 = wSt (lZ W V P N seed frail).1 A i := by
        apply b_ext
        intro j _
        rw [b_or, b_0, Bool.or_false]
      rw [nI_1, wEv, wSt, if_neg (by rw [c]; decide), e0]
  · (repeat (first | ((with_reducible apply Ok.step); · ((try simp (disch := omega) only [↓reduceIte, Option.bind_some, Sum.elim_inl, Sum.elim_inr, if_true, if_false, rd_nI, wr_nI, rd_z, rd_o, wr_z, wr_o, nI_1, nI_add, pk_mul, nI_leI, nI_ltI, nI_eq, z_le, le_z, z_lt, lt_z, eq_z, eq_o, le_o, o_le, lt_o, o_lt, eq_m1, eq_m2, m1_eq, m2_eq, m1_lt, m1_le, o_z, z_o, m1_z, m1_o, m2_z, m2_o, m2_m1, z_lz, z_lo, o_lz, o_ez, z_ez, z_eo, m2_lt, m2_le, leF, leT, ltF, ltT, eqF, eqT, bI_z, bI_o, sh1, sh0, not_true_eq_false, not_false_eq_true, ne_eq, Bool.true_eq_false, Bool.false_eq_true, true_and, and_true, false_and, and_false, l_2, l_3, l_4, l_5, l_6, l_7, l_8, l_9, l_10, l_11, l_12, l_13, l_14, l_15, l_16, l_17, l_18, l_19, l_20, l_21, l_22, l_23, l_24, l_25, l_26, l_27, l_28, l_29, l_30, l_32, l_33, l_34, l_35, l_36, l_37, l_38, l_39, l_50, l_60, l_99, l_100, l_150, l_160, l_240, l_250, l_300, l_400, l_402, l_403, l_420, l_500, l_600, l_840, l_1000, l_1024, l_2000, l_2047, l_2048, l_10000, l_25600, l_500000, g_n hC]); with_reducible exact rfl)) | ((with_reducible apply Ok.ifT); · (first | (simp (disch := omega) only [↓reduceIte, Option.bind_some, Sum.elim_inl, Sum.elim_inr, if_true, if_false, rd_nI, wr_nI, rd_z, rd_o, wr_z, wr_o, nI_1, nI_add, pk_mul, nI_leI, nI_ltI, nI_eq, z_le, le_z, z_lt, lt_z, eq_z, eq_o, le_o, o_le, lt_o, o_lt, eq_m1, eq_m2, m1_eq, m2_eq, m1_lt, m1_le, o_z, z_o, m1_z, m1_o, m2_z, m2_o, m2_m1, z_lz, z_lo, o_lz, o_ez, z_ez, z_eo, m2_lt, m2_le, leF, leT, ltF, ltT, eqF, eqT, bI_z, bI_o, sh1, sh0, not_true_eq_false, not_false_eq_true, ne_eq, Bool.true_eq_false, Bool.false_eq_true, true_and, and_true, false_and, and_false, l_2, l_3, l_4, l_5, l_6, l_7, l_8, l_9, l_10, l_11, l_12, l_13, l_14, l_15, l_16, l_17, l_18, l_19, l_20, l_21, l_22, l_23, l_24, l_25, l_26, l_27, l_28, l_29, l_30, l_32, l_33, l_34, l_35, l_36, l_37, l_38, l_39, l_50, l_60, l_99, l_100, l_150, l_160, l_240, l_250, l_300, l_400, l_402, l_403, l_420, l_500, l_600, l_840, l_1000, l_1024, l_2000, l_2047, l_2048, l_10000, l_25600, l_500000, g_n hC]; done) | omega)) | ((with_reducible apply Ok.ifF); · (first | (simp (disch := omega) only [↓reduceIte, Option.bind_some, Sum.elim_inl, Sum.elim_inr, if_true, if_false, rd_nI, wr_nI, rd_z, rd_o, wr_z, wr_o, nI_1, nI_add, pk_mul, nI_leI, nI_ltI, nI_eq, z_le, le_z, z_lt, lt_z, eq_z, eq_o, le_o, o_le, lt_o, o_lt, eq_m1, eq_m2, m1_eq, m2_eq, m1_lt, m1_le, o_z, z_o, m1_z, m1_o, m2_z, m2_o, m2_m1, z_lz, z_lo, o_lz, o_ez, z_ez, z_eo, m2_lt, m2_le, leF, leT, ltF, ltT, eqF, eqT, bI_z, bI_o, sh1, sh0, not_true_eq_false, not_false_eq_true, ne_eq, Bool.true_eq_false, Bool.false_eq_true, true_and, and_true, false_and, and_false, l_2, l_3, l_4, l_5, l_6, l_7, l_8, l_9, l_10, l_11, l_12, l_13, l_14, l_15, l_16, l_17, l_18, l_19, l_20, l_21, l_22, l_23, l_24, l_25, l_26, l_27, l_28, l_29, l_30, l_32, l_33, l_34, l_35, l_36, l_37, l_38, l_39, l_50, l_60, l_99, l_100, l_150, l_160, l_240, l_250, l_300, l_400, l_402, l_403, l_420, l_500, l_600, l_840, l_1000, l_1024, l_2000, l_2047, l_2048, l_10000, l_25600, l_500000, g_n hC]; done) | omega)) | with_reducible apply Ok.jnU | with_reducible apply Ok.letsU | with_reducible apply Ok.elL | with_reducible apply Ok.elR | ((with_reducible apply Ok.gdT); · exact bI_nar _)))
    exact Ok.ret rfl
  · refine Ok.ret ?_
    rw [wGone, ← hA]
theorem r_gone {seed frail : Int32} (hR : RRep W sd S) (hW : WF W) (hn : 30000 ≤ n) (hH : RH W P N 24 (lZ W V P N seed frail) (DDs seed frail (W 0 1) 23) S) : E_X12_goneNow n S = some (wGone W V P N seed frail) := by
  have hm1 : W 0 1 ≤ 10 := hW.mx (k := 1) (by decide)
  unfold E_X12_goneNow
  apply Ok.e
  generalize hA : (fun p => !DDs seed frail (W 0 1) 23 p) = A
  refine bindP (fun i => (wEv (lZ W V P N seed frail).1 i, wSt (lZ W V P N seed frail).1 A i, nI i)) (wEv (lZ W V P N seed frail).1 (W 0 1), wSt (lZ W V P N seed frail).1 A (W 0 1)) 0 (W 0 1) (Nat.zero_le _) (by omega) rfl ?_ ?_ ?_
  · intro i _ hi
    have e1 : S.1 144 (240 + i) = wK (lZ W V P N seed frail).1 24 i := hH.1 24 (by decide) i hi
    apply Ok.step (r_h1 hR)
    refine Ok.ifF (by simp (disch := omega) only [↓reduceIte, Option.bind_some, jn, lets, Sum.elim_inl, Sum.elim_inr, if_true, if_false, rd_nI, wr_nI, rd_z, rd_o, wr_z, wr_o, nI_1, nI_add, pk_mul, nI_leI, nI_ltI, nI_eq, z_le, le_z, z_lt, lt_z, eq_z, eq_o, le_o, o_le, lt_o, o_lt, eq_m1, eq_m2, m1_eq, m2_eq, m1_lt, m1_le, o_z, z_o, m1_z, m1_o, m2_z, m2_o, m2_m1, z_lz, z_lo, o_lz, o_ez, z_ez, z_eo, m2_lt, m2_le, leF, leT, ltF, ltT, eqF, eqT, bI_z, bI_o, sh1, sh0, not_true_eq_false, not_false_eq_true, ne_eq, Bool.true_eq_false, Bool.false_eq_true, true_and, and_true, false_and, and_false, l_2, l_3, l_4, l_5, l_6, l_7, l_8, l_9, l_10, l_11, l_12, l_13, l_14, l_15, l_16, l_17, l_18, l_19, l_20, l_21, l_22, l_23, l_24, l_25, l_26, l_27, l_28, l_29, l_30, l_32, l_33, l_34, l_35, l_36, l_37, l_38, l_39, l_50, l_60, l_99, l_100, l_150, l_160, l_240, l_250, l_300, l_400, l_402, l_403, l_420, l_500, l_600, l_840, l_1000, l_1024, l_2000, l_2047, l_2048, l_10000, l_25600, l_500000]) ?_
    apply Ok.step (x := wK (lZ W V P N seed frail).1 24 i) (by simp (disch := omega) only [↓reduceIte, Option.bind_some, jn, lets, Sum.elim_inl, Sum.elim_inr, if_true, if_false, rd_nI, wr_nI, rd_z, rd_o, wr_z, wr_o, nI_1, nI_add, pk_mul, nI_leI, nI_ltI, nI_eq, z_le, le_z, z_lt, lt_z, eq_z, eq_o, le_o, o_le, lt_o, o_lt, eq_m1, eq_m2, m1_eq, m2_eq, m1_lt, m1_le, o_z, z_o, m1_z, m1_o, m2_z, m2_o, m2_m1, z_lz, z_lo, o_lz, o_ez, z_ez, z_eo, m2_lt, m2_le, leF, leT, ltF, ltT, eqF, eqT, bI_z, bI_o, sh1, sh0, not_true_eq_false, not_false_eq_true, ne_eq, Bool.true_eq_false, Bool.false_eq_true, true_and, and_true, false_and, and_false, l_2, l_3, l_4, l_5, l_6, l_7, l_8, l_9, l_10, l_11, l_12, l_13, l_14, l_15, l_16, l_17, l_18, l_19, l_20, l_21, l_22, l_23, l_24, l_25, l_26, l_27, l_28, l_29, l_30, l_32, l_33, l_34, l_35, l_36, l_37, l_38, l_39, l_50, l_60, l_99, l_100, l_150, l_160, l_240, l_250, l_300, l_400, l_402, l_403, l_420, l_500, l_600, l_840, l_1000, l_1024, l_2000, l_2047, l_2048, l_10000, l_25600, l_500000, e1])
    apply Ok.step (r_dead (by omega))
    rw [hH.2.2.2.2.2]
    apply Ok.jnU
    have eA : A i = !DDs seed frail (W 0 1) 23 i := by rw [← hA]
    by_cases c : A i = true
    · refine Ok.ifT ?_ ?_
      · rw [eA, Bool.not_eq_true'] at c; rw [c]; rfl
      apply Ok.step (x := wK (lZ W V P N seed frail).1 24 i) (by simp (disch := omega) only [↓reduceIte, Option.bind_some, jn, lets, Sum.elim_inl, Sum.elim_inr, if_true, if_false, rd_nI, wr_nI, rd_z, rd_o, wr_z, wr_o, nI_1, nI_add, pk_mul, nI_leI, nI_ltI, nI_eq, z_le, le_z, z_lt, lt_z, eq_z, eq_o, le_o, o_le, lt_o, o_lt, eq_m1, eq_m2, m1_eq, m2_eq, m1_lt, m1_le, o_z, z_o, m1_z, m1_o, m2_z, m2_o, m2_m1, z_lz, z_lo, o_lz, o_ez, z_ez, z_eo, m2_lt, m2_le, leF, leT, ltF, ltT, eqF, eqT, bI_z, bI_o, sh1, sh0, not_true_eq_false, not_false_eq_true, ne_eq, Bool.true_eq_false, Bool.false_eq_true, true_and, and_true, false_and, and_false, l_2, l_3, l_4, l_5, l_6, l_7, l_8, l_9, l_10, l_11, l_12, l_13, l_14, l_15, l_16, l_17, l_18, l_19, l_20, l_21, l_22, l_23, l_24, l_25, l_26, l_27, l_28, l_29, l_30, l_32, l_33, l_34, l_35, l_36, l_37, l_38, l_39, l_50, l_60, l_99, l_100, l_150, l_160, l_240, l_250, l_300, l_400, l_402, l_403, l_420, l_500, l_600, l_840, l_1000, l_1024, l_2000, l_2047, l_2048, l_10000, l_25600, l_500000, e1])
      refine Ok.ret ?_
      dsimp only
      rw [nI_1, wEv, wSt, if_pos c]
    · refine Ok.ifF ?_ (Ok.ret ?_)
      · simp only [Bool.not_eq_true, eA, Bool.not_eq_false'] at c; rw [c]; decide
      dsimp only
      rw [nI_1, wEv, wSt, if_neg c]
  · (repeat (first | ((with_reducible apply Ok.step); · ((try simp (disch := omega) only [↓reduceIte, Option.bind_some, Sum.elim_inl, Sum.elim_inr, if_true, if_false, rd_nI, wr_nI, rd_z, rd_o, wr_z, wr_o, nI_1, nI_add, pk_mul, nI_leI, nI_ltI, nI_eq, z_le, le_z, z_lt, lt_z, eq_z, eq_o, le_o, o_le, lt_o, o_lt, eq_m1, eq_m2, m1_eq, m2_eq, m1_lt, m1_le, o_z, z_o, m1_z, m1_o, m2_z, m2_o, m2_m1, z_lz, z_lo, o_lz, o_ez, z_ez, z_eo, m2_lt, m2_le, leF, leT, ltF, ltT, eqF, eqT, bI_z, bI_o, sh1, sh0, not_true_eq_false, not_false_eq_true, ne_eq, Bool.true_eq_false, Bool.false_eq_true, true_and, and_true, false_and, and_false, l_2, l_3, l_4, l_5, l_6, l_7, l_8, l_9, l_10, l_11, l_12, l_13, l_14, l_15, l_16, l_17, l_18, l_19, l_20, l_21, l_22, l_23, l_24, l_25, l_26, l_27, l_28, l_29, l_30, l_32, l_33, l_34, l_35, l_36, l_37, l_38, l_39, l_50, l_60, l_99, l_100, l_150, l_160, l_240, l_250, l_300, l_400, l_402, l_403, l_420, l_500, l_600, l_840, l_1000, l_1024, l_2000, l_2047, l_2048, l_10000, l_25600, l_500000, r_h1 hR]); with_reducible exact rfl)) | ((with_reducible apply Ok.ifT); · (first | (simp (disch := omega) only [↓reduceIte, Option.bind_some, Sum.elim_inl, Sum.elim_inr, if_true, if_false, rd_nI, wr_nI, rd_z, rd_o, wr_z, wr_o, nI_1, nI_add, pk_mul, nI_leI, nI_ltI, nI_eq, z_le, le_z, z_lt, lt_z, eq_z, eq_o, le_o, o_le, lt_o, o_lt, eq_m1, eq_m2, m1_eq, m2_eq, m1_lt, m1_le, o_z, z_o, m1_z, m1_o, m2_z, m2_o, m2_m1, z_lz, z_lo, o_lz, o_ez, z_ez, z_eo, m2_lt, m2_le, leF, leT, ltF, ltT, eqF, eqT, bI_z, bI_o, sh1, sh0, not_true_eq_false, not_false_eq_true, ne_eq, Bool.true_eq_false, Bool.false_eq_true, true_and, and_true, false_and, and_false, l_2, l_3, l_4, l_5, l_6, l_7, l_8, l_9, l_10, l_11, l_12, l_13, l_14, l_15, l_16, l_17, l_18, l_19, l_20, l_21, l_22, l_23, l_24, l_25, l_26, l_27, l_28, l_29, l_30, l_32, l_33, l_34, l_35, l_36, l_37, l_38, l_39, l_50, l_60, l_99, l_100, l_150, l_160, l_240, l_250, l_300, l_400, l_402, l_403, l_420, l_500, l_600, l_840, l_1000, l_1024, l_2000, l_2047, l_2048, l_10000, l_25600, l_500000, r_h1 hR]; done) | omega)) | ((with_reducible apply Ok.ifF); · (first | (simp (disch := omega) only [↓reduceIte, Option.bind_some, Sum.elim_inl, Sum.elim_inr, if_true, if_false, rd_nI, wr_nI, rd_z, rd_o, wr_z, wr_o, nI_1, nI_add, pk_mul, nI_leI, nI_ltI, nI_eq, z_le, le_z, z_lt, lt_z, eq_z, eq_o, le_o, o_le, lt_o, o_lt, eq_m1, eq_m2, m1_eq, m2_eq, m1_lt, m1_le, o_z, z_o, m1_z, m1_o, m2_z, m2_o, m2_m1, z_lz, z_lo, o_lz, o_ez, z_ez, z_eo, m2_lt, m2_le, leF, leT, ltF, ltT, eqF, eqT, bI_z, bI_o, sh1, sh0, not_true_eq_false, not_false_eq_true, ne_eq, Bool.true_eq_false, Bool.false_eq_true, true_and, and_true, false_and, and_false, l_2, l_3, l_4, l_5, l_6, l_7, l_8, l_9, l_10, l_11, l_12, l_13, l_14, l_15, l_16, l_17, l_18, l_19, l_20, l_21, l_22, l_23, l_24, l_25, l_26, l_27, l_28, l_29, l_30, l_32, l_33, l_34, l_35, l_36, l_37, l_38, l_39, l_50, l_60, l_99, l_100, l_150, l_160, l_240, l_250, l_300, l_400, l_402, l_403, l_420, l_500, l_600, l_840, l_1000, l_1024, l_2000, l_2047, l_2048, l_10000, l_25600, l_500000, r_h1 hR]; done) | omega)) | with_reducible apply Ok.jnU | with_reducible apply Ok.letsU | with_reducible apply Ok.elL | with_reducible apply Ok.elR | ((with_reducible apply Ok.gdT); · exact bI_nar _)))
    exact Ok.ret rfl
  · refine Ok.ret ?_
    rw [wGone, ← hA]
theorem c_frail {x : Int32} : E_X11_isFrail n S x = some (bI (vB x 101)) := by
  unfold E_X11_isFrail vB
  by_cases c1 : x < 0
  · rw [if_pos c1, decide_eq_false (Int32.not_le.mpr c1)]; rfl
  · rw [if_neg c1, decide_eq_true (Int32.not_lt.mp c1)]
    obtain ⟨j, hj, rfl⟩ := nI_of c1
    by_cases c2 : 100 < j
    · rw [if_pos (show (100 : Int32) < nI j from nI_lt (a := 100) c2 (by omega)), decide_eq_false (nI_nlt (by omega) (by omega))]; rfl
    · rw [if_neg (show ¬ (100 : Int32) < nI j from nI_nlt (a := 100) (by omega) (by omega)), decide_eq_true (nI_lt (by omega) (by decide))]; rfl
theorem nI_m1 {j : Nat} (hj : j < 2 ^ 31) : nI j ≠ -1 := fun e => absurd (e ▸ nI_pos' hj) (by decide)
theorem q_day (hI : IV W V tw en sd P N H S) (hn : 30000 ≤ n) (x y z : Int32) : Sc (fun S => E_X11_day n S tw x y z) (fun S => E_X12_day n S x y z) S (IV W V tw en sd P N H) := by
  have hI0 := hI
  obtain ⟨hW, hPW, hHW, hC, hR⟩ := hI
  have hm1 : W 0 1 ≤ 10 := hW.mx (k := 1) (by decide)
  have hN := hPW.1
  have r100 : ∀ {S}, E_X12_in n S y 0 (100 : Int32) = some (bI (vB y 101)) := r_inK (m := 100) (by decide)
  have r3 : ∀ {S}, E_X12_in n S z 0 (3 : Int32) = some (bI (vB z 4)) := r_inK (m := 3) (by decide)
  unfold E_X11_day E_X12_day
  cases c1 : vB y 101
  · exact Sc.no (by rw [c_frail, c1]; rfl) (by rw [r100, c1]; rfl) hI0
  cases c2 : vB z 4
  · refine Sc.no (v := -1) ?_ (by rw [r100, c1, Option.bind_some, if_neg (by decide), r3, c2]; rfl) hI0
    rw [c_frail, c1, Option.bind_some, if_neg (by decide)]
    by_cases g : z < 0
    · rw [if_pos g]
    · rw [if_neg g, if_neg]
      intro y2
      obtain ⟨j, hj, rfl⟩ := nI_of g
      have := (nI_leI (b := 3) hj (by decide)).mp y2
      rw [vB_nI (by decide) (by omega)] at c2; cases c2
  obtain ⟨f, hf, rfl⟩ := vB_t (by omega) c1
  obtain ⟨w, hw, rfl⟩ := vB_t (by omega) c2
  have hfr : nI f ≠ -1 := nI_m1 (by omega)
  obtain ⟨S1, e1, d1, hC1, r1, hD⟩ := c_goDay (n := n) (seed := x) hC hW hPW hn hfr
  have hR1 := hR.dfC (XS_XCl hC.1.1 d1)
  obtain ⟨S2, e2, d2, z2, r2⟩ := r_lots (n := n) (seed := x) (frail := nI f) hR1.1 hR1.2.1 hR1.2.2.1 hW hPW hn
  obtain ⟨hR2, hL2, hP2⟩ := hR1.weak d2
  have d3 : Df XSR S1 (upI S2 95 61 0) := XSR_up d2 (by omega)
  have hI3 : IV W V tw en sd P N H (upI S2 95 61 0) := ⟨hW, hPW, hHW, hC1.dfR (XSR_XRf d3), hR1.dfS d3 (by rw [upI_at, if_pos ⟨rfl, rfl⟩]) (by rw [upI_at, if_neg (by omega)]; exact z2)⟩
  have dd : Df XQA S (upI S2 95 61 0) := (XS_XQA hC.1.1 d1).trans (XSR_XQA d3)
  have w1 : ¬ nI w < 0 := nI_pos (by omega)
  have w2 : nI w ≤ (3 : Int32) := nI_le (b := 3) (by omega) (by decide)
  have pre1 : ∀ v, (if nI w = (0 : Int32) then (E_X1_aliveAt n S1 82 tw (23 : Int32)).bind fun v8 => some (v8, S1) else if nI w = (1 : Int32) then (E_X1_goneThings n S1 82 tw).bind fun v10 => some (v10, S1) else if nI w = (2 : Int32) then (E_X3_worthMissed n S1 83 tw).bind fun v12 => some (v12, S1) else some ((S1.1 82 5), S1)) = some (v, S1) → (E_X11_isFrail n S (nI f)).bind (fun v1 => if v1 = 0 then some ((-1 : Int32), S) else if nI w < 0 then some ((-1 : Int32), S) else if nI w ≤ (3 : Int32) then (E_X11_goDay n S tw x (nI f)).bind fun S6 => if nI w = (0 : Int32) then (E_X1_aliveAt n S6 82 tw (23 : Int32)).bind fun v8 => some (v8, S6) else if nI w = (1 : Int32) then (E_X1_goneThings n S6 82 tw).bind fun v10 => some (v10, S6) else if nI w = (2 : Int32) then (E_X3_worthMissed n S6 83 tw).bind fun v12 => some (v12, S6) else some ((S6.1 82 5), S6) else some ((-1 : Int32), S)) = some (v, S1) := fun v h => by
    rw [c_frail, c1, Option.bind_some, if_neg (by decide), if_neg w1, if_pos w2, e1, Option.bind_some]
    exact h
  have fin : ∀ v, (if nI w = (0 : Int32) then (E_X1_aliveAt n S1 82 tw (23 : Int32)).bind fun v8 => some (v8, S1) else if nI w = (1 : Int32) then (E_X1_goneThings n S1 82 tw).bind fun v10 => some (v10, S1) else if nI w = (2 : Int32) then (E_X3_worthMissed n S1 83 tw).bind fun v12 => some (v12, S1) else some ((S1.1 82 5), S1)) = some (v, S1) → Ok (if nI w = 0 then (E_X12_has n S2 (1 : Int32)).bind fun v11 => lets ((((1 : Int32) <<< (v11 &&& 31)) - (1 : Int32)) &&& ((S2.1 95 61) ^^^ (-1 : Int32))) fun (w12 : Int32) => some w12 else if nI w = (1 : Int32) then (E_X12_goneNow n S2 ).bind fun v14 => some v14 else if nI w = (2 : Int32) then (E_X12_harmNow n S2 ).bind fun v16 => some v16 else (iter (fun (s17 : Int32 × Int32) => if (S2.1 95 62) ≤ s17.2 then some (.inr s17.1) else (rd (S2.1 145) 30 s17.2).bind fun v19 => jn (fun (u20 : Int32) => some (.inl ((s17.1 + u20), (s17.2 + (1 : Int32))))) fun j21 => if v19 = 0 then j21 (1 : Int32) else j21 (0 : Int32)) n ((0 : Int32), (0 : Int32))).bind fun (e17 : Int32) => some e17) (fun u => u = v) → Sc (fun S => (E_X11_isFrail n S (nI f)).bind (fun v1 => if v1 = 0 then some ((-1 : Int32), S) else if nI w < 0 then some ((-1 : Int32), S) else if nI w ≤ (3 : Int32) then (E_X11_goDay n S tw x (nI f)).bind fun S6 => if nI w = (0 : Int32) then (E_X1_aliveAt n S6 82 tw (23 : Int32)).bind fun v8 => some (v8, S6) else if nI w = (1 : Int32) then (E_X1_goneThings n S6 82 tw).bind fun v10 => some (v10, S6) else if nI w = (2 : Int32) then (E_X3_worthMissed n S6 83 tw).bind fun v12 => some (v12, S6) else some ((S6.1 82 5), S6) else some ((-1 : Int32), S)))
      (fun S => (E_X12_in n S (nI f) (0 : Int32) (100 : Int32)).bind fun v1 => if v1 = 0 then some ((-1 : Int32), S) else (E_X12_in n S (nI w) (0 : Int32) (3 : Int32)).bind fun v3 => if v3 = 0 then some ((-1 : Int32), S) else (E_X12_goesByLots n S x (nI f)).bind fun S6 => jn (fun (u7 : Int32) => lets (upI S6 95 61 (0 : Int32)) fun (S8 : ST) => some (u7, S8)) fun j9 => if nI w = 0 then (E_X12_has n S6 (1 : Int32)).bind fun v11 => lets ((((1 : Int32) <<< (v11 &&& 31)) - (1 : Int32)) &&& ((S6.1 95 61) ^^^ (-1 : Int32))) fun (w12 : Int32) => j9 w12 else if nI w = (1 : Int32) then (E_X12_goneNow n S6 ).bind fun v14 => j9 v14 else if nI w = (2 : Int32) then (E_X12_harmNow n S6 ).bind fun v16 => j9 v16 else (iter (fun (s17 : Int32 × Int32) => if (S6.1 95 62) ≤ s17.2 then some (.inr s17.1) else (rd (S6.1 145) 30 s17.2).bind fun v19 => jn (fun (u20 : Int32) => some (.inl ((s17.1 + u20), (s17.2 + (1 : Int32))))) fun j21 => if v19 = 0 then j21 (1 : Int32) else j21 (0 : Int32)) n ((0 : Int32), (0 : Int32))).bind fun (e17 : Int32) => j9 e17) S (IV W V tw en sd P N H) := fun v h1 h2 => by
    refine ⟨v, S1, upI S2 95 61 0, pre1 v h1, ?_, hI3, dd⟩
    dsimp only
    rw [r100, c1, Option.bind_some, if_neg (by decide), r3, c2, Option.bind_some, if_neg (by decide), e2, Option.bind_some]
    obtain ⟨u, h3, rfl⟩ := h2
    simp only [jn]
    by_cases k0 : nI w = 0
    · rw [if_pos k0] at h3 ⊢
      obtain ⟨a, h4, h5⟩ := bind_some' h3
      rw [h4, Option.bind_some]
      cases h5; rfl
    rw [if_neg k0] at h3 ⊢
    by_cases k1 : nI w = 1
    · rw [if_pos k1] at h3 ⊢
      obtain ⟨a, h4, h5⟩ := bind_some' h3
      rw [h4, Option.bind_some]
      cases h5; rfl
    rw [if_neg k1] at h3 ⊢
    by_cases k2 : nI w = 2
    · rw [if_pos k2] at h3 ⊢
      obtain ⟨a, h4, h5⟩ := bind_some' h3
      rw [h4, Option.bind_some]
      cases h5; rfl
    rw [if_neg k2] at h3 ⊢
    obtain ⟨a, h4, h5⟩ := bind_some' h3
    simp only [jn] at h4
    rw [h4, Option.bind_some]
    cases h5; rfl
  rcases (show w = 0 ∨ w = 1 ∨ w = 2 ∨ w = 3 by omega) with rfl | rfl | rfl | rfl
  · refine fin (bs (fun p => !DDs x (nI f) (W 0 1) 23 p) (W 0 1)) ?_ ?_
    · rw [if_pos (show nI 0 = (0 : Int32) from rfl), show (23 : Int32) = nI 23 from rfl, c_alive (h := 23) hC1.1 hW hn hD (by decide)]; rfl
    · refine Ok.ifT rfl ?_
      apply Ok.step (r_h1 hR2)
      apply Ok.letsU
      refine Ok.ret ?_
      rw [all_on _ hm1]
      apply bs_of (by omega)
      intro i hi
      rw [b_and, b_not hi, bt_bs _ _ (by omega), r2.2.2.2.2.2]
      simp [nD]
  · refine fin (wGone W V P N x (nI f)) ?_ ?_
    · rw [if_neg (by decide), if_pos (show nI 1 = (1 : Int32) from rfl), c_gone hC1.1 hW hn r1 hD]; rfl
    · refine Ok.ifF (by decide) (Ok.ifT rfl ?_)
      apply Ok.step (r_gone hR2 hW hn r2)
      exact Ok.ret rfl
  · refine fin (nI (wHarm W (lZ W V P N x (nI f)).1 (W 0 6))) ?_ ?_
    · rw [if_neg (by decide), if_neg (by decide), if_pos (show nI 2 = (2 : Int32) from rfl), c_harm hC1.1 hW hn r1.1 lZ_99]; rfl
    · refine Ok.ifF (by decide) (Ok.ifF (by decide) (Ok.ifT rfl ?_))
      apply Ok.step (r_harm hR2 hW hn r2.1)
      exact Ok.ret rfl
  · generalize hY : (lZ W V P N x (nI f)).2.1 = Y
    have hy6 : ∀ k, Y k < 6 := fun k => by rw [← hY]; exact cSt_Y 24 k
    refine fin (nI (sumN (fun k => if P 1 k < 24 ∧ Y k = 0 then 1 else 0) N)) ?_ ?_
    · rw [if_neg (by decide), if_neg (by decide), if_neg (by decide), r1.2.2.2.2, hY]
    · refine Ok.ifF (by decide) (Ok.ifF (by decide) (Ok.ifF (by decide) ?_))
      refine bindP (fun i => (nI (sumN (fun k => if P 1 k < 24 ∧ Y k = 0 then 1 else 0) i), nI i)) (nI (sumN (fun k => if P 1 k < 24 ∧ Y k = 0 then 1 else 0) N)) 0 N (Nat.zero_le _) (by omega) rfl ?_ ?_ (Ok.ret rfl)
      · intro i _ hi
        have q1 := (hPW.2 i hi).2.1
        have e5 : S2.1 145 i = nI (Y i) := by rw [← hY]; exact r2.2.2.1 i hi q1
        have hyi := hy6 i
        by_cases c : Y i = 0
        · (repeat (first | ((with_reducible apply Ok.step); · ((try simp (disch := omega) only [↓reduceIte, Option.bind_some, Sum.elim_inl, Sum.elim_inr, if_true, if_false, rd_nI, wr_nI, rd_z, rd_o, wr_z, wr_o, nI_1, nI_add, pk_mul, nI_leI, nI_ltI, nI_eq, z_le, le_z, z_lt, lt_z, eq_z, eq_o, le_o, o_le, lt_o, o_lt, eq_m1, eq_m2, m1_eq, m2_eq, m1_lt, m1_le, o_z, z_o, m1_z, m1_o, m2_z, m2_o, m2_m1, z_lz, z_lo, o_lz, o_ez, z_ez, z_eo, m2_lt, m2_le, leF, leT, ltF, ltT, eqF, eqT, bI_z, bI_o, sh1, sh0, not_true_eq_false, not_false_eq_true, ne_eq, Bool.true_eq_false, Bool.false_eq_true, true_and, and_true, false_and, and_false, l_2, l_3, l_4, l_5, l_6, l_7, l_8, l_9, l_10, l_11, l_12, l_13, l_14, l_15, l_16, l_17, l_18, l_19, l_20, l_21, l_22, l_23, l_24, l_25, l_26, l_27, l_28, l_29, l_30, l_32, l_33, l_34, l_35, l_36, l_37, l_38, l_39, l_50, l_60, l_99, l_100, l_150, l_160, l_240, l_250, l_300, l_400, l_402, l_403, l_420, l_500, l_600, l_840, l_1000, l_1024, l_2000, l_2047, l_2048, l_10000, l_25600, l_500000, hP2.1, e5, c]); with_reducible exact rfl)) | ((with_reducible apply Ok.ifT); · (first | (simp (disch := omega) only [↓reduceIte, Option.bind_some, Sum.elim_inl, Sum.elim_inr, if_true, if_false, rd_nI, wr_nI, rd_z, rd_o, wr_z, wr_o, nI_1, nI_add, pk_mul, nI_leI, nI_ltI, nI_eq, z_le, le_z, z_lt, lt_z, eq_z, eq_o, le_o, o_le, lt_o, o_lt, eq_m1, eq_m2, m1_eq, m2_eq, m1_lt, m1_le, o_z, z_o, m1_z, m1_o, m2_z, m2_o, m2_m1, z_lz, z_lo, o_lz, o_ez, z_ez, z_eo, m2_lt, m2_le, leF, leT, ltF, ltT, eqF, eqT, bI_z, bI_o, sh1, sh0, not_true_eq_false, not_false_eq_true, ne_eq, Bool.true_eq_false, Bool.false_eq_true, true_and, and_true, false_and, and_false, l_2, l_3, l_4, l_5, l_6, l_7, l_8, l_9, l_10, l_11, l_12, l_13, l_14, l_15, l_16, l_17, l_18, l_19, l_20, l_21, l_22, l_23, l_24, l_25, l_26, l_27, l_28, l_29, l_30, l_32, l_33, l_34, l_35, l_36, l_37, l_38, l_39, l_50, l_60, l_99, l_100, l_150, l_160, l_240, l_250, l_300, l_400, l_402, l_403, l_420, l_500, l_600, l_840, l_1000, l_1024, l_2000, l_2047, l_2048, l_10000, l_25600, l_500000, hP2.1, e5, c]; done) | omega)) | ((with_reducible apply Ok.ifF); · (first | (simp (disch := omega) only [↓reduceIte, Option.bind_some, Sum.elim_inl, Sum.elim_inr, if_true, if_false, rd_nI, wr_nI, rd_z, rd_o, wr_z, wr_o, nI_1, nI_add, pk_mul, nI_leI, nI_ltI, nI_eq, z_le, le_z, z_lt, lt_z, eq_z, eq_o, le_o, o_le, lt_o, o_lt, eq_m1, eq_m2, m1_eq, m2_eq, m1_lt, m1_le, o_z, z_o, m1_z, m1_o, m2_z, m2_o, m2_m1, z_lz, z_lo, o_lz, o_ez, z_ez, z_eo, m2_lt, m2_le, leF, leT, ltF, ltT, eqF, eqT, bI_z, bI_o, sh1, sh0, not_true_eq_false, not_false_eq_true, ne_eq, Bool.true_eq_false, Bool.false_eq_true, true_and, and_true, false_and, and_false, l_2, l_3, l_4, l_5, l_6, l_7, l_8, l_9, l_10, l_11, l_12, l_13, l_14, l_15, l_16, l_17, l_18, l_19, l_20, l_21, l_22, l_23, l_24, l_25, l_26, l_27, l_28, l_29, l_30, l_32, l_33, l_34, l_35, l_36, l_37, l_38, l_39, l_50, l_60, l_99, l_100, l_150, l_160, l_240, l_250, l_300, l_400, l_402, l_403, l_420, l_500, l_600, l_840, l_1000, l_1024, l_2000, l_2047, l_2048, l_10000, l_25600, l_500000, hP2.1, e5, c]; done) | omega)) | with_reducible apply Ok.jnU | with_reducible apply Ok.letsU | with_reducible apply Ok.elL | with_reducible apply Ok.elR | ((with_reducible apply Ok.gdT); · exact bI_nar _)))
          exact Ok.ret (by simp [sumN, q1, c, nI_1])
        · (repeat (first | ((with_reducible apply Ok.step); · ((try simp (disch := omega) only [↓reduceIte, Option.bind_some, Sum.elim_inl, Sum.elim_inr, if_true, if_false, rd_nI, wr_nI, rd_z, rd_o, wr_z, wr_o, nI_1, nI_add, pk_mul, nI_leI, nI_ltI, nI_eq, z_le, le_z, z_lt, lt_z, eq_z, eq_o, le_o, o_le, lt_o, o_lt, eq_m1, eq_m2, m1_eq, m2_eq, m1_lt, m1_le, o_z, z_o, m1_z, m1_o, m2_z, m2_o, m2_m1, z_lz, z_lo, o_lz, o_ez, z_ez, z_eo, m2_lt, m2_le, leF, leT, ltF, ltT, eqF, eqT, bI_z, bI_o, sh1, sh0, not_true_eq_false, not_false_eq_true, ne_eq, Bool.true_eq_false, Bool.false_eq_true, true_and, and_true, false_and, and_false, l_2, l_3, l_4, l_5, l_6, l_7, l_8, l_9, l_10, l_11, l_12, l_13, l_14, l_15, l_16, l_17, l_18, l_19, l_20, l_21, l_22, l_23, l_24, l_25, l_26, l_27, l_28, l_29, l_30, l_32, l_33, l_34, l_35, l_36, l_37, l_38, l_39, l_50, l_60, l_99, l_100, l_150, l_160, l_240, l_250, l_300, l_400, l_402, l_403, l_420, l_500, l_600, l_840, l_1000, l_1024, l_2000, l_2047, l_2048, l_10000, l_25600, l_500000, hP2.1, e5, c]); with_reducible exact rfl)) | ((with_reducible apply Ok.ifT); · (first | (simp (disch := omega) only [↓reduceIte, Option.bind_some, Sum.elim_inl, Sum.elim_inr, if_true, if_false, rd_nI, wr_nI, rd_z, rd_o, wr_z, wr_o, nI_1, nI_add, pk_mul, nI_leI, nI_ltI, nI_eq, z_le, le_z, z_lt, lt_z, eq_z, eq_o, le_o, o_le, lt_o, o_lt, eq_m1, eq_m2, m1_eq, m2_eq, m1_lt, m1_le, o_z, z_o, m1_z, m1_o, m2_z, m2_o, m2_m1, z_lz, z_lo, o_lz, o_ez, z_ez, z_eo, m2_lt, m2_le, leF, leT, ltF, ltT, eqF, eqT, bI_z, bI_o, sh1, sh0, not_true_eq_false, not_false_eq_true, ne_eq, Bool.true_eq_false, Bool.false_eq_true, true_and, and_true, false_and, and_false, l_2, l_3, l_4, l_5, l_6, l_7, l_8, l_9, l_10, l_11, l_12, l_13, l_14, l_15, l_16, l_17, l_18, l_19, l_20, l_21, l_22, l_23, l_24, l_25, l_26, l_27, l_28, l_29, l_30, l_32, l_33, l_34, l_35, l_36, l_37, l_38, l_39, l_50, l_60, l_99, l_100, l_150, l_160, l_240, l_250, l_300, l_400, l_402, l_403, l_420, l_500, l_600, l_840, l_1000, l_1024, l_2000, l_2047, l_2048, l_10000, l_25600, l_500000, hP2.1, e5, c]; done) | omega)) | ((with_reducible apply Ok.ifF); · (first | (simp (disch := omega) only [↓reduceIte, Option.bind_some, Sum.elim_inl, Sum.elim_inr, if_true, if_false, rd_nI, wr_nI, rd_z, rd_o, wr_z, wr_o, nI_1, nI_add, pk_mul, nI_leI, nI_ltI, nI_eq, z_le, le_z, z_lt, lt_z, eq_z, eq_o, le_o, o_le, lt_o, o_lt, eq_m1, eq_m2, m1_eq, m2_eq, m1_lt, m1_le, o_z, z_o, m1_z, m1_o, m2_z, m2_o, m2_m1, z_lz, z_lo, o_lz, o_ez, z_ez, z_eo, m2_lt, m2_le, leF, leT, ltF, ltT, eqF, eqT, bI_z, bI_o, sh1, sh0, not_true_eq_false, not_false_eq_true, ne_eq, Bool.true_eq_false, Bool.false_eq_true, true_and, and_true, false_and, and_false, l_2, l_3, l_4, l_5, l_6, l_7, l_8, l_9, l_10, l_11, l_12, l_13, l_14, l_15, l_16, l_17, l_18, l_19, l_20, l_21, l_22, l_23, l_24, l_25, l_26, l_27, l_28, l_29, l_30, l_32, l_33, l_34, l_35, l_36, l_37, l_38, l_39, l_50, l_60, l_99, l_100, l_150, l_160, l_240, l_250, l_300, l_400, l_402, l_403, l_420, l_500, l_600, l_840, l_1000, l_1024, l_2000, l_2047, l_2048, l_10000, l_25600, l_500000, hP2.1, e5, c]; done) | omega)) | with_reducible apply Ok.jnU | with_reducible apply Ok.letsU | with_reducible apply Ok.elL | with_reducible apply Ok.elR | ((with_reducible apply Ok.gdT); · exact bI_nar _)))
          refine Ok.ret ?_
          have e0 : ∀ q : Int32, q + 0 = q := fun q => by simp
          simp [sumN, c, nI_1]
      · (repeat (first | ((with_reducible apply Ok.step); · ((try simp (disch := omega) only [↓reduceIte, Option.bind_some, Sum.elim_inl, Sum.elim_inr, if_true, if_false, rd_nI, wr_nI, rd_z, rd_o, wr_z, wr_o, nI_1, nI_add, pk_mul, nI_leI, nI_ltI, nI_eq, z_le, le_z, z_lt, lt_z, eq_z, eq_o, le_o, o_le, lt_o, o_lt, eq_m1, eq_m2, m1_eq, m2_eq, m1_lt, m1_le, o_z, z_o, m1_z, m1_o, m2_z, m2_o, m2_m1, z_lz, z_lo, o_lz, o_ez, z_ez, z_eo, m2_lt, m2_le, leF, leT, ltF, ltT, eqF, eqT, bI_z, bI_o, sh1, sh0, not_true_eq_false, not_false_eq_true, ne_eq, Bool.true_eq_false, Bool.false_eq_true, true_and, and_true, false_and, and_false, l_2, l_3, l_4, l_5, l_6, l_7, l_8, l_9, l_10, l_11, l_12, l_13, l_14, l_15, l_16, l_17, l_18, l_19, l_20, l_21, l_22, l_23, l_24, l_25, l_26, l_27, l_28, l_29, l_30, l_32, l_33, l_34, l_35, l_36, l_37, l_38, l_39, l_50, l_60, l_99, l_100, l_150, l_160, l_240, l_250, l_300, l_400, l_402, l_403, l_420, l_500, l_600, l_840, l_1000, l_1024, l_2000, l_2047, l_2048, l_10000, l_25600, l_500000, hP2.1]); with_reducible exact rfl)) | ((with_reducible apply Ok.ifT); · (first | (simp (disch := omega) only [↓reduceIte, Option.bind_some, Sum.elim_inl, Sum.elim_inr, if_true, if_false, rd_nI, wr_nI, rd_z, rd_o, wr_z, wr_o, nI_1, nI_add, pk_mul, nI_leI, nI_ltI, nI_eq, z_le, le_z, z_lt, lt_z, eq_z, eq_o, le_o, o_le, lt_o, o_lt, eq_m1, eq_m2, m1_eq, m2_eq, m1_lt, m1_le, o_z, z_o, m1_z, m1_o, m2_z, m2_o, m2_m1, z_lz, z_lo, o_lz, o_ez, z_ez, z_eo, m2_lt, m2_le, leF, leT, ltF, ltT, eqF, eqT, bI_z, bI_o, sh1, sh0, not_true_eq_false, not_false_eq_true, ne_eq, Bool.true_eq_false, Bool.false_eq_true, true_and, and_true, false_and, and_false, l_2, l_3, l_4, l_5, l_6, l_7, l_8, l_9, l_10, l_11, l_12, l_13, l_14, l_15, l_16, l_17, l_18, l_19, l_20, l_21, l_22, l_23, l_24, l_25, l_26, l_27, l_28, l_29, l_30, l_32, l_33, l_34, l_35, l_36, l_37, l_38, l_39, l_50, l_60, l_99, l_100, l_150, l_160, l_240, l_250, l_300, l_400, l_402, l_403, l_420, l_500, l_600, l_840, l_1000, l_1024, l_2000, l_2047, l_2048, l_10000, l_25600, l_500000, hP2.1]; done) | omega)) | ((with_reducible apply Ok.ifF); · (first | (simp (disch := omega) only [↓reduceIte, Option.bind_some, Sum.elim_inl, Sum.elim_inr, if_true, if_false, rd_nI, wr_nI, rd_z, rd_o, wr_z, wr_o, nI_1, nI_add, pk_mul, nI_leI, nI_ltI, nI_eq, z_le, le_z, z_lt, lt_z, eq_z, eq_o, le_o, o_le, lt_o, o_lt, eq_m1, eq_m2, m1_eq, m2_eq, m1_lt, m1_le, o_z, z_o, m1_z, m1_o, m2_z, m2_o, m2_m1, z_lz, z_lo, o_lz, o_ez, z_ez, z_eo, m2_lt, m2_le, leF, leT, ltF, ltT, eqF, eqT, bI_z, bI_o, sh1, sh0, not_true_eq_false, not_false_eq_true, ne_eq, Bool.true_eq_false, Bool.false_eq_true, true_and, and_true, false_and, and_false, l_2, l_3, l_4, l_5, l_6, l_7, l_8, l_9, l_10, l_11, l_12, l_13, l_14, l_15, l_16, l_17, l_18, l_19, l_20, l_21, l_22, l_23, l_24, l_25, l_26, l_27, l_28, l_29, l_30, l_32, l_33, l_34, l_35, l_36, l_37, l_38, l_39, l_50, l_60, l_99, l_100, l_150, l_160, l_240, l_250, l_300, l_400, l_402, l_403, l_420, l_500, l_600, l_840, l_1000, l_1024, l_2000, l_2047, l_2048, l_10000, l_25600, l_500000, hP2.1]; done) | omega)) | with_reducible apply Ok.jnU | with_reducible apply Ok.letsU | with_reducible apply Ok.elL | with_reducible apply Ok.elR | ((with_reducible apply Ok.gdT); · exact bI_nar _)))
        exact Ok.ret rfl
theorem q_kept (hI : IV W V tw en sd P N H S) (hn : 30000 ≤ n) (x y z u : Int32) : Sc (fun S => E_X11_kept n S tw x y z u) (fun S => E_X12_kept n S x y z u) S (IV W V tw en sd P N H) := by
  have hI0 := hI
  obtain ⟨hW, hPW, hHW, hC, hR⟩ := hI
  have hm1 : W 0 1 ≤ 10 := hW.mx (k := 1) (by decide)
  have hm2 : W 0 2 ≤ 6 := hW.mx (k := 2) (by decide)
  have r100 : ∀ {S}, E_X12_in n S z 0 (100 : Int32) = some (bI (vB z 101)) := r_inK (m := 100) (by decide)
  have v2 : E_X11_isOne n S tw (2 : Int32) u = some (bI (vB u (W 0 2))) := c_vOne (k := 2) hC.1 hW (by decide)
  unfold E_X11_kept E_X12_kept
  -- how many days
  by_cases g1 : y < 1
  · refine Sc.no (v := -1) ?_ ?_ hI0
    · rw [if_pos g1]
    · rw [r_in, if_pos g1]; rfl
  by_cases g2 : (50 : Int32) < y
  · refine Sc.no (v := -1) ?_ ?_ hI0
    · rw [if_neg g1, if_pos g2]
    · rw [r_in, if_neg g1, if_pos g2]; rfl
  have rin : ∀ {S}, E_X12_in n S y 1 50 = some 1 := by intro S; rw [r_in, if_neg g1, if_neg g2]
  have gy : ¬ y < 0 := fun z => g1 (by
    have h1 : (0 : Int32) < 1 := by decide
    rw [Int32.lt_iff_toInt_lt] at *
    have e0 : (0 : Int32).toInt = 0 := rfl
    have e1 : (1 : Int32).toInt = 1 := rfl
    omega)
  obtain ⟨k, hk, rfl⟩ := nI_of gy
  have hk50 : k ≤ 50 := by
    rcases Nat.lt_or_ge 50 k with h | h
    · exact absurd (nI_lt (a := 50) h hk) g2
    · exact h
  cases c1 : vB z 101
  · refine Sc.no (v := -1) ?_ ?_ hI0
    · rw [if_neg g1, if_neg g2, c_frail, c1]; rfl
    · rw [rin, Option.bind_some, if_neg (by decide), r100, c1]; rfl
  cases c2 : vB u (W 0 2)
  · refine Sc.no (v := -1) ?_ ?_ hI0
    · rw [if_neg g1, if_neg g2, c_frail, c1, Option.bind_some, if_neg (by decide), v2, c2]; rfl
    · rw [rin, Option.bind_some, if_neg (by decide), r100, c1, Option.bind_some, if_neg (by decide), r_vT hR.1 hW, c2]; rfl
  obtain ⟨f, hf, rfl⟩ := vB_t (by omega) c1
  obtain ⟨t, ht, rfl⟩ := vB_t (by omega) c2
  have hfr : nI f ≠ -1 := nI_m1 (by omega)
  let B : Nat → Bool := fun i => !bt (wGone W V P N (x + nI i) (nI f)) t
  have A1 : Ok ((iter (fun (s7 : Int32 × Int32 × ST) => if nI k ≤ s7.2.1 then some (.inr (s7.1, s7.2.2)) else (E_X11_goDay n s7.2.2 tw (x + s7.2.1) (nI f)).bind fun S10 => (E_X1_goneThings n S10 82 tw).bind fun v11 => (E_X11_hasBit n S10 v11 (nI t)).bind fun v12 => jn (fun (u13 : Int32) => some (.inl (u13, (s7.2.1 + (1 : Int32)), S10))) fun j14 => if v12 = 0 then j14 (s7.1 + (1 : Int32)) else j14 s7.1) n ((0 : Int32), (0 : Int32), S)).bind fun (e7 : Int32 × ST) => some (e7.1, e7.2)) (fun r => r.1 = nI (cnt B k) ∧ Df (XS tw) S r.2 ∧ CI W V tw en P N H r.2) := by
    refine bindL (fun i q => q.1 = nI (cnt B i) ∧ q.2.1 = nI i ∧ Df (XS tw) S q.2.2 ∧ CI W V tw en P N H q.2.2) (fun e => e.1 = nI (cnt B k) ∧ Df (XS tw) S e.2 ∧ CI W V tw en P N H e.2) 0 k (Nat.zero_le _) (by omega) ⟨rfl, rfl, Df.refl _ _, hC⟩ ?_ ?_ (fun e he => Ok.ret he)
    · rintro i ⟨a, b, S1⟩ _ hi ⟨rfl, rfl, d1, hC1⟩
      dsimp only at d1 hC1 ⊢
      refine Ok.ifF (by simp (disch := omega) only [↓reduceIte, Option.bind_some, jn, lets, Sum.elim_inl, Sum.elim_inr, if_true, if_false, rd_nI, wr_nI, rd_z, rd_o, wr_z, wr_o, nI_1, nI_add, pk_mul, nI_leI, nI_ltI, nI_eq, z_le, le_z, z_lt, lt_z, eq_z, eq_o, le_o, o_le, lt_o, o_lt, eq_m1, eq_m2, m1_eq, m2_eq, m1_lt, m1_le, o_z, z_o, m1_z, m1_o, m2_z, m2_o, m2_m1, z_lz, z_lo, o_lz, o_ez, z_ez, z_eo, m2_lt, m2_le, leF, leT, ltF, ltT, eqF, eqT, bI_z, bI_o, sh1, sh0, not_true_eq_false, not_false_eq_true, ne_eq, Bool.true_eq_false, Bool.false_eq_true, true_and, and_true, false_and, and_false, l_2, l_3, l_4, l_5, l_6, l_7, l_8, l_9, l_10, l_11, l_12, l_13, l_14, l_15, l_16, l_17, l_18, l_19, l_20, l_21, l_22, l_23, l_24, l_25, l_26, l_27, l_28, l_29, l_30, l_32, l_33, l_34, l_35, l_36, l_37, l_38, l_39, l_50, l_60, l_99, l_100, l_150, l_160, l_240, l_250, l_300, l_400, l_402, l_403, l_420, l_500, l_600, l_840, l_1000, l_1024, l_2000, l_2047, l_2048, l_10000, l_25600, l_500000]) ?_
      obtain ⟨S2, e2, d2, hC2, r2, hD⟩ := c_goDay (n := n) (seed := x + nI i) hC1 hW hPW hn hfr
      apply Ok.step e2
      apply Ok.step (c_gone hC2.1 hW hn r2 hD)
      apply Ok.step (c_hasBit (by omega))
      apply Ok.jnU
      have eB : B i = !bt (wGone W V P N (x + nI i) (nI f)) t := rfl
      cases c : bt (wGone W V P N (x + nI i) (nI f)) t
      · refine Ok.ifT rfl (Ok.inl ⟨?_, nI_1 _, d1.trans d2, hC2⟩)
        dsimp only
        rw [nI_1, cnt, eB, c]; rfl
      · refine Ok.ifF (by decide) (Ok.inl ⟨?_, nI_1 _, d1.trans d2, hC2⟩)
        dsimp only
        rw [cnt, eB, c]; rfl
    · rintro ⟨a, b, S1⟩ ⟨rfl, rfl, d1, hC1⟩
      dsimp only at d1 hC1 ⊢
      exact Ok.ifT (by simp (disch := omega) only [↓reduceIte, Option.bind_some, jn, lets, Sum.elim_inl, Sum.elim_inr, if_true, if_false, rd_nI, wr_nI, rd_z, rd_o, wr_z, wr_o, nI_1, nI_add, pk_mul, nI_leI, nI_ltI, nI_eq, z_le, le_z, z_lt, lt_z, eq_z, eq_o, le_o, o_le, lt_o, o_lt, eq_m1, eq_m2, m1_eq, m2_eq, m1_lt, m1_le, o_z, z_o, m1_z, m1_o, m2_z, m2_o, m2_m1, z_lz, z_lo, o_lz, o_ez, z_ez, z_eo, m2_lt, m2_le, leF, leT, ltF, ltT, eqF, eqT, bI_z, bI_o, sh1, sh0, not_true_eq_false, not_false_eq_true, ne_eq, Bool.true_eq_false, Bool.false_eq_true, true_and, and_true, false_and, and_false, l_2, l_3, l_4, l_5, l_6, l_7, l_8, l_9, l_10, l_11, l_12, l_13, l_14, l_15, l_16, l_17, l_18, l_19, l_20, l_21, l_22, l_23, l_24, l_25, l_26, l_27, l_28, l_29, l_30, l_32, l_33, l_34, l_35, l_36, l_37, l_38, l_39, l_50, l_60, l_99, l_100, l_150, l_160, l_240, l_250, l_300, l_400, l_402, l_403, l_420, l_500, l_600, l_840, l_1000, l_1024, l_2000, l_2047, l_2048, l_10000, l_25600, l_500000]) (Ok.inr ⟨rfl, d1, hC1⟩)
  obtain ⟨⟨v1, S1⟩, e1, rfl, d1, hC1⟩ := A1
  dsimp only at d1 hC1
  have hR1 := hR.dfC (XS_XCl hC.1.1 d1)
  have B1 : Ok ((iter (fun (s7 : Int32 × Int32 × ST) => if nI k ≤ s7.2.1 then some (.inr (s7.1, s7.2.2)) else (E_X12_goesByLots n s7.2.2 (x + s7.2.1) (nI f)).bind fun S10 => (E_X12_goneNow n S10 ).bind fun v11 => jn (fun (u12 : Int32) => some (.inl (u12, (s7.2.1 + (1 : Int32)), S10))) fun j13 => if ((v11 >>> ((nI t) &&& 31)) &&& (1 : Int32)) = 0 then j13 (s7.1 + (1 : Int32)) else j13 s7.1) n ((0 : Int32), (0 : Int32), S1)).bind fun (e7 : Int32 × ST) => lets (upI e7.2 95 61 (0 : Int32)) fun (S15 : ST) => some (e7.1, S15)) (fun r => r.1 = nI (cnt B k) ∧ Df XSR S1 r.2 ∧ RI W V sd P N H r.2) := by
    refine bindL (fun i q => q.1 = nI (cnt B i) ∧ q.2.1 = nI i ∧ Df XSR S1 q.2.2 ∧ q.2.2.1 95 73 = -1) (fun e => e.1 = nI (cnt B k) ∧ Df XSR S1 e.2 ∧ e.2.1 95 73 = -1) 0 k (Nat.zero_le _) (by omega) ⟨rfl, rfl, Df.refl _ _, hR1.2.2.2.2.2⟩ ?_ ?_ ?_
    · rintro i ⟨a, b, S2⟩ _ hi ⟨rfl, rfl, d2, z2⟩
      dsimp only at d2 z2 ⊢
      obtain ⟨hR2, hL2, hP2⟩ := hR1.weak d2
      refine Ok.ifF (by simp (disch := omega) only [↓reduceIte, Option.bind_some, jn, lets, Sum.elim_inl, Sum.elim_inr, if_true, if_false, rd_nI, wr_nI, rd_z, rd_o, wr_z, wr_o, nI_1, nI_add, pk_mul, nI_leI, nI_ltI, nI_eq, z_le, le_z, z_lt, lt_z, eq_z, eq_o, le_o, o_le, lt_o, o_lt, eq_m1, eq_m2, m1_eq, m2_eq, m1_lt, m1_le, o_z, z_o, m1_z, m1_o, m2_z, m2_o, m2_m1, z_lz, z_lo, o_lz, o_ez, z_ez, z_eo, m2_lt, m2_le, leF, leT, ltF, ltT, eqF, eqT, bI_z, bI_o, sh1, sh0, not_true_eq_false, not_false_eq_true, ne_eq, Bool.true_eq_false, Bool.false_eq_true, true_and, and_true, false_and, and_false, l_2, l_3, l_4, l_5, l_6, l_7, l_8, l_9, l_10, l_11, l_12, l_13, l_14, l_15, l_16, l_17, l_18, l_19, l_20, l_21, l_22, l_23, l_24, l_25, l_26, l_27, l_28, l_29, l_30, l_32, l_33, l_34, l_35, l_36, l_37, l_38, l_39, l_50, l_60, l_99, l_100, l_150, l_160, l_240, l_250, l_300, l_400, l_402, l_403, l_420, l_500, l_600, l_840, l_1000, l_1024, l_2000, l_2047, l_2048, l_10000, l_25600, l_500000]) ?_
      obtain ⟨S3, e3, d3, z3, r3⟩ := r_lots (n := n) (seed := x + nI i) (frail := nI f) hR2 hL2 hP2 hW hPW hn
      have hR3 := (hR1.weak (d2.trans d3)).1
      apply Ok.step e3
      apply Ok.step (r_gone hR3 hW hn r3)
      apply Ok.jnU
      have eB : B i = !bt (wGone W V P N (x + nI i) (nI f)) t := rfl
      by_cases c : bt (wGone W V P N (x + nI i) (nI f)) t = true
      · refine Ok.ifF (fun z => ?_) (Ok.inl ⟨?_, nI_1 _, d2.trans d3, z3⟩)
        · rw [shr_0 _ (by omega), c] at z; cases z
        dsimp only
        rw [cnt, eB, c]; rfl
      · simp only [Bool.not_eq_true] at c
        refine Ok.ifT ((shr_0 _ (by omega)).mpr c) (Ok.inl ⟨?_, nI_1 _, d2.trans d3, z3⟩)
        dsimp only
        rw [nI_1, cnt, eB, c]; rfl
    · rintro ⟨a, b, S2⟩ ⟨rfl, rfl, d2, z2⟩
      dsimp only at d2 z2 ⊢
      exact Ok.ifT (by simp (disch := omega) only [↓reduceIte, Option.bind_some, jn, lets, Sum.elim_inl, Sum.elim_inr, if_true, if_false, rd_nI, wr_nI, rd_z, rd_o, wr_z, wr_o, nI_1, nI_add, pk_mul, nI_leI, nI_ltI, nI_eq, z_le, le_z, z_lt, lt_z, eq_z, eq_o, le_o, o_le, lt_o, o_lt, eq_m1, eq_m2, m1_eq, m2_eq, m1_lt, m1_le, o_z, z_o, m1_z, m1_o, m2_z, m2_o, m2_m1, z_lz, z_lo, o_lz, o_ez, z_ez, z_eo, m2_lt, m2_le, leF, leT, ltF, ltT, eqF, eqT, bI_z, bI_o, sh1, sh0, not_true_eq_false, not_false_eq_true, ne_eq, Bool.true_eq_false, Bool.false_eq_true, true_and, and_true, false_and, and_false, l_2, l_3, l_4, l_5, l_6, l_7, l_8, l_9, l_10, l_11, l_12, l_13, l_14, l_15, l_16, l_17, l_18, l_19, l_20, l_21, l_22, l_23, l_24, l_25, l_26, l_27, l_28, l_29, l_30, l_32, l_33, l_34, l_35, l_36, l_37, l_38, l_39, l_50, l_60, l_99, l_100, l_150, l_160, l_240, l_250, l_300, l_400, l_402, l_403, l_420, l_500, l_600, l_840, l_1000, l_1024, l_2000, l_2047, l_2048, l_10000, l_25600, l_500000]) (Ok.inr ⟨rfl, d2, z2⟩)
    · rintro ⟨a, S2⟩ ⟨rfl, d2, z2⟩
      dsimp only at d2 z2 ⊢
      have d3 : Df XSR S1 (upI S2 95 61 0) := XSR_up d2 (by omega)
      exact Ok.letsU (Ok.ret ⟨rfl, d3, hR1.dfS d3 (by rw [upI_at, if_pos ⟨rfl, rfl⟩]) (by rw [upI_at, if_neg (by omega)]; exact z2)⟩)
  obtain ⟨⟨v2, S2⟩, e2, rfl, d2, hR2⟩ := B1
  dsimp only at d2 hR2
  refine ⟨nI (cnt B k), S1, S2, ?_, ?_, ⟨hW, hPW, hHW, hC1.dfR (XSR_XRf d2), hR2⟩, (XS_XQA hC.1.1 d1).trans (XSR_XQA d2)⟩
  · dsimp only
    rw [if_neg g1, if_neg g2, c_frail, c1, Option.bind_some, if_neg (by decide), v2, c2, Option.bind_some, if_neg (by decide)]
    exact e1
  · dsimp only
    rw [rin, Option.bind_some, if_neg (by decide), r100, c1, Option.bind_some, if_neg (by decide), r_vT hR1.1 hW, c2, Option.bind_some, if_neg (by decide)]
    exact e2
end LOT
