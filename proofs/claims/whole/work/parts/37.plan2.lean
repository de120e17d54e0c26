/-! ===== drop, hold, restore, count ===== -/
def cutP (P : PL) (i : Nat) : PL := fun q k => if k < i then P q k else P q (k + 1)
section QR
variable {W : VW} {V : VL} {tw en sd : Nat} {P : PL} {N : Nat} {H : HL} {n : Nat} {S : ST}
theorem c_inD (hR : RI W V sd P N H S) (hN : N ≤ 30) {x : Int32} : E_X12_in n S x 0 (S.1 95 62 - 1) = some (bI (vB x N)) := by rw [hR.2.2.1.1, r_inB (by omega)]
theorem PWF.cut {i : Nat} (hPW : PWF W P N) (hi : i < N) : PWF W (cutP P i) (N - 1) := by
  have hN := hPW.1
  refine ⟨by omega, fun k hk => ?_⟩
  unfold cutP
  by_cases e : k < i
  · simp only [e, if_true]; exact hPW.2 k (by omega)
  · simp only [e, if_false]; exact hPW.2 (k + 1) (by omega)
theorem q_drop (hI : IV W V tw en sd P N H S) (hn : 30000 ≤ n) (x : Int32) : Sp (fun S => E_X11_drop n S tw x) (fun S => E_X12_drop n S x) S (IV W V tw en sd) := by
  have hI0 := hI
  obtain ⟨hW, hPW, hHW, hC, hR⟩ := hI
  have hN := hPW.1
  unfold E_X11_drop
  cases c1 : vB x N
  · exact Sp.no (by rw [c_hasD hC.2.1 hN, c1]; rfl) (by unfold E_X12_drop; rw [c_inD hR hN, c1]; rfl) hI0
  obtain ⟨i, hi, rfl⟩ := vB_t (by omega) c1
  -- the class
  have A : Ok ((E_X5_has n S (nI i)).bind fun v1 => if v1 = 0 then some ((-1 : Int32), S) else lets (upI S 8 10 (0 : Int32)) fun (S3 : ST) => (E_X5_remove n S3 (nI i)).bind fun S5 => some ((S5.1 72 1), S5)) (fun r => r.1 = nI (N - 1) ∧ CI W V tw en (cutP P i) (N - 1) H r.2 ∧ Df XCp S r.2) := by
    apply Ok.step (c_hasD hC.2.1 hN)
    rw [c1]
    refine Ok.ifF (by decide) ?_
    apply Ok.letsU
    have hC3 := hC.flag0
    unfold E_X5_remove
    have e1 := hC3.2.1.1
    have ecp : cpS (upI S 8 10 0) 73 150 (((nI i) + (1 : Int32)) * (5 : Int32)) 73 150 ((nI i) * (5 : Int32)) ((((upI S 8 10 0).1 72 1) * (5 : Int32)) - (((nI i) + (1 : Int32)) * (5 : Int32))) = some (setC (upI S 8 10 0) 73 (va_cpy ((upI S 8 10 0).1 73) ((upI S 8 10 0).1 73) ((i + 1) * 5) (i * 5) (N * 5 - (i + 1) * 5))) := by
      unfold cpS
      rw [e1, nI_1, show (5 : Int32) = nI 5 from rfl, pk_mul, pk_mul, pk_mul, pk_sub (by omega)]
      rw [nI_clamp (by omega), nI_clamp (by omega), nI_clamp (by omega), if_pos ⟨nI_pos' (by omega), nI_pos' (by omega), nI_pos' (by omega), by omega, by omega⟩]
    refine Ok.step (x := upI (setC (upI S 8 10 0) 73 (va_cpy ((upI S 8 10 0).1 73) ((upI S 8 10 0).1 73) ((i + 1) * 5) (i * 5) (N * 5 - (i + 1) * 5))) 72 1 (nI (N - 1))) (Ok.e ?_) ?_
    · apply Ok.step (c_hasD hC3.2.1 hN)
      rw [c1]
      refine Ok.ifF (by decide) ?_
      apply Ok.step ecp
      apply Ok.letsU
      refine Ok.ret ?_
      rw [setC_ne (by decide), e1, show nI N - 1 = nI (N - 1) from pk_sub (b := 1) (by omega)]
    generalize hS5 : upI (setC (upI S 8 10 0) 73 (va_cpy ((upI S 8 10 0).1 73) ((upI S 8 10 0).1 73) ((i + 1) * 5) (i * 5) (N * 5 - (i + 1) * 5))) 72 1 (nI (N - 1)) = S5
    have d : Df XCp S S5 := by
      rw [← hS5]
      exact (((Df.refl _ _).up rfl).set (fun _ => rfl)).up rfl
    have e72 : S5.1 72 1 = nI (N - 1) := by rw [← hS5, upI_at, if_pos ⟨rfl, rfl⟩]
    have c73 : ∀ y, S5.1 73 y = if i * 5 ≤ y ∧ y < i * 5 + (N * 5 - (i + 1) * 5) then S.1 73 ((i + 1) * 5 + (y - i * 5)) else S.1 73 y := fun y => by
      rw [← hS5, upI_at, if_neg (by omega), setC_eq]
      unfold va_cpy
      rw [upI_ne (by decide)]
    refine Ok.ret ⟨e72, hC.plan d (fun a j h1 h2 => XCp_no ⟨h1, h2⟩) ⟨e72, fun k q hk hq => ?_⟩ ?_ (by rw [← hS5, upI_at, if_neg (by omega), setC_ne (by decide), upI_at, if_pos ⟨rfl, rfl⟩]), d⟩
    · rw [c73]
      by_cases e : k < i
      · rw [if_neg (by omega), hC.2.1.2 k q (by omega) hq]
        simp [Pc, cutP, e]
      · rw [if_pos (by omega), show (i + 1) * 5 + (k * 5 + q - i * 5) = (k + 1) * 5 + q by omega, hC.2.1.2 (k + 1) q (by omega) hq]
        simp [Pc, cutP, e]
    · refine hC.2.2.1.df (X := fun a j => !decide (74 ≤ a ∧ a ≤ 75)) ⟨d.1, fun a j hx => ?_⟩ (fun a j h1 h2 => by simp [h1, h2])
      simp only [Bool.not_eq_false', decide_eq_true_eq] at hx
      rw [← hS5, upI_at, if_neg (by omega), setC_ne (by omega), upI_at, if_neg (by omega)]
  obtain ⟨⟨v1, S1⟩, e1, rfl, hC1, d1⟩ := A
  dsimp only at hC1 d1
  have hR1 := hR.dfC (XCp_XCl d1)
  -- the reference
  have B : Ok (E_X12_drop n S1 (nI i)) (fun r => r.1 = nI (N - 1) ∧ RI W V sd (cutP P i) (N - 1) H r.2 ∧ Df XRp S1 r.2) := by
    unfold E_X12_drop
    apply Ok.step (c_inD hR1 hN)
    rw [c1]
    refine Ok.ifF (by decide) ?_
    apply Ok.letsU
    rw [hR1.2.2.1.1, show nI N - 1 = nI (N - 1) from pk_sub (b := 1) (by omega)]
    have hP1 := hR1.2.2.1.2
    refine bindL (fun k q => q.1 = nI k ∧ Df XRp S1 q.2 ∧ q.2.1 95 62 = nI (N - 1) ∧ (∀ a j, 155 ≤ a → q.2.1 a j = S1.1 a j) ∧ ∀ a j, 139 ≤ a → a ≤ 143 → q.2.1 a j = if i ≤ j ∧ j < k then S1.1 a (j + 1) else S1.1 a j)
      (fun S' => Df XRp S1 S' ∧ S'.1 95 62 = nI (N - 1) ∧ (∀ a j, 155 ≤ a → S'.1 a j = S1.1 a j) ∧ ∀ a j, 139 ≤ a → a ≤ 143 → S'.1 a j = if i ≤ j ∧ j < N - 1 then S1.1 a (j + 1) else S1.1 a j) i (N - 1) (by omega) (by omega) ⟨rfl, (Df.refl _ _).up rfl, by rw [upI_at, if_pos ⟨rfl, rfl⟩], fun a j h => by rw [upI_ne (by omega)], fun a j h1 h2 => by rw [upI_ne (by omega), if_neg (by omega)]⟩ ?_ ?_ ?_
    · rintro k ⟨y, S3⟩ hik hk ⟨rfl, d3, e3, f3, g3⟩
      dsimp only at d3 e3 f3 g3 ⊢
      have r : ∀ a, 139 ≤ a → a ≤ 143 → S3.1 a (k + 1) = S1.1 a (k + 1) := fun a h1 h2 => by rw [g3 a _ h1 h2, if_neg (by omega)]
      (repeat (first | ((with_reducible apply Ok.step); · ((try simp (disch := omega) only [↓reduceIte, Option.bind_some, Sum.elim_inl, Sum.elim_inr, if_true, if_false, rd_nI, wr_nI, rd_z, rd_o, wr_z, wr_o, nI_1, nI_add, pk_mul, nI_leI, nI_ltI, nI_eq, z_le, le_z, z_lt, lt_z, eq_z, eq_o, le_o, o_le, lt_o, o_lt, eq_m1, eq_m2, m1_eq, m2_eq, m1_lt, m1_le, o_z, z_o, m1_z, m1_o, m2_z, m2_o, m2_m1, z_lz, z_lo, o_lz, o_ez, z_ez, z_eo, m2_lt, m2_le, leF, leT, ltF, ltT, eqF, eqT, bI_z, bI_o, sh1, sh0, not_true_eq_false, not_false_eq_true, ne_eq, Bool.true_eq_false, Bool.false_eq_true, true_and, and_true, false_and, and_false, l_2, l_3, l_4, l_5, l_6, l_7, l_8, l_9, l_10, l_11, l_12, l_13, l_14, l_15, l_16, l_17, l_18, l_19, l_20, l_21, l_22, l_23, l_24, l_25, l_26, l_27, l_28, l_29, l_30, l_32, l_33, l_34, l_35, l_36, l_37, l_38, l_39, l_50, l_60, l_99, l_100, l_150, l_160, l_240, l_250, l_300, l_400, l_402, l_403, l_420, l_500, l_600, l_840, l_1000, l_1024, l_2000, l_2047, l_2048, l_10000, l_25600, l_500000, e3, upI_ne]); with_reducible exact rfl)) | ((with_reducible apply Ok.ifT); · (first | (simp (disch := omega) only [↓reduceIte, Option.bind_some, Sum.elim_inl, Sum.elim_inr, if_true, if_false, rd_nI, wr_nI, rd_z, rd_o, wr_z, wr_o, nI_1, nI_add, pk_mul, nI_leI, nI_ltI, nI_eq, z_le, le_z, z_lt, lt_z, eq_z, eq_o, le_o, o_le, lt_o, o_lt, eq_m1, eq_m2, m1_eq, m2_eq, m1_lt, m1_le, o_z, z_o, m1_z, m1_o, m2_z, m2_o, m2_m1, z_lz, z_lo, o_lz, o_ez, z_ez, z_eo, m2_lt, m2_le, leF, leT, ltF, ltT, eqF, eqT, bI_z, bI_o, sh1, sh0, not_true_eq_false, not_false_eq_true, ne_eq, Bool.true_eq_false, Bool.false_eq_true, true_and, and_true, false_and, and_false, l_2, l_3, l_4, l_5, l_6, l_7, l_8, l_9, l_10, l_11, l_12, l_13, l_14, l_15, l_16, l_17, l_18, l_19, l_20, l_21, l_22, l_23, l_24, l_25, l_26, l_27, l_28, l_29, l_30, l_32, l_33, l_34, l_35, l_36, l_37, l_38, l_39, l_50, l_60, l_99, l_100, l_150, l_160, l_240, l_250, l_300, l_400, l_402, l_403, l_420, l_500, l_600, l_840, l_1000, l_1024, l_2000, l_2047, l_2048, l_10000, l_25600, l_500000, e3, upI_ne]; done) | omega)) | ((with_reducible apply Ok.ifF); · (first | (simp (disch := omega) only [↓reduceIte, Option.bind_some, Sum.elim_inl, Sum.elim_inr, if_true, if_false, rd_nI, wr_nI, rd_z, rd_o, wr_z, wr_o, nI_1, nI_add, pk_mul, nI_leI, nI_ltI, nI_eq, z_le, le_z, z_lt, lt_z, eq_z, eq_o, le_o, o_le, lt_o, o_lt, eq_m1, eq_m2, m1_eq, m2_eq, m1_lt, m1_le, o_z, z_o, m1_z, m1_o, m2_z, m2_o, m2_m1, z_lz, z_lo, o_lz, o_ez, z_ez, z_eo, m2_lt, m2_le, leF, leT, ltF, ltT, eqF, eqT, bI_z, bI_o, sh1, sh0, not_true_eq_false, not_false_eq_true, ne_eq, Bool.true_eq_false, Bool.false_eq_true, true_and, and_true, false_and, and_false, l_2, l_3, l_4, l_5, l_6, l_7, l_8, l_9, l_10, l_11, l_12, l_13, l_14, l_15, l_16, l_17, l_18, l_19, l_20, l_21, l_22, l_23, l_24, l_25, l_26, l_27, l_28, l_29, l_30, l_32, l_33, l_34, l_35, l_36, l_37, l_38, l_39, l_50, l_60, l_99, l_100, l_150, l_160, l_240, l_250, l_300, l_400, l_402, l_403, l_420, l_500, l_600, l_840, l_1000, l_1024, l_2000, l_2047, l_2048, l_10000, l_25600, l_500000, e3, upI_ne]; done) | omega)) | with_reducible apply Ok.jnU | with_reducible apply Ok.letsU | with_reducible apply Ok.elL | with_reducible apply Ok.elR | ((with_reducible apply Ok.gdT); · exact bI_nar _)))
      refine Ok.inl ⟨nI_1 _, ((((d3.up rfl).up rfl).up rfl).up rfl).up rfl, by simp [upI_at, e3], fun a j h => ?_, fun a j h1 h2 => ?_⟩
      · dsimp only
        rw [upI_ne (by omega), upI_ne (by omega), upI_ne (by omega), upI_ne (by omega), upI_ne (by omega)]
        exact f3 a j h
      · dsimp only
        by_cases e : j = k
        · subst e
          rw [if_pos ⟨hik, by omega⟩, ← r a h1 h2]
          rcases (show a = 139 ∨ a = 140 ∨ a = 141 ∨ a = 142 ∨ a = 143 by omega) with rfl | rfl | rfl | rfl | rfl <;> simp [upI_at]
        · have e2 : (i ≤ j ∧ j < k + 1) = (i ≤ j ∧ j < k) := by apply propext; omega
          simp only [e2]
          rw [← g3 a j h1 h2]
          simp [upI_at, e]
    · rintro ⟨y, S3⟩ ⟨rfl, d3, e3, f3, g3⟩
      dsimp only at d3 e3 f3 g3 ⊢
      (repeat (first | ((with_reducible apply Ok.step); · ((try simp (disch := omega) only [↓reduceIte, Option.bind_some, Sum.elim_inl, Sum.elim_inr, if_true, if_false, rd_nI, wr_nI, rd_z, rd_o, wr_z, wr_o, nI_1, nI_add, pk_mul, nI_leI, nI_ltI, nI_eq, z_le, le_z, z_lt, lt_z, eq_z, eq_o, le_o, o_le, lt_o, o_lt, eq_m1, eq_m2, m1_eq, m2_eq, m1_lt, m1_le, o_z, z_o, m1_z, m1_o, m2_z, m2_o, m2_m1, z_lz, z_lo, o_lz, o_ez, z_ez, z_eo, m2_lt, m2_le, leF, leT, ltF, ltT, eqF, eqT, bI_z, bI_o, sh1, sh0, not_true_eq_false, not_false_eq_true, ne_eq, Bool.true_eq_false, Bool.false_eq_true, true_and, and_true, false_and, and_false, l_2, l_3, l_4, l_5, l_6, l_7, l_8, l_9, l_10, l_11, l_12, l_13, l_14, l_15, l_16, l_17, l_18, l_19, l_20, l_21, l_22, l_23, l_24, l_25, l_26, l_27, l_28, l_29, l_30, l_32, l_33, l_34, l_35, l_36, l_37, l_38, l_39, l_50, l_60, l_99, l_100, l_150, l_160, l_240, l_250, l_300, l_400, l_402, l_403, l_420, l_500, l_600, l_840, l_1000, l_1024, l_2000, l_2047, l_2048, l_10000, l_25600, l_500000, e3]); with_reducible exact rfl)) | ((with_reducible apply Ok.ifT); · (first | (simp (disch := omega) only [↓reduceIte, Option.bind_some, Sum.elim_inl, Sum.elim_inr, if_true, if_false, rd_nI, wr_nI, rd_z, rd_o, wr_z, wr_o, nI_1, nI_add, pk_mul, nI_leI, nI_ltI, nI_eq, z_le, le_z, z_lt, lt_z, eq_z, eq_o, le_o, o_le, lt_o, o_lt, eq_m1, eq_m2, m1_eq, m2_eq, m1_lt, m1_le, o_z, z_o, m1_z, m1_o, m2_z, m2_o, m2_m1, z_lz, z_lo, o_lz, o_ez, z_ez, z_eo, m2_lt, m2_le, leF, leT, ltF, ltT, eqF, eqT, bI_z, bI_o, sh1, sh0, not_true_eq_false, not_false_eq_true, ne_eq, Bool.true_eq_false, Bool.false_eq_true, true_and, and_true, false_and, and_false, l_2, l_3, l_4, l_5, l_6, l_7, l_8, l_9, l_10, l_11, l_12, l_13, l_14, l_15, l_16, l_17, l_18, l_19, l_20, l_21, l_22, l_23, l_24, l_25, l_26, l_27, l_28, l_29, l_30, l_32, l_33, l_34, l_35, l_36, l_37, l_38, l_39, l_50, l_60, l_99, l_100, l_150, l_160, l_240, l_250, l_300, l_400, l_402, l_403, l_420, l_500, l_600, l_840, l_1000, l_1024, l_2000, l_2047, l_2048, l_10000, l_25600, l_500000, e3]; done) | omega)) | ((with_reducible apply Ok.ifF); · (first | (simp (disch := omega) only [↓reduceIte, Option.bind_some, Sum.elim_inl, Sum.elim_inr, if_true, if_false, rd_nI, wr_nI, rd_z, rd_o, wr_z, wr_o, nI_1, nI_add, pk_mul, nI_leI, nI_ltI, nI_eq, z_le, le_z, z_lt, lt_z, eq_z, eq_o, le_o, o_le, lt_o, o_lt, eq_m1, eq_m2, m1_eq, m2_eq, m1_lt, m1_le, o_z, z_o, m1_z, m1_o, m2_z, m2_o, m2_m1, z_lz, z_lo, o_lz, o_ez, z_ez, z_eo, m2_lt, m2_le, leF, leT, ltF, ltT, eqF, eqT, bI_z, bI_o, sh1, sh0, not_true_eq_false, not_false_eq_true, ne_eq, Bool.true_eq_false, Bool.false_eq_true, true_and, and_true, false_and, and_false, l_2, l_3, l_4, l_5, l_6, l_7, l_8, l_9, l_10, l_11, l_12, l_13, l_14, l_15, l_16, l_17, l_18, l_19, l_20, l_21, l_22, l_23, l_24, l_25, l_26, l_27, l_28, l_29, l_30, l_32, l_33, l_34, l_35, l_36, l_37, l_38, l_39, l_50, l_60, l_99, l_100, l_150, l_160, l_240, l_250, l_300, l_400, l_402, l_403, l_420, l_500, l_600, l_840, l_1000, l_1024, l_2000, l_2047, l_2048, l_10000, l_25600, l_500000, e3]; done) | omega)) | with_reducible apply Ok.jnU | with_reducible apply Ok.letsU | with_reducible apply Ok.elL | with_reducible apply Ok.elR | ((with_reducible apply Ok.gdT); · exact bI_nar _)))
      exact Ok.inr ⟨d3, e3, f3, g3⟩
    · rintro S3 ⟨d3, e3, f3, g3⟩
      refine Ok.ret ⟨e3, hR1.plan d3 (fun a j h1 h2 => XRp_no ⟨by omega, h2⟩) ⟨e3, fun k hk => ?_⟩ ?_, d3⟩
      · by_cases e : k < i
        · obtain ⟨a0, a1, a2, a3, a4⟩ := hP1 k (by omega)
          refine ⟨?_, ?_, ?_, ?_, ?_⟩ <;> rw [g3 _ _ (by omega) (by omega), if_neg (by omega)] <;> simp [cutP, e, a0, a1, a2, a3, a4]
        · obtain ⟨a0, a1, a2, a3, a4⟩ := hP1 (k + 1) (by omega)
          refine ⟨?_, ?_, ?_, ?_, ?_⟩ <;> rw [g3 _ _ (by omega) (by omega), if_pos (by omega)] <;> simp [cutP, e, a0, a1, a2, a3, a4]
      · exact hR1.2.2.2.1.df (X := fun a j => !decide (155 ≤ a)) ⟨d3.1, fun a j hx => f3 a j (by simpa using hx)⟩ (fun a j h1 h2 => by simp [h1])
  obtain ⟨⟨v2, S2⟩, e2, rfl, hR2, d2⟩ := B
  exact ⟨nI (N - 1), S1, S2, _, _, H, e1, e2, ⟨hW, hPW.cut hi, hHW, hC1.dfR (XRp_XRf d2), hR2⟩, (XCp_XQA d1).trans (XRp_XQA d2)⟩
def setH (H : HL) (s : Nat) (q : PL × Nat) : HL := fun s' => if s' = s then some q else H s'
theorem q_hold (hI : IV W V tw en sd P N H S) (hn : 30000 ≤ n) (x : Int32) : Sp (fun S => E_X11_hold n S tw x) (fun S => E_X12_hold n S x) S (IV W V tw en sd) := by
  have hI0 := hI
  obtain ⟨hW, hPW, hHW, hC, hR⟩ := hI
  have hN := hPW.1
  have hin : ∀ {S}, E_X12_in n S x 0 (2 : Int32) = some (bI (vB x 3)) := r_inK (m := 2) (by decide)
  unfold E_X11_hold
  cases c1 : vB x 3
  · refine Sp.no (v := 0) ?_ (by unfold E_X12_hold; rw [hin, c1]; rfl) hI0
    have : E_X5_keep n S x = some (0, S) := by
      unfold E_X5_keep
      by_cases c2 : x < 0
      · rw [if_pos c2]
      · rw [if_neg c2, if_neg]
        intro z
        have : vB x 3 = true := by
          simp only [vB, Bool.and_eq_true, decide_eq_true_eq]
          exact ⟨Int32.not_lt.mp c2, z⟩
        rw [c1] at this; cases this
    rw [this, Option.bind_some, gd_pos nar0]
  obtain ⟨s, hs, rfl⟩ := vB_t (by omega) c1
  have hHW' : HWF W (setH H s (P, N)) := fun s' hs' q hq => by
    unfold setH at hq
    split at hq
    · cases hq; exact hPW
    · exact hHW s' hs' q hq
  have A : Ok ((E_X5_keep n S (nI s)).bind fun v1 => gd (narrow .boolean (.int v1.1) = .int v1.1) (some (v1.1, v1.2))) (fun r => r.1 = 1 ∧ CI W V tw en P N (setH H s (P, N)) r.2 ∧ Df XCp S r.2) := by
    have ecp : cpS (upI S 75 s (nI N)) 73 150 (0 : Int32) 74 450 ((nI s) * (150 : Int32)) (150 : Int32) = some (setC (upI S 75 s (nI N)) 74 (va_cpy ((upI S 75 s (nI N)).1 73) ((upI S 75 s (nI N)).1 74) 0 (s * 150) 150)) := by
      unfold cpS
      rw [show (150 : Int32) = nI 150 from rfl, show (0 : Int32) = nI 0 from rfl, pk_mul]
      rw [nI_clamp (by omega), nI_clamp (by omega), nI_clamp (by omega), if_pos ⟨nI_pos' (by omega), nI_pos' (by omega), nI_pos' (by omega), by omega, by omega⟩]
    refine Ok.step (x := (1, setC (upI S 75 s (nI N)) 74 (va_cpy ((upI S 75 s (nI N)).1 73) ((upI S 75 s (nI N)).1 74) 0 (s * 150) 150))) (Ok.e ?_) ?_
    · unfold E_X5_keep
      rw [hC.2.1.1]
      refine Ok.ifF (nI_pos (by omega)) (Ok.ifT (nI_lt (b := 3) hs (by decide)) ?_)
      apply Ok.step (wr_nI hs (by decide))
      apply Ok.step ecp
      exact Ok.ret rfl
    generalize hS5 : setC (upI S 75 s (nI N)) 74 (va_cpy ((upI S 75 s (nI N)).1 73) ((upI S 75 s (nI N)).1 74) 0 (s * 150) 150) = S5
    have d : Df XCp S S5 := by
      rw [← hS5]
      exact ((Df.refl _ _).up rfl).set (fun _ => rfl)
    have c74 : ∀ y, S5.1 74 y = if s * 150 ≤ y ∧ y < s * 150 + 150 then S.1 73 (y - s * 150) else S.1 74 y := fun y => by
      rw [← hS5, setC_eq]
      unfold va_cpy
      rw [upI_ne (by decide), upI_ne (by decide), Nat.zero_add]
    have c75 : ∀ y, S5.1 75 y = if y = s then nI N else S.1 75 y := fun y => by
      rw [← hS5, setC_ne (by decide), upI_at]
      simp
    have old : ∀ a j, a ≠ 74 → a ≠ 75 → S5.1 a j = S.1 a j := fun a j h1 h2 => by rw [← hS5, setC_ne h1, upI_ne h2]
    have dd : Df (fun a _ => a == 74 || a == 75) S S5 := ⟨d.1, fun a j hx => by
      simp only [Bool.or_eq_false_iff, beq_eq_false_iff_ne] at hx
      exact old a j hx.1 hx.2⟩
    have nx : ∀ a j, (a ≠ 74 ∧ a ≠ 75) → (fun a _ => a == 74 || a == 75 : Nat → Nat → Bool) a j = false := fun a j h => by
      simp only [Bool.or_eq_false_iff, beq_eq_false_iff_ne]; exact h
    have hw := hC.1.1
    have hH5 : HCl (setH H s (P, N)) S5 := by
      intro s' hs'
      refine ⟨fun hn => ?_, fun q hq => ?_⟩
      · unfold setH at hn
        split at hn
        · cases hn
        · rename_i e
          rw [c75, if_neg e]
          exact (hC.2.2.1 s' hs').1 hn
      · unfold setH at hq
        split at hq
        · rename_i e
          subst e
          cases hq
          refine ⟨by rw [c75, if_pos rfl], fun k i hk hi => ?_⟩
          dsimp only at hk ⊢
          rw [c74, if_pos (by omega), show s' * 150 + (k * 5 + i) - s' * 150 = k * 5 + i by omega]
          exact hC.2.1.2 k i hk hi
        · rename_i e
          obtain ⟨h1, h2⟩ := (hC.2.2.1 s' hs').2 q hq
          have hq30 := (hHW s' hs' q hq).1
          refine ⟨by rw [c75, if_neg e]; exact h1, fun k i hk hi => ?_⟩
          rw [c74, if_neg (by omega)]
          exact h2 k i hk hi
    obtain ⟨g1, g2, g3, g4, g5, g6⟩ := hC
    refine Ok.gdT nar1 (Ok.ret ⟨rfl, ⟨g1.df dd (fun a j h => nx a j (by omega)), g2.df dd (fun a j h => nx a j (by omega)), hH5, ?_, ?_, g6.df dd (fun a j h => nx a j (by omega))⟩, d⟩)
    · rw [old 8 10 (by decide) (by decide)]
      rcases g4 with z | z
      · exact Or.inl z
      · exact Or.inr ⟨z.1, z.2.df dd (fun a j h => nx a j (by omega))⟩
    · rw [old 92 3 (by decide) (by decide)]
      rcases g5 with z | z
      · exact Or.inl z
      · exact Or.inr ⟨z.1, z.2.df dd (fun a j h => nx a j (by omega))⟩
  obtain ⟨⟨v1, S1⟩, e1, rfl, hC1, d1⟩ := A
  dsimp only at hC1 d1
  have hR1 := hR.dfC (XCp_XCl d1)
  have B : Ok (E_X12_hold n S1 (nI s)) (fun r => r.1 = 1 ∧ RI W V sd P N (setH H s (P, N)) r.2 ∧ Df XRp S1 r.2) := by
    unfold E_X12_hold
    apply Ok.step hin
    rw [c1]
    refine Ok.ifF (by decide) ?_
    rw [hR1.2.2.1.1]
    apply Ok.step (wr_nI hs (by decide))
    have hP1 := hR1.2.2.1.2
    refine bindL (fun k q => q.1 = nI k ∧ Df (fun a _ => decide (155 ≤ a ∧ a ≤ 160)) S1 q.2 ∧ (∀ j, q.2.1 155 j = if j = s then nI N else S1.1 155 j) ∧ ∀ a j, 156 ≤ a → a ≤ 160 → q.2.1 a j = if 30 * s ≤ j ∧ j < 30 * s + k then S1.1 (a - 17) (j - 30 * s) else S1.1 a j)
      (fun S' => Df (fun a _ => decide (155 ≤ a ∧ a ≤ 160)) S1 S' ∧ (∀ j, S'.1 155 j = if j = s then nI N else S1.1 155 j) ∧ ∀ a j, 156 ≤ a → a ≤ 160 → S'.1 a j = if 30 * s ≤ j ∧ j < 30 * s + N then S1.1 (a - 17) (j - 30 * s) else S1.1 a j) 0 N (Nat.zero_le _) (by omega) ⟨rfl, (Df.refl _ _).up rfl, fun j => by rw [upI_at]; simp, fun a j h1 h2 => by rw [upI_ne (by omega), if_neg (by omega)]⟩ ?_ ?_ ?_
    · rintro k ⟨y, S3⟩ _ hk ⟨rfl, d3, f3, g3⟩
      dsimp only at d3 f3 g3 ⊢
      have e3 : S3.1 95 62 = nI N := by rw [d3.2 _ _ rfl]; exact hR1.2.2.1.1
      have r : ∀ a, 139 ≤ a → a ≤ 143 → S3.1 a k = S1.1 a k := fun a h1 h2 => d3.2 _ _ (by simp; omega)
      (repeat (first | ((with_reducible apply Ok.step); · ((try simp (disch := omega) only [↓reduceIte, Option.bind_some, Sum.elim_inl, Sum.elim_inr, if_true, if_false, rd_nI, wr_nI, rd_z, rd_o, wr_z, wr_o, nI_1, nI_add, pk_mul, nI_leI, nI_ltI, nI_eq, z_le, le_z, z_lt, lt_z, eq_z, eq_o, le_o, o_le, lt_o, o_lt, eq_m1, eq_m2, m1_eq, m2_eq, m1_lt, m1_le, o_z, z_o, m1_z, m1_o, m2_z, m2_o, m2_m1, z_lz, z_lo, o_lz, o_ez, z_ez, z_eo, m2_lt, m2_le, leF, leT, ltF, ltT, eqF, eqT, bI_z, bI_o, sh1, sh0, not_true_eq_false, not_false_eq_true, ne_eq, Bool.true_eq_false, Bool.false_eq_true, true_and, and_true, false_and, and_false, l_2, l_3, l_4, l_5, l_6, l_7, l_8, l_9, l_10, l_11, l_12, l_13, l_14, l_15, l_16, l_17, l_18, l_19, l_20, l_21, l_22, l_23, l_24, l_25, l_26, l_27, l_28, l_29, l_30, l_32, l_33, l_34, l_35, l_36, l_37, l_38, l_39, l_50, l_60, l_99, l_100, l_150, l_160, l_240, l_250, l_300, l_400, l_402, l_403, l_420, l_500, l_600, l_840, l_1000, l_1024, l_2000, l_2047, l_2048, l_10000, l_25600, l_500000, e3, upI_ne]); with_reducible exact rfl)) | ((with_reducible apply Ok.ifT); · (first | (simp (disch := omega) only [↓reduceIte, Option.bind_some, Sum.elim_inl, Sum.elim_inr, if_true, if_false, rd_nI, wr_nI, rd_z, rd_o, wr_z, wr_o, nI_1, nI_add, pk_mul, nI_leI, nI_ltI, nI_eq, z_le, le_z, z_lt, lt_z, eq_z, eq_o, le_o, o_le, lt_o, o_lt, eq_m1, eq_m2, m1_eq, m2_eq, m1_lt, m1_le, o_z, z_o, m1_z, m1_o, m2_z, m2_o, m2_m1, z_lz, z_lo, o_lz, o_ez, z_ez, z_eo, m2_lt, m2_le, leF, leT, ltF, ltT, eqF, eqT, bI_z, bI_o, sh1, sh0, not_true_eq_false, not_false_eq_true, ne_eq, Bool.true_eq_false, Bool.false_eq_true, true_and, and_true, false_and, and_false, l_2, l_3, l_4, l_5, l_6, l_7, l_8, l_9, l_10, l_11, l_12, l_13, l_14, l_15, l_16, l_17, l_18, l_19, l_20, l_21, l_22, l_23, l_24, l_25, l_26, l_27, l_28, l_29, l_30, l_32, l_33, l_34, l_35, l_36, l_37, l_38, l_39, l_50, l_60, l_99, l_100, l_150, l_160, l_240, l_250, l_300, l_400, l_402, l_403, l_420, l_500, l_600, l_840, l_1000, l_1024, l_2000, l_2047, l_2048, l_10000, l_25600, l_500000, e3, upI_ne]; done) | omega)) | ((with_reducible apply Ok.ifF); · (first | (simp (disch := omega) only [↓reduceIte, Option.bind_some, Sum.elim_inl, Sum.elim_inr, if_true, if_false, rd_nI, wr_nI, rd_z, rd_o, wr_z, wr_o, nI_1, nI_add, pk_mul, nI_leI, nI_ltI, nI_eq, z_le, le_z, z_lt, lt_z, eq_z, eq_o, le_o, o_le, lt_o, o_lt, eq_m1, eq_m2, m1_eq, m2_eq, m1_lt, m1_le, o_z, z_o, m1_z, m1_o, m2_z, m2_o, m2_m1, z_lz, z_lo, o_lz, o_ez, z_ez, z_eo, m2_lt, m2_le, leF, leT, ltF, ltT, eqF, eqT, bI_z, bI_o, sh1, sh0, not_true_eq_false, not_false_eq_true, ne_eq, Bool.true_eq_false, Bool.false_eq_true, true_and, and_true, false_and, and_false, l_2, l_3, l_4, l_5, l_6, l_7, l_8, l_9, l_10, l_11, l_12, l_13, l_14, l_15, l_16, l_17, l_18, l_19, l_20, l_21, l_22, l_23, l_24, l_25, l_26, l_27, l_28, l_29, l_30, l_32, l_33, l_34, l_35, l_36, l_37, l_38, l_39, l_50, l_60, l_99, l_100, l_150, l_160, l_240, l_250, l_300, l_400, l_402, l_403, l_420, l_500, l_600, l_840, l_1000, l_1024, l_2000, l_2047, l_2048, l_10000, l_25600, l_500000, e3, upI_ne]; done) | omega)) | with_reducible apply Ok.jnU | with_reducible apply Ok.letsU | with_reducible apply Ok.elL | with_reducible apply Ok.elR | ((with_reducible apply Ok.gdT); · exact bI_nar _)))
      refine Ok.inl ⟨nI_1 _, ((((d3.up rfl).up rfl).up rfl).up rfl).up rfl, fun j => ?_, fun a j h1 h2 => ?_⟩
      · dsimp only
        rw [upI_ne (by decide), upI_ne (by decide), upI_ne (by decide), upI_ne (by decide), upI_ne (by decide)]
        exact f3 j
      · dsimp only
        by_cases e : j = 30 * s + k
        · subst e
          rw [if_pos ⟨by omega, by omega⟩, show 30 * s + k - 30 * s = k by omega, ← r (a - 17) (by omega) (by omega)]
          rcases (show a = 156 ∨ a = 157 ∨ a = 158 ∨ a = 159 ∨ a = 160 by omega) with rfl | rfl | rfl | rfl | rfl <;> simp [upI_at]
        · have e2 : (30 * s ≤ j ∧ j < 30 * s + (k + 1)) = (30 * s ≤ j ∧ j < 30 * s + k) := by apply propext; omega
          simp only [e2]
          rw [← g3 a j h1 h2]
          simp [upI_at, e]
    · rintro ⟨y, S3⟩ ⟨rfl, d3, f3, g3⟩
      dsimp only at d3 f3 g3 ⊢
      have e3 : S3.1 95 62 = nI N := by rw [d3.2 _ _ rfl]; exact hR1.2.2.1.1
      (repeat (first | ((with_reducible apply Ok.step); · ((try simp (disch := omega) only [↓reduceIte, Option.bind_some, Sum.elim_inl, Sum.elim_inr, if_true, if_false, rd_nI, wr_nI, rd_z, rd_o, wr_z, wr_o, nI_1, nI_add, pk_mul, nI_leI, nI_ltI, nI_eq, z_le, le_z, z_lt, lt_z, eq_z, eq_o, le_o, o_le, lt_o, o_lt, eq_m1, eq_m2, m1_eq, m2_eq, m1_lt, m1_le, o_z, z_o, m1_z, m1_o, m2_z, m2_o, m2_m1, z_lz, z_lo, o_lz, o_ez, z_ez, z_eo, m2_lt, m2_le, leF, leT, ltF, ltT, eqF, eqT, bI_z, bI_o, sh1, sh0, not_true_eq_false, not_false_eq_true, ne_eq, Bool.true_eq_false, Bool.false_eq_true, true_and, and_true, false_and, and_false, l_2, l_3, l_4, l_5, l_6, l_7, l_8, l_9, l_10, l_11, l_12, l_13, l_14, l_15, l_16, l_17, l_18, l_19, l_20, l_21, l_22, l_23, l_24, l_25, l_26, l_27, l_28, l_29, l_30, l_32, l_33, l_34, l_35, l_36, l_37, l_38, l_39, l_50, l_60, l_99, l_100, l_150, l_160, l_240, l_250, l_300, l_400, l_402, l_403, l_420, l_500, l_600, l_840, l_1000, l_1024, l_2000, l_2047, l_2048, l_10000, l_25600, l_500000, e3]); with_reducible exact rfl)) | ((with_reducible apply Ok.ifT); · (first | (simp (disch := omega) only [↓reduceIte, Option.bind_some, Sum.elim_inl, Sum.elim_inr, if_true, if_false, rd_nI, wr_nI, rd_z, rd_o, wr_z, wr_o, nI_1, nI_add, pk_mul, nI_leI, nI_ltI, nI_eq, z_le, le_z, z_lt, lt_z, eq_z, eq_o, le_o, o_le, lt_o, o_lt, eq_m1, eq_m2, m1_eq, m2_eq, m1_lt, m1_le, o_z, z_o, m1_z, m1_o, m2_z, m2_o, m2_m1, z_lz, z_lo, o_lz, o_ez, z_ez, z_eo, m2_lt, m2_le, leF, leT, ltF, ltT, eqF, eqT, bI_z, bI_o, sh1, sh0, not_true_eq_false, not_false_eq_true, ne_eq, Bool.true_eq_false, Bool.false_eq_true, true_and, and_true, false_and, and_false, l_2, l_3, l_4, l_5, l_6, l_7, l_8, l_9, l_10, l_11, l_12, l_13, l_14, l_15, l_16, l_17, l_18, l_19, l_20, l_21, l_22, l_23, l_24, l_25, l_26, l_27, l_28, l_29, l_30, l_32, l_33, l_34, l_35, l_36, l_37, l_38, l_39, l_50, l_60, l_99, l_100, l_150, l_160, l_240, l_250, l_300, l_400, l_402, l_403, l_420, l_500, l_600, l_840, l_1000, l_1024, l_2000, l_2047, l_2048, l_10000, l_25600, l_500000, e3]; done) | omega)) | ((with_reducible apply Ok.ifF); · (first | (simp (disch := omega) only [↓reduceIte, Option.bind_some, Sum.elim_inl, Sum.elim_inr, if_true, if_false, rd_nI, wr_nI, rd_z, rd_o, wr_z, wr_o, nI_1, nI_add, pk_mul, nI_leI, nI_ltI, nI_eq, z_le, le_z, z_lt, lt_z, eq_z, eq_o, le_o, o_le, lt_o, o_lt, eq_m1, eq_m2, m1_eq, m2_eq, m1_lt, m1_le, o_z, z_o, m1_z, m1_o, m2_z, m2_o, m2_m1, z_lz, z_lo, o_lz, o_ez, z_ez, z_eo, m2_lt, m2_le, leF, leT, ltF, ltT, eqF, eqT, bI_z, bI_o, sh1, sh0, not_true_eq_false, not_false_eq_true, ne_eq, Bool.true_eq_false, Bool.false_eq_true, true_and, and_true, false_and, and_false, l_2, l_3, l_4, l_5, l_6, l_7, l_8, l_9, l_10, l_11, l_12, l_13, l_14, l_15, l_16, l_17, l_18, l_19, l_20, l_21, l_22, l_23, l_24, l_25, l_26, l_27, l_28, l_29, l_30, l_32, l_33, l_34, l_35, l_36, l_37, l_38, l_39, l_50, l_60, l_99, l_100, l_150, l_160, l_240, l_250, l_300, l_400, l_402, l_403, l_420, l_500, l_600, l_840, l_1000, l_1024, l_2000, l_2047, l_2048, l_10000, l_25600, l_500000, e3]; done) | omega)) | with_reducible apply Ok.jnU | with_reducible apply Ok.letsU | with_reducible apply Ok.elL | with_reducible apply Ok.elR | ((with_reducible apply Ok.gdT); · exact bI_nar _)))
      exact Ok.inr ⟨d3, f3, g3⟩
    · rintro S3 ⟨d3, f3, g3⟩
      have nx : ∀ a j, (a < 155 ∨ 160 < a) → (fun a _ => decide (155 ≤ a ∧ a ≤ 160) : Nat → Nat → Bool) a j = false := fun a j h => decide_eq_false (by omega)
      have d4 : Df XRp S1 S3 := d3.mono (fun a j hx => by
        simp only [XRp, decide_eq_false_iff_not, Bool.or_eq_false_iff, Bool.and_eq_false_iff, beq_eq_false_iff_ne] at hx ⊢
        exact hx.2.1)
      refine Ok.ret ⟨rfl, hR1.plan d3 (fun a j h1 _ => nx a j (by omega)) (hR1.2.2.1.df d3 (fun a j h => nx a j (by omega))) ?_, d4⟩
      intro s' hs'
      refine ⟨fun hn => ?_, fun q hq => ?_⟩
      · unfold setH at hn
        split at hn
        · cases hn
        · rename_i e
          rw [f3, if_neg e]
          exact (hR1.2.2.2.1 s' hs').1 hn
      · unfold setH at hq
        split at hq
        · rename_i e
          subst e
          cases hq
          refine ⟨by rw [f3, if_pos rfl], fun k hk => ?_⟩
          dsimp only at hk ⊢
          obtain ⟨a0, a1, a2, a3, a4⟩ := hP1 k hk
          refine ⟨?_, ?_, ?_, ?_, ?_⟩ <;> rw [g3 _ _ (by omega) (by omega), if_pos (by omega), show 30 * s' + k - 30 * s' = k by omega] <;> simp [a0, a1, a2, a3, a4]
        · rename_i e
          obtain ⟨h1, h2⟩ := (hR1.2.2.2.1 s' hs').2 q hq
          have hq30 := (hHW s' hs' q hq).1
          refine ⟨by rw [f3, if_neg e]; exact h1, fun k hk => ?_⟩
          obtain ⟨a0, a1, a2, a3, a4⟩ := h2 k hk
          refine ⟨?_, ?_, ?_, ?_, ?_⟩ <;> rw [g3 _ _ (by omega) (by omega), if_neg (by omega)]
          · exact a0
          · exact a1
          · exact a2
          · exact a3
          · exact a4
  obtain ⟨⟨v2, S2⟩, e2, rfl, hR2, d2⟩ := B
  exact ⟨1, S1, S2, _, _, _, e1, e2, ⟨hW, hPW, hHW', hC1.dfR (XRp_XRf d2), hR2⟩, (XCp_XQA d1).trans (XRp_XQA d2)⟩
theorem q_restore (hI : IV W V tw en sd P N H S) (hn : 30000 ≤ n) (x : Int32) : Sp (fun S => E_X11_restore n S tw x) (fun S => E_X12_restore n S x) S (IV W V tw en sd) := by
  have hI0 := hI
  obtain ⟨hW, hPW, hHW, hC, hR⟩ := hI
  have hN := hPW.1
  have hin : ∀ {S}, E_X12_in n S x 0 (2 : Int32) = some (bI (vB x 3)) := r_inK (m := 2) (by decide)
  have d0 : Df XCp S (upI S 8 10 0) := (Df.refl _ _).up rfl
  have hC0 := hC.flag0
  have hR0 := hR.dfC (XCp_XCl d0)
  have no : E_X5_bring n (upI S 8 10 0) x = some (0, upI S 8 10 0) → E_X12_restore n (upI S 8 10 0) x = some (0, upI S 8 10 0) → Sp (fun S => E_X11_restore n S tw x) (fun S => E_X12_restore n S x) S (IV W V tw en sd) := fun h1 h2 => by
    refine ⟨0, _, _, P, N, H, ?_, h2, ⟨hW, hPW, hHW, hC0, hR0⟩, XCp_XQA d0⟩
    unfold E_X11_restore
    simp only [lets]
    rw [h1, Option.bind_some, gd_pos nar0]
  cases c1 : vB x 3
  · refine no ?_ (by unfold E_X12_restore; rw [hin, c1]; rfl)
    unfold E_X5_bring
    by_cases c2 : x < 0
    · rw [if_pos c2]
    · rw [if_neg c2, if_pos]
      apply Int32.not_lt.mp
      intro z
      have : vB x 3 = true := by
        simp only [vB, Bool.and_eq_true, decide_eq_true_eq]
        exact ⟨Int32.not_lt.mp c2, z⟩
      rw [c1] at this; cases this
  obtain ⟨s, hs, rfl⟩ := vB_t (by omega) c1
  have n3 : ¬ (3 : Int32) ≤ nI s := nI_ge (b := 3) hs (by decide)
  cases hH : H s with
  | none =>
    have z1 := (hC0.2.2.1 s hs).1 hH
    have z2 := (hR0.2.2.2.1 s hs).1 hH
    refine no ?_ ?_
    · unfold E_X5_bring
      rw [if_neg (nI_pos (by omega)), if_neg n3, rd_nI hs (by decide), z1]; rfl
    · unfold E_X12_restore
      rw [hin, c1, Option.bind_some, if_neg (by decide), rd_nI hs (by decide), z2]; rfl
  | some q =>
    obtain ⟨Q, M⟩ := q
    obtain ⟨z1, z2⟩ := (hC0.2.2.1 s hs).2 _ hH
    have hQW := hHW s hs _ hH
    have hM := hQW.1
    dsimp only at z1 z2 hQW hM
    have A : Ok (E_X11_restore n S tw (nI s)) (fun r => r.1 = 1 ∧ CI W V tw en Q M H r.2 ∧ Df XCp S r.2) := by
      unfold E_X11_restore
      apply Ok.letsU
      have ecp : cpS (upI (upI S 8 10 0) 72 1 (nI M)) 74 450 ((nI s) * (150 : Int32)) 73 150 (0 : Int32) (150 : Int32) = some (setC (upI (upI S 8 10 0) 72 1 (nI M)) 73 (va_cpy ((upI (upI S 8 10 0) 72 1 (nI M)).1 74) ((upI (upI S 8 10 0) 72 1 (nI M)).1 73) (s * 150) 0 150)) := by
        unfold cpS
        rw [show (150 : Int32) = nI 150 from rfl, show (0 : Int32) = nI 0 from rfl, pk_mul]
        rw [nI_clamp (by omega), nI_clamp (by omega), nI_clamp (by omega), if_pos ⟨nI_pos' (by omega), nI_pos' (by omega), nI_pos' (by omega), by omega, by omega⟩]
      refine Ok.step (x := (1, setC (upI (upI S 8 10 0) 72 1 (nI M)) 73 (va_cpy ((upI (upI S 8 10 0) 72 1 (nI M)).1 74) ((upI (upI S 8 10 0) 72 1 (nI M)).1 73) (s * 150) 0 150))) (Ok.e ?_) ?_
      · unfold E_X5_bring
        refine Ok.ifF (nI_pos (by omega)) (Ok.ifF n3 ?_)
        apply Ok.step (x := nI M) (by rw [rd_nI hs (by decide), z1])
        refine Ok.ifF (fun e => absurd (e ▸ nI_pos' (show M < 2 ^ 31 by omega)) (by decide)) ?_
        apply Ok.step (x := nI M) (by rw [rd_nI hs (by decide), z1])
        apply Ok.letsU
        apply Ok.step ecp
        exact Ok.ret rfl
      generalize hS5 : setC (upI (upI S 8 10 0) 72 1 (nI M)) 73 (va_cpy ((upI (upI S 8 10 0) 72 1 (nI M)).1 74) ((upI (upI S 8 10 0) 72 1 (nI M)).1 73) (s * 150) 0 150) = S5
      have d : Df XCp S S5 := by
        rw [← hS5]
        exact (((Df.refl _ _).up rfl).up rfl).set (fun _ => rfl)
      have c73 : ∀ y, y < 150 → S5.1 73 y = (upI S 8 10 0).1 74 (s * 150 + y) := fun y hy => by
        rw [← hS5, setC_eq]
        unfold va_cpy
        rw [if_pos (by omega), upI_ne (by decide), Nat.sub_zero]
      refine Ok.gdT nar1 (Ok.ret ⟨rfl, hC.plan d (fun a j h1 h2 => XCp_no ⟨h1, h2⟩) ⟨by rw [← hS5, setC_ne (by decide), upI_at, if_pos ⟨rfl, rfl⟩], fun k q hk hq => ?_⟩ ?_ (by rw [← hS5, setC_ne (by decide), upI_at, if_neg (by omega), upI_at, if_pos ⟨rfl, rfl⟩]), d⟩)
      · rw [c73 _ (by omega)]
        exact z2 k q hk hq
      · refine hC.2.2.1.df (X := fun a j => !decide (74 ≤ a ∧ a ≤ 75)) ⟨d.1, fun a j hx => ?_⟩ (fun a j h1 h2 => by simp [h1, h2])
        simp only [Bool.not_eq_false', decide_eq_true_eq] at hx
        rw [← hS5, setC_ne (by omega), upI_at, if_neg (by omega), upI_at, if_neg (by omega)]
    obtain ⟨⟨v1, S1⟩, e1, rfl, hC1, d1⟩ := A
    dsimp only at hC1 d1
    have hR1 := hR.dfC (XCp_XCl d1)
    obtain ⟨y1, y2⟩ := (hR1.2.2.2.1 s hs).2 _ hH
    dsimp only at y1 y2
    have B : Ok (E_X12_restore n S1 (nI s)) (fun r => r.1 = 1 ∧ RI W V sd Q M H r.2 ∧ Df XRp S1 r.2) := by
      unfold E_X12_restore
      apply Ok.step hin
      rw [c1]
      refine Ok.ifF (by decide) ?_
      apply Ok.step (x := nI M) (by rw [rd_nI hs (by decide), y1])
      refine Ok.ifT (nI_pos' (by omega)) ?_
      apply Ok.step (x := nI M) (by rw [rd_nI hs (by decide), y1])
      apply Ok.letsU
      refine bindL (fun k q => q.1 = nI k ∧ Df XRp S1 q.2 ∧ q.2.1 95 62 = nI M ∧ (∀ a j, 155 ≤ a → q.2.1 a j = S1.1 a j) ∧ ∀ a j, 139 ≤ a → a ≤ 143 → j < k → q.2.1 a j = S1.1 (a + 17) (30 * s + j))
        (fun S' => Df XRp S1 S' ∧ S'.1 95 62 = nI M ∧ (∀ a j, 155 ≤ a → S'.1 a j = S1.1 a j) ∧ ∀ a j, 139 ≤ a → a ≤ 143 → j < M → S'.1 a j = S1.1 (a + 17) (30 * s + j)) 0 M (Nat.zero_le _) (by omega) ⟨rfl, (Df.refl _ _).up rfl, by rw [upI_at, if_pos ⟨rfl, rfl⟩], fun a j h => by rw [upI_ne (by omega)], fun a j _ _ h => absurd h (by omega)⟩ ?_ ?_ ?_
      · rintro k ⟨y, S3⟩ _ hk ⟨rfl, d3, e3, f3, g3⟩
        dsimp only at d3 e3 f3 g3 ⊢
        (repeat (first | ((with_reducible apply Ok.step); · ((try simp (disch := omega) only [↓reduceIte, Option.bind_some, Sum.elim_inl, Sum.elim_inr, if_true, if_false, rd_nI, wr_nI, rd_z, rd_o, wr_z, wr_o, nI_1, nI_add, pk_mul, nI_leI, nI_ltI, nI_eq, z_le, le_z, z_lt, lt_z, eq_z, eq_o, le_o, o_le, lt_o, o_lt, eq_m1, eq_m2, m1_eq, m2_eq, m1_lt, m1_le, o_z, z_o, m1_z, m1_o, m2_z, m2_o, m2_m1, z_lz, z_lo, o_lz, o_ez, z_ez, z_eo, m2_lt, m2_le, leF, leT, ltF, ltT, eqF, eqT, bI_z, bI_o, sh1, sh0, not_true_eq_false, not_false_eq_true, ne_eq, Bool.true_eq_false, Bool.false_eq_true, true_and, and_true, false_and, and_false, l_2, l_3, l_4, l_5, l_6, l_7, l_8, l_9, l_10, l_11, l_12, l_13, l_14, l_15, l_16, l_17, l_18, l_19, l_20, l_21, l_22, l_23, l_24, l_25, l_26, l_27, l_28, l_29, l_30, l_32, l_33, l_34, l_35, l_36, l_37, l_38, l_39, l_50, l_60, l_99, l_100, l_150, l_160, l_240, l_250, l_300, l_400, l_402, l_403, l_420, l_500, l_600, l_840, l_1000, l_1024, l_2000, l_2047, l_2048, l_10000, l_25600, l_500000, e3, upI_ne]); with_reducible exact rfl)) | ((with_reducible apply Ok.ifT); · (first | (simp (disch := omega) only [↓reduceIte, Option.bind_some, Sum.elim_inl, Sum.elim_inr, if_true, if_false, rd_nI, wr_nI, rd_z, rd_o, wr_z, wr_o, nI_1, nI_add, pk_mul, nI_leI, nI_ltI, nI_eq, z_le, le_z, z_lt, lt_z, eq_z, eq_o, le_o, o_le, lt_o, o_lt, eq_m1, eq_m2, m1_eq, m2_eq, m1_lt, m1_le, o_z, z_o, m1_z, m1_o, m2_z, m2_o, m2_m1, z_lz, z_lo, o_lz, o_ez, z_ez, z_eo, m2_lt, m2_le, leF, leT, ltF, ltT, eqF, eqT, bI_z, bI_o, sh1, sh0, not_true_eq_false, not_false_eq_true, ne_eq, Bool.true_eq_false, Bool.false_eq_true, true_and, and_true, false_and, and_false, l_2, l_3, l_4, l_5, l_6, l_7, l_8, l_9, l_10, l_11, l_12, l_13, l_14, l_15, l_16, l_17, l_18, l_19, l_20, l_21, l_22, l_23, l_24, l_25, l_26, l_27, l_28, l_29, l_30, l_32, l_33, l_34, l_35, l_36, l_37, l_38, l_39, l_50, l_60, l_99, l_100, l_150, l_160, l_240, l_250, l_300, l_400, l_402, l_403, l_420, l_500, l_600, l_840, l_1000, l_1024, l_2000, l_2047, l_2048, l_10000, l_25600, l_500000, e3, upI_ne]; done) | omega)) | ((with_reducible apply Ok.ifF); · (first | (simp (disch := omega) only [↓reduceIte, Option.bind_some, Sum.elim_inl, Sum.elim_inr, if_true, if_false, rd_nI, wr_nI, rd_z, rd_o, wr_z, wr_o, nI_1, nI_add, pk_mul, nI_leI, nI_ltI, nI_eq, z_le, le_z, z_lt, lt_z, eq_z, eq_o, le_o, o_le, lt_o, o_lt, eq_m1, eq_m2, m1_eq, m2_eq, m1_lt, m1_le, o_z, z_o, m1_z, m1_o, m2_z, m2_o, m2_m1, z_lz, z_lo, o_lz, o_ez, z_ez, z_eo, m2_lt, m2_le, leF, leT, ltF, ltT, eqF, eqT, bI_z, bI_o, sh1, sh0, not_true_eq_false, not_false_eq_true, ne_eq, Bool.true_eq_false, Bool.false_eq_true, true_and, and_true, false_and, and_false, l_2, l_3, l_4, l_5, l_6, l_7, l_8, l_9, l_10, l_11, l_12, l_13, l_14, l_15, l_16, l_17, l_18, l_19, l_20, l_21, l_22, l_23, l_24, l_25, l_26, l_27, l_28, l_29, l_30, l_32, l_33, l_34, l_35, l_36, l_37, l_38, l_39, l_50, l_60, l_99, l_100, l_150, l_160, l_240, l_250, l_300, l_400, l_402, l_403, l_420, l_500, l_600, l_840, l_1000, l_1024, l_2000, l_2047, l_2048, l_10000, l_25600, l_500000, e3, upI_ne]; done) | omega)) | with_reducible apply Ok.jnU | with_reducible apply Ok.letsU | with_reducible apply Ok.elL | with_reducible apply Ok.elR | ((with_reducible apply Ok.gdT); · exact bI_nar _)))
        refine Ok.inl ⟨nI_1 _, ((((d3.up rfl).up rfl).up rfl).up rfl).up rfl, by simp [upI_at, e3], fun a j h => ?_, fun a j h1 h2 h3 => ?_⟩
        · dsimp only
          rw [upI_ne (by omega), upI_ne (by omega), upI_ne (by omega), upI_ne (by omega), upI_ne (by omega)]
          exact f3 a j h
        · dsimp only
          by_cases e : j = k
          · subst e
            rw [← f3 (a + 17) _ (by omega)]
            rcases (show a = 139 ∨ a = 140 ∨ a = 141 ∨ a = 142 ∨ a = 143 by omega) with rfl | rfl | rfl | rfl | rfl <;> simp [upI_at]
          · rw [← g3 a j h1 h2 (by omega)]
            simp [upI_at, e]
      · rintro ⟨y, S3⟩ ⟨rfl, d3, e3, f3, g3⟩
        dsimp only at d3 e3 f3 g3 ⊢
        (repeat (first | ((with_reducible apply Ok.step); · ((try simp (disch := omega) only [↓reduceIte, Option.bind_some, Sum.elim_inl, Sum.elim_inr, if_true, if_false, rd_nI, wr_nI, rd_z, rd_o, wr_z, wr_o, nI_1, nI_add, pk_mul, nI_leI, nI_ltI, nI_eq, z_le, le_z, z_lt, lt_z, eq_z, eq_o, le_o, o_le, lt_o, o_lt, eq_m1, eq_m2, m1_eq, m2_eq, m1_lt, m1_le, o_z, z_o, m1_z, m1_o, m2_z, m2_o, m2_m1, z_lz, z_lo, o_lz, o_ez, z_ez, z_eo, m2_lt, m2_le, leF, leT, ltF, ltT, eqF, eqT, bI_z, bI_o, sh1, sh0, not_true_eq_false, not_false_eq_true, ne_eq, Bool.true_eq_false, Bool.false_eq_true, true_and, and_true, false_and, and_false, l_2, l_3, l_4, l_5, l_6, l_7, l_8, l_9, l_10, l_11, l_12, l_13, l_14, l_15, l_16, l_17, l_18, l_19, l_20, l_21, l_22, l_23, l_24, l_25, l_26, l_27, l_28, l_29, l_30, l_32, l_33, l_34, l_35, l_36, l_37, l_38, l_39, l_50, l_60, l_99, l_100, l_150, l_160, l_240, l_250, l_300, l_400, l_402, l_403, l_420, l_500, l_600, l_840, l_1000, l_1024, l_2000, l_2047, l_2048, l_10000, l_25600, l_500000, e3]); with_reducible exact rfl)) | ((with_reducible apply Ok.ifT); · (first | (simp (disch := omega) only [↓reduceIte, Option.bind_some, Sum.elim_inl, Sum.elim_inr, if_true, if_false, rd_nI, wr_nI, rd_z, rd_o, wr_z, wr_o, nI_1, nI_add, pk_mul, nI_leI, nI_ltI, nI_eq, z_le, le_z, z_lt, lt_z, eq_z, eq_o, le_o, o_le, lt_o, o_lt, eq_m1, eq_m2, m1_eq, m2_eq, m1_lt, m1_le, o_z, z_o, m1_z, m1_o, m2_z, m2_o, m2_m1, z_lz, z_lo, o_lz, o_ez, z_ez, z_eo, m2_lt, m2_le, leF, leT, ltF, ltT, eqF, eqT, bI_z, bI_o, sh1, sh0, not_true_eq_false, not_false_eq_true, ne_eq, Bool.true_eq_false, Bool.false_eq_true, true_and, and_true, false_and, and_false, l_2, l_3, l_4, l_5, l_6, l_7, l_8, l_9, l_10, l_11, l_12, l_13, l_14, l_15, l_16, l_17, l_18, l_19, l_20, l_21, l_22, l_23, l_24, l_25, l_26, l_27, l_28, l_29, l_30, l_32, l_33, l_34, l_35, l_36, l_37, l_38, l_39, l_50, l_60, l_99, l_100, l_150, l_160, l_240, l_250, l_300, l_400, l_402, l_403, l_420, l_500, l_600, l_840, l_1000, l_1024, l_2000, l_2047, l_2048, l_10000, l_25600, l_500000, e3]; done) | omega)) | ((with_reducible apply Ok.ifF); · (first | (simp (disch := omega) only [↓reduceIte, Option.bind_some, Sum.elim_inl, Sum.elim_inr, if_true, if_false, rd_nI, wr_nI, rd_z, rd_o, wr_z, wr_o, nI_1, nI_add, pk_mul, nI_leI, nI_ltI, nI_eq, z_le, le_z, z_lt, lt_z, eq_z, eq_o, le_o, o_le, lt_o, o_lt, eq_m1, eq_m2, m1_eq, m2_eq, m1_lt, m1_le, o_z, z_o, m1_z, m1_o, m2_z, m2_o, m2_m1, z_lz, z_lo, o_lz, o_ez, z_ez, z_eo, m2_lt, m2_le, leF, leT, ltF, ltT, eqF, eqT, bI_z, bI_o, sh1, sh0, not_true_eq_false, not_false_eq_true, ne_eq, Bool.true_eq_false, Bool.false_eq_true, true_and, and_true, false_and, and_false, l_2, l_3, l_4, l_5, l_6, l_7, l_8, l_9, l_10, l_11, l_12, l_13, l_14, l_15, l_16, l_17, l_18, l_19, l_20, l_21, l_22, l_23, l_24, l_25, l_26, l_27, l_28, l_29, l_30, l_32, l_33, l_34, l_35, l_36, l_37, l_38, l_39, l_50, l_60, l_99, l_100, l_150, l_160, l_240, l_250, l_300, l_400, l_402, l_403, l_420, l_500, l_600, l_840, l_1000, l_1024, l_2000, l_2047, l_2048, l_10000, l_25600, l_500000, e3]; done) | omega)) | with_reducible apply Ok.jnU | with_reducible apply Ok.letsU | with_reducible apply Ok.elL | with_reducible apply Ok.elR | ((with_reducible apply Ok.gdT); · exact bI_nar _)))
        exact Ok.inr ⟨d3, e3, f3, g3⟩
      · rintro S3 ⟨d3, e3, f3, g3⟩
        refine Ok.ret ⟨rfl, hR1.plan d3 (fun a j h1 h2 => XRp_no ⟨by omega, h2⟩) ⟨e3, fun k hk => ?_⟩ ?_, d3⟩
        · obtain ⟨a0, a1, a2, a3, a4⟩ := y2 k hk
          exact ⟨by rw [g3 _ _ (by omega) (by omega) hk]; exact a0, by rw [g3 _ _ (by omega) (by omega) hk]; exact a1, by rw [g3 _ _ (by omega) (by omega) hk]; exact a2, by rw [g3 _ _ (by omega) (by omega) hk]; exact a3, by rw [g3 _ _ (by omega) (by omega) hk]; exact a4⟩
        · exact hR1.2.2.2.1.df (X := fun a j => !decide (155 ≤ a)) ⟨d3.1, fun a j hx => f3 a j (by simpa using hx)⟩ (fun a j h1 h2 => by simp [h1])
    obtain ⟨⟨v2, S2⟩, e2, rfl, hR2, d2⟩ := B
    exact ⟨1, S1, S2, _, _, _, e1, e2, ⟨hW, hQW, hHW, hC1.dfR (XRp_XRf d2), hR2⟩, (XCp_XQA d1).trans (XRp_XQA d2)⟩
end QR
