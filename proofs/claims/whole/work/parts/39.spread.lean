/-! ===== how a thing spreads ===== -/
def spN (W : VW) (V : VL) (set : Nat → Bool) (sh al : Bool) (l h0 : Nat) : Nat → (Nat → Bool) × (Nat → Bool)
  | 0 => (set, fun _ => false)
  | i + 1 => (fun p => (spN W V set sh al l h0 i).1 p || ((!al && anyN (fun a => (spN W V set sh al l h0 i).2 a && wStand W nD a (h0 + i) p) (W 0 0)) || anyN (fun q => (spN W V set sh al l h0 i).1 q && ((wSpkL W V nD q (h0 + i) l && wHear W nD (wPl W q (h0 + i)) (h0 + i) p) || (sh && wStand W nD (wPl W q (h0 + i)) (h0 + i) p))) (W 0 1)),
      fun a => (spN W V set sh al l h0 i).2 a || anyN (fun q => (spN W V set sh al l h0 i).1 q && (wOn W nD q && decide (wPl W q (h0 + i) = a))) (W 0 1))
def wShn (W : VW) (t : Nat) : Bool := anyN (fun a => decide (W 15 a = t)) (W 0 7)
/-- the first of i stages at which one knows it: the hour, 99 never -/
def spF (W : VW) (V : VL) (set : Nat → Bool) (sh al : Bool) (l h0 p : Nat) : Nat → Nat
  | 0 => 99
  | i + 1 => if spF W V set sh al l h0 p i ≤ 24 then spF W V set sh al l h0 p i else if (spN W V set sh al l h0 i).1 p = true then h0 + i else 99
theorem spN_mono {W : VW} {V : VL} {set : Nat → Bool} {sh al : Bool} {l h0 p : Nat} : ∀ {i j : Nat}, i ≤ j → (spN W V set sh al l h0 i).1 p = true → (spN W V set sh al l h0 j).1 p = true := by
  intro i j h
  induction j with
  | zero => intro h2; rw [show i = 0 by omega] at h2; exact h2
  | succ j ih =>
    intro h2
    by_cases e : i = j + 1
    · rw [← e]; exact h2
    · simp only [spN, ih (by omega) h2, Bool.true_or]
theorem spF_le {W : VW} {V : VL} {set : Nat → Bool} {sh al : Bool} {l h0 p : Nat} : ∀ {i : Nat}, h0 + i ≤ 25 → spF W V set sh al l h0 p i ≤ 24 ∨ spF W V set sh al l h0 p i = 99 := by
  intro i
  induction i with
  | zero => intro _; exact Or.inr rfl
  | succ i ih =>
    intro h
    rw [spF]
    rcases ih (by omega) with z | z
    · rw [if_pos z]; exact Or.inl z
    · rw [if_neg (by omega)]
      split
      · exact Or.inl (by omega)
      · exact Or.inr rfl
/-- the first stage, or none -/
theorem spF_srch {W : VW} {V : VL} {set : Nat → Bool} {sh al : Bool} {l h0 p : Nat} : ∀ {i : Nat}, h0 + i ≤ 25 → spF W V set sh al l h0 p i = (srch (fun d => (spN W V set sh al l h0 d).1 p) 0 i).elim 99 (fun d => h0 + d) := by
  intro i
  induction i with
  | zero => intro _; rfl
  | succ i ih =>
    intro h
    have hX := ih (by omega)
    rw [spF]
    cases c : srch (fun d => (spN W V set sh al l h0 d).1 p) 0 i with
    | some d =>
      obtain ⟨h1, h2, h3, h4⟩ := srch_some c
      rw [c] at hX
      have hX' : spF W V set sh al l h0 p i = h0 + d := hX
      rw [srch_of h1 (by omega) h3 h4, hX', if_pos (by omega)]
      rfl
    | none =>
      have h1 := srch_none c
      rw [c] at hX
      have hX' : spF W V set sh al l h0 p i = 99 := hX
      rw [hX', if_neg (by omega)]
      by_cases c2 : (spN W V set sh al l h0 i).1 p = true
      · rw [if_pos c2, srch_of (Nat.zero_le i) (by omega) c2 (fun k h5 h6 => h1 k h5 (by omega))]; rfl
      · rw [if_neg c2]
        cases c3 : srch (fun d => (spN W V set sh al l h0 d).1 p) 0 (i + 1) with
        | none => rfl
        | some d =>
          obtain ⟨h5, h6, h7, h8⟩ := srch_some c3
          by_cases e : d = i
          · subst e; exact absurd h7 c2
          · rw [h1 d h5 (by omega)] at h7; cases h7
theorem b_not {x : Int32} {i : Nat} (hi : i < 32) : bt (x ^^^ (-1)) i = !bt x i := by
  rw [b_xor, b_m1 i hi]; cases bt x i <;> rfl
section SPR
variable {W : VW} {V : VL} {tw en sd : Nat} {P : PL} {N : Nat} {H : HL} {n : Nat} {S : ST}
theorem r_isShown (hR : RRep W sd S) (hW : WF W) (hn : 30000 ≤ n) {t : Nat} (ht : t < 1000) : E_X12_isShown n S (nI t) = some (bI (wShn W t)) := by
  have hm7 : W 0 7 ≤ 6 := hW.mx (k := 7) (by decide)
  have hm2 : W 0 2 ≤ 6 := hW.mx (k := 2) (by decide)
  have hsd := hR.1
  unfold E_X12_isShown
  apply Ok.e
  refine bindS (W 0 7) (fun a => decide (W 15 a = t)) (fun _ => .inr 1) (.inl ()) (by omega) ?_ ?_ ?_ ?_
  · intro a ha
    have hq := (hW.2.2.2.2.2.2.2.1 a ha).1
    by_cases c : W 15 a = t
    · (repeat (first | ((with_reducible apply Ok.step); · ((try simp (disch := omega) only [↓reduceIte, Option.bind_some, Sum.elim_inl, Sum.elim_inr, if_true, if_false, rd_nI, wr_nI, rd_z, rd_o, wr_z, wr_o, nI_1, nI_add, pk_mul, nI_leI, nI_ltI, nI_eq, z_le, le_z, z_lt, lt_z, eq_z, eq_o, le_o, o_le, lt_o, o_lt, eq_m1, eq_m2, m1_eq, m2_eq, m1_lt, m1_le, o_z, z_o, m1_z, m1_o, m2_z, m2_o, m2_m1, z_lz, z_lo, o_lz, o_ez, z_ez, z_eo, m2_lt, m2_le, leF, leT, ltF, ltT, eqF, eqT, bI_z, bI_o, sh1, sh0, not_true_eq_false, not_false_eq_true, ne_eq, Bool.true_eq_false, Bool.false_eq_true, true_and, and_true, false_and, and_false, l_2, l_3, l_4, l_5, l_6, l_7, l_8, l_9, l_10, l_11, l_12, l_13, l_14, l_15, l_16, l_17, l_18, l_19, l_20, l_21, l_22, l_23, l_24, l_25, l_26, l_27, l_28, l_29, l_30, l_32, l_33, l_34, l_35, l_36, l_37, l_38, l_39, l_50, l_60, l_99, l_100, l_150, l_160, l_240, l_250, l_300, l_400, l_402, l_403, l_420, l_500, l_600, l_840, l_1000, l_1024, l_2000, l_2047, l_2048, l_10000, l_25600, l_500000, r_has hR, t_sd hR, t_122 hR, c]); with_reducible exact rfl)) | ((with_reducible apply Ok.ifT); · (first | (simp (disch := omega) only [↓reduceIte, Option.bind_some, Sum.elim_inl, Sum.elim_inr, if_true, if_false, rd_nI, wr_nI, rd_z, rd_o, wr_z, wr_o, nI_1, nI_add, pk_mul, nI_leI, nI_ltI, nI_eq, z_le, le_z, z_lt, lt_z, eq_z, eq_o, le_o, o_le, lt_o, o_lt, eq_m1, eq_m2, m1_eq, m2_eq, m1_lt, m1_le, o_z, z_o, m1_z, m1_o, m2_z, m2_o, m2_m1, z_lz, z_lo, o_lz, o_ez, z_ez, z_eo, m2_lt, m2_le, leF, leT, ltF, ltT, eqF, eqT, bI_z, bI_o, sh1, sh0, not_true_eq_false, not_false_eq_true, ne_eq, Bool.true_eq_false, Bool.false_eq_true, true_and, and_true, false_and, and_false, l_2, l_3, l_4, l_5, l_6, l_7, l_8, l_9, l_10, l_11, l_12, l_13, l_14, l_15, l_16, l_17, l_18, l_19, l_20, l_21, l_22, l_23, l_24, l_25, l_26, l_27, l_28, l_29, l_30, l_32, l_33, l_34, l_35, l_36, l_37, l_38, l_39, l_50, l_60, l_99, l_100, l_150, l_160, l_240, l_250, l_300, l_400, l_402, l_403, l_420, l_500, l_600, l_840, l_1000, l_1024, l_2000, l_2047, l_2048, l_10000, l_25600, l_500000, r_has hR, t_sd hR, t_122 hR, c]; done) | omega)) | ((with_reducible apply Ok.ifF); · (first | (simp (disch := omega) only [↓reduceIte, Option.bind_some, Sum.elim_inl, Sum.elim_inr, if_true, if_false, rd_nI, wr_nI, rd_z, rd_o, wr_z, wr_o, nI_1, nI_add, pk_mul, nI_leI, nI_ltI, nI_eq, z_le, le_z, z_lt, lt_z, eq_z, eq_o, le_o, o_le, lt_o, o_lt, eq_m1, eq_m2, m1_eq, m2_eq, m1_lt, m1_le, o_z, z_o, m1_z, m1_o, m2_z, m2_o, m2_m1, z_lz, z_lo, o_lz, o_ez, z_ez, z_eo, m2_lt, m2_le, leF, leT, ltF, ltT, eqF, eqT, bI_z, bI_o, sh1, sh0, not_true_eq_false, not_false_eq_true, ne_eq, Bool.true_eq_false, Bool.false_eq_true, true_and, and_true, false_and, and_false, l_2, l_3, l_4, l_5, l_6, l_7, l_8, l_9, l_10, l_11, l_12, l_13, l_14, l_15, l_16, l_17, l_18, l_19, l_20, l_21, l_22, l_23, l_24, l_25, l_26, l_27, l_28, l_29, l_30, l_32, l_33, l_34, l_35, l_36, l_37, l_38, l_39, l_50, l_60, l_99, l_100, l_150, l_160, l_240, l_250, l_300, l_400, l_402, l_403, l_420, l_500, l_600, l_840, l_1000, l_1024, l_2000, l_2047, l_2048, l_10000, l_25600, l_500000, r_has hR, t_sd hR, t_122 hR, c]; done) | omega)) | with_reducible apply Ok.jnU | with_reducible apply Ok.letsU | with_reducible apply Ok.elL | with_reducible apply Ok.elR | ((with_reducible apply Ok.gdT); · exact bI_nar _)))
      exact Ok.ret (by simp [c])
    · (repeat (first | ((with_reducible apply Ok.step); · ((try simp (disch := omega) only [↓reduceIte, Option.bind_some, Sum.elim_inl, Sum.elim_inr, if_true, if_false, rd_nI, wr_nI, rd_z, rd_o, wr_z, wr_o, nI_1, nI_add, pk_mul, nI_leI, nI_ltI, nI_eq, z_le, le_z, z_lt, lt_z, eq_z, eq_o, le_o, o_le, lt_o, o_lt, eq_m1, eq_m2, m1_eq, m2_eq, m1_lt, m1_le, o_z, z_o, m1_z, m1_o, m2_z, m2_o, m2_m1, z_lz, z_lo, o_lz, o_ez, z_ez, z_eo, m2_lt, m2_le, leF, leT, ltF, ltT, eqF, eqT, bI_z, bI_o, sh1, sh0, not_true_eq_false, not_false_eq_true, ne_eq, Bool.true_eq_false, Bool.false_eq_true, true_and, and_true, false_and, and_false, l_2, l_3, l_4, l_5, l_6, l_7, l_8, l_9, l_10, l_11, l_12, l_13, l_14, l_15, l_16, l_17, l_18, l_19, l_20, l_21, l_22, l_23, l_24, l_25, l_26, l_27, l_28, l_29, l_30, l_32, l_33, l_34, l_35, l_36, l_37, l_38, l_39, l_50, l_60, l_99, l_100, l_150, l_160, l_240, l_250, l_300, l_400, l_402, l_403, l_420, l_500, l_600, l_840, l_1000, l_1024, l_2000, l_2047, l_2048, l_10000, l_25600, l_500000, r_has hR, t_sd hR, t_122 hR, c]); with_reducible exact rfl)) | ((with_reducible apply Ok.ifT); · (first | (simp (disch := omega) only [↓reduceIte, Option.bind_some, Sum.elim_inl, Sum.elim_inr, if_true, if_false, rd_nI, wr_nI, rd_z, rd_o, wr_z, wr_o, nI_1, nI_add, pk_mul, nI_leI, nI_ltI, nI_eq, z_le, le_z, z_lt, lt_z, eq_z, eq_o, le_o, o_le, lt_o, o_lt, eq_m1, eq_m2, m1_eq, m2_eq, m1_lt, m1_le, o_z, z_o, m1_z, m1_o, m2_z, m2_o, m2_m1, z_lz, z_lo, o_lz, o_ez, z_ez, z_eo, m2_lt, m2_le, leF, leT, ltF, ltT, eqF, eqT, bI_z, bI_o, sh1, sh0, not_true_eq_false, not_false_eq_true, ne_eq, Bool.true_eq_false, Bool.false_eq_true, true_and, and_true, false_and, and_false, l_2, l_3, l_4, l_5, l_6, l_7, l_8, l_9, l_10, l_11, l_12, l_13, l_14, l_15, l_16, l_17, l_18, l_19, l_20, l_21, l_22, l_23, l_24, l_25, l_26, l_27, l_28, l_29, l_30, l_32, l_33, l_34, l_35, l_36, l_37, l_38, l_39, l_50, l_60, l_99, l_100, l_150, l_160, l_240, l_250, l_300, l_400, l_402, l_403, l_420, l_500, l_600, l_840, l_1000, l_1024, l_2000, l_2047, l_2048, l_10000, l_25600, l_500000, r_has hR, t_sd hR, t_122 hR, c]; done) | omega)) | ((with_reducible apply Ok.ifF); · (first | (simp (disch := omega) only [↓reduceIte, Option.bind_some, Sum.elim_inl, Sum.elim_inr, if_true, if_false, rd_nI, wr_nI, rd_z, rd_o, wr_z, wr_o, nI_1, nI_add, pk_mul, nI_leI, nI_ltI, nI_eq, z_le, le_z, z_lt, lt_z, eq_z, eq_o, le_o, o_le, lt_o, o_lt, eq_m1, eq_m2, m1_eq, m2_eq, m1_lt, m1_le, o_z, z_o, m1_z, m1_o, m2_z, m2_o, m2_m1, z_lz, z_lo, o_lz, o_ez, z_ez, z_eo, m2_lt, m2_le, leF, leT, ltF, ltT, eqF, eqT, bI_z, bI_o, sh1, sh0, not_true_eq_false, not_false_eq_true, ne_eq, Bool.true_eq_false, Bool.false_eq_true, true_and, and_true, false_and, and_false, l_2, l_3, l_4, l_5, l_6, l_7, l_8, l_9, l_10, l_11, l_12, l_13, l_14, l_15, l_16, l_17, l_18, l_19, l_20, l_21, l_22, l_23, l_24, l_25, l_26, l_27, l_28, l_29, l_30, l_32, l_33, l_34, l_35, l_36, l_37, l_38, l_39, l_50, l_60, l_99, l_100, l_150, l_160, l_240, l_250, l_300, l_400, l_402, l_403, l_420, l_500, l_600, l_840, l_1000, l_1024, l_2000, l_2047, l_2048, l_10000, l_25600, l_500000, r_has hR, t_sd hR, t_122 hR, c]; done) | omega)) | with_reducible apply Ok.jnU | with_reducible apply Ok.letsU | with_reducible apply Ok.elL | with_reducible apply Ok.elR | ((with_reducible apply Ok.gdT); · exact bI_nar _)))
      exact Ok.ret (by simp [c, nI_1])
  · (repeat (first | ((with_reducible apply Ok.step); · ((try simp (disch := omega) only [↓reduceIte, Option.bind_some, Sum.elim_inl, Sum.elim_inr, if_true, if_false, rd_nI, wr_nI, rd_z, rd_o, wr_z, wr_o, nI_1, nI_add, pk_mul, nI_leI, nI_ltI, nI_eq, z_le, le_z, z_lt, lt_z, eq_z, eq_o, le_o, o_le, lt_o, o_lt, eq_m1, eq_m2, m1_eq, m2_eq, m1_lt, m1_le, o_z, z_o, m1_z, m1_o, m2_z, m2_o, m2_m1, z_lz, z_lo, o_lz, o_ez, z_ez, z_eo, m2_lt, m2_le, leF, leT, ltF, ltT, eqF, eqT, bI_z, bI_o, sh1, sh0, not_true_eq_false, not_false_eq_true, ne_eq, Bool.true_eq_false, Bool.false_eq_true, true_and, and_true, false_and, and_false, l_2, l_3, l_4, l_5, l_6, l_7, l_8, l_9, l_10, l_11, l_12, l_13, l_14, l_15, l_16, l_17, l_18, l_19, l_20, l_21, l_22, l_23, l_24, l_25, l_26, l_27, l_28, l_29, l_30, l_32, l_33, l_34, l_35, l_36, l_37, l_38, l_39, l_50, l_60, l_99, l_100, l_150, l_160, l_240, l_250, l_300, l_400, l_402, l_403, l_420, l_500, l_600, l_840, l_1000, l_1024, l_2000, l_2047, l_2048, l_10000, l_25600, l_500000, r_has hR]); with_reducible exact rfl)) | ((with_reducible apply Ok.ifT); · (first | (simp (disch := omega) only [↓reduceIte, Option.bind_some, Sum.elim_inl, Sum.elim_inr, if_true, if_false, rd_nI, wr_nI, rd_z, rd_o, wr_z, wr_o, nI_1, nI_add, pk_mul, nI_leI, nI_ltI, nI_eq, z_le, le_z, z_lt, lt_z, eq_z, eq_o, le_o, o_le, lt_o, o_lt, eq_m1, eq_m2, m1_eq, m2_eq, m1_lt, m1_le, o_z, z_o, m1_z, m1_o, m2_z, m2_o, m2_m1, z_lz, z_lo, o_lz, o_ez, z_ez, z_eo, m2_lt, m2_le, leF, leT, ltF, ltT, eqF, eqT, bI_z, bI_o, sh1, sh0, not_true_eq_false, not_false_eq_true, ne_eq, Bool.true_eq_false, Bool.false_eq_true, true_and, and_true, false_and, and_false, l_2, l_3, l_4, l_5, l_6, l_7, l_8, l_9, l_10, l_11, l_12, l_13, l_14, l_15, l_16, l_17, l_18, l_19, l_20, l_21, l_22, l_23, l_24, l_25, l_26, l_27, l_28, l_29, l_30, l_32, l_33, l_34, l_35, l_36, l_37, l_38, l_39, l_50, l_60, l_99, l_100, l_150, l_160, l_240, l_250, l_300, l_400, l_402, l_403, l_420, l_500, l_600, l_840, l_1000, l_1024, l_2000, l_2047, l_2048, l_10000, l_25600, l_500000, r_has hR]; done) | omega)) | ((with_reducible apply Ok.ifF); · (first | (simp (disch := omega) only [↓reduceIte, Option.bind_some, Sum.elim_inl, Sum.elim_inr, if_true, if_false, rd_nI, wr_nI, rd_z, rd_o, wr_z, wr_o, nI_1, nI_add, pk_mul, nI_leI, nI_ltI, nI_eq, z_le, le_z, z_lt, lt_z, eq_z, eq_o, le_o, o_le, lt_o, o_lt, eq_m1, eq_m2, m1_eq, m2_eq, m1_lt, m1_le, o_z, z_o, m1_z, m1_o, m2_z, m2_o, m2_m1, z_lz, z_lo, o_lz, o_ez, z_ez, z_eo, m2_lt, m2_le, leF, leT, ltF, ltT, eqF, eqT, bI_z, bI_o, sh1, sh0, not_true_eq_false, not_false_eq_true, ne_eq, Bool.true_eq_false, Bool.false_eq_true, true_and, and_true, false_and, and_false, l_2, l_3, l_4, l_5, l_6, l_7, l_8, l_9, l_10, l_11, l_12, l_13, l_14, l_15, l_16, l_17, l_18, l_19, l_20, l_21, l_22, l_23, l_24, l_25, l_26, l_27, l_28, l_29, l_30, l_32, l_33, l_34, l_35, l_36, l_37, l_38, l_39, l_50, l_60, l_99, l_100, l_150, l_160, l_240, l_250, l_300, l_400, l_402, l_403, l_420, l_500, l_600, l_840, l_1000, l_1024, l_2000, l_2047, l_2048, l_10000, l_25600, l_500000, r_has hR]; done) | omega)) | with_reducible apply Ok.jnU | with_reducible apply Ok.letsU | with_reducible apply Ok.elL | with_reducible apply Ok.elR | ((with_reducible apply Ok.gdT); · exact bI_nar _)))
    exact Ok.ret rfl
  · intro i hi h1 _
    refine Ok.ret ?_
    rw [wShn, anyN_iff.mpr ⟨i, hi, h1⟩]; rfl
  · intro h1
    refine Ok.ret ?_
    rw [wShn, anyN_f.mpr h1]; rfl
theorem c_isShown (hC : CW W V tw S) (hW : WF W) (hn : 30000 ≤ n) {t : Nat} (ht : t < 1000) : E_X7_isShown n S tw (nI t) = some (bI (wShn W t)) := by
  have hm7 : W 0 7 ≤ 6 := hW.mx (k := 7) (by decide)
  have hm2 : W 0 2 ≤ 6 := hW.mx (k := 2) (by decide)
  unfold E_X7_isShown
  apply Ok.e
  refine bindS (W 0 7) (fun a => decide (W 15 a = t)) (fun _ => .inr 1) (.inl ()) (by omega) ?_ ?_ ?_ ?_
  · intro a ha
    have hq := (hW.2.2.2.2.2.2.2.1 a ha).1
    by_cases c : W 15 a = t
    · (repeat (first | ((with_reducible apply Ok.step); · ((try simp (disch := omega) only [↓reduceIte, Option.bind_some, Sum.elim_inl, Sum.elim_inr, if_true, if_false, rd_nI, wr_nI, rd_z, rd_o, wr_z, wr_o, nI_1, nI_add, pk_mul, nI_leI, nI_ltI, nI_eq, z_le, le_z, z_lt, lt_z, eq_z, eq_o, le_o, o_le, lt_o, o_lt, eq_m1, eq_m2, m1_eq, m2_eq, m1_lt, m1_le, o_z, z_o, m1_z, m1_o, m2_z, m2_o, m2_m1, z_lz, z_lo, o_lz, o_ez, z_ez, z_eo, m2_lt, m2_le, leF, leT, ltF, ltT, eqF, eqT, bI_z, bI_o, sh1, sh0, not_true_eq_false, not_false_eq_true, ne_eq, Bool.true_eq_false, Bool.false_eq_true, true_and, and_true, false_and, and_false, l_2, l_3, l_4, l_5, l_6, l_7, l_8, l_9, l_10, l_11, l_12, l_13, l_14, l_15, l_16, l_17, l_18, l_19, l_20, l_21, l_22, l_23, l_24, l_25, l_26, l_27, l_28, l_29, l_30, l_32, l_33, l_34, l_35, l_36, l_37, l_38, l_39, l_50, l_60, l_99, l_100, l_150, l_160, l_240, l_250, l_300, l_400, l_402, l_403, l_420, l_500, l_600, l_840, l_1000, l_1024, l_2000, l_2047, l_2048, l_10000, l_25600, l_500000, g_n hC, g_at hC, c]); with_reducible exact rfl)) | ((with_reducible apply Ok.ifT); · (first | (simp (disch := omega) only [↓reduceIte, Option.bind_some, Sum.elim_inl, Sum.elim_inr, if_true, if_false, rd_nI, wr_nI, rd_z, rd_o, wr_z, wr_o, nI_1, nI_add, pk_mul, nI_leI, nI_ltI, nI_eq, z_le, le_z, z_lt, lt_z, eq_z, eq_o, le_o, o_le, lt_o, o_lt, eq_m1, eq_m2, m1_eq, m2_eq, m1_lt, m1_le, o_z, z_o, m1_z, m1_o, m2_z, m2_o, m2_m1, z_lz, z_lo, o_lz, o_ez, z_ez, z_eo, m2_lt, m2_le, leF, leT, ltF, ltT, eqF, eqT, bI_z, bI_o, sh1, sh0, not_true_eq_false, not_false_eq_true, ne_eq, Bool.true_eq_false, Bool.false_eq_true, true_and, and_true, false_and, and_false, l_2, l_3, l_4, l_5, l_6, l_7, l_8, l_9, l_10, l_11, l_12, l_13, l_14, l_15, l_16, l_17, l_18, l_19, l_20, l_21, l_22, l_23, l_24, l_25, l_26, l_27, l_28, l_29, l_30, l_32, l_33, l_34, l_35, l_36, l_37, l_38, l_39, l_50, l_60, l_99, l_100, l_150, l_160, l_240, l_250, l_300, l_400, l_402, l_403, l_420, l_500, l_600, l_840, l_1000, l_1024, l_2000, l_2047, l_2048, l_10000, l_25600, l_500000, g_n hC, g_at hC, c]; done) | omega)) | ((with_reducible apply Ok.ifF); · (first | (simp (disch := omega) only [↓reduceIte, Option.bind_some, Sum.elim_inl, Sum.elim_inr, if_true, if_false, rd_nI, wr_nI, rd_z, rd_o, wr_z, wr_o, nI_1, nI_add, pk_mul, nI_leI, nI_ltI, nI_eq, z_le, le_z, z_lt, lt_z, eq_z, eq_o, le_o, o_le, lt_o, o_lt, eq_m1, eq_m2, m1_eq, m2_eq, m1_lt, m1_le, o_z, z_o, m1_z, m1_o, m2_z, m2_o, m2_m1, z_lz, z_lo, o_lz, o_ez, z_ez, z_eo, m2_lt, m2_le, leF, leT, ltF, ltT, eqF, eqT, bI_z, bI_o, sh1, sh0, not_true_eq_false, not_false_eq_true, ne_eq, Bool.true_eq_false, Bool.false_eq_true, true_and, and_true, false_and, and_false, l_2, l_3, l_4, l_5, l_6, l_7, l_8, l_9, l_10, l_11, l_12, l_13, l_14, l_15, l_16, l_17, l_18, l_19, l_20, l_21, l_22, l_23, l_24, l_25, l_26, l_27, l_28, l_29, l_30, l_32, l_33, l_34, l_35, l_36, l_37, l_38, l_39, l_50, l_60, l_99, l_100, l_150, l_160, l_240, l_250, l_300, l_400, l_402, l_403, l_420, l_500, l_600, l_840, l_1000, l_1024, l_2000, l_2047, l_2048, l_10000, l_25600, l_500000, g_n hC, g_at hC, c]; done) | omega)) | with_reducible apply Ok.jnU | with_reducible apply Ok.letsU | with_reducible apply Ok.elL | with_reducible apply Ok.elR | ((with_reducible apply Ok.gdT); · exact bI_nar _)))
      exact Ok.ret (by simp [c])
    · (repeat (first | ((with_reducible apply Ok.step); · ((try simp (disch := omega) only [↓reduceIte, Option.bind_some, Sum.elim_inl, Sum.elim_inr, if_true, if_false, rd_nI, wr_nI, rd_z, rd_o, wr_z, wr_o, nI_1, nI_add, pk_mul, nI_leI, nI_ltI, nI_eq, z_le, le_z, z_lt, lt_z, eq_z, eq_o, le_o, o_le, lt_o, o_lt, eq_m1, eq_m2, m1_eq, m2_eq, m1_lt, m1_le, o_z, z_o, m1_z, m1_o, m2_z, m2_o, m2_m1, z_lz, z_lo, o_lz, o_ez, z_ez, z_eo, m2_lt, m2_le, leF, leT, ltF, ltT, eqF, eqT, bI_z, bI_o, sh1, sh0, not_true_eq_false, not_false_eq_true, ne_eq, Bool.true_eq_false, Bool.false_eq_true, true_and, and_true, false_and, and_false, l_2, l_3, l_4, l_5, l_6, l_7, l_8, l_9, l_10, l_11, l_12, l_13, l_14, l_15, l_16, l_17, l_18, l_19, l_20, l_21, l_22, l_23, l_24, l_25, l_26, l_27, l_28, l_29, l_30, l_32, l_33, l_34, l_35, l_36, l_37, l_38, l_39, l_50, l_60, l_99, l_100, l_150, l_160, l_240, l_250, l_300, l_400, l_402, l_403, l_420, l_500, l_600, l_840, l_1000, l_1024, l_2000, l_2047, l_2048, l_10000, l_25600, l_500000, g_n hC, g_at hC, c]); with_reducible exact rfl)) | ((with_reducible apply Ok.ifT); · (first | (simp (disch := omega) only [↓reduceIte, Option.bind_some, Sum.elim_inl, Sum.elim_inr, if_true, if_false, rd_nI, wr_nI, rd_z, rd_o, wr_z, wr_o, nI_1, nI_add, pk_mul, nI_leI, nI_ltI, nI_eq, z_le, le_z, z_lt, lt_z, eq_z, eq_o, le_o, o_le, lt_o, o_lt, eq_m1, eq_m2, m1_eq, m2_eq, m1_lt, m1_le, o_z, z_o, m1_z, m1_o, m2_z, m2_o, m2_m1, z_lz, z_lo, o_lz, o_ez, z_ez, z_eo, m2_lt, m2_le, leF, leT, ltF, ltT, eqF, eqT, bI_z, bI_o, sh1, sh0, not_true_eq_false, not_false_eq_true, ne_eq, Bool.true_eq_false, Bool.false_eq_true, true_and, and_true, false_and, and_false, l_2, l_3, l_4, l_5, l_6, l_7, l_8, l_9, l_10, l_11, l_12, l_13, l_14, l_15, l_16, l_17, l_18, l_19, l_20, l_21, l_22, l_23, l_24, l_25, l_26, l_27, l_28, l_29, l_30, l_32, l_33, l_34, l_35, l_36, l_37, l_38, l_39, l_50, l_60, l_99, l_100, l_150, l_160, l_240, l_250, l_300, l_400, l_402, l_403, l_420, l_500, l_600, l_840, l_1000, l_1024, l_2000, l_2047, l_2048, l_10000, l_25600, l_500000, g_n hC, g_at hC, c]; done) | omega)) | ((with_reducible apply Ok.ifF); · (first | (simp (disch := omega) only [↓reduceIte, Option.bind_some, Sum.elim_inl, Sum.elim_inr, if_true, if_false, rd_nI, wr_nI, rd_z, rd_o, wr_z, wr_o, nI_1, nI_add, pk_mul, nI_leI, nI_ltI, nI_eq, z_le, le_z, z_lt, lt_z, eq_z, eq_o, le_o, o_le, lt_o, o_lt, eq_m1, eq_m2, m1_eq, m2_eq, m1_lt, m1_le, o_z, z_o, m1_z, m1_o, m2_z, m2_o, m2_m1, z_lz, z_lo, o_lz, o_ez, z_ez, z_eo, m2_lt, m2_le, leF, leT, ltF, ltT, eqF, eqT, bI_z, bI_o, sh1, sh0, not_true_eq_false, not_false_eq_true, ne_eq, Bool.true_eq_false, Bool.false_eq_true, true_and, and_true, false_and, and_false, l_2, l_3, l_4, l_5, l_6, l_7, l_8, l_9, l_10, l_11, l_12, l_13, l_14, l_15, l_16, l_17, l_18, l_19, l_20, l_21, l_22, l_23, l_24, l_25, l_26, l_27, l_28, l_29, l_30, l_32, l_33, l_34, l_35, l_36, l_37, l_38, l_39, l_50, l_60, l_99, l_100, l_150, l_160, l_240, l_250, l_300, l_400, l_402, l_403, l_420, l_500, l_600, l_840, l_1000, l_1024, l_2000, l_2047, l_2048, l_10000, l_25600, l_500000, g_n hC, g_at hC, c]; done) | omega)) | with_reducible apply Ok.jnU | with_reducible apply Ok.letsU | with_reducible apply Ok.elL | with_reducible apply Ok.elR | ((with_reducible apply Ok.gdT); · exact bI_nar _)))
      exact Ok.ret (by simp [c, nI_1])
  · (repeat (first | ((with_reducible apply Ok.step); · ((try simp (disch := omega) only [↓reduceIte, Option.bind_some, Sum.elim_inl, Sum.elim_inr, if_true, if_false, rd_nI, wr_nI, rd_z, rd_o, wr_z, wr_o, nI_1, nI_add, pk_mul, nI_leI, nI_ltI, nI_eq, z_le, le_z, z_lt, lt_z, eq_z, eq_o, le_o, o_le, lt_o, o_lt, eq_m1, eq_m2, m1_eq, m2_eq, m1_lt, m1_le, o_z, z_o, m1_z, m1_o, m2_z, m2_o, m2_m1, z_lz, z_lo, o_lz, o_ez, z_ez, z_eo, m2_lt, m2_le, leF, leT, ltF, ltT, eqF, eqT, bI_z, bI_o, sh1, sh0, not_true_eq_false, not_false_eq_true, ne_eq, Bool.true_eq_false, Bool.false_eq_true, true_and, and_true, false_and, and_false, l_2, l_3, l_4, l_5, l_6, l_7, l_8, l_9, l_10, l_11, l_12, l_13, l_14, l_15, l_16, l_17, l_18, l_19, l_20, l_21, l_22, l_23, l_24, l_25, l_26, l_27, l_28, l_29, l_30, l_32, l_33, l_34, l_35, l_36, l_37, l_38, l_39, l_50, l_60, l_99, l_100, l_150, l_160, l_240, l_250, l_300, l_400, l_402, l_403, l_420, l_500, l_600, l_840, l_1000, l_1024, l_2000, l_2047, l_2048, l_10000, l_25600, l_500000, g_n hC]); with_reducible exact rfl)) | ((with_reducible apply Ok.ifT); · (first | (simp (disch := omega) only [↓reduceIte, Option.bind_some, Sum.elim_inl, Sum.elim_inr, if_true, if_false, rd_nI, wr_nI, rd_z, rd_o, wr_z, wr_o, nI_1, nI_add, pk_mul, nI_leI, nI_ltI, nI_eq, z_le, le_z, z_lt, lt_z, eq_z, eq_o, le_o, o_le, lt_o, o_lt, eq_m1, eq_m2, m1_eq, m2_eq, m1_lt, m1_le, o_z, z_o, m1_z, m1_o, m2_z, m2_o, m2_m1, z_lz, z_lo, o_lz, o_ez, z_ez, z_eo, m2_lt, m2_le, leF, leT, ltF, ltT, eqF, eqT, bI_z, bI_o, sh1, sh0, not_true_eq_false, not_false_eq_true, ne_eq, Bool.true_eq_false, Bool.false_eq_true, true_and, and_true, false_and, and_false, l_2, l_3, l_4, l_5, l_6, l_7, l_8, l_9, l_10, l_11, l_12, l_13, l_14, l_15, l_16, l_17, l_18, l_19, l_20, l_21, l_22, l_23, l_24, l_25, l_26, l_27, l_28, l_29, l_30, l_32, l_33, l_34, l_35, l_36, l_37, l_38, l_39, l_50, l_60, l_99, l_100, l_150, l_160, l_240, l_250, l_300, l_400, l_402, l_403, l_420, l_500, l_600, l_840, l_1000, l_1024, l_2000, l_2047, l_2048, l_10000, l_25600, l_500000, g_n hC]; done) | omega)) | ((with_reducible apply Ok.ifF); · (first | (simp (disch := omega) only [↓reduceIte, Option.bind_some, Sum.elim_inl, Sum.elim_inr, if_true, if_false, rd_nI, wr_nI, rd_z, rd_o, wr_z, wr_o, nI_1, nI_add, pk_mul, nI_leI, nI_ltI, nI_eq, z_le, le_z, z_lt, lt_z, eq_z, eq_o, le_o, o_le, lt_o, o_lt, eq_m1, eq_m2, m1_eq, m2_eq, m1_lt, m1_le, o_z, z_o, m1_z, m1_o, m2_z, m2_o, m2_m1, z_lz, z_lo, o_lz, o_ez, z_ez, z_eo, m2_lt, m2_le, leF, leT, ltF, ltT, eqF, eqT, bI_z, bI_o, sh1, sh0, not_true_eq_false, not_false_eq_true, ne_eq, Bool.true_eq_false, Bool.false_eq_true, true_and, and_true, false_and, and_false, l_2, l_3, l_4, l_5, l_6, l_7, l_8, l_9, l_10, l_11, l_12, l_13, l_14, l_15, l_16, l_17, l_18, l_19, l_20, l_21, l_22, l_23, l_24, l_25, l_26, l_27, l_28, l_29, l_30, l_32, l_33, l_34, l_35, l_36, l_37, l_38, l_39, l_50, l_60, l_99, l_100, l_150, l_160, l_240, l_250, l_300, l_400, l_402, l_403, l_420, l_500, l_600, l_840, l_1000, l_1024, l_2000, l_2047, l_2048, l_10000, l_25600, l_500000, g_n hC]; done) | omega)) | with_reducible apply Ok.jnU | with_reducible apply Ok.letsU | with_reducible apply Ok.elL | with_reducible apply Ok.elR | ((with_reducible apply Ok.gdT); · exact bI_nar _)))
    exact Ok.ret rfl
  · intro i hi h1 _
    refine Ok.ret ?_
    rw [wShn, anyN_iff.mpr ⟨i, hi, h1⟩]; rfl
  · intro h1
    refine Ok.ret ?_
    rw [wShn, anyN_f.mpr h1]; rfl
theorem r_spreads (hR : RI W V sd P N H S) (hW : WF W) (hn : 30000 ≤ n) {t l h0 : Nat} {x : Int32} {set : Nat → Bool} {al : Bool} (ht : t < 1000) (hx : x = bs set (W 0 1)) (hl : l < 4) (hh : h0 < 24) : Ok (E_X12_spreads n S (nI t) x (nI h0) (nI l) (bI al)) (fun S' => Df XSR S S' ∧ RI W V sd P N H S' ∧ ∀ i, h0 + i ≤ 24 → S'.1 148 (h0 + i) = bs (spN W V set (!al && wShn W t) al l h0 i).1 (W 0 1)) := by
  have hm1 : W 0 1 ≤ 10 := hW.mx (k := 1) (by decide)
  have hm0 : W 0 0 ≤ 6 := hW.mx (k := 0) (by decide)
  unfold E_X12_spreads
  apply Ok.letsU
  have d1 : Df XSR S (upI S 95 61 0) := XSR_up (Df.refl _ _) (by omega)
  have hR1 : RI W V sd P N H (upI S 95 61 0) := hR.dfS d1 (by rw [upI_at, if_pos ⟨rfl, rfl⟩]) (by rw [upI_at, if_neg (by omega)]; exact hR.2.2.2.2.2)
  generalize upI S 95 61 0 = S1 at *
  refine jnH1 (fun u => u = bI (!al && wShn W t)) ?_ ?_
  rotate_left
  · intro J hJ
    apply Ok.jnU
    cases al
    · refine Ok.ifT rfl ?_
      apply Ok.step (r_isShown hR1.1 hW hn ht)
      by_cases c : wShn W t = true
      · exact Ok.ifF (by rw [c]; decide) (hJ _ (by rw [c]; rfl))
      · simp only [Bool.not_eq_true] at c
        exact Ok.ifT (by rw [c]; rfl) (hJ _ (by rw [c]; rfl))
    · exact Ok.ifF (by decide) (hJ _ rfl)
  rintro u rfl
  generalize hsh : (!al && wShn W t) = sh
  apply Ok.step (wr_nI (by omega) (by decide))
  refine bindL (fun i q => (al = true ∨ q.1 = bs (spN W V set sh al l h0 i).2 (W 0 0)) ∧ q.2.1 = nI (h0 + i) ∧ Df XSR S1 q.2.2 ∧ RI W V sd P N H q.2.2 ∧ ∀ j, j ≤ i → q.2.2.1 148 (h0 + j) = bs (spN W V set sh al l h0 j).1 (W 0 1))
    (fun S' => Df XSR S1 S' ∧ RI W V sd P N H S' ∧ ∀ i, h0 + i ≤ 24 → S'.1 148 (h0 + i) = bs (spN W V set sh al l h0 i).1 (W 0 1)) 0 (24 - h0) (Nat.zero_le _) (by omega) ⟨?_, rfl, ?_, ?_, ?_⟩ ?_ ?_ (fun S' h => Ok.ret ⟨d1.trans h.1, h.2⟩)
  · refine Or.inr ?_
    show (0 : Int32) = bs (fun _ => false) _
    rw [bs_false]
  · exact (Df.refl _ _).up rfl
  · exact hR1.dfS ((Df.refl _ _).up rfl) (by rw [upI_ne (by decide)]; exact hR1.2.2.2.2.1) (by rw [upI_ne (by decide)]; exact hR1.2.2.2.2.2)
  · intro j hj
    rw [show j = 0 by omega, upI_at, if_pos ⟨rfl, rfl⟩, hx]; rfl
  · rintro i ⟨lf, x1, S2⟩ _ hi ⟨hl1, rfl, d2, hR2, hk⟩
    dsimp only at hl1 d2 hR2 hk ⊢
    have ki := hk i (Nat.le_refl _)
    refine Ok.ifF (nI_ge (b := 24) (by omega) (by decide)) ?_
    apply Ok.step (x := bs (spN W V set sh al l h0 i).1 (W 0 1)) (by rw [rd_nI (by omega) (by decide), ki])
    have hnD : bt (S2.1 95 61) = nD := by rw [hR2.2.2.2.2.1, bt0]
    generalize hkn : (spN W V set sh al l h0 i).1 = kn at *
    generalize hlf : (spN W V set sh al l h0 i).2 = lef at *
    -- writings
    refine bindL (fun a q => q = (bs (fun p => kn p || (!al && anyN (fun a => lef a && wStand W nD a (h0 + i) p) a)) (W 0 1), nI a)) (fun e => e = bs (fun p => kn p || (!al && anyN (fun a => lef a && wStand W nD a (h0 + i) p) (W 0 0))) (W 0 1)) 0 (W 0 0) (Nat.zero_le _) (by omega) ?_ ?_ ?_ ?_
    · rw [bs_congr (P := fun p => kn p || (!al && anyN (fun a => lef a && wStand W nD a (h0 + i) p) 0)) (Q := kn) (fun p _ => by simp [anyN])]; rfl
    · rintro a q _ ha rfl
      apply Ok.step (r_h0 hR2.1)
      refine Ok.ifF (by simp (disch := omega) only [↓reduceIte, Option.bind_some, jn, lets, Sum.elim_inl, Sum.elim_inr, if_true, if_false, rd_nI, wr_nI, rd_z, rd_o, wr_z, wr_o, nI_1, nI_add, pk_mul, nI_leI, nI_ltI, nI_eq, z_le, le_z, z_lt, lt_z, eq_z, eq_o, le_o, o_le, lt_o, o_lt, eq_m1, eq_m2, m1_eq, m2_eq, m1_lt, m1_le, o_z, z_o, m1_z, m1_o, m2_z, m2_o, m2_m1, z_lz, z_lo, o_lz, o_ez, z_ez, z_eo, m2_lt, m2_le, leF, leT, ltF, ltT, eqF, eqT, bI_z, bI_o, sh1, sh0, not_true_eq_false, not_false_eq_true, ne_eq, Bool.true_eq_false, Bool.false_eq_true, true_and, and_true, false_and, and_false, l_2, l_3, l_4, l_5, l_6, l_7, l_8, l_9, l_10, l_11, l_12, l_13, l_14, l_15, l_16, l_17, l_18, l_19, l_20, l_21, l_22, l_23, l_24, l_25, l_26, l_27, l_28, l_29, l_30, l_32, l_33, l_34, l_35, l_36, l_37, l_38, l_39, l_50, l_60, l_99, l_100, l_150, l_160, l_240, l_250, l_300, l_400, l_402, l_403, l_420, l_500, l_600, l_840, l_1000, l_1024, l_2000, l_2047, l_2048, l_10000, l_25600, l_500000]) ?_
      cases hal : al
      · refine Ok.ifT rfl ?_
        have hl2 : lf = bs lef (W 0 0) := by
          rcases hl1 with z | z
          · rw [hal] at z; cases z
          · exact z
        have nxt : bs (fun p => kn p || (!false && anyN (fun a => lef a && wStand W nD a (h0 + i) p) (a + 1))) (W 0 1) = if lef a = true then bs (fun p => kn p || (!false && anyN (fun a => lef a && wStand W nD a (h0 + i) p) a)) (W 0 1) ||| bs (wStand W nD a (h0 + i)) (W 0 1) else bs (fun p => kn p || (!false && anyN (fun a => lef a && wStand W nD a (h0 + i) p) a)) (W 0 1) := by
          cases c : lef a
          · rw [if_neg (by decide)]
            exact bs_congr (fun p _ => by simp [anyN, c])
          · rw [if_pos rfl, bs_or (by omega)]
            exact bs_congr (fun p _ => by simp [anyN, c, Bool.or_assoc])
        apply Ok.jnU
        cases c : lef a
        · refine Ok.ifF ?_ (Ok.inl ?_)
          · simp (disch := omega) only [↓reduceIte, Option.bind_some, jn, lets, Sum.elim_inl, Sum.elim_inr, if_true, if_false, rd_nI, wr_nI, rd_z, rd_o, wr_z, wr_o, nI_1, nI_add, pk_mul, nI_leI, nI_ltI, nI_eq, z_le, le_z, z_lt, lt_z, eq_z, eq_o, le_o, o_le, lt_o, o_lt, eq_m1, eq_m2, m1_eq, m2_eq, m1_lt, m1_le, o_z, z_o, m1_z, m1_o, m2_z, m2_o, m2_m1, z_lz, z_lo, o_lz, o_ez, z_ez, z_eo, m2_lt, m2_le, leF, leT, ltF, ltT, eqF, eqT, bI_z, bI_o, sh1, sh0, not_true_eq_false, not_false_eq_true, ne_eq, Bool.true_eq_false, Bool.false_eq_true, true_and, and_true, false_and, and_false, l_2, l_3, l_4, l_5, l_6, l_7, l_8, l_9, l_10, l_11, l_12, l_13, l_14, l_15, l_16, l_17, l_18, l_19, l_20, l_21, l_22, l_23, l_24, l_25, l_26, l_27, l_28, l_29, l_30, l_32, l_33, l_34, l_35, l_36, l_37, l_38, l_39, l_50, l_60, l_99, l_100, l_150, l_160, l_240, l_250, l_300, l_400, l_402, l_403, l_420, l_500, l_600, l_840, l_1000, l_1024, l_2000, l_2047, l_2048, l_10000, l_25600, l_500000, hl2, bt_lt, c]
          · dsimp only
            rw [nI_1, nxt, if_neg (by rw [c]; decide)]
        · refine Ok.ifT ?_ ?_
          · simp (disch := omega) only [↓reduceIte, Option.bind_some, jn, lets, Sum.elim_inl, Sum.elim_inr, if_true, if_false, rd_nI, wr_nI, rd_z, rd_o, wr_z, wr_o, nI_1, nI_add, pk_mul, nI_leI, nI_ltI, nI_eq, z_le, le_z, z_lt, lt_z, eq_z, eq_o, le_o, o_le, lt_o, o_lt, eq_m1, eq_m2, m1_eq, m2_eq, m1_lt, m1_le, o_z, z_o, m1_z, m1_o, m2_z, m2_o, m2_m1, z_lz, z_lo, o_lz, o_ez, z_ez, z_eo, m2_lt, m2_le, leF, leT, ltF, ltT, eqF, eqT, bI_z, bI_o, sh1, sh0, not_true_eq_false, not_false_eq_true, ne_eq, Bool.true_eq_false, Bool.false_eq_true, true_and, and_true, false_and, and_false, l_2, l_3, l_4, l_5, l_6, l_7, l_8, l_9, l_10, l_11, l_12, l_13, l_14, l_15, l_16, l_17, l_18, l_19, l_20, l_21, l_22, l_23, l_24, l_25, l_26, l_27, l_28, l_29, l_30, l_32, l_33, l_34, l_35, l_36, l_37, l_38, l_39, l_50, l_60, l_99, l_100, l_150, l_160, l_240, l_250, l_300, l_400, l_402, l_403, l_420, l_500, l_600, l_840, l_1000, l_1024, l_2000, l_2047, l_2048, l_10000, l_25600, l_500000, hl2, bt_lt, c]
          · have hcr := r_crowdAt (x := a) (h := h0 + i) hR2.1 hW hn (by omega) (by omega)
            rw [hnD] at hcr
            apply Ok.step hcr
            refine Ok.inl ?_
            dsimp only
            rw [nI_1, nxt, if_pos c]
      · refine Ok.ifF (by decide) (Ok.inr ?_)
        dsimp only
        exact bs_congr (fun p _ => by simp)
    · rintro q rfl
      apply Ok.step (r_h0 hR2.1)
      exact Ok.ifT (by simp (disch := omega) only [↓reduceIte, Option.bind_some, jn, lets, Sum.elim_inl, Sum.elim_inr, if_true, if_false, rd_nI, wr_nI, rd_z, rd_o, wr_z, wr_o, nI_1, nI_add, pk_mul, nI_leI, nI_ltI, nI_eq, z_le, le_z, z_lt, lt_z, eq_z, eq_o, le_o, o_le, lt_o, o_lt, eq_m1, eq_m2, m1_eq, m2_eq, m1_lt, m1_le, o_z, z_o, m1_z, m1_o, m2_z, m2_o, m2_m1, z_lz, z_lo, o_lz, o_ez, z_ez, z_eo, m2_lt, m2_le, leF, leT, ltF, ltT, eqF, eqT, bI_z, bI_o, sh1, sh0, not_true_eq_false, not_false_eq_true, ne_eq, Bool.true_eq_false, Bool.false_eq_true, true_and, and_true, false_and, and_false, l_2, l_3, l_4, l_5, l_6, l_7, l_8, l_9, l_10, l_11, l_12, l_13, l_14, l_15, l_16, l_17, l_18, l_19, l_20, l_21, l_22, l_23, l_24, l_25, l_26, l_27, l_28, l_29, l_30, l_32, l_33, l_34, l_35, l_36, l_37, l_38, l_39, l_50, l_60, l_99, l_100, l_150, l_160, l_240, l_250, l_300, l_400, l_402, l_403, l_420, l_500, l_600, l_840, l_1000, l_1024, l_2000, l_2047, l_2048, l_10000, l_25600, l_500000]) (Ok.inr rfl)
    rintro e rfl
    -- people
    generalize hA : (fun p => kn p || (!al && anyN (fun a => lef a && wStand W nD a (h0 + i) p) (W 0 0))) = A
    generalize hB : (fun q p => kn q && ((wSpkL W V nD q (h0 + i) l && wHear W nD (wPl W q (h0 + i)) (h0 + i) p) || (sh && wStand W nD (wPl W q (h0 + i)) (h0 + i) p))) = B
    generalize hE : (fun q a => kn q && (wOn W nD q && decide (wPl W q (h0 + i) = a))) = E
    refine bindL (fun k q => q.1 = bs (fun p => A p || anyN (fun q => B q p) k) (W 0 1) ∧ q.2.1 = bs (fun a => anyN (fun q => E q a) k) (W 0 0) ∧ q.2.2.1 = nI k ∧ Df XM S2 q.2.2.2)
      (fun e => e.1 = bs (fun p => A p || anyN (fun q => B q p) (W 0 1)) (W 0 1) ∧ e.2.1 = bs (fun a => anyN (fun q => E q a) (W 0 1)) (W 0 0) ∧ Df XM S2 e.2.2) 0 (W 0 1) (Nat.zero_le _) (by omega) ⟨bs_congr (fun p _ => by simp [anyN]), by show (0 : Int32) = bs (fun _ => false) (W 0 0); rw [bs_false], rfl, Df.refl _ _⟩ ?_ ?_ ?_
    · rintro k ⟨nx, wr, y, S3⟩ _ hk' ⟨rfl, rfl, rfl, d3⟩
      dsimp only at d3 ⊢
      have hR3 := XM_R hR2.1 d3
      have hL3 := XM_L hR2.2.1 d3
      have eD : bt (S3.1 95 61) = nD := by rw [XM_D d3]; exact hnD
      apply Ok.step (r_h1 hR3)
      refine Ok.ifF (by simp (disch := omega) only [↓reduceIte, Option.bind_some, jn, lets, Sum.elim_inl, Sum.elim_inr, if_true, if_false, rd_nI, wr_nI, rd_z, rd_o, wr_z, wr_o, nI_1, nI_add, pk_mul, nI_leI, nI_ltI, nI_eq, z_le, le_z, z_lt, lt_z, eq_z, eq_o, le_o, o_le, lt_o, o_lt, eq_m1, eq_m2, m1_eq, m2_eq, m1_lt, m1_le, o_z, z_o, m1_z, m1_o, m2_z, m2_o, m2_m1, z_lz, z_lo, o_lz, o_ez, z_ez, z_eo, m2_lt, m2_le, leF, leT, ltF, ltT, eqF, eqT, bI_z, bI_o, sh1, sh0, not_true_eq_false, not_false_eq_true, ne_eq, Bool.true_eq_false, Bool.false_eq_true, true_and, and_true, false_and, and_false, l_2, l_3, l_4, l_5, l_6, l_7, l_8, l_9, l_10, l_11, l_12, l_13, l_14, l_15, l_16, l_17, l_18, l_19, l_20, l_21, l_22, l_23, l_24, l_25, l_26, l_27, l_28, l_29, l_30, l_32, l_33, l_34, l_35, l_36, l_37, l_38, l_39, l_50, l_60, l_99, l_100, l_150, l_160, l_240, l_250, l_300, l_400, l_402, l_403, l_420, l_500, l_600, l_840, l_1000, l_1024, l_2000, l_2047, l_2048, l_10000, l_25600, l_500000]) ?_
      have hpl := r_placeOf hR3 hW hn hk' (h := h0 + i) (by omega)
      rw [eD] at hpl
      apply Ok.step hpl
      apply Ok.jnU
      have stay : (∀ p, B k p = false) → (∀ a, a < W 0 0 → E k a = false) → ∀ S4, Df XM S2 S4 → Ok (some (Sum.inl (bs (fun p => A p || anyN (fun q => B q p) k) (W 0 1), bs (fun a => anyN (fun q => E q a) k) (W 0 0), nI k + 1, S4) : (Int32 × Int32 × Int32 × ST) ⊕ (Int32 × Int32 × ST))) (Sum.elim (fun q => q.1 = bs (fun p => A p || anyN (fun q => B q p) (k + 1)) (W 0 1) ∧ q.2.1 = bs (fun a => anyN (fun q => E q a) (k + 1)) (W 0 0) ∧ q.2.2.1 = nI (k + 1) ∧ Df XM S2 q.2.2.2) (fun e => e.1 = bs (fun p => A p || anyN (fun q => B q p) (W 0 1)) (W 0 1) ∧ e.2.1 = bs (fun a => anyN (fun q => E q a) (W 0 1)) (W 0 0) ∧ Df XM S2 e.2.2)) := fun b1 b2 S4 d4 => Ok.inl ⟨bs_congr (fun p _ => by simp [anyN, b1]), bs_congr (fun a ha => by simp [anyN, b2 a ha]), nI_1 _, d4⟩
      cases ck : kn k
      · refine Ok.ifT ?_ (stay (fun p => by rw [← hB]; simp [ck]) (fun a _ => by rw [← hE]; simp [ck]) S3 d3)
        simp (disch := omega) only [↓reduceIte, Option.bind_some, jn, lets, Sum.elim_inl, Sum.elim_inr, if_true, if_false, rd_nI, wr_nI, rd_z, rd_o, wr_z, wr_o, nI_1, nI_add, pk_mul, nI_leI, nI_ltI, nI_eq, z_le, le_z, z_lt, lt_z, eq_z, eq_o, le_o, o_le, lt_o, o_lt, eq_m1, eq_m2, m1_eq, m2_eq, m1_lt, m1_le, o_z, z_o, m1_z, m1_o, m2_z, m2_o, m2_m1, z_lz, z_lo, o_lz, o_ez, z_ez, z_eo, m2_lt, m2_le, leF, leT, ltF, ltT, eqF, eqT, bI_z, bI_o, sh1, sh0, not_true_eq_false, not_false_eq_true, ne_eq, Bool.true_eq_false, Bool.false_eq_true, true_and, and_true, false_and, and_false, l_2, l_3, l_4, l_5, l_6, l_7, l_8, l_9, l_10, l_11, l_12, l_13, l_14, l_15, l_16, l_17, l_18, l_19, l_20, l_21, l_22, l_23, l_24, l_25, l_26, l_27, l_28, l_29, l_30, l_32, l_33, l_34, l_35, l_36, l_37, l_38, l_39, l_50, l_60, l_99, l_100, l_150, l_160, l_240, l_250, l_300, l_400, l_402, l_403, l_420, l_500, l_600, l_840, l_1000, l_1024, l_2000, l_2047, l_2048, l_10000, l_25600, l_500000, bt_lt, ck]
      refine Ok.ifF ?_ ?_
      · simp (disch := omega) only [↓reduceIte, Option.bind_some, jn, lets, Sum.elim_inl, Sum.elim_inr, if_true, if_false, rd_nI, wr_nI, rd_z, rd_o, wr_z, wr_o, nI_1, nI_add, pk_mul, nI_leI, nI_ltI, nI_eq, z_le, le_z, z_lt, lt_z, eq_z, eq_o, le_o, o_le, lt_o, o_lt, eq_m1, eq_m2, m1_eq, m2_eq, m1_lt, m1_le, o_z, z_o, m1_z, m1_o, m2_z, m2_o, m2_m1, z_lz, z_lo, o_lz, o_ez, z_ez, z_eo, m2_lt, m2_le, leF, leT, ltF, ltT, eqF, eqT, bI_z, bI_o, sh1, sh0, not_true_eq_false, not_false_eq_true, ne_eq, Bool.true_eq_false, Bool.false_eq_true, true_and, and_true, false_and, and_false, l_2, l_3, l_4, l_5, l_6, l_7, l_8, l_9, l_10, l_11, l_12, l_13, l_14, l_15, l_16, l_17, l_18, l_19, l_20, l_21, l_22, l_23, l_24, l_25, l_26, l_27, l_28, l_29, l_30, l_32, l_33, l_34, l_35, l_36, l_37, l_38, l_39, l_50, l_60, l_99, l_100, l_150, l_160, l_240, l_250, l_300, l_400, l_402, l_403, l_420, l_500, l_600, l_840, l_1000, l_1024, l_2000, l_2047, l_2048, l_10000, l_25600, l_500000, bt_lt, ck]
      by_cases g0 : 0 < W 0 0
      case neg =>
        have c : ¬ wOn W nD k = true := by simp [wOn, nD]; omega
        rw [if_neg c]
        refine Ok.ifF (by decide) (stay (fun p => ?_) (fun a ha => absurd ha (by omega)) S3 d3)
        rw [← hB]
        simp [wHear_0 (show W 0 0 = 0 by omega), wStand_0 (show W 0 0 = 0 by omega)]
      have c : wOn W nD k = true := by simp [wOn, nD, g0]
      have hlt := wPl_lt hW g0 k (h0 + i)
      rw [if_pos c]
      refine Ok.ifT (nI_pos' (by omega)) ?_
      obtain ⟨⟨v, S4⟩, e4, h4, d4⟩ := r_speaks (l := l) hR3 hL3 hW hn hk' (h := h0 + i) (by omega) hl
      dsimp only at h4 d4
      rw [eD] at h4
      subst h4
      apply Ok.step e4
      have hR4 := XM_R hR3 d4
      have eD4 : bt (S4.1 95 61) = nD := by rw [XM_D d4]; exact eD
      have hes := r_earshotOf (x := wPl W k (h0 + i)) hR4 hW hn (by omega) (h := h0 + i) (by omega)
      rw [eD4] at hes
      have hcr := r_crowdAt (x := wPl W k (h0 + i)) hR4 hW hn (by omega) (h := h0 + i) (by omega)
      rw [eD4] at hcr
      have ew : bs (fun a => anyN (fun q => E q a) k) (W 0 0) ||| ((1 : Int32) <<< (nI (wPl W k (h0 + i)) &&& 31)) = bs (fun a => anyN (fun q => E q a) (k + 1)) (W 0 0) := by
        apply bs_of (by omega)
        intro a _
        rw [b_or, bt_bs _ _ (by omega), bt_bit (by omega)]
        have : E k a = decide (a = wPl W k (h0 + i)) := by rw [← hE]; simp [ck, c]; exact eq_comm
        rw [anyN, this]
        by_cases z : a < W 0 0
        · simp [z]
        · have : ¬ a = wPl W k (h0 + i) := by omega
          simp [z, this]
      refine jnH1 (fun u => u = bs (fun p => (A p || anyN (fun q => B q p) k) || (wSpkL W V nD k (h0 + i) l && wHear W nD (wPl W k (h0 + i)) (h0 + i) p)) (W 0 1)) ?_ ?_
      · rintro u rfl
        refine jnH1 (fun u => u = bs (fun p => A p || anyN (fun q => B q p) (k + 1)) (W 0 1)) ?_ ?_
        · rintro u rfl
          exact Ok.inl ⟨rfl, ew, nI_1 _, d3.trans d4⟩
        · intro J hJ
          have eB : ∀ p, B k p = ((wSpkL W V nD k (h0 + i) l && wHear W nD (wPl W k (h0 + i)) (h0 + i) p) || (sh && wStand W nD (wPl W k (h0 + i)) (h0 + i) p)) := fun p => by rw [← hB]; simp [ck]
          cases cs : sh
          · refine Ok.ifT rfl (hJ _ (bs_congr (fun p _ => ?_)))
            simp [anyN, eB, cs, Bool.or_assoc]
          · refine Ok.ifF (by decide) (Ok.step hcr (hJ _ ?_))
            rw [bs_or (by omega)]
            exact bs_congr (fun p _ => by simp [anyN, eB, cs, Bool.or_assoc])
      · intro J hJ
        by_cases cp : wSpkL W V nD k (h0 + i) l = true
        · refine Ok.ifF (show ¬ bI (wSpkL W V nD k (h0 + i) l) = 0 by rw [cp]; decide) (Ok.step hes (hJ _ ?_))
          rw [bs_or (by omega)]
          exact bs_congr (fun p _ => by simp [cp])
        · simp only [Bool.not_eq_true] at cp
          refine Ok.ifT (show bI (wSpkL W V nD k (h0 + i) l) = 0 by rw [cp]; rfl) (hJ _ (bs_congr (fun p _ => by simp [cp])))
    · rintro ⟨nx, wr, y, S3⟩ ⟨rfl, rfl, rfl, d3⟩
      dsimp only at d3 ⊢
      apply Ok.step (r_h1 (XM_R hR2.1 d3))
      exact Ok.ifT (by simp (disch := omega) only [↓reduceIte, Option.bind_some, jn, lets, Sum.elim_inl, Sum.elim_inr, if_true, if_false, rd_nI, wr_nI, rd_z, rd_o, wr_z, wr_o, nI_1, nI_add, pk_mul, nI_leI, nI_ltI, nI_eq, z_le, le_z, z_lt, lt_z, eq_z, eq_o, le_o, o_le, lt_o, o_lt, eq_m1, eq_m2, m1_eq, m2_eq, m1_lt, m1_le, o_z, z_o, m1_z, m1_o, m2_z, m2_o, m2_m1, z_lz, z_lo, o_lz, o_ez, z_ez, z_eo, m2_lt, m2_le, leF, leT, ltF, ltT, eqF, eqT, bI_z, bI_o, sh1, sh0, not_true_eq_false, not_false_eq_true, ne_eq, Bool.true_eq_false, Bool.false_eq_true, true_and, and_true, false_and, and_false, l_2, l_3, l_4, l_5, l_6, l_7, l_8, l_9, l_10, l_11, l_12, l_13, l_14, l_15, l_16, l_17, l_18, l_19, l_20, l_21, l_22, l_23, l_24, l_25, l_26, l_27, l_28, l_29, l_30, l_32, l_33, l_34, l_35, l_36, l_37, l_38, l_39, l_50, l_60, l_99, l_100, l_150, l_160, l_240, l_250, l_300, l_400, l_402, l_403, l_420, l_500, l_600, l_840, l_1000, l_1024, l_2000, l_2047, l_2048, l_10000, l_25600, l_500000]) (Ok.inr ⟨rfl, rfl, d3⟩)
    · rintro ⟨nx, wr, S3⟩ ⟨rfl, rfl, d3⟩
      dsimp only at d3 ⊢
      rw [nI_1]
      apply Ok.step (wr_nI (by omega) (by decide))
      have d4 : Df XSR S2 (upI S3 148 (h0 + i + 1) (bs (fun p => A p || anyN (fun q => B q p) (W 0 1)) (W 0 1))) := (XM_XSR d3).up rfl
      refine Ok.inl ⟨?_, rfl, d2.trans d4, hR2.dfS d4 (by rw [upI_ne (by decide), d3.2 _ _ rfl]; exact hR2.2.2.2.2.1) (by rw [upI_ne (by decide), d3.2 _ _ rfl]; exact hR2.2.2.2.2.2), fun j hj => ?_⟩
      · rcases hl1 with z | z
        · exact Or.inl z
        · refine Or.inr ?_
          dsimp only
          rw [z, bs_or (by omega)]
          refine bs_congr (fun a _ => ?_)
          rw [spN, ← hE, ← hkn, ← hlf]
      · dsimp only
        by_cases e : j = i + 1
        · subst e
          rw [upI_at, if_pos ⟨rfl, by omega⟩]
          refine bs_congr (fun p _ => ?_)
          rw [spN, ← hA, ← hB, ← hkn, ← hlf, Bool.or_assoc]
        · rw [upI_at, if_neg (by omega), d3.2 148 _ rfl]
          exact hk j (by omega)
  · rintro ⟨lf, x1, S2⟩ ⟨hl1, rfl, d2, hR2, hk⟩
    dsimp only at hl1 d2 hR2 hk ⊢
    refine Ok.ifT (nI_le (a := 24) (by omega) (by omega)) (Ok.inr ⟨d2, hR2, fun i hi => hk i (by omega)⟩)
end SPR
