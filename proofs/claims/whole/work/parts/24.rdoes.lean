/-! ===== the reference does a doing ===== -/
def XD (a j : Nat) : Bool := XM a j || (a == 144 || (a == 146 || a == 147))
theorem XM_XD {S S' : ST} (h : Df XM S S') : Df XD S S' := h.mono (fun a j hx => by
  simp only [XD, Bool.or_eq_false_iff] at hx
  exact hx.1)
section RDO
variable {W : VW} {V : VL} {P : PL} {N sd n : Nat} {S : ST}
theorem wWhy_0 {D : Nat → Bool} {F : FT2} {h k : Nat} (hw : wWhy W V P D F h k = 0) : D (P 2 k) = false ∧ wOn W D (P 2 k) = true ∧ (wTalks P k = true → (wOn W D (P 3 k) = true ∧ wPl W (P 3 k) h = wPl W (P 2 k) h) ∧ wMay W V D (P 2 k) (P 3 k) h (if P 0 k = 3 then 1 else 0) = true) ∧ (P 0 k ≠ 3 → F (P 2 k) (P 4 k) ≤ h) := by
  unfold wWhy at hw
  by_cases c1 : D (P 2 k) = true
  · rw [if_pos c1] at hw; cases hw
  rw [if_neg c1] at hw
  by_cases c2 : anyN (fun j => P 1 j == P 1 k && P 2 j == P 2 k) k = true
  · rw [if_pos c2] at hw; cases hw
  rw [if_neg c2] at hw
  split at hw
  · cases hw
  rename_i c3
  split at hw
  · cases hw
  rename_i c4
  split at hw
  · cases hw
  rename_i c5
  simp only [Bool.or_eq_true, Bool.and_eq_true, Bool.not_eq_true', not_or, not_and, Bool.not_eq_false, decide_eq_true_eq, decide_eq_false_iff_not, Decidable.not_not, ne_eq] at c3 c4 c5
  refine ⟨by simpa using c1, c3.1, fun ht => ⟨?_, ?_⟩, fun h3 => ?_⟩
  · have := c3.2 ht
    simpa using this
  · exact c5 ht
  · exact c4 h3
theorem r_does (hR : RRep W sd S) (hW : WF W) (hL : RLw V W sd S) (hn : 30000 ≤ n) (hP : PRef P N S) (hPW : PWF W P N) {F : FT2} {h k : Nat} (hk : k < N) (hh : P 1 k = h) (hK : KRow S (W 0 1) h (fun p t => decide (F p t ≤ h))) (hw : wWhy W V P (bt (S.1 95 61)) F h k = 0) :
    Ok (E_X12_does n S (nI k)) (fun S' => Df XD S S' ∧ (∀ i L, i ≠ h + 1 → KRow S (W 0 1) i L → KRow S' (W 0 1) i L) ∧ (∀ L, KRow S (W 0 1) (h + 1) L → KRow S' (W 0 1) (h + 1) (fun p t => L p t || wTeach W V P (bt (S.1 95 61)) F h k p t))
      ∧ (∀ s o t, s < 10 → o < 10 → t < 6 → S'.1 146 (60 * s + 6 * o + t) = if wSee W V P (bt (S.1 95 61)) F h k s o t = true ∧ s < W 0 1 ∧ nI (h + 1) < S.1 146 (60 * s + 6 * o + t) then nI (h + 1) else S.1 146 (60 * s + 6 * o + t))
      ∧ (∀ a, S'.1 147 a = if P 0 k = 2 ∧ a = wPl W (P 2 k) h then S.1 147 a ||| ((1 : Int32) <<< (nI (6 + P 4 k) &&& 31)) else S.1 147 a)) := by
  have hm1 : W 0 1 ≤ 10 := hW.mx (k := 1) (by decide)
  have hm2 : W 0 2 ≤ 6 := hW.mx (k := 2) (by decide)
  have hm0 : W 0 0 ≤ 6 := hW.mx (k := 0) (by decide)
  have hN := hPW.1
  obtain ⟨q0, q1, q2, q4, q03, q11⟩ := hPW.2 k hk
  obtain ⟨a0, a1, a2, a3, a4⟩ := hP.2 k hk
  rw [hh] at a1 q1
  obtain ⟨w1, w2, w3, w4⟩ := wWhy_0 hw
  have h0 : 0 < W 0 0 := by
    simp [wOn] at w2
    omega
  have hpl := wPl_lt hW h0 (P 2 k) h
  have hD : bt (S.1 95 61) = bt (S.1 95 61) := rfl
  generalize hDD : bt (S.1 95 61) = D at *
  unfold E_X12_does
  have pl := r_placeOf hR hW hn q2 (h := h) (by omega)
  rw [hDD, if_pos w2] at pl
  simp (disch := omega) only [↓reduceIte, Option.bind_some, lets, Sum.elim_inl, Sum.elim_inr, if_true, if_false, rd_nI, wr_nI, rd_z, rd_o, wr_z, wr_o, nI_1, nI_add, pk_mul, nI_leI, nI_ltI, nI_eq, z_le, le_z, z_lt, lt_z, eq_z, eq_o, le_o, o_le, lt_o, o_lt, eq_m1, eq_m2, m1_eq, m2_eq, m1_lt, m1_le, o_z, z_o, m1_z, m1_o, m2_z, m2_o, m2_m1, z_lz, z_lo, o_lz, o_ez, z_ez, z_eo, m2_lt, m2_le, leF, leT, ltF, ltT, eqF, eqT, bI_z, bI_o, sh1, sh0, not_true_eq_false, not_false_eq_true, ne_eq, Bool.true_eq_false, Bool.false_eq_true, true_and, and_true, false_and, and_false, l_2, l_3, l_4, l_5, l_6, l_7, l_8, l_9, l_10, l_11, l_12, l_13, l_14, l_15, l_16, l_17, l_18, l_19, l_20, l_21, l_22, l_23, l_24, l_25, l_26, l_27, l_28, l_29, l_30, l_32, l_33, l_34, l_35, l_36, l_37, l_38, l_39, l_50, l_60, l_99, l_100, l_150, l_160, l_240, l_250, l_300, l_400, l_402, l_403, l_420, l_500, l_600, l_840, l_1000, l_1024, l_2000, l_2047, l_2048, l_10000, l_25600, l_500000, a0, a1, a2, a4, pl]
  have noSee : P 0 k ≠ 3 → ∀ s o t, wSee W V P D F h k s o t = false := fun z s o t => by simp [wSee, z]
  by_cases t1 : P 0 k = 1
  · simp (disch := omega) only [↓reduceIte, Option.bind_some, lets, Sum.elim_inl, Sum.elim_inr, if_true, if_false, rd_nI, wr_nI, rd_z, rd_o, wr_z, wr_o, nI_1, nI_add, pk_mul, nI_leI, nI_ltI, nI_eq, z_le, le_z, z_lt, lt_z, eq_z, eq_o, le_o, o_le, lt_o, o_lt, eq_m1, eq_m2, m1_eq, m2_eq, m1_lt, m1_le, o_z, z_o, m1_z, m1_o, m2_z, m2_o, m2_m1, z_lz, z_lo, o_lz, o_ez, z_ez, z_eo, m2_lt, m2_le, leF, leT, ltF, ltT, eqF, eqT, bI_z, bI_o, sh1, sh0, not_true_eq_false, not_false_eq_true, ne_eq, Bool.true_eq_false, Bool.false_eq_true, true_and, and_true, false_and, and_false, l_2, l_3, l_4, l_5, l_6, l_7, l_8, l_9, l_10, l_11, l_12, l_13, l_14, l_15, l_16, l_17, l_18, l_19, l_20, l_21, l_22, l_23, l_24, l_25, l_26, l_27, l_28, l_29, l_30, l_32, l_33, l_34, l_35, l_36, l_37, l_38, l_39, l_50, l_60, l_99, l_100, l_150, l_160, l_240, l_250, l_300, l_400, l_402, l_403, l_420, l_500, l_600, l_840, l_1000, l_1024, l_2000, l_2047, l_2048, l_10000, l_25600, l_500000, t1, r_crowdAt hR hW hn, hDD, r_learn hR hW hn]
    refine ⟨_, rfl, ?_, ?_, ?_, ?_, ?_⟩
    · exact Xc_set.mono (fun a j hx => by
        simp only [XD, Bool.or_eq_false_iff] at hx
        exact hx.2.1)
    · exact fun i L hi hK => hK.keep hm1 hi
    · intro L hKL
      refine hKL.learn (fun p t _ z => ?_) (fun p t hp ht => ?_)
      · rw [bt_bit (by omega)] at z
        simp at z; omega
      · rw [bt_bit (by omega), bt_lt (by omega) hp]
        simp only [wTeach, t1]
        by_cases e : t = P 4 k
        · simp [e]
        · have : ¬ P 4 k = t := fun z => e z.symm
          simp [e, this]
    · intro s o t _ _ _
      rw [setC_ne (by decide), noSee (by omega)]
      simp
    · intro a
      rw [setC_ne (by decide), if_neg (by omega)]
  by_cases t2 : P 0 k = 2
  · simp (disch := omega) only [↓reduceIte, Option.bind_some, lets, Sum.elim_inl, Sum.elim_inr, if_true, if_false, rd_nI, wr_nI, rd_z, rd_o, wr_z, wr_o, nI_1, nI_add, pk_mul, nI_leI, nI_ltI, nI_eq, z_le, le_z, z_lt, lt_z, eq_z, eq_o, le_o, o_le, lt_o, o_lt, eq_m1, eq_m2, m1_eq, m2_eq, m1_lt, m1_le, o_z, z_o, m1_z, m1_o, m2_z, m2_o, m2_m1, z_lz, z_lo, o_lz, o_ez, z_ez, z_eo, m2_lt, m2_le, leF, leT, ltF, ltT, eqF, eqT, bI_z, bI_o, sh1, sh0, not_true_eq_false, not_false_eq_true, ne_eq, Bool.true_eq_false, Bool.false_eq_true, true_and, and_true, false_and, and_false, l_2, l_3, l_4, l_5, l_6, l_7, l_8, l_9, l_10, l_11, l_12, l_13, l_14, l_15, l_16, l_17, l_18, l_19, l_20, l_21, l_22, l_23, l_24, l_25, l_26, l_27, l_28, l_29, l_30, l_32, l_33, l_34, l_35, l_36, l_37, l_38, l_39, l_50, l_60, l_99, l_100, l_150, l_160, l_240, l_250, l_300, l_400, l_402, l_403, l_420, l_500, l_600, l_840, l_1000, l_1024, l_2000, l_2047, l_2048, l_10000, l_25600, l_500000, t2]
    refine ⟨_, rfl, ?_, ?_, ?_, ?_, ?_⟩
    · exact (Df.refl _ _).up rfl
    · exact fun i L hi hK p hp => by rw [upI_ne (by decide)]; exact hK p hp
    · intro L hKL
      refine KRow.congr (L := L) (fun p hp => by rw [upI_ne (by decide)]; exact hKL p hp) (fun p t _ _ => ?_)
      simp [wTeach, t2]
    · intro s o t _ _ _
      rw [upI_ne (by decide), noSee (by omega)]
      simp
    · intro a
      by_cases e : a = wPl W (P 2 k) h
      · rw [upI_at, if_pos ⟨rfl, e⟩, if_pos ⟨t2, e⟩, e]
      · rw [upI_at, if_neg (fun z => e z.2), if_neg (fun z => e z.2)]
  -- SAY and ASK
  have tk : P 0 k = 0 ∨ P 0 k = 3 := by omega
  obtain ⟨q3, q3'⟩ := q03 tk
  have a3' : S.1 142 k = nI (P 3 k) := by rw [a3, if_neg t2]
  simp (disch := omega) only [↓reduceIte, Option.bind_some, lets, Sum.elim_inl, Sum.elim_inr, if_true, if_false, rd_nI, wr_nI, rd_z, rd_o, wr_z, wr_o, nI_1, nI_add, pk_mul, nI_leI, nI_ltI, nI_eq, z_le, le_z, z_lt, lt_z, eq_z, eq_o, le_o, o_le, lt_o, o_lt, eq_m1, eq_m2, m1_eq, m2_eq, m1_lt, m1_le, o_z, z_o, m1_z, m1_o, m2_z, m2_o, m2_m1, z_lz, z_lo, o_lz, o_ez, z_ez, z_eo, m2_lt, m2_le, leF, leT, ltF, ltT, eqF, eqT, bI_z, bI_o, sh1, sh0, not_true_eq_false, not_false_eq_true, ne_eq, Bool.true_eq_false, Bool.false_eq_true, true_and, and_true, false_and, and_false, l_2, l_3, l_4, l_5, l_6, l_7, l_8, l_9, l_10, l_11, l_12, l_13, l_14, l_15, l_16, l_17, l_18, l_19, l_20, l_21, l_22, l_23, l_24, l_25, l_26, l_27, l_28, l_29, l_30, l_32, l_33, l_34, l_35, l_36, l_37, l_38, l_39, l_50, l_60, l_99, l_100, l_150, l_160, l_240, l_250, l_300, l_400, l_402, l_403, l_420, l_500, l_600, l_840, l_1000, l_1024, l_2000, l_2047, l_2048, l_10000, l_25600, l_500000, t1, t2, a3']
  have c60 : (60 : Int32) = nI 60 := rfl
  let said : Bool := P 0 k == 0 || (decide (F (P 3 k) (P 4 k) ≤ h) && wMay W V D (P 3 k) (P 2 k) h 0)
  have hsaid : said = (P 0 k == 0 || (decide (F (P 3 k) (P 4 k) ≤ h) && wMay W V D (P 3 k) (P 2 k) h 0)) := rfl
  refine jnH2 (fun u S1 => u = bI said ∧ Df XM S S1) ?_ ?_
  · rintro u S1 ⟨rfl, d1⟩
    have hR1 := XM_R hR d1
    have eD1 : bt (S1.1 95 61) = D := by rw [XM_D d1, hDD]
    have b0 : S1.1 139 k = nI (P 0 k) := (d1.2 _ _ rfl).trans a0
    have teach : ∀ p t, p < W 0 1 → t < 6 → wTeach W V P D F h k p t = (said && (bt (bs (wHear W D (wPl W (P 2 k) h) h) (W 0 1)) p && bt ((1 : Int32) <<< (nI (P 4 k) &&& 31)) t)) := by
      intro p t hp ht
      rw [bt_bit (by omega), bt_lt (by omega) hp, hsaid]
      simp only [wTeach]
      by_cases e : t = P 4 k
      · subst e
        rcases tk with z | z
        · simp [z]
        · simp [z]
      · have : ¬ P 4 k = t := fun z => e z.symm
        simp [e, this]
    rw [r_earshotOf hR1 hW hn (by omega) (by omega), Option.bind_some, eD1]
    refine jnH1 (fun S2 => Df XD S S2 ∧ (∀ i L, i ≠ h + 1 → KRow S (W 0 1) i L → KRow S2 (W 0 1) i L) ∧ (∀ L, KRow S (W 0 1) (h + 1) L → KRow S2 (W 0 1) (h + 1) (fun p t => L p t || wTeach W V P D F h k p t)) ∧ S2.1 146 = S.1 146 ∧ S2.1 147 = S.1 147) ?_ ?_
    · rintro S2 ⟨d2, k1, k2, e1, e2⟩
      have hR2 : RRep W sd S2 := hR.df d2 (fun a j hx => by
        simp only [XD, XM, Bool.or_eq_false_iff, beq_eq_false_iff_ne, Bool.and_eq_false_iff]
        omega)
      have b2 : S2.1 139 k = nI (P 0 k) := (d2.2 _ _ rfl).trans a0
      have fin : ∀ a, S2.1 147 a = if P 0 k = 2 ∧ a = wPl W (P 2 k) h then S.1 147 a ||| ((1 : Int32) <<< (nI (6 + P 4 k) &&& 31)) else S.1 147 a := fun a => by rw [if_neg (fun z => t2 z.1), e2]
      simp (disch := omega) only [↓reduceIte, Option.bind_some, lets, Sum.elim_inl, Sum.elim_inr, if_true, if_false, rd_nI, wr_nI, rd_z, rd_o, wr_z, wr_o, nI_1, nI_add, pk_mul, nI_leI, nI_ltI, nI_eq, z_le, le_z, z_lt, lt_z, eq_z, eq_o, le_o, o_le, lt_o, o_lt, eq_m1, eq_m2, m1_eq, m2_eq, m1_lt, m1_le, o_z, z_o, m1_z, m1_o, m2_z, m2_o, m2_m1, z_lz, z_lo, o_lz, o_ez, z_ez, z_eo, m2_lt, m2_le, leF, leT, ltF, ltT, eqF, eqT, bI_z, bI_o, sh1, sh0, not_true_eq_false, not_false_eq_true, ne_eq, Bool.true_eq_false, Bool.false_eq_true, true_and, and_true, false_and, and_false, l_2, l_3, l_4, l_5, l_6, l_7, l_8, l_9, l_10, l_11, l_12, l_13, l_14, l_15, l_16, l_17, l_18, l_19, l_20, l_21, l_22, l_23, l_24, l_25, l_26, l_27, l_28, l_29, l_30, l_32, l_33, l_34, l_35, l_36, l_37, l_38, l_39, l_50, l_60, l_99, l_100, l_150, l_160, l_240, l_250, l_300, l_400, l_402, l_403, l_420, l_500, l_600, l_840, l_1000, l_1024, l_2000, l_2047, l_2048, l_10000, l_25600, l_500000, b2]
      by_cases t0 : P 0 k = 0
      · simp (disch := omega) only [↓reduceIte, Option.bind_some, lets, Sum.elim_inl, Sum.elim_inr, if_true, if_false, rd_nI, wr_nI, rd_z, rd_o, wr_z, wr_o, nI_1, nI_add, pk_mul, nI_leI, nI_ltI, nI_eq, z_le, le_z, z_lt, lt_z, eq_z, eq_o, le_o, o_le, lt_o, o_lt, eq_m1, eq_m2, m1_eq, m2_eq, m1_lt, m1_le, o_z, z_o, m1_z, m1_o, m2_z, m2_o, m2_m1, z_lz, z_lo, o_lz, o_ez, z_ez, z_eo, m2_lt, m2_le, leF, leT, ltF, ltT, eqF, eqT, bI_z, bI_o, sh1, sh0, not_true_eq_false, not_false_eq_true, ne_eq, Bool.true_eq_false, Bool.false_eq_true, true_and, and_true, false_and, and_false, l_2, l_3, l_4, l_5, l_6, l_7, l_8, l_9, l_10, l_11, l_12, l_13, l_14, l_15, l_16, l_17, l_18, l_19, l_20, l_21, l_22, l_23, l_24, l_25, l_26, l_27, l_28, l_29, l_30, l_32, l_33, l_34, l_35, l_36, l_37, l_38, l_39, l_50, l_60, l_99, l_100, l_150, l_160, l_240, l_250, l_300, l_400, l_402, l_403, l_420, l_500, l_600, l_840, l_1000, l_1024, l_2000, l_2047, l_2048, l_10000, l_25600, l_500000, t0]
        exact ⟨_, rfl, d2, k1, k2, fun s o t _ _ _ => by rw [noSee (by omega), e1]; simp, fin⟩
      have t3 : P 0 k = 3 := by omega
      have hK2 := k1 h _ (by omega) hK
      simp (disch := omega) only [↓reduceIte, Option.bind_some, lets, Sum.elim_inl, Sum.elim_inr, if_true, if_false, rd_nI, wr_nI, rd_z, rd_o, wr_z, wr_o, nI_1, nI_add, pk_mul, nI_leI, nI_ltI, nI_eq, z_le, le_z, z_lt, lt_z, eq_z, eq_o, le_o, o_le, lt_o, o_lt, eq_m1, eq_m2, m1_eq, m2_eq, m1_lt, m1_le, o_z, z_o, m1_z, m1_o, m2_z, m2_o, m2_m1, z_lz, z_lo, o_lz, o_ez, z_ez, z_eo, m2_lt, m2_le, leF, leT, ltF, ltT, eqF, eqT, bI_z, bI_o, sh1, sh0, not_true_eq_false, not_false_eq_true, ne_eq, Bool.true_eq_false, Bool.false_eq_true, true_and, and_true, false_and, and_false, l_2, l_3, l_4, l_5, l_6, l_7, l_8, l_9, l_10, l_11, l_12, l_13, l_14, l_15, l_16, l_17, l_18, l_19, l_20, l_21, l_22, l_23, l_24, l_25, l_26, l_27, l_28, l_29, l_30, l_32, l_33, l_34, l_35, l_36, l_37, l_38, l_39, l_50, l_60, l_99, l_100, l_150, l_160, l_240, l_250, l_300, l_400, l_402, l_403, l_420, l_500, l_600, l_840, l_1000, l_1024, l_2000, l_2047, l_2048, l_10000, l_25600, l_500000, t3, r_knowsIt hK2 hm1]
      by_cases c1 : F (P 2 k) (P 4 k) ≤ h
      · simp (disch := omega) only [↓reduceIte, Option.bind_some, lets, Sum.elim_inl, Sum.elim_inr, if_true, if_false, rd_nI, wr_nI, rd_z, rd_o, wr_z, wr_o, nI_1, nI_add, pk_mul, nI_leI, nI_ltI, nI_eq, z_le, le_z, z_lt, lt_z, eq_z, eq_o, le_o, o_le, lt_o, o_lt, eq_m1, eq_m2, m1_eq, m2_eq, m1_lt, m1_le, o_z, z_o, m1_z, m1_o, m2_z, m2_o, m2_m1, z_lz, z_lo, o_lz, o_ez, z_ez, z_eo, m2_lt, m2_le, leF, leT, ltF, ltT, eqF, eqT, bI_z, bI_o, sh1, sh0, not_true_eq_false, not_false_eq_true, ne_eq, Bool.true_eq_false, Bool.false_eq_true, true_and, and_true, false_and, and_false, l_2, l_3, l_4, l_5, l_6, l_7, l_8, l_9, l_10, l_11, l_12, l_13, l_14, l_15, l_16, l_17, l_18, l_19, l_20, l_21, l_22, l_23, l_24, l_25, l_26, l_27, l_28, l_29, l_30, l_32, l_33, l_34, l_35, l_36, l_37, l_38, l_39, l_50, l_60, l_99, l_100, l_150, l_160, l_240, l_250, l_300, l_400, l_402, l_403, l_420, l_500, l_600, l_840, l_1000, l_1024, l_2000, l_2047, l_2048, l_10000, l_25600, l_500000, c1, decide_true]
        exact ⟨_, rfl, d2, k1, k2, fun s o t _ _ _ => by
          have : wSee W V P D F h k s o t = false := by
            simp only [wSee, t3]
            by_cases e3 : P 2 k = o
            · by_cases e4 : P 4 k = t
              · subst e3; subst e4; simp [c1]
              · simp [e4]
            · simp [e3]
          rw [this, e1]; simp, fin⟩
      simp (disch := omega) only [↓reduceIte, Option.bind_some, lets, Sum.elim_inl, Sum.elim_inr, if_true, if_false, rd_nI, wr_nI, rd_z, rd_o, wr_z, wr_o, nI_1, nI_add, pk_mul, nI_leI, nI_ltI, nI_eq, z_le, le_z, z_lt, lt_z, eq_z, eq_o, le_o, o_le, lt_o, o_lt, eq_m1, eq_m2, m1_eq, m2_eq, m1_lt, m1_le, o_z, z_o, m1_z, m1_o, m2_z, m2_o, m2_m1, z_lz, z_lo, o_lz, o_ez, z_ez, z_eo, m2_lt, m2_le, leF, leT, ltF, ltT, eqF, eqT, bI_z, bI_o, sh1, sh0, not_true_eq_false, not_false_eq_true, ne_eq, Bool.true_eq_false, Bool.false_eq_true, true_and, and_true, false_and, and_false, l_2, l_3, l_4, l_5, l_6, l_7, l_8, l_9, l_10, l_11, l_12, l_13, l_14, l_15, l_16, l_17, l_18, l_19, l_20, l_21, l_22, l_23, l_24, l_25, l_26, l_27, l_28, l_29, l_30, l_32, l_33, l_34, l_35, l_36, l_37, l_38, l_39, l_50, l_60, l_99, l_100, l_150, l_160, l_240, l_250, l_300, l_400, l_402, l_403, l_420, l_500, l_600, l_840, l_1000, l_1024, l_2000, l_2047, l_2048, l_10000, l_25600, l_500000, c1, decide_false]
      refine bindL (fun i q => q.1 = nI i ∧ Df (Xc 146) S2 q.2 ∧ ∀ s o t, s < 10 → o < 10 → t < 6 → q.2.1 146 (60 * s + 6 * o + t) = if wSee W V P D F h k s o t = true ∧ s < i ∧ nI (h + 1) < S.1 146 (60 * s + 6 * o + t) then nI (h + 1) else S.1 146 (60 * s + 6 * o + t))
        (fun S3 => Df (Xc 146) S2 S3 ∧ ∀ s o t, s < 10 → o < 10 → t < 6 → S3.1 146 (60 * s + 6 * o + t) = if wSee W V P D F h k s o t = true ∧ s < W 0 1 ∧ nI (h + 1) < S.1 146 (60 * s + 6 * o + t) then nI (h + 1) else S.1 146 (60 * s + 6 * o + t)) 0 (W 0 1) (Nat.zero_le _) (by omega) ⟨rfl, Df.refl _ _, fun s o t _ _ _ => by rw [e1, if_neg (by omega)]⟩ ?_ ?_ ?_
      · rintro i ⟨x, S3⟩ _ hi ⟨rfl, d3, hs⟩
        dsimp only at d3 hs ⊢
        have hR3 := Xc_R hR2 d3 (by decide)
        have see : ∀ s o t, s < 10 → o < 10 → t < 6 → 60 * s + 6 * o + t = 60 * i + 6 * P 2 k + P 4 k → s = i ∧ o = P 2 k ∧ t = P 4 k := by
          intro s o t h1 h2 h3 h4
          omega
        have cur := hs i (P 2 k) (P 4 k) (by omega) (by omega) (by omega)
        rw [if_neg (by omega)] at cur
        have skip : wSee W V P D F h k i (P 2 k) (P 4 k) = false ∨ ¬ nI (h + 1) < S.1 146 (60 * i + 6 * P 2 k + P 4 k) → ∀ s o t, s < 10 → o < 10 → t < 6 → S3.1 146 (60 * s + 6 * o + t) = if wSee W V P D F h k s o t = true ∧ s < i + 1 ∧ nI (h + 1) < S.1 146 (60 * s + 6 * o + t) then nI (h + 1) else S.1 146 (60 * s + 6 * o + t) := by
          intro z s o t h1 h2 h3
          rw [hs s o t h1 h2 h3]
          by_cases e : s = i
          · subst e
            by_cases e5 : wSee W V P D F h k s o t = true
            · have e6 : P 2 k = o ∧ P 4 k = t := by
                simp [wSee] at e5
                exact ⟨e5.1.1.1.1.2, e5.1.1.1.2⟩
              obtain ⟨e6, e7⟩ := e6
              subst e6; subst e7
              rcases z with z | z
              · rw [z] at e5; cases e5
              · rw [if_neg (by omega), if_neg (fun y => z y.2.2)]
            · rw [if_neg (fun y => e5 y.1), if_neg (fun y => e5 y.1)]
          · have : (s < i + 1) = (s < i) := by simp; omega
            rw [this]
        simp (disch := omega) only [↓reduceIte, Option.bind_some, lets, Sum.elim_inl, Sum.elim_inr, if_true, if_false, rd_nI, wr_nI, rd_z, rd_o, wr_z, wr_o, nI_1, nI_add, pk_mul, nI_leI, nI_ltI, nI_eq, z_le, le_z, z_lt, lt_z, eq_z, eq_o, le_o, o_le, lt_o, o_lt, eq_m1, eq_m2, m1_eq, m2_eq, m1_lt, m1_le, o_z, z_o, m1_z, m1_o, m2_z, m2_o, m2_m1, z_lz, z_lo, o_lz, o_ez, z_ez, z_eo, m2_lt, m2_le, leF, leT, ltF, ltT, eqF, eqT, bI_z, bI_o, sh1, sh0, not_true_eq_false, not_false_eq_true, ne_eq, Bool.true_eq_false, Bool.false_eq_true, true_and, and_true, false_and, and_false, l_2, l_3, l_4, l_5, l_6, l_7, l_8, l_9, l_10, l_11, l_12, l_13, l_14, l_15, l_16, l_17, l_18, l_19, l_20, l_21, l_22, l_23, l_24, l_25, l_26, l_27, l_28, l_29, l_30, l_32, l_33, l_34, l_35, l_36, l_37, l_38, l_39, l_50, l_60, l_99, l_100, l_150, l_160, l_240, l_250, l_300, l_400, l_402, l_403, l_420, l_500, l_600, l_840, l_1000, l_1024, l_2000, l_2047, l_2048, l_10000, l_25600, l_500000, r_h1 hR3, jn]
        by_cases c2 : i = P 2 k
        · simp (disch := omega) only [↓reduceIte, Option.bind_some, lets, Sum.elim_inl, Sum.elim_inr, if_true, if_false, rd_nI, wr_nI, rd_z, rd_o, wr_z, wr_o, nI_1, nI_add, pk_mul, nI_leI, nI_ltI, nI_eq, z_le, le_z, z_lt, lt_z, eq_z, eq_o, le_o, o_le, lt_o, o_lt, eq_m1, eq_m2, m1_eq, m2_eq, m1_lt, m1_le, o_z, z_o, m1_z, m1_o, m2_z, m2_o, m2_m1, z_lz, z_lo, o_lz, o_ez, z_ez, z_eo, m2_lt, m2_le, leF, leT, ltF, ltT, eqF, eqT, bI_z, bI_o, sh1, sh0, not_true_eq_false, not_false_eq_true, ne_eq, Bool.true_eq_false, Bool.false_eq_true, true_and, and_true, false_and, and_false, l_2, l_3, l_4, l_5, l_6, l_7, l_8, l_9, l_10, l_11, l_12, l_13, l_14, l_15, l_16, l_17, l_18, l_19, l_20, l_21, l_22, l_23, l_24, l_25, l_26, l_27, l_28, l_29, l_30, l_32, l_33, l_34, l_35, l_36, l_37, l_38, l_39, l_50, l_60, l_99, l_100, l_150, l_160, l_240, l_250, l_300, l_400, l_402, l_403, l_420, l_500, l_600, l_840, l_1000, l_1024, l_2000, l_2047, l_2048, l_10000, l_25600, l_500000, c2]
          rw [← c2]
          refine Ok.inl ⟨by rw [c2], d3, ?_⟩
          exact skip (Or.inl (by simp [wSee, c2]))
        by_cases c3 : wHear W D (wPl W (P 2 k) h) h i = true
        case neg =>
          simp (disch := omega) only [↓reduceIte, Option.bind_some, lets, Sum.elim_inl, Sum.elim_inr, if_true, if_false, rd_nI, wr_nI, rd_z, rd_o, wr_z, wr_o, nI_1, nI_add, pk_mul, nI_leI, nI_ltI, nI_eq, z_le, le_z, z_lt, lt_z, eq_z, eq_o, le_o, o_le, lt_o, o_lt, eq_m1, eq_m2, m1_eq, m2_eq, m1_lt, m1_le, o_z, z_o, m1_z, m1_o, m2_z, m2_o, m2_m1, z_lz, z_lo, o_lz, o_ez, z_ez, z_eo, m2_lt, m2_le, leF, leT, ltF, ltT, eqF, eqT, bI_z, bI_o, sh1, sh0, not_true_eq_false, not_false_eq_true, ne_eq, Bool.true_eq_false, Bool.false_eq_true, true_and, and_true, false_and, and_false, l_2, l_3, l_4, l_5, l_6, l_7, l_8, l_9, l_10, l_11, l_12, l_13, l_14, l_15, l_16, l_17, l_18, l_19, l_20, l_21, l_22, l_23, l_24, l_25, l_26, l_27, l_28, l_29, l_30, l_32, l_33, l_34, l_35, l_36, l_37, l_38, l_39, l_50, l_60, l_99, l_100, l_150, l_160, l_240, l_250, l_300, l_400, l_402, l_403, l_420, l_500, l_600, l_840, l_1000, l_1024, l_2000, l_2047, l_2048, l_10000, l_25600, l_500000, c2, bt_lt, c3]
          exact Ok.inl ⟨rfl, d3, skip (Or.inl (by simp [wSee, c3]))⟩
        have hsee : wSee W V P D F h k i (P 2 k) (P 4 k) = true := by simp [wSee, t3, c2, c1, c3]
        simp (disch := omega) only [↓reduceIte, Option.bind_some, lets, Sum.elim_inl, Sum.elim_inr, if_true, if_false, rd_nI, wr_nI, rd_z, rd_o, wr_z, wr_o, nI_1, nI_add, pk_mul, nI_leI, nI_ltI, nI_eq, z_le, le_z, z_lt, lt_z, eq_z, eq_o, le_o, o_le, lt_o, o_lt, eq_m1, eq_m2, m1_eq, m2_eq, m1_lt, m1_le, o_z, z_o, m1_z, m1_o, m2_z, m2_o, m2_m1, z_lz, z_lo, o_lz, o_ez, z_ez, z_eo, m2_lt, m2_le, leF, leT, ltF, ltT, eqF, eqT, bI_z, bI_o, sh1, sh0, not_true_eq_false, not_false_eq_true, ne_eq, Bool.true_eq_false, Bool.false_eq_true, true_and, and_true, false_and, and_false, l_2, l_3, l_4, l_5, l_6, l_7, l_8, l_9, l_10, l_11, l_12, l_13, l_14, l_15, l_16, l_17, l_18, l_19, l_20, l_21, l_22, l_23, l_24, l_25, l_26, l_27, l_28, l_29, l_30, l_32, l_33, l_34, l_35, l_36, l_37, l_38, l_39, l_50, l_60, l_99, l_100, l_150, l_160, l_240, l_250, l_300, l_400, l_402, l_403, l_420, l_500, l_600, l_840, l_1000, l_1024, l_2000, l_2047, l_2048, l_10000, l_25600, l_500000, c2, bt_lt, c3, cur, c60]
        by_cases c4 : S.1 146 (60 * i + 6 * P 2 k + P 4 k) ≤ nI (h + 1)
        · rw [if_pos c4]
          exact Ok.inl ⟨rfl, d3, skip (Or.inr (Int32.not_lt.mpr c4))⟩
        · rw [if_neg c4]
          refine Ok.inl ⟨rfl, d3.up rfl, fun s o t h1 h2 h3 => ?_⟩
          dsimp only
          rw [upI_at]
          by_cases e : 60 * s + 6 * o + t = 60 * i + 6 * P 2 k + P 4 k
          · obtain ⟨z1, z2, z3⟩ := see s o t h1 h2 h3 e
            subst z1; subst z2; subst z3
            rw [if_pos ⟨rfl, rfl⟩, if_pos ⟨hsee, by omega, Int32.not_le.mp c4⟩]
          · rw [if_neg (fun z => e z.2), hs s o t h1 h2 h3]
            by_cases e5 : wSee W V P D F h k s o t = true
            · have e6 : P 2 k = o ∧ P 4 k = t := by
                simp [wSee] at e5
                exact ⟨e5.1.1.1.1.2, e5.1.1.1.2⟩
              have e8 : s ≠ i := fun z => e (by rw [z, ← e6.1, ← e6.2])
              have : (s < i + 1) = (s < i) := by simp; omega
              rw [this]
            · rw [if_neg (fun y => e5 y.1), if_neg (fun y => e5 y.1)]
      · rintro ⟨x, S3⟩ ⟨rfl, d3, hs⟩
        dsimp only at d3 hs ⊢
        have hR3 := Xc_R hR2 d3 (by decide)
        simp (disch := omega) only [↓reduceIte, Option.bind_some, lets, Sum.elim_inl, Sum.elim_inr, if_true, if_false, rd_nI, wr_nI, rd_z, rd_o, wr_z, wr_o, nI_1, nI_add, pk_mul, nI_leI, nI_ltI, nI_eq, z_le, le_z, z_lt, lt_z, eq_z, eq_o, le_o, o_le, lt_o, o_lt, eq_m1, eq_m2, m1_eq, m2_eq, m1_lt, m1_le, o_z, z_o, m1_z, m1_o, m2_z, m2_o, m2_m1, z_lz, z_lo, o_lz, o_ez, z_ez, z_eo, m2_lt, m2_le, leF, leT, ltF, ltT, eqF, eqT, bI_z, bI_o, sh1, sh0, not_true_eq_false, not_false_eq_true, ne_eq, Bool.true_eq_false, Bool.false_eq_true, true_and, and_true, false_and, and_false, l_2, l_3, l_4, l_5, l_6, l_7, l_8, l_9, l_10, l_11, l_12, l_13, l_14, l_15, l_16, l_17, l_18, l_19, l_20, l_21, l_22, l_23, l_24, l_25, l_26, l_27, l_28, l_29, l_30, l_32, l_33, l_34, l_35, l_36, l_37, l_38, l_39, l_50, l_60, l_99, l_100, l_150, l_160, l_240, l_250, l_300, l_400, l_402, l_403, l_420, l_500, l_600, l_840, l_1000, l_1024, l_2000, l_2047, l_2048, l_10000, l_25600, l_500000, r_h1 hR3]
        exact Ok.inr ⟨d3, hs⟩
      · rintro S3 ⟨d3, hs⟩
        refine ⟨_, rfl, d2.trans (d3.mono (fun a j hx => ?_)), fun i L hi hK => (k1 i L hi hK).df d3 (fun _ => rfl), fun L hK => (k2 L hK).df d3 (fun _ => rfl), hs, fun a => ?_⟩
        · simp only [XD, Bool.or_eq_false_iff] at hx
          exact hx.2.2.1
        · rw [d3.2 147 a rfl]; exact fin a
    · intro J hJ
      cases e : said
      · simp (disch := omega) only [↓reduceIte, Option.bind_some, lets, Sum.elim_inl, Sum.elim_inr, if_true, if_false, rd_nI, wr_nI, rd_z, rd_o, wr_z, wr_o, nI_1, nI_add, pk_mul, nI_leI, nI_ltI, nI_eq, z_le, le_z, z_lt, lt_z, eq_z, eq_o, le_o, o_le, lt_o, o_lt, eq_m1, eq_m2, m1_eq, m2_eq, m1_lt, m1_le, o_z, z_o, m1_z, m1_o, m2_z, m2_o, m2_m1, z_lz, z_lo, o_lz, o_ez, z_ez, z_eo, m2_lt, m2_le, leF, leT, ltF, ltT, eqF, eqT, bI_z, bI_o, sh1, sh0, not_true_eq_false, not_false_eq_true, ne_eq, Bool.true_eq_false, Bool.false_eq_true, true_and, and_true, false_and, and_false, l_2, l_3, l_4, l_5, l_6, l_7, l_8, l_9, l_10, l_11, l_12, l_13, l_14, l_15, l_16, l_17, l_18, l_19, l_20, l_21, l_22, l_23, l_24, l_25, l_26, l_27, l_28, l_29, l_30, l_32, l_33, l_34, l_35, l_36, l_37, l_38, l_39, l_50, l_60, l_99, l_100, l_150, l_160, l_240, l_250, l_300, l_400, l_402, l_403, l_420, l_500, l_600, l_840, l_1000, l_1024, l_2000, l_2047, l_2048, l_10000, l_25600, l_500000, bI_f]
        refine hJ _ ⟨XM_XD d1, fun i L hi hK => hK.df d1 (fun _ => rfl), fun L hK => (hK.df d1 (fun _ => rfl)).congr (fun p t hp ht => ?_), funext (fun j => d1.2 _ _ rfl), funext (fun j => d1.2 _ _ rfl)⟩
        rw [teach p t hp ht, e]; simp
      · rw [if_neg (by decide)]
        simp (disch := omega) only [↓reduceIte, Option.bind_some, lets, Sum.elim_inl, Sum.elim_inr, if_true, if_false, rd_nI, wr_nI, rd_z, rd_o, wr_z, wr_o, nI_1, nI_add, pk_mul, nI_leI, nI_ltI, nI_eq, z_le, le_z, z_lt, lt_z, eq_z, eq_o, le_o, o_le, lt_o, o_lt, eq_m1, eq_m2, m1_eq, m2_eq, m1_lt, m1_le, o_z, z_o, m1_z, m1_o, m2_z, m2_o, m2_m1, z_lz, z_lo, o_lz, o_ez, z_ez, z_eo, m2_lt, m2_le, leF, leT, ltF, ltT, eqF, eqT, bI_z, bI_o, sh1, sh0, not_true_eq_false, not_false_eq_true, ne_eq, Bool.true_eq_false, Bool.false_eq_true, true_and, and_true, false_and, and_false, l_2, l_3, l_4, l_5, l_6, l_7, l_8, l_9, l_10, l_11, l_12, l_13, l_14, l_15, l_16, l_17, l_18, l_19, l_20, l_21, l_22, l_23, l_24, l_25, l_26, l_27, l_28, l_29, l_30, l_32, l_33, l_34, l_35, l_36, l_37, l_38, l_39, l_50, l_60, l_99, l_100, l_150, l_160, l_240, l_250, l_300, l_400, l_402, l_403, l_420, l_500, l_600, l_840, l_1000, l_1024, l_2000, l_2047, l_2048, l_10000, l_25600, l_500000, r_learn hR1 hW hn]
        refine hJ _ ⟨(XM_XD d1).trans (Xc_set.mono (fun a j hx => ?_)), fun i L hi hK => (hK.df d1 (fun _ => rfl)).keep hm1 hi, fun L hK => (hK.df d1 (fun _ => rfl)).learn (fun p t _ z => ?_) (fun p t hp ht => ?_), ?_, ?_⟩
        · simp only [XD, Bool.or_eq_false_iff] at hx
          exact hx.2.1
        · rw [bt_bit (by omega)] at z
          simp at z; omega
        · rw [teach p t hp ht, e]; simp
        · rw [setC_ne (by decide)]; exact funext (fun j => d1.2 _ _ rfl)
        · rw [setC_ne (by decide)]; exact funext (fun j => d1.2 _ _ rfl)
  · intro J hJ
    by_cases t0 : P 0 k = 0
    · simp (disch := omega) only [↓reduceIte, Option.bind_some, lets, Sum.elim_inl, Sum.elim_inr, if_true, if_false, rd_nI, wr_nI, rd_z, rd_o, wr_z, wr_o, nI_1, nI_add, pk_mul, nI_leI, nI_ltI, nI_eq, z_le, le_z, z_lt, lt_z, eq_z, eq_o, le_o, o_le, lt_o, o_lt, eq_m1, eq_m2, m1_eq, m2_eq, m1_lt, m1_le, o_z, z_o, m1_z, m1_o, m2_z, m2_o, m2_m1, z_lz, z_lo, o_lz, o_ez, z_ez, z_eo, m2_lt, m2_le, leF, leT, ltF, ltT, eqF, eqT, bI_z, bI_o, sh1, sh0, not_true_eq_false, not_false_eq_true, ne_eq, Bool.true_eq_false, Bool.false_eq_true, true_and, and_true, false_and, and_false, l_2, l_3, l_4, l_5, l_6, l_7, l_8, l_9, l_10, l_11, l_12, l_13, l_14, l_15, l_16, l_17, l_18, l_19, l_20, l_21, l_22, l_23, l_24, l_25, l_26, l_27, l_28, l_29, l_30, l_32, l_33, l_34, l_35, l_36, l_37, l_38, l_39, l_50, l_60, l_99, l_100, l_150, l_160, l_240, l_250, l_300, l_400, l_402, l_403, l_420, l_500, l_600, l_840, l_1000, l_1024, l_2000, l_2047, l_2048, l_10000, l_25600, l_500000, t0, jn]
      exact hJ _ _ ⟨by simp [hsaid, t0, bI], Df.refl _ _⟩
    · have t3 : P 0 k = 3 := by omega
      simp (disch := omega) only [↓reduceIte, Option.bind_some, lets, Sum.elim_inl, Sum.elim_inr, if_true, if_false, rd_nI, wr_nI, rd_z, rd_o, wr_z, wr_o, nI_1, nI_add, pk_mul, nI_leI, nI_ltI, nI_eq, z_le, le_z, z_lt, lt_z, eq_z, eq_o, le_o, o_le, lt_o, o_lt, eq_m1, eq_m2, m1_eq, m2_eq, m1_lt, m1_le, o_z, z_o, m1_z, m1_o, m2_z, m2_o, m2_m1, z_lz, z_lo, o_lz, o_ez, z_ez, z_eo, m2_lt, m2_le, leF, leT, ltF, ltT, eqF, eqT, bI_z, bI_o, sh1, sh0, not_true_eq_false, not_false_eq_true, ne_eq, Bool.true_eq_false, Bool.false_eq_true, true_and, and_true, false_and, and_false, l_2, l_3, l_4, l_5, l_6, l_7, l_8, l_9, l_10, l_11, l_12, l_13, l_14, l_15, l_16, l_17, l_18, l_19, l_20, l_21, l_22, l_23, l_24, l_25, l_26, l_27, l_28, l_29, l_30, l_32, l_33, l_34, l_35, l_36, l_37, l_38, l_39, l_50, l_60, l_99, l_100, l_150, l_160, l_240, l_250, l_300, l_400, l_402, l_403, l_420, l_500, l_600, l_840, l_1000, l_1024, l_2000, l_2047, l_2048, l_10000, l_25600, l_500000, t3, jn, r_knowsIt hK hm1]
      by_cases c1 : F (P 3 k) (P 4 k) ≤ h
      case neg =>
        simp (disch := omega) only [↓reduceIte, Option.bind_some, lets, Sum.elim_inl, Sum.elim_inr, if_true, if_false, rd_nI, wr_nI, rd_z, rd_o, wr_z, wr_o, nI_1, nI_add, pk_mul, nI_leI, nI_ltI, nI_eq, z_le, le_z, z_lt, lt_z, eq_z, eq_o, le_o, o_le, lt_o, o_lt, eq_m1, eq_m2, m1_eq, m2_eq, m1_lt, m1_le, o_z, z_o, m1_z, m1_o, m2_z, m2_o, m2_m1, z_lz, z_lo, o_lz, o_ez, z_ez, z_eo, m2_lt, m2_le, leF, leT, ltF, ltT, eqF, eqT, bI_z, bI_o, sh1, sh0, not_true_eq_false, not_false_eq_true, ne_eq, Bool.true_eq_false, Bool.false_eq_true, true_and, and_true, false_and, and_false, l_2, l_3, l_4, l_5, l_6, l_7, l_8, l_9, l_10, l_11, l_12, l_13, l_14, l_15, l_16, l_17, l_18, l_19, l_20, l_21, l_22, l_23, l_24, l_25, l_26, l_27, l_28, l_29, l_30, l_32, l_33, l_34, l_35, l_36, l_37, l_38, l_39, l_50, l_60, l_99, l_100, l_150, l_160, l_240, l_250, l_300, l_400, l_402, l_403, l_420, l_500, l_600, l_840, l_1000, l_1024, l_2000, l_2047, l_2048, l_10000, l_25600, l_500000, c1, decide_false]
        exact hJ _ _ ⟨by simp [hsaid, t3, c1, bI], Df.refl _ _⟩
      obtain ⟨⟨v, S2⟩, e2, h2, d2⟩ := r_may0 hR hW hL hn q3 q2 (h := h) (by omega)
      dsimp only at h2 d2
      rw [hDD] at h2
      subst h2
      simp (disch := omega) only [↓reduceIte, Option.bind_some, lets, Sum.elim_inl, Sum.elim_inr, if_true, if_false, rd_nI, wr_nI, rd_z, rd_o, wr_z, wr_o, nI_1, nI_add, pk_mul, nI_leI, nI_ltI, nI_eq, z_le, le_z, z_lt, lt_z, eq_z, eq_o, le_o, o_le, lt_o, o_lt, eq_m1, eq_m2, m1_eq, m2_eq, m1_lt, m1_le, o_z, z_o, m1_z, m1_o, m2_z, m2_o, m2_m1, z_lz, z_lo, o_lz, o_ez, z_ez, z_eo, m2_lt, m2_le, leF, leT, ltF, ltT, eqF, eqT, bI_z, bI_o, sh1, sh0, not_true_eq_false, not_false_eq_true, ne_eq, Bool.true_eq_false, Bool.false_eq_true, true_and, and_true, false_and, and_false, l_2, l_3, l_4, l_5, l_6, l_7, l_8, l_9, l_10, l_11, l_12, l_13, l_14, l_15, l_16, l_17, l_18, l_19, l_20, l_21, l_22, l_23, l_24, l_25, l_26, l_27, l_28, l_29, l_30, l_32, l_33, l_34, l_35, l_36, l_37, l_38, l_39, l_50, l_60, l_99, l_100, l_150, l_160, l_240, l_250, l_300, l_400, l_402, l_403, l_420, l_500, l_600, l_840, l_1000, l_1024, l_2000, l_2047, l_2048, l_10000, l_25600, l_500000, c1, decide_true, e2]
      cases e3 : wMayL W V D (P 3 k) (P 2 k) h 0 0
      · rw [if_pos rfl]
        exact hJ _ _ ⟨by simp [hsaid, t3, c1, bI, wMay, e3], d2⟩
      · rw [if_neg (by decide)]
        exact hJ _ _ ⟨by simp [hsaid, t3, c1, bI, wMay, e3], d2⟩
end RDO
