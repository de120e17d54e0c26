/-! ===== the reference goes through all hours ===== -/
theorem r_lotN {n : Nat} {S : ST} {a b : Int32} : E_X12_lot n S a b (nI 100) = some (lotV a b) := r_lot
theorem anyN_or {P Q : Nat → Bool} {k : Nat} : (anyN P k || anyN Q k) = anyN (fun i => P i || Q i) k := by
  induction k with
  | zero => rfl
  | succ k ih => simp only [anyN, ← ih]; cases anyN P k <;> cases anyN Q k <;> cases P k <;> cases Q k <;> rfl
def X61 (a j : Nat) : Bool := a == 95 && j == 61
section RHS
variable {W : VW} {V : VL} {P : PL} {N sd n : Nat} {S : ST}
theorem X1_R {S S' : ST} (hR : RRep W sd S) (h : Df X1 S S') : RRep W sd S' := XG_R hR (X1_XG h)
theorem wWr_succ {D : Nat → Bool} {F : FT2} {Y : Nat → Nat} {h a t : Nat} : wWr W P N (sY W V P D h F Y) (h + 1) a t = (wWr W P N Y h a t || anyN (qB W V P D h F a t) N) := by
  unfold wWr
  rw [anyN_or]
  apply anyN_congr
  intro k _
  unfold qB sY
  by_cases c : P 1 k = h
  · have : ¬ P 1 k < h := by omega
    have h2 : P 1 k < h + 1 := by omega
    simp only [c, if_true, decide_true, Bool.true_and, Nat.lt_irrefl, decide_false, Bool.false_and, Bool.false_or, Nat.lt_succ_self]
    cases decide (wWhy W V P D F h k = 0) <;> cases decide (P 0 k = 2) <;> rfl
  · have h2 : (P 1 k < h + 1) = (P 1 k < h) := by apply propext; omega
    simp only [c, if_false, decide_false, Bool.false_and, Bool.or_false, h2]
theorem r_hour (hR : RRep W sd S) (hW : WF W) (hL : RLw V W sd S) (hn : 30000 ≤ n) (hP : PRef P N S) (hPW : PWF W P N) {seed frail : Int32} (hse : S.1 95 72 = seed) (hfa : S.1 95 73 = frail) {h : Nat} (hh : h < 24) {Z : CS} (hF : Upto h Z.1) (hU : ∀ s o t, Z.2.2 s o t ≤ h ∨ Z.2.2 s o t = 99) (H : RH W P N h Z (DDp seed frail (W 0 1) h) S) {R : Int32 × ST ⊕ ST → Prop}
    (hg : ∀ S', Df XG S S' → RH W P N (h + 1) (sF W V P N (DDs seed frail (W 0 1) h) h Z.1 Z.2.1, sY W V P (DDs seed frail (W 0 1) h) h Z.1 Z.2.1, sN W V P N (DDs seed frail (W 0 1) h) h Z.1 Z.2.2) (DDs seed frail (W 0 1) h) S' → R (.inl (nI (h + 1), S'))) :
    Ok ((iter (fun (s12 : Int32 × ST) => (E_X12_has n s12.2 (1 : Int32)).bind fun v13 => if v13 ≤ s12.1 then some (.inr s12.2) else jn (fun (S15 : ST) => (rd (S15.1 144) 250 ((((10 : Int32) * (nI h)) + (10 : Int32)) + s12.1)).bind fun v16 => (rd (S15.1 144) 250 (((10 : Int32) * (nI h)) + s12.1)).bind fun v17 => (wr S15 144 250 ((((10 : Int32) * (nI h)) + (10 : Int32)) + s12.1) (v16 ||| v17)).bind fun S18 => some (.inl ((s12.1 + (1 : Int32)), S18))) fun j19 => if (s12.2.1 95 73) = (-1 : Int32) then j19 s12.2 else if (nI h) ≤ 0 then j19 s12.2 else (E_X12_isDead n s12.2 s12.1).bind fun v22 => if v22 = 0 then (E_X12_lot n s12.2 (s12.2.1 95 72) (((100 : Int32) * (nI h)) + s12.1) (100 : Int32)).bind fun v24 => if (s12.2.1 95 73) ≤ v24 then j19 s12.2 else lets (upI s12.2 95 61 ((s12.2.1 95 61) ||| ((1 : Int32) <<< (s12.1 &&& 31)))) fun (S26 : ST) => j19 S26 else j19 s12.2) n ((0 : Int32), S)).bind fun (e12 : ST) => (iter (fun (s27 : Int32 × ST) => (E_X12_has n s27.2 (0 : Int32)).bind fun v28 => if v28 ≤ s27.1 then some (.inr s27.2) else (E_X12_crowdAt n s27.2 s27.1 (nI h)).bind fun v30 => (rd (s27.2.1 147) 6 s27.1).bind fun v31 => (E_X12_learn n s27.2 v30 (nI h) (v31 &&& (63 : Int32))).bind fun S33 => some (.inl ((s27.1 + (1 : Int32)), S33))) n ((0 : Int32), e12)).bind fun (e27 : ST) => (iter (fun (s34 : Int32 × ST) => if (s34.2.1 95 62) ≤ s34.1 then some (.inr s34.2) else (rd (s34.2.1 140) 30 s34.1).bind fun v36 => jn (fun (S37 : ST) => some (.inl ((s34.1 + (1 : Int32)), S37))) fun j38 => if v36 = (nI h) then (E_X12_whyNot n s34.2 s34.1).bind fun v40 => (wr v40.2 145 30 s34.1 v40.1).bind fun S41 => (rd (S41.1 145) 30 s34.1).bind fun v42 => if v42 = 0 then (E_X12_does n S41 s34.1).bind fun S45 => j38 S45 else j38 S41 else j38 s34.2) n ((0 : Int32), e27)).bind fun (e34 : ST) => (iter (fun (s46 : Int32 × ST) => if (6 : Int32) ≤ s46.1 then some (.inr s46.2) else (rd (s46.2.1 147) 6 s46.1).bind fun v48 => (rd (s46.2.1 147) 6 s46.1).bind fun v49 => (wr s46.2 147 6 s46.1 (v48 ||| (v49 >>> ((6 : Int32) &&& 31)))).bind fun S50 => some (.inl ((s46.1 + (1 : Int32)), S50))) n ((0 : Int32), e34)).bind fun (e46 : ST) => some (.inl (((nI h) + (1 : Int32)), e46))) R := by
  have hm1 : W 0 1 ≤ 10 := hW.mx (k := 1) (by decide)
  have hm2 : W 0 2 ≤ 6 := hW.mx (k := 2) (by decide)
  have hm0 : W 0 0 ≤ 6 := hW.mx (k := 0) (by decide)
  have hN := hPW.1
  obtain ⟨rows, rows0, why, seen, wri, dead⟩ := H
  have zr : ∀ p, p < W 0 1 → S.1 144 (10 * (h + 1) + p) = 0 := fun p hp => by
    rw [rows0 (h + 1) (by omega) (by omega) p hp, bs_false]
  -- people
  refine bindL (fun i q => q.1 = nI i ∧ Df X1 S q.2 ∧ (∀ j p, j ≠ h + 1 → j < 25 → p < W 0 1 → q.2.1 144 (10 * j + p) = S.1 144 (10 * j + p)) ∧ (∀ p, p < W 0 1 → q.2.1 144 (10 * (h + 1) + p) = if p < i then bs (fun t => decide (Z.1 p t ≤ h)) 6 else 0) ∧ ∀ p, p < 32 → bt (q.2.1 95 61) p = (DDp seed frail (W 0 1) h p || (decide (p < i) && LTs seed frail h p)))
    (fun S1 => Df X1 S S1 ∧ (∀ j p, j ≠ h + 1 → j < 25 → p < W 0 1 → S1.1 144 (10 * j + p) = S.1 144 (10 * j + p)) ∧ KRow S1 (W 0 1) (h + 1) (fun p t => decide (Z.1 p t ≤ h)) ∧ bt (S1.1 95 61) = DDs seed frail (W 0 1) h) 0 (W 0 1) (Nat.zero_le _) (by omega) ⟨rfl, Df.refl _ _, fun _ _ _ _ _ => rfl, fun p hp => by rw [if_neg (by omega)]; exact zr p hp, fun p _ => by dsimp only; rw [dead]; simp⟩ ?_ ?_ ?_
  · rintro i ⟨x, S1⟩ _ hi ⟨rfl, d, k1, k2, k3⟩
    dsimp only at d k1 k2 k3 ⊢
    have hR1 := X1_R hR d
    apply Ok.step (r_h1 hR1)
    refine Ok.ifF (by simp (disch := omega) only [↓reduceIte, Option.bind_some, jn, lets, Sum.elim_inl, Sum.elim_inr, if_true, if_false, rd_nI, wr_nI, rd_z, rd_o, wr_z, wr_o, nI_1, nI_add, pk_mul, nI_leI, nI_ltI, nI_eq, z_le, le_z, z_lt, lt_z, eq_z, eq_o, le_o, o_le, lt_o, o_lt, eq_m1, eq_m2, m1_eq, m2_eq, m1_lt, m1_le, o_z, z_o, m1_z, m1_o, m2_z, m2_o, m2_m1, z_lz, z_lo, o_lz, o_ez, z_ez, z_eo, m2_lt, m2_le, leF, leT, ltF, ltT, eqF, eqT, bI_z, bI_o, sh1, sh0, not_true_eq_false, not_false_eq_true, ne_eq, Bool.true_eq_false, Bool.false_eq_true, true_and, and_true, false_and, and_false, l_2, l_3, l_4, l_5, l_6, l_7, l_8, l_9, l_10, l_11, l_12, l_13, l_14, l_15, l_16, l_17, l_18, l_19, l_20, l_21, l_22, l_23, l_24, l_25, l_26, l_27, l_28, l_29, l_30, l_32, l_33, l_34, l_35, l_36, l_37, l_38, l_39, l_50, l_60, l_99, l_100, l_150, l_160, l_240, l_250, l_300, l_400, l_402, l_403, l_420, l_500, l_600, l_840, l_1000, l_1024, l_2000, l_2047, l_2048, l_10000, l_25600, l_500000]) ?_
    refine jnH1 (fun S2 => Df X61 S1 S2 ∧ ∀ p, p < 32 → bt (S2.1 95 61) p = (DDp seed frail (W 0 1) h p || (decide (p < i + 1) && LTs seed frail h p))) ?_ ?_
    · rintro S2 ⟨d2, k4⟩
      have e1 : S2.1 144 (10 * h + 10 + i) = 0 := by
        rw [d2.2 144 _ rfl, show 10 * h + 10 + i = 10 * (h + 1) + i by omega, k2 i hi, if_neg (by omega)]
      have e2 : S2.1 144 (10 * h + i) = bs (fun t => decide (Z.1 i t ≤ h)) 6 := by
        rw [d2.2 144 _ rfl, k1 h i (by omega) (by omega) hi]
        exact rows h (Nat.le_refl _) i hi
      (repeat (first | ((with_reducible apply Ok.step); · ((try simp (disch := omega) only [↓reduceIte, Option.bind_some, Sum.elim_inl, Sum.elim_inr, if_true, if_false, rd_nI, wr_nI, rd_z, rd_o, wr_z, wr_o, nI_1, nI_add, pk_mul, nI_leI, nI_ltI, nI_eq, z_le, le_z, z_lt, lt_z, eq_z, eq_o, le_o, o_le, lt_o, o_lt, eq_m1, eq_m2, m1_eq, m2_eq, m1_lt, m1_le, o_z, z_o, m1_z, m1_o, m2_z, m2_o, m2_m1, z_lz, z_lo, o_lz, o_ez, z_ez, z_eo, m2_lt, m2_le, leF, leT, ltF, ltT, eqF, eqT, bI_z, bI_o, sh1, sh0, not_true_eq_false, not_false_eq_true, ne_eq, Bool.true_eq_false, Bool.false_eq_true, true_and, and_true, false_and, and_false, l_2, l_3, l_4, l_5, l_6, l_7, l_8, l_9, l_10, l_11, l_12, l_13, l_14, l_15, l_16, l_17, l_18, l_19, l_20, l_21, l_22, l_23, l_24, l_25, l_26, l_27, l_28, l_29, l_30, l_32, l_33, l_34, l_35, l_36, l_37, l_38, l_39, l_50, l_60, l_99, l_100, l_150, l_160, l_240, l_250, l_300, l_400, l_402, l_403, l_420, l_500, l_600, l_840, l_1000, l_1024, l_2000, l_2047, l_2048, l_10000, l_25600, l_500000, e1, e2]); with_reducible exact rfl)) | ((with_reducible apply Ok.ifT); · (first | (simp (disch := omega) only [↓reduceIte, Option.bind_some, Sum.elim_inl, Sum.elim_inr, if_true, if_false, rd_nI, wr_nI, rd_z, rd_o, wr_z, wr_o, nI_1, nI_add, pk_mul, nI_leI, nI_ltI, nI_eq, z_le, le_z, z_lt, lt_z, eq_z, eq_o, le_o, o_le, lt_o, o_lt, eq_m1, eq_m2, m1_eq, m2_eq, m1_lt, m1_le, o_z, z_o, m1_z, m1_o, m2_z, m2_o, m2_m1, z_lz, z_lo, o_lz, o_ez, z_ez, z_eo, m2_lt, m2_le, leF, leT, ltF, ltT, eqF, eqT, bI_z, bI_o, sh1, sh0, not_true_eq_false, not_false_eq_true, ne_eq, Bool.true_eq_false, Bool.false_eq_true, true_and, and_true, false_and, and_false, l_2, l_3, l_4, l_5, l_6, l_7, l_8, l_9, l_10, l_11, l_12, l_13, l_14, l_15, l_16, l_17, l_18, l_19, l_20, l_21, l_22, l_23, l_24, l_25, l_26, l_27, l_28, l_29, l_30, l_32, l_33, l_34, l_35, l_36, l_37, l_38, l_39, l_50, l_60, l_99, l_100, l_150, l_160, l_240, l_250, l_300, l_400, l_402, l_403, l_420, l_500, l_600, l_840, l_1000, l_1024, l_2000, l_2047, l_2048, l_10000, l_25600, l_500000, e1, e2]; done) | omega)) | ((with_reducible apply Ok.ifF); · (first | (simp (disch := omega) only [↓reduceIte, Option.bind_some, Sum.elim_inl, Sum.elim_inr, if_true, if_false, rd_nI, wr_nI, rd_z, rd_o, wr_z, wr_o, nI_1, nI_add, pk_mul, nI_leI, nI_ltI, nI_eq, z_le, le_z, z_lt, lt_z, eq_z, eq_o, le_o, o_le, lt_o, o_lt, eq_m1, eq_m2, m1_eq, m2_eq, m1_lt, m1_le, o_z, z_o, m1_z, m1_o, m2_z, m2_o, m2_m1, z_lz, z_lo, o_lz, o_ez, z_ez, z_eo, m2_lt, m2_le, leF, leT, ltF, ltT, eqF, eqT, bI_z, bI_o, sh1, sh0, not_true_eq_false, not_false_eq_true, ne_eq, Bool.true_eq_false, Bool.false_eq_true, true_and, and_true, false_and, and_false, l_2, l_3, l_4, l_5, l_6, l_7, l_8, l_9, l_10, l_11, l_12, l_13, l_14, l_15, l_16, l_17, l_18, l_19, l_20, l_21, l_22, l_23, l_24, l_25, l_26, l_27, l_28, l_29, l_30, l_32, l_33, l_34, l_35, l_36, l_37, l_38, l_39, l_50, l_60, l_99, l_100, l_150, l_160, l_240, l_250, l_300, l_400, l_402, l_403, l_420, l_500, l_600, l_840, l_1000, l_1024, l_2000, l_2047, l_2048, l_10000, l_25600, l_500000, e1, e2]; done) | omega)) | with_reducible apply Ok.jnU | with_reducible apply Ok.letsU | with_reducible apply Ok.elL | with_reducible apply Ok.elR | ((with_reducible apply Ok.gdT); · exact bI_nar _)))
      refine Ok.inl ⟨nI_1 _, ?_, ?_, ?_, ?_⟩
      · refine Df.up (d.trans (d2.mono (fun a j hx => ?_))) rfl
        simp only [X1, Bool.or_eq_false_iff] at hx
        exact hx.2
      · intro j p h1 h2 h3
        dsimp only
        rw [upI_at, if_neg (by omega), d2.2 144 _ rfl]
        exact k1 j p h1 h2 h3
      · intro p hp
        dsimp only
        rw [upI_at]
        by_cases e : p = i
        · subst e
          rw [if_pos ⟨rfl, by omega⟩, if_pos (by omega)]
          apply b_ext
          intro t _
          rw [b_or, b_0, Bool.false_or]
        · rw [if_neg (by omega), d2.2 144 _ rfl, k2 p hp]
          have : (p < i + 1) = (p < i) := by simp; omega
          simp only [this]
      · intro p hp
        dsimp only
        rw [upI_at, if_neg (by omega)]
        exact k4 p hp
    · intro J hJ
      have e72 : S1.1 95 72 = seed := by rw [d.2 95 72 rfl, hse]
      have e73 : S1.1 95 73 = frail := by rw [d.2 95 73 rfl, hfa]
      have same : (DDp seed frail (W 0 1) h i = true ∨ LTs seed frail h i = false) → Df X61 S1 S1 ∧ ∀ p, p < 32 → bt (S1.1 95 61) p = (DDp seed frail (W 0 1) h p || (decide (p < i + 1) && LTs seed frail h p)) := by
        intro hs
        refine ⟨Df.refl _ _, fun p hp => ?_⟩
        rw [k3 p hp]
        by_cases e : p = i
        · subst e
          rcases hs with hs | hs <;> simp [hs]
        · have : (p < i + 1) = (p < i) := by simp; omega
          simp only [this]
      rw [e73]
      by_cases c1 : frail = -1
      · refine Ok.ifT c1 (hJ _ (same (Or.inr ?_)))
        simp [LTs, c1]
      refine Ok.ifF c1 ?_
      by_cases c2 : h = 0
      · refine Ok.ifT (by simp (disch := omega) only [↓reduceIte, Option.bind_some, jn, lets, Sum.elim_inl, Sum.elim_inr, if_true, if_false, rd_nI, wr_nI, rd_z, rd_o, wr_z, wr_o, nI_1, nI_add, pk_mul, nI_leI, nI_ltI, nI_eq, z_le, le_z, z_lt, lt_z, eq_z, eq_o, le_o, o_le, lt_o, o_lt, eq_m1, eq_m2, m1_eq, m2_eq, m1_lt, m1_le, o_z, z_o, m1_z, m1_o, m2_z, m2_o, m2_m1, z_lz, z_lo, o_lz, o_ez, z_ez, z_eo, m2_lt, m2_le, leF, leT, ltF, ltT, eqF, eqT, bI_z, bI_o, sh1, sh0, not_true_eq_false, not_false_eq_true, ne_eq, Bool.true_eq_false, Bool.false_eq_true, true_and, and_true, false_and, and_false, l_2, l_3, l_4, l_5, l_6, l_7, l_8, l_9, l_10, l_11, l_12, l_13, l_14, l_15, l_16, l_17, l_18, l_19, l_20, l_21, l_22, l_23, l_24, l_25, l_26, l_27, l_28, l_29, l_30, l_32, l_33, l_34, l_35, l_36, l_37, l_38, l_39, l_50, l_60, l_99, l_100, l_150, l_160, l_240, l_250, l_300, l_400, l_402, l_403, l_420, l_500, l_600, l_840, l_1000, l_1024, l_2000, l_2047, l_2048, l_10000, l_25600, l_500000, c2]) (hJ _ (same (Or.inr ?_)))
        simp [LTs, c2]
      refine Ok.ifF (by simp (disch := omega) only [↓reduceIte, Option.bind_some, jn, lets, Sum.elim_inl, Sum.elim_inr, if_true, if_false, rd_nI, wr_nI, rd_z, rd_o, wr_z, wr_o, nI_1, nI_add, pk_mul, nI_leI, nI_ltI, nI_eq, z_le, le_z, z_lt, lt_z, eq_z, eq_o, le_o, o_le, lt_o, o_lt, eq_m1, eq_m2, m1_eq, m2_eq, m1_lt, m1_le, o_z, z_o, m1_z, m1_o, m2_z, m2_o, m2_m1, z_lz, z_lo, o_lz, o_ez, z_ez, z_eo, m2_lt, m2_le, leF, leT, ltF, ltT, eqF, eqT, bI_z, bI_o, sh1, sh0, not_true_eq_false, not_false_eq_true, ne_eq, Bool.true_eq_false, Bool.false_eq_true, true_and, and_true, false_and, and_false, l_2, l_3, l_4, l_5, l_6, l_7, l_8, l_9, l_10, l_11, l_12, l_13, l_14, l_15, l_16, l_17, l_18, l_19, l_20, l_21, l_22, l_23, l_24, l_25, l_26, l_27, l_28, l_29, l_30, l_32, l_33, l_34, l_35, l_36, l_37, l_38, l_39, l_50, l_60, l_99, l_100, l_150, l_160, l_240, l_250, l_300, l_400, l_402, l_403, l_420, l_500, l_600, l_840, l_1000, l_1024, l_2000, l_2047, l_2048, l_10000, l_25600, l_500000, c2]) ?_
      have k5 : bt (S1.1 95 61) i = DDp seed frail (W 0 1) h i := by rw [k3 i (by omega)]; simp
      apply Ok.step (r_dead (by omega))
      rw [k5]
      cases c3 : DDp seed frail (W 0 1) h i
      case true => exact Ok.ifF (by decide) (hJ _ (same (Or.inl c3)))
      refine Ok.ifT rfl ?_
      rw [e72]
      apply Ok.step (x := lotV seed (nI (100 * h + i))) (by simp (disch := omega) only [↓reduceIte, Option.bind_some, jn, lets, Sum.elim_inl, Sum.elim_inr, if_true, if_false, rd_nI, wr_nI, rd_z, rd_o, wr_z, wr_o, nI_1, nI_add, pk_mul, nI_leI, nI_ltI, nI_eq, z_le, le_z, z_lt, lt_z, eq_z, eq_o, le_o, o_le, lt_o, o_lt, eq_m1, eq_m2, m1_eq, m2_eq, m1_lt, m1_le, o_z, z_o, m1_z, m1_o, m2_z, m2_o, m2_m1, z_lz, z_lo, o_lz, o_ez, z_ez, z_eo, m2_lt, m2_le, leF, leT, ltF, ltT, eqF, eqT, bI_z, bI_o, sh1, sh0, not_true_eq_false, not_false_eq_true, ne_eq, Bool.true_eq_false, Bool.false_eq_true, true_and, and_true, false_and, and_false, l_2, l_3, l_4, l_5, l_6, l_7, l_8, l_9, l_10, l_11, l_12, l_13, l_14, l_15, l_16, l_17, l_18, l_19, l_20, l_21, l_22, l_23, l_24, l_25, l_26, l_27, l_28, l_29, l_30, l_32, l_33, l_34, l_35, l_36, l_37, l_38, l_39, l_50, l_60, l_99, l_100, l_150, l_160, l_240, l_250, l_300, l_400, l_402, l_403, l_420, l_500, l_600, l_840, l_1000, l_1024, l_2000, l_2047, l_2048, l_10000, l_25600, l_500000, r_lotN])
      by_cases c4 : frail ≤ lotV seed (nI (100 * h + i))
      · refine Ok.ifT c4 (hJ _ (same (Or.inr ?_)))
        have : ¬ lotV seed (nI (100 * h + i)) < frail := Int32.not_lt.mpr c4
        simp [LTs, this]
      refine Ok.ifF c4 (Ok.letsU (hJ _ ⟨(Df.refl _ _).up rfl, fun p hp => ?_⟩))
      rw [upI_at, if_pos ⟨rfl, rfl⟩, b_or, bt_bit (by omega), k3 p hp]
      by_cases e : p = i
      · subst e
        have h1 : lotV seed (nI (100 * h + p)) < frail := Int32.not_le.mp c4
        have h2 : 0 < h := by omega
        simp [LTs, c1, h1, h2]
      · have : (p < i + 1) = (p < i) := by simp; omega
        simp only [this, e, decide_false, Bool.or_false]
  · rintro ⟨x, S1⟩ ⟨rfl, d, k1, k2, k3⟩
    dsimp only at d k1 k2 k3 ⊢
    have hR1 := X1_R hR d
    (repeat (first | ((with_reducible apply Ok.step); · ((try simp (disch := omega) only [↓reduceIte, Option.bind_some, Sum.elim_inl, Sum.elim_inr, if_true, if_false, rd_nI, wr_nI, rd_z, rd_o, wr_z, wr_o, nI_1, nI_add, pk_mul, nI_leI, nI_ltI, nI_eq, z_le, le_z, z_lt, lt_z, eq_z, eq_o, le_o, o_le, lt_o, o_lt, eq_m1, eq_m2, m1_eq, m2_eq, m1_lt, m1_le, o_z, z_o, m1_z, m1_o, m2_z, m2_o, m2_m1, z_lz, z_lo, o_lz, o_ez, z_ez, z_eo, m2_lt, m2_le, leF, leT, ltF, ltT, eqF, eqT, bI_z, bI_o, sh1, sh0, not_true_eq_false, not_false_eq_true, ne_eq, Bool.true_eq_false, Bool.false_eq_true, true_and, and_true, false_and, and_false, l_2, l_3, l_4, l_5, l_6, l_7, l_8, l_9, l_10, l_11, l_12, l_13, l_14, l_15, l_16, l_17, l_18, l_19, l_20, l_21, l_22, l_23, l_24, l_25, l_26, l_27, l_28, l_29, l_30, l_32, l_33, l_34, l_35, l_36, l_37, l_38, l_39, l_50, l_60, l_99, l_100, l_150, l_160, l_240, l_250, l_300, l_400, l_402, l_403, l_420, l_500, l_600, l_840, l_1000, l_1024, l_2000, l_2047, l_2048, l_10000, l_25600, l_500000, r_h1 hR1]); with_reducible exact rfl)) | ((with_reducible apply Ok.ifT); · (first | (simp (disch := omega) only [↓reduceIte, Option.bind_some, Sum.elim_inl, Sum.elim_inr, if_true, if_false, rd_nI, wr_nI, rd_z, rd_o, wr_z, wr_o, nI_1, nI_add, pk_mul, nI_leI, nI_ltI, nI_eq, z_le, le_z, z_lt, lt_z, eq_z, eq_o, le_o, o_le, lt_o, o_lt, eq_m1, eq_m2, m1_eq, m2_eq, m1_lt, m1_le, o_z, z_o, m1_z, m1_o, m2_z, m2_o, m2_m1, z_lz, z_lo, o_lz, o_ez, z_ez, z_eo, m2_lt, m2_le, leF, leT, ltF, ltT, eqF, eqT, bI_z, bI_o, sh1, sh0, not_true_eq_false, not_false_eq_true, ne_eq, Bool.true_eq_false, Bool.false_eq_true, true_and, and_true, false_and, and_false, l_2, l_3, l_4, l_5, l_6, l_7, l_8, l_9, l_10, l_11, l_12, l_13, l_14, l_15, l_16, l_17, l_18, l_19, l_20, l_21, l_22, l_23, l_24, l_25, l_26, l_27, l_28, l_29, l_30, l_32, l_33, l_34, l_35, l_36, l_37, l_38, l_39, l_50, l_60, l_99, l_100, l_150, l_160, l_240, l_250, l_300, l_400, l_402, l_403, l_420, l_500, l_600, l_840, l_1000, l_1024, l_2000, l_2047, l_2048, l_10000, l_25600, l_500000, r_h1 hR1]; done) | omega)) | ((with_reducible apply Ok.ifF); · (first | (simp (disch := omega) only [↓reduceIte, Option.bind_some, Sum.elim_inl, Sum.elim_inr, if_true, if_false, rd_nI, wr_nI, rd_z, rd_o, wr_z, wr_o, nI_1, nI_add, pk_mul, nI_leI, nI_ltI, nI_eq, z_le, le_z, z_lt, lt_z, eq_z, eq_o, le_o, o_le, lt_o, o_lt, eq_m1, eq_m2, m1_eq, m2_eq, m1_lt, m1_le, o_z, z_o, m1_z, m1_o, m2_z, m2_o, m2_m1, z_lz, z_lo, o_lz, o_ez, z_ez, z_eo, m2_lt, m2_le, leF, leT, ltF, ltT, eqF, eqT, bI_z, bI_o, sh1, sh0, not_true_eq_false, not_false_eq_true, ne_eq, Bool.true_eq_false, Bool.false_eq_true, true_and, and_true, false_and, and_false, l_2, l_3, l_4, l_5, l_6, l_7, l_8, l_9, l_10, l_11, l_12, l_13, l_14, l_15, l_16, l_17, l_18, l_19, l_20, l_21, l_22, l_23, l_24, l_25, l_26, l_27, l_28, l_29, l_30, l_32, l_33, l_34, l_35, l_36, l_37, l_38, l_39, l_50, l_60, l_99, l_100, l_150, l_160, l_240, l_250, l_300, l_400, l_402, l_403, l_420, l_500, l_600, l_840, l_1000, l_1024, l_2000, l_2047, l_2048, l_10000, l_25600, l_500000, r_h1 hR1]; done) | omega)) | with_reducible apply Ok.jnU | with_reducible apply Ok.letsU | with_reducible apply Ok.elL | with_reducible apply Ok.elR | ((with_reducible apply Ok.gdT); · exact bI_nar _)))
    refine Ok.inr ⟨d, k1, fun p hp => by rw [k2 p hp, if_pos hp], ?_⟩
    funext p
    rw [DDs_p]
    by_cases hp : p < 32
    · exact k3 p hp
    · rw [b_big (by omega)]
      have h1 : ¬ p < W 0 1 := by omega
      have h2 : ∀ h, DDs seed frail (W 0 1) h p = false := by
        intro h
        induction h with
        | zero => rfl
        | succ h ih => rw [DDs, ih]; simp [h1]
      have h3 : DDp seed frail (W 0 1) h p = false := by
        unfold DDp
        split
        · rfl
        · exact h2 _
      simp [h1, h3]
  rintro S1 ⟨d1, k1, k2, k3⟩
  have hR1 := X1_R hR d1
  -- places
  refine bindL (fun a q => q.1 = nI a ∧ Df (Xc 144) S1 q.2 ∧ (∀ j L, j ≠ h + 1 → j < 25 → KRow S1 (W 0 1) j L → KRow q.2 (W 0 1) j L) ∧ KRow q.2 (W 0 1) (h + 1) (fun p t => decide (Z.1 p t ≤ h) || anyN (fun a => wStand W (DDs seed frail (W 0 1) h) a h p && wWr W P N Z.2.1 h a t) a))
    (fun S2 => Df (Xc 144) S1 S2 ∧ (∀ j L, j ≠ h + 1 → j < 25 → KRow S1 (W 0 1) j L → KRow S2 (W 0 1) j L) ∧ KRow S2 (W 0 1) (h + 1) (fun p t => decide (Z.1 p t ≤ h) || anyN (fun k => wRead W P (DDs seed frail (W 0 1) h) Z.2.1 h k p t) N)) 0 (W 0 0) (Nat.zero_le _) (by omega) ⟨rfl, Df.refl _ _, fun _ _ _ _ x => x, k2.congr (fun p t _ _ => by simp [anyN])⟩ ?_ ?_ ?_
  · rintro a ⟨x, S2⟩ _ ha ⟨rfl, d2, f1, f2⟩
    dsimp only at d2 f1 f2 ⊢
    have hR2 := Xc_R hR1 d2 (by decide)
    have eD : bt (S2.1 95 61) = DDs seed frail (W 0 1) h := by rw [d2.2 95 61 rfl, k3]
    have e147 : S2.1 147 a = S.1 147 a := by rw [d2.2 147 a rfl, d1.2 147 a rfl]
    (repeat (first | ((with_reducible apply Ok.step); · ((try simp (disch := omega) only [↓reduceIte, Option.bind_some, Sum.elim_inl, Sum.elim_inr, if_true, if_false, rd_nI, wr_nI, rd_z, rd_o, wr_z, wr_o, nI_1, nI_add, pk_mul, nI_leI, nI_ltI, nI_eq, z_le, le_z, z_lt, lt_z, eq_z, eq_o, le_o, o_le, lt_o, o_lt, eq_m1, eq_m2, m1_eq, m2_eq, m1_lt, m1_le, o_z, z_o, m1_z, m1_o, m2_z, m2_o, m2_m1, z_lz, z_lo, o_lz, o_ez, z_ez, z_eo, m2_lt, m2_le, leF, leT, ltF, ltT, eqF, eqT, bI_z, bI_o, sh1, sh0, not_true_eq_false, not_false_eq_true, ne_eq, Bool.true_eq_false, Bool.false_eq_true, true_and, and_true, false_and, and_false, l_2, l_3, l_4, l_5, l_6, l_7, l_8, l_9, l_10, l_11, l_12, l_13, l_14, l_15, l_16, l_17, l_18, l_19, l_20, l_21, l_22, l_23, l_24, l_25, l_26, l_27, l_28, l_29, l_30, l_32, l_33, l_34, l_35, l_36, l_37, l_38, l_39, l_50, l_60, l_99, l_100, l_150, l_160, l_240, l_250, l_300, l_400, l_402, l_403, l_420, l_500, l_600, l_840, l_1000, l_1024, l_2000, l_2047, l_2048, l_10000, l_25600, l_500000, r_h0 hR2, r_crowdAt hR2 hW hn, eD, e147, r_learn hR2 hW hn]); with_reducible exact rfl)) | ((with_reducible apply Ok.ifT); · (first | (simp (disch := omega) only [↓reduceIte, Option.bind_some, Sum.elim_inl, Sum.elim_inr, if_true, if_false, rd_nI, wr_nI, rd_z, rd_o, wr_z, wr_o, nI_1, nI_add, pk_mul, nI_leI, nI_ltI, nI_eq, z_le, le_z, z_lt, lt_z, eq_z, eq_o, le_o, o_le, lt_o, o_lt, eq_m1, eq_m2, m1_eq, m2_eq, m1_lt, m1_le, o_z, z_o, m1_z, m1_o, m2_z, m2_o, m2_m1, z_lz, z_lo, o_lz, o_ez, z_ez, z_eo, m2_lt, m2_le, leF, leT, ltF, ltT, eqF, eqT, bI_z, bI_o, sh1, sh0, not_true_eq_false, not_false_eq_true, ne_eq, Bool.true_eq_false, Bool.false_eq_true, true_and, and_true, false_and, and_false, l_2, l_3, l_4, l_5, l_6, l_7, l_8, l_9, l_10, l_11, l_12, l_13, l_14, l_15, l_16, l_17, l_18, l_19, l_20, l_21, l_22, l_23, l_24, l_25, l_26, l_27, l_28, l_29, l_30, l_32, l_33, l_34, l_35, l_36, l_37, l_38, l_39, l_50, l_60, l_99, l_100, l_150, l_160, l_240, l_250, l_300, l_400, l_402, l_403, l_420, l_500, l_600, l_840, l_1000, l_1024, l_2000, l_2047, l_2048, l_10000, l_25600, l_500000, r_h0 hR2, r_crowdAt hR2 hW hn, eD, e147, r_learn hR2 hW hn]; done) | omega)) | ((with_reducible apply Ok.ifF); · (first | (simp (disch := omega) only [↓reduceIte, Option.bind_some, Sum.elim_inl, Sum.elim_inr, if_true, if_false, rd_nI, wr_nI, rd_z, rd_o, wr_z, wr_o, nI_1, nI_add, pk_mul, nI_leI, nI_ltI, nI_eq, z_le, le_z, z_lt, lt_z, eq_z, eq_o, le_o, o_le, lt_o, o_lt, eq_m1, eq_m2, m1_eq, m2_eq, m1_lt, m1_le, o_z, z_o, m1_z, m1_o, m2_z, m2_o, m2_m1, z_lz, z_lo, o_lz, o_ez, z_ez, z_eo, m2_lt, m2_le, leF, leT, ltF, ltT, eqF, eqT, bI_z, bI_o, sh1, sh0, not_true_eq_false, not_false_eq_true, ne_eq, Bool.true_eq_false, Bool.false_eq_true, true_and, and_true, false_and, and_false, l_2, l_3, l_4, l_5, l_6, l_7, l_8, l_9, l_10, l_11, l_12, l_13, l_14, l_15, l_16, l_17, l_18, l_19, l_20, l_21, l_22, l_23, l_24, l_25, l_26, l_27, l_28, l_29, l_30, l_32, l_33, l_34, l_35, l_36, l_37, l_38, l_39, l_50, l_60, l_99, l_100, l_150, l_160, l_240, l_250, l_300, l_400, l_402, l_403, l_420, l_500, l_600, l_840, l_1000, l_1024, l_2000, l_2047, l_2048, l_10000, l_25600, l_500000, r_h0 hR2, r_crowdAt hR2 hW hn, eD, e147, r_learn hR2 hW hn]; done) | omega)) | with_reducible apply Ok.jnU | with_reducible apply Ok.letsU | with_reducible apply Ok.elL | with_reducible apply Ok.elR | ((with_reducible apply Ok.gdT); · exact bI_nar _)))
    refine Ok.inl ⟨nI_1 _, d2.trans Xc_set, fun j L h1 h2 hL => (f1 j L h1 h2 hL).keep hm1 h1, ?_⟩
    refine KRow.learn f2 (fun p t _ z => ?_) (fun p t hp ht => ?_)
    · rw [b_and, b_63] at z
      simp at z
      exact z.2
    · rw [b_and, b_63, bt_lt (by omega) hp, wri a t (by omega) (by omega), if_pos ht]
      have : t < 12 := by omega
      simp only [anyN, ht, this, decide_true, Bool.and_true, Bool.true_and, Bool.or_assoc]
  · rintro ⟨x, S2⟩ ⟨rfl, d2, f1, f2⟩
    dsimp only at d2 f1 f2 ⊢
    have hR2 := Xc_R hR1 d2 (by decide)
    (repeat (first | ((with_reducible apply Ok.step); · ((try simp (disch := omega) only [↓reduceIte, Option.bind_some, Sum.elim_inl, Sum.elim_inr, if_true, if_false, rd_nI, wr_nI, rd_z, rd_o, wr_z, wr_o, nI_1, nI_add, pk_mul, nI_leI, nI_ltI, nI_eq, z_le, le_z, z_lt, lt_z, eq_z, eq_o, le_o, o_le, lt_o, o_lt, eq_m1, eq_m2, m1_eq, m2_eq, m1_lt, m1_le, o_z, z_o, m1_z, m1_o, m2_z, m2_o, m2_m1, z_lz, z_lo, o_lz, o_ez, z_ez, z_eo, m2_lt, m2_le, leF, leT, ltF, ltT, eqF, eqT, bI_z, bI_o, sh1, sh0, not_true_eq_false, not_false_eq_true, ne_eq, Bool.true_eq_false, Bool.false_eq_true, true_and, and_true, false_and, and_false, l_2, l_3, l_4, l_5, l_6, l_7, l_8, l_9, l_10, l_11, l_12, l_13, l_14, l_15, l_16, l_17, l_18, l_19, l_20, l_21, l_22, l_23, l_24, l_25, l_26, l_27, l_28, l_29, l_30, l_32, l_33, l_34, l_35, l_36, l_37, l_38, l_39, l_50, l_60, l_99, l_100, l_150, l_160, l_240, l_250, l_300, l_400, l_402, l_403, l_420, l_500, l_600, l_840, l_1000, l_1024, l_2000, l_2047, l_2048, l_10000, l_25600, l_500000, r_h0 hR2]); with_reducible exact rfl)) | ((with_reducible apply Ok.ifT); · (first | (simp (disch := omega) only [↓reduceIte, Option.bind_some, Sum.elim_inl, Sum.elim_inr, if_true, if_false, rd_nI, wr_nI, rd_z, rd_o, wr_z, wr_o, nI_1, nI_add, pk_mul, nI_leI, nI_ltI, nI_eq, z_le, le_z, z_lt, lt_z, eq_z, eq_o, le_o, o_le, lt_o, o_lt, eq_m1, eq_m2, m1_eq, m2_eq, m1_lt, m1_le, o_z, z_o, m1_z, m1_o, m2_z, m2_o, m2_m1, z_lz, z_lo, o_lz, o_ez, z_ez, z_eo, m2_lt, m2_le, leF, leT, ltF, ltT, eqF, eqT, bI_z, bI_o, sh1, sh0, not_true_eq_false, not_false_eq_true, ne_eq, Bool.true_eq_false, Bool.false_eq_true, true_and, and_true, false_and, and_false, l_2, l_3, l_4, l_5, l_6, l_7, l_8, l_9, l_10, l_11, l_12, l_13, l_14, l_15, l_16, l_17, l_18, l_19, l_20, l_21, l_22, l_23, l_24, l_25, l_26, l_27, l_28, l_29, l_30, l_32, l_33, l_34, l_35, l_36, l_37, l_38, l_39, l_50, l_60, l_99, l_100, l_150, l_160, l_240, l_250, l_300, l_400, l_402, l_403, l_420, l_500, l_600, l_840, l_1000, l_1024, l_2000, l_2047, l_2048, l_10000, l_25600, l_500000, r_h0 hR2]; done) | omega)) | ((with_reducible apply Ok.ifF); · (first | (simp (disch := omega) only [↓reduceIte, Option.bind_some, Sum.elim_inl, Sum.elim_inr, if_true, if_false, rd_nI, wr_nI, rd_z, rd_o, wr_z, wr_o, nI_1, nI_add, pk_mul, nI_leI, nI_ltI, nI_eq, z_le, le_z, z_lt, lt_z, eq_z, eq_o, le_o, o_le, lt_o, o_lt, eq_m1, eq_m2, m1_eq, m2_eq, m1_lt, m1_le, o_z, z_o, m1_z, m1_o, m2_z, m2_o, m2_m1, z_lz, z_lo, o_lz, o_ez, z_ez, z_eo, m2_lt, m2_le, leF, leT, ltF, ltT, eqF, eqT, bI_z, bI_o, sh1, sh0, not_true_eq_false, not_false_eq_true, ne_eq, Bool.true_eq_false, Bool.false_eq_true, true_and, and_true, false_and, and_false, l_2, l_3, l_4, l_5, l_6, l_7, l_8, l_9, l_10, l_11, l_12, l_13, l_14, l_15, l_16, l_17, l_18, l_19, l_20, l_21, l_22, l_23, l_24, l_25, l_26, l_27, l_28, l_29, l_30, l_32, l_33, l_34, l_35, l_36, l_37, l_38, l_39, l_50, l_60, l_99, l_100, l_150, l_160, l_240, l_250, l_300, l_400, l_402, l_403, l_420, l_500, l_600, l_840, l_1000, l_1024, l_2000, l_2047, l_2048, l_10000, l_25600, l_500000, r_h0 hR2]; done) | omega)) | with_reducible apply Ok.jnU | with_reducible apply Ok.letsU | with_reducible apply Ok.elL | with_reducible apply Ok.elR | ((with_reducible apply Ok.gdT); · exact bI_nar _)))
    refine Ok.inr ⟨d2, f1, f2.congr (fun p t _ _ => ?_)⟩
    rw [wRead_wr hW (fun x => ?_)]
    simp [wOn] at x
    omega
  rintro S2 ⟨d2, f1, f2⟩
  have d02 : Df XG S S2 := (X1_XG d1).trans (d2.mono (fun a j hx => by
    simp only [XG, XD, Bool.or_eq_false_iff] at hx
    exact hx.1.2.1))
  have eD2 : bt (S2.1 95 61) = DDs seed frail (W 0 1) h := by rw [d2.2 95 61 rfl, k3]
  have rows2 : ∀ j L, j ≠ h + 1 → j < 25 → KRow S (W 0 1) j L → KRow S2 (W 0 1) j L := fun j L h1 h2 hL => f1 j L h1 h2 (fun p hp => by rw [k1 j p h1 h2 hp]; exact hL p hp)
  have e145 : ∀ k, S2.1 145 k = S.1 145 k := fun k => by rw [d2.2 145 k rfl, d1.2 145 k rfl]
  have e146 : ∀ k, S2.1 146 k = S.1 146 k := fun k => by rw [d2.2 146 k rfl, d1.2 146 k rfl]
  have e147 : ∀ k, S2.1 147 k = S.1 147 k := fun k => by rw [d2.2 147 k rfl, d1.2 147 k rfl]
  have hKh : KRow S2 (W 0 1) h (fun p t => decide (Z.1 p t ≤ h)) := rows2 h _ (by omega) (by omega) (rows h (Nat.le_refl _))
  -- doings
  refine bindL (fun i q => q.1 = nI i ∧ RS3 W V P N (bt (S2.1 95 61)) h Z.1 (fun p t => decide (Z.1 p t ≤ h) || anyN (fun k => wRead W P (DDs seed frail (W 0 1) h) Z.2.1 h k p t) N) Z.2.2 S2 i q.2)
    (fun S3 => RS3 W V P N (bt (S2.1 95 61)) h Z.1 (fun p t => decide (Z.1 p t ≤ h) || anyN (fun k => wRead W P (DDs seed frail (W 0 1) h) Z.2.1 h k p t) N) Z.2.2 S2 N S3) 0 N (Nat.zero_le _) (by omega) ⟨rfl, Df.refl _ _, fun _ _ _ _ x => x, f2.congr (fun p t _ _ => by simp [anyN]), fun k _ => by rw [if_neg (by omega)], fun s o t h1 h2 h3 => ?_, fun a b _ _ => by simp [anyN]⟩ ?_ ?_ ?_
  · dsimp only
    rw [e146, seen s o t h1 h2 h3]
    rcases hU s o t with hu | hu
    · rw [if_pos hu]
    · rw [if_neg (by omega), hu]; simp [anyN]
  · rintro i ⟨x, S3⟩ _ hi ⟨rfl, H3⟩
    dsimp only at H3 ⊢
    have hR3 := XF_R (XG_R hR d02) H3.1
    have hL3 := XG_L (XG_L hL d02) (XF_XG H3.1)
    have hP3 := XG_P (XG_P hP d02) (XF_XG H3.1)
    have b1 := (hP3.2 i hi).2.1
    have b2 := hP3.1
    refine Ok.ifF (by simp (disch := omega) only [↓reduceIte, Option.bind_some, jn, lets, Sum.elim_inl, Sum.elim_inr, if_true, if_false, rd_nI, wr_nI, rd_z, rd_o, wr_z, wr_o, nI_1, nI_add, pk_mul, nI_leI, nI_ltI, nI_eq, z_le, le_z, z_lt, lt_z, eq_z, eq_o, le_o, o_le, lt_o, o_lt, eq_m1, eq_m2, m1_eq, m2_eq, m1_lt, m1_le, o_z, z_o, m1_z, m1_o, m2_z, m2_o, m2_m1, z_lz, z_lo, o_lz, o_ez, z_ez, z_eo, m2_lt, m2_le, leF, leT, ltF, ltT, eqF, eqT, bI_z, bI_o, sh1, sh0, not_true_eq_false, not_false_eq_true, ne_eq, Bool.true_eq_false, Bool.false_eq_true, true_and, and_true, false_and, and_false, l_2, l_3, l_4, l_5, l_6, l_7, l_8, l_9, l_10, l_11, l_12, l_13, l_14, l_15, l_16, l_17, l_18, l_19, l_20, l_21, l_22, l_23, l_24, l_25, l_26, l_27, l_28, l_29, l_30, l_32, l_33, l_34, l_35, l_36, l_37, l_38, l_39, l_50, l_60, l_99, l_100, l_150, l_160, l_240, l_250, l_300, l_400, l_402, l_403, l_420, l_500, l_600, l_840, l_1000, l_1024, l_2000, l_2047, l_2048, l_10000, l_25600, l_500000, b2]) ?_
    apply Ok.step (x := nI (P 1 i)) (by simp (disch := omega) only [↓reduceIte, Option.bind_some, jn, lets, Sum.elim_inl, Sum.elim_inr, if_true, if_false, rd_nI, wr_nI, rd_z, rd_o, wr_z, wr_o, nI_1, nI_add, pk_mul, nI_leI, nI_ltI, nI_eq, z_le, le_z, z_lt, lt_z, eq_z, eq_o, le_o, o_le, lt_o, o_lt, eq_m1, eq_m2, m1_eq, m2_eq, m1_lt, m1_le, o_z, z_o, m1_z, m1_o, m2_z, m2_o, m2_m1, z_lz, z_lo, o_lz, o_ez, z_ez, z_eo, m2_lt, m2_le, leF, leT, ltF, ltT, eqF, eqT, bI_z, bI_o, sh1, sh0, not_true_eq_false, not_false_eq_true, ne_eq, Bool.true_eq_false, Bool.false_eq_true, true_and, and_true, false_and, and_false, l_2, l_3, l_4, l_5, l_6, l_7, l_8, l_9, l_10, l_11, l_12, l_13, l_14, l_15, l_16, l_17, l_18, l_19, l_20, l_21, l_22, l_23, l_24, l_25, l_26, l_27, l_28, l_29, l_30, l_32, l_33, l_34, l_35, l_36, l_37, l_38, l_39, l_50, l_60, l_99, l_100, l_150, l_160, l_240, l_250, l_300, l_400, l_402, l_403, l_420, l_500, l_600, l_840, l_1000, l_1024, l_2000, l_2047, l_2048, l_10000, l_25600, l_500000, b1])
    apply Ok.jnU
    exact r_doing1 hR3 hW hL3 hn hP3 hPW hh hi hU hKh H3 (J := fun S37 => some (.inl (nI i + 1, S37))) (fun S' H' => Ok.inl ⟨nI_1 _, H'⟩)
  · rintro ⟨x, S3⟩ ⟨rfl, H3⟩
    dsimp only at H3 ⊢
    have b2 := (XG_P (XG_P hP d02) (XF_XG H3.1)).1
    refine Ok.ifT (by simp (disch := omega) only [↓reduceIte, Option.bind_some, jn, lets, Sum.elim_inl, Sum.elim_inr, if_true, if_false, rd_nI, wr_nI, rd_z, rd_o, wr_z, wr_o, nI_1, nI_add, pk_mul, nI_leI, nI_ltI, nI_eq, z_le, le_z, z_lt, lt_z, eq_z, eq_o, le_o, o_le, lt_o, o_lt, eq_m1, eq_m2, m1_eq, m2_eq, m1_lt, m1_le, o_z, z_o, m1_z, m1_o, m2_z, m2_o, m2_m1, z_lz, z_lo, o_lz, o_ez, z_ez, z_eo, m2_lt, m2_le, leF, leT, ltF, ltT, eqF, eqT, bI_z, bI_o, sh1, sh0, not_true_eq_false, not_false_eq_true, ne_eq, Bool.true_eq_false, Bool.false_eq_true, true_and, and_true, false_and, and_false, l_2, l_3, l_4, l_5, l_6, l_7, l_8, l_9, l_10, l_11, l_12, l_13, l_14, l_15, l_16, l_17, l_18, l_19, l_20, l_21, l_22, l_23, l_24, l_25, l_26, l_27, l_28, l_29, l_30, l_32, l_33, l_34, l_35, l_36, l_37, l_38, l_39, l_50, l_60, l_99, l_100, l_150, l_160, l_240, l_250, l_300, l_400, l_402, l_403, l_420, l_500, l_600, l_840, l_1000, l_1024, l_2000, l_2047, l_2048, l_10000, l_25600, l_500000, b2]) ?_
    exact Ok.inr H3
  rintro S3 ⟨d3, g1, g2, g3, g4, g5⟩
  rw [eD2] at g2 g3 g4 g5
  -- what is written
  apply Ok.step (loopMap 147 0 6 (fun a => S3.1 147 a ||| (S3.1 147 a >>> ((nI 6) &&& 31))) (by omega) (fun i S4 hi d e => Or.inl (Ok.e ?_)) (fun S4 d => Ok.e ?_))
  rotate_left
  · rw [Nat.zero_add] at e ⊢
    (repeat (first | ((with_reducible apply Ok.step); · ((try simp (disch := omega) only [↓reduceIte, Option.bind_some, Sum.elim_inl, Sum.elim_inr, if_true, if_false, rd_nI, wr_nI, rd_z, rd_o, wr_z, wr_o, nI_1, nI_add, pk_mul, nI_leI, nI_ltI, nI_eq, z_le, le_z, z_lt, lt_z, eq_z, eq_o, le_o, o_le, lt_o, o_lt, eq_m1, eq_m2, m1_eq, m2_eq, m1_lt, m1_le, o_z, z_o, m1_z, m1_o, m2_z, m2_o, m2_m1, z_lz, z_lo, o_lz, o_ez, z_ez, z_eo, m2_lt, m2_le, leF, leT, ltF, ltT, eqF, eqT, bI_z, bI_o, sh1, sh0, not_true_eq_false, not_false_eq_true, ne_eq, Bool.true_eq_false, Bool.false_eq_true, true_and, and_true, false_and, and_false, l_2, l_3, l_4, l_5, l_6, l_7, l_8, l_9, l_10, l_11, l_12, l_13, l_14, l_15, l_16, l_17, l_18, l_19, l_20, l_21, l_22, l_23, l_24, l_25, l_26, l_27, l_28, l_29, l_30, l_32, l_33, l_34, l_35, l_36, l_37, l_38, l_39, l_50, l_60, l_99, l_100, l_150, l_160, l_240, l_250, l_300, l_400, l_402, l_403, l_420, l_500, l_600, l_840, l_1000, l_1024, l_2000, l_2047, l_2048, l_10000, l_25600, l_500000, e]); with_reducible exact rfl)) | ((with_reducible apply Ok.ifT); · (first | (simp (disch := omega) only [↓reduceIte, Option.bind_some, Sum.elim_inl, Sum.elim_inr, if_true, if_false, rd_nI, wr_nI, rd_z, rd_o, wr_z, wr_o, nI_1, nI_add, pk_mul, nI_leI, nI_ltI, nI_eq, z_le, le_z, z_lt, lt_z, eq_z, eq_o, le_o, o_le, lt_o, o_lt, eq_m1, eq_m2, m1_eq, m2_eq, m1_lt, m1_le, o_z, z_o, m1_z, m1_o, m2_z, m2_o, m2_m1, z_lz, z_lo, o_lz, o_ez, z_ez, z_eo, m2_lt, m2_le, leF, leT, ltF, ltT, eqF, eqT, bI_z, bI_o, sh1, sh0, not_true_eq_false, not_false_eq_true, ne_eq, Bool.true_eq_false, Bool.false_eq_true, true_and, and_true, false_and, and_false, l_2, l_3, l_4, l_5, l_6, l_7, l_8, l_9, l_10, l_11, l_12, l_13, l_14, l_15, l_16, l_17, l_18, l_19, l_20, l_21, l_22, l_23, l_24, l_25, l_26, l_27, l_28, l_29, l_30, l_32, l_33, l_34, l_35, l_36, l_37, l_38, l_39, l_50, l_60, l_99, l_100, l_150, l_160, l_240, l_250, l_300, l_400, l_402, l_403, l_420, l_500, l_600, l_840, l_1000, l_1024, l_2000, l_2047, l_2048, l_10000, l_25600, l_500000, e]; done) | omega)) | ((with_reducible apply Ok.ifF); · (first | (simp (disch := omega) only [↓reduceIte, Option.bind_some, Sum.elim_inl, Sum.elim_inr, if_true, if_false, rd_nI, wr_nI, rd_z, rd_o, wr_z, wr_o, nI_1, nI_add, pk_mul, nI_leI, nI_ltI, nI_eq, z_le, le_z, z_lt, lt_z, eq_z, eq_o, le_o, o_le, lt_o, o_lt, eq_m1, eq_m2, m1_eq, m2_eq, m1_lt, m1_le, o_z, z_o, m1_z, m1_o, m2_z, m2_o, m2_m1, z_lz, z_lo, o_lz, o_ez, z_ez, z_eo, m2_lt, m2_le, leF, leT, ltF, ltT, eqF, eqT, bI_z, bI_o, sh1, sh0, not_true_eq_false, not_false_eq_true, ne_eq, Bool.true_eq_false, Bool.false_eq_true, true_and, and_true, false_and, and_false, l_2, l_3, l_4, l_5, l_6, l_7, l_8, l_9, l_10, l_11, l_12, l_13, l_14, l_15, l_16, l_17, l_18, l_19, l_20, l_21, l_22, l_23, l_24, l_25, l_26, l_27, l_28, l_29, l_30, l_32, l_33, l_34, l_35, l_36, l_37, l_38, l_39, l_50, l_60, l_99, l_100, l_150, l_160, l_240, l_250, l_300, l_400, l_402, l_403, l_420, l_500, l_600, l_840, l_1000, l_1024, l_2000, l_2047, l_2048, l_10000, l_25600, l_500000, e]; done) | omega)) | with_reducible apply Ok.jnU | with_reducible apply Ok.letsU | with_reducible apply Ok.elL | with_reducible apply Ok.elR | ((with_reducible apply Ok.gdT); · exact bI_nar _)))
    exact Ok.ret (by rw [nI_1])
  · (repeat (first | ((with_reducible apply Ok.step); · ((try simp (disch := omega) only [↓reduceIte, Option.bind_some, Sum.elim_inl, Sum.elim_inr, if_true, if_false, rd_nI, wr_nI, rd_z, rd_o, wr_z, wr_o, nI_1, nI_add, pk_mul, nI_leI, nI_ltI, nI_eq, z_le, le_z, z_lt, lt_z, eq_z, eq_o, le_o, o_le, lt_o, o_lt, eq_m1, eq_m2, m1_eq, m2_eq, m1_lt, m1_le, o_z, z_o, m1_z, m1_o, m2_z, m2_o, m2_m1, z_lz, z_lo, o_lz, o_ez, z_ez, z_eo, m2_lt, m2_le, leF, leT, ltF, ltT, eqF, eqT, bI_z, bI_o, sh1, sh0, not_true_eq_false, not_false_eq_true, ne_eq, Bool.true_eq_false, Bool.false_eq_true, true_and, and_true, false_and, and_false, l_2, l_3, l_4, l_5, l_6, l_7, l_8, l_9, l_10, l_11, l_12, l_13, l_14, l_15, l_16, l_17, l_18, l_19, l_20, l_21, l_22, l_23, l_24, l_25, l_26, l_27, l_28, l_29, l_30, l_32, l_33, l_34, l_35, l_36, l_37, l_38, l_39, l_50, l_60, l_99, l_100, l_150, l_160, l_240, l_250, l_300, l_400, l_402, l_403, l_420, l_500, l_600, l_840, l_1000, l_1024, l_2000, l_2047, l_2048, l_10000, l_25600, l_500000]); with_reducible exact rfl)) | ((with_reducible apply Ok.ifT); · (first | (simp (disch := omega) only [↓reduceIte, Option.bind_some, Sum.elim_inl, Sum.elim_inr, if_true, if_false, rd_nI, wr_nI, rd_z, rd_o, wr_z, wr_o, nI_1, nI_add, pk_mul, nI_leI, nI_ltI, nI_eq, z_le, le_z, z_lt, lt_z, eq_z, eq_o, le_o, o_le, lt_o, o_lt, eq_m1, eq_m2, m1_eq, m2_eq, m1_lt, m1_le, o_z, z_o, m1_z, m1_o, m2_z, m2_o, m2_m1, z_lz, z_lo, o_lz, o_ez, z_ez, z_eo, m2_lt, m2_le, leF, leT, ltF, ltT, eqF, eqT, bI_z, bI_o, sh1, sh0, not_true_eq_false, not_false_eq_true, ne_eq, Bool.true_eq_false, Bool.false_eq_true, true_and, and_true, false_and, and_false, l_2, l_3, l_4, l_5, l_6, l_7, l_8, l_9, l_10, l_11, l_12, l_13, l_14, l_15, l_16, l_17, l_18, l_19, l_20, l_21, l_22, l_23, l_24, l_25, l_26, l_27, l_28, l_29, l_30, l_32, l_33, l_34, l_35, l_36, l_37, l_38, l_39, l_50, l_60, l_99, l_100, l_150, l_160, l_240, l_250, l_300, l_400, l_402, l_403, l_420, l_500, l_600, l_840, l_1000, l_1024, l_2000, l_2047, l_2048, l_10000, l_25600, l_500000]; done) | omega)) | ((with_reducible apply Ok.ifF); · (first | (simp (disch := omega) only [↓reduceIte, Option.bind_some, Sum.elim_inl, Sum.elim_inr, if_true, if_false, rd_nI, wr_nI, rd_z, rd_o, wr_z, wr_o, nI_1, nI_add, pk_mul, nI_leI, nI_ltI, nI_eq, z_le, le_z, z_lt, lt_z, eq_z, eq_o, le_o, o_le, lt_o, o_lt, eq_m1, eq_m2, m1_eq, m2_eq, m1_lt, m1_le, o_z, z_o, m1_z, m1_o, m2_z, m2_o, m2_m1, z_lz, z_lo, o_lz, o_ez, z_ez, z_eo, m2_lt, m2_le, leF, leT, ltF, ltT, eqF, eqT, bI_z, bI_o, sh1, sh0, not_true_eq_false, not_false_eq_true, ne_eq, Bool.true_eq_false, Bool.false_eq_true, true_and, and_true, false_and, and_false, l_2, l_3, l_4, l_5, l_6, l_7, l_8, l_9, l_10, l_11, l_12, l_13, l_14, l_15, l_16, l_17, l_18, l_19, l_20, l_21, l_22, l_23, l_24, l_25, l_26, l_27, l_28, l_29, l_30, l_32, l_33, l_34, l_35, l_36, l_37, l_38, l_39, l_50, l_60, l_99, l_100, l_150, l_160, l_240, l_250, l_300, l_400, l_402, l_403, l_420, l_500, l_600, l_840, l_1000, l_1024, l_2000, l_2047, l_2048, l_10000, l_25600, l_500000]; done) | omega)) | with_reducible apply Ok.jnU | with_reducible apply Ok.letsU | with_reducible apply Ok.elL | with_reducible apply Ok.elR | ((with_reducible apply Ok.gdT); · exact bI_nar _)))
    exact Ok.ret rfl
  have d4 : Df (Xc 147) S3 (setC S3 147 (mixF (S3.1 147) (fun a => S3.1 147 a ||| (S3.1 147 a >>> ((nI 6) &&& 31))) 0 6)) := Xc_set
  rw [nI_1]
  refine Ok.ret (hg _ ((d02.trans (XF_XG d3)).trans (d4.mono (fun a j hx => ?_))) ⟨?_, ?_, ?_, ?_, ?_, ?_⟩)
  · simp only [XG, XD, Bool.or_eq_false_iff] at hx
    exact hx.1.2.2.2
  · intro j hj
    refine KRow.df ?_ d4 (fun _ => rfl)
    by_cases e : j = h + 1
    · subst e
      refine g2.congr (fun p t _ _ => ?_)
      have e1 : (anyN (fun k => wRead W P (DDs seed frail (W 0 1) h) Z.2.1 h k p t) N || anyN (qA W V P (DDs seed frail (W 0 1) h) h Z.1 p t) N) = anyN (qF W V P (DDs seed frail (W 0 1) h) h Z.1 Z.2.1 p t) N := by
        rw [Bool.or_comm, anyN_or]; rfl
      rw [Bool.or_assoc, e1]
      rw [Bool.eq_iff_iff, decide_eq_true_eq, Bool.or_eq_true, decide_eq_true_eq]
      unfold sF
      dsimp only
      rcases hF p t with z | z
      · rw [if_pos z]
        exact ⟨fun _ => by omega, fun _ => Or.inl z⟩
      · rw [if_neg (by omega)]
        by_cases c : anyN (qF W V P (DDs seed frail (W 0 1) h) h Z.1 Z.2.1 p t) N = true
        · rw [if_pos c]
          exact ⟨fun _ => Nat.le_refl _, fun _ => Or.inr c⟩
        · rw [if_neg c]
          exact ⟨fun x => by rcases x with x | x; omega; exact absurd x c, fun x => by omega⟩
    · refine (g1 j e (by omega) _ (rows2 j _ e (by omega) (rows j (by omega)))).congr (fun p t _ _ => ?_)
      unfold sF
      dsimp only
      apply decide_eq_decide.mpr
      rcases hF p t with z | z
      · rw [if_pos z]
      · rw [if_neg (by omega)]
        split <;> omega
  · intro j hj1 hj2
    exact (g1 j (by omega) hj2 _ (rows2 j _ (by omega) hj2 (rows0 j (by omega) hj2))).df d4 (fun _ => rfl)
  · intro k hk hk2
    rw [d4.2 145 k rfl, g3 k hk]
    unfold sY
    dsimp only
    by_cases c : P 1 k = h
    · rw [if_pos ⟨hk, c⟩, if_pos c]
    · rw [if_neg (fun x => c x.2), if_neg c, e145]
      exact why k hk (by omega)
  · intro s o t h1 h2 h3
    rw [d4.2 146 _ rfl]
    exact g4 s o t h1 h2 h3
  · intro a b ha hb
    rw [setC_eq, mixF_in (by omega) (by omega), b_or, b_sshr 6 (by decide) _ hb, wWr_succ]
    have g5' : ∀ b, b < 32 → bt (S3.1 147 a) b = (decide (b < 12) && (wWr W P N Z.2.1 h a (if b < 6 then b else b - 6) || (decide (6 ≤ b) && anyN (qB W V P (DDs seed frail (W 0 1) h) h Z.1 a (b - 6)) N))) := by
      intro b hb
      rw [g5 a b ha hb, e147, wri a b ha hb]
      by_cases c : b < 12 <;> simp [c]
    rw [g5' b hb]
    by_cases c1 : b < 6
    · rw [g5' (6 + b) (by omega)]
      have c2 : b < 12 := by omega
      have c3 : 6 + b < 12 := by omega
      have c4 : ¬ 6 + b < 6 := by omega
      have c5 : ¬ 6 ≤ b := by omega
      have c6 : 6 ≤ 6 + b := by omega
      have c7 : 6 + b - 6 = b := by omega
      have c8 : 6 + b < 32 := by omega
      simp only [c8, c1, c2, c3, c4, c5, c6, c7, if_true, if_false, decide_true, decide_false, Bool.true_and, Bool.false_and, Bool.or_false]
      cases wWr W P N Z.2.1 h a b <;> rfl
    · have c5 : 6 ≤ b := by omega
      have z1 : (if 6 + b < 32 then bt (S3.1 147 a) (6 + b) else bt (S3.1 147 a) 31) = false := by
        split
        · rw [g5' _ (by omega), decide_eq_false (by omega)]; rfl
        · rw [g5' _ (by omega), decide_eq_false (by omega)]; rfl
      rw [z1, Bool.or_false]
      simp only [c1, c5, if_false, decide_true, Bool.true_and]
  · rw [d4.2 95 61 rfl, d3.2 95 61 rfl, eD2]
theorem r_goes (hR : RRep W sd S) (hW : WF W) (hL : RLw V W sd S) (hn : 30000 ≤ n) (hP : PRef P N S) (hPW : PWF W P N) {seed frail : Int32} (hse : S.1 95 72 = seed) (hfa : S.1 95 73 = frail) :
    Ok (E_X12_goes n S) (fun S' => Df XG S S' ∧ RH W P N 24 (cSt W V P N (DDs seed frail (W 0 1)) 24) (DDs seed frail (W 0 1) 23) S') := by
  have hm1 : W 0 1 ≤ 10 := hW.mx (k := 1) (by decide)
  have hm0 : W 0 0 ≤ 6 := hW.mx (k := 0) (by decide)
  unfold E_X12_goes
  obtain ⟨S2, e2, d2, k0, k1⟩ := r_starts hR hW hn
  apply Ok.step e2
  apply Ok.letsU
  apply Ok.step (loopMap 146 0 600 (fun _ => nI 99) (by omega) (fun i S4 hi d e => Or.inl (Ok.e ?_)) (fun S4 d => Ok.e ?_))
  rotate_left
  · (repeat (first | ((with_reducible apply Ok.step); · ((try simp (disch := omega) only [↓reduceIte, Option.bind_some, Sum.elim_inl, Sum.elim_inr, if_true, if_false, rd_nI, wr_nI, rd_z, rd_o, wr_z, wr_o, nI_1, nI_add, pk_mul, nI_leI, nI_ltI, nI_eq, z_le, le_z, z_lt, lt_z, eq_z, eq_o, le_o, o_le, lt_o, o_lt, eq_m1, eq_m2, m1_eq, m2_eq, m1_lt, m1_le, o_z, z_o, m1_z, m1_o, m2_z, m2_o, m2_m1, z_lz, z_lo, o_lz, o_ez, z_ez, z_eo, m2_lt, m2_le, leF, leT, ltF, ltT, eqF, eqT, bI_z, bI_o, sh1, sh0, not_true_eq_false, not_false_eq_true, ne_eq, Bool.true_eq_false, Bool.false_eq_true, true_and, and_true, false_and, and_false, l_2, l_3, l_4, l_5, l_6, l_7, l_8, l_9, l_10, l_11, l_12, l_13, l_14, l_15, l_16, l_17, l_18, l_19, l_20, l_21, l_22, l_23, l_24, l_25, l_26, l_27, l_28, l_29, l_30, l_32, l_33, l_34, l_35, l_36, l_37, l_38, l_39, l_50, l_60, l_99, l_100, l_150, l_160, l_240, l_250, l_300, l_400, l_402, l_403, l_420, l_500, l_600, l_840, l_1000, l_1024, l_2000, l_2047, l_2048, l_10000, l_25600, l_500000]); with_reducible exact rfl)) | ((with_reducible apply Ok.ifT); · (first | (simp (disch := omega) only [↓reduceIte, Option.bind_some, Sum.elim_inl, Sum.elim_inr, if_true, if_false, rd_nI, wr_nI, rd_z, rd_o, wr_z, wr_o, nI_1, nI_add, pk_mul, nI_leI, nI_ltI, nI_eq, z_le, le_z, z_lt, lt_z, eq_z, eq_o, le_o, o_le, lt_o, o_lt, eq_m1, eq_m2, m1_eq, m2_eq, m1_lt, m1_le, o_z, z_o, m1_z, m1_o, m2_z, m2_o, m2_m1, z_lz, z_lo, o_lz, o_ez, z_ez, z_eo, m2_lt, m2_le, leF, leT, ltF, ltT, eqF, eqT, bI_z, bI_o, sh1, sh0, not_true_eq_false, not_false_eq_true, ne_eq, Bool.true_eq_false, Bool.false_eq_true, true_and, and_true, false_and, and_false, l_2, l_3, l_4, l_5, l_6, l_7, l_8, l_9, l_10, l_11, l_12, l_13, l_14, l_15, l_16, l_17, l_18, l_19, l_20, l_21, l_22, l_23, l_24, l_25, l_26, l_27, l_28, l_29, l_30, l_32, l_33, l_34, l_35, l_36, l_37, l_38, l_39, l_50, l_60, l_99, l_100, l_150, l_160, l_240, l_250, l_300, l_400, l_402, l_403, l_420, l_500, l_600, l_840, l_1000, l_1024, l_2000, l_2047, l_2048, l_10000, l_25600, l_500000]; done) | omega)) | ((with_reducible apply Ok.ifF); · (first | (simp (disch := omega) only [↓reduceIte, Option.bind_some, Sum.elim_inl, Sum.elim_inr, if_true, if_false, rd_nI, wr_nI, rd_z, rd_o, wr_z, wr_o, nI_1, nI_add, pk_mul, nI_leI, nI_ltI, nI_eq, z_le, le_z, z_lt, lt_z, eq_z, eq_o, le_o, o_le, lt_o, o_lt, eq_m1, eq_m2, m1_eq, m2_eq, m1_lt, m1_le, o_z, z_o, m1_z, m1_o, m2_z, m2_o, m2_m1, z_lz, z_lo, o_lz, o_ez, z_ez, z_eo, m2_lt, m2_le, leF, leT, ltF, ltT, eqF, eqT, bI_z, bI_o, sh1, sh0, not_true_eq_false, not_false_eq_true, ne_eq, Bool.true_eq_false, Bool.false_eq_true, true_and, and_true, false_and, and_false, l_2, l_3, l_4, l_5, l_6, l_7, l_8, l_9, l_10, l_11, l_12, l_13, l_14, l_15, l_16, l_17, l_18, l_19, l_20, l_21, l_22, l_23, l_24, l_25, l_26, l_27, l_28, l_29, l_30, l_32, l_33, l_34, l_35, l_36, l_37, l_38, l_39, l_50, l_60, l_99, l_100, l_150, l_160, l_240, l_250, l_300, l_400, l_402, l_403, l_420, l_500, l_600, l_840, l_1000, l_1024, l_2000, l_2047, l_2048, l_10000, l_25600, l_500000]; done) | omega)) | with_reducible apply Ok.jnU | with_reducible apply Ok.letsU | with_reducible apply Ok.elL | with_reducible apply Ok.elR | ((with_reducible apply Ok.gdT); · exact bI_nar _)))
    exact Ok.ret (by rw [nI_1, Nat.zero_add])
  · (repeat (first | ((with_reducible apply Ok.step); · ((try simp (disch := omega) only [↓reduceIte, Option.bind_some, Sum.elim_inl, Sum.elim_inr, if_true, if_false, rd_nI, wr_nI, rd_z, rd_o, wr_z, wr_o, nI_1, nI_add, pk_mul, nI_leI, nI_ltI, nI_eq, z_le, le_z, z_lt, lt_z, eq_z, eq_o, le_o, o_le, lt_o, o_lt, eq_m1, eq_m2, m1_eq, m2_eq, m1_lt, m1_le, o_z, z_o, m1_z, m1_o, m2_z, m2_o, m2_m1, z_lz, z_lo, o_lz, o_ez, z_ez, z_eo, m2_lt, m2_le, leF, leT, ltF, ltT, eqF, eqT, bI_z, bI_o, sh1, sh0, not_true_eq_false, not_false_eq_true, ne_eq, Bool.true_eq_false, Bool.false_eq_true, true_and, and_true, false_and, and_false, l_2, l_3, l_4, l_5, l_6, l_7, l_8, l_9, l_10, l_11, l_12, l_13, l_14, l_15, l_16, l_17, l_18, l_19, l_20, l_21, l_22, l_23, l_24, l_25, l_26, l_27, l_28, l_29, l_30, l_32, l_33, l_34, l_35, l_36, l_37, l_38, l_39, l_50, l_60, l_99, l_100, l_150, l_160, l_240, l_250, l_300, l_400, l_402, l_403, l_420, l_500, l_600, l_840, l_1000, l_1024, l_2000, l_2047, l_2048, l_10000, l_25600, l_500000]); with_reducible exact rfl)) | ((with_reducible apply Ok.ifT); · (first | (simp (disch := omega) only [↓reduceIte, Option.bind_some, Sum.elim_inl, Sum.elim_inr, if_true, if_false, rd_nI, wr_nI, rd_z, rd_o, wr_z, wr_o, nI_1, nI_add, pk_mul, nI_leI, nI_ltI, nI_eq, z_le, le_z, z_lt, lt_z, eq_z, eq_o, le_o, o_le, lt_o, o_lt, eq_m1, eq_m2, m1_eq, m2_eq, m1_lt, m1_le, o_z, z_o, m1_z, m1_o, m2_z, m2_o, m2_m1, z_lz, z_lo, o_lz, o_ez, z_ez, z_eo, m2_lt, m2_le, leF, leT, ltF, ltT, eqF, eqT, bI_z, bI_o, sh1, sh0, not_true_eq_false, not_false_eq_true, ne_eq, Bool.true_eq_false, Bool.false_eq_true, true_and, and_true, false_and, and_false, l_2, l_3, l_4, l_5, l_6, l_7, l_8, l_9, l_10, l_11, l_12, l_13, l_14, l_15, l_16, l_17, l_18, l_19, l_20, l_21, l_22, l_23, l_24, l_25, l_26, l_27, l_28, l_29, l_30, l_32, l_33, l_34, l_35, l_36, l_37, l_38, l_39, l_50, l_60, l_99, l_100, l_150, l_160, l_240, l_250, l_300, l_400, l_402, l_403, l_420, l_500, l_600, l_840, l_1000, l_1024, l_2000, l_2047, l_2048, l_10000, l_25600, l_500000]; done) | omega)) | ((with_reducible apply Ok.ifF); · (first | (simp (disch := omega) only [↓reduceIte, Option.bind_some, Sum.elim_inl, Sum.elim_inr, if_true, if_false, rd_nI, wr_nI, rd_z, rd_o, wr_z, wr_o, nI_1, nI_add, pk_mul, nI_leI, nI_ltI, nI_eq, z_le, le_z, z_lt, lt_z, eq_z, eq_o, le_o, o_le, lt_o, o_lt, eq_m1, eq_m2, m1_eq, m2_eq, m1_lt, m1_le, o_z, z_o, m1_z, m1_o, m2_z, m2_o, m2_m1, z_lz, z_lo, o_lz, o_ez, z_ez, z_eo, m2_lt, m2_le, leF, leT, ltF, ltT, eqF, eqT, bI_z, bI_o, sh1, sh0, not_true_eq_false, not_false_eq_true, ne_eq, Bool.true_eq_false, Bool.false_eq_true, true_and, and_true, false_and, and_false, l_2, l_3, l_4, l_5, l_6, l_7, l_8, l_9, l_10, l_11, l_12, l_13, l_14, l_15, l_16, l_17, l_18, l_19, l_20, l_21, l_22, l_23, l_24, l_25, l_26, l_27, l_28, l_29, l_30, l_32, l_33, l_34, l_35, l_36, l_37, l_38, l_39, l_50, l_60, l_99, l_100, l_150, l_160, l_240, l_250, l_300, l_400, l_402, l_403, l_420, l_500, l_600, l_840, l_1000, l_1024, l_2000, l_2047, l_2048, l_10000, l_25600, l_500000]; done) | omega)) | with_reducible apply Ok.jnU | with_reducible apply Ok.letsU | with_reducible apply Ok.elL | with_reducible apply Ok.elR | ((with_reducible apply Ok.gdT); · exact bI_nar _)))
    exact Ok.ret rfl
  generalize hS4 : setC (upI S2 95 61 0) 146 (mixF ((upI S2 95 61 0).1 146) (fun _ => nI 99) 0 600) = S4
  apply Ok.step (loopMap 147 0 6 (fun _ => 0) (by omega) (fun i S5 hi d e => Or.inl (Ok.e ?_)) (fun S5 d => Ok.e ?_))
  rotate_left
  · (repeat (first | ((with_reducible apply Ok.step); · ((try simp (disch := omega) only [↓reduceIte, Option.bind_some, Sum.elim_inl, Sum.elim_inr, if_true, if_false, rd_nI, wr_nI, rd_z, rd_o, wr_z, wr_o, nI_1, nI_add, pk_mul, nI_leI, nI_ltI, nI_eq, z_le, le_z, z_lt, lt_z, eq_z, eq_o, le_o, o_le, lt_o, o_lt, eq_m1, eq_m2, m1_eq, m2_eq, m1_lt, m1_le, o_z, z_o, m1_z, m1_o, m2_z, m2_o, m2_m1, z_lz, z_lo, o_lz, o_ez, z_ez, z_eo, m2_lt, m2_le, leF, leT, ltF, ltT, eqF, eqT, bI_z, bI_o, sh1, sh0, not_true_eq_false, not_false_eq_true, ne_eq, Bool.true_eq_false, Bool.false_eq_true, true_and, and_true, false_and, and_false, l_2, l_3, l_4, l_5, l_6, l_7, l_8, l_9, l_10, l_11, l_12, l_13, l_14, l_15, l_16, l_17, l_18, l_19, l_20, l_21, l_22, l_23, l_24, l_25, l_26, l_27, l_28, l_29, l_30, l_32, l_33, l_34, l_35, l_36, l_37, l_38, l_39, l_50, l_60, l_99, l_100, l_150, l_160, l_240, l_250, l_300, l_400, l_402, l_403, l_420, l_500, l_600, l_840, l_1000, l_1024, l_2000, l_2047, l_2048, l_10000, l_25600, l_500000]); with_reducible exact rfl)) | ((with_reducible apply Ok.ifT); · (first | (simp (disch := omega) only [↓reduceIte, Option.bind_some, Sum.elim_inl, Sum.elim_inr, if_true, if_false, rd_nI, wr_nI, rd_z, rd_o, wr_z, wr_o, nI_1, nI_add, pk_mul, nI_leI, nI_ltI, nI_eq, z_le, le_z, z_lt, lt_z, eq_z, eq_o, le_o, o_le, lt_o, o_lt, eq_m1, eq_m2, m1_eq, m2_eq, m1_lt, m1_le, o_z, z_o, m1_z, m1_o, m2_z, m2_o, m2_m1, z_lz, z_lo, o_lz, o_ez, z_ez, z_eo, m2_lt, m2_le, leF, leT, ltF, ltT, eqF, eqT, bI_z, bI_o, sh1, sh0, not_true_eq_false, not_false_eq_true, ne_eq, Bool.true_eq_false, Bool.false_eq_true, true_and, and_true, false_and, and_false, l_2, l_3, l_4, l_5, l_6, l_7, l_8, l_9, l_10, l_11, l_12, l_13, l_14, l_15, l_16, l_17, l_18, l_19, l_20, l_21, l_22, l_23, l_24, l_25, l_26, l_27, l_28, l_29, l_30, l_32, l_33, l_34, l_35, l_36, l_37, l_38, l_39, l_50, l_60, l_99, l_100, l_150, l_160, l_240, l_250, l_300, l_400, l_402, l_403, l_420, l_500, l_600, l_840, l_1000, l_1024, l_2000, l_2047, l_2048, l_10000, l_25600, l_500000]; done) | omega)) | ((with_reducible apply Ok.ifF); · (first | (simp (disch := omega) only [↓reduceIte, Option.bind_some, Sum.elim_inl, Sum.elim_inr, if_true, if_false, rd_nI, wr_nI, rd_z, rd_o, wr_z, wr_o, nI_1, nI_add, pk_mul, nI_leI, nI_ltI, nI_eq, z_le, le_z, z_lt, lt_z, eq_z, eq_o, le_o, o_le, lt_o, o_lt, eq_m1, eq_m2, m1_eq, m2_eq, m1_lt, m1_le, o_z, z_o, m1_z, m1_o, m2_z, m2_o, m2_m1, z_lz, z_lo, o_lz, o_ez, z_ez, z_eo, m2_lt, m2_le, leF, leT, ltF, ltT, eqF, eqT, bI_z, bI_o, sh1, sh0, not_true_eq_false, not_false_eq_true, ne_eq, Bool.true_eq_false, Bool.false_eq_true, true_and, and_true, false_and, and_false, l_2, l_3, l_4, l_5, l_6, l_7, l_8, l_9, l_10, l_11, l_12, l_13, l_14, l_15, l_16, l_17, l_18, l_19, l_20, l_21, l_22, l_23, l_24, l_25, l_26, l_27, l_28, l_29, l_30, l_32, l_33, l_34, l_35, l_36, l_37, l_38, l_39, l_50, l_60, l_99, l_100, l_150, l_160, l_240, l_250, l_300, l_400, l_402, l_403, l_420, l_500, l_600, l_840, l_1000, l_1024, l_2000, l_2047, l_2048, l_10000, l_25600, l_500000]; done) | omega)) | with_reducible apply Ok.jnU | with_reducible apply Ok.letsU | with_reducible apply Ok.elL | with_reducible apply Ok.elR | ((with_reducible apply Ok.gdT); · exact bI_nar _)))
    exact Ok.ret (by rw [nI_1, Nat.zero_add])
  · (repeat (first | ((with_reducible apply Ok.step); · ((try simp (disch := omega) only [↓reduceIte, Option.bind_some, Sum.elim_inl, Sum.elim_inr, if_true, if_false, rd_nI, wr_nI, rd_z, rd_o, wr_z, wr_o, nI_1, nI_add, pk_mul, nI_leI, nI_ltI, nI_eq, z_le, le_z, z_lt, lt_z, eq_z, eq_o, le_o, o_le, lt_o, o_lt, eq_m1, eq_m2, m1_eq, m2_eq, m1_lt, m1_le, o_z, z_o, m1_z, m1_o, m2_z, m2_o, m2_m1, z_lz, z_lo, o_lz, o_ez, z_ez, z_eo, m2_lt, m2_le, leF, leT, ltF, ltT, eqF, eqT, bI_z, bI_o, sh1, sh0, not_true_eq_false, not_false_eq_true, ne_eq, Bool.true_eq_false, Bool.false_eq_true, true_and, and_true, false_and, and_false, l_2, l_3, l_4, l_5, l_6, l_7, l_8, l_9, l_10, l_11, l_12, l_13, l_14, l_15, l_16, l_17, l_18, l_19, l_20, l_21, l_22, l_23, l_24, l_25, l_26, l_27, l_28, l_29, l_30, l_32, l_33, l_34, l_35, l_36, l_37, l_38, l_39, l_50, l_60, l_99, l_100, l_150, l_160, l_240, l_250, l_300, l_400, l_402, l_403, l_420, l_500, l_600, l_840, l_1000, l_1024, l_2000, l_2047, l_2048, l_10000, l_25600, l_500000]); with_reducible exact rfl)) | ((with_reducible apply Ok.ifT); · (first | (simp (disch := omega) only [↓reduceIte, Option.bind_some, Sum.elim_inl, Sum.elim_inr, if_true, if_false, rd_nI, wr_nI, rd_z, rd_o, wr_z, wr_o, nI_1, nI_add, pk_mul, nI_leI, nI_ltI, nI_eq, z_le, le_z, z_lt, lt_z, eq_z, eq_o, le_o, o_le, lt_o, o_lt, eq_m1, eq_m2, m1_eq, m2_eq, m1_lt, m1_le, o_z, z_o, m1_z, m1_o, m2_z, m2_o, m2_m1, z_lz, z_lo, o_lz, o_ez, z_ez, z_eo, m2_lt, m2_le, leF, leT, ltF, ltT, eqF, eqT, bI_z, bI_o, sh1, sh0, not_true_eq_false, not_false_eq_true, ne_eq, Bool.true_eq_false, Bool.false_eq_true, true_and, and_true, false_and, and_false, l_2, l_3, l_4, l_5, l_6, l_7, l_8, l_9, l_10, l_11, l_12, l_13, l_14, l_15, l_16, l_17, l_18, l_19, l_20, l_21, l_22, l_23, l_24, l_25, l_26, l_27, l_28, l_29, l_30, l_32, l_33, l_34, l_35, l_36, l_37, l_38, l_39, l_50, l_60, l_99, l_100, l_150, l_160, l_240, l_250, l_300, l_400, l_402, l_403, l_420, l_500, l_600, l_840, l_1000, l_1024, l_2000, l_2047, l_2048, l_10000, l_25600, l_500000]; done) | omega)) | ((with_reducible apply Ok.ifF); · (first | (simp (disch := omega) only [↓reduceIte, Option.bind_some, Sum.elim_inl, Sum.elim_inr, if_true, if_false, rd_nI, wr_nI, rd_z, rd_o, wr_z, wr_o, nI_1, nI_add, pk_mul, nI_leI, nI_ltI, nI_eq, z_le, le_z, z_lt, lt_z, eq_z, eq_o, le_o, o_le, lt_o, o_lt, eq_m1, eq_m2, m1_eq, m2_eq, m1_lt, m1_le, o_z, z_o, m1_z, m1_o, m2_z, m2_o, m2_m1, z_lz, z_lo, o_lz, o_ez, z_ez, z_eo, m2_lt, m2_le, leF, leT, ltF, ltT, eqF, eqT, bI_z, bI_o, sh1, sh0, not_true_eq_false, not_false_eq_true, ne_eq, Bool.true_eq_false, Bool.false_eq_true, true_and, and_true, false_and, and_false, l_2, l_3, l_4, l_5, l_6, l_7, l_8, l_9, l_10, l_11, l_12, l_13, l_14, l_15, l_16, l_17, l_18, l_19, l_20, l_21, l_22, l_23, l_24, l_25, l_26, l_27, l_28, l_29, l_30, l_32, l_33, l_34, l_35, l_36, l_37, l_38, l_39, l_50, l_60, l_99, l_100, l_150, l_160, l_240, l_250, l_300, l_400, l_402, l_403, l_420, l_500, l_600, l_840, l_1000, l_1024, l_2000, l_2047, l_2048, l_10000, l_25600, l_500000]; done) | omega)) | with_reducible apply Ok.jnU | with_reducible apply Ok.letsU | with_reducible apply Ok.elL | with_reducible apply Ok.elR | ((with_reducible apply Ok.gdT); · exact bI_nar _)))
    exact Ok.ret rfl
  generalize hS5 : setC S4 147 (mixF (S4.1 147) (fun _ => 0) 0 6) = S5
  have d4 : Df XG S S4 := by
    rw [← hS4]
    refine Df.set (Df.up (d2.mono (fun a j hx => ?_)) rfl) (fun _ => rfl)
    simp only [XG, XD, Bool.or_eq_false_iff] at hx
    exact hx.1.2.1
  have d5 : Df XG S S5 := by rw [← hS5]; exact d4.set (fun _ => rfl)
  have a144 : ∀ x, S5.1 144 x = S2.1 144 x := fun x => by rw [← hS5, ← hS4, setC_ne (by decide), setC_ne (by decide), upI_ne (by decide)]
  have H0 : RH W P N 0 (cSt W V P N (DDs seed frail (W 0 1)) 0) (DDp seed frail (W 0 1) 0) S5 := by
    refine ⟨?_, ?_, fun k _ hk => absurd hk (by omega), ?_, ?_, ?_⟩
    · intro j hj p hp
      have : j = 0 := by omega
      subst this
      rw [a144, k0 p hp]
      apply bs_congr
      intro t _
      rw [Bool.eq_iff_iff, decide_eq_true_eq]
      show wFirst W p t = true ↔ (if wFirst W p t = true then 0 else 99) ≤ 0
      by_cases c : wFirst W p t = true
      · rw [if_pos c]; exact ⟨fun _ => Nat.le_refl _, fun _ => c⟩
      · rw [if_neg c]; exact ⟨fun x => absurd x c, fun x => by omega⟩
    · intro j h1 h2 p hp
      rw [a144]; exact k1 j h1 h2 p hp
    · intro s o t h1 h2 h3
      rw [← hS5, ← hS4, setC_ne (by decide), setC_eq, mixF_in (by omega) (by omega)]
      rfl
    · intro a b ha hb
      rw [← hS5, setC_eq, mixF_in (by omega) (by omega), b_0]
      have : ∀ t, wWr W P N (cSt W V P N (DDs seed frail (W 0 1)) 0).2.1 0 a t = false := fun t => anyN_f.mpr (fun k _ => by simp)
      rw [this, Bool.and_false]
    · rw [← hS5, ← hS4, setC_ne (by decide), setC_ne (by decide), upI_at, if_pos ⟨rfl, rfl⟩]
      funext p
      rw [b_0]; rfl
  refine bindL (fun h q => q.1 = nI h ∧ Df XG S q.2 ∧ RH W P N h (cSt W V P N (DDs seed frail (W 0 1)) h) (DDp seed frail (W 0 1) h) q.2)
    (fun S' => Df XG S S' ∧ RH W P N 24 (cSt W V P N (DDs seed frail (W 0 1)) 24) (DDs seed frail (W 0 1) 23) S') 0 24 (by decide) (by omega) ⟨rfl, d5, H0⟩ ?_ ?_ ?_
  · rintro h ⟨x, S6⟩ _ hh ⟨rfl, d6, H⟩
    dsimp only at d6 H ⊢
    refine Ok.ifF (by simp (disch := omega) only [↓reduceIte, Option.bind_some, jn, lets, Sum.elim_inl, Sum.elim_inr, if_true, if_false, rd_nI, wr_nI, rd_z, rd_o, wr_z, wr_o, nI_1, nI_add, pk_mul, nI_leI, nI_ltI, nI_eq, z_le, le_z, z_lt, lt_z, eq_z, eq_o, le_o, o_le, lt_o, o_lt, eq_m1, eq_m2, m1_eq, m2_eq, m1_lt, m1_le, o_z, z_o, m1_z, m1_o, m2_z, m2_o, m2_m1, z_lz, z_lo, o_lz, o_ez, z_ez, z_eo, m2_lt, m2_le, leF, leT, ltF, ltT, eqF, eqT, bI_z, bI_o, sh1, sh0, not_true_eq_false, not_false_eq_true, ne_eq, Bool.true_eq_false, Bool.false_eq_true, true_and, and_true, false_and, and_false, l_2, l_3, l_4, l_5, l_6, l_7, l_8, l_9, l_10, l_11, l_12, l_13, l_14, l_15, l_16, l_17, l_18, l_19, l_20, l_21, l_22, l_23, l_24, l_25, l_26, l_27, l_28, l_29, l_30, l_32, l_33, l_34, l_35, l_36, l_37, l_38, l_39, l_50, l_60, l_99, l_100, l_150, l_160, l_240, l_250, l_300, l_400, l_402, l_403, l_420, l_500, l_600, l_840, l_1000, l_1024, l_2000, l_2047, l_2048, l_10000, l_25600, l_500000]) ?_
    refine r_hour (XG_R hR d6) hW (XG_L hL d6) hn (XG_P hP d6) hPW (by rw [d6.2 95 72 rfl]; exact hse) (by rw [d6.2 95 73 rfl]; exact hfa) hh (cSt_F h) (cSt_U h) H ?_
    intro S7 d7 H7
    exact ⟨rfl, d6.trans d7, H7⟩
  · rintro ⟨x, S6⟩ ⟨rfl, d6, H⟩
    dsimp only at d6 H ⊢
    refine Ok.ifT (by simp (disch := omega) only [↓reduceIte, Option.bind_some, jn, lets, Sum.elim_inl, Sum.elim_inr, if_true, if_false, rd_nI, wr_nI, rd_z, rd_o, wr_z, wr_o, nI_1, nI_add, pk_mul, nI_leI, nI_ltI, nI_eq, z_le, le_z, z_lt, lt_z, eq_z, eq_o, le_o, o_le, lt_o, o_lt, eq_m1, eq_m2, m1_eq, m2_eq, m1_lt, m1_le, o_z, z_o, m1_z, m1_o, m2_z, m2_o, m2_m1, z_lz, z_lo, o_lz, o_ez, z_ez, z_eo, m2_lt, m2_le, leF, leT, ltF, ltT, eqF, eqT, bI_z, bI_o, sh1, sh0, not_true_eq_false, not_false_eq_true, ne_eq, Bool.true_eq_false, Bool.false_eq_true, true_and, and_true, false_and, and_false, l_2, l_3, l_4, l_5, l_6, l_7, l_8, l_9, l_10, l_11, l_12, l_13, l_14, l_15, l_16, l_17, l_18, l_19, l_20, l_21, l_22, l_23, l_24, l_25, l_26, l_27, l_28, l_29, l_30, l_32, l_33, l_34, l_35, l_36, l_37, l_38, l_39, l_50, l_60, l_99, l_100, l_150, l_160, l_240, l_250, l_300, l_400, l_402, l_403, l_420, l_500, l_600, l_840, l_1000, l_1024, l_2000, l_2047, l_2048, l_10000, l_25600, l_500000]) ?_
    exact Ok.inr ⟨d6, H⟩
  · rintro S6 H
    exact Ok.ret H
end RHS
