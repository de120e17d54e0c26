/-! ===== the reference goes through all hours ===== -/
def mixV (h it : Int32) : Int32 := (((h ^^^ it) * (1103515245 : Int32)) + (12345 : Int32)) ^^^ (ush (((h ^^^ it) * (1103515245 : Int32)) + (12345 : Int32)) (15 : Int32))
def lotV (seed which : Int32) : Int32 := (ush (mixV (mixV seed 17) which) (1 : Int32)) - (ush (mixV (mixV seed 17) which) (1 : Int32)) / 100 * 100
def LTs (seed frail : Int32) (h p : Nat) : Bool := decide (frail ≠ -1) && (decide (0 < h) && decide (lotV seed (nI (100 * h + p)) < frail))
/-- who is dead at an hour -/
def DDs (seed frail : Int32) (m : Nat) : Nat → Nat → Bool
  | 0, _ => false
  | h + 1, p => DDs seed frail m h p || (decide (p < m) && LTs seed frail (h + 1) p)
def DDp (seed frail : Int32) (m h : Nat) : Nat → Bool := if h = 0 then fun _ => false else DDs seed frail m (h - 1)
theorem DDs_p {seed frail : Int32} {m h p : Nat} : DDs seed frail m h p = (DDp seed frail m h p || (decide (p < m) && LTs seed frail h p)) := by
  cases h with
  | zero => simp [DDs, DDp, LTs]
  | succ h => simp [DDs, DDp]
theorem r_mixed {n : Nat} {S : ST} {a b : Int32} : E_X12_mixed n S a b = some (mixV a b) := rfl
theorem r_lot {n : Nat} {S : ST} {a b : Int32} : E_X12_lot n S a b (100 : Int32) = some (lotV a b) := by
  unfold E_X12_lot
  rw [r_mixed, Option.bind_some, r_mixed, Option.bind_some, gd_pos (by decide)]
  rfl
theorem c_lot {n : Nat} {S : ST} {a b : Int32} : E_X11_lot n S (100 : Int32) a b = some (lotV a b) := by
  unfold E_X11_lot
  have e : ∀ x y : Int32, E_X11_mix n S x y = some (mixV x y) := fun _ _ => rfl
  rw [e, Option.bind_some, e, Option.bind_some, if_pos (by decide), gd_pos (by decide)]
  rfl
/-- what is written at a place (of hours ahead of h) -/
def wWr (W : VW) (P : PL) (N : Nat) (Y : Nat → Nat) (h a t : Nat) : Bool := anyN (fun k => decide (P 1 k < h) && decide (P 0 k = 2) && decide (Y k = 0) && decide (P 4 k = t) && decide (wPl W (P 2 k) (P 1 k) = a)) N
def XG (a j : Nat) : Bool := XD a j || (a == 145 || (a == 95 && j == 61))
def X1 (a j : Nat) : Bool := a == 144 || (a == 95 && j == 61)
theorem XD_XG {S S' : ST} (h : Df XD S S') : Df XG S S' := h.mono (fun a j hx => by
  simp only [XG, Bool.or_eq_false_iff] at hx
  exact hx.1)
theorem X1_XG {S S' : ST} (h : Df X1 S S') : Df XG S S' := h.mono (fun a j hx => by
  simp only [XG, XD, X1, Bool.or_eq_false_iff] at hx ⊢
  exact ⟨hx.1.2.1, hx.2.2⟩)
theorem XG_R {W : VW} {sd : Nat} {S S' : ST} (hR : RRep W sd S) (h : Df XG S S') : RRep W sd S' := hR.df h (fun a j hx => by
  simp only [XG, XD, XM, Bool.or_eq_false_iff, beq_eq_false_iff_ne, Bool.and_eq_false_iff]
  omega)
theorem XG_L {V : VL} {W : VW} {sd : Nat} {S S' : ST} (hL : RLw V W sd S) (h : Df XG S S') : RLw V W sd S' := hL.df h (fun a j hx => by
  simp only [lawC, decide_eq_true_eq] at hx
  simp only [XG, XD, XM, Bool.or_eq_false_iff, beq_eq_false_iff_ne, Bool.and_eq_false_iff]
  omega)
theorem XG_P {P : PL} {N : Nat} {S S' : ST} (hP : PRef P N S) (h : Df XG S S') : PRef P N S' := hP.df h (fun a j hx => by
  simp only [XG, XD, XM, Bool.or_eq_false_iff, beq_eq_false_iff_ne, Bool.and_eq_false_iff]
  omega)
/-- the reference at the beginning of an hour -/
def RH (W : VW) (P : PL) (N : Nat) (h : Nat) (Z : CS) (Dp : Nat → Bool) (S : ST) : Prop :=
  (∀ j, j ≤ h → KRow S (W 0 1) j (fun p t => decide (Z.1 p t ≤ j))) ∧ (∀ j, h < j → j < 25 → KRow S (W 0 1) j (fun _ _ => false)) ∧ (∀ k, k < N → P 1 k < h → S.1 145 k = nI (Z.2.1 k))
  ∧ (∀ s o t, s < 10 → o < 10 → t < 6 → S.1 146 (60 * s + 6 * o + t) = nI (Z.2.2 s o t)) ∧ (∀ a b, a < 6 → b < 32 → bt (S.1 147 a) b = (decide (b < 12) && wWr W P N Z.2.1 h a (if b < 6 then b else b - 6))) ∧ bt (S.1 95 61) = Dp
theorem b_63 (i : Nat) : bt 63 i = decide (i < 6) := by
  rcases Nat.lt_or_ge i 32 with h | h
  · exact (by decide +kernel : ∀ i, i < 32 → bt 63 i = decide (i < 6)) i h
  · rw [b_big h, decide_eq_false (by omega)]
theorem bs_false (m : Nat) : bs (fun _ => false) m = 0 := by
  induction m with
  | zero => rfl
  | succ m ih => rw [bs, ih]; rfl
section RGS
variable {W : VW} {V : VL} {P : PL} {N sd n : Nat} {S : ST}
/-- hour by hour: one hour -/
theorem wRead_wr {D : Nat → Bool} {Y : Nat → Nat} {h p t : Nat} (hW : WF W) (hD : wOn W D p = true → 0 < W 0 0) : anyN (fun a => wStand W D a h p && wWr W P N Y h a t) (W 0 0) = anyN (fun k => wRead W P D Y h k p t) N := by
  apply Bool.eq_iff_iff.mpr
  rw [anyN_iff, anyN_iff]
  constructor
  · rintro ⟨a, ha, h2⟩
    simp only [Bool.and_eq_true] at h2
    obtain ⟨k, hk, h3⟩ := anyN_iff.mp h2.2
    refine ⟨k, hk, ?_⟩
    simp only [Bool.and_eq_true, decide_eq_true_eq] at h3
    unfold wRead
    simp only [Bool.and_eq_true, decide_eq_true_eq]
    exact ⟨h3.1, by rw [h3.2]; exact h2.1⟩
  · rintro ⟨k, hk, h2⟩
    unfold wRead at h2
    simp only [Bool.and_eq_true, decide_eq_true_eq] at h2
    have h3 := h2.2
    simp only [wStand, Bool.and_eq_true, decide_eq_true_eq] at h3
    refine ⟨wPl W (P 2 k) (P 1 k), wPl_lt hW (hD h3.1) _ _, ?_⟩
    simp only [Bool.and_eq_true]
    refine ⟨h2.2, anyN_iff.mpr ⟨k, hk, ?_⟩⟩
    simp only [Bool.and_eq_true, decide_eq_true_eq]
    exact ⟨h2.1, trivial⟩
theorem r_starts (hR : RRep W sd S) (hW : WF W) (hn : 30000 ≤ n) : Ok (E_X12_startsKnowing n S) (fun S' => Df (Xc 144) S S' ∧ KRow S' (W 0 1) 0 (wFirst W) ∧ ∀ j, 0 < j → j < 25 → KRow S' (W 0 1) j (fun _ _ => false)) := by
  have hm1 : W 0 1 ≤ 10 := hW.mx (k := 1) (by decide)
  have hm2 : W 0 2 ≤ 6 := hW.mx (k := 2) (by decide)
  have hm5 : W 0 5 ≤ 12 := hW.mx (k := 5) (by decide)
  have hsd := hR.1
  unfold E_X12_startsKnowing
  apply Ok.step (loopMap 144 0 250 (fun _ => 0) (by omega) (fun i S1 hi d e => Or.inl (Ok.e ?_)) (fun S1 d => Ok.e ?_))
  rotate_left
  · (repeat (first | ((with_reducible apply Ok.step); · ((try simp (disch := omega) only [↓reduceIte, Option.bind_some, Sum.elim_inl, Sum.elim_inr, if_true, if_false, rd_nI, wr_nI, rd_z, rd_o, wr_z, wr_o, nI_1, nI_add, pk_mul, nI_leI, nI_ltI, nI_eq, z_le, le_z, z_lt, lt_z, eq_z, eq_o, le_o, o_le, lt_o, o_lt, eq_m1, eq_m2, m1_eq, m2_eq, m1_lt, m1_le, o_z, z_o, m1_z, m1_o, m2_z, m2_o, m2_m1, z_lz, z_lo, o_lz, o_ez, z_ez, z_eo, m2_lt, m2_le, leF, leT, ltF, ltT, eqF, eqT, bI_z, bI_o, sh1, sh0, not_true_eq_false, not_false_eq_true, ne_eq, Bool.true_eq_false, Bool.false_eq_true, true_and, and_true, false_and, and_false, l_2, l_3, l_4, l_5, l_6, l_7, l_8, l_9, l_10, l_11, l_12, l_13, l_14, l_15, l_16, l_17, l_18, l_19, l_20, l_21, l_22, l_23, l_24, l_25, l_26, l_27, l_28, l_29, l_30, l_32, l_33, l_34, l_35, l_36, l_37, l_38, l_39, l_50, l_60, l_99, l_100, l_150, l_160, l_240, l_250, l_300, l_400, l_402, l_403, l_420, l_500, l_600, l_840, l_1000, l_1024, l_2000, l_2047, l_2048, l_10000, l_25600, l_500000]); with_reducible exact rfl)) | ((with_reducible apply Ok.ifT); · (first | (simp (disch := omega) only [↓reduceIte, Option.bind_some, Sum.elim_inl, Sum.elim_inr, if_true, if_false, rd_nI, wr_nI, rd_z, rd_o, wr_z, wr_o, nI_1, nI_add, pk_mul, nI_leI, nI_ltI, nI_eq, z_le, le_z, z_lt, lt_z, eq_z, eq_o, le_o, o_le, lt_o, o_lt, eq_m1, eq_m2, m1_eq, m2_eq, m1_lt, m1_le, o_z, z_o, m1_z, m1_o, m2_z, m2_o, m2_m1, z_lz, z_lo, o_lz, o_ez, z_ez, z_eo, m2_lt, m2_le, leF, leT, ltF, ltT, eqF, eqT, bI_z, bI_o, sh1, sh0, not_true_eq_false, not_false_eq_true, ne_eq, Bool.true_eq_false, Bool.false_eq_true, true_and, and_true, false_and, and_false, l_2, l_3, l_4, l_5, l_6, l_7, l_8, l_9, l_10, l_11, l_12, l_13, l_14, l_15, l_16, l_17, l_18, l_19, l_20, l_21, l_22, l_23, l_24, l_25, l_26, l_27, l_28, l_29, l_30, l_32, l_33, l_34, l_35, l_36, l_37, l_38, l_39, l_50, l_60, l_99, l_100, l_150, l_160, l_240, l_250, l_300, l_400, l_402, l_403, l_420, l_500, l_600, l_840, l_1000, l_1024, l_2000, l_2047, l_2048, l_10000, l_25600, l_500000]; done) | omega)) | ((with_reducible apply Ok.ifF); · (first | (simp (disch := omega) only [↓reduceIte, Option.bind_some, Sum.elim_inl, Sum.elim_inr, if_true, if_false, rd_nI, wr_nI, rd_z, rd_o, wr_z, wr_o, nI_1, nI_add, pk_mul, nI_leI, nI_ltI, nI_eq, z_le, le_z, z_lt, lt_z, eq_z, eq_o, le_o, o_le, lt_o, o_lt, eq_m1, eq_m2, m1_eq, m2_eq, m1_lt, m1_le, o_z, z_o, m1_z, m1_o, m2_z, m2_o, m2_m1, z_lz, z_lo, o_lz, o_ez, z_ez, z_eo, m2_lt, m2_le, leF, leT, ltF, ltT, eqF, eqT, bI_z, bI_o, sh1, sh0, not_true_eq_false, not_false_eq_true, ne_eq, Bool.true_eq_false, Bool.false_eq_true, true_and, and_true, false_and, and_false, l_2, l_3, l_4, l_5, l_6, l_7, l_8, l_9, l_10, l_11, l_12, l_13, l_14, l_15, l_16, l_17, l_18, l_19, l_20, l_21, l_22, l_23, l_24, l_25, l_26, l_27, l_28, l_29, l_30, l_32, l_33, l_34, l_35, l_36, l_37, l_38, l_39, l_50, l_60, l_99, l_100, l_150, l_160, l_240, l_250, l_300, l_400, l_402, l_403, l_420, l_500, l_600, l_840, l_1000, l_1024, l_2000, l_2047, l_2048, l_10000, l_25600, l_500000]; done) | omega)) | with_reducible apply Ok.jnU | with_reducible apply Ok.letsU | with_reducible apply Ok.elL | with_reducible apply Ok.elR | ((with_reducible apply Ok.gdT); · exact bI_nar _)))
    exact Ok.ret (by rw [nI_1, Nat.zero_add])
  · (repeat (first | ((with_reducible apply Ok.step); · ((try simp (disch := omega) only [↓reduceIte, Option.bind_some, Sum.elim_inl, Sum.elim_inr, if_true, if_false, rd_nI, wr_nI, rd_z, rd_o, wr_z, wr_o, nI_1, nI_add, pk_mul, nI_leI, nI_ltI, nI_eq, z_le, le_z, z_lt, lt_z, eq_z, eq_o, le_o, o_le, lt_o, o_lt, eq_m1, eq_m2, m1_eq, m2_eq, m1_lt, m1_le, o_z, z_o, m1_z, m1_o, m2_z, m2_o, m2_m1, z_lz, z_lo, o_lz, o_ez, z_ez, z_eo, m2_lt, m2_le, leF, leT, ltF, ltT, eqF, eqT, bI_z, bI_o, sh1, sh0, not_true_eq_false, not_false_eq_true, ne_eq, Bool.true_eq_false, Bool.false_eq_true, true_and, and_true, false_and, and_false, l_2, l_3, l_4, l_5, l_6, l_7, l_8, l_9, l_10, l_11, l_12, l_13, l_14, l_15, l_16, l_17, l_18, l_19, l_20, l_21, l_22, l_23, l_24, l_25, l_26, l_27, l_28, l_29, l_30, l_32, l_33, l_34, l_35, l_36, l_37, l_38, l_39, l_50, l_60, l_99, l_100, l_150, l_160, l_240, l_250, l_300, l_400, l_402, l_403, l_420, l_500, l_600, l_840, l_1000, l_1024, l_2000, l_2047, l_2048, l_10000, l_25600, l_500000]); with_reducible exact rfl)) | ((with_reducible apply Ok.ifT); · (first | (simp (disch := omega) only [↓reduceIte, Option.bind_some, Sum.elim_inl, Sum.elim_inr, if_true, if_false, rd_nI, wr_nI, rd_z, rd_o, wr_z, wr_o, nI_1, nI_add, pk_mul, nI_leI, nI_ltI, nI_eq, z_le, le_z, z_lt, lt_z, eq_z, eq_o, le_o, o_le, lt_o, o_lt, eq_m1, eq_m2, m1_eq, m2_eq, m1_lt, m1_le, o_z, z_o, m1_z, m1_o, m2_z, m2_o, m2_m1, z_lz, z_lo, o_lz, o_ez, z_ez, z_eo, m2_lt, m2_le, leF, leT, ltF, ltT, eqF, eqT, bI_z, bI_o, sh1, sh0, not_true_eq_false, not_false_eq_true, ne_eq, Bool.true_eq_false, Bool.false_eq_true, true_and, and_true, false_and, and_false, l_2, l_3, l_4, l_5, l_6, l_7, l_8, l_9, l_10, l_11, l_12, l_13, l_14, l_15, l_16, l_17, l_18, l_19, l_20, l_21, l_22, l_23, l_24, l_25, l_26, l_27, l_28, l_29, l_30, l_32, l_33, l_34, l_35, l_36, l_37, l_38, l_39, l_50, l_60, l_99, l_100, l_150, l_160, l_240, l_250, l_300, l_400, l_402, l_403, l_420, l_500, l_600, l_840, l_1000, l_1024, l_2000, l_2047, l_2048, l_10000, l_25600, l_500000]; done) | omega)) | ((with_reducible apply Ok.ifF); · (first | (simp (disch := omega) only [↓reduceIte, Option.bind_some, Sum.elim_inl, Sum.elim_inr, if_true, if_false, rd_nI, wr_nI, rd_z, rd_o, wr_z, wr_o, nI_1, nI_add, pk_mul, nI_leI, nI_ltI, nI_eq, z_le, le_z, z_lt, lt_z, eq_z, eq_o, le_o, o_le, lt_o, o_lt, eq_m1, eq_m2, m1_eq, m2_eq, m1_lt, m1_le, o_z, z_o, m1_z, m1_o, m2_z, m2_o, m2_m1, z_lz, z_lo, o_lz, o_ez, z_ez, z_eo, m2_lt, m2_le, leF, leT, ltF, ltT, eqF, eqT, bI_z, bI_o, sh1, sh0, not_true_eq_false, not_false_eq_true, ne_eq, Bool.true_eq_false, Bool.false_eq_true, true_and, and_true, false_and, and_false, l_2, l_3, l_4, l_5, l_6, l_7, l_8, l_9, l_10, l_11, l_12, l_13, l_14, l_15, l_16, l_17, l_18, l_19, l_20, l_21, l_22, l_23, l_24, l_25, l_26, l_27, l_28, l_29, l_30, l_32, l_33, l_34, l_35, l_36, l_37, l_38, l_39, l_50, l_60, l_99, l_100, l_150, l_160, l_240, l_250, l_300, l_400, l_402, l_403, l_420, l_500, l_600, l_840, l_1000, l_1024, l_2000, l_2047, l_2048, l_10000, l_25600, l_500000]; done) | omega)) | with_reducible apply Ok.jnU | with_reducible apply Ok.letsU | with_reducible apply Ok.elL | with_reducible apply Ok.elR | ((with_reducible apply Ok.gdT); · exact bI_nar _)))
    exact Ok.ret rfl
  have d0 : Df (Xc 144) S (setC S 144 (mixF (S.1 144) (fun _ => 0) 0 250)) := Xc_set
  refine bindL (fun i q => q.1 = nI i ∧ Df (Xc 144) S q.2 ∧ (∀ p, p < W 0 1 → q.2.1 144 p = bs (fun t => anyN (fun k => W 10 k == p && W 11 k == t) i) 6) ∧ ∀ x, 10 ≤ x → x < 250 → q.2.1 144 x = 0)
    (fun S' => Df (Xc 144) S S' ∧ (∀ p, p < W 0 1 → S'.1 144 p = bs (wFirst W p) 6) ∧ ∀ x, 10 ≤ x → x < 250 → S'.1 144 x = 0) 0 (W 0 5) (Nat.zero_le _) (by omega) ⟨rfl, d0, ?_, ?_⟩ ?_ ?_ ?_
  · intro p hp
    show (setC S 144 _).1 144 p = _
    rw [setC_eq, mixF_in (by omega) (by omega)]
    simp only [anyN]
    rw [bs_false]
  · intro x h1 h2
    show (setC S 144 _).1 144 x = _
    rw [setC_eq, mixF_in (by omega) (by omega)]
  · rintro i ⟨x, S1⟩ _ hi ⟨rfl, d, h1, h2⟩
    dsimp only at d h1 h2 ⊢
    have hR1 := Xc_R hR d (by decide)
    have hk := hW.2.2.2.2.2.1 i hi
    (repeat (first | ((with_reducible apply Ok.step); · ((try simp (disch := omega) only [↓reduceIte, Option.bind_some, Sum.elim_inl, Sum.elim_inr, if_true, if_false, rd_nI, wr_nI, rd_z, rd_o, wr_z, wr_o, nI_1, nI_add, pk_mul, nI_leI, nI_ltI, nI_eq, z_le, le_z, z_lt, lt_z, eq_z, eq_o, le_o, o_le, lt_o, o_lt, eq_m1, eq_m2, m1_eq, m2_eq, m1_lt, m1_le, o_z, z_o, m1_z, m1_o, m2_z, m2_o, m2_m1, z_lz, z_lo, o_lz, o_ez, z_ez, z_eo, m2_lt, m2_le, leF, leT, ltF, ltT, eqF, eqT, bI_z, bI_o, sh1, sh0, not_true_eq_false, not_false_eq_true, ne_eq, Bool.true_eq_false, Bool.false_eq_true, true_and, and_true, false_and, and_false, l_2, l_3, l_4, l_5, l_6, l_7, l_8, l_9, l_10, l_11, l_12, l_13, l_14, l_15, l_16, l_17, l_18, l_19, l_20, l_21, l_22, l_23, l_24, l_25, l_26, l_27, l_28, l_29, l_30, l_32, l_33, l_34, l_35, l_36, l_37, l_38, l_39, l_50, l_60, l_99, l_100, l_150, l_160, l_240, l_250, l_300, l_400, l_402, l_403, l_420, l_500, l_600, l_840, l_1000, l_1024, l_2000, l_2047, l_2048, l_10000, l_25600, l_500000, r_has hR1, t_sd hR1, t_117 hR1, t_118 hR1]); with_reducible exact rfl)) | ((with_reducible apply Ok.ifT); · (first | (simp (disch := omega) only [↓reduceIte, Option.bind_some, Sum.elim_inl, Sum.elim_inr, if_true, if_false, rd_nI, wr_nI, rd_z, rd_o, wr_z, wr_o, nI_1, nI_add, pk_mul, nI_leI, nI_ltI, nI_eq, z_le, le_z, z_lt, lt_z, eq_z, eq_o, le_o, o_le, lt_o, o_lt, eq_m1, eq_m2, m1_eq, m2_eq, m1_lt, m1_le, o_z, z_o, m1_z, m1_o, m2_z, m2_o, m2_m1, z_lz, z_lo, o_lz, o_ez, z_ez, z_eo, m2_lt, m2_le, leF, leT, ltF, ltT, eqF, eqT, bI_z, bI_o, sh1, sh0, not_true_eq_false, not_false_eq_true, ne_eq, Bool.true_eq_false, Bool.false_eq_true, true_and, and_true, false_and, and_false, l_2, l_3, l_4, l_5, l_6, l_7, l_8, l_9, l_10, l_11, l_12, l_13, l_14, l_15, l_16, l_17, l_18, l_19, l_20, l_21, l_22, l_23, l_24, l_25, l_26, l_27, l_28, l_29, l_30, l_32, l_33, l_34, l_35, l_36, l_37, l_38, l_39, l_50, l_60, l_99, l_100, l_150, l_160, l_240, l_250, l_300, l_400, l_402, l_403, l_420, l_500, l_600, l_840, l_1000, l_1024, l_2000, l_2047, l_2048, l_10000, l_25600, l_500000, r_has hR1, t_sd hR1, t_117 hR1, t_118 hR1]; done) | omega)) | ((with_reducible apply Ok.ifF); · (first | (simp (disch := omega) only [↓reduceIte, Option.bind_some, Sum.elim_inl, Sum.elim_inr, if_true, if_false, rd_nI, wr_nI, rd_z, rd_o, wr_z, wr_o, nI_1, nI_add, pk_mul, nI_leI, nI_ltI, nI_eq, z_le, le_z, z_lt, lt_z, eq_z, eq_o, le_o, o_le, lt_o, o_lt, eq_m1, eq_m2, m1_eq, m2_eq, m1_lt, m1_le, o_z, z_o, m1_z, m1_o, m2_z, m2_o, m2_m1, z_lz, z_lo, o_lz, o_ez, z_ez, z_eo, m2_lt, m2_le, leF, leT, ltF, ltT, eqF, eqT, bI_z, bI_o, sh1, sh0, not_true_eq_false, not_false_eq_true, ne_eq, Bool.true_eq_false, Bool.false_eq_true, true_and, and_true, false_and, and_false, l_2, l_3, l_4, l_5, l_6, l_7, l_8, l_9, l_10, l_11, l_12, l_13, l_14, l_15, l_16, l_17, l_18, l_19, l_20, l_21, l_22, l_23, l_24, l_25, l_26, l_27, l_28, l_29, l_30, l_32, l_33, l_34, l_35, l_36, l_37, l_38, l_39, l_50, l_60, l_99, l_100, l_150, l_160, l_240, l_250, l_300, l_400, l_402, l_403, l_420, l_500, l_600, l_840, l_1000, l_1024, l_2000, l_2047, l_2048, l_10000, l_25600, l_500000, r_has hR1, t_sd hR1, t_117 hR1, t_118 hR1]; done) | omega)) | with_reducible apply Ok.jnU | with_reducible apply Ok.letsU | with_reducible apply Ok.elL | with_reducible apply Ok.elR | ((with_reducible apply Ok.gdT); · exact bI_nar _)))
    refine Ok.inl ⟨nI_1 _, d.up rfl, ?_, ?_⟩
    · intro p hp
      dsimp only
      rw [upI_at]
      by_cases e : p = W 10 i
      · subst e
        rw [if_pos ⟨rfl, rfl⟩, h1 _ hk.1]
        apply bs_of (by decide)
        intro t ht
        rw [b_or, bt_bs _ _ (by decide), bt_bit (by omega)]
        by_cases t6 : t < 6
        · simp only [t6, decide_true, Bool.true_and, anyN, beq_self_eq_true]
          by_cases e2 : t = W 11 i
          · simp [e2]
          · have e3 : ¬ W 11 i = t := fun z => e2 z.symm
            simp [e2, e3]
        · have e3 : ¬ t = W 11 i := by omega
          simp [t6, e3]
      · rw [if_neg (fun z => e z.2), h1 _ hp]
        apply bs_congr
        intro t ht
        have e3 : ¬ W 10 i = p := fun z => e z.symm
        simp [anyN, e3]
    · intro x h3 h4
      dsimp only
      rw [upI_at, if_neg (by omega)]
      exact h2 x h3 h4
  · rintro ⟨x, S1⟩ ⟨rfl, d, h1, h2⟩
    dsimp only at d h1 h2 ⊢
    have hR1 := Xc_R hR d (by decide)
    (repeat (first | ((with_reducible apply Ok.step); · ((try simp (disch := omega) only [↓reduceIte, Option.bind_some, Sum.elim_inl, Sum.elim_inr, if_true, if_false, rd_nI, wr_nI, rd_z, rd_o, wr_z, wr_o, nI_1, nI_add, pk_mul, nI_leI, nI_ltI, nI_eq, z_le, le_z, z_lt, lt_z, eq_z, eq_o, le_o, o_le, lt_o, o_lt, eq_m1, eq_m2, m1_eq, m2_eq, m1_lt, m1_le, o_z, z_o, m1_z, m1_o, m2_z, m2_o, m2_m1, z_lz, z_lo, o_lz, o_ez, z_ez, z_eo, m2_lt, m2_le, leF, leT, ltF, ltT, eqF, eqT, bI_z, bI_o, sh1, sh0, not_true_eq_false, not_false_eq_true, ne_eq, Bool.true_eq_false, Bool.false_eq_true, true_and, and_true, false_and, and_false, l_2, l_3, l_4, l_5, l_6, l_7, l_8, l_9, l_10, l_11, l_12, l_13, l_14, l_15, l_16, l_17, l_18, l_19, l_20, l_21, l_22, l_23, l_24, l_25, l_26, l_27, l_28, l_29, l_30, l_32, l_33, l_34, l_35, l_36, l_37, l_38, l_39, l_50, l_60, l_99, l_100, l_150, l_160, l_240, l_250, l_300, l_400, l_402, l_403, l_420, l_500, l_600, l_840, l_1000, l_1024, l_2000, l_2047, l_2048, l_10000, l_25600, l_500000, r_has hR1]); with_reducible exact rfl)) | ((with_reducible apply Ok.ifT); · (first | (simp (disch := omega) only [↓reduceIte, Option.bind_some, Sum.elim_inl, Sum.elim_inr, if_true, if_false, rd_nI, wr_nI, rd_z, rd_o, wr_z, wr_o, nI_1, nI_add, pk_mul, nI_leI, nI_ltI, nI_eq, z_le, le_z, z_lt, lt_z, eq_z, eq_o, le_o, o_le, lt_o, o_lt, eq_m1, eq_m2, m1_eq, m2_eq, m1_lt, m1_le, o_z, z_o, m1_z, m1_o, m2_z, m2_o, m2_m1, z_lz, z_lo, o_lz, o_ez, z_ez, z_eo, m2_lt, m2_le, leF, leT, ltF, ltT, eqF, eqT, bI_z, bI_o, sh1, sh0, not_true_eq_false, not_false_eq_true, ne_eq, Bool.true_eq_false, Bool.false_eq_true, true_and, and_true, false_and, and_false, l_2, l_3, l_4, l_5, l_6, l_7, l_8, l_9, l_10, l_11, l_12, l_13, l_14, l_15, l_16, l_17, l_18, l_19, l_20, l_21, l_22, l_23, l_24, l_25, l_26, l_27, l_28, l_29, l_30, l_32, l_33, l_34, l_35, l_36, l_37, l_38, l_39, l_50, l_60, l_99, l_100, l_150, l_160, l_240, l_250, l_300, l_400, l_402, l_403, l_420, l_500, l_600, l_840, l_1000, l_1024, l_2000, l_2047, l_2048, l_10000, l_25600, l_500000, r_has hR1]; done) | omega)) | ((with_reducible apply Ok.ifF); · (first | (simp (disch := omega) only [↓reduceIte, Option.bind_some, Sum.elim_inl, Sum.elim_inr, if_true, if_false, rd_nI, wr_nI, rd_z, rd_o, wr_z, wr_o, nI_1, nI_add, pk_mul, nI_leI, nI_ltI, nI_eq, z_le, le_z, z_lt, lt_z, eq_z, eq_o, le_o, o_le, lt_o, o_lt, eq_m1, eq_m2, m1_eq, m2_eq, m1_lt, m1_le, o_z, z_o, m1_z, m1_o, m2_z, m2_o, m2_m1, z_lz, z_lo, o_lz, o_ez, z_ez, z_eo, m2_lt, m2_le, leF, leT, ltF, ltT, eqF, eqT, bI_z, bI_o, sh1, sh0, not_true_eq_false, not_false_eq_true, ne_eq, Bool.true_eq_false, Bool.false_eq_true, true_and, and_true, false_and, and_false, l_2, l_3, l_4, l_5, l_6, l_7, l_8, l_9, l_10, l_11, l_12, l_13, l_14, l_15, l_16, l_17, l_18, l_19, l_20, l_21, l_22, l_23, l_24, l_25, l_26, l_27, l_28, l_29, l_30, l_32, l_33, l_34, l_35, l_36, l_37, l_38, l_39, l_50, l_60, l_99, l_100, l_150, l_160, l_240, l_250, l_300, l_400, l_402, l_403, l_420, l_500, l_600, l_840, l_1000, l_1024, l_2000, l_2047, l_2048, l_10000, l_25600, l_500000, r_has hR1]; done) | omega)) | with_reducible apply Ok.jnU | with_reducible apply Ok.letsU | with_reducible apply Ok.elL | with_reducible apply Ok.elR | ((with_reducible apply Ok.gdT); · exact bI_nar _)))
    exact Ok.inr ⟨d, h1, h2⟩
  · rintro S1 ⟨d, h1, h2⟩
    refine Ok.ret ⟨d, fun p hp => ?_, fun j hj1 hj2 p hp => ?_⟩
    · rw [Nat.mul_zero, Nat.zero_add]; exact h1 p hp
    · rw [bs_false]; exact h2 _ (by omega) (by omega)
/-- the state in an hour, behind the writings -/
def qA (W : VW) (V : VL) (P : PL) (D : Nat → Bool) (h : Nat) (F : FT2) (p t k : Nat) : Bool := decide (P 1 k = h) && decide (wWhy W V P D F h k = 0) && wTeach W V P D F h k p t
def qB (W : VW) (V : VL) (P : PL) (D : Nat → Bool) (h : Nat) (F : FT2) (a t k : Nat) : Bool := decide (P 1 k = h) && decide (wWhy W V P D F h k = 0) && decide (P 0 k = 2) && decide (P 4 k = t) && decide (wPl W (P 2 k) (P 1 k) = a)
def XF (a j : Nat) : Bool := XD a j || a == 145
theorem XF_XG {S S' : ST} (h : Df XF S S') : Df XG S S' := h.mono (fun a j hx => by
  simp only [XG, XF, Bool.or_eq_false_iff] at hx ⊢
  exact ⟨hx.1, hx.2.1⟩)
theorem XD_XF {S S' : ST} (h : Df XD S S') : Df XF S S' := h.mono (fun a j hx => by
  simp only [XF, Bool.or_eq_false_iff] at hx
  exact hx.1)
theorem XM_XF {S S' : ST} (h : Df XM S S') : Df XF S S' := XD_XF (XM_XD h)
/-- one hour of the plan -/
def RS3 (W : VW) (V : VL) (P : PL) (N : Nat) (D : Nat → Bool) (h : Nat) (F : FT2) (L : Nat → Nat → Bool) (U : Nat → Nat → Nat → Nat) (S3 : ST) (i : Nat) (S : ST) : Prop :=
  Df XF S3 S ∧ (∀ j, j ≠ h + 1 → j < 25 → ∀ L', KRow S3 (W 0 1) j L' → KRow S (W 0 1) j L') ∧ KRow S (W 0 1) (h + 1) (fun p t => L p t || anyN (qA W V P D h F p t) i)
  ∧ (∀ k, k < N → S.1 145 k = if k < i ∧ P 1 k = h then nI (wWhy W V P D F h k) else S3.1 145 k)
  ∧ (∀ s o t, s < 10 → o < 10 → t < 6 → S.1 146 (60 * s + 6 * o + t) = nI (if U s o t ≤ h then U s o t else if anyN (qN W V P D h F s o t) i = true then h + 1 else 99))
  ∧ (∀ a b, a < 6 → b < 32 → bt (S.1 147 a) b = (bt (S3.1 147 a) b || (decide (6 ≤ b) && (decide (b < 12) && anyN (qB W V P D h F a (b - 6)) i))))
theorem XF_R {W : VW} {sd : Nat} {S S' : ST} (hR : RRep W sd S) (h : Df XF S S') : RRep W sd S' := XG_R hR (XF_XG h)
theorem r_doing1 (hR : RRep W sd S) (hW : WF W) (hL : RLw V W sd S) (hn : 30000 ≤ n) (hP : PRef P N S) (hPW : PWF W P N) {F : FT2} {L : Nat → Nat → Bool} {U : Nat → Nat → Nat → Nat} {h i : Nat} {S3 : ST} (hh : h < 24) (hi : i < N) (hU : ∀ s o t, U s o t ≤ h ∨ U s o t = 99) (h3 : KRow S3 (W 0 1) h (fun p t => decide (F p t ≤ h))) (hD : RS3 W V P N (bt (S3.1 95 61)) h F L U S3 i S) {J : ST → Option (Int32 × ST ⊕ ST)} {Q : Int32 × ST ⊕ ST → Prop} (hJ : ∀ S', RS3 W V P N (bt (S3.1 95 61)) h F L U S3 (i + 1) S' → Ok (J S') Q) :
    Ok (if nI (P 1 i) = nI h then (E_X12_whyNot n S (nI i)).bind fun v40 => (wr v40.2 145 30 (nI i) v40.1).bind fun S41 => (rd (S41.1 145) 30 (nI i)).bind fun v42 => if v42 = 0 then (E_X12_does n S41 (nI i)).bind fun S45 => J S45 else J S41 else J S) Q := by
  have hm1 : W 0 1 ≤ 10 := hW.mx (k := 1) (by decide)
  have hm2 : W 0 2 ≤ 6 := hW.mx (k := 2) (by decide)
  have hm0 : W 0 0 ≤ 6 := hW.mx (k := 0) (by decide)
  have hN := hPW.1
  obtain ⟨q0, q1, q2, q4, q03, q11⟩ := hPW.2 i hi
  obtain ⟨d, k1, k2, y, u, z⟩ := hD
  have eD : bt (S.1 95 61) = bt (S3.1 95 61) := by rw [d.2 95 61 rfl]
  generalize hDD : bt (S3.1 95 61) = D at *
  -- where nothing is done
  have skip : ∀ S', Df XM S S' ∨ Df (fun a j => XM a j || (a == 145 && j == i)) S S' → (P 1 i ≠ h ∨ wWhy W V P D F h i ≠ 0) → S'.1 145 i = (if P 1 i = h then nI (wWhy W V P D F h i) else S3.1 145 i) → RS3 W V P N D h F L U S3 (i + 1) S' := by
    intro S' d2 hw hy
    have d2' : Df (fun a j => XM a j || (a == 145 && j == i)) S S' := by
      rcases d2 with d2 | d2
      · exact d2.mono (fun a j hx => by simp only [Bool.or_eq_false_iff] at hx; exact hx.1)
      · exact d2
    have n1 : ∀ p t, qA W V P D h F p t i = false := by
      intro p t; unfold qA
      rcases hw with hw | hw <;> simp [hw]
    have n2 : ∀ s o t, qN W V P D h F s o t i = false := by
      intro s o t; unfold qN
      rcases hw with hw | hw <;> simp [hw]
    have n3 : ∀ a t, qB W V P D h F a t i = false := by
      intro a t; unfold qB
      rcases hw with hw | hw <;> simp [hw]
    refine ⟨d.trans (d2'.mono (fun a j hx => ?_)), ?_, ?_, ?_, ?_, ?_⟩
    · simp only [XF, XD, Bool.or_eq_false_iff] at hx
      simp only [Bool.or_eq_false_iff, hx.1.1, hx.2, Bool.false_and, and_self]
    · intro j h1 h2 L' hL'
      exact (k1 j h1 h2 L' hL').df d2' (fun _ => rfl)
    · refine (k2.df d2' (fun _ => rfl)).congr (fun p t _ _ => ?_)
      simp only [anyN, n1, Bool.or_false]
    · intro k hk
      by_cases e : k = i
      · subst e
        rw [hy]
        by_cases e2 : P 1 k = h
        · rw [if_pos e2, if_pos ⟨by omega, e2⟩]
        · rw [if_neg e2, if_neg (fun x => e2 x.2)]
      · rw [d2'.2 145 k (by simp [XM, e]), y k hk]
        have : (k < i + 1) = (k < i) := by simp; omega
        simp only [this]
    · intro s o t h1 h2 h3
      rw [d2'.2 146 _ rfl, u s o t h1 h2 h3]
      simp only [anyN, n2, Bool.or_false]
    · intro a b h1 h2
      rw [d2'.2 147 _ rfl, z a b h1 h2]
      simp only [anyN, n3, Bool.or_false]
  by_cases c : P 1 i = h
  case neg =>
    refine Ok.ifF (by simp (disch := omega) only [↓reduceIte, Option.bind_some, jn, lets, Sum.elim_inl, Sum.elim_inr, if_true, if_false, rd_nI, wr_nI, rd_z, rd_o, wr_z, wr_o, nI_1, nI_add, pk_mul, nI_leI, nI_ltI, nI_eq, z_le, le_z, z_lt, lt_z, eq_z, eq_o, le_o, o_le, lt_o, o_lt, eq_m1, eq_m2, m1_eq, m2_eq, m1_lt, m1_le, o_z, z_o, m1_z, m1_o, m2_z, m2_o, m2_m1, z_lz, z_lo, o_lz, o_ez, z_ez, z_eo, m2_lt, m2_le, leF, leT, ltF, ltT, eqF, eqT, bI_z, bI_o, sh1, sh0, not_true_eq_false, not_false_eq_true, ne_eq, Bool.true_eq_false, Bool.false_eq_true, true_and, and_true, false_and, and_false, l_2, l_3, l_4, l_5, l_6, l_7, l_8, l_9, l_10, l_11, l_12, l_13, l_14, l_15, l_16, l_17, l_18, l_19, l_20, l_21, l_22, l_23, l_24, l_25, l_26, l_27, l_28, l_29, l_30, l_32, l_33, l_34, l_35, l_36, l_37, l_38, l_39, l_50, l_60, l_99, l_100, l_150, l_160, l_240, l_250, l_300, l_400, l_402, l_403, l_420, l_500, l_600, l_840, l_1000, l_1024, l_2000, l_2047, l_2048, l_10000, l_25600, l_500000, c]) ?_
    refine hJ S (skip S (Or.inl (Df.refl _ _)) (Or.inl c) ?_)
    rw [y i hi, if_neg (by omega), if_neg c]
  refine Ok.ifT (by rw [c]) ?_
  have hK : KRow S (W 0 1) h (fun p t => decide (F p t ≤ h)) := k1 h (by omega) (by omega) _ h3
  obtain ⟨⟨v, S2⟩, e2, h2, d2⟩ := r_whyNot hR hW hL hn hP hPW hi (F := F) (by rw [c]; exact hK)
  dsimp only at h2 d2
  rw [eD, c] at h2
  subst h2
  apply Ok.step e2
  dsimp only
  apply Ok.step (wr_nI (by omega) (by decide))
  apply Ok.step (x := nI (wWhy W V P D F h i)) (by rw [rd_nI (by omega) (by decide), upI_at, if_pos ⟨rfl, rfl⟩])
  have hlt : wWhy W V P D F h i < 6 := by
    unfold wWhy
    repeat' split
    all_goals omega
  by_cases c2 : wWhy W V P D F h i = 0
  case neg =>
    refine Ok.ifF (by simp (disch := omega) only [↓reduceIte, Option.bind_some, jn, lets, Sum.elim_inl, Sum.elim_inr, if_true, if_false, rd_nI, wr_nI, rd_z, rd_o, wr_z, wr_o, nI_1, nI_add, pk_mul, nI_leI, nI_ltI, nI_eq, z_le, le_z, z_lt, lt_z, eq_z, eq_o, le_o, o_le, lt_o, o_lt, eq_m1, eq_m2, m1_eq, m2_eq, m1_lt, m1_le, o_z, z_o, m1_z, m1_o, m2_z, m2_o, m2_m1, z_lz, z_lo, o_lz, o_ez, z_ez, z_eo, m2_lt, m2_le, leF, leT, ltF, ltT, eqF, eqT, bI_z, bI_o, sh1, sh0, not_true_eq_false, not_false_eq_true, ne_eq, Bool.true_eq_false, Bool.false_eq_true, true_and, and_true, false_and, and_false, l_2, l_3, l_4, l_5, l_6, l_7, l_8, l_9, l_10, l_11, l_12, l_13, l_14, l_15, l_16, l_17, l_18, l_19, l_20, l_21, l_22, l_23, l_24, l_25, l_26, l_27, l_28, l_29, l_30, l_32, l_33, l_34, l_35, l_36, l_37, l_38, l_39, l_50, l_60, l_99, l_100, l_150, l_160, l_240, l_250, l_300, l_400, l_402, l_403, l_420, l_500, l_600, l_840, l_1000, l_1024, l_2000, l_2047, l_2048, l_10000, l_25600, l_500000, c2]) ?_
    refine hJ _ (skip _ (Or.inr ?_) (Or.inr c2) ?_)
    · exact (d2.mono (fun a j hx => by simp only [Bool.or_eq_false_iff] at hx; exact hx.1)).up (by simp)
    · rw [upI_at, if_pos ⟨rfl, rfl⟩, if_pos c]
  refine Ok.ifT (by rw [c2]; rfl) ?_
  rw [c2]
  have d4 : Df XF S (upI S2 145 i (nI 0)) := (XM_XF d2).up rfl
  have eD4 : bt ((upI S2 145 i (nI 0)).1 95 61) = D := by rw [d4.2 95 61 rfl, eD]
  have hK4 : KRow (upI S2 145 i (nI 0)) (W 0 1) h (fun p t => decide (F p t ≤ h)) := fun p hp => by
    rw [upI_ne (by decide), d2.2 144 _ rfl]; exact hK p hp
  obtain ⟨S5, e5, d5, f1, f2, f3, f4⟩ := r_does (S := upI S2 145 i (nI 0)) (XF_R hR d4) hW (XG_L hL (XF_XG d4)) hn (XG_P hP (XF_XG d4)) hPW (F := F) hi c hK4 (by rw [eD4]; exact c2)
  rw [eD4] at f2 f3
  apply Ok.step e5
  refine hJ _ ⟨(d.trans d4).trans (XD_XF d5), ?_, ?_, ?_, ?_, ?_⟩
  · intro j h1 h2 L' hL'
    exact f1 j L' h1 (fun p hp => by rw [upI_ne (by decide), d2.2 144 _ rfl]; exact k1 j h1 h2 L' hL' p hp)
  · refine (f2 _ (fun p hp => by rw [upI_ne (by decide), d2.2 144 _ rfl]; exact k2 p hp)).congr (fun p t _ _ => ?_)
    simp only [anyN, qA, c, c2, decide_true, Bool.true_and, Bool.or_assoc]
  · intro k hk
    rw [d5.2 145 k rfl, upI_at]
    by_cases e : k = i
    · subst e
      rw [if_pos ⟨rfl, rfl⟩, if_pos ⟨by omega, c⟩, c2]
    · rw [if_neg (fun x => e x.2), d2.2 145 k rfl, y k hk]
      have : (k < i + 1) = (k < i) := by simp; omega
      simp only [this]
  · intro s o t h1 h2 h3
    rw [f3 s o t h1 h2 h3, upI_ne (by decide), d2.2 146 _ rfl, u s o t h1 h2 h3]
    have hb : qN W V P D h F s o t i = wSee W V P D F h i s o t := by simp [qN, c, c2]
    simp only [anyN, hb]
    have hs1 : wSee W V P D F h i s o t = true → s < W 0 1 := fun x => by
      simp only [wSee, Bool.and_eq_true, decide_eq_true_eq] at x
      exact x.2
    rcases hU s o t with hu | hu
    · rw [if_pos hu, if_neg (fun x => absurd x.2.2 (nI_nlt (by omega) (by omega))), if_pos hu]
    · have hu2 : ¬ U s o t ≤ h := by omega
      rw [if_neg hu2, if_neg hu2]
      by_cases c5 : anyN (qN W V P D h F s o t) i = true
      · rw [if_pos c5, if_neg (fun x => absurd x.2.2 (nI_nlt (by omega) (by omega))), c5]
        rfl
      · rw [if_neg c5]
        simp only [Bool.not_eq_true] at c5
        rw [c5, Bool.false_or]
        by_cases c6 : wSee W V P D F h i s o t = true
        · rw [if_pos ⟨c6, hs1 c6, nI_lt (by omega) (by omega)⟩, if_pos c6]
        · rw [if_neg (fun x => c6 x.1), if_neg c6]
  · intro a b h1 h2
    rw [f4 a]
    rw [upI_ne (by decide), d2.2 147 _ rfl]
    by_cases e : P 0 i = 2 ∧ a = wPl W (P 2 i) h
    · rw [if_pos e, b_or, z a b h1 h2, bt_bit (by omega)]
      have hb : qB W V P D h F a (b - 6) i = decide (P 4 i = b - 6) := by simp [qB, c, c2, e.1, e.2]
      simp only [anyN, hb]
      by_cases g : 6 ≤ b ∧ b < 12
      · have : (b = 6 + P 4 i) = (P 4 i = b - 6) := by apply propext; omega
        simp [g.1, g.2, this, Bool.or_assoc]
      · have g2 : ¬ b = 6 + P 4 i := by omega
        by_cases g3 : 6 ≤ b
        · have g4 : ¬ b < 12 := fun x => g ⟨g3, x⟩
          simp [g2, g4]
        · simp [g2, g3]
    · rw [if_neg e, z a b h1 h2]
      have hb : qB W V P D h F a (b - 6) i = false := by
        by_cases g : P 0 i = 2
        · have : ¬ wPl W (P 2 i) h = a := fun x => e ⟨g, x.symm⟩
          simp [qB, c, this]
        · simp [qB, g]
      simp only [anyN, hb, Bool.or_false]
end RGS
