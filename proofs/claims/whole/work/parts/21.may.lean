/-! ===== laws and who may say to whom: the reference ===== -/
/-- a law of a sort, by its number, of mine, yours, hour, crowd -/
abbrev VL : Type := Nat → Nat → Int32 → Int32 → Int32 → Int32 → Bool
def lawC (a : Nat) : Bool := decide (126 ≤ a ∧ a ≤ 135)
def XM (a j : Nat) : Bool := a == 137 || a == 138 || (a == 95 && j == 60)
def XP (a j : Nat) : Bool := a == 138 || (a == 95 && j == 60)
theorem XP_XM {S S' : ST} (h : Df XP S S') : Df XM S S' := h.mono (fun a j hx => by
  simp only [XM, XP, Bool.or_eq_false_iff] at hx ⊢
  exact ⟨hx.1.2, hx.2⟩)
theorem XM_R {W : VW} {sd : Nat} {S S' : ST} (hR : RRep W sd S) (h : Df XM S S') : RRep W sd S' := hR.df h (fun a j hx => by
  simp only [XM, Bool.or_eq_false_iff, beq_eq_false_iff_ne, Bool.and_eq_false_iff]
  omega)
theorem XM_D {S S' : ST} (h : Df XM S S') : S'.1 95 61 = S.1 95 61 := h.2 95 61 (by decide)
/-- the cells of the laws of a side -/
def lawJ (sd a j : Nat) : Bool := decide (((a = 126 ∨ a = 127) ∧ 8 * sd ≤ j ∧ j < 8 * sd + 8) ∨ ((128 ≤ a ∧ a ≤ 133) ∧ 150 * sd ≤ j ∧ j < 150 * sd + 150) ∨ ((a = 134 ∨ a = 135) ∧ 420 * sd ≤ j ∧ j < 420 * sd + 420))
def RLw (V : VL) (W : VW) (sd : Nat) (S : ST) : Prop := ∀ (S' : ST) (n s k : Nat), 30000 ≤ n → (∀ a j, lawC a = true → lawJ sd a j = true → S'.1 a j = S.1 a j) → s < 2 → k < W 0 (9 + s) → Ok (E_X12_holdsRule n S' (nI (8 * sd + 4 * s + k))) (fun r => r.1 = bI (V s k (S'.1 137 0) (S'.1 137 1) (S'.1 137 2) (S'.1 137 3)) ∧ Df XP S' r.2)
theorem RLw.df {V : VL} {W : VW} {sd : Nat} {S S' : ST} {X : Nat → Nat → Bool} (h : RLw V W sd S) (d : Df X S S') (hx : ∀ a j, lawC a = true → X a j = false) : RLw V W sd S' := fun S1 n s k hn hl hs hk => h S1 n s k hn (fun a j ha hj => (hl a j ha hj).trans (d.2 a j (hx a j ha))) hs hk
theorem RLw.fr {V : VL} {W : VW} {sd : Nat} {S S' : ST} (h : RLw V W sd S) (e : ∀ a j, lawC a = true → lawJ sd a j = true → S'.1 a j = S.1 a j) : RLw V W sd S' := fun S1 n s k hn hl hs hk => h S1 n s k hn (fun a j ha hj => (hl a j ha hj).trans (e a j ha hj)) hs hk
theorem XM_L {V : VL} {W : VW} {sd : Nat} {S S' : ST} (h : RLw V W sd S) (d : Df XM S S') : RLw V W sd S' := h.df d (fun a j hx => by
  simp only [lawC, decide_eq_true_eq] at hx
  simp only [XM, Bool.or_eq_false_iff, beq_eq_false_iff_ne, Bool.and_eq_false_iff]
  omega)
def wLaw (W : VW) (V : VL) (D : Nat → Bool) (p o h s : Nat) : Bool := if W 0 (9 + s) = 0 then s == 1 || decide (wAge W p h ≤ wAge W o h) else anyN (fun k => V s k (nI (wAge W p h)) (nI (wAge W o h)) (nI h) (nI (cnt (wStand W D (wPl W p h) h) (W 0 1)))) (W 0 (9 + s))
def wMayL (W : VW) (V : VL) (D : Nat → Bool) (p o h s l : Nat) : Bool := decide (p ≠ o) && (decide (l ≠ 3) && (wOn W D p && (wOn W D o && (decide (wPl W o h = wPl W p h) && (if l = 2 then true else if l = 1 then decide (wAge W o h ≤ wAge W p h) else wLaw W V D p o h s)))))
section REF3
variable {W : VW} {V : VL} {sd n : Nat} {S : ST}
theorem wAge_le (hW : WF W) {p h : Nat} (hp : p < W 0 1) : wAge W p h ≤ 100 := by
  have := (hW.2.1 p hp).1
  unfold wAge
  split <;> omega
theorem r_mayBy (hR : RRep W sd S) (hW : WF W) (hL : RLw V W sd S) (hn : 30000 ≤ n) {p o h s l : Nat} (hp : p < W 0 1) (ho : o < W 0 1) (hh : h < 1000) (hs : s < 2) (hl : l < 4) : Ok (E_X12_mayBy n S (nI p) (nI o) (nI h) (nI s) (nI l)) (fun r => r.1 = bI (wMayL W V (bt (S.1 95 61)) p o h s l) ∧ Df XM S r.2) := by
  have hm1 : W 0 1 ≤ 10 := hW.mx (k := 1) (by decide)
  have hm0 : W 0 0 ≤ 6 := hW.mx (k := 0) (by decide)
  have hsd := hR.1
  have ha1 := wAge_le hW (h := h) hp
  have ha2 := wAge_le hW (h := h) ho
  unfold E_X12_mayBy
  rw [r_placeOf hR hW hn hp hh, Option.bind_some]
  by_cases c1 : p = o
  · refine ⟨(0, S), by rw [if_pos (by rw [c1])], ?_, Df.refl _ _⟩
    simp [wMayL, bI, c1]
  by_cases c2 : l = 3
  · refine ⟨(0, S), ?_, ?_, Df.refl _ _⟩
    · simp (disch := omega) only [↓reduceIte, Option.bind_some, jn, lets, Sum.elim_inl, Sum.elim_inr, if_true, if_false, rd_nI, wr_nI, rd_z, rd_o, wr_z, wr_o, nI_1, nI_add, pk_mul, nI_leI, nI_ltI, nI_eq, z_le, le_z, z_lt, lt_z, eq_z, eq_o, le_o, o_le, lt_o, o_lt, eq_m1, eq_m2, m1_eq, m2_eq, m1_lt, m1_le, o_z, z_o, m1_z, m1_o, m2_z, m2_o, m2_m1, z_lz, z_lo, o_lz, o_ez, z_ez, z_eo, m2_lt, m2_le, leF, leT, ltF, ltT, eqF, eqT, bI_z, bI_o, sh1, sh0, not_true_eq_false, not_false_eq_true, ne_eq, Bool.true_eq_false, Bool.false_eq_true, true_and, and_true, false_and, and_false, l_2, l_3, l_4, l_5, l_6, l_7, l_8, l_9, l_10, l_11, l_12, l_13, l_14, l_15, l_16, l_17, l_18, l_19, l_20, l_21, l_22, l_23, l_24, l_25, l_26, l_27, l_28, l_29, l_30, l_32, l_33, l_34, l_35, l_36, l_37, l_38, l_39, l_50, l_60, l_99, l_100, l_150, l_160, l_240, l_250, l_300, l_400, l_402, l_403, l_420, l_500, l_600, l_840, l_1000, l_1024, l_2000, l_2047, l_2048, l_10000, l_25600, l_500000, c2]
    · simp [wMayL, bI, c2]
  by_cases c3 : wOn W (bt (S.1 95 61)) p = true
  case neg =>
    refine ⟨(0, S), ?_, ?_, Df.refl _ _⟩
    · simp (disch := omega) only [↓reduceIte, Option.bind_some, jn, lets, Sum.elim_inl, Sum.elim_inr, if_true, if_false, rd_nI, wr_nI, rd_z, rd_o, wr_z, wr_o, nI_1, nI_add, pk_mul, nI_leI, nI_ltI, nI_eq, z_le, le_z, z_lt, lt_z, eq_z, eq_o, le_o, o_le, lt_o, o_lt, eq_m1, eq_m2, m1_eq, m2_eq, m1_lt, m1_le, o_z, z_o, m1_z, m1_o, m2_z, m2_o, m2_m1, z_lz, z_lo, o_lz, o_ez, z_ez, z_eo, m2_lt, m2_le, leF, leT, ltF, ltT, eqF, eqT, bI_z, bI_o, sh1, sh0, not_true_eq_false, not_false_eq_true, ne_eq, Bool.true_eq_false, Bool.false_eq_true, true_and, and_true, false_and, and_false, l_2, l_3, l_4, l_5, l_6, l_7, l_8, l_9, l_10, l_11, l_12, l_13, l_14, l_15, l_16, l_17, l_18, l_19, l_20, l_21, l_22, l_23, l_24, l_25, l_26, l_27, l_28, l_29, l_30, l_32, l_33, l_34, l_35, l_36, l_37, l_38, l_39, l_50, l_60, l_99, l_100, l_150, l_160, l_240, l_250, l_300, l_400, l_402, l_403, l_420, l_500, l_600, l_840, l_1000, l_1024, l_2000, l_2047, l_2048, l_10000, l_25600, l_500000, c3]
    · simp [wMayL, bI, c3]
  have h0 : 0 < W 0 0 := by
    simp [wOn] at c3
    omega
  have hpl := wPl_lt hW h0 p h
  have hplo := wPl_lt hW h0 o h
  simp (disch := omega) only [↓reduceIte, Option.bind_some, jn, lets, Sum.elim_inl, Sum.elim_inr, if_true, if_false, rd_nI, wr_nI, rd_z, rd_o, wr_z, wr_o, nI_1, nI_add, pk_mul, nI_leI, nI_ltI, nI_eq, z_le, le_z, z_lt, lt_z, eq_z, eq_o, le_o, o_le, lt_o, o_lt, eq_m1, eq_m2, m1_eq, m2_eq, m1_lt, m1_le, o_z, z_o, m1_z, m1_o, m2_z, m2_o, m2_m1, z_lz, z_lo, o_lz, o_ez, z_ez, z_eo, m2_lt, m2_le, leF, leT, ltF, ltT, eqF, eqT, bI_z, bI_o, sh1, sh0, not_true_eq_false, not_false_eq_true, ne_eq, Bool.true_eq_false, Bool.false_eq_true, true_and, and_true, false_and, and_false, l_2, l_3, l_4, l_5, l_6, l_7, l_8, l_9, l_10, l_11, l_12, l_13, l_14, l_15, l_16, l_17, l_18, l_19, l_20, l_21, l_22, l_23, l_24, l_25, l_26, l_27, l_28, l_29, l_30, l_32, l_33, l_34, l_35, l_36, l_37, l_38, l_39, l_50, l_60, l_99, l_100, l_150, l_160, l_240, l_250, l_300, l_400, l_402, l_403, l_420, l_500, l_600, l_840, l_1000, l_1024, l_2000, l_2047, l_2048, l_10000, l_25600, l_500000, c3, r_placeOf hR hW hn ho hh]
  by_cases c4 : wOn W (bt (S.1 95 61)) o = true
  case neg =>
    refine ⟨(0, S), ?_, ?_, Df.refl _ _⟩
    · simp (disch := omega) only [↓reduceIte, Option.bind_some, jn, lets, Sum.elim_inl, Sum.elim_inr, if_true, if_false, rd_nI, wr_nI, rd_z, rd_o, wr_z, wr_o, nI_1, nI_add, pk_mul, nI_leI, nI_ltI, nI_eq, z_le, le_z, z_lt, lt_z, eq_z, eq_o, le_o, o_le, lt_o, o_lt, eq_m1, eq_m2, m1_eq, m2_eq, m1_lt, m1_le, o_z, z_o, m1_z, m1_o, m2_z, m2_o, m2_m1, z_lz, z_lo, o_lz, o_ez, z_ez, z_eo, m2_lt, m2_le, leF, leT, ltF, ltT, eqF, eqT, bI_z, bI_o, sh1, sh0, not_true_eq_false, not_false_eq_true, ne_eq, Bool.true_eq_false, Bool.false_eq_true, true_and, and_true, false_and, and_false, l_2, l_3, l_4, l_5, l_6, l_7, l_8, l_9, l_10, l_11, l_12, l_13, l_14, l_15, l_16, l_17, l_18, l_19, l_20, l_21, l_22, l_23, l_24, l_25, l_26, l_27, l_28, l_29, l_30, l_32, l_33, l_34, l_35, l_36, l_37, l_38, l_39, l_50, l_60, l_99, l_100, l_150, l_160, l_240, l_250, l_300, l_400, l_402, l_403, l_420, l_500, l_600, l_840, l_1000, l_1024, l_2000, l_2047, l_2048, l_10000, l_25600, l_500000, c4]
    · simp [wMayL, bI, c4]
  by_cases c5 : wPl W o h = wPl W p h
  case neg =>
    refine ⟨(0, S), ?_, ?_, Df.refl _ _⟩
    · simp (disch := omega) only [↓reduceIte, Option.bind_some, jn, lets, Sum.elim_inl, Sum.elim_inr, if_true, if_false, rd_nI, wr_nI, rd_z, rd_o, wr_z, wr_o, nI_1, nI_add, pk_mul, nI_leI, nI_ltI, nI_eq, z_le, le_z, z_lt, lt_z, eq_z, eq_o, le_o, o_le, lt_o, o_lt, eq_m1, eq_m2, m1_eq, m2_eq, m1_lt, m1_le, o_z, z_o, m1_z, m1_o, m2_z, m2_o, m2_m1, z_lz, z_lo, o_lz, o_ez, z_ez, z_eo, m2_lt, m2_le, leF, leT, ltF, ltT, eqF, eqT, bI_z, bI_o, sh1, sh0, not_true_eq_false, not_false_eq_true, ne_eq, Bool.true_eq_false, Bool.false_eq_true, true_and, and_true, false_and, and_false, l_2, l_3, l_4, l_5, l_6, l_7, l_8, l_9, l_10, l_11, l_12, l_13, l_14, l_15, l_16, l_17, l_18, l_19, l_20, l_21, l_22, l_23, l_24, l_25, l_26, l_27, l_28, l_29, l_30, l_32, l_33, l_34, l_35, l_36, l_37, l_38, l_39, l_50, l_60, l_99, l_100, l_150, l_160, l_240, l_250, l_300, l_400, l_402, l_403, l_420, l_500, l_600, l_840, l_1000, l_1024, l_2000, l_2047, l_2048, l_10000, l_25600, l_500000, c4, c5]
    · simp [wMayL, bI, c5]
  by_cases c6 : l = 2
  · refine ⟨(1, S), ?_, ?_, Df.refl _ _⟩
    · simp (disch := omega) only [↓reduceIte, Option.bind_some, jn, lets, Sum.elim_inl, Sum.elim_inr, if_true, if_false, rd_nI, wr_nI, rd_z, rd_o, wr_z, wr_o, nI_1, nI_add, pk_mul, nI_leI, nI_ltI, nI_eq, z_le, le_z, z_lt, lt_z, eq_z, eq_o, le_o, o_le, lt_o, o_lt, eq_m1, eq_m2, m1_eq, m2_eq, m1_lt, m1_le, o_z, z_o, m1_z, m1_o, m2_z, m2_o, m2_m1, z_lz, z_lo, o_lz, o_ez, z_ez, z_eo, m2_lt, m2_le, leF, leT, ltF, ltT, eqF, eqT, bI_z, bI_o, sh1, sh0, not_true_eq_false, not_false_eq_true, ne_eq, Bool.true_eq_false, Bool.false_eq_true, true_and, and_true, false_and, and_false, l_2, l_3, l_4, l_5, l_6, l_7, l_8, l_9, l_10, l_11, l_12, l_13, l_14, l_15, l_16, l_17, l_18, l_19, l_20, l_21, l_22, l_23, l_24, l_25, l_26, l_27, l_28, l_29, l_30, l_32, l_33, l_34, l_35, l_36, l_37, l_38, l_39, l_50, l_60, l_99, l_100, l_150, l_160, l_240, l_250, l_300, l_400, l_402, l_403, l_420, l_500, l_600, l_840, l_1000, l_1024, l_2000, l_2047, l_2048, l_10000, l_25600, l_500000, c4, c5, c6]
    · simp [wMayL, bI, c1, c3, c4, c5, c6]
  by_cases c7 : l = 1
  · refine ⟨(bI (decide (wAge W o h ≤ wAge W p h)), S), ?_, ?_, Df.refl _ _⟩
    · simp (disch := omega) only [↓reduceIte, Option.bind_some, jn, lets, Sum.elim_inl, Sum.elim_inr, if_true, if_false, rd_nI, wr_nI, rd_z, rd_o, wr_z, wr_o, nI_1, nI_add, pk_mul, nI_leI, nI_ltI, nI_eq, z_le, le_z, z_lt, lt_z, eq_z, eq_o, le_o, o_le, lt_o, o_lt, eq_m1, eq_m2, m1_eq, m2_eq, m1_lt, m1_le, o_z, z_o, m1_z, m1_o, m2_z, m2_o, m2_m1, z_lz, z_lo, o_lz, o_ez, z_ez, z_eo, m2_lt, m2_le, leF, leT, ltF, ltT, eqF, eqT, bI_z, bI_o, sh1, sh0, not_true_eq_false, not_false_eq_true, ne_eq, Bool.true_eq_false, Bool.false_eq_true, true_and, and_true, false_and, and_false, l_2, l_3, l_4, l_5, l_6, l_7, l_8, l_9, l_10, l_11, l_12, l_13, l_14, l_15, l_16, l_17, l_18, l_19, l_20, l_21, l_22, l_23, l_24, l_25, l_26, l_27, l_28, l_29, l_30, l_32, l_33, l_34, l_35, l_36, l_37, l_38, l_39, l_50, l_60, l_99, l_100, l_150, l_160, l_240, l_250, l_300, l_400, l_402, l_403, l_420, l_500, l_600, l_840, l_1000, l_1024, l_2000, l_2047, l_2048, l_10000, l_25600, l_500000, c4, c5, c7, r_ageAt hR hW hp hh, r_ageAt hR hW ho hh]
      by_cases c8 : wAge W o h ≤ wAge W p h
      · simp (disch := omega) only [↓reduceIte, Option.bind_some, jn, lets, Sum.elim_inl, Sum.elim_inr, if_true, if_false, rd_nI, wr_nI, rd_z, rd_o, wr_z, wr_o, nI_1, nI_add, pk_mul, nI_leI, nI_ltI, nI_eq, z_le, le_z, z_lt, lt_z, eq_z, eq_o, le_o, o_le, lt_o, o_lt, eq_m1, eq_m2, m1_eq, m2_eq, m1_lt, m1_le, o_z, z_o, m1_z, m1_o, m2_z, m2_o, m2_m1, z_lz, z_lo, o_lz, o_ez, z_ez, z_eo, m2_lt, m2_le, leF, leT, ltF, ltT, eqF, eqT, bI_z, bI_o, sh1, sh0, not_true_eq_false, not_false_eq_true, ne_eq, Bool.true_eq_false, Bool.false_eq_true, true_and, and_true, false_and, and_false, l_2, l_3, l_4, l_5, l_6, l_7, l_8, l_9, l_10, l_11, l_12, l_13, l_14, l_15, l_16, l_17, l_18, l_19, l_20, l_21, l_22, l_23, l_24, l_25, l_26, l_27, l_28, l_29, l_30, l_32, l_33, l_34, l_35, l_36, l_37, l_38, l_39, l_50, l_60, l_99, l_100, l_150, l_160, l_240, l_250, l_300, l_400, l_402, l_403, l_420, l_500, l_600, l_840, l_1000, l_1024, l_2000, l_2047, l_2048, l_10000, l_25600, l_500000, c8]
        simp [bI]
      · simp (disch := omega) only [↓reduceIte, Option.bind_some, jn, lets, Sum.elim_inl, Sum.elim_inr, if_true, if_false, rd_nI, wr_nI, rd_z, rd_o, wr_z, wr_o, nI_1, nI_add, pk_mul, nI_leI, nI_ltI, nI_eq, z_le, le_z, z_lt, lt_z, eq_z, eq_o, le_o, o_le, lt_o, o_lt, eq_m1, eq_m2, m1_eq, m2_eq, m1_lt, m1_le, o_z, z_o, m1_z, m1_o, m2_z, m2_o, m2_m1, z_lz, z_lo, o_lz, o_ez, z_ez, z_eo, m2_lt, m2_le, leF, leT, ltF, ltT, eqF, eqT, bI_z, bI_o, sh1, sh0, not_true_eq_false, not_false_eq_true, ne_eq, Bool.true_eq_false, Bool.false_eq_true, true_and, and_true, false_and, and_false, l_2, l_3, l_4, l_5, l_6, l_7, l_8, l_9, l_10, l_11, l_12, l_13, l_14, l_15, l_16, l_17, l_18, l_19, l_20, l_21, l_22, l_23, l_24, l_25, l_26, l_27, l_28, l_29, l_30, l_32, l_33, l_34, l_35, l_36, l_37, l_38, l_39, l_50, l_60, l_99, l_100, l_150, l_160, l_240, l_250, l_300, l_400, l_402, l_403, l_420, l_500, l_600, l_840, l_1000, l_1024, l_2000, l_2047, l_2048, l_10000, l_25600, l_500000, c8]
        simp [bI]
    · simp [wMayL, c1, c3, c4, c5, c7]
  have e : wMayL W V (bt (S.1 95 61)) p o h s l = wLaw W V (bt (S.1 95 61)) p o h s := by simp [wMayL, c1, c2, c3, c4, c5, c6, c7]
  rw [e]
  have hx : W 0 (9 + s) ≤ 4 := by
    rcases (show s = 0 ∨ s = 1 by omega) with rfl | rfl
    · exact hW.mx (k := 9) (by decide)
    · exact hW.mx (k := 10) (by decide)
  simp (disch := omega) only [↓reduceIte, Option.bind_some, jn, lets, Sum.elim_inl, Sum.elim_inr, if_true, if_false, rd_nI, wr_nI, rd_z, rd_o, wr_z, wr_o, nI_1, nI_add, pk_mul, nI_leI, nI_ltI, nI_eq, z_le, le_z, z_lt, lt_z, eq_z, eq_o, le_o, o_le, lt_o, o_lt, eq_m1, eq_m2, m1_eq, m2_eq, m1_lt, m1_le, o_z, z_o, m1_z, m1_o, m2_z, m2_o, m2_m1, z_lz, z_lo, o_lz, o_ez, z_ez, z_eo, m2_lt, m2_le, leF, leT, ltF, ltT, eqF, eqT, bI_z, bI_o, sh1, sh0, not_true_eq_false, not_false_eq_true, ne_eq, Bool.true_eq_false, Bool.false_eq_true, true_and, and_true, false_and, and_false, l_2, l_3, l_4, l_5, l_6, l_7, l_8, l_9, l_10, l_11, l_12, l_13, l_14, l_15, l_16, l_17, l_18, l_19, l_20, l_21, l_22, l_23, l_24, l_25, l_26, l_27, l_28, l_29, l_30, l_32, l_33, l_34, l_35, l_36, l_37, l_38, l_39, l_50, l_60, l_99, l_100, l_150, l_160, l_240, l_250, l_300, l_400, l_402, l_403, l_420, l_500, l_600, l_840, l_1000, l_1024, l_2000, l_2047, l_2048, l_10000, l_25600, l_500000, c4, c5, r_ageAt hR hW hp hh, r_ageAt hR hW ho hh, hR.2.1, hR.2.2.2.2.1]
  by_cases c8 : W 0 (9 + s) = 0
  · unfold wLaw
    rw [if_pos c8, if_pos c8]
    by_cases c9 : s = 1
    · exact ⟨(1, S), by simp (disch := omega) only [↓reduceIte, Option.bind_some, jn, lets, Sum.elim_inl, Sum.elim_inr, if_true, if_false, rd_nI, wr_nI, rd_z, rd_o, wr_z, wr_o, nI_1, nI_add, pk_mul, nI_leI, nI_ltI, nI_eq, z_le, le_z, z_lt, lt_z, eq_z, eq_o, le_o, o_le, lt_o, o_lt, eq_m1, eq_m2, m1_eq, m2_eq, m1_lt, m1_le, o_z, z_o, m1_z, m1_o, m2_z, m2_o, m2_m1, z_lz, z_lo, o_lz, o_ez, z_ez, z_eo, m2_lt, m2_le, leF, leT, ltF, ltT, eqF, eqT, bI_z, bI_o, sh1, sh0, not_true_eq_false, not_false_eq_true, ne_eq, Bool.true_eq_false, Bool.false_eq_true, true_and, and_true, false_and, and_false, l_2, l_3, l_4, l_5, l_6, l_7, l_8, l_9, l_10, l_11, l_12, l_13, l_14, l_15, l_16, l_17, l_18, l_19, l_20, l_21, l_22, l_23, l_24, l_25, l_26, l_27, l_28, l_29, l_30, l_32, l_33, l_34, l_35, l_36, l_37, l_38, l_39, l_50, l_60, l_99, l_100, l_150, l_160, l_240, l_250, l_300, l_400, l_402, l_403, l_420, l_500, l_600, l_840, l_1000, l_1024, l_2000, l_2047, l_2048, l_10000, l_25600, l_500000, c9], by simp [c9, bI], Df.refl _ _⟩
    · by_cases c10 : wAge W p h ≤ wAge W o h
      · exact ⟨(1, S), by simp (disch := omega) only [↓reduceIte, Option.bind_some, jn, lets, Sum.elim_inl, Sum.elim_inr, if_true, if_false, rd_nI, wr_nI, rd_z, rd_o, wr_z, wr_o, nI_1, nI_add, pk_mul, nI_leI, nI_ltI, nI_eq, z_le, le_z, z_lt, lt_z, eq_z, eq_o, le_o, o_le, lt_o, o_lt, eq_m1, eq_m2, m1_eq, m2_eq, m1_lt, m1_le, o_z, z_o, m1_z, m1_o, m2_z, m2_o, m2_m1, z_lz, z_lo, o_lz, o_ez, z_ez, z_eo, m2_lt, m2_le, leF, leT, ltF, ltT, eqF, eqT, bI_z, bI_o, sh1, sh0, not_true_eq_false, not_false_eq_true, ne_eq, Bool.true_eq_false, Bool.false_eq_true, true_and, and_true, false_and, and_false, l_2, l_3, l_4, l_5, l_6, l_7, l_8, l_9, l_10, l_11, l_12, l_13, l_14, l_15, l_16, l_17, l_18, l_19, l_20, l_21, l_22, l_23, l_24, l_25, l_26, l_27, l_28, l_29, l_30, l_32, l_33, l_34, l_35, l_36, l_37, l_38, l_39, l_50, l_60, l_99, l_100, l_150, l_160, l_240, l_250, l_300, l_400, l_402, l_403, l_420, l_500, l_600, l_840, l_1000, l_1024, l_2000, l_2047, l_2048, l_10000, l_25600, l_500000, c9, c10], by simp [c9, c10, bI], Df.refl _ _⟩
      · exact ⟨(0, S), by simp (disch := omega) only [↓reduceIte, Option.bind_some, jn, lets, Sum.elim_inl, Sum.elim_inr, if_true, if_false, rd_nI, wr_nI, rd_z, rd_o, wr_z, wr_o, nI_1, nI_add, pk_mul, nI_leI, nI_ltI, nI_eq, z_le, le_z, z_lt, lt_z, eq_z, eq_o, le_o, o_le, lt_o, o_lt, eq_m1, eq_m2, m1_eq, m2_eq, m1_lt, m1_le, o_z, z_o, m1_z, m1_o, m2_z, m2_o, m2_m1, z_lz, z_lo, o_lz, o_ez, z_ez, z_eo, m2_lt, m2_le, leF, leT, ltF, ltT, eqF, eqT, bI_z, bI_o, sh1, sh0, not_true_eq_false, not_false_eq_true, ne_eq, Bool.true_eq_false, Bool.false_eq_true, true_and, and_true, false_and, and_false, l_2, l_3, l_4, l_5, l_6, l_7, l_8, l_9, l_10, l_11, l_12, l_13, l_14, l_15, l_16, l_17, l_18, l_19, l_20, l_21, l_22, l_23, l_24, l_25, l_26, l_27, l_28, l_29, l_30, l_32, l_33, l_34, l_35, l_36, l_37, l_38, l_39, l_50, l_60, l_99, l_100, l_150, l_160, l_240, l_250, l_300, l_400, l_402, l_403, l_420, l_500, l_600, l_840, l_1000, l_1024, l_2000, l_2047, l_2048, l_10000, l_25600, l_500000, c9, c10], by simp [c9, c10, bI], Df.refl _ _⟩
  simp (disch := omega) only [↓reduceIte, Option.bind_some, jn, lets, Sum.elim_inl, Sum.elim_inr, if_true, if_false, rd_nI, wr_nI, rd_z, rd_o, wr_z, wr_o, nI_1, nI_add, pk_mul, nI_leI, nI_ltI, nI_eq, z_le, le_z, z_lt, lt_z, eq_z, eq_o, le_o, o_le, lt_o, o_lt, eq_m1, eq_m2, m1_eq, m2_eq, m1_lt, m1_le, o_z, z_o, m1_z, m1_o, m2_z, m2_o, m2_m1, z_lz, z_lo, o_lz, o_ez, z_ez, z_eo, m2_lt, m2_le, leF, leT, ltF, ltT, eqF, eqT, bI_z, bI_o, sh1, sh0, not_true_eq_false, not_false_eq_true, ne_eq, Bool.true_eq_false, Bool.false_eq_true, true_and, and_true, false_and, and_false, l_2, l_3, l_4, l_5, l_6, l_7, l_8, l_9, l_10, l_11, l_12, l_13, l_14, l_15, l_16, l_17, l_18, l_19, l_20, l_21, l_22, l_23, l_24, l_25, l_26, l_27, l_28, l_29, l_30, l_32, l_33, l_34, l_35, l_36, l_37, l_38, l_39, l_50, l_60, l_99, l_100, l_150, l_160, l_240, l_250, l_300, l_400, l_402, l_403, l_420, l_500, l_600, l_840, l_1000, l_1024, l_2000, l_2047, l_2048, l_10000, l_25600, l_500000, c8]
  have d19 : Df XM S (upI (upI (upI S 137 0 (nI (wAge W p h))) 137 1 (nI (wAge W o h))) 137 2 (nI h)) := (((Df.refl _ _).up rfl).up rfl).up rfl
  have eD : (upI (upI (upI S 137 0 (nI (wAge W p h))) 137 1 (nI (wAge W o h))) 137 2 (nI h)).1 95 61 = S.1 95 61 := XM_D d19
  have ec : cnt (bt (bs (wStand W (bt (S.1 95 61)) (wPl W p h) h) (W 0 1))) 10 = cnt (wStand W (bt (S.1 95 61)) (wPl W p h) h) (W 0 1) := cnt_ext hm1 (fun i hi => bt_bs _ _ (by omega) i)
  rw [r_crowdAt (XM_R hR d19) hW hn (by omega) hh, Option.bind_some, r_bits hn, Option.bind_some, eD, ec]
  have d22 : Df XM S (upI (upI (upI (upI S 137 0 (nI (wAge W p h))) 137 1 (nI (wAge W o h))) 137 2 (nI h)) 137 3 (nI (cnt (wStand W (bt (S.1 95 61)) (wPl W p h) h) (W 0 1)))) := d19.up rfl
  have ew : wLaw W V (bt (S.1 95 61)) p o h s = anyN (fun k => V s k (nI (wAge W p h)) (nI (wAge W o h)) (nI h) (nI (cnt (wStand W (bt (S.1 95 61)) (wPl W p h) h) (W 0 1)))) (W 0 (9 + s)) := by unfold wLaw; rw [if_neg c8]
  rw [ew]
  generalize hVV : (fun k => V s k (nI (wAge W p h)) (nI (wAge W o h)) (nI h) (nI (cnt (wStand W (bt (S.1 95 61)) (wPl W p h) h) (W 0 1)))) = VV
  refine bindL (fun i q => q.1 = nI i ∧ Df XM S q.2 ∧ (q.2.1 137 0 = nI (wAge W p h) ∧ q.2.1 137 1 = nI (wAge W o h) ∧ q.2.1 137 2 = nI h ∧ q.2.1 137 3 = nI (cnt (wStand W (bt (S.1 95 61)) (wPl W p h) h) (W 0 1))) ∧ ∀ j, j < i → VV j = false)
    (Sum.elim (fun S' => Df XM S S' ∧ anyN VV (W 0 (9 + s)) = false) (fun r => r.1 = 1 ∧ Df XM S r.2 ∧ anyN VV (W 0 (9 + s)) = true)) 0 (W 0 (9 + s)) (Nat.zero_le _) (by omega) ⟨rfl, d22, ⟨by simp [upI_at], by simp [upI_at], by simp [upI_at], by simp [upI_at]⟩, fun j hj => absurd hj (by omega)⟩ ?_ ?_ ?_
  · rintro i ⟨x, S1⟩ _ hi ⟨rfl, d1, ⟨v0, v1, v2, v3⟩, hf⟩
    dsimp only at v0 v1 v2 v3 d1 ⊢
    have hR1 := XM_R hR d1
    obtain ⟨⟨v, S2⟩, e2, h2, d2⟩ := XM_L hL d1 S1 n s i hn (fun _ _ _ _ => rfl) hs hi
    dsimp only at h2 d2
    rw [v0, v1, v2, v3] at h2
    have h3 : v = bI (VV i) := by rw [← hVV]; exact h2
    subst h3
    simp (disch := omega) only [↓reduceIte, Option.bind_some, jn, lets, Sum.elim_inl, Sum.elim_inr, if_true, if_false, rd_nI, wr_nI, rd_z, rd_o, wr_z, wr_o, nI_1, nI_add, pk_mul, nI_leI, nI_ltI, nI_eq, z_le, le_z, z_lt, lt_z, eq_z, eq_o, le_o, o_le, lt_o, o_lt, eq_m1, eq_m2, m1_eq, m2_eq, m1_lt, m1_le, o_z, z_o, m1_z, m1_o, m2_z, m2_o, m2_m1, z_lz, z_lo, o_lz, o_ez, z_ez, z_eo, m2_lt, m2_le, leF, leT, ltF, ltT, eqF, eqT, bI_z, bI_o, sh1, sh0, not_true_eq_false, not_false_eq_true, ne_eq, Bool.true_eq_false, Bool.false_eq_true, true_and, and_true, false_and, and_false, l_2, l_3, l_4, l_5, l_6, l_7, l_8, l_9, l_10, l_11, l_12, l_13, l_14, l_15, l_16, l_17, l_18, l_19, l_20, l_21, l_22, l_23, l_24, l_25, l_26, l_27, l_28, l_29, l_30, l_32, l_33, l_34, l_35, l_36, l_37, l_38, l_39, l_50, l_60, l_99, l_100, l_150, l_160, l_240, l_250, l_300, l_400, l_402, l_403, l_420, l_500, l_600, l_840, l_1000, l_1024, l_2000, l_2047, l_2048, l_10000, l_25600, l_500000, hR1.2.1, hR1.2.2.2.2.1, e2]
    cases hv : VV i
    · rw [if_pos rfl]
      refine Ok.inl ⟨rfl, d1.trans (XP_XM d2), ?_, ?_⟩
      · rw [← v0, ← v1, ← v2, ← v3]
        exact ⟨d2.2 _ _ rfl, d2.2 _ _ rfl, d2.2 _ _ rfl, d2.2 _ _ rfl⟩
      · intro j hj
        by_cases ej : j = i
        · subst ej; exact hv
        · exact hf j (by omega)
    · rw [if_neg (by simp)]
      exact Ok.inr ⟨rfl, d1.trans (XP_XM d2), anyN_iff.mpr ⟨i, hi, hv⟩⟩
  · rintro ⟨x, S1⟩ ⟨rfl, d1, _, hf⟩
    dsimp only at d1 ⊢
    have hR1 := XM_R hR d1
    simp (disch := omega) only [↓reduceIte, Option.bind_some, jn, lets, Sum.elim_inl, Sum.elim_inr, if_true, if_false, rd_nI, wr_nI, rd_z, rd_o, wr_z, wr_o, nI_1, nI_add, pk_mul, nI_leI, nI_ltI, nI_eq, z_le, le_z, z_lt, lt_z, eq_z, eq_o, le_o, o_le, lt_o, o_lt, eq_m1, eq_m2, m1_eq, m2_eq, m1_lt, m1_le, o_z, z_o, m1_z, m1_o, m2_z, m2_o, m2_m1, z_lz, z_lo, o_lz, o_ez, z_ez, z_eo, m2_lt, m2_le, leF, leT, ltF, ltT, eqF, eqT, bI_z, bI_o, sh1, sh0, not_true_eq_false, not_false_eq_true, ne_eq, Bool.true_eq_false, Bool.false_eq_true, true_and, and_true, false_and, and_false, l_2, l_3, l_4, l_5, l_6, l_7, l_8, l_9, l_10, l_11, l_12, l_13, l_14, l_15, l_16, l_17, l_18, l_19, l_20, l_21, l_22, l_23, l_24, l_25, l_26, l_27, l_28, l_29, l_30, l_32, l_33, l_34, l_35, l_36, l_37, l_38, l_39, l_50, l_60, l_99, l_100, l_150, l_160, l_240, l_250, l_300, l_400, l_402, l_403, l_420, l_500, l_600, l_840, l_1000, l_1024, l_2000, l_2047, l_2048, l_10000, l_25600, l_500000, hR1.2.1, hR1.2.2.2.2.1]
    exact Ok.inr ⟨d1, anyN_f.mpr hf⟩
  · rintro (S1 | ⟨v, S1⟩) hq
    · exact ⟨_, rfl, by rw [hq.2]; rfl, hq.1⟩
    · exact ⟨_, rfl, by rw [hq.2.2]; exact hq.1, hq.2.1⟩
theorem r_may0 (hR : RRep W sd S) (hW : WF W) (hL : RLw V W sd S) (hn : 30000 ≤ n) {p o h : Nat} (hp : p < W 0 1) (ho : o < W 0 1) (hh : h < 1000) : Ok (E_X12_mayBy n S (nI p) (nI o) (nI h) (0 : Int32) (0 : Int32)) (fun r => r.1 = bI (wMayL W V (bt (S.1 95 61)) p o h 0 0) ∧ Df XM S r.2) := r_mayBy (s := 0) (l := 0) hR hW hL hn hp ho hh (by decide) (by decide)
theorem r_may1 (hR : RRep W sd S) (hW : WF W) (hL : RLw V W sd S) (hn : 30000 ≤ n) {p o h : Nat} (hp : p < W 0 1) (ho : o < W 0 1) (hh : h < 1000) : Ok (E_X12_mayBy n S (nI p) (nI o) (nI h) (1 : Int32) (0 : Int32)) (fun r => r.1 = bI (wMayL W V (bt (S.1 95 61)) p o h 1 0) ∧ Df XM S r.2) := r_mayBy (s := 1) (l := 0) hR hW hL hn hp ho hh (by decide) (by decide)
end REF3
