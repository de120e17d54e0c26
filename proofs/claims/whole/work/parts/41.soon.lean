/-! ===== soon, all, can, task ===== -/
/-- how soon one knows a thing from those who know it at first -/
def wSn (W : VW) (V : VL) (p t : Nat) : Nat := spF W V (fun q => wFirst W q t) (wShn W t) false 0 0 p 25
def orN (x : Nat) : Int32 := if x ≤ 24 then nI x else -2
theorem bs_all {P : Nat → Bool} {m : Nat} (hm : m ≤ 32) : (bs P m = bs (fun _ => true) m) ↔ ∀ p, p < m → P p = true := by
  constructor
  · intro h p hp
    have h1 := bt_lt (P := P) hm hp
    rw [h, bt_lt hm hp] at h1
    exact h1.symm
  · intro h
    exact bs_congr h
section SOO
variable {W : VW} {V : VL} {tw en sd : Nat} {P : PL} {N : Nat} {H : HL} {n : Nat} {S : ST}
theorem c_orNever {x : Nat} (hx : x < 1000) : E_X11_orNever n S (nI x) = some (orN x) := by
  unfold E_X11_orNever orN
  by_cases c : x ≤ 24
  · rw [if_pos c, if_pos (show nI x ≤ (24 : Int32) from nI_le c (by decide))]
  · rw [if_neg c, if_neg (show ¬ nI x ≤ (24 : Int32) from nI_ge (a := 24) (by omega) (by omega))]
theorem r_soonOf {set : Nat → Bool} {sh al : Bool} {l h0 p m : Nat} (hm : m ≤ 10) (hn : 30000 ≤ n) (hp : p < m) (hh : h0 < 24) (hk : ∀ i, h0 + i ≤ 24 → S.1 148 (h0 + i) = bs (spN W V set sh al l h0 i).1 m) : E_X12_soonOf n S (nI p) (nI h0) = some (orN (spF W V set sh al l h0 p (25 - h0))) := by
  unfold E_X12_soonOf
  apply Ok.e
  have hsr := spF_srch (W := W) (V := V) (set := set) (sh := sh) (al := al) (l := l) (h0 := h0) (p := p) (i := 25 - h0) (by omega)
  refine bindS0 h0 25 (fun h => (spN W V set sh al l h0 (h - h0)).1 p) (fun h => .inr (nI h)) (.inl ()) (by omega) (by omega) ?_ ?_ ?_ ?_
  · intro i h1 h2
    have e := hk (i - h0) (by omega)
    rw [show h0 + (i - h0) = i by omega] at e
    cases c : (spN W V set sh al l h0 (i - h0)).1 p
    · (repeat (first | ((with_reducible apply Ok.step); · ((try simp (disch := omega) only [↓reduceIte, Option.bind_some, Sum.elim_inl, Sum.elim_inr, if_true, if_false, rd_nI, wr_nI, rd_z, rd_o, wr_z, wr_o, nI_1, nI_add, pk_mul, nI_leI, nI_ltI, nI_eq, z_le, le_z, z_lt, lt_z, eq_z, eq_o, le_o, o_le, lt_o, o_lt, eq_m1, eq_m2, m1_eq, m2_eq, m1_lt, m1_le, o_z, z_o, m1_z, m1_o, m2_z, m2_o, m2_m1, z_lz, z_lo, o_lz, o_ez, z_ez, z_eo, m2_lt, m2_le, leF, leT, ltF, ltT, eqF, eqT, bI_z, bI_o, sh1, sh0, not_true_eq_false, not_false_eq_true, ne_eq, Bool.true_eq_false, Bool.false_eq_true, true_and, and_true, false_and, and_false, l_2, l_3, l_4, l_5, l_6, l_7, l_8, l_9, l_10, l_11, l_12, l_13, l_14, l_15, l_16, l_17, l_18, l_19, l_20, l_21, l_22, l_23, l_24, l_25, l_26, l_27, l_28, l_29, l_30, l_32, l_33, l_34, l_35, l_36, l_37, l_38, l_39, l_50, l_60, l_99, l_100, l_150, l_160, l_240, l_250, l_300, l_400, l_402, l_403, l_420, l_500, l_600, l_840, l_1000, l_1024, l_2000, l_2047, l_2048, l_10000, l_25600, l_500000, e, bt_lt, c]); with_reducible exact rfl)) | ((with_reducible apply Ok.ifT); · (first | (simp (disch := omega) only [↓reduceIte, Option.bind_some, Sum.elim_inl, Sum.elim_inr, if_true, if_false, rd_nI, wr_nI, rd_z, rd_o, wr_z, wr_o, nI_1, nI_add, pk_mul, nI_leI, nI_ltI, nI_eq, z_le, le_z, z_lt, lt_z, eq_z, eq_o, le_o, o_le, lt_o, o_lt, eq_m1, eq_m2, m1_eq, m2_eq, m1_lt, m1_le, o_z, z_o, m1_z, m1_o, m2_z, m2_o, m2_m1, z_lz, z_lo, o_lz, o_ez, z_ez, z_eo, m2_lt, m2_le, leF, leT, ltF, ltT, eqF, eqT, bI_z, bI_o, sh1, sh0, not_true_eq_false, not_false_eq_true, ne_eq, Bool.true_eq_false, Bool.false_eq_true, true_and, and_true, false_and, and_false, l_2, l_3, l_4, l_5, l_6, l_7, l_8, l_9, l_10, l_11, l_12, l_13, l_14, l_15, l_16, l_17, l_18, l_19, l_20, l_21, l_22, l_23, l_24, l_25, l_26, l_27, l_28, l_29, l_30, l_32, l_33, l_34, l_35, l_36, l_37, l_38, l_39, l_50, l_60, l_99, l_100, l_150, l_160, l_240, l_250, l_300, l_400, l_402, l_403, l_420, l_500, l_600, l_840, l_1000, l_1024, l_2000, l_2047, l_2048, l_10000, l_25600, l_500000, e, bt_lt, c]; done) | omega)) | ((with_reducible apply Ok.ifF); · (first | (simp (disch := omega) only [↓reduceIte, Option.bind_some, Sum.elim_inl, Sum.elim_inr, if_true, if_false, rd_nI, wr_nI, rd_z, rd_o, wr_z, wr_o, nI_1, nI_add, pk_mul, nI_leI, nI_ltI, nI_eq, z_le, le_z, z_lt, lt_z, eq_z, eq_o, le_o, o_le, lt_o, o_lt, eq_m1, eq_m2, m1_eq, m2_eq, m1_lt, m1_le, o_z, z_o, m1_z, m1_o, m2_z, m2_o, m2_m1, z_lz, z_lo, o_lz, o_ez, z_ez, z_eo, m2_lt, m2_le, leF, leT, ltF, ltT, eqF, eqT, bI_z, bI_o, sh1, sh0, not_true_eq_false, not_false_eq_true, ne_eq, Bool.true_eq_false, Bool.false_eq_true, true_and, and_true, false_and, and_false, l_2, l_3, l_4, l_5, l_6, l_7, l_8, l_9, l_10, l_11, l_12, l_13, l_14, l_15, l_16, l_17, l_18, l_19, l_20, l_21, l_22, l_23, l_24, l_25, l_26, l_27, l_28, l_29, l_30, l_32, l_33, l_34, l_35, l_36, l_37, l_38, l_39, l_50, l_60, l_99, l_100, l_150, l_160, l_240, l_250, l_300, l_400, l_402, l_403, l_420, l_500, l_600, l_840, l_1000, l_1024, l_2000, l_2047, l_2048, l_10000, l_25600, l_500000, e, bt_lt, c]; done) | omega)) | with_reducible apply Ok.jnU | with_reducible apply Ok.letsU | with_reducible apply Ok.elL | with_reducible apply Ok.elR | ((with_reducible apply Ok.gdT); · exact bI_nar _)))
      exact Ok.ret (by rw [nI_1]; rfl)
    · (repeat (first | ((with_reducible apply Ok.step); · ((try simp (disch := omega) only [↓reduceIte, Option.bind_some, Sum.elim_inl, Sum.elim_inr, if_true, if_false, rd_nI, wr_nI, rd_z, rd_o, wr_z, wr_o, nI_1, nI_add, pk_mul, nI_leI, nI_ltI, nI_eq, z_le, le_z, z_lt, lt_z, eq_z, eq_o, le_o, o_le, lt_o, o_lt, eq_m1, eq_m2, m1_eq, m2_eq, m1_lt, m1_le, o_z, z_o, m1_z, m1_o, m2_z, m2_o, m2_m1, z_lz, z_lo, o_lz, o_ez, z_ez, z_eo, m2_lt, m2_le, leF, leT, ltF, ltT, eqF, eqT, bI_z, bI_o, sh1, sh0, not_true_eq_false, not_false_eq_true, ne_eq, Bool.true_eq_false, Bool.false_eq_true, true_and, and_true, false_and, and_false, l_2, l_3, l_4, l_5, l_6, l_7, l_8, l_9, l_10, l_11, l_12, l_13, l_14, l_15, l_16, l_17, l_18, l_19, l_20, l_21, l_22, l_23, l_24, l_25, l_26, l_27, l_28, l_29, l_30, l_32, l_33, l_34, l_35, l_36, l_37, l_38, l_39, l_50, l_60, l_99, l_100, l_150, l_160, l_240, l_250, l_300, l_400, l_402, l_403, l_420, l_500, l_600, l_840, l_1000, l_1024, l_2000, l_2047, l_2048, l_10000, l_25600, l_500000, e, bt_lt, c]); with_reducible exact rfl)) | ((with_reducible apply Ok.ifT); · (first | (simp (disch := omega) only [↓reduceIte, Option.bind_some, Sum.elim_inl, Sum.elim_inr, if_true, if_false, rd_nI, wr_nI, rd_z, rd_o, wr_z, wr_o, nI_1, nI_add, pk_mul, nI_leI, nI_ltI, nI_eq, z_le, le_z, z_lt, lt_z, eq_z, eq_o, le_o, o_le, lt_o, o_lt, eq_m1, eq_m2, m1_eq, m2_eq, m1_lt, m1_le, o_z, z_o, m1_z, m1_o, m2_z, m2_o, m2_m1, z_lz, z_lo, o_lz, o_ez, z_ez, z_eo, m2_lt, m2_le, leF, leT, ltF, ltT, eqF, eqT, bI_z, bI_o, sh1, sh0, not_true_eq_false, not_false_eq_true, ne_eq, Bool.true_eq_false, Bool.false_eq_true, true_and, and_true, false_and, and_false, l_2, l_3, l_4, l_5, l_6, l_7, l_8, l_9, l_10, l_11, l_12, l_13, l_14, l_15, l_16, l_17, l_18, l_19, l_20, l_21, l_22, l_23, l_24, l_25, l_26, l_27, l_28, l_29, l_30, l_32, l_33, l_34, l_35, l_36, l_37, l_38, l_39, l_50, l_60, l_99, l_100, l_150, l_160, l_240, l_250, l_300, l_400, l_402, l_403, l_420, l_500, l_600, l_840, l_1000, l_1024, l_2000, l_2047, l_2048, l_10000, l_25600, l_500000, e, bt_lt, c]; done) | omega)) | ((with_reducible apply Ok.ifF); · (first | (simp (disch := omega) only [↓reduceIte, Option.bind_some, Sum.elim_inl, Sum.elim_inr, if_true, if_false, rd_nI, wr_nI, rd_z, rd_o, wr_z, wr_o, nI_1, nI_add, pk_mul, nI_leI, nI_ltI, nI_eq, z_le, le_z, z_lt, lt_z, eq_z, eq_o, le_o, o_le, lt_o, o_lt, eq_m1, eq_m2, m1_eq, m2_eq, m1_lt, m1_le, o_z, z_o, m1_z, m1_o, m2_z, m2_o, m2_m1, z_lz, z_lo, o_lz, o_ez, z_ez, z_eo, m2_lt, m2_le, leF, leT, ltF, ltT, eqF, eqT, bI_z, bI_o, sh1, sh0, not_true_eq_false, not_false_eq_true, ne_eq, Bool.true_eq_false, Bool.false_eq_true, true_and, and_true, false_and, and_false, l_2, l_3, l_4, l_5, l_6, l_7, l_8, l_9, l_10, l_11, l_12, l_13, l_14, l_15, l_16, l_17, l_18, l_19, l_20, l_21, l_22, l_23, l_24, l_25, l_26, l_27, l_28, l_29, l_30, l_32, l_33, l_34, l_35, l_36, l_37, l_38, l_39, l_50, l_60, l_99, l_100, l_150, l_160, l_240, l_250, l_300, l_400, l_402, l_403, l_420, l_500, l_600, l_840, l_1000, l_1024, l_2000, l_2047, l_2048, l_10000, l_25600, l_500000, e, bt_lt, c]; done) | omega)) | with_reducible apply Ok.jnU | with_reducible apply Ok.letsU | with_reducible apply Ok.elL | with_reducible apply Ok.elR | ((with_reducible apply Ok.gdT); · exact bI_nar _)))
      exact Ok.ret rfl
  · (repeat (first | ((with_reducible apply Ok.step); · ((try simp (disch := omega) only [↓reduceIte, Option.bind_some, Sum.elim_inl, Sum.elim_inr, if_true, if_false, rd_nI, wr_nI, rd_z, rd_o, wr_z, wr_o, nI_1, nI_add, pk_mul, nI_leI, nI_ltI, nI_eq, z_le, le_z, z_lt, lt_z, eq_z, eq_o, le_o, o_le, lt_o, o_lt, eq_m1, eq_m2, m1_eq, m2_eq, m1_lt, m1_le, o_z, z_o, m1_z, m1_o, m2_z, m2_o, m2_m1, z_lz, z_lo, o_lz, o_ez, z_ez, z_eo, m2_lt, m2_le, leF, leT, ltF, ltT, eqF, eqT, bI_z, bI_o, sh1, sh0, not_true_eq_false, not_false_eq_true, ne_eq, Bool.true_eq_false, Bool.false_eq_true, true_and, and_true, false_and, and_false, l_2, l_3, l_4, l_5, l_6, l_7, l_8, l_9, l_10, l_11, l_12, l_13, l_14, l_15, l_16, l_17, l_18, l_19, l_20, l_21, l_22, l_23, l_24, l_25, l_26, l_27, l_28, l_29, l_30, l_32, l_33, l_34, l_35, l_36, l_37, l_38, l_39, l_50, l_60, l_99, l_100, l_150, l_160, l_240, l_250, l_300, l_400, l_402, l_403, l_420, l_500, l_600, l_840, l_1000, l_1024, l_2000, l_2047, l_2048, l_10000, l_25600, l_500000]); with_reducible exact rfl)) | ((with_reducible apply Ok.ifT); · (first | (simp (disch := omega) only [↓reduceIte, Option.bind_some, Sum.elim_inl, Sum.elim_inr, if_true, if_false, rd_nI, wr_nI, rd_z, rd_o, wr_z, wr_o, nI_1, nI_add, pk_mul, nI_leI, nI_ltI, nI_eq, z_le, le_z, z_lt, lt_z, eq_z, eq_o, le_o, o_le, lt_o, o_lt, eq_m1, eq_m2, m1_eq, m2_eq, m1_lt, m1_le, o_z, z_o, m1_z, m1_o, m2_z, m2_o, m2_m1, z_lz, z_lo, o_lz, o_ez, z_ez, z_eo, m2_lt, m2_le, leF, leT, ltF, ltT, eqF, eqT, bI_z, bI_o, sh1, sh0, not_true_eq_false, not_false_eq_true, ne_eq, Bool.true_eq_false, Bool.false_eq_true, true_and, and_true, false_and, and_false, l_2, l_3, l_4, l_5, l_6, l_7, l_8, l_9, l_10, l_11, l_12, l_13, l_14, l_15, l_16, l_17, l_18, l_19, l_20, l_21, l_22, l_23, l_24, l_25, l_26, l_27, l_28, l_29, l_30, l_32, l_33, l_34, l_35, l_36, l_37, l_38, l_39, l_50, l_60, l_99, l_100, l_150, l_160, l_240, l_250, l_300, l_400, l_402, l_403, l_420, l_500, l_600, l_840, l_1000, l_1024, l_2000, l_2047, l_2048, l_10000, l_25600, l_500000]; done) | omega)) | ((with_reducible apply Ok.ifF); · (first | (simp (disch := omega) only [↓reduceIte, Option.bind_some, Sum.elim_inl, Sum.elim_inr, if_true, if_false, rd_nI, wr_nI, rd_z, rd_o, wr_z, wr_o, nI_1, nI_add, pk_mul, nI_leI, nI_ltI, nI_eq, z_le, le_z, z_lt, lt_z, eq_z, eq_o, le_o, o_le, lt_o, o_lt, eq_m1, eq_m2, m1_eq, m2_eq, m1_lt, m1_le, o_z, z_o, m1_z, m1_o, m2_z, m2_o, m2_m1, z_lz, z_lo, o_lz, o_ez, z_ez, z_eo, m2_lt, m2_le, leF, leT, ltF, ltT, eqF, eqT, bI_z, bI_o, sh1, sh0, not_true_eq_false, not_false_eq_true, ne_eq, Bool.true_eq_false, Bool.false_eq_true, true_and, and_true, false_and, and_false, l_2, l_3, l_4, l_5, l_6, l_7, l_8, l_9, l_10, l_11, l_12, l_13, l_14, l_15, l_16, l_17, l_18, l_19, l_20, l_21, l_22, l_23, l_24, l_25, l_26, l_27, l_28, l_29, l_30, l_32, l_33, l_34, l_35, l_36, l_37, l_38, l_39, l_50, l_60, l_99, l_100, l_150, l_160, l_240, l_250, l_300, l_400, l_402, l_403, l_420, l_500, l_600, l_840, l_1000, l_1024, l_2000, l_2047, l_2048, l_10000, l_25600, l_500000]; done) | omega)) | with_reducible apply Ok.jnU | with_reducible apply Ok.letsU | with_reducible apply Ok.elL | with_reducible apply Ok.elR | ((with_reducible apply Ok.gdT); · exact bI_nar _)))
    exact Ok.ret rfl
  · intro i h1 h2 h3 h4
    refine Ok.ret ?_
    rw [srch_of (i := 0) (d := 25 - h0) (j := i - h0) (Nat.zero_le _) (by omega) h3 (fun k _ hk2 => by have := h4 (h0 + k) (by omega) (by omega); rw [show h0 + k - h0 = k by omega] at this; exact this)] at hsr
    have e : spF W V set sh al l h0 p (25 - h0) = i := by
      rw [hsr]
      show h0 + (i - h0) = i
      omega
    rw [e, orN, if_pos (by omega)]
  · intro h1
    refine Ok.ret ?_
    cases c : srch (fun d => (spN W V set sh al l h0 d).1 p) 0 (25 - h0) with
    | none =>
      rw [c] at hsr
      have e : spF W V set sh al l h0 p (25 - h0) = 99 := hsr
      rw [e]; rfl
    | some d =>
      obtain ⟨h3, h4, h5, h6⟩ := srch_some c
      have := h1 (h0 + d) (by omega) (by omega)
      rw [show h0 + d - h0 = d by omega, h5] at this; cases this
theorem Xc89_XS {S S' : ST} (h : Df (Xc 89) S S') : Df (XS tw) S S' := h.mono (fun a j hx => by
  simp only [XS, Xc, Bool.or_eq_false_iff, beq_eq_false_iff_ne] at hx ⊢
  exact hx.1.2.1)
theorem c_canSpread (hC : CW W V tw S) (hW : WF W) {x y z : Int32} : E_X11_canSpread n S tw x y z = some (bI (vB x (W 0 2) && (vS y (W 0 1) && vB z 24))) := by
  have v2 : E_X11_isOne n S tw (2 : Int32) x = some (bI (vB x (W 0 2))) := c_vOne (k := 2) hC hW (by decide)
  unfold E_X11_canSpread
  apply Ok.e
  apply Ok.step v2
  cases vB x (W 0 2)
  · exact Ok.ifT rfl (Ok.ret rfl)
  refine Ok.ifF (by decide) ?_
  apply Ok.step (c_vS hC hW)
  cases vS y (W 0 1)
  · exact Ok.ifT rfl (Ok.ret rfl)
  refine Ok.ifF (by decide) ?_
  apply Ok.step c_vH
  cases vB z 24
  · exact Ok.ifT rfl (Ok.ret rfl)
  · exact Ok.ifF (by decide) (Ok.ret rfl)
theorem c_isLaw {x : Int32} : E_X11_isLaw n S x = some (bI (vB x 4)) := by
  unfold E_X11_isLaw vB
  by_cases c1 : x < 0
  · rw [if_pos c1, decide_eq_false (Int32.not_le.mpr c1)]; rfl
  · rw [if_neg c1, decide_eq_true (Int32.not_lt.mp c1)]
    obtain ⟨j, hj, rfl⟩ := nI_of c1
    by_cases c2 : 3 < j
    · rw [if_pos (show (3 : Int32) < nI j from nI_lt (a := 3) c2 (by omega)), decide_eq_false (nI_nlt (by omega) (by omega))]; rfl
    · rw [if_neg (show ¬ (3 : Int32) < nI j from nI_nlt (a := 3) (by omega) (by omega)), decide_eq_true (nI_lt (by omega) (by decide))]; rfl
theorem r_isSoon (hR : RRep W sd S) (hW : WF W) {x y z u : Int32} : E_X12_isSoon n S x y z u = some (bI (vB x (W 0 2) && (vS y (W 0 1) && (vB z 24 && vB u 4)))) := by
  have hm : W 0 1 ≤ 10 := hW.mx (k := 1) (by decide)
  have h1 := p2_lt hm
  unfold E_X12_isSoon
  apply Ok.e
  apply Ok.step (r_vT hR hW)
  cases vB x (W 0 2)
  · exact Ok.ifT rfl (Ok.ret rfl)
  refine Ok.ifF (by decide) ?_
  apply Ok.step (r_h1 hR)
  rw [sh_pow hm]
  apply Ok.step (r_inB (by omega))
  show Ok (if bI (vS y (W 0 1)) = 0 then _ else _) _
  cases vS y (W 0 1)
  · exact Ok.ifT rfl (Ok.ret rfl)
  refine Ok.ifF (by decide) ?_
  apply Ok.step r_vH
  cases vB z 24
  · exact Ok.ifT rfl (Ok.ret rfl)
  refine Ok.ifF (by decide) ?_
  apply Ok.step (x := bI (vB u 4)) (r_inK (m := 3) (by decide))
  cases vB u 4
  · exact Ok.ifT rfl (Ok.ret rfl)
  · exact Ok.ifF (by decide) (Ok.ret rfl)
theorem q_soon (hI : IV W V tw en sd P N H S) (hn : 30000 ≤ n) (x y z w u : Int32) (al : Bool) : Sc (fun S => E_X11_soon n S tw x y z w u (bI al)) (fun S => E_X12_soon n S x y z w u (bI al)) S (IV W V tw en sd P N H) := by
  have hI0 := hI
  obtain ⟨hW, hPW, hHW, hC, hR⟩ := hI
  have hm1 : W 0 1 ≤ 10 := hW.mx (k := 1) (by decide)
  have hm2 : W 0 2 ≤ 6 := hW.mx (k := 2) (by decide)
  unfold E_X11_soon E_X12_soon
  cases c1 : vB x (W 0 1)
  · exact Sc.no (by rw [c_v1 hC.1 hW, c1]; rfl) (by rw [r_vP hR.1 hW, c1]; rfl) hI0
  cases c2 : (vB y (W 0 2) && (vS z (W 0 1) && vB w 24))
  · have c2' : (vB y (W 0 2) && (vS z (W 0 1) && (vB w 24 && vB u 4))) = false := by
      cases e1 : vB y (W 0 2) <;> cases e2 : vS z (W 0 1) <;> cases e3 : vB w 24 <;> simp [e1, e2, e3] at c2 ⊢
    exact Sc.no (by rw [c_v1 hC.1 hW, c1, Option.bind_some, if_neg (by decide), c_canSpread hC.1 hW, c2]; rfl) (by rw [r_vP hR.1 hW, c1, Option.bind_some, if_neg (by decide), r_isSoon hR.1 hW, c2']; rfl) hI0
  cases c3 : vB u 4
  · have c2' : (vB y (W 0 2) && (vS z (W 0 1) && (vB w 24 && vB u 4))) = false := by rw [c3]; simp
    exact Sc.no (by rw [c_v1 hC.1 hW, c1, Option.bind_some, if_neg (by decide), c_canSpread hC.1 hW, c2, Option.bind_some, if_neg (by decide), c_isLaw, c3]; rfl) (by rw [r_vP hR.1 hW, c1, Option.bind_some, if_neg (by decide), r_isSoon hR.1 hW, c2']; rfl) hI0
  have c4 : (vB y (W 0 2) && (vS z (W 0 1) && (vB w 24 && vB u 4))) = true := by rw [c3]; simpa using c2
  simp only [Bool.and_eq_true] at c2
  obtain ⟨p, hp, rfl⟩ := vB_t (by omega) c1
  obtain ⟨t, ht, rfl⟩ := vB_t (by omega) c2.1
  obtain ⟨X, hX1, _, hX2⟩ := vS_t hm1 c2.2.1
  obtain ⟨h0, hh, rfl⟩ := vB_t (by omega) c2.2.2
  obtain ⟨l, hl, rfl⟩ := vB_t (by omega) c3
  obtain ⟨S1, e1, d1, f1⟩ := c_spread (S := S) (n := n) (t := t) (al := al) hC.1 hW hn (by omega) hX2 hl hh
  have d1' : Df (XS tw) S S1 := Xc89_XS d1
  have hC1 := hC.dfS d1'
  have hR1 := hR.dfC (XS_XCl hC.1.1 d1')
  obtain ⟨S2, e2, d2, hR2, f2⟩ := r_spreads (n := n) (t := t) (al := al) hR1 hW hn (by omega) hX2 hl hh
  have hle := spF_le (W := W) (V := V) (set := fun i => X.testBit i) (sh := (!al && wShn W t)) (al := al) (l := l) (h0 := h0) (p := p) (i := 25 - h0) (by omega)
  refine ⟨orN (spF W V (fun i => X.testBit i) (!al && wShn W t) al l h0 p (25 - h0)), S1, S2, ?_, ?_, ⟨hW, hPW, hHW, hC1.dfR (XSR_XRf d2), hR2⟩, (XS_XQA hC.1.1 d1').trans (XSR_XQA d2)⟩
  · have c2t : (vB (nI t) (W 0 2) && (vS z (W 0 1) && vB (nI h0) 24)) = true := by rw [c2.1, c2.2.1, c2.2.2]; rfl
    dsimp only
    rw [c_v1 hC.1 hW, c1, Option.bind_some, if_neg (by decide), c_canSpread hC.1 hW, c2t, Option.bind_some, if_neg (by decide), c_isLaw, c3, Option.bind_some, if_neg (by decide), e1, Option.bind_some, rd_nI (by omega) (by decide), f1 p hp, Option.bind_some, c_orNever (by omega)]
    rfl
  · dsimp only
    rw [r_vP hR1.1 hW, c1, Option.bind_some, if_neg (by decide), r_isSoon hR1.1 hW, c4, Option.bind_some, if_neg (by decide), e2, Option.bind_some, r_soonOf hm1 hn hp hh f2]
    rfl
/-- the latest of the first i people -/
def wLate (f : Nat → Nat) (h0 : Nat) : Nat → Nat
  | 0 => h0
  | i + 1 => if wLate f h0 i < f i then f i else wLate f h0 i
theorem wLate_ge {f : Nat → Nat} {h0 : Nat} : ∀ i, h0 ≤ wLate f h0 i ∧ ∀ j, j < i → f j ≤ wLate f h0 i := by
  intro i
  induction i with
  | zero => exact ⟨Nat.le_refl _, fun j hj => by omega⟩
  | succ i ih =>
    rw [wLate]
    split
    · refine ⟨by omega, fun j hj => ?_⟩
      by_cases e : j = i
      · subst e; exact Nat.le_refl _
      · have := ih.2 j (by omega); omega
    · refine ⟨ih.1, fun j hj => ?_⟩
      by_cases e : j = i
      · subst e; omega
      · exact ih.2 j (by omega)
theorem wLate_eq {f : Nat → Nat} {h0 : Nat} : ∀ i, wLate f h0 i = h0 ∨ ∃ j, j < i ∧ f j = wLate f h0 i := by
  intro i
  induction i with
  | zero => exact Or.inl rfl
  | succ i ih =>
    rw [wLate]
    split
    · exact Or.inr ⟨i, by omega, rfl⟩
    · rcases ih with h | ⟨j, h1, h2⟩
      · exact Or.inl h
      · exact Or.inr ⟨j, by omega, h2⟩
theorem q_all (hI : IV W V tw en sd P N H S) (hn : 30000 ≤ n) (y z w u : Int32) (al : Bool) : Sc (fun S => E_X11_all n S tw y z w u (bI al)) (fun S => E_X12_all n S y z w u (bI al)) S (IV W V tw en sd P N H) := by
  have hI0 := hI
  obtain ⟨hW, hPW, hHW, hC, hR⟩ := hI
  have hm1 : W 0 1 ≤ 10 := hW.mx (k := 1) (by decide)
  have hm2 : W 0 2 ≤ 6 := hW.mx (k := 2) (by decide)
  unfold E_X11_all E_X12_all
  cases c2 : (vB y (W 0 2) && (vS z (W 0 1) && vB w 24))
  · have c2' : (vB y (W 0 2) && (vS z (W 0 1) && (vB w 24 && vB u 4))) = false := by
      cases e1 : vB y (W 0 2) <;> cases e2 : vS z (W 0 1) <;> cases e3 : vB w 24 <;> simp [e1, e2, e3] at c2 ⊢
    exact Sc.no (by rw [c_canSpread hC.1 hW, c2]; rfl) (by rw [r_isSoon hR.1 hW, c2']; rfl) hI0
  cases c3 : vB u 4
  · have c2' : (vB y (W 0 2) && (vS z (W 0 1) && (vB w 24 && vB u 4))) = false := by rw [c3]; simp
    exact Sc.no (by rw [c_canSpread hC.1 hW, c2, Option.bind_some, if_neg (by decide), c_isLaw, c3]; rfl) (by rw [r_isSoon hR.1 hW, c2']; rfl) hI0
  have c4 : (vB y (W 0 2) && (vS z (W 0 1) && (vB w 24 && vB u 4))) = true := by rw [c3]; simpa using c2
  simp only [Bool.and_eq_true] at c2
  obtain ⟨t, ht, rfl⟩ := vB_t (by omega) c2.1
  obtain ⟨X, hX1, _, hX2⟩ := vS_t hm1 c2.2.1
  obtain ⟨h0, hh, rfl⟩ := vB_t (by omega) c2.2.2
  obtain ⟨l, hl, rfl⟩ := vB_t (by omega) c3
  obtain ⟨S1, e1, d1, f1⟩ := c_spread (S := S) (n := n) (t := t) (al := al) hC.1 hW hn (by omega) hX2 hl hh
  have d1' : Df (XS tw) S S1 := Xc89_XS d1
  have hC1 := hC.dfS d1'
  have hR1 := hR.dfC (XS_XCl hC.1.1 d1')
  obtain ⟨S2, e2, d2, hR2, f2⟩ := r_spreads (n := n) (t := t) (al := al) hR1 hW hn (by omega) hX2 hl hh
  generalize hset : (fun i => X.testBit i) = set at *
  generalize hsh : (!al && wShn W t) = sh at *
  have hle : ∀ p, spF W V set sh al l h0 p (25 - h0) ≤ 24 ∨ spF W V set sh al l h0 p (25 - h0) = 99 := fun p => spF_le (by omega)
  have hsr : ∀ p, spF W V set sh al l h0 p (25 - h0) = (srch (fun d => (spN W V set sh al l h0 d).1 p) 0 (25 - h0)).elim 99 (fun d => h0 + d) := fun p => spF_srch (by omega)
  generalize hf : (fun p => spF W V set sh al l h0 p (25 - h0)) = f at *
  have hfv : ∀ p, f p = spF W V set sh al l h0 p (25 - h0) := fun p => by rw [← hf]
  have hge := wLate_ge (f := f) (h0 := h0)
  have heq := wLate_eq (f := f) (h0 := h0)
  have h99 : ∀ i, wLate f h0 i ≤ 99 := fun i => by
    rcases heq i with z | ⟨j, _, z⟩
    · omega
    · rw [← z, hfv]; have := hle j; omega
  -- known at a stage
  have known : ∀ p i, h0 + i ≤ 24 → ((spN W V set sh al l h0 i).1 p = true ↔ f p ≤ h0 + i) := fun p i hi => by
    rw [hfv, hsr]
    constructor
    · intro z
      cases c : srch (fun d => (spN W V set sh al l h0 d).1 p) 0 (25 - h0) with
      | none =>
        have := srch_none c i (Nat.zero_le _) (by omega)
        rw [z] at this; cases this
      | some d =>
        obtain ⟨h3, h4, h5, h6⟩ := srch_some c
        show h0 + d ≤ h0 + i
        rcases Nat.lt_or_ge i d with g | g
        · have := h6 i (Nat.zero_le _) g
          rw [z] at this; cases this
        · omega
    · intro z
      cases c : srch (fun d => (spN W V set sh al l h0 d).1 p) 0 (25 - h0) with
      | none =>
        rw [c] at z
        have : 99 ≤ h0 + i := z
        omega
      | some d =>
        rw [c] at z
        have : h0 + d ≤ h0 + i := z
        obtain ⟨h3, h4, h5, h6⟩ := srch_some c
        exact spN_mono (by omega) h5
  have all : ∀ i, h0 + i ≤ 24 → ((∀ p, p < W 0 1 → (spN W V set sh al l h0 i).1 p = true) ↔ wLate f h0 (W 0 1) ≤ h0 + i) := fun i hi => by
    constructor
    · intro z
      rcases heq (W 0 1) with y | ⟨j, hj, y⟩
      · omega
      · have := (known j i hi).mp (z j hj)
        omega
    · intro z p hp
      refine (known p i hi).mpr ?_
      have := (hge (W 0 1)).2 p hp
      omega
  refine ⟨orN (wLate f h0 (W 0 1)), S1, S2, ?_, ?_, ⟨hW, hPW, hHW, hC1.dfR (XSR_XRf d2), hR2⟩, (XS_XQA hC.1.1 d1').trans (XSR_XQA d2)⟩
  · have c2t : (vB (nI t) (W 0 2) && (vS z (W 0 1) && vB (nI h0) 24)) = true := by rw [c2.1, c2.2.1, c2.2.2]; rfl
    dsimp only
    rw [c_canSpread hC.1 hW, c2t, Option.bind_some, if_neg (by decide), c_isLaw, c3, Option.bind_some, if_neg (by decide), e1, Option.bind_some]
    apply Ok.e
    refine bindP (fun i => (nI (wLate f h0 i), nI i)) (nI (wLate f h0 (W 0 1))) 0 (W 0 1) (Nat.zero_le _) (by omega) rfl ?_ ?_ ?_
    · intro i _ hi
      have e5 : S1.1 89 i = nI (f i) := by rw [hfv]; exact f1 i hi
      have g1 := h99 i
      have g2 : f i ≤ 99 := by rw [hfv]; have := hle i; omega
      (repeat (first | ((with_reducible apply Ok.step); · ((try simp (disch := omega) only [↓reduceIte, Option.bind_some, Sum.elim_inl, Sum.elim_inr, if_true, if_false, rd_nI, wr_nI, rd_z, rd_o, wr_z, wr_o, nI_1, nI_add, pk_mul, nI_leI, nI_ltI, nI_eq, z_le, le_z, z_lt, lt_z, eq_z, eq_o, le_o, o_le, lt_o, o_lt, eq_m1, eq_m2, m1_eq, m2_eq, m1_lt, m1_le, o_z, z_o, m1_z, m1_o, m2_z, m2_o, m2_m1, z_lz, z_lo, o_lz, o_ez, z_ez, z_eo, m2_lt, m2_le, leF, leT, ltF, ltT, eqF, eqT, bI_z, bI_o, sh1, sh0, not_true_eq_false, not_false_eq_true, ne_eq, Bool.true_eq_false, Bool.false_eq_true, true_and, and_true, false_and, and_false, l_2, l_3, l_4, l_5, l_6, l_7, l_8, l_9, l_10, l_11, l_12, l_13, l_14, l_15, l_16, l_17, l_18, l_19, l_20, l_21, l_22, l_23, l_24, l_25, l_26, l_27, l_28, l_29, l_30, l_32, l_33, l_34, l_35, l_36, l_37, l_38, l_39, l_50, l_60, l_99, l_100, l_150, l_160, l_240, l_250, l_300, l_400, l_402, l_403, l_420, l_500, l_600, l_840, l_1000, l_1024, l_2000, l_2047, l_2048, l_10000, l_25600, l_500000, g_n hC1.1, e5]); with_reducible exact rfl)) | ((with_reducible apply Ok.ifT); · (first | (simp (disch := omega) only [↓reduceIte, Option.bind_some, Sum.elim_inl, Sum.elim_inr, if_true, if_false, rd_nI, wr_nI, rd_z, rd_o, wr_z, wr_o, nI_1, nI_add, pk_mul, nI_leI, nI_ltI, nI_eq, z_le, le_z, z_lt, lt_z, eq_z, eq_o, le_o, o_le, lt_o, o_lt, eq_m1, eq_m2, m1_eq, m2_eq, m1_lt, m1_le, o_z, z_o, m1_z, m1_o, m2_z, m2_o, m2_m1, z_lz, z_lo, o_lz, o_ez, z_ez, z_eo, m2_lt, m2_le, leF, leT, ltF, ltT, eqF, eqT, bI_z, bI_o, sh1, sh0, not_true_eq_false, not_false_eq_true, ne_eq, Bool.true_eq_false, Bool.false_eq_true, true_and, and_true, false_and, and_false, l_2, l_3, l_4, l_5, l_6, l_7, l_8, l_9, l_10, l_11, l_12, l_13, l_14, l_15, l_16, l_17, l_18, l_19, l_20, l_21, l_22, l_23, l_24, l_25, l_26, l_27, l_28, l_29, l_30, l_32, l_33, l_34, l_35, l_36, l_37, l_38, l_39, l_50, l_60, l_99, l_100, l_150, l_160, l_240, l_250, l_300, l_400, l_402, l_403, l_420, l_500, l_600, l_840, l_1000, l_1024, l_2000, l_2047, l_2048, l_10000, l_25600, l_500000, g_n hC1.1, e5]; done) | omega)) | ((with_reducible apply Ok.ifF); · (first | (simp (disch := omega) only [↓reduceIte, Option.bind_some, Sum.elim_inl, Sum.elim_inr, if_true, if_false, rd_nI, wr_nI, rd_z, rd_o, wr_z, wr_o, nI_1, nI_add, pk_mul, nI_leI, nI_ltI, nI_eq, z_le, le_z, z_lt, lt_z, eq_z, eq_o, le_o, o_le, lt_o, o_lt, eq_m1, eq_m2, m1_eq, m2_eq, m1_lt, m1_le, o_z, z_o, m1_z, m1_o, m2_z, m2_o, m2_m1, z_lz, z_lo, o_lz, o_ez, z_ez, z_eo, m2_lt, m2_le, leF, leT, ltF, ltT, eqF, eqT, bI_z, bI_o, sh1, sh0, not_true_eq_false, not_false_eq_true, ne_eq, Bool.true_eq_false, Bool.false_eq_true, true_and, and_true, false_and, and_false, l_2, l_3, l_4, l_5, l_6, l_7, l_8, l_9, l_10, l_11, l_12, l_13, l_14, l_15, l_16, l_17, l_18, l_19, l_20, l_21, l_22, l_23, l_24, l_25, l_26, l_27, l_28, l_29, l_30, l_32, l_33, l_34, l_35, l_36, l_37, l_38, l_39, l_50, l_60, l_99, l_100, l_150, l_160, l_240, l_250, l_300, l_400, l_402, l_403, l_420, l_500, l_600, l_840, l_1000, l_1024, l_2000, l_2047, l_2048, l_10000, l_25600, l_500000, g_n hC1.1, e5]; done) | omega)) | with_reducible apply Ok.jnU | with_reducible apply Ok.letsU | with_reducible apply Ok.elL | with_reducible apply Ok.elR | ((with_reducible apply Ok.gdT); · exact bI_nar _)))
      refine Ok.ret ?_
      dsimp only
      rw [nI_1, wLate]
      unfold mxI
      by_cases c : wLate f h0 i < f i
      · rw [if_pos c, if_pos (nI_lt c (by omega))]
      · rw [if_neg c, if_neg (nI_nlt (by omega) (by omega))]
    · (repeat (first | ((with_reducible apply Ok.step); · ((try simp (disch := omega) only [↓reduceIte, Option.bind_some, Sum.elim_inl, Sum.elim_inr, if_true, if_false, rd_nI, wr_nI, rd_z, rd_o, wr_z, wr_o, nI_1, nI_add, pk_mul, nI_leI, nI_ltI, nI_eq, z_le, le_z, z_lt, lt_z, eq_z, eq_o, le_o, o_le, lt_o, o_lt, eq_m1, eq_m2, m1_eq, m2_eq, m1_lt, m1_le, o_z, z_o, m1_z, m1_o, m2_z, m2_o, m2_m1, z_lz, z_lo, o_lz, o_ez, z_ez, z_eo, m2_lt, m2_le, leF, leT, ltF, ltT, eqF, eqT, bI_z, bI_o, sh1, sh0, not_true_eq_false, not_false_eq_true, ne_eq, Bool.true_eq_false, Bool.false_eq_true, true_and, and_true, false_and, and_false, l_2, l_3, l_4, l_5, l_6, l_7, l_8, l_9, l_10, l_11, l_12, l_13, l_14, l_15, l_16, l_17, l_18, l_19, l_20, l_21, l_22, l_23, l_24, l_25, l_26, l_27, l_28, l_29, l_30, l_32, l_33, l_34, l_35, l_36, l_37, l_38, l_39, l_50, l_60, l_99, l_100, l_150, l_160, l_240, l_250, l_300, l_400, l_402, l_403, l_420, l_500, l_600, l_840, l_1000, l_1024, l_2000, l_2047, l_2048, l_10000, l_25600, l_500000, g_n hC1.1]); with_reducible exact rfl)) | ((with_reducible apply Ok.ifT); · (first | (simp (disch := omega) only [↓reduceIte, Option.bind_some, Sum.elim_inl, Sum.elim_inr, if_true, if_false, rd_nI, wr_nI, rd_z, rd_o, wr_z, wr_o, nI_1, nI_add, pk_mul, nI_leI, nI_ltI, nI_eq, z_le, le_z, z_lt, lt_z, eq_z, eq_o, le_o, o_le, lt_o, o_lt, eq_m1, eq_m2, m1_eq, m2_eq, m1_lt, m1_le, o_z, z_o, m1_z, m1_o, m2_z, m2_o, m2_m1, z_lz, z_lo, o_lz, o_ez, z_ez, z_eo, m2_lt, m2_le, leF, leT, ltF, ltT, eqF, eqT, bI_z, bI_o, sh1, sh0, not_true_eq_false, not_false_eq_true, ne_eq, Bool.true_eq_false, Bool.false_eq_true, true_and, and_true, false_and, and_false, l_2, l_3, l_4, l_5, l_6, l_7, l_8, l_9, l_10, l_11, l_12, l_13, l_14, l_15, l_16, l_17, l_18, l_19, l_20, l_21, l_22, l_23, l_24, l_25, l_26, l_27, l_28, l_29, l_30, l_32, l_33, l_34, l_35, l_36, l_37, l_38, l_39, l_50, l_60, l_99, l_100, l_150, l_160, l_240, l_250, l_300, l_400, l_402, l_403, l_420, l_500, l_600, l_840, l_1000, l_1024, l_2000, l_2047, l_2048, l_10000, l_25600, l_500000, g_n hC1.1]; done) | omega)) | ((with_reducible apply Ok.ifF); · (first | (simp (disch := omega) only [↓reduceIte, Option.bind_some, Sum.elim_inl, Sum.elim_inr, if_true, if_false, rd_nI, wr_nI, rd_z, rd_o, wr_z, wr_o, nI_1, nI_add, pk_mul, nI_leI, nI_ltI, nI_eq, z_le, le_z, z_lt, lt_z, eq_z, eq_o, le_o, o_le, lt_o, o_lt, eq_m1, eq_m2, m1_eq, m2_eq, m1_lt, m1_le, o_z, z_o, m1_z, m1_o, m2_z, m2_o, m2_m1, z_lz, z_lo, o_lz, o_ez, z_ez, z_eo, m2_lt, m2_le, leF, leT, ltF, ltT, eqF, eqT, bI_z, bI_o, sh1, sh0, not_true_eq_false, not_false_eq_true, ne_eq, Bool.true_eq_false, Bool.false_eq_true, true_and, and_true, false_and, and_false, l_2, l_3, l_4, l_5, l_6, l_7, l_8, l_9, l_10, l_11, l_12, l_13, l_14, l_15, l_16, l_17, l_18, l_19, l_20, l_21, l_22, l_23, l_24, l_25, l_26, l_27, l_28, l_29, l_30, l_32, l_33, l_34, l_35, l_36, l_37, l_38, l_39, l_50, l_60, l_99, l_100, l_150, l_160, l_240, l_250, l_300, l_400, l_402, l_403, l_420, l_500, l_600, l_840, l_1000, l_1024, l_2000, l_2047, l_2048, l_10000, l_25600, l_500000, g_n hC1.1]; done) | omega)) | with_reducible apply Ok.jnU | with_reducible apply Ok.letsU | with_reducible apply Ok.elL | with_reducible apply Ok.elR | ((with_reducible apply Ok.gdT); · exact bI_nar _)))
      exact Ok.ret rfl
    · have := h99 (W 0 1)
      apply Ok.step (c_orNever (by omega))
      exact Ok.ret rfl
  · dsimp only
    rw [r_isSoon hR1.1 hW, c4, Option.bind_some, if_neg (by decide), e2, Option.bind_some]
    apply Ok.e
    have eall : ∀ h, h0 ≤ h → h < 25 → (S2.1 148 h = (1 : Int32) <<< (nI (W 0 1) &&& 31) - 1 ↔ wLate f h0 (W 0 1) ≤ h) := fun h h1 h2 => by
      have e6 := f2 (h - h0) (by omega)
      have e7 := all (h - h0) (by omega)
      rw [show h0 + (h - h0) = h by omega] at e6 e7
      rw [e6, all_on _ hm1]
      exact (bs_all (by omega)).trans e7
    refine bindS0 h0 25 (fun h => decide (wLate f h0 (W 0 1) ≤ h)) (fun h => .inr (nI h, S2)) (.inl ()) (by omega) (by omega) ?_ ?_ ?_ ?_
    · intro i h1 h2
      by_cases c : wLate f h0 (W 0 1) ≤ i
      · have e8 : (S2.1 148 i = (1 : Int32) <<< (nI (W 0 1) &&& 31) - 1) = True := eq_true ((eall i h1 h2).mpr c)
        (repeat (first | ((with_reducible apply Ok.step); · ((try simp (disch := omega) only [↓reduceIte, Option.bind_some, Sum.elim_inl, Sum.elim_inr, if_true, if_false, rd_nI, wr_nI, rd_z, rd_o, wr_z, wr_o, nI_1, nI_add, pk_mul, nI_leI, nI_ltI, nI_eq, z_le, le_z, z_lt, lt_z, eq_z, eq_o, le_o, o_le, lt_o, o_lt, eq_m1, eq_m2, m1_eq, m2_eq, m1_lt, m1_le, o_z, z_o, m1_z, m1_o, m2_z, m2_o, m2_m1, z_lz, z_lo, o_lz, o_ez, z_ez, z_eo, m2_lt, m2_le, leF, leT, ltF, ltT, eqF, eqT, bI_z, bI_o, sh1, sh0, not_true_eq_false, not_false_eq_true, ne_eq, Bool.true_eq_false, Bool.false_eq_true, true_and, and_true, false_and, and_false, l_2, l_3, l_4, l_5, l_6, l_7, l_8, l_9, l_10, l_11, l_12, l_13, l_14, l_15, l_16, l_17, l_18, l_19, l_20, l_21, l_22, l_23, l_24, l_25, l_26, l_27, l_28, l_29, l_30, l_32, l_33, l_34, l_35, l_36, l_37, l_38, l_39, l_50, l_60, l_99, l_100, l_150, l_160, l_240, l_250, l_300, l_400, l_402, l_403, l_420, l_500, l_600, l_840, l_1000, l_1024, l_2000, l_2047, l_2048, l_10000, l_25600, l_500000, r_h1 hR2.1, e8]); with_reducible exact rfl)) | ((with_reducible apply Ok.ifT); · (first | (simp (disch := omega) only [↓reduceIte, Option.bind_some, Sum.elim_inl, Sum.elim_inr, if_true, if_false, rd_nI, wr_nI, rd_z, rd_o, wr_z, wr_o, nI_1, nI_add, pk_mul, nI_leI, nI_ltI, nI_eq, z_le, le_z, z_lt, lt_z, eq_z, eq_o, le_o, o_le, lt_o, o_lt, eq_m1, eq_m2, m1_eq, m2_eq, m1_lt, m1_le, o_z, z_o, m1_z, m1_o, m2_z, m2_o, m2_m1, z_lz, z_lo, o_lz, o_ez, z_ez, z_eo, m2_lt, m2_le, leF, leT, ltF, ltT, eqF, eqT, bI_z, bI_o, sh1, sh0, not_true_eq_false, not_false_eq_true, ne_eq, Bool.true_eq_false, Bool.false_eq_true, true_and, and_true, false_and, and_false, l_2, l_3, l_4, l_5, l_6, l_7, l_8, l_9, l_10, l_11, l_12, l_13, l_14, l_15, l_16, l_17, l_18, l_19, l_20, l_21, l_22, l_23, l_24, l_25, l_26, l_27, l_28, l_29, l_30, l_32, l_33, l_34, l_35, l_36, l_37, l_38, l_39, l_50, l_60, l_99, l_100, l_150, l_160, l_240, l_250, l_300, l_400, l_402, l_403, l_420, l_500, l_600, l_840, l_1000, l_1024, l_2000, l_2047, l_2048, l_10000, l_25600, l_500000, r_h1 hR2.1, e8]; done) | omega)) | ((with_reducible apply Ok.ifF); · (first | (simp (disch := omega) only [↓reduceIte, Option.bind_some, Sum.elim_inl, Sum.elim_inr, if_true, if_false, rd_nI, wr_nI, rd_z, rd_o, wr_z, wr_o, nI_1, nI_add, pk_mul, nI_leI, nI_ltI, nI_eq, z_le, le_z, z_lt, lt_z, eq_z, eq_o, le_o, o_le, lt_o, o_lt, eq_m1, eq_m2, m1_eq, m2_eq, m1_lt, m1_le, o_z, z_o, m1_z, m1_o, m2_z, m2_o, m2_m1, z_lz, z_lo, o_lz, o_ez, z_ez, z_eo, m2_lt, m2_le, leF, leT, ltF, ltT, eqF, eqT, bI_z, bI_o, sh1, sh0, not_true_eq_false, not_false_eq_true, ne_eq, Bool.true_eq_false, Bool.false_eq_true, true_and, and_true, false_and, and_false, l_2, l_3, l_4, l_5, l_6, l_7, l_8, l_9, l_10, l_11, l_12, l_13, l_14, l_15, l_16, l_17, l_18, l_19, l_20, l_21, l_22, l_23, l_24, l_25, l_26, l_27, l_28, l_29, l_30, l_32, l_33, l_34, l_35, l_36, l_37, l_38, l_39, l_50, l_60, l_99, l_100, l_150, l_160, l_240, l_250, l_300, l_400, l_402, l_403, l_420, l_500, l_600, l_840, l_1000, l_1024, l_2000, l_2047, l_2048, l_10000, l_25600, l_500000, r_h1 hR2.1, e8]; done) | omega)) | with_reducible apply Ok.jnU | with_reducible apply Ok.letsU | with_reducible apply Ok.elL | with_reducible apply Ok.elR | ((with_reducible apply Ok.gdT); · exact bI_nar _)))
        exact Ok.ret (by simp [c])
      · have e8 : (S2.1 148 i = (1 : Int32) <<< (nI (W 0 1) &&& 31) - 1) = False := eq_false (fun z => c ((eall i h1 h2).mp z))
        (repeat (first | ((with_reducible apply Ok.step); · ((try simp (disch := omega) only [↓reduceIte, Option.bind_some, Sum.elim_inl, Sum.elim_inr, if_true, if_false, rd_nI, wr_nI, rd_z, rd_o, wr_z, wr_o, nI_1, nI_add, pk_mul, nI_leI, nI_ltI, nI_eq, z_le, le_z, z_lt, lt_z, eq_z, eq_o, le_o, o_le, lt_o, o_lt, eq_m1, eq_m2, m1_eq, m2_eq, m1_lt, m1_le, o_z, z_o, m1_z, m1_o, m2_z, m2_o, m2_m1, z_lz, z_lo, o_lz, o_ez, z_ez, z_eo, m2_lt, m2_le, leF, leT, ltF, ltT, eqF, eqT, bI_z, bI_o, sh1, sh0, not_true_eq_false, not_false_eq_true, ne_eq, Bool.true_eq_false, Bool.false_eq_true, true_and, and_true, false_and, and_false, l_2, l_3, l_4, l_5, l_6, l_7, l_8, l_9, l_10, l_11, l_12, l_13, l_14, l_15, l_16, l_17, l_18, l_19, l_20, l_21, l_22, l_23, l_24, l_25, l_26, l_27, l_28, l_29, l_30, l_32, l_33, l_34, l_35, l_36, l_37, l_38, l_39, l_50, l_60, l_99, l_100, l_150, l_160, l_240, l_250, l_300, l_400, l_402, l_403, l_420, l_500, l_600, l_840, l_1000, l_1024, l_2000, l_2047, l_2048, l_10000, l_25600, l_500000, r_h1 hR2.1, e8]); with_reducible exact rfl)) | ((with_reducible apply Ok.ifT); · (first | (simp (disch := omega) only [↓reduceIte, Option.bind_some, Sum.elim_inl, Sum.elim_inr, if_true, if_false, rd_nI, wr_nI, rd_z, rd_o, wr_z, wr_o, nI_1, nI_add, pk_mul, nI_leI, nI_ltI, nI_eq, z_le, le_z, z_lt, lt_z, eq_z, eq_o, le_o, o_le, lt_o, o_lt, eq_m1, eq_m2, m1_eq, m2_eq, m1_lt, m1_le, o_z, z_o, m1_z, m1_o, m2_z, m2_o, m2_m1, z_lz, z_lo, o_lz, o_ez, z_ez, z_eo, m2_lt, m2_le, leF, leT, ltF, ltT, eqF, eqT, bI_z, bI_o, sh1, sh0, not_true_eq_false, not_false_eq_true, ne_eq, Bool.true_eq_false, Bool.false_eq_true, true_and, and_true, false_and, and_false, l_2, l_3, l_4, l_5, l_6, l_7, l_8, l_9, l_10, l_11, l_12, l_13, l_14, l_15, l_16, l_17, l_18, l_19, l_20, l_21, l_22, l_23, l_24, l_25, l_26, l_27, l_28, l_29, l_30, l_32, l_33, l_34, l_35, l_36, l_37, l_38, l_39, l_50, l_60, l_99, l_100, l_150, l_160, l_240, l_250, l_300, l_400, l_402, l_403, l_420, l_500, l_600, l_840, l_1000, l_1024, l_2000, l_2047, l_2048, l_10000, l_25600, l_500000, r_h1 hR2.1, e8]; done) | omega)) | ((with_reducible apply Ok.ifF); · (first | (simp (disch := omega) only [↓reduceIte, Option.bind_some, Sum.elim_inl, Sum.elim_inr, if_true, if_false, rd_nI, wr_nI, rd_z, rd_o, wr_z, wr_o, nI_1, nI_add, pk_mul, nI_leI, nI_ltI, nI_eq, z_le, le_z, z_lt, lt_z, eq_z, eq_o, le_o, o_le, lt_o, o_lt, eq_m1, eq_m2, m1_eq, m2_eq, m1_lt, m1_le, o_z, z_o, m1_z, m1_o, m2_z, m2_o, m2_m1, z_lz, z_lo, o_lz, o_ez, z_ez, z_eo, m2_lt, m2_le, leF, leT, ltF, ltT, eqF, eqT, bI_z, bI_o, sh1, sh0, not_true_eq_false, not_false_eq_true, ne_eq, Bool.true_eq_false, Bool.false_eq_true, true_and, and_true, false_and, and_false, l_2, l_3, l_4, l_5, l_6, l_7, l_8, l_9, l_10, l_11, l_12, l_13, l_14, l_15, l_16, l_17, l_18, l_19, l_20, l_21, l_22, l_23, l_24, l_25, l_26, l_27, l_28, l_29, l_30, l_32, l_33, l_34, l_35, l_36, l_37, l_38, l_39, l_50, l_60, l_99, l_100, l_150, l_160, l_240, l_250, l_300, l_400, l_402, l_403, l_420, l_500, l_600, l_840, l_1000, l_1024, l_2000, l_2047, l_2048, l_10000, l_25600, l_500000, r_h1 hR2.1, e8]; done) | omega)) | with_reducible apply Ok.jnU | with_reducible apply Ok.letsU | with_reducible apply Ok.elL | with_reducible apply Ok.elR | ((with_reducible apply Ok.gdT); · exact bI_nar _)))
        exact Ok.ret (by simp [c, nI_1])
    · (repeat (first | ((with_reducible apply Ok.step); · ((try simp (disch := omega) only [↓reduceIte, Option.bind_some, Sum.elim_inl, Sum.elim_inr, if_true, if_false, rd_nI, wr_nI, rd_z, rd_o, wr_z, wr_o, nI_1, nI_add, pk_mul, nI_leI, nI_ltI, nI_eq, z_le, le_z, z_lt, lt_z, eq_z, eq_o, le_o, o_le, lt_o, o_lt, eq_m1, eq_m2, m1_eq, m2_eq, m1_lt, m1_le, o_z, z_o, m1_z, m1_o, m2_z, m2_o, m2_m1, z_lz, z_lo, o_lz, o_ez, z_ez, z_eo, m2_lt, m2_le, leF, leT, ltF, ltT, eqF, eqT, bI_z, bI_o, sh1, sh0, not_true_eq_false, not_false_eq_true, ne_eq, Bool.true_eq_false, Bool.false_eq_true, true_and, and_true, false_and, and_false, l_2, l_3, l_4, l_5, l_6, l_7, l_8, l_9, l_10, l_11, l_12, l_13, l_14, l_15, l_16, l_17, l_18, l_19, l_20, l_21, l_22, l_23, l_24, l_25, l_26, l_27, l_28, l_29, l_30, l_32, l_33, l_34, l_35, l_36, l_37, l_38, l_39, l_50, l_60, l_99, l_100, l_150, l_160, l_240, l_250, l_300, l_400, l_402, l_403, l_420, l_500, l_600, l_840, l_1000, l_1024, l_2000, l_2047, l_2048, l_10000, l_25600, l_500000]); with_reducible exact rfl)) | ((with_reducible apply Ok.ifT); · (first | (simp (disch := omega) only [↓reduceIte, Option.bind_some, Sum.elim_inl, Sum.elim_inr, if_true, if_false, rd_nI, wr_nI, rd_z, rd_o, wr_z, wr_o, nI_1, nI_add, pk_mul, nI_leI, nI_ltI, nI_eq, z_le, le_z, z_lt, lt_z, eq_z, eq_o, le_o, o_le, lt_o, o_lt, eq_m1, eq_m2, m1_eq, m2_eq, m1_lt, m1_le, o_z, z_o, m1_z, m1_o, m2_z, m2_o, m2_m1, z_lz, z_lo, o_lz, o_ez, z_ez, z_eo, m2_lt, m2_le, leF, leT, ltF, ltT, eqF, eqT, bI_z, bI_o, sh1, sh0, not_true_eq_false, not_false_eq_true, ne_eq, Bool.true_eq_false, Bool.false_eq_true, true_and, and_true, false_and, and_false, l_2, l_3, l_4, l_5, l_6, l_7, l_8, l_9, l_10, l_11, l_12, l_13, l_14, l_15, l_16, l_17, l_18, l_19, l_20, l_21, l_22, l_23, l_24, l_25, l_26, l_27, l_28, l_29, l_30, l_32, l_33, l_34, l_35, l_36, l_37, l_38, l_39, l_50, l_60, l_99, l_100, l_150, l_160, l_240, l_250, l_300, l_400, l_402, l_403, l_420, l_500, l_600, l_840, l_1000, l_1024, l_2000, l_2047, l_2048, l_10000, l_25600, l_500000]; done) | omega)) | ((with_reducible apply Ok.ifF); · (first | (simp (disch := omega) only [↓reduceIte, Option.bind_some, Sum.elim_inl, Sum.elim_inr, if_true, if_false, rd_nI, wr_nI, rd_z, rd_o, wr_z, wr_o, nI_1, nI_add, pk_mul, nI_leI, nI_ltI, nI_eq, z_le, le_z, z_lt, lt_z, eq_z, eq_o, le_o, o_le, lt_o, o_lt, eq_m1, eq_m2, m1_eq, m2_eq, m1_lt, m1_le, o_z, z_o, m1_z, m1_o, m2_z, m2_o, m2_m1, z_lz, z_lo, o_lz, o_ez, z_ez, z_eo, m2_lt, m2_le, leF, leT, ltF, ltT, eqF, eqT, bI_z, bI_o, sh1, sh0, not_true_eq_false, not_false_eq_true, ne_eq, Bool.true_eq_false, Bool.false_eq_true, true_and, and_true, false_and, and_false, l_2, l_3, l_4, l_5, l_6, l_7, l_8, l_9, l_10, l_11, l_12, l_13, l_14, l_15, l_16, l_17, l_18, l_19, l_20, l_21, l_22, l_23, l_24, l_25, l_26, l_27, l_28, l_29, l_30, l_32, l_33, l_34, l_35, l_36, l_37, l_38, l_39, l_50, l_60, l_99, l_100, l_150, l_160, l_240, l_250, l_300, l_400, l_402, l_403, l_420, l_500, l_600, l_840, l_1000, l_1024, l_2000, l_2047, l_2048, l_10000, l_25600, l_500000]; done) | omega)) | with_reducible apply Ok.jnU | with_reducible apply Ok.letsU | with_reducible apply Ok.elL | with_reducible apply Ok.elR | ((with_reducible apply Ok.gdT); · exact bI_nar _)))
      exact Ok.ret rfl
    · intro i h1 h2 h3 h4
      refine Ok.ret ?_
      simp only [decide_eq_true_eq] at h3
      have e9 : wLate f h0 (W 0 1) = i := by
        have g := (hge (W 0 1)).1
        rcases Nat.lt_or_ge (wLate f h0 (W 0 1)) i with g2 | g2
        · have := h4 _ g g2
          simp at this
        · omega
      rw [e9, orN, if_pos (by omega)]
    · intro h1
      refine Ok.ret ?_
      rw [orN, if_neg]
      intro z
      have := h1 _ (hge (W 0 1)).1 (by omega : wLate f h0 (W 0 1) < 25)
      simp at this
end SOO
