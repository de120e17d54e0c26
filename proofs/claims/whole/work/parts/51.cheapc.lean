/-! ===== the cheapest way, by the class ===== -/
theorem mnI_nI {a b : Nat} (ha : a < 2 ^ 31) (hb : b < 2 ^ 31) : mnI (nI a) (nI b) = nI (min a b) := by
  unfold mnI
  by_cases c : b < a
  · rw [if_pos (nI_lt c ha), show min a b = b by omega]
  · rw [if_neg (nI_nlt (by omega) hb), show min a b = a by omega]
theorem nI_orN {a b : Nat} (ha : a < 2 ^ 31) (hb : b < 2 ^ 31) : nI a ||| nI b = nI (a ||| b) := by
  apply b_ext
  intro i _
  rw [b_or, bt_nI _ _ ha, bt_nI _ _ hb, bt_nI _ _ (Nat.or_lt_two_pow ha hb), Nat.testBit_or]
theorem nI_mulN (a b : Nat) : nI a * nI b = nI (a * b) := (Int32.ofNat_mul a b).symm
section CHP
variable {W : VW} {V : VL} {tw en sd : Nat} {P : PL} {N : Nat} {H : HL} {n : Nat} {S : ST}
theorem wHearN_lt {p h : Nat} : wHearN W p h < 2 ^ W 0 1 := bsN_lt _ _
theorem wStandN_lt {p h : Nat} : wStandN W p h < 2 ^ W 0 1 := bsN_lt _ _
theorem wLeast_lt (hW : WF W) {p h : Nat} : wLeast W V p h ≤ 10 := by
  have hm1 : W 0 1 ≤ 10 := hW.mx (k := 1) (by decide)
  unfold wLeast
  cases c : srch (fun o => wMay W V nD p o h 0) 0 (W 0 1) with
  | none => show 0 ≤ 10; omega
  | some j =>
    obtain ⟨h3, h4, h5, h6⟩ := srch_some c
    show j ≤ 10
    omega
theorem chSay_le {f : Nat → Nat} {h x p : Nat} : chSay W V f h x p ≤ 1024002047 := by
  unfold chSay wINF
  split <;> omega
theorem chBy_le {t : Nat} {f : Nat → Nat} {h x p : Nat} : ∀ a, chBy W V t f h x p a ≤ 1024002047 := by
  intro a
  induction a with
  | zero => exact chSay_le
  | succ a ih =>
    rw [chBy]
    split <;> omega
theorem chEnt_le {t : Nat} {f : Nat → Nat} {h x : Nat} (hf : f x ≤ 500000) : ∀ p, chEnt W V t f h x p ≤ 1024002047 := by
  intro p
  induction p with
  | zero => rw [chEnt]; omega
  | succ p ih =>
    rw [chEnt]
    have := chBy_le (W := W) (V := V) (t := t) (f := f) (h := h) (x := x) (p := p) (W 0 7)
    split <;> omega
theorem chOpt_le {q t : Nat} : ∀ d x, chOpt W V q t d x ≤ 500000 := by
  intro d
  induction d with
  | zero => intro x; rw [chOpt]; unfold wINF; split <;> omega
  | succ d ih =>
    intro x
    rw [chOpt]
    have := chEnt_le (W := W) (V := V) (t := t) (f := chOpt W V q t d) (h := 23 - d) (x := x) (ih x) (W 0 1)
    split <;> omega
theorem chBy_stop {t : Nat} {f : Nat → Nat} {h x p : Nat} (e : x ||| wStandN W p h = x) : ∀ a, chBy W V t f h x p a = chSay W V f h x p := by
  intro a
  induction a with
  | zero => rfl
  | succ a ih => rw [chBy, if_neg (fun z => z.2 e), ih]
/-- the entries that stand are right -/
def ChJ (W : VW) (V : VL) (q t : Nat) (S : ST) : Prop := S.1 90 0 = nI q ∧ S.1 90 1 = nI t ∧ ∀ h x, h < 24 → x < 2 ^ W 0 1 → S.1 161 (h * 1024 + x) = -1 ∨ S.1 161 (h * 1024 + x) = nI (chEn W V q t h x)
theorem c_entryBy {q t p h x : Nat} {f : Nat → Nat} {El : ST → Int32 → Int32 → Option (Int32 × ST)} {J : ST → Prop} (hC : CW W V tw S) (hW : WF W) (hn : 30000 ≤ n) (hp : p < W 0 1) (hh : h < 24) (hx : x < 2 ^ W 0 1) (ht : t < 6) (hf : ∀ y, f y ≤ 500000) (hJt : ∀ S', J S' → S'.1 90 1 = nI t) (hJ : J S)
    (hEl : ∀ S' y, y < 2 ^ W 0 1 → J S' → Ok (El S' (nI (h + 1)) (nI y)) (fun r => r.1 = nI (f y) ∧ Df (Xc 161) S' r.2 ∧ J r.2)) :
    Ok (E_X0_entryBy n El S tw (nI h) (nI x) (nI p)) (fun r => r.1 = nI (chBy W V t f h x p (W 0 7)) ∧ Df (Xc 161) S r.2 ∧ J r.2) := by
  have hw := hC.1
  have hm1 : W 0 1 ≤ 10 := hW.mx (k := 1) (by decide)
  have hm7 : W 0 7 ≤ 6 := hW.mx (k := 7) (by decide)
  have hpow : 2 ^ W 0 1 ≤ 2 ^ 10 := Nat.pow_le_pow_right (by decide) hm1
  have hHl := wHearN_lt (W := W) (p := p) (h := h)
  have hSl := wStandN_lt (W := W) (p := p) (h := h)
  have h1 : x ||| wHearN W p h < 2 ^ W 0 1 := Nat.or_lt_two_pow hx hHl
  have h2 : x ||| wStandN W p h < 2 ^ W 0 1 := Nat.or_lt_two_pow hx hSl
  have eH : nI x ||| bs (wHear W nD (wPl W p h) h) (W 0 1) = nI (x ||| wHearN W p h) := by
    rw [bs_nI _ (by omega)]
    exact nI_orN (by omega) (show wHearN W p h < 2 ^ 31 by omega)
  have eS : nI x ||| bs (wStand W nD (wPl W p h) h) (W 0 1) = nI (x ||| wStandN W p h) := by
    rw [bs_nI _ (by omega)]
    exact nI_orN (by omega) (show wStandN W p h < 2 ^ 31 by omega)
  have hCd : ∀ {S'}, Df (Xc 161) S S' → CW W V tw S' := fun d => hC.df d (fun a j ha => by
    simp only [Xc, beq_eq_false_iff_ne]
    omega)
  unfold E_X0_entryBy
  apply Ok.step (c_placeOf hC hW hp hh)
  apply Ok.step (c_sayTo hC hW hp hh)
  apply Ok.step (c_hearers hC hW hh)
  refine jnH2 (fun u S' => u = nI (chSay W V f h x p) ∧ Df (Xc 161) S S' ∧ J S') ?_ ?_
  rotate_left
  · intro K hK
    by_cases c1 : wSpk W V p h = true
    case neg =>
      simp only [Bool.not_eq_true] at c1
      refine Ok.ifT (by rw [bs_z (by omega)]; exact c1) (hK _ _ ⟨?_, Df.refl _ _, hJ⟩)
      unfold chSay
      rw [if_neg (fun z => by rw [c1] at z; cases z.1)]; rfl
    refine Ok.ifF (by rw [bs_z (by omega)]; intro z; have z2 : wSpk W V p h = false := z; rw [c1] at z2; cases z2) ?_
    rw [eH]
    by_cases c2 : x ||| wHearN W p h = x
    · refine Ok.ifT (by rw [c2]) (hK _ _ ⟨?_, Df.refl _ _, hJ⟩)
      unfold chSay
      rw [if_neg (fun z => z.2 c2)]; rfl
    refine Ok.ifF (fun z => c2 ((nI_eq (by omega) (by omega)).mp z)) ?_
    rw [nI_1]
    obtain ⟨⟨v, S1⟩, e1, e2, d1, j1⟩ := hEl S _ h1 hJ
    dsimp only at e2 d1 j1
    subst e2
    apply Ok.step e1
    have hl : srch (fun o => wMay W V nD p o h 0) 0 (W 0 1) = some (wLeast W V p h) := by
      unfold wLeast
      cases c : srch (fun o => wMay W V nD p o h 0) 0 (W 0 1) with
      | some j => rfl
      | none =>
        obtain ⟨o, ho, hm⟩ := anyN_iff.mp c1
        have := srch_none c o (Nat.zero_le _) (by omega)
        rw [hm] at this; cases this
    obtain ⟨g1, g2, g3, g4⟩ := srch_some hl
    apply Ok.step (c_tz (i := wLeast W V p h) (P := fun o => wMay W V nD p o h 0) hm1 (by omega) g3 (fun j hj => g4 j (Nat.zero_le _) hj))
    apply Ok.letsU
    refine hK _ _ ⟨?_, d1, j1⟩
    have hfl := hf (x ||| wHearN W p h)
    have hll := wLeast_lt (V := V) hW (p := p) (h := h)
    unfold chSay
    rw [if_pos ⟨c1, c2⟩]
    rw [show (32 : Int32) = nI 32 from rfl, show (2048 : Int32) = nI 2048 from rfl, show (20 : Int32) = nI 20 from rfl, nI_add, nI_1, nI_mulN, nI_mulN, nI_add, nI_add]
    exact mnI_nI (a := 1024002047) (by decide) (by omega)
  · rintro u S1 ⟨rfl, d1, j1⟩
    apply Ok.step (c_standers (hCd d1) hW hh)
    refine bindL (fun a s => s.1 = nI (chBy W V t f h x p a) ∧ s.2.1 = nI a ∧ Df (Xc 161) S s.2.2 ∧ J s.2.2) (fun e => e.1 = nI (chBy W V t f h x p (W 0 7)) ∧ Df (Xc 161) S e.2 ∧ J e.2) 0 (W 0 7) (Nat.zero_le _) (by omega) ⟨rfl, rfl, d1, j1⟩ ?_ ?_ (fun e he => Ok.ret he)
    · rintro a ⟨v, y, S2⟩ _ ha ⟨rfl, rfl, d2, j2⟩
      dsimp only at d2 j2 ⊢
      have hC2 := hCd d2
      apply Ok.step (x := nI (W 0 7)) (by simp (disch := omega) only [↓reduceIte, Option.bind_some, jn, lets, Sum.elim_inl, Sum.elim_inr, if_true, if_false, rd_nI, wr_nI, rd_z, rd_o, wr_z, wr_o, nI_1, nI_add, pk_mul, nI_leI, nI_ltI, nI_eq, z_le, le_z, z_lt, lt_z, eq_z, eq_o, le_o, o_le, lt_o, o_lt, eq_m1, eq_m2, m1_eq, m2_eq, m1_lt, m1_le, o_z, z_o, m1_z, m1_o, m2_z, m2_o, m2_m1, z_lz, z_lo, o_lz, o_ez, z_ez, z_eo, m2_lt, m2_le, leF, leT, ltF, ltT, eqF, eqT, bI_z, bI_o, sh1, sh0, not_true_eq_false, not_false_eq_true, ne_eq, Bool.true_eq_false, Bool.false_eq_true, true_and, and_true, false_and, and_false, l_2, l_3, l_4, l_5, l_6, l_7, l_8, l_9, l_10, l_11, l_12, l_13, l_14, l_15, l_16, l_17, l_18, l_19, l_20, l_21, l_22, l_23, l_24, l_25, l_26, l_27, l_28, l_29, l_30, l_32, l_33, l_34, l_35, l_36, l_37, l_38, l_39, l_50, l_60, l_99, l_100, l_150, l_160, l_240, l_250, l_300, l_400, l_402, l_403, l_420, l_500, l_600, l_840, l_1000, l_1024, l_2000, l_2047, l_2048, l_10000, l_25600, l_500000, g_n hC2])
      refine Ok.ifF (by simp (disch := omega) only [↓reduceIte, Option.bind_some, jn, lets, Sum.elim_inl, Sum.elim_inr, if_true, if_false, rd_nI, wr_nI, rd_z, rd_o, wr_z, wr_o, nI_1, nI_add, pk_mul, nI_leI, nI_ltI, nI_eq, z_le, le_z, z_lt, lt_z, eq_z, eq_o, le_o, o_le, lt_o, o_lt, eq_m1, eq_m2, m1_eq, m2_eq, m1_lt, m1_le, o_z, z_o, m1_z, m1_o, m2_z, m2_o, m2_m1, z_lz, z_lo, o_lz, o_ez, z_ez, z_eo, m2_lt, m2_le, leF, leT, ltF, ltT, eqF, eqT, bI_z, bI_o, sh1, sh0, not_true_eq_false, not_false_eq_true, ne_eq, Bool.true_eq_false, Bool.false_eq_true, true_and, and_true, false_and, and_false, l_2, l_3, l_4, l_5, l_6, l_7, l_8, l_9, l_10, l_11, l_12, l_13, l_14, l_15, l_16, l_17, l_18, l_19, l_20, l_21, l_22, l_23, l_24, l_25, l_26, l_27, l_28, l_29, l_30, l_32, l_33, l_34, l_35, l_36, l_37, l_38, l_39, l_50, l_60, l_99, l_100, l_150, l_160, l_240, l_250, l_300, l_400, l_402, l_403, l_420, l_500, l_600, l_840, l_1000, l_1024, l_2000, l_2047, l_2048, l_10000, l_25600, l_500000]) ?_
      rw [eS]
      by_cases c2 : x ||| wStandN W p h = x
      · refine Ok.ifT (by rw [c2]) (Ok.inr ⟨?_, d2, j2⟩)
        dsimp only
        rw [chBy_stop c2, chBy_stop c2]
      refine Ok.ifF (fun z => c2 ((nI_eq (by omega) (by omega)).mp z)) ?_
      apply Ok.step (x := nI (W 15 a)) (by simp (disch := omega) only [↓reduceIte, Option.bind_some, jn, lets, Sum.elim_inl, Sum.elim_inr, if_true, if_false, rd_nI, wr_nI, rd_z, rd_o, wr_z, wr_o, nI_1, nI_add, pk_mul, nI_leI, nI_ltI, nI_eq, z_le, le_z, z_lt, lt_z, eq_z, eq_o, le_o, o_le, lt_o, o_lt, eq_m1, eq_m2, m1_eq, m2_eq, m1_lt, m1_le, o_z, z_o, m1_z, m1_o, m2_z, m2_o, m2_m1, z_lz, z_lo, o_lz, o_ez, z_ez, z_eo, m2_lt, m2_le, leF, leT, ltF, ltT, eqF, eqT, bI_z, bI_o, sh1, sh0, not_true_eq_false, not_false_eq_true, ne_eq, Bool.true_eq_false, Bool.false_eq_true, true_and, and_true, false_and, and_false, l_2, l_3, l_4, l_5, l_6, l_7, l_8, l_9, l_10, l_11, l_12, l_13, l_14, l_15, l_16, l_17, l_18, l_19, l_20, l_21, l_22, l_23, l_24, l_25, l_26, l_27, l_28, l_29, l_30, l_32, l_33, l_34, l_35, l_36, l_37, l_38, l_39, l_50, l_60, l_99, l_100, l_150, l_160, l_240, l_250, l_300, l_400, l_402, l_403, l_420, l_500, l_600, l_840, l_1000, l_1024, l_2000, l_2047, l_2048, l_10000, l_25600, l_500000, g_at hC2])
      apply Ok.jnU
      rw [hJt _ j2]
      have hta := (hW.2.2.2.2.2.2.2.1 a ha)
      have hm2 : W 0 2 ≤ 6 := hW.mx (k := 2) (by decide)
      by_cases c3 : W 15 a = t
      · refine Ok.ifT (by rw [c3]) ?_
        rw [nI_1]
        obtain ⟨⟨w, S3⟩, e1, e2, d3, j3⟩ := hEl S2 _ h2 j2
        dsimp only at e2 d3 j3
        subst e2
        apply Ok.step e1
        have hC3 := hCd (d2.trans d3)
        apply Ok.step (x := nI (W 16 a)) (by simp (disch := omega) only [↓reduceIte, Option.bind_some, jn, lets, Sum.elim_inl, Sum.elim_inr, if_true, if_false, rd_nI, wr_nI, rd_z, rd_o, wr_z, wr_o, nI_1, nI_add, pk_mul, nI_leI, nI_ltI, nI_eq, z_le, le_z, z_lt, lt_z, eq_z, eq_o, le_o, o_le, lt_o, o_lt, eq_m1, eq_m2, m1_eq, m2_eq, m1_lt, m1_le, o_z, z_o, m1_z, m1_o, m2_z, m2_o, m2_m1, z_lz, z_lo, o_lz, o_ez, z_ez, z_eo, m2_lt, m2_le, leF, leT, ltF, ltT, eqF, eqT, bI_z, bI_o, sh1, sh0, not_true_eq_false, not_false_eq_true, ne_eq, Bool.true_eq_false, Bool.false_eq_true, true_and, and_true, false_and, and_false, l_2, l_3, l_4, l_5, l_6, l_7, l_8, l_9, l_10, l_11, l_12, l_13, l_14, l_15, l_16, l_17, l_18, l_19, l_20, l_21, l_22, l_23, l_24, l_25, l_26, l_27, l_28, l_29, l_30, l_32, l_33, l_34, l_35, l_36, l_37, l_38, l_39, l_50, l_60, l_99, l_100, l_150, l_160, l_240, l_250, l_300, l_400, l_402, l_403, l_420, l_500, l_600, l_840, l_1000, l_1024, l_2000, l_2047, l_2048, l_10000, l_25600, l_500000, g_ac hC3])
        apply Ok.letsU
        apply Ok.letsU
        refine Ok.inl ⟨?_, nI_1 _, d2.trans d3, j3⟩
        have hfl := hf (x ||| wStandN W p h)
        have hbl := chBy_le (W := W) (V := V) (t := t) (f := f) (h := h) (x := x) (p := p) a
        rw [chBy, if_pos ⟨c3, c2⟩]
        dsimp only
        rw [show (32 : Int32) = nI 32 from rfl, show (2048 : Int32) = nI 2048 from rfl, show (1000 : Int32) = nI 1000 from rfl, show (20 : Int32) = nI 20 from rfl, nI_mulN, nI_add, nI_1, nI_mulN, nI_add, nI_mulN, nI_add, nI_add]
        exact mnI_nI (by omega) (by omega)
      · refine Ok.ifF (fun z => c3 ((nI_eq (by omega) (by omega)).mp z)) (Ok.inl ⟨?_, nI_1 _, d2, j2⟩)
        rw [chBy, if_neg (fun z => c3 z.1)]
    · rintro ⟨v, y, S2⟩ ⟨rfl, rfl, d2, j2⟩
      dsimp only at d2 j2 ⊢
      have hC2 := hCd d2
      apply Ok.step (x := nI (W 0 7)) (by simp (disch := omega) only [↓reduceIte, Option.bind_some, jn, lets, Sum.elim_inl, Sum.elim_inr, if_true, if_false, rd_nI, wr_nI, rd_z, rd_o, wr_z, wr_o, nI_1, nI_add, pk_mul, nI_leI, nI_ltI, nI_eq, z_le, le_z, z_lt, lt_z, eq_z, eq_o, le_o, o_le, lt_o, o_lt, eq_m1, eq_m2, m1_eq, m2_eq, m1_lt, m1_le, o_z, z_o, m1_z, m1_o, m2_z, m2_o, m2_m1, z_lz, z_lo, o_lz, o_ez, z_ez, z_eo, m2_lt, m2_le, leF, leT, ltF, ltT, eqF, eqT, bI_z, bI_o, sh1, sh0, not_true_eq_false, not_false_eq_true, ne_eq, Bool.true_eq_false, Bool.false_eq_true, true_and, and_true, false_and, and_false, l_2, l_3, l_4, l_5, l_6, l_7, l_8, l_9, l_10, l_11, l_12, l_13, l_14, l_15, l_16, l_17, l_18, l_19, l_20, l_21, l_22, l_23, l_24, l_25, l_26, l_27, l_28, l_29, l_30, l_32, l_33, l_34, l_35, l_36, l_37, l_38, l_39, l_50, l_60, l_99, l_100, l_150, l_160, l_240, l_250, l_300, l_400, l_402, l_403, l_420, l_500, l_600, l_840, l_1000, l_1024, l_2000, l_2047, l_2048, l_10000, l_25600, l_500000, g_n hC2])
      exact Ok.ifT (by simp (disch := omega) only [↓reduceIte, Option.bind_some, jn, lets, Sum.elim_inl, Sum.elim_inr, if_true, if_false, rd_nI, wr_nI, rd_z, rd_o, wr_z, wr_o, nI_1, nI_add, pk_mul, nI_leI, nI_ltI, nI_eq, z_le, le_z, z_lt, lt_z, eq_z, eq_o, le_o, o_le, lt_o, o_lt, eq_m1, eq_m2, m1_eq, m2_eq, m1_lt, m1_le, o_z, z_o, m1_z, m1_o, m2_z, m2_o, m2_m1, z_lz, z_lo, o_lz, o_ez, z_ez, z_eo, m2_lt, m2_le, leF, leT, ltF, ltT, eqF, eqT, bI_z, bI_o, sh1, sh0, not_true_eq_false, not_false_eq_true, ne_eq, Bool.true_eq_false, Bool.false_eq_true, true_and, and_true, false_and, and_false, l_2, l_3, l_4, l_5, l_6, l_7, l_8, l_9, l_10, l_11, l_12, l_13, l_14, l_15, l_16, l_17, l_18, l_19, l_20, l_21, l_22, l_23, l_24, l_25, l_26, l_27, l_28, l_29, l_30, l_32, l_33, l_34, l_35, l_36, l_37, l_38, l_39, l_50, l_60, l_99, l_100, l_150, l_160, l_240, l_250, l_300, l_400, l_402, l_403, l_420, l_500, l_600, l_840, l_1000, l_1024, l_2000, l_2047, l_2048, l_10000, l_25600, l_500000]) (Ok.inr ⟨rfl, d2, j2⟩)
end CHP
