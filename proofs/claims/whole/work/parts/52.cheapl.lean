/-! ===== the cheapest way, by the class: entries, least ===== -/
theorem nI_divN {a b : Nat} (ha : a < 2 ^ 31) (hb : b < 2 ^ 31) : nI a / nI b = nI (a / b) := by
  apply Int32.toInt_inj.mp
  have t : ∀ {c : Nat}, c < 2 ^ 31 → (nI c).toInt = (c : Int) := fun {c} hc => by
    exact Int32.toInt_ofNat_of_lt hc
  have hd : a / b < 2 ^ 31 := Nat.lt_of_le_of_lt (Nat.div_le_self a b) ha
  rw [Int32.toInt_div, t ha, t hb, t hd, ← Int.ofNat_tdiv]
  generalize a / b = c at *
  exact Int.bmod_eq_of_le (by omega) (by omega)
section CHL
variable {W : VW} {V : VL} {tw en sd : Nat} {P : PL} {N : Nat} {H : HL} {n : Nat} {S : ST}
theorem ChJ.put {q t h x : Nat} {v : Int32} (hJ : ChJ W V q t S) (hm : W 0 1 ≤ 10) (hx : x < 2 ^ W 0 1) (e : v = nI (chEn W V q t h x)) : ChJ W V q t (upI S 161 (h * 1024 + x) v) := by
  have hpow : 2 ^ W 0 1 ≤ 2 ^ 10 := Nat.pow_le_pow_right (by decide) hm
  refine ⟨by rw [upI_at, if_neg (by omega)]; exact hJ.1, by rw [upI_at, if_neg (by omega)]; exact hJ.2.1, fun h' x' hh' hx' => ?_⟩
  rw [upI_at]
  by_cases c : h' * 1024 + x' = h * 1024 + x
  · have c1 : h' = h := by omega
    have c2 : x' = x := by omega
    rw [if_pos ⟨rfl, c⟩, c1, c2]
    exact Or.inr e
  · rw [if_neg (fun z => c z.2)]
    exact hJ.2.2 h' x' hh' hx'
theorem c_entry {q t h x : Nat} {El : ST → Int32 → Int32 → Option (Int32 × ST)} (hC : CW W V tw S) (hW : WF W) (hn : 30000 ≤ n) (hh : h < 24) (hx : x < 2 ^ W 0 1) (ht : t < 6) (hJ : ChJ W V q t S)
    (hEl : ∀ S' y, CW W V tw S' → y < 2 ^ W 0 1 → ChJ W V q t S' → Ok (El S' (nI (h + 1)) (nI y)) (fun r => r.1 = nI (chOpt W V q t (23 - h) y) ∧ Df (Xc 161) S' r.2 ∧ ChJ W V q t r.2)) :
    Ok (E_X0_entry n El S tw (nI h) (nI x)) (fun r => r.1 = nI (chEn W V q t h x) ∧ Df (Xc 161) S r.2 ∧ ChJ W V q t r.2) := by
  have hw := hC.1
  have hm1 : W 0 1 ≤ 10 := hW.mx (k := 1) (by decide)
  have hpow : 2 ^ W 0 1 ≤ 2 ^ 10 := Nat.pow_le_pow_right (by decide) hm1
  have hCd : ∀ {S'}, Df (Xc 161) S S' → CW W V tw S' := fun d => hC.df d (fun a j ha => by
    simp only [Xc, beq_eq_false_iff_ne]
    omega)
  have ei : nI h * (1024 : Int32) + nI x = nI (h * 1024 + x) := by
    rw [show (1024 : Int32) = nI 1024 from rfl, nI_mulN, nI_add]
  have hEl' : ∀ S' y, y < 2 ^ W 0 1 → (CW W V tw S' ∧ ChJ W V q t S') → Ok (El S' (nI (h + 1)) (nI y)) (fun r => r.1 = nI (chOpt W V q t (23 - h) y) ∧ Df (Xc 161) S' r.2 ∧ (CW W V tw r.2 ∧ ChJ W V q t r.2)) := by
    intro S' y hy hJ'
    obtain ⟨r, e1, e2, e3, e4⟩ := hEl S' y hJ'.1 hy hJ'.2
    exact ⟨r, e1, e2, e3, hJ'.1.df e3 (fun a j ha => by
      simp only [Xc, beq_eq_false_iff_ne]
      omega), e4⟩
  unfold E_X0_entry
  rw [ei]
  apply Ok.jnU
  refine Ok.ifF (nI_pos (by omega)) (Ok.ifT (nI_lt (b := 24576) (by omega) (by decide)) ?_)
  apply Ok.step (x := S.1 161 (h * 1024 + x)) (rd_nI (by omega) (by decide))
  refine jnH1 (fun S' => Df (Xc 161) S S' ∧ ChJ W V q t S' ∧ S'.1 161 (h * 1024 + x) = nI (chEn W V q t h x)) ?_ ?_
  · rintro S1 ⟨d1, j1, e1⟩
    apply Ok.step (x := nI (chEn W V q t h x)) (by rw [rd_nI (by omega) (by decide), e1])
    exact Ok.ret ⟨rfl, d1, j1⟩
  · intro K hK
    by_cases c0 : S.1 161 (h * 1024 + x) = -1
    case neg =>
      refine Ok.ifF c0 (hK S ⟨Df.refl _ _, hJ, ?_⟩)
      rcases hJ.2.2 h x hh hx with z | z
      · exact absurd z c0
      · exact z
    refine Ok.ifT c0 ?_
    rw [nI_1]
    obtain ⟨⟨v, S1⟩, e1, e2, d1, j1⟩ := hEl S x hC hx hJ
    dsimp only at e2 d1 j1
    subst e2
    apply Ok.step e1
    have hf := chOpt_le (W := W) (V := V) (q := q) (t := t) (23 - h)
    refine bindL (fun p s => s.1 = nI (chEnt W V t (chOpt W V q t (23 - h)) h x p) ∧ s.2.1 = nI p ∧ Df (Xc 161) S s.2.2 ∧ ChJ W V q t s.2.2) (fun e => e.1 = nI (chEn W V q t h x) ∧ Df (Xc 161) S e.2 ∧ ChJ W V q t e.2) 0 (W 0 1) (Nat.zero_le _) (by omega) ⟨?_, rfl, d1, j1⟩ ?_ ?_ ?_
    · dsimp only
      rw [show (2048 : Int32) = nI 2048 from rfl, show (2047 : Int32) = nI 2047 from rfl, nI_mulN, nI_add]; rfl
    · rintro p ⟨v, y, S2⟩ _ hp ⟨rfl, rfl, d2, j2⟩
      dsimp only at d2 j2 ⊢
      have hC2 := hCd d2
      apply Ok.step (x := nI (W 0 1)) (by simp (disch := omega) only [↓reduceIte, Option.bind_some, jn, lets, Sum.elim_inl, Sum.elim_inr, if_true, if_false, rd_nI, wr_nI, rd_z, rd_o, wr_z, wr_o, nI_1, nI_add, pk_mul, nI_leI, nI_ltI, nI_eq, z_le, le_z, z_lt, lt_z, eq_z, eq_o, le_o, o_le, lt_o, o_lt, eq_m1, eq_m2, m1_eq, m2_eq, m1_lt, m1_le, o_z, z_o, m1_z, m1_o, m2_z, m2_o, m2_m1, z_lz, z_lo, o_lz, o_ez, z_ez, z_eo, m2_lt, m2_le, leF, leT, ltF, ltT, eqF, eqT, bI_z, bI_o, sh1, sh0, not_true_eq_false, not_false_eq_true, ne_eq, Bool.true_eq_false, Bool.false_eq_true, true_and, and_true, false_and, and_false, l_2, l_3, l_4, l_5, l_6, l_7, l_8, l_9, l_10, l_11, l_12, l_13, l_14, l_15, l_16, l_17, l_18, l_19, l_20, l_21, l_22, l_23, l_24, l_25, l_26, l_27, l_28, l_29, l_30, l_32, l_33, l_34, l_35, l_36, l_37, l_38, l_39, l_50, l_60, l_99, l_100, l_150, l_160, l_240, l_250, l_300, l_400, l_402, l_403, l_420, l_500, l_600, l_840, l_1000, l_1024, l_2000, l_2047, l_2048, l_10000, l_25600, l_500000, g_n hC2])
      refine Ok.ifF (by simp (disch := omega) only [↓reduceIte, Option.bind_some, jn, lets, Sum.elim_inl, Sum.elim_inr, if_true, if_false, rd_nI, wr_nI, rd_z, rd_o, wr_z, wr_o, nI_1, nI_add, pk_mul, nI_leI, nI_ltI, nI_eq, z_le, le_z, z_lt, lt_z, eq_z, eq_o, le_o, o_le, lt_o, o_lt, eq_m1, eq_m2, m1_eq, m2_eq, m1_lt, m1_le, o_z, z_o, m1_z, m1_o, m2_z, m2_o, m2_m1, z_lz, z_lo, o_lz, o_ez, z_ez, z_eo, m2_lt, m2_le, leF, leT, ltF, ltT, eqF, eqT, bI_z, bI_o, sh1, sh0, not_true_eq_false, not_false_eq_true, ne_eq, Bool.true_eq_false, Bool.false_eq_true, true_and, and_true, false_and, and_false, l_2, l_3, l_4, l_5, l_6, l_7, l_8, l_9, l_10, l_11, l_12, l_13, l_14, l_15, l_16, l_17, l_18, l_19, l_20, l_21, l_22, l_23, l_24, l_25, l_26, l_27, l_28, l_29, l_30, l_32, l_33, l_34, l_35, l_36, l_37, l_38, l_39, l_50, l_60, l_99, l_100, l_150, l_160, l_240, l_250, l_300, l_400, l_402, l_403, l_420, l_500, l_600, l_840, l_1000, l_1024, l_2000, l_2047, l_2048, l_10000, l_25600, l_500000]) ?_
      apply Ok.step (c_hasBit (by omega))
      rw [bt_nI _ _ (by omega)]
      apply Ok.jnU
      by_cases c1 : x.testBit p = true
      · rw [c1]
        refine Ok.ifF (by decide) ?_
        obtain ⟨⟨v, S3⟩, e3, e4, d3, j3⟩ := c_entryBy (V := V) (q := q) (p := p) (t := t) (f := chOpt W V q t (23 - h)) (El := El) (J := fun S' => CW W V tw S' ∧ ChJ W V q t S') hC2 hW hn hp hh hx ht hf (fun S' z => z.2.2.1) ⟨hC2, j2⟩ hEl'
        dsimp only at e4 d3 j3
        subst e4
        apply Ok.step e3
        refine Ok.inl ⟨?_, nI_1 _, d2.trans d3, j3.2⟩
        dsimp only
        have a1 := chEnt_le (W := W) (V := V) (t := t) (h := h) (hf x) p
        have a2 := chBy_le (W := W) (V := V) (t := t) (f := chOpt W V q t (23 - h)) (h := h) (x := x) (p := p) (W 0 7)
        rw [mnI_nI (by omega) (by omega), chEnt, if_pos c1]
      · simp only [Bool.not_eq_true] at c1
        rw [c1]
        refine Ok.ifT rfl (Ok.inl ⟨?_, nI_1 _, d2, j2⟩)
        dsimp only
        rw [chEnt, c1, if_neg (by decide)]
    · rintro ⟨v, y, S2⟩ ⟨rfl, rfl, d2, j2⟩
      dsimp only at d2 j2 ⊢
      have hC2 := hCd d2
      apply Ok.step (x := nI (W 0 1)) (by simp (disch := omega) only [↓reduceIte, Option.bind_some, jn, lets, Sum.elim_inl, Sum.elim_inr, if_true, if_false, rd_nI, wr_nI, rd_z, rd_o, wr_z, wr_o, nI_1, nI_add, pk_mul, nI_leI, nI_ltI, nI_eq, z_le, le_z, z_lt, lt_z, eq_z, eq_o, le_o, o_le, lt_o, o_lt, eq_m1, eq_m2, m1_eq, m2_eq, m1_lt, m1_le, o_z, z_o, m1_z, m1_o, m2_z, m2_o, m2_m1, z_lz, z_lo, o_lz, o_ez, z_ez, z_eo, m2_lt, m2_le, leF, leT, ltF, ltT, eqF, eqT, bI_z, bI_o, sh1, sh0, not_true_eq_false, not_false_eq_true, ne_eq, Bool.true_eq_false, Bool.false_eq_true, true_and, and_true, false_and, and_false, l_2, l_3, l_4, l_5, l_6, l_7, l_8, l_9, l_10, l_11, l_12, l_13, l_14, l_15, l_16, l_17, l_18, l_19, l_20, l_21, l_22, l_23, l_24, l_25, l_26, l_27, l_28, l_29, l_30, l_32, l_33, l_34, l_35, l_36, l_37, l_38, l_39, l_50, l_60, l_99, l_100, l_150, l_160, l_240, l_250, l_300, l_400, l_402, l_403, l_420, l_500, l_600, l_840, l_1000, l_1024, l_2000, l_2047, l_2048, l_10000, l_25600, l_500000, g_n hC2])
      exact Ok.ifT (by simp (disch := omega) only [↓reduceIte, Option.bind_some, jn, lets, Sum.elim_inl, Sum.elim_inr, if_true, if_false, rd_nI, wr_nI, rd_z, rd_o, wr_z, wr_o, nI_1, nI_add, pk_mul, nI_leI, nI_ltI, nI_eq, z_le, le_z, z_lt, lt_z, eq_z, eq_o, le_o, o_le, lt_o, o_lt, eq_m1, eq_m2, m1_eq, m2_eq, m1_lt, m1_le, o_z, z_o, m1_z, m1_o, m2_z, m2_o, m2_m1, z_lz, z_lo, o_lz, o_ez, z_ez, z_eo, m2_lt, m2_le, leF, leT, ltF, ltT, eqF, eqT, bI_z, bI_o, sh1, sh0, not_true_eq_false, not_false_eq_true, ne_eq, Bool.true_eq_false, Bool.false_eq_true, true_and, and_true, false_and, and_false, l_2, l_3, l_4, l_5, l_6, l_7, l_8, l_9, l_10, l_11, l_12, l_13, l_14, l_15, l_16, l_17, l_18, l_19, l_20, l_21, l_22, l_23, l_24, l_25, l_26, l_27, l_28, l_29, l_30, l_32, l_33, l_34, l_35, l_36, l_37, l_38, l_39, l_50, l_60, l_99, l_100, l_150, l_160, l_240, l_250, l_300, l_400, l_402, l_403, l_420, l_500, l_600, l_840, l_1000, l_1024, l_2000, l_2047, l_2048, l_10000, l_25600, l_500000]) (Ok.inr ⟨rfl, d2, j2⟩)
    · rintro ⟨v, S2⟩ ⟨rfl, d2, j2⟩
      dsimp only at d2 j2 ⊢
      apply Ok.step (x := upI S2 161 (h * 1024 + x) (nI (chEn W V q t h x))) (wr_nI (by omega) (by decide))
      exact hK _ ⟨d2.up (by simp [Xc]), j2.put hm1 hx rfl, by rw [upI_at, if_pos ⟨rfl, rfl⟩]⟩
theorem c_least {q t : Nat} (hW : WF W) (hn : 30000 ≤ n) (hq : q < W 0 1) (ht : t < 6) : ∀ d k S x, d ≤ 24 → d < k → x < 2 ^ W 0 1 → CW W V tw S → ChJ W V q t S → Ok (E_X0_least n k tw S (nI (24 - d)) (nI x)) (fun r => r.1 = nI (chOpt W V q t d x) ∧ Df (Xc 161) S r.2 ∧ ChJ W V q t r.2) := by
  have hm1 : W 0 1 ≤ 10 := hW.mx (k := 1) (by decide)
  have hpow : 2 ^ W 0 1 ≤ 2 ^ 10 := Nat.pow_le_pow_right (by decide) hm1
  intro d
  induction d with
  | zero =>
    intro k S x _ hk hx hC hJ
    obtain ⟨k, rfl⟩ : ∃ k', k = k' + 1 := ⟨k - 1, by omega⟩
    unfold E_X0_least
    rw [hJ.1]
    apply Ok.step (c_hasBit (by omega))
    rw [bt_nI _ _ (by omega)]
    by_cases c1 : x.testBit q = true
    · rw [c1]
      refine Ok.ifF (by decide) (Ok.ret ⟨?_, Df.refl _ _, hJ⟩)
      rw [chOpt, if_pos c1]; rfl
    · have c2 : x.testBit q = false := by simpa using c1
      rw [c2]
      refine Ok.ifT rfl (Ok.ifF (nI_nlt (b := 24) (by omega) (by omega)) (Ok.ret ⟨?_, Df.refl _ _, hJ⟩))
      rw [chOpt, if_neg c1]; rfl
  | succ d ih =>
    intro k S x hd hk hx hC hJ
    obtain ⟨k, rfl⟩ : ∃ k', k = k' + 1 := ⟨k - 1, by omega⟩
    unfold E_X0_least
    rw [hJ.1]
    apply Ok.step (c_hasBit (by omega))
    rw [bt_nI _ _ (by omega)]
    by_cases c1 : x.testBit q = true
    · rw [c1]
      refine Ok.ifF (by decide) (Ok.ret ⟨?_, Df.refl _ _, hJ⟩)
      rw [chOpt, if_pos c1]; rfl
    · have c2 : x.testBit q = false := by simpa using c1
      rw [c2]
      refine Ok.ifT rfl (Ok.ifT (nI_lt (b := 24) (by omega) (by decide)) ?_)
      have e23 : 23 - (24 - (d + 1)) = d := by omega
      obtain ⟨⟨v, S1⟩, e1, e2, d1, j1⟩ := c_entry (V := V) (tw := tw) (q := q) (t := t) (h := 24 - (d + 1)) (El := E_X0_least n k tw) hC hW hn (by omega) hx ht hJ (by
        intro S' y hC' hy hJ'
        rw [e23, show 24 - (d + 1) + 1 = 24 - d by omega]
        exact ih k S' y (by omega) (by omega) hy hC' hJ')
      dsimp only at e2 d1 j1
      subst e2
      apply Ok.step e1
      have ex : chEn W V q t (24 - (d + 1)) x = chEnt W V t (chOpt W V q t d) (23 - d) x (W 0 1) := by
        unfold chEn
        rw [e23, show 24 - (d + 1) = 23 - d by omega]
      refine Ok.gdT (by decide) (Ok.ret ⟨?_, d1, j1⟩)
      dsimp only
      rw [chOpt, if_neg c1, ex]
      have a1 := chEnt_le (W := W) (V := V) (t := t) (f := chOpt W V q t d) (h := 23 - d) (x := x) (chOpt_le d x) (W 0 1)
      exact nI_divN (b := 2048) (by omega) (by decide)
end CHL
