/-! ===== the rule, by the reference: one villager, the day ===== -/
section RU3
variable {W : VW} {V : VL} {tw en sd : Nat} {P : PL} {N : Nat} {H : HL} {n : Nat} {S : ST}
theorem wBest_noland {F : FT2} {h p : Nat} (g0 : ¬ 0 < W 0 0) {i : Nat} : wBest (wChG W V F h p) i = (0, 0) := by
  apply wBest_zero
  intro j hj
  have hon : ∀ q, wOn W nD q = false := fun q => by simp [wOn, nD]; omega
  have : wChP W V h p j = fun _ => false := by
    funext q
    unfold wChP
    split
    · simp [wHear, hon q]
    · simp [wStand, hon q]
  rw [wChG, wGain_eq, this, wGn_none]
  split <;> rfl
theorem r_tellsMost {h p : Nat} {Z : RS} (hR : RRep W sd S) (hL : RLw V W sd S) (hW : WF W) (hn : 30000 ≤ n) (hD : S.1 95 61 = 0) (hK : ∀ j, j ≤ h + 1 → KRow S (W 0 1) j (fun p t => decide (Z.1 p t ≤ j))) (e1 : S.1 95 82 = nI Z.2.1) (e2 : S.1 95 83 = nI Z.2.2) (hp : p < W 0 1) (hh : h < 24) :
    Ok (E_X12_tellsMost n S (nI p) (nI h)) (fun S' => Df XRr S S' ∧ (∀ j, j ≤ h + 1 → KRow S' (W 0 1) j (fun q t => decide ((ruOne W V h p Z).1 q t ≤ j))) ∧ (∀ j, h + 1 < j → ∀ L, KRow S (W 0 1) j L → KRow S' (W 0 1) j L) ∧ S'.1 95 82 = nI (ruOne W V h p Z).2.1 ∧ S'.1 95 83 = nI (ruOne W V h p Z).2.2) := by
  have hm1 : W 0 1 ≤ 10 := hW.mx (k := 1) (by decide)
  have hm0 : W 0 0 ≤ 6 := hW.mx (k := 0) (by decide)
  have hm2 : W 0 2 ≤ 6 := hW.mx (k := 2) (by decide)
  have hm7 : W 0 7 ≤ 6 := hW.mx (k := 7) (by decide)
  have hsd := hR.1
  have eD0 : bt (S.1 95 61) = nD := by rw [hD, bt0]
  have zero : ∀ S', Df XTl S S' → (wBest (wChG W V Z.1 h p) (W 0 2 + W 0 7)).1 = 0 → (Df XRr S S' ∧ (∀ j, j ≤ h + 1 → KRow S' (W 0 1) j (fun q t => decide ((ruOne W V h p Z).1 q t ≤ j))) ∧ (∀ j, h + 1 < j → ∀ L, KRow S (W 0 1) j L → KRow S' (W 0 1) j L) ∧ S'.1 95 82 = nI (ruOne W V h p Z).2.1 ∧ S'.1 95 83 = nI (ruOne W V h p Z).2.2) := by
    intro S' d z
    have er : ruOne W V h p Z = Z := by unfold ruOne; rw [if_neg (by omega)]
    rw [er]
    exact ⟨XTl_XRr d, fun j hj => (hK j hj).df d (fun j => rfl), fun j _ L hL => hL.df d (fun j => rfl), by rw [d.2 _ _ rfl]; exact e1, by rw [d.2 _ _ rfl]; exact e2⟩
  unfold E_X12_tellsMost
  have hpl := r_placeOf hR hW hn hp (h := h) (by omega)
  rw [eD0] at hpl
  apply Ok.step hpl
  by_cases g0 : 0 < W 0 0
  case neg =>
    have c : ¬ wOn W nD p = true := by simp [wOn, nD]; omega
    rw [if_neg c]
    refine Ok.ifF (by decide) (Ok.ret (zero S (Df.refl _ _) ?_))
    rw [wBest_noland g0]
  have c : wOn W nD p = true := by simp [wOn, nD, g0]
  have hlt := wPl_lt hW g0 p h
  rw [if_pos c]
  refine Ok.ifT (nI_pos' (by omega)) ?_
  apply Ok.letsU
  generalize hg : wChG W V Z.1 h p = g
  have hble : ∀ i, i ≤ W 0 2 + W 0 7 → (wBest g i).1 ≤ 1200 := fun i hi => by rw [← hg]; exact wBest_le hW hi
  generalize hS1 : upI S 95 84 0 = S1
  have d1 : Df XTl S S1 := by rw [← hS1]; exact (Df.refl _ _).up rfl
  have hB1 : BstR W V h p (0, 0) S1 := ⟨by rw [← hS1, upI_at, if_pos ⟨rfl, rfl⟩]; rfl, fun z => absurd z (Nat.lt_irrefl 0)⟩
  refine bindL (fun o q => q.1 = nI o ∧ Df XTl S q.2 ∧ BstR W V h p (if anyN (fun o => wMay W V nD p o h 0) o = true then wBest g (W 0 2) else (0, 0)) q.2) (fun S' => Df XTl S S' ∧ BstR W V h p (wBest g (W 0 2)) S') 0 (W 0 1) (Nat.zero_le _) (by omega) ⟨rfl, d1, hB1⟩ ?_ ?_ ?_
  · rintro o ⟨y, S2⟩ _ ho ⟨rfl, d2, hB2⟩
    dsimp only at d2 hB2 ⊢
    have hR2 : RRep W sd S2 := hR.df d2 (fun a j hx => nx_Tl (by omega))
    have hL2 : RLw V W sd S2 := hL.df d2 (fun a j hx => nx_Tl (by simp only [lawC, decide_eq_true_eq] at hx; omega))
    have eD : bt (S2.1 95 61) = nD := by rw [d2.2 _ _ rfl, hD, bt0]
    apply Ok.step (r_h1 hR2)
    refine Ok.ifF (by simp (disch := omega) only [↓reduceIte, Option.bind_some, jn, lets, Sum.elim_inl, Sum.elim_inr, if_true, if_false, rd_nI, wr_nI, rd_z, rd_o, wr_z, wr_o, nI_1, nI_add, pk_mul, nI_leI, nI_ltI, nI_eq, z_le, le_z, z_lt, lt_z, eq_z, eq_o, le_o, o_le, lt_o, o_lt, eq_m1, eq_m2, m1_eq, m2_eq, m1_lt, m1_le, o_z, z_o, m1_z, m1_o, m2_z, m2_o, m2_m1, z_lz, z_lo, o_lz, o_ez, z_ez, z_eo, m2_lt, m2_le, leF, leT, ltF, ltT, eqF, eqT, bI_z, bI_o, sh1, sh0, not_true_eq_false, not_false_eq_true, ne_eq, Bool.true_eq_false, Bool.false_eq_true, true_and, and_true, false_and, and_false, l_2, l_3, l_4, l_5, l_6, l_7, l_8, l_9, l_10, l_11, l_12, l_13, l_14, l_15, l_16, l_17, l_18, l_19, l_20, l_21, l_22, l_23, l_24, l_25, l_26, l_27, l_28, l_29, l_30, l_32, l_33, l_34, l_35, l_36, l_37, l_38, l_39, l_50, l_60, l_99, l_100, l_150, l_160, l_240, l_250, l_300, l_400, l_402, l_403, l_420, l_500, l_600, l_840, l_1000, l_1024, l_2000, l_2047, l_2048, l_10000, l_25600, l_500000]) ?_
    obtain ⟨⟨v, S3⟩, e3, h3, d3⟩ := r_may0 hR2 hW hL2 hn hp ho (h := h) (by omega)
    dsimp only at h3 d3
    rw [eD] at h3
    have h4 : v = bI (wMay W V nD p o h 0) := h3
    subst h4
    apply Ok.step e3
    apply Ok.jnU
    have d3' : Df XTl S S3 := d2.trans (XM_XTl d3)
    have hB3 := hB2.df (XM_XTl d3) (S' := S3)
    have hB4 : BstR W V h p (if anyN (fun o => wMay W V nD p o h 0) o = true then wBest g (W 0 2) else (0, 0)) S3 := hB2.df d3 (fun j h1 h2 => by
      simp only [XM, Bool.or_eq_false_iff, Bool.and_eq_false_iff, beq_eq_false_iff_ne]
      omega)
    clear hB3
    by_cases cm : wMay W V nD p o h 0 = true
    case neg =>
      simp only [Bool.not_eq_true] at cm
      rw [cm]
      refine Ok.ifT rfl (Ok.inl ⟨nI_1 _, d3', ?_⟩)
      rw [anyN, cm, Bool.or_false]
      exact hB4
    rw [cm]
    refine Ok.ifF (show ¬ bI true = 0 by decide) ?_
    have hs : wSpk W V p h = true := anyN_iff.mpr ⟨o, ho, cm⟩
    have ea : anyN (fun o => wMay W V nD p o h 0) (o + 1) = true := by rw [anyN, cm, Bool.or_true]
    by_cases c0 : anyN (fun o => wMay W V nD p o h 0) o = true
    · rw [if_pos c0] at hB4
      refine r_things (V := V) (F := Z.1) (f := fun _ => wBest g (W 0 2)) hR hW hn hD hK hp g0 hh hs d3' (fun t ht => ?_) (fun _ => hble _ (by omega)) hB4 (fun S' d' hB' => Ok.inl ⟨nI_1 _, d', ?_⟩)
      · have := wBest_ge (g := g) ht
        rw [hg, if_neg (by omega)]
      · rw [if_pos ea]; exact hB'
    · rw [if_neg c0] at hB4
      refine r_things (V := V) (F := Z.1) (f := fun t => wBest g (min t (W 0 2))) hR hW hn hD hK hp g0 hh hs d3' (fun t ht => ?_) (fun t => hble _ (by omega)) hB4 (fun S' d' hB' => Ok.inl ⟨nI_1 _, d', ?_⟩)
      · rw [show min (t + 1) (W 0 2) = t + 1 by omega, show min t (W 0 2) = t by omega, hg, wBest_step]
      · rw [if_pos ea]
        rw [Nat.min_self] at hB'
        exact hB'
  · rintro ⟨y, S2⟩ ⟨rfl, d2, hB2⟩
    dsimp only at d2 hB2 ⊢
    have hR2 : RRep W sd S2 := hR.df d2 (fun a j hx => nx_Tl (by omega))
    apply Ok.step (r_h1 hR2)
    refine Ok.ifT (by simp (disch := omega) only [↓reduceIte, Option.bind_some, jn, lets, Sum.elim_inl, Sum.elim_inr, if_true, if_false, rd_nI, wr_nI, rd_z, rd_o, wr_z, wr_o, nI_1, nI_add, pk_mul, nI_leI, nI_ltI, nI_eq, z_le, le_z, z_lt, lt_z, eq_z, eq_o, le_o, o_le, lt_o, o_lt, eq_m1, eq_m2, m1_eq, m2_eq, m1_lt, m1_le, o_z, z_o, m1_z, m1_o, m2_z, m2_o, m2_m1, z_lz, z_lo, o_lz, o_ez, z_ez, z_eo, m2_lt, m2_le, leF, leT, ltF, ltT, eqF, eqT, bI_z, bI_o, sh1, sh0, not_true_eq_false, not_false_eq_true, ne_eq, Bool.true_eq_false, Bool.false_eq_true, true_and, and_true, false_and, and_false, l_2, l_3, l_4, l_5, l_6, l_7, l_8, l_9, l_10, l_11, l_12, l_13, l_14, l_15, l_16, l_17, l_18, l_19, l_20, l_21, l_22, l_23, l_24, l_25, l_26, l_27, l_28, l_29, l_30, l_32, l_33, l_34, l_35, l_36, l_37, l_38, l_39, l_50, l_60, l_99, l_100, l_150, l_160, l_240, l_250, l_300, l_400, l_402, l_403, l_420, l_500, l_600, l_840, l_1000, l_1024, l_2000, l_2047, l_2048, l_10000, l_25600, l_500000]) (Ok.inr ⟨d2, ?_⟩)
    cases cs : wSpk W V p h
    · have e0 : anyN (fun o => wMay W V nD p o h 0) (W 0 1) = false := cs
      rw [e0, if_neg (by decide)] at hB2
      rw [← hg, wBest_low cs]
      exact hB2
    · have e0 : anyN (fun o => wMay W V nD p o h 0) (W 0 1) = true := cs
      rw [e0, if_pos rfl] at hB2
      exact hB2
  rintro S2 ⟨d2, hB2⟩
  refine bindL (fun i q => q.1 = nI i ∧ Df XTl S q.2 ∧ BstR W V h p (wBest g (W 0 2 + i)) q.2) (fun S' => Df XTl S S' ∧ BstR W V h p (wBest g (W 0 2 + W 0 7)) S') 0 (W 0 7) (Nat.zero_le _) (by omega) ⟨rfl, d2, hB2⟩ ?_ ?_ ?_
  · rintro i ⟨y, S3⟩ _ hi ⟨rfl, d3, hB3⟩
    dsimp only at d3 hB3 ⊢
    have hR3 : RRep W sd S3 := hR.df d3 (fun a j hx => nx_Tl (by omega))
    have hK3 : ∀ j, j ≤ h + 1 → KRow S3 (W 0 1) j (fun p t => decide (Z.1 p t ≤ j)) := fun j hj => (hK j hj).df d3 (fun j => rfl)
    have eD : bt (S3.1 95 61) = nD := by rw [d3.2 _ _ rfl, hD, bt0]
    have hni : ¬ W 0 2 + i < W 0 2 := by omega
    have hsi : W 0 2 + i - W 0 2 = i := by omega
    have hta := (hW.2.2.2.2.2.2.2.1 i hi).1
    have eT : wChT W (W 0 2 + i) = W 15 i := by rw [wChT, if_neg hni, hsi]
    have hv : g (W 0 2 + i) = if Z.1 p (W 15 i) ≤ h then wGn W Z.1 h (W 15 i) (wChP W V h p (W 0 2 + i)) (W 0 6) else 0 := by rw [← hg, wChG, wGain_eq, eT]
    apply Ok.step (r_h7 hR3)
    refine Ok.ifF (by simp (disch := omega) only [↓reduceIte, Option.bind_some, jn, lets, Sum.elim_inl, Sum.elim_inr, if_true, if_false, rd_nI, wr_nI, rd_z, rd_o, wr_z, wr_o, nI_1, nI_add, pk_mul, nI_leI, nI_ltI, nI_eq, z_le, le_z, z_lt, lt_z, eq_z, eq_o, le_o, o_le, lt_o, o_lt, eq_m1, eq_m2, m1_eq, m2_eq, m1_lt, m1_le, o_z, z_o, m1_z, m1_o, m2_z, m2_o, m2_m1, z_lz, z_lo, o_lz, o_ez, z_ez, z_eo, m2_lt, m2_le, leF, leT, ltF, ltT, eqF, eqT, bI_z, bI_o, sh1, sh0, not_true_eq_false, not_false_eq_true, ne_eq, Bool.true_eq_false, Bool.false_eq_true, true_and, and_true, false_and, and_false, l_2, l_3, l_4, l_5, l_6, l_7, l_8, l_9, l_10, l_11, l_12, l_13, l_14, l_15, l_16, l_17, l_18, l_19, l_20, l_21, l_22, l_23, l_24, l_25, l_26, l_27, l_28, l_29, l_30, l_32, l_33, l_34, l_35, l_36, l_37, l_38, l_39, l_50, l_60, l_99, l_100, l_150, l_160, l_240, l_250, l_300, l_400, l_402, l_403, l_420, l_500, l_600, l_840, l_1000, l_1024, l_2000, l_2047, l_2048, l_10000, l_25600, l_500000]) ?_
    apply Ok.step (x := nI (W 15 i)) (by simp (disch := omega) only [↓reduceIte, Option.bind_some, jn, lets, Sum.elim_inl, Sum.elim_inr, if_true, if_false, rd_nI, wr_nI, rd_z, rd_o, wr_z, wr_o, nI_1, nI_add, pk_mul, nI_leI, nI_ltI, nI_eq, z_le, le_z, z_lt, lt_z, eq_z, eq_o, le_o, o_le, lt_o, o_lt, eq_m1, eq_m2, m1_eq, m2_eq, m1_lt, m1_le, o_z, z_o, m1_z, m1_o, m2_z, m2_o, m2_m1, z_lz, z_lo, o_lz, o_ez, z_ez, z_eo, m2_lt, m2_le, leF, leT, ltF, ltT, eqF, eqT, bI_z, bI_o, sh1, sh0, not_true_eq_false, not_false_eq_true, ne_eq, Bool.true_eq_false, Bool.false_eq_true, true_and, and_true, false_and, and_false, l_2, l_3, l_4, l_5, l_6, l_7, l_8, l_9, l_10, l_11, l_12, l_13, l_14, l_15, l_16, l_17, l_18, l_19, l_20, l_21, l_22, l_23, l_24, l_25, l_26, l_27, l_28, l_29, l_30, l_32, l_33, l_34, l_35, l_36, l_37, l_38, l_39, l_50, l_60, l_99, l_100, l_150, l_160, l_240, l_250, l_300, l_400, l_402, l_403, l_420, l_500, l_600, l_840, l_1000, l_1024, l_2000, l_2047, l_2048, l_10000, l_25600, l_500000, t_sd hR3, t_122 hR3])
    apply Ok.step (r_knowsIt (hK3 h (by omega)) hm1 hp (by omega) (by omega))
    apply Ok.jnU
    by_cases cc : Z.1 p (W 15 i) ≤ h
    · rw [decide_eq_true cc]
      refine Ok.ifF (by decide) ?_
      have hcr := r_crowdAt (x := wPl W p h) hR3 hW hn (by omega) (h := h) (by omega)
      rw [eD] at hcr
      apply Ok.step hcr
      apply Ok.step (x := nI (W 16 i)) (by simp (disch := omega) only [↓reduceIte, Option.bind_some, jn, lets, Sum.elim_inl, Sum.elim_inr, if_true, if_false, rd_nI, wr_nI, rd_z, rd_o, wr_z, wr_o, nI_1, nI_add, pk_mul, nI_leI, nI_ltI, nI_eq, z_le, le_z, z_lt, lt_z, eq_z, eq_o, le_o, o_le, lt_o, o_lt, eq_m1, eq_m2, m1_eq, m2_eq, m1_lt, m1_le, o_z, z_o, m1_z, m1_o, m2_z, m2_o, m2_m1, z_lz, z_lo, o_lz, o_ez, z_ez, z_eo, m2_lt, m2_le, leF, leT, ltF, ltT, eqF, eqT, bI_z, bI_o, sh1, sh0, not_true_eq_false, not_false_eq_true, ne_eq, Bool.true_eq_false, Bool.false_eq_true, true_and, and_true, false_and, and_false, l_2, l_3, l_4, l_5, l_6, l_7, l_8, l_9, l_10, l_11, l_12, l_13, l_14, l_15, l_16, l_17, l_18, l_19, l_20, l_21, l_22, l_23, l_24, l_25, l_26, l_27, l_28, l_29, l_30, l_32, l_33, l_34, l_35, l_36, l_37, l_38, l_39, l_50, l_60, l_99, l_100, l_150, l_160, l_240, l_250, l_300, l_400, l_402, l_403, l_420, l_500, l_600, l_840, l_1000, l_1024, l_2000, l_2047, l_2048, l_10000, l_25600, l_500000, t_sd hR3, t_123 hR3])
      obtain ⟨S4, e4, d4, hB4⟩ := r_offers (V := V) (F := Z.1) (j := W 0 2 + i) (cst := nI (W 16 i)) (x := bs (wStand W nD (wPl W p h) h) (W 0 1)) hR3 hW hn (hK3 (h + 1) (Nat.le_refl _)) hta hh hB3 (hble _ (by omega)) (bs_congr (fun q _ => by rw [wChP, if_neg hni])) eT (by rw [wChC, if_neg hni, hsi])
      apply Ok.step e4
      refine Ok.inl ⟨nI_1 _, d3.trans d4, ?_⟩
      rw [← Nat.add_assoc, wBest_step, hv, if_pos cc]
      exact hB4
    · rw [decide_eq_false cc]
      refine Ok.ifT rfl (Ok.inl ⟨nI_1 _, d3, ?_⟩)
      rw [← Nat.add_assoc, wBest_step, hv, if_neg cc, if_neg (Nat.not_lt_zero _)]
      exact hB3
  · rintro ⟨y, S3⟩ ⟨rfl, d3, hB3⟩
    dsimp only at d3 hB3 ⊢
    have hR3 : RRep W sd S3 := hR.df d3 (fun a j hx => nx_Tl (by omega))
    apply Ok.step (r_h7 hR3)
    exact Ok.ifT (by simp (disch := omega) only [↓reduceIte, Option.bind_some, jn, lets, Sum.elim_inl, Sum.elim_inr, if_true, if_false, rd_nI, wr_nI, rd_z, rd_o, wr_z, wr_o, nI_1, nI_add, pk_mul, nI_leI, nI_ltI, nI_eq, z_le, le_z, z_lt, lt_z, eq_z, eq_o, le_o, o_le, lt_o, o_lt, eq_m1, eq_m2, m1_eq, m2_eq, m1_lt, m1_le, o_z, z_o, m1_z, m1_o, m2_z, m2_o, m2_m1, z_lz, z_lo, o_lz, o_ez, z_ez, z_eo, m2_lt, m2_le, leF, leT, ltF, ltT, eqF, eqT, bI_z, bI_o, sh1, sh0, not_true_eq_false, not_false_eq_true, ne_eq, Bool.true_eq_false, Bool.false_eq_true, true_and, and_true, false_and, and_false, l_2, l_3, l_4, l_5, l_6, l_7, l_8, l_9, l_10, l_11, l_12, l_13, l_14, l_15, l_16, l_17, l_18, l_19, l_20, l_21, l_22, l_23, l_24, l_25, l_26, l_27, l_28, l_29, l_30, l_32, l_33, l_34, l_35, l_36, l_37, l_38, l_39, l_50, l_60, l_99, l_100, l_150, l_160, l_240, l_250, l_300, l_400, l_402, l_403, l_420, l_500, l_600, l_840, l_1000, l_1024, l_2000, l_2047, l_2048, l_10000, l_25600, l_500000]) (Ok.inr ⟨d3, hB3⟩)
  rintro S3 ⟨d3, hB3⟩
  have b1 := hble (W 0 2 + W 0 7) (Nat.le_refl _)
  by_cases cc : 0 < (wBest g (W 0 2 + W 0 7)).1
  case neg =>
    refine Ok.ifT ?_ (Ok.ret (zero S3 d3 (by rw [hg]; omega)))
    rw [hB3.1, show (wBest g (W 0 2 + W 0 7)).1 = 0 by omega]; rfl
  obtain ⟨k1, k2, k3⟩ := hB3.2 cc
  obtain ⟨hbi, _⟩ := wBest_lt cc
  have hR3 : RRep W sd S3 := hR.df d3 (fun a j hx => nx_Tl (by omega))
  refine Ok.ifF (by rw [hB3.1]; simp (disch := omega) only [↓reduceIte, Option.bind_some, jn, lets, Sum.elim_inl, Sum.elim_inr, if_true, if_false, rd_nI, wr_nI, rd_z, rd_o, wr_z, wr_o, nI_1, nI_add, pk_mul, nI_leI, nI_ltI, nI_eq, z_le, le_z, z_lt, lt_z, eq_z, eq_o, le_o, o_le, lt_o, o_lt, eq_m1, eq_m2, m1_eq, m2_eq, m1_lt, m1_le, o_z, z_o, m1_z, m1_o, m2_z, m2_o, m2_m1, z_lz, z_lo, o_lz, o_ez, z_ez, z_eo, m2_lt, m2_le, leF, leT, ltF, ltT, eqF, eqT, bI_z, bI_o, sh1, sh0, not_true_eq_false, not_false_eq_true, ne_eq, Bool.true_eq_false, Bool.false_eq_true, true_and, and_true, false_and, and_false, l_2, l_3, l_4, l_5, l_6, l_7, l_8, l_9, l_10, l_11, l_12, l_13, l_14, l_15, l_16, l_17, l_18, l_19, l_20, l_21, l_22, l_23, l_24, l_25, l_26, l_27, l_28, l_29, l_30, l_32, l_33, l_34, l_35, l_36, l_37, l_38, l_39, l_50, l_60, l_99, l_100, l_150, l_160, l_240, l_250, l_300, l_400, l_402, l_403, l_420, l_500, l_600, l_840, l_1000, l_1024, l_2000, l_2047, l_2048, l_10000, l_25600, l_500000]) ?_
  rw [k1, k2]
  generalize hb : (wBest g (W 0 2 + W 0 7)).2 = bi at *
  have er : ruOne W V h p Z = (fun q t => if wChP W V h p bi q = true ∧ t = wChT W bi ∧ h + 1 < Z.1 q t then h + 1 else Z.1 q t, Z.2.1 + wChC W bi, Z.2.2 + 1) := by unfold ruOne; rw [hg, if_pos cc, hb]
  rw [er]
  have htb := wChT_lt hW hbi
  apply Ok.step (r_learn hR3 hW hn hh)
  apply Ok.letsU
  apply Ok.letsU
  generalize hS4 : setC S3 144 (lrnF S3 (bs (wChP W V h p bi) (W 0 1)) ((1 : Int32) <<< (nI (wChT W bi) &&& 31)) h (W 0 1)) = S4
  have o : ∀ j, S4.1 95 j = S3.1 95 j := fun j => by rw [← hS4]; exact (Xc_set (a := 144)).2 95 j rfl
  have d4 : Df (Xc 144) S3 S4 := by rw [← hS4]; exact Xc_set
  have hK3 : ∀ j, j ≤ h + 1 → KRow S3 (W 0 1) j (fun p t => decide (Z.1 p t ≤ j)) := fun j hj => (hK j hj).df d3 (fun j => rfl)
  refine Ok.ret ⟨?_, ?_, ?_, ?_, ?_⟩
  · refine (((XTl_XRr d3).trans (d4.mono (fun a j hx => ?_))).up rfl).up rfl
    simp only [XRr, Bool.or_eq_false_iff, beq_eq_false_iff_ne] at hx
    simp only [Xc, beq_eq_false_iff_ne]
    exact hx.2.1
  · intro j hj
    refine KRow.df (X := fun a j => a == 95) ?_ (((Df.refl _ _).up rfl).up rfl) (fun _ => rfl)
    rw [← hS4]
    by_cases ej : j = h + 1
    · subst ej
      refine (hK3 (h + 1) (Nat.le_refl _)).learn (fun q t hq ht => ?_) (fun q t hq ht => ?_)
      · rw [bt_bit (by omega)] at ht
        simp only [decide_eq_true_eq] at ht
        omega
      · rw [bt_lt (by omega) hq, bt_bit (by omega)]
        dsimp only
        by_cases c1 : wChP W V h p bi q = true ∧ t = wChT W bi ∧ h + 1 < Z.1 q t
        · simp only [if_pos c1]; simp [c1.1, c1.2.1]
        · simp only [if_neg c1]
          by_cases c2 : Z.1 q t ≤ h + 1
          · simp [c2]
          · have c3 : (wChP W V h p bi q && decide (t = wChT W bi)) = false := by
              rw [Bool.and_eq_false_iff, decide_eq_false_iff_not]
              cases c4 : wChP W V h p bi q
              · exact Or.inl rfl
              · exact Or.inr (fun z => c1 ⟨c4, z, by omega⟩)
            rw [c3, Bool.or_false]
    · refine ((hK3 j hj).keep hm1 ej).congr (fun q t hq ht => ?_)
      congr 1
      dsimp only
      by_cases c1 : wChP W V h p bi q = true ∧ t = wChT W bi ∧ h + 1 < Z.1 q t
      · rw [if_pos c1]
        apply propext
        omega
      · rw [if_neg c1]
  · intro j hj L hL
    refine KRow.df (X := fun a j => a == 95) ?_ (((Df.refl _ _).up rfl).up rfl) (fun _ => rfl)
    rw [← hS4]
    exact (hL.df d3 (fun j => rfl)).keep hm1 (by omega)
  · rw [upI_at, if_neg (by omega), upI_at, if_pos ⟨rfl, rfl⟩, o, o, k3, d3.2 _ _ rfl, e1, nI_add]
  · rw [upI_at, if_pos ⟨rfl, rfl⟩, upI_at, if_neg (by omega), o, d3.2 _ _ rfl, e2, nI_1]
end RU3
